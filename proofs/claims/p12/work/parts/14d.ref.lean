set_option maxRecDepth 100000
set_option maxHeartbeats 4000000
theorem dX11_isDot_k0 : ((((dD cX11_isDot 0 (.aload_n 0) 1 ∧ dD cX11_isDot 1 (.getfield 26) 3) ∧ (dD cX11_isDot 4 (.bipush 8) 2 ∧ dD cX11_isDot 6 (.iload_n 1) 1)) ∧ ((dD cX11_isDot 7 .iadd 1 ∧ dD cX11_isDot 8 .iaload 1) ∧ (dD cX11_isDot 9 (.iload_n 2) 1 ∧ dD cX11_isDot 10 (.if_icmp .ne 7) 3))) ∧ (((dD cX11_isDot 13 (.iconst 1) 1 ∧ dD cX11_isDot 14 (.goto 4) 3) ∧ (dD cX11_isDot 17 (.iconst 0) 1 ∧ dD cX11_isDot 18 (.istore_n 3) 1)) ∧ ((dD cX11_isDot 19 (.iconst 0) 1 ∧ dD cX11_isDot 20 (.istore 4) 2) ∧ (dD cX11_isDot 22 (.iload 4) 2 ∧ dD cX11_isDot 24 (.aload_n 0) 1)))) := dkA16 (by decide +kernel)
theorem dX11_isDot_k1 : ((((dD cX11_isDot 25 (.getfield 20) 3 ∧ dD cX11_isDot 28 (.bipush 8) 2) ∧ (dD cX11_isDot 30 .iaload 1 ∧ dD cX11_isDot 31 (.if_icmp .ge 49) 3)) ∧ ((dD cX11_isDot 34 (.iload_n 3) 1 ∧ dD cX11_isDot 35 (.ifCond .ne 33) 3) ∧ (dD cX11_isDot 38 (.aload_n 0) 1 ∧ dD cX11_isDot 39 (.getfield 20) 3))) ∧ (((dD cX11_isDot 42 (.bipush 44) 2 ∧ dD cX11_isDot 44 (.iconst 3) 1) ∧ (dD cX11_isDot 45 (.iload 4) 2 ∧ dD cX11_isDot 47 .imul 1)) ∧ ((dD cX11_isDot 48 .iadd 1 ∧ dD cX11_isDot 49 .iaload 1) ∧ (dD cX11_isDot 50 (.iload_n 1) 1 ∧ dD cX11_isDot 51 (.if_icmp .ne 21) 3)))) := dkA16 (by decide +kernel)
theorem dX11_isDot_k2 : ((((dD cX11_isDot 54 (.aload_n 0) 1 ∧ dD cX11_isDot 55 (.getfield 26) 3) ∧ (dD cX11_isDot 58 (.bipush 16) 2 ∧ dD cX11_isDot 60 (.iload 4) 2)) ∧ ((dD cX11_isDot 62 .iadd 1 ∧ dD cX11_isDot 63 .iaload 1) ∧ (dD cX11_isDot 64 (.iload_n 2) 1 ∧ dD cX11_isDot 65 (.if_icmp .ne 7) 3))) ∧ (((dD cX11_isDot 68 (.iconst 1) 1 ∧ dD cX11_isDot 69 (.goto 4) 3) ∧ (dD cX11_isDot 72 (.iconst 0) 1 ∧ dD cX11_isDot 73 (.istore_n 3) 1)) ∧ ((dD cX11_isDot 74 (.iinc 4 1) 3 ∧ dD cX11_isDot 77 (.goto (-55)) 3) ∧ (dD cX11_isDot 80 (.iload_n 3) 1 ∧ dD cX11_isDot 81 .ireturn 1)))) := dkA16 (by decide +kernel)
set_option maxHeartbeats 4000000 in
set_option maxRecDepth 100000 in
theorem m_isDot (l : Launch) (g : Gx) (h0 : Nat) (p0 : Int32) (p1 : Int32) (m_thrown : Int32) (a_tape : Nat) (m_taped : Int32) (m_size : Int32) (m_at : Int32) (m_end : Int32) (m_token : Int32) (m_whole : Int32) (m_nameSize : Int32) (m_fault : Int32) (m_place : Int32) (m_trouble : Int32) (a_letters : Nat) (m_failed : Int32) (m_hasHouse : Int32) (a_r : Nat) (a_fresh : Nat) (a_st : Nat) (a_undone : Nat) (a_kept : Nat) (m_undos : Int32) (m_images : Int32) (a_from : Nat) (a_begin : Nat) (a_motor : Nat) (a_change : Nat) (a_startFrame : Nat) (a_changeFrame : Nat) (a_lostAt : Nat) (a_blackAt : Nat) (a_slips : Nat) (a_leftArc : Nat) (a_died : Nat) (a_arcs : Nat) (m_bestSum : Int32) (m_nearest : Int32) (m_nearestTown : Int32) (a_there : Nat) (a_backAt : Nat) (a_sorted : Nat) (a_parts : Nat) (m_seed1 : Int32) (m_darkNow : Int32) (d_r : Nat → Int32) (d_st : Nat → Int32) (hv_p0 : IV p0 0 7) (hp_d_r : RInv d_r) : cI l g yX11_isDot cX11_isDot 5 (some .boolean) 0 0 0 0 [.ref h0, .int p0, .int p1] [(cO11_i1r1i10r1i2r5i2r12i3r4i2 h0 m_thrown a_tape m_taped m_size m_at m_end m_token m_whole m_nameSize m_fault m_place m_trouble a_letters m_failed m_hasHouse a_r a_fresh a_st a_undone a_kept m_undos m_images a_from a_begin a_motor a_change a_startFrame a_changeFrame a_lostAt a_blackAt a_slips a_leftArc a_died a_arcs m_bestSum m_nearest m_nearestTown a_there a_backAt a_sorted a_parts m_seed1 m_darkNow), (cAI g a_r 311 d_r), (cAI g a_st 44 d_st)] (fun r w => IV r 0 1 ∧ w = [(cO11_i1r1i10r1i2r5i2r12i3r4i2 h0 m_thrown a_tape m_taped m_size m_at m_end m_token m_whole m_nameSize m_fault m_place m_trouble a_letters m_failed m_hasHouse a_r a_fresh a_st a_undone a_kept m_undos m_images a_from a_begin a_motor a_change a_startFrame a_changeFrame a_lostAt a_blackAt a_slips a_leftArc a_died a_arcs m_bestSum m_nearest m_nearestTown a_there a_backAt a_sorted a_parts m_seed1 m_darkNow), (cAI g a_r 311 d_r), (cAI g a_st 44 d_st)]) := by
  refine cI.of (by decide) (Nat.le_of_ble_eq_true rfl) ?_
  intro p e s m args below meth c A X hr hi
  refine k_lveq [(0, .ref h0), (1, .int p0), (2, .int p1)] rfl ?_
  refine k_aload_n X dX11_isDot_k0.1.1.1.1 0 rfl ?_
  refine k_get (ci := 11) X inlX11 rfl 17 (nlt_e rfl) dX11_isDot_k0.1.1.1.2 mw172 0 rfl rfl ?_
  refine k_bipush (v := 8) X dX11_isDot_k0.1.1.2.1 bi_8 ?_
  refine k_iload_n X dX11_isDot_k0.1.1.2.2 1 rfl ?_
  refine k_iadd X dX11_isDot_k0.1.2.1.1 ?_
  refine k_nm (fun z_1 ez_1 => ?_)
  have i_2 : z_1.toInt = 8 + p0.toInt := in_add ez_1 iq_8_8_8 hv_p0 (zle_e rfl) (zle_e rfl)
  have iv_3 : IV z_1 8 15 := iz2 i_2 hv_p0 (zle_e rfl) (zle_e rfl)
  refine k_iald X dX11_isDot_k0.1.2.1.2 2 rfl (iv_in iv_3 (zle_e rfl) (zle_l rfl)) ?_
  refine k_nm (fun z_4 ez_4 => ?_)
  refine k_iload_n X dX11_isDot_k0.1.2.2.1 2 rfl ?_
  refine k_ic_ne 17 X dX11_isDot_k0.1.2.2.2 (jp_e rfl) (fun h_5 => ?_) (fun h_5 => ?_)
  · skip
    refine k_iconst (v := 0) X dX11_isDot_k0.2.1.2.1 ic_0 ?_
    refine k_istore_n [(3, .int 0), (0, .ref h0), (1, .int p0), (2, .int p1)] X dX11_isDot_k0.2.1.2.2 (nlt_e rfl) rfl ?_
    refine k_iconst (v := 0) X dX11_isDot_k0.2.2.1.1 ic_0 ?_
    refine k_istore [(4, .int 0), (3, .int 0), (0, .ref h0), (1, .int p0), (2, .int p1)] X dX11_isDot_k0.2.2.1.2 (nlt_e rfl) rfl ?_
    refine (fun hL : ∀ (nn_10 : Nat) (u_6 : Int32) (u_8 : Int32), (2147483647 - u_8.toInt).toNat = nn_10 → (IV u_6 0 1) → (IV u_8 0 255) → Wk p l e _ s m args below meth c _ A g _ _ _ [(cO11_i1r1i10r1i2r5i2r12i3r4i2 h0 m_thrown a_tape m_taped m_size m_at m_end m_token m_whole m_nameSize m_fault m_place m_trouble a_letters m_failed m_hasHouse a_r a_fresh a_st a_undone a_kept m_undos m_images a_from a_begin a_motor a_change a_startFrame a_changeFrame a_lostAt a_blackAt a_slips a_leftArc a_died a_arcs m_bestSum m_nearest m_nearestTown a_there a_backAt a_sorted a_parts m_seed1 m_darkNow), (cAI g a_r 311 d_r), (cAI g a_st 44 d_st)] [(4, .int u_8), (3, .int u_6), (0, .ref h0), (1, .int p0), (2, .int p1)] 22 [] => hL _ 0 0 rfl (iv_w iq_0_0_0 (zle_e rfl) (zle_e rfl)) (iv_w iq_0_0_0 (zle_e rfl) (zle_e rfl))) ?_
    refine fun nn_10 => Nat.strongRecOn nn_10 (fun nn_10 ih_12 => ?_)
    intro u_6 u_8 hm_11 hv_7 hv_9
    refine k_iload X dX11_isDot_k0.2.2.2.1 0 rfl ?_
    refine k_aload_n X dX11_isDot_k0.2.2.2.2 2 rfl ?_
    refine k_get (ci := 11) X inlX11 rfl 15 (nlt_e rfl) dX11_isDot_k1.1.1.1.1 mw170 0 rfl rfl ?_
    refine k_bipush (v := 8) X dX11_isDot_k1.1.1.1.2 bi_8 ?_
    refine k_iald X dX11_isDot_k1.1.1.2.1 1 rfl (by unfold vp_in; decide) ?_
    refine k_nm (fun z_13 ez_13 => ?_)
    have i_14 : z_13.toInt = (d_r 8).toInt := by rw [ez_13]; rfl
    have iv_15 : IV z_13 0 12 := rb_8 ez_13 hp_d_r
    refine k_ic_ge 80 X dX11_isDot_k1.1.1.2.2 (jp_e rfl) (fun h_16 => ?_) (fun h_16 => ?_)
    · skip
      have j_17 : z_13.toInt ≤ u_8.toInt := iv_le h_16
      refine k_iload_n X dX11_isDot_k2.2.2.2.1 1 rfl ?_
      exact k_zret X hr (zn_b (iv_w hv_7 (zle_e rfl) (zle_e rfl))) dX11_isDot_k2.2.2.2.2 (Nat.le_of_ble_eq_true rfl) (Nat.le_of_ble_eq_true rfl) [0, 1, 2] (vnd_e rfl) rfl rfl ⟨(iv_w hv_7 (zle_e rfl) (zle_e rfl)), rfl⟩
    · skip
      have j_18 : u_8.toInt < z_13.toInt := iv_nle h_16
      have iv_19 : IV u_8 0 11 := iv_ltL (iv_nle h_16) hv_9 iv_15 (zle_e rfl)
      have iv_20 : IV z_13 1 12 := iv_ltR (iv_nle h_16) hv_9 iv_15 (zle_e rfl)
      refine k_iload_n X dX11_isDot_k1.1.2.1.1 1 rfl ?_
      refine k_if_ne 68 X dX11_isDot_k1.1.2.1.2 (jp_e rfl) (fun h_21 => ?_) (fun h_21 => ?_)
      · skip
        have iv_22 : IV u_6 1 1 := iv_neL h_21 hv_7 iq_0_0_0 (zle_e rfl)
        refine k_iconst (v := 1) X dX11_isDot_k2.2.1.1.1 ic_1 ?_
        refine k_goto 73 X dX11_isDot_k2.2.1.1.2 (jp_e rfl) ?_
        refine k_istore_n [(3, .int 1), (4, .int u_8), (0, .ref h0), (1, .int p0), (2, .int p1)] X dX11_isDot_k2.2.1.2.2 (nlt_e rfl) rfl ?_
        obtain ⟨z_23, ez_23⟩ : ∃ y : Int32, u_8 + Int32.ofInt 1 = y := ⟨_, rfl⟩
        refine k_iinc z_23 [(4, .int z_23), (3, .int 1), (0, .ref h0), (1, .int p0), (2, .int p1)] 1 X dX11_isDot_k2.2.2.1.1 rfl ez_23 (nlt_e rfl) rfl ?_
        have i_24 : z_23.toInt = u_8.toInt + 1 := in_inc ez_23 (oin_e rfl) iv_19 (zle_e rfl) (zle_e rfl)
        have iv_25 : IV z_23 1 12 := iz1 i_24 iv_19 (zle_e rfl) (zle_e rfl)
        refine k_goto 22 X dX11_isDot_k2.2.2.1.2 (jp_e rfl) ?_
        exact ih_12 _ (by omega) 1 z_23 rfl (iv_w iq_1_1_1 (zle_e rfl) (zle_e rfl)) (iv_w iv_25 (zle_e rfl) (zle_e rfl))
      · skip
        have iv_26 : IV u_6 0 0 := iv_meet hv_7 (iv_e h_21 iq_0_0_0) (zle_o rfl) (zle_o rfl)
        refine k_aload_n X dX11_isDot_k1.1.2.2.1 2 rfl ?_
        refine k_get (ci := 11) X inlX11 rfl 15 (nlt_e rfl) dX11_isDot_k1.1.2.2.2 mw170 0 rfl rfl ?_
        refine k_bipush (v := 44) X dX11_isDot_k1.2.1.1.1 bi_44 ?_
        refine k_iconst (v := 3) X dX11_isDot_k1.2.1.1.2 ic_3 ?_
        refine k_iload X dX11_isDot_k1.2.1.2.1 0 rfl ?_
        refine k_imul X dX11_isDot_k1.2.1.2.2 ?_
        refine k_nm (fun z_27 ez_27 => ?_)
        have i_28 : z_27.toInt = 3 * u_8.toInt := in_mul ez_27 (by decide) (zle_e rfl) iv_19 (zle_e rfl) (zle_e rfl)
        have iv_29 : IV z_27 0 33 := iz4 i_28 iv_19 (zle_e rfl) (zle_e rfl) (zle_e rfl)
        refine k_iadd X dX11_isDot_k1.2.2.1.1 ?_
        refine k_nm (fun z_30 ez_30 => ?_)
        have i_31 : z_30.toInt = 44 + z_27.toInt := in_add ez_30 iq_44_44_44 iv_29 (zle_e rfl) (zle_e rfl)
        have iv_32 : IV z_30 44 77 := iz2 i_31 iv_29 (zle_e rfl) (zle_e rfl)
        refine k_iald X dX11_isDot_k1.2.2.1.2 1 rfl (iv_in iv_32 (zle_e rfl) (zle_l rfl)) ?_
        refine k_nm (fun z_33 ez_33 => ?_)
        have i_34 : z_30.toInt = 44 + 3 * u_8.toInt := by omega
        have iv_35 : IV z_33 0 7 := rb_44_3 ez_33 hp_d_r i_34 (iv_w iv_19 (zle_e rfl) (zle_e rfl))
        refine k_iload_n X dX11_isDot_k1.2.2.2.1 3 rfl ?_
        refine k_ic_ne 72 X dX11_isDot_k1.2.2.2.2 (jp_e rfl) (fun h_36 => ?_) (fun h_36 => ?_)
        · skip
          refine k_iconst (v := 0) X dX11_isDot_k2.2.1.2.1 ic_0 ?_
          refine k_istore_n [(3, .int 0), (4, .int u_8), (0, .ref h0), (1, .int p0), (2, .int p1)] X dX11_isDot_k2.2.1.2.2 (nlt_e rfl) rfl ?_
          obtain ⟨z_37, ez_37⟩ : ∃ y : Int32, u_8 + Int32.ofInt 1 = y := ⟨_, rfl⟩
          refine k_iinc z_37 [(4, .int z_37), (3, .int 0), (0, .ref h0), (1, .int p0), (2, .int p1)] 1 X dX11_isDot_k2.2.2.1.1 rfl ez_37 (nlt_e rfl) rfl ?_
          have i_38 : z_37.toInt = u_8.toInt + 1 := in_inc ez_37 (oin_e rfl) iv_19 (zle_e rfl) (zle_e rfl)
          have iv_39 : IV z_37 1 12 := iz1 i_38 iv_19 (zle_e rfl) (zle_e rfl)
          refine k_goto 22 X dX11_isDot_k2.2.2.1.2 (jp_e rfl) ?_
          exact ih_12 _ (by omega) 0 z_37 rfl (iv_w iq_0_0_0 (zle_e rfl) (zle_e rfl)) (iv_w iv_39 (zle_e rfl) (zle_e rfl))
        · skip
          refine k_aload_n X dX11_isDot_k2.1.1.1.1 2 rfl ?_
          refine k_get (ci := 11) X inlX11 rfl 17 (nlt_e rfl) dX11_isDot_k2.1.1.1.2 mw172 0 rfl rfl ?_
          refine k_bipush (v := 16) X dX11_isDot_k2.1.1.2.1 bi_16 ?_
          refine k_iload X dX11_isDot_k2.1.1.2.2 0 rfl ?_
          refine k_iadd X dX11_isDot_k2.1.2.1.1 ?_
          refine k_nm (fun z_40 ez_40 => ?_)
          have i_41 : z_40.toInt = 16 + u_8.toInt := in_add ez_40 iq_16_16_16 iv_19 (zle_e rfl) (zle_e rfl)
          have iv_42 : IV z_40 16 27 := iz2 i_41 iv_19 (zle_e rfl) (zle_e rfl)
          refine k_iald X dX11_isDot_k2.1.2.1.2 2 rfl (iv_in iv_42 (zle_e rfl) (zle_l rfl)) ?_
          refine k_nm (fun z_43 ez_43 => ?_)
          refine k_iload_n X dX11_isDot_k2.1.2.2.1 4 rfl ?_
          refine k_ic_ne 72 X dX11_isDot_k2.1.2.2.2 (jp_e rfl) (fun h_44 => ?_) (fun h_44 => ?_)
          · skip
            refine k_iconst (v := 0) X dX11_isDot_k2.2.1.2.1 ic_0 ?_
            refine k_istore_n [(3, .int 0), (4, .int u_8), (0, .ref h0), (1, .int p0), (2, .int p1)] X dX11_isDot_k2.2.1.2.2 (nlt_e rfl) rfl ?_
            obtain ⟨z_45, ez_45⟩ : ∃ y : Int32, u_8 + Int32.ofInt 1 = y := ⟨_, rfl⟩
            refine k_iinc z_45 [(4, .int z_45), (3, .int 0), (0, .ref h0), (1, .int p0), (2, .int p1)] 1 X dX11_isDot_k2.2.2.1.1 rfl ez_45 (nlt_e rfl) rfl ?_
            have i_46 : z_45.toInt = u_8.toInt + 1 := in_inc ez_45 (oin_e rfl) iv_19 (zle_e rfl) (zle_e rfl)
            have iv_47 : IV z_45 1 12 := iz1 i_46 iv_19 (zle_e rfl) (zle_e rfl)
            refine k_goto 22 X dX11_isDot_k2.2.2.1.2 (jp_e rfl) ?_
            exact ih_12 _ (by omega) 0 z_45 rfl (iv_w iq_0_0_0 (zle_e rfl) (zle_e rfl)) (iv_w iv_47 (zle_e rfl) (zle_e rfl))
          · skip
            refine k_iconst (v := 1) X dX11_isDot_k2.2.1.1.1 ic_1 ?_
            refine k_goto 73 X dX11_isDot_k2.2.1.1.2 (jp_e rfl) ?_
            refine k_istore_n [(3, .int 1), (4, .int u_8), (0, .ref h0), (1, .int p0), (2, .int p1)] X dX11_isDot_k2.2.1.2.2 (nlt_e rfl) rfl ?_
            obtain ⟨z_48, ez_48⟩ : ∃ y : Int32, u_8 + Int32.ofInt 1 = y := ⟨_, rfl⟩
            refine k_iinc z_48 [(4, .int z_48), (3, .int 1), (0, .ref h0), (1, .int p0), (2, .int p1)] 1 X dX11_isDot_k2.2.2.1.1 rfl ez_48 (nlt_e rfl) rfl ?_
            have i_49 : z_48.toInt = u_8.toInt + 1 := in_inc ez_48 (oin_e rfl) iv_19 (zle_e rfl) (zle_e rfl)
            have iv_50 : IV z_48 1 12 := iz1 i_49 iv_19 (zle_e rfl) (zle_e rfl)
            refine k_goto 22 X dX11_isDot_k2.2.2.1.2 (jp_e rfl) ?_
            exact ih_12 _ (by omega) 1 z_48 rfl (iv_w iq_1_1_1 (zle_e rfl) (zle_e rfl)) (iv_w iv_50 (zle_e rfl) (zle_e rfl))
  · skip
    refine k_iconst (v := 1) X dX11_isDot_k0.2.1.1.1 ic_1 ?_
    refine k_goto 18 X dX11_isDot_k0.2.1.1.2 (jp_e rfl) ?_
    refine k_istore_n [(3, .int 1), (0, .ref h0), (1, .int p0), (2, .int p1)] X dX11_isDot_k0.2.1.2.2 (nlt_e rfl) rfl ?_
    refine k_iconst (v := 0) X dX11_isDot_k0.2.2.1.1 ic_0 ?_
    refine k_istore [(4, .int 0), (3, .int 1), (0, .ref h0), (1, .int p0), (2, .int p1)] X dX11_isDot_k0.2.2.1.2 (nlt_e rfl) rfl ?_
    refine (fun hL : ∀ (nn_55 : Nat) (u_51 : Int32) (u_53 : Int32), (2147483647 - u_53.toInt).toNat = nn_55 → (IV u_51 1 1) → (IV u_53 0 255) → Wk p l e _ s m args below meth c _ A g _ _ _ [(cO11_i1r1i10r1i2r5i2r12i3r4i2 h0 m_thrown a_tape m_taped m_size m_at m_end m_token m_whole m_nameSize m_fault m_place m_trouble a_letters m_failed m_hasHouse a_r a_fresh a_st a_undone a_kept m_undos m_images a_from a_begin a_motor a_change a_startFrame a_changeFrame a_lostAt a_blackAt a_slips a_leftArc a_died a_arcs m_bestSum m_nearest m_nearestTown a_there a_backAt a_sorted a_parts m_seed1 m_darkNow), (cAI g a_r 311 d_r), (cAI g a_st 44 d_st)] [(4, .int u_53), (3, .int u_51), (0, .ref h0), (1, .int p0), (2, .int p1)] 22 [] => hL _ 1 0 rfl (iv_w iq_1_1_1 (zle_e rfl) (zle_e rfl)) (iv_w iq_0_0_0 (zle_e rfl) (zle_e rfl))) ?_
    refine fun nn_55 => Nat.strongRecOn nn_55 (fun nn_55 ih_57 => ?_)
    intro u_51 u_53 hm_56 hv_52 hv_54
    refine k_iload X dX11_isDot_k0.2.2.2.1 0 rfl ?_
    refine k_aload_n X dX11_isDot_k0.2.2.2.2 2 rfl ?_
    refine k_get (ci := 11) X inlX11 rfl 15 (nlt_e rfl) dX11_isDot_k1.1.1.1.1 mw170 0 rfl rfl ?_
    refine k_bipush (v := 8) X dX11_isDot_k1.1.1.1.2 bi_8 ?_
    refine k_iald X dX11_isDot_k1.1.1.2.1 1 rfl (by unfold vp_in; decide) ?_
    refine k_nm (fun z_58 ez_58 => ?_)
    have i_59 : z_58.toInt = (d_r 8).toInt := by rw [ez_58]; rfl
    have iv_60 : IV z_58 0 12 := rb_8 ez_58 hp_d_r
    refine k_ic_ge 80 X dX11_isDot_k1.1.1.2.2 (jp_e rfl) (fun h_61 => ?_) (fun h_61 => ?_)
    · skip
      have j_62 : z_58.toInt ≤ u_53.toInt := iv_le h_61
      refine k_iload_n X dX11_isDot_k2.2.2.2.1 1 rfl ?_
      exact k_zret X hr (zn_b (iv_w hv_52 (zle_e rfl) (zle_e rfl))) dX11_isDot_k2.2.2.2.2 (Nat.le_of_ble_eq_true rfl) (Nat.le_of_ble_eq_true rfl) [0, 1, 2] (vnd_e rfl) rfl rfl ⟨(iv_w hv_52 (zle_e rfl) (zle_e rfl)), rfl⟩
    · skip
      have j_63 : u_53.toInt < z_58.toInt := iv_nle h_61
      have iv_64 : IV u_53 0 11 := iv_ltL (iv_nle h_61) hv_54 iv_60 (zle_e rfl)
      have iv_65 : IV z_58 1 12 := iv_ltR (iv_nle h_61) hv_54 iv_60 (zle_e rfl)
      refine k_iload_n X dX11_isDot_k1.1.2.1.1 1 rfl ?_
      refine k_if_ne 68 X dX11_isDot_k1.1.2.1.2 (jp_e rfl) (fun h_66 => ?_) (fun h_66 => (iv_eqN h_66 hv_52 iq_0_0_0 (by decide)).elim)
      refine k_iconst (v := 1) X dX11_isDot_k2.2.1.1.1 ic_1 ?_
      refine k_goto 73 X dX11_isDot_k2.2.1.1.2 (jp_e rfl) ?_
      refine k_istore_n [(3, .int 1), (4, .int u_53), (0, .ref h0), (1, .int p0), (2, .int p1)] X dX11_isDot_k2.2.1.2.2 (nlt_e rfl) rfl ?_
      obtain ⟨z_67, ez_67⟩ : ∃ y : Int32, u_53 + Int32.ofInt 1 = y := ⟨_, rfl⟩
      refine k_iinc z_67 [(4, .int z_67), (3, .int 1), (0, .ref h0), (1, .int p0), (2, .int p1)] 1 X dX11_isDot_k2.2.2.1.1 rfl ez_67 (nlt_e rfl) rfl ?_
      have i_68 : z_67.toInt = u_53.toInt + 1 := in_inc ez_67 (oin_e rfl) iv_64 (zle_e rfl) (zle_e rfl)
      have iv_69 : IV z_67 1 12 := iz1 i_68 iv_64 (zle_e rfl) (zle_e rfl)
      refine k_goto 22 X dX11_isDot_k2.2.2.1.2 (jp_e rfl) ?_
      exact ih_57 _ (by omega) 1 z_67 rfl (iv_w iq_1_1_1 (zle_e rfl) (zle_e rfl)) (iv_w iv_69 (zle_e rfl) (zle_e rfl))

theorem dX11_weightOf_k0 : ((((dD cX11_weightOf 0 (.lconst 1) 1 ∧ dD cX11_weightOf 1 (.lstore_n 3) 1) ∧ (dD cX11_weightOf 2 (.iconst 0) 1 ∧ dD cX11_weightOf 3 (.istore 5) 2)) ∧ ((dD cX11_weightOf 5 (.iload 5) 2 ∧ dD cX11_weightOf 7 (.aload_n 0) 1) ∧ (dD cX11_weightOf 8 (.getfield 20) 3 ∧ dD cX11_weightOf 11 (.bipush 8) 2))) ∧ (((dD cX11_weightOf 13 .iaload 1 ∧ dD cX11_weightOf 14 (.if_icmp .ge 89) 3) ∧ (dD cX11_weightOf 17 (.aload_n 0) 1 ∧ dD cX11_weightOf 18 (.getfield 20) 3)) ∧ ((dD cX11_weightOf 21 (.bipush 44) 2 ∧ dD cX11_weightOf 23 (.iconst 3) 1) ∧ (dD cX11_weightOf 24 (.iload 5) 2 ∧ dD cX11_weightOf 26 .imul 1)))) := dkA16 (by decide +kernel)
theorem dX11_weightOf_k1 : ((((dD cX11_weightOf 27 .iadd 1 ∧ dD cX11_weightOf 28 .iaload 1) ∧ (dD cX11_weightOf 29 (.iload_n 1) 1 ∧ dD cX11_weightOf 30 (.if_icmp .eq 6) 3)) ∧ ((dD cX11_weightOf 33 (.goto 64) 3 ∧ dD cX11_weightOf 36 (.aload_n 0) 1) ∧ (dD cX11_weightOf 37 (.getfield 20) 3 ∧ dD cX11_weightOf 40 (.bipush 40) 2))) ∧ (((dD cX11_weightOf 42 (.aload_n 0) 1 ∧ dD cX11_weightOf 43 (.getfield 20) 3) ∧ (dD cX11_weightOf 46 (.bipush 44) 2 ∧ dD cX11_weightOf 48 (.iconst 3) 1)) ∧ ((dD cX11_weightOf 49 (.iload 5) 2 ∧ dD cX11_weightOf 51 .imul 1) ∧ (dD cX11_weightOf 52 .iadd 1 ∧ dD cX11_weightOf 53 (.iconst 2) 1)))) := dkA16 (by decide +kernel)
theorem dX11_weightOf_k2 : ((((dD cX11_weightOf 54 .iadd 1 ∧ dD cX11_weightOf 55 .iaload 1) ∧ (dD cX11_weightOf 56 .iadd 1 ∧ dD cX11_weightOf 57 .iaload 1)) ∧ ((dD cX11_weightOf 58 (.istore 6) 2 ∧ dD cX11_weightOf 60 (.lload_n 3) 1) ∧ (dD cX11_weightOf 61 (.aload_n 0) 1 ∧ dD cX11_weightOf 62 (.getfield 26) 3))) ∧ (((dD cX11_weightOf 65 (.bipush 16) 2 ∧ dD cX11_weightOf 67 (.iload 5) 2) ∧ (dD cX11_weightOf 69 .iadd 1 ∧ dD cX11_weightOf 70 .iaload 1)) ∧ ((dD cX11_weightOf 71 (.iload_n 2) 1 ∧ dD cX11_weightOf 72 (.iconst 2) 1) ∧ (dD cX11_weightOf 73 .isub 1 ∧ dD cX11_weightOf 74 (.iload_n 2) 1)))) := dkA16 (by decide +kernel)
theorem dX11_weightOf_k3 : ((((dD cX11_weightOf 75 (.iconst 2) 1 ∧ dD cX11_weightOf 76 .iadd 1) ∧ (dD cX11_weightOf 77 (.invokestatic 182) 3 ∧ dD cX11_weightOf 80 (.ifCond .eq 9) 3)) ∧ ((dD cX11_weightOf 83 (.iload 6) 2 ∧ dD cX11_weightOf 85 .i2l 1) ∧ (dD cX11_weightOf 86 (.goto 9) 3 ∧ dD cX11_weightOf 89 (.bipush 10) 2))) ∧ (((dD cX11_weightOf 91 (.iload 6) 2 ∧ dD cX11_weightOf 93 .isub 1) ∧ (dD cX11_weightOf 94 .i2l 1 ∧ dD cX11_weightOf 95 .lmul 1)) ∧ ((dD cX11_weightOf 96 (.lstore_n 3) 1 ∧ dD cX11_weightOf 97 (.iinc 5 1) 3) ∧ (dD cX11_weightOf 100 (.goto (-95)) 3 ∧ dD cX11_weightOf 103 (.lload_n 3) 1)))) := dkA16 (by decide +kernel)
theorem dX11_weightOf_k4 : dD cX11_weightOf 104 .lreturn 1 := dkA1 (by decide +kernel)
set_option maxHeartbeats 4000000 in
set_option maxRecDepth 100000 in
theorem m_weightOf (l : Launch) (g : Gx) (h0 : Nat) (p0 : Int32) (p1 : Int32) (m_thrown : Int32) (a_tape : Nat) (m_taped : Int32) (m_size : Int32) (m_at : Int32) (m_end : Int32) (m_token : Int32) (m_whole : Int32) (m_nameSize : Int32) (m_fault : Int32) (m_place : Int32) (m_trouble : Int32) (a_letters : Nat) (m_failed : Int32) (m_hasHouse : Int32) (a_r : Nat) (a_fresh : Nat) (a_st : Nat) (a_undone : Nat) (a_kept : Nat) (m_undos : Int32) (m_images : Int32) (a_from : Nat) (a_begin : Nat) (a_motor : Nat) (a_change : Nat) (a_startFrame : Nat) (a_changeFrame : Nat) (a_lostAt : Nat) (a_blackAt : Nat) (a_slips : Nat) (a_leftArc : Nat) (a_died : Nat) (a_arcs : Nat) (m_bestSum : Int32) (m_nearest : Int32) (m_nearestTown : Int32) (a_there : Nat) (a_backAt : Nat) (a_sorted : Nat) (a_parts : Nat) (m_seed1 : Int32) (m_darkNow : Int32) (d_r : Nat → Int32) (d_st : Nat → Int32) (hv_p0 : IV p0 0 7) (hp_d_r : RInv d_r) : cL l g yX11_weightOf cX11_weightOf 7 (some .long) 1 22 0 0 [.ref h0, .int p0, .int p1] [(cO11_i1r1i10r1i2r5i2r12i3r4i2 h0 m_thrown a_tape m_taped m_size m_at m_end m_token m_whole m_nameSize m_fault m_place m_trouble a_letters m_failed m_hasHouse a_r a_fresh a_st a_undone a_kept m_undos m_images a_from a_begin a_motor a_change a_startFrame a_changeFrame a_lostAt a_blackAt a_slips a_leftArc a_died a_arcs m_bestSum m_nearest m_nearestTown a_there a_backAt a_sorted a_parts m_seed1 m_darkNow), (cAI g a_r 311 d_r), (cAI g a_st 44 d_st)] (fun r w => w = [(cO11_i1r1i10r1i2r5i2r12i3r4i2 h0 m_thrown a_tape m_taped m_size m_at m_end m_token m_whole m_nameSize m_fault m_place m_trouble a_letters m_failed m_hasHouse a_r a_fresh a_st a_undone a_kept m_undos m_images a_from a_begin a_motor a_change a_startFrame a_changeFrame a_lostAt a_blackAt a_slips a_leftArc a_died a_arcs m_bestSum m_nearest m_nearestTown a_there a_backAt a_sorted a_parts m_seed1 m_darkNow), (cAI g a_r 311 d_r), (cAI g a_st 44 d_st)]) := by
  refine cL.of (by decide) (Nat.le_of_ble_eq_true rfl) ?_
  intro p e s m args below meth c A X hr hi
  refine k_lveq [(0, .ref h0), (1, .int p0), (2, .int p1)] rfl ?_
  refine k_lconst (v := 1) X dX11_weightOf_k0.1.1.1.1 (by decide) ?_
  refine k_lstore_n [(3, .long 1), (0, .ref h0), (1, .int p0), (2, .int p1)] X dX11_weightOf_k0.1.1.1.2 (by decide) rfl ?_
  refine k_iconst (v := 0) X dX11_weightOf_k0.1.1.2.1 ic_0 ?_
  refine k_istore [(5, .int 0), (3, .long 1), (0, .ref h0), (1, .int p0), (2, .int p1)] X dX11_weightOf_k0.1.1.2.2 (nlt_e rfl) rfl ?_
  refine (fun hL : ∀ (nn_4 : Nat) (u_1 : Int64) (u_2 : Int32), (2147483647 - u_2.toInt).toNat = nn_4 → (IV u_2 0 255) → Wk p l e _ s m args below meth c _ A g _ _ _ [(cO11_i1r1i10r1i2r5i2r12i3r4i2 h0 m_thrown a_tape m_taped m_size m_at m_end m_token m_whole m_nameSize m_fault m_place m_trouble a_letters m_failed m_hasHouse a_r a_fresh a_st a_undone a_kept m_undos m_images a_from a_begin a_motor a_change a_startFrame a_changeFrame a_lostAt a_blackAt a_slips a_leftArc a_died a_arcs m_bestSum m_nearest m_nearestTown a_there a_backAt a_sorted a_parts m_seed1 m_darkNow), (cAI g a_r 311 d_r), (cAI g a_st 44 d_st)] [(5, .int u_2), (3, .long u_1), (0, .ref h0), (1, .int p0), (2, .int p1)] 5 [] => hL _ 1 0 rfl (iv_w iq_0_0_0 (zle_e rfl) (zle_e rfl))) ?_
  refine fun nn_4 => Nat.strongRecOn nn_4 (fun nn_4 ih_6 => ?_)
  intro u_1 u_2 hm_5 hv_3
  refine k_iload X dX11_weightOf_k0.1.2.1.1 0 rfl ?_
  refine k_aload_n X dX11_weightOf_k0.1.2.1.2 2 rfl ?_
  refine k_get (ci := 11) X inlX11 rfl 15 (nlt_e rfl) dX11_weightOf_k0.1.2.2.1 mw170 0 rfl rfl ?_
  refine k_bipush (v := 8) X dX11_weightOf_k0.1.2.2.2 bi_8 ?_
  refine k_iald X dX11_weightOf_k0.2.1.1.1 1 rfl (by unfold vp_in; decide) ?_
  refine k_nm (fun z_7 ez_7 => ?_)
  have i_8 : z_7.toInt = (d_r 8).toInt := by rw [ez_7]; rfl
  have iv_9 : IV z_7 0 12 := rb_8 ez_7 hp_d_r
  refine k_ic_ge 103 X dX11_weightOf_k0.2.1.1.2 (jp_e rfl) (fun h_10 => ?_) (fun h_10 => ?_)
  · skip
    have j_11 : z_7.toInt ≤ u_2.toInt := iv_le h_10
    refine k_lload_n X dX11_weightOf_k3.2.2.2.2 1 rfl ?_
    exact k_lret X hr dX11_weightOf_k4 (Nat.le_of_ble_eq_true rfl) (Nat.le_of_ble_eq_true rfl) [0, 1, 2] (vnd_e rfl) rfl rfl rfl
  · skip
    have j_12 : u_2.toInt < z_7.toInt := iv_nle h_10
    have iv_13 : IV u_2 0 11 := iv_ltL (iv_nle h_10) hv_3 iv_9 (zle_e rfl)
    have iv_14 : IV z_7 1 12 := iv_ltR (iv_nle h_10) hv_3 iv_9 (zle_e rfl)
    refine k_aload_n X dX11_weightOf_k0.2.1.2.1 2 rfl ?_
    refine k_get (ci := 11) X inlX11 rfl 15 (nlt_e rfl) dX11_weightOf_k0.2.1.2.2 mw170 0 rfl rfl ?_
    refine k_bipush (v := 44) X dX11_weightOf_k0.2.2.1.1 bi_44 ?_
    refine k_iconst (v := 3) X dX11_weightOf_k0.2.2.1.2 ic_3 ?_
    refine k_iload X dX11_weightOf_k0.2.2.2.1 0 rfl ?_
    refine k_imul X dX11_weightOf_k0.2.2.2.2 ?_
    refine k_nm (fun z_15 ez_15 => ?_)
    have i_16 : z_15.toInt = 3 * u_2.toInt := in_mul ez_15 (by decide) (zle_e rfl) iv_13 (zle_e rfl) (zle_e rfl)
    have iv_17 : IV z_15 0 33 := iz4 i_16 iv_13 (zle_e rfl) (zle_e rfl) (zle_e rfl)
    refine k_iadd X dX11_weightOf_k1.1.1.1.1 ?_
    refine k_nm (fun z_18 ez_18 => ?_)
    have i_19 : z_18.toInt = 44 + z_15.toInt := in_add ez_18 iq_44_44_44 iv_17 (zle_e rfl) (zle_e rfl)
    have iv_20 : IV z_18 44 77 := iz2 i_19 iv_17 (zle_e rfl) (zle_e rfl)
    refine k_iald X dX11_weightOf_k1.1.1.1.2 1 rfl (iv_in iv_20 (zle_e rfl) (zle_l rfl)) ?_
    refine k_nm (fun z_21 ez_21 => ?_)
    have i_22 : z_18.toInt = 44 + 3 * u_2.toInt := by omega
    have iv_23 : IV z_21 0 7 := rb_44_3 ez_21 hp_d_r i_22 (iv_w iv_13 (zle_e rfl) (zle_e rfl))
    refine k_iload_n X dX11_weightOf_k1.1.1.2.1 3 rfl ?_
    refine k_ic_eq 36 X dX11_weightOf_k1.1.1.2.2 (jp_e rfl) (fun h_24 => ?_) (fun h_24 => ?_)
    · skip
      refine k_aload_n X dX11_weightOf_k1.1.2.1.2 2 rfl ?_
      refine k_get (ci := 11) X inlX11 rfl 15 (nlt_e rfl) dX11_weightOf_k1.1.2.2.1 mw170 0 rfl rfl ?_
      refine k_bipush (v := 40) X dX11_weightOf_k1.1.2.2.2 bi_40 ?_
      refine k_aload_n X dX11_weightOf_k1.2.1.1.1 2 rfl ?_
      refine k_get (ci := 11) X inlX11 rfl 15 (nlt_e rfl) dX11_weightOf_k1.2.1.1.2 mw170 0 rfl rfl ?_
      refine k_bipush (v := 44) X dX11_weightOf_k1.2.1.2.1 bi_44 ?_
      refine k_iconst (v := 3) X dX11_weightOf_k1.2.1.2.2 ic_3 ?_
      refine k_iload X dX11_weightOf_k1.2.2.1.1 0 rfl ?_
      refine k_imul X dX11_weightOf_k1.2.2.1.2 ?_
      refine k_to z_15 ez_15.symm ?_
      refine k_iadd X dX11_weightOf_k1.2.2.2.1 ?_
      refine k_to z_18 ez_18.symm ?_
      refine k_iconst (v := 2) X dX11_weightOf_k1.2.2.2.2 ic_2 ?_
      refine k_iadd X dX11_weightOf_k2.1.1.1.1 ?_
      refine k_nm (fun z_25 ez_25 => ?_)
      have i_26 : z_25.toInt = z_18.toInt + 2 := in_add ez_25 iv_20 iq_2_2_2 (zle_e rfl) (zle_e rfl)
      have iv_27 : IV z_25 46 79 := iz1 i_26 iv_20 (zle_e rfl) (zle_e rfl)
      refine k_iald X dX11_weightOf_k2.1.1.1.2 1 rfl (iv_in iv_27 (zle_e rfl) (zle_l rfl)) ?_
      refine k_nm (fun z_28 ez_28 => ?_)
      have i_29 : z_25.toInt = 46 + 3 * u_2.toInt := by omega
      have iv_30 : IV z_28 0 3 := rb_46_3 ez_28 hp_d_r i_29 (iv_w iv_13 (zle_e rfl) (zle_e rfl))
      refine k_iadd X dX11_weightOf_k2.1.1.2.1 ?_
      refine k_nm (fun z_31 ez_31 => ?_)
      have i_32 : z_31.toInt = 40 + z_28.toInt := in_add ez_31 iq_40_40_40 iv_30 (zle_e rfl) (zle_e rfl)
      have iv_33 : IV z_31 40 43 := iz2 i_32 iv_30 (zle_e rfl) (zle_e rfl)
      refine k_iald X dX11_weightOf_k2.1.1.2.2 1 rfl (iv_in iv_33 (zle_e rfl) (zle_l rfl)) ?_
      refine k_nm (fun z_34 ez_34 => ?_)
      have i_35 : z_31.toInt = 40 + 1 * z_28.toInt := by omega
      have iv_36 : IV z_34 0 9 := rb_40_1 ez_34 hp_d_r i_35 (iv_w iv_30 (zle_e rfl) (zle_e rfl))
      refine k_istore [(6, .int z_34), (5, .int u_2), (3, .long u_1), (0, .ref h0), (1, .int p0), (2, .int p1)] X dX11_weightOf_k2.1.2.1.1 (nlt_e rfl) rfl ?_
      refine k_lload_n X dX11_weightOf_k2.1.2.1.2 2 rfl ?_
      refine k_aload_n X dX11_weightOf_k2.1.2.2.1 3 rfl ?_
      refine k_get (ci := 11) X inlX11 rfl 17 (nlt_e rfl) dX11_weightOf_k2.1.2.2.2 mw172 0 rfl rfl ?_
      refine k_bipush (v := 16) X dX11_weightOf_k2.2.1.1.1 bi_16 ?_
      refine k_iload X dX11_weightOf_k2.2.1.1.2 1 rfl ?_
      refine k_iadd X dX11_weightOf_k2.2.1.2.1 ?_
      refine k_nm (fun z_37 ez_37 => ?_)
      have i_38 : z_37.toInt = 16 + u_2.toInt := in_add ez_37 iq_16_16_16 iv_13 (zle_e rfl) (zle_e rfl)
      have iv_39 : IV z_37 16 27 := iz2 i_38 iv_13 (zle_e rfl) (zle_e rfl)
      refine k_iald X dX11_weightOf_k2.2.1.2.2 2 rfl (iv_in iv_39 (zle_e rfl) (zle_l rfl)) ?_
      refine k_nm (fun z_40 ez_40 => ?_)
      refine k_iload_n X dX11_weightOf_k2.2.2.1.1 5 rfl ?_
      refine k_iconst (v := 2) X dX11_weightOf_k2.2.2.1.2 ic_2 ?_
      refine k_isub X dX11_weightOf_k2.2.2.2.1 ?_
      refine k_nm (fun z_41 ez_41 => ?_)
      refine k_iload_n X dX11_weightOf_k2.2.2.2.2 5 rfl ?_
      refine k_iconst (v := 2) X dX11_weightOf_k3.1.1.1.1 ic_2 ?_
      refine k_iadd X dX11_weightOf_k3.1.1.1.2 ?_
      refine k_nm (fun z_43 ez_43 => ?_)
      refine k_callSI (n := 3) (As := [.int z_40, .int z_41, .int z_43]) (st := [.long u_1]) X [] [(cO11_i1r1i10r1i2r5i2r12i3r4i2 h0 m_thrown a_tape m_taped m_size m_at m_end m_token m_whole m_nameSize m_fault m_place m_trouble a_letters m_failed m_hasHouse a_r a_fresh a_st a_undone a_kept m_undos m_images a_from a_begin a_motor a_change a_startFrame a_changeFrame a_lostAt a_blackAt a_slips a_leftArc a_died a_arcs m_bestSum m_nearest m_nearestTown a_there a_backAt a_sorted a_parts m_seed1 m_darkNow), (cAI g a_r 311 d_r), (cAI g a_st 44 d_st)] [] [0, 1, 2] (m_in l g z_40 z_41 z_43) dX11_weightOf_k3.1.1.2.1 mw482 mw483 mw5 mw484 yk_yX11_in_3 rfl (Nat.le_of_ble_eq_true rfl) (Nat.le_of_ble_eq_true rfl) (Nat.le_of_ble_eq_true rfl) (Nat.le_of_ble_eq_true rfl) (Nat.le_of_ble_eq_true rfl) rfl rfl (vnd_e rfl) rfl (vnd_e rfl) (dsj_e rfl) ?_
      rintro r_45 w ⟨iv_46, hk_47, hk_48, rfl⟩
      refine k_ws [(cO11_i1r1i10r1i2r5i2r12i3r4i2 h0 m_thrown a_tape m_taped m_size m_at m_end m_token m_whole m_nameSize m_fault m_place m_trouble a_letters m_failed m_hasHouse a_r a_fresh a_st a_undone a_kept m_undos m_images a_from a_begin a_motor a_change a_startFrame a_changeFrame a_lostAt a_blackAt a_slips a_leftArc a_died a_arcs m_bestSum m_nearest m_nearestTown a_there a_backAt a_sorted a_parts m_seed1 m_darkNow), (cAI g a_r 311 d_r), (cAI g a_st 44 d_st)] rfl ?_
      refine k_if_eq 89 X dX11_weightOf_k3.1.1.2.2 (jp_e rfl) (fun h_49 => ?_) (fun h_49 => ?_)
      · skip
        have iv_50 : IV r_45 0 0 := iv_meet iv_46 (iv_e h_49 iq_0_0_0) (zle_o rfl) (zle_o rfl)
        have hc_51 := hk_48 (iv_eq iv_50 iq_0_0_0)
        have j_52 : z_40.toInt < z_41.toInt ∨ z_43.toInt < z_40.toInt := hc_51
        refine k_bipush (v := 10) X dX11_weightOf_k3.1.2.2.2 bi_10 ?_
        refine k_iload X dX11_weightOf_k3.2.1.1.1 0 rfl ?_
        refine k_isub X dX11_weightOf_k3.2.1.1.2 ?_
        refine k_nm (fun z_53 ez_53 => ?_)
        have i_54 : z_53.toInt = 10 - z_34.toInt := in_sub ez_53 iq_10_10_10 iv_36 (zle_e rfl) (zle_e rfl)
        have iv_55 : IV z_53 1 10 := iz7 i_54 iv_36 (zle_e rfl) (zle_e rfl)
        refine k_i2l X dX11_weightOf_k3.2.1.2.1 ?_
        refine k_nmL (fun y_56 ey_56 => ?_)
        refine k_lmul X dX11_weightOf_k3.2.1.2.2 ?_
        refine k_nmL (fun y_57 ey_57 => ?_)
        refine k_lstore_n [(3, .long y_57), (6, .int z_34), (5, .int u_2), (0, .ref h0), (1, .int p0), (2, .int p1)] X dX11_weightOf_k3.2.2.1.1 (by decide) rfl ?_
        obtain ⟨z_58, ez_58⟩ : ∃ y : Int32, u_2 + Int32.ofInt 1 = y := ⟨_, rfl⟩
        refine k_iinc z_58 [(5, .int z_58), (3, .long y_57), (6, .int z_34), (0, .ref h0), (1, .int p0), (2, .int p1)] 2 X dX11_weightOf_k3.2.2.1.2 rfl ez_58 (nlt_e rfl) rfl ?_
        have i_59 : z_58.toInt = u_2.toInt + 1 := in_inc ez_58 (oin_e rfl) iv_13 (zle_e rfl) (zle_e rfl)
        have iv_60 : IV z_58 1 12 := iz1 i_59 iv_13 (zle_e rfl) (zle_e rfl)
        refine k_goto 5 X dX11_weightOf_k3.2.2.2.1 (jp_e rfl) ?_
        refine k_lv [(5, .int z_58), (3, .long y_57), (0, .ref h0), (1, .int p0), (2, .int p1)] [0, 1, 3, 4, 5] rfl ?_
        exact ih_6 _ (by omega) y_57 z_58 rfl (iv_w iv_60 (zle_e rfl) (zle_e rfl))
      · skip
        have hc_61 := hk_47.resolve_left h_49
        have j_62 : z_41.toInt ≤ z_40.toInt := hc_61.1
        have j_63 : z_40.toInt ≤ z_43.toInt := hc_61.2
        have iv_64 : IV r_45 1 1 := iv_neL h_49 iv_46 iq_0_0_0 (zle_e rfl)
        refine k_iload X dX11_weightOf_k3.1.2.1.1 0 rfl ?_
        refine k_i2l X dX11_weightOf_k3.1.2.1.2 ?_
        refine k_nmL (fun y_65 ey_65 => ?_)
        refine k_goto 95 X dX11_weightOf_k3.1.2.2.1 (jp_e rfl) ?_
        refine k_lmul X dX11_weightOf_k3.2.1.2.2 ?_
        refine k_nmL (fun y_66 ey_66 => ?_)
        refine k_lstore_n [(3, .long y_66), (6, .int z_34), (5, .int u_2), (0, .ref h0), (1, .int p0), (2, .int p1)] X dX11_weightOf_k3.2.2.1.1 (by decide) rfl ?_
        obtain ⟨z_67, ez_67⟩ : ∃ y : Int32, u_2 + Int32.ofInt 1 = y := ⟨_, rfl⟩
        refine k_iinc z_67 [(5, .int z_67), (3, .long y_66), (6, .int z_34), (0, .ref h0), (1, .int p0), (2, .int p1)] 2 X dX11_weightOf_k3.2.2.1.2 rfl ez_67 (nlt_e rfl) rfl ?_
        have i_68 : z_67.toInt = u_2.toInt + 1 := in_inc ez_67 (oin_e rfl) iv_13 (zle_e rfl) (zle_e rfl)
        have iv_69 : IV z_67 1 12 := iz1 i_68 iv_13 (zle_e rfl) (zle_e rfl)
        refine k_goto 5 X dX11_weightOf_k3.2.2.2.1 (jp_e rfl) ?_
        refine k_lv [(5, .int z_67), (3, .long y_66), (0, .ref h0), (1, .int p0), (2, .int p1)] [0, 1, 3, 4, 5] rfl ?_
        exact ih_6 _ (by omega) y_66 z_67 rfl (iv_w iv_69 (zle_e rfl) (zle_e rfl))
    · skip
      refine k_goto 97 X dX11_weightOf_k1.1.2.1.1 (jp_e rfl) ?_
      obtain ⟨z_70, ez_70⟩ : ∃ y : Int32, u_2 + Int32.ofInt 1 = y := ⟨_, rfl⟩
      refine k_iinc z_70 [(5, .int z_70), (3, .long u_1), (0, .ref h0), (1, .int p0), (2, .int p1)] 0 X dX11_weightOf_k3.2.2.1.2 rfl ez_70 (nlt_e rfl) rfl ?_
      have i_71 : z_70.toInt = u_2.toInt + 1 := in_inc ez_70 (oin_e rfl) iv_13 (zle_e rfl) (zle_e rfl)
      have iv_72 : IV z_70 1 12 := iz1 i_71 iv_13 (zle_e rfl) (zle_e rfl)
      refine k_goto 5 X dX11_weightOf_k3.2.2.2.1 (jp_e rfl) ?_
      exact ih_6 _ (by omega) u_1 z_70 rfl (iv_w iv_72 (zle_e rfl) (zle_e rfl))

theorem dX11_allWeights_k0 : ((((dD cX11_allWeights 0 (.lconst 0) 1 ∧ dD cX11_allWeights 1 (.lstore_n 2) 1) ∧ (dD cX11_allWeights 2 (.iconst 0) 1 ∧ dD cX11_allWeights 3 (.istore 4) 2)) ∧ ((dD cX11_allWeights 5 (.iload 4) 2 ∧ dD cX11_allWeights 7 (.aload_n 0) 1) ∧ (dD cX11_allWeights 8 (.getfield 26) 3 ∧ dD cX11_allWeights 11 (.iconst 0) 1))) ∧ (((dD cX11_allWeights 12 (.iload_n 1) 1 ∧ dD cX11_allWeights 13 .iadd 1) ∧ (dD cX11_allWeights 14 .iaload 1 ∧ dD cX11_allWeights 15 (.if_icmp .ge 33) 3)) ∧ ((dD cX11_allWeights 18 (.lload_n 2) 1 ∧ dD cX11_allWeights 19 (.aload_n 0) 1) ∧ (dD cX11_allWeights 20 (.iload_n 1) 1 ∧ dD cX11_allWeights 21 (.iload 4) 2)))) := dkA16 (by decide +kernel)
theorem dX11_allWeights_k1 : (((dD cX11_allWeights 23 (.invokevirtual 397) 3 ∧ (dD cX11_allWeights 26 (.ifCond .eq 13) 3 ∧ dD cX11_allWeights 29 (.aload_n 0) 1)) ∧ ((dD cX11_allWeights 30 (.iload_n 1) 1 ∧ dD cX11_allWeights 31 (.iload 4) 2) ∧ (dD cX11_allWeights 33 (.invokevirtual 400) 3 ∧ dD cX11_allWeights 36 (.goto 4) 3))) ∧ ((dD cX11_allWeights 39 (.lconst 0) 1 ∧ (dD cX11_allWeights 40 .ladd 1 ∧ dD cX11_allWeights 41 (.lstore_n 2) 1)) ∧ ((dD cX11_allWeights 42 (.iinc 4 1) 3 ∧ dD cX11_allWeights 45 (.goto (-40)) 3) ∧ (dD cX11_allWeights 48 (.lload_n 2) 1 ∧ dD cX11_allWeights 49 .lreturn 1)))) := dkA14 (by decide +kernel)
set_option maxHeartbeats 4000000 in
set_option maxRecDepth 100000 in
theorem m_allWeights (l : Launch) (g : Gx) (h0 : Nat) (p0 : Int32) (m_thrown : Int32) (a_tape : Nat) (m_taped : Int32) (m_size : Int32) (m_at : Int32) (m_end : Int32) (m_token : Int32) (m_whole : Int32) (m_nameSize : Int32) (m_fault : Int32) (m_place : Int32) (m_trouble : Int32) (a_letters : Nat) (m_failed : Int32) (m_hasHouse : Int32) (a_r : Nat) (a_fresh : Nat) (a_st : Nat) (a_undone : Nat) (a_kept : Nat) (m_undos : Int32) (m_images : Int32) (a_from : Nat) (a_begin : Nat) (a_motor : Nat) (a_change : Nat) (a_startFrame : Nat) (a_changeFrame : Nat) (a_lostAt : Nat) (a_blackAt : Nat) (a_slips : Nat) (a_leftArc : Nat) (a_died : Nat) (a_arcs : Nat) (m_bestSum : Int32) (m_nearest : Int32) (m_nearestTown : Int32) (a_there : Nat) (a_backAt : Nat) (a_sorted : Nat) (a_parts : Nat) (m_seed1 : Int32) (m_darkNow : Int32) (d_r : Nat → Int32) (d_st : Nat → Int32) (hv_p0 : IV p0 0 7) (hp_d_r : RInv d_r) : cL l g yX11_allWeights cX11_allWeights 5 (some .long) 2 48 0 0 [.ref h0, .int p0] [(cO11_i1r1i10r1i2r5i2r12i3r4i2 h0 m_thrown a_tape m_taped m_size m_at m_end m_token m_whole m_nameSize m_fault m_place m_trouble a_letters m_failed m_hasHouse a_r a_fresh a_st a_undone a_kept m_undos m_images a_from a_begin a_motor a_change a_startFrame a_changeFrame a_lostAt a_blackAt a_slips a_leftArc a_died a_arcs m_bestSum m_nearest m_nearestTown a_there a_backAt a_sorted a_parts m_seed1 m_darkNow), (cAI g a_r 311 d_r), (cAI g a_st 44 d_st)] (fun r w => w = [(cO11_i1r1i10r1i2r5i2r12i3r4i2 h0 m_thrown a_tape m_taped m_size m_at m_end m_token m_whole m_nameSize m_fault m_place m_trouble a_letters m_failed m_hasHouse a_r a_fresh a_st a_undone a_kept m_undos m_images a_from a_begin a_motor a_change a_startFrame a_changeFrame a_lostAt a_blackAt a_slips a_leftArc a_died a_arcs m_bestSum m_nearest m_nearestTown a_there a_backAt a_sorted a_parts m_seed1 m_darkNow), (cAI g a_r 311 d_r), (cAI g a_st 44 d_st)]) := by
  refine cL.of (by decide) (Nat.le_of_ble_eq_true rfl) ?_
  intro p e s m args below meth c A X hr hi
  refine k_lveq [(0, .ref h0), (1, .int p0)] rfl ?_
  refine k_lconst (v := 0) X dX11_allWeights_k0.1.1.1.1 (by decide) ?_
  refine k_lstore_n [(2, .long 0), (0, .ref h0), (1, .int p0)] X dX11_allWeights_k0.1.1.1.2 (by decide) rfl ?_
  refine k_iconst (v := 0) X dX11_allWeights_k0.1.1.2.1 ic_0 ?_
  refine k_istore [(4, .int 0), (2, .long 0), (0, .ref h0), (1, .int p0)] X dX11_allWeights_k0.1.1.2.2 (nlt_e rfl) rfl ?_
  refine (fun hL : ∀ (nn_4 : Nat) (u_1 : Int64) (u_2 : Int32), (2147483647 - u_2.toInt).toNat = nn_4 → (IV u_2 0 2147483647) → Wk p l e _ s m args below meth c _ A g _ _ _ [(cO11_i1r1i10r1i2r5i2r12i3r4i2 h0 m_thrown a_tape m_taped m_size m_at m_end m_token m_whole m_nameSize m_fault m_place m_trouble a_letters m_failed m_hasHouse a_r a_fresh a_st a_undone a_kept m_undos m_images a_from a_begin a_motor a_change a_startFrame a_changeFrame a_lostAt a_blackAt a_slips a_leftArc a_died a_arcs m_bestSum m_nearest m_nearestTown a_there a_backAt a_sorted a_parts m_seed1 m_darkNow), (cAI g a_r 311 d_r), (cAI g a_st 44 d_st)] [(4, .int u_2), (2, .long u_1), (0, .ref h0), (1, .int p0)] 5 [] => hL _ 0 0 rfl (iv_w iq_0_0_0 (zle_e rfl) (zle_e rfl))) ?_
  refine fun nn_4 => Nat.strongRecOn nn_4 (fun nn_4 ih_6 => ?_)
  intro u_1 u_2 hm_5 hv_3
  refine k_iload X dX11_allWeights_k0.1.2.1.1 0 rfl ?_
  refine k_aload_n X dX11_allWeights_k0.1.2.1.2 2 rfl ?_
  refine k_get (ci := 11) X inlX11 rfl 17 (nlt_e rfl) dX11_allWeights_k0.1.2.2.1 mw172 0 rfl rfl ?_
  refine k_iconst (v := 0) X dX11_allWeights_k0.1.2.2.2 ic_0 ?_
  refine k_iload_n X dX11_allWeights_k0.2.1.1.1 3 rfl ?_
  refine k_iadd X dX11_allWeights_k0.2.1.1.2 ?_
  refine k_nm (fun z_7 ez_7 => ?_)
  have i_8 : z_7.toInt = 0 + p0.toInt := in_add ez_7 iq_0_0_0 hv_p0 (zle_e rfl) (zle_e rfl)
  have iv_9 : IV z_7 0 7 := iz2 i_8 hv_p0 (zle_e rfl) (zle_e rfl)
  refine k_iald X dX11_allWeights_k0.2.1.2.1 2 rfl (iv_in iv_9 (zle_e rfl) (zle_l rfl)) ?_
  refine k_nm (fun z_10 ez_10 => ?_)
  refine k_ic_ge 48 X dX11_allWeights_k0.2.1.2.2 (jp_e rfl) (fun h_11 => ?_) (fun h_11 => ?_)
  · skip
    have j_12 : z_10.toInt ≤ u_2.toInt := iv_le h_11
    refine k_lload_n X dX11_allWeights_k1.2.2.2.1 1 rfl ?_
    exact k_lret X hr dX11_allWeights_k1.2.2.2.2 (Nat.le_of_ble_eq_true rfl) (Nat.le_of_ble_eq_true rfl) [0, 1, 2] (vnd_e rfl) rfl rfl rfl
  · skip
    have j_13 : u_2.toInt < z_10.toInt := iv_nle h_11
    have iv_14 : IV u_2 0 2147483646 := iv_ltL (iv_nle h_11) hv_3 (iv_any z_10) (zle_e rfl)
    have iv_15 : IV z_10 1 2147483647 := iv_ltR (iv_nle h_11) hv_3 (iv_any z_10) (zle_e rfl)
    refine k_lload_n X dX11_allWeights_k0.2.2.1.1 1 rfl ?_
    refine k_aload_n X dX11_allWeights_k0.2.2.1.2 2 rfl ?_
    refine k_iload_n X dX11_allWeights_k0.2.2.2.1 3 rfl ?_
    refine k_iload X dX11_allWeights_k0.2.2.2.2 0 rfl ?_
    refine k_callVI (n := 2) (As := [.int p0, .int u_2]) (st := [.long u_1]) X [(cO11_i1r1i10r1i2r5i2r12i3r4i2 h0 m_thrown a_tape m_taped m_size m_at m_end m_token m_whole m_nameSize m_fault m_place m_trouble a_letters m_failed m_hasHouse a_r a_fresh a_st a_undone a_kept m_undos m_images a_from a_begin a_motor a_change a_startFrame a_changeFrame a_lostAt a_blackAt a_slips a_leftArc a_died a_arcs m_bestSum m_nearest m_nearestTown a_there a_backAt a_sorted a_parts m_seed1 m_darkNow), (cAI g a_r 311 d_r), (cAI g a_st 44 d_st)] [] [0, 1, 2] [] (m_isDot l g h0 p0 u_2 m_thrown a_tape m_taped m_size m_at m_end m_token m_whole m_nameSize m_fault m_place m_trouble a_letters m_failed m_hasHouse a_r a_fresh a_st a_undone a_kept m_undos m_images a_from a_begin a_motor a_change a_startFrame a_changeFrame a_lostAt a_blackAt a_slips a_leftArc a_died a_arcs m_bestSum m_nearest m_nearestTown a_there a_backAt a_sorted a_parts m_seed1 m_darkNow d_r d_st (iv_w hv_p0 (zle_e rfl) (zle_e rfl)) hp_d_r) dX11_allWeights_k1.1.1.1 mw1155 mw1156 mw1157 mw5 mw1158 rfl 11 rfl rfl 0 _ rfl yk_yX11_isDot_2 rfl (Nat.le_of_ble_eq_true rfl) (Nat.le_of_ble_eq_true rfl) (Nat.le_of_ble_eq_true rfl) (Nat.le_of_ble_eq_true rfl) (Nat.le_of_ble_eq_true rfl) rfl rfl (vnd_e rfl) rfl (vnd_e rfl) (dsj_e rfl) ?_
    rintro r_16 w ⟨iv_17, rfl⟩
    refine k_ws [(cO11_i1r1i10r1i2r5i2r12i3r4i2 h0 m_thrown a_tape m_taped m_size m_at m_end m_token m_whole m_nameSize m_fault m_place m_trouble a_letters m_failed m_hasHouse a_r a_fresh a_st a_undone a_kept m_undos m_images a_from a_begin a_motor a_change a_startFrame a_changeFrame a_lostAt a_blackAt a_slips a_leftArc a_died a_arcs m_bestSum m_nearest m_nearestTown a_there a_backAt a_sorted a_parts m_seed1 m_darkNow), (cAI g a_r 311 d_r), (cAI g a_st 44 d_st)] rfl ?_
    refine k_if_eq 39 X dX11_allWeights_k1.1.1.2.1 (jp_e rfl) (fun h_18 => ?_) (fun h_18 => ?_)
    · skip
      have iv_19 : IV r_16 0 0 := iv_meet iv_17 (iv_e h_18 iq_0_0_0) (zle_o rfl) (zle_o rfl)
      refine k_lconst (v := 0) X dX11_allWeights_k1.2.1.1 (by decide) ?_
      refine k_ladd X dX11_allWeights_k1.2.1.2.1 ?_
      refine k_nmL (fun y_20 ey_20 => ?_)
      refine k_lstore_n [(2, .long y_20), (4, .int u_2), (0, .ref h0), (1, .int p0)] X dX11_allWeights_k1.2.1.2.2 (by decide) rfl ?_
      obtain ⟨z_21, ez_21⟩ : ∃ y : Int32, u_2 + Int32.ofInt 1 = y := ⟨_, rfl⟩
      refine k_iinc z_21 [(4, .int z_21), (2, .long y_20), (0, .ref h0), (1, .int p0)] 1 X dX11_allWeights_k1.2.2.1.1 rfl ez_21 (nlt_e rfl) rfl ?_
      have i_22 : z_21.toInt = u_2.toInt + 1 := in_inc ez_21 (oin_e rfl) iv_14 (zle_e rfl) (zle_e rfl)
      have iv_23 : IV z_21 1 2147483647 := iz1 i_22 iv_14 (zle_e rfl) (zle_e rfl)
      refine k_goto 5 X dX11_allWeights_k1.2.2.1.2 (jp_e rfl) ?_
      exact ih_6 _ (by omega) y_20 z_21 rfl (iv_w iv_23 (zle_e rfl) (zle_e rfl))
    · skip
      have iv_24 : IV r_16 1 1 := iv_neL h_18 iv_17 iq_0_0_0 (zle_e rfl)
      refine k_aload_n X dX11_allWeights_k1.1.1.2.2 2 rfl ?_
      refine k_iload_n X dX11_allWeights_k1.1.2.1.1 3 rfl ?_
      refine k_iload X dX11_allWeights_k1.1.2.1.2 0 rfl ?_
      refine k_callVL (n := 2) (As := [.int p0, .int u_2]) (st := [.long u_1]) X [(cO11_i1r1i10r1i2r5i2r12i3r4i2 h0 m_thrown a_tape m_taped m_size m_at m_end m_token m_whole m_nameSize m_fault m_place m_trouble a_letters m_failed m_hasHouse a_r a_fresh a_st a_undone a_kept m_undos m_images a_from a_begin a_motor a_change a_startFrame a_changeFrame a_lostAt a_blackAt a_slips a_leftArc a_died a_arcs m_bestSum m_nearest m_nearestTown a_there a_backAt a_sorted a_parts m_seed1 m_darkNow), (cAI g a_r 311 d_r), (cAI g a_st 44 d_st)] [] [0, 1, 2] [] (m_weightOf l g h0 p0 u_2 m_thrown a_tape m_taped m_size m_at m_end m_token m_whole m_nameSize m_fault m_place m_trouble a_letters m_failed m_hasHouse a_r a_fresh a_st a_undone a_kept m_undos m_images a_from a_begin a_motor a_change a_startFrame a_changeFrame a_lostAt a_blackAt a_slips a_leftArc a_died a_arcs m_bestSum m_nearest m_nearestTown a_there a_backAt a_sorted a_parts m_seed1 m_darkNow d_r d_st (iv_w hv_p0 (zle_e rfl) (zle_e rfl)) hp_d_r) dX11_allWeights_k1.1.2.2.1 mw1159 mw1160 mw1161 mw5 mw1162 rfl 11 rfl rfl 0 _ rfl yk_yX11_weightOf_2 rfl (Nat.le_of_ble_eq_true rfl) (Nat.le_of_ble_eq_true rfl) (Nat.le_of_ble_eq_true rfl) (Nat.le_of_ble_eq_true rfl) (Nat.le_of_ble_eq_true rfl) rfl rfl (vnd_e rfl) rfl (vnd_e rfl) (dsj_e rfl) ?_
      rintro r_25 w rfl
      refine k_ws [(cO11_i1r1i10r1i2r5i2r12i3r4i2 h0 m_thrown a_tape m_taped m_size m_at m_end m_token m_whole m_nameSize m_fault m_place m_trouble a_letters m_failed m_hasHouse a_r a_fresh a_st a_undone a_kept m_undos m_images a_from a_begin a_motor a_change a_startFrame a_changeFrame a_lostAt a_blackAt a_slips a_leftArc a_died a_arcs m_bestSum m_nearest m_nearestTown a_there a_backAt a_sorted a_parts m_seed1 m_darkNow), (cAI g a_r 311 d_r), (cAI g a_st 44 d_st)] rfl ?_
      refine k_goto 40 X dX11_allWeights_k1.1.2.2.2 (jp_e rfl) ?_
      refine k_ladd X dX11_allWeights_k1.2.1.2.1 ?_
      refine k_nmL (fun y_26 ey_26 => ?_)
      refine k_lstore_n [(2, .long y_26), (4, .int u_2), (0, .ref h0), (1, .int p0)] X dX11_allWeights_k1.2.1.2.2 (by decide) rfl ?_
      obtain ⟨z_27, ez_27⟩ : ∃ y : Int32, u_2 + Int32.ofInt 1 = y := ⟨_, rfl⟩
      refine k_iinc z_27 [(4, .int z_27), (2, .long y_26), (0, .ref h0), (1, .int p0)] 1 X dX11_allWeights_k1.2.2.1.1 rfl ez_27 (nlt_e rfl) rfl ?_
      have i_28 : z_27.toInt = u_2.toInt + 1 := in_inc ez_27 (oin_e rfl) iv_14 (zle_e rfl) (zle_e rfl)
      have iv_29 : IV z_27 1 2147483647 := iz1 i_28 iv_14 (zle_e rfl) (zle_e rfl)
      refine k_goto 5 X dX11_allWeights_k1.2.2.1.2 (jp_e rfl) ?_
      exact ih_6 _ (by omega) y_26 z_27 rfl (iv_w iv_29 (zle_e rfl) (zle_e rfl))

theorem dX11_likeliest_k0 : ((((dD cX11_likeliest 0 (.aload_n 0) 1 ∧ dD cX11_likeliest 1 (.invokevirtual 200) 3) ∧ (dD cX11_likeliest 4 (.aload_n 0) 1 ∧ dD cX11_likeliest 5 (.iload_n 1) 1)) ∧ ((dD cX11_likeliest 6 (.invokevirtual 327) 3 ∧ dD cX11_likeliest 9 (.ifCond .ne 9) 3) ∧ (dD cX11_likeliest 12 (.aload_n 0) 1 ∧ dD cX11_likeliest 13 (.iconst 1) 1))) ∧ (((dD cX11_likeliest 14 (.invokevirtual 203) 3 ∧ dD cX11_likeliest 17 .ireturn 1) ∧ (dD cX11_likeliest 18 (.iconst (-1)) 1 ∧ dD cX11_likeliest 19 (.istore_n 2) 1)) ∧ ((dD cX11_likeliest 20 (.iconst 0) 1 ∧ dD cX11_likeliest 21 (.istore_n 3) 1) ∧ (dD cX11_likeliest 22 (.iload_n 3) 1 ∧ dD cX11_likeliest 23 (.aload_n 0) 1)))) := dkA16 (by decide +kernel)
theorem dX11_likeliest_k1 : ((((dD cX11_likeliest 24 (.getfield 26) 3 ∧ dD cX11_likeliest 27 (.iconst 0) 1) ∧ (dD cX11_likeliest 28 (.iload_n 1) 1 ∧ dD cX11_likeliest 29 .iadd 1)) ∧ ((dD cX11_likeliest 30 .iaload 1 ∧ dD cX11_likeliest 31 (.if_icmp .ge 40) 3) ∧ (dD cX11_likeliest 34 (.aload_n 0) 1 ∧ dD cX11_likeliest 35 (.iload_n 1) 1))) ∧ (((dD cX11_likeliest 36 (.iload_n 3) 1 ∧ dD cX11_likeliest 37 (.invokevirtual 397) 3) ∧ (dD cX11_likeliest 40 (.ifCond .eq 25) 3 ∧ dD cX11_likeliest 43 (.iload_n 2) 1)) ∧ ((dD cX11_likeliest 44 (.ifCond .lt 19) 3 ∧ dD cX11_likeliest 47 (.aload_n 0) 1) ∧ (dD cX11_likeliest 48 (.iload_n 1) 1 ∧ dD cX11_likeliest 49 (.iload_n 3) 1)))) := dkA16 (by decide +kernel)
theorem dX11_likeliest_k2 : (((dD cX11_likeliest 50 (.invokevirtual 400) 3 ∧ (dD cX11_likeliest 53 (.aload_n 0) 1 ∧ dD cX11_likeliest 54 (.iload_n 1) 1)) ∧ (dD cX11_likeliest 55 (.iload_n 2) 1 ∧ (dD cX11_likeliest 56 (.invokevirtual 400) 3 ∧ dD cX11_likeliest 59 .lcmp 1))) ∧ ((dD cX11_likeliest 60 (.ifCond .le 5) 3 ∧ (dD cX11_likeliest 63 (.iload_n 3) 1 ∧ dD cX11_likeliest 64 (.istore_n 2) 1)) ∧ ((dD cX11_likeliest 65 (.iinc 3 1) 3 ∧ dD cX11_likeliest 68 (.goto (-46)) 3) ∧ (dD cX11_likeliest 71 (.iload_n 2) 1 ∧ dD cX11_likeliest 72 .ireturn 1)))) := dkA13 (by decide +kernel)
set_option maxHeartbeats 4000000 in
set_option maxRecDepth 100000 in
theorem m_likeliest (l : Launch) (g : Gx) (h0 : Nat) (p0 : Int32) (m_thrown : Int32) (a_tape : Nat) (m_taped : Int32) (m_size : Int32) (m_at : Int32) (m_end : Int32) (m_token : Int32) (m_whole : Int32) (m_nameSize : Int32) (m_fault : Int32) (m_place : Int32) (m_trouble : Int32) (a_letters : Nat) (m_failed : Int32) (m_hasHouse : Int32) (a_r : Nat) (a_fresh : Nat) (a_st : Nat) (a_undone : Nat) (a_kept : Nat) (m_undos : Int32) (m_images : Int32) (a_from : Nat) (a_begin : Nat) (a_motor : Nat) (a_change : Nat) (a_startFrame : Nat) (a_changeFrame : Nat) (a_lostAt : Nat) (a_blackAt : Nat) (a_slips : Nat) (a_leftArc : Nat) (a_died : Nat) (a_arcs : Nat) (m_bestSum : Int32) (m_nearest : Int32) (m_nearestTown : Int32) (a_there : Nat) (a_backAt : Nat) (a_sorted : Nat) (a_parts : Nat) (m_seed1 : Int32) (m_darkNow : Int32) (d_r : Nat → Int32) (d_st : Nat → Int32) (hv_m_hasHouse : IV m_hasHouse 0 1) (hp_d_r : RInv d_r) : cI l g yX11_likeliest cX11_likeliest 4 (some .int) 2 48 0 0 [.ref h0, .int p0] [(cO11_i1r1i10r1i2r5i2r12i3r4i2 h0 m_thrown a_tape m_taped m_size m_at m_end m_token m_whole m_nameSize m_fault m_place m_trouble a_letters m_failed m_hasHouse a_r a_fresh a_st a_undone a_kept m_undos m_images a_from a_begin a_motor a_change a_startFrame a_changeFrame a_lostAt a_blackAt a_slips a_leftArc a_died a_arcs m_bestSum m_nearest m_nearestTown a_there a_backAt a_sorted a_parts m_seed1 m_darkNow), (cAI g a_r 311 d_r), (cAI g a_st 44 d_st)] (fun r w => ∃ (m_thrown2 : Int32) (m_trouble2 : Int32), w = [(cO11_i1r1i10r1i2r5i2r12i3r4i2 h0 m_thrown2 a_tape m_taped m_size m_at m_end m_token m_whole m_nameSize m_fault m_place m_trouble2 a_letters m_failed m_hasHouse a_r a_fresh a_st a_undone a_kept m_undos m_images a_from a_begin a_motor a_change a_startFrame a_changeFrame a_lostAt a_blackAt a_slips a_leftArc a_died a_arcs m_bestSum m_nearest m_nearestTown a_there a_backAt a_sorted a_parts m_seed1 m_darkNow), (cAI g a_r 311 d_r), (cAI g a_st 44 d_st)]) := by
  refine cI.of (by decide) (Nat.le_of_ble_eq_true rfl) ?_
  intro p e s m args below meth c A X hr hi
  refine k_lveq [(0, .ref h0), (1, .int p0)] rfl ?_
  refine k_aload_n X dX11_likeliest_k0.1.1.1.1 0 rfl ?_
  refine k_callVV (n := 0) (As := []) (st := []) X [(cO11_i1r1i10r1i2r5i2r12i3r4i2 h0 m_thrown a_tape m_taped m_size m_at m_end m_token m_whole m_nameSize m_fault m_place m_trouble a_letters m_failed m_hasHouse a_r a_fresh a_st a_undone a_kept m_undos m_images a_from a_begin a_motor a_change a_startFrame a_changeFrame a_lostAt a_blackAt a_slips a_leftArc a_died a_arcs m_bestSum m_nearest m_nearestTown a_there a_backAt a_sorted a_parts m_seed1 m_darkNow)] [(cAI g a_r 311 d_r), (cAI g a_st 44 d_st)] [0] [1, 2] (m_good l g h0 m_thrown a_tape m_taped m_size m_at m_end m_token m_whole m_nameSize m_fault m_place m_trouble a_letters m_failed m_hasHouse a_r a_fresh a_st a_undone a_kept m_undos m_images a_from a_begin a_motor a_change a_startFrame a_changeFrame a_lostAt a_blackAt a_slips a_leftArc a_died a_arcs m_bestSum m_nearest m_nearestTown a_there a_backAt a_sorted a_parts m_seed1 m_darkNow) dX11_likeliest_k0.1.1.1.2 mw477 mw478 mw479 mw5 mw480 rfl 11 rfl rfl 0 _ rfl yk_yX11_good_0 rfl (Nat.le_of_ble_eq_true rfl) (Nat.le_of_ble_eq_true rfl) (Nat.le_of_ble_eq_true rfl) (Nat.le_of_ble_eq_true rfl) (Nat.le_of_ble_eq_true rfl) rfl rfl (vnd_e rfl) rfl (vnd_e rfl) (dsj_e rfl) ?_
  rintro w ⟨m_thrown2_1, m_trouble2_2, rfl⟩
  refine k_ws [(cAI g a_r 311 d_r), (cAI g a_st 44 d_st), (cO11_i1r1i10r1i2r5i2r12i3r4i2 h0 m_thrown2_1 a_tape m_taped m_size m_at m_end m_token m_whole m_nameSize m_fault m_place m_trouble2_2 a_letters m_failed m_hasHouse a_r a_fresh a_st a_undone a_kept m_undos m_images a_from a_begin a_motor a_change a_startFrame a_changeFrame a_lostAt a_blackAt a_slips a_leftArc a_died a_arcs m_bestSum m_nearest m_nearestTown a_there a_backAt a_sorted a_parts m_seed1 m_darkNow)] rfl ?_
  refine k_aload_n X dX11_likeliest_k0.1.1.2.1 0 rfl ?_
  refine k_iload_n X dX11_likeliest_k0.1.1.2.2 1 rfl ?_
  refine k_callVI (n := 1) (As := [.int p0]) (st := []) X [(cO11_i1r1i10r1i2r5i2r12i3r4i2 h0 m_thrown2_1 a_tape m_taped m_size m_at m_end m_token m_whole m_nameSize m_fault m_place m_trouble2_2 a_letters m_failed m_hasHouse a_r a_fresh a_st a_undone a_kept m_undos m_images a_from a_begin a_motor a_change a_startFrame a_changeFrame a_lostAt a_blackAt a_slips a_leftArc a_died a_arcs m_bestSum m_nearest m_nearestTown a_there a_backAt a_sorted a_parts m_seed1 m_darkNow), (cAI g a_r 311 d_r)] [(cAI g a_st 44 d_st)] [2, 0] [1] (m_isReel l g h0 p0 m_thrown2_1 a_tape m_taped m_size m_at m_end m_token m_whole m_nameSize m_fault m_place m_trouble2_2 a_letters m_failed m_hasHouse a_r a_fresh a_st a_undone a_kept m_undos m_images a_from a_begin a_motor a_change a_startFrame a_changeFrame a_lostAt a_blackAt a_slips a_leftArc a_died a_arcs m_bestSum m_nearest m_nearestTown a_there a_backAt a_sorted a_parts m_seed1 m_darkNow d_r (iv_w hv_m_hasHouse (zle_e rfl) (zle_e rfl)) hp_d_r) dX11_likeliest_k0.1.2.1.1 mw670 mw671 mw672 mw5 mw673 rfl 11 rfl rfl 0 _ rfl yk_yX11_isReel_1 rfl (Nat.le_of_ble_eq_true rfl) (Nat.le_of_ble_eq_true rfl) (Nat.le_of_ble_eq_true rfl) (Nat.le_of_ble_eq_true rfl) (Nat.le_of_ble_eq_true rfl) rfl rfl (vnd_e rfl) rfl (vnd_e rfl) (dsj_e rfl) ?_
  rintro r_4 w ⟨iv_5, hk_6, rfl⟩
  refine k_ws [(cAI g a_st 44 d_st), (cO11_i1r1i10r1i2r5i2r12i3r4i2 h0 m_thrown2_1 a_tape m_taped m_size m_at m_end m_token m_whole m_nameSize m_fault m_place m_trouble2_2 a_letters m_failed m_hasHouse a_r a_fresh a_st a_undone a_kept m_undos m_images a_from a_begin a_motor a_change a_startFrame a_changeFrame a_lostAt a_blackAt a_slips a_leftArc a_died a_arcs m_bestSum m_nearest m_nearestTown a_there a_backAt a_sorted a_parts m_seed1 m_darkNow), (cAI g a_r 311 d_r)] rfl ?_
  refine k_if_ne 18 X dX11_likeliest_k0.1.2.1.2 (jp_e rfl) (fun h_7 => ?_) (fun h_7 => ?_)
  · skip
    have hc_8 := hk_6.resolve_left h_7
    have iv_9 : IV p0 0 7 := iv_meet (iv_any p0) hc_8 (zle_o rfl) (zle_o rfl)
    have iv_10 : IV r_4 1 1 := iv_neL h_7 iv_5 iq_0_0_0 (zle_e rfl)
    refine k_iconst (v := -1) X dX11_likeliest_k0.2.1.2.1 ic_m1 ?_
    refine k_istore_n [(2, .int (-1)), (0, .ref h0), (1, .int p0)] X dX11_likeliest_k0.2.1.2.2 (nlt_e rfl) rfl ?_
    refine k_iconst (v := 0) X dX11_likeliest_k0.2.2.1.1 ic_0 ?_
    refine k_istore_n [(3, .int 0), (2, .int (-1)), (0, .ref h0), (1, .int p0)] X dX11_likeliest_k0.2.2.1.2 (nlt_e rfl) rfl ?_
    refine (fun hL : ∀ (nn_15 : Nat) (u_11 : Int32) (u_13 : Int32), (2147483647 - u_13.toInt).toNat = nn_15 → (IV u_11 (-1) 2147483647) → (IV u_13 0 2147483647) → Wk p l e _ s m args below meth c _ A g _ _ _ [(cAI g a_st 44 d_st), (cO11_i1r1i10r1i2r5i2r12i3r4i2 h0 m_thrown2_1 a_tape m_taped m_size m_at m_end m_token m_whole m_nameSize m_fault m_place m_trouble2_2 a_letters m_failed m_hasHouse a_r a_fresh a_st a_undone a_kept m_undos m_images a_from a_begin a_motor a_change a_startFrame a_changeFrame a_lostAt a_blackAt a_slips a_leftArc a_died a_arcs m_bestSum m_nearest m_nearestTown a_there a_backAt a_sorted a_parts m_seed1 m_darkNow), (cAI g a_r 311 d_r)] [(3, .int u_13), (2, .int u_11), (0, .ref h0), (1, .int p0)] 22 [] => hL _ ((-1)) 0 rfl (iv_w iq_m1_m1_m1 (zle_e rfl) (zle_e rfl)) (iv_w iq_0_0_0 (zle_e rfl) (zle_e rfl))) ?_
    refine fun nn_15 => Nat.strongRecOn nn_15 (fun nn_15 ih_17 => ?_)
    intro u_11 u_13 hm_16 hv_12 hv_14
    refine k_iload_n X dX11_likeliest_k0.2.2.2.1 0 rfl ?_
    refine k_aload_n X dX11_likeliest_k0.2.2.2.2 2 rfl ?_
    refine k_get (ci := 11) X inlX11 rfl 17 (nlt_e rfl) dX11_likeliest_k1.1.1.1.1 mw172 1 rfl rfl ?_
    refine k_iconst (v := 0) X dX11_likeliest_k1.1.1.1.2 ic_0 ?_
    refine k_iload_n X dX11_likeliest_k1.1.1.2.1 3 rfl ?_
    refine k_iadd X dX11_likeliest_k1.1.1.2.2 ?_
    refine k_nm (fun z_18 ez_18 => ?_)
    have i_19 : z_18.toInt = 0 + p0.toInt := in_add ez_18 iq_0_0_0 iv_9 (zle_e rfl) (zle_e rfl)
    have iv_20 : IV z_18 0 7 := iz2 i_19 iv_9 (zle_e rfl) (zle_e rfl)
    refine k_iald X dX11_likeliest_k1.1.2.1.1 0 rfl (iv_in iv_20 (zle_e rfl) (zle_l rfl)) ?_
    refine k_nm (fun z_21 ez_21 => ?_)
    refine k_ic_ge 71 X dX11_likeliest_k1.1.2.1.2 (jp_e rfl) (fun h_22 => ?_) (fun h_22 => ?_)
    · skip
      have j_23 : z_21.toInt ≤ u_13.toInt := iv_le h_22
      refine k_iload_n X dX11_likeliest_k2.2.2.2.1 1 rfl ?_
      exact k_iret X hr dX11_likeliest_k2.2.2.2.2 (Nat.le_of_ble_eq_true rfl) (Nat.le_of_ble_eq_true rfl) [1, 2, 0] (vnd_e rfl) rfl rfl ⟨m_thrown2_1, m_trouble2_2, rfl⟩
    · skip
      have j_24 : u_13.toInt < z_21.toInt := iv_nle h_22
      have iv_25 : IV u_13 0 2147483646 := iv_ltL (iv_nle h_22) hv_14 (iv_any z_21) (zle_e rfl)
      have iv_26 : IV z_21 1 2147483647 := iv_ltR (iv_nle h_22) hv_14 (iv_any z_21) (zle_e rfl)
      refine k_aload_n X dX11_likeliest_k1.1.2.2.1 2 rfl ?_
      refine k_iload_n X dX11_likeliest_k1.1.2.2.2 3 rfl ?_
      refine k_iload_n X dX11_likeliest_k1.2.1.1.1 0 rfl ?_
      refine k_callVI (n := 2) (As := [.int p0, .int u_13]) (st := []) X [(cO11_i1r1i10r1i2r5i2r12i3r4i2 h0 m_thrown2_1 a_tape m_taped m_size m_at m_end m_token m_whole m_nameSize m_fault m_place m_trouble2_2 a_letters m_failed m_hasHouse a_r a_fresh a_st a_undone a_kept m_undos m_images a_from a_begin a_motor a_change a_startFrame a_changeFrame a_lostAt a_blackAt a_slips a_leftArc a_died a_arcs m_bestSum m_nearest m_nearestTown a_there a_backAt a_sorted a_parts m_seed1 m_darkNow), (cAI g a_r 311 d_r), (cAI g a_st 44 d_st)] [] [1, 2, 0] [] (m_isDot l g h0 p0 u_13 m_thrown2_1 a_tape m_taped m_size m_at m_end m_token m_whole m_nameSize m_fault m_place m_trouble2_2 a_letters m_failed m_hasHouse a_r a_fresh a_st a_undone a_kept m_undos m_images a_from a_begin a_motor a_change a_startFrame a_changeFrame a_lostAt a_blackAt a_slips a_leftArc a_died a_arcs m_bestSum m_nearest m_nearestTown a_there a_backAt a_sorted a_parts m_seed1 m_darkNow d_r d_st (iv_w iv_9 (zle_e rfl) (zle_e rfl)) hp_d_r) dX11_likeliest_k1.2.1.1.2 mw1155 mw1156 mw1157 mw5 mw1158 rfl 11 rfl rfl 0 _ rfl yk_yX11_isDot_2 rfl (Nat.le_of_ble_eq_true rfl) (Nat.le_of_ble_eq_true rfl) (Nat.le_of_ble_eq_true rfl) (Nat.le_of_ble_eq_true rfl) (Nat.le_of_ble_eq_true rfl) rfl rfl (vnd_e rfl) rfl (vnd_e rfl) (dsj_e rfl) ?_
      rintro r_27 w ⟨iv_28, rfl⟩
      refine k_ws [(cO11_i1r1i10r1i2r5i2r12i3r4i2 h0 m_thrown2_1 a_tape m_taped m_size m_at m_end m_token m_whole m_nameSize m_fault m_place m_trouble2_2 a_letters m_failed m_hasHouse a_r a_fresh a_st a_undone a_kept m_undos m_images a_from a_begin a_motor a_change a_startFrame a_changeFrame a_lostAt a_blackAt a_slips a_leftArc a_died a_arcs m_bestSum m_nearest m_nearestTown a_there a_backAt a_sorted a_parts m_seed1 m_darkNow), (cAI g a_r 311 d_r), (cAI g a_st 44 d_st)] rfl ?_
      refine k_if_eq 65 X dX11_likeliest_k1.2.1.2.1 (jp_e rfl) (fun h_29 => ?_) (fun h_29 => ?_)
      · skip
        have iv_30 : IV r_27 0 0 := iv_meet iv_28 (iv_e h_29 iq_0_0_0) (zle_o rfl) (zle_o rfl)
        obtain ⟨z_31, ez_31⟩ : ∃ y : Int32, u_13 + Int32.ofInt 1 = y := ⟨_, rfl⟩
        refine k_iinc z_31 [(3, .int z_31), (2, .int u_11), (0, .ref h0), (1, .int p0)] 0 X dX11_likeliest_k2.2.2.1.1 rfl ez_31 (nlt_e rfl) rfl ?_
        have i_32 : z_31.toInt = u_13.toInt + 1 := in_inc ez_31 (oin_e rfl) iv_25 (zle_e rfl) (zle_e rfl)
        have iv_33 : IV z_31 1 2147483647 := iz1 i_32 iv_25 (zle_e rfl) (zle_e rfl)
        refine k_goto 22 X dX11_likeliest_k2.2.2.1.2 (jp_e rfl) ?_
        refine k_sub [(cAI g a_st 44 d_st), (cO11_i1r1i10r1i2r5i2r12i3r4i2 h0 m_thrown2_1 a_tape m_taped m_size m_at m_end m_token m_whole m_nameSize m_fault m_place m_trouble2_2 a_letters m_failed m_hasHouse a_r a_fresh a_st a_undone a_kept m_undos m_images a_from a_begin a_motor a_change a_startFrame a_changeFrame a_lostAt a_blackAt a_slips a_leftArc a_died a_arcs m_bestSum m_nearest m_nearestTown a_there a_backAt a_sorted a_parts m_seed1 m_darkNow), (cAI g a_r 311 d_r)] [2, 0, 1] rfl (by decide) rfl ?_
        exact ih_17 _ (by omega) u_11 z_31 rfl (iv_w hv_12 (zle_e rfl) (zle_e rfl)) (iv_w iv_33 (zle_e rfl) (zle_e rfl))
      · skip
        have iv_34 : IV r_27 1 1 := iv_neL h_29 iv_28 iq_0_0_0 (zle_e rfl)
        refine k_iload_n X dX11_likeliest_k1.2.1.2.2 1 rfl ?_
        refine k_if_lt 63 X dX11_likeliest_k1.2.2.1.1 (jp_e rfl) (fun h_35 => ?_) (fun h_35 => ?_)
        · skip
          have j_36 : u_11.toInt < 0 := iv_lt h_35
          have iv_37 : IV u_11 (-1) (-1) := iv_ltL (iv_lt h_35) hv_12 iq_0_0_0 (zle_e rfl)
          refine k_iload_n X dX11_likeliest_k2.2.1.2.1 0 rfl ?_
          refine k_istore_n [(2, .int u_13), (3, .int u_13), (0, .ref h0), (1, .int p0)] X dX11_likeliest_k2.2.1.2.2 (nlt_e rfl) rfl ?_
          obtain ⟨z_38, ez_38⟩ : ∃ y : Int32, u_13 + Int32.ofInt 1 = y := ⟨_, rfl⟩
          refine k_iinc z_38 [(3, .int z_38), (2, .int u_13), (0, .ref h0), (1, .int p0)] 1 X dX11_likeliest_k2.2.2.1.1 rfl ez_38 (nlt_e rfl) rfl ?_
          have i_39 : z_38.toInt = u_13.toInt + 1 := in_inc ez_38 (oin_e rfl) iv_25 (zle_e rfl) (zle_e rfl)
          have iv_40 : IV z_38 1 2147483647 := iz1 i_39 iv_25 (zle_e rfl) (zle_e rfl)
          refine k_goto 22 X dX11_likeliest_k2.2.2.1.2 (jp_e rfl) ?_
          refine k_sub [(cAI g a_st 44 d_st), (cO11_i1r1i10r1i2r5i2r12i3r4i2 h0 m_thrown2_1 a_tape m_taped m_size m_at m_end m_token m_whole m_nameSize m_fault m_place m_trouble2_2 a_letters m_failed m_hasHouse a_r a_fresh a_st a_undone a_kept m_undos m_images a_from a_begin a_motor a_change a_startFrame a_changeFrame a_lostAt a_blackAt a_slips a_leftArc a_died a_arcs m_bestSum m_nearest m_nearestTown a_there a_backAt a_sorted a_parts m_seed1 m_darkNow), (cAI g a_r 311 d_r)] [2, 0, 1] rfl (by decide) rfl ?_
          exact ih_17 _ (by omega) u_13 z_38 rfl (iv_w iv_25 (zle_e rfl) (zle_e rfl)) (iv_w iv_40 (zle_e rfl) (zle_e rfl))
        · skip
          have j_41 : 0 ≤ u_11.toInt := iv_nlt h_35
          have iv_42 : IV u_11 0 2147483647 := iv_leR (iv_nlt h_35) iq_0_0_0 hv_12 (zle_e rfl)
          refine k_aload_n X dX11_likeliest_k1.2.2.1.2 2 rfl ?_
          refine k_iload_n X dX11_likeliest_k1.2.2.2.1 3 rfl ?_
          refine k_iload_n X dX11_likeliest_k1.2.2.2.2 0 rfl ?_
          refine k_callVL (n := 2) (As := [.int p0, .int u_13]) (st := []) X [(cO11_i1r1i10r1i2r5i2r12i3r4i2 h0 m_thrown2_1 a_tape m_taped m_size m_at m_end m_token m_whole m_nameSize m_fault m_place m_trouble2_2 a_letters m_failed m_hasHouse a_r a_fresh a_st a_undone a_kept m_undos m_images a_from a_begin a_motor a_change a_startFrame a_changeFrame a_lostAt a_blackAt a_slips a_leftArc a_died a_arcs m_bestSum m_nearest m_nearestTown a_there a_backAt a_sorted a_parts m_seed1 m_darkNow), (cAI g a_r 311 d_r), (cAI g a_st 44 d_st)] [] [0, 1, 2] [] (m_weightOf l g h0 p0 u_13 m_thrown2_1 a_tape m_taped m_size m_at m_end m_token m_whole m_nameSize m_fault m_place m_trouble2_2 a_letters m_failed m_hasHouse a_r a_fresh a_st a_undone a_kept m_undos m_images a_from a_begin a_motor a_change a_startFrame a_changeFrame a_lostAt a_blackAt a_slips a_leftArc a_died a_arcs m_bestSum m_nearest m_nearestTown a_there a_backAt a_sorted a_parts m_seed1 m_darkNow d_r d_st (iv_w iv_9 (zle_e rfl) (zle_e rfl)) hp_d_r) dX11_likeliest_k2.1.1.1 mw1159 mw1160 mw1161 mw5 mw1162 rfl 11 rfl rfl 0 _ rfl yk_yX11_weightOf_2 rfl (Nat.le_of_ble_eq_true rfl) (Nat.le_of_ble_eq_true rfl) (Nat.le_of_ble_eq_true rfl) (Nat.le_of_ble_eq_true rfl) (Nat.le_of_ble_eq_true rfl) rfl rfl (vnd_e rfl) rfl (vnd_e rfl) (dsj_e rfl) ?_
          rintro r_43 w rfl
          refine k_ws [(cO11_i1r1i10r1i2r5i2r12i3r4i2 h0 m_thrown2_1 a_tape m_taped m_size m_at m_end m_token m_whole m_nameSize m_fault m_place m_trouble2_2 a_letters m_failed m_hasHouse a_r a_fresh a_st a_undone a_kept m_undos m_images a_from a_begin a_motor a_change a_startFrame a_changeFrame a_lostAt a_blackAt a_slips a_leftArc a_died a_arcs m_bestSum m_nearest m_nearestTown a_there a_backAt a_sorted a_parts m_seed1 m_darkNow), (cAI g a_r 311 d_r), (cAI g a_st 44 d_st)] rfl ?_
          refine k_aload_n X dX11_likeliest_k2.1.1.2.1 2 rfl ?_
          refine k_iload_n X dX11_likeliest_k2.1.1.2.2 3 rfl ?_
          refine k_iload_n X dX11_likeliest_k2.1.2.1 1 rfl ?_
          refine k_callVL (n := 2) (As := [.int p0, .int u_11]) (st := [.long r_43]) X [(cO11_i1r1i10r1i2r5i2r12i3r4i2 h0 m_thrown2_1 a_tape m_taped m_size m_at m_end m_token m_whole m_nameSize m_fault m_place m_trouble2_2 a_letters m_failed m_hasHouse a_r a_fresh a_st a_undone a_kept m_undos m_images a_from a_begin a_motor a_change a_startFrame a_changeFrame a_lostAt a_blackAt a_slips a_leftArc a_died a_arcs m_bestSum m_nearest m_nearestTown a_there a_backAt a_sorted a_parts m_seed1 m_darkNow), (cAI g a_r 311 d_r), (cAI g a_st 44 d_st)] [] [0, 1, 2] [] (m_weightOf l g h0 p0 u_11 m_thrown2_1 a_tape m_taped m_size m_at m_end m_token m_whole m_nameSize m_fault m_place m_trouble2_2 a_letters m_failed m_hasHouse a_r a_fresh a_st a_undone a_kept m_undos m_images a_from a_begin a_motor a_change a_startFrame a_changeFrame a_lostAt a_blackAt a_slips a_leftArc a_died a_arcs m_bestSum m_nearest m_nearestTown a_there a_backAt a_sorted a_parts m_seed1 m_darkNow d_r d_st (iv_w iv_9 (zle_e rfl) (zle_e rfl)) hp_d_r) dX11_likeliest_k2.1.2.2.1 mw1159 mw1160 mw1161 mw5 mw1162 rfl 11 rfl rfl 0 _ rfl yk_yX11_weightOf_2 rfl (Nat.le_of_ble_eq_true rfl) (Nat.le_of_ble_eq_true rfl) (Nat.le_of_ble_eq_true rfl) (Nat.le_of_ble_eq_true rfl) (Nat.le_of_ble_eq_true rfl) rfl rfl (vnd_e rfl) rfl (vnd_e rfl) (dsj_e rfl) ?_
          rintro r_44 w rfl
          refine k_ws [(cO11_i1r1i10r1i2r5i2r12i3r4i2 h0 m_thrown2_1 a_tape m_taped m_size m_at m_end m_token m_whole m_nameSize m_fault m_place m_trouble2_2 a_letters m_failed m_hasHouse a_r a_fresh a_st a_undone a_kept m_undos m_images a_from a_begin a_motor a_change a_startFrame a_changeFrame a_lostAt a_blackAt a_slips a_leftArc a_died a_arcs m_bestSum m_nearest m_nearestTown a_there a_backAt a_sorted a_parts m_seed1 m_darkNow), (cAI g a_r 311 d_r), (cAI g a_st 44 d_st)] rfl ?_
          refine k_lcmp X dX11_likeliest_k2.1.2.2.2 ?_
          refine k_nm (fun z_45 ez_45 => ?_)
          refine k_if_le 65 X dX11_likeliest_k2.2.1.1 (jp_e rfl) (fun h_46 => ?_) (fun h_46 => ?_)
          · skip
            have j_47 : z_45.toInt ≤ 0 := iv_le h_46
            have iv_48 : IV z_45 (-2147483648) 0 := iv_leL (iv_le h_46) (iv_any z_45) iq_0_0_0 (zle_e rfl)
            obtain ⟨z_49, ez_49⟩ : ∃ y : Int32, u_13 + Int32.ofInt 1 = y := ⟨_, rfl⟩
            refine k_iinc z_49 [(3, .int z_49), (2, .int u_11), (0, .ref h0), (1, .int p0)] 0 X dX11_likeliest_k2.2.2.1.1 rfl ez_49 (nlt_e rfl) rfl ?_
            have i_50 : z_49.toInt = u_13.toInt + 1 := in_inc ez_49 (oin_e rfl) iv_25 (zle_e rfl) (zle_e rfl)
            have iv_51 : IV z_49 1 2147483647 := iz1 i_50 iv_25 (zle_e rfl) (zle_e rfl)
            refine k_goto 22 X dX11_likeliest_k2.2.2.1.2 (jp_e rfl) ?_
            refine k_sub [(cAI g a_st 44 d_st), (cO11_i1r1i10r1i2r5i2r12i3r4i2 h0 m_thrown2_1 a_tape m_taped m_size m_at m_end m_token m_whole m_nameSize m_fault m_place m_trouble2_2 a_letters m_failed m_hasHouse a_r a_fresh a_st a_undone a_kept m_undos m_images a_from a_begin a_motor a_change a_startFrame a_changeFrame a_lostAt a_blackAt a_slips a_leftArc a_died a_arcs m_bestSum m_nearest m_nearestTown a_there a_backAt a_sorted a_parts m_seed1 m_darkNow), (cAI g a_r 311 d_r)] [2, 0, 1] rfl (by decide) rfl ?_
            exact ih_17 _ (by omega) u_11 z_49 rfl (iv_w iv_42 (zle_e rfl) (zle_e rfl)) (iv_w iv_51 (zle_e rfl) (zle_e rfl))
          · skip
            have j_52 : 0 < z_45.toInt := iv_nle h_46
            have iv_53 : IV z_45 1 2147483647 := iv_ltR (iv_nle h_46) iq_0_0_0 (iv_any z_45) (zle_e rfl)
            refine k_iload_n X dX11_likeliest_k2.2.1.2.1 0 rfl ?_
            refine k_istore_n [(2, .int u_13), (3, .int u_13), (0, .ref h0), (1, .int p0)] X dX11_likeliest_k2.2.1.2.2 (nlt_e rfl) rfl ?_
            obtain ⟨z_54, ez_54⟩ : ∃ y : Int32, u_13 + Int32.ofInt 1 = y := ⟨_, rfl⟩
            refine k_iinc z_54 [(3, .int z_54), (2, .int u_13), (0, .ref h0), (1, .int p0)] 1 X dX11_likeliest_k2.2.2.1.1 rfl ez_54 (nlt_e rfl) rfl ?_
            have i_55 : z_54.toInt = u_13.toInt + 1 := in_inc ez_54 (oin_e rfl) iv_25 (zle_e rfl) (zle_e rfl)
            have iv_56 : IV z_54 1 2147483647 := iz1 i_55 iv_25 (zle_e rfl) (zle_e rfl)
            refine k_goto 22 X dX11_likeliest_k2.2.2.1.2 (jp_e rfl) ?_
            refine k_sub [(cAI g a_st 44 d_st), (cO11_i1r1i10r1i2r5i2r12i3r4i2 h0 m_thrown2_1 a_tape m_taped m_size m_at m_end m_token m_whole m_nameSize m_fault m_place m_trouble2_2 a_letters m_failed m_hasHouse a_r a_fresh a_st a_undone a_kept m_undos m_images a_from a_begin a_motor a_change a_startFrame a_changeFrame a_lostAt a_blackAt a_slips a_leftArc a_died a_arcs m_bestSum m_nearest m_nearestTown a_there a_backAt a_sorted a_parts m_seed1 m_darkNow), (cAI g a_r 311 d_r)] [2, 0, 1] rfl (by decide) rfl ?_
            exact ih_17 _ (by omega) u_13 z_54 rfl (iv_w iv_25 (zle_e rfl) (zle_e rfl)) (iv_w iv_56 (zle_e rfl) (zle_e rfl))
  · skip
    have iv_57 : IV r_4 0 0 := iv_meet iv_5 (iv_e h_7 iq_0_0_0) (zle_o rfl) (zle_o rfl)
    refine k_aload_n X dX11_likeliest_k0.1.2.2.1 0 rfl ?_
    refine k_iconst (v := 1) X dX11_likeliest_k0.1.2.2.2 ic_1 ?_
    refine k_callVI (n := 1) (As := [.int 1]) (st := []) X [(cO11_i1r1i10r1i2r5i2r12i3r4i2 h0 m_thrown2_1 a_tape m_taped m_size m_at m_end m_token m_whole m_nameSize m_fault m_place m_trouble2_2 a_letters m_failed m_hasHouse a_r a_fresh a_st a_undone a_kept m_undos m_images a_from a_begin a_motor a_change a_startFrame a_changeFrame a_lostAt a_blackAt a_slips a_leftArc a_died a_arcs m_bestSum m_nearest m_nearestTown a_there a_backAt a_sorted a_parts m_seed1 m_darkNow)] [(cAI g a_st 44 d_st), (cAI g a_r 311 d_r)] [1] [0, 2] (m_no l g h0 1 m_thrown2_1 a_tape m_taped m_size m_at m_end m_token m_whole m_nameSize m_fault m_place m_trouble2_2 a_letters m_failed m_hasHouse a_r a_fresh a_st a_undone a_kept m_undos m_images a_from a_begin a_motor a_change a_startFrame a_changeFrame a_lostAt a_blackAt a_slips a_leftArc a_died a_arcs m_bestSum m_nearest m_nearestTown a_there a_backAt a_sorted a_parts m_seed1 m_darkNow) dX11_likeliest_k0.2.1.1.1 mw485 mw486 mw487 mw5 mw488 rfl 11 rfl rfl 0 _ rfl yk_yX11_no_1 rfl (Nat.le_of_ble_eq_true rfl) (Nat.le_of_ble_eq_true rfl) (Nat.le_of_ble_eq_true rfl) (Nat.le_of_ble_eq_true rfl) (Nat.le_of_ble_eq_true rfl) rfl rfl (vnd_e rfl) rfl (vnd_e rfl) (dsj_e rfl) ?_
    rintro r_59 w ⟨m_trouble2_58, iv_60, rfl⟩
    refine k_ws [(cAI g a_st 44 d_st), (cAI g a_r 311 d_r), (cO11_i1r1i10r1i2r5i2r12i3r4i2 h0 m_thrown2_1 a_tape m_taped m_size m_at m_end m_token m_whole m_nameSize m_fault m_place m_trouble2_58 a_letters m_failed m_hasHouse a_r a_fresh a_st a_undone a_kept m_undos m_images a_from a_begin a_motor a_change a_startFrame a_changeFrame a_lostAt a_blackAt a_slips a_leftArc a_died a_arcs m_bestSum m_nearest m_nearestTown a_there a_backAt a_sorted a_parts m_seed1 m_darkNow)] rfl ?_
    exact k_iret X hr dX11_likeliest_k0.2.1.1.2 (Nat.le_of_ble_eq_true rfl) (Nat.le_of_ble_eq_true rfl) [2, 1, 0] (vnd_e rfl) rfl rfl ⟨m_thrown2_1, m_trouble2_58, rfl⟩

theorem dX11_missing_k0 : ((((dD cX11_missing 0 (.aload_n 0) 1 ∧ dD cX11_missing 1 (.invokevirtual 200) 3) ∧ (dD cX11_missing 4 (.aload_n 0) 1 ∧ dD cX11_missing 5 (.iload_n 1) 1)) ∧ ((dD cX11_missing 6 (.invokevirtual 327) 3 ∧ dD cX11_missing 9 (.ifCond .ne 9) 3) ∧ (dD cX11_missing 12 (.aload_n 0) 1 ∧ dD cX11_missing 13 (.iconst 1) 1))) ∧ (((dD cX11_missing 14 (.invokevirtual 203) 3 ∧ dD cX11_missing 17 .ireturn 1) ∧ (dD cX11_missing 18 (.aload_n 0) 1 ∧ dD cX11_missing 19 (.getfield 20) 3)) ∧ ((dD cX11_missing 22 (.bipush 16) 2 ∧ dD cX11_missing 24 (.iconst 3) 1) ∧ (dD cX11_missing 25 (.iload_n 1) 1 ∧ dD cX11_missing 26 .imul 1)))) := dkA16 (by decide +kernel)
theorem dX11_missing_k1 : ((((dD cX11_missing 27 .iadd 1 ∧ dD cX11_missing 28 (.iconst 2) 1) ∧ (dD cX11_missing 29 .iadd 1 ∧ dD cX11_missing 30 .iaload 1)) ∧ ((dD cX11_missing 31 (.aload_n 0) 1 ∧ dD cX11_missing 32 (.getfield 26) 3) ∧ (dD cX11_missing 35 (.iconst 0) 1 ∧ dD cX11_missing 36 (.iload_n 1) 1))) ∧ (((dD cX11_missing 37 .iadd 1 ∧ dD cX11_missing 38 .iaload 1) ∧ (dD cX11_missing 39 .isub 1 ∧ dD cX11_missing 40 (.istore_n 3) 1)) ∧ ((dD cX11_missing 41 (.iload_n 2) 1 ∧ dD cX11_missing 42 (.ifCond .ne 5) 3) ∧ (dD cX11_missing 45 (.iload_n 3) 1 ∧ dD cX11_missing 46 .ireturn 1)))) := dkA16 (by decide +kernel)
theorem dX11_missing_k2 : ((((dD cX11_missing 47 (.iconst 0) 1 ∧ dD cX11_missing 48 (.istore 4) 2) ∧ (dD cX11_missing 50 (.iload 4) 2 ∧ dD cX11_missing 52 (.aload_n 0) 1)) ∧ ((dD cX11_missing 53 (.getfield 20) 3 ∧ dD cX11_missing 56 (.bipush 9) 2) ∧ (dD cX11_missing 58 .iaload 1 ∧ dD cX11_missing 59 (.if_icmp .ge 46) 3))) ∧ (((dD cX11_missing 62 (.iload_n 3) 1 ∧ dD cX11_missing 63 (.aload_n 0) 1) ∧ (dD cX11_missing 64 (.getfield 20) 3 ∧ dD cX11_missing 67 (.bipush 80) 2)) ∧ ((dD cX11_missing 69 (.iconst 2) 1 ∧ dD cX11_missing 70 (.iload 4) 2) ∧ (dD cX11_missing 72 .imul 1 ∧ dD cX11_missing 73 .iadd 1)))) := dkA16 (by decide +kernel)
theorem dX11_missing_k3 : ((((dD cX11_missing 74 .iaload 1 ∧ dD cX11_missing 75 (.iload_n 1) 1) ∧ (dD cX11_missing 76 (.if_icmp .ne 20) 3 ∧ dD cX11_missing 79 (.aload_n 0) 1)) ∧ ((dD cX11_missing 80 (.getfield 20) 3 ∧ dD cX11_missing 83 (.bipush 80) 2) ∧ (dD cX11_missing 85 (.iconst 2) 1 ∧ dD cX11_missing 86 (.iload 4) 2))) ∧ (((dD cX11_missing 88 .imul 1 ∧ dD cX11_missing 89 .iadd 1) ∧ (dD cX11_missing 90 (.iconst 1) 1 ∧ dD cX11_missing 91 .iadd 1)) ∧ ((dD cX11_missing 92 .iaload 1 ∧ dD cX11_missing 93 (.goto 4) 3) ∧ (dD cX11_missing 96 (.iconst 0) 1 ∧ dD cX11_missing 97 .isub 1)))) := dkA16 (by decide +kernel)
theorem dX11_missing_k4 : ((((dD cX11_missing 98 (.istore_n 3) 1 ∧ dD cX11_missing 99 (.iinc 4 1) 3) ∧ (dD cX11_missing 102 (.goto (-52)) 3 ∧ dD cX11_missing 105 (.iconst 0) 1)) ∧ ((dD cX11_missing 106 (.istore 4) 2 ∧ dD cX11_missing 108 (.iload 4) 2) ∧ (dD cX11_missing 110 (.aload_n 0) 1 ∧ dD cX11_missing 111 (.getfield 20) 3))) ∧ (((dD cX11_missing 114 (.bipush 10) 2 ∧ dD cX11_missing 116 .iaload 1) ∧ (dD cX11_missing 117 (.if_icmp .ge 42) 3 ∧ dD cX11_missing 120 (.iload_n 3) 1)) ∧ ((dD cX11_missing 121 (.aload_n 0) 1 ∧ dD cX11_missing 122 (.iload 4) 2) ∧ (dD cX11_missing 124 (.invokevirtual 339) 3 ∧ dD cX11_missing 127 (.ifCond .eq 23) 3)))) := dkA16 (by decide +kernel)
theorem dX11_missing_k5 : ((((dD cX11_missing 130 (.aload_n 0) 1 ∧ dD cX11_missing 131 (.getfield 20) 3) ∧ (dD cX11_missing 134 (.bipush 96) 2 ∧ dD cX11_missing 136 (.iconst 3) 1)) ∧ ((dD cX11_missing 137 (.iload 4) 2 ∧ dD cX11_missing 139 .imul 1) ∧ (dD cX11_missing 140 .iadd 1 ∧ dD cX11_missing 141 .iaload 1))) ∧ (((dD cX11_missing 142 (.iload_n 1) 1 ∧ dD cX11_missing 143 (.if_icmp .ne 7) 3) ∧ (dD cX11_missing 146 (.iconst 2) 1 ∧ dD cX11_missing 147 (.goto 4) 3)) ∧ ((dD cX11_missing 150 (.iconst 0) 1 ∧ dD cX11_missing 151 .isub 1) ∧ (dD cX11_missing 152 (.istore_n 3) 1 ∧ dD cX11_missing 153 (.iinc 4 1) 3)))) := dkA16 (by decide +kernel)
theorem dX11_missing_k6 : ((dD cX11_missing 156 (.goto (-48)) 3 ∧ dD cX11_missing 159 (.iload_n 3) 1) ∧ (dD cX11_missing 160 (.iconst 0) 1 ∧ (dD cX11_missing 161 (.invokestatic 351) 3 ∧ dD cX11_missing 164 .ireturn 1))) := dkA5 (by decide +kernel)
set_option maxHeartbeats 4000000 in
set_option maxRecDepth 100000 in
theorem m_missing (l : Launch) (g : Gx) (h0 : Nat) (p0 : Int32) (p1 : Int32) (m_thrown : Int32) (a_tape : Nat) (m_taped : Int32) (m_size : Int32) (m_at : Int32) (m_end : Int32) (m_token : Int32) (m_whole : Int32) (m_nameSize : Int32) (m_fault : Int32) (m_place : Int32) (m_trouble : Int32) (a_letters : Nat) (m_failed : Int32) (m_hasHouse : Int32) (a_r : Nat) (a_fresh : Nat) (a_st : Nat) (a_undone : Nat) (a_kept : Nat) (m_undos : Int32) (m_images : Int32) (a_from : Nat) (a_begin : Nat) (a_motor : Nat) (a_change : Nat) (a_startFrame : Nat) (a_changeFrame : Nat) (a_lostAt : Nat) (a_blackAt : Nat) (a_slips : Nat) (a_leftArc : Nat) (a_died : Nat) (a_arcs : Nat) (m_bestSum : Int32) (m_nearest : Int32) (m_nearestTown : Int32) (a_there : Nat) (a_backAt : Nat) (a_sorted : Nat) (a_parts : Nat) (m_seed1 : Int32) (m_darkNow : Int32) (d_r : Nat → Int32) (d_st : Nat → Int32) (hv_m_hasHouse : IV m_hasHouse 0 1) (hp_d_r : RInv d_r) : cI l g yX11_missing cX11_missing 5 (some .int) 2 43 0 0 [.ref h0, .int p0, .int p1] [(cO11_i1r1i10r1i2r5i2r12i3r4i2 h0 m_thrown a_tape m_taped m_size m_at m_end m_token m_whole m_nameSize m_fault m_place m_trouble a_letters m_failed m_hasHouse a_r a_fresh a_st a_undone a_kept m_undos m_images a_from a_begin a_motor a_change a_startFrame a_changeFrame a_lostAt a_blackAt a_slips a_leftArc a_died a_arcs m_bestSum m_nearest m_nearestTown a_there a_backAt a_sorted a_parts m_seed1 m_darkNow), (cAI g a_r 311 d_r), (cAI g a_st 44 d_st)] (fun r w => ∃ (m_thrown2 : Int32) (m_trouble2 : Int32), w = [(cO11_i1r1i10r1i2r5i2r12i3r4i2 h0 m_thrown2 a_tape m_taped m_size m_at m_end m_token m_whole m_nameSize m_fault m_place m_trouble2 a_letters m_failed m_hasHouse a_r a_fresh a_st a_undone a_kept m_undos m_images a_from a_begin a_motor a_change a_startFrame a_changeFrame a_lostAt a_blackAt a_slips a_leftArc a_died a_arcs m_bestSum m_nearest m_nearestTown a_there a_backAt a_sorted a_parts m_seed1 m_darkNow), (cAI g a_r 311 d_r), (cAI g a_st 44 d_st)]) := by
  refine cI.of (by decide) (Nat.le_of_ble_eq_true rfl) ?_
  intro p e s m args below meth c A X hr hi
  refine k_lveq [(0, .ref h0), (1, .int p0), (2, .int p1)] rfl ?_
  refine k_aload_n X dX11_missing_k0.1.1.1.1 0 rfl ?_
  refine k_callVV (n := 0) (As := []) (st := []) X [(cO11_i1r1i10r1i2r5i2r12i3r4i2 h0 m_thrown a_tape m_taped m_size m_at m_end m_token m_whole m_nameSize m_fault m_place m_trouble a_letters m_failed m_hasHouse a_r a_fresh a_st a_undone a_kept m_undos m_images a_from a_begin a_motor a_change a_startFrame a_changeFrame a_lostAt a_blackAt a_slips a_leftArc a_died a_arcs m_bestSum m_nearest m_nearestTown a_there a_backAt a_sorted a_parts m_seed1 m_darkNow)] [(cAI g a_r 311 d_r), (cAI g a_st 44 d_st)] [0] [1, 2] (m_good l g h0 m_thrown a_tape m_taped m_size m_at m_end m_token m_whole m_nameSize m_fault m_place m_trouble a_letters m_failed m_hasHouse a_r a_fresh a_st a_undone a_kept m_undos m_images a_from a_begin a_motor a_change a_startFrame a_changeFrame a_lostAt a_blackAt a_slips a_leftArc a_died a_arcs m_bestSum m_nearest m_nearestTown a_there a_backAt a_sorted a_parts m_seed1 m_darkNow) dX11_missing_k0.1.1.1.2 mw477 mw478 mw479 mw5 mw480 rfl 11 rfl rfl 0 _ rfl yk_yX11_good_0 rfl (Nat.le_of_ble_eq_true rfl) (Nat.le_of_ble_eq_true rfl) (Nat.le_of_ble_eq_true rfl) (Nat.le_of_ble_eq_true rfl) (Nat.le_of_ble_eq_true rfl) rfl rfl (vnd_e rfl) rfl (vnd_e rfl) (dsj_e rfl) ?_
  rintro w ⟨m_thrown2_1, m_trouble2_2, rfl⟩
  refine k_ws [(cAI g a_r 311 d_r), (cAI g a_st 44 d_st), (cO11_i1r1i10r1i2r5i2r12i3r4i2 h0 m_thrown2_1 a_tape m_taped m_size m_at m_end m_token m_whole m_nameSize m_fault m_place m_trouble2_2 a_letters m_failed m_hasHouse a_r a_fresh a_st a_undone a_kept m_undos m_images a_from a_begin a_motor a_change a_startFrame a_changeFrame a_lostAt a_blackAt a_slips a_leftArc a_died a_arcs m_bestSum m_nearest m_nearestTown a_there a_backAt a_sorted a_parts m_seed1 m_darkNow)] rfl ?_
  refine k_aload_n X dX11_missing_k0.1.1.2.1 0 rfl ?_
  refine k_iload_n X dX11_missing_k0.1.1.2.2 1 rfl ?_
  refine k_callVI (n := 1) (As := [.int p0]) (st := []) X [(cO11_i1r1i10r1i2r5i2r12i3r4i2 h0 m_thrown2_1 a_tape m_taped m_size m_at m_end m_token m_whole m_nameSize m_fault m_place m_trouble2_2 a_letters m_failed m_hasHouse a_r a_fresh a_st a_undone a_kept m_undos m_images a_from a_begin a_motor a_change a_startFrame a_changeFrame a_lostAt a_blackAt a_slips a_leftArc a_died a_arcs m_bestSum m_nearest m_nearestTown a_there a_backAt a_sorted a_parts m_seed1 m_darkNow), (cAI g a_r 311 d_r)] [(cAI g a_st 44 d_st)] [2, 0] [1] (m_isReel l g h0 p0 m_thrown2_1 a_tape m_taped m_size m_at m_end m_token m_whole m_nameSize m_fault m_place m_trouble2_2 a_letters m_failed m_hasHouse a_r a_fresh a_st a_undone a_kept m_undos m_images a_from a_begin a_motor a_change a_startFrame a_changeFrame a_lostAt a_blackAt a_slips a_leftArc a_died a_arcs m_bestSum m_nearest m_nearestTown a_there a_backAt a_sorted a_parts m_seed1 m_darkNow d_r (iv_w hv_m_hasHouse (zle_e rfl) (zle_e rfl)) hp_d_r) dX11_missing_k0.1.2.1.1 mw670 mw671 mw672 mw5 mw673 rfl 11 rfl rfl 0 _ rfl yk_yX11_isReel_1 rfl (Nat.le_of_ble_eq_true rfl) (Nat.le_of_ble_eq_true rfl) (Nat.le_of_ble_eq_true rfl) (Nat.le_of_ble_eq_true rfl) (Nat.le_of_ble_eq_true rfl) rfl rfl (vnd_e rfl) rfl (vnd_e rfl) (dsj_e rfl) ?_
  rintro r_4 w ⟨iv_5, hk_6, rfl⟩
  refine k_ws [(cAI g a_st 44 d_st), (cO11_i1r1i10r1i2r5i2r12i3r4i2 h0 m_thrown2_1 a_tape m_taped m_size m_at m_end m_token m_whole m_nameSize m_fault m_place m_trouble2_2 a_letters m_failed m_hasHouse a_r a_fresh a_st a_undone a_kept m_undos m_images a_from a_begin a_motor a_change a_startFrame a_changeFrame a_lostAt a_blackAt a_slips a_leftArc a_died a_arcs m_bestSum m_nearest m_nearestTown a_there a_backAt a_sorted a_parts m_seed1 m_darkNow), (cAI g a_r 311 d_r)] rfl ?_
  refine k_if_ne 18 X dX11_missing_k0.1.2.1.2 (jp_e rfl) (fun h_7 => ?_) (fun h_7 => ?_)
  · skip
    have hc_8 := hk_6.resolve_left h_7
    have iv_9 : IV p0 0 7 := iv_meet (iv_any p0) hc_8 (zle_o rfl) (zle_o rfl)
    have iv_10 : IV r_4 1 1 := iv_neL h_7 iv_5 iq_0_0_0 (zle_e rfl)
    refine k_aload_n X dX11_missing_k0.2.1.2.1 0 rfl ?_
    refine k_get (ci := 11) X inlX11 rfl 15 (nlt_e rfl) dX11_missing_k0.2.1.2.2 mw170 1 rfl rfl ?_
    refine k_bipush (v := 16) X dX11_missing_k0.2.2.1.1 bi_16 ?_
    refine k_iconst (v := 3) X dX11_missing_k0.2.2.1.2 ic_3 ?_
    refine k_iload_n X dX11_missing_k0.2.2.2.1 1 rfl ?_
    refine k_imul X dX11_missing_k0.2.2.2.2 ?_
    refine k_nm (fun z_11 ez_11 => ?_)
    have i_12 : z_11.toInt = 3 * p0.toInt := in_mul ez_11 (by decide) (zle_e rfl) iv_9 (zle_e rfl) (zle_e rfl)
    have iv_13 : IV z_11 0 21 := iz4 i_12 iv_9 (zle_e rfl) (zle_e rfl) (zle_e rfl)
    refine k_iadd X dX11_missing_k1.1.1.1.1 ?_
    refine k_nm (fun z_14 ez_14 => ?_)
    have i_15 : z_14.toInt = 16 + z_11.toInt := in_add ez_14 iq_16_16_16 iv_13 (zle_e rfl) (zle_e rfl)
    have iv_16 : IV z_14 16 37 := iz2 i_15 iv_13 (zle_e rfl) (zle_e rfl)
    refine k_iconst (v := 2) X dX11_missing_k1.1.1.1.2 ic_2 ?_
    refine k_iadd X dX11_missing_k1.1.1.2.1 ?_
    refine k_nm (fun z_17 ez_17 => ?_)
    have i_18 : z_17.toInt = z_14.toInt + 2 := in_add ez_17 iv_16 iq_2_2_2 (zle_e rfl) (zle_e rfl)
    have iv_19 : IV z_17 18 39 := iz1 i_18 iv_16 (zle_e rfl) (zle_e rfl)
    refine k_iald X dX11_missing_k1.1.1.2.2 2 rfl (iv_in iv_19 (zle_e rfl) (zle_l rfl)) ?_
    refine k_nm (fun z_20 ez_20 => ?_)
    refine k_aload_n X dX11_missing_k1.1.2.1.1 0 rfl ?_
    refine k_get (ci := 11) X inlX11 rfl 17 (nlt_e rfl) dX11_missing_k1.1.2.1.2 mw172 1 rfl rfl ?_
    refine k_iconst (v := 0) X dX11_missing_k1.1.2.2.1 ic_0 ?_
    refine k_iload_n X dX11_missing_k1.1.2.2.2 1 rfl ?_
    refine k_iadd X dX11_missing_k1.2.1.1.1 ?_
    refine k_nm (fun z_21 ez_21 => ?_)
    have i_22 : z_21.toInt = 0 + p0.toInt := in_add ez_21 iq_0_0_0 iv_9 (zle_e rfl) (zle_e rfl)
    have iv_23 : IV z_21 0 7 := iz2 i_22 iv_9 (zle_e rfl) (zle_e rfl)
    refine k_iald X dX11_missing_k1.2.1.1.2 0 rfl (iv_in iv_23 (zle_e rfl) (zle_l rfl)) ?_
    refine k_nm (fun z_24 ez_24 => ?_)
    refine k_isub X dX11_missing_k1.2.1.2.1 ?_
    refine k_nm (fun z_25 ez_25 => ?_)
    refine k_istore_n [(3, .int z_25), (0, .ref h0), (1, .int p0), (2, .int p1)] X dX11_missing_k1.2.1.2.2 (nlt_e rfl) rfl ?_
    refine k_iload_n X dX11_missing_k1.2.2.1.1 3 rfl ?_
    refine k_if_ne 47 X dX11_missing_k1.2.2.1.2 (jp_e rfl) (fun h_27 => ?_) (fun h_27 => ?_)
    · skip
      refine k_iconst (v := 0) X dX11_missing_k2.1.1.1.1 ic_0 ?_
      refine k_istore [(4, .int 0), (3, .int z_25), (0, .ref h0), (1, .int p0), (2, .int p1)] X dX11_missing_k2.1.1.1.2 (nlt_e rfl) rfl ?_
      refine (fun hL : ∀ (nn_31 : Nat) (u_28 : Int32) (u_29 : Int32), (2147483647 - u_29.toInt).toNat = nn_31 → (IV u_29 0 8) → Wk p l e _ s m args below meth c _ A g _ _ _ [(cAI g a_st 44 d_st), (cO11_i1r1i10r1i2r5i2r12i3r4i2 h0 m_thrown2_1 a_tape m_taped m_size m_at m_end m_token m_whole m_nameSize m_fault m_place m_trouble2_2 a_letters m_failed m_hasHouse a_r a_fresh a_st a_undone a_kept m_undos m_images a_from a_begin a_motor a_change a_startFrame a_changeFrame a_lostAt a_blackAt a_slips a_leftArc a_died a_arcs m_bestSum m_nearest m_nearestTown a_there a_backAt a_sorted a_parts m_seed1 m_darkNow), (cAI g a_r 311 d_r)] [(4, .int u_29), (3, .int u_28), (0, .ref h0), (1, .int p0), (2, .int p1)] 50 [] => hL _ z_25 0 rfl (iv_w iq_0_0_0 (zle_e rfl) (zle_e rfl))) ?_
      refine fun nn_31 => Nat.strongRecOn nn_31 (fun nn_31 ih_33 => ?_)
      intro u_28 u_29 hm_32 hv_30
      refine k_iload X dX11_missing_k2.1.1.2.1 0 rfl ?_
      refine k_aload_n X dX11_missing_k2.1.1.2.2 2 rfl ?_
      refine k_get (ci := 11) X inlX11 rfl 15 (nlt_e rfl) dX11_missing_k2.1.2.1.1 mw170 1 rfl rfl ?_
      refine k_bipush (v := 9) X dX11_missing_k2.1.2.1.2 bi_9 ?_
      refine k_iald X dX11_missing_k2.1.2.2.1 2 rfl (by unfold vp_in; decide) ?_
      refine k_nm (fun z_34 ez_34 => ?_)
      have i_35 : z_34.toInt = (d_r 9).toInt := by rw [ez_34]; rfl
      have iv_36 : IV z_34 0 8 := rb_9 ez_34 hp_d_r
      refine k_ic_ge 105 X dX11_missing_k2.1.2.2.2 (jp_e rfl) (fun h_37 => ?_) (fun h_37 => ?_)
      · skip
        have j_38 : z_34.toInt ≤ u_29.toInt := iv_le h_37
        refine k_iconst (v := 0) X dX11_missing_k4.1.1.2.2 ic_0 ?_
        refine k_istore [(4, .int 0), (3, .int u_28), (0, .ref h0), (1, .int p0), (2, .int p1)] X dX11_missing_k4.1.2.1.1 (nlt_e rfl) rfl ?_
        refine (fun hL : ∀ (nn_42 : Nat) (u_39 : Int32) (u_40 : Int32), (2147483647 - u_40.toInt).toNat = nn_42 → (IV u_40 0 8) → Wk p l e _ s m args below meth c _ A g _ _ _ [(cAI g a_st 44 d_st), (cO11_i1r1i10r1i2r5i2r12i3r4i2 h0 m_thrown2_1 a_tape m_taped m_size m_at m_end m_token m_whole m_nameSize m_fault m_place m_trouble2_2 a_letters m_failed m_hasHouse a_r a_fresh a_st a_undone a_kept m_undos m_images a_from a_begin a_motor a_change a_startFrame a_changeFrame a_lostAt a_blackAt a_slips a_leftArc a_died a_arcs m_bestSum m_nearest m_nearestTown a_there a_backAt a_sorted a_parts m_seed1 m_darkNow), (cAI g a_r 311 d_r)] [(4, .int u_40), (3, .int u_39), (0, .ref h0), (1, .int p0), (2, .int p1)] 108 [] => hL _ u_28 0 rfl (iv_w iq_0_0_0 (zle_e rfl) (zle_e rfl))) ?_
        refine fun nn_42 => Nat.strongRecOn nn_42 (fun nn_42 ih_44 => ?_)
        intro u_39 u_40 hm_43 hv_41
        refine k_iload X dX11_missing_k4.1.2.1.2 0 rfl ?_
        refine k_aload_n X dX11_missing_k4.1.2.2.1 2 rfl ?_
        refine k_get (ci := 11) X inlX11 rfl 15 (nlt_e rfl) dX11_missing_k4.1.2.2.2 mw170 1 rfl rfl ?_
        refine k_bipush (v := 10) X dX11_missing_k4.2.1.1.1 bi_10 ?_
        refine k_iald X dX11_missing_k4.2.1.1.2 2 rfl (by unfold vp_in; decide) ?_
        refine k_nm (fun z_45 ez_45 => ?_)
        have i_46 : z_45.toInt = (d_r 10).toInt := by rw [ez_45]; rfl
        have iv_47 : IV z_45 0 6 := rb_10 ez_45 hp_d_r
        refine k_ic_ge 159 X dX11_missing_k4.2.1.2.1 (jp_e rfl) (fun h_48 => ?_) (fun h_48 => ?_)
        · skip
          have j_49 : z_45.toInt ≤ u_40.toInt := iv_le h_48
          refine k_iload_n X dX11_missing_k6.1.2 1 rfl ?_
          refine k_iconst (v := 0) X dX11_missing_k6.2.1 ic_0 ?_
          refine k_callSI (n := 2) (As := [.int u_39, .int 0]) (st := []) X [] [(cAI g a_st 44 d_st), (cO11_i1r1i10r1i2r5i2r12i3r4i2 h0 m_thrown2_1 a_tape m_taped m_size m_at m_end m_token m_whole m_nameSize m_fault m_place m_trouble2_2 a_letters m_failed m_hasHouse a_r a_fresh a_st a_undone a_kept m_undos m_images a_from a_begin a_motor a_change a_startFrame a_changeFrame a_lostAt a_blackAt a_slips a_leftArc a_died a_arcs m_bestSum m_nearest m_nearestTown a_there a_backAt a_sorted a_parts m_seed1 m_darkNow), (cAI g a_r 311 d_r)] [] [0, 1, 2] (m_most l g u_39 0) dX11_missing_k6.2.2.1 mw842 mw843 mw5 mw844 yk_yX11_most_2 rfl (Nat.le_of_ble_eq_true rfl) (Nat.le_of_ble_eq_true rfl) (Nat.le_of_ble_eq_true rfl) (Nat.le_of_ble_eq_true rfl) (Nat.le_of_ble_eq_true rfl) rfl rfl (vnd_e rfl) rfl (vnd_e rfl) (dsj_e rfl) ?_
          rintro r_50 w rfl
          refine k_ws [(cAI g a_st 44 d_st), (cO11_i1r1i10r1i2r5i2r12i3r4i2 h0 m_thrown2_1 a_tape m_taped m_size m_at m_end m_token m_whole m_nameSize m_fault m_place m_trouble2_2 a_letters m_failed m_hasHouse a_r a_fresh a_st a_undone a_kept m_undos m_images a_from a_begin a_motor a_change a_startFrame a_changeFrame a_lostAt a_blackAt a_slips a_leftArc a_died a_arcs m_bestSum m_nearest m_nearestTown a_there a_backAt a_sorted a_parts m_seed1 m_darkNow), (cAI g a_r 311 d_r)] rfl ?_
          exact k_iret X hr dX11_missing_k6.2.2.2 (Nat.le_of_ble_eq_true rfl) (Nat.le_of_ble_eq_true rfl) [1, 2, 0] (vnd_e rfl) rfl rfl ⟨m_thrown2_1, m_trouble2_2, rfl⟩
        · skip
          have j_51 : u_40.toInt < z_45.toInt := iv_nle h_48
          have iv_52 : IV u_40 0 5 := iv_ltL (iv_nle h_48) hv_41 iv_47 (zle_e rfl)
          have iv_53 : IV z_45 1 6 := iv_ltR (iv_nle h_48) hv_41 iv_47 (zle_e rfl)
          refine k_iload_n X dX11_missing_k4.2.1.2.2 1 rfl ?_
          refine k_aload_n X dX11_missing_k4.2.2.1.1 2 rfl ?_
          refine k_iload X dX11_missing_k4.2.2.1.2 0 rfl ?_
          refine k_callVI (n := 1) (As := [.int u_40]) (st := [.int u_39]) X [(cO11_i1r1i10r1i2r5i2r12i3r4i2 h0 m_thrown2_1 a_tape m_taped m_size m_at m_end m_token m_whole m_nameSize m_fault m_place m_trouble2_2 a_letters m_failed m_hasHouse a_r a_fresh a_st a_undone a_kept m_undos m_images a_from a_begin a_motor a_change a_startFrame a_changeFrame a_lostAt a_blackAt a_slips a_leftArc a_died a_arcs m_bestSum m_nearest m_nearestTown a_there a_backAt a_sorted a_parts m_seed1 m_darkNow), (cAI g a_st 44 d_st)] [(cAI g a_r 311 d_r)] [1, 0] [2] (m_isMended l g h0 u_40 m_thrown2_1 a_tape m_taped m_size m_at m_end m_token m_whole m_nameSize m_fault m_place m_trouble2_2 a_letters m_failed m_hasHouse a_r a_fresh a_st a_undone a_kept m_undos m_images a_from a_begin a_motor a_change a_startFrame a_changeFrame a_lostAt a_blackAt a_slips a_leftArc a_died a_arcs m_bestSum m_nearest m_nearestTown a_there a_backAt a_sorted a_parts m_seed1 m_darkNow d_st) dX11_missing_k4.2.2.2.1 mw682 mw683 mw684 mw5 mw685 rfl 11 rfl rfl 0 _ rfl yk_yX11_isMended_1 rfl (Nat.le_of_ble_eq_true rfl) (Nat.le_of_ble_eq_true rfl) (Nat.le_of_ble_eq_true rfl) (Nat.le_of_ble_eq_true rfl) (Nat.le_of_ble_eq_true rfl) rfl rfl (vnd_e rfl) rfl (vnd_e rfl) (dsj_e rfl) ?_
          rintro r_54 w ⟨iv_55, rfl⟩
          refine k_ws [(cAI g a_r 311 d_r), (cO11_i1r1i10r1i2r5i2r12i3r4i2 h0 m_thrown2_1 a_tape m_taped m_size m_at m_end m_token m_whole m_nameSize m_fault m_place m_trouble2_2 a_letters m_failed m_hasHouse a_r a_fresh a_st a_undone a_kept m_undos m_images a_from a_begin a_motor a_change a_startFrame a_changeFrame a_lostAt a_blackAt a_slips a_leftArc a_died a_arcs m_bestSum m_nearest m_nearestTown a_there a_backAt a_sorted a_parts m_seed1 m_darkNow), (cAI g a_st 44 d_st)] rfl ?_
          refine k_if_eq 150 X dX11_missing_k4.2.2.2.2 (jp_e rfl) (fun h_56 => ?_) (fun h_56 => ?_)
          · skip
            have iv_57 : IV r_54 0 0 := iv_meet iv_55 (iv_e h_56 iq_0_0_0) (zle_o rfl) (zle_o rfl)
            refine k_iconst (v := 0) X dX11_missing_k5.2.2.1.1 ic_0 ?_
            refine k_isub X dX11_missing_k5.2.2.1.2 ?_
            refine k_nm (fun z_58 ez_58 => ?_)
            have i_59 : z_58.toInt = u_39.toInt - 0 := in_sub ez_58 (iv_any u_39) iq_0_0_0 (zle_e rfl) (zle_e rfl)
            have iv_60 : IV z_58 (-2147483648) 2147483647 := by have := (iv_any u_39); have := iq_0_0_0; rw [IV, i_59]; omega
            refine k_istore_n [(3, .int z_58), (4, .int u_40), (0, .ref h0), (1, .int p0), (2, .int p1)] X dX11_missing_k5.2.2.2.1 (nlt_e rfl) rfl ?_
            obtain ⟨z_61, ez_61⟩ : ∃ y : Int32, u_40 + Int32.ofInt 1 = y := ⟨_, rfl⟩
            refine k_iinc z_61 [(4, .int z_61), (3, .int z_58), (0, .ref h0), (1, .int p0), (2, .int p1)] 1 X dX11_missing_k5.2.2.2.2 rfl ez_61 (nlt_e rfl) rfl ?_
            have i_62 : z_61.toInt = u_40.toInt + 1 := in_inc ez_61 (oin_e rfl) iv_52 (zle_e rfl) (zle_e rfl)
            have iv_63 : IV z_61 1 6 := iz1 i_62 iv_52 (zle_e rfl) (zle_e rfl)
            refine k_goto 108 X dX11_missing_k6.1.1 (jp_e rfl) ?_
            refine k_sub [(cAI g a_st 44 d_st), (cO11_i1r1i10r1i2r5i2r12i3r4i2 h0 m_thrown2_1 a_tape m_taped m_size m_at m_end m_token m_whole m_nameSize m_fault m_place m_trouble2_2 a_letters m_failed m_hasHouse a_r a_fresh a_st a_undone a_kept m_undos m_images a_from a_begin a_motor a_change a_startFrame a_changeFrame a_lostAt a_blackAt a_slips a_leftArc a_died a_arcs m_bestSum m_nearest m_nearestTown a_there a_backAt a_sorted a_parts m_seed1 m_darkNow), (cAI g a_r 311 d_r)] [2, 1, 0] rfl (by decide) rfl ?_
            exact ih_44 _ (by omega) z_58 z_61 rfl (iv_w iv_63 (zle_e rfl) (zle_e rfl))
          · skip
            have iv_64 : IV r_54 1 1 := iv_neL h_56 iv_55 iq_0_0_0 (zle_e rfl)
            refine k_aload_n X dX11_missing_k5.1.1.1.1 2 rfl ?_
            refine k_get (ci := 11) X inlX11 rfl 15 (nlt_e rfl) dX11_missing_k5.1.1.1.2 mw170 1 rfl rfl ?_
            refine k_bipush (v := 96) X dX11_missing_k5.1.1.2.1 bi_96 ?_
            refine k_iconst (v := 3) X dX11_missing_k5.1.1.2.2 ic_3 ?_
            refine k_iload X dX11_missing_k5.1.2.1.1 0 rfl ?_
            refine k_imul X dX11_missing_k5.1.2.1.2 ?_
            refine k_nm (fun z_65 ez_65 => ?_)
            have i_66 : z_65.toInt = 3 * u_40.toInt := in_mul ez_65 (by decide) (zle_e rfl) iv_52 (zle_e rfl) (zle_e rfl)
            have iv_67 : IV z_65 0 15 := iz4 i_66 iv_52 (zle_e rfl) (zle_e rfl) (zle_e rfl)
            refine k_iadd X dX11_missing_k5.1.2.2.1 ?_
            refine k_nm (fun z_68 ez_68 => ?_)
            have i_69 : z_68.toInt = 96 + z_65.toInt := in_add ez_68 iq_96_96_96 iv_67 (zle_e rfl) (zle_e rfl)
            have iv_70 : IV z_68 96 111 := iz2 i_69 iv_67 (zle_e rfl) (zle_e rfl)
            refine k_iald X dX11_missing_k5.1.2.2.2 0 rfl (iv_in iv_70 (zle_e rfl) (zle_l rfl)) ?_
            refine k_nm (fun z_71 ez_71 => ?_)
            have i_72 : z_68.toInt = 96 + 3 * u_40.toInt := by omega
            have iv_73 : IV z_71 0 7 := rb_96_3 ez_71 hp_d_r i_72 (iv_w iv_52 (zle_e rfl) (zle_e rfl))
            refine k_iload_n X dX11_missing_k5.2.1.1.1 3 rfl ?_
            refine k_ic_ne 150 X dX11_missing_k5.2.1.1.2 (jp_e rfl) (fun h_74 => ?_) (fun h_74 => ?_)
            · skip
              refine k_iconst (v := 0) X dX11_missing_k5.2.2.1.1 ic_0 ?_
              refine k_isub X dX11_missing_k5.2.2.1.2 ?_
              refine k_nm (fun z_75 ez_75 => ?_)
              have i_76 : z_75.toInt = u_39.toInt - 0 := in_sub ez_75 (iv_any u_39) iq_0_0_0 (zle_e rfl) (zle_e rfl)
              have iv_77 : IV z_75 (-2147483648) 2147483647 := by have := (iv_any u_39); have := iq_0_0_0; rw [IV, i_76]; omega
              refine k_istore_n [(3, .int z_75), (4, .int u_40), (0, .ref h0), (1, .int p0), (2, .int p1)] X dX11_missing_k5.2.2.2.1 (nlt_e rfl) rfl ?_
              obtain ⟨z_78, ez_78⟩ : ∃ y : Int32, u_40 + Int32.ofInt 1 = y := ⟨_, rfl⟩
              refine k_iinc z_78 [(4, .int z_78), (3, .int z_75), (0, .ref h0), (1, .int p0), (2, .int p1)] 1 X dX11_missing_k5.2.2.2.2 rfl ez_78 (nlt_e rfl) rfl ?_
              have i_79 : z_78.toInt = u_40.toInt + 1 := in_inc ez_78 (oin_e rfl) iv_52 (zle_e rfl) (zle_e rfl)
              have iv_80 : IV z_78 1 6 := iz1 i_79 iv_52 (zle_e rfl) (zle_e rfl)
              refine k_goto 108 X dX11_missing_k6.1.1 (jp_e rfl) ?_
              refine k_sub [(cAI g a_st 44 d_st), (cO11_i1r1i10r1i2r5i2r12i3r4i2 h0 m_thrown2_1 a_tape m_taped m_size m_at m_end m_token m_whole m_nameSize m_fault m_place m_trouble2_2 a_letters m_failed m_hasHouse a_r a_fresh a_st a_undone a_kept m_undos m_images a_from a_begin a_motor a_change a_startFrame a_changeFrame a_lostAt a_blackAt a_slips a_leftArc a_died a_arcs m_bestSum m_nearest m_nearestTown a_there a_backAt a_sorted a_parts m_seed1 m_darkNow), (cAI g a_r 311 d_r)] [2, 1, 0] rfl (by decide) rfl ?_
              exact ih_44 _ (by omega) z_75 z_78 rfl (iv_w iv_80 (zle_e rfl) (zle_e rfl))
            · skip
              refine k_iconst (v := 2) X dX11_missing_k5.2.1.2.1 ic_2 ?_
              refine k_goto 151 X dX11_missing_k5.2.1.2.2 (jp_e rfl) ?_
              refine k_isub X dX11_missing_k5.2.2.1.2 ?_
              refine k_nm (fun z_81 ez_81 => ?_)
              refine k_istore_n [(3, .int z_81), (4, .int u_40), (0, .ref h0), (1, .int p0), (2, .int p1)] X dX11_missing_k5.2.2.2.1 (nlt_e rfl) rfl ?_
              obtain ⟨z_83, ez_83⟩ : ∃ y : Int32, u_40 + Int32.ofInt 1 = y := ⟨_, rfl⟩
              refine k_iinc z_83 [(4, .int z_83), (3, .int z_81), (0, .ref h0), (1, .int p0), (2, .int p1)] 1 X dX11_missing_k5.2.2.2.2 rfl ez_83 (nlt_e rfl) rfl ?_
              have i_84 : z_83.toInt = u_40.toInt + 1 := in_inc ez_83 (oin_e rfl) iv_52 (zle_e rfl) (zle_e rfl)
              have iv_85 : IV z_83 1 6 := iz1 i_84 iv_52 (zle_e rfl) (zle_e rfl)
              refine k_goto 108 X dX11_missing_k6.1.1 (jp_e rfl) ?_
              refine k_sub [(cAI g a_st 44 d_st), (cO11_i1r1i10r1i2r5i2r12i3r4i2 h0 m_thrown2_1 a_tape m_taped m_size m_at m_end m_token m_whole m_nameSize m_fault m_place m_trouble2_2 a_letters m_failed m_hasHouse a_r a_fresh a_st a_undone a_kept m_undos m_images a_from a_begin a_motor a_change a_startFrame a_changeFrame a_lostAt a_blackAt a_slips a_leftArc a_died a_arcs m_bestSum m_nearest m_nearestTown a_there a_backAt a_sorted a_parts m_seed1 m_darkNow), (cAI g a_r 311 d_r)] [2, 1, 0] rfl (by decide) rfl ?_
              exact ih_44 _ (by omega) z_81 z_83 rfl (iv_w iv_85 (zle_e rfl) (zle_e rfl))
      · skip
        have j_86 : u_29.toInt < z_34.toInt := iv_nle h_37
        have iv_87 : IV u_29 0 7 := iv_ltL (iv_nle h_37) hv_30 iv_36 (zle_e rfl)
        have iv_88 : IV z_34 1 8 := iv_ltR (iv_nle h_37) hv_30 iv_36 (zle_e rfl)
        refine k_iload_n X dX11_missing_k2.2.1.1.1 1 rfl ?_
        refine k_aload_n X dX11_missing_k2.2.1.1.2 2 rfl ?_
        refine k_get (ci := 11) X inlX11 rfl 15 (nlt_e rfl) dX11_missing_k2.2.1.2.1 mw170 1 rfl rfl ?_
        refine k_bipush (v := 80) X dX11_missing_k2.2.1.2.2 bi_80 ?_
        refine k_iconst (v := 2) X dX11_missing_k2.2.2.1.1 ic_2 ?_
        refine k_iload X dX11_missing_k2.2.2.1.2 0 rfl ?_
        refine k_imul X dX11_missing_k2.2.2.2.1 ?_
        refine k_nm (fun z_89 ez_89 => ?_)
        have i_90 : z_89.toInt = 2 * u_29.toInt := in_mul ez_89 (by decide) (zle_e rfl) iv_87 (zle_e rfl) (zle_e rfl)
        have iv_91 : IV z_89 0 14 := iz4 i_90 iv_87 (zle_e rfl) (zle_e rfl) (zle_e rfl)
        refine k_iadd X dX11_missing_k2.2.2.2.2 ?_
        refine k_nm (fun z_92 ez_92 => ?_)
        have i_93 : z_92.toInt = 80 + z_89.toInt := in_add ez_92 iq_80_80_80 iv_91 (zle_e rfl) (zle_e rfl)
        have iv_94 : IV z_92 80 94 := iz2 i_93 iv_91 (zle_e rfl) (zle_e rfl)
        refine k_iald X dX11_missing_k3.1.1.1.1 2 rfl (iv_in iv_94 (zle_e rfl) (zle_l rfl)) ?_
        refine k_nm (fun z_95 ez_95 => ?_)
        have i_96 : z_92.toInt = 80 + 2 * u_29.toInt := by omega
        have iv_97 : IV z_95 0 7 := rb_80_2 ez_95 hp_d_r i_96 (iv_w iv_87 (zle_e rfl) (zle_e rfl))
        refine k_iload_n X dX11_missing_k3.1.1.1.2 3 rfl ?_
        refine k_ic_ne 96 X dX11_missing_k3.1.1.2.1 (jp_e rfl) (fun h_98 => ?_) (fun h_98 => ?_)
        · skip
          refine k_iconst (v := 0) X dX11_missing_k3.2.2.2.1 ic_0 ?_
          refine k_isub X dX11_missing_k3.2.2.2.2 ?_
          refine k_nm (fun z_99 ez_99 => ?_)
          have i_100 : z_99.toInt = u_28.toInt - 0 := in_sub ez_99 (iv_any u_28) iq_0_0_0 (zle_e rfl) (zle_e rfl)
          have iv_101 : IV z_99 (-2147483648) 2147483647 := by have := (iv_any u_28); have := iq_0_0_0; rw [IV, i_100]; omega
          refine k_istore_n [(3, .int z_99), (4, .int u_29), (0, .ref h0), (1, .int p0), (2, .int p1)] X dX11_missing_k4.1.1.1.1 (nlt_e rfl) rfl ?_
          obtain ⟨z_102, ez_102⟩ : ∃ y : Int32, u_29 + Int32.ofInt 1 = y := ⟨_, rfl⟩
          refine k_iinc z_102 [(4, .int z_102), (3, .int z_99), (0, .ref h0), (1, .int p0), (2, .int p1)] 1 X dX11_missing_k4.1.1.1.2 rfl ez_102 (nlt_e rfl) rfl ?_
          have i_103 : z_102.toInt = u_29.toInt + 1 := in_inc ez_102 (oin_e rfl) iv_87 (zle_e rfl) (zle_e rfl)
          have iv_104 : IV z_102 1 8 := iz1 i_103 iv_87 (zle_e rfl) (zle_e rfl)
          refine k_goto 50 X dX11_missing_k4.1.1.2.1 (jp_e rfl) ?_
          exact ih_33 _ (by omega) z_99 z_102 rfl (iv_w iv_104 (zle_e rfl) (zle_e rfl))
        · skip
          refine k_aload_n X dX11_missing_k3.1.1.2.2 2 rfl ?_
          refine k_get (ci := 11) X inlX11 rfl 15 (nlt_e rfl) dX11_missing_k3.1.2.1.1 mw170 1 rfl rfl ?_
          refine k_bipush (v := 80) X dX11_missing_k3.1.2.1.2 bi_80 ?_
          refine k_iconst (v := 2) X dX11_missing_k3.1.2.2.1 ic_2 ?_
          refine k_iload X dX11_missing_k3.1.2.2.2 0 rfl ?_
          refine k_imul X dX11_missing_k3.2.1.1.1 ?_
          refine k_to z_89 ez_89.symm ?_
          refine k_iadd X dX11_missing_k3.2.1.1.2 ?_
          refine k_to z_92 ez_92.symm ?_
          refine k_iconst (v := 1) X dX11_missing_k3.2.1.2.1 ic_1 ?_
          refine k_iadd X dX11_missing_k3.2.1.2.2 ?_
          refine k_nm (fun z_105 ez_105 => ?_)
          have i_106 : z_105.toInt = z_92.toInt + 1 := in_add ez_105 iv_94 iq_1_1_1 (zle_e rfl) (zle_e rfl)
          have iv_107 : IV z_105 81 95 := iz1 i_106 iv_94 (zle_e rfl) (zle_e rfl)
          refine k_iald X dX11_missing_k3.2.2.1.1 2 rfl (iv_in iv_107 (zle_e rfl) (zle_l rfl)) ?_
          refine k_nm (fun z_108 ez_108 => ?_)
          refine k_goto 97 X dX11_missing_k3.2.2.1.2 (jp_e rfl) ?_
          refine k_isub X dX11_missing_k3.2.2.2.2 ?_
          refine k_nm (fun z_109 ez_109 => ?_)
          refine k_istore_n [(3, .int z_109), (4, .int u_29), (0, .ref h0), (1, .int p0), (2, .int p1)] X dX11_missing_k4.1.1.1.1 (nlt_e rfl) rfl ?_
          obtain ⟨z_111, ez_111⟩ : ∃ y : Int32, u_29 + Int32.ofInt 1 = y := ⟨_, rfl⟩
          refine k_iinc z_111 [(4, .int z_111), (3, .int z_109), (0, .ref h0), (1, .int p0), (2, .int p1)] 1 X dX11_missing_k4.1.1.1.2 rfl ez_111 (nlt_e rfl) rfl ?_
          have i_112 : z_111.toInt = u_29.toInt + 1 := in_inc ez_111 (oin_e rfl) iv_87 (zle_e rfl) (zle_e rfl)
          have iv_113 : IV z_111 1 8 := iz1 i_112 iv_87 (zle_e rfl) (zle_e rfl)
          refine k_goto 50 X dX11_missing_k4.1.1.2.1 (jp_e rfl) ?_
          exact ih_33 _ (by omega) z_109 z_111 rfl (iv_w iv_113 (zle_e rfl) (zle_e rfl))
    · skip
      have iv_114 : IV p1 0 0 := iv_meet (iv_any p1) (iv_e h_27 iq_0_0_0) (zle_o rfl) (zle_o rfl)
      refine k_iload_n X dX11_missing_k1.2.2.2.1 0 rfl ?_
      exact k_iret X hr dX11_missing_k1.2.2.2.2 (Nat.le_of_ble_eq_true rfl) (Nat.le_of_ble_eq_true rfl) [1, 2, 0] (vnd_e rfl) rfl rfl ⟨m_thrown2_1, m_trouble2_2, rfl⟩
  · skip
    have iv_115 : IV r_4 0 0 := iv_meet iv_5 (iv_e h_7 iq_0_0_0) (zle_o rfl) (zle_o rfl)
    refine k_aload_n X dX11_missing_k0.1.2.2.1 0 rfl ?_
    refine k_iconst (v := 1) X dX11_missing_k0.1.2.2.2 ic_1 ?_
    refine k_callVI (n := 1) (As := [.int 1]) (st := []) X [(cO11_i1r1i10r1i2r5i2r12i3r4i2 h0 m_thrown2_1 a_tape m_taped m_size m_at m_end m_token m_whole m_nameSize m_fault m_place m_trouble2_2 a_letters m_failed m_hasHouse a_r a_fresh a_st a_undone a_kept m_undos m_images a_from a_begin a_motor a_change a_startFrame a_changeFrame a_lostAt a_blackAt a_slips a_leftArc a_died a_arcs m_bestSum m_nearest m_nearestTown a_there a_backAt a_sorted a_parts m_seed1 m_darkNow)] [(cAI g a_st 44 d_st), (cAI g a_r 311 d_r)] [1] [0, 2] (m_no l g h0 1 m_thrown2_1 a_tape m_taped m_size m_at m_end m_token m_whole m_nameSize m_fault m_place m_trouble2_2 a_letters m_failed m_hasHouse a_r a_fresh a_st a_undone a_kept m_undos m_images a_from a_begin a_motor a_change a_startFrame a_changeFrame a_lostAt a_blackAt a_slips a_leftArc a_died a_arcs m_bestSum m_nearest m_nearestTown a_there a_backAt a_sorted a_parts m_seed1 m_darkNow) dX11_missing_k0.2.1.1.1 mw485 mw486 mw487 mw5 mw488 rfl 11 rfl rfl 0 _ rfl yk_yX11_no_1 rfl (Nat.le_of_ble_eq_true rfl) (Nat.le_of_ble_eq_true rfl) (Nat.le_of_ble_eq_true rfl) (Nat.le_of_ble_eq_true rfl) (Nat.le_of_ble_eq_true rfl) rfl rfl (vnd_e rfl) rfl (vnd_e rfl) (dsj_e rfl) ?_
    rintro r_117 w ⟨m_trouble2_116, iv_118, rfl⟩
    refine k_ws [(cAI g a_st 44 d_st), (cAI g a_r 311 d_r), (cO11_i1r1i10r1i2r5i2r12i3r4i2 h0 m_thrown2_1 a_tape m_taped m_size m_at m_end m_token m_whole m_nameSize m_fault m_place m_trouble2_116 a_letters m_failed m_hasHouse a_r a_fresh a_st a_undone a_kept m_undos m_images a_from a_begin a_motor a_change a_startFrame a_changeFrame a_lostAt a_blackAt a_slips a_leftArc a_died a_arcs m_bestSum m_nearest m_nearestTown a_there a_backAt a_sorted a_parts m_seed1 m_darkNow)] rfl ?_
    exact k_iret X hr dX11_missing_k0.2.1.1.2 (Nat.le_of_ble_eq_true rfl) (Nat.le_of_ble_eq_true rfl) [2, 1, 0] (vnd_e rfl) rfl rfl ⟨m_thrown2_1, m_trouble2_116, rfl⟩

theorem dX11_words_k0 : ((((dD cX11_words 0 (.aload_n 0) 1 ∧ dD cX11_words 1 (.invokevirtual 200) 3) ∧ (dD cX11_words 4 (.aload_n 0) 1 ∧ dD cX11_words 5 (.iload_n 1) 1)) ∧ ((dD cX11_words 6 (.invokevirtual 327) 3 ∧ dD cX11_words 9 (.ifCond .ne 9) 3) ∧ (dD cX11_words 12 (.aload_n 0) 1 ∧ dD cX11_words 13 (.iconst 1) 1))) ∧ (((dD cX11_words 14 (.invokevirtual 203) 3 ∧ dD cX11_words 17 .ireturn 1) ∧ (dD cX11_words 18 (.iconst 0) 1 ∧ dD cX11_words 19 (.istore_n 2) 1)) ∧ ((dD cX11_words 20 (.iconst 0) 1 ∧ dD cX11_words 21 (.istore_n 3) 1) ∧ (dD cX11_words 22 (.iload_n 3) 1 ∧ dD cX11_words 23 (.aload_n 0) 1)))) := dkA16 (by decide +kernel)
theorem dX11_words_k1 : ((((dD cX11_words 24 (.getfield 20) 3 ∧ dD cX11_words 27 (.bipush 9) 2) ∧ (dD cX11_words 29 .iaload 1 ∧ dD cX11_words 30 (.if_icmp .ge 50) 3)) ∧ ((dD cX11_words 33 (.iload_n 2) 1 ∧ dD cX11_words 34 (.aload_n 0) 1) ∧ (dD cX11_words 35 (.getfield 20) 3 ∧ dD cX11_words 38 (.bipush 80) 2))) ∧ (((dD cX11_words 40 (.iconst 2) 1 ∧ dD cX11_words 41 (.iload_n 3) 1) ∧ (dD cX11_words 42 .imul 1 ∧ dD cX11_words 43 .iadd 1)) ∧ ((dD cX11_words 44 .iaload 1 ∧ dD cX11_words 45 (.iload_n 1) 1) ∧ (dD cX11_words 46 (.if_icmp .ne 25) 3 ∧ dD cX11_words 49 (.aload_n 0) 1)))) := dkA16 (by decide +kernel)
theorem dX11_words_k2 : ((((dD cX11_words 50 (.getfield 20) 3 ∧ dD cX11_words 53 (.bipush 80) 2) ∧ (dD cX11_words 55 (.iconst 2) 1 ∧ dD cX11_words 56 (.iload_n 3) 1)) ∧ ((dD cX11_words 57 .imul 1 ∧ dD cX11_words 58 .iadd 1) ∧ (dD cX11_words 59 (.iconst 1) 1 ∧ dD cX11_words 60 .iadd 1))) ∧ (((dD cX11_words 61 .iaload 1 ∧ dD cX11_words 62 (.bipush 24) 2) ∧ (dD cX11_words 64 (.if_icmp .lt 7) 3 ∧ dD cX11_words 67 (.iconst 1) 1)) ∧ ((dD cX11_words 68 (.goto 4) 3 ∧ dD cX11_words 71 (.iconst 0) 1) ∧ (dD cX11_words 72 .iadd 1 ∧ dD cX11_words 73 (.istore_n 2) 1)))) := dkA16 (by decide +kernel)
theorem dX11_words_k3 : ((dD cX11_words 74 (.iinc 3 1) 3 ∧ dD cX11_words 77 (.goto (-55)) 3) ∧ (dD cX11_words 80 (.iload_n 2) 1 ∧ dD cX11_words 81 .ireturn 1)) := dkA4 (by decide +kernel)
set_option maxHeartbeats 4000000 in
set_option maxRecDepth 100000 in
theorem m_words (l : Launch) (g : Gx) (h0 : Nat) (p0 : Int32) (m_thrown : Int32) (a_tape : Nat) (m_taped : Int32) (m_size : Int32) (m_at : Int32) (m_end : Int32) (m_token : Int32) (m_whole : Int32) (m_nameSize : Int32) (m_fault : Int32) (m_place : Int32) (m_trouble : Int32) (a_letters : Nat) (m_failed : Int32) (m_hasHouse : Int32) (a_r : Nat) (a_fresh : Nat) (a_st : Nat) (a_undone : Nat) (a_kept : Nat) (m_undos : Int32) (m_images : Int32) (a_from : Nat) (a_begin : Nat) (a_motor : Nat) (a_change : Nat) (a_startFrame : Nat) (a_changeFrame : Nat) (a_lostAt : Nat) (a_blackAt : Nat) (a_slips : Nat) (a_leftArc : Nat) (a_died : Nat) (a_arcs : Nat) (m_bestSum : Int32) (m_nearest : Int32) (m_nearestTown : Int32) (a_there : Nat) (a_backAt : Nat) (a_sorted : Nat) (a_parts : Nat) (m_seed1 : Int32) (m_darkNow : Int32) (d_r : Nat → Int32) (hv_m_hasHouse : IV m_hasHouse 0 1) (hp_d_r : RInv d_r) : cI l g yX11_words cX11_words 4 (some .int) 2 43 0 0 [.ref h0, .int p0] [(cO11_i1r1i10r1i2r5i2r12i3r4i2 h0 m_thrown a_tape m_taped m_size m_at m_end m_token m_whole m_nameSize m_fault m_place m_trouble a_letters m_failed m_hasHouse a_r a_fresh a_st a_undone a_kept m_undos m_images a_from a_begin a_motor a_change a_startFrame a_changeFrame a_lostAt a_blackAt a_slips a_leftArc a_died a_arcs m_bestSum m_nearest m_nearestTown a_there a_backAt a_sorted a_parts m_seed1 m_darkNow), (cAI g a_r 311 d_r)] (fun r w => ∃ (m_thrown2 : Int32) (m_trouble2 : Int32), w = [(cO11_i1r1i10r1i2r5i2r12i3r4i2 h0 m_thrown2 a_tape m_taped m_size m_at m_end m_token m_whole m_nameSize m_fault m_place m_trouble2 a_letters m_failed m_hasHouse a_r a_fresh a_st a_undone a_kept m_undos m_images a_from a_begin a_motor a_change a_startFrame a_changeFrame a_lostAt a_blackAt a_slips a_leftArc a_died a_arcs m_bestSum m_nearest m_nearestTown a_there a_backAt a_sorted a_parts m_seed1 m_darkNow), (cAI g a_r 311 d_r)]) := by
  refine cI.of (by decide) (Nat.le_of_ble_eq_true rfl) ?_
  intro p e s m args below meth c A X hr hi
  refine k_lveq [(0, .ref h0), (1, .int p0)] rfl ?_
  refine k_aload_n X dX11_words_k0.1.1.1.1 0 rfl ?_
  refine k_callVV (n := 0) (As := []) (st := []) X [(cO11_i1r1i10r1i2r5i2r12i3r4i2 h0 m_thrown a_tape m_taped m_size m_at m_end m_token m_whole m_nameSize m_fault m_place m_trouble a_letters m_failed m_hasHouse a_r a_fresh a_st a_undone a_kept m_undos m_images a_from a_begin a_motor a_change a_startFrame a_changeFrame a_lostAt a_blackAt a_slips a_leftArc a_died a_arcs m_bestSum m_nearest m_nearestTown a_there a_backAt a_sorted a_parts m_seed1 m_darkNow)] [(cAI g a_r 311 d_r)] [0] [1] (m_good l g h0 m_thrown a_tape m_taped m_size m_at m_end m_token m_whole m_nameSize m_fault m_place m_trouble a_letters m_failed m_hasHouse a_r a_fresh a_st a_undone a_kept m_undos m_images a_from a_begin a_motor a_change a_startFrame a_changeFrame a_lostAt a_blackAt a_slips a_leftArc a_died a_arcs m_bestSum m_nearest m_nearestTown a_there a_backAt a_sorted a_parts m_seed1 m_darkNow) dX11_words_k0.1.1.1.2 mw477 mw478 mw479 mw5 mw480 rfl 11 rfl rfl 0 _ rfl yk_yX11_good_0 rfl (Nat.le_of_ble_eq_true rfl) (Nat.le_of_ble_eq_true rfl) (Nat.le_of_ble_eq_true rfl) (Nat.le_of_ble_eq_true rfl) (Nat.le_of_ble_eq_true rfl) rfl rfl (vnd_e rfl) rfl (vnd_e rfl) (dsj_e rfl) ?_
  rintro w ⟨m_thrown2_1, m_trouble2_2, rfl⟩
  refine k_ws [(cAI g a_r 311 d_r), (cO11_i1r1i10r1i2r5i2r12i3r4i2 h0 m_thrown2_1 a_tape m_taped m_size m_at m_end m_token m_whole m_nameSize m_fault m_place m_trouble2_2 a_letters m_failed m_hasHouse a_r a_fresh a_st a_undone a_kept m_undos m_images a_from a_begin a_motor a_change a_startFrame a_changeFrame a_lostAt a_blackAt a_slips a_leftArc a_died a_arcs m_bestSum m_nearest m_nearestTown a_there a_backAt a_sorted a_parts m_seed1 m_darkNow)] rfl ?_
  refine k_aload_n X dX11_words_k0.1.1.2.1 0 rfl ?_
  refine k_iload_n X dX11_words_k0.1.1.2.2 1 rfl ?_
  refine k_callVI (n := 1) (As := [.int p0]) (st := []) X [(cO11_i1r1i10r1i2r5i2r12i3r4i2 h0 m_thrown2_1 a_tape m_taped m_size m_at m_end m_token m_whole m_nameSize m_fault m_place m_trouble2_2 a_letters m_failed m_hasHouse a_r a_fresh a_st a_undone a_kept m_undos m_images a_from a_begin a_motor a_change a_startFrame a_changeFrame a_lostAt a_blackAt a_slips a_leftArc a_died a_arcs m_bestSum m_nearest m_nearestTown a_there a_backAt a_sorted a_parts m_seed1 m_darkNow), (cAI g a_r 311 d_r)] [] [1, 0] [] (m_isReel l g h0 p0 m_thrown2_1 a_tape m_taped m_size m_at m_end m_token m_whole m_nameSize m_fault m_place m_trouble2_2 a_letters m_failed m_hasHouse a_r a_fresh a_st a_undone a_kept m_undos m_images a_from a_begin a_motor a_change a_startFrame a_changeFrame a_lostAt a_blackAt a_slips a_leftArc a_died a_arcs m_bestSum m_nearest m_nearestTown a_there a_backAt a_sorted a_parts m_seed1 m_darkNow d_r (iv_w hv_m_hasHouse (zle_e rfl) (zle_e rfl)) hp_d_r) dX11_words_k0.1.2.1.1 mw670 mw671 mw672 mw5 mw673 rfl 11 rfl rfl 0 _ rfl yk_yX11_isReel_1 rfl (Nat.le_of_ble_eq_true rfl) (Nat.le_of_ble_eq_true rfl) (Nat.le_of_ble_eq_true rfl) (Nat.le_of_ble_eq_true rfl) (Nat.le_of_ble_eq_true rfl) rfl rfl (vnd_e rfl) rfl (vnd_e rfl) (dsj_e rfl) ?_
  rintro r_4 w ⟨iv_5, hk_6, rfl⟩
  refine k_ws [(cO11_i1r1i10r1i2r5i2r12i3r4i2 h0 m_thrown2_1 a_tape m_taped m_size m_at m_end m_token m_whole m_nameSize m_fault m_place m_trouble2_2 a_letters m_failed m_hasHouse a_r a_fresh a_st a_undone a_kept m_undos m_images a_from a_begin a_motor a_change a_startFrame a_changeFrame a_lostAt a_blackAt a_slips a_leftArc a_died a_arcs m_bestSum m_nearest m_nearestTown a_there a_backAt a_sorted a_parts m_seed1 m_darkNow), (cAI g a_r 311 d_r)] rfl ?_
  refine k_if_ne 18 X dX11_words_k0.1.2.1.2 (jp_e rfl) (fun h_7 => ?_) (fun h_7 => ?_)
  · skip
    have hc_8 := hk_6.resolve_left h_7
    have iv_9 : IV p0 0 7 := iv_meet (iv_any p0) hc_8 (zle_o rfl) (zle_o rfl)
    have iv_10 : IV r_4 1 1 := iv_neL h_7 iv_5 iq_0_0_0 (zle_e rfl)
    refine k_iconst (v := 0) X dX11_words_k0.2.1.2.1 ic_0 ?_
    refine k_istore_n [(2, .int 0), (0, .ref h0), (1, .int p0)] X dX11_words_k0.2.1.2.2 (nlt_e rfl) rfl ?_
    refine k_iconst (v := 0) X dX11_words_k0.2.2.1.1 ic_0 ?_
    refine k_istore_n [(3, .int 0), (2, .int 0), (0, .ref h0), (1, .int p0)] X dX11_words_k0.2.2.1.2 (nlt_e rfl) rfl ?_
    refine (fun hL : ∀ (nn_14 : Nat) (u_11 : Int32) (u_12 : Int32), (2147483647 - u_12.toInt).toNat = nn_14 → (IV u_12 0 8) → Wk p l e _ s m args below meth c _ A g _ _ _ [(cO11_i1r1i10r1i2r5i2r12i3r4i2 h0 m_thrown2_1 a_tape m_taped m_size m_at m_end m_token m_whole m_nameSize m_fault m_place m_trouble2_2 a_letters m_failed m_hasHouse a_r a_fresh a_st a_undone a_kept m_undos m_images a_from a_begin a_motor a_change a_startFrame a_changeFrame a_lostAt a_blackAt a_slips a_leftArc a_died a_arcs m_bestSum m_nearest m_nearestTown a_there a_backAt a_sorted a_parts m_seed1 m_darkNow), (cAI g a_r 311 d_r)] [(3, .int u_12), (2, .int u_11), (0, .ref h0), (1, .int p0)] 22 [] => hL _ 0 0 rfl (iv_w iq_0_0_0 (zle_e rfl) (zle_e rfl))) ?_
    refine fun nn_14 => Nat.strongRecOn nn_14 (fun nn_14 ih_16 => ?_)
    intro u_11 u_12 hm_15 hv_13
    refine k_iload_n X dX11_words_k0.2.2.2.1 0 rfl ?_
    refine k_aload_n X dX11_words_k0.2.2.2.2 2 rfl ?_
    refine k_get (ci := 11) X inlX11 rfl 15 (nlt_e rfl) dX11_words_k1.1.1.1.1 mw170 0 rfl rfl ?_
    refine k_bipush (v := 9) X dX11_words_k1.1.1.1.2 bi_9 ?_
    refine k_iald X dX11_words_k1.1.1.2.1 1 rfl (by unfold vp_in; decide) ?_
    refine k_nm (fun z_17 ez_17 => ?_)
    have i_18 : z_17.toInt = (d_r 9).toInt := by rw [ez_17]; rfl
    have iv_19 : IV z_17 0 8 := rb_9 ez_17 hp_d_r
    refine k_ic_ge 80 X dX11_words_k1.1.1.2.2 (jp_e rfl) (fun h_20 => ?_) (fun h_20 => ?_)
    · skip
      have j_21 : z_17.toInt ≤ u_12.toInt := iv_le h_20
      refine k_iload_n X dX11_words_k3.2.1 1 rfl ?_
      exact k_iret X hr dX11_words_k3.2.2 (Nat.le_of_ble_eq_true rfl) (Nat.le_of_ble_eq_true rfl) [0, 1] (vnd_e rfl) rfl rfl ⟨m_thrown2_1, m_trouble2_2, rfl⟩
    · skip
      have j_22 : u_12.toInt < z_17.toInt := iv_nle h_20
      have iv_23 : IV u_12 0 7 := iv_ltL (iv_nle h_20) hv_13 iv_19 (zle_e rfl)
      have iv_24 : IV z_17 1 8 := iv_ltR (iv_nle h_20) hv_13 iv_19 (zle_e rfl)
      refine k_iload_n X dX11_words_k1.1.2.1.1 1 rfl ?_
      refine k_aload_n X dX11_words_k1.1.2.1.2 2 rfl ?_
      refine k_get (ci := 11) X inlX11 rfl 15 (nlt_e rfl) dX11_words_k1.1.2.2.1 mw170 0 rfl rfl ?_
      refine k_bipush (v := 80) X dX11_words_k1.1.2.2.2 bi_80 ?_
      refine k_iconst (v := 2) X dX11_words_k1.2.1.1.1 ic_2 ?_
      refine k_iload_n X dX11_words_k1.2.1.1.2 0 rfl ?_
      refine k_imul X dX11_words_k1.2.1.2.1 ?_
      refine k_nm (fun z_25 ez_25 => ?_)
      have i_26 : z_25.toInt = 2 * u_12.toInt := in_mul ez_25 (by decide) (zle_e rfl) iv_23 (zle_e rfl) (zle_e rfl)
      have iv_27 : IV z_25 0 14 := iz4 i_26 iv_23 (zle_e rfl) (zle_e rfl) (zle_e rfl)
      refine k_iadd X dX11_words_k1.2.1.2.2 ?_
      refine k_nm (fun z_28 ez_28 => ?_)
      have i_29 : z_28.toInt = 80 + z_25.toInt := in_add ez_28 iq_80_80_80 iv_27 (zle_e rfl) (zle_e rfl)
      have iv_30 : IV z_28 80 94 := iz2 i_29 iv_27 (zle_e rfl) (zle_e rfl)
      refine k_iald X dX11_words_k1.2.2.1.1 1 rfl (iv_in iv_30 (zle_e rfl) (zle_l rfl)) ?_
      refine k_nm (fun z_31 ez_31 => ?_)
      have i_32 : z_28.toInt = 80 + 2 * u_12.toInt := by omega
      have iv_33 : IV z_31 0 7 := rb_80_2 ez_31 hp_d_r i_32 (iv_w iv_23 (zle_e rfl) (zle_e rfl))
      refine k_iload_n X dX11_words_k1.2.2.1.2 3 rfl ?_
      refine k_ic_ne 71 X dX11_words_k1.2.2.2.1 (jp_e rfl) (fun h_34 => ?_) (fun h_34 => ?_)
      · skip
        refine k_iconst (v := 0) X dX11_words_k2.2.2.1.2 ic_0 ?_
        refine k_iadd X dX11_words_k2.2.2.2.1 ?_
        refine k_nm (fun z_35 ez_35 => ?_)
        have i_36 : z_35.toInt = u_11.toInt + 0 := in_add ez_35 (iv_any u_11) iq_0_0_0 (zle_e rfl) (zle_e rfl)
        have iv_37 : IV z_35 (-2147483648) 2147483647 := by have := (iv_any u_11); have := iq_0_0_0; rw [IV, i_36]; omega
        refine k_istore_n [(2, .int z_35), (3, .int u_12), (0, .ref h0), (1, .int p0)] X dX11_words_k2.2.2.2.2 (nlt_e rfl) rfl ?_
        obtain ⟨z_38, ez_38⟩ : ∃ y : Int32, u_12 + Int32.ofInt 1 = y := ⟨_, rfl⟩
        refine k_iinc z_38 [(3, .int z_38), (2, .int z_35), (0, .ref h0), (1, .int p0)] 1 X dX11_words_k3.1.1 rfl ez_38 (nlt_e rfl) rfl ?_
        have i_39 : z_38.toInt = u_12.toInt + 1 := in_inc ez_38 (oin_e rfl) iv_23 (zle_e rfl) (zle_e rfl)
        have iv_40 : IV z_38 1 8 := iz1 i_39 iv_23 (zle_e rfl) (zle_e rfl)
        refine k_goto 22 X dX11_words_k3.1.2 (jp_e rfl) ?_
        exact ih_16 _ (by omega) z_35 z_38 rfl (iv_w iv_40 (zle_e rfl) (zle_e rfl))
      · skip
        refine k_aload_n X dX11_words_k1.2.2.2.2 2 rfl ?_
        refine k_get (ci := 11) X inlX11 rfl 15 (nlt_e rfl) dX11_words_k2.1.1.1.1 mw170 0 rfl rfl ?_
        refine k_bipush (v := 80) X dX11_words_k2.1.1.1.2 bi_80 ?_
        refine k_iconst (v := 2) X dX11_words_k2.1.1.2.1 ic_2 ?_
        refine k_iload_n X dX11_words_k2.1.1.2.2 0 rfl ?_
        refine k_imul X dX11_words_k2.1.2.1.1 ?_
        refine k_to z_25 ez_25.symm ?_
        refine k_iadd X dX11_words_k2.1.2.1.2 ?_
        refine k_to z_28 ez_28.symm ?_
        refine k_iconst (v := 1) X dX11_words_k2.1.2.2.1 ic_1 ?_
        refine k_iadd X dX11_words_k2.1.2.2.2 ?_
        refine k_nm (fun z_41 ez_41 => ?_)
        have i_42 : z_41.toInt = z_28.toInt + 1 := in_add ez_41 iv_30 iq_1_1_1 (zle_e rfl) (zle_e rfl)
        have iv_43 : IV z_41 81 95 := iz1 i_42 iv_30 (zle_e rfl) (zle_e rfl)
        refine k_iald X dX11_words_k2.2.1.1.1 1 rfl (iv_in iv_43 (zle_e rfl) (zle_l rfl)) ?_
        refine k_nm (fun z_44 ez_44 => ?_)
        refine k_bipush (v := 24) X dX11_words_k2.2.1.1.2 bi_24 ?_
        refine k_ic_lt 71 X dX11_words_k2.2.1.2.1 (jp_e rfl) (fun h_45 => ?_) (fun h_45 => ?_)
        · skip
          have j_46 : z_44.toInt < 24 := iv_lt h_45
          have iv_47 : IV z_44 (-2147483648) 23 := iv_ltL (iv_lt h_45) (iv_any z_44) iq_24_24_24 (zle_e rfl)
          refine k_iconst (v := 0) X dX11_words_k2.2.2.1.2 ic_0 ?_
          refine k_iadd X dX11_words_k2.2.2.2.1 ?_
          refine k_nm (fun z_48 ez_48 => ?_)
          have i_49 : z_48.toInt = u_11.toInt + 0 := in_add ez_48 (iv_any u_11) iq_0_0_0 (zle_e rfl) (zle_e rfl)
          have iv_50 : IV z_48 (-2147483648) 2147483647 := by have := (iv_any u_11); have := iq_0_0_0; rw [IV, i_49]; omega
          refine k_istore_n [(2, .int z_48), (3, .int u_12), (0, .ref h0), (1, .int p0)] X dX11_words_k2.2.2.2.2 (nlt_e rfl) rfl ?_
          obtain ⟨z_51, ez_51⟩ : ∃ y : Int32, u_12 + Int32.ofInt 1 = y := ⟨_, rfl⟩
          refine k_iinc z_51 [(3, .int z_51), (2, .int z_48), (0, .ref h0), (1, .int p0)] 1 X dX11_words_k3.1.1 rfl ez_51 (nlt_e rfl) rfl ?_
          have i_52 : z_51.toInt = u_12.toInt + 1 := in_inc ez_51 (oin_e rfl) iv_23 (zle_e rfl) (zle_e rfl)
          have iv_53 : IV z_51 1 8 := iz1 i_52 iv_23 (zle_e rfl) (zle_e rfl)
          refine k_goto 22 X dX11_words_k3.1.2 (jp_e rfl) ?_
          exact ih_16 _ (by omega) z_48 z_51 rfl (iv_w iv_53 (zle_e rfl) (zle_e rfl))
        · skip
          have j_54 : 24 ≤ z_44.toInt := iv_nlt h_45
          have iv_55 : IV z_44 24 2147483647 := iv_leR (iv_nlt h_45) iq_24_24_24 (iv_any z_44) (zle_e rfl)
          refine k_iconst (v := 1) X dX11_words_k2.2.1.2.2 ic_1 ?_
          refine k_goto 72 X dX11_words_k2.2.2.1.1 (jp_e rfl) ?_
          refine k_iadd X dX11_words_k2.2.2.2.1 ?_
          refine k_nm (fun z_56 ez_56 => ?_)
          refine k_istore_n [(2, .int z_56), (3, .int u_12), (0, .ref h0), (1, .int p0)] X dX11_words_k2.2.2.2.2 (nlt_e rfl) rfl ?_
          obtain ⟨z_58, ez_58⟩ : ∃ y : Int32, u_12 + Int32.ofInt 1 = y := ⟨_, rfl⟩
          refine k_iinc z_58 [(3, .int z_58), (2, .int z_56), (0, .ref h0), (1, .int p0)] 1 X dX11_words_k3.1.1 rfl ez_58 (nlt_e rfl) rfl ?_
          have i_59 : z_58.toInt = u_12.toInt + 1 := in_inc ez_58 (oin_e rfl) iv_23 (zle_e rfl) (zle_e rfl)
          have iv_60 : IV z_58 1 8 := iz1 i_59 iv_23 (zle_e rfl) (zle_e rfl)
          refine k_goto 22 X dX11_words_k3.1.2 (jp_e rfl) ?_
          exact ih_16 _ (by omega) z_56 z_58 rfl (iv_w iv_60 (zle_e rfl) (zle_e rfl))
  · skip
    have iv_61 : IV r_4 0 0 := iv_meet iv_5 (iv_e h_7 iq_0_0_0) (zle_o rfl) (zle_o rfl)
    refine k_aload_n X dX11_words_k0.1.2.2.1 0 rfl ?_
    refine k_iconst (v := 1) X dX11_words_k0.1.2.2.2 ic_1 ?_
    refine k_callVI (n := 1) (As := [.int 1]) (st := []) X [(cO11_i1r1i10r1i2r5i2r12i3r4i2 h0 m_thrown2_1 a_tape m_taped m_size m_at m_end m_token m_whole m_nameSize m_fault m_place m_trouble2_2 a_letters m_failed m_hasHouse a_r a_fresh a_st a_undone a_kept m_undos m_images a_from a_begin a_motor a_change a_startFrame a_changeFrame a_lostAt a_blackAt a_slips a_leftArc a_died a_arcs m_bestSum m_nearest m_nearestTown a_there a_backAt a_sorted a_parts m_seed1 m_darkNow)] [(cAI g a_r 311 d_r)] [0] [1] (m_no l g h0 1 m_thrown2_1 a_tape m_taped m_size m_at m_end m_token m_whole m_nameSize m_fault m_place m_trouble2_2 a_letters m_failed m_hasHouse a_r a_fresh a_st a_undone a_kept m_undos m_images a_from a_begin a_motor a_change a_startFrame a_changeFrame a_lostAt a_blackAt a_slips a_leftArc a_died a_arcs m_bestSum m_nearest m_nearestTown a_there a_backAt a_sorted a_parts m_seed1 m_darkNow) dX11_words_k0.2.1.1.1 mw485 mw486 mw487 mw5 mw488 rfl 11 rfl rfl 0 _ rfl yk_yX11_no_1 rfl (Nat.le_of_ble_eq_true rfl) (Nat.le_of_ble_eq_true rfl) (Nat.le_of_ble_eq_true rfl) (Nat.le_of_ble_eq_true rfl) (Nat.le_of_ble_eq_true rfl) rfl rfl (vnd_e rfl) rfl (vnd_e rfl) (dsj_e rfl) ?_
    rintro r_63 w ⟨m_trouble2_62, iv_64, rfl⟩
    refine k_ws [(cAI g a_r 311 d_r), (cO11_i1r1i10r1i2r5i2r12i3r4i2 h0 m_thrown2_1 a_tape m_taped m_size m_at m_end m_token m_whole m_nameSize m_fault m_place m_trouble2_62 a_letters m_failed m_hasHouse a_r a_fresh a_st a_undone a_kept m_undos m_images a_from a_begin a_motor a_change a_startFrame a_changeFrame a_lostAt a_blackAt a_slips a_leftArc a_died a_arcs m_bestSum m_nearest m_nearestTown a_there a_backAt a_sorted a_parts m_seed1 m_darkNow)] rfl ?_
    exact k_iret X hr dX11_words_k0.2.1.1.2 (Nat.le_of_ble_eq_true rfl) (Nat.le_of_ble_eq_true rfl) [1, 0] (vnd_e rfl) rfl rfl ⟨m_thrown2_1, m_trouble2_62, rfl⟩

theorem dX11_power_k0 : ((((dD cX11_power 0 (.lconst 1) 1 ∧ dD cX11_power 1 (.lstore_n 2) 1) ∧ (dD cX11_power 2 (.iconst 0) 1 ∧ dD cX11_power 3 (.istore 4) 2)) ∧ ((dD cX11_power 5 (.iload 4) 2 ∧ dD cX11_power 7 (.iload_n 1) 1) ∧ (dD cX11_power 8 (.if_icmp .ge 14) 3 ∧ dD cX11_power 11 (.lload_n 2) 1))) ∧ (((dD cX11_power 12 (.iload_n 0) 1 ∧ dD cX11_power 13 .i2l 1) ∧ (dD cX11_power 14 .lmul 1 ∧ dD cX11_power 15 (.lstore_n 2) 1)) ∧ ((dD cX11_power 16 (.iinc 4 1) 3 ∧ dD cX11_power 19 (.goto (-14)) 3) ∧ (dD cX11_power 22 (.lload_n 2) 1 ∧ dD cX11_power 23 .lreturn 1)))) := dkA16 (by decide +kernel)
set_option maxHeartbeats 4000000 in
set_option maxRecDepth 100000 in
theorem m_powerH (l : Launch) (g : Gx) (p1 : Int32) (hv_p1 : IV p1 0 8) : cL l g yX11_power cX11_power 5 (some .long) 0 0 0 0 [.int 100, .int p1] [] (fun r w => (r ≠ 0) ∧ w = []) := by
  refine cL.of (by decide) (Nat.le_of_ble_eq_true rfl) ?_
  intro p e s m args below meth c A X hr hi
  refine k_lveq [(0, .int 100), (1, .int p1)] rfl ?_
  refine k_lconst (v := 1) X dX11_power_k0.1.1.1.1 (by decide) ?_
  refine k_lstore_n [(2, .long 1), (0, .int 100), (1, .int p1)] X dX11_power_k0.1.1.1.2 (by decide) rfl ?_
  refine k_iconst (v := 0) X dX11_power_k0.1.1.2.1 ic_0 ?_
  refine k_istore [(4, .int 0), (2, .long 1), (0, .int 100), (1, .int p1)] X dX11_power_k0.1.1.2.2 (nlt_e rfl) rfl ?_
  refine (fun hL : ∀ (nn_5 : Nat) (u_1 : Int64) (u_2 : Int32), (p1.toInt - u_2.toInt).toNat = nn_5 → (IV u_2 0 8) → (u_1.toInt = 100 ^ u_2.toInt.toNat) → Wk p l e _ s m args below meth c _ A g _ _ _ [] [(4, .int u_2), (2, .long u_1), (0, .int 100), (1, .int p1)] 5 [] => hL _ 1 0 rfl (iv_w iq_0_0_0 (zle_e rfl) (zle_e rfl)) (by decide)) ?_
  refine fun nn_5 => Nat.strongRecOn nn_5 (fun nn_5 ih_7 => ?_)
  intro u_1 u_2 hm_6 hv_3 hx_4
  refine k_iload X dX11_power_k0.1.2.1.1 0 rfl ?_
  refine k_iload_n X dX11_power_k0.1.2.1.2 3 rfl ?_
  refine k_ic_ge 22 X dX11_power_k0.1.2.2.1 (jp_e rfl) (fun h_8 => ?_) (fun h_8 => ?_)
  · skip
    have j_9 : p1.toInt ≤ u_2.toInt := iv_le h_8
    refine k_lload_n X dX11_power_k0.2.2.2.1 1 rfl ?_
    exact k_lret X hr dX11_power_k0.2.2.2.2 (Nat.le_of_ble_eq_true rfl) (Nat.le_of_ble_eq_true rfl) [] (vnd_e rfl) rfl rfl ⟨(p100n (by assumption)), rfl⟩
  · skip
    have j_10 : u_2.toInt < p1.toInt := iv_nle h_8
    have iv_11 : IV u_2 0 7 := iv_ltL (iv_nle h_8) hv_3 hv_p1 (zle_e rfl)
    have iv_12 : IV p1 1 8 := iv_ltR (iv_nle h_8) hv_3 hv_p1 (zle_e rfl)
    refine k_lload_n X dX11_power_k0.1.2.2.2 1 rfl ?_
    refine k_iload_n X dX11_power_k0.2.1.1.1 2 rfl ?_
    refine k_i2l X dX11_power_k0.2.1.1.2 ?_
    refine k_toL (100) (by decide) ?_
    refine k_lmul X dX11_power_k0.2.1.2.1 ?_
    refine k_nmL (fun y_13 ey_13 => ?_)
    refine k_lstore_n [(2, .long y_13), (4, .int u_2), (0, .int 100), (1, .int p1)] X dX11_power_k0.2.1.2.2 (by decide) rfl ?_
    obtain ⟨z_14, ez_14⟩ : ∃ y : Int32, u_2 + Int32.ofInt 1 = y := ⟨_, rfl⟩
    refine k_iinc z_14 [(4, .int z_14), (2, .long y_13), (0, .int 100), (1, .int p1)] 1 X dX11_power_k0.2.2.1.1 rfl ez_14 (nlt_e rfl) rfl ?_
    have i_15 : z_14.toInt = u_2.toInt + 1 := in_inc ez_14 (oin_e rfl) iv_11 (zle_e rfl) (zle_e rfl)
    have iv_16 : IV z_14 1 8 := iz1 i_15 iv_11 (zle_e rfl) (zle_e rfl)
    refine k_goto 5 X dX11_power_k0.2.2.1.2 (jp_e rfl) ?_
    exact ih_7 _ (by omega) y_13 z_14 rfl (iv_w iv_16 (zle_e rfl) (zle_e rfl)) (p100 (by assumption) (by assumption) (iv_w (by assumption) (zle_e rfl) (zle_e rfl)) (by assumption))


set_option maxHeartbeats 4000000 in
set_option maxRecDepth 100000 in
theorem m_power (l : Launch) (g : Gx) (p0 : Int32) (p1 : Int32) : cL l g yX11_power cX11_power 5 (some .long) 0 0 0 0 [.int p0, .int p1] [] (fun r w => w = []) := by
  refine cL.of (by decide) (Nat.le_of_ble_eq_true rfl) ?_
  intro p e s m args below meth c A X hr hi
  refine k_lveq [(0, .int p0), (1, .int p1)] rfl ?_
  refine k_lconst (v := 1) X dX11_power_k0.1.1.1.1 (by decide) ?_
  refine k_lstore_n [(2, .long 1), (0, .int p0), (1, .int p1)] X dX11_power_k0.1.1.1.2 (by decide) rfl ?_
  refine k_iconst (v := 0) X dX11_power_k0.1.1.2.1 ic_0 ?_
  refine k_istore [(4, .int 0), (2, .long 1), (0, .int p0), (1, .int p1)] X dX11_power_k0.1.1.2.2 (nlt_e rfl) rfl ?_
  refine (fun hL : ∀ (nn_4 : Nat) (u_1 : Int64) (u_2 : Int32), (p1.toInt - u_2.toInt).toNat = nn_4 → (IV u_2 0 2147483647) → Wk p l e _ s m args below meth c _ A g _ _ _ [] [(4, .int u_2), (2, .long u_1), (0, .int p0), (1, .int p1)] 5 [] => hL _ 1 0 rfl (iv_w iq_0_0_0 (zle_e rfl) (zle_e rfl))) ?_
  refine fun nn_4 => Nat.strongRecOn nn_4 (fun nn_4 ih_6 => ?_)
  intro u_1 u_2 hm_5 hv_3
  refine k_iload X dX11_power_k0.1.2.1.1 0 rfl ?_
  refine k_iload_n X dX11_power_k0.1.2.1.2 3 rfl ?_
  refine k_ic_ge 22 X dX11_power_k0.1.2.2.1 (jp_e rfl) (fun h_7 => ?_) (fun h_7 => ?_)
  · skip
    have j_8 : p1.toInt ≤ u_2.toInt := iv_le h_7
    refine k_lload_n X dX11_power_k0.2.2.2.1 1 rfl ?_
    exact k_lret X hr dX11_power_k0.2.2.2.2 (Nat.le_of_ble_eq_true rfl) (Nat.le_of_ble_eq_true rfl) [] (vnd_e rfl) rfl rfl rfl
  · skip
    have j_9 : u_2.toInt < p1.toInt := iv_nle h_7
    have iv_10 : IV u_2 0 2147483646 := iv_ltL (iv_nle h_7) hv_3 (iv_any p1) (zle_e rfl)
    have iv_11 : IV p1 1 2147483647 := iv_ltR (iv_nle h_7) hv_3 (iv_any p1) (zle_e rfl)
    refine k_lload_n X dX11_power_k0.1.2.2.2 1 rfl ?_
    refine k_iload_n X dX11_power_k0.2.1.1.1 2 rfl ?_
    refine k_i2l X dX11_power_k0.2.1.1.2 ?_
    refine k_nmL (fun y_12 ey_12 => ?_)
    refine k_lmul X dX11_power_k0.2.1.2.1 ?_
    refine k_nmL (fun y_13 ey_13 => ?_)
    refine k_lstore_n [(2, .long y_13), (4, .int u_2), (0, .int p0), (1, .int p1)] X dX11_power_k0.2.1.2.2 (by decide) rfl ?_
    obtain ⟨z_14, ez_14⟩ : ∃ y : Int32, u_2 + Int32.ofInt 1 = y := ⟨_, rfl⟩
    refine k_iinc z_14 [(4, .int z_14), (2, .long y_13), (0, .int p0), (1, .int p1)] 1 X dX11_power_k0.2.2.1.1 rfl ez_14 (nlt_e rfl) rfl ?_
    have i_15 : z_14.toInt = u_2.toInt + 1 := in_inc ez_14 (oin_e rfl) iv_10 (zle_e rfl) (zle_e rfl)
    have iv_16 : IV z_14 1 2147483647 := iz1 i_15 iv_10 (zle_e rfl) (zle_e rfl)
    refine k_goto 5 X dX11_power_k0.2.2.1.2 (jp_e rfl) ?_
    exact ih_6 _ (by omega) y_13 z_14 rfl (iv_w iv_16 (zle_e rfl) (zle_e rfl))

theorem dX11_lowest_k0 : ((((dD cX11_lowest 0 (.lload_n 2) 1 ∧ dD cX11_lowest 1 (.lstore 5) 2) ∧ (dD cX11_lowest 3 (.lload_n 0) 1 ∧ dD cX11_lowest 4 (.lstore 7) 2)) ∧ ((dD cX11_lowest 6 (.lload 7) 2 ∧ dD cX11_lowest 8 (.lconst 0) 1) ∧ (dD cX11_lowest 9 .lcmp 1 ∧ dD cX11_lowest 10 (.ifCond .eq 21) 3))) ∧ (((dD cX11_lowest 13 (.lload 5) 2 ∧ dD cX11_lowest 15 (.lload 7) 2) ∧ (dD cX11_lowest 17 .lrem 1 ∧ dD cX11_lowest 18 (.lstore 9) 2)) ∧ ((dD cX11_lowest 20 (.lload 7) 2 ∧ dD cX11_lowest 22 (.lstore 5) 2) ∧ (dD cX11_lowest 24 (.lload 9) 2 ∧ dD cX11_lowest 26 (.lstore 7) 2)))) := dkA16 (by decide +kernel)
theorem dX11_lowest_k1 : (((dD cX11_lowest 28 (.goto (-22)) 3 ∧ dD cX11_lowest 31 (.iload 4) 2) ∧ (dD cX11_lowest 33 (.ifCond .eq 7) 3 ∧ dD cX11_lowest 36 (.lload_n 2) 1)) ∧ ((dD cX11_lowest 37 (.goto 4) 3 ∧ dD cX11_lowest 40 (.lload_n 0) 1) ∧ (dD cX11_lowest 41 (.lload 5) 2 ∧ (dD cX11_lowest 43 .ldiv 1 ∧ dD cX11_lowest 44 .lreturn 1)))) := dkA9 (by decide +kernel)
set_option maxHeartbeats 4000000 in
set_option maxRecDepth 100000 in
theorem m_lowest (l : Launch) (g : Gx) (p0 : Int64) (p1 : Int64) (p2 : Int32) (hr_0 : p0 ≠ 0 ∨ p1 ≠ 0) : cL l g yX11_lowest cX11_lowest 11 (some .long) 0 0 0 0 [.long p0, .long p1, .int p2] [] (fun r w => w = []) := by
  refine cL.of (by decide) (Nat.le_of_ble_eq_true rfl) ?_
  intro p e s m args below meth c A X hr hi
  refine k_lveq [(0, .long p0), (2, .long p1), (4, .int p2)] rfl ?_
  refine k_lload_n X dX11_lowest_k0.1.1.1.1 1 rfl ?_
  refine k_lstore [(5, .long p1), (0, .long p0), (2, .long p1), (4, .int p2)] X dX11_lowest_k0.1.1.1.2 (by decide) rfl ?_
  refine k_lload_n X dX11_lowest_k0.1.1.2.1 1 rfl ?_
  refine k_lstore [(7, .long p0), (5, .long p1), (0, .long p0), (2, .long p1), (4, .int p2)] X dX11_lowest_k0.1.1.2.2 (by decide) rfl ?_
  refine (fun hL : ∀ (nn_4 : Nat) (u_1 : Int64) (u_2 : Int64), u_2.toInt.natAbs = nn_4 → (¬ (u_1 = 0 ∧ u_2 = 0)) → Wk p l e _ s m args below meth c _ A g _ _ _ [] [(7, .long u_2), (5, .long u_1), (0, .long p0), (2, .long p1), (4, .int p2)] 6 [] => hL _ p1 p0 rfl (fun q => hr_0.elim (fun h => h q.2) (fun h => h q.1))) ?_
  refine fun nn_4 => Nat.strongRecOn nn_4 (fun nn_4 ih_6 => ?_)
  intro u_1 u_2 hm_5 hx_3
  refine k_lload X dX11_lowest_k0.1.2.1.1 0 rfl ?_
  refine k_lconst (v := 0) X dX11_lowest_k0.1.2.1.2 (by decide) ?_
  refine k_lcmp X dX11_lowest_k0.1.2.2.1 ?_
  refine k_nm (fun z_7 ez_7 => ?_)
  refine k_if_eq 31 X dX11_lowest_k0.1.2.2.2 (jp_e rfl) (fun h_8 => ?_) (fun h_8 => ?_)
  · skip
    have iv_9 : IV z_7 0 0 := iv_meet (iv_any z_7) (iv_e h_8 iq_0_0_0) (zle_o rfl) (zle_o rfl)
    refine k_iload X dX11_lowest_k1.1.1.2 4 rfl ?_
    refine k_if_eq 40 X dX11_lowest_k1.1.2.1 (jp_e rfl) (fun h_10 => ?_) (fun h_10 => ?_)
    · skip
      have iv_11 : IV p2 0 0 := iv_meet (iv_any p2) (iv_e h_10 iq_0_0_0) (zle_o rfl) (zle_o rfl)
      refine k_lload_n X dX11_lowest_k1.2.1.2 2 rfl ?_
      refine k_lload X dX11_lowest_k1.2.2.1 1 rfl ?_
      refine k_ldiv X dX11_lowest_k1.2.2.2.1 (lown (by assumption) (by assumption) (by assumption)) ?_
      refine k_nmL (fun y_12 ey_12 => ?_)
      exact k_lret X hr dX11_lowest_k1.2.2.2.2 (Nat.le_of_ble_eq_true rfl) (Nat.le_of_ble_eq_true rfl) [] (vnd_e rfl) rfl rfl rfl
    · skip
      refine k_lload_n X dX11_lowest_k1.1.2.2 3 rfl ?_
      refine k_goto 41 X dX11_lowest_k1.2.1.1 (jp_e rfl) ?_
      refine k_lload X dX11_lowest_k1.2.2.1 1 rfl ?_
      refine k_ldiv X dX11_lowest_k1.2.2.2.1 (lown (by assumption) (by assumption) (by assumption)) ?_
      refine k_nmL (fun y_13 ey_13 => ?_)
      exact k_lret X hr dX11_lowest_k1.2.2.2.2 (Nat.le_of_ble_eq_true rfl) (Nat.le_of_ble_eq_true rfl) [] (vnd_e rfl) rfl rfl rfl
  · skip
    refine k_lload X dX11_lowest_k0.2.1.1.1 1 rfl ?_
    refine k_lload X dX11_lowest_k0.2.1.1.2 0 rfl ?_
    refine k_lrem X dX11_lowest_k0.2.1.2.1 (lg0 (by assumption) (by assumption)) ?_
    refine k_nmL (fun y_14 ey_14 => ?_)
    refine k_lstore [(9, .long y_14), (7, .long u_2), (5, .long u_1), (0, .long p0), (2, .long p1), (4, .int p2)] X dX11_lowest_k0.2.1.2.2 (by decide) rfl ?_
    refine k_lload X dX11_lowest_k0.2.2.1.1 1 rfl ?_
    refine k_lstore [(5, .long u_2), (9, .long y_14), (7, .long u_2), (0, .long p0), (2, .long p1), (4, .int p2)] X dX11_lowest_k0.2.2.1.2 (by decide) rfl ?_
    refine k_lload X dX11_lowest_k0.2.2.2.1 1 rfl ?_
    refine k_lstore [(7, .long y_14), (5, .long u_2), (9, .long y_14), (0, .long p0), (2, .long p1), (4, .int p2)] X dX11_lowest_k0.2.2.2.2 (by decide) rfl ?_
    refine k_goto 6 X dX11_lowest_k1.1.1.1 (jp_e rfl) ?_
    refine k_lv [(7, .long y_14), (5, .long u_2), (0, .long p0), (2, .long p1), (4, .int p2)] [0, 1, 3, 4, 5] rfl ?_
    exact ih_6 _ (by rw [← hm_5]; exact lrem_abs (by assumption) (lg0 (by assumption) (by assumption))) u_2 y_14 rfl (fun q => absurd q.1 (lg0 (by assumption) (by assumption)))

theorem dX11_holds_k0 : ((((dD cX11_holds 0 (.aload_n 0) 1 ∧ dD cX11_holds 1 (.invokevirtual 200) 3) ∧ (dD cX11_holds 4 (.aload_n 0) 1 ∧ dD cX11_holds 5 (.iload_n 1) 1)) ∧ ((dD cX11_holds 6 (.invokevirtual 412) 3 ∧ dD cX11_holds 9 (.ifCond .eq 11) 3) ∧ (dD cX11_holds 12 (.aload_n 0) 1 ∧ dD cX11_holds 13 (.iload_n 1) 1))) ∧ (((dD cX11_holds 14 (.invokevirtual 339) 3 ∧ dD cX11_holds 17 (.ifCond .eq 10) 3) ∧ (dD cX11_holds 20 (.aload_n 0) 1 ∧ dD cX11_holds 21 (.iconst 1) 1)) ∧ ((dD cX11_holds 22 (.invokevirtual 203) 3 ∧ dD cX11_holds 25 .i2l 1) ∧ (dD cX11_holds 26 .lreturn 1 ∧ dD cX11_holds 27 (.iload_n 2) 1)))) := dkA16 (by decide +kernel)
theorem dX11_holds_k1 : ((((dD cX11_holds 28 (.iconst 0) 1 ∧ dD cX11_holds 29 (.iconst 4) 1) ∧ (dD cX11_holds 30 (.invokestatic 182) 3 ∧ dD cX11_holds 33 (.ifCond .eq 36) 3)) ∧ ((dD cX11_holds 36 (.bipush 100) 2 ∧ dD cX11_holds 38 (.aload_n 0) 1) ∧ (dD cX11_holds 39 (.getfield 20) 3 ∧ dD cX11_holds 42 (.bipush 96) 2))) ∧ (((dD cX11_holds 44 (.iconst 3) 1 ∧ dD cX11_holds 45 (.iload_n 1) 1) ∧ (dD cX11_holds 46 .imul 1 ∧ dD cX11_holds 47 .iadd 1)) ∧ ((dD cX11_holds 48 (.iconst 2) 1 ∧ dD cX11_holds 49 .iadd 1) ∧ (dD cX11_holds 50 .iaload 1 ∧ dD cX11_holds 51 .isub 1)))) := dkA16 (by decide +kernel)
theorem dX11_holds_k2 : (((dD cX11_holds 52 (.iload_n 2) 1 ∧ (dD cX11_holds 53 (.invokestatic 415) 3 ∧ dD cX11_holds 56 (.bipush 100) 2)) ∧ (dD cX11_holds 58 (.iload_n 2) 1 ∧ (dD cX11_holds 59 (.invokestatic 415) 3 ∧ dD cX11_holds 62 (.iload_n 3) 1))) ∧ ((dD cX11_holds 63 (.invokestatic 408) 3 ∧ (dD cX11_holds 66 (.goto 9) 3 ∧ dD cX11_holds 69 (.aload_n 0) 1)) ∧ ((dD cX11_holds 70 (.iconst 2) 1 ∧ dD cX11_holds 71 (.invokevirtual 203) 3) ∧ (dD cX11_holds 74 .i2l 1 ∧ dD cX11_holds 75 .lreturn 1)))) := dkA13 (by decide +kernel)
set_option maxHeartbeats 4000000 in
set_option maxRecDepth 100000 in
theorem m_holds (l : Launch) (g : Gx) (h0 : Nat) (p0 : Int32) (p1 : Int32) (p2 : Int32) (m_thrown : Int32) (a_tape : Nat) (m_taped : Int32) (m_size : Int32) (m_at : Int32) (m_end : Int32) (m_token : Int32) (m_whole : Int32) (m_nameSize : Int32) (m_fault : Int32) (m_place : Int32) (m_trouble : Int32) (a_letters : Nat) (m_failed : Int32) (m_hasHouse : Int32) (a_r : Nat) (a_fresh : Nat) (a_st : Nat) (a_undone : Nat) (a_kept : Nat) (m_undos : Int32) (m_images : Int32) (a_from : Nat) (a_begin : Nat) (a_motor : Nat) (a_change : Nat) (a_startFrame : Nat) (a_changeFrame : Nat) (a_lostAt : Nat) (a_blackAt : Nat) (a_slips : Nat) (a_leftArc : Nat) (a_died : Nat) (a_arcs : Nat) (m_bestSum : Int32) (m_nearest : Int32) (m_nearestTown : Int32) (a_there : Nat) (a_backAt : Nat) (a_sorted : Nat) (a_parts : Nat) (m_seed1 : Int32) (m_darkNow : Int32) (d_r : Nat → Int32) (d_st : Nat → Int32) (hv_m_hasHouse : IV m_hasHouse 0 1) (hp_d_r : RInv d_r) : cL l g yX11_holds cX11_holds 4 (some .long) 2 43 0 0 [.ref h0, .int p0, .int p1, .int p2] [(cO11_i1r1i10r1i2r5i2r12i3r4i2 h0 m_thrown a_tape m_taped m_size m_at m_end m_token m_whole m_nameSize m_fault m_place m_trouble a_letters m_failed m_hasHouse a_r a_fresh a_st a_undone a_kept m_undos m_images a_from a_begin a_motor a_change a_startFrame a_changeFrame a_lostAt a_blackAt a_slips a_leftArc a_died a_arcs m_bestSum m_nearest m_nearestTown a_there a_backAt a_sorted a_parts m_seed1 m_darkNow), (cAI g a_r 311 d_r), (cAI g a_st 44 d_st)] (fun r w => ∃ (m_thrown2 : Int32) (m_trouble2 : Int32), w = [(cO11_i1r1i10r1i2r5i2r12i3r4i2 h0 m_thrown2 a_tape m_taped m_size m_at m_end m_token m_whole m_nameSize m_fault m_place m_trouble2 a_letters m_failed m_hasHouse a_r a_fresh a_st a_undone a_kept m_undos m_images a_from a_begin a_motor a_change a_startFrame a_changeFrame a_lostAt a_blackAt a_slips a_leftArc a_died a_arcs m_bestSum m_nearest m_nearestTown a_there a_backAt a_sorted a_parts m_seed1 m_darkNow), (cAI g a_r 311 d_r), (cAI g a_st 44 d_st)]) := by
  refine cL.of (by decide) (Nat.le_of_ble_eq_true rfl) ?_
  intro p e s m args below meth c A X hr hi
  refine k_lveq [(0, .ref h0), (1, .int p0), (2, .int p1), (3, .int p2)] rfl ?_
  refine k_aload_n X dX11_holds_k0.1.1.1.1 0 rfl ?_
  refine k_callVV (n := 0) (As := []) (st := []) X [(cO11_i1r1i10r1i2r5i2r12i3r4i2 h0 m_thrown a_tape m_taped m_size m_at m_end m_token m_whole m_nameSize m_fault m_place m_trouble a_letters m_failed m_hasHouse a_r a_fresh a_st a_undone a_kept m_undos m_images a_from a_begin a_motor a_change a_startFrame a_changeFrame a_lostAt a_blackAt a_slips a_leftArc a_died a_arcs m_bestSum m_nearest m_nearestTown a_there a_backAt a_sorted a_parts m_seed1 m_darkNow)] [(cAI g a_r 311 d_r), (cAI g a_st 44 d_st)] [0] [1, 2] (m_good l g h0 m_thrown a_tape m_taped m_size m_at m_end m_token m_whole m_nameSize m_fault m_place m_trouble a_letters m_failed m_hasHouse a_r a_fresh a_st a_undone a_kept m_undos m_images a_from a_begin a_motor a_change a_startFrame a_changeFrame a_lostAt a_blackAt a_slips a_leftArc a_died a_arcs m_bestSum m_nearest m_nearestTown a_there a_backAt a_sorted a_parts m_seed1 m_darkNow) dX11_holds_k0.1.1.1.2 mw477 mw478 mw479 mw5 mw480 rfl 11 rfl rfl 0 _ rfl yk_yX11_good_0 rfl (Nat.le_of_ble_eq_true rfl) (Nat.le_of_ble_eq_true rfl) (Nat.le_of_ble_eq_true rfl) (Nat.le_of_ble_eq_true rfl) (Nat.le_of_ble_eq_true rfl) rfl rfl (vnd_e rfl) rfl (vnd_e rfl) (dsj_e rfl) ?_
  rintro w ⟨m_thrown2_1, m_trouble2_2, rfl⟩
  refine k_ws [(cAI g a_r 311 d_r), (cAI g a_st 44 d_st), (cO11_i1r1i10r1i2r5i2r12i3r4i2 h0 m_thrown2_1 a_tape m_taped m_size m_at m_end m_token m_whole m_nameSize m_fault m_place m_trouble2_2 a_letters m_failed m_hasHouse a_r a_fresh a_st a_undone a_kept m_undos m_images a_from a_begin a_motor a_change a_startFrame a_changeFrame a_lostAt a_blackAt a_slips a_leftArc a_died a_arcs m_bestSum m_nearest m_nearestTown a_there a_backAt a_sorted a_parts m_seed1 m_darkNow)] rfl ?_
  refine k_aload_n X dX11_holds_k0.1.1.2.1 0 rfl ?_
  refine k_iload_n X dX11_holds_k0.1.1.2.2 1 rfl ?_
  refine k_callVI (n := 1) (As := [.int p0]) (st := []) X [(cO11_i1r1i10r1i2r5i2r12i3r4i2 h0 m_thrown2_1 a_tape m_taped m_size m_at m_end m_token m_whole m_nameSize m_fault m_place m_trouble2_2 a_letters m_failed m_hasHouse a_r a_fresh a_st a_undone a_kept m_undos m_images a_from a_begin a_motor a_change a_startFrame a_changeFrame a_lostAt a_blackAt a_slips a_leftArc a_died a_arcs m_bestSum m_nearest m_nearestTown a_there a_backAt a_sorted a_parts m_seed1 m_darkNow), (cAI g a_r 311 d_r)] [(cAI g a_st 44 d_st)] [2, 0] [1] (m_isWeak l g h0 p0 m_thrown2_1 a_tape m_taped m_size m_at m_end m_token m_whole m_nameSize m_fault m_place m_trouble2_2 a_letters m_failed m_hasHouse a_r a_fresh a_st a_undone a_kept m_undos m_images a_from a_begin a_motor a_change a_startFrame a_changeFrame a_lostAt a_blackAt a_slips a_leftArc a_died a_arcs m_bestSum m_nearest m_nearestTown a_there a_backAt a_sorted a_parts m_seed1 m_darkNow d_r (iv_w hv_m_hasHouse (zle_e rfl) (zle_e rfl)) hp_d_r) dX11_holds_k0.1.2.1.1 mw1252 mw1253 mw1254 mw5 mw1255 rfl 11 rfl rfl 0 _ rfl yk_yX11_isWeak_1 rfl (Nat.le_of_ble_eq_true rfl) (Nat.le_of_ble_eq_true rfl) (Nat.le_of_ble_eq_true rfl) (Nat.le_of_ble_eq_true rfl) (Nat.le_of_ble_eq_true rfl) rfl rfl (vnd_e rfl) rfl (vnd_e rfl) (dsj_e rfl) ?_
  rintro r_4 w ⟨iv_5, hk_6, rfl⟩
  refine k_ws [(cAI g a_st 44 d_st), (cO11_i1r1i10r1i2r5i2r12i3r4i2 h0 m_thrown2_1 a_tape m_taped m_size m_at m_end m_token m_whole m_nameSize m_fault m_place m_trouble2_2 a_letters m_failed m_hasHouse a_r a_fresh a_st a_undone a_kept m_undos m_images a_from a_begin a_motor a_change a_startFrame a_changeFrame a_lostAt a_blackAt a_slips a_leftArc a_died a_arcs m_bestSum m_nearest m_nearestTown a_there a_backAt a_sorted a_parts m_seed1 m_darkNow), (cAI g a_r 311 d_r)] rfl ?_
  refine k_if_eq 20 X dX11_holds_k0.1.2.1.2 (jp_e rfl) (fun h_7 => ?_) (fun h_7 => ?_)
  · skip
    have iv_8 : IV r_4 0 0 := iv_meet iv_5 (iv_e h_7 iq_0_0_0) (zle_o rfl) (zle_o rfl)
    refine k_aload_n X dX11_holds_k0.2.1.2.1 0 rfl ?_
    refine k_iconst (v := 1) X dX11_holds_k0.2.1.2.2 ic_1 ?_
    refine k_callVI (n := 1) (As := [.int 1]) (st := []) X [(cO11_i1r1i10r1i2r5i2r12i3r4i2 h0 m_thrown2_1 a_tape m_taped m_size m_at m_end m_token m_whole m_nameSize m_fault m_place m_trouble2_2 a_letters m_failed m_hasHouse a_r a_fresh a_st a_undone a_kept m_undos m_images a_from a_begin a_motor a_change a_startFrame a_changeFrame a_lostAt a_blackAt a_slips a_leftArc a_died a_arcs m_bestSum m_nearest m_nearestTown a_there a_backAt a_sorted a_parts m_seed1 m_darkNow)] [(cAI g a_st 44 d_st), (cAI g a_r 311 d_r)] [1] [0, 2] (m_no l g h0 1 m_thrown2_1 a_tape m_taped m_size m_at m_end m_token m_whole m_nameSize m_fault m_place m_trouble2_2 a_letters m_failed m_hasHouse a_r a_fresh a_st a_undone a_kept m_undos m_images a_from a_begin a_motor a_change a_startFrame a_changeFrame a_lostAt a_blackAt a_slips a_leftArc a_died a_arcs m_bestSum m_nearest m_nearestTown a_there a_backAt a_sorted a_parts m_seed1 m_darkNow) dX11_holds_k0.2.2.1.1 mw485 mw486 mw487 mw5 mw488 rfl 11 rfl rfl 0 _ rfl yk_yX11_no_1 rfl (Nat.le_of_ble_eq_true rfl) (Nat.le_of_ble_eq_true rfl) (Nat.le_of_ble_eq_true rfl) (Nat.le_of_ble_eq_true rfl) (Nat.le_of_ble_eq_true rfl) rfl rfl (vnd_e rfl) rfl (vnd_e rfl) (dsj_e rfl) ?_
    rintro r_10 w ⟨m_trouble2_9, iv_11, rfl⟩
    refine k_ws [(cAI g a_st 44 d_st), (cAI g a_r 311 d_r), (cO11_i1r1i10r1i2r5i2r12i3r4i2 h0 m_thrown2_1 a_tape m_taped m_size m_at m_end m_token m_whole m_nameSize m_fault m_place m_trouble2_9 a_letters m_failed m_hasHouse a_r a_fresh a_st a_undone a_kept m_undos m_images a_from a_begin a_motor a_change a_startFrame a_changeFrame a_lostAt a_blackAt a_slips a_leftArc a_died a_arcs m_bestSum m_nearest m_nearestTown a_there a_backAt a_sorted a_parts m_seed1 m_darkNow)] rfl ?_
    refine k_i2l X dX11_holds_k0.2.2.1.2 ?_
    refine k_nmL (fun y_12 ey_12 => ?_)
    exact k_lret X hr dX11_holds_k0.2.2.2.1 (Nat.le_of_ble_eq_true rfl) (Nat.le_of_ble_eq_true rfl) [2, 1, 0] (vnd_e rfl) rfl rfl ⟨m_thrown2_1, m_trouble2_9, rfl⟩
  · skip
    have hc_13 := hk_6.resolve_left h_7
    have iv_14 : IV p0 0 5 := iv_meet (iv_any p0) hc_13 (zle_o rfl) (zle_o rfl)
    have iv_15 : IV r_4 1 1 := iv_neL h_7 iv_5 iq_0_0_0 (zle_e rfl)
    refine k_aload_n X dX11_holds_k0.1.2.2.1 0 rfl ?_
    refine k_iload_n X dX11_holds_k0.1.2.2.2 1 rfl ?_
    refine k_callVI (n := 1) (As := [.int p0]) (st := []) X [(cO11_i1r1i10r1i2r5i2r12i3r4i2 h0 m_thrown2_1 a_tape m_taped m_size m_at m_end m_token m_whole m_nameSize m_fault m_place m_trouble2_2 a_letters m_failed m_hasHouse a_r a_fresh a_st a_undone a_kept m_undos m_images a_from a_begin a_motor a_change a_startFrame a_changeFrame a_lostAt a_blackAt a_slips a_leftArc a_died a_arcs m_bestSum m_nearest m_nearestTown a_there a_backAt a_sorted a_parts m_seed1 m_darkNow), (cAI g a_st 44 d_st)] [(cAI g a_r 311 d_r)] [1, 0] [2] (m_isMended l g h0 p0 m_thrown2_1 a_tape m_taped m_size m_at m_end m_token m_whole m_nameSize m_fault m_place m_trouble2_2 a_letters m_failed m_hasHouse a_r a_fresh a_st a_undone a_kept m_undos m_images a_from a_begin a_motor a_change a_startFrame a_changeFrame a_lostAt a_blackAt a_slips a_leftArc a_died a_arcs m_bestSum m_nearest m_nearestTown a_there a_backAt a_sorted a_parts m_seed1 m_darkNow d_st) dX11_holds_k0.2.1.1.1 mw682 mw683 mw684 mw5 mw685 rfl 11 rfl rfl 0 _ rfl yk_yX11_isMended_1 rfl (Nat.le_of_ble_eq_true rfl) (Nat.le_of_ble_eq_true rfl) (Nat.le_of_ble_eq_true rfl) (Nat.le_of_ble_eq_true rfl) (Nat.le_of_ble_eq_true rfl) rfl rfl (vnd_e rfl) rfl (vnd_e rfl) (dsj_e rfl) ?_
    rintro r_16 w ⟨iv_17, rfl⟩
    refine k_ws [(cAI g a_r 311 d_r), (cO11_i1r1i10r1i2r5i2r12i3r4i2 h0 m_thrown2_1 a_tape m_taped m_size m_at m_end m_token m_whole m_nameSize m_fault m_place m_trouble2_2 a_letters m_failed m_hasHouse a_r a_fresh a_st a_undone a_kept m_undos m_images a_from a_begin a_motor a_change a_startFrame a_changeFrame a_lostAt a_blackAt a_slips a_leftArc a_died a_arcs m_bestSum m_nearest m_nearestTown a_there a_backAt a_sorted a_parts m_seed1 m_darkNow), (cAI g a_st 44 d_st)] rfl ?_
    refine k_if_eq 27 X dX11_holds_k0.2.1.1.2 (jp_e rfl) (fun h_18 => ?_) (fun h_18 => ?_)
    · skip
      have iv_19 : IV r_16 0 0 := iv_meet iv_17 (iv_e h_18 iq_0_0_0) (zle_o rfl) (zle_o rfl)
      refine k_iload_n X dX11_holds_k0.2.2.2.2 2 rfl ?_
      refine k_iconst (v := 0) X dX11_holds_k1.1.1.1.1 ic_0 ?_
      refine k_iconst (v := 4) X dX11_holds_k1.1.1.1.2 ic_4 ?_
      refine k_callSI (n := 3) (As := [.int p1, .int 0, .int 4]) (st := []) X [] [(cAI g a_r 311 d_r), (cO11_i1r1i10r1i2r5i2r12i3r4i2 h0 m_thrown2_1 a_tape m_taped m_size m_at m_end m_token m_whole m_nameSize m_fault m_place m_trouble2_2 a_letters m_failed m_hasHouse a_r a_fresh a_st a_undone a_kept m_undos m_images a_from a_begin a_motor a_change a_startFrame a_changeFrame a_lostAt a_blackAt a_slips a_leftArc a_died a_arcs m_bestSum m_nearest m_nearestTown a_there a_backAt a_sorted a_parts m_seed1 m_darkNow), (cAI g a_st 44 d_st)] [] [0, 1, 2] (m_in l g p1 0 4) dX11_holds_k1.1.1.2.1 mw482 mw483 mw5 mw484 yk_yX11_in_3 rfl (Nat.le_of_ble_eq_true rfl) (Nat.le_of_ble_eq_true rfl) (Nat.le_of_ble_eq_true rfl) (Nat.le_of_ble_eq_true rfl) (Nat.le_of_ble_eq_true rfl) rfl rfl (vnd_e rfl) rfl (vnd_e rfl) (dsj_e rfl) ?_
      rintro r_20 w ⟨iv_21, hk_22, hk_23, rfl⟩
      refine k_ws [(cAI g a_r 311 d_r), (cO11_i1r1i10r1i2r5i2r12i3r4i2 h0 m_thrown2_1 a_tape m_taped m_size m_at m_end m_token m_whole m_nameSize m_fault m_place m_trouble2_2 a_letters m_failed m_hasHouse a_r a_fresh a_st a_undone a_kept m_undos m_images a_from a_begin a_motor a_change a_startFrame a_changeFrame a_lostAt a_blackAt a_slips a_leftArc a_died a_arcs m_bestSum m_nearest m_nearestTown a_there a_backAt a_sorted a_parts m_seed1 m_darkNow), (cAI g a_st 44 d_st)] rfl ?_
      refine k_if_eq 69 X dX11_holds_k1.1.1.2.2 (jp_e rfl) (fun h_24 => ?_) (fun h_24 => ?_)
      · skip
        have iv_25 : IV r_20 0 0 := iv_meet iv_21 (iv_e h_24 iq_0_0_0) (zle_o rfl) (zle_o rfl)
        have hc_26 := hk_23 (iv_eq iv_25 iq_0_0_0)
        have j_27 : p1.toInt < 0 ∨ 4 < p1.toInt := hc_26
        refine k_aload_n X dX11_holds_k2.2.1.2.2 0 rfl ?_
        refine k_iconst (v := 2) X dX11_holds_k2.2.2.1.1 ic_2 ?_
        refine k_callVI (n := 1) (As := [.int 2]) (st := []) X [(cO11_i1r1i10r1i2r5i2r12i3r4i2 h0 m_thrown2_1 a_tape m_taped m_size m_at m_end m_token m_whole m_nameSize m_fault m_place m_trouble2_2 a_letters m_failed m_hasHouse a_r a_fresh a_st a_undone a_kept m_undos m_images a_from a_begin a_motor a_change a_startFrame a_changeFrame a_lostAt a_blackAt a_slips a_leftArc a_died a_arcs m_bestSum m_nearest m_nearestTown a_there a_backAt a_sorted a_parts m_seed1 m_darkNow)] [(cAI g a_r 311 d_r), (cAI g a_st 44 d_st)] [1] [0, 2] (m_no l g h0 2 m_thrown2_1 a_tape m_taped m_size m_at m_end m_token m_whole m_nameSize m_fault m_place m_trouble2_2 a_letters m_failed m_hasHouse a_r a_fresh a_st a_undone a_kept m_undos m_images a_from a_begin a_motor a_change a_startFrame a_changeFrame a_lostAt a_blackAt a_slips a_leftArc a_died a_arcs m_bestSum m_nearest m_nearestTown a_there a_backAt a_sorted a_parts m_seed1 m_darkNow) dX11_holds_k2.2.2.1.2 mw485 mw486 mw487 mw5 mw488 rfl 11 rfl rfl 0 _ rfl yk_yX11_no_1 rfl (Nat.le_of_ble_eq_true rfl) (Nat.le_of_ble_eq_true rfl) (Nat.le_of_ble_eq_true rfl) (Nat.le_of_ble_eq_true rfl) (Nat.le_of_ble_eq_true rfl) rfl rfl (vnd_e rfl) rfl (vnd_e rfl) (dsj_e rfl) ?_
        rintro r_29 w ⟨m_trouble2_28, iv_30, rfl⟩
        refine k_ws [(cAI g a_r 311 d_r), (cAI g a_st 44 d_st), (cO11_i1r1i10r1i2r5i2r12i3r4i2 h0 m_thrown2_1 a_tape m_taped m_size m_at m_end m_token m_whole m_nameSize m_fault m_place m_trouble2_28 a_letters m_failed m_hasHouse a_r a_fresh a_st a_undone a_kept m_undos m_images a_from a_begin a_motor a_change a_startFrame a_changeFrame a_lostAt a_blackAt a_slips a_leftArc a_died a_arcs m_bestSum m_nearest m_nearestTown a_there a_backAt a_sorted a_parts m_seed1 m_darkNow)] rfl ?_
        refine k_i2l X dX11_holds_k2.2.2.2.1 ?_
        refine k_nmL (fun y_31 ey_31 => ?_)
        exact k_lret X hr dX11_holds_k2.2.2.2.2 (Nat.le_of_ble_eq_true rfl) (Nat.le_of_ble_eq_true rfl) [2, 0, 1] (vnd_e rfl) rfl rfl ⟨m_thrown2_1, m_trouble2_28, rfl⟩
      · skip
        have hc_32 := hk_22.resolve_left h_24
        have j_33 : 0 ≤ p1.toInt := hc_32.1
        have iv_34 : IV p1 0 2147483647 := iv_leR hc_32.1 iq_0_0_0 (iv_any p1) (zle_e rfl)
        have j_35 : p1.toInt ≤ 4 := hc_32.2
        have iv_36 : IV p1 0 4 := iv_leL hc_32.2 iv_34 iq_4_4_4 (zle_e rfl)
        have iv_37 : IV r_20 1 1 := iv_neL h_24 iv_21 iq_0_0_0 (zle_e rfl)
        refine k_bipush (v := 100) X dX11_holds_k1.1.2.1.1 bi_100 ?_
        refine k_aload_n X dX11_holds_k1.1.2.1.2 0 rfl ?_
        refine k_get (ci := 11) X inlX11 rfl 15 (nlt_e rfl) dX11_holds_k1.1.2.2.1 mw170 1 rfl rfl ?_
        refine k_bipush (v := 96) X dX11_holds_k1.1.2.2.2 bi_96 ?_
        refine k_iconst (v := 3) X dX11_holds_k1.2.1.1.1 ic_3 ?_
        refine k_iload_n X dX11_holds_k1.2.1.1.2 1 rfl ?_
        refine k_imul X dX11_holds_k1.2.1.2.1 ?_
        refine k_nm (fun z_38 ez_38 => ?_)
        have i_39 : z_38.toInt = 3 * p0.toInt := in_mul ez_38 (by decide) (zle_e rfl) iv_14 (zle_e rfl) (zle_e rfl)
        have iv_40 : IV z_38 0 15 := iz4 i_39 iv_14 (zle_e rfl) (zle_e rfl) (zle_e rfl)
        refine k_iadd X dX11_holds_k1.2.1.2.2 ?_
        refine k_nm (fun z_41 ez_41 => ?_)
        have i_42 : z_41.toInt = 96 + z_38.toInt := in_add ez_41 iq_96_96_96 iv_40 (zle_e rfl) (zle_e rfl)
        have iv_43 : IV z_41 96 111 := iz2 i_42 iv_40 (zle_e rfl) (zle_e rfl)
        refine k_iconst (v := 2) X dX11_holds_k1.2.2.1.1 ic_2 ?_
        refine k_iadd X dX11_holds_k1.2.2.1.2 ?_
        refine k_nm (fun z_44 ez_44 => ?_)
        have i_45 : z_44.toInt = z_41.toInt + 2 := in_add ez_44 iv_43 iq_2_2_2 (zle_e rfl) (zle_e rfl)
        have iv_46 : IV z_44 98 113 := iz1 i_45 iv_43 (zle_e rfl) (zle_e rfl)
        refine k_iald X dX11_holds_k1.2.2.2.1 0 rfl (iv_in iv_46 (zle_e rfl) (zle_l rfl)) ?_
        refine k_nm (fun z_47 ez_47 => ?_)
        refine k_isub X dX11_holds_k1.2.2.2.2 ?_
        refine k_nm (fun z_48 ez_48 => ?_)
        refine k_iload_n X dX11_holds_k2.1.1.1 2 rfl ?_
        refine k_callSL (n := 2) (As := [.int z_48, .int p1]) (st := []) X [] [(cAI g a_r 311 d_r), (cO11_i1r1i10r1i2r5i2r12i3r4i2 h0 m_thrown2_1 a_tape m_taped m_size m_at m_end m_token m_whole m_nameSize m_fault m_place m_trouble2_2 a_letters m_failed m_hasHouse a_r a_fresh a_st a_undone a_kept m_undos m_images a_from a_begin a_motor a_change a_startFrame a_changeFrame a_lostAt a_blackAt a_slips a_leftArc a_died a_arcs m_bestSum m_nearest m_nearestTown a_there a_backAt a_sorted a_parts m_seed1 m_darkNow), (cAI g a_st 44 d_st)] [] [0, 1, 2] (m_power l g z_48 p1) dX11_holds_k2.1.1.2.1 mw1256 mw1257 mw5 mw1258 yk_yX11_power_2 rfl (Nat.le_of_ble_eq_true rfl) (Nat.le_of_ble_eq_true rfl) (Nat.le_of_ble_eq_true rfl) (Nat.le_of_ble_eq_true rfl) (Nat.le_of_ble_eq_true rfl) rfl rfl (vnd_e rfl) rfl (vnd_e rfl) (dsj_e rfl) ?_
        rintro r_50 w rfl
        refine k_ws [(cAI g a_r 311 d_r), (cO11_i1r1i10r1i2r5i2r12i3r4i2 h0 m_thrown2_1 a_tape m_taped m_size m_at m_end m_token m_whole m_nameSize m_fault m_place m_trouble2_2 a_letters m_failed m_hasHouse a_r a_fresh a_st a_undone a_kept m_undos m_images a_from a_begin a_motor a_change a_startFrame a_changeFrame a_lostAt a_blackAt a_slips a_leftArc a_died a_arcs m_bestSum m_nearest m_nearestTown a_there a_backAt a_sorted a_parts m_seed1 m_darkNow), (cAI g a_st 44 d_st)] rfl ?_
        refine k_bipush (v := 100) X dX11_holds_k2.1.1.2.2 bi_100 ?_
        refine k_iload_n X dX11_holds_k2.1.2.1 2 rfl ?_
        refine k_callSL (n := 2) (As := [.int 100, .int p1]) (st := [.long r_50]) X [] [(cAI g a_r 311 d_r), (cO11_i1r1i10r1i2r5i2r12i3r4i2 h0 m_thrown2_1 a_tape m_taped m_size m_at m_end m_token m_whole m_nameSize m_fault m_place m_trouble2_2 a_letters m_failed m_hasHouse a_r a_fresh a_st a_undone a_kept m_undos m_images a_from a_begin a_motor a_change a_startFrame a_changeFrame a_lostAt a_blackAt a_slips a_leftArc a_died a_arcs m_bestSum m_nearest m_nearestTown a_there a_backAt a_sorted a_parts m_seed1 m_darkNow), (cAI g a_st 44 d_st)] [] [0, 1, 2] (m_powerH l g p1 (iv_w iv_36 (zle_e rfl) (zle_e rfl))) dX11_holds_k2.1.2.2.1 mw1256 mw1257 mw5 mw1258 yk_yX11_power_2 rfl (Nat.le_of_ble_eq_true rfl) (Nat.le_of_ble_eq_true rfl) (Nat.le_of_ble_eq_true rfl) (Nat.le_of_ble_eq_true rfl) (Nat.le_of_ble_eq_true rfl) rfl rfl (vnd_e rfl) rfl (vnd_e rfl) (dsj_e rfl) ?_
        rintro r_51 w ⟨hq_52, rfl⟩
        refine k_ws [(cAI g a_r 311 d_r), (cO11_i1r1i10r1i2r5i2r12i3r4i2 h0 m_thrown2_1 a_tape m_taped m_size m_at m_end m_token m_whole m_nameSize m_fault m_place m_trouble2_2 a_letters m_failed m_hasHouse a_r a_fresh a_st a_undone a_kept m_undos m_images a_from a_begin a_motor a_change a_startFrame a_changeFrame a_lostAt a_blackAt a_slips a_leftArc a_died a_arcs m_bestSum m_nearest m_nearestTown a_there a_backAt a_sorted a_parts m_seed1 m_darkNow), (cAI g a_st 44 d_st)] rfl ?_
        refine k_iload_n X dX11_holds_k2.1.2.2.2 3 rfl ?_
        refine k_callSL (n := 3) (As := [.long r_50, .long r_51, .int p2]) (st := []) X [] [(cAI g a_r 311 d_r), (cO11_i1r1i10r1i2r5i2r12i3r4i2 h0 m_thrown2_1 a_tape m_taped m_size m_at m_end m_token m_whole m_nameSize m_fault m_place m_trouble2_2 a_letters m_failed m_hasHouse a_r a_fresh a_st a_undone a_kept m_undos m_images a_from a_begin a_motor a_change a_startFrame a_changeFrame a_lostAt a_blackAt a_slips a_leftArc a_died a_arcs m_bestSum m_nearest m_nearestTown a_there a_backAt a_sorted a_parts m_seed1 m_darkNow), (cAI g a_st 44 d_st)] [] [0, 1, 2] (m_lowest l g r_50 r_51 p2 (by first | exact Or.inr (by decide) | exact Or.inr (by assumption) | exact Or.inl (by assumption))) dX11_holds_k2.2.1.1 mw1167 mw1168 mw5 mw1169 yk_yX11_lowest_3 rfl (Nat.le_of_ble_eq_true rfl) (Nat.le_of_ble_eq_true rfl) (Nat.le_of_ble_eq_true rfl) (Nat.le_of_ble_eq_true rfl) (Nat.le_of_ble_eq_true rfl) rfl rfl (vnd_e rfl) rfl (vnd_e rfl) (dsj_e rfl) ?_
        rintro r_53 w rfl
        refine k_ws [(cAI g a_r 311 d_r), (cO11_i1r1i10r1i2r5i2r12i3r4i2 h0 m_thrown2_1 a_tape m_taped m_size m_at m_end m_token m_whole m_nameSize m_fault m_place m_trouble2_2 a_letters m_failed m_hasHouse a_r a_fresh a_st a_undone a_kept m_undos m_images a_from a_begin a_motor a_change a_startFrame a_changeFrame a_lostAt a_blackAt a_slips a_leftArc a_died a_arcs m_bestSum m_nearest m_nearestTown a_there a_backAt a_sorted a_parts m_seed1 m_darkNow), (cAI g a_st 44 d_st)] rfl ?_
        refine k_goto 75 X dX11_holds_k2.2.1.2.1 (jp_e rfl) ?_
        exact k_lret X hr dX11_holds_k2.2.2.2.2 (Nat.le_of_ble_eq_true rfl) (Nat.le_of_ble_eq_true rfl) [1, 0, 2] (vnd_e rfl) rfl rfl ⟨m_thrown2_1, m_trouble2_2, rfl⟩
    · skip
      have iv_54 : IV r_16 1 1 := iv_neL h_18 iv_17 iq_0_0_0 (zle_e rfl)
      refine k_aload_n X dX11_holds_k0.2.1.2.1 0 rfl ?_
      refine k_iconst (v := 1) X dX11_holds_k0.2.1.2.2 ic_1 ?_
      refine k_callVI (n := 1) (As := [.int 1]) (st := []) X [(cO11_i1r1i10r1i2r5i2r12i3r4i2 h0 m_thrown2_1 a_tape m_taped m_size m_at m_end m_token m_whole m_nameSize m_fault m_place m_trouble2_2 a_letters m_failed m_hasHouse a_r a_fresh a_st a_undone a_kept m_undos m_images a_from a_begin a_motor a_change a_startFrame a_changeFrame a_lostAt a_blackAt a_slips a_leftArc a_died a_arcs m_bestSum m_nearest m_nearestTown a_there a_backAt a_sorted a_parts m_seed1 m_darkNow)] [(cAI g a_r 311 d_r), (cAI g a_st 44 d_st)] [1] [0, 2] (m_no l g h0 1 m_thrown2_1 a_tape m_taped m_size m_at m_end m_token m_whole m_nameSize m_fault m_place m_trouble2_2 a_letters m_failed m_hasHouse a_r a_fresh a_st a_undone a_kept m_undos m_images a_from a_begin a_motor a_change a_startFrame a_changeFrame a_lostAt a_blackAt a_slips a_leftArc a_died a_arcs m_bestSum m_nearest m_nearestTown a_there a_backAt a_sorted a_parts m_seed1 m_darkNow) dX11_holds_k0.2.2.1.1 mw485 mw486 mw487 mw5 mw488 rfl 11 rfl rfl 0 _ rfl yk_yX11_no_1 rfl (Nat.le_of_ble_eq_true rfl) (Nat.le_of_ble_eq_true rfl) (Nat.le_of_ble_eq_true rfl) (Nat.le_of_ble_eq_true rfl) (Nat.le_of_ble_eq_true rfl) rfl rfl (vnd_e rfl) rfl (vnd_e rfl) (dsj_e rfl) ?_
      rintro r_56 w ⟨m_trouble2_55, iv_57, rfl⟩
      refine k_ws [(cAI g a_r 311 d_r), (cAI g a_st 44 d_st), (cO11_i1r1i10r1i2r5i2r12i3r4i2 h0 m_thrown2_1 a_tape m_taped m_size m_at m_end m_token m_whole m_nameSize m_fault m_place m_trouble2_55 a_letters m_failed m_hasHouse a_r a_fresh a_st a_undone a_kept m_undos m_images a_from a_begin a_motor a_change a_startFrame a_changeFrame a_lostAt a_blackAt a_slips a_leftArc a_died a_arcs m_bestSum m_nearest m_nearestTown a_there a_backAt a_sorted a_parts m_seed1 m_darkNow)] rfl ?_
      refine k_i2l X dX11_holds_k0.2.2.1.2 ?_
      refine k_nmL (fun y_58 ey_58 => ?_)
      exact k_lret X hr dX11_holds_k0.2.2.2.1 (Nat.le_of_ble_eq_true rfl) (Nat.le_of_ble_eq_true rfl) [2, 0, 1] (vnd_e rfl) rfl rfl ⟨m_thrown2_1, m_trouble2_55, rfl⟩

theorem dX11_pays_k0 : ((((dD cX11_pays 0 (.aload_n 0) 1 ∧ dD cX11_pays 1 (.invokevirtual 200) 3) ∧ (dD cX11_pays 4 (.aload_n 0) 1 ∧ dD cX11_pays 5 (.iload_n 1) 1)) ∧ ((dD cX11_pays 6 (.invokevirtual 412) 3 ∧ dD cX11_pays 9 (.ifCond .eq 11) 3) ∧ (dD cX11_pays 12 (.aload_n 0) 1 ∧ dD cX11_pays 13 (.iload_n 1) 1))) ∧ (((dD cX11_pays 14 (.invokevirtual 339) 3 ∧ dD cX11_pays 17 (.ifCond .eq 9) 3) ∧ (dD cX11_pays 20 (.aload_n 0) 1 ∧ dD cX11_pays 21 (.iconst 1) 1)) ∧ ((dD cX11_pays 22 (.invokevirtual 203) 3 ∧ dD cX11_pays 25 .ireturn 1) ∧ (dD cX11_pays 26 (.iload_n 2) 1 ∧ dD cX11_pays 27 (.iconst 0) 1)))) := dkA16 (by decide +kernel)
theorem dX11_pays_k1 : ((((dD cX11_pays 28 (.iconst 4) 1 ∧ dD cX11_pays 29 (.invokestatic 182) 3) ∧ (dD cX11_pays 32 (.ifCond .ne 9) 3 ∧ dD cX11_pays 35 (.aload_n 0) 1)) ∧ ((dD cX11_pays 36 (.iconst 2) 1 ∧ dD cX11_pays 37 (.invokevirtual 203) 3) ∧ (dD cX11_pays 40 .ireturn 1 ∧ dD cX11_pays 41 (.bipush 100) 2))) ∧ (((dD cX11_pays 43 (.iload_n 2) 1 ∧ dD cX11_pays 44 (.invokestatic 415) 3) ∧ (dD cX11_pays 47 (.lstore_n 3) 1 ∧ dD cX11_pays 48 (.aload_n 0) 1)) ∧ ((dD cX11_pays 49 (.getfield 20) 3 ∧ dD cX11_pays 52 (.iconst 5) 1) ∧ (dD cX11_pays 53 .iaload 1 ∧ dD cX11_pays 54 .i2l 1)))) := dkA16 (by decide +kernel)
theorem dX11_pays_k2 : ((((dD cX11_pays 55 (.lload_n 3) 1 ∧ dD cX11_pays 56 (.bipush 100) 2) ∧ (dD cX11_pays 58 (.aload_n 0) 1 ∧ dD cX11_pays 59 (.getfield 20) 3)) ∧ ((dD cX11_pays 62 (.bipush 96) 2 ∧ dD cX11_pays 64 (.iconst 3) 1) ∧ (dD cX11_pays 65 (.iload_n 1) 1 ∧ dD cX11_pays 66 .imul 1))) ∧ (((dD cX11_pays 67 .iadd 1 ∧ dD cX11_pays 68 (.iconst 2) 1) ∧ (dD cX11_pays 69 .iadd 1 ∧ dD cX11_pays 70 .iaload 1)) ∧ ((dD cX11_pays 71 .isub 1 ∧ dD cX11_pays 72 (.iload_n 2) 1) ∧ (dD cX11_pays 73 (.invokestatic 415) 3 ∧ dD cX11_pays 76 .lsub 1)))) := dkA16 (by decide +kernel)
theorem dX11_pays_k3 : (((dD cX11_pays 77 .lmul 1 ∧ dD cX11_pays 78 (.ldc2_w 418) 3) ∧ (dD cX11_pays 81 (.lload_n 3) 1 ∧ (dD cX11_pays 82 .lmul 1 ∧ dD cX11_pays 83 .lcmp 1))) ∧ ((dD cX11_pays 84 (.ifCond .le 7) 3 ∧ dD cX11_pays 87 (.iconst 1) 1) ∧ (dD cX11_pays 88 (.goto 4) 3 ∧ (dD cX11_pays 91 (.iconst 0) 1 ∧ dD cX11_pays 92 .ireturn 1)))) := dkA10 (by decide +kernel)
set_option maxHeartbeats 4000000 in
set_option maxRecDepth 100000 in
theorem m_pays (l : Launch) (g : Gx) (h0 : Nat) (p0 : Int32) (p1 : Int32) (m_thrown : Int32) (a_tape : Nat) (m_taped : Int32) (m_size : Int32) (m_at : Int32) (m_end : Int32) (m_token : Int32) (m_whole : Int32) (m_nameSize : Int32) (m_fault : Int32) (m_place : Int32) (m_trouble : Int32) (a_letters : Nat) (m_failed : Int32) (m_hasHouse : Int32) (a_r : Nat) (a_fresh : Nat) (a_st : Nat) (a_undone : Nat) (a_kept : Nat) (m_undos : Int32) (m_images : Int32) (a_from : Nat) (a_begin : Nat) (a_motor : Nat) (a_change : Nat) (a_startFrame : Nat) (a_changeFrame : Nat) (a_lostAt : Nat) (a_blackAt : Nat) (a_slips : Nat) (a_leftArc : Nat) (a_died : Nat) (a_arcs : Nat) (m_bestSum : Int32) (m_nearest : Int32) (m_nearestTown : Int32) (a_there : Nat) (a_backAt : Nat) (a_sorted : Nat) (a_parts : Nat) (m_seed1 : Int32) (m_darkNow : Int32) (d_r : Nat → Int32) (d_st : Nat → Int32) (hv_m_hasHouse : IV m_hasHouse 0 1) (hp_d_r : RInv d_r) : cI l g yX11_pays cX11_pays 5 (some .int) 2 43 0 0 [.ref h0, .int p0, .int p1] [(cO11_i1r1i10r1i2r5i2r12i3r4i2 h0 m_thrown a_tape m_taped m_size m_at m_end m_token m_whole m_nameSize m_fault m_place m_trouble a_letters m_failed m_hasHouse a_r a_fresh a_st a_undone a_kept m_undos m_images a_from a_begin a_motor a_change a_startFrame a_changeFrame a_lostAt a_blackAt a_slips a_leftArc a_died a_arcs m_bestSum m_nearest m_nearestTown a_there a_backAt a_sorted a_parts m_seed1 m_darkNow), (cAI g a_r 311 d_r), (cAI g a_st 44 d_st)] (fun r w => ∃ (m_thrown2 : Int32) (m_trouble2 : Int32), w = [(cO11_i1r1i10r1i2r5i2r12i3r4i2 h0 m_thrown2 a_tape m_taped m_size m_at m_end m_token m_whole m_nameSize m_fault m_place m_trouble2 a_letters m_failed m_hasHouse a_r a_fresh a_st a_undone a_kept m_undos m_images a_from a_begin a_motor a_change a_startFrame a_changeFrame a_lostAt a_blackAt a_slips a_leftArc a_died a_arcs m_bestSum m_nearest m_nearestTown a_there a_backAt a_sorted a_parts m_seed1 m_darkNow), (cAI g a_r 311 d_r), (cAI g a_st 44 d_st)]) := by
  refine cI.of (by decide) (Nat.le_of_ble_eq_true rfl) ?_
  intro p e s m args below meth c A X hr hi
  refine k_lveq [(0, .ref h0), (1, .int p0), (2, .int p1)] rfl ?_
  refine k_aload_n X dX11_pays_k0.1.1.1.1 0 rfl ?_
  refine k_callVV (n := 0) (As := []) (st := []) X [(cO11_i1r1i10r1i2r5i2r12i3r4i2 h0 m_thrown a_tape m_taped m_size m_at m_end m_token m_whole m_nameSize m_fault m_place m_trouble a_letters m_failed m_hasHouse a_r a_fresh a_st a_undone a_kept m_undos m_images a_from a_begin a_motor a_change a_startFrame a_changeFrame a_lostAt a_blackAt a_slips a_leftArc a_died a_arcs m_bestSum m_nearest m_nearestTown a_there a_backAt a_sorted a_parts m_seed1 m_darkNow)] [(cAI g a_r 311 d_r), (cAI g a_st 44 d_st)] [0] [1, 2] (m_good l g h0 m_thrown a_tape m_taped m_size m_at m_end m_token m_whole m_nameSize m_fault m_place m_trouble a_letters m_failed m_hasHouse a_r a_fresh a_st a_undone a_kept m_undos m_images a_from a_begin a_motor a_change a_startFrame a_changeFrame a_lostAt a_blackAt a_slips a_leftArc a_died a_arcs m_bestSum m_nearest m_nearestTown a_there a_backAt a_sorted a_parts m_seed1 m_darkNow) dX11_pays_k0.1.1.1.2 mw477 mw478 mw479 mw5 mw480 rfl 11 rfl rfl 0 _ rfl yk_yX11_good_0 rfl (Nat.le_of_ble_eq_true rfl) (Nat.le_of_ble_eq_true rfl) (Nat.le_of_ble_eq_true rfl) (Nat.le_of_ble_eq_true rfl) (Nat.le_of_ble_eq_true rfl) rfl rfl (vnd_e rfl) rfl (vnd_e rfl) (dsj_e rfl) ?_
  rintro w ⟨m_thrown2_1, m_trouble2_2, rfl⟩
  refine k_ws [(cAI g a_r 311 d_r), (cAI g a_st 44 d_st), (cO11_i1r1i10r1i2r5i2r12i3r4i2 h0 m_thrown2_1 a_tape m_taped m_size m_at m_end m_token m_whole m_nameSize m_fault m_place m_trouble2_2 a_letters m_failed m_hasHouse a_r a_fresh a_st a_undone a_kept m_undos m_images a_from a_begin a_motor a_change a_startFrame a_changeFrame a_lostAt a_blackAt a_slips a_leftArc a_died a_arcs m_bestSum m_nearest m_nearestTown a_there a_backAt a_sorted a_parts m_seed1 m_darkNow)] rfl ?_
  refine k_aload_n X dX11_pays_k0.1.1.2.1 0 rfl ?_
  refine k_iload_n X dX11_pays_k0.1.1.2.2 1 rfl ?_
  refine k_callVI (n := 1) (As := [.int p0]) (st := []) X [(cO11_i1r1i10r1i2r5i2r12i3r4i2 h0 m_thrown2_1 a_tape m_taped m_size m_at m_end m_token m_whole m_nameSize m_fault m_place m_trouble2_2 a_letters m_failed m_hasHouse a_r a_fresh a_st a_undone a_kept m_undos m_images a_from a_begin a_motor a_change a_startFrame a_changeFrame a_lostAt a_blackAt a_slips a_leftArc a_died a_arcs m_bestSum m_nearest m_nearestTown a_there a_backAt a_sorted a_parts m_seed1 m_darkNow), (cAI g a_r 311 d_r)] [(cAI g a_st 44 d_st)] [2, 0] [1] (m_isWeak l g h0 p0 m_thrown2_1 a_tape m_taped m_size m_at m_end m_token m_whole m_nameSize m_fault m_place m_trouble2_2 a_letters m_failed m_hasHouse a_r a_fresh a_st a_undone a_kept m_undos m_images a_from a_begin a_motor a_change a_startFrame a_changeFrame a_lostAt a_blackAt a_slips a_leftArc a_died a_arcs m_bestSum m_nearest m_nearestTown a_there a_backAt a_sorted a_parts m_seed1 m_darkNow d_r (iv_w hv_m_hasHouse (zle_e rfl) (zle_e rfl)) hp_d_r) dX11_pays_k0.1.2.1.1 mw1252 mw1253 mw1254 mw5 mw1255 rfl 11 rfl rfl 0 _ rfl yk_yX11_isWeak_1 rfl (Nat.le_of_ble_eq_true rfl) (Nat.le_of_ble_eq_true rfl) (Nat.le_of_ble_eq_true rfl) (Nat.le_of_ble_eq_true rfl) (Nat.le_of_ble_eq_true rfl) rfl rfl (vnd_e rfl) rfl (vnd_e rfl) (dsj_e rfl) ?_
  rintro r_4 w ⟨iv_5, hk_6, rfl⟩
  refine k_ws [(cAI g a_st 44 d_st), (cO11_i1r1i10r1i2r5i2r12i3r4i2 h0 m_thrown2_1 a_tape m_taped m_size m_at m_end m_token m_whole m_nameSize m_fault m_place m_trouble2_2 a_letters m_failed m_hasHouse a_r a_fresh a_st a_undone a_kept m_undos m_images a_from a_begin a_motor a_change a_startFrame a_changeFrame a_lostAt a_blackAt a_slips a_leftArc a_died a_arcs m_bestSum m_nearest m_nearestTown a_there a_backAt a_sorted a_parts m_seed1 m_darkNow), (cAI g a_r 311 d_r)] rfl ?_
  refine k_if_eq 20 X dX11_pays_k0.1.2.1.2 (jp_e rfl) (fun h_7 => ?_) (fun h_7 => ?_)
  · skip
    have iv_8 : IV r_4 0 0 := iv_meet iv_5 (iv_e h_7 iq_0_0_0) (zle_o rfl) (zle_o rfl)
    refine k_aload_n X dX11_pays_k0.2.1.2.1 0 rfl ?_
    refine k_iconst (v := 1) X dX11_pays_k0.2.1.2.2 ic_1 ?_
    refine k_callVI (n := 1) (As := [.int 1]) (st := []) X [(cO11_i1r1i10r1i2r5i2r12i3r4i2 h0 m_thrown2_1 a_tape m_taped m_size m_at m_end m_token m_whole m_nameSize m_fault m_place m_trouble2_2 a_letters m_failed m_hasHouse a_r a_fresh a_st a_undone a_kept m_undos m_images a_from a_begin a_motor a_change a_startFrame a_changeFrame a_lostAt a_blackAt a_slips a_leftArc a_died a_arcs m_bestSum m_nearest m_nearestTown a_there a_backAt a_sorted a_parts m_seed1 m_darkNow)] [(cAI g a_st 44 d_st), (cAI g a_r 311 d_r)] [1] [0, 2] (m_no l g h0 1 m_thrown2_1 a_tape m_taped m_size m_at m_end m_token m_whole m_nameSize m_fault m_place m_trouble2_2 a_letters m_failed m_hasHouse a_r a_fresh a_st a_undone a_kept m_undos m_images a_from a_begin a_motor a_change a_startFrame a_changeFrame a_lostAt a_blackAt a_slips a_leftArc a_died a_arcs m_bestSum m_nearest m_nearestTown a_there a_backAt a_sorted a_parts m_seed1 m_darkNow) dX11_pays_k0.2.2.1.1 mw485 mw486 mw487 mw5 mw488 rfl 11 rfl rfl 0 _ rfl yk_yX11_no_1 rfl (Nat.le_of_ble_eq_true rfl) (Nat.le_of_ble_eq_true rfl) (Nat.le_of_ble_eq_true rfl) (Nat.le_of_ble_eq_true rfl) (Nat.le_of_ble_eq_true rfl) rfl rfl (vnd_e rfl) rfl (vnd_e rfl) (dsj_e rfl) ?_
    rintro r_10 w ⟨m_trouble2_9, iv_11, rfl⟩
    refine k_ws [(cAI g a_st 44 d_st), (cAI g a_r 311 d_r), (cO11_i1r1i10r1i2r5i2r12i3r4i2 h0 m_thrown2_1 a_tape m_taped m_size m_at m_end m_token m_whole m_nameSize m_fault m_place m_trouble2_9 a_letters m_failed m_hasHouse a_r a_fresh a_st a_undone a_kept m_undos m_images a_from a_begin a_motor a_change a_startFrame a_changeFrame a_lostAt a_blackAt a_slips a_leftArc a_died a_arcs m_bestSum m_nearest m_nearestTown a_there a_backAt a_sorted a_parts m_seed1 m_darkNow)] rfl ?_
    exact k_iret X hr dX11_pays_k0.2.2.1.2 (Nat.le_of_ble_eq_true rfl) (Nat.le_of_ble_eq_true rfl) [2, 1, 0] (vnd_e rfl) rfl rfl ⟨m_thrown2_1, m_trouble2_9, rfl⟩
  · skip
    have hc_12 := hk_6.resolve_left h_7
    have iv_13 : IV p0 0 5 := iv_meet (iv_any p0) hc_12 (zle_o rfl) (zle_o rfl)
    have iv_14 : IV r_4 1 1 := iv_neL h_7 iv_5 iq_0_0_0 (zle_e rfl)
    refine k_aload_n X dX11_pays_k0.1.2.2.1 0 rfl ?_
    refine k_iload_n X dX11_pays_k0.1.2.2.2 1 rfl ?_
    refine k_callVI (n := 1) (As := [.int p0]) (st := []) X [(cO11_i1r1i10r1i2r5i2r12i3r4i2 h0 m_thrown2_1 a_tape m_taped m_size m_at m_end m_token m_whole m_nameSize m_fault m_place m_trouble2_2 a_letters m_failed m_hasHouse a_r a_fresh a_st a_undone a_kept m_undos m_images a_from a_begin a_motor a_change a_startFrame a_changeFrame a_lostAt a_blackAt a_slips a_leftArc a_died a_arcs m_bestSum m_nearest m_nearestTown a_there a_backAt a_sorted a_parts m_seed1 m_darkNow), (cAI g a_st 44 d_st)] [(cAI g a_r 311 d_r)] [1, 0] [2] (m_isMended l g h0 p0 m_thrown2_1 a_tape m_taped m_size m_at m_end m_token m_whole m_nameSize m_fault m_place m_trouble2_2 a_letters m_failed m_hasHouse a_r a_fresh a_st a_undone a_kept m_undos m_images a_from a_begin a_motor a_change a_startFrame a_changeFrame a_lostAt a_blackAt a_slips a_leftArc a_died a_arcs m_bestSum m_nearest m_nearestTown a_there a_backAt a_sorted a_parts m_seed1 m_darkNow d_st) dX11_pays_k0.2.1.1.1 mw682 mw683 mw684 mw5 mw685 rfl 11 rfl rfl 0 _ rfl yk_yX11_isMended_1 rfl (Nat.le_of_ble_eq_true rfl) (Nat.le_of_ble_eq_true rfl) (Nat.le_of_ble_eq_true rfl) (Nat.le_of_ble_eq_true rfl) (Nat.le_of_ble_eq_true rfl) rfl rfl (vnd_e rfl) rfl (vnd_e rfl) (dsj_e rfl) ?_
    rintro r_15 w ⟨iv_16, rfl⟩
    refine k_ws [(cAI g a_r 311 d_r), (cO11_i1r1i10r1i2r5i2r12i3r4i2 h0 m_thrown2_1 a_tape m_taped m_size m_at m_end m_token m_whole m_nameSize m_fault m_place m_trouble2_2 a_letters m_failed m_hasHouse a_r a_fresh a_st a_undone a_kept m_undos m_images a_from a_begin a_motor a_change a_startFrame a_changeFrame a_lostAt a_blackAt a_slips a_leftArc a_died a_arcs m_bestSum m_nearest m_nearestTown a_there a_backAt a_sorted a_parts m_seed1 m_darkNow), (cAI g a_st 44 d_st)] rfl ?_
    refine k_if_eq 26 X dX11_pays_k0.2.1.1.2 (jp_e rfl) (fun h_17 => ?_) (fun h_17 => ?_)
    · skip
      have iv_18 : IV r_15 0 0 := iv_meet iv_16 (iv_e h_17 iq_0_0_0) (zle_o rfl) (zle_o rfl)
      refine k_iload_n X dX11_pays_k0.2.2.2.1 2 rfl ?_
      refine k_iconst (v := 0) X dX11_pays_k0.2.2.2.2 ic_0 ?_
      refine k_iconst (v := 4) X dX11_pays_k1.1.1.1.1 ic_4 ?_
      refine k_callSI (n := 3) (As := [.int p1, .int 0, .int 4]) (st := []) X [] [(cAI g a_r 311 d_r), (cO11_i1r1i10r1i2r5i2r12i3r4i2 h0 m_thrown2_1 a_tape m_taped m_size m_at m_end m_token m_whole m_nameSize m_fault m_place m_trouble2_2 a_letters m_failed m_hasHouse a_r a_fresh a_st a_undone a_kept m_undos m_images a_from a_begin a_motor a_change a_startFrame a_changeFrame a_lostAt a_blackAt a_slips a_leftArc a_died a_arcs m_bestSum m_nearest m_nearestTown a_there a_backAt a_sorted a_parts m_seed1 m_darkNow), (cAI g a_st 44 d_st)] [] [0, 1, 2] (m_in l g p1 0 4) dX11_pays_k1.1.1.1.2 mw482 mw483 mw5 mw484 yk_yX11_in_3 rfl (Nat.le_of_ble_eq_true rfl) (Nat.le_of_ble_eq_true rfl) (Nat.le_of_ble_eq_true rfl) (Nat.le_of_ble_eq_true rfl) (Nat.le_of_ble_eq_true rfl) rfl rfl (vnd_e rfl) rfl (vnd_e rfl) (dsj_e rfl) ?_
      rintro r_19 w ⟨iv_20, hk_21, hk_22, rfl⟩
      refine k_ws [(cAI g a_r 311 d_r), (cO11_i1r1i10r1i2r5i2r12i3r4i2 h0 m_thrown2_1 a_tape m_taped m_size m_at m_end m_token m_whole m_nameSize m_fault m_place m_trouble2_2 a_letters m_failed m_hasHouse a_r a_fresh a_st a_undone a_kept m_undos m_images a_from a_begin a_motor a_change a_startFrame a_changeFrame a_lostAt a_blackAt a_slips a_leftArc a_died a_arcs m_bestSum m_nearest m_nearestTown a_there a_backAt a_sorted a_parts m_seed1 m_darkNow), (cAI g a_st 44 d_st)] rfl ?_
      refine k_if_ne 41 X dX11_pays_k1.1.1.2.1 (jp_e rfl) (fun h_23 => ?_) (fun h_23 => ?_)
      · skip
        have hc_24 := hk_21.resolve_left h_23
        have j_25 : 0 ≤ p1.toInt := hc_24.1
        have iv_26 : IV p1 0 2147483647 := iv_leR hc_24.1 iq_0_0_0 (iv_any p1) (zle_e rfl)
        have j_27 : p1.toInt ≤ 4 := hc_24.2
        have iv_28 : IV p1 0 4 := iv_leL hc_24.2 iv_26 iq_4_4_4 (zle_e rfl)
        have iv_29 : IV r_19 1 1 := iv_neL h_23 iv_20 iq_0_0_0 (zle_e rfl)
        refine k_bipush (v := 100) X dX11_pays_k1.1.2.2.2 bi_100 ?_
        refine k_iload_n X dX11_pays_k1.2.1.1.1 2 rfl ?_
        refine k_callSL (n := 2) (As := [.int 100, .int p1]) (st := []) X [] [(cAI g a_r 311 d_r), (cO11_i1r1i10r1i2r5i2r12i3r4i2 h0 m_thrown2_1 a_tape m_taped m_size m_at m_end m_token m_whole m_nameSize m_fault m_place m_trouble2_2 a_letters m_failed m_hasHouse a_r a_fresh a_st a_undone a_kept m_undos m_images a_from a_begin a_motor a_change a_startFrame a_changeFrame a_lostAt a_blackAt a_slips a_leftArc a_died a_arcs m_bestSum m_nearest m_nearestTown a_there a_backAt a_sorted a_parts m_seed1 m_darkNow), (cAI g a_st 44 d_st)] [] [0, 1, 2] (m_powerH l g p1 (iv_w iv_28 (zle_e rfl) (zle_e rfl))) dX11_pays_k1.2.1.1.2 mw1256 mw1257 mw5 mw1258 yk_yX11_power_2 rfl (Nat.le_of_ble_eq_true rfl) (Nat.le_of_ble_eq_true rfl) (Nat.le_of_ble_eq_true rfl) (Nat.le_of_ble_eq_true rfl) (Nat.le_of_ble_eq_true rfl) rfl rfl (vnd_e rfl) rfl (vnd_e rfl) (dsj_e rfl) ?_
        rintro r_30 w ⟨hq_31, rfl⟩
        refine k_ws [(cAI g a_r 311 d_r), (cO11_i1r1i10r1i2r5i2r12i3r4i2 h0 m_thrown2_1 a_tape m_taped m_size m_at m_end m_token m_whole m_nameSize m_fault m_place m_trouble2_2 a_letters m_failed m_hasHouse a_r a_fresh a_st a_undone a_kept m_undos m_images a_from a_begin a_motor a_change a_startFrame a_changeFrame a_lostAt a_blackAt a_slips a_leftArc a_died a_arcs m_bestSum m_nearest m_nearestTown a_there a_backAt a_sorted a_parts m_seed1 m_darkNow), (cAI g a_st 44 d_st)] rfl ?_
        refine k_lstore_n [(3, .long r_30), (0, .ref h0), (1, .int p0), (2, .int p1)] X dX11_pays_k1.2.1.2.1 (by decide) rfl ?_
        refine k_aload_n X dX11_pays_k1.2.1.2.2 1 rfl ?_
        refine k_get (ci := 11) X inlX11 rfl 15 (nlt_e rfl) dX11_pays_k1.2.2.1.1 mw170 1 rfl rfl ?_
        refine k_iconst (v := 5) X dX11_pays_k1.2.2.1.2 ic_5 ?_
        refine k_iald X dX11_pays_k1.2.2.2.1 0 rfl (by unfold vp_in; decide) ?_
        refine k_nm (fun z_32 ez_32 => ?_)
        refine k_i2l X dX11_pays_k1.2.2.2.2 ?_
        refine k_nmL (fun y_33 ey_33 => ?_)
        refine k_lload_n X dX11_pays_k2.1.1.1.1 0 rfl ?_
        refine k_bipush (v := 100) X dX11_pays_k2.1.1.1.2 bi_100 ?_
        refine k_aload_n X dX11_pays_k2.1.1.2.1 1 rfl ?_
        refine k_get (ci := 11) X inlX11 rfl 15 (nlt_e rfl) dX11_pays_k2.1.1.2.2 mw170 1 rfl rfl ?_
        refine k_bipush (v := 96) X dX11_pays_k2.1.2.1.1 bi_96 ?_
        refine k_iconst (v := 3) X dX11_pays_k2.1.2.1.2 ic_3 ?_
        refine k_iload_n X dX11_pays_k2.1.2.2.1 2 rfl ?_
        refine k_imul X dX11_pays_k2.1.2.2.2 ?_
        refine k_nm (fun z_34 ez_34 => ?_)
        have i_35 : z_34.toInt = 3 * p0.toInt := in_mul ez_34 (by decide) (zle_e rfl) iv_13 (zle_e rfl) (zle_e rfl)
        have iv_36 : IV z_34 0 15 := iz4 i_35 iv_13 (zle_e rfl) (zle_e rfl) (zle_e rfl)
        refine k_iadd X dX11_pays_k2.2.1.1.1 ?_
        refine k_nm (fun z_37 ez_37 => ?_)
        have i_38 : z_37.toInt = 96 + z_34.toInt := in_add ez_37 iq_96_96_96 iv_36 (zle_e rfl) (zle_e rfl)
        have iv_39 : IV z_37 96 111 := iz2 i_38 iv_36 (zle_e rfl) (zle_e rfl)
        refine k_iconst (v := 2) X dX11_pays_k2.2.1.1.2 ic_2 ?_
        refine k_iadd X dX11_pays_k2.2.1.2.1 ?_
        refine k_nm (fun z_40 ez_40 => ?_)
        have i_41 : z_40.toInt = z_37.toInt + 2 := in_add ez_40 iv_39 iq_2_2_2 (zle_e rfl) (zle_e rfl)
        have iv_42 : IV z_40 98 113 := iz1 i_41 iv_39 (zle_e rfl) (zle_e rfl)
        refine k_iald X dX11_pays_k2.2.1.2.2 0 rfl (iv_in iv_42 (zle_e rfl) (zle_l rfl)) ?_
        refine k_nm (fun z_43 ez_43 => ?_)
        refine k_isub X dX11_pays_k2.2.2.1.1 ?_
        refine k_nm (fun z_44 ez_44 => ?_)
        refine k_iload_n X dX11_pays_k2.2.2.1.2 3 rfl ?_
        refine k_callSL (n := 2) (As := [.int z_44, .int p1]) (st := [.long r_30, .long y_33]) X [] [(cAI g a_r 311 d_r), (cO11_i1r1i10r1i2r5i2r12i3r4i2 h0 m_thrown2_1 a_tape m_taped m_size m_at m_end m_token m_whole m_nameSize m_fault m_place m_trouble2_2 a_letters m_failed m_hasHouse a_r a_fresh a_st a_undone a_kept m_undos m_images a_from a_begin a_motor a_change a_startFrame a_changeFrame a_lostAt a_blackAt a_slips a_leftArc a_died a_arcs m_bestSum m_nearest m_nearestTown a_there a_backAt a_sorted a_parts m_seed1 m_darkNow), (cAI g a_st 44 d_st)] [] [0, 1, 2] (m_power l g z_44 p1) dX11_pays_k2.2.2.2.1 mw1256 mw1257 mw5 mw1258 yk_yX11_power_2 rfl (Nat.le_of_ble_eq_true rfl) (Nat.le_of_ble_eq_true rfl) (Nat.le_of_ble_eq_true rfl) (Nat.le_of_ble_eq_true rfl) (Nat.le_of_ble_eq_true rfl) rfl rfl (vnd_e rfl) rfl (vnd_e rfl) (dsj_e rfl) ?_
        rintro r_46 w rfl
        refine k_ws [(cAI g a_r 311 d_r), (cO11_i1r1i10r1i2r5i2r12i3r4i2 h0 m_thrown2_1 a_tape m_taped m_size m_at m_end m_token m_whole m_nameSize m_fault m_place m_trouble2_2 a_letters m_failed m_hasHouse a_r a_fresh a_st a_undone a_kept m_undos m_images a_from a_begin a_motor a_change a_startFrame a_changeFrame a_lostAt a_blackAt a_slips a_leftArc a_died a_arcs m_bestSum m_nearest m_nearestTown a_there a_backAt a_sorted a_parts m_seed1 m_darkNow), (cAI g a_st 44 d_st)] rfl ?_
        refine k_lsub X dX11_pays_k2.2.2.2.2 ?_
        refine k_nmL (fun y_47 ey_47 => ?_)
        refine k_lmul X dX11_pays_k3.1.1.1 ?_
        refine k_nmL (fun y_48 ey_48 => ?_)
        refine k_ldc2 (v := 2) X dX11_pays_k3.1.1.2 mw1269 ?_
        refine k_lload_n X dX11_pays_k3.1.2.1 0 rfl ?_
        refine k_lmul X dX11_pays_k3.1.2.2.1 ?_
        refine k_nmL (fun y_49 ey_49 => ?_)
        refine k_lcmp X dX11_pays_k3.1.2.2.2 ?_
        refine k_nm (fun z_50 ez_50 => ?_)
        refine k_if_le 91 X dX11_pays_k3.2.1.1 (jp_e rfl) (fun h_51 => ?_) (fun h_51 => ?_)
        · skip
          have j_52 : z_50.toInt ≤ 0 := iv_le h_51
          have iv_53 : IV z_50 (-2147483648) 0 := iv_leL (iv_le h_51) (iv_any z_50) iq_0_0_0 (zle_e rfl)
          refine k_iconst (v := 0) X dX11_pays_k3.2.2.2.1 ic_0 ?_
          exact k_iret X hr dX11_pays_k3.2.2.2.2 (Nat.le_of_ble_eq_true rfl) (Nat.le_of_ble_eq_true rfl) [1, 0, 2] (vnd_e rfl) rfl rfl ⟨m_thrown2_1, m_trouble2_2, rfl⟩
        · skip
          have j_54 : 0 < z_50.toInt := iv_nle h_51
          have iv_55 : IV z_50 1 2147483647 := iv_ltR (iv_nle h_51) iq_0_0_0 (iv_any z_50) (zle_e rfl)
          refine k_iconst (v := 1) X dX11_pays_k3.2.1.2 ic_1 ?_
          refine k_goto 92 X dX11_pays_k3.2.2.1 (jp_e rfl) ?_
          exact k_iret X hr dX11_pays_k3.2.2.2.2 (Nat.le_of_ble_eq_true rfl) (Nat.le_of_ble_eq_true rfl) [1, 0, 2] (vnd_e rfl) rfl rfl ⟨m_thrown2_1, m_trouble2_2, rfl⟩
      · skip
        have iv_56 : IV r_19 0 0 := iv_meet iv_20 (iv_e h_23 iq_0_0_0) (zle_o rfl) (zle_o rfl)
        have hc_57 := hk_22 (iv_eq iv_56 iq_0_0_0)
        have j_58 : p1.toInt < 0 ∨ 4 < p1.toInt := hc_57
        refine k_aload_n X dX11_pays_k1.1.1.2.2 0 rfl ?_
        refine k_iconst (v := 2) X dX11_pays_k1.1.2.1.1 ic_2 ?_
        refine k_callVI (n := 1) (As := [.int 2]) (st := []) X [(cO11_i1r1i10r1i2r5i2r12i3r4i2 h0 m_thrown2_1 a_tape m_taped m_size m_at m_end m_token m_whole m_nameSize m_fault m_place m_trouble2_2 a_letters m_failed m_hasHouse a_r a_fresh a_st a_undone a_kept m_undos m_images a_from a_begin a_motor a_change a_startFrame a_changeFrame a_lostAt a_blackAt a_slips a_leftArc a_died a_arcs m_bestSum m_nearest m_nearestTown a_there a_backAt a_sorted a_parts m_seed1 m_darkNow)] [(cAI g a_r 311 d_r), (cAI g a_st 44 d_st)] [1] [0, 2] (m_no l g h0 2 m_thrown2_1 a_tape m_taped m_size m_at m_end m_token m_whole m_nameSize m_fault m_place m_trouble2_2 a_letters m_failed m_hasHouse a_r a_fresh a_st a_undone a_kept m_undos m_images a_from a_begin a_motor a_change a_startFrame a_changeFrame a_lostAt a_blackAt a_slips a_leftArc a_died a_arcs m_bestSum m_nearest m_nearestTown a_there a_backAt a_sorted a_parts m_seed1 m_darkNow) dX11_pays_k1.1.2.1.2 mw485 mw486 mw487 mw5 mw488 rfl 11 rfl rfl 0 _ rfl yk_yX11_no_1 rfl (Nat.le_of_ble_eq_true rfl) (Nat.le_of_ble_eq_true rfl) (Nat.le_of_ble_eq_true rfl) (Nat.le_of_ble_eq_true rfl) (Nat.le_of_ble_eq_true rfl) rfl rfl (vnd_e rfl) rfl (vnd_e rfl) (dsj_e rfl) ?_
        rintro r_60 w ⟨m_trouble2_59, iv_61, rfl⟩
        refine k_ws [(cAI g a_r 311 d_r), (cAI g a_st 44 d_st), (cO11_i1r1i10r1i2r5i2r12i3r4i2 h0 m_thrown2_1 a_tape m_taped m_size m_at m_end m_token m_whole m_nameSize m_fault m_place m_trouble2_59 a_letters m_failed m_hasHouse a_r a_fresh a_st a_undone a_kept m_undos m_images a_from a_begin a_motor a_change a_startFrame a_changeFrame a_lostAt a_blackAt a_slips a_leftArc a_died a_arcs m_bestSum m_nearest m_nearestTown a_there a_backAt a_sorted a_parts m_seed1 m_darkNow)] rfl ?_
        exact k_iret X hr dX11_pays_k1.1.2.2.1 (Nat.le_of_ble_eq_true rfl) (Nat.le_of_ble_eq_true rfl) [2, 0, 1] (vnd_e rfl) rfl rfl ⟨m_thrown2_1, m_trouble2_59, rfl⟩
    · skip
      have iv_62 : IV r_15 1 1 := iv_neL h_17 iv_16 iq_0_0_0 (zle_e rfl)
      refine k_aload_n X dX11_pays_k0.2.1.2.1 0 rfl ?_
      refine k_iconst (v := 1) X dX11_pays_k0.2.1.2.2 ic_1 ?_
      refine k_callVI (n := 1) (As := [.int 1]) (st := []) X [(cO11_i1r1i10r1i2r5i2r12i3r4i2 h0 m_thrown2_1 a_tape m_taped m_size m_at m_end m_token m_whole m_nameSize m_fault m_place m_trouble2_2 a_letters m_failed m_hasHouse a_r a_fresh a_st a_undone a_kept m_undos m_images a_from a_begin a_motor a_change a_startFrame a_changeFrame a_lostAt a_blackAt a_slips a_leftArc a_died a_arcs m_bestSum m_nearest m_nearestTown a_there a_backAt a_sorted a_parts m_seed1 m_darkNow)] [(cAI g a_r 311 d_r), (cAI g a_st 44 d_st)] [1] [0, 2] (m_no l g h0 1 m_thrown2_1 a_tape m_taped m_size m_at m_end m_token m_whole m_nameSize m_fault m_place m_trouble2_2 a_letters m_failed m_hasHouse a_r a_fresh a_st a_undone a_kept m_undos m_images a_from a_begin a_motor a_change a_startFrame a_changeFrame a_lostAt a_blackAt a_slips a_leftArc a_died a_arcs m_bestSum m_nearest m_nearestTown a_there a_backAt a_sorted a_parts m_seed1 m_darkNow) dX11_pays_k0.2.2.1.1 mw485 mw486 mw487 mw5 mw488 rfl 11 rfl rfl 0 _ rfl yk_yX11_no_1 rfl (Nat.le_of_ble_eq_true rfl) (Nat.le_of_ble_eq_true rfl) (Nat.le_of_ble_eq_true rfl) (Nat.le_of_ble_eq_true rfl) (Nat.le_of_ble_eq_true rfl) rfl rfl (vnd_e rfl) rfl (vnd_e rfl) (dsj_e rfl) ?_
      rintro r_64 w ⟨m_trouble2_63, iv_65, rfl⟩
      refine k_ws [(cAI g a_r 311 d_r), (cAI g a_st 44 d_st), (cO11_i1r1i10r1i2r5i2r12i3r4i2 h0 m_thrown2_1 a_tape m_taped m_size m_at m_end m_token m_whole m_nameSize m_fault m_place m_trouble2_63 a_letters m_failed m_hasHouse a_r a_fresh a_st a_undone a_kept m_undos m_images a_from a_begin a_motor a_change a_startFrame a_changeFrame a_lostAt a_blackAt a_slips a_leftArc a_died a_arcs m_bestSum m_nearest m_nearestTown a_there a_backAt a_sorted a_parts m_seed1 m_darkNow)] rfl ?_
      exact k_iret X hr dX11_pays_k0.2.2.1.2 (Nat.le_of_ble_eq_true rfl) (Nat.le_of_ble_eq_true rfl) [2, 0, 1] (vnd_e rfl) rfl rfl ⟨m_thrown2_1, m_trouble2_63, rfl⟩

theorem dX11_wears_k0 : ((((dD cX11_wears 0 (.aload_n 0) 1 ∧ dD cX11_wears 1 (.invokevirtual 200) 3) ∧ (dD cX11_wears 4 (.aload_n 0) 1 ∧ dD cX11_wears 5 (.iload_n 1) 1)) ∧ ((dD cX11_wears 6 (.invokevirtual 327) 3 ∧ dD cX11_wears 9 (.ifCond .ne 10) 3) ∧ (dD cX11_wears 12 (.aload_n 0) 1 ∧ dD cX11_wears 13 (.iconst 1) 1))) ∧ (((dD cX11_wears 14 (.invokevirtual 203) 3 ∧ dD cX11_wears 17 .i2l 1) ∧ (dD cX11_wears 18 .lreturn 1 ∧ dD cX11_wears 19 (.iload_n 2) 1)) ∧ ((dD cX11_wears 20 (.iconst 0) 1 ∧ dD cX11_wears 21 (.bipush 99) 2) ∧ (dD cX11_wears 23 (.invokestatic 182) 3 ∧ dD cX11_wears 26 (.ifCond .ne 10) 3)))) := dkA16 (by decide +kernel)
theorem dX11_wears_k1 : ((((dD cX11_wears 29 (.aload_n 0) 1 ∧ dD cX11_wears 30 (.iconst 2) 1) ∧ (dD cX11_wears 31 (.invokevirtual 203) 3 ∧ dD cX11_wears 34 .i2l 1)) ∧ ((dD cX11_wears 35 .lreturn 1 ∧ dD cX11_wears 36 (.lconst 0) 1) ∧ (dD cX11_wears 37 (.lstore 4) 2 ∧ dD cX11_wears 39 (.iconst 0) 1))) ∧ (((dD cX11_wears 40 (.istore 6) 2 ∧ dD cX11_wears 42 (.iload 6) 2) ∧ (dD cX11_wears 44 (.aload_n 0) 1 ∧ dD cX11_wears 45 (.getfield 20) 3)) ∧ ((dD cX11_wears 48 (.bipush 10) 2 ∧ dD cX11_wears 50 .iaload 1) ∧ (dD cX11_wears 51 (.if_icmp .ge 58) 3 ∧ dD cX11_wears 54 (.lload 4) 2)))) := dkA16 (by decide +kernel)
theorem dX11_wears_k2 : ((((dD cX11_wears 56 (.aload_n 0) 1 ∧ dD cX11_wears 57 (.iload 6) 2) ∧ (dD cX11_wears 59 (.invokevirtual 339) 3 ∧ dD cX11_wears 62 (.ifCond .ne 37) 3)) ∧ ((dD cX11_wears 65 (.aload_n 0) 1 ∧ dD cX11_wears 66 (.getfield 20) 3) ∧ (dD cX11_wears 69 (.bipush 96) 2 ∧ dD cX11_wears 71 (.iconst 3) 1))) ∧ (((dD cX11_wears 72 (.iload 6) 2 ∧ dD cX11_wears 74 .imul 1) ∧ (dD cX11_wears 75 .iadd 1 ∧ dD cX11_wears 76 .iaload 1)) ∧ ((dD cX11_wears 77 (.iload_n 1) 1 ∧ dD cX11_wears 78 (.if_icmp .ne 21) 3) ∧ (dD cX11_wears 81 (.aload_n 0) 1 ∧ dD cX11_wears 82 (.getfield 20) 3)))) := dkA16 (by decide +kernel)
theorem dX11_wears_k3 : ((((dD cX11_wears 85 (.bipush 96) 2 ∧ dD cX11_wears 87 (.iconst 3) 1) ∧ (dD cX11_wears 88 (.iload 6) 2 ∧ dD cX11_wears 90 .imul 1)) ∧ ((dD cX11_wears 91 .iadd 1 ∧ dD cX11_wears 92 (.iconst 2) 1) ∧ (dD cX11_wears 93 .iadd 1 ∧ dD cX11_wears 94 .iaload 1))) ∧ (((dD cX11_wears 95 .i2l 1 ∧ dD cX11_wears 96 (.goto 4) 3) ∧ (dD cX11_wears 99 (.lconst 0) 1 ∧ dD cX11_wears 100 .ladd 1)) ∧ ((dD cX11_wears 101 (.lstore 4) 2 ∧ dD cX11_wears 103 (.iinc 6 1) 3) ∧ (dD cX11_wears 106 (.goto (-64)) 3 ∧ dD cX11_wears 109 (.ldc2_w 418) 3)))) := dkA16 (by decide +kernel)
theorem dX11_wears_k4 : (((dD cX11_wears 112 (.iload_n 2) 1 ∧ dD cX11_wears 113 .i2l 1) ∧ (dD cX11_wears 114 .lmul 1 ∧ dD cX11_wears 115 (.lload 4) 2)) ∧ ((dD cX11_wears 117 .lmul 1 ∧ dD cX11_wears 118 (.ldc2_w 420) 3) ∧ (dD cX11_wears 121 (.iload_n 3) 1 ∧ (dD cX11_wears 122 (.invokestatic 408) 3 ∧ dD cX11_wears 125 .lreturn 1)))) := dkA9 (by decide +kernel)
set_option maxHeartbeats 4000000 in
set_option maxRecDepth 100000 in
theorem m_wears (l : Launch) (g : Gx) (h0 : Nat) (p0 : Int32) (p1 : Int32) (p2 : Int32) (m_thrown : Int32) (a_tape : Nat) (m_taped : Int32) (m_size : Int32) (m_at : Int32) (m_end : Int32) (m_token : Int32) (m_whole : Int32) (m_nameSize : Int32) (m_fault : Int32) (m_place : Int32) (m_trouble : Int32) (a_letters : Nat) (m_failed : Int32) (m_hasHouse : Int32) (a_r : Nat) (a_fresh : Nat) (a_st : Nat) (a_undone : Nat) (a_kept : Nat) (m_undos : Int32) (m_images : Int32) (a_from : Nat) (a_begin : Nat) (a_motor : Nat) (a_change : Nat) (a_startFrame : Nat) (a_changeFrame : Nat) (a_lostAt : Nat) (a_blackAt : Nat) (a_slips : Nat) (a_leftArc : Nat) (a_died : Nat) (a_arcs : Nat) (m_bestSum : Int32) (m_nearest : Int32) (m_nearestTown : Int32) (a_there : Nat) (a_backAt : Nat) (a_sorted : Nat) (a_parts : Nat) (m_seed1 : Int32) (m_darkNow : Int32) (d_r : Nat → Int32) (d_st : Nat → Int32) (hv_m_hasHouse : IV m_hasHouse 0 1) (hp_d_r : RInv d_r) : cL l g yX11_wears cX11_wears 7 (some .long) 2 43 0 0 [.ref h0, .int p0, .int p1, .int p2] [(cO11_i1r1i10r1i2r5i2r12i3r4i2 h0 m_thrown a_tape m_taped m_size m_at m_end m_token m_whole m_nameSize m_fault m_place m_trouble a_letters m_failed m_hasHouse a_r a_fresh a_st a_undone a_kept m_undos m_images a_from a_begin a_motor a_change a_startFrame a_changeFrame a_lostAt a_blackAt a_slips a_leftArc a_died a_arcs m_bestSum m_nearest m_nearestTown a_there a_backAt a_sorted a_parts m_seed1 m_darkNow), (cAI g a_r 311 d_r), (cAI g a_st 44 d_st)] (fun r w => ∃ (m_thrown2 : Int32) (m_trouble2 : Int32), w = [(cO11_i1r1i10r1i2r5i2r12i3r4i2 h0 m_thrown2 a_tape m_taped m_size m_at m_end m_token m_whole m_nameSize m_fault m_place m_trouble2 a_letters m_failed m_hasHouse a_r a_fresh a_st a_undone a_kept m_undos m_images a_from a_begin a_motor a_change a_startFrame a_changeFrame a_lostAt a_blackAt a_slips a_leftArc a_died a_arcs m_bestSum m_nearest m_nearestTown a_there a_backAt a_sorted a_parts m_seed1 m_darkNow), (cAI g a_r 311 d_r), (cAI g a_st 44 d_st)]) := by
  refine cL.of (by decide) (Nat.le_of_ble_eq_true rfl) ?_
  intro p e s m args below meth c A X hr hi
  refine k_lveq [(0, .ref h0), (1, .int p0), (2, .int p1), (3, .int p2)] rfl ?_
  refine k_aload_n X dX11_wears_k0.1.1.1.1 0 rfl ?_
  refine k_callVV (n := 0) (As := []) (st := []) X [(cO11_i1r1i10r1i2r5i2r12i3r4i2 h0 m_thrown a_tape m_taped m_size m_at m_end m_token m_whole m_nameSize m_fault m_place m_trouble a_letters m_failed m_hasHouse a_r a_fresh a_st a_undone a_kept m_undos m_images a_from a_begin a_motor a_change a_startFrame a_changeFrame a_lostAt a_blackAt a_slips a_leftArc a_died a_arcs m_bestSum m_nearest m_nearestTown a_there a_backAt a_sorted a_parts m_seed1 m_darkNow)] [(cAI g a_r 311 d_r), (cAI g a_st 44 d_st)] [0] [1, 2] (m_good l g h0 m_thrown a_tape m_taped m_size m_at m_end m_token m_whole m_nameSize m_fault m_place m_trouble a_letters m_failed m_hasHouse a_r a_fresh a_st a_undone a_kept m_undos m_images a_from a_begin a_motor a_change a_startFrame a_changeFrame a_lostAt a_blackAt a_slips a_leftArc a_died a_arcs m_bestSum m_nearest m_nearestTown a_there a_backAt a_sorted a_parts m_seed1 m_darkNow) dX11_wears_k0.1.1.1.2 mw477 mw478 mw479 mw5 mw480 rfl 11 rfl rfl 0 _ rfl yk_yX11_good_0 rfl (Nat.le_of_ble_eq_true rfl) (Nat.le_of_ble_eq_true rfl) (Nat.le_of_ble_eq_true rfl) (Nat.le_of_ble_eq_true rfl) (Nat.le_of_ble_eq_true rfl) rfl rfl (vnd_e rfl) rfl (vnd_e rfl) (dsj_e rfl) ?_
  rintro w ⟨m_thrown2_1, m_trouble2_2, rfl⟩
  refine k_ws [(cAI g a_r 311 d_r), (cAI g a_st 44 d_st), (cO11_i1r1i10r1i2r5i2r12i3r4i2 h0 m_thrown2_1 a_tape m_taped m_size m_at m_end m_token m_whole m_nameSize m_fault m_place m_trouble2_2 a_letters m_failed m_hasHouse a_r a_fresh a_st a_undone a_kept m_undos m_images a_from a_begin a_motor a_change a_startFrame a_changeFrame a_lostAt a_blackAt a_slips a_leftArc a_died a_arcs m_bestSum m_nearest m_nearestTown a_there a_backAt a_sorted a_parts m_seed1 m_darkNow)] rfl ?_
  refine k_aload_n X dX11_wears_k0.1.1.2.1 0 rfl ?_
  refine k_iload_n X dX11_wears_k0.1.1.2.2 1 rfl ?_
  refine k_callVI (n := 1) (As := [.int p0]) (st := []) X [(cO11_i1r1i10r1i2r5i2r12i3r4i2 h0 m_thrown2_1 a_tape m_taped m_size m_at m_end m_token m_whole m_nameSize m_fault m_place m_trouble2_2 a_letters m_failed m_hasHouse a_r a_fresh a_st a_undone a_kept m_undos m_images a_from a_begin a_motor a_change a_startFrame a_changeFrame a_lostAt a_blackAt a_slips a_leftArc a_died a_arcs m_bestSum m_nearest m_nearestTown a_there a_backAt a_sorted a_parts m_seed1 m_darkNow), (cAI g a_r 311 d_r)] [(cAI g a_st 44 d_st)] [2, 0] [1] (m_isReel l g h0 p0 m_thrown2_1 a_tape m_taped m_size m_at m_end m_token m_whole m_nameSize m_fault m_place m_trouble2_2 a_letters m_failed m_hasHouse a_r a_fresh a_st a_undone a_kept m_undos m_images a_from a_begin a_motor a_change a_startFrame a_changeFrame a_lostAt a_blackAt a_slips a_leftArc a_died a_arcs m_bestSum m_nearest m_nearestTown a_there a_backAt a_sorted a_parts m_seed1 m_darkNow d_r (iv_w hv_m_hasHouse (zle_e rfl) (zle_e rfl)) hp_d_r) dX11_wears_k0.1.2.1.1 mw670 mw671 mw672 mw5 mw673 rfl 11 rfl rfl 0 _ rfl yk_yX11_isReel_1 rfl (Nat.le_of_ble_eq_true rfl) (Nat.le_of_ble_eq_true rfl) (Nat.le_of_ble_eq_true rfl) (Nat.le_of_ble_eq_true rfl) (Nat.le_of_ble_eq_true rfl) rfl rfl (vnd_e rfl) rfl (vnd_e rfl) (dsj_e rfl) ?_
  rintro r_4 w ⟨iv_5, hk_6, rfl⟩
  refine k_ws [(cAI g a_st 44 d_st), (cO11_i1r1i10r1i2r5i2r12i3r4i2 h0 m_thrown2_1 a_tape m_taped m_size m_at m_end m_token m_whole m_nameSize m_fault m_place m_trouble2_2 a_letters m_failed m_hasHouse a_r a_fresh a_st a_undone a_kept m_undos m_images a_from a_begin a_motor a_change a_startFrame a_changeFrame a_lostAt a_blackAt a_slips a_leftArc a_died a_arcs m_bestSum m_nearest m_nearestTown a_there a_backAt a_sorted a_parts m_seed1 m_darkNow), (cAI g a_r 311 d_r)] rfl ?_
  refine k_if_ne 19 X dX11_wears_k0.1.2.1.2 (jp_e rfl) (fun h_7 => ?_) (fun h_7 => ?_)
  · skip
    have hc_8 := hk_6.resolve_left h_7
    have iv_9 : IV p0 0 7 := iv_meet (iv_any p0) hc_8 (zle_o rfl) (zle_o rfl)
    have iv_10 : IV r_4 1 1 := iv_neL h_7 iv_5 iq_0_0_0 (zle_e rfl)
    refine k_iload_n X dX11_wears_k0.2.1.2.2 2 rfl ?_
    refine k_iconst (v := 0) X dX11_wears_k0.2.2.1.1 ic_0 ?_
    refine k_bipush (v := 99) X dX11_wears_k0.2.2.1.2 bi_99 ?_
    refine k_callSI (n := 3) (As := [.int p1, .int 0, .int 99]) (st := []) X [] [(cAI g a_st 44 d_st), (cO11_i1r1i10r1i2r5i2r12i3r4i2 h0 m_thrown2_1 a_tape m_taped m_size m_at m_end m_token m_whole m_nameSize m_fault m_place m_trouble2_2 a_letters m_failed m_hasHouse a_r a_fresh a_st a_undone a_kept m_undos m_images a_from a_begin a_motor a_change a_startFrame a_changeFrame a_lostAt a_blackAt a_slips a_leftArc a_died a_arcs m_bestSum m_nearest m_nearestTown a_there a_backAt a_sorted a_parts m_seed1 m_darkNow), (cAI g a_r 311 d_r)] [] [0, 1, 2] (m_in l g p1 0 99) dX11_wears_k0.2.2.2.1 mw482 mw483 mw5 mw484 yk_yX11_in_3 rfl (Nat.le_of_ble_eq_true rfl) (Nat.le_of_ble_eq_true rfl) (Nat.le_of_ble_eq_true rfl) (Nat.le_of_ble_eq_true rfl) (Nat.le_of_ble_eq_true rfl) rfl rfl (vnd_e rfl) rfl (vnd_e rfl) (dsj_e rfl) ?_
    rintro r_11 w ⟨iv_12, hk_13, hk_14, rfl⟩
    refine k_ws [(cAI g a_st 44 d_st), (cO11_i1r1i10r1i2r5i2r12i3r4i2 h0 m_thrown2_1 a_tape m_taped m_size m_at m_end m_token m_whole m_nameSize m_fault m_place m_trouble2_2 a_letters m_failed m_hasHouse a_r a_fresh a_st a_undone a_kept m_undos m_images a_from a_begin a_motor a_change a_startFrame a_changeFrame a_lostAt a_blackAt a_slips a_leftArc a_died a_arcs m_bestSum m_nearest m_nearestTown a_there a_backAt a_sorted a_parts m_seed1 m_darkNow), (cAI g a_r 311 d_r)] rfl ?_
    refine k_if_ne 36 X dX11_wears_k0.2.2.2.2 (jp_e rfl) (fun h_15 => ?_) (fun h_15 => ?_)
    · skip
      have hc_16 := hk_13.resolve_left h_15
      have j_17 : 0 ≤ p1.toInt := hc_16.1
      have iv_18 : IV p1 0 2147483647 := iv_leR hc_16.1 iq_0_0_0 (iv_any p1) (zle_e rfl)
      have j_19 : p1.toInt ≤ 99 := hc_16.2
      have iv_20 : IV p1 0 99 := iv_leL hc_16.2 iv_18 iq_99_99_99 (zle_e rfl)
      have iv_21 : IV r_11 1 1 := iv_neL h_15 iv_12 iq_0_0_0 (zle_e rfl)
      refine k_lconst (v := 0) X dX11_wears_k1.1.2.1.2 (by decide) ?_
      refine k_lstore [(4, .long 0), (0, .ref h0), (1, .int p0), (2, .int p1), (3, .int p2)] X dX11_wears_k1.1.2.2.1 (by decide) rfl ?_
      refine k_iconst (v := 0) X dX11_wears_k1.1.2.2.2 ic_0 ?_
      refine k_istore [(6, .int 0), (4, .long 0), (0, .ref h0), (1, .int p0), (2, .int p1), (3, .int p2)] X dX11_wears_k1.2.1.1.1 (nlt_e rfl) rfl ?_
      refine (fun hL : ∀ (nn_25 : Nat) (u_22 : Int64) (u_23 : Int32), (2147483647 - u_23.toInt).toNat = nn_25 → (IV u_23 0 8) → Wk p l e _ s m args below meth c _ A g _ _ _ [(cAI g a_st 44 d_st), (cO11_i1r1i10r1i2r5i2r12i3r4i2 h0 m_thrown2_1 a_tape m_taped m_size m_at m_end m_token m_whole m_nameSize m_fault m_place m_trouble2_2 a_letters m_failed m_hasHouse a_r a_fresh a_st a_undone a_kept m_undos m_images a_from a_begin a_motor a_change a_startFrame a_changeFrame a_lostAt a_blackAt a_slips a_leftArc a_died a_arcs m_bestSum m_nearest m_nearestTown a_there a_backAt a_sorted a_parts m_seed1 m_darkNow), (cAI g a_r 311 d_r)] [(6, .int u_23), (4, .long u_22), (0, .ref h0), (1, .int p0), (2, .int p1), (3, .int p2)] 42 [] => hL _ 0 0 rfl (iv_w iq_0_0_0 (zle_e rfl) (zle_e rfl))) ?_
      refine fun nn_25 => Nat.strongRecOn nn_25 (fun nn_25 ih_27 => ?_)
      intro u_22 u_23 hm_26 hv_24
      refine k_iload X dX11_wears_k1.2.1.1.2 0 rfl ?_
      refine k_aload_n X dX11_wears_k1.2.1.2.1 2 rfl ?_
      refine k_get (ci := 11) X inlX11 rfl 15 (nlt_e rfl) dX11_wears_k1.2.1.2.2 mw170 1 rfl rfl ?_
      refine k_bipush (v := 10) X dX11_wears_k1.2.2.1.1 bi_10 ?_
      refine k_iald X dX11_wears_k1.2.2.1.2 2 rfl (by unfold vp_in; decide) ?_
      refine k_nm (fun z_28 ez_28 => ?_)
      have i_29 : z_28.toInt = (d_r 10).toInt := by rw [ez_28]; rfl
      have iv_30 : IV z_28 0 6 := rb_10 ez_28 hp_d_r
      refine k_ic_ge 109 X dX11_wears_k1.2.2.2.1 (jp_e rfl) (fun h_31 => ?_) (fun h_31 => ?_)
      · skip
        have j_32 : z_28.toInt ≤ u_23.toInt := iv_le h_31
        refine k_ldc2 (v := 2) X dX11_wears_k3.2.2.2.2 mw1269 ?_
        refine k_iload_n X dX11_wears_k4.1.1.1 4 rfl ?_
        refine k_i2l X dX11_wears_k4.1.1.2 ?_
        refine k_nmL (fun y_33 ey_33 => ?_)
        refine k_lmul X dX11_wears_k4.1.2.1 ?_
        refine k_nmL (fun y_34 ey_34 => ?_)
        refine k_lload X dX11_wears_k4.1.2.2 1 rfl ?_
        refine k_lmul X dX11_wears_k4.2.1.1 ?_
        refine k_nmL (fun y_35 ey_35 => ?_)
        refine k_ldc2 (v := 100) X dX11_wears_k4.2.1.2 mw1279 ?_
        refine k_iload_n X dX11_wears_k4.2.2.1 5 rfl ?_
        refine k_callSL (n := 3) (As := [.long y_35, .long 100, .int p2]) (st := []) X [] [(cAI g a_st 44 d_st), (cO11_i1r1i10r1i2r5i2r12i3r4i2 h0 m_thrown2_1 a_tape m_taped m_size m_at m_end m_token m_whole m_nameSize m_fault m_place m_trouble2_2 a_letters m_failed m_hasHouse a_r a_fresh a_st a_undone a_kept m_undos m_images a_from a_begin a_motor a_change a_startFrame a_changeFrame a_lostAt a_blackAt a_slips a_leftArc a_died a_arcs m_bestSum m_nearest m_nearestTown a_there a_backAt a_sorted a_parts m_seed1 m_darkNow), (cAI g a_r 311 d_r)] [] [0, 1, 2] (m_lowest l g y_35 100 p2 (by first | exact Or.inr (by decide) | exact Or.inr (by assumption) | exact Or.inl (by assumption))) dX11_wears_k4.2.2.2.1 mw1167 mw1168 mw5 mw1169 yk_yX11_lowest_3 rfl (Nat.le_of_ble_eq_true rfl) (Nat.le_of_ble_eq_true rfl) (Nat.le_of_ble_eq_true rfl) (Nat.le_of_ble_eq_true rfl) (Nat.le_of_ble_eq_true rfl) rfl rfl (vnd_e rfl) rfl (vnd_e rfl) (dsj_e rfl) ?_
        rintro r_36 w rfl
        refine k_ws [(cAI g a_st 44 d_st), (cO11_i1r1i10r1i2r5i2r12i3r4i2 h0 m_thrown2_1 a_tape m_taped m_size m_at m_end m_token m_whole m_nameSize m_fault m_place m_trouble2_2 a_letters m_failed m_hasHouse a_r a_fresh a_st a_undone a_kept m_undos m_images a_from a_begin a_motor a_change a_startFrame a_changeFrame a_lostAt a_blackAt a_slips a_leftArc a_died a_arcs m_bestSum m_nearest m_nearestTown a_there a_backAt a_sorted a_parts m_seed1 m_darkNow), (cAI g a_r 311 d_r)] rfl ?_
        exact k_lret X hr dX11_wears_k4.2.2.2.2 (Nat.le_of_ble_eq_true rfl) (Nat.le_of_ble_eq_true rfl) [1, 2, 0] (vnd_e rfl) rfl rfl ⟨m_thrown2_1, m_trouble2_2, rfl⟩
      · skip
        have j_37 : u_23.toInt < z_28.toInt := iv_nle h_31
        have iv_38 : IV u_23 0 5 := iv_ltL (iv_nle h_31) hv_24 iv_30 (zle_e rfl)
        have iv_39 : IV z_28 1 6 := iv_ltR (iv_nle h_31) hv_24 iv_30 (zle_e rfl)
        refine k_lload X dX11_wears_k1.2.2.2.2 1 rfl ?_
        refine k_aload_n X dX11_wears_k2.1.1.1.1 2 rfl ?_
        refine k_iload X dX11_wears_k2.1.1.1.2 0 rfl ?_
        refine k_callVI (n := 1) (As := [.int u_23]) (st := [.long u_22]) X [(cO11_i1r1i10r1i2r5i2r12i3r4i2 h0 m_thrown2_1 a_tape m_taped m_size m_at m_end m_token m_whole m_nameSize m_fault m_place m_trouble2_2 a_letters m_failed m_hasHouse a_r a_fresh a_st a_undone a_kept m_undos m_images a_from a_begin a_motor a_change a_startFrame a_changeFrame a_lostAt a_blackAt a_slips a_leftArc a_died a_arcs m_bestSum m_nearest m_nearestTown a_there a_backAt a_sorted a_parts m_seed1 m_darkNow), (cAI g a_st 44 d_st)] [(cAI g a_r 311 d_r)] [1, 0] [2] (m_isMended l g h0 u_23 m_thrown2_1 a_tape m_taped m_size m_at m_end m_token m_whole m_nameSize m_fault m_place m_trouble2_2 a_letters m_failed m_hasHouse a_r a_fresh a_st a_undone a_kept m_undos m_images a_from a_begin a_motor a_change a_startFrame a_changeFrame a_lostAt a_blackAt a_slips a_leftArc a_died a_arcs m_bestSum m_nearest m_nearestTown a_there a_backAt a_sorted a_parts m_seed1 m_darkNow d_st) dX11_wears_k2.1.1.2.1 mw682 mw683 mw684 mw5 mw685 rfl 11 rfl rfl 0 _ rfl yk_yX11_isMended_1 rfl (Nat.le_of_ble_eq_true rfl) (Nat.le_of_ble_eq_true rfl) (Nat.le_of_ble_eq_true rfl) (Nat.le_of_ble_eq_true rfl) (Nat.le_of_ble_eq_true rfl) rfl rfl (vnd_e rfl) rfl (vnd_e rfl) (dsj_e rfl) ?_
        rintro r_40 w ⟨iv_41, rfl⟩
        refine k_ws [(cAI g a_r 311 d_r), (cO11_i1r1i10r1i2r5i2r12i3r4i2 h0 m_thrown2_1 a_tape m_taped m_size m_at m_end m_token m_whole m_nameSize m_fault m_place m_trouble2_2 a_letters m_failed m_hasHouse a_r a_fresh a_st a_undone a_kept m_undos m_images a_from a_begin a_motor a_change a_startFrame a_changeFrame a_lostAt a_blackAt a_slips a_leftArc a_died a_arcs m_bestSum m_nearest m_nearestTown a_there a_backAt a_sorted a_parts m_seed1 m_darkNow), (cAI g a_st 44 d_st)] rfl ?_
        refine k_if_ne 99 X dX11_wears_k2.1.1.2.2 (jp_e rfl) (fun h_42 => ?_) (fun h_42 => ?_)
        · skip
          have iv_43 : IV r_40 1 1 := iv_neL h_42 iv_41 iq_0_0_0 (zle_e rfl)
          refine k_lconst (v := 0) X dX11_wears_k3.2.1.2.1 (by decide) ?_
          refine k_ladd X dX11_wears_k3.2.1.2.2 ?_
          refine k_nmL (fun y_44 ey_44 => ?_)
          refine k_lstore [(4, .long y_44), (6, .int u_23), (0, .ref h0), (1, .int p0), (2, .int p1), (3, .int p2)] X dX11_wears_k3.2.2.1.1 (by decide) rfl ?_
          obtain ⟨z_45, ez_45⟩ : ∃ y : Int32, u_23 + Int32.ofInt 1 = y := ⟨_, rfl⟩
          refine k_iinc z_45 [(6, .int z_45), (4, .long y_44), (0, .ref h0), (1, .int p0), (2, .int p1), (3, .int p2)] 1 X dX11_wears_k3.2.2.1.2 rfl ez_45 (nlt_e rfl) rfl ?_
          have i_46 : z_45.toInt = u_23.toInt + 1 := in_inc ez_45 (oin_e rfl) iv_38 (zle_e rfl) (zle_e rfl)
          have iv_47 : IV z_45 1 6 := iz1 i_46 iv_38 (zle_e rfl) (zle_e rfl)
          refine k_goto 42 X dX11_wears_k3.2.2.2.1 (jp_e rfl) ?_
          refine k_sub [(cAI g a_st 44 d_st), (cO11_i1r1i10r1i2r5i2r12i3r4i2 h0 m_thrown2_1 a_tape m_taped m_size m_at m_end m_token m_whole m_nameSize m_fault m_place m_trouble2_2 a_letters m_failed m_hasHouse a_r a_fresh a_st a_undone a_kept m_undos m_images a_from a_begin a_motor a_change a_startFrame a_changeFrame a_lostAt a_blackAt a_slips a_leftArc a_died a_arcs m_bestSum m_nearest m_nearestTown a_there a_backAt a_sorted a_parts m_seed1 m_darkNow), (cAI g a_r 311 d_r)] [2, 1, 0] rfl (by decide) rfl ?_
          exact ih_27 _ (by omega) y_44 z_45 rfl (iv_w iv_47 (zle_e rfl) (zle_e rfl))
        · skip
          have iv_48 : IV r_40 0 0 := iv_meet iv_41 (iv_e h_42 iq_0_0_0) (zle_o rfl) (zle_o rfl)
          refine k_aload_n X dX11_wears_k2.1.2.1.1 2 rfl ?_
          refine k_get (ci := 11) X inlX11 rfl 15 (nlt_e rfl) dX11_wears_k2.1.2.1.2 mw170 1 rfl rfl ?_
          refine k_bipush (v := 96) X dX11_wears_k2.1.2.2.1 bi_96 ?_
          refine k_iconst (v := 3) X dX11_wears_k2.1.2.2.2 ic_3 ?_
          refine k_iload X dX11_wears_k2.2.1.1.1 0 rfl ?_
          refine k_imul X dX11_wears_k2.2.1.1.2 ?_
          refine k_nm (fun z_49 ez_49 => ?_)
          have i_50 : z_49.toInt = 3 * u_23.toInt := in_mul ez_49 (by decide) (zle_e rfl) iv_38 (zle_e rfl) (zle_e rfl)
          have iv_51 : IV z_49 0 15 := iz4 i_50 iv_38 (zle_e rfl) (zle_e rfl) (zle_e rfl)
          refine k_iadd X dX11_wears_k2.2.1.2.1 ?_
          refine k_nm (fun z_52 ez_52 => ?_)
          have i_53 : z_52.toInt = 96 + z_49.toInt := in_add ez_52 iq_96_96_96 iv_51 (zle_e rfl) (zle_e rfl)
          have iv_54 : IV z_52 96 111 := iz2 i_53 iv_51 (zle_e rfl) (zle_e rfl)
          refine k_iald X dX11_wears_k2.2.1.2.2 0 rfl (iv_in iv_54 (zle_e rfl) (zle_l rfl)) ?_
          refine k_nm (fun z_55 ez_55 => ?_)
          have i_56 : z_52.toInt = 96 + 3 * u_23.toInt := by omega
          have iv_57 : IV z_55 0 7 := rb_96_3 ez_55 hp_d_r i_56 (iv_w iv_38 (zle_e rfl) (zle_e rfl))
          refine k_iload_n X dX11_wears_k2.2.2.1.1 3 rfl ?_
          refine k_ic_ne 99 X dX11_wears_k2.2.2.1.2 (jp_e rfl) (fun h_58 => ?_) (fun h_58 => ?_)
          · skip
            refine k_lconst (v := 0) X dX11_wears_k3.2.1.2.1 (by decide) ?_
            refine k_ladd X dX11_wears_k3.2.1.2.2 ?_
            refine k_nmL (fun y_59 ey_59 => ?_)
            refine k_lstore [(4, .long y_59), (6, .int u_23), (0, .ref h0), (1, .int p0), (2, .int p1), (3, .int p2)] X dX11_wears_k3.2.2.1.1 (by decide) rfl ?_
            obtain ⟨z_60, ez_60⟩ : ∃ y : Int32, u_23 + Int32.ofInt 1 = y := ⟨_, rfl⟩
            refine k_iinc z_60 [(6, .int z_60), (4, .long y_59), (0, .ref h0), (1, .int p0), (2, .int p1), (3, .int p2)] 1 X dX11_wears_k3.2.2.1.2 rfl ez_60 (nlt_e rfl) rfl ?_
            have i_61 : z_60.toInt = u_23.toInt + 1 := in_inc ez_60 (oin_e rfl) iv_38 (zle_e rfl) (zle_e rfl)
            have iv_62 : IV z_60 1 6 := iz1 i_61 iv_38 (zle_e rfl) (zle_e rfl)
            refine k_goto 42 X dX11_wears_k3.2.2.2.1 (jp_e rfl) ?_
            refine k_sub [(cAI g a_st 44 d_st), (cO11_i1r1i10r1i2r5i2r12i3r4i2 h0 m_thrown2_1 a_tape m_taped m_size m_at m_end m_token m_whole m_nameSize m_fault m_place m_trouble2_2 a_letters m_failed m_hasHouse a_r a_fresh a_st a_undone a_kept m_undos m_images a_from a_begin a_motor a_change a_startFrame a_changeFrame a_lostAt a_blackAt a_slips a_leftArc a_died a_arcs m_bestSum m_nearest m_nearestTown a_there a_backAt a_sorted a_parts m_seed1 m_darkNow), (cAI g a_r 311 d_r)] [2, 1, 0] rfl (by decide) rfl ?_
            exact ih_27 _ (by omega) y_59 z_60 rfl (iv_w iv_62 (zle_e rfl) (zle_e rfl))
          · skip
            refine k_aload_n X dX11_wears_k2.2.2.2.1 2 rfl ?_
            refine k_get (ci := 11) X inlX11 rfl 15 (nlt_e rfl) dX11_wears_k2.2.2.2.2 mw170 1 rfl rfl ?_
            refine k_bipush (v := 96) X dX11_wears_k3.1.1.1.1 bi_96 ?_
            refine k_iconst (v := 3) X dX11_wears_k3.1.1.1.2 ic_3 ?_
            refine k_iload X dX11_wears_k3.1.1.2.1 0 rfl ?_
            refine k_imul X dX11_wears_k3.1.1.2.2 ?_
            refine k_to z_49 ez_49.symm ?_
            refine k_iadd X dX11_wears_k3.1.2.1.1 ?_
            refine k_to z_52 ez_52.symm ?_
            refine k_iconst (v := 2) X dX11_wears_k3.1.2.1.2 ic_2 ?_
            refine k_iadd X dX11_wears_k3.1.2.2.1 ?_
            refine k_nm (fun z_63 ez_63 => ?_)
            have i_64 : z_63.toInt = z_52.toInt + 2 := in_add ez_63 iv_54 iq_2_2_2 (zle_e rfl) (zle_e rfl)
            have iv_65 : IV z_63 98 113 := iz1 i_64 iv_54 (zle_e rfl) (zle_e rfl)
            refine k_iald X dX11_wears_k3.1.2.2.2 0 rfl (iv_in iv_65 (zle_e rfl) (zle_l rfl)) ?_
            refine k_nm (fun z_66 ez_66 => ?_)
            refine k_i2l X dX11_wears_k3.2.1.1.1 ?_
            refine k_nmL (fun y_67 ey_67 => ?_)
            refine k_goto 100 X dX11_wears_k3.2.1.1.2 (jp_e rfl) ?_
            refine k_ladd X dX11_wears_k3.2.1.2.2 ?_
            refine k_nmL (fun y_68 ey_68 => ?_)
            refine k_lstore [(4, .long y_68), (6, .int u_23), (0, .ref h0), (1, .int p0), (2, .int p1), (3, .int p2)] X dX11_wears_k3.2.2.1.1 (by decide) rfl ?_
            obtain ⟨z_69, ez_69⟩ : ∃ y : Int32, u_23 + Int32.ofInt 1 = y := ⟨_, rfl⟩
            refine k_iinc z_69 [(6, .int z_69), (4, .long y_68), (0, .ref h0), (1, .int p0), (2, .int p1), (3, .int p2)] 1 X dX11_wears_k3.2.2.1.2 rfl ez_69 (nlt_e rfl) rfl ?_
            have i_70 : z_69.toInt = u_23.toInt + 1 := in_inc ez_69 (oin_e rfl) iv_38 (zle_e rfl) (zle_e rfl)
            have iv_71 : IV z_69 1 6 := iz1 i_70 iv_38 (zle_e rfl) (zle_e rfl)
            refine k_goto 42 X dX11_wears_k3.2.2.2.1 (jp_e rfl) ?_
            refine k_sub [(cAI g a_st 44 d_st), (cO11_i1r1i10r1i2r5i2r12i3r4i2 h0 m_thrown2_1 a_tape m_taped m_size m_at m_end m_token m_whole m_nameSize m_fault m_place m_trouble2_2 a_letters m_failed m_hasHouse a_r a_fresh a_st a_undone a_kept m_undos m_images a_from a_begin a_motor a_change a_startFrame a_changeFrame a_lostAt a_blackAt a_slips a_leftArc a_died a_arcs m_bestSum m_nearest m_nearestTown a_there a_backAt a_sorted a_parts m_seed1 m_darkNow), (cAI g a_r 311 d_r)] [2, 1, 0] rfl (by decide) rfl ?_
            exact ih_27 _ (by omega) y_68 z_69 rfl (iv_w iv_71 (zle_e rfl) (zle_e rfl))
    · skip
      have iv_72 : IV r_11 0 0 := iv_meet iv_12 (iv_e h_15 iq_0_0_0) (zle_o rfl) (zle_o rfl)
      have hc_73 := hk_14 (iv_eq iv_72 iq_0_0_0)
      have j_74 : p1.toInt < 0 ∨ 99 < p1.toInt := hc_73
      refine k_aload_n X dX11_wears_k1.1.1.1.1 0 rfl ?_
      refine k_iconst (v := 2) X dX11_wears_k1.1.1.1.2 ic_2 ?_
      refine k_callVI (n := 1) (As := [.int 2]) (st := []) X [(cO11_i1r1i10r1i2r5i2r12i3r4i2 h0 m_thrown2_1 a_tape m_taped m_size m_at m_end m_token m_whole m_nameSize m_fault m_place m_trouble2_2 a_letters m_failed m_hasHouse a_r a_fresh a_st a_undone a_kept m_undos m_images a_from a_begin a_motor a_change a_startFrame a_changeFrame a_lostAt a_blackAt a_slips a_leftArc a_died a_arcs m_bestSum m_nearest m_nearestTown a_there a_backAt a_sorted a_parts m_seed1 m_darkNow)] [(cAI g a_st 44 d_st), (cAI g a_r 311 d_r)] [1] [0, 2] (m_no l g h0 2 m_thrown2_1 a_tape m_taped m_size m_at m_end m_token m_whole m_nameSize m_fault m_place m_trouble2_2 a_letters m_failed m_hasHouse a_r a_fresh a_st a_undone a_kept m_undos m_images a_from a_begin a_motor a_change a_startFrame a_changeFrame a_lostAt a_blackAt a_slips a_leftArc a_died a_arcs m_bestSum m_nearest m_nearestTown a_there a_backAt a_sorted a_parts m_seed1 m_darkNow) dX11_wears_k1.1.1.2.1 mw485 mw486 mw487 mw5 mw488 rfl 11 rfl rfl 0 _ rfl yk_yX11_no_1 rfl (Nat.le_of_ble_eq_true rfl) (Nat.le_of_ble_eq_true rfl) (Nat.le_of_ble_eq_true rfl) (Nat.le_of_ble_eq_true rfl) (Nat.le_of_ble_eq_true rfl) rfl rfl (vnd_e rfl) rfl (vnd_e rfl) (dsj_e rfl) ?_
      rintro r_76 w ⟨m_trouble2_75, iv_77, rfl⟩
      refine k_ws [(cAI g a_st 44 d_st), (cAI g a_r 311 d_r), (cO11_i1r1i10r1i2r5i2r12i3r4i2 h0 m_thrown2_1 a_tape m_taped m_size m_at m_end m_token m_whole m_nameSize m_fault m_place m_trouble2_75 a_letters m_failed m_hasHouse a_r a_fresh a_st a_undone a_kept m_undos m_images a_from a_begin a_motor a_change a_startFrame a_changeFrame a_lostAt a_blackAt a_slips a_leftArc a_died a_arcs m_bestSum m_nearest m_nearestTown a_there a_backAt a_sorted a_parts m_seed1 m_darkNow)] rfl ?_
      refine k_i2l X dX11_wears_k1.1.1.2.2 ?_
      refine k_nmL (fun y_78 ey_78 => ?_)
      exact k_lret X hr dX11_wears_k1.1.2.1.1 (Nat.le_of_ble_eq_true rfl) (Nat.le_of_ble_eq_true rfl) [2, 1, 0] (vnd_e rfl) rfl rfl ⟨m_thrown2_1, m_trouble2_75, rfl⟩
  · skip
    have iv_79 : IV r_4 0 0 := iv_meet iv_5 (iv_e h_7 iq_0_0_0) (zle_o rfl) (zle_o rfl)
    refine k_aload_n X dX11_wears_k0.1.2.2.1 0 rfl ?_
    refine k_iconst (v := 1) X dX11_wears_k0.1.2.2.2 ic_1 ?_
    refine k_callVI (n := 1) (As := [.int 1]) (st := []) X [(cO11_i1r1i10r1i2r5i2r12i3r4i2 h0 m_thrown2_1 a_tape m_taped m_size m_at m_end m_token m_whole m_nameSize m_fault m_place m_trouble2_2 a_letters m_failed m_hasHouse a_r a_fresh a_st a_undone a_kept m_undos m_images a_from a_begin a_motor a_change a_startFrame a_changeFrame a_lostAt a_blackAt a_slips a_leftArc a_died a_arcs m_bestSum m_nearest m_nearestTown a_there a_backAt a_sorted a_parts m_seed1 m_darkNow)] [(cAI g a_st 44 d_st), (cAI g a_r 311 d_r)] [1] [0, 2] (m_no l g h0 1 m_thrown2_1 a_tape m_taped m_size m_at m_end m_token m_whole m_nameSize m_fault m_place m_trouble2_2 a_letters m_failed m_hasHouse a_r a_fresh a_st a_undone a_kept m_undos m_images a_from a_begin a_motor a_change a_startFrame a_changeFrame a_lostAt a_blackAt a_slips a_leftArc a_died a_arcs m_bestSum m_nearest m_nearestTown a_there a_backAt a_sorted a_parts m_seed1 m_darkNow) dX11_wears_k0.2.1.1.1 mw485 mw486 mw487 mw5 mw488 rfl 11 rfl rfl 0 _ rfl yk_yX11_no_1 rfl (Nat.le_of_ble_eq_true rfl) (Nat.le_of_ble_eq_true rfl) (Nat.le_of_ble_eq_true rfl) (Nat.le_of_ble_eq_true rfl) (Nat.le_of_ble_eq_true rfl) rfl rfl (vnd_e rfl) rfl (vnd_e rfl) (dsj_e rfl) ?_
    rintro r_81 w ⟨m_trouble2_80, iv_82, rfl⟩
    refine k_ws [(cAI g a_st 44 d_st), (cAI g a_r 311 d_r), (cO11_i1r1i10r1i2r5i2r12i3r4i2 h0 m_thrown2_1 a_tape m_taped m_size m_at m_end m_token m_whole m_nameSize m_fault m_place m_trouble2_80 a_letters m_failed m_hasHouse a_r a_fresh a_st a_undone a_kept m_undos m_images a_from a_begin a_motor a_change a_startFrame a_changeFrame a_lostAt a_blackAt a_slips a_leftArc a_died a_arcs m_bestSum m_nearest m_nearestTown a_there a_backAt a_sorted a_parts m_seed1 m_darkNow)] rfl ?_
    refine k_i2l X dX11_wears_k0.2.1.1.2 ?_
    refine k_nmL (fun y_83 ey_83 => ?_)
    exact k_lret X hr dX11_wears_k0.2.1.2.1 (Nat.le_of_ble_eq_true rfl) (Nat.le_of_ble_eq_true rfl) [2, 1, 0] (vnd_e rfl) rfl rfl ⟨m_thrown2_1, m_trouble2_80, rfl⟩

theorem dX11_signsOf_k0 : ((((dD cX11_signsOf 0 (.aload_n 0) 1 ∧ dD cX11_signsOf 1 (.iload_n 1) 1) ∧ (dD cX11_signsOf 2 (.invokevirtual 373) 3 ∧ dD cX11_signsOf 5 (.iconst 0) 1)) ∧ ((dD cX11_signsOf 6 (.istore_n 2) 1 ∧ dD cX11_signsOf 7 (.iconst 0) 1) ∧ (dD cX11_signsOf 8 (.istore_n 3) 1 ∧ dD cX11_signsOf 9 (.iload_n 3) 1))) ∧ (((dD cX11_signsOf 10 (.aload_n 0) 1 ∧ dD cX11_signsOf 11 (.getfield 20) 3) ∧ (dD cX11_signsOf 14 (.bipush 13) 2 ∧ dD cX11_signsOf 16 .iaload 1)) ∧ ((dD cX11_signsOf 17 (.if_icmp .ge 76) 3 ∧ dD cX11_signsOf 20 (.sipush 137) 3) ∧ (dD cX11_signsOf 23 (.iconst 3) 1 ∧ dD cX11_signsOf 24 (.iload_n 3) 1)))) := dkA16 (by decide +kernel)
theorem dX11_signsOf_k1 : ((((dD cX11_signsOf 25 .imul 1 ∧ dD cX11_signsOf 26 .iadd 1) ∧ (dD cX11_signsOf 27 (.istore 4) 2 ∧ dD cX11_signsOf 29 (.iload_n 2) 1)) ∧ ((dD cX11_signsOf 30 (.aload_n 0) 1 ∧ dD cX11_signsOf 31 (.getfield 56) 3) ∧ (dD cX11_signsOf 34 (.aload_n 0) 1 ∧ dD cX11_signsOf 35 (.getfield 20) 3))) ∧ (((dD cX11_signsOf 38 (.iload 4) 2 ∧ dD cX11_signsOf 40 .iaload 1) ∧ (dD cX11_signsOf 41 .iaload 1 ∧ dD cX11_signsOf 42 (.aload_n 0) 1)) ∧ ((dD cX11_signsOf 43 (.getfield 20) 3 ∧ dD cX11_signsOf 46 (.iload 4) 2) ∧ (dD cX11_signsOf 48 (.iconst 1) 1 ∧ dD cX11_signsOf 49 .iadd 1)))) := dkA16 (by decide +kernel)
theorem dX11_signsOf_k2 : ((((dD cX11_signsOf 50 .iaload 1 ∧ dD cX11_signsOf 51 (.if_icmp .ne 33) 3) ∧ (dD cX11_signsOf 54 (.aload_n 0) 1 ∧ dD cX11_signsOf 55 (.getfield 53) 3)) ∧ ((dD cX11_signsOf 58 (.aload_n 0) 1 ∧ dD cX11_signsOf 59 (.getfield 20) 3) ∧ (dD cX11_signsOf 62 (.iload 4) 2 ∧ dD cX11_signsOf 64 .iaload 1))) ∧ (((dD cX11_signsOf 65 .iaload 1 ∧ dD cX11_signsOf 66 (.aload_n 0) 1) ∧ (dD cX11_signsOf 67 (.getfield 20) 3 ∧ dD cX11_signsOf 70 (.iload 4) 2)) ∧ ((dD cX11_signsOf 72 (.iconst 2) 1 ∧ dD cX11_signsOf 73 .iadd 1) ∧ (dD cX11_signsOf 74 .iaload 1 ∧ dD cX11_signsOf 75 (.if_icmp .ne 9) 3)))) := dkA16 (by decide +kernel)
theorem dX11_signsOf_k3 : (((dD cX11_signsOf 78 (.iconst 1) 1 ∧ dD cX11_signsOf 79 (.iload_n 3) 1) ∧ (dD cX11_signsOf 80 .ishl 1 ∧ (dD cX11_signsOf 81 (.goto 4) 3 ∧ dD cX11_signsOf 84 (.iconst 0) 1))) ∧ ((dD cX11_signsOf 85 .ior 1 ∧ (dD cX11_signsOf 86 (.istore_n 2) 1 ∧ dD cX11_signsOf 87 (.iinc 3 1) 3)) ∧ (dD cX11_signsOf 90 (.goto (-81)) 3 ∧ (dD cX11_signsOf 93 (.iload_n 2) 1 ∧ dD cX11_signsOf 94 .ireturn 1)))) := dkA11 (by decide +kernel)
set_option maxHeartbeats 4000000 in
set_option maxRecDepth 100000 in
theorem m_signsOf (l : Launch) (g : Gx) (h0 : Nat) (p0 : Int32) (m_thrown : Int32) (a_tape : Nat) (m_taped : Int32) (m_size : Int32) (m_at : Int32) (m_end : Int32) (m_token : Int32) (m_whole : Int32) (m_nameSize : Int32) (m_fault : Int32) (m_place : Int32) (m_trouble : Int32) (a_letters : Nat) (m_failed : Int32) (m_hasHouse : Int32) (a_r : Nat) (a_fresh : Nat) (a_st : Nat) (a_undone : Nat) (a_kept : Nat) (m_undos : Int32) (m_images : Int32) (a_from : Nat) (a_begin : Nat) (a_motor : Nat) (a_change : Nat) (a_startFrame : Nat) (a_changeFrame : Nat) (a_lostAt : Nat) (a_blackAt : Nat) (a_slips : Nat) (a_leftArc : Nat) (a_died : Nat) (a_arcs : Nat) (m_bestSum : Int32) (m_nearest : Int32) (m_nearestTown : Int32) (a_there : Nat) (a_backAt : Nat) (a_sorted : Nat) (a_parts : Nat) (m_seed1 : Int32) (m_darkNow : Int32) (d_r : Nat → Int32) (d_st : Nat → Int32) (d_from : Nat → Int32) (d_begin : Nat → Int32) (d_motor : Nat → Int32) (d_change : Nat → Int32) (d_startFrame : Nat → Int32) (d_changeFrame : Nat → Int32) (d_lostAt : Nat → Int32) (d_blackAt : Nat → Int32) (d_slips : Nat → Int32) (hv_p0 : IV p0 0 3) (hp_d_r : RInv d_r) : cI l g yX11_signsOf cX11_signsOf 5 (some .int) 5 110 0 0 [.ref h0, .int p0] [(cO11_i1r1i10r1i2r5i2r12i3r4i2 h0 m_thrown a_tape m_taped m_size m_at m_end m_token m_whole m_nameSize m_fault m_place m_trouble a_letters m_failed m_hasHouse a_r a_fresh a_st a_undone a_kept m_undos m_images a_from a_begin a_motor a_change a_startFrame a_changeFrame a_lostAt a_blackAt a_slips a_leftArc a_died a_arcs m_bestSum m_nearest m_nearestTown a_there a_backAt a_sorted a_parts m_seed1 m_darkNow), (cAI g a_r 311 d_r), (cAI g a_st 44 d_st), (cAI g a_from 8 d_from), (cAI g a_begin 8 d_begin), (cAI g a_motor 8 d_motor), (cAI g a_change 8 d_change), (cAI g a_startFrame 8 d_startFrame), (cAI g a_changeFrame 8 d_changeFrame), (cAI g a_lostAt 8 d_lostAt), (cAI g a_blackAt 8 d_blackAt), (cAI g a_slips 8 d_slips)] (fun r w => ∃ (d_begin2 : Nat → Int32) (d_blackAt2 : Nat → Int32) (d_change2 : Nat → Int32) (d_changeFrame2 : Nat → Int32) (d_from2 : Nat → Int32) (d_lostAt2 : Nat → Int32) (d_motor2 : Nat → Int32) (d_slips2 : Nat → Int32) (d_startFrame2 : Nat → Int32), w = [(cO11_i1r1i10r1i2r5i2r12i3r4i2 h0 m_thrown a_tape m_taped m_size m_at m_end m_token m_whole m_nameSize m_fault m_place m_trouble a_letters m_failed m_hasHouse a_r a_fresh a_st a_undone a_kept m_undos m_images a_from a_begin a_motor a_change a_startFrame a_changeFrame a_lostAt a_blackAt a_slips a_leftArc a_died a_arcs m_bestSum m_nearest m_nearestTown a_there a_backAt a_sorted a_parts m_seed1 m_darkNow), (cAI g a_r 311 d_r), (cAI g a_st 44 d_st), (cAI g a_from 8 d_from2), (cAI g a_begin 8 d_begin2), (cAI g a_motor 8 d_motor2), (cAI g a_change 8 d_change2), (cAI g a_startFrame 8 d_startFrame2), (cAI g a_changeFrame 8 d_changeFrame2), (cAI g a_lostAt 8 d_lostAt2), (cAI g a_blackAt 8 d_blackAt2), (cAI g a_slips 8 d_slips2)]) := by
  refine cI.of (by decide) (Nat.le_of_ble_eq_true rfl) ?_
  intro p e s m args below meth c A X hr hi
  refine k_lveq [(0, .ref h0), (1, .int p0)] rfl ?_
  refine k_aload_n X dX11_signsOf_k0.1.1.1.1 0 rfl ?_
  refine k_iload_n X dX11_signsOf_k0.1.1.1.2 1 rfl ?_
  refine k_callVV (n := 1) (As := [.int p0]) (st := []) X [(cO11_i1r1i10r1i2r5i2r12i3r4i2 h0 m_thrown a_tape m_taped m_size m_at m_end m_token m_whole m_nameSize m_fault m_place m_trouble a_letters m_failed m_hasHouse a_r a_fresh a_st a_undone a_kept m_undos m_images a_from a_begin a_motor a_change a_startFrame a_changeFrame a_lostAt a_blackAt a_slips a_leftArc a_died a_arcs m_bestSum m_nearest m_nearestTown a_there a_backAt a_sorted a_parts m_seed1 m_darkNow), (cAI g a_r 311 d_r), (cAI g a_st 44 d_st), (cAI g a_from 8 d_from), (cAI g a_begin 8 d_begin), (cAI g a_motor 8 d_motor), (cAI g a_change 8 d_change), (cAI g a_startFrame 8 d_startFrame), (cAI g a_changeFrame 8 d_changeFrame), (cAI g a_lostAt 8 d_lostAt), (cAI g a_blackAt 8 d_blackAt), (cAI g a_slips 8 d_slips)] [] [0, 1, 2, 3, 4, 5, 6, 7, 8, 9, 10, 11] [] (m_layTold l g h0 p0 m_thrown a_tape m_taped m_size m_at m_end m_token m_whole m_nameSize m_fault m_place m_trouble a_letters m_failed m_hasHouse a_r a_fresh a_st a_undone a_kept m_undos m_images a_from a_begin a_motor a_change a_startFrame a_changeFrame a_lostAt a_blackAt a_slips a_leftArc a_died a_arcs m_bestSum m_nearest m_nearestTown a_there a_backAt a_sorted a_parts m_seed1 m_darkNow d_r d_st d_from d_begin d_motor d_change d_startFrame d_changeFrame d_lostAt d_blackAt d_slips (iv_w hv_p0 (zle_e rfl) (zle_e rfl)) hp_d_r) dX11_signsOf_k0.1.1.2.1 mw815 mw816 mw817 mw5 mw818 rfl 11 rfl rfl 0 _ rfl yk_yX11_layTold_1 rfl (Nat.le_of_ble_eq_true rfl) (Nat.le_of_ble_eq_true rfl) (Nat.le_of_ble_eq_true rfl) (Nat.le_of_ble_eq_true rfl) (Nat.le_of_ble_eq_true rfl) rfl rfl (by decide +kernel) rfl (by decide +kernel) (by decide +kernel) ?_
  rintro w ⟨d_begin2_1, d_blackAt2_2, d_change2_3, d_changeFrame2_4, d_from2_5, d_lostAt2_6, d_motor2_7, d_slips2_8, d_startFrame2_9, rfl⟩
  refine k_ws [(cO11_i1r1i10r1i2r5i2r12i3r4i2 h0 m_thrown a_tape m_taped m_size m_at m_end m_token m_whole m_nameSize m_fault m_place m_trouble a_letters m_failed m_hasHouse a_r a_fresh a_st a_undone a_kept m_undos m_images a_from a_begin a_motor a_change a_startFrame a_changeFrame a_lostAt a_blackAt a_slips a_leftArc a_died a_arcs m_bestSum m_nearest m_nearestTown a_there a_backAt a_sorted a_parts m_seed1 m_darkNow), (cAI g a_r 311 d_r), (cAI g a_st 44 d_st), (cAI g a_from 8 d_from2_5), (cAI g a_begin 8 d_begin2_1), (cAI g a_motor 8 d_motor2_7), (cAI g a_change 8 d_change2_3), (cAI g a_startFrame 8 d_startFrame2_9), (cAI g a_changeFrame 8 d_changeFrame2_4), (cAI g a_lostAt 8 d_lostAt2_6), (cAI g a_blackAt 8 d_blackAt2_2), (cAI g a_slips 8 d_slips2_8)] rfl ?_
  refine k_iconst (v := 0) X dX11_signsOf_k0.1.1.2.2 ic_0 ?_
  refine k_istore_n [(2, .int 0), (0, .ref h0), (1, .int p0)] X dX11_signsOf_k0.1.2.1.1 (nlt_e rfl) rfl ?_
  refine k_iconst (v := 0) X dX11_signsOf_k0.1.2.1.2 ic_0 ?_
  refine k_istore_n [(3, .int 0), (2, .int 0), (0, .ref h0), (1, .int p0)] X dX11_signsOf_k0.1.2.2.1 (nlt_e rfl) rfl ?_
  refine (fun hL : ∀ (nn_14 : Nat) (u_11 : Int32) (u_12 : Int32), (2147483647 - u_12.toInt).toNat = nn_14 → (IV u_12 0 8) → Wk p l e _ s m args below meth c _ A g _ _ _ [(cO11_i1r1i10r1i2r5i2r12i3r4i2 h0 m_thrown a_tape m_taped m_size m_at m_end m_token m_whole m_nameSize m_fault m_place m_trouble a_letters m_failed m_hasHouse a_r a_fresh a_st a_undone a_kept m_undos m_images a_from a_begin a_motor a_change a_startFrame a_changeFrame a_lostAt a_blackAt a_slips a_leftArc a_died a_arcs m_bestSum m_nearest m_nearestTown a_there a_backAt a_sorted a_parts m_seed1 m_darkNow), (cAI g a_r 311 d_r), (cAI g a_st 44 d_st), (cAI g a_from 8 d_from2_5), (cAI g a_begin 8 d_begin2_1), (cAI g a_motor 8 d_motor2_7), (cAI g a_change 8 d_change2_3), (cAI g a_startFrame 8 d_startFrame2_9), (cAI g a_changeFrame 8 d_changeFrame2_4), (cAI g a_lostAt 8 d_lostAt2_6), (cAI g a_blackAt 8 d_blackAt2_2), (cAI g a_slips 8 d_slips2_8)] [(3, .int u_12), (2, .int u_11), (0, .ref h0), (1, .int p0)] 9 [] => hL _ 0 0 rfl (iv_w iq_0_0_0 (zle_e rfl) (zle_e rfl))) ?_
  refine fun nn_14 => Nat.strongRecOn nn_14 (fun nn_14 ih_16 => ?_)
  intro u_11 u_12 hm_15 hv_13
  refine k_iload_n X dX11_signsOf_k0.1.2.2.2 0 rfl ?_
  refine k_aload_n X dX11_signsOf_k0.2.1.1.1 2 rfl ?_
  refine k_get (ci := 11) X inlX11 rfl 15 (nlt_e rfl) dX11_signsOf_k0.2.1.1.2 mw170 0 rfl rfl ?_
  refine k_bipush (v := 13) X dX11_signsOf_k0.2.1.2.1 bi_13 ?_
  refine k_iald X dX11_signsOf_k0.2.1.2.2 1 rfl (by unfold vp_in; decide) ?_
  refine k_nm (fun z_17 ez_17 => ?_)
  have i_18 : z_17.toInt = (d_r 13).toInt := by rw [ez_17]; rfl
  have iv_19 : IV z_17 0 6 := rb_13 ez_17 hp_d_r
  refine k_ic_ge 93 X dX11_signsOf_k0.2.2.1.1 (jp_e rfl) (fun h_20 => ?_) (fun h_20 => ?_)
  · skip
    have j_21 : z_17.toInt ≤ u_12.toInt := iv_le h_20
    refine k_iload_n X dX11_signsOf_k3.2.2.2.1 1 rfl ?_
    exact k_iret X hr dX11_signsOf_k3.2.2.2.2 (Nat.le_of_ble_eq_true rfl) (Nat.le_of_ble_eq_true rfl) [0, 1, 2, 3, 4, 5, 6, 7, 8, 9, 10, 11] (vnd_e rfl) rfl rfl (exI9 d_begin2_1 d_blackAt2_2 d_change2_3 d_changeFrame2_4 d_from2_5 d_lostAt2_6 d_motor2_7 d_slips2_8 d_startFrame2_9 rfl)
  · skip
    have j_22 : u_12.toInt < z_17.toInt := iv_nle h_20
    have iv_23 : IV u_12 0 5 := iv_ltL (iv_nle h_20) hv_13 iv_19 (zle_e rfl)
    have iv_24 : IV z_17 1 6 := iv_ltR (iv_nle h_20) hv_13 iv_19 (zle_e rfl)
    refine k_sipush (v := 137) X dX11_signsOf_k0.2.2.1.2 si_137 ?_
    refine k_iconst (v := 3) X dX11_signsOf_k0.2.2.2.1 ic_3 ?_
    refine k_iload_n X dX11_signsOf_k0.2.2.2.2 0 rfl ?_
    refine k_imul X dX11_signsOf_k1.1.1.1.1 ?_
    refine k_nm (fun z_25 ez_25 => ?_)
    have i_26 : z_25.toInt = 3 * u_12.toInt := in_mul ez_25 (by decide) (zle_e rfl) iv_23 (zle_e rfl) (zle_e rfl)
    have iv_27 : IV z_25 0 15 := iz4 i_26 iv_23 (zle_e rfl) (zle_e rfl) (zle_e rfl)
    refine k_iadd X dX11_signsOf_k1.1.1.1.2 ?_
    refine k_nm (fun z_28 ez_28 => ?_)
    have i_29 : z_28.toInt = 137 + z_25.toInt := in_add ez_28 iq_137_137_137 iv_27 (zle_e rfl) (zle_e rfl)
    have iv_30 : IV z_28 137 152 := iz2 i_29 iv_27 (zle_e rfl) (zle_e rfl)
    refine k_istore [(4, .int z_28), (3, .int u_12), (2, .int u_11), (0, .ref h0), (1, .int p0)] X dX11_signsOf_k1.1.1.2.1 (nlt_e rfl) rfl ?_
    refine k_iload_n X dX11_signsOf_k1.1.1.2.2 2 rfl ?_
    refine k_aload_n X dX11_signsOf_k1.1.2.1.1 3 rfl ?_
    refine k_get (ci := 11) X inlX11 rfl 29 (nlt_e rfl) dX11_signsOf_k1.1.2.1.2 mw182 0 rfl rfl ?_
    refine k_aload_n X dX11_signsOf_k1.1.2.2.1 3 rfl ?_
    refine k_get (ci := 11) X inlX11 rfl 15 (nlt_e rfl) dX11_signsOf_k1.1.2.2.2 mw170 0 rfl rfl ?_
    refine k_iload X dX11_signsOf_k1.2.1.1.1 0 rfl ?_
    refine k_iald X dX11_signsOf_k1.2.1.1.2 1 rfl (iv_in iv_30 (zle_e rfl) (zle_l rfl)) ?_
    refine k_nm (fun z_31 ez_31 => ?_)
    have i_32 : z_28.toInt = 137 + 3 * u_12.toInt := by omega
    have iv_33 : IV z_31 0 7 := rb_137_3 ez_31 hp_d_r i_32 (iv_w iv_23 (zle_e rfl) (zle_e rfl))
    refine k_iald X dX11_signsOf_k1.2.1.2.1 10 rfl (iv_in iv_33 (zle_e rfl) (zle_l rfl)) ?_
    refine k_nm (fun z_34 ez_34 => ?_)
    refine k_aload_n X dX11_signsOf_k1.2.1.2.2 3 rfl ?_
    refine k_get (ci := 11) X inlX11 rfl 15 (nlt_e rfl) dX11_signsOf_k1.2.2.1.1 mw170 0 rfl rfl ?_
    refine k_iload X dX11_signsOf_k1.2.2.1.2 0 rfl ?_
    refine k_iconst (v := 1) X dX11_signsOf_k1.2.2.2.1 ic_1 ?_
    refine k_iadd X dX11_signsOf_k1.2.2.2.2 ?_
    refine k_nm (fun z_35 ez_35 => ?_)
    have i_36 : z_35.toInt = z_28.toInt + 1 := in_add ez_35 iv_30 iq_1_1_1 (zle_e rfl) (zle_e rfl)
    have iv_37 : IV z_35 138 153 := iz1 i_36 iv_30 (zle_e rfl) (zle_e rfl)
    refine k_iald X dX11_signsOf_k2.1.1.1.1 1 rfl (iv_in iv_37 (zle_e rfl) (zle_l rfl)) ?_
    refine k_nm (fun z_38 ez_38 => ?_)
    refine k_ic_ne 84 X dX11_signsOf_k2.1.1.1.2 (jp_e rfl) (fun h_39 => ?_) (fun h_39 => ?_)
    · skip
      refine k_iconst (v := 0) X dX11_signsOf_k3.1.2.2.2 ic_0 ?_
      refine k_ior X dX11_signsOf_k3.2.1.1 ?_
      refine k_nm (fun z_40 ez_40 => ?_)
      refine k_istore_n [(2, .int z_40), (4, .int z_28), (3, .int u_12), (0, .ref h0), (1, .int p0)] X dX11_signsOf_k3.2.1.2.1 (nlt_e rfl) rfl ?_
      obtain ⟨z_41, ez_41⟩ : ∃ y : Int32, u_12 + Int32.ofInt 1 = y := ⟨_, rfl⟩
      refine k_iinc z_41 [(3, .int z_41), (2, .int z_40), (4, .int z_28), (0, .ref h0), (1, .int p0)] 2 X dX11_signsOf_k3.2.1.2.2 rfl ez_41 (nlt_e rfl) rfl ?_
      have i_42 : z_41.toInt = u_12.toInt + 1 := in_inc ez_41 (oin_e rfl) iv_23 (zle_e rfl) (zle_e rfl)
      have iv_43 : IV z_41 1 6 := iz1 i_42 iv_23 (zle_e rfl) (zle_e rfl)
      refine k_goto 9 X dX11_signsOf_k3.2.2.1 (jp_e rfl) ?_
      refine k_lv [(3, .int z_41), (2, .int z_40), (0, .ref h0), (1, .int p0)] [0, 1, 3, 4] rfl ?_
      exact ih_16 _ (by omega) z_40 z_41 rfl (iv_w iv_43 (zle_e rfl) (zle_e rfl))
    · skip
      refine k_aload_n X dX11_signsOf_k2.1.1.2.1 3 rfl ?_
      refine k_get (ci := 11) X inlX11 rfl 28 (nlt_e rfl) dX11_signsOf_k2.1.1.2.2 mw181 0 rfl rfl ?_
      refine k_aload_n X dX11_signsOf_k2.1.2.1.1 3 rfl ?_
      refine k_get (ci := 11) X inlX11 rfl 15 (nlt_e rfl) dX11_signsOf_k2.1.2.1.2 mw170 0 rfl rfl ?_
      refine k_iload X dX11_signsOf_k2.1.2.2.1 0 rfl ?_
      refine k_iald X dX11_signsOf_k2.1.2.2.2 1 rfl (iv_in iv_30 (zle_e rfl) (zle_l rfl)) ?_
      refine k_to z_31 ez_31.symm ?_
      refine k_iald X dX11_signsOf_k2.2.1.1.1 9 rfl (iv_in iv_33 (zle_e rfl) (zle_l rfl)) ?_
      refine k_nm (fun z_44 ez_44 => ?_)
      refine k_aload_n X dX11_signsOf_k2.2.1.1.2 3 rfl ?_
      refine k_get (ci := 11) X inlX11 rfl 15 (nlt_e rfl) dX11_signsOf_k2.2.1.2.1 mw170 0 rfl rfl ?_
      refine k_iload X dX11_signsOf_k2.2.1.2.2 0 rfl ?_
      refine k_iconst (v := 2) X dX11_signsOf_k2.2.2.1.1 ic_2 ?_
      refine k_iadd X dX11_signsOf_k2.2.2.1.2 ?_
      refine k_nm (fun z_45 ez_45 => ?_)
      have i_46 : z_45.toInt = z_28.toInt + 2 := in_add ez_45 iv_30 iq_2_2_2 (zle_e rfl) (zle_e rfl)
      have iv_47 : IV z_45 139 154 := iz1 i_46 iv_30 (zle_e rfl) (zle_e rfl)
      refine k_iald X dX11_signsOf_k2.2.2.2.1 1 rfl (iv_in iv_47 (zle_e rfl) (zle_l rfl)) ?_
      refine k_nm (fun z_48 ez_48 => ?_)
      refine k_ic_ne 84 X dX11_signsOf_k2.2.2.2.2 (jp_e rfl) (fun h_49 => ?_) (fun h_49 => ?_)
      · skip
        refine k_iconst (v := 0) X dX11_signsOf_k3.1.2.2.2 ic_0 ?_
        refine k_ior X dX11_signsOf_k3.2.1.1 ?_
        refine k_nm (fun z_50 ez_50 => ?_)
        refine k_istore_n [(2, .int z_50), (4, .int z_28), (3, .int u_12), (0, .ref h0), (1, .int p0)] X dX11_signsOf_k3.2.1.2.1 (nlt_e rfl) rfl ?_
        obtain ⟨z_51, ez_51⟩ : ∃ y : Int32, u_12 + Int32.ofInt 1 = y := ⟨_, rfl⟩
        refine k_iinc z_51 [(3, .int z_51), (2, .int z_50), (4, .int z_28), (0, .ref h0), (1, .int p0)] 2 X dX11_signsOf_k3.2.1.2.2 rfl ez_51 (nlt_e rfl) rfl ?_
        have i_52 : z_51.toInt = u_12.toInt + 1 := in_inc ez_51 (oin_e rfl) iv_23 (zle_e rfl) (zle_e rfl)
        have iv_53 : IV z_51 1 6 := iz1 i_52 iv_23 (zle_e rfl) (zle_e rfl)
        refine k_goto 9 X dX11_signsOf_k3.2.2.1 (jp_e rfl) ?_
        refine k_lv [(3, .int z_51), (2, .int z_50), (0, .ref h0), (1, .int p0)] [0, 1, 3, 4] rfl ?_
        exact ih_16 _ (by omega) z_50 z_51 rfl (iv_w iv_53 (zle_e rfl) (zle_e rfl))
      · skip
        refine k_iconst (v := 1) X dX11_signsOf_k3.1.1.1 ic_1 ?_
        refine k_iload_n X dX11_signsOf_k3.1.1.2 1 rfl ?_
        refine k_ishl X dX11_signsOf_k3.1.2.1 ?_
        refine k_nm (fun z_54 ez_54 => ?_)
        have iv_55 : IV z_54 1 256 := iv_shl ez_54 (iv_w iv_23 (zle_e rfl) (zle_e rfl))
        refine k_goto 85 X dX11_signsOf_k3.1.2.2.1 (jp_e rfl) ?_
        refine k_ior X dX11_signsOf_k3.2.1.1 ?_
        refine k_nm (fun z_56 ez_56 => ?_)
        refine k_istore_n [(2, .int z_56), (4, .int z_28), (3, .int u_12), (0, .ref h0), (1, .int p0)] X dX11_signsOf_k3.2.1.2.1 (nlt_e rfl) rfl ?_
        obtain ⟨z_57, ez_57⟩ : ∃ y : Int32, u_12 + Int32.ofInt 1 = y := ⟨_, rfl⟩
        refine k_iinc z_57 [(3, .int z_57), (2, .int z_56), (4, .int z_28), (0, .ref h0), (1, .int p0)] 2 X dX11_signsOf_k3.2.1.2.2 rfl ez_57 (nlt_e rfl) rfl ?_
        have i_58 : z_57.toInt = u_12.toInt + 1 := in_inc ez_57 (oin_e rfl) iv_23 (zle_e rfl) (zle_e rfl)
        have iv_59 : IV z_57 1 6 := iz1 i_58 iv_23 (zle_e rfl) (zle_e rfl)
        refine k_goto 9 X dX11_signsOf_k3.2.2.1 (jp_e rfl) ?_
        refine k_lv [(3, .int z_57), (2, .int z_56), (0, .ref h0), (1, .int p0)] [0, 1, 3, 4] rfl ?_
        exact ih_16 _ (by omega) z_56 z_57 rfl (iv_w iv_59 (zle_e rfl) (zle_e rfl))

theorem dX11_signs_k0 : (((dD cX11_signs 0 (.aload_n 0) 1 ∧ (dD cX11_signs 1 (.invokevirtual 200) 3 ∧ dD cX11_signs 4 (.aload_n 0) 1)) ∧ ((dD cX11_signs 5 (.iload_n 1) 1 ∧ dD cX11_signs 6 (.invokevirtual 370) 3) ∧ (dD cX11_signs 9 (.ifCond .eq 11) 3 ∧ dD cX11_signs 12 (.aload_n 0) 1))) ∧ ((dD cX11_signs 13 (.iload_n 1) 1 ∧ (dD cX11_signs 14 (.invokevirtual 422) 3 ∧ dD cX11_signs 17 (.goto 8) 3)) ∧ ((dD cX11_signs 20 (.aload_n 0) 1 ∧ dD cX11_signs 21 (.iconst 1) 1) ∧ (dD cX11_signs 22 (.invokevirtual 203) 3 ∧ dD cX11_signs 25 .ireturn 1)))) := dkA14 (by decide +kernel)
set_option maxHeartbeats 4000000 in
set_option maxRecDepth 100000 in
theorem m_signs (l : Launch) (g : Gx) (h0 : Nat) (p0 : Int32) (m_thrown : Int32) (a_tape : Nat) (m_taped : Int32) (m_size : Int32) (m_at : Int32) (m_end : Int32) (m_token : Int32) (m_whole : Int32) (m_nameSize : Int32) (m_fault : Int32) (m_place : Int32) (m_trouble : Int32) (a_letters : Nat) (m_failed : Int32) (m_hasHouse : Int32) (a_r : Nat) (a_fresh : Nat) (a_st : Nat) (a_undone : Nat) (a_kept : Nat) (m_undos : Int32) (m_images : Int32) (a_from : Nat) (a_begin : Nat) (a_motor : Nat) (a_change : Nat) (a_startFrame : Nat) (a_changeFrame : Nat) (a_lostAt : Nat) (a_blackAt : Nat) (a_slips : Nat) (a_leftArc : Nat) (a_died : Nat) (a_arcs : Nat) (m_bestSum : Int32) (m_nearest : Int32) (m_nearestTown : Int32) (a_there : Nat) (a_backAt : Nat) (a_sorted : Nat) (a_parts : Nat) (m_seed1 : Int32) (m_darkNow : Int32) (d_r : Nat → Int32) (d_st : Nat → Int32) (d_from : Nat → Int32) (d_begin : Nat → Int32) (d_motor : Nat → Int32) (d_change : Nat → Int32) (d_startFrame : Nat → Int32) (d_changeFrame : Nat → Int32) (d_lostAt : Nat → Int32) (d_blackAt : Nat → Int32) (d_slips : Nat → Int32) (hv_m_hasHouse : IV m_hasHouse 0 1) (hp_d_r : RInv d_r) : cI l g yX11_signs cX11_signs 2 (some .int) 6 134 0 0 [.ref h0, .int p0] [(cO11_i1r1i10r1i2r5i2r12i3r4i2 h0 m_thrown a_tape m_taped m_size m_at m_end m_token m_whole m_nameSize m_fault m_place m_trouble a_letters m_failed m_hasHouse a_r a_fresh a_st a_undone a_kept m_undos m_images a_from a_begin a_motor a_change a_startFrame a_changeFrame a_lostAt a_blackAt a_slips a_leftArc a_died a_arcs m_bestSum m_nearest m_nearestTown a_there a_backAt a_sorted a_parts m_seed1 m_darkNow), (cAI g a_r 311 d_r), (cAI g a_st 44 d_st), (cAI g a_from 8 d_from), (cAI g a_begin 8 d_begin), (cAI g a_motor 8 d_motor), (cAI g a_change 8 d_change), (cAI g a_startFrame 8 d_startFrame), (cAI g a_changeFrame 8 d_changeFrame), (cAI g a_lostAt 8 d_lostAt), (cAI g a_blackAt 8 d_blackAt), (cAI g a_slips 8 d_slips)] (fun r w => ∃ (d_begin2 : Nat → Int32) (d_blackAt2 : Nat → Int32) (d_change2 : Nat → Int32) (d_changeFrame2 : Nat → Int32) (d_from2 : Nat → Int32) (d_lostAt2 : Nat → Int32) (d_motor2 : Nat → Int32) (d_slips2 : Nat → Int32) (d_startFrame2 : Nat → Int32) (m_thrown2 : Int32) (m_trouble2 : Int32), w = [(cO11_i1r1i10r1i2r5i2r12i3r4i2 h0 m_thrown2 a_tape m_taped m_size m_at m_end m_token m_whole m_nameSize m_fault m_place m_trouble2 a_letters m_failed m_hasHouse a_r a_fresh a_st a_undone a_kept m_undos m_images a_from a_begin a_motor a_change a_startFrame a_changeFrame a_lostAt a_blackAt a_slips a_leftArc a_died a_arcs m_bestSum m_nearest m_nearestTown a_there a_backAt a_sorted a_parts m_seed1 m_darkNow), (cAI g a_r 311 d_r), (cAI g a_st 44 d_st), (cAI g a_from 8 d_from2), (cAI g a_begin 8 d_begin2), (cAI g a_motor 8 d_motor2), (cAI g a_change 8 d_change2), (cAI g a_startFrame 8 d_startFrame2), (cAI g a_changeFrame 8 d_changeFrame2), (cAI g a_lostAt 8 d_lostAt2), (cAI g a_blackAt 8 d_blackAt2), (cAI g a_slips 8 d_slips2)]) := by
  refine cI.of (by decide) (Nat.le_of_ble_eq_true rfl) ?_
  intro p e s m args below meth c A X hr hi
  refine k_lveq [(0, .ref h0), (1, .int p0)] rfl ?_
  refine k_aload_n X dX11_signs_k0.1.1.1 0 rfl ?_
  refine k_callVV (n := 0) (As := []) (st := []) X [(cO11_i1r1i10r1i2r5i2r12i3r4i2 h0 m_thrown a_tape m_taped m_size m_at m_end m_token m_whole m_nameSize m_fault m_place m_trouble a_letters m_failed m_hasHouse a_r a_fresh a_st a_undone a_kept m_undos m_images a_from a_begin a_motor a_change a_startFrame a_changeFrame a_lostAt a_blackAt a_slips a_leftArc a_died a_arcs m_bestSum m_nearest m_nearestTown a_there a_backAt a_sorted a_parts m_seed1 m_darkNow)] [(cAI g a_r 311 d_r), (cAI g a_st 44 d_st), (cAI g a_from 8 d_from), (cAI g a_begin 8 d_begin), (cAI g a_motor 8 d_motor), (cAI g a_change 8 d_change), (cAI g a_startFrame 8 d_startFrame), (cAI g a_changeFrame 8 d_changeFrame), (cAI g a_lostAt 8 d_lostAt), (cAI g a_blackAt 8 d_blackAt), (cAI g a_slips 8 d_slips)] [0] [1, 2, 3, 4, 5, 6, 7, 8, 9, 10, 11] (m_good l g h0 m_thrown a_tape m_taped m_size m_at m_end m_token m_whole m_nameSize m_fault m_place m_trouble a_letters m_failed m_hasHouse a_r a_fresh a_st a_undone a_kept m_undos m_images a_from a_begin a_motor a_change a_startFrame a_changeFrame a_lostAt a_blackAt a_slips a_leftArc a_died a_arcs m_bestSum m_nearest m_nearestTown a_there a_backAt a_sorted a_parts m_seed1 m_darkNow) dX11_signs_k0.1.1.2.1 mw477 mw478 mw479 mw5 mw480 rfl 11 rfl rfl 0 _ rfl yk_yX11_good_0 rfl (Nat.le_of_ble_eq_true rfl) (Nat.le_of_ble_eq_true rfl) (Nat.le_of_ble_eq_true rfl) (Nat.le_of_ble_eq_true rfl) (Nat.le_of_ble_eq_true rfl) rfl rfl (by decide +kernel) rfl (by decide +kernel) (by decide +kernel) ?_
  rintro w ⟨m_thrown2_1, m_trouble2_2, rfl⟩
  refine k_ws [(cAI g a_r 311 d_r), (cAI g a_st 44 d_st), (cAI g a_from 8 d_from), (cAI g a_begin 8 d_begin), (cAI g a_motor 8 d_motor), (cAI g a_change 8 d_change), (cAI g a_startFrame 8 d_startFrame), (cAI g a_changeFrame 8 d_changeFrame), (cAI g a_lostAt 8 d_lostAt), (cAI g a_blackAt 8 d_blackAt), (cAI g a_slips 8 d_slips), (cO11_i1r1i10r1i2r5i2r12i3r4i2 h0 m_thrown2_1 a_tape m_taped m_size m_at m_end m_token m_whole m_nameSize m_fault m_place m_trouble2_2 a_letters m_failed m_hasHouse a_r a_fresh a_st a_undone a_kept m_undos m_images a_from a_begin a_motor a_change a_startFrame a_changeFrame a_lostAt a_blackAt a_slips a_leftArc a_died a_arcs m_bestSum m_nearest m_nearestTown a_there a_backAt a_sorted a_parts m_seed1 m_darkNow)] rfl ?_
  refine k_aload_n X dX11_signs_k0.1.1.2.2 0 rfl ?_
  refine k_iload_n X dX11_signs_k0.1.2.1.1 1 rfl ?_
  refine k_callVI (n := 1) (As := [.int p0]) (st := []) X [(cO11_i1r1i10r1i2r5i2r12i3r4i2 h0 m_thrown2_1 a_tape m_taped m_size m_at m_end m_token m_whole m_nameSize m_fault m_place m_trouble2_2 a_letters m_failed m_hasHouse a_r a_fresh a_st a_undone a_kept m_undos m_images a_from a_begin a_motor a_change a_startFrame a_changeFrame a_lostAt a_blackAt a_slips a_leftArc a_died a_arcs m_bestSum m_nearest m_nearestTown a_there a_backAt a_sorted a_parts m_seed1 m_darkNow), (cAI g a_r 311 d_r)] [(cAI g a_st 44 d_st), (cAI g a_from 8 d_from), (cAI g a_begin 8 d_begin), (cAI g a_motor 8 d_motor), (cAI g a_change 8 d_change), (cAI g a_startFrame 8 d_startFrame), (cAI g a_changeFrame 8 d_changeFrame), (cAI g a_lostAt 8 d_lostAt), (cAI g a_blackAt 8 d_blackAt), (cAI g a_slips 8 d_slips)] [11, 0] [1, 2, 3, 4, 5, 6, 7, 8, 9, 10] (m_isMan l g h0 p0 m_thrown2_1 a_tape m_taped m_size m_at m_end m_token m_whole m_nameSize m_fault m_place m_trouble2_2 a_letters m_failed m_hasHouse a_r a_fresh a_st a_undone a_kept m_undos m_images a_from a_begin a_motor a_change a_startFrame a_changeFrame a_lostAt a_blackAt a_slips a_leftArc a_died a_arcs m_bestSum m_nearest m_nearestTown a_there a_backAt a_sorted a_parts m_seed1 m_darkNow d_r (iv_w hv_m_hasHouse (zle_e rfl) (zle_e rfl)) hp_d_r) dX11_signs_k0.1.2.1.2 mw811 mw812 mw813 mw5 mw814 rfl 11 rfl rfl 0 _ rfl yk_yX11_isMan_1 rfl (Nat.le_of_ble_eq_true rfl) (Nat.le_of_ble_eq_true rfl) (Nat.le_of_ble_eq_true rfl) (Nat.le_of_ble_eq_true rfl) (Nat.le_of_ble_eq_true rfl) rfl rfl (by decide +kernel) rfl (by decide +kernel) (by decide +kernel) ?_
  rintro r_4 w ⟨iv_5, hk_6, rfl⟩
  refine k_ws [(cAI g a_st 44 d_st), (cAI g a_from 8 d_from), (cAI g a_begin 8 d_begin), (cAI g a_motor 8 d_motor), (cAI g a_change 8 d_change), (cAI g a_startFrame 8 d_startFrame), (cAI g a_changeFrame 8 d_changeFrame), (cAI g a_lostAt 8 d_lostAt), (cAI g a_blackAt 8 d_blackAt), (cAI g a_slips 8 d_slips), (cO11_i1r1i10r1i2r5i2r12i3r4i2 h0 m_thrown2_1 a_tape m_taped m_size m_at m_end m_token m_whole m_nameSize m_fault m_place m_trouble2_2 a_letters m_failed m_hasHouse a_r a_fresh a_st a_undone a_kept m_undos m_images a_from a_begin a_motor a_change a_startFrame a_changeFrame a_lostAt a_blackAt a_slips a_leftArc a_died a_arcs m_bestSum m_nearest m_nearestTown a_there a_backAt a_sorted a_parts m_seed1 m_darkNow), (cAI g a_r 311 d_r)] rfl ?_
  refine k_if_eq 20 X dX11_signs_k0.1.2.2.1 (jp_e rfl) (fun h_7 => ?_) (fun h_7 => ?_)
  · skip
    have iv_8 : IV r_4 0 0 := iv_meet iv_5 (iv_e h_7 iq_0_0_0) (zle_o rfl) (zle_o rfl)
    refine k_aload_n X dX11_signs_k0.2.2.1.1 0 rfl ?_
    refine k_iconst (v := 1) X dX11_signs_k0.2.2.1.2 ic_1 ?_
    refine k_callVI (n := 1) (As := [.int 1]) (st := []) X [(cO11_i1r1i10r1i2r5i2r12i3r4i2 h0 m_thrown2_1 a_tape m_taped m_size m_at m_end m_token m_whole m_nameSize m_fault m_place m_trouble2_2 a_letters m_failed m_hasHouse a_r a_fresh a_st a_undone a_kept m_undos m_images a_from a_begin a_motor a_change a_startFrame a_changeFrame a_lostAt a_blackAt a_slips a_leftArc a_died a_arcs m_bestSum m_nearest m_nearestTown a_there a_backAt a_sorted a_parts m_seed1 m_darkNow)] [(cAI g a_st 44 d_st), (cAI g a_from 8 d_from), (cAI g a_begin 8 d_begin), (cAI g a_motor 8 d_motor), (cAI g a_change 8 d_change), (cAI g a_startFrame 8 d_startFrame), (cAI g a_changeFrame 8 d_changeFrame), (cAI g a_lostAt 8 d_lostAt), (cAI g a_blackAt 8 d_blackAt), (cAI g a_slips 8 d_slips), (cAI g a_r 311 d_r)] [10] [0, 1, 2, 3, 4, 5, 6, 7, 8, 9, 11] (m_no l g h0 1 m_thrown2_1 a_tape m_taped m_size m_at m_end m_token m_whole m_nameSize m_fault m_place m_trouble2_2 a_letters m_failed m_hasHouse a_r a_fresh a_st a_undone a_kept m_undos m_images a_from a_begin a_motor a_change a_startFrame a_changeFrame a_lostAt a_blackAt a_slips a_leftArc a_died a_arcs m_bestSum m_nearest m_nearestTown a_there a_backAt a_sorted a_parts m_seed1 m_darkNow) dX11_signs_k0.2.2.2.1 mw485 mw486 mw487 mw5 mw488 rfl 11 rfl rfl 0 _ rfl yk_yX11_no_1 rfl (Nat.le_of_ble_eq_true rfl) (Nat.le_of_ble_eq_true rfl) (Nat.le_of_ble_eq_true rfl) (Nat.le_of_ble_eq_true rfl) (Nat.le_of_ble_eq_true rfl) rfl rfl (by decide +kernel) rfl (by decide +kernel) (by decide +kernel) ?_
    rintro r_10 w ⟨m_trouble2_9, iv_11, rfl⟩
    refine k_ws [(cAI g a_st 44 d_st), (cAI g a_from 8 d_from), (cAI g a_begin 8 d_begin), (cAI g a_motor 8 d_motor), (cAI g a_change 8 d_change), (cAI g a_startFrame 8 d_startFrame), (cAI g a_changeFrame 8 d_changeFrame), (cAI g a_lostAt 8 d_lostAt), (cAI g a_blackAt 8 d_blackAt), (cAI g a_slips 8 d_slips), (cAI g a_r 311 d_r), (cO11_i1r1i10r1i2r5i2r12i3r4i2 h0 m_thrown2_1 a_tape m_taped m_size m_at m_end m_token m_whole m_nameSize m_fault m_place m_trouble2_9 a_letters m_failed m_hasHouse a_r a_fresh a_st a_undone a_kept m_undos m_images a_from a_begin a_motor a_change a_startFrame a_changeFrame a_lostAt a_blackAt a_slips a_leftArc a_died a_arcs m_bestSum m_nearest m_nearestTown a_there a_backAt a_sorted a_parts m_seed1 m_darkNow)] rfl ?_
    exact k_iret X hr dX11_signs_k0.2.2.2.2 (Nat.le_of_ble_eq_true rfl) (Nat.le_of_ble_eq_true rfl) [11, 10, 0, 1, 2, 3, 4, 5, 6, 7, 8, 9] (vnd_e rfl) rfl rfl (exI11 d_begin d_blackAt d_change d_changeFrame d_from d_lostAt d_motor d_slips d_startFrame m_thrown2_1 m_trouble2_9 rfl)
  · skip
    have hc_12 := hk_6.resolve_left h_7
    have iv_13 : IV p0 0 3 := iv_meet (iv_any p0) hc_12 (zle_o rfl) (zle_o rfl)
    have iv_14 : IV r_4 1 1 := iv_neL h_7 iv_5 iq_0_0_0 (zle_e rfl)
    refine k_aload_n X dX11_signs_k0.1.2.2.2 0 rfl ?_
    refine k_iload_n X dX11_signs_k0.2.1.1 1 rfl ?_
    refine k_callVI (n := 1) (As := [.int p0]) (st := []) X [(cO11_i1r1i10r1i2r5i2r12i3r4i2 h0 m_thrown2_1 a_tape m_taped m_size m_at m_end m_token m_whole m_nameSize m_fault m_place m_trouble2_2 a_letters m_failed m_hasHouse a_r a_fresh a_st a_undone a_kept m_undos m_images a_from a_begin a_motor a_change a_startFrame a_changeFrame a_lostAt a_blackAt a_slips a_leftArc a_died a_arcs m_bestSum m_nearest m_nearestTown a_there a_backAt a_sorted a_parts m_seed1 m_darkNow), (cAI g a_r 311 d_r), (cAI g a_st 44 d_st), (cAI g a_from 8 d_from), (cAI g a_begin 8 d_begin), (cAI g a_motor 8 d_motor), (cAI g a_change 8 d_change), (cAI g a_startFrame 8 d_startFrame), (cAI g a_changeFrame 8 d_changeFrame), (cAI g a_lostAt 8 d_lostAt), (cAI g a_blackAt 8 d_blackAt), (cAI g a_slips 8 d_slips)] [] [10, 11, 0, 1, 2, 3, 4, 5, 6, 7, 8, 9] [] (m_signsOf l g h0 p0 m_thrown2_1 a_tape m_taped m_size m_at m_end m_token m_whole m_nameSize m_fault m_place m_trouble2_2 a_letters m_failed m_hasHouse a_r a_fresh a_st a_undone a_kept m_undos m_images a_from a_begin a_motor a_change a_startFrame a_changeFrame a_lostAt a_blackAt a_slips a_leftArc a_died a_arcs m_bestSum m_nearest m_nearestTown a_there a_backAt a_sorted a_parts m_seed1 m_darkNow d_r d_st d_from d_begin d_motor d_change d_startFrame d_changeFrame d_lostAt d_blackAt d_slips (iv_w iv_13 (zle_e rfl) (zle_e rfl)) hp_d_r) dX11_signs_k0.2.1.2.1 mw962 mw963 mw964 mw5 mw965 rfl 11 rfl rfl 0 _ rfl yk_yX11_signsOf_1 rfl (Nat.le_of_ble_eq_true rfl) (Nat.le_of_ble_eq_true rfl) (Nat.le_of_ble_eq_true rfl) (Nat.le_of_ble_eq_true rfl) (Nat.le_of_ble_eq_true rfl) rfl rfl (by decide +kernel) rfl (by decide +kernel) (by decide +kernel) ?_
    rintro r_24 w ⟨d_begin2_15, d_blackAt2_16, d_change2_17, d_changeFrame2_18, d_from2_19, d_lostAt2_20, d_motor2_21, d_slips2_22, d_startFrame2_23, rfl⟩
    refine k_ws [(cO11_i1r1i10r1i2r5i2r12i3r4i2 h0 m_thrown2_1 a_tape m_taped m_size m_at m_end m_token m_whole m_nameSize m_fault m_place m_trouble2_2 a_letters m_failed m_hasHouse a_r a_fresh a_st a_undone a_kept m_undos m_images a_from a_begin a_motor a_change a_startFrame a_changeFrame a_lostAt a_blackAt a_slips a_leftArc a_died a_arcs m_bestSum m_nearest m_nearestTown a_there a_backAt a_sorted a_parts m_seed1 m_darkNow), (cAI g a_r 311 d_r), (cAI g a_st 44 d_st), (cAI g a_from 8 d_from2_19), (cAI g a_begin 8 d_begin2_15), (cAI g a_motor 8 d_motor2_21), (cAI g a_change 8 d_change2_17), (cAI g a_startFrame 8 d_startFrame2_23), (cAI g a_changeFrame 8 d_changeFrame2_18), (cAI g a_lostAt 8 d_lostAt2_20), (cAI g a_blackAt 8 d_blackAt2_16), (cAI g a_slips 8 d_slips2_22)] rfl ?_
    refine k_goto 25 X dX11_signs_k0.2.1.2.2 (jp_e rfl) ?_
    exact k_iret X hr dX11_signs_k0.2.2.2.2 (Nat.le_of_ble_eq_true rfl) (Nat.le_of_ble_eq_true rfl) [0, 1, 2, 3, 4, 5, 6, 7, 8, 9, 10, 11] (vnd_e rfl) rfl rfl (exI11 d_begin2_15 d_blackAt2_16 d_change2_17 d_changeFrame2_18 d_from2_19 d_lostAt2_20 d_motor2_21 d_slips2_22 d_startFrame2_23 m_thrown2_1 m_trouble2_2 rfl)

theorem dX11_fits_k0 : ((((dD cX11_fits 0 (.aload_n 0) 1 ∧ dD cX11_fits 1 (.invokevirtual 200) 3) ∧ (dD cX11_fits 4 (.aload_n 0) 1 ∧ dD cX11_fits 5 (.getfield 213) 3)) ∧ ((dD cX11_fits 8 (.ifCond .ne 9) 3 ∧ dD cX11_fits 11 (.aload_n 0) 1) ∧ (dD cX11_fits 12 (.iconst 1) 1 ∧ dD cX11_fits 13 (.invokevirtual 203) 3))) ∧ (((dD cX11_fits 16 .ireturn 1 ∧ dD cX11_fits 17 (.iconst 0) 1) ∧ (dD cX11_fits 18 (.istore_n 1) 1 ∧ dD cX11_fits 19 (.iconst 0) 1)) ∧ ((dD cX11_fits 20 (.istore_n 2) 1 ∧ dD cX11_fits 21 (.iload_n 2) 1) ∧ (dD cX11_fits 22 (.aload_n 0) 1 ∧ dD cX11_fits 23 (.getfield 20) 3)))) := dkA16 (by decide +kernel)
theorem dX11_fits_k1 : ((((dD cX11_fits 26 (.bipush 11) 2 ∧ dD cX11_fits 28 .iaload 1) ∧ (dD cX11_fits 29 (.if_icmp .ge 38) 3 ∧ dD cX11_fits 32 (.iload_n 1) 1)) ∧ ((dD cX11_fits 33 (.aload_n 0) 1 ∧ dD cX11_fits 34 (.iload_n 2) 1) ∧ (dD cX11_fits 35 (.invokevirtual 422) 3 ∧ dD cX11_fits 38 (.iconst 1) 1))) ∧ (((dD cX11_fits 39 (.aload_n 0) 1 ∧ dD cX11_fits 40 (.getfield 20) 3) ∧ (dD cX11_fits 43 (.bipush 13) 2 ∧ dD cX11_fits 45 .iaload 1)) ∧ ((dD cX11_fits 46 .ishl 1 ∧ dD cX11_fits 47 (.iconst 1) 1) ∧ (dD cX11_fits 48 .isub 1 ∧ dD cX11_fits 49 (.if_icmp .ne 9) 3)))) := dkA16 (by decide +kernel)
theorem dX11_fits_k2 : (((dD cX11_fits 52 (.iconst 1) 1 ∧ dD cX11_fits 53 (.iload_n 2) 1) ∧ (dD cX11_fits 54 .ishl 1 ∧ (dD cX11_fits 55 (.goto 4) 3 ∧ dD cX11_fits 58 (.iconst 0) 1))) ∧ ((dD cX11_fits 59 .ior 1 ∧ (dD cX11_fits 60 (.istore_n 1) 1 ∧ dD cX11_fits 61 (.iinc 2 1) 3)) ∧ (dD cX11_fits 64 (.goto (-43)) 3 ∧ (dD cX11_fits 67 (.iload_n 1) 1 ∧ dD cX11_fits 68 .ireturn 1)))) := dkA11 (by decide +kernel)
set_option maxHeartbeats 4000000 in
set_option maxRecDepth 100000 in
theorem m_fits (l : Launch) (g : Gx) (h0 : Nat) (m_thrown : Int32) (a_tape : Nat) (m_taped : Int32) (m_size : Int32) (m_at : Int32) (m_end : Int32) (m_token : Int32) (m_whole : Int32) (m_nameSize : Int32) (m_fault : Int32) (m_place : Int32) (m_trouble : Int32) (a_letters : Nat) (m_failed : Int32) (m_hasHouse : Int32) (a_r : Nat) (a_fresh : Nat) (a_st : Nat) (a_undone : Nat) (a_kept : Nat) (m_undos : Int32) (m_images : Int32) (a_from : Nat) (a_begin : Nat) (a_motor : Nat) (a_change : Nat) (a_startFrame : Nat) (a_changeFrame : Nat) (a_lostAt : Nat) (a_blackAt : Nat) (a_slips : Nat) (a_leftArc : Nat) (a_died : Nat) (a_arcs : Nat) (m_bestSum : Int32) (m_nearest : Int32) (m_nearestTown : Int32) (a_there : Nat) (a_backAt : Nat) (a_sorted : Nat) (a_parts : Nat) (m_seed1 : Int32) (m_darkNow : Int32) (d_r : Nat → Int32) (d_st : Nat → Int32) (d_from : Nat → Int32) (d_begin : Nat → Int32) (d_motor : Nat → Int32) (d_change : Nat → Int32) (d_startFrame : Nat → Int32) (d_changeFrame : Nat → Int32) (d_lostAt : Nat → Int32) (d_blackAt : Nat → Int32) (d_slips : Nat → Int32) (hv_m_hasHouse : IV m_hasHouse 0 1) (hp_d_r : RInv d_r) : cI l g yX11_fits cX11_fits 3 (some .int) 6 134 0 0 [.ref h0] [(cO11_i1r1i10r1i2r5i2r12i3r4i2 h0 m_thrown a_tape m_taped m_size m_at m_end m_token m_whole m_nameSize m_fault m_place m_trouble a_letters m_failed m_hasHouse a_r a_fresh a_st a_undone a_kept m_undos m_images a_from a_begin a_motor a_change a_startFrame a_changeFrame a_lostAt a_blackAt a_slips a_leftArc a_died a_arcs m_bestSum m_nearest m_nearestTown a_there a_backAt a_sorted a_parts m_seed1 m_darkNow), (cAI g a_r 311 d_r), (cAI g a_st 44 d_st), (cAI g a_from 8 d_from), (cAI g a_begin 8 d_begin), (cAI g a_motor 8 d_motor), (cAI g a_change 8 d_change), (cAI g a_startFrame 8 d_startFrame), (cAI g a_changeFrame 8 d_changeFrame), (cAI g a_lostAt 8 d_lostAt), (cAI g a_blackAt 8 d_blackAt), (cAI g a_slips 8 d_slips)] (fun r w => ∃ (d_begin2 : Nat → Int32) (d_blackAt2 : Nat → Int32) (d_change2 : Nat → Int32) (d_changeFrame2 : Nat → Int32) (d_from2 : Nat → Int32) (d_lostAt2 : Nat → Int32) (d_motor2 : Nat → Int32) (d_slips2 : Nat → Int32) (d_startFrame2 : Nat → Int32) (m_thrown2 : Int32) (m_trouble2 : Int32), w = [(cO11_i1r1i10r1i2r5i2r12i3r4i2 h0 m_thrown2 a_tape m_taped m_size m_at m_end m_token m_whole m_nameSize m_fault m_place m_trouble2 a_letters m_failed m_hasHouse a_r a_fresh a_st a_undone a_kept m_undos m_images a_from a_begin a_motor a_change a_startFrame a_changeFrame a_lostAt a_blackAt a_slips a_leftArc a_died a_arcs m_bestSum m_nearest m_nearestTown a_there a_backAt a_sorted a_parts m_seed1 m_darkNow), (cAI g a_r 311 d_r), (cAI g a_st 44 d_st), (cAI g a_from 8 d_from2), (cAI g a_begin 8 d_begin2), (cAI g a_motor 8 d_motor2), (cAI g a_change 8 d_change2), (cAI g a_startFrame 8 d_startFrame2), (cAI g a_changeFrame 8 d_changeFrame2), (cAI g a_lostAt 8 d_lostAt2), (cAI g a_blackAt 8 d_blackAt2), (cAI g a_slips 8 d_slips2)]) := by
  refine cI.of (by decide) (Nat.le_of_ble_eq_true rfl) ?_
  intro p e s m args below meth c A X hr hi
  refine k_lveq [(0, .ref h0)] rfl ?_
  refine k_aload_n X dX11_fits_k0.1.1.1.1 0 rfl ?_
  refine k_callVV (n := 0) (As := []) (st := []) X [(cO11_i1r1i10r1i2r5i2r12i3r4i2 h0 m_thrown a_tape m_taped m_size m_at m_end m_token m_whole m_nameSize m_fault m_place m_trouble a_letters m_failed m_hasHouse a_r a_fresh a_st a_undone a_kept m_undos m_images a_from a_begin a_motor a_change a_startFrame a_changeFrame a_lostAt a_blackAt a_slips a_leftArc a_died a_arcs m_bestSum m_nearest m_nearestTown a_there a_backAt a_sorted a_parts m_seed1 m_darkNow)] [(cAI g a_r 311 d_r), (cAI g a_st 44 d_st), (cAI g a_from 8 d_from), (cAI g a_begin 8 d_begin), (cAI g a_motor 8 d_motor), (cAI g a_change 8 d_change), (cAI g a_startFrame 8 d_startFrame), (cAI g a_changeFrame 8 d_changeFrame), (cAI g a_lostAt 8 d_lostAt), (cAI g a_blackAt 8 d_blackAt), (cAI g a_slips 8 d_slips)] [0] [1, 2, 3, 4, 5, 6, 7, 8, 9, 10, 11] (m_good l g h0 m_thrown a_tape m_taped m_size m_at m_end m_token m_whole m_nameSize m_fault m_place m_trouble a_letters m_failed m_hasHouse a_r a_fresh a_st a_undone a_kept m_undos m_images a_from a_begin a_motor a_change a_startFrame a_changeFrame a_lostAt a_blackAt a_slips a_leftArc a_died a_arcs m_bestSum m_nearest m_nearestTown a_there a_backAt a_sorted a_parts m_seed1 m_darkNow) dX11_fits_k0.1.1.1.2 mw477 mw478 mw479 mw5 mw480 rfl 11 rfl rfl 0 _ rfl yk_yX11_good_0 rfl (Nat.le_of_ble_eq_true rfl) (Nat.le_of_ble_eq_true rfl) (Nat.le_of_ble_eq_true rfl) (Nat.le_of_ble_eq_true rfl) (Nat.le_of_ble_eq_true rfl) rfl rfl (by decide +kernel) rfl (by decide +kernel) (by decide +kernel) ?_
  rintro w ⟨m_thrown2_1, m_trouble2_2, rfl⟩
  refine k_ws [(cAI g a_r 311 d_r), (cAI g a_st 44 d_st), (cAI g a_from 8 d_from), (cAI g a_begin 8 d_begin), (cAI g a_motor 8 d_motor), (cAI g a_change 8 d_change), (cAI g a_startFrame 8 d_startFrame), (cAI g a_changeFrame 8 d_changeFrame), (cAI g a_lostAt 8 d_lostAt), (cAI g a_blackAt 8 d_blackAt), (cAI g a_slips 8 d_slips), (cO11_i1r1i10r1i2r5i2r12i3r4i2 h0 m_thrown2_1 a_tape m_taped m_size m_at m_end m_token m_whole m_nameSize m_fault m_place m_trouble2_2 a_letters m_failed m_hasHouse a_r a_fresh a_st a_undone a_kept m_undos m_images a_from a_begin a_motor a_change a_startFrame a_changeFrame a_lostAt a_blackAt a_slips a_leftArc a_died a_arcs m_bestSum m_nearest m_nearestTown a_there a_backAt a_sorted a_parts m_seed1 m_darkNow)] rfl ?_
  refine k_aload_n X dX11_fits_k0.1.1.2.1 0 rfl ?_
  refine k_get (ci := 11) X inlX11 rfl 14 (nlt_e rfl) dX11_fits_k0.1.1.2.2 mw474 11 rfl rfl ?_
  refine k_if_ne 17 X dX11_fits_k0.1.2.1.1 (jp_e rfl) (fun h_4 => ?_) (fun h_4 => ?_)
  · skip
    have iv_5 : IV m_hasHouse 1 1 := iv_neL h_4 hv_m_hasHouse iq_0_0_0 (zle_e rfl)
    refine k_iconst (v := 0) X dX11_fits_k0.2.1.1.2 ic_0 ?_
    refine k_istore_n [(1, .int 0), (0, .ref h0)] X dX11_fits_k0.2.1.2.1 (nlt_e rfl) rfl ?_
    refine k_iconst (v := 0) X dX11_fits_k0.2.1.2.2 ic_0 ?_
    refine k_istore_n [(2, .int 0), (1, .int 0), (0, .ref h0)] X dX11_fits_k0.2.2.1.1 (nlt_e rfl) rfl ?_
    refine (fun hL : ∀ (nn_18 : Nat) (uf_6 : Nat → Int32) (uf_7 : Nat → Int32) (uf_8 : Nat → Int32) (uf_9 : Nat → Int32) (uf_10 : Nat → Int32) (uf_11 : Nat → Int32) (uf_12 : Nat → Int32) (uf_13 : Nat → Int32) (uf_14 : Nat → Int32) (u_15 : Int32) (u_16 : Int32), (2147483647 - u_16.toInt).toNat = nn_18 → (IV u_16 0 8) → Wk p l e _ s m args below meth c _ A g _ _ _ [(cAI g a_r 311 d_r), (cAI g a_st 44 d_st), (cAI g a_from 8 uf_10), (cAI g a_begin 8 uf_6), (cAI g a_motor 8 uf_12), (cAI g a_change 8 uf_8), (cAI g a_startFrame 8 uf_14), (cAI g a_changeFrame 8 uf_9), (cAI g a_lostAt 8 uf_11), (cAI g a_blackAt 8 uf_7), (cAI g a_slips 8 uf_13), (cO11_i1r1i10r1i2r5i2r12i3r4i2 h0 m_thrown2_1 a_tape m_taped m_size m_at m_end m_token m_whole m_nameSize m_fault m_place m_trouble2_2 a_letters m_failed m_hasHouse a_r a_fresh a_st a_undone a_kept m_undos m_images a_from a_begin a_motor a_change a_startFrame a_changeFrame a_lostAt a_blackAt a_slips a_leftArc a_died a_arcs m_bestSum m_nearest m_nearestTown a_there a_backAt a_sorted a_parts m_seed1 m_darkNow)] [(2, .int u_16), (1, .int u_15), (0, .ref h0)] 21 [] => hL _ d_begin d_blackAt d_change d_changeFrame d_from d_lostAt d_motor d_slips d_startFrame 0 0 rfl (iv_w iq_0_0_0 (zle_e rfl) (zle_e rfl))) ?_
    refine fun nn_18 => Nat.strongRecOn nn_18 (fun nn_18 ih_20 => ?_)
    intro uf_6 uf_7 uf_8 uf_9 uf_10 uf_11 uf_12 uf_13 uf_14 u_15 u_16 hm_19 hv_17
    refine k_iload_n X dX11_fits_k0.2.2.1.2 0 rfl ?_
    refine k_aload_n X dX11_fits_k0.2.2.2.1 2 rfl ?_
    refine k_get (ci := 11) X inlX11 rfl 15 (nlt_e rfl) dX11_fits_k0.2.2.2.2 mw170 11 rfl rfl ?_
    refine k_bipush (v := 11) X dX11_fits_k1.1.1.1.1 bi_11 ?_
    refine k_iald X dX11_fits_k1.1.1.1.2 0 rfl (by unfold vp_in; decide) ?_
    refine k_nm (fun z_21 ez_21 => ?_)
    have i_22 : z_21.toInt = (d_r 11).toInt := by rw [ez_21]; rfl
    have iv_23 : IV z_21 0 4 := rb_11 ez_21 hp_d_r
    refine k_ic_ge 67 X dX11_fits_k1.1.1.2.1 (jp_e rfl) (fun h_24 => ?_) (fun h_24 => ?_)
    · skip
      have j_25 : z_21.toInt ≤ u_16.toInt := iv_le h_24
      refine k_iload_n X dX11_fits_k2.2.2.2.1 1 rfl ?_
      exact k_iret X hr dX11_fits_k2.2.2.2.2 (Nat.le_of_ble_eq_true rfl) (Nat.le_of_ble_eq_true rfl) [11, 0, 1, 2, 3, 4, 5, 6, 7, 8, 9, 10] (vnd_e rfl) rfl rfl (exI11 uf_6 uf_7 uf_8 uf_9 uf_10 uf_11 uf_12 uf_13 uf_14 m_thrown2_1 m_trouble2_2 rfl)
    · skip
      have j_26 : u_16.toInt < z_21.toInt := iv_nle h_24
      have iv_27 : IV u_16 0 3 := iv_ltL (iv_nle h_24) hv_17 iv_23 (zle_e rfl)
      have iv_28 : IV z_21 1 4 := iv_ltR (iv_nle h_24) hv_17 iv_23 (zle_e rfl)
      refine k_iload_n X dX11_fits_k1.1.1.2.2 1 rfl ?_
      refine k_aload_n X dX11_fits_k1.1.2.1.1 2 rfl ?_
      refine k_iload_n X dX11_fits_k1.1.2.1.2 0 rfl ?_
      refine k_callVI (n := 1) (As := [.int u_16]) (st := [.int u_15]) X [(cO11_i1r1i10r1i2r5i2r12i3r4i2 h0 m_thrown2_1 a_tape m_taped m_size m_at m_end m_token m_whole m_nameSize m_fault m_place m_trouble2_2 a_letters m_failed m_hasHouse a_r a_fresh a_st a_undone a_kept m_undos m_images a_from a_begin a_motor a_change a_startFrame a_changeFrame a_lostAt a_blackAt a_slips a_leftArc a_died a_arcs m_bestSum m_nearest m_nearestTown a_there a_backAt a_sorted a_parts m_seed1 m_darkNow), (cAI g a_r 311 d_r), (cAI g a_st 44 d_st), (cAI g a_from 8 uf_10), (cAI g a_begin 8 uf_6), (cAI g a_motor 8 uf_12), (cAI g a_change 8 uf_8), (cAI g a_startFrame 8 uf_14), (cAI g a_changeFrame 8 uf_9), (cAI g a_lostAt 8 uf_11), (cAI g a_blackAt 8 uf_7), (cAI g a_slips 8 uf_13)] [] [11, 0, 1, 2, 3, 4, 5, 6, 7, 8, 9, 10] [] (m_signsOf l g h0 u_16 m_thrown2_1 a_tape m_taped m_size m_at m_end m_token m_whole m_nameSize m_fault m_place m_trouble2_2 a_letters m_failed m_hasHouse a_r a_fresh a_st a_undone a_kept m_undos m_images a_from a_begin a_motor a_change a_startFrame a_changeFrame a_lostAt a_blackAt a_slips a_leftArc a_died a_arcs m_bestSum m_nearest m_nearestTown a_there a_backAt a_sorted a_parts m_seed1 m_darkNow d_r d_st uf_10 uf_6 uf_12 uf_8 uf_14 uf_9 uf_11 uf_7 uf_13 (iv_w iv_27 (zle_e rfl) (zle_e rfl)) hp_d_r) dX11_fits_k1.1.2.2.1 mw962 mw963 mw964 mw5 mw965 rfl 11 rfl rfl 0 _ rfl yk_yX11_signsOf_1 rfl (Nat.le_of_ble_eq_true rfl) (Nat.le_of_ble_eq_true rfl) (Nat.le_of_ble_eq_true rfl) (Nat.le_of_ble_eq_true rfl) (Nat.le_of_ble_eq_true rfl) rfl rfl (by decide +kernel) rfl (by decide +kernel) (by decide +kernel) ?_
      rintro r_38 w ⟨d_begin2_29, d_blackAt2_30, d_change2_31, d_changeFrame2_32, d_from2_33, d_lostAt2_34, d_motor2_35, d_slips2_36, d_startFrame2_37, rfl⟩
      refine k_ws [(cO11_i1r1i10r1i2r5i2r12i3r4i2 h0 m_thrown2_1 a_tape m_taped m_size m_at m_end m_token m_whole m_nameSize m_fault m_place m_trouble2_2 a_letters m_failed m_hasHouse a_r a_fresh a_st a_undone a_kept m_undos m_images a_from a_begin a_motor a_change a_startFrame a_changeFrame a_lostAt a_blackAt a_slips a_leftArc a_died a_arcs m_bestSum m_nearest m_nearestTown a_there a_backAt a_sorted a_parts m_seed1 m_darkNow), (cAI g a_r 311 d_r), (cAI g a_st 44 d_st), (cAI g a_from 8 d_from2_33), (cAI g a_begin 8 d_begin2_29), (cAI g a_motor 8 d_motor2_35), (cAI g a_change 8 d_change2_31), (cAI g a_startFrame 8 d_startFrame2_37), (cAI g a_changeFrame 8 d_changeFrame2_32), (cAI g a_lostAt 8 d_lostAt2_34), (cAI g a_blackAt 8 d_blackAt2_30), (cAI g a_slips 8 d_slips2_36)] rfl ?_
      refine k_iconst (v := 1) X dX11_fits_k1.1.2.2.2 ic_1 ?_
      refine k_aload_n X dX11_fits_k1.2.1.1.1 2 rfl ?_
      refine k_get (ci := 11) X inlX11 rfl 15 (nlt_e rfl) dX11_fits_k1.2.1.1.2 mw170 0 rfl rfl ?_
      refine k_bipush (v := 13) X dX11_fits_k1.2.1.2.1 bi_13 ?_
      refine k_iald X dX11_fits_k1.2.1.2.2 1 rfl (by unfold vp_in; decide) ?_
      refine k_nm (fun z_39 ez_39 => ?_)
      have i_40 : z_39.toInt = (d_r 13).toInt := by rw [ez_39]; rfl
      have iv_41 : IV z_39 0 6 := rb_13 ez_39 hp_d_r
      refine k_ishl X dX11_fits_k1.2.2.1.1 ?_
      refine k_nm (fun z_42 ez_42 => ?_)
      have iv_43 : IV z_42 1 256 := iv_shl ez_42 (iv_w iv_41 (zle_e rfl) (zle_e rfl))
      refine k_iconst (v := 1) X dX11_fits_k1.2.2.1.2 ic_1 ?_
      refine k_isub X dX11_fits_k1.2.2.2.1 ?_
      refine k_nm (fun z_44 ez_44 => ?_)
      have i_45 : z_44.toInt = z_42.toInt - 1 := in_sub ez_44 iv_43 iq_1_1_1 (zle_e rfl) (zle_e rfl)
      have iv_46 : IV z_44 0 255 := iz5 i_45 iv_43 (zle_e rfl) (zle_e rfl)
      refine k_ic_ne 58 X dX11_fits_k1.2.2.2.2 (jp_e rfl) (fun h_47 => ?_) (fun h_47 => ?_)
      · skip
        refine k_iconst (v := 0) X dX11_fits_k2.1.2.2.2 ic_0 ?_
        refine k_ior X dX11_fits_k2.2.1.1 ?_
        refine k_nm (fun z_48 ez_48 => ?_)
        refine k_istore_n [(1, .int z_48), (2, .int u_16), (0, .ref h0)] X dX11_fits_k2.2.1.2.1 (nlt_e rfl) rfl ?_
        obtain ⟨z_49, ez_49⟩ : ∃ y : Int32, u_16 + Int32.ofInt 1 = y := ⟨_, rfl⟩
        refine k_iinc z_49 [(2, .int z_49), (1, .int z_48), (0, .ref h0)] 1 X dX11_fits_k2.2.1.2.2 rfl ez_49 (nlt_e rfl) rfl ?_
        have i_50 : z_49.toInt = u_16.toInt + 1 := in_inc ez_49 (oin_e rfl) iv_27 (zle_e rfl) (zle_e rfl)
        have iv_51 : IV z_49 1 4 := iz1 i_50 iv_27 (zle_e rfl) (zle_e rfl)
        refine k_goto 21 X dX11_fits_k2.2.2.1 (jp_e rfl) ?_
        refine k_sub [(cAI g a_r 311 d_r), (cAI g a_st 44 d_st), (cAI g a_from 8 d_from2_33), (cAI g a_begin 8 d_begin2_29), (cAI g a_motor 8 d_motor2_35), (cAI g a_change 8 d_change2_31), (cAI g a_startFrame 8 d_startFrame2_37), (cAI g a_changeFrame 8 d_changeFrame2_32), (cAI g a_lostAt 8 d_lostAt2_34), (cAI g a_blackAt 8 d_blackAt2_30), (cAI g a_slips 8 d_slips2_36), (cO11_i1r1i10r1i2r5i2r12i3r4i2 h0 m_thrown2_1 a_tape m_taped m_size m_at m_end m_token m_whole m_nameSize m_fault m_place m_trouble2_2 a_letters m_failed m_hasHouse a_r a_fresh a_st a_undone a_kept m_undos m_images a_from a_begin a_motor a_change a_startFrame a_changeFrame a_lostAt a_blackAt a_slips a_leftArc a_died a_arcs m_bestSum m_nearest m_nearestTown a_there a_backAt a_sorted a_parts m_seed1 m_darkNow)] [1, 2, 3, 4, 5, 6, 7, 8, 9, 10, 11, 0] rfl (by decide) rfl ?_
        exact ih_20 _ (by omega) d_begin2_29 d_blackAt2_30 d_change2_31 d_changeFrame2_32 d_from2_33 d_lostAt2_34 d_motor2_35 d_slips2_36 d_startFrame2_37 z_48 z_49 rfl (iv_w iv_51 (zle_e rfl) (zle_e rfl))
      · skip
        have iv_52 : IV r_38 0 255 := iv_meet (iv_any r_38) (iv_e h_47 iv_46) (zle_o rfl) (zle_o rfl)
        refine k_iconst (v := 1) X dX11_fits_k2.1.1.1 ic_1 ?_
        refine k_iload_n X dX11_fits_k2.1.1.2 0 rfl ?_
        refine k_ishl X dX11_fits_k2.1.2.1 ?_
        refine k_nm (fun z_53 ez_53 => ?_)
        have iv_54 : IV z_53 1 256 := iv_shl ez_53 (iv_w iv_27 (zle_e rfl) (zle_e rfl))
        refine k_goto 59 X dX11_fits_k2.1.2.2.1 (jp_e rfl) ?_
        refine k_ior X dX11_fits_k2.2.1.1 ?_
        refine k_nm (fun z_55 ez_55 => ?_)
        refine k_istore_n [(1, .int z_55), (2, .int u_16), (0, .ref h0)] X dX11_fits_k2.2.1.2.1 (nlt_e rfl) rfl ?_
        obtain ⟨z_56, ez_56⟩ : ∃ y : Int32, u_16 + Int32.ofInt 1 = y := ⟨_, rfl⟩
        refine k_iinc z_56 [(2, .int z_56), (1, .int z_55), (0, .ref h0)] 1 X dX11_fits_k2.2.1.2.2 rfl ez_56 (nlt_e rfl) rfl ?_
        have i_57 : z_56.toInt = u_16.toInt + 1 := in_inc ez_56 (oin_e rfl) iv_27 (zle_e rfl) (zle_e rfl)
        have iv_58 : IV z_56 1 4 := iz1 i_57 iv_27 (zle_e rfl) (zle_e rfl)
        refine k_goto 21 X dX11_fits_k2.2.2.1 (jp_e rfl) ?_
        refine k_sub [(cAI g a_r 311 d_r), (cAI g a_st 44 d_st), (cAI g a_from 8 d_from2_33), (cAI g a_begin 8 d_begin2_29), (cAI g a_motor 8 d_motor2_35), (cAI g a_change 8 d_change2_31), (cAI g a_startFrame 8 d_startFrame2_37), (cAI g a_changeFrame 8 d_changeFrame2_32), (cAI g a_lostAt 8 d_lostAt2_34), (cAI g a_blackAt 8 d_blackAt2_30), (cAI g a_slips 8 d_slips2_36), (cO11_i1r1i10r1i2r5i2r12i3r4i2 h0 m_thrown2_1 a_tape m_taped m_size m_at m_end m_token m_whole m_nameSize m_fault m_place m_trouble2_2 a_letters m_failed m_hasHouse a_r a_fresh a_st a_undone a_kept m_undos m_images a_from a_begin a_motor a_change a_startFrame a_changeFrame a_lostAt a_blackAt a_slips a_leftArc a_died a_arcs m_bestSum m_nearest m_nearestTown a_there a_backAt a_sorted a_parts m_seed1 m_darkNow)] [1, 2, 3, 4, 5, 6, 7, 8, 9, 10, 11, 0] rfl (by decide) rfl ?_
        exact ih_20 _ (by omega) d_begin2_29 d_blackAt2_30 d_change2_31 d_changeFrame2_32 d_from2_33 d_lostAt2_34 d_motor2_35 d_slips2_36 d_startFrame2_37 z_55 z_56 rfl (iv_w iv_58 (zle_e rfl) (zle_e rfl))
  · skip
    have iv_59 : IV m_hasHouse 0 0 := iv_meet hv_m_hasHouse (iv_e h_4 iq_0_0_0) (zle_o rfl) (zle_o rfl)
    refine k_aload_n X dX11_fits_k0.1.2.1.2 0 rfl ?_
    refine k_iconst (v := 1) X dX11_fits_k0.1.2.2.1 ic_1 ?_
    refine k_callVI (n := 1) (As := [.int 1]) (st := []) X [(cO11_i1r1i10r1i2r5i2r12i3r4i2 h0 m_thrown2_1 a_tape m_taped m_size m_at m_end m_token m_whole m_nameSize m_fault m_place m_trouble2_2 a_letters m_failed m_hasHouse a_r a_fresh a_st a_undone a_kept m_undos m_images a_from a_begin a_motor a_change a_startFrame a_changeFrame a_lostAt a_blackAt a_slips a_leftArc a_died a_arcs m_bestSum m_nearest m_nearestTown a_there a_backAt a_sorted a_parts m_seed1 m_darkNow)] [(cAI g a_r 311 d_r), (cAI g a_st 44 d_st), (cAI g a_from 8 d_from), (cAI g a_begin 8 d_begin), (cAI g a_motor 8 d_motor), (cAI g a_change 8 d_change), (cAI g a_startFrame 8 d_startFrame), (cAI g a_changeFrame 8 d_changeFrame), (cAI g a_lostAt 8 d_lostAt), (cAI g a_blackAt 8 d_blackAt), (cAI g a_slips 8 d_slips)] [11] [0, 1, 2, 3, 4, 5, 6, 7, 8, 9, 10] (m_no l g h0 1 m_thrown2_1 a_tape m_taped m_size m_at m_end m_token m_whole m_nameSize m_fault m_place m_trouble2_2 a_letters m_failed m_hasHouse a_r a_fresh a_st a_undone a_kept m_undos m_images a_from a_begin a_motor a_change a_startFrame a_changeFrame a_lostAt a_blackAt a_slips a_leftArc a_died a_arcs m_bestSum m_nearest m_nearestTown a_there a_backAt a_sorted a_parts m_seed1 m_darkNow) dX11_fits_k0.1.2.2.2 mw485 mw486 mw487 mw5 mw488 rfl 11 rfl rfl 0 _ rfl yk_yX11_no_1 rfl (Nat.le_of_ble_eq_true rfl) (Nat.le_of_ble_eq_true rfl) (Nat.le_of_ble_eq_true rfl) (Nat.le_of_ble_eq_true rfl) (Nat.le_of_ble_eq_true rfl) rfl rfl (by decide +kernel) rfl (by decide +kernel) (by decide +kernel) ?_
    rintro r_61 w ⟨m_trouble2_60, iv_62, rfl⟩
    refine k_ws [(cAI g a_r 311 d_r), (cAI g a_st 44 d_st), (cAI g a_from 8 d_from), (cAI g a_begin 8 d_begin), (cAI g a_motor 8 d_motor), (cAI g a_change 8 d_change), (cAI g a_startFrame 8 d_startFrame), (cAI g a_changeFrame 8 d_changeFrame), (cAI g a_lostAt 8 d_lostAt), (cAI g a_blackAt 8 d_blackAt), (cAI g a_slips 8 d_slips), (cO11_i1r1i10r1i2r5i2r12i3r4i2 h0 m_thrown2_1 a_tape m_taped m_size m_at m_end m_token m_whole m_nameSize m_fault m_place m_trouble2_60 a_letters m_failed m_hasHouse a_r a_fresh a_st a_undone a_kept m_undos m_images a_from a_begin a_motor a_change a_startFrame a_changeFrame a_lostAt a_blackAt a_slips a_leftArc a_died a_arcs m_bestSum m_nearest m_nearestTown a_there a_backAt a_sorted a_parts m_seed1 m_darkNow)] rfl ?_
    exact k_iret X hr dX11_fits_k0.2.1.1.1 (Nat.le_of_ble_eq_true rfl) (Nat.le_of_ble_eq_true rfl) [11, 0, 1, 2, 3, 4, 5, 6, 7, 8, 9, 10] (vnd_e rfl) rfl rfl (exI11 d_begin d_blackAt d_change d_changeFrame d_from d_lostAt d_motor d_slips d_startFrame m_thrown2_1 m_trouble2_60 rfl)

theorem dX11_bestSlipOf_k0 : ((((dD cX11_bestSlipOf 0 (.iconst (-1)) 1 ∧ dD cX11_bestSlipOf 1 (.istore_n 2) 1) ∧ (dD cX11_bestSlipOf 2 (.iconst 0) 1 ∧ dD cX11_bestSlipOf 3 (.istore_n 3) 1)) ∧ ((dD cX11_bestSlipOf 4 (.iload_n 3) 1 ∧ dD cX11_bestSlipOf 5 (.bipush 40) 2) ∧ (dD cX11_bestSlipOf 7 (.if_icmp .gt 81) 3 ∧ dD cX11_bestSlipOf 10 (.iconst 0) 1))) ∧ (((dD cX11_bestSlipOf 11 (.istore 4) 2 ∧ dD cX11_bestSlipOf 13 (.iload 4) 2) ∧ (dD cX11_bestSlipOf 15 (.bipush 8) 2 ∧ dD cX11_bestSlipOf 17 (.if_icmp .ge 17) 3)) ∧ ((dD cX11_bestSlipOf 20 (.aload_n 0) 1 ∧ dD cX11_bestSlipOf 21 (.getfield 59) 3) ∧ (dD cX11_bestSlipOf 24 (.iload 4) 2 ∧ dD cX11_bestSlipOf 26 (.iload_n 3) 1)))) := dkA16 (by decide +kernel)
theorem dX11_bestSlipOf_k1 : ((((dD cX11_bestSlipOf 27 .iastore 1 ∧ dD cX11_bestSlipOf 28 (.iinc 4 1) 3) ∧ (dD cX11_bestSlipOf 31 (.goto (-18)) 3 ∧ dD cX11_bestSlipOf 34 (.aload_n 0) 1)) ∧ ((dD cX11_bestSlipOf 35 (.iload_n 1) 1 ∧ dD cX11_bestSlipOf 36 (.invokevirtual 367) 3) ∧ (dD cX11_bestSlipOf 39 (.aload_n 0) 1 ∧ dD cX11_bestSlipOf 40 (.iconst 0) 1))) ∧ (((dD cX11_bestSlipOf 41 (.invokevirtual 382) 3 ∧ dD cX11_bestSlipOf 44 (.aload_n 0) 1) ∧ (dD cX11_bestSlipOf 45 (.iconst 1) 1 ∧ dD cX11_bestSlipOf 46 (.invokevirtual 382) 3)) ∧ ((dD cX11_bestSlipOf 49 .iadd 1 ∧ dD cX11_bestSlipOf 50 (.aload_n 0) 1) ∧ (dD cX11_bestSlipOf 51 (.iconst 2) 1 ∧ dD cX11_bestSlipOf 52 (.invokevirtual 382) 3)))) := dkA16 (by decide +kernel)
theorem dX11_bestSlipOf_k2 : ((((dD cX11_bestSlipOf 55 .iadd 1 ∧ dD cX11_bestSlipOf 56 (.istore 4) 2) ∧ (dD cX11_bestSlipOf 58 (.iload_n 2) 1 ∧ dD cX11_bestSlipOf 59 (.ifCond .lt 15) 3)) ∧ ((dD cX11_bestSlipOf 62 (.iload 4) 2 ∧ dD cX11_bestSlipOf 64 (.aload_n 0) 1) ∧ (dD cX11_bestSlipOf 65 (.getfield 425) 3 ∧ dD cX11_bestSlipOf 68 (.if_icmp .lt 6) 3))) ∧ (((dD cX11_bestSlipOf 71 (.goto 11) 3 ∧ dD cX11_bestSlipOf 74 (.iload_n 3) 1) ∧ (dD cX11_bestSlipOf 75 (.istore_n 2) 1 ∧ dD cX11_bestSlipOf 76 (.aload_n 0) 1)) ∧ ((dD cX11_bestSlipOf 77 (.iload 4) 2 ∧ dD cX11_bestSlipOf 79 (.putfield 425) 3) ∧ (dD cX11_bestSlipOf 82 (.iinc 3 1) 3 ∧ dD cX11_bestSlipOf 85 (.goto (-81)) 3)))) := dkA16 (by decide +kernel)
theorem dX11_bestSlipOf_k3 : (dD cX11_bestSlipOf 88 (.iload_n 2) 1 ∧ dD cX11_bestSlipOf 89 .ireturn 1) := dkA2 (by decide +kernel)
set_option maxHeartbeats 4000000 in
set_option maxRecDepth 100000 in
theorem m_bestSlipOf (l : Launch) (g : Gx) (h0 : Nat) (p0 : Int32) (m_thrown : Int32) (a_tape : Nat) (m_taped : Int32) (m_size : Int32) (m_at : Int32) (m_end : Int32) (m_token : Int32) (m_whole : Int32) (m_nameSize : Int32) (m_fault : Int32) (m_place : Int32) (m_trouble : Int32) (a_letters : Nat) (m_failed : Int32) (m_hasHouse : Int32) (a_r : Nat) (a_fresh : Nat) (a_st : Nat) (a_undone : Nat) (a_kept : Nat) (m_undos : Int32) (m_images : Int32) (a_from : Nat) (a_begin : Nat) (a_motor : Nat) (a_change : Nat) (a_startFrame : Nat) (a_changeFrame : Nat) (a_lostAt : Nat) (a_blackAt : Nat) (a_slips : Nat) (a_leftArc : Nat) (a_died : Nat) (a_arcs : Nat) (m_bestSum : Int32) (m_nearest : Int32) (m_nearestTown : Int32) (a_there : Nat) (a_backAt : Nat) (a_sorted : Nat) (a_parts : Nat) (m_seed1 : Int32) (m_darkNow : Int32) (d_r : Nat → Int32) (d_st : Nat → Int32) (d_from : Nat → Int32) (d_begin : Nat → Int32) (d_motor : Nat → Int32) (d_change : Nat → Int32) (d_startFrame : Nat → Int32) (d_changeFrame : Nat → Int32) (d_lostAt : Nat → Int32) (d_blackAt : Nat → Int32) (d_slips : Nat → Int32) (hv_p0 : IV p0 0 3) (hp_d_r : RInv d_r) : cI l g yX11_bestSlipOf cX11_bestSlipOf 5 (some .int) 5 107 0 0 [.ref h0, .int p0] [(cO11_i1r1i10r1i2r5i2r12i3r4i2 h0 m_thrown a_tape m_taped m_size m_at m_end m_token m_whole m_nameSize m_fault m_place m_trouble a_letters m_failed m_hasHouse a_r a_fresh a_st a_undone a_kept m_undos m_images a_from a_begin a_motor a_change a_startFrame a_changeFrame a_lostAt a_blackAt a_slips a_leftArc a_died a_arcs m_bestSum m_nearest m_nearestTown a_there a_backAt a_sorted a_parts m_seed1 m_darkNow), (cAI g a_r 311 d_r), (cAI g a_st 44 d_st), (cAI g a_from 8 d_from), (cAI g a_begin 8 d_begin), (cAI g a_motor 8 d_motor), (cAI g a_change 8 d_change), (cAI g a_startFrame 8 d_startFrame), (cAI g a_changeFrame 8 d_changeFrame), (cAI g a_lostAt 8 d_lostAt), (cAI g a_blackAt 8 d_blackAt), (cAI g a_slips 8 d_slips)] (fun r w => ∃ (d_begin2 : Nat → Int32) (m_bestSum2 : Int32) (d_blackAt2 : Nat → Int32) (d_change2 : Nat → Int32) (d_changeFrame2 : Nat → Int32) (d_from2 : Nat → Int32) (d_lostAt2 : Nat → Int32) (d_motor2 : Nat → Int32) (d_slips2 : Nat → Int32) (d_startFrame2 : Nat → Int32), w = [(cO11_i1r1i10r1i2r5i2r12i3r4i2 h0 m_thrown a_tape m_taped m_size m_at m_end m_token m_whole m_nameSize m_fault m_place m_trouble a_letters m_failed m_hasHouse a_r a_fresh a_st a_undone a_kept m_undos m_images a_from a_begin a_motor a_change a_startFrame a_changeFrame a_lostAt a_blackAt a_slips a_leftArc a_died a_arcs m_bestSum2 m_nearest m_nearestTown a_there a_backAt a_sorted a_parts m_seed1 m_darkNow), (cAI g a_r 311 d_r), (cAI g a_st 44 d_st), (cAI g a_from 8 d_from2), (cAI g a_begin 8 d_begin2), (cAI g a_motor 8 d_motor2), (cAI g a_change 8 d_change2), (cAI g a_startFrame 8 d_startFrame2), (cAI g a_changeFrame 8 d_changeFrame2), (cAI g a_lostAt 8 d_lostAt2), (cAI g a_blackAt 8 d_blackAt2), (cAI g a_slips 8 d_slips2)]) := by
  refine cI.of (by decide) (Nat.le_of_ble_eq_true rfl) ?_
  intro p e s m args below meth c A X hr hi
  refine k_lveq [(0, .ref h0), (1, .int p0)] rfl ?_
  refine k_iconst (v := -1) X dX11_bestSlipOf_k0.1.1.1.1 ic_m1 ?_
  refine k_istore_n [(2, .int (-1)), (0, .ref h0), (1, .int p0)] X dX11_bestSlipOf_k0.1.1.1.2 (nlt_e rfl) rfl ?_
  refine k_iconst (v := 0) X dX11_bestSlipOf_k0.1.1.2.1 ic_0 ?_
  refine k_istore_n [(3, .int 0), (2, .int (-1)), (0, .ref h0), (1, .int p0)] X dX11_bestSlipOf_k0.1.1.2.2 (nlt_e rfl) rfl ?_
  refine (fun hL : ∀ (nn_15 : Nat) (uf_1 : Nat → Int32) (uf_2 : Nat → Int32) (uf_3 : Nat → Int32) (uf_4 : Nat → Int32) (uf_5 : Nat → Int32) (uf_6 : Nat → Int32) (uf_7 : Nat → Int32) (uf_8 : Nat → Int32) (uf_9 : Nat → Int32) (u_10 : Int32) (u_12 : Int32) (u_14 : Int32), (40 + 1 - u_12.toInt).toNat = nn_15 → (IV u_10 (-1) 255) → (IV u_12 0 255) → Wk p l e _ s m args below meth c _ A g _ _ _ [(cO11_i1r1i10r1i2r5i2r12i3r4i2 h0 m_thrown a_tape m_taped m_size m_at m_end m_token m_whole m_nameSize m_fault m_place m_trouble a_letters m_failed m_hasHouse a_r a_fresh a_st a_undone a_kept m_undos m_images a_from a_begin a_motor a_change a_startFrame a_changeFrame a_lostAt a_blackAt a_slips a_leftArc a_died a_arcs u_14 m_nearest m_nearestTown a_there a_backAt a_sorted a_parts m_seed1 m_darkNow), (cAI g a_r 311 d_r), (cAI g a_st 44 d_st), (cAI g a_from 8 uf_5), (cAI g a_begin 8 uf_1), (cAI g a_motor 8 uf_7), (cAI g a_change 8 uf_3), (cAI g a_startFrame 8 uf_9), (cAI g a_changeFrame 8 uf_4), (cAI g a_lostAt 8 uf_6), (cAI g a_blackAt 8 uf_2), (cAI g a_slips 8 uf_8)] [(3, .int u_12), (2, .int u_10), (0, .ref h0), (1, .int p0)] 4 [] => hL _ d_begin d_blackAt d_change d_changeFrame d_from d_lostAt d_motor d_slips d_startFrame ((-1)) 0 m_bestSum rfl (iv_w iq_m1_m1_m1 (zle_e rfl) (zle_e rfl)) (iv_w iq_0_0_0 (zle_e rfl) (zle_e rfl))) ?_
  refine fun nn_15 => Nat.strongRecOn nn_15 (fun nn_15 ih_17 => ?_)
  intro uf_1 uf_2 uf_3 uf_4 uf_5 uf_6 uf_7 uf_8 uf_9 u_10 u_12 u_14 hm_16 hv_11 hv_13
  refine k_iload_n X dX11_bestSlipOf_k0.1.2.1.1 0 rfl ?_
  refine k_bipush (v := 40) X dX11_bestSlipOf_k0.1.2.1.2 bi_40 ?_
  refine k_ic_gt 88 X dX11_bestSlipOf_k0.1.2.2.1 (jp_e rfl) (fun h_18 => ?_) (fun h_18 => ?_)
  · skip
    have j_19 : 40 < u_12.toInt := iv_lt h_18
    have iv_20 : IV u_12 41 255 := iv_ltR (iv_lt h_18) iq_40_40_40 hv_13 (zle_e rfl)
    refine k_iload_n X dX11_bestSlipOf_k3.1 1 rfl ?_
    exact k_iret X hr dX11_bestSlipOf_k3.2 (Nat.le_of_ble_eq_true rfl) (Nat.le_of_ble_eq_true rfl) [0, 1, 2, 3, 4, 5, 6, 7, 8, 9, 10, 11] (vnd_e rfl) rfl rfl (exI10 uf_1 u_14 uf_2 uf_3 uf_4 uf_5 uf_6 uf_7 uf_8 uf_9 rfl)
  · skip
    have j_21 : u_12.toInt ≤ 40 := iv_nlt h_18
    have iv_22 : IV u_12 0 40 := iv_leL (iv_nlt h_18) hv_13 iq_40_40_40 (zle_e rfl)
    refine k_iconst (v := 0) X dX11_bestSlipOf_k0.1.2.2.2 ic_0 ?_
    refine k_istore [(4, .int 0), (3, .int u_12), (2, .int u_10), (0, .ref h0), (1, .int p0)] X dX11_bestSlipOf_k0.2.1.1.1 (nlt_e rfl) rfl ?_
    refine (fun hL : ∀ (nn_26 : Nat) (uf_23 : Nat → Int32) (u_24 : Int32), (8 - u_24.toInt).toNat = nn_26 → (IV u_24 0 8) → Wk p l e _ s m args below meth c _ A g _ _ _ [(cO11_i1r1i10r1i2r5i2r12i3r4i2 h0 m_thrown a_tape m_taped m_size m_at m_end m_token m_whole m_nameSize m_fault m_place m_trouble a_letters m_failed m_hasHouse a_r a_fresh a_st a_undone a_kept m_undos m_images a_from a_begin a_motor a_change a_startFrame a_changeFrame a_lostAt a_blackAt a_slips a_leftArc a_died a_arcs u_14 m_nearest m_nearestTown a_there a_backAt a_sorted a_parts m_seed1 m_darkNow), (cAI g a_r 311 d_r), (cAI g a_st 44 d_st), (cAI g a_from 8 uf_5), (cAI g a_begin 8 uf_1), (cAI g a_motor 8 uf_7), (cAI g a_change 8 uf_3), (cAI g a_startFrame 8 uf_9), (cAI g a_changeFrame 8 uf_4), (cAI g a_lostAt 8 uf_6), (cAI g a_blackAt 8 uf_2), (cAI g a_slips 8 uf_23)] [(4, .int u_24), (3, .int u_12), (2, .int u_10), (0, .ref h0), (1, .int p0)] 13 [] => hL _ uf_8 0 rfl (iv_w iq_0_0_0 (zle_e rfl) (zle_e rfl))) ?_
    refine fun nn_26 => Nat.strongRecOn nn_26 (fun nn_26 ih_28 => ?_)
    intro uf_23 u_24 hm_27 hv_25
    refine k_iload X dX11_bestSlipOf_k0.2.1.1.2 0 rfl ?_
    refine k_bipush (v := 8) X dX11_bestSlipOf_k0.2.1.2.1 bi_8 ?_
    refine k_ic_ge 34 X dX11_bestSlipOf_k0.2.1.2.2 (jp_e rfl) (fun h_29 => ?_) (fun h_29 => ?_)
    · skip
      have j_30 : 8 ≤ u_24.toInt := iv_le h_29
      have iv_31 : IV u_24 8 8 := iv_leR (iv_le h_29) iq_8_8_8 hv_25 (zle_e rfl)
      refine k_aload_n X dX11_bestSlipOf_k1.1.1.2.2 3 rfl ?_
      refine k_iload_n X dX11_bestSlipOf_k1.1.2.1.1 4 rfl ?_
      refine k_callVV (n := 1) (As := [.int p0]) (st := []) X [(cO11_i1r1i10r1i2r5i2r12i3r4i2 h0 m_thrown a_tape m_taped m_size m_at m_end m_token m_whole m_nameSize m_fault m_place m_trouble a_letters m_failed m_hasHouse a_r a_fresh a_st a_undone a_kept m_undos m_images a_from a_begin a_motor a_change a_startFrame a_changeFrame a_lostAt a_blackAt a_slips a_leftArc a_died a_arcs u_14 m_nearest m_nearestTown a_there a_backAt a_sorted a_parts m_seed1 m_darkNow), (cAI g a_r 311 d_r), (cAI g a_st 44 d_st), (cAI g a_from 8 uf_5), (cAI g a_begin 8 uf_1), (cAI g a_motor 8 uf_7), (cAI g a_change 8 uf_3), (cAI g a_startFrame 8 uf_9), (cAI g a_changeFrame 8 uf_4), (cAI g a_lostAt 8 uf_6), (cAI g a_blackAt 8 uf_2), (cAI g a_slips 8 uf_23)] [] [0, 1, 2, 3, 4, 5, 6, 7, 8, 9, 10, 11] [] (m_layNight l g h0 p0 m_thrown a_tape m_taped m_size m_at m_end m_token m_whole m_nameSize m_fault m_place m_trouble a_letters m_failed m_hasHouse a_r a_fresh a_st a_undone a_kept m_undos m_images a_from a_begin a_motor a_change a_startFrame a_changeFrame a_lostAt a_blackAt a_slips a_leftArc a_died a_arcs u_14 m_nearest m_nearestTown a_there a_backAt a_sorted a_parts m_seed1 m_darkNow d_r d_st uf_5 uf_1 uf_7 uf_3 uf_9 uf_4 uf_6 uf_2 uf_23 (iv_w hv_p0 (zle_e rfl) (zle_e rfl)) hp_d_r) dX11_bestSlipOf_k1.1.2.1.2 mw819 mw820 mw821 mw5 mw822 rfl 11 rfl rfl 0 _ rfl yk_yX11_layNight_1 rfl (Nat.le_of_ble_eq_true rfl) (Nat.le_of_ble_eq_true rfl) (Nat.le_of_ble_eq_true rfl) (Nat.le_of_ble_eq_true rfl) (Nat.le_of_ble_eq_true rfl) rfl rfl (by decide +kernel) rfl (by decide +kernel) (by decide +kernel) ?_
      rintro w ⟨d_begin2_32, d_blackAt2_33, d_change2_34, d_changeFrame2_35, d_from2_36, d_lostAt2_37, d_motor2_38, d_startFrame2_39, rfl⟩
      refine k_ws [(cO11_i1r1i10r1i2r5i2r12i3r4i2 h0 m_thrown a_tape m_taped m_size m_at m_end m_token m_whole m_nameSize m_fault m_place m_trouble a_letters m_failed m_hasHouse a_r a_fresh a_st a_undone a_kept m_undos m_images a_from a_begin a_motor a_change a_startFrame a_changeFrame a_lostAt a_blackAt a_slips a_leftArc a_died a_arcs u_14 m_nearest m_nearestTown a_there a_backAt a_sorted a_parts m_seed1 m_darkNow), (cAI g a_r 311 d_r), (cAI g a_st 44 d_st), (cAI g a_from 8 d_from2_36), (cAI g a_begin 8 d_begin2_32), (cAI g a_motor 8 d_motor2_38), (cAI g a_change 8 d_change2_34), (cAI g a_startFrame 8 d_startFrame2_39), (cAI g a_changeFrame 8 d_changeFrame2_35), (cAI g a_lostAt 8 d_lostAt2_37), (cAI g a_blackAt 8 d_blackAt2_33), (cAI g a_slips 8 uf_23)] rfl ?_
      refine k_aload_n X dX11_bestSlipOf_k1.1.2.2.1 3 rfl ?_
      refine k_iconst (v := 0) X dX11_bestSlipOf_k1.1.2.2.2 ic_0 ?_
      refine k_callVI (n := 1) (As := [.int 0]) (st := []) X [(cO11_i1r1i10r1i2r5i2r12i3r4i2 h0 m_thrown a_tape m_taped m_size m_at m_end m_token m_whole m_nameSize m_fault m_place m_trouble a_letters m_failed m_hasHouse a_r a_fresh a_st a_undone a_kept m_undos m_images a_from a_begin a_motor a_change a_startFrame a_changeFrame a_lostAt a_blackAt a_slips a_leftArc a_died a_arcs u_14 m_nearest m_nearestTown a_there a_backAt a_sorted a_parts m_seed1 m_darkNow), (cAI g a_r 311 d_r), (cAI g a_st 44 d_st), (cAI g a_from 8 d_from2_36), (cAI g a_changeFrame 8 d_changeFrame2_35), (cAI g a_lostAt 8 d_lostAt2_37), (cAI g a_blackAt 8 d_blackAt2_33)] [(cAI g a_begin 8 d_begin2_32), (cAI g a_motor 8 d_motor2_38), (cAI g a_change 8 d_change2_34), (cAI g a_startFrame 8 d_startFrame2_39), (cAI g a_slips 8 uf_23)] [0, 1, 2, 3, 8, 9, 10] [4, 5, 6, 7, 11] (m_sumOf l g h0 0 m_thrown a_tape m_taped m_size m_at m_end m_token m_whole m_nameSize m_fault m_place m_trouble a_letters m_failed m_hasHouse a_r a_fresh a_st a_undone a_kept m_undos m_images a_from a_begin a_motor a_change a_startFrame a_changeFrame a_lostAt a_blackAt a_slips a_leftArc a_died a_arcs u_14 m_nearest m_nearestTown a_there a_backAt a_sorted a_parts m_seed1 m_darkNow d_r d_st d_from2_36 d_changeFrame2_35 d_lostAt2_37 d_blackAt2_33 hp_d_r) dX11_bestSlipOf_k1.2.1.1.1 mw921 mw922 mw923 mw5 mw924 rfl 11 rfl rfl 0 _ rfl yk_yX11_sumOf_1 rfl (Nat.le_of_ble_eq_true rfl) (Nat.le_of_ble_eq_true rfl) (Nat.le_of_ble_eq_true rfl) (Nat.le_of_ble_eq_true rfl) (Nat.le_of_ble_eq_true rfl) rfl rfl (by decide +kernel) rfl (by decide +kernel) (by decide +kernel) ?_
      rintro r_41 w rfl
      refine k_ws [(cAI g a_begin 8 d_begin2_32), (cAI g a_motor 8 d_motor2_38), (cAI g a_change 8 d_change2_34), (cAI g a_startFrame 8 d_startFrame2_39), (cAI g a_slips 8 uf_23), (cO11_i1r1i10r1i2r5i2r12i3r4i2 h0 m_thrown a_tape m_taped m_size m_at m_end m_token m_whole m_nameSize m_fault m_place m_trouble a_letters m_failed m_hasHouse a_r a_fresh a_st a_undone a_kept m_undos m_images a_from a_begin a_motor a_change a_startFrame a_changeFrame a_lostAt a_blackAt a_slips a_leftArc a_died a_arcs u_14 m_nearest m_nearestTown a_there a_backAt a_sorted a_parts m_seed1 m_darkNow), (cAI g a_r 311 d_r), (cAI g a_st 44 d_st), (cAI g a_from 8 d_from2_36), (cAI g a_changeFrame 8 d_changeFrame2_35), (cAI g a_lostAt 8 d_lostAt2_37), (cAI g a_blackAt 8 d_blackAt2_33)] rfl ?_
      refine k_aload_n X dX11_bestSlipOf_k1.2.1.1.2 3 rfl ?_
      refine k_iconst (v := 1) X dX11_bestSlipOf_k1.2.1.2.1 ic_1 ?_
      refine k_callVI (n := 1) (As := [.int 1]) (st := [.int r_41]) X [(cO11_i1r1i10r1i2r5i2r12i3r4i2 h0 m_thrown a_tape m_taped m_size m_at m_end m_token m_whole m_nameSize m_fault m_place m_trouble a_letters m_failed m_hasHouse a_r a_fresh a_st a_undone a_kept m_undos m_images a_from a_begin a_motor a_change a_startFrame a_changeFrame a_lostAt a_blackAt a_slips a_leftArc a_died a_arcs u_14 m_nearest m_nearestTown a_there a_backAt a_sorted a_parts m_seed1 m_darkNow), (cAI g a_r 311 d_r), (cAI g a_st 44 d_st), (cAI g a_from 8 d_from2_36), (cAI g a_changeFrame 8 d_changeFrame2_35), (cAI g a_lostAt 8 d_lostAt2_37), (cAI g a_blackAt 8 d_blackAt2_33)] [(cAI g a_begin 8 d_begin2_32), (cAI g a_motor 8 d_motor2_38), (cAI g a_change 8 d_change2_34), (cAI g a_startFrame 8 d_startFrame2_39), (cAI g a_slips 8 uf_23)] [5, 6, 7, 8, 9, 10, 11] [0, 1, 2, 3, 4] (m_sumOf l g h0 1 m_thrown a_tape m_taped m_size m_at m_end m_token m_whole m_nameSize m_fault m_place m_trouble a_letters m_failed m_hasHouse a_r a_fresh a_st a_undone a_kept m_undos m_images a_from a_begin a_motor a_change a_startFrame a_changeFrame a_lostAt a_blackAt a_slips a_leftArc a_died a_arcs u_14 m_nearest m_nearestTown a_there a_backAt a_sorted a_parts m_seed1 m_darkNow d_r d_st d_from2_36 d_changeFrame2_35 d_lostAt2_37 d_blackAt2_33 hp_d_r) dX11_bestSlipOf_k1.2.1.2.2 mw921 mw922 mw923 mw5 mw924 rfl 11 rfl rfl 0 _ rfl yk_yX11_sumOf_1 rfl (Nat.le_of_ble_eq_true rfl) (Nat.le_of_ble_eq_true rfl) (Nat.le_of_ble_eq_true rfl) (Nat.le_of_ble_eq_true rfl) (Nat.le_of_ble_eq_true rfl) rfl rfl (by decide +kernel) rfl (by decide +kernel) (by decide +kernel) ?_
      rintro r_42 w rfl
      refine k_ws [(cAI g a_begin 8 d_begin2_32), (cAI g a_motor 8 d_motor2_38), (cAI g a_change 8 d_change2_34), (cAI g a_startFrame 8 d_startFrame2_39), (cAI g a_slips 8 uf_23), (cO11_i1r1i10r1i2r5i2r12i3r4i2 h0 m_thrown a_tape m_taped m_size m_at m_end m_token m_whole m_nameSize m_fault m_place m_trouble a_letters m_failed m_hasHouse a_r a_fresh a_st a_undone a_kept m_undos m_images a_from a_begin a_motor a_change a_startFrame a_changeFrame a_lostAt a_blackAt a_slips a_leftArc a_died a_arcs u_14 m_nearest m_nearestTown a_there a_backAt a_sorted a_parts m_seed1 m_darkNow), (cAI g a_r 311 d_r), (cAI g a_st 44 d_st), (cAI g a_from 8 d_from2_36), (cAI g a_changeFrame 8 d_changeFrame2_35), (cAI g a_lostAt 8 d_lostAt2_37), (cAI g a_blackAt 8 d_blackAt2_33)] rfl ?_
      refine k_iadd X dX11_bestSlipOf_k1.2.2.1.1 ?_
      refine k_nm (fun z_43 ez_43 => ?_)
      refine k_aload_n X dX11_bestSlipOf_k1.2.2.1.2 3 rfl ?_
      refine k_iconst (v := 2) X dX11_bestSlipOf_k1.2.2.2.1 ic_2 ?_
      refine k_callVI (n := 1) (As := [.int 2]) (st := [.int z_43]) X [(cO11_i1r1i10r1i2r5i2r12i3r4i2 h0 m_thrown a_tape m_taped m_size m_at m_end m_token m_whole m_nameSize m_fault m_place m_trouble a_letters m_failed m_hasHouse a_r a_fresh a_st a_undone a_kept m_undos m_images a_from a_begin a_motor a_change a_startFrame a_changeFrame a_lostAt a_blackAt a_slips a_leftArc a_died a_arcs u_14 m_nearest m_nearestTown a_there a_backAt a_sorted a_parts m_seed1 m_darkNow), (cAI g a_r 311 d_r), (cAI g a_st 44 d_st), (cAI g a_from 8 d_from2_36), (cAI g a_changeFrame 8 d_changeFrame2_35), (cAI g a_lostAt 8 d_lostAt2_37), (cAI g a_blackAt 8 d_blackAt2_33)] [(cAI g a_begin 8 d_begin2_32), (cAI g a_motor 8 d_motor2_38), (cAI g a_change 8 d_change2_34), (cAI g a_startFrame 8 d_startFrame2_39), (cAI g a_slips 8 uf_23)] [5, 6, 7, 8, 9, 10, 11] [0, 1, 2, 3, 4] (m_sumOf l g h0 2 m_thrown a_tape m_taped m_size m_at m_end m_token m_whole m_nameSize m_fault m_place m_trouble a_letters m_failed m_hasHouse a_r a_fresh a_st a_undone a_kept m_undos m_images a_from a_begin a_motor a_change a_startFrame a_changeFrame a_lostAt a_blackAt a_slips a_leftArc a_died a_arcs u_14 m_nearest m_nearestTown a_there a_backAt a_sorted a_parts m_seed1 m_darkNow d_r d_st d_from2_36 d_changeFrame2_35 d_lostAt2_37 d_blackAt2_33 hp_d_r) dX11_bestSlipOf_k1.2.2.2.2 mw921 mw922 mw923 mw5 mw924 rfl 11 rfl rfl 0 _ rfl yk_yX11_sumOf_1 rfl (Nat.le_of_ble_eq_true rfl) (Nat.le_of_ble_eq_true rfl) (Nat.le_of_ble_eq_true rfl) (Nat.le_of_ble_eq_true rfl) (Nat.le_of_ble_eq_true rfl) rfl rfl (by decide +kernel) rfl (by decide +kernel) (by decide +kernel) ?_
      rintro r_45 w rfl
      refine k_ws [(cAI g a_begin 8 d_begin2_32), (cAI g a_motor 8 d_motor2_38), (cAI g a_change 8 d_change2_34), (cAI g a_startFrame 8 d_startFrame2_39), (cAI g a_slips 8 uf_23), (cO11_i1r1i10r1i2r5i2r12i3r4i2 h0 m_thrown a_tape m_taped m_size m_at m_end m_token m_whole m_nameSize m_fault m_place m_trouble a_letters m_failed m_hasHouse a_r a_fresh a_st a_undone a_kept m_undos m_images a_from a_begin a_motor a_change a_startFrame a_changeFrame a_lostAt a_blackAt a_slips a_leftArc a_died a_arcs u_14 m_nearest m_nearestTown a_there a_backAt a_sorted a_parts m_seed1 m_darkNow), (cAI g a_r 311 d_r), (cAI g a_st 44 d_st), (cAI g a_from 8 d_from2_36), (cAI g a_changeFrame 8 d_changeFrame2_35), (cAI g a_lostAt 8 d_lostAt2_37), (cAI g a_blackAt 8 d_blackAt2_33)] rfl ?_
      refine k_iadd X dX11_bestSlipOf_k2.1.1.1.1 ?_
      refine k_nm (fun z_46 ez_46 => ?_)
      refine k_istore [(4, .int z_46), (3, .int u_12), (2, .int u_10), (0, .ref h0), (1, .int p0)] X dX11_bestSlipOf_k2.1.1.1.2 (nlt_e rfl) rfl ?_
      refine k_iload_n X dX11_bestSlipOf_k2.1.1.2.1 2 rfl ?_
      refine k_if_lt 74 X dX11_bestSlipOf_k2.1.1.2.2 (jp_e rfl) (fun h_48 => ?_) (fun h_48 => ?_)
      · skip
        have j_49 : u_10.toInt < 0 := iv_lt h_48
        have iv_50 : IV u_10 (-1) (-1) := iv_ltL (iv_lt h_48) hv_11 iq_0_0_0 (zle_e rfl)
        refine k_iload_n X dX11_bestSlipOf_k2.2.1.1.2 1 rfl ?_
        refine k_istore_n [(2, .int u_12), (4, .int z_46), (3, .int u_12), (0, .ref h0), (1, .int p0)] X dX11_bestSlipOf_k2.2.1.2.1 (nlt_e rfl) rfl ?_
        refine k_aload_n X dX11_bestSlipOf_k2.2.1.2.2 3 rfl ?_
        refine k_iload X dX11_bestSlipOf_k2.2.2.1.1 1 rfl ?_
        refine k_put (ci := 11) [(cAI g a_begin 8 d_begin2_32), (cAI g a_motor 8 d_motor2_38), (cAI g a_change 8 d_change2_34), (cAI g a_startFrame 8 d_startFrame2_39), (cAI g a_slips 8 uf_23), (cO11_i1r1i10r1i2r5i2r12i3r4i2 h0 m_thrown a_tape m_taped m_size m_at m_end m_token m_whole m_nameSize m_fault m_place m_trouble a_letters m_failed m_hasHouse a_r a_fresh a_st a_undone a_kept m_undos m_images a_from a_begin a_motor a_change a_startFrame a_changeFrame a_lostAt a_blackAt a_slips a_leftArc a_died a_arcs z_46 m_nearest m_nearestTown a_there a_backAt a_sorted a_parts m_seed1 m_darkNow), (cAI g a_r 311 d_r), (cAI g a_st 44 d_st), (cAI g a_from 8 d_from2_36), (cAI g a_changeFrame 8 d_changeFrame2_35), (cAI g a_lostAt 8 d_lostAt2_37), (cAI g a_blackAt 8 d_blackAt2_33)] X inlX11 rfl tyX11_ok nmX11 34 (nlt_e rfl) rfl dX11_bestSlipOf_k2.2.2.1.2 mw1001 5 rfl rfl rfl (Nat.le_of_ble_eq_true rfl) rfl ?_
        obtain ⟨z_51, ez_51⟩ : ∃ y : Int32, u_12 + Int32.ofInt 1 = y := ⟨_, rfl⟩
        refine k_iinc z_51 [(3, .int z_51), (2, .int u_12), (4, .int z_46), (0, .ref h0), (1, .int p0)] 2 X dX11_bestSlipOf_k2.2.2.2.1 rfl ez_51 (nlt_e rfl) rfl ?_
        have i_52 : z_51.toInt = u_12.toInt + 1 := in_inc ez_51 (oin_e rfl) iv_22 (zle_e rfl) (zle_e rfl)
        have iv_53 : IV z_51 1 41 := iz1 i_52 iv_22 (zle_e rfl) (zle_e rfl)
        refine k_goto 4 X dX11_bestSlipOf_k2.2.2.2.2 (jp_e rfl) ?_
        refine k_lv [(3, .int z_51), (2, .int u_12), (0, .ref h0), (1, .int p0)] [0, 1, 3, 4] rfl ?_
        refine k_sub [(cO11_i1r1i10r1i2r5i2r12i3r4i2 h0 m_thrown a_tape m_taped m_size m_at m_end m_token m_whole m_nameSize m_fault m_place m_trouble a_letters m_failed m_hasHouse a_r a_fresh a_st a_undone a_kept m_undos m_images a_from a_begin a_motor a_change a_startFrame a_changeFrame a_lostAt a_blackAt a_slips a_leftArc a_died a_arcs z_46 m_nearest m_nearestTown a_there a_backAt a_sorted a_parts m_seed1 m_darkNow), (cAI g a_r 311 d_r), (cAI g a_st 44 d_st), (cAI g a_from 8 d_from2_36), (cAI g a_begin 8 d_begin2_32), (cAI g a_motor 8 d_motor2_38), (cAI g a_change 8 d_change2_34), (cAI g a_startFrame 8 d_startFrame2_39), (cAI g a_changeFrame 8 d_changeFrame2_35), (cAI g a_lostAt 8 d_lostAt2_37), (cAI g a_blackAt 8 d_blackAt2_33), (cAI g a_slips 8 uf_23)] [5, 6, 7, 8, 0, 1, 2, 3, 9, 10, 11, 4] rfl (by decide) rfl ?_
        exact ih_17 _ (by omega) d_begin2_32 d_blackAt2_33 d_change2_34 d_changeFrame2_35 d_from2_36 d_lostAt2_37 d_motor2_38 uf_23 d_startFrame2_39 u_12 z_51 z_46 rfl (iv_w iv_22 (zle_e rfl) (zle_e rfl)) (iv_w iv_53 (zle_e rfl) (zle_e rfl))
      · skip
        have j_54 : 0 ≤ u_10.toInt := iv_nlt h_48
        have iv_55 : IV u_10 0 255 := iv_leR (iv_nlt h_48) iq_0_0_0 hv_11 (zle_e rfl)
        refine k_iload X dX11_bestSlipOf_k2.1.2.1.1 0 rfl ?_
        refine k_aload_n X dX11_bestSlipOf_k2.1.2.1.2 3 rfl ?_
        refine k_get (ci := 11) X inlX11 rfl 34 (nlt_e rfl) dX11_bestSlipOf_k2.1.2.2.1 mw1001 5 rfl rfl ?_
        refine k_ic_lt 74 X dX11_bestSlipOf_k2.1.2.2.2 (jp_e rfl) (fun h_56 => ?_) (fun h_56 => ?_)
        · skip
          have j_57 : z_46.toInt < u_14.toInt := iv_lt h_56
          have iv_58 : IV z_46 (-2147483648) 2147483646 := iv_ltL (iv_lt h_56) (iv_any z_46) (iv_any u_14) (zle_e rfl)
          have iv_59 : IV u_14 (-2147483647) 2147483647 := iv_ltR (iv_lt h_56) (iv_any z_46) (iv_any u_14) (zle_e rfl)
          refine k_iload_n X dX11_bestSlipOf_k2.2.1.1.2 1 rfl ?_
          refine k_istore_n [(2, .int u_12), (4, .int z_46), (3, .int u_12), (0, .ref h0), (1, .int p0)] X dX11_bestSlipOf_k2.2.1.2.1 (nlt_e rfl) rfl ?_
          refine k_aload_n X dX11_bestSlipOf_k2.2.1.2.2 3 rfl ?_
          refine k_iload X dX11_bestSlipOf_k2.2.2.1.1 1 rfl ?_
          refine k_put (ci := 11) [(cAI g a_begin 8 d_begin2_32), (cAI g a_motor 8 d_motor2_38), (cAI g a_change 8 d_change2_34), (cAI g a_startFrame 8 d_startFrame2_39), (cAI g a_slips 8 uf_23), (cO11_i1r1i10r1i2r5i2r12i3r4i2 h0 m_thrown a_tape m_taped m_size m_at m_end m_token m_whole m_nameSize m_fault m_place m_trouble a_letters m_failed m_hasHouse a_r a_fresh a_st a_undone a_kept m_undos m_images a_from a_begin a_motor a_change a_startFrame a_changeFrame a_lostAt a_blackAt a_slips a_leftArc a_died a_arcs z_46 m_nearest m_nearestTown a_there a_backAt a_sorted a_parts m_seed1 m_darkNow), (cAI g a_r 311 d_r), (cAI g a_st 44 d_st), (cAI g a_from 8 d_from2_36), (cAI g a_changeFrame 8 d_changeFrame2_35), (cAI g a_lostAt 8 d_lostAt2_37), (cAI g a_blackAt 8 d_blackAt2_33)] X inlX11 rfl tyX11_ok nmX11 34 (nlt_e rfl) rfl dX11_bestSlipOf_k2.2.2.1.2 mw1001 5 rfl rfl rfl (Nat.le_of_ble_eq_true rfl) rfl ?_
          obtain ⟨z_60, ez_60⟩ : ∃ y : Int32, u_12 + Int32.ofInt 1 = y := ⟨_, rfl⟩
          refine k_iinc z_60 [(3, .int z_60), (2, .int u_12), (4, .int z_46), (0, .ref h0), (1, .int p0)] 2 X dX11_bestSlipOf_k2.2.2.2.1 rfl ez_60 (nlt_e rfl) rfl ?_
          have i_61 : z_60.toInt = u_12.toInt + 1 := in_inc ez_60 (oin_e rfl) iv_22 (zle_e rfl) (zle_e rfl)
          have iv_62 : IV z_60 1 41 := iz1 i_61 iv_22 (zle_e rfl) (zle_e rfl)
          refine k_goto 4 X dX11_bestSlipOf_k2.2.2.2.2 (jp_e rfl) ?_
          refine k_lv [(3, .int z_60), (2, .int u_12), (0, .ref h0), (1, .int p0)] [0, 1, 3, 4] rfl ?_
          refine k_sub [(cO11_i1r1i10r1i2r5i2r12i3r4i2 h0 m_thrown a_tape m_taped m_size m_at m_end m_token m_whole m_nameSize m_fault m_place m_trouble a_letters m_failed m_hasHouse a_r a_fresh a_st a_undone a_kept m_undos m_images a_from a_begin a_motor a_change a_startFrame a_changeFrame a_lostAt a_blackAt a_slips a_leftArc a_died a_arcs z_46 m_nearest m_nearestTown a_there a_backAt a_sorted a_parts m_seed1 m_darkNow), (cAI g a_r 311 d_r), (cAI g a_st 44 d_st), (cAI g a_from 8 d_from2_36), (cAI g a_begin 8 d_begin2_32), (cAI g a_motor 8 d_motor2_38), (cAI g a_change 8 d_change2_34), (cAI g a_startFrame 8 d_startFrame2_39), (cAI g a_changeFrame 8 d_changeFrame2_35), (cAI g a_lostAt 8 d_lostAt2_37), (cAI g a_blackAt 8 d_blackAt2_33), (cAI g a_slips 8 uf_23)] [5, 6, 7, 8, 0, 1, 2, 3, 9, 10, 11, 4] rfl (by decide) rfl ?_
          exact ih_17 _ (by omega) d_begin2_32 d_blackAt2_33 d_change2_34 d_changeFrame2_35 d_from2_36 d_lostAt2_37 d_motor2_38 uf_23 d_startFrame2_39 u_12 z_60 z_46 rfl (iv_w iv_22 (zle_e rfl) (zle_e rfl)) (iv_w iv_62 (zle_e rfl) (zle_e rfl))
        · skip
          have j_63 : u_14.toInt ≤ z_46.toInt := iv_nlt h_56
          refine k_goto 82 X dX11_bestSlipOf_k2.2.1.1.1 (jp_e rfl) ?_
          obtain ⟨z_64, ez_64⟩ : ∃ y : Int32, u_12 + Int32.ofInt 1 = y := ⟨_, rfl⟩
          refine k_iinc z_64 [(3, .int z_64), (4, .int z_46), (2, .int u_10), (0, .ref h0), (1, .int p0)] 1 X dX11_bestSlipOf_k2.2.2.2.1 rfl ez_64 (nlt_e rfl) rfl ?_
          have i_65 : z_64.toInt = u_12.toInt + 1 := in_inc ez_64 (oin_e rfl) iv_22 (zle_e rfl) (zle_e rfl)
          have iv_66 : IV z_64 1 41 := iz1 i_65 iv_22 (zle_e rfl) (zle_e rfl)
          refine k_goto 4 X dX11_bestSlipOf_k2.2.2.2.2 (jp_e rfl) ?_
          refine k_lv [(3, .int z_64), (2, .int u_10), (0, .ref h0), (1, .int p0)] [0, 2, 3, 4] rfl ?_
          refine k_sub [(cO11_i1r1i10r1i2r5i2r12i3r4i2 h0 m_thrown a_tape m_taped m_size m_at m_end m_token m_whole m_nameSize m_fault m_place m_trouble a_letters m_failed m_hasHouse a_r a_fresh a_st a_undone a_kept m_undos m_images a_from a_begin a_motor a_change a_startFrame a_changeFrame a_lostAt a_blackAt a_slips a_leftArc a_died a_arcs u_14 m_nearest m_nearestTown a_there a_backAt a_sorted a_parts m_seed1 m_darkNow), (cAI g a_r 311 d_r), (cAI g a_st 44 d_st), (cAI g a_from 8 d_from2_36), (cAI g a_begin 8 d_begin2_32), (cAI g a_motor 8 d_motor2_38), (cAI g a_change 8 d_change2_34), (cAI g a_startFrame 8 d_startFrame2_39), (cAI g a_changeFrame 8 d_changeFrame2_35), (cAI g a_lostAt 8 d_lostAt2_37), (cAI g a_blackAt 8 d_blackAt2_33), (cAI g a_slips 8 uf_23)] [5, 6, 7, 8, 0, 1, 2, 3, 9, 10, 11, 4] rfl (by decide) rfl ?_
          exact ih_17 _ (by omega) d_begin2_32 d_blackAt2_33 d_change2_34 d_changeFrame2_35 d_from2_36 d_lostAt2_37 d_motor2_38 uf_23 d_startFrame2_39 u_10 z_64 u_14 rfl (iv_w iv_55 (zle_e rfl) (zle_e rfl)) (iv_w iv_66 (zle_e rfl) (zle_e rfl))
    · skip
      have j_67 : u_24.toInt < 8 := iv_nle h_29
      have iv_68 : IV u_24 0 7 := iv_ltL (iv_nle h_29) hv_25 iq_8_8_8 (zle_e rfl)
      refine k_aload_n X dX11_bestSlipOf_k0.2.2.1.1 3 rfl ?_
      refine k_get (ci := 11) X inlX11 rfl 30 (nlt_e rfl) dX11_bestSlipOf_k0.2.2.1.2 mw183 0 rfl rfl ?_
      refine k_iload X dX11_bestSlipOf_k0.2.2.2.1 0 rfl ?_
      refine k_iload_n X dX11_bestSlipOf_k0.2.2.2.2 1 rfl ?_
      refine k_iast [(cO11_i1r1i10r1i2r5i2r12i3r4i2 h0 m_thrown a_tape m_taped m_size m_at m_end m_token m_whole m_nameSize m_fault m_place m_trouble a_letters m_failed m_hasHouse a_r a_fresh a_st a_undone a_kept m_undos m_images a_from a_begin a_motor a_change a_startFrame a_changeFrame a_lostAt a_blackAt a_slips a_leftArc a_died a_arcs u_14 m_nearest m_nearestTown a_there a_backAt a_sorted a_parts m_seed1 m_darkNow), (cAI g a_r 311 d_r), (cAI g a_st 44 d_st), (cAI g a_from 8 uf_5), (cAI g a_begin 8 uf_1), (cAI g a_motor 8 uf_7), (cAI g a_change 8 uf_3), (cAI g a_startFrame 8 uf_9), (cAI g a_changeFrame 8 uf_4), (cAI g a_lostAt 8 uf_6), (cAI g a_blackAt 8 uf_2), (cAI g a_slips 8 (upd uf_23 (u_24 : Int32).toNatClampNeg u_12))] X dX11_bestSlipOf_k1.1.1.1.1 11 rfl (iv_in iv_68 (zle_e rfl) (zle_l rfl)) rfl ?_
      refine (fun hg : ∀ fa_69 : Nat → Int32, Wk p l e _ s m args below meth c _ A g _ _ _ [(cO11_i1r1i10r1i2r5i2r12i3r4i2 h0 m_thrown a_tape m_taped m_size m_at m_end m_token m_whole m_nameSize m_fault m_place m_trouble a_letters m_failed m_hasHouse a_r a_fresh a_st a_undone a_kept m_undos m_images a_from a_begin a_motor a_change a_startFrame a_changeFrame a_lostAt a_blackAt a_slips a_leftArc a_died a_arcs u_14 m_nearest m_nearestTown a_there a_backAt a_sorted a_parts m_seed1 m_darkNow), (cAI g a_r 311 d_r), (cAI g a_st 44 d_st), (cAI g a_from 8 uf_5), (cAI g a_begin 8 uf_1), (cAI g a_motor 8 uf_7), (cAI g a_change 8 uf_3), (cAI g a_startFrame 8 uf_9), (cAI g a_changeFrame 8 uf_4), (cAI g a_lostAt 8 uf_6), (cAI g a_blackAt 8 uf_2), (cAI g a_slips 8 fa_69)] _ _ _ => hg _) (fun fa_69 => ?_)
      obtain ⟨z_70, ez_70⟩ : ∃ y : Int32, u_24 + Int32.ofInt 1 = y := ⟨_, rfl⟩
      refine k_iinc z_70 [(4, .int z_70), (3, .int u_12), (2, .int u_10), (0, .ref h0), (1, .int p0)] 0 X dX11_bestSlipOf_k1.1.1.1.2 rfl ez_70 (nlt_e rfl) rfl ?_
      have i_71 : z_70.toInt = u_24.toInt + 1 := in_inc ez_70 (oin_e rfl) iv_68 (zle_e rfl) (zle_e rfl)
      have iv_72 : IV z_70 1 8 := iz1 i_71 iv_68 (zle_e rfl) (zle_e rfl)
      refine k_goto 13 X dX11_bestSlipOf_k1.1.1.2.1 (jp_e rfl) ?_
      exact ih_28 _ (by omega) fa_69 z_70 rfl (iv_w iv_72 (zle_e rfl) (zle_e rfl))

theorem dX11_bestSlip_k0 : (((dD cX11_bestSlip 0 (.aload_n 0) 1 ∧ (dD cX11_bestSlip 1 (.invokevirtual 200) 3 ∧ dD cX11_bestSlip 4 (.aload_n 0) 1)) ∧ ((dD cX11_bestSlip 5 (.iload_n 1) 1 ∧ dD cX11_bestSlip 6 (.invokevirtual 370) 3) ∧ (dD cX11_bestSlip 9 (.ifCond .eq 11) 3 ∧ dD cX11_bestSlip 12 (.aload_n 0) 1))) ∧ ((dD cX11_bestSlip 13 (.iload_n 1) 1 ∧ (dD cX11_bestSlip 14 (.invokevirtual 428) 3 ∧ dD cX11_bestSlip 17 (.goto 8) 3)) ∧ ((dD cX11_bestSlip 20 (.aload_n 0) 1 ∧ dD cX11_bestSlip 21 (.iconst 1) 1) ∧ (dD cX11_bestSlip 22 (.invokevirtual 203) 3 ∧ dD cX11_bestSlip 25 .ireturn 1)))) := dkA14 (by decide +kernel)
set_option maxHeartbeats 4000000 in
set_option maxRecDepth 100000 in
theorem m_bestSlip (l : Launch) (g : Gx) (h0 : Nat) (p0 : Int32) (m_thrown : Int32) (a_tape : Nat) (m_taped : Int32) (m_size : Int32) (m_at : Int32) (m_end : Int32) (m_token : Int32) (m_whole : Int32) (m_nameSize : Int32) (m_fault : Int32) (m_place : Int32) (m_trouble : Int32) (a_letters : Nat) (m_failed : Int32) (m_hasHouse : Int32) (a_r : Nat) (a_fresh : Nat) (a_st : Nat) (a_undone : Nat) (a_kept : Nat) (m_undos : Int32) (m_images : Int32) (a_from : Nat) (a_begin : Nat) (a_motor : Nat) (a_change : Nat) (a_startFrame : Nat) (a_changeFrame : Nat) (a_lostAt : Nat) (a_blackAt : Nat) (a_slips : Nat) (a_leftArc : Nat) (a_died : Nat) (a_arcs : Nat) (m_bestSum : Int32) (m_nearest : Int32) (m_nearestTown : Int32) (a_there : Nat) (a_backAt : Nat) (a_sorted : Nat) (a_parts : Nat) (m_seed1 : Int32) (m_darkNow : Int32) (d_r : Nat → Int32) (d_st : Nat → Int32) (d_from : Nat → Int32) (d_begin : Nat → Int32) (d_motor : Nat → Int32) (d_change : Nat → Int32) (d_startFrame : Nat → Int32) (d_changeFrame : Nat → Int32) (d_lostAt : Nat → Int32) (d_blackAt : Nat → Int32) (d_slips : Nat → Int32) (hv_m_hasHouse : IV m_hasHouse 0 1) (hp_d_r : RInv d_r) : cI l g yX11_bestSlip cX11_bestSlip 2 (some .int) 6 131 0 0 [.ref h0, .int p0] [(cO11_i1r1i10r1i2r5i2r12i3r4i2 h0 m_thrown a_tape m_taped m_size m_at m_end m_token m_whole m_nameSize m_fault m_place m_trouble a_letters m_failed m_hasHouse a_r a_fresh a_st a_undone a_kept m_undos m_images a_from a_begin a_motor a_change a_startFrame a_changeFrame a_lostAt a_blackAt a_slips a_leftArc a_died a_arcs m_bestSum m_nearest m_nearestTown a_there a_backAt a_sorted a_parts m_seed1 m_darkNow), (cAI g a_r 311 d_r), (cAI g a_st 44 d_st), (cAI g a_from 8 d_from), (cAI g a_begin 8 d_begin), (cAI g a_motor 8 d_motor), (cAI g a_change 8 d_change), (cAI g a_startFrame 8 d_startFrame), (cAI g a_changeFrame 8 d_changeFrame), (cAI g a_lostAt 8 d_lostAt), (cAI g a_blackAt 8 d_blackAt), (cAI g a_slips 8 d_slips)] (fun r w => ∃ (d_begin2 : Nat → Int32) (m_bestSum2 : Int32) (d_blackAt2 : Nat → Int32) (d_change2 : Nat → Int32) (d_changeFrame2 : Nat → Int32) (d_from2 : Nat → Int32) (d_lostAt2 : Nat → Int32) (d_motor2 : Nat → Int32) (d_slips2 : Nat → Int32) (d_startFrame2 : Nat → Int32) (m_thrown2 : Int32) (m_trouble2 : Int32), w = [(cO11_i1r1i10r1i2r5i2r12i3r4i2 h0 m_thrown2 a_tape m_taped m_size m_at m_end m_token m_whole m_nameSize m_fault m_place m_trouble2 a_letters m_failed m_hasHouse a_r a_fresh a_st a_undone a_kept m_undos m_images a_from a_begin a_motor a_change a_startFrame a_changeFrame a_lostAt a_blackAt a_slips a_leftArc a_died a_arcs m_bestSum2 m_nearest m_nearestTown a_there a_backAt a_sorted a_parts m_seed1 m_darkNow), (cAI g a_r 311 d_r), (cAI g a_st 44 d_st), (cAI g a_from 8 d_from2), (cAI g a_begin 8 d_begin2), (cAI g a_motor 8 d_motor2), (cAI g a_change 8 d_change2), (cAI g a_startFrame 8 d_startFrame2), (cAI g a_changeFrame 8 d_changeFrame2), (cAI g a_lostAt 8 d_lostAt2), (cAI g a_blackAt 8 d_blackAt2), (cAI g a_slips 8 d_slips2)]) := by
  refine cI.of (by decide) (Nat.le_of_ble_eq_true rfl) ?_
  intro p e s m args below meth c A X hr hi
  refine k_lveq [(0, .ref h0), (1, .int p0)] rfl ?_
  refine k_aload_n X dX11_bestSlip_k0.1.1.1 0 rfl ?_
  refine k_callVV (n := 0) (As := []) (st := []) X [(cO11_i1r1i10r1i2r5i2r12i3r4i2 h0 m_thrown a_tape m_taped m_size m_at m_end m_token m_whole m_nameSize m_fault m_place m_trouble a_letters m_failed m_hasHouse a_r a_fresh a_st a_undone a_kept m_undos m_images a_from a_begin a_motor a_change a_startFrame a_changeFrame a_lostAt a_blackAt a_slips a_leftArc a_died a_arcs m_bestSum m_nearest m_nearestTown a_there a_backAt a_sorted a_parts m_seed1 m_darkNow)] [(cAI g a_r 311 d_r), (cAI g a_st 44 d_st), (cAI g a_from 8 d_from), (cAI g a_begin 8 d_begin), (cAI g a_motor 8 d_motor), (cAI g a_change 8 d_change), (cAI g a_startFrame 8 d_startFrame), (cAI g a_changeFrame 8 d_changeFrame), (cAI g a_lostAt 8 d_lostAt), (cAI g a_blackAt 8 d_blackAt), (cAI g a_slips 8 d_slips)] [0] [1, 2, 3, 4, 5, 6, 7, 8, 9, 10, 11] (m_good l g h0 m_thrown a_tape m_taped m_size m_at m_end m_token m_whole m_nameSize m_fault m_place m_trouble a_letters m_failed m_hasHouse a_r a_fresh a_st a_undone a_kept m_undos m_images a_from a_begin a_motor a_change a_startFrame a_changeFrame a_lostAt a_blackAt a_slips a_leftArc a_died a_arcs m_bestSum m_nearest m_nearestTown a_there a_backAt a_sorted a_parts m_seed1 m_darkNow) dX11_bestSlip_k0.1.1.2.1 mw477 mw478 mw479 mw5 mw480 rfl 11 rfl rfl 0 _ rfl yk_yX11_good_0 rfl (Nat.le_of_ble_eq_true rfl) (Nat.le_of_ble_eq_true rfl) (Nat.le_of_ble_eq_true rfl) (Nat.le_of_ble_eq_true rfl) (Nat.le_of_ble_eq_true rfl) rfl rfl (by decide +kernel) rfl (by decide +kernel) (by decide +kernel) ?_
  rintro w ⟨m_thrown2_1, m_trouble2_2, rfl⟩
  refine k_ws [(cAI g a_r 311 d_r), (cAI g a_st 44 d_st), (cAI g a_from 8 d_from), (cAI g a_begin 8 d_begin), (cAI g a_motor 8 d_motor), (cAI g a_change 8 d_change), (cAI g a_startFrame 8 d_startFrame), (cAI g a_changeFrame 8 d_changeFrame), (cAI g a_lostAt 8 d_lostAt), (cAI g a_blackAt 8 d_blackAt), (cAI g a_slips 8 d_slips), (cO11_i1r1i10r1i2r5i2r12i3r4i2 h0 m_thrown2_1 a_tape m_taped m_size m_at m_end m_token m_whole m_nameSize m_fault m_place m_trouble2_2 a_letters m_failed m_hasHouse a_r a_fresh a_st a_undone a_kept m_undos m_images a_from a_begin a_motor a_change a_startFrame a_changeFrame a_lostAt a_blackAt a_slips a_leftArc a_died a_arcs m_bestSum m_nearest m_nearestTown a_there a_backAt a_sorted a_parts m_seed1 m_darkNow)] rfl ?_
  refine k_aload_n X dX11_bestSlip_k0.1.1.2.2 0 rfl ?_
  refine k_iload_n X dX11_bestSlip_k0.1.2.1.1 1 rfl ?_
  refine k_callVI (n := 1) (As := [.int p0]) (st := []) X [(cO11_i1r1i10r1i2r5i2r12i3r4i2 h0 m_thrown2_1 a_tape m_taped m_size m_at m_end m_token m_whole m_nameSize m_fault m_place m_trouble2_2 a_letters m_failed m_hasHouse a_r a_fresh a_st a_undone a_kept m_undos m_images a_from a_begin a_motor a_change a_startFrame a_changeFrame a_lostAt a_blackAt a_slips a_leftArc a_died a_arcs m_bestSum m_nearest m_nearestTown a_there a_backAt a_sorted a_parts m_seed1 m_darkNow), (cAI g a_r 311 d_r)] [(cAI g a_st 44 d_st), (cAI g a_from 8 d_from), (cAI g a_begin 8 d_begin), (cAI g a_motor 8 d_motor), (cAI g a_change 8 d_change), (cAI g a_startFrame 8 d_startFrame), (cAI g a_changeFrame 8 d_changeFrame), (cAI g a_lostAt 8 d_lostAt), (cAI g a_blackAt 8 d_blackAt), (cAI g a_slips 8 d_slips)] [11, 0] [1, 2, 3, 4, 5, 6, 7, 8, 9, 10] (m_isMan l g h0 p0 m_thrown2_1 a_tape m_taped m_size m_at m_end m_token m_whole m_nameSize m_fault m_place m_trouble2_2 a_letters m_failed m_hasHouse a_r a_fresh a_st a_undone a_kept m_undos m_images a_from a_begin a_motor a_change a_startFrame a_changeFrame a_lostAt a_blackAt a_slips a_leftArc a_died a_arcs m_bestSum m_nearest m_nearestTown a_there a_backAt a_sorted a_parts m_seed1 m_darkNow d_r (iv_w hv_m_hasHouse (zle_e rfl) (zle_e rfl)) hp_d_r) dX11_bestSlip_k0.1.2.1.2 mw811 mw812 mw813 mw5 mw814 rfl 11 rfl rfl 0 _ rfl yk_yX11_isMan_1 rfl (Nat.le_of_ble_eq_true rfl) (Nat.le_of_ble_eq_true rfl) (Nat.le_of_ble_eq_true rfl) (Nat.le_of_ble_eq_true rfl) (Nat.le_of_ble_eq_true rfl) rfl rfl (by decide +kernel) rfl (by decide +kernel) (by decide +kernel) ?_
  rintro r_4 w ⟨iv_5, hk_6, rfl⟩
  refine k_ws [(cAI g a_st 44 d_st), (cAI g a_from 8 d_from), (cAI g a_begin 8 d_begin), (cAI g a_motor 8 d_motor), (cAI g a_change 8 d_change), (cAI g a_startFrame 8 d_startFrame), (cAI g a_changeFrame 8 d_changeFrame), (cAI g a_lostAt 8 d_lostAt), (cAI g a_blackAt 8 d_blackAt), (cAI g a_slips 8 d_slips), (cO11_i1r1i10r1i2r5i2r12i3r4i2 h0 m_thrown2_1 a_tape m_taped m_size m_at m_end m_token m_whole m_nameSize m_fault m_place m_trouble2_2 a_letters m_failed m_hasHouse a_r a_fresh a_st a_undone a_kept m_undos m_images a_from a_begin a_motor a_change a_startFrame a_changeFrame a_lostAt a_blackAt a_slips a_leftArc a_died a_arcs m_bestSum m_nearest m_nearestTown a_there a_backAt a_sorted a_parts m_seed1 m_darkNow), (cAI g a_r 311 d_r)] rfl ?_
  refine k_if_eq 20 X dX11_bestSlip_k0.1.2.2.1 (jp_e rfl) (fun h_7 => ?_) (fun h_7 => ?_)
  · skip
    have iv_8 : IV r_4 0 0 := iv_meet iv_5 (iv_e h_7 iq_0_0_0) (zle_o rfl) (zle_o rfl)
    refine k_aload_n X dX11_bestSlip_k0.2.2.1.1 0 rfl ?_
    refine k_iconst (v := 1) X dX11_bestSlip_k0.2.2.1.2 ic_1 ?_
    refine k_callVI (n := 1) (As := [.int 1]) (st := []) X [(cO11_i1r1i10r1i2r5i2r12i3r4i2 h0 m_thrown2_1 a_tape m_taped m_size m_at m_end m_token m_whole m_nameSize m_fault m_place m_trouble2_2 a_letters m_failed m_hasHouse a_r a_fresh a_st a_undone a_kept m_undos m_images a_from a_begin a_motor a_change a_startFrame a_changeFrame a_lostAt a_blackAt a_slips a_leftArc a_died a_arcs m_bestSum m_nearest m_nearestTown a_there a_backAt a_sorted a_parts m_seed1 m_darkNow)] [(cAI g a_st 44 d_st), (cAI g a_from 8 d_from), (cAI g a_begin 8 d_begin), (cAI g a_motor 8 d_motor), (cAI g a_change 8 d_change), (cAI g a_startFrame 8 d_startFrame), (cAI g a_changeFrame 8 d_changeFrame), (cAI g a_lostAt 8 d_lostAt), (cAI g a_blackAt 8 d_blackAt), (cAI g a_slips 8 d_slips), (cAI g a_r 311 d_r)] [10] [0, 1, 2, 3, 4, 5, 6, 7, 8, 9, 11] (m_no l g h0 1 m_thrown2_1 a_tape m_taped m_size m_at m_end m_token m_whole m_nameSize m_fault m_place m_trouble2_2 a_letters m_failed m_hasHouse a_r a_fresh a_st a_undone a_kept m_undos m_images a_from a_begin a_motor a_change a_startFrame a_changeFrame a_lostAt a_blackAt a_slips a_leftArc a_died a_arcs m_bestSum m_nearest m_nearestTown a_there a_backAt a_sorted a_parts m_seed1 m_darkNow) dX11_bestSlip_k0.2.2.2.1 mw485 mw486 mw487 mw5 mw488 rfl 11 rfl rfl 0 _ rfl yk_yX11_no_1 rfl (Nat.le_of_ble_eq_true rfl) (Nat.le_of_ble_eq_true rfl) (Nat.le_of_ble_eq_true rfl) (Nat.le_of_ble_eq_true rfl) (Nat.le_of_ble_eq_true rfl) rfl rfl (by decide +kernel) rfl (by decide +kernel) (by decide +kernel) ?_
    rintro r_10 w ⟨m_trouble2_9, iv_11, rfl⟩
    refine k_ws [(cAI g a_st 44 d_st), (cAI g a_from 8 d_from), (cAI g a_begin 8 d_begin), (cAI g a_motor 8 d_motor), (cAI g a_change 8 d_change), (cAI g a_startFrame 8 d_startFrame), (cAI g a_changeFrame 8 d_changeFrame), (cAI g a_lostAt 8 d_lostAt), (cAI g a_blackAt 8 d_blackAt), (cAI g a_slips 8 d_slips), (cAI g a_r 311 d_r), (cO11_i1r1i10r1i2r5i2r12i3r4i2 h0 m_thrown2_1 a_tape m_taped m_size m_at m_end m_token m_whole m_nameSize m_fault m_place m_trouble2_9 a_letters m_failed m_hasHouse a_r a_fresh a_st a_undone a_kept m_undos m_images a_from a_begin a_motor a_change a_startFrame a_changeFrame a_lostAt a_blackAt a_slips a_leftArc a_died a_arcs m_bestSum m_nearest m_nearestTown a_there a_backAt a_sorted a_parts m_seed1 m_darkNow)] rfl ?_
    exact k_iret X hr dX11_bestSlip_k0.2.2.2.2 (Nat.le_of_ble_eq_true rfl) (Nat.le_of_ble_eq_true rfl) [11, 10, 0, 1, 2, 3, 4, 5, 6, 7, 8, 9] (vnd_e rfl) rfl rfl (exI12 d_begin m_bestSum d_blackAt d_change d_changeFrame d_from d_lostAt d_motor d_slips d_startFrame m_thrown2_1 m_trouble2_9 rfl)
  · skip
    have hc_12 := hk_6.resolve_left h_7
    have iv_13 : IV p0 0 3 := iv_meet (iv_any p0) hc_12 (zle_o rfl) (zle_o rfl)
    have iv_14 : IV r_4 1 1 := iv_neL h_7 iv_5 iq_0_0_0 (zle_e rfl)
    refine k_aload_n X dX11_bestSlip_k0.1.2.2.2 0 rfl ?_
    refine k_iload_n X dX11_bestSlip_k0.2.1.1 1 rfl ?_
    refine k_callVI (n := 1) (As := [.int p0]) (st := []) X [(cO11_i1r1i10r1i2r5i2r12i3r4i2 h0 m_thrown2_1 a_tape m_taped m_size m_at m_end m_token m_whole m_nameSize m_fault m_place m_trouble2_2 a_letters m_failed m_hasHouse a_r a_fresh a_st a_undone a_kept m_undos m_images a_from a_begin a_motor a_change a_startFrame a_changeFrame a_lostAt a_blackAt a_slips a_leftArc a_died a_arcs m_bestSum m_nearest m_nearestTown a_there a_backAt a_sorted a_parts m_seed1 m_darkNow), (cAI g a_r 311 d_r), (cAI g a_st 44 d_st), (cAI g a_from 8 d_from), (cAI g a_begin 8 d_begin), (cAI g a_motor 8 d_motor), (cAI g a_change 8 d_change), (cAI g a_startFrame 8 d_startFrame), (cAI g a_changeFrame 8 d_changeFrame), (cAI g a_lostAt 8 d_lostAt), (cAI g a_blackAt 8 d_blackAt), (cAI g a_slips 8 d_slips)] [] [10, 11, 0, 1, 2, 3, 4, 5, 6, 7, 8, 9] [] (m_bestSlipOf l g h0 p0 m_thrown2_1 a_tape m_taped m_size m_at m_end m_token m_whole m_nameSize m_fault m_place m_trouble2_2 a_letters m_failed m_hasHouse a_r a_fresh a_st a_undone a_kept m_undos m_images a_from a_begin a_motor a_change a_startFrame a_changeFrame a_lostAt a_blackAt a_slips a_leftArc a_died a_arcs m_bestSum m_nearest m_nearestTown a_there a_backAt a_sorted a_parts m_seed1 m_darkNow d_r d_st d_from d_begin d_motor d_change d_startFrame d_changeFrame d_lostAt d_blackAt d_slips (iv_w iv_13 (zle_e rfl) (zle_e rfl)) hp_d_r) dX11_bestSlip_k0.2.1.2.1 mw997 mw998 mw999 mw5 mw1000 rfl 11 rfl rfl 0 _ rfl yk_yX11_bestSlipOf_1 rfl (Nat.le_of_ble_eq_true rfl) (Nat.le_of_ble_eq_true rfl) (Nat.le_of_ble_eq_true rfl) (Nat.le_of_ble_eq_true rfl) (Nat.le_of_ble_eq_true rfl) rfl rfl (by decide +kernel) rfl (by decide +kernel) (by decide +kernel) ?_
    intro r_25 w zq
    refine exL10 zq ?_
    clear zq
    intro d_begin2_15 m_bestSum2_16 d_blackAt2_17 d_change2_18 d_changeFrame2_19 d_from2_20 d_lostAt2_21 d_motor2_22 d_slips2_23 d_startFrame2_24 zq
    subst zq
    refine k_ws [(cO11_i1r1i10r1i2r5i2r12i3r4i2 h0 m_thrown2_1 a_tape m_taped m_size m_at m_end m_token m_whole m_nameSize m_fault m_place m_trouble2_2 a_letters m_failed m_hasHouse a_r a_fresh a_st a_undone a_kept m_undos m_images a_from a_begin a_motor a_change a_startFrame a_changeFrame a_lostAt a_blackAt a_slips a_leftArc a_died a_arcs m_bestSum2_16 m_nearest m_nearestTown a_there a_backAt a_sorted a_parts m_seed1 m_darkNow), (cAI g a_r 311 d_r), (cAI g a_st 44 d_st), (cAI g a_from 8 d_from2_20), (cAI g a_begin 8 d_begin2_15), (cAI g a_motor 8 d_motor2_22), (cAI g a_change 8 d_change2_18), (cAI g a_startFrame 8 d_startFrame2_24), (cAI g a_changeFrame 8 d_changeFrame2_19), (cAI g a_lostAt 8 d_lostAt2_21), (cAI g a_blackAt 8 d_blackAt2_17), (cAI g a_slips 8 d_slips2_23)] rfl ?_
    refine k_goto 25 X dX11_bestSlip_k0.2.1.2.2 (jp_e rfl) ?_
    exact k_iret X hr dX11_bestSlip_k0.2.2.2.2 (Nat.le_of_ble_eq_true rfl) (Nat.le_of_ble_eq_true rfl) [0, 1, 2, 3, 4, 5, 6, 7, 8, 9, 10, 11] (vnd_e rfl) rfl rfl (exI12 d_begin2_15 m_bestSum2_16 d_blackAt2_17 d_change2_18 d_changeFrame2_19 d_from2_20 d_lostAt2_21 d_motor2_22 d_slips2_23 d_startFrame2_24 m_thrown2_1 m_trouble2_2 rfl)

theorem dX11_bySlip_k0 : ((((dD cX11_bySlip 0 (.aload_n 0) 1 ∧ dD cX11_bySlip 1 (.invokevirtual 200) 3) ∧ (dD cX11_bySlip 4 (.aload_n 0) 1 ∧ dD cX11_bySlip 5 (.iload_n 1) 1)) ∧ ((dD cX11_bySlip 6 (.invokevirtual 370) 3 ∧ dD cX11_bySlip 9 (.ifCond .ne 9) 3) ∧ (dD cX11_bySlip 12 (.aload_n 0) 1 ∧ dD cX11_bySlip 13 (.iconst 1) 1))) ∧ (((dD cX11_bySlip 14 (.invokevirtual 203) 3 ∧ dD cX11_bySlip 17 .ireturn 1) ∧ (dD cX11_bySlip 18 (.aload_n 0) 1 ∧ dD cX11_bySlip 19 (.iload_n 1) 1)) ∧ ((dD cX11_bySlip 20 (.invokevirtual 428) 3 ∧ dD cX11_bySlip 23 .pop 1) ∧ (dD cX11_bySlip 24 (.aload_n 0) 1 ∧ dD cX11_bySlip 25 (.getfield 425) 3)))) := dkA16 (by decide +kernel)
theorem dX11_bySlip_k1 : dD cX11_bySlip 28 .ireturn 1 := dkA1 (by decide +kernel)
set_option maxHeartbeats 4000000 in
set_option maxRecDepth 100000 in
theorem m_bySlip (l : Launch) (g : Gx) (h0 : Nat) (p0 : Int32) (m_thrown : Int32) (a_tape : Nat) (m_taped : Int32) (m_size : Int32) (m_at : Int32) (m_end : Int32) (m_token : Int32) (m_whole : Int32) (m_nameSize : Int32) (m_fault : Int32) (m_place : Int32) (m_trouble : Int32) (a_letters : Nat) (m_failed : Int32) (m_hasHouse : Int32) (a_r : Nat) (a_fresh : Nat) (a_st : Nat) (a_undone : Nat) (a_kept : Nat) (m_undos : Int32) (m_images : Int32) (a_from : Nat) (a_begin : Nat) (a_motor : Nat) (a_change : Nat) (a_startFrame : Nat) (a_changeFrame : Nat) (a_lostAt : Nat) (a_blackAt : Nat) (a_slips : Nat) (a_leftArc : Nat) (a_died : Nat) (a_arcs : Nat) (m_bestSum : Int32) (m_nearest : Int32) (m_nearestTown : Int32) (a_there : Nat) (a_backAt : Nat) (a_sorted : Nat) (a_parts : Nat) (m_seed1 : Int32) (m_darkNow : Int32) (d_r : Nat → Int32) (d_st : Nat → Int32) (d_from : Nat → Int32) (d_begin : Nat → Int32) (d_motor : Nat → Int32) (d_change : Nat → Int32) (d_startFrame : Nat → Int32) (d_changeFrame : Nat → Int32) (d_lostAt : Nat → Int32) (d_blackAt : Nat → Int32) (d_slips : Nat → Int32) (hv_m_hasHouse : IV m_hasHouse 0 1) (hp_d_r : RInv d_r) : cI l g yX11_bySlip cX11_bySlip 2 (some .int) 6 131 0 0 [.ref h0, .int p0] [(cO11_i1r1i10r1i2r5i2r12i3r4i2 h0 m_thrown a_tape m_taped m_size m_at m_end m_token m_whole m_nameSize m_fault m_place m_trouble a_letters m_failed m_hasHouse a_r a_fresh a_st a_undone a_kept m_undos m_images a_from a_begin a_motor a_change a_startFrame a_changeFrame a_lostAt a_blackAt a_slips a_leftArc a_died a_arcs m_bestSum m_nearest m_nearestTown a_there a_backAt a_sorted a_parts m_seed1 m_darkNow), (cAI g a_r 311 d_r), (cAI g a_st 44 d_st), (cAI g a_from 8 d_from), (cAI g a_begin 8 d_begin), (cAI g a_motor 8 d_motor), (cAI g a_change 8 d_change), (cAI g a_startFrame 8 d_startFrame), (cAI g a_changeFrame 8 d_changeFrame), (cAI g a_lostAt 8 d_lostAt), (cAI g a_blackAt 8 d_blackAt), (cAI g a_slips 8 d_slips)] (fun r w => ∃ (d_begin2 : Nat → Int32) (m_bestSum2 : Int32) (d_blackAt2 : Nat → Int32) (d_change2 : Nat → Int32) (d_changeFrame2 : Nat → Int32) (d_from2 : Nat → Int32) (d_lostAt2 : Nat → Int32) (d_motor2 : Nat → Int32) (d_slips2 : Nat → Int32) (d_startFrame2 : Nat → Int32) (m_thrown2 : Int32) (m_trouble2 : Int32), w = [(cO11_i1r1i10r1i2r5i2r12i3r4i2 h0 m_thrown2 a_tape m_taped m_size m_at m_end m_token m_whole m_nameSize m_fault m_place m_trouble2 a_letters m_failed m_hasHouse a_r a_fresh a_st a_undone a_kept m_undos m_images a_from a_begin a_motor a_change a_startFrame a_changeFrame a_lostAt a_blackAt a_slips a_leftArc a_died a_arcs m_bestSum2 m_nearest m_nearestTown a_there a_backAt a_sorted a_parts m_seed1 m_darkNow), (cAI g a_r 311 d_r), (cAI g a_st 44 d_st), (cAI g a_from 8 d_from2), (cAI g a_begin 8 d_begin2), (cAI g a_motor 8 d_motor2), (cAI g a_change 8 d_change2), (cAI g a_startFrame 8 d_startFrame2), (cAI g a_changeFrame 8 d_changeFrame2), (cAI g a_lostAt 8 d_lostAt2), (cAI g a_blackAt 8 d_blackAt2), (cAI g a_slips 8 d_slips2)]) := by
  refine cI.of (by decide) (Nat.le_of_ble_eq_true rfl) ?_
  intro p e s m args below meth c A X hr hi
  refine k_lveq [(0, .ref h0), (1, .int p0)] rfl ?_
  refine k_aload_n X dX11_bySlip_k0.1.1.1.1 0 rfl ?_
  refine k_callVV (n := 0) (As := []) (st := []) X [(cO11_i1r1i10r1i2r5i2r12i3r4i2 h0 m_thrown a_tape m_taped m_size m_at m_end m_token m_whole m_nameSize m_fault m_place m_trouble a_letters m_failed m_hasHouse a_r a_fresh a_st a_undone a_kept m_undos m_images a_from a_begin a_motor a_change a_startFrame a_changeFrame a_lostAt a_blackAt a_slips a_leftArc a_died a_arcs m_bestSum m_nearest m_nearestTown a_there a_backAt a_sorted a_parts m_seed1 m_darkNow)] [(cAI g a_r 311 d_r), (cAI g a_st 44 d_st), (cAI g a_from 8 d_from), (cAI g a_begin 8 d_begin), (cAI g a_motor 8 d_motor), (cAI g a_change 8 d_change), (cAI g a_startFrame 8 d_startFrame), (cAI g a_changeFrame 8 d_changeFrame), (cAI g a_lostAt 8 d_lostAt), (cAI g a_blackAt 8 d_blackAt), (cAI g a_slips 8 d_slips)] [0] [1, 2, 3, 4, 5, 6, 7, 8, 9, 10, 11] (m_good l g h0 m_thrown a_tape m_taped m_size m_at m_end m_token m_whole m_nameSize m_fault m_place m_trouble a_letters m_failed m_hasHouse a_r a_fresh a_st a_undone a_kept m_undos m_images a_from a_begin a_motor a_change a_startFrame a_changeFrame a_lostAt a_blackAt a_slips a_leftArc a_died a_arcs m_bestSum m_nearest m_nearestTown a_there a_backAt a_sorted a_parts m_seed1 m_darkNow) dX11_bySlip_k0.1.1.1.2 mw477 mw478 mw479 mw5 mw480 rfl 11 rfl rfl 0 _ rfl yk_yX11_good_0 rfl (Nat.le_of_ble_eq_true rfl) (Nat.le_of_ble_eq_true rfl) (Nat.le_of_ble_eq_true rfl) (Nat.le_of_ble_eq_true rfl) (Nat.le_of_ble_eq_true rfl) rfl rfl (by decide +kernel) rfl (by decide +kernel) (by decide +kernel) ?_
  rintro w ⟨m_thrown2_1, m_trouble2_2, rfl⟩
  refine k_ws [(cAI g a_r 311 d_r), (cAI g a_st 44 d_st), (cAI g a_from 8 d_from), (cAI g a_begin 8 d_begin), (cAI g a_motor 8 d_motor), (cAI g a_change 8 d_change), (cAI g a_startFrame 8 d_startFrame), (cAI g a_changeFrame 8 d_changeFrame), (cAI g a_lostAt 8 d_lostAt), (cAI g a_blackAt 8 d_blackAt), (cAI g a_slips 8 d_slips), (cO11_i1r1i10r1i2r5i2r12i3r4i2 h0 m_thrown2_1 a_tape m_taped m_size m_at m_end m_token m_whole m_nameSize m_fault m_place m_trouble2_2 a_letters m_failed m_hasHouse a_r a_fresh a_st a_undone a_kept m_undos m_images a_from a_begin a_motor a_change a_startFrame a_changeFrame a_lostAt a_blackAt a_slips a_leftArc a_died a_arcs m_bestSum m_nearest m_nearestTown a_there a_backAt a_sorted a_parts m_seed1 m_darkNow)] rfl ?_
  refine k_aload_n X dX11_bySlip_k0.1.1.2.1 0 rfl ?_
  refine k_iload_n X dX11_bySlip_k0.1.1.2.2 1 rfl ?_
  refine k_callVI (n := 1) (As := [.int p0]) (st := []) X [(cO11_i1r1i10r1i2r5i2r12i3r4i2 h0 m_thrown2_1 a_tape m_taped m_size m_at m_end m_token m_whole m_nameSize m_fault m_place m_trouble2_2 a_letters m_failed m_hasHouse a_r a_fresh a_st a_undone a_kept m_undos m_images a_from a_begin a_motor a_change a_startFrame a_changeFrame a_lostAt a_blackAt a_slips a_leftArc a_died a_arcs m_bestSum m_nearest m_nearestTown a_there a_backAt a_sorted a_parts m_seed1 m_darkNow), (cAI g a_r 311 d_r)] [(cAI g a_st 44 d_st), (cAI g a_from 8 d_from), (cAI g a_begin 8 d_begin), (cAI g a_motor 8 d_motor), (cAI g a_change 8 d_change), (cAI g a_startFrame 8 d_startFrame), (cAI g a_changeFrame 8 d_changeFrame), (cAI g a_lostAt 8 d_lostAt), (cAI g a_blackAt 8 d_blackAt), (cAI g a_slips 8 d_slips)] [11, 0] [1, 2, 3, 4, 5, 6, 7, 8, 9, 10] (m_isMan l g h0 p0 m_thrown2_1 a_tape m_taped m_size m_at m_end m_token m_whole m_nameSize m_fault m_place m_trouble2_2 a_letters m_failed m_hasHouse a_r a_fresh a_st a_undone a_kept m_undos m_images a_from a_begin a_motor a_change a_startFrame a_changeFrame a_lostAt a_blackAt a_slips a_leftArc a_died a_arcs m_bestSum m_nearest m_nearestTown a_there a_backAt a_sorted a_parts m_seed1 m_darkNow d_r (iv_w hv_m_hasHouse (zle_e rfl) (zle_e rfl)) hp_d_r) dX11_bySlip_k0.1.2.1.1 mw811 mw812 mw813 mw5 mw814 rfl 11 rfl rfl 0 _ rfl yk_yX11_isMan_1 rfl (Nat.le_of_ble_eq_true rfl) (Nat.le_of_ble_eq_true rfl) (Nat.le_of_ble_eq_true rfl) (Nat.le_of_ble_eq_true rfl) (Nat.le_of_ble_eq_true rfl) rfl rfl (by decide +kernel) rfl (by decide +kernel) (by decide +kernel) ?_
  rintro r_4 w ⟨iv_5, hk_6, rfl⟩
  refine k_ws [(cAI g a_st 44 d_st), (cAI g a_from 8 d_from), (cAI g a_begin 8 d_begin), (cAI g a_motor 8 d_motor), (cAI g a_change 8 d_change), (cAI g a_startFrame 8 d_startFrame), (cAI g a_changeFrame 8 d_changeFrame), (cAI g a_lostAt 8 d_lostAt), (cAI g a_blackAt 8 d_blackAt), (cAI g a_slips 8 d_slips), (cO11_i1r1i10r1i2r5i2r12i3r4i2 h0 m_thrown2_1 a_tape m_taped m_size m_at m_end m_token m_whole m_nameSize m_fault m_place m_trouble2_2 a_letters m_failed m_hasHouse a_r a_fresh a_st a_undone a_kept m_undos m_images a_from a_begin a_motor a_change a_startFrame a_changeFrame a_lostAt a_blackAt a_slips a_leftArc a_died a_arcs m_bestSum m_nearest m_nearestTown a_there a_backAt a_sorted a_parts m_seed1 m_darkNow), (cAI g a_r 311 d_r)] rfl ?_
  refine k_if_ne 18 X dX11_bySlip_k0.1.2.1.2 (jp_e rfl) (fun h_7 => ?_) (fun h_7 => ?_)
  · skip
    have hc_8 := hk_6.resolve_left h_7
    have iv_9 : IV p0 0 3 := iv_meet (iv_any p0) hc_8 (zle_o rfl) (zle_o rfl)
    have iv_10 : IV r_4 1 1 := iv_neL h_7 iv_5 iq_0_0_0 (zle_e rfl)
    refine k_aload_n X dX11_bySlip_k0.2.1.2.1 0 rfl ?_
    refine k_iload_n X dX11_bySlip_k0.2.1.2.2 1 rfl ?_
    refine k_callVI (n := 1) (As := [.int p0]) (st := []) X [(cO11_i1r1i10r1i2r5i2r12i3r4i2 h0 m_thrown2_1 a_tape m_taped m_size m_at m_end m_token m_whole m_nameSize m_fault m_place m_trouble2_2 a_letters m_failed m_hasHouse a_r a_fresh a_st a_undone a_kept m_undos m_images a_from a_begin a_motor a_change a_startFrame a_changeFrame a_lostAt a_blackAt a_slips a_leftArc a_died a_arcs m_bestSum m_nearest m_nearestTown a_there a_backAt a_sorted a_parts m_seed1 m_darkNow), (cAI g a_r 311 d_r), (cAI g a_st 44 d_st), (cAI g a_from 8 d_from), (cAI g a_begin 8 d_begin), (cAI g a_motor 8 d_motor), (cAI g a_change 8 d_change), (cAI g a_startFrame 8 d_startFrame), (cAI g a_changeFrame 8 d_changeFrame), (cAI g a_lostAt 8 d_lostAt), (cAI g a_blackAt 8 d_blackAt), (cAI g a_slips 8 d_slips)] [] [10, 11, 0, 1, 2, 3, 4, 5, 6, 7, 8, 9] [] (m_bestSlipOf l g h0 p0 m_thrown2_1 a_tape m_taped m_size m_at m_end m_token m_whole m_nameSize m_fault m_place m_trouble2_2 a_letters m_failed m_hasHouse a_r a_fresh a_st a_undone a_kept m_undos m_images a_from a_begin a_motor a_change a_startFrame a_changeFrame a_lostAt a_blackAt a_slips a_leftArc a_died a_arcs m_bestSum m_nearest m_nearestTown a_there a_backAt a_sorted a_parts m_seed1 m_darkNow d_r d_st d_from d_begin d_motor d_change d_startFrame d_changeFrame d_lostAt d_blackAt d_slips (iv_w iv_9 (zle_e rfl) (zle_e rfl)) hp_d_r) dX11_bySlip_k0.2.2.1.1 mw997 mw998 mw999 mw5 mw1000 rfl 11 rfl rfl 0 _ rfl yk_yX11_bestSlipOf_1 rfl (Nat.le_of_ble_eq_true rfl) (Nat.le_of_ble_eq_true rfl) (Nat.le_of_ble_eq_true rfl) (Nat.le_of_ble_eq_true rfl) (Nat.le_of_ble_eq_true rfl) rfl rfl (by decide +kernel) rfl (by decide +kernel) (by decide +kernel) ?_
    intro r_21 w zq
    refine exL10 zq ?_
    clear zq
    intro d_begin2_11 m_bestSum2_12 d_blackAt2_13 d_change2_14 d_changeFrame2_15 d_from2_16 d_lostAt2_17 d_motor2_18 d_slips2_19 d_startFrame2_20 zq
    subst zq
    refine k_ws [(cO11_i1r1i10r1i2r5i2r12i3r4i2 h0 m_thrown2_1 a_tape m_taped m_size m_at m_end m_token m_whole m_nameSize m_fault m_place m_trouble2_2 a_letters m_failed m_hasHouse a_r a_fresh a_st a_undone a_kept m_undos m_images a_from a_begin a_motor a_change a_startFrame a_changeFrame a_lostAt a_blackAt a_slips a_leftArc a_died a_arcs m_bestSum2_12 m_nearest m_nearestTown a_there a_backAt a_sorted a_parts m_seed1 m_darkNow), (cAI g a_r 311 d_r), (cAI g a_st 44 d_st), (cAI g a_from 8 d_from2_16), (cAI g a_begin 8 d_begin2_11), (cAI g a_motor 8 d_motor2_18), (cAI g a_change 8 d_change2_14), (cAI g a_startFrame 8 d_startFrame2_20), (cAI g a_changeFrame 8 d_changeFrame2_15), (cAI g a_lostAt 8 d_lostAt2_17), (cAI g a_blackAt 8 d_blackAt2_13), (cAI g a_slips 8 d_slips2_19)] rfl ?_
    refine k_pop X dX11_bySlip_k0.2.2.1.2 rfl ?_
    refine k_aload_n X dX11_bySlip_k0.2.2.2.1 0 rfl ?_
    refine k_get (ci := 11) X inlX11 rfl 34 (nlt_e rfl) dX11_bySlip_k0.2.2.2.2 mw1001 0 rfl rfl ?_
    exact k_iret X hr dX11_bySlip_k1 (Nat.le_of_ble_eq_true rfl) (Nat.le_of_ble_eq_true rfl) [0, 1, 2, 3, 4, 5, 6, 7, 8, 9, 10, 11] (vnd_e rfl) rfl rfl (exI12 d_begin2_11 m_bestSum2_12 d_blackAt2_13 d_change2_14 d_changeFrame2_15 d_from2_16 d_lostAt2_17 d_motor2_18 d_slips2_19 d_startFrame2_20 m_thrown2_1 m_trouble2_2 rfl)
  · skip
    have iv_22 : IV r_4 0 0 := iv_meet iv_5 (iv_e h_7 iq_0_0_0) (zle_o rfl) (zle_o rfl)
    refine k_aload_n X dX11_bySlip_k0.1.2.2.1 0 rfl ?_
    refine k_iconst (v := 1) X dX11_bySlip_k0.1.2.2.2 ic_1 ?_
    refine k_callVI (n := 1) (As := [.int 1]) (st := []) X [(cO11_i1r1i10r1i2r5i2r12i3r4i2 h0 m_thrown2_1 a_tape m_taped m_size m_at m_end m_token m_whole m_nameSize m_fault m_place m_trouble2_2 a_letters m_failed m_hasHouse a_r a_fresh a_st a_undone a_kept m_undos m_images a_from a_begin a_motor a_change a_startFrame a_changeFrame a_lostAt a_blackAt a_slips a_leftArc a_died a_arcs m_bestSum m_nearest m_nearestTown a_there a_backAt a_sorted a_parts m_seed1 m_darkNow)] [(cAI g a_st 44 d_st), (cAI g a_from 8 d_from), (cAI g a_begin 8 d_begin), (cAI g a_motor 8 d_motor), (cAI g a_change 8 d_change), (cAI g a_startFrame 8 d_startFrame), (cAI g a_changeFrame 8 d_changeFrame), (cAI g a_lostAt 8 d_lostAt), (cAI g a_blackAt 8 d_blackAt), (cAI g a_slips 8 d_slips), (cAI g a_r 311 d_r)] [10] [0, 1, 2, 3, 4, 5, 6, 7, 8, 9, 11] (m_no l g h0 1 m_thrown2_1 a_tape m_taped m_size m_at m_end m_token m_whole m_nameSize m_fault m_place m_trouble2_2 a_letters m_failed m_hasHouse a_r a_fresh a_st a_undone a_kept m_undos m_images a_from a_begin a_motor a_change a_startFrame a_changeFrame a_lostAt a_blackAt a_slips a_leftArc a_died a_arcs m_bestSum m_nearest m_nearestTown a_there a_backAt a_sorted a_parts m_seed1 m_darkNow) dX11_bySlip_k0.2.1.1.1 mw485 mw486 mw487 mw5 mw488 rfl 11 rfl rfl 0 _ rfl yk_yX11_no_1 rfl (Nat.le_of_ble_eq_true rfl) (Nat.le_of_ble_eq_true rfl) (Nat.le_of_ble_eq_true rfl) (Nat.le_of_ble_eq_true rfl) (Nat.le_of_ble_eq_true rfl) rfl rfl (by decide +kernel) rfl (by decide +kernel) (by decide +kernel) ?_
    rintro r_24 w ⟨m_trouble2_23, iv_25, rfl⟩
    refine k_ws [(cAI g a_st 44 d_st), (cAI g a_from 8 d_from), (cAI g a_begin 8 d_begin), (cAI g a_motor 8 d_motor), (cAI g a_change 8 d_change), (cAI g a_startFrame 8 d_startFrame), (cAI g a_changeFrame 8 d_changeFrame), (cAI g a_lostAt 8 d_lostAt), (cAI g a_blackAt 8 d_blackAt), (cAI g a_slips 8 d_slips), (cAI g a_r 311 d_r), (cO11_i1r1i10r1i2r5i2r12i3r4i2 h0 m_thrown2_1 a_tape m_taped m_size m_at m_end m_token m_whole m_nameSize m_fault m_place m_trouble2_23 a_letters m_failed m_hasHouse a_r a_fresh a_st a_undone a_kept m_undos m_images a_from a_begin a_motor a_change a_startFrame a_changeFrame a_lostAt a_blackAt a_slips a_leftArc a_died a_arcs m_bestSum m_nearest m_nearestTown a_there a_backAt a_sorted a_parts m_seed1 m_darkNow)] rfl ?_
    exact k_iret X hr dX11_bySlip_k0.2.1.1.2 (Nat.le_of_ble_eq_true rfl) (Nat.le_of_ble_eq_true rfl) [11, 10, 0, 1, 2, 3, 4, 5, 6, 7, 8, 9] (vnd_e rfl) rfl rfl (exI12 d_begin m_bestSum d_blackAt d_change d_changeFrame d_from d_lostAt d_motor d_slips d_startFrame m_thrown2_1 m_trouble2_23 rfl)

theorem dX11_farOf_k0 : ((((dD cX11_farOf 0 (.aload_n 0) 1 ∧ dD cX11_farOf 1 (.getfield 20) 3) ∧ (dD cX11_farOf 4 (.sipush 155) 3 ∧ dD cX11_farOf 7 (.iconst 2) 1)) ∧ ((dD cX11_farOf 8 (.iload_n 1) 1 ∧ dD cX11_farOf 9 .imul 1) ∧ (dD cX11_farOf 10 .iadd 1 ∧ dD cX11_farOf 11 .iaload 1))) ∧ (((dD cX11_farOf 12 (.istore_n 3) 1 ∧ dD cX11_farOf 13 (.aload_n 0) 1) ∧ (dD cX11_farOf 14 (.getfield 20) 3 ∧ dD cX11_farOf 17 (.sipush 155) 3)) ∧ ((dD cX11_farOf 20 (.iconst 2) 1 ∧ dD cX11_farOf 21 (.iload_n 1) 1) ∧ (dD cX11_farOf 22 .imul 1 ∧ dD cX11_farOf 23 .iadd 1)))) := dkA16 (by decide +kernel)
theorem dX11_farOf_k1 : ((((dD cX11_farOf 24 (.iconst 1) 1 ∧ dD cX11_farOf 25 .iadd 1) ∧ (dD cX11_farOf 26 .iaload 1 ∧ dD cX11_farOf 27 (.aload_n 0) 1)) ∧ ((dD cX11_farOf 28 (.getfield 26) 3 ∧ dD cX11_farOf 31 (.bipush 8) 2) ∧ (dD cX11_farOf 33 (.iload_n 3) 1 ∧ dD cX11_farOf 34 .iadd 1))) ∧ (((dD cX11_farOf 35 .iaload 1 ∧ dD cX11_farOf 36 .isub 1) ∧ (dD cX11_farOf 37 (.istore 4) 2 ∧ dD cX11_farOf 39 (.iconst (-1)) 1)) ∧ ((dD cX11_farOf 40 (.istore 5) 2 ∧ dD cX11_farOf 42 (.iconst 0) 1) ∧ (dD cX11_farOf 43 (.istore 6) 2 ∧ dD cX11_farOf 45 (.iload 6) 2)))) := dkA16 (by decide +kernel)
theorem dX11_farOf_k2 : ((((dD cX11_farOf 47 (.aload_n 0) 1 ∧ dD cX11_farOf 48 (.getfield 20) 3) ∧ (dD cX11_farOf 51 (.bipush 8) 2 ∧ dD cX11_farOf 53 .iaload 1)) ∧ ((dD cX11_farOf 54 (.if_icmp .ge 102) 3 ∧ dD cX11_farOf 57 (.aload_n 0) 1) ∧ (dD cX11_farOf 58 (.getfield 20) 3 ∧ dD cX11_farOf 61 (.bipush 44) 2))) ∧ (((dD cX11_farOf 63 (.iconst 3) 1 ∧ dD cX11_farOf 64 (.iload 6) 2) ∧ (dD cX11_farOf 66 .imul 1 ∧ dD cX11_farOf 67 .iadd 1)) ∧ ((dD cX11_farOf 68 (.iconst 2) 1 ∧ dD cX11_farOf 69 .iadd 1) ∧ (dD cX11_farOf 70 .iaload 1 ∧ dD cX11_farOf 71 (.iload_n 2) 1)))) := dkA16 (by decide +kernel)
theorem dX11_farOf_k3 : ((((dD cX11_farOf 72 (.if_icmp .eq 6) 3 ∧ dD cX11_farOf 75 (.goto 75) 3) ∧ (dD cX11_farOf 78 (.aload_n 0) 1 ∧ dD cX11_farOf 79 (.getfield 26) 3)) ∧ ((dD cX11_farOf 82 (.bipush 16) 2 ∧ dD cX11_farOf 84 (.iload 6) 2) ∧ (dD cX11_farOf 86 .iadd 1 ∧ dD cX11_farOf 87 .iaload 1))) ∧ (((dD cX11_farOf 88 (.aload_n 0) 1 ∧ dD cX11_farOf 89 (.getfield 26) 3) ∧ (dD cX11_farOf 92 (.bipush 8) 2 ∧ dD cX11_farOf 94 (.aload_n 0) 1)) ∧ ((dD cX11_farOf 95 (.getfield 20) 3 ∧ dD cX11_farOf 98 (.bipush 44) 2) ∧ (dD cX11_farOf 100 (.iconst 3) 1 ∧ dD cX11_farOf 101 (.iload 6) 2)))) := dkA16 (by decide +kernel)
theorem dX11_farOf_k4 : ((((dD cX11_farOf 103 .imul 1 ∧ dD cX11_farOf 104 .iadd 1) ∧ (dD cX11_farOf 105 .iaload 1 ∧ dD cX11_farOf 106 .iadd 1)) ∧ ((dD cX11_farOf 107 .iaload 1 ∧ dD cX11_farOf 108 .isub 1) ∧ (dD cX11_farOf 109 (.iload 4) 2 ∧ dD cX11_farOf 111 .isub 1))) ∧ (((dD cX11_farOf 112 (.istore 7) 2 ∧ dD cX11_farOf 114 (.iload 7) 2) ∧ (dD cX11_farOf 116 (.ifCond .ge 9) 3 ∧ dD cX11_farOf 119 (.iload 7) 2)) ∧ ((dD cX11_farOf 121 .ineg 1 ∧ dD cX11_farOf 122 (.goto 5) 3) ∧ (dD cX11_farOf 125 (.iload 7) 2 ∧ dD cX11_farOf 127 (.istore 7) 2)))) := dkA16 (by decide +kernel)
theorem dX11_farOf_k5 : (((dD cX11_farOf 129 (.iload 5) 2 ∧ (dD cX11_farOf 131 (.ifCond .lt 10) 3 ∧ dD cX11_farOf 134 (.iload 7) 2)) ∧ (dD cX11_farOf 136 (.iload 5) 2 ∧ (dD cX11_farOf 138 (.if_icmp .ge 8) 3 ∧ dD cX11_farOf 141 (.iload 7) 2))) ∧ ((dD cX11_farOf 143 (.goto 5) 3 ∧ (dD cX11_farOf 146 (.iload 5) 2 ∧ dD cX11_farOf 148 (.istore 5) 2)) ∧ ((dD cX11_farOf 150 (.iinc 6 1) 3 ∧ dD cX11_farOf 153 (.goto (-108)) 3) ∧ (dD cX11_farOf 156 (.iload 5) 2 ∧ dD cX11_farOf 158 .ireturn 1)))) := dkA13 (by decide +kernel)
set_option maxHeartbeats 4000000 in
set_option maxRecDepth 100000 in
theorem m_farOf (l : Launch) (g : Gx) (h0 : Nat) (p0 : Int32) (p1 : Int32) (m_thrown : Int32) (a_tape : Nat) (m_taped : Int32) (m_size : Int32) (m_at : Int32) (m_end : Int32) (m_token : Int32) (m_whole : Int32) (m_nameSize : Int32) (m_fault : Int32) (m_place : Int32) (m_trouble : Int32) (a_letters : Nat) (m_failed : Int32) (m_hasHouse : Int32) (a_r : Nat) (a_fresh : Nat) (a_st : Nat) (a_undone : Nat) (a_kept : Nat) (m_undos : Int32) (m_images : Int32) (a_from : Nat) (a_begin : Nat) (a_motor : Nat) (a_change : Nat) (a_startFrame : Nat) (a_changeFrame : Nat) (a_lostAt : Nat) (a_blackAt : Nat) (a_slips : Nat) (a_leftArc : Nat) (a_died : Nat) (a_arcs : Nat) (m_bestSum : Int32) (m_nearest : Int32) (m_nearestTown : Int32) (a_there : Nat) (a_backAt : Nat) (a_sorted : Nat) (a_parts : Nat) (m_seed1 : Int32) (m_darkNow : Int32) (d_r : Nat → Int32) (d_st : Nat → Int32) (hv_p0 : IV p0 0 5) (hp_d_r : RInv d_r) : cI l g yX11_farOf cX11_farOf 8 (some .int) 0 0 0 0 [.ref h0, .int p0, .int p1] [(cO11_i1r1i10r1i2r5i2r12i3r4i2 h0 m_thrown a_tape m_taped m_size m_at m_end m_token m_whole m_nameSize m_fault m_place m_trouble a_letters m_failed m_hasHouse a_r a_fresh a_st a_undone a_kept m_undos m_images a_from a_begin a_motor a_change a_startFrame a_changeFrame a_lostAt a_blackAt a_slips a_leftArc a_died a_arcs m_bestSum m_nearest m_nearestTown a_there a_backAt a_sorted a_parts m_seed1 m_darkNow), (cAI g a_r 311 d_r), (cAI g a_st 44 d_st)] (fun r w => w = [(cO11_i1r1i10r1i2r5i2r12i3r4i2 h0 m_thrown a_tape m_taped m_size m_at m_end m_token m_whole m_nameSize m_fault m_place m_trouble a_letters m_failed m_hasHouse a_r a_fresh a_st a_undone a_kept m_undos m_images a_from a_begin a_motor a_change a_startFrame a_changeFrame a_lostAt a_blackAt a_slips a_leftArc a_died a_arcs m_bestSum m_nearest m_nearestTown a_there a_backAt a_sorted a_parts m_seed1 m_darkNow), (cAI g a_r 311 d_r), (cAI g a_st 44 d_st)]) := by
  refine cI.of (by decide) (Nat.le_of_ble_eq_true rfl) ?_
  intro p e s m args below meth c A X hr hi
  refine k_lveq [(0, .ref h0), (1, .int p0), (2, .int p1)] rfl ?_
  refine k_aload_n X dX11_farOf_k0.1.1.1.1 0 rfl ?_
  refine k_get (ci := 11) X inlX11 rfl 15 (nlt_e rfl) dX11_farOf_k0.1.1.1.2 mw170 0 rfl rfl ?_
  refine k_sipush (v := 155) X dX11_farOf_k0.1.1.2.1 si_155 ?_
  refine k_iconst (v := 2) X dX11_farOf_k0.1.1.2.2 ic_2 ?_
  refine k_iload_n X dX11_farOf_k0.1.2.1.1 1 rfl ?_
  refine k_imul X dX11_farOf_k0.1.2.1.2 ?_
  refine k_nm (fun z_1 ez_1 => ?_)
  have i_2 : z_1.toInt = 2 * p0.toInt := in_mul ez_1 (by decide) (zle_e rfl) hv_p0 (zle_e rfl) (zle_e rfl)
  have iv_3 : IV z_1 0 10 := iz4 i_2 hv_p0 (zle_e rfl) (zle_e rfl) (zle_e rfl)
  refine k_iadd X dX11_farOf_k0.1.2.2.1 ?_
  refine k_nm (fun z_4 ez_4 => ?_)
  have i_5 : z_4.toInt = 155 + z_1.toInt := in_add ez_4 iq_155_155_155 iv_3 (zle_e rfl) (zle_e rfl)
  have iv_6 : IV z_4 155 165 := iz2 i_5 iv_3 (zle_e rfl) (zle_e rfl)
  refine k_iald X dX11_farOf_k0.1.2.2.2 1 rfl (iv_in iv_6 (zle_e rfl) (zle_l rfl)) ?_
  refine k_nm (fun z_7 ez_7 => ?_)
  have i_8 : z_4.toInt = 155 + 2 * p0.toInt := by omega
  have iv_9 : IV z_7 0 7 := rb_155_2 ez_7 hp_d_r i_8 (iv_w hv_p0 (zle_e rfl) (zle_e rfl))
  refine k_istore_n [(3, .int z_7), (0, .ref h0), (1, .int p0), (2, .int p1)] X dX11_farOf_k0.2.1.1.1 (nlt_e rfl) rfl ?_
  refine k_aload_n X dX11_farOf_k0.2.1.1.2 1 rfl ?_
  refine k_get (ci := 11) X inlX11 rfl 15 (nlt_e rfl) dX11_farOf_k0.2.1.2.1 mw170 0 rfl rfl ?_
  refine k_sipush (v := 155) X dX11_farOf_k0.2.1.2.2 si_155 ?_
  refine k_iconst (v := 2) X dX11_farOf_k0.2.2.1.1 ic_2 ?_
  refine k_iload_n X dX11_farOf_k0.2.2.1.2 2 rfl ?_
  refine k_imul X dX11_farOf_k0.2.2.2.1 ?_
  refine k_to z_1 ez_1.symm ?_
  refine k_iadd X dX11_farOf_k0.2.2.2.2 ?_
  refine k_to z_4 ez_4.symm ?_
  refine k_iconst (v := 1) X dX11_farOf_k1.1.1.1.1 ic_1 ?_
  refine k_iadd X dX11_farOf_k1.1.1.1.2 ?_
  refine k_nm (fun z_10 ez_10 => ?_)
  have i_11 : z_10.toInt = z_4.toInt + 1 := in_add ez_10 iv_6 iq_1_1_1 (zle_e rfl) (zle_e rfl)
  have iv_12 : IV z_10 156 166 := iz1 i_11 iv_6 (zle_e rfl) (zle_e rfl)
  refine k_iald X dX11_farOf_k1.1.1.2.1 1 rfl (iv_in iv_12 (zle_e rfl) (zle_l rfl)) ?_
  refine k_nm (fun z_13 ez_13 => ?_)
  refine k_aload_n X dX11_farOf_k1.1.1.2.2 1 rfl ?_
  refine k_get (ci := 11) X inlX11 rfl 17 (nlt_e rfl) dX11_farOf_k1.1.2.1.1 mw172 0 rfl rfl ?_
  refine k_bipush (v := 8) X dX11_farOf_k1.1.2.1.2 bi_8 ?_
  refine k_iload_n X dX11_farOf_k1.1.2.2.1 0 rfl ?_
  refine k_iadd X dX11_farOf_k1.1.2.2.2 ?_
  refine k_nm (fun z_14 ez_14 => ?_)
  have i_15 : z_14.toInt = 8 + z_7.toInt := in_add ez_14 iq_8_8_8 iv_9 (zle_e rfl) (zle_e rfl)
  have iv_16 : IV z_14 8 15 := iz2 i_15 iv_9 (zle_e rfl) (zle_e rfl)
  refine k_iald X dX11_farOf_k1.2.1.1.1 2 rfl (iv_in iv_16 (zle_e rfl) (zle_l rfl)) ?_
  refine k_nm (fun z_17 ez_17 => ?_)
  refine k_isub X dX11_farOf_k1.2.1.1.2 ?_
  refine k_nm (fun z_18 ez_18 => ?_)
  refine k_istore [(4, .int z_18), (3, .int z_7), (0, .ref h0), (1, .int p0), (2, .int p1)] X dX11_farOf_k1.2.1.2.1 (nlt_e rfl) rfl ?_
  refine k_iconst (v := -1) X dX11_farOf_k1.2.1.2.2 ic_m1 ?_
  refine k_istore [(5, .int (-1)), (4, .int z_18), (3, .int z_7), (0, .ref h0), (1, .int p0), (2, .int p1)] X dX11_farOf_k1.2.2.1.1 (nlt_e rfl) rfl ?_
  refine k_iconst (v := 0) X dX11_farOf_k1.2.2.1.2 ic_0 ?_
  refine k_istore [(6, .int 0), (5, .int (-1)), (4, .int z_18), (3, .int z_7), (0, .ref h0), (1, .int p0), (2, .int p1)] X dX11_farOf_k1.2.2.2.1 (nlt_e rfl) rfl ?_
  refine (fun hL : ∀ (nn_23 : Nat) (u_20 : Int32) (u_21 : Int32), (2147483647 - u_21.toInt).toNat = nn_23 → (IV u_21 0 255) → Wk p l e _ s m args below meth c _ A g _ _ _ [(cO11_i1r1i10r1i2r5i2r12i3r4i2 h0 m_thrown a_tape m_taped m_size m_at m_end m_token m_whole m_nameSize m_fault m_place m_trouble a_letters m_failed m_hasHouse a_r a_fresh a_st a_undone a_kept m_undos m_images a_from a_begin a_motor a_change a_startFrame a_changeFrame a_lostAt a_blackAt a_slips a_leftArc a_died a_arcs m_bestSum m_nearest m_nearestTown a_there a_backAt a_sorted a_parts m_seed1 m_darkNow), (cAI g a_r 311 d_r), (cAI g a_st 44 d_st)] [(6, .int u_21), (5, .int u_20), (4, .int z_18), (3, .int z_7), (0, .ref h0), (1, .int p0), (2, .int p1)] 45 [] => hL _ ((-1)) 0 rfl (iv_w iq_0_0_0 (zle_e rfl) (zle_e rfl))) ?_
  refine fun nn_23 => Nat.strongRecOn nn_23 (fun nn_23 ih_25 => ?_)
  intro u_20 u_21 hm_24 hv_22
  refine k_iload X dX11_farOf_k1.2.2.2.2 0 rfl ?_
  refine k_aload_n X dX11_farOf_k2.1.1.1.1 4 rfl ?_
  refine k_get (ci := 11) X inlX11 rfl 15 (nlt_e rfl) dX11_farOf_k2.1.1.1.2 mw170 0 rfl rfl ?_
  refine k_bipush (v := 8) X dX11_farOf_k2.1.1.2.1 bi_8 ?_
  refine k_iald X dX11_farOf_k2.1.1.2.2 1 rfl (by unfold vp_in; decide) ?_
  refine k_nm (fun z_26 ez_26 => ?_)
  have i_27 : z_26.toInt = (d_r 8).toInt := by rw [ez_26]; rfl
  have iv_28 : IV z_26 0 12 := rb_8 ez_26 hp_d_r
  refine k_ic_ge 156 X dX11_farOf_k2.1.2.1.1 (jp_e rfl) (fun h_29 => ?_) (fun h_29 => ?_)
  · skip
    have j_30 : z_26.toInt ≤ u_21.toInt := iv_le h_29
    refine k_iload X dX11_farOf_k5.2.2.2.1 1 rfl ?_
    exact k_iret X hr dX11_farOf_k5.2.2.2.2 (Nat.le_of_ble_eq_true rfl) (Nat.le_of_ble_eq_true rfl) [0, 1, 2] (vnd_e rfl) rfl rfl rfl
  · skip
    have j_31 : u_21.toInt < z_26.toInt := iv_nle h_29
    have iv_32 : IV u_21 0 11 := iv_ltL (iv_nle h_29) hv_22 iv_28 (zle_e rfl)
    have iv_33 : IV z_26 1 12 := iv_ltR (iv_nle h_29) hv_22 iv_28 (zle_e rfl)
    refine k_aload_n X dX11_farOf_k2.1.2.1.2 4 rfl ?_
    refine k_get (ci := 11) X inlX11 rfl 15 (nlt_e rfl) dX11_farOf_k2.1.2.2.1 mw170 0 rfl rfl ?_
    refine k_bipush (v := 44) X dX11_farOf_k2.1.2.2.2 bi_44 ?_
    refine k_iconst (v := 3) X dX11_farOf_k2.2.1.1.1 ic_3 ?_
    refine k_iload X dX11_farOf_k2.2.1.1.2 0 rfl ?_
    refine k_imul X dX11_farOf_k2.2.1.2.1 ?_
    refine k_nm (fun z_34 ez_34 => ?_)
    have i_35 : z_34.toInt = 3 * u_21.toInt := in_mul ez_34 (by decide) (zle_e rfl) iv_32 (zle_e rfl) (zle_e rfl)
    have iv_36 : IV z_34 0 33 := iz4 i_35 iv_32 (zle_e rfl) (zle_e rfl) (zle_e rfl)
    refine k_iadd X dX11_farOf_k2.2.1.2.2 ?_
    refine k_nm (fun z_37 ez_37 => ?_)
    have i_38 : z_37.toInt = 44 + z_34.toInt := in_add ez_37 iq_44_44_44 iv_36 (zle_e rfl) (zle_e rfl)
    have iv_39 : IV z_37 44 77 := iz2 i_38 iv_36 (zle_e rfl) (zle_e rfl)
    refine k_iconst (v := 2) X dX11_farOf_k2.2.2.1.1 ic_2 ?_
    refine k_iadd X dX11_farOf_k2.2.2.1.2 ?_
    refine k_nm (fun z_40 ez_40 => ?_)
    have i_41 : z_40.toInt = z_37.toInt + 2 := in_add ez_40 iv_39 iq_2_2_2 (zle_e rfl) (zle_e rfl)
    have iv_42 : IV z_40 46 79 := iz1 i_41 iv_39 (zle_e rfl) (zle_e rfl)
    refine k_iald X dX11_farOf_k2.2.2.2.1 1 rfl (iv_in iv_42 (zle_e rfl) (zle_l rfl)) ?_
    refine k_nm (fun z_43 ez_43 => ?_)
    have i_44 : z_40.toInt = 46 + 3 * u_21.toInt := by omega
    have iv_45 : IV z_43 0 3 := rb_46_3 ez_43 hp_d_r i_44 (iv_w iv_32 (zle_e rfl) (zle_e rfl))
    refine k_iload_n X dX11_farOf_k2.2.2.2.2 6 rfl ?_
    refine k_ic_eq 78 X dX11_farOf_k3.1.1.1.1 (jp_e rfl) (fun h_46 => ?_) (fun h_46 => ?_)
    · skip
      have iv_47 : IV p1 0 3 := iv_meet (iv_any p1) (iv_e h_46.symm iv_45) (zle_o rfl) (zle_o rfl)
      refine k_aload_n X dX11_farOf_k3.1.1.2.1 4 rfl ?_
      refine k_get (ci := 11) X inlX11 rfl 17 (nlt_e rfl) dX11_farOf_k3.1.1.2.2 mw172 0 rfl rfl ?_
      refine k_bipush (v := 16) X dX11_farOf_k3.1.2.1.1 bi_16 ?_
      refine k_iload X dX11_farOf_k3.1.2.1.2 0 rfl ?_
      refine k_iadd X dX11_farOf_k3.1.2.2.1 ?_
      refine k_nm (fun z_48 ez_48 => ?_)
      have i_49 : z_48.toInt = 16 + u_21.toInt := in_add ez_48 iq_16_16_16 iv_32 (zle_e rfl) (zle_e rfl)
      have iv_50 : IV z_48 16 27 := iz2 i_49 iv_32 (zle_e rfl) (zle_e rfl)
      refine k_iald X dX11_farOf_k3.1.2.2.2 2 rfl (iv_in iv_50 (zle_e rfl) (zle_l rfl)) ?_
      refine k_nm (fun z_51 ez_51 => ?_)
      refine k_aload_n X dX11_farOf_k3.2.1.1.1 4 rfl ?_
      refine k_get (ci := 11) X inlX11 rfl 17 (nlt_e rfl) dX11_farOf_k3.2.1.1.2 mw172 0 rfl rfl ?_
      refine k_bipush (v := 8) X dX11_farOf_k3.2.1.2.1 bi_8 ?_
      refine k_aload_n X dX11_farOf_k3.2.1.2.2 4 rfl ?_
      refine k_get (ci := 11) X inlX11 rfl 15 (nlt_e rfl) dX11_farOf_k3.2.2.1.1 mw170 0 rfl rfl ?_
      refine k_bipush (v := 44) X dX11_farOf_k3.2.2.1.2 bi_44 ?_
      refine k_iconst (v := 3) X dX11_farOf_k3.2.2.2.1 ic_3 ?_
      refine k_iload X dX11_farOf_k3.2.2.2.2 0 rfl ?_
      refine k_imul X dX11_farOf_k4.1.1.1.1 ?_
      refine k_to z_34 ez_34.symm ?_
      refine k_iadd X dX11_farOf_k4.1.1.1.2 ?_
      refine k_to z_37 ez_37.symm ?_
      refine k_iald X dX11_farOf_k4.1.1.2.1 1 rfl (iv_in iv_39 (zle_e rfl) (zle_l rfl)) ?_
      refine k_nm (fun z_52 ez_52 => ?_)
      have i_53 : z_37.toInt = 44 + 3 * u_21.toInt := by omega
      have iv_54 : IV z_52 0 7 := rb_44_3 ez_52 hp_d_r i_53 (iv_w iv_32 (zle_e rfl) (zle_e rfl))
      refine k_iadd X dX11_farOf_k4.1.1.2.2 ?_
      refine k_nm (fun z_55 ez_55 => ?_)
      have i_56 : z_55.toInt = 8 + z_52.toInt := in_add ez_55 iq_8_8_8 iv_54 (zle_e rfl) (zle_e rfl)
      have iv_57 : IV z_55 8 15 := iz2 i_56 iv_54 (zle_e rfl) (zle_e rfl)
      refine k_iald X dX11_farOf_k4.1.2.1.1 2 rfl (iv_in iv_57 (zle_e rfl) (zle_l rfl)) ?_
      refine k_nm (fun z_58 ez_58 => ?_)
      refine k_isub X dX11_farOf_k4.1.2.1.2 ?_
      refine k_nm (fun z_59 ez_59 => ?_)
      refine k_iload X dX11_farOf_k4.1.2.2.1 2 rfl ?_
      refine k_isub X dX11_farOf_k4.1.2.2.2 ?_
      refine k_nm (fun z_61 ez_61 => ?_)
      refine k_istore [(7, .int z_61), (6, .int u_21), (5, .int u_20), (4, .int z_18), (3, .int z_7), (0, .ref h0), (1, .int p0), (2, .int p1)] X dX11_farOf_k4.2.1.1.1 (nlt_e rfl) rfl ?_
      refine k_iload X dX11_farOf_k4.2.1.1.2 0 rfl ?_
      refine k_if_ge 125 X dX11_farOf_k4.2.1.2.1 (jp_e rfl) (fun h_63 => ?_) (fun h_63 => ?_)
      · skip
        have j_64 : 0 ≤ z_61.toInt := iv_le h_63
        have iv_65 : IV z_61 0 2147483647 := iv_leR (iv_le h_63) iq_0_0_0 (iv_any z_61) (zle_e rfl)
        refine k_iload X dX11_farOf_k4.2.2.2.1 0 rfl ?_
        refine k_istore [(7, .int z_61), (6, .int u_21), (5, .int u_20), (4, .int z_18), (3, .int z_7), (0, .ref h0), (1, .int p0), (2, .int p1)] X dX11_farOf_k4.2.2.2.2 (nlt_e rfl) rfl ?_
        refine k_iload X dX11_farOf_k5.1.1.1 2 rfl ?_
        refine k_if_lt 141 X dX11_farOf_k5.1.1.2.1 (jp_e rfl) (fun h_66 => ?_) (fun h_66 => ?_)
        · skip
          have j_67 : u_20.toInt < 0 := iv_lt h_66
          have iv_68 : IV u_20 (-2147483648) (-1) := iv_ltL (iv_lt h_66) (iv_any u_20) iq_0_0_0 (zle_e rfl)
          refine k_iload X dX11_farOf_k5.1.2.2.2 0 rfl ?_
          refine k_goto 148 X dX11_farOf_k5.2.1.1 (jp_e rfl) ?_
          refine k_istore [(5, .int z_61), (7, .int z_61), (6, .int u_21), (4, .int z_18), (3, .int z_7), (0, .ref h0), (1, .int p0), (2, .int p1)] X dX11_farOf_k5.2.1.2.2 (nlt_e rfl) rfl ?_
          obtain ⟨z_69, ez_69⟩ : ∃ y : Int32, u_21 + Int32.ofInt 1 = y := ⟨_, rfl⟩
          refine k_iinc z_69 [(6, .int z_69), (5, .int z_61), (7, .int z_61), (4, .int z_18), (3, .int z_7), (0, .ref h0), (1, .int p0), (2, .int p1)] 2 X dX11_farOf_k5.2.2.1.1 rfl ez_69 (nlt_e rfl) rfl ?_
          have i_70 : z_69.toInt = u_21.toInt + 1 := in_inc ez_69 (oin_e rfl) iv_32 (zle_e rfl) (zle_e rfl)
          have iv_71 : IV z_69 1 12 := iz1 i_70 iv_32 (zle_e rfl) (zle_e rfl)
          refine k_goto 45 X dX11_farOf_k5.2.2.1.2 (jp_e rfl) ?_
          refine k_lv [(6, .int z_69), (5, .int z_61), (4, .int z_18), (3, .int z_7), (0, .ref h0), (1, .int p0), (2, .int p1)] [0, 1, 3, 4, 5, 6, 7] rfl ?_
          exact ih_25 _ (by omega) z_61 z_69 rfl (iv_w iv_71 (zle_e rfl) (zle_e rfl))
        · skip
          have j_72 : 0 ≤ u_20.toInt := iv_nlt h_66
          have iv_73 : IV u_20 0 2147483647 := iv_leR (iv_nlt h_66) iq_0_0_0 (iv_any u_20) (zle_e rfl)
          refine k_iload X dX11_farOf_k5.1.1.2.2 0 rfl ?_
          refine k_iload X dX11_farOf_k5.1.2.1 2 rfl ?_
          refine k_ic_ge 146 X dX11_farOf_k5.1.2.2.1 (jp_e rfl) (fun h_74 => ?_) (fun h_74 => ?_)
          · skip
            have j_75 : u_20.toInt ≤ z_61.toInt := iv_le h_74
            refine k_iload X dX11_farOf_k5.2.1.2.1 2 rfl ?_
            refine k_istore [(5, .int u_20), (7, .int z_61), (6, .int u_21), (4, .int z_18), (3, .int z_7), (0, .ref h0), (1, .int p0), (2, .int p1)] X dX11_farOf_k5.2.1.2.2 (nlt_e rfl) rfl ?_
            obtain ⟨z_76, ez_76⟩ : ∃ y : Int32, u_21 + Int32.ofInt 1 = y := ⟨_, rfl⟩
            refine k_iinc z_76 [(6, .int z_76), (5, .int u_20), (7, .int z_61), (4, .int z_18), (3, .int z_7), (0, .ref h0), (1, .int p0), (2, .int p1)] 2 X dX11_farOf_k5.2.2.1.1 rfl ez_76 (nlt_e rfl) rfl ?_
            have i_77 : z_76.toInt = u_21.toInt + 1 := in_inc ez_76 (oin_e rfl) iv_32 (zle_e rfl) (zle_e rfl)
            have iv_78 : IV z_76 1 12 := iz1 i_77 iv_32 (zle_e rfl) (zle_e rfl)
            refine k_goto 45 X dX11_farOf_k5.2.2.1.2 (jp_e rfl) ?_
            refine k_lv [(6, .int z_76), (5, .int u_20), (4, .int z_18), (3, .int z_7), (0, .ref h0), (1, .int p0), (2, .int p1)] [0, 1, 3, 4, 5, 6, 7] rfl ?_
            exact ih_25 _ (by omega) u_20 z_76 rfl (iv_w iv_78 (zle_e rfl) (zle_e rfl))
          · skip
            have j_79 : z_61.toInt < u_20.toInt := iv_nle h_74
            have iv_80 : IV z_61 0 2147483646 := iv_ltL (iv_nle h_74) iv_65 iv_73 (zle_e rfl)
            have iv_81 : IV u_20 1 2147483647 := iv_ltR (iv_nle h_74) iv_65 iv_73 (zle_e rfl)
            refine k_iload X dX11_farOf_k5.1.2.2.2 0 rfl ?_
            refine k_goto 148 X dX11_farOf_k5.2.1.1 (jp_e rfl) ?_
            refine k_istore [(5, .int z_61), (7, .int z_61), (6, .int u_21), (4, .int z_18), (3, .int z_7), (0, .ref h0), (1, .int p0), (2, .int p1)] X dX11_farOf_k5.2.1.2.2 (nlt_e rfl) rfl ?_
            obtain ⟨z_82, ez_82⟩ : ∃ y : Int32, u_21 + Int32.ofInt 1 = y := ⟨_, rfl⟩
            refine k_iinc z_82 [(6, .int z_82), (5, .int z_61), (7, .int z_61), (4, .int z_18), (3, .int z_7), (0, .ref h0), (1, .int p0), (2, .int p1)] 2 X dX11_farOf_k5.2.2.1.1 rfl ez_82 (nlt_e rfl) rfl ?_
            have i_83 : z_82.toInt = u_21.toInt + 1 := in_inc ez_82 (oin_e rfl) iv_32 (zle_e rfl) (zle_e rfl)
            have iv_84 : IV z_82 1 12 := iz1 i_83 iv_32 (zle_e rfl) (zle_e rfl)
            refine k_goto 45 X dX11_farOf_k5.2.2.1.2 (jp_e rfl) ?_
            refine k_lv [(6, .int z_82), (5, .int z_61), (4, .int z_18), (3, .int z_7), (0, .ref h0), (1, .int p0), (2, .int p1)] [0, 1, 3, 4, 5, 6, 7] rfl ?_
            exact ih_25 _ (by omega) z_61 z_82 rfl (iv_w iv_84 (zle_e rfl) (zle_e rfl))
      · skip
        have j_85 : z_61.toInt < 0 := iv_nle h_63
        have iv_86 : IV z_61 (-2147483648) (-1) := iv_ltL (iv_nle h_63) (iv_any z_61) iq_0_0_0 (zle_e rfl)
        refine k_iload X dX11_farOf_k4.2.1.2.2 0 rfl ?_
        refine k_ineg X dX11_farOf_k4.2.2.1.1 ?_
        refine k_nm (fun z_87 ez_87 => ?_)
        refine k_goto 127 X dX11_farOf_k4.2.2.1.2 (jp_e rfl) ?_
        refine k_istore [(7, .int z_87), (6, .int u_21), (5, .int u_20), (4, .int z_18), (3, .int z_7), (0, .ref h0), (1, .int p0), (2, .int p1)] X dX11_farOf_k4.2.2.2.2 (nlt_e rfl) rfl ?_
        refine k_iload X dX11_farOf_k5.1.1.1 2 rfl ?_
        refine k_if_lt 141 X dX11_farOf_k5.1.1.2.1 (jp_e rfl) (fun h_88 => ?_) (fun h_88 => ?_)
        · skip
          have j_89 : u_20.toInt < 0 := iv_lt h_88
          have iv_90 : IV u_20 (-2147483648) (-1) := iv_ltL (iv_lt h_88) (iv_any u_20) iq_0_0_0 (zle_e rfl)
          refine k_iload X dX11_farOf_k5.1.2.2.2 0 rfl ?_
          refine k_goto 148 X dX11_farOf_k5.2.1.1 (jp_e rfl) ?_
          refine k_istore [(5, .int z_87), (7, .int z_87), (6, .int u_21), (4, .int z_18), (3, .int z_7), (0, .ref h0), (1, .int p0), (2, .int p1)] X dX11_farOf_k5.2.1.2.2 (nlt_e rfl) rfl ?_
          obtain ⟨z_91, ez_91⟩ : ∃ y : Int32, u_21 + Int32.ofInt 1 = y := ⟨_, rfl⟩
          refine k_iinc z_91 [(6, .int z_91), (5, .int z_87), (7, .int z_87), (4, .int z_18), (3, .int z_7), (0, .ref h0), (1, .int p0), (2, .int p1)] 2 X dX11_farOf_k5.2.2.1.1 rfl ez_91 (nlt_e rfl) rfl ?_
          have i_92 : z_91.toInt = u_21.toInt + 1 := in_inc ez_91 (oin_e rfl) iv_32 (zle_e rfl) (zle_e rfl)
          have iv_93 : IV z_91 1 12 := iz1 i_92 iv_32 (zle_e rfl) (zle_e rfl)
          refine k_goto 45 X dX11_farOf_k5.2.2.1.2 (jp_e rfl) ?_
          refine k_lv [(6, .int z_91), (5, .int z_87), (4, .int z_18), (3, .int z_7), (0, .ref h0), (1, .int p0), (2, .int p1)] [0, 1, 3, 4, 5, 6, 7] rfl ?_
          exact ih_25 _ (by omega) z_87 z_91 rfl (iv_w iv_93 (zle_e rfl) (zle_e rfl))
        · skip
          have j_94 : 0 ≤ u_20.toInt := iv_nlt h_88
          have iv_95 : IV u_20 0 2147483647 := iv_leR (iv_nlt h_88) iq_0_0_0 (iv_any u_20) (zle_e rfl)
          refine k_iload X dX11_farOf_k5.1.1.2.2 0 rfl ?_
          refine k_iload X dX11_farOf_k5.1.2.1 2 rfl ?_
          refine k_ic_ge 146 X dX11_farOf_k5.1.2.2.1 (jp_e rfl) (fun h_96 => ?_) (fun h_96 => ?_)
          · skip
            have j_97 : u_20.toInt ≤ z_87.toInt := iv_le h_96
            have iv_98 : IV z_87 0 2147483647 := iv_leR (iv_le h_96) iv_95 (iv_any z_87) (zle_e rfl)
            refine k_iload X dX11_farOf_k5.2.1.2.1 2 rfl ?_
            refine k_istore [(5, .int u_20), (7, .int z_87), (6, .int u_21), (4, .int z_18), (3, .int z_7), (0, .ref h0), (1, .int p0), (2, .int p1)] X dX11_farOf_k5.2.1.2.2 (nlt_e rfl) rfl ?_
            obtain ⟨z_99, ez_99⟩ : ∃ y : Int32, u_21 + Int32.ofInt 1 = y := ⟨_, rfl⟩
            refine k_iinc z_99 [(6, .int z_99), (5, .int u_20), (7, .int z_87), (4, .int z_18), (3, .int z_7), (0, .ref h0), (1, .int p0), (2, .int p1)] 2 X dX11_farOf_k5.2.2.1.1 rfl ez_99 (nlt_e rfl) rfl ?_
            have i_100 : z_99.toInt = u_21.toInt + 1 := in_inc ez_99 (oin_e rfl) iv_32 (zle_e rfl) (zle_e rfl)
            have iv_101 : IV z_99 1 12 := iz1 i_100 iv_32 (zle_e rfl) (zle_e rfl)
            refine k_goto 45 X dX11_farOf_k5.2.2.1.2 (jp_e rfl) ?_
            refine k_lv [(6, .int z_99), (5, .int u_20), (4, .int z_18), (3, .int z_7), (0, .ref h0), (1, .int p0), (2, .int p1)] [0, 1, 3, 4, 5, 6, 7] rfl ?_
            exact ih_25 _ (by omega) u_20 z_99 rfl (iv_w iv_101 (zle_e rfl) (zle_e rfl))
          · skip
            have j_102 : z_87.toInt < u_20.toInt := iv_nle h_96
            have iv_103 : IV z_87 (-2147483648) 2147483646 := iv_ltL (iv_nle h_96) (iv_any z_87) iv_95 (zle_e rfl)
            refine k_iload X dX11_farOf_k5.1.2.2.2 0 rfl ?_
            refine k_goto 148 X dX11_farOf_k5.2.1.1 (jp_e rfl) ?_
            refine k_istore [(5, .int z_87), (7, .int z_87), (6, .int u_21), (4, .int z_18), (3, .int z_7), (0, .ref h0), (1, .int p0), (2, .int p1)] X dX11_farOf_k5.2.1.2.2 (nlt_e rfl) rfl ?_
            obtain ⟨z_104, ez_104⟩ : ∃ y : Int32, u_21 + Int32.ofInt 1 = y := ⟨_, rfl⟩
            refine k_iinc z_104 [(6, .int z_104), (5, .int z_87), (7, .int z_87), (4, .int z_18), (3, .int z_7), (0, .ref h0), (1, .int p0), (2, .int p1)] 2 X dX11_farOf_k5.2.2.1.1 rfl ez_104 (nlt_e rfl) rfl ?_
            have i_105 : z_104.toInt = u_21.toInt + 1 := in_inc ez_104 (oin_e rfl) iv_32 (zle_e rfl) (zle_e rfl)
            have iv_106 : IV z_104 1 12 := iz1 i_105 iv_32 (zle_e rfl) (zle_e rfl)
            refine k_goto 45 X dX11_farOf_k5.2.2.1.2 (jp_e rfl) ?_
            refine k_lv [(6, .int z_104), (5, .int z_87), (4, .int z_18), (3, .int z_7), (0, .ref h0), (1, .int p0), (2, .int p1)] [0, 1, 3, 4, 5, 6, 7] rfl ?_
            exact ih_25 _ (by omega) z_87 z_104 rfl (iv_w iv_106 (zle_e rfl) (zle_e rfl))
    · skip
      refine k_goto 150 X dX11_farOf_k3.1.1.1.2 (jp_e rfl) ?_
      obtain ⟨z_107, ez_107⟩ : ∃ y : Int32, u_21 + Int32.ofInt 1 = y := ⟨_, rfl⟩
      refine k_iinc z_107 [(6, .int z_107), (5, .int u_20), (4, .int z_18), (3, .int z_7), (0, .ref h0), (1, .int p0), (2, .int p1)] 0 X dX11_farOf_k5.2.2.1.1 rfl ez_107 (nlt_e rfl) rfl ?_
      have i_108 : z_107.toInt = u_21.toInt + 1 := in_inc ez_107 (oin_e rfl) iv_32 (zle_e rfl) (zle_e rfl)
      have iv_109 : IV z_107 1 12 := iz1 i_108 iv_32 (zle_e rfl) (zle_e rfl)
      refine k_goto 45 X dX11_farOf_k5.2.2.1.2 (jp_e rfl) ?_
      exact ih_25 _ (by omega) u_20 z_107 rfl (iv_w iv_109 (zle_e rfl) (zle_e rfl))

theorem dX11_layScratch_k0 : ((((dD cX11_layScratch 0 (.aload_n 0) 1 ∧ dD cX11_layScratch 1 (.getfield 213) 3) ∧ (dD cX11_layScratch 4 (.ifCond .eq 20) 3 ∧ dD cX11_layScratch 7 (.iload_n 1) 1)) ∧ ((dD cX11_layScratch 8 (.iconst 0) 1 ∧ dD cX11_layScratch 9 (.aload_n 0) 1) ∧ (dD cX11_layScratch 10 (.getfield 20) 3 ∧ dD cX11_layScratch 13 (.bipush 14) 2))) ∧ (((dD cX11_layScratch 15 .iaload 1 ∧ dD cX11_layScratch 16 (.iconst 1) 1) ∧ (dD cX11_layScratch 17 .isub 1 ∧ dD cX11_layScratch 18 (.invokestatic 182) 3)) ∧ ((dD cX11_layScratch 21 (.ifCond .ne 5) 3 ∧ dD cX11_layScratch 24 (.iconst 0) 1) ∧ (dD cX11_layScratch 25 .ireturn 1 ∧ dD cX11_layScratch 26 (.aload_n 0) 1)))) := dkA16 (by decide +kernel)
theorem dX11_layScratch_k1 : ((((dD cX11_layScratch 27 (.bipush (-2)) 2 ∧ dD cX11_layScratch 29 (.putfield 431) 3) ∧ (dD cX11_layScratch 32 (.aload_n 0) 1 ∧ dD cX11_layScratch 33 (.bipush (-2)) 2)) ∧ ((dD cX11_layScratch 35 (.putfield 434) 3 ∧ dD cX11_layScratch 38 (.iconst 0) 1) ∧ (dD cX11_layScratch 39 (.istore_n 2) 1 ∧ dD cX11_layScratch 40 (.iload_n 2) 1))) ∧ (((dD cX11_layScratch 41 (.aload_n 0) 1 ∧ dD cX11_layScratch 42 (.getfield 20) 3) ∧ (dD cX11_layScratch 45 (.bipush 7) 2 ∧ dD cX11_layScratch 47 .iaload 1)) ∧ ((dD cX11_layScratch 48 (.if_icmp .ge 48) 3 ∧ dD cX11_layScratch 51 (.aload_n 0) 1) ∧ (dD cX11_layScratch 52 (.iload_n 1) 1 ∧ dD cX11_layScratch 53 (.iload_n 2) 1)))) := dkA16 (by decide +kernel)
theorem dX11_layScratch_k2 : ((((dD cX11_layScratch 54 (.invokevirtual 437) 3 ∧ dD cX11_layScratch 57 (.istore_n 3) 1) ∧ (dD cX11_layScratch 58 (.iload_n 3) 1 ∧ dD cX11_layScratch 59 (.ifCond .lt 31) 3)) ∧ ((dD cX11_layScratch 62 (.aload_n 0) 1 ∧ dD cX11_layScratch 63 (.getfield 431) 3) ∧ (dD cX11_layScratch 66 (.ifCond .lt 14) 3 ∧ dD cX11_layScratch 69 (.iload_n 3) 1))) ∧ (((dD cX11_layScratch 70 (.aload_n 0) 1 ∧ dD cX11_layScratch 71 (.getfield 431) 3) ∧ (dD cX11_layScratch 74 (.if_icmp .lt 6) 3 ∧ dD cX11_layScratch 77 (.goto 13) 3)) ∧ ((dD cX11_layScratch 80 (.aload_n 0) 1 ∧ dD cX11_layScratch 81 (.iload_n 3) 1) ∧ (dD cX11_layScratch 82 (.putfield 431) 3 ∧ dD cX11_layScratch 85 (.aload_n 0) 1)))) := dkA16 (by decide +kernel)
theorem dX11_layScratch_k3 : ((dD cX11_layScratch 86 (.iload_n 2) 1 ∧ (dD cX11_layScratch 87 (.putfield 434) 3 ∧ dD cX11_layScratch 90 (.iinc 2 1) 3)) ∧ (dD cX11_layScratch 93 (.goto (-53)) 3 ∧ (dD cX11_layScratch 96 (.iconst 1) 1 ∧ dD cX11_layScratch 97 .ireturn 1))) := dkA6 (by decide +kernel)
set_option maxHeartbeats 4000000 in
set_option maxRecDepth 100000 in
theorem m_layScratch (l : Launch) (g : Gx) (h0 : Nat) (p0 : Int32) (m_thrown : Int32) (a_tape : Nat) (m_taped : Int32) (m_size : Int32) (m_at : Int32) (m_end : Int32) (m_token : Int32) (m_whole : Int32) (m_nameSize : Int32) (m_fault : Int32) (m_place : Int32) (m_trouble : Int32) (a_letters : Nat) (m_failed : Int32) (m_hasHouse : Int32) (a_r : Nat) (a_fresh : Nat) (a_st : Nat) (a_undone : Nat) (a_kept : Nat) (m_undos : Int32) (m_images : Int32) (a_from : Nat) (a_begin : Nat) (a_motor : Nat) (a_change : Nat) (a_startFrame : Nat) (a_changeFrame : Nat) (a_lostAt : Nat) (a_blackAt : Nat) (a_slips : Nat) (a_leftArc : Nat) (a_died : Nat) (a_arcs : Nat) (m_bestSum : Int32) (m_nearest : Int32) (m_nearestTown : Int32) (a_there : Nat) (a_backAt : Nat) (a_sorted : Nat) (a_parts : Nat) (m_seed1 : Int32) (m_darkNow : Int32) (d_r : Nat → Int32) (d_st : Nat → Int32) (hv_m_hasHouse : IV m_hasHouse 0 1) (hp_d_r : RInv d_r) : cI l g yX11_layScratch cX11_layScratch 4 (some .boolean) 1 27 0 0 [.ref h0, .int p0] [(cO11_i1r1i10r1i2r5i2r12i3r4i2 h0 m_thrown a_tape m_taped m_size m_at m_end m_token m_whole m_nameSize m_fault m_place m_trouble a_letters m_failed m_hasHouse a_r a_fresh a_st a_undone a_kept m_undos m_images a_from a_begin a_motor a_change a_startFrame a_changeFrame a_lostAt a_blackAt a_slips a_leftArc a_died a_arcs m_bestSum m_nearest m_nearestTown a_there a_backAt a_sorted a_parts m_seed1 m_darkNow), (cAI g a_r 311 d_r), (cAI g a_st 44 d_st)] (fun r w => ∃ (m_nearest2 : Int32) (m_nearestTown2 : Int32), IV r 0 1 ∧ w = [(cO11_i1r1i10r1i2r5i2r12i3r4i2 h0 m_thrown a_tape m_taped m_size m_at m_end m_token m_whole m_nameSize m_fault m_place m_trouble a_letters m_failed m_hasHouse a_r a_fresh a_st a_undone a_kept m_undos m_images a_from a_begin a_motor a_change a_startFrame a_changeFrame a_lostAt a_blackAt a_slips a_leftArc a_died a_arcs m_bestSum m_nearest2 m_nearestTown2 a_there a_backAt a_sorted a_parts m_seed1 m_darkNow), (cAI g a_r 311 d_r), (cAI g a_st 44 d_st)]) := by
  refine cI.of (by decide) (Nat.le_of_ble_eq_true rfl) ?_
  intro p e s m args below meth c A X hr hi
  refine k_lveq [(0, .ref h0), (1, .int p0)] rfl ?_
  refine k_aload_n X dX11_layScratch_k0.1.1.1.1 0 rfl ?_
  refine k_get (ci := 11) X inlX11 rfl 14 (nlt_e rfl) dX11_layScratch_k0.1.1.1.2 mw474 0 rfl rfl ?_
  refine k_if_eq 24 X dX11_layScratch_k0.1.1.2.1 (jp_e rfl) (fun h_1 => ?_) (fun h_1 => ?_)
  · skip
    have iv_2 : IV m_hasHouse 0 0 := iv_meet hv_m_hasHouse (iv_e h_1 iq_0_0_0) (zle_o rfl) (zle_o rfl)
    refine k_iconst (v := 0) X dX11_layScratch_k0.2.2.1.2 ic_0 ?_
    exact k_zret X hr (by first | rfl | decide) dX11_layScratch_k0.2.2.2.1 (Nat.le_of_ble_eq_true rfl) (Nat.le_of_ble_eq_true rfl) [0, 1, 2] (vnd_e rfl) rfl rfl ⟨m_nearest, m_nearestTown, (iv_w iq_0_0_0 (zle_e rfl) (zle_e rfl)), rfl⟩
  · skip
    have iv_3 : IV m_hasHouse 1 1 := iv_neL h_1 hv_m_hasHouse iq_0_0_0 (zle_e rfl)
    refine k_iload_n X dX11_layScratch_k0.1.1.2.2 1 rfl ?_
    refine k_iconst (v := 0) X dX11_layScratch_k0.1.2.1.1 ic_0 ?_
    refine k_aload_n X dX11_layScratch_k0.1.2.1.2 0 rfl ?_
    refine k_get (ci := 11) X inlX11 rfl 15 (nlt_e rfl) dX11_layScratch_k0.1.2.2.1 mw170 0 rfl rfl ?_
    refine k_bipush (v := 14) X dX11_layScratch_k0.1.2.2.2 bi_14 ?_
    refine k_iald X dX11_layScratch_k0.2.1.1.1 1 rfl (by unfold vp_in; decide) ?_
    refine k_nm (fun z_4 ez_4 => ?_)
    have i_5 : z_4.toInt = (d_r 14).toInt := by rw [ez_4]; rfl
    have iv_6 : IV z_4 0 6 := rb_14 ez_4 hp_d_r
    refine k_iconst (v := 1) X dX11_layScratch_k0.2.1.1.2 ic_1 ?_
    refine k_isub X dX11_layScratch_k0.2.1.2.1 ?_
    refine k_nm (fun z_7 ez_7 => ?_)
    have i_8 : z_7.toInt = z_4.toInt - 1 := in_sub ez_7 iv_6 iq_1_1_1 (zle_e rfl) (zle_e rfl)
    have iv_9 : IV z_7 (-1) 5 := iz5 i_8 iv_6 (zle_e rfl) (zle_e rfl)
    refine k_callSI (n := 3) (As := [.int p0, .int 0, .int z_7]) (st := []) X [] [(cO11_i1r1i10r1i2r5i2r12i3r4i2 h0 m_thrown a_tape m_taped m_size m_at m_end m_token m_whole m_nameSize m_fault m_place m_trouble a_letters m_failed m_hasHouse a_r a_fresh a_st a_undone a_kept m_undos m_images a_from a_begin a_motor a_change a_startFrame a_changeFrame a_lostAt a_blackAt a_slips a_leftArc a_died a_arcs m_bestSum m_nearest m_nearestTown a_there a_backAt a_sorted a_parts m_seed1 m_darkNow), (cAI g a_r 311 d_r), (cAI g a_st 44 d_st)] [] [0, 1, 2] (m_in l g p0 0 z_7) dX11_layScratch_k0.2.1.2.2 mw482 mw483 mw5 mw484 yk_yX11_in_3 rfl (Nat.le_of_ble_eq_true rfl) (Nat.le_of_ble_eq_true rfl) (Nat.le_of_ble_eq_true rfl) (Nat.le_of_ble_eq_true rfl) (Nat.le_of_ble_eq_true rfl) rfl rfl (vnd_e rfl) rfl (vnd_e rfl) (dsj_e rfl) ?_
    rintro r_10 w ⟨iv_11, hk_12, hk_13, rfl⟩
    refine k_ws [(cO11_i1r1i10r1i2r5i2r12i3r4i2 h0 m_thrown a_tape m_taped m_size m_at m_end m_token m_whole m_nameSize m_fault m_place m_trouble a_letters m_failed m_hasHouse a_r a_fresh a_st a_undone a_kept m_undos m_images a_from a_begin a_motor a_change a_startFrame a_changeFrame a_lostAt a_blackAt a_slips a_leftArc a_died a_arcs m_bestSum m_nearest m_nearestTown a_there a_backAt a_sorted a_parts m_seed1 m_darkNow), (cAI g a_r 311 d_r), (cAI g a_st 44 d_st)] rfl ?_
    refine k_if_ne 26 X dX11_layScratch_k0.2.2.1.1 (jp_e rfl) (fun h_14 => ?_) (fun h_14 => ?_)
    · skip
      have hc_15 := hk_12.resolve_left h_14
      have j_16 : 0 ≤ p0.toInt := hc_15.1
      have iv_17 : IV p0 0 2147483647 := iv_leR hc_15.1 iq_0_0_0 (iv_any p0) (zle_e rfl)
      have j_18 : p0.toInt ≤ z_7.toInt := hc_15.2
      have iv_19 : IV p0 0 5 := iv_leL hc_15.2 iv_17 iv_9 (zle_e rfl)
      have iv_20 : IV z_7 0 5 := iv_leR hc_15.2 iv_19 iv_9 (zle_e rfl)
      have iv_21 : IV z_4 1 6 := by have := iv_6; have := iv_20; rw [IV]; omega
      have iv_22 : IV r_10 1 1 := iv_neL h_14 iv_11 iq_0_0_0 (zle_e rfl)
      refine k_aload_n X dX11_layScratch_k0.2.2.2.2 0 rfl ?_
      refine k_bipush (v := -2) X dX11_layScratch_k1.1.1.1.1 bi_m2 ?_
      refine k_put (ci := 11) [(cO11_i1r1i10r1i2r5i2r12i3r4i2 h0 m_thrown a_tape m_taped m_size m_at m_end m_token m_whole m_nameSize m_fault m_place m_trouble a_letters m_failed m_hasHouse a_r a_fresh a_st a_undone a_kept m_undos m_images a_from a_begin a_motor a_change a_startFrame a_changeFrame a_lostAt a_blackAt a_slips a_leftArc a_died a_arcs m_bestSum (-2) m_nearestTown a_there a_backAt a_sorted a_parts m_seed1 m_darkNow), (cAI g a_r 311 d_r), (cAI g a_st 44 d_st)] X inlX11 rfl tyX11_ok nmX11 35 (nlt_e rfl) rfl dX11_layScratch_k1.1.1.1.2 mw1205 0 rfl rfl rfl (Nat.le_of_ble_eq_true rfl) rfl ?_
      refine k_aload_n X dX11_layScratch_k1.1.1.2.1 0 rfl ?_
      refine k_bipush (v := -2) X dX11_layScratch_k1.1.1.2.2 bi_m2 ?_
      refine k_put (ci := 11) [(cO11_i1r1i10r1i2r5i2r12i3r4i2 h0 m_thrown a_tape m_taped m_size m_at m_end m_token m_whole m_nameSize m_fault m_place m_trouble a_letters m_failed m_hasHouse a_r a_fresh a_st a_undone a_kept m_undos m_images a_from a_begin a_motor a_change a_startFrame a_changeFrame a_lostAt a_blackAt a_slips a_leftArc a_died a_arcs m_bestSum (-2) (-2) a_there a_backAt a_sorted a_parts m_seed1 m_darkNow), (cAI g a_r 311 d_r), (cAI g a_st 44 d_st)] X inlX11 rfl tyX11_ok nmX11 36 (nlt_e rfl) rfl dX11_layScratch_k1.1.2.1.1 mw1200 0 rfl rfl rfl (Nat.le_of_ble_eq_true rfl) rfl ?_
      refine k_iconst (v := 0) X dX11_layScratch_k1.1.2.1.2 ic_0 ?_
      refine k_istore_n [(2, .int 0), (0, .ref h0), (1, .int p0)] X dX11_layScratch_k1.1.2.2.1 (nlt_e rfl) rfl ?_
      refine (fun hL : ∀ (nn_29 : Nat) (u_23 : Int32) (u_25 : Int32) (u_27 : Int32), (2147483647 - u_23.toInt).toNat = nn_29 → (IV u_23 0 8) → (IV u_25 (-2) 2147483647) → (IV u_27 (-2) 3) → Wk p l e _ s m args below meth c _ A g _ _ _ [(cO11_i1r1i10r1i2r5i2r12i3r4i2 h0 m_thrown a_tape m_taped m_size m_at m_end m_token m_whole m_nameSize m_fault m_place m_trouble a_letters m_failed m_hasHouse a_r a_fresh a_st a_undone a_kept m_undos m_images a_from a_begin a_motor a_change a_startFrame a_changeFrame a_lostAt a_blackAt a_slips a_leftArc a_died a_arcs m_bestSum u_25 u_27 a_there a_backAt a_sorted a_parts m_seed1 m_darkNow), (cAI g a_r 311 d_r), (cAI g a_st 44 d_st)] [(2, .int u_23), (0, .ref h0), (1, .int p0)] 40 [] => hL _ 0 ((-2)) ((-2)) rfl (iv_w iq_0_0_0 (zle_e rfl) (zle_e rfl)) (iv_w iq_m2_m2_m2 (zle_e rfl) (zle_e rfl)) (iv_w iq_m2_m2_m2 (zle_e rfl) (zle_e rfl))) ?_
      refine fun nn_29 => Nat.strongRecOn nn_29 (fun nn_29 ih_31 => ?_)
      intro u_23 u_25 u_27 hm_30 hv_24 hv_26 hv_28
      refine k_iload_n X dX11_layScratch_k1.1.2.2.2 0 rfl ?_
      refine k_aload_n X dX11_layScratch_k1.2.1.1.1 1 rfl ?_
      refine k_get (ci := 11) X inlX11 rfl 15 (nlt_e rfl) dX11_layScratch_k1.2.1.1.2 mw170 0 rfl rfl ?_
      refine k_bipush (v := 7) X dX11_layScratch_k1.2.1.2.1 bi_7 ?_
      refine k_iald X dX11_layScratch_k1.2.1.2.2 1 rfl (by unfold vp_in; decide) ?_
      refine k_nm (fun z_32 ez_32 => ?_)
      have i_33 : z_32.toInt = (d_r 7).toInt := by rw [ez_32]; rfl
      have iv_34 : IV z_32 0 4 := rb_7 ez_32 hp_d_r
      refine k_ic_ge 96 X dX11_layScratch_k1.2.2.1.1 (jp_e rfl) (fun h_35 => ?_) (fun h_35 => ?_)
      · skip
        have j_36 : z_32.toInt ≤ u_23.toInt := iv_le h_35
        refine k_iconst (v := 1) X dX11_layScratch_k3.2.2.1 ic_1 ?_
        exact k_zret X hr (by first | rfl | decide) dX11_layScratch_k3.2.2.2 (Nat.le_of_ble_eq_true rfl) (Nat.le_of_ble_eq_true rfl) [0, 1, 2] (vnd_e rfl) rfl rfl ⟨u_25, u_27, (iv_w iq_1_1_1 (zle_e rfl) (zle_e rfl)), rfl⟩
      · skip
        have j_37 : u_23.toInt < z_32.toInt := iv_nle h_35
        have iv_38 : IV u_23 0 3 := iv_ltL (iv_nle h_35) hv_24 iv_34 (zle_e rfl)
        have iv_39 : IV z_32 1 4 := iv_ltR (iv_nle h_35) hv_24 iv_34 (zle_e rfl)
        refine k_aload_n X dX11_layScratch_k1.2.2.1.2 1 rfl ?_
        refine k_iload_n X dX11_layScratch_k1.2.2.2.1 2 rfl ?_
        refine k_iload_n X dX11_layScratch_k1.2.2.2.2 0 rfl ?_
        refine k_callVI (n := 2) (As := [.int p0, .int u_23]) (st := []) X [(cO11_i1r1i10r1i2r5i2r12i3r4i2 h0 m_thrown a_tape m_taped m_size m_at m_end m_token m_whole m_nameSize m_fault m_place m_trouble a_letters m_failed m_hasHouse a_r a_fresh a_st a_undone a_kept m_undos m_images a_from a_begin a_motor a_change a_startFrame a_changeFrame a_lostAt a_blackAt a_slips a_leftArc a_died a_arcs m_bestSum u_25 u_27 a_there a_backAt a_sorted a_parts m_seed1 m_darkNow), (cAI g a_r 311 d_r), (cAI g a_st 44 d_st)] [] [0, 1, 2] [] (m_farOf l g h0 p0 u_23 m_thrown a_tape m_taped m_size m_at m_end m_token m_whole m_nameSize m_fault m_place m_trouble a_letters m_failed m_hasHouse a_r a_fresh a_st a_undone a_kept m_undos m_images a_from a_begin a_motor a_change a_startFrame a_changeFrame a_lostAt a_blackAt a_slips a_leftArc a_died a_arcs m_bestSum u_25 u_27 a_there a_backAt a_sorted a_parts m_seed1 m_darkNow d_r d_st (iv_w iv_19 (zle_e rfl) (zle_e rfl)) hp_d_r) dX11_layScratch_k2.1.1.1.1 mw1206 mw1207 mw1208 mw5 mw1209 rfl 11 rfl rfl 0 _ rfl yk_yX11_farOf_2 rfl (Nat.le_of_ble_eq_true rfl) (Nat.le_of_ble_eq_true rfl) (Nat.le_of_ble_eq_true rfl) (Nat.le_of_ble_eq_true rfl) (Nat.le_of_ble_eq_true rfl) rfl rfl (vnd_e rfl) rfl (vnd_e rfl) (dsj_e rfl) ?_
        rintro r_40 w rfl
        refine k_ws [(cO11_i1r1i10r1i2r5i2r12i3r4i2 h0 m_thrown a_tape m_taped m_size m_at m_end m_token m_whole m_nameSize m_fault m_place m_trouble a_letters m_failed m_hasHouse a_r a_fresh a_st a_undone a_kept m_undos m_images a_from a_begin a_motor a_change a_startFrame a_changeFrame a_lostAt a_blackAt a_slips a_leftArc a_died a_arcs m_bestSum u_25 u_27 a_there a_backAt a_sorted a_parts m_seed1 m_darkNow), (cAI g a_r 311 d_r), (cAI g a_st 44 d_st)] rfl ?_
        refine k_istore_n [(3, .int r_40), (2, .int u_23), (0, .ref h0), (1, .int p0)] X dX11_layScratch_k2.1.1.1.2 (nlt_e rfl) rfl ?_
        refine k_iload_n X dX11_layScratch_k2.1.1.2.1 0 rfl ?_
        refine k_if_lt 90 X dX11_layScratch_k2.1.1.2.2 (jp_e rfl) (fun h_41 => ?_) (fun h_41 => ?_)
        · skip
          have j_42 : r_40.toInt < 0 := iv_lt h_41
          have iv_43 : IV r_40 (-2147483648) (-1) := iv_ltL (iv_lt h_41) (iv_any r_40) iq_0_0_0 (zle_e rfl)
          obtain ⟨z_44, ez_44⟩ : ∃ y : Int32, u_23 + Int32.ofInt 1 = y := ⟨_, rfl⟩
          refine k_iinc z_44 [(2, .int z_44), (3, .int r_40), (0, .ref h0), (1, .int p0)] 1 X dX11_layScratch_k3.1.2.2 rfl ez_44 (nlt_e rfl) rfl ?_
          have i_45 : z_44.toInt = u_23.toInt + 1 := in_inc ez_44 (oin_e rfl) iv_38 (zle_e rfl) (zle_e rfl)
          have iv_46 : IV z_44 1 4 := iz1 i_45 iv_38 (zle_e rfl) (zle_e rfl)
          refine k_goto 40 X dX11_layScratch_k3.2.1 (jp_e rfl) ?_
          refine k_lv [(2, .int z_44), (0, .ref h0), (1, .int p0)] [0, 2, 3] rfl ?_
          exact ih_31 _ (by omega) z_44 u_25 u_27 rfl (iv_w iv_46 (zle_e rfl) (zle_e rfl)) (iv_w hv_26 (zle_e rfl) (zle_e rfl)) (iv_w hv_28 (zle_e rfl) (zle_e rfl))
        · skip
          have j_47 : 0 ≤ r_40.toInt := iv_nlt h_41
          have iv_48 : IV r_40 0 2147483647 := iv_leR (iv_nlt h_41) iq_0_0_0 (iv_any r_40) (zle_e rfl)
          refine k_aload_n X dX11_layScratch_k2.1.2.1.1 2 rfl ?_
          refine k_get (ci := 11) X inlX11 rfl 35 (nlt_e rfl) dX11_layScratch_k2.1.2.1.2 mw1205 0 rfl rfl ?_
          refine k_if_lt 80 X dX11_layScratch_k2.1.2.2.1 (jp_e rfl) (fun h_49 => ?_) (fun h_49 => ?_)
          · skip
            have j_50 : u_25.toInt < 0 := iv_lt h_49
            have iv_51 : IV u_25 (-2) (-1) := iv_ltL (iv_lt h_49) hv_26 iq_0_0_0 (zle_e rfl)
            refine k_aload_n X dX11_layScratch_k2.2.2.1.1 2 rfl ?_
            refine k_iload_n X dX11_layScratch_k2.2.2.1.2 0 rfl ?_
            refine k_put (ci := 11) [(cO11_i1r1i10r1i2r5i2r12i3r4i2 h0 m_thrown a_tape m_taped m_size m_at m_end m_token m_whole m_nameSize m_fault m_place m_trouble a_letters m_failed m_hasHouse a_r a_fresh a_st a_undone a_kept m_undos m_images a_from a_begin a_motor a_change a_startFrame a_changeFrame a_lostAt a_blackAt a_slips a_leftArc a_died a_arcs m_bestSum r_40 u_27 a_there a_backAt a_sorted a_parts m_seed1 m_darkNow), (cAI g a_r 311 d_r), (cAI g a_st 44 d_st)] X inlX11 rfl tyX11_ok nmX11 35 (nlt_e rfl) rfl dX11_layScratch_k2.2.2.2.1 mw1205 0 rfl rfl rfl (Nat.le_of_ble_eq_true rfl) rfl ?_
            refine k_aload_n X dX11_layScratch_k2.2.2.2.2 2 rfl ?_
            refine k_iload_n X dX11_layScratch_k3.1.1 1 rfl ?_
            refine k_put (ci := 11) [(cO11_i1r1i10r1i2r5i2r12i3r4i2 h0 m_thrown a_tape m_taped m_size m_at m_end m_token m_whole m_nameSize m_fault m_place m_trouble a_letters m_failed m_hasHouse a_r a_fresh a_st a_undone a_kept m_undos m_images a_from a_begin a_motor a_change a_startFrame a_changeFrame a_lostAt a_blackAt a_slips a_leftArc a_died a_arcs m_bestSum r_40 u_23 a_there a_backAt a_sorted a_parts m_seed1 m_darkNow), (cAI g a_r 311 d_r), (cAI g a_st 44 d_st)] X inlX11 rfl tyX11_ok nmX11 36 (nlt_e rfl) rfl dX11_layScratch_k3.1.2.1 mw1200 0 rfl rfl rfl (Nat.le_of_ble_eq_true rfl) rfl ?_
            obtain ⟨z_52, ez_52⟩ : ∃ y : Int32, u_23 + Int32.ofInt 1 = y := ⟨_, rfl⟩
            refine k_iinc z_52 [(2, .int z_52), (3, .int r_40), (0, .ref h0), (1, .int p0)] 1 X dX11_layScratch_k3.1.2.2 rfl ez_52 (nlt_e rfl) rfl ?_
            have i_53 : z_52.toInt = u_23.toInt + 1 := in_inc ez_52 (oin_e rfl) iv_38 (zle_e rfl) (zle_e rfl)
            have iv_54 : IV z_52 1 4 := iz1 i_53 iv_38 (zle_e rfl) (zle_e rfl)
            refine k_goto 40 X dX11_layScratch_k3.2.1 (jp_e rfl) ?_
            refine k_lv [(2, .int z_52), (0, .ref h0), (1, .int p0)] [0, 2, 3] rfl ?_
            exact ih_31 _ (by omega) z_52 r_40 u_23 rfl (iv_w iv_54 (zle_e rfl) (zle_e rfl)) (iv_w iv_48 (zle_e rfl) (zle_e rfl)) (iv_w iv_38 (zle_e rfl) (zle_e rfl))
          · skip
            have j_55 : 0 ≤ u_25.toInt := iv_nlt h_49
            have iv_56 : IV u_25 0 2147483647 := iv_leR (iv_nlt h_49) iq_0_0_0 hv_26 (zle_e rfl)
            refine k_iload_n X dX11_layScratch_k2.1.2.2.2 0 rfl ?_
            refine k_aload_n X dX11_layScratch_k2.2.1.1.1 2 rfl ?_
            refine k_get (ci := 11) X inlX11 rfl 35 (nlt_e rfl) dX11_layScratch_k2.2.1.1.2 mw1205 0 rfl rfl ?_
            refine k_ic_lt 80 X dX11_layScratch_k2.2.1.2.1 (jp_e rfl) (fun h_57 => ?_) (fun h_57 => ?_)
            · skip
              have j_58 : r_40.toInt < u_25.toInt := iv_lt h_57
              have iv_59 : IV r_40 0 2147483646 := iv_ltL (iv_lt h_57) iv_48 iv_56 (zle_e rfl)
              have iv_60 : IV u_25 1 2147483647 := iv_ltR (iv_lt h_57) iv_48 iv_56 (zle_e rfl)
              refine k_aload_n X dX11_layScratch_k2.2.2.1.1 2 rfl ?_
              refine k_iload_n X dX11_layScratch_k2.2.2.1.2 0 rfl ?_
              refine k_put (ci := 11) [(cO11_i1r1i10r1i2r5i2r12i3r4i2 h0 m_thrown a_tape m_taped m_size m_at m_end m_token m_whole m_nameSize m_fault m_place m_trouble a_letters m_failed m_hasHouse a_r a_fresh a_st a_undone a_kept m_undos m_images a_from a_begin a_motor a_change a_startFrame a_changeFrame a_lostAt a_blackAt a_slips a_leftArc a_died a_arcs m_bestSum r_40 u_27 a_there a_backAt a_sorted a_parts m_seed1 m_darkNow), (cAI g a_r 311 d_r), (cAI g a_st 44 d_st)] X inlX11 rfl tyX11_ok nmX11 35 (nlt_e rfl) rfl dX11_layScratch_k2.2.2.2.1 mw1205 0 rfl rfl rfl (Nat.le_of_ble_eq_true rfl) rfl ?_
              refine k_aload_n X dX11_layScratch_k2.2.2.2.2 2 rfl ?_
              refine k_iload_n X dX11_layScratch_k3.1.1 1 rfl ?_
              refine k_put (ci := 11) [(cO11_i1r1i10r1i2r5i2r12i3r4i2 h0 m_thrown a_tape m_taped m_size m_at m_end m_token m_whole m_nameSize m_fault m_place m_trouble a_letters m_failed m_hasHouse a_r a_fresh a_st a_undone a_kept m_undos m_images a_from a_begin a_motor a_change a_startFrame a_changeFrame a_lostAt a_blackAt a_slips a_leftArc a_died a_arcs m_bestSum r_40 u_23 a_there a_backAt a_sorted a_parts m_seed1 m_darkNow), (cAI g a_r 311 d_r), (cAI g a_st 44 d_st)] X inlX11 rfl tyX11_ok nmX11 36 (nlt_e rfl) rfl dX11_layScratch_k3.1.2.1 mw1200 0 rfl rfl rfl (Nat.le_of_ble_eq_true rfl) rfl ?_
              obtain ⟨z_61, ez_61⟩ : ∃ y : Int32, u_23 + Int32.ofInt 1 = y := ⟨_, rfl⟩
              refine k_iinc z_61 [(2, .int z_61), (3, .int r_40), (0, .ref h0), (1, .int p0)] 1 X dX11_layScratch_k3.1.2.2 rfl ez_61 (nlt_e rfl) rfl ?_
              have i_62 : z_61.toInt = u_23.toInt + 1 := in_inc ez_61 (oin_e rfl) iv_38 (zle_e rfl) (zle_e rfl)
              have iv_63 : IV z_61 1 4 := iz1 i_62 iv_38 (zle_e rfl) (zle_e rfl)
              refine k_goto 40 X dX11_layScratch_k3.2.1 (jp_e rfl) ?_
              refine k_lv [(2, .int z_61), (0, .ref h0), (1, .int p0)] [0, 2, 3] rfl ?_
              exact ih_31 _ (by omega) z_61 r_40 u_23 rfl (iv_w iv_63 (zle_e rfl) (zle_e rfl)) (iv_w iv_59 (zle_e rfl) (zle_e rfl)) (iv_w iv_38 (zle_e rfl) (zle_e rfl))
            · skip
              have j_64 : u_25.toInt ≤ r_40.toInt := iv_nlt h_57
              refine k_goto 90 X dX11_layScratch_k2.2.1.2.2 (jp_e rfl) ?_
              obtain ⟨z_65, ez_65⟩ : ∃ y : Int32, u_23 + Int32.ofInt 1 = y := ⟨_, rfl⟩
              refine k_iinc z_65 [(2, .int z_65), (3, .int r_40), (0, .ref h0), (1, .int p0)] 1 X dX11_layScratch_k3.1.2.2 rfl ez_65 (nlt_e rfl) rfl ?_
              have i_66 : z_65.toInt = u_23.toInt + 1 := in_inc ez_65 (oin_e rfl) iv_38 (zle_e rfl) (zle_e rfl)
              have iv_67 : IV z_65 1 4 := iz1 i_66 iv_38 (zle_e rfl) (zle_e rfl)
              refine k_goto 40 X dX11_layScratch_k3.2.1 (jp_e rfl) ?_
              refine k_lv [(2, .int z_65), (0, .ref h0), (1, .int p0)] [0, 2, 3] rfl ?_
              exact ih_31 _ (by omega) z_65 u_25 u_27 rfl (iv_w iv_67 (zle_e rfl) (zle_e rfl)) (iv_w iv_56 (zle_e rfl) (zle_e rfl)) (iv_w hv_28 (zle_e rfl) (zle_e rfl))
    · skip
      have iv_68 : IV r_10 0 0 := iv_meet iv_11 (iv_e h_14 iq_0_0_0) (zle_o rfl) (zle_o rfl)
      have hc_69 := hk_13 (iv_eq iv_68 iq_0_0_0)
      have j_70 : p0.toInt < 0 ∨ z_7.toInt < p0.toInt := hc_69
      refine k_iconst (v := 0) X dX11_layScratch_k0.2.2.1.2 ic_0 ?_
      exact k_zret X hr (by first | rfl | decide) dX11_layScratch_k0.2.2.2.1 (Nat.le_of_ble_eq_true rfl) (Nat.le_of_ble_eq_true rfl) [0, 1, 2] (vnd_e rfl) rfl rfl ⟨m_nearest, m_nearestTown, (iv_w iq_0_0_0 (zle_e rfl) (zle_e rfl)), rfl⟩

theorem dX11_who_k0 : (((dD cX11_who 0 (.aload_n 0) 1 ∧ (dD cX11_who 1 (.invokevirtual 200) 3 ∧ dD cX11_who 4 (.aload_n 0) 1)) ∧ (dD cX11_who 5 (.iload_n 1) 1 ∧ (dD cX11_who 6 (.invokevirtual 440) 3 ∧ dD cX11_who 9 (.ifCond .eq 10) 3))) ∧ ((dD cX11_who 12 (.aload_n 0) 1 ∧ (dD cX11_who 13 (.getfield 434) 3 ∧ dD cX11_who 16 (.goto 8) 3)) ∧ ((dD cX11_who 19 (.aload_n 0) 1 ∧ dD cX11_who 20 (.iconst 1) 1) ∧ (dD cX11_who 21 (.invokevirtual 203) 3 ∧ dD cX11_who 24 .ireturn 1)))) := dkA13 (by decide +kernel)
set_option maxHeartbeats 4000000 in
set_option maxRecDepth 100000 in
theorem m_who (l : Launch) (g : Gx) (h0 : Nat) (p0 : Int32) (m_thrown : Int32) (a_tape : Nat) (m_taped : Int32) (m_size : Int32) (m_at : Int32) (m_end : Int32) (m_token : Int32) (m_whole : Int32) (m_nameSize : Int32) (m_fault : Int32) (m_place : Int32) (m_trouble : Int32) (a_letters : Nat) (m_failed : Int32) (m_hasHouse : Int32) (a_r : Nat) (a_fresh : Nat) (a_st : Nat) (a_undone : Nat) (a_kept : Nat) (m_undos : Int32) (m_images : Int32) (a_from : Nat) (a_begin : Nat) (a_motor : Nat) (a_change : Nat) (a_startFrame : Nat) (a_changeFrame : Nat) (a_lostAt : Nat) (a_blackAt : Nat) (a_slips : Nat) (a_leftArc : Nat) (a_died : Nat) (a_arcs : Nat) (m_bestSum : Int32) (m_nearest : Int32) (m_nearestTown : Int32) (a_there : Nat) (a_backAt : Nat) (a_sorted : Nat) (a_parts : Nat) (m_seed1 : Int32) (m_darkNow : Int32) (d_r : Nat → Int32) (d_st : Nat → Int32) (hv_m_hasHouse : IV m_hasHouse 0 1) (hp_d_r : RInv d_r) : cI l g yX11_who cX11_who 2 (some .int) 2 50 0 0 [.ref h0, .int p0] [(cO11_i1r1i10r1i2r5i2r12i3r4i2 h0 m_thrown a_tape m_taped m_size m_at m_end m_token m_whole m_nameSize m_fault m_place m_trouble a_letters m_failed m_hasHouse a_r a_fresh a_st a_undone a_kept m_undos m_images a_from a_begin a_motor a_change a_startFrame a_changeFrame a_lostAt a_blackAt a_slips a_leftArc a_died a_arcs m_bestSum m_nearest m_nearestTown a_there a_backAt a_sorted a_parts m_seed1 m_darkNow), (cAI g a_r 311 d_r), (cAI g a_st 44 d_st)] (fun r w => ∃ (m_nearest2 : Int32) (m_nearestTown2 : Int32) (m_thrown2 : Int32) (m_trouble2 : Int32), w = [(cO11_i1r1i10r1i2r5i2r12i3r4i2 h0 m_thrown2 a_tape m_taped m_size m_at m_end m_token m_whole m_nameSize m_fault m_place m_trouble2 a_letters m_failed m_hasHouse a_r a_fresh a_st a_undone a_kept m_undos m_images a_from a_begin a_motor a_change a_startFrame a_changeFrame a_lostAt a_blackAt a_slips a_leftArc a_died a_arcs m_bestSum m_nearest2 m_nearestTown2 a_there a_backAt a_sorted a_parts m_seed1 m_darkNow), (cAI g a_r 311 d_r), (cAI g a_st 44 d_st)]) := by
  refine cI.of (by decide) (Nat.le_of_ble_eq_true rfl) ?_
  intro p e s m args below meth c A X hr hi
  refine k_lveq [(0, .ref h0), (1, .int p0)] rfl ?_
  refine k_aload_n X dX11_who_k0.1.1.1 0 rfl ?_
  refine k_callVV (n := 0) (As := []) (st := []) X [(cO11_i1r1i10r1i2r5i2r12i3r4i2 h0 m_thrown a_tape m_taped m_size m_at m_end m_token m_whole m_nameSize m_fault m_place m_trouble a_letters m_failed m_hasHouse a_r a_fresh a_st a_undone a_kept m_undos m_images a_from a_begin a_motor a_change a_startFrame a_changeFrame a_lostAt a_blackAt a_slips a_leftArc a_died a_arcs m_bestSum m_nearest m_nearestTown a_there a_backAt a_sorted a_parts m_seed1 m_darkNow)] [(cAI g a_r 311 d_r), (cAI g a_st 44 d_st)] [0] [1, 2] (m_good l g h0 m_thrown a_tape m_taped m_size m_at m_end m_token m_whole m_nameSize m_fault m_place m_trouble a_letters m_failed m_hasHouse a_r a_fresh a_st a_undone a_kept m_undos m_images a_from a_begin a_motor a_change a_startFrame a_changeFrame a_lostAt a_blackAt a_slips a_leftArc a_died a_arcs m_bestSum m_nearest m_nearestTown a_there a_backAt a_sorted a_parts m_seed1 m_darkNow) dX11_who_k0.1.1.2.1 mw477 mw478 mw479 mw5 mw480 rfl 11 rfl rfl 0 _ rfl yk_yX11_good_0 rfl (Nat.le_of_ble_eq_true rfl) (Nat.le_of_ble_eq_true rfl) (Nat.le_of_ble_eq_true rfl) (Nat.le_of_ble_eq_true rfl) (Nat.le_of_ble_eq_true rfl) rfl rfl (vnd_e rfl) rfl (vnd_e rfl) (dsj_e rfl) ?_
  rintro w ⟨m_thrown2_1, m_trouble2_2, rfl⟩
  refine k_ws [(cAI g a_r 311 d_r), (cAI g a_st 44 d_st), (cO11_i1r1i10r1i2r5i2r12i3r4i2 h0 m_thrown2_1 a_tape m_taped m_size m_at m_end m_token m_whole m_nameSize m_fault m_place m_trouble2_2 a_letters m_failed m_hasHouse a_r a_fresh a_st a_undone a_kept m_undos m_images a_from a_begin a_motor a_change a_startFrame a_changeFrame a_lostAt a_blackAt a_slips a_leftArc a_died a_arcs m_bestSum m_nearest m_nearestTown a_there a_backAt a_sorted a_parts m_seed1 m_darkNow)] rfl ?_
  refine k_aload_n X dX11_who_k0.1.1.2.2 0 rfl ?_
  refine k_iload_n X dX11_who_k0.1.2.1 1 rfl ?_
  refine k_callVI (n := 1) (As := [.int p0]) (st := []) X [(cO11_i1r1i10r1i2r5i2r12i3r4i2 h0 m_thrown2_1 a_tape m_taped m_size m_at m_end m_token m_whole m_nameSize m_fault m_place m_trouble2_2 a_letters m_failed m_hasHouse a_r a_fresh a_st a_undone a_kept m_undos m_images a_from a_begin a_motor a_change a_startFrame a_changeFrame a_lostAt a_blackAt a_slips a_leftArc a_died a_arcs m_bestSum m_nearest m_nearestTown a_there a_backAt a_sorted a_parts m_seed1 m_darkNow), (cAI g a_r 311 d_r), (cAI g a_st 44 d_st)] [] [2, 0, 1] [] (m_layScratch l g h0 p0 m_thrown2_1 a_tape m_taped m_size m_at m_end m_token m_whole m_nameSize m_fault m_place m_trouble2_2 a_letters m_failed m_hasHouse a_r a_fresh a_st a_undone a_kept m_undos m_images a_from a_begin a_motor a_change a_startFrame a_changeFrame a_lostAt a_blackAt a_slips a_leftArc a_died a_arcs m_bestSum m_nearest m_nearestTown a_there a_backAt a_sorted a_parts m_seed1 m_darkNow d_r d_st (iv_w hv_m_hasHouse (zle_e rfl) (zle_e rfl)) hp_d_r) dX11_who_k0.1.2.2.1 mw1201 mw1202 mw1203 mw5 mw1204 rfl 11 rfl rfl 0 _ rfl yk_yX11_layScratch_1 rfl (Nat.le_of_ble_eq_true rfl) (Nat.le_of_ble_eq_true rfl) (Nat.le_of_ble_eq_true rfl) (Nat.le_of_ble_eq_true rfl) (Nat.le_of_ble_eq_true rfl) rfl rfl (vnd_e rfl) rfl (vnd_e rfl) (dsj_e rfl) ?_
  rintro r_6 w ⟨m_nearest2_4, m_nearestTown2_5, iv_7, rfl⟩
  refine k_ws [(cO11_i1r1i10r1i2r5i2r12i3r4i2 h0 m_thrown2_1 a_tape m_taped m_size m_at m_end m_token m_whole m_nameSize m_fault m_place m_trouble2_2 a_letters m_failed m_hasHouse a_r a_fresh a_st a_undone a_kept m_undos m_images a_from a_begin a_motor a_change a_startFrame a_changeFrame a_lostAt a_blackAt a_slips a_leftArc a_died a_arcs m_bestSum m_nearest2_4 m_nearestTown2_5 a_there a_backAt a_sorted a_parts m_seed1 m_darkNow), (cAI g a_r 311 d_r), (cAI g a_st 44 d_st)] rfl ?_
  refine k_if_eq 19 X dX11_who_k0.1.2.2.2 (jp_e rfl) (fun h_8 => ?_) (fun h_8 => ?_)
  · skip
    have iv_9 : IV r_6 0 0 := iv_meet iv_7 (iv_e h_8 iq_0_0_0) (zle_o rfl) (zle_o rfl)
    refine k_aload_n X dX11_who_k0.2.2.1.1 0 rfl ?_
    refine k_iconst (v := 1) X dX11_who_k0.2.2.1.2 ic_1 ?_
    refine k_callVI (n := 1) (As := [.int 1]) (st := []) X [(cO11_i1r1i10r1i2r5i2r12i3r4i2 h0 m_thrown2_1 a_tape m_taped m_size m_at m_end m_token m_whole m_nameSize m_fault m_place m_trouble2_2 a_letters m_failed m_hasHouse a_r a_fresh a_st a_undone a_kept m_undos m_images a_from a_begin a_motor a_change a_startFrame a_changeFrame a_lostAt a_blackAt a_slips a_leftArc a_died a_arcs m_bestSum m_nearest2_4 m_nearestTown2_5 a_there a_backAt a_sorted a_parts m_seed1 m_darkNow)] [(cAI g a_r 311 d_r), (cAI g a_st 44 d_st)] [0] [1, 2] (m_no l g h0 1 m_thrown2_1 a_tape m_taped m_size m_at m_end m_token m_whole m_nameSize m_fault m_place m_trouble2_2 a_letters m_failed m_hasHouse a_r a_fresh a_st a_undone a_kept m_undos m_images a_from a_begin a_motor a_change a_startFrame a_changeFrame a_lostAt a_blackAt a_slips a_leftArc a_died a_arcs m_bestSum m_nearest2_4 m_nearestTown2_5 a_there a_backAt a_sorted a_parts m_seed1 m_darkNow) dX11_who_k0.2.2.2.1 mw485 mw486 mw487 mw5 mw488 rfl 11 rfl rfl 0 _ rfl yk_yX11_no_1 rfl (Nat.le_of_ble_eq_true rfl) (Nat.le_of_ble_eq_true rfl) (Nat.le_of_ble_eq_true rfl) (Nat.le_of_ble_eq_true rfl) (Nat.le_of_ble_eq_true rfl) rfl rfl (vnd_e rfl) rfl (vnd_e rfl) (dsj_e rfl) ?_
    rintro r_11 w ⟨m_trouble2_10, iv_12, rfl⟩
    refine k_ws [(cAI g a_r 311 d_r), (cAI g a_st 44 d_st), (cO11_i1r1i10r1i2r5i2r12i3r4i2 h0 m_thrown2_1 a_tape m_taped m_size m_at m_end m_token m_whole m_nameSize m_fault m_place m_trouble2_10 a_letters m_failed m_hasHouse a_r a_fresh a_st a_undone a_kept m_undos m_images a_from a_begin a_motor a_change a_startFrame a_changeFrame a_lostAt a_blackAt a_slips a_leftArc a_died a_arcs m_bestSum m_nearest2_4 m_nearestTown2_5 a_there a_backAt a_sorted a_parts m_seed1 m_darkNow)] rfl ?_
    exact k_iret X hr dX11_who_k0.2.2.2.2 (Nat.le_of_ble_eq_true rfl) (Nat.le_of_ble_eq_true rfl) [2, 0, 1] (vnd_e rfl) rfl rfl (exI4 m_nearest2_4 m_nearestTown2_5 m_thrown2_1 m_trouble2_10 rfl)
  · skip
    have iv_13 : IV r_6 1 1 := iv_neL h_8 iv_7 iq_0_0_0 (zle_e rfl)
    refine k_aload_n X dX11_who_k0.2.1.1 0 rfl ?_
    refine k_get (ci := 11) X inlX11 rfl 36 (nlt_e rfl) dX11_who_k0.2.1.2.1 mw1200 0 rfl rfl ?_
    refine k_goto 24 X dX11_who_k0.2.1.2.2 (jp_e rfl) ?_
    exact k_iret X hr dX11_who_k0.2.2.2.2 (Nat.le_of_ble_eq_true rfl) (Nat.le_of_ble_eq_true rfl) [0, 1, 2] (vnd_e rfl) rfl rfl (exI4 m_nearest2_4 m_nearestTown2_5 m_thrown2_1 m_trouble2_2 rfl)

theorem dX11_far_k0 : (((dD cX11_far 0 (.aload_n 0) 1 ∧ (dD cX11_far 1 (.invokevirtual 200) 3 ∧ dD cX11_far 4 (.aload_n 0) 1)) ∧ (dD cX11_far 5 (.iload_n 1) 1 ∧ (dD cX11_far 6 (.invokevirtual 440) 3 ∧ dD cX11_far 9 (.ifCond .eq 10) 3))) ∧ ((dD cX11_far 12 (.aload_n 0) 1 ∧ (dD cX11_far 13 (.getfield 431) 3 ∧ dD cX11_far 16 (.goto 8) 3)) ∧ ((dD cX11_far 19 (.aload_n 0) 1 ∧ dD cX11_far 20 (.iconst 1) 1) ∧ (dD cX11_far 21 (.invokevirtual 203) 3 ∧ dD cX11_far 24 .ireturn 1)))) := dkA13 (by decide +kernel)
set_option maxHeartbeats 4000000 in
set_option maxRecDepth 100000 in
theorem m_far (l : Launch) (g : Gx) (h0 : Nat) (p0 : Int32) (m_thrown : Int32) (a_tape : Nat) (m_taped : Int32) (m_size : Int32) (m_at : Int32) (m_end : Int32) (m_token : Int32) (m_whole : Int32) (m_nameSize : Int32) (m_fault : Int32) (m_place : Int32) (m_trouble : Int32) (a_letters : Nat) (m_failed : Int32) (m_hasHouse : Int32) (a_r : Nat) (a_fresh : Nat) (a_st : Nat) (a_undone : Nat) (a_kept : Nat) (m_undos : Int32) (m_images : Int32) (a_from : Nat) (a_begin : Nat) (a_motor : Nat) (a_change : Nat) (a_startFrame : Nat) (a_changeFrame : Nat) (a_lostAt : Nat) (a_blackAt : Nat) (a_slips : Nat) (a_leftArc : Nat) (a_died : Nat) (a_arcs : Nat) (m_bestSum : Int32) (m_nearest : Int32) (m_nearestTown : Int32) (a_there : Nat) (a_backAt : Nat) (a_sorted : Nat) (a_parts : Nat) (m_seed1 : Int32) (m_darkNow : Int32) (d_r : Nat → Int32) (d_st : Nat → Int32) (hv_m_hasHouse : IV m_hasHouse 0 1) (hp_d_r : RInv d_r) : cI l g yX11_far cX11_far 2 (some .int) 2 50 0 0 [.ref h0, .int p0] [(cO11_i1r1i10r1i2r5i2r12i3r4i2 h0 m_thrown a_tape m_taped m_size m_at m_end m_token m_whole m_nameSize m_fault m_place m_trouble a_letters m_failed m_hasHouse a_r a_fresh a_st a_undone a_kept m_undos m_images a_from a_begin a_motor a_change a_startFrame a_changeFrame a_lostAt a_blackAt a_slips a_leftArc a_died a_arcs m_bestSum m_nearest m_nearestTown a_there a_backAt a_sorted a_parts m_seed1 m_darkNow), (cAI g a_r 311 d_r), (cAI g a_st 44 d_st)] (fun r w => ∃ (m_nearest2 : Int32) (m_nearestTown2 : Int32) (m_thrown2 : Int32) (m_trouble2 : Int32), w = [(cO11_i1r1i10r1i2r5i2r12i3r4i2 h0 m_thrown2 a_tape m_taped m_size m_at m_end m_token m_whole m_nameSize m_fault m_place m_trouble2 a_letters m_failed m_hasHouse a_r a_fresh a_st a_undone a_kept m_undos m_images a_from a_begin a_motor a_change a_startFrame a_changeFrame a_lostAt a_blackAt a_slips a_leftArc a_died a_arcs m_bestSum m_nearest2 m_nearestTown2 a_there a_backAt a_sorted a_parts m_seed1 m_darkNow), (cAI g a_r 311 d_r), (cAI g a_st 44 d_st)]) := by
  refine cI.of (by decide) (Nat.le_of_ble_eq_true rfl) ?_
  intro p e s m args below meth c A X hr hi
  refine k_lveq [(0, .ref h0), (1, .int p0)] rfl ?_
  refine k_aload_n X dX11_far_k0.1.1.1 0 rfl ?_
  refine k_callVV (n := 0) (As := []) (st := []) X [(cO11_i1r1i10r1i2r5i2r12i3r4i2 h0 m_thrown a_tape m_taped m_size m_at m_end m_token m_whole m_nameSize m_fault m_place m_trouble a_letters m_failed m_hasHouse a_r a_fresh a_st a_undone a_kept m_undos m_images a_from a_begin a_motor a_change a_startFrame a_changeFrame a_lostAt a_blackAt a_slips a_leftArc a_died a_arcs m_bestSum m_nearest m_nearestTown a_there a_backAt a_sorted a_parts m_seed1 m_darkNow)] [(cAI g a_r 311 d_r), (cAI g a_st 44 d_st)] [0] [1, 2] (m_good l g h0 m_thrown a_tape m_taped m_size m_at m_end m_token m_whole m_nameSize m_fault m_place m_trouble a_letters m_failed m_hasHouse a_r a_fresh a_st a_undone a_kept m_undos m_images a_from a_begin a_motor a_change a_startFrame a_changeFrame a_lostAt a_blackAt a_slips a_leftArc a_died a_arcs m_bestSum m_nearest m_nearestTown a_there a_backAt a_sorted a_parts m_seed1 m_darkNow) dX11_far_k0.1.1.2.1 mw477 mw478 mw479 mw5 mw480 rfl 11 rfl rfl 0 _ rfl yk_yX11_good_0 rfl (Nat.le_of_ble_eq_true rfl) (Nat.le_of_ble_eq_true rfl) (Nat.le_of_ble_eq_true rfl) (Nat.le_of_ble_eq_true rfl) (Nat.le_of_ble_eq_true rfl) rfl rfl (vnd_e rfl) rfl (vnd_e rfl) (dsj_e rfl) ?_
  rintro w ⟨m_thrown2_1, m_trouble2_2, rfl⟩
  refine k_ws [(cAI g a_r 311 d_r), (cAI g a_st 44 d_st), (cO11_i1r1i10r1i2r5i2r12i3r4i2 h0 m_thrown2_1 a_tape m_taped m_size m_at m_end m_token m_whole m_nameSize m_fault m_place m_trouble2_2 a_letters m_failed m_hasHouse a_r a_fresh a_st a_undone a_kept m_undos m_images a_from a_begin a_motor a_change a_startFrame a_changeFrame a_lostAt a_blackAt a_slips a_leftArc a_died a_arcs m_bestSum m_nearest m_nearestTown a_there a_backAt a_sorted a_parts m_seed1 m_darkNow)] rfl ?_
  refine k_aload_n X dX11_far_k0.1.1.2.2 0 rfl ?_
  refine k_iload_n X dX11_far_k0.1.2.1 1 rfl ?_
  refine k_callVI (n := 1) (As := [.int p0]) (st := []) X [(cO11_i1r1i10r1i2r5i2r12i3r4i2 h0 m_thrown2_1 a_tape m_taped m_size m_at m_end m_token m_whole m_nameSize m_fault m_place m_trouble2_2 a_letters m_failed m_hasHouse a_r a_fresh a_st a_undone a_kept m_undos m_images a_from a_begin a_motor a_change a_startFrame a_changeFrame a_lostAt a_blackAt a_slips a_leftArc a_died a_arcs m_bestSum m_nearest m_nearestTown a_there a_backAt a_sorted a_parts m_seed1 m_darkNow), (cAI g a_r 311 d_r), (cAI g a_st 44 d_st)] [] [2, 0, 1] [] (m_layScratch l g h0 p0 m_thrown2_1 a_tape m_taped m_size m_at m_end m_token m_whole m_nameSize m_fault m_place m_trouble2_2 a_letters m_failed m_hasHouse a_r a_fresh a_st a_undone a_kept m_undos m_images a_from a_begin a_motor a_change a_startFrame a_changeFrame a_lostAt a_blackAt a_slips a_leftArc a_died a_arcs m_bestSum m_nearest m_nearestTown a_there a_backAt a_sorted a_parts m_seed1 m_darkNow d_r d_st (iv_w hv_m_hasHouse (zle_e rfl) (zle_e rfl)) hp_d_r) dX11_far_k0.1.2.2.1 mw1201 mw1202 mw1203 mw5 mw1204 rfl 11 rfl rfl 0 _ rfl yk_yX11_layScratch_1 rfl (Nat.le_of_ble_eq_true rfl) (Nat.le_of_ble_eq_true rfl) (Nat.le_of_ble_eq_true rfl) (Nat.le_of_ble_eq_true rfl) (Nat.le_of_ble_eq_true rfl) rfl rfl (vnd_e rfl) rfl (vnd_e rfl) (dsj_e rfl) ?_
  rintro r_6 w ⟨m_nearest2_4, m_nearestTown2_5, iv_7, rfl⟩
  refine k_ws [(cO11_i1r1i10r1i2r5i2r12i3r4i2 h0 m_thrown2_1 a_tape m_taped m_size m_at m_end m_token m_whole m_nameSize m_fault m_place m_trouble2_2 a_letters m_failed m_hasHouse a_r a_fresh a_st a_undone a_kept m_undos m_images a_from a_begin a_motor a_change a_startFrame a_changeFrame a_lostAt a_blackAt a_slips a_leftArc a_died a_arcs m_bestSum m_nearest2_4 m_nearestTown2_5 a_there a_backAt a_sorted a_parts m_seed1 m_darkNow), (cAI g a_r 311 d_r), (cAI g a_st 44 d_st)] rfl ?_
  refine k_if_eq 19 X dX11_far_k0.1.2.2.2 (jp_e rfl) (fun h_8 => ?_) (fun h_8 => ?_)
  · skip
    have iv_9 : IV r_6 0 0 := iv_meet iv_7 (iv_e h_8 iq_0_0_0) (zle_o rfl) (zle_o rfl)
    refine k_aload_n X dX11_far_k0.2.2.1.1 0 rfl ?_
    refine k_iconst (v := 1) X dX11_far_k0.2.2.1.2 ic_1 ?_
    refine k_callVI (n := 1) (As := [.int 1]) (st := []) X [(cO11_i1r1i10r1i2r5i2r12i3r4i2 h0 m_thrown2_1 a_tape m_taped m_size m_at m_end m_token m_whole m_nameSize m_fault m_place m_trouble2_2 a_letters m_failed m_hasHouse a_r a_fresh a_st a_undone a_kept m_undos m_images a_from a_begin a_motor a_change a_startFrame a_changeFrame a_lostAt a_blackAt a_slips a_leftArc a_died a_arcs m_bestSum m_nearest2_4 m_nearestTown2_5 a_there a_backAt a_sorted a_parts m_seed1 m_darkNow)] [(cAI g a_r 311 d_r), (cAI g a_st 44 d_st)] [0] [1, 2] (m_no l g h0 1 m_thrown2_1 a_tape m_taped m_size m_at m_end m_token m_whole m_nameSize m_fault m_place m_trouble2_2 a_letters m_failed m_hasHouse a_r a_fresh a_st a_undone a_kept m_undos m_images a_from a_begin a_motor a_change a_startFrame a_changeFrame a_lostAt a_blackAt a_slips a_leftArc a_died a_arcs m_bestSum m_nearest2_4 m_nearestTown2_5 a_there a_backAt a_sorted a_parts m_seed1 m_darkNow) dX11_far_k0.2.2.2.1 mw485 mw486 mw487 mw5 mw488 rfl 11 rfl rfl 0 _ rfl yk_yX11_no_1 rfl (Nat.le_of_ble_eq_true rfl) (Nat.le_of_ble_eq_true rfl) (Nat.le_of_ble_eq_true rfl) (Nat.le_of_ble_eq_true rfl) (Nat.le_of_ble_eq_true rfl) rfl rfl (vnd_e rfl) rfl (vnd_e rfl) (dsj_e rfl) ?_
    rintro r_11 w ⟨m_trouble2_10, iv_12, rfl⟩
    refine k_ws [(cAI g a_r 311 d_r), (cAI g a_st 44 d_st), (cO11_i1r1i10r1i2r5i2r12i3r4i2 h0 m_thrown2_1 a_tape m_taped m_size m_at m_end m_token m_whole m_nameSize m_fault m_place m_trouble2_10 a_letters m_failed m_hasHouse a_r a_fresh a_st a_undone a_kept m_undos m_images a_from a_begin a_motor a_change a_startFrame a_changeFrame a_lostAt a_blackAt a_slips a_leftArc a_died a_arcs m_bestSum m_nearest2_4 m_nearestTown2_5 a_there a_backAt a_sorted a_parts m_seed1 m_darkNow)] rfl ?_
    exact k_iret X hr dX11_far_k0.2.2.2.2 (Nat.le_of_ble_eq_true rfl) (Nat.le_of_ble_eq_true rfl) [2, 0, 1] (vnd_e rfl) rfl rfl (exI4 m_nearest2_4 m_nearestTown2_5 m_thrown2_1 m_trouble2_10 rfl)
  · skip
    have iv_13 : IV r_6 1 1 := iv_neL h_8 iv_7 iq_0_0_0 (zle_e rfl)
    refine k_aload_n X dX11_far_k0.2.1.1 0 rfl ?_
    refine k_get (ci := 11) X inlX11 rfl 35 (nlt_e rfl) dX11_far_k0.2.1.2.1 mw1205 0 rfl rfl ?_
    refine k_goto 24 X dX11_far_k0.2.1.2.2 (jp_e rfl) ?_
    exact k_iret X hr dX11_far_k0.2.2.2.2 (Nat.le_of_ble_eq_true rfl) (Nat.le_of_ble_eq_true rfl) [0, 1, 2] (vnd_e rfl) rfl rfl (exI4 m_nearest2_4 m_nearestTown2_5 m_thrown2_1 m_trouble2_2 rfl)

theorem dX11_carry_k0 : ((((dD cX11_carry 0 (.aload_n 0) 1 ∧ dD cX11_carry 1 (.iload_n 1) 1) ∧ (dD cX11_carry 2 (.invokevirtual 373) 3 ∧ dD cX11_carry 5 (.iconst 0) 1)) ∧ ((dD cX11_carry 6 (.istore_n 3) 1 ∧ dD cX11_carry 7 (.iload_n 3) 1) ∧ (dD cX11_carry 8 (.iconst 4) 1 ∧ dD cX11_carry 9 (.if_icmp .ge 16) 3))) ∧ (((dD cX11_carry 12 (.aload_n 0) 1 ∧ dD cX11_carry 13 (.getfield 74) 3) ∧ (dD cX11_carry 16 (.iload_n 3) 1 ∧ dD cX11_carry 17 (.iconst 0) 1)) ∧ ((dD cX11_carry 18 .iastore 1 ∧ dD cX11_carry 19 (.iinc 3 1) 3) ∧ (dD cX11_carry 22 (.goto (-15)) 3 ∧ dD cX11_carry 25 (.iconst 0) 1)))) := dkA16 (by decide +kernel)
theorem dX11_carry_k1 : ((((dD cX11_carry 26 (.istore_n 3) 1 ∧ dD cX11_carry 27 (.iload_n 3) 1) ∧ (dD cX11_carry 28 (.aload_n 0) 1 ∧ dD cX11_carry 29 (.getfield 20) 3)) ∧ ((dD cX11_carry 32 (.bipush 12) 2 ∧ dD cX11_carry 34 .iaload 1) ∧ (dD cX11_carry 35 (.if_icmp .ge 110) 3 ∧ dD cX11_carry 38 (.iconst 0) 1))) ∧ (((dD cX11_carry 39 (.istore 4) 2 ∧ dD cX11_carry 41 (.iconst 1) 1) ∧ (dD cX11_carry 42 (.istore 5) 2 ∧ dD cX11_carry 44 (.iload 5) 2)) ∧ ((dD cX11_carry 46 (.iload_n 2) 1 ∧ dD cX11_carry 47 (.if_icmp .ge 35) 3) ∧ (dD cX11_carry 50 (.aload_n 0) 1 ∧ dD cX11_carry 51 (.getfield 74) 3)))) := dkA16 (by decide +kernel)
theorem dX11_carry_k2 : ((((dD cX11_carry 54 (.iload 5) 2 ∧ dD cX11_carry 56 .iaload 1) ∧ (dD cX11_carry 57 (.aload_n 0) 1 ∧ dD cX11_carry 58 (.getfield 74) 3)) ∧ ((dD cX11_carry 61 (.iload 4) 2 ∧ dD cX11_carry 63 .iaload 1) ∧ (dD cX11_carry 64 (.if_icmp .ge 8) 3 ∧ dD cX11_carry 67 (.iload 5) 2))) ∧ (((dD cX11_carry 69 (.goto 5) 3 ∧ dD cX11_carry 72 (.iload 4) 2) ∧ (dD cX11_carry 74 (.istore 4) 2 ∧ dD cX11_carry 76 (.iinc 5 1) 3)) ∧ ((dD cX11_carry 79 (.goto (-35)) 3 ∧ dD cX11_carry 82 (.aload_n 0) 1) ∧ (dD cX11_carry 83 (.getfield 44) 3 ∧ dD cX11_carry 86 (.iload_n 3) 1)))) := dkA16 (by decide +kernel)
theorem dX11_carry_k3 : ((((dD cX11_carry 87 .iaload 1 ∧ dD cX11_carry 88 (.aload_n 0) 1) ∧ (dD cX11_carry 89 (.getfield 74) 3 ∧ dD cX11_carry 92 (.iload 4) 2)) ∧ ((dD cX11_carry 94 .iaload 1 ∧ dD cX11_carry 95 (.invokestatic 351) 3) ∧ (dD cX11_carry 98 (.istore 5) 2 ∧ dD cX11_carry 100 (.aload_n 0) 1))) ∧ (((dD cX11_carry 101 (.getfield 71) 3 ∧ dD cX11_carry 104 (.iload_n 3) 1) ∧ (dD cX11_carry 105 (.iload 5) 2 ∧ dD cX11_carry 107 (.aload_n 0) 1)) ∧ ((dD cX11_carry 108 (.getfield 20) 3 ∧ dD cX11_carry 111 (.sipush 135) 3) ∧ (dD cX11_carry 114 .iaload 1 ∧ dD cX11_carry 115 .iadd 1)))) := dkA16 (by decide +kernel)
theorem dX11_carry_k4 : ((((dD cX11_carry 116 .iastore 1 ∧ dD cX11_carry 117 (.aload_n 0) 1) ∧ (dD cX11_carry 118 (.getfield 74) 3 ∧ dD cX11_carry 121 (.iload 4) 2)) ∧ ((dD cX11_carry 123 (.aload_n 0) 1 ∧ dD cX11_carry 124 (.getfield 71) 3) ∧ (dD cX11_carry 127 (.iload_n 3) 1 ∧ dD cX11_carry 128 .iaload 1))) ∧ (((dD cX11_carry 129 (.aload_n 0) 1 ∧ dD cX11_carry 130 (.getfield 20) 3) ∧ (dD cX11_carry 133 (.sipush 135) 3 ∧ dD cX11_carry 136 .iaload 1)) ∧ ((dD cX11_carry 137 .iadd 1 ∧ dD cX11_carry 138 .iastore 1) ∧ (dD cX11_carry 139 (.iinc 3 1) 3 ∧ dD cX11_carry 142 (.goto (-115)) 3)))) := dkA16 (by decide +kernel)
theorem dX11_carry_k5 : dD cX11_carry 145 .return_ 1 := dkA1 (by decide +kernel)
set_option maxHeartbeats 4000000 in
set_option maxRecDepth 100000 in
theorem m_carry (l : Launch) (g : Gx) (h0 : Nat) (p0 : Int32) (p1 : Int32) (m_thrown : Int32) (a_tape : Nat) (m_taped : Int32) (m_size : Int32) (m_at : Int32) (m_end : Int32) (m_token : Int32) (m_whole : Int32) (m_nameSize : Int32) (m_fault : Int32) (m_place : Int32) (m_trouble : Int32) (a_letters : Nat) (m_failed : Int32) (m_hasHouse : Int32) (a_r : Nat) (a_fresh : Nat) (a_st : Nat) (a_undone : Nat) (a_kept : Nat) (m_undos : Int32) (m_images : Int32) (a_from : Nat) (a_begin : Nat) (a_motor : Nat) (a_change : Nat) (a_startFrame : Nat) (a_changeFrame : Nat) (a_lostAt : Nat) (a_blackAt : Nat) (a_slips : Nat) (a_leftArc : Nat) (a_died : Nat) (a_arcs : Nat) (m_bestSum : Int32) (m_nearest : Int32) (m_nearestTown : Int32) (a_there : Nat) (a_backAt : Nat) (a_sorted : Nat) (a_parts : Nat) (m_seed1 : Int32) (m_darkNow : Int32) (d_r : Nat → Int32) (d_st : Nat → Int32) (d_from : Nat → Int32) (d_begin : Nat → Int32) (d_motor : Nat → Int32) (d_change : Nat → Int32) (d_startFrame : Nat → Int32) (d_changeFrame : Nat → Int32) (d_lostAt : Nat → Int32) (d_blackAt : Nat → Int32) (d_slips : Nat → Int32) (d_there : Nat → Int32) (d_backAt : Nat → Int32) (hv_p0 : IV p0 0 3) (hv_p1 : IV p1 0 4) (hp_d_r : RInv d_r) : cV l g yX11_carry cX11_carry 6 5 110 0 0 [.ref h0, .int p0, .int p1] [(cO11_i1r1i10r1i2r5i2r12i3r4i2 h0 m_thrown a_tape m_taped m_size m_at m_end m_token m_whole m_nameSize m_fault m_place m_trouble a_letters m_failed m_hasHouse a_r a_fresh a_st a_undone a_kept m_undos m_images a_from a_begin a_motor a_change a_startFrame a_changeFrame a_lostAt a_blackAt a_slips a_leftArc a_died a_arcs m_bestSum m_nearest m_nearestTown a_there a_backAt a_sorted a_parts m_seed1 m_darkNow), (cAI g a_r 311 d_r), (cAI g a_st 44 d_st), (cAI g a_from 8 d_from), (cAI g a_begin 8 d_begin), (cAI g a_motor 8 d_motor), (cAI g a_change 8 d_change), (cAI g a_startFrame 8 d_startFrame), (cAI g a_changeFrame 8 d_changeFrame), (cAI g a_lostAt 8 d_lostAt), (cAI g a_blackAt 8 d_blackAt), (cAI g a_slips 8 d_slips), (cAI g a_there 8 d_there), (cAI g a_backAt 4 d_backAt)] (fun w => ∃ (d_backAt2 : Nat → Int32) (d_begin2 : Nat → Int32) (d_blackAt2 : Nat → Int32) (d_change2 : Nat → Int32) (d_changeFrame2 : Nat → Int32) (d_from2 : Nat → Int32) (d_lostAt2 : Nat → Int32) (d_motor2 : Nat → Int32) (d_slips2 : Nat → Int32) (d_startFrame2 : Nat → Int32) (d_there2 : Nat → Int32), w = [(cO11_i1r1i10r1i2r5i2r12i3r4i2 h0 m_thrown a_tape m_taped m_size m_at m_end m_token m_whole m_nameSize m_fault m_place m_trouble a_letters m_failed m_hasHouse a_r a_fresh a_st a_undone a_kept m_undos m_images a_from a_begin a_motor a_change a_startFrame a_changeFrame a_lostAt a_blackAt a_slips a_leftArc a_died a_arcs m_bestSum m_nearest m_nearestTown a_there a_backAt a_sorted a_parts m_seed1 m_darkNow), (cAI g a_r 311 d_r), (cAI g a_st 44 d_st), (cAI g a_from 8 d_from2), (cAI g a_begin 8 d_begin2), (cAI g a_motor 8 d_motor2), (cAI g a_change 8 d_change2), (cAI g a_startFrame 8 d_startFrame2), (cAI g a_changeFrame 8 d_changeFrame2), (cAI g a_lostAt 8 d_lostAt2), (cAI g a_blackAt 8 d_blackAt2), (cAI g a_slips 8 d_slips2), (cAI g a_there 8 d_there2), (cAI g a_backAt 4 d_backAt2)]) := by
  refine cV.of (by decide) (Nat.le_of_ble_eq_true rfl) ?_
  intro p e s m args below meth c A X hr hi
  refine k_lveq [(0, .ref h0), (1, .int p0), (2, .int p1)] rfl ?_
  refine k_aload_n X dX11_carry_k0.1.1.1.1 0 rfl ?_
  refine k_iload_n X dX11_carry_k0.1.1.1.2 1 rfl ?_
  refine k_callVV (n := 1) (As := [.int p0]) (st := []) X [(cO11_i1r1i10r1i2r5i2r12i3r4i2 h0 m_thrown a_tape m_taped m_size m_at m_end m_token m_whole m_nameSize m_fault m_place m_trouble a_letters m_failed m_hasHouse a_r a_fresh a_st a_undone a_kept m_undos m_images a_from a_begin a_motor a_change a_startFrame a_changeFrame a_lostAt a_blackAt a_slips a_leftArc a_died a_arcs m_bestSum m_nearest m_nearestTown a_there a_backAt a_sorted a_parts m_seed1 m_darkNow), (cAI g a_r 311 d_r), (cAI g a_st 44 d_st), (cAI g a_from 8 d_from), (cAI g a_begin 8 d_begin), (cAI g a_motor 8 d_motor), (cAI g a_change 8 d_change), (cAI g a_startFrame 8 d_startFrame), (cAI g a_changeFrame 8 d_changeFrame), (cAI g a_lostAt 8 d_lostAt), (cAI g a_blackAt 8 d_blackAt), (cAI g a_slips 8 d_slips)] [(cAI g a_there 8 d_there), (cAI g a_backAt 4 d_backAt)] [0, 1, 2, 3, 4, 5, 6, 7, 8, 9, 10, 11] [12, 13] (m_layTold l g h0 p0 m_thrown a_tape m_taped m_size m_at m_end m_token m_whole m_nameSize m_fault m_place m_trouble a_letters m_failed m_hasHouse a_r a_fresh a_st a_undone a_kept m_undos m_images a_from a_begin a_motor a_change a_startFrame a_changeFrame a_lostAt a_blackAt a_slips a_leftArc a_died a_arcs m_bestSum m_nearest m_nearestTown a_there a_backAt a_sorted a_parts m_seed1 m_darkNow d_r d_st d_from d_begin d_motor d_change d_startFrame d_changeFrame d_lostAt d_blackAt d_slips (iv_w hv_p0 (zle_e rfl) (zle_e rfl)) hp_d_r) dX11_carry_k0.1.1.2.1 mw815 mw816 mw817 mw5 mw818 rfl 11 rfl rfl 0 _ rfl yk_yX11_layTold_1 rfl (Nat.le_of_ble_eq_true rfl) (Nat.le_of_ble_eq_true rfl) (Nat.le_of_ble_eq_true rfl) (Nat.le_of_ble_eq_true rfl) (Nat.le_of_ble_eq_true rfl) rfl rfl (by decide +kernel) rfl (by decide +kernel) (by decide +kernel) ?_
  rintro w ⟨d_begin2_1, d_blackAt2_2, d_change2_3, d_changeFrame2_4, d_from2_5, d_lostAt2_6, d_motor2_7, d_slips2_8, d_startFrame2_9, rfl⟩
  refine k_ws [(cAI g a_there 8 d_there), (cAI g a_backAt 4 d_backAt), (cO11_i1r1i10r1i2r5i2r12i3r4i2 h0 m_thrown a_tape m_taped m_size m_at m_end m_token m_whole m_nameSize m_fault m_place m_trouble a_letters m_failed m_hasHouse a_r a_fresh a_st a_undone a_kept m_undos m_images a_from a_begin a_motor a_change a_startFrame a_changeFrame a_lostAt a_blackAt a_slips a_leftArc a_died a_arcs m_bestSum m_nearest m_nearestTown a_there a_backAt a_sorted a_parts m_seed1 m_darkNow), (cAI g a_r 311 d_r), (cAI g a_st 44 d_st), (cAI g a_from 8 d_from2_5), (cAI g a_begin 8 d_begin2_1), (cAI g a_motor 8 d_motor2_7), (cAI g a_change 8 d_change2_3), (cAI g a_startFrame 8 d_startFrame2_9), (cAI g a_changeFrame 8 d_changeFrame2_4), (cAI g a_lostAt 8 d_lostAt2_6), (cAI g a_blackAt 8 d_blackAt2_2), (cAI g a_slips 8 d_slips2_8)] rfl ?_
  refine k_iconst (v := 0) X dX11_carry_k0.1.1.2.2 ic_0 ?_
  refine k_istore_n [(3, .int 0), (0, .ref h0), (1, .int p0), (2, .int p1)] X dX11_carry_k0.1.2.1.1 (nlt_e rfl) rfl ?_
  refine (fun hL : ∀ (nn_14 : Nat) (uf_11 : Nat → Int32) (u_12 : Int32), (4 - u_12.toInt).toNat = nn_14 → (IV u_12 0 8) → Wk p l e _ s m args below meth c _ A g _ _ _ [(cAI g a_there 8 d_there), (cAI g a_backAt 4 uf_11), (cO11_i1r1i10r1i2r5i2r12i3r4i2 h0 m_thrown a_tape m_taped m_size m_at m_end m_token m_whole m_nameSize m_fault m_place m_trouble a_letters m_failed m_hasHouse a_r a_fresh a_st a_undone a_kept m_undos m_images a_from a_begin a_motor a_change a_startFrame a_changeFrame a_lostAt a_blackAt a_slips a_leftArc a_died a_arcs m_bestSum m_nearest m_nearestTown a_there a_backAt a_sorted a_parts m_seed1 m_darkNow), (cAI g a_r 311 d_r), (cAI g a_st 44 d_st), (cAI g a_from 8 d_from2_5), (cAI g a_begin 8 d_begin2_1), (cAI g a_motor 8 d_motor2_7), (cAI g a_change 8 d_change2_3), (cAI g a_startFrame 8 d_startFrame2_9), (cAI g a_changeFrame 8 d_changeFrame2_4), (cAI g a_lostAt 8 d_lostAt2_6), (cAI g a_blackAt 8 d_blackAt2_2), (cAI g a_slips 8 d_slips2_8)] [(3, .int u_12), (0, .ref h0), (1, .int p0), (2, .int p1)] 7 [] => hL _ d_backAt 0 rfl (iv_w iq_0_0_0 (zle_e rfl) (zle_e rfl))) ?_
  refine fun nn_14 => Nat.strongRecOn nn_14 (fun nn_14 ih_16 => ?_)
  intro uf_11 u_12 hm_15 hv_13
  refine k_iload_n X dX11_carry_k0.1.2.1.2 0 rfl ?_
  refine k_iconst (v := 4) X dX11_carry_k0.1.2.2.1 ic_4 ?_
  refine k_ic_ge 25 X dX11_carry_k0.1.2.2.2 (jp_e rfl) (fun h_17 => ?_) (fun h_17 => ?_)
  · skip
    have j_18 : 4 ≤ u_12.toInt := iv_le h_17
    have iv_19 : IV u_12 4 8 := iv_leR (iv_le h_17) iq_4_4_4 hv_13 (zle_e rfl)
    refine k_iconst (v := 0) X dX11_carry_k0.2.2.2.2 ic_0 ?_
    refine k_istore_n [(3, .int 0), (0, .ref h0), (1, .int p0), (2, .int p1)] X dX11_carry_k1.1.1.1.1 (nlt_e rfl) rfl ?_
    refine (fun hL : ∀ (nn_24 : Nat) (uf_20 : Nat → Int32) (uf_21 : Nat → Int32) (u_22 : Int32), (2147483647 - u_22.toInt).toNat = nn_24 → (IV u_22 0 8) → Wk p l e _ s m args below meth c _ A g _ _ _ [(cAI g a_there 8 uf_21), (cAI g a_backAt 4 uf_20), (cO11_i1r1i10r1i2r5i2r12i3r4i2 h0 m_thrown a_tape m_taped m_size m_at m_end m_token m_whole m_nameSize m_fault m_place m_trouble a_letters m_failed m_hasHouse a_r a_fresh a_st a_undone a_kept m_undos m_images a_from a_begin a_motor a_change a_startFrame a_changeFrame a_lostAt a_blackAt a_slips a_leftArc a_died a_arcs m_bestSum m_nearest m_nearestTown a_there a_backAt a_sorted a_parts m_seed1 m_darkNow), (cAI g a_r 311 d_r), (cAI g a_st 44 d_st), (cAI g a_from 8 d_from2_5), (cAI g a_begin 8 d_begin2_1), (cAI g a_motor 8 d_motor2_7), (cAI g a_change 8 d_change2_3), (cAI g a_startFrame 8 d_startFrame2_9), (cAI g a_changeFrame 8 d_changeFrame2_4), (cAI g a_lostAt 8 d_lostAt2_6), (cAI g a_blackAt 8 d_blackAt2_2), (cAI g a_slips 8 d_slips2_8)] [(3, .int u_22), (0, .ref h0), (1, .int p0), (2, .int p1)] 27 [] => hL _ uf_11 d_there 0 rfl (iv_w iq_0_0_0 (zle_e rfl) (zle_e rfl))) ?_
    refine fun nn_24 => Nat.strongRecOn nn_24 (fun nn_24 ih_26 => ?_)
    intro uf_20 uf_21 u_22 hm_25 hv_23
    refine k_iload_n X dX11_carry_k1.1.1.1.2 0 rfl ?_
    refine k_aload_n X dX11_carry_k1.1.1.2.1 1 rfl ?_
    refine k_get (ci := 11) X inlX11 rfl 15 (nlt_e rfl) dX11_carry_k1.1.1.2.2 mw170 2 rfl rfl ?_
    refine k_bipush (v := 12) X dX11_carry_k1.1.2.1.1 bi_12 ?_
    refine k_iald X dX11_carry_k1.1.2.1.2 3 rfl (by unfold vp_in; decide) ?_
    refine k_nm (fun z_27 ez_27 => ?_)
    have i_28 : z_27.toInt = (d_r 12).toInt := by rw [ez_27]; rfl
    have iv_29 : IV z_27 0 8 := rb_12 ez_27 hp_d_r
    refine k_ic_ge 145 X dX11_carry_k1.1.2.2.1 (jp_e rfl) (fun h_30 => ?_) (fun h_30 => ?_)
    · skip
      have j_31 : z_27.toInt ≤ u_22.toInt := iv_le h_30
      exact k_vret X hr dX11_carry_k5 (Nat.le_of_ble_eq_true rfl) (Nat.le_of_ble_eq_true rfl) [2, 3, 4, 5, 6, 7, 8, 9, 10, 11, 12, 13, 0, 1] (vnd_e rfl) rfl rfl (exI11 uf_20 d_begin2_1 d_blackAt2_2 d_change2_3 d_changeFrame2_4 d_from2_5 d_lostAt2_6 d_motor2_7 d_slips2_8 d_startFrame2_9 uf_21 rfl)
    · skip
      have j_32 : u_22.toInt < z_27.toInt := iv_nle h_30
      have iv_33 : IV u_22 0 7 := iv_ltL (iv_nle h_30) hv_23 iv_29 (zle_e rfl)
      have iv_34 : IV z_27 1 8 := iv_ltR (iv_nle h_30) hv_23 iv_29 (zle_e rfl)
      refine k_iconst (v := 0) X dX11_carry_k1.1.2.2.2 ic_0 ?_
      refine k_istore [(4, .int 0), (3, .int u_22), (0, .ref h0), (1, .int p0), (2, .int p1)] X dX11_carry_k1.2.1.1.1 (nlt_e rfl) rfl ?_
      refine k_iconst (v := 1) X dX11_carry_k1.2.1.1.2 ic_1 ?_
      refine k_istore [(5, .int 1), (4, .int 0), (3, .int u_22), (0, .ref h0), (1, .int p0), (2, .int p1)] X dX11_carry_k1.2.1.2.1 (nlt_e rfl) rfl ?_
      refine (fun hL : ∀ (nn_39 : Nat) (u_35 : Int32) (u_37 : Int32), (p1.toInt - u_37.toInt).toNat = nn_39 → (IV u_35 0 3) → (IV u_37 1 8) → Wk p l e _ s m args below meth c _ A g _ _ _ [(cAI g a_there 8 uf_21), (cAI g a_backAt 4 uf_20), (cO11_i1r1i10r1i2r5i2r12i3r4i2 h0 m_thrown a_tape m_taped m_size m_at m_end m_token m_whole m_nameSize m_fault m_place m_trouble a_letters m_failed m_hasHouse a_r a_fresh a_st a_undone a_kept m_undos m_images a_from a_begin a_motor a_change a_startFrame a_changeFrame a_lostAt a_blackAt a_slips a_leftArc a_died a_arcs m_bestSum m_nearest m_nearestTown a_there a_backAt a_sorted a_parts m_seed1 m_darkNow), (cAI g a_r 311 d_r), (cAI g a_st 44 d_st), (cAI g a_from 8 d_from2_5), (cAI g a_begin 8 d_begin2_1), (cAI g a_motor 8 d_motor2_7), (cAI g a_change 8 d_change2_3), (cAI g a_startFrame 8 d_startFrame2_9), (cAI g a_changeFrame 8 d_changeFrame2_4), (cAI g a_lostAt 8 d_lostAt2_6), (cAI g a_blackAt 8 d_blackAt2_2), (cAI g a_slips 8 d_slips2_8)] [(5, .int u_37), (4, .int u_35), (3, .int u_22), (0, .ref h0), (1, .int p0), (2, .int p1)] 44 [] => hL _ 0 1 rfl (iv_w iq_0_0_0 (zle_e rfl) (zle_e rfl)) (iv_w iq_1_1_1 (zle_e rfl) (zle_e rfl))) ?_
      refine fun nn_39 => Nat.strongRecOn nn_39 (fun nn_39 ih_41 => ?_)
      intro u_35 u_37 hm_40 hv_36 hv_38
      refine k_iload X dX11_carry_k1.2.1.2.2 0 rfl ?_
      refine k_iload_n X dX11_carry_k1.2.2.1.1 5 rfl ?_
      refine k_ic_ge 82 X dX11_carry_k1.2.2.1.2 (jp_e rfl) (fun h_42 => ?_) (fun h_42 => ?_)
      · skip
        have j_43 : p1.toInt ≤ u_37.toInt := iv_le h_42
        refine k_aload_n X dX11_carry_k2.2.2.1.2 3 rfl ?_
        refine k_get (ci := 11) X inlX11 rfl 25 (nlt_e rfl) dX11_carry_k2.2.2.2.1 mw178 2 rfl rfl ?_
        refine k_iload_n X dX11_carry_k2.2.2.2.2 2 rfl ?_
        refine k_iald X dX11_carry_k3.1.1.1.1 8 rfl (iv_in iv_33 (zle_e rfl) (zle_l rfl)) ?_
        refine k_nm (fun z_44 ez_44 => ?_)
        refine k_aload_n X dX11_carry_k3.1.1.1.2 3 rfl ?_
        refine k_get (ci := 11) X inlX11 rfl 38 (nlt_e rfl) dX11_carry_k3.1.1.2.1 mw188 2 rfl rfl ?_
        refine k_iload X dX11_carry_k3.1.1.2.2 1 rfl ?_
        refine k_iald X dX11_carry_k3.1.2.1.1 1 rfl (iv_in hv_36 (zle_e rfl) (zle_l rfl)) ?_
        refine k_nm (fun z_45 ez_45 => ?_)
        refine k_callSI (n := 2) (As := [.int z_44, .int z_45]) (st := []) X [] [(cAI g a_there 8 uf_21), (cAI g a_backAt 4 uf_20), (cO11_i1r1i10r1i2r5i2r12i3r4i2 h0 m_thrown a_tape m_taped m_size m_at m_end m_token m_whole m_nameSize m_fault m_place m_trouble a_letters m_failed m_hasHouse a_r a_fresh a_st a_undone a_kept m_undos m_images a_from a_begin a_motor a_change a_startFrame a_changeFrame a_lostAt a_blackAt a_slips a_leftArc a_died a_arcs m_bestSum m_nearest m_nearestTown a_there a_backAt a_sorted a_parts m_seed1 m_darkNow), (cAI g a_r 311 d_r), (cAI g a_st 44 d_st), (cAI g a_from 8 d_from2_5), (cAI g a_begin 8 d_begin2_1), (cAI g a_motor 8 d_motor2_7), (cAI g a_change 8 d_change2_3), (cAI g a_startFrame 8 d_startFrame2_9), (cAI g a_changeFrame 8 d_changeFrame2_4), (cAI g a_lostAt 8 d_lostAt2_6), (cAI g a_blackAt 8 d_blackAt2_2), (cAI g a_slips 8 d_slips2_8)] [] [0, 1, 2, 3, 4, 5, 6, 7, 8, 9, 10, 11, 12, 13] (m_most l g z_44 z_45) dX11_carry_k3.1.2.1.2 mw842 mw843 mw5 mw844 yk_yX11_most_2 rfl (Nat.le_of_ble_eq_true rfl) (Nat.le_of_ble_eq_true rfl) (Nat.le_of_ble_eq_true rfl) (Nat.le_of_ble_eq_true rfl) (Nat.le_of_ble_eq_true rfl) rfl rfl (by decide +kernel) rfl (by decide +kernel) (by decide +kernel) ?_
        rintro r_46 w rfl
        refine k_ws [(cAI g a_there 8 uf_21), (cAI g a_backAt 4 uf_20), (cO11_i1r1i10r1i2r5i2r12i3r4i2 h0 m_thrown a_tape m_taped m_size m_at m_end m_token m_whole m_nameSize m_fault m_place m_trouble a_letters m_failed m_hasHouse a_r a_fresh a_st a_undone a_kept m_undos m_images a_from a_begin a_motor a_change a_startFrame a_changeFrame a_lostAt a_blackAt a_slips a_leftArc a_died a_arcs m_bestSum m_nearest m_nearestTown a_there a_backAt a_sorted a_parts m_seed1 m_darkNow), (cAI g a_r 311 d_r), (cAI g a_st 44 d_st), (cAI g a_from 8 d_from2_5), (cAI g a_begin 8 d_begin2_1), (cAI g a_motor 8 d_motor2_7), (cAI g a_change 8 d_change2_3), (cAI g a_startFrame 8 d_startFrame2_9), (cAI g a_changeFrame 8 d_changeFrame2_4), (cAI g a_lostAt 8 d_lostAt2_6), (cAI g a_blackAt 8 d_blackAt2_2), (cAI g a_slips 8 d_slips2_8)] rfl ?_
        refine k_istore [(5, .int r_46), (4, .int u_35), (3, .int u_22), (0, .ref h0), (1, .int p0), (2, .int p1)] X dX11_carry_k3.1.2.2.1 (nlt_e rfl) rfl ?_
        refine k_aload_n X dX11_carry_k3.1.2.2.2 3 rfl ?_
        refine k_get (ci := 11) X inlX11 rfl 37 (nlt_e rfl) dX11_carry_k3.2.1.1.1 mw187 2 rfl rfl ?_
        refine k_iload_n X dX11_carry_k3.2.1.1.2 2 rfl ?_
        refine k_iload X dX11_carry_k3.2.1.2.1 0 rfl ?_
        refine k_aload_n X dX11_carry_k3.2.1.2.2 3 rfl ?_
        refine k_get (ci := 11) X inlX11 rfl 15 (nlt_e rfl) dX11_carry_k3.2.2.1.1 mw170 2 rfl rfl ?_
        refine k_sipush (v := 135) X dX11_carry_k3.2.2.1.2 si_135 ?_
        refine k_iald X dX11_carry_k3.2.2.2.1 3 rfl (by unfold vp_in; decide) ?_
        refine k_nm (fun z_47 ez_47 => ?_)
        refine k_iadd X dX11_carry_k3.2.2.2.2 ?_
        refine k_nm (fun z_48 ez_48 => ?_)
        refine k_iast [(cAI g a_there 8 (upd uf_21 (u_22 : Int32).toNatClampNeg z_48)), (cAI g a_backAt 4 uf_20), (cO11_i1r1i10r1i2r5i2r12i3r4i2 h0 m_thrown a_tape m_taped m_size m_at m_end m_token m_whole m_nameSize m_fault m_place m_trouble a_letters m_failed m_hasHouse a_r a_fresh a_st a_undone a_kept m_undos m_images a_from a_begin a_motor a_change a_startFrame a_changeFrame a_lostAt a_blackAt a_slips a_leftArc a_died a_arcs m_bestSum m_nearest m_nearestTown a_there a_backAt a_sorted a_parts m_seed1 m_darkNow), (cAI g a_r 311 d_r), (cAI g a_st 44 d_st), (cAI g a_from 8 d_from2_5), (cAI g a_begin 8 d_begin2_1), (cAI g a_motor 8 d_motor2_7), (cAI g a_change 8 d_change2_3), (cAI g a_startFrame 8 d_startFrame2_9), (cAI g a_changeFrame 8 d_changeFrame2_4), (cAI g a_lostAt 8 d_lostAt2_6), (cAI g a_blackAt 8 d_blackAt2_2), (cAI g a_slips 8 d_slips2_8)] X dX11_carry_k4.1.1.1.1 0 rfl (iv_in iv_33 (zle_e rfl) (zle_l rfl)) rfl ?_
        refine (fun hg : ∀ fa_50 : Nat → Int32, Wk p l e _ s m args below meth c _ A g _ _ _ [(cAI g a_there 8 fa_50), (cAI g a_backAt 4 uf_20), (cO11_i1r1i10r1i2r5i2r12i3r4i2 h0 m_thrown a_tape m_taped m_size m_at m_end m_token m_whole m_nameSize m_fault m_place m_trouble a_letters m_failed m_hasHouse a_r a_fresh a_st a_undone a_kept m_undos m_images a_from a_begin a_motor a_change a_startFrame a_changeFrame a_lostAt a_blackAt a_slips a_leftArc a_died a_arcs m_bestSum m_nearest m_nearestTown a_there a_backAt a_sorted a_parts m_seed1 m_darkNow), (cAI g a_r 311 d_r), (cAI g a_st 44 d_st), (cAI g a_from 8 d_from2_5), (cAI g a_begin 8 d_begin2_1), (cAI g a_motor 8 d_motor2_7), (cAI g a_change 8 d_change2_3), (cAI g a_startFrame 8 d_startFrame2_9), (cAI g a_changeFrame 8 d_changeFrame2_4), (cAI g a_lostAt 8 d_lostAt2_6), (cAI g a_blackAt 8 d_blackAt2_2), (cAI g a_slips 8 d_slips2_8)] _ _ _ => hg _) (fun fa_50 => ?_)
        refine k_aload_n X dX11_carry_k4.1.1.1.2 3 rfl ?_
        refine k_get (ci := 11) X inlX11 rfl 38 (nlt_e rfl) dX11_carry_k4.1.1.2.1 mw188 2 rfl rfl ?_
        refine k_iload X dX11_carry_k4.1.1.2.2 1 rfl ?_
        refine k_aload_n X dX11_carry_k4.1.2.1.1 3 rfl ?_
        refine k_get (ci := 11) X inlX11 rfl 37 (nlt_e rfl) dX11_carry_k4.1.2.1.2 mw187 2 rfl rfl ?_
        refine k_iload_n X dX11_carry_k4.1.2.2.1 2 rfl ?_
        refine k_iald X dX11_carry_k4.1.2.2.2 0 rfl (iv_in iv_33 (zle_e rfl) (zle_l rfl)) ?_
        refine k_nm (fun z_51 ez_51 => ?_)
        refine k_aload_n X dX11_carry_k4.2.1.1.1 3 rfl ?_
        refine k_get (ci := 11) X inlX11 rfl 15 (nlt_e rfl) dX11_carry_k4.2.1.1.2 mw170 2 rfl rfl ?_
        refine k_sipush (v := 135) X dX11_carry_k4.2.1.2.1 si_135 ?_
        refine k_iald X dX11_carry_k4.2.1.2.2 3 rfl (by unfold vp_in; decide) ?_
        refine k_to z_47 ez_47.symm ?_
        refine k_iadd X dX11_carry_k4.2.2.1.1 ?_
        refine k_nm (fun z_52 ez_52 => ?_)
        refine k_iast [(cAI g a_there 8 fa_50), (cAI g a_backAt 4 (upd uf_20 (u_35 : Int32).toNatClampNeg z_52)), (cO11_i1r1i10r1i2r5i2r12i3r4i2 h0 m_thrown a_tape m_taped m_size m_at m_end m_token m_whole m_nameSize m_fault m_place m_trouble a_letters m_failed m_hasHouse a_r a_fresh a_st a_undone a_kept m_undos m_images a_from a_begin a_motor a_change a_startFrame a_changeFrame a_lostAt a_blackAt a_slips a_leftArc a_died a_arcs m_bestSum m_nearest m_nearestTown a_there a_backAt a_sorted a_parts m_seed1 m_darkNow), (cAI g a_r 311 d_r), (cAI g a_st 44 d_st), (cAI g a_from 8 d_from2_5), (cAI g a_begin 8 d_begin2_1), (cAI g a_motor 8 d_motor2_7), (cAI g a_change 8 d_change2_3), (cAI g a_startFrame 8 d_startFrame2_9), (cAI g a_changeFrame 8 d_changeFrame2_4), (cAI g a_lostAt 8 d_lostAt2_6), (cAI g a_blackAt 8 d_blackAt2_2), (cAI g a_slips 8 d_slips2_8)] X dX11_carry_k4.2.2.1.2 1 rfl (iv_in hv_36 (zle_e rfl) (zle_l rfl)) rfl ?_
        refine (fun hg : ∀ fa_54 : Nat → Int32, Wk p l e _ s m args below meth c _ A g _ _ _ [(cAI g a_there 8 fa_50), (cAI g a_backAt 4 fa_54), (cO11_i1r1i10r1i2r5i2r12i3r4i2 h0 m_thrown a_tape m_taped m_size m_at m_end m_token m_whole m_nameSize m_fault m_place m_trouble a_letters m_failed m_hasHouse a_r a_fresh a_st a_undone a_kept m_undos m_images a_from a_begin a_motor a_change a_startFrame a_changeFrame a_lostAt a_blackAt a_slips a_leftArc a_died a_arcs m_bestSum m_nearest m_nearestTown a_there a_backAt a_sorted a_parts m_seed1 m_darkNow), (cAI g a_r 311 d_r), (cAI g a_st 44 d_st), (cAI g a_from 8 d_from2_5), (cAI g a_begin 8 d_begin2_1), (cAI g a_motor 8 d_motor2_7), (cAI g a_change 8 d_change2_3), (cAI g a_startFrame 8 d_startFrame2_9), (cAI g a_changeFrame 8 d_changeFrame2_4), (cAI g a_lostAt 8 d_lostAt2_6), (cAI g a_blackAt 8 d_blackAt2_2), (cAI g a_slips 8 d_slips2_8)] _ _ _ => hg _) (fun fa_54 => ?_)
        obtain ⟨z_55, ez_55⟩ : ∃ y : Int32, u_22 + Int32.ofInt 1 = y := ⟨_, rfl⟩
        refine k_iinc z_55 [(3, .int z_55), (5, .int r_46), (4, .int u_35), (0, .ref h0), (1, .int p0), (2, .int p1)] 2 X dX11_carry_k4.2.2.2.1 rfl ez_55 (nlt_e rfl) rfl ?_
        have i_56 : z_55.toInt = u_22.toInt + 1 := in_inc ez_55 (oin_e rfl) iv_33 (zle_e rfl) (zle_e rfl)
        have iv_57 : IV z_55 1 8 := iz1 i_56 iv_33 (zle_e rfl) (zle_e rfl)
        refine k_goto 27 X dX11_carry_k4.2.2.2.2 (jp_e rfl) ?_
        refine k_lv [(3, .int z_55), (0, .ref h0), (1, .int p0), (2, .int p1)] [0, 3, 4, 5] rfl ?_
        exact ih_26 _ (by omega) fa_54 fa_50 z_55 rfl (iv_w iv_57 (zle_e rfl) (zle_e rfl))
      · skip
        have j_58 : u_37.toInt < p1.toInt := iv_nle h_42
        have iv_59 : IV u_37 1 3 := iv_ltL (iv_nle h_42) hv_38 hv_p1 (zle_e rfl)
        have iv_60 : IV p1 2 4 := iv_ltR (iv_nle h_42) hv_38 hv_p1 (zle_e rfl)
        refine k_aload_n X dX11_carry_k1.2.2.2.1 3 rfl ?_
        refine k_get (ci := 11) X inlX11 rfl 38 (nlt_e rfl) dX11_carry_k1.2.2.2.2 mw188 2 rfl rfl ?_
        refine k_iload X dX11_carry_k2.1.1.1.1 0 rfl ?_
        refine k_iald X dX11_carry_k2.1.1.1.2 1 rfl (iv_in iv_59 (zle_e rfl) (zle_l rfl)) ?_
        refine k_nm (fun z_61 ez_61 => ?_)
        refine k_aload_n X dX11_carry_k2.1.1.2.1 3 rfl ?_
        refine k_get (ci := 11) X inlX11 rfl 38 (nlt_e rfl) dX11_carry_k2.1.1.2.2 mw188 2 rfl rfl ?_
        refine k_iload X dX11_carry_k2.1.2.1.1 1 rfl ?_
        refine k_iald X dX11_carry_k2.1.2.1.2 1 rfl (iv_in hv_36 (zle_e rfl) (zle_l rfl)) ?_
        refine k_nm (fun z_62 ez_62 => ?_)
        refine k_ic_ge 72 X dX11_carry_k2.1.2.2.1 (jp_e rfl) (fun h_63 => ?_) (fun h_63 => ?_)
        · skip
          have j_64 : z_62.toInt ≤ z_61.toInt := iv_le h_63
          refine k_iload X dX11_carry_k2.2.1.1.2 1 rfl ?_
          refine k_istore [(4, .int u_35), (5, .int u_37), (3, .int u_22), (0, .ref h0), (1, .int p0), (2, .int p1)] X dX11_carry_k2.2.1.2.1 (nlt_e rfl) rfl ?_
          obtain ⟨z_65, ez_65⟩ : ∃ y : Int32, u_37 + Int32.ofInt 1 = y := ⟨_, rfl⟩
          refine k_iinc z_65 [(5, .int z_65), (4, .int u_35), (3, .int u_22), (0, .ref h0), (1, .int p0), (2, .int p1)] 1 X dX11_carry_k2.2.1.2.2 rfl ez_65 (nlt_e rfl) rfl ?_
          have i_66 : z_65.toInt = u_37.toInt + 1 := in_inc ez_65 (oin_e rfl) iv_59 (zle_e rfl) (zle_e rfl)
          have iv_67 : IV z_65 2 4 := iz1 i_66 iv_59 (zle_e rfl) (zle_e rfl)
          refine k_goto 44 X dX11_carry_k2.2.2.1.1 (jp_e rfl) ?_
          exact ih_41 _ (by omega) u_35 z_65 rfl (iv_w hv_36 (zle_e rfl) (zle_e rfl)) (iv_w iv_67 (zle_e rfl) (zle_e rfl))
        · skip
          have j_68 : z_61.toInt < z_62.toInt := iv_nle h_63
          have iv_69 : IV z_61 (-2147483648) 2147483646 := iv_ltL (iv_nle h_63) (iv_any z_61) (iv_any z_62) (zle_e rfl)
          have iv_70 : IV z_62 (-2147483647) 2147483647 := iv_ltR (iv_nle h_63) (iv_any z_61) (iv_any z_62) (zle_e rfl)
          refine k_iload X dX11_carry_k2.1.2.2.2 0 rfl ?_
          refine k_goto 74 X dX11_carry_k2.2.1.1.1 (jp_e rfl) ?_
          refine k_istore [(4, .int u_37), (5, .int u_37), (3, .int u_22), (0, .ref h0), (1, .int p0), (2, .int p1)] X dX11_carry_k2.2.1.2.1 (nlt_e rfl) rfl ?_
          obtain ⟨z_71, ez_71⟩ : ∃ y : Int32, u_37 + Int32.ofInt 1 = y := ⟨_, rfl⟩
          refine k_iinc z_71 [(5, .int z_71), (4, .int u_37), (3, .int u_22), (0, .ref h0), (1, .int p0), (2, .int p1)] 1 X dX11_carry_k2.2.1.2.2 rfl ez_71 (nlt_e rfl) rfl ?_
          have i_72 : z_71.toInt = u_37.toInt + 1 := in_inc ez_71 (oin_e rfl) iv_59 (zle_e rfl) (zle_e rfl)
          have iv_73 : IV z_71 2 4 := iz1 i_72 iv_59 (zle_e rfl) (zle_e rfl)
          refine k_goto 44 X dX11_carry_k2.2.2.1.1 (jp_e rfl) ?_
          exact ih_41 _ (by omega) u_37 z_71 rfl (iv_w iv_59 (zle_e rfl) (zle_e rfl)) (iv_w iv_73 (zle_e rfl) (zle_e rfl))
  · skip
    have j_74 : u_12.toInt < 4 := iv_nle h_17
    have iv_75 : IV u_12 0 3 := iv_ltL (iv_nle h_17) hv_13 iq_4_4_4 (zle_e rfl)
    refine k_aload_n X dX11_carry_k0.2.1.1.1 1 rfl ?_
    refine k_get (ci := 11) X inlX11 rfl 38 (nlt_e rfl) dX11_carry_k0.2.1.1.2 mw188 2 rfl rfl ?_
    refine k_iload_n X dX11_carry_k0.2.1.2.1 0 rfl ?_
    refine k_iconst (v := 0) X dX11_carry_k0.2.1.2.2 ic_0 ?_
    refine k_iast [(cAI g a_there 8 d_there), (cAI g a_backAt 4 (upd uf_11 (u_12 : Int32).toNatClampNeg 0)), (cO11_i1r1i10r1i2r5i2r12i3r4i2 h0 m_thrown a_tape m_taped m_size m_at m_end m_token m_whole m_nameSize m_fault m_place m_trouble a_letters m_failed m_hasHouse a_r a_fresh a_st a_undone a_kept m_undos m_images a_from a_begin a_motor a_change a_startFrame a_changeFrame a_lostAt a_blackAt a_slips a_leftArc a_died a_arcs m_bestSum m_nearest m_nearestTown a_there a_backAt a_sorted a_parts m_seed1 m_darkNow), (cAI g a_r 311 d_r), (cAI g a_st 44 d_st), (cAI g a_from 8 d_from2_5), (cAI g a_begin 8 d_begin2_1), (cAI g a_motor 8 d_motor2_7), (cAI g a_change 8 d_change2_3), (cAI g a_startFrame 8 d_startFrame2_9), (cAI g a_changeFrame 8 d_changeFrame2_4), (cAI g a_lostAt 8 d_lostAt2_6), (cAI g a_blackAt 8 d_blackAt2_2), (cAI g a_slips 8 d_slips2_8)] X dX11_carry_k0.2.2.1.1 1 rfl (iv_in iv_75 (zle_e rfl) (zle_l rfl)) rfl ?_
    refine (fun hg : ∀ fa_76 : Nat → Int32, Wk p l e _ s m args below meth c _ A g _ _ _ [(cAI g a_there 8 d_there), (cAI g a_backAt 4 fa_76), (cO11_i1r1i10r1i2r5i2r12i3r4i2 h0 m_thrown a_tape m_taped m_size m_at m_end m_token m_whole m_nameSize m_fault m_place m_trouble a_letters m_failed m_hasHouse a_r a_fresh a_st a_undone a_kept m_undos m_images a_from a_begin a_motor a_change a_startFrame a_changeFrame a_lostAt a_blackAt a_slips a_leftArc a_died a_arcs m_bestSum m_nearest m_nearestTown a_there a_backAt a_sorted a_parts m_seed1 m_darkNow), (cAI g a_r 311 d_r), (cAI g a_st 44 d_st), (cAI g a_from 8 d_from2_5), (cAI g a_begin 8 d_begin2_1), (cAI g a_motor 8 d_motor2_7), (cAI g a_change 8 d_change2_3), (cAI g a_startFrame 8 d_startFrame2_9), (cAI g a_changeFrame 8 d_changeFrame2_4), (cAI g a_lostAt 8 d_lostAt2_6), (cAI g a_blackAt 8 d_blackAt2_2), (cAI g a_slips 8 d_slips2_8)] _ _ _ => hg _) (fun fa_76 => ?_)
    obtain ⟨z_77, ez_77⟩ : ∃ y : Int32, u_12 + Int32.ofInt 1 = y := ⟨_, rfl⟩
    refine k_iinc z_77 [(3, .int z_77), (0, .ref h0), (1, .int p0), (2, .int p1)] 0 X dX11_carry_k0.2.2.1.2 rfl ez_77 (nlt_e rfl) rfl ?_
    have i_78 : z_77.toInt = u_12.toInt + 1 := in_inc ez_77 (oin_e rfl) iv_75 (zle_e rfl) (zle_e rfl)
    have iv_79 : IV z_77 1 4 := iz1 i_78 iv_75 (zle_e rfl) (zle_e rfl)
    refine k_goto 7 X dX11_carry_k0.2.2.2.1 (jp_e rfl) ?_
    exact ih_16 _ (by omega) fa_76 z_77 rfl (iv_w iv_79 (zle_e rfl) (zle_e rfl))

theorem dX11_apartOf_k0 : ((((dD cX11_apartOf 0 (.aload_n 0) 1 ∧ dD cX11_apartOf 1 (.iload_n 1) 1) ∧ (dD cX11_apartOf 2 (.iload_n 2) 1 ∧ dD cX11_apartOf 3 (.invokevirtual 443) 3)) ∧ ((dD cX11_apartOf 6 (.iconst 0) 1 ∧ dD cX11_apartOf 7 (.istore_n 3) 1) ∧ (dD cX11_apartOf 8 (.iconst 0) 1 ∧ dD cX11_apartOf 9 (.istore 4) 2))) ∧ (((dD cX11_apartOf 11 (.iload 4) 2 ∧ dD cX11_apartOf 13 (.aload_n 0) 1) ∧ (dD cX11_apartOf 14 (.getfield 20) 3 ∧ dD cX11_apartOf 17 (.bipush 12) 2)) ∧ ((dD cX11_apartOf 19 .iaload 1 ∧ dD cX11_apartOf 20 (.if_icmp .ge 29) 3) ∧ (dD cX11_apartOf 23 (.iload_n 3) 1 ∧ dD cX11_apartOf 24 (.aload_n 0) 1)))) := dkA16 (by decide +kernel)
theorem dX11_apartOf_k1 : (((dD cX11_apartOf 25 (.getfield 71) 3 ∧ (dD cX11_apartOf 28 (.iload 4) 2 ∧ dD cX11_apartOf 30 .iaload 1)) ∧ ((dD cX11_apartOf 31 (.aload_n 0) 1 ∧ dD cX11_apartOf 32 (.getfield 38) 3) ∧ (dD cX11_apartOf 35 (.iload 4) 2 ∧ dD cX11_apartOf 37 .iaload 1))) ∧ ((dD cX11_apartOf 38 .isub 1 ∧ (dD cX11_apartOf 39 (.invokestatic 351) 3 ∧ dD cX11_apartOf 42 (.istore_n 3) 1)) ∧ ((dD cX11_apartOf 43 (.iinc 4 1) 3 ∧ dD cX11_apartOf 46 (.goto (-35)) 3) ∧ (dD cX11_apartOf 49 (.iload_n 3) 1 ∧ dD cX11_apartOf 50 .ireturn 1)))) := dkA14 (by decide +kernel)
set_option maxHeartbeats 4000000 in
set_option maxRecDepth 100000 in
theorem m_apartOf (l : Launch) (g : Gx) (h0 : Nat) (p0 : Int32) (p1 : Int32) (m_thrown : Int32) (a_tape : Nat) (m_taped : Int32) (m_size : Int32) (m_at : Int32) (m_end : Int32) (m_token : Int32) (m_whole : Int32) (m_nameSize : Int32) (m_fault : Int32) (m_place : Int32) (m_trouble : Int32) (a_letters : Nat) (m_failed : Int32) (m_hasHouse : Int32) (a_r : Nat) (a_fresh : Nat) (a_st : Nat) (a_undone : Nat) (a_kept : Nat) (m_undos : Int32) (m_images : Int32) (a_from : Nat) (a_begin : Nat) (a_motor : Nat) (a_change : Nat) (a_startFrame : Nat) (a_changeFrame : Nat) (a_lostAt : Nat) (a_blackAt : Nat) (a_slips : Nat) (a_leftArc : Nat) (a_died : Nat) (a_arcs : Nat) (m_bestSum : Int32) (m_nearest : Int32) (m_nearestTown : Int32) (a_there : Nat) (a_backAt : Nat) (a_sorted : Nat) (a_parts : Nat) (m_seed1 : Int32) (m_darkNow : Int32) (d_r : Nat → Int32) (d_st : Nat → Int32) (d_from : Nat → Int32) (d_begin : Nat → Int32) (d_motor : Nat → Int32) (d_change : Nat → Int32) (d_startFrame : Nat → Int32) (d_changeFrame : Nat → Int32) (d_lostAt : Nat → Int32) (d_blackAt : Nat → Int32) (d_slips : Nat → Int32) (d_there : Nat → Int32) (d_backAt : Nat → Int32) (hv_p0 : IV p0 0 3) (hv_p1 : IV p1 0 4) (hp_d_r : RInv d_r) : cI l g yX11_apartOf cX11_apartOf 5 (some .int) 6 135 0 0 [.ref h0, .int p0, .int p1] [(cO11_i1r1i10r1i2r5i2r12i3r4i2 h0 m_thrown a_tape m_taped m_size m_at m_end m_token m_whole m_nameSize m_fault m_place m_trouble a_letters m_failed m_hasHouse a_r a_fresh a_st a_undone a_kept m_undos m_images a_from a_begin a_motor a_change a_startFrame a_changeFrame a_lostAt a_blackAt a_slips a_leftArc a_died a_arcs m_bestSum m_nearest m_nearestTown a_there a_backAt a_sorted a_parts m_seed1 m_darkNow), (cAI g a_r 311 d_r), (cAI g a_st 44 d_st), (cAI g a_from 8 d_from), (cAI g a_begin 8 d_begin), (cAI g a_motor 8 d_motor), (cAI g a_change 8 d_change), (cAI g a_startFrame 8 d_startFrame), (cAI g a_changeFrame 8 d_changeFrame), (cAI g a_lostAt 8 d_lostAt), (cAI g a_blackAt 8 d_blackAt), (cAI g a_slips 8 d_slips), (cAI g a_there 8 d_there), (cAI g a_backAt 4 d_backAt)] (fun r w => ∃ (d_backAt2 : Nat → Int32) (d_begin2 : Nat → Int32) (d_blackAt2 : Nat → Int32) (d_change2 : Nat → Int32) (d_changeFrame2 : Nat → Int32) (d_from2 : Nat → Int32) (d_lostAt2 : Nat → Int32) (d_motor2 : Nat → Int32) (d_slips2 : Nat → Int32) (d_startFrame2 : Nat → Int32) (d_there2 : Nat → Int32), w = [(cO11_i1r1i10r1i2r5i2r12i3r4i2 h0 m_thrown a_tape m_taped m_size m_at m_end m_token m_whole m_nameSize m_fault m_place m_trouble a_letters m_failed m_hasHouse a_r a_fresh a_st a_undone a_kept m_undos m_images a_from a_begin a_motor a_change a_startFrame a_changeFrame a_lostAt a_blackAt a_slips a_leftArc a_died a_arcs m_bestSum m_nearest m_nearestTown a_there a_backAt a_sorted a_parts m_seed1 m_darkNow), (cAI g a_r 311 d_r), (cAI g a_st 44 d_st), (cAI g a_from 8 d_from2), (cAI g a_begin 8 d_begin2), (cAI g a_motor 8 d_motor2), (cAI g a_change 8 d_change2), (cAI g a_startFrame 8 d_startFrame2), (cAI g a_changeFrame 8 d_changeFrame2), (cAI g a_lostAt 8 d_lostAt2), (cAI g a_blackAt 8 d_blackAt2), (cAI g a_slips 8 d_slips2), (cAI g a_there 8 d_there2), (cAI g a_backAt 4 d_backAt2)]) := by
  refine cI.of (by decide) (Nat.le_of_ble_eq_true rfl) ?_
  intro p e s m args below meth c A X hr hi
  refine k_lveq [(0, .ref h0), (1, .int p0), (2, .int p1)] rfl ?_
  refine k_aload_n X dX11_apartOf_k0.1.1.1.1 0 rfl ?_
  refine k_iload_n X dX11_apartOf_k0.1.1.1.2 1 rfl ?_
  refine k_iload_n X dX11_apartOf_k0.1.1.2.1 2 rfl ?_
  refine k_callVV (n := 2) (As := [.int p0, .int p1]) (st := []) X [(cO11_i1r1i10r1i2r5i2r12i3r4i2 h0 m_thrown a_tape m_taped m_size m_at m_end m_token m_whole m_nameSize m_fault m_place m_trouble a_letters m_failed m_hasHouse a_r a_fresh a_st a_undone a_kept m_undos m_images a_from a_begin a_motor a_change a_startFrame a_changeFrame a_lostAt a_blackAt a_slips a_leftArc a_died a_arcs m_bestSum m_nearest m_nearestTown a_there a_backAt a_sorted a_parts m_seed1 m_darkNow), (cAI g a_r 311 d_r), (cAI g a_st 44 d_st), (cAI g a_from 8 d_from), (cAI g a_begin 8 d_begin), (cAI g a_motor 8 d_motor), (cAI g a_change 8 d_change), (cAI g a_startFrame 8 d_startFrame), (cAI g a_changeFrame 8 d_changeFrame), (cAI g a_lostAt 8 d_lostAt), (cAI g a_blackAt 8 d_blackAt), (cAI g a_slips 8 d_slips), (cAI g a_there 8 d_there), (cAI g a_backAt 4 d_backAt)] [] [0, 1, 2, 3, 4, 5, 6, 7, 8, 9, 10, 11, 12, 13] [] (m_carry l g h0 p0 p1 m_thrown a_tape m_taped m_size m_at m_end m_token m_whole m_nameSize m_fault m_place m_trouble a_letters m_failed m_hasHouse a_r a_fresh a_st a_undone a_kept m_undos m_images a_from a_begin a_motor a_change a_startFrame a_changeFrame a_lostAt a_blackAt a_slips a_leftArc a_died a_arcs m_bestSum m_nearest m_nearestTown a_there a_backAt a_sorted a_parts m_seed1 m_darkNow d_r d_st d_from d_begin d_motor d_change d_startFrame d_changeFrame d_lostAt d_blackAt d_slips d_there d_backAt (iv_w hv_p0 (zle_e rfl) (zle_e rfl)) (iv_w hv_p1 (zle_e rfl) (zle_e rfl)) hp_d_r) dX11_apartOf_k0.1.1.2.2 mw1323 mw1324 mw1325 mw5 mw1326 rfl 11 rfl rfl 0 _ rfl yk_yX11_carry_2 rfl (Nat.le_of_ble_eq_true rfl) (Nat.le_of_ble_eq_true rfl) (Nat.le_of_ble_eq_true rfl) (Nat.le_of_ble_eq_true rfl) (Nat.le_of_ble_eq_true rfl) rfl rfl (by decide +kernel) rfl (by decide +kernel) (by decide +kernel) ?_
  intro w zq
  refine exL11 zq ?_
  clear zq
  intro d_backAt2_1 d_begin2_2 d_blackAt2_3 d_change2_4 d_changeFrame2_5 d_from2_6 d_lostAt2_7 d_motor2_8 d_slips2_9 d_startFrame2_10 d_there2_11 zq
  subst zq
  refine k_ws [(cO11_i1r1i10r1i2r5i2r12i3r4i2 h0 m_thrown a_tape m_taped m_size m_at m_end m_token m_whole m_nameSize m_fault m_place m_trouble a_letters m_failed m_hasHouse a_r a_fresh a_st a_undone a_kept m_undos m_images a_from a_begin a_motor a_change a_startFrame a_changeFrame a_lostAt a_blackAt a_slips a_leftArc a_died a_arcs m_bestSum m_nearest m_nearestTown a_there a_backAt a_sorted a_parts m_seed1 m_darkNow), (cAI g a_r 311 d_r), (cAI g a_st 44 d_st), (cAI g a_from 8 d_from2_6), (cAI g a_begin 8 d_begin2_2), (cAI g a_motor 8 d_motor2_8), (cAI g a_change 8 d_change2_4), (cAI g a_startFrame 8 d_startFrame2_10), (cAI g a_changeFrame 8 d_changeFrame2_5), (cAI g a_lostAt 8 d_lostAt2_7), (cAI g a_blackAt 8 d_blackAt2_3), (cAI g a_slips 8 d_slips2_9), (cAI g a_there 8 d_there2_11), (cAI g a_backAt 4 d_backAt2_1)] rfl ?_
  refine k_iconst (v := 0) X dX11_apartOf_k0.1.2.1.1 ic_0 ?_
  refine k_istore_n [(3, .int 0), (0, .ref h0), (1, .int p0), (2, .int p1)] X dX11_apartOf_k0.1.2.1.2 (nlt_e rfl) rfl ?_
  refine k_iconst (v := 0) X dX11_apartOf_k0.1.2.2.1 ic_0 ?_
  refine k_istore [(4, .int 0), (3, .int 0), (0, .ref h0), (1, .int p0), (2, .int p1)] X dX11_apartOf_k0.1.2.2.2 (nlt_e rfl) rfl ?_
  refine (fun hL : ∀ (nn_16 : Nat) (u_13 : Int32) (u_14 : Int32), (2147483647 - u_14.toInt).toNat = nn_16 → (IV u_14 0 8) → Wk p l e _ s m args below meth c _ A g _ _ _ [(cO11_i1r1i10r1i2r5i2r12i3r4i2 h0 m_thrown a_tape m_taped m_size m_at m_end m_token m_whole m_nameSize m_fault m_place m_trouble a_letters m_failed m_hasHouse a_r a_fresh a_st a_undone a_kept m_undos m_images a_from a_begin a_motor a_change a_startFrame a_changeFrame a_lostAt a_blackAt a_slips a_leftArc a_died a_arcs m_bestSum m_nearest m_nearestTown a_there a_backAt a_sorted a_parts m_seed1 m_darkNow), (cAI g a_r 311 d_r), (cAI g a_st 44 d_st), (cAI g a_from 8 d_from2_6), (cAI g a_begin 8 d_begin2_2), (cAI g a_motor 8 d_motor2_8), (cAI g a_change 8 d_change2_4), (cAI g a_startFrame 8 d_startFrame2_10), (cAI g a_changeFrame 8 d_changeFrame2_5), (cAI g a_lostAt 8 d_lostAt2_7), (cAI g a_blackAt 8 d_blackAt2_3), (cAI g a_slips 8 d_slips2_9), (cAI g a_there 8 d_there2_11), (cAI g a_backAt 4 d_backAt2_1)] [(4, .int u_14), (3, .int u_13), (0, .ref h0), (1, .int p0), (2, .int p1)] 11 [] => hL _ 0 0 rfl (iv_w iq_0_0_0 (zle_e rfl) (zle_e rfl))) ?_
  refine fun nn_16 => Nat.strongRecOn nn_16 (fun nn_16 ih_18 => ?_)
  intro u_13 u_14 hm_17 hv_15
  refine k_iload X dX11_apartOf_k0.2.1.1.1 0 rfl ?_
  refine k_aload_n X dX11_apartOf_k0.2.1.1.2 2 rfl ?_
  refine k_get (ci := 11) X inlX11 rfl 15 (nlt_e rfl) dX11_apartOf_k0.2.1.2.1 mw170 0 rfl rfl ?_
  refine k_bipush (v := 12) X dX11_apartOf_k0.2.1.2.2 bi_12 ?_
  refine k_iald X dX11_apartOf_k0.2.2.1.1 1 rfl (by unfold vp_in; decide) ?_
  refine k_nm (fun z_19 ez_19 => ?_)
  have i_20 : z_19.toInt = (d_r 12).toInt := by rw [ez_19]; rfl
  have iv_21 : IV z_19 0 8 := rb_12 ez_19 hp_d_r
  refine k_ic_ge 49 X dX11_apartOf_k0.2.2.1.2 (jp_e rfl) (fun h_22 => ?_) (fun h_22 => ?_)
  · skip
    have j_23 : z_19.toInt ≤ u_14.toInt := iv_le h_22
    refine k_iload_n X dX11_apartOf_k1.2.2.2.1 1 rfl ?_
    exact k_iret X hr dX11_apartOf_k1.2.2.2.2 (Nat.le_of_ble_eq_true rfl) (Nat.le_of_ble_eq_true rfl) [0, 1, 2, 3, 4, 5, 6, 7, 8, 9, 10, 11, 12, 13] (vnd_e rfl) rfl rfl (exI11 d_backAt2_1 d_begin2_2 d_blackAt2_3 d_change2_4 d_changeFrame2_5 d_from2_6 d_lostAt2_7 d_motor2_8 d_slips2_9 d_startFrame2_10 d_there2_11 rfl)
  · skip
    have j_24 : u_14.toInt < z_19.toInt := iv_nle h_22
    have iv_25 : IV u_14 0 7 := iv_ltL (iv_nle h_22) hv_15 iv_21 (zle_e rfl)
    have iv_26 : IV z_19 1 8 := iv_ltR (iv_nle h_22) hv_15 iv_21 (zle_e rfl)
    refine k_iload_n X dX11_apartOf_k0.2.2.2.1 1 rfl ?_
    refine k_aload_n X dX11_apartOf_k0.2.2.2.2 2 rfl ?_
    refine k_get (ci := 11) X inlX11 rfl 37 (nlt_e rfl) dX11_apartOf_k1.1.1.1 mw187 0 rfl rfl ?_
    refine k_iload X dX11_apartOf_k1.1.1.2.1 0 rfl ?_
    refine k_iald X dX11_apartOf_k1.1.1.2.2 12 rfl (iv_in iv_25 (zle_e rfl) (zle_l rfl)) ?_
    refine k_nm (fun z_27 ez_27 => ?_)
    refine k_aload_n X dX11_apartOf_k1.1.2.1.1 2 rfl ?_
    refine k_get (ci := 11) X inlX11 rfl 23 (nlt_e rfl) dX11_apartOf_k1.1.2.1.2 mw176 0 rfl rfl ?_
    refine k_iload X dX11_apartOf_k1.1.2.2.1 0 rfl ?_
    refine k_iald X dX11_apartOf_k1.1.2.2.2 4 rfl (iv_in iv_25 (zle_e rfl) (zle_l rfl)) ?_
    refine k_nm (fun z_28 ez_28 => ?_)
    refine k_isub X dX11_apartOf_k1.2.1.1 ?_
    refine k_nm (fun z_29 ez_29 => ?_)
    refine k_callSI (n := 2) (As := [.int u_13, .int z_29]) (st := []) X [] [(cO11_i1r1i10r1i2r5i2r12i3r4i2 h0 m_thrown a_tape m_taped m_size m_at m_end m_token m_whole m_nameSize m_fault m_place m_trouble a_letters m_failed m_hasHouse a_r a_fresh a_st a_undone a_kept m_undos m_images a_from a_begin a_motor a_change a_startFrame a_changeFrame a_lostAt a_blackAt a_slips a_leftArc a_died a_arcs m_bestSum m_nearest m_nearestTown a_there a_backAt a_sorted a_parts m_seed1 m_darkNow), (cAI g a_r 311 d_r), (cAI g a_st 44 d_st), (cAI g a_from 8 d_from2_6), (cAI g a_begin 8 d_begin2_2), (cAI g a_motor 8 d_motor2_8), (cAI g a_change 8 d_change2_4), (cAI g a_startFrame 8 d_startFrame2_10), (cAI g a_changeFrame 8 d_changeFrame2_5), (cAI g a_lostAt 8 d_lostAt2_7), (cAI g a_blackAt 8 d_blackAt2_3), (cAI g a_slips 8 d_slips2_9), (cAI g a_there 8 d_there2_11), (cAI g a_backAt 4 d_backAt2_1)] [] [0, 1, 2, 3, 4, 5, 6, 7, 8, 9, 10, 11, 12, 13] (m_most l g u_13 z_29) dX11_apartOf_k1.2.1.2.1 mw842 mw843 mw5 mw844 yk_yX11_most_2 rfl (Nat.le_of_ble_eq_true rfl) (Nat.le_of_ble_eq_true rfl) (Nat.le_of_ble_eq_true rfl) (Nat.le_of_ble_eq_true rfl) (Nat.le_of_ble_eq_true rfl) rfl rfl (by decide +kernel) rfl (by decide +kernel) (by decide +kernel) ?_
    rintro r_31 w rfl
    refine k_ws [(cO11_i1r1i10r1i2r5i2r12i3r4i2 h0 m_thrown a_tape m_taped m_size m_at m_end m_token m_whole m_nameSize m_fault m_place m_trouble a_letters m_failed m_hasHouse a_r a_fresh a_st a_undone a_kept m_undos m_images a_from a_begin a_motor a_change a_startFrame a_changeFrame a_lostAt a_blackAt a_slips a_leftArc a_died a_arcs m_bestSum m_nearest m_nearestTown a_there a_backAt a_sorted a_parts m_seed1 m_darkNow), (cAI g a_r 311 d_r), (cAI g a_st 44 d_st), (cAI g a_from 8 d_from2_6), (cAI g a_begin 8 d_begin2_2), (cAI g a_motor 8 d_motor2_8), (cAI g a_change 8 d_change2_4), (cAI g a_startFrame 8 d_startFrame2_10), (cAI g a_changeFrame 8 d_changeFrame2_5), (cAI g a_lostAt 8 d_lostAt2_7), (cAI g a_blackAt 8 d_blackAt2_3), (cAI g a_slips 8 d_slips2_9), (cAI g a_there 8 d_there2_11), (cAI g a_backAt 4 d_backAt2_1)] rfl ?_
    refine k_istore_n [(3, .int r_31), (4, .int u_14), (0, .ref h0), (1, .int p0), (2, .int p1)] X dX11_apartOf_k1.2.1.2.2 (nlt_e rfl) rfl ?_
    obtain ⟨z_32, ez_32⟩ : ∃ y : Int32, u_14 + Int32.ofInt 1 = y := ⟨_, rfl⟩
    refine k_iinc z_32 [(4, .int z_32), (3, .int r_31), (0, .ref h0), (1, .int p0), (2, .int p1)] 1 X dX11_apartOf_k1.2.2.1.1 rfl ez_32 (nlt_e rfl) rfl ?_
    have i_33 : z_32.toInt = u_14.toInt + 1 := in_inc ez_32 (oin_e rfl) iv_25 (zle_e rfl) (zle_e rfl)
    have iv_34 : IV z_32 1 8 := iz1 i_33 iv_25 (zle_e rfl) (zle_e rfl)
    refine k_goto 11 X dX11_apartOf_k1.2.2.1.2 (jp_e rfl) ?_
    exact ih_18 _ (by omega) r_31 z_32 rfl (iv_w iv_34 (zle_e rfl) (zle_e rfl))

theorem dX11_boyWhy_k0 : (((dD cX11_boyWhy 0 (.aload_n 0) 1 ∧ (dD cX11_boyWhy 1 (.iload_n 1) 1 ∧ dD cX11_boyWhy 2 (.invokevirtual 370) 3)) ∧ ((dD cX11_boyWhy 5 (.ifCond .ne 7) 3 ∧ dD cX11_boyWhy 8 (.iconst 1) 1) ∧ (dD cX11_boyWhy 9 (.goto 20) 3 ∧ dD cX11_boyWhy 12 (.aload_n 0) 1))) ∧ (((dD cX11_boyWhy 13 (.getfield 20) 3 ∧ dD cX11_boyWhy 16 (.sipush 134) 3) ∧ (dD cX11_boyWhy 19 .iaload 1 ∧ dD cX11_boyWhy 20 (.ifCond .ne 8) 3)) ∧ ((dD cX11_boyWhy 23 (.bipush 6) 2 ∧ dD cX11_boyWhy 25 (.goto 4) 3) ∧ (dD cX11_boyWhy 28 (.iconst 0) 1 ∧ dD cX11_boyWhy 29 .ireturn 1)))) := dkA15 (by decide +kernel)
set_option maxHeartbeats 4000000 in
set_option maxRecDepth 100000 in
theorem m_boyWhy (l : Launch) (g : Gx) (h0 : Nat) (p0 : Int32) (m_thrown : Int32) (a_tape : Nat) (m_taped : Int32) (m_size : Int32) (m_at : Int32) (m_end : Int32) (m_token : Int32) (m_whole : Int32) (m_nameSize : Int32) (m_fault : Int32) (m_place : Int32) (m_trouble : Int32) (a_letters : Nat) (m_failed : Int32) (m_hasHouse : Int32) (a_r : Nat) (a_fresh : Nat) (a_st : Nat) (a_undone : Nat) (a_kept : Nat) (m_undos : Int32) (m_images : Int32) (a_from : Nat) (a_begin : Nat) (a_motor : Nat) (a_change : Nat) (a_startFrame : Nat) (a_changeFrame : Nat) (a_lostAt : Nat) (a_blackAt : Nat) (a_slips : Nat) (a_leftArc : Nat) (a_died : Nat) (a_arcs : Nat) (m_bestSum : Int32) (m_nearest : Int32) (m_nearestTown : Int32) (a_there : Nat) (a_backAt : Nat) (a_sorted : Nat) (a_parts : Nat) (m_seed1 : Int32) (m_darkNow : Int32) (d_r : Nat → Int32) (hv_m_hasHouse : IV m_hasHouse 0 1) (hp_d_r : RInv d_r) : cI l g yX11_boyWhy cX11_boyWhy 2 (some .int) 2 43 0 0 [.ref h0, .int p0] [(cO11_i1r1i10r1i2r5i2r12i3r4i2 h0 m_thrown a_tape m_taped m_size m_at m_end m_token m_whole m_nameSize m_fault m_place m_trouble a_letters m_failed m_hasHouse a_r a_fresh a_st a_undone a_kept m_undos m_images a_from a_begin a_motor a_change a_startFrame a_changeFrame a_lostAt a_blackAt a_slips a_leftArc a_died a_arcs m_bestSum m_nearest m_nearestTown a_there a_backAt a_sorted a_parts m_seed1 m_darkNow), (cAI g a_r 311 d_r)] (fun r w => IV r 0 6 ∧ (r = 1 ∨ (IV p0 0 3)) ∧ w = [(cO11_i1r1i10r1i2r5i2r12i3r4i2 h0 m_thrown a_tape m_taped m_size m_at m_end m_token m_whole m_nameSize m_fault m_place m_trouble a_letters m_failed m_hasHouse a_r a_fresh a_st a_undone a_kept m_undos m_images a_from a_begin a_motor a_change a_startFrame a_changeFrame a_lostAt a_blackAt a_slips a_leftArc a_died a_arcs m_bestSum m_nearest m_nearestTown a_there a_backAt a_sorted a_parts m_seed1 m_darkNow), (cAI g a_r 311 d_r)]) := by
  refine cI.of (by decide) (Nat.le_of_ble_eq_true rfl) ?_
  intro p e s m args below meth c A X hr hi
  refine k_lveq [(0, .ref h0), (1, .int p0)] rfl ?_
  refine k_aload_n X dX11_boyWhy_k0.1.1.1 0 rfl ?_
  refine k_iload_n X dX11_boyWhy_k0.1.1.2.1 1 rfl ?_
  refine k_callVI (n := 1) (As := [.int p0]) (st := []) X [(cO11_i1r1i10r1i2r5i2r12i3r4i2 h0 m_thrown a_tape m_taped m_size m_at m_end m_token m_whole m_nameSize m_fault m_place m_trouble a_letters m_failed m_hasHouse a_r a_fresh a_st a_undone a_kept m_undos m_images a_from a_begin a_motor a_change a_startFrame a_changeFrame a_lostAt a_blackAt a_slips a_leftArc a_died a_arcs m_bestSum m_nearest m_nearestTown a_there a_backAt a_sorted a_parts m_seed1 m_darkNow), (cAI g a_r 311 d_r)] [] [0, 1] [] (m_isMan l g h0 p0 m_thrown a_tape m_taped m_size m_at m_end m_token m_whole m_nameSize m_fault m_place m_trouble a_letters m_failed m_hasHouse a_r a_fresh a_st a_undone a_kept m_undos m_images a_from a_begin a_motor a_change a_startFrame a_changeFrame a_lostAt a_blackAt a_slips a_leftArc a_died a_arcs m_bestSum m_nearest m_nearestTown a_there a_backAt a_sorted a_parts m_seed1 m_darkNow d_r (iv_w hv_m_hasHouse (zle_e rfl) (zle_e rfl)) hp_d_r) dX11_boyWhy_k0.1.1.2.2 mw811 mw812 mw813 mw5 mw814 rfl 11 rfl rfl 0 _ rfl yk_yX11_isMan_1 rfl (Nat.le_of_ble_eq_true rfl) (Nat.le_of_ble_eq_true rfl) (Nat.le_of_ble_eq_true rfl) (Nat.le_of_ble_eq_true rfl) (Nat.le_of_ble_eq_true rfl) rfl rfl (vnd_e rfl) rfl (vnd_e rfl) (dsj_e rfl) ?_
  rintro r_1 w ⟨iv_2, hk_3, rfl⟩
  refine k_ws [(cO11_i1r1i10r1i2r5i2r12i3r4i2 h0 m_thrown a_tape m_taped m_size m_at m_end m_token m_whole m_nameSize m_fault m_place m_trouble a_letters m_failed m_hasHouse a_r a_fresh a_st a_undone a_kept m_undos m_images a_from a_begin a_motor a_change a_startFrame a_changeFrame a_lostAt a_blackAt a_slips a_leftArc a_died a_arcs m_bestSum m_nearest m_nearestTown a_there a_backAt a_sorted a_parts m_seed1 m_darkNow), (cAI g a_r 311 d_r)] rfl ?_
  refine k_if_ne 12 X dX11_boyWhy_k0.1.2.1.1 (jp_e rfl) (fun h_4 => ?_) (fun h_4 => ?_)
  · skip
    have hc_5 := hk_3.resolve_left h_4
    have iv_6 : IV p0 0 3 := iv_meet (iv_any p0) hc_5 (zle_o rfl) (zle_o rfl)
    have iv_7 : IV r_1 1 1 := iv_neL h_4 iv_2 iq_0_0_0 (zle_e rfl)
    refine k_aload_n X dX11_boyWhy_k0.1.2.2.2 0 rfl ?_
    refine k_get (ci := 11) X inlX11 rfl 15 (nlt_e rfl) dX11_boyWhy_k0.2.1.1.1 mw170 0 rfl rfl ?_
    refine k_sipush (v := 134) X dX11_boyWhy_k0.2.1.1.2 si_134 ?_
    refine k_iald X dX11_boyWhy_k0.2.1.2.1 1 rfl (by unfold vp_in; decide) ?_
    refine k_nm (fun z_8 ez_8 => ?_)
    have i_9 : z_8.toInt = (d_r 134).toInt := by rw [ez_8]; rfl
    have iv_10 : IV z_8 0 4 := rb_134 ez_8 hp_d_r
    refine k_if_ne 28 X dX11_boyWhy_k0.2.1.2.2 (jp_e rfl) (fun h_11 => ?_) (fun h_11 => ?_)
    · skip
      have iv_12 : IV z_8 1 4 := iv_neL h_11 iv_10 iq_0_0_0 (zle_e rfl)
      refine k_iconst (v := 0) X dX11_boyWhy_k0.2.2.2.1 ic_0 ?_
      exact k_iret X hr dX11_boyWhy_k0.2.2.2.2 (Nat.le_of_ble_eq_true rfl) (Nat.le_of_ble_eq_true rfl) [0, 1] (vnd_e rfl) rfl rfl ⟨(iv_w iq_0_0_0 (zle_e rfl) (zle_e rfl)), (Or.inr (iv_w iv_6 (zle_e rfl) (zle_e rfl))), rfl⟩
    · skip
      have iv_13 : IV z_8 0 0 := iv_meet iv_10 (iv_e h_11 iq_0_0_0) (zle_o rfl) (zle_o rfl)
      refine k_bipush (v := 6) X dX11_boyWhy_k0.2.2.1.1 bi_6 ?_
      refine k_goto 29 X dX11_boyWhy_k0.2.2.1.2 (jp_e rfl) ?_
      exact k_iret X hr dX11_boyWhy_k0.2.2.2.2 (Nat.le_of_ble_eq_true rfl) (Nat.le_of_ble_eq_true rfl) [0, 1] (vnd_e rfl) rfl rfl ⟨(iv_w iq_6_6_6 (zle_e rfl) (zle_e rfl)), (Or.inr (iv_w iv_6 (zle_e rfl) (zle_e rfl))), rfl⟩
  · skip
    have iv_14 : IV r_1 0 0 := iv_meet iv_2 (iv_e h_4 iq_0_0_0) (zle_o rfl) (zle_o rfl)
    refine k_iconst (v := 1) X dX11_boyWhy_k0.1.2.1.2 ic_1 ?_
    refine k_goto 29 X dX11_boyWhy_k0.1.2.2.1 (jp_e rfl) ?_
    exact k_iret X hr dX11_boyWhy_k0.2.2.2.2 (Nat.le_of_ble_eq_true rfl) (Nat.le_of_ble_eq_true rfl) [0, 1] (vnd_e rfl) rfl rfl ⟨(iv_w iq_1_1_1 (zle_e rfl) (zle_e rfl)), (Or.inl (iv_eq iq_1_1_1 iq_1_1_1)), rfl⟩

theorem dX11_apart_k0 : ((((dD cX11_apart 0 (.aload_n 0) 1 ∧ dD cX11_apart 1 (.invokevirtual 200) 3) ∧ (dD cX11_apart 4 (.aload_n 0) 1 ∧ dD cX11_apart 5 (.iload_n 1) 1)) ∧ ((dD cX11_apart 6 (.invokevirtual 446) 3 ∧ dD cX11_apart 9 (.istore_n 3) 1) ∧ (dD cX11_apart 10 (.iload_n 3) 1 ∧ dD cX11_apart 11 (.ifCond .eq 9) 3))) ∧ (((dD cX11_apart 14 (.aload_n 0) 1 ∧ dD cX11_apart 15 (.iload_n 3) 1) ∧ (dD cX11_apart 16 (.invokevirtual 203) 3 ∧ dD cX11_apart 19 .ireturn 1)) ∧ ((dD cX11_apart 20 (.iload_n 2) 1 ∧ dD cX11_apart 21 (.iconst 0) 1) ∧ (dD cX11_apart 22 (.iconst 4) 1 ∧ dD cX11_apart 23 (.invokestatic 182) 3)))) := dkA16 (by decide +kernel)
theorem dX11_apart_k1 : ((((dD cX11_apart 26 (.ifCond .eq 27) 3 ∧ dD cX11_apart 29 (.aload_n 0) 1) ∧ (dD cX11_apart 30 (.iload_n 1) 1 ∧ dD cX11_apart 31 (.iload_n 2) 1)) ∧ ((dD cX11_apart 32 (.ifCond .ne 14) 3 ∧ dD cX11_apart 35 (.aload_n 0) 1) ∧ (dD cX11_apart 36 (.getfield 20) 3 ∧ dD cX11_apart 39 (.sipush 134) 3))) ∧ (((dD cX11_apart 42 .iaload 1 ∧ dD cX11_apart 43 (.goto 4) 3) ∧ (dD cX11_apart 46 (.iload_n 2) 1 ∧ dD cX11_apart 47 (.invokevirtual 449) 3)) ∧ ((dD cX11_apart 50 (.goto 8) 3 ∧ dD cX11_apart 53 (.aload_n 0) 1) ∧ (dD cX11_apart 54 (.iconst 2) 1 ∧ dD cX11_apart 55 (.invokevirtual 203) 3)))) := dkA16 (by decide +kernel)
theorem dX11_apart_k2 : dD cX11_apart 58 .ireturn 1 := dkA1 (by decide +kernel)
set_option maxHeartbeats 4000000 in
set_option maxRecDepth 100000 in
theorem m_apart (l : Launch) (g : Gx) (h0 : Nat) (p0 : Int32) (p1 : Int32) (m_thrown : Int32) (a_tape : Nat) (m_taped : Int32) (m_size : Int32) (m_at : Int32) (m_end : Int32) (m_token : Int32) (m_whole : Int32) (m_nameSize : Int32) (m_fault : Int32) (m_place : Int32) (m_trouble : Int32) (a_letters : Nat) (m_failed : Int32) (m_hasHouse : Int32) (a_r : Nat) (a_fresh : Nat) (a_st : Nat) (a_undone : Nat) (a_kept : Nat) (m_undos : Int32) (m_images : Int32) (a_from : Nat) (a_begin : Nat) (a_motor : Nat) (a_change : Nat) (a_startFrame : Nat) (a_changeFrame : Nat) (a_lostAt : Nat) (a_blackAt : Nat) (a_slips : Nat) (a_leftArc : Nat) (a_died : Nat) (a_arcs : Nat) (m_bestSum : Int32) (m_nearest : Int32) (m_nearestTown : Int32) (a_there : Nat) (a_backAt : Nat) (a_sorted : Nat) (a_parts : Nat) (m_seed1 : Int32) (m_darkNow : Int32) (d_r : Nat → Int32) (d_st : Nat → Int32) (d_from : Nat → Int32) (d_begin : Nat → Int32) (d_motor : Nat → Int32) (d_change : Nat → Int32) (d_startFrame : Nat → Int32) (d_changeFrame : Nat → Int32) (d_lostAt : Nat → Int32) (d_blackAt : Nat → Int32) (d_slips : Nat → Int32) (d_there : Nat → Int32) (d_backAt : Nat → Int32) (hv_m_hasHouse : IV m_hasHouse 0 1) (hp_d_r : RInv d_r) : cI l g yX11_apart cX11_apart 4 (some .int) 7 159 0 0 [.ref h0, .int p0, .int p1] [(cO11_i1r1i10r1i2r5i2r12i3r4i2 h0 m_thrown a_tape m_taped m_size m_at m_end m_token m_whole m_nameSize m_fault m_place m_trouble a_letters m_failed m_hasHouse a_r a_fresh a_st a_undone a_kept m_undos m_images a_from a_begin a_motor a_change a_startFrame a_changeFrame a_lostAt a_blackAt a_slips a_leftArc a_died a_arcs m_bestSum m_nearest m_nearestTown a_there a_backAt a_sorted a_parts m_seed1 m_darkNow), (cAI g a_r 311 d_r), (cAI g a_st 44 d_st), (cAI g a_from 8 d_from), (cAI g a_begin 8 d_begin), (cAI g a_motor 8 d_motor), (cAI g a_change 8 d_change), (cAI g a_startFrame 8 d_startFrame), (cAI g a_changeFrame 8 d_changeFrame), (cAI g a_lostAt 8 d_lostAt), (cAI g a_blackAt 8 d_blackAt), (cAI g a_slips 8 d_slips), (cAI g a_there 8 d_there), (cAI g a_backAt 4 d_backAt)] (fun r w => ∃ (d_backAt2 : Nat → Int32) (d_begin2 : Nat → Int32) (d_blackAt2 : Nat → Int32) (d_change2 : Nat → Int32) (d_changeFrame2 : Nat → Int32) (d_from2 : Nat → Int32) (d_lostAt2 : Nat → Int32) (d_motor2 : Nat → Int32) (d_slips2 : Nat → Int32) (d_startFrame2 : Nat → Int32) (d_there2 : Nat → Int32) (m_thrown2 : Int32) (m_trouble2 : Int32), w = [(cO11_i1r1i10r1i2r5i2r12i3r4i2 h0 m_thrown2 a_tape m_taped m_size m_at m_end m_token m_whole m_nameSize m_fault m_place m_trouble2 a_letters m_failed m_hasHouse a_r a_fresh a_st a_undone a_kept m_undos m_images a_from a_begin a_motor a_change a_startFrame a_changeFrame a_lostAt a_blackAt a_slips a_leftArc a_died a_arcs m_bestSum m_nearest m_nearestTown a_there a_backAt a_sorted a_parts m_seed1 m_darkNow), (cAI g a_r 311 d_r), (cAI g a_st 44 d_st), (cAI g a_from 8 d_from2), (cAI g a_begin 8 d_begin2), (cAI g a_motor 8 d_motor2), (cAI g a_change 8 d_change2), (cAI g a_startFrame 8 d_startFrame2), (cAI g a_changeFrame 8 d_changeFrame2), (cAI g a_lostAt 8 d_lostAt2), (cAI g a_blackAt 8 d_blackAt2), (cAI g a_slips 8 d_slips2), (cAI g a_there 8 d_there2), (cAI g a_backAt 4 d_backAt2)]) := by
  refine cI.of (by decide) (Nat.le_of_ble_eq_true rfl) ?_
  intro p e s m args below meth c A X hr hi
  refine k_lveq [(0, .ref h0), (1, .int p0), (2, .int p1)] rfl ?_
  refine k_aload_n X dX11_apart_k0.1.1.1.1 0 rfl ?_
  refine k_callVV (n := 0) (As := []) (st := []) X [(cO11_i1r1i10r1i2r5i2r12i3r4i2 h0 m_thrown a_tape m_taped m_size m_at m_end m_token m_whole m_nameSize m_fault m_place m_trouble a_letters m_failed m_hasHouse a_r a_fresh a_st a_undone a_kept m_undos m_images a_from a_begin a_motor a_change a_startFrame a_changeFrame a_lostAt a_blackAt a_slips a_leftArc a_died a_arcs m_bestSum m_nearest m_nearestTown a_there a_backAt a_sorted a_parts m_seed1 m_darkNow)] [(cAI g a_r 311 d_r), (cAI g a_st 44 d_st), (cAI g a_from 8 d_from), (cAI g a_begin 8 d_begin), (cAI g a_motor 8 d_motor), (cAI g a_change 8 d_change), (cAI g a_startFrame 8 d_startFrame), (cAI g a_changeFrame 8 d_changeFrame), (cAI g a_lostAt 8 d_lostAt), (cAI g a_blackAt 8 d_blackAt), (cAI g a_slips 8 d_slips), (cAI g a_there 8 d_there), (cAI g a_backAt 4 d_backAt)] [0] [1, 2, 3, 4, 5, 6, 7, 8, 9, 10, 11, 12, 13] (m_good l g h0 m_thrown a_tape m_taped m_size m_at m_end m_token m_whole m_nameSize m_fault m_place m_trouble a_letters m_failed m_hasHouse a_r a_fresh a_st a_undone a_kept m_undos m_images a_from a_begin a_motor a_change a_startFrame a_changeFrame a_lostAt a_blackAt a_slips a_leftArc a_died a_arcs m_bestSum m_nearest m_nearestTown a_there a_backAt a_sorted a_parts m_seed1 m_darkNow) dX11_apart_k0.1.1.1.2 mw477 mw478 mw479 mw5 mw480 rfl 11 rfl rfl 0 _ rfl yk_yX11_good_0 rfl (Nat.le_of_ble_eq_true rfl) (Nat.le_of_ble_eq_true rfl) (Nat.le_of_ble_eq_true rfl) (Nat.le_of_ble_eq_true rfl) (Nat.le_of_ble_eq_true rfl) rfl rfl (by decide +kernel) rfl (by decide +kernel) (by decide +kernel) ?_
  rintro w ⟨m_thrown2_1, m_trouble2_2, rfl⟩
  refine k_ws [(cAI g a_r 311 d_r), (cAI g a_st 44 d_st), (cAI g a_from 8 d_from), (cAI g a_begin 8 d_begin), (cAI g a_motor 8 d_motor), (cAI g a_change 8 d_change), (cAI g a_startFrame 8 d_startFrame), (cAI g a_changeFrame 8 d_changeFrame), (cAI g a_lostAt 8 d_lostAt), (cAI g a_blackAt 8 d_blackAt), (cAI g a_slips 8 d_slips), (cAI g a_there 8 d_there), (cAI g a_backAt 4 d_backAt), (cO11_i1r1i10r1i2r5i2r12i3r4i2 h0 m_thrown2_1 a_tape m_taped m_size m_at m_end m_token m_whole m_nameSize m_fault m_place m_trouble2_2 a_letters m_failed m_hasHouse a_r a_fresh a_st a_undone a_kept m_undos m_images a_from a_begin a_motor a_change a_startFrame a_changeFrame a_lostAt a_blackAt a_slips a_leftArc a_died a_arcs m_bestSum m_nearest m_nearestTown a_there a_backAt a_sorted a_parts m_seed1 m_darkNow)] rfl ?_
  refine k_aload_n X dX11_apart_k0.1.1.2.1 0 rfl ?_
  refine k_iload_n X dX11_apart_k0.1.1.2.2 1 rfl ?_
  refine k_callVI (n := 1) (As := [.int p0]) (st := []) X [(cO11_i1r1i10r1i2r5i2r12i3r4i2 h0 m_thrown2_1 a_tape m_taped m_size m_at m_end m_token m_whole m_nameSize m_fault m_place m_trouble2_2 a_letters m_failed m_hasHouse a_r a_fresh a_st a_undone a_kept m_undos m_images a_from a_begin a_motor a_change a_startFrame a_changeFrame a_lostAt a_blackAt a_slips a_leftArc a_died a_arcs m_bestSum m_nearest m_nearestTown a_there a_backAt a_sorted a_parts m_seed1 m_darkNow), (cAI g a_r 311 d_r)] [(cAI g a_st 44 d_st), (cAI g a_from 8 d_from), (cAI g a_begin 8 d_begin), (cAI g a_motor 8 d_motor), (cAI g a_change 8 d_change), (cAI g a_startFrame 8 d_startFrame), (cAI g a_changeFrame 8 d_changeFrame), (cAI g a_lostAt 8 d_lostAt), (cAI g a_blackAt 8 d_blackAt), (cAI g a_slips 8 d_slips), (cAI g a_there 8 d_there), (cAI g a_backAt 4 d_backAt)] [13, 0] [1, 2, 3, 4, 5, 6, 7, 8, 9, 10, 11, 12] (m_boyWhy l g h0 p0 m_thrown2_1 a_tape m_taped m_size m_at m_end m_token m_whole m_nameSize m_fault m_place m_trouble2_2 a_letters m_failed m_hasHouse a_r a_fresh a_st a_undone a_kept m_undos m_images a_from a_begin a_motor a_change a_startFrame a_changeFrame a_lostAt a_blackAt a_slips a_leftArc a_died a_arcs m_bestSum m_nearest m_nearestTown a_there a_backAt a_sorted a_parts m_seed1 m_darkNow d_r (iv_w hv_m_hasHouse (zle_e rfl) (zle_e rfl)) hp_d_r) dX11_apart_k0.1.2.1.1 mw1315 mw1316 mw1317 mw5 mw1318 rfl 11 rfl rfl 0 _ rfl yk_yX11_boyWhy_1 rfl (Nat.le_of_ble_eq_true rfl) (Nat.le_of_ble_eq_true rfl) (Nat.le_of_ble_eq_true rfl) (Nat.le_of_ble_eq_true rfl) (Nat.le_of_ble_eq_true rfl) rfl rfl (by decide +kernel) rfl (by decide +kernel) (by decide +kernel) ?_
  rintro r_4 w ⟨iv_5, hk_6, rfl⟩
  refine k_ws [(cAI g a_st 44 d_st), (cAI g a_from 8 d_from), (cAI g a_begin 8 d_begin), (cAI g a_motor 8 d_motor), (cAI g a_change 8 d_change), (cAI g a_startFrame 8 d_startFrame), (cAI g a_changeFrame 8 d_changeFrame), (cAI g a_lostAt 8 d_lostAt), (cAI g a_blackAt 8 d_blackAt), (cAI g a_slips 8 d_slips), (cAI g a_there 8 d_there), (cAI g a_backAt 4 d_backAt), (cO11_i1r1i10r1i2r5i2r12i3r4i2 h0 m_thrown2_1 a_tape m_taped m_size m_at m_end m_token m_whole m_nameSize m_fault m_place m_trouble2_2 a_letters m_failed m_hasHouse a_r a_fresh a_st a_undone a_kept m_undos m_images a_from a_begin a_motor a_change a_startFrame a_changeFrame a_lostAt a_blackAt a_slips a_leftArc a_died a_arcs m_bestSum m_nearest m_nearestTown a_there a_backAt a_sorted a_parts m_seed1 m_darkNow), (cAI g a_r 311 d_r)] rfl ?_
  refine k_istore_n [(3, .int r_4), (0, .ref h0), (1, .int p0), (2, .int p1)] X dX11_apart_k0.1.2.1.2 (nlt_e rfl) rfl ?_
  refine k_iload_n X dX11_apart_k0.1.2.2.1 0 rfl ?_
  refine k_if_eq 20 X dX11_apart_k0.1.2.2.2 (jp_e rfl) (fun h_7 => ?_) (fun h_7 => ?_)
  · skip
    have iv_8 : IV r_4 0 0 := iv_meet iv_5 (iv_e h_7 iq_0_0_0) (zle_o rfl) (zle_o rfl)
    have hc_9 := hk_6.resolve_left (fun q => iv_eqN q iv_8 iq_1_1_1 (by decide))
    have iv_10 : IV p0 0 3 := iv_meet (iv_any p0) hc_9 (zle_o rfl) (zle_o rfl)
    refine k_iload_n X dX11_apart_k0.2.2.1.1 3 rfl ?_
    refine k_iconst (v := 0) X dX11_apart_k0.2.2.1.2 ic_0 ?_
    refine k_iconst (v := 4) X dX11_apart_k0.2.2.2.1 ic_4 ?_
    refine k_callSI (n := 3) (As := [.int p1, .int 0, .int 4]) (st := []) X [] [(cAI g a_st 44 d_st), (cAI g a_from 8 d_from), (cAI g a_begin 8 d_begin), (cAI g a_motor 8 d_motor), (cAI g a_change 8 d_change), (cAI g a_startFrame 8 d_startFrame), (cAI g a_changeFrame 8 d_changeFrame), (cAI g a_lostAt 8 d_lostAt), (cAI g a_blackAt 8 d_blackAt), (cAI g a_slips 8 d_slips), (cAI g a_there 8 d_there), (cAI g a_backAt 4 d_backAt), (cO11_i1r1i10r1i2r5i2r12i3r4i2 h0 m_thrown2_1 a_tape m_taped m_size m_at m_end m_token m_whole m_nameSize m_fault m_place m_trouble2_2 a_letters m_failed m_hasHouse a_r a_fresh a_st a_undone a_kept m_undos m_images a_from a_begin a_motor a_change a_startFrame a_changeFrame a_lostAt a_blackAt a_slips a_leftArc a_died a_arcs m_bestSum m_nearest m_nearestTown a_there a_backAt a_sorted a_parts m_seed1 m_darkNow), (cAI g a_r 311 d_r)] [] [0, 1, 2, 3, 4, 5, 6, 7, 8, 9, 10, 11, 12, 13] (m_in l g p1 0 4) dX11_apart_k0.2.2.2.2 mw482 mw483 mw5 mw484 yk_yX11_in_3 rfl (Nat.le_of_ble_eq_true rfl) (Nat.le_of_ble_eq_true rfl) (Nat.le_of_ble_eq_true rfl) (Nat.le_of_ble_eq_true rfl) (Nat.le_of_ble_eq_true rfl) rfl rfl (by decide +kernel) rfl (by decide +kernel) (by decide +kernel) ?_
    rintro r_11 w ⟨iv_12, hk_13, hk_14, rfl⟩
    refine k_ws [(cAI g a_st 44 d_st), (cAI g a_from 8 d_from), (cAI g a_begin 8 d_begin), (cAI g a_motor 8 d_motor), (cAI g a_change 8 d_change), (cAI g a_startFrame 8 d_startFrame), (cAI g a_changeFrame 8 d_changeFrame), (cAI g a_lostAt 8 d_lostAt), (cAI g a_blackAt 8 d_blackAt), (cAI g a_slips 8 d_slips), (cAI g a_there 8 d_there), (cAI g a_backAt 4 d_backAt), (cO11_i1r1i10r1i2r5i2r12i3r4i2 h0 m_thrown2_1 a_tape m_taped m_size m_at m_end m_token m_whole m_nameSize m_fault m_place m_trouble2_2 a_letters m_failed m_hasHouse a_r a_fresh a_st a_undone a_kept m_undos m_images a_from a_begin a_motor a_change a_startFrame a_changeFrame a_lostAt a_blackAt a_slips a_leftArc a_died a_arcs m_bestSum m_nearest m_nearestTown a_there a_backAt a_sorted a_parts m_seed1 m_darkNow), (cAI g a_r 311 d_r)] rfl ?_
    refine k_if_eq 53 X dX11_apart_k1.1.1.1.1 (jp_e rfl) (fun h_15 => ?_) (fun h_15 => ?_)
    · skip
      have iv_16 : IV r_11 0 0 := iv_meet iv_12 (iv_e h_15 iq_0_0_0) (zle_o rfl) (zle_o rfl)
      have hc_17 := hk_14 (iv_eq iv_16 iq_0_0_0)
      have j_18 : p1.toInt < 0 ∨ 4 < p1.toInt := hc_17
      refine k_aload_n X dX11_apart_k1.2.2.1.2 1 rfl ?_
      refine k_iconst (v := 2) X dX11_apart_k1.2.2.2.1 ic_2 ?_
      refine k_callVI (n := 1) (As := [.int 2]) (st := []) X [(cO11_i1r1i10r1i2r5i2r12i3r4i2 h0 m_thrown2_1 a_tape m_taped m_size m_at m_end m_token m_whole m_nameSize m_fault m_place m_trouble2_2 a_letters m_failed m_hasHouse a_r a_fresh a_st a_undone a_kept m_undos m_images a_from a_begin a_motor a_change a_startFrame a_changeFrame a_lostAt a_blackAt a_slips a_leftArc a_died a_arcs m_bestSum m_nearest m_nearestTown a_there a_backAt a_sorted a_parts m_seed1 m_darkNow)] [(cAI g a_st 44 d_st), (cAI g a_from 8 d_from), (cAI g a_begin 8 d_begin), (cAI g a_motor 8 d_motor), (cAI g a_change 8 d_change), (cAI g a_startFrame 8 d_startFrame), (cAI g a_changeFrame 8 d_changeFrame), (cAI g a_lostAt 8 d_lostAt), (cAI g a_blackAt 8 d_blackAt), (cAI g a_slips 8 d_slips), (cAI g a_there 8 d_there), (cAI g a_backAt 4 d_backAt), (cAI g a_r 311 d_r)] [12] [0, 1, 2, 3, 4, 5, 6, 7, 8, 9, 10, 11, 13] (m_no l g h0 2 m_thrown2_1 a_tape m_taped m_size m_at m_end m_token m_whole m_nameSize m_fault m_place m_trouble2_2 a_letters m_failed m_hasHouse a_r a_fresh a_st a_undone a_kept m_undos m_images a_from a_begin a_motor a_change a_startFrame a_changeFrame a_lostAt a_blackAt a_slips a_leftArc a_died a_arcs m_bestSum m_nearest m_nearestTown a_there a_backAt a_sorted a_parts m_seed1 m_darkNow) dX11_apart_k1.2.2.2.2 mw485 mw486 mw487 mw5 mw488 rfl 11 rfl rfl 0 _ rfl yk_yX11_no_1 rfl (Nat.le_of_ble_eq_true rfl) (Nat.le_of_ble_eq_true rfl) (Nat.le_of_ble_eq_true rfl) (Nat.le_of_ble_eq_true rfl) (Nat.le_of_ble_eq_true rfl) rfl rfl (by decide +kernel) rfl (by decide +kernel) (by decide +kernel) ?_
      rintro r_20 w ⟨m_trouble2_19, iv_21, rfl⟩
      refine k_ws [(cAI g a_st 44 d_st), (cAI g a_from 8 d_from), (cAI g a_begin 8 d_begin), (cAI g a_motor 8 d_motor), (cAI g a_change 8 d_change), (cAI g a_startFrame 8 d_startFrame), (cAI g a_changeFrame 8 d_changeFrame), (cAI g a_lostAt 8 d_lostAt), (cAI g a_blackAt 8 d_blackAt), (cAI g a_slips 8 d_slips), (cAI g a_there 8 d_there), (cAI g a_backAt 4 d_backAt), (cAI g a_r 311 d_r), (cO11_i1r1i10r1i2r5i2r12i3r4i2 h0 m_thrown2_1 a_tape m_taped m_size m_at m_end m_token m_whole m_nameSize m_fault m_place m_trouble2_19 a_letters m_failed m_hasHouse a_r a_fresh a_st a_undone a_kept m_undos m_images a_from a_begin a_motor a_change a_startFrame a_changeFrame a_lostAt a_blackAt a_slips a_leftArc a_died a_arcs m_bestSum m_nearest m_nearestTown a_there a_backAt a_sorted a_parts m_seed1 m_darkNow)] rfl ?_
      exact k_iret X hr dX11_apart_k2 (Nat.le_of_ble_eq_true rfl) (Nat.le_of_ble_eq_true rfl) [13, 12, 0, 1, 2, 3, 4, 5, 6, 7, 8, 9, 10, 11] (vnd_e rfl) rfl rfl (exI12 d_backAt d_begin d_blackAt d_change d_changeFrame d_from d_lostAt d_motor d_slips d_startFrame d_there m_thrown2_1 (exI1 m_trouble2_19 rfl))
    · skip
      have hc_22 := hk_13.resolve_left h_15
      have j_23 : 0 ≤ p1.toInt := hc_22.1
      have iv_24 : IV p1 0 2147483647 := iv_leR hc_22.1 iq_0_0_0 (iv_any p1) (zle_e rfl)
      have j_25 : p1.toInt ≤ 4 := hc_22.2
      have iv_26 : IV p1 0 4 := iv_leL hc_22.2 iv_24 iq_4_4_4 (zle_e rfl)
      have iv_27 : IV r_11 1 1 := iv_neL h_15 iv_12 iq_0_0_0 (zle_e rfl)
      refine k_aload_n X dX11_apart_k1.1.1.1.2 1 rfl ?_
      refine k_iload_n X dX11_apart_k1.1.1.2.1 2 rfl ?_
      refine k_iload_n X dX11_apart_k1.1.1.2.2 3 rfl ?_
      refine k_if_ne 46 X dX11_apart_k1.1.2.1.1 (jp_e rfl) (fun h_28 => ?_) (fun h_28 => ?_)
      · skip
        have iv_29 : IV p1 1 4 := iv_neL h_28 iv_26 iq_0_0_0 (zle_e rfl)
        refine k_iload_n X dX11_apart_k1.2.1.2.1 3 rfl ?_
        refine k_callVI (n := 2) (As := [.int p0, .int p1]) (st := []) X [(cO11_i1r1i10r1i2r5i2r12i3r4i2 h0 m_thrown2_1 a_tape m_taped m_size m_at m_end m_token m_whole m_nameSize m_fault m_place m_trouble2_2 a_letters m_failed m_hasHouse a_r a_fresh a_st a_undone a_kept m_undos m_images a_from a_begin a_motor a_change a_startFrame a_changeFrame a_lostAt a_blackAt a_slips a_leftArc a_died a_arcs m_bestSum m_nearest m_nearestTown a_there a_backAt a_sorted a_parts m_seed1 m_darkNow), (cAI g a_r 311 d_r), (cAI g a_st 44 d_st), (cAI g a_from 8 d_from), (cAI g a_begin 8 d_begin), (cAI g a_motor 8 d_motor), (cAI g a_change 8 d_change), (cAI g a_startFrame 8 d_startFrame), (cAI g a_changeFrame 8 d_changeFrame), (cAI g a_lostAt 8 d_lostAt), (cAI g a_blackAt 8 d_blackAt), (cAI g a_slips 8 d_slips), (cAI g a_there 8 d_there), (cAI g a_backAt 4 d_backAt)] [] [12, 13, 0, 1, 2, 3, 4, 5, 6, 7, 8, 9, 10, 11] [] (m_apartOf l g h0 p0 p1 m_thrown2_1 a_tape m_taped m_size m_at m_end m_token m_whole m_nameSize m_fault m_place m_trouble2_2 a_letters m_failed m_hasHouse a_r a_fresh a_st a_undone a_kept m_undos m_images a_from a_begin a_motor a_change a_startFrame a_changeFrame a_lostAt a_blackAt a_slips a_leftArc a_died a_arcs m_bestSum m_nearest m_nearestTown a_there a_backAt a_sorted a_parts m_seed1 m_darkNow d_r d_st d_from d_begin d_motor d_change d_startFrame d_changeFrame d_lostAt d_blackAt d_slips d_there d_backAt (iv_w iv_10 (zle_e rfl) (zle_e rfl)) (iv_w iv_29 (zle_e rfl) (zle_e rfl)) hp_d_r) dX11_apart_k1.2.1.2.2 mw1319 mw1320 mw1321 mw5 mw1322 rfl 11 rfl rfl 0 _ rfl yk_yX11_apartOf_2 rfl (Nat.le_of_ble_eq_true rfl) (Nat.le_of_ble_eq_true rfl) (Nat.le_of_ble_eq_true rfl) (Nat.le_of_ble_eq_true rfl) (Nat.le_of_ble_eq_true rfl) rfl rfl (by decide +kernel) rfl (by decide +kernel) (by decide +kernel) ?_
        intro r_41 w zq
        refine exL11 zq ?_
        clear zq
        intro d_backAt2_30 d_begin2_31 d_blackAt2_32 d_change2_33 d_changeFrame2_34 d_from2_35 d_lostAt2_36 d_motor2_37 d_slips2_38 d_startFrame2_39 d_there2_40 zq
        subst zq
        refine k_ws [(cO11_i1r1i10r1i2r5i2r12i3r4i2 h0 m_thrown2_1 a_tape m_taped m_size m_at m_end m_token m_whole m_nameSize m_fault m_place m_trouble2_2 a_letters m_failed m_hasHouse a_r a_fresh a_st a_undone a_kept m_undos m_images a_from a_begin a_motor a_change a_startFrame a_changeFrame a_lostAt a_blackAt a_slips a_leftArc a_died a_arcs m_bestSum m_nearest m_nearestTown a_there a_backAt a_sorted a_parts m_seed1 m_darkNow), (cAI g a_r 311 d_r), (cAI g a_st 44 d_st), (cAI g a_from 8 d_from2_35), (cAI g a_begin 8 d_begin2_31), (cAI g a_motor 8 d_motor2_37), (cAI g a_change 8 d_change2_33), (cAI g a_startFrame 8 d_startFrame2_39), (cAI g a_changeFrame 8 d_changeFrame2_34), (cAI g a_lostAt 8 d_lostAt2_36), (cAI g a_blackAt 8 d_blackAt2_32), (cAI g a_slips 8 d_slips2_38), (cAI g a_there 8 d_there2_40), (cAI g a_backAt 4 d_backAt2_30)] rfl ?_
        refine k_goto 58 X dX11_apart_k1.2.2.1.1 (jp_e rfl) ?_
        exact k_iret X hr dX11_apart_k2 (Nat.le_of_ble_eq_true rfl) (Nat.le_of_ble_eq_true rfl) [0, 1, 2, 3, 4, 5, 6, 7, 8, 9, 10, 11, 12, 13] (vnd_e rfl) rfl rfl (exI12 d_backAt2_30 d_begin2_31 d_blackAt2_32 d_change2_33 d_changeFrame2_34 d_from2_35 d_lostAt2_36 d_motor2_37 d_slips2_38 d_startFrame2_39 d_there2_40 m_thrown2_1 (exI1 m_trouble2_2 rfl))
      · skip
        have iv_42 : IV p1 0 0 := iv_meet iv_26 (iv_e h_28 iq_0_0_0) (zle_o rfl) (zle_o rfl)
        refine k_aload_n X dX11_apart_k1.1.2.1.2 1 rfl ?_
        refine k_get (ci := 11) X inlX11 rfl 15 (nlt_e rfl) dX11_apart_k1.1.2.2.1 mw170 12 rfl rfl ?_
        refine k_sipush (v := 134) X dX11_apart_k1.1.2.2.2 si_134 ?_
        refine k_iald X dX11_apart_k1.2.1.1.1 13 rfl (by unfold vp_in; decide) ?_
        refine k_nm (fun z_43 ez_43 => ?_)
        have i_44 : z_43.toInt = (d_r 134).toInt := by rw [ez_43]; rfl
        have iv_45 : IV z_43 0 4 := rb_134 ez_43 hp_d_r
        refine k_goto 47 X dX11_apart_k1.2.1.1.2 (jp_e rfl) ?_
        refine k_callVI (n := 2) (As := [.int p0, .int z_43]) (st := []) X [(cO11_i1r1i10r1i2r5i2r12i3r4i2 h0 m_thrown2_1 a_tape m_taped m_size m_at m_end m_token m_whole m_nameSize m_fault m_place m_trouble2_2 a_letters m_failed m_hasHouse a_r a_fresh a_st a_undone a_kept m_undos m_images a_from a_begin a_motor a_change a_startFrame a_changeFrame a_lostAt a_blackAt a_slips a_leftArc a_died a_arcs m_bestSum m_nearest m_nearestTown a_there a_backAt a_sorted a_parts m_seed1 m_darkNow), (cAI g a_r 311 d_r), (cAI g a_st 44 d_st), (cAI g a_from 8 d_from), (cAI g a_begin 8 d_begin), (cAI g a_motor 8 d_motor), (cAI g a_change 8 d_change), (cAI g a_startFrame 8 d_startFrame), (cAI g a_changeFrame 8 d_changeFrame), (cAI g a_lostAt 8 d_lostAt), (cAI g a_blackAt 8 d_blackAt), (cAI g a_slips 8 d_slips), (cAI g a_there 8 d_there), (cAI g a_backAt 4 d_backAt)] [] [12, 13, 0, 1, 2, 3, 4, 5, 6, 7, 8, 9, 10, 11] [] (m_apartOf l g h0 p0 z_43 m_thrown2_1 a_tape m_taped m_size m_at m_end m_token m_whole m_nameSize m_fault m_place m_trouble2_2 a_letters m_failed m_hasHouse a_r a_fresh a_st a_undone a_kept m_undos m_images a_from a_begin a_motor a_change a_startFrame a_changeFrame a_lostAt a_blackAt a_slips a_leftArc a_died a_arcs m_bestSum m_nearest m_nearestTown a_there a_backAt a_sorted a_parts m_seed1 m_darkNow d_r d_st d_from d_begin d_motor d_change d_startFrame d_changeFrame d_lostAt d_blackAt d_slips d_there d_backAt (iv_w iv_10 (zle_e rfl) (zle_e rfl)) (iv_w iv_45 (zle_e rfl) (zle_e rfl)) hp_d_r) dX11_apart_k1.2.1.2.2 mw1319 mw1320 mw1321 mw5 mw1322 rfl 11 rfl rfl 0 _ rfl yk_yX11_apartOf_2 rfl (Nat.le_of_ble_eq_true rfl) (Nat.le_of_ble_eq_true rfl) (Nat.le_of_ble_eq_true rfl) (Nat.le_of_ble_eq_true rfl) (Nat.le_of_ble_eq_true rfl) rfl rfl (by decide +kernel) rfl (by decide +kernel) (by decide +kernel) ?_
        intro r_57 w zq
        refine exL11 zq ?_
        clear zq
        intro d_backAt2_46 d_begin2_47 d_blackAt2_48 d_change2_49 d_changeFrame2_50 d_from2_51 d_lostAt2_52 d_motor2_53 d_slips2_54 d_startFrame2_55 d_there2_56 zq
        subst zq
        refine k_ws [(cO11_i1r1i10r1i2r5i2r12i3r4i2 h0 m_thrown2_1 a_tape m_taped m_size m_at m_end m_token m_whole m_nameSize m_fault m_place m_trouble2_2 a_letters m_failed m_hasHouse a_r a_fresh a_st a_undone a_kept m_undos m_images a_from a_begin a_motor a_change a_startFrame a_changeFrame a_lostAt a_blackAt a_slips a_leftArc a_died a_arcs m_bestSum m_nearest m_nearestTown a_there a_backAt a_sorted a_parts m_seed1 m_darkNow), (cAI g a_r 311 d_r), (cAI g a_st 44 d_st), (cAI g a_from 8 d_from2_51), (cAI g a_begin 8 d_begin2_47), (cAI g a_motor 8 d_motor2_53), (cAI g a_change 8 d_change2_49), (cAI g a_startFrame 8 d_startFrame2_55), (cAI g a_changeFrame 8 d_changeFrame2_50), (cAI g a_lostAt 8 d_lostAt2_52), (cAI g a_blackAt 8 d_blackAt2_48), (cAI g a_slips 8 d_slips2_54), (cAI g a_there 8 d_there2_56), (cAI g a_backAt 4 d_backAt2_46)] rfl ?_
        refine k_goto 58 X dX11_apart_k1.2.2.1.1 (jp_e rfl) ?_
        exact k_iret X hr dX11_apart_k2 (Nat.le_of_ble_eq_true rfl) (Nat.le_of_ble_eq_true rfl) [0, 1, 2, 3, 4, 5, 6, 7, 8, 9, 10, 11, 12, 13] (vnd_e rfl) rfl rfl (exI12 d_backAt2_46 d_begin2_47 d_blackAt2_48 d_change2_49 d_changeFrame2_50 d_from2_51 d_lostAt2_52 d_motor2_53 d_slips2_54 d_startFrame2_55 d_there2_56 m_thrown2_1 (exI1 m_trouble2_2 rfl))
  · skip
    have iv_58 : IV r_4 1 6 := iv_neL h_7 iv_5 iq_0_0_0 (zle_e rfl)
    refine k_aload_n X dX11_apart_k0.2.1.1.1 1 rfl ?_
    refine k_iload_n X dX11_apart_k0.2.1.1.2 0 rfl ?_
    refine k_callVI (n := 1) (As := [.int r_4]) (st := []) X [(cO11_i1r1i10r1i2r5i2r12i3r4i2 h0 m_thrown2_1 a_tape m_taped m_size m_at m_end m_token m_whole m_nameSize m_fault m_place m_trouble2_2 a_letters m_failed m_hasHouse a_r a_fresh a_st a_undone a_kept m_undos m_images a_from a_begin a_motor a_change a_startFrame a_changeFrame a_lostAt a_blackAt a_slips a_leftArc a_died a_arcs m_bestSum m_nearest m_nearestTown a_there a_backAt a_sorted a_parts m_seed1 m_darkNow)] [(cAI g a_st 44 d_st), (cAI g a_from 8 d_from), (cAI g a_begin 8 d_begin), (cAI g a_motor 8 d_motor), (cAI g a_change 8 d_change), (cAI g a_startFrame 8 d_startFrame), (cAI g a_changeFrame 8 d_changeFrame), (cAI g a_lostAt 8 d_lostAt), (cAI g a_blackAt 8 d_blackAt), (cAI g a_slips 8 d_slips), (cAI g a_there 8 d_there), (cAI g a_backAt 4 d_backAt), (cAI g a_r 311 d_r)] [12] [0, 1, 2, 3, 4, 5, 6, 7, 8, 9, 10, 11, 13] (m_no l g h0 r_4 m_thrown2_1 a_tape m_taped m_size m_at m_end m_token m_whole m_nameSize m_fault m_place m_trouble2_2 a_letters m_failed m_hasHouse a_r a_fresh a_st a_undone a_kept m_undos m_images a_from a_begin a_motor a_change a_startFrame a_changeFrame a_lostAt a_blackAt a_slips a_leftArc a_died a_arcs m_bestSum m_nearest m_nearestTown a_there a_backAt a_sorted a_parts m_seed1 m_darkNow) dX11_apart_k0.2.1.2.1 mw485 mw486 mw487 mw5 mw488 rfl 11 rfl rfl 0 _ rfl yk_yX11_no_1 rfl (Nat.le_of_ble_eq_true rfl) (Nat.le_of_ble_eq_true rfl) (Nat.le_of_ble_eq_true rfl) (Nat.le_of_ble_eq_true rfl) (Nat.le_of_ble_eq_true rfl) rfl rfl (by decide +kernel) rfl (by decide +kernel) (by decide +kernel) ?_
    rintro r_60 w ⟨m_trouble2_59, iv_61, rfl⟩
    refine k_ws [(cAI g a_st 44 d_st), (cAI g a_from 8 d_from), (cAI g a_begin 8 d_begin), (cAI g a_motor 8 d_motor), (cAI g a_change 8 d_change), (cAI g a_startFrame 8 d_startFrame), (cAI g a_changeFrame 8 d_changeFrame), (cAI g a_lostAt 8 d_lostAt), (cAI g a_blackAt 8 d_blackAt), (cAI g a_slips 8 d_slips), (cAI g a_there 8 d_there), (cAI g a_backAt 4 d_backAt), (cAI g a_r 311 d_r), (cO11_i1r1i10r1i2r5i2r12i3r4i2 h0 m_thrown2_1 a_tape m_taped m_size m_at m_end m_token m_whole m_nameSize m_fault m_place m_trouble2_59 a_letters m_failed m_hasHouse a_r a_fresh a_st a_undone a_kept m_undos m_images a_from a_begin a_motor a_change a_startFrame a_changeFrame a_lostAt a_blackAt a_slips a_leftArc a_died a_arcs m_bestSum m_nearest m_nearestTown a_there a_backAt a_sorted a_parts m_seed1 m_darkNow)] rfl ?_
    exact k_iret X hr dX11_apart_k0.2.1.2.2 (Nat.le_of_ble_eq_true rfl) (Nat.le_of_ble_eq_true rfl) [13, 12, 0, 1, 2, 3, 4, 5, 6, 7, 8, 9, 10, 11] (vnd_e rfl) rfl rfl (exI12 d_backAt d_begin d_blackAt d_change d_changeFrame d_from d_lostAt d_motor d_slips d_startFrame d_there m_thrown2_1 (exI1 m_trouble2_59 rfl))

theorem dX11_waits_k0 : ((((dD cX11_waits 0 (.aload_n 0) 1 ∧ dD cX11_waits 1 (.invokevirtual 200) 3) ∧ (dD cX11_waits 4 (.aload_n 0) 1 ∧ dD cX11_waits 5 (.iload_n 1) 1)) ∧ ((dD cX11_waits 6 (.invokevirtual 446) 3 ∧ dD cX11_waits 9 (.istore 4) 2) ∧ (dD cX11_waits 11 (.iload 4) 2 ∧ dD cX11_waits 13 (.ifCond .eq 10) 3))) ∧ (((dD cX11_waits 16 (.aload_n 0) 1 ∧ dD cX11_waits 17 (.iload 4) 2) ∧ (dD cX11_waits 19 (.invokevirtual 203) 3 ∧ dD cX11_waits 22 .ireturn 1)) ∧ ((dD cX11_waits 23 (.iload_n 2) 1 ∧ dD cX11_waits 24 (.iconst 0) 1) ∧ (dD cX11_waits 25 (.iconst 4) 1 ∧ dD cX11_waits 26 (.invokestatic 182) 3)))) := dkA16 (by decide +kernel)
theorem dX11_waits_k1 : ((((dD cX11_waits 29 (.ifCond .eq 14) 3 ∧ dD cX11_waits 32 (.iload_n 3) 1) ∧ (dD cX11_waits 33 (.iconst 0) 1 ∧ dD cX11_waits 34 (.sipush 9999) 3)) ∧ ((dD cX11_waits 37 (.invokestatic 182) 3 ∧ dD cX11_waits 40 (.ifCond .ne 9) 3) ∧ (dD cX11_waits 43 (.aload_n 0) 1 ∧ dD cX11_waits 44 (.iconst 2) 1))) ∧ (((dD cX11_waits 45 (.invokevirtual 203) 3 ∧ dD cX11_waits 48 .ireturn 1) ∧ (dD cX11_waits 49 (.aload_n 0) 1 ∧ dD cX11_waits 50 (.iload_n 1) 1)) ∧ ((dD cX11_waits 51 (.iload_n 2) 1 ∧ dD cX11_waits 52 (.ifCond .ne 14) 3) ∧ (dD cX11_waits 55 (.aload_n 0) 1 ∧ dD cX11_waits 56 (.getfield 20) 3)))) := dkA16 (by decide +kernel)
theorem dX11_waits_k2 : ((((dD cX11_waits 59 (.sipush 134) 3 ∧ dD cX11_waits 62 .iaload 1) ∧ (dD cX11_waits 63 (.goto 4) 3 ∧ dD cX11_waits 66 (.iload_n 2) 1)) ∧ ((dD cX11_waits 67 (.invokevirtual 443) 3 ∧ dD cX11_waits 70 (.iconst 0) 1) ∧ (dD cX11_waits 71 (.istore 5) 2 ∧ dD cX11_waits 73 (.iload_n 3) 1))) ∧ (((dD cX11_waits 74 (.istore 6) 2 ∧ dD cX11_waits 76 (.iconst 0) 1) ∧ (dD cX11_waits 77 (.istore 7) 2 ∧ dD cX11_waits 79 (.iload 7) 2)) ∧ ((dD cX11_waits 81 (.aload_n 0) 1 ∧ dD cX11_waits 82 (.getfield 20) 3) ∧ (dD cX11_waits 85 (.bipush 12) 2 ∧ dD cX11_waits 87 .iaload 1)))) := dkA16 (by decide +kernel)
theorem dX11_waits_k3 : ((((dD cX11_waits 88 (.if_icmp .ge 47) 3 ∧ dD cX11_waits 91 (.iconst 0) 1) ∧ (dD cX11_waits 92 (.aload_n 0) 1 ∧ dD cX11_waits 93 (.getfield 71) 3)) ∧ ((dD cX11_waits 96 (.iload 7) 2 ∧ dD cX11_waits 98 .iaload 1) ∧ (dD cX11_waits 99 (.aload_n 0) 1 ∧ dD cX11_waits 100 (.getfield 38) 3))) ∧ (((dD cX11_waits 103 (.iload 7) 2 ∧ dD cX11_waits 105 .iaload 1) ∧ (dD cX11_waits 106 .isub 1 ∧ dD cX11_waits 107 (.iload 6) 2)) ∧ ((dD cX11_waits 109 .isub 1 ∧ dD cX11_waits 110 (.invokestatic 351) 3) ∧ (dD cX11_waits 113 (.istore 8) 2 ∧ dD cX11_waits 115 (.iload 5) 2)))) := dkA16 (by decide +kernel)
theorem dX11_waits_k4 : (((dD cX11_waits 117 (.iload 8) 2 ∧ dD cX11_waits 119 .iadd 1) ∧ (dD cX11_waits 120 (.istore 5) 2 ∧ (dD cX11_waits 122 (.iload 6) 2 ∧ dD cX11_waits 124 (.iload 8) 2))) ∧ ((dD cX11_waits 126 .iadd 1 ∧ (dD cX11_waits 127 (.istore 6) 2 ∧ dD cX11_waits 129 (.iinc 7 1) 3)) ∧ (dD cX11_waits 132 (.goto (-53)) 3 ∧ (dD cX11_waits 135 (.iload 5) 2 ∧ dD cX11_waits 137 .ireturn 1)))) := dkA11 (by decide +kernel)
set_option maxHeartbeats 4000000 in
set_option maxRecDepth 100000 in
theorem m_waits (l : Launch) (g : Gx) (h0 : Nat) (p0 : Int32) (p1 : Int32) (p2 : Int32) (m_thrown : Int32) (a_tape : Nat) (m_taped : Int32) (m_size : Int32) (m_at : Int32) (m_end : Int32) (m_token : Int32) (m_whole : Int32) (m_nameSize : Int32) (m_fault : Int32) (m_place : Int32) (m_trouble : Int32) (a_letters : Nat) (m_failed : Int32) (m_hasHouse : Int32) (a_r : Nat) (a_fresh : Nat) (a_st : Nat) (a_undone : Nat) (a_kept : Nat) (m_undos : Int32) (m_images : Int32) (a_from : Nat) (a_begin : Nat) (a_motor : Nat) (a_change : Nat) (a_startFrame : Nat) (a_changeFrame : Nat) (a_lostAt : Nat) (a_blackAt : Nat) (a_slips : Nat) (a_leftArc : Nat) (a_died : Nat) (a_arcs : Nat) (m_bestSum : Int32) (m_nearest : Int32) (m_nearestTown : Int32) (a_there : Nat) (a_backAt : Nat) (a_sorted : Nat) (a_parts : Nat) (m_seed1 : Int32) (m_darkNow : Int32) (d_r : Nat → Int32) (d_st : Nat → Int32) (d_from : Nat → Int32) (d_begin : Nat → Int32) (d_motor : Nat → Int32) (d_change : Nat → Int32) (d_startFrame : Nat → Int32) (d_changeFrame : Nat → Int32) (d_lostAt : Nat → Int32) (d_blackAt : Nat → Int32) (d_slips : Nat → Int32) (d_there : Nat → Int32) (d_backAt : Nat → Int32) (hv_m_hasHouse : IV m_hasHouse 0 1) (hp_d_r : RInv d_r) : cI l g yX11_waits cX11_waits 9 (some .int) 6 135 0 0 [.ref h0, .int p0, .int p1, .int p2] [(cO11_i1r1i10r1i2r5i2r12i3r4i2 h0 m_thrown a_tape m_taped m_size m_at m_end m_token m_whole m_nameSize m_fault m_place m_trouble a_letters m_failed m_hasHouse a_r a_fresh a_st a_undone a_kept m_undos m_images a_from a_begin a_motor a_change a_startFrame a_changeFrame a_lostAt a_blackAt a_slips a_leftArc a_died a_arcs m_bestSum m_nearest m_nearestTown a_there a_backAt a_sorted a_parts m_seed1 m_darkNow), (cAI g a_r 311 d_r), (cAI g a_st 44 d_st), (cAI g a_from 8 d_from), (cAI g a_begin 8 d_begin), (cAI g a_motor 8 d_motor), (cAI g a_change 8 d_change), (cAI g a_startFrame 8 d_startFrame), (cAI g a_changeFrame 8 d_changeFrame), (cAI g a_lostAt 8 d_lostAt), (cAI g a_blackAt 8 d_blackAt), (cAI g a_slips 8 d_slips), (cAI g a_there 8 d_there), (cAI g a_backAt 4 d_backAt)] (fun r w => ∃ (d_backAt2 : Nat → Int32) (d_begin2 : Nat → Int32) (d_blackAt2 : Nat → Int32) (d_change2 : Nat → Int32) (d_changeFrame2 : Nat → Int32) (d_from2 : Nat → Int32) (d_lostAt2 : Nat → Int32) (d_motor2 : Nat → Int32) (d_slips2 : Nat → Int32) (d_startFrame2 : Nat → Int32) (d_there2 : Nat → Int32) (m_thrown2 : Int32) (m_trouble2 : Int32), w = [(cO11_i1r1i10r1i2r5i2r12i3r4i2 h0 m_thrown2 a_tape m_taped m_size m_at m_end m_token m_whole m_nameSize m_fault m_place m_trouble2 a_letters m_failed m_hasHouse a_r a_fresh a_st a_undone a_kept m_undos m_images a_from a_begin a_motor a_change a_startFrame a_changeFrame a_lostAt a_blackAt a_slips a_leftArc a_died a_arcs m_bestSum m_nearest m_nearestTown a_there a_backAt a_sorted a_parts m_seed1 m_darkNow), (cAI g a_r 311 d_r), (cAI g a_st 44 d_st), (cAI g a_from 8 d_from2), (cAI g a_begin 8 d_begin2), (cAI g a_motor 8 d_motor2), (cAI g a_change 8 d_change2), (cAI g a_startFrame 8 d_startFrame2), (cAI g a_changeFrame 8 d_changeFrame2), (cAI g a_lostAt 8 d_lostAt2), (cAI g a_blackAt 8 d_blackAt2), (cAI g a_slips 8 d_slips2), (cAI g a_there 8 d_there2), (cAI g a_backAt 4 d_backAt2)]) := by
  refine cI.of (by decide) (Nat.le_of_ble_eq_true rfl) ?_
  intro p e s m args below meth c A X hr hi
  refine k_lveq [(0, .ref h0), (1, .int p0), (2, .int p1), (3, .int p2)] rfl ?_
  refine k_aload_n X dX11_waits_k0.1.1.1.1 0 rfl ?_
  refine k_callVV (n := 0) (As := []) (st := []) X [(cO11_i1r1i10r1i2r5i2r12i3r4i2 h0 m_thrown a_tape m_taped m_size m_at m_end m_token m_whole m_nameSize m_fault m_place m_trouble a_letters m_failed m_hasHouse a_r a_fresh a_st a_undone a_kept m_undos m_images a_from a_begin a_motor a_change a_startFrame a_changeFrame a_lostAt a_blackAt a_slips a_leftArc a_died a_arcs m_bestSum m_nearest m_nearestTown a_there a_backAt a_sorted a_parts m_seed1 m_darkNow)] [(cAI g a_r 311 d_r), (cAI g a_st 44 d_st), (cAI g a_from 8 d_from), (cAI g a_begin 8 d_begin), (cAI g a_motor 8 d_motor), (cAI g a_change 8 d_change), (cAI g a_startFrame 8 d_startFrame), (cAI g a_changeFrame 8 d_changeFrame), (cAI g a_lostAt 8 d_lostAt), (cAI g a_blackAt 8 d_blackAt), (cAI g a_slips 8 d_slips), (cAI g a_there 8 d_there), (cAI g a_backAt 4 d_backAt)] [0] [1, 2, 3, 4, 5, 6, 7, 8, 9, 10, 11, 12, 13] (m_good l g h0 m_thrown a_tape m_taped m_size m_at m_end m_token m_whole m_nameSize m_fault m_place m_trouble a_letters m_failed m_hasHouse a_r a_fresh a_st a_undone a_kept m_undos m_images a_from a_begin a_motor a_change a_startFrame a_changeFrame a_lostAt a_blackAt a_slips a_leftArc a_died a_arcs m_bestSum m_nearest m_nearestTown a_there a_backAt a_sorted a_parts m_seed1 m_darkNow) dX11_waits_k0.1.1.1.2 mw477 mw478 mw479 mw5 mw480 rfl 11 rfl rfl 0 _ rfl yk_yX11_good_0 rfl (Nat.le_of_ble_eq_true rfl) (Nat.le_of_ble_eq_true rfl) (Nat.le_of_ble_eq_true rfl) (Nat.le_of_ble_eq_true rfl) (Nat.le_of_ble_eq_true rfl) rfl rfl (by decide +kernel) rfl (by decide +kernel) (by decide +kernel) ?_
  rintro w ⟨m_thrown2_1, m_trouble2_2, rfl⟩
  refine k_ws [(cAI g a_r 311 d_r), (cAI g a_st 44 d_st), (cAI g a_from 8 d_from), (cAI g a_begin 8 d_begin), (cAI g a_motor 8 d_motor), (cAI g a_change 8 d_change), (cAI g a_startFrame 8 d_startFrame), (cAI g a_changeFrame 8 d_changeFrame), (cAI g a_lostAt 8 d_lostAt), (cAI g a_blackAt 8 d_blackAt), (cAI g a_slips 8 d_slips), (cAI g a_there 8 d_there), (cAI g a_backAt 4 d_backAt), (cO11_i1r1i10r1i2r5i2r12i3r4i2 h0 m_thrown2_1 a_tape m_taped m_size m_at m_end m_token m_whole m_nameSize m_fault m_place m_trouble2_2 a_letters m_failed m_hasHouse a_r a_fresh a_st a_undone a_kept m_undos m_images a_from a_begin a_motor a_change a_startFrame a_changeFrame a_lostAt a_blackAt a_slips a_leftArc a_died a_arcs m_bestSum m_nearest m_nearestTown a_there a_backAt a_sorted a_parts m_seed1 m_darkNow)] rfl ?_
  refine k_aload_n X dX11_waits_k0.1.1.2.1 0 rfl ?_
  refine k_iload_n X dX11_waits_k0.1.1.2.2 1 rfl ?_
  refine k_callVI (n := 1) (As := [.int p0]) (st := []) X [(cO11_i1r1i10r1i2r5i2r12i3r4i2 h0 m_thrown2_1 a_tape m_taped m_size m_at m_end m_token m_whole m_nameSize m_fault m_place m_trouble2_2 a_letters m_failed m_hasHouse a_r a_fresh a_st a_undone a_kept m_undos m_images a_from a_begin a_motor a_change a_startFrame a_changeFrame a_lostAt a_blackAt a_slips a_leftArc a_died a_arcs m_bestSum m_nearest m_nearestTown a_there a_backAt a_sorted a_parts m_seed1 m_darkNow), (cAI g a_r 311 d_r)] [(cAI g a_st 44 d_st), (cAI g a_from 8 d_from), (cAI g a_begin 8 d_begin), (cAI g a_motor 8 d_motor), (cAI g a_change 8 d_change), (cAI g a_startFrame 8 d_startFrame), (cAI g a_changeFrame 8 d_changeFrame), (cAI g a_lostAt 8 d_lostAt), (cAI g a_blackAt 8 d_blackAt), (cAI g a_slips 8 d_slips), (cAI g a_there 8 d_there), (cAI g a_backAt 4 d_backAt)] [13, 0] [1, 2, 3, 4, 5, 6, 7, 8, 9, 10, 11, 12] (m_boyWhy l g h0 p0 m_thrown2_1 a_tape m_taped m_size m_at m_end m_token m_whole m_nameSize m_fault m_place m_trouble2_2 a_letters m_failed m_hasHouse a_r a_fresh a_st a_undone a_kept m_undos m_images a_from a_begin a_motor a_change a_startFrame a_changeFrame a_lostAt a_blackAt a_slips a_leftArc a_died a_arcs m_bestSum m_nearest m_nearestTown a_there a_backAt a_sorted a_parts m_seed1 m_darkNow d_r (iv_w hv_m_hasHouse (zle_e rfl) (zle_e rfl)) hp_d_r) dX11_waits_k0.1.2.1.1 mw1315 mw1316 mw1317 mw5 mw1318 rfl 11 rfl rfl 0 _ rfl yk_yX11_boyWhy_1 rfl (Nat.le_of_ble_eq_true rfl) (Nat.le_of_ble_eq_true rfl) (Nat.le_of_ble_eq_true rfl) (Nat.le_of_ble_eq_true rfl) (Nat.le_of_ble_eq_true rfl) rfl rfl (by decide +kernel) rfl (by decide +kernel) (by decide +kernel) ?_
  rintro r_4 w ⟨iv_5, hk_6, rfl⟩
  refine k_ws [(cAI g a_st 44 d_st), (cAI g a_from 8 d_from), (cAI g a_begin 8 d_begin), (cAI g a_motor 8 d_motor), (cAI g a_change 8 d_change), (cAI g a_startFrame 8 d_startFrame), (cAI g a_changeFrame 8 d_changeFrame), (cAI g a_lostAt 8 d_lostAt), (cAI g a_blackAt 8 d_blackAt), (cAI g a_slips 8 d_slips), (cAI g a_there 8 d_there), (cAI g a_backAt 4 d_backAt), (cO11_i1r1i10r1i2r5i2r12i3r4i2 h0 m_thrown2_1 a_tape m_taped m_size m_at m_end m_token m_whole m_nameSize m_fault m_place m_trouble2_2 a_letters m_failed m_hasHouse a_r a_fresh a_st a_undone a_kept m_undos m_images a_from a_begin a_motor a_change a_startFrame a_changeFrame a_lostAt a_blackAt a_slips a_leftArc a_died a_arcs m_bestSum m_nearest m_nearestTown a_there a_backAt a_sorted a_parts m_seed1 m_darkNow), (cAI g a_r 311 d_r)] rfl ?_
  refine k_istore [(4, .int r_4), (0, .ref h0), (1, .int p0), (2, .int p1), (3, .int p2)] X dX11_waits_k0.1.2.1.2 (nlt_e rfl) rfl ?_
  refine k_iload X dX11_waits_k0.1.2.2.1 0 rfl ?_
  refine k_if_eq 23 X dX11_waits_k0.1.2.2.2 (jp_e rfl) (fun h_7 => ?_) (fun h_7 => ?_)
  · skip
    have iv_8 : IV r_4 0 0 := iv_meet iv_5 (iv_e h_7 iq_0_0_0) (zle_o rfl) (zle_o rfl)
    have hc_9 := hk_6.resolve_left (fun q => iv_eqN q iv_8 iq_1_1_1 (by decide))
    have iv_10 : IV p0 0 3 := iv_meet (iv_any p0) hc_9 (zle_o rfl) (zle_o rfl)
    refine k_iload_n X dX11_waits_k0.2.2.1.1 3 rfl ?_
    refine k_iconst (v := 0) X dX11_waits_k0.2.2.1.2 ic_0 ?_
    refine k_iconst (v := 4) X dX11_waits_k0.2.2.2.1 ic_4 ?_
    refine k_callSI (n := 3) (As := [.int p1, .int 0, .int 4]) (st := []) X [] [(cAI g a_st 44 d_st), (cAI g a_from 8 d_from), (cAI g a_begin 8 d_begin), (cAI g a_motor 8 d_motor), (cAI g a_change 8 d_change), (cAI g a_startFrame 8 d_startFrame), (cAI g a_changeFrame 8 d_changeFrame), (cAI g a_lostAt 8 d_lostAt), (cAI g a_blackAt 8 d_blackAt), (cAI g a_slips 8 d_slips), (cAI g a_there 8 d_there), (cAI g a_backAt 4 d_backAt), (cO11_i1r1i10r1i2r5i2r12i3r4i2 h0 m_thrown2_1 a_tape m_taped m_size m_at m_end m_token m_whole m_nameSize m_fault m_place m_trouble2_2 a_letters m_failed m_hasHouse a_r a_fresh a_st a_undone a_kept m_undos m_images a_from a_begin a_motor a_change a_startFrame a_changeFrame a_lostAt a_blackAt a_slips a_leftArc a_died a_arcs m_bestSum m_nearest m_nearestTown a_there a_backAt a_sorted a_parts m_seed1 m_darkNow), (cAI g a_r 311 d_r)] [] [0, 1, 2, 3, 4, 5, 6, 7, 8, 9, 10, 11, 12, 13] (m_in l g p1 0 4) dX11_waits_k0.2.2.2.2 mw482 mw483 mw5 mw484 yk_yX11_in_3 rfl (Nat.le_of_ble_eq_true rfl) (Nat.le_of_ble_eq_true rfl) (Nat.le_of_ble_eq_true rfl) (Nat.le_of_ble_eq_true rfl) (Nat.le_of_ble_eq_true rfl) rfl rfl (by decide +kernel) rfl (by decide +kernel) (by decide +kernel) ?_
    rintro r_11 w ⟨iv_12, hk_13, hk_14, rfl⟩
    refine k_ws [(cAI g a_st 44 d_st), (cAI g a_from 8 d_from), (cAI g a_begin 8 d_begin), (cAI g a_motor 8 d_motor), (cAI g a_change 8 d_change), (cAI g a_startFrame 8 d_startFrame), (cAI g a_changeFrame 8 d_changeFrame), (cAI g a_lostAt 8 d_lostAt), (cAI g a_blackAt 8 d_blackAt), (cAI g a_slips 8 d_slips), (cAI g a_there 8 d_there), (cAI g a_backAt 4 d_backAt), (cO11_i1r1i10r1i2r5i2r12i3r4i2 h0 m_thrown2_1 a_tape m_taped m_size m_at m_end m_token m_whole m_nameSize m_fault m_place m_trouble2_2 a_letters m_failed m_hasHouse a_r a_fresh a_st a_undone a_kept m_undos m_images a_from a_begin a_motor a_change a_startFrame a_changeFrame a_lostAt a_blackAt a_slips a_leftArc a_died a_arcs m_bestSum m_nearest m_nearestTown a_there a_backAt a_sorted a_parts m_seed1 m_darkNow), (cAI g a_r 311 d_r)] rfl ?_
    refine k_if_eq 43 X dX11_waits_k1.1.1.1.1 (jp_e rfl) (fun h_15 => ?_) (fun h_15 => ?_)
    · skip
      have iv_16 : IV r_11 0 0 := iv_meet iv_12 (iv_e h_15 iq_0_0_0) (zle_o rfl) (zle_o rfl)
      have hc_17 := hk_14 (iv_eq iv_16 iq_0_0_0)
      have j_18 : p1.toInt < 0 ∨ 4 < p1.toInt := hc_17
      refine k_aload_n X dX11_waits_k1.1.2.2.1 1 rfl ?_
      refine k_iconst (v := 2) X dX11_waits_k1.1.2.2.2 ic_2 ?_
      refine k_callVI (n := 1) (As := [.int 2]) (st := []) X [(cO11_i1r1i10r1i2r5i2r12i3r4i2 h0 m_thrown2_1 a_tape m_taped m_size m_at m_end m_token m_whole m_nameSize m_fault m_place m_trouble2_2 a_letters m_failed m_hasHouse a_r a_fresh a_st a_undone a_kept m_undos m_images a_from a_begin a_motor a_change a_startFrame a_changeFrame a_lostAt a_blackAt a_slips a_leftArc a_died a_arcs m_bestSum m_nearest m_nearestTown a_there a_backAt a_sorted a_parts m_seed1 m_darkNow)] [(cAI g a_st 44 d_st), (cAI g a_from 8 d_from), (cAI g a_begin 8 d_begin), (cAI g a_motor 8 d_motor), (cAI g a_change 8 d_change), (cAI g a_startFrame 8 d_startFrame), (cAI g a_changeFrame 8 d_changeFrame), (cAI g a_lostAt 8 d_lostAt), (cAI g a_blackAt 8 d_blackAt), (cAI g a_slips 8 d_slips), (cAI g a_there 8 d_there), (cAI g a_backAt 4 d_backAt), (cAI g a_r 311 d_r)] [12] [0, 1, 2, 3, 4, 5, 6, 7, 8, 9, 10, 11, 13] (m_no l g h0 2 m_thrown2_1 a_tape m_taped m_size m_at m_end m_token m_whole m_nameSize m_fault m_place m_trouble2_2 a_letters m_failed m_hasHouse a_r a_fresh a_st a_undone a_kept m_undos m_images a_from a_begin a_motor a_change a_startFrame a_changeFrame a_lostAt a_blackAt a_slips a_leftArc a_died a_arcs m_bestSum m_nearest m_nearestTown a_there a_backAt a_sorted a_parts m_seed1 m_darkNow) dX11_waits_k1.2.1.1.1 mw485 mw486 mw487 mw5 mw488 rfl 11 rfl rfl 0 _ rfl yk_yX11_no_1 rfl (Nat.le_of_ble_eq_true rfl) (Nat.le_of_ble_eq_true rfl) (Nat.le_of_ble_eq_true rfl) (Nat.le_of_ble_eq_true rfl) (Nat.le_of_ble_eq_true rfl) rfl rfl (by decide +kernel) rfl (by decide +kernel) (by decide +kernel) ?_
      rintro r_20 w ⟨m_trouble2_19, iv_21, rfl⟩
      refine k_ws [(cAI g a_st 44 d_st), (cAI g a_from 8 d_from), (cAI g a_begin 8 d_begin), (cAI g a_motor 8 d_motor), (cAI g a_change 8 d_change), (cAI g a_startFrame 8 d_startFrame), (cAI g a_changeFrame 8 d_changeFrame), (cAI g a_lostAt 8 d_lostAt), (cAI g a_blackAt 8 d_blackAt), (cAI g a_slips 8 d_slips), (cAI g a_there 8 d_there), (cAI g a_backAt 4 d_backAt), (cAI g a_r 311 d_r), (cO11_i1r1i10r1i2r5i2r12i3r4i2 h0 m_thrown2_1 a_tape m_taped m_size m_at m_end m_token m_whole m_nameSize m_fault m_place m_trouble2_19 a_letters m_failed m_hasHouse a_r a_fresh a_st a_undone a_kept m_undos m_images a_from a_begin a_motor a_change a_startFrame a_changeFrame a_lostAt a_blackAt a_slips a_leftArc a_died a_arcs m_bestSum m_nearest m_nearestTown a_there a_backAt a_sorted a_parts m_seed1 m_darkNow)] rfl ?_
      exact k_iret X hr dX11_waits_k1.2.1.1.2 (Nat.le_of_ble_eq_true rfl) (Nat.le_of_ble_eq_true rfl) [13, 12, 0, 1, 2, 3, 4, 5, 6, 7, 8, 9, 10, 11] (vnd_e rfl) rfl rfl (exI12 d_backAt d_begin d_blackAt d_change d_changeFrame d_from d_lostAt d_motor d_slips d_startFrame d_there m_thrown2_1 (exI1 m_trouble2_19 rfl))
    · skip
      have hc_22 := hk_13.resolve_left h_15
      have j_23 : 0 ≤ p1.toInt := hc_22.1
      have iv_24 : IV p1 0 2147483647 := iv_leR hc_22.1 iq_0_0_0 (iv_any p1) (zle_e rfl)
      have j_25 : p1.toInt ≤ 4 := hc_22.2
      have iv_26 : IV p1 0 4 := iv_leL hc_22.2 iv_24 iq_4_4_4 (zle_e rfl)
      have iv_27 : IV r_11 1 1 := iv_neL h_15 iv_12 iq_0_0_0 (zle_e rfl)
      refine k_iload_n X dX11_waits_k1.1.1.1.2 4 rfl ?_
      refine k_iconst (v := 0) X dX11_waits_k1.1.1.2.1 ic_0 ?_
      refine k_sipush (v := 9999) X dX11_waits_k1.1.1.2.2 si_9999 ?_
      refine k_callSI (n := 3) (As := [.int p2, .int 0, .int 9999]) (st := []) X [] [(cAI g a_st 44 d_st), (cAI g a_from 8 d_from), (cAI g a_begin 8 d_begin), (cAI g a_motor 8 d_motor), (cAI g a_change 8 d_change), (cAI g a_startFrame 8 d_startFrame), (cAI g a_changeFrame 8 d_changeFrame), (cAI g a_lostAt 8 d_lostAt), (cAI g a_blackAt 8 d_blackAt), (cAI g a_slips 8 d_slips), (cAI g a_there 8 d_there), (cAI g a_backAt 4 d_backAt), (cO11_i1r1i10r1i2r5i2r12i3r4i2 h0 m_thrown2_1 a_tape m_taped m_size m_at m_end m_token m_whole m_nameSize m_fault m_place m_trouble2_2 a_letters m_failed m_hasHouse a_r a_fresh a_st a_undone a_kept m_undos m_images a_from a_begin a_motor a_change a_startFrame a_changeFrame a_lostAt a_blackAt a_slips a_leftArc a_died a_arcs m_bestSum m_nearest m_nearestTown a_there a_backAt a_sorted a_parts m_seed1 m_darkNow), (cAI g a_r 311 d_r)] [] [0, 1, 2, 3, 4, 5, 6, 7, 8, 9, 10, 11, 12, 13] (m_in l g p2 0 9999) dX11_waits_k1.1.2.1.1 mw482 mw483 mw5 mw484 yk_yX11_in_3 rfl (Nat.le_of_ble_eq_true rfl) (Nat.le_of_ble_eq_true rfl) (Nat.le_of_ble_eq_true rfl) (Nat.le_of_ble_eq_true rfl) (Nat.le_of_ble_eq_true rfl) rfl rfl (by decide +kernel) rfl (by decide +kernel) (by decide +kernel) ?_
      rintro r_28 w ⟨iv_29, hk_30, hk_31, rfl⟩
      refine k_ws [(cAI g a_st 44 d_st), (cAI g a_from 8 d_from), (cAI g a_begin 8 d_begin), (cAI g a_motor 8 d_motor), (cAI g a_change 8 d_change), (cAI g a_startFrame 8 d_startFrame), (cAI g a_changeFrame 8 d_changeFrame), (cAI g a_lostAt 8 d_lostAt), (cAI g a_blackAt 8 d_blackAt), (cAI g a_slips 8 d_slips), (cAI g a_there 8 d_there), (cAI g a_backAt 4 d_backAt), (cO11_i1r1i10r1i2r5i2r12i3r4i2 h0 m_thrown2_1 a_tape m_taped m_size m_at m_end m_token m_whole m_nameSize m_fault m_place m_trouble2_2 a_letters m_failed m_hasHouse a_r a_fresh a_st a_undone a_kept m_undos m_images a_from a_begin a_motor a_change a_startFrame a_changeFrame a_lostAt a_blackAt a_slips a_leftArc a_died a_arcs m_bestSum m_nearest m_nearestTown a_there a_backAt a_sorted a_parts m_seed1 m_darkNow), (cAI g a_r 311 d_r)] rfl ?_
      refine k_if_ne 49 X dX11_waits_k1.1.2.1.2 (jp_e rfl) (fun h_32 => ?_) (fun h_32 => ?_)
      · skip
        have hc_33 := hk_30.resolve_left h_32
        have j_34 : 0 ≤ p2.toInt := hc_33.1
        have iv_35 : IV p2 0 2147483647 := iv_leR hc_33.1 iq_0_0_0 (iv_any p2) (zle_e rfl)
        have j_36 : p2.toInt ≤ 9999 := hc_33.2
        have iv_37 : IV p2 0 9999 := iv_leL hc_33.2 iv_35 iq_9999_9999_9999 (zle_e rfl)
        have iv_38 : IV r_28 1 1 := iv_neL h_32 iv_29 iq_0_0_0 (zle_e rfl)
        refine k_aload_n X dX11_waits_k1.2.1.2.1 1 rfl ?_
        refine k_iload_n X dX11_waits_k1.2.1.2.2 2 rfl ?_
        refine k_iload_n X dX11_waits_k1.2.2.1.1 3 rfl ?_
        refine k_if_ne 66 X dX11_waits_k1.2.2.1.2 (jp_e rfl) (fun h_39 => ?_) (fun h_39 => ?_)
        · skip
          have iv_40 : IV p1 1 4 := iv_neL h_39 iv_26 iq_0_0_0 (zle_e rfl)
          refine k_iload_n X dX11_waits_k2.1.1.2.2 3 rfl ?_
          refine k_callVV (n := 2) (As := [.int p0, .int p1]) (st := []) X [(cO11_i1r1i10r1i2r5i2r12i3r4i2 h0 m_thrown2_1 a_tape m_taped m_size m_at m_end m_token m_whole m_nameSize m_fault m_place m_trouble2_2 a_letters m_failed m_hasHouse a_r a_fresh a_st a_undone a_kept m_undos m_images a_from a_begin a_motor a_change a_startFrame a_changeFrame a_lostAt a_blackAt a_slips a_leftArc a_died a_arcs m_bestSum m_nearest m_nearestTown a_there a_backAt a_sorted a_parts m_seed1 m_darkNow), (cAI g a_r 311 d_r), (cAI g a_st 44 d_st), (cAI g a_from 8 d_from), (cAI g a_begin 8 d_begin), (cAI g a_motor 8 d_motor), (cAI g a_change 8 d_change), (cAI g a_startFrame 8 d_startFrame), (cAI g a_changeFrame 8 d_changeFrame), (cAI g a_lostAt 8 d_lostAt), (cAI g a_blackAt 8 d_blackAt), (cAI g a_slips 8 d_slips), (cAI g a_there 8 d_there), (cAI g a_backAt 4 d_backAt)] [] [12, 13, 0, 1, 2, 3, 4, 5, 6, 7, 8, 9, 10, 11] [] (m_carry l g h0 p0 p1 m_thrown2_1 a_tape m_taped m_size m_at m_end m_token m_whole m_nameSize m_fault m_place m_trouble2_2 a_letters m_failed m_hasHouse a_r a_fresh a_st a_undone a_kept m_undos m_images a_from a_begin a_motor a_change a_startFrame a_changeFrame a_lostAt a_blackAt a_slips a_leftArc a_died a_arcs m_bestSum m_nearest m_nearestTown a_there a_backAt a_sorted a_parts m_seed1 m_darkNow d_r d_st d_from d_begin d_motor d_change d_startFrame d_changeFrame d_lostAt d_blackAt d_slips d_there d_backAt (iv_w iv_10 (zle_e rfl) (zle_e rfl)) (iv_w iv_40 (zle_e rfl) (zle_e rfl)) hp_d_r) dX11_waits_k2.1.2.1.1 mw1323 mw1324 mw1325 mw5 mw1326 rfl 11 rfl rfl 0 _ rfl yk_yX11_carry_2 rfl (Nat.le_of_ble_eq_true rfl) (Nat.le_of_ble_eq_true rfl) (Nat.le_of_ble_eq_true rfl) (Nat.le_of_ble_eq_true rfl) (Nat.le_of_ble_eq_true rfl) rfl rfl (by decide +kernel) rfl (by decide +kernel) (by decide +kernel) ?_
          intro w zq
          refine exL11 zq ?_
          clear zq
          intro d_backAt2_41 d_begin2_42 d_blackAt2_43 d_change2_44 d_changeFrame2_45 d_from2_46 d_lostAt2_47 d_motor2_48 d_slips2_49 d_startFrame2_50 d_there2_51 zq
          subst zq
          refine k_ws [(cO11_i1r1i10r1i2r5i2r12i3r4i2 h0 m_thrown2_1 a_tape m_taped m_size m_at m_end m_token m_whole m_nameSize m_fault m_place m_trouble2_2 a_letters m_failed m_hasHouse a_r a_fresh a_st a_undone a_kept m_undos m_images a_from a_begin a_motor a_change a_startFrame a_changeFrame a_lostAt a_blackAt a_slips a_leftArc a_died a_arcs m_bestSum m_nearest m_nearestTown a_there a_backAt a_sorted a_parts m_seed1 m_darkNow), (cAI g a_r 311 d_r), (cAI g a_st 44 d_st), (cAI g a_from 8 d_from2_46), (cAI g a_begin 8 d_begin2_42), (cAI g a_motor 8 d_motor2_48), (cAI g a_change 8 d_change2_44), (cAI g a_startFrame 8 d_startFrame2_50), (cAI g a_changeFrame 8 d_changeFrame2_45), (cAI g a_lostAt 8 d_lostAt2_47), (cAI g a_blackAt 8 d_blackAt2_43), (cAI g a_slips 8 d_slips2_49), (cAI g a_there 8 d_there2_51), (cAI g a_backAt 4 d_backAt2_41)] rfl ?_
          refine k_iconst (v := 0) X dX11_waits_k2.1.2.1.2 ic_0 ?_
          refine k_istore [(5, .int 0), (4, .int r_4), (0, .ref h0), (1, .int p0), (2, .int p1), (3, .int p2)] X dX11_waits_k2.1.2.2.1 (nlt_e rfl) rfl ?_
          refine k_iload_n X dX11_waits_k2.1.2.2.2 5 rfl ?_
          refine k_istore [(6, .int p2), (5, .int 0), (4, .int r_4), (0, .ref h0), (1, .int p0), (2, .int p1), (3, .int p2)] X dX11_waits_k2.2.1.1.1 (nlt_e rfl) rfl ?_
          refine k_iconst (v := 0) X dX11_waits_k2.2.1.1.2 ic_0 ?_
          refine k_istore [(7, .int 0), (6, .int p2), (5, .int 0), (4, .int r_4), (0, .ref h0), (1, .int p0), (2, .int p1), (3, .int p2)] X dX11_waits_k2.2.1.2.1 (nlt_e rfl) rfl ?_
          refine (fun hL : ∀ (nn_57 : Nat) (u_53 : Int32) (u_54 : Int32) (u_55 : Int32), (2147483647 - u_55.toInt).toNat = nn_57 → (IV u_55 0 8) → Wk p l e _ s m args below meth c _ A g _ _ _ [(cO11_i1r1i10r1i2r5i2r12i3r4i2 h0 m_thrown2_1 a_tape m_taped m_size m_at m_end m_token m_whole m_nameSize m_fault m_place m_trouble2_2 a_letters m_failed m_hasHouse a_r a_fresh a_st a_undone a_kept m_undos m_images a_from a_begin a_motor a_change a_startFrame a_changeFrame a_lostAt a_blackAt a_slips a_leftArc a_died a_arcs m_bestSum m_nearest m_nearestTown a_there a_backAt a_sorted a_parts m_seed1 m_darkNow), (cAI g a_r 311 d_r), (cAI g a_st 44 d_st), (cAI g a_from 8 d_from2_46), (cAI g a_begin 8 d_begin2_42), (cAI g a_motor 8 d_motor2_48), (cAI g a_change 8 d_change2_44), (cAI g a_startFrame 8 d_startFrame2_50), (cAI g a_changeFrame 8 d_changeFrame2_45), (cAI g a_lostAt 8 d_lostAt2_47), (cAI g a_blackAt 8 d_blackAt2_43), (cAI g a_slips 8 d_slips2_49), (cAI g a_there 8 d_there2_51), (cAI g a_backAt 4 d_backAt2_41)] [(7, .int u_55), (6, .int u_54), (5, .int u_53), (4, .int r_4), (0, .ref h0), (1, .int p0), (2, .int p1), (3, .int p2)] 79 [] => hL _ 0 p2 0 rfl (iv_w iq_0_0_0 (zle_e rfl) (zle_e rfl))) ?_
          refine fun nn_57 => Nat.strongRecOn nn_57 (fun nn_57 ih_59 => ?_)
          intro u_53 u_54 u_55 hm_58 hv_56
          refine k_iload X dX11_waits_k2.2.1.2.2 0 rfl ?_
          refine k_aload_n X dX11_waits_k2.2.2.1.1 4 rfl ?_
          refine k_get (ci := 11) X inlX11 rfl 15 (nlt_e rfl) dX11_waits_k2.2.2.1.2 mw170 0 rfl rfl ?_
          refine k_bipush (v := 12) X dX11_waits_k2.2.2.2.1 bi_12 ?_
          refine k_iald X dX11_waits_k2.2.2.2.2 1 rfl (by unfold vp_in; decide) ?_
          refine k_nm (fun z_60 ez_60 => ?_)
          have i_61 : z_60.toInt = (d_r 12).toInt := by rw [ez_60]; rfl
          have iv_62 : IV z_60 0 8 := rb_12 ez_60 hp_d_r
          refine k_ic_ge 135 X dX11_waits_k3.1.1.1.1 (jp_e rfl) (fun h_63 => ?_) (fun h_63 => ?_)
          · skip
            have j_64 : z_60.toInt ≤ u_55.toInt := iv_le h_63
            refine k_iload X dX11_waits_k4.2.2.2.1 2 rfl ?_
            exact k_iret X hr dX11_waits_k4.2.2.2.2 (Nat.le_of_ble_eq_true rfl) (Nat.le_of_ble_eq_true rfl) [0, 1, 2, 3, 4, 5, 6, 7, 8, 9, 10, 11, 12, 13] (vnd_e rfl) rfl rfl (exI12 d_backAt2_41 d_begin2_42 d_blackAt2_43 d_change2_44 d_changeFrame2_45 d_from2_46 d_lostAt2_47 d_motor2_48 d_slips2_49 d_startFrame2_50 d_there2_51 m_thrown2_1 (exI1 m_trouble2_2 rfl))
          · skip
            have j_65 : u_55.toInt < z_60.toInt := iv_nle h_63
            have iv_66 : IV u_55 0 7 := iv_ltL (iv_nle h_63) hv_56 iv_62 (zle_e rfl)
            have iv_67 : IV z_60 1 8 := iv_ltR (iv_nle h_63) hv_56 iv_62 (zle_e rfl)
            refine k_iconst (v := 0) X dX11_waits_k3.1.1.1.2 ic_0 ?_
            refine k_aload_n X dX11_waits_k3.1.1.2.1 4 rfl ?_
            refine k_get (ci := 11) X inlX11 rfl 37 (nlt_e rfl) dX11_waits_k3.1.1.2.2 mw187 0 rfl rfl ?_
            refine k_iload X dX11_waits_k3.1.2.1.1 0 rfl ?_
            refine k_iald X dX11_waits_k3.1.2.1.2 12 rfl (iv_in iv_66 (zle_e rfl) (zle_l rfl)) ?_
            refine k_nm (fun z_68 ez_68 => ?_)
            refine k_aload_n X dX11_waits_k3.1.2.2.1 4 rfl ?_
            refine k_get (ci := 11) X inlX11 rfl 23 (nlt_e rfl) dX11_waits_k3.1.2.2.2 mw176 0 rfl rfl ?_
            refine k_iload X dX11_waits_k3.2.1.1.1 0 rfl ?_
            refine k_iald X dX11_waits_k3.2.1.1.2 4 rfl (iv_in iv_66 (zle_e rfl) (zle_l rfl)) ?_
            refine k_nm (fun z_69 ez_69 => ?_)
            refine k_isub X dX11_waits_k3.2.1.2.1 ?_
            refine k_nm (fun z_70 ez_70 => ?_)
            refine k_iload X dX11_waits_k3.2.1.2.2 1 rfl ?_
            refine k_isub X dX11_waits_k3.2.2.1.1 ?_
            refine k_nm (fun z_72 ez_72 => ?_)
            refine k_callSI (n := 2) (As := [.int 0, .int z_72]) (st := []) X [] [(cO11_i1r1i10r1i2r5i2r12i3r4i2 h0 m_thrown2_1 a_tape m_taped m_size m_at m_end m_token m_whole m_nameSize m_fault m_place m_trouble2_2 a_letters m_failed m_hasHouse a_r a_fresh a_st a_undone a_kept m_undos m_images a_from a_begin a_motor a_change a_startFrame a_changeFrame a_lostAt a_blackAt a_slips a_leftArc a_died a_arcs m_bestSum m_nearest m_nearestTown a_there a_backAt a_sorted a_parts m_seed1 m_darkNow), (cAI g a_r 311 d_r), (cAI g a_st 44 d_st), (cAI g a_from 8 d_from2_46), (cAI g a_begin 8 d_begin2_42), (cAI g a_motor 8 d_motor2_48), (cAI g a_change 8 d_change2_44), (cAI g a_startFrame 8 d_startFrame2_50), (cAI g a_changeFrame 8 d_changeFrame2_45), (cAI g a_lostAt 8 d_lostAt2_47), (cAI g a_blackAt 8 d_blackAt2_43), (cAI g a_slips 8 d_slips2_49), (cAI g a_there 8 d_there2_51), (cAI g a_backAt 4 d_backAt2_41)] [] [0, 1, 2, 3, 4, 5, 6, 7, 8, 9, 10, 11, 12, 13] (m_most l g 0 z_72) dX11_waits_k3.2.2.1.2 mw842 mw843 mw5 mw844 yk_yX11_most_2 rfl (Nat.le_of_ble_eq_true rfl) (Nat.le_of_ble_eq_true rfl) (Nat.le_of_ble_eq_true rfl) (Nat.le_of_ble_eq_true rfl) (Nat.le_of_ble_eq_true rfl) rfl rfl (by decide +kernel) rfl (by decide +kernel) (by decide +kernel) ?_
            rintro r_74 w rfl
            refine k_ws [(cO11_i1r1i10r1i2r5i2r12i3r4i2 h0 m_thrown2_1 a_tape m_taped m_size m_at m_end m_token m_whole m_nameSize m_fault m_place m_trouble2_2 a_letters m_failed m_hasHouse a_r a_fresh a_st a_undone a_kept m_undos m_images a_from a_begin a_motor a_change a_startFrame a_changeFrame a_lostAt a_blackAt a_slips a_leftArc a_died a_arcs m_bestSum m_nearest m_nearestTown a_there a_backAt a_sorted a_parts m_seed1 m_darkNow), (cAI g a_r 311 d_r), (cAI g a_st 44 d_st), (cAI g a_from 8 d_from2_46), (cAI g a_begin 8 d_begin2_42), (cAI g a_motor 8 d_motor2_48), (cAI g a_change 8 d_change2_44), (cAI g a_startFrame 8 d_startFrame2_50), (cAI g a_changeFrame 8 d_changeFrame2_45), (cAI g a_lostAt 8 d_lostAt2_47), (cAI g a_blackAt 8 d_blackAt2_43), (cAI g a_slips 8 d_slips2_49), (cAI g a_there 8 d_there2_51), (cAI g a_backAt 4 d_backAt2_41)] rfl ?_
            refine k_istore [(8, .int r_74), (7, .int u_55), (6, .int u_54), (5, .int u_53), (4, .int r_4), (0, .ref h0), (1, .int p0), (2, .int p1), (3, .int p2)] X dX11_waits_k3.2.2.2.1 (nlt_e rfl) rfl ?_
            refine k_iload X dX11_waits_k3.2.2.2.2 3 rfl ?_
            refine k_iload X dX11_waits_k4.1.1.1 0 rfl ?_
            refine k_iadd X dX11_waits_k4.1.1.2 ?_
            refine k_nm (fun z_75 ez_75 => ?_)
            refine k_istore [(5, .int z_75), (8, .int r_74), (7, .int u_55), (6, .int u_54), (4, .int r_4), (0, .ref h0), (1, .int p0), (2, .int p1), (3, .int p2)] X dX11_waits_k4.1.2.1 (nlt_e rfl) rfl ?_
            refine k_iload X dX11_waits_k4.1.2.2.1 3 rfl ?_
            refine k_iload X dX11_waits_k4.1.2.2.2 1 rfl ?_
            refine k_iadd X dX11_waits_k4.2.1.1 ?_
            refine k_nm (fun z_77 ez_77 => ?_)
            refine k_istore [(6, .int z_77), (5, .int z_75), (8, .int r_74), (7, .int u_55), (4, .int r_4), (0, .ref h0), (1, .int p0), (2, .int p1), (3, .int p2)] X dX11_waits_k4.2.1.2.1 (nlt_e rfl) rfl ?_
            obtain ⟨z_79, ez_79⟩ : ∃ y : Int32, u_55 + Int32.ofInt 1 = y := ⟨_, rfl⟩
            refine k_iinc z_79 [(7, .int z_79), (6, .int z_77), (5, .int z_75), (8, .int r_74), (4, .int r_4), (0, .ref h0), (1, .int p0), (2, .int p1), (3, .int p2)] 3 X dX11_waits_k4.2.1.2.2 rfl ez_79 (nlt_e rfl) rfl ?_
            have i_80 : z_79.toInt = u_55.toInt + 1 := in_inc ez_79 (oin_e rfl) iv_66 (zle_e rfl) (zle_e rfl)
            have iv_81 : IV z_79 1 8 := iz1 i_80 iv_66 (zle_e rfl) (zle_e rfl)
            refine k_goto 79 X dX11_waits_k4.2.2.1 (jp_e rfl) ?_
            refine k_lv [(7, .int z_79), (6, .int z_77), (5, .int z_75), (4, .int r_4), (0, .ref h0), (1, .int p0), (2, .int p1), (3, .int p2)] [0, 1, 2, 4, 5, 6, 7, 8] rfl ?_
            exact ih_59 _ (by omega) z_75 z_77 z_79 rfl (iv_w iv_81 (zle_e rfl) (zle_e rfl))
        · skip
          have iv_82 : IV p1 0 0 := iv_meet iv_26 (iv_e h_39 iq_0_0_0) (zle_o rfl) (zle_o rfl)
          refine k_aload_n X dX11_waits_k1.2.2.2.1 1 rfl ?_
          refine k_get (ci := 11) X inlX11 rfl 15 (nlt_e rfl) dX11_waits_k1.2.2.2.2 mw170 12 rfl rfl ?_
          refine k_sipush (v := 134) X dX11_waits_k2.1.1.1.1 si_134 ?_
          refine k_iald X dX11_waits_k2.1.1.1.2 13 rfl (by unfold vp_in; decide) ?_
          refine k_nm (fun z_83 ez_83 => ?_)
          have i_84 : z_83.toInt = (d_r 134).toInt := by rw [ez_83]; rfl
          have iv_85 : IV z_83 0 4 := rb_134 ez_83 hp_d_r
          refine k_goto 67 X dX11_waits_k2.1.1.2.1 (jp_e rfl) ?_
          refine k_callVV (n := 2) (As := [.int p0, .int z_83]) (st := []) X [(cO11_i1r1i10r1i2r5i2r12i3r4i2 h0 m_thrown2_1 a_tape m_taped m_size m_at m_end m_token m_whole m_nameSize m_fault m_place m_trouble2_2 a_letters m_failed m_hasHouse a_r a_fresh a_st a_undone a_kept m_undos m_images a_from a_begin a_motor a_change a_startFrame a_changeFrame a_lostAt a_blackAt a_slips a_leftArc a_died a_arcs m_bestSum m_nearest m_nearestTown a_there a_backAt a_sorted a_parts m_seed1 m_darkNow), (cAI g a_r 311 d_r), (cAI g a_st 44 d_st), (cAI g a_from 8 d_from), (cAI g a_begin 8 d_begin), (cAI g a_motor 8 d_motor), (cAI g a_change 8 d_change), (cAI g a_startFrame 8 d_startFrame), (cAI g a_changeFrame 8 d_changeFrame), (cAI g a_lostAt 8 d_lostAt), (cAI g a_blackAt 8 d_blackAt), (cAI g a_slips 8 d_slips), (cAI g a_there 8 d_there), (cAI g a_backAt 4 d_backAt)] [] [12, 13, 0, 1, 2, 3, 4, 5, 6, 7, 8, 9, 10, 11] [] (m_carry l g h0 p0 z_83 m_thrown2_1 a_tape m_taped m_size m_at m_end m_token m_whole m_nameSize m_fault m_place m_trouble2_2 a_letters m_failed m_hasHouse a_r a_fresh a_st a_undone a_kept m_undos m_images a_from a_begin a_motor a_change a_startFrame a_changeFrame a_lostAt a_blackAt a_slips a_leftArc a_died a_arcs m_bestSum m_nearest m_nearestTown a_there a_backAt a_sorted a_parts m_seed1 m_darkNow d_r d_st d_from d_begin d_motor d_change d_startFrame d_changeFrame d_lostAt d_blackAt d_slips d_there d_backAt (iv_w iv_10 (zle_e rfl) (zle_e rfl)) (iv_w iv_85 (zle_e rfl) (zle_e rfl)) hp_d_r) dX11_waits_k2.1.2.1.1 mw1323 mw1324 mw1325 mw5 mw1326 rfl 11 rfl rfl 0 _ rfl yk_yX11_carry_2 rfl (Nat.le_of_ble_eq_true rfl) (Nat.le_of_ble_eq_true rfl) (Nat.le_of_ble_eq_true rfl) (Nat.le_of_ble_eq_true rfl) (Nat.le_of_ble_eq_true rfl) rfl rfl (by decide +kernel) rfl (by decide +kernel) (by decide +kernel) ?_
          intro w zq
          refine exL11 zq ?_
          clear zq
          intro d_backAt2_86 d_begin2_87 d_blackAt2_88 d_change2_89 d_changeFrame2_90 d_from2_91 d_lostAt2_92 d_motor2_93 d_slips2_94 d_startFrame2_95 d_there2_96 zq
          subst zq
          refine k_ws [(cO11_i1r1i10r1i2r5i2r12i3r4i2 h0 m_thrown2_1 a_tape m_taped m_size m_at m_end m_token m_whole m_nameSize m_fault m_place m_trouble2_2 a_letters m_failed m_hasHouse a_r a_fresh a_st a_undone a_kept m_undos m_images a_from a_begin a_motor a_change a_startFrame a_changeFrame a_lostAt a_blackAt a_slips a_leftArc a_died a_arcs m_bestSum m_nearest m_nearestTown a_there a_backAt a_sorted a_parts m_seed1 m_darkNow), (cAI g a_r 311 d_r), (cAI g a_st 44 d_st), (cAI g a_from 8 d_from2_91), (cAI g a_begin 8 d_begin2_87), (cAI g a_motor 8 d_motor2_93), (cAI g a_change 8 d_change2_89), (cAI g a_startFrame 8 d_startFrame2_95), (cAI g a_changeFrame 8 d_changeFrame2_90), (cAI g a_lostAt 8 d_lostAt2_92), (cAI g a_blackAt 8 d_blackAt2_88), (cAI g a_slips 8 d_slips2_94), (cAI g a_there 8 d_there2_96), (cAI g a_backAt 4 d_backAt2_86)] rfl ?_
          refine k_iconst (v := 0) X dX11_waits_k2.1.2.1.2 ic_0 ?_
          refine k_istore [(5, .int 0), (4, .int r_4), (0, .ref h0), (1, .int p0), (2, .int p1), (3, .int p2)] X dX11_waits_k2.1.2.2.1 (nlt_e rfl) rfl ?_
          refine k_iload_n X dX11_waits_k2.1.2.2.2 5 rfl ?_
          refine k_istore [(6, .int p2), (5, .int 0), (4, .int r_4), (0, .ref h0), (1, .int p0), (2, .int p1), (3, .int p2)] X dX11_waits_k2.2.1.1.1 (nlt_e rfl) rfl ?_
          refine k_iconst (v := 0) X dX11_waits_k2.2.1.1.2 ic_0 ?_
          refine k_istore [(7, .int 0), (6, .int p2), (5, .int 0), (4, .int r_4), (0, .ref h0), (1, .int p0), (2, .int p1), (3, .int p2)] X dX11_waits_k2.2.1.2.1 (nlt_e rfl) rfl ?_
          refine (fun hL : ∀ (nn_102 : Nat) (u_98 : Int32) (u_99 : Int32) (u_100 : Int32), (2147483647 - u_100.toInt).toNat = nn_102 → (IV u_100 0 8) → Wk p l e _ s m args below meth c _ A g _ _ _ [(cO11_i1r1i10r1i2r5i2r12i3r4i2 h0 m_thrown2_1 a_tape m_taped m_size m_at m_end m_token m_whole m_nameSize m_fault m_place m_trouble2_2 a_letters m_failed m_hasHouse a_r a_fresh a_st a_undone a_kept m_undos m_images a_from a_begin a_motor a_change a_startFrame a_changeFrame a_lostAt a_blackAt a_slips a_leftArc a_died a_arcs m_bestSum m_nearest m_nearestTown a_there a_backAt a_sorted a_parts m_seed1 m_darkNow), (cAI g a_r 311 d_r), (cAI g a_st 44 d_st), (cAI g a_from 8 d_from2_91), (cAI g a_begin 8 d_begin2_87), (cAI g a_motor 8 d_motor2_93), (cAI g a_change 8 d_change2_89), (cAI g a_startFrame 8 d_startFrame2_95), (cAI g a_changeFrame 8 d_changeFrame2_90), (cAI g a_lostAt 8 d_lostAt2_92), (cAI g a_blackAt 8 d_blackAt2_88), (cAI g a_slips 8 d_slips2_94), (cAI g a_there 8 d_there2_96), (cAI g a_backAt 4 d_backAt2_86)] [(7, .int u_100), (6, .int u_99), (5, .int u_98), (4, .int r_4), (0, .ref h0), (1, .int p0), (2, .int p1), (3, .int p2)] 79 [] => hL _ 0 p2 0 rfl (iv_w iq_0_0_0 (zle_e rfl) (zle_e rfl))) ?_
          refine fun nn_102 => Nat.strongRecOn nn_102 (fun nn_102 ih_104 => ?_)
          intro u_98 u_99 u_100 hm_103 hv_101
          refine k_iload X dX11_waits_k2.2.1.2.2 0 rfl ?_
          refine k_aload_n X dX11_waits_k2.2.2.1.1 4 rfl ?_
          refine k_get (ci := 11) X inlX11 rfl 15 (nlt_e rfl) dX11_waits_k2.2.2.1.2 mw170 0 rfl rfl ?_
          refine k_bipush (v := 12) X dX11_waits_k2.2.2.2.1 bi_12 ?_
          refine k_iald X dX11_waits_k2.2.2.2.2 1 rfl (by unfold vp_in; decide) ?_
          refine k_nm (fun z_105 ez_105 => ?_)
          have i_106 : z_105.toInt = (d_r 12).toInt := by rw [ez_105]; rfl
          have iv_107 : IV z_105 0 8 := rb_12 ez_105 hp_d_r
          refine k_ic_ge 135 X dX11_waits_k3.1.1.1.1 (jp_e rfl) (fun h_108 => ?_) (fun h_108 => ?_)
          · skip
            have j_109 : z_105.toInt ≤ u_100.toInt := iv_le h_108
            refine k_iload X dX11_waits_k4.2.2.2.1 2 rfl ?_
            exact k_iret X hr dX11_waits_k4.2.2.2.2 (Nat.le_of_ble_eq_true rfl) (Nat.le_of_ble_eq_true rfl) [0, 1, 2, 3, 4, 5, 6, 7, 8, 9, 10, 11, 12, 13] (vnd_e rfl) rfl rfl (exI12 d_backAt2_86 d_begin2_87 d_blackAt2_88 d_change2_89 d_changeFrame2_90 d_from2_91 d_lostAt2_92 d_motor2_93 d_slips2_94 d_startFrame2_95 d_there2_96 m_thrown2_1 (exI1 m_trouble2_2 rfl))
          · skip
            have j_110 : u_100.toInt < z_105.toInt := iv_nle h_108
            have iv_111 : IV u_100 0 7 := iv_ltL (iv_nle h_108) hv_101 iv_107 (zle_e rfl)
            have iv_112 : IV z_105 1 8 := iv_ltR (iv_nle h_108) hv_101 iv_107 (zle_e rfl)
            refine k_iconst (v := 0) X dX11_waits_k3.1.1.1.2 ic_0 ?_
            refine k_aload_n X dX11_waits_k3.1.1.2.1 4 rfl ?_
            refine k_get (ci := 11) X inlX11 rfl 37 (nlt_e rfl) dX11_waits_k3.1.1.2.2 mw187 0 rfl rfl ?_
            refine k_iload X dX11_waits_k3.1.2.1.1 0 rfl ?_
            refine k_iald X dX11_waits_k3.1.2.1.2 12 rfl (iv_in iv_111 (zle_e rfl) (zle_l rfl)) ?_
            refine k_nm (fun z_113 ez_113 => ?_)
            refine k_aload_n X dX11_waits_k3.1.2.2.1 4 rfl ?_
            refine k_get (ci := 11) X inlX11 rfl 23 (nlt_e rfl) dX11_waits_k3.1.2.2.2 mw176 0 rfl rfl ?_
            refine k_iload X dX11_waits_k3.2.1.1.1 0 rfl ?_
            refine k_iald X dX11_waits_k3.2.1.1.2 4 rfl (iv_in iv_111 (zle_e rfl) (zle_l rfl)) ?_
            refine k_nm (fun z_114 ez_114 => ?_)
            refine k_isub X dX11_waits_k3.2.1.2.1 ?_
            refine k_nm (fun z_115 ez_115 => ?_)
            refine k_iload X dX11_waits_k3.2.1.2.2 1 rfl ?_
            refine k_isub X dX11_waits_k3.2.2.1.1 ?_
            refine k_nm (fun z_117 ez_117 => ?_)
            refine k_callSI (n := 2) (As := [.int 0, .int z_117]) (st := []) X [] [(cO11_i1r1i10r1i2r5i2r12i3r4i2 h0 m_thrown2_1 a_tape m_taped m_size m_at m_end m_token m_whole m_nameSize m_fault m_place m_trouble2_2 a_letters m_failed m_hasHouse a_r a_fresh a_st a_undone a_kept m_undos m_images a_from a_begin a_motor a_change a_startFrame a_changeFrame a_lostAt a_blackAt a_slips a_leftArc a_died a_arcs m_bestSum m_nearest m_nearestTown a_there a_backAt a_sorted a_parts m_seed1 m_darkNow), (cAI g a_r 311 d_r), (cAI g a_st 44 d_st), (cAI g a_from 8 d_from2_91), (cAI g a_begin 8 d_begin2_87), (cAI g a_motor 8 d_motor2_93), (cAI g a_change 8 d_change2_89), (cAI g a_startFrame 8 d_startFrame2_95), (cAI g a_changeFrame 8 d_changeFrame2_90), (cAI g a_lostAt 8 d_lostAt2_92), (cAI g a_blackAt 8 d_blackAt2_88), (cAI g a_slips 8 d_slips2_94), (cAI g a_there 8 d_there2_96), (cAI g a_backAt 4 d_backAt2_86)] [] [0, 1, 2, 3, 4, 5, 6, 7, 8, 9, 10, 11, 12, 13] (m_most l g 0 z_117) dX11_waits_k3.2.2.1.2 mw842 mw843 mw5 mw844 yk_yX11_most_2 rfl (Nat.le_of_ble_eq_true rfl) (Nat.le_of_ble_eq_true rfl) (Nat.le_of_ble_eq_true rfl) (Nat.le_of_ble_eq_true rfl) (Nat.le_of_ble_eq_true rfl) rfl rfl (by decide +kernel) rfl (by decide +kernel) (by decide +kernel) ?_
            rintro r_119 w rfl
            refine k_ws [(cO11_i1r1i10r1i2r5i2r12i3r4i2 h0 m_thrown2_1 a_tape m_taped m_size m_at m_end m_token m_whole m_nameSize m_fault m_place m_trouble2_2 a_letters m_failed m_hasHouse a_r a_fresh a_st a_undone a_kept m_undos m_images a_from a_begin a_motor a_change a_startFrame a_changeFrame a_lostAt a_blackAt a_slips a_leftArc a_died a_arcs m_bestSum m_nearest m_nearestTown a_there a_backAt a_sorted a_parts m_seed1 m_darkNow), (cAI g a_r 311 d_r), (cAI g a_st 44 d_st), (cAI g a_from 8 d_from2_91), (cAI g a_begin 8 d_begin2_87), (cAI g a_motor 8 d_motor2_93), (cAI g a_change 8 d_change2_89), (cAI g a_startFrame 8 d_startFrame2_95), (cAI g a_changeFrame 8 d_changeFrame2_90), (cAI g a_lostAt 8 d_lostAt2_92), (cAI g a_blackAt 8 d_blackAt2_88), (cAI g a_slips 8 d_slips2_94), (cAI g a_there 8 d_there2_96), (cAI g a_backAt 4 d_backAt2_86)] rfl ?_
            refine k_istore [(8, .int r_119), (7, .int u_100), (6, .int u_99), (5, .int u_98), (4, .int r_4), (0, .ref h0), (1, .int p0), (2, .int p1), (3, .int p2)] X dX11_waits_k3.2.2.2.1 (nlt_e rfl) rfl ?_
            refine k_iload X dX11_waits_k3.2.2.2.2 3 rfl ?_
            refine k_iload X dX11_waits_k4.1.1.1 0 rfl ?_
            refine k_iadd X dX11_waits_k4.1.1.2 ?_
            refine k_nm (fun z_120 ez_120 => ?_)
            refine k_istore [(5, .int z_120), (8, .int r_119), (7, .int u_100), (6, .int u_99), (4, .int r_4), (0, .ref h0), (1, .int p0), (2, .int p1), (3, .int p2)] X dX11_waits_k4.1.2.1 (nlt_e rfl) rfl ?_
            refine k_iload X dX11_waits_k4.1.2.2.1 3 rfl ?_
            refine k_iload X dX11_waits_k4.1.2.2.2 1 rfl ?_
            refine k_iadd X dX11_waits_k4.2.1.1 ?_
            refine k_nm (fun z_122 ez_122 => ?_)
            refine k_istore [(6, .int z_122), (5, .int z_120), (8, .int r_119), (7, .int u_100), (4, .int r_4), (0, .ref h0), (1, .int p0), (2, .int p1), (3, .int p2)] X dX11_waits_k4.2.1.2.1 (nlt_e rfl) rfl ?_
            obtain ⟨z_124, ez_124⟩ : ∃ y : Int32, u_100 + Int32.ofInt 1 = y := ⟨_, rfl⟩
            refine k_iinc z_124 [(7, .int z_124), (6, .int z_122), (5, .int z_120), (8, .int r_119), (4, .int r_4), (0, .ref h0), (1, .int p0), (2, .int p1), (3, .int p2)] 3 X dX11_waits_k4.2.1.2.2 rfl ez_124 (nlt_e rfl) rfl ?_
            have i_125 : z_124.toInt = u_100.toInt + 1 := in_inc ez_124 (oin_e rfl) iv_111 (zle_e rfl) (zle_e rfl)
            have iv_126 : IV z_124 1 8 := iz1 i_125 iv_111 (zle_e rfl) (zle_e rfl)
            refine k_goto 79 X dX11_waits_k4.2.2.1 (jp_e rfl) ?_
            refine k_lv [(7, .int z_124), (6, .int z_122), (5, .int z_120), (4, .int r_4), (0, .ref h0), (1, .int p0), (2, .int p1), (3, .int p2)] [0, 1, 2, 4, 5, 6, 7, 8] rfl ?_
            exact ih_104 _ (by omega) z_120 z_122 z_124 rfl (iv_w iv_126 (zle_e rfl) (zle_e rfl))
      · skip
        have iv_127 : IV r_28 0 0 := iv_meet iv_29 (iv_e h_32 iq_0_0_0) (zle_o rfl) (zle_o rfl)
        have hc_128 := hk_31 (iv_eq iv_127 iq_0_0_0)
        have j_129 : p2.toInt < 0 ∨ 9999 < p2.toInt := hc_128
        refine k_aload_n X dX11_waits_k1.1.2.2.1 1 rfl ?_
        refine k_iconst (v := 2) X dX11_waits_k1.1.2.2.2 ic_2 ?_
        refine k_callVI (n := 1) (As := [.int 2]) (st := []) X [(cO11_i1r1i10r1i2r5i2r12i3r4i2 h0 m_thrown2_1 a_tape m_taped m_size m_at m_end m_token m_whole m_nameSize m_fault m_place m_trouble2_2 a_letters m_failed m_hasHouse a_r a_fresh a_st a_undone a_kept m_undos m_images a_from a_begin a_motor a_change a_startFrame a_changeFrame a_lostAt a_blackAt a_slips a_leftArc a_died a_arcs m_bestSum m_nearest m_nearestTown a_there a_backAt a_sorted a_parts m_seed1 m_darkNow)] [(cAI g a_st 44 d_st), (cAI g a_from 8 d_from), (cAI g a_begin 8 d_begin), (cAI g a_motor 8 d_motor), (cAI g a_change 8 d_change), (cAI g a_startFrame 8 d_startFrame), (cAI g a_changeFrame 8 d_changeFrame), (cAI g a_lostAt 8 d_lostAt), (cAI g a_blackAt 8 d_blackAt), (cAI g a_slips 8 d_slips), (cAI g a_there 8 d_there), (cAI g a_backAt 4 d_backAt), (cAI g a_r 311 d_r)] [12] [0, 1, 2, 3, 4, 5, 6, 7, 8, 9, 10, 11, 13] (m_no l g h0 2 m_thrown2_1 a_tape m_taped m_size m_at m_end m_token m_whole m_nameSize m_fault m_place m_trouble2_2 a_letters m_failed m_hasHouse a_r a_fresh a_st a_undone a_kept m_undos m_images a_from a_begin a_motor a_change a_startFrame a_changeFrame a_lostAt a_blackAt a_slips a_leftArc a_died a_arcs m_bestSum m_nearest m_nearestTown a_there a_backAt a_sorted a_parts m_seed1 m_darkNow) dX11_waits_k1.2.1.1.1 mw485 mw486 mw487 mw5 mw488 rfl 11 rfl rfl 0 _ rfl yk_yX11_no_1 rfl (Nat.le_of_ble_eq_true rfl) (Nat.le_of_ble_eq_true rfl) (Nat.le_of_ble_eq_true rfl) (Nat.le_of_ble_eq_true rfl) (Nat.le_of_ble_eq_true rfl) rfl rfl (by decide +kernel) rfl (by decide +kernel) (by decide +kernel) ?_
        rintro r_131 w ⟨m_trouble2_130, iv_132, rfl⟩
        refine k_ws [(cAI g a_st 44 d_st), (cAI g a_from 8 d_from), (cAI g a_begin 8 d_begin), (cAI g a_motor 8 d_motor), (cAI g a_change 8 d_change), (cAI g a_startFrame 8 d_startFrame), (cAI g a_changeFrame 8 d_changeFrame), (cAI g a_lostAt 8 d_lostAt), (cAI g a_blackAt 8 d_blackAt), (cAI g a_slips 8 d_slips), (cAI g a_there 8 d_there), (cAI g a_backAt 4 d_backAt), (cAI g a_r 311 d_r), (cO11_i1r1i10r1i2r5i2r12i3r4i2 h0 m_thrown2_1 a_tape m_taped m_size m_at m_end m_token m_whole m_nameSize m_fault m_place m_trouble2_130 a_letters m_failed m_hasHouse a_r a_fresh a_st a_undone a_kept m_undos m_images a_from a_begin a_motor a_change a_startFrame a_changeFrame a_lostAt a_blackAt a_slips a_leftArc a_died a_arcs m_bestSum m_nearest m_nearestTown a_there a_backAt a_sorted a_parts m_seed1 m_darkNow)] rfl ?_
        exact k_iret X hr dX11_waits_k1.2.1.1.2 (Nat.le_of_ble_eq_true rfl) (Nat.le_of_ble_eq_true rfl) [13, 12, 0, 1, 2, 3, 4, 5, 6, 7, 8, 9, 10, 11] (vnd_e rfl) rfl rfl (exI12 d_backAt d_begin d_blackAt d_change d_changeFrame d_from d_lostAt d_motor d_slips d_startFrame d_there m_thrown2_1 (exI1 m_trouble2_130 rfl))
  · skip
    have iv_133 : IV r_4 1 6 := iv_neL h_7 iv_5 iq_0_0_0 (zle_e rfl)
    refine k_aload_n X dX11_waits_k0.2.1.1.1 1 rfl ?_
    refine k_iload X dX11_waits_k0.2.1.1.2 0 rfl ?_
    refine k_callVI (n := 1) (As := [.int r_4]) (st := []) X [(cO11_i1r1i10r1i2r5i2r12i3r4i2 h0 m_thrown2_1 a_tape m_taped m_size m_at m_end m_token m_whole m_nameSize m_fault m_place m_trouble2_2 a_letters m_failed m_hasHouse a_r a_fresh a_st a_undone a_kept m_undos m_images a_from a_begin a_motor a_change a_startFrame a_changeFrame a_lostAt a_blackAt a_slips a_leftArc a_died a_arcs m_bestSum m_nearest m_nearestTown a_there a_backAt a_sorted a_parts m_seed1 m_darkNow)] [(cAI g a_st 44 d_st), (cAI g a_from 8 d_from), (cAI g a_begin 8 d_begin), (cAI g a_motor 8 d_motor), (cAI g a_change 8 d_change), (cAI g a_startFrame 8 d_startFrame), (cAI g a_changeFrame 8 d_changeFrame), (cAI g a_lostAt 8 d_lostAt), (cAI g a_blackAt 8 d_blackAt), (cAI g a_slips 8 d_slips), (cAI g a_there 8 d_there), (cAI g a_backAt 4 d_backAt), (cAI g a_r 311 d_r)] [12] [0, 1, 2, 3, 4, 5, 6, 7, 8, 9, 10, 11, 13] (m_no l g h0 r_4 m_thrown2_1 a_tape m_taped m_size m_at m_end m_token m_whole m_nameSize m_fault m_place m_trouble2_2 a_letters m_failed m_hasHouse a_r a_fresh a_st a_undone a_kept m_undos m_images a_from a_begin a_motor a_change a_startFrame a_changeFrame a_lostAt a_blackAt a_slips a_leftArc a_died a_arcs m_bestSum m_nearest m_nearestTown a_there a_backAt a_sorted a_parts m_seed1 m_darkNow) dX11_waits_k0.2.1.2.1 mw485 mw486 mw487 mw5 mw488 rfl 11 rfl rfl 0 _ rfl yk_yX11_no_1 rfl (Nat.le_of_ble_eq_true rfl) (Nat.le_of_ble_eq_true rfl) (Nat.le_of_ble_eq_true rfl) (Nat.le_of_ble_eq_true rfl) (Nat.le_of_ble_eq_true rfl) rfl rfl (by decide +kernel) rfl (by decide +kernel) (by decide +kernel) ?_
    rintro r_135 w ⟨m_trouble2_134, iv_136, rfl⟩
    refine k_ws [(cAI g a_st 44 d_st), (cAI g a_from 8 d_from), (cAI g a_begin 8 d_begin), (cAI g a_motor 8 d_motor), (cAI g a_change 8 d_change), (cAI g a_startFrame 8 d_startFrame), (cAI g a_changeFrame 8 d_changeFrame), (cAI g a_lostAt 8 d_lostAt), (cAI g a_blackAt 8 d_blackAt), (cAI g a_slips 8 d_slips), (cAI g a_there 8 d_there), (cAI g a_backAt 4 d_backAt), (cAI g a_r 311 d_r), (cO11_i1r1i10r1i2r5i2r12i3r4i2 h0 m_thrown2_1 a_tape m_taped m_size m_at m_end m_token m_whole m_nameSize m_fault m_place m_trouble2_134 a_letters m_failed m_hasHouse a_r a_fresh a_st a_undone a_kept m_undos m_images a_from a_begin a_motor a_change a_startFrame a_changeFrame a_lostAt a_blackAt a_slips a_leftArc a_died a_arcs m_bestSum m_nearest m_nearestTown a_there a_backAt a_sorted a_parts m_seed1 m_darkNow)] rfl ?_
    exact k_iret X hr dX11_waits_k0.2.1.2.2 (Nat.le_of_ble_eq_true rfl) (Nat.le_of_ble_eq_true rfl) [13, 12, 0, 1, 2, 3, 4, 5, 6, 7, 8, 9, 10, 11] (vnd_e rfl) rfl rfl (exI12 d_backAt d_begin d_blackAt d_change d_changeFrame d_from d_lostAt d_motor d_slips d_startFrame d_there m_thrown2_1 (exI1 m_trouble2_134 rfl))

theorem dX11_well_k0 : ((((dD cX11_well 0 (.aload_n 0) 1 ∧ dD cX11_well 1 (.invokevirtual 200) 3) ∧ (dD cX11_well 4 (.aload_n 0) 1 ∧ dD cX11_well 5 (.getfield 213) 3)) ∧ ((dD cX11_well 8 (.ifCond .ne 10) 3 ∧ dD cX11_well 11 (.aload_n 0) 1) ∧ (dD cX11_well 12 (.iconst 1) 1 ∧ dD cX11_well 13 (.invokevirtual 203) 3))) ∧ (((dD cX11_well 16 .i2l 1 ∧ dD cX11_well 17 .lreturn 1) ∧ (dD cX11_well 18 (.aload_n 0) 1 ∧ dD cX11_well 19 (.getfield 20) 3)) ∧ ((dD cX11_well 22 (.sipush 134) 3 ∧ dD cX11_well 25 .iaload 1) ∧ (dD cX11_well 26 (.ifCond .ne 11) 3 ∧ dD cX11_well 29 (.aload_n 0) 1)))) := dkA16 (by decide +kernel)
theorem dX11_well_k1 : ((((dD cX11_well 30 (.bipush 6) 2 ∧ dD cX11_well 32 (.invokevirtual 203) 3) ∧ (dD cX11_well 35 .i2l 1 ∧ dD cX11_well 36 .lreturn 1)) ∧ ((dD cX11_well 37 (.bipush 100) 2 ∧ dD cX11_well 39 (.aload_n 0) 1) ∧ (dD cX11_well 40 (.getfield 20) 3 ∧ dD cX11_well 43 (.sipush 136) 3))) ∧ (((dD cX11_well 46 .iaload 1 ∧ dD cX11_well 47 .isub 1) ∧ (dD cX11_well 48 (.aload_n 0) 1 ∧ dD cX11_well 49 (.getfield 20) 3)) ∧ ((dD cX11_well 52 (.bipush 12) 2 ∧ dD cX11_well 54 .iaload 1) ∧ (dD cX11_well 55 (.invokestatic 415) 3 ∧ dD cX11_well 58 (.bipush 100) 2)))) := dkA16 (by decide +kernel)
theorem dX11_well_k2 : (((dD cX11_well 60 (.aload_n 0) 1 ∧ dD cX11_well 61 (.getfield 20) 3) ∧ (dD cX11_well 64 (.bipush 12) 2 ∧ dD cX11_well 66 .iaload 1)) ∧ ((dD cX11_well 67 (.invokestatic 415) 3 ∧ dD cX11_well 70 (.iload_n 1) 1) ∧ (dD cX11_well 71 (.invokestatic 408) 3 ∧ dD cX11_well 74 .lreturn 1))) := dkA8 (by decide +kernel)
set_option maxHeartbeats 4000000 in
set_option maxRecDepth 100000 in
theorem m_well (l : Launch) (g : Gx) (h0 : Nat) (p0 : Int32) (m_thrown : Int32) (a_tape : Nat) (m_taped : Int32) (m_size : Int32) (m_at : Int32) (m_end : Int32) (m_token : Int32) (m_whole : Int32) (m_nameSize : Int32) (m_fault : Int32) (m_place : Int32) (m_trouble : Int32) (a_letters : Nat) (m_failed : Int32) (m_hasHouse : Int32) (a_r : Nat) (a_fresh : Nat) (a_st : Nat) (a_undone : Nat) (a_kept : Nat) (m_undos : Int32) (m_images : Int32) (a_from : Nat) (a_begin : Nat) (a_motor : Nat) (a_change : Nat) (a_startFrame : Nat) (a_changeFrame : Nat) (a_lostAt : Nat) (a_blackAt : Nat) (a_slips : Nat) (a_leftArc : Nat) (a_died : Nat) (a_arcs : Nat) (m_bestSum : Int32) (m_nearest : Int32) (m_nearestTown : Int32) (a_there : Nat) (a_backAt : Nat) (a_sorted : Nat) (a_parts : Nat) (m_seed1 : Int32) (m_darkNow : Int32) (d_r : Nat → Int32) (hv_m_hasHouse : IV m_hasHouse 0 1) (hp_d_r : RInv d_r) : cL l g yX11_well cX11_well 2 (some .long) 1 30 0 0 [.ref h0, .int p0] [(cO11_i1r1i10r1i2r5i2r12i3r4i2 h0 m_thrown a_tape m_taped m_size m_at m_end m_token m_whole m_nameSize m_fault m_place m_trouble a_letters m_failed m_hasHouse a_r a_fresh a_st a_undone a_kept m_undos m_images a_from a_begin a_motor a_change a_startFrame a_changeFrame a_lostAt a_blackAt a_slips a_leftArc a_died a_arcs m_bestSum m_nearest m_nearestTown a_there a_backAt a_sorted a_parts m_seed1 m_darkNow), (cAI g a_r 311 d_r)] (fun r w => ∃ (m_thrown2 : Int32) (m_trouble2 : Int32), w = [(cO11_i1r1i10r1i2r5i2r12i3r4i2 h0 m_thrown2 a_tape m_taped m_size m_at m_end m_token m_whole m_nameSize m_fault m_place m_trouble2 a_letters m_failed m_hasHouse a_r a_fresh a_st a_undone a_kept m_undos m_images a_from a_begin a_motor a_change a_startFrame a_changeFrame a_lostAt a_blackAt a_slips a_leftArc a_died a_arcs m_bestSum m_nearest m_nearestTown a_there a_backAt a_sorted a_parts m_seed1 m_darkNow), (cAI g a_r 311 d_r)]) := by
  refine cL.of (by decide) (Nat.le_of_ble_eq_true rfl) ?_
  intro p e s m args below meth c A X hr hi
  refine k_lveq [(0, .ref h0), (1, .int p0)] rfl ?_
  refine k_aload_n X dX11_well_k0.1.1.1.1 0 rfl ?_
  refine k_callVV (n := 0) (As := []) (st := []) X [(cO11_i1r1i10r1i2r5i2r12i3r4i2 h0 m_thrown a_tape m_taped m_size m_at m_end m_token m_whole m_nameSize m_fault m_place m_trouble a_letters m_failed m_hasHouse a_r a_fresh a_st a_undone a_kept m_undos m_images a_from a_begin a_motor a_change a_startFrame a_changeFrame a_lostAt a_blackAt a_slips a_leftArc a_died a_arcs m_bestSum m_nearest m_nearestTown a_there a_backAt a_sorted a_parts m_seed1 m_darkNow)] [(cAI g a_r 311 d_r)] [0] [1] (m_good l g h0 m_thrown a_tape m_taped m_size m_at m_end m_token m_whole m_nameSize m_fault m_place m_trouble a_letters m_failed m_hasHouse a_r a_fresh a_st a_undone a_kept m_undos m_images a_from a_begin a_motor a_change a_startFrame a_changeFrame a_lostAt a_blackAt a_slips a_leftArc a_died a_arcs m_bestSum m_nearest m_nearestTown a_there a_backAt a_sorted a_parts m_seed1 m_darkNow) dX11_well_k0.1.1.1.2 mw477 mw478 mw479 mw5 mw480 rfl 11 rfl rfl 0 _ rfl yk_yX11_good_0 rfl (Nat.le_of_ble_eq_true rfl) (Nat.le_of_ble_eq_true rfl) (Nat.le_of_ble_eq_true rfl) (Nat.le_of_ble_eq_true rfl) (Nat.le_of_ble_eq_true rfl) rfl rfl (vnd_e rfl) rfl (vnd_e rfl) (dsj_e rfl) ?_
  rintro w ⟨m_thrown2_1, m_trouble2_2, rfl⟩
  refine k_ws [(cAI g a_r 311 d_r), (cO11_i1r1i10r1i2r5i2r12i3r4i2 h0 m_thrown2_1 a_tape m_taped m_size m_at m_end m_token m_whole m_nameSize m_fault m_place m_trouble2_2 a_letters m_failed m_hasHouse a_r a_fresh a_st a_undone a_kept m_undos m_images a_from a_begin a_motor a_change a_startFrame a_changeFrame a_lostAt a_blackAt a_slips a_leftArc a_died a_arcs m_bestSum m_nearest m_nearestTown a_there a_backAt a_sorted a_parts m_seed1 m_darkNow)] rfl ?_
  refine k_aload_n X dX11_well_k0.1.1.2.1 0 rfl ?_
  refine k_get (ci := 11) X inlX11 rfl 14 (nlt_e rfl) dX11_well_k0.1.1.2.2 mw474 1 rfl rfl ?_
  refine k_if_ne 18 X dX11_well_k0.1.2.1.1 (jp_e rfl) (fun h_4 => ?_) (fun h_4 => ?_)
  · skip
    have iv_5 : IV m_hasHouse 1 1 := iv_neL h_4 hv_m_hasHouse iq_0_0_0 (zle_e rfl)
    refine k_aload_n X dX11_well_k0.2.1.2.1 0 rfl ?_
    refine k_get (ci := 11) X inlX11 rfl 15 (nlt_e rfl) dX11_well_k0.2.1.2.2 mw170 1 rfl rfl ?_
    refine k_sipush (v := 134) X dX11_well_k0.2.2.1.1 si_134 ?_
    refine k_iald X dX11_well_k0.2.2.1.2 0 rfl (by unfold vp_in; decide) ?_
    refine k_nm (fun z_6 ez_6 => ?_)
    have i_7 : z_6.toInt = (d_r 134).toInt := by rw [ez_6]; rfl
    have iv_8 : IV z_6 0 4 := rb_134 ez_6 hp_d_r
    refine k_if_ne 37 X dX11_well_k0.2.2.2.1 (jp_e rfl) (fun h_9 => ?_) (fun h_9 => ?_)
    · skip
      have iv_10 : IV z_6 1 4 := iv_neL h_9 iv_8 iq_0_0_0 (zle_e rfl)
      refine k_bipush (v := 100) X dX11_well_k1.1.2.1.1 bi_100 ?_
      refine k_aload_n X dX11_well_k1.1.2.1.2 0 rfl ?_
      refine k_get (ci := 11) X inlX11 rfl 15 (nlt_e rfl) dX11_well_k1.1.2.2.1 mw170 1 rfl rfl ?_
      refine k_sipush (v := 136) X dX11_well_k1.1.2.2.2 si_136 ?_
      refine k_iald X dX11_well_k1.2.1.1.1 0 rfl (by unfold vp_in; decide) ?_
      refine k_nm (fun z_11 ez_11 => ?_)
      refine k_isub X dX11_well_k1.2.1.1.2 ?_
      refine k_nm (fun z_12 ez_12 => ?_)
      refine k_aload_n X dX11_well_k1.2.1.2.1 0 rfl ?_
      refine k_get (ci := 11) X inlX11 rfl 15 (nlt_e rfl) dX11_well_k1.2.1.2.2 mw170 1 rfl rfl ?_
      refine k_bipush (v := 12) X dX11_well_k1.2.2.1.1 bi_12 ?_
      refine k_iald X dX11_well_k1.2.2.1.2 0 rfl (by unfold vp_in; decide) ?_
      refine k_nm (fun z_14 ez_14 => ?_)
      have i_15 : z_14.toInt = (d_r 12).toInt := by rw [ez_14]; rfl
      have iv_16 : IV z_14 0 8 := rb_12 ez_14 hp_d_r
      refine k_callSL (n := 2) (As := [.int z_12, .int z_14]) (st := []) X [] [(cAI g a_r 311 d_r), (cO11_i1r1i10r1i2r5i2r12i3r4i2 h0 m_thrown2_1 a_tape m_taped m_size m_at m_end m_token m_whole m_nameSize m_fault m_place m_trouble2_2 a_letters m_failed m_hasHouse a_r a_fresh a_st a_undone a_kept m_undos m_images a_from a_begin a_motor a_change a_startFrame a_changeFrame a_lostAt a_blackAt a_slips a_leftArc a_died a_arcs m_bestSum m_nearest m_nearestTown a_there a_backAt a_sorted a_parts m_seed1 m_darkNow)] [] [0, 1] (m_power l g z_12 z_14) dX11_well_k1.2.2.2.1 mw1256 mw1257 mw5 mw1258 yk_yX11_power_2 rfl (Nat.le_of_ble_eq_true rfl) (Nat.le_of_ble_eq_true rfl) (Nat.le_of_ble_eq_true rfl) (Nat.le_of_ble_eq_true rfl) (Nat.le_of_ble_eq_true rfl) rfl rfl (vnd_e rfl) rfl (vnd_e rfl) (dsj_e rfl) ?_
      rintro r_17 w rfl
      refine k_ws [(cAI g a_r 311 d_r), (cO11_i1r1i10r1i2r5i2r12i3r4i2 h0 m_thrown2_1 a_tape m_taped m_size m_at m_end m_token m_whole m_nameSize m_fault m_place m_trouble2_2 a_letters m_failed m_hasHouse a_r a_fresh a_st a_undone a_kept m_undos m_images a_from a_begin a_motor a_change a_startFrame a_changeFrame a_lostAt a_blackAt a_slips a_leftArc a_died a_arcs m_bestSum m_nearest m_nearestTown a_there a_backAt a_sorted a_parts m_seed1 m_darkNow)] rfl ?_
      refine k_bipush (v := 100) X dX11_well_k1.2.2.2.2 bi_100 ?_
      refine k_aload_n X dX11_well_k2.1.1.1 0 rfl ?_
      refine k_get (ci := 11) X inlX11 rfl 15 (nlt_e rfl) dX11_well_k2.1.1.2 mw170 1 rfl rfl ?_
      refine k_bipush (v := 12) X dX11_well_k2.1.2.1 bi_12 ?_
      refine k_iald X dX11_well_k2.1.2.2 0 rfl (by unfold vp_in; decide) ?_
      refine k_to z_14 ez_14.symm ?_
      refine k_callSL (n := 2) (As := [.int 100, .int z_14]) (st := [.long r_17]) X [] [(cAI g a_r 311 d_r), (cO11_i1r1i10r1i2r5i2r12i3r4i2 h0 m_thrown2_1 a_tape m_taped m_size m_at m_end m_token m_whole m_nameSize m_fault m_place m_trouble2_2 a_letters m_failed m_hasHouse a_r a_fresh a_st a_undone a_kept m_undos m_images a_from a_begin a_motor a_change a_startFrame a_changeFrame a_lostAt a_blackAt a_slips a_leftArc a_died a_arcs m_bestSum m_nearest m_nearestTown a_there a_backAt a_sorted a_parts m_seed1 m_darkNow)] [] [0, 1] (m_powerH l g z_14 (iv_w iv_16 (zle_e rfl) (zle_e rfl))) dX11_well_k2.2.1.1 mw1256 mw1257 mw5 mw1258 yk_yX11_power_2 rfl (Nat.le_of_ble_eq_true rfl) (Nat.le_of_ble_eq_true rfl) (Nat.le_of_ble_eq_true rfl) (Nat.le_of_ble_eq_true rfl) (Nat.le_of_ble_eq_true rfl) rfl rfl (vnd_e rfl) rfl (vnd_e rfl) (dsj_e rfl) ?_
      rintro r_18 w ⟨hq_19, rfl⟩
      refine k_ws [(cAI g a_r 311 d_r), (cO11_i1r1i10r1i2r5i2r12i3r4i2 h0 m_thrown2_1 a_tape m_taped m_size m_at m_end m_token m_whole m_nameSize m_fault m_place m_trouble2_2 a_letters m_failed m_hasHouse a_r a_fresh a_st a_undone a_kept m_undos m_images a_from a_begin a_motor a_change a_startFrame a_changeFrame a_lostAt a_blackAt a_slips a_leftArc a_died a_arcs m_bestSum m_nearest m_nearestTown a_there a_backAt a_sorted a_parts m_seed1 m_darkNow)] rfl ?_
      refine k_iload_n X dX11_well_k2.2.1.2 1 rfl ?_
      refine k_callSL (n := 3) (As := [.long r_17, .long r_18, .int p0]) (st := []) X [] [(cAI g a_r 311 d_r), (cO11_i1r1i10r1i2r5i2r12i3r4i2 h0 m_thrown2_1 a_tape m_taped m_size m_at m_end m_token m_whole m_nameSize m_fault m_place m_trouble2_2 a_letters m_failed m_hasHouse a_r a_fresh a_st a_undone a_kept m_undos m_images a_from a_begin a_motor a_change a_startFrame a_changeFrame a_lostAt a_blackAt a_slips a_leftArc a_died a_arcs m_bestSum m_nearest m_nearestTown a_there a_backAt a_sorted a_parts m_seed1 m_darkNow)] [] [0, 1] (m_lowest l g r_17 r_18 p0 (by first | exact Or.inr (by decide) | exact Or.inr (by assumption) | exact Or.inl (by assumption))) dX11_well_k2.2.2.1 mw1167 mw1168 mw5 mw1169 yk_yX11_lowest_3 rfl (Nat.le_of_ble_eq_true rfl) (Nat.le_of_ble_eq_true rfl) (Nat.le_of_ble_eq_true rfl) (Nat.le_of_ble_eq_true rfl) (Nat.le_of_ble_eq_true rfl) rfl rfl (vnd_e rfl) rfl (vnd_e rfl) (dsj_e rfl) ?_
      rintro r_20 w rfl
      refine k_ws [(cAI g a_r 311 d_r), (cO11_i1r1i10r1i2r5i2r12i3r4i2 h0 m_thrown2_1 a_tape m_taped m_size m_at m_end m_token m_whole m_nameSize m_fault m_place m_trouble2_2 a_letters m_failed m_hasHouse a_r a_fresh a_st a_undone a_kept m_undos m_images a_from a_begin a_motor a_change a_startFrame a_changeFrame a_lostAt a_blackAt a_slips a_leftArc a_died a_arcs m_bestSum m_nearest m_nearestTown a_there a_backAt a_sorted a_parts m_seed1 m_darkNow)] rfl ?_
      exact k_lret X hr dX11_well_k2.2.2.2 (Nat.le_of_ble_eq_true rfl) (Nat.le_of_ble_eq_true rfl) [1, 0] (vnd_e rfl) rfl rfl ⟨m_thrown2_1, m_trouble2_2, rfl⟩
    · skip
      have iv_21 : IV z_6 0 0 := iv_meet iv_8 (iv_e h_9 iq_0_0_0) (zle_o rfl) (zle_o rfl)
      refine k_aload_n X dX11_well_k0.2.2.2.2 0 rfl ?_
      refine k_bipush (v := 6) X dX11_well_k1.1.1.1.1 bi_6 ?_
      refine k_callVI (n := 1) (As := [.int 6]) (st := []) X [(cO11_i1r1i10r1i2r5i2r12i3r4i2 h0 m_thrown2_1 a_tape m_taped m_size m_at m_end m_token m_whole m_nameSize m_fault m_place m_trouble2_2 a_letters m_failed m_hasHouse a_r a_fresh a_st a_undone a_kept m_undos m_images a_from a_begin a_motor a_change a_startFrame a_changeFrame a_lostAt a_blackAt a_slips a_leftArc a_died a_arcs m_bestSum m_nearest m_nearestTown a_there a_backAt a_sorted a_parts m_seed1 m_darkNow)] [(cAI g a_r 311 d_r)] [1] [0] (m_no l g h0 6 m_thrown2_1 a_tape m_taped m_size m_at m_end m_token m_whole m_nameSize m_fault m_place m_trouble2_2 a_letters m_failed m_hasHouse a_r a_fresh a_st a_undone a_kept m_undos m_images a_from a_begin a_motor a_change a_startFrame a_changeFrame a_lostAt a_blackAt a_slips a_leftArc a_died a_arcs m_bestSum m_nearest m_nearestTown a_there a_backAt a_sorted a_parts m_seed1 m_darkNow) dX11_well_k1.1.1.1.2 mw485 mw486 mw487 mw5 mw488 rfl 11 rfl rfl 0 _ rfl yk_yX11_no_1 rfl (Nat.le_of_ble_eq_true rfl) (Nat.le_of_ble_eq_true rfl) (Nat.le_of_ble_eq_true rfl) (Nat.le_of_ble_eq_true rfl) (Nat.le_of_ble_eq_true rfl) rfl rfl (vnd_e rfl) rfl (vnd_e rfl) (dsj_e rfl) ?_
      rintro r_23 w ⟨m_trouble2_22, iv_24, rfl⟩
      refine k_ws [(cAI g a_r 311 d_r), (cO11_i1r1i10r1i2r5i2r12i3r4i2 h0 m_thrown2_1 a_tape m_taped m_size m_at m_end m_token m_whole m_nameSize m_fault m_place m_trouble2_22 a_letters m_failed m_hasHouse a_r a_fresh a_st a_undone a_kept m_undos m_images a_from a_begin a_motor a_change a_startFrame a_changeFrame a_lostAt a_blackAt a_slips a_leftArc a_died a_arcs m_bestSum m_nearest m_nearestTown a_there a_backAt a_sorted a_parts m_seed1 m_darkNow)] rfl ?_
      refine k_i2l X dX11_well_k1.1.1.2.1 ?_
      refine k_nmL (fun y_25 ey_25 => ?_)
      exact k_lret X hr dX11_well_k1.1.1.2.2 (Nat.le_of_ble_eq_true rfl) (Nat.le_of_ble_eq_true rfl) [1, 0] (vnd_e rfl) rfl rfl ⟨m_thrown2_1, m_trouble2_22, rfl⟩
  · skip
    have iv_26 : IV m_hasHouse 0 0 := iv_meet hv_m_hasHouse (iv_e h_4 iq_0_0_0) (zle_o rfl) (zle_o rfl)
    refine k_aload_n X dX11_well_k0.1.2.1.2 0 rfl ?_
    refine k_iconst (v := 1) X dX11_well_k0.1.2.2.1 ic_1 ?_
    refine k_callVI (n := 1) (As := [.int 1]) (st := []) X [(cO11_i1r1i10r1i2r5i2r12i3r4i2 h0 m_thrown2_1 a_tape m_taped m_size m_at m_end m_token m_whole m_nameSize m_fault m_place m_trouble2_2 a_letters m_failed m_hasHouse a_r a_fresh a_st a_undone a_kept m_undos m_images a_from a_begin a_motor a_change a_startFrame a_changeFrame a_lostAt a_blackAt a_slips a_leftArc a_died a_arcs m_bestSum m_nearest m_nearestTown a_there a_backAt a_sorted a_parts m_seed1 m_darkNow)] [(cAI g a_r 311 d_r)] [1] [0] (m_no l g h0 1 m_thrown2_1 a_tape m_taped m_size m_at m_end m_token m_whole m_nameSize m_fault m_place m_trouble2_2 a_letters m_failed m_hasHouse a_r a_fresh a_st a_undone a_kept m_undos m_images a_from a_begin a_motor a_change a_startFrame a_changeFrame a_lostAt a_blackAt a_slips a_leftArc a_died a_arcs m_bestSum m_nearest m_nearestTown a_there a_backAt a_sorted a_parts m_seed1 m_darkNow) dX11_well_k0.1.2.2.2 mw485 mw486 mw487 mw5 mw488 rfl 11 rfl rfl 0 _ rfl yk_yX11_no_1 rfl (Nat.le_of_ble_eq_true rfl) (Nat.le_of_ble_eq_true rfl) (Nat.le_of_ble_eq_true rfl) (Nat.le_of_ble_eq_true rfl) (Nat.le_of_ble_eq_true rfl) rfl rfl (vnd_e rfl) rfl (vnd_e rfl) (dsj_e rfl) ?_
    rintro r_28 w ⟨m_trouble2_27, iv_29, rfl⟩
    refine k_ws [(cAI g a_r 311 d_r), (cO11_i1r1i10r1i2r5i2r12i3r4i2 h0 m_thrown2_1 a_tape m_taped m_size m_at m_end m_token m_whole m_nameSize m_fault m_place m_trouble2_27 a_letters m_failed m_hasHouse a_r a_fresh a_st a_undone a_kept m_undos m_images a_from a_begin a_motor a_change a_startFrame a_changeFrame a_lostAt a_blackAt a_slips a_leftArc a_died a_arcs m_bestSum m_nearest m_nearestTown a_there a_backAt a_sorted a_parts m_seed1 m_darkNow)] rfl ?_
    refine k_i2l X dX11_well_k0.2.1.1.1 ?_
    refine k_nmL (fun y_30 ey_30 => ?_)
    exact k_lret X hr dX11_well_k0.2.1.1.2 (Nat.le_of_ble_eq_true rfl) (Nat.le_of_ble_eq_true rfl) [1, 0] (vnd_e rfl) rfl rfl ⟨m_thrown2_1, m_trouble2_27, rfl⟩

theorem dX11_wrong_k0 : ((((dD cX11_wrong 0 (.aload_n 0) 1 ∧ dD cX11_wrong 1 (.invokevirtual 200) 3) ∧ (dD cX11_wrong 4 (.aload_n 0) 1 ∧ dD cX11_wrong 5 (.getfield 213) 3)) ∧ ((dD cX11_wrong 8 (.ifCond .ne 9) 3 ∧ dD cX11_wrong 11 (.aload_n 0) 1) ∧ (dD cX11_wrong 12 (.iconst 1) 1 ∧ dD cX11_wrong 13 (.invokevirtual 203) 3))) ∧ (((dD cX11_wrong 16 .ireturn 1 ∧ dD cX11_wrong 17 (.iconst 0) 1) ∧ (dD cX11_wrong 18 (.istore_n 1) 1 ∧ dD cX11_wrong 19 (.iconst 0) 1)) ∧ ((dD cX11_wrong 20 (.istore_n 2) 1 ∧ dD cX11_wrong 21 (.iload_n 2) 1) ∧ (dD cX11_wrong 22 (.aload_n 0) 1 ∧ dD cX11_wrong 23 (.getfield 20) 3)))) := dkA16 (by decide +kernel)
theorem dX11_wrong_k1 : ((((dD cX11_wrong 26 (.bipush 12) 2 ∧ dD cX11_wrong 28 .iaload 1) ∧ (dD cX11_wrong 29 (.if_icmp .ge 45) 3 ∧ dD cX11_wrong 32 (.iconst 0) 1)) ∧ ((dD cX11_wrong 33 (.istore_n 3) 1 ∧ dD cX11_wrong 34 (.iload_n 3) 1) ∧ (dD cX11_wrong 35 (.iload_n 2) 1 ∧ dD cX11_wrong 36 (.if_icmp .ge 32) 3))) ∧ (((dD cX11_wrong 39 (.iload_n 1) 1 ∧ dD cX11_wrong 40 (.aload_n 0) 1) ∧ (dD cX11_wrong 41 (.iload_n 3) 1 ∧ dD cX11_wrong 42 (.invokevirtual 324) 3)) ∧ ((dD cX11_wrong 45 (.aload_n 0) 1 ∧ dD cX11_wrong 46 (.iload_n 2) 1) ∧ (dD cX11_wrong 47 (.invokevirtual 324) 3 ∧ dD cX11_wrong 50 (.if_icmp .lt 9) 3)))) := dkA16 (by decide +kernel)
theorem dX11_wrong_k2 : (((dD cX11_wrong 53 (.iconst 1) 1 ∧ (dD cX11_wrong 54 (.iload_n 2) 1 ∧ dD cX11_wrong 55 .ishl 1)) ∧ (dD cX11_wrong 56 (.goto 4) 3 ∧ (dD cX11_wrong 59 (.iconst 0) 1 ∧ dD cX11_wrong 60 .ior 1))) ∧ ((dD cX11_wrong 61 (.istore_n 1) 1 ∧ (dD cX11_wrong 62 (.iinc 3 1) 3 ∧ dD cX11_wrong 65 (.goto (-31)) 3)) ∧ ((dD cX11_wrong 68 (.iinc 2 1) 3 ∧ dD cX11_wrong 71 (.goto (-50)) 3) ∧ (dD cX11_wrong 74 (.iload_n 1) 1 ∧ dD cX11_wrong 75 .ireturn 1)))) := dkA13 (by decide +kernel)
set_option maxHeartbeats 4000000 in
set_option maxRecDepth 100000 in
theorem m_wrong (l : Launch) (g : Gx) (h0 : Nat) (m_thrown : Int32) (a_tape : Nat) (m_taped : Int32) (m_size : Int32) (m_at : Int32) (m_end : Int32) (m_token : Int32) (m_whole : Int32) (m_nameSize : Int32) (m_fault : Int32) (m_place : Int32) (m_trouble : Int32) (a_letters : Nat) (m_failed : Int32) (m_hasHouse : Int32) (a_r : Nat) (a_fresh : Nat) (a_st : Nat) (a_undone : Nat) (a_kept : Nat) (m_undos : Int32) (m_images : Int32) (a_from : Nat) (a_begin : Nat) (a_motor : Nat) (a_change : Nat) (a_startFrame : Nat) (a_changeFrame : Nat) (a_lostAt : Nat) (a_blackAt : Nat) (a_slips : Nat) (a_leftArc : Nat) (a_died : Nat) (a_arcs : Nat) (m_bestSum : Int32) (m_nearest : Int32) (m_nearestTown : Int32) (a_there : Nat) (a_backAt : Nat) (a_sorted : Nat) (a_parts : Nat) (m_seed1 : Int32) (m_darkNow : Int32) (d_r : Nat → Int32) (hv_m_hasHouse : IV m_hasHouse 0 1) (hp_d_r : RInv d_r) : cI l g yX11_wrong cX11_wrong 4 (some .int) 1 21 0 0 [.ref h0] [(cO11_i1r1i10r1i2r5i2r12i3r4i2 h0 m_thrown a_tape m_taped m_size m_at m_end m_token m_whole m_nameSize m_fault m_place m_trouble a_letters m_failed m_hasHouse a_r a_fresh a_st a_undone a_kept m_undos m_images a_from a_begin a_motor a_change a_startFrame a_changeFrame a_lostAt a_blackAt a_slips a_leftArc a_died a_arcs m_bestSum m_nearest m_nearestTown a_there a_backAt a_sorted a_parts m_seed1 m_darkNow), (cAI g a_r 311 d_r)] (fun r w => ∃ (m_thrown2 : Int32) (m_trouble2 : Int32), w = [(cO11_i1r1i10r1i2r5i2r12i3r4i2 h0 m_thrown2 a_tape m_taped m_size m_at m_end m_token m_whole m_nameSize m_fault m_place m_trouble2 a_letters m_failed m_hasHouse a_r a_fresh a_st a_undone a_kept m_undos m_images a_from a_begin a_motor a_change a_startFrame a_changeFrame a_lostAt a_blackAt a_slips a_leftArc a_died a_arcs m_bestSum m_nearest m_nearestTown a_there a_backAt a_sorted a_parts m_seed1 m_darkNow), (cAI g a_r 311 d_r)]) := by
  refine cI.of (by decide) (Nat.le_of_ble_eq_true rfl) ?_
  intro p e s m args below meth c A X hr hi
  refine k_lveq [(0, .ref h0)] rfl ?_
  refine k_aload_n X dX11_wrong_k0.1.1.1.1 0 rfl ?_
  refine k_callVV (n := 0) (As := []) (st := []) X [(cO11_i1r1i10r1i2r5i2r12i3r4i2 h0 m_thrown a_tape m_taped m_size m_at m_end m_token m_whole m_nameSize m_fault m_place m_trouble a_letters m_failed m_hasHouse a_r a_fresh a_st a_undone a_kept m_undos m_images a_from a_begin a_motor a_change a_startFrame a_changeFrame a_lostAt a_blackAt a_slips a_leftArc a_died a_arcs m_bestSum m_nearest m_nearestTown a_there a_backAt a_sorted a_parts m_seed1 m_darkNow)] [(cAI g a_r 311 d_r)] [0] [1] (m_good l g h0 m_thrown a_tape m_taped m_size m_at m_end m_token m_whole m_nameSize m_fault m_place m_trouble a_letters m_failed m_hasHouse a_r a_fresh a_st a_undone a_kept m_undos m_images a_from a_begin a_motor a_change a_startFrame a_changeFrame a_lostAt a_blackAt a_slips a_leftArc a_died a_arcs m_bestSum m_nearest m_nearestTown a_there a_backAt a_sorted a_parts m_seed1 m_darkNow) dX11_wrong_k0.1.1.1.2 mw477 mw478 mw479 mw5 mw480 rfl 11 rfl rfl 0 _ rfl yk_yX11_good_0 rfl (Nat.le_of_ble_eq_true rfl) (Nat.le_of_ble_eq_true rfl) (Nat.le_of_ble_eq_true rfl) (Nat.le_of_ble_eq_true rfl) (Nat.le_of_ble_eq_true rfl) rfl rfl (vnd_e rfl) rfl (vnd_e rfl) (dsj_e rfl) ?_
  rintro w ⟨m_thrown2_1, m_trouble2_2, rfl⟩
  refine k_ws [(cAI g a_r 311 d_r), (cO11_i1r1i10r1i2r5i2r12i3r4i2 h0 m_thrown2_1 a_tape m_taped m_size m_at m_end m_token m_whole m_nameSize m_fault m_place m_trouble2_2 a_letters m_failed m_hasHouse a_r a_fresh a_st a_undone a_kept m_undos m_images a_from a_begin a_motor a_change a_startFrame a_changeFrame a_lostAt a_blackAt a_slips a_leftArc a_died a_arcs m_bestSum m_nearest m_nearestTown a_there a_backAt a_sorted a_parts m_seed1 m_darkNow)] rfl ?_
  refine k_aload_n X dX11_wrong_k0.1.1.2.1 0 rfl ?_
  refine k_get (ci := 11) X inlX11 rfl 14 (nlt_e rfl) dX11_wrong_k0.1.1.2.2 mw474 1 rfl rfl ?_
  refine k_if_ne 17 X dX11_wrong_k0.1.2.1.1 (jp_e rfl) (fun h_4 => ?_) (fun h_4 => ?_)
  · skip
    have iv_5 : IV m_hasHouse 1 1 := iv_neL h_4 hv_m_hasHouse iq_0_0_0 (zle_e rfl)
    refine k_iconst (v := 0) X dX11_wrong_k0.2.1.1.2 ic_0 ?_
    refine k_istore_n [(1, .int 0), (0, .ref h0)] X dX11_wrong_k0.2.1.2.1 (nlt_e rfl) rfl ?_
    refine k_iconst (v := 0) X dX11_wrong_k0.2.1.2.2 ic_0 ?_
    refine k_istore_n [(2, .int 0), (1, .int 0), (0, .ref h0)] X dX11_wrong_k0.2.2.1.1 (nlt_e rfl) rfl ?_
    refine (fun hL : ∀ (nn_9 : Nat) (u_6 : Int32) (u_7 : Int32), (2147483647 - u_7.toInt).toNat = nn_9 → (IV u_7 0 8) → Wk p l e _ s m args below meth c _ A g _ _ _ [(cAI g a_r 311 d_r), (cO11_i1r1i10r1i2r5i2r12i3r4i2 h0 m_thrown2_1 a_tape m_taped m_size m_at m_end m_token m_whole m_nameSize m_fault m_place m_trouble2_2 a_letters m_failed m_hasHouse a_r a_fresh a_st a_undone a_kept m_undos m_images a_from a_begin a_motor a_change a_startFrame a_changeFrame a_lostAt a_blackAt a_slips a_leftArc a_died a_arcs m_bestSum m_nearest m_nearestTown a_there a_backAt a_sorted a_parts m_seed1 m_darkNow)] [(2, .int u_7), (1, .int u_6), (0, .ref h0)] 21 [] => hL _ 0 0 rfl (iv_w iq_0_0_0 (zle_e rfl) (zle_e rfl))) ?_
    refine fun nn_9 => Nat.strongRecOn nn_9 (fun nn_9 ih_11 => ?_)
    intro u_6 u_7 hm_10 hv_8
    refine k_iload_n X dX11_wrong_k0.2.2.1.2 0 rfl ?_
    refine k_aload_n X dX11_wrong_k0.2.2.2.1 2 rfl ?_
    refine k_get (ci := 11) X inlX11 rfl 15 (nlt_e rfl) dX11_wrong_k0.2.2.2.2 mw170 1 rfl rfl ?_
    refine k_bipush (v := 12) X dX11_wrong_k1.1.1.1.1 bi_12 ?_
    refine k_iald X dX11_wrong_k1.1.1.1.2 0 rfl (by unfold vp_in; decide) ?_
    refine k_nm (fun z_12 ez_12 => ?_)
    have i_13 : z_12.toInt = (d_r 12).toInt := by rw [ez_12]; rfl
    have iv_14 : IV z_12 0 8 := rb_12 ez_12 hp_d_r
    refine k_ic_ge 74 X dX11_wrong_k1.1.1.2.1 (jp_e rfl) (fun h_15 => ?_) (fun h_15 => ?_)
    · skip
      have j_16 : z_12.toInt ≤ u_7.toInt := iv_le h_15
      refine k_iload_n X dX11_wrong_k2.2.2.2.1 1 rfl ?_
      exact k_iret X hr dX11_wrong_k2.2.2.2.2 (Nat.le_of_ble_eq_true rfl) (Nat.le_of_ble_eq_true rfl) [1, 0] (vnd_e rfl) rfl rfl ⟨m_thrown2_1, m_trouble2_2, rfl⟩
    · skip
      have j_17 : u_7.toInt < z_12.toInt := iv_nle h_15
      have iv_18 : IV u_7 0 7 := iv_ltL (iv_nle h_15) hv_8 iv_14 (zle_e rfl)
      have iv_19 : IV z_12 1 8 := iv_ltR (iv_nle h_15) hv_8 iv_14 (zle_e rfl)
      refine k_iconst (v := 0) X dX11_wrong_k1.1.1.2.2 ic_0 ?_
      refine k_istore_n [(3, .int 0), (2, .int u_7), (1, .int u_6), (0, .ref h0)] X dX11_wrong_k1.1.2.1.1 (nlt_e rfl) rfl ?_
      refine (fun hL : ∀ (nn_23 : Nat) (u_20 : Int32) (u_21 : Int32), (u_7.toInt - u_21.toInt).toNat = nn_23 → (IV u_21 0 8) → Wk p l e _ s m args below meth c _ A g _ _ _ [(cAI g a_r 311 d_r), (cO11_i1r1i10r1i2r5i2r12i3r4i2 h0 m_thrown2_1 a_tape m_taped m_size m_at m_end m_token m_whole m_nameSize m_fault m_place m_trouble2_2 a_letters m_failed m_hasHouse a_r a_fresh a_st a_undone a_kept m_undos m_images a_from a_begin a_motor a_change a_startFrame a_changeFrame a_lostAt a_blackAt a_slips a_leftArc a_died a_arcs m_bestSum m_nearest m_nearestTown a_there a_backAt a_sorted a_parts m_seed1 m_darkNow)] [(3, .int u_21), (2, .int u_7), (1, .int u_20), (0, .ref h0)] 34 [] => hL _ u_6 0 rfl (iv_w iq_0_0_0 (zle_e rfl) (zle_e rfl))) ?_
      refine fun nn_23 => Nat.strongRecOn nn_23 (fun nn_23 ih_25 => ?_)
      intro u_20 u_21 hm_24 hv_22
      refine k_iload_n X dX11_wrong_k1.1.2.1.2 0 rfl ?_
      refine k_iload_n X dX11_wrong_k1.1.2.2.1 1 rfl ?_
      refine k_ic_ge 68 X dX11_wrong_k1.1.2.2.2 (jp_e rfl) (fun h_26 => ?_) (fun h_26 => ?_)
      · skip
        have j_27 : u_7.toInt ≤ u_21.toInt := iv_le h_26
        obtain ⟨z_28, ez_28⟩ : ∃ y : Int32, u_7 + Int32.ofInt 1 = y := ⟨_, rfl⟩
        refine k_iinc z_28 [(2, .int z_28), (3, .int u_21), (1, .int u_20), (0, .ref h0)] 1 X dX11_wrong_k2.2.2.1.1 rfl ez_28 (nlt_e rfl) rfl ?_
        have i_29 : z_28.toInt = u_7.toInt + 1 := in_inc ez_28 (oin_e rfl) iv_18 (zle_e rfl) (zle_e rfl)
        have iv_30 : IV z_28 1 8 := iz1 i_29 iv_18 (zle_e rfl) (zle_e rfl)
        refine k_goto 21 X dX11_wrong_k2.2.2.1.2 (jp_e rfl) ?_
        refine k_lv [(2, .int z_28), (1, .int u_20), (0, .ref h0)] [0, 2, 3] rfl ?_
        exact ih_11 _ (by omega) u_20 z_28 rfl (iv_w iv_30 (zle_e rfl) (zle_e rfl))
      · skip
        have j_31 : u_21.toInt < u_7.toInt := iv_nle h_26
        have iv_32 : IV u_21 0 6 := iv_ltL (iv_nle h_26) hv_22 iv_18 (zle_e rfl)
        have iv_33 : IV u_7 1 7 := iv_ltR (iv_nle h_26) hv_22 iv_18 (zle_e rfl)
        refine k_iload_n X dX11_wrong_k1.2.1.1.1 2 rfl ?_
        refine k_aload_n X dX11_wrong_k1.2.1.1.2 3 rfl ?_
        refine k_iload_n X dX11_wrong_k1.2.1.2.1 0 rfl ?_
        refine k_callVI (n := 1) (As := [.int u_21]) (st := [.int u_20]) X [(cO11_i1r1i10r1i2r5i2r12i3r4i2 h0 m_thrown2_1 a_tape m_taped m_size m_at m_end m_token m_whole m_nameSize m_fault m_place m_trouble2_2 a_letters m_failed m_hasHouse a_r a_fresh a_st a_undone a_kept m_undos m_images a_from a_begin a_motor a_change a_startFrame a_changeFrame a_lostAt a_blackAt a_slips a_leftArc a_died a_arcs m_bestSum m_nearest m_nearestTown a_there a_backAt a_sorted a_parts m_seed1 m_darkNow), (cAI g a_r 311 d_r)] [] [1, 0] [] (m_reelAt l g h0 u_21 m_thrown2_1 a_tape m_taped m_size m_at m_end m_token m_whole m_nameSize m_fault m_place m_trouble2_2 a_letters m_failed m_hasHouse a_r a_fresh a_st a_undone a_kept m_undos m_images a_from a_begin a_motor a_change a_startFrame a_changeFrame a_lostAt a_blackAt a_slips a_leftArc a_died a_arcs m_bestSum m_nearest m_nearestTown a_there a_backAt a_sorted a_parts m_seed1 m_darkNow d_r (iv_w iv_32 (zle_e rfl) (zle_e rfl)) hp_d_r) dX11_wrong_k1.2.1.2.2 mw723 mw724 mw725 mw5 mw726 rfl 11 rfl rfl 0 _ rfl yk_yX11_reelAt_1 rfl (Nat.le_of_ble_eq_true rfl) (Nat.le_of_ble_eq_true rfl) (Nat.le_of_ble_eq_true rfl) (Nat.le_of_ble_eq_true rfl) (Nat.le_of_ble_eq_true rfl) rfl rfl (vnd_e rfl) rfl (vnd_e rfl) (dsj_e rfl) ?_
        rintro r_34 w ⟨iv_35, rfl⟩
        refine k_ws [(cO11_i1r1i10r1i2r5i2r12i3r4i2 h0 m_thrown2_1 a_tape m_taped m_size m_at m_end m_token m_whole m_nameSize m_fault m_place m_trouble2_2 a_letters m_failed m_hasHouse a_r a_fresh a_st a_undone a_kept m_undos m_images a_from a_begin a_motor a_change a_startFrame a_changeFrame a_lostAt a_blackAt a_slips a_leftArc a_died a_arcs m_bestSum m_nearest m_nearestTown a_there a_backAt a_sorted a_parts m_seed1 m_darkNow), (cAI g a_r 311 d_r)] rfl ?_
        refine k_aload_n X dX11_wrong_k1.2.2.1.1 3 rfl ?_
        refine k_iload_n X dX11_wrong_k1.2.2.1.2 1 rfl ?_
        refine k_callVI (n := 1) (As := [.int u_7]) (st := [.int r_34, .int u_20]) X [(cO11_i1r1i10r1i2r5i2r12i3r4i2 h0 m_thrown2_1 a_tape m_taped m_size m_at m_end m_token m_whole m_nameSize m_fault m_place m_trouble2_2 a_letters m_failed m_hasHouse a_r a_fresh a_st a_undone a_kept m_undos m_images a_from a_begin a_motor a_change a_startFrame a_changeFrame a_lostAt a_blackAt a_slips a_leftArc a_died a_arcs m_bestSum m_nearest m_nearestTown a_there a_backAt a_sorted a_parts m_seed1 m_darkNow), (cAI g a_r 311 d_r)] [] [0, 1] [] (m_reelAt l g h0 u_7 m_thrown2_1 a_tape m_taped m_size m_at m_end m_token m_whole m_nameSize m_fault m_place m_trouble2_2 a_letters m_failed m_hasHouse a_r a_fresh a_st a_undone a_kept m_undos m_images a_from a_begin a_motor a_change a_startFrame a_changeFrame a_lostAt a_blackAt a_slips a_leftArc a_died a_arcs m_bestSum m_nearest m_nearestTown a_there a_backAt a_sorted a_parts m_seed1 m_darkNow d_r (iv_w iv_33 (zle_e rfl) (zle_e rfl)) hp_d_r) dX11_wrong_k1.2.2.2.1 mw723 mw724 mw725 mw5 mw726 rfl 11 rfl rfl 0 _ rfl yk_yX11_reelAt_1 rfl (Nat.le_of_ble_eq_true rfl) (Nat.le_of_ble_eq_true rfl) (Nat.le_of_ble_eq_true rfl) (Nat.le_of_ble_eq_true rfl) (Nat.le_of_ble_eq_true rfl) rfl rfl (vnd_e rfl) rfl (vnd_e rfl) (dsj_e rfl) ?_
        rintro r_36 w ⟨iv_37, rfl⟩
        refine k_ws [(cO11_i1r1i10r1i2r5i2r12i3r4i2 h0 m_thrown2_1 a_tape m_taped m_size m_at m_end m_token m_whole m_nameSize m_fault m_place m_trouble2_2 a_letters m_failed m_hasHouse a_r a_fresh a_st a_undone a_kept m_undos m_images a_from a_begin a_motor a_change a_startFrame a_changeFrame a_lostAt a_blackAt a_slips a_leftArc a_died a_arcs m_bestSum m_nearest m_nearestTown a_there a_backAt a_sorted a_parts m_seed1 m_darkNow), (cAI g a_r 311 d_r)] rfl ?_
        refine k_ic_lt 59 X dX11_wrong_k1.2.2.2.2 (jp_e rfl) (fun h_38 => ?_) (fun h_38 => ?_)
        · skip
          have j_39 : r_34.toInt < r_36.toInt := iv_lt h_38
          have iv_40 : IV r_34 0 6 := iv_ltL (iv_lt h_38) iv_35 iv_37 (zle_e rfl)
          have iv_41 : IV r_36 1 7 := iv_ltR (iv_lt h_38) iv_35 iv_37 (zle_e rfl)
          refine k_iconst (v := 0) X dX11_wrong_k2.1.2.2.1 ic_0 ?_
          refine k_ior X dX11_wrong_k2.1.2.2.2 ?_
          refine k_nm (fun z_42 ez_42 => ?_)
          refine k_istore_n [(1, .int z_42), (3, .int u_21), (2, .int u_7), (0, .ref h0)] X dX11_wrong_k2.2.1.1 (nlt_e rfl) rfl ?_
          obtain ⟨z_43, ez_43⟩ : ∃ y : Int32, u_21 + Int32.ofInt 1 = y := ⟨_, rfl⟩
          refine k_iinc z_43 [(3, .int z_43), (1, .int z_42), (2, .int u_7), (0, .ref h0)] 1 X dX11_wrong_k2.2.1.2.1 rfl ez_43 (nlt_e rfl) rfl ?_
          have i_44 : z_43.toInt = u_21.toInt + 1 := in_inc ez_43 (oin_e rfl) iv_32 (zle_e rfl) (zle_e rfl)
          have iv_45 : IV z_43 1 7 := iz1 i_44 iv_32 (zle_e rfl) (zle_e rfl)
          refine k_goto 34 X dX11_wrong_k2.2.1.2.2 (jp_e rfl) ?_
          refine k_lv [(3, .int z_43), (2, .int u_7), (1, .int z_42), (0, .ref h0)] [0, 2, 1, 3] rfl ?_
          refine k_sub [(cAI g a_r 311 d_r), (cO11_i1r1i10r1i2r5i2r12i3r4i2 h0 m_thrown2_1 a_tape m_taped m_size m_at m_end m_token m_whole m_nameSize m_fault m_place m_trouble2_2 a_letters m_failed m_hasHouse a_r a_fresh a_st a_undone a_kept m_undos m_images a_from a_begin a_motor a_change a_startFrame a_changeFrame a_lostAt a_blackAt a_slips a_leftArc a_died a_arcs m_bestSum m_nearest m_nearestTown a_there a_backAt a_sorted a_parts m_seed1 m_darkNow)] [1, 0] rfl (by decide) rfl ?_
          exact ih_25 _ (by omega) z_42 z_43 rfl (iv_w iv_45 (zle_e rfl) (zle_e rfl))
        · skip
          have j_46 : r_36.toInt ≤ r_34.toInt := iv_nlt h_38
          refine k_iconst (v := 1) X dX11_wrong_k2.1.1.1 ic_1 ?_
          refine k_iload_n X dX11_wrong_k2.1.1.2.1 1 rfl ?_
          refine k_ishl X dX11_wrong_k2.1.1.2.2 ?_
          refine k_nm (fun z_47 ez_47 => ?_)
          have iv_48 : IV z_47 1 256 := iv_shl ez_47 (iv_w iv_33 (zle_e rfl) (zle_e rfl))
          refine k_goto 60 X dX11_wrong_k2.1.2.1 (jp_e rfl) ?_
          refine k_ior X dX11_wrong_k2.1.2.2.2 ?_
          refine k_nm (fun z_49 ez_49 => ?_)
          refine k_istore_n [(1, .int z_49), (3, .int u_21), (2, .int u_7), (0, .ref h0)] X dX11_wrong_k2.2.1.1 (nlt_e rfl) rfl ?_
          obtain ⟨z_50, ez_50⟩ : ∃ y : Int32, u_21 + Int32.ofInt 1 = y := ⟨_, rfl⟩
          refine k_iinc z_50 [(3, .int z_50), (1, .int z_49), (2, .int u_7), (0, .ref h0)] 1 X dX11_wrong_k2.2.1.2.1 rfl ez_50 (nlt_e rfl) rfl ?_
          have i_51 : z_50.toInt = u_21.toInt + 1 := in_inc ez_50 (oin_e rfl) iv_32 (zle_e rfl) (zle_e rfl)
          have iv_52 : IV z_50 1 7 := iz1 i_51 iv_32 (zle_e rfl) (zle_e rfl)
          refine k_goto 34 X dX11_wrong_k2.2.1.2.2 (jp_e rfl) ?_
          refine k_lv [(3, .int z_50), (2, .int u_7), (1, .int z_49), (0, .ref h0)] [0, 2, 1, 3] rfl ?_
          refine k_sub [(cAI g a_r 311 d_r), (cO11_i1r1i10r1i2r5i2r12i3r4i2 h0 m_thrown2_1 a_tape m_taped m_size m_at m_end m_token m_whole m_nameSize m_fault m_place m_trouble2_2 a_letters m_failed m_hasHouse a_r a_fresh a_st a_undone a_kept m_undos m_images a_from a_begin a_motor a_change a_startFrame a_changeFrame a_lostAt a_blackAt a_slips a_leftArc a_died a_arcs m_bestSum m_nearest m_nearestTown a_there a_backAt a_sorted a_parts m_seed1 m_darkNow)] [1, 0] rfl (by decide) rfl ?_
          exact ih_25 _ (by omega) z_49 z_50 rfl (iv_w iv_52 (zle_e rfl) (zle_e rfl))
  · skip
    have iv_53 : IV m_hasHouse 0 0 := iv_meet hv_m_hasHouse (iv_e h_4 iq_0_0_0) (zle_o rfl) (zle_o rfl)
    refine k_aload_n X dX11_wrong_k0.1.2.1.2 0 rfl ?_
    refine k_iconst (v := 1) X dX11_wrong_k0.1.2.2.1 ic_1 ?_
    refine k_callVI (n := 1) (As := [.int 1]) (st := []) X [(cO11_i1r1i10r1i2r5i2r12i3r4i2 h0 m_thrown2_1 a_tape m_taped m_size m_at m_end m_token m_whole m_nameSize m_fault m_place m_trouble2_2 a_letters m_failed m_hasHouse a_r a_fresh a_st a_undone a_kept m_undos m_images a_from a_begin a_motor a_change a_startFrame a_changeFrame a_lostAt a_blackAt a_slips a_leftArc a_died a_arcs m_bestSum m_nearest m_nearestTown a_there a_backAt a_sorted a_parts m_seed1 m_darkNow)] [(cAI g a_r 311 d_r)] [1] [0] (m_no l g h0 1 m_thrown2_1 a_tape m_taped m_size m_at m_end m_token m_whole m_nameSize m_fault m_place m_trouble2_2 a_letters m_failed m_hasHouse a_r a_fresh a_st a_undone a_kept m_undos m_images a_from a_begin a_motor a_change a_startFrame a_changeFrame a_lostAt a_blackAt a_slips a_leftArc a_died a_arcs m_bestSum m_nearest m_nearestTown a_there a_backAt a_sorted a_parts m_seed1 m_darkNow) dX11_wrong_k0.1.2.2.2 mw485 mw486 mw487 mw5 mw488 rfl 11 rfl rfl 0 _ rfl yk_yX11_no_1 rfl (Nat.le_of_ble_eq_true rfl) (Nat.le_of_ble_eq_true rfl) (Nat.le_of_ble_eq_true rfl) (Nat.le_of_ble_eq_true rfl) (Nat.le_of_ble_eq_true rfl) rfl rfl (vnd_e rfl) rfl (vnd_e rfl) (dsj_e rfl) ?_
    rintro r_55 w ⟨m_trouble2_54, iv_56, rfl⟩
    refine k_ws [(cAI g a_r 311 d_r), (cO11_i1r1i10r1i2r5i2r12i3r4i2 h0 m_thrown2_1 a_tape m_taped m_size m_at m_end m_token m_whole m_nameSize m_fault m_place m_trouble2_54 a_letters m_failed m_hasHouse a_r a_fresh a_st a_undone a_kept m_undos m_images a_from a_begin a_motor a_change a_startFrame a_changeFrame a_lostAt a_blackAt a_slips a_leftArc a_died a_arcs m_bestSum m_nearest m_nearestTown a_there a_backAt a_sorted a_parts m_seed1 m_darkNow)] rfl ?_
    exact k_iret X hr dX11_wrong_k0.2.1.1.1 (Nat.le_of_ble_eq_true rfl) (Nat.le_of_ble_eq_true rfl) [1, 0] (vnd_e rfl) rfl rfl ⟨m_thrown2_1, m_trouble2_54, rfl⟩

theorem dX11_laySorted_k0 : ((((dD cX11_laySorted 0 (.iconst 0) 1 ∧ dD cX11_laySorted 1 (.istore_n 1) 1) ∧ (dD cX11_laySorted 2 (.iload_n 1) 1 ∧ dD cX11_laySorted 3 (.aload_n 0) 1)) ∧ ((dD cX11_laySorted 4 (.getfield 20) 3 ∧ dD cX11_laySorted 7 (.bipush 12) 2) ∧ (dD cX11_laySorted 9 .iaload 1 ∧ dD cX11_laySorted 10 (.if_icmp .ge 62) 3))) ∧ (((dD cX11_laySorted 13 (.iload_n 1) 1 ∧ dD cX11_laySorted 14 (.istore_n 2) 1) ∧ (dD cX11_laySorted 15 (.iload_n 2) 1 ∧ dD cX11_laySorted 16 (.ifCond .le 39) 3)) ∧ ((dD cX11_laySorted 19 (.aload_n 0) 1 ∧ dD cX11_laySorted 20 (.getfield 77) 3) ∧ (dD cX11_laySorted 23 (.iload_n 2) 1 ∧ dD cX11_laySorted 24 (.iconst 1) 1)))) := dkA16 (by decide +kernel)
theorem dX11_laySorted_k1 : ((((dD cX11_laySorted 25 .isub 1 ∧ dD cX11_laySorted 26 .iaload 1) ∧ (dD cX11_laySorted 27 (.aload_n 0) 1 ∧ dD cX11_laySorted 28 (.iload_n 1) 1)) ∧ ((dD cX11_laySorted 29 (.invokevirtual 324) 3 ∧ dD cX11_laySorted 32 (.if_icmp .le 23) 3) ∧ (dD cX11_laySorted 35 (.aload_n 0) 1 ∧ dD cX11_laySorted 36 (.getfield 77) 3))) ∧ (((dD cX11_laySorted 39 (.iload_n 2) 1 ∧ dD cX11_laySorted 40 (.aload_n 0) 1) ∧ (dD cX11_laySorted 41 (.getfield 77) 3 ∧ dD cX11_laySorted 44 (.iload_n 2) 1)) ∧ ((dD cX11_laySorted 45 (.iconst 1) 1 ∧ dD cX11_laySorted 46 .isub 1) ∧ (dD cX11_laySorted 47 .iaload 1 ∧ dD cX11_laySorted 48 .iastore 1)))) := dkA16 (by decide +kernel)
theorem dX11_laySorted_k2 : (((dD cX11_laySorted 49 (.iinc 2 (-1)) 3 ∧ (dD cX11_laySorted 52 (.goto (-37)) 3 ∧ dD cX11_laySorted 55 (.aload_n 0) 1)) ∧ (dD cX11_laySorted 56 (.getfield 77) 3 ∧ (dD cX11_laySorted 59 (.iload_n 2) 1 ∧ dD cX11_laySorted 60 (.aload_n 0) 1))) ∧ ((dD cX11_laySorted 61 (.iload_n 1) 1 ∧ (dD cX11_laySorted 62 (.invokevirtual 324) 3 ∧ dD cX11_laySorted 65 .iastore 1)) ∧ (dD cX11_laySorted 66 (.iinc 1 1) 3 ∧ (dD cX11_laySorted 69 (.goto (-67)) 3 ∧ dD cX11_laySorted 72 .return_ 1)))) := dkA12 (by decide +kernel)
set_option maxHeartbeats 4000000 in
set_option maxRecDepth 100000 in
theorem m_laySorted (l : Launch) (g : Gx) (h0 : Nat) (m_thrown : Int32) (a_tape : Nat) (m_taped : Int32) (m_size : Int32) (m_at : Int32) (m_end : Int32) (m_token : Int32) (m_whole : Int32) (m_nameSize : Int32) (m_fault : Int32) (m_place : Int32) (m_trouble : Int32) (a_letters : Nat) (m_failed : Int32) (m_hasHouse : Int32) (a_r : Nat) (a_fresh : Nat) (a_st : Nat) (a_undone : Nat) (a_kept : Nat) (m_undos : Int32) (m_images : Int32) (a_from : Nat) (a_begin : Nat) (a_motor : Nat) (a_change : Nat) (a_startFrame : Nat) (a_changeFrame : Nat) (a_lostAt : Nat) (a_blackAt : Nat) (a_slips : Nat) (a_leftArc : Nat) (a_died : Nat) (a_arcs : Nat) (m_bestSum : Int32) (m_nearest : Int32) (m_nearestTown : Int32) (a_there : Nat) (a_backAt : Nat) (a_sorted : Nat) (a_parts : Nat) (m_seed1 : Int32) (m_darkNow : Int32) (d_r : Nat → Int32) (d_sorted : Nat → Int32) (hp_d_r : RInv d_r) : cV l g yX11_laySorted cX11_laySorted 3 1 21 0 0 [.ref h0] [(cO11_i1r1i10r1i2r5i2r12i3r4i2 h0 m_thrown a_tape m_taped m_size m_at m_end m_token m_whole m_nameSize m_fault m_place m_trouble a_letters m_failed m_hasHouse a_r a_fresh a_st a_undone a_kept m_undos m_images a_from a_begin a_motor a_change a_startFrame a_changeFrame a_lostAt a_blackAt a_slips a_leftArc a_died a_arcs m_bestSum m_nearest m_nearestTown a_there a_backAt a_sorted a_parts m_seed1 m_darkNow), (cAI g a_r 311 d_r), (cAI g a_sorted 8 d_sorted)] (fun w => ∃ (d_sorted2 : Nat → Int32), w = [(cO11_i1r1i10r1i2r5i2r12i3r4i2 h0 m_thrown a_tape m_taped m_size m_at m_end m_token m_whole m_nameSize m_fault m_place m_trouble a_letters m_failed m_hasHouse a_r a_fresh a_st a_undone a_kept m_undos m_images a_from a_begin a_motor a_change a_startFrame a_changeFrame a_lostAt a_blackAt a_slips a_leftArc a_died a_arcs m_bestSum m_nearest m_nearestTown a_there a_backAt a_sorted a_parts m_seed1 m_darkNow), (cAI g a_r 311 d_r), (cAI g a_sorted 8 d_sorted2)]) := by
  refine cV.of (by decide) (Nat.le_of_ble_eq_true rfl) ?_
  intro p e s m args below meth c A X hr hi
  refine k_lveq [(0, .ref h0)] rfl ?_
  refine k_iconst (v := 0) X dX11_laySorted_k0.1.1.1.1 ic_0 ?_
  refine k_istore_n [(1, .int 0), (0, .ref h0)] X dX11_laySorted_k0.1.1.1.2 (nlt_e rfl) rfl ?_
  refine (fun hL : ∀ (nn_4 : Nat) (uf_1 : Nat → Int32) (u_2 : Int32), (2147483647 - u_2.toInt).toNat = nn_4 → (IV u_2 0 8) → Wk p l e _ s m args below meth c _ A g _ _ _ [(cO11_i1r1i10r1i2r5i2r12i3r4i2 h0 m_thrown a_tape m_taped m_size m_at m_end m_token m_whole m_nameSize m_fault m_place m_trouble a_letters m_failed m_hasHouse a_r a_fresh a_st a_undone a_kept m_undos m_images a_from a_begin a_motor a_change a_startFrame a_changeFrame a_lostAt a_blackAt a_slips a_leftArc a_died a_arcs m_bestSum m_nearest m_nearestTown a_there a_backAt a_sorted a_parts m_seed1 m_darkNow), (cAI g a_r 311 d_r), (cAI g a_sorted 8 uf_1)] [(1, .int u_2), (0, .ref h0)] 2 [] => hL _ d_sorted 0 rfl (iv_w iq_0_0_0 (zle_e rfl) (zle_e rfl))) ?_
  refine fun nn_4 => Nat.strongRecOn nn_4 (fun nn_4 ih_6 => ?_)
  intro uf_1 u_2 hm_5 hv_3
  refine k_iload_n X dX11_laySorted_k0.1.1.2.1 0 rfl ?_
  refine k_aload_n X dX11_laySorted_k0.1.1.2.2 1 rfl ?_
  refine k_get (ci := 11) X inlX11 rfl 15 (nlt_e rfl) dX11_laySorted_k0.1.2.1.1 mw170 0 rfl rfl ?_
  refine k_bipush (v := 12) X dX11_laySorted_k0.1.2.1.2 bi_12 ?_
  refine k_iald X dX11_laySorted_k0.1.2.2.1 1 rfl (by unfold vp_in; decide) ?_
  refine k_nm (fun z_7 ez_7 => ?_)
  have i_8 : z_7.toInt = (d_r 12).toInt := by rw [ez_7]; rfl
  have iv_9 : IV z_7 0 8 := rb_12 ez_7 hp_d_r
  refine k_ic_ge 72 X dX11_laySorted_k0.1.2.2.2 (jp_e rfl) (fun h_10 => ?_) (fun h_10 => ?_)
  · skip
    have j_11 : z_7.toInt ≤ u_2.toInt := iv_le h_10
    exact k_vret X hr dX11_laySorted_k2.2.2.2.2 (Nat.le_of_ble_eq_true rfl) (Nat.le_of_ble_eq_true rfl) [0, 1, 2] (vnd_e rfl) rfl rfl ⟨uf_1, rfl⟩
  · skip
    have j_12 : u_2.toInt < z_7.toInt := iv_nle h_10
    have iv_13 : IV u_2 0 7 := iv_ltL (iv_nle h_10) hv_3 iv_9 (zle_e rfl)
    have iv_14 : IV z_7 1 8 := iv_ltR (iv_nle h_10) hv_3 iv_9 (zle_e rfl)
    refine k_iload_n X dX11_laySorted_k0.2.1.1.1 0 rfl ?_
    refine k_istore_n [(2, .int u_2), (1, .int u_2), (0, .ref h0)] X dX11_laySorted_k0.2.1.1.2 (nlt_e rfl) rfl ?_
    refine (fun hL : ∀ (nn_18 : Nat) (uf_15 : Nat → Int32) (u_16 : Int32), u_16.toInt.toNat = nn_18 → (IV u_16 0 7) → Wk p l e _ s m args below meth c _ A g _ _ _ [(cO11_i1r1i10r1i2r5i2r12i3r4i2 h0 m_thrown a_tape m_taped m_size m_at m_end m_token m_whole m_nameSize m_fault m_place m_trouble a_letters m_failed m_hasHouse a_r a_fresh a_st a_undone a_kept m_undos m_images a_from a_begin a_motor a_change a_startFrame a_changeFrame a_lostAt a_blackAt a_slips a_leftArc a_died a_arcs m_bestSum m_nearest m_nearestTown a_there a_backAt a_sorted a_parts m_seed1 m_darkNow), (cAI g a_r 311 d_r), (cAI g a_sorted 8 uf_15)] [(2, .int u_16), (1, .int u_2), (0, .ref h0)] 15 [] => hL _ uf_1 u_2 rfl (iv_w iv_13 (zle_e rfl) (zle_e rfl))) ?_
    refine fun nn_18 => Nat.strongRecOn nn_18 (fun nn_18 ih_20 => ?_)
    intro uf_15 u_16 hm_19 hv_17
    refine k_iload_n X dX11_laySorted_k0.2.1.2.1 0 rfl ?_
    refine k_if_le 55 X dX11_laySorted_k0.2.1.2.2 (jp_e rfl) (fun h_21 => ?_) (fun h_21 => ?_)
    · skip
      have j_22 : u_16.toInt ≤ 0 := iv_le h_21
      have iv_23 : IV u_16 0 0 := iv_leL (iv_le h_21) hv_17 iq_0_0_0 (zle_e rfl)
      refine k_aload_n X dX11_laySorted_k2.1.1.2.2 2 rfl ?_
      refine k_get (ci := 11) X inlX11 rfl 39 (nlt_e rfl) dX11_laySorted_k2.1.2.1 mw189 0 rfl rfl ?_
      refine k_iload_n X dX11_laySorted_k2.1.2.2.1 0 rfl ?_
      refine k_aload_n X dX11_laySorted_k2.1.2.2.2 2 rfl ?_
      refine k_iload_n X dX11_laySorted_k2.2.1.1 1 rfl ?_
      refine k_callVI (n := 1) (As := [.int u_2]) (st := [.int u_16, .ref a_sorted]) X [(cO11_i1r1i10r1i2r5i2r12i3r4i2 h0 m_thrown a_tape m_taped m_size m_at m_end m_token m_whole m_nameSize m_fault m_place m_trouble a_letters m_failed m_hasHouse a_r a_fresh a_st a_undone a_kept m_undos m_images a_from a_begin a_motor a_change a_startFrame a_changeFrame a_lostAt a_blackAt a_slips a_leftArc a_died a_arcs m_bestSum m_nearest m_nearestTown a_there a_backAt a_sorted a_parts m_seed1 m_darkNow), (cAI g a_r 311 d_r)] [(cAI g a_sorted 8 uf_15)] [0, 1] [2] (m_reelAt l g h0 u_2 m_thrown a_tape m_taped m_size m_at m_end m_token m_whole m_nameSize m_fault m_place m_trouble a_letters m_failed m_hasHouse a_r a_fresh a_st a_undone a_kept m_undos m_images a_from a_begin a_motor a_change a_startFrame a_changeFrame a_lostAt a_blackAt a_slips a_leftArc a_died a_arcs m_bestSum m_nearest m_nearestTown a_there a_backAt a_sorted a_parts m_seed1 m_darkNow d_r (iv_w iv_13 (zle_e rfl) (zle_e rfl)) hp_d_r) dX11_laySorted_k2.2.1.2.1 mw723 mw724 mw725 mw5 mw726 rfl 11 rfl rfl 0 _ rfl yk_yX11_reelAt_1 rfl (Nat.le_of_ble_eq_true rfl) (Nat.le_of_ble_eq_true rfl) (Nat.le_of_ble_eq_true rfl) (Nat.le_of_ble_eq_true rfl) (Nat.le_of_ble_eq_true rfl) rfl rfl (vnd_e rfl) rfl (vnd_e rfl) (dsj_e rfl) ?_
      rintro r_24 w ⟨iv_25, rfl⟩
      refine k_ws [(cAI g a_sorted 8 uf_15), (cO11_i1r1i10r1i2r5i2r12i3r4i2 h0 m_thrown a_tape m_taped m_size m_at m_end m_token m_whole m_nameSize m_fault m_place m_trouble a_letters m_failed m_hasHouse a_r a_fresh a_st a_undone a_kept m_undos m_images a_from a_begin a_motor a_change a_startFrame a_changeFrame a_lostAt a_blackAt a_slips a_leftArc a_died a_arcs m_bestSum m_nearest m_nearestTown a_there a_backAt a_sorted a_parts m_seed1 m_darkNow), (cAI g a_r 311 d_r)] rfl ?_
      refine k_iast [(cAI g a_sorted 8 (upd uf_15 (u_16 : Int32).toNatClampNeg r_24)), (cO11_i1r1i10r1i2r5i2r12i3r4i2 h0 m_thrown a_tape m_taped m_size m_at m_end m_token m_whole m_nameSize m_fault m_place m_trouble a_letters m_failed m_hasHouse a_r a_fresh a_st a_undone a_kept m_undos m_images a_from a_begin a_motor a_change a_startFrame a_changeFrame a_lostAt a_blackAt a_slips a_leftArc a_died a_arcs m_bestSum m_nearest m_nearestTown a_there a_backAt a_sorted a_parts m_seed1 m_darkNow), (cAI g a_r 311 d_r)] X dX11_laySorted_k2.2.1.2.2 0 rfl (iv_in iv_23 (zle_e rfl) (zle_l rfl)) rfl ?_
      refine (fun hg : ∀ fa_26 : Nat → Int32, Wk p l e _ s m args below meth c _ A g _ _ _ [(cAI g a_sorted 8 fa_26), (cO11_i1r1i10r1i2r5i2r12i3r4i2 h0 m_thrown a_tape m_taped m_size m_at m_end m_token m_whole m_nameSize m_fault m_place m_trouble a_letters m_failed m_hasHouse a_r a_fresh a_st a_undone a_kept m_undos m_images a_from a_begin a_motor a_change a_startFrame a_changeFrame a_lostAt a_blackAt a_slips a_leftArc a_died a_arcs m_bestSum m_nearest m_nearestTown a_there a_backAt a_sorted a_parts m_seed1 m_darkNow), (cAI g a_r 311 d_r)] _ _ _ => hg _) (fun fa_26 => ?_)
      obtain ⟨z_27, ez_27⟩ : ∃ y : Int32, u_2 + Int32.ofInt 1 = y := ⟨_, rfl⟩
      refine k_iinc z_27 [(1, .int z_27), (2, .int u_16), (0, .ref h0)] 1 X dX11_laySorted_k2.2.2.1 rfl ez_27 (nlt_e rfl) rfl ?_
      have i_28 : z_27.toInt = u_2.toInt + 1 := in_inc ez_27 (oin_e rfl) iv_13 (zle_e rfl) (zle_e rfl)
      have iv_29 : IV z_27 1 8 := iz1 i_28 iv_13 (zle_e rfl) (zle_e rfl)
      refine k_goto 2 X dX11_laySorted_k2.2.2.2.1 (jp_e rfl) ?_
      refine k_lv [(1, .int z_27), (0, .ref h0)] [0, 2] rfl ?_
      refine k_sub [(cO11_i1r1i10r1i2r5i2r12i3r4i2 h0 m_thrown a_tape m_taped m_size m_at m_end m_token m_whole m_nameSize m_fault m_place m_trouble a_letters m_failed m_hasHouse a_r a_fresh a_st a_undone a_kept m_undos m_images a_from a_begin a_motor a_change a_startFrame a_changeFrame a_lostAt a_blackAt a_slips a_leftArc a_died a_arcs m_bestSum m_nearest m_nearestTown a_there a_backAt a_sorted a_parts m_seed1 m_darkNow), (cAI g a_r 311 d_r), (cAI g a_sorted 8 fa_26)] [1, 2, 0] rfl (by decide) rfl ?_
      exact ih_6 _ (by omega) fa_26 z_27 rfl (iv_w iv_29 (zle_e rfl) (zle_e rfl))
    · skip
      have j_30 : 0 < u_16.toInt := iv_nle h_21
      have iv_31 : IV u_16 1 7 := iv_ltR (iv_nle h_21) iq_0_0_0 hv_17 (zle_e rfl)
      refine k_aload_n X dX11_laySorted_k0.2.2.1.1 2 rfl ?_
      refine k_get (ci := 11) X inlX11 rfl 39 (nlt_e rfl) dX11_laySorted_k0.2.2.1.2 mw189 0 rfl rfl ?_
      refine k_iload_n X dX11_laySorted_k0.2.2.2.1 0 rfl ?_
      refine k_iconst (v := 1) X dX11_laySorted_k0.2.2.2.2 ic_1 ?_
      refine k_isub X dX11_laySorted_k1.1.1.1.1 ?_
      refine k_nm (fun z_32 ez_32 => ?_)
      have i_33 : z_32.toInt = u_16.toInt - 1 := in_sub ez_32 iv_31 iq_1_1_1 (zle_e rfl) (zle_e rfl)
      have iv_34 : IV z_32 0 6 := iz5 i_33 iv_31 (zle_e rfl) (zle_e rfl)
      refine k_iald X dX11_laySorted_k1.1.1.1.2 2 rfl (iv_in iv_34 (zle_e rfl) (zle_l rfl)) ?_
      refine k_nm (fun z_35 ez_35 => ?_)
      refine k_aload_n X dX11_laySorted_k1.1.1.2.1 2 rfl ?_
      refine k_iload_n X dX11_laySorted_k1.1.1.2.2 1 rfl ?_
      refine k_callVI (n := 1) (As := [.int u_2]) (st := [.int z_35]) X [(cO11_i1r1i10r1i2r5i2r12i3r4i2 h0 m_thrown a_tape m_taped m_size m_at m_end m_token m_whole m_nameSize m_fault m_place m_trouble a_letters m_failed m_hasHouse a_r a_fresh a_st a_undone a_kept m_undos m_images a_from a_begin a_motor a_change a_startFrame a_changeFrame a_lostAt a_blackAt a_slips a_leftArc a_died a_arcs m_bestSum m_nearest m_nearestTown a_there a_backAt a_sorted a_parts m_seed1 m_darkNow), (cAI g a_r 311 d_r)] [(cAI g a_sorted 8 uf_15)] [0, 1] [2] (m_reelAt l g h0 u_2 m_thrown a_tape m_taped m_size m_at m_end m_token m_whole m_nameSize m_fault m_place m_trouble a_letters m_failed m_hasHouse a_r a_fresh a_st a_undone a_kept m_undos m_images a_from a_begin a_motor a_change a_startFrame a_changeFrame a_lostAt a_blackAt a_slips a_leftArc a_died a_arcs m_bestSum m_nearest m_nearestTown a_there a_backAt a_sorted a_parts m_seed1 m_darkNow d_r (iv_w iv_13 (zle_e rfl) (zle_e rfl)) hp_d_r) dX11_laySorted_k1.1.2.1.1 mw723 mw724 mw725 mw5 mw726 rfl 11 rfl rfl 0 _ rfl yk_yX11_reelAt_1 rfl (Nat.le_of_ble_eq_true rfl) (Nat.le_of_ble_eq_true rfl) (Nat.le_of_ble_eq_true rfl) (Nat.le_of_ble_eq_true rfl) (Nat.le_of_ble_eq_true rfl) rfl rfl (vnd_e rfl) rfl (vnd_e rfl) (dsj_e rfl) ?_
      rintro r_36 w ⟨iv_37, rfl⟩
      refine k_ws [(cAI g a_sorted 8 uf_15), (cO11_i1r1i10r1i2r5i2r12i3r4i2 h0 m_thrown a_tape m_taped m_size m_at m_end m_token m_whole m_nameSize m_fault m_place m_trouble a_letters m_failed m_hasHouse a_r a_fresh a_st a_undone a_kept m_undos m_images a_from a_begin a_motor a_change a_startFrame a_changeFrame a_lostAt a_blackAt a_slips a_leftArc a_died a_arcs m_bestSum m_nearest m_nearestTown a_there a_backAt a_sorted a_parts m_seed1 m_darkNow), (cAI g a_r 311 d_r)] rfl ?_
      refine k_ic_le 55 X dX11_laySorted_k1.1.2.1.2 (jp_e rfl) (fun h_38 => ?_) (fun h_38 => ?_)
      · skip
        have j_39 : z_35.toInt ≤ r_36.toInt := iv_le h_38
        have iv_40 : IV z_35 (-2147483648) 7 := iv_leL (iv_le h_38) (iv_any z_35) iv_37 (zle_e rfl)
        refine k_aload_n X dX11_laySorted_k2.1.1.2.2 2 rfl ?_
        refine k_get (ci := 11) X inlX11 rfl 39 (nlt_e rfl) dX11_laySorted_k2.1.2.1 mw189 1 rfl rfl ?_
        refine k_iload_n X dX11_laySorted_k2.1.2.2.1 0 rfl ?_
        refine k_aload_n X dX11_laySorted_k2.1.2.2.2 2 rfl ?_
        refine k_iload_n X dX11_laySorted_k2.2.1.1 1 rfl ?_
        refine k_callVI (n := 1) (As := [.int u_2]) (st := [.int u_16, .ref a_sorted]) X [(cO11_i1r1i10r1i2r5i2r12i3r4i2 h0 m_thrown a_tape m_taped m_size m_at m_end m_token m_whole m_nameSize m_fault m_place m_trouble a_letters m_failed m_hasHouse a_r a_fresh a_st a_undone a_kept m_undos m_images a_from a_begin a_motor a_change a_startFrame a_changeFrame a_lostAt a_blackAt a_slips a_leftArc a_died a_arcs m_bestSum m_nearest m_nearestTown a_there a_backAt a_sorted a_parts m_seed1 m_darkNow), (cAI g a_r 311 d_r)] [(cAI g a_sorted 8 uf_15)] [1, 2] [0] (m_reelAt l g h0 u_2 m_thrown a_tape m_taped m_size m_at m_end m_token m_whole m_nameSize m_fault m_place m_trouble a_letters m_failed m_hasHouse a_r a_fresh a_st a_undone a_kept m_undos m_images a_from a_begin a_motor a_change a_startFrame a_changeFrame a_lostAt a_blackAt a_slips a_leftArc a_died a_arcs m_bestSum m_nearest m_nearestTown a_there a_backAt a_sorted a_parts m_seed1 m_darkNow d_r (iv_w iv_13 (zle_e rfl) (zle_e rfl)) hp_d_r) dX11_laySorted_k2.2.1.2.1 mw723 mw724 mw725 mw5 mw726 rfl 11 rfl rfl 0 _ rfl yk_yX11_reelAt_1 rfl (Nat.le_of_ble_eq_true rfl) (Nat.le_of_ble_eq_true rfl) (Nat.le_of_ble_eq_true rfl) (Nat.le_of_ble_eq_true rfl) (Nat.le_of_ble_eq_true rfl) rfl rfl (vnd_e rfl) rfl (vnd_e rfl) (dsj_e rfl) ?_
        rintro r_41 w ⟨iv_42, rfl⟩
        refine k_ws [(cAI g a_sorted 8 uf_15), (cO11_i1r1i10r1i2r5i2r12i3r4i2 h0 m_thrown a_tape m_taped m_size m_at m_end m_token m_whole m_nameSize m_fault m_place m_trouble a_letters m_failed m_hasHouse a_r a_fresh a_st a_undone a_kept m_undos m_images a_from a_begin a_motor a_change a_startFrame a_changeFrame a_lostAt a_blackAt a_slips a_leftArc a_died a_arcs m_bestSum m_nearest m_nearestTown a_there a_backAt a_sorted a_parts m_seed1 m_darkNow), (cAI g a_r 311 d_r)] rfl ?_
        refine k_iast [(cAI g a_sorted 8 (upd uf_15 (u_16 : Int32).toNatClampNeg r_41)), (cO11_i1r1i10r1i2r5i2r12i3r4i2 h0 m_thrown a_tape m_taped m_size m_at m_end m_token m_whole m_nameSize m_fault m_place m_trouble a_letters m_failed m_hasHouse a_r a_fresh a_st a_undone a_kept m_undos m_images a_from a_begin a_motor a_change a_startFrame a_changeFrame a_lostAt a_blackAt a_slips a_leftArc a_died a_arcs m_bestSum m_nearest m_nearestTown a_there a_backAt a_sorted a_parts m_seed1 m_darkNow), (cAI g a_r 311 d_r)] X dX11_laySorted_k2.2.1.2.2 0 rfl (iv_in iv_31 (zle_e rfl) (zle_l rfl)) rfl ?_
        refine (fun hg : ∀ fa_43 : Nat → Int32, Wk p l e _ s m args below meth c _ A g _ _ _ [(cAI g a_sorted 8 fa_43), (cO11_i1r1i10r1i2r5i2r12i3r4i2 h0 m_thrown a_tape m_taped m_size m_at m_end m_token m_whole m_nameSize m_fault m_place m_trouble a_letters m_failed m_hasHouse a_r a_fresh a_st a_undone a_kept m_undos m_images a_from a_begin a_motor a_change a_startFrame a_changeFrame a_lostAt a_blackAt a_slips a_leftArc a_died a_arcs m_bestSum m_nearest m_nearestTown a_there a_backAt a_sorted a_parts m_seed1 m_darkNow), (cAI g a_r 311 d_r)] _ _ _ => hg _) (fun fa_43 => ?_)
        obtain ⟨z_44, ez_44⟩ : ∃ y : Int32, u_2 + Int32.ofInt 1 = y := ⟨_, rfl⟩
        refine k_iinc z_44 [(1, .int z_44), (2, .int u_16), (0, .ref h0)] 1 X dX11_laySorted_k2.2.2.1 rfl ez_44 (nlt_e rfl) rfl ?_
        have i_45 : z_44.toInt = u_2.toInt + 1 := in_inc ez_44 (oin_e rfl) iv_13 (zle_e rfl) (zle_e rfl)
        have iv_46 : IV z_44 1 8 := iz1 i_45 iv_13 (zle_e rfl) (zle_e rfl)
        refine k_goto 2 X dX11_laySorted_k2.2.2.2.1 (jp_e rfl) ?_
        refine k_lv [(1, .int z_44), (0, .ref h0)] [0, 2] rfl ?_
        refine k_sub [(cO11_i1r1i10r1i2r5i2r12i3r4i2 h0 m_thrown a_tape m_taped m_size m_at m_end m_token m_whole m_nameSize m_fault m_place m_trouble a_letters m_failed m_hasHouse a_r a_fresh a_st a_undone a_kept m_undos m_images a_from a_begin a_motor a_change a_startFrame a_changeFrame a_lostAt a_blackAt a_slips a_leftArc a_died a_arcs m_bestSum m_nearest m_nearestTown a_there a_backAt a_sorted a_parts m_seed1 m_darkNow), (cAI g a_r 311 d_r), (cAI g a_sorted 8 fa_43)] [1, 2, 0] rfl (by decide) rfl ?_
        exact ih_6 _ (by omega) fa_43 z_44 rfl (iv_w iv_46 (zle_e rfl) (zle_e rfl))
      · skip
        have j_47 : r_36.toInt < z_35.toInt := iv_nle h_38
        have iv_48 : IV z_35 1 2147483647 := iv_ltR (iv_nle h_38) iv_37 (iv_any z_35) (zle_e rfl)
        refine k_aload_n X dX11_laySorted_k1.1.2.2.1 2 rfl ?_
        refine k_get (ci := 11) X inlX11 rfl 39 (nlt_e rfl) dX11_laySorted_k1.1.2.2.2 mw189 1 rfl rfl ?_
        refine k_iload_n X dX11_laySorted_k1.2.1.1.1 0 rfl ?_
        refine k_aload_n X dX11_laySorted_k1.2.1.1.2 2 rfl ?_
        refine k_get (ci := 11) X inlX11 rfl 39 (nlt_e rfl) dX11_laySorted_k1.2.1.2.1 mw189 1 rfl rfl ?_
        refine k_iload_n X dX11_laySorted_k1.2.1.2.2 0 rfl ?_
        refine k_iconst (v := 1) X dX11_laySorted_k1.2.2.1.1 ic_1 ?_
        refine k_isub X dX11_laySorted_k1.2.2.1.2 ?_
        refine k_to z_32 ez_32.symm ?_
        refine k_iald X dX11_laySorted_k1.2.2.2.1 0 rfl (iv_in iv_34 (zle_e rfl) (zle_l rfl)) ?_
        refine k_to z_35 ez_35.symm ?_
        refine k_iast [(cAI g a_sorted 8 (upd uf_15 (u_16 : Int32).toNatClampNeg z_35)), (cO11_i1r1i10r1i2r5i2r12i3r4i2 h0 m_thrown a_tape m_taped m_size m_at m_end m_token m_whole m_nameSize m_fault m_place m_trouble a_letters m_failed m_hasHouse a_r a_fresh a_st a_undone a_kept m_undos m_images a_from a_begin a_motor a_change a_startFrame a_changeFrame a_lostAt a_blackAt a_slips a_leftArc a_died a_arcs m_bestSum m_nearest m_nearestTown a_there a_backAt a_sorted a_parts m_seed1 m_darkNow), (cAI g a_r 311 d_r)] X dX11_laySorted_k1.2.2.2.2 0 rfl (iv_in iv_31 (zle_e rfl) (zle_l rfl)) rfl ?_
        refine (fun hg : ∀ fa_49 : Nat → Int32, Wk p l e _ s m args below meth c _ A g _ _ _ [(cAI g a_sorted 8 fa_49), (cO11_i1r1i10r1i2r5i2r12i3r4i2 h0 m_thrown a_tape m_taped m_size m_at m_end m_token m_whole m_nameSize m_fault m_place m_trouble a_letters m_failed m_hasHouse a_r a_fresh a_st a_undone a_kept m_undos m_images a_from a_begin a_motor a_change a_startFrame a_changeFrame a_lostAt a_blackAt a_slips a_leftArc a_died a_arcs m_bestSum m_nearest m_nearestTown a_there a_backAt a_sorted a_parts m_seed1 m_darkNow), (cAI g a_r 311 d_r)] _ _ _ => hg _) (fun fa_49 => ?_)
        obtain ⟨z_50, ez_50⟩ : ∃ y : Int32, u_16 + Int32.ofInt (-1) = y := ⟨_, rfl⟩
        refine k_iinc z_50 [(2, .int z_50), (1, .int u_2), (0, .ref h0)] 0 X dX11_laySorted_k2.1.1.1 rfl ez_50 (nlt_e rfl) rfl ?_
        have i_51 : z_50.toInt = u_16.toInt + (-1) := in_inc ez_50 (oin_e rfl) iv_31 (zle_e rfl) (zle_e rfl)
        have iv_52 : IV z_50 0 6 := iz1 i_51 iv_31 (zle_e rfl) (zle_e rfl)
        refine k_goto 15 X dX11_laySorted_k2.1.1.2.1 (jp_e rfl) ?_
        refine k_sub [(cO11_i1r1i10r1i2r5i2r12i3r4i2 h0 m_thrown a_tape m_taped m_size m_at m_end m_token m_whole m_nameSize m_fault m_place m_trouble a_letters m_failed m_hasHouse a_r a_fresh a_st a_undone a_kept m_undos m_images a_from a_begin a_motor a_change a_startFrame a_changeFrame a_lostAt a_blackAt a_slips a_leftArc a_died a_arcs m_bestSum m_nearest m_nearestTown a_there a_backAt a_sorted a_parts m_seed1 m_darkNow), (cAI g a_r 311 d_r), (cAI g a_sorted 8 fa_49)] [1, 2, 0] rfl (by decide) rfl ?_
        exact ih_20 _ (by omega) fa_49 z_50 rfl (iv_w iv_52 (zle_e rfl) (zle_e rfl))

theorem dX11_isEven_k0 : ((((dD cX11_isEven 0 (.iconst 1) 1 ∧ dD cX11_isEven 1 (.istore_n 2) 1) ∧ (dD cX11_isEven 2 (.iconst 0) 1 ∧ dD cX11_isEven 3 (.istore_n 3) 1)) ∧ ((dD cX11_isEven 4 (.iload_n 3) 1 ∧ dD cX11_isEven 5 (.aload_n 0) 1) ∧ (dD cX11_isEven 6 (.getfield 20) 3 ∧ dD cX11_isEven 9 (.bipush 6) 2))) ∧ (((dD cX11_isEven 11 .iaload 1 ∧ dD cX11_isEven 12 (.if_icmp .ge 94) 3) ∧ (dD cX11_isEven 15 (.iconst 0) 1 ∧ dD cX11_isEven 16 (.istore 4) 2)) ∧ ((dD cX11_isEven 18 (.iconst 0) 1 ∧ dD cX11_isEven 19 (.istore 5) 2) ∧ (dD cX11_isEven 21 (.iload 5) 2 ∧ dD cX11_isEven 23 (.aload_n 0) 1)))) := dkA16 (by decide +kernel)
theorem dX11_isEven_k1 : ((((dD cX11_isEven 24 (.getfield 20) 3 ∧ dD cX11_isEven 27 (.bipush 12) 2) ∧ (dD cX11_isEven 29 .iaload 1 ∧ dD cX11_isEven 30 (.if_icmp .ge 55) 3)) ∧ ((dD cX11_isEven 33 (.iload_n 1) 1 ∧ dD cX11_isEven 34 (.iload 5) 2) ∧ (dD cX11_isEven 36 (.invokestatic 320) 3 ∧ dD cX11_isEven 39 (.ifCond .eq 40) 3))) ∧ (((dD cX11_isEven 42 (.iload 4) 2 ∧ dD cX11_isEven 44 (.aload_n 0) 1) ∧ (dD cX11_isEven 45 (.iload 5) 2 ∧ dD cX11_isEven 47 (.invokevirtual 324) 3)) ∧ ((dD cX11_isEven 50 (.iload_n 3) 1 ∧ dD cX11_isEven 51 (.if_icmp .ne 7) 3) ∧ (dD cX11_isEven 54 (.iconst 1) 1 ∧ dD cX11_isEven 55 (.goto 4) 3)))) := dkA16 (by decide +kernel)
theorem dX11_isEven_k2 : ((((dD cX11_isEven 58 (.iconst 0) 1 ∧ dD cX11_isEven 59 (.aload_n 0) 1) ∧ (dD cX11_isEven 60 (.getfield 77) 3 ∧ dD cX11_isEven 63 (.iload 5) 2)) ∧ ((dD cX11_isEven 65 .iaload 1 ∧ dD cX11_isEven 66 (.iload_n 3) 1) ∧ (dD cX11_isEven 67 (.if_icmp .ne 7) 3 ∧ dD cX11_isEven 70 (.iconst 1) 1))) ∧ (((dD cX11_isEven 71 (.goto 4) 3 ∧ dD cX11_isEven 74 (.iconst 0) 1) ∧ (dD cX11_isEven 75 .isub 1 ∧ dD cX11_isEven 76 .iadd 1)) ∧ ((dD cX11_isEven 77 (.istore 4) 2 ∧ dD cX11_isEven 79 (.iinc 5 1) 3) ∧ (dD cX11_isEven 82 (.goto (-61)) 3 ∧ dD cX11_isEven 85 (.iload_n 2) 1)))) := dkA16 (by decide +kernel)
theorem dX11_isEven_k3 : (((dD cX11_isEven 86 (.ifCond .eq 12) 3 ∧ dD cX11_isEven 89 (.iload 4) 2) ∧ (dD cX11_isEven 91 (.ifCond .ne 7) 3 ∧ (dD cX11_isEven 94 (.iconst 1) 1 ∧ dD cX11_isEven 95 (.goto 4) 3))) ∧ ((dD cX11_isEven 98 (.iconst 0) 1 ∧ (dD cX11_isEven 99 (.istore_n 2) 1 ∧ dD cX11_isEven 100 (.iinc 3 1) 3)) ∧ (dD cX11_isEven 103 (.goto (-99)) 3 ∧ (dD cX11_isEven 106 (.iload_n 2) 1 ∧ dD cX11_isEven 107 .ireturn 1)))) := dkA11 (by decide +kernel)
set_option maxHeartbeats 4000000 in
set_option maxRecDepth 100000 in
theorem m_isEven (l : Launch) (g : Gx) (h0 : Nat) (p0 : Int32) (m_thrown : Int32) (a_tape : Nat) (m_taped : Int32) (m_size : Int32) (m_at : Int32) (m_end : Int32) (m_token : Int32) (m_whole : Int32) (m_nameSize : Int32) (m_fault : Int32) (m_place : Int32) (m_trouble : Int32) (a_letters : Nat) (m_failed : Int32) (m_hasHouse : Int32) (a_r : Nat) (a_fresh : Nat) (a_st : Nat) (a_undone : Nat) (a_kept : Nat) (m_undos : Int32) (m_images : Int32) (a_from : Nat) (a_begin : Nat) (a_motor : Nat) (a_change : Nat) (a_startFrame : Nat) (a_changeFrame : Nat) (a_lostAt : Nat) (a_blackAt : Nat) (a_slips : Nat) (a_leftArc : Nat) (a_died : Nat) (a_arcs : Nat) (m_bestSum : Int32) (m_nearest : Int32) (m_nearestTown : Int32) (a_there : Nat) (a_backAt : Nat) (a_sorted : Nat) (a_parts : Nat) (m_seed1 : Int32) (m_darkNow : Int32) (d_r : Nat → Int32) (d_sorted : Nat → Int32) (hp_d_r : RInv d_r) : cI l g yX11_isEven cX11_isEven 6 (some .boolean) 1 21 0 0 [.ref h0, .int p0] [(cO11_i1r1i10r1i2r5i2r12i3r4i2 h0 m_thrown a_tape m_taped m_size m_at m_end m_token m_whole m_nameSize m_fault m_place m_trouble a_letters m_failed m_hasHouse a_r a_fresh a_st a_undone a_kept m_undos m_images a_from a_begin a_motor a_change a_startFrame a_changeFrame a_lostAt a_blackAt a_slips a_leftArc a_died a_arcs m_bestSum m_nearest m_nearestTown a_there a_backAt a_sorted a_parts m_seed1 m_darkNow), (cAI g a_r 311 d_r), (cAI g a_sorted 8 d_sorted)] (fun r w => IV r 0 1 ∧ w = [(cO11_i1r1i10r1i2r5i2r12i3r4i2 h0 m_thrown a_tape m_taped m_size m_at m_end m_token m_whole m_nameSize m_fault m_place m_trouble a_letters m_failed m_hasHouse a_r a_fresh a_st a_undone a_kept m_undos m_images a_from a_begin a_motor a_change a_startFrame a_changeFrame a_lostAt a_blackAt a_slips a_leftArc a_died a_arcs m_bestSum m_nearest m_nearestTown a_there a_backAt a_sorted a_parts m_seed1 m_darkNow), (cAI g a_r 311 d_r), (cAI g a_sorted 8 d_sorted)]) := by
  refine cI.of (by decide) (Nat.le_of_ble_eq_true rfl) ?_
  intro p e s m args below meth c A X hr hi
  refine k_lveq [(0, .ref h0), (1, .int p0)] rfl ?_
  refine k_iconst (v := 1) X dX11_isEven_k0.1.1.1.1 ic_1 ?_
  refine k_istore_n [(2, .int 1), (0, .ref h0), (1, .int p0)] X dX11_isEven_k0.1.1.1.2 (nlt_e rfl) rfl ?_
  refine k_iconst (v := 0) X dX11_isEven_k0.1.1.2.1 ic_0 ?_
  refine k_istore_n [(3, .int 0), (2, .int 1), (0, .ref h0), (1, .int p0)] X dX11_isEven_k0.1.1.2.2 (nlt_e rfl) rfl ?_
  refine (fun hL : ∀ (nn_5 : Nat) (u_1 : Int32) (u_3 : Int32), (2147483647 - u_3.toInt).toNat = nn_5 → (IV u_1 0 1) → (IV u_3 0 8) → Wk p l e _ s m args below meth c _ A g _ _ _ [(cO11_i1r1i10r1i2r5i2r12i3r4i2 h0 m_thrown a_tape m_taped m_size m_at m_end m_token m_whole m_nameSize m_fault m_place m_trouble a_letters m_failed m_hasHouse a_r a_fresh a_st a_undone a_kept m_undos m_images a_from a_begin a_motor a_change a_startFrame a_changeFrame a_lostAt a_blackAt a_slips a_leftArc a_died a_arcs m_bestSum m_nearest m_nearestTown a_there a_backAt a_sorted a_parts m_seed1 m_darkNow), (cAI g a_r 311 d_r), (cAI g a_sorted 8 d_sorted)] [(3, .int u_3), (2, .int u_1), (0, .ref h0), (1, .int p0)] 4 [] => hL _ 1 0 rfl (iv_w iq_1_1_1 (zle_e rfl) (zle_e rfl)) (iv_w iq_0_0_0 (zle_e rfl) (zle_e rfl))) ?_
  refine fun nn_5 => Nat.strongRecOn nn_5 (fun nn_5 ih_7 => ?_)
  intro u_1 u_3 hm_6 hv_2 hv_4
  refine k_iload_n X dX11_isEven_k0.1.2.1.1 0 rfl ?_
  refine k_aload_n X dX11_isEven_k0.1.2.1.2 2 rfl ?_
  refine k_get (ci := 11) X inlX11 rfl 15 (nlt_e rfl) dX11_isEven_k0.1.2.2.1 mw170 0 rfl rfl ?_
  refine k_bipush (v := 6) X dX11_isEven_k0.1.2.2.2 bi_6 ?_
  refine k_iald X dX11_isEven_k0.2.1.1.1 1 rfl (by unfold vp_in; decide) ?_
  refine k_nm (fun z_8 ez_8 => ?_)
  have i_9 : z_8.toInt = (d_r 6).toInt := by rw [ez_8]; rfl
  have iv_10 : IV z_8 0 8 := rb_6 ez_8 hp_d_r
  refine k_ic_ge 106 X dX11_isEven_k0.2.1.1.2 (jp_e rfl) (fun h_11 => ?_) (fun h_11 => ?_)
  · skip
    have j_12 : z_8.toInt ≤ u_3.toInt := iv_le h_11
    refine k_iload_n X dX11_isEven_k3.2.2.2.1 1 rfl ?_
    exact k_zret X hr (zn_b (iv_w hv_2 (zle_e rfl) (zle_e rfl))) dX11_isEven_k3.2.2.2.2 (Nat.le_of_ble_eq_true rfl) (Nat.le_of_ble_eq_true rfl) [0, 1, 2] (vnd_e rfl) rfl rfl ⟨(iv_w hv_2 (zle_e rfl) (zle_e rfl)), rfl⟩
  · skip
    have j_13 : u_3.toInt < z_8.toInt := iv_nle h_11
    have iv_14 : IV u_3 0 7 := iv_ltL (iv_nle h_11) hv_4 iv_10 (zle_e rfl)
    have iv_15 : IV z_8 1 8 := iv_ltR (iv_nle h_11) hv_4 iv_10 (zle_e rfl)
    refine k_iconst (v := 0) X dX11_isEven_k0.2.1.2.1 ic_0 ?_
    refine k_istore [(4, .int 0), (3, .int u_3), (2, .int u_1), (0, .ref h0), (1, .int p0)] X dX11_isEven_k0.2.1.2.2 (nlt_e rfl) rfl ?_
    refine k_iconst (v := 0) X dX11_isEven_k0.2.2.1.1 ic_0 ?_
    refine k_istore [(5, .int 0), (4, .int 0), (3, .int u_3), (2, .int u_1), (0, .ref h0), (1, .int p0)] X dX11_isEven_k0.2.2.1.2 (nlt_e rfl) rfl ?_
    refine (fun hL : ∀ (nn_19 : Nat) (u_16 : Int32) (u_17 : Int32), (2147483647 - u_17.toInt).toNat = nn_19 → (IV u_17 0 8) → Wk p l e _ s m args below meth c _ A g _ _ _ [(cO11_i1r1i10r1i2r5i2r12i3r4i2 h0 m_thrown a_tape m_taped m_size m_at m_end m_token m_whole m_nameSize m_fault m_place m_trouble a_letters m_failed m_hasHouse a_r a_fresh a_st a_undone a_kept m_undos m_images a_from a_begin a_motor a_change a_startFrame a_changeFrame a_lostAt a_blackAt a_slips a_leftArc a_died a_arcs m_bestSum m_nearest m_nearestTown a_there a_backAt a_sorted a_parts m_seed1 m_darkNow), (cAI g a_r 311 d_r), (cAI g a_sorted 8 d_sorted)] [(5, .int u_17), (4, .int u_16), (3, .int u_3), (2, .int u_1), (0, .ref h0), (1, .int p0)] 21 [] => hL _ 0 0 rfl (iv_w iq_0_0_0 (zle_e rfl) (zle_e rfl))) ?_
    refine fun nn_19 => Nat.strongRecOn nn_19 (fun nn_19 ih_21 => ?_)
    intro u_16 u_17 hm_20 hv_18
    refine k_iload X dX11_isEven_k0.2.2.2.1 0 rfl ?_
    refine k_aload_n X dX11_isEven_k0.2.2.2.2 4 rfl ?_
    refine k_get (ci := 11) X inlX11 rfl 15 (nlt_e rfl) dX11_isEven_k1.1.1.1.1 mw170 0 rfl rfl ?_
    refine k_bipush (v := 12) X dX11_isEven_k1.1.1.1.2 bi_12 ?_
    refine k_iald X dX11_isEven_k1.1.1.2.1 1 rfl (by unfold vp_in; decide) ?_
    refine k_nm (fun z_22 ez_22 => ?_)
    have i_23 : z_22.toInt = (d_r 12).toInt := by rw [ez_22]; rfl
    have iv_24 : IV z_22 0 8 := rb_12 ez_22 hp_d_r
    refine k_ic_ge 85 X dX11_isEven_k1.1.1.2.2 (jp_e rfl) (fun h_25 => ?_) (fun h_25 => ?_)
    · skip
      have j_26 : z_22.toInt ≤ u_17.toInt := iv_le h_25
      refine k_iload_n X dX11_isEven_k2.2.2.2.2 3 rfl ?_
      refine k_if_eq 98 X dX11_isEven_k3.1.1.1 (jp_e rfl) (fun h_27 => ?_) (fun h_27 => ?_)
      · skip
        have iv_28 : IV u_1 0 0 := iv_meet hv_2 (iv_e h_27 iq_0_0_0) (zle_o rfl) (zle_o rfl)
        refine k_iconst (v := 0) X dX11_isEven_k3.2.1.1 ic_0 ?_
        refine k_istore_n [(2, .int 0), (5, .int u_17), (4, .int u_16), (3, .int u_3), (0, .ref h0), (1, .int p0)] X dX11_isEven_k3.2.1.2.1 (nlt_e rfl) rfl ?_
        obtain ⟨z_29, ez_29⟩ : ∃ y : Int32, u_3 + Int32.ofInt 1 = y := ⟨_, rfl⟩
        refine k_iinc z_29 [(3, .int z_29), (2, .int 0), (5, .int u_17), (4, .int u_16), (0, .ref h0), (1, .int p0)] 3 X dX11_isEven_k3.2.1.2.2 rfl ez_29 (nlt_e rfl) rfl ?_
        have i_30 : z_29.toInt = u_3.toInt + 1 := in_inc ez_29 (oin_e rfl) iv_14 (zle_e rfl) (zle_e rfl)
        have iv_31 : IV z_29 1 8 := iz1 i_30 iv_14 (zle_e rfl) (zle_e rfl)
        refine k_goto 4 X dX11_isEven_k3.2.2.1 (jp_e rfl) ?_
        refine k_lv [(3, .int z_29), (2, .int 0), (0, .ref h0), (1, .int p0)] [0, 1, 4, 5] rfl ?_
        exact ih_7 _ (by omega) 0 z_29 rfl (iv_w iq_0_0_0 (zle_e rfl) (zle_e rfl)) (iv_w iv_31 (zle_e rfl) (zle_e rfl))
      · skip
        have iv_32 : IV u_1 1 1 := iv_neL h_27 hv_2 iq_0_0_0 (zle_e rfl)
        refine k_iload X dX11_isEven_k3.1.1.2 1 rfl ?_
        refine k_if_ne 98 X dX11_isEven_k3.1.2.1 (jp_e rfl) (fun h_33 => ?_) (fun h_33 => ?_)
        · skip
          refine k_iconst (v := 0) X dX11_isEven_k3.2.1.1 ic_0 ?_
          refine k_istore_n [(2, .int 0), (5, .int u_17), (4, .int u_16), (3, .int u_3), (0, .ref h0), (1, .int p0)] X dX11_isEven_k3.2.1.2.1 (nlt_e rfl) rfl ?_
          obtain ⟨z_34, ez_34⟩ : ∃ y : Int32, u_3 + Int32.ofInt 1 = y := ⟨_, rfl⟩
          refine k_iinc z_34 [(3, .int z_34), (2, .int 0), (5, .int u_17), (4, .int u_16), (0, .ref h0), (1, .int p0)] 3 X dX11_isEven_k3.2.1.2.2 rfl ez_34 (nlt_e rfl) rfl ?_
          have i_35 : z_34.toInt = u_3.toInt + 1 := in_inc ez_34 (oin_e rfl) iv_14 (zle_e rfl) (zle_e rfl)
          have iv_36 : IV z_34 1 8 := iz1 i_35 iv_14 (zle_e rfl) (zle_e rfl)
          refine k_goto 4 X dX11_isEven_k3.2.2.1 (jp_e rfl) ?_
          refine k_lv [(3, .int z_34), (2, .int 0), (0, .ref h0), (1, .int p0)] [0, 1, 4, 5] rfl ?_
          exact ih_7 _ (by omega) 0 z_34 rfl (iv_w iq_0_0_0 (zle_e rfl) (zle_e rfl)) (iv_w iv_36 (zle_e rfl) (zle_e rfl))
        · skip
          have iv_37 : IV u_16 0 0 := iv_meet (iv_any u_16) (iv_e h_33 iq_0_0_0) (zle_o rfl) (zle_o rfl)
          refine k_iconst (v := 1) X dX11_isEven_k3.1.2.2.1 ic_1 ?_
          refine k_goto 99 X dX11_isEven_k3.1.2.2.2 (jp_e rfl) ?_
          refine k_istore_n [(2, .int 1), (5, .int u_17), (4, .int u_16), (3, .int u_3), (0, .ref h0), (1, .int p0)] X dX11_isEven_k3.2.1.2.1 (nlt_e rfl) rfl ?_
          obtain ⟨z_38, ez_38⟩ : ∃ y : Int32, u_3 + Int32.ofInt 1 = y := ⟨_, rfl⟩
          refine k_iinc z_38 [(3, .int z_38), (2, .int 1), (5, .int u_17), (4, .int u_16), (0, .ref h0), (1, .int p0)] 3 X dX11_isEven_k3.2.1.2.2 rfl ez_38 (nlt_e rfl) rfl ?_
          have i_39 : z_38.toInt = u_3.toInt + 1 := in_inc ez_38 (oin_e rfl) iv_14 (zle_e rfl) (zle_e rfl)
          have iv_40 : IV z_38 1 8 := iz1 i_39 iv_14 (zle_e rfl) (zle_e rfl)
          refine k_goto 4 X dX11_isEven_k3.2.2.1 (jp_e rfl) ?_
          refine k_lv [(3, .int z_38), (2, .int 1), (0, .ref h0), (1, .int p0)] [0, 1, 4, 5] rfl ?_
          exact ih_7 _ (by omega) 1 z_38 rfl (iv_w iq_1_1_1 (zle_e rfl) (zle_e rfl)) (iv_w iv_40 (zle_e rfl) (zle_e rfl))
    · skip
      have j_41 : u_17.toInt < z_22.toInt := iv_nle h_25
      have iv_42 : IV u_17 0 7 := iv_ltL (iv_nle h_25) hv_18 iv_24 (zle_e rfl)
      have iv_43 : IV z_22 1 8 := iv_ltR (iv_nle h_25) hv_18 iv_24 (zle_e rfl)
      refine k_iload_n X dX11_isEven_k1.1.2.1.1 5 rfl ?_
      refine k_iload X dX11_isEven_k1.1.2.1.2 0 rfl ?_
      refine k_callSI (n := 2) (As := [.int p0, .int u_17]) (st := []) X [] [(cO11_i1r1i10r1i2r5i2r12i3r4i2 h0 m_thrown a_tape m_taped m_size m_at m_end m_token m_whole m_nameSize m_fault m_place m_trouble a_letters m_failed m_hasHouse a_r a_fresh a_st a_undone a_kept m_undos m_images a_from a_begin a_motor a_change a_startFrame a_changeFrame a_lostAt a_blackAt a_slips a_leftArc a_died a_arcs m_bestSum m_nearest m_nearestTown a_there a_backAt a_sorted a_parts m_seed1 m_darkNow), (cAI g a_r 311 d_r), (cAI g a_sorted 8 d_sorted)] [] [0, 1, 2] (m_hasBit l g p0 u_17) dX11_isEven_k1.1.2.2.1 mw686 mw687 mw5 mw688 yk_yX11_hasBit_2 rfl (Nat.le_of_ble_eq_true rfl) (Nat.le_of_ble_eq_true rfl) (Nat.le_of_ble_eq_true rfl) (Nat.le_of_ble_eq_true rfl) (Nat.le_of_ble_eq_true rfl) rfl rfl (vnd_e rfl) rfl (vnd_e rfl) (dsj_e rfl) ?_
      rintro r_44 w ⟨iv_45, rfl⟩
      refine k_ws [(cO11_i1r1i10r1i2r5i2r12i3r4i2 h0 m_thrown a_tape m_taped m_size m_at m_end m_token m_whole m_nameSize m_fault m_place m_trouble a_letters m_failed m_hasHouse a_r a_fresh a_st a_undone a_kept m_undos m_images a_from a_begin a_motor a_change a_startFrame a_changeFrame a_lostAt a_blackAt a_slips a_leftArc a_died a_arcs m_bestSum m_nearest m_nearestTown a_there a_backAt a_sorted a_parts m_seed1 m_darkNow), (cAI g a_r 311 d_r), (cAI g a_sorted 8 d_sorted)] rfl ?_
      refine k_if_eq 79 X dX11_isEven_k1.1.2.2.2 (jp_e rfl) (fun h_46 => ?_) (fun h_46 => ?_)
      · skip
        have iv_47 : IV r_44 0 0 := iv_meet iv_45 (iv_e h_46 iq_0_0_0) (zle_o rfl) (zle_o rfl)
        obtain ⟨z_48, ez_48⟩ : ∃ y : Int32, u_17 + Int32.ofInt 1 = y := ⟨_, rfl⟩
        refine k_iinc z_48 [(5, .int z_48), (4, .int u_16), (3, .int u_3), (2, .int u_1), (0, .ref h0), (1, .int p0)] 0 X dX11_isEven_k2.2.2.1.2 rfl ez_48 (nlt_e rfl) rfl ?_
        have i_49 : z_48.toInt = u_17.toInt + 1 := in_inc ez_48 (oin_e rfl) iv_42 (zle_e rfl) (zle_e rfl)
        have iv_50 : IV z_48 1 8 := iz1 i_49 iv_42 (zle_e rfl) (zle_e rfl)
        refine k_goto 21 X dX11_isEven_k2.2.2.2.1 (jp_e rfl) ?_
        exact ih_21 _ (by omega) u_16 z_48 rfl (iv_w iv_50 (zle_e rfl) (zle_e rfl))
      · skip
        have iv_51 : IV r_44 1 1 := iv_neL h_46 iv_45 iq_0_0_0 (zle_e rfl)
        refine k_iload X dX11_isEven_k1.2.1.1.1 1 rfl ?_
        refine k_aload_n X dX11_isEven_k1.2.1.1.2 4 rfl ?_
        refine k_iload X dX11_isEven_k1.2.1.2.1 0 rfl ?_
        refine k_callVI (n := 1) (As := [.int u_17]) (st := [.int u_16]) X [(cO11_i1r1i10r1i2r5i2r12i3r4i2 h0 m_thrown a_tape m_taped m_size m_at m_end m_token m_whole m_nameSize m_fault m_place m_trouble a_letters m_failed m_hasHouse a_r a_fresh a_st a_undone a_kept m_undos m_images a_from a_begin a_motor a_change a_startFrame a_changeFrame a_lostAt a_blackAt a_slips a_leftArc a_died a_arcs m_bestSum m_nearest m_nearestTown a_there a_backAt a_sorted a_parts m_seed1 m_darkNow), (cAI g a_r 311 d_r)] [(cAI g a_sorted 8 d_sorted)] [0, 1] [2] (m_reelAt l g h0 u_17 m_thrown a_tape m_taped m_size m_at m_end m_token m_whole m_nameSize m_fault m_place m_trouble a_letters m_failed m_hasHouse a_r a_fresh a_st a_undone a_kept m_undos m_images a_from a_begin a_motor a_change a_startFrame a_changeFrame a_lostAt a_blackAt a_slips a_leftArc a_died a_arcs m_bestSum m_nearest m_nearestTown a_there a_backAt a_sorted a_parts m_seed1 m_darkNow d_r (iv_w iv_42 (zle_e rfl) (zle_e rfl)) hp_d_r) dX11_isEven_k1.2.1.2.2 mw723 mw724 mw725 mw5 mw726 rfl 11 rfl rfl 0 _ rfl yk_yX11_reelAt_1 rfl (Nat.le_of_ble_eq_true rfl) (Nat.le_of_ble_eq_true rfl) (Nat.le_of_ble_eq_true rfl) (Nat.le_of_ble_eq_true rfl) (Nat.le_of_ble_eq_true rfl) rfl rfl (vnd_e rfl) rfl (vnd_e rfl) (dsj_e rfl) ?_
        rintro r_52 w ⟨iv_53, rfl⟩
        refine k_ws [(cAI g a_sorted 8 d_sorted), (cO11_i1r1i10r1i2r5i2r12i3r4i2 h0 m_thrown a_tape m_taped m_size m_at m_end m_token m_whole m_nameSize m_fault m_place m_trouble a_letters m_failed m_hasHouse a_r a_fresh a_st a_undone a_kept m_undos m_images a_from a_begin a_motor a_change a_startFrame a_changeFrame a_lostAt a_blackAt a_slips a_leftArc a_died a_arcs m_bestSum m_nearest m_nearestTown a_there a_backAt a_sorted a_parts m_seed1 m_darkNow), (cAI g a_r 311 d_r)] rfl ?_
        refine k_iload_n X dX11_isEven_k1.2.2.1.1 2 rfl ?_
        refine k_ic_ne 58 X dX11_isEven_k1.2.2.1.2 (jp_e rfl) (fun h_54 => ?_) (fun h_54 => ?_)
        · skip
          refine k_iconst (v := 0) X dX11_isEven_k2.1.1.1.1 ic_0 ?_
          refine k_aload_n X dX11_isEven_k2.1.1.1.2 4 rfl ?_
          refine k_get (ci := 11) X inlX11 rfl 39 (nlt_e rfl) dX11_isEven_k2.1.1.2.1 mw189 1 rfl rfl ?_
          refine k_iload X dX11_isEven_k2.1.1.2.2 0 rfl ?_
          refine k_iald X dX11_isEven_k2.1.2.1.1 0 rfl (iv_in iv_42 (zle_e rfl) (zle_l rfl)) ?_
          refine k_nm (fun z_55 ez_55 => ?_)
          refine k_iload_n X dX11_isEven_k2.1.2.1.2 2 rfl ?_
          refine k_ic_ne 74 X dX11_isEven_k2.1.2.2.1 (jp_e rfl) (fun h_56 => ?_) (fun h_56 => ?_)
          · skip
            refine k_iconst (v := 0) X dX11_isEven_k2.2.1.1.2 ic_0 ?_
            refine k_isub X dX11_isEven_k2.2.1.2.1 ?_
            refine k_to (0) (by decide) ?_
            refine k_iadd X dX11_isEven_k2.2.1.2.2 ?_
            refine k_nm (fun z_57 ez_57 => ?_)
            have i_58 : z_57.toInt = u_16.toInt + 0 := in_add ez_57 (iv_any u_16) iq_0_0_0 (zle_e rfl) (zle_e rfl)
            have iv_59 : IV z_57 (-2147483648) 2147483647 := by have := (iv_any u_16); have := iq_0_0_0; rw [IV, i_58]; omega
            refine k_istore [(4, .int z_57), (5, .int u_17), (3, .int u_3), (2, .int u_1), (0, .ref h0), (1, .int p0)] X dX11_isEven_k2.2.2.1.1 (nlt_e rfl) rfl ?_
            obtain ⟨z_60, ez_60⟩ : ∃ y : Int32, u_17 + Int32.ofInt 1 = y := ⟨_, rfl⟩
            refine k_iinc z_60 [(5, .int z_60), (4, .int z_57), (3, .int u_3), (2, .int u_1), (0, .ref h0), (1, .int p0)] 1 X dX11_isEven_k2.2.2.1.2 rfl ez_60 (nlt_e rfl) rfl ?_
            have i_61 : z_60.toInt = u_17.toInt + 1 := in_inc ez_60 (oin_e rfl) iv_42 (zle_e rfl) (zle_e rfl)
            have iv_62 : IV z_60 1 8 := iz1 i_61 iv_42 (zle_e rfl) (zle_e rfl)
            refine k_goto 21 X dX11_isEven_k2.2.2.2.1 (jp_e rfl) ?_
            refine k_sub [(cO11_i1r1i10r1i2r5i2r12i3r4i2 h0 m_thrown a_tape m_taped m_size m_at m_end m_token m_whole m_nameSize m_fault m_place m_trouble a_letters m_failed m_hasHouse a_r a_fresh a_st a_undone a_kept m_undos m_images a_from a_begin a_motor a_change a_startFrame a_changeFrame a_lostAt a_blackAt a_slips a_leftArc a_died a_arcs m_bestSum m_nearest m_nearestTown a_there a_backAt a_sorted a_parts m_seed1 m_darkNow), (cAI g a_r 311 d_r), (cAI g a_sorted 8 d_sorted)] [1, 2, 0] rfl (by decide) rfl ?_
            exact ih_21 _ (by omega) z_57 z_60 rfl (iv_w iv_62 (zle_e rfl) (zle_e rfl))
          · skip
            have iv_63 : IV z_55 0 7 := iv_meet (iv_any z_55) (iv_e h_56 iv_14) (zle_o rfl) (zle_o rfl)
            refine k_iconst (v := 1) X dX11_isEven_k2.1.2.2.2 ic_1 ?_
            refine k_goto 75 X dX11_isEven_k2.2.1.1.1 (jp_e rfl) ?_
            refine k_isub X dX11_isEven_k2.2.1.2.1 ?_
            refine k_to (-1) (by decide) ?_
            refine k_iadd X dX11_isEven_k2.2.1.2.2 ?_
            refine k_nm (fun z_64 ez_64 => ?_)
            refine k_istore [(4, .int z_64), (5, .int u_17), (3, .int u_3), (2, .int u_1), (0, .ref h0), (1, .int p0)] X dX11_isEven_k2.2.2.1.1 (nlt_e rfl) rfl ?_
            obtain ⟨z_66, ez_66⟩ : ∃ y : Int32, u_17 + Int32.ofInt 1 = y := ⟨_, rfl⟩
            refine k_iinc z_66 [(5, .int z_66), (4, .int z_64), (3, .int u_3), (2, .int u_1), (0, .ref h0), (1, .int p0)] 1 X dX11_isEven_k2.2.2.1.2 rfl ez_66 (nlt_e rfl) rfl ?_
            have i_67 : z_66.toInt = u_17.toInt + 1 := in_inc ez_66 (oin_e rfl) iv_42 (zle_e rfl) (zle_e rfl)
            have iv_68 : IV z_66 1 8 := iz1 i_67 iv_42 (zle_e rfl) (zle_e rfl)
            refine k_goto 21 X dX11_isEven_k2.2.2.2.1 (jp_e rfl) ?_
            refine k_sub [(cO11_i1r1i10r1i2r5i2r12i3r4i2 h0 m_thrown a_tape m_taped m_size m_at m_end m_token m_whole m_nameSize m_fault m_place m_trouble a_letters m_failed m_hasHouse a_r a_fresh a_st a_undone a_kept m_undos m_images a_from a_begin a_motor a_change a_startFrame a_changeFrame a_lostAt a_blackAt a_slips a_leftArc a_died a_arcs m_bestSum m_nearest m_nearestTown a_there a_backAt a_sorted a_parts m_seed1 m_darkNow), (cAI g a_r 311 d_r), (cAI g a_sorted 8 d_sorted)] [1, 2, 0] rfl (by decide) rfl ?_
            exact ih_21 _ (by omega) z_64 z_66 rfl (iv_w iv_68 (zle_e rfl) (zle_e rfl))
        · skip
          refine k_iconst (v := 1) X dX11_isEven_k1.2.2.2.1 ic_1 ?_
          refine k_goto 59 X dX11_isEven_k1.2.2.2.2 (jp_e rfl) ?_
          refine k_aload_n X dX11_isEven_k2.1.1.1.2 4 rfl ?_
          refine k_get (ci := 11) X inlX11 rfl 39 (nlt_e rfl) dX11_isEven_k2.1.1.2.1 mw189 1 rfl rfl ?_
          refine k_iload X dX11_isEven_k2.1.1.2.2 0 rfl ?_
          refine k_iald X dX11_isEven_k2.1.2.1.1 0 rfl (iv_in iv_42 (zle_e rfl) (zle_l rfl)) ?_
          refine k_nm (fun z_69 ez_69 => ?_)
          refine k_iload_n X dX11_isEven_k2.1.2.1.2 2 rfl ?_
          refine k_ic_ne 74 X dX11_isEven_k2.1.2.2.1 (jp_e rfl) (fun h_70 => ?_) (fun h_70 => ?_)
          · skip
            refine k_iconst (v := 0) X dX11_isEven_k2.2.1.1.2 ic_0 ?_
            refine k_isub X dX11_isEven_k2.2.1.2.1 ?_
            refine k_to (1) (by decide) ?_
            refine k_iadd X dX11_isEven_k2.2.1.2.2 ?_
            refine k_nm (fun z_71 ez_71 => ?_)
            refine k_istore [(4, .int z_71), (5, .int u_17), (3, .int u_3), (2, .int u_1), (0, .ref h0), (1, .int p0)] X dX11_isEven_k2.2.2.1.1 (nlt_e rfl) rfl ?_
            obtain ⟨z_73, ez_73⟩ : ∃ y : Int32, u_17 + Int32.ofInt 1 = y := ⟨_, rfl⟩
            refine k_iinc z_73 [(5, .int z_73), (4, .int z_71), (3, .int u_3), (2, .int u_1), (0, .ref h0), (1, .int p0)] 1 X dX11_isEven_k2.2.2.1.2 rfl ez_73 (nlt_e rfl) rfl ?_
            have i_74 : z_73.toInt = u_17.toInt + 1 := in_inc ez_73 (oin_e rfl) iv_42 (zle_e rfl) (zle_e rfl)
            have iv_75 : IV z_73 1 8 := iz1 i_74 iv_42 (zle_e rfl) (zle_e rfl)
            refine k_goto 21 X dX11_isEven_k2.2.2.2.1 (jp_e rfl) ?_
            refine k_sub [(cO11_i1r1i10r1i2r5i2r12i3r4i2 h0 m_thrown a_tape m_taped m_size m_at m_end m_token m_whole m_nameSize m_fault m_place m_trouble a_letters m_failed m_hasHouse a_r a_fresh a_st a_undone a_kept m_undos m_images a_from a_begin a_motor a_change a_startFrame a_changeFrame a_lostAt a_blackAt a_slips a_leftArc a_died a_arcs m_bestSum m_nearest m_nearestTown a_there a_backAt a_sorted a_parts m_seed1 m_darkNow), (cAI g a_r 311 d_r), (cAI g a_sorted 8 d_sorted)] [1, 2, 0] rfl (by decide) rfl ?_
            exact ih_21 _ (by omega) z_71 z_73 rfl (iv_w iv_75 (zle_e rfl) (zle_e rfl))
          · skip
            have iv_76 : IV z_69 0 7 := iv_meet (iv_any z_69) (iv_e h_70 iv_14) (zle_o rfl) (zle_o rfl)
            refine k_iconst (v := 1) X dX11_isEven_k2.1.2.2.2 ic_1 ?_
            refine k_goto 75 X dX11_isEven_k2.2.1.1.1 (jp_e rfl) ?_
            refine k_isub X dX11_isEven_k2.2.1.2.1 ?_
            refine k_to (0) (by decide) ?_
            refine k_iadd X dX11_isEven_k2.2.1.2.2 ?_
            refine k_nm (fun z_77 ez_77 => ?_)
            have i_78 : z_77.toInt = u_16.toInt + 0 := in_add ez_77 (iv_any u_16) iq_0_0_0 (zle_e rfl) (zle_e rfl)
            have iv_79 : IV z_77 (-2147483648) 2147483647 := by have := (iv_any u_16); have := iq_0_0_0; rw [IV, i_78]; omega
            refine k_istore [(4, .int z_77), (5, .int u_17), (3, .int u_3), (2, .int u_1), (0, .ref h0), (1, .int p0)] X dX11_isEven_k2.2.2.1.1 (nlt_e rfl) rfl ?_
            obtain ⟨z_80, ez_80⟩ : ∃ y : Int32, u_17 + Int32.ofInt 1 = y := ⟨_, rfl⟩
            refine k_iinc z_80 [(5, .int z_80), (4, .int z_77), (3, .int u_3), (2, .int u_1), (0, .ref h0), (1, .int p0)] 1 X dX11_isEven_k2.2.2.1.2 rfl ez_80 (nlt_e rfl) rfl ?_
            have i_81 : z_80.toInt = u_17.toInt + 1 := in_inc ez_80 (oin_e rfl) iv_42 (zle_e rfl) (zle_e rfl)
            have iv_82 : IV z_80 1 8 := iz1 i_81 iv_42 (zle_e rfl) (zle_e rfl)
            refine k_goto 21 X dX11_isEven_k2.2.2.2.1 (jp_e rfl) ?_
            refine k_sub [(cO11_i1r1i10r1i2r5i2r12i3r4i2 h0 m_thrown a_tape m_taped m_size m_at m_end m_token m_whole m_nameSize m_fault m_place m_trouble a_letters m_failed m_hasHouse a_r a_fresh a_st a_undone a_kept m_undos m_images a_from a_begin a_motor a_change a_startFrame a_changeFrame a_lostAt a_blackAt a_slips a_leftArc a_died a_arcs m_bestSum m_nearest m_nearestTown a_there a_backAt a_sorted a_parts m_seed1 m_darkNow), (cAI g a_r 311 d_r), (cAI g a_sorted 8 d_sorted)] [1, 2, 0] rfl (by decide) rfl ?_
            exact ih_21 _ (by omega) z_77 z_80 rfl (iv_w iv_82 (zle_e rfl) (zle_e rfl))

theorem dX11_exchanges_k0 : ((((dD cX11_exchanges 0 (.aload_n 0) 1 ∧ dD cX11_exchanges 1 (.invokevirtual 200) 3) ∧ (dD cX11_exchanges 4 (.aload_n 0) 1 ∧ dD cX11_exchanges 5 (.getfield 213) 3)) ∧ ((dD cX11_exchanges 8 (.ifCond .ne 9) 3 ∧ dD cX11_exchanges 11 (.aload_n 0) 1) ∧ (dD cX11_exchanges 12 (.iconst 1) 1 ∧ dD cX11_exchanges 13 (.invokevirtual 203) 3))) ∧ (((dD cX11_exchanges 16 .ireturn 1 ∧ dD cX11_exchanges 17 (.aload_n 0) 1) ∧ (dD cX11_exchanges 18 (.invokevirtual 452) 3 ∧ dD cX11_exchanges 21 (.iconst 1) 1)) ∧ ((dD cX11_exchanges 22 (.aload_n 0) 1 ∧ dD cX11_exchanges 23 (.getfield 20) 3) ∧ (dD cX11_exchanges 26 (.bipush 12) 2 ∧ dD cX11_exchanges 28 .iaload 1)))) := dkA16 (by decide +kernel)
theorem dX11_exchanges_k1 : ((((dD cX11_exchanges 29 .ishl 1 ∧ dD cX11_exchanges 30 (.iconst 1) 1) ∧ (dD cX11_exchanges 31 .isub 1 ∧ dD cX11_exchanges 32 (.istore_n 1) 1)) ∧ ((dD cX11_exchanges 33 (.aload_n 0) 1 ∧ dD cX11_exchanges 34 (.getfield 80) 3) ∧ (dD cX11_exchanges 37 (.iconst 0) 1 ∧ dD cX11_exchanges 38 (.iconst 0) 1))) ∧ (((dD cX11_exchanges 39 .iastore 1 ∧ dD cX11_exchanges 40 (.iconst 1) 1) ∧ (dD cX11_exchanges 41 (.istore_n 2) 1 ∧ dD cX11_exchanges 42 (.iload_n 2) 1)) ∧ ((dD cX11_exchanges 43 (.iload_n 1) 1 ∧ dD cX11_exchanges 44 (.if_icmp .gt 80) 3) ∧ (dD cX11_exchanges 47 (.iconst 0) 1 ∧ dD cX11_exchanges 48 (.istore_n 3) 1)))) := dkA16 (by decide +kernel)
theorem dX11_exchanges_k2 : ((((dD cX11_exchanges 49 (.iconst 0) 1 ∧ dD cX11_exchanges 50 (.istore 4) 2) ∧ (dD cX11_exchanges 52 (.iload 4) 2 ∧ dD cX11_exchanges 54 (.aload_n 0) 1)) ∧ ((dD cX11_exchanges 55 (.getfield 20) 3 ∧ dD cX11_exchanges 58 (.bipush 12) 2) ∧ (dD cX11_exchanges 60 .iaload 1 ∧ dD cX11_exchanges 61 (.if_icmp .ge 36) 3))) ∧ (((dD cX11_exchanges 64 (.iload_n 2) 1 ∧ dD cX11_exchanges 65 (.iload 4) 2) ∧ (dD cX11_exchanges 67 (.invokestatic 320) 3 ∧ dD cX11_exchanges 70 (.ifCond .eq 21) 3)) ∧ ((dD cX11_exchanges 73 (.iload_n 3) 1 ∧ dD cX11_exchanges 74 (.aload_n 0) 1) ∧ (dD cX11_exchanges 75 (.getfield 80) 3 ∧ dD cX11_exchanges 78 (.iload_n 2) 1)))) := dkA16 (by decide +kernel)
theorem dX11_exchanges_k3 : ((((dD cX11_exchanges 79 (.iconst 1) 1 ∧ dD cX11_exchanges 80 (.iload 4) 2) ∧ (dD cX11_exchanges 82 .ishl 1 ∧ dD cX11_exchanges 83 (.iconst (-1)) 1)) ∧ ((dD cX11_exchanges 84 .ixor 1 ∧ dD cX11_exchanges 85 .iand 1) ∧ (dD cX11_exchanges 86 .iaload 1 ∧ dD cX11_exchanges 87 (.invokestatic 351) 3))) ∧ (((dD cX11_exchanges 90 (.istore_n 3) 1 ∧ dD cX11_exchanges 91 (.iinc 4 1) 3) ∧ (dD cX11_exchanges 94 (.goto (-42)) 3 ∧ dD cX11_exchanges 97 (.aload_n 0) 1)) ∧ ((dD cX11_exchanges 98 (.getfield 80) 3 ∧ dD cX11_exchanges 101 (.iload_n 2) 1) ∧ (dD cX11_exchanges 102 (.iload_n 3) 1 ∧ dD cX11_exchanges 103 (.aload_n 0) 1)))) := dkA16 (by decide +kernel)
theorem dX11_exchanges_k4 : ((((dD cX11_exchanges 104 (.iload_n 2) 1 ∧ dD cX11_exchanges 105 (.invokevirtual 455) 3) ∧ (dD cX11_exchanges 108 (.ifCond .eq 7) 3 ∧ dD cX11_exchanges 111 (.iconst 1) 1)) ∧ ((dD cX11_exchanges 112 (.goto 4) 3 ∧ dD cX11_exchanges 115 (.iconst 0) 1) ∧ (dD cX11_exchanges 116 .iadd 1 ∧ dD cX11_exchanges 117 .iastore 1))) ∧ (((dD cX11_exchanges 118 (.iinc 2 1) 3 ∧ dD cX11_exchanges 121 (.goto (-79)) 3) ∧ (dD cX11_exchanges 124 (.aload_n 0) 1 ∧ dD cX11_exchanges 125 (.getfield 20) 3)) ∧ ((dD cX11_exchanges 128 (.bipush 12) 2 ∧ dD cX11_exchanges 130 .iaload 1) ∧ (dD cX11_exchanges 131 (.aload_n 0) 1 ∧ dD cX11_exchanges 132 (.getfield 80) 3)))) := dkA16 (by decide +kernel)
theorem dX11_exchanges_k5 : ((dD cX11_exchanges 135 (.iload_n 1) 1 ∧ dD cX11_exchanges 136 .iaload 1) ∧ (dD cX11_exchanges 137 .isub 1 ∧ dD cX11_exchanges 138 .ireturn 1)) := dkA4 (by decide +kernel)
set_option maxHeartbeats 4000000 in
set_option maxRecDepth 100000 in
theorem m_exchanges (l : Launch) (g : Gx) (h0 : Nat) (m_thrown : Int32) (a_tape : Nat) (m_taped : Int32) (m_size : Int32) (m_at : Int32) (m_end : Int32) (m_token : Int32) (m_whole : Int32) (m_nameSize : Int32) (m_fault : Int32) (m_place : Int32) (m_trouble : Int32) (a_letters : Nat) (m_failed : Int32) (m_hasHouse : Int32) (a_r : Nat) (a_fresh : Nat) (a_st : Nat) (a_undone : Nat) (a_kept : Nat) (m_undos : Int32) (m_images : Int32) (a_from : Nat) (a_begin : Nat) (a_motor : Nat) (a_change : Nat) (a_startFrame : Nat) (a_changeFrame : Nat) (a_lostAt : Nat) (a_blackAt : Nat) (a_slips : Nat) (a_leftArc : Nat) (a_died : Nat) (a_arcs : Nat) (m_bestSum : Int32) (m_nearest : Int32) (m_nearestTown : Int32) (a_there : Nat) (a_backAt : Nat) (a_sorted : Nat) (a_parts : Nat) (m_seed1 : Int32) (m_darkNow : Int32) (d_r : Nat → Int32) (d_sorted : Nat → Int32) (d_parts : Nat → Int32) (hv_m_hasHouse : IV m_hasHouse 0 1) (hp_d_r : RInv d_r) : cI l g yX11_exchanges cX11_exchanges 5 (some .int) 2 46 0 0 [.ref h0] [(cO11_i1r1i10r1i2r5i2r12i3r4i2 h0 m_thrown a_tape m_taped m_size m_at m_end m_token m_whole m_nameSize m_fault m_place m_trouble a_letters m_failed m_hasHouse a_r a_fresh a_st a_undone a_kept m_undos m_images a_from a_begin a_motor a_change a_startFrame a_changeFrame a_lostAt a_blackAt a_slips a_leftArc a_died a_arcs m_bestSum m_nearest m_nearestTown a_there a_backAt a_sorted a_parts m_seed1 m_darkNow), (cAI g a_r 311 d_r), (cAI g a_sorted 8 d_sorted), (cAI g a_parts 256 d_parts)] (fun r w => ∃ (d_parts2 : Nat → Int32) (d_sorted2 : Nat → Int32) (m_thrown2 : Int32) (m_trouble2 : Int32), w = [(cO11_i1r1i10r1i2r5i2r12i3r4i2 h0 m_thrown2 a_tape m_taped m_size m_at m_end m_token m_whole m_nameSize m_fault m_place m_trouble2 a_letters m_failed m_hasHouse a_r a_fresh a_st a_undone a_kept m_undos m_images a_from a_begin a_motor a_change a_startFrame a_changeFrame a_lostAt a_blackAt a_slips a_leftArc a_died a_arcs m_bestSum m_nearest m_nearestTown a_there a_backAt a_sorted a_parts m_seed1 m_darkNow), (cAI g a_r 311 d_r), (cAI g a_sorted 8 d_sorted2), (cAI g a_parts 256 d_parts2)]) := by
  refine cI.of (by decide) (Nat.le_of_ble_eq_true rfl) ?_
  intro p e s m args below meth c A X hr hi
  refine k_lveq [(0, .ref h0)] rfl ?_
  refine k_aload_n X dX11_exchanges_k0.1.1.1.1 0 rfl ?_
  refine k_callVV (n := 0) (As := []) (st := []) X [(cO11_i1r1i10r1i2r5i2r12i3r4i2 h0 m_thrown a_tape m_taped m_size m_at m_end m_token m_whole m_nameSize m_fault m_place m_trouble a_letters m_failed m_hasHouse a_r a_fresh a_st a_undone a_kept m_undos m_images a_from a_begin a_motor a_change a_startFrame a_changeFrame a_lostAt a_blackAt a_slips a_leftArc a_died a_arcs m_bestSum m_nearest m_nearestTown a_there a_backAt a_sorted a_parts m_seed1 m_darkNow)] [(cAI g a_r 311 d_r), (cAI g a_sorted 8 d_sorted), (cAI g a_parts 256 d_parts)] [0] [1, 2, 3] (m_good l g h0 m_thrown a_tape m_taped m_size m_at m_end m_token m_whole m_nameSize m_fault m_place m_trouble a_letters m_failed m_hasHouse a_r a_fresh a_st a_undone a_kept m_undos m_images a_from a_begin a_motor a_change a_startFrame a_changeFrame a_lostAt a_blackAt a_slips a_leftArc a_died a_arcs m_bestSum m_nearest m_nearestTown a_there a_backAt a_sorted a_parts m_seed1 m_darkNow) dX11_exchanges_k0.1.1.1.2 mw477 mw478 mw479 mw5 mw480 rfl 11 rfl rfl 0 _ rfl yk_yX11_good_0 rfl (Nat.le_of_ble_eq_true rfl) (Nat.le_of_ble_eq_true rfl) (Nat.le_of_ble_eq_true rfl) (Nat.le_of_ble_eq_true rfl) (Nat.le_of_ble_eq_true rfl) rfl rfl (vnd_e rfl) rfl (vnd_e rfl) (dsj_e rfl) ?_
  rintro w ⟨m_thrown2_1, m_trouble2_2, rfl⟩
  refine k_ws [(cAI g a_r 311 d_r), (cAI g a_sorted 8 d_sorted), (cAI g a_parts 256 d_parts), (cO11_i1r1i10r1i2r5i2r12i3r4i2 h0 m_thrown2_1 a_tape m_taped m_size m_at m_end m_token m_whole m_nameSize m_fault m_place m_trouble2_2 a_letters m_failed m_hasHouse a_r a_fresh a_st a_undone a_kept m_undos m_images a_from a_begin a_motor a_change a_startFrame a_changeFrame a_lostAt a_blackAt a_slips a_leftArc a_died a_arcs m_bestSum m_nearest m_nearestTown a_there a_backAt a_sorted a_parts m_seed1 m_darkNow)] rfl ?_
  refine k_aload_n X dX11_exchanges_k0.1.1.2.1 0 rfl ?_
  refine k_get (ci := 11) X inlX11 rfl 14 (nlt_e rfl) dX11_exchanges_k0.1.1.2.2 mw474 3 rfl rfl ?_
  refine k_if_ne 17 X dX11_exchanges_k0.1.2.1.1 (jp_e rfl) (fun h_4 => ?_) (fun h_4 => ?_)
  · skip
    have iv_5 : IV m_hasHouse 1 1 := iv_neL h_4 hv_m_hasHouse iq_0_0_0 (zle_e rfl)
    refine k_aload_n X dX11_exchanges_k0.2.1.1.2 0 rfl ?_
    refine k_callVV (n := 0) (As := []) (st := []) X [(cO11_i1r1i10r1i2r5i2r12i3r4i2 h0 m_thrown2_1 a_tape m_taped m_size m_at m_end m_token m_whole m_nameSize m_fault m_place m_trouble2_2 a_letters m_failed m_hasHouse a_r a_fresh a_st a_undone a_kept m_undos m_images a_from a_begin a_motor a_change a_startFrame a_changeFrame a_lostAt a_blackAt a_slips a_leftArc a_died a_arcs m_bestSum m_nearest m_nearestTown a_there a_backAt a_sorted a_parts m_seed1 m_darkNow), (cAI g a_r 311 d_r), (cAI g a_sorted 8 d_sorted)] [(cAI g a_parts 256 d_parts)] [3, 0, 1] [2] (m_laySorted l g h0 m_thrown2_1 a_tape m_taped m_size m_at m_end m_token m_whole m_nameSize m_fault m_place m_trouble2_2 a_letters m_failed m_hasHouse a_r a_fresh a_st a_undone a_kept m_undos m_images a_from a_begin a_motor a_change a_startFrame a_changeFrame a_lostAt a_blackAt a_slips a_leftArc a_died a_arcs m_bestSum m_nearest m_nearestTown a_there a_backAt a_sorted a_parts m_seed1 m_darkNow d_r d_sorted hp_d_r) dX11_exchanges_k0.2.1.2.1 mw1398 mw1399 mw1400 mw5 mw1401 rfl 11 rfl rfl 0 _ rfl yk_yX11_laySorted_0 rfl (Nat.le_of_ble_eq_true rfl) (Nat.le_of_ble_eq_true rfl) (Nat.le_of_ble_eq_true rfl) (Nat.le_of_ble_eq_true rfl) (Nat.le_of_ble_eq_true rfl) rfl rfl (vnd_e rfl) rfl (vnd_e rfl) (dsj_e rfl) ?_
    rintro w ⟨d_sorted2_6, rfl⟩
    refine k_ws [(cAI g a_parts 256 d_parts), (cO11_i1r1i10r1i2r5i2r12i3r4i2 h0 m_thrown2_1 a_tape m_taped m_size m_at m_end m_token m_whole m_nameSize m_fault m_place m_trouble2_2 a_letters m_failed m_hasHouse a_r a_fresh a_st a_undone a_kept m_undos m_images a_from a_begin a_motor a_change a_startFrame a_changeFrame a_lostAt a_blackAt a_slips a_leftArc a_died a_arcs m_bestSum m_nearest m_nearestTown a_there a_backAt a_sorted a_parts m_seed1 m_darkNow), (cAI g a_r 311 d_r), (cAI g a_sorted 8 d_sorted2_6)] rfl ?_
    refine k_iconst (v := 1) X dX11_exchanges_k0.2.1.2.2 ic_1 ?_
    refine k_aload_n X dX11_exchanges_k0.2.2.1.1 0 rfl ?_
    refine k_get (ci := 11) X inlX11 rfl 15 (nlt_e rfl) dX11_exchanges_k0.2.2.1.2 mw170 1 rfl rfl ?_
    refine k_bipush (v := 12) X dX11_exchanges_k0.2.2.2.1 bi_12 ?_
    refine k_iald X dX11_exchanges_k0.2.2.2.2 2 rfl (by unfold vp_in; decide) ?_
    refine k_nm (fun z_8 ez_8 => ?_)
    have i_9 : z_8.toInt = (d_r 12).toInt := by rw [ez_8]; rfl
    have iv_10 : IV z_8 0 8 := rb_12 ez_8 hp_d_r
    refine k_ishl X dX11_exchanges_k1.1.1.1.1 ?_
    refine k_nm (fun z_11 ez_11 => ?_)
    have iv_12 : IV z_11 1 256 := iv_shl ez_11 (iv_w iv_10 (zle_e rfl) (zle_e rfl))
    refine k_iconst (v := 1) X dX11_exchanges_k1.1.1.1.2 ic_1 ?_
    refine k_isub X dX11_exchanges_k1.1.1.2.1 ?_
    refine k_nm (fun z_13 ez_13 => ?_)
    have i_14 : z_13.toInt = z_11.toInt - 1 := in_sub ez_13 iv_12 iq_1_1_1 (zle_e rfl) (zle_e rfl)
    have iv_15 : IV z_13 0 255 := iz5 i_14 iv_12 (zle_e rfl) (zle_e rfl)
    refine k_istore_n [(1, .int z_13), (0, .ref h0)] X dX11_exchanges_k1.1.1.2.2 (nlt_e rfl) rfl ?_
    refine k_aload_n X dX11_exchanges_k1.1.2.1.1 1 rfl ?_
    refine k_get (ci := 11) X inlX11 rfl 40 (nlt_e rfl) dX11_exchanges_k1.1.2.1.2 mw190 1 rfl rfl ?_
    refine k_iconst (v := 0) X dX11_exchanges_k1.1.2.2.1 ic_0 ?_
    refine k_iconst (v := 0) X dX11_exchanges_k1.1.2.2.2 ic_0 ?_
    refine k_iast [(cAI g a_parts 256 (upd d_parts (0 : Int32).toNatClampNeg 0)), (cO11_i1r1i10r1i2r5i2r12i3r4i2 h0 m_thrown2_1 a_tape m_taped m_size m_at m_end m_token m_whole m_nameSize m_fault m_place m_trouble2_2 a_letters m_failed m_hasHouse a_r a_fresh a_st a_undone a_kept m_undos m_images a_from a_begin a_motor a_change a_startFrame a_changeFrame a_lostAt a_blackAt a_slips a_leftArc a_died a_arcs m_bestSum m_nearest m_nearestTown a_there a_backAt a_sorted a_parts m_seed1 m_darkNow), (cAI g a_r 311 d_r), (cAI g a_sorted 8 d_sorted2_6)] X dX11_exchanges_k1.2.1.1.1 0 rfl (by unfold vp_in; decide) rfl ?_
    refine (fun hg : ∀ fa_16 : Nat → Int32, Wk p l e _ s m args below meth c _ A g _ _ _ [(cAI g a_parts 256 fa_16), (cO11_i1r1i10r1i2r5i2r12i3r4i2 h0 m_thrown2_1 a_tape m_taped m_size m_at m_end m_token m_whole m_nameSize m_fault m_place m_trouble2_2 a_letters m_failed m_hasHouse a_r a_fresh a_st a_undone a_kept m_undos m_images a_from a_begin a_motor a_change a_startFrame a_changeFrame a_lostAt a_blackAt a_slips a_leftArc a_died a_arcs m_bestSum m_nearest m_nearestTown a_there a_backAt a_sorted a_parts m_seed1 m_darkNow), (cAI g a_r 311 d_r), (cAI g a_sorted 8 d_sorted2_6)] _ _ _ => hg _) (fun fa_16 => ?_)
    refine k_iconst (v := 1) X dX11_exchanges_k1.2.1.1.2 ic_1 ?_
    refine k_istore_n [(2, .int 1), (1, .int z_13), (0, .ref h0)] X dX11_exchanges_k1.2.1.2.1 (nlt_e rfl) rfl ?_
    refine (fun hL : ∀ (nn_20 : Nat) (uf_17 : Nat → Int32) (u_18 : Int32), (z_13.toInt + 1 - u_18.toInt).toNat = nn_20 → (IV u_18 1 900) → Wk p l e _ s m args below meth c _ A g _ _ _ [(cAI g a_parts 256 uf_17), (cO11_i1r1i10r1i2r5i2r12i3r4i2 h0 m_thrown2_1 a_tape m_taped m_size m_at m_end m_token m_whole m_nameSize m_fault m_place m_trouble2_2 a_letters m_failed m_hasHouse a_r a_fresh a_st a_undone a_kept m_undos m_images a_from a_begin a_motor a_change a_startFrame a_changeFrame a_lostAt a_blackAt a_slips a_leftArc a_died a_arcs m_bestSum m_nearest m_nearestTown a_there a_backAt a_sorted a_parts m_seed1 m_darkNow), (cAI g a_r 311 d_r), (cAI g a_sorted 8 d_sorted2_6)] [(2, .int u_18), (1, .int z_13), (0, .ref h0)] 42 [] => hL _ fa_16 1 rfl (iv_w iq_1_1_1 (zle_e rfl) (zle_e rfl))) ?_
    refine fun nn_20 => Nat.strongRecOn nn_20 (fun nn_20 ih_22 => ?_)
    intro uf_17 u_18 hm_21 hv_19
    refine k_iload_n X dX11_exchanges_k1.2.1.2.2 0 rfl ?_
    refine k_iload_n X dX11_exchanges_k1.2.2.1.1 1 rfl ?_
    refine k_ic_gt 124 X dX11_exchanges_k1.2.2.1.2 (jp_e rfl) (fun h_23 => ?_) (fun h_23 => ?_)
    · skip
      have j_24 : z_13.toInt < u_18.toInt := iv_lt h_23
      refine k_aload_n X dX11_exchanges_k4.2.1.2.1 2 rfl ?_
      refine k_get (ci := 11) X inlX11 rfl 15 (nlt_e rfl) dX11_exchanges_k4.2.1.2.2 mw170 1 rfl rfl ?_
      refine k_bipush (v := 12) X dX11_exchanges_k4.2.2.1.1 bi_12 ?_
      refine k_iald X dX11_exchanges_k4.2.2.1.2 2 rfl (by unfold vp_in; decide) ?_
      refine k_to z_8 ez_8.symm ?_
      refine k_aload_n X dX11_exchanges_k4.2.2.2.1 2 rfl ?_
      refine k_get (ci := 11) X inlX11 rfl 40 (nlt_e rfl) dX11_exchanges_k4.2.2.2.2 mw190 1 rfl rfl ?_
      refine k_iload_n X dX11_exchanges_k5.1.1 1 rfl ?_
      refine k_iald X dX11_exchanges_k5.1.2 0 rfl (iv_in iv_15 (zle_e rfl) (zle_l rfl)) ?_
      refine k_nm (fun z_25 ez_25 => ?_)
      refine k_isub X dX11_exchanges_k5.2.1 ?_
      refine k_nm (fun z_26 ez_26 => ?_)
      exact k_iret X hr dX11_exchanges_k5.2.2 (Nat.le_of_ble_eq_true rfl) (Nat.le_of_ble_eq_true rfl) [1, 2, 3, 0] (vnd_e rfl) rfl rfl (exI4 uf_17 d_sorted2_6 m_thrown2_1 m_trouble2_2 rfl)
    · skip
      have j_28 : u_18.toInt ≤ z_13.toInt := iv_nlt h_23
      have iv_29 : IV u_18 1 255 := iv_leL (iv_nlt h_23) hv_19 iv_15 (zle_e rfl)
      have iv_30 : IV z_13 1 255 := iv_leR (iv_nlt h_23) hv_19 iv_15 (zle_e rfl)
      have iv_31 : IV z_11 2 256 := by have := iv_12; have := iv_30; rw [IV]; omega
      refine k_iconst (v := 0) X dX11_exchanges_k1.2.2.2.1 ic_0 ?_
      refine k_istore_n [(3, .int 0), (2, .int u_18), (1, .int z_13), (0, .ref h0)] X dX11_exchanges_k1.2.2.2.2 (nlt_e rfl) rfl ?_
      refine k_iconst (v := 0) X dX11_exchanges_k2.1.1.1.1 ic_0 ?_
      refine k_istore [(4, .int 0), (3, .int 0), (2, .int u_18), (1, .int z_13), (0, .ref h0)] X dX11_exchanges_k2.1.1.1.2 (nlt_e rfl) rfl ?_
      refine (fun hL : ∀ (nn_35 : Nat) (u_32 : Int32) (u_33 : Int32), (z_8.toInt - u_33.toInt).toNat = nn_35 → (IV u_33 0 8) → Wk p l e _ s m args below meth c _ A g _ _ _ [(cAI g a_parts 256 uf_17), (cO11_i1r1i10r1i2r5i2r12i3r4i2 h0 m_thrown2_1 a_tape m_taped m_size m_at m_end m_token m_whole m_nameSize m_fault m_place m_trouble2_2 a_letters m_failed m_hasHouse a_r a_fresh a_st a_undone a_kept m_undos m_images a_from a_begin a_motor a_change a_startFrame a_changeFrame a_lostAt a_blackAt a_slips a_leftArc a_died a_arcs m_bestSum m_nearest m_nearestTown a_there a_backAt a_sorted a_parts m_seed1 m_darkNow), (cAI g a_r 311 d_r), (cAI g a_sorted 8 d_sorted2_6)] [(4, .int u_33), (3, .int u_32), (2, .int u_18), (1, .int z_13), (0, .ref h0)] 52 [] => hL _ 0 0 rfl (iv_w iq_0_0_0 (zle_e rfl) (zle_e rfl))) ?_
      refine fun nn_35 => Nat.strongRecOn nn_35 (fun nn_35 ih_37 => ?_)
      intro u_32 u_33 hm_36 hv_34
      refine k_iload X dX11_exchanges_k2.1.1.2.1 0 rfl ?_
      refine k_aload_n X dX11_exchanges_k2.1.1.2.2 4 rfl ?_
      refine k_get (ci := 11) X inlX11 rfl 15 (nlt_e rfl) dX11_exchanges_k2.1.2.1.1 mw170 1 rfl rfl ?_
      refine k_bipush (v := 12) X dX11_exchanges_k2.1.2.1.2 bi_12 ?_
      refine k_iald X dX11_exchanges_k2.1.2.2.1 2 rfl (by unfold vp_in; decide) ?_
      refine k_to z_8 ez_8.symm ?_
      refine k_ic_ge 97 X dX11_exchanges_k2.1.2.2.2 (jp_e rfl) (fun h_38 => ?_) (fun h_38 => ?_)
      · skip
        have j_39 : z_8.toInt ≤ u_33.toInt := iv_le h_38
        refine k_aload_n X dX11_exchanges_k3.2.1.2.2 4 rfl ?_
        refine k_get (ci := 11) X inlX11 rfl 40 (nlt_e rfl) dX11_exchanges_k3.2.2.1.1 mw190 1 rfl rfl ?_
        refine k_iload_n X dX11_exchanges_k3.2.2.1.2 2 rfl ?_
        refine k_iload_n X dX11_exchanges_k3.2.2.2.1 1 rfl ?_
        refine k_aload_n X dX11_exchanges_k3.2.2.2.2 4 rfl ?_
        refine k_iload_n X dX11_exchanges_k4.1.1.1.1 2 rfl ?_
        refine k_callVI (n := 1) (As := [.int u_18]) (st := [.int u_32, .int u_18, .ref a_parts]) X [(cO11_i1r1i10r1i2r5i2r12i3r4i2 h0 m_thrown2_1 a_tape m_taped m_size m_at m_end m_token m_whole m_nameSize m_fault m_place m_trouble2_2 a_letters m_failed m_hasHouse a_r a_fresh a_st a_undone a_kept m_undos m_images a_from a_begin a_motor a_change a_startFrame a_changeFrame a_lostAt a_blackAt a_slips a_leftArc a_died a_arcs m_bestSum m_nearest m_nearestTown a_there a_backAt a_sorted a_parts m_seed1 m_darkNow), (cAI g a_r 311 d_r), (cAI g a_sorted 8 d_sorted2_6)] [(cAI g a_parts 256 uf_17)] [1, 2, 3] [0] (m_isEven l g h0 u_18 m_thrown2_1 a_tape m_taped m_size m_at m_end m_token m_whole m_nameSize m_fault m_place m_trouble2_2 a_letters m_failed m_hasHouse a_r a_fresh a_st a_undone a_kept m_undos m_images a_from a_begin a_motor a_change a_startFrame a_changeFrame a_lostAt a_blackAt a_slips a_leftArc a_died a_arcs m_bestSum m_nearest m_nearestTown a_there a_backAt a_sorted a_parts m_seed1 m_darkNow d_r d_sorted2_6 hp_d_r) dX11_exchanges_k4.1.1.1.2 mw1402 mw1403 mw1404 mw5 mw1405 rfl 11 rfl rfl 0 _ rfl yk_yX11_isEven_1 rfl (Nat.le_of_ble_eq_true rfl) (Nat.le_of_ble_eq_true rfl) (Nat.le_of_ble_eq_true rfl) (Nat.le_of_ble_eq_true rfl) (Nat.le_of_ble_eq_true rfl) rfl rfl (vnd_e rfl) rfl (vnd_e rfl) (dsj_e rfl) ?_
        rintro r_40 w ⟨iv_41, rfl⟩
        refine k_ws [(cAI g a_parts 256 uf_17), (cO11_i1r1i10r1i2r5i2r12i3r4i2 h0 m_thrown2_1 a_tape m_taped m_size m_at m_end m_token m_whole m_nameSize m_fault m_place m_trouble2_2 a_letters m_failed m_hasHouse a_r a_fresh a_st a_undone a_kept m_undos m_images a_from a_begin a_motor a_change a_startFrame a_changeFrame a_lostAt a_blackAt a_slips a_leftArc a_died a_arcs m_bestSum m_nearest m_nearestTown a_there a_backAt a_sorted a_parts m_seed1 m_darkNow), (cAI g a_r 311 d_r), (cAI g a_sorted 8 d_sorted2_6)] rfl ?_
        refine k_if_eq 115 X dX11_exchanges_k4.1.1.2.1 (jp_e rfl) (fun h_42 => ?_) (fun h_42 => ?_)
        · skip
          have iv_43 : IV r_40 0 0 := iv_meet iv_41 (iv_e h_42 iq_0_0_0) (zle_o rfl) (zle_o rfl)
          refine k_iconst (v := 0) X dX11_exchanges_k4.1.2.1.2 ic_0 ?_
          refine k_iadd X dX11_exchanges_k4.1.2.2.1 ?_
          refine k_nm (fun z_44 ez_44 => ?_)
          have i_45 : z_44.toInt = u_32.toInt + 0 := in_add ez_44 (iv_any u_32) iq_0_0_0 (zle_e rfl) (zle_e rfl)
          have iv_46 : IV z_44 (-2147483648) 2147483647 := by have := (iv_any u_32); have := iq_0_0_0; rw [IV, i_45]; omega
          refine k_iast [(cAI g a_parts 256 (upd uf_17 (u_18 : Int32).toNatClampNeg z_44)), (cO11_i1r1i10r1i2r5i2r12i3r4i2 h0 m_thrown2_1 a_tape m_taped m_size m_at m_end m_token m_whole m_nameSize m_fault m_place m_trouble2_2 a_letters m_failed m_hasHouse a_r a_fresh a_st a_undone a_kept m_undos m_images a_from a_begin a_motor a_change a_startFrame a_changeFrame a_lostAt a_blackAt a_slips a_leftArc a_died a_arcs m_bestSum m_nearest m_nearestTown a_there a_backAt a_sorted a_parts m_seed1 m_darkNow), (cAI g a_r 311 d_r), (cAI g a_sorted 8 d_sorted2_6)] X dX11_exchanges_k4.1.2.2.2 0 rfl (iv_in iv_29 (zle_e rfl) (zle_l rfl)) rfl ?_
          refine (fun hg : ∀ fa_47 : Nat → Int32, Wk p l e _ s m args below meth c _ A g _ _ _ [(cAI g a_parts 256 fa_47), (cO11_i1r1i10r1i2r5i2r12i3r4i2 h0 m_thrown2_1 a_tape m_taped m_size m_at m_end m_token m_whole m_nameSize m_fault m_place m_trouble2_2 a_letters m_failed m_hasHouse a_r a_fresh a_st a_undone a_kept m_undos m_images a_from a_begin a_motor a_change a_startFrame a_changeFrame a_lostAt a_blackAt a_slips a_leftArc a_died a_arcs m_bestSum m_nearest m_nearestTown a_there a_backAt a_sorted a_parts m_seed1 m_darkNow), (cAI g a_r 311 d_r), (cAI g a_sorted 8 d_sorted2_6)] _ _ _ => hg _) (fun fa_47 => ?_)
          obtain ⟨z_48, ez_48⟩ : ∃ y : Int32, u_18 + Int32.ofInt 1 = y := ⟨_, rfl⟩
          refine k_iinc z_48 [(2, .int z_48), (4, .int u_33), (3, .int u_32), (1, .int z_13), (0, .ref h0)] 2 X dX11_exchanges_k4.2.1.1.1 rfl ez_48 (nlt_e rfl) rfl ?_
          have i_49 : z_48.toInt = u_18.toInt + 1 := in_inc ez_48 (oin_e rfl) iv_29 (zle_e rfl) (zle_e rfl)
          have iv_50 : IV z_48 2 256 := iz1 i_49 iv_29 (zle_e rfl) (zle_e rfl)
          refine k_goto 42 X dX11_exchanges_k4.2.1.1.2 (jp_e rfl) ?_
          refine k_lv [(2, .int z_48), (1, .int z_13), (0, .ref h0)] [0, 3, 4] rfl ?_
          exact ih_22 _ (by omega) fa_47 z_48 rfl (iv_w iv_50 (zle_e rfl) (zle_e rfl))
        · skip
          have iv_51 : IV r_40 1 1 := iv_neL h_42 iv_41 iq_0_0_0 (zle_e rfl)
          refine k_iconst (v := 1) X dX11_exchanges_k4.1.1.2.2 ic_1 ?_
          refine k_goto 116 X dX11_exchanges_k4.1.2.1.1 (jp_e rfl) ?_
          refine k_iadd X dX11_exchanges_k4.1.2.2.1 ?_
          refine k_nm (fun z_52 ez_52 => ?_)
          refine k_iast [(cAI g a_parts 256 (upd uf_17 (u_18 : Int32).toNatClampNeg z_52)), (cO11_i1r1i10r1i2r5i2r12i3r4i2 h0 m_thrown2_1 a_tape m_taped m_size m_at m_end m_token m_whole m_nameSize m_fault m_place m_trouble2_2 a_letters m_failed m_hasHouse a_r a_fresh a_st a_undone a_kept m_undos m_images a_from a_begin a_motor a_change a_startFrame a_changeFrame a_lostAt a_blackAt a_slips a_leftArc a_died a_arcs m_bestSum m_nearest m_nearestTown a_there a_backAt a_sorted a_parts m_seed1 m_darkNow), (cAI g a_r 311 d_r), (cAI g a_sorted 8 d_sorted2_6)] X dX11_exchanges_k4.1.2.2.2 0 rfl (iv_in iv_29 (zle_e rfl) (zle_l rfl)) rfl ?_
          refine (fun hg : ∀ fa_54 : Nat → Int32, Wk p l e _ s m args below meth c _ A g _ _ _ [(cAI g a_parts 256 fa_54), (cO11_i1r1i10r1i2r5i2r12i3r4i2 h0 m_thrown2_1 a_tape m_taped m_size m_at m_end m_token m_whole m_nameSize m_fault m_place m_trouble2_2 a_letters m_failed m_hasHouse a_r a_fresh a_st a_undone a_kept m_undos m_images a_from a_begin a_motor a_change a_startFrame a_changeFrame a_lostAt a_blackAt a_slips a_leftArc a_died a_arcs m_bestSum m_nearest m_nearestTown a_there a_backAt a_sorted a_parts m_seed1 m_darkNow), (cAI g a_r 311 d_r), (cAI g a_sorted 8 d_sorted2_6)] _ _ _ => hg _) (fun fa_54 => ?_)
          obtain ⟨z_55, ez_55⟩ : ∃ y : Int32, u_18 + Int32.ofInt 1 = y := ⟨_, rfl⟩
          refine k_iinc z_55 [(2, .int z_55), (4, .int u_33), (3, .int u_32), (1, .int z_13), (0, .ref h0)] 2 X dX11_exchanges_k4.2.1.1.1 rfl ez_55 (nlt_e rfl) rfl ?_
          have i_56 : z_55.toInt = u_18.toInt + 1 := in_inc ez_55 (oin_e rfl) iv_29 (zle_e rfl) (zle_e rfl)
          have iv_57 : IV z_55 2 256 := iz1 i_56 iv_29 (zle_e rfl) (zle_e rfl)
          refine k_goto 42 X dX11_exchanges_k4.2.1.1.2 (jp_e rfl) ?_
          refine k_lv [(2, .int z_55), (1, .int z_13), (0, .ref h0)] [0, 3, 4] rfl ?_
          exact ih_22 _ (by omega) fa_54 z_55 rfl (iv_w iv_57 (zle_e rfl) (zle_e rfl))
      · skip
        have j_58 : u_33.toInt < z_8.toInt := iv_nle h_38
        have iv_59 : IV u_33 0 7 := iv_ltL (iv_nle h_38) hv_34 iv_10 (zle_e rfl)
        have iv_60 : IV z_8 1 8 := iv_ltR (iv_nle h_38) hv_34 iv_10 (zle_e rfl)
        refine k_iload_n X dX11_exchanges_k2.2.1.1.1 2 rfl ?_
        refine k_iload X dX11_exchanges_k2.2.1.1.2 0 rfl ?_
        refine k_callSI (n := 2) (As := [.int u_18, .int u_33]) (st := []) X [] [(cAI g a_parts 256 uf_17), (cO11_i1r1i10r1i2r5i2r12i3r4i2 h0 m_thrown2_1 a_tape m_taped m_size m_at m_end m_token m_whole m_nameSize m_fault m_place m_trouble2_2 a_letters m_failed m_hasHouse a_r a_fresh a_st a_undone a_kept m_undos m_images a_from a_begin a_motor a_change a_startFrame a_changeFrame a_lostAt a_blackAt a_slips a_leftArc a_died a_arcs m_bestSum m_nearest m_nearestTown a_there a_backAt a_sorted a_parts m_seed1 m_darkNow), (cAI g a_r 311 d_r), (cAI g a_sorted 8 d_sorted2_6)] [] [0, 1, 2, 3] (m_hasBit l g u_18 u_33) dX11_exchanges_k2.2.1.2.1 mw686 mw687 mw5 mw688 yk_yX11_hasBit_2 rfl (Nat.le_of_ble_eq_true rfl) (Nat.le_of_ble_eq_true rfl) (Nat.le_of_ble_eq_true rfl) (Nat.le_of_ble_eq_true rfl) (Nat.le_of_ble_eq_true rfl) rfl rfl (vnd_e rfl) rfl (vnd_e rfl) (dsj_e rfl) ?_
        rintro r_61 w ⟨iv_62, rfl⟩
        refine k_ws [(cAI g a_parts 256 uf_17), (cO11_i1r1i10r1i2r5i2r12i3r4i2 h0 m_thrown2_1 a_tape m_taped m_size m_at m_end m_token m_whole m_nameSize m_fault m_place m_trouble2_2 a_letters m_failed m_hasHouse a_r a_fresh a_st a_undone a_kept m_undos m_images a_from a_begin a_motor a_change a_startFrame a_changeFrame a_lostAt a_blackAt a_slips a_leftArc a_died a_arcs m_bestSum m_nearest m_nearestTown a_there a_backAt a_sorted a_parts m_seed1 m_darkNow), (cAI g a_r 311 d_r), (cAI g a_sorted 8 d_sorted2_6)] rfl ?_
        refine k_if_eq 91 X dX11_exchanges_k2.2.1.2.2 (jp_e rfl) (fun h_63 => ?_) (fun h_63 => ?_)
        · skip
          have iv_64 : IV r_61 0 0 := iv_meet iv_62 (iv_e h_63 iq_0_0_0) (zle_o rfl) (zle_o rfl)
          obtain ⟨z_65, ez_65⟩ : ∃ y : Int32, u_33 + Int32.ofInt 1 = y := ⟨_, rfl⟩
          refine k_iinc z_65 [(4, .int z_65), (3, .int u_32), (2, .int u_18), (1, .int z_13), (0, .ref h0)] 0 X dX11_exchanges_k3.2.1.1.2 rfl ez_65 (nlt_e rfl) rfl ?_
          have i_66 : z_65.toInt = u_33.toInt + 1 := in_inc ez_65 (oin_e rfl) iv_59 (zle_e rfl) (zle_e rfl)
          have iv_67 : IV z_65 1 8 := iz1 i_66 iv_59 (zle_e rfl) (zle_e rfl)
          refine k_goto 52 X dX11_exchanges_k3.2.1.2.1 (jp_e rfl) ?_
          exact ih_37 _ (by omega) u_32 z_65 rfl (iv_w iv_67 (zle_e rfl) (zle_e rfl))
        · skip
          have iv_68 : IV r_61 1 1 := iv_neL h_63 iv_62 iq_0_0_0 (zle_e rfl)
          refine k_iload_n X dX11_exchanges_k2.2.2.1.1 1 rfl ?_
          refine k_aload_n X dX11_exchanges_k2.2.2.1.2 4 rfl ?_
          refine k_get (ci := 11) X inlX11 rfl 40 (nlt_e rfl) dX11_exchanges_k2.2.2.2.1 mw190 1 rfl rfl ?_
          refine k_iload_n X dX11_exchanges_k2.2.2.2.2 2 rfl ?_
          refine k_iconst (v := 1) X dX11_exchanges_k3.1.1.1.1 ic_1 ?_
          refine k_iload X dX11_exchanges_k3.1.1.1.2 0 rfl ?_
          refine k_ishl X dX11_exchanges_k3.1.1.2.1 ?_
          refine k_nm (fun z_69 ez_69 => ?_)
          have iv_70 : IV z_69 1 256 := iv_shl ez_69 (iv_w iv_59 (zle_e rfl) (zle_e rfl))
          refine k_iconst (v := -1) X dX11_exchanges_k3.1.1.2.2 ic_m1 ?_
          refine k_ixor X dX11_exchanges_k3.1.2.1.1 ?_
          refine k_nm (fun z_71 ez_71 => ?_)
          refine k_iand X dX11_exchanges_k3.1.2.1.2 ?_
          refine k_nm (fun z_72 ez_72 => ?_)
          have iv_73 : IV z_72 0 255 := iv_and ez_72 iv_29 (by decide)
          refine k_iald X dX11_exchanges_k3.1.2.2.1 0 rfl (iv_in iv_73 (zle_e rfl) (zle_l rfl)) ?_
          refine k_nm (fun z_74 ez_74 => ?_)
          refine k_callSI (n := 2) (As := [.int u_32, .int z_74]) (st := []) X [] [(cAI g a_parts 256 uf_17), (cO11_i1r1i10r1i2r5i2r12i3r4i2 h0 m_thrown2_1 a_tape m_taped m_size m_at m_end m_token m_whole m_nameSize m_fault m_place m_trouble2_2 a_letters m_failed m_hasHouse a_r a_fresh a_st a_undone a_kept m_undos m_images a_from a_begin a_motor a_change a_startFrame a_changeFrame a_lostAt a_blackAt a_slips a_leftArc a_died a_arcs m_bestSum m_nearest m_nearestTown a_there a_backAt a_sorted a_parts m_seed1 m_darkNow), (cAI g a_r 311 d_r), (cAI g a_sorted 8 d_sorted2_6)] [] [0, 1, 2, 3] (m_most l g u_32 z_74) dX11_exchanges_k3.1.2.2.2 mw842 mw843 mw5 mw844 yk_yX11_most_2 rfl (Nat.le_of_ble_eq_true rfl) (Nat.le_of_ble_eq_true rfl) (Nat.le_of_ble_eq_true rfl) (Nat.le_of_ble_eq_true rfl) (Nat.le_of_ble_eq_true rfl) rfl rfl (vnd_e rfl) rfl (vnd_e rfl) (dsj_e rfl) ?_
          rintro r_75 w rfl
          refine k_ws [(cAI g a_parts 256 uf_17), (cO11_i1r1i10r1i2r5i2r12i3r4i2 h0 m_thrown2_1 a_tape m_taped m_size m_at m_end m_token m_whole m_nameSize m_fault m_place m_trouble2_2 a_letters m_failed m_hasHouse a_r a_fresh a_st a_undone a_kept m_undos m_images a_from a_begin a_motor a_change a_startFrame a_changeFrame a_lostAt a_blackAt a_slips a_leftArc a_died a_arcs m_bestSum m_nearest m_nearestTown a_there a_backAt a_sorted a_parts m_seed1 m_darkNow), (cAI g a_r 311 d_r), (cAI g a_sorted 8 d_sorted2_6)] rfl ?_
          refine k_istore_n [(3, .int r_75), (4, .int u_33), (2, .int u_18), (1, .int z_13), (0, .ref h0)] X dX11_exchanges_k3.2.1.1.1 (nlt_e rfl) rfl ?_
          obtain ⟨z_76, ez_76⟩ : ∃ y : Int32, u_33 + Int32.ofInt 1 = y := ⟨_, rfl⟩
          refine k_iinc z_76 [(4, .int z_76), (3, .int r_75), (2, .int u_18), (1, .int z_13), (0, .ref h0)] 1 X dX11_exchanges_k3.2.1.1.2 rfl ez_76 (nlt_e rfl) rfl ?_
          have i_77 : z_76.toInt = u_33.toInt + 1 := in_inc ez_76 (oin_e rfl) iv_59 (zle_e rfl) (zle_e rfl)
          have iv_78 : IV z_76 1 8 := iz1 i_77 iv_59 (zle_e rfl) (zle_e rfl)
          refine k_goto 52 X dX11_exchanges_k3.2.1.2.1 (jp_e rfl) ?_
          exact ih_37 _ (by omega) r_75 z_76 rfl (iv_w iv_78 (zle_e rfl) (zle_e rfl))
  · skip
    have iv_79 : IV m_hasHouse 0 0 := iv_meet hv_m_hasHouse (iv_e h_4 iq_0_0_0) (zle_o rfl) (zle_o rfl)
    refine k_aload_n X dX11_exchanges_k0.1.2.1.2 0 rfl ?_
    refine k_iconst (v := 1) X dX11_exchanges_k0.1.2.2.1 ic_1 ?_
    refine k_callVI (n := 1) (As := [.int 1]) (st := []) X [(cO11_i1r1i10r1i2r5i2r12i3r4i2 h0 m_thrown2_1 a_tape m_taped m_size m_at m_end m_token m_whole m_nameSize m_fault m_place m_trouble2_2 a_letters m_failed m_hasHouse a_r a_fresh a_st a_undone a_kept m_undos m_images a_from a_begin a_motor a_change a_startFrame a_changeFrame a_lostAt a_blackAt a_slips a_leftArc a_died a_arcs m_bestSum m_nearest m_nearestTown a_there a_backAt a_sorted a_parts m_seed1 m_darkNow)] [(cAI g a_r 311 d_r), (cAI g a_sorted 8 d_sorted), (cAI g a_parts 256 d_parts)] [3] [0, 1, 2] (m_no l g h0 1 m_thrown2_1 a_tape m_taped m_size m_at m_end m_token m_whole m_nameSize m_fault m_place m_trouble2_2 a_letters m_failed m_hasHouse a_r a_fresh a_st a_undone a_kept m_undos m_images a_from a_begin a_motor a_change a_startFrame a_changeFrame a_lostAt a_blackAt a_slips a_leftArc a_died a_arcs m_bestSum m_nearest m_nearestTown a_there a_backAt a_sorted a_parts m_seed1 m_darkNow) dX11_exchanges_k0.1.2.2.2 mw485 mw486 mw487 mw5 mw488 rfl 11 rfl rfl 0 _ rfl yk_yX11_no_1 rfl (Nat.le_of_ble_eq_true rfl) (Nat.le_of_ble_eq_true rfl) (Nat.le_of_ble_eq_true rfl) (Nat.le_of_ble_eq_true rfl) (Nat.le_of_ble_eq_true rfl) rfl rfl (vnd_e rfl) rfl (vnd_e rfl) (dsj_e rfl) ?_
    rintro r_81 w ⟨m_trouble2_80, iv_82, rfl⟩
    refine k_ws [(cAI g a_r 311 d_r), (cAI g a_sorted 8 d_sorted), (cAI g a_parts 256 d_parts), (cO11_i1r1i10r1i2r5i2r12i3r4i2 h0 m_thrown2_1 a_tape m_taped m_size m_at m_end m_token m_whole m_nameSize m_fault m_place m_trouble2_80 a_letters m_failed m_hasHouse a_r a_fresh a_st a_undone a_kept m_undos m_images a_from a_begin a_motor a_change a_startFrame a_changeFrame a_lostAt a_blackAt a_slips a_leftArc a_died a_arcs m_bestSum m_nearest m_nearestTown a_there a_backAt a_sorted a_parts m_seed1 m_darkNow)] rfl ?_
    exact k_iret X hr dX11_exchanges_k0.2.1.1.1 (Nat.le_of_ble_eq_true rfl) (Nat.le_of_ble_eq_true rfl) [3, 0, 1, 2] (vnd_e rfl) rfl rfl (exI4 d_parts d_sorted m_thrown2_1 m_trouble2_80 rfl)

theorem dX11_drawn_k0 : (((dD cX11_drawn 0 (.aload_n 0) 1 ∧ (dD cX11_drawn 1 (.bipush 75) 2 ∧ dD cX11_drawn 3 (.aload_n 0) 1)) ∧ (dD cX11_drawn 4 (.getfield 458) 3 ∧ (dD cX11_drawn 7 .imul 1 ∧ dD cX11_drawn 8 (.bipush 74) 2))) ∧ ((dD cX11_drawn 10 .iadd 1 ∧ (dD cX11_drawn 11 (.ldc_w 461) 3 ∧ dD cX11_drawn 14 .irem 1)) ∧ ((dD cX11_drawn 15 (.putfield 458) 3 ∧ dD cX11_drawn 18 (.aload_n 0) 1) ∧ (dD cX11_drawn 19 (.getfield 458) 3 ∧ dD cX11_drawn 22 .ireturn 1)))) := dkA13 (by decide +kernel)
set_option maxHeartbeats 4000000 in
set_option maxRecDepth 100000 in
theorem m_drawn (l : Launch) (g : Gx) (h0 : Nat) (m_thrown : Int32) (a_tape : Nat) (m_taped : Int32) (m_size : Int32) (m_at : Int32) (m_end : Int32) (m_token : Int32) (m_whole : Int32) (m_nameSize : Int32) (m_fault : Int32) (m_place : Int32) (m_trouble : Int32) (a_letters : Nat) (m_failed : Int32) (m_hasHouse : Int32) (a_r : Nat) (a_fresh : Nat) (a_st : Nat) (a_undone : Nat) (a_kept : Nat) (m_undos : Int32) (m_images : Int32) (a_from : Nat) (a_begin : Nat) (a_motor : Nat) (a_change : Nat) (a_startFrame : Nat) (a_changeFrame : Nat) (a_lostAt : Nat) (a_blackAt : Nat) (a_slips : Nat) (a_leftArc : Nat) (a_died : Nat) (a_arcs : Nat) (m_bestSum : Int32) (m_nearest : Int32) (m_nearestTown : Int32) (a_there : Nat) (a_backAt : Nat) (a_sorted : Nat) (a_parts : Nat) (m_seed1 : Int32) (m_darkNow : Int32) : cI l g yX11_drawn cX11_drawn 1 (some .int) 0 0 0 0 [.ref h0] [(cO11_i1r1i10r1i2r5i2r12i3r4i2 h0 m_thrown a_tape m_taped m_size m_at m_end m_token m_whole m_nameSize m_fault m_place m_trouble a_letters m_failed m_hasHouse a_r a_fresh a_st a_undone a_kept m_undos m_images a_from a_begin a_motor a_change a_startFrame a_changeFrame a_lostAt a_blackAt a_slips a_leftArc a_died a_arcs m_bestSum m_nearest m_nearestTown a_there a_backAt a_sorted a_parts m_seed1 m_darkNow)] (fun r w => ∃ (m_seed12 : Int32), w = [(cO11_i1r1i10r1i2r5i2r12i3r4i2 h0 m_thrown a_tape m_taped m_size m_at m_end m_token m_whole m_nameSize m_fault m_place m_trouble a_letters m_failed m_hasHouse a_r a_fresh a_st a_undone a_kept m_undos m_images a_from a_begin a_motor a_change a_startFrame a_changeFrame a_lostAt a_blackAt a_slips a_leftArc a_died a_arcs m_bestSum m_nearest m_nearestTown a_there a_backAt a_sorted a_parts m_seed12 m_darkNow)]) := by
  refine cI.of (by decide) (Nat.le_of_ble_eq_true rfl) ?_
  intro p e s m args below meth c A X hr hi
  refine k_lveq [(0, .ref h0)] rfl ?_
  refine k_aload_n X dX11_drawn_k0.1.1.1 0 rfl ?_
  refine k_bipush (v := 75) X dX11_drawn_k0.1.1.2.1 bi_75 ?_
  refine k_aload_n X dX11_drawn_k0.1.1.2.2 0 rfl ?_
  refine k_get (ci := 11) X inlX11 rfl 41 (nlt_e rfl) dX11_drawn_k0.1.2.1 mw1421 0 rfl rfl ?_
  refine k_imul X dX11_drawn_k0.1.2.2.1 ?_
  refine k_nm (fun z_1 ez_1 => ?_)
  refine k_bipush (v := 74) X dX11_drawn_k0.1.2.2.2 bi_74 ?_
  refine k_iadd X dX11_drawn_k0.2.1.1 ?_
  refine k_nm (fun z_3 ez_3 => ?_)
  refine k_ldcw (v := 65537) X dX11_drawn_k0.2.1.2.1 mw1431 ?_
  refine k_irem X dX11_drawn_k0.2.1.2.2 (by decide) ?_
  refine k_nm (fun z_5 ez_5 => ?_)
  refine k_put (ci := 11) [(cO11_i1r1i10r1i2r5i2r12i3r4i2 h0 m_thrown a_tape m_taped m_size m_at m_end m_token m_whole m_nameSize m_fault m_place m_trouble a_letters m_failed m_hasHouse a_r a_fresh a_st a_undone a_kept m_undos m_images a_from a_begin a_motor a_change a_startFrame a_changeFrame a_lostAt a_blackAt a_slips a_leftArc a_died a_arcs m_bestSum m_nearest m_nearestTown a_there a_backAt a_sorted a_parts z_5 m_darkNow)] X inlX11 rfl tyX11_ok nmX11 41 (nlt_e rfl) rfl dX11_drawn_k0.2.2.1.1 mw1421 0 rfl rfl rfl (Nat.le_of_ble_eq_true rfl) rfl ?_
  refine k_aload_n X dX11_drawn_k0.2.2.1.2 0 rfl ?_
  refine k_get (ci := 11) X inlX11 rfl 41 (nlt_e rfl) dX11_drawn_k0.2.2.2.1 mw1421 0 rfl rfl ?_
  exact k_iret X hr dX11_drawn_k0.2.2.2.2 (Nat.le_of_ble_eq_true rfl) (Nat.le_of_ble_eq_true rfl) [0] (vnd_e rfl) rfl rfl ⟨z_5, rfl⟩

theorem dX11_drawNight_k0 : ((((dD cX11_drawNight 0 (.aload_n 0) 1 ∧ dD cX11_drawNight 1 (.getfield 20) 3) ∧ (dD cX11_drawNight 4 (.bipush 12) 2 ∧ dD cX11_drawNight 6 .iaload 1)) ∧ ((dD cX11_drawNight 7 (.iconst 1) 1 ∧ dD cX11_drawNight 8 .isub 1) ∧ (dD cX11_drawNight 9 (.istore_n 2) 1 ∧ dD cX11_drawNight 10 (.iconst 0) 1))) ∧ (((dD cX11_drawNight 11 (.istore_n 3) 1 ∧ dD cX11_drawNight 12 (.iload_n 3) 1) ∧ (dD cX11_drawNight 13 (.bipush 8) 2 ∧ dD cX11_drawNight 15 (.if_icmp .ge 16) 3)) ∧ ((dD cX11_drawNight 18 (.aload_n 0) 1 ∧ dD cX11_drawNight 19 (.getfield 59) 3) ∧ (dD cX11_drawNight 22 (.iload_n 3) 1 ∧ dD cX11_drawNight 23 (.iconst 0) 1)))) := dkA16 (by decide +kernel)
theorem dX11_drawNight_k1 : ((((dD cX11_drawNight 24 .iastore 1 ∧ dD cX11_drawNight 25 (.iinc 3 1) 3) ∧ (dD cX11_drawNight 28 (.goto (-16)) 3 ∧ dD cX11_drawNight 31 (.aload_n 0) 1)) ∧ ((dD cX11_drawNight 32 (.iload_n 1) 1 ∧ dD cX11_drawNight 33 (.invokevirtual 367) 3) ∧ (dD cX11_drawNight 36 (.aload_n 0) 1 ∧ dD cX11_drawNight 37 (.iconst 0) 1))) ∧ (((dD cX11_drawNight 38 (.putfield 462) 3 ∧ dD cX11_drawNight 41 (.iconst 0) 1) ∧ (dD cX11_drawNight 42 (.istore_n 3) 1 ∧ dD cX11_drawNight 43 (.iload_n 3) 1)) ∧ ((dD cX11_drawNight 44 (.iload_n 2) 1 ∧ dD cX11_drawNight 45 (.if_icmp .gt 152) 3) ∧ (dD cX11_drawNight 48 (.aload_n 0) 1 ∧ dD cX11_drawNight 49 (.iload_n 3) 1)))) := dkA16 (by decide +kernel)
theorem dX11_drawNight_k2 : ((((dD cX11_drawNight 50 (.invokevirtual 357) 3 ∧ dD cX11_drawNight 53 (.ifCond .eq 6) 3) ∧ (dD cX11_drawNight 56 (.goto 135) 3 ∧ dD cX11_drawNight 59 (.iload_n 3) 1)) ∧ ((dD cX11_drawNight 60 (.iload_n 2) 1 ∧ dD cX11_drawNight 61 (.if_icmp .ge 34) 3) ∧ (dD cX11_drawNight 64 (.aload_n 0) 1 ∧ dD cX11_drawNight 65 (.getfield 59) 3))) ∧ (((dD cX11_drawNight 68 (.iload_n 3) 1 ∧ dD cX11_drawNight 69 (.aload_n 0) 1) ∧ (dD cX11_drawNight 70 (.invokevirtual 465) 3 ∧ dD cX11_drawNight 73 (.aload_n 0) 1)) ∧ ((dD cX11_drawNight 74 (.getfield 20) 3 ∧ dD cX11_drawNight 77 (.bipush 114) 2) ∧ (dD cX11_drawNight 79 (.iconst 3) 1 ∧ dD cX11_drawNight 80 (.iload_n 1) 1)))) := dkA16 (by decide +kernel)
theorem dX11_drawNight_k3 : ((((dD cX11_drawNight 81 .imul 1 ∧ dD cX11_drawNight 82 .iadd 1) ∧ (dD cX11_drawNight 83 (.iconst 2) 1 ∧ dD cX11_drawNight 84 .iadd 1)) ∧ ((dD cX11_drawNight 85 .iaload 1 ∧ dD cX11_drawNight 86 (.iconst 1) 1) ∧ (dD cX11_drawNight 87 .iadd 1 ∧ dD cX11_drawNight 88 .irem 1))) ∧ (((dD cX11_drawNight 89 .iastore 1 ∧ dD cX11_drawNight 90 (.aload_n 0) 1) ∧ (dD cX11_drawNight 91 (.iload_n 1) 1 ∧ dD cX11_drawNight 92 (.invokevirtual 367) 3)) ∧ ((dD cX11_drawNight 95 (.iconst 0) 1 ∧ dD cX11_drawNight 96 (.istore 4) 2) ∧ (dD cX11_drawNight 98 (.iload 4) 2 ∧ dD cX11_drawNight 100 (.aload_n 0) 1)))) := dkA16 (by decide +kernel)
theorem dX11_drawNight_k4 : ((((dD cX11_drawNight 101 (.getfield 20) 3 ∧ dD cX11_drawNight 104 (.bipush 10) 2) ∧ (dD cX11_drawNight 106 .iaload 1 ∧ dD cX11_drawNight 107 (.if_icmp .ge 84) 3)) ∧ ((dD cX11_drawNight 110 (.aload_n 0) 1 ∧ dD cX11_drawNight 111 (.getfield 20) 3) ∧ (dD cX11_drawNight 114 (.bipush 96) 2 ∧ dD cX11_drawNight 116 (.iconst 3) 1))) ∧ (((dD cX11_drawNight 117 (.iload 4) 2 ∧ dD cX11_drawNight 119 .imul 1) ∧ (dD cX11_drawNight 120 .iadd 1 ∧ dD cX11_drawNight 121 .iaload 1)) ∧ ((dD cX11_drawNight 122 (.aload_n 0) 1 ∧ dD cX11_drawNight 123 (.iload_n 3) 1) ∧ (dD cX11_drawNight 124 (.invokevirtual 324) 3 ∧ dD cX11_drawNight 127 (.if_icmp .ne 58) 3)))) := dkA16 (by decide +kernel)
theorem dX11_drawNight_k5 : ((((dD cX11_drawNight 130 (.aload_n 0) 1 ∧ dD cX11_drawNight 131 (.iload 4) 2) ∧ (dD cX11_drawNight 133 (.invokevirtual 339) 3 ∧ dD cX11_drawNight 136 (.ifCond .eq 6) 3)) ∧ ((dD cX11_drawNight 139 (.goto 46) 3 ∧ dD cX11_drawNight 142 (.aload_n 0) 1) ∧ (dD cX11_drawNight 143 .dup 1 ∧ dD cX11_drawNight 144 (.getfield 462) 3))) ∧ (((dD cX11_drawNight 147 (.aload_n 0) 1 ∧ dD cX11_drawNight 148 (.invokevirtual 465) 3) ∧ (dD cX11_drawNight 151 (.bipush 100) 2 ∧ dD cX11_drawNight 153 .irem 1)) ∧ ((dD cX11_drawNight 154 (.aload_n 0) 1 ∧ dD cX11_drawNight 155 (.getfield 20) 3) ∧ (dD cX11_drawNight 158 (.bipush 96) 2 ∧ dD cX11_drawNight 160 (.iconst 3) 1)))) := dkA16 (by decide +kernel)
theorem dX11_drawNight_k6 : ((((dD cX11_drawNight 161 (.iload 4) 2 ∧ dD cX11_drawNight 163 .imul 1) ∧ (dD cX11_drawNight 164 .iadd 1 ∧ dD cX11_drawNight 165 (.iconst 2) 1)) ∧ ((dD cX11_drawNight 166 .iadd 1 ∧ dD cX11_drawNight 167 .iaload 1) ∧ (dD cX11_drawNight 168 (.if_icmp .ge 12) 3 ∧ dD cX11_drawNight 171 (.aload_n 0) 1))) ∧ (((dD cX11_drawNight 172 (.getfield 20) 3 ∧ dD cX11_drawNight 175 (.iconst 5) 1) ∧ (dD cX11_drawNight 176 .iaload 1 ∧ dD cX11_drawNight 177 (.goto 4) 3)) ∧ ((dD cX11_drawNight 180 (.iconst 0) 1 ∧ dD cX11_drawNight 181 .iadd 1) ∧ (dD cX11_drawNight 182 (.putfield 462) 3 ∧ dD cX11_drawNight 185 (.iinc 4 1) 3)))) := dkA16 (by decide +kernel)
theorem dX11_drawNight_k7 : ((dD cX11_drawNight 188 (.goto (-90)) 3 ∧ dD cX11_drawNight 191 (.iinc 3 1) 3) ∧ (dD cX11_drawNight 194 (.goto (-151)) 3 ∧ dD cX11_drawNight 197 .return_ 1)) := dkA4 (by decide +kernel)
set_option maxHeartbeats 4000000 in
set_option maxRecDepth 100000 in
theorem m_drawNight (l : Launch) (g : Gx) (h0 : Nat) (p0 : Int32) (m_thrown : Int32) (a_tape : Nat) (m_taped : Int32) (m_size : Int32) (m_at : Int32) (m_end : Int32) (m_token : Int32) (m_whole : Int32) (m_nameSize : Int32) (m_fault : Int32) (m_place : Int32) (m_trouble : Int32) (a_letters : Nat) (m_failed : Int32) (m_hasHouse : Int32) (a_r : Nat) (a_fresh : Nat) (a_st : Nat) (a_undone : Nat) (a_kept : Nat) (m_undos : Int32) (m_images : Int32) (a_from : Nat) (a_begin : Nat) (a_motor : Nat) (a_change : Nat) (a_startFrame : Nat) (a_changeFrame : Nat) (a_lostAt : Nat) (a_blackAt : Nat) (a_slips : Nat) (a_leftArc : Nat) (a_died : Nat) (a_arcs : Nat) (m_bestSum : Int32) (m_nearest : Int32) (m_nearestTown : Int32) (a_there : Nat) (a_backAt : Nat) (a_sorted : Nat) (a_parts : Nat) (m_seed1 : Int32) (m_darkNow : Int32) (d_r : Nat → Int32) (d_st : Nat → Int32) (d_from : Nat → Int32) (d_begin : Nat → Int32) (d_motor : Nat → Int32) (d_change : Nat → Int32) (d_startFrame : Nat → Int32) (d_changeFrame : Nat → Int32) (d_lostAt : Nat → Int32) (d_blackAt : Nat → Int32) (d_slips : Nat → Int32) (hv_p0 : IV p0 0 3) (hp_d_r : RInv d_r) : cV l g yX11_drawNight cX11_drawNight 5 4 88 0 0 [.ref h0, .int p0] [(cO11_i1r1i10r1i2r5i2r12i3r4i2 h0 m_thrown a_tape m_taped m_size m_at m_end m_token m_whole m_nameSize m_fault m_place m_trouble a_letters m_failed m_hasHouse a_r a_fresh a_st a_undone a_kept m_undos m_images a_from a_begin a_motor a_change a_startFrame a_changeFrame a_lostAt a_blackAt a_slips a_leftArc a_died a_arcs m_bestSum m_nearest m_nearestTown a_there a_backAt a_sorted a_parts m_seed1 m_darkNow), (cAI g a_r 311 d_r), (cAI g a_st 44 d_st), (cAI g a_from 8 d_from), (cAI g a_begin 8 d_begin), (cAI g a_motor 8 d_motor), (cAI g a_change 8 d_change), (cAI g a_startFrame 8 d_startFrame), (cAI g a_changeFrame 8 d_changeFrame), (cAI g a_lostAt 8 d_lostAt), (cAI g a_blackAt 8 d_blackAt), (cAI g a_slips 8 d_slips)] (fun w => ∃ (d_begin2 : Nat → Int32) (d_blackAt2 : Nat → Int32) (d_change2 : Nat → Int32) (d_changeFrame2 : Nat → Int32) (m_darkNow2 : Int32) (d_from2 : Nat → Int32) (d_lostAt2 : Nat → Int32) (d_motor2 : Nat → Int32) (m_seed12 : Int32) (d_slips2 : Nat → Int32) (d_startFrame2 : Nat → Int32), w = [(cO11_i1r1i10r1i2r5i2r12i3r4i2 h0 m_thrown a_tape m_taped m_size m_at m_end m_token m_whole m_nameSize m_fault m_place m_trouble a_letters m_failed m_hasHouse a_r a_fresh a_st a_undone a_kept m_undos m_images a_from a_begin a_motor a_change a_startFrame a_changeFrame a_lostAt a_blackAt a_slips a_leftArc a_died a_arcs m_bestSum m_nearest m_nearestTown a_there a_backAt a_sorted a_parts m_seed12 m_darkNow2), (cAI g a_r 311 d_r), (cAI g a_st 44 d_st), (cAI g a_from 8 d_from2), (cAI g a_begin 8 d_begin2), (cAI g a_motor 8 d_motor2), (cAI g a_change 8 d_change2), (cAI g a_startFrame 8 d_startFrame2), (cAI g a_changeFrame 8 d_changeFrame2), (cAI g a_lostAt 8 d_lostAt2), (cAI g a_blackAt 8 d_blackAt2), (cAI g a_slips 8 d_slips2)]) := by
  refine cV.of (by decide) (Nat.le_of_ble_eq_true rfl) ?_
  intro p e s m args below meth c A X hr hi
  refine k_lveq [(0, .ref h0), (1, .int p0)] rfl ?_
  refine k_aload_n X dX11_drawNight_k0.1.1.1.1 0 rfl ?_
  refine k_get (ci := 11) X inlX11 rfl 15 (nlt_e rfl) dX11_drawNight_k0.1.1.1.2 mw170 0 rfl rfl ?_
  refine k_bipush (v := 12) X dX11_drawNight_k0.1.1.2.1 bi_12 ?_
  refine k_iald X dX11_drawNight_k0.1.1.2.2 1 rfl (by unfold vp_in; decide) ?_
  refine k_nm (fun z_1 ez_1 => ?_)
  have i_2 : z_1.toInt = (d_r 12).toInt := by rw [ez_1]; rfl
  have iv_3 : IV z_1 0 8 := rb_12 ez_1 hp_d_r
  refine k_iconst (v := 1) X dX11_drawNight_k0.1.2.1.1 ic_1 ?_
  refine k_isub X dX11_drawNight_k0.1.2.1.2 ?_
  refine k_nm (fun z_4 ez_4 => ?_)
  have i_5 : z_4.toInt = z_1.toInt - 1 := in_sub ez_4 iv_3 iq_1_1_1 (zle_e rfl) (zle_e rfl)
  have iv_6 : IV z_4 (-1) 7 := iz5 i_5 iv_3 (zle_e rfl) (zle_e rfl)
  refine k_istore_n [(2, .int z_4), (0, .ref h0), (1, .int p0)] X dX11_drawNight_k0.1.2.2.1 (nlt_e rfl) rfl ?_
  refine k_iconst (v := 0) X dX11_drawNight_k0.1.2.2.2 ic_0 ?_
  refine k_istore_n [(3, .int 0), (2, .int z_4), (0, .ref h0), (1, .int p0)] X dX11_drawNight_k0.2.1.1.1 (nlt_e rfl) rfl ?_
  refine (fun hL : ∀ (nn_10 : Nat) (uf_7 : Nat → Int32) (u_8 : Int32), (8 - u_8.toInt).toNat = nn_10 → (IV u_8 0 8) → Wk p l e _ s m args below meth c _ A g _ _ _ [(cO11_i1r1i10r1i2r5i2r12i3r4i2 h0 m_thrown a_tape m_taped m_size m_at m_end m_token m_whole m_nameSize m_fault m_place m_trouble a_letters m_failed m_hasHouse a_r a_fresh a_st a_undone a_kept m_undos m_images a_from a_begin a_motor a_change a_startFrame a_changeFrame a_lostAt a_blackAt a_slips a_leftArc a_died a_arcs m_bestSum m_nearest m_nearestTown a_there a_backAt a_sorted a_parts m_seed1 m_darkNow), (cAI g a_r 311 d_r), (cAI g a_st 44 d_st), (cAI g a_from 8 d_from), (cAI g a_begin 8 d_begin), (cAI g a_motor 8 d_motor), (cAI g a_change 8 d_change), (cAI g a_startFrame 8 d_startFrame), (cAI g a_changeFrame 8 d_changeFrame), (cAI g a_lostAt 8 d_lostAt), (cAI g a_blackAt 8 d_blackAt), (cAI g a_slips 8 uf_7)] [(3, .int u_8), (2, .int z_4), (0, .ref h0), (1, .int p0)] 12 [] => hL _ d_slips 0 rfl (iv_w iq_0_0_0 (zle_e rfl) (zle_e rfl))) ?_
  refine fun nn_10 => Nat.strongRecOn nn_10 (fun nn_10 ih_12 => ?_)
  intro uf_7 u_8 hm_11 hv_9
  refine k_iload_n X dX11_drawNight_k0.2.1.1.2 0 rfl ?_
  refine k_bipush (v := 8) X dX11_drawNight_k0.2.1.2.1 bi_8 ?_
  refine k_ic_ge 31 X dX11_drawNight_k0.2.1.2.2 (jp_e rfl) (fun h_13 => ?_) (fun h_13 => ?_)
  · skip
    have j_14 : 8 ≤ u_8.toInt := iv_le h_13
    have iv_15 : IV u_8 8 8 := iv_leR (iv_le h_13) iq_8_8_8 hv_9 (zle_e rfl)
    refine k_aload_n X dX11_drawNight_k1.1.1.2.2 2 rfl ?_
    refine k_iload_n X dX11_drawNight_k1.1.2.1.1 3 rfl ?_
    refine k_callVV (n := 1) (As := [.int p0]) (st := []) X [(cO11_i1r1i10r1i2r5i2r12i3r4i2 h0 m_thrown a_tape m_taped m_size m_at m_end m_token m_whole m_nameSize m_fault m_place m_trouble a_letters m_failed m_hasHouse a_r a_fresh a_st a_undone a_kept m_undos m_images a_from a_begin a_motor a_change a_startFrame a_changeFrame a_lostAt a_blackAt a_slips a_leftArc a_died a_arcs m_bestSum m_nearest m_nearestTown a_there a_backAt a_sorted a_parts m_seed1 m_darkNow), (cAI g a_r 311 d_r), (cAI g a_st 44 d_st), (cAI g a_from 8 d_from), (cAI g a_begin 8 d_begin), (cAI g a_motor 8 d_motor), (cAI g a_change 8 d_change), (cAI g a_startFrame 8 d_startFrame), (cAI g a_changeFrame 8 d_changeFrame), (cAI g a_lostAt 8 d_lostAt), (cAI g a_blackAt 8 d_blackAt), (cAI g a_slips 8 uf_7)] [] [0, 1, 2, 3, 4, 5, 6, 7, 8, 9, 10, 11] [] (m_layNight l g h0 p0 m_thrown a_tape m_taped m_size m_at m_end m_token m_whole m_nameSize m_fault m_place m_trouble a_letters m_failed m_hasHouse a_r a_fresh a_st a_undone a_kept m_undos m_images a_from a_begin a_motor a_change a_startFrame a_changeFrame a_lostAt a_blackAt a_slips a_leftArc a_died a_arcs m_bestSum m_nearest m_nearestTown a_there a_backAt a_sorted a_parts m_seed1 m_darkNow d_r d_st d_from d_begin d_motor d_change d_startFrame d_changeFrame d_lostAt d_blackAt uf_7 (iv_w hv_p0 (zle_e rfl) (zle_e rfl)) hp_d_r) dX11_drawNight_k1.1.2.1.2 mw819 mw820 mw821 mw5 mw822 rfl 11 rfl rfl 0 _ rfl yk_yX11_layNight_1 rfl (Nat.le_of_ble_eq_true rfl) (Nat.le_of_ble_eq_true rfl) (Nat.le_of_ble_eq_true rfl) (Nat.le_of_ble_eq_true rfl) (Nat.le_of_ble_eq_true rfl) rfl rfl (by decide +kernel) rfl (by decide +kernel) (by decide +kernel) ?_
    rintro w ⟨d_begin2_16, d_blackAt2_17, d_change2_18, d_changeFrame2_19, d_from2_20, d_lostAt2_21, d_motor2_22, d_startFrame2_23, rfl⟩
    refine k_ws [(cO11_i1r1i10r1i2r5i2r12i3r4i2 h0 m_thrown a_tape m_taped m_size m_at m_end m_token m_whole m_nameSize m_fault m_place m_trouble a_letters m_failed m_hasHouse a_r a_fresh a_st a_undone a_kept m_undos m_images a_from a_begin a_motor a_change a_startFrame a_changeFrame a_lostAt a_blackAt a_slips a_leftArc a_died a_arcs m_bestSum m_nearest m_nearestTown a_there a_backAt a_sorted a_parts m_seed1 m_darkNow), (cAI g a_r 311 d_r), (cAI g a_st 44 d_st), (cAI g a_from 8 d_from2_20), (cAI g a_begin 8 d_begin2_16), (cAI g a_motor 8 d_motor2_22), (cAI g a_change 8 d_change2_18), (cAI g a_startFrame 8 d_startFrame2_23), (cAI g a_changeFrame 8 d_changeFrame2_19), (cAI g a_lostAt 8 d_lostAt2_21), (cAI g a_blackAt 8 d_blackAt2_17), (cAI g a_slips 8 uf_7)] rfl ?_
    refine k_aload_n X dX11_drawNight_k1.1.2.2.1 2 rfl ?_
    refine k_iconst (v := 0) X dX11_drawNight_k1.1.2.2.2 ic_0 ?_
    refine k_put (ci := 11) [(cO11_i1r1i10r1i2r5i2r12i3r4i2 h0 m_thrown a_tape m_taped m_size m_at m_end m_token m_whole m_nameSize m_fault m_place m_trouble a_letters m_failed m_hasHouse a_r a_fresh a_st a_undone a_kept m_undos m_images a_from a_begin a_motor a_change a_startFrame a_changeFrame a_lostAt a_blackAt a_slips a_leftArc a_died a_arcs m_bestSum m_nearest m_nearestTown a_there a_backAt a_sorted a_parts m_seed1 0), (cAI g a_r 311 d_r), (cAI g a_st 44 d_st), (cAI g a_from 8 d_from2_20), (cAI g a_begin 8 d_begin2_16), (cAI g a_motor 8 d_motor2_22), (cAI g a_change 8 d_change2_18), (cAI g a_startFrame 8 d_startFrame2_23), (cAI g a_changeFrame 8 d_changeFrame2_19), (cAI g a_lostAt 8 d_lostAt2_21), (cAI g a_blackAt 8 d_blackAt2_17), (cAI g a_slips 8 uf_7)] X inlX11 rfl tyX11_ok nmX11 42 (nlt_e rfl) rfl dX11_drawNight_k1.2.1.1.1 mw1422 0 rfl rfl rfl (Nat.le_of_ble_eq_true rfl) rfl ?_
    refine k_iconst (v := 0) X dX11_drawNight_k1.2.1.1.2 ic_0 ?_
    refine k_istore_n [(3, .int 0), (2, .int z_4), (0, .ref h0), (1, .int p0)] X dX11_drawNight_k1.2.1.2.1 (nlt_e rfl) rfl ?_
    refine (fun hL : ∀ (nn_38 : Nat) (uf_25 : Nat → Int32) (uf_26 : Nat → Int32) (uf_27 : Nat → Int32) (uf_28 : Nat → Int32) (uf_29 : Nat → Int32) (uf_30 : Nat → Int32) (uf_31 : Nat → Int32) (uf_32 : Nat → Int32) (uf_33 : Nat → Int32) (u_34 : Int32) (u_36 : Int32) (u_37 : Int32), (z_4.toInt + 1 - u_34.toInt).toNat = nn_38 → (IV u_34 0 8) → Wk p l e _ s m args below meth c _ A g _ _ _ [(cO11_i1r1i10r1i2r5i2r12i3r4i2 h0 m_thrown a_tape m_taped m_size m_at m_end m_token m_whole m_nameSize m_fault m_place m_trouble a_letters m_failed m_hasHouse a_r a_fresh a_st a_undone a_kept m_undos m_images a_from a_begin a_motor a_change a_startFrame a_changeFrame a_lostAt a_blackAt a_slips a_leftArc a_died a_arcs m_bestSum m_nearest m_nearestTown a_there a_backAt a_sorted a_parts u_36 u_37), (cAI g a_r 311 d_r), (cAI g a_st 44 d_st), (cAI g a_from 8 uf_29), (cAI g a_begin 8 uf_25), (cAI g a_motor 8 uf_31), (cAI g a_change 8 uf_27), (cAI g a_startFrame 8 uf_33), (cAI g a_changeFrame 8 uf_28), (cAI g a_lostAt 8 uf_30), (cAI g a_blackAt 8 uf_26), (cAI g a_slips 8 uf_32)] [(3, .int u_34), (2, .int z_4), (0, .ref h0), (1, .int p0)] 43 [] => hL _ d_begin2_16 d_blackAt2_17 d_change2_18 d_changeFrame2_19 d_from2_20 d_lostAt2_21 d_motor2_22 uf_7 d_startFrame2_23 0 m_seed1 0 rfl (iv_w iq_0_0_0 (zle_e rfl) (zle_e rfl))) ?_
    refine fun nn_38 => Nat.strongRecOn nn_38 (fun nn_38 ih_40 => ?_)
    intro uf_25 uf_26 uf_27 uf_28 uf_29 uf_30 uf_31 uf_32 uf_33 u_34 u_36 u_37 hm_39 hv_35
    refine k_iload_n X dX11_drawNight_k1.2.1.2.2 0 rfl ?_
    refine k_iload_n X dX11_drawNight_k1.2.2.1.1 1 rfl ?_
    refine k_ic_gt 197 X dX11_drawNight_k1.2.2.1.2 (jp_e rfl) (fun h_41 => ?_) (fun h_41 => ?_)
    · skip
      have j_42 : z_4.toInt < u_34.toInt := iv_lt h_41
      exact k_vret X hr dX11_drawNight_k7.2.2 (Nat.le_of_ble_eq_true rfl) (Nat.le_of_ble_eq_true rfl) [0, 1, 2, 3, 4, 5, 6, 7, 8, 9, 10, 11] (vnd_e rfl) rfl rfl (exI11 uf_25 uf_26 uf_27 uf_28 u_37 uf_29 uf_30 uf_31 u_36 uf_32 uf_33 rfl)
    · skip
      have j_43 : u_34.toInt ≤ z_4.toInt := iv_nlt h_41
      have iv_44 : IV u_34 0 7 := iv_leL (iv_nlt h_41) hv_35 iv_6 (zle_e rfl)
      have iv_45 : IV z_4 0 7 := iv_leR (iv_nlt h_41) hv_35 iv_6 (zle_e rfl)
      have iv_46 : IV z_1 1 8 := by have := iv_3; have := iv_45; rw [IV]; omega
      refine k_aload_n X dX11_drawNight_k1.2.2.2.1 2 rfl ?_
      refine k_iload_n X dX11_drawNight_k1.2.2.2.2 0 rfl ?_
      refine k_callVI (n := 1) (As := [.int u_34]) (st := []) X [(cO11_i1r1i10r1i2r5i2r12i3r4i2 h0 m_thrown a_tape m_taped m_size m_at m_end m_token m_whole m_nameSize m_fault m_place m_trouble a_letters m_failed m_hasHouse a_r a_fresh a_st a_undone a_kept m_undos m_images a_from a_begin a_motor a_change a_startFrame a_changeFrame a_lostAt a_blackAt a_slips a_leftArc a_died a_arcs m_bestSum m_nearest m_nearestTown a_there a_backAt a_sorted a_parts u_36 u_37), (cAI g a_r 311 d_r), (cAI g a_st 44 d_st), (cAI g a_from 8 uf_29)] [(cAI g a_begin 8 uf_25), (cAI g a_motor 8 uf_31), (cAI g a_change 8 uf_27), (cAI g a_startFrame 8 uf_33), (cAI g a_changeFrame 8 uf_28), (cAI g a_lostAt 8 uf_30), (cAI g a_blackAt 8 uf_26), (cAI g a_slips 8 uf_32)] [0, 1, 2, 3] [4, 5, 6, 7, 8, 9, 10, 11] (m_isGone l g h0 u_34 m_thrown a_tape m_taped m_size m_at m_end m_token m_whole m_nameSize m_fault m_place m_trouble a_letters m_failed m_hasHouse a_r a_fresh a_st a_undone a_kept m_undos m_images a_from a_begin a_motor a_change a_startFrame a_changeFrame a_lostAt a_blackAt a_slips a_leftArc a_died a_arcs m_bestSum m_nearest m_nearestTown a_there a_backAt a_sorted a_parts u_36 u_37 d_r d_st uf_29 (iv_w iv_44 (zle_e rfl) (zle_e rfl)) hp_d_r) dX11_drawNight_k2.1.1.1.1 mw827 mw828 mw829 mw5 mw830 rfl 11 rfl rfl 0 _ rfl yk_yX11_isGone_1 rfl (Nat.le_of_ble_eq_true rfl) (Nat.le_of_ble_eq_true rfl) (Nat.le_of_ble_eq_true rfl) (Nat.le_of_ble_eq_true rfl) (Nat.le_of_ble_eq_true rfl) rfl rfl (by decide +kernel) rfl (by decide +kernel) (by decide +kernel) ?_
      rintro r_47 w ⟨iv_48, rfl⟩
      refine k_ws [(cAI g a_begin 8 uf_25), (cAI g a_motor 8 uf_31), (cAI g a_change 8 uf_27), (cAI g a_startFrame 8 uf_33), (cAI g a_changeFrame 8 uf_28), (cAI g a_lostAt 8 uf_30), (cAI g a_blackAt 8 uf_26), (cAI g a_slips 8 uf_32), (cO11_i1r1i10r1i2r5i2r12i3r4i2 h0 m_thrown a_tape m_taped m_size m_at m_end m_token m_whole m_nameSize m_fault m_place m_trouble a_letters m_failed m_hasHouse a_r a_fresh a_st a_undone a_kept m_undos m_images a_from a_begin a_motor a_change a_startFrame a_changeFrame a_lostAt a_blackAt a_slips a_leftArc a_died a_arcs m_bestSum m_nearest m_nearestTown a_there a_backAt a_sorted a_parts u_36 u_37), (cAI g a_r 311 d_r), (cAI g a_st 44 d_st), (cAI g a_from 8 uf_29)] rfl ?_
      refine k_if_eq 59 X dX11_drawNight_k2.1.1.1.2 (jp_e rfl) (fun h_49 => ?_) (fun h_49 => ?_)
      · skip
        have iv_50 : IV r_47 0 0 := iv_meet iv_48 (iv_e h_49 iq_0_0_0) (zle_o rfl) (zle_o rfl)
        refine k_iload_n X dX11_drawNight_k2.1.1.2.2 0 rfl ?_
        refine k_iload_n X dX11_drawNight_k2.1.2.1.1 1 rfl ?_
        refine k_ic_ge 95 X dX11_drawNight_k2.1.2.1.2 (jp_e rfl) (fun h_51 => ?_) (fun h_51 => ?_)
        · skip
          have j_52 : z_4.toInt ≤ u_34.toInt := iv_le h_51
          refine k_iconst (v := 0) X dX11_drawNight_k3.2.2.1.1 ic_0 ?_
          refine k_istore [(4, .int 0), (3, .int u_34), (2, .int z_4), (0, .ref h0), (1, .int p0)] X dX11_drawNight_k3.2.2.1.2 (nlt_e rfl) rfl ?_
          refine (fun hL : ∀ (nn_57 : Nat) (u_53 : Int32) (u_55 : Int32) (u_56 : Int32), (2147483647 - u_53.toInt).toNat = nn_57 → (IV u_53 0 8) → Wk p l e _ s m args below meth c _ A g _ _ _ [(cAI g a_begin 8 uf_25), (cAI g a_motor 8 uf_31), (cAI g a_change 8 uf_27), (cAI g a_startFrame 8 uf_33), (cAI g a_changeFrame 8 uf_28), (cAI g a_lostAt 8 uf_30), (cAI g a_blackAt 8 uf_26), (cAI g a_slips 8 uf_32), (cO11_i1r1i10r1i2r5i2r12i3r4i2 h0 m_thrown a_tape m_taped m_size m_at m_end m_token m_whole m_nameSize m_fault m_place m_trouble a_letters m_failed m_hasHouse a_r a_fresh a_st a_undone a_kept m_undos m_images a_from a_begin a_motor a_change a_startFrame a_changeFrame a_lostAt a_blackAt a_slips a_leftArc a_died a_arcs m_bestSum m_nearest m_nearestTown a_there a_backAt a_sorted a_parts u_55 u_56), (cAI g a_r 311 d_r), (cAI g a_st 44 d_st), (cAI g a_from 8 uf_29)] [(4, .int u_53), (3, .int u_34), (2, .int z_4), (0, .ref h0), (1, .int p0)] 98 [] => hL _ 0 u_36 u_37 rfl (iv_w iq_0_0_0 (zle_e rfl) (zle_e rfl))) ?_
          refine fun nn_57 => Nat.strongRecOn nn_57 (fun nn_57 ih_59 => ?_)
          intro u_53 u_55 u_56 hm_58 hv_54
          refine k_iload X dX11_drawNight_k3.2.2.2.1 0 rfl ?_
          refine k_aload_n X dX11_drawNight_k3.2.2.2.2 3 rfl ?_
          refine k_get (ci := 11) X inlX11 rfl 15 (nlt_e rfl) dX11_drawNight_k4.1.1.1.1 mw170 8 rfl rfl ?_
          refine k_bipush (v := 10) X dX11_drawNight_k4.1.1.1.2 bi_10 ?_
          refine k_iald X dX11_drawNight_k4.1.1.2.1 9 rfl (by unfold vp_in; decide) ?_
          refine k_nm (fun z_60 ez_60 => ?_)
          have i_61 : z_60.toInt = (d_r 10).toInt := by rw [ez_60]; rfl
          have iv_62 : IV z_60 0 6 := rb_10 ez_60 hp_d_r
          refine k_ic_ge 191 X dX11_drawNight_k4.1.1.2.2 (jp_e rfl) (fun h_63 => ?_) (fun h_63 => ?_)
          · skip
            have j_64 : z_60.toInt ≤ u_53.toInt := iv_le h_63
            obtain ⟨z_65, ez_65⟩ : ∃ y : Int32, u_34 + Int32.ofInt 1 = y := ⟨_, rfl⟩
            refine k_iinc z_65 [(3, .int z_65), (4, .int u_53), (2, .int z_4), (0, .ref h0), (1, .int p0)] 1 X dX11_drawNight_k7.1.2 rfl ez_65 (nlt_e rfl) rfl ?_
            have i_66 : z_65.toInt = u_34.toInt + 1 := in_inc ez_65 (oin_e rfl) iv_44 (zle_e rfl) (zle_e rfl)
            have iv_67 : IV z_65 1 8 := iz1 i_66 iv_44 (zle_e rfl) (zle_e rfl)
            refine k_goto 43 X dX11_drawNight_k7.2.1 (jp_e rfl) ?_
            refine k_lv [(3, .int z_65), (2, .int z_4), (0, .ref h0), (1, .int p0)] [0, 2, 3, 4] rfl ?_
            refine k_sub [(cO11_i1r1i10r1i2r5i2r12i3r4i2 h0 m_thrown a_tape m_taped m_size m_at m_end m_token m_whole m_nameSize m_fault m_place m_trouble a_letters m_failed m_hasHouse a_r a_fresh a_st a_undone a_kept m_undos m_images a_from a_begin a_motor a_change a_startFrame a_changeFrame a_lostAt a_blackAt a_slips a_leftArc a_died a_arcs m_bestSum m_nearest m_nearestTown a_there a_backAt a_sorted a_parts u_55 u_56), (cAI g a_r 311 d_r), (cAI g a_st 44 d_st), (cAI g a_from 8 uf_29), (cAI g a_begin 8 uf_25), (cAI g a_motor 8 uf_31), (cAI g a_change 8 uf_27), (cAI g a_startFrame 8 uf_33), (cAI g a_changeFrame 8 uf_28), (cAI g a_lostAt 8 uf_30), (cAI g a_blackAt 8 uf_26), (cAI g a_slips 8 uf_32)] [8, 9, 10, 11, 0, 1, 2, 3, 4, 5, 6, 7] rfl (by decide) rfl ?_
            exact ih_40 _ (by omega) uf_25 uf_26 uf_27 uf_28 uf_29 uf_30 uf_31 uf_32 uf_33 z_65 u_55 u_56 rfl (iv_w iv_67 (zle_e rfl) (zle_e rfl))
          · skip
            have j_68 : u_53.toInt < z_60.toInt := iv_nle h_63
            have iv_69 : IV u_53 0 5 := iv_ltL (iv_nle h_63) hv_54 iv_62 (zle_e rfl)
            have iv_70 : IV z_60 1 6 := iv_ltR (iv_nle h_63) hv_54 iv_62 (zle_e rfl)
            refine k_aload_n X dX11_drawNight_k4.1.2.1.1 3 rfl ?_
            refine k_get (ci := 11) X inlX11 rfl 15 (nlt_e rfl) dX11_drawNight_k4.1.2.1.2 mw170 8 rfl rfl ?_
            refine k_bipush (v := 96) X dX11_drawNight_k4.1.2.2.1 bi_96 ?_
            refine k_iconst (v := 3) X dX11_drawNight_k4.1.2.2.2 ic_3 ?_
            refine k_iload X dX11_drawNight_k4.2.1.1.1 0 rfl ?_
            refine k_imul X dX11_drawNight_k4.2.1.1.2 ?_
            refine k_nm (fun z_71 ez_71 => ?_)
            have i_72 : z_71.toInt = 3 * u_53.toInt := in_mul ez_71 (by decide) (zle_e rfl) iv_69 (zle_e rfl) (zle_e rfl)
            have iv_73 : IV z_71 0 15 := iz4 i_72 iv_69 (zle_e rfl) (zle_e rfl) (zle_e rfl)
            refine k_iadd X dX11_drawNight_k4.2.1.2.1 ?_
            refine k_nm (fun z_74 ez_74 => ?_)
            have i_75 : z_74.toInt = 96 + z_71.toInt := in_add ez_74 iq_96_96_96 iv_73 (zle_e rfl) (zle_e rfl)
            have iv_76 : IV z_74 96 111 := iz2 i_75 iv_73 (zle_e rfl) (zle_e rfl)
            refine k_iald X dX11_drawNight_k4.2.1.2.2 9 rfl (iv_in iv_76 (zle_e rfl) (zle_l rfl)) ?_
            refine k_nm (fun z_77 ez_77 => ?_)
            have i_78 : z_74.toInt = 96 + 3 * u_53.toInt := by omega
            have iv_79 : IV z_77 0 7 := rb_96_3 ez_77 hp_d_r i_78 (iv_w iv_69 (zle_e rfl) (zle_e rfl))
            refine k_aload_n X dX11_drawNight_k4.2.2.1.1 3 rfl ?_
            refine k_iload_n X dX11_drawNight_k4.2.2.1.2 1 rfl ?_
            refine k_callVI (n := 1) (As := [.int u_34]) (st := [.int z_77]) X [(cO11_i1r1i10r1i2r5i2r12i3r4i2 h0 m_thrown a_tape m_taped m_size m_at m_end m_token m_whole m_nameSize m_fault m_place m_trouble a_letters m_failed m_hasHouse a_r a_fresh a_st a_undone a_kept m_undos m_images a_from a_begin a_motor a_change a_startFrame a_changeFrame a_lostAt a_blackAt a_slips a_leftArc a_died a_arcs m_bestSum m_nearest m_nearestTown a_there a_backAt a_sorted a_parts u_55 u_56), (cAI g a_r 311 d_r)] [(cAI g a_begin 8 uf_25), (cAI g a_motor 8 uf_31), (cAI g a_change 8 uf_27), (cAI g a_startFrame 8 uf_33), (cAI g a_changeFrame 8 uf_28), (cAI g a_lostAt 8 uf_30), (cAI g a_blackAt 8 uf_26), (cAI g a_slips 8 uf_32), (cAI g a_st 44 d_st), (cAI g a_from 8 uf_29)] [8, 9] [0, 1, 2, 3, 4, 5, 6, 7, 10, 11] (m_reelAt l g h0 u_34 m_thrown a_tape m_taped m_size m_at m_end m_token m_whole m_nameSize m_fault m_place m_trouble a_letters m_failed m_hasHouse a_r a_fresh a_st a_undone a_kept m_undos m_images a_from a_begin a_motor a_change a_startFrame a_changeFrame a_lostAt a_blackAt a_slips a_leftArc a_died a_arcs m_bestSum m_nearest m_nearestTown a_there a_backAt a_sorted a_parts u_55 u_56 d_r (iv_w iv_44 (zle_e rfl) (zle_e rfl)) hp_d_r) dX11_drawNight_k4.2.2.2.1 mw723 mw724 mw725 mw5 mw726 rfl 11 rfl rfl 0 _ rfl yk_yX11_reelAt_1 rfl (Nat.le_of_ble_eq_true rfl) (Nat.le_of_ble_eq_true rfl) (Nat.le_of_ble_eq_true rfl) (Nat.le_of_ble_eq_true rfl) (Nat.le_of_ble_eq_true rfl) rfl rfl (by decide +kernel) rfl (by decide +kernel) (by decide +kernel) ?_
            rintro r_80 w ⟨iv_81, rfl⟩
            refine k_ws [(cAI g a_begin 8 uf_25), (cAI g a_motor 8 uf_31), (cAI g a_change 8 uf_27), (cAI g a_startFrame 8 uf_33), (cAI g a_changeFrame 8 uf_28), (cAI g a_lostAt 8 uf_30), (cAI g a_blackAt 8 uf_26), (cAI g a_slips 8 uf_32), (cAI g a_st 44 d_st), (cAI g a_from 8 uf_29), (cO11_i1r1i10r1i2r5i2r12i3r4i2 h0 m_thrown a_tape m_taped m_size m_at m_end m_token m_whole m_nameSize m_fault m_place m_trouble a_letters m_failed m_hasHouse a_r a_fresh a_st a_undone a_kept m_undos m_images a_from a_begin a_motor a_change a_startFrame a_changeFrame a_lostAt a_blackAt a_slips a_leftArc a_died a_arcs m_bestSum m_nearest m_nearestTown a_there a_backAt a_sorted a_parts u_55 u_56), (cAI g a_r 311 d_r)] rfl ?_
            refine k_ic_ne 185 X dX11_drawNight_k4.2.2.2.2 (jp_e rfl) (fun h_82 => ?_) (fun h_82 => ?_)
            · skip
              obtain ⟨z_83, ez_83⟩ : ∃ y : Int32, u_53 + Int32.ofInt 1 = y := ⟨_, rfl⟩
              refine k_iinc z_83 [(4, .int z_83), (3, .int u_34), (2, .int z_4), (0, .ref h0), (1, .int p0)] 0 X dX11_drawNight_k6.2.2.2.2 rfl ez_83 (nlt_e rfl) rfl ?_
              have i_84 : z_83.toInt = u_53.toInt + 1 := in_inc ez_83 (oin_e rfl) iv_69 (zle_e rfl) (zle_e rfl)
              have iv_85 : IV z_83 1 6 := iz1 i_84 iv_69 (zle_e rfl) (zle_e rfl)
              refine k_goto 98 X dX11_drawNight_k7.1.1 (jp_e rfl) ?_
              refine k_sub [(cAI g a_begin 8 uf_25), (cAI g a_motor 8 uf_31), (cAI g a_change 8 uf_27), (cAI g a_startFrame 8 uf_33), (cAI g a_changeFrame 8 uf_28), (cAI g a_lostAt 8 uf_30), (cAI g a_blackAt 8 uf_26), (cAI g a_slips 8 uf_32), (cO11_i1r1i10r1i2r5i2r12i3r4i2 h0 m_thrown a_tape m_taped m_size m_at m_end m_token m_whole m_nameSize m_fault m_place m_trouble a_letters m_failed m_hasHouse a_r a_fresh a_st a_undone a_kept m_undos m_images a_from a_begin a_motor a_change a_startFrame a_changeFrame a_lostAt a_blackAt a_slips a_leftArc a_died a_arcs m_bestSum m_nearest m_nearestTown a_there a_backAt a_sorted a_parts u_55 u_56), (cAI g a_r 311 d_r), (cAI g a_st 44 d_st), (cAI g a_from 8 uf_29)] [0, 1, 2, 3, 4, 5, 6, 7, 10, 11, 8, 9] rfl (by decide) rfl ?_
              exact ih_59 _ (by omega) z_83 u_55 u_56 rfl (iv_w iv_85 (zle_e rfl) (zle_e rfl))
            · skip
              refine k_aload_n X dX11_drawNight_k5.1.1.1.1 3 rfl ?_
              refine k_iload X dX11_drawNight_k5.1.1.1.2 0 rfl ?_
              refine k_callVI (n := 1) (As := [.int u_53]) (st := []) X [(cO11_i1r1i10r1i2r5i2r12i3r4i2 h0 m_thrown a_tape m_taped m_size m_at m_end m_token m_whole m_nameSize m_fault m_place m_trouble a_letters m_failed m_hasHouse a_r a_fresh a_st a_undone a_kept m_undos m_images a_from a_begin a_motor a_change a_startFrame a_changeFrame a_lostAt a_blackAt a_slips a_leftArc a_died a_arcs m_bestSum m_nearest m_nearestTown a_there a_backAt a_sorted a_parts u_55 u_56), (cAI g a_st 44 d_st)] [(cAI g a_begin 8 uf_25), (cAI g a_motor 8 uf_31), (cAI g a_change 8 uf_27), (cAI g a_startFrame 8 uf_33), (cAI g a_changeFrame 8 uf_28), (cAI g a_lostAt 8 uf_30), (cAI g a_blackAt 8 uf_26), (cAI g a_slips 8 uf_32), (cAI g a_from 8 uf_29), (cAI g a_r 311 d_r)] [10, 8] [0, 1, 2, 3, 4, 5, 6, 7, 9, 11] (m_isMended l g h0 u_53 m_thrown a_tape m_taped m_size m_at m_end m_token m_whole m_nameSize m_fault m_place m_trouble a_letters m_failed m_hasHouse a_r a_fresh a_st a_undone a_kept m_undos m_images a_from a_begin a_motor a_change a_startFrame a_changeFrame a_lostAt a_blackAt a_slips a_leftArc a_died a_arcs m_bestSum m_nearest m_nearestTown a_there a_backAt a_sorted a_parts u_55 u_56 d_st) dX11_drawNight_k5.1.1.2.1 mw682 mw683 mw684 mw5 mw685 rfl 11 rfl rfl 0 _ rfl yk_yX11_isMended_1 rfl (Nat.le_of_ble_eq_true rfl) (Nat.le_of_ble_eq_true rfl) (Nat.le_of_ble_eq_true rfl) (Nat.le_of_ble_eq_true rfl) (Nat.le_of_ble_eq_true rfl) rfl rfl (by decide +kernel) rfl (by decide +kernel) (by decide +kernel) ?_
              rintro r_86 w ⟨iv_87, rfl⟩
              refine k_ws [(cAI g a_begin 8 uf_25), (cAI g a_motor 8 uf_31), (cAI g a_change 8 uf_27), (cAI g a_startFrame 8 uf_33), (cAI g a_changeFrame 8 uf_28), (cAI g a_lostAt 8 uf_30), (cAI g a_blackAt 8 uf_26), (cAI g a_slips 8 uf_32), (cAI g a_from 8 uf_29), (cAI g a_r 311 d_r), (cO11_i1r1i10r1i2r5i2r12i3r4i2 h0 m_thrown a_tape m_taped m_size m_at m_end m_token m_whole m_nameSize m_fault m_place m_trouble a_letters m_failed m_hasHouse a_r a_fresh a_st a_undone a_kept m_undos m_images a_from a_begin a_motor a_change a_startFrame a_changeFrame a_lostAt a_blackAt a_slips a_leftArc a_died a_arcs m_bestSum m_nearest m_nearestTown a_there a_backAt a_sorted a_parts u_55 u_56), (cAI g a_st 44 d_st)] rfl ?_
              refine k_if_eq 142 X dX11_drawNight_k5.1.1.2.2 (jp_e rfl) (fun h_88 => ?_) (fun h_88 => ?_)
              · skip
                have iv_89 : IV r_86 0 0 := iv_meet iv_87 (iv_e h_88 iq_0_0_0) (zle_o rfl) (zle_o rfl)
                refine k_aload_n X dX11_drawNight_k5.1.2.1.2 3 rfl ?_
                refine k_dup X dX11_drawNight_k5.1.2.2.1 rfl ?_
                refine k_get (ci := 11) X inlX11 rfl 42 (nlt_e rfl) dX11_drawNight_k5.1.2.2.2 mw1422 10 rfl rfl ?_
                refine k_aload_n X dX11_drawNight_k5.2.1.1.1 3 rfl ?_
                refine k_callVI (n := 0) (As := []) (st := [.int u_56, .ref h0]) X [(cO11_i1r1i10r1i2r5i2r12i3r4i2 h0 m_thrown a_tape m_taped m_size m_at m_end m_token m_whole m_nameSize m_fault m_place m_trouble a_letters m_failed m_hasHouse a_r a_fresh a_st a_undone a_kept m_undos m_images a_from a_begin a_motor a_change a_startFrame a_changeFrame a_lostAt a_blackAt a_slips a_leftArc a_died a_arcs m_bestSum m_nearest m_nearestTown a_there a_backAt a_sorted a_parts u_55 u_56)] [(cAI g a_begin 8 uf_25), (cAI g a_motor 8 uf_31), (cAI g a_change 8 uf_27), (cAI g a_startFrame 8 uf_33), (cAI g a_changeFrame 8 uf_28), (cAI g a_lostAt 8 uf_30), (cAI g a_blackAt 8 uf_26), (cAI g a_slips 8 uf_32), (cAI g a_from 8 uf_29), (cAI g a_r 311 d_r), (cAI g a_st 44 d_st)] [10] [0, 1, 2, 3, 4, 5, 6, 7, 8, 9, 11] (m_drawn l g h0 m_thrown a_tape m_taped m_size m_at m_end m_token m_whole m_nameSize m_fault m_place m_trouble a_letters m_failed m_hasHouse a_r a_fresh a_st a_undone a_kept m_undos m_images a_from a_begin a_motor a_change a_startFrame a_changeFrame a_lostAt a_blackAt a_slips a_leftArc a_died a_arcs m_bestSum m_nearest m_nearestTown a_there a_backAt a_sorted a_parts u_55 u_56) dX11_drawNight_k5.2.1.1.2 mw1427 mw1428 mw1429 mw5 mw1430 rfl 11 rfl rfl 0 _ rfl yk_yX11_drawn_0 rfl (Nat.le_of_ble_eq_true rfl) (Nat.le_of_ble_eq_true rfl) (Nat.le_of_ble_eq_true rfl) (Nat.le_of_ble_eq_true rfl) (Nat.le_of_ble_eq_true rfl) rfl rfl (by decide +kernel) rfl (by decide +kernel) (by decide +kernel) ?_
                rintro r_91 w ⟨m_seed12_90, rfl⟩
                refine k_ws [(cAI g a_begin 8 uf_25), (cAI g a_motor 8 uf_31), (cAI g a_change 8 uf_27), (cAI g a_startFrame 8 uf_33), (cAI g a_changeFrame 8 uf_28), (cAI g a_lostAt 8 uf_30), (cAI g a_blackAt 8 uf_26), (cAI g a_slips 8 uf_32), (cAI g a_from 8 uf_29), (cAI g a_r 311 d_r), (cAI g a_st 44 d_st), (cO11_i1r1i10r1i2r5i2r12i3r4i2 h0 m_thrown a_tape m_taped m_size m_at m_end m_token m_whole m_nameSize m_fault m_place m_trouble a_letters m_failed m_hasHouse a_r a_fresh a_st a_undone a_kept m_undos m_images a_from a_begin a_motor a_change a_startFrame a_changeFrame a_lostAt a_blackAt a_slips a_leftArc a_died a_arcs m_bestSum m_nearest m_nearestTown a_there a_backAt a_sorted a_parts m_seed12_90 u_56)] rfl ?_
                refine k_bipush (v := 100) X dX11_drawNight_k5.2.1.2.1 bi_100 ?_
                refine k_irem X dX11_drawNight_k5.2.1.2.2 (by decide) ?_
                refine k_nm (fun z_92 ez_92 => ?_)
                refine k_aload_n X dX11_drawNight_k5.2.2.1.1 3 rfl ?_
                refine k_get (ci := 11) X inlX11 rfl 15 (nlt_e rfl) dX11_drawNight_k5.2.2.1.2 mw170 11 rfl rfl ?_
                refine k_bipush (v := 96) X dX11_drawNight_k5.2.2.2.1 bi_96 ?_
                refine k_iconst (v := 3) X dX11_drawNight_k5.2.2.2.2 ic_3 ?_
                refine k_iload X dX11_drawNight_k6.1.1.1.1 0 rfl ?_
                refine k_imul X dX11_drawNight_k6.1.1.1.2 ?_
                refine k_to z_71 ez_71.symm ?_
                refine k_iadd X dX11_drawNight_k6.1.1.2.1 ?_
                refine k_to z_74 ez_74.symm ?_
                refine k_iconst (v := 2) X dX11_drawNight_k6.1.1.2.2 ic_2 ?_
                refine k_iadd X dX11_drawNight_k6.1.2.1.1 ?_
                refine k_nm (fun z_93 ez_93 => ?_)
                have i_94 : z_93.toInt = z_74.toInt + 2 := in_add ez_93 iv_76 iq_2_2_2 (zle_e rfl) (zle_e rfl)
                have iv_95 : IV z_93 98 113 := iz1 i_94 iv_76 (zle_e rfl) (zle_e rfl)
                refine k_iald X dX11_drawNight_k6.1.2.1.2 9 rfl (iv_in iv_95 (zle_e rfl) (zle_l rfl)) ?_
                refine k_nm (fun z_96 ez_96 => ?_)
                refine k_ic_ge 180 X dX11_drawNight_k6.1.2.2.1 (jp_e rfl) (fun h_97 => ?_) (fun h_97 => ?_)
                · skip
                  have j_98 : z_96.toInt ≤ z_92.toInt := iv_le h_97
                  refine k_iconst (v := 0) X dX11_drawNight_k6.2.2.1.1 ic_0 ?_
                  refine k_iadd X dX11_drawNight_k6.2.2.1.2 ?_
                  refine k_nm (fun z_99 ez_99 => ?_)
                  have i_100 : z_99.toInt = u_56.toInt + 0 := in_add ez_99 (iv_any u_56) iq_0_0_0 (zle_e rfl) (zle_e rfl)
                  have iv_101 : IV z_99 (-2147483648) 2147483647 := by have := (iv_any u_56); have := iq_0_0_0; rw [IV, i_100]; omega
                  refine k_put (ci := 11) [(cAI g a_begin 8 uf_25), (cAI g a_motor 8 uf_31), (cAI g a_change 8 uf_27), (cAI g a_startFrame 8 uf_33), (cAI g a_changeFrame 8 uf_28), (cAI g a_lostAt 8 uf_30), (cAI g a_blackAt 8 uf_26), (cAI g a_slips 8 uf_32), (cAI g a_from 8 uf_29), (cAI g a_r 311 d_r), (cAI g a_st 44 d_st), (cO11_i1r1i10r1i2r5i2r12i3r4i2 h0 m_thrown a_tape m_taped m_size m_at m_end m_token m_whole m_nameSize m_fault m_place m_trouble a_letters m_failed m_hasHouse a_r a_fresh a_st a_undone a_kept m_undos m_images a_from a_begin a_motor a_change a_startFrame a_changeFrame a_lostAt a_blackAt a_slips a_leftArc a_died a_arcs m_bestSum m_nearest m_nearestTown a_there a_backAt a_sorted a_parts m_seed12_90 z_99)] X inlX11 rfl tyX11_ok nmX11 42 (nlt_e rfl) rfl dX11_drawNight_k6.2.2.2.1 mw1422 11 rfl rfl rfl (Nat.le_of_ble_eq_true rfl) rfl ?_
                  obtain ⟨z_102, ez_102⟩ : ∃ y : Int32, u_53 + Int32.ofInt 1 = y := ⟨_, rfl⟩
                  refine k_iinc z_102 [(4, .int z_102), (3, .int u_34), (2, .int z_4), (0, .ref h0), (1, .int p0)] 0 X dX11_drawNight_k6.2.2.2.2 rfl ez_102 (nlt_e rfl) rfl ?_
                  have i_103 : z_102.toInt = u_53.toInt + 1 := in_inc ez_102 (oin_e rfl) iv_69 (zle_e rfl) (zle_e rfl)
                  have iv_104 : IV z_102 1 6 := iz1 i_103 iv_69 (zle_e rfl) (zle_e rfl)
                  refine k_goto 98 X dX11_drawNight_k7.1.1 (jp_e rfl) ?_
                  refine k_sub [(cAI g a_begin 8 uf_25), (cAI g a_motor 8 uf_31), (cAI g a_change 8 uf_27), (cAI g a_startFrame 8 uf_33), (cAI g a_changeFrame 8 uf_28), (cAI g a_lostAt 8 uf_30), (cAI g a_blackAt 8 uf_26), (cAI g a_slips 8 uf_32), (cO11_i1r1i10r1i2r5i2r12i3r4i2 h0 m_thrown a_tape m_taped m_size m_at m_end m_token m_whole m_nameSize m_fault m_place m_trouble a_letters m_failed m_hasHouse a_r a_fresh a_st a_undone a_kept m_undos m_images a_from a_begin a_motor a_change a_startFrame a_changeFrame a_lostAt a_blackAt a_slips a_leftArc a_died a_arcs m_bestSum m_nearest m_nearestTown a_there a_backAt a_sorted a_parts m_seed12_90 z_99), (cAI g a_r 311 d_r), (cAI g a_st 44 d_st), (cAI g a_from 8 uf_29)] [0, 1, 2, 3, 4, 5, 6, 7, 11, 9, 10, 8] rfl (by decide) rfl ?_
                  exact ih_59 _ (by omega) z_102 m_seed12_90 z_99 rfl (iv_w iv_104 (zle_e rfl) (zle_e rfl))
                · skip
                  have j_105 : z_92.toInt < z_96.toInt := iv_nle h_97
                  have iv_106 : IV z_92 (-2147483648) 2147483646 := iv_ltL (iv_nle h_97) (iv_any z_92) (iv_any z_96) (zle_e rfl)
                  have iv_107 : IV z_96 (-2147483647) 2147483647 := iv_ltR (iv_nle h_97) (iv_any z_92) (iv_any z_96) (zle_e rfl)
                  refine k_aload_n X dX11_drawNight_k6.1.2.2.2 3 rfl ?_
                  refine k_get (ci := 11) X inlX11 rfl 15 (nlt_e rfl) dX11_drawNight_k6.2.1.1.1 mw170 11 rfl rfl ?_
                  refine k_iconst (v := 5) X dX11_drawNight_k6.2.1.1.2 ic_5 ?_
                  refine k_iald X dX11_drawNight_k6.2.1.2.1 9 rfl (by unfold vp_in; decide) ?_
                  refine k_nm (fun z_108 ez_108 => ?_)
                  refine k_goto 181 X dX11_drawNight_k6.2.1.2.2 (jp_e rfl) ?_
                  refine k_iadd X dX11_drawNight_k6.2.2.1.2 ?_
                  refine k_nm (fun z_109 ez_109 => ?_)
                  refine k_put (ci := 11) [(cAI g a_begin 8 uf_25), (cAI g a_motor 8 uf_31), (cAI g a_change 8 uf_27), (cAI g a_startFrame 8 uf_33), (cAI g a_changeFrame 8 uf_28), (cAI g a_lostAt 8 uf_30), (cAI g a_blackAt 8 uf_26), (cAI g a_slips 8 uf_32), (cAI g a_from 8 uf_29), (cAI g a_r 311 d_r), (cAI g a_st 44 d_st), (cO11_i1r1i10r1i2r5i2r12i3r4i2 h0 m_thrown a_tape m_taped m_size m_at m_end m_token m_whole m_nameSize m_fault m_place m_trouble a_letters m_failed m_hasHouse a_r a_fresh a_st a_undone a_kept m_undos m_images a_from a_begin a_motor a_change a_startFrame a_changeFrame a_lostAt a_blackAt a_slips a_leftArc a_died a_arcs m_bestSum m_nearest m_nearestTown a_there a_backAt a_sorted a_parts m_seed12_90 z_109)] X inlX11 rfl tyX11_ok nmX11 42 (nlt_e rfl) rfl dX11_drawNight_k6.2.2.2.1 mw1422 11 rfl rfl rfl (Nat.le_of_ble_eq_true rfl) rfl ?_
                  obtain ⟨z_111, ez_111⟩ : ∃ y : Int32, u_53 + Int32.ofInt 1 = y := ⟨_, rfl⟩
                  refine k_iinc z_111 [(4, .int z_111), (3, .int u_34), (2, .int z_4), (0, .ref h0), (1, .int p0)] 0 X dX11_drawNight_k6.2.2.2.2 rfl ez_111 (nlt_e rfl) rfl ?_
                  have i_112 : z_111.toInt = u_53.toInt + 1 := in_inc ez_111 (oin_e rfl) iv_69 (zle_e rfl) (zle_e rfl)
                  have iv_113 : IV z_111 1 6 := iz1 i_112 iv_69 (zle_e rfl) (zle_e rfl)
                  refine k_goto 98 X dX11_drawNight_k7.1.1 (jp_e rfl) ?_
                  refine k_sub [(cAI g a_begin 8 uf_25), (cAI g a_motor 8 uf_31), (cAI g a_change 8 uf_27), (cAI g a_startFrame 8 uf_33), (cAI g a_changeFrame 8 uf_28), (cAI g a_lostAt 8 uf_30), (cAI g a_blackAt 8 uf_26), (cAI g a_slips 8 uf_32), (cO11_i1r1i10r1i2r5i2r12i3r4i2 h0 m_thrown a_tape m_taped m_size m_at m_end m_token m_whole m_nameSize m_fault m_place m_trouble a_letters m_failed m_hasHouse a_r a_fresh a_st a_undone a_kept m_undos m_images a_from a_begin a_motor a_change a_startFrame a_changeFrame a_lostAt a_blackAt a_slips a_leftArc a_died a_arcs m_bestSum m_nearest m_nearestTown a_there a_backAt a_sorted a_parts m_seed12_90 z_109), (cAI g a_r 311 d_r), (cAI g a_st 44 d_st), (cAI g a_from 8 uf_29)] [0, 1, 2, 3, 4, 5, 6, 7, 11, 9, 10, 8] rfl (by decide) rfl ?_
                  exact ih_59 _ (by omega) z_111 m_seed12_90 z_109 rfl (iv_w iv_113 (zle_e rfl) (zle_e rfl))
              · skip
                have iv_114 : IV r_86 1 1 := iv_neL h_88 iv_87 iq_0_0_0 (zle_e rfl)
                refine k_goto 185 X dX11_drawNight_k5.1.2.1.1 (jp_e rfl) ?_
                obtain ⟨z_115, ez_115⟩ : ∃ y : Int32, u_53 + Int32.ofInt 1 = y := ⟨_, rfl⟩
                refine k_iinc z_115 [(4, .int z_115), (3, .int u_34), (2, .int z_4), (0, .ref h0), (1, .int p0)] 0 X dX11_drawNight_k6.2.2.2.2 rfl ez_115 (nlt_e rfl) rfl ?_
                have i_116 : z_115.toInt = u_53.toInt + 1 := in_inc ez_115 (oin_e rfl) iv_69 (zle_e rfl) (zle_e rfl)
                have iv_117 : IV z_115 1 6 := iz1 i_116 iv_69 (zle_e rfl) (zle_e rfl)
                refine k_goto 98 X dX11_drawNight_k7.1.1 (jp_e rfl) ?_
                refine k_sub [(cAI g a_begin 8 uf_25), (cAI g a_motor 8 uf_31), (cAI g a_change 8 uf_27), (cAI g a_startFrame 8 uf_33), (cAI g a_changeFrame 8 uf_28), (cAI g a_lostAt 8 uf_30), (cAI g a_blackAt 8 uf_26), (cAI g a_slips 8 uf_32), (cO11_i1r1i10r1i2r5i2r12i3r4i2 h0 m_thrown a_tape m_taped m_size m_at m_end m_token m_whole m_nameSize m_fault m_place m_trouble a_letters m_failed m_hasHouse a_r a_fresh a_st a_undone a_kept m_undos m_images a_from a_begin a_motor a_change a_startFrame a_changeFrame a_lostAt a_blackAt a_slips a_leftArc a_died a_arcs m_bestSum m_nearest m_nearestTown a_there a_backAt a_sorted a_parts u_55 u_56), (cAI g a_r 311 d_r), (cAI g a_st 44 d_st), (cAI g a_from 8 uf_29)] [0, 1, 2, 3, 4, 5, 6, 7, 10, 9, 11, 8] rfl (by decide) rfl ?_
                exact ih_59 _ (by omega) z_115 u_55 u_56 rfl (iv_w iv_117 (zle_e rfl) (zle_e rfl))
        · skip
          have j_118 : u_34.toInt < z_4.toInt := iv_nle h_51
          have iv_119 : IV u_34 0 6 := iv_ltL (iv_nle h_51) iv_44 iv_45 (zle_e rfl)
          have iv_120 : IV z_4 1 7 := iv_ltR (iv_nle h_51) iv_44 iv_45 (zle_e rfl)
          have iv_121 : IV z_1 2 8 := by have := iv_46; have := iv_120; rw [IV]; omega
          refine k_aload_n X dX11_drawNight_k2.1.2.2.1 2 rfl ?_
          refine k_get (ci := 11) X inlX11 rfl 30 (nlt_e rfl) dX11_drawNight_k2.1.2.2.2 mw183 8 rfl rfl ?_
          refine k_iload_n X dX11_drawNight_k2.2.1.1.1 0 rfl ?_
          refine k_aload_n X dX11_drawNight_k2.2.1.1.2 2 rfl ?_
          refine k_callVI (n := 0) (As := []) (st := [.int u_34, .ref a_slips]) X [(cO11_i1r1i10r1i2r5i2r12i3r4i2 h0 m_thrown a_tape m_taped m_size m_at m_end m_token m_whole m_nameSize m_fault m_place m_trouble a_letters m_failed m_hasHouse a_r a_fresh a_st a_undone a_kept m_undos m_images a_from a_begin a_motor a_change a_startFrame a_changeFrame a_lostAt a_blackAt a_slips a_leftArc a_died a_arcs m_bestSum m_nearest m_nearestTown a_there a_backAt a_sorted a_parts u_36 u_37)] [(cAI g a_begin 8 uf_25), (cAI g a_motor 8 uf_31), (cAI g a_change 8 uf_27), (cAI g a_startFrame 8 uf_33), (cAI g a_changeFrame 8 uf_28), (cAI g a_lostAt 8 uf_30), (cAI g a_blackAt 8 uf_26), (cAI g a_slips 8 uf_32), (cAI g a_r 311 d_r), (cAI g a_st 44 d_st), (cAI g a_from 8 uf_29)] [8] [0, 1, 2, 3, 4, 5, 6, 7, 9, 10, 11] (m_drawn l g h0 m_thrown a_tape m_taped m_size m_at m_end m_token m_whole m_nameSize m_fault m_place m_trouble a_letters m_failed m_hasHouse a_r a_fresh a_st a_undone a_kept m_undos m_images a_from a_begin a_motor a_change a_startFrame a_changeFrame a_lostAt a_blackAt a_slips a_leftArc a_died a_arcs m_bestSum m_nearest m_nearestTown a_there a_backAt a_sorted a_parts u_36 u_37) dX11_drawNight_k2.2.1.2.1 mw1427 mw1428 mw1429 mw5 mw1430 rfl 11 rfl rfl 0 _ rfl yk_yX11_drawn_0 rfl (Nat.le_of_ble_eq_true rfl) (Nat.le_of_ble_eq_true rfl) (Nat.le_of_ble_eq_true rfl) (Nat.le_of_ble_eq_true rfl) (Nat.le_of_ble_eq_true rfl) rfl rfl (by decide +kernel) rfl (by decide +kernel) (by decide +kernel) ?_
          rintro r_123 w ⟨m_seed12_122, rfl⟩
          refine k_ws [(cAI g a_begin 8 uf_25), (cAI g a_motor 8 uf_31), (cAI g a_change 8 uf_27), (cAI g a_startFrame 8 uf_33), (cAI g a_changeFrame 8 uf_28), (cAI g a_lostAt 8 uf_30), (cAI g a_blackAt 8 uf_26), (cAI g a_slips 8 uf_32), (cAI g a_r 311 d_r), (cAI g a_st 44 d_st), (cAI g a_from 8 uf_29), (cO11_i1r1i10r1i2r5i2r12i3r4i2 h0 m_thrown a_tape m_taped m_size m_at m_end m_token m_whole m_nameSize m_fault m_place m_trouble a_letters m_failed m_hasHouse a_r a_fresh a_st a_undone a_kept m_undos m_images a_from a_begin a_motor a_change a_startFrame a_changeFrame a_lostAt a_blackAt a_slips a_leftArc a_died a_arcs m_bestSum m_nearest m_nearestTown a_there a_backAt a_sorted a_parts m_seed12_122 u_37)] rfl ?_
          refine k_aload_n X dX11_drawNight_k2.2.1.2.2 2 rfl ?_
          refine k_get (ci := 11) X inlX11 rfl 15 (nlt_e rfl) dX11_drawNight_k2.2.2.1.1 mw170 11 rfl rfl ?_
          refine k_bipush (v := 114) X dX11_drawNight_k2.2.2.1.2 bi_114 ?_
          refine k_iconst (v := 3) X dX11_drawNight_k2.2.2.2.1 ic_3 ?_
          refine k_iload_n X dX11_drawNight_k2.2.2.2.2 3 rfl ?_
          refine k_imul X dX11_drawNight_k3.1.1.1.1 ?_
          refine k_nm (fun z_124 ez_124 => ?_)
          have i_125 : z_124.toInt = 3 * p0.toInt := in_mul ez_124 (by decide) (zle_e rfl) hv_p0 (zle_e rfl) (zle_e rfl)
          have iv_126 : IV z_124 0 9 := iz4 i_125 hv_p0 (zle_e rfl) (zle_e rfl) (zle_e rfl)
          refine k_iadd X dX11_drawNight_k3.1.1.1.2 ?_
          refine k_nm (fun z_127 ez_127 => ?_)
          have i_128 : z_127.toInt = 114 + z_124.toInt := in_add ez_127 iq_114_114_114 iv_126 (zle_e rfl) (zle_e rfl)
          have iv_129 : IV z_127 114 123 := iz2 i_128 iv_126 (zle_e rfl) (zle_e rfl)
          refine k_iconst (v := 2) X dX11_drawNight_k3.1.1.2.1 ic_2 ?_
          refine k_iadd X dX11_drawNight_k3.1.1.2.2 ?_
          refine k_nm (fun z_130 ez_130 => ?_)
          have i_131 : z_130.toInt = z_127.toInt + 2 := in_add ez_130 iv_129 iq_2_2_2 (zle_e rfl) (zle_e rfl)
          have iv_132 : IV z_130 116 125 := iz1 i_131 iv_129 (zle_e rfl) (zle_e rfl)
          refine k_iald X dX11_drawNight_k3.1.2.1.1 8 rfl (iv_in iv_132 (zle_e rfl) (zle_l rfl)) ?_
          refine k_nm (fun z_133 ez_133 => ?_)
          have i_134 : z_130.toInt = 116 + 3 * p0.toInt := by omega
          have iv_135 : IV z_133 0 40 := rb_116_3 ez_133 hp_d_r i_134 (iv_w hv_p0 (zle_e rfl) (zle_e rfl))
          refine k_iconst (v := 1) X dX11_drawNight_k3.1.2.1.2 ic_1 ?_
          refine k_iadd X dX11_drawNight_k3.1.2.2.1 ?_
          refine k_nm (fun z_136 ez_136 => ?_)
          have i_137 : z_136.toInt = z_133.toInt + 1 := in_add ez_136 iv_135 iq_1_1_1 (zle_e rfl) (zle_e rfl)
          have iv_138 : IV z_136 1 41 := iz1 i_137 iv_135 (zle_e rfl) (zle_e rfl)
          refine k_irem X dX11_drawNight_k3.1.2.2.2 (fun q => (iv_eqN q iv_138 iq_0_0_0 (by decide))) ?_
          refine k_nm (fun z_139 ez_139 => ?_)
          refine k_iast [(cAI g a_begin 8 uf_25), (cAI g a_motor 8 uf_31), (cAI g a_change 8 uf_27), (cAI g a_startFrame 8 uf_33), (cAI g a_changeFrame 8 uf_28), (cAI g a_lostAt 8 uf_30), (cAI g a_blackAt 8 uf_26), (cAI g a_slips 8 (upd uf_32 (u_34 : Int32).toNatClampNeg z_139)), (cAI g a_r 311 d_r), (cAI g a_st 44 d_st), (cAI g a_from 8 uf_29), (cO11_i1r1i10r1i2r5i2r12i3r4i2 h0 m_thrown a_tape m_taped m_size m_at m_end m_token m_whole m_nameSize m_fault m_place m_trouble a_letters m_failed m_hasHouse a_r a_fresh a_st a_undone a_kept m_undos m_images a_from a_begin a_motor a_change a_startFrame a_changeFrame a_lostAt a_blackAt a_slips a_leftArc a_died a_arcs m_bestSum m_nearest m_nearestTown a_there a_backAt a_sorted a_parts m_seed12_122 u_37)] X dX11_drawNight_k3.2.1.1.1 7 rfl (iv_in iv_119 (zle_e rfl) (zle_l rfl)) rfl ?_
          refine (fun hg : ∀ fa_140 : Nat → Int32, Wk p l e _ s m args below meth c _ A g _ _ _ [(cAI g a_begin 8 uf_25), (cAI g a_motor 8 uf_31), (cAI g a_change 8 uf_27), (cAI g a_startFrame 8 uf_33), (cAI g a_changeFrame 8 uf_28), (cAI g a_lostAt 8 uf_30), (cAI g a_blackAt 8 uf_26), (cAI g a_slips 8 fa_140), (cAI g a_r 311 d_r), (cAI g a_st 44 d_st), (cAI g a_from 8 uf_29), (cO11_i1r1i10r1i2r5i2r12i3r4i2 h0 m_thrown a_tape m_taped m_size m_at m_end m_token m_whole m_nameSize m_fault m_place m_trouble a_letters m_failed m_hasHouse a_r a_fresh a_st a_undone a_kept m_undos m_images a_from a_begin a_motor a_change a_startFrame a_changeFrame a_lostAt a_blackAt a_slips a_leftArc a_died a_arcs m_bestSum m_nearest m_nearestTown a_there a_backAt a_sorted a_parts m_seed12_122 u_37)] _ _ _ => hg _) (fun fa_140 => ?_)
          refine k_aload_n X dX11_drawNight_k3.2.1.1.2 2 rfl ?_
          refine k_iload_n X dX11_drawNight_k3.2.1.2.1 3 rfl ?_
          refine k_callVV (n := 1) (As := [.int p0]) (st := []) X [(cO11_i1r1i10r1i2r5i2r12i3r4i2 h0 m_thrown a_tape m_taped m_size m_at m_end m_token m_whole m_nameSize m_fault m_place m_trouble a_letters m_failed m_hasHouse a_r a_fresh a_st a_undone a_kept m_undos m_images a_from a_begin a_motor a_change a_startFrame a_changeFrame a_lostAt a_blackAt a_slips a_leftArc a_died a_arcs m_bestSum m_nearest m_nearestTown a_there a_backAt a_sorted a_parts m_seed12_122 u_37), (cAI g a_r 311 d_r), (cAI g a_st 44 d_st), (cAI g a_from 8 uf_29), (cAI g a_begin 8 uf_25), (cAI g a_motor 8 uf_31), (cAI g a_change 8 uf_27), (cAI g a_startFrame 8 uf_33), (cAI g a_changeFrame 8 uf_28), (cAI g a_lostAt 8 uf_30), (cAI g a_blackAt 8 uf_26), (cAI g a_slips 8 fa_140)] [] [11, 8, 9, 10, 0, 1, 2, 3, 4, 5, 6, 7] [] (m_layNight l g h0 p0 m_thrown a_tape m_taped m_size m_at m_end m_token m_whole m_nameSize m_fault m_place m_trouble a_letters m_failed m_hasHouse a_r a_fresh a_st a_undone a_kept m_undos m_images a_from a_begin a_motor a_change a_startFrame a_changeFrame a_lostAt a_blackAt a_slips a_leftArc a_died a_arcs m_bestSum m_nearest m_nearestTown a_there a_backAt a_sorted a_parts m_seed12_122 u_37 d_r d_st uf_29 uf_25 uf_31 uf_27 uf_33 uf_28 uf_30 uf_26 fa_140 (iv_w hv_p0 (zle_e rfl) (zle_e rfl)) hp_d_r) dX11_drawNight_k3.2.1.2.2 mw819 mw820 mw821 mw5 mw822 rfl 11 rfl rfl 0 _ rfl yk_yX11_layNight_1 rfl (Nat.le_of_ble_eq_true rfl) (Nat.le_of_ble_eq_true rfl) (Nat.le_of_ble_eq_true rfl) (Nat.le_of_ble_eq_true rfl) (Nat.le_of_ble_eq_true rfl) rfl rfl (by decide +kernel) rfl (by decide +kernel) (by decide +kernel) ?_
          rintro w ⟨d_begin2_141, d_blackAt2_142, d_change2_143, d_changeFrame2_144, d_from2_145, d_lostAt2_146, d_motor2_147, d_startFrame2_148, rfl⟩
          refine k_ws [(cO11_i1r1i10r1i2r5i2r12i3r4i2 h0 m_thrown a_tape m_taped m_size m_at m_end m_token m_whole m_nameSize m_fault m_place m_trouble a_letters m_failed m_hasHouse a_r a_fresh a_st a_undone a_kept m_undos m_images a_from a_begin a_motor a_change a_startFrame a_changeFrame a_lostAt a_blackAt a_slips a_leftArc a_died a_arcs m_bestSum m_nearest m_nearestTown a_there a_backAt a_sorted a_parts m_seed12_122 u_37), (cAI g a_r 311 d_r), (cAI g a_st 44 d_st), (cAI g a_from 8 d_from2_145), (cAI g a_begin 8 d_begin2_141), (cAI g a_motor 8 d_motor2_147), (cAI g a_change 8 d_change2_143), (cAI g a_startFrame 8 d_startFrame2_148), (cAI g a_changeFrame 8 d_changeFrame2_144), (cAI g a_lostAt 8 d_lostAt2_146), (cAI g a_blackAt 8 d_blackAt2_142), (cAI g a_slips 8 fa_140)] rfl ?_
          refine k_iconst (v := 0) X dX11_drawNight_k3.2.2.1.1 ic_0 ?_
          refine k_istore [(4, .int 0), (3, .int u_34), (2, .int z_4), (0, .ref h0), (1, .int p0)] X dX11_drawNight_k3.2.2.1.2 (nlt_e rfl) rfl ?_
          refine (fun hL : ∀ (nn_154 : Nat) (u_150 : Int32) (u_152 : Int32) (u_153 : Int32), (2147483647 - u_150.toInt).toNat = nn_154 → (IV u_150 0 8) → Wk p l e _ s m args below meth c _ A g _ _ _ [(cO11_i1r1i10r1i2r5i2r12i3r4i2 h0 m_thrown a_tape m_taped m_size m_at m_end m_token m_whole m_nameSize m_fault m_place m_trouble a_letters m_failed m_hasHouse a_r a_fresh a_st a_undone a_kept m_undos m_images a_from a_begin a_motor a_change a_startFrame a_changeFrame a_lostAt a_blackAt a_slips a_leftArc a_died a_arcs m_bestSum m_nearest m_nearestTown a_there a_backAt a_sorted a_parts u_152 u_153), (cAI g a_r 311 d_r), (cAI g a_st 44 d_st), (cAI g a_from 8 d_from2_145), (cAI g a_begin 8 d_begin2_141), (cAI g a_motor 8 d_motor2_147), (cAI g a_change 8 d_change2_143), (cAI g a_startFrame 8 d_startFrame2_148), (cAI g a_changeFrame 8 d_changeFrame2_144), (cAI g a_lostAt 8 d_lostAt2_146), (cAI g a_blackAt 8 d_blackAt2_142), (cAI g a_slips 8 fa_140)] [(4, .int u_150), (3, .int u_34), (2, .int z_4), (0, .ref h0), (1, .int p0)] 98 [] => hL _ 0 m_seed12_122 u_37 rfl (iv_w iq_0_0_0 (zle_e rfl) (zle_e rfl))) ?_
          refine fun nn_154 => Nat.strongRecOn nn_154 (fun nn_154 ih_156 => ?_)
          intro u_150 u_152 u_153 hm_155 hv_151
          refine k_iload X dX11_drawNight_k3.2.2.2.1 0 rfl ?_
          refine k_aload_n X dX11_drawNight_k3.2.2.2.2 3 rfl ?_
          refine k_get (ci := 11) X inlX11 rfl 15 (nlt_e rfl) dX11_drawNight_k4.1.1.1.1 mw170 0 rfl rfl ?_
          refine k_bipush (v := 10) X dX11_drawNight_k4.1.1.1.2 bi_10 ?_
          refine k_iald X dX11_drawNight_k4.1.1.2.1 1 rfl (by unfold vp_in; decide) ?_
          refine k_nm (fun z_157 ez_157 => ?_)
          have i_158 : z_157.toInt = (d_r 10).toInt := by rw [ez_157]; rfl
          have iv_159 : IV z_157 0 6 := rb_10 ez_157 hp_d_r
          refine k_ic_ge 191 X dX11_drawNight_k4.1.1.2.2 (jp_e rfl) (fun h_160 => ?_) (fun h_160 => ?_)
          · skip
            have j_161 : z_157.toInt ≤ u_150.toInt := iv_le h_160
            obtain ⟨z_162, ez_162⟩ : ∃ y : Int32, u_34 + Int32.ofInt 1 = y := ⟨_, rfl⟩
            refine k_iinc z_162 [(3, .int z_162), (4, .int u_150), (2, .int z_4), (0, .ref h0), (1, .int p0)] 1 X dX11_drawNight_k7.1.2 rfl ez_162 (nlt_e rfl) rfl ?_
            have i_163 : z_162.toInt = u_34.toInt + 1 := in_inc ez_162 (oin_e rfl) iv_119 (zle_e rfl) (zle_e rfl)
            have iv_164 : IV z_162 1 7 := iz1 i_163 iv_119 (zle_e rfl) (zle_e rfl)
            refine k_goto 43 X dX11_drawNight_k7.2.1 (jp_e rfl) ?_
            refine k_lv [(3, .int z_162), (2, .int z_4), (0, .ref h0), (1, .int p0)] [0, 2, 3, 4] rfl ?_
            exact ih_40 _ (by omega) d_begin2_141 d_blackAt2_142 d_change2_143 d_changeFrame2_144 d_from2_145 d_lostAt2_146 d_motor2_147 fa_140 d_startFrame2_148 z_162 u_152 u_153 rfl (iv_w iv_164 (zle_e rfl) (zle_e rfl))
          · skip
            have j_165 : u_150.toInt < z_157.toInt := iv_nle h_160
            have iv_166 : IV u_150 0 5 := iv_ltL (iv_nle h_160) hv_151 iv_159 (zle_e rfl)
            have iv_167 : IV z_157 1 6 := iv_ltR (iv_nle h_160) hv_151 iv_159 (zle_e rfl)
            refine k_aload_n X dX11_drawNight_k4.1.2.1.1 3 rfl ?_
            refine k_get (ci := 11) X inlX11 rfl 15 (nlt_e rfl) dX11_drawNight_k4.1.2.1.2 mw170 0 rfl rfl ?_
            refine k_bipush (v := 96) X dX11_drawNight_k4.1.2.2.1 bi_96 ?_
            refine k_iconst (v := 3) X dX11_drawNight_k4.1.2.2.2 ic_3 ?_
            refine k_iload X dX11_drawNight_k4.2.1.1.1 0 rfl ?_
            refine k_imul X dX11_drawNight_k4.2.1.1.2 ?_
            refine k_nm (fun z_168 ez_168 => ?_)
            have i_169 : z_168.toInt = 3 * u_150.toInt := in_mul ez_168 (by decide) (zle_e rfl) iv_166 (zle_e rfl) (zle_e rfl)
            have iv_170 : IV z_168 0 15 := iz4 i_169 iv_166 (zle_e rfl) (zle_e rfl) (zle_e rfl)
            refine k_iadd X dX11_drawNight_k4.2.1.2.1 ?_
            refine k_nm (fun z_171 ez_171 => ?_)
            have i_172 : z_171.toInt = 96 + z_168.toInt := in_add ez_171 iq_96_96_96 iv_170 (zle_e rfl) (zle_e rfl)
            have iv_173 : IV z_171 96 111 := iz2 i_172 iv_170 (zle_e rfl) (zle_e rfl)
            refine k_iald X dX11_drawNight_k4.2.1.2.2 1 rfl (iv_in iv_173 (zle_e rfl) (zle_l rfl)) ?_
            refine k_nm (fun z_174 ez_174 => ?_)
            have i_175 : z_171.toInt = 96 + 3 * u_150.toInt := by omega
            have iv_176 : IV z_174 0 7 := rb_96_3 ez_174 hp_d_r i_175 (iv_w iv_166 (zle_e rfl) (zle_e rfl))
            refine k_aload_n X dX11_drawNight_k4.2.2.1.1 3 rfl ?_
            refine k_iload_n X dX11_drawNight_k4.2.2.1.2 1 rfl ?_
            refine k_callVI (n := 1) (As := [.int u_34]) (st := [.int z_174]) X [(cO11_i1r1i10r1i2r5i2r12i3r4i2 h0 m_thrown a_tape m_taped m_size m_at m_end m_token m_whole m_nameSize m_fault m_place m_trouble a_letters m_failed m_hasHouse a_r a_fresh a_st a_undone a_kept m_undos m_images a_from a_begin a_motor a_change a_startFrame a_changeFrame a_lostAt a_blackAt a_slips a_leftArc a_died a_arcs m_bestSum m_nearest m_nearestTown a_there a_backAt a_sorted a_parts u_152 u_153), (cAI g a_r 311 d_r)] [(cAI g a_st 44 d_st), (cAI g a_from 8 d_from2_145), (cAI g a_begin 8 d_begin2_141), (cAI g a_motor 8 d_motor2_147), (cAI g a_change 8 d_change2_143), (cAI g a_startFrame 8 d_startFrame2_148), (cAI g a_changeFrame 8 d_changeFrame2_144), (cAI g a_lostAt 8 d_lostAt2_146), (cAI g a_blackAt 8 d_blackAt2_142), (cAI g a_slips 8 fa_140)] [0, 1] [2, 3, 4, 5, 6, 7, 8, 9, 10, 11] (m_reelAt l g h0 u_34 m_thrown a_tape m_taped m_size m_at m_end m_token m_whole m_nameSize m_fault m_place m_trouble a_letters m_failed m_hasHouse a_r a_fresh a_st a_undone a_kept m_undos m_images a_from a_begin a_motor a_change a_startFrame a_changeFrame a_lostAt a_blackAt a_slips a_leftArc a_died a_arcs m_bestSum m_nearest m_nearestTown a_there a_backAt a_sorted a_parts u_152 u_153 d_r (iv_w iv_119 (zle_e rfl) (zle_e rfl)) hp_d_r) dX11_drawNight_k4.2.2.2.1 mw723 mw724 mw725 mw5 mw726 rfl 11 rfl rfl 0 _ rfl yk_yX11_reelAt_1 rfl (Nat.le_of_ble_eq_true rfl) (Nat.le_of_ble_eq_true rfl) (Nat.le_of_ble_eq_true rfl) (Nat.le_of_ble_eq_true rfl) (Nat.le_of_ble_eq_true rfl) rfl rfl (by decide +kernel) rfl (by decide +kernel) (by decide +kernel) ?_
            rintro r_177 w ⟨iv_178, rfl⟩
            refine k_ws [(cAI g a_st 44 d_st), (cAI g a_from 8 d_from2_145), (cAI g a_begin 8 d_begin2_141), (cAI g a_motor 8 d_motor2_147), (cAI g a_change 8 d_change2_143), (cAI g a_startFrame 8 d_startFrame2_148), (cAI g a_changeFrame 8 d_changeFrame2_144), (cAI g a_lostAt 8 d_lostAt2_146), (cAI g a_blackAt 8 d_blackAt2_142), (cAI g a_slips 8 fa_140), (cO11_i1r1i10r1i2r5i2r12i3r4i2 h0 m_thrown a_tape m_taped m_size m_at m_end m_token m_whole m_nameSize m_fault m_place m_trouble a_letters m_failed m_hasHouse a_r a_fresh a_st a_undone a_kept m_undos m_images a_from a_begin a_motor a_change a_startFrame a_changeFrame a_lostAt a_blackAt a_slips a_leftArc a_died a_arcs m_bestSum m_nearest m_nearestTown a_there a_backAt a_sorted a_parts u_152 u_153), (cAI g a_r 311 d_r)] rfl ?_
            refine k_ic_ne 185 X dX11_drawNight_k4.2.2.2.2 (jp_e rfl) (fun h_179 => ?_) (fun h_179 => ?_)
            · skip
              obtain ⟨z_180, ez_180⟩ : ∃ y : Int32, u_150 + Int32.ofInt 1 = y := ⟨_, rfl⟩
              refine k_iinc z_180 [(4, .int z_180), (3, .int u_34), (2, .int z_4), (0, .ref h0), (1, .int p0)] 0 X dX11_drawNight_k6.2.2.2.2 rfl ez_180 (nlt_e rfl) rfl ?_
              have i_181 : z_180.toInt = u_150.toInt + 1 := in_inc ez_180 (oin_e rfl) iv_166 (zle_e rfl) (zle_e rfl)
              have iv_182 : IV z_180 1 6 := iz1 i_181 iv_166 (zle_e rfl) (zle_e rfl)
              refine k_goto 98 X dX11_drawNight_k7.1.1 (jp_e rfl) ?_
              refine k_sub [(cO11_i1r1i10r1i2r5i2r12i3r4i2 h0 m_thrown a_tape m_taped m_size m_at m_end m_token m_whole m_nameSize m_fault m_place m_trouble a_letters m_failed m_hasHouse a_r a_fresh a_st a_undone a_kept m_undos m_images a_from a_begin a_motor a_change a_startFrame a_changeFrame a_lostAt a_blackAt a_slips a_leftArc a_died a_arcs m_bestSum m_nearest m_nearestTown a_there a_backAt a_sorted a_parts u_152 u_153), (cAI g a_r 311 d_r), (cAI g a_st 44 d_st), (cAI g a_from 8 d_from2_145), (cAI g a_begin 8 d_begin2_141), (cAI g a_motor 8 d_motor2_147), (cAI g a_change 8 d_change2_143), (cAI g a_startFrame 8 d_startFrame2_148), (cAI g a_changeFrame 8 d_changeFrame2_144), (cAI g a_lostAt 8 d_lostAt2_146), (cAI g a_blackAt 8 d_blackAt2_142), (cAI g a_slips 8 fa_140)] [10, 11, 0, 1, 2, 3, 4, 5, 6, 7, 8, 9] rfl (by decide) rfl ?_
              exact ih_156 _ (by omega) z_180 u_152 u_153 rfl (iv_w iv_182 (zle_e rfl) (zle_e rfl))
            · skip
              refine k_aload_n X dX11_drawNight_k5.1.1.1.1 3 rfl ?_
              refine k_iload X dX11_drawNight_k5.1.1.1.2 0 rfl ?_
              refine k_callVI (n := 1) (As := [.int u_150]) (st := []) X [(cO11_i1r1i10r1i2r5i2r12i3r4i2 h0 m_thrown a_tape m_taped m_size m_at m_end m_token m_whole m_nameSize m_fault m_place m_trouble a_letters m_failed m_hasHouse a_r a_fresh a_st a_undone a_kept m_undos m_images a_from a_begin a_motor a_change a_startFrame a_changeFrame a_lostAt a_blackAt a_slips a_leftArc a_died a_arcs m_bestSum m_nearest m_nearestTown a_there a_backAt a_sorted a_parts u_152 u_153), (cAI g a_st 44 d_st)] [(cAI g a_from 8 d_from2_145), (cAI g a_begin 8 d_begin2_141), (cAI g a_motor 8 d_motor2_147), (cAI g a_change 8 d_change2_143), (cAI g a_startFrame 8 d_startFrame2_148), (cAI g a_changeFrame 8 d_changeFrame2_144), (cAI g a_lostAt 8 d_lostAt2_146), (cAI g a_blackAt 8 d_blackAt2_142), (cAI g a_slips 8 fa_140), (cAI g a_r 311 d_r)] [10, 0] [1, 2, 3, 4, 5, 6, 7, 8, 9, 11] (m_isMended l g h0 u_150 m_thrown a_tape m_taped m_size m_at m_end m_token m_whole m_nameSize m_fault m_place m_trouble a_letters m_failed m_hasHouse a_r a_fresh a_st a_undone a_kept m_undos m_images a_from a_begin a_motor a_change a_startFrame a_changeFrame a_lostAt a_blackAt a_slips a_leftArc a_died a_arcs m_bestSum m_nearest m_nearestTown a_there a_backAt a_sorted a_parts u_152 u_153 d_st) dX11_drawNight_k5.1.1.2.1 mw682 mw683 mw684 mw5 mw685 rfl 11 rfl rfl 0 _ rfl yk_yX11_isMended_1 rfl (Nat.le_of_ble_eq_true rfl) (Nat.le_of_ble_eq_true rfl) (Nat.le_of_ble_eq_true rfl) (Nat.le_of_ble_eq_true rfl) (Nat.le_of_ble_eq_true rfl) rfl rfl (by decide +kernel) rfl (by decide +kernel) (by decide +kernel) ?_
              rintro r_183 w ⟨iv_184, rfl⟩
              refine k_ws [(cAI g a_from 8 d_from2_145), (cAI g a_begin 8 d_begin2_141), (cAI g a_motor 8 d_motor2_147), (cAI g a_change 8 d_change2_143), (cAI g a_startFrame 8 d_startFrame2_148), (cAI g a_changeFrame 8 d_changeFrame2_144), (cAI g a_lostAt 8 d_lostAt2_146), (cAI g a_blackAt 8 d_blackAt2_142), (cAI g a_slips 8 fa_140), (cAI g a_r 311 d_r), (cO11_i1r1i10r1i2r5i2r12i3r4i2 h0 m_thrown a_tape m_taped m_size m_at m_end m_token m_whole m_nameSize m_fault m_place m_trouble a_letters m_failed m_hasHouse a_r a_fresh a_st a_undone a_kept m_undos m_images a_from a_begin a_motor a_change a_startFrame a_changeFrame a_lostAt a_blackAt a_slips a_leftArc a_died a_arcs m_bestSum m_nearest m_nearestTown a_there a_backAt a_sorted a_parts u_152 u_153), (cAI g a_st 44 d_st)] rfl ?_
              refine k_if_eq 142 X dX11_drawNight_k5.1.1.2.2 (jp_e rfl) (fun h_185 => ?_) (fun h_185 => ?_)
              · skip
                have iv_186 : IV r_183 0 0 := iv_meet iv_184 (iv_e h_185 iq_0_0_0) (zle_o rfl) (zle_o rfl)
                refine k_aload_n X dX11_drawNight_k5.1.2.1.2 3 rfl ?_
                refine k_dup X dX11_drawNight_k5.1.2.2.1 rfl ?_
                refine k_get (ci := 11) X inlX11 rfl 42 (nlt_e rfl) dX11_drawNight_k5.1.2.2.2 mw1422 10 rfl rfl ?_
                refine k_aload_n X dX11_drawNight_k5.2.1.1.1 3 rfl ?_
                refine k_callVI (n := 0) (As := []) (st := [.int u_153, .ref h0]) X [(cO11_i1r1i10r1i2r5i2r12i3r4i2 h0 m_thrown a_tape m_taped m_size m_at m_end m_token m_whole m_nameSize m_fault m_place m_trouble a_letters m_failed m_hasHouse a_r a_fresh a_st a_undone a_kept m_undos m_images a_from a_begin a_motor a_change a_startFrame a_changeFrame a_lostAt a_blackAt a_slips a_leftArc a_died a_arcs m_bestSum m_nearest m_nearestTown a_there a_backAt a_sorted a_parts u_152 u_153)] [(cAI g a_from 8 d_from2_145), (cAI g a_begin 8 d_begin2_141), (cAI g a_motor 8 d_motor2_147), (cAI g a_change 8 d_change2_143), (cAI g a_startFrame 8 d_startFrame2_148), (cAI g a_changeFrame 8 d_changeFrame2_144), (cAI g a_lostAt 8 d_lostAt2_146), (cAI g a_blackAt 8 d_blackAt2_142), (cAI g a_slips 8 fa_140), (cAI g a_r 311 d_r), (cAI g a_st 44 d_st)] [10] [0, 1, 2, 3, 4, 5, 6, 7, 8, 9, 11] (m_drawn l g h0 m_thrown a_tape m_taped m_size m_at m_end m_token m_whole m_nameSize m_fault m_place m_trouble a_letters m_failed m_hasHouse a_r a_fresh a_st a_undone a_kept m_undos m_images a_from a_begin a_motor a_change a_startFrame a_changeFrame a_lostAt a_blackAt a_slips a_leftArc a_died a_arcs m_bestSum m_nearest m_nearestTown a_there a_backAt a_sorted a_parts u_152 u_153) dX11_drawNight_k5.2.1.1.2 mw1427 mw1428 mw1429 mw5 mw1430 rfl 11 rfl rfl 0 _ rfl yk_yX11_drawn_0 rfl (Nat.le_of_ble_eq_true rfl) (Nat.le_of_ble_eq_true rfl) (Nat.le_of_ble_eq_true rfl) (Nat.le_of_ble_eq_true rfl) (Nat.le_of_ble_eq_true rfl) rfl rfl (by decide +kernel) rfl (by decide +kernel) (by decide +kernel) ?_
                rintro r_188 w ⟨m_seed12_187, rfl⟩
                refine k_ws [(cAI g a_from 8 d_from2_145), (cAI g a_begin 8 d_begin2_141), (cAI g a_motor 8 d_motor2_147), (cAI g a_change 8 d_change2_143), (cAI g a_startFrame 8 d_startFrame2_148), (cAI g a_changeFrame 8 d_changeFrame2_144), (cAI g a_lostAt 8 d_lostAt2_146), (cAI g a_blackAt 8 d_blackAt2_142), (cAI g a_slips 8 fa_140), (cAI g a_r 311 d_r), (cAI g a_st 44 d_st), (cO11_i1r1i10r1i2r5i2r12i3r4i2 h0 m_thrown a_tape m_taped m_size m_at m_end m_token m_whole m_nameSize m_fault m_place m_trouble a_letters m_failed m_hasHouse a_r a_fresh a_st a_undone a_kept m_undos m_images a_from a_begin a_motor a_change a_startFrame a_changeFrame a_lostAt a_blackAt a_slips a_leftArc a_died a_arcs m_bestSum m_nearest m_nearestTown a_there a_backAt a_sorted a_parts m_seed12_187 u_153)] rfl ?_
                refine k_bipush (v := 100) X dX11_drawNight_k5.2.1.2.1 bi_100 ?_
                refine k_irem X dX11_drawNight_k5.2.1.2.2 (by decide) ?_
                refine k_nm (fun z_189 ez_189 => ?_)
                refine k_aload_n X dX11_drawNight_k5.2.2.1.1 3 rfl ?_
                refine k_get (ci := 11) X inlX11 rfl 15 (nlt_e rfl) dX11_drawNight_k5.2.2.1.2 mw170 11 rfl rfl ?_
                refine k_bipush (v := 96) X dX11_drawNight_k5.2.2.2.1 bi_96 ?_
                refine k_iconst (v := 3) X dX11_drawNight_k5.2.2.2.2 ic_3 ?_
                refine k_iload X dX11_drawNight_k6.1.1.1.1 0 rfl ?_
                refine k_imul X dX11_drawNight_k6.1.1.1.2 ?_
                refine k_to z_168 ez_168.symm ?_
                refine k_iadd X dX11_drawNight_k6.1.1.2.1 ?_
                refine k_to z_171 ez_171.symm ?_
                refine k_iconst (v := 2) X dX11_drawNight_k6.1.1.2.2 ic_2 ?_
                refine k_iadd X dX11_drawNight_k6.1.2.1.1 ?_
                refine k_nm (fun z_190 ez_190 => ?_)
                have i_191 : z_190.toInt = z_171.toInt + 2 := in_add ez_190 iv_173 iq_2_2_2 (zle_e rfl) (zle_e rfl)
                have iv_192 : IV z_190 98 113 := iz1 i_191 iv_173 (zle_e rfl) (zle_e rfl)
                refine k_iald X dX11_drawNight_k6.1.2.1.2 9 rfl (iv_in iv_192 (zle_e rfl) (zle_l rfl)) ?_
                refine k_nm (fun z_193 ez_193 => ?_)
                refine k_ic_ge 180 X dX11_drawNight_k6.1.2.2.1 (jp_e rfl) (fun h_194 => ?_) (fun h_194 => ?_)
                · skip
                  have j_195 : z_193.toInt ≤ z_189.toInt := iv_le h_194
                  refine k_iconst (v := 0) X dX11_drawNight_k6.2.2.1.1 ic_0 ?_
                  refine k_iadd X dX11_drawNight_k6.2.2.1.2 ?_
                  refine k_nm (fun z_196 ez_196 => ?_)
                  have i_197 : z_196.toInt = u_153.toInt + 0 := in_add ez_196 (iv_any u_153) iq_0_0_0 (zle_e rfl) (zle_e rfl)
                  have iv_198 : IV z_196 (-2147483648) 2147483647 := by have := (iv_any u_153); have := iq_0_0_0; rw [IV, i_197]; omega
                  refine k_put (ci := 11) [(cAI g a_from 8 d_from2_145), (cAI g a_begin 8 d_begin2_141), (cAI g a_motor 8 d_motor2_147), (cAI g a_change 8 d_change2_143), (cAI g a_startFrame 8 d_startFrame2_148), (cAI g a_changeFrame 8 d_changeFrame2_144), (cAI g a_lostAt 8 d_lostAt2_146), (cAI g a_blackAt 8 d_blackAt2_142), (cAI g a_slips 8 fa_140), (cAI g a_r 311 d_r), (cAI g a_st 44 d_st), (cO11_i1r1i10r1i2r5i2r12i3r4i2 h0 m_thrown a_tape m_taped m_size m_at m_end m_token m_whole m_nameSize m_fault m_place m_trouble a_letters m_failed m_hasHouse a_r a_fresh a_st a_undone a_kept m_undos m_images a_from a_begin a_motor a_change a_startFrame a_changeFrame a_lostAt a_blackAt a_slips a_leftArc a_died a_arcs m_bestSum m_nearest m_nearestTown a_there a_backAt a_sorted a_parts m_seed12_187 z_196)] X inlX11 rfl tyX11_ok nmX11 42 (nlt_e rfl) rfl dX11_drawNight_k6.2.2.2.1 mw1422 11 rfl rfl rfl (Nat.le_of_ble_eq_true rfl) rfl ?_
                  obtain ⟨z_199, ez_199⟩ : ∃ y : Int32, u_150 + Int32.ofInt 1 = y := ⟨_, rfl⟩
                  refine k_iinc z_199 [(4, .int z_199), (3, .int u_34), (2, .int z_4), (0, .ref h0), (1, .int p0)] 0 X dX11_drawNight_k6.2.2.2.2 rfl ez_199 (nlt_e rfl) rfl ?_
                  have i_200 : z_199.toInt = u_150.toInt + 1 := in_inc ez_199 (oin_e rfl) iv_166 (zle_e rfl) (zle_e rfl)
                  have iv_201 : IV z_199 1 6 := iz1 i_200 iv_166 (zle_e rfl) (zle_e rfl)
                  refine k_goto 98 X dX11_drawNight_k7.1.1 (jp_e rfl) ?_
                  refine k_sub [(cO11_i1r1i10r1i2r5i2r12i3r4i2 h0 m_thrown a_tape m_taped m_size m_at m_end m_token m_whole m_nameSize m_fault m_place m_trouble a_letters m_failed m_hasHouse a_r a_fresh a_st a_undone a_kept m_undos m_images a_from a_begin a_motor a_change a_startFrame a_changeFrame a_lostAt a_blackAt a_slips a_leftArc a_died a_arcs m_bestSum m_nearest m_nearestTown a_there a_backAt a_sorted a_parts m_seed12_187 z_196), (cAI g a_r 311 d_r), (cAI g a_st 44 d_st), (cAI g a_from 8 d_from2_145), (cAI g a_begin 8 d_begin2_141), (cAI g a_motor 8 d_motor2_147), (cAI g a_change 8 d_change2_143), (cAI g a_startFrame 8 d_startFrame2_148), (cAI g a_changeFrame 8 d_changeFrame2_144), (cAI g a_lostAt 8 d_lostAt2_146), (cAI g a_blackAt 8 d_blackAt2_142), (cAI g a_slips 8 fa_140)] [11, 9, 10, 0, 1, 2, 3, 4, 5, 6, 7, 8] rfl (by decide) rfl ?_
                  exact ih_156 _ (by omega) z_199 m_seed12_187 z_196 rfl (iv_w iv_201 (zle_e rfl) (zle_e rfl))
                · skip
                  have j_202 : z_189.toInt < z_193.toInt := iv_nle h_194
                  have iv_203 : IV z_189 (-2147483648) 2147483646 := iv_ltL (iv_nle h_194) (iv_any z_189) (iv_any z_193) (zle_e rfl)
                  have iv_204 : IV z_193 (-2147483647) 2147483647 := iv_ltR (iv_nle h_194) (iv_any z_189) (iv_any z_193) (zle_e rfl)
                  refine k_aload_n X dX11_drawNight_k6.1.2.2.2 3 rfl ?_
                  refine k_get (ci := 11) X inlX11 rfl 15 (nlt_e rfl) dX11_drawNight_k6.2.1.1.1 mw170 11 rfl rfl ?_
                  refine k_iconst (v := 5) X dX11_drawNight_k6.2.1.1.2 ic_5 ?_
                  refine k_iald X dX11_drawNight_k6.2.1.2.1 9 rfl (by unfold vp_in; decide) ?_
                  refine k_nm (fun z_205 ez_205 => ?_)
                  refine k_goto 181 X dX11_drawNight_k6.2.1.2.2 (jp_e rfl) ?_
                  refine k_iadd X dX11_drawNight_k6.2.2.1.2 ?_
                  refine k_nm (fun z_206 ez_206 => ?_)
                  refine k_put (ci := 11) [(cAI g a_from 8 d_from2_145), (cAI g a_begin 8 d_begin2_141), (cAI g a_motor 8 d_motor2_147), (cAI g a_change 8 d_change2_143), (cAI g a_startFrame 8 d_startFrame2_148), (cAI g a_changeFrame 8 d_changeFrame2_144), (cAI g a_lostAt 8 d_lostAt2_146), (cAI g a_blackAt 8 d_blackAt2_142), (cAI g a_slips 8 fa_140), (cAI g a_r 311 d_r), (cAI g a_st 44 d_st), (cO11_i1r1i10r1i2r5i2r12i3r4i2 h0 m_thrown a_tape m_taped m_size m_at m_end m_token m_whole m_nameSize m_fault m_place m_trouble a_letters m_failed m_hasHouse a_r a_fresh a_st a_undone a_kept m_undos m_images a_from a_begin a_motor a_change a_startFrame a_changeFrame a_lostAt a_blackAt a_slips a_leftArc a_died a_arcs m_bestSum m_nearest m_nearestTown a_there a_backAt a_sorted a_parts m_seed12_187 z_206)] X inlX11 rfl tyX11_ok nmX11 42 (nlt_e rfl) rfl dX11_drawNight_k6.2.2.2.1 mw1422 11 rfl rfl rfl (Nat.le_of_ble_eq_true rfl) rfl ?_
                  obtain ⟨z_208, ez_208⟩ : ∃ y : Int32, u_150 + Int32.ofInt 1 = y := ⟨_, rfl⟩
                  refine k_iinc z_208 [(4, .int z_208), (3, .int u_34), (2, .int z_4), (0, .ref h0), (1, .int p0)] 0 X dX11_drawNight_k6.2.2.2.2 rfl ez_208 (nlt_e rfl) rfl ?_
                  have i_209 : z_208.toInt = u_150.toInt + 1 := in_inc ez_208 (oin_e rfl) iv_166 (zle_e rfl) (zle_e rfl)
                  have iv_210 : IV z_208 1 6 := iz1 i_209 iv_166 (zle_e rfl) (zle_e rfl)
                  refine k_goto 98 X dX11_drawNight_k7.1.1 (jp_e rfl) ?_
                  refine k_sub [(cO11_i1r1i10r1i2r5i2r12i3r4i2 h0 m_thrown a_tape m_taped m_size m_at m_end m_token m_whole m_nameSize m_fault m_place m_trouble a_letters m_failed m_hasHouse a_r a_fresh a_st a_undone a_kept m_undos m_images a_from a_begin a_motor a_change a_startFrame a_changeFrame a_lostAt a_blackAt a_slips a_leftArc a_died a_arcs m_bestSum m_nearest m_nearestTown a_there a_backAt a_sorted a_parts m_seed12_187 z_206), (cAI g a_r 311 d_r), (cAI g a_st 44 d_st), (cAI g a_from 8 d_from2_145), (cAI g a_begin 8 d_begin2_141), (cAI g a_motor 8 d_motor2_147), (cAI g a_change 8 d_change2_143), (cAI g a_startFrame 8 d_startFrame2_148), (cAI g a_changeFrame 8 d_changeFrame2_144), (cAI g a_lostAt 8 d_lostAt2_146), (cAI g a_blackAt 8 d_blackAt2_142), (cAI g a_slips 8 fa_140)] [11, 9, 10, 0, 1, 2, 3, 4, 5, 6, 7, 8] rfl (by decide) rfl ?_
                  exact ih_156 _ (by omega) z_208 m_seed12_187 z_206 rfl (iv_w iv_210 (zle_e rfl) (zle_e rfl))
              · skip
                have iv_211 : IV r_183 1 1 := iv_neL h_185 iv_184 iq_0_0_0 (zle_e rfl)
                refine k_goto 185 X dX11_drawNight_k5.1.2.1.1 (jp_e rfl) ?_
                obtain ⟨z_212, ez_212⟩ : ∃ y : Int32, u_150 + Int32.ofInt 1 = y := ⟨_, rfl⟩
                refine k_iinc z_212 [(4, .int z_212), (3, .int u_34), (2, .int z_4), (0, .ref h0), (1, .int p0)] 0 X dX11_drawNight_k6.2.2.2.2 rfl ez_212 (nlt_e rfl) rfl ?_
                have i_213 : z_212.toInt = u_150.toInt + 1 := in_inc ez_212 (oin_e rfl) iv_166 (zle_e rfl) (zle_e rfl)
                have iv_214 : IV z_212 1 6 := iz1 i_213 iv_166 (zle_e rfl) (zle_e rfl)
                refine k_goto 98 X dX11_drawNight_k7.1.1 (jp_e rfl) ?_
                refine k_sub [(cO11_i1r1i10r1i2r5i2r12i3r4i2 h0 m_thrown a_tape m_taped m_size m_at m_end m_token m_whole m_nameSize m_fault m_place m_trouble a_letters m_failed m_hasHouse a_r a_fresh a_st a_undone a_kept m_undos m_images a_from a_begin a_motor a_change a_startFrame a_changeFrame a_lostAt a_blackAt a_slips a_leftArc a_died a_arcs m_bestSum m_nearest m_nearestTown a_there a_backAt a_sorted a_parts u_152 u_153), (cAI g a_r 311 d_r), (cAI g a_st 44 d_st), (cAI g a_from 8 d_from2_145), (cAI g a_begin 8 d_begin2_141), (cAI g a_motor 8 d_motor2_147), (cAI g a_change 8 d_change2_143), (cAI g a_startFrame 8 d_startFrame2_148), (cAI g a_changeFrame 8 d_changeFrame2_144), (cAI g a_lostAt 8 d_lostAt2_146), (cAI g a_blackAt 8 d_blackAt2_142), (cAI g a_slips 8 fa_140)] [10, 9, 11, 0, 1, 2, 3, 4, 5, 6, 7, 8] rfl (by decide) rfl ?_
                exact ih_156 _ (by omega) z_212 u_152 u_153 rfl (iv_w iv_214 (zle_e rfl) (zle_e rfl))
      · skip
        have iv_215 : IV r_47 1 1 := iv_neL h_49 iv_48 iq_0_0_0 (zle_e rfl)
        refine k_goto 191 X dX11_drawNight_k2.1.1.2.1 (jp_e rfl) ?_
        obtain ⟨z_216, ez_216⟩ : ∃ y : Int32, u_34 + Int32.ofInt 1 = y := ⟨_, rfl⟩
        refine k_iinc z_216 [(3, .int z_216), (2, .int z_4), (0, .ref h0), (1, .int p0)] 0 X dX11_drawNight_k7.1.2 rfl ez_216 (nlt_e rfl) rfl ?_
        have i_217 : z_216.toInt = u_34.toInt + 1 := in_inc ez_216 (oin_e rfl) iv_44 (zle_e rfl) (zle_e rfl)
        have iv_218 : IV z_216 1 8 := iz1 i_217 iv_44 (zle_e rfl) (zle_e rfl)
        refine k_goto 43 X dX11_drawNight_k7.2.1 (jp_e rfl) ?_
        refine k_sub [(cO11_i1r1i10r1i2r5i2r12i3r4i2 h0 m_thrown a_tape m_taped m_size m_at m_end m_token m_whole m_nameSize m_fault m_place m_trouble a_letters m_failed m_hasHouse a_r a_fresh a_st a_undone a_kept m_undos m_images a_from a_begin a_motor a_change a_startFrame a_changeFrame a_lostAt a_blackAt a_slips a_leftArc a_died a_arcs m_bestSum m_nearest m_nearestTown a_there a_backAt a_sorted a_parts u_36 u_37), (cAI g a_r 311 d_r), (cAI g a_st 44 d_st), (cAI g a_from 8 uf_29), (cAI g a_begin 8 uf_25), (cAI g a_motor 8 uf_31), (cAI g a_change 8 uf_27), (cAI g a_startFrame 8 uf_33), (cAI g a_changeFrame 8 uf_28), (cAI g a_lostAt 8 uf_30), (cAI g a_blackAt 8 uf_26), (cAI g a_slips 8 uf_32)] [8, 9, 10, 11, 0, 1, 2, 3, 4, 5, 6, 7] rfl (by decide) rfl ?_
        exact ih_40 _ (by omega) uf_25 uf_26 uf_27 uf_28 uf_29 uf_30 uf_31 uf_32 uf_33 z_216 u_36 u_37 rfl (iv_w iv_218 (zle_e rfl) (zle_e rfl))
  · skip
    have j_219 : u_8.toInt < 8 := iv_nle h_13
    have iv_220 : IV u_8 0 7 := iv_ltL (iv_nle h_13) hv_9 iq_8_8_8 (zle_e rfl)
    refine k_aload_n X dX11_drawNight_k0.2.2.1.1 2 rfl ?_
    refine k_get (ci := 11) X inlX11 rfl 30 (nlt_e rfl) dX11_drawNight_k0.2.2.1.2 mw183 0 rfl rfl ?_
    refine k_iload_n X dX11_drawNight_k0.2.2.2.1 0 rfl ?_
    refine k_iconst (v := 0) X dX11_drawNight_k0.2.2.2.2 ic_0 ?_
    refine k_iast [(cO11_i1r1i10r1i2r5i2r12i3r4i2 h0 m_thrown a_tape m_taped m_size m_at m_end m_token m_whole m_nameSize m_fault m_place m_trouble a_letters m_failed m_hasHouse a_r a_fresh a_st a_undone a_kept m_undos m_images a_from a_begin a_motor a_change a_startFrame a_changeFrame a_lostAt a_blackAt a_slips a_leftArc a_died a_arcs m_bestSum m_nearest m_nearestTown a_there a_backAt a_sorted a_parts m_seed1 m_darkNow), (cAI g a_r 311 d_r), (cAI g a_st 44 d_st), (cAI g a_from 8 d_from), (cAI g a_begin 8 d_begin), (cAI g a_motor 8 d_motor), (cAI g a_change 8 d_change), (cAI g a_startFrame 8 d_startFrame), (cAI g a_changeFrame 8 d_changeFrame), (cAI g a_lostAt 8 d_lostAt), (cAI g a_blackAt 8 d_blackAt), (cAI g a_slips 8 (upd uf_7 (u_8 : Int32).toNatClampNeg 0))] X dX11_drawNight_k1.1.1.1.1 11 rfl (iv_in iv_220 (zle_e rfl) (zle_l rfl)) rfl ?_
    refine (fun hg : ∀ fa_221 : Nat → Int32, Wk p l e _ s m args below meth c _ A g _ _ _ [(cO11_i1r1i10r1i2r5i2r12i3r4i2 h0 m_thrown a_tape m_taped m_size m_at m_end m_token m_whole m_nameSize m_fault m_place m_trouble a_letters m_failed m_hasHouse a_r a_fresh a_st a_undone a_kept m_undos m_images a_from a_begin a_motor a_change a_startFrame a_changeFrame a_lostAt a_blackAt a_slips a_leftArc a_died a_arcs m_bestSum m_nearest m_nearestTown a_there a_backAt a_sorted a_parts m_seed1 m_darkNow), (cAI g a_r 311 d_r), (cAI g a_st 44 d_st), (cAI g a_from 8 d_from), (cAI g a_begin 8 d_begin), (cAI g a_motor 8 d_motor), (cAI g a_change 8 d_change), (cAI g a_startFrame 8 d_startFrame), (cAI g a_changeFrame 8 d_changeFrame), (cAI g a_lostAt 8 d_lostAt), (cAI g a_blackAt 8 d_blackAt), (cAI g a_slips 8 fa_221)] _ _ _ => hg _) (fun fa_221 => ?_)
    obtain ⟨z_222, ez_222⟩ : ∃ y : Int32, u_8 + Int32.ofInt 1 = y := ⟨_, rfl⟩
    refine k_iinc z_222 [(3, .int z_222), (2, .int z_4), (0, .ref h0), (1, .int p0)] 0 X dX11_drawNight_k1.1.1.1.2 rfl ez_222 (nlt_e rfl) rfl ?_
    have i_223 : z_222.toInt = u_8.toInt + 1 := in_inc ez_222 (oin_e rfl) iv_220 (zle_e rfl) (zle_e rfl)
    have iv_224 : IV z_222 1 8 := iz1 i_223 iv_220 (zle_e rfl) (zle_e rfl)
    refine k_goto 12 X dX11_drawNight_k1.1.1.2.1 (jp_e rfl) ?_
    exact ih_12 _ (by omega) fa_221 z_222 rfl (iv_w iv_224 (zle_e rfl) (zle_e rfl))

theorem dX11_dark_k0 : ((((dD cX11_dark 0 (.aload_n 0) 1 ∧ dD cX11_dark 1 (.invokevirtual 200) 3) ∧ (dD cX11_dark 4 (.aload_n 0) 1 ∧ dD cX11_dark 5 (.iload_n 1) 1)) ∧ ((dD cX11_dark 6 (.invokevirtual 370) 3 ∧ dD cX11_dark 9 (.ifCond .ne 9) 3) ∧ (dD cX11_dark 12 (.aload_n 0) 1 ∧ dD cX11_dark 13 (.iconst 1) 1))) ∧ (((dD cX11_dark 14 (.invokevirtual 203) 3 ∧ dD cX11_dark 17 .ireturn 1) ∧ (dD cX11_dark 18 (.iload_n 2) 1 ∧ dD cX11_dark 19 (.iconst 0) 1)) ∧ ((dD cX11_dark 20 (.ldc_w 468) 3 ∧ dD cX11_dark 23 (.invokestatic 182) 3) ∧ (dD cX11_dark 26 (.ifCond .ne 9) 3 ∧ dD cX11_dark 29 (.aload_n 0) 1)))) := dkA16 (by decide +kernel)
theorem dX11_dark_k1 : ((((dD cX11_dark 30 (.iconst 2) 1 ∧ dD cX11_dark 31 (.invokevirtual 203) 3) ∧ (dD cX11_dark 34 .ireturn 1 ∧ dD cX11_dark 35 (.aload_n 0) 1)) ∧ ((dD cX11_dark 36 (.iload_n 2) 1 ∧ dD cX11_dark 37 (.putfield 458) 3) ∧ (dD cX11_dark 40 (.aload_n 0) 1 ∧ dD cX11_dark 41 (.iload_n 1) 1))) ∧ (((dD cX11_dark 42 (.invokevirtual 469) 3 ∧ dD cX11_dark 45 (.aload_n 0) 1) ∧ (dD cX11_dark 46 (.getfield 462) 3 ∧ dD cX11_dark 49 (.aload_n 0) 1)) ∧ ((dD cX11_dark 50 (.iconst 1) 1 ∧ dD cX11_dark 51 (.invokevirtual 382) 3) ∧ (dD cX11_dark 54 .iadd 1 ∧ dD cX11_dark 55 .ireturn 1)))) := dkA16 (by decide +kernel)
set_option maxHeartbeats 4000000 in
set_option maxRecDepth 100000 in
theorem m_dark (l : Launch) (g : Gx) (h0 : Nat) (p0 : Int32) (p1 : Int32) (m_thrown : Int32) (a_tape : Nat) (m_taped : Int32) (m_size : Int32) (m_at : Int32) (m_end : Int32) (m_token : Int32) (m_whole : Int32) (m_nameSize : Int32) (m_fault : Int32) (m_place : Int32) (m_trouble : Int32) (a_letters : Nat) (m_failed : Int32) (m_hasHouse : Int32) (a_r : Nat) (a_fresh : Nat) (a_st : Nat) (a_undone : Nat) (a_kept : Nat) (m_undos : Int32) (m_images : Int32) (a_from : Nat) (a_begin : Nat) (a_motor : Nat) (a_change : Nat) (a_startFrame : Nat) (a_changeFrame : Nat) (a_lostAt : Nat) (a_blackAt : Nat) (a_slips : Nat) (a_leftArc : Nat) (a_died : Nat) (a_arcs : Nat) (m_bestSum : Int32) (m_nearest : Int32) (m_nearestTown : Int32) (a_there : Nat) (a_backAt : Nat) (a_sorted : Nat) (a_parts : Nat) (m_seed1 : Int32) (m_darkNow : Int32) (d_r : Nat → Int32) (d_st : Nat → Int32) (d_from : Nat → Int32) (d_begin : Nat → Int32) (d_motor : Nat → Int32) (d_change : Nat → Int32) (d_startFrame : Nat → Int32) (d_changeFrame : Nat → Int32) (d_lostAt : Nat → Int32) (d_blackAt : Nat → Int32) (d_slips : Nat → Int32) (hv_m_hasHouse : IV m_hasHouse 0 1) (hp_d_r : RInv d_r) : cI l g yX11_dark cX11_dark 3 (some .int) 5 112 0 0 [.ref h0, .int p0, .int p1] [(cO11_i1r1i10r1i2r5i2r12i3r4i2 h0 m_thrown a_tape m_taped m_size m_at m_end m_token m_whole m_nameSize m_fault m_place m_trouble a_letters m_failed m_hasHouse a_r a_fresh a_st a_undone a_kept m_undos m_images a_from a_begin a_motor a_change a_startFrame a_changeFrame a_lostAt a_blackAt a_slips a_leftArc a_died a_arcs m_bestSum m_nearest m_nearestTown a_there a_backAt a_sorted a_parts m_seed1 m_darkNow), (cAI g a_r 311 d_r), (cAI g a_st 44 d_st), (cAI g a_from 8 d_from), (cAI g a_begin 8 d_begin), (cAI g a_motor 8 d_motor), (cAI g a_change 8 d_change), (cAI g a_startFrame 8 d_startFrame), (cAI g a_changeFrame 8 d_changeFrame), (cAI g a_lostAt 8 d_lostAt), (cAI g a_blackAt 8 d_blackAt), (cAI g a_slips 8 d_slips)] (fun r w => ∃ (d_begin2 : Nat → Int32) (d_blackAt2 : Nat → Int32) (d_change2 : Nat → Int32) (d_changeFrame2 : Nat → Int32) (m_darkNow2 : Int32) (d_from2 : Nat → Int32) (d_lostAt2 : Nat → Int32) (d_motor2 : Nat → Int32) (m_seed12 : Int32) (d_slips2 : Nat → Int32) (d_startFrame2 : Nat → Int32) (m_thrown2 : Int32) (m_trouble2 : Int32), w = [(cO11_i1r1i10r1i2r5i2r12i3r4i2 h0 m_thrown2 a_tape m_taped m_size m_at m_end m_token m_whole m_nameSize m_fault m_place m_trouble2 a_letters m_failed m_hasHouse a_r a_fresh a_st a_undone a_kept m_undos m_images a_from a_begin a_motor a_change a_startFrame a_changeFrame a_lostAt a_blackAt a_slips a_leftArc a_died a_arcs m_bestSum m_nearest m_nearestTown a_there a_backAt a_sorted a_parts m_seed12 m_darkNow2), (cAI g a_r 311 d_r), (cAI g a_st 44 d_st), (cAI g a_from 8 d_from2), (cAI g a_begin 8 d_begin2), (cAI g a_motor 8 d_motor2), (cAI g a_change 8 d_change2), (cAI g a_startFrame 8 d_startFrame2), (cAI g a_changeFrame 8 d_changeFrame2), (cAI g a_lostAt 8 d_lostAt2), (cAI g a_blackAt 8 d_blackAt2), (cAI g a_slips 8 d_slips2)]) := by
  refine cI.of (by decide) (Nat.le_of_ble_eq_true rfl) ?_
  intro p e s m args below meth c A X hr hi
  refine k_lveq [(0, .ref h0), (1, .int p0), (2, .int p1)] rfl ?_
  refine k_aload_n X dX11_dark_k0.1.1.1.1 0 rfl ?_
  refine k_callVV (n := 0) (As := []) (st := []) X [(cO11_i1r1i10r1i2r5i2r12i3r4i2 h0 m_thrown a_tape m_taped m_size m_at m_end m_token m_whole m_nameSize m_fault m_place m_trouble a_letters m_failed m_hasHouse a_r a_fresh a_st a_undone a_kept m_undos m_images a_from a_begin a_motor a_change a_startFrame a_changeFrame a_lostAt a_blackAt a_slips a_leftArc a_died a_arcs m_bestSum m_nearest m_nearestTown a_there a_backAt a_sorted a_parts m_seed1 m_darkNow)] [(cAI g a_r 311 d_r), (cAI g a_st 44 d_st), (cAI g a_from 8 d_from), (cAI g a_begin 8 d_begin), (cAI g a_motor 8 d_motor), (cAI g a_change 8 d_change), (cAI g a_startFrame 8 d_startFrame), (cAI g a_changeFrame 8 d_changeFrame), (cAI g a_lostAt 8 d_lostAt), (cAI g a_blackAt 8 d_blackAt), (cAI g a_slips 8 d_slips)] [0] [1, 2, 3, 4, 5, 6, 7, 8, 9, 10, 11] (m_good l g h0 m_thrown a_tape m_taped m_size m_at m_end m_token m_whole m_nameSize m_fault m_place m_trouble a_letters m_failed m_hasHouse a_r a_fresh a_st a_undone a_kept m_undos m_images a_from a_begin a_motor a_change a_startFrame a_changeFrame a_lostAt a_blackAt a_slips a_leftArc a_died a_arcs m_bestSum m_nearest m_nearestTown a_there a_backAt a_sorted a_parts m_seed1 m_darkNow) dX11_dark_k0.1.1.1.2 mw477 mw478 mw479 mw5 mw480 rfl 11 rfl rfl 0 _ rfl yk_yX11_good_0 rfl (Nat.le_of_ble_eq_true rfl) (Nat.le_of_ble_eq_true rfl) (Nat.le_of_ble_eq_true rfl) (Nat.le_of_ble_eq_true rfl) (Nat.le_of_ble_eq_true rfl) rfl rfl (by decide +kernel) rfl (by decide +kernel) (by decide +kernel) ?_
  rintro w ⟨m_thrown2_1, m_trouble2_2, rfl⟩
  refine k_ws [(cAI g a_r 311 d_r), (cAI g a_st 44 d_st), (cAI g a_from 8 d_from), (cAI g a_begin 8 d_begin), (cAI g a_motor 8 d_motor), (cAI g a_change 8 d_change), (cAI g a_startFrame 8 d_startFrame), (cAI g a_changeFrame 8 d_changeFrame), (cAI g a_lostAt 8 d_lostAt), (cAI g a_blackAt 8 d_blackAt), (cAI g a_slips 8 d_slips), (cO11_i1r1i10r1i2r5i2r12i3r4i2 h0 m_thrown2_1 a_tape m_taped m_size m_at m_end m_token m_whole m_nameSize m_fault m_place m_trouble2_2 a_letters m_failed m_hasHouse a_r a_fresh a_st a_undone a_kept m_undos m_images a_from a_begin a_motor a_change a_startFrame a_changeFrame a_lostAt a_blackAt a_slips a_leftArc a_died a_arcs m_bestSum m_nearest m_nearestTown a_there a_backAt a_sorted a_parts m_seed1 m_darkNow)] rfl ?_
  refine k_aload_n X dX11_dark_k0.1.1.2.1 0 rfl ?_
  refine k_iload_n X dX11_dark_k0.1.1.2.2 1 rfl ?_
  refine k_callVI (n := 1) (As := [.int p0]) (st := []) X [(cO11_i1r1i10r1i2r5i2r12i3r4i2 h0 m_thrown2_1 a_tape m_taped m_size m_at m_end m_token m_whole m_nameSize m_fault m_place m_trouble2_2 a_letters m_failed m_hasHouse a_r a_fresh a_st a_undone a_kept m_undos m_images a_from a_begin a_motor a_change a_startFrame a_changeFrame a_lostAt a_blackAt a_slips a_leftArc a_died a_arcs m_bestSum m_nearest m_nearestTown a_there a_backAt a_sorted a_parts m_seed1 m_darkNow), (cAI g a_r 311 d_r)] [(cAI g a_st 44 d_st), (cAI g a_from 8 d_from), (cAI g a_begin 8 d_begin), (cAI g a_motor 8 d_motor), (cAI g a_change 8 d_change), (cAI g a_startFrame 8 d_startFrame), (cAI g a_changeFrame 8 d_changeFrame), (cAI g a_lostAt 8 d_lostAt), (cAI g a_blackAt 8 d_blackAt), (cAI g a_slips 8 d_slips)] [11, 0] [1, 2, 3, 4, 5, 6, 7, 8, 9, 10] (m_isMan l g h0 p0 m_thrown2_1 a_tape m_taped m_size m_at m_end m_token m_whole m_nameSize m_fault m_place m_trouble2_2 a_letters m_failed m_hasHouse a_r a_fresh a_st a_undone a_kept m_undos m_images a_from a_begin a_motor a_change a_startFrame a_changeFrame a_lostAt a_blackAt a_slips a_leftArc a_died a_arcs m_bestSum m_nearest m_nearestTown a_there a_backAt a_sorted a_parts m_seed1 m_darkNow d_r (iv_w hv_m_hasHouse (zle_e rfl) (zle_e rfl)) hp_d_r) dX11_dark_k0.1.2.1.1 mw811 mw812 mw813 mw5 mw814 rfl 11 rfl rfl 0 _ rfl yk_yX11_isMan_1 rfl (Nat.le_of_ble_eq_true rfl) (Nat.le_of_ble_eq_true rfl) (Nat.le_of_ble_eq_true rfl) (Nat.le_of_ble_eq_true rfl) (Nat.le_of_ble_eq_true rfl) rfl rfl (by decide +kernel) rfl (by decide +kernel) (by decide +kernel) ?_
  rintro r_4 w ⟨iv_5, hk_6, rfl⟩
  refine k_ws [(cAI g a_st 44 d_st), (cAI g a_from 8 d_from), (cAI g a_begin 8 d_begin), (cAI g a_motor 8 d_motor), (cAI g a_change 8 d_change), (cAI g a_startFrame 8 d_startFrame), (cAI g a_changeFrame 8 d_changeFrame), (cAI g a_lostAt 8 d_lostAt), (cAI g a_blackAt 8 d_blackAt), (cAI g a_slips 8 d_slips), (cO11_i1r1i10r1i2r5i2r12i3r4i2 h0 m_thrown2_1 a_tape m_taped m_size m_at m_end m_token m_whole m_nameSize m_fault m_place m_trouble2_2 a_letters m_failed m_hasHouse a_r a_fresh a_st a_undone a_kept m_undos m_images a_from a_begin a_motor a_change a_startFrame a_changeFrame a_lostAt a_blackAt a_slips a_leftArc a_died a_arcs m_bestSum m_nearest m_nearestTown a_there a_backAt a_sorted a_parts m_seed1 m_darkNow), (cAI g a_r 311 d_r)] rfl ?_
  refine k_if_ne 18 X dX11_dark_k0.1.2.1.2 (jp_e rfl) (fun h_7 => ?_) (fun h_7 => ?_)
  · skip
    have hc_8 := hk_6.resolve_left h_7
    have iv_9 : IV p0 0 3 := iv_meet (iv_any p0) hc_8 (zle_o rfl) (zle_o rfl)
    have iv_10 : IV r_4 1 1 := iv_neL h_7 iv_5 iq_0_0_0 (zle_e rfl)
    refine k_iload_n X dX11_dark_k0.2.1.2.1 2 rfl ?_
    refine k_iconst (v := 0) X dX11_dark_k0.2.1.2.2 ic_0 ?_
    refine k_ldcw (v := 65536) X dX11_dark_k0.2.2.1.1 mw1420 ?_
    refine k_callSI (n := 3) (As := [.int p1, .int 0, .int 65536]) (st := []) X [] [(cAI g a_st 44 d_st), (cAI g a_from 8 d_from), (cAI g a_begin 8 d_begin), (cAI g a_motor 8 d_motor), (cAI g a_change 8 d_change), (cAI g a_startFrame 8 d_startFrame), (cAI g a_changeFrame 8 d_changeFrame), (cAI g a_lostAt 8 d_lostAt), (cAI g a_blackAt 8 d_blackAt), (cAI g a_slips 8 d_slips), (cO11_i1r1i10r1i2r5i2r12i3r4i2 h0 m_thrown2_1 a_tape m_taped m_size m_at m_end m_token m_whole m_nameSize m_fault m_place m_trouble2_2 a_letters m_failed m_hasHouse a_r a_fresh a_st a_undone a_kept m_undos m_images a_from a_begin a_motor a_change a_startFrame a_changeFrame a_lostAt a_blackAt a_slips a_leftArc a_died a_arcs m_bestSum m_nearest m_nearestTown a_there a_backAt a_sorted a_parts m_seed1 m_darkNow), (cAI g a_r 311 d_r)] [] [0, 1, 2, 3, 4, 5, 6, 7, 8, 9, 10, 11] (m_in l g p1 0 65536) dX11_dark_k0.2.2.1.2 mw482 mw483 mw5 mw484 yk_yX11_in_3 rfl (Nat.le_of_ble_eq_true rfl) (Nat.le_of_ble_eq_true rfl) (Nat.le_of_ble_eq_true rfl) (Nat.le_of_ble_eq_true rfl) (Nat.le_of_ble_eq_true rfl) rfl rfl (by decide +kernel) rfl (by decide +kernel) (by decide +kernel) ?_
    rintro r_11 w ⟨iv_12, hk_13, hk_14, rfl⟩
    refine k_ws [(cAI g a_st 44 d_st), (cAI g a_from 8 d_from), (cAI g a_begin 8 d_begin), (cAI g a_motor 8 d_motor), (cAI g a_change 8 d_change), (cAI g a_startFrame 8 d_startFrame), (cAI g a_changeFrame 8 d_changeFrame), (cAI g a_lostAt 8 d_lostAt), (cAI g a_blackAt 8 d_blackAt), (cAI g a_slips 8 d_slips), (cO11_i1r1i10r1i2r5i2r12i3r4i2 h0 m_thrown2_1 a_tape m_taped m_size m_at m_end m_token m_whole m_nameSize m_fault m_place m_trouble2_2 a_letters m_failed m_hasHouse a_r a_fresh a_st a_undone a_kept m_undos m_images a_from a_begin a_motor a_change a_startFrame a_changeFrame a_lostAt a_blackAt a_slips a_leftArc a_died a_arcs m_bestSum m_nearest m_nearestTown a_there a_backAt a_sorted a_parts m_seed1 m_darkNow), (cAI g a_r 311 d_r)] rfl ?_
    refine k_if_ne 35 X dX11_dark_k0.2.2.2.1 (jp_e rfl) (fun h_15 => ?_) (fun h_15 => ?_)
    · skip
      have hc_16 := hk_13.resolve_left h_15
      have j_17 : 0 ≤ p1.toInt := hc_16.1
      have iv_18 : IV p1 0 2147483647 := iv_leR hc_16.1 iq_0_0_0 (iv_any p1) (zle_e rfl)
      have j_19 : p1.toInt ≤ 65536 := hc_16.2
      have iv_20 : IV p1 0 65536 := iv_leL hc_16.2 iv_18 iq_65536_65536_65536 (zle_e rfl)
      have iv_21 : IV r_11 1 1 := iv_neL h_15 iv_12 iq_0_0_0 (zle_e rfl)
      refine k_aload_n X dX11_dark_k1.1.1.2.2 0 rfl ?_
      refine k_iload_n X dX11_dark_k1.1.2.1.1 2 rfl ?_
      refine k_put (ci := 11) [(cAI g a_st 44 d_st), (cAI g a_from 8 d_from), (cAI g a_begin 8 d_begin), (cAI g a_motor 8 d_motor), (cAI g a_change 8 d_change), (cAI g a_startFrame 8 d_startFrame), (cAI g a_changeFrame 8 d_changeFrame), (cAI g a_lostAt 8 d_lostAt), (cAI g a_blackAt 8 d_blackAt), (cAI g a_slips 8 d_slips), (cO11_i1r1i10r1i2r5i2r12i3r4i2 h0 m_thrown2_1 a_tape m_taped m_size m_at m_end m_token m_whole m_nameSize m_fault m_place m_trouble2_2 a_letters m_failed m_hasHouse a_r a_fresh a_st a_undone a_kept m_undos m_images a_from a_begin a_motor a_change a_startFrame a_changeFrame a_lostAt a_blackAt a_slips a_leftArc a_died a_arcs m_bestSum m_nearest m_nearestTown a_there a_backAt a_sorted a_parts p1 m_darkNow), (cAI g a_r 311 d_r)] X inlX11 rfl tyX11_ok nmX11 41 (nlt_e rfl) rfl dX11_dark_k1.1.2.1.2 mw1421 10 rfl rfl rfl (Nat.le_of_ble_eq_true rfl) rfl ?_
      refine k_aload_n X dX11_dark_k1.1.2.2.1 0 rfl ?_
      refine k_iload_n X dX11_dark_k1.1.2.2.2 1 rfl ?_
      refine k_callVV (n := 1) (As := [.int p0]) (st := []) X [(cO11_i1r1i10r1i2r5i2r12i3r4i2 h0 m_thrown2_1 a_tape m_taped m_size m_at m_end m_token m_whole m_nameSize m_fault m_place m_trouble2_2 a_letters m_failed m_hasHouse a_r a_fresh a_st a_undone a_kept m_undos m_images a_from a_begin a_motor a_change a_startFrame a_changeFrame a_lostAt a_blackAt a_slips a_leftArc a_died a_arcs m_bestSum m_nearest m_nearestTown a_there a_backAt a_sorted a_parts p1 m_darkNow), (cAI g a_r 311 d_r), (cAI g a_st 44 d_st), (cAI g a_from 8 d_from), (cAI g a_begin 8 d_begin), (cAI g a_motor 8 d_motor), (cAI g a_change 8 d_change), (cAI g a_startFrame 8 d_startFrame), (cAI g a_changeFrame 8 d_changeFrame), (cAI g a_lostAt 8 d_lostAt), (cAI g a_blackAt 8 d_blackAt), (cAI g a_slips 8 d_slips)] [] [10, 11, 0, 1, 2, 3, 4, 5, 6, 7, 8, 9] [] (m_drawNight l g h0 p0 m_thrown2_1 a_tape m_taped m_size m_at m_end m_token m_whole m_nameSize m_fault m_place m_trouble2_2 a_letters m_failed m_hasHouse a_r a_fresh a_st a_undone a_kept m_undos m_images a_from a_begin a_motor a_change a_startFrame a_changeFrame a_lostAt a_blackAt a_slips a_leftArc a_died a_arcs m_bestSum m_nearest m_nearestTown a_there a_backAt a_sorted a_parts p1 m_darkNow d_r d_st d_from d_begin d_motor d_change d_startFrame d_changeFrame d_lostAt d_blackAt d_slips (iv_w iv_9 (zle_e rfl) (zle_e rfl)) hp_d_r) dX11_dark_k1.2.1.1.1 mw1423 mw1424 mw1425 mw5 mw1426 rfl 11 rfl rfl 0 _ rfl yk_yX11_drawNight_1 rfl (Nat.le_of_ble_eq_true rfl) (Nat.le_of_ble_eq_true rfl) (Nat.le_of_ble_eq_true rfl) (Nat.le_of_ble_eq_true rfl) (Nat.le_of_ble_eq_true rfl) rfl rfl (by decide +kernel) rfl (by decide +kernel) (by decide +kernel) ?_
      intro w zq
      refine exL11 zq ?_
      clear zq
      intro d_begin2_22 d_blackAt2_23 d_change2_24 d_changeFrame2_25 m_darkNow2_26 d_from2_27 d_lostAt2_28 d_motor2_29 m_seed12_30 d_slips2_31 d_startFrame2_32 zq
      subst zq
      refine k_ws [(cO11_i1r1i10r1i2r5i2r12i3r4i2 h0 m_thrown2_1 a_tape m_taped m_size m_at m_end m_token m_whole m_nameSize m_fault m_place m_trouble2_2 a_letters m_failed m_hasHouse a_r a_fresh a_st a_undone a_kept m_undos m_images a_from a_begin a_motor a_change a_startFrame a_changeFrame a_lostAt a_blackAt a_slips a_leftArc a_died a_arcs m_bestSum m_nearest m_nearestTown a_there a_backAt a_sorted a_parts m_seed12_30 m_darkNow2_26), (cAI g a_r 311 d_r), (cAI g a_st 44 d_st), (cAI g a_from 8 d_from2_27), (cAI g a_begin 8 d_begin2_22), (cAI g a_motor 8 d_motor2_29), (cAI g a_change 8 d_change2_24), (cAI g a_startFrame 8 d_startFrame2_32), (cAI g a_changeFrame 8 d_changeFrame2_25), (cAI g a_lostAt 8 d_lostAt2_28), (cAI g a_blackAt 8 d_blackAt2_23), (cAI g a_slips 8 d_slips2_31)] rfl ?_
      refine k_aload_n X dX11_dark_k1.2.1.1.2 0 rfl ?_
      refine k_get (ci := 11) X inlX11 rfl 42 (nlt_e rfl) dX11_dark_k1.2.1.2.1 mw1422 0 rfl rfl ?_
      refine k_aload_n X dX11_dark_k1.2.1.2.2 0 rfl ?_
      refine k_iconst (v := 1) X dX11_dark_k1.2.2.1.1 ic_1 ?_
      refine k_callVI (n := 1) (As := [.int 1]) (st := [.int m_darkNow2_26]) X [(cO11_i1r1i10r1i2r5i2r12i3r4i2 h0 m_thrown2_1 a_tape m_taped m_size m_at m_end m_token m_whole m_nameSize m_fault m_place m_trouble2_2 a_letters m_failed m_hasHouse a_r a_fresh a_st a_undone a_kept m_undos m_images a_from a_begin a_motor a_change a_startFrame a_changeFrame a_lostAt a_blackAt a_slips a_leftArc a_died a_arcs m_bestSum m_nearest m_nearestTown a_there a_backAt a_sorted a_parts m_seed12_30 m_darkNow2_26), (cAI g a_r 311 d_r), (cAI g a_st 44 d_st), (cAI g a_from 8 d_from2_27), (cAI g a_changeFrame 8 d_changeFrame2_25), (cAI g a_lostAt 8 d_lostAt2_28), (cAI g a_blackAt 8 d_blackAt2_23)] [(cAI g a_begin 8 d_begin2_22), (cAI g a_motor 8 d_motor2_29), (cAI g a_change 8 d_change2_24), (cAI g a_startFrame 8 d_startFrame2_32), (cAI g a_slips 8 d_slips2_31)] [0, 1, 2, 3, 8, 9, 10] [4, 5, 6, 7, 11] (m_sumOf l g h0 1 m_thrown2_1 a_tape m_taped m_size m_at m_end m_token m_whole m_nameSize m_fault m_place m_trouble2_2 a_letters m_failed m_hasHouse a_r a_fresh a_st a_undone a_kept m_undos m_images a_from a_begin a_motor a_change a_startFrame a_changeFrame a_lostAt a_blackAt a_slips a_leftArc a_died a_arcs m_bestSum m_nearest m_nearestTown a_there a_backAt a_sorted a_parts m_seed12_30 m_darkNow2_26 d_r d_st d_from2_27 d_changeFrame2_25 d_lostAt2_28 d_blackAt2_23 hp_d_r) dX11_dark_k1.2.2.1.2 mw921 mw922 mw923 mw5 mw924 rfl 11 rfl rfl 0 _ rfl yk_yX11_sumOf_1 rfl (Nat.le_of_ble_eq_true rfl) (Nat.le_of_ble_eq_true rfl) (Nat.le_of_ble_eq_true rfl) (Nat.le_of_ble_eq_true rfl) (Nat.le_of_ble_eq_true rfl) rfl rfl (by decide +kernel) rfl (by decide +kernel) (by decide +kernel) ?_
      rintro r_34 w rfl
      refine k_ws [(cAI g a_begin 8 d_begin2_22), (cAI g a_motor 8 d_motor2_29), (cAI g a_change 8 d_change2_24), (cAI g a_startFrame 8 d_startFrame2_32), (cAI g a_slips 8 d_slips2_31), (cO11_i1r1i10r1i2r5i2r12i3r4i2 h0 m_thrown2_1 a_tape m_taped m_size m_at m_end m_token m_whole m_nameSize m_fault m_place m_trouble2_2 a_letters m_failed m_hasHouse a_r a_fresh a_st a_undone a_kept m_undos m_images a_from a_begin a_motor a_change a_startFrame a_changeFrame a_lostAt a_blackAt a_slips a_leftArc a_died a_arcs m_bestSum m_nearest m_nearestTown a_there a_backAt a_sorted a_parts m_seed12_30 m_darkNow2_26), (cAI g a_r 311 d_r), (cAI g a_st 44 d_st), (cAI g a_from 8 d_from2_27), (cAI g a_changeFrame 8 d_changeFrame2_25), (cAI g a_lostAt 8 d_lostAt2_28), (cAI g a_blackAt 8 d_blackAt2_23)] rfl ?_
      refine k_iadd X dX11_dark_k1.2.2.2.1 ?_
      refine k_nm (fun z_35 ez_35 => ?_)
      exact k_iret X hr dX11_dark_k1.2.2.2.2 (Nat.le_of_ble_eq_true rfl) (Nat.le_of_ble_eq_true rfl) [5, 6, 7, 8, 0, 1, 2, 3, 9, 10, 11, 4] (vnd_e rfl) rfl rfl (exI12 d_begin2_22 d_blackAt2_23 d_change2_24 d_changeFrame2_25 m_darkNow2_26 d_from2_27 d_lostAt2_28 d_motor2_29 m_seed12_30 d_slips2_31 d_startFrame2_32 m_thrown2_1 (exI1 m_trouble2_2 rfl))
    · skip
      have iv_37 : IV r_11 0 0 := iv_meet iv_12 (iv_e h_15 iq_0_0_0) (zle_o rfl) (zle_o rfl)
      have hc_38 := hk_14 (iv_eq iv_37 iq_0_0_0)
      have j_39 : p1.toInt < 0 ∨ 65536 < p1.toInt := hc_38
      refine k_aload_n X dX11_dark_k0.2.2.2.2 0 rfl ?_
      refine k_iconst (v := 2) X dX11_dark_k1.1.1.1.1 ic_2 ?_
      refine k_callVI (n := 1) (As := [.int 2]) (st := []) X [(cO11_i1r1i10r1i2r5i2r12i3r4i2 h0 m_thrown2_1 a_tape m_taped m_size m_at m_end m_token m_whole m_nameSize m_fault m_place m_trouble2_2 a_letters m_failed m_hasHouse a_r a_fresh a_st a_undone a_kept m_undos m_images a_from a_begin a_motor a_change a_startFrame a_changeFrame a_lostAt a_blackAt a_slips a_leftArc a_died a_arcs m_bestSum m_nearest m_nearestTown a_there a_backAt a_sorted a_parts m_seed1 m_darkNow)] [(cAI g a_st 44 d_st), (cAI g a_from 8 d_from), (cAI g a_begin 8 d_begin), (cAI g a_motor 8 d_motor), (cAI g a_change 8 d_change), (cAI g a_startFrame 8 d_startFrame), (cAI g a_changeFrame 8 d_changeFrame), (cAI g a_lostAt 8 d_lostAt), (cAI g a_blackAt 8 d_blackAt), (cAI g a_slips 8 d_slips), (cAI g a_r 311 d_r)] [10] [0, 1, 2, 3, 4, 5, 6, 7, 8, 9, 11] (m_no l g h0 2 m_thrown2_1 a_tape m_taped m_size m_at m_end m_token m_whole m_nameSize m_fault m_place m_trouble2_2 a_letters m_failed m_hasHouse a_r a_fresh a_st a_undone a_kept m_undos m_images a_from a_begin a_motor a_change a_startFrame a_changeFrame a_lostAt a_blackAt a_slips a_leftArc a_died a_arcs m_bestSum m_nearest m_nearestTown a_there a_backAt a_sorted a_parts m_seed1 m_darkNow) dX11_dark_k1.1.1.1.2 mw485 mw486 mw487 mw5 mw488 rfl 11 rfl rfl 0 _ rfl yk_yX11_no_1 rfl (Nat.le_of_ble_eq_true rfl) (Nat.le_of_ble_eq_true rfl) (Nat.le_of_ble_eq_true rfl) (Nat.le_of_ble_eq_true rfl) (Nat.le_of_ble_eq_true rfl) rfl rfl (by decide +kernel) rfl (by decide +kernel) (by decide +kernel) ?_
      rintro r_41 w ⟨m_trouble2_40, iv_42, rfl⟩
      refine k_ws [(cAI g a_st 44 d_st), (cAI g a_from 8 d_from), (cAI g a_begin 8 d_begin), (cAI g a_motor 8 d_motor), (cAI g a_change 8 d_change), (cAI g a_startFrame 8 d_startFrame), (cAI g a_changeFrame 8 d_changeFrame), (cAI g a_lostAt 8 d_lostAt), (cAI g a_blackAt 8 d_blackAt), (cAI g a_slips 8 d_slips), (cAI g a_r 311 d_r), (cO11_i1r1i10r1i2r5i2r12i3r4i2 h0 m_thrown2_1 a_tape m_taped m_size m_at m_end m_token m_whole m_nameSize m_fault m_place m_trouble2_40 a_letters m_failed m_hasHouse a_r a_fresh a_st a_undone a_kept m_undos m_images a_from a_begin a_motor a_change a_startFrame a_changeFrame a_lostAt a_blackAt a_slips a_leftArc a_died a_arcs m_bestSum m_nearest m_nearestTown a_there a_backAt a_sorted a_parts m_seed1 m_darkNow)] rfl ?_
      exact k_iret X hr dX11_dark_k1.1.1.2.1 (Nat.le_of_ble_eq_true rfl) (Nat.le_of_ble_eq_true rfl) [11, 10, 0, 1, 2, 3, 4, 5, 6, 7, 8, 9] (vnd_e rfl) rfl rfl (exI12 d_begin d_blackAt d_change d_changeFrame m_darkNow d_from d_lostAt d_motor m_seed1 d_slips d_startFrame m_thrown2_1 (exI1 m_trouble2_40 rfl))
  · skip
    have iv_43 : IV r_4 0 0 := iv_meet iv_5 (iv_e h_7 iq_0_0_0) (zle_o rfl) (zle_o rfl)
    refine k_aload_n X dX11_dark_k0.1.2.2.1 0 rfl ?_
    refine k_iconst (v := 1) X dX11_dark_k0.1.2.2.2 ic_1 ?_
    refine k_callVI (n := 1) (As := [.int 1]) (st := []) X [(cO11_i1r1i10r1i2r5i2r12i3r4i2 h0 m_thrown2_1 a_tape m_taped m_size m_at m_end m_token m_whole m_nameSize m_fault m_place m_trouble2_2 a_letters m_failed m_hasHouse a_r a_fresh a_st a_undone a_kept m_undos m_images a_from a_begin a_motor a_change a_startFrame a_changeFrame a_lostAt a_blackAt a_slips a_leftArc a_died a_arcs m_bestSum m_nearest m_nearestTown a_there a_backAt a_sorted a_parts m_seed1 m_darkNow)] [(cAI g a_st 44 d_st), (cAI g a_from 8 d_from), (cAI g a_begin 8 d_begin), (cAI g a_motor 8 d_motor), (cAI g a_change 8 d_change), (cAI g a_startFrame 8 d_startFrame), (cAI g a_changeFrame 8 d_changeFrame), (cAI g a_lostAt 8 d_lostAt), (cAI g a_blackAt 8 d_blackAt), (cAI g a_slips 8 d_slips), (cAI g a_r 311 d_r)] [10] [0, 1, 2, 3, 4, 5, 6, 7, 8, 9, 11] (m_no l g h0 1 m_thrown2_1 a_tape m_taped m_size m_at m_end m_token m_whole m_nameSize m_fault m_place m_trouble2_2 a_letters m_failed m_hasHouse a_r a_fresh a_st a_undone a_kept m_undos m_images a_from a_begin a_motor a_change a_startFrame a_changeFrame a_lostAt a_blackAt a_slips a_leftArc a_died a_arcs m_bestSum m_nearest m_nearestTown a_there a_backAt a_sorted a_parts m_seed1 m_darkNow) dX11_dark_k0.2.1.1.1 mw485 mw486 mw487 mw5 mw488 rfl 11 rfl rfl 0 _ rfl yk_yX11_no_1 rfl (Nat.le_of_ble_eq_true rfl) (Nat.le_of_ble_eq_true rfl) (Nat.le_of_ble_eq_true rfl) (Nat.le_of_ble_eq_true rfl) (Nat.le_of_ble_eq_true rfl) rfl rfl (by decide +kernel) rfl (by decide +kernel) (by decide +kernel) ?_
    rintro r_45 w ⟨m_trouble2_44, iv_46, rfl⟩
    refine k_ws [(cAI g a_st 44 d_st), (cAI g a_from 8 d_from), (cAI g a_begin 8 d_begin), (cAI g a_motor 8 d_motor), (cAI g a_change 8 d_change), (cAI g a_startFrame 8 d_startFrame), (cAI g a_changeFrame 8 d_changeFrame), (cAI g a_lostAt 8 d_lostAt), (cAI g a_blackAt 8 d_blackAt), (cAI g a_slips 8 d_slips), (cAI g a_r 311 d_r), (cO11_i1r1i10r1i2r5i2r12i3r4i2 h0 m_thrown2_1 a_tape m_taped m_size m_at m_end m_token m_whole m_nameSize m_fault m_place m_trouble2_44 a_letters m_failed m_hasHouse a_r a_fresh a_st a_undone a_kept m_undos m_images a_from a_begin a_motor a_change a_startFrame a_changeFrame a_lostAt a_blackAt a_slips a_leftArc a_died a_arcs m_bestSum m_nearest m_nearestTown a_there a_backAt a_sorted a_parts m_seed1 m_darkNow)] rfl ?_
    exact k_iret X hr dX11_dark_k0.2.1.1.2 (Nat.le_of_ble_eq_true rfl) (Nat.le_of_ble_eq_true rfl) [11, 10, 0, 1, 2, 3, 4, 5, 6, 7, 8, 9] (vnd_e rfl) rfl rfl (exI12 d_begin d_blackAt d_change d_changeFrame m_darkNow d_from d_lostAt d_motor m_seed1 d_slips d_startFrame m_thrown2_1 (exI1 m_trouble2_44 rfl))

theorem dX11_bestMan_k0 : ((((dD cX11_bestMan 0 (.aload_n 0) 1 ∧ dD cX11_bestMan 1 (.invokevirtual 200) 3) ∧ (dD cX11_bestMan 4 (.aload_n 0) 1 ∧ dD cX11_bestMan 5 (.getfield 213) 3)) ∧ ((dD cX11_bestMan 8 (.ifCond .ne 9) 3 ∧ dD cX11_bestMan 11 (.aload_n 0) 1) ∧ (dD cX11_bestMan 12 (.iconst 1) 1 ∧ dD cX11_bestMan 13 (.invokevirtual 203) 3))) ∧ (((dD cX11_bestMan 16 .ireturn 1 ∧ dD cX11_bestMan 17 (.iload_n 1) 1) ∧ (dD cX11_bestMan 18 (.iconst 0) 1 ∧ dD cX11_bestMan 19 (.ldc_w 468) 3)) ∧ ((dD cX11_bestMan 22 (.invokestatic 182) 3 ∧ dD cX11_bestMan 25 (.ifCond .eq 13) 3) ∧ (dD cX11_bestMan 28 (.iload_n 2) 1 ∧ dD cX11_bestMan 29 (.iconst 1) 1)))) := dkA16 (by decide +kernel)
theorem dX11_bestMan_k1 : ((((dD cX11_bestMan 30 (.bipush 20) 2 ∧ dD cX11_bestMan 32 (.invokestatic 182) 3) ∧ (dD cX11_bestMan 35 (.ifCond .ne 9) 3 ∧ dD cX11_bestMan 38 (.aload_n 0) 1)) ∧ ((dD cX11_bestMan 39 (.iconst 2) 1 ∧ dD cX11_bestMan 40 (.invokevirtual 203) 3) ∧ (dD cX11_bestMan 43 .ireturn 1 ∧ dD cX11_bestMan 44 (.iconst (-1)) 1))) ∧ (((dD cX11_bestMan 45 (.istore_n 3) 1 ∧ dD cX11_bestMan 46 (.ldc_w 472) 3) ∧ (dD cX11_bestMan 49 (.istore 4) 2 ∧ dD cX11_bestMan 51 (.iconst 0) 1)) ∧ ((dD cX11_bestMan 52 (.istore 5) 2 ∧ dD cX11_bestMan 54 (.iload 5) 2) ∧ (dD cX11_bestMan 56 (.aload_n 0) 1 ∧ dD cX11_bestMan 57 (.getfield 20) 3)))) := dkA16 (by decide +kernel)
theorem dX11_bestMan_k2 : ((((dD cX11_bestMan 60 (.bipush 11) 2 ∧ dD cX11_bestMan 62 .iaload 1) ∧ (dD cX11_bestMan 63 (.if_icmp .ge 82) 3 ∧ dD cX11_bestMan 66 (.aload_n 0) 1)) ∧ ((dD cX11_bestMan 67 (.iload_n 1) 1 ∧ dD cX11_bestMan 68 (.putfield 458) 3) ∧ (dD cX11_bestMan 71 (.iconst 0) 1 ∧ dD cX11_bestMan 72 (.istore 6) 2))) ∧ (((dD cX11_bestMan 74 (.iconst 0) 1 ∧ dD cX11_bestMan 75 (.istore 7) 2) ∧ (dD cX11_bestMan 77 (.iload 7) 2 ∧ dD cX11_bestMan 79 (.iload_n 2) 1)) ∧ ((dD cX11_bestMan 80 (.if_icmp .ge 42) 3 ∧ dD cX11_bestMan 83 (.aload_n 0) 1) ∧ (dD cX11_bestMan 84 (.iload 5) 2 ∧ dD cX11_bestMan 86 (.invokevirtual 469) 3)))) := dkA16 (by decide +kernel)
theorem dX11_bestMan_k3 : ((((dD cX11_bestMan 89 (.iload 6) 2 ∧ dD cX11_bestMan 91 (.aload_n 0) 1) ∧ (dD cX11_bestMan 92 (.getfield 462) 3 ∧ dD cX11_bestMan 95 (.aload_n 0) 1)) ∧ ((dD cX11_bestMan 96 (.iconst 0) 1 ∧ dD cX11_bestMan 97 (.invokevirtual 382) 3) ∧ (dD cX11_bestMan 100 .iadd 1 ∧ dD cX11_bestMan 101 (.aload_n 0) 1))) ∧ (((dD cX11_bestMan 102 (.iconst 1) 1 ∧ dD cX11_bestMan 103 (.invokevirtual 382) 3) ∧ (dD cX11_bestMan 106 .iadd 1 ∧ dD cX11_bestMan 107 (.aload_n 0) 1)) ∧ ((dD cX11_bestMan 108 (.iconst 2) 1 ∧ dD cX11_bestMan 109 (.invokevirtual 382) 3) ∧ (dD cX11_bestMan 112 .iadd 1 ∧ dD cX11_bestMan 113 .iadd 1)))) := dkA16 (by decide +kernel)
theorem dX11_bestMan_k4 : (((dD cX11_bestMan 114 (.istore 6) 2 ∧ (dD cX11_bestMan 116 (.iinc 7 1) 3 ∧ dD cX11_bestMan 119 (.goto (-42)) 3)) ∧ ((dD cX11_bestMan 122 (.iload 6) 2 ∧ dD cX11_bestMan 124 (.iload 4) 2) ∧ (dD cX11_bestMan 126 (.if_icmp .lt 6) 3 ∧ dD cX11_bestMan 129 (.goto 10) 3))) ∧ (((dD cX11_bestMan 132 (.iload 5) 2 ∧ dD cX11_bestMan 134 (.istore_n 3) 1) ∧ (dD cX11_bestMan 135 (.iload 6) 2 ∧ dD cX11_bestMan 137 (.istore 4) 2)) ∧ ((dD cX11_bestMan 139 (.iinc 5 1) 3 ∧ dD cX11_bestMan 142 (.goto (-88)) 3) ∧ (dD cX11_bestMan 145 (.iload_n 3) 1 ∧ dD cX11_bestMan 146 .ireturn 1)))) := dkA15 (by decide +kernel)
set_option maxHeartbeats 4000000 in
set_option maxRecDepth 100000 in
theorem m_bestMan (l : Launch) (g : Gx) (h0 : Nat) (p0 : Int32) (p1 : Int32) (m_thrown : Int32) (a_tape : Nat) (m_taped : Int32) (m_size : Int32) (m_at : Int32) (m_end : Int32) (m_token : Int32) (m_whole : Int32) (m_nameSize : Int32) (m_fault : Int32) (m_place : Int32) (m_trouble : Int32) (a_letters : Nat) (m_failed : Int32) (m_hasHouse : Int32) (a_r : Nat) (a_fresh : Nat) (a_st : Nat) (a_undone : Nat) (a_kept : Nat) (m_undos : Int32) (m_images : Int32) (a_from : Nat) (a_begin : Nat) (a_motor : Nat) (a_change : Nat) (a_startFrame : Nat) (a_changeFrame : Nat) (a_lostAt : Nat) (a_blackAt : Nat) (a_slips : Nat) (a_leftArc : Nat) (a_died : Nat) (a_arcs : Nat) (m_bestSum : Int32) (m_nearest : Int32) (m_nearestTown : Int32) (a_there : Nat) (a_backAt : Nat) (a_sorted : Nat) (a_parts : Nat) (m_seed1 : Int32) (m_darkNow : Int32) (d_r : Nat → Int32) (d_st : Nat → Int32) (d_from : Nat → Int32) (d_begin : Nat → Int32) (d_motor : Nat → Int32) (d_change : Nat → Int32) (d_startFrame : Nat → Int32) (d_changeFrame : Nat → Int32) (d_lostAt : Nat → Int32) (d_blackAt : Nat → Int32) (d_slips : Nat → Int32) (hv_m_hasHouse : IV m_hasHouse 0 1) (hp_d_r : RInv d_r) : cI l g yX11_bestMan cX11_bestMan 8 (some .int) 5 112 0 0 [.ref h0, .int p0, .int p1] [(cO11_i1r1i10r1i2r5i2r12i3r4i2 h0 m_thrown a_tape m_taped m_size m_at m_end m_token m_whole m_nameSize m_fault m_place m_trouble a_letters m_failed m_hasHouse a_r a_fresh a_st a_undone a_kept m_undos m_images a_from a_begin a_motor a_change a_startFrame a_changeFrame a_lostAt a_blackAt a_slips a_leftArc a_died a_arcs m_bestSum m_nearest m_nearestTown a_there a_backAt a_sorted a_parts m_seed1 m_darkNow), (cAI g a_r 311 d_r), (cAI g a_st 44 d_st), (cAI g a_from 8 d_from), (cAI g a_begin 8 d_begin), (cAI g a_motor 8 d_motor), (cAI g a_change 8 d_change), (cAI g a_startFrame 8 d_startFrame), (cAI g a_changeFrame 8 d_changeFrame), (cAI g a_lostAt 8 d_lostAt), (cAI g a_blackAt 8 d_blackAt), (cAI g a_slips 8 d_slips)] (fun r w => ∃ (d_begin2 : Nat → Int32) (d_blackAt2 : Nat → Int32) (d_change2 : Nat → Int32) (d_changeFrame2 : Nat → Int32) (m_darkNow2 : Int32) (d_from2 : Nat → Int32) (d_lostAt2 : Nat → Int32) (d_motor2 : Nat → Int32) (m_seed12 : Int32) (d_slips2 : Nat → Int32) (d_startFrame2 : Nat → Int32) (m_thrown2 : Int32) (m_trouble2 : Int32), w = [(cO11_i1r1i10r1i2r5i2r12i3r4i2 h0 m_thrown2 a_tape m_taped m_size m_at m_end m_token m_whole m_nameSize m_fault m_place m_trouble2 a_letters m_failed m_hasHouse a_r a_fresh a_st a_undone a_kept m_undos m_images a_from a_begin a_motor a_change a_startFrame a_changeFrame a_lostAt a_blackAt a_slips a_leftArc a_died a_arcs m_bestSum m_nearest m_nearestTown a_there a_backAt a_sorted a_parts m_seed12 m_darkNow2), (cAI g a_r 311 d_r), (cAI g a_st 44 d_st), (cAI g a_from 8 d_from2), (cAI g a_begin 8 d_begin2), (cAI g a_motor 8 d_motor2), (cAI g a_change 8 d_change2), (cAI g a_startFrame 8 d_startFrame2), (cAI g a_changeFrame 8 d_changeFrame2), (cAI g a_lostAt 8 d_lostAt2), (cAI g a_blackAt 8 d_blackAt2), (cAI g a_slips 8 d_slips2)]) := by
  refine cI.of (by decide) (Nat.le_of_ble_eq_true rfl) ?_
  intro p e s m args below meth c A X hr hi
  refine k_lveq [(0, .ref h0), (1, .int p0), (2, .int p1)] rfl ?_
  refine k_aload_n X dX11_bestMan_k0.1.1.1.1 0 rfl ?_
  refine k_callVV (n := 0) (As := []) (st := []) X [(cO11_i1r1i10r1i2r5i2r12i3r4i2 h0 m_thrown a_tape m_taped m_size m_at m_end m_token m_whole m_nameSize m_fault m_place m_trouble a_letters m_failed m_hasHouse a_r a_fresh a_st a_undone a_kept m_undos m_images a_from a_begin a_motor a_change a_startFrame a_changeFrame a_lostAt a_blackAt a_slips a_leftArc a_died a_arcs m_bestSum m_nearest m_nearestTown a_there a_backAt a_sorted a_parts m_seed1 m_darkNow)] [(cAI g a_r 311 d_r), (cAI g a_st 44 d_st), (cAI g a_from 8 d_from), (cAI g a_begin 8 d_begin), (cAI g a_motor 8 d_motor), (cAI g a_change 8 d_change), (cAI g a_startFrame 8 d_startFrame), (cAI g a_changeFrame 8 d_changeFrame), (cAI g a_lostAt 8 d_lostAt), (cAI g a_blackAt 8 d_blackAt), (cAI g a_slips 8 d_slips)] [0] [1, 2, 3, 4, 5, 6, 7, 8, 9, 10, 11] (m_good l g h0 m_thrown a_tape m_taped m_size m_at m_end m_token m_whole m_nameSize m_fault m_place m_trouble a_letters m_failed m_hasHouse a_r a_fresh a_st a_undone a_kept m_undos m_images a_from a_begin a_motor a_change a_startFrame a_changeFrame a_lostAt a_blackAt a_slips a_leftArc a_died a_arcs m_bestSum m_nearest m_nearestTown a_there a_backAt a_sorted a_parts m_seed1 m_darkNow) dX11_bestMan_k0.1.1.1.2 mw477 mw478 mw479 mw5 mw480 rfl 11 rfl rfl 0 _ rfl yk_yX11_good_0 rfl (Nat.le_of_ble_eq_true rfl) (Nat.le_of_ble_eq_true rfl) (Nat.le_of_ble_eq_true rfl) (Nat.le_of_ble_eq_true rfl) (Nat.le_of_ble_eq_true rfl) rfl rfl (by decide +kernel) rfl (by decide +kernel) (by decide +kernel) ?_
  rintro w ⟨m_thrown2_1, m_trouble2_2, rfl⟩
  refine k_ws [(cAI g a_r 311 d_r), (cAI g a_st 44 d_st), (cAI g a_from 8 d_from), (cAI g a_begin 8 d_begin), (cAI g a_motor 8 d_motor), (cAI g a_change 8 d_change), (cAI g a_startFrame 8 d_startFrame), (cAI g a_changeFrame 8 d_changeFrame), (cAI g a_lostAt 8 d_lostAt), (cAI g a_blackAt 8 d_blackAt), (cAI g a_slips 8 d_slips), (cO11_i1r1i10r1i2r5i2r12i3r4i2 h0 m_thrown2_1 a_tape m_taped m_size m_at m_end m_token m_whole m_nameSize m_fault m_place m_trouble2_2 a_letters m_failed m_hasHouse a_r a_fresh a_st a_undone a_kept m_undos m_images a_from a_begin a_motor a_change a_startFrame a_changeFrame a_lostAt a_blackAt a_slips a_leftArc a_died a_arcs m_bestSum m_nearest m_nearestTown a_there a_backAt a_sorted a_parts m_seed1 m_darkNow)] rfl ?_
  refine k_aload_n X dX11_bestMan_k0.1.1.2.1 0 rfl ?_
  refine k_get (ci := 11) X inlX11 rfl 14 (nlt_e rfl) dX11_bestMan_k0.1.1.2.2 mw474 11 rfl rfl ?_
  refine k_if_ne 17 X dX11_bestMan_k0.1.2.1.1 (jp_e rfl) (fun h_4 => ?_) (fun h_4 => ?_)
  · skip
    have iv_5 : IV m_hasHouse 1 1 := iv_neL h_4 hv_m_hasHouse iq_0_0_0 (zle_e rfl)
    refine k_iload_n X dX11_bestMan_k0.2.1.1.2 1 rfl ?_
    refine k_iconst (v := 0) X dX11_bestMan_k0.2.1.2.1 ic_0 ?_
    refine k_ldcw (v := 65536) X dX11_bestMan_k0.2.1.2.2 mw1420 ?_
    refine k_callSI (n := 3) (As := [.int p0, .int 0, .int 65536]) (st := []) X [] [(cAI g a_r 311 d_r), (cAI g a_st 44 d_st), (cAI g a_from 8 d_from), (cAI g a_begin 8 d_begin), (cAI g a_motor 8 d_motor), (cAI g a_change 8 d_change), (cAI g a_startFrame 8 d_startFrame), (cAI g a_changeFrame 8 d_changeFrame), (cAI g a_lostAt 8 d_lostAt), (cAI g a_blackAt 8 d_blackAt), (cAI g a_slips 8 d_slips), (cO11_i1r1i10r1i2r5i2r12i3r4i2 h0 m_thrown2_1 a_tape m_taped m_size m_at m_end m_token m_whole m_nameSize m_fault m_place m_trouble2_2 a_letters m_failed m_hasHouse a_r a_fresh a_st a_undone a_kept m_undos m_images a_from a_begin a_motor a_change a_startFrame a_changeFrame a_lostAt a_blackAt a_slips a_leftArc a_died a_arcs m_bestSum m_nearest m_nearestTown a_there a_backAt a_sorted a_parts m_seed1 m_darkNow)] [] [0, 1, 2, 3, 4, 5, 6, 7, 8, 9, 10, 11] (m_in l g p0 0 65536) dX11_bestMan_k0.2.2.1.1 mw482 mw483 mw5 mw484 yk_yX11_in_3 rfl (Nat.le_of_ble_eq_true rfl) (Nat.le_of_ble_eq_true rfl) (Nat.le_of_ble_eq_true rfl) (Nat.le_of_ble_eq_true rfl) (Nat.le_of_ble_eq_true rfl) rfl rfl (by decide +kernel) rfl (by decide +kernel) (by decide +kernel) ?_
    rintro r_6 w ⟨iv_7, hk_8, hk_9, rfl⟩
    refine k_ws [(cAI g a_r 311 d_r), (cAI g a_st 44 d_st), (cAI g a_from 8 d_from), (cAI g a_begin 8 d_begin), (cAI g a_motor 8 d_motor), (cAI g a_change 8 d_change), (cAI g a_startFrame 8 d_startFrame), (cAI g a_changeFrame 8 d_changeFrame), (cAI g a_lostAt 8 d_lostAt), (cAI g a_blackAt 8 d_blackAt), (cAI g a_slips 8 d_slips), (cO11_i1r1i10r1i2r5i2r12i3r4i2 h0 m_thrown2_1 a_tape m_taped m_size m_at m_end m_token m_whole m_nameSize m_fault m_place m_trouble2_2 a_letters m_failed m_hasHouse a_r a_fresh a_st a_undone a_kept m_undos m_images a_from a_begin a_motor a_change a_startFrame a_changeFrame a_lostAt a_blackAt a_slips a_leftArc a_died a_arcs m_bestSum m_nearest m_nearestTown a_there a_backAt a_sorted a_parts m_seed1 m_darkNow)] rfl ?_
    refine k_if_eq 38 X dX11_bestMan_k0.2.2.1.2 (jp_e rfl) (fun h_10 => ?_) (fun h_10 => ?_)
    · skip
      have iv_11 : IV r_6 0 0 := iv_meet iv_7 (iv_e h_10 iq_0_0_0) (zle_o rfl) (zle_o rfl)
      have hc_12 := hk_9 (iv_eq iv_11 iq_0_0_0)
      have j_13 : p0.toInt < 0 ∨ 65536 < p0.toInt := hc_12
      refine k_aload_n X dX11_bestMan_k1.1.1.2.2 0 rfl ?_
      refine k_iconst (v := 2) X dX11_bestMan_k1.1.2.1.1 ic_2 ?_
      refine k_callVI (n := 1) (As := [.int 2]) (st := []) X [(cO11_i1r1i10r1i2r5i2r12i3r4i2 h0 m_thrown2_1 a_tape m_taped m_size m_at m_end m_token m_whole m_nameSize m_fault m_place m_trouble2_2 a_letters m_failed m_hasHouse a_r a_fresh a_st a_undone a_kept m_undos m_images a_from a_begin a_motor a_change a_startFrame a_changeFrame a_lostAt a_blackAt a_slips a_leftArc a_died a_arcs m_bestSum m_nearest m_nearestTown a_there a_backAt a_sorted a_parts m_seed1 m_darkNow)] [(cAI g a_r 311 d_r), (cAI g a_st 44 d_st), (cAI g a_from 8 d_from), (cAI g a_begin 8 d_begin), (cAI g a_motor 8 d_motor), (cAI g a_change 8 d_change), (cAI g a_startFrame 8 d_startFrame), (cAI g a_changeFrame 8 d_changeFrame), (cAI g a_lostAt 8 d_lostAt), (cAI g a_blackAt 8 d_blackAt), (cAI g a_slips 8 d_slips)] [11] [0, 1, 2, 3, 4, 5, 6, 7, 8, 9, 10] (m_no l g h0 2 m_thrown2_1 a_tape m_taped m_size m_at m_end m_token m_whole m_nameSize m_fault m_place m_trouble2_2 a_letters m_failed m_hasHouse a_r a_fresh a_st a_undone a_kept m_undos m_images a_from a_begin a_motor a_change a_startFrame a_changeFrame a_lostAt a_blackAt a_slips a_leftArc a_died a_arcs m_bestSum m_nearest m_nearestTown a_there a_backAt a_sorted a_parts m_seed1 m_darkNow) dX11_bestMan_k1.1.2.1.2 mw485 mw486 mw487 mw5 mw488 rfl 11 rfl rfl 0 _ rfl yk_yX11_no_1 rfl (Nat.le_of_ble_eq_true rfl) (Nat.le_of_ble_eq_true rfl) (Nat.le_of_ble_eq_true rfl) (Nat.le_of_ble_eq_true rfl) (Nat.le_of_ble_eq_true rfl) rfl rfl (by decide +kernel) rfl (by decide +kernel) (by decide +kernel) ?_
      rintro r_15 w ⟨m_trouble2_14, iv_16, rfl⟩
      refine k_ws [(cAI g a_r 311 d_r), (cAI g a_st 44 d_st), (cAI g a_from 8 d_from), (cAI g a_begin 8 d_begin), (cAI g a_motor 8 d_motor), (cAI g a_change 8 d_change), (cAI g a_startFrame 8 d_startFrame), (cAI g a_changeFrame 8 d_changeFrame), (cAI g a_lostAt 8 d_lostAt), (cAI g a_blackAt 8 d_blackAt), (cAI g a_slips 8 d_slips), (cO11_i1r1i10r1i2r5i2r12i3r4i2 h0 m_thrown2_1 a_tape m_taped m_size m_at m_end m_token m_whole m_nameSize m_fault m_place m_trouble2_14 a_letters m_failed m_hasHouse a_r a_fresh a_st a_undone a_kept m_undos m_images a_from a_begin a_motor a_change a_startFrame a_changeFrame a_lostAt a_blackAt a_slips a_leftArc a_died a_arcs m_bestSum m_nearest m_nearestTown a_there a_backAt a_sorted a_parts m_seed1 m_darkNow)] rfl ?_
      exact k_iret X hr dX11_bestMan_k1.1.2.2.1 (Nat.le_of_ble_eq_true rfl) (Nat.le_of_ble_eq_true rfl) [11, 0, 1, 2, 3, 4, 5, 6, 7, 8, 9, 10] (vnd_e rfl) rfl rfl (exI12 d_begin d_blackAt d_change d_changeFrame m_darkNow d_from d_lostAt d_motor m_seed1 d_slips d_startFrame m_thrown2_1 (exI1 m_trouble2_14 rfl))
    · skip
      have hc_17 := hk_8.resolve_left h_10
      have j_18 : 0 ≤ p0.toInt := hc_17.1
      have iv_19 : IV p0 0 2147483647 := iv_leR hc_17.1 iq_0_0_0 (iv_any p0) (zle_e rfl)
      have j_20 : p0.toInt ≤ 65536 := hc_17.2
      have iv_21 : IV p0 0 65536 := iv_leL hc_17.2 iv_19 iq_65536_65536_65536 (zle_e rfl)
      have iv_22 : IV r_6 1 1 := iv_neL h_10 iv_7 iq_0_0_0 (zle_e rfl)
      refine k_iload_n X dX11_bestMan_k0.2.2.2.1 2 rfl ?_
      refine k_iconst (v := 1) X dX11_bestMan_k0.2.2.2.2 ic_1 ?_
      refine k_bipush (v := 20) X dX11_bestMan_k1.1.1.1.1 bi_20 ?_
      refine k_callSI (n := 3) (As := [.int p1, .int 1, .int 20]) (st := []) X [] [(cAI g a_r 311 d_r), (cAI g a_st 44 d_st), (cAI g a_from 8 d_from), (cAI g a_begin 8 d_begin), (cAI g a_motor 8 d_motor), (cAI g a_change 8 d_change), (cAI g a_startFrame 8 d_startFrame), (cAI g a_changeFrame 8 d_changeFrame), (cAI g a_lostAt 8 d_lostAt), (cAI g a_blackAt 8 d_blackAt), (cAI g a_slips 8 d_slips), (cO11_i1r1i10r1i2r5i2r12i3r4i2 h0 m_thrown2_1 a_tape m_taped m_size m_at m_end m_token m_whole m_nameSize m_fault m_place m_trouble2_2 a_letters m_failed m_hasHouse a_r a_fresh a_st a_undone a_kept m_undos m_images a_from a_begin a_motor a_change a_startFrame a_changeFrame a_lostAt a_blackAt a_slips a_leftArc a_died a_arcs m_bestSum m_nearest m_nearestTown a_there a_backAt a_sorted a_parts m_seed1 m_darkNow)] [] [0, 1, 2, 3, 4, 5, 6, 7, 8, 9, 10, 11] (m_in l g p1 1 20) dX11_bestMan_k1.1.1.1.2 mw482 mw483 mw5 mw484 yk_yX11_in_3 rfl (Nat.le_of_ble_eq_true rfl) (Nat.le_of_ble_eq_true rfl) (Nat.le_of_ble_eq_true rfl) (Nat.le_of_ble_eq_true rfl) (Nat.le_of_ble_eq_true rfl) rfl rfl (by decide +kernel) rfl (by decide +kernel) (by decide +kernel) ?_
      rintro r_23 w ⟨iv_24, hk_25, hk_26, rfl⟩
      refine k_ws [(cAI g a_r 311 d_r), (cAI g a_st 44 d_st), (cAI g a_from 8 d_from), (cAI g a_begin 8 d_begin), (cAI g a_motor 8 d_motor), (cAI g a_change 8 d_change), (cAI g a_startFrame 8 d_startFrame), (cAI g a_changeFrame 8 d_changeFrame), (cAI g a_lostAt 8 d_lostAt), (cAI g a_blackAt 8 d_blackAt), (cAI g a_slips 8 d_slips), (cO11_i1r1i10r1i2r5i2r12i3r4i2 h0 m_thrown2_1 a_tape m_taped m_size m_at m_end m_token m_whole m_nameSize m_fault m_place m_trouble2_2 a_letters m_failed m_hasHouse a_r a_fresh a_st a_undone a_kept m_undos m_images a_from a_begin a_motor a_change a_startFrame a_changeFrame a_lostAt a_blackAt a_slips a_leftArc a_died a_arcs m_bestSum m_nearest m_nearestTown a_there a_backAt a_sorted a_parts m_seed1 m_darkNow)] rfl ?_
      refine k_if_ne 44 X dX11_bestMan_k1.1.1.2.1 (jp_e rfl) (fun h_27 => ?_) (fun h_27 => ?_)
      · skip
        have hc_28 := hk_25.resolve_left h_27
        have j_29 : 1 ≤ p1.toInt := hc_28.1
        have iv_30 : IV p1 1 2147483647 := iv_leR hc_28.1 iq_1_1_1 (iv_any p1) (zle_e rfl)
        have j_31 : p1.toInt ≤ 20 := hc_28.2
        have iv_32 : IV p1 1 20 := iv_leL hc_28.2 iv_30 iq_20_20_20 (zle_e rfl)
        have iv_33 : IV r_23 1 1 := iv_neL h_27 iv_24 iq_0_0_0 (zle_e rfl)
        refine k_iconst (v := -1) X dX11_bestMan_k1.1.2.2.2 ic_m1 ?_
        refine k_istore_n [(3, .int (-1)), (0, .ref h0), (1, .int p0), (2, .int p1)] X dX11_bestMan_k1.2.1.1.1 (nlt_e rfl) rfl ?_
        refine k_ldcw (v := 100000000) X dX11_bestMan_k1.2.1.1.2 mw1444 ?_
        refine k_istore [(4, .int 100000000), (3, .int (-1)), (0, .ref h0), (1, .int p0), (2, .int p1)] X dX11_bestMan_k1.2.1.2.1 (nlt_e rfl) rfl ?_
        refine k_iconst (v := 0) X dX11_bestMan_k1.2.1.2.2 ic_0 ?_
        refine k_istore [(5, .int 0), (4, .int 100000000), (3, .int (-1)), (0, .ref h0), (1, .int p0), (2, .int p1)] X dX11_bestMan_k1.2.2.1.1 (nlt_e rfl) rfl ?_
        refine (fun hL : ∀ (nn_51 : Nat) (uf_34 : Nat → Int32) (uf_35 : Nat → Int32) (uf_36 : Nat → Int32) (uf_37 : Nat → Int32) (uf_38 : Nat → Int32) (uf_39 : Nat → Int32) (uf_40 : Nat → Int32) (uf_41 : Nat → Int32) (uf_42 : Nat → Int32) (u_43 : Int32) (u_45 : Int32) (u_47 : Int32) (u_49 : Int32) (u_50 : Int32), (2147483647 - u_47.toInt).toNat = nn_51 → (IV u_43 (-1) 3) → (IV u_45 (-2147483648) 100000000) → (IV u_47 0 8) → Wk p l e _ s m args below meth c _ A g _ _ _ [(cAI g a_r 311 d_r), (cAI g a_st 44 d_st), (cAI g a_from 8 uf_38), (cAI g a_begin 8 uf_34), (cAI g a_motor 8 uf_40), (cAI g a_change 8 uf_36), (cAI g a_startFrame 8 uf_42), (cAI g a_changeFrame 8 uf_37), (cAI g a_lostAt 8 uf_39), (cAI g a_blackAt 8 uf_35), (cAI g a_slips 8 uf_41), (cO11_i1r1i10r1i2r5i2r12i3r4i2 h0 m_thrown2_1 a_tape m_taped m_size m_at m_end m_token m_whole m_nameSize m_fault m_place m_trouble2_2 a_letters m_failed m_hasHouse a_r a_fresh a_st a_undone a_kept m_undos m_images a_from a_begin a_motor a_change a_startFrame a_changeFrame a_lostAt a_blackAt a_slips a_leftArc a_died a_arcs m_bestSum m_nearest m_nearestTown a_there a_backAt a_sorted a_parts u_49 u_50)] [(5, .int u_47), (4, .int u_45), (3, .int u_43), (0, .ref h0), (1, .int p0), (2, .int p1)] 54 [] => hL _ d_begin d_blackAt d_change d_changeFrame d_from d_lostAt d_motor d_slips d_startFrame ((-1)) 100000000 0 m_seed1 m_darkNow rfl (iv_w iq_m1_m1_m1 (zle_e rfl) (zle_e rfl)) (iv_w iq_100000000_100000000_100000000 (zle_e rfl) (zle_e rfl)) (iv_w iq_0_0_0 (zle_e rfl) (zle_e rfl))) ?_
        refine fun nn_51 => Nat.strongRecOn nn_51 (fun nn_51 ih_53 => ?_)
        intro uf_34 uf_35 uf_36 uf_37 uf_38 uf_39 uf_40 uf_41 uf_42 u_43 u_45 u_47 u_49 u_50 hm_52 hv_44 hv_46 hv_48
        refine k_iload X dX11_bestMan_k1.2.2.1.2 0 rfl ?_
        refine k_aload_n X dX11_bestMan_k1.2.2.2.1 3 rfl ?_
        refine k_get (ci := 11) X inlX11 rfl 15 (nlt_e rfl) dX11_bestMan_k1.2.2.2.2 mw170 11 rfl rfl ?_
        refine k_bipush (v := 11) X dX11_bestMan_k2.1.1.1.1 bi_11 ?_
        refine k_iald X dX11_bestMan_k2.1.1.1.2 0 rfl (by unfold vp_in; decide) ?_
        refine k_nm (fun z_54 ez_54 => ?_)
        have i_55 : z_54.toInt = (d_r 11).toInt := by rw [ez_54]; rfl
        have iv_56 : IV z_54 0 4 := rb_11 ez_54 hp_d_r
        refine k_ic_ge 145 X dX11_bestMan_k2.1.1.2.1 (jp_e rfl) (fun h_57 => ?_) (fun h_57 => ?_)
        · skip
          have j_58 : z_54.toInt ≤ u_47.toInt := iv_le h_57
          refine k_iload_n X dX11_bestMan_k4.2.2.2.1 2 rfl ?_
          exact k_iret X hr dX11_bestMan_k4.2.2.2.2 (Nat.le_of_ble_eq_true rfl) (Nat.le_of_ble_eq_true rfl) [11, 0, 1, 2, 3, 4, 5, 6, 7, 8, 9, 10] (vnd_e rfl) rfl rfl (exI12 uf_34 uf_35 uf_36 uf_37 u_50 uf_38 uf_39 uf_40 u_49 uf_41 uf_42 m_thrown2_1 (exI1 m_trouble2_2 rfl))
        · skip
          have j_59 : u_47.toInt < z_54.toInt := iv_nle h_57
          have iv_60 : IV u_47 0 3 := iv_ltL (iv_nle h_57) hv_48 iv_56 (zle_e rfl)
          have iv_61 : IV z_54 1 4 := iv_ltR (iv_nle h_57) hv_48 iv_56 (zle_e rfl)
          refine k_aload_n X dX11_bestMan_k2.1.1.2.2 3 rfl ?_
          refine k_iload_n X dX11_bestMan_k2.1.2.1.1 4 rfl ?_
          refine k_put (ci := 11) [(cAI g a_r 311 d_r), (cAI g a_st 44 d_st), (cAI g a_from 8 uf_38), (cAI g a_begin 8 uf_34), (cAI g a_motor 8 uf_40), (cAI g a_change 8 uf_36), (cAI g a_startFrame 8 uf_42), (cAI g a_changeFrame 8 uf_37), (cAI g a_lostAt 8 uf_39), (cAI g a_blackAt 8 uf_35), (cAI g a_slips 8 uf_41), (cO11_i1r1i10r1i2r5i2r12i3r4i2 h0 m_thrown2_1 a_tape m_taped m_size m_at m_end m_token m_whole m_nameSize m_fault m_place m_trouble2_2 a_letters m_failed m_hasHouse a_r a_fresh a_st a_undone a_kept m_undos m_images a_from a_begin a_motor a_change a_startFrame a_changeFrame a_lostAt a_blackAt a_slips a_leftArc a_died a_arcs m_bestSum m_nearest m_nearestTown a_there a_backAt a_sorted a_parts p0 u_50)] X inlX11 rfl tyX11_ok nmX11 41 (nlt_e rfl) rfl dX11_bestMan_k2.1.2.1.2 mw1421 11 rfl rfl rfl (Nat.le_of_ble_eq_true rfl) rfl ?_
          refine k_iconst (v := 0) X dX11_bestMan_k2.1.2.2.1 ic_0 ?_
          refine k_istore [(6, .int 0), (5, .int u_47), (4, .int u_45), (3, .int u_43), (0, .ref h0), (1, .int p0), (2, .int p1)] X dX11_bestMan_k2.1.2.2.2 (nlt_e rfl) rfl ?_
          refine k_iconst (v := 0) X dX11_bestMan_k2.2.1.1.1 ic_0 ?_
          refine k_istore [(7, .int 0), (6, .int 0), (5, .int u_47), (4, .int u_45), (3, .int u_43), (0, .ref h0), (1, .int p0), (2, .int p1)] X dX11_bestMan_k2.2.1.1.2 (nlt_e rfl) rfl ?_
          refine (fun hL : ∀ (nn_76 : Nat) (uf_62 : Nat → Int32) (uf_63 : Nat → Int32) (uf_64 : Nat → Int32) (uf_65 : Nat → Int32) (uf_66 : Nat → Int32) (uf_67 : Nat → Int32) (uf_68 : Nat → Int32) (uf_69 : Nat → Int32) (uf_70 : Nat → Int32) (u_71 : Int32) (u_72 : Int32) (u_74 : Int32) (u_75 : Int32), (p1.toInt - u_72.toInt).toNat = nn_76 → (IV u_72 0 255) → Wk p l e _ s m args below meth c _ A g _ _ _ [(cAI g a_r 311 d_r), (cAI g a_st 44 d_st), (cAI g a_from 8 uf_66), (cAI g a_begin 8 uf_62), (cAI g a_motor 8 uf_68), (cAI g a_change 8 uf_64), (cAI g a_startFrame 8 uf_70), (cAI g a_changeFrame 8 uf_65), (cAI g a_lostAt 8 uf_67), (cAI g a_blackAt 8 uf_63), (cAI g a_slips 8 uf_69), (cO11_i1r1i10r1i2r5i2r12i3r4i2 h0 m_thrown2_1 a_tape m_taped m_size m_at m_end m_token m_whole m_nameSize m_fault m_place m_trouble2_2 a_letters m_failed m_hasHouse a_r a_fresh a_st a_undone a_kept m_undos m_images a_from a_begin a_motor a_change a_startFrame a_changeFrame a_lostAt a_blackAt a_slips a_leftArc a_died a_arcs m_bestSum m_nearest m_nearestTown a_there a_backAt a_sorted a_parts u_74 u_75)] [(7, .int u_72), (6, .int u_71), (5, .int u_47), (4, .int u_45), (3, .int u_43), (0, .ref h0), (1, .int p0), (2, .int p1)] 77 [] => hL _ uf_34 uf_35 uf_36 uf_37 uf_38 uf_39 uf_40 uf_41 uf_42 0 0 p0 u_50 rfl (iv_w iq_0_0_0 (zle_e rfl) (zle_e rfl))) ?_
          refine fun nn_76 => Nat.strongRecOn nn_76 (fun nn_76 ih_78 => ?_)
          intro uf_62 uf_63 uf_64 uf_65 uf_66 uf_67 uf_68 uf_69 uf_70 u_71 u_72 u_74 u_75 hm_77 hv_73
          refine k_iload X dX11_bestMan_k2.2.1.2.1 0 rfl ?_
          refine k_iload_n X dX11_bestMan_k2.2.1.2.2 7 rfl ?_
          refine k_ic_ge 122 X dX11_bestMan_k2.2.2.1.1 (jp_e rfl) (fun h_79 => ?_) (fun h_79 => ?_)
          · skip
            have j_80 : p1.toInt ≤ u_72.toInt := iv_le h_79
            have iv_81 : IV u_72 1 255 := iv_leR (iv_le h_79) iv_32 hv_73 (zle_e rfl)
            refine k_iload X dX11_bestMan_k4.1.2.1.1 1 rfl ?_
            refine k_iload X dX11_bestMan_k4.1.2.1.2 3 rfl ?_
            refine k_ic_lt 132 X dX11_bestMan_k4.1.2.2.1 (jp_e rfl) (fun h_82 => ?_) (fun h_82 => ?_)
            · skip
              have j_83 : u_71.toInt < u_45.toInt := iv_lt h_82
              have iv_84 : IV u_71 (-2147483648) 99999999 := iv_ltL (iv_lt h_82) (iv_any u_71) hv_46 (zle_e rfl)
              have iv_85 : IV u_45 (-2147483647) 100000000 := iv_ltR (iv_lt h_82) (iv_any u_71) hv_46 (zle_e rfl)
              refine k_iload X dX11_bestMan_k4.2.1.1.1 2 rfl ?_
              refine k_istore_n [(3, .int u_47), (7, .int u_72), (6, .int u_71), (5, .int u_47), (4, .int u_45), (0, .ref h0), (1, .int p0), (2, .int p1)] X dX11_bestMan_k4.2.1.1.2 (nlt_e rfl) rfl ?_
              refine k_iload X dX11_bestMan_k4.2.1.2.1 2 rfl ?_
              refine k_istore [(4, .int u_71), (3, .int u_47), (7, .int u_72), (6, .int u_71), (5, .int u_47), (0, .ref h0), (1, .int p0), (2, .int p1)] X dX11_bestMan_k4.2.1.2.2 (nlt_e rfl) rfl ?_
              obtain ⟨z_86, ez_86⟩ : ∃ y : Int32, u_47 + Int32.ofInt 1 = y := ⟨_, rfl⟩
              refine k_iinc z_86 [(5, .int z_86), (4, .int u_71), (3, .int u_47), (7, .int u_72), (6, .int u_71), (0, .ref h0), (1, .int p0), (2, .int p1)] 4 X dX11_bestMan_k4.2.2.1.1 rfl ez_86 (nlt_e rfl) rfl ?_
              have i_87 : z_86.toInt = u_47.toInt + 1 := in_inc ez_86 (oin_e rfl) iv_60 (zle_e rfl) (zle_e rfl)
              have iv_88 : IV z_86 1 4 := iz1 i_87 iv_60 (zle_e rfl) (zle_e rfl)
              refine k_goto 54 X dX11_bestMan_k4.2.2.1.2 (jp_e rfl) ?_
              refine k_lv [(5, .int z_86), (4, .int u_71), (3, .int u_47), (0, .ref h0), (1, .int p0), (2, .int p1)] [0, 1, 2, 5, 6, 7] rfl ?_
              exact ih_53 _ (by omega) uf_62 uf_63 uf_64 uf_65 uf_66 uf_67 uf_68 uf_69 uf_70 u_47 u_71 z_86 u_74 u_75 rfl (iv_w iv_60 (zle_e rfl) (zle_e rfl)) (iv_w iv_84 (zle_e rfl) (zle_e rfl)) (iv_w iv_88 (zle_e rfl) (zle_e rfl))
            · skip
              have j_89 : u_45.toInt ≤ u_71.toInt := iv_nlt h_82
              refine k_goto 139 X dX11_bestMan_k4.1.2.2.2 (jp_e rfl) ?_
              obtain ⟨z_90, ez_90⟩ : ∃ y : Int32, u_47 + Int32.ofInt 1 = y := ⟨_, rfl⟩
              refine k_iinc z_90 [(5, .int z_90), (7, .int u_72), (6, .int u_71), (4, .int u_45), (3, .int u_43), (0, .ref h0), (1, .int p0), (2, .int p1)] 2 X dX11_bestMan_k4.2.2.1.1 rfl ez_90 (nlt_e rfl) rfl ?_
              have i_91 : z_90.toInt = u_47.toInt + 1 := in_inc ez_90 (oin_e rfl) iv_60 (zle_e rfl) (zle_e rfl)
              have iv_92 : IV z_90 1 4 := iz1 i_91 iv_60 (zle_e rfl) (zle_e rfl)
              refine k_goto 54 X dX11_bestMan_k4.2.2.1.2 (jp_e rfl) ?_
              refine k_lv [(5, .int z_90), (4, .int u_45), (3, .int u_43), (0, .ref h0), (1, .int p0), (2, .int p1)] [0, 3, 4, 5, 6, 7] rfl ?_
              exact ih_53 _ (by omega) uf_62 uf_63 uf_64 uf_65 uf_66 uf_67 uf_68 uf_69 uf_70 u_43 u_45 z_90 u_74 u_75 rfl (iv_w hv_44 (zle_e rfl) (zle_e rfl)) (iv_w hv_46 (zle_e rfl) (zle_e rfl)) (iv_w iv_92 (zle_e rfl) (zle_e rfl))
          · skip
            have j_93 : u_72.toInt < p1.toInt := iv_nle h_79
            have iv_94 : IV u_72 0 19 := iv_ltL (iv_nle h_79) hv_73 iv_32 (zle_e rfl)
            refine k_aload_n X dX11_bestMan_k2.2.2.1.2 5 rfl ?_
            refine k_iload X dX11_bestMan_k2.2.2.2.1 2 rfl ?_
            refine k_callVV (n := 1) (As := [.int u_47]) (st := []) X [(cO11_i1r1i10r1i2r5i2r12i3r4i2 h0 m_thrown2_1 a_tape m_taped m_size m_at m_end m_token m_whole m_nameSize m_fault m_place m_trouble2_2 a_letters m_failed m_hasHouse a_r a_fresh a_st a_undone a_kept m_undos m_images a_from a_begin a_motor a_change a_startFrame a_changeFrame a_lostAt a_blackAt a_slips a_leftArc a_died a_arcs m_bestSum m_nearest m_nearestTown a_there a_backAt a_sorted a_parts u_74 u_75), (cAI g a_r 311 d_r), (cAI g a_st 44 d_st), (cAI g a_from 8 uf_66), (cAI g a_begin 8 uf_62), (cAI g a_motor 8 uf_68), (cAI g a_change 8 uf_64), (cAI g a_startFrame 8 uf_70), (cAI g a_changeFrame 8 uf_65), (cAI g a_lostAt 8 uf_67), (cAI g a_blackAt 8 uf_63), (cAI g a_slips 8 uf_69)] [] [11, 0, 1, 2, 3, 4, 5, 6, 7, 8, 9, 10] [] (m_drawNight l g h0 u_47 m_thrown2_1 a_tape m_taped m_size m_at m_end m_token m_whole m_nameSize m_fault m_place m_trouble2_2 a_letters m_failed m_hasHouse a_r a_fresh a_st a_undone a_kept m_undos m_images a_from a_begin a_motor a_change a_startFrame a_changeFrame a_lostAt a_blackAt a_slips a_leftArc a_died a_arcs m_bestSum m_nearest m_nearestTown a_there a_backAt a_sorted a_parts u_74 u_75 d_r d_st uf_66 uf_62 uf_68 uf_64 uf_70 uf_65 uf_67 uf_63 uf_69 (iv_w iv_60 (zle_e rfl) (zle_e rfl)) hp_d_r) dX11_bestMan_k2.2.2.2.2 mw1423 mw1424 mw1425 mw5 mw1426 rfl 11 rfl rfl 0 _ rfl yk_yX11_drawNight_1 rfl (Nat.le_of_ble_eq_true rfl) (Nat.le_of_ble_eq_true rfl) (Nat.le_of_ble_eq_true rfl) (Nat.le_of_ble_eq_true rfl) (Nat.le_of_ble_eq_true rfl) rfl rfl (by decide +kernel) rfl (by decide +kernel) (by decide +kernel) ?_
            intro w zq
            refine exL11 zq ?_
            clear zq
            intro d_begin2_95 d_blackAt2_96 d_change2_97 d_changeFrame2_98 m_darkNow2_99 d_from2_100 d_lostAt2_101 d_motor2_102 m_seed12_103 d_slips2_104 d_startFrame2_105 zq
            subst zq
            refine k_ws [(cO11_i1r1i10r1i2r5i2r12i3r4i2 h0 m_thrown2_1 a_tape m_taped m_size m_at m_end m_token m_whole m_nameSize m_fault m_place m_trouble2_2 a_letters m_failed m_hasHouse a_r a_fresh a_st a_undone a_kept m_undos m_images a_from a_begin a_motor a_change a_startFrame a_changeFrame a_lostAt a_blackAt a_slips a_leftArc a_died a_arcs m_bestSum m_nearest m_nearestTown a_there a_backAt a_sorted a_parts m_seed12_103 m_darkNow2_99), (cAI g a_r 311 d_r), (cAI g a_st 44 d_st), (cAI g a_from 8 d_from2_100), (cAI g a_begin 8 d_begin2_95), (cAI g a_motor 8 d_motor2_102), (cAI g a_change 8 d_change2_97), (cAI g a_startFrame 8 d_startFrame2_105), (cAI g a_changeFrame 8 d_changeFrame2_98), (cAI g a_lostAt 8 d_lostAt2_101), (cAI g a_blackAt 8 d_blackAt2_96), (cAI g a_slips 8 d_slips2_104)] rfl ?_
            refine k_iload X dX11_bestMan_k3.1.1.1.1 1 rfl ?_
            refine k_aload_n X dX11_bestMan_k3.1.1.1.2 5 rfl ?_
            refine k_get (ci := 11) X inlX11 rfl 42 (nlt_e rfl) dX11_bestMan_k3.1.1.2.1 mw1422 0 rfl rfl ?_
            refine k_aload_n X dX11_bestMan_k3.1.1.2.2 5 rfl ?_
            refine k_iconst (v := 0) X dX11_bestMan_k3.1.2.1.1 ic_0 ?_
            refine k_callVI (n := 1) (As := [.int 0]) (st := [.int m_darkNow2_99, .int u_71]) X [(cO11_i1r1i10r1i2r5i2r12i3r4i2 h0 m_thrown2_1 a_tape m_taped m_size m_at m_end m_token m_whole m_nameSize m_fault m_place m_trouble2_2 a_letters m_failed m_hasHouse a_r a_fresh a_st a_undone a_kept m_undos m_images a_from a_begin a_motor a_change a_startFrame a_changeFrame a_lostAt a_blackAt a_slips a_leftArc a_died a_arcs m_bestSum m_nearest m_nearestTown a_there a_backAt a_sorted a_parts m_seed12_103 m_darkNow2_99), (cAI g a_r 311 d_r), (cAI g a_st 44 d_st), (cAI g a_from 8 d_from2_100), (cAI g a_changeFrame 8 d_changeFrame2_98), (cAI g a_lostAt 8 d_lostAt2_101), (cAI g a_blackAt 8 d_blackAt2_96)] [(cAI g a_begin 8 d_begin2_95), (cAI g a_motor 8 d_motor2_102), (cAI g a_change 8 d_change2_97), (cAI g a_startFrame 8 d_startFrame2_105), (cAI g a_slips 8 d_slips2_104)] [0, 1, 2, 3, 8, 9, 10] [4, 5, 6, 7, 11] (m_sumOf l g h0 0 m_thrown2_1 a_tape m_taped m_size m_at m_end m_token m_whole m_nameSize m_fault m_place m_trouble2_2 a_letters m_failed m_hasHouse a_r a_fresh a_st a_undone a_kept m_undos m_images a_from a_begin a_motor a_change a_startFrame a_changeFrame a_lostAt a_blackAt a_slips a_leftArc a_died a_arcs m_bestSum m_nearest m_nearestTown a_there a_backAt a_sorted a_parts m_seed12_103 m_darkNow2_99 d_r d_st d_from2_100 d_changeFrame2_98 d_lostAt2_101 d_blackAt2_96 hp_d_r) dX11_bestMan_k3.1.2.1.2 mw921 mw922 mw923 mw5 mw924 rfl 11 rfl rfl 0 _ rfl yk_yX11_sumOf_1 rfl (Nat.le_of_ble_eq_true rfl) (Nat.le_of_ble_eq_true rfl) (Nat.le_of_ble_eq_true rfl) (Nat.le_of_ble_eq_true rfl) (Nat.le_of_ble_eq_true rfl) rfl rfl (by decide +kernel) rfl (by decide +kernel) (by decide +kernel) ?_
            rintro r_107 w rfl
            refine k_ws [(cAI g a_begin 8 d_begin2_95), (cAI g a_motor 8 d_motor2_102), (cAI g a_change 8 d_change2_97), (cAI g a_startFrame 8 d_startFrame2_105), (cAI g a_slips 8 d_slips2_104), (cO11_i1r1i10r1i2r5i2r12i3r4i2 h0 m_thrown2_1 a_tape m_taped m_size m_at m_end m_token m_whole m_nameSize m_fault m_place m_trouble2_2 a_letters m_failed m_hasHouse a_r a_fresh a_st a_undone a_kept m_undos m_images a_from a_begin a_motor a_change a_startFrame a_changeFrame a_lostAt a_blackAt a_slips a_leftArc a_died a_arcs m_bestSum m_nearest m_nearestTown a_there a_backAt a_sorted a_parts m_seed12_103 m_darkNow2_99), (cAI g a_r 311 d_r), (cAI g a_st 44 d_st), (cAI g a_from 8 d_from2_100), (cAI g a_changeFrame 8 d_changeFrame2_98), (cAI g a_lostAt 8 d_lostAt2_101), (cAI g a_blackAt 8 d_blackAt2_96)] rfl ?_
            refine k_iadd X dX11_bestMan_k3.1.2.2.1 ?_
            refine k_nm (fun z_108 ez_108 => ?_)
            refine k_aload_n X dX11_bestMan_k3.1.2.2.2 5 rfl ?_
            refine k_iconst (v := 1) X dX11_bestMan_k3.2.1.1.1 ic_1 ?_
            refine k_callVI (n := 1) (As := [.int 1]) (st := [.int z_108, .int u_71]) X [(cO11_i1r1i10r1i2r5i2r12i3r4i2 h0 m_thrown2_1 a_tape m_taped m_size m_at m_end m_token m_whole m_nameSize m_fault m_place m_trouble2_2 a_letters m_failed m_hasHouse a_r a_fresh a_st a_undone a_kept m_undos m_images a_from a_begin a_motor a_change a_startFrame a_changeFrame a_lostAt a_blackAt a_slips a_leftArc a_died a_arcs m_bestSum m_nearest m_nearestTown a_there a_backAt a_sorted a_parts m_seed12_103 m_darkNow2_99), (cAI g a_r 311 d_r), (cAI g a_st 44 d_st), (cAI g a_from 8 d_from2_100), (cAI g a_changeFrame 8 d_changeFrame2_98), (cAI g a_lostAt 8 d_lostAt2_101), (cAI g a_blackAt 8 d_blackAt2_96)] [(cAI g a_begin 8 d_begin2_95), (cAI g a_motor 8 d_motor2_102), (cAI g a_change 8 d_change2_97), (cAI g a_startFrame 8 d_startFrame2_105), (cAI g a_slips 8 d_slips2_104)] [5, 6, 7, 8, 9, 10, 11] [0, 1, 2, 3, 4] (m_sumOf l g h0 1 m_thrown2_1 a_tape m_taped m_size m_at m_end m_token m_whole m_nameSize m_fault m_place m_trouble2_2 a_letters m_failed m_hasHouse a_r a_fresh a_st a_undone a_kept m_undos m_images a_from a_begin a_motor a_change a_startFrame a_changeFrame a_lostAt a_blackAt a_slips a_leftArc a_died a_arcs m_bestSum m_nearest m_nearestTown a_there a_backAt a_sorted a_parts m_seed12_103 m_darkNow2_99 d_r d_st d_from2_100 d_changeFrame2_98 d_lostAt2_101 d_blackAt2_96 hp_d_r) dX11_bestMan_k3.2.1.1.2 mw921 mw922 mw923 mw5 mw924 rfl 11 rfl rfl 0 _ rfl yk_yX11_sumOf_1 rfl (Nat.le_of_ble_eq_true rfl) (Nat.le_of_ble_eq_true rfl) (Nat.le_of_ble_eq_true rfl) (Nat.le_of_ble_eq_true rfl) (Nat.le_of_ble_eq_true rfl) rfl rfl (by decide +kernel) rfl (by decide +kernel) (by decide +kernel) ?_
            rintro r_110 w rfl
            refine k_ws [(cAI g a_begin 8 d_begin2_95), (cAI g a_motor 8 d_motor2_102), (cAI g a_change 8 d_change2_97), (cAI g a_startFrame 8 d_startFrame2_105), (cAI g a_slips 8 d_slips2_104), (cO11_i1r1i10r1i2r5i2r12i3r4i2 h0 m_thrown2_1 a_tape m_taped m_size m_at m_end m_token m_whole m_nameSize m_fault m_place m_trouble2_2 a_letters m_failed m_hasHouse a_r a_fresh a_st a_undone a_kept m_undos m_images a_from a_begin a_motor a_change a_startFrame a_changeFrame a_lostAt a_blackAt a_slips a_leftArc a_died a_arcs m_bestSum m_nearest m_nearestTown a_there a_backAt a_sorted a_parts m_seed12_103 m_darkNow2_99), (cAI g a_r 311 d_r), (cAI g a_st 44 d_st), (cAI g a_from 8 d_from2_100), (cAI g a_changeFrame 8 d_changeFrame2_98), (cAI g a_lostAt 8 d_lostAt2_101), (cAI g a_blackAt 8 d_blackAt2_96)] rfl ?_
            refine k_iadd X dX11_bestMan_k3.2.1.2.1 ?_
            refine k_nm (fun z_111 ez_111 => ?_)
            refine k_aload_n X dX11_bestMan_k3.2.1.2.2 5 rfl ?_
            refine k_iconst (v := 2) X dX11_bestMan_k3.2.2.1.1 ic_2 ?_
            refine k_callVI (n := 1) (As := [.int 2]) (st := [.int z_111, .int u_71]) X [(cO11_i1r1i10r1i2r5i2r12i3r4i2 h0 m_thrown2_1 a_tape m_taped m_size m_at m_end m_token m_whole m_nameSize m_fault m_place m_trouble2_2 a_letters m_failed m_hasHouse a_r a_fresh a_st a_undone a_kept m_undos m_images a_from a_begin a_motor a_change a_startFrame a_changeFrame a_lostAt a_blackAt a_slips a_leftArc a_died a_arcs m_bestSum m_nearest m_nearestTown a_there a_backAt a_sorted a_parts m_seed12_103 m_darkNow2_99), (cAI g a_r 311 d_r), (cAI g a_st 44 d_st), (cAI g a_from 8 d_from2_100), (cAI g a_changeFrame 8 d_changeFrame2_98), (cAI g a_lostAt 8 d_lostAt2_101), (cAI g a_blackAt 8 d_blackAt2_96)] [(cAI g a_begin 8 d_begin2_95), (cAI g a_motor 8 d_motor2_102), (cAI g a_change 8 d_change2_97), (cAI g a_startFrame 8 d_startFrame2_105), (cAI g a_slips 8 d_slips2_104)] [5, 6, 7, 8, 9, 10, 11] [0, 1, 2, 3, 4] (m_sumOf l g h0 2 m_thrown2_1 a_tape m_taped m_size m_at m_end m_token m_whole m_nameSize m_fault m_place m_trouble2_2 a_letters m_failed m_hasHouse a_r a_fresh a_st a_undone a_kept m_undos m_images a_from a_begin a_motor a_change a_startFrame a_changeFrame a_lostAt a_blackAt a_slips a_leftArc a_died a_arcs m_bestSum m_nearest m_nearestTown a_there a_backAt a_sorted a_parts m_seed12_103 m_darkNow2_99 d_r d_st d_from2_100 d_changeFrame2_98 d_lostAt2_101 d_blackAt2_96 hp_d_r) dX11_bestMan_k3.2.2.1.2 mw921 mw922 mw923 mw5 mw924 rfl 11 rfl rfl 0 _ rfl yk_yX11_sumOf_1 rfl (Nat.le_of_ble_eq_true rfl) (Nat.le_of_ble_eq_true rfl) (Nat.le_of_ble_eq_true rfl) (Nat.le_of_ble_eq_true rfl) (Nat.le_of_ble_eq_true rfl) rfl rfl (by decide +kernel) rfl (by decide +kernel) (by decide +kernel) ?_
            rintro r_113 w rfl
            refine k_ws [(cAI g a_begin 8 d_begin2_95), (cAI g a_motor 8 d_motor2_102), (cAI g a_change 8 d_change2_97), (cAI g a_startFrame 8 d_startFrame2_105), (cAI g a_slips 8 d_slips2_104), (cO11_i1r1i10r1i2r5i2r12i3r4i2 h0 m_thrown2_1 a_tape m_taped m_size m_at m_end m_token m_whole m_nameSize m_fault m_place m_trouble2_2 a_letters m_failed m_hasHouse a_r a_fresh a_st a_undone a_kept m_undos m_images a_from a_begin a_motor a_change a_startFrame a_changeFrame a_lostAt a_blackAt a_slips a_leftArc a_died a_arcs m_bestSum m_nearest m_nearestTown a_there a_backAt a_sorted a_parts m_seed12_103 m_darkNow2_99), (cAI g a_r 311 d_r), (cAI g a_st 44 d_st), (cAI g a_from 8 d_from2_100), (cAI g a_changeFrame 8 d_changeFrame2_98), (cAI g a_lostAt 8 d_lostAt2_101), (cAI g a_blackAt 8 d_blackAt2_96)] rfl ?_
            refine k_iadd X dX11_bestMan_k3.2.2.2.1 ?_
            refine k_nm (fun z_114 ez_114 => ?_)
            refine k_iadd X dX11_bestMan_k3.2.2.2.2 ?_
            refine k_nm (fun z_116 ez_116 => ?_)
            refine k_istore [(6, .int z_116), (7, .int u_72), (5, .int u_47), (4, .int u_45), (3, .int u_43), (0, .ref h0), (1, .int p0), (2, .int p1)] X dX11_bestMan_k4.1.1.1 (nlt_e rfl) rfl ?_
            obtain ⟨z_118, ez_118⟩ : ∃ y : Int32, u_72 + Int32.ofInt 1 = y := ⟨_, rfl⟩
            refine k_iinc z_118 [(7, .int z_118), (6, .int z_116), (5, .int u_47), (4, .int u_45), (3, .int u_43), (0, .ref h0), (1, .int p0), (2, .int p1)] 1 X dX11_bestMan_k4.1.1.2.1 rfl ez_118 (nlt_e rfl) rfl ?_
            have i_119 : z_118.toInt = u_72.toInt + 1 := in_inc ez_118 (oin_e rfl) iv_94 (zle_e rfl) (zle_e rfl)
            have iv_120 : IV z_118 1 20 := iz1 i_119 iv_94 (zle_e rfl) (zle_e rfl)
            refine k_goto 77 X dX11_bestMan_k4.1.1.2.2 (jp_e rfl) ?_
            refine k_sub [(cAI g a_r 311 d_r), (cAI g a_st 44 d_st), (cAI g a_from 8 d_from2_100), (cAI g a_begin 8 d_begin2_95), (cAI g a_motor 8 d_motor2_102), (cAI g a_change 8 d_change2_97), (cAI g a_startFrame 8 d_startFrame2_105), (cAI g a_changeFrame 8 d_changeFrame2_98), (cAI g a_lostAt 8 d_lostAt2_101), (cAI g a_blackAt 8 d_blackAt2_96), (cAI g a_slips 8 d_slips2_104), (cO11_i1r1i10r1i2r5i2r12i3r4i2 h0 m_thrown2_1 a_tape m_taped m_size m_at m_end m_token m_whole m_nameSize m_fault m_place m_trouble2_2 a_letters m_failed m_hasHouse a_r a_fresh a_st a_undone a_kept m_undos m_images a_from a_begin a_motor a_change a_startFrame a_changeFrame a_lostAt a_blackAt a_slips a_leftArc a_died a_arcs m_bestSum m_nearest m_nearestTown a_there a_backAt a_sorted a_parts m_seed12_103 m_darkNow2_99)] [6, 7, 8, 0, 1, 2, 3, 9, 10, 11, 4, 5] rfl (by decide) rfl ?_
            exact ih_78 _ (by omega) d_begin2_95 d_blackAt2_96 d_change2_97 d_changeFrame2_98 d_from2_100 d_lostAt2_101 d_motor2_102 d_slips2_104 d_startFrame2_105 z_116 z_118 m_seed12_103 m_darkNow2_99 rfl (iv_w iv_120 (zle_e rfl) (zle_e rfl))
      · skip
        have iv_121 : IV r_23 0 0 := iv_meet iv_24 (iv_e h_27 iq_0_0_0) (zle_o rfl) (zle_o rfl)
        have hc_122 := hk_26 (iv_eq iv_121 iq_0_0_0)
        have j_123 : p1.toInt < 1 ∨ 20 < p1.toInt := hc_122
        refine k_aload_n X dX11_bestMan_k1.1.1.2.2 0 rfl ?_
        refine k_iconst (v := 2) X dX11_bestMan_k1.1.2.1.1 ic_2 ?_
        refine k_callVI (n := 1) (As := [.int 2]) (st := []) X [(cO11_i1r1i10r1i2r5i2r12i3r4i2 h0 m_thrown2_1 a_tape m_taped m_size m_at m_end m_token m_whole m_nameSize m_fault m_place m_trouble2_2 a_letters m_failed m_hasHouse a_r a_fresh a_st a_undone a_kept m_undos m_images a_from a_begin a_motor a_change a_startFrame a_changeFrame a_lostAt a_blackAt a_slips a_leftArc a_died a_arcs m_bestSum m_nearest m_nearestTown a_there a_backAt a_sorted a_parts m_seed1 m_darkNow)] [(cAI g a_r 311 d_r), (cAI g a_st 44 d_st), (cAI g a_from 8 d_from), (cAI g a_begin 8 d_begin), (cAI g a_motor 8 d_motor), (cAI g a_change 8 d_change), (cAI g a_startFrame 8 d_startFrame), (cAI g a_changeFrame 8 d_changeFrame), (cAI g a_lostAt 8 d_lostAt), (cAI g a_blackAt 8 d_blackAt), (cAI g a_slips 8 d_slips)] [11] [0, 1, 2, 3, 4, 5, 6, 7, 8, 9, 10] (m_no l g h0 2 m_thrown2_1 a_tape m_taped m_size m_at m_end m_token m_whole m_nameSize m_fault m_place m_trouble2_2 a_letters m_failed m_hasHouse a_r a_fresh a_st a_undone a_kept m_undos m_images a_from a_begin a_motor a_change a_startFrame a_changeFrame a_lostAt a_blackAt a_slips a_leftArc a_died a_arcs m_bestSum m_nearest m_nearestTown a_there a_backAt a_sorted a_parts m_seed1 m_darkNow) dX11_bestMan_k1.1.2.1.2 mw485 mw486 mw487 mw5 mw488 rfl 11 rfl rfl 0 _ rfl yk_yX11_no_1 rfl (Nat.le_of_ble_eq_true rfl) (Nat.le_of_ble_eq_true rfl) (Nat.le_of_ble_eq_true rfl) (Nat.le_of_ble_eq_true rfl) (Nat.le_of_ble_eq_true rfl) rfl rfl (by decide +kernel) rfl (by decide +kernel) (by decide +kernel) ?_
        rintro r_125 w ⟨m_trouble2_124, iv_126, rfl⟩
        refine k_ws [(cAI g a_r 311 d_r), (cAI g a_st 44 d_st), (cAI g a_from 8 d_from), (cAI g a_begin 8 d_begin), (cAI g a_motor 8 d_motor), (cAI g a_change 8 d_change), (cAI g a_startFrame 8 d_startFrame), (cAI g a_changeFrame 8 d_changeFrame), (cAI g a_lostAt 8 d_lostAt), (cAI g a_blackAt 8 d_blackAt), (cAI g a_slips 8 d_slips), (cO11_i1r1i10r1i2r5i2r12i3r4i2 h0 m_thrown2_1 a_tape m_taped m_size m_at m_end m_token m_whole m_nameSize m_fault m_place m_trouble2_124 a_letters m_failed m_hasHouse a_r a_fresh a_st a_undone a_kept m_undos m_images a_from a_begin a_motor a_change a_startFrame a_changeFrame a_lostAt a_blackAt a_slips a_leftArc a_died a_arcs m_bestSum m_nearest m_nearestTown a_there a_backAt a_sorted a_parts m_seed1 m_darkNow)] rfl ?_
        exact k_iret X hr dX11_bestMan_k1.1.2.2.1 (Nat.le_of_ble_eq_true rfl) (Nat.le_of_ble_eq_true rfl) [11, 0, 1, 2, 3, 4, 5, 6, 7, 8, 9, 10] (vnd_e rfl) rfl rfl (exI12 d_begin d_blackAt d_change d_changeFrame m_darkNow d_from d_lostAt d_motor m_seed1 d_slips d_startFrame m_thrown2_1 (exI1 m_trouble2_124 rfl))
  · skip
    have iv_127 : IV m_hasHouse 0 0 := iv_meet hv_m_hasHouse (iv_e h_4 iq_0_0_0) (zle_o rfl) (zle_o rfl)
    refine k_aload_n X dX11_bestMan_k0.1.2.1.2 0 rfl ?_
    refine k_iconst (v := 1) X dX11_bestMan_k0.1.2.2.1 ic_1 ?_
    refine k_callVI (n := 1) (As := [.int 1]) (st := []) X [(cO11_i1r1i10r1i2r5i2r12i3r4i2 h0 m_thrown2_1 a_tape m_taped m_size m_at m_end m_token m_whole m_nameSize m_fault m_place m_trouble2_2 a_letters m_failed m_hasHouse a_r a_fresh a_st a_undone a_kept m_undos m_images a_from a_begin a_motor a_change a_startFrame a_changeFrame a_lostAt a_blackAt a_slips a_leftArc a_died a_arcs m_bestSum m_nearest m_nearestTown a_there a_backAt a_sorted a_parts m_seed1 m_darkNow)] [(cAI g a_r 311 d_r), (cAI g a_st 44 d_st), (cAI g a_from 8 d_from), (cAI g a_begin 8 d_begin), (cAI g a_motor 8 d_motor), (cAI g a_change 8 d_change), (cAI g a_startFrame 8 d_startFrame), (cAI g a_changeFrame 8 d_changeFrame), (cAI g a_lostAt 8 d_lostAt), (cAI g a_blackAt 8 d_blackAt), (cAI g a_slips 8 d_slips)] [11] [0, 1, 2, 3, 4, 5, 6, 7, 8, 9, 10] (m_no l g h0 1 m_thrown2_1 a_tape m_taped m_size m_at m_end m_token m_whole m_nameSize m_fault m_place m_trouble2_2 a_letters m_failed m_hasHouse a_r a_fresh a_st a_undone a_kept m_undos m_images a_from a_begin a_motor a_change a_startFrame a_changeFrame a_lostAt a_blackAt a_slips a_leftArc a_died a_arcs m_bestSum m_nearest m_nearestTown a_there a_backAt a_sorted a_parts m_seed1 m_darkNow) dX11_bestMan_k0.1.2.2.2 mw485 mw486 mw487 mw5 mw488 rfl 11 rfl rfl 0 _ rfl yk_yX11_no_1 rfl (Nat.le_of_ble_eq_true rfl) (Nat.le_of_ble_eq_true rfl) (Nat.le_of_ble_eq_true rfl) (Nat.le_of_ble_eq_true rfl) (Nat.le_of_ble_eq_true rfl) rfl rfl (by decide +kernel) rfl (by decide +kernel) (by decide +kernel) ?_
    rintro r_129 w ⟨m_trouble2_128, iv_130, rfl⟩
    refine k_ws [(cAI g a_r 311 d_r), (cAI g a_st 44 d_st), (cAI g a_from 8 d_from), (cAI g a_begin 8 d_begin), (cAI g a_motor 8 d_motor), (cAI g a_change 8 d_change), (cAI g a_startFrame 8 d_startFrame), (cAI g a_changeFrame 8 d_changeFrame), (cAI g a_lostAt 8 d_lostAt), (cAI g a_blackAt 8 d_blackAt), (cAI g a_slips 8 d_slips), (cO11_i1r1i10r1i2r5i2r12i3r4i2 h0 m_thrown2_1 a_tape m_taped m_size m_at m_end m_token m_whole m_nameSize m_fault m_place m_trouble2_128 a_letters m_failed m_hasHouse a_r a_fresh a_st a_undone a_kept m_undos m_images a_from a_begin a_motor a_change a_startFrame a_changeFrame a_lostAt a_blackAt a_slips a_leftArc a_died a_arcs m_bestSum m_nearest m_nearestTown a_there a_backAt a_sorted a_parts m_seed1 m_darkNow)] rfl ?_
    exact k_iret X hr dX11_bestMan_k0.2.1.1.1 (Nat.le_of_ble_eq_true rfl) (Nat.le_of_ble_eq_true rfl) [11, 0, 1, 2, 3, 4, 5, 6, 7, 8, 9, 10] (vnd_e rfl) rfl rfl (exI12 d_begin d_blackAt d_change d_changeFrame m_darkNow d_from d_lostAt d_motor m_seed1 d_slips d_startFrame m_thrown2_1 (exI1 m_trouble2_128 rfl))

theorem dX11_copy_k0 : ((((dD cX11_copy 0 (.iconst 0) 1 ∧ dD cX11_copy 1 (.istore 5) 2) ∧ (dD cX11_copy 3 (.iload 5) 2 ∧ dD cX11_copy 5 (.iload 4) 2)) ∧ ((dD cX11_copy 7 (.if_icmp .ge 21) 3 ∧ dD cX11_copy 10 (.aload_n 2) 1) ∧ (dD cX11_copy 11 (.iload_n 3) 1 ∧ dD cX11_copy 12 (.iload 5) 2))) ∧ (((dD cX11_copy 14 .iadd 1 ∧ dD cX11_copy 15 (.aload_n 0) 1) ∧ (dD cX11_copy 16 (.iload_n 1) 1 ∧ dD cX11_copy 17 (.iload 5) 2)) ∧ ((dD cX11_copy 19 .iadd 1 ∧ dD cX11_copy 20 .iaload 1) ∧ (dD cX11_copy 21 .iastore 1 ∧ dD cX11_copy 22 (.iinc 5 1) 3)))) := dkA16 (by decide +kernel)
theorem dX11_copy_k1 : (dD cX11_copy 25 (.goto (-22)) 3 ∧ dD cX11_copy 28 .return_ 1) := dkA2 (by decide +kernel)
theorem dX11_note_k0 : ((((dD cX11_note 0 (.aload_n 0) 1 ∧ dD cX11_note 1 (.getfield 216) 3) ∧ (dD cX11_note 4 (.bipush 12) 2 ∧ dD cX11_note 6 (.if_icmp .ne 43) 3)) ∧ ((dD cX11_note 9 (.iconst 0) 1 ∧ dD cX11_note 10 (.istore_n 1) 1) ∧ (dD cX11_note 11 (.iload_n 1) 1 ∧ dD cX11_note 12 (.sipush 484) 3))) ∧ (((dD cX11_note 15 (.if_icmp .ge 24) 3 ∧ dD cX11_note 18 (.aload_n 0) 1) ∧ (dD cX11_note 19 (.getfield 29) 3 ∧ dD cX11_note 22 (.iload_n 1) 1)) ∧ ((dD cX11_note 23 (.aload_n 0) 1 ∧ dD cX11_note 24 (.getfield 29) 3) ∧ (dD cX11_note 27 (.iload_n 1) 1 ∧ dD cX11_note 28 (.bipush 44) 2)))) := dkA16 (by decide +kernel)
theorem dX11_note_k1 : ((((dD cX11_note 30 .iadd 1 ∧ dD cX11_note 31 .iaload 1) ∧ (dD cX11_note 32 .iastore 1 ∧ dD cX11_note 33 (.iinc 1 1) 3)) ∧ ((dD cX11_note 36 (.goto (-25)) 3 ∧ dD cX11_note 39 (.aload_n 0) 1) ∧ (dD cX11_note 40 .dup 1 ∧ dD cX11_note 41 (.getfield 216) 3))) ∧ (((dD cX11_note 44 (.iconst 1) 1 ∧ dD cX11_note 45 .isub 1) ∧ (dD cX11_note 46 (.putfield 216) 3 ∧ dD cX11_note 49 (.aload_n 0) 1)) ∧ ((dD cX11_note 50 (.getfield 26) 3 ∧ dD cX11_note 53 (.iconst 0) 1) ∧ (dD cX11_note 54 (.aload_n 0) 1 ∧ dD cX11_note 55 (.getfield 29) 3)))) := dkA16 (by decide +kernel)
theorem dX11_note_k2 : (((dD cX11_note 58 (.bipush 44) 2 ∧ (dD cX11_note 60 (.aload_n 0) 1 ∧ dD cX11_note 61 (.getfield 216) 3)) ∧ (dD cX11_note 64 .imul 1 ∧ (dD cX11_note 65 (.bipush 44) 2 ∧ dD cX11_note 67 (.invokestatic 209) 3))) ∧ ((dD cX11_note 70 (.aload_n 0) 1 ∧ (dD cX11_note 71 .dup 1 ∧ dD cX11_note 72 (.getfield 216) 3)) ∧ ((dD cX11_note 75 (.iconst 1) 1 ∧ dD cX11_note 76 .iadd 1) ∧ (dD cX11_note 77 (.putfield 216) 3 ∧ dD cX11_note 80 .return_ 1)))) := dkA13 (by decide +kernel)
theorem dX11_threads_k0 : ((((dD cX11_threads 0 (.aload_n 0) 1 ∧ dD cX11_threads 1 (.invokevirtual 200) 3) ∧ (dD cX11_threads 4 (.aload_n 0) 1 ∧ dD cX11_threads 5 (.iload_n 1) 1)) ∧ ((dD cX11_threads 6 (.invokevirtual 345) 3 ∧ dD cX11_threads 9 (.ifCond .ne 9) 3) ∧ (dD cX11_threads 12 (.aload_n 0) 1 ∧ dD cX11_threads 13 (.iconst 1) 1))) ∧ (((dD cX11_threads 14 (.invokevirtual 473) 3 ∧ dD cX11_threads 17 .ireturn 1) ∧ (dD cX11_threads 18 (.iload_n 2) 1 ∧ dD cX11_threads 19 (.iconst 0) 1)) ∧ ((dD cX11_threads 20 (.sipush 199) 3 ∧ dD cX11_threads 23 (.invokestatic 182) 3) ∧ (dD cX11_threads 26 (.ifCond .ne 9) 3 ∧ dD cX11_threads 29 (.aload_n 0) 1)))) := dkA16 (by decide +kernel)
theorem dX11_threads_k1 : ((((dD cX11_threads 30 (.iconst 2) 1 ∧ dD cX11_threads 31 (.invokevirtual 473) 3) ∧ (dD cX11_threads 34 .ireturn 1 ∧ dD cX11_threads 35 (.aload_n 0) 1)) ∧ ((dD cX11_threads 36 (.getfield 26) 3 ∧ dD cX11_threads 39 (.bipush 34) 2) ∧ (dD cX11_threads 41 (.iload_n 1) 1 ∧ dD cX11_threads 42 .iadd 1))) ∧ (((dD cX11_threads 43 .iaload 1 ∧ dD cX11_threads 44 (.iload_n 2) 1) ∧ (dD cX11_threads 45 (.if_icmp .ne 9) 3 ∧ dD cX11_threads 48 (.aload_n 0) 1)) ∧ ((dD cX11_threads 49 (.iconst 5) 1 ∧ dD cX11_threads 50 (.invokevirtual 473) 3) ∧ (dD cX11_threads 53 .ireturn 1 ∧ dD cX11_threads 54 (.aload_n 0) 1)))) := dkA16 (by decide +kernel)
theorem dX11_threads_k2 : (((dD cX11_threads 55 (.invokevirtual 476) 3 ∧ dD cX11_threads 58 (.aload_n 0) 1) ∧ (dD cX11_threads 59 (.getfield 26) 3 ∧ (dD cX11_threads 62 (.bipush 34) 2 ∧ dD cX11_threads 64 (.iload_n 1) 1))) ∧ ((dD cX11_threads 65 .iadd 1 ∧ dD cX11_threads 66 (.iload_n 2) 1) ∧ (dD cX11_threads 67 .iastore 1 ∧ (dD cX11_threads 68 (.iconst 1) 1 ∧ dD cX11_threads 69 .ireturn 1)))) := dkA10 (by decide +kernel)
theorem dX11_trim_k0 : ((((dD cX11_trim 0 (.aload_n 0) 1 ∧ dD cX11_trim 1 (.invokevirtual 200) 3) ∧ (dD cX11_trim 4 (.aload_n 0) 1 ∧ dD cX11_trim 5 (.iload_n 1) 1)) ∧ ((dD cX11_trim 6 (.invokevirtual 345) 3 ∧ dD cX11_trim 9 (.ifCond .ne 9) 3) ∧ (dD cX11_trim 12 (.aload_n 0) 1 ∧ dD cX11_trim 13 (.iconst 1) 1))) ∧ (((dD cX11_trim 14 (.invokevirtual 473) 3 ∧ dD cX11_trim 17 .ireturn 1) ∧ (dD cX11_trim 18 (.aload_n 0) 1 ∧ dD cX11_trim 19 (.getfield 26) 3)) ∧ ((dD cX11_trim 22 (.bipush 42) 2 ∧ dD cX11_trim 24 .iaload 1) ∧ (dD cX11_trim 25 (.iload_n 1) 1 ∧ dD cX11_trim 26 (.invokestatic 320) 3)))) := dkA16 (by decide +kernel)
theorem dX11_trim_k1 : ((((dD cX11_trim 29 (.iload_n 2) 1 ∧ dD cX11_trim 30 (.if_icmp .ne 9) 3) ∧ (dD cX11_trim 33 (.aload_n 0) 1 ∧ dD cX11_trim 34 (.iconst 5) 1)) ∧ ((dD cX11_trim 35 (.invokevirtual 473) 3 ∧ dD cX11_trim 38 .ireturn 1) ∧ (dD cX11_trim 39 (.aload_n 0) 1 ∧ dD cX11_trim 40 (.invokevirtual 476) 3))) ∧ (((dD cX11_trim 43 (.aload_n 0) 1 ∧ dD cX11_trim 44 (.getfield 26) 3) ∧ (dD cX11_trim 47 (.bipush 42) 2 ∧ dD cX11_trim 49 .dup2 1)) ∧ ((dD cX11_trim 50 .iaload 1 ∧ dD cX11_trim 51 (.iconst 1) 1) ∧ (dD cX11_trim 52 (.iload_n 1) 1 ∧ dD cX11_trim 53 .ishl 1)))) := dkA16 (by decide +kernel)
theorem dX11_trim_k2 : ((dD cX11_trim 54 .ixor 1 ∧ dD cX11_trim 55 .iastore 1) ∧ (dD cX11_trim 56 (.iconst 1) 1 ∧ dD cX11_trim 57 .ireturn 1)) := dkA4 (by decide +kernel)
theorem dX11_mend_k0 : ((((dD cX11_mend 0 (.aload_n 0) 1 ∧ dD cX11_mend 1 (.invokevirtual 200) 3) ∧ (dD cX11_mend 4 (.aload_n 0) 1 ∧ dD cX11_mend 5 (.iload_n 1) 1)) ∧ ((dD cX11_mend 6 (.invokevirtual 412) 3 ∧ dD cX11_mend 9 (.ifCond .ne 9) 3) ∧ (dD cX11_mend 12 (.aload_n 0) 1 ∧ dD cX11_mend 13 (.iconst 1) 1))) ∧ (((dD cX11_mend 14 (.invokevirtual 203) 3 ∧ dD cX11_mend 17 .ireturn 1) ∧ (dD cX11_mend 18 (.aload_n 0) 1 ∧ dD cX11_mend 19 (.getfield 20) 3)) ∧ ((dD cX11_mend 22 (.bipush 96) 2 ∧ dD cX11_mend 24 (.iconst 3) 1) ∧ (dD cX11_mend 25 (.iload_n 1) 1 ∧ dD cX11_mend 26 .imul 1)))) := dkA16 (by decide +kernel)
theorem dX11_mend_k1 : ((((dD cX11_mend 27 .iadd 1 ∧ dD cX11_mend 28 .iaload 1) ∧ (dD cX11_mend 29 (.istore_n 2) 1 ∧ dD cX11_mend 30 (.aload_n 0) 1)) ∧ ((dD cX11_mend 31 (.iload_n 1) 1 ∧ dD cX11_mend 32 (.invokevirtual 339) 3) ∧ (dD cX11_mend 35 (.ifCond .ne 16) 3 ∧ dD cX11_mend 38 (.aload_n 0) 1))) ∧ (((dD cX11_mend 39 (.getfield 26) 3 ∧ dD cX11_mend 42 (.iconst 0) 1) ∧ (dD cX11_mend 43 (.iload_n 2) 1 ∧ dD cX11_mend 44 .iadd 1)) ∧ ((dD cX11_mend 45 .iaload 1 ∧ dD cX11_mend 46 (.bipush 6) 2) ∧ (dD cX11_mend 48 (.if_icmp .ge 9) 3 ∧ dD cX11_mend 51 (.aload_n 0) 1)))) := dkA16 (by decide +kernel)
theorem dX11_mend_k2 : ((((dD cX11_mend 52 (.iconst 5) 1 ∧ dD cX11_mend 53 (.invokevirtual 203) 3) ∧ (dD cX11_mend 56 .ireturn 1 ∧ dD cX11_mend 57 (.aload_n 0) 1)) ∧ ((dD cX11_mend 58 (.invokevirtual 476) 3 ∧ dD cX11_mend 61 (.aload_n 0) 1) ∧ (dD cX11_mend 62 (.getfield 26) 3 ∧ dD cX11_mend 65 (.bipush 28) 2))) ∧ (((dD cX11_mend 67 (.iload_n 1) 1 ∧ dD cX11_mend 68 .iadd 1) ∧ (dD cX11_mend 69 .iaload 1 ∧ dD cX11_mend 70 (.istore_n 3) 1)) ∧ ((dD cX11_mend 71 (.aload_n 0) 1 ∧ dD cX11_mend 72 (.getfield 26) 3) ∧ (dD cX11_mend 75 (.iconst 0) 1 ∧ dD cX11_mend 76 (.iload_n 2) 1)))) := dkA16 (by decide +kernel)
theorem dX11_mend_k3 : ((((dD cX11_mend 77 .iadd 1 ∧ dD cX11_mend 78 .dup2 1) ∧ (dD cX11_mend 79 .iaload 1 ∧ dD cX11_mend 80 (.iconst 2) 1)) ∧ ((dD cX11_mend 81 .isub 1 ∧ dD cX11_mend 82 .iastore 1) ∧ (dD cX11_mend 83 (.aload_n 0) 1 ∧ dD cX11_mend 84 (.getfield 26) 3))) ∧ (((dD cX11_mend 87 (.iconst 0) 1 ∧ dD cX11_mend 88 (.iload_n 2) 1) ∧ (dD cX11_mend 89 .iadd 1 ∧ dD cX11_mend 90 .iaload 1)) ∧ ((dD cX11_mend 91 (.istore 4) 2 ∧ dD cX11_mend 93 (.aload_n 0) 1) ∧ (dD cX11_mend 94 (.getfield 26) 3 ∧ dD cX11_mend 97 (.bipush 8) 2)))) := dkA16 (by decide +kernel)
theorem dX11_mend_k4 : ((((dD cX11_mend 99 (.iload_n 2) 1 ∧ dD cX11_mend 100 .iadd 1) ∧ (dD cX11_mend 101 (.aload_n 0) 1 ∧ dD cX11_mend 102 (.getfield 26) 3)) ∧ ((dD cX11_mend 105 (.bipush 8) 2 ∧ dD cX11_mend 107 (.iload_n 2) 1) ∧ (dD cX11_mend 108 .iadd 1 ∧ dD cX11_mend 109 .iaload 1))) ∧ (((dD cX11_mend 110 (.iload_n 3) 1 ∧ dD cX11_mend 111 (.iload 4) 2) ∧ (dD cX11_mend 113 (.invokestatic 479) 3 ∧ dD cX11_mend 116 .iastore 1)) ∧ ((dD cX11_mend 117 (.iconst 0) 1 ∧ dD cX11_mend 118 (.istore 5) 2) ∧ (dD cX11_mend 120 (.iload 5) 2 ∧ dD cX11_mend 122 (.aload_n 0) 1)))) := dkA16 (by decide +kernel)
theorem dX11_mend_k5 : ((((dD cX11_mend 123 (.getfield 20) 3 ∧ dD cX11_mend 126 (.bipush 8) 2) ∧ (dD cX11_mend 128 .iaload 1 ∧ dD cX11_mend 129 (.if_icmp .ge 51) 3)) ∧ ((dD cX11_mend 132 (.aload_n 0) 1 ∧ dD cX11_mend 133 (.getfield 20) 3) ∧ (dD cX11_mend 136 (.bipush 44) 2 ∧ dD cX11_mend 138 (.iconst 3) 1))) ∧ (((dD cX11_mend 139 (.iload 5) 2 ∧ dD cX11_mend 141 .imul 1) ∧ (dD cX11_mend 142 .iadd 1 ∧ dD cX11_mend 143 .iaload 1)) ∧ ((dD cX11_mend 144 (.iload_n 2) 1 ∧ dD cX11_mend 145 (.if_icmp .ne 29) 3) ∧ (dD cX11_mend 148 (.aload_n 0) 1 ∧ dD cX11_mend 149 (.getfield 26) 3)))) := dkA16 (by decide +kernel)
theorem dX11_mend_k6 : ((((dD cX11_mend 152 (.bipush 16) 2 ∧ dD cX11_mend 154 (.iload 5) 2) ∧ (dD cX11_mend 156 .iadd 1 ∧ dD cX11_mend 157 (.aload_n 0) 1)) ∧ ((dD cX11_mend 158 (.getfield 26) 3 ∧ dD cX11_mend 161 (.bipush 16) 2) ∧ (dD cX11_mend 163 (.iload 5) 2 ∧ dD cX11_mend 165 .iadd 1))) ∧ (((dD cX11_mend 166 .iaload 1 ∧ dD cX11_mend 167 (.iload_n 3) 1) ∧ (dD cX11_mend 168 (.iload 4) 2 ∧ dD cX11_mend 170 (.invokestatic 479) 3)) ∧ ((dD cX11_mend 173 .iastore 1 ∧ dD cX11_mend 174 (.iinc 5 1) 3) ∧ (dD cX11_mend 177 (.goto (-57)) 3 ∧ dD cX11_mend 180 (.iconst 0) 1)))) := dkA16 (by decide +kernel)
theorem dX11_mend_k7 : ((((dD cX11_mend 181 (.istore 5) 2 ∧ dD cX11_mend 183 (.iload 5) 2) ∧ (dD cX11_mend 185 (.aload_n 0) 1 ∧ dD cX11_mend 186 (.getfield 20) 3)) ∧ ((dD cX11_mend 189 (.bipush 10) 2 ∧ dD cX11_mend 191 .iaload 1) ∧ (dD cX11_mend 192 (.if_icmp .ge 51) 3 ∧ dD cX11_mend 195 (.aload_n 0) 1))) ∧ (((dD cX11_mend 196 (.getfield 20) 3 ∧ dD cX11_mend 199 (.bipush 96) 2) ∧ (dD cX11_mend 201 (.iconst 3) 1 ∧ dD cX11_mend 202 (.iload 5) 2)) ∧ ((dD cX11_mend 204 .imul 1 ∧ dD cX11_mend 205 .iadd 1) ∧ (dD cX11_mend 206 .iaload 1 ∧ dD cX11_mend 207 (.iload_n 2) 1)))) := dkA16 (by decide +kernel)
theorem dX11_mend_k8 : ((((dD cX11_mend 208 (.if_icmp .ne 29) 3 ∧ dD cX11_mend 211 (.aload_n 0) 1) ∧ (dD cX11_mend 212 (.getfield 26) 3 ∧ dD cX11_mend 215 (.bipush 28) 2)) ∧ ((dD cX11_mend 217 (.iload 5) 2 ∧ dD cX11_mend 219 .iadd 1) ∧ (dD cX11_mend 220 (.aload_n 0) 1 ∧ dD cX11_mend 221 (.getfield 26) 3))) ∧ (((dD cX11_mend 224 (.bipush 28) 2 ∧ dD cX11_mend 226 (.iload 5) 2) ∧ (dD cX11_mend 228 .iadd 1 ∧ dD cX11_mend 229 .iaload 1)) ∧ ((dD cX11_mend 230 (.iload_n 3) 1 ∧ dD cX11_mend 231 (.iload 4) 2) ∧ (dD cX11_mend 233 (.invokestatic 479) 3 ∧ dD cX11_mend 236 .iastore 1)))) := dkA16 (by decide +kernel)
theorem dX11_mend_k9 : (((dD cX11_mend 237 (.iinc 5 1) 3 ∧ (dD cX11_mend 240 (.goto (-57)) 3 ∧ dD cX11_mend 243 (.aload_n 0) 1)) ∧ ((dD cX11_mend 244 (.getfield 26) 3 ∧ dD cX11_mend 247 (.bipush 43) 2) ∧ (dD cX11_mend 249 .dup2 1 ∧ dD cX11_mend 250 .iaload 1))) ∧ ((dD cX11_mend 251 (.iconst 1) 1 ∧ (dD cX11_mend 252 (.iload_n 1) 1 ∧ dD cX11_mend 253 .ishl 1)) ∧ ((dD cX11_mend 254 .ior 1 ∧ dD cX11_mend 255 .iastore 1) ∧ (dD cX11_mend 256 (.iload 4) 2 ∧ dD cX11_mend 258 .ireturn 1)))) := dkA14 (by decide +kernel)
theorem dX11_undo_k0 : ((((dD cX11_undo 0 (.aload_n 0) 1 ∧ dD cX11_undo 1 (.invokevirtual 200) 3) ∧ (dD cX11_undo 4 (.aload_n 0) 1 ∧ dD cX11_undo 5 (.getfield 216) 3)) ∧ ((dD cX11_undo 8 (.ifCond .ne 10) 3 ∧ dD cX11_undo 11 (.aload_n 0) 1) ∧ (dD cX11_undo 12 (.bipush 6) 2 ∧ dD cX11_undo 14 (.invokevirtual 473) 3))) ∧ (((dD cX11_undo 17 .ireturn 1 ∧ dD cX11_undo 18 (.aload_n 0) 1) ∧ (dD cX11_undo 19 .dup 1 ∧ dD cX11_undo 20 (.getfield 216) 3)) ∧ ((dD cX11_undo 23 (.iconst 1) 1 ∧ dD cX11_undo 24 .isub 1) ∧ (dD cX11_undo 25 (.putfield 216) 3 ∧ dD cX11_undo 28 (.aload_n 0) 1)))) := dkA16 (by decide +kernel)
theorem dX11_undo_k1 : (((dD cX11_undo 29 (.getfield 29) 3 ∧ (dD cX11_undo 32 (.bipush 44) 2 ∧ dD cX11_undo 34 (.aload_n 0) 1)) ∧ (dD cX11_undo 35 (.getfield 216) 3 ∧ (dD cX11_undo 38 .imul 1 ∧ dD cX11_undo 39 (.aload_n 0) 1))) ∧ ((dD cX11_undo 40 (.getfield 26) 3 ∧ (dD cX11_undo 43 (.iconst 0) 1 ∧ dD cX11_undo 44 (.bipush 44) 2)) ∧ (dD cX11_undo 46 (.invokestatic 209) 3 ∧ (dD cX11_undo 49 (.iconst 1) 1 ∧ dD cX11_undo 50 .ireturn 1)))) := dkA12 (by decide +kernel)
theorem dX11_image_k0 : ((((dD cX11_image 0 (.aload_n 0) 1 ∧ dD cX11_image 1 (.invokevirtual 200) 3) ∧ (dD cX11_image 4 (.aload_n 0) 1 ∧ dD cX11_image 5 (.getfield 213) 3)) ∧ ((dD cX11_image 8 (.ifCond .ne 9) 3 ∧ dD cX11_image 11 (.aload_n 0) 1) ∧ (dD cX11_image 12 (.iconst 1) 1 ∧ dD cX11_image 13 (.invokevirtual 203) 3))) ∧ (((dD cX11_image 16 .ireturn 1 ∧ dD cX11_image 17 (.aload_n 0) 1) ∧ (dD cX11_image 18 (.getfield 219) 3 ∧ dD cX11_image 21 (.iconst 3) 1)) ∧ ((dD cX11_image 22 (.if_icmp .ne 9) 3 ∧ dD cX11_image 25 (.aload_n 0) 1) ∧ (dD cX11_image 26 (.iconst 3) 1 ∧ dD cX11_image 27 (.invokevirtual 203) 3)))) := dkA16 (by decide +kernel)
theorem dX11_image_k1 : ((((dD cX11_image 30 .ireturn 1 ∧ dD cX11_image 31 (.aload_n 0) 1) ∧ (dD cX11_image 32 (.getfield 26) 3 ∧ dD cX11_image 35 (.iconst 0) 1)) ∧ ((dD cX11_image 36 (.aload_n 0) 1 ∧ dD cX11_image 37 (.getfield 32) 3) ∧ (dD cX11_image 40 (.bipush 44) 2 ∧ dD cX11_image 42 (.aload_n 0) 1))) ∧ (((dD cX11_image 43 (.getfield 219) 3 ∧ dD cX11_image 46 .imul 1) ∧ (dD cX11_image 47 (.bipush 44) 2 ∧ dD cX11_image 49 (.invokestatic 209) 3)) ∧ ((dD cX11_image 52 (.aload_n 0) 1 ∧ dD cX11_image 53 .dup 1) ∧ (dD cX11_image 54 (.getfield 219) 3 ∧ dD cX11_image 57 (.iconst 1) 1)))) := dkA16 (by decide +kernel)
theorem dX11_image_k2 : ((dD cX11_image 58 .iadd 1 ∧ (dD cX11_image 59 (.putfield 219) 3 ∧ dD cX11_image 62 (.aload_n 0) 1)) ∧ ((dD cX11_image 63 (.getfield 219) 3 ∧ dD cX11_image 66 (.iconst 1) 1) ∧ (dD cX11_image 67 .isub 1 ∧ dD cX11_image 68 .ireturn 1))) := dkA7 (by decide +kernel)
theorem dX11_back_k0 : ((((dD cX11_back 0 (.aload_n 0) 1 ∧ dD cX11_back 1 (.invokevirtual 200) 3) ∧ (dD cX11_back 4 (.iload_n 1) 1 ∧ dD cX11_back 5 (.iconst 0) 1)) ∧ ((dD cX11_back 6 (.aload_n 0) 1 ∧ dD cX11_back 7 (.getfield 219) 3) ∧ (dD cX11_back 10 (.iconst 1) 1 ∧ dD cX11_back 11 .isub 1))) ∧ (((dD cX11_back 12 (.invokestatic 182) 3 ∧ dD cX11_back 15 (.ifCond .ne 9) 3) ∧ (dD cX11_back 18 (.aload_n 0) 1 ∧ dD cX11_back 19 (.iconst 1) 1)) ∧ ((dD cX11_back 20 (.invokevirtual 473) 3 ∧ dD cX11_back 23 .ireturn 1) ∧ (dD cX11_back 24 (.aload_n 0) 1 ∧ dD cX11_back 25 (.getfield 32) 3)))) := dkA16 (by decide +kernel)
theorem dX11_back_k1 : (((dD cX11_back 28 (.bipush 44) 2 ∧ (dD cX11_back 30 (.iload_n 1) 1 ∧ dD cX11_back 31 .imul 1)) ∧ (dD cX11_back 32 (.aload_n 0) 1 ∧ (dD cX11_back 33 (.getfield 26) 3 ∧ dD cX11_back 36 (.iconst 0) 1))) ∧ ((dD cX11_back 37 (.bipush 44) 2 ∧ (dD cX11_back 39 (.invokestatic 209) 3 ∧ dD cX11_back 42 (.aload_n 0) 1)) ∧ ((dD cX11_back 43 (.iconst 0) 1 ∧ dD cX11_back 44 (.putfield 216) 3) ∧ (dD cX11_back 47 (.iconst 1) 1 ∧ dD cX11_back 48 .ireturn 1)))) := dkA13 (by decide +kernel)
theorem dX11_led_k0 : ((((dD cX11_led 0 (.iconst 0) 1 ∧ dD cX11_led 1 (.istore_n 2) 1) ∧ (dD cX11_led 2 (.iconst 0) 1 ∧ dD cX11_led 3 (.istore_n 3) 1)) ∧ ((dD cX11_led 4 (.aload_n 0) 1 ∧ dD cX11_led 5 (.getfield 213) 3) ∧ (dD cX11_led 8 (.ifCond .eq 46) 3 ∧ dD cX11_led 11 (.iload_n 3) 1))) ∧ (((dD cX11_led 12 (.aload_n 0) 1 ∧ dD cX11_led 13 (.getfield 20) 3) ∧ (dD cX11_led 16 (.bipush 10) 2 ∧ dD cX11_led 18 .iaload 1)) ∧ ((dD cX11_led 19 (.if_icmp .ge 35) 3 ∧ dD cX11_led 22 (.aload_n 0) 1) ∧ (dD cX11_led 23 (.iload_n 3) 1 ∧ dD cX11_led 24 (.invokevirtual 339) 3)))) := dkA16 (by decide +kernel)
theorem dX11_led_k1 : ((((dD cX11_led 27 (.ifCond .eq 6) 3 ∧ dD cX11_led 30 (.goto 18) 3) ∧ (dD cX11_led 33 (.iload_n 2) 1 ∧ dD cX11_led 34 (.iload_n 1) 1)) ∧ ((dD cX11_led 35 (.if_icmp .ne 10) 3 ∧ dD cX11_led 38 (.aload_n 0) 1) ∧ (dD cX11_led 39 (.iconst 0) 1 ∧ dD cX11_led 40 (.putfield 83) 3))) ∧ (((dD cX11_led 43 (.iload_n 3) 1 ∧ dD cX11_led 44 .ireturn 1) ∧ (dD cX11_led 45 (.iinc 2 1) 3 ∧ dD cX11_led 48 (.iinc 3 1) 3)) ∧ ((dD cX11_led 51 (.goto (-47)) 3 ∧ dD cX11_led 54 (.aload_n 0) 1) ∧ (dD cX11_led 55 (.iconst 1) 1 ∧ dD cX11_led 56 (.putfield 83) 3)))) := dkA16 (by decide +kernel)
theorem dX11_led_k2 : (dD cX11_led 59 (.iconst 0) 1 ∧ dD cX11_led 60 .ireturn 1) := dkA2 (by decide +kernel)
set_option maxHeartbeats 4000000 in
set_option maxRecDepth 100000 in
theorem m_led (l : Launch) (g : Gx) (h0 : Nat) (p0 : Int32) (m_thrown : Int32) (a_tape : Nat) (m_taped : Int32) (m_size : Int32) (m_at : Int32) (m_end : Int32) (m_token : Int32) (m_whole : Int32) (m_nameSize : Int32) (m_fault : Int32) (m_place : Int32) (m_trouble : Int32) (a_letters : Nat) (m_failed : Int32) (m_hasHouse : Int32) (a_r : Nat) (a_fresh : Nat) (a_st : Nat) (a_undone : Nat) (a_kept : Nat) (m_undos : Int32) (m_images : Int32) (a_from : Nat) (a_begin : Nat) (a_motor : Nat) (a_change : Nat) (a_startFrame : Nat) (a_changeFrame : Nat) (a_lostAt : Nat) (a_blackAt : Nat) (a_slips : Nat) (a_leftArc : Nat) (a_died : Nat) (a_arcs : Nat) (m_bestSum : Int32) (m_nearest : Int32) (m_nearestTown : Int32) (a_there : Nat) (a_backAt : Nat) (a_sorted : Nat) (a_parts : Nat) (m_seed1 : Int32) (m_darkNow : Int32) (d_r : Nat → Int32) (d_st : Nat → Int32) (hv_m_hasHouse : IV m_hasHouse 0 1) (hp_d_r : RInv d_r) : cI l g yX11_led cX11_led 4 (some .int) 2 42 0 0 [.ref h0, .int p0] [(cO11_i1r1i10r1i2r5i2r12i3r4i2 h0 m_thrown a_tape m_taped m_size m_at m_end m_token m_whole m_nameSize m_fault m_place m_trouble a_letters m_failed m_hasHouse a_r a_fresh a_st a_undone a_kept m_undos m_images a_from a_begin a_motor a_change a_startFrame a_changeFrame a_lostAt a_blackAt a_slips a_leftArc a_died a_arcs m_bestSum m_nearest m_nearestTown a_there a_backAt a_sorted a_parts m_seed1 m_darkNow), (cAI g a_r 311 d_r), (cAI g a_st 44 d_st)] (fun r w => ∃ (m_thrown2 : Int32), w = [(cO11_i1r1i10r1i2r5i2r12i3r4i2 h0 m_thrown2 a_tape m_taped m_size m_at m_end m_token m_whole m_nameSize m_fault m_place m_trouble a_letters m_failed m_hasHouse a_r a_fresh a_st a_undone a_kept m_undos m_images a_from a_begin a_motor a_change a_startFrame a_changeFrame a_lostAt a_blackAt a_slips a_leftArc a_died a_arcs m_bestSum m_nearest m_nearestTown a_there a_backAt a_sorted a_parts m_seed1 m_darkNow), (cAI g a_r 311 d_r), (cAI g a_st 44 d_st)]) := by
  refine cI.of (by decide) (Nat.le_of_ble_eq_true rfl) ?_
  intro p e s m args below meth c A X hr hi
  refine k_lveq [(0, .ref h0), (1, .int p0)] rfl ?_
  refine k_iconst (v := 0) X dX11_led_k0.1.1.1.1 ic_0 ?_
  refine k_istore_n [(2, .int 0), (0, .ref h0), (1, .int p0)] X dX11_led_k0.1.1.1.2 (nlt_e rfl) rfl ?_
  refine k_iconst (v := 0) X dX11_led_k0.1.1.2.1 ic_0 ?_
  refine k_istore_n [(3, .int 0), (2, .int 0), (0, .ref h0), (1, .int p0)] X dX11_led_k0.1.1.2.2 (nlt_e rfl) rfl ?_
  refine (fun hL : ∀ (nn_4 : Nat) (u_1 : Int32) (u_2 : Int32), (2147483647 - u_2.toInt).toNat = nn_4 → (IV u_2 0 8) → Wk p l e _ s m args below meth c _ A g _ _ _ [(cO11_i1r1i10r1i2r5i2r12i3r4i2 h0 m_thrown a_tape m_taped m_size m_at m_end m_token m_whole m_nameSize m_fault m_place m_trouble a_letters m_failed m_hasHouse a_r a_fresh a_st a_undone a_kept m_undos m_images a_from a_begin a_motor a_change a_startFrame a_changeFrame a_lostAt a_blackAt a_slips a_leftArc a_died a_arcs m_bestSum m_nearest m_nearestTown a_there a_backAt a_sorted a_parts m_seed1 m_darkNow), (cAI g a_r 311 d_r), (cAI g a_st 44 d_st)] [(3, .int u_2), (2, .int u_1), (0, .ref h0), (1, .int p0)] 4 [] => hL _ 0 0 rfl (iv_w iq_0_0_0 (zle_e rfl) (zle_e rfl))) ?_
  refine fun nn_4 => Nat.strongRecOn nn_4 (fun nn_4 ih_6 => ?_)
  intro u_1 u_2 hm_5 hv_3
  refine k_aload_n X dX11_led_k0.1.2.1.1 2 rfl ?_
  refine k_get (ci := 11) X inlX11 rfl 14 (nlt_e rfl) dX11_led_k0.1.2.1.2 mw474 0 rfl rfl ?_
  refine k_if_eq 54 X dX11_led_k0.1.2.2.1 (jp_e rfl) (fun h_7 => ?_) (fun h_7 => ?_)
  · skip
    have iv_8 : IV m_hasHouse 0 0 := iv_meet hv_m_hasHouse (iv_e h_7 iq_0_0_0) (zle_o rfl) (zle_o rfl)
    refine k_aload_n X dX11_led_k1.2.2.1.2 2 rfl ?_
    refine k_iconst (v := 1) X dX11_led_k1.2.2.2.1 ic_1 ?_
    refine k_put (ci := 11) [(cO11_i1r1i10r1i2r5i2r12i3r4i2 h0 1 a_tape m_taped m_size m_at m_end m_token m_whole m_nameSize m_fault m_place m_trouble a_letters m_failed m_hasHouse a_r a_fresh a_st a_undone a_kept m_undos m_images a_from a_begin a_motor a_change a_startFrame a_changeFrame a_lostAt a_blackAt a_slips a_leftArc a_died a_arcs m_bestSum m_nearest m_nearestTown a_there a_backAt a_sorted a_parts m_seed1 m_darkNow), (cAI g a_r 311 d_r), (cAI g a_st 44 d_st)] X inlX11 rfl tyX11_ok nmX11 0 (nlt_e rfl) rfl dX11_led_k1.2.2.2.2 mw204 0 rfl rfl rfl (Nat.le_of_ble_eq_true rfl) rfl ?_
    refine k_iconst (v := 0) X dX11_led_k2.1 ic_0 ?_
    exact k_iret X hr dX11_led_k2.2 (Nat.le_of_ble_eq_true rfl) (Nat.le_of_ble_eq_true rfl) [0, 1, 2] (vnd_e rfl) rfl rfl ⟨1, rfl⟩
  · skip
    have iv_9 : IV m_hasHouse 1 1 := iv_neL h_7 hv_m_hasHouse iq_0_0_0 (zle_e rfl)
    refine k_iload_n X dX11_led_k0.1.2.2.2 0 rfl ?_
    refine k_aload_n X dX11_led_k0.2.1.1.1 2 rfl ?_
    refine k_get (ci := 11) X inlX11 rfl 15 (nlt_e rfl) dX11_led_k0.2.1.1.2 mw170 0 rfl rfl ?_
    refine k_bipush (v := 10) X dX11_led_k0.2.1.2.1 bi_10 ?_
    refine k_iald X dX11_led_k0.2.1.2.2 1 rfl (by unfold vp_in; decide) ?_
    refine k_nm (fun z_10 ez_10 => ?_)
    have i_11 : z_10.toInt = (d_r 10).toInt := by rw [ez_10]; rfl
    have iv_12 : IV z_10 0 6 := rb_10 ez_10 hp_d_r
    refine k_ic_ge 54 X dX11_led_k0.2.2.1.1 (jp_e rfl) (fun h_13 => ?_) (fun h_13 => ?_)
    · skip
      have j_14 : z_10.toInt ≤ u_2.toInt := iv_le h_13
      refine k_aload_n X dX11_led_k1.2.2.1.2 2 rfl ?_
      refine k_iconst (v := 1) X dX11_led_k1.2.2.2.1 ic_1 ?_
      refine k_put (ci := 11) [(cO11_i1r1i10r1i2r5i2r12i3r4i2 h0 1 a_tape m_taped m_size m_at m_end m_token m_whole m_nameSize m_fault m_place m_trouble a_letters m_failed m_hasHouse a_r a_fresh a_st a_undone a_kept m_undos m_images a_from a_begin a_motor a_change a_startFrame a_changeFrame a_lostAt a_blackAt a_slips a_leftArc a_died a_arcs m_bestSum m_nearest m_nearestTown a_there a_backAt a_sorted a_parts m_seed1 m_darkNow), (cAI g a_r 311 d_r), (cAI g a_st 44 d_st)] X inlX11 rfl tyX11_ok nmX11 0 (nlt_e rfl) rfl dX11_led_k1.2.2.2.2 mw204 0 rfl rfl rfl (Nat.le_of_ble_eq_true rfl) rfl ?_
      refine k_iconst (v := 0) X dX11_led_k2.1 ic_0 ?_
      exact k_iret X hr dX11_led_k2.2 (Nat.le_of_ble_eq_true rfl) (Nat.le_of_ble_eq_true rfl) [0, 1, 2] (vnd_e rfl) rfl rfl ⟨1, rfl⟩
    · skip
      have j_15 : u_2.toInt < z_10.toInt := iv_nle h_13
      have iv_16 : IV u_2 0 5 := iv_ltL (iv_nle h_13) hv_3 iv_12 (zle_e rfl)
      have iv_17 : IV z_10 1 6 := iv_ltR (iv_nle h_13) hv_3 iv_12 (zle_e rfl)
      refine k_aload_n X dX11_led_k0.2.2.1.2 2 rfl ?_
      refine k_iload_n X dX11_led_k0.2.2.2.1 0 rfl ?_
      refine k_callVI (n := 1) (As := [.int u_2]) (st := []) X [(cO11_i1r1i10r1i2r5i2r12i3r4i2 h0 m_thrown a_tape m_taped m_size m_at m_end m_token m_whole m_nameSize m_fault m_place m_trouble a_letters m_failed m_hasHouse a_r a_fresh a_st a_undone a_kept m_undos m_images a_from a_begin a_motor a_change a_startFrame a_changeFrame a_lostAt a_blackAt a_slips a_leftArc a_died a_arcs m_bestSum m_nearest m_nearestTown a_there a_backAt a_sorted a_parts m_seed1 m_darkNow), (cAI g a_st 44 d_st)] [(cAI g a_r 311 d_r)] [0, 2] [1] (m_isMended l g h0 u_2 m_thrown a_tape m_taped m_size m_at m_end m_token m_whole m_nameSize m_fault m_place m_trouble a_letters m_failed m_hasHouse a_r a_fresh a_st a_undone a_kept m_undos m_images a_from a_begin a_motor a_change a_startFrame a_changeFrame a_lostAt a_blackAt a_slips a_leftArc a_died a_arcs m_bestSum m_nearest m_nearestTown a_there a_backAt a_sorted a_parts m_seed1 m_darkNow d_st) dX11_led_k0.2.2.2.2 mw682 mw683 mw684 mw5 mw685 rfl 11 rfl rfl 0 _ rfl yk_yX11_isMended_1 rfl (Nat.le_of_ble_eq_true rfl) (Nat.le_of_ble_eq_true rfl) (Nat.le_of_ble_eq_true rfl) (Nat.le_of_ble_eq_true rfl) (Nat.le_of_ble_eq_true rfl) rfl rfl (vnd_e rfl) rfl (vnd_e rfl) (dsj_e rfl) ?_
      rintro r_18 w ⟨iv_19, rfl⟩
      refine k_ws [(cAI g a_r 311 d_r), (cO11_i1r1i10r1i2r5i2r12i3r4i2 h0 m_thrown a_tape m_taped m_size m_at m_end m_token m_whole m_nameSize m_fault m_place m_trouble a_letters m_failed m_hasHouse a_r a_fresh a_st a_undone a_kept m_undos m_images a_from a_begin a_motor a_change a_startFrame a_changeFrame a_lostAt a_blackAt a_slips a_leftArc a_died a_arcs m_bestSum m_nearest m_nearestTown a_there a_backAt a_sorted a_parts m_seed1 m_darkNow), (cAI g a_st 44 d_st)] rfl ?_
      refine k_if_eq 33 X dX11_led_k1.1.1.1.1 (jp_e rfl) (fun h_20 => ?_) (fun h_20 => ?_)
      · skip
        have iv_21 : IV r_18 0 0 := iv_meet iv_19 (iv_e h_20 iq_0_0_0) (zle_o rfl) (zle_o rfl)
        refine k_iload_n X dX11_led_k1.1.1.2.1 1 rfl ?_
        refine k_iload_n X dX11_led_k1.1.1.2.2 3 rfl ?_
        refine k_ic_ne 45 X dX11_led_k1.1.2.1.1 (jp_e rfl) (fun h_22 => ?_) (fun h_22 => ?_)
        · skip
          obtain ⟨z_23, ez_23⟩ : ∃ y : Int32, u_1 + Int32.ofInt 1 = y := ⟨_, rfl⟩
          refine k_iinc z_23 [(2, .int z_23), (3, .int u_2), (0, .ref h0), (1, .int p0)] 1 X dX11_led_k1.2.1.2.1 rfl ez_23 (nlt_e rfl) rfl ?_
          obtain ⟨z_24, ez_24⟩ : ∃ y : Int32, u_2 + Int32.ofInt 1 = y := ⟨_, rfl⟩
          refine k_iinc z_24 [(3, .int z_24), (2, .int z_23), (0, .ref h0), (1, .int p0)] 1 X dX11_led_k1.2.1.2.2 rfl ez_24 (nlt_e rfl) rfl ?_
          have i_25 : z_24.toInt = u_2.toInt + 1 := in_inc ez_24 (oin_e rfl) iv_16 (zle_e rfl) (zle_e rfl)
          have iv_26 : IV z_24 1 6 := iz1 i_25 iv_16 (zle_e rfl) (zle_e rfl)
          refine k_goto 4 X dX11_led_k1.2.2.1.1 (jp_e rfl) ?_
          refine k_sub [(cO11_i1r1i10r1i2r5i2r12i3r4i2 h0 m_thrown a_tape m_taped m_size m_at m_end m_token m_whole m_nameSize m_fault m_place m_trouble a_letters m_failed m_hasHouse a_r a_fresh a_st a_undone a_kept m_undos m_images a_from a_begin a_motor a_change a_startFrame a_changeFrame a_lostAt a_blackAt a_slips a_leftArc a_died a_arcs m_bestSum m_nearest m_nearestTown a_there a_backAt a_sorted a_parts m_seed1 m_darkNow), (cAI g a_r 311 d_r), (cAI g a_st 44 d_st)] [1, 0, 2] rfl (by decide) rfl ?_
          exact ih_6 _ (by omega) z_23 z_24 rfl (iv_w iv_26 (zle_e rfl) (zle_e rfl))
        · skip
          refine k_aload_n X dX11_led_k1.1.2.1.2 2 rfl ?_
          refine k_iconst (v := 0) X dX11_led_k1.1.2.2.1 ic_0 ?_
          refine k_put (ci := 11) [(cAI g a_r 311 d_r), (cO11_i1r1i10r1i2r5i2r12i3r4i2 h0 0 a_tape m_taped m_size m_at m_end m_token m_whole m_nameSize m_fault m_place m_trouble a_letters m_failed m_hasHouse a_r a_fresh a_st a_undone a_kept m_undos m_images a_from a_begin a_motor a_change a_startFrame a_changeFrame a_lostAt a_blackAt a_slips a_leftArc a_died a_arcs m_bestSum m_nearest m_nearestTown a_there a_backAt a_sorted a_parts m_seed1 m_darkNow), (cAI g a_st 44 d_st)] X inlX11 rfl tyX11_ok nmX11 0 (nlt_e rfl) rfl dX11_led_k1.1.2.2.2 mw204 1 rfl rfl rfl (Nat.le_of_ble_eq_true rfl) rfl ?_
          refine k_iload_n X dX11_led_k1.2.1.1.1 0 rfl ?_
          exact k_iret X hr dX11_led_k1.2.1.1.2 (Nat.le_of_ble_eq_true rfl) (Nat.le_of_ble_eq_true rfl) [1, 0, 2] (vnd_e rfl) rfl rfl ⟨0, rfl⟩
      · skip
        have iv_27 : IV r_18 1 1 := iv_neL h_20 iv_19 iq_0_0_0 (zle_e rfl)
        refine k_goto 48 X dX11_led_k1.1.1.1.2 (jp_e rfl) ?_
        obtain ⟨z_28, ez_28⟩ : ∃ y : Int32, u_2 + Int32.ofInt 1 = y := ⟨_, rfl⟩
        refine k_iinc z_28 [(3, .int z_28), (2, .int u_1), (0, .ref h0), (1, .int p0)] 0 X dX11_led_k1.2.1.2.2 rfl ez_28 (nlt_e rfl) rfl ?_
        have i_29 : z_28.toInt = u_2.toInt + 1 := in_inc ez_28 (oin_e rfl) iv_16 (zle_e rfl) (zle_e rfl)
        have iv_30 : IV z_28 1 6 := iz1 i_29 iv_16 (zle_e rfl) (zle_e rfl)
        refine k_goto 4 X dX11_led_k1.2.2.1.1 (jp_e rfl) ?_
        refine k_sub [(cO11_i1r1i10r1i2r5i2r12i3r4i2 h0 m_thrown a_tape m_taped m_size m_at m_end m_token m_whole m_nameSize m_fault m_place m_trouble a_letters m_failed m_hasHouse a_r a_fresh a_st a_undone a_kept m_undos m_images a_from a_begin a_motor a_change a_startFrame a_changeFrame a_lostAt a_blackAt a_slips a_leftArc a_died a_arcs m_bestSum m_nearest m_nearestTown a_there a_backAt a_sorted a_parts m_seed1 m_darkNow), (cAI g a_r 311 d_r), (cAI g a_st 44 d_st)] [1, 0, 2] rfl (by decide) rfl ?_
        exact ih_6 _ (by omega) u_1 z_28 rfl (iv_w iv_30 (zle_e rfl) (zle_e rfl))

theorem dX11_size_k0 : ((((dD cX11_size 0 (.aload_n 0) 1 ∧ dD cX11_size 1 (.iconst 0) 1) ∧ (dD cX11_size 2 (.putfield 83) 3 ∧ dD cX11_size 5 (.iload_n 1) 1)) ∧ ((dD cX11_size 6 (.bipush 17) 2 ∧ dD cX11_size 8 (.if_icmp .ne 8) 3) ∧ (dD cX11_size 11 (.aload_n 0) 1 ∧ dD cX11_size 12 (.getfield 89) 3))) ∧ (((dD cX11_size 15 .ireturn 1 ∧ dD cX11_size 16 (.aload_n 0) 1) ∧ (dD cX11_size 17 (.getfield 213) 3 ∧ dD cX11_size 20 (.ifCond .ne 19) 3)) ∧ ((dD cX11_size 23 (.iload_n 1) 1 ∧ dD cX11_size 24 (.iconst 0) 1) ∧ (dD cX11_size 25 (.bipush 16) 2 ∧ dD cX11_size 27 (.invokestatic 182) 3)))) := dkA16 (by decide +kernel)
theorem dX11_size_k1 : ((((dD cX11_size 30 (.ifCond .eq 7) 3 ∧ dD cX11_size 33 (.iconst 0) 1) ∧ (dD cX11_size 34 (.goto 4) 3 ∧ dD cX11_size 37 (.iconst (-1)) 1)) ∧ ((dD cX11_size 38 .ireturn 1 ∧ dD cX11_size 39 (.iload_n 1) 1) ∧ (dD cX11_size 40 (.bipush 9) 2 ∧ dD cX11_size 42 (.if_icmp .ne 22) 3))) ∧ (((dD cX11_size 45 (.aload_n 0) 1 ∧ dD cX11_size 46 (.getfield 20) 3) ∧ (dD cX11_size 49 (.bipush 9) 2 ∧ dD cX11_size 51 .iaload 1)) ∧ ((dD cX11_size 52 (.aload_n 0) 1 ∧ dD cX11_size 53 (.getfield 26) 3) ∧ (dD cX11_size 56 (.bipush 43) 2 ∧ dD cX11_size 58 .iaload 1)))) := dkA16 (by decide +kernel)
theorem dX11_size_k2 : ((((dD cX11_size 59 (.invokestatic 394) 3 ∧ dD cX11_size 62 .iadd 1) ∧ (dD cX11_size 63 .ireturn 1 ∧ dD cX11_size 64 (.iload_n 1) 1)) ∧ ((dD cX11_size 65 (.iconst 0) 1 ∧ dD cX11_size 66 (.bipush 14) 2) ∧ (dD cX11_size 68 (.invokestatic 182) 3 ∧ dD cX11_size 71 (.ifCond .eq 10) 3))) ∧ (((dD cX11_size 74 (.aload_n 0) 1 ∧ dD cX11_size 75 (.getfield 20) 3) ∧ (dD cX11_size 78 (.iload_n 1) 1 ∧ dD cX11_size 79 .iaload 1)) ∧ ((dD cX11_size 80 .ireturn 1 ∧ dD cX11_size 81 (.iload_n 1) 1) ∧ (dD cX11_size 82 (.bipush 15) 2 ∧ dD cX11_size 84 (.if_icmp .ne 10) 3)))) := dkA16 (by decide +kernel)
theorem dX11_size_k3 : (((dD cX11_size 87 (.aload_n 0) 1 ∧ dD cX11_size 88 (.getfield 216) 3) ∧ (dD cX11_size 91 (.goto 17) 3 ∧ (dD cX11_size 94 (.iload_n 1) 1 ∧ dD cX11_size 95 (.bipush 16) 2))) ∧ ((dD cX11_size 97 (.if_icmp .ne 10) 3 ∧ (dD cX11_size 100 (.aload_n 0) 1 ∧ dD cX11_size 101 (.getfield 219) 3)) ∧ (dD cX11_size 104 (.goto 4) 3 ∧ (dD cX11_size 107 (.iconst (-1)) 1 ∧ dD cX11_size 108 .ireturn 1)))) := dkA11 (by decide +kernel)
set_option maxHeartbeats 4000000 in
set_option maxRecDepth 100000 in
theorem m_size (l : Launch) (g : Gx) (h0 : Nat) (p0 : Int32) (m_thrown : Int32) (a_tape : Nat) (m_taped : Int32) (m_size : Int32) (m_at : Int32) (m_end : Int32) (m_token : Int32) (m_whole : Int32) (m_nameSize : Int32) (m_fault : Int32) (m_place : Int32) (m_trouble : Int32) (a_letters : Nat) (m_failed : Int32) (m_hasHouse : Int32) (a_r : Nat) (a_fresh : Nat) (a_st : Nat) (a_undone : Nat) (a_kept : Nat) (m_undos : Int32) (m_images : Int32) (a_from : Nat) (a_begin : Nat) (a_motor : Nat) (a_change : Nat) (a_startFrame : Nat) (a_changeFrame : Nat) (a_lostAt : Nat) (a_blackAt : Nat) (a_slips : Nat) (a_leftArc : Nat) (a_died : Nat) (a_arcs : Nat) (m_bestSum : Int32) (m_nearest : Int32) (m_nearestTown : Int32) (a_there : Nat) (a_backAt : Nat) (a_sorted : Nat) (a_parts : Nat) (m_seed1 : Int32) (m_darkNow : Int32) (d_r : Nat → Int32) (d_st : Nat → Int32) (hv_m_hasHouse : IV m_hasHouse 0 1) (hv_m_undos : IV m_undos 0 12) (hv_m_images : IV m_images 0 3) (hv_m_taped : IV m_taped 0 900) (hp_d_r : RInv d_r) : cI l g yX11_size cX11_size 2 (some .int) 1 22 0 0 [.ref h0, .int p0] [(cO11_i1r1i10r1i2r5i2r12i3r4i2 h0 m_thrown a_tape m_taped m_size m_at m_end m_token m_whole m_nameSize m_fault m_place m_trouble a_letters m_failed m_hasHouse a_r a_fresh a_st a_undone a_kept m_undos m_images a_from a_begin a_motor a_change a_startFrame a_changeFrame a_lostAt a_blackAt a_slips a_leftArc a_died a_arcs m_bestSum m_nearest m_nearestTown a_there a_backAt a_sorted a_parts m_seed1 m_darkNow), (cAI g a_r 311 d_r), (cAI g a_st 44 d_st)] (fun r w => ∃ (m_thrown2 : Int32), w = [(cO11_i1r1i10r1i2r5i2r12i3r4i2 h0 m_thrown2 a_tape m_taped m_size m_at m_end m_token m_whole m_nameSize m_fault m_place m_trouble a_letters m_failed m_hasHouse a_r a_fresh a_st a_undone a_kept m_undos m_images a_from a_begin a_motor a_change a_startFrame a_changeFrame a_lostAt a_blackAt a_slips a_leftArc a_died a_arcs m_bestSum m_nearest m_nearestTown a_there a_backAt a_sorted a_parts m_seed1 m_darkNow), (cAI g a_r 311 d_r), (cAI g a_st 44 d_st)]) := by
  refine cI.of (by decide) (Nat.le_of_ble_eq_true rfl) ?_
  intro p e s m args below meth c A X hr hi
  refine k_lveq [(0, .ref h0), (1, .int p0)] rfl ?_
  refine k_aload_n X dX11_size_k0.1.1.1.1 0 rfl ?_
  refine k_iconst (v := 0) X dX11_size_k0.1.1.1.2 ic_0 ?_
  refine k_put (ci := 11) [(cO11_i1r1i10r1i2r5i2r12i3r4i2 h0 0 a_tape m_taped m_size m_at m_end m_token m_whole m_nameSize m_fault m_place m_trouble a_letters m_failed m_hasHouse a_r a_fresh a_st a_undone a_kept m_undos m_images a_from a_begin a_motor a_change a_startFrame a_changeFrame a_lostAt a_blackAt a_slips a_leftArc a_died a_arcs m_bestSum m_nearest m_nearestTown a_there a_backAt a_sorted a_parts m_seed1 m_darkNow), (cAI g a_r 311 d_r), (cAI g a_st 44 d_st)] X inlX11 rfl tyX11_ok nmX11 0 (nlt_e rfl) rfl dX11_size_k0.1.1.2.1 mw204 0 rfl rfl rfl (Nat.le_of_ble_eq_true rfl) rfl ?_
  refine k_iload_n X dX11_size_k0.1.1.2.2 1 rfl ?_
  refine k_bipush (v := 17) X dX11_size_k0.1.2.1.1 bi_17 ?_
  refine k_ic_ne 16 X dX11_size_k0.1.2.1.2 (jp_e rfl) (fun h_1 => ?_) (fun h_1 => ?_)
  · skip
    refine k_aload_n X dX11_size_k0.2.1.1.2 0 rfl ?_
    refine k_get (ci := 11) X inlX11 rfl 14 (nlt_e rfl) dX11_size_k0.2.1.2.1 mw474 0 rfl rfl ?_
    refine k_if_ne 39 X dX11_size_k0.2.1.2.2 (jp_e rfl) (fun h_2 => ?_) (fun h_2 => ?_)
    · skip
      have iv_3 : IV m_hasHouse 1 1 := iv_neL h_2 hv_m_hasHouse iq_0_0_0 (zle_e rfl)
      refine k_iload_n X dX11_size_k1.1.2.1.2 1 rfl ?_
      refine k_bipush (v := 9) X dX11_size_k1.1.2.2.1 bi_9 ?_
      refine k_ic_ne 64 X dX11_size_k1.1.2.2.2 (jp_e rfl) (fun h_4 => ?_) (fun h_4 => ?_)
      · skip
        refine k_iload_n X dX11_size_k2.1.1.2.2 1 rfl ?_
        refine k_iconst (v := 0) X dX11_size_k2.1.2.1.1 ic_0 ?_
        refine k_bipush (v := 14) X dX11_size_k2.1.2.1.2 bi_14 ?_
        refine k_callSI (n := 3) (As := [.int p0, .int 0, .int 14]) (st := []) X [] [(cO11_i1r1i10r1i2r5i2r12i3r4i2 h0 0 a_tape m_taped m_size m_at m_end m_token m_whole m_nameSize m_fault m_place m_trouble a_letters m_failed m_hasHouse a_r a_fresh a_st a_undone a_kept m_undos m_images a_from a_begin a_motor a_change a_startFrame a_changeFrame a_lostAt a_blackAt a_slips a_leftArc a_died a_arcs m_bestSum m_nearest m_nearestTown a_there a_backAt a_sorted a_parts m_seed1 m_darkNow), (cAI g a_r 311 d_r), (cAI g a_st 44 d_st)] [] [0, 1, 2] (m_in l g p0 0 14) dX11_size_k2.1.2.2.1 mw482 mw483 mw5 mw484 yk_yX11_in_3 rfl (Nat.le_of_ble_eq_true rfl) (Nat.le_of_ble_eq_true rfl) (Nat.le_of_ble_eq_true rfl) (Nat.le_of_ble_eq_true rfl) (Nat.le_of_ble_eq_true rfl) rfl rfl (vnd_e rfl) rfl (vnd_e rfl) (dsj_e rfl) ?_
        rintro r_5 w ⟨iv_6, hk_7, hk_8, rfl⟩
        refine k_ws [(cO11_i1r1i10r1i2r5i2r12i3r4i2 h0 0 a_tape m_taped m_size m_at m_end m_token m_whole m_nameSize m_fault m_place m_trouble a_letters m_failed m_hasHouse a_r a_fresh a_st a_undone a_kept m_undos m_images a_from a_begin a_motor a_change a_startFrame a_changeFrame a_lostAt a_blackAt a_slips a_leftArc a_died a_arcs m_bestSum m_nearest m_nearestTown a_there a_backAt a_sorted a_parts m_seed1 m_darkNow), (cAI g a_r 311 d_r), (cAI g a_st 44 d_st)] rfl ?_
        refine k_if_eq 81 X dX11_size_k2.1.2.2.2 (jp_e rfl) (fun h_9 => ?_) (fun h_9 => ?_)
        · skip
          have iv_10 : IV r_5 0 0 := iv_meet iv_6 (iv_e h_9 iq_0_0_0) (zle_o rfl) (zle_o rfl)
          have hc_11 := hk_8 (iv_eq iv_10 iq_0_0_0)
          have j_12 : p0.toInt < 0 ∨ 14 < p0.toInt := hc_11
          refine k_iload_n X dX11_size_k2.2.2.1.2 1 rfl ?_
          refine k_bipush (v := 15) X dX11_size_k2.2.2.2.1 bi_15 ?_
          refine k_ic_ne 94 X dX11_size_k2.2.2.2.2 (jp_e rfl) (fun h_13 => ?_) (fun h_13 => ?_)
          · skip
            refine k_iload_n X dX11_size_k3.1.2.2.1 1 rfl ?_
            refine k_bipush (v := 16) X dX11_size_k3.1.2.2.2 bi_16 ?_
            refine k_ic_ne 107 X dX11_size_k3.2.1.1 (jp_e rfl) (fun h_14 => ?_) (fun h_14 => ?_)
            · skip
              refine k_iconst (v := -1) X dX11_size_k3.2.2.2.1 ic_m1 ?_
              exact k_iret X hr dX11_size_k3.2.2.2.2 (Nat.le_of_ble_eq_true rfl) (Nat.le_of_ble_eq_true rfl) [0, 1, 2] (vnd_e rfl) rfl rfl ⟨0, rfl⟩
            · skip
              have iv_15 : IV p0 16 16 := iv_meet (iv_any p0) (iv_e h_14 iq_16_16_16) (zle_o rfl) (zle_o rfl)
              refine k_aload_n X dX11_size_k3.2.1.2.1 0 rfl ?_
              refine k_get (ci := 11) X inlX11 rfl 21 (nlt_e rfl) dX11_size_k3.2.1.2.2 mw476 0 rfl rfl ?_
              refine k_goto 108 X dX11_size_k3.2.2.1 (jp_e rfl) ?_
              exact k_iret X hr dX11_size_k3.2.2.2.2 (Nat.le_of_ble_eq_true rfl) (Nat.le_of_ble_eq_true rfl) [0, 1, 2] (vnd_e rfl) rfl rfl ⟨0, rfl⟩
          · skip
            have iv_16 : IV p0 15 15 := iv_meet (iv_any p0) (iv_e h_13 iq_15_15_15) (zle_o rfl) (zle_o rfl)
            refine k_aload_n X dX11_size_k3.1.1.1 0 rfl ?_
            refine k_get (ci := 11) X inlX11 rfl 20 (nlt_e rfl) dX11_size_k3.1.1.2 mw475 0 rfl rfl ?_
            refine k_goto 108 X dX11_size_k3.1.2.1 (jp_e rfl) ?_
            exact k_iret X hr dX11_size_k3.2.2.2.2 (Nat.le_of_ble_eq_true rfl) (Nat.le_of_ble_eq_true rfl) [0, 1, 2] (vnd_e rfl) rfl rfl ⟨0, rfl⟩
        · skip
          have hc_17 := hk_7.resolve_left h_9
          have j_18 : 0 ≤ p0.toInt := hc_17.1
          have iv_19 : IV p0 0 2147483647 := iv_leR hc_17.1 iq_0_0_0 (iv_any p0) (zle_e rfl)
          have j_20 : p0.toInt ≤ 14 := hc_17.2
          have iv_21 : IV p0 0 14 := iv_leL hc_17.2 iv_19 iq_14_14_14 (zle_e rfl)
          have iv_22 : IV r_5 1 1 := iv_neL h_9 iv_6 iq_0_0_0 (zle_e rfl)
          refine k_aload_n X dX11_size_k2.2.1.1.1 0 rfl ?_
          refine k_get (ci := 11) X inlX11 rfl 15 (nlt_e rfl) dX11_size_k2.2.1.1.2 mw170 0 rfl rfl ?_
          refine k_iload_n X dX11_size_k2.2.1.2.1 1 rfl ?_
          refine k_iald X dX11_size_k2.2.1.2.2 1 rfl (iv_in iv_21 (zle_e rfl) (zle_l rfl)) ?_
          refine k_nm (fun z_23 ez_23 => ?_)
          exact k_iret X hr dX11_size_k2.2.2.1.1 (Nat.le_of_ble_eq_true rfl) (Nat.le_of_ble_eq_true rfl) [0, 1, 2] (vnd_e rfl) rfl rfl ⟨0, rfl⟩
      · skip
        have iv_24 : IV p0 9 9 := iv_meet (iv_any p0) (iv_e h_4 iq_9_9_9) (zle_o rfl) (zle_o rfl)
        refine k_aload_n X dX11_size_k1.2.1.1.1 0 rfl ?_
        refine k_get (ci := 11) X inlX11 rfl 15 (nlt_e rfl) dX11_size_k1.2.1.1.2 mw170 0 rfl rfl ?_
        refine k_bipush (v := 9) X dX11_size_k1.2.1.2.1 bi_9 ?_
        refine k_iald X dX11_size_k1.2.1.2.2 1 rfl (by unfold vp_in; decide) ?_
        refine k_nm (fun z_25 ez_25 => ?_)
        have i_26 : z_25.toInt = (d_r 9).toInt := by rw [ez_25]; rfl
        have iv_27 : IV z_25 0 8 := rb_9 ez_25 hp_d_r
        refine k_aload_n X dX11_size_k1.2.2.1.1 0 rfl ?_
        refine k_get (ci := 11) X inlX11 rfl 17 (nlt_e rfl) dX11_size_k1.2.2.1.2 mw172 0 rfl rfl ?_
        refine k_bipush (v := 43) X dX11_size_k1.2.2.2.1 bi_43 ?_
        refine k_iald X dX11_size_k1.2.2.2.2 2 rfl (by unfold vp_in; decide) ?_
        refine k_nm (fun z_28 ez_28 => ?_)
        refine k_callSI (n := 1) (As := [.int z_28]) (st := [.int z_25]) X [] [(cO11_i1r1i10r1i2r5i2r12i3r4i2 h0 0 a_tape m_taped m_size m_at m_end m_token m_whole m_nameSize m_fault m_place m_trouble a_letters m_failed m_hasHouse a_r a_fresh a_st a_undone a_kept m_undos m_images a_from a_begin a_motor a_change a_startFrame a_changeFrame a_lostAt a_blackAt a_slips a_leftArc a_died a_arcs m_bestSum m_nearest m_nearestTown a_there a_backAt a_sorted a_parts m_seed1 m_darkNow), (cAI g a_r 311 d_r), (cAI g a_st 44 d_st)] [] [0, 1, 2] (m_ones l g z_28) dX11_size_k2.1.1.1.1 mw1110 mw1111 mw5 mw1112 yk_yX11_ones_1 rfl (Nat.le_of_ble_eq_true rfl) (Nat.le_of_ble_eq_true rfl) (Nat.le_of_ble_eq_true rfl) (Nat.le_of_ble_eq_true rfl) (Nat.le_of_ble_eq_true rfl) rfl rfl (vnd_e rfl) rfl (vnd_e rfl) (dsj_e rfl) ?_
        rintro r_29 w rfl
        refine k_ws [(cO11_i1r1i10r1i2r5i2r12i3r4i2 h0 0 a_tape m_taped m_size m_at m_end m_token m_whole m_nameSize m_fault m_place m_trouble a_letters m_failed m_hasHouse a_r a_fresh a_st a_undone a_kept m_undos m_images a_from a_begin a_motor a_change a_startFrame a_changeFrame a_lostAt a_blackAt a_slips a_leftArc a_died a_arcs m_bestSum m_nearest m_nearestTown a_there a_backAt a_sorted a_parts m_seed1 m_darkNow), (cAI g a_r 311 d_r), (cAI g a_st 44 d_st)] rfl ?_
        refine k_iadd X dX11_size_k2.1.1.1.2 ?_
        refine k_nm (fun z_30 ez_30 => ?_)
        exact k_iret X hr dX11_size_k2.1.1.2.1 (Nat.le_of_ble_eq_true rfl) (Nat.le_of_ble_eq_true rfl) [0, 1, 2] (vnd_e rfl) rfl rfl ⟨0, rfl⟩
    · skip
      have iv_32 : IV m_hasHouse 0 0 := iv_meet hv_m_hasHouse (iv_e h_2 iq_0_0_0) (zle_o rfl) (zle_o rfl)
      refine k_iload_n X dX11_size_k0.2.2.1.1 1 rfl ?_
      refine k_iconst (v := 0) X dX11_size_k0.2.2.1.2 ic_0 ?_
      refine k_bipush (v := 16) X dX11_size_k0.2.2.2.1 bi_16 ?_
      refine k_callSI (n := 3) (As := [.int p0, .int 0, .int 16]) (st := []) X [] [(cO11_i1r1i10r1i2r5i2r12i3r4i2 h0 0 a_tape m_taped m_size m_at m_end m_token m_whole m_nameSize m_fault m_place m_trouble a_letters m_failed m_hasHouse a_r a_fresh a_st a_undone a_kept m_undos m_images a_from a_begin a_motor a_change a_startFrame a_changeFrame a_lostAt a_blackAt a_slips a_leftArc a_died a_arcs m_bestSum m_nearest m_nearestTown a_there a_backAt a_sorted a_parts m_seed1 m_darkNow), (cAI g a_r 311 d_r), (cAI g a_st 44 d_st)] [] [0, 1, 2] (m_in l g p0 0 16) dX11_size_k0.2.2.2.2 mw482 mw483 mw5 mw484 yk_yX11_in_3 rfl (Nat.le_of_ble_eq_true rfl) (Nat.le_of_ble_eq_true rfl) (Nat.le_of_ble_eq_true rfl) (Nat.le_of_ble_eq_true rfl) (Nat.le_of_ble_eq_true rfl) rfl rfl (vnd_e rfl) rfl (vnd_e rfl) (dsj_e rfl) ?_
      rintro r_33 w ⟨iv_34, hk_35, hk_36, rfl⟩
      refine k_ws [(cO11_i1r1i10r1i2r5i2r12i3r4i2 h0 0 a_tape m_taped m_size m_at m_end m_token m_whole m_nameSize m_fault m_place m_trouble a_letters m_failed m_hasHouse a_r a_fresh a_st a_undone a_kept m_undos m_images a_from a_begin a_motor a_change a_startFrame a_changeFrame a_lostAt a_blackAt a_slips a_leftArc a_died a_arcs m_bestSum m_nearest m_nearestTown a_there a_backAt a_sorted a_parts m_seed1 m_darkNow), (cAI g a_r 311 d_r), (cAI g a_st 44 d_st)] rfl ?_
      refine k_if_eq 37 X dX11_size_k1.1.1.1.1 (jp_e rfl) (fun h_37 => ?_) (fun h_37 => ?_)
      · skip
        have iv_38 : IV r_33 0 0 := iv_meet iv_34 (iv_e h_37 iq_0_0_0) (zle_o rfl) (zle_o rfl)
        have hc_39 := hk_36 (iv_eq iv_38 iq_0_0_0)
        have j_40 : p0.toInt < 0 ∨ 16 < p0.toInt := hc_39
        refine k_iconst (v := -1) X dX11_size_k1.1.1.2.2 ic_m1 ?_
        exact k_iret X hr dX11_size_k1.1.2.1.1 (Nat.le_of_ble_eq_true rfl) (Nat.le_of_ble_eq_true rfl) [0, 1, 2] (vnd_e rfl) rfl rfl ⟨0, rfl⟩
      · skip
        have hc_41 := hk_35.resolve_left h_37
        have j_42 : 0 ≤ p0.toInt := hc_41.1
        have iv_43 : IV p0 0 2147483647 := iv_leR hc_41.1 iq_0_0_0 (iv_any p0) (zle_e rfl)
        have j_44 : p0.toInt ≤ 16 := hc_41.2
        have iv_45 : IV p0 0 16 := iv_leL hc_41.2 iv_43 iq_16_16_16 (zle_e rfl)
        have iv_46 : IV r_33 1 1 := iv_neL h_37 iv_34 iq_0_0_0 (zle_e rfl)
        refine k_iconst (v := 0) X dX11_size_k1.1.1.1.2 ic_0 ?_
        refine k_goto 38 X dX11_size_k1.1.1.2.1 (jp_e rfl) ?_
        exact k_iret X hr dX11_size_k1.1.2.1.1 (Nat.le_of_ble_eq_true rfl) (Nat.le_of_ble_eq_true rfl) [0, 1, 2] (vnd_e rfl) rfl rfl ⟨0, rfl⟩
  · skip
    have iv_47 : IV p0 17 17 := iv_meet (iv_any p0) (iv_e h_1 iq_17_17_17) (zle_o rfl) (zle_o rfl)
    refine k_aload_n X dX11_size_k0.1.2.2.1 0 rfl ?_
    refine k_get (ci := 11) X inlX11 rfl 2 (nlt_e rfl) dX11_size_k0.1.2.2.2 mw205 0 rfl rfl ?_
    exact k_iret X hr dX11_size_k0.2.1.1.1 (Nat.le_of_ble_eq_true rfl) (Nat.le_of_ble_eq_true rfl) [0, 1, 2] (vnd_e rfl) rfl rfl ⟨0, rfl⟩

theorem dX11_trouble_k0 : ((dD cX11_trouble 0 (.aload_n 0) 1 ∧ (dD cX11_trouble 1 (.iconst 0) 1 ∧ dD cX11_trouble 2 (.putfield 83) 3)) ∧ (dD cX11_trouble 5 (.aload_n 0) 1 ∧ (dD cX11_trouble 6 (.getfield 86) 3 ∧ dD cX11_trouble 9 .ireturn 1))) := dkA6 (by decide +kernel)
set_option maxHeartbeats 4000000 in
set_option maxRecDepth 100000 in
theorem m_trouble (l : Launch) (g : Gx) (h0 : Nat) (m_thrown : Int32) (a_tape : Nat) (m_taped : Int32) (m_size : Int32) (m_at : Int32) (m_end : Int32) (m_token : Int32) (m_whole : Int32) (m_nameSize : Int32) (m_fault : Int32) (m_place : Int32) (m_trouble : Int32) (a_letters : Nat) (m_failed : Int32) (m_hasHouse : Int32) (a_r : Nat) (a_fresh : Nat) (a_st : Nat) (a_undone : Nat) (a_kept : Nat) (m_undos : Int32) (m_images : Int32) (a_from : Nat) (a_begin : Nat) (a_motor : Nat) (a_change : Nat) (a_startFrame : Nat) (a_changeFrame : Nat) (a_lostAt : Nat) (a_blackAt : Nat) (a_slips : Nat) (a_leftArc : Nat) (a_died : Nat) (a_arcs : Nat) (m_bestSum : Int32) (m_nearest : Int32) (m_nearestTown : Int32) (a_there : Nat) (a_backAt : Nat) (a_sorted : Nat) (a_parts : Nat) (m_seed1 : Int32) (m_darkNow : Int32) : cI l g yX11_trouble cX11_trouble 1 (some .int) 0 0 0 0 [.ref h0] [(cO11_i1r1i10r1i2r5i2r12i3r4i2 h0 m_thrown a_tape m_taped m_size m_at m_end m_token m_whole m_nameSize m_fault m_place m_trouble a_letters m_failed m_hasHouse a_r a_fresh a_st a_undone a_kept m_undos m_images a_from a_begin a_motor a_change a_startFrame a_changeFrame a_lostAt a_blackAt a_slips a_leftArc a_died a_arcs m_bestSum m_nearest m_nearestTown a_there a_backAt a_sorted a_parts m_seed1 m_darkNow)] (fun r w => ∃ (m_thrown2 : Int32), w = [(cO11_i1r1i10r1i2r5i2r12i3r4i2 h0 m_thrown2 a_tape m_taped m_size m_at m_end m_token m_whole m_nameSize m_fault m_place m_trouble a_letters m_failed m_hasHouse a_r a_fresh a_st a_undone a_kept m_undos m_images a_from a_begin a_motor a_change a_startFrame a_changeFrame a_lostAt a_blackAt a_slips a_leftArc a_died a_arcs m_bestSum m_nearest m_nearestTown a_there a_backAt a_sorted a_parts m_seed1 m_darkNow)]) := by
  refine cI.of (by decide) (Nat.le_of_ble_eq_true rfl) ?_
  intro p e s m args below meth c A X hr hi
  refine k_lveq [(0, .ref h0)] rfl ?_
  refine k_aload_n X dX11_trouble_k0.1.1 0 rfl ?_
  refine k_iconst (v := 0) X dX11_trouble_k0.1.2.1 ic_0 ?_
  refine k_put (ci := 11) [(cO11_i1r1i10r1i2r5i2r12i3r4i2 h0 0 a_tape m_taped m_size m_at m_end m_token m_whole m_nameSize m_fault m_place m_trouble a_letters m_failed m_hasHouse a_r a_fresh a_st a_undone a_kept m_undos m_images a_from a_begin a_motor a_change a_startFrame a_changeFrame a_lostAt a_blackAt a_slips a_leftArc a_died a_arcs m_bestSum m_nearest m_nearestTown a_there a_backAt a_sorted a_parts m_seed1 m_darkNow)] X inlX11 rfl tyX11_ok nmX11 0 (nlt_e rfl) rfl dX11_trouble_k0.1.2.2 mw204 0 rfl rfl rfl (Nat.le_of_ble_eq_true rfl) rfl ?_
  refine k_aload_n X dX11_trouble_k0.2.1 0 rfl ?_
  refine k_get (ci := 11) X inlX11 rfl 11 (nlt_e rfl) dX11_trouble_k0.2.2.1 mw481 0 rfl rfl ?_
  exact k_iret X hr dX11_trouble_k0.2.2.2 (Nat.le_of_ble_eq_true rfl) (Nat.le_of_ble_eq_true rfl) [0] (vnd_e rfl) rfl rfl ⟨0, rfl⟩

theorem dX11_fault_k0 : ((dD cX11_fault 0 (.aload_n 0) 1 ∧ (dD cX11_fault 1 (.iconst 0) 1 ∧ dD cX11_fault 2 (.putfield 83) 3)) ∧ (dD cX11_fault 5 (.aload_n 0) 1 ∧ (dD cX11_fault 6 (.getfield 125) 3 ∧ dD cX11_fault 9 .ireturn 1))) := dkA6 (by decide +kernel)
set_option maxHeartbeats 4000000 in
set_option maxRecDepth 100000 in
theorem m_fault (l : Launch) (g : Gx) (h0 : Nat) (m_thrown : Int32) (a_tape : Nat) (m_taped : Int32) (m_size : Int32) (m_at : Int32) (m_end : Int32) (m_token : Int32) (m_whole : Int32) (m_nameSize : Int32) (m_fault : Int32) (m_place : Int32) (m_trouble : Int32) (a_letters : Nat) (m_failed : Int32) (m_hasHouse : Int32) (a_r : Nat) (a_fresh : Nat) (a_st : Nat) (a_undone : Nat) (a_kept : Nat) (m_undos : Int32) (m_images : Int32) (a_from : Nat) (a_begin : Nat) (a_motor : Nat) (a_change : Nat) (a_startFrame : Nat) (a_changeFrame : Nat) (a_lostAt : Nat) (a_blackAt : Nat) (a_slips : Nat) (a_leftArc : Nat) (a_died : Nat) (a_arcs : Nat) (m_bestSum : Int32) (m_nearest : Int32) (m_nearestTown : Int32) (a_there : Nat) (a_backAt : Nat) (a_sorted : Nat) (a_parts : Nat) (m_seed1 : Int32) (m_darkNow : Int32) : cI l g yX11_fault cX11_fault 1 (some .int) 0 0 0 0 [.ref h0] [(cO11_i1r1i10r1i2r5i2r12i3r4i2 h0 m_thrown a_tape m_taped m_size m_at m_end m_token m_whole m_nameSize m_fault m_place m_trouble a_letters m_failed m_hasHouse a_r a_fresh a_st a_undone a_kept m_undos m_images a_from a_begin a_motor a_change a_startFrame a_changeFrame a_lostAt a_blackAt a_slips a_leftArc a_died a_arcs m_bestSum m_nearest m_nearestTown a_there a_backAt a_sorted a_parts m_seed1 m_darkNow)] (fun r w => ∃ (m_thrown2 : Int32), w = [(cO11_i1r1i10r1i2r5i2r12i3r4i2 h0 m_thrown2 a_tape m_taped m_size m_at m_end m_token m_whole m_nameSize m_fault m_place m_trouble a_letters m_failed m_hasHouse a_r a_fresh a_st a_undone a_kept m_undos m_images a_from a_begin a_motor a_change a_startFrame a_changeFrame a_lostAt a_blackAt a_slips a_leftArc a_died a_arcs m_bestSum m_nearest m_nearestTown a_there a_backAt a_sorted a_parts m_seed1 m_darkNow)]) := by
  refine cI.of (by decide) (Nat.le_of_ble_eq_true rfl) ?_
  intro p e s m args below meth c A X hr hi
  refine k_lveq [(0, .ref h0)] rfl ?_
  refine k_aload_n X dX11_fault_k0.1.1 0 rfl ?_
  refine k_iconst (v := 0) X dX11_fault_k0.1.2.1 ic_0 ?_
  refine k_put (ci := 11) [(cO11_i1r1i10r1i2r5i2r12i3r4i2 h0 0 a_tape m_taped m_size m_at m_end m_token m_whole m_nameSize m_fault m_place m_trouble a_letters m_failed m_hasHouse a_r a_fresh a_st a_undone a_kept m_undos m_images a_from a_begin a_motor a_change a_startFrame a_changeFrame a_lostAt a_blackAt a_slips a_leftArc a_died a_arcs m_bestSum m_nearest m_nearestTown a_there a_backAt a_sorted a_parts m_seed1 m_darkNow)] X inlX11 rfl tyX11_ok nmX11 0 (nlt_e rfl) rfl dX11_fault_k0.1.2.2 mw204 0 rfl rfl rfl (Nat.le_of_ble_eq_true rfl) rfl ?_
  refine k_aload_n X dX11_fault_k0.2.1 0 rfl ?_
  refine k_get (ci := 11) X inlX11 rfl 9 (nlt_e rfl) dX11_fault_k0.2.2.1 mw468 0 rfl rfl ?_
  exact k_iret X hr dX11_fault_k0.2.2.2 (Nat.le_of_ble_eq_true rfl) (Nat.le_of_ble_eq_true rfl) [0] (vnd_e rfl) rfl rfl ⟨0, rfl⟩

theorem dX11_where_k0 : (((dD cX11_where 0 (.aload_n 0) 1 ∧ (dD cX11_where 1 (.iconst 0) 1 ∧ dD cX11_where 2 (.putfield 83) 3)) ∧ (dD cX11_where 5 (.aload_n 0) 1 ∧ (dD cX11_where 6 (.getfield 86) 3 ∧ dD cX11_where 9 (.iconst 4) 1))) ∧ ((dD cX11_where 10 (.if_icmp .ne 10) 3 ∧ (dD cX11_where 13 (.aload_n 0) 1 ∧ dD cX11_where 14 (.getfield 13) 3)) ∧ (dD cX11_where 17 (.goto 4) 3 ∧ (dD cX11_where 20 (.iconst (-1)) 1 ∧ dD cX11_where 21 .ireturn 1)))) := dkA12 (by decide +kernel)
set_option maxHeartbeats 4000000 in
set_option maxRecDepth 100000 in
theorem m_where (l : Launch) (g : Gx) (h0 : Nat) (m_thrown : Int32) (a_tape : Nat) (m_taped : Int32) (m_size : Int32) (m_at : Int32) (m_end : Int32) (m_token : Int32) (m_whole : Int32) (m_nameSize : Int32) (m_fault : Int32) (m_place : Int32) (m_trouble : Int32) (a_letters : Nat) (m_failed : Int32) (m_hasHouse : Int32) (a_r : Nat) (a_fresh : Nat) (a_st : Nat) (a_undone : Nat) (a_kept : Nat) (m_undos : Int32) (m_images : Int32) (a_from : Nat) (a_begin : Nat) (a_motor : Nat) (a_change : Nat) (a_startFrame : Nat) (a_changeFrame : Nat) (a_lostAt : Nat) (a_blackAt : Nat) (a_slips : Nat) (a_leftArc : Nat) (a_died : Nat) (a_arcs : Nat) (m_bestSum : Int32) (m_nearest : Int32) (m_nearestTown : Int32) (a_there : Nat) (a_backAt : Nat) (a_sorted : Nat) (a_parts : Nat) (m_seed1 : Int32) (m_darkNow : Int32) : cI l g yX11_where cX11_where 1 (some .int) 0 0 0 0 [.ref h0] [(cO11_i1r1i10r1i2r5i2r12i3r4i2 h0 m_thrown a_tape m_taped m_size m_at m_end m_token m_whole m_nameSize m_fault m_place m_trouble a_letters m_failed m_hasHouse a_r a_fresh a_st a_undone a_kept m_undos m_images a_from a_begin a_motor a_change a_startFrame a_changeFrame a_lostAt a_blackAt a_slips a_leftArc a_died a_arcs m_bestSum m_nearest m_nearestTown a_there a_backAt a_sorted a_parts m_seed1 m_darkNow)] (fun r w => ∃ (m_thrown2 : Int32), w = [(cO11_i1r1i10r1i2r5i2r12i3r4i2 h0 m_thrown2 a_tape m_taped m_size m_at m_end m_token m_whole m_nameSize m_fault m_place m_trouble a_letters m_failed m_hasHouse a_r a_fresh a_st a_undone a_kept m_undos m_images a_from a_begin a_motor a_change a_startFrame a_changeFrame a_lostAt a_blackAt a_slips a_leftArc a_died a_arcs m_bestSum m_nearest m_nearestTown a_there a_backAt a_sorted a_parts m_seed1 m_darkNow)]) := by
  refine cI.of (by decide) (Nat.le_of_ble_eq_true rfl) ?_
  intro p e s m args below meth c A X hr hi
  refine k_lveq [(0, .ref h0)] rfl ?_
  refine k_aload_n X dX11_where_k0.1.1.1 0 rfl ?_
  refine k_iconst (v := 0) X dX11_where_k0.1.1.2.1 ic_0 ?_
  refine k_put (ci := 11) [(cO11_i1r1i10r1i2r5i2r12i3r4i2 h0 0 a_tape m_taped m_size m_at m_end m_token m_whole m_nameSize m_fault m_place m_trouble a_letters m_failed m_hasHouse a_r a_fresh a_st a_undone a_kept m_undos m_images a_from a_begin a_motor a_change a_startFrame a_changeFrame a_lostAt a_blackAt a_slips a_leftArc a_died a_arcs m_bestSum m_nearest m_nearestTown a_there a_backAt a_sorted a_parts m_seed1 m_darkNow)] X inlX11 rfl tyX11_ok nmX11 0 (nlt_e rfl) rfl dX11_where_k0.1.1.2.2 mw204 0 rfl rfl rfl (Nat.le_of_ble_eq_true rfl) rfl ?_
  refine k_aload_n X dX11_where_k0.1.2.1 0 rfl ?_
  refine k_get (ci := 11) X inlX11 rfl 11 (nlt_e rfl) dX11_where_k0.1.2.2.1 mw481 0 rfl rfl ?_
  refine k_iconst (v := 4) X dX11_where_k0.1.2.2.2 ic_4 ?_
  refine k_ic_ne 20 X dX11_where_k0.2.1.1 (jp_e rfl) (fun h_1 => ?_) (fun h_1 => ?_)
  · skip
    refine k_iconst (v := -1) X dX11_where_k0.2.2.2.1 ic_m1 ?_
    exact k_iret X hr dX11_where_k0.2.2.2.2 (Nat.le_of_ble_eq_true rfl) (Nat.le_of_ble_eq_true rfl) [0] (vnd_e rfl) rfl rfl ⟨0, rfl⟩
  · skip
    have iv_2 : IV m_trouble 4 4 := iv_meet (iv_any m_trouble) (iv_e h_1 iq_4_4_4) (zle_o rfl) (zle_o rfl)
    refine k_aload_n X dX11_where_k0.2.1.2.1 0 rfl ?_
    refine k_get (ci := 11) X inlX11 rfl 10 (nlt_e rfl) dX11_where_k0.2.1.2.2 mw168 0 rfl rfl ?_
    refine k_goto 21 X dX11_where_k0.2.2.1 (jp_e rfl) ?_
    exact k_iret X hr dX11_where_k0.2.2.2.2 (Nat.le_of_ble_eq_true rfl) (Nat.le_of_ble_eq_true rfl) [0] (vnd_e rfl) rfl rfl ⟨0, rfl⟩


theorem dX11_feed_k0 : ((((dD cX11_feed 0 (.aload_n 0) 1 ∧ dD cX11_feed 1 (.iconst 0) 1) ∧ (dD cX11_feed 2 (.putfield 83) 3 ∧ dD cX11_feed 5 (.aload_n 0) 1)) ∧ ((dD cX11_feed 6 (.getfield 89) 3 ∧ dD cX11_feed 9 (.bipush 20) 2) ∧ (dD cX11_feed 11 .iadd 1 ∧ dD cX11_feed 12 (.sipush 900) 3))) ∧ (((dD cX11_feed 15 (.if_icmp .le 5) 3 ∧ dD cX11_feed 18 (.iconst (-1)) 1) ∧ (dD cX11_feed 19 .ireturn 1 ∧ dD cX11_feed 20 (.iconst 0) 1)) ∧ ((dD cX11_feed 21 (.istore 6) 2 ∧ dD cX11_feed 23 (.iload 6) 2) ∧ (dD cX11_feed 25 (.bipush 20) 2 ∧ dD cX11_feed 27 (.if_icmp .ge 93) 3)))) := dkA16 (by decide +kernel)
theorem dX11_feed_k1 : ((((dD cX11_feed 30 (.iload 6) 2 ∧ dD cX11_feed 32 (.iconst 4) 1) ∧ (dD cX11_feed 33 (.if_icmp .ge 7) 3 ∧ dD cX11_feed 36 (.iload_n 1) 1)) ∧ ((dD cX11_feed 37 (.goto 39) 3 ∧ dD cX11_feed 40 (.iload 6) 2) ∧ (dD cX11_feed 42 (.bipush 8) 2 ∧ dD cX11_feed 44 (.if_icmp .ge 7) 3))) ∧ (((dD cX11_feed 47 (.iload_n 2) 1 ∧ dD cX11_feed 48 (.goto 28) 3) ∧ (dD cX11_feed 51 (.iload 6) 2 ∧ dD cX11_feed 53 (.bipush 12) 2)) ∧ ((dD cX11_feed 55 (.if_icmp .ge 7) 3 ∧ dD cX11_feed 58 (.iload_n 3) 1) ∧ (dD cX11_feed 59 (.goto 17) 3 ∧ dD cX11_feed 62 (.iload 6) 2)))) := dkA16 (by decide +kernel)
theorem dX11_feed_k2 : ((((dD cX11_feed 64 (.bipush 16) 2 ∧ dD cX11_feed 66 (.if_icmp .ge 8) 3) ∧ (dD cX11_feed 69 (.iload 4) 2 ∧ dD cX11_feed 71 (.goto 5) 3)) ∧ ((dD cX11_feed 74 (.iload 5) 2 ∧ dD cX11_feed 76 (.istore 7) 2) ∧ (dD cX11_feed 78 (.aload_n 0) 1 ∧ dD cX11_feed 79 (.getfield 7) 3))) ∧ (((dD cX11_feed 82 (.aload_n 0) 1 ∧ dD cX11_feed 83 (.getfield 89) 3) ∧ (dD cX11_feed 86 (.iload 7) 2 ∧ dD cX11_feed 88 (.bipush 24) 2)) ∧ ((dD cX11_feed 90 (.bipush 8) 2 ∧ dD cX11_feed 92 (.iload 6) 2) ∧ (dD cX11_feed 94 (.iconst 4) 1 ∧ dD cX11_feed 95 .irem 1)))) := dkA16 (by decide +kernel)
theorem dX11_feed_k3 : ((((dD cX11_feed 96 .imul 1 ∧ dD cX11_feed 97 .isub 1) ∧ (dD cX11_feed 98 .ishr 1 ∧ dD cX11_feed 99 (.sipush 255) 3)) ∧ ((dD cX11_feed 102 .iand 1 ∧ dD cX11_feed 103 .iastore 1) ∧ (dD cX11_feed 104 (.aload_n 0) 1 ∧ dD cX11_feed 105 .dup 1))) ∧ (((dD cX11_feed 106 (.getfield 89) 3 ∧ dD cX11_feed 109 (.iconst 1) 1) ∧ (dD cX11_feed 110 .iadd 1 ∧ dD cX11_feed 111 (.putfield 89) 3)) ∧ ((dD cX11_feed 114 (.iinc 6 1) 3 ∧ dD cX11_feed 117 (.goto (-94)) 3) ∧ (dD cX11_feed 120 (.aload_n 0) 1 ∧ dD cX11_feed 121 (.getfield 89) 3)))) := dkA16 (by decide +kernel)
theorem dX11_feed_k4 : dD cX11_feed 124 .ireturn 1 := dkA1 (by decide +kernel)


theorem dX11_look_k0 : (((dD cX11_look 0 (.iload_n 1) 1 ∧ dD cX11_look 1 (.aload_n 0) 1) ∧ (dD cX11_look 2 (.getfield 92) 3 ∧ (dD cX11_look 5 (.if_icmp .ge 12) 3 ∧ dD cX11_look 8 (.aload_n 0) 1))) ∧ ((dD cX11_look 9 (.getfield 7) 3 ∧ (dD cX11_look 12 (.iload_n 1) 1 ∧ dD cX11_look 13 .iaload 1)) ∧ (dD cX11_look 14 (.goto 4) 3 ∧ (dD cX11_look 17 (.iconst (-1)) 1 ∧ dD cX11_look 18 .ireturn 1)))) := dkA11 (by decide +kernel)
theorem dX11_next_k0 : ((((dD cX11_next 0 (.aload_n 0) 1 ∧ dD cX11_next 1 (.getfield 95) 3) ∧ (dD cX11_next 4 (.istore_n 1) 1 ∧ dD cX11_next 5 (.aload_n 0) 1)) ∧ ((dD cX11_next 6 (.iload_n 1) 1 ∧ dD cX11_next 7 (.invokevirtual 98) 3) ∧ (dD cX11_next 10 (.bipush 32) 2 ∧ dD cX11_next 12 (.if_icmp .ne 9) 3))) ∧ (((dD cX11_next 15 (.iinc 1 1) 3 ∧ dD cX11_next 18 (.goto (-13)) 3) ∧ (dD cX11_next 21 (.aload_n 0) 1 ∧ dD cX11_next 22 (.iload_n 1) 1)) ∧ ((dD cX11_next 23 (.putfield 102) 3 ∧ dD cX11_next 26 (.aload_n 0) 1) ∧ (dD cX11_next 27 (.iload_n 1) 1 ∧ dD cX11_next 28 (.invokevirtual 98) 3)))) := dkA16 (by decide +kernel)
theorem dX11_next_k1 : ((((dD cX11_next 31 (.istore_n 2) 1 ∧ dD cX11_next 32 (.aload_n 0) 1) ∧ (dD cX11_next 33 (.iconst 0) 1 ∧ dD cX11_next 34 (.putfield 105) 3)) ∧ ((dD cX11_next 37 (.aload_n 0) 1 ∧ dD cX11_next 38 (.iconst 0) 1) ∧ (dD cX11_next 39 (.putfield 108) 3 ∧ dD cX11_next 42 (.iload_n 2) 1))) ∧ (((dD cX11_next 43 (.iconst (-1)) 1 ∧ dD cX11_next 44 (.if_icmp .ne 16) 3) ∧ (dD cX11_next 47 (.aload_n 0) 1 ∧ dD cX11_next 48 (.iconst 0) 1)) ∧ ((dD cX11_next 49 (.putfield 111) 3 ∧ dD cX11_next 52 (.aload_n 0) 1) ∧ (dD cX11_next 53 (.iload_n 1) 1 ∧ dD cX11_next 54 (.putfield 95) 3)))) := dkA16 (by decide +kernel)
theorem dX11_next_k2 : ((((dD cX11_next 57 (.goto 190) 3 ∧ dD cX11_next 60 (.iload_n 2) 1) ∧ (dD cX11_next 61 (.invokestatic 114) 3 ∧ dD cX11_next 64 (.ifCond .eq 79) 3)) ∧ ((dD cX11_next 67 (.aload_n 0) 1 ∧ dD cX11_next 68 (.iload_n 1) 1) ∧ (dD cX11_next 69 (.invokevirtual 98) 3 ∧ dD cX11_next 72 (.invokestatic 114) 3))) ∧ (((dD cX11_next 75 (.ifCond .eq 42) 3 ∧ dD cX11_next 78 (.aload_n 0) 1) ∧ (dD cX11_next 79 (.getfield 105) 3 ∧ dD cX11_next 82 (.bipush 8) 2)) ∧ ((dD cX11_next 84 (.if_icmp .ge 17) 3 ∧ dD cX11_next 87 (.aload_n 0) 1) ∧ (dD cX11_next 88 (.getfield 17) 3 ∧ dD cX11_next 91 (.aload_n 0) 1)))) := dkA16 (by decide +kernel)
theorem dX11_next_k3 : ((((dD cX11_next 92 (.getfield 105) 3 ∧ dD cX11_next 95 (.aload_n 0) 1) ∧ (dD cX11_next 96 (.iload_n 1) 1 ∧ dD cX11_next 97 (.invokevirtual 98) 3)) ∧ ((dD cX11_next 100 .iastore 1 ∧ dD cX11_next 101 (.aload_n 0) 1) ∧ (dD cX11_next 102 .dup 1 ∧ dD cX11_next 103 (.getfield 105) 3))) ∧ (((dD cX11_next 106 (.iconst 1) 1 ∧ dD cX11_next 107 .iadd 1) ∧ (dD cX11_next 108 (.putfield 105) 3 ∧ dD cX11_next 111 (.iinc 1 1) 3)) ∧ ((dD cX11_next 114 (.goto (-47)) 3 ∧ dD cX11_next 117 (.aload_n 0) 1) ∧ (dD cX11_next 118 (.iload_n 1) 1 ∧ dD cX11_next 119 (.putfield 95) 3)))) := dkA16 (by decide +kernel)
theorem dX11_next_k4 : ((((dD cX11_next 122 (.aload_n 0) 1 ∧ dD cX11_next 123 (.aload_n 0) 1) ∧ (dD cX11_next 124 (.getfield 105) 3 ∧ dD cX11_next 127 (.bipush 8) 2)) ∧ ((dD cX11_next 129 (.if_icmp .le 7) 3 ∧ dD cX11_next 132 (.iconst 1) 1) ∧ (dD cX11_next 133 (.goto 4) 3 ∧ dD cX11_next 136 (.iconst 2) 1))) ∧ (((dD cX11_next 137 (.putfield 111) 3 ∧ dD cX11_next 140 (.goto 107) 3) ∧ (dD cX11_next 143 (.iload_n 2) 1 ∧ dD cX11_next 144 (.invokestatic 118) 3)) ∧ ((dD cX11_next 147 (.ifCond .eq 72) 3 ∧ dD cX11_next 150 (.iconst 0) 1) ∧ (dD cX11_next 151 (.istore_n 3) 1 ∧ dD cX11_next 152 (.aload_n 0) 1)))) := dkA16 (by decide +kernel)
theorem dX11_next_k5 : ((((dD cX11_next 153 (.iload_n 1) 1 ∧ dD cX11_next 154 (.invokevirtual 98) 3) ∧ (dD cX11_next 157 (.invokestatic 118) 3 ∧ dD cX11_next 160 (.ifCond .eq 37) 3)) ∧ ((dD cX11_next 163 (.iload_n 3) 1 ∧ dD cX11_next 164 (.iconst 4) 1) ∧ (dD cX11_next 165 (.if_icmp .ge 23) 3 ∧ dD cX11_next 168 (.aload_n 0) 1))) ∧ (((dD cX11_next 169 (.bipush 10) 2 ∧ dD cX11_next 171 (.aload_n 0) 1) ∧ (dD cX11_next 172 (.getfield 108) 3 ∧ dD cX11_next 175 .imul 1)) ∧ ((dD cX11_next 176 (.aload_n 0) 1 ∧ dD cX11_next 177 (.iload_n 1) 1) ∧ (dD cX11_next 178 (.invokevirtual 98) 3 ∧ dD cX11_next 181 .iadd 1)))) := dkA16 (by decide +kernel)
theorem dX11_next_k6 : ((((dD cX11_next 182 (.bipush 48) 2 ∧ dD cX11_next 184 .isub 1) ∧ (dD cX11_next 185 (.putfield 108) 3 ∧ dD cX11_next 188 (.iinc 3 1) 3)) ∧ ((dD cX11_next 191 (.iinc 1 1) 3 ∧ dD cX11_next 194 (.goto (-42)) 3) ∧ (dD cX11_next 197 (.aload_n 0) 1 ∧ dD cX11_next 198 (.iload_n 1) 1))) ∧ (((dD cX11_next 199 (.putfield 95) 3 ∧ dD cX11_next 202 (.aload_n 0) 1) ∧ (dD cX11_next 203 (.iload_n 3) 1 ∧ dD cX11_next 204 (.iconst 4) 1)) ∧ ((dD cX11_next 205 (.if_icmp .le 7) 3 ∧ dD cX11_next 208 (.iconst 1) 1) ∧ (dD cX11_next 209 (.goto 4) 3 ∧ dD cX11_next 212 (.iconst 3) 1)))) := dkA16 (by decide +kernel)
theorem dX11_next_k7 : ((((dD cX11_next 213 (.putfield 111) 3 ∧ dD cX11_next 216 (.goto 31) 3) ∧ (dD cX11_next 219 (.aload_n 0) 1 ∧ dD cX11_next 220 (.iload_n 1) 1)) ∧ ((dD cX11_next 221 (.iconst 1) 1 ∧ dD cX11_next 222 .iadd 1) ∧ (dD cX11_next 223 (.putfield 95) 3 ∧ dD cX11_next 226 (.aload_n 0) 1))) ∧ (((dD cX11_next 227 (.iload_n 2) 1 ∧ dD cX11_next 228 (.bipush 59) 2) ∧ (dD cX11_next 230 (.if_icmp .eq 9) 3 ∧ dD cX11_next 233 (.iload_n 2) 1)) ∧ ((dD cX11_next 234 (.bipush 44) 2 ∧ dD cX11_next 236 (.if_icmp .ne 7) 3) ∧ (dD cX11_next 239 (.iload_n 2) 1 ∧ dD cX11_next 240 (.goto 4) 3)))) := dkA16 (by decide +kernel)
theorem dX11_next_k8 : (dD cX11_next 243 (.iconst 1) 1 ∧ (dD cX11_next 244 (.putfield 111) 3 ∧ dD cX11_next 247 .return_ 1)) := dkA3 (by decide +kernel)
theorem dX11_bad_k0 : (((dD cX11_bad 0 (.aload_n 0) 1 ∧ (dD cX11_bad 1 (.getfield 121) 3 ∧ dD cX11_bad 4 (.ifCond .eq 4) 3)) ∧ ((dD cX11_bad 7 .return_ 1 ∧ dD cX11_bad 8 (.aload_n 0) 1) ∧ (dD cX11_bad 9 (.iconst 1) 1 ∧ dD cX11_bad 10 (.putfield 121) 3))) ∧ ((dD cX11_bad 13 (.aload_n 0) 1 ∧ (dD cX11_bad 14 (.iload_n 1) 1 ∧ dD cX11_bad 15 (.putfield 125) 3)) ∧ ((dD cX11_bad 18 (.aload_n 0) 1 ∧ dD cX11_bad 19 (.iload_n 2) 1) ∧ (dD cX11_bad 20 (.putfield 13) 3 ∧ dD cX11_bad 23 .return_ 1)))) := dkA14 (by decide +kernel)
theorem dX11_isWord_k0 : ((((dD cX11_isWord 0 (.aload_n 0) 1 ∧ dD cX11_isWord 1 (.getfield 121) 3) ∧ (dD cX11_isWord 4 (.ifCond .ne 22) 3 ∧ dD cX11_isWord 7 (.aload_n 0) 1)) ∧ ((dD cX11_isWord 8 (.getfield 111) 3 ∧ dD cX11_isWord 11 (.iconst 2) 1) ∧ (dD cX11_isWord 12 (.if_icmp .ne 14) 3 ∧ dD cX11_isWord 15 (.aload_n 0) 1))) ∧ (((dD cX11_isWord 16 (.getfield 105) 3 ∧ dD cX11_isWord 19 (.aload_n 1) 1) ∧ (dD cX11_isWord 20 (.invokevirtual 128) 3 ∧ dD cX11_isWord 23 (.if_icmp .eq 5) 3)) ∧ ((dD cX11_isWord 26 (.iconst 0) 1 ∧ dD cX11_isWord 27 .ireturn 1) ∧ (dD cX11_isWord 28 (.iconst 1) 1 ∧ dD cX11_isWord 29 (.istore_n 2) 1)))) := dkA16 (by decide +kernel)
theorem dX11_isWord_k1 : ((((dD cX11_isWord 30 (.iconst 0) 1 ∧ dD cX11_isWord 31 (.istore_n 3) 1) ∧ (dD cX11_isWord 32 (.iload_n 3) 1 ∧ dD cX11_isWord 33 (.aload_n 0) 1)) ∧ ((dD cX11_isWord 34 (.getfield 105) 3 ∧ dD cX11_isWord 37 (.if_icmp .ge 33) 3) ∧ (dD cX11_isWord 40 (.iload_n 2) 1 ∧ dD cX11_isWord 41 (.ifCond .eq 21) 3))) ∧ (((dD cX11_isWord 44 (.aload_n 0) 1 ∧ dD cX11_isWord 45 (.getfield 17) 3) ∧ (dD cX11_isWord 48 (.iload_n 3) 1 ∧ dD cX11_isWord 49 .iaload 1)) ∧ ((dD cX11_isWord 50 (.aload_n 1) 1 ∧ dD cX11_isWord 51 (.iload_n 3) 1) ∧ (dD cX11_isWord 52 (.invokevirtual 134) 3 ∧ dD cX11_isWord 55 (.if_icmp .ne 7) 3)))) := dkA16 (by decide +kernel)
theorem dX11_isWord_k2 : (((dD cX11_isWord 58 (.iconst 1) 1 ∧ dD cX11_isWord 59 (.goto 4) 3) ∧ (dD cX11_isWord 62 (.iconst 0) 1 ∧ dD cX11_isWord 63 (.istore_n 2) 1)) ∧ ((dD cX11_isWord 64 (.iinc 3 1) 3 ∧ dD cX11_isWord 67 (.goto (-35)) 3) ∧ (dD cX11_isWord 70 (.iload_n 2) 1 ∧ dD cX11_isWord 71 .ireturn 1))) := dkA8 (by decide +kernel)
theorem dX11_takesWord_k0 : (((dD cX11_takesWord 0 (.aload_n 0) 1 ∧ dD cX11_takesWord 1 (.aload_n 1) 1) ∧ (dD cX11_takesWord 2 (.invokevirtual 138) 3 ∧ (dD cX11_takesWord 5 (.ifCond .ne 5) 3 ∧ dD cX11_takesWord 8 (.iconst 0) 1))) ∧ ((dD cX11_takesWord 9 .ireturn 1 ∧ dD cX11_takesWord 10 (.aload_n 0) 1) ∧ (dD cX11_takesWord 11 (.invokevirtual 142) 3 ∧ (dD cX11_takesWord 14 (.iconst 1) 1 ∧ dD cX11_takesWord 15 .ireturn 1)))) := dkA10 (by decide +kernel)
theorem dX11_must_k0 : (((dD cX11_must 0 (.aload_n 0) 1 ∧ (dD cX11_must 1 (.getfield 121) 3 ∧ dD cX11_must 4 (.ifCond .ne 20) 3)) ∧ (dD cX11_must 7 (.aload_n 0) 1 ∧ (dD cX11_must 8 (.aload_n 1) 1 ∧ dD cX11_must 9 (.invokevirtual 145) 3))) ∧ ((dD cX11_must 12 (.ifCond .ne 12) 3 ∧ (dD cX11_must 15 (.aload_n 0) 1 ∧ dD cX11_must 16 (.iconst 1) 1)) ∧ ((dD cX11_must 17 (.aload_n 0) 1 ∧ dD cX11_must 18 (.getfield 102) 3) ∧ (dD cX11_must 21 (.invokevirtual 148) 3 ∧ dD cX11_must 24 .return_ 1)))) := dkA13 (by decide +kernel)
theorem dX11_mustName_k0 : ((((dD cX11_mustName 0 (.aload_n 0) 1 ∧ dD cX11_mustName 1 (.ldc 152) 2) ∧ (dD cX11_mustName 3 (.invokevirtual 138) 3 ∧ dD cX11_mustName 6 (.ifCond .ne 102) 3)) ∧ ((dD cX11_mustName 9 (.aload_n 0) 1 ∧ dD cX11_mustName 10 (.ldc 154) 2) ∧ (dD cX11_mustName 12 (.invokevirtual 138) 3 ∧ dD cX11_mustName 15 (.ifCond .ne 93) 3))) ∧ (((dD cX11_mustName 18 (.aload_n 0) 1 ∧ dD cX11_mustName 19 (.ldc 156) 2) ∧ (dD cX11_mustName 21 (.invokevirtual 138) 3 ∧ dD cX11_mustName 24 (.ifCond .ne 84) 3)) ∧ ((dD cX11_mustName 27 (.aload_n 0) 1 ∧ dD cX11_mustName 28 (.ldc 158) 2) ∧ (dD cX11_mustName 30 (.invokevirtual 138) 3 ∧ dD cX11_mustName 33 (.ifCond .ne 75) 3)))) := dkA16 (by decide +kernel)
theorem dX11_mustName_k1 : ((((dD cX11_mustName 36 (.aload_n 0) 1 ∧ dD cX11_mustName 37 (.ldc 160) 2) ∧ (dD cX11_mustName 39 (.invokevirtual 138) 3 ∧ dD cX11_mustName 42 (.ifCond .ne 66) 3)) ∧ ((dD cX11_mustName 45 (.aload_n 0) 1 ∧ dD cX11_mustName 46 (.ldc 162) 2) ∧ (dD cX11_mustName 48 (.invokevirtual 138) 3 ∧ dD cX11_mustName 51 (.ifCond .ne 57) 3))) ∧ (((dD cX11_mustName 54 (.aload_n 0) 1 ∧ dD cX11_mustName 55 (.ldc 164) 2) ∧ (dD cX11_mustName 57 (.invokevirtual 138) 3 ∧ dD cX11_mustName 60 (.ifCond .ne 48) 3)) ∧ ((dD cX11_mustName 63 (.aload_n 0) 1 ∧ dD cX11_mustName 64 (.ldc 166) 2) ∧ (dD cX11_mustName 66 (.invokevirtual 138) 3 ∧ dD cX11_mustName 69 (.ifCond .ne 39) 3)))) := dkA16 (by decide +kernel)
theorem dX11_mustName_k2 : ((((dD cX11_mustName 72 (.aload_n 0) 1 ∧ dD cX11_mustName 73 (.ldc 168) 2) ∧ (dD cX11_mustName 75 (.invokevirtual 138) 3 ∧ dD cX11_mustName 78 (.ifCond .ne 30) 3)) ∧ ((dD cX11_mustName 81 (.aload_n 0) 1 ∧ dD cX11_mustName 82 (.ldc 170) 2) ∧ (dD cX11_mustName 84 (.invokevirtual 138) 3 ∧ dD cX11_mustName 87 (.ifCond .ne 21) 3))) ∧ (((dD cX11_mustName 90 (.aload_n 0) 1 ∧ dD cX11_mustName 91 (.ldc 172) 2) ∧ (dD cX11_mustName 93 (.invokevirtual 138) 3 ∧ dD cX11_mustName 96 (.ifCond .ne 12) 3)) ∧ ((dD cX11_mustName 99 (.aload_n 0) 1 ∧ dD cX11_mustName 100 (.ldc 174) 2) ∧ (dD cX11_mustName 102 (.invokevirtual 138) 3 ∧ dD cX11_mustName 105 (.ifCond .eq 7) 3)))) := dkA16 (by decide +kernel)
theorem dX11_mustName_k3 : ((((dD cX11_mustName 108 (.iconst 1) 1 ∧ dD cX11_mustName 109 (.goto 4) 3) ∧ (dD cX11_mustName 112 (.iconst 0) 1 ∧ dD cX11_mustName 113 (.istore_n 1) 1)) ∧ ((dD cX11_mustName 114 (.aload_n 0) 1 ∧ dD cX11_mustName 115 (.getfield 111) 3) ∧ (dD cX11_mustName 118 (.iconst 2) 1 ∧ dD cX11_mustName 119 (.if_icmp .ne 7) 3))) ∧ (((dD cX11_mustName 122 (.iload_n 1) 1 ∧ dD cX11_mustName 123 (.ifCond .eq 12) 3) ∧ (dD cX11_mustName 126 (.aload_n 0) 1 ∧ dD cX11_mustName 127 (.iconst 1) 1)) ∧ ((dD cX11_mustName 128 (.aload_n 0) 1 ∧ dD cX11_mustName 129 (.getfield 102) 3) ∧ (dD cX11_mustName 132 (.invokevirtual 148) 3 ∧ dD cX11_mustName 135 .return_ 1)))) := dkA16 (by decide +kernel)
theorem dX11_find_k0 : ((((dD cX11_find 0 (.iconst 0) 1 ∧ dD cX11_find 1 (.istore_n 1) 1) ∧ (dD cX11_find 2 (.iload_n 1) 1 ∧ dD cX11_find 3 (.bipush 16) 2)) ∧ ((dD cX11_find 5 (.if_icmp .ge 101) 3 ∧ dD cX11_find 8 (.aload_n 0) 1) ∧ (dD cX11_find 9 (.getfield 23) 3 ∧ dD cX11_find 12 (.sipush 167) 3))) ∧ (((dD cX11_find 15 (.iload_n 1) 1 ∧ dD cX11_find 16 .iadd 1) ∧ (dD cX11_find 17 .iaload 1 ∧ dD cX11_find 18 (.ifCond .le 24) 3)) ∧ ((dD cX11_find 21 (.aload_n 0) 1 ∧ dD cX11_find 22 (.getfield 23) 3) ∧ (dD cX11_find 25 (.sipush 167) 3 ∧ dD cX11_find 28 (.iload_n 1) 1)))) := dkA16 (by decide +kernel)
theorem dX11_find_k1 : ((((dD cX11_find 29 .iadd 1 ∧ dD cX11_find 30 .iaload 1) ∧ (dD cX11_find 31 (.aload_n 0) 1 ∧ dD cX11_find 32 (.getfield 105) 3)) ∧ ((dD cX11_find 35 (.if_icmp .ne 7) 3 ∧ dD cX11_find 38 (.iconst 1) 1) ∧ (dD cX11_find 39 (.goto 4) 3 ∧ dD cX11_find 42 (.iconst 0) 1))) ∧ (((dD cX11_find 43 (.istore_n 2) 1 ∧ dD cX11_find 44 (.iconst 0) 1) ∧ (dD cX11_find 45 (.istore_n 3) 1 ∧ dD cX11_find 46 (.iload_n 3) 1)) ∧ ((dD cX11_find 47 (.aload_n 0) 1 ∧ dD cX11_find 48 (.getfield 105) 3) ∧ (dD cX11_find 51 (.if_icmp .ge 43) 3 ∧ dD cX11_find 54 (.iload_n 2) 1)))) := dkA16 (by decide +kernel)
theorem dX11_find_k2 : ((((dD cX11_find 55 (.ifCond .eq 39) 3 ∧ dD cX11_find 58 (.aload_n 0) 1) ∧ (dD cX11_find 59 (.getfield 23) 3 ∧ dD cX11_find 62 (.sipush 183) 3)) ∧ ((dD cX11_find 65 (.bipush 8) 2 ∧ dD cX11_find 67 (.iload_n 1) 1) ∧ (dD cX11_find 68 .imul 1 ∧ dD cX11_find 69 .iadd 1))) ∧ (((dD cX11_find 70 (.iload_n 3) 1 ∧ dD cX11_find 71 .iadd 1) ∧ (dD cX11_find 72 .iaload 1 ∧ dD cX11_find 73 (.aload_n 0) 1)) ∧ ((dD cX11_find 74 (.getfield 17) 3 ∧ dD cX11_find 77 (.iload_n 3) 1) ∧ (dD cX11_find 78 .iaload 1 ∧ dD cX11_find 79 (.if_icmp .ne 7) 3)))) := dkA16 (by decide +kernel)
theorem dX11_find_k3 : (((dD cX11_find 82 (.iconst 1) 1 ∧ (dD cX11_find 83 (.goto 4) 3 ∧ dD cX11_find 86 (.iconst 0) 1)) ∧ ((dD cX11_find 87 (.istore_n 2) 1 ∧ dD cX11_find 88 (.iinc 3 1) 3) ∧ (dD cX11_find 91 (.goto (-45)) 3 ∧ dD cX11_find 94 (.iload_n 2) 1))) ∧ ((dD cX11_find 95 (.ifCond .eq 5) 3 ∧ (dD cX11_find 98 (.iload_n 1) 1 ∧ dD cX11_find 99 .ireturn 1)) ∧ ((dD cX11_find 100 (.iinc 1 1) 3 ∧ dD cX11_find 103 (.goto (-101)) 3) ∧ (dD cX11_find 106 (.iconst (-1)) 1 ∧ dD cX11_find 107 .ireturn 1)))) := dkA14 (by decide +kernel)


theorem dX11_newName_k0 : ((((dD cX11_newName 0 (.aload_n 0) 1 ∧ dD cX11_newName 1 (.getfield 121) 3) ∧ (dD cX11_newName 4 (.ifCond .eq 4) 3 ∧ dD cX11_newName 7 .return_ 1)) ∧ ((dD cX11_newName 8 (.aload_n 0) 1 ∧ dD cX11_newName 9 (.invokevirtual 176) 3) ∧ (dD cX11_newName 12 (.aload_n 0) 1 ∧ dD cX11_newName 13 (.getfield 121) 3))) ∧ (((dD cX11_newName 16 (.ifCond .ne 19) 3 ∧ dD cX11_newName 19 (.aload_n 0) 1) ∧ (dD cX11_newName 20 (.invokevirtual 179) 3 ∧ dD cX11_newName 23 (.ifCond .lt 12) 3)) ∧ ((dD cX11_newName 26 (.aload_n 0) 1 ∧ dD cX11_newName 27 (.iconst 3) 1) ∧ (dD cX11_newName 28 (.aload_n 0) 1 ∧ dD cX11_newName 29 (.getfield 102) 3)))) := dkA16 (by decide +kernel)
theorem dX11_newName_k1 : ((((dD cX11_newName 32 (.invokevirtual 148) 3 ∧ dD cX11_newName 35 (.aload_n 0) 1) ∧ (dD cX11_newName 36 (.getfield 121) 3 ∧ dD cX11_newName 39 (.ifCond .eq 4) 3)) ∧ ((dD cX11_newName 42 .return_ 1 ∧ dD cX11_newName 43 (.iconst 0) 1) ∧ (dD cX11_newName 44 (.istore_n 2) 1 ∧ dD cX11_newName 45 (.iload_n 2) 1))) ∧ (((dD cX11_newName 46 (.aload_n 0) 1 ∧ dD cX11_newName 47 (.getfield 105) 3) ∧ (dD cX11_newName 50 (.if_icmp .ge 30) 3 ∧ dD cX11_newName 53 (.aload_n 0) 1)) ∧ ((dD cX11_newName 54 (.getfield 23) 3 ∧ dD cX11_newName 57 (.sipush 183) 3) ∧ (dD cX11_newName 60 (.bipush 8) 2 ∧ dD cX11_newName 62 (.iload_n 1) 1)))) := dkA16 (by decide +kernel)
theorem dX11_newName_k2 : ((((dD cX11_newName 63 .imul 1 ∧ dD cX11_newName 64 .iadd 1) ∧ (dD cX11_newName 65 (.iload_n 2) 1 ∧ dD cX11_newName 66 .iadd 1)) ∧ ((dD cX11_newName 67 (.aload_n 0) 1 ∧ dD cX11_newName 68 (.getfield 17) 3) ∧ (dD cX11_newName 71 (.iload_n 2) 1 ∧ dD cX11_newName 72 .iaload 1))) ∧ (((dD cX11_newName 73 .iastore 1 ∧ dD cX11_newName 74 (.iinc 2 1) 3) ∧ (dD cX11_newName 77 (.goto (-32)) 3 ∧ dD cX11_newName 80 (.aload_n 0) 1)) ∧ ((dD cX11_newName 81 (.getfield 23) 3 ∧ dD cX11_newName 84 (.sipush 167) 3) ∧ (dD cX11_newName 87 (.iload_n 1) 1 ∧ dD cX11_newName 88 .iadd 1)))) := dkA16 (by decide +kernel)
theorem dX11_newName_k3 : ((dD cX11_newName 89 (.aload_n 0) 1 ∧ (dD cX11_newName 90 (.getfield 105) 3 ∧ dD cX11_newName 93 .iastore 1)) ∧ (dD cX11_newName 94 (.aload_n 0) 1 ∧ (dD cX11_newName 95 (.invokevirtual 142) 3 ∧ dD cX11_newName 98 .return_ 1))) := dkA6 (by decide +kernel)
theorem dX11_named_k0 : ((((dD cX11_named 0 (.aload_n 0) 1 ∧ dD cX11_named 1 (.getfield 121) 3) ∧ (dD cX11_named 4 (.ifCond .eq 5) 3 ∧ dD cX11_named 7 (.iconst 0) 1)) ∧ ((dD cX11_named 8 .ireturn 1 ∧ dD cX11_named 9 (.aload_n 0) 1) ∧ (dD cX11_named 10 (.invokevirtual 176) 3 ∧ dD cX11_named 13 (.aload_n 0) 1))) ∧ (((dD cX11_named 14 (.getfield 121) 3 ∧ dD cX11_named 17 (.ifCond .eq 5) 3) ∧ (dD cX11_named 20 (.iconst 0) 1 ∧ dD cX11_named 21 .ireturn 1)) ∧ ((dD cX11_named 22 (.aload_n 0) 1 ∧ dD cX11_named 23 (.invokevirtual 179) 3) ∧ (dD cX11_named 26 (.istore_n 3) 1 ∧ dD cX11_named 27 (.iload_n 3) 1)))) := dkA16 (by decide +kernel)
theorem dX11_named_k1 : ((((dD cX11_named 28 (.iload_n 1) 1 ∧ dD cX11_named 29 (.iload_n 2) 1) ∧ (dD cX11_named 30 (.invokestatic 182) 3 ∧ dD cX11_named 33 (.ifCond .ne 12) 3)) ∧ ((dD cX11_named 36 (.aload_n 0) 1 ∧ dD cX11_named 37 (.iconst 2) 1) ∧ (dD cX11_named 38 (.aload_n 0) 1 ∧ dD cX11_named 39 (.getfield 102) 3))) ∧ (((dD cX11_named 42 (.invokevirtual 148) 3 ∧ dD cX11_named 45 (.aload_n 0) 1) ∧ (dD cX11_named 46 (.getfield 121) 3 ∧ dD cX11_named 49 (.ifCond .eq 7) 3)) ∧ ((dD cX11_named 52 (.iconst 0) 1 ∧ dD cX11_named 53 (.goto 6) 3) ∧ (dD cX11_named 56 (.iload_n 3) 1 ∧ dD cX11_named 57 (.iload_n 1) 1)))) := dkA16 (by decide +kernel)
theorem dX11_named_k2 : (dD cX11_named 58 .isub 1 ∧ dD cX11_named 59 .ireturn 1) := dkA2 (by decide +kernel)
theorem dX11_reelPassed_k0 : (((dD cX11_reelPassed 0 (.aload_n 0) 1 ∧ (dD cX11_reelPassed 1 (.iconst 0) 1 ∧ dD cX11_reelPassed 2 (.bipush 7) 2)) ∧ (dD cX11_reelPassed 4 (.invokevirtual 186) 3 ∧ (dD cX11_reelPassed 7 (.istore_n 1) 1 ∧ dD cX11_reelPassed 8 (.aload_n 0) 1))) ∧ ((dD cX11_reelPassed 9 (.getfield 121) 3 ∧ (dD cX11_reelPassed 12 (.ifCond .ne 7) 3 ∧ dD cX11_reelPassed 15 (.aload_n 0) 1)) ∧ (dD cX11_reelPassed 16 (.invokevirtual 142) 3 ∧ (dD cX11_reelPassed 19 (.iload_n 1) 1 ∧ dD cX11_reelPassed 20 .ireturn 1)))) := dkA12 (by decide +kernel)
theorem dX11_numberHere_k0 : ((((dD cX11_numberHere 0 (.aload_n 0) 1 ∧ dD cX11_numberHere 1 (.getfield 121) 3) ∧ (dD cX11_numberHere 4 (.ifCond .eq 5) 3 ∧ dD cX11_numberHere 7 (.iload_n 1) 1)) ∧ ((dD cX11_numberHere 8 .ireturn 1 ∧ dD cX11_numberHere 9 (.aload_n 0) 1) ∧ (dD cX11_numberHere 10 (.getfield 111) 3 ∧ dD cX11_numberHere 13 (.iconst 3) 1))) ∧ (((dD cX11_numberHere 14 (.if_icmp .eq 15) 3 ∧ dD cX11_numberHere 17 (.aload_n 0) 1) ∧ (dD cX11_numberHere 18 (.iconst 1) 1 ∧ dD cX11_numberHere 19 (.aload_n 0) 1)) ∧ ((dD cX11_numberHere 20 (.getfield 102) 3 ∧ dD cX11_numberHere 23 (.invokevirtual 148) 3) ∧ (dD cX11_numberHere 26 (.goto 24) 3 ∧ dD cX11_numberHere 29 (.aload_n 0) 1)))) := dkA16 (by decide +kernel)
theorem dX11_numberHere_k1 : ((((dD cX11_numberHere 30 (.getfield 108) 3 ∧ dD cX11_numberHere 33 (.iload_n 1) 1) ∧ (dD cX11_numberHere 34 (.iload_n 2) 1 ∧ dD cX11_numberHere 35 (.invokestatic 182) 3)) ∧ ((dD cX11_numberHere 38 (.ifCond .ne 12) 3 ∧ dD cX11_numberHere 41 (.aload_n 0) 1) ∧ (dD cX11_numberHere 42 (.iconst 4) 1 ∧ dD cX11_numberHere 43 (.aload_n 0) 1))) ∧ (((dD cX11_numberHere 44 (.getfield 102) 3 ∧ dD cX11_numberHere 47 (.invokevirtual 148) 3) ∧ (dD cX11_numberHere 50 (.aload_n 0) 1 ∧ dD cX11_numberHere 51 (.getfield 121) 3)) ∧ ((dD cX11_numberHere 54 (.ifCond .eq 7) 3 ∧ dD cX11_numberHere 57 (.iload_n 1) 1) ∧ (dD cX11_numberHere 58 (.goto 7) 3 ∧ dD cX11_numberHere 61 (.aload_n 0) 1)))) := dkA16 (by decide +kernel)
theorem dX11_numberHere_k2 : (dD cX11_numberHere 62 (.getfield 108) 3 ∧ dD cX11_numberHere 65 .ireturn 1) := dkA2 (by decide +kernel)
theorem dX11_number_k0 : (((dD cX11_number 0 (.aload_n 0) 1 ∧ (dD cX11_number 1 (.iload_n 1) 1 ∧ dD cX11_number 2 (.iload_n 2) 1)) ∧ (dD cX11_number 3 (.invokevirtual 190) 3 ∧ (dD cX11_number 6 (.istore_n 3) 1 ∧ dD cX11_number 7 (.aload_n 0) 1))) ∧ ((dD cX11_number 8 (.getfield 121) 3 ∧ (dD cX11_number 11 (.ifCond .ne 7) 3 ∧ dD cX11_number 14 (.aload_n 0) 1)) ∧ (dD cX11_number 15 (.invokevirtual 142) 3 ∧ (dD cX11_number 18 (.iload_n 3) 1 ∧ dD cX11_number 19 .ireturn 1)))) := dkA12 (by decide +kernel)
theorem dX11_after_k0 : (((dD cX11_after 0 (.aload_n 0) 1 ∧ dD cX11_after 1 (.aload_n 1) 1) ∧ (dD cX11_after 2 (.invokevirtual 193) 3 ∧ dD cX11_after 5 (.aload_n 0) 1)) ∧ ((dD cX11_after 6 (.iload_n 2) 1 ∧ dD cX11_after 7 (.iload_n 3) 1) ∧ (dD cX11_after 8 (.invokevirtual 197) 3 ∧ dD cX11_after 11 .ireturn 1))) := dkA8 (by decide +kernel)
theorem dX11_comma_k0 : (((dD cX11_comma 0 (.aload_n 0) 1 ∧ (dD cX11_comma 1 (.getfield 121) 3 ∧ dD cX11_comma 4 (.ifCond .ne 12) 3)) ∧ (dD cX11_comma 7 (.aload_n 0) 1 ∧ (dD cX11_comma 8 (.getfield 111) 3 ∧ dD cX11_comma 11 (.bipush 44) 2))) ∧ ((dD cX11_comma 13 (.if_icmp .eq 5) 3 ∧ (dD cX11_comma 16 (.iconst 0) 1 ∧ dD cX11_comma 17 .ireturn 1)) ∧ ((dD cX11_comma 18 (.aload_n 0) 1 ∧ dD cX11_comma 19 (.invokevirtual 142) 3) ∧ (dD cX11_comma 22 (.iconst 1) 1 ∧ dD cX11_comma 23 .ireturn 1)))) := dkA13 (by decide +kernel)
theorem dX11_opens_k0 : ((((dD cX11_opens 0 (.aload_n 0) 1 ∧ dD cX11_opens 1 (.aload_n 1) 1) ∧ (dD cX11_opens 2 (.invokevirtual 138) 3 ∧ dD cX11_opens 5 (.ifCond .ne 5) 3)) ∧ ((dD cX11_opens 8 (.iconst 0) 1 ∧ dD cX11_opens 9 .ireturn 1) ∧ (dD cX11_opens 10 (.iload_n 2) 1 ∧ dD cX11_opens 11 (.ifCond .ne 12) 3))) ∧ (((dD cX11_opens 14 (.aload_n 0) 1 ∧ dD cX11_opens 15 (.iconst 5) 1) ∧ (dD cX11_opens 16 (.aload_n 0) 1 ∧ dD cX11_opens 17 (.getfield 102) 3)) ∧ ((dD cX11_opens 20 (.invokevirtual 148) 3 ∧ dD cX11_opens 23 (.aload_n 0) 1) ∧ (dD cX11_opens 24 (.getfield 23) 3 ∧ dD cX11_opens 27 (.bipush 15) 2)))) := dkA16 (by decide +kernel)
theorem dX11_opens_k1 : (((dD cX11_opens 29 .iaload 1 ∧ (dD cX11_opens 30 (.ifCond .ne 13) 3 ∧ dD cX11_opens 33 (.aload_n 0) 1)) ∧ ((dD cX11_opens 34 (.bipush 6) 2 ∧ dD cX11_opens 36 (.aload_n 0) 1) ∧ (dD cX11_opens 37 (.getfield 102) 3 ∧ dD cX11_opens 40 (.invokevirtual 148) 3))) ∧ ((dD cX11_opens 43 (.aload_n 0) 1 ∧ (dD cX11_opens 44 (.getfield 121) 3 ∧ dD cX11_opens 47 (.ifCond .ne 7) 3)) ∧ ((dD cX11_opens 50 (.aload_n 0) 1 ∧ dD cX11_opens 51 (.invokevirtual 142) 3) ∧ (dD cX11_opens 54 (.iconst 1) 1 ∧ dD cX11_opens 55 .ireturn 1)))) := dkA14 (by decide +kernel)
theorem dX11_opensOnce_k0 : ((((dD cX11_opensOnce 0 (.aload_n 0) 1 ∧ dD cX11_opensOnce 1 (.aload_n 1) 1) ∧ (dD cX11_opensOnce 2 (.invokevirtual 138) 3 ∧ dD cX11_opensOnce 5 (.ifCond .ne 5) 3)) ∧ ((dD cX11_opensOnce 8 (.iconst 0) 1 ∧ dD cX11_opensOnce 9 .ireturn 1) ∧ (dD cX11_opensOnce 10 (.iload_n 2) 1 ∧ dD cX11_opensOnce 11 (.ifCond .eq 12) 3))) ∧ (((dD cX11_opensOnce 14 (.aload_n 0) 1 ∧ dD cX11_opensOnce 15 (.iconst 3) 1) ∧ (dD cX11_opensOnce 16 (.aload_n 0) 1 ∧ dD cX11_opensOnce 17 (.getfield 102) 3)) ∧ ((dD cX11_opensOnce 20 (.invokevirtual 148) 3 ∧ dD cX11_opensOnce 23 (.aload_n 0) 1) ∧ (dD cX11_opensOnce 24 (.getfield 23) 3 ∧ dD cX11_opensOnce 27 (.bipush 15) 2)))) := dkA16 (by decide +kernel)
theorem dX11_opensOnce_k1 : (((dD cX11_opensOnce 29 .iaload 1 ∧ (dD cX11_opensOnce 30 (.ifCond .ne 13) 3 ∧ dD cX11_opensOnce 33 (.aload_n 0) 1)) ∧ ((dD cX11_opensOnce 34 (.bipush 6) 2 ∧ dD cX11_opensOnce 36 (.aload_n 0) 1) ∧ (dD cX11_opensOnce 37 (.getfield 102) 3 ∧ dD cX11_opensOnce 40 (.invokevirtual 148) 3))) ∧ ((dD cX11_opensOnce 43 (.aload_n 0) 1 ∧ (dD cX11_opensOnce 44 (.getfield 121) 3 ∧ dD cX11_opensOnce 47 (.ifCond .ne 7) 3)) ∧ ((dD cX11_opensOnce 50 (.aload_n 0) 1 ∧ dD cX11_opensOnce 51 (.invokevirtual 142) 3) ∧ (dD cX11_opensOnce 54 (.iconst 1) 1 ∧ dD cX11_opensOnce 55 .ireturn 1)))) := dkA14 (by decide +kernel)
theorem dX11_frameOf_k0 : (((dD cX11_frameOf 0 (.aload_n 0) 1 ∧ (dD cX11_frameOf 1 (.iconst 0) 1 ∧ dD cX11_frameOf 2 (.aload_n 0) 1)) ∧ ((dD cX11_frameOf 3 (.getfield 23) 3 ∧ dD cX11_frameOf 6 (.bipush 16) 2) ∧ (dD cX11_frameOf 8 (.iconst 3) 1 ∧ dD cX11_frameOf 9 (.iload_n 1) 1))) ∧ ((dD cX11_frameOf 10 .imul 1 ∧ (dD cX11_frameOf 11 .iadd 1 ∧ dD cX11_frameOf 12 .iaload 1)) ∧ ((dD cX11_frameOf 13 (.iconst 1) 1 ∧ dD cX11_frameOf 14 .isub 1) ∧ (dD cX11_frameOf 15 (.invokevirtual 197) 3 ∧ dD cX11_frameOf 18 .ireturn 1)))) := dkA14 (by decide +kernel)


theorem dX11_houseLine_k0 : ((((dD cX11_houseLine 0 (.aload_n 0) 1 ∧ dD cX11_houseLine 1 (.getfield 23) 3) ∧ (dD cX11_houseLine 4 (.bipush 15) 2 ∧ dD cX11_houseLine 6 .iaload 1)) ∧ ((dD cX11_houseLine 7 (.iconst 1) 1 ∧ dD cX11_houseLine 8 (.if_icmp .ne 12) 3) ∧ (dD cX11_houseLine 11 (.aload_n 0) 1 ∧ dD cX11_houseLine 12 (.iconst 3) 1))) ∧ (((dD cX11_houseLine 13 (.aload_n 0) 1 ∧ dD cX11_houseLine 14 (.getfield 102) 3) ∧ (dD cX11_houseLine 17 (.invokevirtual 148) 3 ∧ dD cX11_houseLine 20 (.aload_n 0) 1)) ∧ ((dD cX11_houseLine 21 (.getfield 121) 3 ∧ dD cX11_houseLine 24 (.ifCond .eq 4) 3) ∧ (dD cX11_houseLine 27 .return_ 1 ∧ dD cX11_houseLine 28 (.aload_n 0) 1)))) := dkA16 (by decide +kernel)
theorem dX11_houseLine_k1 : ((((dD cX11_houseLine 29 (.invokevirtual 142) 3 ∧ dD cX11_houseLine 32 (.aload_n 0) 1) ∧ (dD cX11_houseLine 33 (.getfield 23) 3 ∧ dD cX11_houseLine 36 (.iconst 0) 1)) ∧ ((dD cX11_houseLine 37 (.aload_n 0) 1 ∧ dD cX11_houseLine 38 (.ldc_w 262) 3) ∧ (dD cX11_houseLine 41 (.iconst 1) 1 ∧ dD cX11_houseLine 42 (.bipush 50) 2))) ∧ (((dD cX11_houseLine 44 (.invokevirtual 264) 3 ∧ dD cX11_houseLine 47 .iastore 1) ∧ (dD cX11_houseLine 48 (.aload_n 0) 1 ∧ dD cX11_houseLine 49 (.getfield 23) 3)) ∧ ((dD cX11_houseLine 52 (.iconst 1) 1 ∧ dD cX11_houseLine 53 (.aload_n 0) 1) ∧ (dD cX11_houseLine 54 (.ldc_w 268) 3 ∧ dD cX11_houseLine 57 (.iconst 0) 1)))) := dkA16 (by decide +kernel)
theorem dX11_houseLine_k2 : ((((dD cX11_houseLine 58 (.bipush 50) 2 ∧ dD cX11_houseLine 60 (.invokevirtual 264) 3) ∧ (dD cX11_houseLine 63 .iastore 1 ∧ dD cX11_houseLine 64 (.aload_n 0) 1)) ∧ ((dD cX11_houseLine 65 (.getfield 23) 3 ∧ dD cX11_houseLine 68 (.iconst 2) 1) ∧ (dD cX11_houseLine 69 (.aload_n 0) 1 ∧ dD cX11_houseLine 70 (.ldc_w 269) 3))) ∧ (((dD cX11_houseLine 73 (.iconst 0) 1 ∧ dD cX11_houseLine 74 (.bipush 99) 2) ∧ (dD cX11_houseLine 76 (.invokevirtual 264) 3 ∧ dD cX11_houseLine 79 .iastore 1)) ∧ ((dD cX11_houseLine 80 (.aload_n 0) 1 ∧ dD cX11_houseLine 81 (.getfield 23) 3) ∧ (dD cX11_houseLine 84 (.iconst 3) 1 ∧ dD cX11_houseLine 85 (.aload_n 0) 1)))) := dkA16 (by decide +kernel)
theorem dX11_houseLine_k3 : ((((dD cX11_houseLine 86 (.ldc_w 271) 3 ∧ dD cX11_houseLine 89 (.iconst 1) 1) ∧ (dD cX11_houseLine 90 (.sipush 9999) 3 ∧ dD cX11_houseLine 93 (.invokevirtual 264) 3)) ∧ ((dD cX11_houseLine 96 .iastore 1 ∧ dD cX11_houseLine 97 (.aload_n 0) 1) ∧ (dD cX11_houseLine 98 (.getfield 23) 3 ∧ dD cX11_houseLine 101 (.iconst 4) 1))) ∧ (((dD cX11_houseLine 102 (.aload_n 0) 1 ∧ dD cX11_houseLine 103 (.ldc_w 273) 3) ∧ (dD cX11_houseLine 106 (.iconst 0) 1 ∧ dD cX11_houseLine 107 (.sipush 999) 3)) ∧ ((dD cX11_houseLine 110 (.invokevirtual 264) 3 ∧ dD cX11_houseLine 113 .iastore 1) ∧ (dD cX11_houseLine 114 (.aload_n 0) 1 ∧ dD cX11_houseLine 115 (.getfield 23) 3)))) := dkA16 (by decide +kernel)
theorem dX11_houseLine_k4 : ((((dD cX11_houseLine 118 (.iconst 5) 1 ∧ dD cX11_houseLine 119 (.aload_n 0) 1) ∧ (dD cX11_houseLine 120 (.ldc_w 275) 3 ∧ dD cX11_houseLine 123 (.iconst 0) 1)) ∧ ((dD cX11_houseLine 124 (.sipush 999) 3 ∧ dD cX11_houseLine 127 (.invokevirtual 264) 3) ∧ (dD cX11_houseLine 130 .iastore 1 ∧ dD cX11_houseLine 131 (.aload_n 0) 1))) ∧ (((dD cX11_houseLine 132 (.getfield 121) 3 ∧ dD cX11_houseLine 135 (.ifCond .ne 11) 3) ∧ (dD cX11_houseLine 138 (.aload_n 0) 1 ∧ dD cX11_houseLine 139 (.getfield 23) 3)) ∧ ((dD cX11_houseLine 142 (.bipush 15) 2 ∧ dD cX11_houseLine 144 (.iconst 1) 1) ∧ (dD cX11_houseLine 145 .iastore 1 ∧ dD cX11_houseLine 146 .return_ 1)))) := dkA16 (by decide +kernel)
theorem dX11_reelLine_k0 : ((((dD cX11_reelLine 0 (.aload_n 0) 1 ∧ dD cX11_reelLine 1 (.getfield 121) 3) ∧ (dD cX11_reelLine 4 (.ifCond .eq 4) 3 ∧ dD cX11_reelLine 7 .return_ 1)) ∧ ((dD cX11_reelLine 8 (.bipush 16) 2 ∧ dD cX11_reelLine 10 (.iconst 3) 1) ∧ (dD cX11_reelLine 11 (.aload_n 0) 1 ∧ dD cX11_reelLine 12 (.getfield 23) 3))) ∧ (((dD cX11_reelLine 15 (.bipush 6) 2 ∧ dD cX11_reelLine 17 .iaload 1) ∧ (dD cX11_reelLine 18 .imul 1 ∧ dD cX11_reelLine 19 .iadd 1)) ∧ ((dD cX11_reelLine 20 (.istore_n 1) 1 ∧ dD cX11_reelLine 21 (.aload_n 0) 1) ∧ (dD cX11_reelLine 22 (.aload_n 0) 1 ∧ dD cX11_reelLine 23 (.getfield 23) 3)))) := dkA16 (by decide +kernel)
theorem dX11_reelLine_k1 : ((((dD cX11_reelLine 26 (.bipush 6) 2 ∧ dD cX11_reelLine 28 .iaload 1) ∧ (dD cX11_reelLine 29 (.invokevirtual 277) 3 ∧ dD cX11_reelLine 32 (.aload_n 0) 1)) ∧ ((dD cX11_reelLine 33 (.getfield 23) 3 ∧ dD cX11_reelLine 36 (.iload_n 1) 1) ∧ (dD cX11_reelLine 37 (.aload_n 0) 1 ∧ dD cX11_reelLine 38 (.ldc_w 281) 3))) ∧ (((dD cX11_reelLine 41 (.iconst 2) 1 ∧ dD cX11_reelLine 42 (.sipush 2000) 3) ∧ (dD cX11_reelLine 45 (.invokevirtual 264) 3 ∧ dD cX11_reelLine 48 .iastore 1)) ∧ ((dD cX11_reelLine 49 (.aload_n 0) 1 ∧ dD cX11_reelLine 50 (.getfield 23) 3) ∧ (dD cX11_reelLine 53 (.iload_n 1) 1 ∧ dD cX11_reelLine 54 (.iconst 1) 1)))) := dkA16 (by decide +kernel)
theorem dX11_reelLine_k2 : ((((dD cX11_reelLine 55 .iadd 1 ∧ dD cX11_reelLine 56 (.aload_n 0) 1) ∧ (dD cX11_reelLine 57 (.ldc_w 283) 3 ∧ dD cX11_reelLine 60 (.iconst 0) 1)) ∧ ((dD cX11_reelLine 61 (.aload_n 0) 1 ∧ dD cX11_reelLine 62 (.getfield 23) 3) ∧ (dD cX11_reelLine 65 (.iload_n 1) 1 ∧ dD cX11_reelLine 66 .iaload 1))) ∧ (((dD cX11_reelLine 67 (.iconst 1) 1 ∧ dD cX11_reelLine 68 .isub 1) ∧ (dD cX11_reelLine 69 (.invokevirtual 264) 3 ∧ dD cX11_reelLine 72 .iastore 1)) ∧ ((dD cX11_reelLine 73 (.aload_n 0) 1 ∧ dD cX11_reelLine 74 (.getfield 23) 3) ∧ (dD cX11_reelLine 77 (.iload_n 1) 1 ∧ dD cX11_reelLine 78 (.iconst 2) 1)))) := dkA16 (by decide +kernel)
theorem dX11_reelLine_k3 : ((((dD cX11_reelLine 79 .iadd 1 ∧ dD cX11_reelLine 80 (.aload_n 0) 1) ∧ (dD cX11_reelLine 81 (.ldc_w 285) 3 ∧ dD cX11_reelLine 84 (.aload_n 0) 1)) ∧ ((dD cX11_reelLine 85 (.getfield 23) 3 ∧ dD cX11_reelLine 88 (.iload_n 1) 1) ∧ (dD cX11_reelLine 89 .iaload 1 ∧ dD cX11_reelLine 90 (.sipush 2000) 3))) ∧ (((dD cX11_reelLine 93 (.invokevirtual 264) 3 ∧ dD cX11_reelLine 96 .iastore 1) ∧ (dD cX11_reelLine 97 (.aload_n 0) 1 ∧ dD cX11_reelLine 98 (.getfield 121) 3)) ∧ ((dD cX11_reelLine 101 (.ifCond .ne 14) 3 ∧ dD cX11_reelLine 104 (.aload_n 0) 1) ∧ (dD cX11_reelLine 105 (.getfield 23) 3 ∧ dD cX11_reelLine 108 (.bipush 6) 2)))) := dkA16 (by decide +kernel)
theorem dX11_reelLine_k4 : ((dD cX11_reelLine 110 .dup2 1 ∧ (dD cX11_reelLine 111 .iaload 1 ∧ dD cX11_reelLine 112 (.iconst 1) 1)) ∧ (dD cX11_reelLine 113 .iadd 1 ∧ (dD cX11_reelLine 114 .iastore 1 ∧ dD cX11_reelLine 115 .return_ 1))) := dkA6 (by decide +kernel)
theorem dX11_townLine_k0 : ((((dD cX11_townLine 0 (.aload_n 0) 1 ∧ dD cX11_townLine 1 (.getfield 121) 3) ∧ (dD cX11_townLine 4 (.ifCond .eq 4) 3 ∧ dD cX11_townLine 7 .return_ 1)) ∧ ((dD cX11_townLine 8 (.aload_n 0) 1 ∧ dD cX11_townLine 9 (.bipush 8) 2) ∧ (dD cX11_townLine 11 (.aload_n 0) 1 ∧ dD cX11_townLine 12 (.getfield 23) 3))) ∧ (((dD cX11_townLine 15 (.bipush 7) 2 ∧ dD cX11_townLine 17 .iaload 1) ∧ (dD cX11_townLine 18 .iadd 1 ∧ dD cX11_townLine 19 (.invokevirtual 277) 3)) ∧ ((dD cX11_townLine 22 (.aload_n 0) 1 ∧ dD cX11_townLine 23 (.getfield 23) 3) ∧ (dD cX11_townLine 26 (.bipush 40) 2 ∧ dD cX11_townLine 28 (.aload_n 0) 1)))) := dkA16 (by decide +kernel)
theorem dX11_townLine_k1 : ((((dD cX11_townLine 29 (.getfield 23) 3 ∧ dD cX11_townLine 32 (.bipush 7) 2) ∧ (dD cX11_townLine 34 .iaload 1 ∧ dD cX11_townLine 35 .iadd 1)) ∧ ((dD cX11_townLine 36 (.aload_n 0) 1 ∧ dD cX11_townLine 37 (.ldc_w 286) 3) ∧ (dD cX11_townLine 40 (.iconst 1) 1 ∧ dD cX11_townLine 41 (.bipush 9) 2))) ∧ (((dD cX11_townLine 43 (.invokevirtual 264) 3 ∧ dD cX11_townLine 46 .iastore 1) ∧ (dD cX11_townLine 47 (.aload_n 0) 1 ∧ dD cX11_townLine 48 (.getfield 121) 3)) ∧ ((dD cX11_townLine 51 (.ifCond .ne 14) 3 ∧ dD cX11_townLine 54 (.aload_n 0) 1) ∧ (dD cX11_townLine 55 (.getfield 23) 3 ∧ dD cX11_townLine 58 (.bipush 7) 2)))) := dkA16 (by decide +kernel)
theorem dX11_townLine_k2 : ((dD cX11_townLine 60 .dup2 1 ∧ (dD cX11_townLine 61 .iaload 1 ∧ dD cX11_townLine 62 (.iconst 1) 1)) ∧ (dD cX11_townLine 63 .iadd 1 ∧ (dD cX11_townLine 64 .iastore 1 ∧ dD cX11_townLine 65 .return_ 1))) := dkA6 (by decide +kernel)
theorem dX11_markLine_k0 : ((((dD cX11_markLine 0 (.aload_n 0) 1 ∧ dD cX11_markLine 1 (.getfield 121) 3) ∧ (dD cX11_markLine 4 (.ifCond .eq 4) 3 ∧ dD cX11_markLine 7 .return_ 1)) ∧ ((dD cX11_markLine 8 (.bipush 44) 2 ∧ dD cX11_markLine 10 (.iconst 3) 1) ∧ (dD cX11_markLine 11 (.aload_n 0) 1 ∧ dD cX11_markLine 12 (.getfield 23) 3))) ∧ (((dD cX11_markLine 15 (.bipush 8) 2 ∧ dD cX11_markLine 17 .iaload 1) ∧ (dD cX11_markLine 18 .imul 1 ∧ dD cX11_markLine 19 .iadd 1)) ∧ ((dD cX11_markLine 20 (.istore_n 1) 1 ∧ dD cX11_markLine 21 (.aload_n 0) 1) ∧ (dD cX11_markLine 22 (.invokevirtual 288) 3 ∧ dD cX11_markLine 25 (.istore_n 2) 1)))) := dkA16 (by decide +kernel)
theorem dX11_markLine_k1 : ((((dD cX11_markLine 26 (.aload_n 0) 1 ∧ dD cX11_markLine 27 (.getfield 121) 3) ∧ (dD cX11_markLine 30 (.ifCond .eq 7) 3 ∧ dD cX11_markLine 33 (.iconst 0) 1)) ∧ ((dD cX11_markLine 34 (.goto 8) 3 ∧ dD cX11_markLine 37 (.aload_n 0) 1) ∧ (dD cX11_markLine 38 (.iload_n 2) 1 ∧ dD cX11_markLine 39 (.invokevirtual 291) 3))) ∧ (((dD cX11_markLine 42 (.istore_n 3) 1 ∧ dD cX11_markLine 43 (.aload_n 0) 1) ∧ (dD cX11_markLine 44 (.ldc 170) 2 ∧ dD cX11_markLine 46 (.invokevirtual 193) 3)) ∧ ((dD cX11_markLine 49 (.aload_n 0) 1 ∧ dD cX11_markLine 50 (.bipush 8) 2) ∧ (dD cX11_markLine 52 (.bipush 11) 2 ∧ dD cX11_markLine 54 (.invokevirtual 186) 3)))) := dkA16 (by decide +kernel)
theorem dX11_markLine_k2 : ((((dD cX11_markLine 57 (.istore 4) 2 ∧ dD cX11_markLine 59 (.iconst 0) 1) ∧ (dD cX11_markLine 60 (.istore 5) 2 ∧ dD cX11_markLine 62 (.iload 5) 2)) ∧ ((dD cX11_markLine 64 (.aload_n 0) 1 ∧ dD cX11_markLine 65 (.getfield 23) 3) ∧ (dD cX11_markLine 68 (.bipush 8) 2 ∧ dD cX11_markLine 70 .iaload 1))) ∧ (((dD cX11_markLine 71 (.if_icmp .ge 60) 3 ∧ dD cX11_markLine 74 (.aload_n 0) 1) ∧ (dD cX11_markLine 75 (.getfield 121) 3 ∧ dD cX11_markLine 78 (.ifCond .ne 47) 3)) ∧ ((dD cX11_markLine 81 (.aload_n 0) 1 ∧ dD cX11_markLine 82 (.getfield 23) 3) ∧ (dD cX11_markLine 85 (.bipush 44) 2 ∧ dD cX11_markLine 87 (.iconst 3) 1)))) := dkA16 (by decide +kernel)
theorem dX11_markLine_k3 : ((((dD cX11_markLine 88 (.iload 5) 2 ∧ dD cX11_markLine 90 .imul 1) ∧ (dD cX11_markLine 91 .iadd 1 ∧ dD cX11_markLine 92 .iaload 1)) ∧ ((dD cX11_markLine 93 (.iload_n 2) 1 ∧ dD cX11_markLine 94 (.if_icmp .ne 31) 3) ∧ (dD cX11_markLine 97 (.aload_n 0) 1 ∧ dD cX11_markLine 98 (.getfield 23) 3))) ∧ (((dD cX11_markLine 101 (.bipush 44) 2 ∧ dD cX11_markLine 103 (.iconst 3) 1) ∧ (dD cX11_markLine 104 (.iload 5) 2 ∧ dD cX11_markLine 106 .imul 1)) ∧ ((dD cX11_markLine 107 .iadd 1 ∧ dD cX11_markLine 108 (.iconst 2) 1) ∧ (dD cX11_markLine 109 .iadd 1 ∧ dD cX11_markLine 110 .iaload 1)))) := dkA16 (by decide +kernel)
theorem dX11_markLine_k4 : ((((dD cX11_markLine 111 (.iload 4) 2 ∧ dD cX11_markLine 113 (.if_icmp .ne 12) 3) ∧ (dD cX11_markLine 116 (.aload_n 0) 1 ∧ dD cX11_markLine 117 (.iconst 3) 1)) ∧ ((dD cX11_markLine 118 (.aload_n 0) 1 ∧ dD cX11_markLine 119 (.getfield 102) 3) ∧ (dD cX11_markLine 122 (.invokevirtual 148) 3 ∧ dD cX11_markLine 125 (.iinc 5 1) 3))) ∧ (((dD cX11_markLine 128 (.goto (-66)) 3 ∧ dD cX11_markLine 131 (.aload_n 0) 1) ∧ (dD cX11_markLine 132 (.getfield 121) 3 ∧ dD cX11_markLine 135 (.ifCond .eq 4) 3)) ∧ ((dD cX11_markLine 138 .return_ 1 ∧ dD cX11_markLine 139 (.aload_n 0) 1) ∧ (dD cX11_markLine 140 (.invokevirtual 142) 3 ∧ dD cX11_markLine 143 (.aload_n 0) 1)))) := dkA16 (by decide +kernel)
theorem dX11_markLine_k5 : ((((dD cX11_markLine 144 (.getfield 23) 3 ∧ dD cX11_markLine 147 (.iload_n 1) 1) ∧ (dD cX11_markLine 148 (.iload_n 2) 1 ∧ dD cX11_markLine 149 .iastore 1)) ∧ ((dD cX11_markLine 150 (.aload_n 0) 1 ∧ dD cX11_markLine 151 (.getfield 23) 3) ∧ (dD cX11_markLine 154 (.iload_n 1) 1 ∧ dD cX11_markLine 155 (.iconst 1) 1))) ∧ (((dD cX11_markLine 156 .iadd 1 ∧ dD cX11_markLine 157 (.iload_n 3) 1) ∧ (dD cX11_markLine 158 .iastore 1 ∧ dD cX11_markLine 159 (.aload_n 0) 1)) ∧ ((dD cX11_markLine 160 (.getfield 23) 3 ∧ dD cX11_markLine 163 (.iload_n 1) 1) ∧ (dD cX11_markLine 164 (.iconst 2) 1 ∧ dD cX11_markLine 165 .iadd 1)))) := dkA16 (by decide +kernel)
theorem dX11_markLine_k6 : (((dD cX11_markLine 166 (.iload 4) 2 ∧ dD cX11_markLine 168 .iastore 1) ∧ (dD cX11_markLine 169 (.aload_n 0) 1 ∧ (dD cX11_markLine 170 (.getfield 23) 3 ∧ dD cX11_markLine 173 (.bipush 8) 2))) ∧ ((dD cX11_markLine 175 .dup2 1 ∧ (dD cX11_markLine 176 .iaload 1 ∧ dD cX11_markLine 177 (.iconst 1) 1)) ∧ (dD cX11_markLine 178 .iadd 1 ∧ (dD cX11_markLine 179 .iastore 1 ∧ dD cX11_markLine 180 .return_ 1)))) := dkA11 (by decide +kernel)
theorem dX11_joinLine_k0 : ((((dD cX11_joinLine 0 (.aload_n 0) 1 ∧ dD cX11_joinLine 1 (.getfield 121) 3) ∧ (dD cX11_joinLine 4 (.ifCond .eq 4) 3 ∧ dD cX11_joinLine 7 .return_ 1)) ∧ ((dD cX11_joinLine 8 (.bipush 80) 2 ∧ dD cX11_joinLine 10 (.iconst 2) 1) ∧ (dD cX11_joinLine 11 (.aload_n 0) 1 ∧ dD cX11_joinLine 12 (.getfield 23) 3))) ∧ (((dD cX11_joinLine 15 (.bipush 9) 2 ∧ dD cX11_joinLine 17 .iaload 1) ∧ (dD cX11_joinLine 18 .imul 1 ∧ dD cX11_joinLine 19 .iadd 1)) ∧ ((dD cX11_joinLine 20 (.istore_n 1) 1 ∧ dD cX11_joinLine 21 (.aload_n 0) 1) ∧ (dD cX11_joinLine 22 (.getfield 23) 3 ∧ dD cX11_joinLine 25 (.iload_n 1) 1)))) := dkA16 (by decide +kernel)
theorem dX11_joinLine_k1 : ((((dD cX11_joinLine 26 (.aload_n 0) 1 ∧ dD cX11_joinLine 27 (.invokevirtual 288) 3) ∧ (dD cX11_joinLine 30 .iastore 1 ∧ dD cX11_joinLine 31 (.aload_n 0) 1)) ∧ ((dD cX11_joinLine 32 (.getfield 121) 3 ∧ dD cX11_joinLine 35 (.ifCond .ne 14) 3) ∧ (dD cX11_joinLine 38 (.aload_n 0) 1 ∧ dD cX11_joinLine 39 (.aload_n 0) 1))) ∧ (((dD cX11_joinLine 40 (.getfield 23) 3 ∧ dD cX11_joinLine 43 (.iload_n 1) 1) ∧ (dD cX11_joinLine 44 .iaload 1 ∧ dD cX11_joinLine 45 (.invokevirtual 291) 3)) ∧ ((dD cX11_joinLine 48 .pop 1 ∧ dD cX11_joinLine 49 (.aload_n 0) 1) ∧ (dD cX11_joinLine 50 (.getfield 23) 3 ∧ dD cX11_joinLine 53 (.iload_n 1) 1)))) := dkA16 (by decide +kernel)
theorem dX11_joinLine_k2 : ((((dD cX11_joinLine 54 (.iconst 1) 1 ∧ dD cX11_joinLine 55 .iadd 1) ∧ (dD cX11_joinLine 56 (.aload_n 0) 1 ∧ dD cX11_joinLine 57 (.ldc_w 294) 3)) ∧ ((dD cX11_joinLine 60 (.iconst 1) 1 ∧ dD cX11_joinLine 61 (.bipush 99) 2) ∧ (dD cX11_joinLine 63 (.invokevirtual 264) 3 ∧ dD cX11_joinLine 66 .iastore 1))) ∧ (((dD cX11_joinLine 67 (.aload_n 0) 1 ∧ dD cX11_joinLine 68 (.getfield 121) 3) ∧ (dD cX11_joinLine 71 (.ifCond .ne 14) 3 ∧ dD cX11_joinLine 74 (.aload_n 0) 1)) ∧ ((dD cX11_joinLine 75 (.getfield 23) 3 ∧ dD cX11_joinLine 78 (.bipush 9) 2) ∧ (dD cX11_joinLine 80 .dup2 1 ∧ dD cX11_joinLine 81 .iaload 1)))) := dkA16 (by decide +kernel)
theorem dX11_joinLine_k3 : ((dD cX11_joinLine 82 (.iconst 1) 1 ∧ dD cX11_joinLine 83 .iadd 1) ∧ (dD cX11_joinLine 84 .iastore 1 ∧ dD cX11_joinLine 85 .return_ 1)) := dkA4 (by decide +kernel)
theorem dX11_weakLine_k0 : ((((dD cX11_weakLine 0 (.aload_n 0) 1 ∧ dD cX11_weakLine 1 (.getfield 121) 3) ∧ (dD cX11_weakLine 4 (.ifCond .eq 4) 3 ∧ dD cX11_weakLine 7 .return_ 1)) ∧ ((dD cX11_weakLine 8 (.bipush 96) 2 ∧ dD cX11_weakLine 10 (.iconst 3) 1) ∧ (dD cX11_weakLine 11 (.aload_n 0) 1 ∧ dD cX11_weakLine 12 (.getfield 23) 3))) ∧ (((dD cX11_weakLine 15 (.bipush 10) 2 ∧ dD cX11_weakLine 17 .iaload 1) ∧ (dD cX11_weakLine 18 .imul 1 ∧ dD cX11_weakLine 19 .iadd 1)) ∧ ((dD cX11_weakLine 20 (.istore_n 1) 1 ∧ dD cX11_weakLine 21 (.aload_n 0) 1) ∧ (dD cX11_weakLine 22 (.invokevirtual 288) 3 ∧ dD cX11_weakLine 25 (.istore_n 2) 1)))) := dkA16 (by decide +kernel)
theorem dX11_weakLine_k1 : ((((dD cX11_weakLine 26 (.aload_n 0) 1 ∧ dD cX11_weakLine 27 (.getfield 121) 3) ∧ (dD cX11_weakLine 30 (.ifCond .eq 7) 3 ∧ dD cX11_weakLine 33 (.iconst 0) 1)) ∧ ((dD cX11_weakLine 34 (.goto 21) 3 ∧ dD cX11_weakLine 37 (.aload_n 0) 1) ∧ (dD cX11_weakLine 38 (.iconst 0) 1 ∧ dD cX11_weakLine 39 (.aload_n 0) 1))) ∧ (((dD cX11_weakLine 40 (.getfield 23) 3 ∧ dD cX11_weakLine 43 (.bipush 16) 2) ∧ (dD cX11_weakLine 45 (.iconst 3) 1 ∧ dD cX11_weakLine 46 (.iload_n 2) 1)) ∧ ((dD cX11_weakLine 47 .imul 1 ∧ dD cX11_weakLine 48 .iadd 1) ∧ (dD cX11_weakLine 49 .iaload 1 ∧ dD cX11_weakLine 50 (.iconst 1) 1)))) := dkA16 (by decide +kernel)
theorem dX11_weakLine_k2 : ((((dD cX11_weakLine 51 .isub 1 ∧ dD cX11_weakLine 52 (.invokevirtual 190) 3) ∧ (dD cX11_weakLine 55 (.istore_n 3) 1 ∧ dD cX11_weakLine 56 (.iconst 0) 1)) ∧ ((dD cX11_weakLine 57 (.istore 4) 2 ∧ dD cX11_weakLine 59 (.iload 4) 2) ∧ (dD cX11_weakLine 61 (.aload_n 0) 1 ∧ dD cX11_weakLine 62 (.getfield 23) 3))) ∧ (((dD cX11_weakLine 65 (.bipush 10) 2 ∧ dD cX11_weakLine 67 .iaload 1) ∧ (dD cX11_weakLine 68 (.if_icmp .ge 59) 3 ∧ dD cX11_weakLine 71 (.aload_n 0) 1)) ∧ ((dD cX11_weakLine 72 (.getfield 121) 3 ∧ dD cX11_weakLine 75 (.ifCond .ne 46) 3) ∧ (dD cX11_weakLine 78 (.aload_n 0) 1 ∧ dD cX11_weakLine 79 (.getfield 23) 3)))) := dkA16 (by decide +kernel)
theorem dX11_weakLine_k3 : ((((dD cX11_weakLine 82 (.bipush 96) 2 ∧ dD cX11_weakLine 84 (.iconst 3) 1) ∧ (dD cX11_weakLine 85 (.iload 4) 2 ∧ dD cX11_weakLine 87 .imul 1)) ∧ ((dD cX11_weakLine 88 .iadd 1 ∧ dD cX11_weakLine 89 .iaload 1) ∧ (dD cX11_weakLine 90 (.iload_n 2) 1 ∧ dD cX11_weakLine 91 (.if_icmp .ne 30) 3))) ∧ (((dD cX11_weakLine 94 (.aload_n 0) 1 ∧ dD cX11_weakLine 95 (.getfield 23) 3) ∧ (dD cX11_weakLine 98 (.bipush 96) 2 ∧ dD cX11_weakLine 100 (.iconst 3) 1)) ∧ ((dD cX11_weakLine 101 (.iload 4) 2 ∧ dD cX11_weakLine 103 .imul 1) ∧ (dD cX11_weakLine 104 .iadd 1 ∧ dD cX11_weakLine 105 (.iconst 1) 1)))) := dkA16 (by decide +kernel)
theorem dX11_weakLine_k4 : ((((dD cX11_weakLine 106 .iadd 1 ∧ dD cX11_weakLine 107 .iaload 1) ∧ (dD cX11_weakLine 108 (.iload_n 3) 1 ∧ dD cX11_weakLine 109 (.if_icmp .ne 12) 3)) ∧ ((dD cX11_weakLine 112 (.aload_n 0) 1 ∧ dD cX11_weakLine 113 (.iconst 3) 1) ∧ (dD cX11_weakLine 114 (.aload_n 0) 1 ∧ dD cX11_weakLine 115 (.getfield 102) 3))) ∧ (((dD cX11_weakLine 118 (.invokevirtual 148) 3 ∧ dD cX11_weakLine 121 (.iinc 4 1) 3) ∧ (dD cX11_weakLine 124 (.goto (-65)) 3 ∧ dD cX11_weakLine 127 (.aload_n 0) 1)) ∧ ((dD cX11_weakLine 128 (.getfield 121) 3 ∧ dD cX11_weakLine 131 (.ifCond .eq 4) 3) ∧ (dD cX11_weakLine 134 .return_ 1 ∧ dD cX11_weakLine 135 (.aload_n 0) 1)))) := dkA16 (by decide +kernel)
theorem dX11_weakLine_k5 : ((((dD cX11_weakLine 136 (.invokevirtual 142) 3 ∧ dD cX11_weakLine 139 (.aload_n 0) 1) ∧ (dD cX11_weakLine 140 (.getfield 23) 3 ∧ dD cX11_weakLine 143 (.iload_n 1) 1)) ∧ ((dD cX11_weakLine 144 (.iload_n 2) 1 ∧ dD cX11_weakLine 145 .iastore 1) ∧ (dD cX11_weakLine 146 (.aload_n 0) 1 ∧ dD cX11_weakLine 147 (.getfield 23) 3))) ∧ (((dD cX11_weakLine 150 (.iload_n 1) 1 ∧ dD cX11_weakLine 151 (.iconst 1) 1) ∧ (dD cX11_weakLine 152 .iadd 1 ∧ dD cX11_weakLine 153 (.iload_n 3) 1)) ∧ ((dD cX11_weakLine 154 .iastore 1 ∧ dD cX11_weakLine 155 (.aload_n 0) 1) ∧ (dD cX11_weakLine 156 (.getfield 23) 3 ∧ dD cX11_weakLine 159 (.iload_n 1) 1)))) := dkA16 (by decide +kernel)
theorem dX11_weakLine_k6 : ((((dD cX11_weakLine 160 (.iconst 2) 1 ∧ dD cX11_weakLine 161 .iadd 1) ∧ (dD cX11_weakLine 162 (.aload_n 0) 1 ∧ dD cX11_weakLine 163 (.ldc_w 296) 3)) ∧ ((dD cX11_weakLine 166 (.iconst 1) 1 ∧ dD cX11_weakLine 167 (.bipush 99) 2) ∧ (dD cX11_weakLine 169 (.invokevirtual 264) 3 ∧ dD cX11_weakLine 172 .iastore 1))) ∧ (((dD cX11_weakLine 173 (.aload_n 0) 1 ∧ dD cX11_weakLine 174 (.getfield 121) 3) ∧ (dD cX11_weakLine 177 (.ifCond .ne 14) 3 ∧ dD cX11_weakLine 180 (.aload_n 0) 1)) ∧ ((dD cX11_weakLine 181 (.getfield 23) 3 ∧ dD cX11_weakLine 184 (.bipush 10) 2) ∧ (dD cX11_weakLine 186 .dup2 1 ∧ dD cX11_weakLine 187 .iaload 1)))) := dkA16 (by decide +kernel)
theorem dX11_weakLine_k7 : ((dD cX11_weakLine 188 (.iconst 1) 1 ∧ dD cX11_weakLine 189 .iadd 1) ∧ (dD cX11_weakLine 190 .iastore 1 ∧ dD cX11_weakLine 191 .return_ 1)) := dkA4 (by decide +kernel)
theorem dX11_manLine_k0 : ((((dD cX11_manLine 0 (.aload_n 0) 1 ∧ dD cX11_manLine 1 (.getfield 121) 3) ∧ (dD cX11_manLine 4 (.ifCond .eq 4) 3 ∧ dD cX11_manLine 7 .return_ 1)) ∧ ((dD cX11_manLine 8 (.bipush 114) 2 ∧ dD cX11_manLine 10 (.iconst 3) 1) ∧ (dD cX11_manLine 11 (.aload_n 0) 1 ∧ dD cX11_manLine 12 (.getfield 23) 3))) ∧ (((dD cX11_manLine 15 (.bipush 11) 2 ∧ dD cX11_manLine 17 .iaload 1) ∧ (dD cX11_manLine 18 .imul 1 ∧ dD cX11_manLine 19 .iadd 1)) ∧ ((dD cX11_manLine 20 (.istore_n 1) 1 ∧ dD cX11_manLine 21 (.aload_n 0) 1) ∧ (dD cX11_manLine 22 (.bipush 12) 2 ∧ dD cX11_manLine 24 (.aload_n 0) 1)))) := dkA16 (by decide +kernel)
theorem dX11_manLine_k1 : ((((dD cX11_manLine 25 (.getfield 23) 3 ∧ dD cX11_manLine 28 (.bipush 11) 2) ∧ (dD cX11_manLine 30 .iaload 1 ∧ dD cX11_manLine 31 .iadd 1)) ∧ ((dD cX11_manLine 32 (.invokevirtual 277) 3 ∧ dD cX11_manLine 35 (.aload_n 0) 1) ∧ (dD cX11_manLine 36 (.ldc_w 298) 3 ∧ dD cX11_manLine 39 (.invokevirtual 138) 3))) ∧ (((dD cX11_manLine 42 (.ifCond .eq 7) 3 ∧ dD cX11_manLine 45 (.iconst 0) 1) ∧ (dD cX11_manLine 46 (.goto 46) 3 ∧ dD cX11_manLine 49 (.aload_n 0) 1)) ∧ ((dD cX11_manLine 50 (.ldc_w 300) 3 ∧ dD cX11_manLine 53 (.invokevirtual 138) 3) ∧ (dD cX11_manLine 56 (.ifCond .eq 7) 3 ∧ dD cX11_manLine 59 (.iconst 1) 1)))) := dkA16 (by decide +kernel)
theorem dX11_manLine_k2 : ((((dD cX11_manLine 60 (.goto 32) 3 ∧ dD cX11_manLine 63 (.aload_n 0) 1) ∧ (dD cX11_manLine 64 (.ldc_w 302) 3 ∧ dD cX11_manLine 67 (.invokevirtual 138) 3)) ∧ ((dD cX11_manLine 70 (.ifCond .eq 7) 3 ∧ dD cX11_manLine 73 (.iconst 2) 1) ∧ (dD cX11_manLine 74 (.goto 18) 3 ∧ dD cX11_manLine 77 (.aload_n 0) 1))) ∧ (((dD cX11_manLine 78 (.ldc_w 304) 3 ∧ dD cX11_manLine 81 (.invokevirtual 138) 3) ∧ (dD cX11_manLine 84 (.ifCond .eq 7) 3 ∧ dD cX11_manLine 87 (.iconst 3) 1)) ∧ ((dD cX11_manLine 88 (.goto 4) 3 ∧ dD cX11_manLine 91 (.iconst (-1)) 1) ∧ (dD cX11_manLine 92 (.istore_n 2) 1 ∧ dD cX11_manLine 93 (.iload_n 2) 1)))) := dkA16 (by decide +kernel)
theorem dX11_manLine_k3 : ((((dD cX11_manLine 94 (.ifCond .ge 12) 3 ∧ dD cX11_manLine 97 (.aload_n 0) 1) ∧ (dD cX11_manLine 98 (.iconst 1) 1 ∧ dD cX11_manLine 99 (.aload_n 0) 1)) ∧ ((dD cX11_manLine 100 (.getfield 102) 3 ∧ dD cX11_manLine 103 (.invokevirtual 148) 3) ∧ (dD cX11_manLine 106 (.aload_n 0) 1 ∧ dD cX11_manLine 107 (.getfield 121) 3))) ∧ (((dD cX11_manLine 110 (.ifCond .eq 4) 3 ∧ dD cX11_manLine 113 .return_ 1) ∧ (dD cX11_manLine 114 (.aload_n 0) 1 ∧ dD cX11_manLine 115 (.invokevirtual 142) 3)) ∧ ((dD cX11_manLine 118 (.iconst 0) 1 ∧ dD cX11_manLine 119 (.istore_n 3) 1) ∧ (dD cX11_manLine 120 (.iload_n 2) 1 ∧ dD cX11_manLine 121 (.iconst 3) 1)))) := dkA16 (by decide +kernel)
theorem dX11_manLine_k4 : ((((dD cX11_manLine 122 (.if_icmp .ne 23) 3 ∧ dD cX11_manLine 125 (.aload_n 0) 1) ∧ (dD cX11_manLine 126 (.bipush 8) 2 ∧ dD cX11_manLine 128 (.bipush 11) 2)) ∧ ((dD cX11_manLine 130 (.invokevirtual 186) 3 ∧ dD cX11_manLine 133 (.istore_n 3) 1) ∧ (dD cX11_manLine 134 (.aload_n 0) 1 ∧ dD cX11_manLine 135 (.getfield 121) 3))) ∧ (((dD cX11_manLine 138 (.ifCond .ne 7) 3 ∧ dD cX11_manLine 141 (.aload_n 0) 1) ∧ (dD cX11_manLine 142 (.invokevirtual 142) 3 ∧ dD cX11_manLine 145 (.aload_n 0) 1)) ∧ ((dD cX11_manLine 146 (.ldc_w 306) 3 ∧ dD cX11_manLine 149 (.iconst 0) 1) ∧ (dD cX11_manLine 150 (.bipush 40) 2 ∧ dD cX11_manLine 152 (.invokevirtual 264) 3)))) := dkA16 (by decide +kernel)
theorem dX11_manLine_k5 : ((((dD cX11_manLine 155 (.istore 4) 2 ∧ dD cX11_manLine 157 (.aload_n 0) 1) ∧ (dD cX11_manLine 158 (.getfield 121) 3 ∧ dD cX11_manLine 161 (.ifCond .eq 4) 3)) ∧ ((dD cX11_manLine 164 .return_ 1 ∧ dD cX11_manLine 165 (.aload_n 0) 1) ∧ (dD cX11_manLine 166 (.getfield 23) 3 ∧ dD cX11_manLine 169 (.iload_n 1) 1))) ∧ (((dD cX11_manLine 170 (.iload_n 2) 1 ∧ dD cX11_manLine 171 .iastore 1) ∧ (dD cX11_manLine 172 (.aload_n 0) 1 ∧ dD cX11_manLine 173 (.getfield 23) 3)) ∧ ((dD cX11_manLine 176 (.iload_n 1) 1 ∧ dD cX11_manLine 177 (.iconst 1) 1) ∧ (dD cX11_manLine 178 .iadd 1 ∧ dD cX11_manLine 179 (.iload_n 3) 1)))) := dkA16 (by decide +kernel)
theorem dX11_manLine_k6 : ((((dD cX11_manLine 180 .iastore 1 ∧ dD cX11_manLine 181 (.aload_n 0) 1) ∧ (dD cX11_manLine 182 (.getfield 23) 3 ∧ dD cX11_manLine 185 (.iload_n 1) 1)) ∧ ((dD cX11_manLine 186 (.iconst 2) 1 ∧ dD cX11_manLine 187 .iadd 1) ∧ (dD cX11_manLine 188 (.iload 4) 2 ∧ dD cX11_manLine 190 .iastore 1))) ∧ (((dD cX11_manLine 191 (.aload_n 0) 1 ∧ dD cX11_manLine 192 (.getfield 23) 3) ∧ (dD cX11_manLine 195 (.bipush 11) 2 ∧ dD cX11_manLine 197 .dup2 1)) ∧ ((dD cX11_manLine 198 .iaload 1 ∧ dD cX11_manLine 199 (.iconst 1) 1) ∧ (dD cX11_manLine 200 .iadd 1 ∧ dD cX11_manLine 201 .iastore 1)))) := dkA16 (by decide +kernel)
theorem dX11_manLine_k7 : dD cX11_manLine 202 .return_ 1 := dkA1 (by decide +kernel)
theorem dX11_scratchLine_k0 : ((((dD cX11_scratchLine 0 (.aload_n 0) 1 ∧ dD cX11_scratchLine 1 (.getfield 121) 3) ∧ (dD cX11_scratchLine 4 (.ifCond .eq 4) 3 ∧ dD cX11_scratchLine 7 .return_ 1)) ∧ ((dD cX11_scratchLine 8 (.sipush 155) 3 ∧ dD cX11_scratchLine 11 (.iconst 2) 1) ∧ (dD cX11_scratchLine 12 (.aload_n 0) 1 ∧ dD cX11_scratchLine 13 (.getfield 23) 3))) ∧ (((dD cX11_scratchLine 16 (.bipush 14) 2 ∧ dD cX11_scratchLine 18 .iaload 1) ∧ (dD cX11_scratchLine 19 .imul 1 ∧ dD cX11_scratchLine 20 .iadd 1)) ∧ ((dD cX11_scratchLine 21 (.istore_n 1) 1 ∧ dD cX11_scratchLine 22 (.aload_n 0) 1) ∧ (dD cX11_scratchLine 23 (.getfield 23) 3 ∧ dD cX11_scratchLine 26 (.iload_n 1) 1)))) := dkA16 (by decide +kernel)
theorem dX11_scratchLine_k1 : ((((dD cX11_scratchLine 27 (.aload_n 0) 1 ∧ dD cX11_scratchLine 28 (.invokevirtual 288) 3) ∧ (dD cX11_scratchLine 31 .iastore 1 ∧ dD cX11_scratchLine 32 (.aload_n 0) 1)) ∧ ((dD cX11_scratchLine 33 (.getfield 121) 3 ∧ dD cX11_scratchLine 36 (.ifCond .ne 21) 3) ∧ (dD cX11_scratchLine 39 (.aload_n 0) 1 ∧ dD cX11_scratchLine 40 (.getfield 23) 3))) ∧ (((dD cX11_scratchLine 43 (.iload_n 1) 1 ∧ dD cX11_scratchLine 44 (.iconst 1) 1) ∧ (dD cX11_scratchLine 45 .iadd 1 ∧ dD cX11_scratchLine 46 (.aload_n 0) 1)) ∧ ((dD cX11_scratchLine 47 (.aload_n 0) 1 ∧ dD cX11_scratchLine 48 (.getfield 23) 3) ∧ (dD cX11_scratchLine 51 (.iload_n 1) 1 ∧ dD cX11_scratchLine 52 .iaload 1)))) := dkA16 (by decide +kernel)
theorem dX11_scratchLine_k2 : (((dD cX11_scratchLine 53 (.invokevirtual 291) 3 ∧ (dD cX11_scratchLine 56 .iastore 1 ∧ dD cX11_scratchLine 57 (.aload_n 0) 1)) ∧ ((dD cX11_scratchLine 58 (.getfield 121) 3 ∧ dD cX11_scratchLine 61 (.ifCond .ne 14) 3) ∧ (dD cX11_scratchLine 64 (.aload_n 0) 1 ∧ dD cX11_scratchLine 65 (.getfield 23) 3))) ∧ ((dD cX11_scratchLine 68 (.bipush 14) 2 ∧ (dD cX11_scratchLine 70 .dup2 1 ∧ dD cX11_scratchLine 71 .iaload 1)) ∧ ((dD cX11_scratchLine 72 (.iconst 1) 1 ∧ dD cX11_scratchLine 73 .iadd 1) ∧ (dD cX11_scratchLine 74 .iastore 1 ∧ dD cX11_scratchLine 75 .return_ 1)))) := dkA14 (by decide +kernel)


theorem dX11_showsLine_k0 : ((((dD cX11_showsLine 0 (.aload_n 0) 1 ∧ dD cX11_showsLine 1 (.getfield 121) 3) ∧ (dD cX11_showsLine 4 (.ifCond .eq 4) 3 ∧ dD cX11_showsLine 7 .return_ 1)) ∧ ((dD cX11_showsLine 8 (.iconst 0) 1 ∧ dD cX11_showsLine 9 (.istore_n 1) 1) ∧ (dD cX11_showsLine 10 (.iconst 1) 1 ∧ dD cX11_showsLine 11 (.istore_n 2) 1))) ∧ (((dD cX11_showsLine 12 (.iload_n 2) 1 ∧ dD cX11_showsLine 13 (.ifCond .eq 66) 3) ∧ (dD cX11_showsLine 16 (.aload_n 0) 1 ∧ dD cX11_showsLine 17 (.iconst 0) 1)) ∧ ((dD cX11_showsLine 18 (.bipush 7) 2 ∧ dD cX11_showsLine 20 (.invokevirtual 186) 3) ∧ (dD cX11_showsLine 23 (.istore_n 3) 1 ∧ dD cX11_showsLine 24 (.aload_n 0) 1)))) := dkA16 (by decide +kernel)
theorem dX11_showsLine_k1 : ((((dD cX11_showsLine 25 (.getfield 121) 3 ∧ dD cX11_showsLine 28 (.ifCond .ne 18) 3) ∧ (dD cX11_showsLine 31 (.iload_n 1) 1 ∧ dD cX11_showsLine 32 (.bipush 8) 2)) ∧ ((dD cX11_showsLine 34 (.if_icmp .ne 12) 3 ∧ dD cX11_showsLine 37 (.aload_n 0) 1) ∧ (dD cX11_showsLine 38 (.iconst 5) 1 ∧ dD cX11_showsLine 39 (.aload_n 0) 1))) ∧ (((dD cX11_showsLine 40 (.getfield 102) 3 ∧ dD cX11_showsLine 43 (.invokevirtual 148) 3) ∧ (dD cX11_showsLine 46 (.aload_n 0) 1 ∧ dD cX11_showsLine 47 (.getfield 121) 3)) ∧ ((dD cX11_showsLine 50 (.ifCond .eq 4) 3 ∧ dD cX11_showsLine 53 .return_ 1) ∧ (dD cX11_showsLine 54 (.aload_n 0) 1 ∧ dD cX11_showsLine 55 (.invokevirtual 142) 3)))) := dkA16 (by decide +kernel)
theorem dX11_showsLine_k2 : ((((dD cX11_showsLine 58 (.aload_n 0) 1 ∧ dD cX11_showsLine 59 (.getfield 23) 3) ∧ (dD cX11_showsLine 62 (.bipush 126) 2 ∧ dD cX11_showsLine 64 (.iload_n 1) 1)) ∧ ((dD cX11_showsLine 65 .iadd 1 ∧ dD cX11_showsLine 66 (.iload_n 3) 1) ∧ (dD cX11_showsLine 67 .iastore 1 ∧ dD cX11_showsLine 68 (.iinc 1 1) 3))) ∧ (((dD cX11_showsLine 71 (.aload_n 0) 1 ∧ dD cX11_showsLine 72 (.invokevirtual 308) 3) ∧ (dD cX11_showsLine 75 (.istore_n 2) 1 ∧ dD cX11_showsLine 76 (.goto (-64)) 3)) ∧ ((dD cX11_showsLine 79 (.aload_n 0) 1 ∧ dD cX11_showsLine 80 (.getfield 121) 3) ∧ (dD cX11_showsLine 83 (.ifCond .ne 38) 3 ∧ dD cX11_showsLine 86 (.iload_n 1) 1)))) := dkA16 (by decide +kernel)
theorem dX11_showsLine_k3 : ((((dD cX11_showsLine 87 (.iconst 2) 1 ∧ dD cX11_showsLine 88 (.if_icmp .ge 33) 3) ∧ (dD cX11_showsLine 91 (.aload_n 0) 1 ∧ dD cX11_showsLine 92 (.aload_n 0) 1)) ∧ ((dD cX11_showsLine 93 (.getfield 111) 3 ∧ dD cX11_showsLine 96 (.bipush 59) 2) ∧ (dD cX11_showsLine 98 (.if_icmp .eq 10) 3 ∧ dD cX11_showsLine 101 (.aload_n 0) 1))) ∧ (((dD cX11_showsLine 102 (.getfield 111) 3 ∧ dD cX11_showsLine 105 (.ifCond .ne 8) 3) ∧ (dD cX11_showsLine 108 (.bipush 6) 2 ∧ dD cX11_showsLine 110 (.goto 4) 3)) ∧ ((dD cX11_showsLine 113 (.iconst 1) 1 ∧ dD cX11_showsLine 114 (.aload_n 0) 1) ∧ (dD cX11_showsLine 115 (.getfield 102) 3 ∧ dD cX11_showsLine 118 (.invokevirtual 148) 3)))) := dkA16 (by decide +kernel)
theorem dX11_showsLine_k4 : (((dD cX11_showsLine 121 (.aload_n 0) 1 ∧ dD cX11_showsLine 122 (.getfield 121) 3) ∧ (dD cX11_showsLine 125 (.ifCond .ne 11) 3 ∧ dD cX11_showsLine 128 (.aload_n 0) 1)) ∧ ((dD cX11_showsLine 129 (.getfield 23) 3 ∧ dD cX11_showsLine 132 (.bipush 12) 2) ∧ (dD cX11_showsLine 134 (.iload_n 1) 1 ∧ (dD cX11_showsLine 135 .iastore 1 ∧ dD cX11_showsLine 136 .return_ 1)))) := dkA9 (by decide +kernel)
theorem dX11_boysLine_k0 : ((((dD cX11_boysLine 0 (.aload_n 0) 1 ∧ dD cX11_boysLine 1 (.getfield 121) 3) ∧ (dD cX11_boysLine 4 (.ifCond .eq 4) 3 ∧ dD cX11_boysLine 7 .return_ 1)) ∧ ((dD cX11_boysLine 8 (.aload_n 0) 1 ∧ dD cX11_boysLine 9 (.iconst 1) 1) ∧ (dD cX11_boysLine 10 (.iconst 4) 1 ∧ dD cX11_boysLine 11 (.invokevirtual 197) 3))) ∧ (((dD cX11_boysLine 14 (.istore_n 1) 1 ∧ dD cX11_boysLine 15 (.aload_n 0) 1) ∧ (dD cX11_boysLine 16 (.getfield 23) 3 ∧ dD cX11_boysLine 19 (.sipush 135) 3)) ∧ ((dD cX11_boysLine 22 (.aload_n 0) 1 ∧ dD cX11_boysLine 23 (.ldc_w 312) 3) ∧ (dD cX11_boysLine 26 (.iconst 1) 1 ∧ dD cX11_boysLine 27 (.sipush 2000) 3)))) := dkA16 (by decide +kernel)
theorem dX11_boysLine_k1 : ((((dD cX11_boysLine 30 (.invokevirtual 264) 3 ∧ dD cX11_boysLine 33 .iastore 1) ∧ (dD cX11_boysLine 34 (.aload_n 0) 1 ∧ dD cX11_boysLine 35 (.getfield 23) 3)) ∧ ((dD cX11_boysLine 38 (.sipush 136) 3 ∧ dD cX11_boysLine 41 (.aload_n 0) 1) ∧ (dD cX11_boysLine 42 (.ldc_w 314) 3 ∧ dD cX11_boysLine 45 (.iconst 0) 1))) ∧ (((dD cX11_boysLine 46 (.bipush 50) 2 ∧ dD cX11_boysLine 48 (.invokevirtual 264) 3) ∧ (dD cX11_boysLine 51 .iastore 1 ∧ dD cX11_boysLine 52 (.aload_n 0) 1)) ∧ ((dD cX11_boysLine 53 (.getfield 121) 3 ∧ dD cX11_boysLine 56 (.ifCond .ne 12) 3) ∧ (dD cX11_boysLine 59 (.aload_n 0) 1 ∧ dD cX11_boysLine 60 (.getfield 23) 3)))) := dkA16 (by decide +kernel)
theorem dX11_boysLine_k2 : ((dD cX11_boysLine 63 (.sipush 134) 3 ∧ dD cX11_boysLine 66 (.iload_n 1) 1) ∧ (dD cX11_boysLine 67 .iastore 1 ∧ dD cX11_boysLine 68 .return_ 1)) := dkA4 (by decide +kernel)
theorem dX11_seenLine_k0 : ((((dD cX11_seenLine 0 (.aload_n 0) 1 ∧ dD cX11_seenLine 1 (.getfield 23) 3) ∧ (dD cX11_seenLine 4 (.bipush 13) 2 ∧ dD cX11_seenLine 6 .iaload 1)) ∧ ((dD cX11_seenLine 7 (.bipush 6) 2 ∧ dD cX11_seenLine 9 (.if_icmp .ne 12) 3) ∧ (dD cX11_seenLine 12 (.aload_n 0) 1 ∧ dD cX11_seenLine 13 (.iconst 5) 1))) ∧ (((dD cX11_seenLine 14 (.aload_n 0) 1 ∧ dD cX11_seenLine 15 (.getfield 102) 3) ∧ (dD cX11_seenLine 18 (.invokevirtual 148) 3 ∧ dD cX11_seenLine 21 (.aload_n 0) 1)) ∧ ((dD cX11_seenLine 22 (.getfield 23) 3 ∧ dD cX11_seenLine 25 (.bipush 15) 2) ∧ (dD cX11_seenLine 27 .iaload 1 ∧ dD cX11_seenLine 28 (.ifCond .eq 13) 3)))) := dkA16 (by decide +kernel)
theorem dX11_seenLine_k1 : ((((dD cX11_seenLine 31 (.aload_n 0) 1 ∧ dD cX11_seenLine 32 (.getfield 23) 3) ∧ (dD cX11_seenLine 35 (.bipush 12) 2 ∧ dD cX11_seenLine 37 .iaload 1)) ∧ ((dD cX11_seenLine 38 (.ifCond .ne 13) 3 ∧ dD cX11_seenLine 41 (.aload_n 0) 1) ∧ (dD cX11_seenLine 42 (.bipush 6) 2 ∧ dD cX11_seenLine 44 (.aload_n 0) 1))) ∧ (((dD cX11_seenLine 45 (.getfield 102) 3 ∧ dD cX11_seenLine 48 (.invokevirtual 148) 3) ∧ (dD cX11_seenLine 51 (.aload_n 0) 1 ∧ dD cX11_seenLine 52 (.getfield 121) 3)) ∧ ((dD cX11_seenLine 55 (.ifCond .eq 4) 3 ∧ dD cX11_seenLine 58 .return_ 1) ∧ (dD cX11_seenLine 59 (.aload_n 0) 1 ∧ dD cX11_seenLine 60 (.invokevirtual 142) 3)))) := dkA16 (by decide +kernel)
theorem dX11_seenLine_k2 : ((((dD cX11_seenLine 63 (.sipush 137) 3 ∧ dD cX11_seenLine 66 (.iconst 3) 1) ∧ (dD cX11_seenLine 67 (.aload_n 0) 1 ∧ dD cX11_seenLine 68 (.getfield 23) 3)) ∧ ((dD cX11_seenLine 71 (.bipush 13) 2 ∧ dD cX11_seenLine 73 .iaload 1) ∧ (dD cX11_seenLine 74 .imul 1 ∧ dD cX11_seenLine 75 .iadd 1))) ∧ (((dD cX11_seenLine 76 (.istore_n 1) 1 ∧ dD cX11_seenLine 77 (.aload_n 0) 1) ∧ (dD cX11_seenLine 78 (.getfield 23) 3 ∧ dD cX11_seenLine 81 (.iload_n 1) 1)) ∧ ((dD cX11_seenLine 82 (.aload_n 0) 1 ∧ dD cX11_seenLine 83 (.iconst 1) 1) ∧ (dD cX11_seenLine 84 (.aload_n 0) 1 ∧ dD cX11_seenLine 85 (.getfield 23) 3)))) := dkA16 (by decide +kernel)
theorem dX11_seenLine_k3 : ((((dD cX11_seenLine 88 (.bipush 12) 2 ∧ dD cX11_seenLine 90 .iaload 1) ∧ (dD cX11_seenLine 91 (.iconst 1) 1 ∧ dD cX11_seenLine 92 .isub 1)) ∧ ((dD cX11_seenLine 93 (.invokevirtual 197) 3 ∧ dD cX11_seenLine 96 .iastore 1) ∧ (dD cX11_seenLine 97 (.aload_n 0) 1 ∧ dD cX11_seenLine 98 (.getfield 23) 3))) ∧ (((dD cX11_seenLine 101 (.iload_n 1) 1 ∧ dD cX11_seenLine 102 (.iconst 1) 1) ∧ (dD cX11_seenLine 103 .iadd 1 ∧ dD cX11_seenLine 104 (.aload_n 0) 1)) ∧ ((dD cX11_seenLine 105 (.ldc_w 316) 3 ∧ dD cX11_seenLine 108 (.iconst 0) 1) ∧ (dD cX11_seenLine 109 (.sipush 9999) 3 ∧ dD cX11_seenLine 112 (.invokevirtual 264) 3)))) := dkA16 (by decide +kernel)
theorem dX11_seenLine_k4 : ((((dD cX11_seenLine 115 .iastore 1 ∧ dD cX11_seenLine 116 (.aload_n 0) 1) ∧ (dD cX11_seenLine 117 (.getfield 23) 3 ∧ dD cX11_seenLine 120 (.iload_n 1) 1)) ∧ ((dD cX11_seenLine 121 (.iconst 2) 1 ∧ dD cX11_seenLine 122 .iadd 1) ∧ (dD cX11_seenLine 123 (.aload_n 0) 1 ∧ dD cX11_seenLine 124 (.ldc_w 318) 3))) ∧ (((dD cX11_seenLine 127 (.iconst 0) 1 ∧ dD cX11_seenLine 128 (.sipush 9999) 3) ∧ (dD cX11_seenLine 131 (.invokevirtual 264) 3 ∧ dD cX11_seenLine 134 .iastore 1)) ∧ ((dD cX11_seenLine 135 (.aload_n 0) 1 ∧ dD cX11_seenLine 136 (.getfield 121) 3) ∧ (dD cX11_seenLine 139 (.ifCond .ne 14) 3 ∧ dD cX11_seenLine 142 (.aload_n 0) 1)))) := dkA16 (by decide +kernel)
theorem dX11_seenLine_k5 : (((dD cX11_seenLine 143 (.getfield 23) 3 ∧ dD cX11_seenLine 146 (.bipush 13) 2) ∧ (dD cX11_seenLine 148 .dup2 1 ∧ dD cX11_seenLine 149 .iaload 1)) ∧ ((dD cX11_seenLine 150 (.iconst 1) 1 ∧ dD cX11_seenLine 151 .iadd 1) ∧ (dD cX11_seenLine 152 .iastore 1 ∧ dD cX11_seenLine 153 .return_ 1))) := dkA8 (by decide +kernel)
theorem dX11_readLine_k0 : ((((dD cX11_readLine 0 (.aload_n 0) 1 ∧ dD cX11_readLine 1 (.ldc 152) 2) ∧ (dD cX11_readLine 3 (.invokevirtual 138) 3 ∧ dD cX11_readLine 6 (.ifCond .eq 10) 3)) ∧ ((dD cX11_readLine 9 (.aload_n 0) 1 ∧ dD cX11_readLine 10 (.invokevirtual 222) 3) ∧ (dD cX11_readLine 13 (.goto 320) 3 ∧ dD cX11_readLine 16 (.aload_n 0) 1))) ∧ (((dD cX11_readLine 17 (.ldc 154) 2 ∧ dD cX11_readLine 19 (.aload_n 0) 1) ∧ (dD cX11_readLine 20 (.getfield 23) 3 ∧ dD cX11_readLine 23 (.bipush 6) 2)) ∧ ((dD cX11_readLine 25 .iaload 1 ∧ dD cX11_readLine 26 (.bipush 8) 2) ∧ (dD cX11_readLine 28 (.if_icmp .ge 7) 3 ∧ dD cX11_readLine 31 (.iconst 1) 1)))) := dkA16 (by decide +kernel)
theorem dX11_readLine_k1 : ((((dD cX11_readLine 32 (.goto 4) 3 ∧ dD cX11_readLine 35 (.iconst 0) 1) ∧ (dD cX11_readLine 36 (.invokevirtual 225) 3 ∧ dD cX11_readLine 39 (.ifCond .eq 10) 3)) ∧ ((dD cX11_readLine 42 (.aload_n 0) 1 ∧ dD cX11_readLine 43 (.invokevirtual 229) 3) ∧ (dD cX11_readLine 46 (.goto 287) 3 ∧ dD cX11_readLine 49 (.aload_n 0) 1))) ∧ (((dD cX11_readLine 50 (.ldc 156) 2 ∧ dD cX11_readLine 52 (.aload_n 0) 1) ∧ (dD cX11_readLine 53 (.getfield 23) 3 ∧ dD cX11_readLine 56 (.bipush 7) 2)) ∧ ((dD cX11_readLine 58 .iaload 1 ∧ dD cX11_readLine 59 (.iconst 4) 1) ∧ (dD cX11_readLine 60 (.if_icmp .ge 7) 3 ∧ dD cX11_readLine 63 (.iconst 1) 1)))) := dkA16 (by decide +kernel)
theorem dX11_readLine_k2 : ((((dD cX11_readLine 64 (.goto 4) 3 ∧ dD cX11_readLine 67 (.iconst 0) 1) ∧ (dD cX11_readLine 68 (.invokevirtual 225) 3 ∧ dD cX11_readLine 71 (.ifCond .eq 10) 3)) ∧ ((dD cX11_readLine 74 (.aload_n 0) 1 ∧ dD cX11_readLine 75 (.invokevirtual 232) 3) ∧ (dD cX11_readLine 78 (.goto 255) 3 ∧ dD cX11_readLine 81 (.aload_n 0) 1))) ∧ (((dD cX11_readLine 82 (.ldc 158) 2 ∧ dD cX11_readLine 84 (.aload_n 0) 1) ∧ (dD cX11_readLine 85 (.getfield 23) 3 ∧ dD cX11_readLine 88 (.bipush 8) 2)) ∧ ((dD cX11_readLine 90 .iaload 1 ∧ dD cX11_readLine 91 (.bipush 12) 2) ∧ (dD cX11_readLine 93 (.if_icmp .ge 7) 3 ∧ dD cX11_readLine 96 (.iconst 1) 1)))) := dkA16 (by decide +kernel)
theorem dX11_readLine_k3 : ((((dD cX11_readLine 97 (.goto 4) 3 ∧ dD cX11_readLine 100 (.iconst 0) 1) ∧ (dD cX11_readLine 101 (.invokevirtual 225) 3 ∧ dD cX11_readLine 104 (.ifCond .eq 10) 3)) ∧ ((dD cX11_readLine 107 (.aload_n 0) 1 ∧ dD cX11_readLine 108 (.invokevirtual 235) 3) ∧ (dD cX11_readLine 111 (.goto 222) 3 ∧ dD cX11_readLine 114 (.aload_n 0) 1))) ∧ (((dD cX11_readLine 115 (.ldc 160) 2 ∧ dD cX11_readLine 117 (.aload_n 0) 1) ∧ (dD cX11_readLine 118 (.getfield 23) 3 ∧ dD cX11_readLine 121 (.bipush 9) 2)) ∧ ((dD cX11_readLine 123 .iaload 1 ∧ dD cX11_readLine 124 (.bipush 8) 2) ∧ (dD cX11_readLine 126 (.if_icmp .ge 7) 3 ∧ dD cX11_readLine 129 (.iconst 1) 1)))) := dkA16 (by decide +kernel)
theorem dX11_readLine_k4 : ((((dD cX11_readLine 130 (.goto 4) 3 ∧ dD cX11_readLine 133 (.iconst 0) 1) ∧ (dD cX11_readLine 134 (.invokevirtual 225) 3 ∧ dD cX11_readLine 137 (.ifCond .eq 10) 3)) ∧ ((dD cX11_readLine 140 (.aload_n 0) 1 ∧ dD cX11_readLine 141 (.invokevirtual 238) 3) ∧ (dD cX11_readLine 144 (.goto 189) 3 ∧ dD cX11_readLine 147 (.aload_n 0) 1))) ∧ (((dD cX11_readLine 148 (.ldc 162) 2 ∧ dD cX11_readLine 150 (.aload_n 0) 1) ∧ (dD cX11_readLine 151 (.getfield 23) 3 ∧ dD cX11_readLine 154 (.bipush 10) 2)) ∧ ((dD cX11_readLine 156 .iaload 1 ∧ dD cX11_readLine 157 (.bipush 6) 2) ∧ (dD cX11_readLine 159 (.if_icmp .ge 7) 3 ∧ dD cX11_readLine 162 (.iconst 1) 1)))) := dkA16 (by decide +kernel)
theorem dX11_readLine_k5 : ((((dD cX11_readLine 163 (.goto 4) 3 ∧ dD cX11_readLine 166 (.iconst 0) 1) ∧ (dD cX11_readLine 167 (.invokevirtual 225) 3 ∧ dD cX11_readLine 170 (.ifCond .eq 10) 3)) ∧ ((dD cX11_readLine 173 (.aload_n 0) 1 ∧ dD cX11_readLine 174 (.invokevirtual 241) 3) ∧ (dD cX11_readLine 177 (.goto 156) 3 ∧ dD cX11_readLine 180 (.aload_n 0) 1))) ∧ (((dD cX11_readLine 181 (.ldc 164) 2 ∧ dD cX11_readLine 183 (.aload_n 0) 1) ∧ (dD cX11_readLine 184 (.getfield 23) 3 ∧ dD cX11_readLine 187 (.bipush 11) 2)) ∧ ((dD cX11_readLine 189 .iaload 1 ∧ dD cX11_readLine 190 (.iconst 4) 1) ∧ (dD cX11_readLine 191 (.if_icmp .ge 7) 3 ∧ dD cX11_readLine 194 (.iconst 1) 1)))) := dkA16 (by decide +kernel)
theorem dX11_readLine_k6 : ((((dD cX11_readLine 195 (.goto 4) 3 ∧ dD cX11_readLine 198 (.iconst 0) 1) ∧ (dD cX11_readLine 199 (.invokevirtual 225) 3 ∧ dD cX11_readLine 202 (.ifCond .eq 10) 3)) ∧ ((dD cX11_readLine 205 (.aload_n 0) 1 ∧ dD cX11_readLine 206 (.invokevirtual 244) 3) ∧ (dD cX11_readLine 209 (.goto 124) 3 ∧ dD cX11_readLine 212 (.aload_n 0) 1))) ∧ (((dD cX11_readLine 213 (.ldc 166) 2 ∧ dD cX11_readLine 215 (.aload_n 0) 1) ∧ (dD cX11_readLine 216 (.getfield 23) 3 ∧ dD cX11_readLine 219 (.bipush 12) 2)) ∧ ((dD cX11_readLine 221 .iaload 1 ∧ dD cX11_readLine 222 (.ifCond .le 7) 3) ∧ (dD cX11_readLine 225 (.iconst 1) 1 ∧ dD cX11_readLine 226 (.goto 4) 3)))) := dkA16 (by decide +kernel)
theorem dX11_readLine_k7 : ((((dD cX11_readLine 229 (.iconst 0) 1 ∧ dD cX11_readLine 230 (.invokevirtual 247) 3) ∧ (dD cX11_readLine 233 (.ifCond .eq 10) 3 ∧ dD cX11_readLine 236 (.aload_n 0) 1)) ∧ ((dD cX11_readLine 237 (.invokevirtual 250) 3 ∧ dD cX11_readLine 240 (.goto 93) 3) ∧ (dD cX11_readLine 243 (.aload_n 0) 1 ∧ dD cX11_readLine 244 (.ldc 168) 2))) ∧ (((dD cX11_readLine 246 (.aload_n 0) 1 ∧ dD cX11_readLine 247 (.getfield 23) 3) ∧ (dD cX11_readLine 250 (.sipush 134) 3 ∧ dD cX11_readLine 253 .iaload 1)) ∧ ((dD cX11_readLine 254 (.ifCond .le 7) 3 ∧ dD cX11_readLine 257 (.iconst 1) 1) ∧ (dD cX11_readLine 258 (.goto 4) 3 ∧ dD cX11_readLine 261 (.iconst 0) 1)))) := dkA16 (by decide +kernel)
theorem dX11_readLine_k8 : ((((dD cX11_readLine 262 (.invokevirtual 247) 3 ∧ dD cX11_readLine 265 (.ifCond .eq 10) 3) ∧ (dD cX11_readLine 268 (.aload_n 0) 1 ∧ dD cX11_readLine 269 (.invokevirtual 253) 3)) ∧ ((dD cX11_readLine 272 (.goto 61) 3 ∧ dD cX11_readLine 275 (.aload_n 0) 1) ∧ (dD cX11_readLine 276 (.ldc 172) 2 ∧ dD cX11_readLine 278 (.invokevirtual 138) 3))) ∧ (((dD cX11_readLine 281 (.ifCond .eq 10) 3 ∧ dD cX11_readLine 284 (.aload_n 0) 1) ∧ (dD cX11_readLine 285 (.invokevirtual 256) 3 ∧ dD cX11_readLine 288 (.goto 45) 3)) ∧ ((dD cX11_readLine 291 (.aload_n 0) 1 ∧ dD cX11_readLine 292 (.ldc 174) 2) ∧ (dD cX11_readLine 294 (.aload_n 0) 1 ∧ dD cX11_readLine 295 (.getfield 23) 3)))) := dkA16 (by decide +kernel)
theorem dX11_readLine_k9 : ((((dD cX11_readLine 298 (.bipush 14) 2 ∧ dD cX11_readLine 300 .iaload 1) ∧ (dD cX11_readLine 301 (.bipush 6) 2 ∧ dD cX11_readLine 303 (.if_icmp .ge 7) 3)) ∧ ((dD cX11_readLine 306 (.iconst 1) 1 ∧ dD cX11_readLine 307 (.goto 4) 3) ∧ (dD cX11_readLine 310 (.iconst 0) 1 ∧ dD cX11_readLine 311 (.invokevirtual 225) 3))) ∧ (((dD cX11_readLine 314 (.ifCond .eq 10) 3 ∧ dD cX11_readLine 317 (.aload_n 0) 1) ∧ (dD cX11_readLine 318 (.invokevirtual 259) 3 ∧ dD cX11_readLine 321 (.goto 12) 3)) ∧ ((dD cX11_readLine 324 (.aload_n 0) 1 ∧ dD cX11_readLine 325 (.iconst 1) 1) ∧ (dD cX11_readLine 326 (.aload_n 0) 1 ∧ dD cX11_readLine 327 (.getfield 102) 3)))) := dkA16 (by decide +kernel)
theorem dX11_readLine_k10 : (dD cX11_readLine 330 (.invokevirtual 148) 3 ∧ dD cX11_readLine 333 .return_ 1) := dkA2 (by decide +kernel)



theorem dX11_house_k0 : ((((dD cX11_house 0 (.aload_n 0) 1 ∧ dD cX11_house 1 (.invokevirtual 200) 3) ∧ (dD cX11_house 4 (.iload_n 1) 1 ∧ dD cX11_house 5 (.iconst 0) 1)) ∧ ((dD cX11_house 6 (.aload_n 0) 1 ∧ dD cX11_house 7 (.getfield 89) 3) ∧ (dD cX11_house 10 (.invokestatic 182) 3 ∧ dD cX11_house 13 (.ifCond .ne 9) 3))) ∧ (((dD cX11_house 16 (.aload_n 0) 1 ∧ dD cX11_house 17 (.iconst 2) 1) ∧ (dD cX11_house 18 (.invokevirtual 203) 3 ∧ dD cX11_house 21 .ireturn 1)) ∧ ((dD cX11_house 22 (.aload_n 0) 1 ∧ dD cX11_house 23 (.iconst 0) 1) ∧ (dD cX11_house 24 (.putfield 89) 3 ∧ dD cX11_house 27 (.aload_n 0) 1)))) := dkA16 (by decide +kernel)
theorem dX11_house_k1 : ((((dD cX11_house 28 (.iconst 0) 1 ∧ dD cX11_house 29 (.putfield 125) 3) ∧ (dD cX11_house 32 (.aload_n 0) 1 ∧ dD cX11_house 33 (.iconst 0) 1)) ∧ ((dD cX11_house 34 (.putfield 121) 3 ∧ dD cX11_house 37 (.iconst 0) 1) ∧ (dD cX11_house 38 (.istore_n 2) 1 ∧ dD cX11_house 39 (.iload_n 2) 1))) ∧ (((dD cX11_house 40 (.sipush 311) 3 ∧ dD cX11_house 43 (.if_icmp .ge 16) 3) ∧ (dD cX11_house 46 (.aload_n 0) 1 ∧ dD cX11_house 47 (.getfield 23) 3)) ∧ ((dD cX11_house 50 (.iload_n 2) 1 ∧ dD cX11_house 51 (.iconst 0) 1) ∧ (dD cX11_house 52 .iastore 1 ∧ dD cX11_house 53 (.iinc 2 1) 3)))) := dkA16 (by decide +kernel)
theorem dX11_house_k2 : ((((dD cX11_house 56 (.goto (-17)) 3 ∧ dD cX11_house 59 (.aload_n 0) 1) ∧ (dD cX11_house 60 (.iload_n 1) 1 ∧ dD cX11_house 61 (.putfield 92) 3)) ∧ ((dD cX11_house 64 (.aload_n 0) 1 ∧ dD cX11_house 65 (.iconst 0) 1) ∧ (dD cX11_house 66 (.putfield 95) 3 ∧ dD cX11_house 69 (.aload_n 0) 1))) ∧ (((dD cX11_house 70 (.invokevirtual 142) 3 ∧ dD cX11_house 73 (.aload_n 0) 1) ∧ (dD cX11_house 74 (.invokevirtual 206) 3 ∧ dD cX11_house 77 (.aload_n 0) 1)) ∧ ((dD cX11_house 78 (.getfield 121) 3 ∧ dD cX11_house 81 (.ifCond .ne 23) 3) ∧ (dD cX11_house 84 (.aload_n 0) 1 ∧ dD cX11_house 85 (.getfield 111) 3)))) := dkA16 (by decide +kernel)
theorem dX11_house_k3 : ((((dD cX11_house 88 (.bipush 59) 2 ∧ dD cX11_house 90 (.if_icmp .ne 14) 3) ∧ (dD cX11_house 93 (.aload_n 0) 1 ∧ dD cX11_house 94 (.invokevirtual 142) 3)) ∧ ((dD cX11_house 97 (.aload_n 0) 1 ∧ dD cX11_house 98 (.invokevirtual 206) 3) ∧ (dD cX11_house 101 (.goto (-24)) 3 ∧ dD cX11_house 104 (.aload_n 0) 1))) ∧ (((dD cX11_house 105 (.getfield 121) 3 ∧ dD cX11_house 108 (.ifCond .ne 19) 3) ∧ (dD cX11_house 111 (.aload_n 0) 1 ∧ dD cX11_house 112 (.getfield 111) 3)) ∧ ((dD cX11_house 115 (.ifCond .eq 12) 3 ∧ dD cX11_house 118 (.aload_n 0) 1) ∧ (dD cX11_house 119 (.iconst 1) 1 ∧ dD cX11_house 120 (.aload_n 0) 1)))) := dkA16 (by decide +kernel)
theorem dX11_house_k4 : ((((dD cX11_house 121 (.getfield 102) 3 ∧ dD cX11_house 124 (.invokevirtual 148) 3) ∧ (dD cX11_house 127 (.aload_n 0) 1 ∧ dD cX11_house 128 (.getfield 121) 3)) ∧ ((dD cX11_house 131 (.ifCond .ne 43) 3 ∧ dD cX11_house 134 (.aload_n 0) 1) ∧ (dD cX11_house 135 (.getfield 23) 3 ∧ dD cX11_house 138 (.bipush 15) 2))) ∧ (((dD cX11_house 140 .iaload 1 ∧ dD cX11_house 141 (.ifCond .eq 23) 3) ∧ (dD cX11_house 144 (.aload_n 0) 1 ∧ dD cX11_house 145 (.getfield 23) 3)) ∧ ((dD cX11_house 148 (.bipush 12) 2 ∧ dD cX11_house 150 .iaload 1) ∧ (dD cX11_house 151 (.ifCond .eq 13) 3 ∧ dD cX11_house 154 (.aload_n 0) 1)))) := dkA16 (by decide +kernel)
theorem dX11_house_k5 : ((((dD cX11_house 155 (.getfield 23) 3 ∧ dD cX11_house 158 (.bipush 11) 2) ∧ (dD cX11_house 160 .iaload 1 ∧ dD cX11_house 161 (.ifCond .ne 13) 3)) ∧ ((dD cX11_house 164 (.aload_n 0) 1 ∧ dD cX11_house 165 (.bipush 6) 2) ∧ (dD cX11_house 167 (.aload_n 0) 1 ∧ dD cX11_house 168 (.getfield 102) 3))) ∧ (((dD cX11_house 171 (.invokevirtual 148) 3 ∧ dD cX11_house 174 (.aload_n 0) 1) ∧ (dD cX11_house 175 (.getfield 121) 3 ∧ dD cX11_house 178 (.ifCond .eq 9) 3)) ∧ ((dD cX11_house 181 (.aload_n 0) 1 ∧ dD cX11_house 182 (.iconst 4) 1) ∧ (dD cX11_house 183 (.invokevirtual 203) 3 ∧ dD cX11_house 186 .ireturn 1)))) := dkA16 (by decide +kernel)
theorem dX11_house_k6 : ((((dD cX11_house 187 (.aload_n 0) 1 ∧ dD cX11_house 188 (.getfield 23) 3) ∧ (dD cX11_house 191 (.iconst 0) 1 ∧ dD cX11_house 192 (.aload_n 0) 1)) ∧ ((dD cX11_house 193 (.getfield 20) 3 ∧ dD cX11_house 196 (.iconst 0) 1) ∧ (dD cX11_house 197 (.sipush 311) 3 ∧ dD cX11_house 200 (.invokestatic 209) 3))) ∧ (((dD cX11_house 203 (.iconst 0) 1 ∧ dD cX11_house 204 (.istore_n 2) 1) ∧ (dD cX11_house 205 (.iload_n 2) 1 ∧ dD cX11_house 206 (.bipush 44) 2)) ∧ ((dD cX11_house 208 (.if_icmp .ge 16) 3 ∧ dD cX11_house 211 (.aload_n 0) 1) ∧ (dD cX11_house 212 (.getfield 26) 3 ∧ dD cX11_house 215 (.iload_n 2) 1)))) := dkA16 (by decide +kernel)
theorem dX11_house_k7 : ((((dD cX11_house 216 (.iconst 0) 1 ∧ dD cX11_house 217 .iastore 1) ∧ (dD cX11_house 218 (.iinc 2 1) 3 ∧ dD cX11_house 221 (.goto (-16)) 3)) ∧ ((dD cX11_house 224 (.iconst 0) 1 ∧ dD cX11_house 225 (.istore_n 2) 1) ∧ (dD cX11_house 226 (.iload_n 2) 1 ∧ dD cX11_house 227 (.aload_n 0) 1))) ∧ (((dD cX11_house 228 (.getfield 20) 3 ∧ dD cX11_house 231 (.bipush 6) 2) ∧ (dD cX11_house 233 .iaload 1 ∧ dD cX11_house 234 (.if_icmp .ge 50) 3)) ∧ ((dD cX11_house 237 (.aload_n 0) 1 ∧ dD cX11_house 238 (.getfield 26) 3) ∧ (dD cX11_house 241 (.iconst 0) 1 ∧ dD cX11_house 242 (.iload_n 2) 1)))) := dkA16 (by decide +kernel)
theorem dX11_house_k8 : ((((dD cX11_house 243 .iadd 1 ∧ dD cX11_house 244 (.aload_n 0) 1) ∧ (dD cX11_house 245 (.getfield 20) 3 ∧ dD cX11_house 248 (.bipush 16) 2)) ∧ ((dD cX11_house 250 (.iconst 3) 1 ∧ dD cX11_house 251 (.iload_n 2) 1) ∧ (dD cX11_house 252 .imul 1 ∧ dD cX11_house 253 .iadd 1))) ∧ (((dD cX11_house 254 .iaload 1 ∧ dD cX11_house 255 .iastore 1) ∧ (dD cX11_house 256 (.aload_n 0) 1 ∧ dD cX11_house 257 (.getfield 26) 3)) ∧ ((dD cX11_house 260 (.bipush 8) 2 ∧ dD cX11_house 262 (.iload_n 2) 1) ∧ (dD cX11_house 263 .iadd 1 ∧ dD cX11_house 264 (.aload_n 0) 1)))) := dkA16 (by decide +kernel)
theorem dX11_house_k9 : ((((dD cX11_house 265 (.getfield 20) 3 ∧ dD cX11_house 268 (.bipush 16) 2) ∧ (dD cX11_house 270 (.iconst 3) 1 ∧ dD cX11_house 271 (.iload_n 2) 1)) ∧ ((dD cX11_house 272 .imul 1 ∧ dD cX11_house 273 .iadd 1) ∧ (dD cX11_house 274 (.iconst 1) 1 ∧ dD cX11_house 275 .iadd 1))) ∧ (((dD cX11_house 276 .iaload 1 ∧ dD cX11_house 277 .iastore 1) ∧ (dD cX11_house 278 (.iinc 2 1) 3 ∧ dD cX11_house 281 (.goto (-55)) 3)) ∧ ((dD cX11_house 284 (.iconst 0) 1 ∧ dD cX11_house 285 (.istore_n 2) 1) ∧ (dD cX11_house 286 (.iload_n 2) 1 ∧ dD cX11_house 287 (.aload_n 0) 1)))) := dkA16 (by decide +kernel)
theorem dX11_house_k10 : ((((dD cX11_house 288 (.getfield 20) 3 ∧ dD cX11_house 291 (.bipush 8) 2) ∧ (dD cX11_house 293 .iaload 1 ∧ dD cX11_house 294 (.if_icmp .ge 31) 3)) ∧ ((dD cX11_house 297 (.aload_n 0) 1 ∧ dD cX11_house 298 (.getfield 26) 3) ∧ (dD cX11_house 301 (.bipush 16) 2 ∧ dD cX11_house 303 (.iload_n 2) 1))) ∧ (((dD cX11_house 304 .iadd 1 ∧ dD cX11_house 305 (.aload_n 0) 1) ∧ (dD cX11_house 306 (.getfield 20) 3 ∧ dD cX11_house 309 (.bipush 44) 2)) ∧ ((dD cX11_house 311 (.iconst 3) 1 ∧ dD cX11_house 312 (.iload_n 2) 1) ∧ (dD cX11_house 313 .imul 1 ∧ dD cX11_house 314 .iadd 1)))) := dkA16 (by decide +kernel)
theorem dX11_house_k11 : ((((dD cX11_house 315 (.iconst 1) 1 ∧ dD cX11_house 316 .iadd 1) ∧ (dD cX11_house 317 .iaload 1 ∧ dD cX11_house 318 .iastore 1)) ∧ ((dD cX11_house 319 (.iinc 2 1) 3 ∧ dD cX11_house 322 (.goto (-36)) 3) ∧ (dD cX11_house 325 (.iconst 0) 1 ∧ dD cX11_house 326 (.istore_n 2) 1))) ∧ (((dD cX11_house 327 (.iload_n 2) 1 ∧ dD cX11_house 328 (.aload_n 0) 1) ∧ (dD cX11_house 329 (.getfield 20) 3 ∧ dD cX11_house 332 (.bipush 10) 2)) ∧ ((dD cX11_house 334 .iaload 1 ∧ dD cX11_house 335 (.if_icmp .ge 31) 3) ∧ (dD cX11_house 338 (.aload_n 0) 1 ∧ dD cX11_house 339 (.getfield 26) 3)))) := dkA16 (by decide +kernel)
theorem dX11_house_k12 : ((((dD cX11_house 342 (.bipush 28) 2 ∧ dD cX11_house 344 (.iload_n 2) 1) ∧ (dD cX11_house 345 .iadd 1 ∧ dD cX11_house 346 (.aload_n 0) 1)) ∧ ((dD cX11_house 347 (.getfield 20) 3 ∧ dD cX11_house 350 (.bipush 96) 2) ∧ (dD cX11_house 352 (.iconst 3) 1 ∧ dD cX11_house 353 (.iload_n 2) 1))) ∧ (((dD cX11_house 354 .imul 1 ∧ dD cX11_house 355 .iadd 1) ∧ (dD cX11_house 356 (.iconst 1) 1 ∧ dD cX11_house 357 .iadd 1)) ∧ ((dD cX11_house 358 .iaload 1 ∧ dD cX11_house 359 .iastore 1) ∧ (dD cX11_house 360 (.iinc 2 1) 3 ∧ dD cX11_house 363 (.goto (-36)) 3)))) := dkA16 (by decide +kernel)
theorem dX11_house_k13 : ((((dD cX11_house 366 (.iconst 0) 1 ∧ dD cX11_house 367 (.istore_n 2) 1) ∧ (dD cX11_house 368 (.iload_n 2) 1 ∧ dD cX11_house 369 (.aload_n 0) 1)) ∧ ((dD cX11_house 370 (.getfield 20) 3 ∧ dD cX11_house 373 (.bipush 12) 2) ∧ (dD cX11_house 375 .iaload 1 ∧ dD cX11_house 376 (.if_icmp .ge 24) 3))) ∧ (((dD cX11_house 379 (.aload_n 0) 1 ∧ dD cX11_house 380 (.getfield 26) 3) ∧ (dD cX11_house 383 (.bipush 34) 2 ∧ dD cX11_house 385 (.iload_n 2) 1)) ∧ ((dD cX11_house 386 .iadd 1 ∧ dD cX11_house 387 (.aload_n 0) 1) ∧ (dD cX11_house 388 (.getfield 20) 3 ∧ dD cX11_house 391 (.iconst 2) 1)))) := dkA16 (by decide +kernel)
theorem dX11_house_k14 : ((((dD cX11_house 392 .iaload 1 ∧ dD cX11_house 393 .iastore 1) ∧ (dD cX11_house 394 (.iinc 2 1) 3 ∧ dD cX11_house 397 (.goto (-29)) 3)) ∧ ((dD cX11_house 400 (.aload_n 0) 1 ∧ dD cX11_house 401 (.iconst 1) 1) ∧ (dD cX11_house 402 (.putfield 213) 3 ∧ dD cX11_house 405 (.aload_n 0) 1))) ∧ (((dD cX11_house 406 (.iconst 0) 1 ∧ dD cX11_house 407 (.putfield 216) 3) ∧ (dD cX11_house 410 (.aload_n 0) 1 ∧ dD cX11_house 411 (.iconst 0) 1)) ∧ ((dD cX11_house 412 (.putfield 219) 3 ∧ dD cX11_house 415 (.aload_n 0) 1) ∧ (dD cX11_house 416 (.getfield 20) 3 ∧ dD cX11_house 419 (.bipush 12) 2)))) := dkA16 (by decide +kernel)
theorem dX11_house_k15 : (dD cX11_house 421 .iaload 1 ∧ dD cX11_house 422 .ireturn 1) := dkA2 (by decide +kernel)


set_option maxHeartbeats 4000000 in
set_option maxRecDepth 100000 in
theorem m_weightOfT (l : Launch) (g : Gx) (h0 : Nat) (p0 : Int32) (p1 : Int32) (m_thrown : Int32) (a_tape : Nat) (m_taped : Int32) (m_size : Int32) (m_at : Int32) (m_end : Int32) (m_token : Int32) (m_whole : Int32) (m_nameSize : Int32) (m_fault : Int32) (m_place : Int32) (m_trouble : Int32) (a_letters : Nat) (m_failed : Int32) (m_hasHouse : Int32) (a_r : Nat) (a_fresh : Nat) (a_st : Nat) (a_undone : Nat) (a_kept : Nat) (m_undos : Int32) (m_images : Int32) (a_from : Nat) (a_begin : Nat) (a_motor : Nat) (a_change : Nat) (a_startFrame : Nat) (a_changeFrame : Nat) (a_lostAt : Nat) (a_blackAt : Nat) (a_slips : Nat) (a_leftArc : Nat) (a_died : Nat) (a_arcs : Nat) (m_bestSum : Int32) (m_nearest : Int32) (m_nearestTown : Int32) (a_there : Nat) (a_backAt : Nat) (a_sorted : Nat) (a_parts : Nat) (m_seed1 : Int32) (m_darkNow : Int32) (d_r : Nat → Int32) (d_st : Nat → Int32) (hv_p0 : IV p0 0 7) (hp_d_r : RInv d_r) (hr_0 : TRI d_r) : cL l g yX11_weightOf cX11_weightOf 7 (some .long) 1 22 0 0 [.ref h0, .int p0, .int p1] [(cO11_i1r1i10r1i2r5i2r12i3r4i2 h0 m_thrown a_tape m_taped m_size m_at m_end m_token m_whole m_nameSize m_fault m_place m_trouble a_letters m_failed m_hasHouse a_r a_fresh a_st a_undone a_kept m_undos m_images a_from a_begin a_motor a_change a_startFrame a_changeFrame a_lostAt a_blackAt a_slips a_leftArc a_died a_arcs m_bestSum m_nearest m_nearestTown a_there a_backAt a_sorted a_parts m_seed1 m_darkNow), (cAI g a_r 311 d_r), (cAI g a_st 44 d_st)] (fun r w => (r ≠ 0) ∧ w = [(cO11_i1r1i10r1i2r5i2r12i3r4i2 h0 m_thrown a_tape m_taped m_size m_at m_end m_token m_whole m_nameSize m_fault m_place m_trouble a_letters m_failed m_hasHouse a_r a_fresh a_st a_undone a_kept m_undos m_images a_from a_begin a_motor a_change a_startFrame a_changeFrame a_lostAt a_blackAt a_slips a_leftArc a_died a_arcs m_bestSum m_nearest m_nearestTown a_there a_backAt a_sorted a_parts m_seed1 m_darkNow), (cAI g a_r 311 d_r), (cAI g a_st 44 d_st)]) := by
  refine cL.of (by decide) (Nat.le_of_ble_eq_true rfl) ?_
  intro p e s m args below meth c A X hr hi
  refine k_lveq [(0, .ref h0), (1, .int p0), (2, .int p1)] rfl ?_
  refine k_lconst (v := 1) X dX11_weightOf_k0.1.1.1.1 (by decide) ?_
  refine k_lstore_n [(3, .long 1), (0, .ref h0), (1, .int p0), (2, .int p1)] X dX11_weightOf_k0.1.1.1.2 (by decide) rfl ?_
  refine k_iconst (v := 0) X dX11_weightOf_k0.1.1.2.1 ic_0 ?_
  refine k_istore [(5, .int 0), (3, .long 1), (0, .ref h0), (1, .int p0), (2, .int p1)] X dX11_weightOf_k0.1.1.2.2 (nlt_e rfl) rfl ?_
  refine (fun hL : ∀ (nn_5 : Nat) (u_1 : Int64) (u_2 : Int32), (2147483647 - u_2.toInt).toNat = nn_5 → (IV u_2 0 255) → (1 ≤ u_1.toInt ∧ u_1.toInt ≤ 9 ^ u_2.toInt.toNat) → Wk p l e _ s m args below meth c _ A g _ _ _ [(cO11_i1r1i10r1i2r5i2r12i3r4i2 h0 m_thrown a_tape m_taped m_size m_at m_end m_token m_whole m_nameSize m_fault m_place m_trouble a_letters m_failed m_hasHouse a_r a_fresh a_st a_undone a_kept m_undos m_images a_from a_begin a_motor a_change a_startFrame a_changeFrame a_lostAt a_blackAt a_slips a_leftArc a_died a_arcs m_bestSum m_nearest m_nearestTown a_there a_backAt a_sorted a_parts m_seed1 m_darkNow), (cAI g a_r 311 d_r), (cAI g a_st 44 d_st)] [(5, .int u_2), (3, .long u_1), (0, .ref h0), (1, .int p0), (2, .int p1)] 5 [] => hL _ 1 0 rfl (iv_w iq_0_0_0 (zle_e rfl) (zle_e rfl)) (by decide)) ?_
  refine fun nn_5 => Nat.strongRecOn nn_5 (fun nn_5 ih_7 => ?_)
  intro u_1 u_2 hm_6 hv_3 hx_4
  refine k_iload X dX11_weightOf_k0.1.2.1.1 0 rfl ?_
  refine k_aload_n X dX11_weightOf_k0.1.2.1.2 2 rfl ?_
  refine k_get (ci := 11) X inlX11 rfl 15 (nlt_e rfl) dX11_weightOf_k0.1.2.2.1 mw170 0 rfl rfl ?_
  refine k_bipush (v := 8) X dX11_weightOf_k0.1.2.2.2 bi_8 ?_
  refine k_iald X dX11_weightOf_k0.2.1.1.1 1 rfl (by unfold vp_in; decide) ?_
  refine k_nm (fun z_8 ez_8 => ?_)
  have i_9 : z_8.toInt = (d_r 8).toInt := by rw [ez_8]; rfl
  have iv_10 : IV z_8 0 12 := rb_8 ez_8 hp_d_r
  refine k_ic_ge 103 X dX11_weightOf_k0.2.1.1.2 (jp_e rfl) (fun h_11 => ?_) (fun h_11 => ?_)
  · skip
    have j_12 : z_8.toInt ≤ u_2.toInt := iv_le h_11
    refine k_lload_n X dX11_weightOf_k3.2.2.2.2 1 rfl ?_
    exact k_lret X hr dX11_weightOf_k4 (Nat.le_of_ble_eq_true rfl) (Nat.le_of_ble_eq_true rfl) [0, 1, 2] (vnd_e rfl) rfl rfl ⟨(p9n (by assumption)), rfl⟩
  · skip
    have j_13 : u_2.toInt < z_8.toInt := iv_nle h_11
    have iv_14 : IV u_2 0 11 := iv_ltL (iv_nle h_11) hv_3 iv_10 (zle_e rfl)
    have iv_15 : IV z_8 1 12 := iv_ltR (iv_nle h_11) hv_3 iv_10 (zle_e rfl)
    refine k_aload_n X dX11_weightOf_k0.2.1.2.1 2 rfl ?_
    refine k_get (ci := 11) X inlX11 rfl 15 (nlt_e rfl) dX11_weightOf_k0.2.1.2.2 mw170 0 rfl rfl ?_
    refine k_bipush (v := 44) X dX11_weightOf_k0.2.2.1.1 bi_44 ?_
    refine k_iconst (v := 3) X dX11_weightOf_k0.2.2.1.2 ic_3 ?_
    refine k_iload X dX11_weightOf_k0.2.2.2.1 0 rfl ?_
    refine k_imul X dX11_weightOf_k0.2.2.2.2 ?_
    refine k_nm (fun z_16 ez_16 => ?_)
    have i_17 : z_16.toInt = 3 * u_2.toInt := in_mul ez_16 (by decide) (zle_e rfl) iv_14 (zle_e rfl) (zle_e rfl)
    have iv_18 : IV z_16 0 33 := iz4 i_17 iv_14 (zle_e rfl) (zle_e rfl) (zle_e rfl)
    refine k_iadd X dX11_weightOf_k1.1.1.1.1 ?_
    refine k_nm (fun z_19 ez_19 => ?_)
    have i_20 : z_19.toInt = 44 + z_16.toInt := in_add ez_19 iq_44_44_44 iv_18 (zle_e rfl) (zle_e rfl)
    have iv_21 : IV z_19 44 77 := iz2 i_20 iv_18 (zle_e rfl) (zle_e rfl)
    refine k_iald X dX11_weightOf_k1.1.1.1.2 1 rfl (iv_in iv_21 (zle_e rfl) (zle_l rfl)) ?_
    refine k_nm (fun z_22 ez_22 => ?_)
    have i_23 : z_19.toInt = 44 + 3 * u_2.toInt := by omega
    have iv_24 : IV z_22 0 7 := rb_44_3 ez_22 hp_d_r i_23 (iv_w iv_14 (zle_e rfl) (zle_e rfl))
    refine k_iload_n X dX11_weightOf_k1.1.1.2.1 3 rfl ?_
    refine k_ic_eq 36 X dX11_weightOf_k1.1.1.2.2 (jp_e rfl) (fun h_25 => ?_) (fun h_25 => ?_)
    · skip
      refine k_aload_n X dX11_weightOf_k1.1.2.1.2 2 rfl ?_
      refine k_get (ci := 11) X inlX11 rfl 15 (nlt_e rfl) dX11_weightOf_k1.1.2.2.1 mw170 0 rfl rfl ?_
      refine k_bipush (v := 40) X dX11_weightOf_k1.1.2.2.2 bi_40 ?_
      refine k_aload_n X dX11_weightOf_k1.2.1.1.1 2 rfl ?_
      refine k_get (ci := 11) X inlX11 rfl 15 (nlt_e rfl) dX11_weightOf_k1.2.1.1.2 mw170 0 rfl rfl ?_
      refine k_bipush (v := 44) X dX11_weightOf_k1.2.1.2.1 bi_44 ?_
      refine k_iconst (v := 3) X dX11_weightOf_k1.2.1.2.2 ic_3 ?_
      refine k_iload X dX11_weightOf_k1.2.2.1.1 0 rfl ?_
      refine k_imul X dX11_weightOf_k1.2.2.1.2 ?_
      refine k_to z_16 ez_16.symm ?_
      refine k_iadd X dX11_weightOf_k1.2.2.2.1 ?_
      refine k_to z_19 ez_19.symm ?_
      refine k_iconst (v := 2) X dX11_weightOf_k1.2.2.2.2 ic_2 ?_
      refine k_iadd X dX11_weightOf_k2.1.1.1.1 ?_
      refine k_nm (fun z_26 ez_26 => ?_)
      have i_27 : z_26.toInt = z_19.toInt + 2 := in_add ez_26 iv_21 iq_2_2_2 (zle_e rfl) (zle_e rfl)
      have iv_28 : IV z_26 46 79 := iz1 i_27 iv_21 (zle_e rfl) (zle_e rfl)
      refine k_iald X dX11_weightOf_k2.1.1.1.2 1 rfl (iv_in iv_28 (zle_e rfl) (zle_l rfl)) ?_
      refine k_nm (fun z_29 ez_29 => ?_)
      have i_30 : z_26.toInt = 46 + 3 * u_2.toInt := by omega
      have iv_31 : IV z_29 0 3 := rb_46_3 ez_29 hp_d_r i_30 (iv_w iv_14 (zle_e rfl) (zle_e rfl))
      refine k_iadd X dX11_weightOf_k2.1.1.2.1 ?_
      refine k_nm (fun z_32 ez_32 => ?_)
      have i_33 : z_32.toInt = 40 + z_29.toInt := in_add ez_32 iq_40_40_40 iv_31 (zle_e rfl) (zle_e rfl)
      have iv_34 : IV z_32 40 43 := iz2 i_33 iv_31 (zle_e rfl) (zle_e rfl)
      refine k_iald X dX11_weightOf_k2.1.1.2.2 1 rfl (iv_in iv_34 (zle_e rfl) (zle_l rfl)) ?_
      refine k_nm (fun z_35 ez_35 => ?_)
      have i_36 : z_32.toInt = 40 + 1 * z_29.toInt := by omega
      have iv_37 : IV z_35 0 9 := rb_40_1 ez_35 hp_d_r i_36 (iv_w iv_31 (zle_e rfl) (zle_e rfl))
      have iv_38 : IV z_35 1 9 := ⟨tr_at (m := u_2) hr_0 (by omega) (by omega) (by omega) ez_29 (by omega) (by omega) ez_35, iv_37.2⟩
      refine k_istore [(6, .int z_35), (5, .int u_2), (3, .long u_1), (0, .ref h0), (1, .int p0), (2, .int p1)] X dX11_weightOf_k2.1.2.1.1 (nlt_e rfl) rfl ?_
      refine k_lload_n X dX11_weightOf_k2.1.2.1.2 2 rfl ?_
      refine k_aload_n X dX11_weightOf_k2.1.2.2.1 3 rfl ?_
      refine k_get (ci := 11) X inlX11 rfl 17 (nlt_e rfl) dX11_weightOf_k2.1.2.2.2 mw172 0 rfl rfl ?_
      refine k_bipush (v := 16) X dX11_weightOf_k2.2.1.1.1 bi_16 ?_
      refine k_iload X dX11_weightOf_k2.2.1.1.2 1 rfl ?_
      refine k_iadd X dX11_weightOf_k2.2.1.2.1 ?_
      refine k_nm (fun z_39 ez_39 => ?_)
      have i_40 : z_39.toInt = 16 + u_2.toInt := in_add ez_39 iq_16_16_16 iv_14 (zle_e rfl) (zle_e rfl)
      have iv_41 : IV z_39 16 27 := iz2 i_40 iv_14 (zle_e rfl) (zle_e rfl)
      refine k_iald X dX11_weightOf_k2.2.1.2.2 2 rfl (iv_in iv_41 (zle_e rfl) (zle_l rfl)) ?_
      refine k_nm (fun z_42 ez_42 => ?_)
      refine k_iload_n X dX11_weightOf_k2.2.2.1.1 5 rfl ?_
      refine k_iconst (v := 2) X dX11_weightOf_k2.2.2.1.2 ic_2 ?_
      refine k_isub X dX11_weightOf_k2.2.2.2.1 ?_
      refine k_nm (fun z_43 ez_43 => ?_)
      refine k_iload_n X dX11_weightOf_k2.2.2.2.2 5 rfl ?_
      refine k_iconst (v := 2) X dX11_weightOf_k3.1.1.1.1 ic_2 ?_
      refine k_iadd X dX11_weightOf_k3.1.1.1.2 ?_
      refine k_nm (fun z_45 ez_45 => ?_)
      refine k_callSI (n := 3) (As := [.int z_42, .int z_43, .int z_45]) (st := [.long u_1]) X [] [(cO11_i1r1i10r1i2r5i2r12i3r4i2 h0 m_thrown a_tape m_taped m_size m_at m_end m_token m_whole m_nameSize m_fault m_place m_trouble a_letters m_failed m_hasHouse a_r a_fresh a_st a_undone a_kept m_undos m_images a_from a_begin a_motor a_change a_startFrame a_changeFrame a_lostAt a_blackAt a_slips a_leftArc a_died a_arcs m_bestSum m_nearest m_nearestTown a_there a_backAt a_sorted a_parts m_seed1 m_darkNow), (cAI g a_r 311 d_r), (cAI g a_st 44 d_st)] [] [0, 1, 2] (m_in l g z_42 z_43 z_45) dX11_weightOf_k3.1.1.2.1 mw482 mw483 mw5 mw484 yk_yX11_in_3 rfl (Nat.le_of_ble_eq_true rfl) (Nat.le_of_ble_eq_true rfl) (Nat.le_of_ble_eq_true rfl) (Nat.le_of_ble_eq_true rfl) (Nat.le_of_ble_eq_true rfl) rfl rfl (vnd_e rfl) rfl (vnd_e rfl) (dsj_e rfl) ?_
      rintro r_47 w ⟨iv_48, hk_49, hk_50, rfl⟩
      refine k_ws [(cO11_i1r1i10r1i2r5i2r12i3r4i2 h0 m_thrown a_tape m_taped m_size m_at m_end m_token m_whole m_nameSize m_fault m_place m_trouble a_letters m_failed m_hasHouse a_r a_fresh a_st a_undone a_kept m_undos m_images a_from a_begin a_motor a_change a_startFrame a_changeFrame a_lostAt a_blackAt a_slips a_leftArc a_died a_arcs m_bestSum m_nearest m_nearestTown a_there a_backAt a_sorted a_parts m_seed1 m_darkNow), (cAI g a_r 311 d_r), (cAI g a_st 44 d_st)] rfl ?_
      refine k_if_eq 89 X dX11_weightOf_k3.1.1.2.2 (jp_e rfl) (fun h_51 => ?_) (fun h_51 => ?_)
      · skip
        have iv_52 : IV r_47 0 0 := iv_meet iv_48 (iv_e h_51 iq_0_0_0) (zle_o rfl) (zle_o rfl)
        have hc_53 := hk_50 (iv_eq iv_52 iq_0_0_0)
        have j_54 : z_42.toInt < z_43.toInt ∨ z_45.toInt < z_42.toInt := hc_53
        refine k_bipush (v := 10) X dX11_weightOf_k3.1.2.2.2 bi_10 ?_
        refine k_iload X dX11_weightOf_k3.2.1.1.1 0 rfl ?_
        refine k_isub X dX11_weightOf_k3.2.1.1.2 ?_
        refine k_nm (fun z_55 ez_55 => ?_)
        have i_56 : z_55.toInt = 10 - z_35.toInt := in_sub ez_55 iq_10_10_10 iv_38 (zle_e rfl) (zle_e rfl)
        have iv_57 : IV z_55 1 9 := iz7 i_56 iv_38 (zle_e rfl) (zle_e rfl)
        refine k_i2l X dX11_weightOf_k3.2.1.2.1 ?_
        refine k_nmL (fun y_58 ey_58 => ?_)
        refine k_lmul X dX11_weightOf_k3.2.1.2.2 ?_
        refine k_nmL (fun y_59 ey_59 => ?_)
        refine k_lstore_n [(3, .long y_59), (6, .int z_35), (5, .int u_2), (0, .ref h0), (1, .int p0), (2, .int p1)] X dX11_weightOf_k3.2.2.1.1 (by decide) rfl ?_
        obtain ⟨z_60, ez_60⟩ : ∃ y : Int32, u_2 + Int32.ofInt 1 = y := ⟨_, rfl⟩
        refine k_iinc z_60 [(5, .int z_60), (3, .long y_59), (6, .int z_35), (0, .ref h0), (1, .int p0), (2, .int p1)] 2 X dX11_weightOf_k3.2.2.1.2 rfl ez_60 (nlt_e rfl) rfl ?_
        have i_61 : z_60.toInt = u_2.toInt + 1 := in_inc ez_60 (oin_e rfl) iv_14 (zle_e rfl) (zle_e rfl)
        have iv_62 : IV z_60 1 12 := iz1 i_61 iv_14 (zle_e rfl) (zle_e rfl)
        refine k_goto 5 X dX11_weightOf_k3.2.2.2.1 (jp_e rfl) ?_
        refine k_lv [(5, .int z_60), (3, .long y_59), (0, .ref h0), (1, .int p0), (2, .int p1)] [0, 1, 3, 4, 5] rfl ?_
        exact ih_7 _ (by omega) y_59 z_60 rfl (iv_w iv_62 (zle_e rfl) (zle_e rfl)) (p9 (by assumption) (by assumption) (iv_w (by assumption) (zle_e rfl) (zle_e rfl)) (by assumption) (iv_w (by assumption) (zle_e rfl) (zle_e rfl)) (by omega))
      · skip
        have hc_63 := hk_49.resolve_left h_51
        have j_64 : z_43.toInt ≤ z_42.toInt := hc_63.1
        have j_65 : z_42.toInt ≤ z_45.toInt := hc_63.2
        have iv_66 : IV r_47 1 1 := iv_neL h_51 iv_48 iq_0_0_0 (zle_e rfl)
        refine k_iload X dX11_weightOf_k3.1.2.1.1 0 rfl ?_
        refine k_i2l X dX11_weightOf_k3.1.2.1.2 ?_
        refine k_nmL (fun y_67 ey_67 => ?_)
        refine k_goto 95 X dX11_weightOf_k3.1.2.2.1 (jp_e rfl) ?_
        refine k_lmul X dX11_weightOf_k3.2.1.2.2 ?_
        refine k_nmL (fun y_68 ey_68 => ?_)
        refine k_lstore_n [(3, .long y_68), (6, .int z_35), (5, .int u_2), (0, .ref h0), (1, .int p0), (2, .int p1)] X dX11_weightOf_k3.2.2.1.1 (by decide) rfl ?_
        obtain ⟨z_69, ez_69⟩ : ∃ y : Int32, u_2 + Int32.ofInt 1 = y := ⟨_, rfl⟩
        refine k_iinc z_69 [(5, .int z_69), (3, .long y_68), (6, .int z_35), (0, .ref h0), (1, .int p0), (2, .int p1)] 2 X dX11_weightOf_k3.2.2.1.2 rfl ez_69 (nlt_e rfl) rfl ?_
        have i_70 : z_69.toInt = u_2.toInt + 1 := in_inc ez_69 (oin_e rfl) iv_14 (zle_e rfl) (zle_e rfl)
        have iv_71 : IV z_69 1 12 := iz1 i_70 iv_14 (zle_e rfl) (zle_e rfl)
        refine k_goto 5 X dX11_weightOf_k3.2.2.2.1 (jp_e rfl) ?_
        refine k_lv [(5, .int z_69), (3, .long y_68), (0, .ref h0), (1, .int p0), (2, .int p1)] [0, 1, 3, 4, 5] rfl ?_
        exact ih_7 _ (by omega) y_68 z_69 rfl (iv_w iv_71 (zle_e rfl) (zle_e rfl)) (p9 (by assumption) (by assumption) (iv_w (by assumption) (zle_e rfl) (zle_e rfl)) (by assumption) (iv_w (by assumption) (zle_e rfl) (zle_e rfl)) (by omega))
    · skip
      refine k_goto 97 X dX11_weightOf_k1.1.2.1.1 (jp_e rfl) ?_
      obtain ⟨z_72, ez_72⟩ : ∃ y : Int32, u_2 + Int32.ofInt 1 = y := ⟨_, rfl⟩
      refine k_iinc z_72 [(5, .int z_72), (3, .long u_1), (0, .ref h0), (1, .int p0), (2, .int p1)] 0 X dX11_weightOf_k3.2.2.1.2 rfl ez_72 (nlt_e rfl) rfl ?_
      have i_73 : z_72.toInt = u_2.toInt + 1 := in_inc ez_72 (oin_e rfl) iv_14 (zle_e rfl) (zle_e rfl)
      have iv_74 : IV z_72 1 12 := iz1 i_73 iv_14 (zle_e rfl) (zle_e rfl)
      refine k_goto 5 X dX11_weightOf_k3.2.2.2.1 (jp_e rfl) ?_
      exact ih_7 _ (by omega) u_1 z_72 rfl (iv_w iv_74 (zle_e rfl) (zle_e rfl)) (p9s (by assumption) (by omega) (by omega))

theorem dX11_truly_k0 : ((((dD cX11_truly 0 (.aload_n 0) 1 ∧ dD cX11_truly 1 (.invokevirtual 200) 3) ∧ (dD cX11_truly 4 (.aload_n 0) 1 ∧ dD cX11_truly 5 (.iload_n 1) 1)) ∧ ((dD cX11_truly 6 (.invokevirtual 327) 3 ∧ dD cX11_truly 9 (.ifCond .eq 12) 3) ∧ (dD cX11_truly 12 (.aload_n 0) 1 ∧ dD cX11_truly 13 (.iload_n 1) 1))) ∧ (((dD cX11_truly 14 (.iload_n 2) 1 ∧ dD cX11_truly 15 (.invokevirtual 397) 3) ∧ (dD cX11_truly 18 (.ifCond .ne 10) 3 ∧ dD cX11_truly 21 (.aload_n 0) 1)) ∧ ((dD cX11_truly 22 (.iconst 1) 1 ∧ dD cX11_truly 23 (.invokevirtual 203) 3) ∧ (dD cX11_truly 26 .i2l 1 ∧ dD cX11_truly 27 .lreturn 1)))) := dkA16 (by decide +kernel)
theorem dX11_truly_k1 : (((dD cX11_truly 28 (.aload_n 0) 1 ∧ dD cX11_truly 29 (.iload_n 1) 1) ∧ (dD cX11_truly 30 (.iload_n 2) 1 ∧ (dD cX11_truly 31 (.invokevirtual 400) 3 ∧ dD cX11_truly 34 (.aload_n 0) 1))) ∧ ((dD cX11_truly 35 (.iload_n 1) 1 ∧ dD cX11_truly 36 (.invokevirtual 404) 3) ∧ (dD cX11_truly 39 (.iload_n 3) 1 ∧ (dD cX11_truly 40 (.invokestatic 408) 3 ∧ dD cX11_truly 43 .lreturn 1)))) := dkA10 (by decide +kernel)
set_option maxHeartbeats 4000000 in
set_option maxRecDepth 100000 in
theorem m_truly (l : Launch) (g : Gx) (h0 : Nat) (p0 : Int32) (p1 : Int32) (p2 : Int32) (m_thrown : Int32) (a_tape : Nat) (m_taped : Int32) (m_size : Int32) (m_at : Int32) (m_end : Int32) (m_token : Int32) (m_whole : Int32) (m_nameSize : Int32) (m_fault : Int32) (m_place : Int32) (m_trouble : Int32) (a_letters : Nat) (m_failed : Int32) (m_hasHouse : Int32) (a_r : Nat) (a_fresh : Nat) (a_st : Nat) (a_undone : Nat) (a_kept : Nat) (m_undos : Int32) (m_images : Int32) (a_from : Nat) (a_begin : Nat) (a_motor : Nat) (a_change : Nat) (a_startFrame : Nat) (a_changeFrame : Nat) (a_lostAt : Nat) (a_blackAt : Nat) (a_slips : Nat) (a_leftArc : Nat) (a_died : Nat) (a_arcs : Nat) (m_bestSum : Int32) (m_nearest : Int32) (m_nearestTown : Int32) (a_there : Nat) (a_backAt : Nat) (a_sorted : Nat) (a_parts : Nat) (m_seed1 : Int32) (m_darkNow : Int32) (d_r : Nat → Int32) (d_st : Nat → Int32) (hv_m_hasHouse : IV m_hasHouse 0 1) (hp_d_r : RInv d_r) (hr_0 : TRI d_r) : cL l g yX11_truly cX11_truly 4 (some .long) 3 72 0 0 [.ref h0, .int p0, .int p1, .int p2] [(cO11_i1r1i10r1i2r5i2r12i3r4i2 h0 m_thrown a_tape m_taped m_size m_at m_end m_token m_whole m_nameSize m_fault m_place m_trouble a_letters m_failed m_hasHouse a_r a_fresh a_st a_undone a_kept m_undos m_images a_from a_begin a_motor a_change a_startFrame a_changeFrame a_lostAt a_blackAt a_slips a_leftArc a_died a_arcs m_bestSum m_nearest m_nearestTown a_there a_backAt a_sorted a_parts m_seed1 m_darkNow), (cAI g a_r 311 d_r), (cAI g a_st 44 d_st)] (fun r w => ∃ (m_thrown2 : Int32) (m_trouble2 : Int32), w = [(cO11_i1r1i10r1i2r5i2r12i3r4i2 h0 m_thrown2 a_tape m_taped m_size m_at m_end m_token m_whole m_nameSize m_fault m_place m_trouble2 a_letters m_failed m_hasHouse a_r a_fresh a_st a_undone a_kept m_undos m_images a_from a_begin a_motor a_change a_startFrame a_changeFrame a_lostAt a_blackAt a_slips a_leftArc a_died a_arcs m_bestSum m_nearest m_nearestTown a_there a_backAt a_sorted a_parts m_seed1 m_darkNow), (cAI g a_r 311 d_r), (cAI g a_st 44 d_st)]) := by
  refine cL.of (by decide) (Nat.le_of_ble_eq_true rfl) ?_
  intro p e s m args below meth c A X hr hi
  refine k_lveq [(0, .ref h0), (1, .int p0), (2, .int p1), (3, .int p2)] rfl ?_
  refine k_aload_n X dX11_truly_k0.1.1.1.1 0 rfl ?_
  refine k_callVV (n := 0) (As := []) (st := []) X [(cO11_i1r1i10r1i2r5i2r12i3r4i2 h0 m_thrown a_tape m_taped m_size m_at m_end m_token m_whole m_nameSize m_fault m_place m_trouble a_letters m_failed m_hasHouse a_r a_fresh a_st a_undone a_kept m_undos m_images a_from a_begin a_motor a_change a_startFrame a_changeFrame a_lostAt a_blackAt a_slips a_leftArc a_died a_arcs m_bestSum m_nearest m_nearestTown a_there a_backAt a_sorted a_parts m_seed1 m_darkNow)] [(cAI g a_r 311 d_r), (cAI g a_st 44 d_st)] [0] [1, 2] (m_good l g h0 m_thrown a_tape m_taped m_size m_at m_end m_token m_whole m_nameSize m_fault m_place m_trouble a_letters m_failed m_hasHouse a_r a_fresh a_st a_undone a_kept m_undos m_images a_from a_begin a_motor a_change a_startFrame a_changeFrame a_lostAt a_blackAt a_slips a_leftArc a_died a_arcs m_bestSum m_nearest m_nearestTown a_there a_backAt a_sorted a_parts m_seed1 m_darkNow) dX11_truly_k0.1.1.1.2 mw477 mw478 mw479 mw5 mw480 rfl 11 rfl rfl 0 _ rfl yk_yX11_good_0 rfl (Nat.le_of_ble_eq_true rfl) (Nat.le_of_ble_eq_true rfl) (Nat.le_of_ble_eq_true rfl) (Nat.le_of_ble_eq_true rfl) (Nat.le_of_ble_eq_true rfl) rfl rfl (vnd_e rfl) rfl (vnd_e rfl) (dsj_e rfl) ?_
  rintro w ⟨m_thrown2_1, m_trouble2_2, rfl⟩
  refine k_ws [(cAI g a_r 311 d_r), (cAI g a_st 44 d_st), (cO11_i1r1i10r1i2r5i2r12i3r4i2 h0 m_thrown2_1 a_tape m_taped m_size m_at m_end m_token m_whole m_nameSize m_fault m_place m_trouble2_2 a_letters m_failed m_hasHouse a_r a_fresh a_st a_undone a_kept m_undos m_images a_from a_begin a_motor a_change a_startFrame a_changeFrame a_lostAt a_blackAt a_slips a_leftArc a_died a_arcs m_bestSum m_nearest m_nearestTown a_there a_backAt a_sorted a_parts m_seed1 m_darkNow)] rfl ?_
  refine k_aload_n X dX11_truly_k0.1.1.2.1 0 rfl ?_
  refine k_iload_n X dX11_truly_k0.1.1.2.2 1 rfl ?_
  refine k_callVI (n := 1) (As := [.int p0]) (st := []) X [(cO11_i1r1i10r1i2r5i2r12i3r4i2 h0 m_thrown2_1 a_tape m_taped m_size m_at m_end m_token m_whole m_nameSize m_fault m_place m_trouble2_2 a_letters m_failed m_hasHouse a_r a_fresh a_st a_undone a_kept m_undos m_images a_from a_begin a_motor a_change a_startFrame a_changeFrame a_lostAt a_blackAt a_slips a_leftArc a_died a_arcs m_bestSum m_nearest m_nearestTown a_there a_backAt a_sorted a_parts m_seed1 m_darkNow), (cAI g a_r 311 d_r)] [(cAI g a_st 44 d_st)] [2, 0] [1] (m_isReel l g h0 p0 m_thrown2_1 a_tape m_taped m_size m_at m_end m_token m_whole m_nameSize m_fault m_place m_trouble2_2 a_letters m_failed m_hasHouse a_r a_fresh a_st a_undone a_kept m_undos m_images a_from a_begin a_motor a_change a_startFrame a_changeFrame a_lostAt a_blackAt a_slips a_leftArc a_died a_arcs m_bestSum m_nearest m_nearestTown a_there a_backAt a_sorted a_parts m_seed1 m_darkNow d_r (iv_w hv_m_hasHouse (zle_e rfl) (zle_e rfl)) hp_d_r) dX11_truly_k0.1.2.1.1 mw670 mw671 mw672 mw5 mw673 rfl 11 rfl rfl 0 _ rfl yk_yX11_isReel_1 rfl (Nat.le_of_ble_eq_true rfl) (Nat.le_of_ble_eq_true rfl) (Nat.le_of_ble_eq_true rfl) (Nat.le_of_ble_eq_true rfl) (Nat.le_of_ble_eq_true rfl) rfl rfl (vnd_e rfl) rfl (vnd_e rfl) (dsj_e rfl) ?_
  rintro r_4 w ⟨iv_5, hk_6, rfl⟩
  refine k_ws [(cAI g a_st 44 d_st), (cO11_i1r1i10r1i2r5i2r12i3r4i2 h0 m_thrown2_1 a_tape m_taped m_size m_at m_end m_token m_whole m_nameSize m_fault m_place m_trouble2_2 a_letters m_failed m_hasHouse a_r a_fresh a_st a_undone a_kept m_undos m_images a_from a_begin a_motor a_change a_startFrame a_changeFrame a_lostAt a_blackAt a_slips a_leftArc a_died a_arcs m_bestSum m_nearest m_nearestTown a_there a_backAt a_sorted a_parts m_seed1 m_darkNow), (cAI g a_r 311 d_r)] rfl ?_
  refine k_if_eq 21 X dX11_truly_k0.1.2.1.2 (jp_e rfl) (fun h_7 => ?_) (fun h_7 => ?_)
  · skip
    have iv_8 : IV r_4 0 0 := iv_meet iv_5 (iv_e h_7 iq_0_0_0) (zle_o rfl) (zle_o rfl)
    refine k_aload_n X dX11_truly_k0.2.1.2.2 0 rfl ?_
    refine k_iconst (v := 1) X dX11_truly_k0.2.2.1.1 ic_1 ?_
    refine k_callVI (n := 1) (As := [.int 1]) (st := []) X [(cO11_i1r1i10r1i2r5i2r12i3r4i2 h0 m_thrown2_1 a_tape m_taped m_size m_at m_end m_token m_whole m_nameSize m_fault m_place m_trouble2_2 a_letters m_failed m_hasHouse a_r a_fresh a_st a_undone a_kept m_undos m_images a_from a_begin a_motor a_change a_startFrame a_changeFrame a_lostAt a_blackAt a_slips a_leftArc a_died a_arcs m_bestSum m_nearest m_nearestTown a_there a_backAt a_sorted a_parts m_seed1 m_darkNow)] [(cAI g a_st 44 d_st), (cAI g a_r 311 d_r)] [1] [0, 2] (m_no l g h0 1 m_thrown2_1 a_tape m_taped m_size m_at m_end m_token m_whole m_nameSize m_fault m_place m_trouble2_2 a_letters m_failed m_hasHouse a_r a_fresh a_st a_undone a_kept m_undos m_images a_from a_begin a_motor a_change a_startFrame a_changeFrame a_lostAt a_blackAt a_slips a_leftArc a_died a_arcs m_bestSum m_nearest m_nearestTown a_there a_backAt a_sorted a_parts m_seed1 m_darkNow) dX11_truly_k0.2.2.1.2 mw485 mw486 mw487 mw5 mw488 rfl 11 rfl rfl 0 _ rfl yk_yX11_no_1 rfl (Nat.le_of_ble_eq_true rfl) (Nat.le_of_ble_eq_true rfl) (Nat.le_of_ble_eq_true rfl) (Nat.le_of_ble_eq_true rfl) (Nat.le_of_ble_eq_true rfl) rfl rfl (vnd_e rfl) rfl (vnd_e rfl) (dsj_e rfl) ?_
    rintro r_10 w ⟨m_trouble2_9, iv_11, rfl⟩
    refine k_ws [(cAI g a_st 44 d_st), (cAI g a_r 311 d_r), (cO11_i1r1i10r1i2r5i2r12i3r4i2 h0 m_thrown2_1 a_tape m_taped m_size m_at m_end m_token m_whole m_nameSize m_fault m_place m_trouble2_9 a_letters m_failed m_hasHouse a_r a_fresh a_st a_undone a_kept m_undos m_images a_from a_begin a_motor a_change a_startFrame a_changeFrame a_lostAt a_blackAt a_slips a_leftArc a_died a_arcs m_bestSum m_nearest m_nearestTown a_there a_backAt a_sorted a_parts m_seed1 m_darkNow)] rfl ?_
    refine k_i2l X dX11_truly_k0.2.2.2.1 ?_
    refine k_nmL (fun y_12 ey_12 => ?_)
    exact k_lret X hr dX11_truly_k0.2.2.2.2 (Nat.le_of_ble_eq_true rfl) (Nat.le_of_ble_eq_true rfl) [2, 1, 0] (vnd_e rfl) rfl rfl ⟨m_thrown2_1, m_trouble2_9, rfl⟩
  · skip
    have hc_13 := hk_6.resolve_left h_7
    have iv_14 : IV p0 0 7 := iv_meet (iv_any p0) hc_13 (zle_o rfl) (zle_o rfl)
    have iv_15 : IV r_4 1 1 := iv_neL h_7 iv_5 iq_0_0_0 (zle_e rfl)
    refine k_aload_n X dX11_truly_k0.1.2.2.1 0 rfl ?_
    refine k_iload_n X dX11_truly_k0.1.2.2.2 1 rfl ?_
    refine k_iload_n X dX11_truly_k0.2.1.1.1 2 rfl ?_
    refine k_callVI (n := 2) (As := [.int p0, .int p1]) (st := []) X [(cO11_i1r1i10r1i2r5i2r12i3r4i2 h0 m_thrown2_1 a_tape m_taped m_size m_at m_end m_token m_whole m_nameSize m_fault m_place m_trouble2_2 a_letters m_failed m_hasHouse a_r a_fresh a_st a_undone a_kept m_undos m_images a_from a_begin a_motor a_change a_startFrame a_changeFrame a_lostAt a_blackAt a_slips a_leftArc a_died a_arcs m_bestSum m_nearest m_nearestTown a_there a_backAt a_sorted a_parts m_seed1 m_darkNow), (cAI g a_r 311 d_r), (cAI g a_st 44 d_st)] [] [1, 2, 0] [] (m_isDot l g h0 p0 p1 m_thrown2_1 a_tape m_taped m_size m_at m_end m_token m_whole m_nameSize m_fault m_place m_trouble2_2 a_letters m_failed m_hasHouse a_r a_fresh a_st a_undone a_kept m_undos m_images a_from a_begin a_motor a_change a_startFrame a_changeFrame a_lostAt a_blackAt a_slips a_leftArc a_died a_arcs m_bestSum m_nearest m_nearestTown a_there a_backAt a_sorted a_parts m_seed1 m_darkNow d_r d_st (iv_w iv_14 (zle_e rfl) (zle_e rfl)) hp_d_r) dX11_truly_k0.2.1.1.2 mw1155 mw1156 mw1157 mw5 mw1158 rfl 11 rfl rfl 0 _ rfl yk_yX11_isDot_2 rfl (Nat.le_of_ble_eq_true rfl) (Nat.le_of_ble_eq_true rfl) (Nat.le_of_ble_eq_true rfl) (Nat.le_of_ble_eq_true rfl) (Nat.le_of_ble_eq_true rfl) rfl rfl (vnd_e rfl) rfl (vnd_e rfl) (dsj_e rfl) ?_
    rintro r_16 w ⟨iv_17, rfl⟩
    refine k_ws [(cO11_i1r1i10r1i2r5i2r12i3r4i2 h0 m_thrown2_1 a_tape m_taped m_size m_at m_end m_token m_whole m_nameSize m_fault m_place m_trouble2_2 a_letters m_failed m_hasHouse a_r a_fresh a_st a_undone a_kept m_undos m_images a_from a_begin a_motor a_change a_startFrame a_changeFrame a_lostAt a_blackAt a_slips a_leftArc a_died a_arcs m_bestSum m_nearest m_nearestTown a_there a_backAt a_sorted a_parts m_seed1 m_darkNow), (cAI g a_r 311 d_r), (cAI g a_st 44 d_st)] rfl ?_
    refine k_if_ne 28 X dX11_truly_k0.2.1.2.1 (jp_e rfl) (fun h_18 => ?_) (fun h_18 => ?_)
    · skip
      have iv_19 : IV r_16 1 1 := iv_neL h_18 iv_17 iq_0_0_0 (zle_e rfl)
      refine k_aload_n X dX11_truly_k1.1.1.1 0 rfl ?_
      refine k_iload_n X dX11_truly_k1.1.1.2 1 rfl ?_
      refine k_iload_n X dX11_truly_k1.1.2.1 2 rfl ?_
      refine k_callVL (n := 2) (As := [.int p0, .int p1]) (st := []) X [(cO11_i1r1i10r1i2r5i2r12i3r4i2 h0 m_thrown2_1 a_tape m_taped m_size m_at m_end m_token m_whole m_nameSize m_fault m_place m_trouble2_2 a_letters m_failed m_hasHouse a_r a_fresh a_st a_undone a_kept m_undos m_images a_from a_begin a_motor a_change a_startFrame a_changeFrame a_lostAt a_blackAt a_slips a_leftArc a_died a_arcs m_bestSum m_nearest m_nearestTown a_there a_backAt a_sorted a_parts m_seed1 m_darkNow), (cAI g a_r 311 d_r), (cAI g a_st 44 d_st)] [] [0, 1, 2] [] (m_weightOfT l g h0 p0 p1 m_thrown2_1 a_tape m_taped m_size m_at m_end m_token m_whole m_nameSize m_fault m_place m_trouble2_2 a_letters m_failed m_hasHouse a_r a_fresh a_st a_undone a_kept m_undos m_images a_from a_begin a_motor a_change a_startFrame a_changeFrame a_lostAt a_blackAt a_slips a_leftArc a_died a_arcs m_bestSum m_nearest m_nearestTown a_there a_backAt a_sorted a_parts m_seed1 m_darkNow d_r d_st (iv_w iv_14 (zle_e rfl) (zle_e rfl)) hp_d_r hr_0) dX11_truly_k1.1.2.2.1 mw1159 mw1160 mw1161 mw5 mw1162 rfl 11 rfl rfl 0 _ rfl yk_yX11_weightOf_2 rfl (Nat.le_of_ble_eq_true rfl) (Nat.le_of_ble_eq_true rfl) (Nat.le_of_ble_eq_true rfl) (Nat.le_of_ble_eq_true rfl) (Nat.le_of_ble_eq_true rfl) rfl rfl (vnd_e rfl) rfl (vnd_e rfl) (dsj_e rfl) ?_
      rintro r_20 w ⟨hq_21, rfl⟩
      refine k_ws [(cO11_i1r1i10r1i2r5i2r12i3r4i2 h0 m_thrown2_1 a_tape m_taped m_size m_at m_end m_token m_whole m_nameSize m_fault m_place m_trouble2_2 a_letters m_failed m_hasHouse a_r a_fresh a_st a_undone a_kept m_undos m_images a_from a_begin a_motor a_change a_startFrame a_changeFrame a_lostAt a_blackAt a_slips a_leftArc a_died a_arcs m_bestSum m_nearest m_nearestTown a_there a_backAt a_sorted a_parts m_seed1 m_darkNow), (cAI g a_r 311 d_r), (cAI g a_st 44 d_st)] rfl ?_
      refine k_aload_n X dX11_truly_k1.1.2.2.2 0 rfl ?_
      refine k_iload_n X dX11_truly_k1.2.1.1 1 rfl ?_
      refine k_callVL (n := 1) (As := [.int p0]) (st := [.long r_20]) X [(cO11_i1r1i10r1i2r5i2r12i3r4i2 h0 m_thrown2_1 a_tape m_taped m_size m_at m_end m_token m_whole m_nameSize m_fault m_place m_trouble2_2 a_letters m_failed m_hasHouse a_r a_fresh a_st a_undone a_kept m_undos m_images a_from a_begin a_motor a_change a_startFrame a_changeFrame a_lostAt a_blackAt a_slips a_leftArc a_died a_arcs m_bestSum m_nearest m_nearestTown a_there a_backAt a_sorted a_parts m_seed1 m_darkNow), (cAI g a_r 311 d_r), (cAI g a_st 44 d_st)] [] [0, 1, 2] [] (m_allWeights l g h0 p0 m_thrown2_1 a_tape m_taped m_size m_at m_end m_token m_whole m_nameSize m_fault m_place m_trouble2_2 a_letters m_failed m_hasHouse a_r a_fresh a_st a_undone a_kept m_undos m_images a_from a_begin a_motor a_change a_startFrame a_changeFrame a_lostAt a_blackAt a_slips a_leftArc a_died a_arcs m_bestSum m_nearest m_nearestTown a_there a_backAt a_sorted a_parts m_seed1 m_darkNow d_r d_st (iv_w iv_14 (zle_e rfl) (zle_e rfl)) hp_d_r) dX11_truly_k1.2.1.2 mw1163 mw1164 mw1165 mw5 mw1166 rfl 11 rfl rfl 0 _ rfl yk_yX11_allWeights_1 rfl (Nat.le_of_ble_eq_true rfl) (Nat.le_of_ble_eq_true rfl) (Nat.le_of_ble_eq_true rfl) (Nat.le_of_ble_eq_true rfl) (Nat.le_of_ble_eq_true rfl) rfl rfl (vnd_e rfl) rfl (vnd_e rfl) (dsj_e rfl) ?_
      rintro r_22 w rfl
      refine k_ws [(cO11_i1r1i10r1i2r5i2r12i3r4i2 h0 m_thrown2_1 a_tape m_taped m_size m_at m_end m_token m_whole m_nameSize m_fault m_place m_trouble2_2 a_letters m_failed m_hasHouse a_r a_fresh a_st a_undone a_kept m_undos m_images a_from a_begin a_motor a_change a_startFrame a_changeFrame a_lostAt a_blackAt a_slips a_leftArc a_died a_arcs m_bestSum m_nearest m_nearestTown a_there a_backAt a_sorted a_parts m_seed1 m_darkNow), (cAI g a_r 311 d_r), (cAI g a_st 44 d_st)] rfl ?_
      refine k_iload_n X dX11_truly_k1.2.2.1 3 rfl ?_
      refine k_callSL (n := 3) (As := [.long r_20, .long r_22, .int p2]) (st := []) X [] [(cO11_i1r1i10r1i2r5i2r12i3r4i2 h0 m_thrown2_1 a_tape m_taped m_size m_at m_end m_token m_whole m_nameSize m_fault m_place m_trouble2_2 a_letters m_failed m_hasHouse a_r a_fresh a_st a_undone a_kept m_undos m_images a_from a_begin a_motor a_change a_startFrame a_changeFrame a_lostAt a_blackAt a_slips a_leftArc a_died a_arcs m_bestSum m_nearest m_nearestTown a_there a_backAt a_sorted a_parts m_seed1 m_darkNow), (cAI g a_r 311 d_r), (cAI g a_st 44 d_st)] [] [0, 1, 2] (m_lowest l g r_20 r_22 p2 (by first | exact Or.inr (by decide) | exact Or.inr (by assumption) | exact Or.inl (by assumption))) dX11_truly_k1.2.2.2.1 mw1167 mw1168 mw5 mw1169 yk_yX11_lowest_3 rfl (Nat.le_of_ble_eq_true rfl) (Nat.le_of_ble_eq_true rfl) (Nat.le_of_ble_eq_true rfl) (Nat.le_of_ble_eq_true rfl) (Nat.le_of_ble_eq_true rfl) rfl rfl (vnd_e rfl) rfl (vnd_e rfl) (dsj_e rfl) ?_
      rintro r_23 w rfl
      refine k_ws [(cO11_i1r1i10r1i2r5i2r12i3r4i2 h0 m_thrown2_1 a_tape m_taped m_size m_at m_end m_token m_whole m_nameSize m_fault m_place m_trouble2_2 a_letters m_failed m_hasHouse a_r a_fresh a_st a_undone a_kept m_undos m_images a_from a_begin a_motor a_change a_startFrame a_changeFrame a_lostAt a_blackAt a_slips a_leftArc a_died a_arcs m_bestSum m_nearest m_nearestTown a_there a_backAt a_sorted a_parts m_seed1 m_darkNow), (cAI g a_r 311 d_r), (cAI g a_st 44 d_st)] rfl ?_
      exact k_lret X hr dX11_truly_k1.2.2.2.2 (Nat.le_of_ble_eq_true rfl) (Nat.le_of_ble_eq_true rfl) [0, 1, 2] (vnd_e rfl) rfl rfl ⟨m_thrown2_1, m_trouble2_2, rfl⟩
    · skip
      have iv_24 : IV r_16 0 0 := iv_meet iv_17 (iv_e h_18 iq_0_0_0) (zle_o rfl) (zle_o rfl)
      refine k_aload_n X dX11_truly_k0.2.1.2.2 0 rfl ?_
      refine k_iconst (v := 1) X dX11_truly_k0.2.2.1.1 ic_1 ?_
      refine k_callVI (n := 1) (As := [.int 1]) (st := []) X [(cO11_i1r1i10r1i2r5i2r12i3r4i2 h0 m_thrown2_1 a_tape m_taped m_size m_at m_end m_token m_whole m_nameSize m_fault m_place m_trouble2_2 a_letters m_failed m_hasHouse a_r a_fresh a_st a_undone a_kept m_undos m_images a_from a_begin a_motor a_change a_startFrame a_changeFrame a_lostAt a_blackAt a_slips a_leftArc a_died a_arcs m_bestSum m_nearest m_nearestTown a_there a_backAt a_sorted a_parts m_seed1 m_darkNow)] [(cAI g a_r 311 d_r), (cAI g a_st 44 d_st)] [0] [1, 2] (m_no l g h0 1 m_thrown2_1 a_tape m_taped m_size m_at m_end m_token m_whole m_nameSize m_fault m_place m_trouble2_2 a_letters m_failed m_hasHouse a_r a_fresh a_st a_undone a_kept m_undos m_images a_from a_begin a_motor a_change a_startFrame a_changeFrame a_lostAt a_blackAt a_slips a_leftArc a_died a_arcs m_bestSum m_nearest m_nearestTown a_there a_backAt a_sorted a_parts m_seed1 m_darkNow) dX11_truly_k0.2.2.1.2 mw485 mw486 mw487 mw5 mw488 rfl 11 rfl rfl 0 _ rfl yk_yX11_no_1 rfl (Nat.le_of_ble_eq_true rfl) (Nat.le_of_ble_eq_true rfl) (Nat.le_of_ble_eq_true rfl) (Nat.le_of_ble_eq_true rfl) (Nat.le_of_ble_eq_true rfl) rfl rfl (vnd_e rfl) rfl (vnd_e rfl) (dsj_e rfl) ?_
      rintro r_26 w ⟨m_trouble2_25, iv_27, rfl⟩
      refine k_ws [(cAI g a_r 311 d_r), (cAI g a_st 44 d_st), (cO11_i1r1i10r1i2r5i2r12i3r4i2 h0 m_thrown2_1 a_tape m_taped m_size m_at m_end m_token m_whole m_nameSize m_fault m_place m_trouble2_25 a_letters m_failed m_hasHouse a_r a_fresh a_st a_undone a_kept m_undos m_images a_from a_begin a_motor a_change a_startFrame a_changeFrame a_lostAt a_blackAt a_slips a_leftArc a_died a_arcs m_bestSum m_nearest m_nearestTown a_there a_backAt a_sorted a_parts m_seed1 m_darkNow)] rfl ?_
      refine k_i2l X dX11_truly_k0.2.2.2.1 ?_
      refine k_nmL (fun y_28 ey_28 => ?_)
      exact k_lret X hr dX11_truly_k0.2.2.2.2 (Nat.le_of_ble_eq_true rfl) (Nat.le_of_ble_eq_true rfl) [2, 0, 1] (vnd_e rfl) rfl rfl ⟨m_thrown2_1, m_trouble2_25, rfl⟩
