set_option maxRecDepth 100000
set_option maxHeartbeats 4000000

set_option maxHeartbeats 4000000 in
set_option maxRecDepth 100000 in
theorem m_isNotX (l : Launch) (g : Gx) (h0 : Nat) (p0 : Int32) (m_thrown : Int32) (a_tape : Nat) (m_taped : Int32) (m_size : Int32) (m_at : Int32) (m_end : Int32) (m_token : Int32) (m_whole : Int32) (m_nameSize : Int32) (m_fault : Int32) (m_place : Int32) (m_trouble : Int32) (a_letters : Nat) (m_failed : Int32) (m_hasHouse : Int32) (a_r : Nat) (a_fresh : Nat) (a_st : Nat) (a_undone : Nat) (a_kept : Nat) (m_undos : Int32) (m_images : Int32) (a_from : Nat) (a_begin : Nat) (a_motor : Nat) (a_change : Nat) (a_startFrame : Nat) (a_changeFrame : Nat) (a_lostAt : Nat) (a_blackAt : Nat) (a_slips : Nat) (a_leftArc : Nat) (a_died : Nat) (a_arcs : Nat) (m_bestSum : Int32) (m_nearest : Int32) (m_nearestTown : Int32) (a_there : Nat) (a_backAt : Nat) (a_sorted : Nat) (a_parts : Nat) (m_seed1 : Int32) (m_darkNow : Int32) : cI l g yX11_isNot cX11_isNot 2 (some .boolean) 0 0 0 0 [.ref h0, .int p0] [(cO11_i1r1i10r1i2r5i2r12i3r4i2 h0 m_thrown a_tape m_taped m_size m_at m_end m_token m_whole m_nameSize m_fault m_place m_trouble a_letters m_failed m_hasHouse a_r a_fresh a_st a_undone a_kept m_undos m_images a_from a_begin a_motor a_change a_startFrame a_changeFrame a_lostAt a_blackAt a_slips a_leftArc a_died a_arcs m_bestSum m_nearest m_nearestTown a_there a_backAt a_sorted a_parts m_seed1 m_darkNow)] (fun r w => ∃ (m_trouble2 : Int32), IV r 0 0 ∧ (R_m_isNotX p0 m_trouble2 r) ∧ w = [(cO11_i1r1i10r1i2r5i2r12i3r4i2 h0 m_thrown a_tape m_taped m_size m_at m_end m_token m_whole m_nameSize m_fault m_place m_trouble2 a_letters m_failed m_hasHouse a_r a_fresh a_st a_undone a_kept m_undos m_images a_from a_begin a_motor a_change a_startFrame a_changeFrame a_lostAt a_blackAt a_slips a_leftArc a_died a_arcs m_bestSum m_nearest m_nearestTown a_there a_backAt a_sorted a_parts m_seed1 m_darkNow)]) := by
  refine cI.of (by decide) (Nat.le_of_ble_eq_true rfl) ?_
  intro p e s m args below meth c A X hr hi
  refine k_lveq [(0, .ref h0), (1, .int p0)] rfl ?_
  refine k_aload_n X dX11_isNot_k0.1.1 0 rfl ?_
  refine k_iload_n X dX11_isNot_k0.1.2 1 rfl ?_
  refine k_put (ci := 11) [(cO11_i1r1i10r1i2r5i2r12i3r4i2 h0 m_thrown a_tape m_taped m_size m_at m_end m_token m_whole m_nameSize m_fault m_place p0 a_letters m_failed m_hasHouse a_r a_fresh a_st a_undone a_kept m_undos m_images a_from a_begin a_motor a_change a_startFrame a_changeFrame a_lostAt a_blackAt a_slips a_leftArc a_died a_arcs m_bestSum m_nearest m_nearestTown a_there a_backAt a_sorted a_parts m_seed1 m_darkNow)] X inlX11 rfl tyX11_ok nmX11 11 (nlt_e rfl) rfl dX11_isNot_k0.2.1 mw481 0 rfl rfl rfl (Nat.le_of_ble_eq_true rfl) rfl ?_
  refine k_iconst (v := 0) X dX11_isNot_k0.2.2.1 ic_0 ?_
  exact k_zret X hr (by first | rfl | decide) dX11_isNot_k0.2.2.2 (Nat.le_of_ble_eq_true rfl) (Nat.le_of_ble_eq_true rfl) [0] (vnd_e rfl) rfl rfl ⟨p0, (iv_w iq_0_0_0 (zle_e rfl) (zle_e rfl)), ⟨rfl, rfl⟩, rfl⟩


set_option maxHeartbeats 4000000 in
set_option maxRecDepth 100000 in
theorem m_hasBitX (l : Launch) (g : Gx) (p0 : Int32) (p1 : Int32) : cI l g yX11_hasBit cX11_hasBit 2 (some .boolean) 0 0 0 0 [.int p0, .int p1] [] (fun r w => IV r 0 1 ∧ (R_m_hasBitX p0 p1 r) ∧ w = []) := by
  refine cI.of (by decide) (Nat.le_of_ble_eq_true rfl) ?_
  intro p e s m args below meth c A X hr hi
  refine k_lveq [(0, .int p0), (1, .int p1)] rfl ?_
  refine k_iload_n X dX11_hasBit_k0.1.1.1 0 rfl ?_
  refine k_iload_n X dX11_hasBit_k0.1.1.2 1 rfl ?_
  refine k_ishr X dX11_hasBit_k0.1.2.1 ?_
  refine k_nm (fun z_1 ez_1 => ?_)
  refine k_iconst (v := 1) X dX11_hasBit_k0.1.2.2.1 ic_1 ?_
  refine k_iand X dX11_hasBit_k0.1.2.2.2 ?_
  refine k_nm (fun z_2 ez_2 => ?_)
  have iv_3 : IV z_2 0 1 := iv_and (ez_2.trans (Int32.and_comm _ _)) iq_1_1_1 (by decide)
  refine k_iconst (v := 1) X dX11_hasBit_k0.2.1.1 ic_1 ?_
  refine k_ic_ne 13 X dX11_hasBit_k0.2.1.2.1 (jp_e rfl) (fun h_4 => ?_) (fun h_4 => ?_)
  · skip
    have iv_5 : IV z_2 0 0 := iv_neH h_4 iv_3 iq_1_1_1 (by decide)
    refine k_iconst (v := 0) X dX11_hasBit_k0.2.2.2.1 ic_0 ?_
    exact k_zret X hr (by first | rfl | decide) dX11_hasBit_k0.2.2.2.2 (Nat.le_of_ble_eq_true rfl) (Nat.le_of_ble_eq_true rfl) [] (vnd_e rfl) rfl rfl ⟨(iv_w iq_0_0_0 (zle_e rfl) (zle_e rfl)), ⟨z_1, ez_1, ⟨z_2, ez_2, (Or.inl ⟨h_4, rfl⟩)⟩⟩, rfl⟩
  · skip
    have iv_6 : IV z_2 1 1 := iv_meet iv_3 (iv_e h_4 iq_1_1_1) (zle_o rfl) (zle_o rfl)
    refine k_iconst (v := 1) X dX11_hasBit_k0.2.1.2.2 ic_1 ?_
    refine k_goto 14 X dX11_hasBit_k0.2.2.1 (jp_e rfl) ?_
    exact k_zret X hr (by first | rfl | decide) dX11_hasBit_k0.2.2.2.2 (Nat.le_of_ble_eq_true rfl) (Nat.le_of_ble_eq_true rfl) [] (vnd_e rfl) rfl rfl ⟨(iv_w iq_1_1_1 (zle_e rfl) (zle_e rfl)), ⟨z_1, ez_1, ⟨z_2, ez_2, (Or.inr ⟨h_4, rfl⟩)⟩⟩, rfl⟩


set_option maxHeartbeats 4000000 in
set_option maxRecDepth 100000 in
theorem m_mostX (l : Launch) (g : Gx) (p0 : Int32) (p1 : Int32) : cI l g yX11_most cX11_most 2 (some .int) 0 0 0 0 [.int p0, .int p1] [] (fun r w => (R_m_mostX p0 p1 r) ∧ w = []) := by
  refine cI.of (by decide) (Nat.le_of_ble_eq_true rfl) ?_
  intro p e s m args below meth c A X hr hi
  refine k_lveq [(0, .int p0), (1, .int p1)] rfl ?_
  refine k_iload_n X dX11_most_k0.1.1 0 rfl ?_
  refine k_iload_n X dX11_most_k0.1.2.1 1 rfl ?_
  refine k_ic_le 9 X dX11_most_k0.1.2.2 (jp_e rfl) (fun h_1 => ?_) (fun h_1 => ?_)
  · skip
    have j_2 : p0.toInt ≤ p1.toInt := iv_le h_1
    refine k_iload_n X dX11_most_k0.2.2.1 1 rfl ?_
    exact k_iret X hr dX11_most_k0.2.2.2 (Nat.le_of_ble_eq_true rfl) (Nat.le_of_ble_eq_true rfl) [] (vnd_e rfl) rfl rfl ⟨(Or.inl ⟨h_1, rfl⟩), rfl⟩
  · skip
    have j_3 : p1.toInt < p0.toInt := iv_nle h_1
    have iv_4 : IV p1 (-2147483648) 2147483646 := iv_ltL (iv_nle h_1) (iv_any p1) (iv_any p0) (zle_e rfl)
    have iv_5 : IV p0 (-2147483647) 2147483647 := iv_ltR (iv_nle h_1) (iv_any p1) (iv_any p0) (zle_e rfl)
    refine k_iload_n X dX11_most_k0.2.1.1 0 rfl ?_
    refine k_goto 10 X dX11_most_k0.2.1.2 (jp_e rfl) ?_
    exact k_iret X hr dX11_most_k0.2.2.2 (Nat.le_of_ble_eq_true rfl) (Nat.le_of_ble_eq_true rfl) [] (vnd_e rfl) rfl rfl ⟨(Or.inr ⟨h_1, rfl⟩), rfl⟩


set_option maxHeartbeats 4000000 in
set_option maxRecDepth 100000 in
theorem m_leastX (l : Launch) (g : Gx) (p0 : Int32) (p1 : Int32) : cI l g yX11_least cX11_least 2 (some .int) 0 0 0 0 [.int p0, .int p1] [] (fun r w => (R_m_leastX p0 p1 r) ∧ w = []) := by
  refine cI.of (by decide) (Nat.le_of_ble_eq_true rfl) ?_
  intro p e s m args below meth c A X hr hi
  refine k_lveq [(0, .int p0), (1, .int p1)] rfl ?_
  refine k_iload_n X dX11_least_k0.1.1 0 rfl ?_
  refine k_iload_n X dX11_least_k0.1.2.1 1 rfl ?_
  refine k_ic_ge 9 X dX11_least_k0.1.2.2 (jp_e rfl) (fun h_1 => ?_) (fun h_1 => ?_)
  · skip
    have j_2 : p1.toInt ≤ p0.toInt := iv_le h_1
    refine k_iload_n X dX11_least_k0.2.2.1 1 rfl ?_
    exact k_iret X hr dX11_least_k0.2.2.2 (Nat.le_of_ble_eq_true rfl) (Nat.le_of_ble_eq_true rfl) [] (vnd_e rfl) rfl rfl ⟨(Or.inl ⟨h_1, rfl⟩), rfl⟩
  · skip
    have j_3 : p0.toInt < p1.toInt := iv_nle h_1
    have iv_4 : IV p0 (-2147483648) 2147483646 := iv_ltL (iv_nle h_1) (iv_any p0) (iv_any p1) (zle_e rfl)
    have iv_5 : IV p1 (-2147483647) 2147483647 := iv_ltR (iv_nle h_1) (iv_any p0) (iv_any p1) (zle_e rfl)
    refine k_iload_n X dX11_least_k0.2.1.1 0 rfl ?_
    refine k_goto 10 X dX11_least_k0.2.1.2 (jp_e rfl) ?_
    exact k_iret X hr dX11_least_k0.2.2.2 (Nat.le_of_ble_eq_true rfl) (Nat.le_of_ble_eq_true rfl) [] (vnd_e rfl) rfl rfl ⟨(Or.inr ⟨h_1, rfl⟩), rfl⟩


set_option maxHeartbeats 4000000 in
set_option maxRecDepth 100000 in
theorem m_shiftedX (l : Launch) (g : Gx) (p0 : Int32) (p1 : Int32) (p2 : Int32) : cI l g yX11_shifted cX11_shifted 4 (some .int) 1 21 0 0 [.int p0, .int p1, .int p2] [] (fun r w => (R_m_shiftedX p0 p1 p2 r) ∧ w = []) := by
  refine cI.of (by decide) (Nat.le_of_ble_eq_true rfl) ?_
  intro p e s m args below meth c A X hr hi
  refine k_lveq [(0, .int p0), (1, .int p1), (2, .int p2)] rfl ?_
  refine k_iload_n X dX11_shifted_k0.1.1.1.1 0 rfl ?_
  refine k_iload_n X dX11_shifted_k0.1.1.1.2 1 rfl ?_
  refine k_ic_lt 15 X dX11_shifted_k0.1.1.2.1 (jp_e rfl) (fun h_1 => ?_) (fun h_1 => ?_)
  · skip
    have j_2 : p0.toInt < p1.toInt := iv_lt h_1
    have iv_3 : IV p0 (-2147483648) 2147483646 := iv_ltL (iv_lt h_1) (iv_any p0) (iv_any p1) (zle_e rfl)
    have iv_4 : IV p1 (-2147483647) 2147483647 := iv_ltR (iv_lt h_1) (iv_any p0) (iv_any p1) (zle_e rfl)
    refine k_iload_n X dX11_shifted_k0.2.1.1.2 0 rfl ?_
    refine k_istore_n [(3, .int p0), (0, .int p0), (1, .int p1), (2, .int p2)] X dX11_shifted_k0.2.1.2.1 (nlt_e rfl) rfl ?_
    refine k_iload_n X dX11_shifted_k0.2.1.2.2 0 rfl ?_
    refine k_iload_n X dX11_shifted_k0.2.2.1.1 3 rfl ?_
    refine k_iconst (v := 1) X dX11_shifted_k0.2.2.1.2 ic_1 ?_
    refine k_isub X dX11_shifted_k0.2.2.2.1 ?_
    refine k_nm (fun z_5 ez_5 => ?_)
    refine k_callSI (n := 2) (As := [.int p0, .int z_5]) (st := []) X [] [] [] [] (m_leastX l g p0 z_5) dX11_shifted_k0.2.2.2.2 mw839 mw840 mw5 mw841 yk_yX11_least_2 rfl (Nat.le_of_ble_eq_true rfl) (Nat.le_of_ble_eq_true rfl) (Nat.le_of_ble_eq_true rfl) (Nat.le_of_ble_eq_true rfl) (Nat.le_of_ble_eq_true rfl) rfl rfl (vnd_e rfl) rfl (vnd_e rfl) (dsj_e rfl) ?_
    rintro r_7 w ⟨hq_8, rfl⟩
    refine k_ws [] rfl ?_
    exact k_iret X hr dX11_shifted_k1 (Nat.le_of_ble_eq_true rfl) (Nat.le_of_ble_eq_true rfl) [] (vnd_e rfl) rfl rfl ⟨(Or.inl ⟨h_1, ⟨z_5, ez_5, ⟨r_7, hq_8, rfl⟩⟩⟩), rfl⟩
  · skip
    have j_9 : p1.toInt ≤ p0.toInt := iv_nlt h_1
    refine k_iload_n X dX11_shifted_k0.1.1.2.2 0 rfl ?_
    refine k_iconst (v := 2) X dX11_shifted_k0.1.2.1.1 ic_2 ?_
    refine k_isub X dX11_shifted_k0.1.2.1.2 ?_
    refine k_nm (fun z_10 ez_10 => ?_)
    refine k_iconst (v := 0) X dX11_shifted_k0.1.2.2.1 ic_0 ?_
    refine k_callSI (n := 2) (As := [.int z_10, .int 0]) (st := []) X [] [] [] [] (m_mostX l g z_10 0) dX11_shifted_k0.1.2.2.2 mw842 mw843 mw5 mw844 yk_yX11_most_2 rfl (Nat.le_of_ble_eq_true rfl) (Nat.le_of_ble_eq_true rfl) (Nat.le_of_ble_eq_true rfl) (Nat.le_of_ble_eq_true rfl) (Nat.le_of_ble_eq_true rfl) rfl rfl (vnd_e rfl) rfl (vnd_e rfl) (dsj_e rfl) ?_
    rintro r_12 w ⟨hq_13, rfl⟩
    refine k_ws [] rfl ?_
    refine k_goto 16 X dX11_shifted_k0.2.1.1.1 (jp_e rfl) ?_
    refine k_istore_n [(3, .int r_12), (0, .int p0), (1, .int p1), (2, .int p2)] X dX11_shifted_k0.2.1.2.1 (nlt_e rfl) rfl ?_
    refine k_iload_n X dX11_shifted_k0.2.1.2.2 0 rfl ?_
    refine k_iload_n X dX11_shifted_k0.2.2.1.1 3 rfl ?_
    refine k_iconst (v := 1) X dX11_shifted_k0.2.2.1.2 ic_1 ?_
    refine k_isub X dX11_shifted_k0.2.2.2.1 ?_
    refine k_nm (fun z_14 ez_14 => ?_)
    refine k_callSI (n := 2) (As := [.int r_12, .int z_14]) (st := []) X [] [] [] [] (m_leastX l g r_12 z_14) dX11_shifted_k0.2.2.2.2 mw839 mw840 mw5 mw841 yk_yX11_least_2 rfl (Nat.le_of_ble_eq_true rfl) (Nat.le_of_ble_eq_true rfl) (Nat.le_of_ble_eq_true rfl) (Nat.le_of_ble_eq_true rfl) (Nat.le_of_ble_eq_true rfl) rfl rfl (vnd_e rfl) rfl (vnd_e rfl) (dsj_e rfl) ?_
    rintro r_16 w ⟨hq_17, rfl⟩
    refine k_ws [] rfl ?_
    exact k_iret X hr dX11_shifted_k1 (Nat.le_of_ble_eq_true rfl) (Nat.le_of_ble_eq_true rfl) [] (vnd_e rfl) rfl rfl ⟨(Or.inr ⟨h_1, ⟨z_10, ez_10, ⟨r_12, hq_13, ⟨z_14, ez_14, ⟨r_16, hq_17, rfl⟩⟩⟩⟩⟩), rfl⟩


set_option maxHeartbeats 4000000 in
set_option maxRecDepth 100000 in
theorem m_isPlaceX (l : Launch) (g : Gx) (h0 : Nat) (p0 : Int32) (m_thrown : Int32) (a_tape : Nat) (m_taped : Int32) (m_size : Int32) (m_at : Int32) (m_end : Int32) (m_token : Int32) (m_whole : Int32) (m_nameSize : Int32) (m_fault : Int32) (m_place : Int32) (m_trouble : Int32) (a_letters : Nat) (m_failed : Int32) (m_hasHouse : Int32) (a_r : Nat) (a_fresh : Nat) (a_st : Nat) (a_undone : Nat) (a_kept : Nat) (m_undos : Int32) (m_images : Int32) (a_from : Nat) (a_begin : Nat) (a_motor : Nat) (a_change : Nat) (a_startFrame : Nat) (a_changeFrame : Nat) (a_lostAt : Nat) (a_blackAt : Nat) (a_slips : Nat) (a_leftArc : Nat) (a_died : Nat) (a_arcs : Nat) (m_bestSum : Int32) (m_nearest : Int32) (m_nearestTown : Int32) (a_there : Nat) (a_backAt : Nat) (a_sorted : Nat) (a_parts : Nat) (m_seed1 : Int32) (m_darkNow : Int32) (d_r : Nat → Int32) (hv_m_hasHouse : IV m_hasHouse 0 1) (hp_d_r : RInv d_r) : cI l g yX11_isPlace cX11_isPlace 2 (some .boolean) 1 22 0 0 [.ref h0, .int p0] [(cO11_i1r1i10r1i2r5i2r12i3r4i2 h0 m_thrown a_tape m_taped m_size m_at m_end m_token m_whole m_nameSize m_fault m_place m_trouble a_letters m_failed m_hasHouse a_r a_fresh a_st a_undone a_kept m_undos m_images a_from a_begin a_motor a_change a_startFrame a_changeFrame a_lostAt a_blackAt a_slips a_leftArc a_died a_arcs m_bestSum m_nearest m_nearestTown a_there a_backAt a_sorted a_parts m_seed1 m_darkNow), (cAI g a_r 311 d_r)] (fun r w => IV r 0 1 ∧ (R_m_isPlaceX p0 m_hasHouse d_r r) ∧ (r = 0 ∨ (IV p0 0 7 ∧ p0.toInt < (d_r 12).toInt)) ∧ w = [(cO11_i1r1i10r1i2r5i2r12i3r4i2 h0 m_thrown a_tape m_taped m_size m_at m_end m_token m_whole m_nameSize m_fault m_place m_trouble a_letters m_failed m_hasHouse a_r a_fresh a_st a_undone a_kept m_undos m_images a_from a_begin a_motor a_change a_startFrame a_changeFrame a_lostAt a_blackAt a_slips a_leftArc a_died a_arcs m_bestSum m_nearest m_nearestTown a_there a_backAt a_sorted a_parts m_seed1 m_darkNow), (cAI g a_r 311 d_r)]) := by
  refine cI.of (by decide) (Nat.le_of_ble_eq_true rfl) ?_
  intro p e s m args below meth c A X hr hi
  refine k_lveq [(0, .ref h0), (1, .int p0)] rfl ?_
  refine k_aload_n X dX11_isPlace_k0.1.1.1.1 0 rfl ?_
  refine k_get (ci := 11) X inlX11 rfl 14 (nlt_e rfl) dX11_isPlace_k0.1.1.1.2 mw474 0 rfl rfl ?_
  refine k_if_eq 28 X dX11_isPlace_k0.1.1.2.1 (jp_e rfl) (fun h_1 => ?_) (fun h_1 => ?_)
  · skip
    have iv_2 : IV m_hasHouse 0 0 := iv_meet hv_m_hasHouse (iv_e h_1 iq_0_0_0) (zle_o rfl) (zle_o rfl)
    refine k_iconst (v := 0) X dX11_isPlace_k0.2.2.2.2 ic_0 ?_
    exact k_zret X hr (by first | rfl | decide) dX11_isPlace_k1 (Nat.le_of_ble_eq_true rfl) (Nat.le_of_ble_eq_true rfl) [0, 1] (vnd_e rfl) rfl rfl ⟨(iv_w iq_0_0_0 (zle_e rfl) (zle_e rfl)), (Or.inl ⟨h_1, rfl⟩), (Or.inl (iv_eq iq_0_0_0 iq_0_0_0)), rfl⟩
  · skip
    have iv_3 : IV m_hasHouse 1 1 := iv_neL h_1 hv_m_hasHouse iq_0_0_0 (zle_e rfl)
    refine k_iload_n X dX11_isPlace_k0.1.1.2.2 1 rfl ?_
    refine k_iconst (v := 0) X dX11_isPlace_k0.1.2.1.1 ic_0 ?_
    refine k_aload_n X dX11_isPlace_k0.1.2.1.2 0 rfl ?_
    refine k_get (ci := 11) X inlX11 rfl 15 (nlt_e rfl) dX11_isPlace_k0.1.2.2.1 mw170 0 rfl rfl ?_
    refine k_bipush (v := 12) X dX11_isPlace_k0.1.2.2.2 bi_12 ?_
    refine k_iald X dX11_isPlace_k0.2.1.1.1 1 rfl (by unfold vp_in; decide) ?_
    refine k_nm (fun z_4 ez_4 => ?_)
    have i_5 : z_4.toInt = (d_r 12).toInt := by rw [ez_4]; rfl
    have iv_6 : IV z_4 0 8 := rb_12 ez_4 hp_d_r
    refine k_iconst (v := 1) X dX11_isPlace_k0.2.1.1.2 ic_1 ?_
    refine k_isub X dX11_isPlace_k0.2.1.2.1 ?_
    refine k_nm (fun z_7 ez_7 => ?_)
    have i_8 : z_7.toInt = z_4.toInt - 1 := in_sub ez_7 iv_6 iq_1_1_1 (zle_e rfl) (zle_e rfl)
    have iv_9 : IV z_7 (-1) 7 := iz5 i_8 iv_6 (zle_e rfl) (zle_e rfl)
    refine k_callSI (n := 3) (As := [.int p0, .int 0, .int z_7]) (st := []) X [] [(cO11_i1r1i10r1i2r5i2r12i3r4i2 h0 m_thrown a_tape m_taped m_size m_at m_end m_token m_whole m_nameSize m_fault m_place m_trouble a_letters m_failed m_hasHouse a_r a_fresh a_st a_undone a_kept m_undos m_images a_from a_begin a_motor a_change a_startFrame a_changeFrame a_lostAt a_blackAt a_slips a_leftArc a_died a_arcs m_bestSum m_nearest m_nearestTown a_there a_backAt a_sorted a_parts m_seed1 m_darkNow), (cAI g a_r 311 d_r)] [] [0, 1] (m_inX l g p0 0 z_7) dX11_isPlace_k0.2.1.2.2 mw482 mw483 mw5 mw484 yk_yX11_in_3 rfl (Nat.le_of_ble_eq_true rfl) (Nat.le_of_ble_eq_true rfl) (Nat.le_of_ble_eq_true rfl) (Nat.le_of_ble_eq_true rfl) (Nat.le_of_ble_eq_true rfl) rfl rfl (vnd_e rfl) rfl (vnd_e rfl) (dsj_e rfl) ?_
    rintro r_10 w ⟨iv_11, hq_12, hk_13, hk_14, rfl⟩
    refine k_ws [(cO11_i1r1i10r1i2r5i2r12i3r4i2 h0 m_thrown a_tape m_taped m_size m_at m_end m_token m_whole m_nameSize m_fault m_place m_trouble a_letters m_failed m_hasHouse a_r a_fresh a_st a_undone a_kept m_undos m_images a_from a_begin a_motor a_change a_startFrame a_changeFrame a_lostAt a_blackAt a_slips a_leftArc a_died a_arcs m_bestSum m_nearest m_nearestTown a_there a_backAt a_sorted a_parts m_seed1 m_darkNow), (cAI g a_r 311 d_r)] rfl ?_
    refine k_if_eq 28 X dX11_isPlace_k0.2.2.1.1 (jp_e rfl) (fun h_15 => ?_) (fun h_15 => ?_)
    · skip
      have iv_16 : IV r_10 0 0 := iv_meet iv_11 (iv_e h_15 iq_0_0_0) (zle_o rfl) (zle_o rfl)
      have hc_17 := hk_14 (iv_eq iv_16 iq_0_0_0)
      have j_18 : p0.toInt < 0 ∨ z_7.toInt < p0.toInt := hc_17
      refine k_iconst (v := 0) X dX11_isPlace_k0.2.2.2.2 ic_0 ?_
      exact k_zret X hr (by first | rfl | decide) dX11_isPlace_k1 (Nat.le_of_ble_eq_true rfl) (Nat.le_of_ble_eq_true rfl) [0, 1] (vnd_e rfl) rfl rfl ⟨(iv_w iq_0_0_0 (zle_e rfl) (zle_e rfl)), (Or.inr ⟨h_1, ⟨z_4, ez_4, ⟨z_7, ez_7, ⟨r_10, hq_12, (Or.inl ⟨h_15, rfl⟩)⟩⟩⟩⟩), (Or.inl (iv_eq iq_0_0_0 iq_0_0_0)), rfl⟩
    · skip
      have hc_19 := hk_13.resolve_left h_15
      have j_20 : 0 ≤ p0.toInt := hc_19.1
      have iv_21 : IV p0 0 2147483647 := iv_leR hc_19.1 iq_0_0_0 (iv_any p0) (zle_e rfl)
      have j_22 : p0.toInt ≤ z_7.toInt := hc_19.2
      have iv_23 : IV p0 0 7 := iv_leL hc_19.2 iv_21 iv_9 (zle_e rfl)
      have iv_24 : IV z_7 0 7 := iv_leR hc_19.2 iv_23 iv_9 (zle_e rfl)
      have iv_25 : IV z_4 1 8 := by have := iv_6; have := iv_24; rw [IV]; omega
      have iv_26 : IV r_10 1 1 := iv_neL h_15 iv_11 iq_0_0_0 (zle_e rfl)
      refine k_iconst (v := 1) X dX11_isPlace_k0.2.2.1.2 ic_1 ?_
      refine k_goto 29 X dX11_isPlace_k0.2.2.2.1 (jp_e rfl) ?_
      exact k_zret X hr (by first | rfl | decide) dX11_isPlace_k1 (Nat.le_of_ble_eq_true rfl) (Nat.le_of_ble_eq_true rfl) [0, 1] (vnd_e rfl) rfl rfl ⟨(iv_w iq_1_1_1 (zle_e rfl) (zle_e rfl)), (Or.inr ⟨h_1, ⟨z_4, ez_4, ⟨z_7, ez_7, ⟨r_10, hq_12, (Or.inr ⟨h_15, rfl⟩)⟩⟩⟩⟩), (Or.inr ⟨(iv_w iv_23 (zle_e rfl) (zle_e rfl)), (by omega)⟩), rfl⟩


set_option maxHeartbeats 4000000 in
set_option maxRecDepth 100000 in
theorem m_isManX (l : Launch) (g : Gx) (h0 : Nat) (p0 : Int32) (m_thrown : Int32) (a_tape : Nat) (m_taped : Int32) (m_size : Int32) (m_at : Int32) (m_end : Int32) (m_token : Int32) (m_whole : Int32) (m_nameSize : Int32) (m_fault : Int32) (m_place : Int32) (m_trouble : Int32) (a_letters : Nat) (m_failed : Int32) (m_hasHouse : Int32) (a_r : Nat) (a_fresh : Nat) (a_st : Nat) (a_undone : Nat) (a_kept : Nat) (m_undos : Int32) (m_images : Int32) (a_from : Nat) (a_begin : Nat) (a_motor : Nat) (a_change : Nat) (a_startFrame : Nat) (a_changeFrame : Nat) (a_lostAt : Nat) (a_blackAt : Nat) (a_slips : Nat) (a_leftArc : Nat) (a_died : Nat) (a_arcs : Nat) (m_bestSum : Int32) (m_nearest : Int32) (m_nearestTown : Int32) (a_there : Nat) (a_backAt : Nat) (a_sorted : Nat) (a_parts : Nat) (m_seed1 : Int32) (m_darkNow : Int32) (d_r : Nat → Int32) (hv_m_hasHouse : IV m_hasHouse 0 1) (hp_d_r : RInv d_r) : cI l g yX11_isMan cX11_isMan 2 (some .boolean) 1 22 0 0 [.ref h0, .int p0] [(cO11_i1r1i10r1i2r5i2r12i3r4i2 h0 m_thrown a_tape m_taped m_size m_at m_end m_token m_whole m_nameSize m_fault m_place m_trouble a_letters m_failed m_hasHouse a_r a_fresh a_st a_undone a_kept m_undos m_images a_from a_begin a_motor a_change a_startFrame a_changeFrame a_lostAt a_blackAt a_slips a_leftArc a_died a_arcs m_bestSum m_nearest m_nearestTown a_there a_backAt a_sorted a_parts m_seed1 m_darkNow), (cAI g a_r 311 d_r)] (fun r w => IV r 0 1 ∧ (R_m_isManX p0 m_hasHouse d_r r) ∧ (r = 0 ∨ (IV p0 0 3)) ∧ w = [(cO11_i1r1i10r1i2r5i2r12i3r4i2 h0 m_thrown a_tape m_taped m_size m_at m_end m_token m_whole m_nameSize m_fault m_place m_trouble a_letters m_failed m_hasHouse a_r a_fresh a_st a_undone a_kept m_undos m_images a_from a_begin a_motor a_change a_startFrame a_changeFrame a_lostAt a_blackAt a_slips a_leftArc a_died a_arcs m_bestSum m_nearest m_nearestTown a_there a_backAt a_sorted a_parts m_seed1 m_darkNow), (cAI g a_r 311 d_r)]) := by
  refine cI.of (by decide) (Nat.le_of_ble_eq_true rfl) ?_
  intro p e s m args below meth c A X hr hi
  refine k_lveq [(0, .ref h0), (1, .int p0)] rfl ?_
  refine k_aload_n X dX11_isMan_k0.1.1.1.1 0 rfl ?_
  refine k_get (ci := 11) X inlX11 rfl 14 (nlt_e rfl) dX11_isMan_k0.1.1.1.2 mw474 0 rfl rfl ?_
  refine k_if_eq 28 X dX11_isMan_k0.1.1.2.1 (jp_e rfl) (fun h_1 => ?_) (fun h_1 => ?_)
  · skip
    have iv_2 : IV m_hasHouse 0 0 := iv_meet hv_m_hasHouse (iv_e h_1 iq_0_0_0) (zle_o rfl) (zle_o rfl)
    refine k_iconst (v := 0) X dX11_isMan_k0.2.2.2.2 ic_0 ?_
    exact k_zret X hr (by first | rfl | decide) dX11_isMan_k1 (Nat.le_of_ble_eq_true rfl) (Nat.le_of_ble_eq_true rfl) [0, 1] (vnd_e rfl) rfl rfl ⟨(iv_w iq_0_0_0 (zle_e rfl) (zle_e rfl)), (Or.inl ⟨h_1, rfl⟩), (Or.inl (iv_eq iq_0_0_0 iq_0_0_0)), rfl⟩
  · skip
    have iv_3 : IV m_hasHouse 1 1 := iv_neL h_1 hv_m_hasHouse iq_0_0_0 (zle_e rfl)
    refine k_iload_n X dX11_isMan_k0.1.1.2.2 1 rfl ?_
    refine k_iconst (v := 0) X dX11_isMan_k0.1.2.1.1 ic_0 ?_
    refine k_aload_n X dX11_isMan_k0.1.2.1.2 0 rfl ?_
    refine k_get (ci := 11) X inlX11 rfl 15 (nlt_e rfl) dX11_isMan_k0.1.2.2.1 mw170 0 rfl rfl ?_
    refine k_bipush (v := 11) X dX11_isMan_k0.1.2.2.2 bi_11 ?_
    refine k_iald X dX11_isMan_k0.2.1.1.1 1 rfl (by unfold vp_in; decide) ?_
    refine k_nm (fun z_4 ez_4 => ?_)
    have i_5 : z_4.toInt = (d_r 11).toInt := by rw [ez_4]; rfl
    have iv_6 : IV z_4 0 4 := rb_11 ez_4 hp_d_r
    refine k_iconst (v := 1) X dX11_isMan_k0.2.1.1.2 ic_1 ?_
    refine k_isub X dX11_isMan_k0.2.1.2.1 ?_
    refine k_nm (fun z_7 ez_7 => ?_)
    have i_8 : z_7.toInt = z_4.toInt - 1 := in_sub ez_7 iv_6 iq_1_1_1 (zle_e rfl) (zle_e rfl)
    have iv_9 : IV z_7 (-1) 3 := iz5 i_8 iv_6 (zle_e rfl) (zle_e rfl)
    refine k_callSI (n := 3) (As := [.int p0, .int 0, .int z_7]) (st := []) X [] [(cO11_i1r1i10r1i2r5i2r12i3r4i2 h0 m_thrown a_tape m_taped m_size m_at m_end m_token m_whole m_nameSize m_fault m_place m_trouble a_letters m_failed m_hasHouse a_r a_fresh a_st a_undone a_kept m_undos m_images a_from a_begin a_motor a_change a_startFrame a_changeFrame a_lostAt a_blackAt a_slips a_leftArc a_died a_arcs m_bestSum m_nearest m_nearestTown a_there a_backAt a_sorted a_parts m_seed1 m_darkNow), (cAI g a_r 311 d_r)] [] [0, 1] (m_inX l g p0 0 z_7) dX11_isMan_k0.2.1.2.2 mw482 mw483 mw5 mw484 yk_yX11_in_3 rfl (Nat.le_of_ble_eq_true rfl) (Nat.le_of_ble_eq_true rfl) (Nat.le_of_ble_eq_true rfl) (Nat.le_of_ble_eq_true rfl) (Nat.le_of_ble_eq_true rfl) rfl rfl (vnd_e rfl) rfl (vnd_e rfl) (dsj_e rfl) ?_
    rintro r_10 w ⟨iv_11, hq_12, hk_13, hk_14, rfl⟩
    refine k_ws [(cO11_i1r1i10r1i2r5i2r12i3r4i2 h0 m_thrown a_tape m_taped m_size m_at m_end m_token m_whole m_nameSize m_fault m_place m_trouble a_letters m_failed m_hasHouse a_r a_fresh a_st a_undone a_kept m_undos m_images a_from a_begin a_motor a_change a_startFrame a_changeFrame a_lostAt a_blackAt a_slips a_leftArc a_died a_arcs m_bestSum m_nearest m_nearestTown a_there a_backAt a_sorted a_parts m_seed1 m_darkNow), (cAI g a_r 311 d_r)] rfl ?_
    refine k_if_eq 28 X dX11_isMan_k0.2.2.1.1 (jp_e rfl) (fun h_15 => ?_) (fun h_15 => ?_)
    · skip
      have iv_16 : IV r_10 0 0 := iv_meet iv_11 (iv_e h_15 iq_0_0_0) (zle_o rfl) (zle_o rfl)
      have hc_17 := hk_14 (iv_eq iv_16 iq_0_0_0)
      have j_18 : p0.toInt < 0 ∨ z_7.toInt < p0.toInt := hc_17
      refine k_iconst (v := 0) X dX11_isMan_k0.2.2.2.2 ic_0 ?_
      exact k_zret X hr (by first | rfl | decide) dX11_isMan_k1 (Nat.le_of_ble_eq_true rfl) (Nat.le_of_ble_eq_true rfl) [0, 1] (vnd_e rfl) rfl rfl ⟨(iv_w iq_0_0_0 (zle_e rfl) (zle_e rfl)), (Or.inr ⟨h_1, ⟨z_4, ez_4, ⟨z_7, ez_7, ⟨r_10, hq_12, (Or.inl ⟨h_15, rfl⟩)⟩⟩⟩⟩), (Or.inl (iv_eq iq_0_0_0 iq_0_0_0)), rfl⟩
    · skip
      have hc_19 := hk_13.resolve_left h_15
      have j_20 : 0 ≤ p0.toInt := hc_19.1
      have iv_21 : IV p0 0 2147483647 := iv_leR hc_19.1 iq_0_0_0 (iv_any p0) (zle_e rfl)
      have j_22 : p0.toInt ≤ z_7.toInt := hc_19.2
      have iv_23 : IV p0 0 3 := iv_leL hc_19.2 iv_21 iv_9 (zle_e rfl)
      have iv_24 : IV z_7 0 3 := iv_leR hc_19.2 iv_23 iv_9 (zle_e rfl)
      have iv_25 : IV z_4 1 4 := by have := iv_6; have := iv_24; rw [IV]; omega
      have iv_26 : IV r_10 1 1 := iv_neL h_15 iv_11 iq_0_0_0 (zle_e rfl)
      refine k_iconst (v := 1) X dX11_isMan_k0.2.2.1.2 ic_1 ?_
      refine k_goto 29 X dX11_isMan_k0.2.2.2.1 (jp_e rfl) ?_
      exact k_zret X hr (by first | rfl | decide) dX11_isMan_k1 (Nat.le_of_ble_eq_true rfl) (Nat.le_of_ble_eq_true rfl) [0, 1] (vnd_e rfl) rfl rfl ⟨(iv_w iq_1_1_1 (zle_e rfl) (zle_e rfl)), (Or.inr ⟨h_1, ⟨z_4, ez_4, ⟨z_7, ez_7, ⟨r_10, hq_12, (Or.inr ⟨h_15, rfl⟩)⟩⟩⟩⟩), (Or.inr (iv_w iv_23 (zle_e rfl) (zle_e rfl))), rfl⟩


set_option maxHeartbeats 4000000 in
set_option maxRecDepth 100000 in
theorem m_isWeakX (l : Launch) (g : Gx) (h0 : Nat) (p0 : Int32) (m_thrown : Int32) (a_tape : Nat) (m_taped : Int32) (m_size : Int32) (m_at : Int32) (m_end : Int32) (m_token : Int32) (m_whole : Int32) (m_nameSize : Int32) (m_fault : Int32) (m_place : Int32) (m_trouble : Int32) (a_letters : Nat) (m_failed : Int32) (m_hasHouse : Int32) (a_r : Nat) (a_fresh : Nat) (a_st : Nat) (a_undone : Nat) (a_kept : Nat) (m_undos : Int32) (m_images : Int32) (a_from : Nat) (a_begin : Nat) (a_motor : Nat) (a_change : Nat) (a_startFrame : Nat) (a_changeFrame : Nat) (a_lostAt : Nat) (a_blackAt : Nat) (a_slips : Nat) (a_leftArc : Nat) (a_died : Nat) (a_arcs : Nat) (m_bestSum : Int32) (m_nearest : Int32) (m_nearestTown : Int32) (a_there : Nat) (a_backAt : Nat) (a_sorted : Nat) (a_parts : Nat) (m_seed1 : Int32) (m_darkNow : Int32) (d_r : Nat → Int32) (hv_m_hasHouse : IV m_hasHouse 0 1) (hp_d_r : RInv d_r) : cI l g yX11_isWeak cX11_isWeak 2 (some .boolean) 1 22 0 0 [.ref h0, .int p0] [(cO11_i1r1i10r1i2r5i2r12i3r4i2 h0 m_thrown a_tape m_taped m_size m_at m_end m_token m_whole m_nameSize m_fault m_place m_trouble a_letters m_failed m_hasHouse a_r a_fresh a_st a_undone a_kept m_undos m_images a_from a_begin a_motor a_change a_startFrame a_changeFrame a_lostAt a_blackAt a_slips a_leftArc a_died a_arcs m_bestSum m_nearest m_nearestTown a_there a_backAt a_sorted a_parts m_seed1 m_darkNow), (cAI g a_r 311 d_r)] (fun r w => IV r 0 1 ∧ (R_m_isWeakX p0 m_hasHouse d_r r) ∧ (r = 0 ∨ (IV p0 0 5)) ∧ w = [(cO11_i1r1i10r1i2r5i2r12i3r4i2 h0 m_thrown a_tape m_taped m_size m_at m_end m_token m_whole m_nameSize m_fault m_place m_trouble a_letters m_failed m_hasHouse a_r a_fresh a_st a_undone a_kept m_undos m_images a_from a_begin a_motor a_change a_startFrame a_changeFrame a_lostAt a_blackAt a_slips a_leftArc a_died a_arcs m_bestSum m_nearest m_nearestTown a_there a_backAt a_sorted a_parts m_seed1 m_darkNow), (cAI g a_r 311 d_r)]) := by
  refine cI.of (by decide) (Nat.le_of_ble_eq_true rfl) ?_
  intro p e s m args below meth c A X hr hi
  refine k_lveq [(0, .ref h0), (1, .int p0)] rfl ?_
  refine k_aload_n X dX11_isWeak_k0.1.1.1.1 0 rfl ?_
  refine k_get (ci := 11) X inlX11 rfl 14 (nlt_e rfl) dX11_isWeak_k0.1.1.1.2 mw474 0 rfl rfl ?_
  refine k_if_eq 28 X dX11_isWeak_k0.1.1.2.1 (jp_e rfl) (fun h_1 => ?_) (fun h_1 => ?_)
  · skip
    have iv_2 : IV m_hasHouse 0 0 := iv_meet hv_m_hasHouse (iv_e h_1 iq_0_0_0) (zle_o rfl) (zle_o rfl)
    refine k_iconst (v := 0) X dX11_isWeak_k0.2.2.2.2 ic_0 ?_
    exact k_zret X hr (by first | rfl | decide) dX11_isWeak_k1 (Nat.le_of_ble_eq_true rfl) (Nat.le_of_ble_eq_true rfl) [0, 1] (vnd_e rfl) rfl rfl ⟨(iv_w iq_0_0_0 (zle_e rfl) (zle_e rfl)), (Or.inl ⟨h_1, rfl⟩), (Or.inl (iv_eq iq_0_0_0 iq_0_0_0)), rfl⟩
  · skip
    have iv_3 : IV m_hasHouse 1 1 := iv_neL h_1 hv_m_hasHouse iq_0_0_0 (zle_e rfl)
    refine k_iload_n X dX11_isWeak_k0.1.1.2.2 1 rfl ?_
    refine k_iconst (v := 0) X dX11_isWeak_k0.1.2.1.1 ic_0 ?_
    refine k_aload_n X dX11_isWeak_k0.1.2.1.2 0 rfl ?_
    refine k_get (ci := 11) X inlX11 rfl 15 (nlt_e rfl) dX11_isWeak_k0.1.2.2.1 mw170 0 rfl rfl ?_
    refine k_bipush (v := 10) X dX11_isWeak_k0.1.2.2.2 bi_10 ?_
    refine k_iald X dX11_isWeak_k0.2.1.1.1 1 rfl (by unfold vp_in; decide) ?_
    refine k_nm (fun z_4 ez_4 => ?_)
    have i_5 : z_4.toInt = (d_r 10).toInt := by rw [ez_4]; rfl
    have iv_6 : IV z_4 0 6 := rb_10 ez_4 hp_d_r
    refine k_iconst (v := 1) X dX11_isWeak_k0.2.1.1.2 ic_1 ?_
    refine k_isub X dX11_isWeak_k0.2.1.2.1 ?_
    refine k_nm (fun z_7 ez_7 => ?_)
    have i_8 : z_7.toInt = z_4.toInt - 1 := in_sub ez_7 iv_6 iq_1_1_1 (zle_e rfl) (zle_e rfl)
    have iv_9 : IV z_7 (-1) 5 := iz5 i_8 iv_6 (zle_e rfl) (zle_e rfl)
    refine k_callSI (n := 3) (As := [.int p0, .int 0, .int z_7]) (st := []) X [] [(cO11_i1r1i10r1i2r5i2r12i3r4i2 h0 m_thrown a_tape m_taped m_size m_at m_end m_token m_whole m_nameSize m_fault m_place m_trouble a_letters m_failed m_hasHouse a_r a_fresh a_st a_undone a_kept m_undos m_images a_from a_begin a_motor a_change a_startFrame a_changeFrame a_lostAt a_blackAt a_slips a_leftArc a_died a_arcs m_bestSum m_nearest m_nearestTown a_there a_backAt a_sorted a_parts m_seed1 m_darkNow), (cAI g a_r 311 d_r)] [] [0, 1] (m_inX l g p0 0 z_7) dX11_isWeak_k0.2.1.2.2 mw482 mw483 mw5 mw484 yk_yX11_in_3 rfl (Nat.le_of_ble_eq_true rfl) (Nat.le_of_ble_eq_true rfl) (Nat.le_of_ble_eq_true rfl) (Nat.le_of_ble_eq_true rfl) (Nat.le_of_ble_eq_true rfl) rfl rfl (vnd_e rfl) rfl (vnd_e rfl) (dsj_e rfl) ?_
    rintro r_10 w ⟨iv_11, hq_12, hk_13, hk_14, rfl⟩
    refine k_ws [(cO11_i1r1i10r1i2r5i2r12i3r4i2 h0 m_thrown a_tape m_taped m_size m_at m_end m_token m_whole m_nameSize m_fault m_place m_trouble a_letters m_failed m_hasHouse a_r a_fresh a_st a_undone a_kept m_undos m_images a_from a_begin a_motor a_change a_startFrame a_changeFrame a_lostAt a_blackAt a_slips a_leftArc a_died a_arcs m_bestSum m_nearest m_nearestTown a_there a_backAt a_sorted a_parts m_seed1 m_darkNow), (cAI g a_r 311 d_r)] rfl ?_
    refine k_if_eq 28 X dX11_isWeak_k0.2.2.1.1 (jp_e rfl) (fun h_15 => ?_) (fun h_15 => ?_)
    · skip
      have iv_16 : IV r_10 0 0 := iv_meet iv_11 (iv_e h_15 iq_0_0_0) (zle_o rfl) (zle_o rfl)
      have hc_17 := hk_14 (iv_eq iv_16 iq_0_0_0)
      have j_18 : p0.toInt < 0 ∨ z_7.toInt < p0.toInt := hc_17
      refine k_iconst (v := 0) X dX11_isWeak_k0.2.2.2.2 ic_0 ?_
      exact k_zret X hr (by first | rfl | decide) dX11_isWeak_k1 (Nat.le_of_ble_eq_true rfl) (Nat.le_of_ble_eq_true rfl) [0, 1] (vnd_e rfl) rfl rfl ⟨(iv_w iq_0_0_0 (zle_e rfl) (zle_e rfl)), (Or.inr ⟨h_1, ⟨z_4, ez_4, ⟨z_7, ez_7, ⟨r_10, hq_12, (Or.inl ⟨h_15, rfl⟩)⟩⟩⟩⟩), (Or.inl (iv_eq iq_0_0_0 iq_0_0_0)), rfl⟩
    · skip
      have hc_19 := hk_13.resolve_left h_15
      have j_20 : 0 ≤ p0.toInt := hc_19.1
      have iv_21 : IV p0 0 2147483647 := iv_leR hc_19.1 iq_0_0_0 (iv_any p0) (zle_e rfl)
      have j_22 : p0.toInt ≤ z_7.toInt := hc_19.2
      have iv_23 : IV p0 0 5 := iv_leL hc_19.2 iv_21 iv_9 (zle_e rfl)
      have iv_24 : IV z_7 0 5 := iv_leR hc_19.2 iv_23 iv_9 (zle_e rfl)
      have iv_25 : IV z_4 1 6 := by have := iv_6; have := iv_24; rw [IV]; omega
      have iv_26 : IV r_10 1 1 := iv_neL h_15 iv_11 iq_0_0_0 (zle_e rfl)
      refine k_iconst (v := 1) X dX11_isWeak_k0.2.2.1.2 ic_1 ?_
      refine k_goto 29 X dX11_isWeak_k0.2.2.2.1 (jp_e rfl) ?_
      exact k_zret X hr (by first | rfl | decide) dX11_isWeak_k1 (Nat.le_of_ble_eq_true rfl) (Nat.le_of_ble_eq_true rfl) [0, 1] (vnd_e rfl) rfl rfl ⟨(iv_w iq_1_1_1 (zle_e rfl) (zle_e rfl)), (Or.inr ⟨h_1, ⟨z_4, ez_4, ⟨z_7, ez_7, ⟨r_10, hq_12, (Or.inr ⟨h_15, rfl⟩)⟩⟩⟩⟩), (Or.inr (iv_w iv_23 (zle_e rfl) (zle_e rfl))), rfl⟩


set_option maxHeartbeats 4000000 in
set_option maxRecDepth 100000 in
theorem m_isMendedX (l : Launch) (g : Gx) (h0 : Nat) (p0 : Int32) (m_thrown : Int32) (a_tape : Nat) (m_taped : Int32) (m_size : Int32) (m_at : Int32) (m_end : Int32) (m_token : Int32) (m_whole : Int32) (m_nameSize : Int32) (m_fault : Int32) (m_place : Int32) (m_trouble : Int32) (a_letters : Nat) (m_failed : Int32) (m_hasHouse : Int32) (a_r : Nat) (a_fresh : Nat) (a_st : Nat) (a_undone : Nat) (a_kept : Nat) (m_undos : Int32) (m_images : Int32) (a_from : Nat) (a_begin : Nat) (a_motor : Nat) (a_change : Nat) (a_startFrame : Nat) (a_changeFrame : Nat) (a_lostAt : Nat) (a_blackAt : Nat) (a_slips : Nat) (a_leftArc : Nat) (a_died : Nat) (a_arcs : Nat) (m_bestSum : Int32) (m_nearest : Int32) (m_nearestTown : Int32) (a_there : Nat) (a_backAt : Nat) (a_sorted : Nat) (a_parts : Nat) (m_seed1 : Int32) (m_darkNow : Int32) (d_st : Nat → Int32) : cI l g yX11_isMended cX11_isMended 2 (some .boolean) 1 21 0 0 [.ref h0, .int p0] [(cO11_i1r1i10r1i2r5i2r12i3r4i2 h0 m_thrown a_tape m_taped m_size m_at m_end m_token m_whole m_nameSize m_fault m_place m_trouble a_letters m_failed m_hasHouse a_r a_fresh a_st a_undone a_kept m_undos m_images a_from a_begin a_motor a_change a_startFrame a_changeFrame a_lostAt a_blackAt a_slips a_leftArc a_died a_arcs m_bestSum m_nearest m_nearestTown a_there a_backAt a_sorted a_parts m_seed1 m_darkNow), (cAI g a_st 44 d_st)] (fun r w => IV r 0 1 ∧ (R_m_isMendedX p0 d_st r) ∧ w = [(cO11_i1r1i10r1i2r5i2r12i3r4i2 h0 m_thrown a_tape m_taped m_size m_at m_end m_token m_whole m_nameSize m_fault m_place m_trouble a_letters m_failed m_hasHouse a_r a_fresh a_st a_undone a_kept m_undos m_images a_from a_begin a_motor a_change a_startFrame a_changeFrame a_lostAt a_blackAt a_slips a_leftArc a_died a_arcs m_bestSum m_nearest m_nearestTown a_there a_backAt a_sorted a_parts m_seed1 m_darkNow), (cAI g a_st 44 d_st)]) := by
  refine cI.of (by decide) (Nat.le_of_ble_eq_true rfl) ?_
  intro p e s m args below meth c A X hr hi
  refine k_lveq [(0, .ref h0), (1, .int p0)] rfl ?_
  refine k_aload_n X dX11_isMended_k0.1.1 0 rfl ?_
  refine k_get (ci := 11) X inlX11 rfl 17 (nlt_e rfl) dX11_isMended_k0.1.2.1 mw172 0 rfl rfl ?_
  refine k_bipush (v := 43) X dX11_isMended_k0.1.2.2 bi_43 ?_
  refine k_iald X dX11_isMended_k0.2.1.1 1 rfl (by unfold vp_in; decide) ?_
  refine k_nm (fun z_1 ez_1 => ?_)
  refine k_iload_n X dX11_isMended_k0.2.1.2 1 rfl ?_
  refine k_callSI (n := 2) (As := [.int z_1, .int p0]) (st := []) X [] [(cO11_i1r1i10r1i2r5i2r12i3r4i2 h0 m_thrown a_tape m_taped m_size m_at m_end m_token m_whole m_nameSize m_fault m_place m_trouble a_letters m_failed m_hasHouse a_r a_fresh a_st a_undone a_kept m_undos m_images a_from a_begin a_motor a_change a_startFrame a_changeFrame a_lostAt a_blackAt a_slips a_leftArc a_died a_arcs m_bestSum m_nearest m_nearestTown a_there a_backAt a_sorted a_parts m_seed1 m_darkNow), (cAI g a_st 44 d_st)] [] [0, 1] (m_hasBitX l g z_1 p0) dX11_isMended_k0.2.2.1 mw686 mw687 mw5 mw688 yk_yX11_hasBit_2 rfl (Nat.le_of_ble_eq_true rfl) (Nat.le_of_ble_eq_true rfl) (Nat.le_of_ble_eq_true rfl) (Nat.le_of_ble_eq_true rfl) (Nat.le_of_ble_eq_true rfl) rfl rfl (vnd_e rfl) rfl (vnd_e rfl) (dsj_e rfl) ?_
  rintro r_2 w ⟨iv_3, hq_4, rfl⟩
  refine k_ws [(cO11_i1r1i10r1i2r5i2r12i3r4i2 h0 m_thrown a_tape m_taped m_size m_at m_end m_token m_whole m_nameSize m_fault m_place m_trouble a_letters m_failed m_hasHouse a_r a_fresh a_st a_undone a_kept m_undos m_images a_from a_begin a_motor a_change a_startFrame a_changeFrame a_lostAt a_blackAt a_slips a_leftArc a_died a_arcs m_bestSum m_nearest m_nearestTown a_there a_backAt a_sorted a_parts m_seed1 m_darkNow), (cAI g a_st 44 d_st)] rfl ?_
  exact k_zret X hr (zn_b (iv_w iv_3 (zle_e rfl) (zle_e rfl))) dX11_isMended_k0.2.2.2 (Nat.le_of_ble_eq_true rfl) (Nat.le_of_ble_eq_true rfl) [0, 1] (vnd_e rfl) rfl rfl ⟨(iv_w iv_3 (zle_e rfl) (zle_e rfl)), ⟨z_1, ez_1, ⟨r_2, hq_4, rfl⟩⟩, rfl⟩


set_option maxHeartbeats 4000000 in
set_option maxRecDepth 100000 in
theorem m_copyAX (l : Launch) (g : Gx) (fa : Nat) (ta : Nat) (p3 : Int32) (f1 : Nat → Int32) (f2 : Nat → Int32) (hv_p3 : IV p3 0 484) : cV l g yX11_copy cX11_copy 6 0 0 0 0 [.ref fa, .int 0, .ref ta, .int p3, .int 44] [(cAI g fa 44 f1), (cAI g ta 528 f2)] (fun w => ∃ (f3 : Nat → Int32), (R_m_copyAX p3 f1 f2 f3) ∧ w = [(cAI g fa 44 f1), (cAI g ta 528 f3)]) := by
  refine cV.of (by decide) (Nat.le_of_ble_eq_true rfl) ?_
  intro p e s m args below meth c A X hr hi
  refine k_lveq [(0, .ref fa), (1, .int 0), (2, .ref ta), (3, .int p3), (4, .int 44)] rfl ?_
  refine k_iconst (v := 0) X dX11_copy_k0.1.1.1.1 ic_0 ?_
  refine k_istore [(5, .int 0), (0, .ref fa), (1, .int 0), (2, .ref ta), (3, .int p3), (4, .int 44)] X dX11_copy_k0.1.1.1.2 (nlt_e rfl) rfl ?_
  refine (fun hL : ∀ (nn_4 : Nat) (uf_1 : Nat → Int32) (u_2 : Int32), (44 - u_2.toInt).toNat = nn_4 → (IV u_2 0 255) → (∀ (f3 : Nat → Int32), (∃ n_0 : Nat, R_m_copyAX_L0 p3 f1 (fun (uf_1 : Nat → Int32) => f3 = uf_1) n_0 uf_1 u_2) → R_m_copyAX p3 f1 f2 f3) → Wk p l e _ s m args below meth c _ A g _ _ _ [(cAI g fa 44 f1), (cAI g ta 528 uf_1)] [(5, .int u_2), (0, .ref fa), (1, .int 0), (2, .ref ta), (3, .int p3), (4, .int 44)] 3 [] => hL _ f2 0 rfl (iv_w iq_0_0_0 (zle_e rfl) (zle_e rfl)) (fun f3 h => h)) ?_
  refine fun nn_4 => Nat.strongRecOn nn_4 (fun nn_4 ih_6 => ?_)
  intro uf_1 u_2 hm_5 hv_3 KH_0
  refine k_iload X dX11_copy_k0.1.1.2.1 0 rfl ?_
  refine k_iload X dX11_copy_k0.1.1.2.2 5 rfl ?_
  refine k_ic_ge 28 X dX11_copy_k0.1.2.1.1 (jp_e rfl) (fun h_7 => ?_) (fun h_7 => ?_)
  · skip
    have j_8 : 44 ≤ u_2.toInt := iv_le h_7
    have iv_9 : IV u_2 44 255 := iv_leR (iv_le h_7) iq_44_44_44 hv_3 (zle_e rfl)
    exact k_vret X hr dX11_copy_k1.2 (Nat.le_of_ble_eq_true rfl) (Nat.le_of_ble_eq_true rfl) [0, 1] (vnd_e rfl) rfl rfl ⟨uf_1, (KH_0 _ ⟨0 + 1, (Or.inl ⟨h_7, rfl⟩)⟩), rfl⟩
  · skip
    have j_10 : u_2.toInt < 44 := iv_nle h_7
    have iv_11 : IV u_2 0 43 := iv_ltL (iv_nle h_7) hv_3 iq_44_44_44 (zle_e rfl)
    refine k_aload_n X dX11_copy_k0.1.2.1.2 3 rfl ?_
    refine k_iload_n X dX11_copy_k0.1.2.2.1 4 rfl ?_
    refine k_iload X dX11_copy_k0.1.2.2.2 0 rfl ?_
    refine k_iadd X dX11_copy_k0.2.1.1.1 ?_
    refine k_nm (fun z_12 ez_12 => ?_)
    have i_13 : z_12.toInt = p3.toInt + u_2.toInt := in_add ez_12 hv_p3 iv_11 (zle_e rfl) (zle_e rfl)
    have iv_14 : IV z_12 0 527 := by have := hv_p3; have := iv_11; rw [IV, i_13]; omega
    refine k_aload_n X dX11_copy_k0.2.1.1.2 1 rfl ?_
    refine k_iload_n X dX11_copy_k0.2.1.2.1 2 rfl ?_
    refine k_iload X dX11_copy_k0.2.1.2.2 0 rfl ?_
    refine k_iadd X dX11_copy_k0.2.2.1.1 ?_
    refine k_nm (fun z_15 ez_15 => ?_)
    have i_16 : z_15.toInt = 0 + u_2.toInt := in_add ez_15 iq_0_0_0 iv_11 (zle_e rfl) (zle_e rfl)
    have iv_17 : IV z_15 0 43 := iz2 i_16 iv_11 (zle_e rfl) (zle_e rfl)
    refine k_iald X dX11_copy_k0.2.2.1.2 0 rfl (iv_in iv_17 (zle_e rfl) (zle_l rfl)) ?_
    refine k_nm (fun z_18 ez_18 => ?_)
    refine k_iast [(cAI g fa 44 f1), (cAI g ta 528 (upd uf_1 (z_12 : Int32).toNatClampNeg z_18))] X dX11_copy_k0.2.2.2.1 1 rfl (iv_in iv_14 (zle_e rfl) (zle_l rfl)) rfl ?_
    obtain ⟨z_20, ez_20⟩ : ∃ y : Int32, u_2 + Int32.ofInt 1 = y := ⟨_, rfl⟩
    refine k_iinc z_20 [(5, .int z_20), (0, .ref fa), (1, .int 0), (2, .ref ta), (3, .int p3), (4, .int 44)] 0 X dX11_copy_k0.2.2.2.2 rfl ez_20 (nlt_e rfl) rfl ?_
    have i_21 : z_20.toInt = u_2.toInt + 1 := in_inc ez_20 (oin_e rfl) iv_11 (zle_e rfl) (zle_e rfl)
    have iv_22 : IV z_20 1 44 := iz1 i_21 iv_11 (zle_e rfl) (zle_e rfl)
    refine k_goto 3 X dX11_copy_k1.1 (jp_e rfl) ?_
    exact ih_6 _ (by omega) ((upd uf_1 (z_12 : Int32).toNatClampNeg z_18)) z_20 rfl (iv_w iv_22 (zle_e rfl) (zle_e rfl)) (fun f3 h => h.elim (fun n_0 q => (KH_0 _ ⟨n_0 + 1, (Or.inr ⟨h_7, ⟨z_12, ez_12, ⟨z_15, ez_15, ⟨z_18, ez_18, ⟨z_20, ez_20, q⟩⟩⟩⟩⟩)⟩)))


set_option maxHeartbeats 4000000 in
set_option maxRecDepth 100000 in
theorem m_copyBX (l : Launch) (g : Gx) (fa : Nat) (p1 : Int32) (ta : Nat) (f1 : Nat → Int32) (f2 : Nat → Int32) (hv_p1 : IV p1 0 484) : cV l g yX11_copy cX11_copy 6 0 0 0 0 [.ref fa, .int p1, .ref ta, .int 0, .int 44] [(cAI g fa 528 f1), (cAI g ta 44 f2)] (fun w => ∃ (f3 : Nat → Int32), (R_m_copyBX p1 f1 f2 f3) ∧ w = [(cAI g fa 528 f1), (cAI g ta 44 f3)]) := by
  refine cV.of (by decide) (Nat.le_of_ble_eq_true rfl) ?_
  intro p e s m args below meth c A X hr hi
  refine k_lveq [(0, .ref fa), (1, .int p1), (2, .ref ta), (3, .int 0), (4, .int 44)] rfl ?_
  refine k_iconst (v := 0) X dX11_copy_k0.1.1.1.1 ic_0 ?_
  refine k_istore [(5, .int 0), (0, .ref fa), (1, .int p1), (2, .ref ta), (3, .int 0), (4, .int 44)] X dX11_copy_k0.1.1.1.2 (nlt_e rfl) rfl ?_
  refine (fun hL : ∀ (nn_4 : Nat) (uf_1 : Nat → Int32) (u_2 : Int32), (44 - u_2.toInt).toNat = nn_4 → (IV u_2 0 255) → (∀ (f3 : Nat → Int32), (∃ n_0 : Nat, R_m_copyBX_L0 p1 f1 (fun (uf_1 : Nat → Int32) => f3 = uf_1) n_0 uf_1 u_2) → R_m_copyBX p1 f1 f2 f3) → Wk p l e _ s m args below meth c _ A g _ _ _ [(cAI g fa 528 f1), (cAI g ta 44 uf_1)] [(5, .int u_2), (0, .ref fa), (1, .int p1), (2, .ref ta), (3, .int 0), (4, .int 44)] 3 [] => hL _ f2 0 rfl (iv_w iq_0_0_0 (zle_e rfl) (zle_e rfl)) (fun f3 h => h)) ?_
  refine fun nn_4 => Nat.strongRecOn nn_4 (fun nn_4 ih_6 => ?_)
  intro uf_1 u_2 hm_5 hv_3 KH_0
  refine k_iload X dX11_copy_k0.1.1.2.1 0 rfl ?_
  refine k_iload X dX11_copy_k0.1.1.2.2 5 rfl ?_
  refine k_ic_ge 28 X dX11_copy_k0.1.2.1.1 (jp_e rfl) (fun h_7 => ?_) (fun h_7 => ?_)
  · skip
    have j_8 : 44 ≤ u_2.toInt := iv_le h_7
    have iv_9 : IV u_2 44 255 := iv_leR (iv_le h_7) iq_44_44_44 hv_3 (zle_e rfl)
    exact k_vret X hr dX11_copy_k1.2 (Nat.le_of_ble_eq_true rfl) (Nat.le_of_ble_eq_true rfl) [0, 1] (vnd_e rfl) rfl rfl ⟨uf_1, (KH_0 _ ⟨0 + 1, (Or.inl ⟨h_7, rfl⟩)⟩), rfl⟩
  · skip
    have j_10 : u_2.toInt < 44 := iv_nle h_7
    have iv_11 : IV u_2 0 43 := iv_ltL (iv_nle h_7) hv_3 iq_44_44_44 (zle_e rfl)
    refine k_aload_n X dX11_copy_k0.1.2.1.2 3 rfl ?_
    refine k_iload_n X dX11_copy_k0.1.2.2.1 4 rfl ?_
    refine k_iload X dX11_copy_k0.1.2.2.2 0 rfl ?_
    refine k_iadd X dX11_copy_k0.2.1.1.1 ?_
    refine k_nm (fun z_12 ez_12 => ?_)
    have i_13 : z_12.toInt = 0 + u_2.toInt := in_add ez_12 iq_0_0_0 iv_11 (zle_e rfl) (zle_e rfl)
    have iv_14 : IV z_12 0 43 := iz2 i_13 iv_11 (zle_e rfl) (zle_e rfl)
    refine k_aload_n X dX11_copy_k0.2.1.1.2 1 rfl ?_
    refine k_iload_n X dX11_copy_k0.2.1.2.1 2 rfl ?_
    refine k_iload X dX11_copy_k0.2.1.2.2 0 rfl ?_
    refine k_iadd X dX11_copy_k0.2.2.1.1 ?_
    refine k_nm (fun z_15 ez_15 => ?_)
    have i_16 : z_15.toInt = p1.toInt + u_2.toInt := in_add ez_15 hv_p1 iv_11 (zle_e rfl) (zle_e rfl)
    have iv_17 : IV z_15 0 527 := by have := hv_p1; have := iv_11; rw [IV, i_16]; omega
    refine k_iald X dX11_copy_k0.2.2.1.2 0 rfl (iv_in iv_17 (zle_e rfl) (zle_l rfl)) ?_
    refine k_nm (fun z_18 ez_18 => ?_)
    refine k_iast [(cAI g fa 528 f1), (cAI g ta 44 (upd uf_1 (z_12 : Int32).toNatClampNeg z_18))] X dX11_copy_k0.2.2.2.1 1 rfl (iv_in iv_14 (zle_e rfl) (zle_l rfl)) rfl ?_
    obtain ⟨z_20, ez_20⟩ : ∃ y : Int32, u_2 + Int32.ofInt 1 = y := ⟨_, rfl⟩
    refine k_iinc z_20 [(5, .int z_20), (0, .ref fa), (1, .int p1), (2, .ref ta), (3, .int 0), (4, .int 44)] 0 X dX11_copy_k0.2.2.2.2 rfl ez_20 (nlt_e rfl) rfl ?_
    have i_21 : z_20.toInt = u_2.toInt + 1 := in_inc ez_20 (oin_e rfl) iv_11 (zle_e rfl) (zle_e rfl)
    have iv_22 : IV z_20 1 44 := iz1 i_21 iv_11 (zle_e rfl) (zle_e rfl)
    refine k_goto 3 X dX11_copy_k1.1 (jp_e rfl) ?_
    exact ih_6 _ (by omega) ((upd uf_1 (z_12 : Int32).toNatClampNeg z_18)) z_20 rfl (iv_w iv_22 (zle_e rfl) (zle_e rfl)) (fun f3 h => h.elim (fun n_0 q => (KH_0 _ ⟨n_0 + 1, (Or.inr ⟨h_7, ⟨z_12, ez_12, ⟨z_15, ez_15, ⟨z_18, ez_18, ⟨z_20, ez_20, q⟩⟩⟩⟩⟩)⟩)))


set_option maxHeartbeats 4000000 in
set_option maxRecDepth 100000 in
theorem m_copyCX (l : Launch) (g : Gx) (fa : Nat) (ta : Nat) (p3 : Int32) (f1 : Nat → Int32) (f2 : Nat → Int32) (hv_p3 : IV p3 0 88) : cV l g yX11_copy cX11_copy 6 0 0 0 0 [.ref fa, .int 0, .ref ta, .int p3, .int 44] [(cAI g fa 44 f1), (cAI g ta 132 f2)] (fun w => ∃ (f3 : Nat → Int32), (R_m_copyCX p3 f1 f2 f3) ∧ w = [(cAI g fa 44 f1), (cAI g ta 132 f3)]) := by
  refine cV.of (by decide) (Nat.le_of_ble_eq_true rfl) ?_
  intro p e s m args below meth c A X hr hi
  refine k_lveq [(0, .ref fa), (1, .int 0), (2, .ref ta), (3, .int p3), (4, .int 44)] rfl ?_
  refine k_iconst (v := 0) X dX11_copy_k0.1.1.1.1 ic_0 ?_
  refine k_istore [(5, .int 0), (0, .ref fa), (1, .int 0), (2, .ref ta), (3, .int p3), (4, .int 44)] X dX11_copy_k0.1.1.1.2 (nlt_e rfl) rfl ?_
  refine (fun hL : ∀ (nn_4 : Nat) (uf_1 : Nat → Int32) (u_2 : Int32), (44 - u_2.toInt).toNat = nn_4 → (IV u_2 0 255) → (∀ (f3 : Nat → Int32), (∃ n_0 : Nat, R_m_copyCX_L0 p3 f1 (fun (uf_1 : Nat → Int32) => f3 = uf_1) n_0 uf_1 u_2) → R_m_copyCX p3 f1 f2 f3) → Wk p l e _ s m args below meth c _ A g _ _ _ [(cAI g fa 44 f1), (cAI g ta 132 uf_1)] [(5, .int u_2), (0, .ref fa), (1, .int 0), (2, .ref ta), (3, .int p3), (4, .int 44)] 3 [] => hL _ f2 0 rfl (iv_w iq_0_0_0 (zle_e rfl) (zle_e rfl)) (fun f3 h => h)) ?_
  refine fun nn_4 => Nat.strongRecOn nn_4 (fun nn_4 ih_6 => ?_)
  intro uf_1 u_2 hm_5 hv_3 KH_0
  refine k_iload X dX11_copy_k0.1.1.2.1 0 rfl ?_
  refine k_iload X dX11_copy_k0.1.1.2.2 5 rfl ?_
  refine k_ic_ge 28 X dX11_copy_k0.1.2.1.1 (jp_e rfl) (fun h_7 => ?_) (fun h_7 => ?_)
  · skip
    have j_8 : 44 ≤ u_2.toInt := iv_le h_7
    have iv_9 : IV u_2 44 255 := iv_leR (iv_le h_7) iq_44_44_44 hv_3 (zle_e rfl)
    exact k_vret X hr dX11_copy_k1.2 (Nat.le_of_ble_eq_true rfl) (Nat.le_of_ble_eq_true rfl) [0, 1] (vnd_e rfl) rfl rfl ⟨uf_1, (KH_0 _ ⟨0 + 1, (Or.inl ⟨h_7, rfl⟩)⟩), rfl⟩
  · skip
    have j_10 : u_2.toInt < 44 := iv_nle h_7
    have iv_11 : IV u_2 0 43 := iv_ltL (iv_nle h_7) hv_3 iq_44_44_44 (zle_e rfl)
    refine k_aload_n X dX11_copy_k0.1.2.1.2 3 rfl ?_
    refine k_iload_n X dX11_copy_k0.1.2.2.1 4 rfl ?_
    refine k_iload X dX11_copy_k0.1.2.2.2 0 rfl ?_
    refine k_iadd X dX11_copy_k0.2.1.1.1 ?_
    refine k_nm (fun z_12 ez_12 => ?_)
    have i_13 : z_12.toInt = p3.toInt + u_2.toInt := in_add ez_12 hv_p3 iv_11 (zle_e rfl) (zle_e rfl)
    have iv_14 : IV z_12 0 131 := by have := hv_p3; have := iv_11; rw [IV, i_13]; omega
    refine k_aload_n X dX11_copy_k0.2.1.1.2 1 rfl ?_
    refine k_iload_n X dX11_copy_k0.2.1.2.1 2 rfl ?_
    refine k_iload X dX11_copy_k0.2.1.2.2 0 rfl ?_
    refine k_iadd X dX11_copy_k0.2.2.1.1 ?_
    refine k_nm (fun z_15 ez_15 => ?_)
    have i_16 : z_15.toInt = 0 + u_2.toInt := in_add ez_15 iq_0_0_0 iv_11 (zle_e rfl) (zle_e rfl)
    have iv_17 : IV z_15 0 43 := iz2 i_16 iv_11 (zle_e rfl) (zle_e rfl)
    refine k_iald X dX11_copy_k0.2.2.1.2 0 rfl (iv_in iv_17 (zle_e rfl) (zle_l rfl)) ?_
    refine k_nm (fun z_18 ez_18 => ?_)
    refine k_iast [(cAI g fa 44 f1), (cAI g ta 132 (upd uf_1 (z_12 : Int32).toNatClampNeg z_18))] X dX11_copy_k0.2.2.2.1 1 rfl (iv_in iv_14 (zle_e rfl) (zle_l rfl)) rfl ?_
    obtain ⟨z_20, ez_20⟩ : ∃ y : Int32, u_2 + Int32.ofInt 1 = y := ⟨_, rfl⟩
    refine k_iinc z_20 [(5, .int z_20), (0, .ref fa), (1, .int 0), (2, .ref ta), (3, .int p3), (4, .int 44)] 0 X dX11_copy_k0.2.2.2.2 rfl ez_20 (nlt_e rfl) rfl ?_
    have i_21 : z_20.toInt = u_2.toInt + 1 := in_inc ez_20 (oin_e rfl) iv_11 (zle_e rfl) (zle_e rfl)
    have iv_22 : IV z_20 1 44 := iz1 i_21 iv_11 (zle_e rfl) (zle_e rfl)
    refine k_goto 3 X dX11_copy_k1.1 (jp_e rfl) ?_
    exact ih_6 _ (by omega) ((upd uf_1 (z_12 : Int32).toNatClampNeg z_18)) z_20 rfl (iv_w iv_22 (zle_e rfl) (zle_e rfl)) (fun f3 h => h.elim (fun n_0 q => (KH_0 _ ⟨n_0 + 1, (Or.inr ⟨h_7, ⟨z_12, ez_12, ⟨z_15, ez_15, ⟨z_18, ez_18, ⟨z_20, ez_20, q⟩⟩⟩⟩⟩)⟩)))


set_option maxHeartbeats 4000000 in
set_option maxRecDepth 100000 in
theorem m_copyDX (l : Launch) (g : Gx) (fa : Nat) (p1 : Int32) (ta : Nat) (f1 : Nat → Int32) (f2 : Nat → Int32) (hv_p1 : IV p1 0 88) : cV l g yX11_copy cX11_copy 6 0 0 0 0 [.ref fa, .int p1, .ref ta, .int 0, .int 44] [(cAI g fa 132 f1), (cAI g ta 44 f2)] (fun w => ∃ (f3 : Nat → Int32), (R_m_copyDX p1 f1 f2 f3) ∧ w = [(cAI g fa 132 f1), (cAI g ta 44 f3)]) := by
  refine cV.of (by decide) (Nat.le_of_ble_eq_true rfl) ?_
  intro p e s m args below meth c A X hr hi
  refine k_lveq [(0, .ref fa), (1, .int p1), (2, .ref ta), (3, .int 0), (4, .int 44)] rfl ?_
  refine k_iconst (v := 0) X dX11_copy_k0.1.1.1.1 ic_0 ?_
  refine k_istore [(5, .int 0), (0, .ref fa), (1, .int p1), (2, .ref ta), (3, .int 0), (4, .int 44)] X dX11_copy_k0.1.1.1.2 (nlt_e rfl) rfl ?_
  refine (fun hL : ∀ (nn_4 : Nat) (uf_1 : Nat → Int32) (u_2 : Int32), (44 - u_2.toInt).toNat = nn_4 → (IV u_2 0 255) → (∀ (f3 : Nat → Int32), (∃ n_0 : Nat, R_m_copyDX_L0 p1 f1 (fun (uf_1 : Nat → Int32) => f3 = uf_1) n_0 uf_1 u_2) → R_m_copyDX p1 f1 f2 f3) → Wk p l e _ s m args below meth c _ A g _ _ _ [(cAI g fa 132 f1), (cAI g ta 44 uf_1)] [(5, .int u_2), (0, .ref fa), (1, .int p1), (2, .ref ta), (3, .int 0), (4, .int 44)] 3 [] => hL _ f2 0 rfl (iv_w iq_0_0_0 (zle_e rfl) (zle_e rfl)) (fun f3 h => h)) ?_
  refine fun nn_4 => Nat.strongRecOn nn_4 (fun nn_4 ih_6 => ?_)
  intro uf_1 u_2 hm_5 hv_3 KH_0
  refine k_iload X dX11_copy_k0.1.1.2.1 0 rfl ?_
  refine k_iload X dX11_copy_k0.1.1.2.2 5 rfl ?_
  refine k_ic_ge 28 X dX11_copy_k0.1.2.1.1 (jp_e rfl) (fun h_7 => ?_) (fun h_7 => ?_)
  · skip
    have j_8 : 44 ≤ u_2.toInt := iv_le h_7
    have iv_9 : IV u_2 44 255 := iv_leR (iv_le h_7) iq_44_44_44 hv_3 (zle_e rfl)
    exact k_vret X hr dX11_copy_k1.2 (Nat.le_of_ble_eq_true rfl) (Nat.le_of_ble_eq_true rfl) [0, 1] (vnd_e rfl) rfl rfl ⟨uf_1, (KH_0 _ ⟨0 + 1, (Or.inl ⟨h_7, rfl⟩)⟩), rfl⟩
  · skip
    have j_10 : u_2.toInt < 44 := iv_nle h_7
    have iv_11 : IV u_2 0 43 := iv_ltL (iv_nle h_7) hv_3 iq_44_44_44 (zle_e rfl)
    refine k_aload_n X dX11_copy_k0.1.2.1.2 3 rfl ?_
    refine k_iload_n X dX11_copy_k0.1.2.2.1 4 rfl ?_
    refine k_iload X dX11_copy_k0.1.2.2.2 0 rfl ?_
    refine k_iadd X dX11_copy_k0.2.1.1.1 ?_
    refine k_nm (fun z_12 ez_12 => ?_)
    have i_13 : z_12.toInt = 0 + u_2.toInt := in_add ez_12 iq_0_0_0 iv_11 (zle_e rfl) (zle_e rfl)
    have iv_14 : IV z_12 0 43 := iz2 i_13 iv_11 (zle_e rfl) (zle_e rfl)
    refine k_aload_n X dX11_copy_k0.2.1.1.2 1 rfl ?_
    refine k_iload_n X dX11_copy_k0.2.1.2.1 2 rfl ?_
    refine k_iload X dX11_copy_k0.2.1.2.2 0 rfl ?_
    refine k_iadd X dX11_copy_k0.2.2.1.1 ?_
    refine k_nm (fun z_15 ez_15 => ?_)
    have i_16 : z_15.toInt = p1.toInt + u_2.toInt := in_add ez_15 hv_p1 iv_11 (zle_e rfl) (zle_e rfl)
    have iv_17 : IV z_15 0 131 := by have := hv_p1; have := iv_11; rw [IV, i_16]; omega
    refine k_iald X dX11_copy_k0.2.2.1.2 0 rfl (iv_in iv_17 (zle_e rfl) (zle_l rfl)) ?_
    refine k_nm (fun z_18 ez_18 => ?_)
    refine k_iast [(cAI g fa 132 f1), (cAI g ta 44 (upd uf_1 (z_12 : Int32).toNatClampNeg z_18))] X dX11_copy_k0.2.2.2.1 1 rfl (iv_in iv_14 (zle_e rfl) (zle_l rfl)) rfl ?_
    obtain ⟨z_20, ez_20⟩ : ∃ y : Int32, u_2 + Int32.ofInt 1 = y := ⟨_, rfl⟩
    refine k_iinc z_20 [(5, .int z_20), (0, .ref fa), (1, .int p1), (2, .ref ta), (3, .int 0), (4, .int 44)] 0 X dX11_copy_k0.2.2.2.2 rfl ez_20 (nlt_e rfl) rfl ?_
    have i_21 : z_20.toInt = u_2.toInt + 1 := in_inc ez_20 (oin_e rfl) iv_11 (zle_e rfl) (zle_e rfl)
    have iv_22 : IV z_20 1 44 := iz1 i_21 iv_11 (zle_e rfl) (zle_e rfl)
    refine k_goto 3 X dX11_copy_k1.1 (jp_e rfl) ?_
    exact ih_6 _ (by omega) ((upd uf_1 (z_12 : Int32).toNatClampNeg z_18)) z_20 rfl (iv_w iv_22 (zle_e rfl) (zle_e rfl)) (fun f3 h => h.elim (fun n_0 q => (KH_0 _ ⟨n_0 + 1, (Or.inr ⟨h_7, ⟨z_12, ez_12, ⟨z_15, ez_15, ⟨z_18, ez_18, ⟨z_20, ez_20, q⟩⟩⟩⟩⟩)⟩)))


set_option maxHeartbeats 4000000 in
set_option maxRecDepth 100000 in
theorem m_noteX (l : Launch) (g : Gx) (h0 : Nat) (m_thrown : Int32) (a_tape : Nat) (m_taped : Int32) (m_size : Int32) (m_at : Int32) (m_end : Int32) (m_token : Int32) (m_whole : Int32) (m_nameSize : Int32) (m_fault : Int32) (m_place : Int32) (m_trouble : Int32) (a_letters : Nat) (m_failed : Int32) (m_hasHouse : Int32) (a_r : Nat) (a_fresh : Nat) (a_st : Nat) (a_undone : Nat) (a_kept : Nat) (m_undos : Int32) (m_images : Int32) (a_from : Nat) (a_begin : Nat) (a_motor : Nat) (a_change : Nat) (a_startFrame : Nat) (a_changeFrame : Nat) (a_lostAt : Nat) (a_blackAt : Nat) (a_slips : Nat) (a_leftArc : Nat) (a_died : Nat) (a_arcs : Nat) (m_bestSum : Int32) (m_nearest : Int32) (m_nearestTown : Int32) (a_there : Nat) (a_backAt : Nat) (a_sorted : Nat) (a_parts : Nat) (m_seed1 : Int32) (m_darkNow : Int32) (d_st : Nat → Int32) (d_undone : Nat → Int32) (hv_m_undos : IV m_undos 0 12) : cV l g yX11_note cX11_note 2 1 25 0 0 [.ref h0] [(cO11_i1r1i10r1i2r5i2r12i3r4i2 h0 m_thrown a_tape m_taped m_size m_at m_end m_token m_whole m_nameSize m_fault m_place m_trouble a_letters m_failed m_hasHouse a_r a_fresh a_st a_undone a_kept m_undos m_images a_from a_begin a_motor a_change a_startFrame a_changeFrame a_lostAt a_blackAt a_slips a_leftArc a_died a_arcs m_bestSum m_nearest m_nearestTown a_there a_backAt a_sorted a_parts m_seed1 m_darkNow), (cAI g a_st 44 d_st), (cAI g a_undone 528 d_undone)] (fun w => ∃ (d_undone2 : Nat → Int32) (m_undos2 : Int32), IV m_undos2 0 12 ∧ (R_m_noteX m_undos d_st d_undone d_undone2 m_undos2) ∧ w = [(cO11_i1r1i10r1i2r5i2r12i3r4i2 h0 m_thrown a_tape m_taped m_size m_at m_end m_token m_whole m_nameSize m_fault m_place m_trouble a_letters m_failed m_hasHouse a_r a_fresh a_st a_undone a_kept m_undos2 m_images a_from a_begin a_motor a_change a_startFrame a_changeFrame a_lostAt a_blackAt a_slips a_leftArc a_died a_arcs m_bestSum m_nearest m_nearestTown a_there a_backAt a_sorted a_parts m_seed1 m_darkNow), (cAI g a_st 44 d_st), (cAI g a_undone 528 d_undone2)]) := by
  refine cV.of (by decide) (Nat.le_of_ble_eq_true rfl) ?_
  intro p e s m args below meth c A X hr hi
  refine k_lveq [(0, .ref h0)] rfl ?_
  refine k_aload_n X dX11_note_k0.1.1.1.1 0 rfl ?_
  refine k_get (ci := 11) X inlX11 rfl 20 (nlt_e rfl) dX11_note_k0.1.1.1.2 mw475 0 rfl rfl ?_
  refine k_bipush (v := 12) X dX11_note_k0.1.1.2.1 bi_12 ?_
  refine k_ic_ne 49 X dX11_note_k0.1.1.2.2 (jp_e rfl) (fun h_1 => ?_) (fun h_1 => ?_)
  · skip
    have iv_2 : IV m_undos 0 11 := iv_neH h_1 hv_m_undos iq_12_12_12 (by decide)
    refine k_aload_n X dX11_note_k1.2.1.2.2 0 rfl ?_
    refine k_get (ci := 11) X inlX11 rfl 17 (nlt_e rfl) dX11_note_k1.2.2.1.1 mw172 0 rfl rfl ?_
    refine k_iconst (v := 0) X dX11_note_k1.2.2.1.2 ic_0 ?_
    refine k_aload_n X dX11_note_k1.2.2.2.1 0 rfl ?_
    refine k_get (ci := 11) X inlX11 rfl 18 (nlt_e rfl) dX11_note_k1.2.2.2.2 mw173 0 rfl rfl ?_
    refine k_bipush (v := 44) X dX11_note_k2.1.1.1 bi_44 ?_
    refine k_aload_n X dX11_note_k2.1.1.2.1 0 rfl ?_
    refine k_get (ci := 11) X inlX11 rfl 20 (nlt_e rfl) dX11_note_k2.1.1.2.2 mw475 0 rfl rfl ?_
    refine k_imul X dX11_note_k2.1.2.1 ?_
    refine k_nm (fun z_3 ez_3 => ?_)
    have i_4 : z_3.toInt = 44 * m_undos.toInt := in_mul ez_3 (by decide) (zle_e rfl) iv_2 (zle_e rfl) (zle_e rfl)
    have iv_5 : IV z_3 0 484 := iz4 i_4 iv_2 (zle_e rfl) (zle_e rfl) (zle_e rfl)
    refine k_bipush (v := 44) X dX11_note_k2.1.2.2.1 bi_44 ?_
    refine k_callSV (n := 5) (As := [.ref a_st, .int 0, .ref a_undone, .int z_3, .int 44]) (st := []) X [(cAI g a_st 44 d_st), (cAI g a_undone 528 d_undone)] [(cO11_i1r1i10r1i2r5i2r12i3r4i2 h0 m_thrown a_tape m_taped m_size m_at m_end m_token m_whole m_nameSize m_fault m_place m_trouble a_letters m_failed m_hasHouse a_r a_fresh a_st a_undone a_kept m_undos m_images a_from a_begin a_motor a_change a_startFrame a_changeFrame a_lostAt a_blackAt a_slips a_leftArc a_died a_arcs m_bestSum m_nearest m_nearestTown a_there a_backAt a_sorted a_parts m_seed1 m_darkNow)] [1, 2] [0] (m_copyAX l g a_st a_undone z_3 d_st d_undone (iv_w iv_5 (zle_e rfl) (zle_e rfl))) dX11_note_k2.1.2.2.2 mw619 mw620 mw5 mw621 yk_yX11_copy_5 rfl (Nat.le_of_ble_eq_true rfl) (Nat.le_of_ble_eq_true rfl) (Nat.le_of_ble_eq_true rfl) (Nat.le_of_ble_eq_true rfl) (Nat.le_of_ble_eq_true rfl) rfl rfl (vnd_e rfl) rfl (vnd_e rfl) (dsj_e rfl) ?_
    rintro w ⟨f3_6, hq_8, rfl⟩
    refine k_ws [(cO11_i1r1i10r1i2r5i2r12i3r4i2 h0 m_thrown a_tape m_taped m_size m_at m_end m_token m_whole m_nameSize m_fault m_place m_trouble a_letters m_failed m_hasHouse a_r a_fresh a_st a_undone a_kept m_undos m_images a_from a_begin a_motor a_change a_startFrame a_changeFrame a_lostAt a_blackAt a_slips a_leftArc a_died a_arcs m_bestSum m_nearest m_nearestTown a_there a_backAt a_sorted a_parts m_seed1 m_darkNow), (cAI g a_st 44 d_st), (cAI g a_undone 528 f3_6)] rfl ?_
    refine k_aload_n X dX11_note_k2.2.1.1 0 rfl ?_
    refine k_dup X dX11_note_k2.2.1.2.1 rfl ?_
    refine k_get (ci := 11) X inlX11 rfl 20 (nlt_e rfl) dX11_note_k2.2.1.2.2 mw475 0 rfl rfl ?_
    refine k_iconst (v := 1) X dX11_note_k2.2.2.1.1 ic_1 ?_
    refine k_iadd X dX11_note_k2.2.2.1.2 ?_
    refine k_nm (fun z_9 ez_9 => ?_)
    have i_10 : z_9.toInt = m_undos.toInt + 1 := in_add ez_9 iv_2 iq_1_1_1 (zle_e rfl) (zle_e rfl)
    have iv_11 : IV z_9 1 12 := iz1 i_10 iv_2 (zle_e rfl) (zle_e rfl)
    refine k_put (ci := 11) [(cO11_i1r1i10r1i2r5i2r12i3r4i2 h0 m_thrown a_tape m_taped m_size m_at m_end m_token m_whole m_nameSize m_fault m_place m_trouble a_letters m_failed m_hasHouse a_r a_fresh a_st a_undone a_kept z_9 m_images a_from a_begin a_motor a_change a_startFrame a_changeFrame a_lostAt a_blackAt a_slips a_leftArc a_died a_arcs m_bestSum m_nearest m_nearestTown a_there a_backAt a_sorted a_parts m_seed1 m_darkNow), (cAI g a_st 44 d_st), (cAI g a_undone 528 f3_6)] X inlX11 rfl tyX11_ok nmX11 20 (nlt_e rfl) rfl dX11_note_k2.2.2.2.1 mw475 0 rfl rfl rfl (Nat.le_of_ble_eq_true rfl) rfl ?_
    exact k_vret X hr dX11_note_k2.2.2.2.2 (Nat.le_of_ble_eq_true rfl) (Nat.le_of_ble_eq_true rfl) [0, 1, 2] (vnd_e rfl) rfl rfl ⟨f3_6, z_9, (iv_w iv_11 (zle_e rfl) (zle_e rfl)), (Or.inl ⟨h_1, ⟨z_3, ez_3, ⟨f3_6, hq_8, ⟨z_9, ez_9, ⟨rfl, rfl⟩⟩⟩⟩⟩), rfl⟩
  · skip
    have iv_12 : IV m_undos 12 12 := iv_meet hv_m_undos (iv_e h_1 iq_12_12_12) (zle_o rfl) (zle_o rfl)
    refine k_iconst (v := 0) X dX11_note_k0.1.2.1.1 ic_0 ?_
    refine k_istore_n [(1, .int 0), (0, .ref h0)] X dX11_note_k0.1.2.1.2 (nlt_e rfl) rfl ?_
    refine (fun hL : ∀ (nn_16 : Nat) (uf_13 : Nat → Int32) (u_14 : Int32), (484 - u_14.toInt).toNat = nn_16 → (IV u_14 0 900) → (∀ (d_undone2 : Nat → Int32) (m_undos2 : Int32), (∃ n_0 : Nat, R_m_noteX_L0 (fun (uf_13 : Nat → Int32) => ∃ z_22 : Int32, z_22 = m_undos - (1 : Int32) ∧ ∃ z_25 : Int32, z_25 = (44 : Int32) * z_22 ∧ ∃ f3_28 : Nat → Int32, (R_m_copyAX z_25 d_st uf_13 f3_28) ∧ ∃ z_31 : Int32, z_31 = z_22 + (1 : Int32) ∧ d_undone2 = f3_28 ∧ m_undos2 = z_31) n_0 uf_13 u_14) → R_m_noteX m_undos d_st d_undone d_undone2 m_undos2) → Wk p l e _ s m args below meth c _ A g _ _ _ [(cO11_i1r1i10r1i2r5i2r12i3r4i2 h0 m_thrown a_tape m_taped m_size m_at m_end m_token m_whole m_nameSize m_fault m_place m_trouble a_letters m_failed m_hasHouse a_r a_fresh a_st a_undone a_kept m_undos m_images a_from a_begin a_motor a_change a_startFrame a_changeFrame a_lostAt a_blackAt a_slips a_leftArc a_died a_arcs m_bestSum m_nearest m_nearestTown a_there a_backAt a_sorted a_parts m_seed1 m_darkNow), (cAI g a_st 44 d_st), (cAI g a_undone 528 uf_13)] [(1, .int u_14), (0, .ref h0)] 11 [] => hL _ d_undone 0 rfl (iv_w iq_0_0_0 (zle_e rfl) (zle_e rfl)) (fun d_undone2 m_undos2 h => (Or.inr ⟨h_1, h⟩))) ?_
    refine fun nn_16 => Nat.strongRecOn nn_16 (fun nn_16 ih_18 => ?_)
    intro uf_13 u_14 hm_17 hv_15 KH_0
    refine k_iload_n X dX11_note_k0.1.2.2.1 0 rfl ?_
    refine k_sipush (v := 484) X dX11_note_k0.1.2.2.2 si_484 ?_
    refine k_ic_ge 39 X dX11_note_k0.2.1.1.1 (jp_e rfl) (fun h_19 => ?_) (fun h_19 => ?_)
    · skip
      have j_20 : 484 ≤ u_14.toInt := iv_le h_19
      have iv_21 : IV u_14 484 900 := iv_leR (iv_le h_19) iq_484_484_484 hv_15 (zle_e rfl)
      refine k_aload_n X dX11_note_k1.1.2.1.2 1 rfl ?_
      refine k_dup X dX11_note_k1.1.2.2.1 rfl ?_
      refine k_get (ci := 11) X inlX11 rfl 20 (nlt_e rfl) dX11_note_k1.1.2.2.2 mw475 0 rfl rfl ?_
      refine k_iconst (v := 1) X dX11_note_k1.2.1.1.1 ic_1 ?_
      refine k_isub X dX11_note_k1.2.1.1.2 ?_
      refine k_nm (fun z_22 ez_22 => ?_)
      have i_23 : z_22.toInt = m_undos.toInt - 1 := in_sub ez_22 iv_12 iq_1_1_1 (zle_e rfl) (zle_e rfl)
      have iv_24 : IV z_22 11 11 := iz5 i_23 iv_12 (zle_e rfl) (zle_e rfl)
      refine k_put (ci := 11) [(cO11_i1r1i10r1i2r5i2r12i3r4i2 h0 m_thrown a_tape m_taped m_size m_at m_end m_token m_whole m_nameSize m_fault m_place m_trouble a_letters m_failed m_hasHouse a_r a_fresh a_st a_undone a_kept z_22 m_images a_from a_begin a_motor a_change a_startFrame a_changeFrame a_lostAt a_blackAt a_slips a_leftArc a_died a_arcs m_bestSum m_nearest m_nearestTown a_there a_backAt a_sorted a_parts m_seed1 m_darkNow), (cAI g a_st 44 d_st), (cAI g a_undone 528 uf_13)] X inlX11 rfl tyX11_ok nmX11 20 (nlt_e rfl) rfl dX11_note_k1.2.1.2.1 mw475 0 rfl rfl rfl (Nat.le_of_ble_eq_true rfl) rfl ?_
      refine k_aload_n X dX11_note_k1.2.1.2.2 1 rfl ?_
      refine k_get (ci := 11) X inlX11 rfl 17 (nlt_e rfl) dX11_note_k1.2.2.1.1 mw172 0 rfl rfl ?_
      refine k_iconst (v := 0) X dX11_note_k1.2.2.1.2 ic_0 ?_
      refine k_aload_n X dX11_note_k1.2.2.2.1 1 rfl ?_
      refine k_get (ci := 11) X inlX11 rfl 18 (nlt_e rfl) dX11_note_k1.2.2.2.2 mw173 0 rfl rfl ?_
      refine k_bipush (v := 44) X dX11_note_k2.1.1.1 bi_44 ?_
      refine k_aload_n X dX11_note_k2.1.1.2.1 1 rfl ?_
      refine k_get (ci := 11) X inlX11 rfl 20 (nlt_e rfl) dX11_note_k2.1.1.2.2 mw475 0 rfl rfl ?_
      refine k_imul X dX11_note_k2.1.2.1 ?_
      refine k_nm (fun z_25 ez_25 => ?_)
      have i_26 : z_25.toInt = 44 * z_22.toInt := in_mul ez_25 (by decide) (zle_e rfl) iv_24 (zle_e rfl) (zle_e rfl)
      have iv_27 : IV z_25 484 484 := iz4 i_26 iv_24 (zle_e rfl) (zle_e rfl) (zle_e rfl)
      refine k_bipush (v := 44) X dX11_note_k2.1.2.2.1 bi_44 ?_
      refine k_callSV (n := 5) (As := [.ref a_st, .int 0, .ref a_undone, .int z_25, .int 44]) (st := []) X [(cAI g a_st 44 d_st), (cAI g a_undone 528 uf_13)] [(cO11_i1r1i10r1i2r5i2r12i3r4i2 h0 m_thrown a_tape m_taped m_size m_at m_end m_token m_whole m_nameSize m_fault m_place m_trouble a_letters m_failed m_hasHouse a_r a_fresh a_st a_undone a_kept z_22 m_images a_from a_begin a_motor a_change a_startFrame a_changeFrame a_lostAt a_blackAt a_slips a_leftArc a_died a_arcs m_bestSum m_nearest m_nearestTown a_there a_backAt a_sorted a_parts m_seed1 m_darkNow)] [1, 2] [0] (m_copyAX l g a_st a_undone z_25 d_st uf_13 (iv_w iv_27 (zle_e rfl) (zle_e rfl))) dX11_note_k2.1.2.2.2 mw619 mw620 mw5 mw621 yk_yX11_copy_5 rfl (Nat.le_of_ble_eq_true rfl) (Nat.le_of_ble_eq_true rfl) (Nat.le_of_ble_eq_true rfl) (Nat.le_of_ble_eq_true rfl) (Nat.le_of_ble_eq_true rfl) rfl rfl (vnd_e rfl) rfl (vnd_e rfl) (dsj_e rfl) ?_
      rintro w ⟨f3_28, hq_30, rfl⟩
      refine k_ws [(cO11_i1r1i10r1i2r5i2r12i3r4i2 h0 m_thrown a_tape m_taped m_size m_at m_end m_token m_whole m_nameSize m_fault m_place m_trouble a_letters m_failed m_hasHouse a_r a_fresh a_st a_undone a_kept z_22 m_images a_from a_begin a_motor a_change a_startFrame a_changeFrame a_lostAt a_blackAt a_slips a_leftArc a_died a_arcs m_bestSum m_nearest m_nearestTown a_there a_backAt a_sorted a_parts m_seed1 m_darkNow), (cAI g a_st 44 d_st), (cAI g a_undone 528 f3_28)] rfl ?_
      refine k_aload_n X dX11_note_k2.2.1.1 1 rfl ?_
      refine k_dup X dX11_note_k2.2.1.2.1 rfl ?_
      refine k_get (ci := 11) X inlX11 rfl 20 (nlt_e rfl) dX11_note_k2.2.1.2.2 mw475 0 rfl rfl ?_
      refine k_iconst (v := 1) X dX11_note_k2.2.2.1.1 ic_1 ?_
      refine k_iadd X dX11_note_k2.2.2.1.2 ?_
      refine k_nm (fun z_31 ez_31 => ?_)
      have i_32 : z_31.toInt = z_22.toInt + 1 := in_add ez_31 iv_24 iq_1_1_1 (zle_e rfl) (zle_e rfl)
      have iv_33 : IV z_31 12 12 := iz1 i_32 iv_24 (zle_e rfl) (zle_e rfl)
      refine k_put (ci := 11) [(cO11_i1r1i10r1i2r5i2r12i3r4i2 h0 m_thrown a_tape m_taped m_size m_at m_end m_token m_whole m_nameSize m_fault m_place m_trouble a_letters m_failed m_hasHouse a_r a_fresh a_st a_undone a_kept z_31 m_images a_from a_begin a_motor a_change a_startFrame a_changeFrame a_lostAt a_blackAt a_slips a_leftArc a_died a_arcs m_bestSum m_nearest m_nearestTown a_there a_backAt a_sorted a_parts m_seed1 m_darkNow), (cAI g a_st 44 d_st), (cAI g a_undone 528 f3_28)] X inlX11 rfl tyX11_ok nmX11 20 (nlt_e rfl) rfl dX11_note_k2.2.2.2.1 mw475 0 rfl rfl rfl (Nat.le_of_ble_eq_true rfl) rfl ?_
      exact k_vret X hr dX11_note_k2.2.2.2.2 (Nat.le_of_ble_eq_true rfl) (Nat.le_of_ble_eq_true rfl) [0, 1, 2] (vnd_e rfl) rfl rfl ⟨f3_28, z_31, (iv_w iv_33 (zle_e rfl) (zle_e rfl)), (KH_0 _ _ ⟨0 + 1, (Or.inl ⟨h_19, ⟨z_22, ez_22, ⟨z_25, ez_25, ⟨f3_28, hq_30, ⟨z_31, ez_31, ⟨rfl, rfl⟩⟩⟩⟩⟩⟩)⟩), rfl⟩
    · skip
      have j_34 : u_14.toInt < 484 := iv_nle h_19
      have iv_35 : IV u_14 0 483 := iv_ltL (iv_nle h_19) hv_15 iq_484_484_484 (zle_e rfl)
      refine k_aload_n X dX11_note_k0.2.1.1.2 1 rfl ?_
      refine k_get (ci := 11) X inlX11 rfl 18 (nlt_e rfl) dX11_note_k0.2.1.2.1 mw173 0 rfl rfl ?_
      refine k_iload_n X dX11_note_k0.2.1.2.2 0 rfl ?_
      refine k_aload_n X dX11_note_k0.2.2.1.1 1 rfl ?_
      refine k_get (ci := 11) X inlX11 rfl 18 (nlt_e rfl) dX11_note_k0.2.2.1.2 mw173 0 rfl rfl ?_
      refine k_iload_n X dX11_note_k0.2.2.2.1 0 rfl ?_
      refine k_bipush (v := 44) X dX11_note_k0.2.2.2.2 bi_44 ?_
      refine k_iadd X dX11_note_k1.1.1.1.1 ?_
      refine k_nm (fun z_36 ez_36 => ?_)
      have i_37 : z_36.toInt = u_14.toInt + 44 := in_add ez_36 iv_35 iq_44_44_44 (zle_e rfl) (zle_e rfl)
      have iv_38 : IV z_36 44 527 := iz1 i_37 iv_35 (zle_e rfl) (zle_e rfl)
      refine k_iald X dX11_note_k1.1.1.1.2 2 rfl (iv_in iv_38 (zle_e rfl) (zle_l rfl)) ?_
      refine k_nm (fun z_39 ez_39 => ?_)
      refine k_iast [(cO11_i1r1i10r1i2r5i2r12i3r4i2 h0 m_thrown a_tape m_taped m_size m_at m_end m_token m_whole m_nameSize m_fault m_place m_trouble a_letters m_failed m_hasHouse a_r a_fresh a_st a_undone a_kept m_undos m_images a_from a_begin a_motor a_change a_startFrame a_changeFrame a_lostAt a_blackAt a_slips a_leftArc a_died a_arcs m_bestSum m_nearest m_nearestTown a_there a_backAt a_sorted a_parts m_seed1 m_darkNow), (cAI g a_st 44 d_st), (cAI g a_undone 528 (upd uf_13 (u_14 : Int32).toNatClampNeg z_39))] X dX11_note_k1.1.1.2.1 2 rfl (iv_in iv_35 (zle_e rfl) (zle_l rfl)) rfl ?_
      obtain ⟨z_41, ez_41⟩ : ∃ y : Int32, u_14 + Int32.ofInt 1 = y := ⟨_, rfl⟩
      refine k_iinc z_41 [(1, .int z_41), (0, .ref h0)] 0 X dX11_note_k1.1.1.2.2 rfl ez_41 (nlt_e rfl) rfl ?_
      have i_42 : z_41.toInt = u_14.toInt + 1 := in_inc ez_41 (oin_e rfl) iv_35 (zle_e rfl) (zle_e rfl)
      have iv_43 : IV z_41 1 484 := iz1 i_42 iv_35 (zle_e rfl) (zle_e rfl)
      refine k_goto 11 X dX11_note_k1.1.2.1.1 (jp_e rfl) ?_
      exact ih_18 _ (by omega) ((upd uf_13 (u_14 : Int32).toNatClampNeg z_39)) z_41 rfl (iv_w iv_43 (zle_e rfl) (zle_e rfl)) (fun d_undone2 m_undos2 h => h.elim (fun n_0 q => (KH_0 _ _ ⟨n_0 + 1, (Or.inr ⟨h_19, ⟨z_36, ez_36, ⟨z_39, ez_39, ⟨z_41, ez_41, q⟩⟩⟩⟩)⟩)))


set_option maxHeartbeats 4000000 in
set_option maxRecDepth 100000 in
theorem m_threadsX (l : Launch) (g : Gx) (h0 : Nat) (p0 : Int32) (p1 : Int32) (m_thrown : Int32) (a_tape : Nat) (m_taped : Int32) (m_size : Int32) (m_at : Int32) (m_end : Int32) (m_token : Int32) (m_whole : Int32) (m_nameSize : Int32) (m_fault : Int32) (m_place : Int32) (m_trouble : Int32) (a_letters : Nat) (m_failed : Int32) (m_hasHouse : Int32) (a_r : Nat) (a_fresh : Nat) (a_st : Nat) (a_undone : Nat) (a_kept : Nat) (m_undos : Int32) (m_images : Int32) (a_from : Nat) (a_begin : Nat) (a_motor : Nat) (a_change : Nat) (a_startFrame : Nat) (a_changeFrame : Nat) (a_lostAt : Nat) (a_blackAt : Nat) (a_slips : Nat) (a_leftArc : Nat) (a_died : Nat) (a_arcs : Nat) (m_bestSum : Int32) (m_nearest : Int32) (m_nearestTown : Int32) (a_there : Nat) (a_backAt : Nat) (a_sorted : Nat) (a_parts : Nat) (m_seed1 : Int32) (m_darkNow : Int32) (d_r : Nat → Int32) (d_st : Nat → Int32) (d_undone : Nat → Int32) (hv_m_hasHouse : IV m_hasHouse 0 1) (hv_m_undos : IV m_undos 0 12) (hp_d_r : RInv d_r) : cI l g yX11_threads cX11_threads 3 (some .boolean) 2 46 0 0 [.ref h0, .int p0, .int p1] [(cO11_i1r1i10r1i2r5i2r12i3r4i2 h0 m_thrown a_tape m_taped m_size m_at m_end m_token m_whole m_nameSize m_fault m_place m_trouble a_letters m_failed m_hasHouse a_r a_fresh a_st a_undone a_kept m_undos m_images a_from a_begin a_motor a_change a_startFrame a_changeFrame a_lostAt a_blackAt a_slips a_leftArc a_died a_arcs m_bestSum m_nearest m_nearestTown a_there a_backAt a_sorted a_parts m_seed1 m_darkNow), (cAI g a_r 311 d_r), (cAI g a_st 44 d_st), (cAI g a_undone 528 d_undone)] (fun r w => ∃ (d_st2 : Nat → Int32) (m_thrown2 : Int32) (m_trouble2 : Int32) (d_undone2 : Nat → Int32) (m_undos2 : Int32), IV m_undos2 0 12 ∧ IV r 0 1 ∧ (R_m_threadsX p0 p1 m_hasHouse m_undos d_r d_st d_undone d_st2 m_thrown2 m_trouble2 d_undone2 m_undos2 r) ∧ w = [(cO11_i1r1i10r1i2r5i2r12i3r4i2 h0 m_thrown2 a_tape m_taped m_size m_at m_end m_token m_whole m_nameSize m_fault m_place m_trouble2 a_letters m_failed m_hasHouse a_r a_fresh a_st a_undone a_kept m_undos2 m_images a_from a_begin a_motor a_change a_startFrame a_changeFrame a_lostAt a_blackAt a_slips a_leftArc a_died a_arcs m_bestSum m_nearest m_nearestTown a_there a_backAt a_sorted a_parts m_seed1 m_darkNow), (cAI g a_r 311 d_r), (cAI g a_st 44 d_st2), (cAI g a_undone 528 d_undone2)]) := by
  refine cI.of (by decide) (Nat.le_of_ble_eq_true rfl) ?_
  intro p e s m args below meth c A X hr hi
  refine k_lveq [(0, .ref h0), (1, .int p0), (2, .int p1)] rfl ?_
  refine k_aload_n X dX11_threads_k0.1.1.1.1 0 rfl ?_
  refine k_callVV (n := 0) (As := []) (st := []) X [(cO11_i1r1i10r1i2r5i2r12i3r4i2 h0 m_thrown a_tape m_taped m_size m_at m_end m_token m_whole m_nameSize m_fault m_place m_trouble a_letters m_failed m_hasHouse a_r a_fresh a_st a_undone a_kept m_undos m_images a_from a_begin a_motor a_change a_startFrame a_changeFrame a_lostAt a_blackAt a_slips a_leftArc a_died a_arcs m_bestSum m_nearest m_nearestTown a_there a_backAt a_sorted a_parts m_seed1 m_darkNow)] [(cAI g a_r 311 d_r), (cAI g a_st 44 d_st), (cAI g a_undone 528 d_undone)] [0] [1, 2, 3] (m_goodX l g h0 m_thrown a_tape m_taped m_size m_at m_end m_token m_whole m_nameSize m_fault m_place m_trouble a_letters m_failed m_hasHouse a_r a_fresh a_st a_undone a_kept m_undos m_images a_from a_begin a_motor a_change a_startFrame a_changeFrame a_lostAt a_blackAt a_slips a_leftArc a_died a_arcs m_bestSum m_nearest m_nearestTown a_there a_backAt a_sorted a_parts m_seed1 m_darkNow) dX11_threads_k0.1.1.1.2 mw477 mw478 mw479 mw5 mw480 rfl 11 rfl rfl 0 _ rfl yk_yX11_good_0 rfl (Nat.le_of_ble_eq_true rfl) (Nat.le_of_ble_eq_true rfl) (Nat.le_of_ble_eq_true rfl) (Nat.le_of_ble_eq_true rfl) (Nat.le_of_ble_eq_true rfl) rfl rfl (vnd_e rfl) rfl (vnd_e rfl) (dsj_e rfl) ?_
  rintro w ⟨m_thrown2_1, m_trouble2_2, hq_4, rfl⟩
  refine k_ws [(cAI g a_r 311 d_r), (cAI g a_st 44 d_st), (cAI g a_undone 528 d_undone), (cO11_i1r1i10r1i2r5i2r12i3r4i2 h0 m_thrown2_1 a_tape m_taped m_size m_at m_end m_token m_whole m_nameSize m_fault m_place m_trouble2_2 a_letters m_failed m_hasHouse a_r a_fresh a_st a_undone a_kept m_undos m_images a_from a_begin a_motor a_change a_startFrame a_changeFrame a_lostAt a_blackAt a_slips a_leftArc a_died a_arcs m_bestSum m_nearest m_nearestTown a_there a_backAt a_sorted a_parts m_seed1 m_darkNow)] rfl ?_
  refine k_aload_n X dX11_threads_k0.1.1.2.1 0 rfl ?_
  refine k_iload_n X dX11_threads_k0.1.1.2.2 1 rfl ?_
  refine k_callVI (n := 1) (As := [.int p0]) (st := []) X [(cO11_i1r1i10r1i2r5i2r12i3r4i2 h0 m_thrown2_1 a_tape m_taped m_size m_at m_end m_token m_whole m_nameSize m_fault m_place m_trouble2_2 a_letters m_failed m_hasHouse a_r a_fresh a_st a_undone a_kept m_undos m_images a_from a_begin a_motor a_change a_startFrame a_changeFrame a_lostAt a_blackAt a_slips a_leftArc a_died a_arcs m_bestSum m_nearest m_nearestTown a_there a_backAt a_sorted a_parts m_seed1 m_darkNow), (cAI g a_r 311 d_r)] [(cAI g a_st 44 d_st), (cAI g a_undone 528 d_undone)] [3, 0] [1, 2] (m_isPlaceX l g h0 p0 m_thrown2_1 a_tape m_taped m_size m_at m_end m_token m_whole m_nameSize m_fault m_place m_trouble2_2 a_letters m_failed m_hasHouse a_r a_fresh a_st a_undone a_kept m_undos m_images a_from a_begin a_motor a_change a_startFrame a_changeFrame a_lostAt a_blackAt a_slips a_leftArc a_died a_arcs m_bestSum m_nearest m_nearestTown a_there a_backAt a_sorted a_parts m_seed1 m_darkNow d_r (iv_w hv_m_hasHouse (zle_e rfl) (zle_e rfl)) hp_d_r) dX11_threads_k0.1.2.1.1 mw719 mw720 mw721 mw5 mw722 rfl 11 rfl rfl 0 _ rfl yk_yX11_isPlace_1 rfl (Nat.le_of_ble_eq_true rfl) (Nat.le_of_ble_eq_true rfl) (Nat.le_of_ble_eq_true rfl) (Nat.le_of_ble_eq_true rfl) (Nat.le_of_ble_eq_true rfl) rfl rfl (vnd_e rfl) rfl (vnd_e rfl) (dsj_e rfl) ?_
  rintro r_5 w ⟨iv_6, hq_7, hk_8, rfl⟩
  refine k_ws [(cAI g a_st 44 d_st), (cAI g a_undone 528 d_undone), (cO11_i1r1i10r1i2r5i2r12i3r4i2 h0 m_thrown2_1 a_tape m_taped m_size m_at m_end m_token m_whole m_nameSize m_fault m_place m_trouble2_2 a_letters m_failed m_hasHouse a_r a_fresh a_st a_undone a_kept m_undos m_images a_from a_begin a_motor a_change a_startFrame a_changeFrame a_lostAt a_blackAt a_slips a_leftArc a_died a_arcs m_bestSum m_nearest m_nearestTown a_there a_backAt a_sorted a_parts m_seed1 m_darkNow), (cAI g a_r 311 d_r)] rfl ?_
  refine k_if_ne 18 X dX11_threads_k0.1.2.1.2 (jp_e rfl) (fun h_9 => ?_) (fun h_9 => ?_)
  · skip
    have hc_10 := hk_8.resolve_left h_9
    have iv_11 : IV p0 0 7 := iv_meet (iv_any p0) hc_10.1 (zle_o rfl) (zle_o rfl)
    have j_12 : p0.toInt < (d_r 12).toInt := hc_10.2
    have iv_13 : IV r_5 1 1 := iv_neL h_9 iv_6 iq_0_0_0 (zle_e rfl)
    refine k_iload_n X dX11_threads_k0.2.1.2.1 2 rfl ?_
    refine k_iconst (v := 0) X dX11_threads_k0.2.1.2.2 ic_0 ?_
    refine k_sipush (v := 199) X dX11_threads_k0.2.2.1.1 si_199 ?_
    refine k_callSI (n := 3) (As := [.int p1, .int 0, .int 199]) (st := []) X [] [(cAI g a_st 44 d_st), (cAI g a_undone 528 d_undone), (cO11_i1r1i10r1i2r5i2r12i3r4i2 h0 m_thrown2_1 a_tape m_taped m_size m_at m_end m_token m_whole m_nameSize m_fault m_place m_trouble2_2 a_letters m_failed m_hasHouse a_r a_fresh a_st a_undone a_kept m_undos m_images a_from a_begin a_motor a_change a_startFrame a_changeFrame a_lostAt a_blackAt a_slips a_leftArc a_died a_arcs m_bestSum m_nearest m_nearestTown a_there a_backAt a_sorted a_parts m_seed1 m_darkNow), (cAI g a_r 311 d_r)] [] [0, 1, 2, 3] (m_inX l g p1 0 199) dX11_threads_k0.2.2.1.2 mw482 mw483 mw5 mw484 yk_yX11_in_3 rfl (Nat.le_of_ble_eq_true rfl) (Nat.le_of_ble_eq_true rfl) (Nat.le_of_ble_eq_true rfl) (Nat.le_of_ble_eq_true rfl) (Nat.le_of_ble_eq_true rfl) rfl rfl (vnd_e rfl) rfl (vnd_e rfl) (dsj_e rfl) ?_
    rintro r_14 w ⟨iv_15, hq_16, hk_17, hk_18, rfl⟩
    refine k_ws [(cAI g a_st 44 d_st), (cAI g a_undone 528 d_undone), (cO11_i1r1i10r1i2r5i2r12i3r4i2 h0 m_thrown2_1 a_tape m_taped m_size m_at m_end m_token m_whole m_nameSize m_fault m_place m_trouble2_2 a_letters m_failed m_hasHouse a_r a_fresh a_st a_undone a_kept m_undos m_images a_from a_begin a_motor a_change a_startFrame a_changeFrame a_lostAt a_blackAt a_slips a_leftArc a_died a_arcs m_bestSum m_nearest m_nearestTown a_there a_backAt a_sorted a_parts m_seed1 m_darkNow), (cAI g a_r 311 d_r)] rfl ?_
    refine k_if_ne 35 X dX11_threads_k0.2.2.2.1 (jp_e rfl) (fun h_19 => ?_) (fun h_19 => ?_)
    · skip
      have hc_20 := hk_17.resolve_left h_19
      have j_21 : 0 ≤ p1.toInt := hc_20.1
      have iv_22 : IV p1 0 2147483647 := iv_leR hc_20.1 iq_0_0_0 (iv_any p1) (zle_e rfl)
      have j_23 : p1.toInt ≤ 199 := hc_20.2
      have iv_24 : IV p1 0 199 := iv_leL hc_20.2 iv_22 iq_199_199_199 (zle_e rfl)
      have iv_25 : IV r_14 1 1 := iv_neL h_19 iv_15 iq_0_0_0 (zle_e rfl)
      refine k_aload_n X dX11_threads_k1.1.1.2.2 0 rfl ?_
      refine k_get (ci := 11) X inlX11 rfl 17 (nlt_e rfl) dX11_threads_k1.1.2.1.1 mw172 2 rfl rfl ?_
      refine k_bipush (v := 34) X dX11_threads_k1.1.2.1.2 bi_34 ?_
      refine k_iload_n X dX11_threads_k1.1.2.2.1 1 rfl ?_
      refine k_iadd X dX11_threads_k1.1.2.2.2 ?_
      refine k_nm (fun z_26 ez_26 => ?_)
      have i_27 : z_26.toInt = 34 + p0.toInt := in_add ez_26 iq_34_34_34 iv_11 (zle_e rfl) (zle_e rfl)
      have iv_28 : IV z_26 34 41 := iz2 i_27 iv_11 (zle_e rfl) (zle_e rfl)
      refine k_iald X dX11_threads_k1.2.1.1.1 0 rfl (iv_in iv_28 (zle_e rfl) (zle_l rfl)) ?_
      refine k_nm (fun z_29 ez_29 => ?_)
      refine k_iload_n X dX11_threads_k1.2.1.1.2 2 rfl ?_
      refine k_ic_ne 54 X dX11_threads_k1.2.1.2.1 (jp_e rfl) (fun h_30 => ?_) (fun h_30 => ?_)
      · skip
        refine k_aload_n X dX11_threads_k1.2.2.2.2 0 rfl ?_
        refine k_callVV (n := 0) (As := []) (st := []) X [(cO11_i1r1i10r1i2r5i2r12i3r4i2 h0 m_thrown2_1 a_tape m_taped m_size m_at m_end m_token m_whole m_nameSize m_fault m_place m_trouble2_2 a_letters m_failed m_hasHouse a_r a_fresh a_st a_undone a_kept m_undos m_images a_from a_begin a_motor a_change a_startFrame a_changeFrame a_lostAt a_blackAt a_slips a_leftArc a_died a_arcs m_bestSum m_nearest m_nearestTown a_there a_backAt a_sorted a_parts m_seed1 m_darkNow), (cAI g a_st 44 d_st), (cAI g a_undone 528 d_undone)] [(cAI g a_r 311 d_r)] [2, 0, 1] [3] (m_noteX l g h0 m_thrown2_1 a_tape m_taped m_size m_at m_end m_token m_whole m_nameSize m_fault m_place m_trouble2_2 a_letters m_failed m_hasHouse a_r a_fresh a_st a_undone a_kept m_undos m_images a_from a_begin a_motor a_change a_startFrame a_changeFrame a_lostAt a_blackAt a_slips a_leftArc a_died a_arcs m_bestSum m_nearest m_nearestTown a_there a_backAt a_sorted a_parts m_seed1 m_darkNow d_st d_undone (iv_w hv_m_undos (zle_e rfl) (zle_e rfl))) dX11_threads_k2.1.1.1 mw1475 mw1476 mw1477 mw5 mw1478 rfl 11 rfl rfl 0 _ rfl yk_yX11_note_0 rfl (Nat.le_of_ble_eq_true rfl) (Nat.le_of_ble_eq_true rfl) (Nat.le_of_ble_eq_true rfl) (Nat.le_of_ble_eq_true rfl) (Nat.le_of_ble_eq_true rfl) rfl rfl (vnd_e rfl) rfl (vnd_e rfl) (dsj_e rfl) ?_
        rintro w ⟨d_undone2_31, m_undos2_32, iv_34, hq_35, rfl⟩
        refine k_ws [(cAI g a_r 311 d_r), (cO11_i1r1i10r1i2r5i2r12i3r4i2 h0 m_thrown2_1 a_tape m_taped m_size m_at m_end m_token m_whole m_nameSize m_fault m_place m_trouble2_2 a_letters m_failed m_hasHouse a_r a_fresh a_st a_undone a_kept m_undos2_32 m_images a_from a_begin a_motor a_change a_startFrame a_changeFrame a_lostAt a_blackAt a_slips a_leftArc a_died a_arcs m_bestSum m_nearest m_nearestTown a_there a_backAt a_sorted a_parts m_seed1 m_darkNow), (cAI g a_st 44 d_st), (cAI g a_undone 528 d_undone2_31)] rfl ?_
        refine k_aload_n X dX11_threads_k2.1.1.2 0 rfl ?_
        refine k_get (ci := 11) X inlX11 rfl 17 (nlt_e rfl) dX11_threads_k2.1.2.1 mw172 1 rfl rfl ?_
        refine k_bipush (v := 34) X dX11_threads_k2.1.2.2.1 bi_34 ?_
        refine k_iload_n X dX11_threads_k2.1.2.2.2 1 rfl ?_
        refine k_iadd X dX11_threads_k2.2.1.1 ?_
        refine k_to z_26 ez_26.symm ?_
        refine k_iload_n X dX11_threads_k2.2.1.2 2 rfl ?_
        refine k_iast [(cAI g a_r 311 d_r), (cO11_i1r1i10r1i2r5i2r12i3r4i2 h0 m_thrown2_1 a_tape m_taped m_size m_at m_end m_token m_whole m_nameSize m_fault m_place m_trouble2_2 a_letters m_failed m_hasHouse a_r a_fresh a_st a_undone a_kept m_undos2_32 m_images a_from a_begin a_motor a_change a_startFrame a_changeFrame a_lostAt a_blackAt a_slips a_leftArc a_died a_arcs m_bestSum m_nearest m_nearestTown a_there a_backAt a_sorted a_parts m_seed1 m_darkNow), (cAI g a_st 44 (upd d_st (z_26 : Int32).toNatClampNeg p1)), (cAI g a_undone 528 d_undone2_31)] X dX11_threads_k2.2.2.1 2 rfl (iv_in iv_28 (zle_e rfl) (zle_l rfl)) rfl ?_
        refine k_iconst (v := 1) X dX11_threads_k2.2.2.2.1 ic_1 ?_
        exact k_zret X hr (by first | rfl | decide) dX11_threads_k2.2.2.2.2 (Nat.le_of_ble_eq_true rfl) (Nat.le_of_ble_eq_true rfl) [1, 0, 2, 3] (vnd_e rfl) rfl rfl (exI5 (upd d_st (z_26 : Int32).toNatClampNeg p1) m_thrown2_1 m_trouble2_2 d_undone2_31 m_undos2_32 ⟨(iv_w iv_34 (zle_e rfl) (zle_e rfl)), (iv_w iq_1_1_1 (zle_e rfl) (zle_e rfl)), ⟨m_thrown2_1, m_trouble2_2, hq_4, ⟨r_5, hq_7, (Or.inl ⟨h_9, ⟨r_14, hq_16, (Or.inl ⟨h_19, ⟨z_26, ez_26, ⟨z_29, ez_29, (Or.inl ⟨h_30, ⟨d_undone2_31, m_undos2_32, hq_35, ⟨rfl, rfl, rfl, rfl, rfl, rfl⟩⟩⟩)⟩⟩⟩)⟩⟩)⟩⟩, rfl⟩)
      · skip
        have iv_37 : IV z_29 0 199 := iv_meet (iv_any z_29) (iv_e h_30 iv_24) (zle_o rfl) (zle_o rfl)
        refine k_aload_n X dX11_threads_k1.2.1.2.2 0 rfl ?_
        refine k_iconst (v := 5) X dX11_threads_k1.2.2.1.1 ic_5 ?_
        refine k_callVI (n := 1) (As := [.int 5]) (st := []) X [(cO11_i1r1i10r1i2r5i2r12i3r4i2 h0 m_thrown2_1 a_tape m_taped m_size m_at m_end m_token m_whole m_nameSize m_fault m_place m_trouble2_2 a_letters m_failed m_hasHouse a_r a_fresh a_st a_undone a_kept m_undos m_images a_from a_begin a_motor a_change a_startFrame a_changeFrame a_lostAt a_blackAt a_slips a_leftArc a_died a_arcs m_bestSum m_nearest m_nearestTown a_there a_backAt a_sorted a_parts m_seed1 m_darkNow)] [(cAI g a_st 44 d_st), (cAI g a_undone 528 d_undone), (cAI g a_r 311 d_r)] [2] [0, 1, 3] (m_isNotX l g h0 5 m_thrown2_1 a_tape m_taped m_size m_at m_end m_token m_whole m_nameSize m_fault m_place m_trouble2_2 a_letters m_failed m_hasHouse a_r a_fresh a_st a_undone a_kept m_undos m_images a_from a_begin a_motor a_change a_startFrame a_changeFrame a_lostAt a_blackAt a_slips a_leftArc a_died a_arcs m_bestSum m_nearest m_nearestTown a_there a_backAt a_sorted a_parts m_seed1 m_darkNow) dX11_threads_k1.2.2.1.2 mw1471 mw1472 mw1473 mw5 mw1474 rfl 11 rfl rfl 0 _ rfl yk_yX11_isNot_1 rfl (Nat.le_of_ble_eq_true rfl) (Nat.le_of_ble_eq_true rfl) (Nat.le_of_ble_eq_true rfl) (Nat.le_of_ble_eq_true rfl) (Nat.le_of_ble_eq_true rfl) rfl rfl (vnd_e rfl) rfl (vnd_e rfl) (dsj_e rfl) ?_
        rintro r_39 w ⟨m_trouble2_38, iv_40, hq_41, rfl⟩
        refine k_ws [(cAI g a_st 44 d_st), (cAI g a_undone 528 d_undone), (cAI g a_r 311 d_r), (cO11_i1r1i10r1i2r5i2r12i3r4i2 h0 m_thrown2_1 a_tape m_taped m_size m_at m_end m_token m_whole m_nameSize m_fault m_place m_trouble2_38 a_letters m_failed m_hasHouse a_r a_fresh a_st a_undone a_kept m_undos m_images a_from a_begin a_motor a_change a_startFrame a_changeFrame a_lostAt a_blackAt a_slips a_leftArc a_died a_arcs m_bestSum m_nearest m_nearestTown a_there a_backAt a_sorted a_parts m_seed1 m_darkNow)] rfl ?_
        exact k_zret X hr (zn_b (iv_w iv_40 (zle_e rfl) (zle_e rfl))) dX11_threads_k1.2.2.2.1 (Nat.le_of_ble_eq_true rfl) (Nat.le_of_ble_eq_true rfl) [3, 2, 0, 1] (vnd_e rfl) rfl rfl (exI5 d_st m_thrown2_1 m_trouble2_38 d_undone m_undos ⟨(iv_w hv_m_undos (zle_e rfl) (zle_e rfl)), (iv_w iv_40 (zle_e rfl) (zle_e rfl)), ⟨m_thrown2_1, m_trouble2_2, hq_4, ⟨r_5, hq_7, (Or.inl ⟨h_9, ⟨r_14, hq_16, (Or.inl ⟨h_19, ⟨z_26, ez_26, ⟨z_29, ez_29, (Or.inr ⟨h_30, ⟨m_trouble2_38, r_39, hq_41, ⟨rfl, rfl, rfl, rfl, rfl, rfl⟩⟩⟩)⟩⟩⟩)⟩⟩)⟩⟩, rfl⟩)
    · skip
      have iv_42 : IV r_14 0 0 := iv_meet iv_15 (iv_e h_19 iq_0_0_0) (zle_o rfl) (zle_o rfl)
      have hc_43 := hk_18 (iv_eq iv_42 iq_0_0_0)
      have j_44 : p1.toInt < 0 ∨ 199 < p1.toInt := hc_43
      refine k_aload_n X dX11_threads_k0.2.2.2.2 0 rfl ?_
      refine k_iconst (v := 2) X dX11_threads_k1.1.1.1.1 ic_2 ?_
      refine k_callVI (n := 1) (As := [.int 2]) (st := []) X [(cO11_i1r1i10r1i2r5i2r12i3r4i2 h0 m_thrown2_1 a_tape m_taped m_size m_at m_end m_token m_whole m_nameSize m_fault m_place m_trouble2_2 a_letters m_failed m_hasHouse a_r a_fresh a_st a_undone a_kept m_undos m_images a_from a_begin a_motor a_change a_startFrame a_changeFrame a_lostAt a_blackAt a_slips a_leftArc a_died a_arcs m_bestSum m_nearest m_nearestTown a_there a_backAt a_sorted a_parts m_seed1 m_darkNow)] [(cAI g a_st 44 d_st), (cAI g a_undone 528 d_undone), (cAI g a_r 311 d_r)] [2] [0, 1, 3] (m_isNotX l g h0 2 m_thrown2_1 a_tape m_taped m_size m_at m_end m_token m_whole m_nameSize m_fault m_place m_trouble2_2 a_letters m_failed m_hasHouse a_r a_fresh a_st a_undone a_kept m_undos m_images a_from a_begin a_motor a_change a_startFrame a_changeFrame a_lostAt a_blackAt a_slips a_leftArc a_died a_arcs m_bestSum m_nearest m_nearestTown a_there a_backAt a_sorted a_parts m_seed1 m_darkNow) dX11_threads_k1.1.1.1.2 mw1471 mw1472 mw1473 mw5 mw1474 rfl 11 rfl rfl 0 _ rfl yk_yX11_isNot_1 rfl (Nat.le_of_ble_eq_true rfl) (Nat.le_of_ble_eq_true rfl) (Nat.le_of_ble_eq_true rfl) (Nat.le_of_ble_eq_true rfl) (Nat.le_of_ble_eq_true rfl) rfl rfl (vnd_e rfl) rfl (vnd_e rfl) (dsj_e rfl) ?_
      rintro r_46 w ⟨m_trouble2_45, iv_47, hq_48, rfl⟩
      refine k_ws [(cAI g a_st 44 d_st), (cAI g a_undone 528 d_undone), (cAI g a_r 311 d_r), (cO11_i1r1i10r1i2r5i2r12i3r4i2 h0 m_thrown2_1 a_tape m_taped m_size m_at m_end m_token m_whole m_nameSize m_fault m_place m_trouble2_45 a_letters m_failed m_hasHouse a_r a_fresh a_st a_undone a_kept m_undos m_images a_from a_begin a_motor a_change a_startFrame a_changeFrame a_lostAt a_blackAt a_slips a_leftArc a_died a_arcs m_bestSum m_nearest m_nearestTown a_there a_backAt a_sorted a_parts m_seed1 m_darkNow)] rfl ?_
      exact k_zret X hr (zn_b (iv_w iv_47 (zle_e rfl) (zle_e rfl))) dX11_threads_k1.1.1.2.1 (Nat.le_of_ble_eq_true rfl) (Nat.le_of_ble_eq_true rfl) [3, 2, 0, 1] (vnd_e rfl) rfl rfl (exI5 d_st m_thrown2_1 m_trouble2_45 d_undone m_undos ⟨(iv_w hv_m_undos (zle_e rfl) (zle_e rfl)), (iv_w iv_47 (zle_e rfl) (zle_e rfl)), ⟨m_thrown2_1, m_trouble2_2, hq_4, ⟨r_5, hq_7, (Or.inl ⟨h_9, ⟨r_14, hq_16, (Or.inr ⟨h_19, ⟨m_trouble2_45, r_46, hq_48, ⟨rfl, rfl, rfl, rfl, rfl, rfl⟩⟩⟩)⟩⟩)⟩⟩, rfl⟩)
  · skip
    have iv_49 : IV r_5 0 0 := iv_meet iv_6 (iv_e h_9 iq_0_0_0) (zle_o rfl) (zle_o rfl)
    refine k_aload_n X dX11_threads_k0.1.2.2.1 0 rfl ?_
    refine k_iconst (v := 1) X dX11_threads_k0.1.2.2.2 ic_1 ?_
    refine k_callVI (n := 1) (As := [.int 1]) (st := []) X [(cO11_i1r1i10r1i2r5i2r12i3r4i2 h0 m_thrown2_1 a_tape m_taped m_size m_at m_end m_token m_whole m_nameSize m_fault m_place m_trouble2_2 a_letters m_failed m_hasHouse a_r a_fresh a_st a_undone a_kept m_undos m_images a_from a_begin a_motor a_change a_startFrame a_changeFrame a_lostAt a_blackAt a_slips a_leftArc a_died a_arcs m_bestSum m_nearest m_nearestTown a_there a_backAt a_sorted a_parts m_seed1 m_darkNow)] [(cAI g a_st 44 d_st), (cAI g a_undone 528 d_undone), (cAI g a_r 311 d_r)] [2] [0, 1, 3] (m_isNotX l g h0 1 m_thrown2_1 a_tape m_taped m_size m_at m_end m_token m_whole m_nameSize m_fault m_place m_trouble2_2 a_letters m_failed m_hasHouse a_r a_fresh a_st a_undone a_kept m_undos m_images a_from a_begin a_motor a_change a_startFrame a_changeFrame a_lostAt a_blackAt a_slips a_leftArc a_died a_arcs m_bestSum m_nearest m_nearestTown a_there a_backAt a_sorted a_parts m_seed1 m_darkNow) dX11_threads_k0.2.1.1.1 mw1471 mw1472 mw1473 mw5 mw1474 rfl 11 rfl rfl 0 _ rfl yk_yX11_isNot_1 rfl (Nat.le_of_ble_eq_true rfl) (Nat.le_of_ble_eq_true rfl) (Nat.le_of_ble_eq_true rfl) (Nat.le_of_ble_eq_true rfl) (Nat.le_of_ble_eq_true rfl) rfl rfl (vnd_e rfl) rfl (vnd_e rfl) (dsj_e rfl) ?_
    rintro r_51 w ⟨m_trouble2_50, iv_52, hq_53, rfl⟩
    refine k_ws [(cAI g a_st 44 d_st), (cAI g a_undone 528 d_undone), (cAI g a_r 311 d_r), (cO11_i1r1i10r1i2r5i2r12i3r4i2 h0 m_thrown2_1 a_tape m_taped m_size m_at m_end m_token m_whole m_nameSize m_fault m_place m_trouble2_50 a_letters m_failed m_hasHouse a_r a_fresh a_st a_undone a_kept m_undos m_images a_from a_begin a_motor a_change a_startFrame a_changeFrame a_lostAt a_blackAt a_slips a_leftArc a_died a_arcs m_bestSum m_nearest m_nearestTown a_there a_backAt a_sorted a_parts m_seed1 m_darkNow)] rfl ?_
    exact k_zret X hr (zn_b (iv_w iv_52 (zle_e rfl) (zle_e rfl))) dX11_threads_k0.2.1.1.2 (Nat.le_of_ble_eq_true rfl) (Nat.le_of_ble_eq_true rfl) [3, 2, 0, 1] (vnd_e rfl) rfl rfl (exI5 d_st m_thrown2_1 m_trouble2_50 d_undone m_undos ⟨(iv_w hv_m_undos (zle_e rfl) (zle_e rfl)), (iv_w iv_52 (zle_e rfl) (zle_e rfl)), ⟨m_thrown2_1, m_trouble2_2, hq_4, ⟨r_5, hq_7, (Or.inr ⟨h_9, ⟨m_trouble2_50, r_51, hq_53, ⟨rfl, rfl, rfl, rfl, rfl, rfl⟩⟩⟩)⟩⟩, rfl⟩)


set_option maxHeartbeats 4000000 in
set_option maxRecDepth 100000 in
theorem m_trimX (l : Launch) (g : Gx) (h0 : Nat) (p0 : Int32) (p1 : Int32) (m_thrown : Int32) (a_tape : Nat) (m_taped : Int32) (m_size : Int32) (m_at : Int32) (m_end : Int32) (m_token : Int32) (m_whole : Int32) (m_nameSize : Int32) (m_fault : Int32) (m_place : Int32) (m_trouble : Int32) (a_letters : Nat) (m_failed : Int32) (m_hasHouse : Int32) (a_r : Nat) (a_fresh : Nat) (a_st : Nat) (a_undone : Nat) (a_kept : Nat) (m_undos : Int32) (m_images : Int32) (a_from : Nat) (a_begin : Nat) (a_motor : Nat) (a_change : Nat) (a_startFrame : Nat) (a_changeFrame : Nat) (a_lostAt : Nat) (a_blackAt : Nat) (a_slips : Nat) (a_leftArc : Nat) (a_died : Nat) (a_arcs : Nat) (m_bestSum : Int32) (m_nearest : Int32) (m_nearestTown : Int32) (a_there : Nat) (a_backAt : Nat) (a_sorted : Nat) (a_parts : Nat) (m_seed1 : Int32) (m_darkNow : Int32) (d_r : Nat → Int32) (d_st : Nat → Int32) (d_undone : Nat → Int32) (hv_m_hasHouse : IV m_hasHouse 0 1) (hv_m_undos : IV m_undos 0 12) (hp_d_r : RInv d_r) : cI l g yX11_trim cX11_trim 3 (some .boolean) 2 46 0 0 [.ref h0, .int p0, .int p1] [(cO11_i1r1i10r1i2r5i2r12i3r4i2 h0 m_thrown a_tape m_taped m_size m_at m_end m_token m_whole m_nameSize m_fault m_place m_trouble a_letters m_failed m_hasHouse a_r a_fresh a_st a_undone a_kept m_undos m_images a_from a_begin a_motor a_change a_startFrame a_changeFrame a_lostAt a_blackAt a_slips a_leftArc a_died a_arcs m_bestSum m_nearest m_nearestTown a_there a_backAt a_sorted a_parts m_seed1 m_darkNow), (cAI g a_r 311 d_r), (cAI g a_st 44 d_st), (cAI g a_undone 528 d_undone)] (fun r w => ∃ (d_st2 : Nat → Int32) (m_thrown2 : Int32) (m_trouble2 : Int32) (d_undone2 : Nat → Int32) (m_undos2 : Int32), IV m_undos2 0 12 ∧ IV r 0 1 ∧ (R_m_trimX p0 p1 m_hasHouse m_undos d_r d_st d_undone d_st2 m_thrown2 m_trouble2 d_undone2 m_undos2 r) ∧ w = [(cO11_i1r1i10r1i2r5i2r12i3r4i2 h0 m_thrown2 a_tape m_taped m_size m_at m_end m_token m_whole m_nameSize m_fault m_place m_trouble2 a_letters m_failed m_hasHouse a_r a_fresh a_st a_undone a_kept m_undos2 m_images a_from a_begin a_motor a_change a_startFrame a_changeFrame a_lostAt a_blackAt a_slips a_leftArc a_died a_arcs m_bestSum m_nearest m_nearestTown a_there a_backAt a_sorted a_parts m_seed1 m_darkNow), (cAI g a_r 311 d_r), (cAI g a_st 44 d_st2), (cAI g a_undone 528 d_undone2)]) := by
  refine cI.of (by decide) (Nat.le_of_ble_eq_true rfl) ?_
  intro p e s m args below meth c A X hr hi
  refine k_lveq [(0, .ref h0), (1, .int p0), (2, .int p1)] rfl ?_
  refine k_aload_n X dX11_trim_k0.1.1.1.1 0 rfl ?_
  refine k_callVV (n := 0) (As := []) (st := []) X [(cO11_i1r1i10r1i2r5i2r12i3r4i2 h0 m_thrown a_tape m_taped m_size m_at m_end m_token m_whole m_nameSize m_fault m_place m_trouble a_letters m_failed m_hasHouse a_r a_fresh a_st a_undone a_kept m_undos m_images a_from a_begin a_motor a_change a_startFrame a_changeFrame a_lostAt a_blackAt a_slips a_leftArc a_died a_arcs m_bestSum m_nearest m_nearestTown a_there a_backAt a_sorted a_parts m_seed1 m_darkNow)] [(cAI g a_r 311 d_r), (cAI g a_st 44 d_st), (cAI g a_undone 528 d_undone)] [0] [1, 2, 3] (m_goodX l g h0 m_thrown a_tape m_taped m_size m_at m_end m_token m_whole m_nameSize m_fault m_place m_trouble a_letters m_failed m_hasHouse a_r a_fresh a_st a_undone a_kept m_undos m_images a_from a_begin a_motor a_change a_startFrame a_changeFrame a_lostAt a_blackAt a_slips a_leftArc a_died a_arcs m_bestSum m_nearest m_nearestTown a_there a_backAt a_sorted a_parts m_seed1 m_darkNow) dX11_trim_k0.1.1.1.2 mw477 mw478 mw479 mw5 mw480 rfl 11 rfl rfl 0 _ rfl yk_yX11_good_0 rfl (Nat.le_of_ble_eq_true rfl) (Nat.le_of_ble_eq_true rfl) (Nat.le_of_ble_eq_true rfl) (Nat.le_of_ble_eq_true rfl) (Nat.le_of_ble_eq_true rfl) rfl rfl (vnd_e rfl) rfl (vnd_e rfl) (dsj_e rfl) ?_
  rintro w ⟨m_thrown2_1, m_trouble2_2, hq_4, rfl⟩
  refine k_ws [(cAI g a_r 311 d_r), (cAI g a_st 44 d_st), (cAI g a_undone 528 d_undone), (cO11_i1r1i10r1i2r5i2r12i3r4i2 h0 m_thrown2_1 a_tape m_taped m_size m_at m_end m_token m_whole m_nameSize m_fault m_place m_trouble2_2 a_letters m_failed m_hasHouse a_r a_fresh a_st a_undone a_kept m_undos m_images a_from a_begin a_motor a_change a_startFrame a_changeFrame a_lostAt a_blackAt a_slips a_leftArc a_died a_arcs m_bestSum m_nearest m_nearestTown a_there a_backAt a_sorted a_parts m_seed1 m_darkNow)] rfl ?_
  refine k_aload_n X dX11_trim_k0.1.1.2.1 0 rfl ?_
  refine k_iload_n X dX11_trim_k0.1.1.2.2 1 rfl ?_
  refine k_callVI (n := 1) (As := [.int p0]) (st := []) X [(cO11_i1r1i10r1i2r5i2r12i3r4i2 h0 m_thrown2_1 a_tape m_taped m_size m_at m_end m_token m_whole m_nameSize m_fault m_place m_trouble2_2 a_letters m_failed m_hasHouse a_r a_fresh a_st a_undone a_kept m_undos m_images a_from a_begin a_motor a_change a_startFrame a_changeFrame a_lostAt a_blackAt a_slips a_leftArc a_died a_arcs m_bestSum m_nearest m_nearestTown a_there a_backAt a_sorted a_parts m_seed1 m_darkNow), (cAI g a_r 311 d_r)] [(cAI g a_st 44 d_st), (cAI g a_undone 528 d_undone)] [3, 0] [1, 2] (m_isPlaceX l g h0 p0 m_thrown2_1 a_tape m_taped m_size m_at m_end m_token m_whole m_nameSize m_fault m_place m_trouble2_2 a_letters m_failed m_hasHouse a_r a_fresh a_st a_undone a_kept m_undos m_images a_from a_begin a_motor a_change a_startFrame a_changeFrame a_lostAt a_blackAt a_slips a_leftArc a_died a_arcs m_bestSum m_nearest m_nearestTown a_there a_backAt a_sorted a_parts m_seed1 m_darkNow d_r (iv_w hv_m_hasHouse (zle_e rfl) (zle_e rfl)) hp_d_r) dX11_trim_k0.1.2.1.1 mw719 mw720 mw721 mw5 mw722 rfl 11 rfl rfl 0 _ rfl yk_yX11_isPlace_1 rfl (Nat.le_of_ble_eq_true rfl) (Nat.le_of_ble_eq_true rfl) (Nat.le_of_ble_eq_true rfl) (Nat.le_of_ble_eq_true rfl) (Nat.le_of_ble_eq_true rfl) rfl rfl (vnd_e rfl) rfl (vnd_e rfl) (dsj_e rfl) ?_
  rintro r_5 w ⟨iv_6, hq_7, hk_8, rfl⟩
  refine k_ws [(cAI g a_st 44 d_st), (cAI g a_undone 528 d_undone), (cO11_i1r1i10r1i2r5i2r12i3r4i2 h0 m_thrown2_1 a_tape m_taped m_size m_at m_end m_token m_whole m_nameSize m_fault m_place m_trouble2_2 a_letters m_failed m_hasHouse a_r a_fresh a_st a_undone a_kept m_undos m_images a_from a_begin a_motor a_change a_startFrame a_changeFrame a_lostAt a_blackAt a_slips a_leftArc a_died a_arcs m_bestSum m_nearest m_nearestTown a_there a_backAt a_sorted a_parts m_seed1 m_darkNow), (cAI g a_r 311 d_r)] rfl ?_
  refine k_if_ne 18 X dX11_trim_k0.1.2.1.2 (jp_e rfl) (fun h_9 => ?_) (fun h_9 => ?_)
  · skip
    have hc_10 := hk_8.resolve_left h_9
    have iv_11 : IV p0 0 7 := iv_meet (iv_any p0) hc_10.1 (zle_o rfl) (zle_o rfl)
    have j_12 : p0.toInt < (d_r 12).toInt := hc_10.2
    have iv_13 : IV r_5 1 1 := iv_neL h_9 iv_6 iq_0_0_0 (zle_e rfl)
    refine k_aload_n X dX11_trim_k0.2.1.2.1 0 rfl ?_
    refine k_get (ci := 11) X inlX11 rfl 17 (nlt_e rfl) dX11_trim_k0.2.1.2.2 mw172 2 rfl rfl ?_
    refine k_bipush (v := 42) X dX11_trim_k0.2.2.1.1 bi_42 ?_
    refine k_iald X dX11_trim_k0.2.2.1.2 0 rfl (by unfold vp_in; decide) ?_
    refine k_nm (fun z_14 ez_14 => ?_)
    refine k_iload_n X dX11_trim_k0.2.2.2.1 1 rfl ?_
    refine k_callSI (n := 2) (As := [.int z_14, .int p0]) (st := []) X [] [(cAI g a_st 44 d_st), (cAI g a_undone 528 d_undone), (cO11_i1r1i10r1i2r5i2r12i3r4i2 h0 m_thrown2_1 a_tape m_taped m_size m_at m_end m_token m_whole m_nameSize m_fault m_place m_trouble2_2 a_letters m_failed m_hasHouse a_r a_fresh a_st a_undone a_kept m_undos m_images a_from a_begin a_motor a_change a_startFrame a_changeFrame a_lostAt a_blackAt a_slips a_leftArc a_died a_arcs m_bestSum m_nearest m_nearestTown a_there a_backAt a_sorted a_parts m_seed1 m_darkNow), (cAI g a_r 311 d_r)] [] [0, 1, 2, 3] (m_hasBitX l g z_14 p0) dX11_trim_k0.2.2.2.2 mw686 mw687 mw5 mw688 yk_yX11_hasBit_2 rfl (Nat.le_of_ble_eq_true rfl) (Nat.le_of_ble_eq_true rfl) (Nat.le_of_ble_eq_true rfl) (Nat.le_of_ble_eq_true rfl) (Nat.le_of_ble_eq_true rfl) rfl rfl (vnd_e rfl) rfl (vnd_e rfl) (dsj_e rfl) ?_
    rintro r_15 w ⟨iv_16, hq_17, rfl⟩
    refine k_ws [(cAI g a_st 44 d_st), (cAI g a_undone 528 d_undone), (cO11_i1r1i10r1i2r5i2r12i3r4i2 h0 m_thrown2_1 a_tape m_taped m_size m_at m_end m_token m_whole m_nameSize m_fault m_place m_trouble2_2 a_letters m_failed m_hasHouse a_r a_fresh a_st a_undone a_kept m_undos m_images a_from a_begin a_motor a_change a_startFrame a_changeFrame a_lostAt a_blackAt a_slips a_leftArc a_died a_arcs m_bestSum m_nearest m_nearestTown a_there a_backAt a_sorted a_parts m_seed1 m_darkNow), (cAI g a_r 311 d_r)] rfl ?_
    refine k_iload_n X dX11_trim_k1.1.1.1.1 2 rfl ?_
    refine k_ic_ne 39 X dX11_trim_k1.1.1.1.2 (jp_e rfl) (fun h_18 => ?_) (fun h_18 => ?_)
    · skip
      refine k_aload_n X dX11_trim_k1.1.2.2.1 0 rfl ?_
      refine k_callVV (n := 0) (As := []) (st := []) X [(cO11_i1r1i10r1i2r5i2r12i3r4i2 h0 m_thrown2_1 a_tape m_taped m_size m_at m_end m_token m_whole m_nameSize m_fault m_place m_trouble2_2 a_letters m_failed m_hasHouse a_r a_fresh a_st a_undone a_kept m_undos m_images a_from a_begin a_motor a_change a_startFrame a_changeFrame a_lostAt a_blackAt a_slips a_leftArc a_died a_arcs m_bestSum m_nearest m_nearestTown a_there a_backAt a_sorted a_parts m_seed1 m_darkNow), (cAI g a_st 44 d_st), (cAI g a_undone 528 d_undone)] [(cAI g a_r 311 d_r)] [2, 0, 1] [3] (m_noteX l g h0 m_thrown2_1 a_tape m_taped m_size m_at m_end m_token m_whole m_nameSize m_fault m_place m_trouble2_2 a_letters m_failed m_hasHouse a_r a_fresh a_st a_undone a_kept m_undos m_images a_from a_begin a_motor a_change a_startFrame a_changeFrame a_lostAt a_blackAt a_slips a_leftArc a_died a_arcs m_bestSum m_nearest m_nearestTown a_there a_backAt a_sorted a_parts m_seed1 m_darkNow d_st d_undone (iv_w hv_m_undos (zle_e rfl) (zle_e rfl))) dX11_trim_k1.1.2.2.2 mw1475 mw1476 mw1477 mw5 mw1478 rfl 11 rfl rfl 0 _ rfl yk_yX11_note_0 rfl (Nat.le_of_ble_eq_true rfl) (Nat.le_of_ble_eq_true rfl) (Nat.le_of_ble_eq_true rfl) (Nat.le_of_ble_eq_true rfl) (Nat.le_of_ble_eq_true rfl) rfl rfl (vnd_e rfl) rfl (vnd_e rfl) (dsj_e rfl) ?_
      rintro w ⟨d_undone2_19, m_undos2_20, iv_22, hq_23, rfl⟩
      refine k_ws [(cAI g a_r 311 d_r), (cO11_i1r1i10r1i2r5i2r12i3r4i2 h0 m_thrown2_1 a_tape m_taped m_size m_at m_end m_token m_whole m_nameSize m_fault m_place m_trouble2_2 a_letters m_failed m_hasHouse a_r a_fresh a_st a_undone a_kept m_undos2_20 m_images a_from a_begin a_motor a_change a_startFrame a_changeFrame a_lostAt a_blackAt a_slips a_leftArc a_died a_arcs m_bestSum m_nearest m_nearestTown a_there a_backAt a_sorted a_parts m_seed1 m_darkNow), (cAI g a_st 44 d_st), (cAI g a_undone 528 d_undone2_19)] rfl ?_
      refine k_aload_n X dX11_trim_k1.2.1.1.1 0 rfl ?_
      refine k_get (ci := 11) X inlX11 rfl 17 (nlt_e rfl) dX11_trim_k1.2.1.1.2 mw172 1 rfl rfl ?_
      refine k_bipush (v := 42) X dX11_trim_k1.2.1.2.1 bi_42 ?_
      refine k_dup2 X dX11_trim_k1.2.1.2.2 rfl rfl ?_
      refine k_iald X dX11_trim_k1.2.2.1.1 2 rfl (by unfold vp_in; decide) ?_
      refine k_to z_14 ez_14.symm ?_
      refine k_iconst (v := 1) X dX11_trim_k1.2.2.1.2 ic_1 ?_
      refine k_iload_n X dX11_trim_k1.2.2.2.1 1 rfl ?_
      refine k_ishl X dX11_trim_k1.2.2.2.2 ?_
      refine k_nm (fun z_24 ez_24 => ?_)
      have iv_25 : IV z_24 1 256 := iv_shl ez_24 (iv_w iv_11 (zle_e rfl) (zle_e rfl))
      refine k_ixor X dX11_trim_k2.1.1 ?_
      refine k_nm (fun z_26 ez_26 => ?_)
      refine k_iast [(cAI g a_r 311 d_r), (cO11_i1r1i10r1i2r5i2r12i3r4i2 h0 m_thrown2_1 a_tape m_taped m_size m_at m_end m_token m_whole m_nameSize m_fault m_place m_trouble2_2 a_letters m_failed m_hasHouse a_r a_fresh a_st a_undone a_kept m_undos2_20 m_images a_from a_begin a_motor a_change a_startFrame a_changeFrame a_lostAt a_blackAt a_slips a_leftArc a_died a_arcs m_bestSum m_nearest m_nearestTown a_there a_backAt a_sorted a_parts m_seed1 m_darkNow), (cAI g a_st 44 (upd d_st (42 : Int32).toNatClampNeg z_26)), (cAI g a_undone 528 d_undone2_19)] X dX11_trim_k2.1.2 2 rfl (by unfold vp_in; decide) rfl ?_
      refine k_iconst (v := 1) X dX11_trim_k2.2.1 ic_1 ?_
      exact k_zret X hr (by first | rfl | decide) dX11_trim_k2.2.2 (Nat.le_of_ble_eq_true rfl) (Nat.le_of_ble_eq_true rfl) [1, 0, 2, 3] (vnd_e rfl) rfl rfl (exI5 (upd d_st (42 : Int32).toNatClampNeg z_26) m_thrown2_1 m_trouble2_2 d_undone2_19 m_undos2_20 ⟨(iv_w iv_22 (zle_e rfl) (zle_e rfl)), (iv_w iq_1_1_1 (zle_e rfl) (zle_e rfl)), ⟨m_thrown2_1, m_trouble2_2, hq_4, ⟨r_5, hq_7, (Or.inl ⟨h_9, ⟨z_14, ez_14, ⟨r_15, hq_17, (Or.inl ⟨h_18, ⟨d_undone2_19, m_undos2_20, hq_23, ⟨z_24, ez_24, ⟨z_26, ez_26, ⟨rfl, rfl, rfl, rfl, rfl, rfl⟩⟩⟩⟩⟩)⟩⟩⟩)⟩⟩, rfl⟩)
    · skip
      have iv_28 : IV p1 0 1 := iv_meet (iv_any p1) (iv_e h_18.symm iv_16) (zle_o rfl) (zle_o rfl)
      refine k_aload_n X dX11_trim_k1.1.1.2.1 0 rfl ?_
      refine k_iconst (v := 5) X dX11_trim_k1.1.1.2.2 ic_5 ?_
      refine k_callVI (n := 1) (As := [.int 5]) (st := []) X [(cO11_i1r1i10r1i2r5i2r12i3r4i2 h0 m_thrown2_1 a_tape m_taped m_size m_at m_end m_token m_whole m_nameSize m_fault m_place m_trouble2_2 a_letters m_failed m_hasHouse a_r a_fresh a_st a_undone a_kept m_undos m_images a_from a_begin a_motor a_change a_startFrame a_changeFrame a_lostAt a_blackAt a_slips a_leftArc a_died a_arcs m_bestSum m_nearest m_nearestTown a_there a_backAt a_sorted a_parts m_seed1 m_darkNow)] [(cAI g a_st 44 d_st), (cAI g a_undone 528 d_undone), (cAI g a_r 311 d_r)] [2] [0, 1, 3] (m_isNotX l g h0 5 m_thrown2_1 a_tape m_taped m_size m_at m_end m_token m_whole m_nameSize m_fault m_place m_trouble2_2 a_letters m_failed m_hasHouse a_r a_fresh a_st a_undone a_kept m_undos m_images a_from a_begin a_motor a_change a_startFrame a_changeFrame a_lostAt a_blackAt a_slips a_leftArc a_died a_arcs m_bestSum m_nearest m_nearestTown a_there a_backAt a_sorted a_parts m_seed1 m_darkNow) dX11_trim_k1.1.2.1.1 mw1471 mw1472 mw1473 mw5 mw1474 rfl 11 rfl rfl 0 _ rfl yk_yX11_isNot_1 rfl (Nat.le_of_ble_eq_true rfl) (Nat.le_of_ble_eq_true rfl) (Nat.le_of_ble_eq_true rfl) (Nat.le_of_ble_eq_true rfl) (Nat.le_of_ble_eq_true rfl) rfl rfl (vnd_e rfl) rfl (vnd_e rfl) (dsj_e rfl) ?_
      rintro r_30 w ⟨m_trouble2_29, iv_31, hq_32, rfl⟩
      refine k_ws [(cAI g a_st 44 d_st), (cAI g a_undone 528 d_undone), (cAI g a_r 311 d_r), (cO11_i1r1i10r1i2r5i2r12i3r4i2 h0 m_thrown2_1 a_tape m_taped m_size m_at m_end m_token m_whole m_nameSize m_fault m_place m_trouble2_29 a_letters m_failed m_hasHouse a_r a_fresh a_st a_undone a_kept m_undos m_images a_from a_begin a_motor a_change a_startFrame a_changeFrame a_lostAt a_blackAt a_slips a_leftArc a_died a_arcs m_bestSum m_nearest m_nearestTown a_there a_backAt a_sorted a_parts m_seed1 m_darkNow)] rfl ?_
      exact k_zret X hr (zn_b (iv_w iv_31 (zle_e rfl) (zle_e rfl))) dX11_trim_k1.1.2.1.2 (Nat.le_of_ble_eq_true rfl) (Nat.le_of_ble_eq_true rfl) [3, 2, 0, 1] (vnd_e rfl) rfl rfl (exI5 d_st m_thrown2_1 m_trouble2_29 d_undone m_undos ⟨(iv_w hv_m_undos (zle_e rfl) (zle_e rfl)), (iv_w iv_31 (zle_e rfl) (zle_e rfl)), ⟨m_thrown2_1, m_trouble2_2, hq_4, ⟨r_5, hq_7, (Or.inl ⟨h_9, ⟨z_14, ez_14, ⟨r_15, hq_17, (Or.inr ⟨h_18, ⟨m_trouble2_29, r_30, hq_32, ⟨rfl, rfl, rfl, rfl, rfl, rfl⟩⟩⟩)⟩⟩⟩)⟩⟩, rfl⟩)
  · skip
    have iv_33 : IV r_5 0 0 := iv_meet iv_6 (iv_e h_9 iq_0_0_0) (zle_o rfl) (zle_o rfl)
    refine k_aload_n X dX11_trim_k0.1.2.2.1 0 rfl ?_
    refine k_iconst (v := 1) X dX11_trim_k0.1.2.2.2 ic_1 ?_
    refine k_callVI (n := 1) (As := [.int 1]) (st := []) X [(cO11_i1r1i10r1i2r5i2r12i3r4i2 h0 m_thrown2_1 a_tape m_taped m_size m_at m_end m_token m_whole m_nameSize m_fault m_place m_trouble2_2 a_letters m_failed m_hasHouse a_r a_fresh a_st a_undone a_kept m_undos m_images a_from a_begin a_motor a_change a_startFrame a_changeFrame a_lostAt a_blackAt a_slips a_leftArc a_died a_arcs m_bestSum m_nearest m_nearestTown a_there a_backAt a_sorted a_parts m_seed1 m_darkNow)] [(cAI g a_st 44 d_st), (cAI g a_undone 528 d_undone), (cAI g a_r 311 d_r)] [2] [0, 1, 3] (m_isNotX l g h0 1 m_thrown2_1 a_tape m_taped m_size m_at m_end m_token m_whole m_nameSize m_fault m_place m_trouble2_2 a_letters m_failed m_hasHouse a_r a_fresh a_st a_undone a_kept m_undos m_images a_from a_begin a_motor a_change a_startFrame a_changeFrame a_lostAt a_blackAt a_slips a_leftArc a_died a_arcs m_bestSum m_nearest m_nearestTown a_there a_backAt a_sorted a_parts m_seed1 m_darkNow) dX11_trim_k0.2.1.1.1 mw1471 mw1472 mw1473 mw5 mw1474 rfl 11 rfl rfl 0 _ rfl yk_yX11_isNot_1 rfl (Nat.le_of_ble_eq_true rfl) (Nat.le_of_ble_eq_true rfl) (Nat.le_of_ble_eq_true rfl) (Nat.le_of_ble_eq_true rfl) (Nat.le_of_ble_eq_true rfl) rfl rfl (vnd_e rfl) rfl (vnd_e rfl) (dsj_e rfl) ?_
    rintro r_35 w ⟨m_trouble2_34, iv_36, hq_37, rfl⟩
    refine k_ws [(cAI g a_st 44 d_st), (cAI g a_undone 528 d_undone), (cAI g a_r 311 d_r), (cO11_i1r1i10r1i2r5i2r12i3r4i2 h0 m_thrown2_1 a_tape m_taped m_size m_at m_end m_token m_whole m_nameSize m_fault m_place m_trouble2_34 a_letters m_failed m_hasHouse a_r a_fresh a_st a_undone a_kept m_undos m_images a_from a_begin a_motor a_change a_startFrame a_changeFrame a_lostAt a_blackAt a_slips a_leftArc a_died a_arcs m_bestSum m_nearest m_nearestTown a_there a_backAt a_sorted a_parts m_seed1 m_darkNow)] rfl ?_
    exact k_zret X hr (zn_b (iv_w iv_36 (zle_e rfl) (zle_e rfl))) dX11_trim_k0.2.1.1.2 (Nat.le_of_ble_eq_true rfl) (Nat.le_of_ble_eq_true rfl) [3, 2, 0, 1] (vnd_e rfl) rfl rfl (exI5 d_st m_thrown2_1 m_trouble2_34 d_undone m_undos ⟨(iv_w hv_m_undos (zle_e rfl) (zle_e rfl)), (iv_w iv_36 (zle_e rfl) (zle_e rfl)), ⟨m_thrown2_1, m_trouble2_2, hq_4, ⟨r_5, hq_7, (Or.inr ⟨h_9, ⟨m_trouble2_34, r_35, hq_37, ⟨rfl, rfl, rfl, rfl, rfl, rfl⟩⟩⟩)⟩⟩, rfl⟩)


set_option maxHeartbeats 4000000 in
set_option maxRecDepth 100000 in
theorem m_mendX (l : Launch) (g : Gx) (h0 : Nat) (p0 : Int32) (m_thrown : Int32) (a_tape : Nat) (m_taped : Int32) (m_size : Int32) (m_at : Int32) (m_end : Int32) (m_token : Int32) (m_whole : Int32) (m_nameSize : Int32) (m_fault : Int32) (m_place : Int32) (m_trouble : Int32) (a_letters : Nat) (m_failed : Int32) (m_hasHouse : Int32) (a_r : Nat) (a_fresh : Nat) (a_st : Nat) (a_undone : Nat) (a_kept : Nat) (m_undos : Int32) (m_images : Int32) (a_from : Nat) (a_begin : Nat) (a_motor : Nat) (a_change : Nat) (a_startFrame : Nat) (a_changeFrame : Nat) (a_lostAt : Nat) (a_blackAt : Nat) (a_slips : Nat) (a_leftArc : Nat) (a_died : Nat) (a_arcs : Nat) (m_bestSum : Int32) (m_nearest : Int32) (m_nearestTown : Int32) (a_there : Nat) (a_backAt : Nat) (a_sorted : Nat) (a_parts : Nat) (m_seed1 : Int32) (m_darkNow : Int32) (d_r : Nat → Int32) (d_st : Nat → Int32) (d_undone : Nat → Int32) (hv_m_hasHouse : IV m_hasHouse 0 1) (hv_m_undos : IV m_undos 0 12) (hp_d_r : RInv d_r) : cI l g yX11_mend cX11_mend 6 (some .int) 2 46 0 0 [.ref h0, .int p0] [(cO11_i1r1i10r1i2r5i2r12i3r4i2 h0 m_thrown a_tape m_taped m_size m_at m_end m_token m_whole m_nameSize m_fault m_place m_trouble a_letters m_failed m_hasHouse a_r a_fresh a_st a_undone a_kept m_undos m_images a_from a_begin a_motor a_change a_startFrame a_changeFrame a_lostAt a_blackAt a_slips a_leftArc a_died a_arcs m_bestSum m_nearest m_nearestTown a_there a_backAt a_sorted a_parts m_seed1 m_darkNow), (cAI g a_r 311 d_r), (cAI g a_st 44 d_st), (cAI g a_undone 528 d_undone)] (fun r w => ∃ (d_st2 : Nat → Int32) (m_thrown2 : Int32) (m_trouble2 : Int32) (d_undone2 : Nat → Int32) (m_undos2 : Int32), IV m_undos2 0 12 ∧ (R_m_mendX p0 m_hasHouse m_undos d_r d_st d_undone d_st2 m_thrown2 m_trouble2 d_undone2 m_undos2 r) ∧ w = [(cO11_i1r1i10r1i2r5i2r12i3r4i2 h0 m_thrown2 a_tape m_taped m_size m_at m_end m_token m_whole m_nameSize m_fault m_place m_trouble2 a_letters m_failed m_hasHouse a_r a_fresh a_st a_undone a_kept m_undos2 m_images a_from a_begin a_motor a_change a_startFrame a_changeFrame a_lostAt a_blackAt a_slips a_leftArc a_died a_arcs m_bestSum m_nearest m_nearestTown a_there a_backAt a_sorted a_parts m_seed1 m_darkNow), (cAI g a_r 311 d_r), (cAI g a_st 44 d_st2), (cAI g a_undone 528 d_undone2)]) := by
  refine cI.of (by decide) (Nat.le_of_ble_eq_true rfl) ?_
  intro p e s m args below meth c A X hr hi
  refine k_lveq [(0, .ref h0), (1, .int p0)] rfl ?_
  refine k_aload_n X dX11_mend_k0.1.1.1.1 0 rfl ?_
  refine k_callVV (n := 0) (As := []) (st := []) X [(cO11_i1r1i10r1i2r5i2r12i3r4i2 h0 m_thrown a_tape m_taped m_size m_at m_end m_token m_whole m_nameSize m_fault m_place m_trouble a_letters m_failed m_hasHouse a_r a_fresh a_st a_undone a_kept m_undos m_images a_from a_begin a_motor a_change a_startFrame a_changeFrame a_lostAt a_blackAt a_slips a_leftArc a_died a_arcs m_bestSum m_nearest m_nearestTown a_there a_backAt a_sorted a_parts m_seed1 m_darkNow)] [(cAI g a_r 311 d_r), (cAI g a_st 44 d_st), (cAI g a_undone 528 d_undone)] [0] [1, 2, 3] (m_goodX l g h0 m_thrown a_tape m_taped m_size m_at m_end m_token m_whole m_nameSize m_fault m_place m_trouble a_letters m_failed m_hasHouse a_r a_fresh a_st a_undone a_kept m_undos m_images a_from a_begin a_motor a_change a_startFrame a_changeFrame a_lostAt a_blackAt a_slips a_leftArc a_died a_arcs m_bestSum m_nearest m_nearestTown a_there a_backAt a_sorted a_parts m_seed1 m_darkNow) dX11_mend_k0.1.1.1.2 mw477 mw478 mw479 mw5 mw480 rfl 11 rfl rfl 0 _ rfl yk_yX11_good_0 rfl (Nat.le_of_ble_eq_true rfl) (Nat.le_of_ble_eq_true rfl) (Nat.le_of_ble_eq_true rfl) (Nat.le_of_ble_eq_true rfl) (Nat.le_of_ble_eq_true rfl) rfl rfl (vnd_e rfl) rfl (vnd_e rfl) (dsj_e rfl) ?_
  rintro w ⟨m_thrown2_1, m_trouble2_2, hq_4, rfl⟩
  refine k_ws [(cAI g a_r 311 d_r), (cAI g a_st 44 d_st), (cAI g a_undone 528 d_undone), (cO11_i1r1i10r1i2r5i2r12i3r4i2 h0 m_thrown2_1 a_tape m_taped m_size m_at m_end m_token m_whole m_nameSize m_fault m_place m_trouble2_2 a_letters m_failed m_hasHouse a_r a_fresh a_st a_undone a_kept m_undos m_images a_from a_begin a_motor a_change a_startFrame a_changeFrame a_lostAt a_blackAt a_slips a_leftArc a_died a_arcs m_bestSum m_nearest m_nearestTown a_there a_backAt a_sorted a_parts m_seed1 m_darkNow)] rfl ?_
  refine k_aload_n X dX11_mend_k0.1.1.2.1 0 rfl ?_
  refine k_iload_n X dX11_mend_k0.1.1.2.2 1 rfl ?_
  refine k_callVI (n := 1) (As := [.int p0]) (st := []) X [(cO11_i1r1i10r1i2r5i2r12i3r4i2 h0 m_thrown2_1 a_tape m_taped m_size m_at m_end m_token m_whole m_nameSize m_fault m_place m_trouble2_2 a_letters m_failed m_hasHouse a_r a_fresh a_st a_undone a_kept m_undos m_images a_from a_begin a_motor a_change a_startFrame a_changeFrame a_lostAt a_blackAt a_slips a_leftArc a_died a_arcs m_bestSum m_nearest m_nearestTown a_there a_backAt a_sorted a_parts m_seed1 m_darkNow), (cAI g a_r 311 d_r)] [(cAI g a_st 44 d_st), (cAI g a_undone 528 d_undone)] [3, 0] [1, 2] (m_isWeakX l g h0 p0 m_thrown2_1 a_tape m_taped m_size m_at m_end m_token m_whole m_nameSize m_fault m_place m_trouble2_2 a_letters m_failed m_hasHouse a_r a_fresh a_st a_undone a_kept m_undos m_images a_from a_begin a_motor a_change a_startFrame a_changeFrame a_lostAt a_blackAt a_slips a_leftArc a_died a_arcs m_bestSum m_nearest m_nearestTown a_there a_backAt a_sorted a_parts m_seed1 m_darkNow d_r (iv_w hv_m_hasHouse (zle_e rfl) (zle_e rfl)) hp_d_r) dX11_mend_k0.1.2.1.1 mw1252 mw1253 mw1254 mw5 mw1255 rfl 11 rfl rfl 0 _ rfl yk_yX11_isWeak_1 rfl (Nat.le_of_ble_eq_true rfl) (Nat.le_of_ble_eq_true rfl) (Nat.le_of_ble_eq_true rfl) (Nat.le_of_ble_eq_true rfl) (Nat.le_of_ble_eq_true rfl) rfl rfl (vnd_e rfl) rfl (vnd_e rfl) (dsj_e rfl) ?_
  rintro r_5 w ⟨iv_6, hq_7, hk_8, rfl⟩
  refine k_ws [(cAI g a_st 44 d_st), (cAI g a_undone 528 d_undone), (cO11_i1r1i10r1i2r5i2r12i3r4i2 h0 m_thrown2_1 a_tape m_taped m_size m_at m_end m_token m_whole m_nameSize m_fault m_place m_trouble2_2 a_letters m_failed m_hasHouse a_r a_fresh a_st a_undone a_kept m_undos m_images a_from a_begin a_motor a_change a_startFrame a_changeFrame a_lostAt a_blackAt a_slips a_leftArc a_died a_arcs m_bestSum m_nearest m_nearestTown a_there a_backAt a_sorted a_parts m_seed1 m_darkNow), (cAI g a_r 311 d_r)] rfl ?_
  refine k_if_ne 18 X dX11_mend_k0.1.2.1.2 (jp_e rfl) (fun h_9 => ?_) (fun h_9 => ?_)
  · skip
    have hc_10 := hk_8.resolve_left h_9
    have iv_11 : IV p0 0 5 := iv_meet (iv_any p0) hc_10 (zle_o rfl) (zle_o rfl)
    have iv_12 : IV r_5 1 1 := iv_neL h_9 iv_6 iq_0_0_0 (zle_e rfl)
    refine k_aload_n X dX11_mend_k0.2.1.2.1 0 rfl ?_
    refine k_get (ci := 11) X inlX11 rfl 15 (nlt_e rfl) dX11_mend_k0.2.1.2.2 mw170 2 rfl rfl ?_
    refine k_bipush (v := 96) X dX11_mend_k0.2.2.1.1 bi_96 ?_
    refine k_iconst (v := 3) X dX11_mend_k0.2.2.1.2 ic_3 ?_
    refine k_iload_n X dX11_mend_k0.2.2.2.1 1 rfl ?_
    refine k_imul X dX11_mend_k0.2.2.2.2 ?_
    refine k_nm (fun z_13 ez_13 => ?_)
    have i_14 : z_13.toInt = 3 * p0.toInt := in_mul ez_13 (by decide) (zle_e rfl) iv_11 (zle_e rfl) (zle_e rfl)
    have iv_15 : IV z_13 0 15 := iz4 i_14 iv_11 (zle_e rfl) (zle_e rfl) (zle_e rfl)
    refine k_iadd X dX11_mend_k1.1.1.1.1 ?_
    refine k_nm (fun z_16 ez_16 => ?_)
    have i_17 : z_16.toInt = 96 + z_13.toInt := in_add ez_16 iq_96_96_96 iv_15 (zle_e rfl) (zle_e rfl)
    have iv_18 : IV z_16 96 111 := iz2 i_17 iv_15 (zle_e rfl) (zle_e rfl)
    refine k_iald X dX11_mend_k1.1.1.1.2 3 rfl (iv_in iv_18 (zle_e rfl) (zle_l rfl)) ?_
    refine k_nm (fun z_19 ez_19 => ?_)
    have i_20 : z_16.toInt = 96 + 3 * p0.toInt := by omega
    have iv_21 : IV z_19 0 7 := rb_96_3 ez_19 hp_d_r i_20 (iv_w iv_11 (zle_e rfl) (zle_e rfl))
    refine k_istore_n [(2, .int z_19), (0, .ref h0), (1, .int p0)] X dX11_mend_k1.1.1.2.1 (nlt_e rfl) rfl ?_
    refine k_aload_n X dX11_mend_k1.1.1.2.2 1 rfl ?_
    refine k_iload_n X dX11_mend_k1.1.2.1.1 2 rfl ?_
    refine k_callVI (n := 1) (As := [.int p0]) (st := []) X [(cO11_i1r1i10r1i2r5i2r12i3r4i2 h0 m_thrown2_1 a_tape m_taped m_size m_at m_end m_token m_whole m_nameSize m_fault m_place m_trouble2_2 a_letters m_failed m_hasHouse a_r a_fresh a_st a_undone a_kept m_undos m_images a_from a_begin a_motor a_change a_startFrame a_changeFrame a_lostAt a_blackAt a_slips a_leftArc a_died a_arcs m_bestSum m_nearest m_nearestTown a_there a_backAt a_sorted a_parts m_seed1 m_darkNow), (cAI g a_st 44 d_st)] [(cAI g a_undone 528 d_undone), (cAI g a_r 311 d_r)] [2, 0] [1, 3] (m_isMendedX l g h0 p0 m_thrown2_1 a_tape m_taped m_size m_at m_end m_token m_whole m_nameSize m_fault m_place m_trouble2_2 a_letters m_failed m_hasHouse a_r a_fresh a_st a_undone a_kept m_undos m_images a_from a_begin a_motor a_change a_startFrame a_changeFrame a_lostAt a_blackAt a_slips a_leftArc a_died a_arcs m_bestSum m_nearest m_nearestTown a_there a_backAt a_sorted a_parts m_seed1 m_darkNow d_st) dX11_mend_k1.1.2.1.2 mw682 mw683 mw684 mw5 mw685 rfl 11 rfl rfl 0 _ rfl yk_yX11_isMended_1 rfl (Nat.le_of_ble_eq_true rfl) (Nat.le_of_ble_eq_true rfl) (Nat.le_of_ble_eq_true rfl) (Nat.le_of_ble_eq_true rfl) (Nat.le_of_ble_eq_true rfl) rfl rfl (vnd_e rfl) rfl (vnd_e rfl) (dsj_e rfl) ?_
    rintro r_22 w ⟨iv_23, hq_24, rfl⟩
    refine k_ws [(cAI g a_undone 528 d_undone), (cAI g a_r 311 d_r), (cO11_i1r1i10r1i2r5i2r12i3r4i2 h0 m_thrown2_1 a_tape m_taped m_size m_at m_end m_token m_whole m_nameSize m_fault m_place m_trouble2_2 a_letters m_failed m_hasHouse a_r a_fresh a_st a_undone a_kept m_undos m_images a_from a_begin a_motor a_change a_startFrame a_changeFrame a_lostAt a_blackAt a_slips a_leftArc a_died a_arcs m_bestSum m_nearest m_nearestTown a_there a_backAt a_sorted a_parts m_seed1 m_darkNow), (cAI g a_st 44 d_st)] rfl ?_
    refine k_if_ne 51 X dX11_mend_k1.1.2.2.1 (jp_e rfl) (fun h_25 => ?_) (fun h_25 => ?_)
    · skip
      have iv_26 : IV r_22 1 1 := iv_neL h_25 iv_23 iq_0_0_0 (zle_e rfl)
      refine k_aload_n X dX11_mend_k1.2.2.2.2 1 rfl ?_
      refine k_iconst (v := 5) X dX11_mend_k2.1.1.1.1 ic_5 ?_
      refine k_callVI (n := 1) (As := [.int 5]) (st := []) X [(cO11_i1r1i10r1i2r5i2r12i3r4i2 h0 m_thrown2_1 a_tape m_taped m_size m_at m_end m_token m_whole m_nameSize m_fault m_place m_trouble2_2 a_letters m_failed m_hasHouse a_r a_fresh a_st a_undone a_kept m_undos m_images a_from a_begin a_motor a_change a_startFrame a_changeFrame a_lostAt a_blackAt a_slips a_leftArc a_died a_arcs m_bestSum m_nearest m_nearestTown a_there a_backAt a_sorted a_parts m_seed1 m_darkNow)] [(cAI g a_undone 528 d_undone), (cAI g a_r 311 d_r), (cAI g a_st 44 d_st)] [2] [0, 1, 3] (m_noX l g h0 5 m_thrown2_1 a_tape m_taped m_size m_at m_end m_token m_whole m_nameSize m_fault m_place m_trouble2_2 a_letters m_failed m_hasHouse a_r a_fresh a_st a_undone a_kept m_undos m_images a_from a_begin a_motor a_change a_startFrame a_changeFrame a_lostAt a_blackAt a_slips a_leftArc a_died a_arcs m_bestSum m_nearest m_nearestTown a_there a_backAt a_sorted a_parts m_seed1 m_darkNow) dX11_mend_k2.1.1.1.2 mw485 mw486 mw487 mw5 mw488 rfl 11 rfl rfl 0 _ rfl yk_yX11_no_1 rfl (Nat.le_of_ble_eq_true rfl) (Nat.le_of_ble_eq_true rfl) (Nat.le_of_ble_eq_true rfl) (Nat.le_of_ble_eq_true rfl) (Nat.le_of_ble_eq_true rfl) rfl rfl (vnd_e rfl) rfl (vnd_e rfl) (dsj_e rfl) ?_
      rintro r_28 w ⟨m_trouble2_27, iv_29, hq_30, rfl⟩
      refine k_ws [(cAI g a_undone 528 d_undone), (cAI g a_r 311 d_r), (cAI g a_st 44 d_st), (cO11_i1r1i10r1i2r5i2r12i3r4i2 h0 m_thrown2_1 a_tape m_taped m_size m_at m_end m_token m_whole m_nameSize m_fault m_place m_trouble2_27 a_letters m_failed m_hasHouse a_r a_fresh a_st a_undone a_kept m_undos m_images a_from a_begin a_motor a_change a_startFrame a_changeFrame a_lostAt a_blackAt a_slips a_leftArc a_died a_arcs m_bestSum m_nearest m_nearestTown a_there a_backAt a_sorted a_parts m_seed1 m_darkNow)] rfl ?_
      exact k_iret X hr dX11_mend_k2.1.1.2.1 (Nat.le_of_ble_eq_true rfl) (Nat.le_of_ble_eq_true rfl) [3, 1, 2, 0] (vnd_e rfl) rfl rfl (exI5 d_st m_thrown2_1 m_trouble2_27 d_undone m_undos ⟨(iv_w hv_m_undos (zle_e rfl) (zle_e rfl)), ⟨m_thrown2_1, m_trouble2_2, hq_4, ⟨r_5, hq_7, (Or.inl ⟨h_9, ⟨z_13, ez_13, ⟨z_16, ez_16, ⟨z_19, ez_19, ⟨r_22, hq_24, (Or.inl ⟨h_25, ⟨m_trouble2_27, r_28, hq_30, ⟨rfl, rfl, rfl, rfl, rfl, rfl⟩⟩⟩)⟩⟩⟩⟩⟩)⟩⟩, rfl⟩)
    · skip
      have iv_31 : IV r_22 0 0 := iv_meet iv_23 (iv_e h_25 iq_0_0_0) (zle_o rfl) (zle_o rfl)
      refine k_aload_n X dX11_mend_k1.1.2.2.2 1 rfl ?_
      refine k_get (ci := 11) X inlX11 rfl 17 (nlt_e rfl) dX11_mend_k1.2.1.1.1 mw172 2 rfl rfl ?_
      refine k_iconst (v := 0) X dX11_mend_k1.2.1.1.2 ic_0 ?_
      refine k_iload_n X dX11_mend_k1.2.1.2.1 0 rfl ?_
      refine k_iadd X dX11_mend_k1.2.1.2.2 ?_
      refine k_nm (fun z_32 ez_32 => ?_)
      have i_33 : z_32.toInt = 0 + z_19.toInt := in_add ez_32 iq_0_0_0 iv_21 (zle_e rfl) (zle_e rfl)
      have iv_34 : IV z_32 0 7 := iz2 i_33 iv_21 (zle_e rfl) (zle_e rfl)
      refine k_iald X dX11_mend_k1.2.2.1.1 3 rfl (iv_in iv_34 (zle_e rfl) (zle_l rfl)) ?_
      refine k_nm (fun z_35 ez_35 => ?_)
      refine k_bipush (v := 6) X dX11_mend_k1.2.2.1.2 bi_6 ?_
      refine k_ic_ge 57 X dX11_mend_k1.2.2.2.1 (jp_e rfl) (fun h_36 => ?_) (fun h_36 => ?_)
      · skip
        have j_37 : 6 ≤ z_35.toInt := iv_le h_36
        have iv_38 : IV z_35 6 2147483647 := iv_leR (iv_le h_36) iq_6_6_6 (iv_any z_35) (zle_e rfl)
        refine k_aload_n X dX11_mend_k2.1.1.2.2 1 rfl ?_
        refine k_callVV (n := 0) (As := []) (st := []) X [(cO11_i1r1i10r1i2r5i2r12i3r4i2 h0 m_thrown2_1 a_tape m_taped m_size m_at m_end m_token m_whole m_nameSize m_fault m_place m_trouble2_2 a_letters m_failed m_hasHouse a_r a_fresh a_st a_undone a_kept m_undos m_images a_from a_begin a_motor a_change a_startFrame a_changeFrame a_lostAt a_blackAt a_slips a_leftArc a_died a_arcs m_bestSum m_nearest m_nearestTown a_there a_backAt a_sorted a_parts m_seed1 m_darkNow), (cAI g a_st 44 d_st), (cAI g a_undone 528 d_undone)] [(cAI g a_r 311 d_r)] [2, 3, 0] [1] (m_noteX l g h0 m_thrown2_1 a_tape m_taped m_size m_at m_end m_token m_whole m_nameSize m_fault m_place m_trouble2_2 a_letters m_failed m_hasHouse a_r a_fresh a_st a_undone a_kept m_undos m_images a_from a_begin a_motor a_change a_startFrame a_changeFrame a_lostAt a_blackAt a_slips a_leftArc a_died a_arcs m_bestSum m_nearest m_nearestTown a_there a_backAt a_sorted a_parts m_seed1 m_darkNow d_st d_undone (iv_w hv_m_undos (zle_e rfl) (zle_e rfl))) dX11_mend_k2.1.2.1.1 mw1475 mw1476 mw1477 mw5 mw1478 rfl 11 rfl rfl 0 _ rfl yk_yX11_note_0 rfl (Nat.le_of_ble_eq_true rfl) (Nat.le_of_ble_eq_true rfl) (Nat.le_of_ble_eq_true rfl) (Nat.le_of_ble_eq_true rfl) (Nat.le_of_ble_eq_true rfl) rfl rfl (vnd_e rfl) rfl (vnd_e rfl) (dsj_e rfl) ?_
        rintro w ⟨d_undone2_39, m_undos2_40, iv_42, hq_43, rfl⟩
        refine k_ws [(cAI g a_r 311 d_r), (cO11_i1r1i10r1i2r5i2r12i3r4i2 h0 m_thrown2_1 a_tape m_taped m_size m_at m_end m_token m_whole m_nameSize m_fault m_place m_trouble2_2 a_letters m_failed m_hasHouse a_r a_fresh a_st a_undone a_kept m_undos2_40 m_images a_from a_begin a_motor a_change a_startFrame a_changeFrame a_lostAt a_blackAt a_slips a_leftArc a_died a_arcs m_bestSum m_nearest m_nearestTown a_there a_backAt a_sorted a_parts m_seed1 m_darkNow), (cAI g a_st 44 d_st), (cAI g a_undone 528 d_undone2_39)] rfl ?_
        refine k_aload_n X dX11_mend_k2.1.2.1.2 1 rfl ?_
        refine k_get (ci := 11) X inlX11 rfl 17 (nlt_e rfl) dX11_mend_k2.1.2.2.1 mw172 1 rfl rfl ?_
        refine k_bipush (v := 28) X dX11_mend_k2.1.2.2.2 bi_28 ?_
        refine k_iload_n X dX11_mend_k2.2.1.1.1 2 rfl ?_
        refine k_iadd X dX11_mend_k2.2.1.1.2 ?_
        refine k_nm (fun z_44 ez_44 => ?_)
        have i_45 : z_44.toInt = 28 + p0.toInt := in_add ez_44 iq_28_28_28 iv_11 (zle_e rfl) (zle_e rfl)
        have iv_46 : IV z_44 28 33 := iz2 i_45 iv_11 (zle_e rfl) (zle_e rfl)
        refine k_iald X dX11_mend_k2.2.1.2.1 2 rfl (iv_in iv_46 (zle_e rfl) (zle_l rfl)) ?_
        refine k_nm (fun z_47 ez_47 => ?_)
        refine k_istore_n [(3, .int z_47), (2, .int z_19), (0, .ref h0), (1, .int p0)] X dX11_mend_k2.2.1.2.2 (nlt_e rfl) rfl ?_
        refine k_aload_n X dX11_mend_k2.2.2.1.1 2 rfl ?_
        refine k_get (ci := 11) X inlX11 rfl 17 (nlt_e rfl) dX11_mend_k2.2.2.1.2 mw172 1 rfl rfl ?_
        refine k_iconst (v := 0) X dX11_mend_k2.2.2.2.1 ic_0 ?_
        refine k_iload_n X dX11_mend_k2.2.2.2.2 1 rfl ?_
        refine k_iadd X dX11_mend_k3.1.1.1.1 ?_
        refine k_to z_32 ez_32.symm ?_
        refine k_dup2 X dX11_mend_k3.1.1.1.2 rfl rfl ?_
        refine k_iald X dX11_mend_k3.1.1.2.1 2 rfl (iv_in iv_34 (zle_e rfl) (zle_l rfl)) ?_
        refine k_to z_35 ez_35.symm ?_
        refine k_iconst (v := 2) X dX11_mend_k3.1.1.2.2 ic_2 ?_
        refine k_isub X dX11_mend_k3.1.2.1.1 ?_
        refine k_nm (fun z_48 ez_48 => ?_)
        have i_49 : z_48.toInt = z_35.toInt - 2 := in_sub ez_48 iv_38 iq_2_2_2 (zle_e rfl) (zle_e rfl)
        have iv_50 : IV z_48 4 2147483645 := iz5 i_49 iv_38 (zle_e rfl) (zle_e rfl)
        refine k_iast [(cAI g a_r 311 d_r), (cO11_i1r1i10r1i2r5i2r12i3r4i2 h0 m_thrown2_1 a_tape m_taped m_size m_at m_end m_token m_whole m_nameSize m_fault m_place m_trouble2_2 a_letters m_failed m_hasHouse a_r a_fresh a_st a_undone a_kept m_undos2_40 m_images a_from a_begin a_motor a_change a_startFrame a_changeFrame a_lostAt a_blackAt a_slips a_leftArc a_died a_arcs m_bestSum m_nearest m_nearestTown a_there a_backAt a_sorted a_parts m_seed1 m_darkNow), (cAI g a_st 44 (upd d_st (z_32 : Int32).toNatClampNeg z_48)), (cAI g a_undone 528 d_undone2_39)] X dX11_mend_k3.1.2.1.2 2 rfl (iv_in iv_34 (zle_e rfl) (zle_l rfl)) rfl ?_
        refine k_aload_n X dX11_mend_k3.1.2.2.1 2 rfl ?_
        refine k_get (ci := 11) X inlX11 rfl 17 (nlt_e rfl) dX11_mend_k3.1.2.2.2 mw172 1 rfl rfl ?_
        refine k_iconst (v := 0) X dX11_mend_k3.2.1.1.1 ic_0 ?_
        refine k_iload_n X dX11_mend_k3.2.1.1.2 1 rfl ?_
        refine k_iadd X dX11_mend_k3.2.1.2.1 ?_
        refine k_to z_32 ez_32.symm ?_
        refine k_iald X dX11_mend_k3.2.1.2.2 2 rfl (iv_in iv_34 (zle_e rfl) (zle_l rfl)) ?_
        refine k_to z_48 upd_at ?_
        refine k_istore [(4, .int z_48), (3, .int z_47), (2, .int z_19), (0, .ref h0), (1, .int p0)] X dX11_mend_k3.2.2.1.1 (nlt_e rfl) rfl ?_
        refine k_aload_n X dX11_mend_k3.2.2.1.2 3 rfl ?_
        refine k_get (ci := 11) X inlX11 rfl 17 (nlt_e rfl) dX11_mend_k3.2.2.2.1 mw172 1 rfl rfl ?_
        refine k_bipush (v := 8) X dX11_mend_k3.2.2.2.2 bi_8 ?_
        refine k_iload_n X dX11_mend_k4.1.1.1.1 2 rfl ?_
        refine k_iadd X dX11_mend_k4.1.1.1.2 ?_
        refine k_nm (fun z_52 ez_52 => ?_)
        have i_53 : z_52.toInt = 8 + z_19.toInt := in_add ez_52 iq_8_8_8 iv_21 (zle_e rfl) (zle_e rfl)
        have iv_54 : IV z_52 8 15 := iz2 i_53 iv_21 (zle_e rfl) (zle_e rfl)
        refine k_aload_n X dX11_mend_k4.1.1.2.1 3 rfl ?_
        refine k_get (ci := 11) X inlX11 rfl 17 (nlt_e rfl) dX11_mend_k4.1.1.2.2 mw172 1 rfl rfl ?_
        refine k_bipush (v := 8) X dX11_mend_k4.1.2.1.1 bi_8 ?_
        refine k_iload_n X dX11_mend_k4.1.2.1.2 2 rfl ?_
        refine k_iadd X dX11_mend_k4.1.2.2.1 ?_
        refine k_to z_52 ez_52.symm ?_
        refine k_iald X dX11_mend_k4.1.2.2.2 2 rfl (iv_in iv_54 (zle_e rfl) (zle_l rfl)) ?_
        refine k_nm (fun z_55 ez_55 => ?_)
        refine k_iload_n X dX11_mend_k4.2.1.1.1 1 rfl ?_
        refine k_iload X dX11_mend_k4.2.1.1.2 0 rfl ?_
        refine k_callSI (n := 3) (As := [.int z_55, .int z_47, .int z_48]) (st := [.int z_52, .ref a_st]) X [] [(cAI g a_r 311 d_r), (cO11_i1r1i10r1i2r5i2r12i3r4i2 h0 m_thrown2_1 a_tape m_taped m_size m_at m_end m_token m_whole m_nameSize m_fault m_place m_trouble2_2 a_letters m_failed m_hasHouse a_r a_fresh a_st a_undone a_kept m_undos2_40 m_images a_from a_begin a_motor a_change a_startFrame a_changeFrame a_lostAt a_blackAt a_slips a_leftArc a_died a_arcs m_bestSum m_nearest m_nearestTown a_there a_backAt a_sorted a_parts m_seed1 m_darkNow), (cAI g a_st 44 (upd d_st (z_32 : Int32).toNatClampNeg z_48)), (cAI g a_undone 528 d_undone2_39)] [] [0, 1, 2, 3] (m_shiftedX l g z_55 z_47 z_48) dX11_mend_k4.2.1.2.1 mw1508 mw1509 mw5 mw1510 yk_yX11_shifted_3 rfl (Nat.le_of_ble_eq_true rfl) (Nat.le_of_ble_eq_true rfl) (Nat.le_of_ble_eq_true rfl) (Nat.le_of_ble_eq_true rfl) (Nat.le_of_ble_eq_true rfl) rfl rfl (vnd_e rfl) rfl (vnd_e rfl) (dsj_e rfl) ?_
        rintro r_56 w ⟨hq_57, rfl⟩
        refine k_ws [(cAI g a_r 311 d_r), (cO11_i1r1i10r1i2r5i2r12i3r4i2 h0 m_thrown2_1 a_tape m_taped m_size m_at m_end m_token m_whole m_nameSize m_fault m_place m_trouble2_2 a_letters m_failed m_hasHouse a_r a_fresh a_st a_undone a_kept m_undos2_40 m_images a_from a_begin a_motor a_change a_startFrame a_changeFrame a_lostAt a_blackAt a_slips a_leftArc a_died a_arcs m_bestSum m_nearest m_nearestTown a_there a_backAt a_sorted a_parts m_seed1 m_darkNow), (cAI g a_st 44 (upd d_st (z_32 : Int32).toNatClampNeg z_48)), (cAI g a_undone 528 d_undone2_39)] rfl ?_
        refine k_iast [(cAI g a_r 311 d_r), (cO11_i1r1i10r1i2r5i2r12i3r4i2 h0 m_thrown2_1 a_tape m_taped m_size m_at m_end m_token m_whole m_nameSize m_fault m_place m_trouble2_2 a_letters m_failed m_hasHouse a_r a_fresh a_st a_undone a_kept m_undos2_40 m_images a_from a_begin a_motor a_change a_startFrame a_changeFrame a_lostAt a_blackAt a_slips a_leftArc a_died a_arcs m_bestSum m_nearest m_nearestTown a_there a_backAt a_sorted a_parts m_seed1 m_darkNow), (cAI g a_st 44 (upd (upd d_st (z_32 : Int32).toNatClampNeg z_48) (z_52 : Int32).toNatClampNeg r_56)), (cAI g a_undone 528 d_undone2_39)] X dX11_mend_k4.2.1.2.2 2 rfl (iv_in iv_54 (zle_e rfl) (zle_l rfl)) rfl ?_
        refine k_iconst (v := 0) X dX11_mend_k4.2.2.1.1 ic_0 ?_
        refine k_istore [(5, .int 0), (4, .int z_48), (3, .int z_47), (2, .int z_19), (0, .ref h0), (1, .int p0)] X dX11_mend_k4.2.2.1.2 (nlt_e rfl) rfl ?_
        refine (fun hL : ∀ (nn_62 : Nat) (uf_59 : Nat → Int32) (u_60 : Int32), (2147483647 - u_60.toInt).toNat = nn_62 → (IV u_60 0 255) → (∀ (d_st2 : Nat → Int32) (m_thrown2 : Int32) (m_trouble2 : Int32) (d_undone2 : Nat → Int32) (m_undos2 : Int32) (r : Int32), (∃ n_0 : Nat, R_m_mendX_L0 d_r z_19 z_47 z_48 (fun (uf_59 : Nat → Int32) => ∃ n_1 : Nat, R_m_mendX_L1 d_r z_19 z_47 z_48 (fun (uf_70 : Nat → Int32) => ∃ z_81 : Int32, z_81 = uf_70 ((43 : Int32)).toNatClampNeg ∧ ∃ z_82 : Int32, z_82 = (1 : Int32) <<< (p0 &&& 31) ∧ ∃ z_84 : Int32, z_84 = z_81 ||| z_82 ∧ d_st2 = (upd uf_70 (43 : Int32).toNatClampNeg z_84) ∧ m_thrown2 = m_thrown2_1 ∧ m_trouble2 = m_trouble2_2 ∧ d_undone2 = d_undone2_39 ∧ m_undos2 = m_undos2_40 ∧ r = z_48) n_1 uf_59 0) n_0 uf_59 u_60) → R_m_mendX p0 m_hasHouse m_undos d_r d_st d_undone d_st2 m_thrown2 m_trouble2 d_undone2 m_undos2 r) → Wk p l e _ s m args below meth c _ A g _ _ _ [(cAI g a_r 311 d_r), (cO11_i1r1i10r1i2r5i2r12i3r4i2 h0 m_thrown2_1 a_tape m_taped m_size m_at m_end m_token m_whole m_nameSize m_fault m_place m_trouble2_2 a_letters m_failed m_hasHouse a_r a_fresh a_st a_undone a_kept m_undos2_40 m_images a_from a_begin a_motor a_change a_startFrame a_changeFrame a_lostAt a_blackAt a_slips a_leftArc a_died a_arcs m_bestSum m_nearest m_nearestTown a_there a_backAt a_sorted a_parts m_seed1 m_darkNow), (cAI g a_st 44 uf_59), (cAI g a_undone 528 d_undone2_39)] [(5, .int u_60), (4, .int z_48), (3, .int z_47), (2, .int z_19), (0, .ref h0), (1, .int p0)] 120 [] => hL _ ((upd (upd d_st (z_32 : Int32).toNatClampNeg z_48) (z_52 : Int32).toNatClampNeg r_56)) 0 rfl (iv_w iq_0_0_0 (zle_e rfl) (zle_e rfl)) (fun d_st2 m_thrown2 m_trouble2 d_undone2 m_undos2 r h => ⟨m_thrown2_1, m_trouble2_2, hq_4, ⟨r_5, hq_7, (Or.inl ⟨h_9, ⟨z_13, ez_13, ⟨z_16, ez_16, ⟨z_19, ez_19, ⟨r_22, hq_24, (Or.inr ⟨h_25, ⟨z_32, ez_32, ⟨z_35, ez_35, (Or.inl ⟨h_36, ⟨d_undone2_39, m_undos2_40, hq_43, ⟨z_44, ez_44, ⟨z_47, ez_47, ⟨z_48, ez_48, ⟨z_52, ez_52, ⟨z_55, ez_55, ⟨r_56, hq_57, h⟩⟩⟩⟩⟩⟩⟩⟩)⟩⟩⟩)⟩⟩⟩⟩⟩)⟩⟩)) ?_
        refine fun nn_62 => Nat.strongRecOn nn_62 (fun nn_62 ih_64 => ?_)
        intro uf_59 u_60 hm_63 hv_61 KH_0
        refine k_iload X dX11_mend_k4.2.2.2.1 0 rfl ?_
        refine k_aload_n X dX11_mend_k4.2.2.2.2 4 rfl ?_
        refine k_get (ci := 11) X inlX11 rfl 15 (nlt_e rfl) dX11_mend_k5.1.1.1.1 mw170 1 rfl rfl ?_
        refine k_bipush (v := 8) X dX11_mend_k5.1.1.1.2 bi_8 ?_
        refine k_iald X dX11_mend_k5.1.1.2.1 0 rfl (by unfold vp_in; decide) ?_
        refine k_nm (fun z_65 ez_65 => ?_)
        have i_66 : z_65.toInt = (d_r 8).toInt := by rw [ez_65]; rfl
        have iv_67 : IV z_65 0 12 := rb_8 ez_65 hp_d_r
        refine k_ic_ge 180 X dX11_mend_k5.1.1.2.2 (jp_e rfl) (fun h_68 => ?_) (fun h_68 => ?_)
        · skip
          have j_69 : z_65.toInt ≤ u_60.toInt := iv_le h_68
          refine k_iconst (v := 0) X dX11_mend_k6.2.2.2.2 ic_0 ?_
          refine k_istore [(5, .int 0), (4, .int z_48), (3, .int z_47), (2, .int z_19), (0, .ref h0), (1, .int p0)] X dX11_mend_k7.1.1.1.1 (nlt_e rfl) rfl ?_
          refine (fun hL : ∀ (nn_73 : Nat) (uf_70 : Nat → Int32) (u_71 : Int32), (2147483647 - u_71.toInt).toNat = nn_73 → (IV u_71 0 8) → (∀ (d_st2 : Nat → Int32) (m_thrown2 : Int32) (m_trouble2 : Int32) (d_undone2 : Nat → Int32) (m_undos2 : Int32) (r : Int32), (∃ n_1 : Nat, R_m_mendX_L1 d_r z_19 z_47 z_48 (fun (uf_70 : Nat → Int32) => ∃ z_81 : Int32, z_81 = uf_70 ((43 : Int32)).toNatClampNeg ∧ ∃ z_82 : Int32, z_82 = (1 : Int32) <<< (p0 &&& 31) ∧ ∃ z_84 : Int32, z_84 = z_81 ||| z_82 ∧ d_st2 = (upd uf_70 (43 : Int32).toNatClampNeg z_84) ∧ m_thrown2 = m_thrown2_1 ∧ m_trouble2 = m_trouble2_2 ∧ d_undone2 = d_undone2_39 ∧ m_undos2 = m_undos2_40 ∧ r = z_48) n_1 uf_70 u_71) → R_m_mendX p0 m_hasHouse m_undos d_r d_st d_undone d_st2 m_thrown2 m_trouble2 d_undone2 m_undos2 r) → Wk p l e _ s m args below meth c _ A g _ _ _ [(cAI g a_r 311 d_r), (cO11_i1r1i10r1i2r5i2r12i3r4i2 h0 m_thrown2_1 a_tape m_taped m_size m_at m_end m_token m_whole m_nameSize m_fault m_place m_trouble2_2 a_letters m_failed m_hasHouse a_r a_fresh a_st a_undone a_kept m_undos2_40 m_images a_from a_begin a_motor a_change a_startFrame a_changeFrame a_lostAt a_blackAt a_slips a_leftArc a_died a_arcs m_bestSum m_nearest m_nearestTown a_there a_backAt a_sorted a_parts m_seed1 m_darkNow), (cAI g a_st 44 uf_70), (cAI g a_undone 528 d_undone2_39)] [(5, .int u_71), (4, .int z_48), (3, .int z_47), (2, .int z_19), (0, .ref h0), (1, .int p0)] 183 [] => hL _ uf_59 0 rfl (iv_w iq_0_0_0 (zle_e rfl) (zle_e rfl)) (fun d_st2 m_thrown2 m_trouble2 d_undone2 m_undos2 r h => (KH_0 _ _ _ _ _ _ ⟨0 + 1, ⟨z_65, ez_65, (Or.inl ⟨h_68, h⟩)⟩⟩))) ?_
          refine fun nn_73 => Nat.strongRecOn nn_73 (fun nn_73 ih_75 => ?_)
          intro uf_70 u_71 hm_74 hv_72 KH_1
          refine k_iload X dX11_mend_k7.1.1.1.2 0 rfl ?_
          refine k_aload_n X dX11_mend_k7.1.1.2.1 4 rfl ?_
          refine k_get (ci := 11) X inlX11 rfl 15 (nlt_e rfl) dX11_mend_k7.1.1.2.2 mw170 1 rfl rfl ?_
          refine k_bipush (v := 10) X dX11_mend_k7.1.2.1.1 bi_10 ?_
          refine k_iald X dX11_mend_k7.1.2.1.2 0 rfl (by unfold vp_in; decide) ?_
          refine k_nm (fun z_76 ez_76 => ?_)
          have i_77 : z_76.toInt = (d_r 10).toInt := by rw [ez_76]; rfl
          have iv_78 : IV z_76 0 6 := rb_10 ez_76 hp_d_r
          refine k_ic_ge 243 X dX11_mend_k7.1.2.2.1 (jp_e rfl) (fun h_79 => ?_) (fun h_79 => ?_)
          · skip
            have j_80 : z_76.toInt ≤ u_71.toInt := iv_le h_79
            refine k_aload_n X dX11_mend_k9.1.1.2.2 4 rfl ?_
            refine k_get (ci := 11) X inlX11 rfl 17 (nlt_e rfl) dX11_mend_k9.1.2.1.1 mw172 1 rfl rfl ?_
            refine k_bipush (v := 43) X dX11_mend_k9.1.2.1.2 bi_43 ?_
            refine k_dup2 X dX11_mend_k9.1.2.2.1 rfl rfl ?_
            refine k_iald X dX11_mend_k9.1.2.2.2 2 rfl (by unfold vp_in; decide) ?_
            refine k_nm (fun z_81 ez_81 => ?_)
            refine k_iconst (v := 1) X dX11_mend_k9.2.1.1 ic_1 ?_
            refine k_iload_n X dX11_mend_k9.2.1.2.1 5 rfl ?_
            refine k_ishl X dX11_mend_k9.2.1.2.2 ?_
            refine k_nm (fun z_82 ez_82 => ?_)
            have iv_83 : IV z_82 1 256 := iv_shl ez_82 (iv_w iv_11 (zle_e rfl) (zle_e rfl))
            refine k_ior X dX11_mend_k9.2.2.1.1 ?_
            refine k_nm (fun z_84 ez_84 => ?_)
            refine k_iast [(cAI g a_r 311 d_r), (cO11_i1r1i10r1i2r5i2r12i3r4i2 h0 m_thrown2_1 a_tape m_taped m_size m_at m_end m_token m_whole m_nameSize m_fault m_place m_trouble2_2 a_letters m_failed m_hasHouse a_r a_fresh a_st a_undone a_kept m_undos2_40 m_images a_from a_begin a_motor a_change a_startFrame a_changeFrame a_lostAt a_blackAt a_slips a_leftArc a_died a_arcs m_bestSum m_nearest m_nearestTown a_there a_backAt a_sorted a_parts m_seed1 m_darkNow), (cAI g a_st 44 (upd uf_70 (43 : Int32).toNatClampNeg z_84)), (cAI g a_undone 528 d_undone2_39)] X dX11_mend_k9.2.2.1.2 2 rfl (by unfold vp_in; decide) rfl ?_
            refine k_iload X dX11_mend_k9.2.2.2.1 1 rfl ?_
            exact k_iret X hr dX11_mend_k9.2.2.2.2 (Nat.le_of_ble_eq_true rfl) (Nat.le_of_ble_eq_true rfl) [1, 0, 2, 3] (vnd_e rfl) rfl rfl (exI5 (upd uf_70 (43 : Int32).toNatClampNeg z_84) m_thrown2_1 m_trouble2_2 d_undone2_39 m_undos2_40 ⟨(iv_w iv_42 (zle_e rfl) (zle_e rfl)), (KH_1 _ _ _ _ _ _ ⟨0 + 1, ⟨z_76, ez_76, (Or.inl ⟨h_79, ⟨z_81, ez_81, ⟨z_82, ez_82, ⟨z_84, ez_84, ⟨rfl, rfl, rfl, rfl, rfl, rfl⟩⟩⟩⟩⟩)⟩⟩), rfl⟩)
          · skip
            have j_86 : u_71.toInt < z_76.toInt := iv_nle h_79
            have iv_87 : IV u_71 0 5 := iv_ltL (iv_nle h_79) hv_72 iv_78 (zle_e rfl)
            have iv_88 : IV z_76 1 6 := iv_ltR (iv_nle h_79) hv_72 iv_78 (zle_e rfl)
            refine k_aload_n X dX11_mend_k7.1.2.2.2 4 rfl ?_
            refine k_get (ci := 11) X inlX11 rfl 15 (nlt_e rfl) dX11_mend_k7.2.1.1.1 mw170 1 rfl rfl ?_
            refine k_bipush (v := 96) X dX11_mend_k7.2.1.1.2 bi_96 ?_
            refine k_iconst (v := 3) X dX11_mend_k7.2.1.2.1 ic_3 ?_
            refine k_iload X dX11_mend_k7.2.1.2.2 0 rfl ?_
            refine k_imul X dX11_mend_k7.2.2.1.1 ?_
            refine k_nm (fun z_89 ez_89 => ?_)
            have i_90 : z_89.toInt = 3 * u_71.toInt := in_mul ez_89 (by decide) (zle_e rfl) iv_87 (zle_e rfl) (zle_e rfl)
            have iv_91 : IV z_89 0 15 := iz4 i_90 iv_87 (zle_e rfl) (zle_e rfl) (zle_e rfl)
            refine k_iadd X dX11_mend_k7.2.2.1.2 ?_
            refine k_nm (fun z_92 ez_92 => ?_)
            have i_93 : z_92.toInt = 96 + z_89.toInt := in_add ez_92 iq_96_96_96 iv_91 (zle_e rfl) (zle_e rfl)
            have iv_94 : IV z_92 96 111 := iz2 i_93 iv_91 (zle_e rfl) (zle_e rfl)
            refine k_iald X dX11_mend_k7.2.2.2.1 0 rfl (iv_in iv_94 (zle_e rfl) (zle_l rfl)) ?_
            refine k_nm (fun z_95 ez_95 => ?_)
            have i_96 : z_92.toInt = 96 + 3 * u_71.toInt := by omega
            have iv_97 : IV z_95 0 7 := rb_96_3 ez_95 hp_d_r i_96 (iv_w iv_87 (zle_e rfl) (zle_e rfl))
            refine k_iload_n X dX11_mend_k7.2.2.2.2 3 rfl ?_
            refine k_ic_ne 237 X dX11_mend_k8.1.1.1.1 (jp_e rfl) (fun h_98 => ?_) (fun h_98 => ?_)
            · skip
              obtain ⟨z_99, ez_99⟩ : ∃ y : Int32, u_71 + Int32.ofInt 1 = y := ⟨_, rfl⟩
              refine k_iinc z_99 [(5, .int z_99), (4, .int z_48), (3, .int z_47), (2, .int z_19), (0, .ref h0), (1, .int p0)] 0 X dX11_mend_k9.1.1.1 rfl ez_99 (nlt_e rfl) rfl ?_
              have i_100 : z_99.toInt = u_71.toInt + 1 := in_inc ez_99 (oin_e rfl) iv_87 (zle_e rfl) (zle_e rfl)
              have iv_101 : IV z_99 1 6 := iz1 i_100 iv_87 (zle_e rfl) (zle_e rfl)
              refine k_goto 183 X dX11_mend_k9.1.1.2.1 (jp_e rfl) ?_
              exact ih_75 _ (by omega) uf_70 z_99 rfl (iv_w iv_101 (zle_e rfl) (zle_e rfl)) (fun d_st2 m_thrown2 m_trouble2 d_undone2 m_undos2 r h => h.elim (fun n_1 q => (KH_1 _ _ _ _ _ _ ⟨n_1 + 1, ⟨z_76, ez_76, (Or.inr ⟨h_79, ⟨z_89, ez_89, ⟨z_92, ez_92, ⟨z_95, ez_95, (Or.inl ⟨h_98, ⟨z_99, ez_99, q⟩⟩)⟩⟩⟩⟩)⟩⟩)))
            · skip
              refine k_aload_n X dX11_mend_k8.1.1.1.2 4 rfl ?_
              refine k_get (ci := 11) X inlX11 rfl 17 (nlt_e rfl) dX11_mend_k8.1.1.2.1 mw172 1 rfl rfl ?_
              refine k_bipush (v := 28) X dX11_mend_k8.1.1.2.2 bi_28 ?_
              refine k_iload X dX11_mend_k8.1.2.1.1 0 rfl ?_
              refine k_iadd X dX11_mend_k8.1.2.1.2 ?_
              refine k_nm (fun z_102 ez_102 => ?_)
              have i_103 : z_102.toInt = 28 + u_71.toInt := in_add ez_102 iq_28_28_28 iv_87 (zle_e rfl) (zle_e rfl)
              have iv_104 : IV z_102 28 33 := iz2 i_103 iv_87 (zle_e rfl) (zle_e rfl)
              refine k_aload_n X dX11_mend_k8.1.2.2.1 4 rfl ?_
              refine k_get (ci := 11) X inlX11 rfl 17 (nlt_e rfl) dX11_mend_k8.1.2.2.2 mw172 1 rfl rfl ?_
              refine k_bipush (v := 28) X dX11_mend_k8.2.1.1.1 bi_28 ?_
              refine k_iload X dX11_mend_k8.2.1.1.2 0 rfl ?_
              refine k_iadd X dX11_mend_k8.2.1.2.1 ?_
              refine k_to z_102 ez_102.symm ?_
              refine k_iald X dX11_mend_k8.2.1.2.2 2 rfl (iv_in iv_104 (zle_e rfl) (zle_l rfl)) ?_
              refine k_nm (fun z_105 ez_105 => ?_)
              refine k_iload_n X dX11_mend_k8.2.2.1.1 2 rfl ?_
              refine k_iload X dX11_mend_k8.2.2.1.2 1 rfl ?_
              refine k_callSI (n := 3) (As := [.int z_105, .int z_47, .int z_48]) (st := [.int z_102, .ref a_st]) X [] [(cAI g a_r 311 d_r), (cO11_i1r1i10r1i2r5i2r12i3r4i2 h0 m_thrown2_1 a_tape m_taped m_size m_at m_end m_token m_whole m_nameSize m_fault m_place m_trouble2_2 a_letters m_failed m_hasHouse a_r a_fresh a_st a_undone a_kept m_undos2_40 m_images a_from a_begin a_motor a_change a_startFrame a_changeFrame a_lostAt a_blackAt a_slips a_leftArc a_died a_arcs m_bestSum m_nearest m_nearestTown a_there a_backAt a_sorted a_parts m_seed1 m_darkNow), (cAI g a_st 44 uf_70), (cAI g a_undone 528 d_undone2_39)] [] [0, 1, 2, 3] (m_shiftedX l g z_105 z_47 z_48) dX11_mend_k8.2.2.2.1 mw1508 mw1509 mw5 mw1510 yk_yX11_shifted_3 rfl (Nat.le_of_ble_eq_true rfl) (Nat.le_of_ble_eq_true rfl) (Nat.le_of_ble_eq_true rfl) (Nat.le_of_ble_eq_true rfl) (Nat.le_of_ble_eq_true rfl) rfl rfl (vnd_e rfl) rfl (vnd_e rfl) (dsj_e rfl) ?_
              rintro r_106 w ⟨hq_107, rfl⟩
              refine k_ws [(cAI g a_r 311 d_r), (cO11_i1r1i10r1i2r5i2r12i3r4i2 h0 m_thrown2_1 a_tape m_taped m_size m_at m_end m_token m_whole m_nameSize m_fault m_place m_trouble2_2 a_letters m_failed m_hasHouse a_r a_fresh a_st a_undone a_kept m_undos2_40 m_images a_from a_begin a_motor a_change a_startFrame a_changeFrame a_lostAt a_blackAt a_slips a_leftArc a_died a_arcs m_bestSum m_nearest m_nearestTown a_there a_backAt a_sorted a_parts m_seed1 m_darkNow), (cAI g a_st 44 uf_70), (cAI g a_undone 528 d_undone2_39)] rfl ?_
              refine k_iast [(cAI g a_r 311 d_r), (cO11_i1r1i10r1i2r5i2r12i3r4i2 h0 m_thrown2_1 a_tape m_taped m_size m_at m_end m_token m_whole m_nameSize m_fault m_place m_trouble2_2 a_letters m_failed m_hasHouse a_r a_fresh a_st a_undone a_kept m_undos2_40 m_images a_from a_begin a_motor a_change a_startFrame a_changeFrame a_lostAt a_blackAt a_slips a_leftArc a_died a_arcs m_bestSum m_nearest m_nearestTown a_there a_backAt a_sorted a_parts m_seed1 m_darkNow), (cAI g a_st 44 (upd uf_70 (z_102 : Int32).toNatClampNeg r_106)), (cAI g a_undone 528 d_undone2_39)] X dX11_mend_k8.2.2.2.2 2 rfl (iv_in iv_104 (zle_e rfl) (zle_l rfl)) rfl ?_
              obtain ⟨z_109, ez_109⟩ : ∃ y : Int32, u_71 + Int32.ofInt 1 = y := ⟨_, rfl⟩
              refine k_iinc z_109 [(5, .int z_109), (4, .int z_48), (3, .int z_47), (2, .int z_19), (0, .ref h0), (1, .int p0)] 0 X dX11_mend_k9.1.1.1 rfl ez_109 (nlt_e rfl) rfl ?_
              have i_110 : z_109.toInt = u_71.toInt + 1 := in_inc ez_109 (oin_e rfl) iv_87 (zle_e rfl) (zle_e rfl)
              have iv_111 : IV z_109 1 6 := iz1 i_110 iv_87 (zle_e rfl) (zle_e rfl)
              refine k_goto 183 X dX11_mend_k9.1.1.2.1 (jp_e rfl) ?_
              exact ih_75 _ (by omega) ((upd uf_70 (z_102 : Int32).toNatClampNeg r_106)) z_109 rfl (iv_w iv_111 (zle_e rfl) (zle_e rfl)) (fun d_st2 m_thrown2 m_trouble2 d_undone2 m_undos2 r h => h.elim (fun n_1 q => (KH_1 _ _ _ _ _ _ ⟨n_1 + 1, ⟨z_76, ez_76, (Or.inr ⟨h_79, ⟨z_89, ez_89, ⟨z_92, ez_92, ⟨z_95, ez_95, (Or.inr ⟨h_98, ⟨z_102, ez_102, ⟨z_105, ez_105, ⟨r_106, hq_107, ⟨z_109, ez_109, q⟩⟩⟩⟩⟩)⟩⟩⟩⟩)⟩⟩)))
        · skip
          have j_112 : u_60.toInt < z_65.toInt := iv_nle h_68
          have iv_113 : IV u_60 0 11 := iv_ltL (iv_nle h_68) hv_61 iv_67 (zle_e rfl)
          have iv_114 : IV z_65 1 12 := iv_ltR (iv_nle h_68) hv_61 iv_67 (zle_e rfl)
          refine k_aload_n X dX11_mend_k5.1.2.1.1 4 rfl ?_
          refine k_get (ci := 11) X inlX11 rfl 15 (nlt_e rfl) dX11_mend_k5.1.2.1.2 mw170 1 rfl rfl ?_
          refine k_bipush (v := 44) X dX11_mend_k5.1.2.2.1 bi_44 ?_
          refine k_iconst (v := 3) X dX11_mend_k5.1.2.2.2 ic_3 ?_
          refine k_iload X dX11_mend_k5.2.1.1.1 0 rfl ?_
          refine k_imul X dX11_mend_k5.2.1.1.2 ?_
          refine k_nm (fun z_115 ez_115 => ?_)
          have i_116 : z_115.toInt = 3 * u_60.toInt := in_mul ez_115 (by decide) (zle_e rfl) iv_113 (zle_e rfl) (zle_e rfl)
          have iv_117 : IV z_115 0 33 := iz4 i_116 iv_113 (zle_e rfl) (zle_e rfl) (zle_e rfl)
          refine k_iadd X dX11_mend_k5.2.1.2.1 ?_
          refine k_nm (fun z_118 ez_118 => ?_)
          have i_119 : z_118.toInt = 44 + z_115.toInt := in_add ez_118 iq_44_44_44 iv_117 (zle_e rfl) (zle_e rfl)
          have iv_120 : IV z_118 44 77 := iz2 i_119 iv_117 (zle_e rfl) (zle_e rfl)
          refine k_iald X dX11_mend_k5.2.1.2.2 0 rfl (iv_in iv_120 (zle_e rfl) (zle_l rfl)) ?_
          refine k_nm (fun z_121 ez_121 => ?_)
          have i_122 : z_118.toInt = 44 + 3 * u_60.toInt := by omega
          have iv_123 : IV z_121 0 7 := rb_44_3 ez_121 hp_d_r i_122 (iv_w iv_113 (zle_e rfl) (zle_e rfl))
          refine k_iload_n X dX11_mend_k5.2.2.1.1 3 rfl ?_
          refine k_ic_ne 174 X dX11_mend_k5.2.2.1.2 (jp_e rfl) (fun h_124 => ?_) (fun h_124 => ?_)
          · skip
            obtain ⟨z_125, ez_125⟩ : ∃ y : Int32, u_60 + Int32.ofInt 1 = y := ⟨_, rfl⟩
            refine k_iinc z_125 [(5, .int z_125), (4, .int z_48), (3, .int z_47), (2, .int z_19), (0, .ref h0), (1, .int p0)] 0 X dX11_mend_k6.2.2.1.2 rfl ez_125 (nlt_e rfl) rfl ?_
            have i_126 : z_125.toInt = u_60.toInt + 1 := in_inc ez_125 (oin_e rfl) iv_113 (zle_e rfl) (zle_e rfl)
            have iv_127 : IV z_125 1 12 := iz1 i_126 iv_113 (zle_e rfl) (zle_e rfl)
            refine k_goto 120 X dX11_mend_k6.2.2.2.1 (jp_e rfl) ?_
            exact ih_64 _ (by omega) uf_59 z_125 rfl (iv_w iv_127 (zle_e rfl) (zle_e rfl)) (fun d_st2 m_thrown2 m_trouble2 d_undone2 m_undos2 r h => h.elim (fun n_0 q => (KH_0 _ _ _ _ _ _ ⟨n_0 + 1, ⟨z_65, ez_65, (Or.inr ⟨h_68, ⟨z_115, ez_115, ⟨z_118, ez_118, ⟨z_121, ez_121, (Or.inl ⟨h_124, ⟨z_125, ez_125, q⟩⟩)⟩⟩⟩⟩)⟩⟩)))
          · skip
            refine k_aload_n X dX11_mend_k5.2.2.2.1 4 rfl ?_
            refine k_get (ci := 11) X inlX11 rfl 17 (nlt_e rfl) dX11_mend_k5.2.2.2.2 mw172 1 rfl rfl ?_
            refine k_bipush (v := 16) X dX11_mend_k6.1.1.1.1 bi_16 ?_
            refine k_iload X dX11_mend_k6.1.1.1.2 0 rfl ?_
            refine k_iadd X dX11_mend_k6.1.1.2.1 ?_
            refine k_nm (fun z_128 ez_128 => ?_)
            have i_129 : z_128.toInt = 16 + u_60.toInt := in_add ez_128 iq_16_16_16 iv_113 (zle_e rfl) (zle_e rfl)
            have iv_130 : IV z_128 16 27 := iz2 i_129 iv_113 (zle_e rfl) (zle_e rfl)
            refine k_aload_n X dX11_mend_k6.1.1.2.2 4 rfl ?_
            refine k_get (ci := 11) X inlX11 rfl 17 (nlt_e rfl) dX11_mend_k6.1.2.1.1 mw172 1 rfl rfl ?_
            refine k_bipush (v := 16) X dX11_mend_k6.1.2.1.2 bi_16 ?_
            refine k_iload X dX11_mend_k6.1.2.2.1 0 rfl ?_
            refine k_iadd X dX11_mend_k6.1.2.2.2 ?_
            refine k_to z_128 ez_128.symm ?_
            refine k_iald X dX11_mend_k6.2.1.1.1 2 rfl (iv_in iv_130 (zle_e rfl) (zle_l rfl)) ?_
            refine k_nm (fun z_131 ez_131 => ?_)
            refine k_iload_n X dX11_mend_k6.2.1.1.2 2 rfl ?_
            refine k_iload X dX11_mend_k6.2.1.2.1 1 rfl ?_
            refine k_callSI (n := 3) (As := [.int z_131, .int z_47, .int z_48]) (st := [.int z_128, .ref a_st]) X [] [(cAI g a_r 311 d_r), (cO11_i1r1i10r1i2r5i2r12i3r4i2 h0 m_thrown2_1 a_tape m_taped m_size m_at m_end m_token m_whole m_nameSize m_fault m_place m_trouble2_2 a_letters m_failed m_hasHouse a_r a_fresh a_st a_undone a_kept m_undos2_40 m_images a_from a_begin a_motor a_change a_startFrame a_changeFrame a_lostAt a_blackAt a_slips a_leftArc a_died a_arcs m_bestSum m_nearest m_nearestTown a_there a_backAt a_sorted a_parts m_seed1 m_darkNow), (cAI g a_st 44 uf_59), (cAI g a_undone 528 d_undone2_39)] [] [0, 1, 2, 3] (m_shiftedX l g z_131 z_47 z_48) dX11_mend_k6.2.1.2.2 mw1508 mw1509 mw5 mw1510 yk_yX11_shifted_3 rfl (Nat.le_of_ble_eq_true rfl) (Nat.le_of_ble_eq_true rfl) (Nat.le_of_ble_eq_true rfl) (Nat.le_of_ble_eq_true rfl) (Nat.le_of_ble_eq_true rfl) rfl rfl (vnd_e rfl) rfl (vnd_e rfl) (dsj_e rfl) ?_
            rintro r_132 w ⟨hq_133, rfl⟩
            refine k_ws [(cAI g a_r 311 d_r), (cO11_i1r1i10r1i2r5i2r12i3r4i2 h0 m_thrown2_1 a_tape m_taped m_size m_at m_end m_token m_whole m_nameSize m_fault m_place m_trouble2_2 a_letters m_failed m_hasHouse a_r a_fresh a_st a_undone a_kept m_undos2_40 m_images a_from a_begin a_motor a_change a_startFrame a_changeFrame a_lostAt a_blackAt a_slips a_leftArc a_died a_arcs m_bestSum m_nearest m_nearestTown a_there a_backAt a_sorted a_parts m_seed1 m_darkNow), (cAI g a_st 44 uf_59), (cAI g a_undone 528 d_undone2_39)] rfl ?_
            refine k_iast [(cAI g a_r 311 d_r), (cO11_i1r1i10r1i2r5i2r12i3r4i2 h0 m_thrown2_1 a_tape m_taped m_size m_at m_end m_token m_whole m_nameSize m_fault m_place m_trouble2_2 a_letters m_failed m_hasHouse a_r a_fresh a_st a_undone a_kept m_undos2_40 m_images a_from a_begin a_motor a_change a_startFrame a_changeFrame a_lostAt a_blackAt a_slips a_leftArc a_died a_arcs m_bestSum m_nearest m_nearestTown a_there a_backAt a_sorted a_parts m_seed1 m_darkNow), (cAI g a_st 44 (upd uf_59 (z_128 : Int32).toNatClampNeg r_132)), (cAI g a_undone 528 d_undone2_39)] X dX11_mend_k6.2.2.1.1 2 rfl (iv_in iv_130 (zle_e rfl) (zle_l rfl)) rfl ?_
            obtain ⟨z_135, ez_135⟩ : ∃ y : Int32, u_60 + Int32.ofInt 1 = y := ⟨_, rfl⟩
            refine k_iinc z_135 [(5, .int z_135), (4, .int z_48), (3, .int z_47), (2, .int z_19), (0, .ref h0), (1, .int p0)] 0 X dX11_mend_k6.2.2.1.2 rfl ez_135 (nlt_e rfl) rfl ?_
            have i_136 : z_135.toInt = u_60.toInt + 1 := in_inc ez_135 (oin_e rfl) iv_113 (zle_e rfl) (zle_e rfl)
            have iv_137 : IV z_135 1 12 := iz1 i_136 iv_113 (zle_e rfl) (zle_e rfl)
            refine k_goto 120 X dX11_mend_k6.2.2.2.1 (jp_e rfl) ?_
            exact ih_64 _ (by omega) ((upd uf_59 (z_128 : Int32).toNatClampNeg r_132)) z_135 rfl (iv_w iv_137 (zle_e rfl) (zle_e rfl)) (fun d_st2 m_thrown2 m_trouble2 d_undone2 m_undos2 r h => h.elim (fun n_0 q => (KH_0 _ _ _ _ _ _ ⟨n_0 + 1, ⟨z_65, ez_65, (Or.inr ⟨h_68, ⟨z_115, ez_115, ⟨z_118, ez_118, ⟨z_121, ez_121, (Or.inr ⟨h_124, ⟨z_128, ez_128, ⟨z_131, ez_131, ⟨r_132, hq_133, ⟨z_135, ez_135, q⟩⟩⟩⟩⟩)⟩⟩⟩⟩)⟩⟩)))
      · skip
        have j_138 : z_35.toInt < 6 := iv_nle h_36
        have iv_139 : IV z_35 (-2147483648) 5 := iv_ltL (iv_nle h_36) (iv_any z_35) iq_6_6_6 (zle_e rfl)
        refine k_aload_n X dX11_mend_k1.2.2.2.2 1 rfl ?_
        refine k_iconst (v := 5) X dX11_mend_k2.1.1.1.1 ic_5 ?_
        refine k_callVI (n := 1) (As := [.int 5]) (st := []) X [(cO11_i1r1i10r1i2r5i2r12i3r4i2 h0 m_thrown2_1 a_tape m_taped m_size m_at m_end m_token m_whole m_nameSize m_fault m_place m_trouble2_2 a_letters m_failed m_hasHouse a_r a_fresh a_st a_undone a_kept m_undos m_images a_from a_begin a_motor a_change a_startFrame a_changeFrame a_lostAt a_blackAt a_slips a_leftArc a_died a_arcs m_bestSum m_nearest m_nearestTown a_there a_backAt a_sorted a_parts m_seed1 m_darkNow)] [(cAI g a_undone 528 d_undone), (cAI g a_r 311 d_r), (cAI g a_st 44 d_st)] [2] [0, 1, 3] (m_noX l g h0 5 m_thrown2_1 a_tape m_taped m_size m_at m_end m_token m_whole m_nameSize m_fault m_place m_trouble2_2 a_letters m_failed m_hasHouse a_r a_fresh a_st a_undone a_kept m_undos m_images a_from a_begin a_motor a_change a_startFrame a_changeFrame a_lostAt a_blackAt a_slips a_leftArc a_died a_arcs m_bestSum m_nearest m_nearestTown a_there a_backAt a_sorted a_parts m_seed1 m_darkNow) dX11_mend_k2.1.1.1.2 mw485 mw486 mw487 mw5 mw488 rfl 11 rfl rfl 0 _ rfl yk_yX11_no_1 rfl (Nat.le_of_ble_eq_true rfl) (Nat.le_of_ble_eq_true rfl) (Nat.le_of_ble_eq_true rfl) (Nat.le_of_ble_eq_true rfl) (Nat.le_of_ble_eq_true rfl) rfl rfl (vnd_e rfl) rfl (vnd_e rfl) (dsj_e rfl) ?_
        rintro r_141 w ⟨m_trouble2_140, iv_142, hq_143, rfl⟩
        refine k_ws [(cAI g a_undone 528 d_undone), (cAI g a_r 311 d_r), (cAI g a_st 44 d_st), (cO11_i1r1i10r1i2r5i2r12i3r4i2 h0 m_thrown2_1 a_tape m_taped m_size m_at m_end m_token m_whole m_nameSize m_fault m_place m_trouble2_140 a_letters m_failed m_hasHouse a_r a_fresh a_st a_undone a_kept m_undos m_images a_from a_begin a_motor a_change a_startFrame a_changeFrame a_lostAt a_blackAt a_slips a_leftArc a_died a_arcs m_bestSum m_nearest m_nearestTown a_there a_backAt a_sorted a_parts m_seed1 m_darkNow)] rfl ?_
        exact k_iret X hr dX11_mend_k2.1.1.2.1 (Nat.le_of_ble_eq_true rfl) (Nat.le_of_ble_eq_true rfl) [3, 1, 2, 0] (vnd_e rfl) rfl rfl (exI5 d_st m_thrown2_1 m_trouble2_140 d_undone m_undos ⟨(iv_w hv_m_undos (zle_e rfl) (zle_e rfl)), ⟨m_thrown2_1, m_trouble2_2, hq_4, ⟨r_5, hq_7, (Or.inl ⟨h_9, ⟨z_13, ez_13, ⟨z_16, ez_16, ⟨z_19, ez_19, ⟨r_22, hq_24, (Or.inr ⟨h_25, ⟨z_32, ez_32, ⟨z_35, ez_35, (Or.inr ⟨h_36, ⟨m_trouble2_140, r_141, hq_143, ⟨rfl, rfl, rfl, rfl, rfl, rfl⟩⟩⟩)⟩⟩⟩)⟩⟩⟩⟩⟩)⟩⟩, rfl⟩)
  · skip
    have iv_144 : IV r_5 0 0 := iv_meet iv_6 (iv_e h_9 iq_0_0_0) (zle_o rfl) (zle_o rfl)
    refine k_aload_n X dX11_mend_k0.1.2.2.1 0 rfl ?_
    refine k_iconst (v := 1) X dX11_mend_k0.1.2.2.2 ic_1 ?_
    refine k_callVI (n := 1) (As := [.int 1]) (st := []) X [(cO11_i1r1i10r1i2r5i2r12i3r4i2 h0 m_thrown2_1 a_tape m_taped m_size m_at m_end m_token m_whole m_nameSize m_fault m_place m_trouble2_2 a_letters m_failed m_hasHouse a_r a_fresh a_st a_undone a_kept m_undos m_images a_from a_begin a_motor a_change a_startFrame a_changeFrame a_lostAt a_blackAt a_slips a_leftArc a_died a_arcs m_bestSum m_nearest m_nearestTown a_there a_backAt a_sorted a_parts m_seed1 m_darkNow)] [(cAI g a_st 44 d_st), (cAI g a_undone 528 d_undone), (cAI g a_r 311 d_r)] [2] [0, 1, 3] (m_noX l g h0 1 m_thrown2_1 a_tape m_taped m_size m_at m_end m_token m_whole m_nameSize m_fault m_place m_trouble2_2 a_letters m_failed m_hasHouse a_r a_fresh a_st a_undone a_kept m_undos m_images a_from a_begin a_motor a_change a_startFrame a_changeFrame a_lostAt a_blackAt a_slips a_leftArc a_died a_arcs m_bestSum m_nearest m_nearestTown a_there a_backAt a_sorted a_parts m_seed1 m_darkNow) dX11_mend_k0.2.1.1.1 mw485 mw486 mw487 mw5 mw488 rfl 11 rfl rfl 0 _ rfl yk_yX11_no_1 rfl (Nat.le_of_ble_eq_true rfl) (Nat.le_of_ble_eq_true rfl) (Nat.le_of_ble_eq_true rfl) (Nat.le_of_ble_eq_true rfl) (Nat.le_of_ble_eq_true rfl) rfl rfl (vnd_e rfl) rfl (vnd_e rfl) (dsj_e rfl) ?_
    rintro r_146 w ⟨m_trouble2_145, iv_147, hq_148, rfl⟩
    refine k_ws [(cAI g a_st 44 d_st), (cAI g a_undone 528 d_undone), (cAI g a_r 311 d_r), (cO11_i1r1i10r1i2r5i2r12i3r4i2 h0 m_thrown2_1 a_tape m_taped m_size m_at m_end m_token m_whole m_nameSize m_fault m_place m_trouble2_145 a_letters m_failed m_hasHouse a_r a_fresh a_st a_undone a_kept m_undos m_images a_from a_begin a_motor a_change a_startFrame a_changeFrame a_lostAt a_blackAt a_slips a_leftArc a_died a_arcs m_bestSum m_nearest m_nearestTown a_there a_backAt a_sorted a_parts m_seed1 m_darkNow)] rfl ?_
    exact k_iret X hr dX11_mend_k0.2.1.1.2 (Nat.le_of_ble_eq_true rfl) (Nat.le_of_ble_eq_true rfl) [3, 2, 0, 1] (vnd_e rfl) rfl rfl (exI5 d_st m_thrown2_1 m_trouble2_145 d_undone m_undos ⟨(iv_w hv_m_undos (zle_e rfl) (zle_e rfl)), ⟨m_thrown2_1, m_trouble2_2, hq_4, ⟨r_5, hq_7, (Or.inr ⟨h_9, ⟨m_trouble2_145, r_146, hq_148, ⟨rfl, rfl, rfl, rfl, rfl, rfl⟩⟩⟩)⟩⟩, rfl⟩)


set_option maxHeartbeats 4000000 in
set_option maxRecDepth 100000 in
theorem m_undoX (l : Launch) (g : Gx) (h0 : Nat) (m_thrown : Int32) (a_tape : Nat) (m_taped : Int32) (m_size : Int32) (m_at : Int32) (m_end : Int32) (m_token : Int32) (m_whole : Int32) (m_nameSize : Int32) (m_fault : Int32) (m_place : Int32) (m_trouble : Int32) (a_letters : Nat) (m_failed : Int32) (m_hasHouse : Int32) (a_r : Nat) (a_fresh : Nat) (a_st : Nat) (a_undone : Nat) (a_kept : Nat) (m_undos : Int32) (m_images : Int32) (a_from : Nat) (a_begin : Nat) (a_motor : Nat) (a_change : Nat) (a_startFrame : Nat) (a_changeFrame : Nat) (a_lostAt : Nat) (a_blackAt : Nat) (a_slips : Nat) (a_leftArc : Nat) (a_died : Nat) (a_arcs : Nat) (m_bestSum : Int32) (m_nearest : Int32) (m_nearestTown : Int32) (a_there : Nat) (a_backAt : Nat) (a_sorted : Nat) (a_parts : Nat) (m_seed1 : Int32) (m_darkNow : Int32) (d_st : Nat → Int32) (d_undone : Nat → Int32) (hv_m_undos : IV m_undos 0 12) : cI l g yX11_undo cX11_undo 1 (some .boolean) 1 25 0 0 [.ref h0] [(cO11_i1r1i10r1i2r5i2r12i3r4i2 h0 m_thrown a_tape m_taped m_size m_at m_end m_token m_whole m_nameSize m_fault m_place m_trouble a_letters m_failed m_hasHouse a_r a_fresh a_st a_undone a_kept m_undos m_images a_from a_begin a_motor a_change a_startFrame a_changeFrame a_lostAt a_blackAt a_slips a_leftArc a_died a_arcs m_bestSum m_nearest m_nearestTown a_there a_backAt a_sorted a_parts m_seed1 m_darkNow), (cAI g a_st 44 d_st), (cAI g a_undone 528 d_undone)] (fun r w => ∃ (d_st2 : Nat → Int32) (m_thrown2 : Int32) (m_trouble2 : Int32) (m_undos2 : Int32), IV m_undos2 0 12 ∧ IV r 0 1 ∧ (R_m_undoX m_undos d_st d_undone d_st2 m_thrown2 m_trouble2 m_undos2 r) ∧ w = [(cO11_i1r1i10r1i2r5i2r12i3r4i2 h0 m_thrown2 a_tape m_taped m_size m_at m_end m_token m_whole m_nameSize m_fault m_place m_trouble2 a_letters m_failed m_hasHouse a_r a_fresh a_st a_undone a_kept m_undos2 m_images a_from a_begin a_motor a_change a_startFrame a_changeFrame a_lostAt a_blackAt a_slips a_leftArc a_died a_arcs m_bestSum m_nearest m_nearestTown a_there a_backAt a_sorted a_parts m_seed1 m_darkNow), (cAI g a_st 44 d_st2), (cAI g a_undone 528 d_undone)]) := by
  refine cI.of (by decide) (Nat.le_of_ble_eq_true rfl) ?_
  intro p e s m args below meth c A X hr hi
  refine k_lveq [(0, .ref h0)] rfl ?_
  refine k_aload_n X dX11_undo_k0.1.1.1.1 0 rfl ?_
  refine k_callVV (n := 0) (As := []) (st := []) X [(cO11_i1r1i10r1i2r5i2r12i3r4i2 h0 m_thrown a_tape m_taped m_size m_at m_end m_token m_whole m_nameSize m_fault m_place m_trouble a_letters m_failed m_hasHouse a_r a_fresh a_st a_undone a_kept m_undos m_images a_from a_begin a_motor a_change a_startFrame a_changeFrame a_lostAt a_blackAt a_slips a_leftArc a_died a_arcs m_bestSum m_nearest m_nearestTown a_there a_backAt a_sorted a_parts m_seed1 m_darkNow)] [(cAI g a_st 44 d_st), (cAI g a_undone 528 d_undone)] [0] [1, 2] (m_goodX l g h0 m_thrown a_tape m_taped m_size m_at m_end m_token m_whole m_nameSize m_fault m_place m_trouble a_letters m_failed m_hasHouse a_r a_fresh a_st a_undone a_kept m_undos m_images a_from a_begin a_motor a_change a_startFrame a_changeFrame a_lostAt a_blackAt a_slips a_leftArc a_died a_arcs m_bestSum m_nearest m_nearestTown a_there a_backAt a_sorted a_parts m_seed1 m_darkNow) dX11_undo_k0.1.1.1.2 mw477 mw478 mw479 mw5 mw480 rfl 11 rfl rfl 0 _ rfl yk_yX11_good_0 rfl (Nat.le_of_ble_eq_true rfl) (Nat.le_of_ble_eq_true rfl) (Nat.le_of_ble_eq_true rfl) (Nat.le_of_ble_eq_true rfl) (Nat.le_of_ble_eq_true rfl) rfl rfl (vnd_e rfl) rfl (vnd_e rfl) (dsj_e rfl) ?_
  rintro w ⟨m_thrown2_1, m_trouble2_2, hq_4, rfl⟩
  refine k_ws [(cAI g a_st 44 d_st), (cAI g a_undone 528 d_undone), (cO11_i1r1i10r1i2r5i2r12i3r4i2 h0 m_thrown2_1 a_tape m_taped m_size m_at m_end m_token m_whole m_nameSize m_fault m_place m_trouble2_2 a_letters m_failed m_hasHouse a_r a_fresh a_st a_undone a_kept m_undos m_images a_from a_begin a_motor a_change a_startFrame a_changeFrame a_lostAt a_blackAt a_slips a_leftArc a_died a_arcs m_bestSum m_nearest m_nearestTown a_there a_backAt a_sorted a_parts m_seed1 m_darkNow)] rfl ?_
  refine k_aload_n X dX11_undo_k0.1.1.2.1 0 rfl ?_
  refine k_get (ci := 11) X inlX11 rfl 20 (nlt_e rfl) dX11_undo_k0.1.1.2.2 mw475 2 rfl rfl ?_
  refine k_if_ne 18 X dX11_undo_k0.1.2.1.1 (jp_e rfl) (fun h_5 => ?_) (fun h_5 => ?_)
  · skip
    have iv_6 : IV m_undos 1 12 := iv_neL h_5 hv_m_undos iq_0_0_0 (zle_e rfl)
    refine k_aload_n X dX11_undo_k0.2.1.1.2 0 rfl ?_
    refine k_dup X dX11_undo_k0.2.1.2.1 rfl ?_
    refine k_get (ci := 11) X inlX11 rfl 20 (nlt_e rfl) dX11_undo_k0.2.1.2.2 mw475 2 rfl rfl ?_
    refine k_iconst (v := 1) X dX11_undo_k0.2.2.1.1 ic_1 ?_
    refine k_isub X dX11_undo_k0.2.2.1.2 ?_
    refine k_nm (fun z_7 ez_7 => ?_)
    have i_8 : z_7.toInt = m_undos.toInt - 1 := in_sub ez_7 iv_6 iq_1_1_1 (zle_e rfl) (zle_e rfl)
    have iv_9 : IV z_7 0 11 := iz5 i_8 iv_6 (zle_e rfl) (zle_e rfl)
    refine k_put (ci := 11) [(cAI g a_st 44 d_st), (cAI g a_undone 528 d_undone), (cO11_i1r1i10r1i2r5i2r12i3r4i2 h0 m_thrown2_1 a_tape m_taped m_size m_at m_end m_token m_whole m_nameSize m_fault m_place m_trouble2_2 a_letters m_failed m_hasHouse a_r a_fresh a_st a_undone a_kept z_7 m_images a_from a_begin a_motor a_change a_startFrame a_changeFrame a_lostAt a_blackAt a_slips a_leftArc a_died a_arcs m_bestSum m_nearest m_nearestTown a_there a_backAt a_sorted a_parts m_seed1 m_darkNow)] X inlX11 rfl tyX11_ok nmX11 20 (nlt_e rfl) rfl dX11_undo_k0.2.2.2.1 mw475 2 rfl rfl rfl (Nat.le_of_ble_eq_true rfl) rfl ?_
    refine k_aload_n X dX11_undo_k0.2.2.2.2 0 rfl ?_
    refine k_get (ci := 11) X inlX11 rfl 18 (nlt_e rfl) dX11_undo_k1.1.1.1 mw173 2 rfl rfl ?_
    refine k_bipush (v := 44) X dX11_undo_k1.1.1.2.1 bi_44 ?_
    refine k_aload_n X dX11_undo_k1.1.1.2.2 0 rfl ?_
    refine k_get (ci := 11) X inlX11 rfl 20 (nlt_e rfl) dX11_undo_k1.1.2.1 mw475 2 rfl rfl ?_
    refine k_imul X dX11_undo_k1.1.2.2.1 ?_
    refine k_nm (fun z_10 ez_10 => ?_)
    have i_11 : z_10.toInt = 44 * z_7.toInt := in_mul ez_10 (by decide) (zle_e rfl) iv_9 (zle_e rfl) (zle_e rfl)
    have iv_12 : IV z_10 0 484 := iz4 i_11 iv_9 (zle_e rfl) (zle_e rfl) (zle_e rfl)
    refine k_aload_n X dX11_undo_k1.1.2.2.2 0 rfl ?_
    refine k_get (ci := 11) X inlX11 rfl 17 (nlt_e rfl) dX11_undo_k1.2.1.1 mw172 2 rfl rfl ?_
    refine k_iconst (v := 0) X dX11_undo_k1.2.1.2.1 ic_0 ?_
    refine k_bipush (v := 44) X dX11_undo_k1.2.1.2.2 bi_44 ?_
    refine k_callSV (n := 5) (As := [.ref a_undone, .int z_10, .ref a_st, .int 0, .int 44]) (st := []) X [(cAI g a_undone 528 d_undone), (cAI g a_st 44 d_st)] [(cO11_i1r1i10r1i2r5i2r12i3r4i2 h0 m_thrown2_1 a_tape m_taped m_size m_at m_end m_token m_whole m_nameSize m_fault m_place m_trouble2_2 a_letters m_failed m_hasHouse a_r a_fresh a_st a_undone a_kept z_7 m_images a_from a_begin a_motor a_change a_startFrame a_changeFrame a_lostAt a_blackAt a_slips a_leftArc a_died a_arcs m_bestSum m_nearest m_nearestTown a_there a_backAt a_sorted a_parts m_seed1 m_darkNow)] [1, 0] [2] (m_copyBX l g a_undone z_10 a_st d_undone d_st (iv_w iv_12 (zle_e rfl) (zle_e rfl))) dX11_undo_k1.2.2.1 mw619 mw620 mw5 mw621 yk_yX11_copy_5 rfl (Nat.le_of_ble_eq_true rfl) (Nat.le_of_ble_eq_true rfl) (Nat.le_of_ble_eq_true rfl) (Nat.le_of_ble_eq_true rfl) (Nat.le_of_ble_eq_true rfl) rfl rfl (vnd_e rfl) rfl (vnd_e rfl) (dsj_e rfl) ?_
    rintro w ⟨f3_13, hq_15, rfl⟩
    refine k_ws [(cO11_i1r1i10r1i2r5i2r12i3r4i2 h0 m_thrown2_1 a_tape m_taped m_size m_at m_end m_token m_whole m_nameSize m_fault m_place m_trouble2_2 a_letters m_failed m_hasHouse a_r a_fresh a_st a_undone a_kept z_7 m_images a_from a_begin a_motor a_change a_startFrame a_changeFrame a_lostAt a_blackAt a_slips a_leftArc a_died a_arcs m_bestSum m_nearest m_nearestTown a_there a_backAt a_sorted a_parts m_seed1 m_darkNow), (cAI g a_undone 528 d_undone), (cAI g a_st 44 f3_13)] rfl ?_
    refine k_iconst (v := 1) X dX11_undo_k1.2.2.2.1 ic_1 ?_
    exact k_zret X hr (by first | rfl | decide) dX11_undo_k1.2.2.2.2 (Nat.le_of_ble_eq_true rfl) (Nat.le_of_ble_eq_true rfl) [0, 2, 1] (vnd_e rfl) rfl rfl (exI4 f3_13 m_thrown2_1 m_trouble2_2 z_7 ⟨(iv_w iv_9 (zle_e rfl) (zle_e rfl)), (iv_w iq_1_1_1 (zle_e rfl) (zle_e rfl)), ⟨m_thrown2_1, m_trouble2_2, hq_4, (Or.inl ⟨h_5, ⟨z_7, ez_7, ⟨z_10, ez_10, ⟨f3_13, hq_15, ⟨rfl, rfl, rfl, rfl, rfl⟩⟩⟩⟩⟩)⟩, rfl⟩)
  · skip
    have iv_16 : IV m_undos 0 0 := iv_meet hv_m_undos (iv_e h_5 iq_0_0_0) (zle_o rfl) (zle_o rfl)
    refine k_aload_n X dX11_undo_k0.1.2.1.2 0 rfl ?_
    refine k_bipush (v := 6) X dX11_undo_k0.1.2.2.1 bi_6 ?_
    refine k_callVI (n := 1) (As := [.int 6]) (st := []) X [(cO11_i1r1i10r1i2r5i2r12i3r4i2 h0 m_thrown2_1 a_tape m_taped m_size m_at m_end m_token m_whole m_nameSize m_fault m_place m_trouble2_2 a_letters m_failed m_hasHouse a_r a_fresh a_st a_undone a_kept m_undos m_images a_from a_begin a_motor a_change a_startFrame a_changeFrame a_lostAt a_blackAt a_slips a_leftArc a_died a_arcs m_bestSum m_nearest m_nearestTown a_there a_backAt a_sorted a_parts m_seed1 m_darkNow)] [(cAI g a_st 44 d_st), (cAI g a_undone 528 d_undone)] [2] [0, 1] (m_isNotX l g h0 6 m_thrown2_1 a_tape m_taped m_size m_at m_end m_token m_whole m_nameSize m_fault m_place m_trouble2_2 a_letters m_failed m_hasHouse a_r a_fresh a_st a_undone a_kept m_undos m_images a_from a_begin a_motor a_change a_startFrame a_changeFrame a_lostAt a_blackAt a_slips a_leftArc a_died a_arcs m_bestSum m_nearest m_nearestTown a_there a_backAt a_sorted a_parts m_seed1 m_darkNow) dX11_undo_k0.1.2.2.2 mw1471 mw1472 mw1473 mw5 mw1474 rfl 11 rfl rfl 0 _ rfl yk_yX11_isNot_1 rfl (Nat.le_of_ble_eq_true rfl) (Nat.le_of_ble_eq_true rfl) (Nat.le_of_ble_eq_true rfl) (Nat.le_of_ble_eq_true rfl) (Nat.le_of_ble_eq_true rfl) rfl rfl (vnd_e rfl) rfl (vnd_e rfl) (dsj_e rfl) ?_
    rintro r_18 w ⟨m_trouble2_17, iv_19, hq_20, rfl⟩
    refine k_ws [(cAI g a_st 44 d_st), (cAI g a_undone 528 d_undone), (cO11_i1r1i10r1i2r5i2r12i3r4i2 h0 m_thrown2_1 a_tape m_taped m_size m_at m_end m_token m_whole m_nameSize m_fault m_place m_trouble2_17 a_letters m_failed m_hasHouse a_r a_fresh a_st a_undone a_kept m_undos m_images a_from a_begin a_motor a_change a_startFrame a_changeFrame a_lostAt a_blackAt a_slips a_leftArc a_died a_arcs m_bestSum m_nearest m_nearestTown a_there a_backAt a_sorted a_parts m_seed1 m_darkNow)] rfl ?_
    exact k_zret X hr (zn_b (iv_w iv_19 (zle_e rfl) (zle_e rfl))) dX11_undo_k0.2.1.1.1 (Nat.le_of_ble_eq_true rfl) (Nat.le_of_ble_eq_true rfl) [2, 0, 1] (vnd_e rfl) rfl rfl (exI4 d_st m_thrown2_1 m_trouble2_17 m_undos ⟨(iv_w iv_16 (zle_e rfl) (zle_e rfl)), (iv_w iv_19 (zle_e rfl) (zle_e rfl)), ⟨m_thrown2_1, m_trouble2_2, hq_4, (Or.inr ⟨h_5, ⟨m_trouble2_17, r_18, hq_20, ⟨rfl, rfl, rfl, rfl, rfl⟩⟩⟩)⟩, rfl⟩)


set_option maxHeartbeats 4000000 in
set_option maxRecDepth 100000 in
theorem m_imageX (l : Launch) (g : Gx) (h0 : Nat) (m_thrown : Int32) (a_tape : Nat) (m_taped : Int32) (m_size : Int32) (m_at : Int32) (m_end : Int32) (m_token : Int32) (m_whole : Int32) (m_nameSize : Int32) (m_fault : Int32) (m_place : Int32) (m_trouble : Int32) (a_letters : Nat) (m_failed : Int32) (m_hasHouse : Int32) (a_r : Nat) (a_fresh : Nat) (a_st : Nat) (a_undone : Nat) (a_kept : Nat) (m_undos : Int32) (m_images : Int32) (a_from : Nat) (a_begin : Nat) (a_motor : Nat) (a_change : Nat) (a_startFrame : Nat) (a_changeFrame : Nat) (a_lostAt : Nat) (a_blackAt : Nat) (a_slips : Nat) (a_leftArc : Nat) (a_died : Nat) (a_arcs : Nat) (m_bestSum : Int32) (m_nearest : Int32) (m_nearestTown : Int32) (a_there : Nat) (a_backAt : Nat) (a_sorted : Nat) (a_parts : Nat) (m_seed1 : Int32) (m_darkNow : Int32) (d_st : Nat → Int32) (d_kept : Nat → Int32) (hv_m_hasHouse : IV m_hasHouse 0 1) (hv_m_images : IV m_images 0 3) : cI l g yX11_image cX11_image 1 (some .int) 1 25 0 0 [.ref h0] [(cO11_i1r1i10r1i2r5i2r12i3r4i2 h0 m_thrown a_tape m_taped m_size m_at m_end m_token m_whole m_nameSize m_fault m_place m_trouble a_letters m_failed m_hasHouse a_r a_fresh a_st a_undone a_kept m_undos m_images a_from a_begin a_motor a_change a_startFrame a_changeFrame a_lostAt a_blackAt a_slips a_leftArc a_died a_arcs m_bestSum m_nearest m_nearestTown a_there a_backAt a_sorted a_parts m_seed1 m_darkNow), (cAI g a_st 44 d_st), (cAI g a_kept 132 d_kept)] (fun r w => ∃ (m_images2 : Int32) (d_kept2 : Nat → Int32) (m_thrown2 : Int32) (m_trouble2 : Int32), IV m_images2 0 3 ∧ (R_m_imageX m_hasHouse m_images d_st d_kept m_images2 d_kept2 m_thrown2 m_trouble2 r) ∧ w = [(cO11_i1r1i10r1i2r5i2r12i3r4i2 h0 m_thrown2 a_tape m_taped m_size m_at m_end m_token m_whole m_nameSize m_fault m_place m_trouble2 a_letters m_failed m_hasHouse a_r a_fresh a_st a_undone a_kept m_undos m_images2 a_from a_begin a_motor a_change a_startFrame a_changeFrame a_lostAt a_blackAt a_slips a_leftArc a_died a_arcs m_bestSum m_nearest m_nearestTown a_there a_backAt a_sorted a_parts m_seed1 m_darkNow), (cAI g a_st 44 d_st), (cAI g a_kept 132 d_kept2)]) := by
  refine cI.of (by decide) (Nat.le_of_ble_eq_true rfl) ?_
  intro p e s m args below meth c A X hr hi
  refine k_lveq [(0, .ref h0)] rfl ?_
  refine k_aload_n X dX11_image_k0.1.1.1.1 0 rfl ?_
  refine k_callVV (n := 0) (As := []) (st := []) X [(cO11_i1r1i10r1i2r5i2r12i3r4i2 h0 m_thrown a_tape m_taped m_size m_at m_end m_token m_whole m_nameSize m_fault m_place m_trouble a_letters m_failed m_hasHouse a_r a_fresh a_st a_undone a_kept m_undos m_images a_from a_begin a_motor a_change a_startFrame a_changeFrame a_lostAt a_blackAt a_slips a_leftArc a_died a_arcs m_bestSum m_nearest m_nearestTown a_there a_backAt a_sorted a_parts m_seed1 m_darkNow)] [(cAI g a_st 44 d_st), (cAI g a_kept 132 d_kept)] [0] [1, 2] (m_goodX l g h0 m_thrown a_tape m_taped m_size m_at m_end m_token m_whole m_nameSize m_fault m_place m_trouble a_letters m_failed m_hasHouse a_r a_fresh a_st a_undone a_kept m_undos m_images a_from a_begin a_motor a_change a_startFrame a_changeFrame a_lostAt a_blackAt a_slips a_leftArc a_died a_arcs m_bestSum m_nearest m_nearestTown a_there a_backAt a_sorted a_parts m_seed1 m_darkNow) dX11_image_k0.1.1.1.2 mw477 mw478 mw479 mw5 mw480 rfl 11 rfl rfl 0 _ rfl yk_yX11_good_0 rfl (Nat.le_of_ble_eq_true rfl) (Nat.le_of_ble_eq_true rfl) (Nat.le_of_ble_eq_true rfl) (Nat.le_of_ble_eq_true rfl) (Nat.le_of_ble_eq_true rfl) rfl rfl (vnd_e rfl) rfl (vnd_e rfl) (dsj_e rfl) ?_
  rintro w ⟨m_thrown2_1, m_trouble2_2, hq_4, rfl⟩
  refine k_ws [(cAI g a_st 44 d_st), (cAI g a_kept 132 d_kept), (cO11_i1r1i10r1i2r5i2r12i3r4i2 h0 m_thrown2_1 a_tape m_taped m_size m_at m_end m_token m_whole m_nameSize m_fault m_place m_trouble2_2 a_letters m_failed m_hasHouse a_r a_fresh a_st a_undone a_kept m_undos m_images a_from a_begin a_motor a_change a_startFrame a_changeFrame a_lostAt a_blackAt a_slips a_leftArc a_died a_arcs m_bestSum m_nearest m_nearestTown a_there a_backAt a_sorted a_parts m_seed1 m_darkNow)] rfl ?_
  refine k_aload_n X dX11_image_k0.1.1.2.1 0 rfl ?_
  refine k_get (ci := 11) X inlX11 rfl 14 (nlt_e rfl) dX11_image_k0.1.1.2.2 mw474 2 rfl rfl ?_
  refine k_if_ne 17 X dX11_image_k0.1.2.1.1 (jp_e rfl) (fun h_5 => ?_) (fun h_5 => ?_)
  · skip
    have iv_6 : IV m_hasHouse 1 1 := iv_neL h_5 hv_m_hasHouse iq_0_0_0 (zle_e rfl)
    refine k_aload_n X dX11_image_k0.2.1.1.2 0 rfl ?_
    refine k_get (ci := 11) X inlX11 rfl 21 (nlt_e rfl) dX11_image_k0.2.1.2.1 mw476 2 rfl rfl ?_
    refine k_iconst (v := 3) X dX11_image_k0.2.1.2.2 ic_3 ?_
    refine k_ic_ne 31 X dX11_image_k0.2.2.1.1 (jp_e rfl) (fun h_7 => ?_) (fun h_7 => ?_)
    · skip
      have iv_8 : IV m_images 0 2 := iv_neH h_7 hv_m_images iq_3_3_3 (by decide)
      refine k_aload_n X dX11_image_k1.1.1.1.2 0 rfl ?_
      refine k_get (ci := 11) X inlX11 rfl 17 (nlt_e rfl) dX11_image_k1.1.1.2.1 mw172 2 rfl rfl ?_
      refine k_iconst (v := 0) X dX11_image_k1.1.1.2.2 ic_0 ?_
      refine k_aload_n X dX11_image_k1.1.2.1.1 0 rfl ?_
      refine k_get (ci := 11) X inlX11 rfl 19 (nlt_e rfl) dX11_image_k1.1.2.1.2 mw174 2 rfl rfl ?_
      refine k_bipush (v := 44) X dX11_image_k1.1.2.2.1 bi_44 ?_
      refine k_aload_n X dX11_image_k1.1.2.2.2 0 rfl ?_
      refine k_get (ci := 11) X inlX11 rfl 21 (nlt_e rfl) dX11_image_k1.2.1.1.1 mw476 2 rfl rfl ?_
      refine k_imul X dX11_image_k1.2.1.1.2 ?_
      refine k_nm (fun z_9 ez_9 => ?_)
      have i_10 : z_9.toInt = 44 * m_images.toInt := in_mul ez_9 (by decide) (zle_e rfl) iv_8 (zle_e rfl) (zle_e rfl)
      have iv_11 : IV z_9 0 88 := iz4 i_10 iv_8 (zle_e rfl) (zle_e rfl) (zle_e rfl)
      refine k_bipush (v := 44) X dX11_image_k1.2.1.2.1 bi_44 ?_
      refine k_callSV (n := 5) (As := [.ref a_st, .int 0, .ref a_kept, .int z_9, .int 44]) (st := []) X [(cAI g a_st 44 d_st), (cAI g a_kept 132 d_kept)] [(cO11_i1r1i10r1i2r5i2r12i3r4i2 h0 m_thrown2_1 a_tape m_taped m_size m_at m_end m_token m_whole m_nameSize m_fault m_place m_trouble2_2 a_letters m_failed m_hasHouse a_r a_fresh a_st a_undone a_kept m_undos m_images a_from a_begin a_motor a_change a_startFrame a_changeFrame a_lostAt a_blackAt a_slips a_leftArc a_died a_arcs m_bestSum m_nearest m_nearestTown a_there a_backAt a_sorted a_parts m_seed1 m_darkNow)] [0, 1] [2] (m_copyCX l g a_st a_kept z_9 d_st d_kept (iv_w iv_11 (zle_e rfl) (zle_e rfl))) dX11_image_k1.2.1.2.2 mw619 mw620 mw5 mw621 yk_yX11_copy_5 rfl (Nat.le_of_ble_eq_true rfl) (Nat.le_of_ble_eq_true rfl) (Nat.le_of_ble_eq_true rfl) (Nat.le_of_ble_eq_true rfl) (Nat.le_of_ble_eq_true rfl) rfl rfl (vnd_e rfl) rfl (vnd_e rfl) (dsj_e rfl) ?_
      rintro w ⟨f3_12, hq_14, rfl⟩
      refine k_ws [(cO11_i1r1i10r1i2r5i2r12i3r4i2 h0 m_thrown2_1 a_tape m_taped m_size m_at m_end m_token m_whole m_nameSize m_fault m_place m_trouble2_2 a_letters m_failed m_hasHouse a_r a_fresh a_st a_undone a_kept m_undos m_images a_from a_begin a_motor a_change a_startFrame a_changeFrame a_lostAt a_blackAt a_slips a_leftArc a_died a_arcs m_bestSum m_nearest m_nearestTown a_there a_backAt a_sorted a_parts m_seed1 m_darkNow), (cAI g a_st 44 d_st), (cAI g a_kept 132 f3_12)] rfl ?_
      refine k_aload_n X dX11_image_k1.2.2.1.1 0 rfl ?_
      refine k_dup X dX11_image_k1.2.2.1.2 rfl ?_
      refine k_get (ci := 11) X inlX11 rfl 21 (nlt_e rfl) dX11_image_k1.2.2.2.1 mw476 0 rfl rfl ?_
      refine k_iconst (v := 1) X dX11_image_k1.2.2.2.2 ic_1 ?_
      refine k_iadd X dX11_image_k2.1.1 ?_
      refine k_nm (fun z_15 ez_15 => ?_)
      have i_16 : z_15.toInt = m_images.toInt + 1 := in_add ez_15 iv_8 iq_1_1_1 (zle_e rfl) (zle_e rfl)
      have iv_17 : IV z_15 1 3 := iz1 i_16 iv_8 (zle_e rfl) (zle_e rfl)
      refine k_put (ci := 11) [(cO11_i1r1i10r1i2r5i2r12i3r4i2 h0 m_thrown2_1 a_tape m_taped m_size m_at m_end m_token m_whole m_nameSize m_fault m_place m_trouble2_2 a_letters m_failed m_hasHouse a_r a_fresh a_st a_undone a_kept m_undos z_15 a_from a_begin a_motor a_change a_startFrame a_changeFrame a_lostAt a_blackAt a_slips a_leftArc a_died a_arcs m_bestSum m_nearest m_nearestTown a_there a_backAt a_sorted a_parts m_seed1 m_darkNow), (cAI g a_st 44 d_st), (cAI g a_kept 132 f3_12)] X inlX11 rfl tyX11_ok nmX11 21 (nlt_e rfl) rfl dX11_image_k2.1.2.1 mw476 0 rfl rfl rfl (Nat.le_of_ble_eq_true rfl) rfl ?_
      refine k_aload_n X dX11_image_k2.1.2.2 0 rfl ?_
      refine k_get (ci := 11) X inlX11 rfl 21 (nlt_e rfl) dX11_image_k2.2.1.1 mw476 0 rfl rfl ?_
      refine k_iconst (v := 1) X dX11_image_k2.2.1.2 ic_1 ?_
      refine k_isub X dX11_image_k2.2.2.1 ?_
      refine k_nm (fun z_18 ez_18 => ?_)
      have i_19 : z_18.toInt = z_15.toInt - 1 := in_sub ez_18 iv_17 iq_1_1_1 (zle_e rfl) (zle_e rfl)
      have iv_20 : IV z_18 0 2 := iz5 i_19 iv_17 (zle_e rfl) (zle_e rfl)
      exact k_iret X hr dX11_image_k2.2.2.2 (Nat.le_of_ble_eq_true rfl) (Nat.le_of_ble_eq_true rfl) [0, 1, 2] (vnd_e rfl) rfl rfl (exI4 z_15 f3_12 m_thrown2_1 m_trouble2_2 ⟨(iv_w iv_17 (zle_e rfl) (zle_e rfl)), ⟨m_thrown2_1, m_trouble2_2, hq_4, (Or.inl ⟨h_5, (Or.inl ⟨h_7, ⟨z_9, ez_9, ⟨f3_12, hq_14, ⟨z_15, ez_15, ⟨z_18, ez_18, ⟨rfl, rfl, rfl, rfl, rfl⟩⟩⟩⟩⟩⟩)⟩)⟩, rfl⟩)
    · skip
      have iv_21 : IV m_images 3 3 := iv_meet hv_m_images (iv_e h_7 iq_3_3_3) (zle_o rfl) (zle_o rfl)
      refine k_aload_n X dX11_image_k0.2.2.1.2 0 rfl ?_
      refine k_iconst (v := 3) X dX11_image_k0.2.2.2.1 ic_3 ?_
      refine k_callVI (n := 1) (As := [.int 3]) (st := []) X [(cO11_i1r1i10r1i2r5i2r12i3r4i2 h0 m_thrown2_1 a_tape m_taped m_size m_at m_end m_token m_whole m_nameSize m_fault m_place m_trouble2_2 a_letters m_failed m_hasHouse a_r a_fresh a_st a_undone a_kept m_undos m_images a_from a_begin a_motor a_change a_startFrame a_changeFrame a_lostAt a_blackAt a_slips a_leftArc a_died a_arcs m_bestSum m_nearest m_nearestTown a_there a_backAt a_sorted a_parts m_seed1 m_darkNow)] [(cAI g a_st 44 d_st), (cAI g a_kept 132 d_kept)] [2] [0, 1] (m_noX l g h0 3 m_thrown2_1 a_tape m_taped m_size m_at m_end m_token m_whole m_nameSize m_fault m_place m_trouble2_2 a_letters m_failed m_hasHouse a_r a_fresh a_st a_undone a_kept m_undos m_images a_from a_begin a_motor a_change a_startFrame a_changeFrame a_lostAt a_blackAt a_slips a_leftArc a_died a_arcs m_bestSum m_nearest m_nearestTown a_there a_backAt a_sorted a_parts m_seed1 m_darkNow) dX11_image_k0.2.2.2.2 mw485 mw486 mw487 mw5 mw488 rfl 11 rfl rfl 0 _ rfl yk_yX11_no_1 rfl (Nat.le_of_ble_eq_true rfl) (Nat.le_of_ble_eq_true rfl) (Nat.le_of_ble_eq_true rfl) (Nat.le_of_ble_eq_true rfl) (Nat.le_of_ble_eq_true rfl) rfl rfl (vnd_e rfl) rfl (vnd_e rfl) (dsj_e rfl) ?_
      rintro r_23 w ⟨m_trouble2_22, iv_24, hq_25, rfl⟩
      refine k_ws [(cAI g a_st 44 d_st), (cAI g a_kept 132 d_kept), (cO11_i1r1i10r1i2r5i2r12i3r4i2 h0 m_thrown2_1 a_tape m_taped m_size m_at m_end m_token m_whole m_nameSize m_fault m_place m_trouble2_22 a_letters m_failed m_hasHouse a_r a_fresh a_st a_undone a_kept m_undos m_images a_from a_begin a_motor a_change a_startFrame a_changeFrame a_lostAt a_blackAt a_slips a_leftArc a_died a_arcs m_bestSum m_nearest m_nearestTown a_there a_backAt a_sorted a_parts m_seed1 m_darkNow)] rfl ?_
      exact k_iret X hr dX11_image_k1.1.1.1.1 (Nat.le_of_ble_eq_true rfl) (Nat.le_of_ble_eq_true rfl) [2, 0, 1] (vnd_e rfl) rfl rfl (exI4 m_images d_kept m_thrown2_1 m_trouble2_22 ⟨(iv_w iv_21 (zle_e rfl) (zle_e rfl)), ⟨m_thrown2_1, m_trouble2_2, hq_4, (Or.inl ⟨h_5, (Or.inr ⟨h_7, ⟨m_trouble2_22, r_23, hq_25, ⟨rfl, rfl, rfl, rfl, rfl⟩⟩⟩)⟩)⟩, rfl⟩)
  · skip
    have iv_26 : IV m_hasHouse 0 0 := iv_meet hv_m_hasHouse (iv_e h_5 iq_0_0_0) (zle_o rfl) (zle_o rfl)
    refine k_aload_n X dX11_image_k0.1.2.1.2 0 rfl ?_
    refine k_iconst (v := 1) X dX11_image_k0.1.2.2.1 ic_1 ?_
    refine k_callVI (n := 1) (As := [.int 1]) (st := []) X [(cO11_i1r1i10r1i2r5i2r12i3r4i2 h0 m_thrown2_1 a_tape m_taped m_size m_at m_end m_token m_whole m_nameSize m_fault m_place m_trouble2_2 a_letters m_failed m_hasHouse a_r a_fresh a_st a_undone a_kept m_undos m_images a_from a_begin a_motor a_change a_startFrame a_changeFrame a_lostAt a_blackAt a_slips a_leftArc a_died a_arcs m_bestSum m_nearest m_nearestTown a_there a_backAt a_sorted a_parts m_seed1 m_darkNow)] [(cAI g a_st 44 d_st), (cAI g a_kept 132 d_kept)] [2] [0, 1] (m_noX l g h0 1 m_thrown2_1 a_tape m_taped m_size m_at m_end m_token m_whole m_nameSize m_fault m_place m_trouble2_2 a_letters m_failed m_hasHouse a_r a_fresh a_st a_undone a_kept m_undos m_images a_from a_begin a_motor a_change a_startFrame a_changeFrame a_lostAt a_blackAt a_slips a_leftArc a_died a_arcs m_bestSum m_nearest m_nearestTown a_there a_backAt a_sorted a_parts m_seed1 m_darkNow) dX11_image_k0.1.2.2.2 mw485 mw486 mw487 mw5 mw488 rfl 11 rfl rfl 0 _ rfl yk_yX11_no_1 rfl (Nat.le_of_ble_eq_true rfl) (Nat.le_of_ble_eq_true rfl) (Nat.le_of_ble_eq_true rfl) (Nat.le_of_ble_eq_true rfl) (Nat.le_of_ble_eq_true rfl) rfl rfl (vnd_e rfl) rfl (vnd_e rfl) (dsj_e rfl) ?_
    rintro r_28 w ⟨m_trouble2_27, iv_29, hq_30, rfl⟩
    refine k_ws [(cAI g a_st 44 d_st), (cAI g a_kept 132 d_kept), (cO11_i1r1i10r1i2r5i2r12i3r4i2 h0 m_thrown2_1 a_tape m_taped m_size m_at m_end m_token m_whole m_nameSize m_fault m_place m_trouble2_27 a_letters m_failed m_hasHouse a_r a_fresh a_st a_undone a_kept m_undos m_images a_from a_begin a_motor a_change a_startFrame a_changeFrame a_lostAt a_blackAt a_slips a_leftArc a_died a_arcs m_bestSum m_nearest m_nearestTown a_there a_backAt a_sorted a_parts m_seed1 m_darkNow)] rfl ?_
    exact k_iret X hr dX11_image_k0.2.1.1.1 (Nat.le_of_ble_eq_true rfl) (Nat.le_of_ble_eq_true rfl) [2, 0, 1] (vnd_e rfl) rfl rfl (exI4 m_images d_kept m_thrown2_1 m_trouble2_27 ⟨(iv_w hv_m_images (zle_e rfl) (zle_e rfl)), ⟨m_thrown2_1, m_trouble2_2, hq_4, (Or.inr ⟨h_5, ⟨m_trouble2_27, r_28, hq_30, ⟨rfl, rfl, rfl, rfl, rfl⟩⟩⟩)⟩, rfl⟩)


set_option maxHeartbeats 4000000 in
set_option maxRecDepth 100000 in
theorem m_backX (l : Launch) (g : Gx) (h0 : Nat) (p0 : Int32) (m_thrown : Int32) (a_tape : Nat) (m_taped : Int32) (m_size : Int32) (m_at : Int32) (m_end : Int32) (m_token : Int32) (m_whole : Int32) (m_nameSize : Int32) (m_fault : Int32) (m_place : Int32) (m_trouble : Int32) (a_letters : Nat) (m_failed : Int32) (m_hasHouse : Int32) (a_r : Nat) (a_fresh : Nat) (a_st : Nat) (a_undone : Nat) (a_kept : Nat) (m_undos : Int32) (m_images : Int32) (a_from : Nat) (a_begin : Nat) (a_motor : Nat) (a_change : Nat) (a_startFrame : Nat) (a_changeFrame : Nat) (a_lostAt : Nat) (a_blackAt : Nat) (a_slips : Nat) (a_leftArc : Nat) (a_died : Nat) (a_arcs : Nat) (m_bestSum : Int32) (m_nearest : Int32) (m_nearestTown : Int32) (a_there : Nat) (a_backAt : Nat) (a_sorted : Nat) (a_parts : Nat) (m_seed1 : Int32) (m_darkNow : Int32) (d_st : Nat → Int32) (d_kept : Nat → Int32) (hv_m_undos : IV m_undos 0 12) (hv_m_images : IV m_images 0 3) : cI l g yX11_back cX11_back 2 (some .boolean) 1 25 0 0 [.ref h0, .int p0] [(cO11_i1r1i10r1i2r5i2r12i3r4i2 h0 m_thrown a_tape m_taped m_size m_at m_end m_token m_whole m_nameSize m_fault m_place m_trouble a_letters m_failed m_hasHouse a_r a_fresh a_st a_undone a_kept m_undos m_images a_from a_begin a_motor a_change a_startFrame a_changeFrame a_lostAt a_blackAt a_slips a_leftArc a_died a_arcs m_bestSum m_nearest m_nearestTown a_there a_backAt a_sorted a_parts m_seed1 m_darkNow), (cAI g a_st 44 d_st), (cAI g a_kept 132 d_kept)] (fun r w => ∃ (d_st2 : Nat → Int32) (m_thrown2 : Int32) (m_trouble2 : Int32) (m_undos2 : Int32), IV m_undos2 0 12 ∧ IV r 0 1 ∧ (R_m_backX p0 m_undos m_images d_st d_kept d_st2 m_thrown2 m_trouble2 m_undos2 r) ∧ w = [(cO11_i1r1i10r1i2r5i2r12i3r4i2 h0 m_thrown2 a_tape m_taped m_size m_at m_end m_token m_whole m_nameSize m_fault m_place m_trouble2 a_letters m_failed m_hasHouse a_r a_fresh a_st a_undone a_kept m_undos2 m_images a_from a_begin a_motor a_change a_startFrame a_changeFrame a_lostAt a_blackAt a_slips a_leftArc a_died a_arcs m_bestSum m_nearest m_nearestTown a_there a_backAt a_sorted a_parts m_seed1 m_darkNow), (cAI g a_st 44 d_st2), (cAI g a_kept 132 d_kept)]) := by
  refine cI.of (by decide) (Nat.le_of_ble_eq_true rfl) ?_
  intro p e s m args below meth c A X hr hi
  refine k_lveq [(0, .ref h0), (1, .int p0)] rfl ?_
  refine k_aload_n X dX11_back_k0.1.1.1.1 0 rfl ?_
  refine k_callVV (n := 0) (As := []) (st := []) X [(cO11_i1r1i10r1i2r5i2r12i3r4i2 h0 m_thrown a_tape m_taped m_size m_at m_end m_token m_whole m_nameSize m_fault m_place m_trouble a_letters m_failed m_hasHouse a_r a_fresh a_st a_undone a_kept m_undos m_images a_from a_begin a_motor a_change a_startFrame a_changeFrame a_lostAt a_blackAt a_slips a_leftArc a_died a_arcs m_bestSum m_nearest m_nearestTown a_there a_backAt a_sorted a_parts m_seed1 m_darkNow)] [(cAI g a_st 44 d_st), (cAI g a_kept 132 d_kept)] [0] [1, 2] (m_goodX l g h0 m_thrown a_tape m_taped m_size m_at m_end m_token m_whole m_nameSize m_fault m_place m_trouble a_letters m_failed m_hasHouse a_r a_fresh a_st a_undone a_kept m_undos m_images a_from a_begin a_motor a_change a_startFrame a_changeFrame a_lostAt a_blackAt a_slips a_leftArc a_died a_arcs m_bestSum m_nearest m_nearestTown a_there a_backAt a_sorted a_parts m_seed1 m_darkNow) dX11_back_k0.1.1.1.2 mw477 mw478 mw479 mw5 mw480 rfl 11 rfl rfl 0 _ rfl yk_yX11_good_0 rfl (Nat.le_of_ble_eq_true rfl) (Nat.le_of_ble_eq_true rfl) (Nat.le_of_ble_eq_true rfl) (Nat.le_of_ble_eq_true rfl) (Nat.le_of_ble_eq_true rfl) rfl rfl (vnd_e rfl) rfl (vnd_e rfl) (dsj_e rfl) ?_
  rintro w ⟨m_thrown2_1, m_trouble2_2, hq_4, rfl⟩
  refine k_ws [(cAI g a_st 44 d_st), (cAI g a_kept 132 d_kept), (cO11_i1r1i10r1i2r5i2r12i3r4i2 h0 m_thrown2_1 a_tape m_taped m_size m_at m_end m_token m_whole m_nameSize m_fault m_place m_trouble2_2 a_letters m_failed m_hasHouse a_r a_fresh a_st a_undone a_kept m_undos m_images a_from a_begin a_motor a_change a_startFrame a_changeFrame a_lostAt a_blackAt a_slips a_leftArc a_died a_arcs m_bestSum m_nearest m_nearestTown a_there a_backAt a_sorted a_parts m_seed1 m_darkNow)] rfl ?_
  refine k_iload_n X dX11_back_k0.1.1.2.1 1 rfl ?_
  refine k_iconst (v := 0) X dX11_back_k0.1.1.2.2 ic_0 ?_
  refine k_aload_n X dX11_back_k0.1.2.1.1 0 rfl ?_
  refine k_get (ci := 11) X inlX11 rfl 21 (nlt_e rfl) dX11_back_k0.1.2.1.2 mw476 2 rfl rfl ?_
  refine k_iconst (v := 1) X dX11_back_k0.1.2.2.1 ic_1 ?_
  refine k_isub X dX11_back_k0.1.2.2.2 ?_
  refine k_nm (fun z_5 ez_5 => ?_)
  have i_6 : z_5.toInt = m_images.toInt - 1 := in_sub ez_5 hv_m_images iq_1_1_1 (zle_e rfl) (zle_e rfl)
  have iv_7 : IV z_5 (-1) 2 := iz5 i_6 hv_m_images (zle_e rfl) (zle_e rfl)
  refine k_callSI (n := 3) (As := [.int p0, .int 0, .int z_5]) (st := []) X [] [(cAI g a_st 44 d_st), (cAI g a_kept 132 d_kept), (cO11_i1r1i10r1i2r5i2r12i3r4i2 h0 m_thrown2_1 a_tape m_taped m_size m_at m_end m_token m_whole m_nameSize m_fault m_place m_trouble2_2 a_letters m_failed m_hasHouse a_r a_fresh a_st a_undone a_kept m_undos m_images a_from a_begin a_motor a_change a_startFrame a_changeFrame a_lostAt a_blackAt a_slips a_leftArc a_died a_arcs m_bestSum m_nearest m_nearestTown a_there a_backAt a_sorted a_parts m_seed1 m_darkNow)] [] [0, 1, 2] (m_inX l g p0 0 z_5) dX11_back_k0.2.1.1.1 mw482 mw483 mw5 mw484 yk_yX11_in_3 rfl (Nat.le_of_ble_eq_true rfl) (Nat.le_of_ble_eq_true rfl) (Nat.le_of_ble_eq_true rfl) (Nat.le_of_ble_eq_true rfl) (Nat.le_of_ble_eq_true rfl) rfl rfl (vnd_e rfl) rfl (vnd_e rfl) (dsj_e rfl) ?_
  rintro r_8 w ⟨iv_9, hq_10, hk_11, hk_12, rfl⟩
  refine k_ws [(cAI g a_st 44 d_st), (cAI g a_kept 132 d_kept), (cO11_i1r1i10r1i2r5i2r12i3r4i2 h0 m_thrown2_1 a_tape m_taped m_size m_at m_end m_token m_whole m_nameSize m_fault m_place m_trouble2_2 a_letters m_failed m_hasHouse a_r a_fresh a_st a_undone a_kept m_undos m_images a_from a_begin a_motor a_change a_startFrame a_changeFrame a_lostAt a_blackAt a_slips a_leftArc a_died a_arcs m_bestSum m_nearest m_nearestTown a_there a_backAt a_sorted a_parts m_seed1 m_darkNow)] rfl ?_
  refine k_if_ne 24 X dX11_back_k0.2.1.1.2 (jp_e rfl) (fun h_13 => ?_) (fun h_13 => ?_)
  · skip
    have hc_14 := hk_11.resolve_left h_13
    have j_15 : 0 ≤ p0.toInt := hc_14.1
    have iv_16 : IV p0 0 2147483647 := iv_leR hc_14.1 iq_0_0_0 (iv_any p0) (zle_e rfl)
    have j_17 : p0.toInt ≤ z_5.toInt := hc_14.2
    have iv_18 : IV p0 0 2 := iv_leL hc_14.2 iv_16 iv_7 (zle_e rfl)
    have iv_19 : IV z_5 0 2 := iv_leR hc_14.2 iv_18 iv_7 (zle_e rfl)
    have iv_20 : IV m_images 1 3 := by have := hv_m_images; have := iv_19; rw [IV]; omega
    have iv_21 : IV r_8 1 1 := iv_neL h_13 iv_9 iq_0_0_0 (zle_e rfl)
    refine k_aload_n X dX11_back_k0.2.2.2.1 0 rfl ?_
    refine k_get (ci := 11) X inlX11 rfl 19 (nlt_e rfl) dX11_back_k0.2.2.2.2 mw174 2 rfl rfl ?_
    refine k_bipush (v := 44) X dX11_back_k1.1.1.1 bi_44 ?_
    refine k_iload_n X dX11_back_k1.1.1.2.1 1 rfl ?_
    refine k_imul X dX11_back_k1.1.1.2.2 ?_
    refine k_nm (fun z_22 ez_22 => ?_)
    have i_23 : z_22.toInt = 44 * p0.toInt := in_mul ez_22 (by decide) (zle_e rfl) iv_18 (zle_e rfl) (zle_e rfl)
    have iv_24 : IV z_22 0 88 := iz4 i_23 iv_18 (zle_e rfl) (zle_e rfl) (zle_e rfl)
    refine k_aload_n X dX11_back_k1.1.2.1 0 rfl ?_
    refine k_get (ci := 11) X inlX11 rfl 17 (nlt_e rfl) dX11_back_k1.1.2.2.1 mw172 2 rfl rfl ?_
    refine k_iconst (v := 0) X dX11_back_k1.1.2.2.2 ic_0 ?_
    refine k_bipush (v := 44) X dX11_back_k1.2.1.1 bi_44 ?_
    refine k_callSV (n := 5) (As := [.ref a_kept, .int z_22, .ref a_st, .int 0, .int 44]) (st := []) X [(cAI g a_kept 132 d_kept), (cAI g a_st 44 d_st)] [(cO11_i1r1i10r1i2r5i2r12i3r4i2 h0 m_thrown2_1 a_tape m_taped m_size m_at m_end m_token m_whole m_nameSize m_fault m_place m_trouble2_2 a_letters m_failed m_hasHouse a_r a_fresh a_st a_undone a_kept m_undos m_images a_from a_begin a_motor a_change a_startFrame a_changeFrame a_lostAt a_blackAt a_slips a_leftArc a_died a_arcs m_bestSum m_nearest m_nearestTown a_there a_backAt a_sorted a_parts m_seed1 m_darkNow)] [1, 0] [2] (m_copyDX l g a_kept z_22 a_st d_kept d_st (iv_w iv_24 (zle_e rfl) (zle_e rfl))) dX11_back_k1.2.1.2.1 mw619 mw620 mw5 mw621 yk_yX11_copy_5 rfl (Nat.le_of_ble_eq_true rfl) (Nat.le_of_ble_eq_true rfl) (Nat.le_of_ble_eq_true rfl) (Nat.le_of_ble_eq_true rfl) (Nat.le_of_ble_eq_true rfl) rfl rfl (vnd_e rfl) rfl (vnd_e rfl) (dsj_e rfl) ?_
    rintro w ⟨f3_25, hq_27, rfl⟩
    refine k_ws [(cO11_i1r1i10r1i2r5i2r12i3r4i2 h0 m_thrown2_1 a_tape m_taped m_size m_at m_end m_token m_whole m_nameSize m_fault m_place m_trouble2_2 a_letters m_failed m_hasHouse a_r a_fresh a_st a_undone a_kept m_undos m_images a_from a_begin a_motor a_change a_startFrame a_changeFrame a_lostAt a_blackAt a_slips a_leftArc a_died a_arcs m_bestSum m_nearest m_nearestTown a_there a_backAt a_sorted a_parts m_seed1 m_darkNow), (cAI g a_kept 132 d_kept), (cAI g a_st 44 f3_25)] rfl ?_
    refine k_aload_n X dX11_back_k1.2.1.2.2 0 rfl ?_
    refine k_iconst (v := 0) X dX11_back_k1.2.2.1.1 ic_0 ?_
    refine k_put (ci := 11) [(cO11_i1r1i10r1i2r5i2r12i3r4i2 h0 m_thrown2_1 a_tape m_taped m_size m_at m_end m_token m_whole m_nameSize m_fault m_place m_trouble2_2 a_letters m_failed m_hasHouse a_r a_fresh a_st a_undone a_kept 0 m_images a_from a_begin a_motor a_change a_startFrame a_changeFrame a_lostAt a_blackAt a_slips a_leftArc a_died a_arcs m_bestSum m_nearest m_nearestTown a_there a_backAt a_sorted a_parts m_seed1 m_darkNow), (cAI g a_kept 132 d_kept), (cAI g a_st 44 f3_25)] X inlX11 rfl tyX11_ok nmX11 20 (nlt_e rfl) rfl dX11_back_k1.2.2.1.2 mw475 0 rfl rfl rfl (Nat.le_of_ble_eq_true rfl) rfl ?_
    refine k_iconst (v := 1) X dX11_back_k1.2.2.2.1 ic_1 ?_
    exact k_zret X hr (by first | rfl | decide) dX11_back_k1.2.2.2.2 (Nat.le_of_ble_eq_true rfl) (Nat.le_of_ble_eq_true rfl) [0, 2, 1] (vnd_e rfl) rfl rfl (exI4 f3_25 m_thrown2_1 m_trouble2_2 0 ⟨(iv_w iq_0_0_0 (zle_e rfl) (zle_e rfl)), (iv_w iq_1_1_1 (zle_e rfl) (zle_e rfl)), ⟨m_thrown2_1, m_trouble2_2, hq_4, ⟨z_5, ez_5, ⟨r_8, hq_10, (Or.inl ⟨h_13, ⟨z_22, ez_22, ⟨f3_25, hq_27, ⟨rfl, rfl, rfl, rfl, rfl⟩⟩⟩⟩)⟩⟩⟩, rfl⟩)
  · skip
    have iv_28 : IV r_8 0 0 := iv_meet iv_9 (iv_e h_13 iq_0_0_0) (zle_o rfl) (zle_o rfl)
    have hc_29 := hk_12 (iv_eq iv_28 iq_0_0_0)
    have j_30 : p0.toInt < 0 ∨ z_5.toInt < p0.toInt := hc_29
    refine k_aload_n X dX11_back_k0.2.1.2.1 0 rfl ?_
    refine k_iconst (v := 1) X dX11_back_k0.2.1.2.2 ic_1 ?_
    refine k_callVI (n := 1) (As := [.int 1]) (st := []) X [(cO11_i1r1i10r1i2r5i2r12i3r4i2 h0 m_thrown2_1 a_tape m_taped m_size m_at m_end m_token m_whole m_nameSize m_fault m_place m_trouble2_2 a_letters m_failed m_hasHouse a_r a_fresh a_st a_undone a_kept m_undos m_images a_from a_begin a_motor a_change a_startFrame a_changeFrame a_lostAt a_blackAt a_slips a_leftArc a_died a_arcs m_bestSum m_nearest m_nearestTown a_there a_backAt a_sorted a_parts m_seed1 m_darkNow)] [(cAI g a_st 44 d_st), (cAI g a_kept 132 d_kept)] [2] [0, 1] (m_isNotX l g h0 1 m_thrown2_1 a_tape m_taped m_size m_at m_end m_token m_whole m_nameSize m_fault m_place m_trouble2_2 a_letters m_failed m_hasHouse a_r a_fresh a_st a_undone a_kept m_undos m_images a_from a_begin a_motor a_change a_startFrame a_changeFrame a_lostAt a_blackAt a_slips a_leftArc a_died a_arcs m_bestSum m_nearest m_nearestTown a_there a_backAt a_sorted a_parts m_seed1 m_darkNow) dX11_back_k0.2.2.1.1 mw1471 mw1472 mw1473 mw5 mw1474 rfl 11 rfl rfl 0 _ rfl yk_yX11_isNot_1 rfl (Nat.le_of_ble_eq_true rfl) (Nat.le_of_ble_eq_true rfl) (Nat.le_of_ble_eq_true rfl) (Nat.le_of_ble_eq_true rfl) (Nat.le_of_ble_eq_true rfl) rfl rfl (vnd_e rfl) rfl (vnd_e rfl) (dsj_e rfl) ?_
    rintro r_32 w ⟨m_trouble2_31, iv_33, hq_34, rfl⟩
    refine k_ws [(cAI g a_st 44 d_st), (cAI g a_kept 132 d_kept), (cO11_i1r1i10r1i2r5i2r12i3r4i2 h0 m_thrown2_1 a_tape m_taped m_size m_at m_end m_token m_whole m_nameSize m_fault m_place m_trouble2_31 a_letters m_failed m_hasHouse a_r a_fresh a_st a_undone a_kept m_undos m_images a_from a_begin a_motor a_change a_startFrame a_changeFrame a_lostAt a_blackAt a_slips a_leftArc a_died a_arcs m_bestSum m_nearest m_nearestTown a_there a_backAt a_sorted a_parts m_seed1 m_darkNow)] rfl ?_
    exact k_zret X hr (zn_b (iv_w iv_33 (zle_e rfl) (zle_e rfl))) dX11_back_k0.2.2.1.2 (Nat.le_of_ble_eq_true rfl) (Nat.le_of_ble_eq_true rfl) [2, 0, 1] (vnd_e rfl) rfl rfl (exI4 d_st m_thrown2_1 m_trouble2_31 m_undos ⟨(iv_w hv_m_undos (zle_e rfl) (zle_e rfl)), (iv_w iv_33 (zle_e rfl) (zle_e rfl)), ⟨m_thrown2_1, m_trouble2_2, hq_4, ⟨z_5, ez_5, ⟨r_8, hq_10, (Or.inr ⟨h_13, ⟨m_trouble2_31, r_32, hq_34, ⟨rfl, rfl, rfl, rfl, rfl⟩⟩⟩)⟩⟩⟩, rfl⟩)




set_option maxHeartbeats 4000000 in
set_option maxRecDepth 100000 in
theorem m_reelAtX (l : Launch) (g : Gx) (h0 : Nat) (p0 : Int32) (m_thrown : Int32) (a_tape : Nat) (m_taped : Int32) (m_size : Int32) (m_at : Int32) (m_end : Int32) (m_token : Int32) (m_whole : Int32) (m_nameSize : Int32) (m_fault : Int32) (m_place : Int32) (m_trouble : Int32) (a_letters : Nat) (m_failed : Int32) (m_hasHouse : Int32) (a_r : Nat) (a_fresh : Nat) (a_st : Nat) (a_undone : Nat) (a_kept : Nat) (m_undos : Int32) (m_images : Int32) (a_from : Nat) (a_begin : Nat) (a_motor : Nat) (a_change : Nat) (a_startFrame : Nat) (a_changeFrame : Nat) (a_lostAt : Nat) (a_blackAt : Nat) (a_slips : Nat) (a_leftArc : Nat) (a_died : Nat) (a_arcs : Nat) (m_bestSum : Int32) (m_nearest : Int32) (m_nearestTown : Int32) (a_there : Nat) (a_backAt : Nat) (a_sorted : Nat) (a_parts : Nat) (m_seed1 : Int32) (m_darkNow : Int32) (d_r : Nat → Int32) (hv_p0 : IV p0 0 7) (hp_d_r : RInv d_r) : cI l g yX11_reelAt cX11_reelAt 2 (some .int) 0 0 0 0 [.ref h0, .int p0] [(cO11_i1r1i10r1i2r5i2r12i3r4i2 h0 m_thrown a_tape m_taped m_size m_at m_end m_token m_whole m_nameSize m_fault m_place m_trouble a_letters m_failed m_hasHouse a_r a_fresh a_st a_undone a_kept m_undos m_images a_from a_begin a_motor a_change a_startFrame a_changeFrame a_lostAt a_blackAt a_slips a_leftArc a_died a_arcs m_bestSum m_nearest m_nearestTown a_there a_backAt a_sorted a_parts m_seed1 m_darkNow), (cAI g a_r 311 d_r)] (fun r w => IV r 0 7 ∧ (R_m_reelAtX p0 d_r r) ∧ w = [(cO11_i1r1i10r1i2r5i2r12i3r4i2 h0 m_thrown a_tape m_taped m_size m_at m_end m_token m_whole m_nameSize m_fault m_place m_trouble a_letters m_failed m_hasHouse a_r a_fresh a_st a_undone a_kept m_undos m_images a_from a_begin a_motor a_change a_startFrame a_changeFrame a_lostAt a_blackAt a_slips a_leftArc a_died a_arcs m_bestSum m_nearest m_nearestTown a_there a_backAt a_sorted a_parts m_seed1 m_darkNow), (cAI g a_r 311 d_r)]) := by
  refine cI.of (by decide) (Nat.le_of_ble_eq_true rfl) ?_
  intro p e s m args below meth c A X hr hi
  refine k_lveq [(0, .ref h0), (1, .int p0)] rfl ?_
  refine k_aload_n X dX11_reelAt_k0.1.1 0 rfl ?_
  refine k_get (ci := 11) X inlX11 rfl 15 (nlt_e rfl) dX11_reelAt_k0.1.2.1 mw170 0 rfl rfl ?_
  refine k_bipush (v := 126) X dX11_reelAt_k0.1.2.2 bi_126 ?_
  refine k_iload_n X dX11_reelAt_k0.2.1.1 1 rfl ?_
  refine k_iadd X dX11_reelAt_k0.2.1.2 ?_
  refine k_nm (fun z_1 ez_1 => ?_)
  have i_2 : z_1.toInt = 126 + p0.toInt := in_add ez_1 iq_126_126_126 hv_p0 (zle_e rfl) (zle_e rfl)
  have iv_3 : IV z_1 126 133 := iz2 i_2 hv_p0 (zle_e rfl) (zle_e rfl)
  refine k_iald X dX11_reelAt_k0.2.2.1 1 rfl (iv_in iv_3 (zle_e rfl) (zle_l rfl)) ?_
  refine k_nm (fun z_4 ez_4 => ?_)
  have i_5 : z_1.toInt = 126 + 1 * p0.toInt := by omega
  have iv_6 : IV z_4 0 7 := rb_126_1 ez_4 hp_d_r i_5 (iv_w hv_p0 (zle_e rfl) (zle_e rfl))
  exact k_iret X hr dX11_reelAt_k0.2.2.2 (Nat.le_of_ble_eq_true rfl) (Nat.le_of_ble_eq_true rfl) [0, 1] (vnd_e rfl) rfl rfl ⟨(iv_w iv_6 (zle_e rfl) (zle_e rfl)), ⟨z_1, ez_1, ⟨z_4, ez_4, rfl⟩⟩, rfl⟩


set_option maxHeartbeats 4000000 in
set_option maxRecDepth 100000 in
theorem m_framesAtX (l : Launch) (g : Gx) (h0 : Nat) (p0 : Int32) (m_thrown : Int32) (a_tape : Nat) (m_taped : Int32) (m_size : Int32) (m_at : Int32) (m_end : Int32) (m_token : Int32) (m_whole : Int32) (m_nameSize : Int32) (m_fault : Int32) (m_place : Int32) (m_trouble : Int32) (a_letters : Nat) (m_failed : Int32) (m_hasHouse : Int32) (a_r : Nat) (a_fresh : Nat) (a_st : Nat) (a_undone : Nat) (a_kept : Nat) (m_undos : Int32) (m_images : Int32) (a_from : Nat) (a_begin : Nat) (a_motor : Nat) (a_change : Nat) (a_startFrame : Nat) (a_changeFrame : Nat) (a_lostAt : Nat) (a_blackAt : Nat) (a_slips : Nat) (a_leftArc : Nat) (a_died : Nat) (a_arcs : Nat) (m_bestSum : Int32) (m_nearest : Int32) (m_nearestTown : Int32) (a_there : Nat) (a_backAt : Nat) (a_sorted : Nat) (a_parts : Nat) (m_seed1 : Int32) (m_darkNow : Int32) (d_r : Nat → Int32) (d_st : Nat → Int32) (hv_p0 : IV p0 0 7) (hp_d_r : RInv d_r) : cI l g yX11_framesAt cX11_framesAt 2 (some .int) 1 21 0 0 [.ref h0, .int p0] [(cO11_i1r1i10r1i2r5i2r12i3r4i2 h0 m_thrown a_tape m_taped m_size m_at m_end m_token m_whole m_nameSize m_fault m_place m_trouble a_letters m_failed m_hasHouse a_r a_fresh a_st a_undone a_kept m_undos m_images a_from a_begin a_motor a_change a_startFrame a_changeFrame a_lostAt a_blackAt a_slips a_leftArc a_died a_arcs m_bestSum m_nearest m_nearestTown a_there a_backAt a_sorted a_parts m_seed1 m_darkNow), (cAI g a_r 311 d_r), (cAI g a_st 44 d_st)] (fun r w => (R_m_framesAtX p0 d_r d_st r) ∧ w = [(cO11_i1r1i10r1i2r5i2r12i3r4i2 h0 m_thrown a_tape m_taped m_size m_at m_end m_token m_whole m_nameSize m_fault m_place m_trouble a_letters m_failed m_hasHouse a_r a_fresh a_st a_undone a_kept m_undos m_images a_from a_begin a_motor a_change a_startFrame a_changeFrame a_lostAt a_blackAt a_slips a_leftArc a_died a_arcs m_bestSum m_nearest m_nearestTown a_there a_backAt a_sorted a_parts m_seed1 m_darkNow), (cAI g a_r 311 d_r), (cAI g a_st 44 d_st)]) := by
  refine cI.of (by decide) (Nat.le_of_ble_eq_true rfl) ?_
  intro p e s m args below meth c A X hr hi
  refine k_lveq [(0, .ref h0), (1, .int p0)] rfl ?_
  refine k_aload_n X dX11_framesAt_k0.1.1.1 0 rfl ?_
  refine k_get (ci := 11) X inlX11 rfl 17 (nlt_e rfl) dX11_framesAt_k0.1.1.2 mw172 0 rfl rfl ?_
  refine k_iconst (v := 0) X dX11_framesAt_k0.1.2.1 ic_0 ?_
  refine k_aload_n X dX11_framesAt_k0.1.2.2 0 rfl ?_
  refine k_iload_n X dX11_framesAt_k0.2.1.1 1 rfl ?_
  refine k_callVI (n := 1) (As := [.int p0]) (st := [.int 0, .ref a_st]) X [(cO11_i1r1i10r1i2r5i2r12i3r4i2 h0 m_thrown a_tape m_taped m_size m_at m_end m_token m_whole m_nameSize m_fault m_place m_trouble a_letters m_failed m_hasHouse a_r a_fresh a_st a_undone a_kept m_undos m_images a_from a_begin a_motor a_change a_startFrame a_changeFrame a_lostAt a_blackAt a_slips a_leftArc a_died a_arcs m_bestSum m_nearest m_nearestTown a_there a_backAt a_sorted a_parts m_seed1 m_darkNow), (cAI g a_r 311 d_r)] [(cAI g a_st 44 d_st)] [0, 1] [2] (m_reelAtX l g h0 p0 m_thrown a_tape m_taped m_size m_at m_end m_token m_whole m_nameSize m_fault m_place m_trouble a_letters m_failed m_hasHouse a_r a_fresh a_st a_undone a_kept m_undos m_images a_from a_begin a_motor a_change a_startFrame a_changeFrame a_lostAt a_blackAt a_slips a_leftArc a_died a_arcs m_bestSum m_nearest m_nearestTown a_there a_backAt a_sorted a_parts m_seed1 m_darkNow d_r (iv_w hv_p0 (zle_e rfl) (zle_e rfl)) hp_d_r) dX11_framesAt_k0.2.1.2 mw723 mw724 mw725 mw5 mw726 rfl 11 rfl rfl 0 _ rfl yk_yX11_reelAt_1 rfl (Nat.le_of_ble_eq_true rfl) (Nat.le_of_ble_eq_true rfl) (Nat.le_of_ble_eq_true rfl) (Nat.le_of_ble_eq_true rfl) (Nat.le_of_ble_eq_true rfl) rfl rfl (vnd_e rfl) rfl (vnd_e rfl) (dsj_e rfl) ?_
  rintro r_1 w ⟨iv_2, hq_3, rfl⟩
  refine k_ws [(cAI g a_st 44 d_st), (cO11_i1r1i10r1i2r5i2r12i3r4i2 h0 m_thrown a_tape m_taped m_size m_at m_end m_token m_whole m_nameSize m_fault m_place m_trouble a_letters m_failed m_hasHouse a_r a_fresh a_st a_undone a_kept m_undos m_images a_from a_begin a_motor a_change a_startFrame a_changeFrame a_lostAt a_blackAt a_slips a_leftArc a_died a_arcs m_bestSum m_nearest m_nearestTown a_there a_backAt a_sorted a_parts m_seed1 m_darkNow), (cAI g a_r 311 d_r)] rfl ?_
  refine k_iadd X dX11_framesAt_k0.2.2.1 ?_
  refine k_nm (fun z_4 ez_4 => ?_)
  have i_5 : z_4.toInt = 0 + r_1.toInt := in_add ez_4 iq_0_0_0 iv_2 (zle_e rfl) (zle_e rfl)
  have iv_6 : IV z_4 0 7 := by have := iq_0_0_0; have := iv_2; rw [IV, i_5]; omega
  refine k_iald X dX11_framesAt_k0.2.2.2.1 0 rfl (iv_in iv_6 (zle_e rfl) (zle_l rfl)) ?_
  refine k_nm (fun z_7 ez_7 => ?_)
  exact k_iret X hr dX11_framesAt_k0.2.2.2.2 (Nat.le_of_ble_eq_true rfl) (Nat.le_of_ble_eq_true rfl) [1, 2, 0] (vnd_e rfl) rfl rfl ⟨⟨r_1, hq_3, ⟨z_4, ez_4, ⟨z_7, ez_7, rfl⟩⟩⟩, rfl⟩


set_option maxHeartbeats 4000000 in
set_option maxRecDepth 100000 in
theorem m_markOfX (l : Launch) (g : Gx) (h0 : Nat) (p0 : Int32) (p1 : Int32) (m_thrown : Int32) (a_tape : Nat) (m_taped : Int32) (m_size : Int32) (m_at : Int32) (m_end : Int32) (m_token : Int32) (m_whole : Int32) (m_nameSize : Int32) (m_fault : Int32) (m_place : Int32) (m_trouble : Int32) (a_letters : Nat) (m_failed : Int32) (m_hasHouse : Int32) (a_r : Nat) (a_fresh : Nat) (a_st : Nat) (a_undone : Nat) (a_kept : Nat) (m_undos : Int32) (m_images : Int32) (a_from : Nat) (a_begin : Nat) (a_motor : Nat) (a_change : Nat) (a_startFrame : Nat) (a_changeFrame : Nat) (a_lostAt : Nat) (a_blackAt : Nat) (a_slips : Nat) (a_leftArc : Nat) (a_died : Nat) (a_arcs : Nat) (m_bestSum : Int32) (m_nearest : Int32) (m_nearestTown : Int32) (a_there : Nat) (a_backAt : Nat) (a_sorted : Nat) (a_parts : Nat) (m_seed1 : Int32) (m_darkNow : Int32) (d_r : Nat → Int32) (d_st : Nat → Int32) (hp_d_r : RInv d_r) : cI l g yX11_markOf cX11_markOf 4 (some .int) 0 0 0 0 [.ref h0, .int p0, .int p1] [(cO11_i1r1i10r1i2r5i2r12i3r4i2 h0 m_thrown a_tape m_taped m_size m_at m_end m_token m_whole m_nameSize m_fault m_place m_trouble a_letters m_failed m_hasHouse a_r a_fresh a_st a_undone a_kept m_undos m_images a_from a_begin a_motor a_change a_startFrame a_changeFrame a_lostAt a_blackAt a_slips a_leftArc a_died a_arcs m_bestSum m_nearest m_nearestTown a_there a_backAt a_sorted a_parts m_seed1 m_darkNow), (cAI g a_r 311 d_r), (cAI g a_st 44 d_st)] (fun r w => (R_m_markOfX p0 p1 d_r d_st r) ∧ w = [(cO11_i1r1i10r1i2r5i2r12i3r4i2 h0 m_thrown a_tape m_taped m_size m_at m_end m_token m_whole m_nameSize m_fault m_place m_trouble a_letters m_failed m_hasHouse a_r a_fresh a_st a_undone a_kept m_undos m_images a_from a_begin a_motor a_change a_startFrame a_changeFrame a_lostAt a_blackAt a_slips a_leftArc a_died a_arcs m_bestSum m_nearest m_nearestTown a_there a_backAt a_sorted a_parts m_seed1 m_darkNow), (cAI g a_r 311 d_r), (cAI g a_st 44 d_st)]) := by
  refine cI.of (by decide) (Nat.le_of_ble_eq_true rfl) ?_
  intro p e s m args below meth c A X hr hi
  refine k_lveq [(0, .ref h0), (1, .int p0), (2, .int p1)] rfl ?_
  refine k_iconst (v := 0) X dX11_markOf_k0.1.1.1.1 ic_0 ?_
  refine k_istore_n [(3, .int 0), (0, .ref h0), (1, .int p0), (2, .int p1)] X dX11_markOf_k0.1.1.1.2 (nlt_e rfl) rfl ?_
  refine (fun hL : ∀ (nn_3 : Nat) (u_1 : Int32), (2147483647 - u_1.toInt).toNat = nn_3 → (IV u_1 0 255) → (∀ (r : Int32), (∃ n_0 : Nat, R_m_markOfX_L0 p0 p1 d_r d_st r (r = (-2)) n_0 u_1) → R_m_markOfX p0 p1 d_r d_st r) → Wk p l e _ s m args below meth c _ A g _ _ _ [(cO11_i1r1i10r1i2r5i2r12i3r4i2 h0 m_thrown a_tape m_taped m_size m_at m_end m_token m_whole m_nameSize m_fault m_place m_trouble a_letters m_failed m_hasHouse a_r a_fresh a_st a_undone a_kept m_undos m_images a_from a_begin a_motor a_change a_startFrame a_changeFrame a_lostAt a_blackAt a_slips a_leftArc a_died a_arcs m_bestSum m_nearest m_nearestTown a_there a_backAt a_sorted a_parts m_seed1 m_darkNow), (cAI g a_r 311 d_r), (cAI g a_st 44 d_st)] [(3, .int u_1), (0, .ref h0), (1, .int p0), (2, .int p1)] 2 [] => hL _ 0 rfl (iv_w iq_0_0_0 (zle_e rfl) (zle_e rfl)) (fun r h => h)) ?_
  refine fun nn_3 => Nat.strongRecOn nn_3 (fun nn_3 ih_5 => ?_)
  intro u_1 hm_4 hv_2 KH_0
  refine k_iload_n X dX11_markOf_k0.1.1.2.1 0 rfl ?_
  refine k_aload_n X dX11_markOf_k0.1.1.2.2 1 rfl ?_
  refine k_get (ci := 11) X inlX11 rfl 15 (nlt_e rfl) dX11_markOf_k0.1.2.1.1 mw170 0 rfl rfl ?_
  refine k_bipush (v := 8) X dX11_markOf_k0.1.2.1.2 bi_8 ?_
  refine k_iald X dX11_markOf_k0.1.2.2.1 1 rfl (by unfold vp_in; decide) ?_
  refine k_nm (fun z_6 ez_6 => ?_)
  have i_7 : z_6.toInt = (d_r 8).toInt := by rw [ez_6]; rfl
  have iv_8 : IV z_6 0 12 := rb_8 ez_6 hp_d_r
  refine k_ic_ge 61 X dX11_markOf_k0.1.2.2.2 (jp_e rfl) (fun h_9 => ?_) (fun h_9 => ?_)
  · skip
    have j_10 : z_6.toInt ≤ u_1.toInt := iv_le h_9
    refine k_bipush (v := -2) X dX11_markOf_k2.2.2.2.1 bi_m2 ?_
    exact k_iret X hr dX11_markOf_k2.2.2.2.2 (Nat.le_of_ble_eq_true rfl) (Nat.le_of_ble_eq_true rfl) [0, 1, 2] (vnd_e rfl) rfl rfl ⟨(KH_0 _ ⟨0 + 1, ⟨z_6, ez_6, (Or.inl ⟨h_9, rfl⟩)⟩⟩), rfl⟩
  · skip
    have j_11 : u_1.toInt < z_6.toInt := iv_nle h_9
    have iv_12 : IV u_1 0 11 := iv_ltL (iv_nle h_9) hv_2 iv_8 (zle_e rfl)
    have iv_13 : IV z_6 1 12 := iv_ltR (iv_nle h_9) hv_2 iv_8 (zle_e rfl)
    refine k_aload_n X dX11_markOf_k0.2.1.1.1 1 rfl ?_
    refine k_get (ci := 11) X inlX11 rfl 15 (nlt_e rfl) dX11_markOf_k0.2.1.1.2 mw170 0 rfl rfl ?_
    refine k_bipush (v := 44) X dX11_markOf_k0.2.1.2.1 bi_44 ?_
    refine k_iconst (v := 3) X dX11_markOf_k0.2.1.2.2 ic_3 ?_
    refine k_iload_n X dX11_markOf_k0.2.2.1.1 0 rfl ?_
    refine k_imul X dX11_markOf_k0.2.2.1.2 ?_
    refine k_nm (fun z_14 ez_14 => ?_)
    have i_15 : z_14.toInt = 3 * u_1.toInt := in_mul ez_14 (by decide) (zle_e rfl) iv_12 (zle_e rfl) (zle_e rfl)
    have iv_16 : IV z_14 0 33 := iz4 i_15 iv_12 (zle_e rfl) (zle_e rfl) (zle_e rfl)
    refine k_iadd X dX11_markOf_k0.2.2.2.1 ?_
    refine k_nm (fun z_17 ez_17 => ?_)
    have i_18 : z_17.toInt = 44 + z_14.toInt := in_add ez_17 iq_44_44_44 iv_16 (zle_e rfl) (zle_e rfl)
    have iv_19 : IV z_17 44 77 := iz2 i_18 iv_16 (zle_e rfl) (zle_e rfl)
    refine k_iald X dX11_markOf_k0.2.2.2.2 1 rfl (iv_in iv_19 (zle_e rfl) (zle_l rfl)) ?_
    refine k_nm (fun z_20 ez_20 => ?_)
    have i_21 : z_17.toInt = 44 + 3 * u_1.toInt := by omega
    have iv_22 : IV z_20 0 7 := rb_44_3 ez_20 hp_d_r i_21 (iv_w iv_12 (zle_e rfl) (zle_e rfl))
    refine k_iload_n X dX11_markOf_k1.1.1.1.1 2 rfl ?_
    refine k_ic_ne 55 X dX11_markOf_k1.1.1.1.2 (jp_e rfl) (fun h_23 => ?_) (fun h_23 => ?_)
    · skip
      obtain ⟨z_24, ez_24⟩ : ∃ y : Int32, u_1 + Int32.ofInt 1 = y := ⟨_, rfl⟩
      refine k_iinc z_24 [(3, .int z_24), (0, .ref h0), (1, .int p0), (2, .int p1)] 0 X dX11_markOf_k2.2.1.2 rfl ez_24 (nlt_e rfl) rfl ?_
      have i_25 : z_24.toInt = u_1.toInt + 1 := in_inc ez_24 (oin_e rfl) iv_12 (zle_e rfl) (zle_e rfl)
      have iv_26 : IV z_24 1 12 := iz1 i_25 iv_12 (zle_e rfl) (zle_e rfl)
      refine k_goto 2 X dX11_markOf_k2.2.2.1 (jp_e rfl) ?_
      exact ih_5 _ (by omega) z_24 rfl (iv_w iv_26 (zle_e rfl) (zle_e rfl)) (fun r h => h.elim (fun n_0 q => (KH_0 _ ⟨n_0 + 1, ⟨z_6, ez_6, (Or.inr ⟨h_9, ⟨z_14, ez_14, ⟨z_17, ez_17, ⟨z_20, ez_20, (Or.inl ⟨h_23, ⟨z_24, ez_24, q⟩⟩)⟩⟩⟩⟩)⟩⟩)))
    · skip
      have iv_27 : IV p0 0 7 := iv_meet (iv_any p0) (iv_e h_23.symm iv_22) (zle_o rfl) (zle_o rfl)
      refine k_aload_n X dX11_markOf_k1.1.1.2.1 1 rfl ?_
      refine k_get (ci := 11) X inlX11 rfl 15 (nlt_e rfl) dX11_markOf_k1.1.1.2.2 mw170 0 rfl rfl ?_
      refine k_bipush (v := 44) X dX11_markOf_k1.1.2.1.1 bi_44 ?_
      refine k_iconst (v := 3) X dX11_markOf_k1.1.2.1.2 ic_3 ?_
      refine k_iload_n X dX11_markOf_k1.1.2.2.1 0 rfl ?_
      refine k_imul X dX11_markOf_k1.1.2.2.2 ?_
      refine k_to z_14 ez_14.symm ?_
      refine k_iadd X dX11_markOf_k1.2.1.1.1 ?_
      refine k_to z_17 ez_17.symm ?_
      refine k_iconst (v := 2) X dX11_markOf_k1.2.1.1.2 ic_2 ?_
      refine k_iadd X dX11_markOf_k1.2.1.2.1 ?_
      refine k_nm (fun z_28 ez_28 => ?_)
      have i_29 : z_28.toInt = z_17.toInt + 2 := in_add ez_28 iv_19 iq_2_2_2 (zle_e rfl) (zle_e rfl)
      have iv_30 : IV z_28 46 79 := iz1 i_29 iv_19 (zle_e rfl) (zle_e rfl)
      refine k_iald X dX11_markOf_k1.2.1.2.2 1 rfl (iv_in iv_30 (zle_e rfl) (zle_l rfl)) ?_
      refine k_nm (fun z_31 ez_31 => ?_)
      have i_32 : z_28.toInt = 46 + 3 * u_1.toInt := by omega
      have iv_33 : IV z_31 0 3 := rb_46_3 ez_31 hp_d_r i_32 (iv_w iv_12 (zle_e rfl) (zle_e rfl))
      refine k_iload_n X dX11_markOf_k1.2.2.1.1 3 rfl ?_
      refine k_ic_ne 55 X dX11_markOf_k1.2.2.1.2 (jp_e rfl) (fun h_34 => ?_) (fun h_34 => ?_)
      · skip
        obtain ⟨z_35, ez_35⟩ : ∃ y : Int32, u_1 + Int32.ofInt 1 = y := ⟨_, rfl⟩
        refine k_iinc z_35 [(3, .int z_35), (0, .ref h0), (1, .int p0), (2, .int p1)] 0 X dX11_markOf_k2.2.1.2 rfl ez_35 (nlt_e rfl) rfl ?_
        have i_36 : z_35.toInt = u_1.toInt + 1 := in_inc ez_35 (oin_e rfl) iv_12 (zle_e rfl) (zle_e rfl)
        have iv_37 : IV z_35 1 12 := iz1 i_36 iv_12 (zle_e rfl) (zle_e rfl)
        refine k_goto 2 X dX11_markOf_k2.2.2.1 (jp_e rfl) ?_
        exact ih_5 _ (by omega) z_35 rfl (iv_w iv_37 (zle_e rfl) (zle_e rfl)) (fun r h => h.elim (fun n_0 q => (KH_0 _ ⟨n_0 + 1, ⟨z_6, ez_6, (Or.inr ⟨h_9, ⟨z_14, ez_14, ⟨z_17, ez_17, ⟨z_20, ez_20, (Or.inr ⟨h_23, ⟨z_28, ez_28, ⟨z_31, ez_31, (Or.inl ⟨h_34, ⟨z_35, ez_35, q⟩⟩)⟩⟩⟩)⟩⟩⟩⟩)⟩⟩)))
      · skip
        have iv_38 : IV p1 0 3 := iv_meet (iv_any p1) (iv_e h_34.symm iv_33) (zle_o rfl) (zle_o rfl)
        refine k_aload_n X dX11_markOf_k1.2.2.2.1 1 rfl ?_
        refine k_get (ci := 11) X inlX11 rfl 17 (nlt_e rfl) dX11_markOf_k1.2.2.2.2 mw172 0 rfl rfl ?_
        refine k_bipush (v := 16) X dX11_markOf_k2.1.1.1 bi_16 ?_
        refine k_iload_n X dX11_markOf_k2.1.1.2 0 rfl ?_
        refine k_iadd X dX11_markOf_k2.1.2.1 ?_
        refine k_nm (fun z_39 ez_39 => ?_)
        have i_40 : z_39.toInt = 16 + u_1.toInt := in_add ez_39 iq_16_16_16 iv_12 (zle_e rfl) (zle_e rfl)
        have iv_41 : IV z_39 16 27 := iz2 i_40 iv_12 (zle_e rfl) (zle_e rfl)
        refine k_iald X dX11_markOf_k2.1.2.2 2 rfl (iv_in iv_41 (zle_e rfl) (zle_l rfl)) ?_
        refine k_nm (fun z_42 ez_42 => ?_)
        exact k_iret X hr dX11_markOf_k2.2.1.1 (Nat.le_of_ble_eq_true rfl) (Nat.le_of_ble_eq_true rfl) [0, 1, 2] (vnd_e rfl) rfl rfl ⟨(KH_0 _ ⟨0 + 1, ⟨z_6, ez_6, (Or.inr ⟨h_9, ⟨z_14, ez_14, ⟨z_17, ez_17, ⟨z_20, ez_20, (Or.inr ⟨h_23, ⟨z_28, ez_28, ⟨z_31, ez_31, (Or.inr ⟨h_34, ⟨z_39, ez_39, ⟨z_42, ez_42, rfl⟩⟩⟩)⟩⟩⟩)⟩⟩⟩⟩)⟩⟩), rfl⟩



set_option maxHeartbeats 4000000 in
set_option maxRecDepth 100000 in
theorem s_reelAtX (l : Launch) (g : Gx) (h0 : Nat) (p0 : Int32) (v0h0 : Value) (v1h0 : Value) (v2h0 : Value) (xp : Nat) (xmd : Int32) (xtr : Int32) (xpc : Nat) (xpn : Int32) (xpf : Nat → Int32) : cI l g yX7_reelAt cX7_reelAt 2 (some .int) 1 22 0 0 [.ref h0, .int p0] [(cO7_vvvrii h0 v0h0 v1h0 v2h0 xp xmd xtr), (cO8_iiri xp 8 2 xpc xpn), (cAI g xpc 16 xpf)] (fun r w => (R_s_reelAtX p0 xpf r) ∧ w = [(cO7_vvvrii h0 v0h0 v1h0 v2h0 xp xmd xtr), (cO8_iiri xp 8 2 xpc xpn), (cAI g xpc 16 xpf)]) := by
  refine cI.of (by decide) (Nat.le_of_ble_eq_true rfl) ?_
  intro p e s m args below meth c A X hr hi
  refine k_lveq [(0, .ref h0), (1, .int p0)] rfl ?_
  refine k_aload_n X dX7_reelAt_k0.1.1 0 rfl ?_
  refine k_get (ci := 7) X inlX7 rfl 3 (nlt_e rfl) dX7_reelAt_k0.1.2.1 mw93 0 rfl rfl ?_
  refine k_iload_n X dX7_reelAt_k0.1.2.2 1 rfl ?_
  refine k_iconst (v := 0) X dX7_reelAt_k0.2.1 ic_0 ?_
  refine k_callVI (n := 2) (As := [.int p0, .int 0]) (st := []) X [(cO8_iiri xp 8 2 xpc xpn), (cAI g xpc 16 xpf)] [(cO7_vvvrii h0 v0h0 v1h0 v2h0 xp xmd xtr)] [1, 2] [0] (t_at l g xp p0 0 8 2 xpc xpn 16 xpf (tbk_8_2)) dX7_reelAt_k0.2.2.1 mw388 mw376 mw377 mw64 mw378 rfl 8 rfl rfl 0 _ rfl yk_yX8_at_2 rfl (Nat.le_of_ble_eq_true rfl) (Nat.le_of_ble_eq_true rfl) (Nat.le_of_ble_eq_true rfl) (Nat.le_of_ble_eq_true rfl) (Nat.le_of_ble_eq_true rfl) rfl rfl (vnd_e rfl) rfl (vnd_e rfl) (dsj_e rfl) ?_
  rintro r_1 w ⟨hr_2, rfl⟩
  refine k_ws [(cO7_vvvrii h0 v0h0 v1h0 v2h0 xp xmd xtr), (cO8_iiri xp 8 2 xpc xpn), (cAI g xpc 16 xpf)] rfl ?_
  exact k_iret X hr dX7_reelAt_k0.2.2.2 (Nat.le_of_ble_eq_true rfl) (Nat.le_of_ble_eq_true rfl) [0, 1, 2] (vnd_e rfl) rfl rfl ⟨⟨r_1, hr_2, rfl⟩, rfl⟩


set_option maxHeartbeats 4000000 in
set_option maxRecDepth 100000 in
theorem s_believedByX (l : Launch) (g : Gx) (h0 : Nat) (mn : Nat) (p0 : Int32) (p1 : Int32) (xr : Nat) (xm : Nat) (v2h0 : Value) (v3h0 : Value) (xmd : Int32) (xtr : Int32) (xrc : Nat) (xrn : Int32) (xrf : Nat → Int32) (xmc : Nat) (xmn : Int32) (xmf : Nat → Int32) (mnc : Nat) (mnn : Int32) (mnf : Nat → Int32) : cI l g yX7_believedBy cX7_believedBy 8 (some .int) 1 22 0 0 [.ref h0, .ref mn, .int p0, .int p1] [(cO7_rrvvii h0 xr xm v2h0 v3h0 xmd xtr), (cO8_iiri xr 8 3 xrc xrn), (cAI g xrc 24 xrf), (cO8_iiri xm 12 3 xmc xmn), (cAI g xmc 36 xmf), (cO8_iiri mn 4 3 mnc mnn), (cAI g mnc 12 mnf)] (fun r w => (R_s_believedByX p0 p1 xrf xmn xmf mnf r) ∧ w = [(cO7_rrvvii h0 xr xm v2h0 v3h0 xmd xtr), (cO8_iiri xr 8 3 xrc xrn), (cAI g xrc 24 xrf), (cO8_iiri xm 12 3 xmc xmn), (cAI g xmc 36 xmf), (cO8_iiri mn 4 3 mnc mnn), (cAI g mnc 12 mnf)]) := by
  refine cI.of (by decide) (Nat.le_of_ble_eq_true rfl) ?_
  intro p e s m args below meth c A X hr hi
  refine k_lveq [(0, .ref h0), (1, .ref mn), (2, .int p0), (3, .int p1)] rfl ?_
  refine k_aload_n X dX7_believedBy_k0.1.1.1.1 1 rfl ?_
  refine k_iload_n X dX7_believedBy_k0.1.1.1.2 2 rfl ?_
  refine k_iconst (v := 0) X dX7_believedBy_k0.1.1.2.1 ic_0 ?_
  refine k_callVI (n := 2) (As := [.int p0, .int 0]) (st := []) X [(cO8_iiri mn 4 3 mnc mnn), (cAI g mnc 12 mnf)] [(cO7_rrvvii h0 xr xm v2h0 v3h0 xmd xtr), (cO8_iiri xr 8 3 xrc xrn), (cAI g xrc 24 xrf), (cO8_iiri xm 12 3 xmc xmn), (cAI g xmc 36 xmf)] [5, 6] [0, 1, 2, 3, 4] (t_at l g mn p0 0 4 3 mnc mnn 12 mnf (tbk_4_3)) dX7_believedBy_k0.1.1.2.2 mw388 mw376 mw377 mw64 mw378 rfl 8 rfl rfl 0 _ rfl yk_yX8_at_2 rfl (Nat.le_of_ble_eq_true rfl) (Nat.le_of_ble_eq_true rfl) (Nat.le_of_ble_eq_true rfl) (Nat.le_of_ble_eq_true rfl) (Nat.le_of_ble_eq_true rfl) rfl rfl (vnd_e rfl) rfl (vnd_e rfl) (dsj_e rfl) ?_
  rintro r_1 w ⟨hr_2, rfl⟩
  refine k_ws [(cO7_rrvvii h0 xr xm v2h0 v3h0 xmd xtr), (cO8_iiri xr 8 3 xrc xrn), (cAI g xrc 24 xrf), (cO8_iiri xm 12 3 xmc xmn), (cAI g xmc 36 xmf), (cO8_iiri mn 4 3 mnc mnn), (cAI g mnc 12 mnf)] rfl ?_
  refine k_istore [(4, .int r_1), (0, .ref h0), (1, .ref mn), (2, .int p0), (3, .int p1)] X dX7_believedBy_k0.1.2.1.1 (nlt_e rfl) rfl ?_
  refine k_aload_n X dX7_believedBy_k0.1.2.1.2 1 rfl ?_
  refine k_get (ci := 7) X inlX7 rfl 0 (nlt_e rfl) dX7_believedBy_k0.1.2.2.1 mw90 0 rfl rfl ?_
  refine k_iload_n X dX7_believedBy_k0.1.2.2.2 4 rfl ?_
  refine k_iconst (v := 1) X dX7_believedBy_k0.2.1.1.1 ic_1 ?_
  refine k_callVI (n := 2) (As := [.int p1, .int 1]) (st := []) X [(cO8_iiri xr 8 3 xrc xrn), (cAI g xrc 24 xrf)] [(cO7_rrvvii h0 xr xm v2h0 v3h0 xmd xtr), (cO8_iiri xm 12 3 xmc xmn), (cAI g xmc 36 xmf), (cO8_iiri mn 4 3 mnc mnn), (cAI g mnc 12 mnf)] [1, 2] [0, 3, 4, 5, 6] (t_at l g xr p1 1 8 3 xrc xrn 24 xrf (tbk_8_3)) dX7_believedBy_k0.2.1.1.2 mw388 mw376 mw377 mw64 mw378 rfl 8 rfl rfl 0 _ rfl yk_yX8_at_2 rfl (Nat.le_of_ble_eq_true rfl) (Nat.le_of_ble_eq_true rfl) (Nat.le_of_ble_eq_true rfl) (Nat.le_of_ble_eq_true rfl) (Nat.le_of_ble_eq_true rfl) rfl rfl (vnd_e rfl) rfl (vnd_e rfl) (dsj_e rfl) ?_
  rintro r_3 w ⟨hr_4, rfl⟩
  refine k_ws [(cO7_rrvvii h0 xr xm v2h0 v3h0 xmd xtr), (cO8_iiri xm 12 3 xmc xmn), (cAI g xmc 36 xmf), (cO8_iiri mn 4 3 mnc mnn), (cAI g mnc 12 mnf), (cO8_iiri xr 8 3 xrc xrn), (cAI g xrc 24 xrf)] rfl ?_
  refine k_istore [(5, .int r_3), (4, .int r_1), (0, .ref h0), (1, .ref mn), (2, .int p0), (3, .int p1)] X dX7_believedBy_k0.2.1.2.1 (nlt_e rfl) rfl ?_
  refine k_iconst (v := 0) X dX7_believedBy_k0.2.1.2.2 ic_0 ?_
  refine k_istore [(6, .int 0), (5, .int r_3), (4, .int r_1), (0, .ref h0), (1, .ref mn), (2, .int p0), (3, .int p1)] X dX7_believedBy_k0.2.2.1.1 (nlt_e rfl) rfl ?_
  refine (fun hL : ∀ (nn_8 : Nat) (u_5 : Int32) (u_6 : Int32), (xmn.toInt - u_6.toInt).toNat = nn_8 → (IV u_6 0 2147483647) → (∀ (r : Int32), (∃ n_0 : Nat, R_s_believedByX_L0 p0 p1 xmn xmf mnf r_1 (fun (u_5 : Int32) => r = u_5) n_0 u_5 u_6) → R_s_believedByX p0 p1 xrf xmn xmf mnf r) → Wk p l e _ s m args below meth c _ A g _ _ _ [(cO7_rrvvii h0 xr xm v2h0 v3h0 xmd xtr), (cO8_iiri xm 12 3 xmc xmn), (cAI g xmc 36 xmf), (cO8_iiri mn 4 3 mnc mnn), (cAI g mnc 12 mnf), (cO8_iiri xr 8 3 xrc xrn), (cAI g xrc 24 xrf)] [(6, .int u_6), (5, .int u_5), (4, .int r_1), (0, .ref h0), (1, .ref mn), (2, .int p0), (3, .int p1)] 22 [] => hL _ r_3 0 rfl (iv_w iq_0_0_0 (zle_e rfl) (zle_e rfl)) (fun r h => ⟨r_1, hr_2, ⟨r_3, hr_4, h⟩⟩)) ?_
  refine fun nn_8 => Nat.strongRecOn nn_8 (fun nn_8 ih_10 => ?_)
  intro u_5 u_6 hm_9 hv_7 KH_0
  refine k_iload X dX7_believedBy_k0.2.2.1.2 0 rfl ?_
  refine k_aload_n X dX7_believedBy_k0.2.2.2.1 3 rfl ?_
  refine k_get (ci := 7) X inlX7 rfl 1 (nlt_e rfl) dX7_believedBy_k0.2.2.2.2 mw91 0 rfl rfl ?_
  refine k_get (ci := 8) X inlX8 rfl 3 (nlt_e rfl) dX7_believedBy_k1.1.1.1.1 mw387 1 rfl rfl ?_
  refine k_ic_ge 121 X dX7_believedBy_k1.1.1.1.2 (jp_e rfl) (fun h_11 => ?_) (fun h_11 => ?_)
  · skip
    have j_12 : xmn.toInt ≤ u_6.toInt := iv_le h_11
    refine k_iload X dX7_believedBy_k3.2.2.2.1 1 rfl ?_
    exact k_iret X hr dX7_believedBy_k3.2.2.2.2 (Nat.le_of_ble_eq_true rfl) (Nat.le_of_ble_eq_true rfl) [0, 5, 6, 1, 2, 3, 4] (vnd_e rfl) rfl rfl ⟨(KH_0 _ ⟨0 + 1, (Or.inl ⟨h_11, rfl⟩)⟩), rfl⟩
  · skip
    have j_13 : u_6.toInt < xmn.toInt := iv_nle h_11
    have iv_14 : IV u_6 0 2147483646 := iv_ltL (iv_nle h_11) hv_7 (iv_any xmn) (zle_e rfl)
    have iv_15 : IV xmn 1 2147483647 := iv_ltR (iv_nle h_11) hv_7 (iv_any xmn) (zle_e rfl)
    refine k_aload_n X dX7_believedBy_k1.1.1.2.1 3 rfl ?_
    refine k_get (ci := 7) X inlX7 rfl 1 (nlt_e rfl) dX7_believedBy_k1.1.1.2.2 mw91 0 rfl rfl ?_
    refine k_iload X dX7_believedBy_k1.1.2.1.1 0 rfl ?_
    refine k_iconst (v := 0) X dX7_believedBy_k1.1.2.1.2 ic_0 ?_
    refine k_callVI (n := 2) (As := [.int u_6, .int 0]) (st := []) X [(cO8_iiri xm 12 3 xmc xmn), (cAI g xmc 36 xmf)] [(cO7_rrvvii h0 xr xm v2h0 v3h0 xmd xtr), (cO8_iiri mn 4 3 mnc mnn), (cAI g mnc 12 mnf), (cO8_iiri xr 8 3 xrc xrn), (cAI g xrc 24 xrf)] [1, 2] [0, 3, 4, 5, 6] (t_at l g xm u_6 0 12 3 xmc xmn 36 xmf (tbk_12_3)) dX7_believedBy_k1.1.2.2.1 mw388 mw376 mw377 mw64 mw378 rfl 8 rfl rfl 0 _ rfl yk_yX8_at_2 rfl (Nat.le_of_ble_eq_true rfl) (Nat.le_of_ble_eq_true rfl) (Nat.le_of_ble_eq_true rfl) (Nat.le_of_ble_eq_true rfl) (Nat.le_of_ble_eq_true rfl) rfl rfl (vnd_e rfl) rfl (vnd_e rfl) (dsj_e rfl) ?_
    rintro r_16 w ⟨hr_17, rfl⟩
    refine k_ws [(cO7_rrvvii h0 xr xm v2h0 v3h0 xmd xtr), (cO8_iiri mn 4 3 mnc mnn), (cAI g mnc 12 mnf), (cO8_iiri xr 8 3 xrc xrn), (cAI g xrc 24 xrf), (cO8_iiri xm 12 3 xmc xmn), (cAI g xmc 36 xmf)] rfl ?_
    refine k_iload_n X dX7_believedBy_k1.1.2.2.2 6 rfl ?_
    refine k_ic_ne 115 X dX7_believedBy_k1.2.1.1.1 (jp_e rfl) (fun h_18 => ?_) (fun h_18 => ?_)
    · skip
      obtain ⟨z_19, ez_19⟩ : ∃ y : Int32, u_6 + Int32.ofInt 1 = y := ⟨_, rfl⟩
      refine k_iinc z_19 [(6, .int z_19), (5, .int u_5), (4, .int r_1), (0, .ref h0), (1, .ref mn), (2, .int p0), (3, .int p1)] 0 X dX7_believedBy_k3.2.2.1.1 rfl ez_19 (nlt_e rfl) rfl ?_
      have i_20 : z_19.toInt = u_6.toInt + 1 := in_inc ez_19 (oin_e rfl) iv_14 (zle_e rfl) (zle_e rfl)
      have iv_21 : IV z_19 1 2147483647 := iz1 i_20 iv_14 (zle_e rfl) (zle_e rfl)
      refine k_goto 22 X dX7_believedBy_k3.2.2.1.2 (jp_e rfl) ?_
      refine k_sub [(cO7_rrvvii h0 xr xm v2h0 v3h0 xmd xtr), (cO8_iiri xm 12 3 xmc xmn), (cAI g xmc 36 xmf), (cO8_iiri mn 4 3 mnc mnn), (cAI g mnc 12 mnf), (cO8_iiri xr 8 3 xrc xrn), (cAI g xrc 24 xrf)] [0, 5, 6, 1, 2, 3, 4] rfl (by decide) rfl ?_
      exact ih_10 _ (by omega) u_5 z_19 rfl (iv_w iv_21 (zle_e rfl) (zle_e rfl)) (fun r h => h.elim (fun n_0 q => (KH_0 _ ⟨n_0 + 1, (Or.inr ⟨h_11, ⟨r_16, hr_17, (Or.inl ⟨h_18, ⟨z_19, ez_19, q⟩⟩)⟩⟩)⟩)))
    · skip
      refine k_aload_n X dX7_believedBy_k1.2.1.1.2 3 rfl ?_
      refine k_get (ci := 7) X inlX7 rfl 1 (nlt_e rfl) dX7_believedBy_k1.2.1.2.1 mw91 0 rfl rfl ?_
      refine k_iload X dX7_believedBy_k1.2.1.2.2 0 rfl ?_
      refine k_iconst (v := 1) X dX7_believedBy_k1.2.2.1.1 ic_1 ?_
      refine k_callVI (n := 2) (As := [.int u_6, .int 1]) (st := []) X [(cO8_iiri xm 12 3 xmc xmn), (cAI g xmc 36 xmf)] [(cO7_rrvvii h0 xr xm v2h0 v3h0 xmd xtr), (cO8_iiri mn 4 3 mnc mnn), (cAI g mnc 12 mnf), (cO8_iiri xr 8 3 xrc xrn), (cAI g xrc 24 xrf)] [5, 6] [0, 1, 2, 3, 4] (t_at l g xm u_6 1 12 3 xmc xmn 36 xmf (tbk_12_3)) dX7_believedBy_k1.2.2.1.2 mw388 mw376 mw377 mw64 mw378 rfl 8 rfl rfl 0 _ rfl yk_yX8_at_2 rfl (Nat.le_of_ble_eq_true rfl) (Nat.le_of_ble_eq_true rfl) (Nat.le_of_ble_eq_true rfl) (Nat.le_of_ble_eq_true rfl) (Nat.le_of_ble_eq_true rfl) rfl rfl (vnd_e rfl) rfl (vnd_e rfl) (dsj_e rfl) ?_
      rintro r_22 w ⟨hr_23, rfl⟩
      refine k_ws [(cO7_rrvvii h0 xr xm v2h0 v3h0 xmd xtr), (cO8_iiri mn 4 3 mnc mnn), (cAI g mnc 12 mnf), (cO8_iiri xr 8 3 xrc xrn), (cAI g xrc 24 xrf), (cO8_iiri xm 12 3 xmc xmn), (cAI g xmc 36 xmf)] rfl ?_
      refine k_istore [(7, .int r_22), (6, .int u_6), (5, .int u_5), (4, .int r_1), (0, .ref h0), (1, .ref mn), (2, .int p0), (3, .int p1)] X dX7_believedBy_k1.2.2.2.1 (nlt_e rfl) rfl ?_
      refine k_iload X dX7_believedBy_k1.2.2.2.2 3 rfl ?_
      refine k_iconst (v := 1) X dX7_believedBy_k2.1.1.1.1 ic_1 ?_
      refine k_ic_ne 73 X dX7_believedBy_k2.1.1.1.2 (jp_e rfl) (fun h_24 => ?_) (fun h_24 => ?_)
      · skip
        refine k_iload X dX7_believedBy_k2.1.2.1.2 3 rfl ?_
        refine k_iconst (v := 2) X dX7_believedBy_k2.1.2.2.1 ic_2 ?_
        refine k_ic_ne 86 X dX7_believedBy_k2.1.2.2.2 (jp_e rfl) (fun h_25 => ?_) (fun h_25 => ?_)
        · skip
          refine k_iload X dX7_believedBy_k2.2.1.2.2 3 rfl ?_
          refine k_iconst (v := 3) X dX7_believedBy_k2.2.2.1.1 ic_3 ?_
          refine k_ic_ne 115 X dX7_believedBy_k2.2.2.1.2 (jp_e rfl) (fun h_26 => ?_) (fun h_26 => ?_)
          · skip
            obtain ⟨z_27, ez_27⟩ : ∃ y : Int32, u_6 + Int32.ofInt 1 = y := ⟨_, rfl⟩
            refine k_iinc z_27 [(6, .int z_27), (7, .int r_22), (5, .int u_5), (4, .int r_1), (0, .ref h0), (1, .ref mn), (2, .int p0), (3, .int p1)] 1 X dX7_believedBy_k3.2.2.1.1 rfl ez_27 (nlt_e rfl) rfl ?_
            have i_28 : z_27.toInt = u_6.toInt + 1 := in_inc ez_27 (oin_e rfl) iv_14 (zle_e rfl) (zle_e rfl)
            have iv_29 : IV z_27 1 2147483647 := iz1 i_28 iv_14 (zle_e rfl) (zle_e rfl)
            refine k_goto 22 X dX7_believedBy_k3.2.2.1.2 (jp_e rfl) ?_
            refine k_lv [(6, .int z_27), (5, .int u_5), (4, .int r_1), (0, .ref h0), (1, .ref mn), (2, .int p0), (3, .int p1)] [0, 2, 3, 4, 5, 6, 7] rfl ?_
            refine k_sub [(cO7_rrvvii h0 xr xm v2h0 v3h0 xmd xtr), (cO8_iiri xm 12 3 xmc xmn), (cAI g xmc 36 xmf), (cO8_iiri mn 4 3 mnc mnn), (cAI g mnc 12 mnf), (cO8_iiri xr 8 3 xrc xrn), (cAI g xrc 24 xrf)] [0, 5, 6, 1, 2, 3, 4] rfl (by decide) rfl ?_
            exact ih_10 _ (by omega) u_5 z_27 rfl (iv_w iv_29 (zle_e rfl) (zle_e rfl)) (fun r h => h.elim (fun n_0 q => (KH_0 _ ⟨n_0 + 1, (Or.inr ⟨h_11, ⟨r_16, hr_17, (Or.inr ⟨h_18, ⟨r_22, hr_23, (Or.inl ⟨h_24, (Or.inl ⟨h_25, (Or.inl ⟨h_26, ⟨z_27, ez_27, q⟩⟩)⟩)⟩)⟩⟩)⟩⟩)⟩)))
          · skip
            have iv_30 : IV r_1 3 3 := iv_meet (iv_any r_1) (iv_e h_26 iq_3_3_3) (zle_o rfl) (zle_o rfl)
            refine k_aload_n X dX7_believedBy_k2.2.2.2.1 4 rfl ?_
            refine k_get (ci := 7) X inlX7 rfl 1 (nlt_e rfl) dX7_believedBy_k2.2.2.2.2 mw91 0 rfl rfl ?_
            refine k_iload X dX7_believedBy_k3.1.1.1 1 rfl ?_
            refine k_iconst (v := 2) X dX7_believedBy_k3.1.1.2.1 ic_2 ?_
            refine k_callVI (n := 2) (As := [.int u_6, .int 2]) (st := []) X [(cO8_iiri xm 12 3 xmc xmn), (cAI g xmc 36 xmf)] [(cO7_rrvvii h0 xr xm v2h0 v3h0 xmd xtr), (cO8_iiri mn 4 3 mnc mnn), (cAI g mnc 12 mnf), (cO8_iiri xr 8 3 xrc xrn), (cAI g xrc 24 xrf)] [5, 6] [0, 1, 2, 3, 4] (t_at l g xm u_6 2 12 3 xmc xmn 36 xmf (tbk_12_3)) dX7_believedBy_k3.1.1.2.2 mw388 mw376 mw377 mw64 mw378 rfl 8 rfl rfl 0 _ rfl yk_yX8_at_2 rfl (Nat.le_of_ble_eq_true rfl) (Nat.le_of_ble_eq_true rfl) (Nat.le_of_ble_eq_true rfl) (Nat.le_of_ble_eq_true rfl) (Nat.le_of_ble_eq_true rfl) rfl rfl (vnd_e rfl) rfl (vnd_e rfl) (dsj_e rfl) ?_
            rintro r_31 w ⟨hr_32, rfl⟩
            refine k_ws [(cO7_rrvvii h0 xr xm v2h0 v3h0 xmd xtr), (cO8_iiri mn 4 3 mnc mnn), (cAI g mnc 12 mnf), (cO8_iiri xr 8 3 xrc xrn), (cAI g xrc 24 xrf), (cO8_iiri xm 12 3 xmc xmn), (cAI g xmc 36 xmf)] rfl ?_
            refine k_aload_n X dX7_believedBy_k3.1.2.1.1 5 rfl ?_
            refine k_iload_n X dX7_believedBy_k3.1.2.1.2 6 rfl ?_
            refine k_iconst (v := 1) X dX7_believedBy_k3.1.2.2.1 ic_1 ?_
            refine k_callVI (n := 2) (As := [.int p0, .int 1]) (st := [.int r_31]) X [(cO8_iiri mn 4 3 mnc mnn), (cAI g mnc 12 mnf)] [(cO7_rrvvii h0 xr xm v2h0 v3h0 xmd xtr), (cO8_iiri xr 8 3 xrc xrn), (cAI g xrc 24 xrf), (cO8_iiri xm 12 3 xmc xmn), (cAI g xmc 36 xmf)] [1, 2] [0, 3, 4, 5, 6] (t_at l g mn p0 1 4 3 mnc mnn 12 mnf (tbk_4_3)) dX7_believedBy_k3.1.2.2.2 mw388 mw376 mw377 mw64 mw378 rfl 8 rfl rfl 0 _ rfl yk_yX8_at_2 rfl (Nat.le_of_ble_eq_true rfl) (Nat.le_of_ble_eq_true rfl) (Nat.le_of_ble_eq_true rfl) (Nat.le_of_ble_eq_true rfl) (Nat.le_of_ble_eq_true rfl) rfl rfl (vnd_e rfl) rfl (vnd_e rfl) (dsj_e rfl) ?_
            rintro r_33 w ⟨hr_34, rfl⟩
            refine k_ws [(cO7_rrvvii h0 xr xm v2h0 v3h0 xmd xtr), (cO8_iiri xr 8 3 xrc xrn), (cAI g xrc 24 xrf), (cO8_iiri xm 12 3 xmc xmn), (cAI g xmc 36 xmf), (cO8_iiri mn 4 3 mnc mnn), (cAI g mnc 12 mnf)] rfl ?_
            refine k_ic_ne 115 X dX7_believedBy_k3.2.1.1 (jp_e rfl) (fun h_35 => ?_) (fun h_35 => ?_)
            · skip
              obtain ⟨z_36, ez_36⟩ : ∃ y : Int32, u_6 + Int32.ofInt 1 = y := ⟨_, rfl⟩
              refine k_iinc z_36 [(6, .int z_36), (7, .int r_22), (5, .int u_5), (4, .int r_1), (0, .ref h0), (1, .ref mn), (2, .int p0), (3, .int p1)] 1 X dX7_believedBy_k3.2.2.1.1 rfl ez_36 (nlt_e rfl) rfl ?_
              have i_37 : z_36.toInt = u_6.toInt + 1 := in_inc ez_36 (oin_e rfl) iv_14 (zle_e rfl) (zle_e rfl)
              have iv_38 : IV z_36 1 2147483647 := iz1 i_37 iv_14 (zle_e rfl) (zle_e rfl)
              refine k_goto 22 X dX7_believedBy_k3.2.2.1.2 (jp_e rfl) ?_
              refine k_lv [(6, .int z_36), (5, .int u_5), (4, .int r_1), (0, .ref h0), (1, .ref mn), (2, .int p0), (3, .int p1)] [0, 2, 3, 4, 5, 6, 7] rfl ?_
              refine k_sub [(cO7_rrvvii h0 xr xm v2h0 v3h0 xmd xtr), (cO8_iiri xm 12 3 xmc xmn), (cAI g xmc 36 xmf), (cO8_iiri mn 4 3 mnc mnn), (cAI g mnc 12 mnf), (cO8_iiri xr 8 3 xrc xrn), (cAI g xrc 24 xrf)] [0, 3, 4, 5, 6, 1, 2] rfl (by decide) rfl ?_
              exact ih_10 _ (by omega) u_5 z_36 rfl (iv_w iv_38 (zle_e rfl) (zle_e rfl)) (fun r h => h.elim (fun n_0 q => (KH_0 _ ⟨n_0 + 1, (Or.inr ⟨h_11, ⟨r_16, hr_17, (Or.inr ⟨h_18, ⟨r_22, hr_23, (Or.inl ⟨h_24, (Or.inl ⟨h_25, (Or.inr ⟨h_26, ⟨r_31, hr_32, ⟨r_33, hr_34, (Or.inl ⟨h_35, ⟨z_36, ez_36, q⟩⟩)⟩⟩⟩)⟩)⟩)⟩⟩)⟩⟩)⟩)))
            · skip
              refine k_iload X dX7_believedBy_k3.2.1.2.1 0 rfl ?_
              refine k_istore [(5, .int r_22), (7, .int r_22), (6, .int u_6), (4, .int r_1), (0, .ref h0), (1, .ref mn), (2, .int p0), (3, .int p1)] X dX7_believedBy_k3.2.1.2.2 (nlt_e rfl) rfl ?_
              obtain ⟨z_39, ez_39⟩ : ∃ y : Int32, u_6 + Int32.ofInt 1 = y := ⟨_, rfl⟩
              refine k_iinc z_39 [(6, .int z_39), (5, .int r_22), (7, .int r_22), (4, .int r_1), (0, .ref h0), (1, .ref mn), (2, .int p0), (3, .int p1)] 2 X dX7_believedBy_k3.2.2.1.1 rfl ez_39 (nlt_e rfl) rfl ?_
              have i_40 : z_39.toInt = u_6.toInt + 1 := in_inc ez_39 (oin_e rfl) iv_14 (zle_e rfl) (zle_e rfl)
              have iv_41 : IV z_39 1 2147483647 := iz1 i_40 iv_14 (zle_e rfl) (zle_e rfl)
              refine k_goto 22 X dX7_believedBy_k3.2.2.1.2 (jp_e rfl) ?_
              refine k_lv [(6, .int z_39), (5, .int r_22), (4, .int r_1), (0, .ref h0), (1, .ref mn), (2, .int p0), (3, .int p1)] [0, 1, 3, 4, 5, 6, 7] rfl ?_
              refine k_sub [(cO7_rrvvii h0 xr xm v2h0 v3h0 xmd xtr), (cO8_iiri xm 12 3 xmc xmn), (cAI g xmc 36 xmf), (cO8_iiri mn 4 3 mnc mnn), (cAI g mnc 12 mnf), (cO8_iiri xr 8 3 xrc xrn), (cAI g xrc 24 xrf)] [0, 3, 4, 5, 6, 1, 2] rfl (by decide) rfl ?_
              exact ih_10 _ (by omega) r_22 z_39 rfl (iv_w iv_41 (zle_e rfl) (zle_e rfl)) (fun r h => h.elim (fun n_0 q => (KH_0 _ ⟨n_0 + 1, (Or.inr ⟨h_11, ⟨r_16, hr_17, (Or.inr ⟨h_18, ⟨r_22, hr_23, (Or.inl ⟨h_24, (Or.inl ⟨h_25, (Or.inr ⟨h_26, ⟨r_31, hr_32, ⟨r_33, hr_34, (Or.inr ⟨h_35, ⟨z_39, ez_39, q⟩⟩)⟩⟩⟩)⟩)⟩)⟩⟩)⟩⟩)⟩)))
        · skip
          have iv_42 : IV r_1 2 2 := iv_meet (iv_any r_1) (iv_e h_25 iq_2_2_2) (zle_o rfl) (zle_o rfl)
          refine k_iload X dX7_believedBy_k2.2.1.1.1 0 rfl ?_
          refine k_iload X dX7_believedBy_k2.2.1.1.2 2 rfl ?_
          refine k_ic_gt 111 X dX7_believedBy_k2.2.1.2.1 (jp_e rfl) (fun h_43 => ?_) (fun h_43 => ?_)
          · skip
            have j_44 : u_5.toInt < r_22.toInt := iv_lt h_43
            have iv_45 : IV u_5 (-2147483648) 2147483646 := iv_ltL (iv_lt h_43) (iv_any u_5) (iv_any r_22) (zle_e rfl)
            have iv_46 : IV r_22 (-2147483647) 2147483647 := iv_ltR (iv_lt h_43) (iv_any u_5) (iv_any r_22) (zle_e rfl)
            refine k_iload X dX7_believedBy_k3.2.1.2.1 0 rfl ?_
            refine k_istore [(5, .int r_22), (7, .int r_22), (6, .int u_6), (4, .int r_1), (0, .ref h0), (1, .ref mn), (2, .int p0), (3, .int p1)] X dX7_believedBy_k3.2.1.2.2 (nlt_e rfl) rfl ?_
            obtain ⟨z_47, ez_47⟩ : ∃ y : Int32, u_6 + Int32.ofInt 1 = y := ⟨_, rfl⟩
            refine k_iinc z_47 [(6, .int z_47), (5, .int r_22), (7, .int r_22), (4, .int r_1), (0, .ref h0), (1, .ref mn), (2, .int p0), (3, .int p1)] 2 X dX7_believedBy_k3.2.2.1.1 rfl ez_47 (nlt_e rfl) rfl ?_
            have i_48 : z_47.toInt = u_6.toInt + 1 := in_inc ez_47 (oin_e rfl) iv_14 (zle_e rfl) (zle_e rfl)
            have iv_49 : IV z_47 1 2147483647 := iz1 i_48 iv_14 (zle_e rfl) (zle_e rfl)
            refine k_goto 22 X dX7_believedBy_k3.2.2.1.2 (jp_e rfl) ?_
            refine k_lv [(6, .int z_47), (5, .int r_22), (4, .int r_1), (0, .ref h0), (1, .ref mn), (2, .int p0), (3, .int p1)] [0, 1, 3, 4, 5, 6, 7] rfl ?_
            refine k_sub [(cO7_rrvvii h0 xr xm v2h0 v3h0 xmd xtr), (cO8_iiri xm 12 3 xmc xmn), (cAI g xmc 36 xmf), (cO8_iiri mn 4 3 mnc mnn), (cAI g mnc 12 mnf), (cO8_iiri xr 8 3 xrc xrn), (cAI g xrc 24 xrf)] [0, 5, 6, 1, 2, 3, 4] rfl (by decide) rfl ?_
            exact ih_10 _ (by omega) r_22 z_47 rfl (iv_w iv_49 (zle_e rfl) (zle_e rfl)) (fun r h => h.elim (fun n_0 q => (KH_0 _ ⟨n_0 + 1, (Or.inr ⟨h_11, ⟨r_16, hr_17, (Or.inr ⟨h_18, ⟨r_22, hr_23, (Or.inl ⟨h_24, (Or.inr ⟨h_25, (Or.inl ⟨h_43, ⟨z_47, ez_47, q⟩⟩)⟩)⟩)⟩⟩)⟩⟩)⟩)))
          · skip
            have j_50 : r_22.toInt ≤ u_5.toInt := iv_nlt h_43
            refine k_iload X dX7_believedBy_k2.2.1.2.2 3 rfl ?_
            refine k_iconst (v := 3) X dX7_believedBy_k2.2.2.1.1 ic_3 ?_
            refine k_ic_ne 115 X dX7_believedBy_k2.2.2.1.2 (jp_e rfl) (fun h_51 => ?_) (fun h_51 => (iv_eqN h_51 iv_42 iq_3_3_3 (by decide)).elim)
            obtain ⟨z_52, ez_52⟩ : ∃ y : Int32, u_6 + Int32.ofInt 1 = y := ⟨_, rfl⟩
            refine k_iinc z_52 [(6, .int z_52), (7, .int r_22), (5, .int u_5), (4, .int r_1), (0, .ref h0), (1, .ref mn), (2, .int p0), (3, .int p1)] 1 X dX7_believedBy_k3.2.2.1.1 rfl ez_52 (nlt_e rfl) rfl ?_
            have i_53 : z_52.toInt = u_6.toInt + 1 := in_inc ez_52 (oin_e rfl) iv_14 (zle_e rfl) (zle_e rfl)
            have iv_54 : IV z_52 1 2147483647 := iz1 i_53 iv_14 (zle_e rfl) (zle_e rfl)
            refine k_goto 22 X dX7_believedBy_k3.2.2.1.2 (jp_e rfl) ?_
            refine k_lv [(6, .int z_52), (5, .int u_5), (4, .int r_1), (0, .ref h0), (1, .ref mn), (2, .int p0), (3, .int p1)] [0, 2, 3, 4, 5, 6, 7] rfl ?_
            refine k_sub [(cO7_rrvvii h0 xr xm v2h0 v3h0 xmd xtr), (cO8_iiri xm 12 3 xmc xmn), (cAI g xmc 36 xmf), (cO8_iiri mn 4 3 mnc mnn), (cAI g mnc 12 mnf), (cO8_iiri xr 8 3 xrc xrn), (cAI g xrc 24 xrf)] [0, 5, 6, 1, 2, 3, 4] rfl (by decide) rfl ?_
            exact ih_10 _ (by omega) u_5 z_52 rfl (iv_w iv_54 (zle_e rfl) (zle_e rfl)) (fun r h => h.elim (fun n_0 q => (KH_0 _ ⟨n_0 + 1, (Or.inr ⟨h_11, ⟨r_16, hr_17, (Or.inr ⟨h_18, ⟨r_22, hr_23, (Or.inl ⟨h_24, (Or.inr ⟨h_25, (Or.inr ⟨h_43, ⟨z_52, ez_52, q⟩⟩)⟩)⟩)⟩⟩)⟩⟩)⟩)))
      · skip
        have iv_55 : IV r_1 1 1 := iv_meet (iv_any r_1) (iv_e h_24 iq_1_1_1) (zle_o rfl) (zle_o rfl)
        refine k_iload X dX7_believedBy_k2.1.1.2.1 0 rfl ?_
        refine k_iload X dX7_believedBy_k2.1.1.2.2 2 rfl ?_
        refine k_ic_lt 111 X dX7_believedBy_k2.1.2.1.1 (jp_e rfl) (fun h_56 => ?_) (fun h_56 => ?_)
        · skip
          have j_57 : r_22.toInt < u_5.toInt := iv_lt h_56
          have iv_58 : IV r_22 (-2147483648) 2147483646 := iv_ltL (iv_lt h_56) (iv_any r_22) (iv_any u_5) (zle_e rfl)
          have iv_59 : IV u_5 (-2147483647) 2147483647 := iv_ltR (iv_lt h_56) (iv_any r_22) (iv_any u_5) (zle_e rfl)
          refine k_iload X dX7_believedBy_k3.2.1.2.1 0 rfl ?_
          refine k_istore [(5, .int r_22), (7, .int r_22), (6, .int u_6), (4, .int r_1), (0, .ref h0), (1, .ref mn), (2, .int p0), (3, .int p1)] X dX7_believedBy_k3.2.1.2.2 (nlt_e rfl) rfl ?_
          obtain ⟨z_60, ez_60⟩ : ∃ y : Int32, u_6 + Int32.ofInt 1 = y := ⟨_, rfl⟩
          refine k_iinc z_60 [(6, .int z_60), (5, .int r_22), (7, .int r_22), (4, .int r_1), (0, .ref h0), (1, .ref mn), (2, .int p0), (3, .int p1)] 2 X dX7_believedBy_k3.2.2.1.1 rfl ez_60 (nlt_e rfl) rfl ?_
          have i_61 : z_60.toInt = u_6.toInt + 1 := in_inc ez_60 (oin_e rfl) iv_14 (zle_e rfl) (zle_e rfl)
          have iv_62 : IV z_60 1 2147483647 := iz1 i_61 iv_14 (zle_e rfl) (zle_e rfl)
          refine k_goto 22 X dX7_believedBy_k3.2.2.1.2 (jp_e rfl) ?_
          refine k_lv [(6, .int z_60), (5, .int r_22), (4, .int r_1), (0, .ref h0), (1, .ref mn), (2, .int p0), (3, .int p1)] [0, 1, 3, 4, 5, 6, 7] rfl ?_
          refine k_sub [(cO7_rrvvii h0 xr xm v2h0 v3h0 xmd xtr), (cO8_iiri xm 12 3 xmc xmn), (cAI g xmc 36 xmf), (cO8_iiri mn 4 3 mnc mnn), (cAI g mnc 12 mnf), (cO8_iiri xr 8 3 xrc xrn), (cAI g xrc 24 xrf)] [0, 5, 6, 1, 2, 3, 4] rfl (by decide) rfl ?_
          exact ih_10 _ (by omega) r_22 z_60 rfl (iv_w iv_62 (zle_e rfl) (zle_e rfl)) (fun r h => h.elim (fun n_0 q => (KH_0 _ ⟨n_0 + 1, (Or.inr ⟨h_11, ⟨r_16, hr_17, (Or.inr ⟨h_18, ⟨r_22, hr_23, (Or.inr ⟨h_24, (Or.inl ⟨h_56, ⟨z_60, ez_60, q⟩⟩)⟩)⟩⟩)⟩⟩)⟩)))
        · skip
          have j_63 : u_5.toInt ≤ r_22.toInt := iv_nlt h_56
          refine k_iload X dX7_believedBy_k2.1.2.1.2 3 rfl ?_
          refine k_iconst (v := 2) X dX7_believedBy_k2.1.2.2.1 ic_2 ?_
          refine k_ic_ne 86 X dX7_believedBy_k2.1.2.2.2 (jp_e rfl) (fun h_64 => ?_) (fun h_64 => (iv_eqN h_64 iv_55 iq_2_2_2 (by decide)).elim)
          refine k_iload X dX7_believedBy_k2.2.1.2.2 3 rfl ?_
          refine k_iconst (v := 3) X dX7_believedBy_k2.2.2.1.1 ic_3 ?_
          refine k_ic_ne 115 X dX7_believedBy_k2.2.2.1.2 (jp_e rfl) (fun h_65 => ?_) (fun h_65 => (iv_eqN h_65 iv_55 iq_3_3_3 (by decide)).elim)
          obtain ⟨z_66, ez_66⟩ : ∃ y : Int32, u_6 + Int32.ofInt 1 = y := ⟨_, rfl⟩
          refine k_iinc z_66 [(6, .int z_66), (7, .int r_22), (5, .int u_5), (4, .int r_1), (0, .ref h0), (1, .ref mn), (2, .int p0), (3, .int p1)] 1 X dX7_believedBy_k3.2.2.1.1 rfl ez_66 (nlt_e rfl) rfl ?_
          have i_67 : z_66.toInt = u_6.toInt + 1 := in_inc ez_66 (oin_e rfl) iv_14 (zle_e rfl) (zle_e rfl)
          have iv_68 : IV z_66 1 2147483647 := iz1 i_67 iv_14 (zle_e rfl) (zle_e rfl)
          refine k_goto 22 X dX7_believedBy_k3.2.2.1.2 (jp_e rfl) ?_
          refine k_lv [(6, .int z_66), (5, .int u_5), (4, .int r_1), (0, .ref h0), (1, .ref mn), (2, .int p0), (3, .int p1)] [0, 2, 3, 4, 5, 6, 7] rfl ?_
          refine k_sub [(cO7_rrvvii h0 xr xm v2h0 v3h0 xmd xtr), (cO8_iiri xm 12 3 xmc xmn), (cAI g xmc 36 xmf), (cO8_iiri mn 4 3 mnc mnn), (cAI g mnc 12 mnf), (cO8_iiri xr 8 3 xrc xrn), (cAI g xrc 24 xrf)] [0, 5, 6, 1, 2, 3, 4] rfl (by decide) rfl ?_
          exact ih_10 _ (by omega) u_5 z_66 rfl (iv_w iv_68 (zle_e rfl) (zle_e rfl)) (fun r h => h.elim (fun n_0 q => (KH_0 _ ⟨n_0 + 1, (Or.inr ⟨h_11, ⟨r_16, hr_17, (Or.inr ⟨h_18, ⟨r_22, hr_23, (Or.inr ⟨h_24, (Or.inr ⟨h_56, ⟨z_66, ez_66, q⟩⟩)⟩)⟩⟩)⟩⟩)⟩)))


set_option maxHeartbeats 4000000 in
set_option maxRecDepth 100000 in
theorem n_slipByX (l : Launch) (g : Gx) (h0 : Nat) (p0 : Int32) (nr : Nat) (xsnapped : Int32) (xmostSlip : Int32) (xslip : Int32) (xisDrawn : Int32) (xseed : Int32) (xtick : Int32) (xmotorTick : Int32) (xahead : Int32) : cV l g yX5_slipBy cX5_slipBy 2 0 0 0 0 [.ref h0, .int p0] [(cO5_riiiiiiii h0 nr xsnapped xmostSlip xslip xisDrawn xseed xtick xmotorTick xahead)] (fun w => ∃ (xisDrawn2 : Int32) (xslip2 : Int32), (R_n_slipByX p0 xisDrawn2 xslip2) ∧ w = [(cO5_riiiiiiii h0 nr xsnapped xmostSlip xslip2 xisDrawn2 xseed xtick xmotorTick xahead)]) := by
  refine cV.of (by decide) (Nat.le_of_ble_eq_true rfl) ?_
  intro p e s m args below meth c A X hr hi
  refine k_lveq [(0, .ref h0), (1, .int p0)] rfl ?_
  refine k_aload_n X dX5_slipBy_k0.1.1 0 rfl ?_
  refine k_iconst (v := 0) X dX5_slipBy_k0.1.2.1 ic_0 ?_
  refine k_put (ci := 5) [(cO5_riiiiiiii h0 nr xsnapped xmostSlip xslip 0 xseed xtick xmotorTick xahead)] X inlX5 rfl tyX5_ok nmX5 4 (nlt_e rfl) rfl dX5_slipBy_k0.1.2.2 mw129 0 rfl (by decide) (by decide) (Nat.le_of_ble_eq_true rfl) rfl ?_
  refine k_aload_n X dX5_slipBy_k0.2.1.1 0 rfl ?_
  refine k_iload_n X dX5_slipBy_k0.2.1.2 1 rfl ?_
  refine k_put (ci := 5) [(cO5_riiiiiiii h0 nr xsnapped xmostSlip p0 0 xseed xtick xmotorTick xahead)] X inlX5 rfl tyX5_ok nmX5 3 (nlt_e rfl) rfl dX5_slipBy_k0.2.2.1 mw128 0 rfl rfl rfl (Nat.le_of_ble_eq_true rfl) rfl ?_
  exact k_vret X hr dX5_slipBy_k0.2.2.2 (Nat.le_of_ble_eq_true rfl) (Nat.le_of_ble_eq_true rfl) [0] (vnd_e rfl) rfl rfl ⟨0, p0, ⟨rfl, rfl⟩, rfl⟩


set_option maxHeartbeats 4000000 in
set_option maxRecDepth 100000 in
theorem n_drawX (l : Launch) (g : Gx) (h0 : Nat) (nr : Nat) (xsnapped : Int32) (xmostSlip : Int32) (xslip : Int32) (xisDrawn : Int32) (xseed : Int32) (xtick : Int32) (xmotorTick : Int32) (xahead : Int32) : cI l g yX5_draw cX5_draw 1 (some .int) 0 0 0 0 [.ref h0] [(cO5_riiiiiiii h0 nr xsnapped xmostSlip xslip xisDrawn xseed xtick xmotorTick xahead)] (fun r w => ∃ (xseed2 : Int32), (R_n_drawX xseed xseed2 r) ∧ w = [(cO5_riiiiiiii h0 nr xsnapped xmostSlip xslip xisDrawn xseed2 xtick xmotorTick xahead)]) := by
  refine cI.of (by decide) (Nat.le_of_ble_eq_true rfl) ?_
  intro p e s m args below meth c A X hr hi
  refine k_lveq [(0, .ref h0)] rfl ?_
  refine k_aload_n X dX5_draw_k0.1.1.1 0 rfl ?_
  refine k_bipush (v := 75) X dX5_draw_k0.1.1.2.1 bi_75 ?_
  refine k_aload_n X dX5_draw_k0.1.1.2.2 0 rfl ?_
  refine k_get (ci := 5) X inlX5 rfl 5 (nlt_e rfl) dX5_draw_k0.1.2.1 mw130 0 rfl rfl ?_
  refine k_imul X dX5_draw_k0.1.2.2.1 ?_
  refine k_nm (fun z_1 ez_1 => ?_)
  refine k_bipush (v := 74) X dX5_draw_k0.1.2.2.2 bi_74 ?_
  refine k_iadd X dX5_draw_k0.2.1.1 ?_
  refine k_nm (fun z_3 ez_3 => ?_)
  refine k_ldc (v := 65537) X dX5_draw_k0.2.1.2.1 mw795 ?_
  refine k_irem X dX5_draw_k0.2.1.2.2 (by decide) ?_
  refine k_nm (fun z_5 ez_5 => ?_)
  refine k_put (ci := 5) [(cO5_riiiiiiii h0 nr xsnapped xmostSlip xslip xisDrawn z_5 xtick xmotorTick xahead)] X inlX5 rfl tyX5_ok nmX5 5 (nlt_e rfl) rfl dX5_draw_k0.2.2.1.1 mw130 0 rfl rfl rfl (Nat.le_of_ble_eq_true rfl) rfl ?_
  refine k_aload_n X dX5_draw_k0.2.2.1.2 0 rfl ?_
  refine k_get (ci := 5) X inlX5 rfl 5 (nlt_e rfl) dX5_draw_k0.2.2.2.1 mw130 0 rfl rfl ?_
  exact k_iret X hr dX5_draw_k0.2.2.2.2 (Nat.le_of_ble_eq_true rfl) (Nat.le_of_ble_eq_true rfl) [0] (vnd_e rfl) rfl rfl ⟨z_5, ⟨z_1, ez_1, ⟨z_3, ez_3, ⟨z_5, ez_5, ⟨rfl, rfl⟩⟩⟩⟩, rfl⟩


set_option maxHeartbeats 4000000 in
set_option maxRecDepth 100000 in
theorem n_goByX (l : Launch) (g : Gx) (h0 : Nat) (p0 : Int32) (p1 : Int32) (nr : Nat) (xsnapped : Int32) (xmostSlip : Int32) (xslip : Int32) (xisDrawn : Int32) (xseed : Int32) (xtick : Int32) (xmotorTick : Int32) (xahead : Int32) (nrc : Nat) (nrn : Int32) (nrf : Nat → Int32) : cV l g yX5_goBy cX5_goBy 3 1 23 0 0 [.ref h0, .int p0, .int p1] [(cO5_riiiiiiii h0 nr xsnapped xmostSlip xslip xisDrawn xseed xtick xmotorTick xahead), (cO8_iiri nr 8 10 nrc nrn), (cAI g nrc 80 nrf)] (fun w => ∃ (xmotorTick2 : Int32) (xahead2 : Int32) (nrg : Nat → Int32), (R_n_goByX p0 p1 xtick nrf xmotorTick2 xahead2 nrg) ∧ w = [(cO5_riiiiiiii h0 nr xsnapped xmostSlip xslip xisDrawn xseed xtick xmotorTick2 xahead2), (cO8_iiri nr 8 10 nrc nrn), (cAI g nrc 80 nrg)]) := by
  refine cV.of (by decide) (Nat.le_of_ble_eq_true rfl) ?_
  intro p e s m args below meth c A X hr hi
  refine k_lveq [(0, .ref h0), (1, .int p0), (2, .int p1)] rfl ?_
  refine k_aload_n X dX5_goBy_k0.1.1.1.1 0 rfl ?_
  refine k_get (ci := 5) X inlX5 rfl 0 (nlt_e rfl) dX5_goBy_k0.1.1.1.2 mw125 0 rfl rfl ?_
  refine k_iload_n X dX5_goBy_k0.1.1.2.1 1 rfl ?_
  refine k_iconst (v := 0) X dX5_goBy_k0.1.1.2.2 ic_0 ?_
  refine k_iload_n X dX5_goBy_k0.1.2.1.1 2 rfl ?_
  refine k_callVV (n := 3) (As := [.int p0, .int 0, .int p1]) (st := []) X [(cO8_iiri nr 8 10 nrc nrn), (cAI g nrc 80 nrf)] [(cO5_riiiiiiii h0 nr xsnapped xmostSlip xslip xisDrawn xseed xtick xmotorTick xahead)] [1, 2] [0] (t_put l g nr p0 0 p1 8 10 nrc nrn 80 nrf (tbk_8_10)) dX5_goBy_k0.1.2.1.2 mw766 mw326 mw327 mw64 mw328 rfl 8 rfl rfl 0 _ rfl yk_yX8_put_3 rfl (Nat.le_of_ble_eq_true rfl) (Nat.le_of_ble_eq_true rfl) (Nat.le_of_ble_eq_true rfl) (Nat.le_of_ble_eq_true rfl) (Nat.le_of_ble_eq_true rfl) rfl rfl (vnd_e rfl) rfl (vnd_e rfl) (dsj_e rfl) ?_
  rintro w ⟨fa_1, hr_3, rfl⟩
  refine k_ws [(cO5_riiiiiiii h0 nr xsnapped xmostSlip xslip xisDrawn xseed xtick xmotorTick xahead), (cO8_iiri nr 8 10 nrc nrn), (cAI g nrc 80 fa_1)] rfl ?_
  refine k_aload_n X dX5_goBy_k0.1.2.2.1 0 rfl ?_
  refine k_get (ci := 5) X inlX5 rfl 0 (nlt_e rfl) dX5_goBy_k0.1.2.2.2 mw125 0 rfl rfl ?_
  refine k_iload_n X dX5_goBy_k0.2.1.1.1 1 rfl ?_
  refine k_iconst (v := 1) X dX5_goBy_k0.2.1.1.2 ic_1 ?_
  refine k_iconst (v := 0) X dX5_goBy_k0.2.1.2.1 ic_0 ?_
  refine k_callVV (n := 3) (As := [.int p0, .int 1, .int 0]) (st := []) X [(cO8_iiri nr 8 10 nrc nrn), (cAI g nrc 80 fa_1)] [(cO5_riiiiiiii h0 nr xsnapped xmostSlip xslip xisDrawn xseed xtick xmotorTick xahead)] [1, 2] [0] (t_put l g nr p0 1 0 8 10 nrc nrn 80 fa_1 (tbk_8_10)) dX5_goBy_k0.2.1.2.2 mw766 mw326 mw327 mw64 mw328 rfl 8 rfl rfl 0 _ rfl yk_yX8_put_3 rfl (Nat.le_of_ble_eq_true rfl) (Nat.le_of_ble_eq_true rfl) (Nat.le_of_ble_eq_true rfl) (Nat.le_of_ble_eq_true rfl) (Nat.le_of_ble_eq_true rfl) rfl rfl (vnd_e rfl) rfl (vnd_e rfl) (dsj_e rfl) ?_
  rintro w ⟨fa_4, hr_6, rfl⟩
  refine k_ws [(cO5_riiiiiiii h0 nr xsnapped xmostSlip xslip xisDrawn xseed xtick xmotorTick xahead), (cO8_iiri nr 8 10 nrc nrn), (cAI g nrc 80 fa_4)] rfl ?_
  refine k_aload_n X dX5_goBy_k0.2.2.1.1 0 rfl ?_
  refine k_get (ci := 5) X inlX5 rfl 0 (nlt_e rfl) dX5_goBy_k0.2.2.1.2 mw125 0 rfl rfl ?_
  refine k_iload_n X dX5_goBy_k0.2.2.2.1 1 rfl ?_
  refine k_iconst (v := 2) X dX5_goBy_k0.2.2.2.2 ic_2 ?_
  refine k_iconst (v := 0) X dX5_goBy_k1.1.1.1.1 ic_0 ?_
  refine k_callVV (n := 3) (As := [.int p0, .int 2, .int 0]) (st := []) X [(cO8_iiri nr 8 10 nrc nrn), (cAI g nrc 80 fa_4)] [(cO5_riiiiiiii h0 nr xsnapped xmostSlip xslip xisDrawn xseed xtick xmotorTick xahead)] [1, 2] [0] (t_put l g nr p0 2 0 8 10 nrc nrn 80 fa_4 (tbk_8_10)) dX5_goBy_k1.1.1.1.2 mw766 mw326 mw327 mw64 mw328 rfl 8 rfl rfl 0 _ rfl yk_yX8_put_3 rfl (Nat.le_of_ble_eq_true rfl) (Nat.le_of_ble_eq_true rfl) (Nat.le_of_ble_eq_true rfl) (Nat.le_of_ble_eq_true rfl) (Nat.le_of_ble_eq_true rfl) rfl rfl (vnd_e rfl) rfl (vnd_e rfl) (dsj_e rfl) ?_
  rintro w ⟨fa_7, hr_9, rfl⟩
  refine k_ws [(cO5_riiiiiiii h0 nr xsnapped xmostSlip xslip xisDrawn xseed xtick xmotorTick xahead), (cO8_iiri nr 8 10 nrc nrn), (cAI g nrc 80 fa_7)] rfl ?_
  refine k_aload_n X dX5_goBy_k1.1.1.2.1 0 rfl ?_
  refine k_get (ci := 5) X inlX5 rfl 0 (nlt_e rfl) dX5_goBy_k1.1.1.2.2 mw125 0 rfl rfl ?_
  refine k_iload_n X dX5_goBy_k1.1.2.1.1 1 rfl ?_
  refine k_iconst (v := 3) X dX5_goBy_k1.1.2.1.2 ic_3 ?_
  refine k_iconst (v := 1) X dX5_goBy_k1.1.2.2.1 ic_1 ?_
  refine k_callVV (n := 3) (As := [.int p0, .int 3, .int 1]) (st := []) X [(cO8_iiri nr 8 10 nrc nrn), (cAI g nrc 80 fa_7)] [(cO5_riiiiiiii h0 nr xsnapped xmostSlip xslip xisDrawn xseed xtick xmotorTick xahead)] [1, 2] [0] (t_put l g nr p0 3 1 8 10 nrc nrn 80 fa_7 (tbk_8_10)) dX5_goBy_k1.1.2.2.2 mw766 mw326 mw327 mw64 mw328 rfl 8 rfl rfl 0 _ rfl yk_yX8_put_3 rfl (Nat.le_of_ble_eq_true rfl) (Nat.le_of_ble_eq_true rfl) (Nat.le_of_ble_eq_true rfl) (Nat.le_of_ble_eq_true rfl) (Nat.le_of_ble_eq_true rfl) rfl rfl (vnd_e rfl) rfl (vnd_e rfl) (dsj_e rfl) ?_
  rintro w ⟨fa_10, hr_12, rfl⟩
  refine k_ws [(cO5_riiiiiiii h0 nr xsnapped xmostSlip xslip xisDrawn xseed xtick xmotorTick xahead), (cO8_iiri nr 8 10 nrc nrn), (cAI g nrc 80 fa_10)] rfl ?_
  refine k_aload_n X dX5_goBy_k1.2.1.1.1 0 rfl ?_
  refine k_get (ci := 5) X inlX5 rfl 0 (nlt_e rfl) dX5_goBy_k1.2.1.1.2 mw125 0 rfl rfl ?_
  refine k_iload_n X dX5_goBy_k1.2.1.2.1 1 rfl ?_
  refine k_iconst (v := 4) X dX5_goBy_k1.2.1.2.2 ic_4 ?_
  refine k_bipush (v := -2) X dX5_goBy_k1.2.2.1.1 bi_m2 ?_
  refine k_callVV (n := 3) (As := [.int p0, .int 4, .int (-2)]) (st := []) X [(cO8_iiri nr 8 10 nrc nrn), (cAI g nrc 80 fa_10)] [(cO5_riiiiiiii h0 nr xsnapped xmostSlip xslip xisDrawn xseed xtick xmotorTick xahead)] [1, 2] [0] (t_put l g nr p0 4 ((-2)) 8 10 nrc nrn 80 fa_10 (tbk_8_10)) dX5_goBy_k1.2.2.1.2 mw766 mw326 mw327 mw64 mw328 rfl 8 rfl rfl 0 _ rfl yk_yX8_put_3 rfl (Nat.le_of_ble_eq_true rfl) (Nat.le_of_ble_eq_true rfl) (Nat.le_of_ble_eq_true rfl) (Nat.le_of_ble_eq_true rfl) (Nat.le_of_ble_eq_true rfl) rfl rfl (vnd_e rfl) rfl (vnd_e rfl) (dsj_e rfl) ?_
  rintro w ⟨fa_13, hr_15, rfl⟩
  refine k_ws [(cO5_riiiiiiii h0 nr xsnapped xmostSlip xslip xisDrawn xseed xtick xmotorTick xahead), (cO8_iiri nr 8 10 nrc nrn), (cAI g nrc 80 fa_13)] rfl ?_
  refine k_aload_n X dX5_goBy_k1.2.2.2.1 0 rfl ?_
  refine k_get (ci := 5) X inlX5 rfl 0 (nlt_e rfl) dX5_goBy_k1.2.2.2.2 mw125 0 rfl rfl ?_
  refine k_iload_n X dX5_goBy_k2.1.1.1.1 1 rfl ?_
  refine k_iconst (v := 5) X dX5_goBy_k2.1.1.1.2 ic_5 ?_
  refine k_iconst (v := 0) X dX5_goBy_k2.1.1.2.1 ic_0 ?_
  refine k_callVV (n := 3) (As := [.int p0, .int 5, .int 0]) (st := []) X [(cO8_iiri nr 8 10 nrc nrn), (cAI g nrc 80 fa_13)] [(cO5_riiiiiiii h0 nr xsnapped xmostSlip xslip xisDrawn xseed xtick xmotorTick xahead)] [1, 2] [0] (t_put l g nr p0 5 0 8 10 nrc nrn 80 fa_13 (tbk_8_10)) dX5_goBy_k2.1.1.2.2 mw766 mw326 mw327 mw64 mw328 rfl 8 rfl rfl 0 _ rfl yk_yX8_put_3 rfl (Nat.le_of_ble_eq_true rfl) (Nat.le_of_ble_eq_true rfl) (Nat.le_of_ble_eq_true rfl) (Nat.le_of_ble_eq_true rfl) (Nat.le_of_ble_eq_true rfl) rfl rfl (vnd_e rfl) rfl (vnd_e rfl) (dsj_e rfl) ?_
  rintro w ⟨fa_16, hr_18, rfl⟩
  refine k_ws [(cO5_riiiiiiii h0 nr xsnapped xmostSlip xslip xisDrawn xseed xtick xmotorTick xahead), (cO8_iiri nr 8 10 nrc nrn), (cAI g nrc 80 fa_16)] rfl ?_
  refine k_aload_n X dX5_goBy_k2.1.2.1.1 0 rfl ?_
  refine k_get (ci := 5) X inlX5 rfl 0 (nlt_e rfl) dX5_goBy_k2.1.2.1.2 mw125 0 rfl rfl ?_
  refine k_iload_n X dX5_goBy_k2.1.2.2.1 1 rfl ?_
  refine k_bipush (v := 6) X dX5_goBy_k2.1.2.2.2 bi_6 ?_
  refine k_aload_n X dX5_goBy_k2.2.1.1.1 0 rfl ?_
  refine k_get (ci := 5) X inlX5 rfl 6 (nlt_e rfl) dX5_goBy_k2.2.1.1.2 mw131 0 rfl rfl ?_
  refine k_callVV (n := 3) (As := [.int p0, .int 6, .int xtick]) (st := []) X [(cO8_iiri nr 8 10 nrc nrn), (cAI g nrc 80 fa_16)] [(cO5_riiiiiiii h0 nr xsnapped xmostSlip xslip xisDrawn xseed xtick xmotorTick xahead)] [1, 2] [0] (t_put l g nr p0 6 xtick 8 10 nrc nrn 80 fa_16 (tbk_8_10)) dX5_goBy_k2.2.1.2.1 mw766 mw326 mw327 mw64 mw328 rfl 8 rfl rfl 0 _ rfl yk_yX8_put_3 rfl (Nat.le_of_ble_eq_true rfl) (Nat.le_of_ble_eq_true rfl) (Nat.le_of_ble_eq_true rfl) (Nat.le_of_ble_eq_true rfl) (Nat.le_of_ble_eq_true rfl) rfl rfl (vnd_e rfl) rfl (vnd_e rfl) (dsj_e rfl) ?_
  rintro w ⟨fa_19, hr_21, rfl⟩
  refine k_ws [(cO5_riiiiiiii h0 nr xsnapped xmostSlip xslip xisDrawn xseed xtick xmotorTick xahead), (cO8_iiri nr 8 10 nrc nrn), (cAI g nrc 80 fa_19)] rfl ?_
  refine k_aload_n X dX5_goBy_k2.2.1.2.2 0 rfl ?_
  refine k_get (ci := 5) X inlX5 rfl 0 (nlt_e rfl) dX5_goBy_k2.2.2.1.1 mw125 0 rfl rfl ?_
  refine k_iload_n X dX5_goBy_k2.2.2.1.2 1 rfl ?_
  refine k_bipush (v := 7) X dX5_goBy_k2.2.2.2.1 bi_7 ?_
  refine k_aload_n X dX5_goBy_k2.2.2.2.2 0 rfl ?_
  refine k_get (ci := 5) X inlX5 rfl 6 (nlt_e rfl) dX5_goBy_k3.1.1.1 mw131 0 rfl rfl ?_
  refine k_callVV (n := 3) (As := [.int p0, .int 7, .int xtick]) (st := []) X [(cO8_iiri nr 8 10 nrc nrn), (cAI g nrc 80 fa_19)] [(cO5_riiiiiiii h0 nr xsnapped xmostSlip xslip xisDrawn xseed xtick xmotorTick xahead)] [1, 2] [0] (t_put l g nr p0 7 xtick 8 10 nrc nrn 80 fa_19 (tbk_8_10)) dX5_goBy_k3.1.1.2 mw766 mw326 mw327 mw64 mw328 rfl 8 rfl rfl 0 _ rfl yk_yX8_put_3 rfl (Nat.le_of_ble_eq_true rfl) (Nat.le_of_ble_eq_true rfl) (Nat.le_of_ble_eq_true rfl) (Nat.le_of_ble_eq_true rfl) (Nat.le_of_ble_eq_true rfl) rfl rfl (vnd_e rfl) rfl (vnd_e rfl) (dsj_e rfl) ?_
  rintro w ⟨fa_22, hr_24, rfl⟩
  refine k_ws [(cO5_riiiiiiii h0 nr xsnapped xmostSlip xslip xisDrawn xseed xtick xmotorTick xahead), (cO8_iiri nr 8 10 nrc nrn), (cAI g nrc 80 fa_22)] rfl ?_
  refine k_aload_n X dX5_goBy_k3.1.2.1 0 rfl ?_
  refine k_aload_n X dX5_goBy_k3.1.2.2.1 0 rfl ?_
  refine k_get (ci := 5) X inlX5 rfl 6 (nlt_e rfl) dX5_goBy_k3.1.2.2.2 mw131 0 rfl rfl ?_
  refine k_put (ci := 5) [(cO5_riiiiiiii h0 nr xsnapped xmostSlip xslip xisDrawn xseed xtick xtick xahead), (cO8_iiri nr 8 10 nrc nrn), (cAI g nrc 80 fa_22)] X inlX5 rfl tyX5_ok nmX5 7 (nlt_e rfl) rfl dX5_goBy_k3.2.1.1 mw132 0 rfl rfl rfl (Nat.le_of_ble_eq_true rfl) rfl ?_
  refine k_aload_n X dX5_goBy_k3.2.1.2 0 rfl ?_
  refine k_iconst (v := 0) X dX5_goBy_k3.2.2.1 ic_0 ?_
  refine k_put (ci := 5) [(cO5_riiiiiiii h0 nr xsnapped xmostSlip xslip xisDrawn xseed xtick xtick 0), (cO8_iiri nr 8 10 nrc nrn), (cAI g nrc 80 fa_22)] X inlX5 rfl tyX5_ok nmX5 8 (nlt_e rfl) rfl dX5_goBy_k3.2.2.2.1 mw133 0 rfl rfl rfl (Nat.le_of_ble_eq_true rfl) rfl ?_
  exact k_vret X hr dX5_goBy_k3.2.2.2.2 (Nat.le_of_ble_eq_true rfl) (Nat.le_of_ble_eq_true rfl) [0, 1, 2] (vnd_e rfl) rfl rfl ⟨xtick, 0, fa_22, ⟨fa_1, hr_3, ⟨fa_4, hr_6, ⟨fa_7, hr_9, ⟨fa_10, hr_12, ⟨fa_13, hr_15, ⟨fa_16, hr_18, ⟨fa_19, hr_21, ⟨fa_22, hr_24, ⟨rfl, rfl, rfl⟩⟩⟩⟩⟩⟩⟩⟩⟩, rfl⟩


set_option maxHeartbeats 4000000 in
set_option maxRecDepth 100000 in
theorem n_slipNowX (l : Launch) (g : Gx) (h0 : Nat) (nr : Nat) (xsnapped : Int32) (xmostSlip : Int32) (xslip : Int32) (xisDrawn : Int32) (xseed : Int32) (xtick : Int32) (xmotorTick : Int32) (xahead : Int32) (hr_0 : ¬ xmostSlip < 0) : cI l g yX5_slipNow cX5_slipNow 1 (some .int) 1 20 0 0 [.ref h0] [(cO5_riiiiiiii h0 nr xsnapped xmostSlip xslip xisDrawn xseed xtick xmotorTick xahead)] (fun r w => ∃ (xseed2 : Int32), (R_n_slipNowX xmostSlip xslip xisDrawn xseed xseed2 r) ∧ w = [(cO5_riiiiiiii h0 nr xsnapped xmostSlip xslip xisDrawn xseed2 xtick xmotorTick xahead)]) := by
  refine cI.of (by decide) (Nat.le_of_ble_eq_true rfl) ?_
  intro p e s m args below meth c A X hr hi
  refine k_lveq [(0, .ref h0)] rfl ?_
  refine k_aload_n X dX5_slipNow_k0.1.1.1 0 rfl ?_
  refine k_get (ci := 5) X inlX5 rfl 4 (nlt_e rfl) dX5_slipNow_k0.1.1.2.1 mw129 0 rfl rfl ?_
  refine k_if_eq 21 X dX5_slipNow_k0.1.1.2.2 (jp_e rfl) (fun h_1 => ?_) (fun h_1 => ?_)
  · skip
    have iv_2 : IV xisDrawn 0 0 := iv_meet (iv_any xisDrawn) (iv_e h_1 iq_0_0_0) (zle_o rfl) (zle_o rfl)
    refine k_aload_n X dX5_slipNow_k0.2.2.1.2 0 rfl ?_
    refine k_get (ci := 5) X inlX5 rfl 3 (nlt_e rfl) dX5_slipNow_k0.2.2.2.1 mw128 0 rfl rfl ?_
    exact k_iret X hr dX5_slipNow_k0.2.2.2.2 (Nat.le_of_ble_eq_true rfl) (Nat.le_of_ble_eq_true rfl) [0] (vnd_e rfl) rfl rfl ⟨xseed, (Or.inl ⟨h_1, ⟨rfl, rfl⟩⟩), rfl⟩
  · skip
    refine k_aload_n X dX5_slipNow_k0.1.2.1.1 0 rfl ?_
    refine k_callVI (n := 0) (As := []) (st := []) X [(cO5_riiiiiiii h0 nr xsnapped xmostSlip xslip xisDrawn xseed xtick xmotorTick xahead)] [] [0] [] (n_drawX l g h0 nr xsnapped xmostSlip xslip xisDrawn xseed xtick xmotorTick xahead) dX5_slipNow_k0.1.2.1.2 mw791 mw792 mw793 mw31 mw794 rfl 5 rfl rfl 0 _ rfl yk_yX5_draw_0 rfl (Nat.le_of_ble_eq_true rfl) (Nat.le_of_ble_eq_true rfl) (Nat.le_of_ble_eq_true rfl) (Nat.le_of_ble_eq_true rfl) (Nat.le_of_ble_eq_true rfl) rfl rfl (vnd_e rfl) rfl (vnd_e rfl) (dsj_e rfl) ?_
    rintro r_4 w ⟨xseed2_3, hq_5, rfl⟩
    refine k_ws [(cO5_riiiiiiii h0 nr xsnapped xmostSlip xslip xisDrawn xseed2_3 xtick xmotorTick xahead)] rfl ?_
    refine k_aload_n X dX5_slipNow_k0.1.2.2.1 0 rfl ?_
    refine k_get (ci := 5) X inlX5 rfl 2 (nlt_e rfl) dX5_slipNow_k0.1.2.2.2 mw127 0 rfl rfl ?_
    refine k_iconst (v := 1) X dX5_slipNow_k0.2.1.1 ic_1 ?_
    refine k_iadd X dX5_slipNow_k0.2.1.2.1 ?_
    refine k_nm (fun z_6 ez_6 => ?_)
    refine k_irem X dX5_slipNow_k0.2.1.2.2 (nz_ms hr_0 (by assumption)) ?_
    refine k_nm (fun z_8 ez_8 => ?_)
    refine k_goto 25 X dX5_slipNow_k0.2.2.1.1 (jp_e rfl) ?_
    exact k_iret X hr dX5_slipNow_k0.2.2.2.2 (Nat.le_of_ble_eq_true rfl) (Nat.le_of_ble_eq_true rfl) [0] (vnd_e rfl) rfl rfl ⟨xseed2_3, (Or.inr ⟨h_1, ⟨xseed2_3, r_4, hq_5, ⟨z_6, ez_6, ⟨z_8, ez_8, ⟨rfl, rfl⟩⟩⟩⟩⟩), rfl⟩


set_option maxHeartbeats 4000000 in
set_option maxRecDepth 100000 in
theorem n_showReelX (l : Launch) (g : Gx) (h0 : Nat) (hh : Nat) (hs : Nat) (p0 : Int32) (p1 : Int32) (nr : Nat) (xsnapped : Int32) (xmostSlip : Int32) (xslip : Int32) (xisDrawn : Int32) (xseed : Int32) (xtick : Int32) (xmotorTick : Int32) (xahead : Int32) (nrc : Nat) (nrn : Int32) (nrf : Nat → Int32) (v0hh : Value) (yhn : Nat) (v2hh : Value) (v3hh : Value) (v4hh : Value) (v5hh : Value) (v6hh : Value) (v7hh : Value) (yhnc : Nat) (yhnn : Int32) (yhnf : Nat → Int32) (v0hs : Value) (v1hs : Value) (v2hs : Value) (zp : Nat) (zmd : Int32) (ztr : Int32) (zpc : Nat) (zpn : Int32) (zpf : Nat → Int32) (hr_0 : ¬ xmostSlip < 0) : cV l g yX5_showReel cX5_showReel 11 2 43 0 0 [.ref h0, .ref hh, .ref hs, .int p0, .int p1] [(cO5_riiiiiiii h0 nr xsnapped xmostSlip xslip xisDrawn xseed xtick xmotorTick xahead), (cO8_iiri nr 8 10 nrc nrn), (cAI g nrc 80 nrf), (cO3_vrvvvvvv hh v0hh yhn v2hh v3hh v4hh v5hh v6hh v7hh), (cO8_iiri yhn 1 6 yhnc yhnn), (cAI g yhnc 6 yhnf), (cO7_vvvrii hs v0hs v1hs v2hs zp zmd ztr), (cO8_iiri zp 8 2 zpc zpn), (cAI g zpc 16 zpf)] (fun w => ∃ (xseed2 : Int32) (xtick2 : Int32) (xmotorTick2 : Int32) (xahead2 : Int32) (nrg : Nat → Int32), (R_n_showReelX p0 p1 xmostSlip xslip xisDrawn xseed xtick xmotorTick xahead nrn nrf yhnf zpf xseed2 xtick2 xmotorTick2 xahead2 nrg) ∧ w = [(cO5_riiiiiiii h0 nr xsnapped xmostSlip xslip xisDrawn xseed2 xtick2 xmotorTick2 xahead2), (cO8_iiri nr 8 10 nrc nrn), (cAI g nrc 80 nrg), (cO3_vrvvvvvv hh v0hh yhn v2hh v3hh v4hh v5hh v6hh v7hh), (cO8_iiri yhn 1 6 yhnc yhnn), (cAI g yhnc 6 yhnf), (cO7_vvvrii hs v0hs v1hs v2hs zp zmd ztr), (cO8_iiri zp 8 2 zpc zpn), (cAI g zpc 16 zpf)]) := by
  refine cV.of (by decide) (Nat.le_of_ble_eq_true rfl) ?_
  intro p e s m args below meth c A X hr hi
  refine k_lveq [(0, .ref h0), (1, .ref hh), (2, .ref hs), (3, .int p0), (4, .int p1)] rfl ?_
  refine k_aload_n X dX5_showReel_k0.1.1.1.1 0 rfl ?_
  refine k_get (ci := 5) X inlX5 rfl 8 (nlt_e rfl) dX5_showReel_k0.1.1.1.2 mw133 0 rfl rfl ?_
  refine k_iconst (v := 0) X dX5_showReel_k0.1.1.2.1 ic_0 ?_
  refine k_mmax X dX5_showReel_k0.1.1.2.2 mw756 mw102 mw103 mw104 (Nat.le_of_ble_eq_true rfl) (Nat.le_of_ble_eq_true rfl) (Nat.zero_le _) (Nat.zero_le _) ?_
  refine k_nm (fun z_1 ez_1 => ?_)
  refine k_istore [(5, .int z_1), (0, .ref h0), (1, .ref hh), (2, .ref hs), (3, .int p0), (4, .int p1)] X dX5_showReel_k0.1.2.1.1 (nlt_e rfl) rfl ?_
  refine k_aload_n X dX5_showReel_k0.1.2.1.2 1 rfl ?_
  refine k_get (ci := 5) X inlX5 rfl 8 (nlt_e rfl) dX5_showReel_k0.1.2.2.1 mw133 0 rfl rfl ?_
  refine k_ineg X dX5_showReel_k0.1.2.2.2 ?_
  refine k_nm (fun z_2 ez_2 => ?_)
  refine k_iconst (v := 0) X dX5_showReel_k0.2.1.1.1 ic_0 ?_
  refine k_mmax X dX5_showReel_k0.2.1.1.2 mw756 mw102 mw103 mw104 (Nat.le_of_ble_eq_true rfl) (Nat.le_of_ble_eq_true rfl) (Nat.zero_le _) (Nat.zero_le _) ?_
  refine k_nm (fun z_3 ez_3 => ?_)
  refine k_istore [(6, .int z_3), (5, .int z_1), (0, .ref h0), (1, .ref hh), (2, .ref hs), (3, .int p0), (4, .int p1)] X dX5_showReel_k0.2.1.2.1 (nlt_e rfl) rfl ?_
  refine k_aload_n X dX5_showReel_k0.2.1.2.2 2 rfl ?_
  refine k_get (ci := 5) X inlX5 rfl 6 (nlt_e rfl) dX5_showReel_k0.2.2.1.1 mw131 0 rfl rfl ?_
  refine k_iload X dX5_showReel_k0.2.2.1.2 0 rfl ?_
  refine k_iadd X dX5_showReel_k0.2.2.2.1 ?_
  refine k_nm (fun z_4 ez_4 => ?_)
  refine k_istore [(7, .int z_4), (6, .int z_3), (5, .int z_1), (0, .ref h0), (1, .ref hh), (2, .ref hs), (3, .int p0), (4, .int p1)] X dX5_showReel_k0.2.2.2.2 (nlt_e rfl) rfl ?_
  refine k_bipush (v := -2) X dX5_showReel_k1.1.1.1.1 bi_m2 ?_
  refine k_istore [(8, .int (-2)), (7, .int z_4), (6, .int z_3), (5, .int z_1), (0, .ref h0), (1, .ref hh), (2, .ref hs), (3, .int p0), (4, .int p1)] X dX5_showReel_k1.1.1.1.2 (nlt_e rfl) rfl ?_
  refine k_iload X dX5_showReel_k1.1.1.2.1 8 rfl ?_
  refine k_istore [(9, .int p1), (8, .int (-2)), (7, .int z_4), (6, .int z_3), (5, .int z_1), (0, .ref h0), (1, .ref hh), (2, .ref hs), (3, .int p0), (4, .int p1)] X dX5_showReel_k1.1.1.2.2 (nlt_e rfl) rfl ?_
  refine k_iload_n X dX5_showReel_k1.1.2.1.1 8 rfl ?_
  refine k_aload_n X dX5_showReel_k1.1.2.1.2 5 rfl ?_
  refine k_get (ci := 5) X inlX5 rfl 0 (nlt_e rfl) dX5_showReel_k1.1.2.2.1 mw125 0 rfl rfl ?_
  refine k_get (ci := 8) X inlX8 rfl 3 (nlt_e rfl) dX5_showReel_k1.1.2.2.2 mw754 1 rfl rfl ?_
  refine k_iconst (v := 1) X dX5_showReel_k1.2.1.1.1 ic_1 ?_
  refine k_isub X dX5_showReel_k1.2.1.1.2 ?_
  refine k_nm (fun z_6 ez_6 => ?_)
  refine k_ic_ge 138 X dX5_showReel_k1.2.1.2.1 (jp_e rfl) (fun h_8 => ?_) (fun h_8 => ?_)
  · skip
    have j_9 : z_6.toInt ≤ p0.toInt := iv_le h_8
    refine k_aload_n X dX5_showReel_k4.2.2.1.1 5 rfl ?_
    refine k_iload X dX5_showReel_k4.2.2.1.2 2 rfl ?_
    refine k_iload X dX5_showReel_k4.2.2.2.1 0 rfl ?_
    refine k_iadd X dX5_showReel_k4.2.2.2.2 ?_
    refine k_nm (fun z_10 ez_10 => ?_)
    refine k_iload X dX5_showReel_k5.1.1.1.1 4 rfl ?_
    refine k_isub X dX5_showReel_k5.1.1.1.2 ?_
    refine k_nm (fun z_12 ez_12 => ?_)
    refine k_put (ci := 5) [(cO5_riiiiiiii h0 nr xsnapped xmostSlip xslip xisDrawn xseed z_12 xmotorTick xahead), (cO8_iiri nr 8 10 nrc nrn), (cAI g nrc 80 nrf), (cO3_vrvvvvvv hh v0hh yhn v2hh v3hh v4hh v5hh v6hh v7hh), (cO8_iiri yhn 1 6 yhnc yhnn), (cAI g yhnc 6 yhnf), (cO7_vvvrii hs v0hs v1hs v2hs zp zmd ztr), (cO8_iiri zp 8 2 zpc zpn), (cAI g zpc 16 zpf)] X inlX5 rfl tyX5_ok nmX5 6 (nlt_e rfl) rfl dX5_showReel_k5.1.1.2.1 mw131 0 rfl rfl rfl (Nat.le_of_ble_eq_true rfl) rfl ?_
    refine k_aload_n X dX5_showReel_k5.1.1.2.2 5 rfl ?_
    refine k_get (ci := 5) X inlX5 rfl 0 (nlt_e rfl) dX5_showReel_k5.1.2.1.1 mw125 0 rfl rfl ?_
    refine k_iload_n X dX5_showReel_k5.1.2.1.2 8 rfl ?_
    refine k_iconst (v := 0) X dX5_showReel_k5.1.2.2.1 ic_0 ?_
    refine k_iload X dX5_showReel_k5.1.2.2.2 4 rfl ?_
    refine k_callVV (n := 3) (As := [.int p0, .int 0, .int z_1]) (st := []) X [(cO8_iiri nr 8 10 nrc nrn), (cAI g nrc 80 nrf)] [(cO5_riiiiiiii h0 nr xsnapped xmostSlip xslip xisDrawn xseed z_12 xmotorTick xahead), (cO3_vrvvvvvv hh v0hh yhn v2hh v3hh v4hh v5hh v6hh v7hh), (cO8_iiri yhn 1 6 yhnc yhnn), (cAI g yhnc 6 yhnf), (cO7_vvvrii hs v0hs v1hs v2hs zp zmd ztr), (cO8_iiri zp 8 2 zpc zpn), (cAI g zpc 16 zpf)] [1, 2] [0, 3, 4, 5, 6, 7, 8] (t_put l g nr p0 0 z_1 8 10 nrc nrn 80 nrf (tbk_8_10)) dX5_showReel_k5.2.1.1.1 mw766 mw326 mw327 mw64 mw328 rfl 8 rfl rfl 0 _ rfl yk_yX8_put_3 rfl (Nat.le_of_ble_eq_true rfl) (Nat.le_of_ble_eq_true rfl) (Nat.le_of_ble_eq_true rfl) (Nat.le_of_ble_eq_true rfl) (Nat.le_of_ble_eq_true rfl) rfl rfl (vnd_e rfl) rfl (vnd_e rfl) (dsj_e rfl) ?_
    rintro w ⟨fa_14, hr_16, rfl⟩
    refine k_ws [(cO5_riiiiiiii h0 nr xsnapped xmostSlip xslip xisDrawn xseed z_12 xmotorTick xahead), (cO3_vrvvvvvv hh v0hh yhn v2hh v3hh v4hh v5hh v6hh v7hh), (cO8_iiri yhn 1 6 yhnc yhnn), (cAI g yhnc 6 yhnf), (cO7_vvvrii hs v0hs v1hs v2hs zp zmd ztr), (cO8_iiri zp 8 2 zpc zpn), (cAI g zpc 16 zpf), (cO8_iiri nr 8 10 nrc nrn), (cAI g nrc 80 fa_14)] rfl ?_
    refine k_aload_n X dX5_showReel_k5.2.1.1.2 5 rfl ?_
    refine k_get (ci := 5) X inlX5 rfl 0 (nlt_e rfl) dX5_showReel_k5.2.1.2.1 mw125 0 rfl rfl ?_
    refine k_iload_n X dX5_showReel_k5.2.1.2.2 8 rfl ?_
    refine k_iconst (v := 1) X dX5_showReel_k5.2.2.1.1 ic_1 ?_
    refine k_iload X dX5_showReel_k5.2.2.1.2 3 rfl ?_
    refine k_callVV (n := 3) (As := [.int p0, .int 1, .int z_3]) (st := []) X [(cO8_iiri nr 8 10 nrc nrn), (cAI g nrc 80 fa_14)] [(cO5_riiiiiiii h0 nr xsnapped xmostSlip xslip xisDrawn xseed z_12 xmotorTick xahead), (cO3_vrvvvvvv hh v0hh yhn v2hh v3hh v4hh v5hh v6hh v7hh), (cO8_iiri yhn 1 6 yhnc yhnn), (cAI g yhnc 6 yhnf), (cO7_vvvrii hs v0hs v1hs v2hs zp zmd ztr), (cO8_iiri zp 8 2 zpc zpn), (cAI g zpc 16 zpf)] [7, 8] [0, 1, 2, 3, 4, 5, 6] (t_put l g nr p0 1 z_3 8 10 nrc nrn 80 fa_14 (tbk_8_10)) dX5_showReel_k5.2.2.2.1 mw766 mw326 mw327 mw64 mw328 rfl 8 rfl rfl 0 _ rfl yk_yX8_put_3 rfl (Nat.le_of_ble_eq_true rfl) (Nat.le_of_ble_eq_true rfl) (Nat.le_of_ble_eq_true rfl) (Nat.le_of_ble_eq_true rfl) (Nat.le_of_ble_eq_true rfl) rfl rfl (vnd_e rfl) rfl (vnd_e rfl) (dsj_e rfl) ?_
    rintro w ⟨fa_17, hr_19, rfl⟩
    refine k_ws [(cO5_riiiiiiii h0 nr xsnapped xmostSlip xslip xisDrawn xseed z_12 xmotorTick xahead), (cO3_vrvvvvvv hh v0hh yhn v2hh v3hh v4hh v5hh v6hh v7hh), (cO8_iiri yhn 1 6 yhnc yhnn), (cAI g yhnc 6 yhnf), (cO7_vvvrii hs v0hs v1hs v2hs zp zmd ztr), (cO8_iiri zp 8 2 zpc zpn), (cAI g zpc 16 zpf), (cO8_iiri nr 8 10 nrc nrn), (cAI g nrc 80 fa_17)] rfl ?_
    refine k_aload_n X dX5_showReel_k5.2.2.2.2 5 rfl ?_
    refine k_get (ci := 5) X inlX5 rfl 0 (nlt_e rfl) dX5_showReel_k6.1.1.1.1 mw125 0 rfl rfl ?_
    refine k_iload_n X dX5_showReel_k6.1.1.1.2 8 rfl ?_
    refine k_iconst (v := 2) X dX5_showReel_k6.1.1.2.1 ic_2 ?_
    refine k_iload X dX5_showReel_k6.1.1.2.2 9 rfl ?_
    refine k_iload X dX5_showReel_k6.1.2.1.1 0 rfl ?_
    refine k_isub X dX5_showReel_k6.1.2.1.2 ?_
    refine k_nm (fun z_20 ez_20 => ?_)
    refine k_callVV (n := 3) (As := [.int p0, .int 2, .int z_20]) (st := []) X [(cO8_iiri nr 8 10 nrc nrn), (cAI g nrc 80 fa_17)] [(cO5_riiiiiiii h0 nr xsnapped xmostSlip xslip xisDrawn xseed z_12 xmotorTick xahead), (cO3_vrvvvvvv hh v0hh yhn v2hh v3hh v4hh v5hh v6hh v7hh), (cO8_iiri yhn 1 6 yhnc yhnn), (cAI g yhnc 6 yhnf), (cO7_vvvrii hs v0hs v1hs v2hs zp zmd ztr), (cO8_iiri zp 8 2 zpc zpn), (cAI g zpc 16 zpf)] [7, 8] [0, 1, 2, 3, 4, 5, 6] (t_put l g nr p0 2 z_20 8 10 nrc nrn 80 fa_17 (tbk_8_10)) dX5_showReel_k6.1.2.2.1 mw766 mw326 mw327 mw64 mw328 rfl 8 rfl rfl 0 _ rfl yk_yX8_put_3 rfl (Nat.le_of_ble_eq_true rfl) (Nat.le_of_ble_eq_true rfl) (Nat.le_of_ble_eq_true rfl) (Nat.le_of_ble_eq_true rfl) (Nat.le_of_ble_eq_true rfl) rfl rfl (vnd_e rfl) rfl (vnd_e rfl) (dsj_e rfl) ?_
    rintro w ⟨fa_22, hr_24, rfl⟩
    refine k_ws [(cO5_riiiiiiii h0 nr xsnapped xmostSlip xslip xisDrawn xseed z_12 xmotorTick xahead), (cO3_vrvvvvvv hh v0hh yhn v2hh v3hh v4hh v5hh v6hh v7hh), (cO8_iiri yhn 1 6 yhnc yhnn), (cAI g yhnc 6 yhnf), (cO7_vvvrii hs v0hs v1hs v2hs zp zmd ztr), (cO8_iiri zp 8 2 zpc zpn), (cAI g zpc 16 zpf), (cO8_iiri nr 8 10 nrc nrn), (cAI g nrc 80 fa_22)] rfl ?_
    refine k_aload_n X dX5_showReel_k6.1.2.2.2 5 rfl ?_
    refine k_get (ci := 5) X inlX5 rfl 0 (nlt_e rfl) dX5_showReel_k6.2.1.1.1 mw125 0 rfl rfl ?_
    refine k_iload_n X dX5_showReel_k6.2.1.1.2 8 rfl ?_
    refine k_iconst (v := 3) X dX5_showReel_k6.2.1.2.1 ic_3 ?_
    refine k_iconst (v := 0) X dX5_showReel_k6.2.1.2.2 ic_0 ?_
    refine k_callVV (n := 3) (As := [.int p0, .int 3, .int 0]) (st := []) X [(cO8_iiri nr 8 10 nrc nrn), (cAI g nrc 80 fa_22)] [(cO5_riiiiiiii h0 nr xsnapped xmostSlip xslip xisDrawn xseed z_12 xmotorTick xahead), (cO3_vrvvvvvv hh v0hh yhn v2hh v3hh v4hh v5hh v6hh v7hh), (cO8_iiri yhn 1 6 yhnc yhnn), (cAI g yhnc 6 yhnf), (cO7_vvvrii hs v0hs v1hs v2hs zp zmd ztr), (cO8_iiri zp 8 2 zpc zpn), (cAI g zpc 16 zpf)] [7, 8] [0, 1, 2, 3, 4, 5, 6] (t_put l g nr p0 3 0 8 10 nrc nrn 80 fa_22 (tbk_8_10)) dX5_showReel_k6.2.2.1.1 mw766 mw326 mw327 mw64 mw328 rfl 8 rfl rfl 0 _ rfl yk_yX8_put_3 rfl (Nat.le_of_ble_eq_true rfl) (Nat.le_of_ble_eq_true rfl) (Nat.le_of_ble_eq_true rfl) (Nat.le_of_ble_eq_true rfl) (Nat.le_of_ble_eq_true rfl) rfl rfl (vnd_e rfl) rfl (vnd_e rfl) (dsj_e rfl) ?_
    rintro w ⟨fa_25, hr_27, rfl⟩
    refine k_ws [(cO5_riiiiiiii h0 nr xsnapped xmostSlip xslip xisDrawn xseed z_12 xmotorTick xahead), (cO3_vrvvvvvv hh v0hh yhn v2hh v3hh v4hh v5hh v6hh v7hh), (cO8_iiri yhn 1 6 yhnc yhnn), (cAI g yhnc 6 yhnf), (cO7_vvvrii hs v0hs v1hs v2hs zp zmd ztr), (cO8_iiri zp 8 2 zpc zpn), (cAI g zpc 16 zpf), (cO8_iiri nr 8 10 nrc nrn), (cAI g nrc 80 fa_25)] rfl ?_
    refine k_aload_n X dX5_showReel_k6.2.2.1.2 5 rfl ?_
    refine k_get (ci := 5) X inlX5 rfl 0 (nlt_e rfl) dX5_showReel_k6.2.2.2.1 mw125 0 rfl rfl ?_
    refine k_iload_n X dX5_showReel_k6.2.2.2.2 8 rfl ?_
    refine k_iconst (v := 4) X dX5_showReel_k7.1.1.1.1 ic_4 ?_
    refine k_iload X dX5_showReel_k7.1.1.1.2 1 rfl ?_
    refine k_callVV (n := 3) (As := [.int p0, .int 4, .int (-2)]) (st := []) X [(cO8_iiri nr 8 10 nrc nrn), (cAI g nrc 80 fa_25)] [(cO5_riiiiiiii h0 nr xsnapped xmostSlip xslip xisDrawn xseed z_12 xmotorTick xahead), (cO3_vrvvvvvv hh v0hh yhn v2hh v3hh v4hh v5hh v6hh v7hh), (cO8_iiri yhn 1 6 yhnc yhnn), (cAI g yhnc 6 yhnf), (cO7_vvvrii hs v0hs v1hs v2hs zp zmd ztr), (cO8_iiri zp 8 2 zpc zpn), (cAI g zpc 16 zpf)] [7, 8] [0, 1, 2, 3, 4, 5, 6] (t_put l g nr p0 4 ((-2)) 8 10 nrc nrn 80 fa_25 (tbk_8_10)) dX5_showReel_k7.1.1.2.1 mw766 mw326 mw327 mw64 mw328 rfl 8 rfl rfl 0 _ rfl yk_yX8_put_3 rfl (Nat.le_of_ble_eq_true rfl) (Nat.le_of_ble_eq_true rfl) (Nat.le_of_ble_eq_true rfl) (Nat.le_of_ble_eq_true rfl) (Nat.le_of_ble_eq_true rfl) rfl rfl (vnd_e rfl) rfl (vnd_e rfl) (dsj_e rfl) ?_
    rintro w ⟨fa_28, hr_30, rfl⟩
    refine k_ws [(cO5_riiiiiiii h0 nr xsnapped xmostSlip xslip xisDrawn xseed z_12 xmotorTick xahead), (cO3_vrvvvvvv hh v0hh yhn v2hh v3hh v4hh v5hh v6hh v7hh), (cO8_iiri yhn 1 6 yhnc yhnn), (cAI g yhnc 6 yhnf), (cO7_vvvrii hs v0hs v1hs v2hs zp zmd ztr), (cO8_iiri zp 8 2 zpc zpn), (cAI g zpc 16 zpf), (cO8_iiri nr 8 10 nrc nrn), (cAI g nrc 80 fa_28)] rfl ?_
    refine k_aload_n X dX5_showReel_k7.1.1.2.2 5 rfl ?_
    refine k_get (ci := 5) X inlX5 rfl 0 (nlt_e rfl) dX5_showReel_k7.1.2.1.1 mw125 0 rfl rfl ?_
    refine k_iload_n X dX5_showReel_k7.1.2.1.2 8 rfl ?_
    refine k_iconst (v := 5) X dX5_showReel_k7.1.2.2.1 ic_5 ?_
    refine k_iload X dX5_showReel_k7.1.2.2.2 0 rfl ?_
    refine k_callVV (n := 3) (As := [.int p0, .int 5, .int p1]) (st := []) X [(cO8_iiri nr 8 10 nrc nrn), (cAI g nrc 80 fa_28)] [(cO5_riiiiiiii h0 nr xsnapped xmostSlip xslip xisDrawn xseed z_12 xmotorTick xahead), (cO3_vrvvvvvv hh v0hh yhn v2hh v3hh v4hh v5hh v6hh v7hh), (cO8_iiri yhn 1 6 yhnc yhnn), (cAI g yhnc 6 yhnf), (cO7_vvvrii hs v0hs v1hs v2hs zp zmd ztr), (cO8_iiri zp 8 2 zpc zpn), (cAI g zpc 16 zpf)] [7, 8] [0, 1, 2, 3, 4, 5, 6] (t_put l g nr p0 5 p1 8 10 nrc nrn 80 fa_28 (tbk_8_10)) dX5_showReel_k7.2.1.1.1 mw766 mw326 mw327 mw64 mw328 rfl 8 rfl rfl 0 _ rfl yk_yX8_put_3 rfl (Nat.le_of_ble_eq_true rfl) (Nat.le_of_ble_eq_true rfl) (Nat.le_of_ble_eq_true rfl) (Nat.le_of_ble_eq_true rfl) (Nat.le_of_ble_eq_true rfl) rfl rfl (vnd_e rfl) rfl (vnd_e rfl) (dsj_e rfl) ?_
    rintro w ⟨fa_31, hr_33, rfl⟩
    refine k_ws [(cO5_riiiiiiii h0 nr xsnapped xmostSlip xslip xisDrawn xseed z_12 xmotorTick xahead), (cO3_vrvvvvvv hh v0hh yhn v2hh v3hh v4hh v5hh v6hh v7hh), (cO8_iiri yhn 1 6 yhnc yhnn), (cAI g yhnc 6 yhnf), (cO7_vvvrii hs v0hs v1hs v2hs zp zmd ztr), (cO8_iiri zp 8 2 zpc zpn), (cAI g zpc 16 zpf), (cO8_iiri nr 8 10 nrc nrn), (cAI g nrc 80 fa_31)] rfl ?_
    refine k_aload_n X dX5_showReel_k7.2.1.1.2 5 rfl ?_
    refine k_get (ci := 5) X inlX5 rfl 0 (nlt_e rfl) dX5_showReel_k7.2.1.2.1 mw125 0 rfl rfl ?_
    refine k_iload_n X dX5_showReel_k7.2.1.2.2 8 rfl ?_
    refine k_bipush (v := 6) X dX5_showReel_k7.2.2.1.1 bi_6 ?_
    refine k_iload X dX5_showReel_k7.2.2.1.2 2 rfl ?_
    refine k_callVV (n := 3) (As := [.int p0, .int 6, .int z_4]) (st := []) X [(cO8_iiri nr 8 10 nrc nrn), (cAI g nrc 80 fa_31)] [(cO5_riiiiiiii h0 nr xsnapped xmostSlip xslip xisDrawn xseed z_12 xmotorTick xahead), (cO3_vrvvvvvv hh v0hh yhn v2hh v3hh v4hh v5hh v6hh v7hh), (cO8_iiri yhn 1 6 yhnc yhnn), (cAI g yhnc 6 yhnf), (cO7_vvvrii hs v0hs v1hs v2hs zp zmd ztr), (cO8_iiri zp 8 2 zpc zpn), (cAI g zpc 16 zpf)] [7, 8] [0, 1, 2, 3, 4, 5, 6] (t_put l g nr p0 6 z_4 8 10 nrc nrn 80 fa_31 (tbk_8_10)) dX5_showReel_k7.2.2.2.1 mw766 mw326 mw327 mw64 mw328 rfl 8 rfl rfl 0 _ rfl yk_yX8_put_3 rfl (Nat.le_of_ble_eq_true rfl) (Nat.le_of_ble_eq_true rfl) (Nat.le_of_ble_eq_true rfl) (Nat.le_of_ble_eq_true rfl) (Nat.le_of_ble_eq_true rfl) rfl rfl (vnd_e rfl) rfl (vnd_e rfl) (dsj_e rfl) ?_
    rintro w ⟨fa_34, hr_36, rfl⟩
    refine k_ws [(cO5_riiiiiiii h0 nr xsnapped xmostSlip xslip xisDrawn xseed z_12 xmotorTick xahead), (cO3_vrvvvvvv hh v0hh yhn v2hh v3hh v4hh v5hh v6hh v7hh), (cO8_iiri yhn 1 6 yhnc yhnn), (cAI g yhnc 6 yhnf), (cO7_vvvrii hs v0hs v1hs v2hs zp zmd ztr), (cO8_iiri zp 8 2 zpc zpn), (cAI g zpc 16 zpf), (cO8_iiri nr 8 10 nrc nrn), (cAI g nrc 80 fa_34)] rfl ?_
    refine k_aload_n X dX5_showReel_k7.2.2.2.2 5 rfl ?_
    refine k_get (ci := 5) X inlX5 rfl 0 (nlt_e rfl) dX5_showReel_k8.1.1 mw125 0 rfl rfl ?_
    refine k_iload_n X dX5_showReel_k8.1.2.1 8 rfl ?_
    refine k_bipush (v := 7) X dX5_showReel_k8.1.2.2 bi_7 ?_
    refine k_aload_n X dX5_showReel_k8.2.1.1 5 rfl ?_
    refine k_get (ci := 5) X inlX5 rfl 6 (nlt_e rfl) dX5_showReel_k8.2.1.2 mw131 0 rfl rfl ?_
    refine k_callVV (n := 3) (As := [.int p0, .int 7, .int z_12]) (st := []) X [(cO8_iiri nr 8 10 nrc nrn), (cAI g nrc 80 fa_34)] [(cO5_riiiiiiii h0 nr xsnapped xmostSlip xslip xisDrawn xseed z_12 xmotorTick xahead), (cO3_vrvvvvvv hh v0hh yhn v2hh v3hh v4hh v5hh v6hh v7hh), (cO8_iiri yhn 1 6 yhnc yhnn), (cAI g yhnc 6 yhnf), (cO7_vvvrii hs v0hs v1hs v2hs zp zmd ztr), (cO8_iiri zp 8 2 zpc zpn), (cAI g zpc 16 zpf)] [7, 8] [0, 1, 2, 3, 4, 5, 6] (t_put l g nr p0 7 z_12 8 10 nrc nrn 80 fa_34 (tbk_8_10)) dX5_showReel_k8.2.2.1 mw766 mw326 mw327 mw64 mw328 rfl 8 rfl rfl 0 _ rfl yk_yX8_put_3 rfl (Nat.le_of_ble_eq_true rfl) (Nat.le_of_ble_eq_true rfl) (Nat.le_of_ble_eq_true rfl) (Nat.le_of_ble_eq_true rfl) (Nat.le_of_ble_eq_true rfl) rfl rfl (vnd_e rfl) rfl (vnd_e rfl) (dsj_e rfl) ?_
    rintro w ⟨fa_37, hr_39, rfl⟩
    refine k_ws [(cO5_riiiiiiii h0 nr xsnapped xmostSlip xslip xisDrawn xseed z_12 xmotorTick xahead), (cO3_vrvvvvvv hh v0hh yhn v2hh v3hh v4hh v5hh v6hh v7hh), (cO8_iiri yhn 1 6 yhnc yhnn), (cAI g yhnc 6 yhnf), (cO7_vvvrii hs v0hs v1hs v2hs zp zmd ztr), (cO8_iiri zp 8 2 zpc zpn), (cAI g zpc 16 zpf), (cO8_iiri nr 8 10 nrc nrn), (cAI g nrc 80 fa_37)] rfl ?_
    exact k_vret X hr dX5_showReel_k8.2.2.2 (Nat.le_of_ble_eq_true rfl) (Nat.le_of_ble_eq_true rfl) [0, 7, 8, 1, 2, 3, 4, 5, 6] (vnd_e rfl) rfl rfl (exI5 xseed z_12 xmotorTick xahead fa_37 ⟨⟨z_1, ez_1, ⟨z_2, ez_2, ⟨z_3, ez_3, ⟨z_4, ez_4, ⟨z_6, ez_6, (Or.inl ⟨h_8, ⟨z_10, ez_10, ⟨z_12, ez_12, ⟨fa_14, hr_16, ⟨fa_17, hr_19, ⟨z_20, ez_20, ⟨fa_22, hr_24, ⟨fa_25, hr_27, ⟨fa_28, hr_30, ⟨fa_31, hr_33, ⟨fa_34, hr_36, ⟨fa_37, hr_39, ⟨rfl, rfl, rfl, rfl, rfl⟩⟩⟩⟩⟩⟩⟩⟩⟩⟩⟩⟩⟩)⟩⟩⟩⟩⟩, rfl⟩)
  · skip
    have j_40 : p0.toInt < z_6.toInt := iv_nle h_8
    have iv_41 : IV p0 (-2147483648) 2147483646 := iv_ltL (iv_nle h_8) (iv_any p0) (iv_any z_6) (zle_e rfl)
    have iv_42 : IV z_6 (-2147483647) 2147483647 := iv_ltR (iv_nle h_8) (iv_any p0) (iv_any z_6) (zle_e rfl)
    refine k_aload_n X dX5_showReel_k1.2.1.2.2 5 rfl ?_
    refine k_get (ci := 5) X inlX5 rfl 0 (nlt_e rfl) dX5_showReel_k1.2.2.1.1 mw125 0 rfl rfl ?_
    refine k_iload_n X dX5_showReel_k1.2.2.1.2 8 rfl ?_
    refine k_bipush (v := 9) X dX5_showReel_k1.2.2.2.1 bi_9 ?_
    refine k_callVI (n := 2) (As := [.int p0, .int 9]) (st := []) X [(cO8_iiri nr 8 10 nrc nrn), (cAI g nrc 80 nrf)] [(cO5_riiiiiiii h0 nr xsnapped xmostSlip xslip xisDrawn xseed xtick xmotorTick xahead), (cO3_vrvvvvvv hh v0hh yhn v2hh v3hh v4hh v5hh v6hh v7hh), (cO8_iiri yhn 1 6 yhnc yhnn), (cAI g yhnc 6 yhnf), (cO7_vvvrii hs v0hs v1hs v2hs zp zmd ztr), (cO8_iiri zp 8 2 zpc zpn), (cAI g zpc 16 zpf)] [1, 2] [0, 3, 4, 5, 6, 7, 8] (t_at l g nr p0 9 8 10 nrc nrn 80 nrf (tbk_8_10)) dX5_showReel_k1.2.2.2.2 mw757 mw376 mw377 mw64 mw378 rfl 8 rfl rfl 0 _ rfl yk_yX8_at_2 rfl (Nat.le_of_ble_eq_true rfl) (Nat.le_of_ble_eq_true rfl) (Nat.le_of_ble_eq_true rfl) (Nat.le_of_ble_eq_true rfl) (Nat.le_of_ble_eq_true rfl) rfl rfl (vnd_e rfl) rfl (vnd_e rfl) (dsj_e rfl) ?_
    rintro r_43 w ⟨hr_44, rfl⟩
    refine k_ws [(cO5_riiiiiiii h0 nr xsnapped xmostSlip xslip xisDrawn xseed xtick xmotorTick xahead), (cO3_vrvvvvvv hh v0hh yhn v2hh v3hh v4hh v5hh v6hh v7hh), (cO8_iiri yhn 1 6 yhnc yhnn), (cAI g yhnc 6 yhnf), (cO7_vvvrii hs v0hs v1hs v2hs zp zmd ztr), (cO8_iiri zp 8 2 zpc zpn), (cAI g zpc 16 zpf), (cO8_iiri nr 8 10 nrc nrn), (cAI g nrc 80 nrf)] rfl ?_
    refine k_aload_n X dX5_showReel_k2.1.1.1.1 5 rfl ?_
    refine k_callVI (n := 0) (As := []) (st := [.int r_43]) X [(cO5_riiiiiiii h0 nr xsnapped xmostSlip xslip xisDrawn xseed xtick xmotorTick xahead)] [(cO3_vrvvvvvv hh v0hh yhn v2hh v3hh v4hh v5hh v6hh v7hh), (cO8_iiri yhn 1 6 yhnc yhnn), (cAI g yhnc 6 yhnf), (cO7_vvvrii hs v0hs v1hs v2hs zp zmd ztr), (cO8_iiri zp 8 2 zpc zpn), (cAI g zpc 16 zpf), (cO8_iiri nr 8 10 nrc nrn), (cAI g nrc 80 nrf)] [0] [1, 2, 3, 4, 5, 6, 7, 8] (n_slipNowX l g h0 nr xsnapped xmostSlip xslip xisDrawn xseed xtick xmotorTick xahead (by assumption)) dX5_showReel_k2.1.1.1.2 mw787 mw788 mw789 mw31 mw790 rfl 5 rfl rfl 0 _ rfl yk_yX5_slipNow_0 rfl (Nat.le_of_ble_eq_true rfl) (Nat.le_of_ble_eq_true rfl) (Nat.le_of_ble_eq_true rfl) (Nat.le_of_ble_eq_true rfl) (Nat.le_of_ble_eq_true rfl) rfl rfl (vnd_e rfl) rfl (vnd_e rfl) (dsj_e rfl) ?_
    rintro r_46 w ⟨xseed2_45, hq_47, rfl⟩
    refine k_ws [(cO3_vrvvvvvv hh v0hh yhn v2hh v3hh v4hh v5hh v6hh v7hh), (cO8_iiri yhn 1 6 yhnc yhnn), (cAI g yhnc 6 yhnf), (cO7_vvvrii hs v0hs v1hs v2hs zp zmd ztr), (cO8_iiri zp 8 2 zpc zpn), (cAI g zpc 16 zpf), (cO8_iiri nr 8 10 nrc nrn), (cAI g nrc 80 nrf), (cO5_riiiiiiii h0 nr xsnapped xmostSlip xslip xisDrawn xseed2_45 xtick xmotorTick xahead)] rfl ?_
    refine k_iadd X dX5_showReel_k2.1.1.2.1 ?_
    refine k_nm (fun z_48 ez_48 => ?_)
    refine k_istore [(10, .int z_48), (9, .int p1), (8, .int (-2)), (7, .int z_4), (6, .int z_3), (5, .int z_1), (0, .ref h0), (1, .ref hh), (2, .ref hs), (3, .int p0), (4, .int p1)] X dX5_showReel_k2.1.1.2.2 (nlt_e rfl) rfl ?_
    refine k_iload X dX5_showReel_k2.1.2.1.1 5 rfl ?_
    refine k_iload X dX5_showReel_k2.1.2.1.2 0 rfl ?_
    refine k_iload X dX5_showReel_k2.1.2.2.1 10 rfl ?_
    refine k_iconst (v := 1) X dX5_showReel_k2.1.2.2.2 ic_1 ?_
    refine k_isub X dX5_showReel_k2.2.1.1.1 ?_
    refine k_nm (fun z_50 ez_50 => ?_)
    refine k_mmin X dX5_showReel_k2.2.1.1.2 mw784 mw785 mw103 mw786 (Nat.le_of_ble_eq_true rfl) (Nat.le_of_ble_eq_true rfl) (Nat.zero_le _) (Nat.zero_le _) ?_
    refine k_nm (fun z_52 ez_52 => ?_)
    refine k_mmax X dX5_showReel_k2.2.1.2.1 mw756 mw102 mw103 mw104 (Nat.le_of_ble_eq_true rfl) (Nat.le_of_ble_eq_true rfl) (Nat.zero_le _) (Nat.zero_le _) ?_
    refine k_nm (fun z_53 ez_53 => ?_)
    refine k_istore [(8, .int z_53), (10, .int z_48), (9, .int p1), (7, .int z_4), (6, .int z_3), (5, .int z_1), (0, .ref h0), (1, .ref hh), (2, .ref hs), (3, .int p0), (4, .int p1)] X dX5_showReel_k2.2.1.2.2 (nlt_e rfl) rfl ?_
    refine k_iload X dX5_showReel_k2.2.2.1.1 0 rfl ?_
    refine k_aload_n X dX5_showReel_k2.2.2.1.2 7 rfl ?_
    refine k_iconst (v := 0) X dX5_showReel_k2.2.2.2.1 ic_0 ?_
    refine k_callVI (n := 1) (As := [.int 0]) (st := [.int z_53]) X [(cO3_vrvvvvvv hh v0hh yhn v2hh v3hh v4hh v5hh v6hh v7hh), (cO8_iiri yhn 1 6 yhnc yhnn), (cAI g yhnc 6 yhnf)] [(cO7_vvvrii hs v0hs v1hs v2hs zp zmd ztr), (cO8_iiri zp 8 2 zpc zpn), (cAI g zpc 16 zpf), (cO8_iiri nr 8 10 nrc nrn), (cAI g nrc 80 nrf), (cO5_riiiiiiii h0 nr xsnapped xmostSlip xslip xisDrawn xseed2_45 xtick xmotorTick xahead)] [0, 1, 2] [3, 4, 5, 6, 7, 8] (h_numberX l g hh 0 v0hh yhn v2hh v3hh v4hh v5hh v6hh v7hh yhnc yhnn yhnf) dX5_showReel_k2.2.2.2.2 mw796 mw415 mw416 mw19 mw417 rfl 3 rfl rfl 0 _ rfl yk_yX3_number_1 rfl (Nat.le_of_ble_eq_true rfl) (Nat.le_of_ble_eq_true rfl) (Nat.le_of_ble_eq_true rfl) (Nat.le_of_ble_eq_true rfl) (Nat.le_of_ble_eq_true rfl) rfl rfl (vnd_e rfl) rfl (vnd_e rfl) (dsj_e rfl) ?_
    rintro r_54 w ⟨hq_55, rfl⟩
    refine k_ws [(cO7_vvvrii hs v0hs v1hs v2hs zp zmd ztr), (cO8_iiri zp 8 2 zpc zpn), (cAI g zpc 16 zpf), (cO8_iiri nr 8 10 nrc nrn), (cAI g nrc 80 nrf), (cO5_riiiiiiii h0 nr xsnapped xmostSlip xslip xisDrawn xseed2_45 xtick xmotorTick xahead), (cO3_vrvvvvvv hh v0hh yhn v2hh v3hh v4hh v5hh v6hh v7hh), (cO8_iiri yhn 1 6 yhnc yhnn), (cAI g yhnc 6 yhnf)] rfl ?_
    refine k_iadd X dX5_showReel_k3.1.1.1.1 ?_
    refine k_nm (fun z_56 ez_56 => ?_)
    refine k_iload X dX5_showReel_k3.1.1.1.2 10 rfl ?_
    refine k_mmin X dX5_showReel_k3.1.1.2.1 mw784 mw785 mw103 mw786 (Nat.le_of_ble_eq_true rfl) (Nat.le_of_ble_eq_true rfl) (Nat.zero_le _) (Nat.zero_le _) ?_
    refine k_nm (fun z_58 ez_58 => ?_)
    refine k_istore [(9, .int z_58), (8, .int z_53), (10, .int z_48), (7, .int z_4), (6, .int z_3), (5, .int z_1), (0, .ref h0), (1, .ref hh), (2, .ref hs), (3, .int p0), (4, .int p1)] X dX5_showReel_k3.1.1.2.2 (nlt_e rfl) rfl ?_
    refine k_aload_n X dX5_showReel_k3.1.2.1.1 6 rfl ?_
    refine k_iload X dX5_showReel_k3.1.2.1.2 3 rfl ?_
    refine k_iload X dX5_showReel_k3.1.2.2.1 1 rfl ?_
    refine k_iadd X dX5_showReel_k3.1.2.2.2 ?_
    refine k_nm (fun z_59 ez_59 => ?_)
    refine k_iload X dX5_showReel_k3.2.1.1.1 5 rfl ?_
    refine k_isub X dX5_showReel_k3.2.1.1.2 ?_
    refine k_nm (fun z_61 ez_61 => ?_)
    refine k_put (ci := 5) [(cO7_vvvrii hs v0hs v1hs v2hs zp zmd ztr), (cO8_iiri zp 8 2 zpc zpn), (cAI g zpc 16 zpf), (cO8_iiri nr 8 10 nrc nrn), (cAI g nrc 80 nrf), (cO5_riiiiiiii h0 nr xsnapped xmostSlip xslip xisDrawn xseed2_45 xtick z_61 xahead), (cO3_vrvvvvvv hh v0hh yhn v2hh v3hh v4hh v5hh v6hh v7hh), (cO8_iiri yhn 1 6 yhnc yhnn), (cAI g yhnc 6 yhnf)] X inlX5 rfl tyX5_ok nmX5 7 (nlt_e rfl) rfl dX5_showReel_k3.2.1.2.1 mw132 5 rfl rfl rfl (Nat.le_of_ble_eq_true rfl) rfl ?_
    refine k_aload_n X dX5_showReel_k3.2.1.2.2 6 rfl ?_
    refine k_iload X dX5_showReel_k3.2.2.1.1 0 rfl ?_
    refine k_iload X dX5_showReel_k3.2.2.1.2 1 rfl ?_
    refine k_isub X dX5_showReel_k3.2.2.2.1 ?_
    refine k_nm (fun z_63 ez_63 => ?_)
    refine k_aload_n X dX5_showReel_k3.2.2.2.2 7 rfl ?_
    refine k_iconst (v := 1) X dX5_showReel_k4.1.1.1.1 ic_1 ?_
    refine k_callVI (n := 1) (As := [.int 1]) (st := [.int z_63, .ref h0]) X [(cO3_vrvvvvvv hh v0hh yhn v2hh v3hh v4hh v5hh v6hh v7hh), (cO8_iiri yhn 1 6 yhnc yhnn), (cAI g yhnc 6 yhnf)] [(cO7_vvvrii hs v0hs v1hs v2hs zp zmd ztr), (cO8_iiri zp 8 2 zpc zpn), (cAI g zpc 16 zpf), (cO8_iiri nr 8 10 nrc nrn), (cAI g nrc 80 nrf), (cO5_riiiiiiii h0 nr xsnapped xmostSlip xslip xisDrawn xseed2_45 xtick z_61 xahead)] [6, 7, 8] [0, 1, 2, 3, 4, 5] (h_numberX l g hh 1 v0hh yhn v2hh v3hh v4hh v5hh v6hh v7hh yhnc yhnn yhnf) dX5_showReel_k4.1.1.1.2 mw796 mw415 mw416 mw19 mw417 rfl 3 rfl rfl 0 _ rfl yk_yX3_number_1 rfl (Nat.le_of_ble_eq_true rfl) (Nat.le_of_ble_eq_true rfl) (Nat.le_of_ble_eq_true rfl) (Nat.le_of_ble_eq_true rfl) (Nat.le_of_ble_eq_true rfl) rfl rfl (vnd_e rfl) rfl (vnd_e rfl) (dsj_e rfl) ?_
    rintro r_65 w ⟨hq_66, rfl⟩
    refine k_ws [(cO7_vvvrii hs v0hs v1hs v2hs zp zmd ztr), (cO8_iiri zp 8 2 zpc zpn), (cAI g zpc 16 zpf), (cO8_iiri nr 8 10 nrc nrn), (cAI g nrc 80 nrf), (cO5_riiiiiiii h0 nr xsnapped xmostSlip xslip xisDrawn xseed2_45 xtick z_61 xahead), (cO3_vrvvvvvv hh v0hh yhn v2hh v3hh v4hh v5hh v6hh v7hh), (cO8_iiri yhn 1 6 yhnc yhnn), (cAI g yhnc 6 yhnf)] rfl ?_
    refine k_isub X dX5_showReel_k4.1.1.2.1 ?_
    refine k_nm (fun z_67 ez_67 => ?_)
    refine k_aload_n X dX5_showReel_k4.1.1.2.2 8 rfl ?_
    refine k_get (ci := 7) X inlX7 rfl 3 (nlt_e rfl) dX5_showReel_k4.1.2.1.1 mw753 0 rfl rfl ?_
    refine k_iload_n X dX5_showReel_k4.1.2.1.2 9 rfl ?_
    refine k_iconst (v := 1) X dX5_showReel_k4.1.2.2.1 ic_1 ?_
    refine k_iadd X dX5_showReel_k4.1.2.2.2 ?_
    refine k_nm (fun z_69 ez_69 => ?_)
    have i_70 : z_69.toInt = p0.toInt + 1 := in_add ez_69 iv_41 iq_1_1_1 (zle_e rfl) (zle_e rfl)
    have iv_71 : IV z_69 (-2147483647) 2147483647 := iz1 i_70 iv_41 (zle_e rfl) (zle_e rfl)
    refine k_iconst (v := 1) X dX5_showReel_k4.2.1.1.1 ic_1 ?_
    refine k_callVI (n := 2) (As := [.int z_69, .int 1]) (st := [.int z_67, .ref h0]) X [(cO8_iiri zp 8 2 zpc zpn), (cAI g zpc 16 zpf)] [(cO7_vvvrii hs v0hs v1hs v2hs zp zmd ztr), (cO8_iiri nr 8 10 nrc nrn), (cAI g nrc 80 nrf), (cO5_riiiiiiii h0 nr xsnapped xmostSlip xslip xisDrawn xseed2_45 xtick z_61 xahead), (cO3_vrvvvvvv hh v0hh yhn v2hh v3hh v4hh v5hh v6hh v7hh), (cO8_iiri yhn 1 6 yhnc yhnn), (cAI g yhnc 6 yhnf)] [1, 2] [0, 3, 4, 5, 6, 7, 8] (t_at l g zp z_69 1 8 2 zpc zpn 16 zpf (tbk_8_2)) dX5_showReel_k4.2.1.1.2 mw757 mw376 mw377 mw64 mw378 rfl 8 rfl rfl 0 _ rfl yk_yX8_at_2 rfl (Nat.le_of_ble_eq_true rfl) (Nat.le_of_ble_eq_true rfl) (Nat.le_of_ble_eq_true rfl) (Nat.le_of_ble_eq_true rfl) (Nat.le_of_ble_eq_true rfl) rfl rfl (vnd_e rfl) rfl (vnd_e rfl) (dsj_e rfl) ?_
    rintro r_72 w ⟨hr_73, rfl⟩
    refine k_ws [(cO7_vvvrii hs v0hs v1hs v2hs zp zmd ztr), (cO8_iiri nr 8 10 nrc nrn), (cAI g nrc 80 nrf), (cO5_riiiiiiii h0 nr xsnapped xmostSlip xslip xisDrawn xseed2_45 xtick z_61 xahead), (cO3_vrvvvvvv hh v0hh yhn v2hh v3hh v4hh v5hh v6hh v7hh), (cO8_iiri yhn 1 6 yhnc yhnn), (cAI g yhnc 6 yhnf), (cO8_iiri zp 8 2 zpc zpn), (cAI g zpc 16 zpf)] rfl ?_
    refine k_isub X dX5_showReel_k4.2.1.2.1 ?_
    refine k_nm (fun z_74 ez_74 => ?_)
    refine k_put (ci := 5) [(cO7_vvvrii hs v0hs v1hs v2hs zp zmd ztr), (cO8_iiri nr 8 10 nrc nrn), (cAI g nrc 80 nrf), (cO5_riiiiiiii h0 nr xsnapped xmostSlip xslip xisDrawn xseed2_45 xtick z_61 z_74), (cO3_vrvvvvvv hh v0hh yhn v2hh v3hh v4hh v5hh v6hh v7hh), (cO8_iiri yhn 1 6 yhnc yhnn), (cAI g yhnc 6 yhnf), (cO8_iiri zp 8 2 zpc zpn), (cAI g zpc 16 zpf)] X inlX5 rfl tyX5_ok nmX5 8 (nlt_e rfl) rfl dX5_showReel_k4.2.1.2.2 mw133 3 rfl rfl rfl (Nat.le_of_ble_eq_true rfl) rfl ?_
    refine k_aload_n X dX5_showReel_k4.2.2.1.1 6 rfl ?_
    refine k_iload X dX5_showReel_k4.2.2.1.2 3 rfl ?_
    refine k_iload X dX5_showReel_k4.2.2.2.1 0 rfl ?_
    refine k_iadd X dX5_showReel_k4.2.2.2.2 ?_
    refine k_nm (fun z_76 ez_76 => ?_)
    refine k_iload X dX5_showReel_k5.1.1.1.1 5 rfl ?_
    refine k_isub X dX5_showReel_k5.1.1.1.2 ?_
    refine k_nm (fun z_78 ez_78 => ?_)
    refine k_put (ci := 5) [(cO7_vvvrii hs v0hs v1hs v2hs zp zmd ztr), (cO8_iiri nr 8 10 nrc nrn), (cAI g nrc 80 nrf), (cO5_riiiiiiii h0 nr xsnapped xmostSlip xslip xisDrawn xseed2_45 z_78 z_61 z_74), (cO3_vrvvvvvv hh v0hh yhn v2hh v3hh v4hh v5hh v6hh v7hh), (cO8_iiri yhn 1 6 yhnc yhnn), (cAI g yhnc 6 yhnf), (cO8_iiri zp 8 2 zpc zpn), (cAI g zpc 16 zpf)] X inlX5 rfl tyX5_ok nmX5 6 (nlt_e rfl) rfl dX5_showReel_k5.1.1.2.1 mw131 3 rfl rfl rfl (Nat.le_of_ble_eq_true rfl) rfl ?_
    refine k_aload_n X dX5_showReel_k5.1.1.2.2 6 rfl ?_
    refine k_get (ci := 5) X inlX5 rfl 0 (nlt_e rfl) dX5_showReel_k5.1.2.1.1 mw125 3 rfl rfl ?_
    refine k_iload_n X dX5_showReel_k5.1.2.1.2 9 rfl ?_
    refine k_iconst (v := 0) X dX5_showReel_k5.1.2.2.1 ic_0 ?_
    refine k_iload X dX5_showReel_k5.1.2.2.2 5 rfl ?_
    refine k_callVV (n := 3) (As := [.int p0, .int 0, .int z_1]) (st := []) X [(cO8_iiri nr 8 10 nrc nrn), (cAI g nrc 80 nrf)] [(cO7_vvvrii hs v0hs v1hs v2hs zp zmd ztr), (cO5_riiiiiiii h0 nr xsnapped xmostSlip xslip xisDrawn xseed2_45 z_78 z_61 z_74), (cO3_vrvvvvvv hh v0hh yhn v2hh v3hh v4hh v5hh v6hh v7hh), (cO8_iiri yhn 1 6 yhnc yhnn), (cAI g yhnc 6 yhnf), (cO8_iiri zp 8 2 zpc zpn), (cAI g zpc 16 zpf)] [1, 2] [0, 3, 4, 5, 6, 7, 8] (t_put l g nr p0 0 z_1 8 10 nrc nrn 80 nrf (tbk_8_10)) dX5_showReel_k5.2.1.1.1 mw766 mw326 mw327 mw64 mw328 rfl 8 rfl rfl 0 _ rfl yk_yX8_put_3 rfl (Nat.le_of_ble_eq_true rfl) (Nat.le_of_ble_eq_true rfl) (Nat.le_of_ble_eq_true rfl) (Nat.le_of_ble_eq_true rfl) (Nat.le_of_ble_eq_true rfl) rfl rfl (vnd_e rfl) rfl (vnd_e rfl) (dsj_e rfl) ?_
    rintro w ⟨fa_80, hr_82, rfl⟩
    refine k_ws [(cO7_vvvrii hs v0hs v1hs v2hs zp zmd ztr), (cO5_riiiiiiii h0 nr xsnapped xmostSlip xslip xisDrawn xseed2_45 z_78 z_61 z_74), (cO3_vrvvvvvv hh v0hh yhn v2hh v3hh v4hh v5hh v6hh v7hh), (cO8_iiri yhn 1 6 yhnc yhnn), (cAI g yhnc 6 yhnf), (cO8_iiri zp 8 2 zpc zpn), (cAI g zpc 16 zpf), (cO8_iiri nr 8 10 nrc nrn), (cAI g nrc 80 fa_80)] rfl ?_
    refine k_aload_n X dX5_showReel_k5.2.1.1.2 6 rfl ?_
    refine k_get (ci := 5) X inlX5 rfl 0 (nlt_e rfl) dX5_showReel_k5.2.1.2.1 mw125 1 rfl rfl ?_
    refine k_iload_n X dX5_showReel_k5.2.1.2.2 9 rfl ?_
    refine k_iconst (v := 1) X dX5_showReel_k5.2.2.1.1 ic_1 ?_
    refine k_iload X dX5_showReel_k5.2.2.1.2 4 rfl ?_
    refine k_callVV (n := 3) (As := [.int p0, .int 1, .int z_3]) (st := []) X [(cO8_iiri nr 8 10 nrc nrn), (cAI g nrc 80 fa_80)] [(cO7_vvvrii hs v0hs v1hs v2hs zp zmd ztr), (cO5_riiiiiiii h0 nr xsnapped xmostSlip xslip xisDrawn xseed2_45 z_78 z_61 z_74), (cO3_vrvvvvvv hh v0hh yhn v2hh v3hh v4hh v5hh v6hh v7hh), (cO8_iiri yhn 1 6 yhnc yhnn), (cAI g yhnc 6 yhnf), (cO8_iiri zp 8 2 zpc zpn), (cAI g zpc 16 zpf)] [7, 8] [0, 1, 2, 3, 4, 5, 6] (t_put l g nr p0 1 z_3 8 10 nrc nrn 80 fa_80 (tbk_8_10)) dX5_showReel_k5.2.2.2.1 mw766 mw326 mw327 mw64 mw328 rfl 8 rfl rfl 0 _ rfl yk_yX8_put_3 rfl (Nat.le_of_ble_eq_true rfl) (Nat.le_of_ble_eq_true rfl) (Nat.le_of_ble_eq_true rfl) (Nat.le_of_ble_eq_true rfl) (Nat.le_of_ble_eq_true rfl) rfl rfl (vnd_e rfl) rfl (vnd_e rfl) (dsj_e rfl) ?_
    rintro w ⟨fa_83, hr_85, rfl⟩
    refine k_ws [(cO7_vvvrii hs v0hs v1hs v2hs zp zmd ztr), (cO5_riiiiiiii h0 nr xsnapped xmostSlip xslip xisDrawn xseed2_45 z_78 z_61 z_74), (cO3_vrvvvvvv hh v0hh yhn v2hh v3hh v4hh v5hh v6hh v7hh), (cO8_iiri yhn 1 6 yhnc yhnn), (cAI g yhnc 6 yhnf), (cO8_iiri zp 8 2 zpc zpn), (cAI g zpc 16 zpf), (cO8_iiri nr 8 10 nrc nrn), (cAI g nrc 80 fa_83)] rfl ?_
    refine k_aload_n X dX5_showReel_k5.2.2.2.2 6 rfl ?_
    refine k_get (ci := 5) X inlX5 rfl 0 (nlt_e rfl) dX5_showReel_k6.1.1.1.1 mw125 1 rfl rfl ?_
    refine k_iload_n X dX5_showReel_k6.1.1.1.2 9 rfl ?_
    refine k_iconst (v := 2) X dX5_showReel_k6.1.1.2.1 ic_2 ?_
    refine k_iload X dX5_showReel_k6.1.1.2.2 10 rfl ?_
    refine k_iload X dX5_showReel_k6.1.2.1.1 0 rfl ?_
    refine k_isub X dX5_showReel_k6.1.2.1.2 ?_
    refine k_nm (fun z_86 ez_86 => ?_)
    refine k_callVV (n := 3) (As := [.int p0, .int 2, .int z_86]) (st := []) X [(cO8_iiri nr 8 10 nrc nrn), (cAI g nrc 80 fa_83)] [(cO7_vvvrii hs v0hs v1hs v2hs zp zmd ztr), (cO5_riiiiiiii h0 nr xsnapped xmostSlip xslip xisDrawn xseed2_45 z_78 z_61 z_74), (cO3_vrvvvvvv hh v0hh yhn v2hh v3hh v4hh v5hh v6hh v7hh), (cO8_iiri yhn 1 6 yhnc yhnn), (cAI g yhnc 6 yhnf), (cO8_iiri zp 8 2 zpc zpn), (cAI g zpc 16 zpf)] [7, 8] [0, 1, 2, 3, 4, 5, 6] (t_put l g nr p0 2 z_86 8 10 nrc nrn 80 fa_83 (tbk_8_10)) dX5_showReel_k6.1.2.2.1 mw766 mw326 mw327 mw64 mw328 rfl 8 rfl rfl 0 _ rfl yk_yX8_put_3 rfl (Nat.le_of_ble_eq_true rfl) (Nat.le_of_ble_eq_true rfl) (Nat.le_of_ble_eq_true rfl) (Nat.le_of_ble_eq_true rfl) (Nat.le_of_ble_eq_true rfl) rfl rfl (vnd_e rfl) rfl (vnd_e rfl) (dsj_e rfl) ?_
    rintro w ⟨fa_88, hr_90, rfl⟩
    refine k_ws [(cO7_vvvrii hs v0hs v1hs v2hs zp zmd ztr), (cO5_riiiiiiii h0 nr xsnapped xmostSlip xslip xisDrawn xseed2_45 z_78 z_61 z_74), (cO3_vrvvvvvv hh v0hh yhn v2hh v3hh v4hh v5hh v6hh v7hh), (cO8_iiri yhn 1 6 yhnc yhnn), (cAI g yhnc 6 yhnf), (cO8_iiri zp 8 2 zpc zpn), (cAI g zpc 16 zpf), (cO8_iiri nr 8 10 nrc nrn), (cAI g nrc 80 fa_88)] rfl ?_
    refine k_aload_n X dX5_showReel_k6.1.2.2.2 6 rfl ?_
    refine k_get (ci := 5) X inlX5 rfl 0 (nlt_e rfl) dX5_showReel_k6.2.1.1.1 mw125 1 rfl rfl ?_
    refine k_iload_n X dX5_showReel_k6.2.1.1.2 9 rfl ?_
    refine k_iconst (v := 3) X dX5_showReel_k6.2.1.2.1 ic_3 ?_
    refine k_iconst (v := 0) X dX5_showReel_k6.2.1.2.2 ic_0 ?_
    refine k_callVV (n := 3) (As := [.int p0, .int 3, .int 0]) (st := []) X [(cO8_iiri nr 8 10 nrc nrn), (cAI g nrc 80 fa_88)] [(cO7_vvvrii hs v0hs v1hs v2hs zp zmd ztr), (cO5_riiiiiiii h0 nr xsnapped xmostSlip xslip xisDrawn xseed2_45 z_78 z_61 z_74), (cO3_vrvvvvvv hh v0hh yhn v2hh v3hh v4hh v5hh v6hh v7hh), (cO8_iiri yhn 1 6 yhnc yhnn), (cAI g yhnc 6 yhnf), (cO8_iiri zp 8 2 zpc zpn), (cAI g zpc 16 zpf)] [7, 8] [0, 1, 2, 3, 4, 5, 6] (t_put l g nr p0 3 0 8 10 nrc nrn 80 fa_88 (tbk_8_10)) dX5_showReel_k6.2.2.1.1 mw766 mw326 mw327 mw64 mw328 rfl 8 rfl rfl 0 _ rfl yk_yX8_put_3 rfl (Nat.le_of_ble_eq_true rfl) (Nat.le_of_ble_eq_true rfl) (Nat.le_of_ble_eq_true rfl) (Nat.le_of_ble_eq_true rfl) (Nat.le_of_ble_eq_true rfl) rfl rfl (vnd_e rfl) rfl (vnd_e rfl) (dsj_e rfl) ?_
    rintro w ⟨fa_91, hr_93, rfl⟩
    refine k_ws [(cO7_vvvrii hs v0hs v1hs v2hs zp zmd ztr), (cO5_riiiiiiii h0 nr xsnapped xmostSlip xslip xisDrawn xseed2_45 z_78 z_61 z_74), (cO3_vrvvvvvv hh v0hh yhn v2hh v3hh v4hh v5hh v6hh v7hh), (cO8_iiri yhn 1 6 yhnc yhnn), (cAI g yhnc 6 yhnf), (cO8_iiri zp 8 2 zpc zpn), (cAI g zpc 16 zpf), (cO8_iiri nr 8 10 nrc nrn), (cAI g nrc 80 fa_91)] rfl ?_
    refine k_aload_n X dX5_showReel_k6.2.2.1.2 6 rfl ?_
    refine k_get (ci := 5) X inlX5 rfl 0 (nlt_e rfl) dX5_showReel_k6.2.2.2.1 mw125 1 rfl rfl ?_
    refine k_iload_n X dX5_showReel_k6.2.2.2.2 9 rfl ?_
    refine k_iconst (v := 4) X dX5_showReel_k7.1.1.1.1 ic_4 ?_
    refine k_iload X dX5_showReel_k7.1.1.1.2 1 rfl ?_
    refine k_callVV (n := 3) (As := [.int p0, .int 4, .int z_53]) (st := []) X [(cO8_iiri nr 8 10 nrc nrn), (cAI g nrc 80 fa_91)] [(cO7_vvvrii hs v0hs v1hs v2hs zp zmd ztr), (cO5_riiiiiiii h0 nr xsnapped xmostSlip xslip xisDrawn xseed2_45 z_78 z_61 z_74), (cO3_vrvvvvvv hh v0hh yhn v2hh v3hh v4hh v5hh v6hh v7hh), (cO8_iiri yhn 1 6 yhnc yhnn), (cAI g yhnc 6 yhnf), (cO8_iiri zp 8 2 zpc zpn), (cAI g zpc 16 zpf)] [7, 8] [0, 1, 2, 3, 4, 5, 6] (t_put l g nr p0 4 z_53 8 10 nrc nrn 80 fa_91 (tbk_8_10)) dX5_showReel_k7.1.1.2.1 mw766 mw326 mw327 mw64 mw328 rfl 8 rfl rfl 0 _ rfl yk_yX8_put_3 rfl (Nat.le_of_ble_eq_true rfl) (Nat.le_of_ble_eq_true rfl) (Nat.le_of_ble_eq_true rfl) (Nat.le_of_ble_eq_true rfl) (Nat.le_of_ble_eq_true rfl) rfl rfl (vnd_e rfl) rfl (vnd_e rfl) (dsj_e rfl) ?_
    rintro w ⟨fa_94, hr_96, rfl⟩
    refine k_ws [(cO7_vvvrii hs v0hs v1hs v2hs zp zmd ztr), (cO5_riiiiiiii h0 nr xsnapped xmostSlip xslip xisDrawn xseed2_45 z_78 z_61 z_74), (cO3_vrvvvvvv hh v0hh yhn v2hh v3hh v4hh v5hh v6hh v7hh), (cO8_iiri yhn 1 6 yhnc yhnn), (cAI g yhnc 6 yhnf), (cO8_iiri zp 8 2 zpc zpn), (cAI g zpc 16 zpf), (cO8_iiri nr 8 10 nrc nrn), (cAI g nrc 80 fa_94)] rfl ?_
    refine k_aload_n X dX5_showReel_k7.1.1.2.2 6 rfl ?_
    refine k_get (ci := 5) X inlX5 rfl 0 (nlt_e rfl) dX5_showReel_k7.1.2.1.1 mw125 1 rfl rfl ?_
    refine k_iload_n X dX5_showReel_k7.1.2.1.2 9 rfl ?_
    refine k_iconst (v := 5) X dX5_showReel_k7.1.2.2.1 ic_5 ?_
    refine k_iload X dX5_showReel_k7.1.2.2.2 0 rfl ?_
    refine k_callVV (n := 3) (As := [.int p0, .int 5, .int z_58]) (st := []) X [(cO8_iiri nr 8 10 nrc nrn), (cAI g nrc 80 fa_94)] [(cO7_vvvrii hs v0hs v1hs v2hs zp zmd ztr), (cO5_riiiiiiii h0 nr xsnapped xmostSlip xslip xisDrawn xseed2_45 z_78 z_61 z_74), (cO3_vrvvvvvv hh v0hh yhn v2hh v3hh v4hh v5hh v6hh v7hh), (cO8_iiri yhn 1 6 yhnc yhnn), (cAI g yhnc 6 yhnf), (cO8_iiri zp 8 2 zpc zpn), (cAI g zpc 16 zpf)] [7, 8] [0, 1, 2, 3, 4, 5, 6] (t_put l g nr p0 5 z_58 8 10 nrc nrn 80 fa_94 (tbk_8_10)) dX5_showReel_k7.2.1.1.1 mw766 mw326 mw327 mw64 mw328 rfl 8 rfl rfl 0 _ rfl yk_yX8_put_3 rfl (Nat.le_of_ble_eq_true rfl) (Nat.le_of_ble_eq_true rfl) (Nat.le_of_ble_eq_true rfl) (Nat.le_of_ble_eq_true rfl) (Nat.le_of_ble_eq_true rfl) rfl rfl (vnd_e rfl) rfl (vnd_e rfl) (dsj_e rfl) ?_
    rintro w ⟨fa_97, hr_99, rfl⟩
    refine k_ws [(cO7_vvvrii hs v0hs v1hs v2hs zp zmd ztr), (cO5_riiiiiiii h0 nr xsnapped xmostSlip xslip xisDrawn xseed2_45 z_78 z_61 z_74), (cO3_vrvvvvvv hh v0hh yhn v2hh v3hh v4hh v5hh v6hh v7hh), (cO8_iiri yhn 1 6 yhnc yhnn), (cAI g yhnc 6 yhnf), (cO8_iiri zp 8 2 zpc zpn), (cAI g zpc 16 zpf), (cO8_iiri nr 8 10 nrc nrn), (cAI g nrc 80 fa_97)] rfl ?_
    refine k_aload_n X dX5_showReel_k7.2.1.1.2 6 rfl ?_
    refine k_get (ci := 5) X inlX5 rfl 0 (nlt_e rfl) dX5_showReel_k7.2.1.2.1 mw125 1 rfl rfl ?_
    refine k_iload_n X dX5_showReel_k7.2.1.2.2 9 rfl ?_
    refine k_bipush (v := 6) X dX5_showReel_k7.2.2.1.1 bi_6 ?_
    refine k_iload X dX5_showReel_k7.2.2.1.2 3 rfl ?_
    refine k_callVV (n := 3) (As := [.int p0, .int 6, .int z_4]) (st := []) X [(cO8_iiri nr 8 10 nrc nrn), (cAI g nrc 80 fa_97)] [(cO7_vvvrii hs v0hs v1hs v2hs zp zmd ztr), (cO5_riiiiiiii h0 nr xsnapped xmostSlip xslip xisDrawn xseed2_45 z_78 z_61 z_74), (cO3_vrvvvvvv hh v0hh yhn v2hh v3hh v4hh v5hh v6hh v7hh), (cO8_iiri yhn 1 6 yhnc yhnn), (cAI g yhnc 6 yhnf), (cO8_iiri zp 8 2 zpc zpn), (cAI g zpc 16 zpf)] [7, 8] [0, 1, 2, 3, 4, 5, 6] (t_put l g nr p0 6 z_4 8 10 nrc nrn 80 fa_97 (tbk_8_10)) dX5_showReel_k7.2.2.2.1 mw766 mw326 mw327 mw64 mw328 rfl 8 rfl rfl 0 _ rfl yk_yX8_put_3 rfl (Nat.le_of_ble_eq_true rfl) (Nat.le_of_ble_eq_true rfl) (Nat.le_of_ble_eq_true rfl) (Nat.le_of_ble_eq_true rfl) (Nat.le_of_ble_eq_true rfl) rfl rfl (vnd_e rfl) rfl (vnd_e rfl) (dsj_e rfl) ?_
    rintro w ⟨fa_100, hr_102, rfl⟩
    refine k_ws [(cO7_vvvrii hs v0hs v1hs v2hs zp zmd ztr), (cO5_riiiiiiii h0 nr xsnapped xmostSlip xslip xisDrawn xseed2_45 z_78 z_61 z_74), (cO3_vrvvvvvv hh v0hh yhn v2hh v3hh v4hh v5hh v6hh v7hh), (cO8_iiri yhn 1 6 yhnc yhnn), (cAI g yhnc 6 yhnf), (cO8_iiri zp 8 2 zpc zpn), (cAI g zpc 16 zpf), (cO8_iiri nr 8 10 nrc nrn), (cAI g nrc 80 fa_100)] rfl ?_
    refine k_aload_n X dX5_showReel_k7.2.2.2.2 6 rfl ?_
    refine k_get (ci := 5) X inlX5 rfl 0 (nlt_e rfl) dX5_showReel_k8.1.1 mw125 1 rfl rfl ?_
    refine k_iload_n X dX5_showReel_k8.1.2.1 9 rfl ?_
    refine k_bipush (v := 7) X dX5_showReel_k8.1.2.2 bi_7 ?_
    refine k_aload_n X dX5_showReel_k8.2.1.1 6 rfl ?_
    refine k_get (ci := 5) X inlX5 rfl 6 (nlt_e rfl) dX5_showReel_k8.2.1.2 mw131 1 rfl rfl ?_
    refine k_callVV (n := 3) (As := [.int p0, .int 7, .int z_78]) (st := []) X [(cO8_iiri nr 8 10 nrc nrn), (cAI g nrc 80 fa_100)] [(cO7_vvvrii hs v0hs v1hs v2hs zp zmd ztr), (cO5_riiiiiiii h0 nr xsnapped xmostSlip xslip xisDrawn xseed2_45 z_78 z_61 z_74), (cO3_vrvvvvvv hh v0hh yhn v2hh v3hh v4hh v5hh v6hh v7hh), (cO8_iiri yhn 1 6 yhnc yhnn), (cAI g yhnc 6 yhnf), (cO8_iiri zp 8 2 zpc zpn), (cAI g zpc 16 zpf)] [7, 8] [0, 1, 2, 3, 4, 5, 6] (t_put l g nr p0 7 z_78 8 10 nrc nrn 80 fa_100 (tbk_8_10)) dX5_showReel_k8.2.2.1 mw766 mw326 mw327 mw64 mw328 rfl 8 rfl rfl 0 _ rfl yk_yX8_put_3 rfl (Nat.le_of_ble_eq_true rfl) (Nat.le_of_ble_eq_true rfl) (Nat.le_of_ble_eq_true rfl) (Nat.le_of_ble_eq_true rfl) (Nat.le_of_ble_eq_true rfl) rfl rfl (vnd_e rfl) rfl (vnd_e rfl) (dsj_e rfl) ?_
    rintro w ⟨fa_103, hr_105, rfl⟩
    refine k_ws [(cO7_vvvrii hs v0hs v1hs v2hs zp zmd ztr), (cO5_riiiiiiii h0 nr xsnapped xmostSlip xslip xisDrawn xseed2_45 z_78 z_61 z_74), (cO3_vrvvvvvv hh v0hh yhn v2hh v3hh v4hh v5hh v6hh v7hh), (cO8_iiri yhn 1 6 yhnc yhnn), (cAI g yhnc 6 yhnf), (cO8_iiri zp 8 2 zpc zpn), (cAI g zpc 16 zpf), (cO8_iiri nr 8 10 nrc nrn), (cAI g nrc 80 fa_103)] rfl ?_
    exact k_vret X hr dX5_showReel_k8.2.2.2 (Nat.le_of_ble_eq_true rfl) (Nat.le_of_ble_eq_true rfl) [1, 7, 8, 2, 3, 4, 0, 5, 6] (vnd_e rfl) rfl rfl (exI5 xseed2_45 z_78 z_61 z_74 fa_103 ⟨⟨z_1, ez_1, ⟨z_2, ez_2, ⟨z_3, ez_3, ⟨z_4, ez_4, ⟨z_6, ez_6, (Or.inr ⟨h_8, ⟨r_43, hr_44, ⟨xseed2_45, r_46, hq_47, ⟨z_48, ez_48, ⟨z_50, ez_50, ⟨z_52, ez_52, ⟨z_53, ez_53, ⟨r_54, hq_55, ⟨z_56, ez_56, ⟨z_58, ez_58, ⟨z_59, ez_59, ⟨z_61, ez_61, ⟨z_63, ez_63, ⟨r_65, hq_66, ⟨z_67, ez_67, ⟨z_69, ez_69, ⟨r_72, hr_73, ⟨z_74, ez_74, ⟨z_76, ez_76, ⟨z_78, ez_78, ⟨fa_80, hr_82, ⟨fa_83, hr_85, ⟨z_86, ez_86, ⟨fa_88, hr_90, ⟨fa_91, hr_93, ⟨fa_94, hr_96, ⟨fa_97, hr_99, ⟨fa_100, hr_102, ⟨fa_103, hr_105, ⟨rfl, rfl, rfl, rfl, rfl⟩⟩⟩⟩⟩⟩⟩⟩⟩⟩⟩⟩⟩⟩⟩⟩⟩⟩⟩⟩⟩⟩⟩⟩⟩⟩⟩⟩⟩⟩)⟩⟩⟩⟩⟩, rfl⟩)


set_option maxHeartbeats 4000000 in
set_option maxRecDepth 100000 in
theorem n_snapWeakPlacesX (l : Launch) (g : Gx) (h0 : Nat) (hh : Nat) (hs : Nat) (p0 : Int32) (nr : Nat) (xsnapped : Int32) (xmostSlip : Int32) (xslip : Int32) (xisDrawn : Int32) (xseed : Int32) (xtick : Int32) (xmotorTick : Int32) (xahead : Int32) (v0hh : Value) (yhn : Nat) (v2hh : Value) (v3hh : Value) (v4hh : Value) (v5hh : Value) (v6hh : Value) (v7hh : Value) (yhnc : Nat) (yhnn : Int32) (yhnf : Nat → Int32) (v0hs : Value) (v1hs : Value) (zw : Nat) (v3hs : Value) (zmd : Int32) (ztr : Int32) (zwc : Nat) (zwn : Int32) (zwf : Nat → Int32) : cV l g yX5_snapWeakPlaces cX5_snapWeakPlaces 5 2 43 0 0 [.ref h0, .ref hh, .ref hs, .int p0] [(cO5_riiiiiiii h0 nr xsnapped xmostSlip xslip xisDrawn xseed xtick xmotorTick xahead), (cO3_vrvvvvvv hh v0hh yhn v2hh v3hh v4hh v5hh v6hh v7hh), (cO8_iiri yhn 1 6 yhnc yhnn), (cAI g yhnc 6 yhnf), (cO7_vvrvii hs v0hs v1hs zw v3hs zmd ztr), (cO8_iiri zw 6 3 zwc zwn), (cAI g zwc 18 zwf)] (fun w => ∃ (xseed2 : Int32) (xsnapped2 : Int32), (R_n_snapWeakPlacesX p0 xsnapped xisDrawn xseed yhnf zmd zwn zwf xseed2 xsnapped2) ∧ w = [(cO5_riiiiiiii h0 nr xsnapped2 xmostSlip xslip xisDrawn xseed2 xtick xmotorTick xahead), (cO3_vrvvvvvv hh v0hh yhn v2hh v3hh v4hh v5hh v6hh v7hh), (cO8_iiri yhn 1 6 yhnc yhnn), (cAI g yhnc 6 yhnf), (cO7_vvrvii hs v0hs v1hs zw v3hs zmd ztr), (cO8_iiri zw 6 3 zwc zwn), (cAI g zwc 18 zwf)]) := by
  refine cV.of (by decide) (Nat.le_of_ble_eq_true rfl) ?_
  intro p e s m args below meth c A X hr hi
  refine k_lveq [(0, .ref h0), (1, .ref hh), (2, .ref hs), (3, .int p0)] rfl ?_
  refine k_iconst (v := 0) X dX5_snapWeakPlaces_k0.1.1.1.1 ic_0 ?_
  refine k_istore [(4, .int 0), (0, .ref h0), (1, .ref hh), (2, .ref hs), (3, .int p0)] X dX5_snapWeakPlaces_k0.1.1.1.2 (nlt_e rfl) rfl ?_
  refine (fun hL : ∀ (nn_5 : Nat) (u_1 : Int32) (u_3 : Int32) (u_4 : Int32), (zwn.toInt - u_1.toInt).toNat = nn_5 → (IV u_1 0 2147483647) → (∀ (xseed2 : Int32) (xsnapped2 : Int32), (∃ n_0 : Nat, R_n_snapWeakPlacesX_L0 p0 xisDrawn yhnf zmd zwn zwf (fun (u_4 : Int32) (u_3 : Int32) => xseed2 = u_4 ∧ xsnapped2 = u_3) (fun (u_4 : Int32) (u_3 : Int32) => xseed2 = u_4 ∧ xsnapped2 = u_3) n_0 u_1 u_3 u_4) → R_n_snapWeakPlacesX p0 xsnapped xisDrawn xseed yhnf zmd zwn zwf xseed2 xsnapped2) → Wk p l e _ s m args below meth c _ A g _ _ _ [(cO5_riiiiiiii h0 nr u_3 xmostSlip xslip xisDrawn u_4 xtick xmotorTick xahead), (cO3_vrvvvvvv hh v0hh yhn v2hh v3hh v4hh v5hh v6hh v7hh), (cO8_iiri yhn 1 6 yhnc yhnn), (cAI g yhnc 6 yhnf), (cO7_vvrvii hs v0hs v1hs zw v3hs zmd ztr), (cO8_iiri zw 6 3 zwc zwn), (cAI g zwc 18 zwf)] [(4, .int u_1), (0, .ref h0), (1, .ref hh), (2, .ref hs), (3, .int p0)] 3 [] => hL _ 0 xsnapped xseed rfl (iv_w iq_0_0_0 (zle_e rfl) (zle_e rfl)) (fun xseed2 xsnapped2 h => h)) ?_
  refine fun nn_5 => Nat.strongRecOn nn_5 (fun nn_5 ih_7 => ?_)
  intro u_1 u_3 u_4 hm_6 hv_2 KH_0
  refine k_aload_n X dX5_snapWeakPlaces_k0.1.1.2.1 1 rfl ?_
  refine k_get (ci := 5) X inlX5 rfl 4 (nlt_e rfl) dX5_snapWeakPlaces_k0.1.1.2.2 mw129 0 rfl rfl ?_
  refine k_if_eq 85 X dX5_snapWeakPlaces_k0.1.2.1.1 (jp_e rfl) (fun h_8 => ?_) (fun h_8 => ?_)
  · skip
    have iv_9 : IV xisDrawn 0 0 := iv_meet (iv_any xisDrawn) (iv_e h_8 iq_0_0_0) (zle_o rfl) (zle_o rfl)
    exact k_vret X hr dX5_snapWeakPlaces_k2.2.2.2.2 (Nat.le_of_ble_eq_true rfl) (Nat.le_of_ble_eq_true rfl) [0, 1, 2, 3, 4, 5, 6] (vnd_e rfl) rfl rfl ⟨u_4, u_3, (KH_0 _ _ ⟨0 + 1, (Or.inl ⟨h_8, ⟨rfl, rfl⟩⟩)⟩), rfl⟩
  · skip
    refine k_iload X dX5_snapWeakPlaces_k0.1.2.1.2 0 rfl ?_
    refine k_aload_n X dX5_snapWeakPlaces_k0.1.2.2.1 3 rfl ?_
    refine k_get (ci := 7) X inlX7 rfl 2 (nlt_e rfl) dX5_snapWeakPlaces_k0.1.2.2.2 mw801 4 rfl rfl ?_
    refine k_get (ci := 8) X inlX8 rfl 3 (nlt_e rfl) dX5_snapWeakPlaces_k0.2.1.1.1 mw754 5 rfl rfl ?_
    refine k_ic_ge 85 X dX5_snapWeakPlaces_k0.2.1.1.2 (jp_e rfl) (fun h_10 => ?_) (fun h_10 => ?_)
    · skip
      have j_11 : zwn.toInt ≤ u_1.toInt := iv_le h_10
      exact k_vret X hr dX5_snapWeakPlaces_k2.2.2.2.2 (Nat.le_of_ble_eq_true rfl) (Nat.le_of_ble_eq_true rfl) [0, 1, 2, 3, 4, 5, 6] (vnd_e rfl) rfl rfl ⟨u_4, u_3, (KH_0 _ _ ⟨0 + 1, (Or.inr ⟨h_8, (Or.inl ⟨h_10, ⟨rfl, rfl⟩⟩)⟩)⟩), rfl⟩
    · skip
      have j_12 : u_1.toInt < zwn.toInt := iv_nle h_10
      have iv_13 : IV u_1 0 2147483646 := iv_ltL (iv_nle h_10) hv_2 (iv_any zwn) (zle_e rfl)
      have iv_14 : IV zwn 1 2147483647 := iv_ltR (iv_nle h_10) hv_2 (iv_any zwn) (zle_e rfl)
      refine k_aload_n X dX5_snapWeakPlaces_k0.2.1.2.1 3 rfl ?_
      refine k_iload X dX5_snapWeakPlaces_k0.2.1.2.2 0 rfl ?_
      refine k_callVI (n := 1) (As := [.int u_1]) (st := []) X [(cO7_vvrvii hs v0hs v1hs zw v3hs zmd ztr), (cO8_iiri zw 6 3 zwc zwn), (cAI g zwc 18 zwf)] [(cO5_riiiiiiii h0 nr u_3 xmostSlip xslip xisDrawn u_4 xtick xmotorTick xahead), (cO3_vrvvvvvv hh v0hh yhn v2hh v3hh v4hh v5hh v6hh v7hh), (cO8_iiri yhn 1 6 yhnc yhnn), (cAI g yhnc 6 yhnf)] [4, 5, 6] [0, 1, 2, 3] (s_isWeakX l g hs u_1 v0hs v1hs zw v3hs zmd ztr zwc zwn zwf) dX5_snapWeakPlaces_k0.2.2.1.1 mw802 mw661 mw662 mw23 mw663 rfl 7 rfl rfl 0 _ rfl yk_yX7_isWeak_1 rfl (Nat.le_of_ble_eq_true rfl) (Nat.le_of_ble_eq_true rfl) (Nat.le_of_ble_eq_true rfl) (Nat.le_of_ble_eq_true rfl) (Nat.le_of_ble_eq_true rfl) rfl rfl (vnd_e rfl) rfl (vnd_e rfl) (dsj_e rfl) ?_
      rintro r_15 w ⟨hq_16, rfl⟩
      refine k_ws [(cO5_riiiiiiii h0 nr u_3 xmostSlip xslip xisDrawn u_4 xtick xmotorTick xahead), (cO3_vrvvvvvv hh v0hh yhn v2hh v3hh v4hh v5hh v6hh v7hh), (cO8_iiri yhn 1 6 yhnc yhnn), (cAI g yhnc 6 yhnf), (cO7_vvrvii hs v0hs v1hs zw v3hs zmd ztr), (cO8_iiri zw 6 3 zwc zwn), (cAI g zwc 18 zwf)] rfl ?_
      refine k_if_eq 79 X dX5_snapWeakPlaces_k0.2.2.1.2 (jp_e rfl) (fun h_17 => ?_) (fun h_17 => ?_)
      · skip
        have iv_18 : IV r_15 0 0 := iv_meet (iv_any r_15) (iv_e h_17 iq_0_0_0) (zle_o rfl) (zle_o rfl)
        obtain ⟨z_19, ez_19⟩ : ∃ y : Int32, u_1 + Int32.ofInt 1 = y := ⟨_, rfl⟩
        refine k_iinc z_19 [(4, .int z_19), (0, .ref h0), (1, .ref hh), (2, .ref hs), (3, .int p0)] 0 X dX5_snapWeakPlaces_k2.2.2.1 rfl ez_19 (nlt_e rfl) rfl ?_
        have i_20 : z_19.toInt = u_1.toInt + 1 := in_inc ez_19 (oin_e rfl) iv_13 (zle_e rfl) (zle_e rfl)
        have iv_21 : IV z_19 1 2147483647 := iz1 i_20 iv_13 (zle_e rfl) (zle_e rfl)
        refine k_goto 3 X dX5_snapWeakPlaces_k2.2.2.2.1 (jp_e rfl) ?_
        exact ih_7 _ (by omega) z_19 u_3 u_4 rfl (iv_w iv_21 (zle_e rfl) (zle_e rfl)) (fun xseed2 xsnapped2 h => h.elim (fun n_0 q => (KH_0 _ _ ⟨n_0 + 1, (Or.inr ⟨h_8, (Or.inr ⟨h_10, ⟨r_15, hq_16, (Or.inl ⟨h_17, ⟨z_19, ez_19, q⟩⟩)⟩⟩)⟩)⟩)))
      · skip
        refine k_aload_n X dX5_snapWeakPlaces_k0.2.2.2.1 3 rfl ?_
        refine k_get (ci := 7) X inlX7 rfl 2 (nlt_e rfl) dX5_snapWeakPlaces_k0.2.2.2.2 mw801 4 rfl rfl ?_
        refine k_iload X dX5_snapWeakPlaces_k1.1.1.1.1 0 rfl ?_
        refine k_iconst (v := 0) X dX5_snapWeakPlaces_k1.1.1.1.2 ic_0 ?_
        refine k_callVI (n := 2) (As := [.int u_1, .int 0]) (st := []) X [(cO8_iiri zw 6 3 zwc zwn), (cAI g zwc 18 zwf)] [(cO5_riiiiiiii h0 nr u_3 xmostSlip xslip xisDrawn u_4 xtick xmotorTick xahead), (cO3_vrvvvvvv hh v0hh yhn v2hh v3hh v4hh v5hh v6hh v7hh), (cO8_iiri yhn 1 6 yhnc yhnn), (cAI g yhnc 6 yhnf), (cO7_vvrvii hs v0hs v1hs zw v3hs zmd ztr)] [5, 6] [0, 1, 2, 3, 4] (t_at l g zw u_1 0 6 3 zwc zwn 18 zwf (tbk_6_3)) dX5_snapWeakPlaces_k1.1.1.2.1 mw757 mw376 mw377 mw64 mw378 rfl 8 rfl rfl 0 _ rfl yk_yX8_at_2 rfl (Nat.le_of_ble_eq_true rfl) (Nat.le_of_ble_eq_true rfl) (Nat.le_of_ble_eq_true rfl) (Nat.le_of_ble_eq_true rfl) (Nat.le_of_ble_eq_true rfl) rfl rfl (vnd_e rfl) rfl (vnd_e rfl) (dsj_e rfl) ?_
        rintro r_22 w ⟨hr_23, rfl⟩
        refine k_ws [(cO5_riiiiiiii h0 nr u_3 xmostSlip xslip xisDrawn u_4 xtick xmotorTick xahead), (cO3_vrvvvvvv hh v0hh yhn v2hh v3hh v4hh v5hh v6hh v7hh), (cO8_iiri yhn 1 6 yhnc yhnn), (cAI g yhnc 6 yhnf), (cO7_vvrvii hs v0hs v1hs zw v3hs zmd ztr), (cO8_iiri zw 6 3 zwc zwn), (cAI g zwc 18 zwf)] rfl ?_
        refine k_iload_n X dX5_snapWeakPlaces_k1.1.1.2.2 4 rfl ?_
        refine k_ic_ne 79 X dX5_snapWeakPlaces_k1.1.2.1.1 (jp_e rfl) (fun h_24 => ?_) (fun h_24 => ?_)
        · skip
          obtain ⟨z_25, ez_25⟩ : ∃ y : Int32, u_1 + Int32.ofInt 1 = y := ⟨_, rfl⟩
          refine k_iinc z_25 [(4, .int z_25), (0, .ref h0), (1, .ref hh), (2, .ref hs), (3, .int p0)] 0 X dX5_snapWeakPlaces_k2.2.2.1 rfl ez_25 (nlt_e rfl) rfl ?_
          have i_26 : z_25.toInt = u_1.toInt + 1 := in_inc ez_25 (oin_e rfl) iv_13 (zle_e rfl) (zle_e rfl)
          have iv_27 : IV z_25 1 2147483647 := iz1 i_26 iv_13 (zle_e rfl) (zle_e rfl)
          refine k_goto 3 X dX5_snapWeakPlaces_k2.2.2.2.1 (jp_e rfl) ?_
          exact ih_7 _ (by omega) z_25 u_3 u_4 rfl (iv_w iv_27 (zle_e rfl) (zle_e rfl)) (fun xseed2 xsnapped2 h => h.elim (fun n_0 q => (KH_0 _ _ ⟨n_0 + 1, (Or.inr ⟨h_8, (Or.inr ⟨h_10, ⟨r_15, hq_16, (Or.inr ⟨h_17, ⟨r_22, hr_23, (Or.inl ⟨h_24, ⟨z_25, ez_25, q⟩⟩)⟩⟩)⟩⟩)⟩)⟩)))
        · skip
          refine k_aload_n X dX5_snapWeakPlaces_k1.1.2.1.2 1 rfl ?_
          refine k_callVI (n := 0) (As := []) (st := []) X [(cO5_riiiiiiii h0 nr u_3 xmostSlip xslip xisDrawn u_4 xtick xmotorTick xahead)] [(cO3_vrvvvvvv hh v0hh yhn v2hh v3hh v4hh v5hh v6hh v7hh), (cO8_iiri yhn 1 6 yhnc yhnn), (cAI g yhnc 6 yhnf), (cO7_vvrvii hs v0hs v1hs zw v3hs zmd ztr), (cO8_iiri zw 6 3 zwc zwn), (cAI g zwc 18 zwf)] [0] [1, 2, 3, 4, 5, 6] (n_drawX l g h0 nr u_3 xmostSlip xslip xisDrawn u_4 xtick xmotorTick xahead) dX5_snapWeakPlaces_k1.1.2.2.1 mw791 mw792 mw793 mw31 mw794 rfl 5 rfl rfl 0 _ rfl yk_yX5_draw_0 rfl (Nat.le_of_ble_eq_true rfl) (Nat.le_of_ble_eq_true rfl) (Nat.le_of_ble_eq_true rfl) (Nat.le_of_ble_eq_true rfl) (Nat.le_of_ble_eq_true rfl) rfl rfl (vnd_e rfl) rfl (vnd_e rfl) (dsj_e rfl) ?_
          rintro r_29 w ⟨xseed2_28, hq_30, rfl⟩
          refine k_ws [(cO3_vrvvvvvv hh v0hh yhn v2hh v3hh v4hh v5hh v6hh v7hh), (cO8_iiri yhn 1 6 yhnc yhnn), (cAI g yhnc 6 yhnf), (cO7_vvrvii hs v0hs v1hs zw v3hs zmd ztr), (cO8_iiri zw 6 3 zwc zwn), (cAI g zwc 18 zwf), (cO5_riiiiiiii h0 nr u_3 xmostSlip xslip xisDrawn xseed2_28 xtick xmotorTick xahead)] rfl ?_
          refine k_bipush (v := 100) X dX5_snapWeakPlaces_k1.1.2.2.2 bi_100 ?_
          refine k_irem X dX5_snapWeakPlaces_k1.2.1.1.1 (by decide) ?_
          refine k_nm (fun z_31 ez_31 => ?_)
          refine k_aload_n X dX5_snapWeakPlaces_k1.2.1.1.2 3 rfl ?_
          refine k_get (ci := 7) X inlX7 rfl 2 (nlt_e rfl) dX5_snapWeakPlaces_k1.2.1.2.1 mw801 3 rfl rfl ?_
          refine k_iload X dX5_snapWeakPlaces_k1.2.1.2.2 0 rfl ?_
          refine k_iconst (v := 2) X dX5_snapWeakPlaces_k1.2.2.1.1 ic_2 ?_
          refine k_callVI (n := 2) (As := [.int u_1, .int 2]) (st := [.int z_31]) X [(cO8_iiri zw 6 3 zwc zwn), (cAI g zwc 18 zwf)] [(cO3_vrvvvvvv hh v0hh yhn v2hh v3hh v4hh v5hh v6hh v7hh), (cO8_iiri yhn 1 6 yhnc yhnn), (cAI g yhnc 6 yhnf), (cO7_vvrvii hs v0hs v1hs zw v3hs zmd ztr), (cO5_riiiiiiii h0 nr u_3 xmostSlip xslip xisDrawn xseed2_28 xtick xmotorTick xahead)] [4, 5] [0, 1, 2, 3, 6] (t_at l g zw u_1 2 6 3 zwc zwn 18 zwf (tbk_6_3)) dX5_snapWeakPlaces_k1.2.2.1.2 mw757 mw376 mw377 mw64 mw378 rfl 8 rfl rfl 0 _ rfl yk_yX8_at_2 rfl (Nat.le_of_ble_eq_true rfl) (Nat.le_of_ble_eq_true rfl) (Nat.le_of_ble_eq_true rfl) (Nat.le_of_ble_eq_true rfl) (Nat.le_of_ble_eq_true rfl) rfl rfl (vnd_e rfl) rfl (vnd_e rfl) (dsj_e rfl) ?_
          rintro r_32 w ⟨hr_33, rfl⟩
          refine k_ws [(cO3_vrvvvvvv hh v0hh yhn v2hh v3hh v4hh v5hh v6hh v7hh), (cO8_iiri yhn 1 6 yhnc yhnn), (cAI g yhnc 6 yhnf), (cO7_vvrvii hs v0hs v1hs zw v3hs zmd ztr), (cO5_riiiiiiii h0 nr u_3 xmostSlip xslip xisDrawn xseed2_28 xtick xmotorTick xahead), (cO8_iiri zw 6 3 zwc zwn), (cAI g zwc 18 zwf)] rfl ?_
          refine k_ic_ge 79 X dX5_snapWeakPlaces_k1.2.2.2.1 (jp_e rfl) (fun h_34 => ?_) (fun h_34 => ?_)
          · skip
            have j_35 : r_32.toInt ≤ z_31.toInt := iv_le h_34
            obtain ⟨z_36, ez_36⟩ : ∃ y : Int32, u_1 + Int32.ofInt 1 = y := ⟨_, rfl⟩
            refine k_iinc z_36 [(4, .int z_36), (0, .ref h0), (1, .ref hh), (2, .ref hs), (3, .int p0)] 0 X dX5_snapWeakPlaces_k2.2.2.1 rfl ez_36 (nlt_e rfl) rfl ?_
            have i_37 : z_36.toInt = u_1.toInt + 1 := in_inc ez_36 (oin_e rfl) iv_13 (zle_e rfl) (zle_e rfl)
            have iv_38 : IV z_36 1 2147483647 := iz1 i_37 iv_13 (zle_e rfl) (zle_e rfl)
            refine k_goto 3 X dX5_snapWeakPlaces_k2.2.2.2.1 (jp_e rfl) ?_
            refine k_sub [(cO5_riiiiiiii h0 nr u_3 xmostSlip xslip xisDrawn xseed2_28 xtick xmotorTick xahead), (cO3_vrvvvvvv hh v0hh yhn v2hh v3hh v4hh v5hh v6hh v7hh), (cO8_iiri yhn 1 6 yhnc yhnn), (cAI g yhnc 6 yhnf), (cO7_vvrvii hs v0hs v1hs zw v3hs zmd ztr), (cO8_iiri zw 6 3 zwc zwn), (cAI g zwc 18 zwf)] [4, 0, 1, 2, 3, 5, 6] rfl (by decide) rfl ?_
            exact ih_7 _ (by omega) z_36 u_3 xseed2_28 rfl (iv_w iv_38 (zle_e rfl) (zle_e rfl)) (fun xseed2 xsnapped2 h => h.elim (fun n_0 q => (KH_0 _ _ ⟨n_0 + 1, (Or.inr ⟨h_8, (Or.inr ⟨h_10, ⟨r_15, hq_16, (Or.inr ⟨h_17, ⟨r_22, hr_23, (Or.inr ⟨h_24, ⟨xseed2_28, r_29, hq_30, ⟨z_31, ez_31, ⟨r_32, hr_33, (Or.inl ⟨h_34, ⟨z_36, ez_36, q⟩⟩)⟩⟩⟩⟩)⟩⟩)⟩⟩)⟩)⟩)))
          · skip
            have j_39 : z_31.toInt < r_32.toInt := iv_nle h_34
            have iv_40 : IV z_31 (-2147483648) 2147483646 := iv_ltL (iv_nle h_34) (iv_any z_31) (iv_any r_32) (zle_e rfl)
            have iv_41 : IV r_32 (-2147483647) 2147483647 := iv_ltR (iv_nle h_34) (iv_any z_31) (iv_any r_32) (zle_e rfl)
            refine k_aload_n X dX5_snapWeakPlaces_k1.2.2.2.2 1 rfl ?_
            refine k_dup X dX5_snapWeakPlaces_k2.1.1.1 rfl ?_
            refine k_get (ci := 5) X inlX5 rfl 1 (nlt_e rfl) dX5_snapWeakPlaces_k2.1.1.2 mw126 4 rfl rfl ?_
            refine k_aload_n X dX5_snapWeakPlaces_k2.1.2.1 2 rfl ?_
            refine k_iconst (v := 5) X dX5_snapWeakPlaces_k2.1.2.2.1 ic_5 ?_
            refine k_callVI (n := 1) (As := [.int 5]) (st := [.int u_3, .ref h0]) X [(cO3_vrvvvvvv hh v0hh yhn v2hh v3hh v4hh v5hh v6hh v7hh), (cO8_iiri yhn 1 6 yhnc yhnn), (cAI g yhnc 6 yhnf)] [(cO7_vvrvii hs v0hs v1hs zw v3hs zmd ztr), (cO5_riiiiiiii h0 nr u_3 xmostSlip xslip xisDrawn xseed2_28 xtick xmotorTick xahead), (cO8_iiri zw 6 3 zwc zwn), (cAI g zwc 18 zwf)] [0, 1, 2] [3, 4, 5, 6] (h_numberX l g hh 5 v0hh yhn v2hh v3hh v4hh v5hh v6hh v7hh yhnc yhnn yhnf) dX5_snapWeakPlaces_k2.1.2.2.2 mw796 mw415 mw416 mw19 mw417 rfl 3 rfl rfl 0 _ rfl yk_yX3_number_1 rfl (Nat.le_of_ble_eq_true rfl) (Nat.le_of_ble_eq_true rfl) (Nat.le_of_ble_eq_true rfl) (Nat.le_of_ble_eq_true rfl) (Nat.le_of_ble_eq_true rfl) rfl rfl (vnd_e rfl) rfl (vnd_e rfl) (dsj_e rfl) ?_
            rintro r_42 w ⟨hq_43, rfl⟩
            refine k_ws [(cO7_vvrvii hs v0hs v1hs zw v3hs zmd ztr), (cO5_riiiiiiii h0 nr u_3 xmostSlip xslip xisDrawn xseed2_28 xtick xmotorTick xahead), (cO8_iiri zw 6 3 zwc zwn), (cAI g zwc 18 zwf), (cO3_vrvvvvvv hh v0hh yhn v2hh v3hh v4hh v5hh v6hh v7hh), (cO8_iiri yhn 1 6 yhnc yhnn), (cAI g yhnc 6 yhnf)] rfl ?_
            refine k_iadd X dX5_snapWeakPlaces_k2.2.1.1 ?_
            refine k_nm (fun z_44 ez_44 => ?_)
            refine k_put (ci := 5) [(cO7_vvrvii hs v0hs v1hs zw v3hs zmd ztr), (cO5_riiiiiiii h0 nr z_44 xmostSlip xslip xisDrawn xseed2_28 xtick xmotorTick xahead), (cO8_iiri zw 6 3 zwc zwn), (cAI g zwc 18 zwf), (cO3_vrvvvvvv hh v0hh yhn v2hh v3hh v4hh v5hh v6hh v7hh), (cO8_iiri yhn 1 6 yhnc yhnn), (cAI g yhnc 6 yhnf)] X inlX5 rfl tyX5_ok nmX5 1 (nlt_e rfl) rfl dX5_snapWeakPlaces_k2.2.1.2 mw126 1 rfl rfl rfl (Nat.le_of_ble_eq_true rfl) rfl ?_
            obtain ⟨z_46, ez_46⟩ : ∃ y : Int32, u_1 + Int32.ofInt 1 = y := ⟨_, rfl⟩
            refine k_iinc z_46 [(4, .int z_46), (0, .ref h0), (1, .ref hh), (2, .ref hs), (3, .int p0)] 0 X dX5_snapWeakPlaces_k2.2.2.1 rfl ez_46 (nlt_e rfl) rfl ?_
            have i_47 : z_46.toInt = u_1.toInt + 1 := in_inc ez_46 (oin_e rfl) iv_13 (zle_e rfl) (zle_e rfl)
            have iv_48 : IV z_46 1 2147483647 := iz1 i_47 iv_13 (zle_e rfl) (zle_e rfl)
            refine k_goto 3 X dX5_snapWeakPlaces_k2.2.2.2.1 (jp_e rfl) ?_
            refine k_sub [(cO5_riiiiiiii h0 nr z_44 xmostSlip xslip xisDrawn xseed2_28 xtick xmotorTick xahead), (cO3_vrvvvvvv hh v0hh yhn v2hh v3hh v4hh v5hh v6hh v7hh), (cO8_iiri yhn 1 6 yhnc yhnn), (cAI g yhnc 6 yhnf), (cO7_vvrvii hs v0hs v1hs zw v3hs zmd ztr), (cO8_iiri zw 6 3 zwc zwn), (cAI g zwc 18 zwf)] [1, 4, 5, 6, 0, 2, 3] rfl (by decide) rfl ?_
            exact ih_7 _ (by omega) z_46 z_44 xseed2_28 rfl (iv_w iv_48 (zle_e rfl) (zle_e rfl)) (fun xseed2 xsnapped2 h => h.elim (fun n_0 q => (KH_0 _ _ ⟨n_0 + 1, (Or.inr ⟨h_8, (Or.inr ⟨h_10, ⟨r_15, hq_16, (Or.inr ⟨h_17, ⟨r_22, hr_23, (Or.inr ⟨h_24, ⟨xseed2_28, r_29, hq_30, ⟨z_31, ez_31, ⟨r_32, hr_33, (Or.inr ⟨h_34, ⟨r_42, hq_43, ⟨z_44, ez_44, ⟨z_46, ez_46, q⟩⟩⟩⟩)⟩⟩⟩⟩)⟩⟩)⟩⟩)⟩)⟩)))


set_option maxHeartbeats 4000000 in
set_option maxRecDepth 100000 in
theorem n_runX (l : Launch) (g : Gx) (h0 : Nat) (hh : Nat) (hs : Nat) (nr : Nat) (xsnapped : Int32) (xmostSlip : Int32) (xslip : Int32) (xisDrawn : Int32) (xseed : Int32) (xtick : Int32) (xmotorTick : Int32) (xahead : Int32) (nrc : Nat) (nrn : Int32) (nrf : Nat → Int32) (v0hh : Value) (yhn : Nat) (v2hh : Value) (v3hh : Value) (v4hh : Value) (v5hh : Value) (v6hh : Value) (v7hh : Value) (yhnc : Nat) (yhnn : Int32) (yhnf : Nat → Int32) (zr : Nat) (v1hs : Value) (zw : Nat) (zp : Nat) (zmd : Int32) (ztr : Int32) (zrc : Nat) (zrn : Int32) (zrf : Nat → Int32) (zpc : Nat) (zpn : Int32) (zpf : Nat → Int32) (zwc : Nat) (zwn : Int32) (zwf : Nat → Int32) (hr_0 : ¬ xmostSlip < 0) : cV l g yX5_run cX5_run 5 3 73 0 0 [.ref h0, .ref hh, .ref hs] [(cO5_riiiiiiii h0 nr xsnapped xmostSlip xslip xisDrawn xseed xtick xmotorTick xahead), (cO8_iiri nr 8 10 nrc nrn), (cAI g nrc 80 nrf), (cO3_vrvvvvvv hh v0hh yhn v2hh v3hh v4hh v5hh v6hh v7hh), (cO8_iiri yhn 1 6 yhnc yhnn), (cAI g yhnc 6 yhnf), (cO7_rvrrii hs zr v1hs zw zp zmd ztr), (cO8_iiri zr 8 3 zrc zrn), (cAI g zrc 24 zrf), (cO8_iiri zp 8 2 zpc zpn), (cAI g zpc 16 zpf), (cO8_iiri zw 6 3 zwc zwn), (cAI g zwc 18 zwf)] (fun w => ∃ (xsnapped2 : Int32) (xseed2 : Int32) (xtick2 : Int32) (xmotorTick2 : Int32) (xahead2 : Int32) (nrg : Nat → Int32), (R_n_runX xmostSlip xslip xisDrawn xseed nrn nrf yhnf zmd zrf zpf zwn zwf xsnapped2 xseed2 xtick2 xmotorTick2 xahead2 nrg) ∧ w = [(cO5_riiiiiiii h0 nr xsnapped2 xmostSlip xslip xisDrawn xseed2 xtick2 xmotorTick2 xahead2), (cO8_iiri nr 8 10 nrc nrn), (cAI g nrc 80 nrg), (cO3_vrvvvvvv hh v0hh yhn v2hh v3hh v4hh v5hh v6hh v7hh), (cO8_iiri yhn 1 6 yhnc yhnn), (cAI g yhnc 6 yhnf), (cO7_rvrrii hs zr v1hs zw zp zmd ztr), (cO8_iiri zr 8 3 zrc zrn), (cAI g zrc 24 zrf), (cO8_iiri zp 8 2 zpc zpn), (cAI g zpc 16 zpf), (cO8_iiri zw 6 3 zwc zwn), (cAI g zwc 18 zwf)]) := by
  refine cV.of (by decide) (Nat.le_of_ble_eq_true rfl) ?_
  intro p e s m args below meth c A X hr hi
  refine k_lveq [(0, .ref h0), (1, .ref hh), (2, .ref hs)] rfl ?_
  refine k_aload_n X dX5_run_k0.1.1.1.1 0 rfl ?_
  refine k_iconst (v := 0) X dX5_run_k0.1.1.1.2 ic_0 ?_
  refine k_put (ci := 5) [(cO5_riiiiiiii h0 nr 0 xmostSlip xslip xisDrawn xseed xtick xmotorTick xahead), (cO8_iiri nr 8 10 nrc nrn), (cAI g nrc 80 nrf), (cO3_vrvvvvvv hh v0hh yhn v2hh v3hh v4hh v5hh v6hh v7hh), (cO8_iiri yhn 1 6 yhnc yhnn), (cAI g yhnc 6 yhnf), (cO7_rvrrii hs zr v1hs zw zp zmd ztr), (cO8_iiri zr 8 3 zrc zrn), (cAI g zrc 24 zrf), (cO8_iiri zp 8 2 zpc zpn), (cAI g zpc 16 zpf), (cO8_iiri zw 6 3 zwc zwn), (cAI g zwc 18 zwf)] X inlX5 rfl tyX5_ok nmX5 1 (nlt_e rfl) rfl dX5_run_k0.1.1.2.1 mw126 0 rfl rfl rfl (Nat.le_of_ble_eq_true rfl) rfl ?_
  refine k_aload_n X dX5_run_k0.1.1.2.2 0 rfl ?_
  refine k_iconst (v := 0) X dX5_run_k0.1.2.1.1 ic_0 ?_
  refine k_put (ci := 5) [(cO5_riiiiiiii h0 nr 0 xmostSlip xslip xisDrawn xseed 0 xmotorTick xahead), (cO8_iiri nr 8 10 nrc nrn), (cAI g nrc 80 nrf), (cO3_vrvvvvvv hh v0hh yhn v2hh v3hh v4hh v5hh v6hh v7hh), (cO8_iiri yhn 1 6 yhnc yhnn), (cAI g yhnc 6 yhnf), (cO7_rvrrii hs zr v1hs zw zp zmd ztr), (cO8_iiri zr 8 3 zrc zrn), (cAI g zrc 24 zrf), (cO8_iiri zp 8 2 zpc zpn), (cAI g zpc 16 zpf), (cO8_iiri zw 6 3 zwc zwn), (cAI g zwc 18 zwf)] X inlX5 rfl tyX5_ok nmX5 6 (nlt_e rfl) rfl dX5_run_k0.1.2.1.2 mw131 0 rfl rfl rfl (Nat.le_of_ble_eq_true rfl) rfl ?_
  refine k_aload_n X dX5_run_k0.1.2.2.1 0 rfl ?_
  refine k_iconst (v := 0) X dX5_run_k0.1.2.2.2 ic_0 ?_
  refine k_put (ci := 5) [(cO5_riiiiiiii h0 nr 0 xmostSlip xslip xisDrawn xseed 0 0 xahead), (cO8_iiri nr 8 10 nrc nrn), (cAI g nrc 80 nrf), (cO3_vrvvvvvv hh v0hh yhn v2hh v3hh v4hh v5hh v6hh v7hh), (cO8_iiri yhn 1 6 yhnc yhnn), (cAI g yhnc 6 yhnf), (cO7_rvrrii hs zr v1hs zw zp zmd ztr), (cO8_iiri zr 8 3 zrc zrn), (cAI g zrc 24 zrf), (cO8_iiri zp 8 2 zpc zpn), (cAI g zpc 16 zpf), (cO8_iiri zw 6 3 zwc zwn), (cAI g zwc 18 zwf)] X inlX5 rfl tyX5_ok nmX5 7 (nlt_e rfl) rfl dX5_run_k0.2.1.1.1 mw132 0 rfl rfl rfl (Nat.le_of_ble_eq_true rfl) rfl ?_
  refine k_aload_n X dX5_run_k0.2.1.1.2 0 rfl ?_
  refine k_iconst (v := 0) X dX5_run_k0.2.1.2.1 ic_0 ?_
  refine k_put (ci := 5) [(cO5_riiiiiiii h0 nr 0 xmostSlip xslip xisDrawn xseed 0 0 0), (cO8_iiri nr 8 10 nrc nrn), (cAI g nrc 80 nrf), (cO3_vrvvvvvv hh v0hh yhn v2hh v3hh v4hh v5hh v6hh v7hh), (cO8_iiri yhn 1 6 yhnc yhnn), (cAI g yhnc 6 yhnf), (cO7_rvrrii hs zr v1hs zw zp zmd ztr), (cO8_iiri zr 8 3 zrc zrn), (cAI g zrc 24 zrf), (cO8_iiri zp 8 2 zpc zpn), (cAI g zpc 16 zpf), (cO8_iiri zw 6 3 zwc zwn), (cAI g zwc 18 zwf)] X inlX5 rfl tyX5_ok nmX5 8 (nlt_e rfl) rfl dX5_run_k0.2.1.2.2 mw133 0 rfl rfl rfl (Nat.le_of_ble_eq_true rfl) rfl ?_
  refine k_iconst (v := 0) X dX5_run_k0.2.2.1.1 ic_0 ?_
  refine k_istore_n [(3, .int 0), (0, .ref h0), (1, .ref hh), (2, .ref hs)] X dX5_run_k0.2.2.1.2 (nlt_e rfl) rfl ?_
  refine (fun hL : ∀ (nn_9 : Nat) (uf_1 : Nat → Int32) (u_2 : Int32) (u_4 : Int32) (u_5 : Int32) (u_6 : Int32) (u_7 : Int32) (u_8 : Int32), (nrn.toInt - u_2.toInt).toNat = nn_9 → (IV u_2 0 2147483647) → (∀ (xsnapped2 : Int32) (xseed2 : Int32) (xtick2 : Int32) (xmotorTick2 : Int32) (xahead2 : Int32) (nrg : Nat → Int32), (∃ n_0 : Nat, R_n_runX_L0 xmostSlip xslip xisDrawn nrn yhnf zmd zrf zpf zwn zwf (fun (u_4 : Int32) (u_5 : Int32) (u_6 : Int32) (u_7 : Int32) (u_8 : Int32) (uf_1 : Nat → Int32) => xsnapped2 = u_4 ∧ xseed2 = u_5 ∧ xtick2 = u_6 ∧ xmotorTick2 = u_7 ∧ xahead2 = u_8 ∧ nrg = uf_1) n_0 uf_1 u_2 u_4 u_5 u_6 u_7 u_8) → R_n_runX xmostSlip xslip xisDrawn xseed nrn nrf yhnf zmd zrf zpf zwn zwf xsnapped2 xseed2 xtick2 xmotorTick2 xahead2 nrg) → Wk p l e _ s m args below meth c _ A g _ _ _ [(cO5_riiiiiiii h0 nr u_4 xmostSlip xslip xisDrawn u_5 u_6 u_7 u_8), (cO8_iiri nr 8 10 nrc nrn), (cAI g nrc 80 uf_1), (cO3_vrvvvvvv hh v0hh yhn v2hh v3hh v4hh v5hh v6hh v7hh), (cO8_iiri yhn 1 6 yhnc yhnn), (cAI g yhnc 6 yhnf), (cO7_rvrrii hs zr v1hs zw zp zmd ztr), (cO8_iiri zr 8 3 zrc zrn), (cAI g zrc 24 zrf), (cO8_iiri zp 8 2 zpc zpn), (cAI g zpc 16 zpf), (cO8_iiri zw 6 3 zwc zwn), (cAI g zwc 18 zwf)] [(3, .int u_2), (0, .ref h0), (1, .ref hh), (2, .ref hs)] 22 [] => hL _ nrf 0 0 xseed 0 0 0 rfl (iv_w iq_0_0_0 (zle_e rfl) (zle_e rfl)) (fun xsnapped2 xseed2 xtick2 xmotorTick2 xahead2 nrg h => h)) ?_
  refine fun nn_9 => Nat.strongRecOn nn_9 (fun nn_9 ih_11 => ?_)
  intro uf_1 u_2 u_4 u_5 u_6 u_7 u_8 hm_10 hv_3 KH_0
  refine k_iload_n X dX5_run_k0.2.2.2.1 0 rfl ?_
  refine k_aload_n X dX5_run_k0.2.2.2.2 1 rfl ?_
  refine k_get (ci := 5) X inlX5 rfl 0 (nlt_e rfl) dX5_run_k1.1.1.1.1 mw125 0 rfl rfl ?_
  refine k_get (ci := 8) X inlX8 rfl 3 (nlt_e rfl) dX5_run_k1.1.1.1.2 mw754 1 rfl rfl ?_
  refine k_ic_ge 107 X dX5_run_k1.1.1.2.1 (jp_e rfl) (fun h_12 => ?_) (fun h_12 => ?_)
  · skip
    have j_13 : nrn.toInt ≤ u_2.toInt := iv_le h_12
    exact k_vret X hr dX5_run_k3.2.2.2.2 (Nat.le_of_ble_eq_true rfl) (Nat.le_of_ble_eq_true rfl) [0, 1, 2, 3, 4, 5, 6, 7, 8, 9, 10, 11, 12] (vnd_e rfl) rfl rfl (exI6 u_4 u_5 u_6 u_7 u_8 uf_1 ⟨(KH_0 _ _ _ _ _ _ ⟨0 + 1, (Or.inl ⟨h_12, ⟨rfl, rfl, rfl, rfl, rfl, rfl⟩⟩)⟩), rfl⟩)
  · skip
    have j_14 : u_2.toInt < nrn.toInt := iv_nle h_12
    have iv_15 : IV u_2 0 2147483646 := iv_ltL (iv_nle h_12) hv_3 (iv_any nrn) (zle_e rfl)
    have iv_16 : IV nrn 1 2147483647 := iv_ltR (iv_nle h_12) hv_3 (iv_any nrn) (zle_e rfl)
    refine k_aload_n X dX5_run_k1.1.1.2.2 1 rfl ?_
    refine k_get (ci := 5) X inlX5 rfl 0 (nlt_e rfl) dX5_run_k1.1.2.1.1 mw125 0 rfl rfl ?_
    refine k_iload_n X dX5_run_k1.1.2.1.2 0 rfl ?_
    refine k_bipush (v := 8) X dX5_run_k1.1.2.2.1 bi_8 ?_
    refine k_aload_n X dX5_run_k1.1.2.2.2 1 rfl ?_
    refine k_get (ci := 5) X inlX5 rfl 7 (nlt_e rfl) dX5_run_k1.2.1.1.1 mw132 0 rfl rfl ?_
    refine k_callVV (n := 3) (As := [.int u_2, .int 8, .int u_7]) (st := []) X [(cO8_iiri nr 8 10 nrc nrn), (cAI g nrc 80 uf_1)] [(cO5_riiiiiiii h0 nr u_4 xmostSlip xslip xisDrawn u_5 u_6 u_7 u_8), (cO3_vrvvvvvv hh v0hh yhn v2hh v3hh v4hh v5hh v6hh v7hh), (cO8_iiri yhn 1 6 yhnc yhnn), (cAI g yhnc 6 yhnf), (cO7_rvrrii hs zr v1hs zw zp zmd ztr), (cO8_iiri zr 8 3 zrc zrn), (cAI g zrc 24 zrf), (cO8_iiri zp 8 2 zpc zpn), (cAI g zpc 16 zpf), (cO8_iiri zw 6 3 zwc zwn), (cAI g zwc 18 zwf)] [1, 2] [0, 3, 4, 5, 6, 7, 8, 9, 10, 11, 12] (t_put l g nr u_2 8 u_7 8 10 nrc nrn 80 uf_1 (tbk_8_10)) dX5_run_k1.2.1.1.2 mw766 mw326 mw327 mw64 mw328 rfl 8 rfl rfl 0 _ rfl yk_yX8_put_3 rfl (Nat.le_of_ble_eq_true rfl) (Nat.le_of_ble_eq_true rfl) (Nat.le_of_ble_eq_true rfl) (Nat.le_of_ble_eq_true rfl) (Nat.le_of_ble_eq_true rfl) rfl rfl (by decide +kernel) rfl (by decide +kernel) (by decide +kernel) ?_
    rintro w ⟨fa_17, hr_19, rfl⟩
    refine k_ws [(cO5_riiiiiiii h0 nr u_4 xmostSlip xslip xisDrawn u_5 u_6 u_7 u_8), (cO3_vrvvvvvv hh v0hh yhn v2hh v3hh v4hh v5hh v6hh v7hh), (cO8_iiri yhn 1 6 yhnc yhnn), (cAI g yhnc 6 yhnf), (cO7_rvrrii hs zr v1hs zw zp zmd ztr), (cO8_iiri zr 8 3 zrc zrn), (cAI g zrc 24 zrf), (cO8_iiri zp 8 2 zpc zpn), (cAI g zpc 16 zpf), (cO8_iiri zw 6 3 zwc zwn), (cAI g zwc 18 zwf), (cO8_iiri nr 8 10 nrc nrn), (cAI g nrc 80 fa_17)] rfl ?_
    refine k_aload_n X dX5_run_k1.2.1.2.1 3 rfl ?_
    refine k_get (ci := 7) X inlX7 rfl 0 (nlt_e rfl) dX5_run_k1.2.1.2.2 mw775 4 rfl rfl ?_
    refine k_aload_n X dX5_run_k1.2.2.1.1 3 rfl ?_
    refine k_iload_n X dX5_run_k1.2.2.1.2 0 rfl ?_
    refine k_callVI (n := 1) (As := [.int u_2]) (st := [.ref zr]) X [(cO7_rvrrii hs zr v1hs zw zp zmd ztr), (cO8_iiri zp 8 2 zpc zpn), (cAI g zpc 16 zpf)] [(cO5_riiiiiiii h0 nr u_4 xmostSlip xslip xisDrawn u_5 u_6 u_7 u_8), (cO3_vrvvvvvv hh v0hh yhn v2hh v3hh v4hh v5hh v6hh v7hh), (cO8_iiri yhn 1 6 yhnc yhnn), (cAI g yhnc 6 yhnf), (cO8_iiri zr 8 3 zrc zrn), (cAI g zrc 24 zrf), (cO8_iiri zw 6 3 zwc zwn), (cAI g zwc 18 zwf), (cO8_iiri nr 8 10 nrc nrn), (cAI g nrc 80 fa_17)] [4, 7, 8] [0, 1, 2, 3, 5, 6, 9, 10, 11, 12] (s_reelAtX l g hs u_2 (.ref zr) v1hs (.ref zw) zp zmd ztr zpc zpn zpf) dX5_run_k1.2.2.2.1 mw758 mw759 mw760 mw23 mw761 rfl 7 rfl rfl 0 _ rfl yk_yX7_reelAt_1 rfl (Nat.le_of_ble_eq_true rfl) (Nat.le_of_ble_eq_true rfl) (Nat.le_of_ble_eq_true rfl) (Nat.le_of_ble_eq_true rfl) (Nat.le_of_ble_eq_true rfl) rfl rfl (by decide +kernel) rfl (by decide +kernel) (by decide +kernel) ?_
    rintro r_20 w ⟨hq_21, rfl⟩
    refine k_ws [(cO5_riiiiiiii h0 nr u_4 xmostSlip xslip xisDrawn u_5 u_6 u_7 u_8), (cO3_vrvvvvvv hh v0hh yhn v2hh v3hh v4hh v5hh v6hh v7hh), (cO8_iiri yhn 1 6 yhnc yhnn), (cAI g yhnc 6 yhnf), (cO8_iiri zr 8 3 zrc zrn), (cAI g zrc 24 zrf), (cO8_iiri zw 6 3 zwc zwn), (cAI g zwc 18 zwf), (cO8_iiri nr 8 10 nrc nrn), (cAI g nrc 80 fa_17), (cO7_rvrrii hs zr v1hs zw zp zmd ztr), (cO8_iiri zp 8 2 zpc zpn), (cAI g zpc 16 zpf)] rfl ?_
    refine k_iconst (v := 0) X dX5_run_k1.2.2.2.2 ic_0 ?_
    refine k_callVI (n := 2) (As := [.int r_20, .int 0]) (st := []) X [(cO8_iiri zr 8 3 zrc zrn), (cAI g zrc 24 zrf)] [(cO5_riiiiiiii h0 nr u_4 xmostSlip xslip xisDrawn u_5 u_6 u_7 u_8), (cO3_vrvvvvvv hh v0hh yhn v2hh v3hh v4hh v5hh v6hh v7hh), (cO8_iiri yhn 1 6 yhnc yhnn), (cAI g yhnc 6 yhnf), (cO8_iiri zw 6 3 zwc zwn), (cAI g zwc 18 zwf), (cO8_iiri nr 8 10 nrc nrn), (cAI g nrc 80 fa_17), (cO7_rvrrii hs zr v1hs zw zp zmd ztr), (cO8_iiri zp 8 2 zpc zpn), (cAI g zpc 16 zpf)] [4, 5] [0, 1, 2, 3, 6, 7, 8, 9, 10, 11, 12] (t_at l g zr r_20 0 8 3 zrc zrn 24 zrf (tbk_8_3)) dX5_run_k2.1.1.1.1 mw757 mw376 mw377 mw64 mw378 rfl 8 rfl rfl 0 _ rfl yk_yX8_at_2 rfl (Nat.le_of_ble_eq_true rfl) (Nat.le_of_ble_eq_true rfl) (Nat.le_of_ble_eq_true rfl) (Nat.le_of_ble_eq_true rfl) (Nat.le_of_ble_eq_true rfl) rfl rfl (by decide +kernel) rfl (by decide +kernel) (by decide +kernel) ?_
    rintro r_22 w ⟨hr_23, rfl⟩
    refine k_ws [(cO5_riiiiiiii h0 nr u_4 xmostSlip xslip xisDrawn u_5 u_6 u_7 u_8), (cO3_vrvvvvvv hh v0hh yhn v2hh v3hh v4hh v5hh v6hh v7hh), (cO8_iiri yhn 1 6 yhnc yhnn), (cAI g yhnc 6 yhnf), (cO8_iiri zw 6 3 zwc zwn), (cAI g zwc 18 zwf), (cO8_iiri nr 8 10 nrc nrn), (cAI g nrc 80 fa_17), (cO7_rvrrii hs zr v1hs zw zp zmd ztr), (cO8_iiri zp 8 2 zpc zpn), (cAI g zpc 16 zpf), (cO8_iiri zr 8 3 zrc zrn), (cAI g zrc 24 zrf)] rfl ?_
    refine k_istore [(4, .int r_22), (3, .int u_2), (0, .ref h0), (1, .ref hh), (2, .ref hs)] X dX5_run_k2.1.1.1.2 (nlt_e rfl) rfl ?_
    refine k_aload_n X dX5_run_k2.1.1.2.1 2 rfl ?_
    refine k_get (ci := 5) X inlX5 rfl 8 (nlt_e rfl) dX5_run_k2.1.1.2.2 mw133 0 rfl rfl ?_
    refine k_iload X dX5_run_k2.1.2.1.1 0 rfl ?_
    refine k_ic_lt 81 X dX5_run_k2.1.2.1.2 (jp_e rfl) (fun h_24 => ?_) (fun h_24 => ?_)
    · skip
      have j_25 : u_8.toInt < r_22.toInt := iv_lt h_24
      have iv_26 : IV u_8 (-2147483648) 2147483646 := iv_ltL (iv_lt h_24) (iv_any u_8) (iv_any r_22) (zle_e rfl)
      have iv_27 : IV r_22 (-2147483647) 2147483647 := iv_ltR (iv_lt h_24) (iv_any u_8) (iv_any r_22) (zle_e rfl)
      refine k_aload_n X dX5_run_k2.2.1.2.2 2 rfl ?_
      refine k_aload_n X dX5_run_k2.2.2.1.1 3 rfl ?_
      refine k_aload_n X dX5_run_k2.2.2.1.2 4 rfl ?_
      refine k_iload_n X dX5_run_k2.2.2.2.1 1 rfl ?_
      refine k_iload X dX5_run_k2.2.2.2.2 0 rfl ?_
      refine k_callVV (n := 4) (As := [.ref hh, .ref hs, .int u_2, .int r_22]) (st := []) X [(cO5_riiiiiiii h0 nr u_4 xmostSlip xslip xisDrawn u_5 u_6 u_7 u_8), (cO8_iiri nr 8 10 nrc nrn), (cAI g nrc 80 fa_17), (cO3_vrvvvvvv hh v0hh yhn v2hh v3hh v4hh v5hh v6hh v7hh), (cO8_iiri yhn 1 6 yhnc yhnn), (cAI g yhnc 6 yhnf), (cO7_rvrrii hs zr v1hs zw zp zmd ztr), (cO8_iiri zp 8 2 zpc zpn), (cAI g zpc 16 zpf)] [(cO8_iiri zw 6 3 zwc zwn), (cAI g zwc 18 zwf), (cO8_iiri zr 8 3 zrc zrn), (cAI g zrc 24 zrf)] [0, 6, 7, 1, 2, 3, 8, 9, 10] [4, 5, 11, 12] (n_showReelX l g h0 hh hs u_2 r_22 nr u_4 xmostSlip xslip xisDrawn u_5 u_6 u_7 u_8 nrc nrn fa_17 v0hh yhn v2hh v3hh v4hh v5hh v6hh v7hh yhnc yhnn yhnf (.ref zr) v1hs (.ref zw) zp zmd ztr zpc zpn zpf (by assumption)) dX5_run_k3.1.1.1 mw780 mw781 mw782 mw31 mw783 rfl 5 rfl rfl 0 _ rfl yk_yX5_showReel_4 rfl (Nat.le_of_ble_eq_true rfl) (Nat.le_of_ble_eq_true rfl) (Nat.le_of_ble_eq_true rfl) (Nat.le_of_ble_eq_true rfl) (Nat.le_of_ble_eq_true rfl) rfl rfl (by decide +kernel) rfl (by decide +kernel) (by decide +kernel) ?_
      rintro w ⟨xseed2_28, xtick2_29, xmotorTick2_30, xahead2_31, nrg_32, hq_34, rfl⟩
      refine k_ws [(cO8_iiri zw 6 3 zwc zwn), (cAI g zwc 18 zwf), (cO8_iiri zr 8 3 zrc zrn), (cAI g zrc 24 zrf), (cO5_riiiiiiii h0 nr u_4 xmostSlip xslip xisDrawn xseed2_28 xtick2_29 xmotorTick2_30 xahead2_31), (cO8_iiri nr 8 10 nrc nrn), (cAI g nrc 80 nrg_32), (cO3_vrvvvvvv hh v0hh yhn v2hh v3hh v4hh v5hh v6hh v7hh), (cO8_iiri yhn 1 6 yhnc yhnn), (cAI g yhnc 6 yhnf), (cO7_rvrrii hs zr v1hs zw zp zmd ztr), (cO8_iiri zp 8 2 zpc zpn), (cAI g zpc 16 zpf)] rfl ?_
      refine k_aload_n X dX5_run_k3.1.1.2 2 rfl ?_
      refine k_aload_n X dX5_run_k3.1.2.1 3 rfl ?_
      refine k_aload_n X dX5_run_k3.1.2.2.1 4 rfl ?_
      refine k_aload_n X dX5_run_k3.1.2.2.2 4 rfl ?_
      refine k_iload_n X dX5_run_k3.2.1.1 1 rfl ?_
      refine k_callVI (n := 1) (As := [.int u_2]) (st := [.ref hs, .ref hh, .ref h0]) X [(cO7_rvrrii hs zr v1hs zw zp zmd ztr), (cO8_iiri zp 8 2 zpc zpn), (cAI g zpc 16 zpf)] [(cO8_iiri zw 6 3 zwc zwn), (cAI g zwc 18 zwf), (cO8_iiri zr 8 3 zrc zrn), (cAI g zrc 24 zrf), (cO5_riiiiiiii h0 nr u_4 xmostSlip xslip xisDrawn xseed2_28 xtick2_29 xmotorTick2_30 xahead2_31), (cO8_iiri nr 8 10 nrc nrn), (cAI g nrc 80 nrg_32), (cO3_vrvvvvvv hh v0hh yhn v2hh v3hh v4hh v5hh v6hh v7hh), (cO8_iiri yhn 1 6 yhnc yhnn), (cAI g yhnc 6 yhnf)] [10, 11, 12] [0, 1, 2, 3, 4, 5, 6, 7, 8, 9] (s_reelAtX l g hs u_2 (.ref zr) v1hs (.ref zw) zp zmd ztr zpc zpn zpf) dX5_run_k3.2.1.2.1 mw758 mw759 mw760 mw23 mw761 rfl 7 rfl rfl 0 _ rfl yk_yX7_reelAt_1 rfl (Nat.le_of_ble_eq_true rfl) (Nat.le_of_ble_eq_true rfl) (Nat.le_of_ble_eq_true rfl) (Nat.le_of_ble_eq_true rfl) (Nat.le_of_ble_eq_true rfl) rfl rfl (by decide +kernel) rfl (by decide +kernel) (by decide +kernel) ?_
      rintro r_35 w ⟨hq_36, rfl⟩
      refine k_ws [(cO8_iiri zw 6 3 zwc zwn), (cAI g zwc 18 zwf), (cO8_iiri zr 8 3 zrc zrn), (cAI g zrc 24 zrf), (cO5_riiiiiiii h0 nr u_4 xmostSlip xslip xisDrawn xseed2_28 xtick2_29 xmotorTick2_30 xahead2_31), (cO8_iiri nr 8 10 nrc nrn), (cAI g nrc 80 nrg_32), (cO3_vrvvvvvv hh v0hh yhn v2hh v3hh v4hh v5hh v6hh v7hh), (cO8_iiri yhn 1 6 yhnc yhnn), (cAI g yhnc 6 yhnf), (cO7_rvrrii hs zr v1hs zw zp zmd ztr), (cO8_iiri zp 8 2 zpc zpn), (cAI g zpc 16 zpf)] rfl ?_
      refine k_callVV (n := 3) (As := [.ref hh, .ref hs, .int r_35]) (st := []) X [(cO5_riiiiiiii h0 nr u_4 xmostSlip xslip xisDrawn xseed2_28 xtick2_29 xmotorTick2_30 xahead2_31), (cO3_vrvvvvvv hh v0hh yhn v2hh v3hh v4hh v5hh v6hh v7hh), (cO8_iiri yhn 1 6 yhnc yhnn), (cAI g yhnc 6 yhnf), (cO7_rvrrii hs zr v1hs zw zp zmd ztr), (cO8_iiri zw 6 3 zwc zwn), (cAI g zwc 18 zwf)] [(cO8_iiri zr 8 3 zrc zrn), (cAI g zrc 24 zrf), (cO8_iiri nr 8 10 nrc nrn), (cAI g nrc 80 nrg_32), (cO8_iiri zp 8 2 zpc zpn), (cAI g zpc 16 zpf)] [4, 7, 8, 9, 10, 0, 1] [2, 3, 5, 6, 11, 12] (n_snapWeakPlacesX l g h0 hh hs r_35 nr u_4 xmostSlip xslip xisDrawn xseed2_28 xtick2_29 xmotorTick2_30 xahead2_31 v0hh yhn v2hh v3hh v4hh v5hh v6hh v7hh yhnc yhnn yhnf (.ref zr) v1hs zw (.ref zp) zmd ztr zwc zwn zwf) dX5_run_k3.2.1.2.2 mw797 mw798 mw799 mw31 mw800 rfl 5 rfl rfl 0 _ rfl yk_yX5_snapWeakPlaces_3 rfl (Nat.le_of_ble_eq_true rfl) (Nat.le_of_ble_eq_true rfl) (Nat.le_of_ble_eq_true rfl) (Nat.le_of_ble_eq_true rfl) (Nat.le_of_ble_eq_true rfl) rfl rfl (by decide +kernel) rfl (by decide +kernel) (by decide +kernel) ?_
      rintro w ⟨xseed2_37, xsnapped2_38, hq_40, rfl⟩
      refine k_ws [(cO8_iiri zr 8 3 zrc zrn), (cAI g zrc 24 zrf), (cO8_iiri nr 8 10 nrc nrn), (cAI g nrc 80 nrg_32), (cO8_iiri zp 8 2 zpc zpn), (cAI g zpc 16 zpf), (cO5_riiiiiiii h0 nr xsnapped2_38 xmostSlip xslip xisDrawn xseed2_37 xtick2_29 xmotorTick2_30 xahead2_31), (cO3_vrvvvvvv hh v0hh yhn v2hh v3hh v4hh v5hh v6hh v7hh), (cO8_iiri yhn 1 6 yhnc yhnn), (cAI g yhnc 6 yhnf), (cO7_rvrrii hs zr v1hs zw zp zmd ztr), (cO8_iiri zw 6 3 zwc zwn), (cAI g zwc 18 zwf)] rfl ?_
      obtain ⟨z_41, ez_41⟩ : ∃ y : Int32, u_2 + Int32.ofInt 1 = y := ⟨_, rfl⟩
      refine k_iinc z_41 [(3, .int z_41), (4, .int r_22), (0, .ref h0), (1, .ref hh), (2, .ref hs)] 1 X dX5_run_k3.2.2.1 rfl ez_41 (nlt_e rfl) rfl ?_
      have i_42 : z_41.toInt = u_2.toInt + 1 := in_inc ez_41 (oin_e rfl) iv_15 (zle_e rfl) (zle_e rfl)
      have iv_43 : IV z_41 1 2147483647 := iz1 i_42 iv_15 (zle_e rfl) (zle_e rfl)
      refine k_goto 22 X dX5_run_k3.2.2.2.1 (jp_e rfl) ?_
      refine k_lv [(3, .int z_41), (0, .ref h0), (1, .ref hh), (2, .ref hs)] [0, 2, 3, 4] rfl ?_
      refine k_sub [(cO5_riiiiiiii h0 nr xsnapped2_38 xmostSlip xslip xisDrawn xseed2_37 xtick2_29 xmotorTick2_30 xahead2_31), (cO8_iiri nr 8 10 nrc nrn), (cAI g nrc 80 nrg_32), (cO3_vrvvvvvv hh v0hh yhn v2hh v3hh v4hh v5hh v6hh v7hh), (cO8_iiri yhn 1 6 yhnc yhnn), (cAI g yhnc 6 yhnf), (cO7_rvrrii hs zr v1hs zw zp zmd ztr), (cO8_iiri zr 8 3 zrc zrn), (cAI g zrc 24 zrf), (cO8_iiri zp 8 2 zpc zpn), (cAI g zpc 16 zpf), (cO8_iiri zw 6 3 zwc zwn), (cAI g zwc 18 zwf)] [6, 2, 3, 7, 8, 9, 10, 0, 1, 4, 5, 11, 12] rfl (by decide) rfl ?_
      exact ih_11 _ (by omega) nrg_32 z_41 xsnapped2_38 xseed2_37 xtick2_29 xmotorTick2_30 xahead2_31 rfl (iv_w iv_43 (zle_e rfl) (zle_e rfl)) (fun xsnapped2 xseed2 xtick2 xmotorTick2 xahead2 nrg h => h.elim (fun n_0 q => (KH_0 _ _ _ _ _ _ ⟨n_0 + 1, (Or.inr ⟨h_12, ⟨fa_17, hr_19, ⟨r_20, hq_21, ⟨r_22, hr_23, (Or.inl ⟨h_24, ⟨xseed2_28, xtick2_29, xmotorTick2_30, xahead2_31, nrg_32, hq_34, ⟨r_35, hq_36, ⟨xseed2_37, xsnapped2_38, hq_40, ⟨z_41, ez_41, q⟩⟩⟩⟩⟩)⟩⟩⟩⟩)⟩)))
    · skip
      have j_44 : r_22.toInt ≤ u_8.toInt := iv_nlt h_24
      refine k_aload_n X dX5_run_k2.1.2.2.1 2 rfl ?_
      refine k_iload_n X dX5_run_k2.1.2.2.2 1 rfl ?_
      refine k_iload X dX5_run_k2.2.1.1.1 0 rfl ?_
      refine k_callVV (n := 2) (As := [.int u_2, .int r_22]) (st := []) X [(cO5_riiiiiiii h0 nr u_4 xmostSlip xslip xisDrawn u_5 u_6 u_7 u_8), (cO8_iiri nr 8 10 nrc nrn), (cAI g nrc 80 fa_17)] [(cO3_vrvvvvvv hh v0hh yhn v2hh v3hh v4hh v5hh v6hh v7hh), (cO8_iiri yhn 1 6 yhnc yhnn), (cAI g yhnc 6 yhnf), (cO8_iiri zw 6 3 zwc zwn), (cAI g zwc 18 zwf), (cO7_rvrrii hs zr v1hs zw zp zmd ztr), (cO8_iiri zp 8 2 zpc zpn), (cAI g zpc 16 zpf), (cO8_iiri zr 8 3 zrc zrn), (cAI g zrc 24 zrf)] [0, 6, 7] [1, 2, 3, 4, 5, 8, 9, 10, 11, 12] (n_goByX l g h0 u_2 r_22 nr u_4 xmostSlip xslip xisDrawn u_5 u_6 u_7 u_8 nrc nrn fa_17) dX5_run_k2.2.1.1.2 mw776 mw777 mw778 mw31 mw779 rfl 5 rfl rfl 0 _ rfl yk_yX5_goBy_2 rfl (Nat.le_of_ble_eq_true rfl) (Nat.le_of_ble_eq_true rfl) (Nat.le_of_ble_eq_true rfl) (Nat.le_of_ble_eq_true rfl) (Nat.le_of_ble_eq_true rfl) rfl rfl (by decide +kernel) rfl (by decide +kernel) (by decide +kernel) ?_
      rintro w ⟨xmotorTick2_45, xahead2_46, nrg_47, hq_49, rfl⟩
      refine k_ws [(cO3_vrvvvvvv hh v0hh yhn v2hh v3hh v4hh v5hh v6hh v7hh), (cO8_iiri yhn 1 6 yhnc yhnn), (cAI g yhnc 6 yhnf), (cO8_iiri zw 6 3 zwc zwn), (cAI g zwc 18 zwf), (cO7_rvrrii hs zr v1hs zw zp zmd ztr), (cO8_iiri zp 8 2 zpc zpn), (cAI g zpc 16 zpf), (cO8_iiri zr 8 3 zrc zrn), (cAI g zrc 24 zrf), (cO5_riiiiiiii h0 nr u_4 xmostSlip xslip xisDrawn u_5 u_6 xmotorTick2_45 xahead2_46), (cO8_iiri nr 8 10 nrc nrn), (cAI g nrc 80 nrg_47)] rfl ?_
      refine k_goto 101 X dX5_run_k2.2.1.2.1 (jp_e rfl) ?_
      obtain ⟨z_50, ez_50⟩ : ∃ y : Int32, u_2 + Int32.ofInt 1 = y := ⟨_, rfl⟩
      refine k_iinc z_50 [(3, .int z_50), (4, .int r_22), (0, .ref h0), (1, .ref hh), (2, .ref hs)] 1 X dX5_run_k3.2.2.1 rfl ez_50 (nlt_e rfl) rfl ?_
      have i_51 : z_50.toInt = u_2.toInt + 1 := in_inc ez_50 (oin_e rfl) iv_15 (zle_e rfl) (zle_e rfl)
      have iv_52 : IV z_50 1 2147483647 := iz1 i_51 iv_15 (zle_e rfl) (zle_e rfl)
      refine k_goto 22 X dX5_run_k3.2.2.2.1 (jp_e rfl) ?_
      refine k_lv [(3, .int z_50), (0, .ref h0), (1, .ref hh), (2, .ref hs)] [0, 2, 3, 4] rfl ?_
      refine k_sub [(cO5_riiiiiiii h0 nr u_4 xmostSlip xslip xisDrawn u_5 u_6 xmotorTick2_45 xahead2_46), (cO8_iiri nr 8 10 nrc nrn), (cAI g nrc 80 nrg_47), (cO3_vrvvvvvv hh v0hh yhn v2hh v3hh v4hh v5hh v6hh v7hh), (cO8_iiri yhn 1 6 yhnc yhnn), (cAI g yhnc 6 yhnf), (cO7_rvrrii hs zr v1hs zw zp zmd ztr), (cO8_iiri zr 8 3 zrc zrn), (cAI g zrc 24 zrf), (cO8_iiri zp 8 2 zpc zpn), (cAI g zpc 16 zpf), (cO8_iiri zw 6 3 zwc zwn), (cAI g zwc 18 zwf)] [10, 11, 12, 0, 1, 2, 5, 8, 9, 6, 7, 3, 4] rfl (by decide) rfl ?_
      exact ih_11 _ (by omega) nrg_47 z_50 u_4 u_5 u_6 xmotorTick2_45 xahead2_46 rfl (iv_w iv_52 (zle_e rfl) (zle_e rfl)) (fun xsnapped2 xseed2 xtick2 xmotorTick2 xahead2 nrg h => h.elim (fun n_0 q => (KH_0 _ _ _ _ _ _ ⟨n_0 + 1, (Or.inr ⟨h_12, ⟨fa_17, hr_19, ⟨r_20, hq_21, ⟨r_22, hr_23, (Or.inr ⟨h_24, ⟨xmotorTick2_45, xahead2_46, nrg_47, hq_49, ⟨z_50, ez_50, q⟩⟩⟩)⟩⟩⟩⟩)⟩)))


set_option maxHeartbeats 4000000 in
set_option maxRecDepth 100000 in
theorem n_meetX (l : Launch) (g : Gx) (h0 : Nat) (hh : Nat) (hs : Nat) (p0 : Int32) (nr : Nat) (xsnapped : Int32) (xmostSlip : Int32) (xslip : Int32) (xisDrawn : Int32) (xseed : Int32) (xtick : Int32) (xmotorTick : Int32) (xahead : Int32) (nrc : Nat) (nrn : Int32) (nrf : Nat → Int32) (v0hh : Value) (v1hh : Value) (v2hh : Value) (v3hh : Value) (yhm : Nat) (v5hh : Value) (v6hh : Value) (v7hh : Value) (yhmc : Nat) (yhmn : Int32) (yhmf : Nat → Int32) (zr : Nat) (zm : Nat) (v2hs : Value) (zp : Nat) (zmd : Int32) (ztr : Int32) (zrc : Nat) (zrn : Int32) (zrf : Nat → Int32) (zmc : Nat) (zmn : Int32) (zmf : Nat → Int32) (zpc : Nat) (zpn : Int32) (zpf : Nat → Int32) : cV l g yX5_meet cX5_meet 5 2 49 0 0 [.ref h0, .ref hh, .ref hs, .int p0] [(cO5_riiiiiiii h0 nr xsnapped xmostSlip xslip xisDrawn xseed xtick xmotorTick xahead), (cO8_iiri nr 8 10 nrc nrn), (cAI g nrc 80 nrf), (cO3_vvvvrvvv hh v0hh v1hh v2hh v3hh yhm v5hh v6hh v7hh), (cO8_iiri yhm 4 3 yhmc yhmn), (cAI g yhmc 12 yhmf), (cO7_rrvrii hs zr zm v2hs zp zmd ztr), (cO8_iiri zr 8 3 zrc zrn), (cAI g zrc 24 zrf), (cO8_iiri zm 12 3 zmc zmn), (cAI g zmc 36 zmf), (cO8_iiri zp 8 2 zpc zpn), (cAI g zpc 16 zpf)] (fun w => ∃ (xmostSlip2 : Int32) (nrg : Nat → Int32) (nrk : Int32), (¬ xmostSlip2 < 0) ∧ (R_n_meetX p0 nrf yhmf zrf zmn zmf zpn zpf xmostSlip2 nrg nrk) ∧ w = [(cO5_riiiiiiii h0 nr xsnapped xmostSlip2 xslip xisDrawn xseed xtick xmotorTick xahead), (cO8_iiri nr 8 10 nrc nrk), (cAI g nrc 80 nrg), (cO3_vvvvrvvv hh v0hh v1hh v2hh v3hh yhm v5hh v6hh v7hh), (cO8_iiri yhm 4 3 yhmc yhmn), (cAI g yhmc 12 yhmf), (cO7_rrvrii hs zr zm v2hs zp zmd ztr), (cO8_iiri zr 8 3 zrc zrn), (cAI g zrc 24 zrf), (cO8_iiri zm 12 3 zmc zmn), (cAI g zmc 36 zmf), (cO8_iiri zp 8 2 zpc zpn), (cAI g zpc 16 zpf)]) := by
  refine cV.of (by decide) (Nat.le_of_ble_eq_true rfl) ?_
  intro p e s m args below meth c A X hr hi
  refine k_lveq [(0, .ref h0), (1, .ref hh), (2, .ref hs), (3, .int p0)] rfl ?_
  refine k_aload_n X dX5_meet_k0.1.1.1.1 0 rfl ?_
  refine k_get (ci := 5) X inlX5 rfl 0 (nlt_e rfl) dX5_meet_k0.1.1.1.2 mw125 0 rfl rfl ?_
  refine k_aload_n X dX5_meet_k0.1.1.2.1 2 rfl ?_
  refine k_get (ci := 7) X inlX7 rfl 3 (nlt_e rfl) dX5_meet_k0.1.1.2.2 mw753 6 rfl rfl ?_
  refine k_get (ci := 8) X inlX8 rfl 3 (nlt_e rfl) dX5_meet_k0.1.2.1.1 mw754 11 rfl rfl ?_
  refine k_put (ci := 8) [(cO5_riiiiiiii h0 nr xsnapped xmostSlip xslip xisDrawn xseed xtick xmotorTick xahead), (cO8_iiri nr 8 10 nrc zpn), (cAI g nrc 80 nrf), (cO3_vvvvrvvv hh v0hh v1hh v2hh v3hh yhm v5hh v6hh v7hh), (cO8_iiri yhm 4 3 yhmc yhmn), (cAI g yhmc 12 yhmf), (cO7_rrvrii hs zr zm v2hs zp zmd ztr), (cO8_iiri zr 8 3 zrc zrn), (cAI g zrc 24 zrf), (cO8_iiri zm 12 3 zmc zmn), (cAI g zmc 36 zmf), (cO8_iiri zp 8 2 zpc zpn), (cAI g zpc 16 zpf)] X inlX8 rfl tyX8_ok nmX8 3 (nlt_e rfl) rfl dX5_meet_k0.1.2.1.2 mw754 1 rfl rfl rfl (Nat.le_of_ble_eq_true rfl) rfl ?_
  refine k_aload_n X dX5_meet_k0.1.2.2.1 0 rfl ?_
  refine k_iconst (v := 0) X dX5_meet_k0.1.2.2.2 ic_0 ?_
  refine k_aload_n X dX5_meet_k0.2.1.1.1 1 rfl ?_
  refine k_get (ci := 3) X inlX3 rfl 4 (nlt_e rfl) dX5_meet_k0.2.1.1.2 mw755 3 rfl rfl ?_
  refine k_iload_n X dX5_meet_k0.2.1.2.1 3 rfl ?_
  refine k_iconst (v := 2) X dX5_meet_k0.2.1.2.2 ic_2 ?_
  refine k_callVI (n := 2) (As := [.int p0, .int 2]) (st := [.int 0, .ref h0]) X [(cO8_iiri yhm 4 3 yhmc yhmn), (cAI g yhmc 12 yhmf)] [(cO5_riiiiiiii h0 nr xsnapped xmostSlip xslip xisDrawn xseed xtick xmotorTick xahead), (cO8_iiri nr 8 10 nrc zpn), (cAI g nrc 80 nrf), (cO3_vvvvrvvv hh v0hh v1hh v2hh v3hh yhm v5hh v6hh v7hh), (cO7_rrvrii hs zr zm v2hs zp zmd ztr), (cO8_iiri zr 8 3 zrc zrn), (cAI g zrc 24 zrf), (cO8_iiri zm 12 3 zmc zmn), (cAI g zmc 36 zmf), (cO8_iiri zp 8 2 zpc zpn), (cAI g zpc 16 zpf)] [4, 5] [0, 1, 2, 3, 6, 7, 8, 9, 10, 11, 12] (t_at l g yhm p0 2 4 3 yhmc yhmn 12 yhmf (tbk_4_3)) dX5_meet_k0.2.2.1.1 mw757 mw376 mw377 mw64 mw378 rfl 8 rfl rfl 0 _ rfl yk_yX8_at_2 rfl (Nat.le_of_ble_eq_true rfl) (Nat.le_of_ble_eq_true rfl) (Nat.le_of_ble_eq_true rfl) (Nat.le_of_ble_eq_true rfl) (Nat.le_of_ble_eq_true rfl) rfl rfl (by decide +kernel) rfl (by decide +kernel) (by decide +kernel) ?_
  rintro r_1 w ⟨hr_2, rfl⟩
  refine k_ws [(cO5_riiiiiiii h0 nr xsnapped xmostSlip xslip xisDrawn xseed xtick xmotorTick xahead), (cO8_iiri nr 8 10 nrc zpn), (cAI g nrc 80 nrf), (cO3_vvvvrvvv hh v0hh v1hh v2hh v3hh yhm v5hh v6hh v7hh), (cO7_rrvrii hs zr zm v2hs zp zmd ztr), (cO8_iiri zr 8 3 zrc zrn), (cAI g zrc 24 zrf), (cO8_iiri zm 12 3 zmc zmn), (cAI g zmc 36 zmf), (cO8_iiri zp 8 2 zpc zpn), (cAI g zpc 16 zpf), (cO8_iiri yhm 4 3 yhmc yhmn), (cAI g yhmc 12 yhmf)] rfl ?_
  refine k_mmax X dX5_meet_k0.2.2.1.2 mw756 mw102 mw103 mw104 (Nat.le_of_ble_eq_true rfl) (Nat.le_of_ble_eq_true rfl) (Nat.zero_le _) (Nat.zero_le _) ?_
  refine k_nm (fun z_3 ez_3 => ?_)
  refine k_put (ci := 5) [(cO5_riiiiiiii h0 nr xsnapped z_3 xslip xisDrawn xseed xtick xmotorTick xahead), (cO8_iiri nr 8 10 nrc zpn), (cAI g nrc 80 nrf), (cO3_vvvvrvvv hh v0hh v1hh v2hh v3hh yhm v5hh v6hh v7hh), (cO7_rrvrii hs zr zm v2hs zp zmd ztr), (cO8_iiri zr 8 3 zrc zrn), (cAI g zrc 24 zrf), (cO8_iiri zm 12 3 zmc zmn), (cAI g zmc 36 zmf), (cO8_iiri zp 8 2 zpc zpn), (cAI g zpc 16 zpf), (cO8_iiri yhm 4 3 yhmc yhmn), (cAI g yhmc 12 yhmf)] X inlX5 rfl tyX5_ok nmX5 2 (nlt_e rfl) rfl dX5_meet_k0.2.2.2.1 mw127 0 rfl rfl rfl (Nat.le_of_ble_eq_true rfl) rfl ?_
  refine k_iconst (v := 0) X dX5_meet_k0.2.2.2.2 ic_0 ?_
  refine k_istore [(4, .int 0), (0, .ref h0), (1, .ref hh), (2, .ref hs), (3, .int p0)] X dX5_meet_k1.1.1.1.1 (nlt_e rfl) rfl ?_
  refine (fun hL : ∀ (nn_7 : Nat) (uf_4 : Nat → Int32) (u_5 : Int32), (zpn.toInt - u_5.toInt).toNat = nn_7 → (IV u_5 0 2147483647) → (∀ (xmostSlip2 : Int32) (nrg : Nat → Int32) (nrk : Int32), (∃ n_0 : Nat, R_n_meetX_L0 p0 yhmf zrf zmn zmf zpn zpf (fun (uf_4 : Nat → Int32) => xmostSlip2 = z_3 ∧ nrg = uf_4 ∧ nrk = zpn) n_0 uf_4 u_5) → R_n_meetX p0 nrf yhmf zrf zmn zmf zpn zpf xmostSlip2 nrg nrk) → Wk p l e _ s m args below meth c _ A g _ _ _ [(cO5_riiiiiiii h0 nr xsnapped z_3 xslip xisDrawn xseed xtick xmotorTick xahead), (cO8_iiri nr 8 10 nrc zpn), (cAI g nrc 80 uf_4), (cO3_vvvvrvvv hh v0hh v1hh v2hh v3hh yhm v5hh v6hh v7hh), (cO7_rrvrii hs zr zm v2hs zp zmd ztr), (cO8_iiri zr 8 3 zrc zrn), (cAI g zrc 24 zrf), (cO8_iiri zm 12 3 zmc zmn), (cAI g zmc 36 zmf), (cO8_iiri zp 8 2 zpc zpn), (cAI g zpc 16 zpf), (cO8_iiri yhm 4 3 yhmc yhmn), (cAI g yhmc 12 yhmf)] [(4, .int u_5), (0, .ref h0), (1, .ref hh), (2, .ref hs), (3, .int p0)] 34 [] => hL _ nrf 0 rfl (iv_w iq_0_0_0 (zle_e rfl) (zle_e rfl)) (fun xmostSlip2 nrg nrk h => ⟨r_1, hr_2, ⟨z_3, ez_3, h⟩⟩)) ?_
  refine fun nn_7 => Nat.strongRecOn nn_7 (fun nn_7 ih_9 => ?_)
  intro uf_4 u_5 hm_8 hv_6 KH_0
  refine k_iload X dX5_meet_k1.1.1.1.2 0 rfl ?_
  refine k_aload_n X dX5_meet_k1.1.1.2.1 1 rfl ?_
  refine k_get (ci := 5) X inlX5 rfl 0 (nlt_e rfl) dX5_meet_k1.1.1.2.2 mw125 0 rfl rfl ?_
  refine k_get (ci := 8) X inlX8 rfl 3 (nlt_e rfl) dX5_meet_k1.1.2.1.1 mw754 1 rfl rfl ?_
  refine k_ic_ge 78 X dX5_meet_k1.1.2.1.2 (jp_e rfl) (fun h_10 => ?_) (fun h_10 => ?_)
  · skip
    have j_11 : zpn.toInt ≤ u_5.toInt := iv_le h_10
    exact k_vret X hr dX5_meet_k2.2.2.2 (Nat.le_of_ble_eq_true rfl) (Nat.le_of_ble_eq_true rfl) [0, 1, 2, 3, 11, 12, 4, 5, 6, 7, 8, 9, 10] (vnd_e rfl) rfl rfl ⟨z_3, uf_4, zpn, (mx0 (by assumption)), (KH_0 _ _ _ ⟨0 + 1, (Or.inl ⟨h_10, ⟨rfl, rfl, rfl⟩⟩)⟩), rfl⟩
  · skip
    have j_12 : u_5.toInt < zpn.toInt := iv_nle h_10
    have iv_13 : IV u_5 0 2147483646 := iv_ltL (iv_nle h_10) hv_6 (iv_any zpn) (zle_e rfl)
    have iv_14 : IV zpn 1 2147483647 := iv_ltR (iv_nle h_10) hv_6 (iv_any zpn) (zle_e rfl)
    refine k_aload_n X dX5_meet_k1.1.2.2.1 1 rfl ?_
    refine k_get (ci := 5) X inlX5 rfl 0 (nlt_e rfl) dX5_meet_k1.1.2.2.2 mw125 0 rfl rfl ?_
    refine k_iload X dX5_meet_k1.2.1.1.1 0 rfl ?_
    refine k_bipush (v := 9) X dX5_meet_k1.2.1.1.2 bi_9 ?_
    refine k_aload_n X dX5_meet_k1.2.1.2.1 3 rfl ?_
    refine k_aload_n X dX5_meet_k1.2.1.2.2 2 rfl ?_
    refine k_get (ci := 3) X inlX3 rfl 4 (nlt_e rfl) dX5_meet_k1.2.2.1.1 mw755 3 rfl rfl ?_
    refine k_iload_n X dX5_meet_k1.2.2.1.2 4 rfl ?_
    refine k_aload_n X dX5_meet_k1.2.2.2.1 3 rfl ?_
    refine k_iload X dX5_meet_k1.2.2.2.2 0 rfl ?_
    refine k_callVI (n := 1) (As := [.int u_5]) (st := [.int p0, .ref yhm, .ref hs, .int 9, .int u_5, .ref nr]) X [(cO7_rrvrii hs zr zm v2hs zp zmd ztr), (cO8_iiri zp 8 2 zpc zpn), (cAI g zpc 16 zpf)] [(cO5_riiiiiiii h0 nr xsnapped z_3 xslip xisDrawn xseed xtick xmotorTick xahead), (cO8_iiri nr 8 10 nrc zpn), (cAI g nrc 80 uf_4), (cO3_vvvvrvvv hh v0hh v1hh v2hh v3hh yhm v5hh v6hh v7hh), (cO8_iiri zr 8 3 zrc zrn), (cAI g zrc 24 zrf), (cO8_iiri zm 12 3 zmc zmn), (cAI g zmc 36 zmf), (cO8_iiri yhm 4 3 yhmc yhmn), (cAI g yhmc 12 yhmf)] [4, 9, 10] [0, 1, 2, 3, 5, 6, 7, 8, 11, 12] (s_reelAtX l g hs u_5 (.ref zr) (.ref zm) v2hs zp zmd ztr zpc zpn zpf) dX5_meet_k2.1.1 mw758 mw759 mw760 mw23 mw761 rfl 7 rfl rfl 0 _ rfl yk_yX7_reelAt_1 rfl (Nat.le_of_ble_eq_true rfl) (Nat.le_of_ble_eq_true rfl) (Nat.le_of_ble_eq_true rfl) (Nat.le_of_ble_eq_true rfl) (Nat.le_of_ble_eq_true rfl) rfl rfl (by decide +kernel) rfl (by decide +kernel) (by decide +kernel) ?_
    rintro r_15 w ⟨hq_16, rfl⟩
    refine k_ws [(cO5_riiiiiiii h0 nr xsnapped z_3 xslip xisDrawn xseed xtick xmotorTick xahead), (cO8_iiri nr 8 10 nrc zpn), (cAI g nrc 80 uf_4), (cO3_vvvvrvvv hh v0hh v1hh v2hh v3hh yhm v5hh v6hh v7hh), (cO8_iiri zr 8 3 zrc zrn), (cAI g zrc 24 zrf), (cO8_iiri zm 12 3 zmc zmn), (cAI g zmc 36 zmf), (cO8_iiri yhm 4 3 yhmc yhmn), (cAI g yhmc 12 yhmf), (cO7_rrvrii hs zr zm v2hs zp zmd ztr), (cO8_iiri zp 8 2 zpc zpn), (cAI g zpc 16 zpf)] rfl ?_
    refine k_callVI (n := 3) (As := [.ref yhm, .int p0, .int r_15]) (st := [.int 9, .int u_5, .ref nr]) X [(cO7_rrvrii hs zr zm v2hs zp zmd ztr), (cO8_iiri zr 8 3 zrc zrn), (cAI g zrc 24 zrf), (cO8_iiri zm 12 3 zmc zmn), (cAI g zmc 36 zmf), (cO8_iiri yhm 4 3 yhmc yhmn), (cAI g yhmc 12 yhmf)] [(cO5_riiiiiiii h0 nr xsnapped z_3 xslip xisDrawn xseed xtick xmotorTick xahead), (cO8_iiri nr 8 10 nrc zpn), (cAI g nrc 80 uf_4), (cO3_vvvvrvvv hh v0hh v1hh v2hh v3hh yhm v5hh v6hh v7hh), (cO8_iiri zp 8 2 zpc zpn), (cAI g zpc 16 zpf)] [10, 4, 5, 6, 7, 8, 9] [0, 1, 2, 3, 11, 12] (s_believedByX l g hs yhm p0 r_15 zr zm v2hs (.ref zp) zmd ztr zrc zrn zrf zmc zmn zmf yhmc yhmn yhmf) dX5_meet_k2.1.2.1 mw762 mw763 mw764 mw23 mw765 rfl 7 rfl rfl 0 _ rfl yk_yX7_believedBy_3 rfl (Nat.le_of_ble_eq_true rfl) (Nat.le_of_ble_eq_true rfl) (Nat.le_of_ble_eq_true rfl) (Nat.le_of_ble_eq_true rfl) (Nat.le_of_ble_eq_true rfl) rfl rfl (by decide +kernel) rfl (by decide +kernel) (by decide +kernel) ?_
    rintro r_17 w ⟨hq_18, rfl⟩
    refine k_ws [(cO5_riiiiiiii h0 nr xsnapped z_3 xslip xisDrawn xseed xtick xmotorTick xahead), (cO8_iiri nr 8 10 nrc zpn), (cAI g nrc 80 uf_4), (cO3_vvvvrvvv hh v0hh v1hh v2hh v3hh yhm v5hh v6hh v7hh), (cO8_iiri zp 8 2 zpc zpn), (cAI g zpc 16 zpf), (cO7_rrvrii hs zr zm v2hs zp zmd ztr), (cO8_iiri zr 8 3 zrc zrn), (cAI g zrc 24 zrf), (cO8_iiri zm 12 3 zmc zmn), (cAI g zmc 36 zmf), (cO8_iiri yhm 4 3 yhmc yhmn), (cAI g yhmc 12 yhmf)] rfl ?_
    refine k_callVV (n := 3) (As := [.int u_5, .int 9, .int r_17]) (st := []) X [(cO8_iiri nr 8 10 nrc zpn), (cAI g nrc 80 uf_4)] [(cO5_riiiiiiii h0 nr xsnapped z_3 xslip xisDrawn xseed xtick xmotorTick xahead), (cO3_vvvvrvvv hh v0hh v1hh v2hh v3hh yhm v5hh v6hh v7hh), (cO8_iiri zp 8 2 zpc zpn), (cAI g zpc 16 zpf), (cO7_rrvrii hs zr zm v2hs zp zmd ztr), (cO8_iiri zr 8 3 zrc zrn), (cAI g zrc 24 zrf), (cO8_iiri zm 12 3 zmc zmn), (cAI g zmc 36 zmf), (cO8_iiri yhm 4 3 yhmc yhmn), (cAI g yhmc 12 yhmf)] [1, 2] [0, 3, 4, 5, 6, 7, 8, 9, 10, 11, 12] (t_put l g nr u_5 9 r_17 8 10 nrc zpn 80 uf_4 (tbk_8_10)) dX5_meet_k2.1.2.2 mw766 mw326 mw327 mw64 mw328 rfl 8 rfl rfl 0 _ rfl yk_yX8_put_3 rfl (Nat.le_of_ble_eq_true rfl) (Nat.le_of_ble_eq_true rfl) (Nat.le_of_ble_eq_true rfl) (Nat.le_of_ble_eq_true rfl) (Nat.le_of_ble_eq_true rfl) rfl rfl (by decide +kernel) rfl (by decide +kernel) (by decide +kernel) ?_
    rintro w ⟨fa_19, hr_21, rfl⟩
    refine k_ws [(cO5_riiiiiiii h0 nr xsnapped z_3 xslip xisDrawn xseed xtick xmotorTick xahead), (cO3_vvvvrvvv hh v0hh v1hh v2hh v3hh yhm v5hh v6hh v7hh), (cO8_iiri zp 8 2 zpc zpn), (cAI g zpc 16 zpf), (cO7_rrvrii hs zr zm v2hs zp zmd ztr), (cO8_iiri zr 8 3 zrc zrn), (cAI g zrc 24 zrf), (cO8_iiri zm 12 3 zmc zmn), (cAI g zmc 36 zmf), (cO8_iiri yhm 4 3 yhmc yhmn), (cAI g yhmc 12 yhmf), (cO8_iiri nr 8 10 nrc zpn), (cAI g nrc 80 fa_19)] rfl ?_
    obtain ⟨z_22, ez_22⟩ : ∃ y : Int32, u_5 + Int32.ofInt 1 = y := ⟨_, rfl⟩
    refine k_iinc z_22 [(4, .int z_22), (0, .ref h0), (1, .ref hh), (2, .ref hs), (3, .int p0)] 0 X dX5_meet_k2.2.1 rfl ez_22 (nlt_e rfl) rfl ?_
    have i_23 : z_22.toInt = u_5.toInt + 1 := in_inc ez_22 (oin_e rfl) iv_13 (zle_e rfl) (zle_e rfl)
    have iv_24 : IV z_22 1 2147483647 := iz1 i_23 iv_13 (zle_e rfl) (zle_e rfl)
    refine k_goto 34 X dX5_meet_k2.2.2.1 (jp_e rfl) ?_
    refine k_sub [(cO5_riiiiiiii h0 nr xsnapped z_3 xslip xisDrawn xseed xtick xmotorTick xahead), (cO8_iiri nr 8 10 nrc zpn), (cAI g nrc 80 fa_19), (cO3_vvvvrvvv hh v0hh v1hh v2hh v3hh yhm v5hh v6hh v7hh), (cO7_rrvrii hs zr zm v2hs zp zmd ztr), (cO8_iiri zr 8 3 zrc zrn), (cAI g zrc 24 zrf), (cO8_iiri zm 12 3 zmc zmn), (cAI g zmc 36 zmf), (cO8_iiri zp 8 2 zpc zpn), (cAI g zpc 16 zpf), (cO8_iiri yhm 4 3 yhmc yhmn), (cAI g yhmc 12 yhmf)] [0, 11, 12, 1, 4, 5, 6, 7, 8, 2, 3, 9, 10] rfl (by decide) rfl ?_
    exact ih_9 _ (by omega) fa_19 z_22 rfl (iv_w iv_24 (zle_e rfl) (zle_e rfl)) (fun xmostSlip2 nrg nrk h => h.elim (fun n_0 q => (KH_0 _ _ _ ⟨n_0 + 1, (Or.inr ⟨h_10, ⟨r_15, hq_16, ⟨r_17, hq_18, ⟨fa_19, hr_21, ⟨z_22, ez_22, q⟩⟩⟩⟩⟩)⟩)))


set_option maxHeartbeats 4000000 in
set_option maxRecDepth 100000 in
theorem c_runNightX (l : Launch) (g : Gx) (h0 : Nat) (p0 : Int32) (v0h0 : Value) (tl : Nat) (nw : Nat) (v3h0 : Value) (nn : Nat) (v5h0 : Value) (v6h0 : Value) (v7h0 : Value) (v8h0 : Value) (tr : Int32) (nr : Nat) (xsnapped : Int32) (xmostSlip : Int32) (xslip : Int32) (xisDrawn : Int32) (xseed : Int32) (xtick : Int32) (xmotorTick : Int32) (xahead : Int32) (nrc : Nat) (nrn : Int32) (nrf : Nat → Int32) (v0tl : Value) (yhn : Nat) (v2tl : Value) (v3tl : Value) (yhm : Nat) (v5tl : Value) (v6tl : Value) (v7tl : Value) (yhnc : Nat) (yhnn : Int32) (yhnf : Nat → Int32) (yhmc : Nat) (yhmn : Int32) (yhmf : Nat → Int32) (zr : Nat) (zm : Nat) (zw : Nat) (zp : Nat) (zmd : Int32) (ztr : Int32) (zrc : Nat) (zrn : Int32) (zrf : Nat → Int32) (zmc : Nat) (zmn : Int32) (zmf : Nat → Int32) (zwc : Nat) (zwn : Int32) (zwf : Nat → Int32) (zpc : Nat) (zpn : Int32) (zpf : Nat → Int32) (hr_0 : ¬ xmostSlip < 0) : cI l g yX10_runNight cX10_runNight 2 (some .boolean) 4 97 0 0 [.ref h0, .int p0] [(cO10_vrrvrvvvvi h0 v0h0 tl nw v3h0 nn v5h0 v6h0 v7h0 v8h0 tr), (cO5_riiiiiiii nn nr xsnapped xmostSlip xslip xisDrawn xseed xtick xmotorTick xahead), (cO8_iiri nr 8 10 nrc nrn), (cAI g nrc 80 nrf), (cO3_vrvvrvvv tl v0tl yhn v2tl v3tl yhm v5tl v6tl v7tl), (cO8_iiri yhn 1 6 yhnc yhnn), (cAI g yhnc 6 yhnf), (cO8_iiri yhm 4 3 yhmc yhmn), (cAI g yhmc 12 yhmf), (cO7_rrrrii nw zr zm zw zp zmd ztr), (cO8_iiri zr 8 3 zrc zrn), (cAI g zrc 24 zrf), (cO8_iiri zm 12 3 zmc zmn), (cAI g zmc 36 zmf), (cO8_iiri zw 6 3 zwc zwn), (cAI g zwc 18 zwf), (cO8_iiri zp 8 2 zpc zpn), (cAI g zpc 16 zpf)] (fun r w => ∃ (xsnapped2 : Int32) (xmostSlip2 : Int32) (xslip2 : Int32) (xisDrawn2 : Int32) (xseed2 : Int32) (xtick2 : Int32) (xmotorTick2 : Int32) (xahead2 : Int32) (nrg : Nat → Int32) (nrk : Int32), (¬ xmostSlip2 < 0) ∧ (R_c_runNightX p0 xsnapped xmostSlip xslip xisDrawn xseed xtick xmotorTick xahead nrn nrf yhnf yhmn yhmf zmd zrf zmn zmf zwn zwf zpn zpf xsnapped2 xmostSlip2 xslip2 xisDrawn2 xseed2 xtick2 xmotorTick2 xahead2 nrg nrk r) ∧ w = [(cO10_vrrvrvvvvi h0 v0h0 tl nw v3h0 nn v5h0 v6h0 v7h0 v8h0 tr), (cO5_riiiiiiii nn nr xsnapped2 xmostSlip2 xslip2 xisDrawn2 xseed2 xtick2 xmotorTick2 xahead2), (cO8_iiri nr 8 10 nrc nrk), (cAI g nrc 80 nrg), (cO3_vrvvrvvv tl v0tl yhn v2tl v3tl yhm v5tl v6tl v7tl), (cO8_iiri yhn 1 6 yhnc yhnn), (cAI g yhnc 6 yhnf), (cO8_iiri yhm 4 3 yhmc yhmn), (cAI g yhmc 12 yhmf), (cO7_rrrrii nw zr zm zw zp zmd ztr), (cO8_iiri zr 8 3 zrc zrn), (cAI g zrc 24 zrf), (cO8_iiri zm 12 3 zmc zmn), (cAI g zmc 36 zmf), (cO8_iiri zw 6 3 zwc zwn), (cAI g zwc 18 zwf), (cO8_iiri zp 8 2 zpc zpn), (cAI g zpc 16 zpf)]) := by
  refine cI.of (by decide) (Nat.le_of_ble_eq_true rfl) ?_
  intro p e s m args below meth c A X hr hi
  refine k_lveq [(0, .ref h0), (1, .int p0)] rfl ?_
  refine k_aload_n X dX10_runNight_k0.1.1.1.1 0 rfl ?_
  refine k_get (ci := 10) X inlX10 rfl 1 (nlt_e rfl) dX10_runNight_k0.1.1.1.2 mw20 0 rfl rfl ?_
  refine k_get (ci := 3) X inlX3 rfl 4 (nlt_e rfl) dX10_runNight_k0.1.1.2.1 mw748 4 rfl rfl ?_
  refine k_iload_n X dX10_runNight_k0.1.1.2.2 1 rfl ?_
  refine k_callVI (n := 1) (As := [.int p0]) (st := []) X [(cO8_iiri yhm 4 3 yhmc yhmn)] [(cO10_vrrvrvvvvi h0 v0h0 tl nw v3h0 nn v5h0 v6h0 v7h0 v8h0 tr), (cO5_riiiiiiii nn nr xsnapped xmostSlip xslip xisDrawn xseed xtick xmotorTick xahead), (cO8_iiri nr 8 10 nrc nrn), (cAI g nrc 80 nrf), (cO3_vrvvrvvv tl v0tl yhn v2tl v3tl yhm v5tl v6tl v7tl), (cO8_iiri yhn 1 6 yhnc yhnn), (cAI g yhnc 6 yhnf), (cAI g yhmc 12 yhmf), (cO7_rrrrii nw zr zm zw zp zmd ztr), (cO8_iiri zr 8 3 zrc zrn), (cAI g zrc 24 zrf), (cO8_iiri zm 12 3 zmc zmn), (cAI g zmc 36 zmf), (cO8_iiri zw 6 3 zwc zwn), (cAI g zwc 18 zwf), (cO8_iiri zp 8 2 zpc zpn), (cAI g zpc 16 zpf)] [7] [0, 1, 2, 3, 4, 5, 6, 8, 9, 10, 11, 12, 13, 14, 15, 16, 17] (t_has l g yhm p0 (.int 4) (.int 3) (.ref yhmc) yhmn) dX10_runNight_k0.1.2.1.1 mw647 mw648 mw649 mw64 mw650 rfl 8 rfl rfl 0 _ rfl yk_yX8_has_1 rfl (Nat.le_of_ble_eq_true rfl) (Nat.le_of_ble_eq_true rfl) (Nat.le_of_ble_eq_true rfl) (Nat.le_of_ble_eq_true rfl) (Nat.le_of_ble_eq_true rfl) rfl rfl (by decide +kernel) rfl (by decide +kernel) (by decide +kernel) ?_
  rintro r_1 w ⟨hr_2, rfl⟩
  refine k_ws [(cO10_vrrvrvvvvi h0 v0h0 tl nw v3h0 nn v5h0 v6h0 v7h0 v8h0 tr), (cO5_riiiiiiii nn nr xsnapped xmostSlip xslip xisDrawn xseed xtick xmotorTick xahead), (cO8_iiri nr 8 10 nrc nrn), (cAI g nrc 80 nrf), (cO3_vrvvrvvv tl v0tl yhn v2tl v3tl yhm v5tl v6tl v7tl), (cO8_iiri yhn 1 6 yhnc yhnn), (cAI g yhnc 6 yhnf), (cAI g yhmc 12 yhmf), (cO7_rrrrii nw zr zm zw zp zmd ztr), (cO8_iiri zr 8 3 zrc zrn), (cAI g zrc 24 zrf), (cO8_iiri zm 12 3 zmc zmn), (cAI g zmc 36 zmf), (cO8_iiri zw 6 3 zwc zwn), (cAI g zwc 18 zwf), (cO8_iiri zp 8 2 zpc zpn), (cAI g zpc 16 zpf), (cO8_iiri yhm 4 3 yhmc yhmn)] rfl ?_
  refine k_if_ne 16 X dX10_runNight_k0.1.2.1.2 (jp_e rfl) (fun h_3 => ?_) (fun h_3 => ?_)
  · skip
    refine k_aload_n X dX10_runNight_k0.2.1.1.1 0 rfl ?_
    refine k_get (ci := 10) X inlX10 rfl 4 (nlt_e rfl) dX10_runNight_k0.2.1.1.2 mw32 0 rfl rfl ?_
    refine k_aload_n X dX10_runNight_k0.2.1.2.1 0 rfl ?_
    refine k_get (ci := 10) X inlX10 rfl 1 (nlt_e rfl) dX10_runNight_k0.2.1.2.2 mw20 0 rfl rfl ?_
    refine k_aload_n X dX10_runNight_k0.2.2.1.1 0 rfl ?_
    refine k_get (ci := 10) X inlX10 rfl 2 (nlt_e rfl) dX10_runNight_k0.2.2.1.2 mw24 0 rfl rfl ?_
    refine k_iload_n X dX10_runNight_k0.2.2.2.1 1 rfl ?_
    refine k_callVV (n := 3) (As := [.ref tl, .ref nw, .int p0]) (st := []) X [(cO5_riiiiiiii nn nr xsnapped xmostSlip xslip xisDrawn xseed xtick xmotorTick xahead), (cO8_iiri nr 8 10 nrc nrn), (cAI g nrc 80 nrf), (cO3_vrvvrvvv tl v0tl yhn v2tl v3tl yhm v5tl v6tl v7tl), (cO8_iiri yhm 4 3 yhmc yhmn), (cAI g yhmc 12 yhmf), (cO7_rrrrii nw zr zm zw zp zmd ztr), (cO8_iiri zr 8 3 zrc zrn), (cAI g zrc 24 zrf), (cO8_iiri zm 12 3 zmc zmn), (cAI g zmc 36 zmf), (cO8_iiri zp 8 2 zpc zpn), (cAI g zpc 16 zpf)] [(cO10_vrrvrvvvvi h0 v0h0 tl nw v3h0 nn v5h0 v6h0 v7h0 v8h0 tr), (cO8_iiri yhn 1 6 yhnc yhnn), (cAI g yhnc 6 yhnf), (cO8_iiri zw 6 3 zwc zwn), (cAI g zwc 18 zwf)] [1, 2, 3, 4, 17, 7, 8, 9, 10, 11, 12, 15, 16] [0, 5, 6, 13, 14] (n_meetX l g nn tl nw p0 nr xsnapped xmostSlip xslip xisDrawn xseed xtick xmotorTick xahead nrc nrn nrf v0tl (.ref yhn) v2tl v3tl yhm v5tl v6tl v7tl yhmc yhmn yhmf zr zm (.ref zw) zp zmd ztr zrc zrn zrf zmc zmn zmf zpc zpn zpf) dX10_runNight_k0.2.2.2.2 mw749 mw750 mw751 mw31 mw752 rfl 5 rfl rfl 0 _ rfl yk_yX5_meet_3 rfl (Nat.le_of_ble_eq_true rfl) (Nat.le_of_ble_eq_true rfl) (Nat.le_of_ble_eq_true rfl) (Nat.le_of_ble_eq_true rfl) (Nat.le_of_ble_eq_true rfl) rfl rfl (by decide +kernel) rfl (by decide +kernel) (by decide +kernel) ?_
    rintro w ⟨xmostSlip2_4, nrg_5, nrk_6, hq_8, hq_9, rfl⟩
    refine k_ws [(cO10_vrrvrvvvvi h0 v0h0 tl nw v3h0 nn v5h0 v6h0 v7h0 v8h0 tr), (cO8_iiri yhn 1 6 yhnc yhnn), (cAI g yhnc 6 yhnf), (cO8_iiri zw 6 3 zwc zwn), (cAI g zwc 18 zwf), (cO5_riiiiiiii nn nr xsnapped xmostSlip2_4 xslip xisDrawn xseed xtick xmotorTick xahead), (cO8_iiri nr 8 10 nrc nrk_6), (cAI g nrc 80 nrg_5), (cO3_vrvvrvvv tl v0tl yhn v2tl v3tl yhm v5tl v6tl v7tl), (cO8_iiri yhm 4 3 yhmc yhmn), (cAI g yhmc 12 yhmf), (cO7_rrrrii nw zr zm zw zp zmd ztr), (cO8_iiri zr 8 3 zrc zrn), (cAI g zrc 24 zrf), (cO8_iiri zm 12 3 zmc zmn), (cAI g zmc 36 zmf), (cO8_iiri zp 8 2 zpc zpn), (cAI g zpc 16 zpf)] rfl ?_
    refine k_aload_n X dX10_runNight_k1.1.1.1.1 0 rfl ?_
    refine k_get (ci := 10) X inlX10 rfl 4 (nlt_e rfl) dX10_runNight_k1.1.1.1.2 mw32 0 rfl rfl ?_
    refine k_aload_n X dX10_runNight_k1.1.1.2.1 0 rfl ?_
    refine k_get (ci := 10) X inlX10 rfl 1 (nlt_e rfl) dX10_runNight_k1.1.1.2.2 mw20 0 rfl rfl ?_
    refine k_get (ci := 3) X inlX3 rfl 4 (nlt_e rfl) dX10_runNight_k1.1.2.1.1 mw748 8 rfl rfl ?_
    refine k_iload_n X dX10_runNight_k1.1.2.1.2 1 rfl ?_
    refine k_iconst (v := 2) X dX10_runNight_k1.1.2.2.1 ic_2 ?_
    refine k_callVI (n := 2) (As := [.int p0, .int 2]) (st := [.ref nn]) X [(cO8_iiri yhm 4 3 yhmc yhmn), (cAI g yhmc 12 yhmf)] [(cO10_vrrvrvvvvi h0 v0h0 tl nw v3h0 nn v5h0 v6h0 v7h0 v8h0 tr), (cO8_iiri yhn 1 6 yhnc yhnn), (cAI g yhnc 6 yhnf), (cO8_iiri zw 6 3 zwc zwn), (cAI g zwc 18 zwf), (cO5_riiiiiiii nn nr xsnapped xmostSlip2_4 xslip xisDrawn xseed xtick xmotorTick xahead), (cO8_iiri nr 8 10 nrc nrk_6), (cAI g nrc 80 nrg_5), (cO3_vrvvrvvv tl v0tl yhn v2tl v3tl yhm v5tl v6tl v7tl), (cO7_rrrrii nw zr zm zw zp zmd ztr), (cO8_iiri zr 8 3 zrc zrn), (cAI g zrc 24 zrf), (cO8_iiri zm 12 3 zmc zmn), (cAI g zmc 36 zmf), (cO8_iiri zp 8 2 zpc zpn), (cAI g zpc 16 zpf)] [9, 10] [0, 1, 2, 3, 4, 5, 6, 7, 8, 11, 12, 13, 14, 15, 16, 17] (t_at l g yhm p0 2 4 3 yhmc yhmn 12 yhmf (tbk_4_3)) dX10_runNight_k1.1.2.2.2 mw665 mw376 mw377 mw64 mw378 rfl 8 rfl rfl 0 _ rfl yk_yX8_at_2 rfl (Nat.le_of_ble_eq_true rfl) (Nat.le_of_ble_eq_true rfl) (Nat.le_of_ble_eq_true rfl) (Nat.le_of_ble_eq_true rfl) (Nat.le_of_ble_eq_true rfl) rfl rfl (by decide +kernel) rfl (by decide +kernel) (by decide +kernel) ?_
    rintro r_10 w ⟨hr_11, rfl⟩
    refine k_ws [(cO10_vrrvrvvvvi h0 v0h0 tl nw v3h0 nn v5h0 v6h0 v7h0 v8h0 tr), (cO8_iiri yhn 1 6 yhnc yhnn), (cAI g yhnc 6 yhnf), (cO8_iiri zw 6 3 zwc zwn), (cAI g zwc 18 zwf), (cO5_riiiiiiii nn nr xsnapped xmostSlip2_4 xslip xisDrawn xseed xtick xmotorTick xahead), (cO8_iiri nr 8 10 nrc nrk_6), (cAI g nrc 80 nrg_5), (cO3_vrvvrvvv tl v0tl yhn v2tl v3tl yhm v5tl v6tl v7tl), (cO7_rrrrii nw zr zm zw zp zmd ztr), (cO8_iiri zr 8 3 zrc zrn), (cAI g zrc 24 zrf), (cO8_iiri zm 12 3 zmc zmn), (cAI g zmc 36 zmf), (cO8_iiri zp 8 2 zpc zpn), (cAI g zpc 16 zpf), (cO8_iiri yhm 4 3 yhmc yhmn), (cAI g yhmc 12 yhmf)] rfl ?_
    refine k_callVV (n := 1) (As := [.int r_10]) (st := []) X [(cO5_riiiiiiii nn nr xsnapped xmostSlip2_4 xslip xisDrawn xseed xtick xmotorTick xahead)] [(cO10_vrrvrvvvvi h0 v0h0 tl nw v3h0 nn v5h0 v6h0 v7h0 v8h0 tr), (cO8_iiri yhn 1 6 yhnc yhnn), (cAI g yhnc 6 yhnf), (cO8_iiri zw 6 3 zwc zwn), (cAI g zwc 18 zwf), (cO8_iiri nr 8 10 nrc nrk_6), (cAI g nrc 80 nrg_5), (cO3_vrvvrvvv tl v0tl yhn v2tl v3tl yhm v5tl v6tl v7tl), (cO7_rrrrii nw zr zm zw zp zmd ztr), (cO8_iiri zr 8 3 zrc zrn), (cAI g zrc 24 zrf), (cO8_iiri zm 12 3 zmc zmn), (cAI g zmc 36 zmf), (cO8_iiri zp 8 2 zpc zpn), (cAI g zpc 16 zpf), (cO8_iiri yhm 4 3 yhmc yhmn), (cAI g yhmc 12 yhmf)] [5] [0, 1, 2, 3, 4, 6, 7, 8, 9, 10, 11, 12, 13, 14, 15, 16, 17] (n_slipByX l g nn r_10 nr xsnapped xmostSlip2_4 xslip xisDrawn xseed xtick xmotorTick xahead) dX10_runNight_k1.2.1.1.1 mw767 mw768 mw769 mw31 mw770 rfl 5 rfl rfl 0 _ rfl yk_yX5_slipBy_1 rfl (Nat.le_of_ble_eq_true rfl) (Nat.le_of_ble_eq_true rfl) (Nat.le_of_ble_eq_true rfl) (Nat.le_of_ble_eq_true rfl) (Nat.le_of_ble_eq_true rfl) rfl rfl (by decide +kernel) rfl (by decide +kernel) (by decide +kernel) ?_
    rintro w ⟨xisDrawn2_12, xslip2_13, hq_15, rfl⟩
    refine k_ws [(cO10_vrrvrvvvvi h0 v0h0 tl nw v3h0 nn v5h0 v6h0 v7h0 v8h0 tr), (cO8_iiri yhn 1 6 yhnc yhnn), (cAI g yhnc 6 yhnf), (cO8_iiri zw 6 3 zwc zwn), (cAI g zwc 18 zwf), (cO8_iiri nr 8 10 nrc nrk_6), (cAI g nrc 80 nrg_5), (cO3_vrvvrvvv tl v0tl yhn v2tl v3tl yhm v5tl v6tl v7tl), (cO7_rrrrii nw zr zm zw zp zmd ztr), (cO8_iiri zr 8 3 zrc zrn), (cAI g zrc 24 zrf), (cO8_iiri zm 12 3 zmc zmn), (cAI g zmc 36 zmf), (cO8_iiri zp 8 2 zpc zpn), (cAI g zpc 16 zpf), (cO8_iiri yhm 4 3 yhmc yhmn), (cAI g yhmc 12 yhmf), (cO5_riiiiiiii nn nr xsnapped xmostSlip2_4 xslip2_13 xisDrawn2_12 xseed xtick xmotorTick xahead)] rfl ?_
    refine k_aload_n X dX10_runNight_k1.2.1.1.2 0 rfl ?_
    refine k_get (ci := 10) X inlX10 rfl 4 (nlt_e rfl) dX10_runNight_k1.2.1.2.1 mw32 0 rfl rfl ?_
    refine k_aload_n X dX10_runNight_k1.2.1.2.2 0 rfl ?_
    refine k_get (ci := 10) X inlX10 rfl 1 (nlt_e rfl) dX10_runNight_k1.2.2.1.1 mw20 0 rfl rfl ?_
    refine k_aload_n X dX10_runNight_k1.2.2.1.2 0 rfl ?_
    refine k_get (ci := 10) X inlX10 rfl 2 (nlt_e rfl) dX10_runNight_k1.2.2.2.1 mw24 0 rfl rfl ?_
    refine k_callVV (n := 2) (As := [.ref tl, .ref nw]) (st := []) X [(cO5_riiiiiiii nn nr xsnapped xmostSlip2_4 xslip2_13 xisDrawn2_12 xseed xtick xmotorTick xahead), (cO8_iiri nr 8 10 nrc nrk_6), (cAI g nrc 80 nrg_5), (cO3_vrvvrvvv tl v0tl yhn v2tl v3tl yhm v5tl v6tl v7tl), (cO8_iiri yhn 1 6 yhnc yhnn), (cAI g yhnc 6 yhnf), (cO7_rrrrii nw zr zm zw zp zmd ztr), (cO8_iiri zr 8 3 zrc zrn), (cAI g zrc 24 zrf), (cO8_iiri zp 8 2 zpc zpn), (cAI g zpc 16 zpf), (cO8_iiri zw 6 3 zwc zwn), (cAI g zwc 18 zwf)] [(cO10_vrrvrvvvvi h0 v0h0 tl nw v3h0 nn v5h0 v6h0 v7h0 v8h0 tr), (cO8_iiri zm 12 3 zmc zmn), (cAI g zmc 36 zmf), (cO8_iiri yhm 4 3 yhmc yhmn), (cAI g yhmc 12 yhmf)] [17, 5, 6, 7, 1, 2, 8, 9, 10, 13, 14, 3, 4] [0, 11, 12, 15, 16] (n_runX l g nn tl nw nr xsnapped xmostSlip2_4 xslip2_13 xisDrawn2_12 xseed xtick xmotorTick xahead nrc nrk_6 nrg_5 v0tl yhn v2tl v3tl (.ref yhm) v5tl v6tl v7tl yhnc yhnn yhnf zr (.ref zm) zw zp zmd ztr zrc zrn zrf zpc zpn zpf zwc zwn zwf (by assumption)) dX10_runNight_k1.2.2.2.2 mw771 mw772 mw773 mw31 mw774 rfl 5 rfl rfl 0 _ rfl yk_yX5_run_2 rfl (Nat.le_of_ble_eq_true rfl) (Nat.le_of_ble_eq_true rfl) (Nat.le_of_ble_eq_true rfl) (Nat.le_of_ble_eq_true rfl) (Nat.le_of_ble_eq_true rfl) rfl rfl (by decide +kernel) rfl (by decide +kernel) (by decide +kernel) ?_
    rintro w ⟨xsnapped2_16, xseed2_17, xtick2_18, xmotorTick2_19, xahead2_20, nrg_21, hq_23, rfl⟩
    refine k_ws [(cO10_vrrvrvvvvi h0 v0h0 tl nw v3h0 nn v5h0 v6h0 v7h0 v8h0 tr), (cO8_iiri zm 12 3 zmc zmn), (cAI g zmc 36 zmf), (cO8_iiri yhm 4 3 yhmc yhmn), (cAI g yhmc 12 yhmf), (cO5_riiiiiiii nn nr xsnapped2_16 xmostSlip2_4 xslip2_13 xisDrawn2_12 xseed2_17 xtick2_18 xmotorTick2_19 xahead2_20), (cO8_iiri nr 8 10 nrc nrk_6), (cAI g nrc 80 nrg_21), (cO3_vrvvrvvv tl v0tl yhn v2tl v3tl yhm v5tl v6tl v7tl), (cO8_iiri yhn 1 6 yhnc yhnn), (cAI g yhnc 6 yhnf), (cO7_rrrrii nw zr zm zw zp zmd ztr), (cO8_iiri zr 8 3 zrc zrn), (cAI g zrc 24 zrf), (cO8_iiri zp 8 2 zpc zpn), (cAI g zpc 16 zpf), (cO8_iiri zw 6 3 zwc zwn), (cAI g zwc 18 zwf)] rfl ?_
    refine k_iconst (v := 1) X dX10_runNight_k2.1 ic_1 ?_
    exact k_zret X hr (by first | rfl | decide) dX10_runNight_k2.2 (Nat.le_of_ble_eq_true rfl) (Nat.le_of_ble_eq_true rfl) [0, 5, 6, 7, 8, 9, 10, 3, 4, 11, 12, 13, 1, 2, 16, 17, 14, 15] (vnd_e rfl) rfl rfl ⟨xsnapped2_16, xmostSlip2_4, xslip2_13, xisDrawn2_12, xseed2_17, xtick2_18, xmotorTick2_19, xahead2_20, nrg_21, nrk_6, (by assumption), ⟨r_1, hr_2, (Or.inl ⟨h_3, ⟨xmostSlip2_4, nrg_5, nrk_6, hq_9, ⟨r_10, hr_11, ⟨xisDrawn2_12, xslip2_13, hq_15, ⟨xsnapped2_16, xseed2_17, xtick2_18, xmotorTick2_19, xahead2_20, nrg_21, hq_23, ⟨rfl, rfl, rfl, rfl, rfl, rfl, rfl, rfl, rfl, rfl, rfl⟩⟩⟩⟩⟩⟩)⟩, rfl⟩
  · skip
    have iv_24 : IV r_1 0 0 := iv_meet (iv_any r_1) (iv_e h_3 iq_0_0_0) (zle_o rfl) (zle_o rfl)
    refine k_iconst (v := 0) X dX10_runNight_k0.1.2.2.1 ic_0 ?_
    exact k_zret X hr (by first | rfl | decide) dX10_runNight_k0.1.2.2.2 (Nat.le_of_ble_eq_true rfl) (Nat.le_of_ble_eq_true rfl) [0, 1, 2, 3, 4, 5, 6, 17, 7, 8, 9, 10, 11, 12, 13, 14, 15, 16] (vnd_e rfl) rfl rfl ⟨xsnapped, xmostSlip, xslip, xisDrawn, xseed, xtick, xmotorTick, xahead, nrf, nrn, (by assumption), ⟨r_1, hr_2, (Or.inr ⟨h_3, ⟨rfl, rfl, rfl, rfl, rfl, rfl, rfl, rfl, rfl, rfl, rfl⟩⟩)⟩, rfl⟩


set_option maxHeartbeats 4000000 in
set_option maxRecDepth 100000 in
theorem c_ofNightX (l : Launch) (g : Gx) (h0 : Nat) (p0 : Int32) (p1 : Int32) (p2 : Int32) (v0h0 : Value) (tl : Nat) (nw : Nat) (v3h0 : Value) (nn : Nat) (v5h0 : Value) (v6h0 : Value) (v7h0 : Value) (v8h0 : Value) (tr : Int32) (nr : Nat) (xsnapped : Int32) (xmostSlip : Int32) (xslip : Int32) (xisDrawn : Int32) (xseed : Int32) (xtick : Int32) (xmotorTick : Int32) (xahead : Int32) (nrc : Nat) (nrn : Int32) (nrf : Nat → Int32) (v0tl : Value) (yhn : Nat) (v2tl : Value) (v3tl : Value) (yhm : Nat) (v5tl : Value) (v6tl : Value) (v7tl : Value) (yhnc : Nat) (yhnn : Int32) (yhnf : Nat → Int32) (yhmc : Nat) (yhmn : Int32) (yhmf : Nat → Int32) (zr : Nat) (zm : Nat) (zw : Nat) (zp : Nat) (zmd : Int32) (ztr : Int32) (zrc : Nat) (zrn : Int32) (zrf : Nat → Int32) (zmc : Nat) (zmn : Int32) (zmf : Nat → Int32) (zwc : Nat) (zwn : Int32) (zwf : Nat → Int32) (zpc : Nat) (zpn : Int32) (zpf : Nat → Int32) (hr_0 : ¬ xmostSlip < 0) : cI l g yX10_ofNight cX10_ofNight 4 (some .int) 5 118 0 0 [.ref h0, .int p0, .int p1, .int p2] [(cO10_vrrvrvvvvi h0 v0h0 tl nw v3h0 nn v5h0 v6h0 v7h0 v8h0 tr), (cO5_riiiiiiii nn nr xsnapped xmostSlip xslip xisDrawn xseed xtick xmotorTick xahead), (cO8_iiri nr 8 10 nrc nrn), (cAI g nrc 80 nrf), (cO3_vrvvrvvv tl v0tl yhn v2tl v3tl yhm v5tl v6tl v7tl), (cO8_iiri yhn 1 6 yhnc yhnn), (cAI g yhnc 6 yhnf), (cO8_iiri yhm 4 3 yhmc yhmn), (cAI g yhmc 12 yhmf), (cO7_rrrrii nw zr zm zw zp zmd ztr), (cO8_iiri zr 8 3 zrc zrn), (cAI g zrc 24 zrf), (cO8_iiri zm 12 3 zmc zmn), (cAI g zmc 36 zmf), (cO8_iiri zw 6 3 zwc zwn), (cAI g zwc 18 zwf), (cO8_iiri zp 8 2 zpc zpn), (cAI g zpc 16 zpf)] (fun r w => ∃ (tr2 : Int32) (xsnapped2 : Int32) (xmostSlip2 : Int32) (xslip2 : Int32) (xisDrawn2 : Int32) (xseed2 : Int32) (xtick2 : Int32) (xmotorTick2 : Int32) (xahead2 : Int32) (nrg : Nat → Int32) (nrk : Int32), (¬ xmostSlip2 < 0) ∧ (R_c_ofNightX p0 p1 p2 xsnapped xmostSlip xslip xisDrawn xseed xtick xmotorTick xahead nrn nrf yhnf yhmn yhmf zmd zrf zmn zmf zwn zwf zpn zpf tr2 xsnapped2 xmostSlip2 xslip2 xisDrawn2 xseed2 xtick2 xmotorTick2 xahead2 nrg nrk r) ∧ w = [(cO10_vrrvrvvvvi h0 v0h0 tl nw v3h0 nn v5h0 v6h0 v7h0 v8h0 tr2), (cO5_riiiiiiii nn nr xsnapped2 xmostSlip2 xslip2 xisDrawn2 xseed2 xtick2 xmotorTick2 xahead2), (cO8_iiri nr 8 10 nrc nrk), (cAI g nrc 80 nrg), (cO3_vrvvrvvv tl v0tl yhn v2tl v3tl yhm v5tl v6tl v7tl), (cO8_iiri yhn 1 6 yhnc yhnn), (cAI g yhnc 6 yhnf), (cO8_iiri yhm 4 3 yhmc yhmn), (cAI g yhmc 12 yhmf), (cO7_rrrrii nw zr zm zw zp zmd ztr), (cO8_iiri zr 8 3 zrc zrn), (cAI g zrc 24 zrf), (cO8_iiri zm 12 3 zmc zmn), (cAI g zmc 36 zmf), (cO8_iiri zw 6 3 zwc zwn), (cAI g zwc 18 zwf), (cO8_iiri zp 8 2 zpc zpn), (cAI g zpc 16 zpf)]) := by
  refine cI.of (by decide) (Nat.le_of_ble_eq_true rfl) ?_
  intro p e s m args below meth c A X hr hi
  refine k_lveq [(0, .ref h0), (1, .int p0), (2, .int p1), (3, .int p2)] rfl ?_
  refine k_aload_n X dX10_ofNight_k0.1.1.1.1 0 rfl ?_
  refine k_get (ci := 10) X inlX10 rfl 2 (nlt_e rfl) dX10_ofNight_k0.1.1.1.2 mw24 0 rfl rfl ?_
  refine k_get (ci := 7) X inlX7 rfl 3 (nlt_e rfl) dX10_ofNight_k0.1.1.2.1 mw213 9 rfl rfl ?_
  refine k_iload_n X dX10_ofNight_k0.1.1.2.2 2 rfl ?_
  refine k_callVI (n := 1) (As := [.int p1]) (st := []) X [(cO8_iiri zp 8 2 zpc zpn)] [(cO10_vrrvrvvvvi h0 v0h0 tl nw v3h0 nn v5h0 v6h0 v7h0 v8h0 tr), (cO5_riiiiiiii nn nr xsnapped xmostSlip xslip xisDrawn xseed xtick xmotorTick xahead), (cO8_iiri nr 8 10 nrc nrn), (cAI g nrc 80 nrf), (cO3_vrvvrvvv tl v0tl yhn v2tl v3tl yhm v5tl v6tl v7tl), (cO8_iiri yhn 1 6 yhnc yhnn), (cAI g yhnc 6 yhnf), (cO8_iiri yhm 4 3 yhmc yhmn), (cAI g yhmc 12 yhmf), (cO7_rrrrii nw zr zm zw zp zmd ztr), (cO8_iiri zr 8 3 zrc zrn), (cAI g zrc 24 zrf), (cO8_iiri zm 12 3 zmc zmn), (cAI g zmc 36 zmf), (cO8_iiri zw 6 3 zwc zwn), (cAI g zwc 18 zwf), (cAI g zpc 16 zpf)] [16] [0, 1, 2, 3, 4, 5, 6, 7, 8, 9, 10, 11, 12, 13, 14, 15, 17] (t_has l g zp p1 (.int 8) (.int 2) (.ref zpc) zpn) dX10_ofNight_k0.1.2.1.1 mw647 mw648 mw649 mw64 mw650 rfl 8 rfl rfl 0 _ rfl yk_yX8_has_1 rfl (Nat.le_of_ble_eq_true rfl) (Nat.le_of_ble_eq_true rfl) (Nat.le_of_ble_eq_true rfl) (Nat.le_of_ble_eq_true rfl) (Nat.le_of_ble_eq_true rfl) rfl rfl (by decide +kernel) rfl (by decide +kernel) (by decide +kernel) ?_
  rintro r_1 w ⟨hr_2, rfl⟩
  refine k_ws [(cO10_vrrvrvvvvi h0 v0h0 tl nw v3h0 nn v5h0 v6h0 v7h0 v8h0 tr), (cO5_riiiiiiii nn nr xsnapped xmostSlip xslip xisDrawn xseed xtick xmotorTick xahead), (cO8_iiri nr 8 10 nrc nrn), (cAI g nrc 80 nrf), (cO3_vrvvrvvv tl v0tl yhn v2tl v3tl yhm v5tl v6tl v7tl), (cO8_iiri yhn 1 6 yhnc yhnn), (cAI g yhnc 6 yhnf), (cO8_iiri yhm 4 3 yhmc yhmn), (cAI g yhmc 12 yhmf), (cO7_rrrrii nw zr zm zw zp zmd ztr), (cO8_iiri zr 8 3 zrc zrn), (cAI g zrc 24 zrf), (cO8_iiri zm 12 3 zmc zmn), (cAI g zmc 36 zmf), (cO8_iiri zw 6 3 zwc zwn), (cAI g zwc 18 zwf), (cAI g zpc 16 zpf), (cO8_iiri zp 8 2 zpc zpn)] rfl ?_
  refine k_if_eq 22 X dX10_ofNight_k0.1.2.1.2 (jp_e rfl) (fun h_3 => ?_) (fun h_3 => ?_)
  · skip
    have iv_4 : IV r_1 0 0 := iv_meet (iv_any r_1) (iv_e h_3 iq_0_0_0) (zle_o rfl) (zle_o rfl)
    refine k_aload_n X dX10_ofNight_k0.2.1.2.1 0 rfl ?_
    refine k_iconst (v := 1) X dX10_ofNight_k0.2.1.2.2 ic_1 ?_
    refine k_callVI (n := 1) (As := [.int 1]) (st := []) X [(cO10_vrrvrvvvvi h0 v0h0 tl nw v3h0 nn v5h0 v6h0 v7h0 v8h0 tr)] [(cO5_riiiiiiii nn nr xsnapped xmostSlip xslip xisDrawn xseed xtick xmotorTick xahead), (cO8_iiri nr 8 10 nrc nrn), (cAI g nrc 80 nrf), (cO3_vrvvrvvv tl v0tl yhn v2tl v3tl yhm v5tl v6tl v7tl), (cO8_iiri yhn 1 6 yhnc yhnn), (cAI g yhnc 6 yhnf), (cO8_iiri yhm 4 3 yhmc yhmn), (cAI g yhmc 12 yhmf), (cO7_rrrrii nw zr zm zw zp zmd ztr), (cO8_iiri zr 8 3 zrc zrn), (cAI g zrc 24 zrf), (cO8_iiri zm 12 3 zmc zmn), (cAI g zmc 36 zmf), (cO8_iiri zw 6 3 zwc zwn), (cAI g zwc 18 zwf), (cAI g zpc 16 zpf), (cO8_iiri zp 8 2 zpc zpn)] [0] [1, 2, 3, 4, 5, 6, 7, 8, 9, 10, 11, 12, 13, 14, 15, 16, 17] (c_refuseX l g h0 1 v0h0 (.ref tl) (.ref nw) v3h0 (.ref nn) v5h0 v6h0 v7h0 v8h0 tr) dX10_ofNight_k0.2.2.1.1 mw215 mw216 mw217 mw2 mw218 rfl 10 rfl rfl 0 _ rfl yk_yX10_refuse_1 rfl (Nat.le_of_ble_eq_true rfl) (Nat.le_of_ble_eq_true rfl) (Nat.le_of_ble_eq_true rfl) (Nat.le_of_ble_eq_true rfl) (Nat.le_of_ble_eq_true rfl) rfl rfl (by decide +kernel) rfl (by decide +kernel) (by decide +kernel) ?_
    rintro r_6 w ⟨tr2_5, hq_7, rfl⟩
    refine k_ws [(cO5_riiiiiiii nn nr xsnapped xmostSlip xslip xisDrawn xseed xtick xmotorTick xahead), (cO8_iiri nr 8 10 nrc nrn), (cAI g nrc 80 nrf), (cO3_vrvvrvvv tl v0tl yhn v2tl v3tl yhm v5tl v6tl v7tl), (cO8_iiri yhn 1 6 yhnc yhnn), (cAI g yhnc 6 yhnf), (cO8_iiri yhm 4 3 yhmc yhmn), (cAI g yhmc 12 yhmf), (cO7_rrrrii nw zr zm zw zp zmd ztr), (cO8_iiri zr 8 3 zrc zrn), (cAI g zrc 24 zrf), (cO8_iiri zm 12 3 zmc zmn), (cAI g zmc 36 zmf), (cO8_iiri zw 6 3 zwc zwn), (cAI g zwc 18 zwf), (cAI g zpc 16 zpf), (cO8_iiri zp 8 2 zpc zpn), (cO10_vrrvrvvvvi h0 v0h0 tl nw v3h0 nn v5h0 v6h0 v7h0 v8h0 tr2_5)] rfl ?_
    exact k_iret X hr dX10_ofNight_k0.2.2.1.2 (Nat.le_of_ble_eq_true rfl) (Nat.le_of_ble_eq_true rfl) [17, 0, 1, 2, 3, 4, 5, 6, 7, 8, 9, 10, 11, 12, 13, 14, 16, 15] (vnd_e rfl) rfl rfl ⟨tr2_5, xsnapped, xmostSlip, xslip, xisDrawn, xseed, xtick, xmotorTick, xahead, nrf, nrn, (by assumption), ⟨r_1, hr_2, (Or.inl ⟨h_3, ⟨tr2_5, r_6, hq_7, ⟨rfl, rfl, rfl, rfl, rfl, rfl, rfl, rfl, rfl, rfl, rfl, rfl⟩⟩⟩)⟩, rfl⟩
  · skip
    refine k_aload_n X dX10_ofNight_k0.1.2.2.1 0 rfl ?_
    refine k_iload_n X dX10_ofNight_k0.1.2.2.2 1 rfl ?_
    refine k_callVI (n := 1) (As := [.int p0]) (st := []) X [(cO10_vrrvrvvvvi h0 v0h0 tl nw v3h0 nn v5h0 v6h0 v7h0 v8h0 tr), (cO5_riiiiiiii nn nr xsnapped xmostSlip xslip xisDrawn xseed xtick xmotorTick xahead), (cO8_iiri nr 8 10 nrc nrn), (cAI g nrc 80 nrf), (cO3_vrvvrvvv tl v0tl yhn v2tl v3tl yhm v5tl v6tl v7tl), (cO8_iiri yhn 1 6 yhnc yhnn), (cAI g yhnc 6 yhnf), (cO8_iiri yhm 4 3 yhmc yhmn), (cAI g yhmc 12 yhmf), (cO7_rrrrii nw zr zm zw zp zmd ztr), (cO8_iiri zr 8 3 zrc zrn), (cAI g zrc 24 zrf), (cO8_iiri zm 12 3 zmc zmn), (cAI g zmc 36 zmf), (cO8_iiri zw 6 3 zwc zwn), (cAI g zwc 18 zwf), (cO8_iiri zp 8 2 zpc zpn), (cAI g zpc 16 zpf)] [] [0, 1, 2, 3, 4, 5, 6, 7, 8, 9, 10, 11, 12, 13, 14, 15, 17, 16] [] (c_runNightX l g h0 p0 v0h0 tl nw v3h0 nn v5h0 v6h0 v7h0 v8h0 tr nr xsnapped xmostSlip xslip xisDrawn xseed xtick xmotorTick xahead nrc nrn nrf v0tl yhn v2tl v3tl yhm v5tl v6tl v7tl yhnc yhnn yhnf yhmc yhmn yhmf zr zm zw zp zmd ztr zrc zrn zrf zmc zmn zmf zwc zwn zwf zpc zpn zpf (by assumption)) dX10_ofNight_k0.2.1.1.1 mw744 mw745 mw746 mw2 mw747 rfl 10 rfl rfl 0 _ rfl yk_yX10_runNight_1 rfl (Nat.le_of_ble_eq_true rfl) (Nat.le_of_ble_eq_true rfl) (Nat.le_of_ble_eq_true rfl) (Nat.le_of_ble_eq_true rfl) (Nat.le_of_ble_eq_true rfl) rfl rfl (by decide +kernel) rfl (by decide +kernel) (by decide +kernel) ?_
    intro r_18 w zq
    refine exE10 zq ?_
    clear zq
    intro xsnapped2_8 xmostSlip2_9 xslip2_10 xisDrawn2_11 xseed2_12 xtick2_13 xmotorTick2_14 xahead2_15 nrg_16 nrk_17 hq_19 zq
    refine exA1 zq ?_
    clear zq
    intro hq_20 zq
    subst zq
    refine k_ws [(cO10_vrrvrvvvvi h0 v0h0 tl nw v3h0 nn v5h0 v6h0 v7h0 v8h0 tr), (cO5_riiiiiiii nn nr xsnapped2_8 xmostSlip2_9 xslip2_10 xisDrawn2_11 xseed2_12 xtick2_13 xmotorTick2_14 xahead2_15), (cO8_iiri nr 8 10 nrc nrk_17), (cAI g nrc 80 nrg_16), (cO3_vrvvrvvv tl v0tl yhn v2tl v3tl yhm v5tl v6tl v7tl), (cO8_iiri yhn 1 6 yhnc yhnn), (cAI g yhnc 6 yhnf), (cO8_iiri yhm 4 3 yhmc yhmn), (cAI g yhmc 12 yhmf), (cO7_rrrrii nw zr zm zw zp zmd ztr), (cO8_iiri zr 8 3 zrc zrn), (cAI g zrc 24 zrf), (cO8_iiri zm 12 3 zmc zmn), (cAI g zmc 36 zmf), (cO8_iiri zw 6 3 zwc zwn), (cAI g zwc 18 zwf), (cO8_iiri zp 8 2 zpc zpn), (cAI g zpc 16 zpf)] rfl ?_
    refine k_if_ne 28 X dX10_ofNight_k0.2.1.1.2 (jp_e rfl) (fun h_21 => ?_) (fun h_21 => ?_)
    · skip
      refine k_aload_n X dX10_ofNight_k0.2.2.2.1 0 rfl ?_
      refine k_aload_n X dX10_ofNight_k0.2.2.2.2 0 rfl ?_
      refine k_get (ci := 10) X inlX10 rfl 4 (nlt_e rfl) dX10_ofNight_k1.1.1 mw32 0 rfl rfl ?_
      refine k_get (ci := 5) X inlX5 rfl 0 (nlt_e rfl) dX10_ofNight_k1.1.2.1 mw743 1 rfl rfl ?_
      refine k_iload_n X dX10_ofNight_k1.1.2.2 2 rfl ?_
      refine k_iload_n X dX10_ofNight_k1.2.1.1 3 rfl ?_
      refine k_callVI (n := 2) (As := [.int p1, .int p2]) (st := [.ref h0]) X [(cO8_iiri nr 8 10 nrc nrk_17), (cAI g nrc 80 nrg_16)] [(cO10_vrrvrvvvvi h0 v0h0 tl nw v3h0 nn v5h0 v6h0 v7h0 v8h0 tr), (cO5_riiiiiiii nn nr xsnapped2_8 xmostSlip2_9 xslip2_10 xisDrawn2_11 xseed2_12 xtick2_13 xmotorTick2_14 xahead2_15), (cO3_vrvvrvvv tl v0tl yhn v2tl v3tl yhm v5tl v6tl v7tl), (cO8_iiri yhn 1 6 yhnc yhnn), (cAI g yhnc 6 yhnf), (cO8_iiri yhm 4 3 yhmc yhmn), (cAI g yhmc 12 yhmf), (cO7_rrrrii nw zr zm zw zp zmd ztr), (cO8_iiri zr 8 3 zrc zrn), (cAI g zrc 24 zrf), (cO8_iiri zm 12 3 zmc zmn), (cAI g zmc 36 zmf), (cO8_iiri zw 6 3 zwc zwn), (cAI g zwc 18 zwf), (cO8_iiri zp 8 2 zpc zpn), (cAI g zpc 16 zpf)] [2, 3] [0, 1, 4, 5, 6, 7, 8, 9, 10, 11, 12, 13, 14, 15, 16, 17] (t_at l g nr p1 p2 8 10 nrc nrk_17 80 nrg_16 (tbk_8_10)) dX10_ofNight_k1.2.1.2 mw665 mw376 mw377 mw64 mw378 rfl 8 rfl rfl 0 _ rfl yk_yX8_at_2 rfl (Nat.le_of_ble_eq_true rfl) (Nat.le_of_ble_eq_true rfl) (Nat.le_of_ble_eq_true rfl) (Nat.le_of_ble_eq_true rfl) (Nat.le_of_ble_eq_true rfl) rfl rfl (by decide +kernel) rfl (by decide +kernel) (by decide +kernel) ?_
      rintro r_22 w ⟨hr_23, rfl⟩
      refine k_ws [(cO10_vrrvrvvvvi h0 v0h0 tl nw v3h0 nn v5h0 v6h0 v7h0 v8h0 tr), (cO5_riiiiiiii nn nr xsnapped2_8 xmostSlip2_9 xslip2_10 xisDrawn2_11 xseed2_12 xtick2_13 xmotorTick2_14 xahead2_15), (cO3_vrvvrvvv tl v0tl yhn v2tl v3tl yhm v5tl v6tl v7tl), (cO8_iiri yhn 1 6 yhnc yhnn), (cAI g yhnc 6 yhnf), (cO8_iiri yhm 4 3 yhmc yhmn), (cAI g yhmc 12 yhmf), (cO7_rrrrii nw zr zm zw zp zmd ztr), (cO8_iiri zr 8 3 zrc zrn), (cAI g zrc 24 zrf), (cO8_iiri zm 12 3 zmc zmn), (cAI g zmc 36 zmf), (cO8_iiri zw 6 3 zwc zwn), (cAI g zwc 18 zwf), (cO8_iiri zp 8 2 zpc zpn), (cAI g zpc 16 zpf), (cO8_iiri nr 8 10 nrc nrk_17), (cAI g nrc 80 nrg_16)] rfl ?_
      refine k_callVI (n := 1) (As := [.int r_22]) (st := []) X [(cO10_vrrvrvvvvi h0 v0h0 tl nw v3h0 nn v5h0 v6h0 v7h0 v8h0 tr)] [(cO5_riiiiiiii nn nr xsnapped2_8 xmostSlip2_9 xslip2_10 xisDrawn2_11 xseed2_12 xtick2_13 xmotorTick2_14 xahead2_15), (cO3_vrvvrvvv tl v0tl yhn v2tl v3tl yhm v5tl v6tl v7tl), (cO8_iiri yhn 1 6 yhnc yhnn), (cAI g yhnc 6 yhnf), (cO8_iiri yhm 4 3 yhmc yhmn), (cAI g yhmc 12 yhmf), (cO7_rrrrii nw zr zm zw zp zmd ztr), (cO8_iiri zr 8 3 zrc zrn), (cAI g zrc 24 zrf), (cO8_iiri zm 12 3 zmc zmn), (cAI g zmc 36 zmf), (cO8_iiri zw 6 3 zwc zwn), (cAI g zwc 18 zwf), (cO8_iiri zp 8 2 zpc zpn), (cAI g zpc 16 zpf), (cO8_iiri nr 8 10 nrc nrk_17), (cAI g nrc 80 nrg_16)] [0] [1, 2, 3, 4, 5, 6, 7, 8, 9, 10, 11, 12, 13, 14, 15, 16, 17] (c_tellX l g h0 r_22 v0h0 (.ref tl) (.ref nw) v3h0 (.ref nn) v5h0 v6h0 v7h0 v8h0 tr) dX10_ofNight_k1.2.2.1 mw460 mw461 mw462 mw2 mw463 rfl 10 rfl rfl 0 _ rfl yk_yX10_tell_1 rfl (Nat.le_of_ble_eq_true rfl) (Nat.le_of_ble_eq_true rfl) (Nat.le_of_ble_eq_true rfl) (Nat.le_of_ble_eq_true rfl) (Nat.le_of_ble_eq_true rfl) rfl rfl (by decide +kernel) rfl (by decide +kernel) (by decide +kernel) ?_
      rintro r_25 w ⟨tr2_24, hq_26, rfl⟩
      refine k_ws [(cO5_riiiiiiii nn nr xsnapped2_8 xmostSlip2_9 xslip2_10 xisDrawn2_11 xseed2_12 xtick2_13 xmotorTick2_14 xahead2_15), (cO3_vrvvrvvv tl v0tl yhn v2tl v3tl yhm v5tl v6tl v7tl), (cO8_iiri yhn 1 6 yhnc yhnn), (cAI g yhnc 6 yhnf), (cO8_iiri yhm 4 3 yhmc yhmn), (cAI g yhmc 12 yhmf), (cO7_rrrrii nw zr zm zw zp zmd ztr), (cO8_iiri zr 8 3 zrc zrn), (cAI g zrc 24 zrf), (cO8_iiri zm 12 3 zmc zmn), (cAI g zmc 36 zmf), (cO8_iiri zw 6 3 zwc zwn), (cAI g zwc 18 zwf), (cO8_iiri zp 8 2 zpc zpn), (cAI g zpc 16 zpf), (cO8_iiri nr 8 10 nrc nrk_17), (cAI g nrc 80 nrg_16), (cO10_vrrvrvvvvi h0 v0h0 tl nw v3h0 nn v5h0 v6h0 v7h0 v8h0 tr2_24)] rfl ?_
      exact k_iret X hr dX10_ofNight_k1.2.2.2 (Nat.le_of_ble_eq_true rfl) (Nat.le_of_ble_eq_true rfl) [17, 0, 15, 16, 1, 2, 3, 4, 5, 6, 7, 8, 9, 10, 11, 12, 13, 14] (vnd_e rfl) rfl rfl ⟨tr2_24, xsnapped2_8, xmostSlip2_9, xslip2_10, xisDrawn2_11, xseed2_12, xtick2_13, xmotorTick2_14, xahead2_15, nrg_16, nrk_17, (by assumption), ⟨r_1, hr_2, (Or.inr ⟨h_3, ⟨xsnapped2_8, xmostSlip2_9, xslip2_10, xisDrawn2_11, xseed2_12, xtick2_13, xmotorTick2_14, xahead2_15, nrg_16, nrk_17, r_18, hq_20, (Or.inl ⟨h_21, ⟨r_22, hr_23, ⟨tr2_24, r_25, hq_26, ⟨rfl, rfl, rfl, rfl, rfl, rfl, rfl, rfl, rfl, rfl, rfl, rfl⟩⟩⟩⟩)⟩⟩)⟩, rfl⟩
    · skip
      have iv_27 : IV r_18 0 0 := iv_meet (iv_any r_18) (iv_e h_21 iq_0_0_0) (zle_o rfl) (zle_o rfl)
      refine k_aload_n X dX10_ofNight_k0.2.1.2.1 0 rfl ?_
      refine k_iconst (v := 1) X dX10_ofNight_k0.2.1.2.2 ic_1 ?_
      refine k_callVI (n := 1) (As := [.int 1]) (st := []) X [(cO10_vrrvrvvvvi h0 v0h0 tl nw v3h0 nn v5h0 v6h0 v7h0 v8h0 tr)] [(cO5_riiiiiiii nn nr xsnapped2_8 xmostSlip2_9 xslip2_10 xisDrawn2_11 xseed2_12 xtick2_13 xmotorTick2_14 xahead2_15), (cO8_iiri nr 8 10 nrc nrk_17), (cAI g nrc 80 nrg_16), (cO3_vrvvrvvv tl v0tl yhn v2tl v3tl yhm v5tl v6tl v7tl), (cO8_iiri yhn 1 6 yhnc yhnn), (cAI g yhnc 6 yhnf), (cO8_iiri yhm 4 3 yhmc yhmn), (cAI g yhmc 12 yhmf), (cO7_rrrrii nw zr zm zw zp zmd ztr), (cO8_iiri zr 8 3 zrc zrn), (cAI g zrc 24 zrf), (cO8_iiri zm 12 3 zmc zmn), (cAI g zmc 36 zmf), (cO8_iiri zw 6 3 zwc zwn), (cAI g zwc 18 zwf), (cO8_iiri zp 8 2 zpc zpn), (cAI g zpc 16 zpf)] [0] [1, 2, 3, 4, 5, 6, 7, 8, 9, 10, 11, 12, 13, 14, 15, 16, 17] (c_refuseX l g h0 1 v0h0 (.ref tl) (.ref nw) v3h0 (.ref nn) v5h0 v6h0 v7h0 v8h0 tr) dX10_ofNight_k0.2.2.1.1 mw215 mw216 mw217 mw2 mw218 rfl 10 rfl rfl 0 _ rfl yk_yX10_refuse_1 rfl (Nat.le_of_ble_eq_true rfl) (Nat.le_of_ble_eq_true rfl) (Nat.le_of_ble_eq_true rfl) (Nat.le_of_ble_eq_true rfl) (Nat.le_of_ble_eq_true rfl) rfl rfl (by decide +kernel) rfl (by decide +kernel) (by decide +kernel) ?_
      rintro r_29 w ⟨tr2_28, hq_30, rfl⟩
      refine k_ws [(cO5_riiiiiiii nn nr xsnapped2_8 xmostSlip2_9 xslip2_10 xisDrawn2_11 xseed2_12 xtick2_13 xmotorTick2_14 xahead2_15), (cO8_iiri nr 8 10 nrc nrk_17), (cAI g nrc 80 nrg_16), (cO3_vrvvrvvv tl v0tl yhn v2tl v3tl yhm v5tl v6tl v7tl), (cO8_iiri yhn 1 6 yhnc yhnn), (cAI g yhnc 6 yhnf), (cO8_iiri yhm 4 3 yhmc yhmn), (cAI g yhmc 12 yhmf), (cO7_rrrrii nw zr zm zw zp zmd ztr), (cO8_iiri zr 8 3 zrc zrn), (cAI g zrc 24 zrf), (cO8_iiri zm 12 3 zmc zmn), (cAI g zmc 36 zmf), (cO8_iiri zw 6 3 zwc zwn), (cAI g zwc 18 zwf), (cO8_iiri zp 8 2 zpc zpn), (cAI g zpc 16 zpf), (cO10_vrrvrvvvvi h0 v0h0 tl nw v3h0 nn v5h0 v6h0 v7h0 v8h0 tr2_28)] rfl ?_
      exact k_iret X hr dX10_ofNight_k0.2.2.1.2 (Nat.le_of_ble_eq_true rfl) (Nat.le_of_ble_eq_true rfl) [17, 0, 1, 2, 3, 4, 5, 6, 7, 8, 9, 10, 11, 12, 13, 14, 15, 16] (vnd_e rfl) rfl rfl ⟨tr2_28, xsnapped2_8, xmostSlip2_9, xslip2_10, xisDrawn2_11, xseed2_12, xtick2_13, xmotorTick2_14, xahead2_15, nrg_16, nrk_17, (by assumption), ⟨r_1, hr_2, (Or.inr ⟨h_3, ⟨xsnapped2_8, xmostSlip2_9, xslip2_10, xisDrawn2_11, xseed2_12, xtick2_13, xmotorTick2_14, xahead2_15, nrg_16, nrk_17, r_18, hq_20, (Or.inr ⟨h_21, ⟨tr2_28, r_29, hq_30, ⟨rfl, rfl, rfl, rfl, rfl, rfl, rfl, rfl, rfl, rfl, rfl, rfl⟩⟩⟩)⟩⟩)⟩, rfl⟩


set_option maxHeartbeats 4000000 in
set_option maxRecDepth 100000 in
theorem c_changesX (l : Launch) (g : Gx) (h0 : Nat) (p0 : Int32) (p1 : Int32) (v0h0 : Value) (tl : Nat) (nw : Nat) (v3h0 : Value) (nn : Nat) (v5h0 : Value) (v6h0 : Value) (v7h0 : Value) (v8h0 : Value) (tr : Int32) (nr : Nat) (xsnapped : Int32) (xmostSlip : Int32) (xslip : Int32) (xisDrawn : Int32) (xseed : Int32) (xtick : Int32) (xmotorTick : Int32) (xahead : Int32) (nrc : Nat) (nrn : Int32) (nrf : Nat → Int32) (v0tl : Value) (yhn : Nat) (v2tl : Value) (v3tl : Value) (yhm : Nat) (v5tl : Value) (v6tl : Value) (v7tl : Value) (yhnc : Nat) (yhnn : Int32) (yhnf : Nat → Int32) (yhmc : Nat) (yhmn : Int32) (yhmf : Nat → Int32) (zr : Nat) (zm : Nat) (zw : Nat) (zp : Nat) (zmd : Int32) (ztr : Int32) (zrc : Nat) (zrn : Int32) (zrf : Nat → Int32) (zmc : Nat) (zmn : Int32) (zmf : Nat → Int32) (zwc : Nat) (zwn : Int32) (zwf : Nat → Int32) (zpc : Nat) (zpn : Int32) (zpf : Nat → Int32) (hr_0 : ¬ xmostSlip < 0) : cI l g yX10_changes cX10_changes 3 (some .int) 6 141 0 0 [.ref h0, .int p0, .int p1] [(cO10_vrrvrvvvvi h0 v0h0 tl nw v3h0 nn v5h0 v6h0 v7h0 v8h0 tr), (cO5_riiiiiiii nn nr xsnapped xmostSlip xslip xisDrawn xseed xtick xmotorTick xahead), (cO8_iiri nr 8 10 nrc nrn), (cAI g nrc 80 nrf), (cO3_vrvvrvvv tl v0tl yhn v2tl v3tl yhm v5tl v6tl v7tl), (cO8_iiri yhn 1 6 yhnc yhnn), (cAI g yhnc 6 yhnf), (cO8_iiri yhm 4 3 yhmc yhmn), (cAI g yhmc 12 yhmf), (cO7_rrrrii nw zr zm zw zp zmd ztr), (cO8_iiri zr 8 3 zrc zrn), (cAI g zrc 24 zrf), (cO8_iiri zm 12 3 zmc zmn), (cAI g zmc 36 zmf), (cO8_iiri zw 6 3 zwc zwn), (cAI g zwc 18 zwf), (cO8_iiri zp 8 2 zpc zpn), (cAI g zpc 16 zpf)] (fun r w => ∃ (tr2 : Int32) (xsnapped2 : Int32) (xmostSlip2 : Int32) (xslip2 : Int32) (xisDrawn2 : Int32) (xseed2 : Int32) (xtick2 : Int32) (xmotorTick2 : Int32) (xahead2 : Int32) (nrg : Nat → Int32) (nrk : Int32), (¬ xmostSlip2 < 0) ∧ (R_c_changesX p0 p1 xsnapped xmostSlip xslip xisDrawn xseed xtick xmotorTick xahead nrn nrf yhnf yhmn yhmf zmd zrf zmn zmf zwn zwf zpn zpf tr2 xsnapped2 xmostSlip2 xslip2 xisDrawn2 xseed2 xtick2 xmotorTick2 xahead2 nrg nrk r) ∧ w = [(cO10_vrrvrvvvvi h0 v0h0 tl nw v3h0 nn v5h0 v6h0 v7h0 v8h0 tr2), (cO5_riiiiiiii nn nr xsnapped2 xmostSlip2 xslip2 xisDrawn2 xseed2 xtick2 xmotorTick2 xahead2), (cO8_iiri nr 8 10 nrc nrk), (cAI g nrc 80 nrg), (cO3_vrvvrvvv tl v0tl yhn v2tl v3tl yhm v5tl v6tl v7tl), (cO8_iiri yhn 1 6 yhnc yhnn), (cAI g yhnc 6 yhnf), (cO8_iiri yhm 4 3 yhmc yhmn), (cAI g yhmc 12 yhmf), (cO7_rrrrii nw zr zm zw zp zmd ztr), (cO8_iiri zr 8 3 zrc zrn), (cAI g zrc 24 zrf), (cO8_iiri zm 12 3 zmc zmn), (cAI g zmc 36 zmf), (cO8_iiri zw 6 3 zwc zwn), (cAI g zwc 18 zwf), (cO8_iiri zp 8 2 zpc zpn), (cAI g zpc 16 zpf)]) := by
  refine cI.of (by decide) (Nat.le_of_ble_eq_true rfl) ?_
  intro p e s m args below meth c A X hr hi
  refine k_lveq [(0, .ref h0), (1, .int p0), (2, .int p1)] rfl ?_
  refine k_aload_n X dX10_changes_k0.1.1 0 rfl ?_
  refine k_iload_n X dX10_changes_k0.1.2.1 1 rfl ?_
  refine k_iload_n X dX10_changes_k0.1.2.2 2 rfl ?_
  refine k_iconst (v := 5) X dX10_changes_k0.2.1 ic_5 ?_
  refine k_callVI (n := 3) (As := [.int p0, .int p1, .int 5]) (st := []) X [(cO10_vrrvrvvvvi h0 v0h0 tl nw v3h0 nn v5h0 v6h0 v7h0 v8h0 tr), (cO5_riiiiiiii nn nr xsnapped xmostSlip xslip xisDrawn xseed xtick xmotorTick xahead), (cO8_iiri nr 8 10 nrc nrn), (cAI g nrc 80 nrf), (cO3_vrvvrvvv tl v0tl yhn v2tl v3tl yhm v5tl v6tl v7tl), (cO8_iiri yhn 1 6 yhnc yhnn), (cAI g yhnc 6 yhnf), (cO8_iiri yhm 4 3 yhmc yhmn), (cAI g yhmc 12 yhmf), (cO7_rrrrii nw zr zm zw zp zmd ztr), (cO8_iiri zr 8 3 zrc zrn), (cAI g zrc 24 zrf), (cO8_iiri zm 12 3 zmc zmn), (cAI g zmc 36 zmf), (cO8_iiri zw 6 3 zwc zwn), (cAI g zwc 18 zwf), (cO8_iiri zp 8 2 zpc zpn), (cAI g zpc 16 zpf)] [] [0, 1, 2, 3, 4, 5, 6, 7, 8, 9, 10, 11, 12, 13, 14, 15, 16, 17] [] (c_ofNightX l g h0 p0 p1 5 v0h0 tl nw v3h0 nn v5h0 v6h0 v7h0 v8h0 tr nr xsnapped xmostSlip xslip xisDrawn xseed xtick xmotorTick xahead nrc nrn nrf v0tl yhn v2tl v3tl yhm v5tl v6tl v7tl yhnc yhnn yhnf yhmc yhmn yhmf zr zm zw zp zmd ztr zrc zrn zrf zmc zmn zmf zwc zwn zwf zpc zpn zpf (by assumption)) dX10_changes_k0.2.2.1 mw739 mw740 mw741 mw2 mw742 rfl 10 rfl rfl 0 _ rfl yk_yX10_ofNight_3 rfl (Nat.le_of_ble_eq_true rfl) (Nat.le_of_ble_eq_true rfl) (Nat.le_of_ble_eq_true rfl) (Nat.le_of_ble_eq_true rfl) (Nat.le_of_ble_eq_true rfl) rfl rfl (by decide +kernel) rfl (by decide +kernel) (by decide +kernel) ?_
  intro r_12 w zq
  refine exE11 zq ?_
  clear zq
  intro tr2_1 xsnapped2_2 xmostSlip2_3 xslip2_4 xisDrawn2_5 xseed2_6 xtick2_7 xmotorTick2_8 xahead2_9 nrg_10 nrk_11 hq_13 zq
  refine exA1 zq ?_
  clear zq
  intro hq_14 zq
  subst zq
  refine k_ws [(cO10_vrrvrvvvvi h0 v0h0 tl nw v3h0 nn v5h0 v6h0 v7h0 v8h0 tr2_1), (cO5_riiiiiiii nn nr xsnapped2_2 xmostSlip2_3 xslip2_4 xisDrawn2_5 xseed2_6 xtick2_7 xmotorTick2_8 xahead2_9), (cO8_iiri nr 8 10 nrc nrk_11), (cAI g nrc 80 nrg_10), (cO3_vrvvrvvv tl v0tl yhn v2tl v3tl yhm v5tl v6tl v7tl), (cO8_iiri yhn 1 6 yhnc yhnn), (cAI g yhnc 6 yhnf), (cO8_iiri yhm 4 3 yhmc yhmn), (cAI g yhmc 12 yhmf), (cO7_rrrrii nw zr zm zw zp zmd ztr), (cO8_iiri zr 8 3 zrc zrn), (cAI g zrc 24 zrf), (cO8_iiri zm 12 3 zmc zmn), (cAI g zmc 36 zmf), (cO8_iiri zw 6 3 zwc zwn), (cAI g zwc 18 zwf), (cO8_iiri zp 8 2 zpc zpn), (cAI g zpc 16 zpf)] rfl ?_
  exact k_iret X hr dX10_changes_k0.2.2.2 (Nat.le_of_ble_eq_true rfl) (Nat.le_of_ble_eq_true rfl) [0, 1, 2, 3, 4, 5, 6, 7, 8, 9, 10, 11, 12, 13, 14, 15, 16, 17] (vnd_e rfl) rfl rfl ⟨tr2_1, xsnapped2_2, xmostSlip2_3, xslip2_4, xisDrawn2_5, xseed2_6, xtick2_7, xmotorTick2_8, xahead2_9, nrg_10, nrk_11, (by assumption), ⟨tr2_1, xsnapped2_2, xmostSlip2_3, xslip2_4, xisDrawn2_5, xseed2_6, xtick2_7, xmotorTick2_8, xahead2_9, nrg_10, nrk_11, r_12, hq_14, ⟨rfl, rfl, rfl, rfl, rfl, rfl, rfl, rfl, rfl, rfl, rfl, rfl⟩⟩, rfl⟩



set_option maxHeartbeats 4000000 in
set_option maxRecDepth 100000 in
theorem m_believesOfX (l : Launch) (g : Gx) (h0 : Nat) (p0 : Int32) (p1 : Int32) (m_thrown : Int32) (a_tape : Nat) (m_taped : Int32) (m_size : Int32) (m_at : Int32) (m_end : Int32) (m_token : Int32) (m_whole : Int32) (m_nameSize : Int32) (m_fault : Int32) (m_place : Int32) (m_trouble : Int32) (a_letters : Nat) (m_failed : Int32) (m_hasHouse : Int32) (a_r : Nat) (a_fresh : Nat) (a_st : Nat) (a_undone : Nat) (a_kept : Nat) (m_undos : Int32) (m_images : Int32) (a_from : Nat) (a_begin : Nat) (a_motor : Nat) (a_change : Nat) (a_startFrame : Nat) (a_changeFrame : Nat) (a_lostAt : Nat) (a_blackAt : Nat) (a_slips : Nat) (a_leftArc : Nat) (a_died : Nat) (a_arcs : Nat) (m_bestSum : Int32) (m_nearest : Int32) (m_nearestTown : Int32) (a_there : Nat) (a_backAt : Nat) (a_sorted : Nat) (a_parts : Nat) (m_seed1 : Int32) (m_darkNow : Int32) (d_r : Nat → Int32) (d_st : Nat → Int32) (hv_p0 : IV p0 0 3) (hv_p1 : IV p1 0 7) (hp_d_r : RInv d_r) : cI l g yX11_believesOf cX11_believesOf 7 (some .int) 1 23 0 0 [.ref h0, .int p0, .int p1] [(cO11_i1r1i10r1i2r5i2r12i3r4i2 h0 m_thrown a_tape m_taped m_size m_at m_end m_token m_whole m_nameSize m_fault m_place m_trouble a_letters m_failed m_hasHouse a_r a_fresh a_st a_undone a_kept m_undos m_images a_from a_begin a_motor a_change a_startFrame a_changeFrame a_lostAt a_blackAt a_slips a_leftArc a_died a_arcs m_bestSum m_nearest m_nearestTown a_there a_backAt a_sorted a_parts m_seed1 m_darkNow), (cAI g a_r 311 d_r), (cAI g a_st 44 d_st)] (fun r w => (R_m_believesOfX p0 p1 d_r d_st r) ∧ w = [(cO11_i1r1i10r1i2r5i2r12i3r4i2 h0 m_thrown a_tape m_taped m_size m_at m_end m_token m_whole m_nameSize m_fault m_place m_trouble a_letters m_failed m_hasHouse a_r a_fresh a_st a_undone a_kept m_undos m_images a_from a_begin a_motor a_change a_startFrame a_changeFrame a_lostAt a_blackAt a_slips a_leftArc a_died a_arcs m_bestSum m_nearest m_nearestTown a_there a_backAt a_sorted a_parts m_seed1 m_darkNow), (cAI g a_r 311 d_r), (cAI g a_st 44 d_st)]) := by
  refine cI.of (by decide) (Nat.le_of_ble_eq_true rfl) ?_
  intro p e s m args below meth c A X hr hi
  refine k_lveq [(0, .ref h0), (1, .int p0), (2, .int p1)] rfl ?_
  refine k_aload_n X dX11_believesOf_k0.1.1.1.1 0 rfl ?_
  refine k_iload_n X dX11_believesOf_k0.1.1.1.2 2 rfl ?_
  refine k_callVI (n := 1) (As := [.int p1]) (st := []) X [(cO11_i1r1i10r1i2r5i2r12i3r4i2 h0 m_thrown a_tape m_taped m_size m_at m_end m_token m_whole m_nameSize m_fault m_place m_trouble a_letters m_failed m_hasHouse a_r a_fresh a_st a_undone a_kept m_undos m_images a_from a_begin a_motor a_change a_startFrame a_changeFrame a_lostAt a_blackAt a_slips a_leftArc a_died a_arcs m_bestSum m_nearest m_nearestTown a_there a_backAt a_sorted a_parts m_seed1 m_darkNow), (cAI g a_r 311 d_r)] [(cAI g a_st 44 d_st)] [0, 1] [2] (m_reelAtX l g h0 p1 m_thrown a_tape m_taped m_size m_at m_end m_token m_whole m_nameSize m_fault m_place m_trouble a_letters m_failed m_hasHouse a_r a_fresh a_st a_undone a_kept m_undos m_images a_from a_begin a_motor a_change a_startFrame a_changeFrame a_lostAt a_blackAt a_slips a_leftArc a_died a_arcs m_bestSum m_nearest m_nearestTown a_there a_backAt a_sorted a_parts m_seed1 m_darkNow d_r (iv_w hv_p1 (zle_e rfl) (zle_e rfl)) hp_d_r) dX11_believesOf_k0.1.1.2.1 mw723 mw724 mw725 mw5 mw726 rfl 11 rfl rfl 0 _ rfl yk_yX11_reelAt_1 rfl (Nat.le_of_ble_eq_true rfl) (Nat.le_of_ble_eq_true rfl) (Nat.le_of_ble_eq_true rfl) (Nat.le_of_ble_eq_true rfl) (Nat.le_of_ble_eq_true rfl) rfl rfl (vnd_e rfl) rfl (vnd_e rfl) (dsj_e rfl) ?_
  rintro r_1 w ⟨iv_2, hq_3, rfl⟩
  refine k_ws [(cAI g a_st 44 d_st), (cO11_i1r1i10r1i2r5i2r12i3r4i2 h0 m_thrown a_tape m_taped m_size m_at m_end m_token m_whole m_nameSize m_fault m_place m_trouble a_letters m_failed m_hasHouse a_r a_fresh a_st a_undone a_kept m_undos m_images a_from a_begin a_motor a_change a_startFrame a_changeFrame a_lostAt a_blackAt a_slips a_leftArc a_died a_arcs m_bestSum m_nearest m_nearestTown a_there a_backAt a_sorted a_parts m_seed1 m_darkNow), (cAI g a_r 311 d_r)] rfl ?_
  refine k_istore_n [(3, .int r_1), (0, .ref h0), (1, .int p0), (2, .int p1)] X dX11_believesOf_k0.1.1.2.2 (nlt_e rfl) rfl ?_
  refine k_aload_n X dX11_believesOf_k0.1.2.1.1 1 rfl ?_
  refine k_get (ci := 11) X inlX11 rfl 15 (nlt_e rfl) dX11_believesOf_k0.1.2.1.2 mw170 1 rfl rfl ?_
  refine k_bipush (v := 114) X dX11_believesOf_k0.1.2.2.1 bi_114 ?_
  refine k_iconst (v := 3) X dX11_believesOf_k0.1.2.2.2 ic_3 ?_
  refine k_iload_n X dX11_believesOf_k0.2.1.1.1 2 rfl ?_
  refine k_imul X dX11_believesOf_k0.2.1.1.2 ?_
  refine k_nm (fun z_4 ez_4 => ?_)
  have i_5 : z_4.toInt = 3 * p0.toInt := in_mul ez_4 (by decide) (zle_e rfl) hv_p0 (zle_e rfl) (zle_e rfl)
  have iv_6 : IV z_4 0 9 := iz4 i_5 hv_p0 (zle_e rfl) (zle_e rfl) (zle_e rfl)
  refine k_iadd X dX11_believesOf_k0.2.1.2.1 ?_
  refine k_nm (fun z_7 ez_7 => ?_)
  have i_8 : z_7.toInt = 114 + z_4.toInt := in_add ez_7 iq_114_114_114 iv_6 (zle_e rfl) (zle_e rfl)
  have iv_9 : IV z_7 114 123 := iz2 i_8 iv_6 (zle_e rfl) (zle_e rfl)
  refine k_iald X dX11_believesOf_k0.2.1.2.2 2 rfl (iv_in iv_9 (zle_e rfl) (zle_l rfl)) ?_
  refine k_nm (fun z_10 ez_10 => ?_)
  refine k_istore [(4, .int z_10), (3, .int r_1), (0, .ref h0), (1, .int p0), (2, .int p1)] X dX11_believesOf_k0.2.2.1.1 (nlt_e rfl) rfl ?_
  refine k_aload_n X dX11_believesOf_k0.2.2.1.2 2 rfl ?_
  refine k_get (ci := 11) X inlX11 rfl 17 (nlt_e rfl) dX11_believesOf_k0.2.2.2.1 mw172 1 rfl rfl ?_
  refine k_bipush (v := 8) X dX11_believesOf_k0.2.2.2.2 bi_8 ?_
  refine k_iload_n X dX11_believesOf_k1.1.1.1.1 1 rfl ?_
  refine k_iadd X dX11_believesOf_k1.1.1.1.2 ?_
  refine k_nm (fun z_11 ez_11 => ?_)
  have i_12 : z_11.toInt = 8 + r_1.toInt := in_add ez_11 iq_8_8_8 iv_2 (zle_e rfl) (zle_e rfl)
  have iv_13 : IV z_11 8 15 := by have := iq_8_8_8; have := iv_2; rw [IV, i_12]; omega
  refine k_iald X dX11_believesOf_k1.1.1.2.1 0 rfl (iv_in iv_13 (zle_e rfl) (zle_l rfl)) ?_
  refine k_nm (fun z_14 ez_14 => ?_)
  refine k_istore [(5, .int z_14), (4, .int z_10), (3, .int r_1), (0, .ref h0), (1, .int p0), (2, .int p1)] X dX11_believesOf_k1.1.1.2.2 (nlt_e rfl) rfl ?_
  refine k_iload X dX11_believesOf_k1.1.2.1.1 1 rfl ?_
  refine k_iconst (v := 3) X dX11_believesOf_k1.1.2.1.2 ic_3 ?_
  refine k_ic_ne 69 X dX11_believesOf_k1.1.2.2.1 (jp_e rfl) (fun h_15 => ?_) (fun h_15 => ?_)
  · skip
    refine k_iconst (v := 0) X dX11_believesOf_k2.2.1.2.2 ic_0 ?_
    refine k_istore [(6, .int 0), (5, .int z_14), (4, .int z_10), (3, .int r_1), (0, .ref h0), (1, .int p0), (2, .int p1)] X dX11_believesOf_k2.2.2.1.1 (nlt_e rfl) rfl ?_
    refine (fun hL : ∀ (nn_19 : Nat) (u_16 : Int32) (u_17 : Int32), (2147483647 - u_17.toInt).toNat = nn_19 → (IV u_17 0 255) → (∀ (r : Int32), (∃ n_0 : Nat, R_m_believesOfX_L0 d_r d_st r_1 z_10 (fun (u_16 : Int32) => r = u_16) (fun (u_16 : Int32) => r = u_16) n_0 u_16 u_17) → R_m_believesOfX p0 p1 d_r d_st r) → Wk p l e _ s m args below meth c _ A g _ _ _ [(cAI g a_st 44 d_st), (cO11_i1r1i10r1i2r5i2r12i3r4i2 h0 m_thrown a_tape m_taped m_size m_at m_end m_token m_whole m_nameSize m_fault m_place m_trouble a_letters m_failed m_hasHouse a_r a_fresh a_st a_undone a_kept m_undos m_images a_from a_begin a_motor a_change a_startFrame a_changeFrame a_lostAt a_blackAt a_slips a_leftArc a_died a_arcs m_bestSum m_nearest m_nearestTown a_there a_backAt a_sorted a_parts m_seed1 m_darkNow), (cAI g a_r 311 d_r)] [(6, .int u_17), (5, .int u_16), (4, .int z_10), (3, .int r_1), (0, .ref h0), (1, .int p0), (2, .int p1)] 72 [] => hL _ z_14 0 rfl (iv_w iq_0_0_0 (zle_e rfl) (zle_e rfl)) (fun r h => ⟨r_1, hq_3, ⟨z_4, ez_4, ⟨z_7, ez_7, ⟨z_10, ez_10, ⟨z_11, ez_11, ⟨z_14, ez_14, (Or.inl ⟨h_15, h⟩)⟩⟩⟩⟩⟩⟩)) ?_
    refine fun nn_19 => Nat.strongRecOn nn_19 (fun nn_19 ih_21 => ?_)
    intro u_16 u_17 hm_20 hv_18 KH_0
    refine k_iload X dX11_believesOf_k2.2.2.1.2 0 rfl ?_
    refine k_aload_n X dX11_believesOf_k2.2.2.2.1 4 rfl ?_
    refine k_get (ci := 11) X inlX11 rfl 15 (nlt_e rfl) dX11_believesOf_k2.2.2.2.2 mw170 1 rfl rfl ?_
    refine k_bipush (v := 8) X dX11_believesOf_k3.1.1.1.1 bi_8 ?_
    refine k_iald X dX11_believesOf_k3.1.1.1.2 2 rfl (by unfold vp_in; decide) ?_
    refine k_nm (fun z_22 ez_22 => ?_)
    have i_23 : z_22.toInt = (d_r 8).toInt := by rw [ez_22]; rfl
    have iv_24 : IV z_22 0 12 := rb_8 ez_22 hp_d_r
    refine k_ic_ge 152 X dX11_believesOf_k3.1.1.2.1 (jp_e rfl) (fun h_25 => ?_) (fun h_25 => ?_)
    · skip
      have j_26 : z_22.toInt ≤ u_17.toInt := iv_le h_25
      refine k_iload X dX11_believesOf_k5.2.2.1 1 rfl ?_
      exact k_iret X hr dX11_believesOf_k5.2.2.2 (Nat.le_of_ble_eq_true rfl) (Nat.le_of_ble_eq_true rfl) [1, 2, 0] (vnd_e rfl) rfl rfl ⟨(KH_0 _ ⟨0 + 1, ⟨z_22, ez_22, (Or.inl ⟨h_25, rfl⟩)⟩⟩), rfl⟩
    · skip
      have j_27 : u_17.toInt < z_22.toInt := iv_nle h_25
      have iv_28 : IV u_17 0 11 := iv_ltL (iv_nle h_25) hv_18 iv_24 (zle_e rfl)
      have iv_29 : IV z_22 1 12 := iv_ltR (iv_nle h_25) hv_18 iv_24 (zle_e rfl)
      refine k_iload X dX11_believesOf_k3.1.1.2.2 2 rfl ?_
      refine k_if_eq 152 X dX11_believesOf_k3.1.2.1.1 (jp_e rfl) (fun h_30 => ?_) (fun h_30 => ?_)
      · skip
        have iv_31 : IV z_10 0 0 := iv_meet (iv_any z_10) (iv_e h_30 iq_0_0_0) (zle_o rfl) (zle_o rfl)
        refine k_iload X dX11_believesOf_k5.2.2.1 1 rfl ?_
        exact k_iret X hr dX11_believesOf_k5.2.2.2 (Nat.le_of_ble_eq_true rfl) (Nat.le_of_ble_eq_true rfl) [1, 2, 0] (vnd_e rfl) rfl rfl ⟨(KH_0 _ ⟨0 + 1, ⟨z_22, ez_22, (Or.inr ⟨h_25, (Or.inl ⟨h_30, rfl⟩)⟩)⟩⟩), rfl⟩
      · skip
        refine k_aload_n X dX11_believesOf_k3.1.2.1.2 4 rfl ?_
        refine k_get (ci := 11) X inlX11 rfl 15 (nlt_e rfl) dX11_believesOf_k3.1.2.2.1 mw170 1 rfl rfl ?_
        refine k_bipush (v := 44) X dX11_believesOf_k3.1.2.2.2 bi_44 ?_
        refine k_iconst (v := 3) X dX11_believesOf_k3.2.1.1.1 ic_3 ?_
        refine k_iload X dX11_believesOf_k3.2.1.1.2 0 rfl ?_
        refine k_imul X dX11_believesOf_k3.2.1.2.1 ?_
        refine k_nm (fun z_32 ez_32 => ?_)
        have i_33 : z_32.toInt = 3 * u_17.toInt := in_mul ez_32 (by decide) (zle_e rfl) iv_28 (zle_e rfl) (zle_e rfl)
        have iv_34 : IV z_32 0 33 := iz4 i_33 iv_28 (zle_e rfl) (zle_e rfl) (zle_e rfl)
        refine k_iadd X dX11_believesOf_k3.2.1.2.2 ?_
        refine k_nm (fun z_35 ez_35 => ?_)
        have i_36 : z_35.toInt = 44 + z_32.toInt := in_add ez_35 iq_44_44_44 iv_34 (zle_e rfl) (zle_e rfl)
        have iv_37 : IV z_35 44 77 := iz2 i_36 iv_34 (zle_e rfl) (zle_e rfl)
        refine k_iald X dX11_believesOf_k3.2.2.1.1 2 rfl (iv_in iv_37 (zle_e rfl) (zle_l rfl)) ?_
        refine k_nm (fun z_38 ez_38 => ?_)
        have i_39 : z_35.toInt = 44 + 3 * u_17.toInt := by omega
        have iv_40 : IV z_38 0 7 := rb_44_3 ez_38 hp_d_r i_39 (iv_w iv_28 (zle_e rfl) (zle_e rfl))
        refine k_iload_n X dX11_believesOf_k3.2.2.1.2 3 rfl ?_
        refine k_ic_ne 146 X dX11_believesOf_k3.2.2.2.1 (jp_e rfl) (fun h_41 => ?_) (fun h_41 => ?_)
        · skip
          obtain ⟨z_42, ez_42⟩ : ∃ y : Int32, u_17 + Int32.ofInt 1 = y := ⟨_, rfl⟩
          refine k_iinc z_42 [(6, .int z_42), (5, .int u_16), (4, .int z_10), (3, .int r_1), (0, .ref h0), (1, .int p0), (2, .int p1)] 0 X dX11_believesOf_k5.2.1.1 rfl ez_42 (nlt_e rfl) rfl ?_
          have i_43 : z_42.toInt = u_17.toInt + 1 := in_inc ez_42 (oin_e rfl) iv_28 (zle_e rfl) (zle_e rfl)
          have iv_44 : IV z_42 1 12 := iz1 i_43 iv_28 (zle_e rfl) (zle_e rfl)
          refine k_goto 72 X dX11_believesOf_k5.2.1.2 (jp_e rfl) ?_
          exact ih_21 _ (by omega) u_16 z_42 rfl (iv_w iv_44 (zle_e rfl) (zle_e rfl)) (fun r h => h.elim (fun n_0 q => (KH_0 _ ⟨n_0 + 1, ⟨z_22, ez_22, (Or.inr ⟨h_25, (Or.inr ⟨h_30, ⟨z_32, ez_32, ⟨z_35, ez_35, ⟨z_38, ez_38, (Or.inl ⟨h_41, ⟨z_42, ez_42, q⟩⟩)⟩⟩⟩⟩)⟩)⟩⟩)))
        · skip
          refine k_iload X dX11_believesOf_k3.2.2.2.2 2 rfl ?_
          refine k_iconst (v := 1) X dX11_believesOf_k4.1.1.1.1 ic_1 ?_
          refine k_ic_ne 129 X dX11_believesOf_k4.1.1.1.2 (jp_e rfl) (fun h_45 => ?_) (fun h_45 => ?_)
          · skip
            refine k_iload X dX11_believesOf_k4.2.1.2.2 1 rfl ?_
            refine k_aload_n X dX11_believesOf_k4.2.2.1.1 4 rfl ?_
            refine k_get (ci := 11) X inlX11 rfl 17 (nlt_e rfl) dX11_believesOf_k4.2.2.1.2 mw172 1 rfl rfl ?_
            refine k_bipush (v := 16) X dX11_believesOf_k4.2.2.2.1 bi_16 ?_
            refine k_iload X dX11_believesOf_k4.2.2.2.2 0 rfl ?_
            refine k_iadd X dX11_believesOf_k5.1.1.1 ?_
            refine k_nm (fun z_46 ez_46 => ?_)
            have i_47 : z_46.toInt = 16 + u_17.toInt := in_add ez_46 iq_16_16_16 iv_28 (zle_e rfl) (zle_e rfl)
            have iv_48 : IV z_46 16 27 := iz2 i_47 iv_28 (zle_e rfl) (zle_e rfl)
            refine k_iald X dX11_believesOf_k5.1.1.2 0 rfl (iv_in iv_48 (zle_e rfl) (zle_l rfl)) ?_
            refine k_nm (fun z_49 ez_49 => ?_)
            refine k_callSI (n := 2) (As := [.int u_16, .int z_49]) (st := []) X [] [(cAI g a_st 44 d_st), (cO11_i1r1i10r1i2r5i2r12i3r4i2 h0 m_thrown a_tape m_taped m_size m_at m_end m_token m_whole m_nameSize m_fault m_place m_trouble a_letters m_failed m_hasHouse a_r a_fresh a_st a_undone a_kept m_undos m_images a_from a_begin a_motor a_change a_startFrame a_changeFrame a_lostAt a_blackAt a_slips a_leftArc a_died a_arcs m_bestSum m_nearest m_nearestTown a_there a_backAt a_sorted a_parts m_seed1 m_darkNow), (cAI g a_r 311 d_r)] [] [0, 1, 2] (m_mostX l g u_16 z_49) dX11_believesOf_k5.1.2.1 mw842 mw843 mw5 mw844 yk_yX11_most_2 rfl (Nat.le_of_ble_eq_true rfl) (Nat.le_of_ble_eq_true rfl) (Nat.le_of_ble_eq_true rfl) (Nat.le_of_ble_eq_true rfl) (Nat.le_of_ble_eq_true rfl) rfl rfl (vnd_e rfl) rfl (vnd_e rfl) (dsj_e rfl) ?_
            rintro r_50 w ⟨hq_51, rfl⟩
            refine k_ws [(cAI g a_st 44 d_st), (cO11_i1r1i10r1i2r5i2r12i3r4i2 h0 m_thrown a_tape m_taped m_size m_at m_end m_token m_whole m_nameSize m_fault m_place m_trouble a_letters m_failed m_hasHouse a_r a_fresh a_st a_undone a_kept m_undos m_images a_from a_begin a_motor a_change a_startFrame a_changeFrame a_lostAt a_blackAt a_slips a_leftArc a_died a_arcs m_bestSum m_nearest m_nearestTown a_there a_backAt a_sorted a_parts m_seed1 m_darkNow), (cAI g a_r 311 d_r)] rfl ?_
            refine k_istore [(5, .int r_50), (6, .int u_17), (4, .int z_10), (3, .int r_1), (0, .ref h0), (1, .int p0), (2, .int p1)] X dX11_believesOf_k5.1.2.2 (nlt_e rfl) rfl ?_
            obtain ⟨z_52, ez_52⟩ : ∃ y : Int32, u_17 + Int32.ofInt 1 = y := ⟨_, rfl⟩
            refine k_iinc z_52 [(6, .int z_52), (5, .int r_50), (4, .int z_10), (3, .int r_1), (0, .ref h0), (1, .int p0), (2, .int p1)] 1 X dX11_believesOf_k5.2.1.1 rfl ez_52 (nlt_e rfl) rfl ?_
            have i_53 : z_52.toInt = u_17.toInt + 1 := in_inc ez_52 (oin_e rfl) iv_28 (zle_e rfl) (zle_e rfl)
            have iv_54 : IV z_52 1 12 := iz1 i_53 iv_28 (zle_e rfl) (zle_e rfl)
            refine k_goto 72 X dX11_believesOf_k5.2.1.2 (jp_e rfl) ?_
            exact ih_21 _ (by omega) r_50 z_52 rfl (iv_w iv_54 (zle_e rfl) (zle_e rfl)) (fun r h => h.elim (fun n_0 q => (KH_0 _ ⟨n_0 + 1, ⟨z_22, ez_22, (Or.inr ⟨h_25, (Or.inr ⟨h_30, ⟨z_32, ez_32, ⟨z_35, ez_35, ⟨z_38, ez_38, (Or.inr ⟨h_41, (Or.inl ⟨h_45, ⟨z_46, ez_46, ⟨z_49, ez_49, ⟨r_50, hq_51, ⟨z_52, ez_52, q⟩⟩⟩⟩⟩)⟩)⟩⟩⟩⟩)⟩)⟩⟩)))
          · skip
            have iv_55 : IV z_10 1 1 := iv_meet (iv_any z_10) (iv_e h_45 iq_1_1_1) (zle_o rfl) (zle_o rfl)
            refine k_iload X dX11_believesOf_k4.1.1.2.1 1 rfl ?_
            refine k_aload_n X dX11_believesOf_k4.1.1.2.2 4 rfl ?_
            refine k_get (ci := 11) X inlX11 rfl 17 (nlt_e rfl) dX11_believesOf_k4.1.2.1.1 mw172 1 rfl rfl ?_
            refine k_bipush (v := 16) X dX11_believesOf_k4.1.2.1.2 bi_16 ?_
            refine k_iload X dX11_believesOf_k4.1.2.2.1 0 rfl ?_
            refine k_iadd X dX11_believesOf_k4.1.2.2.2 ?_
            refine k_nm (fun z_56 ez_56 => ?_)
            have i_57 : z_56.toInt = 16 + u_17.toInt := in_add ez_56 iq_16_16_16 iv_28 (zle_e rfl) (zle_e rfl)
            have iv_58 : IV z_56 16 27 := iz2 i_57 iv_28 (zle_e rfl) (zle_e rfl)
            refine k_iald X dX11_believesOf_k4.2.1.1.1 0 rfl (iv_in iv_58 (zle_e rfl) (zle_l rfl)) ?_
            refine k_nm (fun z_59 ez_59 => ?_)
            refine k_callSI (n := 2) (As := [.int u_16, .int z_59]) (st := []) X [] [(cAI g a_st 44 d_st), (cO11_i1r1i10r1i2r5i2r12i3r4i2 h0 m_thrown a_tape m_taped m_size m_at m_end m_token m_whole m_nameSize m_fault m_place m_trouble a_letters m_failed m_hasHouse a_r a_fresh a_st a_undone a_kept m_undos m_images a_from a_begin a_motor a_change a_startFrame a_changeFrame a_lostAt a_blackAt a_slips a_leftArc a_died a_arcs m_bestSum m_nearest m_nearestTown a_there a_backAt a_sorted a_parts m_seed1 m_darkNow), (cAI g a_r 311 d_r)] [] [0, 1, 2] (m_leastX l g u_16 z_59) dX11_believesOf_k4.2.1.1.2 mw839 mw840 mw5 mw841 yk_yX11_least_2 rfl (Nat.le_of_ble_eq_true rfl) (Nat.le_of_ble_eq_true rfl) (Nat.le_of_ble_eq_true rfl) (Nat.le_of_ble_eq_true rfl) (Nat.le_of_ble_eq_true rfl) rfl rfl (vnd_e rfl) rfl (vnd_e rfl) (dsj_e rfl) ?_
            rintro r_60 w ⟨hq_61, rfl⟩
            refine k_ws [(cAI g a_st 44 d_st), (cO11_i1r1i10r1i2r5i2r12i3r4i2 h0 m_thrown a_tape m_taped m_size m_at m_end m_token m_whole m_nameSize m_fault m_place m_trouble a_letters m_failed m_hasHouse a_r a_fresh a_st a_undone a_kept m_undos m_images a_from a_begin a_motor a_change a_startFrame a_changeFrame a_lostAt a_blackAt a_slips a_leftArc a_died a_arcs m_bestSum m_nearest m_nearestTown a_there a_backAt a_sorted a_parts m_seed1 m_darkNow), (cAI g a_r 311 d_r)] rfl ?_
            refine k_goto 144 X dX11_believesOf_k4.2.1.2.1 (jp_e rfl) ?_
            refine k_istore [(5, .int r_60), (6, .int u_17), (4, .int z_10), (3, .int r_1), (0, .ref h0), (1, .int p0), (2, .int p1)] X dX11_believesOf_k5.1.2.2 (nlt_e rfl) rfl ?_
            obtain ⟨z_62, ez_62⟩ : ∃ y : Int32, u_17 + Int32.ofInt 1 = y := ⟨_, rfl⟩
            refine k_iinc z_62 [(6, .int z_62), (5, .int r_60), (4, .int z_10), (3, .int r_1), (0, .ref h0), (1, .int p0), (2, .int p1)] 1 X dX11_believesOf_k5.2.1.1 rfl ez_62 (nlt_e rfl) rfl ?_
            have i_63 : z_62.toInt = u_17.toInt + 1 := in_inc ez_62 (oin_e rfl) iv_28 (zle_e rfl) (zle_e rfl)
            have iv_64 : IV z_62 1 12 := iz1 i_63 iv_28 (zle_e rfl) (zle_e rfl)
            refine k_goto 72 X dX11_believesOf_k5.2.1.2 (jp_e rfl) ?_
            exact ih_21 _ (by omega) r_60 z_62 rfl (iv_w iv_64 (zle_e rfl) (zle_e rfl)) (fun r h => h.elim (fun n_0 q => (KH_0 _ ⟨n_0 + 1, ⟨z_22, ez_22, (Or.inr ⟨h_25, (Or.inr ⟨h_30, ⟨z_32, ez_32, ⟨z_35, ez_35, ⟨z_38, ez_38, (Or.inr ⟨h_41, (Or.inr ⟨h_45, ⟨z_56, ez_56, ⟨z_59, ez_59, ⟨r_60, hq_61, ⟨z_62, ez_62, q⟩⟩⟩⟩⟩)⟩)⟩⟩⟩⟩)⟩)⟩⟩)))
  · skip
    have iv_65 : IV z_10 3 3 := iv_meet (iv_any z_10) (iv_e h_15 iq_3_3_3) (zle_o rfl) (zle_o rfl)
    refine k_aload_n X dX11_believesOf_k1.1.2.2.2 3 rfl ?_
    refine k_iload_n X dX11_believesOf_k1.2.1.1.1 2 rfl ?_
    refine k_aload_n X dX11_believesOf_k1.2.1.1.2 3 rfl ?_
    refine k_get (ci := 11) X inlX11 rfl 15 (nlt_e rfl) dX11_believesOf_k1.2.1.2.1 mw170 1 rfl rfl ?_
    refine k_bipush (v := 114) X dX11_believesOf_k1.2.1.2.2 bi_114 ?_
    refine k_iconst (v := 3) X dX11_believesOf_k1.2.2.1.1 ic_3 ?_
    refine k_iload_n X dX11_believesOf_k1.2.2.1.2 4 rfl ?_
    refine k_imul X dX11_believesOf_k1.2.2.2.1 ?_
    refine k_to z_4 ez_4.symm ?_
    refine k_iadd X dX11_believesOf_k1.2.2.2.2 ?_
    refine k_to z_7 ez_7.symm ?_
    refine k_iconst (v := 1) X dX11_believesOf_k2.1.1.1.1 ic_1 ?_
    refine k_iadd X dX11_believesOf_k2.1.1.1.2 ?_
    refine k_nm (fun z_66 ez_66 => ?_)
    have i_67 : z_66.toInt = z_7.toInt + 1 := in_add ez_66 iv_9 iq_1_1_1 (zle_e rfl) (zle_e rfl)
    have iv_68 : IV z_66 115 124 := iz1 i_67 iv_9 (zle_e rfl) (zle_e rfl)
    refine k_iald X dX11_believesOf_k2.1.1.2.1 2 rfl (iv_in iv_68 (zle_e rfl) (zle_l rfl)) ?_
    refine k_nm (fun z_69 ez_69 => ?_)
    refine k_callVI (n := 2) (As := [.int r_1, .int z_69]) (st := []) X [(cO11_i1r1i10r1i2r5i2r12i3r4i2 h0 m_thrown a_tape m_taped m_size m_at m_end m_token m_whole m_nameSize m_fault m_place m_trouble a_letters m_failed m_hasHouse a_r a_fresh a_st a_undone a_kept m_undos m_images a_from a_begin a_motor a_change a_startFrame a_changeFrame a_lostAt a_blackAt a_slips a_leftArc a_died a_arcs m_bestSum m_nearest m_nearestTown a_there a_backAt a_sorted a_parts m_seed1 m_darkNow), (cAI g a_r 311 d_r), (cAI g a_st 44 d_st)] [] [1, 2, 0] [] (m_markOfX l g h0 r_1 z_69 m_thrown a_tape m_taped m_size m_at m_end m_token m_whole m_nameSize m_fault m_place m_trouble a_letters m_failed m_hasHouse a_r a_fresh a_st a_undone a_kept m_undos m_images a_from a_begin a_motor a_change a_startFrame a_changeFrame a_lostAt a_blackAt a_slips a_leftArc a_died a_arcs m_bestSum m_nearest m_nearestTown a_there a_backAt a_sorted a_parts m_seed1 m_darkNow d_r d_st hp_d_r) dX11_believesOf_k2.1.1.2.2 mw703 mw704 mw705 mw5 mw706 rfl 11 rfl rfl 0 _ rfl yk_yX11_markOf_2 rfl (Nat.le_of_ble_eq_true rfl) (Nat.le_of_ble_eq_true rfl) (Nat.le_of_ble_eq_true rfl) (Nat.le_of_ble_eq_true rfl) (Nat.le_of_ble_eq_true rfl) rfl rfl (vnd_e rfl) rfl (vnd_e rfl) (dsj_e rfl) ?_
    rintro r_70 w ⟨hq_71, rfl⟩
    refine k_ws [(cO11_i1r1i10r1i2r5i2r12i3r4i2 h0 m_thrown a_tape m_taped m_size m_at m_end m_token m_whole m_nameSize m_fault m_place m_trouble a_letters m_failed m_hasHouse a_r a_fresh a_st a_undone a_kept m_undos m_images a_from a_begin a_motor a_change a_startFrame a_changeFrame a_lostAt a_blackAt a_slips a_leftArc a_died a_arcs m_bestSum m_nearest m_nearestTown a_there a_backAt a_sorted a_parts m_seed1 m_darkNow), (cAI g a_r 311 d_r), (cAI g a_st 44 d_st)] rfl ?_
    refine k_istore [(6, .int r_70), (5, .int z_14), (4, .int z_10), (3, .int r_1), (0, .ref h0), (1, .int p0), (2, .int p1)] X dX11_believesOf_k2.1.2.1.1 (nlt_e rfl) rfl ?_
    refine k_iload X dX11_believesOf_k2.1.2.1.2 0 rfl ?_
    refine k_if_ge 66 X dX11_believesOf_k2.1.2.2.1 (jp_e rfl) (fun h_72 => ?_) (fun h_72 => ?_)
    · skip
      have j_73 : 0 ≤ r_70.toInt := iv_le h_72
      have iv_74 : IV r_70 0 2147483647 := iv_leR (iv_le h_72) iq_0_0_0 (iv_any r_70) (zle_e rfl)
      refine k_iload X dX11_believesOf_k2.2.1.1.2 0 rfl ?_
      exact k_iret X hr dX11_believesOf_k2.2.1.2.1 (Nat.le_of_ble_eq_true rfl) (Nat.le_of_ble_eq_true rfl) [0, 1, 2] (vnd_e rfl) rfl rfl ⟨⟨r_1, hq_3, ⟨z_4, ez_4, ⟨z_7, ez_7, ⟨z_10, ez_10, ⟨z_11, ez_11, ⟨z_14, ez_14, (Or.inr ⟨h_15, ⟨z_66, ez_66, ⟨z_69, ez_69, ⟨r_70, hq_71, (Or.inl ⟨h_72, rfl⟩)⟩⟩⟩⟩)⟩⟩⟩⟩⟩⟩, rfl⟩
    · skip
      have j_75 : r_70.toInt < 0 := iv_nle h_72
      have iv_76 : IV r_70 (-2147483648) (-1) := iv_ltL (iv_nle h_72) (iv_any r_70) iq_0_0_0 (zle_e rfl)
      refine k_iload X dX11_believesOf_k2.1.2.2.2 1 rfl ?_
      refine k_goto 68 X dX11_believesOf_k2.2.1.1.1 (jp_e rfl) ?_
      exact k_iret X hr dX11_believesOf_k2.2.1.2.1 (Nat.le_of_ble_eq_true rfl) (Nat.le_of_ble_eq_true rfl) [0, 1, 2] (vnd_e rfl) rfl rfl ⟨⟨r_1, hq_3, ⟨z_4, ez_4, ⟨z_7, ez_7, ⟨z_10, ez_10, ⟨z_11, ez_11, ⟨z_14, ez_14, (Or.inr ⟨h_15, ⟨z_66, ez_66, ⟨z_69, ez_69, ⟨r_70, hq_71, (Or.inr ⟨h_72, rfl⟩)⟩⟩⟩⟩)⟩⟩⟩⟩⟩⟩, rfl⟩


set_option maxHeartbeats 4000000 in
set_option maxRecDepth 100000 in
theorem m_isGoneX (l : Launch) (g : Gx) (h0 : Nat) (p0 : Int32) (m_thrown : Int32) (a_tape : Nat) (m_taped : Int32) (m_size : Int32) (m_at : Int32) (m_end : Int32) (m_token : Int32) (m_whole : Int32) (m_nameSize : Int32) (m_fault : Int32) (m_place : Int32) (m_trouble : Int32) (a_letters : Nat) (m_failed : Int32) (m_hasHouse : Int32) (a_r : Nat) (a_fresh : Nat) (a_st : Nat) (a_undone : Nat) (a_kept : Nat) (m_undos : Int32) (m_images : Int32) (a_from : Nat) (a_begin : Nat) (a_motor : Nat) (a_change : Nat) (a_startFrame : Nat) (a_changeFrame : Nat) (a_lostAt : Nat) (a_blackAt : Nat) (a_slips : Nat) (a_leftArc : Nat) (a_died : Nat) (a_arcs : Nat) (m_bestSum : Int32) (m_nearest : Int32) (m_nearestTown : Int32) (a_there : Nat) (a_backAt : Nat) (a_sorted : Nat) (a_parts : Nat) (m_seed1 : Int32) (m_darkNow : Int32) (d_r : Nat → Int32) (d_st : Nat → Int32) (d_from : Nat → Int32) (hv_p0 : IV p0 0 7) (hp_d_r : RInv d_r) : cI l g yX11_isGone cX11_isGone 2 (some .boolean) 2 42 0 0 [.ref h0, .int p0] [(cO11_i1r1i10r1i2r5i2r12i3r4i2 h0 m_thrown a_tape m_taped m_size m_at m_end m_token m_whole m_nameSize m_fault m_place m_trouble a_letters m_failed m_hasHouse a_r a_fresh a_st a_undone a_kept m_undos m_images a_from a_begin a_motor a_change a_startFrame a_changeFrame a_lostAt a_blackAt a_slips a_leftArc a_died a_arcs m_bestSum m_nearest m_nearestTown a_there a_backAt a_sorted a_parts m_seed1 m_darkNow), (cAI g a_r 311 d_r), (cAI g a_st 44 d_st), (cAI g a_from 8 d_from)] (fun r w => IV r 0 1 ∧ (R_m_isGoneX p0 d_r d_st d_from r) ∧ w = [(cO11_i1r1i10r1i2r5i2r12i3r4i2 h0 m_thrown a_tape m_taped m_size m_at m_end m_token m_whole m_nameSize m_fault m_place m_trouble a_letters m_failed m_hasHouse a_r a_fresh a_st a_undone a_kept m_undos m_images a_from a_begin a_motor a_change a_startFrame a_changeFrame a_lostAt a_blackAt a_slips a_leftArc a_died a_arcs m_bestSum m_nearest m_nearestTown a_there a_backAt a_sorted a_parts m_seed1 m_darkNow), (cAI g a_r 311 d_r), (cAI g a_st 44 d_st), (cAI g a_from 8 d_from)]) := by
  refine cI.of (by decide) (Nat.le_of_ble_eq_true rfl) ?_
  intro p e s m args below meth c A X hr hi
  refine k_lveq [(0, .ref h0), (1, .int p0)] rfl ?_
  refine k_aload_n X dX11_isGone_k0.1.1.1 0 rfl ?_
  refine k_get (ci := 11) X inlX11 rfl 22 (nlt_e rfl) dX11_isGone_k0.1.1.2.1 mw175 0 rfl rfl ?_
  refine k_iload_n X dX11_isGone_k0.1.1.2.2 1 rfl ?_
  refine k_iald X dX11_isGone_k0.1.2.1 3 rfl (iv_in hv_p0 (zle_e rfl) (zle_l rfl)) ?_
  refine k_nm (fun z_1 ez_1 => ?_)
  refine k_aload_n X dX11_isGone_k0.1.2.2.1 0 rfl ?_
  refine k_iload_n X dX11_isGone_k0.1.2.2.2 1 rfl ?_
  refine k_callVI (n := 1) (As := [.int p0]) (st := [.int z_1]) X [(cO11_i1r1i10r1i2r5i2r12i3r4i2 h0 m_thrown a_tape m_taped m_size m_at m_end m_token m_whole m_nameSize m_fault m_place m_trouble a_letters m_failed m_hasHouse a_r a_fresh a_st a_undone a_kept m_undos m_images a_from a_begin a_motor a_change a_startFrame a_changeFrame a_lostAt a_blackAt a_slips a_leftArc a_died a_arcs m_bestSum m_nearest m_nearestTown a_there a_backAt a_sorted a_parts m_seed1 m_darkNow), (cAI g a_r 311 d_r), (cAI g a_st 44 d_st)] [(cAI g a_from 8 d_from)] [0, 1, 2] [3] (m_framesAtX l g h0 p0 m_thrown a_tape m_taped m_size m_at m_end m_token m_whole m_nameSize m_fault m_place m_trouble a_letters m_failed m_hasHouse a_r a_fresh a_st a_undone a_kept m_undos m_images a_from a_begin a_motor a_change a_startFrame a_changeFrame a_lostAt a_blackAt a_slips a_leftArc a_died a_arcs m_bestSum m_nearest m_nearestTown a_there a_backAt a_sorted a_parts m_seed1 m_darkNow d_r d_st (iv_w hv_p0 (zle_e rfl) (zle_e rfl)) hp_d_r) dX11_isGone_k0.2.1.1 mw823 mw824 mw825 mw5 mw826 rfl 11 rfl rfl 0 _ rfl yk_yX11_framesAt_1 rfl (Nat.le_of_ble_eq_true rfl) (Nat.le_of_ble_eq_true rfl) (Nat.le_of_ble_eq_true rfl) (Nat.le_of_ble_eq_true rfl) (Nat.le_of_ble_eq_true rfl) rfl rfl (vnd_e rfl) rfl (vnd_e rfl) (dsj_e rfl) ?_
  rintro r_2 w ⟨hq_3, rfl⟩
  refine k_ws [(cAI g a_from 8 d_from), (cO11_i1r1i10r1i2r5i2r12i3r4i2 h0 m_thrown a_tape m_taped m_size m_at m_end m_token m_whole m_nameSize m_fault m_place m_trouble a_letters m_failed m_hasHouse a_r a_fresh a_st a_undone a_kept m_undos m_images a_from a_begin a_motor a_change a_startFrame a_changeFrame a_lostAt a_blackAt a_slips a_leftArc a_died a_arcs m_bestSum m_nearest m_nearestTown a_there a_backAt a_sorted a_parts m_seed1 m_darkNow), (cAI g a_r 311 d_r), (cAI g a_st 44 d_st)] rfl ?_
  refine k_ic_lt 18 X dX11_isGone_k0.2.1.2.1 (jp_e rfl) (fun h_4 => ?_) (fun h_4 => ?_)
  · skip
    have j_5 : z_1.toInt < r_2.toInt := iv_lt h_4
    have iv_6 : IV z_1 (-2147483648) 2147483646 := iv_ltL (iv_lt h_4) (iv_any z_1) (iv_any r_2) (zle_e rfl)
    have iv_7 : IV r_2 (-2147483647) 2147483647 := iv_ltR (iv_lt h_4) (iv_any z_1) (iv_any r_2) (zle_e rfl)
    refine k_iconst (v := 0) X dX11_isGone_k0.2.2.2.1 ic_0 ?_
    exact k_zret X hr (by first | rfl | decide) dX11_isGone_k0.2.2.2.2 (Nat.le_of_ble_eq_true rfl) (Nat.le_of_ble_eq_true rfl) [1, 2, 3, 0] (vnd_e rfl) rfl rfl ⟨(iv_w iq_0_0_0 (zle_e rfl) (zle_e rfl)), ⟨z_1, ez_1, ⟨r_2, hq_3, (Or.inl ⟨h_4, rfl⟩)⟩⟩, rfl⟩
  · skip
    have j_8 : r_2.toInt ≤ z_1.toInt := iv_nlt h_4
    refine k_iconst (v := 1) X dX11_isGone_k0.2.1.2.2 ic_1 ?_
    refine k_goto 19 X dX11_isGone_k0.2.2.1 (jp_e rfl) ?_
    exact k_zret X hr (by first | rfl | decide) dX11_isGone_k0.2.2.2.2 (Nat.le_of_ble_eq_true rfl) (Nat.le_of_ble_eq_true rfl) [1, 2, 3, 0] (vnd_e rfl) rfl rfl ⟨(iv_w iq_1_1_1 (zle_e rfl) (zle_e rfl)), ⟨z_1, ez_1, ⟨r_2, hq_3, (Or.inr ⟨h_4, rfl⟩)⟩⟩, rfl⟩


set_option maxHeartbeats 4000000 in
set_option maxRecDepth 100000 in
theorem m_followsX (l : Launch) (g : Gx) (h0 : Nat) (p0 : Int32) (p1 : Int32) (p2 : Int32) (p3 : Int32) (p4 : Int32) (m_thrown : Int32) (a_tape : Nat) (m_taped : Int32) (m_size : Int32) (m_at : Int32) (m_end : Int32) (m_token : Int32) (m_whole : Int32) (m_nameSize : Int32) (m_fault : Int32) (m_place : Int32) (m_trouble : Int32) (a_letters : Nat) (m_failed : Int32) (m_hasHouse : Int32) (a_r : Nat) (a_fresh : Nat) (a_st : Nat) (a_undone : Nat) (a_kept : Nat) (m_undos : Int32) (m_images : Int32) (a_from : Nat) (a_begin : Nat) (a_motor : Nat) (a_change : Nat) (a_startFrame : Nat) (a_changeFrame : Nat) (a_lostAt : Nat) (a_blackAt : Nat) (a_slips : Nat) (a_leftArc : Nat) (a_died : Nat) (a_arcs : Nat) (m_bestSum : Int32) (m_nearest : Int32) (m_nearestTown : Int32) (a_there : Nat) (a_backAt : Nat) (a_sorted : Nat) (a_parts : Nat) (m_seed1 : Int32) (m_darkNow : Int32) (d_from : Nat → Int32) (d_begin : Nat → Int32) (d_motor : Nat → Int32) (d_lostAt : Nat → Int32) (d_blackAt : Nat → Int32) (hv_p0 : IV p0 0 6) : cV l g yX11_follows cX11_follows 7 0 0 0 0 [.ref h0, .int p0, .int p1, .int p2, .int p3, .int p4] [(cO11_i1r1i10r1i2r5i2r12i3r4i2 h0 m_thrown a_tape m_taped m_size m_at m_end m_token m_whole m_nameSize m_fault m_place m_trouble a_letters m_failed m_hasHouse a_r a_fresh a_st a_undone a_kept m_undos m_images a_from a_begin a_motor a_change a_startFrame a_changeFrame a_lostAt a_blackAt a_slips a_leftArc a_died a_arcs m_bestSum m_nearest m_nearestTown a_there a_backAt a_sorted a_parts m_seed1 m_darkNow), (cAI g a_from 8 d_from), (cAI g a_begin 8 d_begin), (cAI g a_motor 8 d_motor), (cAI g a_lostAt 8 d_lostAt), (cAI g a_blackAt 8 d_blackAt)] (fun w => ∃ (d_begin2 : Nat → Int32) (d_blackAt2 : Nat → Int32) (d_from2 : Nat → Int32) (d_lostAt2 : Nat → Int32) (d_motor2 : Nat → Int32), (R_m_followsX p0 p1 p2 p3 p4 d_from d_begin d_motor d_lostAt d_blackAt d_begin2 d_blackAt2 d_from2 d_lostAt2 d_motor2) ∧ w = [(cO11_i1r1i10r1i2r5i2r12i3r4i2 h0 m_thrown a_tape m_taped m_size m_at m_end m_token m_whole m_nameSize m_fault m_place m_trouble a_letters m_failed m_hasHouse a_r a_fresh a_st a_undone a_kept m_undos m_images a_from a_begin a_motor a_change a_startFrame a_changeFrame a_lostAt a_blackAt a_slips a_leftArc a_died a_arcs m_bestSum m_nearest m_nearestTown a_there a_backAt a_sorted a_parts m_seed1 m_darkNow), (cAI g a_from 8 d_from2), (cAI g a_begin 8 d_begin2), (cAI g a_motor 8 d_motor2), (cAI g a_lostAt 8 d_lostAt2), (cAI g a_blackAt 8 d_blackAt2)]) := by
  refine cV.of (by decide) (Nat.le_of_ble_eq_true rfl) ?_
  intro p e s m args below meth c A X hr hi
  refine k_lveq [(0, .ref h0), (1, .int p0), (2, .int p1), (3, .int p2), (4, .int p3), (5, .int p4)] rfl ?_
  refine k_iload_n X dX11_follows_k0.1.1.1.1 1 rfl ?_
  refine k_iconst (v := 1) X dX11_follows_k0.1.1.1.2 ic_1 ?_
  refine k_iadd X dX11_follows_k0.1.1.2.1 ?_
  refine k_nm (fun z_1 ez_1 => ?_)
  have i_2 : z_1.toInt = p0.toInt + 1 := in_add ez_1 hv_p0 iq_1_1_1 (zle_e rfl) (zle_e rfl)
  have iv_3 : IV z_1 1 7 := iz1 i_2 hv_p0 (zle_e rfl) (zle_e rfl)
  refine k_istore [(6, .int z_1), (0, .ref h0), (1, .int p0), (2, .int p1), (3, .int p2), (4, .int p3), (5, .int p4)] X dX11_follows_k0.1.1.2.2 (nlt_e rfl) rfl ?_
  refine k_aload_n X dX11_follows_k0.1.2.1.1 1 rfl ?_
  refine k_get (ci := 11) X inlX11 rfl 24 (nlt_e rfl) dX11_follows_k0.1.2.1.2 mw177 0 rfl rfl ?_
  refine k_iload X dX11_follows_k0.1.2.2.1 0 rfl ?_
  refine k_iload_n X dX11_follows_k0.1.2.2.2 3 rfl ?_
  refine k_iast [(cO11_i1r1i10r1i2r5i2r12i3r4i2 h0 m_thrown a_tape m_taped m_size m_at m_end m_token m_whole m_nameSize m_fault m_place m_trouble a_letters m_failed m_hasHouse a_r a_fresh a_st a_undone a_kept m_undos m_images a_from a_begin a_motor a_change a_startFrame a_changeFrame a_lostAt a_blackAt a_slips a_leftArc a_died a_arcs m_bestSum m_nearest m_nearestTown a_there a_backAt a_sorted a_parts m_seed1 m_darkNow), (cAI g a_from 8 d_from), (cAI g a_begin 8 d_begin), (cAI g a_motor 8 (upd d_motor (z_1 : Int32).toNatClampNeg p1)), (cAI g a_lostAt 8 d_lostAt), (cAI g a_blackAt 8 d_blackAt)] X dX11_follows_k0.2.1.1.1 3 rfl (iv_in iv_3 (zle_e rfl) (zle_l rfl)) rfl ?_
  refine k_aload_n X dX11_follows_k0.2.1.1.2 1 rfl ?_
  refine k_get (ci := 11) X inlX11 rfl 22 (nlt_e rfl) dX11_follows_k0.2.1.2.1 mw175 0 rfl rfl ?_
  refine k_iload X dX11_follows_k0.2.1.2.2 0 rfl ?_
  refine k_iload X dX11_follows_k0.2.2.1.1 6 rfl ?_
  refine k_if_ne 29 X dX11_follows_k0.2.2.1.2 (jp_e rfl) (fun h_5 => ?_) (fun h_5 => ?_)
  · skip
    refine k_iconst (v := 0) X dX11_follows_k1.1.1.1.1 ic_0 ?_
    refine k_goto 35 X dX11_follows_k1.1.1.1.2 (jp_e rfl) ?_
    refine k_iast [(cO11_i1r1i10r1i2r5i2r12i3r4i2 h0 m_thrown a_tape m_taped m_size m_at m_end m_token m_whole m_nameSize m_fault m_place m_trouble a_letters m_failed m_hasHouse a_r a_fresh a_st a_undone a_kept m_undos m_images a_from a_begin a_motor a_change a_startFrame a_changeFrame a_lostAt a_blackAt a_slips a_leftArc a_died a_arcs m_bestSum m_nearest m_nearestTown a_there a_backAt a_sorted a_parts m_seed1 m_darkNow), (cAI g a_from 8 (upd d_from (z_1 : Int32).toNatClampNeg 0)), (cAI g a_begin 8 d_begin), (cAI g a_motor 8 (upd d_motor (z_1 : Int32).toNatClampNeg p1)), (cAI g a_lostAt 8 d_lostAt), (cAI g a_blackAt 8 d_blackAt)] X dX11_follows_k1.1.1.2.2 1 rfl (iv_in iv_3 (zle_e rfl) (zle_l rfl)) rfl ?_
    refine k_aload_n X dX11_follows_k1.1.2.1.1 1 rfl ?_
    refine k_get (ci := 11) X inlX11 rfl 28 (nlt_e rfl) dX11_follows_k1.1.2.1.2 mw181 0 rfl rfl ?_
    refine k_iload X dX11_follows_k1.1.2.2.1 0 rfl ?_
    refine k_aload_n X dX11_follows_k1.1.2.2.2 1 rfl ?_
    refine k_get (ci := 11) X inlX11 rfl 22 (nlt_e rfl) dX11_follows_k1.2.1.1.1 mw175 0 rfl rfl ?_
    refine k_iload X dX11_follows_k1.2.1.1.2 0 rfl ?_
    refine k_iald X dX11_follows_k1.2.1.2.1 1 rfl (iv_in iv_3 (zle_e rfl) (zle_l rfl)) ?_
    refine k_to 0 upd_at ?_
    refine k_iast [(cO11_i1r1i10r1i2r5i2r12i3r4i2 h0 m_thrown a_tape m_taped m_size m_at m_end m_token m_whole m_nameSize m_fault m_place m_trouble a_letters m_failed m_hasHouse a_r a_fresh a_st a_undone a_kept m_undos m_images a_from a_begin a_motor a_change a_startFrame a_changeFrame a_lostAt a_blackAt a_slips a_leftArc a_died a_arcs m_bestSum m_nearest m_nearestTown a_there a_backAt a_sorted a_parts m_seed1 m_darkNow), (cAI g a_from 8 (upd d_from (z_1 : Int32).toNatClampNeg 0)), (cAI g a_begin 8 d_begin), (cAI g a_motor 8 (upd d_motor (z_1 : Int32).toNatClampNeg p1)), (cAI g a_lostAt 8 (upd d_lostAt (z_1 : Int32).toNatClampNeg 0)), (cAI g a_blackAt 8 d_blackAt)] X dX11_follows_k1.2.1.2.2 4 rfl (iv_in iv_3 (zle_e rfl) (zle_l rfl)) rfl ?_
    refine k_aload_n X dX11_follows_k1.2.2.1.1 1 rfl ?_
    refine k_get (ci := 11) X inlX11 rfl 29 (nlt_e rfl) dX11_follows_k1.2.2.1.2 mw182 0 rfl rfl ?_
    refine k_iload X dX11_follows_k1.2.2.2.1 0 rfl ?_
    refine k_iload X dX11_follows_k1.2.2.2.2 6 rfl ?_
    refine k_if_ne 66 X dX11_follows_k2.1.1.1.1 (jp_e rfl) (fun h_8 => ?_) (fun h_8 => ?_)
    · skip
      refine k_iconst (v := 0) X dX11_follows_k2.1.1.2.2 ic_0 ?_
      refine k_goto 73 X dX11_follows_k2.1.2.1.1 (jp_e rfl) ?_
      refine k_iast [(cO11_i1r1i10r1i2r5i2r12i3r4i2 h0 m_thrown a_tape m_taped m_size m_at m_end m_token m_whole m_nameSize m_fault m_place m_trouble a_letters m_failed m_hasHouse a_r a_fresh a_st a_undone a_kept m_undos m_images a_from a_begin a_motor a_change a_startFrame a_changeFrame a_lostAt a_blackAt a_slips a_leftArc a_died a_arcs m_bestSum m_nearest m_nearestTown a_there a_backAt a_sorted a_parts m_seed1 m_darkNow), (cAI g a_from 8 (upd d_from (z_1 : Int32).toNatClampNeg 0)), (cAI g a_begin 8 d_begin), (cAI g a_motor 8 (upd d_motor (z_1 : Int32).toNatClampNeg p1)), (cAI g a_lostAt 8 (upd d_lostAt (z_1 : Int32).toNatClampNeg 0)), (cAI g a_blackAt 8 (upd d_blackAt (z_1 : Int32).toNatClampNeg 0))] X dX11_follows_k2.1.2.2.2 5 rfl (iv_in iv_3 (zle_e rfl) (zle_l rfl)) rfl ?_
      refine k_aload_n X dX11_follows_k2.2.1.1.1 1 rfl ?_
      refine k_get (ci := 11) X inlX11 rfl 23 (nlt_e rfl) dX11_follows_k2.2.1.1.2 mw176 0 rfl rfl ?_
      refine k_iload X dX11_follows_k2.2.1.2.1 0 rfl ?_
      refine k_iload_n X dX11_follows_k2.2.1.2.2 4 rfl ?_
      refine k_aload_n X dX11_follows_k2.2.2.1.1 1 rfl ?_
      refine k_get (ci := 11) X inlX11 rfl 29 (nlt_e rfl) dX11_follows_k2.2.2.1.2 mw182 0 rfl rfl ?_
      refine k_iload X dX11_follows_k2.2.2.2.1 0 rfl ?_
      refine k_iald X dX11_follows_k2.2.2.2.2 5 rfl (iv_in iv_3 (zle_e rfl) (zle_l rfl)) ?_
      refine k_to 0 upd_at ?_
      refine k_iadd X dX11_follows_k3.1 ?_
      refine k_nm (fun z_10 ez_10 => ?_)
      have i_11 : z_10.toInt = p2.toInt + 0 := in_add ez_10 (iv_any p2) iq_0_0_0 (zle_e rfl) (zle_e rfl)
      have iv_12 : IV z_10 (-2147483648) 2147483647 := by have := (iv_any p2); have := iq_0_0_0; rw [IV, i_11]; omega
      refine k_iast [(cO11_i1r1i10r1i2r5i2r12i3r4i2 h0 m_thrown a_tape m_taped m_size m_at m_end m_token m_whole m_nameSize m_fault m_place m_trouble a_letters m_failed m_hasHouse a_r a_fresh a_st a_undone a_kept m_undos m_images a_from a_begin a_motor a_change a_startFrame a_changeFrame a_lostAt a_blackAt a_slips a_leftArc a_died a_arcs m_bestSum m_nearest m_nearestTown a_there a_backAt a_sorted a_parts m_seed1 m_darkNow), (cAI g a_from 8 (upd d_from (z_1 : Int32).toNatClampNeg 0)), (cAI g a_begin 8 (upd d_begin (z_1 : Int32).toNatClampNeg z_10)), (cAI g a_motor 8 (upd d_motor (z_1 : Int32).toNatClampNeg p1)), (cAI g a_lostAt 8 (upd d_lostAt (z_1 : Int32).toNatClampNeg 0)), (cAI g a_blackAt 8 (upd d_blackAt (z_1 : Int32).toNatClampNeg 0))] X dX11_follows_k3.2.1 2 rfl (iv_in iv_3 (zle_e rfl) (zle_l rfl)) rfl ?_
      exact k_vret X hr dX11_follows_k3.2.2 (Nat.le_of_ble_eq_true rfl) (Nat.le_of_ble_eq_true rfl) [0, 1, 2, 3, 4, 5] (vnd_e rfl) rfl rfl (exI5 (upd d_begin (z_1 : Int32).toNatClampNeg z_10) (upd d_blackAt (z_1 : Int32).toNatClampNeg 0) (upd d_from (z_1 : Int32).toNatClampNeg 0) (upd d_lostAt (z_1 : Int32).toNatClampNeg 0) (upd d_motor (z_1 : Int32).toNatClampNeg p1) ⟨⟨z_1, ez_1, (Or.inl ⟨h_5, (Or.inl ⟨h_8, ⟨z_10, ez_10, ⟨rfl, rfl, rfl, rfl, rfl⟩⟩⟩)⟩)⟩, rfl⟩)
    · skip
      have iv_14 : IV p4 0 0 := iv_meet (iv_any p4) (iv_e h_8 iq_0_0_0) (zle_o rfl) (zle_o rfl)
      refine k_iload X dX11_follows_k2.1.1.1.2 5 rfl ?_
      refine k_if_le 70 X dX11_follows_k2.1.1.2.1 (jp_e rfl) (fun h_15 => ?_) (fun h_15 => ?_)
      · skip
        have j_16 : p3.toInt ≤ 0 := iv_le h_15
        have iv_17 : IV p3 (-2147483648) 0 := iv_leL (iv_le h_15) (iv_any p3) iq_0_0_0 (zle_e rfl)
        refine k_iload X dX11_follows_k2.1.2.1.2 5 rfl ?_
        refine k_ineg X dX11_follows_k2.1.2.2.1 ?_
        refine k_nm (fun z_18 ez_18 => ?_)
        refine k_iast [(cO11_i1r1i10r1i2r5i2r12i3r4i2 h0 m_thrown a_tape m_taped m_size m_at m_end m_token m_whole m_nameSize m_fault m_place m_trouble a_letters m_failed m_hasHouse a_r a_fresh a_st a_undone a_kept m_undos m_images a_from a_begin a_motor a_change a_startFrame a_changeFrame a_lostAt a_blackAt a_slips a_leftArc a_died a_arcs m_bestSum m_nearest m_nearestTown a_there a_backAt a_sorted a_parts m_seed1 m_darkNow), (cAI g a_from 8 (upd d_from (z_1 : Int32).toNatClampNeg 0)), (cAI g a_begin 8 d_begin), (cAI g a_motor 8 (upd d_motor (z_1 : Int32).toNatClampNeg p1)), (cAI g a_lostAt 8 (upd d_lostAt (z_1 : Int32).toNatClampNeg 0)), (cAI g a_blackAt 8 (upd d_blackAt (z_1 : Int32).toNatClampNeg z_18))] X dX11_follows_k2.1.2.2.2 5 rfl (iv_in iv_3 (zle_e rfl) (zle_l rfl)) rfl ?_
        refine k_aload_n X dX11_follows_k2.2.1.1.1 1 rfl ?_
        refine k_get (ci := 11) X inlX11 rfl 23 (nlt_e rfl) dX11_follows_k2.2.1.1.2 mw176 0 rfl rfl ?_
        refine k_iload X dX11_follows_k2.2.1.2.1 0 rfl ?_
        refine k_iload_n X dX11_follows_k2.2.1.2.2 4 rfl ?_
        refine k_aload_n X dX11_follows_k2.2.2.1.1 1 rfl ?_
        refine k_get (ci := 11) X inlX11 rfl 29 (nlt_e rfl) dX11_follows_k2.2.2.1.2 mw182 0 rfl rfl ?_
        refine k_iload X dX11_follows_k2.2.2.2.1 0 rfl ?_
        refine k_iald X dX11_follows_k2.2.2.2.2 5 rfl (iv_in iv_3 (zle_e rfl) (zle_l rfl)) ?_
        refine k_to z_18 upd_at ?_
        refine k_iadd X dX11_follows_k3.1 ?_
        refine k_nm (fun z_20 ez_20 => ?_)
        refine k_iast [(cO11_i1r1i10r1i2r5i2r12i3r4i2 h0 m_thrown a_tape m_taped m_size m_at m_end m_token m_whole m_nameSize m_fault m_place m_trouble a_letters m_failed m_hasHouse a_r a_fresh a_st a_undone a_kept m_undos m_images a_from a_begin a_motor a_change a_startFrame a_changeFrame a_lostAt a_blackAt a_slips a_leftArc a_died a_arcs m_bestSum m_nearest m_nearestTown a_there a_backAt a_sorted a_parts m_seed1 m_darkNow), (cAI g a_from 8 (upd d_from (z_1 : Int32).toNatClampNeg 0)), (cAI g a_begin 8 (upd d_begin (z_1 : Int32).toNatClampNeg z_20)), (cAI g a_motor 8 (upd d_motor (z_1 : Int32).toNatClampNeg p1)), (cAI g a_lostAt 8 (upd d_lostAt (z_1 : Int32).toNatClampNeg 0)), (cAI g a_blackAt 8 (upd d_blackAt (z_1 : Int32).toNatClampNeg z_18))] X dX11_follows_k3.2.1 2 rfl (iv_in iv_3 (zle_e rfl) (zle_l rfl)) rfl ?_
        exact k_vret X hr dX11_follows_k3.2.2 (Nat.le_of_ble_eq_true rfl) (Nat.le_of_ble_eq_true rfl) [0, 1, 2, 3, 4, 5] (vnd_e rfl) rfl rfl (exI5 (upd d_begin (z_1 : Int32).toNatClampNeg z_20) (upd d_blackAt (z_1 : Int32).toNatClampNeg z_18) (upd d_from (z_1 : Int32).toNatClampNeg 0) (upd d_lostAt (z_1 : Int32).toNatClampNeg 0) (upd d_motor (z_1 : Int32).toNatClampNeg p1) ⟨⟨z_1, ez_1, (Or.inl ⟨h_5, (Or.inr ⟨h_8, (Or.inl ⟨h_15, ⟨z_18, ez_18, ⟨z_20, ez_20, ⟨rfl, rfl, rfl, rfl, rfl⟩⟩⟩⟩)⟩)⟩)⟩, rfl⟩)
      · skip
        have j_23 : 0 < p3.toInt := iv_nle h_15
        have iv_24 : IV p3 1 2147483647 := iv_ltR (iv_nle h_15) iq_0_0_0 (iv_any p3) (zle_e rfl)
        refine k_iconst (v := 0) X dX11_follows_k2.1.1.2.2 ic_0 ?_
        refine k_goto 73 X dX11_follows_k2.1.2.1.1 (jp_e rfl) ?_
        refine k_iast [(cO11_i1r1i10r1i2r5i2r12i3r4i2 h0 m_thrown a_tape m_taped m_size m_at m_end m_token m_whole m_nameSize m_fault m_place m_trouble a_letters m_failed m_hasHouse a_r a_fresh a_st a_undone a_kept m_undos m_images a_from a_begin a_motor a_change a_startFrame a_changeFrame a_lostAt a_blackAt a_slips a_leftArc a_died a_arcs m_bestSum m_nearest m_nearestTown a_there a_backAt a_sorted a_parts m_seed1 m_darkNow), (cAI g a_from 8 (upd d_from (z_1 : Int32).toNatClampNeg 0)), (cAI g a_begin 8 d_begin), (cAI g a_motor 8 (upd d_motor (z_1 : Int32).toNatClampNeg p1)), (cAI g a_lostAt 8 (upd d_lostAt (z_1 : Int32).toNatClampNeg 0)), (cAI g a_blackAt 8 (upd d_blackAt (z_1 : Int32).toNatClampNeg 0))] X dX11_follows_k2.1.2.2.2 5 rfl (iv_in iv_3 (zle_e rfl) (zle_l rfl)) rfl ?_
        refine k_aload_n X dX11_follows_k2.2.1.1.1 1 rfl ?_
        refine k_get (ci := 11) X inlX11 rfl 23 (nlt_e rfl) dX11_follows_k2.2.1.1.2 mw176 0 rfl rfl ?_
        refine k_iload X dX11_follows_k2.2.1.2.1 0 rfl ?_
        refine k_iload_n X dX11_follows_k2.2.1.2.2 4 rfl ?_
        refine k_aload_n X dX11_follows_k2.2.2.1.1 1 rfl ?_
        refine k_get (ci := 11) X inlX11 rfl 29 (nlt_e rfl) dX11_follows_k2.2.2.1.2 mw182 0 rfl rfl ?_
        refine k_iload X dX11_follows_k2.2.2.2.1 0 rfl ?_
        refine k_iald X dX11_follows_k2.2.2.2.2 5 rfl (iv_in iv_3 (zle_e rfl) (zle_l rfl)) ?_
        refine k_to 0 upd_at ?_
        refine k_iadd X dX11_follows_k3.1 ?_
        refine k_nm (fun z_26 ez_26 => ?_)
        have i_27 : z_26.toInt = p2.toInt + 0 := in_add ez_26 (iv_any p2) iq_0_0_0 (zle_e rfl) (zle_e rfl)
        have iv_28 : IV z_26 (-2147483648) 2147483647 := by have := (iv_any p2); have := iq_0_0_0; rw [IV, i_27]; omega
        refine k_iast [(cO11_i1r1i10r1i2r5i2r12i3r4i2 h0 m_thrown a_tape m_taped m_size m_at m_end m_token m_whole m_nameSize m_fault m_place m_trouble a_letters m_failed m_hasHouse a_r a_fresh a_st a_undone a_kept m_undos m_images a_from a_begin a_motor a_change a_startFrame a_changeFrame a_lostAt a_blackAt a_slips a_leftArc a_died a_arcs m_bestSum m_nearest m_nearestTown a_there a_backAt a_sorted a_parts m_seed1 m_darkNow), (cAI g a_from 8 (upd d_from (z_1 : Int32).toNatClampNeg 0)), (cAI g a_begin 8 (upd d_begin (z_1 : Int32).toNatClampNeg z_26)), (cAI g a_motor 8 (upd d_motor (z_1 : Int32).toNatClampNeg p1)), (cAI g a_lostAt 8 (upd d_lostAt (z_1 : Int32).toNatClampNeg 0)), (cAI g a_blackAt 8 (upd d_blackAt (z_1 : Int32).toNatClampNeg 0))] X dX11_follows_k3.2.1 2 rfl (iv_in iv_3 (zle_e rfl) (zle_l rfl)) rfl ?_
        exact k_vret X hr dX11_follows_k3.2.2 (Nat.le_of_ble_eq_true rfl) (Nat.le_of_ble_eq_true rfl) [0, 1, 2, 3, 4, 5] (vnd_e rfl) rfl rfl (exI5 (upd d_begin (z_1 : Int32).toNatClampNeg z_26) (upd d_blackAt (z_1 : Int32).toNatClampNeg 0) (upd d_from (z_1 : Int32).toNatClampNeg 0) (upd d_lostAt (z_1 : Int32).toNatClampNeg 0) (upd d_motor (z_1 : Int32).toNatClampNeg p1) ⟨⟨z_1, ez_1, (Or.inl ⟨h_5, (Or.inr ⟨h_8, (Or.inr ⟨h_15, ⟨z_26, ez_26, ⟨rfl, rfl, rfl, rfl, rfl⟩⟩⟩)⟩)⟩)⟩, rfl⟩)
  · skip
    have iv_30 : IV p4 0 0 := iv_meet (iv_any p4) (iv_e h_5 iq_0_0_0) (zle_o rfl) (zle_o rfl)
    refine k_iload X dX11_follows_k0.2.2.2.1 5 rfl ?_
    refine k_if_ge 33 X dX11_follows_k0.2.2.2.2 (jp_e rfl) (fun h_31 => ?_) (fun h_31 => ?_)
    · skip
      have j_32 : 0 ≤ p3.toInt := iv_le h_31
      have iv_33 : IV p3 0 2147483647 := iv_leR (iv_le h_31) iq_0_0_0 (iv_any p3) (zle_e rfl)
      refine k_iload X dX11_follows_k1.1.1.2.1 5 rfl ?_
      refine k_iast [(cO11_i1r1i10r1i2r5i2r12i3r4i2 h0 m_thrown a_tape m_taped m_size m_at m_end m_token m_whole m_nameSize m_fault m_place m_trouble a_letters m_failed m_hasHouse a_r a_fresh a_st a_undone a_kept m_undos m_images a_from a_begin a_motor a_change a_startFrame a_changeFrame a_lostAt a_blackAt a_slips a_leftArc a_died a_arcs m_bestSum m_nearest m_nearestTown a_there a_backAt a_sorted a_parts m_seed1 m_darkNow), (cAI g a_from 8 (upd d_from (z_1 : Int32).toNatClampNeg p3)), (cAI g a_begin 8 d_begin), (cAI g a_motor 8 (upd d_motor (z_1 : Int32).toNatClampNeg p1)), (cAI g a_lostAt 8 d_lostAt), (cAI g a_blackAt 8 d_blackAt)] X dX11_follows_k1.1.1.2.2 1 rfl (iv_in iv_3 (zle_e rfl) (zle_l rfl)) rfl ?_
      refine k_aload_n X dX11_follows_k1.1.2.1.1 1 rfl ?_
      refine k_get (ci := 11) X inlX11 rfl 28 (nlt_e rfl) dX11_follows_k1.1.2.1.2 mw181 0 rfl rfl ?_
      refine k_iload X dX11_follows_k1.1.2.2.1 0 rfl ?_
      refine k_aload_n X dX11_follows_k1.1.2.2.2 1 rfl ?_
      refine k_get (ci := 11) X inlX11 rfl 22 (nlt_e rfl) dX11_follows_k1.2.1.1.1 mw175 0 rfl rfl ?_
      refine k_iload X dX11_follows_k1.2.1.1.2 0 rfl ?_
      refine k_iald X dX11_follows_k1.2.1.2.1 1 rfl (iv_in iv_3 (zle_e rfl) (zle_l rfl)) ?_
      refine k_to p3 upd_at ?_
      refine k_iast [(cO11_i1r1i10r1i2r5i2r12i3r4i2 h0 m_thrown a_tape m_taped m_size m_at m_end m_token m_whole m_nameSize m_fault m_place m_trouble a_letters m_failed m_hasHouse a_r a_fresh a_st a_undone a_kept m_undos m_images a_from a_begin a_motor a_change a_startFrame a_changeFrame a_lostAt a_blackAt a_slips a_leftArc a_died a_arcs m_bestSum m_nearest m_nearestTown a_there a_backAt a_sorted a_parts m_seed1 m_darkNow), (cAI g a_from 8 (upd d_from (z_1 : Int32).toNatClampNeg p3)), (cAI g a_begin 8 d_begin), (cAI g a_motor 8 (upd d_motor (z_1 : Int32).toNatClampNeg p1)), (cAI g a_lostAt 8 (upd d_lostAt (z_1 : Int32).toNatClampNeg p3)), (cAI g a_blackAt 8 d_blackAt)] X dX11_follows_k1.2.1.2.2 4 rfl (iv_in iv_3 (zle_e rfl) (zle_l rfl)) rfl ?_
      refine k_aload_n X dX11_follows_k1.2.2.1.1 1 rfl ?_
      refine k_get (ci := 11) X inlX11 rfl 29 (nlt_e rfl) dX11_follows_k1.2.2.1.2 mw182 0 rfl rfl ?_
      refine k_iload X dX11_follows_k1.2.2.2.1 0 rfl ?_
      refine k_iload X dX11_follows_k1.2.2.2.2 6 rfl ?_
      refine k_if_ne 66 X dX11_follows_k2.1.1.1.1 (jp_e rfl) (fun h_36 => absurd (iv_eq iv_30 iq_0_0_0) h_36) (fun h_36 => ?_)
      refine k_iload X dX11_follows_k2.1.1.1.2 5 rfl ?_
      refine k_if_le 70 X dX11_follows_k2.1.1.2.1 (jp_e rfl) (fun h_37 => ?_) (fun h_37 => ?_)
      · skip
        have j_38 : p3.toInt ≤ 0 := iv_le h_37
        have iv_39 : IV p3 0 0 := iv_leL (iv_le h_37) iv_33 iq_0_0_0 (zle_e rfl)
        refine k_iload X dX11_follows_k2.1.2.1.2 5 rfl ?_
        refine k_ineg X dX11_follows_k2.1.2.2.1 ?_
        refine k_nm (fun z_40 ez_40 => ?_)
        refine k_iast [(cO11_i1r1i10r1i2r5i2r12i3r4i2 h0 m_thrown a_tape m_taped m_size m_at m_end m_token m_whole m_nameSize m_fault m_place m_trouble a_letters m_failed m_hasHouse a_r a_fresh a_st a_undone a_kept m_undos m_images a_from a_begin a_motor a_change a_startFrame a_changeFrame a_lostAt a_blackAt a_slips a_leftArc a_died a_arcs m_bestSum m_nearest m_nearestTown a_there a_backAt a_sorted a_parts m_seed1 m_darkNow), (cAI g a_from 8 (upd d_from (z_1 : Int32).toNatClampNeg p3)), (cAI g a_begin 8 d_begin), (cAI g a_motor 8 (upd d_motor (z_1 : Int32).toNatClampNeg p1)), (cAI g a_lostAt 8 (upd d_lostAt (z_1 : Int32).toNatClampNeg p3)), (cAI g a_blackAt 8 (upd d_blackAt (z_1 : Int32).toNatClampNeg z_40))] X dX11_follows_k2.1.2.2.2 5 rfl (iv_in iv_3 (zle_e rfl) (zle_l rfl)) rfl ?_
        refine k_aload_n X dX11_follows_k2.2.1.1.1 1 rfl ?_
        refine k_get (ci := 11) X inlX11 rfl 23 (nlt_e rfl) dX11_follows_k2.2.1.1.2 mw176 0 rfl rfl ?_
        refine k_iload X dX11_follows_k2.2.1.2.1 0 rfl ?_
        refine k_iload_n X dX11_follows_k2.2.1.2.2 4 rfl ?_
        refine k_aload_n X dX11_follows_k2.2.2.1.1 1 rfl ?_
        refine k_get (ci := 11) X inlX11 rfl 29 (nlt_e rfl) dX11_follows_k2.2.2.1.2 mw182 0 rfl rfl ?_
        refine k_iload X dX11_follows_k2.2.2.2.1 0 rfl ?_
        refine k_iald X dX11_follows_k2.2.2.2.2 5 rfl (iv_in iv_3 (zle_e rfl) (zle_l rfl)) ?_
        refine k_to z_40 upd_at ?_
        refine k_iadd X dX11_follows_k3.1 ?_
        refine k_nm (fun z_42 ez_42 => ?_)
        refine k_iast [(cO11_i1r1i10r1i2r5i2r12i3r4i2 h0 m_thrown a_tape m_taped m_size m_at m_end m_token m_whole m_nameSize m_fault m_place m_trouble a_letters m_failed m_hasHouse a_r a_fresh a_st a_undone a_kept m_undos m_images a_from a_begin a_motor a_change a_startFrame a_changeFrame a_lostAt a_blackAt a_slips a_leftArc a_died a_arcs m_bestSum m_nearest m_nearestTown a_there a_backAt a_sorted a_parts m_seed1 m_darkNow), (cAI g a_from 8 (upd d_from (z_1 : Int32).toNatClampNeg p3)), (cAI g a_begin 8 (upd d_begin (z_1 : Int32).toNatClampNeg z_42)), (cAI g a_motor 8 (upd d_motor (z_1 : Int32).toNatClampNeg p1)), (cAI g a_lostAt 8 (upd d_lostAt (z_1 : Int32).toNatClampNeg p3)), (cAI g a_blackAt 8 (upd d_blackAt (z_1 : Int32).toNatClampNeg z_40))] X dX11_follows_k3.2.1 2 rfl (iv_in iv_3 (zle_e rfl) (zle_l rfl)) rfl ?_
        exact k_vret X hr dX11_follows_k3.2.2 (Nat.le_of_ble_eq_true rfl) (Nat.le_of_ble_eq_true rfl) [0, 1, 2, 3, 4, 5] (vnd_e rfl) rfl rfl (exI5 (upd d_begin (z_1 : Int32).toNatClampNeg z_42) (upd d_blackAt (z_1 : Int32).toNatClampNeg z_40) (upd d_from (z_1 : Int32).toNatClampNeg p3) (upd d_lostAt (z_1 : Int32).toNatClampNeg p3) (upd d_motor (z_1 : Int32).toNatClampNeg p1) ⟨⟨z_1, ez_1, (Or.inr ⟨h_5, (Or.inl ⟨h_31, (Or.inl ⟨h_37, ⟨z_40, ez_40, ⟨z_42, ez_42, ⟨rfl, rfl, rfl, rfl, rfl⟩⟩⟩⟩)⟩)⟩)⟩, rfl⟩)
      · skip
        have j_45 : 0 < p3.toInt := iv_nle h_37
        have iv_46 : IV p3 1 2147483647 := iv_ltR (iv_nle h_37) iq_0_0_0 iv_33 (zle_e rfl)
        refine k_iconst (v := 0) X dX11_follows_k2.1.1.2.2 ic_0 ?_
        refine k_goto 73 X dX11_follows_k2.1.2.1.1 (jp_e rfl) ?_
        refine k_iast [(cO11_i1r1i10r1i2r5i2r12i3r4i2 h0 m_thrown a_tape m_taped m_size m_at m_end m_token m_whole m_nameSize m_fault m_place m_trouble a_letters m_failed m_hasHouse a_r a_fresh a_st a_undone a_kept m_undos m_images a_from a_begin a_motor a_change a_startFrame a_changeFrame a_lostAt a_blackAt a_slips a_leftArc a_died a_arcs m_bestSum m_nearest m_nearestTown a_there a_backAt a_sorted a_parts m_seed1 m_darkNow), (cAI g a_from 8 (upd d_from (z_1 : Int32).toNatClampNeg p3)), (cAI g a_begin 8 d_begin), (cAI g a_motor 8 (upd d_motor (z_1 : Int32).toNatClampNeg p1)), (cAI g a_lostAt 8 (upd d_lostAt (z_1 : Int32).toNatClampNeg p3)), (cAI g a_blackAt 8 (upd d_blackAt (z_1 : Int32).toNatClampNeg 0))] X dX11_follows_k2.1.2.2.2 5 rfl (iv_in iv_3 (zle_e rfl) (zle_l rfl)) rfl ?_
        refine k_aload_n X dX11_follows_k2.2.1.1.1 1 rfl ?_
        refine k_get (ci := 11) X inlX11 rfl 23 (nlt_e rfl) dX11_follows_k2.2.1.1.2 mw176 0 rfl rfl ?_
        refine k_iload X dX11_follows_k2.2.1.2.1 0 rfl ?_
        refine k_iload_n X dX11_follows_k2.2.1.2.2 4 rfl ?_
        refine k_aload_n X dX11_follows_k2.2.2.1.1 1 rfl ?_
        refine k_get (ci := 11) X inlX11 rfl 29 (nlt_e rfl) dX11_follows_k2.2.2.1.2 mw182 0 rfl rfl ?_
        refine k_iload X dX11_follows_k2.2.2.2.1 0 rfl ?_
        refine k_iald X dX11_follows_k2.2.2.2.2 5 rfl (iv_in iv_3 (zle_e rfl) (zle_l rfl)) ?_
        refine k_to 0 upd_at ?_
        refine k_iadd X dX11_follows_k3.1 ?_
        refine k_nm (fun z_48 ez_48 => ?_)
        have i_49 : z_48.toInt = p2.toInt + 0 := in_add ez_48 (iv_any p2) iq_0_0_0 (zle_e rfl) (zle_e rfl)
        have iv_50 : IV z_48 (-2147483648) 2147483647 := by have := (iv_any p2); have := iq_0_0_0; rw [IV, i_49]; omega
        refine k_iast [(cO11_i1r1i10r1i2r5i2r12i3r4i2 h0 m_thrown a_tape m_taped m_size m_at m_end m_token m_whole m_nameSize m_fault m_place m_trouble a_letters m_failed m_hasHouse a_r a_fresh a_st a_undone a_kept m_undos m_images a_from a_begin a_motor a_change a_startFrame a_changeFrame a_lostAt a_blackAt a_slips a_leftArc a_died a_arcs m_bestSum m_nearest m_nearestTown a_there a_backAt a_sorted a_parts m_seed1 m_darkNow), (cAI g a_from 8 (upd d_from (z_1 : Int32).toNatClampNeg p3)), (cAI g a_begin 8 (upd d_begin (z_1 : Int32).toNatClampNeg z_48)), (cAI g a_motor 8 (upd d_motor (z_1 : Int32).toNatClampNeg p1)), (cAI g a_lostAt 8 (upd d_lostAt (z_1 : Int32).toNatClampNeg p3)), (cAI g a_blackAt 8 (upd d_blackAt (z_1 : Int32).toNatClampNeg 0))] X dX11_follows_k3.2.1 2 rfl (iv_in iv_3 (zle_e rfl) (zle_l rfl)) rfl ?_
        exact k_vret X hr dX11_follows_k3.2.2 (Nat.le_of_ble_eq_true rfl) (Nat.le_of_ble_eq_true rfl) [0, 1, 2, 3, 4, 5] (vnd_e rfl) rfl rfl (exI5 (upd d_begin (z_1 : Int32).toNatClampNeg z_48) (upd d_blackAt (z_1 : Int32).toNatClampNeg 0) (upd d_from (z_1 : Int32).toNatClampNeg p3) (upd d_lostAt (z_1 : Int32).toNatClampNeg p3) (upd d_motor (z_1 : Int32).toNatClampNeg p1) ⟨⟨z_1, ez_1, (Or.inr ⟨h_5, (Or.inl ⟨h_31, (Or.inr ⟨h_37, ⟨z_48, ez_48, ⟨rfl, rfl, rfl, rfl, rfl⟩⟩⟩)⟩)⟩)⟩, rfl⟩)
    · skip
      have j_52 : p3.toInt < 0 := iv_nle h_31
      have iv_53 : IV p3 (-2147483648) (-1) := iv_ltL (iv_nle h_31) (iv_any p3) iq_0_0_0 (zle_e rfl)
      refine k_iconst (v := 0) X dX11_follows_k1.1.1.1.1 ic_0 ?_
      refine k_goto 35 X dX11_follows_k1.1.1.1.2 (jp_e rfl) ?_
      refine k_iast [(cO11_i1r1i10r1i2r5i2r12i3r4i2 h0 m_thrown a_tape m_taped m_size m_at m_end m_token m_whole m_nameSize m_fault m_place m_trouble a_letters m_failed m_hasHouse a_r a_fresh a_st a_undone a_kept m_undos m_images a_from a_begin a_motor a_change a_startFrame a_changeFrame a_lostAt a_blackAt a_slips a_leftArc a_died a_arcs m_bestSum m_nearest m_nearestTown a_there a_backAt a_sorted a_parts m_seed1 m_darkNow), (cAI g a_from 8 (upd d_from (z_1 : Int32).toNatClampNeg 0)), (cAI g a_begin 8 d_begin), (cAI g a_motor 8 (upd d_motor (z_1 : Int32).toNatClampNeg p1)), (cAI g a_lostAt 8 d_lostAt), (cAI g a_blackAt 8 d_blackAt)] X dX11_follows_k1.1.1.2.2 1 rfl (iv_in iv_3 (zle_e rfl) (zle_l rfl)) rfl ?_
      refine k_aload_n X dX11_follows_k1.1.2.1.1 1 rfl ?_
      refine k_get (ci := 11) X inlX11 rfl 28 (nlt_e rfl) dX11_follows_k1.1.2.1.2 mw181 0 rfl rfl ?_
      refine k_iload X dX11_follows_k1.1.2.2.1 0 rfl ?_
      refine k_aload_n X dX11_follows_k1.1.2.2.2 1 rfl ?_
      refine k_get (ci := 11) X inlX11 rfl 22 (nlt_e rfl) dX11_follows_k1.2.1.1.1 mw175 0 rfl rfl ?_
      refine k_iload X dX11_follows_k1.2.1.1.2 0 rfl ?_
      refine k_iald X dX11_follows_k1.2.1.2.1 1 rfl (iv_in iv_3 (zle_e rfl) (zle_l rfl)) ?_
      refine k_to 0 upd_at ?_
      refine k_iast [(cO11_i1r1i10r1i2r5i2r12i3r4i2 h0 m_thrown a_tape m_taped m_size m_at m_end m_token m_whole m_nameSize m_fault m_place m_trouble a_letters m_failed m_hasHouse a_r a_fresh a_st a_undone a_kept m_undos m_images a_from a_begin a_motor a_change a_startFrame a_changeFrame a_lostAt a_blackAt a_slips a_leftArc a_died a_arcs m_bestSum m_nearest m_nearestTown a_there a_backAt a_sorted a_parts m_seed1 m_darkNow), (cAI g a_from 8 (upd d_from (z_1 : Int32).toNatClampNeg 0)), (cAI g a_begin 8 d_begin), (cAI g a_motor 8 (upd d_motor (z_1 : Int32).toNatClampNeg p1)), (cAI g a_lostAt 8 (upd d_lostAt (z_1 : Int32).toNatClampNeg 0)), (cAI g a_blackAt 8 d_blackAt)] X dX11_follows_k1.2.1.2.2 4 rfl (iv_in iv_3 (zle_e rfl) (zle_l rfl)) rfl ?_
      refine k_aload_n X dX11_follows_k1.2.2.1.1 1 rfl ?_
      refine k_get (ci := 11) X inlX11 rfl 29 (nlt_e rfl) dX11_follows_k1.2.2.1.2 mw182 0 rfl rfl ?_
      refine k_iload X dX11_follows_k1.2.2.2.1 0 rfl ?_
      refine k_iload X dX11_follows_k1.2.2.2.2 6 rfl ?_
      refine k_if_ne 66 X dX11_follows_k2.1.1.1.1 (jp_e rfl) (fun h_56 => absurd (iv_eq iv_30 iq_0_0_0) h_56) (fun h_56 => ?_)
      refine k_iload X dX11_follows_k2.1.1.1.2 5 rfl ?_
      refine k_if_le 70 X dX11_follows_k2.1.1.2.1 (jp_e rfl) (fun h_57 => ?_) (fun h_57 => (iv_ltN (iv_nle h_57) iq_0_0_0 iv_53 (zle_e rfl)).elim)
      have j_58 : p3.toInt ≤ 0 := iv_le h_57
      refine k_iload X dX11_follows_k2.1.2.1.2 5 rfl ?_
      refine k_ineg X dX11_follows_k2.1.2.2.1 ?_
      refine k_nm (fun z_59 ez_59 => ?_)
      refine k_iast [(cO11_i1r1i10r1i2r5i2r12i3r4i2 h0 m_thrown a_tape m_taped m_size m_at m_end m_token m_whole m_nameSize m_fault m_place m_trouble a_letters m_failed m_hasHouse a_r a_fresh a_st a_undone a_kept m_undos m_images a_from a_begin a_motor a_change a_startFrame a_changeFrame a_lostAt a_blackAt a_slips a_leftArc a_died a_arcs m_bestSum m_nearest m_nearestTown a_there a_backAt a_sorted a_parts m_seed1 m_darkNow), (cAI g a_from 8 (upd d_from (z_1 : Int32).toNatClampNeg 0)), (cAI g a_begin 8 d_begin), (cAI g a_motor 8 (upd d_motor (z_1 : Int32).toNatClampNeg p1)), (cAI g a_lostAt 8 (upd d_lostAt (z_1 : Int32).toNatClampNeg 0)), (cAI g a_blackAt 8 (upd d_blackAt (z_1 : Int32).toNatClampNeg z_59))] X dX11_follows_k2.1.2.2.2 5 rfl (iv_in iv_3 (zle_e rfl) (zle_l rfl)) rfl ?_
      refine k_aload_n X dX11_follows_k2.2.1.1.1 1 rfl ?_
      refine k_get (ci := 11) X inlX11 rfl 23 (nlt_e rfl) dX11_follows_k2.2.1.1.2 mw176 0 rfl rfl ?_
      refine k_iload X dX11_follows_k2.2.1.2.1 0 rfl ?_
      refine k_iload_n X dX11_follows_k2.2.1.2.2 4 rfl ?_
      refine k_aload_n X dX11_follows_k2.2.2.1.1 1 rfl ?_
      refine k_get (ci := 11) X inlX11 rfl 29 (nlt_e rfl) dX11_follows_k2.2.2.1.2 mw182 0 rfl rfl ?_
      refine k_iload X dX11_follows_k2.2.2.2.1 0 rfl ?_
      refine k_iald X dX11_follows_k2.2.2.2.2 5 rfl (iv_in iv_3 (zle_e rfl) (zle_l rfl)) ?_
      refine k_to z_59 upd_at ?_
      refine k_iadd X dX11_follows_k3.1 ?_
      refine k_nm (fun z_61 ez_61 => ?_)
      refine k_iast [(cO11_i1r1i10r1i2r5i2r12i3r4i2 h0 m_thrown a_tape m_taped m_size m_at m_end m_token m_whole m_nameSize m_fault m_place m_trouble a_letters m_failed m_hasHouse a_r a_fresh a_st a_undone a_kept m_undos m_images a_from a_begin a_motor a_change a_startFrame a_changeFrame a_lostAt a_blackAt a_slips a_leftArc a_died a_arcs m_bestSum m_nearest m_nearestTown a_there a_backAt a_sorted a_parts m_seed1 m_darkNow), (cAI g a_from 8 (upd d_from (z_1 : Int32).toNatClampNeg 0)), (cAI g a_begin 8 (upd d_begin (z_1 : Int32).toNatClampNeg z_61)), (cAI g a_motor 8 (upd d_motor (z_1 : Int32).toNatClampNeg p1)), (cAI g a_lostAt 8 (upd d_lostAt (z_1 : Int32).toNatClampNeg 0)), (cAI g a_blackAt 8 (upd d_blackAt (z_1 : Int32).toNatClampNeg z_59))] X dX11_follows_k3.2.1 2 rfl (iv_in iv_3 (zle_e rfl) (zle_l rfl)) rfl ?_
      exact k_vret X hr dX11_follows_k3.2.2 (Nat.le_of_ble_eq_true rfl) (Nat.le_of_ble_eq_true rfl) [0, 1, 2, 3, 4, 5] (vnd_e rfl) rfl rfl (exI5 (upd d_begin (z_1 : Int32).toNatClampNeg z_61) (upd d_blackAt (z_1 : Int32).toNatClampNeg z_59) (upd d_from (z_1 : Int32).toNatClampNeg 0) (upd d_lostAt (z_1 : Int32).toNatClampNeg 0) (upd d_motor (z_1 : Int32).toNatClampNeg p1) ⟨⟨z_1, ez_1, (Or.inr ⟨h_5, (Or.inr ⟨h_31, ⟨z_59, ez_59, ⟨z_61, ez_61, ⟨rfl, rfl, rfl, rfl, rfl⟩⟩⟩⟩)⟩)⟩, rfl⟩)


set_option maxHeartbeats 4000000 in
set_option maxRecDepth 100000 in
theorem m_layNightX (l : Launch) (g : Gx) (h0 : Nat) (p0 : Int32) (m_thrown : Int32) (a_tape : Nat) (m_taped : Int32) (m_size : Int32) (m_at : Int32) (m_end : Int32) (m_token : Int32) (m_whole : Int32) (m_nameSize : Int32) (m_fault : Int32) (m_place : Int32) (m_trouble : Int32) (a_letters : Nat) (m_failed : Int32) (m_hasHouse : Int32) (a_r : Nat) (a_fresh : Nat) (a_st : Nat) (a_undone : Nat) (a_kept : Nat) (m_undos : Int32) (m_images : Int32) (a_from : Nat) (a_begin : Nat) (a_motor : Nat) (a_change : Nat) (a_startFrame : Nat) (a_changeFrame : Nat) (a_lostAt : Nat) (a_blackAt : Nat) (a_slips : Nat) (a_leftArc : Nat) (a_died : Nat) (a_arcs : Nat) (m_bestSum : Int32) (m_nearest : Int32) (m_nearestTown : Int32) (a_there : Nat) (a_backAt : Nat) (a_sorted : Nat) (a_parts : Nat) (m_seed1 : Int32) (m_darkNow : Int32) (d_r : Nat → Int32) (d_st : Nat → Int32) (d_from : Nat → Int32) (d_begin : Nat → Int32) (d_motor : Nat → Int32) (d_change : Nat → Int32) (d_startFrame : Nat → Int32) (d_changeFrame : Nat → Int32) (d_lostAt : Nat → Int32) (d_blackAt : Nat → Int32) (d_slips : Nat → Int32) (hv_p0 : IV p0 0 3) (hp_d_r : RInv d_r) : cV l g yX11_layNight cX11_layNight 6 3 63 0 0 [.ref h0, .int p0] [(cO11_i1r1i10r1i2r5i2r12i3r4i2 h0 m_thrown a_tape m_taped m_size m_at m_end m_token m_whole m_nameSize m_fault m_place m_trouble a_letters m_failed m_hasHouse a_r a_fresh a_st a_undone a_kept m_undos m_images a_from a_begin a_motor a_change a_startFrame a_changeFrame a_lostAt a_blackAt a_slips a_leftArc a_died a_arcs m_bestSum m_nearest m_nearestTown a_there a_backAt a_sorted a_parts m_seed1 m_darkNow), (cAI g a_r 311 d_r), (cAI g a_st 44 d_st), (cAI g a_from 8 d_from), (cAI g a_begin 8 d_begin), (cAI g a_motor 8 d_motor), (cAI g a_change 8 d_change), (cAI g a_startFrame 8 d_startFrame), (cAI g a_changeFrame 8 d_changeFrame), (cAI g a_lostAt 8 d_lostAt), (cAI g a_blackAt 8 d_blackAt), (cAI g a_slips 8 d_slips)] (fun w => ∃ (d_begin2 : Nat → Int32) (d_blackAt2 : Nat → Int32) (d_change2 : Nat → Int32) (d_changeFrame2 : Nat → Int32) (d_from2 : Nat → Int32) (d_lostAt2 : Nat → Int32) (d_motor2 : Nat → Int32) (d_startFrame2 : Nat → Int32), (R_m_layNightX p0 d_r d_st d_from d_begin d_motor d_change d_startFrame d_changeFrame d_lostAt d_blackAt d_slips d_begin2 d_blackAt2 d_change2 d_changeFrame2 d_from2 d_lostAt2 d_motor2 d_startFrame2) ∧ w = [(cO11_i1r1i10r1i2r5i2r12i3r4i2 h0 m_thrown a_tape m_taped m_size m_at m_end m_token m_whole m_nameSize m_fault m_place m_trouble a_letters m_failed m_hasHouse a_r a_fresh a_st a_undone a_kept m_undos m_images a_from a_begin a_motor a_change a_startFrame a_changeFrame a_lostAt a_blackAt a_slips a_leftArc a_died a_arcs m_bestSum m_nearest m_nearestTown a_there a_backAt a_sorted a_parts m_seed1 m_darkNow), (cAI g a_r 311 d_r), (cAI g a_st 44 d_st), (cAI g a_from 8 d_from2), (cAI g a_begin 8 d_begin2), (cAI g a_motor 8 d_motor2), (cAI g a_change 8 d_change2), (cAI g a_startFrame 8 d_startFrame2), (cAI g a_changeFrame 8 d_changeFrame2), (cAI g a_lostAt 8 d_lostAt2), (cAI g a_blackAt 8 d_blackAt2), (cAI g a_slips 8 d_slips)]) := by
  refine cV.of (by decide) (Nat.le_of_ble_eq_true rfl) ?_
  intro p e s m args below meth c A X hr hi
  refine k_lveq [(0, .ref h0), (1, .int p0)] rfl ?_
  refine k_aload_n X dX11_layNight_k0.1.1.1.1 0 rfl ?_
  refine k_get (ci := 11) X inlX11 rfl 15 (nlt_e rfl) dX11_layNight_k0.1.1.1.2 mw170 0 rfl rfl ?_
  refine k_bipush (v := 12) X dX11_layNight_k0.1.1.2.1 bi_12 ?_
  refine k_iald X dX11_layNight_k0.1.1.2.2 1 rfl (by unfold vp_in; decide) ?_
  refine k_nm (fun z_1 ez_1 => ?_)
  have i_2 : z_1.toInt = (d_r 12).toInt := by rw [ez_1]; rfl
  have iv_3 : IV z_1 0 8 := rb_12 ez_1 hp_d_r
  refine k_iconst (v := 1) X dX11_layNight_k0.1.2.1.1 ic_1 ?_
  refine k_isub X dX11_layNight_k0.1.2.1.2 ?_
  refine k_nm (fun z_4 ez_4 => ?_)
  have i_5 : z_4.toInt = z_1.toInt - 1 := in_sub ez_4 iv_3 iq_1_1_1 (zle_e rfl) (zle_e rfl)
  have iv_6 : IV z_4 (-1) 7 := iz5 i_5 iv_3 (zle_e rfl) (zle_e rfl)
  refine k_istore_n [(2, .int z_4), (0, .ref h0), (1, .int p0)] X dX11_layNight_k0.1.2.2.1 (nlt_e rfl) rfl ?_
  refine k_aload_n X dX11_layNight_k0.1.2.2.2 1 rfl ?_
  refine k_get (ci := 11) X inlX11 rfl 22 (nlt_e rfl) dX11_layNight_k0.2.1.1.1 mw175 0 rfl rfl ?_
  refine k_iconst (v := 0) X dX11_layNight_k0.2.1.1.2 ic_0 ?_
  refine k_iconst (v := 0) X dX11_layNight_k0.2.1.2.1 ic_0 ?_
  refine k_iast [(cO11_i1r1i10r1i2r5i2r12i3r4i2 h0 m_thrown a_tape m_taped m_size m_at m_end m_token m_whole m_nameSize m_fault m_place m_trouble a_letters m_failed m_hasHouse a_r a_fresh a_st a_undone a_kept m_undos m_images a_from a_begin a_motor a_change a_startFrame a_changeFrame a_lostAt a_blackAt a_slips a_leftArc a_died a_arcs m_bestSum m_nearest m_nearestTown a_there a_backAt a_sorted a_parts m_seed1 m_darkNow), (cAI g a_r 311 d_r), (cAI g a_st 44 d_st), (cAI g a_from 8 (upd d_from (0 : Int32).toNatClampNeg 0)), (cAI g a_begin 8 d_begin), (cAI g a_motor 8 d_motor), (cAI g a_change 8 d_change), (cAI g a_startFrame 8 d_startFrame), (cAI g a_changeFrame 8 d_changeFrame), (cAI g a_lostAt 8 d_lostAt), (cAI g a_blackAt 8 d_blackAt), (cAI g a_slips 8 d_slips)] X dX11_layNight_k0.2.1.2.2 3 rfl (by unfold vp_in; decide) rfl ?_
  refine k_aload_n X dX11_layNight_k0.2.2.1.1 1 rfl ?_
  refine k_get (ci := 11) X inlX11 rfl 23 (nlt_e rfl) dX11_layNight_k0.2.2.1.2 mw176 0 rfl rfl ?_
  refine k_iconst (v := 0) X dX11_layNight_k0.2.2.2.1 ic_0 ?_
  refine k_iconst (v := 0) X dX11_layNight_k0.2.2.2.2 ic_0 ?_
  refine k_iast [(cO11_i1r1i10r1i2r5i2r12i3r4i2 h0 m_thrown a_tape m_taped m_size m_at m_end m_token m_whole m_nameSize m_fault m_place m_trouble a_letters m_failed m_hasHouse a_r a_fresh a_st a_undone a_kept m_undos m_images a_from a_begin a_motor a_change a_startFrame a_changeFrame a_lostAt a_blackAt a_slips a_leftArc a_died a_arcs m_bestSum m_nearest m_nearestTown a_there a_backAt a_sorted a_parts m_seed1 m_darkNow), (cAI g a_r 311 d_r), (cAI g a_st 44 d_st), (cAI g a_from 8 (upd d_from (0 : Int32).toNatClampNeg 0)), (cAI g a_begin 8 (upd d_begin (0 : Int32).toNatClampNeg 0)), (cAI g a_motor 8 d_motor), (cAI g a_change 8 d_change), (cAI g a_startFrame 8 d_startFrame), (cAI g a_changeFrame 8 d_changeFrame), (cAI g a_lostAt 8 d_lostAt), (cAI g a_blackAt 8 d_blackAt), (cAI g a_slips 8 d_slips)] X dX11_layNight_k1.1.1.1.1 4 rfl (by unfold vp_in; decide) rfl ?_
  refine k_aload_n X dX11_layNight_k1.1.1.1.2 1 rfl ?_
  refine k_get (ci := 11) X inlX11 rfl 24 (nlt_e rfl) dX11_layNight_k1.1.1.2.1 mw177 0 rfl rfl ?_
  refine k_iconst (v := 0) X dX11_layNight_k1.1.1.2.2 ic_0 ?_
  refine k_iconst (v := 0) X dX11_layNight_k1.1.2.1.1 ic_0 ?_
  refine k_iast [(cO11_i1r1i10r1i2r5i2r12i3r4i2 h0 m_thrown a_tape m_taped m_size m_at m_end m_token m_whole m_nameSize m_fault m_place m_trouble a_letters m_failed m_hasHouse a_r a_fresh a_st a_undone a_kept m_undos m_images a_from a_begin a_motor a_change a_startFrame a_changeFrame a_lostAt a_blackAt a_slips a_leftArc a_died a_arcs m_bestSum m_nearest m_nearestTown a_there a_backAt a_sorted a_parts m_seed1 m_darkNow), (cAI g a_r 311 d_r), (cAI g a_st 44 d_st), (cAI g a_from 8 (upd d_from (0 : Int32).toNatClampNeg 0)), (cAI g a_begin 8 (upd d_begin (0 : Int32).toNatClampNeg 0)), (cAI g a_motor 8 (upd d_motor (0 : Int32).toNatClampNeg 0)), (cAI g a_change 8 d_change), (cAI g a_startFrame 8 d_startFrame), (cAI g a_changeFrame 8 d_changeFrame), (cAI g a_lostAt 8 d_lostAt), (cAI g a_blackAt 8 d_blackAt), (cAI g a_slips 8 d_slips)] X dX11_layNight_k1.1.2.1.2 5 rfl (by unfold vp_in; decide) rfl ?_
  refine k_aload_n X dX11_layNight_k1.1.2.2.1 1 rfl ?_
  refine k_get (ci := 11) X inlX11 rfl 28 (nlt_e rfl) dX11_layNight_k1.1.2.2.2 mw181 0 rfl rfl ?_
  refine k_iconst (v := 0) X dX11_layNight_k1.2.1.1.1 ic_0 ?_
  refine k_iconst (v := 0) X dX11_layNight_k1.2.1.1.2 ic_0 ?_
  refine k_iast [(cO11_i1r1i10r1i2r5i2r12i3r4i2 h0 m_thrown a_tape m_taped m_size m_at m_end m_token m_whole m_nameSize m_fault m_place m_trouble a_letters m_failed m_hasHouse a_r a_fresh a_st a_undone a_kept m_undos m_images a_from a_begin a_motor a_change a_startFrame a_changeFrame a_lostAt a_blackAt a_slips a_leftArc a_died a_arcs m_bestSum m_nearest m_nearestTown a_there a_backAt a_sorted a_parts m_seed1 m_darkNow), (cAI g a_r 311 d_r), (cAI g a_st 44 d_st), (cAI g a_from 8 (upd d_from (0 : Int32).toNatClampNeg 0)), (cAI g a_begin 8 (upd d_begin (0 : Int32).toNatClampNeg 0)), (cAI g a_motor 8 (upd d_motor (0 : Int32).toNatClampNeg 0)), (cAI g a_change 8 d_change), (cAI g a_startFrame 8 d_startFrame), (cAI g a_changeFrame 8 d_changeFrame), (cAI g a_lostAt 8 (upd d_lostAt (0 : Int32).toNatClampNeg 0)), (cAI g a_blackAt 8 d_blackAt), (cAI g a_slips 8 d_slips)] X dX11_layNight_k1.2.1.2.1 9 rfl (by unfold vp_in; decide) rfl ?_
  refine k_aload_n X dX11_layNight_k1.2.1.2.2 1 rfl ?_
  refine k_get (ci := 11) X inlX11 rfl 29 (nlt_e rfl) dX11_layNight_k1.2.2.1.1 mw182 0 rfl rfl ?_
  refine k_iconst (v := 0) X dX11_layNight_k1.2.2.1.2 ic_0 ?_
  refine k_iconst (v := 0) X dX11_layNight_k1.2.2.2.1 ic_0 ?_
  refine k_iast [(cO11_i1r1i10r1i2r5i2r12i3r4i2 h0 m_thrown a_tape m_taped m_size m_at m_end m_token m_whole m_nameSize m_fault m_place m_trouble a_letters m_failed m_hasHouse a_r a_fresh a_st a_undone a_kept m_undos m_images a_from a_begin a_motor a_change a_startFrame a_changeFrame a_lostAt a_blackAt a_slips a_leftArc a_died a_arcs m_bestSum m_nearest m_nearestTown a_there a_backAt a_sorted a_parts m_seed1 m_darkNow), (cAI g a_r 311 d_r), (cAI g a_st 44 d_st), (cAI g a_from 8 (upd d_from (0 : Int32).toNatClampNeg 0)), (cAI g a_begin 8 (upd d_begin (0 : Int32).toNatClampNeg 0)), (cAI g a_motor 8 (upd d_motor (0 : Int32).toNatClampNeg 0)), (cAI g a_change 8 d_change), (cAI g a_startFrame 8 d_startFrame), (cAI g a_changeFrame 8 d_changeFrame), (cAI g a_lostAt 8 (upd d_lostAt (0 : Int32).toNatClampNeg 0)), (cAI g a_blackAt 8 (upd d_blackAt (0 : Int32).toNatClampNeg 0)), (cAI g a_slips 8 d_slips)] X dX11_layNight_k1.2.2.2.2 10 rfl (by unfold vp_in; decide) rfl ?_
  refine k_iconst (v := 0) X dX11_layNight_k2.1.1.1.1 ic_0 ?_
  refine k_istore_n [(3, .int 0), (2, .int z_4), (0, .ref h0), (1, .int p0)] X dX11_layNight_k2.1.1.1.2 (nlt_e rfl) rfl ?_
  refine (fun hL : ∀ (nn_22 : Nat) (uf_12 : Nat → Int32) (uf_13 : Nat → Int32) (uf_14 : Nat → Int32) (uf_15 : Nat → Int32) (uf_16 : Nat → Int32) (uf_17 : Nat → Int32) (uf_18 : Nat → Int32) (uf_19 : Nat → Int32) (u_20 : Int32), (z_4.toInt + 1 - u_20.toInt).toNat = nn_22 → (IV u_20 0 8) → (∀ (d_begin2 : Nat → Int32) (d_blackAt2 : Nat → Int32) (d_change2 : Nat → Int32) (d_changeFrame2 : Nat → Int32) (d_from2 : Nat → Int32) (d_lostAt2 : Nat → Int32) (d_motor2 : Nat → Int32) (d_startFrame2 : Nat → Int32), (∃ n_0 : Nat, R_m_layNightX_L0 p0 d_r d_st d_slips z_4 (fun (uf_12 : Nat → Int32) (uf_13 : Nat → Int32) (uf_14 : Nat → Int32) (uf_15 : Nat → Int32) (uf_16 : Nat → Int32) (uf_17 : Nat → Int32) (uf_18 : Nat → Int32) (uf_19 : Nat → Int32) => d_begin2 = uf_12 ∧ d_blackAt2 = uf_13 ∧ d_change2 = uf_14 ∧ d_changeFrame2 = uf_15 ∧ d_from2 = uf_16 ∧ d_lostAt2 = uf_17 ∧ d_motor2 = uf_18 ∧ d_startFrame2 = uf_19) n_0 uf_12 uf_13 uf_14 uf_15 uf_16 uf_17 uf_18 uf_19 u_20) → R_m_layNightX p0 d_r d_st d_from d_begin d_motor d_change d_startFrame d_changeFrame d_lostAt d_blackAt d_slips d_begin2 d_blackAt2 d_change2 d_changeFrame2 d_from2 d_lostAt2 d_motor2 d_startFrame2) → Wk p l e _ s m args below meth c _ A g _ _ _ [(cO11_i1r1i10r1i2r5i2r12i3r4i2 h0 m_thrown a_tape m_taped m_size m_at m_end m_token m_whole m_nameSize m_fault m_place m_trouble a_letters m_failed m_hasHouse a_r a_fresh a_st a_undone a_kept m_undos m_images a_from a_begin a_motor a_change a_startFrame a_changeFrame a_lostAt a_blackAt a_slips a_leftArc a_died a_arcs m_bestSum m_nearest m_nearestTown a_there a_backAt a_sorted a_parts m_seed1 m_darkNow), (cAI g a_r 311 d_r), (cAI g a_st 44 d_st), (cAI g a_from 8 uf_16), (cAI g a_begin 8 uf_12), (cAI g a_motor 8 uf_18), (cAI g a_change 8 uf_14), (cAI g a_startFrame 8 uf_19), (cAI g a_changeFrame 8 uf_15), (cAI g a_lostAt 8 uf_17), (cAI g a_blackAt 8 uf_13), (cAI g a_slips 8 d_slips)] [(3, .int u_20), (2, .int z_4), (0, .ref h0), (1, .int p0)] 47 [] => hL _ ((upd d_begin (0 : Int32).toNatClampNeg 0)) ((upd d_blackAt (0 : Int32).toNatClampNeg 0)) d_change d_changeFrame ((upd d_from (0 : Int32).toNatClampNeg 0)) ((upd d_lostAt (0 : Int32).toNatClampNeg 0)) ((upd d_motor (0 : Int32).toNatClampNeg 0)) d_startFrame 0 rfl (iv_w iq_0_0_0 (zle_e rfl) (zle_e rfl)) (fun d_begin2 d_blackAt2 d_change2 d_changeFrame2 d_from2 d_lostAt2 d_motor2 d_startFrame2 h => ⟨z_1, ez_1, ⟨z_4, ez_4, h⟩⟩)) ?_
  refine fun nn_22 => Nat.strongRecOn nn_22 (fun nn_22 ih_24 => ?_)
  intro uf_12 uf_13 uf_14 uf_15 uf_16 uf_17 uf_18 uf_19 u_20 hm_23 hv_21 KH_0
  refine k_iload_n X dX11_layNight_k2.1.1.2.1 0 rfl ?_
  refine k_iload_n X dX11_layNight_k2.1.1.2.2 1 rfl ?_
  refine k_ic_gt 302 X dX11_layNight_k2.1.2.1.1 (jp_e rfl) (fun h_25 => ?_) (fun h_25 => ?_)
  · skip
    have j_26 : z_4.toInt < u_20.toInt := iv_lt h_25
    exact k_vret X hr dX11_layNight_k12.2.2.2 (Nat.le_of_ble_eq_true rfl) (Nat.le_of_ble_eq_true rfl) [0, 1, 2, 3, 4, 5, 6, 7, 8, 9, 10, 11] (vnd_e rfl) rfl rfl (exI8 uf_12 uf_13 uf_14 uf_15 uf_16 uf_17 uf_18 uf_19 ⟨(KH_0 _ _ _ _ _ _ _ _ ⟨0 + 1, (Or.inl ⟨h_25, ⟨rfl, rfl, rfl, rfl, rfl, rfl, rfl, rfl⟩⟩)⟩), rfl⟩)
  · skip
    have j_27 : u_20.toInt ≤ z_4.toInt := iv_nlt h_25
    have iv_28 : IV u_20 0 7 := iv_leL (iv_nlt h_25) hv_21 iv_6 (zle_e rfl)
    have iv_29 : IV z_4 0 7 := iv_leR (iv_nlt h_25) hv_21 iv_6 (zle_e rfl)
    have iv_30 : IV z_1 1 8 := by have := iv_3; have := iv_29; rw [IV]; omega
    refine k_aload_n X dX11_layNight_k2.1.2.1.2 2 rfl ?_
    refine k_iload_n X dX11_layNight_k2.1.2.2.1 0 rfl ?_
    refine k_callVI (n := 1) (As := [.int u_20]) (st := []) X [(cO11_i1r1i10r1i2r5i2r12i3r4i2 h0 m_thrown a_tape m_taped m_size m_at m_end m_token m_whole m_nameSize m_fault m_place m_trouble a_letters m_failed m_hasHouse a_r a_fresh a_st a_undone a_kept m_undos m_images a_from a_begin a_motor a_change a_startFrame a_changeFrame a_lostAt a_blackAt a_slips a_leftArc a_died a_arcs m_bestSum m_nearest m_nearestTown a_there a_backAt a_sorted a_parts m_seed1 m_darkNow), (cAI g a_r 311 d_r), (cAI g a_st 44 d_st)] [(cAI g a_from 8 uf_16), (cAI g a_begin 8 uf_12), (cAI g a_motor 8 uf_18), (cAI g a_change 8 uf_14), (cAI g a_startFrame 8 uf_19), (cAI g a_changeFrame 8 uf_15), (cAI g a_lostAt 8 uf_17), (cAI g a_blackAt 8 uf_13), (cAI g a_slips 8 d_slips)] [0, 1, 2] [3, 4, 5, 6, 7, 8, 9, 10, 11] (m_framesAtX l g h0 u_20 m_thrown a_tape m_taped m_size m_at m_end m_token m_whole m_nameSize m_fault m_place m_trouble a_letters m_failed m_hasHouse a_r a_fresh a_st a_undone a_kept m_undos m_images a_from a_begin a_motor a_change a_startFrame a_changeFrame a_lostAt a_blackAt a_slips a_leftArc a_died a_arcs m_bestSum m_nearest m_nearestTown a_there a_backAt a_sorted a_parts m_seed1 m_darkNow d_r d_st (iv_w iv_28 (zle_e rfl) (zle_e rfl)) hp_d_r) dX11_layNight_k2.1.2.2.2 mw823 mw824 mw825 mw5 mw826 rfl 11 rfl rfl 0 _ rfl yk_yX11_framesAt_1 rfl (Nat.le_of_ble_eq_true rfl) (Nat.le_of_ble_eq_true rfl) (Nat.le_of_ble_eq_true rfl) (Nat.le_of_ble_eq_true rfl) (Nat.le_of_ble_eq_true rfl) rfl rfl (by decide +kernel) rfl (by decide +kernel) (by decide +kernel) ?_
    rintro r_31 w ⟨hq_32, rfl⟩
    refine k_ws [(cAI g a_from 8 uf_16), (cAI g a_begin 8 uf_12), (cAI g a_motor 8 uf_18), (cAI g a_change 8 uf_14), (cAI g a_startFrame 8 uf_19), (cAI g a_changeFrame 8 uf_15), (cAI g a_lostAt 8 uf_17), (cAI g a_blackAt 8 uf_13), (cAI g a_slips 8 d_slips), (cO11_i1r1i10r1i2r5i2r12i3r4i2 h0 m_thrown a_tape m_taped m_size m_at m_end m_token m_whole m_nameSize m_fault m_place m_trouble a_letters m_failed m_hasHouse a_r a_fresh a_st a_undone a_kept m_undos m_images a_from a_begin a_motor a_change a_startFrame a_changeFrame a_lostAt a_blackAt a_slips a_leftArc a_died a_arcs m_bestSum m_nearest m_nearestTown a_there a_backAt a_sorted a_parts m_seed1 m_darkNow), (cAI g a_r 311 d_r), (cAI g a_st 44 d_st)] rfl ?_
    refine k_istore [(4, .int r_31), (3, .int u_20), (2, .int z_4), (0, .ref h0), (1, .int p0)] X dX11_layNight_k2.2.1.1.1 (nlt_e rfl) rfl ?_
    refine k_aload_n X dX11_layNight_k2.2.1.1.2 3 rfl ?_
    refine k_get (ci := 11) X inlX11 rfl 26 (nlt_e rfl) dX11_layNight_k2.2.1.2.1 mw179 9 rfl rfl ?_
    refine k_iload_n X dX11_layNight_k2.2.1.2.2 1 rfl ?_
    refine k_bipush (v := -2) X dX11_layNight_k2.2.2.1.1 bi_m2 ?_
    refine k_iast [(cAI g a_from 8 uf_16), (cAI g a_begin 8 uf_12), (cAI g a_motor 8 uf_18), (cAI g a_change 8 uf_14), (cAI g a_startFrame 8 (upd uf_19 (u_20 : Int32).toNatClampNeg (-2))), (cAI g a_changeFrame 8 uf_15), (cAI g a_lostAt 8 uf_17), (cAI g a_blackAt 8 uf_13), (cAI g a_slips 8 d_slips), (cO11_i1r1i10r1i2r5i2r12i3r4i2 h0 m_thrown a_tape m_taped m_size m_at m_end m_token m_whole m_nameSize m_fault m_place m_trouble a_letters m_failed m_hasHouse a_r a_fresh a_st a_undone a_kept m_undos m_images a_from a_begin a_motor a_change a_startFrame a_changeFrame a_lostAt a_blackAt a_slips a_leftArc a_died a_arcs m_bestSum m_nearest m_nearestTown a_there a_backAt a_sorted a_parts m_seed1 m_darkNow), (cAI g a_r 311 d_r), (cAI g a_st 44 d_st)] X dX11_layNight_k2.2.2.1.2 4 rfl (iv_in iv_28 (zle_e rfl) (zle_l rfl)) rfl ?_
    refine k_aload_n X dX11_layNight_k2.2.2.2.1 3 rfl ?_
    refine k_iload_n X dX11_layNight_k2.2.2.2.2 1 rfl ?_
    refine k_callVI (n := 1) (As := [.int u_20]) (st := []) X [(cO11_i1r1i10r1i2r5i2r12i3r4i2 h0 m_thrown a_tape m_taped m_size m_at m_end m_token m_whole m_nameSize m_fault m_place m_trouble a_letters m_failed m_hasHouse a_r a_fresh a_st a_undone a_kept m_undos m_images a_from a_begin a_motor a_change a_startFrame a_changeFrame a_lostAt a_blackAt a_slips a_leftArc a_died a_arcs m_bestSum m_nearest m_nearestTown a_there a_backAt a_sorted a_parts m_seed1 m_darkNow), (cAI g a_r 311 d_r), (cAI g a_st 44 d_st), (cAI g a_from 8 uf_16)] [(cAI g a_begin 8 uf_12), (cAI g a_motor 8 uf_18), (cAI g a_change 8 uf_14), (cAI g a_startFrame 8 (upd uf_19 (u_20 : Int32).toNatClampNeg (-2))), (cAI g a_changeFrame 8 uf_15), (cAI g a_lostAt 8 uf_17), (cAI g a_blackAt 8 uf_13), (cAI g a_slips 8 d_slips)] [9, 10, 11, 0] [1, 2, 3, 4, 5, 6, 7, 8] (m_isGoneX l g h0 u_20 m_thrown a_tape m_taped m_size m_at m_end m_token m_whole m_nameSize m_fault m_place m_trouble a_letters m_failed m_hasHouse a_r a_fresh a_st a_undone a_kept m_undos m_images a_from a_begin a_motor a_change a_startFrame a_changeFrame a_lostAt a_blackAt a_slips a_leftArc a_died a_arcs m_bestSum m_nearest m_nearestTown a_there a_backAt a_sorted a_parts m_seed1 m_darkNow d_r d_st uf_16 (iv_w iv_28 (zle_e rfl) (zle_e rfl)) hp_d_r) dX11_layNight_k3.1.1.1.1 mw827 mw828 mw829 mw5 mw830 rfl 11 rfl rfl 0 _ rfl yk_yX11_isGone_1 rfl (Nat.le_of_ble_eq_true rfl) (Nat.le_of_ble_eq_true rfl) (Nat.le_of_ble_eq_true rfl) (Nat.le_of_ble_eq_true rfl) (Nat.le_of_ble_eq_true rfl) rfl rfl (by decide +kernel) rfl (by decide +kernel) (by decide +kernel) ?_
    rintro r_34 w ⟨iv_35, hq_36, rfl⟩
    refine k_ws [(cAI g a_begin 8 uf_12), (cAI g a_motor 8 uf_18), (cAI g a_change 8 uf_14), (cAI g a_startFrame 8 (upd uf_19 (u_20 : Int32).toNatClampNeg (-2))), (cAI g a_changeFrame 8 uf_15), (cAI g a_lostAt 8 uf_17), (cAI g a_blackAt 8 uf_13), (cAI g a_slips 8 d_slips), (cO11_i1r1i10r1i2r5i2r12i3r4i2 h0 m_thrown a_tape m_taped m_size m_at m_end m_token m_whole m_nameSize m_fault m_place m_trouble a_letters m_failed m_hasHouse a_r a_fresh a_st a_undone a_kept m_undos m_images a_from a_begin a_motor a_change a_startFrame a_changeFrame a_lostAt a_blackAt a_slips a_leftArc a_died a_arcs m_bestSum m_nearest m_nearestTown a_there a_backAt a_sorted a_parts m_seed1 m_darkNow), (cAI g a_r 311 d_r), (cAI g a_st 44 d_st), (cAI g a_from 8 uf_16)] rfl ?_
    refine k_if_eq 129 X dX11_layNight_k3.1.1.1.2 (jp_e rfl) (fun h_37 => ?_) (fun h_37 => ?_)
    · skip
      have iv_38 : IV r_34 0 0 := iv_meet iv_35 (iv_e h_37 iq_0_0_0) (zle_o rfl) (zle_o rfl)
      refine k_aload_n X dX11_layNight_k5.1.2.1.2 3 rfl ?_
      refine k_get (ci := 11) X inlX11 rfl 27 (nlt_e rfl) dX11_layNight_k5.1.2.2.1 mw180 8 rfl rfl ?_
      refine k_iload_n X dX11_layNight_k5.1.2.2.2 1 rfl ?_
      refine k_iload X dX11_layNight_k5.2.1.1.1 0 rfl ?_
      refine k_iast [(cAI g a_begin 8 uf_12), (cAI g a_motor 8 uf_18), (cAI g a_change 8 uf_14), (cAI g a_startFrame 8 (upd uf_19 (u_20 : Int32).toNatClampNeg (-2))), (cAI g a_changeFrame 8 (upd uf_15 (u_20 : Int32).toNatClampNeg r_31)), (cAI g a_lostAt 8 uf_17), (cAI g a_blackAt 8 uf_13), (cAI g a_slips 8 d_slips), (cO11_i1r1i10r1i2r5i2r12i3r4i2 h0 m_thrown a_tape m_taped m_size m_at m_end m_token m_whole m_nameSize m_fault m_place m_trouble a_letters m_failed m_hasHouse a_r a_fresh a_st a_undone a_kept m_undos m_images a_from a_begin a_motor a_change a_startFrame a_changeFrame a_lostAt a_blackAt a_slips a_leftArc a_died a_arcs m_bestSum m_nearest m_nearestTown a_there a_backAt a_sorted a_parts m_seed1 m_darkNow), (cAI g a_r 311 d_r), (cAI g a_st 44 d_st), (cAI g a_from 8 uf_16)] X dX11_layNight_k5.2.1.1.2 4 rfl (iv_in iv_28 (zle_e rfl) (zle_l rfl)) rfl ?_
      refine k_iload_n X dX11_layNight_k5.2.1.2.1 1 rfl ?_
      refine k_iload_n X dX11_layNight_k5.2.1.2.2 2 rfl ?_
      refine k_ic_ge 201 X dX11_layNight_k5.2.2.1.1 (jp_e rfl) (fun h_40 => ?_) (fun h_40 => ?_)
      · skip
        have j_41 : z_4.toInt ≤ u_20.toInt := iv_le h_40
        refine k_aload_n X dX11_layNight_k8.1.1.1.2 3 rfl ?_
        refine k_get (ci := 11) X inlX11 rfl 25 (nlt_e rfl) dX11_layNight_k8.1.1.2.1 mw178 8 rfl rfl ?_
        refine k_iload_n X dX11_layNight_k8.1.1.2.2 1 rfl ?_
        refine k_aload_n X dX11_layNight_k8.1.2.1.1 3 rfl ?_
        refine k_get (ci := 11) X inlX11 rfl 23 (nlt_e rfl) dX11_layNight_k8.1.2.1.2 mw176 8 rfl rfl ?_
        refine k_iload_n X dX11_layNight_k8.1.2.2.1 1 rfl ?_
        refine k_iald X dX11_layNight_k8.1.2.2.2 0 rfl (iv_in iv_28 (zle_e rfl) (zle_l rfl)) ?_
        refine k_nm (fun z_42 ez_42 => ?_)
        refine k_aload_n X dX11_layNight_k8.2.1.1.1 3 rfl ?_
        refine k_get (ci := 11) X inlX11 rfl 27 (nlt_e rfl) dX11_layNight_k8.2.1.1.2 mw180 8 rfl rfl ?_
        refine k_iload_n X dX11_layNight_k8.2.1.2.1 1 rfl ?_
        refine k_iald X dX11_layNight_k8.2.1.2.2 4 rfl (iv_in iv_28 (zle_e rfl) (zle_l rfl)) ?_
        refine k_to r_31 upd_at ?_
        refine k_iadd X dX11_layNight_k8.2.2.1.1 ?_
        refine k_nm (fun z_43 ez_43 => ?_)
        refine k_aload_n X dX11_layNight_k8.2.2.1.2 3 rfl ?_
        refine k_get (ci := 11) X inlX11 rfl 22 (nlt_e rfl) dX11_layNight_k8.2.2.2.1 mw175 8 rfl rfl ?_
        refine k_iload_n X dX11_layNight_k8.2.2.2.2 1 rfl ?_
        refine k_iald X dX11_layNight_k9.1.1.1.1 11 rfl (iv_in iv_28 (zle_e rfl) (zle_l rfl)) ?_
        refine k_nm (fun z_45 ez_45 => ?_)
        refine k_isub X dX11_layNight_k9.1.1.1.2 ?_
        refine k_nm (fun z_46 ez_46 => ?_)
        refine k_iast [(cAI g a_begin 8 uf_12), (cAI g a_motor 8 uf_18), (cAI g a_change 8 (upd uf_14 (u_20 : Int32).toNatClampNeg z_46)), (cAI g a_startFrame 8 (upd uf_19 (u_20 : Int32).toNatClampNeg (-2))), (cAI g a_changeFrame 8 (upd uf_15 (u_20 : Int32).toNatClampNeg r_31)), (cAI g a_lostAt 8 uf_17), (cAI g a_blackAt 8 uf_13), (cAI g a_slips 8 d_slips), (cO11_i1r1i10r1i2r5i2r12i3r4i2 h0 m_thrown a_tape m_taped m_size m_at m_end m_token m_whole m_nameSize m_fault m_place m_trouble a_letters m_failed m_hasHouse a_r a_fresh a_st a_undone a_kept m_undos m_images a_from a_begin a_motor a_change a_startFrame a_changeFrame a_lostAt a_blackAt a_slips a_leftArc a_died a_arcs m_bestSum m_nearest m_nearestTown a_there a_backAt a_sorted a_parts m_seed1 m_darkNow), (cAI g a_r 311 d_r), (cAI g a_st 44 d_st), (cAI g a_from 8 uf_16)] X dX11_layNight_k9.1.1.2.1 2 rfl (iv_in iv_28 (zle_e rfl) (zle_l rfl)) rfl ?_
        refine k_iload_n X dX11_layNight_k9.1.1.2.2 1 rfl ?_
        refine k_iload_n X dX11_layNight_k9.1.2.1.1 2 rfl ?_
        refine k_ic_ge 296 X dX11_layNight_k9.1.2.1.2 (jp_e rfl) (fun h_49 => ?_) (fun h_49 => ?_)
        · skip
          have j_50 : z_4.toInt ≤ u_20.toInt := iv_le h_49
          obtain ⟨z_51, ez_51⟩ : ∃ y : Int32, u_20 + Int32.ofInt 1 = y := ⟨_, rfl⟩
          refine k_iinc z_51 [(3, .int z_51), (4, .int r_31), (2, .int z_4), (0, .ref h0), (1, .int p0)] 1 X dX11_layNight_k12.2.1 rfl ez_51 (nlt_e rfl) rfl ?_
          have i_52 : z_51.toInt = u_20.toInt + 1 := in_inc ez_51 (oin_e rfl) iv_28 (zle_e rfl) (zle_e rfl)
          have iv_53 : IV z_51 1 8 := iz1 i_52 iv_28 (zle_e rfl) (zle_e rfl)
          refine k_goto 47 X dX11_layNight_k12.2.2.1 (jp_e rfl) ?_
          refine k_lv [(3, .int z_51), (2, .int z_4), (0, .ref h0), (1, .int p0)] [0, 2, 3, 4] rfl ?_
          refine k_sub [(cO11_i1r1i10r1i2r5i2r12i3r4i2 h0 m_thrown a_tape m_taped m_size m_at m_end m_token m_whole m_nameSize m_fault m_place m_trouble a_letters m_failed m_hasHouse a_r a_fresh a_st a_undone a_kept m_undos m_images a_from a_begin a_motor a_change a_startFrame a_changeFrame a_lostAt a_blackAt a_slips a_leftArc a_died a_arcs m_bestSum m_nearest m_nearestTown a_there a_backAt a_sorted a_parts m_seed1 m_darkNow), (cAI g a_r 311 d_r), (cAI g a_st 44 d_st), (cAI g a_from 8 uf_16), (cAI g a_begin 8 uf_12), (cAI g a_motor 8 uf_18), (cAI g a_change 8 (upd uf_14 (u_20 : Int32).toNatClampNeg z_46)), (cAI g a_startFrame 8 (upd uf_19 (u_20 : Int32).toNatClampNeg (-2))), (cAI g a_changeFrame 8 (upd uf_15 (u_20 : Int32).toNatClampNeg r_31)), (cAI g a_lostAt 8 uf_17), (cAI g a_blackAt 8 uf_13), (cAI g a_slips 8 d_slips)] [8, 9, 10, 11, 0, 1, 2, 3, 4, 5, 6, 7] rfl (by decide) rfl ?_
          exact ih_24 _ (by omega) uf_12 uf_13 ((upd uf_14 (u_20 : Int32).toNatClampNeg z_46)) ((upd uf_15 (u_20 : Int32).toNatClampNeg r_31)) uf_16 uf_17 uf_18 ((upd uf_19 (u_20 : Int32).toNatClampNeg (-2))) z_51 rfl (iv_w iv_53 (zle_e rfl) (zle_e rfl)) (fun d_begin2 d_blackAt2 d_change2 d_changeFrame2 d_from2 d_lostAt2 d_motor2 d_startFrame2 h => h.elim (fun n_0 q => (KH_0 _ _ _ _ _ _ _ _ ⟨n_0 + 1, (Or.inr ⟨h_25, ⟨r_31, hq_32, ⟨r_34, hq_36, (Or.inl ⟨h_37, (Or.inl ⟨h_40, ⟨z_42, ez_42, ⟨z_43, ez_43, ⟨z_45, ez_45, ⟨z_46, ez_46, (Or.inl ⟨h_49, ⟨z_51, ez_51, q⟩⟩)⟩⟩⟩⟩⟩)⟩)⟩⟩⟩)⟩)))
        · skip
          have j_54 : u_20.toInt < z_4.toInt := iv_nle h_49
          have iv_55 : IV u_20 0 6 := iv_ltL (iv_nle h_49) iv_28 iv_29 (zle_e rfl)
          have iv_56 : IV z_4 1 7 := iv_ltR (iv_nle h_49) iv_28 iv_29 (zle_e rfl)
          have iv_57 : IV z_1 2 8 := by have := iv_30; have := iv_56; rw [IV]; omega
          refine k_aload_n X dX11_layNight_k9.1.2.2.1 3 rfl ?_
          refine k_iload_n X dX11_layNight_k9.1.2.2.2 1 rfl ?_
          refine k_aload_n X dX11_layNight_k9.2.1.1.1 3 rfl ?_
          refine k_get (ci := 11) X inlX11 rfl 23 (nlt_e rfl) dX11_layNight_k9.2.1.1.2 mw176 8 rfl rfl ?_
          refine k_iload_n X dX11_layNight_k9.2.1.2.1 1 rfl ?_
          refine k_iald X dX11_layNight_k9.2.1.2.2 0 rfl (iv_in iv_55 (zle_e rfl) (zle_l rfl)) ?_
          refine k_to z_42 ez_42.symm ?_
          refine k_aload_n X dX11_layNight_k9.2.2.1.1 3 rfl ?_
          refine k_get (ci := 11) X inlX11 rfl 26 (nlt_e rfl) dX11_layNight_k9.2.2.1.2 mw179 8 rfl rfl ?_
          refine k_iload_n X dX11_layNight_k9.2.2.2.1 1 rfl ?_
          refine k_iald X dX11_layNight_k9.2.2.2.2 3 rfl (iv_in iv_55 (zle_e rfl) (zle_l rfl)) ?_
          refine k_to (-2) upd_at ?_
          refine k_iadd X dX11_layNight_k10.1.1.1.1 ?_
          refine k_nm (fun z_58 ez_58 => ?_)
          refine k_aload_n X dX11_layNight_k10.1.1.1.2 3 rfl ?_
          refine k_get (ci := 11) X inlX11 rfl 22 (nlt_e rfl) dX11_layNight_k10.1.1.2.1 mw175 8 rfl rfl ?_
          refine k_iload_n X dX11_layNight_k10.1.1.2.2 1 rfl ?_
          refine k_iald X dX11_layNight_k10.1.2.1.1 11 rfl (iv_in iv_55 (zle_e rfl) (zle_l rfl)) ?_
          refine k_to z_45 ez_45.symm ?_
          refine k_isub X dX11_layNight_k10.1.2.1.2 ?_
          refine k_nm (fun z_60 ez_60 => ?_)
          refine k_aload_n X dX11_layNight_k10.1.2.2.1 3 rfl ?_
          refine k_get (ci := 11) X inlX11 rfl 25 (nlt_e rfl) dX11_layNight_k10.1.2.2.2 mw178 8 rfl rfl ?_
          refine k_iload_n X dX11_layNight_k10.2.1.1.1 1 rfl ?_
          refine k_iald X dX11_layNight_k10.2.1.1.2 2 rfl (iv_in iv_55 (zle_e rfl) (zle_l rfl)) ?_
          refine k_to z_46 upd_at ?_
          refine k_aload_n X dX11_layNight_k10.2.1.2.1 3 rfl ?_
          refine k_get (ci := 11) X inlX11 rfl 27 (nlt_e rfl) dX11_layNight_k10.2.1.2.2 mw180 8 rfl rfl ?_
          refine k_iload_n X dX11_layNight_k10.2.2.1.1 1 rfl ?_
          refine k_iald X dX11_layNight_k10.2.2.1.2 4 rfl (iv_in iv_55 (zle_e rfl) (zle_l rfl)) ?_
          refine k_to r_31 upd_at ?_
          refine k_aload_n X dX11_layNight_k10.2.2.2.1 3 rfl ?_
          refine k_get (ci := 11) X inlX11 rfl 26 (nlt_e rfl) dX11_layNight_k10.2.2.2.2 mw179 8 rfl rfl ?_
          refine k_iload_n X dX11_layNight_k11.1.1.1.1 1 rfl ?_
          refine k_iald X dX11_layNight_k11.1.1.1.2 3 rfl (iv_in iv_55 (zle_e rfl) (zle_l rfl)) ?_
          refine k_to (-2) upd_at ?_
          refine k_isub X dX11_layNight_k11.1.1.2.1 ?_
          refine k_nm (fun z_62 ez_62 => ?_)
          refine k_aload_n X dX11_layNight_k11.1.1.2.2 3 rfl ?_
          refine k_get (ci := 11) X inlX11 rfl 15 (nlt_e rfl) dX11_layNight_k11.1.2.1.1 mw170 8 rfl rfl ?_
          refine k_iconst (v := 1) X dX11_layNight_k11.1.2.1.2 ic_1 ?_
          refine k_iald X dX11_layNight_k11.1.2.2.1 9 rfl (by unfold vp_in; decide) ?_
          refine k_nm (fun z_64 ez_64 => ?_)
          refine k_isub X dX11_layNight_k11.1.2.2.2 ?_
          refine k_nm (fun z_65 ez_65 => ?_)
          refine k_aload_n X dX11_layNight_k11.2.1.1.1 3 rfl ?_
          refine k_get (ci := 11) X inlX11 rfl 17 (nlt_e rfl) dX11_layNight_k11.2.1.1.2 mw172 8 rfl rfl ?_
          refine k_bipush (v := 34) X dX11_layNight_k11.2.1.2.1 bi_34 ?_
          refine k_iload_n X dX11_layNight_k11.2.1.2.2 1 rfl ?_
          refine k_iadd X dX11_layNight_k11.2.2.1.1 ?_
          refine k_nm (fun z_67 ez_67 => ?_)
          have i_68 : z_67.toInt = 34 + u_20.toInt := in_add ez_67 iq_34_34_34 iv_55 (zle_e rfl) (zle_e rfl)
          have iv_69 : IV z_67 34 40 := iz2 i_68 iv_55 (zle_e rfl) (zle_e rfl)
          refine k_iconst (v := 1) X dX11_layNight_k11.2.2.1.2 ic_1 ?_
          refine k_iadd X dX11_layNight_k11.2.2.2.1 ?_
          refine k_nm (fun z_70 ez_70 => ?_)
          have i_71 : z_70.toInt = z_67.toInt + 1 := in_add ez_70 iv_69 iq_1_1_1 (zle_e rfl) (zle_e rfl)
          have iv_72 : IV z_70 35 41 := iz1 i_71 iv_69 (zle_e rfl) (zle_e rfl)
          refine k_iald X dX11_layNight_k11.2.2.2.2 10 rfl (iv_in iv_72 (zle_e rfl) (zle_l rfl)) ?_
          refine k_nm (fun z_73 ez_73 => ?_)
          refine k_isub X dX11_layNight_k12.1.1 ?_
          refine k_nm (fun z_74 ez_74 => ?_)
          refine k_iconst (v := 0) X dX11_layNight_k12.1.2.1 ic_0 ?_
          refine k_callVV (n := 5) (As := [.int u_20, .int z_60, .int z_46, .int z_74, .int 0]) (st := []) X [(cO11_i1r1i10r1i2r5i2r12i3r4i2 h0 m_thrown a_tape m_taped m_size m_at m_end m_token m_whole m_nameSize m_fault m_place m_trouble a_letters m_failed m_hasHouse a_r a_fresh a_st a_undone a_kept m_undos m_images a_from a_begin a_motor a_change a_startFrame a_changeFrame a_lostAt a_blackAt a_slips a_leftArc a_died a_arcs m_bestSum m_nearest m_nearestTown a_there a_backAt a_sorted a_parts m_seed1 m_darkNow), (cAI g a_from 8 uf_16), (cAI g a_begin 8 uf_12), (cAI g a_motor 8 uf_18), (cAI g a_lostAt 8 uf_17), (cAI g a_blackAt 8 uf_13)] [(cAI g a_change 8 (upd uf_14 (u_20 : Int32).toNatClampNeg z_46)), (cAI g a_startFrame 8 (upd uf_19 (u_20 : Int32).toNatClampNeg (-2))), (cAI g a_changeFrame 8 (upd uf_15 (u_20 : Int32).toNatClampNeg r_31)), (cAI g a_slips 8 d_slips), (cAI g a_r 311 d_r), (cAI g a_st 44 d_st)] [8, 11, 0, 1, 5, 6] [2, 3, 4, 7, 9, 10] (m_followsX l g h0 u_20 z_60 z_46 z_74 0 m_thrown a_tape m_taped m_size m_at m_end m_token m_whole m_nameSize m_fault m_place m_trouble a_letters m_failed m_hasHouse a_r a_fresh a_st a_undone a_kept m_undos m_images a_from a_begin a_motor a_change a_startFrame a_changeFrame a_lostAt a_blackAt a_slips a_leftArc a_died a_arcs m_bestSum m_nearest m_nearestTown a_there a_backAt a_sorted a_parts m_seed1 m_darkNow uf_16 uf_12 uf_18 uf_17 uf_13 (iv_w iv_55 (zle_e rfl) (zle_e rfl))) dX11_layNight_k12.1.2.2 mw831 mw832 mw833 mw5 mw834 rfl 11 rfl rfl 0 _ rfl yk_yX11_follows_5 rfl (Nat.le_of_ble_eq_true rfl) (Nat.le_of_ble_eq_true rfl) (Nat.le_of_ble_eq_true rfl) (Nat.le_of_ble_eq_true rfl) (Nat.le_of_ble_eq_true rfl) rfl rfl (by decide +kernel) rfl (by decide +kernel) (by decide +kernel) ?_
          rintro w ⟨d_begin2_76, d_blackAt2_77, d_from2_78, d_lostAt2_79, d_motor2_80, hq_82, rfl⟩
          refine k_ws [(cAI g a_change 8 (upd uf_14 (u_20 : Int32).toNatClampNeg z_46)), (cAI g a_startFrame 8 (upd uf_19 (u_20 : Int32).toNatClampNeg (-2))), (cAI g a_changeFrame 8 (upd uf_15 (u_20 : Int32).toNatClampNeg r_31)), (cAI g a_slips 8 d_slips), (cAI g a_r 311 d_r), (cAI g a_st 44 d_st), (cO11_i1r1i10r1i2r5i2r12i3r4i2 h0 m_thrown a_tape m_taped m_size m_at m_end m_token m_whole m_nameSize m_fault m_place m_trouble a_letters m_failed m_hasHouse a_r a_fresh a_st a_undone a_kept m_undos m_images a_from a_begin a_motor a_change a_startFrame a_changeFrame a_lostAt a_blackAt a_slips a_leftArc a_died a_arcs m_bestSum m_nearest m_nearestTown a_there a_backAt a_sorted a_parts m_seed1 m_darkNow), (cAI g a_from 8 d_from2_78), (cAI g a_begin 8 d_begin2_76), (cAI g a_motor 8 d_motor2_80), (cAI g a_lostAt 8 d_lostAt2_79), (cAI g a_blackAt 8 d_blackAt2_77)] rfl ?_
          obtain ⟨z_83, ez_83⟩ : ∃ y : Int32, u_20 + Int32.ofInt 1 = y := ⟨_, rfl⟩
          refine k_iinc z_83 [(3, .int z_83), (4, .int r_31), (2, .int z_4), (0, .ref h0), (1, .int p0)] 1 X dX11_layNight_k12.2.1 rfl ez_83 (nlt_e rfl) rfl ?_
          have i_84 : z_83.toInt = u_20.toInt + 1 := in_inc ez_83 (oin_e rfl) iv_55 (zle_e rfl) (zle_e rfl)
          have iv_85 : IV z_83 1 7 := iz1 i_84 iv_55 (zle_e rfl) (zle_e rfl)
          refine k_goto 47 X dX11_layNight_k12.2.2.1 (jp_e rfl) ?_
          refine k_lv [(3, .int z_83), (2, .int z_4), (0, .ref h0), (1, .int p0)] [0, 2, 3, 4] rfl ?_
          refine k_sub [(cO11_i1r1i10r1i2r5i2r12i3r4i2 h0 m_thrown a_tape m_taped m_size m_at m_end m_token m_whole m_nameSize m_fault m_place m_trouble a_letters m_failed m_hasHouse a_r a_fresh a_st a_undone a_kept m_undos m_images a_from a_begin a_motor a_change a_startFrame a_changeFrame a_lostAt a_blackAt a_slips a_leftArc a_died a_arcs m_bestSum m_nearest m_nearestTown a_there a_backAt a_sorted a_parts m_seed1 m_darkNow), (cAI g a_r 311 d_r), (cAI g a_st 44 d_st), (cAI g a_from 8 d_from2_78), (cAI g a_begin 8 d_begin2_76), (cAI g a_motor 8 d_motor2_80), (cAI g a_change 8 (upd uf_14 (u_20 : Int32).toNatClampNeg z_46)), (cAI g a_startFrame 8 (upd uf_19 (u_20 : Int32).toNatClampNeg (-2))), (cAI g a_changeFrame 8 (upd uf_15 (u_20 : Int32).toNatClampNeg r_31)), (cAI g a_lostAt 8 d_lostAt2_79), (cAI g a_blackAt 8 d_blackAt2_77), (cAI g a_slips 8 d_slips)] [6, 4, 5, 7, 8, 9, 0, 1, 2, 10, 11, 3] rfl (by decide) rfl ?_
          exact ih_24 _ (by omega) d_begin2_76 d_blackAt2_77 ((upd uf_14 (u_20 : Int32).toNatClampNeg z_46)) ((upd uf_15 (u_20 : Int32).toNatClampNeg r_31)) d_from2_78 d_lostAt2_79 d_motor2_80 ((upd uf_19 (u_20 : Int32).toNatClampNeg (-2))) z_83 rfl (iv_w iv_85 (zle_e rfl) (zle_e rfl)) (fun d_begin2 d_blackAt2 d_change2 d_changeFrame2 d_from2 d_lostAt2 d_motor2 d_startFrame2 h => h.elim (fun n_0 q => (KH_0 _ _ _ _ _ _ _ _ ⟨n_0 + 1, (Or.inr ⟨h_25, ⟨r_31, hq_32, ⟨r_34, hq_36, (Or.inl ⟨h_37, (Or.inl ⟨h_40, ⟨z_42, ez_42, ⟨z_43, ez_43, ⟨z_45, ez_45, ⟨z_46, ez_46, (Or.inr ⟨h_49, ⟨z_58, ez_58, ⟨z_60, ez_60, ⟨z_62, ez_62, ⟨z_64, ez_64, ⟨z_65, ez_65, ⟨z_67, ez_67, ⟨z_70, ez_70, ⟨z_73, ez_73, ⟨z_74, ez_74, ⟨d_begin2_76, d_blackAt2_77, d_from2_78, d_lostAt2_79, d_motor2_80, hq_82, ⟨z_83, ez_83, q⟩⟩⟩⟩⟩⟩⟩⟩⟩⟩⟩⟩)⟩⟩⟩⟩⟩)⟩)⟩⟩⟩)⟩)))
      · skip
        have j_86 : u_20.toInt < z_4.toInt := iv_nle h_40
        have iv_87 : IV u_20 0 6 := iv_ltL (iv_nle h_40) iv_28 iv_29 (zle_e rfl)
        have iv_88 : IV z_4 1 7 := iv_ltR (iv_nle h_40) iv_28 iv_29 (zle_e rfl)
        have iv_89 : IV z_1 2 8 := by have := iv_30; have := iv_88; rw [IV]; omega
        refine k_aload_n X dX11_layNight_k5.2.2.1.2 3 rfl ?_
        refine k_iload_n X dX11_layNight_k5.2.2.2.1 4 rfl ?_
        refine k_iload_n X dX11_layNight_k5.2.2.2.2 1 rfl ?_
        refine k_callVI (n := 2) (As := [.int p0, .int u_20]) (st := []) X [(cO11_i1r1i10r1i2r5i2r12i3r4i2 h0 m_thrown a_tape m_taped m_size m_at m_end m_token m_whole m_nameSize m_fault m_place m_trouble a_letters m_failed m_hasHouse a_r a_fresh a_st a_undone a_kept m_undos m_images a_from a_begin a_motor a_change a_startFrame a_changeFrame a_lostAt a_blackAt a_slips a_leftArc a_died a_arcs m_bestSum m_nearest m_nearestTown a_there a_backAt a_sorted a_parts m_seed1 m_darkNow), (cAI g a_r 311 d_r), (cAI g a_st 44 d_st)] [(cAI g a_begin 8 uf_12), (cAI g a_motor 8 uf_18), (cAI g a_change 8 uf_14), (cAI g a_startFrame 8 (upd uf_19 (u_20 : Int32).toNatClampNeg (-2))), (cAI g a_changeFrame 8 (upd uf_15 (u_20 : Int32).toNatClampNeg r_31)), (cAI g a_lostAt 8 uf_17), (cAI g a_blackAt 8 uf_13), (cAI g a_slips 8 d_slips), (cAI g a_from 8 uf_16)] [8, 9, 10] [0, 1, 2, 3, 4, 5, 6, 7, 11] (m_believesOfX l g h0 p0 u_20 m_thrown a_tape m_taped m_size m_at m_end m_token m_whole m_nameSize m_fault m_place m_trouble a_letters m_failed m_hasHouse a_r a_fresh a_st a_undone a_kept m_undos m_images a_from a_begin a_motor a_change a_startFrame a_changeFrame a_lostAt a_blackAt a_slips a_leftArc a_died a_arcs m_bestSum m_nearest m_nearestTown a_there a_backAt a_sorted a_parts m_seed1 m_darkNow d_r d_st (iv_w hv_p0 (zle_e rfl) (zle_e rfl)) (iv_w iv_87 (zle_e rfl) (zle_e rfl)) hp_d_r) dX11_layNight_k6.1.1.1.1 mw835 mw836 mw837 mw5 mw838 rfl 11 rfl rfl 0 _ rfl yk_yX11_believesOf_2 rfl (Nat.le_of_ble_eq_true rfl) (Nat.le_of_ble_eq_true rfl) (Nat.le_of_ble_eq_true rfl) (Nat.le_of_ble_eq_true rfl) (Nat.le_of_ble_eq_true rfl) rfl rfl (by decide +kernel) rfl (by decide +kernel) (by decide +kernel) ?_
        rintro r_90 w ⟨hq_91, rfl⟩
        refine k_ws [(cAI g a_begin 8 uf_12), (cAI g a_motor 8 uf_18), (cAI g a_change 8 uf_14), (cAI g a_startFrame 8 (upd uf_19 (u_20 : Int32).toNatClampNeg (-2))), (cAI g a_changeFrame 8 (upd uf_15 (u_20 : Int32).toNatClampNeg r_31)), (cAI g a_lostAt 8 uf_17), (cAI g a_blackAt 8 uf_13), (cAI g a_slips 8 d_slips), (cAI g a_from 8 uf_16), (cO11_i1r1i10r1i2r5i2r12i3r4i2 h0 m_thrown a_tape m_taped m_size m_at m_end m_token m_whole m_nameSize m_fault m_place m_trouble a_letters m_failed m_hasHouse a_r a_fresh a_st a_undone a_kept m_undos m_images a_from a_begin a_motor a_change a_startFrame a_changeFrame a_lostAt a_blackAt a_slips a_leftArc a_died a_arcs m_bestSum m_nearest m_nearestTown a_there a_backAt a_sorted a_parts m_seed1 m_darkNow), (cAI g a_r 311 d_r), (cAI g a_st 44 d_st)] rfl ?_
        refine k_aload_n X dX11_layNight_k6.1.1.1.2 3 rfl ?_
        refine k_get (ci := 11) X inlX11 rfl 30 (nlt_e rfl) dX11_layNight_k6.1.1.2.1 mw183 9 rfl rfl ?_
        refine k_iload_n X dX11_layNight_k6.1.1.2.2 1 rfl ?_
        refine k_iald X dX11_layNight_k6.1.2.1.1 7 rfl (iv_in iv_87 (zle_e rfl) (zle_l rfl)) ?_
        refine k_nm (fun z_92 ez_92 => ?_)
        refine k_iadd X dX11_layNight_k6.1.2.1.2 ?_
        refine k_nm (fun z_93 ez_93 => ?_)
        refine k_iload X dX11_layNight_k6.1.2.2.1 0 rfl ?_
        refine k_iconst (v := 1) X dX11_layNight_k6.1.2.2.2 ic_1 ?_
        refine k_isub X dX11_layNight_k6.2.1.1.1 ?_
        refine k_nm (fun z_95 ez_95 => ?_)
        refine k_callSI (n := 2) (As := [.int z_93, .int z_95]) (st := []) X [] [(cAI g a_begin 8 uf_12), (cAI g a_motor 8 uf_18), (cAI g a_change 8 uf_14), (cAI g a_startFrame 8 (upd uf_19 (u_20 : Int32).toNatClampNeg (-2))), (cAI g a_changeFrame 8 (upd uf_15 (u_20 : Int32).toNatClampNeg r_31)), (cAI g a_lostAt 8 uf_17), (cAI g a_blackAt 8 uf_13), (cAI g a_slips 8 d_slips), (cAI g a_from 8 uf_16), (cO11_i1r1i10r1i2r5i2r12i3r4i2 h0 m_thrown a_tape m_taped m_size m_at m_end m_token m_whole m_nameSize m_fault m_place m_trouble a_letters m_failed m_hasHouse a_r a_fresh a_st a_undone a_kept m_undos m_images a_from a_begin a_motor a_change a_startFrame a_changeFrame a_lostAt a_blackAt a_slips a_leftArc a_died a_arcs m_bestSum m_nearest m_nearestTown a_there a_backAt a_sorted a_parts m_seed1 m_darkNow), (cAI g a_r 311 d_r), (cAI g a_st 44 d_st)] [] [0, 1, 2, 3, 4, 5, 6, 7, 8, 9, 10, 11] (m_leastX l g z_93 z_95) dX11_layNight_k6.2.1.1.2 mw839 mw840 mw5 mw841 yk_yX11_least_2 rfl (Nat.le_of_ble_eq_true rfl) (Nat.le_of_ble_eq_true rfl) (Nat.le_of_ble_eq_true rfl) (Nat.le_of_ble_eq_true rfl) (Nat.le_of_ble_eq_true rfl) rfl rfl (by decide +kernel) rfl (by decide +kernel) (by decide +kernel) ?_
        rintro r_97 w ⟨hq_98, rfl⟩
        refine k_ws [(cAI g a_begin 8 uf_12), (cAI g a_motor 8 uf_18), (cAI g a_change 8 uf_14), (cAI g a_startFrame 8 (upd uf_19 (u_20 : Int32).toNatClampNeg (-2))), (cAI g a_changeFrame 8 (upd uf_15 (u_20 : Int32).toNatClampNeg r_31)), (cAI g a_lostAt 8 uf_17), (cAI g a_blackAt 8 uf_13), (cAI g a_slips 8 d_slips), (cAI g a_from 8 uf_16), (cO11_i1r1i10r1i2r5i2r12i3r4i2 h0 m_thrown a_tape m_taped m_size m_at m_end m_token m_whole m_nameSize m_fault m_place m_trouble a_letters m_failed m_hasHouse a_r a_fresh a_st a_undone a_kept m_undos m_images a_from a_begin a_motor a_change a_startFrame a_changeFrame a_lostAt a_blackAt a_slips a_leftArc a_died a_arcs m_bestSum m_nearest m_nearestTown a_there a_backAt a_sorted a_parts m_seed1 m_darkNow), (cAI g a_r 311 d_r), (cAI g a_st 44 d_st)] rfl ?_
        refine k_aload_n X dX11_layNight_k6.2.1.2.1 3 rfl ?_
        refine k_get (ci := 11) X inlX11 rfl 22 (nlt_e rfl) dX11_layNight_k6.2.1.2.2 mw175 9 rfl rfl ?_
        refine k_iload_n X dX11_layNight_k6.2.2.1.1 1 rfl ?_
        refine k_iald X dX11_layNight_k6.2.2.1.2 8 rfl (iv_in iv_87 (zle_e rfl) (zle_l rfl)) ?_
        refine k_nm (fun z_99 ez_99 => ?_)
        refine k_callSI (n := 2) (As := [.int r_97, .int z_99]) (st := []) X [] [(cAI g a_begin 8 uf_12), (cAI g a_motor 8 uf_18), (cAI g a_change 8 uf_14), (cAI g a_startFrame 8 (upd uf_19 (u_20 : Int32).toNatClampNeg (-2))), (cAI g a_changeFrame 8 (upd uf_15 (u_20 : Int32).toNatClampNeg r_31)), (cAI g a_lostAt 8 uf_17), (cAI g a_blackAt 8 uf_13), (cAI g a_slips 8 d_slips), (cAI g a_from 8 uf_16), (cO11_i1r1i10r1i2r5i2r12i3r4i2 h0 m_thrown a_tape m_taped m_size m_at m_end m_token m_whole m_nameSize m_fault m_place m_trouble a_letters m_failed m_hasHouse a_r a_fresh a_st a_undone a_kept m_undos m_images a_from a_begin a_motor a_change a_startFrame a_changeFrame a_lostAt a_blackAt a_slips a_leftArc a_died a_arcs m_bestSum m_nearest m_nearestTown a_there a_backAt a_sorted a_parts m_seed1 m_darkNow), (cAI g a_r 311 d_r), (cAI g a_st 44 d_st)] [] [0, 1, 2, 3, 4, 5, 6, 7, 8, 9, 10, 11] (m_mostX l g r_97 z_99) dX11_layNight_k6.2.2.2.1 mw842 mw843 mw5 mw844 yk_yX11_most_2 rfl (Nat.le_of_ble_eq_true rfl) (Nat.le_of_ble_eq_true rfl) (Nat.le_of_ble_eq_true rfl) (Nat.le_of_ble_eq_true rfl) (Nat.le_of_ble_eq_true rfl) rfl rfl (by decide +kernel) rfl (by decide +kernel) (by decide +kernel) ?_
        rintro r_100 w ⟨hq_101, rfl⟩
        refine k_ws [(cAI g a_begin 8 uf_12), (cAI g a_motor 8 uf_18), (cAI g a_change 8 uf_14), (cAI g a_startFrame 8 (upd uf_19 (u_20 : Int32).toNatClampNeg (-2))), (cAI g a_changeFrame 8 (upd uf_15 (u_20 : Int32).toNatClampNeg r_31)), (cAI g a_lostAt 8 uf_17), (cAI g a_blackAt 8 uf_13), (cAI g a_slips 8 d_slips), (cAI g a_from 8 uf_16), (cO11_i1r1i10r1i2r5i2r12i3r4i2 h0 m_thrown a_tape m_taped m_size m_at m_end m_token m_whole m_nameSize m_fault m_place m_trouble a_letters m_failed m_hasHouse a_r a_fresh a_st a_undone a_kept m_undos m_images a_from a_begin a_motor a_change a_startFrame a_changeFrame a_lostAt a_blackAt a_slips a_leftArc a_died a_arcs m_bestSum m_nearest m_nearestTown a_there a_backAt a_sorted a_parts m_seed1 m_darkNow), (cAI g a_r 311 d_r), (cAI g a_st 44 d_st)] rfl ?_
        refine k_istore [(5, .int r_100), (4, .int r_31), (3, .int u_20), (2, .int z_4), (0, .ref h0), (1, .int p0)] X dX11_layNight_k6.2.2.2.2 (nlt_e rfl) rfl ?_
        refine k_aload_n X dX11_layNight_k7.1.1.1.1 4 rfl ?_
        refine k_get (ci := 11) X inlX11 rfl 26 (nlt_e rfl) dX11_layNight_k7.1.1.1.2 mw179 9 rfl rfl ?_
        refine k_iload_n X dX11_layNight_k7.1.1.2.1 2 rfl ?_
        refine k_iload X dX11_layNight_k7.1.1.2.2 0 rfl ?_
        refine k_iast [(cAI g a_begin 8 uf_12), (cAI g a_motor 8 uf_18), (cAI g a_change 8 uf_14), (cAI g a_startFrame 8 (upd (upd uf_19 (u_20 : Int32).toNatClampNeg (-2)) (u_20 : Int32).toNatClampNeg r_100)), (cAI g a_changeFrame 8 (upd uf_15 (u_20 : Int32).toNatClampNeg r_31)), (cAI g a_lostAt 8 uf_17), (cAI g a_blackAt 8 uf_13), (cAI g a_slips 8 d_slips), (cAI g a_from 8 uf_16), (cO11_i1r1i10r1i2r5i2r12i3r4i2 h0 m_thrown a_tape m_taped m_size m_at m_end m_token m_whole m_nameSize m_fault m_place m_trouble a_letters m_failed m_hasHouse a_r a_fresh a_st a_undone a_kept m_undos m_images a_from a_begin a_motor a_change a_startFrame a_changeFrame a_lostAt a_blackAt a_slips a_leftArc a_died a_arcs m_bestSum m_nearest m_nearestTown a_there a_backAt a_sorted a_parts m_seed1 m_darkNow), (cAI g a_r 311 d_r), (cAI g a_st 44 d_st)] X dX11_layNight_k7.1.2.1.1 3 rfl (iv_in iv_87 (zle_e rfl) (zle_l rfl)) rfl ?_
        refine k_aload_n X dX11_layNight_k7.1.2.1.2 4 rfl ?_
        refine k_get (ci := 11) X inlX11 rfl 27 (nlt_e rfl) dX11_layNight_k7.1.2.2.1 mw180 9 rfl rfl ?_
        refine k_iload_n X dX11_layNight_k7.1.2.2.2 2 rfl ?_
        refine k_iload X dX11_layNight_k7.2.1.1.1 0 rfl ?_
        refine k_aload_n X dX11_layNight_k7.2.1.1.2 4 rfl ?_
        refine k_get (ci := 11) X inlX11 rfl 15 (nlt_e rfl) dX11_layNight_k7.2.1.2.1 mw170 9 rfl rfl ?_
        refine k_iconst (v := 0) X dX11_layNight_k7.2.1.2.2 ic_0 ?_
        refine k_iald X dX11_layNight_k7.2.2.1.1 10 rfl (by unfold vp_in; decide) ?_
        refine k_nm (fun z_103 ez_103 => ?_)
        refine k_iadd X dX11_layNight_k7.2.2.1.2 ?_
        refine k_nm (fun z_104 ez_104 => ?_)
        refine k_iload X dX11_layNight_k7.2.2.2.1 1 rfl ?_
        refine k_callSI (n := 2) (As := [.int z_104, .int r_31]) (st := [.int u_20, .ref a_changeFrame]) X [] [(cAI g a_begin 8 uf_12), (cAI g a_motor 8 uf_18), (cAI g a_change 8 uf_14), (cAI g a_startFrame 8 (upd (upd uf_19 (u_20 : Int32).toNatClampNeg (-2)) (u_20 : Int32).toNatClampNeg r_100)), (cAI g a_changeFrame 8 (upd uf_15 (u_20 : Int32).toNatClampNeg r_31)), (cAI g a_lostAt 8 uf_17), (cAI g a_blackAt 8 uf_13), (cAI g a_slips 8 d_slips), (cAI g a_from 8 uf_16), (cO11_i1r1i10r1i2r5i2r12i3r4i2 h0 m_thrown a_tape m_taped m_size m_at m_end m_token m_whole m_nameSize m_fault m_place m_trouble a_letters m_failed m_hasHouse a_r a_fresh a_st a_undone a_kept m_undos m_images a_from a_begin a_motor a_change a_startFrame a_changeFrame a_lostAt a_blackAt a_slips a_leftArc a_died a_arcs m_bestSum m_nearest m_nearestTown a_there a_backAt a_sorted a_parts m_seed1 m_darkNow), (cAI g a_r 311 d_r), (cAI g a_st 44 d_st)] [] [0, 1, 2, 3, 4, 5, 6, 7, 8, 9, 10, 11] (m_leastX l g z_104 r_31) dX11_layNight_k7.2.2.2.2 mw839 mw840 mw5 mw841 yk_yX11_least_2 rfl (Nat.le_of_ble_eq_true rfl) (Nat.le_of_ble_eq_true rfl) (Nat.le_of_ble_eq_true rfl) (Nat.le_of_ble_eq_true rfl) (Nat.le_of_ble_eq_true rfl) rfl rfl (by decide +kernel) rfl (by decide +kernel) (by decide +kernel) ?_
        rintro r_106 w ⟨hq_107, rfl⟩
        refine k_ws [(cAI g a_begin 8 uf_12), (cAI g a_motor 8 uf_18), (cAI g a_change 8 uf_14), (cAI g a_startFrame 8 (upd (upd uf_19 (u_20 : Int32).toNatClampNeg (-2)) (u_20 : Int32).toNatClampNeg r_100)), (cAI g a_changeFrame 8 (upd uf_15 (u_20 : Int32).toNatClampNeg r_31)), (cAI g a_lostAt 8 uf_17), (cAI g a_blackAt 8 uf_13), (cAI g a_slips 8 d_slips), (cAI g a_from 8 uf_16), (cO11_i1r1i10r1i2r5i2r12i3r4i2 h0 m_thrown a_tape m_taped m_size m_at m_end m_token m_whole m_nameSize m_fault m_place m_trouble a_letters m_failed m_hasHouse a_r a_fresh a_st a_undone a_kept m_undos m_images a_from a_begin a_motor a_change a_startFrame a_changeFrame a_lostAt a_blackAt a_slips a_leftArc a_died a_arcs m_bestSum m_nearest m_nearestTown a_there a_backAt a_sorted a_parts m_seed1 m_darkNow), (cAI g a_r 311 d_r), (cAI g a_st 44 d_st)] rfl ?_
        refine k_iast [(cAI g a_begin 8 uf_12), (cAI g a_motor 8 uf_18), (cAI g a_change 8 uf_14), (cAI g a_startFrame 8 (upd (upd uf_19 (u_20 : Int32).toNatClampNeg (-2)) (u_20 : Int32).toNatClampNeg r_100)), (cAI g a_changeFrame 8 (upd (upd uf_15 (u_20 : Int32).toNatClampNeg r_31) (u_20 : Int32).toNatClampNeg r_106)), (cAI g a_lostAt 8 uf_17), (cAI g a_blackAt 8 uf_13), (cAI g a_slips 8 d_slips), (cAI g a_from 8 uf_16), (cO11_i1r1i10r1i2r5i2r12i3r4i2 h0 m_thrown a_tape m_taped m_size m_at m_end m_token m_whole m_nameSize m_fault m_place m_trouble a_letters m_failed m_hasHouse a_r a_fresh a_st a_undone a_kept m_undos m_images a_from a_begin a_motor a_change a_startFrame a_changeFrame a_lostAt a_blackAt a_slips a_leftArc a_died a_arcs m_bestSum m_nearest m_nearestTown a_there a_backAt a_sorted a_parts m_seed1 m_darkNow), (cAI g a_r 311 d_r), (cAI g a_st 44 d_st)] X dX11_layNight_k8.1.1.1.1 4 rfl (iv_in iv_87 (zle_e rfl) (zle_l rfl)) rfl ?_
        refine k_aload_n X dX11_layNight_k8.1.1.1.2 4 rfl ?_
        refine k_get (ci := 11) X inlX11 rfl 25 (nlt_e rfl) dX11_layNight_k8.1.1.2.1 mw178 9 rfl rfl ?_
        refine k_iload_n X dX11_layNight_k8.1.1.2.2 2 rfl ?_
        refine k_aload_n X dX11_layNight_k8.1.2.1.1 4 rfl ?_
        refine k_get (ci := 11) X inlX11 rfl 23 (nlt_e rfl) dX11_layNight_k8.1.2.1.2 mw176 9 rfl rfl ?_
        refine k_iload_n X dX11_layNight_k8.1.2.2.1 2 rfl ?_
        refine k_iald X dX11_layNight_k8.1.2.2.2 0 rfl (iv_in iv_87 (zle_e rfl) (zle_l rfl)) ?_
        refine k_nm (fun z_109 ez_109 => ?_)
        refine k_aload_n X dX11_layNight_k8.2.1.1.1 4 rfl ?_
        refine k_get (ci := 11) X inlX11 rfl 27 (nlt_e rfl) dX11_layNight_k8.2.1.1.2 mw180 9 rfl rfl ?_
        refine k_iload_n X dX11_layNight_k8.2.1.2.1 2 rfl ?_
        refine k_iald X dX11_layNight_k8.2.1.2.2 4 rfl (iv_in iv_87 (zle_e rfl) (zle_l rfl)) ?_
        refine k_to r_106 upd_at ?_
        refine k_iadd X dX11_layNight_k8.2.2.1.1 ?_
        refine k_nm (fun z_110 ez_110 => ?_)
        refine k_aload_n X dX11_layNight_k8.2.2.1.2 4 rfl ?_
        refine k_get (ci := 11) X inlX11 rfl 22 (nlt_e rfl) dX11_layNight_k8.2.2.2.1 mw175 9 rfl rfl ?_
        refine k_iload_n X dX11_layNight_k8.2.2.2.2 2 rfl ?_
        refine k_iald X dX11_layNight_k9.1.1.1.1 8 rfl (iv_in iv_87 (zle_e rfl) (zle_l rfl)) ?_
        refine k_to z_99 ez_99.symm ?_
        refine k_isub X dX11_layNight_k9.1.1.1.2 ?_
        refine k_nm (fun z_112 ez_112 => ?_)
        refine k_iast [(cAI g a_begin 8 uf_12), (cAI g a_motor 8 uf_18), (cAI g a_change 8 (upd uf_14 (u_20 : Int32).toNatClampNeg z_112)), (cAI g a_startFrame 8 (upd (upd uf_19 (u_20 : Int32).toNatClampNeg (-2)) (u_20 : Int32).toNatClampNeg r_100)), (cAI g a_changeFrame 8 (upd (upd uf_15 (u_20 : Int32).toNatClampNeg r_31) (u_20 : Int32).toNatClampNeg r_106)), (cAI g a_lostAt 8 uf_17), (cAI g a_blackAt 8 uf_13), (cAI g a_slips 8 d_slips), (cAI g a_from 8 uf_16), (cO11_i1r1i10r1i2r5i2r12i3r4i2 h0 m_thrown a_tape m_taped m_size m_at m_end m_token m_whole m_nameSize m_fault m_place m_trouble a_letters m_failed m_hasHouse a_r a_fresh a_st a_undone a_kept m_undos m_images a_from a_begin a_motor a_change a_startFrame a_changeFrame a_lostAt a_blackAt a_slips a_leftArc a_died a_arcs m_bestSum m_nearest m_nearestTown a_there a_backAt a_sorted a_parts m_seed1 m_darkNow), (cAI g a_r 311 d_r), (cAI g a_st 44 d_st)] X dX11_layNight_k9.1.1.2.1 2 rfl (iv_in iv_87 (zle_e rfl) (zle_l rfl)) rfl ?_
        refine k_iload_n X dX11_layNight_k9.1.1.2.2 2 rfl ?_
        refine k_iload_n X dX11_layNight_k9.1.2.1.1 3 rfl ?_
        refine k_ic_ge 296 X dX11_layNight_k9.1.2.1.2 (jp_e rfl) (fun h_115 => ?_) (fun h_115 => ?_)
        · skip
          have j_116 : z_4.toInt ≤ u_20.toInt := iv_le h_115
          have iv_117 : IV z_4 1 6 := iv_leL (iv_le h_115) iv_88 iv_87 (zle_e rfl)
          have iv_118 : IV z_1 2 7 := by have := iv_89; have := iv_117; rw [IV]; omega
          have iv_119 : IV u_20 1 6 := iv_leR (iv_le h_115) iv_88 iv_87 (zle_e rfl)
          obtain ⟨z_120, ez_120⟩ : ∃ y : Int32, u_20 + Int32.ofInt 1 = y := ⟨_, rfl⟩
          refine k_iinc z_120 [(3, .int z_120), (5, .int r_100), (4, .int r_31), (2, .int z_4), (0, .ref h0), (1, .int p0)] 2 X dX11_layNight_k12.2.1 rfl ez_120 (nlt_e rfl) rfl ?_
          have i_121 : z_120.toInt = u_20.toInt + 1 := in_inc ez_120 (oin_e rfl) iv_119 (zle_e rfl) (zle_e rfl)
          have iv_122 : IV z_120 2 7 := iz1 i_121 iv_119 (zle_e rfl) (zle_e rfl)
          refine k_goto 47 X dX11_layNight_k12.2.2.1 (jp_e rfl) ?_
          refine k_lv [(3, .int z_120), (2, .int z_4), (0, .ref h0), (1, .int p0)] [0, 3, 4, 5] rfl ?_
          refine k_sub [(cO11_i1r1i10r1i2r5i2r12i3r4i2 h0 m_thrown a_tape m_taped m_size m_at m_end m_token m_whole m_nameSize m_fault m_place m_trouble a_letters m_failed m_hasHouse a_r a_fresh a_st a_undone a_kept m_undos m_images a_from a_begin a_motor a_change a_startFrame a_changeFrame a_lostAt a_blackAt a_slips a_leftArc a_died a_arcs m_bestSum m_nearest m_nearestTown a_there a_backAt a_sorted a_parts m_seed1 m_darkNow), (cAI g a_r 311 d_r), (cAI g a_st 44 d_st), (cAI g a_from 8 uf_16), (cAI g a_begin 8 uf_12), (cAI g a_motor 8 uf_18), (cAI g a_change 8 (upd uf_14 (u_20 : Int32).toNatClampNeg z_112)), (cAI g a_startFrame 8 (upd (upd uf_19 (u_20 : Int32).toNatClampNeg (-2)) (u_20 : Int32).toNatClampNeg r_100)), (cAI g a_changeFrame 8 (upd (upd uf_15 (u_20 : Int32).toNatClampNeg r_31) (u_20 : Int32).toNatClampNeg r_106)), (cAI g a_lostAt 8 uf_17), (cAI g a_blackAt 8 uf_13), (cAI g a_slips 8 d_slips)] [9, 10, 11, 8, 0, 1, 2, 3, 4, 5, 6, 7] rfl (by decide) rfl ?_
          exact ih_24 _ (by omega) uf_12 uf_13 ((upd uf_14 (u_20 : Int32).toNatClampNeg z_112)) ((upd (upd uf_15 (u_20 : Int32).toNatClampNeg r_31) (u_20 : Int32).toNatClampNeg r_106)) uf_16 uf_17 uf_18 ((upd (upd uf_19 (u_20 : Int32).toNatClampNeg (-2)) (u_20 : Int32).toNatClampNeg r_100)) z_120 rfl (iv_w iv_122 (zle_e rfl) (zle_e rfl)) (fun d_begin2 d_blackAt2 d_change2 d_changeFrame2 d_from2 d_lostAt2 d_motor2 d_startFrame2 h => h.elim (fun n_0 q => (KH_0 _ _ _ _ _ _ _ _ ⟨n_0 + 1, (Or.inr ⟨h_25, ⟨r_31, hq_32, ⟨r_34, hq_36, (Or.inl ⟨h_37, (Or.inr ⟨h_40, ⟨r_90, hq_91, ⟨z_92, ez_92, ⟨z_93, ez_93, ⟨z_95, ez_95, ⟨r_97, hq_98, ⟨z_99, ez_99, ⟨r_100, hq_101, ⟨z_103, ez_103, ⟨z_104, ez_104, ⟨r_106, hq_107, ⟨z_109, ez_109, ⟨z_110, ez_110, ⟨z_112, ez_112, (Or.inl ⟨h_115, ⟨z_120, ez_120, q⟩⟩)⟩⟩⟩⟩⟩⟩⟩⟩⟩⟩⟩⟩⟩⟩)⟩)⟩⟩⟩)⟩)))
        · skip
          have j_123 : u_20.toInt < z_4.toInt := iv_nle h_115
          refine k_aload_n X dX11_layNight_k9.1.2.2.1 4 rfl ?_
          refine k_iload_n X dX11_layNight_k9.1.2.2.2 2 rfl ?_
          refine k_aload_n X dX11_layNight_k9.2.1.1.1 4 rfl ?_
          refine k_get (ci := 11) X inlX11 rfl 23 (nlt_e rfl) dX11_layNight_k9.2.1.1.2 mw176 9 rfl rfl ?_
          refine k_iload_n X dX11_layNight_k9.2.1.2.1 2 rfl ?_
          refine k_iald X dX11_layNight_k9.2.1.2.2 0 rfl (iv_in iv_87 (zle_e rfl) (zle_l rfl)) ?_
          refine k_to z_109 ez_109.symm ?_
          refine k_aload_n X dX11_layNight_k9.2.2.1.1 4 rfl ?_
          refine k_get (ci := 11) X inlX11 rfl 26 (nlt_e rfl) dX11_layNight_k9.2.2.1.2 mw179 9 rfl rfl ?_
          refine k_iload_n X dX11_layNight_k9.2.2.2.1 2 rfl ?_
          refine k_iald X dX11_layNight_k9.2.2.2.2 3 rfl (iv_in iv_87 (zle_e rfl) (zle_l rfl)) ?_
          refine k_to r_100 upd_at ?_
          refine k_iadd X dX11_layNight_k10.1.1.1.1 ?_
          refine k_nm (fun z_124 ez_124 => ?_)
          refine k_aload_n X dX11_layNight_k10.1.1.1.2 4 rfl ?_
          refine k_get (ci := 11) X inlX11 rfl 22 (nlt_e rfl) dX11_layNight_k10.1.1.2.1 mw175 9 rfl rfl ?_
          refine k_iload_n X dX11_layNight_k10.1.1.2.2 2 rfl ?_
          refine k_iald X dX11_layNight_k10.1.2.1.1 8 rfl (iv_in iv_87 (zle_e rfl) (zle_l rfl)) ?_
          refine k_to z_99 ez_99.symm ?_
          refine k_isub X dX11_layNight_k10.1.2.1.2 ?_
          refine k_nm (fun z_126 ez_126 => ?_)
          refine k_aload_n X dX11_layNight_k10.1.2.2.1 4 rfl ?_
          refine k_get (ci := 11) X inlX11 rfl 25 (nlt_e rfl) dX11_layNight_k10.1.2.2.2 mw178 9 rfl rfl ?_
          refine k_iload_n X dX11_layNight_k10.2.1.1.1 2 rfl ?_
          refine k_iald X dX11_layNight_k10.2.1.1.2 2 rfl (iv_in iv_87 (zle_e rfl) (zle_l rfl)) ?_
          refine k_to z_112 upd_at ?_
          refine k_aload_n X dX11_layNight_k10.2.1.2.1 4 rfl ?_
          refine k_get (ci := 11) X inlX11 rfl 27 (nlt_e rfl) dX11_layNight_k10.2.1.2.2 mw180 9 rfl rfl ?_
          refine k_iload_n X dX11_layNight_k10.2.2.1.1 2 rfl ?_
          refine k_iald X dX11_layNight_k10.2.2.1.2 4 rfl (iv_in iv_87 (zle_e rfl) (zle_l rfl)) ?_
          refine k_to r_106 upd_at ?_
          refine k_aload_n X dX11_layNight_k10.2.2.2.1 4 rfl ?_
          refine k_get (ci := 11) X inlX11 rfl 26 (nlt_e rfl) dX11_layNight_k10.2.2.2.2 mw179 9 rfl rfl ?_
          refine k_iload_n X dX11_layNight_k11.1.1.1.1 2 rfl ?_
          refine k_iald X dX11_layNight_k11.1.1.1.2 3 rfl (iv_in iv_87 (zle_e rfl) (zle_l rfl)) ?_
          refine k_to r_100 upd_at ?_
          refine k_isub X dX11_layNight_k11.1.1.2.1 ?_
          refine k_nm (fun z_128 ez_128 => ?_)
          refine k_aload_n X dX11_layNight_k11.1.1.2.2 4 rfl ?_
          refine k_get (ci := 11) X inlX11 rfl 15 (nlt_e rfl) dX11_layNight_k11.1.2.1.1 mw170 9 rfl rfl ?_
          refine k_iconst (v := 1) X dX11_layNight_k11.1.2.1.2 ic_1 ?_
          refine k_iald X dX11_layNight_k11.1.2.2.1 10 rfl (by unfold vp_in; decide) ?_
          refine k_nm (fun z_130 ez_130 => ?_)
          refine k_isub X dX11_layNight_k11.1.2.2.2 ?_
          refine k_nm (fun z_131 ez_131 => ?_)
          refine k_aload_n X dX11_layNight_k11.2.1.1.1 4 rfl ?_
          refine k_get (ci := 11) X inlX11 rfl 17 (nlt_e rfl) dX11_layNight_k11.2.1.1.2 mw172 9 rfl rfl ?_
          refine k_bipush (v := 34) X dX11_layNight_k11.2.1.2.1 bi_34 ?_
          refine k_iload_n X dX11_layNight_k11.2.1.2.2 2 rfl ?_
          refine k_iadd X dX11_layNight_k11.2.2.1.1 ?_
          refine k_nm (fun z_133 ez_133 => ?_)
          have i_134 : z_133.toInt = 34 + u_20.toInt := in_add ez_133 iq_34_34_34 iv_87 (zle_e rfl) (zle_e rfl)
          have iv_135 : IV z_133 34 40 := iz2 i_134 iv_87 (zle_e rfl) (zle_e rfl)
          refine k_iconst (v := 1) X dX11_layNight_k11.2.2.1.2 ic_1 ?_
          refine k_iadd X dX11_layNight_k11.2.2.2.1 ?_
          refine k_nm (fun z_136 ez_136 => ?_)
          have i_137 : z_136.toInt = z_133.toInt + 1 := in_add ez_136 iv_135 iq_1_1_1 (zle_e rfl) (zle_e rfl)
          have iv_138 : IV z_136 35 41 := iz1 i_137 iv_135 (zle_e rfl) (zle_e rfl)
          refine k_iald X dX11_layNight_k11.2.2.2.2 11 rfl (iv_in iv_138 (zle_e rfl) (zle_l rfl)) ?_
          refine k_nm (fun z_139 ez_139 => ?_)
          refine k_isub X dX11_layNight_k12.1.1 ?_
          refine k_nm (fun z_140 ez_140 => ?_)
          refine k_iconst (v := 0) X dX11_layNight_k12.1.2.1 ic_0 ?_
          refine k_callVV (n := 5) (As := [.int u_20, .int z_126, .int z_112, .int z_140, .int 0]) (st := []) X [(cO11_i1r1i10r1i2r5i2r12i3r4i2 h0 m_thrown a_tape m_taped m_size m_at m_end m_token m_whole m_nameSize m_fault m_place m_trouble a_letters m_failed m_hasHouse a_r a_fresh a_st a_undone a_kept m_undos m_images a_from a_begin a_motor a_change a_startFrame a_changeFrame a_lostAt a_blackAt a_slips a_leftArc a_died a_arcs m_bestSum m_nearest m_nearestTown a_there a_backAt a_sorted a_parts m_seed1 m_darkNow), (cAI g a_from 8 uf_16), (cAI g a_begin 8 uf_12), (cAI g a_motor 8 uf_18), (cAI g a_lostAt 8 uf_17), (cAI g a_blackAt 8 uf_13)] [(cAI g a_change 8 (upd uf_14 (u_20 : Int32).toNatClampNeg z_112)), (cAI g a_startFrame 8 (upd (upd uf_19 (u_20 : Int32).toNatClampNeg (-2)) (u_20 : Int32).toNatClampNeg r_100)), (cAI g a_changeFrame 8 (upd (upd uf_15 (u_20 : Int32).toNatClampNeg r_31) (u_20 : Int32).toNatClampNeg r_106)), (cAI g a_slips 8 d_slips), (cAI g a_r 311 d_r), (cAI g a_st 44 d_st)] [9, 8, 0, 1, 5, 6] [2, 3, 4, 7, 10, 11] (m_followsX l g h0 u_20 z_126 z_112 z_140 0 m_thrown a_tape m_taped m_size m_at m_end m_token m_whole m_nameSize m_fault m_place m_trouble a_letters m_failed m_hasHouse a_r a_fresh a_st a_undone a_kept m_undos m_images a_from a_begin a_motor a_change a_startFrame a_changeFrame a_lostAt a_blackAt a_slips a_leftArc a_died a_arcs m_bestSum m_nearest m_nearestTown a_there a_backAt a_sorted a_parts m_seed1 m_darkNow uf_16 uf_12 uf_18 uf_17 uf_13 (iv_w iv_87 (zle_e rfl) (zle_e rfl))) dX11_layNight_k12.1.2.2 mw831 mw832 mw833 mw5 mw834 rfl 11 rfl rfl 0 _ rfl yk_yX11_follows_5 rfl (Nat.le_of_ble_eq_true rfl) (Nat.le_of_ble_eq_true rfl) (Nat.le_of_ble_eq_true rfl) (Nat.le_of_ble_eq_true rfl) (Nat.le_of_ble_eq_true rfl) rfl rfl (by decide +kernel) rfl (by decide +kernel) (by decide +kernel) ?_
          rintro w ⟨d_begin2_142, d_blackAt2_143, d_from2_144, d_lostAt2_145, d_motor2_146, hq_148, rfl⟩
          refine k_ws [(cAI g a_change 8 (upd uf_14 (u_20 : Int32).toNatClampNeg z_112)), (cAI g a_startFrame 8 (upd (upd uf_19 (u_20 : Int32).toNatClampNeg (-2)) (u_20 : Int32).toNatClampNeg r_100)), (cAI g a_changeFrame 8 (upd (upd uf_15 (u_20 : Int32).toNatClampNeg r_31) (u_20 : Int32).toNatClampNeg r_106)), (cAI g a_slips 8 d_slips), (cAI g a_r 311 d_r), (cAI g a_st 44 d_st), (cO11_i1r1i10r1i2r5i2r12i3r4i2 h0 m_thrown a_tape m_taped m_size m_at m_end m_token m_whole m_nameSize m_fault m_place m_trouble a_letters m_failed m_hasHouse a_r a_fresh a_st a_undone a_kept m_undos m_images a_from a_begin a_motor a_change a_startFrame a_changeFrame a_lostAt a_blackAt a_slips a_leftArc a_died a_arcs m_bestSum m_nearest m_nearestTown a_there a_backAt a_sorted a_parts m_seed1 m_darkNow), (cAI g a_from 8 d_from2_144), (cAI g a_begin 8 d_begin2_142), (cAI g a_motor 8 d_motor2_146), (cAI g a_lostAt 8 d_lostAt2_145), (cAI g a_blackAt 8 d_blackAt2_143)] rfl ?_
          obtain ⟨z_149, ez_149⟩ : ∃ y : Int32, u_20 + Int32.ofInt 1 = y := ⟨_, rfl⟩
          refine k_iinc z_149 [(3, .int z_149), (5, .int r_100), (4, .int r_31), (2, .int z_4), (0, .ref h0), (1, .int p0)] 2 X dX11_layNight_k12.2.1 rfl ez_149 (nlt_e rfl) rfl ?_
          have i_150 : z_149.toInt = u_20.toInt + 1 := in_inc ez_149 (oin_e rfl) iv_87 (zle_e rfl) (zle_e rfl)
          have iv_151 : IV z_149 1 7 := iz1 i_150 iv_87 (zle_e rfl) (zle_e rfl)
          refine k_goto 47 X dX11_layNight_k12.2.2.1 (jp_e rfl) ?_
          refine k_lv [(3, .int z_149), (2, .int z_4), (0, .ref h0), (1, .int p0)] [0, 3, 4, 5] rfl ?_
          refine k_sub [(cO11_i1r1i10r1i2r5i2r12i3r4i2 h0 m_thrown a_tape m_taped m_size m_at m_end m_token m_whole m_nameSize m_fault m_place m_trouble a_letters m_failed m_hasHouse a_r a_fresh a_st a_undone a_kept m_undos m_images a_from a_begin a_motor a_change a_startFrame a_changeFrame a_lostAt a_blackAt a_slips a_leftArc a_died a_arcs m_bestSum m_nearest m_nearestTown a_there a_backAt a_sorted a_parts m_seed1 m_darkNow), (cAI g a_r 311 d_r), (cAI g a_st 44 d_st), (cAI g a_from 8 d_from2_144), (cAI g a_begin 8 d_begin2_142), (cAI g a_motor 8 d_motor2_146), (cAI g a_change 8 (upd uf_14 (u_20 : Int32).toNatClampNeg z_112)), (cAI g a_startFrame 8 (upd (upd uf_19 (u_20 : Int32).toNatClampNeg (-2)) (u_20 : Int32).toNatClampNeg r_100)), (cAI g a_changeFrame 8 (upd (upd uf_15 (u_20 : Int32).toNatClampNeg r_31) (u_20 : Int32).toNatClampNeg r_106)), (cAI g a_lostAt 8 d_lostAt2_145), (cAI g a_blackAt 8 d_blackAt2_143), (cAI g a_slips 8 d_slips)] [6, 4, 5, 7, 8, 9, 0, 1, 2, 10, 11, 3] rfl (by decide) rfl ?_
          exact ih_24 _ (by omega) d_begin2_142 d_blackAt2_143 ((upd uf_14 (u_20 : Int32).toNatClampNeg z_112)) ((upd (upd uf_15 (u_20 : Int32).toNatClampNeg r_31) (u_20 : Int32).toNatClampNeg r_106)) d_from2_144 d_lostAt2_145 d_motor2_146 ((upd (upd uf_19 (u_20 : Int32).toNatClampNeg (-2)) (u_20 : Int32).toNatClampNeg r_100)) z_149 rfl (iv_w iv_151 (zle_e rfl) (zle_e rfl)) (fun d_begin2 d_blackAt2 d_change2 d_changeFrame2 d_from2 d_lostAt2 d_motor2 d_startFrame2 h => h.elim (fun n_0 q => (KH_0 _ _ _ _ _ _ _ _ ⟨n_0 + 1, (Or.inr ⟨h_25, ⟨r_31, hq_32, ⟨r_34, hq_36, (Or.inl ⟨h_37, (Or.inr ⟨h_40, ⟨r_90, hq_91, ⟨z_92, ez_92, ⟨z_93, ez_93, ⟨z_95, ez_95, ⟨r_97, hq_98, ⟨z_99, ez_99, ⟨r_100, hq_101, ⟨z_103, ez_103, ⟨z_104, ez_104, ⟨r_106, hq_107, ⟨z_109, ez_109, ⟨z_110, ez_110, ⟨z_112, ez_112, (Or.inr ⟨h_115, ⟨z_124, ez_124, ⟨z_126, ez_126, ⟨z_128, ez_128, ⟨z_130, ez_130, ⟨z_131, ez_131, ⟨z_133, ez_133, ⟨z_136, ez_136, ⟨z_139, ez_139, ⟨z_140, ez_140, ⟨d_begin2_142, d_blackAt2_143, d_from2_144, d_lostAt2_145, d_motor2_146, hq_148, ⟨z_149, ez_149, q⟩⟩⟩⟩⟩⟩⟩⟩⟩⟩⟩⟩)⟩⟩⟩⟩⟩⟩⟩⟩⟩⟩⟩⟩⟩⟩)⟩)⟩⟩⟩)⟩)))
    · skip
      have iv_152 : IV r_34 1 1 := iv_neL h_37 iv_35 iq_0_0_0 (zle_e rfl)
      refine k_aload_n X dX11_layNight_k3.1.1.2.1 3 rfl ?_
      refine k_get (ci := 11) X inlX11 rfl 28 (nlt_e rfl) dX11_layNight_k3.1.1.2.2 mw181 8 rfl rfl ?_
      refine k_iload_n X dX11_layNight_k3.1.2.1.1 1 rfl ?_
      refine k_iload X dX11_layNight_k3.1.2.1.2 0 rfl ?_
      refine k_iast [(cAI g a_begin 8 uf_12), (cAI g a_motor 8 uf_18), (cAI g a_change 8 uf_14), (cAI g a_startFrame 8 (upd uf_19 (u_20 : Int32).toNatClampNeg (-2))), (cAI g a_changeFrame 8 uf_15), (cAI g a_lostAt 8 (upd uf_17 (u_20 : Int32).toNatClampNeg r_31)), (cAI g a_blackAt 8 uf_13), (cAI g a_slips 8 d_slips), (cO11_i1r1i10r1i2r5i2r12i3r4i2 h0 m_thrown a_tape m_taped m_size m_at m_end m_token m_whole m_nameSize m_fault m_place m_trouble a_letters m_failed m_hasHouse a_r a_fresh a_st a_undone a_kept m_undos m_images a_from a_begin a_motor a_change a_startFrame a_changeFrame a_lostAt a_blackAt a_slips a_leftArc a_died a_arcs m_bestSum m_nearest m_nearestTown a_there a_backAt a_sorted a_parts m_seed1 m_darkNow), (cAI g a_r 311 d_r), (cAI g a_st 44 d_st), (cAI g a_from 8 uf_16)] X dX11_layNight_k3.1.2.2.1 5 rfl (iv_in iv_28 (zle_e rfl) (zle_l rfl)) rfl ?_
      refine k_aload_n X dX11_layNight_k3.1.2.2.2 3 rfl ?_
      refine k_get (ci := 11) X inlX11 rfl 27 (nlt_e rfl) dX11_layNight_k3.2.1.1.1 mw180 8 rfl rfl ?_
      refine k_iload_n X dX11_layNight_k3.2.1.1.2 1 rfl ?_
      refine k_iconst (v := 0) X dX11_layNight_k3.2.1.2.1 ic_0 ?_
      refine k_iast [(cAI g a_begin 8 uf_12), (cAI g a_motor 8 uf_18), (cAI g a_change 8 uf_14), (cAI g a_startFrame 8 (upd uf_19 (u_20 : Int32).toNatClampNeg (-2))), (cAI g a_changeFrame 8 (upd uf_15 (u_20 : Int32).toNatClampNeg 0)), (cAI g a_lostAt 8 (upd uf_17 (u_20 : Int32).toNatClampNeg r_31)), (cAI g a_blackAt 8 uf_13), (cAI g a_slips 8 d_slips), (cO11_i1r1i10r1i2r5i2r12i3r4i2 h0 m_thrown a_tape m_taped m_size m_at m_end m_token m_whole m_nameSize m_fault m_place m_trouble a_letters m_failed m_hasHouse a_r a_fresh a_st a_undone a_kept m_undos m_images a_from a_begin a_motor a_change a_startFrame a_changeFrame a_lostAt a_blackAt a_slips a_leftArc a_died a_arcs m_bestSum m_nearest m_nearestTown a_there a_backAt a_sorted a_parts m_seed1 m_darkNow), (cAI g a_r 311 d_r), (cAI g a_st 44 d_st), (cAI g a_from 8 uf_16)] X dX11_layNight_k3.2.1.2.2 4 rfl (iv_in iv_28 (zle_e rfl) (zle_l rfl)) rfl ?_
      refine k_aload_n X dX11_layNight_k3.2.2.1.1 3 rfl ?_
      refine k_get (ci := 11) X inlX11 rfl 25 (nlt_e rfl) dX11_layNight_k3.2.2.1.2 mw178 8 rfl rfl ?_
      refine k_iload_n X dX11_layNight_k3.2.2.2.1 1 rfl ?_
      refine k_aload_n X dX11_layNight_k3.2.2.2.2 3 rfl ?_
      refine k_get (ci := 11) X inlX11 rfl 23 (nlt_e rfl) dX11_layNight_k4.1.1.1.1 mw176 8 rfl rfl ?_
      refine k_iload_n X dX11_layNight_k4.1.1.1.2 1 rfl ?_
      refine k_iald X dX11_layNight_k4.1.1.2.1 0 rfl (iv_in iv_28 (zle_e rfl) (zle_l rfl)) ?_
      refine k_nm (fun z_155 ez_155 => ?_)
      refine k_iast [(cAI g a_begin 8 uf_12), (cAI g a_motor 8 uf_18), (cAI g a_change 8 (upd uf_14 (u_20 : Int32).toNatClampNeg z_155)), (cAI g a_startFrame 8 (upd uf_19 (u_20 : Int32).toNatClampNeg (-2))), (cAI g a_changeFrame 8 (upd uf_15 (u_20 : Int32).toNatClampNeg 0)), (cAI g a_lostAt 8 (upd uf_17 (u_20 : Int32).toNatClampNeg r_31)), (cAI g a_blackAt 8 uf_13), (cAI g a_slips 8 d_slips), (cO11_i1r1i10r1i2r5i2r12i3r4i2 h0 m_thrown a_tape m_taped m_size m_at m_end m_token m_whole m_nameSize m_fault m_place m_trouble a_letters m_failed m_hasHouse a_r a_fresh a_st a_undone a_kept m_undos m_images a_from a_begin a_motor a_change a_startFrame a_changeFrame a_lostAt a_blackAt a_slips a_leftArc a_died a_arcs m_bestSum m_nearest m_nearestTown a_there a_backAt a_sorted a_parts m_seed1 m_darkNow), (cAI g a_r 311 d_r), (cAI g a_st 44 d_st), (cAI g a_from 8 uf_16)] X dX11_layNight_k4.1.1.2.2 2 rfl (iv_in iv_28 (zle_e rfl) (zle_l rfl)) rfl ?_
      refine k_iload_n X dX11_layNight_k4.1.2.1.1 1 rfl ?_
      refine k_iload_n X dX11_layNight_k4.1.2.1.2 2 rfl ?_
      refine k_ic_ge 296 X dX11_layNight_k4.1.2.2.1 (jp_e rfl) (fun h_157 => ?_) (fun h_157 => ?_)
      · skip
        have j_158 : z_4.toInt ≤ u_20.toInt := iv_le h_157
        obtain ⟨z_159, ez_159⟩ : ∃ y : Int32, u_20 + Int32.ofInt 1 = y := ⟨_, rfl⟩
        refine k_iinc z_159 [(3, .int z_159), (4, .int r_31), (2, .int z_4), (0, .ref h0), (1, .int p0)] 1 X dX11_layNight_k12.2.1 rfl ez_159 (nlt_e rfl) rfl ?_
        have i_160 : z_159.toInt = u_20.toInt + 1 := in_inc ez_159 (oin_e rfl) iv_28 (zle_e rfl) (zle_e rfl)
        have iv_161 : IV z_159 1 8 := iz1 i_160 iv_28 (zle_e rfl) (zle_e rfl)
        refine k_goto 47 X dX11_layNight_k12.2.2.1 (jp_e rfl) ?_
        refine k_lv [(3, .int z_159), (2, .int z_4), (0, .ref h0), (1, .int p0)] [0, 2, 3, 4] rfl ?_
        refine k_sub [(cO11_i1r1i10r1i2r5i2r12i3r4i2 h0 m_thrown a_tape m_taped m_size m_at m_end m_token m_whole m_nameSize m_fault m_place m_trouble a_letters m_failed m_hasHouse a_r a_fresh a_st a_undone a_kept m_undos m_images a_from a_begin a_motor a_change a_startFrame a_changeFrame a_lostAt a_blackAt a_slips a_leftArc a_died a_arcs m_bestSum m_nearest m_nearestTown a_there a_backAt a_sorted a_parts m_seed1 m_darkNow), (cAI g a_r 311 d_r), (cAI g a_st 44 d_st), (cAI g a_from 8 uf_16), (cAI g a_begin 8 uf_12), (cAI g a_motor 8 uf_18), (cAI g a_change 8 (upd uf_14 (u_20 : Int32).toNatClampNeg z_155)), (cAI g a_startFrame 8 (upd uf_19 (u_20 : Int32).toNatClampNeg (-2))), (cAI g a_changeFrame 8 (upd uf_15 (u_20 : Int32).toNatClampNeg 0)), (cAI g a_lostAt 8 (upd uf_17 (u_20 : Int32).toNatClampNeg r_31)), (cAI g a_blackAt 8 uf_13), (cAI g a_slips 8 d_slips)] [8, 9, 10, 11, 0, 1, 2, 3, 4, 5, 6, 7] rfl (by decide) rfl ?_
        exact ih_24 _ (by omega) uf_12 uf_13 ((upd uf_14 (u_20 : Int32).toNatClampNeg z_155)) ((upd uf_15 (u_20 : Int32).toNatClampNeg 0)) uf_16 ((upd uf_17 (u_20 : Int32).toNatClampNeg r_31)) uf_18 ((upd uf_19 (u_20 : Int32).toNatClampNeg (-2))) z_159 rfl (iv_w iv_161 (zle_e rfl) (zle_e rfl)) (fun d_begin2 d_blackAt2 d_change2 d_changeFrame2 d_from2 d_lostAt2 d_motor2 d_startFrame2 h => h.elim (fun n_0 q => (KH_0 _ _ _ _ _ _ _ _ ⟨n_0 + 1, (Or.inr ⟨h_25, ⟨r_31, hq_32, ⟨r_34, hq_36, (Or.inr ⟨h_37, ⟨z_155, ez_155, (Or.inl ⟨h_157, ⟨z_159, ez_159, q⟩⟩)⟩⟩)⟩⟩⟩)⟩)))
      · skip
        have j_162 : u_20.toInt < z_4.toInt := iv_nle h_157
        have iv_163 : IV u_20 0 6 := iv_ltL (iv_nle h_157) iv_28 iv_29 (zle_e rfl)
        have iv_164 : IV z_4 1 7 := iv_ltR (iv_nle h_157) iv_28 iv_29 (zle_e rfl)
        have iv_165 : IV z_1 2 8 := by have := iv_30; have := iv_164; rw [IV]; omega
        refine k_aload_n X dX11_layNight_k4.1.2.2.2 3 rfl ?_
        refine k_iload_n X dX11_layNight_k4.2.1.1.1 1 rfl ?_
        refine k_aload_n X dX11_layNight_k4.2.1.1.2 3 rfl ?_
        refine k_get (ci := 11) X inlX11 rfl 25 (nlt_e rfl) dX11_layNight_k4.2.1.2.1 mw178 8 rfl rfl ?_
        refine k_iload_n X dX11_layNight_k4.2.1.2.2 1 rfl ?_
        refine k_iald X dX11_layNight_k4.2.2.1.1 2 rfl (iv_in iv_163 (zle_e rfl) (zle_l rfl)) ?_
        refine k_to z_155 upd_at ?_
        refine k_aload_n X dX11_layNight_k4.2.2.1.2 3 rfl ?_
        refine k_get (ci := 11) X inlX11 rfl 25 (nlt_e rfl) dX11_layNight_k4.2.2.2.1 mw178 8 rfl rfl ?_
        refine k_iload_n X dX11_layNight_k4.2.2.2.2 1 rfl ?_
        refine k_iald X dX11_layNight_k5.1.1.1.1 2 rfl (iv_in iv_163 (zle_e rfl) (zle_l rfl)) ?_
        refine k_to z_155 upd_at ?_
        refine k_iconst (v := 0) X dX11_layNight_k5.1.1.1.2 ic_0 ?_
        refine k_iconst (v := 1) X dX11_layNight_k5.1.1.2.1 ic_1 ?_
        refine k_callVV (n := 5) (As := [.int u_20, .int z_155, .int z_155, .int 0, .int 1]) (st := []) X [(cO11_i1r1i10r1i2r5i2r12i3r4i2 h0 m_thrown a_tape m_taped m_size m_at m_end m_token m_whole m_nameSize m_fault m_place m_trouble a_letters m_failed m_hasHouse a_r a_fresh a_st a_undone a_kept m_undos m_images a_from a_begin a_motor a_change a_startFrame a_changeFrame a_lostAt a_blackAt a_slips a_leftArc a_died a_arcs m_bestSum m_nearest m_nearestTown a_there a_backAt a_sorted a_parts m_seed1 m_darkNow), (cAI g a_from 8 uf_16), (cAI g a_begin 8 uf_12), (cAI g a_motor 8 uf_18), (cAI g a_lostAt 8 (upd uf_17 (u_20 : Int32).toNatClampNeg r_31)), (cAI g a_blackAt 8 uf_13)] [(cAI g a_change 8 (upd uf_14 (u_20 : Int32).toNatClampNeg z_155)), (cAI g a_startFrame 8 (upd uf_19 (u_20 : Int32).toNatClampNeg (-2))), (cAI g a_changeFrame 8 (upd uf_15 (u_20 : Int32).toNatClampNeg 0)), (cAI g a_slips 8 d_slips), (cAI g a_r 311 d_r), (cAI g a_st 44 d_st)] [8, 11, 0, 1, 5, 6] [2, 3, 4, 7, 9, 10] (m_followsX l g h0 u_20 z_155 z_155 0 1 m_thrown a_tape m_taped m_size m_at m_end m_token m_whole m_nameSize m_fault m_place m_trouble a_letters m_failed m_hasHouse a_r a_fresh a_st a_undone a_kept m_undos m_images a_from a_begin a_motor a_change a_startFrame a_changeFrame a_lostAt a_blackAt a_slips a_leftArc a_died a_arcs m_bestSum m_nearest m_nearestTown a_there a_backAt a_sorted a_parts m_seed1 m_darkNow uf_16 uf_12 uf_18 ((upd uf_17 (u_20 : Int32).toNatClampNeg r_31)) uf_13 (iv_w iv_163 (zle_e rfl) (zle_e rfl))) dX11_layNight_k5.1.1.2.2 mw831 mw832 mw833 mw5 mw834 rfl 11 rfl rfl 0 _ rfl yk_yX11_follows_5 rfl (Nat.le_of_ble_eq_true rfl) (Nat.le_of_ble_eq_true rfl) (Nat.le_of_ble_eq_true rfl) (Nat.le_of_ble_eq_true rfl) (Nat.le_of_ble_eq_true rfl) rfl rfl (by decide +kernel) rfl (by decide +kernel) (by decide +kernel) ?_
        rintro w ⟨d_begin2_166, d_blackAt2_167, d_from2_168, d_lostAt2_169, d_motor2_170, hq_172, rfl⟩
        refine k_ws [(cAI g a_change 8 (upd uf_14 (u_20 : Int32).toNatClampNeg z_155)), (cAI g a_startFrame 8 (upd uf_19 (u_20 : Int32).toNatClampNeg (-2))), (cAI g a_changeFrame 8 (upd uf_15 (u_20 : Int32).toNatClampNeg 0)), (cAI g a_slips 8 d_slips), (cAI g a_r 311 d_r), (cAI g a_st 44 d_st), (cO11_i1r1i10r1i2r5i2r12i3r4i2 h0 m_thrown a_tape m_taped m_size m_at m_end m_token m_whole m_nameSize m_fault m_place m_trouble a_letters m_failed m_hasHouse a_r a_fresh a_st a_undone a_kept m_undos m_images a_from a_begin a_motor a_change a_startFrame a_changeFrame a_lostAt a_blackAt a_slips a_leftArc a_died a_arcs m_bestSum m_nearest m_nearestTown a_there a_backAt a_sorted a_parts m_seed1 m_darkNow), (cAI g a_from 8 d_from2_168), (cAI g a_begin 8 d_begin2_166), (cAI g a_motor 8 d_motor2_170), (cAI g a_lostAt 8 d_lostAt2_169), (cAI g a_blackAt 8 d_blackAt2_167)] rfl ?_
        refine k_goto 296 X dX11_layNight_k5.1.2.1.1 (jp_e rfl) ?_
        obtain ⟨z_173, ez_173⟩ : ∃ y : Int32, u_20 + Int32.ofInt 1 = y := ⟨_, rfl⟩
        refine k_iinc z_173 [(3, .int z_173), (4, .int r_31), (2, .int z_4), (0, .ref h0), (1, .int p0)] 1 X dX11_layNight_k12.2.1 rfl ez_173 (nlt_e rfl) rfl ?_
        have i_174 : z_173.toInt = u_20.toInt + 1 := in_inc ez_173 (oin_e rfl) iv_163 (zle_e rfl) (zle_e rfl)
        have iv_175 : IV z_173 1 7 := iz1 i_174 iv_163 (zle_e rfl) (zle_e rfl)
        refine k_goto 47 X dX11_layNight_k12.2.2.1 (jp_e rfl) ?_
        refine k_lv [(3, .int z_173), (2, .int z_4), (0, .ref h0), (1, .int p0)] [0, 2, 3, 4] rfl ?_
        refine k_sub [(cO11_i1r1i10r1i2r5i2r12i3r4i2 h0 m_thrown a_tape m_taped m_size m_at m_end m_token m_whole m_nameSize m_fault m_place m_trouble a_letters m_failed m_hasHouse a_r a_fresh a_st a_undone a_kept m_undos m_images a_from a_begin a_motor a_change a_startFrame a_changeFrame a_lostAt a_blackAt a_slips a_leftArc a_died a_arcs m_bestSum m_nearest m_nearestTown a_there a_backAt a_sorted a_parts m_seed1 m_darkNow), (cAI g a_r 311 d_r), (cAI g a_st 44 d_st), (cAI g a_from 8 d_from2_168), (cAI g a_begin 8 d_begin2_166), (cAI g a_motor 8 d_motor2_170), (cAI g a_change 8 (upd uf_14 (u_20 : Int32).toNatClampNeg z_155)), (cAI g a_startFrame 8 (upd uf_19 (u_20 : Int32).toNatClampNeg (-2))), (cAI g a_changeFrame 8 (upd uf_15 (u_20 : Int32).toNatClampNeg 0)), (cAI g a_lostAt 8 d_lostAt2_169), (cAI g a_blackAt 8 d_blackAt2_167), (cAI g a_slips 8 d_slips)] [6, 4, 5, 7, 8, 9, 0, 1, 2, 10, 11, 3] rfl (by decide) rfl ?_
        exact ih_24 _ (by omega) d_begin2_166 d_blackAt2_167 ((upd uf_14 (u_20 : Int32).toNatClampNeg z_155)) ((upd uf_15 (u_20 : Int32).toNatClampNeg 0)) d_from2_168 d_lostAt2_169 d_motor2_170 ((upd uf_19 (u_20 : Int32).toNatClampNeg (-2))) z_173 rfl (iv_w iv_175 (zle_e rfl) (zle_e rfl)) (fun d_begin2 d_blackAt2 d_change2 d_changeFrame2 d_from2 d_lostAt2 d_motor2 d_startFrame2 h => h.elim (fun n_0 q => (KH_0 _ _ _ _ _ _ _ _ ⟨n_0 + 1, (Or.inr ⟨h_25, ⟨r_31, hq_32, ⟨r_34, hq_36, (Or.inr ⟨h_37, ⟨z_155, ez_155, (Or.inr ⟨h_157, ⟨d_begin2_166, d_blackAt2_167, d_from2_168, d_lostAt2_169, d_motor2_170, hq_172, ⟨z_173, ez_173, q⟩⟩⟩)⟩⟩)⟩⟩⟩)⟩)))


set_option maxHeartbeats 4000000 in
set_option maxRecDepth 100000 in
theorem m_layToldX (l : Launch) (g : Gx) (h0 : Nat) (p0 : Int32) (m_thrown : Int32) (a_tape : Nat) (m_taped : Int32) (m_size : Int32) (m_at : Int32) (m_end : Int32) (m_token : Int32) (m_whole : Int32) (m_nameSize : Int32) (m_fault : Int32) (m_place : Int32) (m_trouble : Int32) (a_letters : Nat) (m_failed : Int32) (m_hasHouse : Int32) (a_r : Nat) (a_fresh : Nat) (a_st : Nat) (a_undone : Nat) (a_kept : Nat) (m_undos : Int32) (m_images : Int32) (a_from : Nat) (a_begin : Nat) (a_motor : Nat) (a_change : Nat) (a_startFrame : Nat) (a_changeFrame : Nat) (a_lostAt : Nat) (a_blackAt : Nat) (a_slips : Nat) (a_leftArc : Nat) (a_died : Nat) (a_arcs : Nat) (m_bestSum : Int32) (m_nearest : Int32) (m_nearestTown : Int32) (a_there : Nat) (a_backAt : Nat) (a_sorted : Nat) (a_parts : Nat) (m_seed1 : Int32) (m_darkNow : Int32) (d_r : Nat → Int32) (d_st : Nat → Int32) (d_from : Nat → Int32) (d_begin : Nat → Int32) (d_motor : Nat → Int32) (d_change : Nat → Int32) (d_startFrame : Nat → Int32) (d_changeFrame : Nat → Int32) (d_lostAt : Nat → Int32) (d_blackAt : Nat → Int32) (d_slips : Nat → Int32) (hv_p0 : IV p0 0 3) (hp_d_r : RInv d_r) : cV l g yX11_layTold cX11_layTold 3 4 88 0 0 [.ref h0, .int p0] [(cO11_i1r1i10r1i2r5i2r12i3r4i2 h0 m_thrown a_tape m_taped m_size m_at m_end m_token m_whole m_nameSize m_fault m_place m_trouble a_letters m_failed m_hasHouse a_r a_fresh a_st a_undone a_kept m_undos m_images a_from a_begin a_motor a_change a_startFrame a_changeFrame a_lostAt a_blackAt a_slips a_leftArc a_died a_arcs m_bestSum m_nearest m_nearestTown a_there a_backAt a_sorted a_parts m_seed1 m_darkNow), (cAI g a_r 311 d_r), (cAI g a_st 44 d_st), (cAI g a_from 8 d_from), (cAI g a_begin 8 d_begin), (cAI g a_motor 8 d_motor), (cAI g a_change 8 d_change), (cAI g a_startFrame 8 d_startFrame), (cAI g a_changeFrame 8 d_changeFrame), (cAI g a_lostAt 8 d_lostAt), (cAI g a_blackAt 8 d_blackAt), (cAI g a_slips 8 d_slips)] (fun w => ∃ (d_begin2 : Nat → Int32) (d_blackAt2 : Nat → Int32) (d_change2 : Nat → Int32) (d_changeFrame2 : Nat → Int32) (d_from2 : Nat → Int32) (d_lostAt2 : Nat → Int32) (d_motor2 : Nat → Int32) (d_slips2 : Nat → Int32) (d_startFrame2 : Nat → Int32), (R_m_layToldX p0 d_r d_st d_from d_begin d_motor d_change d_startFrame d_changeFrame d_lostAt d_blackAt d_slips d_begin2 d_blackAt2 d_change2 d_changeFrame2 d_from2 d_lostAt2 d_motor2 d_slips2 d_startFrame2) ∧ w = [(cO11_i1r1i10r1i2r5i2r12i3r4i2 h0 m_thrown a_tape m_taped m_size m_at m_end m_token m_whole m_nameSize m_fault m_place m_trouble a_letters m_failed m_hasHouse a_r a_fresh a_st a_undone a_kept m_undos m_images a_from a_begin a_motor a_change a_startFrame a_changeFrame a_lostAt a_blackAt a_slips a_leftArc a_died a_arcs m_bestSum m_nearest m_nearestTown a_there a_backAt a_sorted a_parts m_seed1 m_darkNow), (cAI g a_r 311 d_r), (cAI g a_st 44 d_st), (cAI g a_from 8 d_from2), (cAI g a_begin 8 d_begin2), (cAI g a_motor 8 d_motor2), (cAI g a_change 8 d_change2), (cAI g a_startFrame 8 d_startFrame2), (cAI g a_changeFrame 8 d_changeFrame2), (cAI g a_lostAt 8 d_lostAt2), (cAI g a_blackAt 8 d_blackAt2), (cAI g a_slips 8 d_slips2)]) := by
  refine cV.of (by decide) (Nat.le_of_ble_eq_true rfl) ?_
  intro p e s m args below meth c A X hr hi
  refine k_lveq [(0, .ref h0), (1, .int p0)] rfl ?_
  refine k_iconst (v := 0) X dX11_layTold_k0.1.1.1.1 ic_0 ?_
  refine k_istore_n [(2, .int 0), (0, .ref h0), (1, .int p0)] X dX11_layTold_k0.1.1.1.2 (nlt_e rfl) rfl ?_
  refine (fun hL : ∀ (nn_4 : Nat) (uf_1 : Nat → Int32) (u_2 : Int32), (8 - u_2.toInt).toNat = nn_4 → (IV u_2 0 8) → (∀ (d_begin2 : Nat → Int32) (d_blackAt2 : Nat → Int32) (d_change2 : Nat → Int32) (d_changeFrame2 : Nat → Int32) (d_from2 : Nat → Int32) (d_lostAt2 : Nat → Int32) (d_motor2 : Nat → Int32) (d_slips2 : Nat → Int32) (d_startFrame2 : Nat → Int32), (∃ n_0 : Nat, R_m_layToldX_L0 p0 d_r (fun (uf_1 : Nat → Int32) => ∃ d_begin2_10 : Nat → Int32, ∃ d_blackAt2_11 : Nat → Int32, ∃ d_change2_12 : Nat → Int32, ∃ d_changeFrame2_13 : Nat → Int32, ∃ d_from2_14 : Nat → Int32, ∃ d_lostAt2_15 : Nat → Int32, ∃ d_motor2_16 : Nat → Int32, ∃ d_startFrame2_17 : Nat → Int32, (R_m_layNightX p0 d_r d_st d_from d_begin d_motor d_change d_startFrame d_changeFrame d_lostAt d_blackAt uf_1 d_begin2_10 d_blackAt2_11 d_change2_12 d_changeFrame2_13 d_from2_14 d_lostAt2_15 d_motor2_16 d_startFrame2_17) ∧ d_begin2 = d_begin2_10 ∧ d_blackAt2 = d_blackAt2_11 ∧ d_change2 = d_change2_12 ∧ d_changeFrame2 = d_changeFrame2_13 ∧ d_from2 = d_from2_14 ∧ d_lostAt2 = d_lostAt2_15 ∧ d_motor2 = d_motor2_16 ∧ d_slips2 = uf_1 ∧ d_startFrame2 = d_startFrame2_17) n_0 uf_1 u_2) → R_m_layToldX p0 d_r d_st d_from d_begin d_motor d_change d_startFrame d_changeFrame d_lostAt d_blackAt d_slips d_begin2 d_blackAt2 d_change2 d_changeFrame2 d_from2 d_lostAt2 d_motor2 d_slips2 d_startFrame2) → Wk p l e _ s m args below meth c _ A g _ _ _ [(cO11_i1r1i10r1i2r5i2r12i3r4i2 h0 m_thrown a_tape m_taped m_size m_at m_end m_token m_whole m_nameSize m_fault m_place m_trouble a_letters m_failed m_hasHouse a_r a_fresh a_st a_undone a_kept m_undos m_images a_from a_begin a_motor a_change a_startFrame a_changeFrame a_lostAt a_blackAt a_slips a_leftArc a_died a_arcs m_bestSum m_nearest m_nearestTown a_there a_backAt a_sorted a_parts m_seed1 m_darkNow), (cAI g a_r 311 d_r), (cAI g a_st 44 d_st), (cAI g a_from 8 d_from), (cAI g a_begin 8 d_begin), (cAI g a_motor 8 d_motor), (cAI g a_change 8 d_change), (cAI g a_startFrame 8 d_startFrame), (cAI g a_changeFrame 8 d_changeFrame), (cAI g a_lostAt 8 d_lostAt), (cAI g a_blackAt 8 d_blackAt), (cAI g a_slips 8 uf_1)] [(2, .int u_2), (0, .ref h0), (1, .int p0)] 2 [] => hL _ d_slips 0 rfl (iv_w iq_0_0_0 (zle_e rfl) (zle_e rfl)) (fun d_begin2 d_blackAt2 d_change2 d_changeFrame2 d_from2 d_lostAt2 d_motor2 d_slips2 d_startFrame2 h => h)) ?_
  refine fun nn_4 => Nat.strongRecOn nn_4 (fun nn_4 ih_6 => ?_)
  intro uf_1 u_2 hm_5 hv_3 KH_0
  refine k_iload_n X dX11_layTold_k0.1.1.2.1 0 rfl ?_
  refine k_bipush (v := 8) X dX11_layTold_k0.1.1.2.2 bi_8 ?_
  refine k_ic_ge 33 X dX11_layTold_k0.1.2.1.1 (jp_e rfl) (fun h_7 => ?_) (fun h_7 => ?_)
  · skip
    have j_8 : 8 ≤ u_2.toInt := iv_le h_7
    have iv_9 : IV u_2 8 8 := iv_leR (iv_le h_7) iq_8_8_8 hv_3 (zle_e rfl)
    refine k_aload_n X dX11_layTold_k1.2.1.2 1 rfl ?_
    refine k_iload_n X dX11_layTold_k1.2.2.1 2 rfl ?_
    refine k_callVV (n := 1) (As := [.int p0]) (st := []) X [(cO11_i1r1i10r1i2r5i2r12i3r4i2 h0 m_thrown a_tape m_taped m_size m_at m_end m_token m_whole m_nameSize m_fault m_place m_trouble a_letters m_failed m_hasHouse a_r a_fresh a_st a_undone a_kept m_undos m_images a_from a_begin a_motor a_change a_startFrame a_changeFrame a_lostAt a_blackAt a_slips a_leftArc a_died a_arcs m_bestSum m_nearest m_nearestTown a_there a_backAt a_sorted a_parts m_seed1 m_darkNow), (cAI g a_r 311 d_r), (cAI g a_st 44 d_st), (cAI g a_from 8 d_from), (cAI g a_begin 8 d_begin), (cAI g a_motor 8 d_motor), (cAI g a_change 8 d_change), (cAI g a_startFrame 8 d_startFrame), (cAI g a_changeFrame 8 d_changeFrame), (cAI g a_lostAt 8 d_lostAt), (cAI g a_blackAt 8 d_blackAt), (cAI g a_slips 8 uf_1)] [] [0, 1, 2, 3, 4, 5, 6, 7, 8, 9, 10, 11] [] (m_layNightX l g h0 p0 m_thrown a_tape m_taped m_size m_at m_end m_token m_whole m_nameSize m_fault m_place m_trouble a_letters m_failed m_hasHouse a_r a_fresh a_st a_undone a_kept m_undos m_images a_from a_begin a_motor a_change a_startFrame a_changeFrame a_lostAt a_blackAt a_slips a_leftArc a_died a_arcs m_bestSum m_nearest m_nearestTown a_there a_backAt a_sorted a_parts m_seed1 m_darkNow d_r d_st d_from d_begin d_motor d_change d_startFrame d_changeFrame d_lostAt d_blackAt uf_1 (iv_w hv_p0 (zle_e rfl) (zle_e rfl)) hp_d_r) dX11_layTold_k1.2.2.2.1 mw819 mw820 mw821 mw5 mw822 rfl 11 rfl rfl 0 _ rfl yk_yX11_layNight_1 rfl (Nat.le_of_ble_eq_true rfl) (Nat.le_of_ble_eq_true rfl) (Nat.le_of_ble_eq_true rfl) (Nat.le_of_ble_eq_true rfl) (Nat.le_of_ble_eq_true rfl) rfl rfl (by decide +kernel) rfl (by decide +kernel) (by decide +kernel) ?_
    rintro w ⟨d_begin2_10, d_blackAt2_11, d_change2_12, d_changeFrame2_13, d_from2_14, d_lostAt2_15, d_motor2_16, d_startFrame2_17, hq_19, rfl⟩
    refine k_ws [(cO11_i1r1i10r1i2r5i2r12i3r4i2 h0 m_thrown a_tape m_taped m_size m_at m_end m_token m_whole m_nameSize m_fault m_place m_trouble a_letters m_failed m_hasHouse a_r a_fresh a_st a_undone a_kept m_undos m_images a_from a_begin a_motor a_change a_startFrame a_changeFrame a_lostAt a_blackAt a_slips a_leftArc a_died a_arcs m_bestSum m_nearest m_nearestTown a_there a_backAt a_sorted a_parts m_seed1 m_darkNow), (cAI g a_r 311 d_r), (cAI g a_st 44 d_st), (cAI g a_from 8 d_from2_14), (cAI g a_begin 8 d_begin2_10), (cAI g a_motor 8 d_motor2_16), (cAI g a_change 8 d_change2_12), (cAI g a_startFrame 8 d_startFrame2_17), (cAI g a_changeFrame 8 d_changeFrame2_13), (cAI g a_lostAt 8 d_lostAt2_15), (cAI g a_blackAt 8 d_blackAt2_11), (cAI g a_slips 8 uf_1)] rfl ?_
    exact k_vret X hr dX11_layTold_k1.2.2.2.2 (Nat.le_of_ble_eq_true rfl) (Nat.le_of_ble_eq_true rfl) [0, 1, 2, 3, 4, 5, 6, 7, 8, 9, 10, 11] (vnd_e rfl) rfl rfl (exI9 d_begin2_10 d_blackAt2_11 d_change2_12 d_changeFrame2_13 d_from2_14 d_lostAt2_15 d_motor2_16 uf_1 d_startFrame2_17 ⟨(KH_0 _ _ _ _ _ _ _ _ _ ⟨0 + 1, (Or.inl ⟨h_7, (exI8 d_begin2_10 d_blackAt2_11 d_change2_12 d_changeFrame2_13 d_from2_14 d_lostAt2_15 d_motor2_16 d_startFrame2_17 ⟨hq_19, ⟨rfl, rfl, rfl, rfl, rfl, rfl, rfl, rfl, rfl⟩⟩)⟩)⟩), rfl⟩)
  · skip
    have j_20 : u_2.toInt < 8 := iv_nle h_7
    have iv_21 : IV u_2 0 7 := iv_ltL (iv_nle h_7) hv_3 iq_8_8_8 (zle_e rfl)
    refine k_aload_n X dX11_layTold_k0.1.2.1.2 1 rfl ?_
    refine k_get (ci := 11) X inlX11 rfl 30 (nlt_e rfl) dX11_layTold_k0.1.2.2.1 mw183 0 rfl rfl ?_
    refine k_iload_n X dX11_layTold_k0.1.2.2.2 0 rfl ?_
    refine k_aload_n X dX11_layTold_k0.2.1.1.1 1 rfl ?_
    refine k_get (ci := 11) X inlX11 rfl 15 (nlt_e rfl) dX11_layTold_k0.2.1.1.2 mw170 0 rfl rfl ?_
    refine k_bipush (v := 114) X dX11_layTold_k0.2.1.2.1 bi_114 ?_
    refine k_iconst (v := 3) X dX11_layTold_k0.2.1.2.2 ic_3 ?_
    refine k_iload_n X dX11_layTold_k0.2.2.1.1 2 rfl ?_
    refine k_imul X dX11_layTold_k0.2.2.1.2 ?_
    refine k_nm (fun z_22 ez_22 => ?_)
    have i_23 : z_22.toInt = 3 * p0.toInt := in_mul ez_22 (by decide) (zle_e rfl) hv_p0 (zle_e rfl) (zle_e rfl)
    have iv_24 : IV z_22 0 9 := iz4 i_23 hv_p0 (zle_e rfl) (zle_e rfl) (zle_e rfl)
    refine k_iadd X dX11_layTold_k0.2.2.2.1 ?_
    refine k_nm (fun z_25 ez_25 => ?_)
    have i_26 : z_25.toInt = 114 + z_22.toInt := in_add ez_25 iq_114_114_114 iv_24 (zle_e rfl) (zle_e rfl)
    have iv_27 : IV z_25 114 123 := iz2 i_26 iv_24 (zle_e rfl) (zle_e rfl)
    refine k_iconst (v := 2) X dX11_layTold_k0.2.2.2.2 ic_2 ?_
    refine k_iadd X dX11_layTold_k1.1.1.1 ?_
    refine k_nm (fun z_28 ez_28 => ?_)
    have i_29 : z_28.toInt = z_25.toInt + 2 := in_add ez_28 iv_27 iq_2_2_2 (zle_e rfl) (zle_e rfl)
    have iv_30 : IV z_28 116 125 := iz1 i_29 iv_27 (zle_e rfl) (zle_e rfl)
    refine k_iald X dX11_layTold_k1.1.1.2 1 rfl (iv_in iv_30 (zle_e rfl) (zle_l rfl)) ?_
    refine k_nm (fun z_31 ez_31 => ?_)
    have i_32 : z_28.toInt = 116 + 3 * p0.toInt := by omega
    have iv_33 : IV z_31 0 40 := rb_116_3 ez_31 hp_d_r i_32 (iv_w hv_p0 (zle_e rfl) (zle_e rfl))
    refine k_iast [(cO11_i1r1i10r1i2r5i2r12i3r4i2 h0 m_thrown a_tape m_taped m_size m_at m_end m_token m_whole m_nameSize m_fault m_place m_trouble a_letters m_failed m_hasHouse a_r a_fresh a_st a_undone a_kept m_undos m_images a_from a_begin a_motor a_change a_startFrame a_changeFrame a_lostAt a_blackAt a_slips a_leftArc a_died a_arcs m_bestSum m_nearest m_nearestTown a_there a_backAt a_sorted a_parts m_seed1 m_darkNow), (cAI g a_r 311 d_r), (cAI g a_st 44 d_st), (cAI g a_from 8 d_from), (cAI g a_begin 8 d_begin), (cAI g a_motor 8 d_motor), (cAI g a_change 8 d_change), (cAI g a_startFrame 8 d_startFrame), (cAI g a_changeFrame 8 d_changeFrame), (cAI g a_lostAt 8 d_lostAt), (cAI g a_blackAt 8 d_blackAt), (cAI g a_slips 8 (upd uf_1 (u_2 : Int32).toNatClampNeg z_31))] X dX11_layTold_k1.1.2.1 11 rfl (iv_in iv_21 (zle_e rfl) (zle_l rfl)) rfl ?_
    obtain ⟨z_35, ez_35⟩ : ∃ y : Int32, u_2 + Int32.ofInt 1 = y := ⟨_, rfl⟩
    refine k_iinc z_35 [(2, .int z_35), (0, .ref h0), (1, .int p0)] 0 X dX11_layTold_k1.1.2.2 rfl ez_35 (nlt_e rfl) rfl ?_
    have i_36 : z_35.toInt = u_2.toInt + 1 := in_inc ez_35 (oin_e rfl) iv_21 (zle_e rfl) (zle_e rfl)
    have iv_37 : IV z_35 1 8 := iz1 i_36 iv_21 (zle_e rfl) (zle_e rfl)
    refine k_goto 2 X dX11_layTold_k1.2.1.1 (jp_e rfl) ?_
    exact ih_6 _ (by omega) ((upd uf_1 (u_2 : Int32).toNatClampNeg z_31)) z_35 rfl (iv_w iv_37 (zle_e rfl) (zle_e rfl)) (fun d_begin2 d_blackAt2 d_change2 d_changeFrame2 d_from2 d_lostAt2 d_motor2 d_slips2 d_startFrame2 h => h.elim (fun n_0 q => (KH_0 _ _ _ _ _ _ _ _ _ ⟨n_0 + 1, (Or.inr ⟨h_7, ⟨z_22, ez_22, ⟨z_25, ez_25, ⟨z_28, ez_28, ⟨z_31, ez_31, ⟨z_35, ez_35, q⟩⟩⟩⟩⟩⟩)⟩)))


set_option maxHeartbeats 4000000 in
set_option maxRecDepth 100000 in
theorem m_canTellX (l : Launch) (g : Gx) (h0 : Nat) (p0 : Int32) (p1 : Int32) (m_thrown : Int32) (a_tape : Nat) (m_taped : Int32) (m_size : Int32) (m_at : Int32) (m_end : Int32) (m_token : Int32) (m_whole : Int32) (m_nameSize : Int32) (m_fault : Int32) (m_place : Int32) (m_trouble : Int32) (a_letters : Nat) (m_failed : Int32) (m_hasHouse : Int32) (a_r : Nat) (a_fresh : Nat) (a_st : Nat) (a_undone : Nat) (a_kept : Nat) (m_undos : Int32) (m_images : Int32) (a_from : Nat) (a_begin : Nat) (a_motor : Nat) (a_change : Nat) (a_startFrame : Nat) (a_changeFrame : Nat) (a_lostAt : Nat) (a_blackAt : Nat) (a_slips : Nat) (a_leftArc : Nat) (a_died : Nat) (a_arcs : Nat) (m_bestSum : Int32) (m_nearest : Int32) (m_nearestTown : Int32) (a_there : Nat) (a_backAt : Nat) (a_sorted : Nat) (a_parts : Nat) (m_seed1 : Int32) (m_darkNow : Int32) (d_r : Nat → Int32) (d_st : Nat → Int32) (d_from : Nat → Int32) (d_begin : Nat → Int32) (d_motor : Nat → Int32) (d_change : Nat → Int32) (d_startFrame : Nat → Int32) (d_changeFrame : Nat → Int32) (d_lostAt : Nat → Int32) (d_blackAt : Nat → Int32) (d_slips : Nat → Int32) (hv_m_hasHouse : IV m_hasHouse 0 1) (hp_d_r : RInv d_r) : cI l g yX11_canTell cX11_canTell 3 (some .boolean) 5 110 0 0 [.ref h0, .int p0, .int p1] [(cO11_i1r1i10r1i2r5i2r12i3r4i2 h0 m_thrown a_tape m_taped m_size m_at m_end m_token m_whole m_nameSize m_fault m_place m_trouble a_letters m_failed m_hasHouse a_r a_fresh a_st a_undone a_kept m_undos m_images a_from a_begin a_motor a_change a_startFrame a_changeFrame a_lostAt a_blackAt a_slips a_leftArc a_died a_arcs m_bestSum m_nearest m_nearestTown a_there a_backAt a_sorted a_parts m_seed1 m_darkNow), (cAI g a_r 311 d_r), (cAI g a_st 44 d_st), (cAI g a_from 8 d_from), (cAI g a_begin 8 d_begin), (cAI g a_motor 8 d_motor), (cAI g a_change 8 d_change), (cAI g a_startFrame 8 d_startFrame), (cAI g a_changeFrame 8 d_changeFrame), (cAI g a_lostAt 8 d_lostAt), (cAI g a_blackAt 8 d_blackAt), (cAI g a_slips 8 d_slips)] (fun r w => ∃ (d_begin2 : Nat → Int32) (d_blackAt2 : Nat → Int32) (d_change2 : Nat → Int32) (d_changeFrame2 : Nat → Int32) (d_from2 : Nat → Int32) (d_lostAt2 : Nat → Int32) (d_motor2 : Nat → Int32) (d_slips2 : Nat → Int32) (d_startFrame2 : Nat → Int32), IV r 0 1 ∧ (R_m_canTellX p0 p1 m_hasHouse d_r d_st d_from d_begin d_motor d_change d_startFrame d_changeFrame d_lostAt d_blackAt d_slips d_begin2 d_blackAt2 d_change2 d_changeFrame2 d_from2 d_lostAt2 d_motor2 d_slips2 d_startFrame2 r) ∧ (r = 0 ∨ (IV p0 0 3 ∧ IV p1 0 7 ∧ p1.toInt < (d_r 12).toInt)) ∧ w = [(cO11_i1r1i10r1i2r5i2r12i3r4i2 h0 m_thrown a_tape m_taped m_size m_at m_end m_token m_whole m_nameSize m_fault m_place m_trouble a_letters m_failed m_hasHouse a_r a_fresh a_st a_undone a_kept m_undos m_images a_from a_begin a_motor a_change a_startFrame a_changeFrame a_lostAt a_blackAt a_slips a_leftArc a_died a_arcs m_bestSum m_nearest m_nearestTown a_there a_backAt a_sorted a_parts m_seed1 m_darkNow), (cAI g a_r 311 d_r), (cAI g a_st 44 d_st), (cAI g a_from 8 d_from2), (cAI g a_begin 8 d_begin2), (cAI g a_motor 8 d_motor2), (cAI g a_change 8 d_change2), (cAI g a_startFrame 8 d_startFrame2), (cAI g a_changeFrame 8 d_changeFrame2), (cAI g a_lostAt 8 d_lostAt2), (cAI g a_blackAt 8 d_blackAt2), (cAI g a_slips 8 d_slips2)]) := by
  refine cI.of (by decide) (Nat.le_of_ble_eq_true rfl) ?_
  intro p e s m args below meth c A X hr hi
  refine k_lveq [(0, .ref h0), (1, .int p0), (2, .int p1)] rfl ?_
  refine k_aload_n X dX11_canTell_k0.1.1.1 0 rfl ?_
  refine k_iload_n X dX11_canTell_k0.1.1.2.1 1 rfl ?_
  refine k_callVI (n := 1) (As := [.int p0]) (st := []) X [(cO11_i1r1i10r1i2r5i2r12i3r4i2 h0 m_thrown a_tape m_taped m_size m_at m_end m_token m_whole m_nameSize m_fault m_place m_trouble a_letters m_failed m_hasHouse a_r a_fresh a_st a_undone a_kept m_undos m_images a_from a_begin a_motor a_change a_startFrame a_changeFrame a_lostAt a_blackAt a_slips a_leftArc a_died a_arcs m_bestSum m_nearest m_nearestTown a_there a_backAt a_sorted a_parts m_seed1 m_darkNow), (cAI g a_r 311 d_r)] [(cAI g a_st 44 d_st), (cAI g a_from 8 d_from), (cAI g a_begin 8 d_begin), (cAI g a_motor 8 d_motor), (cAI g a_change 8 d_change), (cAI g a_startFrame 8 d_startFrame), (cAI g a_changeFrame 8 d_changeFrame), (cAI g a_lostAt 8 d_lostAt), (cAI g a_blackAt 8 d_blackAt), (cAI g a_slips 8 d_slips)] [0, 1] [2, 3, 4, 5, 6, 7, 8, 9, 10, 11] (m_isManX l g h0 p0 m_thrown a_tape m_taped m_size m_at m_end m_token m_whole m_nameSize m_fault m_place m_trouble a_letters m_failed m_hasHouse a_r a_fresh a_st a_undone a_kept m_undos m_images a_from a_begin a_motor a_change a_startFrame a_changeFrame a_lostAt a_blackAt a_slips a_leftArc a_died a_arcs m_bestSum m_nearest m_nearestTown a_there a_backAt a_sorted a_parts m_seed1 m_darkNow d_r (iv_w hv_m_hasHouse (zle_e rfl) (zle_e rfl)) hp_d_r) dX11_canTell_k0.1.1.2.2 mw811 mw812 mw813 mw5 mw814 rfl 11 rfl rfl 0 _ rfl yk_yX11_isMan_1 rfl (Nat.le_of_ble_eq_true rfl) (Nat.le_of_ble_eq_true rfl) (Nat.le_of_ble_eq_true rfl) (Nat.le_of_ble_eq_true rfl) (Nat.le_of_ble_eq_true rfl) rfl rfl (by decide +kernel) rfl (by decide +kernel) (by decide +kernel) ?_
  rintro r_1 w ⟨iv_2, hq_3, hk_4, rfl⟩
  refine k_ws [(cAI g a_st 44 d_st), (cAI g a_from 8 d_from), (cAI g a_begin 8 d_begin), (cAI g a_motor 8 d_motor), (cAI g a_change 8 d_change), (cAI g a_startFrame 8 d_startFrame), (cAI g a_changeFrame 8 d_changeFrame), (cAI g a_lostAt 8 d_lostAt), (cAI g a_blackAt 8 d_blackAt), (cAI g a_slips 8 d_slips), (cO11_i1r1i10r1i2r5i2r12i3r4i2 h0 m_thrown a_tape m_taped m_size m_at m_end m_token m_whole m_nameSize m_fault m_place m_trouble a_letters m_failed m_hasHouse a_r a_fresh a_st a_undone a_kept m_undos m_images a_from a_begin a_motor a_change a_startFrame a_changeFrame a_lostAt a_blackAt a_slips a_leftArc a_died a_arcs m_bestSum m_nearest m_nearestTown a_there a_backAt a_sorted a_parts m_seed1 m_darkNow), (cAI g a_r 311 d_r)] rfl ?_
  refine k_if_eq 16 X dX11_canTell_k0.1.2.1.1 (jp_e rfl) (fun h_5 => ?_) (fun h_5 => ?_)
  · skip
    have iv_6 : IV r_1 0 0 := iv_meet iv_2 (iv_e h_5 iq_0_0_0) (zle_o rfl) (zle_o rfl)
    refine k_iconst (v := 0) X dX11_canTell_k0.2.1.1.2 ic_0 ?_
    exact k_zret X hr (by first | rfl | decide) dX11_canTell_k0.2.1.2.1 (Nat.le_of_ble_eq_true rfl) (Nat.le_of_ble_eq_true rfl) [10, 11, 0, 1, 2, 3, 4, 5, 6, 7, 8, 9] (vnd_e rfl) rfl rfl (exI9 d_begin d_blackAt d_change d_changeFrame d_from d_lostAt d_motor d_slips d_startFrame ⟨(iv_w iq_0_0_0 (zle_e rfl) (zle_e rfl)), ⟨r_1, hq_3, (Or.inl ⟨h_5, ⟨rfl, rfl, rfl, rfl, rfl, rfl, rfl, rfl, rfl, rfl⟩⟩)⟩, (Or.inl (iv_eq iq_0_0_0 iq_0_0_0)), rfl⟩)
  · skip
    have hc_7 := hk_4.resolve_left h_5
    have iv_8 : IV p0 0 3 := iv_meet (iv_any p0) hc_7 (zle_o rfl) (zle_o rfl)
    have iv_9 : IV r_1 1 1 := iv_neL h_5 iv_2 iq_0_0_0 (zle_e rfl)
    refine k_aload_n X dX11_canTell_k0.1.2.1.2 0 rfl ?_
    refine k_iload_n X dX11_canTell_k0.1.2.2.1 2 rfl ?_
    refine k_callVI (n := 1) (As := [.int p1]) (st := []) X [(cO11_i1r1i10r1i2r5i2r12i3r4i2 h0 m_thrown a_tape m_taped m_size m_at m_end m_token m_whole m_nameSize m_fault m_place m_trouble a_letters m_failed m_hasHouse a_r a_fresh a_st a_undone a_kept m_undos m_images a_from a_begin a_motor a_change a_startFrame a_changeFrame a_lostAt a_blackAt a_slips a_leftArc a_died a_arcs m_bestSum m_nearest m_nearestTown a_there a_backAt a_sorted a_parts m_seed1 m_darkNow), (cAI g a_r 311 d_r)] [(cAI g a_st 44 d_st), (cAI g a_from 8 d_from), (cAI g a_begin 8 d_begin), (cAI g a_motor 8 d_motor), (cAI g a_change 8 d_change), (cAI g a_startFrame 8 d_startFrame), (cAI g a_changeFrame 8 d_changeFrame), (cAI g a_lostAt 8 d_lostAt), (cAI g a_blackAt 8 d_blackAt), (cAI g a_slips 8 d_slips)] [10, 11] [0, 1, 2, 3, 4, 5, 6, 7, 8, 9] (m_isPlaceX l g h0 p1 m_thrown a_tape m_taped m_size m_at m_end m_token m_whole m_nameSize m_fault m_place m_trouble a_letters m_failed m_hasHouse a_r a_fresh a_st a_undone a_kept m_undos m_images a_from a_begin a_motor a_change a_startFrame a_changeFrame a_lostAt a_blackAt a_slips a_leftArc a_died a_arcs m_bestSum m_nearest m_nearestTown a_there a_backAt a_sorted a_parts m_seed1 m_darkNow d_r (iv_w hv_m_hasHouse (zle_e rfl) (zle_e rfl)) hp_d_r) dX11_canTell_k0.1.2.2.2 mw719 mw720 mw721 mw5 mw722 rfl 11 rfl rfl 0 _ rfl yk_yX11_isPlace_1 rfl (Nat.le_of_ble_eq_true rfl) (Nat.le_of_ble_eq_true rfl) (Nat.le_of_ble_eq_true rfl) (Nat.le_of_ble_eq_true rfl) (Nat.le_of_ble_eq_true rfl) rfl rfl (by decide +kernel) rfl (by decide +kernel) (by decide +kernel) ?_
    rintro r_10 w ⟨iv_11, hq_12, hk_13, rfl⟩
    refine k_ws [(cAI g a_st 44 d_st), (cAI g a_from 8 d_from), (cAI g a_begin 8 d_begin), (cAI g a_motor 8 d_motor), (cAI g a_change 8 d_change), (cAI g a_startFrame 8 d_startFrame), (cAI g a_changeFrame 8 d_changeFrame), (cAI g a_lostAt 8 d_lostAt), (cAI g a_blackAt 8 d_blackAt), (cAI g a_slips 8 d_slips), (cO11_i1r1i10r1i2r5i2r12i3r4i2 h0 m_thrown a_tape m_taped m_size m_at m_end m_token m_whole m_nameSize m_fault m_place m_trouble a_letters m_failed m_hasHouse a_r a_fresh a_st a_undone a_kept m_undos m_images a_from a_begin a_motor a_change a_startFrame a_changeFrame a_lostAt a_blackAt a_slips a_leftArc a_died a_arcs m_bestSum m_nearest m_nearestTown a_there a_backAt a_sorted a_parts m_seed1 m_darkNow), (cAI g a_r 311 d_r)] rfl ?_
    refine k_if_ne 18 X dX11_canTell_k0.2.1.1.1 (jp_e rfl) (fun h_14 => ?_) (fun h_14 => ?_)
    · skip
      have hc_15 := hk_13.resolve_left h_14
      have iv_16 : IV p1 0 7 := iv_meet (iv_any p1) hc_15.1 (zle_o rfl) (zle_o rfl)
      have j_17 : p1.toInt < (d_r 12).toInt := hc_15.2
      have iv_18 : IV r_10 1 1 := iv_neL h_14 iv_11 iq_0_0_0 (zle_e rfl)
      refine k_aload_n X dX11_canTell_k0.2.1.2.2 0 rfl ?_
      refine k_iload_n X dX11_canTell_k0.2.2.1.1 1 rfl ?_
      refine k_callVV (n := 1) (As := [.int p0]) (st := []) X [(cO11_i1r1i10r1i2r5i2r12i3r4i2 h0 m_thrown a_tape m_taped m_size m_at m_end m_token m_whole m_nameSize m_fault m_place m_trouble a_letters m_failed m_hasHouse a_r a_fresh a_st a_undone a_kept m_undos m_images a_from a_begin a_motor a_change a_startFrame a_changeFrame a_lostAt a_blackAt a_slips a_leftArc a_died a_arcs m_bestSum m_nearest m_nearestTown a_there a_backAt a_sorted a_parts m_seed1 m_darkNow), (cAI g a_r 311 d_r), (cAI g a_st 44 d_st), (cAI g a_from 8 d_from), (cAI g a_begin 8 d_begin), (cAI g a_motor 8 d_motor), (cAI g a_change 8 d_change), (cAI g a_startFrame 8 d_startFrame), (cAI g a_changeFrame 8 d_changeFrame), (cAI g a_lostAt 8 d_lostAt), (cAI g a_blackAt 8 d_blackAt), (cAI g a_slips 8 d_slips)] [] [10, 11, 0, 1, 2, 3, 4, 5, 6, 7, 8, 9] [] (m_layToldX l g h0 p0 m_thrown a_tape m_taped m_size m_at m_end m_token m_whole m_nameSize m_fault m_place m_trouble a_letters m_failed m_hasHouse a_r a_fresh a_st a_undone a_kept m_undos m_images a_from a_begin a_motor a_change a_startFrame a_changeFrame a_lostAt a_blackAt a_slips a_leftArc a_died a_arcs m_bestSum m_nearest m_nearestTown a_there a_backAt a_sorted a_parts m_seed1 m_darkNow d_r d_st d_from d_begin d_motor d_change d_startFrame d_changeFrame d_lostAt d_blackAt d_slips (iv_w iv_8 (zle_e rfl) (zle_e rfl)) hp_d_r) dX11_canTell_k0.2.2.1.2 mw815 mw816 mw817 mw5 mw818 rfl 11 rfl rfl 0 _ rfl yk_yX11_layTold_1 rfl (Nat.le_of_ble_eq_true rfl) (Nat.le_of_ble_eq_true rfl) (Nat.le_of_ble_eq_true rfl) (Nat.le_of_ble_eq_true rfl) (Nat.le_of_ble_eq_true rfl) rfl rfl (by decide +kernel) rfl (by decide +kernel) (by decide +kernel) ?_
      intro w zq
      refine exE9 zq ?_
      clear zq
      intro d_begin2_19 d_blackAt2_20 d_change2_21 d_changeFrame2_22 d_from2_23 d_lostAt2_24 d_motor2_25 d_slips2_26 d_startFrame2_27 hq_29 zq
      subst zq
      refine k_ws [(cO11_i1r1i10r1i2r5i2r12i3r4i2 h0 m_thrown a_tape m_taped m_size m_at m_end m_token m_whole m_nameSize m_fault m_place m_trouble a_letters m_failed m_hasHouse a_r a_fresh a_st a_undone a_kept m_undos m_images a_from a_begin a_motor a_change a_startFrame a_changeFrame a_lostAt a_blackAt a_slips a_leftArc a_died a_arcs m_bestSum m_nearest m_nearestTown a_there a_backAt a_sorted a_parts m_seed1 m_darkNow), (cAI g a_r 311 d_r), (cAI g a_st 44 d_st), (cAI g a_from 8 d_from2_23), (cAI g a_begin 8 d_begin2_19), (cAI g a_motor 8 d_motor2_25), (cAI g a_change 8 d_change2_21), (cAI g a_startFrame 8 d_startFrame2_27), (cAI g a_changeFrame 8 d_changeFrame2_22), (cAI g a_lostAt 8 d_lostAt2_24), (cAI g a_blackAt 8 d_blackAt2_20), (cAI g a_slips 8 d_slips2_26)] rfl ?_
      refine k_iconst (v := 1) X dX11_canTell_k0.2.2.2.1 ic_1 ?_
      exact k_zret X hr (by first | rfl | decide) dX11_canTell_k0.2.2.2.2 (Nat.le_of_ble_eq_true rfl) (Nat.le_of_ble_eq_true rfl) [0, 1, 2, 3, 4, 5, 6, 7, 8, 9, 10, 11] (vnd_e rfl) rfl rfl ⟨d_begin2_19, d_blackAt2_20, d_change2_21, d_changeFrame2_22, d_from2_23, d_lostAt2_24, d_motor2_25, d_slips2_26, d_startFrame2_27, (iv_w iq_1_1_1 (zle_e rfl) (zle_e rfl)), ⟨r_1, hq_3, (Or.inr ⟨h_5, ⟨r_10, hq_12, (Or.inl ⟨h_14, ⟨d_begin2_19, d_blackAt2_20, d_change2_21, d_changeFrame2_22, d_from2_23, d_lostAt2_24, d_motor2_25, d_slips2_26, d_startFrame2_27, hq_29, ⟨rfl, rfl, rfl, rfl, rfl, rfl, rfl, rfl, rfl, rfl⟩⟩⟩)⟩⟩)⟩, (Or.inr ⟨(iv_w iv_8 (zle_e rfl) (zle_e rfl)), (iv_w iv_16 (zle_e rfl) (zle_e rfl)), (by omega)⟩), rfl⟩
    · skip
      have iv_30 : IV r_10 0 0 := iv_meet iv_11 (iv_e h_14 iq_0_0_0) (zle_o rfl) (zle_o rfl)
      refine k_iconst (v := 0) X dX11_canTell_k0.2.1.1.2 ic_0 ?_
      exact k_zret X hr (by first | rfl | decide) dX11_canTell_k0.2.1.2.1 (Nat.le_of_ble_eq_true rfl) (Nat.le_of_ble_eq_true rfl) [10, 11, 0, 1, 2, 3, 4, 5, 6, 7, 8, 9] (vnd_e rfl) rfl rfl (exI9 d_begin d_blackAt d_change d_changeFrame d_from d_lostAt d_motor d_slips d_startFrame ⟨(iv_w iq_0_0_0 (zle_e rfl) (zle_e rfl)), ⟨r_1, hq_3, (Or.inr ⟨h_5, ⟨r_10, hq_12, (Or.inr ⟨h_14, ⟨rfl, rfl, rfl, rfl, rfl, rfl, rfl, rfl, rfl, rfl⟩⟩)⟩⟩)⟩, (Or.inl (iv_eq iq_0_0_0 iq_0_0_0)), rfl⟩)


set_option maxHeartbeats 4000000 in
set_option maxRecDepth 100000 in
theorem m_changesX (l : Launch) (g : Gx) (h0 : Nat) (p0 : Int32) (p1 : Int32) (m_thrown : Int32) (a_tape : Nat) (m_taped : Int32) (m_size : Int32) (m_at : Int32) (m_end : Int32) (m_token : Int32) (m_whole : Int32) (m_nameSize : Int32) (m_fault : Int32) (m_place : Int32) (m_trouble : Int32) (a_letters : Nat) (m_failed : Int32) (m_hasHouse : Int32) (a_r : Nat) (a_fresh : Nat) (a_st : Nat) (a_undone : Nat) (a_kept : Nat) (m_undos : Int32) (m_images : Int32) (a_from : Nat) (a_begin : Nat) (a_motor : Nat) (a_change : Nat) (a_startFrame : Nat) (a_changeFrame : Nat) (a_lostAt : Nat) (a_blackAt : Nat) (a_slips : Nat) (a_leftArc : Nat) (a_died : Nat) (a_arcs : Nat) (m_bestSum : Int32) (m_nearest : Int32) (m_nearestTown : Int32) (a_there : Nat) (a_backAt : Nat) (a_sorted : Nat) (a_parts : Nat) (m_seed1 : Int32) (m_darkNow : Int32) (d_r : Nat → Int32) (d_st : Nat → Int32) (d_from : Nat → Int32) (d_begin : Nat → Int32) (d_motor : Nat → Int32) (d_change : Nat → Int32) (d_startFrame : Nat → Int32) (d_changeFrame : Nat → Int32) (d_lostAt : Nat → Int32) (d_blackAt : Nat → Int32) (d_slips : Nat → Int32) (hv_m_hasHouse : IV m_hasHouse 0 1) (hp_d_r : RInv d_r) : cI l g yX11_changes cX11_changes 3 (some .int) 6 132 0 0 [.ref h0, .int p0, .int p1] [(cO11_i1r1i10r1i2r5i2r12i3r4i2 h0 m_thrown a_tape m_taped m_size m_at m_end m_token m_whole m_nameSize m_fault m_place m_trouble a_letters m_failed m_hasHouse a_r a_fresh a_st a_undone a_kept m_undos m_images a_from a_begin a_motor a_change a_startFrame a_changeFrame a_lostAt a_blackAt a_slips a_leftArc a_died a_arcs m_bestSum m_nearest m_nearestTown a_there a_backAt a_sorted a_parts m_seed1 m_darkNow), (cAI g a_r 311 d_r), (cAI g a_st 44 d_st), (cAI g a_from 8 d_from), (cAI g a_begin 8 d_begin), (cAI g a_motor 8 d_motor), (cAI g a_change 8 d_change), (cAI g a_startFrame 8 d_startFrame), (cAI g a_changeFrame 8 d_changeFrame), (cAI g a_lostAt 8 d_lostAt), (cAI g a_blackAt 8 d_blackAt), (cAI g a_slips 8 d_slips)] (fun r w => ∃ (d_begin2 : Nat → Int32) (d_blackAt2 : Nat → Int32) (d_change2 : Nat → Int32) (d_changeFrame2 : Nat → Int32) (d_from2 : Nat → Int32) (d_lostAt2 : Nat → Int32) (d_motor2 : Nat → Int32) (d_slips2 : Nat → Int32) (d_startFrame2 : Nat → Int32) (m_thrown2 : Int32) (m_trouble2 : Int32), (R_m_changesX p0 p1 m_hasHouse d_r d_st d_from d_begin d_motor d_change d_startFrame d_changeFrame d_lostAt d_blackAt d_slips d_begin2 d_blackAt2 d_change2 d_changeFrame2 d_from2 d_lostAt2 d_motor2 d_slips2 d_startFrame2 m_thrown2 m_trouble2 r) ∧ w = [(cO11_i1r1i10r1i2r5i2r12i3r4i2 h0 m_thrown2 a_tape m_taped m_size m_at m_end m_token m_whole m_nameSize m_fault m_place m_trouble2 a_letters m_failed m_hasHouse a_r a_fresh a_st a_undone a_kept m_undos m_images a_from a_begin a_motor a_change a_startFrame a_changeFrame a_lostAt a_blackAt a_slips a_leftArc a_died a_arcs m_bestSum m_nearest m_nearestTown a_there a_backAt a_sorted a_parts m_seed1 m_darkNow), (cAI g a_r 311 d_r), (cAI g a_st 44 d_st), (cAI g a_from 8 d_from2), (cAI g a_begin 8 d_begin2), (cAI g a_motor 8 d_motor2), (cAI g a_change 8 d_change2), (cAI g a_startFrame 8 d_startFrame2), (cAI g a_changeFrame 8 d_changeFrame2), (cAI g a_lostAt 8 d_lostAt2), (cAI g a_blackAt 8 d_blackAt2), (cAI g a_slips 8 d_slips2)]) := by
  refine cI.of (by decide) (Nat.le_of_ble_eq_true rfl) ?_
  intro p e s m args below meth c A X hr hi
  refine k_lveq [(0, .ref h0), (1, .int p0), (2, .int p1)] rfl ?_
  refine k_aload_n X dX11_changes_k0.1.1.1.1 0 rfl ?_
  refine k_callVV (n := 0) (As := []) (st := []) X [(cO11_i1r1i10r1i2r5i2r12i3r4i2 h0 m_thrown a_tape m_taped m_size m_at m_end m_token m_whole m_nameSize m_fault m_place m_trouble a_letters m_failed m_hasHouse a_r a_fresh a_st a_undone a_kept m_undos m_images a_from a_begin a_motor a_change a_startFrame a_changeFrame a_lostAt a_blackAt a_slips a_leftArc a_died a_arcs m_bestSum m_nearest m_nearestTown a_there a_backAt a_sorted a_parts m_seed1 m_darkNow)] [(cAI g a_r 311 d_r), (cAI g a_st 44 d_st), (cAI g a_from 8 d_from), (cAI g a_begin 8 d_begin), (cAI g a_motor 8 d_motor), (cAI g a_change 8 d_change), (cAI g a_startFrame 8 d_startFrame), (cAI g a_changeFrame 8 d_changeFrame), (cAI g a_lostAt 8 d_lostAt), (cAI g a_blackAt 8 d_blackAt), (cAI g a_slips 8 d_slips)] [0] [1, 2, 3, 4, 5, 6, 7, 8, 9, 10, 11] (m_goodX l g h0 m_thrown a_tape m_taped m_size m_at m_end m_token m_whole m_nameSize m_fault m_place m_trouble a_letters m_failed m_hasHouse a_r a_fresh a_st a_undone a_kept m_undos m_images a_from a_begin a_motor a_change a_startFrame a_changeFrame a_lostAt a_blackAt a_slips a_leftArc a_died a_arcs m_bestSum m_nearest m_nearestTown a_there a_backAt a_sorted a_parts m_seed1 m_darkNow) dX11_changes_k0.1.1.1.2 mw477 mw478 mw479 mw5 mw480 rfl 11 rfl rfl 0 _ rfl yk_yX11_good_0 rfl (Nat.le_of_ble_eq_true rfl) (Nat.le_of_ble_eq_true rfl) (Nat.le_of_ble_eq_true rfl) (Nat.le_of_ble_eq_true rfl) (Nat.le_of_ble_eq_true rfl) rfl rfl (by decide +kernel) rfl (by decide +kernel) (by decide +kernel) ?_
  rintro w ⟨m_thrown2_1, m_trouble2_2, hq_4, rfl⟩
  refine k_ws [(cAI g a_r 311 d_r), (cAI g a_st 44 d_st), (cAI g a_from 8 d_from), (cAI g a_begin 8 d_begin), (cAI g a_motor 8 d_motor), (cAI g a_change 8 d_change), (cAI g a_startFrame 8 d_startFrame), (cAI g a_changeFrame 8 d_changeFrame), (cAI g a_lostAt 8 d_lostAt), (cAI g a_blackAt 8 d_blackAt), (cAI g a_slips 8 d_slips), (cO11_i1r1i10r1i2r5i2r12i3r4i2 h0 m_thrown2_1 a_tape m_taped m_size m_at m_end m_token m_whole m_nameSize m_fault m_place m_trouble2_2 a_letters m_failed m_hasHouse a_r a_fresh a_st a_undone a_kept m_undos m_images a_from a_begin a_motor a_change a_startFrame a_changeFrame a_lostAt a_blackAt a_slips a_leftArc a_died a_arcs m_bestSum m_nearest m_nearestTown a_there a_backAt a_sorted a_parts m_seed1 m_darkNow)] rfl ?_
  refine k_aload_n X dX11_changes_k0.1.1.2.1 0 rfl ?_
  refine k_iload_n X dX11_changes_k0.1.1.2.2 1 rfl ?_
  refine k_iload_n X dX11_changes_k0.1.2.1.1 2 rfl ?_
  refine k_callVI (n := 2) (As := [.int p0, .int p1]) (st := []) X [(cO11_i1r1i10r1i2r5i2r12i3r4i2 h0 m_thrown2_1 a_tape m_taped m_size m_at m_end m_token m_whole m_nameSize m_fault m_place m_trouble2_2 a_letters m_failed m_hasHouse a_r a_fresh a_st a_undone a_kept m_undos m_images a_from a_begin a_motor a_change a_startFrame a_changeFrame a_lostAt a_blackAt a_slips a_leftArc a_died a_arcs m_bestSum m_nearest m_nearestTown a_there a_backAt a_sorted a_parts m_seed1 m_darkNow), (cAI g a_r 311 d_r), (cAI g a_st 44 d_st), (cAI g a_from 8 d_from), (cAI g a_begin 8 d_begin), (cAI g a_motor 8 d_motor), (cAI g a_change 8 d_change), (cAI g a_startFrame 8 d_startFrame), (cAI g a_changeFrame 8 d_changeFrame), (cAI g a_lostAt 8 d_lostAt), (cAI g a_blackAt 8 d_blackAt), (cAI g a_slips 8 d_slips)] [] [11, 0, 1, 2, 3, 4, 5, 6, 7, 8, 9, 10] [] (m_canTellX l g h0 p0 p1 m_thrown2_1 a_tape m_taped m_size m_at m_end m_token m_whole m_nameSize m_fault m_place m_trouble2_2 a_letters m_failed m_hasHouse a_r a_fresh a_st a_undone a_kept m_undos m_images a_from a_begin a_motor a_change a_startFrame a_changeFrame a_lostAt a_blackAt a_slips a_leftArc a_died a_arcs m_bestSum m_nearest m_nearestTown a_there a_backAt a_sorted a_parts m_seed1 m_darkNow d_r d_st d_from d_begin d_motor d_change d_startFrame d_changeFrame d_lostAt d_blackAt d_slips (iv_w hv_m_hasHouse (zle_e rfl) (zle_e rfl)) hp_d_r) dX11_changes_k0.1.2.1.2 mw807 mw808 mw809 mw5 mw810 rfl 11 rfl rfl 0 _ rfl yk_yX11_canTell_2 rfl (Nat.le_of_ble_eq_true rfl) (Nat.le_of_ble_eq_true rfl) (Nat.le_of_ble_eq_true rfl) (Nat.le_of_ble_eq_true rfl) (Nat.le_of_ble_eq_true rfl) rfl rfl (by decide +kernel) rfl (by decide +kernel) (by decide +kernel) ?_
  intro r_14 w zq
  refine exE9 zq ?_
  clear zq
  intro d_begin2_5 d_blackAt2_6 d_change2_7 d_changeFrame2_8 d_from2_9 d_lostAt2_10 d_motor2_11 d_slips2_12 d_startFrame2_13 iv_15 zq
  refine exA2 zq ?_
  clear zq
  intro hq_16 hk_17 zq
  subst zq
  refine k_ws [(cO11_i1r1i10r1i2r5i2r12i3r4i2 h0 m_thrown2_1 a_tape m_taped m_size m_at m_end m_token m_whole m_nameSize m_fault m_place m_trouble2_2 a_letters m_failed m_hasHouse a_r a_fresh a_st a_undone a_kept m_undos m_images a_from a_begin a_motor a_change a_startFrame a_changeFrame a_lostAt a_blackAt a_slips a_leftArc a_died a_arcs m_bestSum m_nearest m_nearestTown a_there a_backAt a_sorted a_parts m_seed1 m_darkNow), (cAI g a_r 311 d_r), (cAI g a_st 44 d_st), (cAI g a_from 8 d_from2_9), (cAI g a_begin 8 d_begin2_5), (cAI g a_motor 8 d_motor2_11), (cAI g a_change 8 d_change2_7), (cAI g a_startFrame 8 d_startFrame2_13), (cAI g a_changeFrame 8 d_changeFrame2_8), (cAI g a_lostAt 8 d_lostAt2_10), (cAI g a_blackAt 8 d_blackAt2_6), (cAI g a_slips 8 d_slips2_12)] rfl ?_
  refine k_if_eq 22 X dX11_changes_k0.1.2.2.1 (jp_e rfl) (fun h_18 => ?_) (fun h_18 => ?_)
  · skip
    have iv_19 : IV r_14 0 0 := iv_meet iv_15 (iv_e h_18 iq_0_0_0) (zle_o rfl) (zle_o rfl)
    refine k_aload_n X dX11_changes_k0.2.2.1.1 0 rfl ?_
    refine k_iconst (v := 1) X dX11_changes_k0.2.2.1.2 ic_1 ?_
    refine k_callVI (n := 1) (As := [.int 1]) (st := []) X [(cO11_i1r1i10r1i2r5i2r12i3r4i2 h0 m_thrown2_1 a_tape m_taped m_size m_at m_end m_token m_whole m_nameSize m_fault m_place m_trouble2_2 a_letters m_failed m_hasHouse a_r a_fresh a_st a_undone a_kept m_undos m_images a_from a_begin a_motor a_change a_startFrame a_changeFrame a_lostAt a_blackAt a_slips a_leftArc a_died a_arcs m_bestSum m_nearest m_nearestTown a_there a_backAt a_sorted a_parts m_seed1 m_darkNow)] [(cAI g a_r 311 d_r), (cAI g a_st 44 d_st), (cAI g a_from 8 d_from2_9), (cAI g a_begin 8 d_begin2_5), (cAI g a_motor 8 d_motor2_11), (cAI g a_change 8 d_change2_7), (cAI g a_startFrame 8 d_startFrame2_13), (cAI g a_changeFrame 8 d_changeFrame2_8), (cAI g a_lostAt 8 d_lostAt2_10), (cAI g a_blackAt 8 d_blackAt2_6), (cAI g a_slips 8 d_slips2_12)] [0] [1, 2, 3, 4, 5, 6, 7, 8, 9, 10, 11] (m_noX l g h0 1 m_thrown2_1 a_tape m_taped m_size m_at m_end m_token m_whole m_nameSize m_fault m_place m_trouble2_2 a_letters m_failed m_hasHouse a_r a_fresh a_st a_undone a_kept m_undos m_images a_from a_begin a_motor a_change a_startFrame a_changeFrame a_lostAt a_blackAt a_slips a_leftArc a_died a_arcs m_bestSum m_nearest m_nearestTown a_there a_backAt a_sorted a_parts m_seed1 m_darkNow) dX11_changes_k0.2.2.2.1 mw485 mw486 mw487 mw5 mw488 rfl 11 rfl rfl 0 _ rfl yk_yX11_no_1 rfl (Nat.le_of_ble_eq_true rfl) (Nat.le_of_ble_eq_true rfl) (Nat.le_of_ble_eq_true rfl) (Nat.le_of_ble_eq_true rfl) (Nat.le_of_ble_eq_true rfl) rfl rfl (by decide +kernel) rfl (by decide +kernel) (by decide +kernel) ?_
    rintro r_21 w ⟨m_trouble2_20, iv_22, hq_23, rfl⟩
    refine k_ws [(cAI g a_r 311 d_r), (cAI g a_st 44 d_st), (cAI g a_from 8 d_from2_9), (cAI g a_begin 8 d_begin2_5), (cAI g a_motor 8 d_motor2_11), (cAI g a_change 8 d_change2_7), (cAI g a_startFrame 8 d_startFrame2_13), (cAI g a_changeFrame 8 d_changeFrame2_8), (cAI g a_lostAt 8 d_lostAt2_10), (cAI g a_blackAt 8 d_blackAt2_6), (cAI g a_slips 8 d_slips2_12), (cO11_i1r1i10r1i2r5i2r12i3r4i2 h0 m_thrown2_1 a_tape m_taped m_size m_at m_end m_token m_whole m_nameSize m_fault m_place m_trouble2_20 a_letters m_failed m_hasHouse a_r a_fresh a_st a_undone a_kept m_undos m_images a_from a_begin a_motor a_change a_startFrame a_changeFrame a_lostAt a_blackAt a_slips a_leftArc a_died a_arcs m_bestSum m_nearest m_nearestTown a_there a_backAt a_sorted a_parts m_seed1 m_darkNow)] rfl ?_
    exact k_iret X hr dX11_changes_k0.2.2.2.2 (Nat.le_of_ble_eq_true rfl) (Nat.le_of_ble_eq_true rfl) [11, 0, 1, 2, 3, 4, 5, 6, 7, 8, 9, 10] (vnd_e rfl) rfl rfl (exI11 d_begin2_5 d_blackAt2_6 d_change2_7 d_changeFrame2_8 d_from2_9 d_lostAt2_10 d_motor2_11 d_slips2_12 d_startFrame2_13 m_thrown2_1 m_trouble2_20 ⟨⟨m_thrown2_1, m_trouble2_2, hq_4, (exI10 d_begin2_5 d_blackAt2_6 d_change2_7 d_changeFrame2_8 d_from2_9 d_lostAt2_10 d_motor2_11 d_slips2_12 d_startFrame2_13 r_14 ⟨hq_16, (Or.inl ⟨h_18, ⟨m_trouble2_20, r_21, hq_23, ⟨rfl, rfl, rfl, rfl, rfl, rfl, rfl, rfl, rfl, rfl, rfl, rfl⟩⟩⟩)⟩)⟩, rfl⟩)
  · skip
    have hc_24 := hk_17.resolve_left h_18
    have iv_25 : IV p0 0 3 := iv_meet (iv_any p0) hc_24.1 (zle_o rfl) (zle_o rfl)
    have iv_26 : IV p1 0 7 := iv_meet (iv_any p1) hc_24.2.1 (zle_o rfl) (zle_o rfl)
    have j_27 : p1.toInt < (d_r 12).toInt := hc_24.2.2
    have iv_28 : IV r_14 1 1 := iv_neL h_18 iv_15 iq_0_0_0 (zle_e rfl)
    refine k_aload_n X dX11_changes_k0.1.2.2.2 0 rfl ?_
    refine k_get (ci := 11) X inlX11 rfl 27 (nlt_e rfl) dX11_changes_k0.2.1.1.1 mw180 0 rfl rfl ?_
    refine k_iload_n X dX11_changes_k0.2.1.1.2 2 rfl ?_
    refine k_iald X dX11_changes_k0.2.1.2.1 8 rfl (iv_in iv_26 (zle_e rfl) (zle_l rfl)) ?_
    refine k_nm (fun z_29 ez_29 => ?_)
    refine k_goto 27 X dX11_changes_k0.2.1.2.2 (jp_e rfl) ?_
    exact k_iret X hr dX11_changes_k0.2.2.2.2 (Nat.le_of_ble_eq_true rfl) (Nat.le_of_ble_eq_true rfl) [0, 1, 2, 3, 4, 5, 6, 7, 8, 9, 10, 11] (vnd_e rfl) rfl rfl (exI11 d_begin2_5 d_blackAt2_6 d_change2_7 d_changeFrame2_8 d_from2_9 d_lostAt2_10 d_motor2_11 d_slips2_12 d_startFrame2_13 m_thrown2_1 m_trouble2_2 ⟨⟨m_thrown2_1, m_trouble2_2, hq_4, (exI10 d_begin2_5 d_blackAt2_6 d_change2_7 d_changeFrame2_8 d_from2_9 d_lostAt2_10 d_motor2_11 d_slips2_12 d_startFrame2_13 r_14 ⟨hq_16, (Or.inr ⟨h_18, ⟨z_29, ez_29, ⟨rfl, rfl, rfl, rfl, rfl, rfl, rfl, rfl, rfl, rfl, rfl, rfl⟩⟩⟩)⟩)⟩, rfl⟩)




set_option maxHeartbeats 4000000 in
set_option maxRecDepth 100000 in
theorem lx_feed {p : Program} {l : Launch} {e : Env} {R : Room} {s : State} {m : MethodId} {args : Array Value} {below : List Frame} {meth : Method} {c : Code} {Q : State → Prop} {A : Nat → Prop} {g : Gx} {cc : ByteArray} {nL n1 n2 pc : Nat} {own : String} {lv : List (Nat × Value)} {st : List Value} {xtpd : Int32} {tpf : Nat → Int32} {yhnf : Nat → Int32} {yhtn : Int32} {yhtf : Nat → Int32} {yhjn : Int32} {yhjf : Nat → Int32} {yhmn : Int32} {yhmf : Nat → Int32} {yhbn : Int32} {yhbf : Nat → Int32} {yhsn : Int32} {yhsf : Nat → Int32} {yhcn : Int32} {yhcf : Nat → Int32} {zrn : Int32} {zmn : Int32} {zwn : Int32} {zpn : Int32} {zmd : Int32} {ztr : Int32} {zrf : Nat → Int32} {zmf : Nat → Int32} {zwf : Nat → Int32} {zpf : Nat → Int32} {kac : Int32} {knx : Int32} {kim : Int32} {cf : Nat → SC} {h0 i : Nat} {wX wY : va_W} (a1 a2 a3 a4 a5 : Int32) (X : Cx p s m meth c args cc nL own A g) (hx : XW g h0 xtpd tpf yhnf yhtn yhtf yhjn yhjf yhmn yhmf yhbn yhbf yhsn yhsf yhcn yhcf zrn zmn zwn zpn zmd ztr zrf zmf zwf zpf kac knx kim cf wX) (hd : decode cc pc = .ok (.invokevirtual i, 3)) (hm1 : Cond.methodLink own i yX10_feed ∈ wsL_law0) (hf : 1 + 1 ≤ R.frames) (hlo : 8 + (6 + 11) + 22 ≤ R.locals) (hst : (st.map fun v => v.category).sum ≤ 8) (h1 : n1 ≤ R.cells) (h2 : n2 ≤ R.slots)
    (kont : ∀ (r : Int32) (xtpd_2 : Int32) (tpf_2 : Nat → Int32) (w2 : va_W), XW g h0 xtpd_2 tpf_2 yhnf yhtn yhtf yhjn yhjf yhmn yhmf yhbn yhbf yhsn yhsf yhcn yhcf zrn zmn zwn zpn zmd ztr zrf zmf zwf zpf kac knx kim cf w2 → R_c_feedX a1 a2 a3 a4 a5 xtpd tpf xtpd_2 tpf_2 r → Wk p l e R s m args below meth c Q A g nL n1 n2 (w2 ++ wY) lv (pc + 3) (.int r :: st)) : Wk p l e R s m args below meth c Q A g nL n1 n2 (wX ++ wY) lv pc ([.int a5, .int a4, .int a3, .int a2, .int a1] ++ .ref h0 :: st) := by
  refine XW_el hx (fun xN xI0 xI1 xJ1 xG2 xI3 xF3 xI4 xF4 xI5 xF5 xK xI10 xF10 xI11 xF11 xI12 xF12 xI13 xF13 xG13 xJ14 as pl h_xen h_xsta h_xpo h_xtpd h_kac h_knx h_kim hms hPL hkaf hkgf hlen hpm => ?_)
  refine k_callVIP (n := 5) (As := [.int a1, .int a2, .int a3, .int a4, .int a5]) (st := st) X [(cO10_rrrrrrrrri h0 (xN 0) (xN 1) (xN 2) (xN 3) (xN 4) (xN 5) (xN 6) (xN 7) (xN 8) (xI0 0)), ((xN 0), .inr (9, [.int xtpd, .ref (xN 9), .int (xI1 0), .int (xI1 1), .ref (xN 10), .int (xI1 2), .ref (xN 11), .ref (xN 12), .int (xI1 3), .int (xI1 4), .int (xI1 5), .int (xI1 6), .long (xJ1 0), .int (xI1 7), .int (xI1 8)])), ((xN 10), .inl (g.2.1, 900, .inl tpf))] (pkT [false, false, false] (XC g h0 xtpd tpf yhnf yhtn yhtf yhjn yhjf yhmn yhmf yhbn yhbf yhsn yhsf yhcn yhcf zrn zmn zwn zpn zmd ztr zrf zmf zwf zpf kac knx kim xN xI0 xI1 xJ1 xG2 xI3 xF3 xI4 xF4 xI5 xF5 xK xI10 xF10 xI11 xF11 xI12 xF12 xI13 xF13 xG13 xJ14) ++ (pl ++ wY)) (pm_X hpm (pk_pick [false, false, false] [(cO10_rrrrrrrrri h0 (xN 0) (xN 1) (xN 2) (xN 3) (xN 4) (xN 5) (xN 6) (xN 7) (xN 8) (xI0 0)), ((xN 0), .inr (9, [.int xtpd, .ref (xN 9), .int (xI1 0), .int (xI1 1), .ref (xN 10), .int (xI1 2), .ref (xN 11), .ref (xN 12), .int (xI1 3), .int (xI1 4), .int (xI1 5), .int (xI1 6), .long (xJ1 0), .int (xI1 7), .int (xI1 8)])), ((xN 10), .inl (g.2.1, 900, .inl tpf))] rfl (List.Perm.refl _))) (c_feedX l g h0 a1 a2 a3 a4 a5 (xN 0) (.ref (xN 1)) (.ref (xN 2)) (.ref (xN 3)) (.ref (xN 4)) (.ref (xN 5)) (.ref (xN 6)) (.ref (xN 7)) (.ref (xN 8)) (xI0 0) xtpd (xN 9) (xI1 0) (xI1 1) (xN 10) (xI1 2) (xN 11) (xN 12) (xI1 3) (xI1 4) (xI1 5) (xI1 6) (xJ1 0) (xI1 7) (xI1 8) tpf (iv_w h_xtpd (zle_e rfl) (zle_e rfl))) hd hm1 mw192 mw193 mw2 mw194 rfl 10 rfl rfl 0 _ rfl yk_yX10_feed_5 rfl hf hlo hst h1 h2 ?_
  rintro r w ⟨xtpd2_n, tpf2_n, iv0, hq0, hq1, rfl⟩
  refine k_perm _ pm_backX ?_
  exact kont r xtpd2_n tpf2_n _ (XW_mk xN xI0 xI1 xJ1 xG2 xI3 xF3 xI4 xF4 xI5 xF5 xK xI10 xF10 xI11 xF11 xI12 xF12 xI13 xF13 xG13 xJ14 as pl h_xen h_xsta h_xpo (iv_w iv0 (zle_e rfl) (zle_e rfl)) h_kac h_knx h_kim hms hPL hkaf hkgf hlen (pk_backR [false, false, false] [(cO10_rrrrrrrrri h0 (xN 0) (xN 1) (xN 2) (xN 3) (xN 4) (xN 5) (xN 6) (xN 7) (xN 8) (xI0 0)), ((xN 0), .inr (9, [.int xtpd2_n, .ref (xN 9), .int (xI1 0), .int (xI1 1), .ref (xN 10), .int (xI1 2), .ref (xN 11), .ref (xN 12), .int (xI1 3), .int (xI1 4), .int (xI1 5), .int (xI1 6), .long (xJ1 0), .int (xI1 7), .int (xI1 8)])), ((xN 10), .inl (g.2.1, 900, .inl tpf2_n))] rfl rfl (List.Perm.refl _))) hq1

set_option maxHeartbeats 4000000 in
set_option maxRecDepth 100000 in
theorem lm_feed {p : Program} {l : Launch} {e : Env} {R : Room} {s : State} {m : MethodId} {args : Array Value} {below : List Frame} {meth : Method} {c : Code} {Q : State → Prop} {A : Nat → Prop} {g : Gx} {cc : ByteArray} {nL n1 n2 pc : Nat} {own : String} {lv : List (Nat × Value)} {st : List Value} {m_taped : Int32} {d_tape : Nat → Int32} {d_r : Nat → Int32} {d_st : Nat → Int32} {d_undone : Nat → Int32} {d_kept : Nat → Int32} {m_undos : Int32} {m_images : Int32} {m_hasHouse : Int32} {mo i : Nat} {wX wM wO : va_W} (a1 a2 a3 a4 a5 : Int32) (X : Cx p s m meth c args cc nL own A g) (hx : MW g mo m_taped d_tape d_r d_st d_undone d_kept m_undos m_images m_hasHouse wM) (hd : decode cc pc = .ok (.invokevirtual i, 3)) (hm1 : Cond.methodLink own i yX11_feed ∈ wsL_law0) (hf : 0 + 1 ≤ R.frames) (hlo : 8 + (8 + 11) + 0 ≤ R.locals) (hst : (st.map fun v => v.category).sum ≤ 8) (h1 : n1 ≤ R.cells) (h2 : n2 ≤ R.slots)
    (kont : ∀ (r : Int32) (m_taped_2 : Int32) (d_tape_2 : Nat → Int32) (w2 : va_W), MW g mo m_taped_2 d_tape_2 d_r d_st d_undone d_kept m_undos m_images m_hasHouse w2 → (∃ th : Int32, R_m_feedX a1 a2 a3 a4 a5 m_taped d_tape d_tape_2 m_taped_2 th r) → Wk p l e R s m args below meth c Q A g nL n1 n2 (wX ++ (w2 ++ wO)) lv (pc + 3) (.int r :: st)) : Wk p l e R s m args below meth c Q A g nL n1 n2 (wX ++ (wM ++ wO)) lv pc ([.int a5, .int a4, .int a3, .int a2, .int a1] ++ .ref mo :: st) := by
  refine MW_el hx (fun mI mN mFletters mFfresh mFfrom mFbegin mFmotor mFchange mFstartFrame mFchangeFrame mFlostAt mFblackAt mFslips mFleftArc mFdied mFarcs mFthere mFbackAt mFsorted mFparts h_m_size h_m_end h_m_nameSize h_m_failed h_m_hasHouse h_m_undos h_m_images h_m_taped hRr hRf hTr hpm => ?_)
  refine k_callVIP (n := 5) (As := [.int a1, .int a2, .int a3, .int a4, .int a5]) (st := st) X [(cO11_i1r1i10r1i2r5i2r12i3r4i2 mo (mI 0) (mN 0) m_taped (mI 1) (mI 2) (mI 3) (mI 4) (mI 5) (mI 6) (mI 7) (mI 8) (mI 9) (mN 1) (mI 10) m_hasHouse (mN 2) (mN 3) (mN 4) (mN 5) (mN 6) m_undos m_images (mN 7) (mN 8) (mN 9) (mN 10) (mN 11) (mN 12) (mN 13) (mN 14) (mN 15) (mN 16) (mN 17) (mN 18) (mI 11) (mI 12) (mI 13) (mN 19) (mN 20) (mN 21) (mN 22) (mI 14) (mI 15)), ((mN 0), .inl (g.2.2.1, 900, .inl d_tape))] (pkT [false, false] (MC g mo m_taped d_tape d_r d_st d_undone d_kept m_undos m_images m_hasHouse mI mN mFletters mFfresh mFfrom mFbegin mFmotor mFchange mFstartFrame mFchangeFrame mFlostAt mFblackAt mFslips mFleftArc mFdied mFarcs mFthere mFbackAt mFsorted mFparts) ++ (wX ++ wO)) (pm_M hpm (pk_pick [false, false] [(cO11_i1r1i10r1i2r5i2r12i3r4i2 mo (mI 0) (mN 0) m_taped (mI 1) (mI 2) (mI 3) (mI 4) (mI 5) (mI 6) (mI 7) (mI 8) (mI 9) (mN 1) (mI 10) m_hasHouse (mN 2) (mN 3) (mN 4) (mN 5) (mN 6) m_undos m_images (mN 7) (mN 8) (mN 9) (mN 10) (mN 11) (mN 12) (mN 13) (mN 14) (mN 15) (mN 16) (mN 17) (mN 18) (mI 11) (mI 12) (mI 13) (mN 19) (mN 20) (mN 21) (mN 22) (mI 14) (mI 15)), ((mN 0), .inl (g.2.2.1, 900, .inl d_tape))] rfl (List.Perm.refl _))) (m_feedX l g mo a1 a2 a3 a4 a5 (mI 0) (mN 0) m_taped (mI 1) (mI 2) (mI 3) (mI 4) (mI 5) (mI 6) (mI 7) (mI 8) (mI 9) (mN 1) (mI 10) m_hasHouse (mN 2) (mN 3) (mN 4) (mN 5) (mN 6) m_undos m_images (mN 7) (mN 8) (mN 9) (mN 10) (mN 11) (mN 12) (mN 13) (mN 14) (mN 15) (mN 16) (mN 17) (mN 18) (mI 11) (mI 12) (mI 13) (mN 19) (mN 20) (mN 21) (mN 22) (mI 14) (mI 15) d_tape (iv_w h_m_taped (zle_e rfl) (zle_e rfl))) hd hm1 mw201 mw202 mw5 mw203 rfl 11 rfl rfl 0 _ rfl yk_yX11_feed_5 rfl hf hlo hst h1 h2 ?_
  rintro r w ⟨d_tape2_n, m_taped2_n, m_thrown2_n, iv0, hq0, hq1, rfl⟩
  refine k_perm _ pm_backM ?_
  exact kont r m_taped2_n d_tape2_n _ (MW_mk (uu mI 0 m_thrown2_n) mN mFletters mFfresh mFfrom mFbegin mFmotor mFchange mFstartFrame mFchangeFrame mFlostAt mFblackAt mFslips mFleftArc mFdied mFarcs mFthere mFbackAt mFsorted mFparts h_m_size h_m_end h_m_nameSize h_m_failed h_m_hasHouse h_m_undos h_m_images (iv_w iv0 (zle_e rfl) (zle_e rfl)) hRr hRf hTr (pk_back [false, false] [(cO11_i1r1i10r1i2r5i2r12i3r4i2 mo m_thrown2_n (mN 0) m_taped2_n (mI 1) (mI 2) (mI 3) (mI 4) (mI 5) (mI 6) (mI 7) (mI 8) (mI 9) (mN 1) (mI 10) m_hasHouse (mN 2) (mN 3) (mN 4) (mN 5) (mN 6) m_undos m_images (mN 7) (mN 8) (mN 9) (mN 10) (mN 11) (mN 12) (mN 13) (mN 14) (mN 15) (mN 16) (mN 17) (mN 18) (mI 11) (mI 12) (mI 13) (mN 19) (mN 20) (mN 21) (mN 22) (mI 14) (mI 15)), ((mN 0), .inl (g.2.2.1, 900, .inl d_tape2_n))] rfl rfl (List.Perm.refl _))) ⟨_, hq1⟩

set_option maxHeartbeats 4000000 in
set_option maxRecDepth 100000 in
theorem lx_house {p : Program} {l : Launch} {e : Env} {R : Room} {s : State} {m : MethodId} {args : Array Value} {below : List Frame} {meth : Method} {c : Code} {Q : State → Prop} {A : Nat → Prop} {g : Gx} {cc : ByteArray} {nL n1 n2 pc : Nat} {own : String} {lv : List (Nat × Value)} {st : List Value} {xtpd : Int32} {tpf : Nat → Int32} {yhnf : Nat → Int32} {yhtn : Int32} {yhtf : Nat → Int32} {yhjn : Int32} {yhjf : Nat → Int32} {yhmn : Int32} {yhmf : Nat → Int32} {yhbn : Int32} {yhbf : Nat → Int32} {yhsn : Int32} {yhsf : Nat → Int32} {yhcn : Int32} {yhcf : Nat → Int32} {zrn : Int32} {zmn : Int32} {zwn : Int32} {zpn : Int32} {zmd : Int32} {ztr : Int32} {zrf : Nat → Int32} {zmf : Nat → Int32} {zwf : Nat → Int32} {zpf : Nat → Int32} {kac : Int32} {knx : Int32} {kim : Int32} {cf : Nat → SC} {h0 i : Nat} {wX wY : va_W} (a1 : Int32) (X : Cx p s m meth c args cc nL own A g) (hx : XW g h0 xtpd tpf yhnf yhtn yhtf yhjn yhjf yhmn yhmf yhbn yhbf yhsn yhsf yhcn yhcf zrn zmn zwn zpn zmd ztr zrf zmf zwf zpf kac knx kim cf wX) (hd : decode cc pc = .ok (.invokevirtual i, 3)) (hm1 : Cond.methodLink own i yX10_house ∈ wsL_law0) (hf : 10 + 1 ≤ R.frames) (hlo : 8 + (2 + 11) + 216 ≤ R.locals) (hst : (st.map fun v => v.category).sum ≤ 8) (h1 : n1 ≤ R.cells) (h2 : n2 ≤ R.slots)
    (kont : ∀ (r : Int32) (xtpd_2 : Int32) (yhnf_2 : Nat → Int32) (yhtn_2 : Int32) (yhtf_2 : Nat → Int32) (yhjn_2 : Int32) (yhjf_2 : Nat → Int32) (yhmn_2 : Int32) (yhmf_2 : Nat → Int32) (yhbn_2 : Int32) (yhbf_2 : Nat → Int32) (yhsn_2 : Int32) (yhsf_2 : Nat → Int32) (yhcn_2 : Int32) (yhcf_2 : Nat → Int32) (zrn_2 : Int32) (zmn_2 : Int32) (zwn_2 : Int32) (zpn_2 : Int32) (zmd_2 : Int32) (ztr_2 : Int32) (zrf_2 : Nat → Int32) (zmf_2 : Nat → Int32) (zwf_2 : Nat → Int32) (zpf_2 : Nat → Int32) (kac_2 : Int32) (kim_2 : Int32) (w2 : va_W), XW g h0 xtpd_2 tpf yhnf_2 yhtn_2 yhtf_2 yhjn_2 yhjf_2 yhmn_2 yhmf_2 yhbn_2 yhbf_2 yhsn_2 yhsf_2 yhcn_2 yhcf_2 zrn_2 zmn_2 zwn_2 zpn_2 zmd_2 ztr_2 zrf_2 zmf_2 zwf_2 zpf_2 kac_2 knx kim_2 cf w2 → HXS a1 xtpd tpf yhnf yhtn yhtf yhjn yhjf yhmn yhmf yhbn yhbf yhsn yhsf yhcn yhcf zrn zmn zwn zpn zmd ztr zrf zmf zwf zpf kac kim xtpd_2 yhnf_2 yhtn_2 yhtf_2 yhjn_2 yhjf_2 yhmn_2 yhmf_2 yhbn_2 yhbf_2 yhsn_2 yhsf_2 yhcn_2 yhcf_2 zrn_2 zmn_2 zwn_2 zpn_2 zmd_2 ztr_2 zrf_2 zmf_2 zwf_2 zpf_2 kac_2 kim_2 → Wk p l e R s m args below meth c Q A g nL n1 n2 (w2 ++ wY) lv (pc + 3) (.int r :: st)) : Wk p l e R s m args below meth c Q A g nL n1 n2 (wX ++ wY) lv pc ([.int a1] ++ .ref h0 :: st) := by
  refine XW_el hx (fun xN xI0 xI1 xJ1 xG2 xI3 xF3 xI4 xF4 xI5 xF5 xK xI10 xF10 xI11 xF11 xI12 xF12 xI13 xF13 xG13 xJ14 as pl h_xen h_xsta h_xpo h_xtpd h_kac h_knx h_kim hms hPL hkaf hkgf hlen hpm => ?_)
  refine k_callVIP (n := 1) (As := [.int a1]) (st := st) X ((cO10_rrrrrrrrri h0 (xN 0) (xN 1) (xN 2) (xN 3) (xN 4) (xN 5) (xN 6) (xN 7) (xN 8) (xI0 0)) :: ((xN 0), .inr (9, [.int xtpd, .ref (xN 9), .int (xI1 0), .int (xI1 1), .ref (xN 10), .int (xI1 2), .ref (xN 11), .ref (xN 12), .int (xI1 3), .int (xI1 4), .int (xI1 5), .int (xI1 6), .long (xJ1 0), .int (xI1 7), .int (xI1 8)])) :: ((xN 10), .inl (g.2.1, 900, .inl tpf)) :: ((xN 11), .inl (g.2.2.2.1, 16, .inr (.inl (xG2 0)))) :: ((xN 12), .inr (8, [.int 16, .int 2, .ref (xN 13), .int (xI3 0)])) :: ((xN 13), .inl (g.2.2.1, 32, .inl (xF3 0))) :: ((xN 9), .inr (3, [.ref (xN 14), .ref (xN 15), .ref (xN 16), .ref (xN 17), .ref (xN 18), .ref (xN 19), .ref (xN 20), .ref (xN 21)])) :: ((xN 14), .inr (7, [.ref (xN 22), .ref (xN 23), .ref (xN 24), .ref (xN 25), .int (xI4 0), .int (xI4 1)])) :: ((xN 22), .inr (8, [.int 8, .int 3, .ref (xN 26), .int (xI4 2)])) :: ((xN 26), .inl (g.2.2.1, 24, .inl (xF4 0))) :: ((xN 23), .inr (8, [.int 12, .int 3, .ref (xN 27), .int (xI4 3)])) :: ((xN 27), .inl (g.2.2.1, 36, .inl (xF4 1))) :: ((xN 24), .inr (8, [.int 6, .int 3, .ref (xN 28), .int (xI4 4)])) :: ((xN 28), .inl (g.2.2.1, 18, .inl (xF4 2))) :: ((xN 25), .inr (8, [.int 8, .int 2, .ref (xN 29), .int (xI4 5)])) :: ((xN 29), .inl (g.2.2.1, 16, .inl (xF4 3))) :: ((xN 15), .inr (8, [.int 1, .int 6, .ref (xN 30), .int (xI4 6)])) :: ((xN 30), .inl (g.2.2.1, 6, .inl (xF4 4))) :: ((xN 16), .inr (8, [.int 4, .int 1, .ref (xN 31), .int (xI4 7)])) :: ((xN 31), .inl (g.2.2.1, 4, .inl (xF4 5))) :: ((xN 17), .inr (8, [.int 8, .int 2, .ref (xN 32), .int (xI4 8)])) :: ((xN 32), .inl (g.2.2.1, 16, .inl (xF4 6))) :: ((xN 18), .inr (8, [.int 4, .int 3, .ref (xN 33), .int (xI4 9)])) :: ((xN 33), .inl (g.2.2.1, 12, .inl (xF4 7))) :: ((xN 19), .inr (8, [.int 1, .int 3, .ref (xN 34), .int (xI4 10)])) :: ((xN 34), .inl (g.2.2.1, 3, .inl (xF4 8))) :: ((xN 20), .inr (8, [.int 6, .int 3, .ref (xN 35), .int (xI4 11)])) :: ((xN 35), .inl (g.2.2.1, 18, .inl (xF4 9))) :: ((xN 21), .inr (8, [.int 6, .int 2, .ref (xN 36), .int (xI4 12)])) :: ((xN 36), .inl (g.2.2.1, 12, .inl (xF4 10))) :: ((xN 1), .inr (3, [.ref (xN 37), .ref (xN 38), .ref (xN 39), .ref (xN 40), .ref (xN 41), .ref (xN 42), .ref (xN 43), .ref (xN 44)])) :: ((xN 37), .inr (7, [.ref (xN 45), .ref (xN 46), .ref (xN 47), .ref (xN 48), .int (xI5 0), .int (xI5 1)])) :: ((xN 45), .inr (8, [.int 8, .int 3, .ref (xN 49), .int (xI5 2)])) :: ((xN 49), .inl (g.2.2.1, 24, .inl (xF5 0))) :: ((xN 46), .inr (8, [.int 12, .int 3, .ref (xN 50), .int (xI5 3)])) :: ((xN 50), .inl (g.2.2.1, 36, .inl (xF5 1))) :: ((xN 47), .inr (8, [.int 6, .int 3, .ref (xN 51), .int (xI5 4)])) :: ((xN 51), .inl (g.2.2.1, 18, .inl (xF5 2))) :: ((xN 48), .inr (8, [.int 8, .int 2, .ref (xN 52), .int (xI5 5)])) :: ((xN 52), .inl (g.2.2.1, 16, .inl (xF5 3))) :: ((xN 38), .inr (8, [.int 1, .int 6, .ref (xN 53), .int (xI5 6)])) :: ((xN 53), .inl (g.2.2.1, 6, .inl yhnf)) :: ((xN 39), .inr (8, [.int 4, .int 1, .ref (xN 54), .int yhtn])) :: ((xN 54), .inl (g.2.2.1, 4, .inl yhtf)) :: ((xN 40), .inr (8, [.int 8, .int 2, .ref (xN 55), .int yhjn])) :: ((xN 55), .inl (g.2.2.1, 16, .inl yhjf)) :: ((xN 41), .inr (8, [.int 4, .int 3, .ref (xN 56), .int yhmn])) :: ((xN 56), .inl (g.2.2.1, 12, .inl yhmf)) :: ((xN 42), .inr (8, [.int 1, .int 3, .ref (xN 57), .int yhbn])) :: ((xN 57), .inl (g.2.2.1, 3, .inl yhbf)) :: ((xN 43), .inr (8, [.int 6, .int 3, .ref (xN 58), .int yhsn])) :: ((xN 58), .inl (g.2.2.1, 18, .inl yhsf)) :: ((xN 44), .inr (8, [.int 6, .int 2, .ref (xN 59), .int yhcn])) :: ((xN 59), .inl (g.2.2.1, 12, .inl yhcf)) :: ((xN 2), .inr (7, [.ref (xN 60), .ref (xN 61), .ref (xN 62), .ref (xN 63), .int zmd, .int ztr])) :: ((xN 60), .inr (8, [.int 8, .int 3, .ref (xN 64), .int zrn])) :: ((xN 64), .inl (g.2.2.1, 24, .inl zrf)) :: ((xN 61), .inr (8, [.int 12, .int 3, .ref (xN 65), .int zmn])) :: ((xN 65), .inl (g.2.2.1, 36, .inl zmf)) :: ((xN 62), .inr (8, [.int 6, .int 3, .ref (xN 66), .int zwn])) :: ((xN 66), .inl (g.2.2.1, 18, .inl zwf)) :: ((xN 63), .inr (8, [.int 8, .int 2, .ref (xN 67), .int zpn])) :: ((xN 67), .inl (g.2.2.1, 16, .inl zpf)) :: ((xN 3), .inr (4, [.ref (xN 68), .ref (xN 69), .int kac, .int knx, .int kim])) :: []) (pkT (false :: false :: false :: false :: false :: false :: false :: false :: false :: false :: false :: false :: false :: false :: false :: false :: false :: false :: false :: false :: false :: false :: false :: false :: false :: false :: false :: false :: false :: false :: false :: false :: false :: false :: false :: false :: false :: false :: false :: false :: false :: false :: false :: false :: false :: false :: false :: false :: false :: false :: false :: false :: false :: false :: false :: false :: false :: false :: false :: false :: false :: false :: false :: false :: []) (XC g h0 xtpd tpf yhnf yhtn yhtf yhjn yhjf yhmn yhmf yhbn yhbf yhsn yhsf yhcn yhcf zrn zmn zwn zpn zmd ztr zrf zmf zwf zpf kac knx kim xN xI0 xI1 xJ1 xG2 xI3 xF3 xI4 xF4 xI5 xF5 xK xI10 xF10 xI11 xF11 xI12 xF12 xI13 xF13 xG13 xJ14) ++ (pl ++ wY)) (pm_X hpm (pk_pick (false :: false :: false :: false :: false :: false :: false :: false :: false :: false :: false :: false :: false :: false :: false :: false :: false :: false :: false :: false :: false :: false :: false :: false :: false :: false :: false :: false :: false :: false :: false :: false :: false :: false :: false :: false :: false :: false :: false :: false :: false :: false :: false :: false :: false :: false :: false :: false :: false :: false :: false :: false :: false :: false :: false :: false :: false :: false :: false :: false :: false :: false :: false :: false :: []) ((cO10_rrrrrrrrri h0 (xN 0) (xN 1) (xN 2) (xN 3) (xN 4) (xN 5) (xN 6) (xN 7) (xN 8) (xI0 0)) :: ((xN 0), .inr (9, [.int xtpd, .ref (xN 9), .int (xI1 0), .int (xI1 1), .ref (xN 10), .int (xI1 2), .ref (xN 11), .ref (xN 12), .int (xI1 3), .int (xI1 4), .int (xI1 5), .int (xI1 6), .long (xJ1 0), .int (xI1 7), .int (xI1 8)])) :: ((xN 10), .inl (g.2.1, 900, .inl tpf)) :: ((xN 11), .inl (g.2.2.2.1, 16, .inr (.inl (xG2 0)))) :: ((xN 12), .inr (8, [.int 16, .int 2, .ref (xN 13), .int (xI3 0)])) :: ((xN 13), .inl (g.2.2.1, 32, .inl (xF3 0))) :: ((xN 9), .inr (3, [.ref (xN 14), .ref (xN 15), .ref (xN 16), .ref (xN 17), .ref (xN 18), .ref (xN 19), .ref (xN 20), .ref (xN 21)])) :: ((xN 14), .inr (7, [.ref (xN 22), .ref (xN 23), .ref (xN 24), .ref (xN 25), .int (xI4 0), .int (xI4 1)])) :: ((xN 22), .inr (8, [.int 8, .int 3, .ref (xN 26), .int (xI4 2)])) :: ((xN 26), .inl (g.2.2.1, 24, .inl (xF4 0))) :: ((xN 23), .inr (8, [.int 12, .int 3, .ref (xN 27), .int (xI4 3)])) :: ((xN 27), .inl (g.2.2.1, 36, .inl (xF4 1))) :: ((xN 24), .inr (8, [.int 6, .int 3, .ref (xN 28), .int (xI4 4)])) :: ((xN 28), .inl (g.2.2.1, 18, .inl (xF4 2))) :: ((xN 25), .inr (8, [.int 8, .int 2, .ref (xN 29), .int (xI4 5)])) :: ((xN 29), .inl (g.2.2.1, 16, .inl (xF4 3))) :: ((xN 15), .inr (8, [.int 1, .int 6, .ref (xN 30), .int (xI4 6)])) :: ((xN 30), .inl (g.2.2.1, 6, .inl (xF4 4))) :: ((xN 16), .inr (8, [.int 4, .int 1, .ref (xN 31), .int (xI4 7)])) :: ((xN 31), .inl (g.2.2.1, 4, .inl (xF4 5))) :: ((xN 17), .inr (8, [.int 8, .int 2, .ref (xN 32), .int (xI4 8)])) :: ((xN 32), .inl (g.2.2.1, 16, .inl (xF4 6))) :: ((xN 18), .inr (8, [.int 4, .int 3, .ref (xN 33), .int (xI4 9)])) :: ((xN 33), .inl (g.2.2.1, 12, .inl (xF4 7))) :: ((xN 19), .inr (8, [.int 1, .int 3, .ref (xN 34), .int (xI4 10)])) :: ((xN 34), .inl (g.2.2.1, 3, .inl (xF4 8))) :: ((xN 20), .inr (8, [.int 6, .int 3, .ref (xN 35), .int (xI4 11)])) :: ((xN 35), .inl (g.2.2.1, 18, .inl (xF4 9))) :: ((xN 21), .inr (8, [.int 6, .int 2, .ref (xN 36), .int (xI4 12)])) :: ((xN 36), .inl (g.2.2.1, 12, .inl (xF4 10))) :: ((xN 1), .inr (3, [.ref (xN 37), .ref (xN 38), .ref (xN 39), .ref (xN 40), .ref (xN 41), .ref (xN 42), .ref (xN 43), .ref (xN 44)])) :: ((xN 37), .inr (7, [.ref (xN 45), .ref (xN 46), .ref (xN 47), .ref (xN 48), .int (xI5 0), .int (xI5 1)])) :: ((xN 45), .inr (8, [.int 8, .int 3, .ref (xN 49), .int (xI5 2)])) :: ((xN 49), .inl (g.2.2.1, 24, .inl (xF5 0))) :: ((xN 46), .inr (8, [.int 12, .int 3, .ref (xN 50), .int (xI5 3)])) :: ((xN 50), .inl (g.2.2.1, 36, .inl (xF5 1))) :: ((xN 47), .inr (8, [.int 6, .int 3, .ref (xN 51), .int (xI5 4)])) :: ((xN 51), .inl (g.2.2.1, 18, .inl (xF5 2))) :: ((xN 48), .inr (8, [.int 8, .int 2, .ref (xN 52), .int (xI5 5)])) :: ((xN 52), .inl (g.2.2.1, 16, .inl (xF5 3))) :: ((xN 38), .inr (8, [.int 1, .int 6, .ref (xN 53), .int (xI5 6)])) :: ((xN 53), .inl (g.2.2.1, 6, .inl yhnf)) :: ((xN 39), .inr (8, [.int 4, .int 1, .ref (xN 54), .int yhtn])) :: ((xN 54), .inl (g.2.2.1, 4, .inl yhtf)) :: ((xN 40), .inr (8, [.int 8, .int 2, .ref (xN 55), .int yhjn])) :: ((xN 55), .inl (g.2.2.1, 16, .inl yhjf)) :: ((xN 41), .inr (8, [.int 4, .int 3, .ref (xN 56), .int yhmn])) :: ((xN 56), .inl (g.2.2.1, 12, .inl yhmf)) :: ((xN 42), .inr (8, [.int 1, .int 3, .ref (xN 57), .int yhbn])) :: ((xN 57), .inl (g.2.2.1, 3, .inl yhbf)) :: ((xN 43), .inr (8, [.int 6, .int 3, .ref (xN 58), .int yhsn])) :: ((xN 58), .inl (g.2.2.1, 18, .inl yhsf)) :: ((xN 44), .inr (8, [.int 6, .int 2, .ref (xN 59), .int yhcn])) :: ((xN 59), .inl (g.2.2.1, 12, .inl yhcf)) :: ((xN 2), .inr (7, [.ref (xN 60), .ref (xN 61), .ref (xN 62), .ref (xN 63), .int zmd, .int ztr])) :: ((xN 60), .inr (8, [.int 8, .int 3, .ref (xN 64), .int zrn])) :: ((xN 64), .inl (g.2.2.1, 24, .inl zrf)) :: ((xN 61), .inr (8, [.int 12, .int 3, .ref (xN 65), .int zmn])) :: ((xN 65), .inl (g.2.2.1, 36, .inl zmf)) :: ((xN 62), .inr (8, [.int 6, .int 3, .ref (xN 66), .int zwn])) :: ((xN 66), .inl (g.2.2.1, 18, .inl zwf)) :: ((xN 63), .inr (8, [.int 8, .int 2, .ref (xN 67), .int zpn])) :: ((xN 67), .inl (g.2.2.1, 16, .inl zpf)) :: ((xN 3), .inr (4, [.ref (xN 68), .ref (xN 69), .int kac, .int knx, .int kim])) :: []) rfl (List.Perm.refl _))) (c_houseX l g h0 a1 (xN 0) (xN 1) (xN 2) (xN 3) (.ref (xN 4)) (.ref (xN 5)) (.ref (xN 6)) (.ref (xN 7)) (.ref (xN 8)) (xI0 0) xtpd (xN 9) (xI1 0) (xI1 1) (xN 10) (xI1 2) (xN 11) (xN 12) (xI1 3) (xI1 4) (xI1 5) (xI1 6) (xJ1 0) (xI1 7) (xI1 8) tpf (xG2 0) (xN 13) (xI3 0) (xF3 0) (xN 14) (xN 15) (xN 16) (xN 17) (xN 18) (xN 19) (xN 20) (xN 21) (xN 22) (xN 23) (xN 24) (xN 25) (xI4 0) (xI4 1) (xN 26) (xI4 2) (xF4 0) (xN 27) (xI4 3) (xF4 1) (xN 28) (xI4 4) (xF4 2) (xN 29) (xI4 5) (xF4 3) (xN 30) (xI4 6) (xF4 4) (xN 31) (xI4 7) (xF4 5) (xN 32) (xI4 8) (xF4 6) (xN 33) (xI4 9) (xF4 7) (xN 34) (xI4 10) (xF4 8) (xN 35) (xI4 11) (xF4 9) (xN 36) (xI4 12) (xF4 10) (xN 37) (xN 38) (xN 39) (xN 40) (xN 41) (xN 42) (xN 43) (xN 44) (xN 45) (xN 46) (xN 47) (xN 48) (xI5 0) (xI5 1) (xN 49) (xI5 2) (xF5 0) (xN 50) (xI5 3) (xF5 1) (xN 51) (xI5 4) (xF5 2) (xN 52) (xI5 5) (xF5 3) (xN 53) (xI5 6) yhnf (xN 54) yhtn yhtf (xN 55) yhjn yhjf (xN 56) yhmn yhmf (xN 57) yhbn yhbf (xN 58) yhsn yhsf (xN 59) yhcn yhcf (xN 60) (xN 61) (xN 62) (xN 63) zmd ztr (xN 64) zrn zrf (xN 65) zmn zmf (xN 66) zwn zwf (xN 67) zpn zpf (xN 68) (xN 69) kac knx kim (iv_w h_xen (zle_e rfl) (zle_e rfl)) (iv_w h_xsta (zle_e rfl) (zle_e rfl)) (iv_w h_xpo (zle_e rfl) (zle_e rfl)) (iv_w h_xtpd (zle_e rfl) (zle_e rfl)) (iv_w h_kac (zle_e rfl) (zle_e rfl)) (iv_w h_kim (zle_e rfl) (zle_e rfl))) hd hm1 mw207 mw208 mw2 mw209 rfl 10 rfl rfl 0 _ rfl yk_yX10_house_1 rfl hf hlo hst h1 h2 ?_
  intro r w
  refine (fun hh_0 => Exists.elim hh_0 (fun tr2_n hh_1 => Exists.elim hh_1 (fun xfn2_n hh_2 => Exists.elim hh_2 (fun xfp2_n hh_3 => Exists.elim hh_3 (fun xkd2_n hh_4 => Exists.elim hh_4 (fun xsta2_n hh_5 => Exists.elim hh_5 (fun xpo2_n hh_6 => Exists.elim hh_6 (fun xva2_n hh_7 => Exists.elim hh_7 (fun xle2_n hh_8 => Exists.elim hh_8 (fun xtk2_n hh_9 => Exists.elim hh_9 (fun xta2_n hh_10 => Exists.elim hh_10 (fun xtpd2_n hh_11 => Exists.elim hh_11 (fun xen2_n hh_12 => Exists.elim hh_12 (fun nmfg_n hh_13 => Exists.elim hh_13 (fun ndfg_n hh_14 => Exists.elim hh_14 (fun ndnk_n hh_15 => Exists.elim hh_15 (fun qrg_n hh_16 => Exists.elim hh_16 (fun qmg_n hh_17 => Exists.elim hh_17 (fun qwg_n hh_18 => Exists.elim hh_18 (fun qpg_n hh_19 => Exists.elim hh_19 (fun qrk_n hh_20 => Exists.elim hh_20 (fun qmk_n hh_21 => Exists.elim hh_21 (fun qwk_n hh_22 => Exists.elim hh_22 (fun qpk_n hh_23 => Exists.elim hh_23 (fun qmd2_n hh_24 => Exists.elim hh_24 (fun qtr2_n hh_25 => Exists.elim hh_25 (fun qhng_n hh_26 => Exists.elim hh_26 (fun qhtg_n hh_27 => Exists.elim hh_27 (fun qhjg_n hh_28 => Exists.elim hh_28 (fun qhmg_n hh_29 => Exists.elim hh_29 (fun qhbg_n hh_30 => Exists.elim hh_30 (fun qhsg_n hh_31 => Exists.elim hh_31 (fun qhcg_n hh_32 => Exists.elim hh_32 (fun qhnk_n hh_33 => Exists.elim hh_33 (fun qhtk_n hh_34 => Exists.elim hh_34 (fun qhjk_n hh_35 => Exists.elim hh_35 (fun qhmk_n hh_36 => Exists.elim hh_36 (fun qhbk_n hh_37 => Exists.elim hh_37 (fun qhsk_n hh_38 => Exists.elim hh_38 (fun qhck_n hh_39 => Exists.elim hh_39 (fun yrg_n hh_40 => Exists.elim hh_40 (fun ymg_n hh_41 => Exists.elim hh_41 (fun ywg_n hh_42 => Exists.elim hh_42 (fun ypg_n hh_43 => Exists.elim hh_43 (fun yrk_n hh_44 => Exists.elim hh_44 (fun ymk_n hh_45 => Exists.elim hh_45 (fun ywk_n hh_46 => Exists.elim hh_46 (fun ypk_n hh_47 => Exists.elim hh_47 (fun ymd2_n hh_48 => Exists.elim hh_48 (fun ytr2_n hh_49 => Exists.elim hh_49 (fun yhng_n hh_50 => Exists.elim hh_50 (fun yhtg_n hh_51 => Exists.elim hh_51 (fun yhjg_n hh_52 => Exists.elim hh_52 (fun yhmg_n hh_53 => Exists.elim hh_53 (fun yhbg_n hh_54 => Exists.elim hh_54 (fun yhsg_n hh_55 => Exists.elim hh_55 (fun yhcg_n hh_56 => Exists.elim hh_56 (fun yhnk_n hh_57 => Exists.elim hh_57 (fun yhtk_n hh_58 => Exists.elim hh_58 (fun yhjk_n hh_59 => Exists.elim hh_59 (fun yhmk_n hh_60 => Exists.elim hh_60 (fun yhbk_n hh_61 => Exists.elim hh_61 (fun yhsk_n hh_62 => Exists.elim hh_62 (fun yhck_n hh_63 => Exists.elim hh_63 (fun zrg_n hh_64 => Exists.elim hh_64 (fun zmg_n hh_65 => Exists.elim hh_65 (fun zwg_n hh_66 => Exists.elim hh_66 (fun zpg_n hh_67 => Exists.elim hh_67 (fun zrk_n hh_68 => Exists.elim hh_68 (fun zmk_n hh_69 => Exists.elim hh_69 (fun zwk_n hh_70 => Exists.elim hh_70 (fun zpk_n hh_71 => Exists.elim hh_71 (fun zmd2_n hh_72 => Exists.elim hh_72 (fun ztr2_n hh_73 => Exists.elim hh_73 (fun kac2_n hh_74 => Exists.elim hh_74 (fun kim2_n hh_75 => have iv0 := hh_75.1; have hh_76 := hh_75.2; have iv1 := hh_76.1; have hh_77 := hh_76.2; have iv2 := hh_77.1; have hh_78 := hh_77.2; have iv3 := hh_78.1; have hh_79 := hh_78.2; have iv4 := hh_79.1; have hh_80 := hh_79.2; have iv5 := hh_80.1; have hh_81 := hh_80.2; have hq0 := hh_81.1; have hh_82 := hh_81.2; have hq1 := hh_82.1; have hh_83 := hh_82.2; ?_))))))))))))))))))))))))))))))))))))))))))))))))))))))))))))))))))))))))))))
  clear hh_0 hh_1 hh_2 hh_3 hh_4 hh_5 hh_6 hh_7 hh_8 hh_9 hh_10 hh_11 hh_12 hh_13 hh_14 hh_15 hh_16 hh_17 hh_18 hh_19 hh_20 hh_21 hh_22 hh_23 hh_24 hh_25 hh_26 hh_27 hh_28 hh_29 hh_30 hh_31 hh_32 hh_33 hh_34 hh_35 hh_36 hh_37 hh_38 hh_39 hh_40 hh_41 hh_42 hh_43 hh_44 hh_45 hh_46 hh_47 hh_48 hh_49 hh_50 hh_51 hh_52 hh_53 hh_54 hh_55 hh_56 hh_57 hh_58 hh_59 hh_60 hh_61 hh_62 hh_63 hh_64 hh_65 hh_66 hh_67 hh_68 hh_69 hh_70 hh_71 hh_72 hh_73 hh_74 hh_75 hh_76 hh_77 hh_78 hh_79 hh_80 hh_81 hh_82
  subst hh_83
  refine k_perm _ pm_backX ?_
  exact kont r xtpd2_n yhng_n yhtk_n yhtg_n yhjk_n yhjg_n yhmk_n yhmg_n yhbk_n yhbg_n yhsk_n yhsg_n yhck_n yhcg_n zrk_n zmk_n zwk_n zpk_n zmd2_n ztr2_n zrg_n zmg_n zwg_n zpg_n kac2_n kim2_n _ (XW_mk xN (uu xI0 0 tr2_n) (uu (uu (uu (uu (uu (uu (uu (uu (uu xI1 0 xfn2_n) 1 xfp2_n) 2 xen2_n) 3 xkd2_n) 4 xsta2_n) 5 xpo2_n) 6 xva2_n) 7 xtk2_n) 8 xta2_n) (uu xJ1 0 xle2_n) (uu xG2 0 nmfg_n) (uu xI3 0 ndnk_n) (uu xF3 0 ndfg_n) (uu (uu (uu (uu (uu (uu (uu (uu (uu (uu (uu (uu (uu xI4 0 qmd2_n) 1 qtr2_n) 2 qrk_n) 3 qmk_n) 4 qwk_n) 5 qpk_n) 6 qhnk_n) 7 qhtk_n) 8 qhjk_n) 9 qhmk_n) 10 qhbk_n) 11 qhsk_n) 12 qhck_n) (uu (uu (uu (uu (uu (uu (uu (uu (uu (uu (uu xF4 0 qrg_n) 1 qmg_n) 2 qwg_n) 3 qpg_n) 4 qhng_n) 5 qhtg_n) 6 qhjg_n) 7 qhmg_n) 8 qhbg_n) 9 qhsg_n) 10 qhcg_n) (uu (uu (uu (uu (uu (uu (uu xI5 0 ymd2_n) 1 ytr2_n) 2 yrk_n) 3 ymk_n) 4 ywk_n) 5 ypk_n) 6 yhnk_n) (uu (uu (uu (uu xF5 0 yrg_n) 1 ymg_n) 2 ywg_n) 3 ypg_n) xK xI10 xF10 xI11 xF11 xI12 xF12 xI13 xF13 xG13 xJ14 as pl (iv_w iv3 (zle_e rfl) (zle_e rfl)) (iv_w iv0 (zle_e rfl) (zle_e rfl)) (iv_w iv1 (zle_e rfl) (zle_e rfl)) (iv_w iv2 (zle_e rfl) (zle_e rfl)) (iv_w iv4 (zle_e rfl) (zle_e rfl)) h_knx (iv_w iv5 (zle_e rfl) (zle_e rfl)) hms hPL hkaf hkgf hlen (pk_backR2 (false :: false :: false :: false :: false :: false :: false :: false :: false :: false :: false :: false :: false :: false :: false :: false :: false :: false :: false :: false :: false :: false :: false :: false :: false :: false :: false :: false :: false :: false :: false :: false :: false :: false :: false :: false :: false :: false :: false :: false :: false :: false :: false :: false :: false :: false :: false :: false :: false :: false :: false :: false :: false :: false :: false :: false :: false :: false :: false :: false :: false :: false :: false :: false :: []) ((cO10_rrrrrrrrri h0 (xN 0) (xN 1) (xN 2) (xN 3) (xN 4) (xN 5) (xN 6) (xN 7) (xN 8) tr2_n) :: ((xN 0), .inr (9, [.int xtpd2_n, .ref (xN 9), .int xfn2_n, .int xfp2_n, .ref (xN 10), .int xen2_n, .ref (xN 11), .ref (xN 12), .int xkd2_n, .int xsta2_n, .int xpo2_n, .int xva2_n, .long xle2_n, .int xtk2_n, .int xta2_n])) :: ((xN 10), .inl (g.2.1, 900, .inl tpf)) :: ((xN 11), .inl (g.2.2.2.1, 16, .inr (.inl nmfg_n))) :: ((xN 12), .inr (8, [.int 16, .int 2, .ref (xN 13), .int ndnk_n])) :: ((xN 13), .inl (g.2.2.1, 32, .inl ndfg_n)) :: ((xN 9), .inr (3, [.ref (xN 14), .ref (xN 15), .ref (xN 16), .ref (xN 17), .ref (xN 18), .ref (xN 19), .ref (xN 20), .ref (xN 21)])) :: ((xN 14), .inr (7, [.ref (xN 22), .ref (xN 23), .ref (xN 24), .ref (xN 25), .int qmd2_n, .int qtr2_n])) :: ((xN 22), .inr (8, [.int 8, .int 3, .ref (xN 26), .int qrk_n])) :: ((xN 26), .inl (g.2.2.1, 24, .inl qrg_n)) :: ((xN 23), .inr (8, [.int 12, .int 3, .ref (xN 27), .int qmk_n])) :: ((xN 27), .inl (g.2.2.1, 36, .inl qmg_n)) :: ((xN 24), .inr (8, [.int 6, .int 3, .ref (xN 28), .int qwk_n])) :: ((xN 28), .inl (g.2.2.1, 18, .inl qwg_n)) :: ((xN 25), .inr (8, [.int 8, .int 2, .ref (xN 29), .int qpk_n])) :: ((xN 29), .inl (g.2.2.1, 16, .inl qpg_n)) :: ((xN 15), .inr (8, [.int 1, .int 6, .ref (xN 30), .int qhnk_n])) :: ((xN 30), .inl (g.2.2.1, 6, .inl qhng_n)) :: ((xN 16), .inr (8, [.int 4, .int 1, .ref (xN 31), .int qhtk_n])) :: ((xN 31), .inl (g.2.2.1, 4, .inl qhtg_n)) :: ((xN 17), .inr (8, [.int 8, .int 2, .ref (xN 32), .int qhjk_n])) :: ((xN 32), .inl (g.2.2.1, 16, .inl qhjg_n)) :: ((xN 18), .inr (8, [.int 4, .int 3, .ref (xN 33), .int qhmk_n])) :: ((xN 33), .inl (g.2.2.1, 12, .inl qhmg_n)) :: ((xN 19), .inr (8, [.int 1, .int 3, .ref (xN 34), .int qhbk_n])) :: ((xN 34), .inl (g.2.2.1, 3, .inl qhbg_n)) :: ((xN 20), .inr (8, [.int 6, .int 3, .ref (xN 35), .int qhsk_n])) :: ((xN 35), .inl (g.2.2.1, 18, .inl qhsg_n)) :: ((xN 21), .inr (8, [.int 6, .int 2, .ref (xN 36), .int qhck_n])) :: ((xN 36), .inl (g.2.2.1, 12, .inl qhcg_n)) :: ((xN 1), .inr (3, [.ref (xN 37), .ref (xN 38), .ref (xN 39), .ref (xN 40), .ref (xN 41), .ref (xN 42), .ref (xN 43), .ref (xN 44)])) :: ((xN 37), .inr (7, [.ref (xN 45), .ref (xN 46), .ref (xN 47), .ref (xN 48), .int ymd2_n, .int ytr2_n])) :: ((xN 45), .inr (8, [.int 8, .int 3, .ref (xN 49), .int yrk_n])) :: ((xN 49), .inl (g.2.2.1, 24, .inl yrg_n)) :: ((xN 46), .inr (8, [.int 12, .int 3, .ref (xN 50), .int ymk_n])) :: ((xN 50), .inl (g.2.2.1, 36, .inl ymg_n)) :: ((xN 47), .inr (8, [.int 6, .int 3, .ref (xN 51), .int ywk_n])) :: ((xN 51), .inl (g.2.2.1, 18, .inl ywg_n)) :: ((xN 48), .inr (8, [.int 8, .int 2, .ref (xN 52), .int ypk_n])) :: ((xN 52), .inl (g.2.2.1, 16, .inl ypg_n)) :: ((xN 38), .inr (8, [.int 1, .int 6, .ref (xN 53), .int yhnk_n])) :: ((xN 53), .inl (g.2.2.1, 6, .inl yhng_n)) :: ((xN 39), .inr (8, [.int 4, .int 1, .ref (xN 54), .int yhtk_n])) :: ((xN 54), .inl (g.2.2.1, 4, .inl yhtg_n)) :: ((xN 40), .inr (8, [.int 8, .int 2, .ref (xN 55), .int yhjk_n])) :: ((xN 55), .inl (g.2.2.1, 16, .inl yhjg_n)) :: ((xN 41), .inr (8, [.int 4, .int 3, .ref (xN 56), .int yhmk_n])) :: ((xN 56), .inl (g.2.2.1, 12, .inl yhmg_n)) :: ((xN 42), .inr (8, [.int 1, .int 3, .ref (xN 57), .int yhbk_n])) :: ((xN 57), .inl (g.2.2.1, 3, .inl yhbg_n)) :: ((xN 43), .inr (8, [.int 6, .int 3, .ref (xN 58), .int yhsk_n])) :: ((xN 58), .inl (g.2.2.1, 18, .inl yhsg_n)) :: ((xN 44), .inr (8, [.int 6, .int 2, .ref (xN 59), .int yhck_n])) :: ((xN 59), .inl (g.2.2.1, 12, .inl yhcg_n)) :: ((xN 2), .inr (7, [.ref (xN 60), .ref (xN 61), .ref (xN 62), .ref (xN 63), .int zmd2_n, .int ztr2_n])) :: ((xN 60), .inr (8, [.int 8, .int 3, .ref (xN 64), .int zrk_n])) :: ((xN 64), .inl (g.2.2.1, 24, .inl zrg_n)) :: ((xN 61), .inr (8, [.int 12, .int 3, .ref (xN 65), .int zmk_n])) :: ((xN 65), .inl (g.2.2.1, 36, .inl zmg_n)) :: ((xN 62), .inr (8, [.int 6, .int 3, .ref (xN 66), .int zwk_n])) :: ((xN 66), .inl (g.2.2.1, 18, .inl zwg_n)) :: ((xN 63), .inr (8, [.int 8, .int 2, .ref (xN 67), .int zpk_n])) :: ((xN 67), .inl (g.2.2.1, 16, .inl zpg_n)) :: ((xN 3), .inr (4, [.ref (xN 68), .ref (xN 69), .int kac2_n, .int knx, .int kim2_n])) :: []) [((xN 68), .inl (g.2.2.2.2.1, 12, .inr (.inr (.inr (.inr (xK 0)))))), ((xN 69), .inl (g.2.2.2.2.1, 3, .inr (.inr (.inr (.inr (xK 1)))))), ((xN 4), .inr (5, [.ref (xN 70), .int (xI10 0), .int (xI10 1), .int (xI10 2), .int (xI10 3), .int (xI10 4), .int (xI10 5), .int (xI10 6), .int (xI10 7)])), ((xN 70), .inr (8, [.int 8, .int 10, .ref (xN 71), .int (xI10 8)])), ((xN 71), .inl (g.2.2.1, 80, .inl (xF10 0))), ((xN 5), .inr (0, [.ref (xN 72), .int (xI11 0)])), ((xN 72), .inr (8, [.int 8, .int 1, .ref (xN 73), .int (xI11 1)])), ((xN 73), .inl (g.2.2.1, 8, .inl (xF11 0))), ((xN 6), .inr (6, [.ref (xN 74), .int (xI12 0), .int (xI12 1)])), ((xN 74), .inr (8, [.int 4, .int 1, .ref (xN 75), .int (xI12 2)])), ((xN 75), .inl (g.2.2.1, 4, .inl (xF12 0))), ((xN 7), .inr (1, [.ref (xN 76), .ref (xN 77), .ref (xN 78)])), ((xN 76), .inr (8, [.int 8, .int 1, .ref (xN 79), .int (xI13 0)])), ((xN 79), .inl (g.2.2.1, 8, .inl (xF13 0))), ((xN 77), .inr (8, [.int 256, .int 1, .ref (xN 80), .int (xI13 1)])), ((xN 80), .inl (g.2.2.1, 256, .inl (xF13 1))), ((xN 78), .inl (g.2.2.2.1, 8, .inr (.inl (xG13 0)))), ((xN 8), .inr (2, [.long (xJ14 0), .long (xJ14 1)]))] rfl rfl rfl (List.Perm.refl _))) (qc_houseS h_xtpd hq1)

set_option maxHeartbeats 4000000 in
set_option maxRecDepth 100000 in
theorem lm_house {p : Program} {l : Launch} {e : Env} {R : Room} {s : State} {m : MethodId} {args : Array Value} {below : List Frame} {meth : Method} {c : Code} {Q : State → Prop} {A : Nat → Prop} {g : Gx} {cc : ByteArray} {nL n1 n2 pc : Nat} {own : String} {lv : List (Nat × Value)} {st : List Value} {m_taped : Int32} {d_tape : Nat → Int32} {d_r : Nat → Int32} {d_st : Nat → Int32} {d_undone : Nat → Int32} {d_kept : Nat → Int32} {m_undos : Int32} {m_images : Int32} {m_hasHouse : Int32} {mo i : Nat} {wX wM wO : va_W} (a1 : Int32) (X : Cx p s m meth c args cc nL own A g) (hx : MW g mo m_taped d_tape d_r d_st d_undone d_kept m_undos m_images m_hasHouse wM) (hd : decode cc pc = .ok (.invokevirtual i, 3)) (hm1 : Cond.methodLink own i yX11_house ∈ wsL_law0) (hf : 10 + 1 ≤ R.frames) (hlo : 8 + (3 + 11) + 218 ≤ R.locals) (hst : (st.map fun v => v.category).sum ≤ 8) (h1 : n1 ≤ R.cells) (h2 : n2 ≤ R.slots)
    (kont : ∀ (r : Int32) (m_taped_2 : Int32) (d_r_2 : Nat → Int32) (d_st_2 : Nat → Int32) (m_undos_2 : Int32) (m_images_2 : Int32) (m_hasHouse_2 : Int32) (w2 : va_W), MW g mo m_taped_2 d_tape d_r_2 d_st_2 d_undone d_kept m_undos_2 m_images_2 m_hasHouse_2 w2 → HMS a1 m_taped d_tape d_r d_st m_undos m_images m_hasHouse m_taped_2 d_r_2 d_st_2 m_undos_2 m_images_2 m_hasHouse_2 → Wk p l e R s m args below meth c Q A g nL n1 n2 (wX ++ (w2 ++ wO)) lv (pc + 3) (.int r :: st)) : Wk p l e R s m args below meth c Q A g nL n1 n2 (wX ++ (wM ++ wO)) lv pc ([.int a1] ++ .ref mo :: st) := by
  refine MW_el hx (fun mI mN mFletters mFfresh mFfrom mFbegin mFmotor mFchange mFstartFrame mFchangeFrame mFlostAt mFblackAt mFslips mFleftArc mFdied mFarcs mFthere mFbackAt mFsorted mFparts h_m_size h_m_end h_m_nameSize h_m_failed h_m_hasHouse h_m_undos h_m_images h_m_taped hRr hRf hTr hpm => ?_)
  refine k_callVIP (n := 1) (As := [.int a1]) (st := st) X [(cO11_i1r1i10r1i2r5i2r12i3r4i2 mo (mI 0) (mN 0) m_taped (mI 1) (mI 2) (mI 3) (mI 4) (mI 5) (mI 6) (mI 7) (mI 8) (mI 9) (mN 1) (mI 10) m_hasHouse (mN 2) (mN 3) (mN 4) (mN 5) (mN 6) m_undos m_images (mN 7) (mN 8) (mN 9) (mN 10) (mN 11) (mN 12) (mN 13) (mN 14) (mN 15) (mN 16) (mN 17) (mN 18) (mI 11) (mI 12) (mI 13) (mN 19) (mN 20) (mN 21) (mN 22) (mI 14) (mI 15)), ((mN 0), .inl (g.2.2.1, 900, .inl d_tape)), ((mN 1), .inl (g.2.2.1, 8, .inl (mFletters 0))), ((mN 2), .inl (g.2.2.1, 311, .inl d_r)), ((mN 3), .inl (g.2.2.1, 311, .inl (mFfresh 0))), ((mN 4), .inl (g.2.2.1, 44, .inl d_st))] (pkT [false, false, false, false, false, false] (MC g mo m_taped d_tape d_r d_st d_undone d_kept m_undos m_images m_hasHouse mI mN mFletters mFfresh mFfrom mFbegin mFmotor mFchange mFstartFrame mFchangeFrame mFlostAt mFblackAt mFslips mFleftArc mFdied mFarcs mFthere mFbackAt mFsorted mFparts) ++ (wX ++ wO)) (pm_M hpm (pk_pick [false, false, false, false, false, false] [(cO11_i1r1i10r1i2r5i2r12i3r4i2 mo (mI 0) (mN 0) m_taped (mI 1) (mI 2) (mI 3) (mI 4) (mI 5) (mI 6) (mI 7) (mI 8) (mI 9) (mN 1) (mI 10) m_hasHouse (mN 2) (mN 3) (mN 4) (mN 5) (mN 6) m_undos m_images (mN 7) (mN 8) (mN 9) (mN 10) (mN 11) (mN 12) (mN 13) (mN 14) (mN 15) (mN 16) (mN 17) (mN 18) (mI 11) (mI 12) (mI 13) (mN 19) (mN 20) (mN 21) (mN 22) (mI 14) (mI 15)), ((mN 0), .inl (g.2.2.1, 900, .inl d_tape)), ((mN 1), .inl (g.2.2.1, 8, .inl (mFletters 0))), ((mN 2), .inl (g.2.2.1, 311, .inl d_r)), ((mN 3), .inl (g.2.2.1, 311, .inl (mFfresh 0))), ((mN 4), .inl (g.2.2.1, 44, .inl d_st))] rfl (List.Perm.refl _))) (m_houseX l g mo a1 (mI 0) (mN 0) m_taped (mI 1) (mI 2) (mI 3) (mI 4) (mI 5) (mI 6) (mI 7) (mI 8) (mI 9) (mN 1) (mI 10) m_hasHouse (mN 2) (mN 3) (mN 4) (mN 5) (mN 6) m_undos m_images (mN 7) (mN 8) (mN 9) (mN 10) (mN 11) (mN 12) (mN 13) (mN 14) (mN 15) (mN 16) (mN 17) (mN 18) (mI 11) (mI 12) (mI 13) (mN 19) (mN 20) (mN 21) (mN 22) (mI 14) (mI 15) d_tape (mFletters 0) d_r (mFfresh 0) d_st (iv_w h_m_size (zle_e rfl) (zle_e rfl)) (iv_w h_m_end (zle_e rfl) (zle_e rfl)) (iv_w h_m_nameSize (zle_e rfl) (zle_e rfl)) (iv_w h_m_failed (zle_e rfl) (zle_e rfl)) (iv_w h_m_hasHouse (zle_e rfl) (zle_e rfl)) (iv_w h_m_undos (zle_e rfl) (zle_e rfl)) (iv_w h_m_images (zle_e rfl) (zle_e rfl)) (iv_w h_m_taped (zle_e rfl) (zle_e rfl)) hRr hRf hTr) hd hm1 mw465 mw466 mw5 mw467 rfl 11 rfl rfl 0 _ rfl yk_yX11_house_1 rfl hf hlo hst h1 h2 ?_
  intro r w
  refine (fun hh_0 => Exists.elim hh_0 (fun m_at2_n hh_1 => Exists.elim hh_1 (fun m_end2_n hh_2 => Exists.elim hh_2 (fun m_failed2_n hh_3 => Exists.elim hh_3 (fun m_fault2_n hh_4 => Exists.elim hh_4 (fun d_fresh2_n hh_5 => Exists.elim hh_5 (fun m_hasHouse2_n hh_6 => Exists.elim hh_6 (fun m_images2_n hh_7 => Exists.elim hh_7 (fun d_letters2_n hh_8 => Exists.elim hh_8 (fun m_nameSize2_n hh_9 => Exists.elim hh_9 (fun m_place2_n hh_10 => Exists.elim hh_10 (fun d_r2_n hh_11 => Exists.elim hh_11 (fun m_size2_n hh_12 => Exists.elim hh_12 (fun d_st2_n hh_13 => Exists.elim hh_13 (fun m_taped2_n hh_14 => Exists.elim hh_14 (fun m_thrown2_n hh_15 => Exists.elim hh_15 (fun m_token2_n hh_16 => Exists.elim hh_16 (fun m_trouble2_n hh_17 => Exists.elim hh_17 (fun m_undos2_n hh_18 => Exists.elim hh_18 (fun m_whole2_n hh_19 => have iv0 := hh_19.1; have hh_20 := hh_19.2; have iv1 := hh_20.1; have hh_21 := hh_20.2; have iv2 := hh_21.1; have hh_22 := hh_21.2; have iv3 := hh_22.1; have hh_23 := hh_22.2; have iv4 := hh_23.1; have hh_24 := hh_23.2; have iv5 := hh_24.1; have hh_25 := hh_24.2; have iv6 := hh_25.1; have hh_26 := hh_25.2; have iv7 := hh_26.1; have hh_27 := hh_26.2; have hp0 := hh_27.1; have hh_28 := hh_27.2; have hp1 := hh_28.1; have hh_29 := hh_28.2; have hq0 := hh_29.1; have hh_30 := hh_29.2; have hq1 := hh_30.1; have hh_31 := hh_30.2; have hq2 := hh_31.1; have hh_32 := hh_31.2; ?_))))))))))))))))))))
  clear hh_0 hh_1 hh_2 hh_3 hh_4 hh_5 hh_6 hh_7 hh_8 hh_9 hh_10 hh_11 hh_12 hh_13 hh_14 hh_15 hh_16 hh_17 hh_18 hh_19 hh_20 hh_21 hh_22 hh_23 hh_24 hh_25 hh_26 hh_27 hh_28 hh_29 hh_30 hh_31
  subst hh_32
  refine k_perm _ pm_backM ?_
  exact kont r m_taped2_n d_r2_n d_st2_n m_undos2_n m_images2_n m_hasHouse2_n _ (MW_mk (uu (uu (uu (uu (uu (uu (uu (uu (uu (uu (uu mI 0 m_thrown2_n) 1 m_size2_n) 2 m_at2_n) 3 m_end2_n) 4 m_token2_n) 5 m_whole2_n) 6 m_nameSize2_n) 7 m_fault2_n) 8 m_place2_n) 9 m_trouble2_n) 10 m_failed2_n) mN (uu mFletters 0 d_letters2_n) (uu mFfresh 0 d_fresh2_n) mFfrom mFbegin mFmotor mFchange mFstartFrame mFchangeFrame mFlostAt mFblackAt mFslips mFleftArc mFdied mFarcs mFthere mFbackAt mFsorted mFparts (iv_w iv5 (zle_e rfl) (zle_e rfl)) (iv_w iv0 (zle_e rfl) (zle_e rfl)) (iv_w iv4 (zle_e rfl) (zle_e rfl)) (iv_w iv1 (zle_e rfl) (zle_e rfl)) (iv_w iv2 (zle_e rfl) (zle_e rfl)) (iv_w iv7 (zle_e rfl) (zle_e rfl)) (iv_w iv3 (zle_e rfl) (zle_e rfl)) (iv_w iv6 (zle_e rfl) (zle_e rfl)) hp0 hp1 hq1 (pk_back [false, false, false, false, false, false] [(cO11_i1r1i10r1i2r5i2r12i3r4i2 mo m_thrown2_n (mN 0) m_taped2_n m_size2_n m_at2_n m_end2_n m_token2_n m_whole2_n m_nameSize2_n m_fault2_n m_place2_n m_trouble2_n (mN 1) m_failed2_n m_hasHouse2_n (mN 2) (mN 3) (mN 4) (mN 5) (mN 6) m_undos2_n m_images2_n (mN 7) (mN 8) (mN 9) (mN 10) (mN 11) (mN 12) (mN 13) (mN 14) (mN 15) (mN 16) (mN 17) (mN 18) (mI 11) (mI 12) (mI 13) (mN 19) (mN 20) (mN 21) (mN 22) (mI 14) (mI 15)), ((mN 0), .inl (g.2.2.1, 900, .inl d_tape)), ((mN 1), .inl (g.2.2.1, 8, .inl d_letters2_n)), ((mN 2), .inl (g.2.2.1, 311, .inl d_r2_n)), ((mN 3), .inl (g.2.2.1, 311, .inl d_fresh2_n)), ((mN 4), .inl (g.2.2.1, 44, .inl d_st2_n))] rfl rfl (List.Perm.refl _))) (qm_houseS h_m_taped hq2)

set_option maxHeartbeats 4000000 in
set_option maxRecDepth 100000 in
theorem lx_fault {p : Program} {l : Launch} {e : Env} {R : Room} {s : State} {m : MethodId} {args : Array Value} {below : List Frame} {meth : Method} {c : Code} {Q : State → Prop} {A : Nat → Prop} {g : Gx} {cc : ByteArray} {nL n1 n2 pc : Nat} {own : String} {lv : List (Nat × Value)} {st : List Value} {xtpd : Int32} {tpf : Nat → Int32} {yhnf : Nat → Int32} {yhtn : Int32} {yhtf : Nat → Int32} {yhjn : Int32} {yhjf : Nat → Int32} {yhmn : Int32} {yhmf : Nat → Int32} {yhbn : Int32} {yhbf : Nat → Int32} {yhsn : Int32} {yhsf : Nat → Int32} {yhcn : Int32} {yhcf : Nat → Int32} {zrn : Int32} {zmn : Int32} {zwn : Int32} {zpn : Int32} {zmd : Int32} {ztr : Int32} {zrf : Nat → Int32} {zmf : Nat → Int32} {zwf : Nat → Int32} {zpf : Nat → Int32} {kac : Int32} {knx : Int32} {kim : Int32} {cf : Nat → SC} {h0 i : Nat} {wX wY : va_W} (_u : Unit) (X : Cx p s m meth c args cc nL own A g) (hx : XW g h0 xtpd tpf yhnf yhtn yhtf yhjn yhjf yhmn yhmf yhbn yhbf yhsn yhsf yhcn yhcf zrn zmn zwn zpn zmd ztr zrf zmf zwf zpf kac knx kim cf wX) (hd : decode cc pc = .ok (.invokevirtual i, 3)) (hm1 : Cond.methodLink own i yX10_fault ∈ wsL_law0) (hf : 0 + 1 ≤ R.frames) (hlo : 8 + (1 + 11) + 0 ≤ R.locals) (hst : (st.map fun v => v.category).sum ≤ 8) (h1 : n1 ≤ R.cells) (h2 : n2 ≤ R.slots)
    (kont : ∀ (r : Int32)  (w2 : va_W), XW g h0 xtpd tpf yhnf yhtn yhtf yhjn yhjf yhmn yhmf yhbn yhbf yhsn yhsf yhcn yhcf zrn zmn zwn zpn zmd ztr zrf zmf zwf zpf kac knx kim cf w2 → Wk p l e R s m args below meth c Q A g nL n1 n2 (w2 ++ wY) lv (pc + 3) (.int r :: st)) : Wk p l e R s m args below meth c Q A g nL n1 n2 (wX ++ wY) lv pc ([] ++ .ref h0 :: st) := by
  refine XW_el hx (fun xN xI0 xI1 xJ1 xG2 xI3 xF3 xI4 xF4 xI5 xF5 xK xI10 xF10 xI11 xF11 xI12 xF12 xI13 xF13 xG13 xJ14 as pl h_xen h_xsta h_xpo h_xtpd h_kac h_knx h_kim hms hPL hkaf hkgf hlen hpm => ?_)
  refine k_callVIP (n := 0) (As := []) (st := st) X [(cO10_rrrrrrrrri h0 (xN 0) (xN 1) (xN 2) (xN 3) (xN 4) (xN 5) (xN 6) (xN 7) (xN 8) (xI0 0)), ((xN 0), .inr (9, [.int xtpd, .ref (xN 9), .int (xI1 0), .int (xI1 1), .ref (xN 10), .int (xI1 2), .ref (xN 11), .ref (xN 12), .int (xI1 3), .int (xI1 4), .int (xI1 5), .int (xI1 6), .long (xJ1 0), .int (xI1 7), .int (xI1 8)])), ((xN 10), .inl (g.2.1, 900, .inl tpf))] (pkT [false, false, false] (XC g h0 xtpd tpf yhnf yhtn yhtf yhjn yhjf yhmn yhmf yhbn yhbf yhsn yhsf yhcn yhcf zrn zmn zwn zpn zmd ztr zrf zmf zwf zpf kac knx kim xN xI0 xI1 xJ1 xG2 xI3 xF3 xI4 xF4 xI5 xF5 xK xI10 xF10 xI11 xF11 xI12 xF12 xI13 xF13 xG13 xJ14) ++ (pl ++ wY)) (pm_X hpm (pk_pick [false, false, false] [(cO10_rrrrrrrrri h0 (xN 0) (xN 1) (xN 2) (xN 3) (xN 4) (xN 5) (xN 6) (xN 7) (xN 8) (xI0 0)), ((xN 0), .inr (9, [.int xtpd, .ref (xN 9), .int (xI1 0), .int (xI1 1), .ref (xN 10), .int (xI1 2), .ref (xN 11), .ref (xN 12), .int (xI1 3), .int (xI1 4), .int (xI1 5), .int (xI1 6), .long (xJ1 0), .int (xI1 7), .int (xI1 8)])), ((xN 10), .inl (g.2.1, 900, .inl tpf))] rfl (List.Perm.refl _))) (c_fault l g h0 (xN 0) (.ref (xN 1)) (.ref (xN 2)) (.ref (xN 3)) (.ref (xN 4)) (.ref (xN 5)) (.ref (xN 6)) (.ref (xN 7)) (.ref (xN 8)) (xI0 0) xtpd (xN 9) (xI1 0) (xI1 1) (xN 10) (xI1 2) (xN 11) (xN 12) (xI1 3) (xI1 4) (xI1 5) (xI1 6) (xJ1 0) (xI1 7) (xI1 8) tpf) hd hm1 mw623 mw624 mw2 mw625 rfl 10 rfl rfl 0 _ rfl yk_yX10_fault_0 rfl hf hlo hst h1 h2 ?_
  rintro r w rfl
  refine k_perm _ pm_backX ?_
  exact kont r _ (XW_mk xN xI0 xI1 xJ1 xG2 xI3 xF3 xI4 xF4 xI5 xF5 xK xI10 xF10 xI11 xF11 xI12 xF12 xI13 xF13 xG13 xJ14 as pl h_xen h_xsta h_xpo h_xtpd h_kac h_knx h_kim hms hPL hkaf hkgf hlen (pk_backR [false, false, false] [(cO10_rrrrrrrrri h0 (xN 0) (xN 1) (xN 2) (xN 3) (xN 4) (xN 5) (xN 6) (xN 7) (xN 8) (xI0 0)), ((xN 0), .inr (9, [.int xtpd, .ref (xN 9), .int (xI1 0), .int (xI1 1), .ref (xN 10), .int (xI1 2), .ref (xN 11), .ref (xN 12), .int (xI1 3), .int (xI1 4), .int (xI1 5), .int (xI1 6), .long (xJ1 0), .int (xI1 7), .int (xI1 8)])), ((xN 10), .inl (g.2.1, 900, .inl tpf))] rfl rfl (List.Perm.refl _)))

set_option maxHeartbeats 4000000 in
set_option maxRecDepth 100000 in
theorem lm_fault {p : Program} {l : Launch} {e : Env} {R : Room} {s : State} {m : MethodId} {args : Array Value} {below : List Frame} {meth : Method} {c : Code} {Q : State → Prop} {A : Nat → Prop} {g : Gx} {cc : ByteArray} {nL n1 n2 pc : Nat} {own : String} {lv : List (Nat × Value)} {st : List Value} {m_taped : Int32} {d_tape : Nat → Int32} {d_r : Nat → Int32} {d_st : Nat → Int32} {d_undone : Nat → Int32} {d_kept : Nat → Int32} {m_undos : Int32} {m_images : Int32} {m_hasHouse : Int32} {mo i : Nat} {wX wM wO : va_W} (_u : Unit) (X : Cx p s m meth c args cc nL own A g) (hx : MW g mo m_taped d_tape d_r d_st d_undone d_kept m_undos m_images m_hasHouse wM) (hd : decode cc pc = .ok (.invokevirtual i, 3)) (hm1 : Cond.methodLink own i yX11_fault ∈ wsL_law0) (hf : 0 + 1 ≤ R.frames) (hlo : 8 + (1 + 11) + 0 ≤ R.locals) (hst : (st.map fun v => v.category).sum ≤ 8) (h1 : n1 ≤ R.cells) (h2 : n2 ≤ R.slots)
    (kont : ∀ (r : Int32)  (w2 : va_W), MW g mo m_taped d_tape d_r d_st d_undone d_kept m_undos m_images m_hasHouse w2 → Wk p l e R s m args below meth c Q A g nL n1 n2 (wX ++ (w2 ++ wO)) lv (pc + 3) (.int r :: st)) : Wk p l e R s m args below meth c Q A g nL n1 n2 (wX ++ (wM ++ wO)) lv pc ([] ++ .ref mo :: st) := by
  refine MW_el hx (fun mI mN mFletters mFfresh mFfrom mFbegin mFmotor mFchange mFstartFrame mFchangeFrame mFlostAt mFblackAt mFslips mFleftArc mFdied mFarcs mFthere mFbackAt mFsorted mFparts h_m_size h_m_end h_m_nameSize h_m_failed h_m_hasHouse h_m_undos h_m_images h_m_taped hRr hRf hTr hpm => ?_)
  refine k_callVIP (n := 0) (As := []) (st := st) X [(cO11_i1r1i10r1i2r5i2r12i3r4i2 mo (mI 0) (mN 0) m_taped (mI 1) (mI 2) (mI 3) (mI 4) (mI 5) (mI 6) (mI 7) (mI 8) (mI 9) (mN 1) (mI 10) m_hasHouse (mN 2) (mN 3) (mN 4) (mN 5) (mN 6) m_undos m_images (mN 7) (mN 8) (mN 9) (mN 10) (mN 11) (mN 12) (mN 13) (mN 14) (mN 15) (mN 16) (mN 17) (mN 18) (mI 11) (mI 12) (mI 13) (mN 19) (mN 20) (mN 21) (mN 22) (mI 14) (mI 15))] (pkT [false] (MC g mo m_taped d_tape d_r d_st d_undone d_kept m_undos m_images m_hasHouse mI mN mFletters mFfresh mFfrom mFbegin mFmotor mFchange mFstartFrame mFchangeFrame mFlostAt mFblackAt mFslips mFleftArc mFdied mFarcs mFthere mFbackAt mFsorted mFparts) ++ (wX ++ wO)) (pm_M hpm (pk_pick [false] [(cO11_i1r1i10r1i2r5i2r12i3r4i2 mo (mI 0) (mN 0) m_taped (mI 1) (mI 2) (mI 3) (mI 4) (mI 5) (mI 6) (mI 7) (mI 8) (mI 9) (mN 1) (mI 10) m_hasHouse (mN 2) (mN 3) (mN 4) (mN 5) (mN 6) m_undos m_images (mN 7) (mN 8) (mN 9) (mN 10) (mN 11) (mN 12) (mN 13) (mN 14) (mN 15) (mN 16) (mN 17) (mN 18) (mI 11) (mI 12) (mI 13) (mN 19) (mN 20) (mN 21) (mN 22) (mI 14) (mI 15))] rfl (List.Perm.refl _))) (m_fault l g mo (mI 0) (mN 0) m_taped (mI 1) (mI 2) (mI 3) (mI 4) (mI 5) (mI 6) (mI 7) (mI 8) (mI 9) (mN 1) (mI 10) m_hasHouse (mN 2) (mN 3) (mN 4) (mN 5) (mN 6) m_undos m_images (mN 7) (mN 8) (mN 9) (mN 10) (mN 11) (mN 12) (mN 13) (mN 14) (mN 15) (mN 16) (mN 17) (mN 18) (mI 11) (mI 12) (mI 13) (mN 19) (mN 20) (mN 21) (mN 22) (mI 14) (mI 15)) hd hm1 mw627 mw628 mw5 mw629 rfl 11 rfl rfl 0 _ rfl yk_yX11_fault_0 rfl hf hlo hst h1 h2 ?_
  rintro r w ⟨m_thrown2_n, rfl⟩
  refine k_perm _ pm_backM ?_
  exact kont r _ (MW_mk (uu mI 0 m_thrown2_n) mN mFletters mFfresh mFfrom mFbegin mFmotor mFchange mFstartFrame mFchangeFrame mFlostAt mFblackAt mFslips mFleftArc mFdied mFarcs mFthere mFbackAt mFsorted mFparts h_m_size h_m_end h_m_nameSize h_m_failed h_m_hasHouse h_m_undos h_m_images h_m_taped hRr hRf hTr (pk_back [false] [(cO11_i1r1i10r1i2r5i2r12i3r4i2 mo m_thrown2_n (mN 0) m_taped (mI 1) (mI 2) (mI 3) (mI 4) (mI 5) (mI 6) (mI 7) (mI 8) (mI 9) (mN 1) (mI 10) m_hasHouse (mN 2) (mN 3) (mN 4) (mN 5) (mN 6) m_undos m_images (mN 7) (mN 8) (mN 9) (mN 10) (mN 11) (mN 12) (mN 13) (mN 14) (mN 15) (mN 16) (mN 17) (mN 18) (mI 11) (mI 12) (mI 13) (mN 19) (mN 20) (mN 21) (mN 22) (mI 14) (mI 15))] rfl rfl (List.Perm.refl _)))

set_option maxHeartbeats 4000000 in
set_option maxRecDepth 100000 in
theorem lx_where {p : Program} {l : Launch} {e : Env} {R : Room} {s : State} {m : MethodId} {args : Array Value} {below : List Frame} {meth : Method} {c : Code} {Q : State → Prop} {A : Nat → Prop} {g : Gx} {cc : ByteArray} {nL n1 n2 pc : Nat} {own : String} {lv : List (Nat × Value)} {st : List Value} {xtpd : Int32} {tpf : Nat → Int32} {yhnf : Nat → Int32} {yhtn : Int32} {yhtf : Nat → Int32} {yhjn : Int32} {yhjf : Nat → Int32} {yhmn : Int32} {yhmf : Nat → Int32} {yhbn : Int32} {yhbf : Nat → Int32} {yhsn : Int32} {yhsf : Nat → Int32} {yhcn : Int32} {yhcf : Nat → Int32} {zrn : Int32} {zmn : Int32} {zwn : Int32} {zpn : Int32} {zmd : Int32} {ztr : Int32} {zrf : Nat → Int32} {zmf : Nat → Int32} {zwf : Nat → Int32} {zpf : Nat → Int32} {kac : Int32} {knx : Int32} {kim : Int32} {cf : Nat → SC} {h0 i : Nat} {wX wY : va_W} (_u : Unit) (X : Cx p s m meth c args cc nL own A g) (hx : XW g h0 xtpd tpf yhnf yhtn yhtf yhjn yhjf yhmn yhmf yhbn yhbf yhsn yhsf yhcn yhcf zrn zmn zwn zpn zmd ztr zrf zmf zwf zpf kac knx kim cf wX) (hd : decode cc pc = .ok (.invokevirtual i, 3)) (hm1 : Cond.methodLink own i yX10_where ∈ wsL_law0) (hf : 0 + 1 ≤ R.frames) (hlo : 8 + (1 + 11) + 0 ≤ R.locals) (hst : (st.map fun v => v.category).sum ≤ 8) (h1 : n1 ≤ R.cells) (h2 : n2 ≤ R.slots)
    (kont : ∀ (r : Int32)  (w2 : va_W), XW g h0 xtpd tpf yhnf yhtn yhtf yhjn yhjf yhmn yhmf yhbn yhbf yhsn yhsf yhcn yhcf zrn zmn zwn zpn zmd ztr zrf zmf zwf zpf kac knx kim cf w2 → Wk p l e R s m args below meth c Q A g nL n1 n2 (w2 ++ wY) lv (pc + 3) (.int r :: st)) : Wk p l e R s m args below meth c Q A g nL n1 n2 (wX ++ wY) lv pc ([] ++ .ref h0 :: st) := by
  refine XW_el hx (fun xN xI0 xI1 xJ1 xG2 xI3 xF3 xI4 xF4 xI5 xF5 xK xI10 xF10 xI11 xF11 xI12 xF12 xI13 xF13 xG13 xJ14 as pl h_xen h_xsta h_xpo h_xtpd h_kac h_knx h_kim hms hPL hkaf hkgf hlen hpm => ?_)
  refine k_callVIP (n := 0) (As := []) (st := st) X [(cO10_rrrrrrrrri h0 (xN 0) (xN 1) (xN 2) (xN 3) (xN 4) (xN 5) (xN 6) (xN 7) (xN 8) (xI0 0)), ((xN 0), .inr (9, [.int xtpd, .ref (xN 9), .int (xI1 0), .int (xI1 1), .ref (xN 10), .int (xI1 2), .ref (xN 11), .ref (xN 12), .int (xI1 3), .int (xI1 4), .int (xI1 5), .int (xI1 6), .long (xJ1 0), .int (xI1 7), .int (xI1 8)])), ((xN 10), .inl (g.2.1, 900, .inl tpf))] (pkT [false, false, false] (XC g h0 xtpd tpf yhnf yhtn yhtf yhjn yhjf yhmn yhmf yhbn yhbf yhsn yhsf yhcn yhcf zrn zmn zwn zpn zmd ztr zrf zmf zwf zpf kac knx kim xN xI0 xI1 xJ1 xG2 xI3 xF3 xI4 xF4 xI5 xF5 xK xI10 xF10 xI11 xF11 xI12 xF12 xI13 xF13 xG13 xJ14) ++ (pl ++ wY)) (pm_X hpm (pk_pick [false, false, false] [(cO10_rrrrrrrrri h0 (xN 0) (xN 1) (xN 2) (xN 3) (xN 4) (xN 5) (xN 6) (xN 7) (xN 8) (xI0 0)), ((xN 0), .inr (9, [.int xtpd, .ref (xN 9), .int (xI1 0), .int (xI1 1), .ref (xN 10), .int (xI1 2), .ref (xN 11), .ref (xN 12), .int (xI1 3), .int (xI1 4), .int (xI1 5), .int (xI1 6), .long (xJ1 0), .int (xI1 7), .int (xI1 8)])), ((xN 10), .inl (g.2.1, 900, .inl tpf))] rfl (List.Perm.refl _))) (c_where l g h0 (xN 0) (.ref (xN 1)) (.ref (xN 2)) (.ref (xN 3)) (.ref (xN 4)) (.ref (xN 5)) (.ref (xN 6)) (.ref (xN 7)) (.ref (xN 8)) (xI0 0) xtpd (xN 9) (xI1 0) (xI1 1) (xN 10) (xI1 2) (xN 11) (xN 12) (xI1 3) (xI1 4) (xI1 5) (xI1 6) (xJ1 0) (xI1 7) (xI1 8) tpf) hd hm1 mw631 mw632 mw2 mw633 rfl 10 rfl rfl 0 _ rfl yk_yX10_where_0 rfl hf hlo hst h1 h2 ?_
  rintro r w rfl
  refine k_perm _ pm_backX ?_
  exact kont r _ (XW_mk xN xI0 xI1 xJ1 xG2 xI3 xF3 xI4 xF4 xI5 xF5 xK xI10 xF10 xI11 xF11 xI12 xF12 xI13 xF13 xG13 xJ14 as pl h_xen h_xsta h_xpo h_xtpd h_kac h_knx h_kim hms hPL hkaf hkgf hlen (pk_backR [false, false, false] [(cO10_rrrrrrrrri h0 (xN 0) (xN 1) (xN 2) (xN 3) (xN 4) (xN 5) (xN 6) (xN 7) (xN 8) (xI0 0)), ((xN 0), .inr (9, [.int xtpd, .ref (xN 9), .int (xI1 0), .int (xI1 1), .ref (xN 10), .int (xI1 2), .ref (xN 11), .ref (xN 12), .int (xI1 3), .int (xI1 4), .int (xI1 5), .int (xI1 6), .long (xJ1 0), .int (xI1 7), .int (xI1 8)])), ((xN 10), .inl (g.2.1, 900, .inl tpf))] rfl rfl (List.Perm.refl _)))

set_option maxHeartbeats 4000000 in
set_option maxRecDepth 100000 in
theorem lm_where {p : Program} {l : Launch} {e : Env} {R : Room} {s : State} {m : MethodId} {args : Array Value} {below : List Frame} {meth : Method} {c : Code} {Q : State → Prop} {A : Nat → Prop} {g : Gx} {cc : ByteArray} {nL n1 n2 pc : Nat} {own : String} {lv : List (Nat × Value)} {st : List Value} {m_taped : Int32} {d_tape : Nat → Int32} {d_r : Nat → Int32} {d_st : Nat → Int32} {d_undone : Nat → Int32} {d_kept : Nat → Int32} {m_undos : Int32} {m_images : Int32} {m_hasHouse : Int32} {mo i : Nat} {wX wM wO : va_W} (_u : Unit) (X : Cx p s m meth c args cc nL own A g) (hx : MW g mo m_taped d_tape d_r d_st d_undone d_kept m_undos m_images m_hasHouse wM) (hd : decode cc pc = .ok (.invokevirtual i, 3)) (hm1 : Cond.methodLink own i yX11_where ∈ wsL_law0) (hf : 0 + 1 ≤ R.frames) (hlo : 8 + (1 + 11) + 0 ≤ R.locals) (hst : (st.map fun v => v.category).sum ≤ 8) (h1 : n1 ≤ R.cells) (h2 : n2 ≤ R.slots)
    (kont : ∀ (r : Int32)  (w2 : va_W), MW g mo m_taped d_tape d_r d_st d_undone d_kept m_undos m_images m_hasHouse w2 → Wk p l e R s m args below meth c Q A g nL n1 n2 (wX ++ (w2 ++ wO)) lv (pc + 3) (.int r :: st)) : Wk p l e R s m args below meth c Q A g nL n1 n2 (wX ++ (wM ++ wO)) lv pc ([] ++ .ref mo :: st) := by
  refine MW_el hx (fun mI mN mFletters mFfresh mFfrom mFbegin mFmotor mFchange mFstartFrame mFchangeFrame mFlostAt mFblackAt mFslips mFleftArc mFdied mFarcs mFthere mFbackAt mFsorted mFparts h_m_size h_m_end h_m_nameSize h_m_failed h_m_hasHouse h_m_undos h_m_images h_m_taped hRr hRf hTr hpm => ?_)
  refine k_callVIP (n := 0) (As := []) (st := st) X [(cO11_i1r1i10r1i2r5i2r12i3r4i2 mo (mI 0) (mN 0) m_taped (mI 1) (mI 2) (mI 3) (mI 4) (mI 5) (mI 6) (mI 7) (mI 8) (mI 9) (mN 1) (mI 10) m_hasHouse (mN 2) (mN 3) (mN 4) (mN 5) (mN 6) m_undos m_images (mN 7) (mN 8) (mN 9) (mN 10) (mN 11) (mN 12) (mN 13) (mN 14) (mN 15) (mN 16) (mN 17) (mN 18) (mI 11) (mI 12) (mI 13) (mN 19) (mN 20) (mN 21) (mN 22) (mI 14) (mI 15))] (pkT [false] (MC g mo m_taped d_tape d_r d_st d_undone d_kept m_undos m_images m_hasHouse mI mN mFletters mFfresh mFfrom mFbegin mFmotor mFchange mFstartFrame mFchangeFrame mFlostAt mFblackAt mFslips mFleftArc mFdied mFarcs mFthere mFbackAt mFsorted mFparts) ++ (wX ++ wO)) (pm_M hpm (pk_pick [false] [(cO11_i1r1i10r1i2r5i2r12i3r4i2 mo (mI 0) (mN 0) m_taped (mI 1) (mI 2) (mI 3) (mI 4) (mI 5) (mI 6) (mI 7) (mI 8) (mI 9) (mN 1) (mI 10) m_hasHouse (mN 2) (mN 3) (mN 4) (mN 5) (mN 6) m_undos m_images (mN 7) (mN 8) (mN 9) (mN 10) (mN 11) (mN 12) (mN 13) (mN 14) (mN 15) (mN 16) (mN 17) (mN 18) (mI 11) (mI 12) (mI 13) (mN 19) (mN 20) (mN 21) (mN 22) (mI 14) (mI 15))] rfl (List.Perm.refl _))) (m_where l g mo (mI 0) (mN 0) m_taped (mI 1) (mI 2) (mI 3) (mI 4) (mI 5) (mI 6) (mI 7) (mI 8) (mI 9) (mN 1) (mI 10) m_hasHouse (mN 2) (mN 3) (mN 4) (mN 5) (mN 6) m_undos m_images (mN 7) (mN 8) (mN 9) (mN 10) (mN 11) (mN 12) (mN 13) (mN 14) (mN 15) (mN 16) (mN 17) (mN 18) (mI 11) (mI 12) (mI 13) (mN 19) (mN 20) (mN 21) (mN 22) (mI 14) (mI 15)) hd hm1 mw636 mw637 mw5 mw638 rfl 11 rfl rfl 0 _ rfl yk_yX11_where_0 rfl hf hlo hst h1 h2 ?_
  rintro r w ⟨m_thrown2_n, rfl⟩
  refine k_perm _ pm_backM ?_
  exact kont r _ (MW_mk (uu mI 0 m_thrown2_n) mN mFletters mFfresh mFfrom mFbegin mFmotor mFchange mFstartFrame mFchangeFrame mFlostAt mFblackAt mFslips mFleftArc mFdied mFarcs mFthere mFbackAt mFsorted mFparts h_m_size h_m_end h_m_nameSize h_m_failed h_m_hasHouse h_m_undos h_m_images h_m_taped hRr hRf hTr (pk_back [false] [(cO11_i1r1i10r1i2r5i2r12i3r4i2 mo m_thrown2_n (mN 0) m_taped (mI 1) (mI 2) (mI 3) (mI 4) (mI 5) (mI 6) (mI 7) (mI 8) (mI 9) (mN 1) (mI 10) m_hasHouse (mN 2) (mN 3) (mN 4) (mN 5) (mN 6) m_undos m_images (mN 7) (mN 8) (mN 9) (mN 10) (mN 11) (mN 12) (mN 13) (mN 14) (mN 15) (mN 16) (mN 17) (mN 18) (mI 11) (mI 12) (mI 13) (mN 19) (mN 20) (mN 21) (mN 22) (mI 14) (mI 15))] rfl rfl (List.Perm.refl _)))

set_option maxHeartbeats 4000000 in
set_option maxRecDepth 100000 in
theorem lx_reel {p : Program} {l : Launch} {e : Env} {R : Room} {s : State} {m : MethodId} {args : Array Value} {below : List Frame} {meth : Method} {c : Code} {Q : State → Prop} {A : Nat → Prop} {g : Gx} {cc : ByteArray} {nL n1 n2 pc : Nat} {own : String} {lv : List (Nat × Value)} {st : List Value} {xtpd : Int32} {tpf : Nat → Int32} {yhnf : Nat → Int32} {yhtn : Int32} {yhtf : Nat → Int32} {yhjn : Int32} {yhjf : Nat → Int32} {yhmn : Int32} {yhmf : Nat → Int32} {yhbn : Int32} {yhbf : Nat → Int32} {yhsn : Int32} {yhsf : Nat → Int32} {yhcn : Int32} {yhcf : Nat → Int32} {zrn : Int32} {zmn : Int32} {zwn : Int32} {zpn : Int32} {zmd : Int32} {ztr : Int32} {zrf : Nat → Int32} {zmf : Nat → Int32} {zwf : Nat → Int32} {zpf : Nat → Int32} {kac : Int32} {knx : Int32} {kim : Int32} {cf : Nat → SC} {h0 i : Nat} {wX wY : va_W} (a1 a2 : Int32) (X : Cx p s m meth c args cc nL own A g) (hx : XW g h0 xtpd tpf yhnf yhtn yhtf yhjn yhjf yhmn yhmf yhbn yhbf yhsn yhsf yhcn yhcf zrn zmn zwn zpn zmd ztr zrf zmf zwf zpf kac knx kim cf wX) (hd : decode cc pc = .ok (.invokevirtual i, 3)) (hm1 : Cond.methodLink own i yX10_reel ∈ wsL_law0) (hf : 3 + 1 ≤ R.frames) (hlo : 8 + (3 + 11) + 65 ≤ R.locals) (hst : (st.map fun v => v.category).sum ≤ 8) (h1 : n1 ≤ R.cells) (h2 : n2 ≤ R.slots)
    (kont : ∀ (r : Int32)  (w2 : va_W), XW g h0 xtpd tpf yhnf yhtn yhtf yhjn yhjf yhmn yhmf yhbn yhbf yhsn yhsf yhcn yhcf zrn zmn zwn zpn zmd ztr zrf zmf zwf zpf kac knx kim cf w2 → Wk p l e R s m args below meth c Q A g nL n1 n2 (w2 ++ wY) lv (pc + 3) (.int r :: st)) : Wk p l e R s m args below meth c Q A g nL n1 n2 (wX ++ wY) lv pc ([.int a2, .int a1] ++ .ref h0 :: st) := by
  refine XW_el hx (fun xN xI0 xI1 xJ1 xG2 xI3 xF3 xI4 xF4 xI5 xF5 xK xI10 xF10 xI11 xF11 xI12 xF12 xI13 xF13 xG13 xJ14 as pl h_xen h_xsta h_xpo h_xtpd h_kac h_knx h_kim hms hPL hkaf hkgf hlen hpm => ?_)
  refine k_callVIP (n := 2) (As := [.int a1, .int a2]) (st := st) X [(cO10_rrrrrrrrri h0 (xN 0) (xN 1) (xN 2) (xN 3) (xN 4) (xN 5) (xN 6) (xN 7) (xN 8) (xI0 0)), ((xN 1), .inr (3, [.ref (xN 37), .ref (xN 38), .ref (xN 39), .ref (xN 40), .ref (xN 41), .ref (xN 42), .ref (xN 43), .ref (xN 44)])), ((xN 40), .inr (8, [.int 8, .int 2, .ref (xN 55), .int yhjn])), ((xN 55), .inl (g.2.2.1, 16, .inl yhjf)), ((xN 2), .inr (7, [.ref (xN 60), .ref (xN 61), .ref (xN 62), .ref (xN 63), .int zmd, .int ztr])), ((xN 60), .inr (8, [.int 8, .int 3, .ref (xN 64), .int zrn])), ((xN 64), .inl (g.2.2.1, 24, .inl zrf)), ((xN 61), .inr (8, [.int 12, .int 3, .ref (xN 65), .int zmn])), ((xN 65), .inl (g.2.2.1, 36, .inl zmf)), ((xN 62), .inr (8, [.int 6, .int 3, .ref (xN 66), .int zwn])), ((xN 66), .inl (g.2.2.1, 18, .inl zwf)), ((xN 63), .inr (8, [.int 8, .int 2, .ref (xN 67), .int zpn])), ((xN 67), .inl (g.2.2.1, 16, .inl zpf))] (pkT (false :: true :: true :: true :: true :: true :: true :: true :: true :: true :: true :: true :: true :: true :: true :: true :: true :: true :: true :: true :: true :: true :: true :: true :: true :: true :: true :: true :: true :: true :: false :: true :: true :: true :: true :: true :: true :: true :: true :: true :: true :: true :: true :: true :: false :: false :: true :: true :: true :: true :: true :: true :: true :: true :: false :: false :: false :: false :: false :: false :: false :: false :: false :: []) (XC g h0 xtpd tpf yhnf yhtn yhtf yhjn yhjf yhmn yhmf yhbn yhbf yhsn yhsf yhcn yhcf zrn zmn zwn zpn zmd ztr zrf zmf zwf zpf kac knx kim xN xI0 xI1 xJ1 xG2 xI3 xF3 xI4 xF4 xI5 xF5 xK xI10 xF10 xI11 xF11 xI12 xF12 xI13 xF13 xG13 xJ14) ++ (pl ++ wY)) (pm_X hpm (pk_pick (false :: true :: true :: true :: true :: true :: true :: true :: true :: true :: true :: true :: true :: true :: true :: true :: true :: true :: true :: true :: true :: true :: true :: true :: true :: true :: true :: true :: true :: true :: false :: true :: true :: true :: true :: true :: true :: true :: true :: true :: true :: true :: true :: true :: false :: false :: true :: true :: true :: true :: true :: true :: true :: true :: false :: false :: false :: false :: false :: false :: false :: false :: false :: []) [(cO10_rrrrrrrrri h0 (xN 0) (xN 1) (xN 2) (xN 3) (xN 4) (xN 5) (xN 6) (xN 7) (xN 8) (xI0 0)), ((xN 1), .inr (3, [.ref (xN 37), .ref (xN 38), .ref (xN 39), .ref (xN 40), .ref (xN 41), .ref (xN 42), .ref (xN 43), .ref (xN 44)])), ((xN 40), .inr (8, [.int 8, .int 2, .ref (xN 55), .int yhjn])), ((xN 55), .inl (g.2.2.1, 16, .inl yhjf)), ((xN 2), .inr (7, [.ref (xN 60), .ref (xN 61), .ref (xN 62), .ref (xN 63), .int zmd, .int ztr])), ((xN 60), .inr (8, [.int 8, .int 3, .ref (xN 64), .int zrn])), ((xN 64), .inl (g.2.2.1, 24, .inl zrf)), ((xN 61), .inr (8, [.int 12, .int 3, .ref (xN 65), .int zmn])), ((xN 65), .inl (g.2.2.1, 36, .inl zmf)), ((xN 62), .inr (8, [.int 6, .int 3, .ref (xN 66), .int zwn])), ((xN 66), .inl (g.2.2.1, 18, .inl zwf)), ((xN 63), .inr (8, [.int 8, .int 2, .ref (xN 67), .int zpn])), ((xN 67), .inl (g.2.2.1, 16, .inl zpf))] rfl (List.Perm.refl _))) (c_reel l g h0 a1 a2 (.ref (xN 0)) (xN 1) (xN 2) (.ref (xN 3)) (.ref (xN 4)) (.ref (xN 5)) (.ref (xN 6)) (.ref (xN 7)) (.ref (xN 8)) (xI0 0) (.ref (xN 37)) (.ref (xN 38)) (.ref (xN 39)) (xN 40) (.ref (xN 41)) (.ref (xN 42)) (.ref (xN 43)) (.ref (xN 44)) (xN 55) yhjn yhjf (xN 60) (xN 61) (xN 62) (xN 63) zmd ztr (xN 64) zrn zrf (xN 65) zmn zmf (xN 66) zwn zwf (xN 67) zpn zpf) hd hm1 mw640 mw641 mw2 mw642 rfl 10 rfl rfl 0 _ rfl yk_yX10_reel_2 rfl hf hlo hst h1 h2 ?_
  rintro r w ⟨tr2_n, rfl⟩
  refine k_perm _ pm_backX ?_
  exact kont r _ (XW_mk xN (uu xI0 0 tr2_n) xI1 xJ1 xG2 xI3 xF3 xI4 xF4 xI5 xF5 xK xI10 xF10 xI11 xF11 xI12 xF12 xI13 xF13 xG13 xJ14 as pl h_xen h_xsta h_xpo h_xtpd h_kac h_knx h_kim hms hPL hkaf hkgf hlen (pk_backR (false :: true :: true :: true :: true :: true :: true :: true :: true :: true :: true :: true :: true :: true :: true :: true :: true :: true :: true :: true :: true :: true :: true :: true :: true :: true :: true :: true :: true :: true :: false :: true :: true :: true :: true :: true :: true :: true :: true :: true :: true :: true :: true :: true :: false :: false :: true :: true :: true :: true :: true :: true :: true :: true :: false :: false :: false :: false :: false :: false :: false :: false :: false :: []) [(cO10_rrrrrrrrri h0 (xN 0) (xN 1) (xN 2) (xN 3) (xN 4) (xN 5) (xN 6) (xN 7) (xN 8) tr2_n), ((xN 1), .inr (3, [.ref (xN 37), .ref (xN 38), .ref (xN 39), .ref (xN 40), .ref (xN 41), .ref (xN 42), .ref (xN 43), .ref (xN 44)])), ((xN 40), .inr (8, [.int 8, .int 2, .ref (xN 55), .int yhjn])), ((xN 55), .inl (g.2.2.1, 16, .inl yhjf)), ((xN 2), .inr (7, [.ref (xN 60), .ref (xN 61), .ref (xN 62), .ref (xN 63), .int zmd, .int ztr])), ((xN 60), .inr (8, [.int 8, .int 3, .ref (xN 64), .int zrn])), ((xN 64), .inl (g.2.2.1, 24, .inl zrf)), ((xN 61), .inr (8, [.int 12, .int 3, .ref (xN 65), .int zmn])), ((xN 65), .inl (g.2.2.1, 36, .inl zmf)), ((xN 62), .inr (8, [.int 6, .int 3, .ref (xN 66), .int zwn])), ((xN 66), .inl (g.2.2.1, 18, .inl zwf)), ((xN 63), .inr (8, [.int 8, .int 2, .ref (xN 67), .int zpn])), ((xN 67), .inl (g.2.2.1, 16, .inl zpf))] rfl rfl (List.Perm.refl _)))

set_option maxHeartbeats 4000000 in
set_option maxRecDepth 100000 in
theorem lm_reel {p : Program} {l : Launch} {e : Env} {R : Room} {s : State} {m : MethodId} {args : Array Value} {below : List Frame} {meth : Method} {c : Code} {Q : State → Prop} {A : Nat → Prop} {g : Gx} {cc : ByteArray} {nL n1 n2 pc : Nat} {own : String} {lv : List (Nat × Value)} {st : List Value} {m_taped : Int32} {d_tape : Nat → Int32} {d_r : Nat → Int32} {d_st : Nat → Int32} {d_undone : Nat → Int32} {d_kept : Nat → Int32} {m_undos : Int32} {m_images : Int32} {m_hasHouse : Int32} {mo i : Nat} {wX wM wO : va_W} (a1 a2 : Int32) (X : Cx p s m meth c args cc nL own A g) (hx : MW g mo m_taped d_tape d_r d_st d_undone d_kept m_undos m_images m_hasHouse wM) (hd : decode cc pc = .ok (.invokevirtual i, 3)) (hm1 : Cond.methodLink own i yX11_reel ∈ wsL_law0) (hf : 3 + 1 ≤ R.frames) (hlo : 8 + (3 + 11) + 65 ≤ R.locals) (hst : (st.map fun v => v.category).sum ≤ 8) (h1 : n1 ≤ R.cells) (h2 : n2 ≤ R.slots)
    (kont : ∀ (r : Int32)  (w2 : va_W), MW g mo m_taped d_tape d_r d_st d_undone d_kept m_undos m_images m_hasHouse w2 → Wk p l e R s m args below meth c Q A g nL n1 n2 (wX ++ (w2 ++ wO)) lv (pc + 3) (.int r :: st)) : Wk p l e R s m args below meth c Q A g nL n1 n2 (wX ++ (wM ++ wO)) lv pc ([.int a2, .int a1] ++ .ref mo :: st) := by
  refine MW_el hx (fun mI mN mFletters mFfresh mFfrom mFbegin mFmotor mFchange mFstartFrame mFchangeFrame mFlostAt mFblackAt mFslips mFleftArc mFdied mFarcs mFthere mFbackAt mFsorted mFparts h_m_size h_m_end h_m_nameSize h_m_failed h_m_hasHouse h_m_undos h_m_images h_m_taped hRr hRf hTr hpm => ?_)
  refine k_callVIP (n := 2) (As := [.int a1, .int a2]) (st := st) X [(cO11_i1r1i10r1i2r5i2r12i3r4i2 mo (mI 0) (mN 0) m_taped (mI 1) (mI 2) (mI 3) (mI 4) (mI 5) (mI 6) (mI 7) (mI 8) (mI 9) (mN 1) (mI 10) m_hasHouse (mN 2) (mN 3) (mN 4) (mN 5) (mN 6) m_undos m_images (mN 7) (mN 8) (mN 9) (mN 10) (mN 11) (mN 12) (mN 13) (mN 14) (mN 15) (mN 16) (mN 17) (mN 18) (mI 11) (mI 12) (mI 13) (mN 19) (mN 20) (mN 21) (mN 22) (mI 14) (mI 15)), ((mN 2), .inl (g.2.2.1, 311, .inl d_r)), ((mN 4), .inl (g.2.2.1, 44, .inl d_st))] (pkT [false, true, true, false, true, false] (MC g mo m_taped d_tape d_r d_st d_undone d_kept m_undos m_images m_hasHouse mI mN mFletters mFfresh mFfrom mFbegin mFmotor mFchange mFstartFrame mFchangeFrame mFlostAt mFblackAt mFslips mFleftArc mFdied mFarcs mFthere mFbackAt mFsorted mFparts) ++ (wX ++ wO)) (pm_M hpm (pk_pick [false, true, true, false, true, false] [(cO11_i1r1i10r1i2r5i2r12i3r4i2 mo (mI 0) (mN 0) m_taped (mI 1) (mI 2) (mI 3) (mI 4) (mI 5) (mI 6) (mI 7) (mI 8) (mI 9) (mN 1) (mI 10) m_hasHouse (mN 2) (mN 3) (mN 4) (mN 5) (mN 6) m_undos m_images (mN 7) (mN 8) (mN 9) (mN 10) (mN 11) (mN 12) (mN 13) (mN 14) (mN 15) (mN 16) (mN 17) (mN 18) (mI 11) (mI 12) (mI 13) (mN 19) (mN 20) (mN 21) (mN 22) (mI 14) (mI 15)), ((mN 2), .inl (g.2.2.1, 311, .inl d_r)), ((mN 4), .inl (g.2.2.1, 44, .inl d_st))] rfl (List.Perm.refl _))) (m_reel l g mo a1 a2 (mI 0) (mN 0) m_taped (mI 1) (mI 2) (mI 3) (mI 4) (mI 5) (mI 6) (mI 7) (mI 8) (mI 9) (mN 1) (mI 10) m_hasHouse (mN 2) (mN 3) (mN 4) (mN 5) (mN 6) m_undos m_images (mN 7) (mN 8) (mN 9) (mN 10) (mN 11) (mN 12) (mN 13) (mN 14) (mN 15) (mN 16) (mN 17) (mN 18) (mI 11) (mI 12) (mI 13) (mN 19) (mN 20) (mN 21) (mN 22) (mI 14) (mI 15) d_r d_st (iv_w h_m_hasHouse (zle_e rfl) (zle_e rfl)) hRr) hd hm1 mw667 mw668 mw5 mw669 rfl 11 rfl rfl 0 _ rfl yk_yX11_reel_2 rfl hf hlo hst h1 h2 ?_
  rintro r w ⟨m_thrown2_n, m_trouble2_n, rfl⟩
  refine k_perm _ pm_backM ?_
  exact kont r _ (MW_mk (uu (uu mI 0 m_thrown2_n) 9 m_trouble2_n) mN mFletters mFfresh mFfrom mFbegin mFmotor mFchange mFstartFrame mFchangeFrame mFlostAt mFblackAt mFslips mFleftArc mFdied mFarcs mFthere mFbackAt mFsorted mFparts h_m_size h_m_end h_m_nameSize h_m_failed h_m_hasHouse h_m_undos h_m_images h_m_taped hRr hRf hTr (pk_back [false, true, true, false, true, false] [(cO11_i1r1i10r1i2r5i2r12i3r4i2 mo m_thrown2_n (mN 0) m_taped (mI 1) (mI 2) (mI 3) (mI 4) (mI 5) (mI 6) (mI 7) (mI 8) m_trouble2_n (mN 1) (mI 10) m_hasHouse (mN 2) (mN 3) (mN 4) (mN 5) (mN 6) m_undos m_images (mN 7) (mN 8) (mN 9) (mN 10) (mN 11) (mN 12) (mN 13) (mN 14) (mN 15) (mN 16) (mN 17) (mN 18) (mI 11) (mI 12) (mI 13) (mN 19) (mN 20) (mN 21) (mN 22) (mI 14) (mI 15)), ((mN 2), .inl (g.2.2.1, 311, .inl d_r)), ((mN 4), .inl (g.2.2.1, 44, .inl d_st))] rfl rfl (List.Perm.refl _)))

set_option maxHeartbeats 4000000 in
set_option maxRecDepth 100000 in
theorem lx_mark {p : Program} {l : Launch} {e : Env} {R : Room} {s : State} {m : MethodId} {args : Array Value} {below : List Frame} {meth : Method} {c : Code} {Q : State → Prop} {A : Nat → Prop} {g : Gx} {cc : ByteArray} {nL n1 n2 pc : Nat} {own : String} {lv : List (Nat × Value)} {st : List Value} {xtpd : Int32} {tpf : Nat → Int32} {yhnf : Nat → Int32} {yhtn : Int32} {yhtf : Nat → Int32} {yhjn : Int32} {yhjf : Nat → Int32} {yhmn : Int32} {yhmf : Nat → Int32} {yhbn : Int32} {yhbf : Nat → Int32} {yhsn : Int32} {yhsf : Nat → Int32} {yhcn : Int32} {yhcf : Nat → Int32} {zrn : Int32} {zmn : Int32} {zwn : Int32} {zpn : Int32} {zmd : Int32} {ztr : Int32} {zrf : Nat → Int32} {zmf : Nat → Int32} {zwf : Nat → Int32} {zpf : Nat → Int32} {kac : Int32} {knx : Int32} {kim : Int32} {cf : Nat → SC} {h0 i : Nat} {wX wY : va_W} (a1 a2 : Int32) (X : Cx p s m meth c args cc nL own A g) (hx : XW g h0 xtpd tpf yhnf yhtn yhtf yhjn yhjf yhmn yhmf yhbn yhbf yhsn yhsf yhcn yhcf zrn zmn zwn zpn zmd ztr zrf zmf zwf zpf kac knx kim cf wX) (hd : decode cc pc = .ok (.invokevirtual i, 3)) (hm1 : Cond.methodLink own i yX10_mark ∈ wsL_law0) (hf : 2 + 1 ≤ R.frames) (hlo : 8 + (3 + 11) + 45 ≤ R.locals) (hst : (st.map fun v => v.category).sum ≤ 8) (h1 : n1 ≤ R.cells) (h2 : n2 ≤ R.slots)
    (kont : ∀ (r : Int32)  (w2 : va_W), XW g h0 xtpd tpf yhnf yhtn yhtf yhjn yhjf yhmn yhmf yhbn yhbf yhsn yhsf yhcn yhcf zrn zmn zwn zpn zmd ztr zrf zmf zwf zpf kac knx kim cf w2 → Wk p l e R s m args below meth c Q A g nL n1 n2 (w2 ++ wY) lv (pc + 3) (.int r :: st)) : Wk p l e R s m args below meth c Q A g nL n1 n2 (wX ++ wY) lv pc ([.int a2, .int a1] ++ .ref h0 :: st) := by
  refine XW_el hx (fun xN xI0 xI1 xJ1 xG2 xI3 xF3 xI4 xF4 xI5 xF5 xK xI10 xF10 xI11 xF11 xI12 xF12 xI13 xF13 xG13 xJ14 as pl h_xen h_xsta h_xpo h_xtpd h_kac h_knx h_kim hms hPL hkaf hkgf hlen hpm => ?_)
  refine k_callVIP (n := 2) (As := [.int a1, .int a2]) (st := st) X [(cO10_rrrrrrrrri h0 (xN 0) (xN 1) (xN 2) (xN 3) (xN 4) (xN 5) (xN 6) (xN 7) (xN 8) (xI0 0)), ((xN 1), .inr (3, [.ref (xN 37), .ref (xN 38), .ref (xN 39), .ref (xN 40), .ref (xN 41), .ref (xN 42), .ref (xN 43), .ref (xN 44)])), ((xN 39), .inr (8, [.int 4, .int 1, .ref (xN 54), .int yhtn])), ((xN 54), .inl (g.2.2.1, 4, .inl yhtf)), ((xN 2), .inr (7, [.ref (xN 60), .ref (xN 61), .ref (xN 62), .ref (xN 63), .int zmd, .int ztr])), ((xN 60), .inr (8, [.int 8, .int 3, .ref (xN 64), .int zrn])), ((xN 64), .inl (g.2.2.1, 24, .inl zrf)), ((xN 61), .inr (8, [.int 12, .int 3, .ref (xN 65), .int zmn])), ((xN 65), .inl (g.2.2.1, 36, .inl zmf)), ((xN 62), .inr (8, [.int 6, .int 3, .ref (xN 66), .int zwn])), ((xN 66), .inl (g.2.2.1, 18, .inl zwf)), ((xN 63), .inr (8, [.int 8, .int 2, .ref (xN 67), .int zpn])), ((xN 67), .inl (g.2.2.1, 16, .inl zpf))] (pkT (false :: true :: true :: true :: true :: true :: true :: true :: true :: true :: true :: true :: true :: true :: true :: true :: true :: true :: true :: true :: true :: true :: true :: true :: true :: true :: true :: true :: true :: true :: false :: true :: true :: true :: true :: true :: true :: true :: true :: true :: true :: true :: false :: false :: true :: true :: true :: true :: true :: true :: true :: true :: true :: true :: false :: false :: false :: false :: false :: false :: false :: false :: false :: []) (XC g h0 xtpd tpf yhnf yhtn yhtf yhjn yhjf yhmn yhmf yhbn yhbf yhsn yhsf yhcn yhcf zrn zmn zwn zpn zmd ztr zrf zmf zwf zpf kac knx kim xN xI0 xI1 xJ1 xG2 xI3 xF3 xI4 xF4 xI5 xF5 xK xI10 xF10 xI11 xF11 xI12 xF12 xI13 xF13 xG13 xJ14) ++ (pl ++ wY)) (pm_X hpm (pk_pick (false :: true :: true :: true :: true :: true :: true :: true :: true :: true :: true :: true :: true :: true :: true :: true :: true :: true :: true :: true :: true :: true :: true :: true :: true :: true :: true :: true :: true :: true :: false :: true :: true :: true :: true :: true :: true :: true :: true :: true :: true :: true :: false :: false :: true :: true :: true :: true :: true :: true :: true :: true :: true :: true :: false :: false :: false :: false :: false :: false :: false :: false :: false :: []) [(cO10_rrrrrrrrri h0 (xN 0) (xN 1) (xN 2) (xN 3) (xN 4) (xN 5) (xN 6) (xN 7) (xN 8) (xI0 0)), ((xN 1), .inr (3, [.ref (xN 37), .ref (xN 38), .ref (xN 39), .ref (xN 40), .ref (xN 41), .ref (xN 42), .ref (xN 43), .ref (xN 44)])), ((xN 39), .inr (8, [.int 4, .int 1, .ref (xN 54), .int yhtn])), ((xN 54), .inl (g.2.2.1, 4, .inl yhtf)), ((xN 2), .inr (7, [.ref (xN 60), .ref (xN 61), .ref (xN 62), .ref (xN 63), .int zmd, .int ztr])), ((xN 60), .inr (8, [.int 8, .int 3, .ref (xN 64), .int zrn])), ((xN 64), .inl (g.2.2.1, 24, .inl zrf)), ((xN 61), .inr (8, [.int 12, .int 3, .ref (xN 65), .int zmn])), ((xN 65), .inl (g.2.2.1, 36, .inl zmf)), ((xN 62), .inr (8, [.int 6, .int 3, .ref (xN 66), .int zwn])), ((xN 66), .inl (g.2.2.1, 18, .inl zwf)), ((xN 63), .inr (8, [.int 8, .int 2, .ref (xN 67), .int zpn])), ((xN 67), .inl (g.2.2.1, 16, .inl zpf))] rfl (List.Perm.refl _))) (c_mark l g h0 a1 a2 (.ref (xN 0)) (xN 1) (xN 2) (.ref (xN 3)) (.ref (xN 4)) (.ref (xN 5)) (.ref (xN 6)) (.ref (xN 7)) (.ref (xN 8)) (xI0 0) (.ref (xN 37)) (.ref (xN 38)) (xN 39) (.ref (xN 40)) (.ref (xN 41)) (.ref (xN 42)) (.ref (xN 43)) (.ref (xN 44)) (xN 54) yhtn yhtf (xN 60) (xN 61) (xN 62) (xN 63) zmd ztr (xN 64) zrn zrf (xN 65) zmn zmf (xN 66) zwn zwf (xN 67) zpn zpf) hd hm1 mw694 mw695 mw2 mw696 rfl 10 rfl rfl 0 _ rfl yk_yX10_mark_2 rfl hf hlo hst h1 h2 ?_
  rintro r w ⟨tr2_n, rfl⟩
  refine k_perm _ pm_backX ?_
  exact kont r _ (XW_mk xN (uu xI0 0 tr2_n) xI1 xJ1 xG2 xI3 xF3 xI4 xF4 xI5 xF5 xK xI10 xF10 xI11 xF11 xI12 xF12 xI13 xF13 xG13 xJ14 as pl h_xen h_xsta h_xpo h_xtpd h_kac h_knx h_kim hms hPL hkaf hkgf hlen (pk_backR (false :: true :: true :: true :: true :: true :: true :: true :: true :: true :: true :: true :: true :: true :: true :: true :: true :: true :: true :: true :: true :: true :: true :: true :: true :: true :: true :: true :: true :: true :: false :: true :: true :: true :: true :: true :: true :: true :: true :: true :: true :: true :: false :: false :: true :: true :: true :: true :: true :: true :: true :: true :: true :: true :: false :: false :: false :: false :: false :: false :: false :: false :: false :: []) [(cO10_rrrrrrrrri h0 (xN 0) (xN 1) (xN 2) (xN 3) (xN 4) (xN 5) (xN 6) (xN 7) (xN 8) tr2_n), ((xN 1), .inr (3, [.ref (xN 37), .ref (xN 38), .ref (xN 39), .ref (xN 40), .ref (xN 41), .ref (xN 42), .ref (xN 43), .ref (xN 44)])), ((xN 39), .inr (8, [.int 4, .int 1, .ref (xN 54), .int yhtn])), ((xN 54), .inl (g.2.2.1, 4, .inl yhtf)), ((xN 2), .inr (7, [.ref (xN 60), .ref (xN 61), .ref (xN 62), .ref (xN 63), .int zmd, .int ztr])), ((xN 60), .inr (8, [.int 8, .int 3, .ref (xN 64), .int zrn])), ((xN 64), .inl (g.2.2.1, 24, .inl zrf)), ((xN 61), .inr (8, [.int 12, .int 3, .ref (xN 65), .int zmn])), ((xN 65), .inl (g.2.2.1, 36, .inl zmf)), ((xN 62), .inr (8, [.int 6, .int 3, .ref (xN 66), .int zwn])), ((xN 66), .inl (g.2.2.1, 18, .inl zwf)), ((xN 63), .inr (8, [.int 8, .int 2, .ref (xN 67), .int zpn])), ((xN 67), .inl (g.2.2.1, 16, .inl zpf))] rfl rfl (List.Perm.refl _)))

set_option maxHeartbeats 4000000 in
set_option maxRecDepth 100000 in
theorem lm_mark {p : Program} {l : Launch} {e : Env} {R : Room} {s : State} {m : MethodId} {args : Array Value} {below : List Frame} {meth : Method} {c : Code} {Q : State → Prop} {A : Nat → Prop} {g : Gx} {cc : ByteArray} {nL n1 n2 pc : Nat} {own : String} {lv : List (Nat × Value)} {st : List Value} {m_taped : Int32} {d_tape : Nat → Int32} {d_r : Nat → Int32} {d_st : Nat → Int32} {d_undone : Nat → Int32} {d_kept : Nat → Int32} {m_undos : Int32} {m_images : Int32} {m_hasHouse : Int32} {mo i : Nat} {wX wM wO : va_W} (a1 a2 : Int32) (X : Cx p s m meth c args cc nL own A g) (hx : MW g mo m_taped d_tape d_r d_st d_undone d_kept m_undos m_images m_hasHouse wM) (hd : decode cc pc = .ok (.invokevirtual i, 3)) (hm1 : Cond.methodLink own i yX11_mark ∈ wsL_law0) (hf : 2 + 1 ≤ R.frames) (hlo : 8 + (3 + 11) + 43 ≤ R.locals) (hst : (st.map fun v => v.category).sum ≤ 8) (h1 : n1 ≤ R.cells) (h2 : n2 ≤ R.slots)
    (kont : ∀ (r : Int32)  (w2 : va_W), MW g mo m_taped d_tape d_r d_st d_undone d_kept m_undos m_images m_hasHouse w2 → Wk p l e R s m args below meth c Q A g nL n1 n2 (wX ++ (w2 ++ wO)) lv (pc + 3) (.int r :: st)) : Wk p l e R s m args below meth c Q A g nL n1 n2 (wX ++ (wM ++ wO)) lv pc ([.int a2, .int a1] ++ .ref mo :: st) := by
  refine MW_el hx (fun mI mN mFletters mFfresh mFfrom mFbegin mFmotor mFchange mFstartFrame mFchangeFrame mFlostAt mFblackAt mFslips mFleftArc mFdied mFarcs mFthere mFbackAt mFsorted mFparts h_m_size h_m_end h_m_nameSize h_m_failed h_m_hasHouse h_m_undos h_m_images h_m_taped hRr hRf hTr hpm => ?_)
  refine k_callVIP (n := 2) (As := [.int a1, .int a2]) (st := st) X [(cO11_i1r1i10r1i2r5i2r12i3r4i2 mo (mI 0) (mN 0) m_taped (mI 1) (mI 2) (mI 3) (mI 4) (mI 5) (mI 6) (mI 7) (mI 8) (mI 9) (mN 1) (mI 10) m_hasHouse (mN 2) (mN 3) (mN 4) (mN 5) (mN 6) m_undos m_images (mN 7) (mN 8) (mN 9) (mN 10) (mN 11) (mN 12) (mN 13) (mN 14) (mN 15) (mN 16) (mN 17) (mN 18) (mI 11) (mI 12) (mI 13) (mN 19) (mN 20) (mN 21) (mN 22) (mI 14) (mI 15)), ((mN 2), .inl (g.2.2.1, 311, .inl d_r)), ((mN 4), .inl (g.2.2.1, 44, .inl d_st))] (pkT [false, true, true, false, true, false] (MC g mo m_taped d_tape d_r d_st d_undone d_kept m_undos m_images m_hasHouse mI mN mFletters mFfresh mFfrom mFbegin mFmotor mFchange mFstartFrame mFchangeFrame mFlostAt mFblackAt mFslips mFleftArc mFdied mFarcs mFthere mFbackAt mFsorted mFparts) ++ (wX ++ wO)) (pm_M hpm (pk_pick [false, true, true, false, true, false] [(cO11_i1r1i10r1i2r5i2r12i3r4i2 mo (mI 0) (mN 0) m_taped (mI 1) (mI 2) (mI 3) (mI 4) (mI 5) (mI 6) (mI 7) (mI 8) (mI 9) (mN 1) (mI 10) m_hasHouse (mN 2) (mN 3) (mN 4) (mN 5) (mN 6) m_undos m_images (mN 7) (mN 8) (mN 9) (mN 10) (mN 11) (mN 12) (mN 13) (mN 14) (mN 15) (mN 16) (mN 17) (mN 18) (mI 11) (mI 12) (mI 13) (mN 19) (mN 20) (mN 21) (mN 22) (mI 14) (mI 15)), ((mN 2), .inl (g.2.2.1, 311, .inl d_r)), ((mN 4), .inl (g.2.2.1, 44, .inl d_st))] rfl (List.Perm.refl _))) (m_mark l g mo a1 a2 (mI 0) (mN 0) m_taped (mI 1) (mI 2) (mI 3) (mI 4) (mI 5) (mI 6) (mI 7) (mI 8) (mI 9) (mN 1) (mI 10) m_hasHouse (mN 2) (mN 3) (mN 4) (mN 5) (mN 6) m_undos m_images (mN 7) (mN 8) (mN 9) (mN 10) (mN 11) (mN 12) (mN 13) (mN 14) (mN 15) (mN 16) (mN 17) (mN 18) (mI 11) (mI 12) (mI 13) (mN 19) (mN 20) (mN 21) (mN 22) (mI 14) (mI 15) d_r d_st (iv_w h_m_hasHouse (zle_e rfl) (zle_e rfl)) hRr) hd hm1 mw700 mw701 mw5 mw702 rfl 11 rfl rfl 0 _ rfl yk_yX11_mark_2 rfl hf hlo hst h1 h2 ?_
  rintro r w ⟨m_thrown2_n, m_trouble2_n, rfl⟩
  refine k_perm _ pm_backM ?_
  exact kont r _ (MW_mk (uu (uu mI 0 m_thrown2_n) 9 m_trouble2_n) mN mFletters mFfresh mFfrom mFbegin mFmotor mFchange mFstartFrame mFchangeFrame mFlostAt mFblackAt mFslips mFleftArc mFdied mFarcs mFthere mFbackAt mFsorted mFparts h_m_size h_m_end h_m_nameSize h_m_failed h_m_hasHouse h_m_undos h_m_images h_m_taped hRr hRf hTr (pk_back [false, true, true, false, true, false] [(cO11_i1r1i10r1i2r5i2r12i3r4i2 mo m_thrown2_n (mN 0) m_taped (mI 1) (mI 2) (mI 3) (mI 4) (mI 5) (mI 6) (mI 7) (mI 8) m_trouble2_n (mN 1) (mI 10) m_hasHouse (mN 2) (mN 3) (mN 4) (mN 5) (mN 6) m_undos m_images (mN 7) (mN 8) (mN 9) (mN 10) (mN 11) (mN 12) (mN 13) (mN 14) (mN 15) (mN 16) (mN 17) (mN 18) (mI 11) (mI 12) (mI 13) (mN 19) (mN 20) (mN 21) (mN 22) (mI 14) (mI 15)), ((mN 2), .inl (g.2.2.1, 311, .inl d_r)), ((mN 4), .inl (g.2.2.1, 44, .inl d_st))] rfl rfl (List.Perm.refl _)))

set_option maxHeartbeats 4000000 in
set_option maxRecDepth 100000 in
theorem lx_shows {p : Program} {l : Launch} {e : Env} {R : Room} {s : State} {m : MethodId} {args : Array Value} {below : List Frame} {meth : Method} {c : Code} {Q : State → Prop} {A : Nat → Prop} {g : Gx} {cc : ByteArray} {nL n1 n2 pc : Nat} {own : String} {lv : List (Nat × Value)} {st : List Value} {xtpd : Int32} {tpf : Nat → Int32} {yhnf : Nat → Int32} {yhtn : Int32} {yhtf : Nat → Int32} {yhjn : Int32} {yhjf : Nat → Int32} {yhmn : Int32} {yhmf : Nat → Int32} {yhbn : Int32} {yhbf : Nat → Int32} {yhsn : Int32} {yhsf : Nat → Int32} {yhcn : Int32} {yhcf : Nat → Int32} {zrn : Int32} {zmn : Int32} {zwn : Int32} {zpn : Int32} {zmd : Int32} {ztr : Int32} {zrf : Nat → Int32} {zmf : Nat → Int32} {zwf : Nat → Int32} {zpf : Nat → Int32} {kac : Int32} {knx : Int32} {kim : Int32} {cf : Nat → SC} {h0 i : Nat} {wX wY : va_W} (a1 : Int32) (X : Cx p s m meth c args cc nL own A g) (hx : XW g h0 xtpd tpf yhnf yhtn yhtf yhjn yhjf yhmn yhmf yhbn yhbf yhsn yhsf yhcn yhcf zrn zmn zwn zpn zmd ztr zrf zmf zwf zpf kac knx kim cf wX) (hd : decode cc pc = .ok (.invokevirtual i, 3)) (hm1 : Cond.methodLink own i yX10_shows ∈ wsL_law0) (hf : 2 + 1 ≤ R.frames) (hlo : 8 + (2 + 11) + 44 ≤ R.locals) (hst : (st.map fun v => v.category).sum ≤ 8) (h1 : n1 ≤ R.cells) (h2 : n2 ≤ R.slots)
    (kont : ∀ (r : Int32)  (w2 : va_W), XW g h0 xtpd tpf yhnf yhtn yhtf yhjn yhjf yhmn yhmf yhbn yhbf yhsn yhsf yhcn yhcf zrn zmn zwn zpn zmd ztr zrf zmf zwf zpf kac knx kim cf w2 → Wk p l e R s m args below meth c Q A g nL n1 n2 (w2 ++ wY) lv (pc + 3) (.int r :: st)) : Wk p l e R s m args below meth c Q A g nL n1 n2 (wX ++ wY) lv pc ([.int a1] ++ .ref h0 :: st) := by
  refine XW_el hx (fun xN xI0 xI1 xJ1 xG2 xI3 xF3 xI4 xF4 xI5 xF5 xK xI10 xF10 xI11 xF11 xI12 xF12 xI13 xF13 xG13 xJ14 as pl h_xen h_xsta h_xpo h_xtpd h_kac h_knx h_kim hms hPL hkaf hkgf hlen hpm => ?_)
  refine k_callVIP (n := 1) (As := [.int a1]) (st := st) X [(cO10_rrrrrrrrri h0 (xN 0) (xN 1) (xN 2) (xN 3) (xN 4) (xN 5) (xN 6) (xN 7) (xN 8) (xI0 0)), ((xN 2), .inr (7, [.ref (xN 60), .ref (xN 61), .ref (xN 62), .ref (xN 63), .int zmd, .int ztr])), ((xN 60), .inr (8, [.int 8, .int 3, .ref (xN 64), .int zrn])), ((xN 64), .inl (g.2.2.1, 24, .inl zrf)), ((xN 61), .inr (8, [.int 12, .int 3, .ref (xN 65), .int zmn])), ((xN 65), .inl (g.2.2.1, 36, .inl zmf)), ((xN 62), .inr (8, [.int 6, .int 3, .ref (xN 66), .int zwn])), ((xN 66), .inl (g.2.2.1, 18, .inl zwf)), ((xN 63), .inr (8, [.int 8, .int 2, .ref (xN 67), .int zpn])), ((xN 67), .inl (g.2.2.1, 16, .inl zpf))] (pkT (false :: true :: true :: true :: true :: true :: true :: true :: true :: true :: true :: true :: true :: true :: true :: true :: true :: true :: true :: true :: true :: true :: true :: true :: true :: true :: true :: true :: true :: true :: true :: true :: true :: true :: true :: true :: true :: true :: true :: true :: true :: true :: true :: true :: true :: true :: true :: true :: true :: true :: true :: true :: true :: true :: false :: false :: false :: false :: false :: false :: false :: false :: false :: []) (XC g h0 xtpd tpf yhnf yhtn yhtf yhjn yhjf yhmn yhmf yhbn yhbf yhsn yhsf yhcn yhcf zrn zmn zwn zpn zmd ztr zrf zmf zwf zpf kac knx kim xN xI0 xI1 xJ1 xG2 xI3 xF3 xI4 xF4 xI5 xF5 xK xI10 xF10 xI11 xF11 xI12 xF12 xI13 xF13 xG13 xJ14) ++ (pl ++ wY)) (pm_X hpm (pk_pick (false :: true :: true :: true :: true :: true :: true :: true :: true :: true :: true :: true :: true :: true :: true :: true :: true :: true :: true :: true :: true :: true :: true :: true :: true :: true :: true :: true :: true :: true :: true :: true :: true :: true :: true :: true :: true :: true :: true :: true :: true :: true :: true :: true :: true :: true :: true :: true :: true :: true :: true :: true :: true :: true :: false :: false :: false :: false :: false :: false :: false :: false :: false :: []) [(cO10_rrrrrrrrri h0 (xN 0) (xN 1) (xN 2) (xN 3) (xN 4) (xN 5) (xN 6) (xN 7) (xN 8) (xI0 0)), ((xN 2), .inr (7, [.ref (xN 60), .ref (xN 61), .ref (xN 62), .ref (xN 63), .int zmd, .int ztr])), ((xN 60), .inr (8, [.int 8, .int 3, .ref (xN 64), .int zrn])), ((xN 64), .inl (g.2.2.1, 24, .inl zrf)), ((xN 61), .inr (8, [.int 12, .int 3, .ref (xN 65), .int zmn])), ((xN 65), .inl (g.2.2.1, 36, .inl zmf)), ((xN 62), .inr (8, [.int 6, .int 3, .ref (xN 66), .int zwn])), ((xN 66), .inl (g.2.2.1, 18, .inl zwf)), ((xN 63), .inr (8, [.int 8, .int 2, .ref (xN 67), .int zpn])), ((xN 67), .inl (g.2.2.1, 16, .inl zpf))] rfl (List.Perm.refl _))) (c_shows l g h0 a1 (.ref (xN 0)) (.ref (xN 1)) (xN 2) (.ref (xN 3)) (.ref (xN 4)) (.ref (xN 5)) (.ref (xN 6)) (.ref (xN 7)) (.ref (xN 8)) (xI0 0) (xN 60) (xN 61) (xN 62) (xN 63) zmd ztr (xN 64) zrn zrf (xN 65) zmn zmf (xN 66) zwn zwf (xN 67) zpn zpf) hd hm1 mw708 mw709 mw2 mw710 rfl 10 rfl rfl 0 _ rfl yk_yX10_shows_1 rfl hf hlo hst h1 h2 ?_
  rintro r w ⟨tr2_n, rfl⟩
  refine k_perm _ pm_backX ?_
  exact kont r _ (XW_mk xN (uu xI0 0 tr2_n) xI1 xJ1 xG2 xI3 xF3 xI4 xF4 xI5 xF5 xK xI10 xF10 xI11 xF11 xI12 xF12 xI13 xF13 xG13 xJ14 as pl h_xen h_xsta h_xpo h_xtpd h_kac h_knx h_kim hms hPL hkaf hkgf hlen (pk_backR (false :: true :: true :: true :: true :: true :: true :: true :: true :: true :: true :: true :: true :: true :: true :: true :: true :: true :: true :: true :: true :: true :: true :: true :: true :: true :: true :: true :: true :: true :: true :: true :: true :: true :: true :: true :: true :: true :: true :: true :: true :: true :: true :: true :: true :: true :: true :: true :: true :: true :: true :: true :: true :: true :: false :: false :: false :: false :: false :: false :: false :: false :: false :: []) [(cO10_rrrrrrrrri h0 (xN 0) (xN 1) (xN 2) (xN 3) (xN 4) (xN 5) (xN 6) (xN 7) (xN 8) tr2_n), ((xN 2), .inr (7, [.ref (xN 60), .ref (xN 61), .ref (xN 62), .ref (xN 63), .int zmd, .int ztr])), ((xN 60), .inr (8, [.int 8, .int 3, .ref (xN 64), .int zrn])), ((xN 64), .inl (g.2.2.1, 24, .inl zrf)), ((xN 61), .inr (8, [.int 12, .int 3, .ref (xN 65), .int zmn])), ((xN 65), .inl (g.2.2.1, 36, .inl zmf)), ((xN 62), .inr (8, [.int 6, .int 3, .ref (xN 66), .int zwn])), ((xN 66), .inl (g.2.2.1, 18, .inl zwf)), ((xN 63), .inr (8, [.int 8, .int 2, .ref (xN 67), .int zpn])), ((xN 67), .inl (g.2.2.1, 16, .inl zpf))] rfl rfl (List.Perm.refl _)))

set_option maxHeartbeats 4000000 in
set_option maxRecDepth 100000 in
theorem lm_shows {p : Program} {l : Launch} {e : Env} {R : Room} {s : State} {m : MethodId} {args : Array Value} {below : List Frame} {meth : Method} {c : Code} {Q : State → Prop} {A : Nat → Prop} {g : Gx} {cc : ByteArray} {nL n1 n2 pc : Nat} {own : String} {lv : List (Nat × Value)} {st : List Value} {m_taped : Int32} {d_tape : Nat → Int32} {d_r : Nat → Int32} {d_st : Nat → Int32} {d_undone : Nat → Int32} {d_kept : Nat → Int32} {m_undos : Int32} {m_images : Int32} {m_hasHouse : Int32} {mo i : Nat} {wX wM wO : va_W} (a1 : Int32) (X : Cx p s m meth c args cc nL own A g) (hx : MW g mo m_taped d_tape d_r d_st d_undone d_kept m_undos m_images m_hasHouse wM) (hd : decode cc pc = .ok (.invokevirtual i, 3)) (hm1 : Cond.methodLink own i yX11_shows ∈ wsL_law0) (hf : 2 + 1 ≤ R.frames) (hlo : 8 + (2 + 11) + 43 ≤ R.locals) (hst : (st.map fun v => v.category).sum ≤ 8) (h1 : n1 ≤ R.cells) (h2 : n2 ≤ R.slots)
    (kont : ∀ (r : Int32)  (w2 : va_W), MW g mo m_taped d_tape d_r d_st d_undone d_kept m_undos m_images m_hasHouse w2 → Wk p l e R s m args below meth c Q A g nL n1 n2 (wX ++ (w2 ++ wO)) lv (pc + 3) (.int r :: st)) : Wk p l e R s m args below meth c Q A g nL n1 n2 (wX ++ (wM ++ wO)) lv pc ([.int a1] ++ .ref mo :: st) := by
  refine MW_el hx (fun mI mN mFletters mFfresh mFfrom mFbegin mFmotor mFchange mFstartFrame mFchangeFrame mFlostAt mFblackAt mFslips mFleftArc mFdied mFarcs mFthere mFbackAt mFsorted mFparts h_m_size h_m_end h_m_nameSize h_m_failed h_m_hasHouse h_m_undos h_m_images h_m_taped hRr hRf hTr hpm => ?_)
  refine k_callVIP (n := 1) (As := [.int a1]) (st := st) X [(cO11_i1r1i10r1i2r5i2r12i3r4i2 mo (mI 0) (mN 0) m_taped (mI 1) (mI 2) (mI 3) (mI 4) (mI 5) (mI 6) (mI 7) (mI 8) (mI 9) (mN 1) (mI 10) m_hasHouse (mN 2) (mN 3) (mN 4) (mN 5) (mN 6) m_undos m_images (mN 7) (mN 8) (mN 9) (mN 10) (mN 11) (mN 12) (mN 13) (mN 14) (mN 15) (mN 16) (mN 17) (mN 18) (mI 11) (mI 12) (mI 13) (mN 19) (mN 20) (mN 21) (mN 22) (mI 14) (mI 15)), ((mN 2), .inl (g.2.2.1, 311, .inl d_r))] (pkT [false, true, true, false] (MC g mo m_taped d_tape d_r d_st d_undone d_kept m_undos m_images m_hasHouse mI mN mFletters mFfresh mFfrom mFbegin mFmotor mFchange mFstartFrame mFchangeFrame mFlostAt mFblackAt mFslips mFleftArc mFdied mFarcs mFthere mFbackAt mFsorted mFparts) ++ (wX ++ wO)) (pm_M hpm (pk_pick [false, true, true, false] [(cO11_i1r1i10r1i2r5i2r12i3r4i2 mo (mI 0) (mN 0) m_taped (mI 1) (mI 2) (mI 3) (mI 4) (mI 5) (mI 6) (mI 7) (mI 8) (mI 9) (mN 1) (mI 10) m_hasHouse (mN 2) (mN 3) (mN 4) (mN 5) (mN 6) m_undos m_images (mN 7) (mN 8) (mN 9) (mN 10) (mN 11) (mN 12) (mN 13) (mN 14) (mN 15) (mN 16) (mN 17) (mN 18) (mI 11) (mI 12) (mI 13) (mN 19) (mN 20) (mN 21) (mN 22) (mI 14) (mI 15)), ((mN 2), .inl (g.2.2.1, 311, .inl d_r))] rfl (List.Perm.refl _))) (m_shows l g mo a1 (mI 0) (mN 0) m_taped (mI 1) (mI 2) (mI 3) (mI 4) (mI 5) (mI 6) (mI 7) (mI 8) (mI 9) (mN 1) (mI 10) m_hasHouse (mN 2) (mN 3) (mN 4) (mN 5) (mN 6) m_undos m_images (mN 7) (mN 8) (mN 9) (mN 10) (mN 11) (mN 12) (mN 13) (mN 14) (mN 15) (mN 16) (mN 17) (mN 18) (mI 11) (mI 12) (mI 13) (mN 19) (mN 20) (mN 21) (mN 22) (mI 14) (mI 15) d_r (iv_w h_m_hasHouse (zle_e rfl) (zle_e rfl)) hRr) hd hm1 mw716 mw717 mw5 mw718 rfl 11 rfl rfl 0 _ rfl yk_yX11_shows_1 rfl hf hlo hst h1 h2 ?_
  rintro r w ⟨m_thrown2_n, m_trouble2_n, rfl⟩
  refine k_perm _ pm_backM ?_
  exact kont r _ (MW_mk (uu (uu mI 0 m_thrown2_n) 9 m_trouble2_n) mN mFletters mFfresh mFfrom mFbegin mFmotor mFchange mFstartFrame mFchangeFrame mFlostAt mFblackAt mFslips mFleftArc mFdied mFarcs mFthere mFbackAt mFsorted mFparts h_m_size h_m_end h_m_nameSize h_m_failed h_m_hasHouse h_m_undos h_m_images h_m_taped hRr hRf hTr (pk_back [false, true, true, false] [(cO11_i1r1i10r1i2r5i2r12i3r4i2 mo m_thrown2_n (mN 0) m_taped (mI 1) (mI 2) (mI 3) (mI 4) (mI 5) (mI 6) (mI 7) (mI 8) m_trouble2_n (mN 1) (mI 10) m_hasHouse (mN 2) (mN 3) (mN 4) (mN 5) (mN 6) m_undos m_images (mN 7) (mN 8) (mN 9) (mN 10) (mN 11) (mN 12) (mN 13) (mN 14) (mN 15) (mN 16) (mN 17) (mN 18) (mI 11) (mI 12) (mI 13) (mN 19) (mN 20) (mN 21) (mN 22) (mI 14) (mI 15)), ((mN 2), .inl (g.2.2.1, 311, .inl d_r))] rfl rfl (List.Perm.refl _)))

set_option maxHeartbeats 4000000 in
set_option maxRecDepth 100000 in
theorem lx_thread {p : Program} {l : Launch} {e : Env} {R : Room} {s : State} {m : MethodId} {args : Array Value} {below : List Frame} {meth : Method} {c : Code} {Q : State → Prop} {A : Nat → Prop} {g : Gx} {cc : ByteArray} {nL n1 n2 pc : Nat} {own : String} {lv : List (Nat × Value)} {st : List Value} {xtpd : Int32} {tpf : Nat → Int32} {yhnf : Nat → Int32} {yhtn : Int32} {yhtf : Nat → Int32} {yhjn : Int32} {yhjf : Nat → Int32} {yhmn : Int32} {yhmf : Nat → Int32} {yhbn : Int32} {yhbf : Nat → Int32} {yhsn : Int32} {yhsf : Nat → Int32} {yhcn : Int32} {yhcf : Nat → Int32} {zrn : Int32} {zmn : Int32} {zwn : Int32} {zpn : Int32} {zmd : Int32} {ztr : Int32} {zrf : Nat → Int32} {zmf : Nat → Int32} {zwf : Nat → Int32} {zpf : Nat → Int32} {kac : Int32} {knx : Int32} {kim : Int32} {cf : Nat → SC} {h0 i : Nat} {wX wY : va_W} (a1 : Int32) (X : Cx p s m meth c args cc nL own A g) (hx : XW g h0 xtpd tpf yhnf yhtn yhtf yhjn yhjf yhmn yhmf yhbn yhbf yhsn yhsf yhcn yhcf zrn zmn zwn zpn zmd ztr zrf zmf zwf zpf kac knx kim cf wX) (hd : decode cc pc = .ok (.invokevirtual i, 3)) (hm1 : Cond.methodLink own i yX10_thread ∈ wsL_law0) (hf : 2 + 1 ≤ R.frames) (hlo : 8 + (2 + 11) + 44 ≤ R.locals) (hst : (st.map fun v => v.category).sum ≤ 8) (h1 : n1 ≤ R.cells) (h2 : n2 ≤ R.slots)
    (kont : ∀ (r : Int32)  (w2 : va_W), XW g h0 xtpd tpf yhnf yhtn yhtf yhjn yhjf yhmn yhmf yhbn yhbf yhsn yhsf yhcn yhcf zrn zmn zwn zpn zmd ztr zrf zmf zwf zpf kac knx kim cf w2 → Wk p l e R s m args below meth c Q A g nL n1 n2 (w2 ++ wY) lv (pc + 3) (.int r :: st)) : Wk p l e R s m args below meth c Q A g nL n1 n2 (wX ++ wY) lv pc ([.int a1] ++ .ref h0 :: st) := by
  refine XW_el hx (fun xN xI0 xI1 xJ1 xG2 xI3 xF3 xI4 xF4 xI5 xF5 xK xI10 xF10 xI11 xF11 xI12 xF12 xI13 xF13 xG13 xJ14 as pl h_xen h_xsta h_xpo h_xtpd h_kac h_knx h_kim hms hPL hkaf hkgf hlen hpm => ?_)
  refine k_callVIP (n := 1) (As := [.int a1]) (st := st) X [(cO10_rrrrrrrrri h0 (xN 0) (xN 1) (xN 2) (xN 3) (xN 4) (xN 5) (xN 6) (xN 7) (xN 8) (xI0 0)), ((xN 2), .inr (7, [.ref (xN 60), .ref (xN 61), .ref (xN 62), .ref (xN 63), .int zmd, .int ztr])), ((xN 60), .inr (8, [.int 8, .int 3, .ref (xN 64), .int zrn])), ((xN 64), .inl (g.2.2.1, 24, .inl zrf)), ((xN 61), .inr (8, [.int 12, .int 3, .ref (xN 65), .int zmn])), ((xN 65), .inl (g.2.2.1, 36, .inl zmf)), ((xN 62), .inr (8, [.int 6, .int 3, .ref (xN 66), .int zwn])), ((xN 66), .inl (g.2.2.1, 18, .inl zwf)), ((xN 63), .inr (8, [.int 8, .int 2, .ref (xN 67), .int zpn])), ((xN 67), .inl (g.2.2.1, 16, .inl zpf))] (pkT (false :: true :: true :: true :: true :: true :: true :: true :: true :: true :: true :: true :: true :: true :: true :: true :: true :: true :: true :: true :: true :: true :: true :: true :: true :: true :: true :: true :: true :: true :: true :: true :: true :: true :: true :: true :: true :: true :: true :: true :: true :: true :: true :: true :: true :: true :: true :: true :: true :: true :: true :: true :: true :: true :: false :: false :: false :: false :: false :: false :: false :: false :: false :: []) (XC g h0 xtpd tpf yhnf yhtn yhtf yhjn yhjf yhmn yhmf yhbn yhbf yhsn yhsf yhcn yhcf zrn zmn zwn zpn zmd ztr zrf zmf zwf zpf kac knx kim xN xI0 xI1 xJ1 xG2 xI3 xF3 xI4 xF4 xI5 xF5 xK xI10 xF10 xI11 xF11 xI12 xF12 xI13 xF13 xG13 xJ14) ++ (pl ++ wY)) (pm_X hpm (pk_pick (false :: true :: true :: true :: true :: true :: true :: true :: true :: true :: true :: true :: true :: true :: true :: true :: true :: true :: true :: true :: true :: true :: true :: true :: true :: true :: true :: true :: true :: true :: true :: true :: true :: true :: true :: true :: true :: true :: true :: true :: true :: true :: true :: true :: true :: true :: true :: true :: true :: true :: true :: true :: true :: true :: false :: false :: false :: false :: false :: false :: false :: false :: false :: []) [(cO10_rrrrrrrrri h0 (xN 0) (xN 1) (xN 2) (xN 3) (xN 4) (xN 5) (xN 6) (xN 7) (xN 8) (xI0 0)), ((xN 2), .inr (7, [.ref (xN 60), .ref (xN 61), .ref (xN 62), .ref (xN 63), .int zmd, .int ztr])), ((xN 60), .inr (8, [.int 8, .int 3, .ref (xN 64), .int zrn])), ((xN 64), .inl (g.2.2.1, 24, .inl zrf)), ((xN 61), .inr (8, [.int 12, .int 3, .ref (xN 65), .int zmn])), ((xN 65), .inl (g.2.2.1, 36, .inl zmf)), ((xN 62), .inr (8, [.int 6, .int 3, .ref (xN 66), .int zwn])), ((xN 66), .inl (g.2.2.1, 18, .inl zwf)), ((xN 63), .inr (8, [.int 8, .int 2, .ref (xN 67), .int zpn])), ((xN 67), .inl (g.2.2.1, 16, .inl zpf))] rfl (List.Perm.refl _))) (c_thread l g h0 a1 (.ref (xN 0)) (.ref (xN 1)) (xN 2) (.ref (xN 3)) (.ref (xN 4)) (.ref (xN 5)) (.ref (xN 6)) (.ref (xN 7)) (.ref (xN 8)) (xI0 0) (xN 60) (xN 61) (xN 62) (xN 63) zmd ztr (xN 64) zrn zrf (xN 65) zmn zmf (xN 66) zwn zwf (xN 67) zpn zpf) hd hm1 mw728 mw729 mw2 mw730 rfl 10 rfl rfl 0 _ rfl yk_yX10_thread_1 rfl hf hlo hst h1 h2 ?_
  rintro r w ⟨tr2_n, rfl⟩
  refine k_perm _ pm_backX ?_
  exact kont r _ (XW_mk xN (uu xI0 0 tr2_n) xI1 xJ1 xG2 xI3 xF3 xI4 xF4 xI5 xF5 xK xI10 xF10 xI11 xF11 xI12 xF12 xI13 xF13 xG13 xJ14 as pl h_xen h_xsta h_xpo h_xtpd h_kac h_knx h_kim hms hPL hkaf hkgf hlen (pk_backR (false :: true :: true :: true :: true :: true :: true :: true :: true :: true :: true :: true :: true :: true :: true :: true :: true :: true :: true :: true :: true :: true :: true :: true :: true :: true :: true :: true :: true :: true :: true :: true :: true :: true :: true :: true :: true :: true :: true :: true :: true :: true :: true :: true :: true :: true :: true :: true :: true :: true :: true :: true :: true :: true :: false :: false :: false :: false :: false :: false :: false :: false :: false :: []) [(cO10_rrrrrrrrri h0 (xN 0) (xN 1) (xN 2) (xN 3) (xN 4) (xN 5) (xN 6) (xN 7) (xN 8) tr2_n), ((xN 2), .inr (7, [.ref (xN 60), .ref (xN 61), .ref (xN 62), .ref (xN 63), .int zmd, .int ztr])), ((xN 60), .inr (8, [.int 8, .int 3, .ref (xN 64), .int zrn])), ((xN 64), .inl (g.2.2.1, 24, .inl zrf)), ((xN 61), .inr (8, [.int 12, .int 3, .ref (xN 65), .int zmn])), ((xN 65), .inl (g.2.2.1, 36, .inl zmf)), ((xN 62), .inr (8, [.int 6, .int 3, .ref (xN 66), .int zwn])), ((xN 66), .inl (g.2.2.1, 18, .inl zwf)), ((xN 63), .inr (8, [.int 8, .int 2, .ref (xN 67), .int zpn])), ((xN 67), .inl (g.2.2.1, 16, .inl zpf))] rfl rfl (List.Perm.refl _)))

set_option maxHeartbeats 4000000 in
set_option maxRecDepth 100000 in
theorem lm_thread {p : Program} {l : Launch} {e : Env} {R : Room} {s : State} {m : MethodId} {args : Array Value} {below : List Frame} {meth : Method} {c : Code} {Q : State → Prop} {A : Nat → Prop} {g : Gx} {cc : ByteArray} {nL n1 n2 pc : Nat} {own : String} {lv : List (Nat × Value)} {st : List Value} {m_taped : Int32} {d_tape : Nat → Int32} {d_r : Nat → Int32} {d_st : Nat → Int32} {d_undone : Nat → Int32} {d_kept : Nat → Int32} {m_undos : Int32} {m_images : Int32} {m_hasHouse : Int32} {mo i : Nat} {wX wM wO : va_W} (a1 : Int32) (X : Cx p s m meth c args cc nL own A g) (hx : MW g mo m_taped d_tape d_r d_st d_undone d_kept m_undos m_images m_hasHouse wM) (hd : decode cc pc = .ok (.invokevirtual i, 3)) (hm1 : Cond.methodLink own i yX11_thread ∈ wsL_law0) (hf : 2 + 1 ≤ R.frames) (hlo : 8 + (2 + 11) + 43 ≤ R.locals) (hst : (st.map fun v => v.category).sum ≤ 8) (h1 : n1 ≤ R.cells) (h2 : n2 ≤ R.slots)
    (kont : ∀ (r : Int32)  (w2 : va_W), MW g mo m_taped d_tape d_r d_st d_undone d_kept m_undos m_images m_hasHouse w2 → Wk p l e R s m args below meth c Q A g nL n1 n2 (wX ++ (w2 ++ wO)) lv (pc + 3) (.int r :: st)) : Wk p l e R s m args below meth c Q A g nL n1 n2 (wX ++ (wM ++ wO)) lv pc ([.int a1] ++ .ref mo :: st) := by
  refine MW_el hx (fun mI mN mFletters mFfresh mFfrom mFbegin mFmotor mFchange mFstartFrame mFchangeFrame mFlostAt mFblackAt mFslips mFleftArc mFdied mFarcs mFthere mFbackAt mFsorted mFparts h_m_size h_m_end h_m_nameSize h_m_failed h_m_hasHouse h_m_undos h_m_images h_m_taped hRr hRf hTr hpm => ?_)
  refine k_callVIP (n := 1) (As := [.int a1]) (st := st) X [(cO11_i1r1i10r1i2r5i2r12i3r4i2 mo (mI 0) (mN 0) m_taped (mI 1) (mI 2) (mI 3) (mI 4) (mI 5) (mI 6) (mI 7) (mI 8) (mI 9) (mN 1) (mI 10) m_hasHouse (mN 2) (mN 3) (mN 4) (mN 5) (mN 6) m_undos m_images (mN 7) (mN 8) (mN 9) (mN 10) (mN 11) (mN 12) (mN 13) (mN 14) (mN 15) (mN 16) (mN 17) (mN 18) (mI 11) (mI 12) (mI 13) (mN 19) (mN 20) (mN 21) (mN 22) (mI 14) (mI 15)), ((mN 2), .inl (g.2.2.1, 311, .inl d_r)), ((mN 4), .inl (g.2.2.1, 44, .inl d_st))] (pkT [false, true, true, false, true, false] (MC g mo m_taped d_tape d_r d_st d_undone d_kept m_undos m_images m_hasHouse mI mN mFletters mFfresh mFfrom mFbegin mFmotor mFchange mFstartFrame mFchangeFrame mFlostAt mFblackAt mFslips mFleftArc mFdied mFarcs mFthere mFbackAt mFsorted mFparts) ++ (wX ++ wO)) (pm_M hpm (pk_pick [false, true, true, false, true, false] [(cO11_i1r1i10r1i2r5i2r12i3r4i2 mo (mI 0) (mN 0) m_taped (mI 1) (mI 2) (mI 3) (mI 4) (mI 5) (mI 6) (mI 7) (mI 8) (mI 9) (mN 1) (mI 10) m_hasHouse (mN 2) (mN 3) (mN 4) (mN 5) (mN 6) m_undos m_images (mN 7) (mN 8) (mN 9) (mN 10) (mN 11) (mN 12) (mN 13) (mN 14) (mN 15) (mN 16) (mN 17) (mN 18) (mI 11) (mI 12) (mI 13) (mN 19) (mN 20) (mN 21) (mN 22) (mI 14) (mI 15)), ((mN 2), .inl (g.2.2.1, 311, .inl d_r)), ((mN 4), .inl (g.2.2.1, 44, .inl d_st))] rfl (List.Perm.refl _))) (m_thread l g mo a1 (mI 0) (mN 0) m_taped (mI 1) (mI 2) (mI 3) (mI 4) (mI 5) (mI 6) (mI 7) (mI 8) (mI 9) (mN 1) (mI 10) m_hasHouse (mN 2) (mN 3) (mN 4) (mN 5) (mN 6) m_undos m_images (mN 7) (mN 8) (mN 9) (mN 10) (mN 11) (mN 12) (mN 13) (mN 14) (mN 15) (mN 16) (mN 17) (mN 18) (mI 11) (mI 12) (mI 13) (mN 19) (mN 20) (mN 21) (mN 22) (mI 14) (mI 15) d_r d_st (iv_w h_m_hasHouse (zle_e rfl) (zle_e rfl)) hRr) hd hm1 mw732 mw733 mw5 mw734 rfl 11 rfl rfl 0 _ rfl yk_yX11_thread_1 rfl hf hlo hst h1 h2 ?_
  rintro r w ⟨m_thrown2_n, m_trouble2_n, rfl⟩
  refine k_perm _ pm_backM ?_
  exact kont r _ (MW_mk (uu (uu mI 0 m_thrown2_n) 9 m_trouble2_n) mN mFletters mFfresh mFfrom mFbegin mFmotor mFchange mFstartFrame mFchangeFrame mFlostAt mFblackAt mFslips mFleftArc mFdied mFarcs mFthere mFbackAt mFsorted mFparts h_m_size h_m_end h_m_nameSize h_m_failed h_m_hasHouse h_m_undos h_m_images h_m_taped hRr hRf hTr (pk_back [false, true, true, false, true, false] [(cO11_i1r1i10r1i2r5i2r12i3r4i2 mo m_thrown2_n (mN 0) m_taped (mI 1) (mI 2) (mI 3) (mI 4) (mI 5) (mI 6) (mI 7) (mI 8) m_trouble2_n (mN 1) (mI 10) m_hasHouse (mN 2) (mN 3) (mN 4) (mN 5) (mN 6) m_undos m_images (mN 7) (mN 8) (mN 9) (mN 10) (mN 11) (mN 12) (mN 13) (mN 14) (mN 15) (mN 16) (mN 17) (mN 18) (mI 11) (mI 12) (mI 13) (mN 19) (mN 20) (mN 21) (mN 22) (mI 14) (mI 15)), ((mN 2), .inl (g.2.2.1, 311, .inl d_r)), ((mN 4), .inl (g.2.2.1, 44, .inl d_st))] rfl rfl (List.Perm.refl _)))

set_option maxHeartbeats 4000000 in
set_option maxRecDepth 100000 in
theorem lx_believes {p : Program} {l : Launch} {e : Env} {R : Room} {s : State} {m : MethodId} {args : Array Value} {below : List Frame} {meth : Method} {c : Code} {Q : State → Prop} {A : Nat → Prop} {g : Gx} {cc : ByteArray} {nL n1 n2 pc : Nat} {own : String} {lv : List (Nat × Value)} {st : List Value} {xtpd : Int32} {tpf : Nat → Int32} {yhnf : Nat → Int32} {yhtn : Int32} {yhtf : Nat → Int32} {yhjn : Int32} {yhjf : Nat → Int32} {yhmn : Int32} {yhmf : Nat → Int32} {yhbn : Int32} {yhbf : Nat → Int32} {yhsn : Int32} {yhsf : Nat → Int32} {yhcn : Int32} {yhcf : Nat → Int32} {zrn : Int32} {zmn : Int32} {zwn : Int32} {zpn : Int32} {zmd : Int32} {ztr : Int32} {zrf : Nat → Int32} {zmf : Nat → Int32} {zwf : Nat → Int32} {zpf : Nat → Int32} {kac : Int32} {knx : Int32} {kim : Int32} {cf : Nat → SC} {h0 i : Nat} {wX wY : va_W} (a1 a2 : Int32) (X : Cx p s m meth c args cc nL own A g) (hx : XW g h0 xtpd tpf yhnf yhtn yhtf yhjn yhjf yhmn yhmf yhbn yhbf yhsn yhsf yhcn yhcf zrn zmn zwn zpn zmd ztr zrf zmf zwf zpf kac knx kim cf wX) (hd : decode cc pc = .ok (.invokevirtual i, 3)) (hm1 : Cond.methodLink own i yX10_believes ∈ wsL_law0) (hf : 6 + 1 ≤ R.frames) (hlo : 8 + (3 + 11) + 141 ≤ R.locals) (hst : (st.map fun v => v.category).sum ≤ 8) (h1 : n1 ≤ R.cells) (h2 : n2 ≤ R.slots)
    (kont : ∀ (r : Int32)  (w2 : va_W), XW g h0 xtpd tpf yhnf yhtn yhtf yhjn yhjf yhmn yhmf yhbn yhbf yhsn yhsf yhcn yhcf zrn zmn zwn zpn zmd ztr zrf zmf zwf zpf kac knx kim cf w2 → Wk p l e R s m args below meth c Q A g nL n1 n2 (w2 ++ wY) lv (pc + 3) (.int r :: st)) : Wk p l e R s m args below meth c Q A g nL n1 n2 (wX ++ wY) lv pc ([.int a2, .int a1] ++ .ref h0 :: st) := by
  refine XW_el hx (fun xN xI0 xI1 xJ1 xG2 xI3 xF3 xI4 xF4 xI5 xF5 xK xI10 xF10 xI11 xF11 xI12 xF12 xI13 xF13 xG13 xJ14 as pl h_xen h_xsta h_xpo h_xtpd h_kac h_knx h_kim hms hPL hkaf hkgf hlen hpm => ?_)
  refine k_callVIP (n := 2) (As := [.int a1, .int a2]) (st := st) X [(cO10_rrrrrrrrri h0 (xN 0) (xN 1) (xN 2) (xN 3) (xN 4) (xN 5) (xN 6) (xN 7) (xN 8) (xI0 0)), ((xN 4), .inr (5, [.ref (xN 70), .int (xI10 0), .int (xI10 1), .int (xI10 2), .int (xI10 3), .int (xI10 4), .int (xI10 5), .int (xI10 6), .int (xI10 7)])), ((xN 70), .inr (8, [.int 8, .int 10, .ref (xN 71), .int (xI10 8)])), ((xN 71), .inl (g.2.2.1, 80, .inl (xF10 0))), ((xN 1), .inr (3, [.ref (xN 37), .ref (xN 38), .ref (xN 39), .ref (xN 40), .ref (xN 41), .ref (xN 42), .ref (xN 43), .ref (xN 44)])), ((xN 38), .inr (8, [.int 1, .int 6, .ref (xN 53), .int (xI5 6)])), ((xN 53), .inl (g.2.2.1, 6, .inl yhnf)), ((xN 41), .inr (8, [.int 4, .int 3, .ref (xN 56), .int yhmn])), ((xN 56), .inl (g.2.2.1, 12, .inl yhmf)), ((xN 2), .inr (7, [.ref (xN 60), .ref (xN 61), .ref (xN 62), .ref (xN 63), .int zmd, .int ztr])), ((xN 60), .inr (8, [.int 8, .int 3, .ref (xN 64), .int zrn])), ((xN 64), .inl (g.2.2.1, 24, .inl zrf)), ((xN 61), .inr (8, [.int 12, .int 3, .ref (xN 65), .int zmn])), ((xN 65), .inl (g.2.2.1, 36, .inl zmf)), ((xN 62), .inr (8, [.int 6, .int 3, .ref (xN 66), .int zwn])), ((xN 66), .inl (g.2.2.1, 18, .inl zwf)), ((xN 63), .inr (8, [.int 8, .int 2, .ref (xN 67), .int zpn])), ((xN 67), .inl (g.2.2.1, 16, .inl zpf))] (pkT (false :: true :: true :: true :: true :: true :: true :: true :: true :: true :: true :: true :: true :: true :: true :: true :: true :: true :: true :: true :: true :: true :: true :: true :: true :: true :: true :: true :: true :: true :: false :: true :: true :: true :: true :: true :: true :: true :: true :: true :: false :: false :: true :: true :: true :: true :: false :: false :: true :: true :: true :: true :: true :: true :: false :: false :: false :: false :: false :: false :: false :: false :: false :: true :: true :: true :: false :: false :: false :: []) (XC g h0 xtpd tpf yhnf yhtn yhtf yhjn yhjf yhmn yhmf yhbn yhbf yhsn yhsf yhcn yhcf zrn zmn zwn zpn zmd ztr zrf zmf zwf zpf kac knx kim xN xI0 xI1 xJ1 xG2 xI3 xF3 xI4 xF4 xI5 xF5 xK xI10 xF10 xI11 xF11 xI12 xF12 xI13 xF13 xG13 xJ14) ++ (pl ++ wY)) (pm_X hpm (pk_pick (false :: true :: true :: true :: true :: true :: true :: true :: true :: true :: true :: true :: true :: true :: true :: true :: true :: true :: true :: true :: true :: true :: true :: true :: true :: true :: true :: true :: true :: true :: false :: true :: true :: true :: true :: true :: true :: true :: true :: true :: false :: false :: true :: true :: true :: true :: false :: false :: true :: true :: true :: true :: true :: true :: false :: false :: false :: false :: false :: false :: false :: false :: false :: true :: true :: true :: false :: false :: false :: []) [(cO10_rrrrrrrrri h0 (xN 0) (xN 1) (xN 2) (xN 3) (xN 4) (xN 5) (xN 6) (xN 7) (xN 8) (xI0 0)), ((xN 1), .inr (3, [.ref (xN 37), .ref (xN 38), .ref (xN 39), .ref (xN 40), .ref (xN 41), .ref (xN 42), .ref (xN 43), .ref (xN 44)])), ((xN 38), .inr (8, [.int 1, .int 6, .ref (xN 53), .int (xI5 6)])), ((xN 53), .inl (g.2.2.1, 6, .inl yhnf)), ((xN 41), .inr (8, [.int 4, .int 3, .ref (xN 56), .int yhmn])), ((xN 56), .inl (g.2.2.1, 12, .inl yhmf)), ((xN 2), .inr (7, [.ref (xN 60), .ref (xN 61), .ref (xN 62), .ref (xN 63), .int zmd, .int ztr])), ((xN 60), .inr (8, [.int 8, .int 3, .ref (xN 64), .int zrn])), ((xN 64), .inl (g.2.2.1, 24, .inl zrf)), ((xN 61), .inr (8, [.int 12, .int 3, .ref (xN 65), .int zmn])), ((xN 65), .inl (g.2.2.1, 36, .inl zmf)), ((xN 62), .inr (8, [.int 6, .int 3, .ref (xN 66), .int zwn])), ((xN 66), .inl (g.2.2.1, 18, .inl zwf)), ((xN 63), .inr (8, [.int 8, .int 2, .ref (xN 67), .int zpn])), ((xN 67), .inl (g.2.2.1, 16, .inl zpf)), ((xN 4), .inr (5, [.ref (xN 70), .int (xI10 0), .int (xI10 1), .int (xI10 2), .int (xI10 3), .int (xI10 4), .int (xI10 5), .int (xI10 6), .int (xI10 7)])), ((xN 70), .inr (8, [.int 8, .int 10, .ref (xN 71), .int (xI10 8)])), ((xN 71), .inl (g.2.2.1, 80, .inl (xF10 0)))] rfl (pm_iy 18 [0, 15, 16, 17, 1, 2, 3, 4, 5, 6, 7, 8, 9, 10, 11, 12, 13, 14] rfl (by decide) rfl))) (c_believes l g h0 a1 a2 (.ref (xN 0)) (xN 1) (xN 2) (.ref (xN 3)) (xN 4) (.ref (xN 5)) (.ref (xN 6)) (.ref (xN 7)) (.ref (xN 8)) (xI0 0) (xN 70) (xI10 0) (xI10 1) (xI10 2) (xI10 3) (xI10 4) (xI10 5) (xI10 6) (xI10 7) (xN 71) (xI10 8) (xF10 0) (.ref (xN 37)) (xN 38) (.ref (xN 39)) (.ref (xN 40)) (xN 41) (.ref (xN 42)) (.ref (xN 43)) (.ref (xN 44)) (xN 53) (xI5 6) yhnf (xN 56) yhmn yhmf (xN 60) (xN 61) (xN 62) (xN 63) zmd ztr (xN 64) zrn zrf (xN 65) zmn zmf (xN 66) zwn zwf (xN 67) zpn zpf (by assumption)) hd hm1 mw736 mw737 mw2 mw738 rfl 10 rfl rfl 0 _ rfl yk_yX10_believes_2 rfl hf hlo hst h1 h2 ?_
  intro r w zq
  refine exE11 zq ?_
  clear zq
  intro tr2_n xsnapped2_n xmostSlip2_n xslip2_n xisDrawn2_n xseed2_n xtick2_n xmotorTick2_n xahead2_n nrg_n nrk_n hq0 zq
  subst zq
  refine k_perm _ pm_backX ?_
  exact kont r _ (XW_mk xN (uu xI0 0 tr2_n) xI1 xJ1 xG2 xI3 xF3 xI4 xF4 xI5 xF5 xK (uu (uu (uu (uu (uu (uu (uu (uu (uu xI10 0 xsnapped2_n) 1 xmostSlip2_n) 2 xslip2_n) 3 xisDrawn2_n) 4 xseed2_n) 5 xtick2_n) 6 xmotorTick2_n) 7 xahead2_n) 8 nrk_n) (uu xF10 0 nrg_n) xI11 xF11 xI12 xF12 xI13 xF13 xG13 xJ14 as pl h_xen h_xsta h_xpo h_xtpd h_kac h_knx h_kim hq0 hPL hkaf hkgf hlen (pk_backR (false :: true :: true :: true :: true :: true :: true :: true :: true :: true :: true :: true :: true :: true :: true :: true :: true :: true :: true :: true :: true :: true :: true :: true :: true :: true :: true :: true :: true :: true :: false :: true :: true :: true :: true :: true :: true :: true :: true :: true :: false :: false :: true :: true :: true :: true :: false :: false :: true :: true :: true :: true :: true :: true :: false :: false :: false :: false :: false :: false :: false :: false :: false :: true :: true :: true :: false :: false :: false :: []) [(cO10_rrrrrrrrri h0 (xN 0) (xN 1) (xN 2) (xN 3) (xN 4) (xN 5) (xN 6) (xN 7) (xN 8) tr2_n), ((xN 1), .inr (3, [.ref (xN 37), .ref (xN 38), .ref (xN 39), .ref (xN 40), .ref (xN 41), .ref (xN 42), .ref (xN 43), .ref (xN 44)])), ((xN 38), .inr (8, [.int 1, .int 6, .ref (xN 53), .int (xI5 6)])), ((xN 53), .inl (g.2.2.1, 6, .inl yhnf)), ((xN 41), .inr (8, [.int 4, .int 3, .ref (xN 56), .int yhmn])), ((xN 56), .inl (g.2.2.1, 12, .inl yhmf)), ((xN 2), .inr (7, [.ref (xN 60), .ref (xN 61), .ref (xN 62), .ref (xN 63), .int zmd, .int ztr])), ((xN 60), .inr (8, [.int 8, .int 3, .ref (xN 64), .int zrn])), ((xN 64), .inl (g.2.2.1, 24, .inl zrf)), ((xN 61), .inr (8, [.int 12, .int 3, .ref (xN 65), .int zmn])), ((xN 65), .inl (g.2.2.1, 36, .inl zmf)), ((xN 62), .inr (8, [.int 6, .int 3, .ref (xN 66), .int zwn])), ((xN 66), .inl (g.2.2.1, 18, .inl zwf)), ((xN 63), .inr (8, [.int 8, .int 2, .ref (xN 67), .int zpn])), ((xN 67), .inl (g.2.2.1, 16, .inl zpf)), ((xN 4), .inr (5, [.ref (xN 70), .int xsnapped2_n, .int xmostSlip2_n, .int xslip2_n, .int xisDrawn2_n, .int xseed2_n, .int xtick2_n, .int xmotorTick2_n, .int xahead2_n])), ((xN 70), .inr (8, [.int 8, .int 10, .ref (xN 71), .int nrk_n])), ((xN 71), .inl (g.2.2.1, 80, .inl nrg_n))] rfl rfl (pm_iy 18 [0, 15, 16, 17, 1, 2, 3, 4, 5, 6, 7, 8, 9, 10, 11, 12, 13, 14] rfl (by decide) rfl)))

set_option maxHeartbeats 4000000 in
set_option maxRecDepth 100000 in
theorem lm_believes {p : Program} {l : Launch} {e : Env} {R : Room} {s : State} {m : MethodId} {args : Array Value} {below : List Frame} {meth : Method} {c : Code} {Q : State → Prop} {A : Nat → Prop} {g : Gx} {cc : ByteArray} {nL n1 n2 pc : Nat} {own : String} {lv : List (Nat × Value)} {st : List Value} {m_taped : Int32} {d_tape : Nat → Int32} {d_r : Nat → Int32} {d_st : Nat → Int32} {d_undone : Nat → Int32} {d_kept : Nat → Int32} {m_undos : Int32} {m_images : Int32} {m_hasHouse : Int32} {mo i : Nat} {wX wM wO : va_W} (a1 a2 : Int32) (X : Cx p s m meth c args cc nL own A g) (hx : MW g mo m_taped d_tape d_r d_st d_undone d_kept m_undos m_images m_hasHouse wM) (hd : decode cc pc = .ok (.invokevirtual i, 3)) (hm1 : Cond.methodLink own i yX11_believes ∈ wsL_law0) (hf : 6 + 1 ≤ R.frames) (hlo : 8 + (3 + 11) + 132 ≤ R.locals) (hst : (st.map fun v => v.category).sum ≤ 8) (h1 : n1 ≤ R.cells) (h2 : n2 ≤ R.slots)
    (kont : ∀ (r : Int32)  (w2 : va_W), MW g mo m_taped d_tape d_r d_st d_undone d_kept m_undos m_images m_hasHouse w2 → Wk p l e R s m args below meth c Q A g nL n1 n2 (wX ++ (w2 ++ wO)) lv (pc + 3) (.int r :: st)) : Wk p l e R s m args below meth c Q A g nL n1 n2 (wX ++ (wM ++ wO)) lv pc ([.int a2, .int a1] ++ .ref mo :: st) := by
  refine MW_el hx (fun mI mN mFletters mFfresh mFfrom mFbegin mFmotor mFchange mFstartFrame mFchangeFrame mFlostAt mFblackAt mFslips mFleftArc mFdied mFarcs mFthere mFbackAt mFsorted mFparts h_m_size h_m_end h_m_nameSize h_m_failed h_m_hasHouse h_m_undos h_m_images h_m_taped hRr hRf hTr hpm => ?_)
  refine k_callVIP (n := 2) (As := [.int a1, .int a2]) (st := st) X [(cO11_i1r1i10r1i2r5i2r12i3r4i2 mo (mI 0) (mN 0) m_taped (mI 1) (mI 2) (mI 3) (mI 4) (mI 5) (mI 6) (mI 7) (mI 8) (mI 9) (mN 1) (mI 10) m_hasHouse (mN 2) (mN 3) (mN 4) (mN 5) (mN 6) m_undos m_images (mN 7) (mN 8) (mN 9) (mN 10) (mN 11) (mN 12) (mN 13) (mN 14) (mN 15) (mN 16) (mN 17) (mN 18) (mI 11) (mI 12) (mI 13) (mN 19) (mN 20) (mN 21) (mN 22) (mI 14) (mI 15)), ((mN 2), .inl (g.2.2.1, 311, .inl d_r)), ((mN 4), .inl (g.2.2.1, 44, .inl d_st)), ((mN 7), .inl (g.2.2.1, 8, .inl (mFfrom 0))), ((mN 8), .inl (g.2.2.1, 8, .inl (mFbegin 0))), ((mN 9), .inl (g.2.2.1, 8, .inl (mFmotor 0))), ((mN 10), .inl (g.2.2.1, 8, .inl (mFchange 0))), ((mN 11), .inl (g.2.2.1, 8, .inl (mFstartFrame 0))), ((mN 12), .inl (g.2.2.1, 8, .inl (mFchangeFrame 0))), ((mN 13), .inl (g.2.2.1, 8, .inl (mFlostAt 0))), ((mN 14), .inl (g.2.2.1, 8, .inl (mFblackAt 0))), ((mN 15), .inl (g.2.2.1, 8, .inl (mFslips 0)))] (pkT [false, true, true, false, true, false, true, true, false, false, false, false, false, false, false, false, false] (MC g mo m_taped d_tape d_r d_st d_undone d_kept m_undos m_images m_hasHouse mI mN mFletters mFfresh mFfrom mFbegin mFmotor mFchange mFstartFrame mFchangeFrame mFlostAt mFblackAt mFslips mFleftArc mFdied mFarcs mFthere mFbackAt mFsorted mFparts) ++ (wX ++ wO)) (pm_M hpm (pk_pick [false, true, true, false, true, false, true, true, false, false, false, false, false, false, false, false, false] [(cO11_i1r1i10r1i2r5i2r12i3r4i2 mo (mI 0) (mN 0) m_taped (mI 1) (mI 2) (mI 3) (mI 4) (mI 5) (mI 6) (mI 7) (mI 8) (mI 9) (mN 1) (mI 10) m_hasHouse (mN 2) (mN 3) (mN 4) (mN 5) (mN 6) m_undos m_images (mN 7) (mN 8) (mN 9) (mN 10) (mN 11) (mN 12) (mN 13) (mN 14) (mN 15) (mN 16) (mN 17) (mN 18) (mI 11) (mI 12) (mI 13) (mN 19) (mN 20) (mN 21) (mN 22) (mI 14) (mI 15)), ((mN 2), .inl (g.2.2.1, 311, .inl d_r)), ((mN 4), .inl (g.2.2.1, 44, .inl d_st)), ((mN 7), .inl (g.2.2.1, 8, .inl (mFfrom 0))), ((mN 8), .inl (g.2.2.1, 8, .inl (mFbegin 0))), ((mN 9), .inl (g.2.2.1, 8, .inl (mFmotor 0))), ((mN 10), .inl (g.2.2.1, 8, .inl (mFchange 0))), ((mN 11), .inl (g.2.2.1, 8, .inl (mFstartFrame 0))), ((mN 12), .inl (g.2.2.1, 8, .inl (mFchangeFrame 0))), ((mN 13), .inl (g.2.2.1, 8, .inl (mFlostAt 0))), ((mN 14), .inl (g.2.2.1, 8, .inl (mFblackAt 0))), ((mN 15), .inl (g.2.2.1, 8, .inl (mFslips 0)))] rfl (List.Perm.refl _))) (m_believes l g mo a1 a2 (mI 0) (mN 0) m_taped (mI 1) (mI 2) (mI 3) (mI 4) (mI 5) (mI 6) (mI 7) (mI 8) (mI 9) (mN 1) (mI 10) m_hasHouse (mN 2) (mN 3) (mN 4) (mN 5) (mN 6) m_undos m_images (mN 7) (mN 8) (mN 9) (mN 10) (mN 11) (mN 12) (mN 13) (mN 14) (mN 15) (mN 16) (mN 17) (mN 18) (mI 11) (mI 12) (mI 13) (mN 19) (mN 20) (mN 21) (mN 22) (mI 14) (mI 15) d_r d_st (mFfrom 0) (mFbegin 0) (mFmotor 0) (mFchange 0) (mFstartFrame 0) (mFchangeFrame 0) (mFlostAt 0) (mFblackAt 0) (mFslips 0) (iv_w h_m_hasHouse (zle_e rfl) (zle_e rfl)) hRr) hd hm1 mw804 mw805 mw5 mw806 rfl 11 rfl rfl 0 _ rfl yk_yX11_believes_2 rfl hf hlo hst h1 h2 ?_
  intro r w zq
  refine exL11 zq ?_
  clear zq
  intro d_begin2_n d_blackAt2_n d_change2_n d_changeFrame2_n d_from2_n d_lostAt2_n d_motor2_n d_slips2_n d_startFrame2_n m_thrown2_n m_trouble2_n zq
  subst zq
  refine k_perm _ pm_backM ?_
  exact kont r _ (MW_mk (uu (uu mI 0 m_thrown2_n) 9 m_trouble2_n) mN mFletters mFfresh (uu mFfrom 0 d_from2_n) (uu mFbegin 0 d_begin2_n) (uu mFmotor 0 d_motor2_n) (uu mFchange 0 d_change2_n) (uu mFstartFrame 0 d_startFrame2_n) (uu mFchangeFrame 0 d_changeFrame2_n) (uu mFlostAt 0 d_lostAt2_n) (uu mFblackAt 0 d_blackAt2_n) (uu mFslips 0 d_slips2_n) mFleftArc mFdied mFarcs mFthere mFbackAt mFsorted mFparts h_m_size h_m_end h_m_nameSize h_m_failed h_m_hasHouse h_m_undos h_m_images h_m_taped hRr hRf hTr (pk_back [false, true, true, false, true, false, true, true, false, false, false, false, false, false, false, false, false] [(cO11_i1r1i10r1i2r5i2r12i3r4i2 mo m_thrown2_n (mN 0) m_taped (mI 1) (mI 2) (mI 3) (mI 4) (mI 5) (mI 6) (mI 7) (mI 8) m_trouble2_n (mN 1) (mI 10) m_hasHouse (mN 2) (mN 3) (mN 4) (mN 5) (mN 6) m_undos m_images (mN 7) (mN 8) (mN 9) (mN 10) (mN 11) (mN 12) (mN 13) (mN 14) (mN 15) (mN 16) (mN 17) (mN 18) (mI 11) (mI 12) (mI 13) (mN 19) (mN 20) (mN 21) (mN 22) (mI 14) (mI 15)), ((mN 2), .inl (g.2.2.1, 311, .inl d_r)), ((mN 4), .inl (g.2.2.1, 44, .inl d_st)), ((mN 7), .inl (g.2.2.1, 8, .inl d_from2_n)), ((mN 8), .inl (g.2.2.1, 8, .inl d_begin2_n)), ((mN 9), .inl (g.2.2.1, 8, .inl d_motor2_n)), ((mN 10), .inl (g.2.2.1, 8, .inl d_change2_n)), ((mN 11), .inl (g.2.2.1, 8, .inl d_startFrame2_n)), ((mN 12), .inl (g.2.2.1, 8, .inl d_changeFrame2_n)), ((mN 13), .inl (g.2.2.1, 8, .inl d_lostAt2_n)), ((mN 14), .inl (g.2.2.1, 8, .inl d_blackAt2_n)), ((mN 15), .inl (g.2.2.1, 8, .inl d_slips2_n))] rfl rfl (List.Perm.refl _)))

set_option maxHeartbeats 4000000 in
set_option maxRecDepth 100000 in
theorem lx_starts {p : Program} {l : Launch} {e : Env} {R : Room} {s : State} {m : MethodId} {args : Array Value} {below : List Frame} {meth : Method} {c : Code} {Q : State → Prop} {A : Nat → Prop} {g : Gx} {cc : ByteArray} {nL n1 n2 pc : Nat} {own : String} {lv : List (Nat × Value)} {st : List Value} {xtpd : Int32} {tpf : Nat → Int32} {yhnf : Nat → Int32} {yhtn : Int32} {yhtf : Nat → Int32} {yhjn : Int32} {yhjf : Nat → Int32} {yhmn : Int32} {yhmf : Nat → Int32} {yhbn : Int32} {yhbf : Nat → Int32} {yhsn : Int32} {yhsf : Nat → Int32} {yhcn : Int32} {yhcf : Nat → Int32} {zrn : Int32} {zmn : Int32} {zwn : Int32} {zpn : Int32} {zmd : Int32} {ztr : Int32} {zrf : Nat → Int32} {zmf : Nat → Int32} {zwf : Nat → Int32} {zpf : Nat → Int32} {kac : Int32} {knx : Int32} {kim : Int32} {cf : Nat → SC} {h0 i : Nat} {wX wY : va_W} (a1 a2 : Int32) (X : Cx p s m meth c args cc nL own A g) (hx : XW g h0 xtpd tpf yhnf yhtn yhtf yhjn yhjf yhmn yhmf yhbn yhbf yhsn yhsf yhcn yhcf zrn zmn zwn zpn zmd ztr zrf zmf zwf zpf kac knx kim cf wX) (hd : decode cc pc = .ok (.invokevirtual i, 3)) (hm1 : Cond.methodLink own i yX10_starts ∈ wsL_law0) (hf : 6 + 1 ≤ R.frames) (hlo : 8 + (3 + 11) + 141 ≤ R.locals) (hst : (st.map fun v => v.category).sum ≤ 8) (h1 : n1 ≤ R.cells) (h2 : n2 ≤ R.slots)
    (kont : ∀ (r : Int32)  (w2 : va_W), XW g h0 xtpd tpf yhnf yhtn yhtf yhjn yhjf yhmn yhmf yhbn yhbf yhsn yhsf yhcn yhcf zrn zmn zwn zpn zmd ztr zrf zmf zwf zpf kac knx kim cf w2 → Wk p l e R s m args below meth c Q A g nL n1 n2 (w2 ++ wY) lv (pc + 3) (.int r :: st)) : Wk p l e R s m args below meth c Q A g nL n1 n2 (wX ++ wY) lv pc ([.int a2, .int a1] ++ .ref h0 :: st) := by
  refine XW_el hx (fun xN xI0 xI1 xJ1 xG2 xI3 xF3 xI4 xF4 xI5 xF5 xK xI10 xF10 xI11 xF11 xI12 xF12 xI13 xF13 xG13 xJ14 as pl h_xen h_xsta h_xpo h_xtpd h_kac h_knx h_kim hms hPL hkaf hkgf hlen hpm => ?_)
  refine k_callVIP (n := 2) (As := [.int a1, .int a2]) (st := st) X [(cO10_rrrrrrrrri h0 (xN 0) (xN 1) (xN 2) (xN 3) (xN 4) (xN 5) (xN 6) (xN 7) (xN 8) (xI0 0)), ((xN 4), .inr (5, [.ref (xN 70), .int (xI10 0), .int (xI10 1), .int (xI10 2), .int (xI10 3), .int (xI10 4), .int (xI10 5), .int (xI10 6), .int (xI10 7)])), ((xN 70), .inr (8, [.int 8, .int 10, .ref (xN 71), .int (xI10 8)])), ((xN 71), .inl (g.2.2.1, 80, .inl (xF10 0))), ((xN 1), .inr (3, [.ref (xN 37), .ref (xN 38), .ref (xN 39), .ref (xN 40), .ref (xN 41), .ref (xN 42), .ref (xN 43), .ref (xN 44)])), ((xN 38), .inr (8, [.int 1, .int 6, .ref (xN 53), .int (xI5 6)])), ((xN 53), .inl (g.2.2.1, 6, .inl yhnf)), ((xN 41), .inr (8, [.int 4, .int 3, .ref (xN 56), .int yhmn])), ((xN 56), .inl (g.2.2.1, 12, .inl yhmf)), ((xN 2), .inr (7, [.ref (xN 60), .ref (xN 61), .ref (xN 62), .ref (xN 63), .int zmd, .int ztr])), ((xN 60), .inr (8, [.int 8, .int 3, .ref (xN 64), .int zrn])), ((xN 64), .inl (g.2.2.1, 24, .inl zrf)), ((xN 61), .inr (8, [.int 12, .int 3, .ref (xN 65), .int zmn])), ((xN 65), .inl (g.2.2.1, 36, .inl zmf)), ((xN 62), .inr (8, [.int 6, .int 3, .ref (xN 66), .int zwn])), ((xN 66), .inl (g.2.2.1, 18, .inl zwf)), ((xN 63), .inr (8, [.int 8, .int 2, .ref (xN 67), .int zpn])), ((xN 67), .inl (g.2.2.1, 16, .inl zpf))] (pkT (false :: true :: true :: true :: true :: true :: true :: true :: true :: true :: true :: true :: true :: true :: true :: true :: true :: true :: true :: true :: true :: true :: true :: true :: true :: true :: true :: true :: true :: true :: false :: true :: true :: true :: true :: true :: true :: true :: true :: true :: false :: false :: true :: true :: true :: true :: false :: false :: true :: true :: true :: true :: true :: true :: false :: false :: false :: false :: false :: false :: false :: false :: false :: true :: true :: true :: false :: false :: false :: []) (XC g h0 xtpd tpf yhnf yhtn yhtf yhjn yhjf yhmn yhmf yhbn yhbf yhsn yhsf yhcn yhcf zrn zmn zwn zpn zmd ztr zrf zmf zwf zpf kac knx kim xN xI0 xI1 xJ1 xG2 xI3 xF3 xI4 xF4 xI5 xF5 xK xI10 xF10 xI11 xF11 xI12 xF12 xI13 xF13 xG13 xJ14) ++ (pl ++ wY)) (pm_X hpm (pk_pick (false :: true :: true :: true :: true :: true :: true :: true :: true :: true :: true :: true :: true :: true :: true :: true :: true :: true :: true :: true :: true :: true :: true :: true :: true :: true :: true :: true :: true :: true :: false :: true :: true :: true :: true :: true :: true :: true :: true :: true :: false :: false :: true :: true :: true :: true :: false :: false :: true :: true :: true :: true :: true :: true :: false :: false :: false :: false :: false :: false :: false :: false :: false :: true :: true :: true :: false :: false :: false :: []) [(cO10_rrrrrrrrri h0 (xN 0) (xN 1) (xN 2) (xN 3) (xN 4) (xN 5) (xN 6) (xN 7) (xN 8) (xI0 0)), ((xN 1), .inr (3, [.ref (xN 37), .ref (xN 38), .ref (xN 39), .ref (xN 40), .ref (xN 41), .ref (xN 42), .ref (xN 43), .ref (xN 44)])), ((xN 38), .inr (8, [.int 1, .int 6, .ref (xN 53), .int (xI5 6)])), ((xN 53), .inl (g.2.2.1, 6, .inl yhnf)), ((xN 41), .inr (8, [.int 4, .int 3, .ref (xN 56), .int yhmn])), ((xN 56), .inl (g.2.2.1, 12, .inl yhmf)), ((xN 2), .inr (7, [.ref (xN 60), .ref (xN 61), .ref (xN 62), .ref (xN 63), .int zmd, .int ztr])), ((xN 60), .inr (8, [.int 8, .int 3, .ref (xN 64), .int zrn])), ((xN 64), .inl (g.2.2.1, 24, .inl zrf)), ((xN 61), .inr (8, [.int 12, .int 3, .ref (xN 65), .int zmn])), ((xN 65), .inl (g.2.2.1, 36, .inl zmf)), ((xN 62), .inr (8, [.int 6, .int 3, .ref (xN 66), .int zwn])), ((xN 66), .inl (g.2.2.1, 18, .inl zwf)), ((xN 63), .inr (8, [.int 8, .int 2, .ref (xN 67), .int zpn])), ((xN 67), .inl (g.2.2.1, 16, .inl zpf)), ((xN 4), .inr (5, [.ref (xN 70), .int (xI10 0), .int (xI10 1), .int (xI10 2), .int (xI10 3), .int (xI10 4), .int (xI10 5), .int (xI10 6), .int (xI10 7)])), ((xN 70), .inr (8, [.int 8, .int 10, .ref (xN 71), .int (xI10 8)])), ((xN 71), .inl (g.2.2.1, 80, .inl (xF10 0)))] rfl (pm_iy 18 [0, 15, 16, 17, 1, 2, 3, 4, 5, 6, 7, 8, 9, 10, 11, 12, 13, 14] rfl (by decide) rfl))) (c_starts l g h0 a1 a2 (.ref (xN 0)) (xN 1) (xN 2) (.ref (xN 3)) (xN 4) (.ref (xN 5)) (.ref (xN 6)) (.ref (xN 7)) (.ref (xN 8)) (xI0 0) (xN 70) (xI10 0) (xI10 1) (xI10 2) (xI10 3) (xI10 4) (xI10 5) (xI10 6) (xI10 7) (xN 71) (xI10 8) (xF10 0) (.ref (xN 37)) (xN 38) (.ref (xN 39)) (.ref (xN 40)) (xN 41) (.ref (xN 42)) (.ref (xN 43)) (.ref (xN 44)) (xN 53) (xI5 6) yhnf (xN 56) yhmn yhmf (xN 60) (xN 61) (xN 62) (xN 63) zmd ztr (xN 64) zrn zrf (xN 65) zmn zmf (xN 66) zwn zwf (xN 67) zpn zpf (by assumption)) hd hm1 mw846 mw847 mw2 mw848 rfl 10 rfl rfl 0 _ rfl yk_yX10_starts_2 rfl hf hlo hst h1 h2 ?_
  intro r w zq
  refine exE11 zq ?_
  clear zq
  intro tr2_n xsnapped2_n xmostSlip2_n xslip2_n xisDrawn2_n xseed2_n xtick2_n xmotorTick2_n xahead2_n nrg_n nrk_n hq0 zq
  subst zq
  refine k_perm _ pm_backX ?_
  exact kont r _ (XW_mk xN (uu xI0 0 tr2_n) xI1 xJ1 xG2 xI3 xF3 xI4 xF4 xI5 xF5 xK (uu (uu (uu (uu (uu (uu (uu (uu (uu xI10 0 xsnapped2_n) 1 xmostSlip2_n) 2 xslip2_n) 3 xisDrawn2_n) 4 xseed2_n) 5 xtick2_n) 6 xmotorTick2_n) 7 xahead2_n) 8 nrk_n) (uu xF10 0 nrg_n) xI11 xF11 xI12 xF12 xI13 xF13 xG13 xJ14 as pl h_xen h_xsta h_xpo h_xtpd h_kac h_knx h_kim hq0 hPL hkaf hkgf hlen (pk_backR (false :: true :: true :: true :: true :: true :: true :: true :: true :: true :: true :: true :: true :: true :: true :: true :: true :: true :: true :: true :: true :: true :: true :: true :: true :: true :: true :: true :: true :: true :: false :: true :: true :: true :: true :: true :: true :: true :: true :: true :: false :: false :: true :: true :: true :: true :: false :: false :: true :: true :: true :: true :: true :: true :: false :: false :: false :: false :: false :: false :: false :: false :: false :: true :: true :: true :: false :: false :: false :: []) [(cO10_rrrrrrrrri h0 (xN 0) (xN 1) (xN 2) (xN 3) (xN 4) (xN 5) (xN 6) (xN 7) (xN 8) tr2_n), ((xN 1), .inr (3, [.ref (xN 37), .ref (xN 38), .ref (xN 39), .ref (xN 40), .ref (xN 41), .ref (xN 42), .ref (xN 43), .ref (xN 44)])), ((xN 38), .inr (8, [.int 1, .int 6, .ref (xN 53), .int (xI5 6)])), ((xN 53), .inl (g.2.2.1, 6, .inl yhnf)), ((xN 41), .inr (8, [.int 4, .int 3, .ref (xN 56), .int yhmn])), ((xN 56), .inl (g.2.2.1, 12, .inl yhmf)), ((xN 2), .inr (7, [.ref (xN 60), .ref (xN 61), .ref (xN 62), .ref (xN 63), .int zmd, .int ztr])), ((xN 60), .inr (8, [.int 8, .int 3, .ref (xN 64), .int zrn])), ((xN 64), .inl (g.2.2.1, 24, .inl zrf)), ((xN 61), .inr (8, [.int 12, .int 3, .ref (xN 65), .int zmn])), ((xN 65), .inl (g.2.2.1, 36, .inl zmf)), ((xN 62), .inr (8, [.int 6, .int 3, .ref (xN 66), .int zwn])), ((xN 66), .inl (g.2.2.1, 18, .inl zwf)), ((xN 63), .inr (8, [.int 8, .int 2, .ref (xN 67), .int zpn])), ((xN 67), .inl (g.2.2.1, 16, .inl zpf)), ((xN 4), .inr (5, [.ref (xN 70), .int xsnapped2_n, .int xmostSlip2_n, .int xslip2_n, .int xisDrawn2_n, .int xseed2_n, .int xtick2_n, .int xmotorTick2_n, .int xahead2_n])), ((xN 70), .inr (8, [.int 8, .int 10, .ref (xN 71), .int nrk_n])), ((xN 71), .inl (g.2.2.1, 80, .inl nrg_n))] rfl rfl (pm_iy 18 [0, 15, 16, 17, 1, 2, 3, 4, 5, 6, 7, 8, 9, 10, 11, 12, 13, 14] rfl (by decide) rfl)))

set_option maxHeartbeats 4000000 in
set_option maxRecDepth 100000 in
theorem lm_starts {p : Program} {l : Launch} {e : Env} {R : Room} {s : State} {m : MethodId} {args : Array Value} {below : List Frame} {meth : Method} {c : Code} {Q : State → Prop} {A : Nat → Prop} {g : Gx} {cc : ByteArray} {nL n1 n2 pc : Nat} {own : String} {lv : List (Nat × Value)} {st : List Value} {m_taped : Int32} {d_tape : Nat → Int32} {d_r : Nat → Int32} {d_st : Nat → Int32} {d_undone : Nat → Int32} {d_kept : Nat → Int32} {m_undos : Int32} {m_images : Int32} {m_hasHouse : Int32} {mo i : Nat} {wX wM wO : va_W} (a1 a2 : Int32) (X : Cx p s m meth c args cc nL own A g) (hx : MW g mo m_taped d_tape d_r d_st d_undone d_kept m_undos m_images m_hasHouse wM) (hd : decode cc pc = .ok (.invokevirtual i, 3)) (hm1 : Cond.methodLink own i yX11_starts ∈ wsL_law0) (hf : 6 + 1 ≤ R.frames) (hlo : 8 + (3 + 11) + 132 ≤ R.locals) (hst : (st.map fun v => v.category).sum ≤ 8) (h1 : n1 ≤ R.cells) (h2 : n2 ≤ R.slots)
    (kont : ∀ (r : Int32)  (w2 : va_W), MW g mo m_taped d_tape d_r d_st d_undone d_kept m_undos m_images m_hasHouse w2 → Wk p l e R s m args below meth c Q A g nL n1 n2 (wX ++ (w2 ++ wO)) lv (pc + 3) (.int r :: st)) : Wk p l e R s m args below meth c Q A g nL n1 n2 (wX ++ (wM ++ wO)) lv pc ([.int a2, .int a1] ++ .ref mo :: st) := by
  refine MW_el hx (fun mI mN mFletters mFfresh mFfrom mFbegin mFmotor mFchange mFstartFrame mFchangeFrame mFlostAt mFblackAt mFslips mFleftArc mFdied mFarcs mFthere mFbackAt mFsorted mFparts h_m_size h_m_end h_m_nameSize h_m_failed h_m_hasHouse h_m_undos h_m_images h_m_taped hRr hRf hTr hpm => ?_)
  refine k_callVIP (n := 2) (As := [.int a1, .int a2]) (st := st) X [(cO11_i1r1i10r1i2r5i2r12i3r4i2 mo (mI 0) (mN 0) m_taped (mI 1) (mI 2) (mI 3) (mI 4) (mI 5) (mI 6) (mI 7) (mI 8) (mI 9) (mN 1) (mI 10) m_hasHouse (mN 2) (mN 3) (mN 4) (mN 5) (mN 6) m_undos m_images (mN 7) (mN 8) (mN 9) (mN 10) (mN 11) (mN 12) (mN 13) (mN 14) (mN 15) (mN 16) (mN 17) (mN 18) (mI 11) (mI 12) (mI 13) (mN 19) (mN 20) (mN 21) (mN 22) (mI 14) (mI 15)), ((mN 2), .inl (g.2.2.1, 311, .inl d_r)), ((mN 4), .inl (g.2.2.1, 44, .inl d_st)), ((mN 7), .inl (g.2.2.1, 8, .inl (mFfrom 0))), ((mN 8), .inl (g.2.2.1, 8, .inl (mFbegin 0))), ((mN 9), .inl (g.2.2.1, 8, .inl (mFmotor 0))), ((mN 10), .inl (g.2.2.1, 8, .inl (mFchange 0))), ((mN 11), .inl (g.2.2.1, 8, .inl (mFstartFrame 0))), ((mN 12), .inl (g.2.2.1, 8, .inl (mFchangeFrame 0))), ((mN 13), .inl (g.2.2.1, 8, .inl (mFlostAt 0))), ((mN 14), .inl (g.2.2.1, 8, .inl (mFblackAt 0))), ((mN 15), .inl (g.2.2.1, 8, .inl (mFslips 0)))] (pkT [false, true, true, false, true, false, true, true, false, false, false, false, false, false, false, false, false] (MC g mo m_taped d_tape d_r d_st d_undone d_kept m_undos m_images m_hasHouse mI mN mFletters mFfresh mFfrom mFbegin mFmotor mFchange mFstartFrame mFchangeFrame mFlostAt mFblackAt mFslips mFleftArc mFdied mFarcs mFthere mFbackAt mFsorted mFparts) ++ (wX ++ wO)) (pm_M hpm (pk_pick [false, true, true, false, true, false, true, true, false, false, false, false, false, false, false, false, false] [(cO11_i1r1i10r1i2r5i2r12i3r4i2 mo (mI 0) (mN 0) m_taped (mI 1) (mI 2) (mI 3) (mI 4) (mI 5) (mI 6) (mI 7) (mI 8) (mI 9) (mN 1) (mI 10) m_hasHouse (mN 2) (mN 3) (mN 4) (mN 5) (mN 6) m_undos m_images (mN 7) (mN 8) (mN 9) (mN 10) (mN 11) (mN 12) (mN 13) (mN 14) (mN 15) (mN 16) (mN 17) (mN 18) (mI 11) (mI 12) (mI 13) (mN 19) (mN 20) (mN 21) (mN 22) (mI 14) (mI 15)), ((mN 2), .inl (g.2.2.1, 311, .inl d_r)), ((mN 4), .inl (g.2.2.1, 44, .inl d_st)), ((mN 7), .inl (g.2.2.1, 8, .inl (mFfrom 0))), ((mN 8), .inl (g.2.2.1, 8, .inl (mFbegin 0))), ((mN 9), .inl (g.2.2.1, 8, .inl (mFmotor 0))), ((mN 10), .inl (g.2.2.1, 8, .inl (mFchange 0))), ((mN 11), .inl (g.2.2.1, 8, .inl (mFstartFrame 0))), ((mN 12), .inl (g.2.2.1, 8, .inl (mFchangeFrame 0))), ((mN 13), .inl (g.2.2.1, 8, .inl (mFlostAt 0))), ((mN 14), .inl (g.2.2.1, 8, .inl (mFblackAt 0))), ((mN 15), .inl (g.2.2.1, 8, .inl (mFslips 0)))] rfl (List.Perm.refl _))) (m_starts l g mo a1 a2 (mI 0) (mN 0) m_taped (mI 1) (mI 2) (mI 3) (mI 4) (mI 5) (mI 6) (mI 7) (mI 8) (mI 9) (mN 1) (mI 10) m_hasHouse (mN 2) (mN 3) (mN 4) (mN 5) (mN 6) m_undos m_images (mN 7) (mN 8) (mN 9) (mN 10) (mN 11) (mN 12) (mN 13) (mN 14) (mN 15) (mN 16) (mN 17) (mN 18) (mI 11) (mI 12) (mI 13) (mN 19) (mN 20) (mN 21) (mN 22) (mI 14) (mI 15) d_r d_st (mFfrom 0) (mFbegin 0) (mFmotor 0) (mFchange 0) (mFstartFrame 0) (mFchangeFrame 0) (mFlostAt 0) (mFblackAt 0) (mFslips 0) (iv_w h_m_hasHouse (zle_e rfl) (zle_e rfl)) hRr) hd hm1 mw850 mw851 mw5 mw852 rfl 11 rfl rfl 0 _ rfl yk_yX11_starts_2 rfl hf hlo hst h1 h2 ?_
  intro r w zq
  refine exL11 zq ?_
  clear zq
  intro d_begin2_n d_blackAt2_n d_change2_n d_changeFrame2_n d_from2_n d_lostAt2_n d_motor2_n d_slips2_n d_startFrame2_n m_thrown2_n m_trouble2_n zq
  subst zq
  refine k_perm _ pm_backM ?_
  exact kont r _ (MW_mk (uu (uu mI 0 m_thrown2_n) 9 m_trouble2_n) mN mFletters mFfresh (uu mFfrom 0 d_from2_n) (uu mFbegin 0 d_begin2_n) (uu mFmotor 0 d_motor2_n) (uu mFchange 0 d_change2_n) (uu mFstartFrame 0 d_startFrame2_n) (uu mFchangeFrame 0 d_changeFrame2_n) (uu mFlostAt 0 d_lostAt2_n) (uu mFblackAt 0 d_blackAt2_n) (uu mFslips 0 d_slips2_n) mFleftArc mFdied mFarcs mFthere mFbackAt mFsorted mFparts h_m_size h_m_end h_m_nameSize h_m_failed h_m_hasHouse h_m_undos h_m_images h_m_taped hRr hRf hTr (pk_back [false, true, true, false, true, false, true, true, false, false, false, false, false, false, false, false, false] [(cO11_i1r1i10r1i2r5i2r12i3r4i2 mo m_thrown2_n (mN 0) m_taped (mI 1) (mI 2) (mI 3) (mI 4) (mI 5) (mI 6) (mI 7) (mI 8) m_trouble2_n (mN 1) (mI 10) m_hasHouse (mN 2) (mN 3) (mN 4) (mN 5) (mN 6) m_undos m_images (mN 7) (mN 8) (mN 9) (mN 10) (mN 11) (mN 12) (mN 13) (mN 14) (mN 15) (mN 16) (mN 17) (mN 18) (mI 11) (mI 12) (mI 13) (mN 19) (mN 20) (mN 21) (mN 22) (mI 14) (mI 15)), ((mN 2), .inl (g.2.2.1, 311, .inl d_r)), ((mN 4), .inl (g.2.2.1, 44, .inl d_st)), ((mN 7), .inl (g.2.2.1, 8, .inl d_from2_n)), ((mN 8), .inl (g.2.2.1, 8, .inl d_begin2_n)), ((mN 9), .inl (g.2.2.1, 8, .inl d_motor2_n)), ((mN 10), .inl (g.2.2.1, 8, .inl d_change2_n)), ((mN 11), .inl (g.2.2.1, 8, .inl d_startFrame2_n)), ((mN 12), .inl (g.2.2.1, 8, .inl d_changeFrame2_n)), ((mN 13), .inl (g.2.2.1, 8, .inl d_lostAt2_n)), ((mN 14), .inl (g.2.2.1, 8, .inl d_blackAt2_n)), ((mN 15), .inl (g.2.2.1, 8, .inl d_slips2_n))] rfl rfl (List.Perm.refl _)))

set_option maxHeartbeats 4000000 in
set_option maxRecDepth 100000 in
theorem lx_changes {p : Program} {l : Launch} {e : Env} {R : Room} {s : State} {m : MethodId} {args : Array Value} {below : List Frame} {meth : Method} {c : Code} {Q : State → Prop} {A : Nat → Prop} {g : Gx} {cc : ByteArray} {nL n1 n2 pc : Nat} {own : String} {lv : List (Nat × Value)} {st : List Value} {xtpd : Int32} {tpf : Nat → Int32} {yhnf : Nat → Int32} {yhtn : Int32} {yhtf : Nat → Int32} {yhjn : Int32} {yhjf : Nat → Int32} {yhmn : Int32} {yhmf : Nat → Int32} {yhbn : Int32} {yhbf : Nat → Int32} {yhsn : Int32} {yhsf : Nat → Int32} {yhcn : Int32} {yhcf : Nat → Int32} {zrn : Int32} {zmn : Int32} {zwn : Int32} {zpn : Int32} {zmd : Int32} {ztr : Int32} {zrf : Nat → Int32} {zmf : Nat → Int32} {zwf : Nat → Int32} {zpf : Nat → Int32} {kac : Int32} {knx : Int32} {kim : Int32} {cf : Nat → SC} {h0 i : Nat} {wX wY : va_W} (a1 a2 : Int32) (X : Cx p s m meth c args cc nL own A g) (hx : XW g h0 xtpd tpf yhnf yhtn yhtf yhjn yhjf yhmn yhmf yhbn yhbf yhsn yhsf yhcn yhcf zrn zmn zwn zpn zmd ztr zrf zmf zwf zpf kac knx kim cf wX) (hd : decode cc pc = .ok (.invokevirtual i, 3)) (hm1 : Cond.methodLink own i yX10_changes ∈ wsL_law0) (hf : 6 + 1 ≤ R.frames) (hlo : 8 + (3 + 11) + 141 ≤ R.locals) (hst : (st.map fun v => v.category).sum ≤ 8) (h1 : n1 ≤ R.cells) (h2 : n2 ≤ R.slots)
    (kont : ∀ (r : Int32)  (w2 : va_W), XW g h0 xtpd tpf yhnf yhtn yhtf yhjn yhjf yhmn yhmf yhbn yhbf yhsn yhsf yhcn yhcf zrn zmn zwn zpn zmd ztr zrf zmf zwf zpf kac knx kim cf w2 → (∃ xsnapped : Int32, ∃ xmostSlip : Int32, ∃ xslip : Int32, ∃ xisDrawn : Int32, ∃ xseed : Int32, ∃ xtick : Int32, ∃ xmotorTick : Int32, ∃ xahead : Int32, ∃ nrn : Int32, ∃ nrf : Nat → Int32, ∃ tr2 : Int32, ∃ xsnapped2 : Int32, ∃ xmostSlip2 : Int32, ∃ xslip2 : Int32, ∃ xisDrawn2 : Int32, ∃ xseed2 : Int32, ∃ xtick2 : Int32, ∃ xmotorTick2 : Int32, ∃ xahead2 : Int32, ∃ nrg : Nat → Int32, ∃ nrk : Int32, R_c_changesX a1 a2 xsnapped xmostSlip xslip xisDrawn xseed xtick xmotorTick xahead nrn nrf yhnf yhmn yhmf zmd zrf zmn zmf zwn zwf zpn zpf tr2 xsnapped2 xmostSlip2 xslip2 xisDrawn2 xseed2 xtick2 xmotorTick2 xahead2 nrg nrk r) → Wk p l e R s m args below meth c Q A g nL n1 n2 (w2 ++ wY) lv (pc + 3) (.int r :: st)) : Wk p l e R s m args below meth c Q A g nL n1 n2 (wX ++ wY) lv pc ([.int a2, .int a1] ++ .ref h0 :: st) := by
  refine XW_el hx (fun xN xI0 xI1 xJ1 xG2 xI3 xF3 xI4 xF4 xI5 xF5 xK xI10 xF10 xI11 xF11 xI12 xF12 xI13 xF13 xG13 xJ14 as pl h_xen h_xsta h_xpo h_xtpd h_kac h_knx h_kim hms hPL hkaf hkgf hlen hpm => ?_)
  refine k_callVIP (n := 2) (As := [.int a1, .int a2]) (st := st) X [(cO10_rrrrrrrrri h0 (xN 0) (xN 1) (xN 2) (xN 3) (xN 4) (xN 5) (xN 6) (xN 7) (xN 8) (xI0 0)), ((xN 4), .inr (5, [.ref (xN 70), .int (xI10 0), .int (xI10 1), .int (xI10 2), .int (xI10 3), .int (xI10 4), .int (xI10 5), .int (xI10 6), .int (xI10 7)])), ((xN 70), .inr (8, [.int 8, .int 10, .ref (xN 71), .int (xI10 8)])), ((xN 71), .inl (g.2.2.1, 80, .inl (xF10 0))), ((xN 1), .inr (3, [.ref (xN 37), .ref (xN 38), .ref (xN 39), .ref (xN 40), .ref (xN 41), .ref (xN 42), .ref (xN 43), .ref (xN 44)])), ((xN 38), .inr (8, [.int 1, .int 6, .ref (xN 53), .int (xI5 6)])), ((xN 53), .inl (g.2.2.1, 6, .inl yhnf)), ((xN 41), .inr (8, [.int 4, .int 3, .ref (xN 56), .int yhmn])), ((xN 56), .inl (g.2.2.1, 12, .inl yhmf)), ((xN 2), .inr (7, [.ref (xN 60), .ref (xN 61), .ref (xN 62), .ref (xN 63), .int zmd, .int ztr])), ((xN 60), .inr (8, [.int 8, .int 3, .ref (xN 64), .int zrn])), ((xN 64), .inl (g.2.2.1, 24, .inl zrf)), ((xN 61), .inr (8, [.int 12, .int 3, .ref (xN 65), .int zmn])), ((xN 65), .inl (g.2.2.1, 36, .inl zmf)), ((xN 62), .inr (8, [.int 6, .int 3, .ref (xN 66), .int zwn])), ((xN 66), .inl (g.2.2.1, 18, .inl zwf)), ((xN 63), .inr (8, [.int 8, .int 2, .ref (xN 67), .int zpn])), ((xN 67), .inl (g.2.2.1, 16, .inl zpf))] (pkT (false :: true :: true :: true :: true :: true :: true :: true :: true :: true :: true :: true :: true :: true :: true :: true :: true :: true :: true :: true :: true :: true :: true :: true :: true :: true :: true :: true :: true :: true :: false :: true :: true :: true :: true :: true :: true :: true :: true :: true :: false :: false :: true :: true :: true :: true :: false :: false :: true :: true :: true :: true :: true :: true :: false :: false :: false :: false :: false :: false :: false :: false :: false :: true :: true :: true :: false :: false :: false :: []) (XC g h0 xtpd tpf yhnf yhtn yhtf yhjn yhjf yhmn yhmf yhbn yhbf yhsn yhsf yhcn yhcf zrn zmn zwn zpn zmd ztr zrf zmf zwf zpf kac knx kim xN xI0 xI1 xJ1 xG2 xI3 xF3 xI4 xF4 xI5 xF5 xK xI10 xF10 xI11 xF11 xI12 xF12 xI13 xF13 xG13 xJ14) ++ (pl ++ wY)) (pm_X hpm (pk_pick (false :: true :: true :: true :: true :: true :: true :: true :: true :: true :: true :: true :: true :: true :: true :: true :: true :: true :: true :: true :: true :: true :: true :: true :: true :: true :: true :: true :: true :: true :: false :: true :: true :: true :: true :: true :: true :: true :: true :: true :: false :: false :: true :: true :: true :: true :: false :: false :: true :: true :: true :: true :: true :: true :: false :: false :: false :: false :: false :: false :: false :: false :: false :: true :: true :: true :: false :: false :: false :: []) [(cO10_rrrrrrrrri h0 (xN 0) (xN 1) (xN 2) (xN 3) (xN 4) (xN 5) (xN 6) (xN 7) (xN 8) (xI0 0)), ((xN 1), .inr (3, [.ref (xN 37), .ref (xN 38), .ref (xN 39), .ref (xN 40), .ref (xN 41), .ref (xN 42), .ref (xN 43), .ref (xN 44)])), ((xN 38), .inr (8, [.int 1, .int 6, .ref (xN 53), .int (xI5 6)])), ((xN 53), .inl (g.2.2.1, 6, .inl yhnf)), ((xN 41), .inr (8, [.int 4, .int 3, .ref (xN 56), .int yhmn])), ((xN 56), .inl (g.2.2.1, 12, .inl yhmf)), ((xN 2), .inr (7, [.ref (xN 60), .ref (xN 61), .ref (xN 62), .ref (xN 63), .int zmd, .int ztr])), ((xN 60), .inr (8, [.int 8, .int 3, .ref (xN 64), .int zrn])), ((xN 64), .inl (g.2.2.1, 24, .inl zrf)), ((xN 61), .inr (8, [.int 12, .int 3, .ref (xN 65), .int zmn])), ((xN 65), .inl (g.2.2.1, 36, .inl zmf)), ((xN 62), .inr (8, [.int 6, .int 3, .ref (xN 66), .int zwn])), ((xN 66), .inl (g.2.2.1, 18, .inl zwf)), ((xN 63), .inr (8, [.int 8, .int 2, .ref (xN 67), .int zpn])), ((xN 67), .inl (g.2.2.1, 16, .inl zpf)), ((xN 4), .inr (5, [.ref (xN 70), .int (xI10 0), .int (xI10 1), .int (xI10 2), .int (xI10 3), .int (xI10 4), .int (xI10 5), .int (xI10 6), .int (xI10 7)])), ((xN 70), .inr (8, [.int 8, .int 10, .ref (xN 71), .int (xI10 8)])), ((xN 71), .inl (g.2.2.1, 80, .inl (xF10 0)))] rfl (pm_iy 18 [0, 15, 16, 17, 1, 2, 3, 4, 5, 6, 7, 8, 9, 10, 11, 12, 13, 14] rfl (by decide) rfl))) (c_changesX l g h0 a1 a2 (.ref (xN 0)) (xN 1) (xN 2) (.ref (xN 3)) (xN 4) (.ref (xN 5)) (.ref (xN 6)) (.ref (xN 7)) (.ref (xN 8)) (xI0 0) (xN 70) (xI10 0) (xI10 1) (xI10 2) (xI10 3) (xI10 4) (xI10 5) (xI10 6) (xI10 7) (xN 71) (xI10 8) (xF10 0) (.ref (xN 37)) (xN 38) (.ref (xN 39)) (.ref (xN 40)) (xN 41) (.ref (xN 42)) (.ref (xN 43)) (.ref (xN 44)) (xN 53) (xI5 6) yhnf (xN 56) yhmn yhmf (xN 60) (xN 61) (xN 62) (xN 63) zmd ztr (xN 64) zrn zrf (xN 65) zmn zmf (xN 66) zwn zwf (xN 67) zpn zpf (by assumption)) hd hm1 mw854 mw855 mw2 mw856 rfl 10 rfl rfl 0 _ rfl yk_yX10_changes_2 rfl hf hlo hst h1 h2 ?_
  intro r w zq
  refine exE11 zq ?_
  clear zq
  intro tr2_n xsnapped2_n xmostSlip2_n xslip2_n xisDrawn2_n xseed2_n xtick2_n xmotorTick2_n xahead2_n nrg_n nrk_n hq0 zq
  refine exA1 zq ?_
  clear zq
  intro hq1 zq
  subst zq
  refine k_perm _ pm_backX ?_
  exact kont r _ (XW_mk xN (uu xI0 0 tr2_n) xI1 xJ1 xG2 xI3 xF3 xI4 xF4 xI5 xF5 xK (uu (uu (uu (uu (uu (uu (uu (uu (uu xI10 0 xsnapped2_n) 1 xmostSlip2_n) 2 xslip2_n) 3 xisDrawn2_n) 4 xseed2_n) 5 xtick2_n) 6 xmotorTick2_n) 7 xahead2_n) 8 nrk_n) (uu xF10 0 nrg_n) xI11 xF11 xI12 xF12 xI13 xF13 xG13 xJ14 as pl h_xen h_xsta h_xpo h_xtpd h_kac h_knx h_kim hq0 hPL hkaf hkgf hlen (pk_backR (false :: true :: true :: true :: true :: true :: true :: true :: true :: true :: true :: true :: true :: true :: true :: true :: true :: true :: true :: true :: true :: true :: true :: true :: true :: true :: true :: true :: true :: true :: false :: true :: true :: true :: true :: true :: true :: true :: true :: true :: false :: false :: true :: true :: true :: true :: false :: false :: true :: true :: true :: true :: true :: true :: false :: false :: false :: false :: false :: false :: false :: false :: false :: true :: true :: true :: false :: false :: false :: []) [(cO10_rrrrrrrrri h0 (xN 0) (xN 1) (xN 2) (xN 3) (xN 4) (xN 5) (xN 6) (xN 7) (xN 8) tr2_n), ((xN 1), .inr (3, [.ref (xN 37), .ref (xN 38), .ref (xN 39), .ref (xN 40), .ref (xN 41), .ref (xN 42), .ref (xN 43), .ref (xN 44)])), ((xN 38), .inr (8, [.int 1, .int 6, .ref (xN 53), .int (xI5 6)])), ((xN 53), .inl (g.2.2.1, 6, .inl yhnf)), ((xN 41), .inr (8, [.int 4, .int 3, .ref (xN 56), .int yhmn])), ((xN 56), .inl (g.2.2.1, 12, .inl yhmf)), ((xN 2), .inr (7, [.ref (xN 60), .ref (xN 61), .ref (xN 62), .ref (xN 63), .int zmd, .int ztr])), ((xN 60), .inr (8, [.int 8, .int 3, .ref (xN 64), .int zrn])), ((xN 64), .inl (g.2.2.1, 24, .inl zrf)), ((xN 61), .inr (8, [.int 12, .int 3, .ref (xN 65), .int zmn])), ((xN 65), .inl (g.2.2.1, 36, .inl zmf)), ((xN 62), .inr (8, [.int 6, .int 3, .ref (xN 66), .int zwn])), ((xN 66), .inl (g.2.2.1, 18, .inl zwf)), ((xN 63), .inr (8, [.int 8, .int 2, .ref (xN 67), .int zpn])), ((xN 67), .inl (g.2.2.1, 16, .inl zpf)), ((xN 4), .inr (5, [.ref (xN 70), .int xsnapped2_n, .int xmostSlip2_n, .int xslip2_n, .int xisDrawn2_n, .int xseed2_n, .int xtick2_n, .int xmotorTick2_n, .int xahead2_n])), ((xN 70), .inr (8, [.int 8, .int 10, .ref (xN 71), .int nrk_n])), ((xN 71), .inl (g.2.2.1, 80, .inl nrg_n))] rfl rfl (pm_iy 18 [0, 15, 16, 17, 1, 2, 3, 4, 5, 6, 7, 8, 9, 10, 11, 12, 13, 14] rfl (by decide) rfl))) ⟨_, _, _, _, _, _, _, _, _, _, _, _, _, _, _, _, _, _, _, _, _, hq1⟩

set_option maxHeartbeats 4000000 in
set_option maxRecDepth 100000 in
theorem lm_changes {p : Program} {l : Launch} {e : Env} {R : Room} {s : State} {m : MethodId} {args : Array Value} {below : List Frame} {meth : Method} {c : Code} {Q : State → Prop} {A : Nat → Prop} {g : Gx} {cc : ByteArray} {nL n1 n2 pc : Nat} {own : String} {lv : List (Nat × Value)} {st : List Value} {m_taped : Int32} {d_tape : Nat → Int32} {d_r : Nat → Int32} {d_st : Nat → Int32} {d_undone : Nat → Int32} {d_kept : Nat → Int32} {m_undos : Int32} {m_images : Int32} {m_hasHouse : Int32} {mo i : Nat} {wX wM wO : va_W} (a1 a2 : Int32) (X : Cx p s m meth c args cc nL own A g) (hx : MW g mo m_taped d_tape d_r d_st d_undone d_kept m_undos m_images m_hasHouse wM) (hd : decode cc pc = .ok (.invokevirtual i, 3)) (hm1 : Cond.methodLink own i yX11_changes ∈ wsL_law0) (hf : 6 + 1 ≤ R.frames) (hlo : 8 + (3 + 11) + 132 ≤ R.locals) (hst : (st.map fun v => v.category).sum ≤ 8) (h1 : n1 ≤ R.cells) (h2 : n2 ≤ R.slots)
    (kont : ∀ (r : Int32)  (w2 : va_W), MW g mo m_taped d_tape d_r d_st d_undone d_kept m_undos m_images m_hasHouse w2 → (∃ d_from : Nat → Int32, ∃ d_begin : Nat → Int32, ∃ d_motor : Nat → Int32, ∃ d_change : Nat → Int32, ∃ d_startFrame : Nat → Int32, ∃ d_changeFrame : Nat → Int32, ∃ d_lostAt : Nat → Int32, ∃ d_blackAt : Nat → Int32, ∃ d_slips : Nat → Int32, ∃ d_begin2 : Nat → Int32, ∃ d_blackAt2 : Nat → Int32, ∃ d_change2 : Nat → Int32, ∃ d_changeFrame2 : Nat → Int32, ∃ d_from2 : Nat → Int32, ∃ d_lostAt2 : Nat → Int32, ∃ d_motor2 : Nat → Int32, ∃ d_slips2 : Nat → Int32, ∃ d_startFrame2 : Nat → Int32, ∃ m_thrown2 : Int32, ∃ m_trouble2 : Int32, R_m_changesX a1 a2 m_hasHouse d_r d_st d_from d_begin d_motor d_change d_startFrame d_changeFrame d_lostAt d_blackAt d_slips d_begin2 d_blackAt2 d_change2 d_changeFrame2 d_from2 d_lostAt2 d_motor2 d_slips2 d_startFrame2 m_thrown2 m_trouble2 r) → Wk p l e R s m args below meth c Q A g nL n1 n2 (wX ++ (w2 ++ wO)) lv (pc + 3) (.int r :: st)) : Wk p l e R s m args below meth c Q A g nL n1 n2 (wX ++ (wM ++ wO)) lv pc ([.int a2, .int a1] ++ .ref mo :: st) := by
  refine MW_el hx (fun mI mN mFletters mFfresh mFfrom mFbegin mFmotor mFchange mFstartFrame mFchangeFrame mFlostAt mFblackAt mFslips mFleftArc mFdied mFarcs mFthere mFbackAt mFsorted mFparts h_m_size h_m_end h_m_nameSize h_m_failed h_m_hasHouse h_m_undos h_m_images h_m_taped hRr hRf hTr hpm => ?_)
  refine k_callVIP (n := 2) (As := [.int a1, .int a2]) (st := st) X [(cO11_i1r1i10r1i2r5i2r12i3r4i2 mo (mI 0) (mN 0) m_taped (mI 1) (mI 2) (mI 3) (mI 4) (mI 5) (mI 6) (mI 7) (mI 8) (mI 9) (mN 1) (mI 10) m_hasHouse (mN 2) (mN 3) (mN 4) (mN 5) (mN 6) m_undos m_images (mN 7) (mN 8) (mN 9) (mN 10) (mN 11) (mN 12) (mN 13) (mN 14) (mN 15) (mN 16) (mN 17) (mN 18) (mI 11) (mI 12) (mI 13) (mN 19) (mN 20) (mN 21) (mN 22) (mI 14) (mI 15)), ((mN 2), .inl (g.2.2.1, 311, .inl d_r)), ((mN 4), .inl (g.2.2.1, 44, .inl d_st)), ((mN 7), .inl (g.2.2.1, 8, .inl (mFfrom 0))), ((mN 8), .inl (g.2.2.1, 8, .inl (mFbegin 0))), ((mN 9), .inl (g.2.2.1, 8, .inl (mFmotor 0))), ((mN 10), .inl (g.2.2.1, 8, .inl (mFchange 0))), ((mN 11), .inl (g.2.2.1, 8, .inl (mFstartFrame 0))), ((mN 12), .inl (g.2.2.1, 8, .inl (mFchangeFrame 0))), ((mN 13), .inl (g.2.2.1, 8, .inl (mFlostAt 0))), ((mN 14), .inl (g.2.2.1, 8, .inl (mFblackAt 0))), ((mN 15), .inl (g.2.2.1, 8, .inl (mFslips 0)))] (pkT [false, true, true, false, true, false, true, true, false, false, false, false, false, false, false, false, false] (MC g mo m_taped d_tape d_r d_st d_undone d_kept m_undos m_images m_hasHouse mI mN mFletters mFfresh mFfrom mFbegin mFmotor mFchange mFstartFrame mFchangeFrame mFlostAt mFblackAt mFslips mFleftArc mFdied mFarcs mFthere mFbackAt mFsorted mFparts) ++ (wX ++ wO)) (pm_M hpm (pk_pick [false, true, true, false, true, false, true, true, false, false, false, false, false, false, false, false, false] [(cO11_i1r1i10r1i2r5i2r12i3r4i2 mo (mI 0) (mN 0) m_taped (mI 1) (mI 2) (mI 3) (mI 4) (mI 5) (mI 6) (mI 7) (mI 8) (mI 9) (mN 1) (mI 10) m_hasHouse (mN 2) (mN 3) (mN 4) (mN 5) (mN 6) m_undos m_images (mN 7) (mN 8) (mN 9) (mN 10) (mN 11) (mN 12) (mN 13) (mN 14) (mN 15) (mN 16) (mN 17) (mN 18) (mI 11) (mI 12) (mI 13) (mN 19) (mN 20) (mN 21) (mN 22) (mI 14) (mI 15)), ((mN 2), .inl (g.2.2.1, 311, .inl d_r)), ((mN 4), .inl (g.2.2.1, 44, .inl d_st)), ((mN 7), .inl (g.2.2.1, 8, .inl (mFfrom 0))), ((mN 8), .inl (g.2.2.1, 8, .inl (mFbegin 0))), ((mN 9), .inl (g.2.2.1, 8, .inl (mFmotor 0))), ((mN 10), .inl (g.2.2.1, 8, .inl (mFchange 0))), ((mN 11), .inl (g.2.2.1, 8, .inl (mFstartFrame 0))), ((mN 12), .inl (g.2.2.1, 8, .inl (mFchangeFrame 0))), ((mN 13), .inl (g.2.2.1, 8, .inl (mFlostAt 0))), ((mN 14), .inl (g.2.2.1, 8, .inl (mFblackAt 0))), ((mN 15), .inl (g.2.2.1, 8, .inl (mFslips 0)))] rfl (List.Perm.refl _))) (m_changesX l g mo a1 a2 (mI 0) (mN 0) m_taped (mI 1) (mI 2) (mI 3) (mI 4) (mI 5) (mI 6) (mI 7) (mI 8) (mI 9) (mN 1) (mI 10) m_hasHouse (mN 2) (mN 3) (mN 4) (mN 5) (mN 6) m_undos m_images (mN 7) (mN 8) (mN 9) (mN 10) (mN 11) (mN 12) (mN 13) (mN 14) (mN 15) (mN 16) (mN 17) (mN 18) (mI 11) (mI 12) (mI 13) (mN 19) (mN 20) (mN 21) (mN 22) (mI 14) (mI 15) d_r d_st (mFfrom 0) (mFbegin 0) (mFmotor 0) (mFchange 0) (mFstartFrame 0) (mFchangeFrame 0) (mFlostAt 0) (mFblackAt 0) (mFslips 0) (iv_w h_m_hasHouse (zle_e rfl) (zle_e rfl)) hRr) hd hm1 mw858 mw859 mw5 mw860 rfl 11 rfl rfl 0 _ rfl yk_yX11_changes_2 rfl hf hlo hst h1 h2 ?_
  intro r w zq
  refine exE11 zq ?_
  clear zq
  intro d_begin2_n d_blackAt2_n d_change2_n d_changeFrame2_n d_from2_n d_lostAt2_n d_motor2_n d_slips2_n d_startFrame2_n m_thrown2_n m_trouble2_n hq0 zq
  subst zq
  refine k_perm _ pm_backM ?_
  exact kont r _ (MW_mk (uu (uu mI 0 m_thrown2_n) 9 m_trouble2_n) mN mFletters mFfresh (uu mFfrom 0 d_from2_n) (uu mFbegin 0 d_begin2_n) (uu mFmotor 0 d_motor2_n) (uu mFchange 0 d_change2_n) (uu mFstartFrame 0 d_startFrame2_n) (uu mFchangeFrame 0 d_changeFrame2_n) (uu mFlostAt 0 d_lostAt2_n) (uu mFblackAt 0 d_blackAt2_n) (uu mFslips 0 d_slips2_n) mFleftArc mFdied mFarcs mFthere mFbackAt mFsorted mFparts h_m_size h_m_end h_m_nameSize h_m_failed h_m_hasHouse h_m_undos h_m_images h_m_taped hRr hRf hTr (pk_back [false, true, true, false, true, false, true, true, false, false, false, false, false, false, false, false, false] [(cO11_i1r1i10r1i2r5i2r12i3r4i2 mo m_thrown2_n (mN 0) m_taped (mI 1) (mI 2) (mI 3) (mI 4) (mI 5) (mI 6) (mI 7) (mI 8) m_trouble2_n (mN 1) (mI 10) m_hasHouse (mN 2) (mN 3) (mN 4) (mN 5) (mN 6) m_undos m_images (mN 7) (mN 8) (mN 9) (mN 10) (mN 11) (mN 12) (mN 13) (mN 14) (mN 15) (mN 16) (mN 17) (mN 18) (mI 11) (mI 12) (mI 13) (mN 19) (mN 20) (mN 21) (mN 22) (mI 14) (mI 15)), ((mN 2), .inl (g.2.2.1, 311, .inl d_r)), ((mN 4), .inl (g.2.2.1, 44, .inl d_st)), ((mN 7), .inl (g.2.2.1, 8, .inl d_from2_n)), ((mN 8), .inl (g.2.2.1, 8, .inl d_begin2_n)), ((mN 9), .inl (g.2.2.1, 8, .inl d_motor2_n)), ((mN 10), .inl (g.2.2.1, 8, .inl d_change2_n)), ((mN 11), .inl (g.2.2.1, 8, .inl d_startFrame2_n)), ((mN 12), .inl (g.2.2.1, 8, .inl d_changeFrame2_n)), ((mN 13), .inl (g.2.2.1, 8, .inl d_lostAt2_n)), ((mN 14), .inl (g.2.2.1, 8, .inl d_blackAt2_n)), ((mN 15), .inl (g.2.2.1, 8, .inl d_slips2_n))] rfl rfl (List.Perm.refl _))) ⟨_, _, _, _, _, _, _, _, _, _, _, _, _, _, _, _, _, _, _, _, hq0⟩
