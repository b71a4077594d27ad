
set_option maxHeartbeats 4000000 in
set_option maxRecDepth 100000 in
theorem m_isNotX (l : Launch) (g : Gx) (h0 : Nat) (p0 : Int32) (m_thrown : Int32) (a_tape : Nat) (m_taped : Int32) (m_size : Int32) (m_at : Int32) (m_end : Int32) (m_token : Int32) (m_whole : Int32) (m_nameSize : Int32) (m_fault : Int32) (m_place : Int32) (m_trouble : Int32) (a_letters : Nat) (m_failed : Int32) (m_hasHouse : Int32) (a_r : Nat) (a_fresh : Nat) (a_st : Nat) (a_undone : Nat) (a_kept : Nat) (m_undos : Int32) (m_images : Int32) (a_from : Nat) (a_begin : Nat) (a_motor : Nat) (a_change : Nat) (a_startFrame : Nat) (a_changeFrame : Nat) (a_lostAt : Nat) (a_blackAt : Nat) (a_slips : Nat) (a_leftArc : Nat) (a_died : Nat) (a_arcs : Nat) (m_bestSum : Int32) (m_nearest : Int32) (m_nearestTown : Int32) (a_there : Nat) (a_backAt : Nat) (a_sorted : Nat) (a_parts : Nat) (m_seed1 : Int32) (m_darkNow : Int32) : cI l g yX11_isNot cX11_isNot 2 (some .boolean) 0 0 0 0 [.ref h0, .int p0] [(cO11_i1r1i10r1i2r5i2r12i3r4i2 h0 m_thrown a_tape m_taped m_size m_at m_end m_token m_whole m_nameSize m_fault m_place m_trouble a_letters m_failed m_hasHouse a_r a_fresh a_st a_undone a_kept m_undos m_images a_from a_begin a_motor a_change a_startFrame a_changeFrame a_lostAt a_blackAt a_slips a_leftArc a_died a_arcs m_bestSum m_nearest m_nearestTown a_there a_backAt a_sorted a_parts m_seed1 m_darkNow)] (fun r w => ∃ (m_trouble2 : Int32), IV r 0 0 ∧ (R_m_isNotX p0 m_trouble2 r) ∧ w = [(cO11_i1r1i10r1i2r5i2r12i3r4i2 h0 m_thrown a_tape m_taped m_size m_at m_end m_token m_whole m_nameSize m_fault m_place m_trouble2 a_letters m_failed m_hasHouse a_r a_fresh a_st a_undone a_kept m_undos m_images a_from a_begin a_motor a_change a_startFrame a_changeFrame a_lostAt a_blackAt a_slips a_leftArc a_died a_arcs m_bestSum m_nearest m_nearestTown a_there a_backAt a_sorted a_parts m_seed1 m_darkNow)]) := by
  refine cI.of (by decide) (Nat.le_of_ble_eq_true rfl) ?_
  intro p e s m args below meth c A X hr hi
  refine k_lveq [(0, .ref h0), (1, .int p0)] rfl ?_
  refine k_aload_n X dX11_isNot_0 0 rfl ?_
  refine k_iload_n X dX11_isNot_1 1 rfl ?_
  refine k_put (ci := 11) [(cO11_i1r1i10r1i2r5i2r12i3r4i2 h0 m_thrown a_tape m_taped m_size m_at m_end m_token m_whole m_nameSize m_fault m_place p0 a_letters m_failed m_hasHouse a_r a_fresh a_st a_undone a_kept m_undos m_images a_from a_begin a_motor a_change a_startFrame a_changeFrame a_lostAt a_blackAt a_slips a_leftArc a_died a_arcs m_bestSum m_nearest m_nearestTown a_there a_backAt a_sorted a_parts m_seed1 m_darkNow)] X inlX11 rfl tyX11_ok nmX11 11 (by decide) rfl dX11_isNot_2 mw481 0 rfl rfl rfl (Nat.le_of_ble_eq_true rfl) rfl ?_
  refine k_iconst (v := 0) X dX11_isNot_5 (by decide) ?_
  exact k_zret X hr (by first | rfl | decide) dX11_isNot_6 (Nat.le_of_ble_eq_true rfl) (Nat.le_of_ble_eq_true rfl) [0] (by decide) rfl rfl ⟨p0, (iv_w (show IV 0 0 0 from (by decide)) (by decide) (by decide)), ⟨rfl, rfl⟩, rfl⟩


set_option maxHeartbeats 4000000 in
set_option maxRecDepth 100000 in
theorem m_hasBitX (l : Launch) (g : Gx) (p0 : Int32) (p1 : Int32) : cI l g yX11_hasBit cX11_hasBit 2 (some .boolean) 0 0 0 0 [.int p0, .int p1] [] (fun r w => IV r 0 1 ∧ (R_m_hasBitX p0 p1 r) ∧ w = []) := by
  refine cI.of (by decide) (Nat.le_of_ble_eq_true rfl) ?_
  intro p e s m args below meth c A X hr hi
  refine k_lveq [(0, .int p0), (1, .int p1)] rfl ?_
  refine k_iload_n X dX11_hasBit_0 0 rfl ?_
  refine k_iload_n X dX11_hasBit_1 1 rfl ?_
  refine k_ishr X dX11_hasBit_2 ?_
  refine k_nm (fun z_1 ez_1 => ?_)
  refine k_iconst (v := 1) X dX11_hasBit_3 (by decide) ?_
  refine k_iand X dX11_hasBit_4 ?_
  refine k_nm (fun z_2 ez_2 => ?_)
  have iv_3 : IV z_2 0 1 := iv_and (ez_2.trans (Int32.and_comm _ _)) (show IV 1 1 1 from (by decide)) (by decide)
  refine k_iconst (v := 1) X dX11_hasBit_5 (by decide) ?_
  refine k_ic_ne 13 X dX11_hasBit_6 (by decide) (fun h_4 => ?_) (fun h_4 => ?_)
  · skip
    have iv_5 : IV z_2 0 0 := iv_neH h_4 iv_3 (show IV 1 1 1 from (by decide)) (by decide)
    refine k_iconst (v := 0) X dX11_hasBit_13 (by decide) ?_
    exact k_zret X hr (by first | rfl | decide) dX11_hasBit_14 (Nat.le_of_ble_eq_true rfl) (Nat.le_of_ble_eq_true rfl) [] (by decide) rfl rfl ⟨(iv_w (show IV 0 0 0 from (by decide)) (by decide) (by decide)), ⟨z_1, ez_1, ⟨z_2, ez_2, (Or.inl ⟨h_4, rfl⟩)⟩⟩, rfl⟩
  · skip
    have iv_6 : IV z_2 1 1 := iv_meet iv_3 (iv_e h_4 (show IV 1 1 1 from (by decide))) (by decide) (by decide)
    refine k_iconst (v := 1) X dX11_hasBit_9 (by decide) ?_
    refine k_goto 14 X dX11_hasBit_10 (by decide) ?_
    exact k_zret X hr (by first | rfl | decide) dX11_hasBit_14 (Nat.le_of_ble_eq_true rfl) (Nat.le_of_ble_eq_true rfl) [] (by decide) rfl rfl ⟨(iv_w (show IV 1 1 1 from (by decide)) (by decide) (by decide)), ⟨z_1, ez_1, ⟨z_2, ez_2, (Or.inr ⟨h_4, rfl⟩)⟩⟩, rfl⟩


set_option maxHeartbeats 4000000 in
set_option maxRecDepth 100000 in
theorem m_mostX (l : Launch) (g : Gx) (p0 : Int32) (p1 : Int32) : cI l g yX11_most cX11_most 2 (some .int) 0 0 0 0 [.int p0, .int p1] [] (fun r w => (R_m_mostX p0 p1 r) ∧ w = []) := by
  refine cI.of (by decide) (Nat.le_of_ble_eq_true rfl) ?_
  intro p e s m args below meth c A X hr hi
  refine k_lveq [(0, .int p0), (1, .int p1)] rfl ?_
  refine k_iload_n X dX11_most_0 0 rfl ?_
  refine k_iload_n X dX11_most_1 1 rfl ?_
  refine k_ic_le 9 X dX11_most_2 (by decide) (fun h_1 => ?_) (fun h_1 => ?_)
  · skip
    have j_2 : p0.toInt ≤ p1.toInt := iv_le h_1
    refine k_iload_n X dX11_most_9 1 rfl ?_
    exact k_iret X hr dX11_most_10 (Nat.le_of_ble_eq_true rfl) (Nat.le_of_ble_eq_true rfl) [] (by decide) rfl rfl ⟨(Or.inl ⟨h_1, rfl⟩), rfl⟩
  · skip
    have j_3 : p1.toInt < p0.toInt := iv_nle h_1
    have iv_4 : IV p1 (-2147483648) 2147483646 := iv_ltL (iv_nle h_1) (iv_any p1) (iv_any p0) (by decide)
    have iv_5 : IV p0 (-2147483647) 2147483647 := iv_ltR (iv_nle h_1) (iv_any p1) (iv_any p0) (by decide)
    refine k_iload_n X dX11_most_5 0 rfl ?_
    refine k_goto 10 X dX11_most_6 (by decide) ?_
    exact k_iret X hr dX11_most_10 (Nat.le_of_ble_eq_true rfl) (Nat.le_of_ble_eq_true rfl) [] (by decide) rfl rfl ⟨(Or.inr ⟨h_1, rfl⟩), rfl⟩


set_option maxHeartbeats 4000000 in
set_option maxRecDepth 100000 in
theorem m_leastX (l : Launch) (g : Gx) (p0 : Int32) (p1 : Int32) : cI l g yX11_least cX11_least 2 (some .int) 0 0 0 0 [.int p0, .int p1] [] (fun r w => (R_m_leastX p0 p1 r) ∧ w = []) := by
  refine cI.of (by decide) (Nat.le_of_ble_eq_true rfl) ?_
  intro p e s m args below meth c A X hr hi
  refine k_lveq [(0, .int p0), (1, .int p1)] rfl ?_
  refine k_iload_n X dX11_least_0 0 rfl ?_
  refine k_iload_n X dX11_least_1 1 rfl ?_
  refine k_ic_ge 9 X dX11_least_2 (by decide) (fun h_1 => ?_) (fun h_1 => ?_)
  · skip
    have j_2 : p1.toInt ≤ p0.toInt := iv_le h_1
    refine k_iload_n X dX11_least_9 1 rfl ?_
    exact k_iret X hr dX11_least_10 (Nat.le_of_ble_eq_true rfl) (Nat.le_of_ble_eq_true rfl) [] (by decide) rfl rfl ⟨(Or.inl ⟨h_1, rfl⟩), rfl⟩
  · skip
    have j_3 : p0.toInt < p1.toInt := iv_nle h_1
    have iv_4 : IV p0 (-2147483648) 2147483646 := iv_ltL (iv_nle h_1) (iv_any p0) (iv_any p1) (by decide)
    have iv_5 : IV p1 (-2147483647) 2147483647 := iv_ltR (iv_nle h_1) (iv_any p0) (iv_any p1) (by decide)
    refine k_iload_n X dX11_least_5 0 rfl ?_
    refine k_goto 10 X dX11_least_6 (by decide) ?_
    exact k_iret X hr dX11_least_10 (Nat.le_of_ble_eq_true rfl) (Nat.le_of_ble_eq_true rfl) [] (by decide) rfl rfl ⟨(Or.inr ⟨h_1, rfl⟩), rfl⟩


set_option maxHeartbeats 4000000 in
set_option maxRecDepth 100000 in
theorem m_shiftedX (l : Launch) (g : Gx) (p0 : Int32) (p1 : Int32) (p2 : Int32) : cI l g yX11_shifted cX11_shifted 4 (some .int) 1 21 0 0 [.int p0, .int p1, .int p2] [] (fun r w => (R_m_shiftedX p0 p1 p2 r) ∧ w = []) := by
  refine cI.of (by decide) (Nat.le_of_ble_eq_true rfl) ?_
  intro p e s m args below meth c A X hr hi
  refine k_lveq [(0, .int p0), (1, .int p1), (2, .int p2)] rfl ?_
  refine k_iload_n X dX11_shifted_0 0 rfl ?_
  refine k_iload_n X dX11_shifted_1 1 rfl ?_
  refine k_ic_lt 15 X dX11_shifted_2 (by decide) (fun h_1 => ?_) (fun h_1 => ?_)
  · skip
    have j_2 : p0.toInt < p1.toInt := iv_lt h_1
    have iv_3 : IV p0 (-2147483648) 2147483646 := iv_ltL (iv_lt h_1) (iv_any p0) (iv_any p1) (by decide)
    have iv_4 : IV p1 (-2147483647) 2147483647 := iv_ltR (iv_lt h_1) (iv_any p0) (iv_any p1) (by decide)
    refine k_iload_n X dX11_shifted_15 0 rfl ?_
    refine k_istore_n [(3, .int p0), (0, .int p0), (1, .int p1), (2, .int p2)] X dX11_shifted_16 (by decide) rfl ?_
    refine k_iload_n X dX11_shifted_17 0 rfl ?_
    refine k_iload_n X dX11_shifted_18 3 rfl ?_
    refine k_iconst (v := 1) X dX11_shifted_19 (by decide) ?_
    refine k_isub X dX11_shifted_20 ?_
    refine k_nm (fun z_5 ez_5 => ?_)
    refine k_callSI (n := 2) (As := [.int p0, .int z_5]) (st := []) X [] [] [] [] (m_leastX l g p0 z_5) dX11_shifted_21 mw839 mw840 mw5 mw841 yk_yX11_least_2 rfl (Nat.le_of_ble_eq_true rfl) (Nat.le_of_ble_eq_true rfl) (Nat.le_of_ble_eq_true rfl) (Nat.le_of_ble_eq_true rfl) (Nat.le_of_ble_eq_true rfl) rfl rfl (by decide) rfl (by decide) (by decide) ?_
    rintro r_7 w ⟨hq_8, rfl⟩
    refine k_ws [] rfl ?_
    exact k_iret X hr dX11_shifted_24 (Nat.le_of_ble_eq_true rfl) (Nat.le_of_ble_eq_true rfl) [] (by decide) rfl rfl ⟨(Or.inl ⟨h_1, ⟨z_5, ez_5, ⟨r_7, hq_8, rfl⟩⟩⟩), rfl⟩
  · skip
    have j_9 : p1.toInt ≤ p0.toInt := iv_nlt h_1
    refine k_iload_n X dX11_shifted_5 0 rfl ?_
    refine k_iconst (v := 2) X dX11_shifted_6 (by decide) ?_
    refine k_isub X dX11_shifted_7 ?_
    refine k_nm (fun z_10 ez_10 => ?_)
    refine k_iconst (v := 0) X dX11_shifted_8 (by decide) ?_
    refine k_callSI (n := 2) (As := [.int z_10, .int 0]) (st := []) X [] [] [] [] (m_mostX l g z_10 0) dX11_shifted_9 mw842 mw843 mw5 mw844 yk_yX11_most_2 rfl (Nat.le_of_ble_eq_true rfl) (Nat.le_of_ble_eq_true rfl) (Nat.le_of_ble_eq_true rfl) (Nat.le_of_ble_eq_true rfl) (Nat.le_of_ble_eq_true rfl) rfl rfl (by decide) rfl (by decide) (by decide) ?_
    rintro r_12 w ⟨hq_13, rfl⟩
    refine k_ws [] rfl ?_
    refine k_goto 16 X dX11_shifted_12 (by decide) ?_
    refine k_istore_n [(3, .int r_12), (0, .int p0), (1, .int p1), (2, .int p2)] X dX11_shifted_16 (by decide) rfl ?_
    refine k_iload_n X dX11_shifted_17 0 rfl ?_
    refine k_iload_n X dX11_shifted_18 3 rfl ?_
    refine k_iconst (v := 1) X dX11_shifted_19 (by decide) ?_
    refine k_isub X dX11_shifted_20 ?_
    refine k_nm (fun z_14 ez_14 => ?_)
    refine k_callSI (n := 2) (As := [.int r_12, .int z_14]) (st := []) X [] [] [] [] (m_leastX l g r_12 z_14) dX11_shifted_21 mw839 mw840 mw5 mw841 yk_yX11_least_2 rfl (Nat.le_of_ble_eq_true rfl) (Nat.le_of_ble_eq_true rfl) (Nat.le_of_ble_eq_true rfl) (Nat.le_of_ble_eq_true rfl) (Nat.le_of_ble_eq_true rfl) rfl rfl (by decide) rfl (by decide) (by decide) ?_
    rintro r_16 w ⟨hq_17, rfl⟩
    refine k_ws [] rfl ?_
    exact k_iret X hr dX11_shifted_24 (Nat.le_of_ble_eq_true rfl) (Nat.le_of_ble_eq_true rfl) [] (by decide) rfl rfl ⟨(Or.inr ⟨h_1, ⟨z_10, ez_10, ⟨r_12, hq_13, ⟨z_14, ez_14, ⟨r_16, hq_17, rfl⟩⟩⟩⟩⟩), rfl⟩


set_option maxHeartbeats 4000000 in
set_option maxRecDepth 100000 in
theorem m_isPlaceX (l : Launch) (g : Gx) (h0 : Nat) (p0 : Int32) (m_thrown : Int32) (a_tape : Nat) (m_taped : Int32) (m_size : Int32) (m_at : Int32) (m_end : Int32) (m_token : Int32) (m_whole : Int32) (m_nameSize : Int32) (m_fault : Int32) (m_place : Int32) (m_trouble : Int32) (a_letters : Nat) (m_failed : Int32) (m_hasHouse : Int32) (a_r : Nat) (a_fresh : Nat) (a_st : Nat) (a_undone : Nat) (a_kept : Nat) (m_undos : Int32) (m_images : Int32) (a_from : Nat) (a_begin : Nat) (a_motor : Nat) (a_change : Nat) (a_startFrame : Nat) (a_changeFrame : Nat) (a_lostAt : Nat) (a_blackAt : Nat) (a_slips : Nat) (a_leftArc : Nat) (a_died : Nat) (a_arcs : Nat) (m_bestSum : Int32) (m_nearest : Int32) (m_nearestTown : Int32) (a_there : Nat) (a_backAt : Nat) (a_sorted : Nat) (a_parts : Nat) (m_seed1 : Int32) (m_darkNow : Int32) (d_r : Nat → Int32) (hv_m_hasHouse : IV m_hasHouse 0 1) (hp_d_r : RInv d_r) : cI l g yX11_isPlace cX11_isPlace 2 (some .boolean) 1 22 0 0 [.ref h0, .int p0] [(cO11_i1r1i10r1i2r5i2r12i3r4i2 h0 m_thrown a_tape m_taped m_size m_at m_end m_token m_whole m_nameSize m_fault m_place m_trouble a_letters m_failed m_hasHouse a_r a_fresh a_st a_undone a_kept m_undos m_images a_from a_begin a_motor a_change a_startFrame a_changeFrame a_lostAt a_blackAt a_slips a_leftArc a_died a_arcs m_bestSum m_nearest m_nearestTown a_there a_backAt a_sorted a_parts m_seed1 m_darkNow), (cAI g a_r 311 d_r)] (fun r w => IV r 0 1 ∧ (R_m_isPlaceX p0 m_hasHouse d_r r) ∧ (r = 0 ∨ (IV p0 0 7 ∧ p0.toInt < (d_r 12).toInt)) ∧ w = [(cO11_i1r1i10r1i2r5i2r12i3r4i2 h0 m_thrown a_tape m_taped m_size m_at m_end m_token m_whole m_nameSize m_fault m_place m_trouble a_letters m_failed m_hasHouse a_r a_fresh a_st a_undone a_kept m_undos m_images a_from a_begin a_motor a_change a_startFrame a_changeFrame a_lostAt a_blackAt a_slips a_leftArc a_died a_arcs m_bestSum m_nearest m_nearestTown a_there a_backAt a_sorted a_parts m_seed1 m_darkNow), (cAI g a_r 311 d_r)]) := by
  refine cI.of (by decide) (Nat.le_of_ble_eq_true rfl) ?_
  intro p e s m args below meth c A X hr hi
  refine k_lveq [(0, .ref h0), (1, .int p0)] rfl ?_
  refine k_aload_n X dX11_isPlace_0 0 rfl ?_
  refine k_get (ci := 11) X inlX11 rfl 14 (by decide) dX11_isPlace_1 mw474 0 rfl rfl ?_
  refine k_if_eq 28 X dX11_isPlace_4 (by decide) (fun h_1 => ?_) (fun h_1 => ?_)
  · skip
    have iv_2 : IV m_hasHouse 0 0 := iv_meet hv_m_hasHouse (iv_e h_1 (show IV 0 0 0 from (by decide))) (by decide) (by decide)
    refine k_iconst (v := 0) X dX11_isPlace_28 (by decide) ?_
    exact k_zret X hr (by first | rfl | decide) dX11_isPlace_29 (Nat.le_of_ble_eq_true rfl) (Nat.le_of_ble_eq_true rfl) [0, 1] (by decide) rfl rfl ⟨(iv_w (show IV 0 0 0 from (by decide)) (by decide) (by decide)), (Or.inl ⟨h_1, rfl⟩), (Or.inl (iv_eq (show IV 0 0 0 from (by decide)) (show IV 0 0 0 from (by decide)))), rfl⟩
  · skip
    have iv_3 : IV m_hasHouse 1 1 := iv_neL h_1 hv_m_hasHouse (show IV 0 0 0 from (by decide)) (by decide)
    refine k_iload_n X dX11_isPlace_7 1 rfl ?_
    refine k_iconst (v := 0) X dX11_isPlace_8 (by decide) ?_
    refine k_aload_n X dX11_isPlace_9 0 rfl ?_
    refine k_get (ci := 11) X inlX11 rfl 15 (by decide) dX11_isPlace_10 mw170 0 rfl rfl ?_
    refine k_bipush (v := 12) X dX11_isPlace_13 (by decide) ?_
    refine k_iald X dX11_isPlace_15 1 rfl (by unfold vp_in; decide) ?_
    refine k_nm (fun z_4 ez_4 => ?_)
    have i_5 : z_4.toInt = (d_r 12).toInt := by rw [ez_4]; rfl
    have iv_6 : IV z_4 0 8 := rb_12 ez_4 hp_d_r
    refine k_iconst (v := 1) X dX11_isPlace_16 (by decide) ?_
    refine k_isub X dX11_isPlace_17 ?_
    refine k_nm (fun z_7 ez_7 => ?_)
    have i_8 : z_7.toInt = z_4.toInt - 1 := in_sub ez_7 iv_6 (show IV 1 1 1 from (by decide)) (by decide) (by decide)
    have iv_9 : IV z_7 (-1) 7 := iz5 i_8 iv_6 (by decide) (by decide)
    refine k_callSI (n := 3) (As := [.int p0, .int 0, .int z_7]) (st := []) X [] [(cO11_i1r1i10r1i2r5i2r12i3r4i2 h0 m_thrown a_tape m_taped m_size m_at m_end m_token m_whole m_nameSize m_fault m_place m_trouble a_letters m_failed m_hasHouse a_r a_fresh a_st a_undone a_kept m_undos m_images a_from a_begin a_motor a_change a_startFrame a_changeFrame a_lostAt a_blackAt a_slips a_leftArc a_died a_arcs m_bestSum m_nearest m_nearestTown a_there a_backAt a_sorted a_parts m_seed1 m_darkNow), (cAI g a_r 311 d_r)] [] [0, 1] (m_inX l g p0 0 z_7) dX11_isPlace_18 mw482 mw483 mw5 mw484 yk_yX11_in_3 rfl (Nat.le_of_ble_eq_true rfl) (Nat.le_of_ble_eq_true rfl) (Nat.le_of_ble_eq_true rfl) (Nat.le_of_ble_eq_true rfl) (Nat.le_of_ble_eq_true rfl) rfl rfl (by decide) rfl (by decide) (by decide) ?_
    rintro r_10 w ⟨iv_11, hq_12, hk_13, hk_14, rfl⟩
    refine k_ws [(cO11_i1r1i10r1i2r5i2r12i3r4i2 h0 m_thrown a_tape m_taped m_size m_at m_end m_token m_whole m_nameSize m_fault m_place m_trouble a_letters m_failed m_hasHouse a_r a_fresh a_st a_undone a_kept m_undos m_images a_from a_begin a_motor a_change a_startFrame a_changeFrame a_lostAt a_blackAt a_slips a_leftArc a_died a_arcs m_bestSum m_nearest m_nearestTown a_there a_backAt a_sorted a_parts m_seed1 m_darkNow), (cAI g a_r 311 d_r)] rfl ?_
    refine k_if_eq 28 X dX11_isPlace_21 (by decide) (fun h_15 => ?_) (fun h_15 => ?_)
    · skip
      have iv_16 : IV r_10 0 0 := iv_meet iv_11 (iv_e h_15 (show IV 0 0 0 from (by decide))) (by decide) (by decide)
      have hc_17 := hk_14 (iv_eq iv_16 (show IV 0 0 0 from (by decide)))
      have j_18 : p0.toInt < 0 ∨ z_7.toInt < p0.toInt := hc_17
      refine k_iconst (v := 0) X dX11_isPlace_28 (by decide) ?_
      exact k_zret X hr (by first | rfl | decide) dX11_isPlace_29 (Nat.le_of_ble_eq_true rfl) (Nat.le_of_ble_eq_true rfl) [0, 1] (by decide) rfl rfl ⟨(iv_w (show IV 0 0 0 from (by decide)) (by decide) (by decide)), (Or.inr ⟨h_1, ⟨z_4, ez_4, ⟨z_7, ez_7, ⟨r_10, hq_12, (Or.inl ⟨h_15, rfl⟩)⟩⟩⟩⟩), (Or.inl (iv_eq (show IV 0 0 0 from (by decide)) (show IV 0 0 0 from (by decide)))), rfl⟩
    · skip
      have hc_19 := hk_13.resolve_left h_15
      have j_20 : 0 ≤ p0.toInt := hc_19.1
      have iv_21 : IV p0 0 2147483647 := iv_leR hc_19.1 (show IV 0 0 0 from (by decide)) (iv_any p0) (by decide)
      have j_22 : p0.toInt ≤ z_7.toInt := hc_19.2
      have iv_23 : IV p0 0 7 := iv_leL hc_19.2 iv_21 iv_9 (by decide)
      have iv_24 : IV z_7 0 7 := iv_leR hc_19.2 iv_23 iv_9 (by decide)
      have iv_25 : IV z_4 1 8 := by have := iv_6; have := iv_24; rw [IV]; omega
      have iv_26 : IV r_10 1 1 := iv_neL h_15 iv_11 (show IV 0 0 0 from (by decide)) (by decide)
      refine k_iconst (v := 1) X dX11_isPlace_24 (by decide) ?_
      refine k_goto 29 X dX11_isPlace_25 (by decide) ?_
      exact k_zret X hr (by first | rfl | decide) dX11_isPlace_29 (Nat.le_of_ble_eq_true rfl) (Nat.le_of_ble_eq_true rfl) [0, 1] (by decide) rfl rfl ⟨(iv_w (show IV 1 1 1 from (by decide)) (by decide) (by decide)), (Or.inr ⟨h_1, ⟨z_4, ez_4, ⟨z_7, ez_7, ⟨r_10, hq_12, (Or.inr ⟨h_15, rfl⟩)⟩⟩⟩⟩), (Or.inr ⟨(iv_w iv_23 (by decide) (by decide)), (by omega)⟩), rfl⟩


set_option maxHeartbeats 4000000 in
set_option maxRecDepth 100000 in
theorem m_isWeakX (l : Launch) (g : Gx) (h0 : Nat) (p0 : Int32) (m_thrown : Int32) (a_tape : Nat) (m_taped : Int32) (m_size : Int32) (m_at : Int32) (m_end : Int32) (m_token : Int32) (m_whole : Int32) (m_nameSize : Int32) (m_fault : Int32) (m_place : Int32) (m_trouble : Int32) (a_letters : Nat) (m_failed : Int32) (m_hasHouse : Int32) (a_r : Nat) (a_fresh : Nat) (a_st : Nat) (a_undone : Nat) (a_kept : Nat) (m_undos : Int32) (m_images : Int32) (a_from : Nat) (a_begin : Nat) (a_motor : Nat) (a_change : Nat) (a_startFrame : Nat) (a_changeFrame : Nat) (a_lostAt : Nat) (a_blackAt : Nat) (a_slips : Nat) (a_leftArc : Nat) (a_died : Nat) (a_arcs : Nat) (m_bestSum : Int32) (m_nearest : Int32) (m_nearestTown : Int32) (a_there : Nat) (a_backAt : Nat) (a_sorted : Nat) (a_parts : Nat) (m_seed1 : Int32) (m_darkNow : Int32) (d_r : Nat → Int32) (hv_m_hasHouse : IV m_hasHouse 0 1) (hp_d_r : RInv d_r) : cI l g yX11_isWeak cX11_isWeak 2 (some .boolean) 1 22 0 0 [.ref h0, .int p0] [(cO11_i1r1i10r1i2r5i2r12i3r4i2 h0 m_thrown a_tape m_taped m_size m_at m_end m_token m_whole m_nameSize m_fault m_place m_trouble a_letters m_failed m_hasHouse a_r a_fresh a_st a_undone a_kept m_undos m_images a_from a_begin a_motor a_change a_startFrame a_changeFrame a_lostAt a_blackAt a_slips a_leftArc a_died a_arcs m_bestSum m_nearest m_nearestTown a_there a_backAt a_sorted a_parts m_seed1 m_darkNow), (cAI g a_r 311 d_r)] (fun r w => IV r 0 1 ∧ (R_m_isWeakX p0 m_hasHouse d_r r) ∧ (r = 0 ∨ (IV p0 0 5)) ∧ w = [(cO11_i1r1i10r1i2r5i2r12i3r4i2 h0 m_thrown a_tape m_taped m_size m_at m_end m_token m_whole m_nameSize m_fault m_place m_trouble a_letters m_failed m_hasHouse a_r a_fresh a_st a_undone a_kept m_undos m_images a_from a_begin a_motor a_change a_startFrame a_changeFrame a_lostAt a_blackAt a_slips a_leftArc a_died a_arcs m_bestSum m_nearest m_nearestTown a_there a_backAt a_sorted a_parts m_seed1 m_darkNow), (cAI g a_r 311 d_r)]) := by
  refine cI.of (by decide) (Nat.le_of_ble_eq_true rfl) ?_
  intro p e s m args below meth c A X hr hi
  refine k_lveq [(0, .ref h0), (1, .int p0)] rfl ?_
  refine k_aload_n X dX11_isWeak_0 0 rfl ?_
  refine k_get (ci := 11) X inlX11 rfl 14 (by decide) dX11_isWeak_1 mw474 0 rfl rfl ?_
  refine k_if_eq 28 X dX11_isWeak_4 (by decide) (fun h_1 => ?_) (fun h_1 => ?_)
  · skip
    have iv_2 : IV m_hasHouse 0 0 := iv_meet hv_m_hasHouse (iv_e h_1 (show IV 0 0 0 from (by decide))) (by decide) (by decide)
    refine k_iconst (v := 0) X dX11_isWeak_28 (by decide) ?_
    exact k_zret X hr (by first | rfl | decide) dX11_isWeak_29 (Nat.le_of_ble_eq_true rfl) (Nat.le_of_ble_eq_true rfl) [0, 1] (by decide) rfl rfl ⟨(iv_w (show IV 0 0 0 from (by decide)) (by decide) (by decide)), (Or.inl ⟨h_1, rfl⟩), (Or.inl (iv_eq (show IV 0 0 0 from (by decide)) (show IV 0 0 0 from (by decide)))), rfl⟩
  · skip
    have iv_3 : IV m_hasHouse 1 1 := iv_neL h_1 hv_m_hasHouse (show IV 0 0 0 from (by decide)) (by decide)
    refine k_iload_n X dX11_isWeak_7 1 rfl ?_
    refine k_iconst (v := 0) X dX11_isWeak_8 (by decide) ?_
    refine k_aload_n X dX11_isWeak_9 0 rfl ?_
    refine k_get (ci := 11) X inlX11 rfl 15 (by decide) dX11_isWeak_10 mw170 0 rfl rfl ?_
    refine k_bipush (v := 10) X dX11_isWeak_13 (by decide) ?_
    refine k_iald X dX11_isWeak_15 1 rfl (by unfold vp_in; decide) ?_
    refine k_nm (fun z_4 ez_4 => ?_)
    have i_5 : z_4.toInt = (d_r 10).toInt := by rw [ez_4]; rfl
    have iv_6 : IV z_4 0 6 := rb_10 ez_4 hp_d_r
    refine k_iconst (v := 1) X dX11_isWeak_16 (by decide) ?_
    refine k_isub X dX11_isWeak_17 ?_
    refine k_nm (fun z_7 ez_7 => ?_)
    have i_8 : z_7.toInt = z_4.toInt - 1 := in_sub ez_7 iv_6 (show IV 1 1 1 from (by decide)) (by decide) (by decide)
    have iv_9 : IV z_7 (-1) 5 := iz5 i_8 iv_6 (by decide) (by decide)
    refine k_callSI (n := 3) (As := [.int p0, .int 0, .int z_7]) (st := []) X [] [(cO11_i1r1i10r1i2r5i2r12i3r4i2 h0 m_thrown a_tape m_taped m_size m_at m_end m_token m_whole m_nameSize m_fault m_place m_trouble a_letters m_failed m_hasHouse a_r a_fresh a_st a_undone a_kept m_undos m_images a_from a_begin a_motor a_change a_startFrame a_changeFrame a_lostAt a_blackAt a_slips a_leftArc a_died a_arcs m_bestSum m_nearest m_nearestTown a_there a_backAt a_sorted a_parts m_seed1 m_darkNow), (cAI g a_r 311 d_r)] [] [0, 1] (m_inX l g p0 0 z_7) dX11_isWeak_18 mw482 mw483 mw5 mw484 yk_yX11_in_3 rfl (Nat.le_of_ble_eq_true rfl) (Nat.le_of_ble_eq_true rfl) (Nat.le_of_ble_eq_true rfl) (Nat.le_of_ble_eq_true rfl) (Nat.le_of_ble_eq_true rfl) rfl rfl (by decide) rfl (by decide) (by decide) ?_
    rintro r_10 w ⟨iv_11, hq_12, hk_13, hk_14, rfl⟩
    refine k_ws [(cO11_i1r1i10r1i2r5i2r12i3r4i2 h0 m_thrown a_tape m_taped m_size m_at m_end m_token m_whole m_nameSize m_fault m_place m_trouble a_letters m_failed m_hasHouse a_r a_fresh a_st a_undone a_kept m_undos m_images a_from a_begin a_motor a_change a_startFrame a_changeFrame a_lostAt a_blackAt a_slips a_leftArc a_died a_arcs m_bestSum m_nearest m_nearestTown a_there a_backAt a_sorted a_parts m_seed1 m_darkNow), (cAI g a_r 311 d_r)] rfl ?_
    refine k_if_eq 28 X dX11_isWeak_21 (by decide) (fun h_15 => ?_) (fun h_15 => ?_)
    · skip
      have iv_16 : IV r_10 0 0 := iv_meet iv_11 (iv_e h_15 (show IV 0 0 0 from (by decide))) (by decide) (by decide)
      have hc_17 := hk_14 (iv_eq iv_16 (show IV 0 0 0 from (by decide)))
      have j_18 : p0.toInt < 0 ∨ z_7.toInt < p0.toInt := hc_17
      refine k_iconst (v := 0) X dX11_isWeak_28 (by decide) ?_
      exact k_zret X hr (by first | rfl | decide) dX11_isWeak_29 (Nat.le_of_ble_eq_true rfl) (Nat.le_of_ble_eq_true rfl) [0, 1] (by decide) rfl rfl ⟨(iv_w (show IV 0 0 0 from (by decide)) (by decide) (by decide)), (Or.inr ⟨h_1, ⟨z_4, ez_4, ⟨z_7, ez_7, ⟨r_10, hq_12, (Or.inl ⟨h_15, rfl⟩)⟩⟩⟩⟩), (Or.inl (iv_eq (show IV 0 0 0 from (by decide)) (show IV 0 0 0 from (by decide)))), rfl⟩
    · skip
      have hc_19 := hk_13.resolve_left h_15
      have j_20 : 0 ≤ p0.toInt := hc_19.1
      have iv_21 : IV p0 0 2147483647 := iv_leR hc_19.1 (show IV 0 0 0 from (by decide)) (iv_any p0) (by decide)
      have j_22 : p0.toInt ≤ z_7.toInt := hc_19.2
      have iv_23 : IV p0 0 5 := iv_leL hc_19.2 iv_21 iv_9 (by decide)
      have iv_24 : IV z_7 0 5 := iv_leR hc_19.2 iv_23 iv_9 (by decide)
      have iv_25 : IV z_4 1 6 := by have := iv_6; have := iv_24; rw [IV]; omega
      have iv_26 : IV r_10 1 1 := iv_neL h_15 iv_11 (show IV 0 0 0 from (by decide)) (by decide)
      refine k_iconst (v := 1) X dX11_isWeak_24 (by decide) ?_
      refine k_goto 29 X dX11_isWeak_25 (by decide) ?_
      exact k_zret X hr (by first | rfl | decide) dX11_isWeak_29 (Nat.le_of_ble_eq_true rfl) (Nat.le_of_ble_eq_true rfl) [0, 1] (by decide) rfl rfl ⟨(iv_w (show IV 1 1 1 from (by decide)) (by decide) (by decide)), (Or.inr ⟨h_1, ⟨z_4, ez_4, ⟨z_7, ez_7, ⟨r_10, hq_12, (Or.inr ⟨h_15, rfl⟩)⟩⟩⟩⟩), (Or.inr (iv_w iv_23 (by decide) (by decide))), rfl⟩


set_option maxHeartbeats 4000000 in
set_option maxRecDepth 100000 in
theorem m_isMendedX (l : Launch) (g : Gx) (h0 : Nat) (p0 : Int32) (m_thrown : Int32) (a_tape : Nat) (m_taped : Int32) (m_size : Int32) (m_at : Int32) (m_end : Int32) (m_token : Int32) (m_whole : Int32) (m_nameSize : Int32) (m_fault : Int32) (m_place : Int32) (m_trouble : Int32) (a_letters : Nat) (m_failed : Int32) (m_hasHouse : Int32) (a_r : Nat) (a_fresh : Nat) (a_st : Nat) (a_undone : Nat) (a_kept : Nat) (m_undos : Int32) (m_images : Int32) (a_from : Nat) (a_begin : Nat) (a_motor : Nat) (a_change : Nat) (a_startFrame : Nat) (a_changeFrame : Nat) (a_lostAt : Nat) (a_blackAt : Nat) (a_slips : Nat) (a_leftArc : Nat) (a_died : Nat) (a_arcs : Nat) (m_bestSum : Int32) (m_nearest : Int32) (m_nearestTown : Int32) (a_there : Nat) (a_backAt : Nat) (a_sorted : Nat) (a_parts : Nat) (m_seed1 : Int32) (m_darkNow : Int32) (d_st : Nat → Int32) : cI l g yX11_isMended cX11_isMended 2 (some .boolean) 1 21 0 0 [.ref h0, .int p0] [(cO11_i1r1i10r1i2r5i2r12i3r4i2 h0 m_thrown a_tape m_taped m_size m_at m_end m_token m_whole m_nameSize m_fault m_place m_trouble a_letters m_failed m_hasHouse a_r a_fresh a_st a_undone a_kept m_undos m_images a_from a_begin a_motor a_change a_startFrame a_changeFrame a_lostAt a_blackAt a_slips a_leftArc a_died a_arcs m_bestSum m_nearest m_nearestTown a_there a_backAt a_sorted a_parts m_seed1 m_darkNow), (cAI g a_st 44 d_st)] (fun r w => IV r 0 1 ∧ (R_m_isMendedX p0 d_st r) ∧ w = [(cO11_i1r1i10r1i2r5i2r12i3r4i2 h0 m_thrown a_tape m_taped m_size m_at m_end m_token m_whole m_nameSize m_fault m_place m_trouble a_letters m_failed m_hasHouse a_r a_fresh a_st a_undone a_kept m_undos m_images a_from a_begin a_motor a_change a_startFrame a_changeFrame a_lostAt a_blackAt a_slips a_leftArc a_died a_arcs m_bestSum m_nearest m_nearestTown a_there a_backAt a_sorted a_parts m_seed1 m_darkNow), (cAI g a_st 44 d_st)]) := by
  refine cI.of (by decide) (Nat.le_of_ble_eq_true rfl) ?_
  intro p e s m args below meth c A X hr hi
  refine k_lveq [(0, .ref h0), (1, .int p0)] rfl ?_
  refine k_aload_n X dX11_isMended_0 0 rfl ?_
  refine k_get (ci := 11) X inlX11 rfl 17 (by decide) dX11_isMended_1 mw172 0 rfl rfl ?_
  refine k_bipush (v := 43) X dX11_isMended_4 (by decide) ?_
  refine k_iald X dX11_isMended_6 1 rfl (by unfold vp_in; decide) ?_
  refine k_nm (fun z_1 ez_1 => ?_)
  refine k_iload_n X dX11_isMended_7 1 rfl ?_
  refine k_callSI (n := 2) (As := [.int z_1, .int p0]) (st := []) X [] [(cO11_i1r1i10r1i2r5i2r12i3r4i2 h0 m_thrown a_tape m_taped m_size m_at m_end m_token m_whole m_nameSize m_fault m_place m_trouble a_letters m_failed m_hasHouse a_r a_fresh a_st a_undone a_kept m_undos m_images a_from a_begin a_motor a_change a_startFrame a_changeFrame a_lostAt a_blackAt a_slips a_leftArc a_died a_arcs m_bestSum m_nearest m_nearestTown a_there a_backAt a_sorted a_parts m_seed1 m_darkNow), (cAI g a_st 44 d_st)] [] [0, 1] (m_hasBitX l g z_1 p0) dX11_isMended_8 mw686 mw687 mw5 mw688 yk_yX11_hasBit_2 rfl (Nat.le_of_ble_eq_true rfl) (Nat.le_of_ble_eq_true rfl) (Nat.le_of_ble_eq_true rfl) (Nat.le_of_ble_eq_true rfl) (Nat.le_of_ble_eq_true rfl) rfl rfl (by decide) rfl (by decide) (by decide) ?_
  rintro r_2 w ⟨iv_3, hq_4, rfl⟩
  refine k_ws [(cO11_i1r1i10r1i2r5i2r12i3r4i2 h0 m_thrown a_tape m_taped m_size m_at m_end m_token m_whole m_nameSize m_fault m_place m_trouble a_letters m_failed m_hasHouse a_r a_fresh a_st a_undone a_kept m_undos m_images a_from a_begin a_motor a_change a_startFrame a_changeFrame a_lostAt a_blackAt a_slips a_leftArc a_died a_arcs m_bestSum m_nearest m_nearestTown a_there a_backAt a_sorted a_parts m_seed1 m_darkNow), (cAI g a_st 44 d_st)] rfl ?_
  exact k_zret X hr (zn_b (iv_w iv_3 (by decide) (by decide))) dX11_isMended_11 (Nat.le_of_ble_eq_true rfl) (Nat.le_of_ble_eq_true rfl) [0, 1] (by decide) rfl rfl ⟨(iv_w iv_3 (by decide) (by decide)), ⟨z_1, ez_1, ⟨r_2, hq_4, rfl⟩⟩, rfl⟩


set_option maxHeartbeats 4000000 in
set_option maxRecDepth 100000 in
theorem m_copyAX (l : Launch) (g : Gx) (fa : Nat) (ta : Nat) (p3 : Int32) (f1 : Nat → Int32) (f2 : Nat → Int32) (hv_p3 : IV p3 0 484) : cV l g yX11_copy cX11_copy 6 0 0 0 0 [.ref fa, .int 0, .ref ta, .int p3, .int 44] [(cAI g fa 44 f1), (cAI g ta 528 f2)] (fun w => ∃ (f3 : Nat → Int32), (R_m_copyAX p3 f1 f2 f3) ∧ w = [(cAI g fa 44 f1), (cAI g ta 528 f3)]) := by
  refine cV.of (by decide) (Nat.le_of_ble_eq_true rfl) ?_
  intro p e s m args below meth c A X hr hi
  refine k_lveq [(0, .ref fa), (1, .int 0), (2, .ref ta), (3, .int p3), (4, .int 44)] rfl ?_
  refine k_iconst (v := 0) X dX11_copy_0 (by decide) ?_
  refine k_istore [(5, .int 0), (0, .ref fa), (1, .int 0), (2, .ref ta), (3, .int p3), (4, .int 44)] X dX11_copy_1 (by decide) rfl ?_
  refine (fun hL : ∀ (nn_4 : Nat) (uf_1 : Nat → Int32) (u_2 : Int32), (44 - u_2.toInt).toNat = nn_4 → (IV u_2 0 255) → (∀ (f3 : Nat → Int32), (∃ n_0 : Nat, R_m_copyAX_L0 p3 f1 (fun (uf_1 : Nat → Int32) => f3 = uf_1) n_0 uf_1 u_2) → R_m_copyAX p3 f1 f2 f3) → Wk p l e _ s m args below meth c _ A g _ _ _ [(cAI g fa 44 f1), (cAI g ta 528 uf_1)] [(5, .int u_2), (0, .ref fa), (1, .int 0), (2, .ref ta), (3, .int p3), (4, .int 44)] 3 [] => hL _ f2 0 rfl (iv_w (show IV 0 0 0 from (by decide)) (by decide) (by decide)) (fun f3 h => h)) ?_
  refine fun nn_4 => Nat.strongRecOn nn_4 (fun nn_4 ih_6 => ?_)
  intro uf_1 u_2 hm_5 hv_3 KH_0
  refine k_iload X dX11_copy_3 0 rfl ?_
  refine k_iload X dX11_copy_5 5 rfl ?_
  refine k_ic_ge 28 X dX11_copy_7 (by decide) (fun h_7 => ?_) (fun h_7 => ?_)
  · skip
    have j_8 : 44 ≤ u_2.toInt := iv_le h_7
    have iv_9 : IV u_2 44 255 := iv_leR (iv_le h_7) (show IV 44 44 44 from (by decide)) hv_3 (by decide)
    exact k_vret X hr dX11_copy_28 (Nat.le_of_ble_eq_true rfl) (Nat.le_of_ble_eq_true rfl) [0, 1] (by decide) rfl rfl ⟨uf_1, (KH_0 _ ⟨0 + 1, (Or.inl ⟨h_7, rfl⟩)⟩), rfl⟩
  · skip
    have j_10 : u_2.toInt < 44 := iv_nle h_7
    have iv_11 : IV u_2 0 43 := iv_ltL (iv_nle h_7) hv_3 (show IV 44 44 44 from (by decide)) (by decide)
    refine k_aload_n X dX11_copy_10 3 rfl ?_
    refine k_iload_n X dX11_copy_11 4 rfl ?_
    refine k_iload X dX11_copy_12 0 rfl ?_
    refine k_iadd X dX11_copy_14 ?_
    refine k_nm (fun z_12 ez_12 => ?_)
    have i_13 : z_12.toInt = p3.toInt + u_2.toInt := in_add ez_12 hv_p3 iv_11 (by decide) (by decide)
    have iv_14 : IV z_12 0 527 := by have := hv_p3; have := iv_11; rw [IV, i_13]; omega
    refine k_aload_n X dX11_copy_15 1 rfl ?_
    refine k_iload_n X dX11_copy_16 2 rfl ?_
    refine k_iload X dX11_copy_17 0 rfl ?_
    refine k_iadd X dX11_copy_19 ?_
    refine k_nm (fun z_15 ez_15 => ?_)
    have i_16 : z_15.toInt = 0 + u_2.toInt := in_add ez_15 (show IV 0 0 0 from (by decide)) iv_11 (by decide) (by decide)
    have iv_17 : IV z_15 0 43 := iz2 i_16 iv_11 (by decide) (by decide)
    refine k_iald X dX11_copy_20 0 rfl (iv_in iv_17 (by decide) (by decide)) ?_
    refine k_nm (fun z_18 ez_18 => ?_)
    refine k_iast [(cAI g fa 44 f1), (cAI g ta 528 (upd uf_1 (z_12 : Int32).toNatClampNeg z_18))] X dX11_copy_21 1 rfl (iv_in iv_14 (by decide) (by decide)) rfl ?_
    obtain ⟨z_20, ez_20⟩ : ∃ y : Int32, u_2 + Int32.ofInt 1 = y := ⟨_, rfl⟩
    refine k_iinc z_20 [(5, .int z_20), (0, .ref fa), (1, .int 0), (2, .ref ta), (3, .int p3), (4, .int 44)] 0 X dX11_copy_22 rfl ez_20 (by decide) rfl ?_
    have i_21 : z_20.toInt = u_2.toInt + 1 := in_inc ez_20 (by decide) iv_11 (by decide) (by decide)
    have iv_22 : IV z_20 1 44 := iz1 i_21 iv_11 (by decide) (by decide)
    refine k_goto 3 X dX11_copy_25 (by decide) ?_
    exact ih_6 _ (by omega) ((upd uf_1 (z_12 : Int32).toNatClampNeg z_18)) z_20 rfl (iv_w iv_22 (by decide) (by decide)) (fun f3 h => h.elim (fun n_0 q => (KH_0 _ ⟨n_0 + 1, (Or.inr ⟨h_7, ⟨z_12, ez_12, ⟨z_15, ez_15, ⟨z_18, ez_18, ⟨z_20, ez_20, q⟩⟩⟩⟩⟩)⟩)))


set_option maxHeartbeats 4000000 in
set_option maxRecDepth 100000 in
theorem m_copyBX (l : Launch) (g : Gx) (fa : Nat) (p1 : Int32) (ta : Nat) (f1 : Nat → Int32) (f2 : Nat → Int32) (hv_p1 : IV p1 0 484) : cV l g yX11_copy cX11_copy 6 0 0 0 0 [.ref fa, .int p1, .ref ta, .int 0, .int 44] [(cAI g fa 528 f1), (cAI g ta 44 f2)] (fun w => ∃ (f3 : Nat → Int32), (R_m_copyBX p1 f1 f2 f3) ∧ w = [(cAI g fa 528 f1), (cAI g ta 44 f3)]) := by
  refine cV.of (by decide) (Nat.le_of_ble_eq_true rfl) ?_
  intro p e s m args below meth c A X hr hi
  refine k_lveq [(0, .ref fa), (1, .int p1), (2, .ref ta), (3, .int 0), (4, .int 44)] rfl ?_
  refine k_iconst (v := 0) X dX11_copy_0 (by decide) ?_
  refine k_istore [(5, .int 0), (0, .ref fa), (1, .int p1), (2, .ref ta), (3, .int 0), (4, .int 44)] X dX11_copy_1 (by decide) rfl ?_
  refine (fun hL : ∀ (nn_4 : Nat) (uf_1 : Nat → Int32) (u_2 : Int32), (44 - u_2.toInt).toNat = nn_4 → (IV u_2 0 255) → (∀ (f3 : Nat → Int32), (∃ n_0 : Nat, R_m_copyBX_L0 p1 f1 (fun (uf_1 : Nat → Int32) => f3 = uf_1) n_0 uf_1 u_2) → R_m_copyBX p1 f1 f2 f3) → Wk p l e _ s m args below meth c _ A g _ _ _ [(cAI g fa 528 f1), (cAI g ta 44 uf_1)] [(5, .int u_2), (0, .ref fa), (1, .int p1), (2, .ref ta), (3, .int 0), (4, .int 44)] 3 [] => hL _ f2 0 rfl (iv_w (show IV 0 0 0 from (by decide)) (by decide) (by decide)) (fun f3 h => h)) ?_
  refine fun nn_4 => Nat.strongRecOn nn_4 (fun nn_4 ih_6 => ?_)
  intro uf_1 u_2 hm_5 hv_3 KH_0
  refine k_iload X dX11_copy_3 0 rfl ?_
  refine k_iload X dX11_copy_5 5 rfl ?_
  refine k_ic_ge 28 X dX11_copy_7 (by decide) (fun h_7 => ?_) (fun h_7 => ?_)
  · skip
    have j_8 : 44 ≤ u_2.toInt := iv_le h_7
    have iv_9 : IV u_2 44 255 := iv_leR (iv_le h_7) (show IV 44 44 44 from (by decide)) hv_3 (by decide)
    exact k_vret X hr dX11_copy_28 (Nat.le_of_ble_eq_true rfl) (Nat.le_of_ble_eq_true rfl) [0, 1] (by decide) rfl rfl ⟨uf_1, (KH_0 _ ⟨0 + 1, (Or.inl ⟨h_7, rfl⟩)⟩), rfl⟩
  · skip
    have j_10 : u_2.toInt < 44 := iv_nle h_7
    have iv_11 : IV u_2 0 43 := iv_ltL (iv_nle h_7) hv_3 (show IV 44 44 44 from (by decide)) (by decide)
    refine k_aload_n X dX11_copy_10 3 rfl ?_
    refine k_iload_n X dX11_copy_11 4 rfl ?_
    refine k_iload X dX11_copy_12 0 rfl ?_
    refine k_iadd X dX11_copy_14 ?_
    refine k_nm (fun z_12 ez_12 => ?_)
    have i_13 : z_12.toInt = 0 + u_2.toInt := in_add ez_12 (show IV 0 0 0 from (by decide)) iv_11 (by decide) (by decide)
    have iv_14 : IV z_12 0 43 := iz2 i_13 iv_11 (by decide) (by decide)
    refine k_aload_n X dX11_copy_15 1 rfl ?_
    refine k_iload_n X dX11_copy_16 2 rfl ?_
    refine k_iload X dX11_copy_17 0 rfl ?_
    refine k_iadd X dX11_copy_19 ?_
    refine k_nm (fun z_15 ez_15 => ?_)
    have i_16 : z_15.toInt = p1.toInt + u_2.toInt := in_add ez_15 hv_p1 iv_11 (by decide) (by decide)
    have iv_17 : IV z_15 0 527 := by have := hv_p1; have := iv_11; rw [IV, i_16]; omega
    refine k_iald X dX11_copy_20 0 rfl (iv_in iv_17 (by decide) (by decide)) ?_
    refine k_nm (fun z_18 ez_18 => ?_)
    refine k_iast [(cAI g fa 528 f1), (cAI g ta 44 (upd uf_1 (z_12 : Int32).toNatClampNeg z_18))] X dX11_copy_21 1 rfl (iv_in iv_14 (by decide) (by decide)) rfl ?_
    obtain ⟨z_20, ez_20⟩ : ∃ y : Int32, u_2 + Int32.ofInt 1 = y := ⟨_, rfl⟩
    refine k_iinc z_20 [(5, .int z_20), (0, .ref fa), (1, .int p1), (2, .ref ta), (3, .int 0), (4, .int 44)] 0 X dX11_copy_22 rfl ez_20 (by decide) rfl ?_
    have i_21 : z_20.toInt = u_2.toInt + 1 := in_inc ez_20 (by decide) iv_11 (by decide) (by decide)
    have iv_22 : IV z_20 1 44 := iz1 i_21 iv_11 (by decide) (by decide)
    refine k_goto 3 X dX11_copy_25 (by decide) ?_
    exact ih_6 _ (by omega) ((upd uf_1 (z_12 : Int32).toNatClampNeg z_18)) z_20 rfl (iv_w iv_22 (by decide) (by decide)) (fun f3 h => h.elim (fun n_0 q => (KH_0 _ ⟨n_0 + 1, (Or.inr ⟨h_7, ⟨z_12, ez_12, ⟨z_15, ez_15, ⟨z_18, ez_18, ⟨z_20, ez_20, q⟩⟩⟩⟩⟩)⟩)))


set_option maxHeartbeats 4000000 in
set_option maxRecDepth 100000 in
theorem m_copyCX (l : Launch) (g : Gx) (fa : Nat) (ta : Nat) (p3 : Int32) (f1 : Nat → Int32) (f2 : Nat → Int32) (hv_p3 : IV p3 0 88) : cV l g yX11_copy cX11_copy 6 0 0 0 0 [.ref fa, .int 0, .ref ta, .int p3, .int 44] [(cAI g fa 44 f1), (cAI g ta 132 f2)] (fun w => ∃ (f3 : Nat → Int32), (R_m_copyCX p3 f1 f2 f3) ∧ w = [(cAI g fa 44 f1), (cAI g ta 132 f3)]) := by
  refine cV.of (by decide) (Nat.le_of_ble_eq_true rfl) ?_
  intro p e s m args below meth c A X hr hi
  refine k_lveq [(0, .ref fa), (1, .int 0), (2, .ref ta), (3, .int p3), (4, .int 44)] rfl ?_
  refine k_iconst (v := 0) X dX11_copy_0 (by decide) ?_
  refine k_istore [(5, .int 0), (0, .ref fa), (1, .int 0), (2, .ref ta), (3, .int p3), (4, .int 44)] X dX11_copy_1 (by decide) rfl ?_
  refine (fun hL : ∀ (nn_4 : Nat) (uf_1 : Nat → Int32) (u_2 : Int32), (44 - u_2.toInt).toNat = nn_4 → (IV u_2 0 255) → (∀ (f3 : Nat → Int32), (∃ n_0 : Nat, R_m_copyCX_L0 p3 f1 (fun (uf_1 : Nat → Int32) => f3 = uf_1) n_0 uf_1 u_2) → R_m_copyCX p3 f1 f2 f3) → Wk p l e _ s m args below meth c _ A g _ _ _ [(cAI g fa 44 f1), (cAI g ta 132 uf_1)] [(5, .int u_2), (0, .ref fa), (1, .int 0), (2, .ref ta), (3, .int p3), (4, .int 44)] 3 [] => hL _ f2 0 rfl (iv_w (show IV 0 0 0 from (by decide)) (by decide) (by decide)) (fun f3 h => h)) ?_
  refine fun nn_4 => Nat.strongRecOn nn_4 (fun nn_4 ih_6 => ?_)
  intro uf_1 u_2 hm_5 hv_3 KH_0
  refine k_iload X dX11_copy_3 0 rfl ?_
  refine k_iload X dX11_copy_5 5 rfl ?_
  refine k_ic_ge 28 X dX11_copy_7 (by decide) (fun h_7 => ?_) (fun h_7 => ?_)
  · skip
    have j_8 : 44 ≤ u_2.toInt := iv_le h_7
    have iv_9 : IV u_2 44 255 := iv_leR (iv_le h_7) (show IV 44 44 44 from (by decide)) hv_3 (by decide)
    exact k_vret X hr dX11_copy_28 (Nat.le_of_ble_eq_true rfl) (Nat.le_of_ble_eq_true rfl) [0, 1] (by decide) rfl rfl ⟨uf_1, (KH_0 _ ⟨0 + 1, (Or.inl ⟨h_7, rfl⟩)⟩), rfl⟩
  · skip
    have j_10 : u_2.toInt < 44 := iv_nle h_7
    have iv_11 : IV u_2 0 43 := iv_ltL (iv_nle h_7) hv_3 (show IV 44 44 44 from (by decide)) (by decide)
    refine k_aload_n X dX11_copy_10 3 rfl ?_
    refine k_iload_n X dX11_copy_11 4 rfl ?_
    refine k_iload X dX11_copy_12 0 rfl ?_
    refine k_iadd X dX11_copy_14 ?_
    refine k_nm (fun z_12 ez_12 => ?_)
    have i_13 : z_12.toInt = p3.toInt + u_2.toInt := in_add ez_12 hv_p3 iv_11 (by decide) (by decide)
    have iv_14 : IV z_12 0 131 := by have := hv_p3; have := iv_11; rw [IV, i_13]; omega
    refine k_aload_n X dX11_copy_15 1 rfl ?_
    refine k_iload_n X dX11_copy_16 2 rfl ?_
    refine k_iload X dX11_copy_17 0 rfl ?_
    refine k_iadd X dX11_copy_19 ?_
    refine k_nm (fun z_15 ez_15 => ?_)
    have i_16 : z_15.toInt = 0 + u_2.toInt := in_add ez_15 (show IV 0 0 0 from (by decide)) iv_11 (by decide) (by decide)
    have iv_17 : IV z_15 0 43 := iz2 i_16 iv_11 (by decide) (by decide)
    refine k_iald X dX11_copy_20 0 rfl (iv_in iv_17 (by decide) (by decide)) ?_
    refine k_nm (fun z_18 ez_18 => ?_)
    refine k_iast [(cAI g fa 44 f1), (cAI g ta 132 (upd uf_1 (z_12 : Int32).toNatClampNeg z_18))] X dX11_copy_21 1 rfl (iv_in iv_14 (by decide) (by decide)) rfl ?_
    obtain ⟨z_20, ez_20⟩ : ∃ y : Int32, u_2 + Int32.ofInt 1 = y := ⟨_, rfl⟩
    refine k_iinc z_20 [(5, .int z_20), (0, .ref fa), (1, .int 0), (2, .ref ta), (3, .int p3), (4, .int 44)] 0 X dX11_copy_22 rfl ez_20 (by decide) rfl ?_
    have i_21 : z_20.toInt = u_2.toInt + 1 := in_inc ez_20 (by decide) iv_11 (by decide) (by decide)
    have iv_22 : IV z_20 1 44 := iz1 i_21 iv_11 (by decide) (by decide)
    refine k_goto 3 X dX11_copy_25 (by decide) ?_
    exact ih_6 _ (by omega) ((upd uf_1 (z_12 : Int32).toNatClampNeg z_18)) z_20 rfl (iv_w iv_22 (by decide) (by decide)) (fun f3 h => h.elim (fun n_0 q => (KH_0 _ ⟨n_0 + 1, (Or.inr ⟨h_7, ⟨z_12, ez_12, ⟨z_15, ez_15, ⟨z_18, ez_18, ⟨z_20, ez_20, q⟩⟩⟩⟩⟩)⟩)))


set_option maxHeartbeats 4000000 in
set_option maxRecDepth 100000 in
theorem m_copyDX (l : Launch) (g : Gx) (fa : Nat) (p1 : Int32) (ta : Nat) (f1 : Nat → Int32) (f2 : Nat → Int32) (hv_p1 : IV p1 0 88) : cV l g yX11_copy cX11_copy 6 0 0 0 0 [.ref fa, .int p1, .ref ta, .int 0, .int 44] [(cAI g fa 132 f1), (cAI g ta 44 f2)] (fun w => ∃ (f3 : Nat → Int32), (R_m_copyDX p1 f1 f2 f3) ∧ w = [(cAI g fa 132 f1), (cAI g ta 44 f3)]) := by
  refine cV.of (by decide) (Nat.le_of_ble_eq_true rfl) ?_
  intro p e s m args below meth c A X hr hi
  refine k_lveq [(0, .ref fa), (1, .int p1), (2, .ref ta), (3, .int 0), (4, .int 44)] rfl ?_
  refine k_iconst (v := 0) X dX11_copy_0 (by decide) ?_
  refine k_istore [(5, .int 0), (0, .ref fa), (1, .int p1), (2, .ref ta), (3, .int 0), (4, .int 44)] X dX11_copy_1 (by decide) rfl ?_
  refine (fun hL : ∀ (nn_4 : Nat) (uf_1 : Nat → Int32) (u_2 : Int32), (44 - u_2.toInt).toNat = nn_4 → (IV u_2 0 255) → (∀ (f3 : Nat → Int32), (∃ n_0 : Nat, R_m_copyDX_L0 p1 f1 (fun (uf_1 : Nat → Int32) => f3 = uf_1) n_0 uf_1 u_2) → R_m_copyDX p1 f1 f2 f3) → Wk p l e _ s m args below meth c _ A g _ _ _ [(cAI g fa 132 f1), (cAI g ta 44 uf_1)] [(5, .int u_2), (0, .ref fa), (1, .int p1), (2, .ref ta), (3, .int 0), (4, .int 44)] 3 [] => hL _ f2 0 rfl (iv_w (show IV 0 0 0 from (by decide)) (by decide) (by decide)) (fun f3 h => h)) ?_
  refine fun nn_4 => Nat.strongRecOn nn_4 (fun nn_4 ih_6 => ?_)
  intro uf_1 u_2 hm_5 hv_3 KH_0
  refine k_iload X dX11_copy_3 0 rfl ?_
  refine k_iload X dX11_copy_5 5 rfl ?_
  refine k_ic_ge 28 X dX11_copy_7 (by decide) (fun h_7 => ?_) (fun h_7 => ?_)
  · skip
    have j_8 : 44 ≤ u_2.toInt := iv_le h_7
    have iv_9 : IV u_2 44 255 := iv_leR (iv_le h_7) (show IV 44 44 44 from (by decide)) hv_3 (by decide)
    exact k_vret X hr dX11_copy_28 (Nat.le_of_ble_eq_true rfl) (Nat.le_of_ble_eq_true rfl) [0, 1] (by decide) rfl rfl ⟨uf_1, (KH_0 _ ⟨0 + 1, (Or.inl ⟨h_7, rfl⟩)⟩), rfl⟩
  · skip
    have j_10 : u_2.toInt < 44 := iv_nle h_7
    have iv_11 : IV u_2 0 43 := iv_ltL (iv_nle h_7) hv_3 (show IV 44 44 44 from (by decide)) (by decide)
    refine k_aload_n X dX11_copy_10 3 rfl ?_
    refine k_iload_n X dX11_copy_11 4 rfl ?_
    refine k_iload X dX11_copy_12 0 rfl ?_
    refine k_iadd X dX11_copy_14 ?_
    refine k_nm (fun z_12 ez_12 => ?_)
    have i_13 : z_12.toInt = 0 + u_2.toInt := in_add ez_12 (show IV 0 0 0 from (by decide)) iv_11 (by decide) (by decide)
    have iv_14 : IV z_12 0 43 := iz2 i_13 iv_11 (by decide) (by decide)
    refine k_aload_n X dX11_copy_15 1 rfl ?_
    refine k_iload_n X dX11_copy_16 2 rfl ?_
    refine k_iload X dX11_copy_17 0 rfl ?_
    refine k_iadd X dX11_copy_19 ?_
    refine k_nm (fun z_15 ez_15 => ?_)
    have i_16 : z_15.toInt = p1.toInt + u_2.toInt := in_add ez_15 hv_p1 iv_11 (by decide) (by decide)
    have iv_17 : IV z_15 0 131 := by have := hv_p1; have := iv_11; rw [IV, i_16]; omega
    refine k_iald X dX11_copy_20 0 rfl (iv_in iv_17 (by decide) (by decide)) ?_
    refine k_nm (fun z_18 ez_18 => ?_)
    refine k_iast [(cAI g fa 132 f1), (cAI g ta 44 (upd uf_1 (z_12 : Int32).toNatClampNeg z_18))] X dX11_copy_21 1 rfl (iv_in iv_14 (by decide) (by decide)) rfl ?_
    obtain ⟨z_20, ez_20⟩ : ∃ y : Int32, u_2 + Int32.ofInt 1 = y := ⟨_, rfl⟩
    refine k_iinc z_20 [(5, .int z_20), (0, .ref fa), (1, .int p1), (2, .ref ta), (3, .int 0), (4, .int 44)] 0 X dX11_copy_22 rfl ez_20 (by decide) rfl ?_
    have i_21 : z_20.toInt = u_2.toInt + 1 := in_inc ez_20 (by decide) iv_11 (by decide) (by decide)
    have iv_22 : IV z_20 1 44 := iz1 i_21 iv_11 (by decide) (by decide)
    refine k_goto 3 X dX11_copy_25 (by decide) ?_
    exact ih_6 _ (by omega) ((upd uf_1 (z_12 : Int32).toNatClampNeg z_18)) z_20 rfl (iv_w iv_22 (by decide) (by decide)) (fun f3 h => h.elim (fun n_0 q => (KH_0 _ ⟨n_0 + 1, (Or.inr ⟨h_7, ⟨z_12, ez_12, ⟨z_15, ez_15, ⟨z_18, ez_18, ⟨z_20, ez_20, q⟩⟩⟩⟩⟩)⟩)))


set_option maxHeartbeats 4000000 in
set_option maxRecDepth 100000 in
theorem m_noteX (l : Launch) (g : Gx) (h0 : Nat) (m_thrown : Int32) (a_tape : Nat) (m_taped : Int32) (m_size : Int32) (m_at : Int32) (m_end : Int32) (m_token : Int32) (m_whole : Int32) (m_nameSize : Int32) (m_fault : Int32) (m_place : Int32) (m_trouble : Int32) (a_letters : Nat) (m_failed : Int32) (m_hasHouse : Int32) (a_r : Nat) (a_fresh : Nat) (a_st : Nat) (a_undone : Nat) (a_kept : Nat) (m_undos : Int32) (m_images : Int32) (a_from : Nat) (a_begin : Nat) (a_motor : Nat) (a_change : Nat) (a_startFrame : Nat) (a_changeFrame : Nat) (a_lostAt : Nat) (a_blackAt : Nat) (a_slips : Nat) (a_leftArc : Nat) (a_died : Nat) (a_arcs : Nat) (m_bestSum : Int32) (m_nearest : Int32) (m_nearestTown : Int32) (a_there : Nat) (a_backAt : Nat) (a_sorted : Nat) (a_parts : Nat) (m_seed1 : Int32) (m_darkNow : Int32) (d_st : Nat → Int32) (d_undone : Nat → Int32) (hv_m_undos : IV m_undos 0 12) : cV l g yX11_note cX11_note 2 1 25 0 0 [.ref h0] [(cO11_i1r1i10r1i2r5i2r12i3r4i2 h0 m_thrown a_tape m_taped m_size m_at m_end m_token m_whole m_nameSize m_fault m_place m_trouble a_letters m_failed m_hasHouse a_r a_fresh a_st a_undone a_kept m_undos m_images a_from a_begin a_motor a_change a_startFrame a_changeFrame a_lostAt a_blackAt a_slips a_leftArc a_died a_arcs m_bestSum m_nearest m_nearestTown a_there a_backAt a_sorted a_parts m_seed1 m_darkNow), (cAI g a_st 44 d_st), (cAI g a_undone 528 d_undone)] (fun w => ∃ (d_undone2 : Nat → Int32) (m_undos2 : Int32), IV m_undos2 0 12 ∧ (R_m_noteX m_undos d_st d_undone d_undone2 m_undos2) ∧ w = [(cO11_i1r1i10r1i2r5i2r12i3r4i2 h0 m_thrown a_tape m_taped m_size m_at m_end m_token m_whole m_nameSize m_fault m_place m_trouble a_letters m_failed m_hasHouse a_r a_fresh a_st a_undone a_kept m_undos2 m_images a_from a_begin a_motor a_change a_startFrame a_changeFrame a_lostAt a_blackAt a_slips a_leftArc a_died a_arcs m_bestSum m_nearest m_nearestTown a_there a_backAt a_sorted a_parts m_seed1 m_darkNow), (cAI g a_st 44 d_st), (cAI g a_undone 528 d_undone2)]) := by
  refine cV.of (by decide) (Nat.le_of_ble_eq_true rfl) ?_
  intro p e s m args below meth c A X hr hi
  refine k_lveq [(0, .ref h0)] rfl ?_
  refine k_aload_n X dX11_note_0 0 rfl ?_
  refine k_get (ci := 11) X inlX11 rfl 20 (by decide) dX11_note_1 mw475 0 rfl rfl ?_
  refine k_bipush (v := 12) X dX11_note_4 (by decide) ?_
  refine k_ic_ne 49 X dX11_note_6 (by decide) (fun h_1 => ?_) (fun h_1 => ?_)
  · skip
    have iv_2 : IV m_undos 0 11 := iv_neH h_1 hv_m_undos (show IV 12 12 12 from (by decide)) (by decide)
    refine k_aload_n X dX11_note_49 0 rfl ?_
    refine k_get (ci := 11) X inlX11 rfl 17 (by decide) dX11_note_50 mw172 0 rfl rfl ?_
    refine k_iconst (v := 0) X dX11_note_53 (by decide) ?_
    refine k_aload_n X dX11_note_54 0 rfl ?_
    refine k_get (ci := 11) X inlX11 rfl 18 (by decide) dX11_note_55 mw173 0 rfl rfl ?_
    refine k_bipush (v := 44) X dX11_note_58 (by decide) ?_
    refine k_aload_n X dX11_note_60 0 rfl ?_
    refine k_get (ci := 11) X inlX11 rfl 20 (by decide) dX11_note_61 mw475 0 rfl rfl ?_
    refine k_imul X dX11_note_64 ?_
    refine k_nm (fun z_3 ez_3 => ?_)
    have i_4 : z_3.toInt = 44 * m_undos.toInt := in_mul ez_3 (by decide) (by decide) iv_2 (by decide) (by decide)
    have iv_5 : IV z_3 0 484 := iz4 i_4 iv_2 (by decide) (by decide) (by decide)
    refine k_bipush (v := 44) X dX11_note_65 (by decide) ?_
    refine k_callSV (n := 5) (As := [.ref a_st, .int 0, .ref a_undone, .int z_3, .int 44]) (st := []) X [(cAI g a_st 44 d_st), (cAI g a_undone 528 d_undone)] [(cO11_i1r1i10r1i2r5i2r12i3r4i2 h0 m_thrown a_tape m_taped m_size m_at m_end m_token m_whole m_nameSize m_fault m_place m_trouble a_letters m_failed m_hasHouse a_r a_fresh a_st a_undone a_kept m_undos m_images a_from a_begin a_motor a_change a_startFrame a_changeFrame a_lostAt a_blackAt a_slips a_leftArc a_died a_arcs m_bestSum m_nearest m_nearestTown a_there a_backAt a_sorted a_parts m_seed1 m_darkNow)] [1, 2] [0] (m_copyAX l g a_st a_undone z_3 d_st d_undone (iv_w iv_5 (by decide) (by decide))) dX11_note_67 mw619 mw620 mw5 mw621 yk_yX11_copy_5 rfl (Nat.le_of_ble_eq_true rfl) (Nat.le_of_ble_eq_true rfl) (Nat.le_of_ble_eq_true rfl) (Nat.le_of_ble_eq_true rfl) (Nat.le_of_ble_eq_true rfl) rfl rfl (by decide) rfl (by decide) (by decide) ?_
    rintro w ⟨f3_6, hq_8, rfl⟩
    refine k_ws [(cO11_i1r1i10r1i2r5i2r12i3r4i2 h0 m_thrown a_tape m_taped m_size m_at m_end m_token m_whole m_nameSize m_fault m_place m_trouble a_letters m_failed m_hasHouse a_r a_fresh a_st a_undone a_kept m_undos m_images a_from a_begin a_motor a_change a_startFrame a_changeFrame a_lostAt a_blackAt a_slips a_leftArc a_died a_arcs m_bestSum m_nearest m_nearestTown a_there a_backAt a_sorted a_parts m_seed1 m_darkNow), (cAI g a_st 44 d_st), (cAI g a_undone 528 f3_6)] rfl ?_
    refine k_aload_n X dX11_note_70 0 rfl ?_
    refine k_dup X dX11_note_71 rfl ?_
    refine k_get (ci := 11) X inlX11 rfl 20 (by decide) dX11_note_72 mw475 0 rfl rfl ?_
    refine k_iconst (v := 1) X dX11_note_75 (by decide) ?_
    refine k_iadd X dX11_note_76 ?_
    refine k_nm (fun z_9 ez_9 => ?_)
    have i_10 : z_9.toInt = m_undos.toInt + 1 := in_add ez_9 iv_2 (show IV 1 1 1 from (by decide)) (by decide) (by decide)
    have iv_11 : IV z_9 1 12 := iz1 i_10 iv_2 (by decide) (by decide)
    refine k_put (ci := 11) [(cO11_i1r1i10r1i2r5i2r12i3r4i2 h0 m_thrown a_tape m_taped m_size m_at m_end m_token m_whole m_nameSize m_fault m_place m_trouble a_letters m_failed m_hasHouse a_r a_fresh a_st a_undone a_kept z_9 m_images a_from a_begin a_motor a_change a_startFrame a_changeFrame a_lostAt a_blackAt a_slips a_leftArc a_died a_arcs m_bestSum m_nearest m_nearestTown a_there a_backAt a_sorted a_parts m_seed1 m_darkNow), (cAI g a_st 44 d_st), (cAI g a_undone 528 f3_6)] X inlX11 rfl tyX11_ok nmX11 20 (by decide) rfl dX11_note_77 mw475 0 rfl rfl rfl (Nat.le_of_ble_eq_true rfl) rfl ?_
    exact k_vret X hr dX11_note_80 (Nat.le_of_ble_eq_true rfl) (Nat.le_of_ble_eq_true rfl) [0, 1, 2] (by decide) rfl rfl ⟨f3_6, z_9, (iv_w iv_11 (by decide) (by decide)), (Or.inl ⟨h_1, ⟨z_3, ez_3, ⟨f3_6, hq_8, ⟨z_9, ez_9, ⟨rfl, rfl⟩⟩⟩⟩⟩), rfl⟩
  · skip
    have iv_12 : IV m_undos 12 12 := iv_meet hv_m_undos (iv_e h_1 (show IV 12 12 12 from (by decide))) (by decide) (by decide)
    refine k_iconst (v := 0) X dX11_note_9 (by decide) ?_
    refine k_istore_n [(1, .int 0), (0, .ref h0)] X dX11_note_10 (by decide) rfl ?_
    refine (fun hL : ∀ (nn_16 : Nat) (uf_13 : Nat → Int32) (u_14 : Int32), (484 - u_14.toInt).toNat = nn_16 → (IV u_14 0 900) → (∀ (d_undone2 : Nat → Int32) (m_undos2 : Int32), (∃ n_0 : Nat, R_m_noteX_L0 (fun (uf_13 : Nat → Int32) => ∃ z_22 : Int32, z_22 = m_undos - (1 : Int32) ∧ ∃ z_25 : Int32, z_25 = (44 : Int32) * z_22 ∧ ∃ f3_28 : Nat → Int32, (R_m_copyAX z_25 d_st uf_13 f3_28) ∧ ∃ z_31 : Int32, z_31 = z_22 + (1 : Int32) ∧ d_undone2 = f3_28 ∧ m_undos2 = z_31) n_0 uf_13 u_14) → R_m_noteX m_undos d_st d_undone d_undone2 m_undos2) → Wk p l e _ s m args below meth c _ A g _ _ _ [(cO11_i1r1i10r1i2r5i2r12i3r4i2 h0 m_thrown a_tape m_taped m_size m_at m_end m_token m_whole m_nameSize m_fault m_place m_trouble a_letters m_failed m_hasHouse a_r a_fresh a_st a_undone a_kept m_undos m_images a_from a_begin a_motor a_change a_startFrame a_changeFrame a_lostAt a_blackAt a_slips a_leftArc a_died a_arcs m_bestSum m_nearest m_nearestTown a_there a_backAt a_sorted a_parts m_seed1 m_darkNow), (cAI g a_st 44 d_st), (cAI g a_undone 528 uf_13)] [(1, .int u_14), (0, .ref h0)] 11 [] => hL _ d_undone 0 rfl (iv_w (show IV 0 0 0 from (by decide)) (by decide) (by decide)) (fun d_undone2 m_undos2 h => (Or.inr ⟨h_1, h⟩))) ?_
    refine fun nn_16 => Nat.strongRecOn nn_16 (fun nn_16 ih_18 => ?_)
    intro uf_13 u_14 hm_17 hv_15 KH_0
    refine k_iload_n X dX11_note_11 0 rfl ?_
    refine k_sipush (v := 484) X dX11_note_12 (by decide) ?_
    refine k_ic_ge 39 X dX11_note_15 (by decide) (fun h_19 => ?_) (fun h_19 => ?_)
    · skip
      have j_20 : 484 ≤ u_14.toInt := iv_le h_19
      have iv_21 : IV u_14 484 900 := iv_leR (iv_le h_19) (show IV 484 484 484 from (by decide)) hv_15 (by decide)
      refine k_aload_n X dX11_note_39 1 rfl ?_
      refine k_dup X dX11_note_40 rfl ?_
      refine k_get (ci := 11) X inlX11 rfl 20 (by decide) dX11_note_41 mw475 0 rfl rfl ?_
      refine k_iconst (v := 1) X dX11_note_44 (by decide) ?_
      refine k_isub X dX11_note_45 ?_
      refine k_nm (fun z_22 ez_22 => ?_)
      have i_23 : z_22.toInt = m_undos.toInt - 1 := in_sub ez_22 iv_12 (show IV 1 1 1 from (by decide)) (by decide) (by decide)
      have iv_24 : IV z_22 11 11 := iz5 i_23 iv_12 (by decide) (by decide)
      refine k_put (ci := 11) [(cO11_i1r1i10r1i2r5i2r12i3r4i2 h0 m_thrown a_tape m_taped m_size m_at m_end m_token m_whole m_nameSize m_fault m_place m_trouble a_letters m_failed m_hasHouse a_r a_fresh a_st a_undone a_kept z_22 m_images a_from a_begin a_motor a_change a_startFrame a_changeFrame a_lostAt a_blackAt a_slips a_leftArc a_died a_arcs m_bestSum m_nearest m_nearestTown a_there a_backAt a_sorted a_parts m_seed1 m_darkNow), (cAI g a_st 44 d_st), (cAI g a_undone 528 uf_13)] X inlX11 rfl tyX11_ok nmX11 20 (by decide) rfl dX11_note_46 mw475 0 rfl rfl rfl (Nat.le_of_ble_eq_true rfl) rfl ?_
      refine k_aload_n X dX11_note_49 1 rfl ?_
      refine k_get (ci := 11) X inlX11 rfl 17 (by decide) dX11_note_50 mw172 0 rfl rfl ?_
      refine k_iconst (v := 0) X dX11_note_53 (by decide) ?_
      refine k_aload_n X dX11_note_54 1 rfl ?_
      refine k_get (ci := 11) X inlX11 rfl 18 (by decide) dX11_note_55 mw173 0 rfl rfl ?_
      refine k_bipush (v := 44) X dX11_note_58 (by decide) ?_
      refine k_aload_n X dX11_note_60 1 rfl ?_
      refine k_get (ci := 11) X inlX11 rfl 20 (by decide) dX11_note_61 mw475 0 rfl rfl ?_
      refine k_imul X dX11_note_64 ?_
      refine k_nm (fun z_25 ez_25 => ?_)
      have i_26 : z_25.toInt = 44 * z_22.toInt := in_mul ez_25 (by decide) (by decide) iv_24 (by decide) (by decide)
      have iv_27 : IV z_25 484 484 := iz4 i_26 iv_24 (by decide) (by decide) (by decide)
      refine k_bipush (v := 44) X dX11_note_65 (by decide) ?_
      refine k_callSV (n := 5) (As := [.ref a_st, .int 0, .ref a_undone, .int z_25, .int 44]) (st := []) X [(cAI g a_st 44 d_st), (cAI g a_undone 528 uf_13)] [(cO11_i1r1i10r1i2r5i2r12i3r4i2 h0 m_thrown a_tape m_taped m_size m_at m_end m_token m_whole m_nameSize m_fault m_place m_trouble a_letters m_failed m_hasHouse a_r a_fresh a_st a_undone a_kept z_22 m_images a_from a_begin a_motor a_change a_startFrame a_changeFrame a_lostAt a_blackAt a_slips a_leftArc a_died a_arcs m_bestSum m_nearest m_nearestTown a_there a_backAt a_sorted a_parts m_seed1 m_darkNow)] [1, 2] [0] (m_copyAX l g a_st a_undone z_25 d_st uf_13 (iv_w iv_27 (by decide) (by decide))) dX11_note_67 mw619 mw620 mw5 mw621 yk_yX11_copy_5 rfl (Nat.le_of_ble_eq_true rfl) (Nat.le_of_ble_eq_true rfl) (Nat.le_of_ble_eq_true rfl) (Nat.le_of_ble_eq_true rfl) (Nat.le_of_ble_eq_true rfl) rfl rfl (by decide) rfl (by decide) (by decide) ?_
      rintro w ⟨f3_28, hq_30, rfl⟩
      refine k_ws [(cO11_i1r1i10r1i2r5i2r12i3r4i2 h0 m_thrown a_tape m_taped m_size m_at m_end m_token m_whole m_nameSize m_fault m_place m_trouble a_letters m_failed m_hasHouse a_r a_fresh a_st a_undone a_kept z_22 m_images a_from a_begin a_motor a_change a_startFrame a_changeFrame a_lostAt a_blackAt a_slips a_leftArc a_died a_arcs m_bestSum m_nearest m_nearestTown a_there a_backAt a_sorted a_parts m_seed1 m_darkNow), (cAI g a_st 44 d_st), (cAI g a_undone 528 f3_28)] rfl ?_
      refine k_aload_n X dX11_note_70 1 rfl ?_
      refine k_dup X dX11_note_71 rfl ?_
      refine k_get (ci := 11) X inlX11 rfl 20 (by decide) dX11_note_72 mw475 0 rfl rfl ?_
      refine k_iconst (v := 1) X dX11_note_75 (by decide) ?_
      refine k_iadd X dX11_note_76 ?_
      refine k_nm (fun z_31 ez_31 => ?_)
      have i_32 : z_31.toInt = z_22.toInt + 1 := in_add ez_31 iv_24 (show IV 1 1 1 from (by decide)) (by decide) (by decide)
      have iv_33 : IV z_31 12 12 := iz1 i_32 iv_24 (by decide) (by decide)
      refine k_put (ci := 11) [(cO11_i1r1i10r1i2r5i2r12i3r4i2 h0 m_thrown a_tape m_taped m_size m_at m_end m_token m_whole m_nameSize m_fault m_place m_trouble a_letters m_failed m_hasHouse a_r a_fresh a_st a_undone a_kept z_31 m_images a_from a_begin a_motor a_change a_startFrame a_changeFrame a_lostAt a_blackAt a_slips a_leftArc a_died a_arcs m_bestSum m_nearest m_nearestTown a_there a_backAt a_sorted a_parts m_seed1 m_darkNow), (cAI g a_st 44 d_st), (cAI g a_undone 528 f3_28)] X inlX11 rfl tyX11_ok nmX11 20 (by decide) rfl dX11_note_77 mw475 0 rfl rfl rfl (Nat.le_of_ble_eq_true rfl) rfl ?_
      exact k_vret X hr dX11_note_80 (Nat.le_of_ble_eq_true rfl) (Nat.le_of_ble_eq_true rfl) [0, 1, 2] (by decide) rfl rfl ⟨f3_28, z_31, (iv_w iv_33 (by decide) (by decide)), (KH_0 _ _ ⟨0 + 1, (Or.inl ⟨h_19, ⟨z_22, ez_22, ⟨z_25, ez_25, ⟨f3_28, hq_30, ⟨z_31, ez_31, ⟨rfl, rfl⟩⟩⟩⟩⟩⟩)⟩), rfl⟩
    · skip
      have j_34 : u_14.toInt < 484 := iv_nle h_19
      have iv_35 : IV u_14 0 483 := iv_ltL (iv_nle h_19) hv_15 (show IV 484 484 484 from (by decide)) (by decide)
      refine k_aload_n X dX11_note_18 1 rfl ?_
      refine k_get (ci := 11) X inlX11 rfl 18 (by decide) dX11_note_19 mw173 0 rfl rfl ?_
      refine k_iload_n X dX11_note_22 0 rfl ?_
      refine k_aload_n X dX11_note_23 1 rfl ?_
      refine k_get (ci := 11) X inlX11 rfl 18 (by decide) dX11_note_24 mw173 0 rfl rfl ?_
      refine k_iload_n X dX11_note_27 0 rfl ?_
      refine k_bipush (v := 44) X dX11_note_28 (by decide) ?_
      refine k_iadd X dX11_note_30 ?_
      refine k_nm (fun z_36 ez_36 => ?_)
      have i_37 : z_36.toInt = u_14.toInt + 44 := in_add ez_36 iv_35 (show IV 44 44 44 from (by decide)) (by decide) (by decide)
      have iv_38 : IV z_36 44 527 := iz1 i_37 iv_35 (by decide) (by decide)
      refine k_iald X dX11_note_31 2 rfl (iv_in iv_38 (by decide) (by decide)) ?_
      refine k_nm (fun z_39 ez_39 => ?_)
      refine k_iast [(cO11_i1r1i10r1i2r5i2r12i3r4i2 h0 m_thrown a_tape m_taped m_size m_at m_end m_token m_whole m_nameSize m_fault m_place m_trouble a_letters m_failed m_hasHouse a_r a_fresh a_st a_undone a_kept m_undos m_images a_from a_begin a_motor a_change a_startFrame a_changeFrame a_lostAt a_blackAt a_slips a_leftArc a_died a_arcs m_bestSum m_nearest m_nearestTown a_there a_backAt a_sorted a_parts m_seed1 m_darkNow), (cAI g a_st 44 d_st), (cAI g a_undone 528 (upd uf_13 (u_14 : Int32).toNatClampNeg z_39))] X dX11_note_32 2 rfl (iv_in iv_35 (by decide) (by decide)) rfl ?_
      obtain ⟨z_41, ez_41⟩ : ∃ y : Int32, u_14 + Int32.ofInt 1 = y := ⟨_, rfl⟩
      refine k_iinc z_41 [(1, .int z_41), (0, .ref h0)] 0 X dX11_note_33 rfl ez_41 (by decide) rfl ?_
      have i_42 : z_41.toInt = u_14.toInt + 1 := in_inc ez_41 (by decide) iv_35 (by decide) (by decide)
      have iv_43 : IV z_41 1 484 := iz1 i_42 iv_35 (by decide) (by decide)
      refine k_goto 11 X dX11_note_36 (by decide) ?_
      exact ih_18 _ (by omega) ((upd uf_13 (u_14 : Int32).toNatClampNeg z_39)) z_41 rfl (iv_w iv_43 (by decide) (by decide)) (fun d_undone2 m_undos2 h => h.elim (fun n_0 q => (KH_0 _ _ ⟨n_0 + 1, (Or.inr ⟨h_19, ⟨z_36, ez_36, ⟨z_39, ez_39, ⟨z_41, ez_41, q⟩⟩⟩⟩)⟩)))


set_option maxHeartbeats 4000000 in
set_option maxRecDepth 100000 in
theorem m_threadsX (l : Launch) (g : Gx) (h0 : Nat) (p0 : Int32) (p1 : Int32) (m_thrown : Int32) (a_tape : Nat) (m_taped : Int32) (m_size : Int32) (m_at : Int32) (m_end : Int32) (m_token : Int32) (m_whole : Int32) (m_nameSize : Int32) (m_fault : Int32) (m_place : Int32) (m_trouble : Int32) (a_letters : Nat) (m_failed : Int32) (m_hasHouse : Int32) (a_r : Nat) (a_fresh : Nat) (a_st : Nat) (a_undone : Nat) (a_kept : Nat) (m_undos : Int32) (m_images : Int32) (a_from : Nat) (a_begin : Nat) (a_motor : Nat) (a_change : Nat) (a_startFrame : Nat) (a_changeFrame : Nat) (a_lostAt : Nat) (a_blackAt : Nat) (a_slips : Nat) (a_leftArc : Nat) (a_died : Nat) (a_arcs : Nat) (m_bestSum : Int32) (m_nearest : Int32) (m_nearestTown : Int32) (a_there : Nat) (a_backAt : Nat) (a_sorted : Nat) (a_parts : Nat) (m_seed1 : Int32) (m_darkNow : Int32) (d_r : Nat → Int32) (d_st : Nat → Int32) (d_undone : Nat → Int32) (hv_m_hasHouse : IV m_hasHouse 0 1) (hv_m_undos : IV m_undos 0 12) (hp_d_r : RInv d_r) : cI l g yX11_threads cX11_threads 3 (some .boolean) 2 46 0 0 [.ref h0, .int p0, .int p1] [(cO11_i1r1i10r1i2r5i2r12i3r4i2 h0 m_thrown a_tape m_taped m_size m_at m_end m_token m_whole m_nameSize m_fault m_place m_trouble a_letters m_failed m_hasHouse a_r a_fresh a_st a_undone a_kept m_undos m_images a_from a_begin a_motor a_change a_startFrame a_changeFrame a_lostAt a_blackAt a_slips a_leftArc a_died a_arcs m_bestSum m_nearest m_nearestTown a_there a_backAt a_sorted a_parts m_seed1 m_darkNow), (cAI g a_r 311 d_r), (cAI g a_st 44 d_st), (cAI g a_undone 528 d_undone)] (fun r w => ∃ (d_st2 : Nat → Int32) (m_thrown2 : Int32) (m_trouble2 : Int32) (d_undone2 : Nat → Int32) (m_undos2 : Int32), IV m_undos2 0 12 ∧ IV r 0 1 ∧ (R_m_threadsX p0 p1 m_hasHouse m_undos d_r d_st d_undone d_st2 m_thrown2 m_trouble2 d_undone2 m_undos2 r) ∧ w = [(cO11_i1r1i10r1i2r5i2r12i3r4i2 h0 m_thrown2 a_tape m_taped m_size m_at m_end m_token m_whole m_nameSize m_fault m_place m_trouble2 a_letters m_failed m_hasHouse a_r a_fresh a_st a_undone a_kept m_undos2 m_images a_from a_begin a_motor a_change a_startFrame a_changeFrame a_lostAt a_blackAt a_slips a_leftArc a_died a_arcs m_bestSum m_nearest m_nearestTown a_there a_backAt a_sorted a_parts m_seed1 m_darkNow), (cAI g a_r 311 d_r), (cAI g a_st 44 d_st2), (cAI g a_undone 528 d_undone2)]) := by
  refine cI.of (by decide) (Nat.le_of_ble_eq_true rfl) ?_
  intro p e s m args below meth c A X hr hi
  refine k_lveq [(0, .ref h0), (1, .int p0), (2, .int p1)] rfl ?_
  refine k_aload_n X dX11_threads_0 0 rfl ?_
  refine k_callVV (n := 0) (As := []) (st := []) X [(cO11_i1r1i10r1i2r5i2r12i3r4i2 h0 m_thrown a_tape m_taped m_size m_at m_end m_token m_whole m_nameSize m_fault m_place m_trouble a_letters m_failed m_hasHouse a_r a_fresh a_st a_undone a_kept m_undos m_images a_from a_begin a_motor a_change a_startFrame a_changeFrame a_lostAt a_blackAt a_slips a_leftArc a_died a_arcs m_bestSum m_nearest m_nearestTown a_there a_backAt a_sorted a_parts m_seed1 m_darkNow)] [(cAI g a_r 311 d_r), (cAI g a_st 44 d_st), (cAI g a_undone 528 d_undone)] [0] [1, 2, 3] (m_goodX l g h0 m_thrown a_tape m_taped m_size m_at m_end m_token m_whole m_nameSize m_fault m_place m_trouble a_letters m_failed m_hasHouse a_r a_fresh a_st a_undone a_kept m_undos m_images a_from a_begin a_motor a_change a_startFrame a_changeFrame a_lostAt a_blackAt a_slips a_leftArc a_died a_arcs m_bestSum m_nearest m_nearestTown a_there a_backAt a_sorted a_parts m_seed1 m_darkNow) dX11_threads_1 mw477 mw478 mw479 mw5 mw480 rfl 11 rfl rfl 0 _ rfl yk_yX11_good_0 rfl (Nat.le_of_ble_eq_true rfl) (Nat.le_of_ble_eq_true rfl) (Nat.le_of_ble_eq_true rfl) (Nat.le_of_ble_eq_true rfl) (Nat.le_of_ble_eq_true rfl) rfl rfl (by decide) rfl (by decide) (by decide) ?_
  rintro w ⟨m_thrown2_1, m_trouble2_2, hq_4, rfl⟩
  refine k_ws [(cAI g a_r 311 d_r), (cAI g a_st 44 d_st), (cAI g a_undone 528 d_undone), (cO11_i1r1i10r1i2r5i2r12i3r4i2 h0 m_thrown2_1 a_tape m_taped m_size m_at m_end m_token m_whole m_nameSize m_fault m_place m_trouble2_2 a_letters m_failed m_hasHouse a_r a_fresh a_st a_undone a_kept m_undos m_images a_from a_begin a_motor a_change a_startFrame a_changeFrame a_lostAt a_blackAt a_slips a_leftArc a_died a_arcs m_bestSum m_nearest m_nearestTown a_there a_backAt a_sorted a_parts m_seed1 m_darkNow)] rfl ?_
  refine k_aload_n X dX11_threads_4 0 rfl ?_
  refine k_iload_n X dX11_threads_5 1 rfl ?_
  refine k_callVI (n := 1) (As := [.int p0]) (st := []) X [(cO11_i1r1i10r1i2r5i2r12i3r4i2 h0 m_thrown2_1 a_tape m_taped m_size m_at m_end m_token m_whole m_nameSize m_fault m_place m_trouble2_2 a_letters m_failed m_hasHouse a_r a_fresh a_st a_undone a_kept m_undos m_images a_from a_begin a_motor a_change a_startFrame a_changeFrame a_lostAt a_blackAt a_slips a_leftArc a_died a_arcs m_bestSum m_nearest m_nearestTown a_there a_backAt a_sorted a_parts m_seed1 m_darkNow), (cAI g a_r 311 d_r)] [(cAI g a_st 44 d_st), (cAI g a_undone 528 d_undone)] [3, 0] [1, 2] (m_isPlaceX l g h0 p0 m_thrown2_1 a_tape m_taped m_size m_at m_end m_token m_whole m_nameSize m_fault m_place m_trouble2_2 a_letters m_failed m_hasHouse a_r a_fresh a_st a_undone a_kept m_undos m_images a_from a_begin a_motor a_change a_startFrame a_changeFrame a_lostAt a_blackAt a_slips a_leftArc a_died a_arcs m_bestSum m_nearest m_nearestTown a_there a_backAt a_sorted a_parts m_seed1 m_darkNow d_r (iv_w hv_m_hasHouse (by decide) (by decide)) hp_d_r) dX11_threads_6 mw719 mw720 mw721 mw5 mw722 rfl 11 rfl rfl 0 _ rfl yk_yX11_isPlace_1 rfl (Nat.le_of_ble_eq_true rfl) (Nat.le_of_ble_eq_true rfl) (Nat.le_of_ble_eq_true rfl) (Nat.le_of_ble_eq_true rfl) (Nat.le_of_ble_eq_true rfl) rfl rfl (by decide) rfl (by decide) (by decide) ?_
  rintro r_5 w ⟨iv_6, hq_7, hk_8, rfl⟩
  refine k_ws [(cAI g a_st 44 d_st), (cAI g a_undone 528 d_undone), (cO11_i1r1i10r1i2r5i2r12i3r4i2 h0 m_thrown2_1 a_tape m_taped m_size m_at m_end m_token m_whole m_nameSize m_fault m_place m_trouble2_2 a_letters m_failed m_hasHouse a_r a_fresh a_st a_undone a_kept m_undos m_images a_from a_begin a_motor a_change a_startFrame a_changeFrame a_lostAt a_blackAt a_slips a_leftArc a_died a_arcs m_bestSum m_nearest m_nearestTown a_there a_backAt a_sorted a_parts m_seed1 m_darkNow), (cAI g a_r 311 d_r)] rfl ?_
  refine k_if_ne 18 X dX11_threads_9 (by decide) (fun h_9 => ?_) (fun h_9 => ?_)
  · skip
    have hc_10 := hk_8.resolve_left h_9
    have iv_11 : IV p0 0 7 := iv_meet (iv_any p0) hc_10.1 (by decide) (by decide)
    have j_12 : p0.toInt < (d_r 12).toInt := hc_10.2
    have iv_13 : IV r_5 1 1 := iv_neL h_9 iv_6 (show IV 0 0 0 from (by decide)) (by decide)
    refine k_iload_n X dX11_threads_18 2 rfl ?_
    refine k_iconst (v := 0) X dX11_threads_19 (by decide) ?_
    refine k_sipush (v := 199) X dX11_threads_20 (by decide) ?_
    refine k_callSI (n := 3) (As := [.int p1, .int 0, .int 199]) (st := []) X [] [(cAI g a_st 44 d_st), (cAI g a_undone 528 d_undone), (cO11_i1r1i10r1i2r5i2r12i3r4i2 h0 m_thrown2_1 a_tape m_taped m_size m_at m_end m_token m_whole m_nameSize m_fault m_place m_trouble2_2 a_letters m_failed m_hasHouse a_r a_fresh a_st a_undone a_kept m_undos m_images a_from a_begin a_motor a_change a_startFrame a_changeFrame a_lostAt a_blackAt a_slips a_leftArc a_died a_arcs m_bestSum m_nearest m_nearestTown a_there a_backAt a_sorted a_parts m_seed1 m_darkNow), (cAI g a_r 311 d_r)] [] [0, 1, 2, 3] (m_inX l g p1 0 199) dX11_threads_23 mw482 mw483 mw5 mw484 yk_yX11_in_3 rfl (Nat.le_of_ble_eq_true rfl) (Nat.le_of_ble_eq_true rfl) (Nat.le_of_ble_eq_true rfl) (Nat.le_of_ble_eq_true rfl) (Nat.le_of_ble_eq_true rfl) rfl rfl (by decide) rfl (by decide) (by decide) ?_
    rintro r_14 w ⟨iv_15, hq_16, hk_17, hk_18, rfl⟩
    refine k_ws [(cAI g a_st 44 d_st), (cAI g a_undone 528 d_undone), (cO11_i1r1i10r1i2r5i2r12i3r4i2 h0 m_thrown2_1 a_tape m_taped m_size m_at m_end m_token m_whole m_nameSize m_fault m_place m_trouble2_2 a_letters m_failed m_hasHouse a_r a_fresh a_st a_undone a_kept m_undos m_images a_from a_begin a_motor a_change a_startFrame a_changeFrame a_lostAt a_blackAt a_slips a_leftArc a_died a_arcs m_bestSum m_nearest m_nearestTown a_there a_backAt a_sorted a_parts m_seed1 m_darkNow), (cAI g a_r 311 d_r)] rfl ?_
    refine k_if_ne 35 X dX11_threads_26 (by decide) (fun h_19 => ?_) (fun h_19 => ?_)
    · skip
      have hc_20 := hk_17.resolve_left h_19
      have j_21 : 0 ≤ p1.toInt := hc_20.1
      have iv_22 : IV p1 0 2147483647 := iv_leR hc_20.1 (show IV 0 0 0 from (by decide)) (iv_any p1) (by decide)
      have j_23 : p1.toInt ≤ 199 := hc_20.2
      have iv_24 : IV p1 0 199 := iv_leL hc_20.2 iv_22 (show IV 199 199 199 from (by decide)) (by decide)
      have iv_25 : IV r_14 1 1 := iv_neL h_19 iv_15 (show IV 0 0 0 from (by decide)) (by decide)
      refine k_aload_n X dX11_threads_35 0 rfl ?_
      refine k_get (ci := 11) X inlX11 rfl 17 (by decide) dX11_threads_36 mw172 2 rfl rfl ?_
      refine k_bipush (v := 34) X dX11_threads_39 (by decide) ?_
      refine k_iload_n X dX11_threads_41 1 rfl ?_
      refine k_iadd X dX11_threads_42 ?_
      refine k_nm (fun z_26 ez_26 => ?_)
      have i_27 : z_26.toInt = 34 + p0.toInt := in_add ez_26 (show IV 34 34 34 from (by decide)) iv_11 (by decide) (by decide)
      have iv_28 : IV z_26 34 41 := iz2 i_27 iv_11 (by decide) (by decide)
      refine k_iald X dX11_threads_43 0 rfl (iv_in iv_28 (by decide) (by decide)) ?_
      refine k_nm (fun z_29 ez_29 => ?_)
      refine k_iload_n X dX11_threads_44 2 rfl ?_
      refine k_ic_ne 54 X dX11_threads_45 (by decide) (fun h_30 => ?_) (fun h_30 => ?_)
      · skip
        refine k_aload_n X dX11_threads_54 0 rfl ?_
        refine k_callVV (n := 0) (As := []) (st := []) X [(cO11_i1r1i10r1i2r5i2r12i3r4i2 h0 m_thrown2_1 a_tape m_taped m_size m_at m_end m_token m_whole m_nameSize m_fault m_place m_trouble2_2 a_letters m_failed m_hasHouse a_r a_fresh a_st a_undone a_kept m_undos m_images a_from a_begin a_motor a_change a_startFrame a_changeFrame a_lostAt a_blackAt a_slips a_leftArc a_died a_arcs m_bestSum m_nearest m_nearestTown a_there a_backAt a_sorted a_parts m_seed1 m_darkNow), (cAI g a_st 44 d_st), (cAI g a_undone 528 d_undone)] [(cAI g a_r 311 d_r)] [2, 0, 1] [3] (m_noteX l g h0 m_thrown2_1 a_tape m_taped m_size m_at m_end m_token m_whole m_nameSize m_fault m_place m_trouble2_2 a_letters m_failed m_hasHouse a_r a_fresh a_st a_undone a_kept m_undos m_images a_from a_begin a_motor a_change a_startFrame a_changeFrame a_lostAt a_blackAt a_slips a_leftArc a_died a_arcs m_bestSum m_nearest m_nearestTown a_there a_backAt a_sorted a_parts m_seed1 m_darkNow d_st d_undone (iv_w hv_m_undos (by decide) (by decide))) dX11_threads_55 mw1475 mw1476 mw1477 mw5 mw1478 rfl 11 rfl rfl 0 _ rfl yk_yX11_note_0 rfl (Nat.le_of_ble_eq_true rfl) (Nat.le_of_ble_eq_true rfl) (Nat.le_of_ble_eq_true rfl) (Nat.le_of_ble_eq_true rfl) (Nat.le_of_ble_eq_true rfl) rfl rfl (by decide) rfl (by decide) (by decide) ?_
        rintro w ⟨d_undone2_31, m_undos2_32, iv_34, hq_35, rfl⟩
        refine k_ws [(cAI g a_r 311 d_r), (cO11_i1r1i10r1i2r5i2r12i3r4i2 h0 m_thrown2_1 a_tape m_taped m_size m_at m_end m_token m_whole m_nameSize m_fault m_place m_trouble2_2 a_letters m_failed m_hasHouse a_r a_fresh a_st a_undone a_kept m_undos2_32 m_images a_from a_begin a_motor a_change a_startFrame a_changeFrame a_lostAt a_blackAt a_slips a_leftArc a_died a_arcs m_bestSum m_nearest m_nearestTown a_there a_backAt a_sorted a_parts m_seed1 m_darkNow), (cAI g a_st 44 d_st), (cAI g a_undone 528 d_undone2_31)] rfl ?_
        refine k_aload_n X dX11_threads_58 0 rfl ?_
        refine k_get (ci := 11) X inlX11 rfl 17 (by decide) dX11_threads_59 mw172 1 rfl rfl ?_
        refine k_bipush (v := 34) X dX11_threads_62 (by decide) ?_
        refine k_iload_n X dX11_threads_64 1 rfl ?_
        refine k_iadd X dX11_threads_65 ?_
        refine k_to z_26 ez_26.symm ?_
        refine k_iload_n X dX11_threads_66 2 rfl ?_
        refine k_iast [(cAI g a_r 311 d_r), (cO11_i1r1i10r1i2r5i2r12i3r4i2 h0 m_thrown2_1 a_tape m_taped m_size m_at m_end m_token m_whole m_nameSize m_fault m_place m_trouble2_2 a_letters m_failed m_hasHouse a_r a_fresh a_st a_undone a_kept m_undos2_32 m_images a_from a_begin a_motor a_change a_startFrame a_changeFrame a_lostAt a_blackAt a_slips a_leftArc a_died a_arcs m_bestSum m_nearest m_nearestTown a_there a_backAt a_sorted a_parts m_seed1 m_darkNow), (cAI g a_st 44 (upd d_st (z_26 : Int32).toNatClampNeg p1)), (cAI g a_undone 528 d_undone2_31)] X dX11_threads_67 2 rfl (iv_in iv_28 (by decide) (by decide)) rfl ?_
        refine k_iconst (v := 1) X dX11_threads_68 (by decide) ?_
        exact k_zret X hr (by first | rfl | decide) dX11_threads_69 (Nat.le_of_ble_eq_true rfl) (Nat.le_of_ble_eq_true rfl) [1, 0, 2, 3] (by decide) rfl rfl ⟨(upd d_st (z_26 : Int32).toNatClampNeg p1), m_thrown2_1, m_trouble2_2, d_undone2_31, m_undos2_32, (iv_w iv_34 (by decide) (by decide)), (iv_w (show IV 1 1 1 from (by decide)) (by decide) (by decide)), ⟨m_thrown2_1, m_trouble2_2, hq_4, ⟨r_5, hq_7, (Or.inl ⟨h_9, ⟨r_14, hq_16, (Or.inl ⟨h_19, ⟨z_26, ez_26, ⟨z_29, ez_29, (Or.inl ⟨h_30, ⟨d_undone2_31, m_undos2_32, hq_35, ⟨rfl, rfl, rfl, rfl, rfl, rfl⟩⟩⟩)⟩⟩⟩)⟩⟩)⟩⟩, rfl⟩
      · skip
        have iv_37 : IV z_29 0 199 := iv_meet (iv_any z_29) (iv_e h_30 iv_24) (by decide) (by decide)
        refine k_aload_n X dX11_threads_48 0 rfl ?_
        refine k_iconst (v := 5) X dX11_threads_49 (by decide) ?_
        refine k_callVI (n := 1) (As := [.int 5]) (st := []) X [(cO11_i1r1i10r1i2r5i2r12i3r4i2 h0 m_thrown2_1 a_tape m_taped m_size m_at m_end m_token m_whole m_nameSize m_fault m_place m_trouble2_2 a_letters m_failed m_hasHouse a_r a_fresh a_st a_undone a_kept m_undos m_images a_from a_begin a_motor a_change a_startFrame a_changeFrame a_lostAt a_blackAt a_slips a_leftArc a_died a_arcs m_bestSum m_nearest m_nearestTown a_there a_backAt a_sorted a_parts m_seed1 m_darkNow)] [(cAI g a_st 44 d_st), (cAI g a_undone 528 d_undone), (cAI g a_r 311 d_r)] [2] [0, 1, 3] (m_isNotX l g h0 5 m_thrown2_1 a_tape m_taped m_size m_at m_end m_token m_whole m_nameSize m_fault m_place m_trouble2_2 a_letters m_failed m_hasHouse a_r a_fresh a_st a_undone a_kept m_undos m_images a_from a_begin a_motor a_change a_startFrame a_changeFrame a_lostAt a_blackAt a_slips a_leftArc a_died a_arcs m_bestSum m_nearest m_nearestTown a_there a_backAt a_sorted a_parts m_seed1 m_darkNow) dX11_threads_50 mw1471 mw1472 mw1473 mw5 mw1474 rfl 11 rfl rfl 0 _ rfl yk_yX11_isNot_1 rfl (Nat.le_of_ble_eq_true rfl) (Nat.le_of_ble_eq_true rfl) (Nat.le_of_ble_eq_true rfl) (Nat.le_of_ble_eq_true rfl) (Nat.le_of_ble_eq_true rfl) rfl rfl (by decide) rfl (by decide) (by decide) ?_
        rintro r_39 w ⟨m_trouble2_38, iv_40, hq_41, rfl⟩
        refine k_ws [(cAI g a_st 44 d_st), (cAI g a_undone 528 d_undone), (cAI g a_r 311 d_r), (cO11_i1r1i10r1i2r5i2r12i3r4i2 h0 m_thrown2_1 a_tape m_taped m_size m_at m_end m_token m_whole m_nameSize m_fault m_place m_trouble2_38 a_letters m_failed m_hasHouse a_r a_fresh a_st a_undone a_kept m_undos m_images a_from a_begin a_motor a_change a_startFrame a_changeFrame a_lostAt a_blackAt a_slips a_leftArc a_died a_arcs m_bestSum m_nearest m_nearestTown a_there a_backAt a_sorted a_parts m_seed1 m_darkNow)] rfl ?_
        exact k_zret X hr (zn_b (iv_w iv_40 (by decide) (by decide))) dX11_threads_53 (Nat.le_of_ble_eq_true rfl) (Nat.le_of_ble_eq_true rfl) [3, 2, 0, 1] (by decide) rfl rfl ⟨d_st, m_thrown2_1, m_trouble2_38, d_undone, m_undos, (iv_w hv_m_undos (by decide) (by decide)), (iv_w iv_40 (by decide) (by decide)), ⟨m_thrown2_1, m_trouble2_2, hq_4, ⟨r_5, hq_7, (Or.inl ⟨h_9, ⟨r_14, hq_16, (Or.inl ⟨h_19, ⟨z_26, ez_26, ⟨z_29, ez_29, (Or.inr ⟨h_30, ⟨m_trouble2_38, r_39, hq_41, ⟨rfl, rfl, rfl, rfl, rfl, rfl⟩⟩⟩)⟩⟩⟩)⟩⟩)⟩⟩, rfl⟩
    · skip
      have iv_42 : IV r_14 0 0 := iv_meet iv_15 (iv_e h_19 (show IV 0 0 0 from (by decide))) (by decide) (by decide)
      have hc_43 := hk_18 (iv_eq iv_42 (show IV 0 0 0 from (by decide)))
      have j_44 : p1.toInt < 0 ∨ 199 < p1.toInt := hc_43
      refine k_aload_n X dX11_threads_29 0 rfl ?_
      refine k_iconst (v := 2) X dX11_threads_30 (by decide) ?_
      refine k_callVI (n := 1) (As := [.int 2]) (st := []) X [(cO11_i1r1i10r1i2r5i2r12i3r4i2 h0 m_thrown2_1 a_tape m_taped m_size m_at m_end m_token m_whole m_nameSize m_fault m_place m_trouble2_2 a_letters m_failed m_hasHouse a_r a_fresh a_st a_undone a_kept m_undos m_images a_from a_begin a_motor a_change a_startFrame a_changeFrame a_lostAt a_blackAt a_slips a_leftArc a_died a_arcs m_bestSum m_nearest m_nearestTown a_there a_backAt a_sorted a_parts m_seed1 m_darkNow)] [(cAI g a_st 44 d_st), (cAI g a_undone 528 d_undone), (cAI g a_r 311 d_r)] [2] [0, 1, 3] (m_isNotX l g h0 2 m_thrown2_1 a_tape m_taped m_size m_at m_end m_token m_whole m_nameSize m_fault m_place m_trouble2_2 a_letters m_failed m_hasHouse a_r a_fresh a_st a_undone a_kept m_undos m_images a_from a_begin a_motor a_change a_startFrame a_changeFrame a_lostAt a_blackAt a_slips a_leftArc a_died a_arcs m_bestSum m_nearest m_nearestTown a_there a_backAt a_sorted a_parts m_seed1 m_darkNow) dX11_threads_31 mw1471 mw1472 mw1473 mw5 mw1474 rfl 11 rfl rfl 0 _ rfl yk_yX11_isNot_1 rfl (Nat.le_of_ble_eq_true rfl) (Nat.le_of_ble_eq_true rfl) (Nat.le_of_ble_eq_true rfl) (Nat.le_of_ble_eq_true rfl) (Nat.le_of_ble_eq_true rfl) rfl rfl (by decide) rfl (by decide) (by decide) ?_
      rintro r_46 w ⟨m_trouble2_45, iv_47, hq_48, rfl⟩
      refine k_ws [(cAI g a_st 44 d_st), (cAI g a_undone 528 d_undone), (cAI g a_r 311 d_r), (cO11_i1r1i10r1i2r5i2r12i3r4i2 h0 m_thrown2_1 a_tape m_taped m_size m_at m_end m_token m_whole m_nameSize m_fault m_place m_trouble2_45 a_letters m_failed m_hasHouse a_r a_fresh a_st a_undone a_kept m_undos m_images a_from a_begin a_motor a_change a_startFrame a_changeFrame a_lostAt a_blackAt a_slips a_leftArc a_died a_arcs m_bestSum m_nearest m_nearestTown a_there a_backAt a_sorted a_parts m_seed1 m_darkNow)] rfl ?_
      exact k_zret X hr (zn_b (iv_w iv_47 (by decide) (by decide))) dX11_threads_34 (Nat.le_of_ble_eq_true rfl) (Nat.le_of_ble_eq_true rfl) [3, 2, 0, 1] (by decide) rfl rfl ⟨d_st, m_thrown2_1, m_trouble2_45, d_undone, m_undos, (iv_w hv_m_undos (by decide) (by decide)), (iv_w iv_47 (by decide) (by decide)), ⟨m_thrown2_1, m_trouble2_2, hq_4, ⟨r_5, hq_7, (Or.inl ⟨h_9, ⟨r_14, hq_16, (Or.inr ⟨h_19, ⟨m_trouble2_45, r_46, hq_48, ⟨rfl, rfl, rfl, rfl, rfl, rfl⟩⟩⟩)⟩⟩)⟩⟩, rfl⟩
  · skip
    have iv_49 : IV r_5 0 0 := iv_meet iv_6 (iv_e h_9 (show IV 0 0 0 from (by decide))) (by decide) (by decide)
    refine k_aload_n X dX11_threads_12 0 rfl ?_
    refine k_iconst (v := 1) X dX11_threads_13 (by decide) ?_
    refine k_callVI (n := 1) (As := [.int 1]) (st := []) X [(cO11_i1r1i10r1i2r5i2r12i3r4i2 h0 m_thrown2_1 a_tape m_taped m_size m_at m_end m_token m_whole m_nameSize m_fault m_place m_trouble2_2 a_letters m_failed m_hasHouse a_r a_fresh a_st a_undone a_kept m_undos m_images a_from a_begin a_motor a_change a_startFrame a_changeFrame a_lostAt a_blackAt a_slips a_leftArc a_died a_arcs m_bestSum m_nearest m_nearestTown a_there a_backAt a_sorted a_parts m_seed1 m_darkNow)] [(cAI g a_st 44 d_st), (cAI g a_undone 528 d_undone), (cAI g a_r 311 d_r)] [2] [0, 1, 3] (m_isNotX l g h0 1 m_thrown2_1 a_tape m_taped m_size m_at m_end m_token m_whole m_nameSize m_fault m_place m_trouble2_2 a_letters m_failed m_hasHouse a_r a_fresh a_st a_undone a_kept m_undos m_images a_from a_begin a_motor a_change a_startFrame a_changeFrame a_lostAt a_blackAt a_slips a_leftArc a_died a_arcs m_bestSum m_nearest m_nearestTown a_there a_backAt a_sorted a_parts m_seed1 m_darkNow) dX11_threads_14 mw1471 mw1472 mw1473 mw5 mw1474 rfl 11 rfl rfl 0 _ rfl yk_yX11_isNot_1 rfl (Nat.le_of_ble_eq_true rfl) (Nat.le_of_ble_eq_true rfl) (Nat.le_of_ble_eq_true rfl) (Nat.le_of_ble_eq_true rfl) (Nat.le_of_ble_eq_true rfl) rfl rfl (by decide) rfl (by decide) (by decide) ?_
    rintro r_51 w ⟨m_trouble2_50, iv_52, hq_53, rfl⟩
    refine k_ws [(cAI g a_st 44 d_st), (cAI g a_undone 528 d_undone), (cAI g a_r 311 d_r), (cO11_i1r1i10r1i2r5i2r12i3r4i2 h0 m_thrown2_1 a_tape m_taped m_size m_at m_end m_token m_whole m_nameSize m_fault m_place m_trouble2_50 a_letters m_failed m_hasHouse a_r a_fresh a_st a_undone a_kept m_undos m_images a_from a_begin a_motor a_change a_startFrame a_changeFrame a_lostAt a_blackAt a_slips a_leftArc a_died a_arcs m_bestSum m_nearest m_nearestTown a_there a_backAt a_sorted a_parts m_seed1 m_darkNow)] rfl ?_
    exact k_zret X hr (zn_b (iv_w iv_52 (by decide) (by decide))) dX11_threads_17 (Nat.le_of_ble_eq_true rfl) (Nat.le_of_ble_eq_true rfl) [3, 2, 0, 1] (by decide) rfl rfl ⟨d_st, m_thrown2_1, m_trouble2_50, d_undone, m_undos, (iv_w hv_m_undos (by decide) (by decide)), (iv_w iv_52 (by decide) (by decide)), ⟨m_thrown2_1, m_trouble2_2, hq_4, ⟨r_5, hq_7, (Or.inr ⟨h_9, ⟨m_trouble2_50, r_51, hq_53, ⟨rfl, rfl, rfl, rfl, rfl, rfl⟩⟩⟩)⟩⟩, rfl⟩


set_option maxHeartbeats 4000000 in
set_option maxRecDepth 100000 in
theorem m_trimX (l : Launch) (g : Gx) (h0 : Nat) (p0 : Int32) (p1 : Int32) (m_thrown : Int32) (a_tape : Nat) (m_taped : Int32) (m_size : Int32) (m_at : Int32) (m_end : Int32) (m_token : Int32) (m_whole : Int32) (m_nameSize : Int32) (m_fault : Int32) (m_place : Int32) (m_trouble : Int32) (a_letters : Nat) (m_failed : Int32) (m_hasHouse : Int32) (a_r : Nat) (a_fresh : Nat) (a_st : Nat) (a_undone : Nat) (a_kept : Nat) (m_undos : Int32) (m_images : Int32) (a_from : Nat) (a_begin : Nat) (a_motor : Nat) (a_change : Nat) (a_startFrame : Nat) (a_changeFrame : Nat) (a_lostAt : Nat) (a_blackAt : Nat) (a_slips : Nat) (a_leftArc : Nat) (a_died : Nat) (a_arcs : Nat) (m_bestSum : Int32) (m_nearest : Int32) (m_nearestTown : Int32) (a_there : Nat) (a_backAt : Nat) (a_sorted : Nat) (a_parts : Nat) (m_seed1 : Int32) (m_darkNow : Int32) (d_r : Nat → Int32) (d_st : Nat → Int32) (d_undone : Nat → Int32) (hv_m_hasHouse : IV m_hasHouse 0 1) (hv_m_undos : IV m_undos 0 12) (hp_d_r : RInv d_r) : cI l g yX11_trim cX11_trim 3 (some .boolean) 2 46 0 0 [.ref h0, .int p0, .int p1] [(cO11_i1r1i10r1i2r5i2r12i3r4i2 h0 m_thrown a_tape m_taped m_size m_at m_end m_token m_whole m_nameSize m_fault m_place m_trouble a_letters m_failed m_hasHouse a_r a_fresh a_st a_undone a_kept m_undos m_images a_from a_begin a_motor a_change a_startFrame a_changeFrame a_lostAt a_blackAt a_slips a_leftArc a_died a_arcs m_bestSum m_nearest m_nearestTown a_there a_backAt a_sorted a_parts m_seed1 m_darkNow), (cAI g a_r 311 d_r), (cAI g a_st 44 d_st), (cAI g a_undone 528 d_undone)] (fun r w => ∃ (d_st2 : Nat → Int32) (m_thrown2 : Int32) (m_trouble2 : Int32) (d_undone2 : Nat → Int32) (m_undos2 : Int32), IV m_undos2 0 12 ∧ IV r 0 1 ∧ (R_m_trimX p0 p1 m_hasHouse m_undos d_r d_st d_undone d_st2 m_thrown2 m_trouble2 d_undone2 m_undos2 r) ∧ w = [(cO11_i1r1i10r1i2r5i2r12i3r4i2 h0 m_thrown2 a_tape m_taped m_size m_at m_end m_token m_whole m_nameSize m_fault m_place m_trouble2 a_letters m_failed m_hasHouse a_r a_fresh a_st a_undone a_kept m_undos2 m_images a_from a_begin a_motor a_change a_startFrame a_changeFrame a_lostAt a_blackAt a_slips a_leftArc a_died a_arcs m_bestSum m_nearest m_nearestTown a_there a_backAt a_sorted a_parts m_seed1 m_darkNow), (cAI g a_r 311 d_r), (cAI g a_st 44 d_st2), (cAI g a_undone 528 d_undone2)]) := by
  refine cI.of (by decide) (Nat.le_of_ble_eq_true rfl) ?_
  intro p e s m args below meth c A X hr hi
  refine k_lveq [(0, .ref h0), (1, .int p0), (2, .int p1)] rfl ?_
  refine k_aload_n X dX11_trim_0 0 rfl ?_
  refine k_callVV (n := 0) (As := []) (st := []) X [(cO11_i1r1i10r1i2r5i2r12i3r4i2 h0 m_thrown a_tape m_taped m_size m_at m_end m_token m_whole m_nameSize m_fault m_place m_trouble a_letters m_failed m_hasHouse a_r a_fresh a_st a_undone a_kept m_undos m_images a_from a_begin a_motor a_change a_startFrame a_changeFrame a_lostAt a_blackAt a_slips a_leftArc a_died a_arcs m_bestSum m_nearest m_nearestTown a_there a_backAt a_sorted a_parts m_seed1 m_darkNow)] [(cAI g a_r 311 d_r), (cAI g a_st 44 d_st), (cAI g a_undone 528 d_undone)] [0] [1, 2, 3] (m_goodX l g h0 m_thrown a_tape m_taped m_size m_at m_end m_token m_whole m_nameSize m_fault m_place m_trouble a_letters m_failed m_hasHouse a_r a_fresh a_st a_undone a_kept m_undos m_images a_from a_begin a_motor a_change a_startFrame a_changeFrame a_lostAt a_blackAt a_slips a_leftArc a_died a_arcs m_bestSum m_nearest m_nearestTown a_there a_backAt a_sorted a_parts m_seed1 m_darkNow) dX11_trim_1 mw477 mw478 mw479 mw5 mw480 rfl 11 rfl rfl 0 _ rfl yk_yX11_good_0 rfl (Nat.le_of_ble_eq_true rfl) (Nat.le_of_ble_eq_true rfl) (Nat.le_of_ble_eq_true rfl) (Nat.le_of_ble_eq_true rfl) (Nat.le_of_ble_eq_true rfl) rfl rfl (by decide) rfl (by decide) (by decide) ?_
  rintro w ⟨m_thrown2_1, m_trouble2_2, hq_4, rfl⟩
  refine k_ws [(cAI g a_r 311 d_r), (cAI g a_st 44 d_st), (cAI g a_undone 528 d_undone), (cO11_i1r1i10r1i2r5i2r12i3r4i2 h0 m_thrown2_1 a_tape m_taped m_size m_at m_end m_token m_whole m_nameSize m_fault m_place m_trouble2_2 a_letters m_failed m_hasHouse a_r a_fresh a_st a_undone a_kept m_undos m_images a_from a_begin a_motor a_change a_startFrame a_changeFrame a_lostAt a_blackAt a_slips a_leftArc a_died a_arcs m_bestSum m_nearest m_nearestTown a_there a_backAt a_sorted a_parts m_seed1 m_darkNow)] rfl ?_
  refine k_aload_n X dX11_trim_4 0 rfl ?_
  refine k_iload_n X dX11_trim_5 1 rfl ?_
  refine k_callVI (n := 1) (As := [.int p0]) (st := []) X [(cO11_i1r1i10r1i2r5i2r12i3r4i2 h0 m_thrown2_1 a_tape m_taped m_size m_at m_end m_token m_whole m_nameSize m_fault m_place m_trouble2_2 a_letters m_failed m_hasHouse a_r a_fresh a_st a_undone a_kept m_undos m_images a_from a_begin a_motor a_change a_startFrame a_changeFrame a_lostAt a_blackAt a_slips a_leftArc a_died a_arcs m_bestSum m_nearest m_nearestTown a_there a_backAt a_sorted a_parts m_seed1 m_darkNow), (cAI g a_r 311 d_r)] [(cAI g a_st 44 d_st), (cAI g a_undone 528 d_undone)] [3, 0] [1, 2] (m_isPlaceX l g h0 p0 m_thrown2_1 a_tape m_taped m_size m_at m_end m_token m_whole m_nameSize m_fault m_place m_trouble2_2 a_letters m_failed m_hasHouse a_r a_fresh a_st a_undone a_kept m_undos m_images a_from a_begin a_motor a_change a_startFrame a_changeFrame a_lostAt a_blackAt a_slips a_leftArc a_died a_arcs m_bestSum m_nearest m_nearestTown a_there a_backAt a_sorted a_parts m_seed1 m_darkNow d_r (iv_w hv_m_hasHouse (by decide) (by decide)) hp_d_r) dX11_trim_6 mw719 mw720 mw721 mw5 mw722 rfl 11 rfl rfl 0 _ rfl yk_yX11_isPlace_1 rfl (Nat.le_of_ble_eq_true rfl) (Nat.le_of_ble_eq_true rfl) (Nat.le_of_ble_eq_true rfl) (Nat.le_of_ble_eq_true rfl) (Nat.le_of_ble_eq_true rfl) rfl rfl (by decide) rfl (by decide) (by decide) ?_
  rintro r_5 w ⟨iv_6, hq_7, hk_8, rfl⟩
  refine k_ws [(cAI g a_st 44 d_st), (cAI g a_undone 528 d_undone), (cO11_i1r1i10r1i2r5i2r12i3r4i2 h0 m_thrown2_1 a_tape m_taped m_size m_at m_end m_token m_whole m_nameSize m_fault m_place m_trouble2_2 a_letters m_failed m_hasHouse a_r a_fresh a_st a_undone a_kept m_undos m_images a_from a_begin a_motor a_change a_startFrame a_changeFrame a_lostAt a_blackAt a_slips a_leftArc a_died a_arcs m_bestSum m_nearest m_nearestTown a_there a_backAt a_sorted a_parts m_seed1 m_darkNow), (cAI g a_r 311 d_r)] rfl ?_
  refine k_if_ne 18 X dX11_trim_9 (by decide) (fun h_9 => ?_) (fun h_9 => ?_)
  · skip
    have hc_10 := hk_8.resolve_left h_9
    have iv_11 : IV p0 0 7 := iv_meet (iv_any p0) hc_10.1 (by decide) (by decide)
    have j_12 : p0.toInt < (d_r 12).toInt := hc_10.2
    have iv_13 : IV r_5 1 1 := iv_neL h_9 iv_6 (show IV 0 0 0 from (by decide)) (by decide)
    refine k_aload_n X dX11_trim_18 0 rfl ?_
    refine k_get (ci := 11) X inlX11 rfl 17 (by decide) dX11_trim_19 mw172 2 rfl rfl ?_
    refine k_bipush (v := 42) X dX11_trim_22 (by decide) ?_
    refine k_iald X dX11_trim_24 0 rfl (by unfold vp_in; decide) ?_
    refine k_nm (fun z_14 ez_14 => ?_)
    refine k_iload_n X dX11_trim_25 1 rfl ?_
    refine k_callSI (n := 2) (As := [.int z_14, .int p0]) (st := []) X [] [(cAI g a_st 44 d_st), (cAI g a_undone 528 d_undone), (cO11_i1r1i10r1i2r5i2r12i3r4i2 h0 m_thrown2_1 a_tape m_taped m_size m_at m_end m_token m_whole m_nameSize m_fault m_place m_trouble2_2 a_letters m_failed m_hasHouse a_r a_fresh a_st a_undone a_kept m_undos m_images a_from a_begin a_motor a_change a_startFrame a_changeFrame a_lostAt a_blackAt a_slips a_leftArc a_died a_arcs m_bestSum m_nearest m_nearestTown a_there a_backAt a_sorted a_parts m_seed1 m_darkNow), (cAI g a_r 311 d_r)] [] [0, 1, 2, 3] (m_hasBitX l g z_14 p0) dX11_trim_26 mw686 mw687 mw5 mw688 yk_yX11_hasBit_2 rfl (Nat.le_of_ble_eq_true rfl) (Nat.le_of_ble_eq_true rfl) (Nat.le_of_ble_eq_true rfl) (Nat.le_of_ble_eq_true rfl) (Nat.le_of_ble_eq_true rfl) rfl rfl (by decide) rfl (by decide) (by decide) ?_
    rintro r_15 w ⟨iv_16, hq_17, rfl⟩
    refine k_ws [(cAI g a_st 44 d_st), (cAI g a_undone 528 d_undone), (cO11_i1r1i10r1i2r5i2r12i3r4i2 h0 m_thrown2_1 a_tape m_taped m_size m_at m_end m_token m_whole m_nameSize m_fault m_place m_trouble2_2 a_letters m_failed m_hasHouse a_r a_fresh a_st a_undone a_kept m_undos m_images a_from a_begin a_motor a_change a_startFrame a_changeFrame a_lostAt a_blackAt a_slips a_leftArc a_died a_arcs m_bestSum m_nearest m_nearestTown a_there a_backAt a_sorted a_parts m_seed1 m_darkNow), (cAI g a_r 311 d_r)] rfl ?_
    refine k_iload_n X dX11_trim_29 2 rfl ?_
    refine k_ic_ne 39 X dX11_trim_30 (by decide) (fun h_18 => ?_) (fun h_18 => ?_)
    · skip
      refine k_aload_n X dX11_trim_39 0 rfl ?_
      refine k_callVV (n := 0) (As := []) (st := []) X [(cO11_i1r1i10r1i2r5i2r12i3r4i2 h0 m_thrown2_1 a_tape m_taped m_size m_at m_end m_token m_whole m_nameSize m_fault m_place m_trouble2_2 a_letters m_failed m_hasHouse a_r a_fresh a_st a_undone a_kept m_undos m_images a_from a_begin a_motor a_change a_startFrame a_changeFrame a_lostAt a_blackAt a_slips a_leftArc a_died a_arcs m_bestSum m_nearest m_nearestTown a_there a_backAt a_sorted a_parts m_seed1 m_darkNow), (cAI g a_st 44 d_st), (cAI g a_undone 528 d_undone)] [(cAI g a_r 311 d_r)] [2, 0, 1] [3] (m_noteX l g h0 m_thrown2_1 a_tape m_taped m_size m_at m_end m_token m_whole m_nameSize m_fault m_place m_trouble2_2 a_letters m_failed m_hasHouse a_r a_fresh a_st a_undone a_kept m_undos m_images a_from a_begin a_motor a_change a_startFrame a_changeFrame a_lostAt a_blackAt a_slips a_leftArc a_died a_arcs m_bestSum m_nearest m_nearestTown a_there a_backAt a_sorted a_parts m_seed1 m_darkNow d_st d_undone (iv_w hv_m_undos (by decide) (by decide))) dX11_trim_40 mw1475 mw1476 mw1477 mw5 mw1478 rfl 11 rfl rfl 0 _ rfl yk_yX11_note_0 rfl (Nat.le_of_ble_eq_true rfl) (Nat.le_of_ble_eq_true rfl) (Nat.le_of_ble_eq_true rfl) (Nat.le_of_ble_eq_true rfl) (Nat.le_of_ble_eq_true rfl) rfl rfl (by decide) rfl (by decide) (by decide) ?_
      rintro w ⟨d_undone2_19, m_undos2_20, iv_22, hq_23, rfl⟩
      refine k_ws [(cAI g a_r 311 d_r), (cO11_i1r1i10r1i2r5i2r12i3r4i2 h0 m_thrown2_1 a_tape m_taped m_size m_at m_end m_token m_whole m_nameSize m_fault m_place m_trouble2_2 a_letters m_failed m_hasHouse a_r a_fresh a_st a_undone a_kept m_undos2_20 m_images a_from a_begin a_motor a_change a_startFrame a_changeFrame a_lostAt a_blackAt a_slips a_leftArc a_died a_arcs m_bestSum m_nearest m_nearestTown a_there a_backAt a_sorted a_parts m_seed1 m_darkNow), (cAI g a_st 44 d_st), (cAI g a_undone 528 d_undone2_19)] rfl ?_
      refine k_aload_n X dX11_trim_43 0 rfl ?_
      refine k_get (ci := 11) X inlX11 rfl 17 (by decide) dX11_trim_44 mw172 1 rfl rfl ?_
      refine k_bipush (v := 42) X dX11_trim_47 (by decide) ?_
      refine k_dup2 X dX11_trim_49 rfl rfl ?_
      refine k_iald X dX11_trim_50 2 rfl (by unfold vp_in; decide) ?_
      refine k_to z_14 ez_14.symm ?_
      refine k_iconst (v := 1) X dX11_trim_51 (by decide) ?_
      refine k_iload_n X dX11_trim_52 1 rfl ?_
      refine k_ishl X dX11_trim_53 ?_
      refine k_nm (fun z_24 ez_24 => ?_)
      have iv_25 : IV z_24 1 256 := iv_shl ez_24 (iv_w iv_11 (by decide) (by decide))
      refine k_ixor X dX11_trim_54 ?_
      refine k_nm (fun z_26 ez_26 => ?_)
      refine k_iast [(cAI g a_r 311 d_r), (cO11_i1r1i10r1i2r5i2r12i3r4i2 h0 m_thrown2_1 a_tape m_taped m_size m_at m_end m_token m_whole m_nameSize m_fault m_place m_trouble2_2 a_letters m_failed m_hasHouse a_r a_fresh a_st a_undone a_kept m_undos2_20 m_images a_from a_begin a_motor a_change a_startFrame a_changeFrame a_lostAt a_blackAt a_slips a_leftArc a_died a_arcs m_bestSum m_nearest m_nearestTown a_there a_backAt a_sorted a_parts m_seed1 m_darkNow), (cAI g a_st 44 (upd d_st (42 : Int32).toNatClampNeg z_26)), (cAI g a_undone 528 d_undone2_19)] X dX11_trim_55 2 rfl (by unfold vp_in; decide) rfl ?_
      refine k_iconst (v := 1) X dX11_trim_56 (by decide) ?_
      exact k_zret X hr (by first | rfl | decide) dX11_trim_57 (Nat.le_of_ble_eq_true rfl) (Nat.le_of_ble_eq_true rfl) [1, 0, 2, 3] (by decide) rfl rfl ⟨(upd d_st (42 : Int32).toNatClampNeg z_26), m_thrown2_1, m_trouble2_2, d_undone2_19, m_undos2_20, (iv_w iv_22 (by decide) (by decide)), (iv_w (show IV 1 1 1 from (by decide)) (by decide) (by decide)), ⟨m_thrown2_1, m_trouble2_2, hq_4, ⟨r_5, hq_7, (Or.inl ⟨h_9, ⟨z_14, ez_14, ⟨r_15, hq_17, (Or.inl ⟨h_18, ⟨d_undone2_19, m_undos2_20, hq_23, ⟨z_24, ez_24, ⟨z_26, ez_26, ⟨rfl, rfl, rfl, rfl, rfl, rfl⟩⟩⟩⟩⟩)⟩⟩⟩)⟩⟩, rfl⟩
    · skip
      have iv_28 : IV p1 0 1 := iv_meet (iv_any p1) (iv_e h_18.symm iv_16) (by decide) (by decide)
      refine k_aload_n X dX11_trim_33 0 rfl ?_
      refine k_iconst (v := 5) X dX11_trim_34 (by decide) ?_
      refine k_callVI (n := 1) (As := [.int 5]) (st := []) X [(cO11_i1r1i10r1i2r5i2r12i3r4i2 h0 m_thrown2_1 a_tape m_taped m_size m_at m_end m_token m_whole m_nameSize m_fault m_place m_trouble2_2 a_letters m_failed m_hasHouse a_r a_fresh a_st a_undone a_kept m_undos m_images a_from a_begin a_motor a_change a_startFrame a_changeFrame a_lostAt a_blackAt a_slips a_leftArc a_died a_arcs m_bestSum m_nearest m_nearestTown a_there a_backAt a_sorted a_parts m_seed1 m_darkNow)] [(cAI g a_st 44 d_st), (cAI g a_undone 528 d_undone), (cAI g a_r 311 d_r)] [2] [0, 1, 3] (m_isNotX l g h0 5 m_thrown2_1 a_tape m_taped m_size m_at m_end m_token m_whole m_nameSize m_fault m_place m_trouble2_2 a_letters m_failed m_hasHouse a_r a_fresh a_st a_undone a_kept m_undos m_images a_from a_begin a_motor a_change a_startFrame a_changeFrame a_lostAt a_blackAt a_slips a_leftArc a_died a_arcs m_bestSum m_nearest m_nearestTown a_there a_backAt a_sorted a_parts m_seed1 m_darkNow) dX11_trim_35 mw1471 mw1472 mw1473 mw5 mw1474 rfl 11 rfl rfl 0 _ rfl yk_yX11_isNot_1 rfl (Nat.le_of_ble_eq_true rfl) (Nat.le_of_ble_eq_true rfl) (Nat.le_of_ble_eq_true rfl) (Nat.le_of_ble_eq_true rfl) (Nat.le_of_ble_eq_true rfl) rfl rfl (by decide) rfl (by decide) (by decide) ?_
      rintro r_30 w ⟨m_trouble2_29, iv_31, hq_32, rfl⟩
      refine k_ws [(cAI g a_st 44 d_st), (cAI g a_undone 528 d_undone), (cAI g a_r 311 d_r), (cO11_i1r1i10r1i2r5i2r12i3r4i2 h0 m_thrown2_1 a_tape m_taped m_size m_at m_end m_token m_whole m_nameSize m_fault m_place m_trouble2_29 a_letters m_failed m_hasHouse a_r a_fresh a_st a_undone a_kept m_undos m_images a_from a_begin a_motor a_change a_startFrame a_changeFrame a_lostAt a_blackAt a_slips a_leftArc a_died a_arcs m_bestSum m_nearest m_nearestTown a_there a_backAt a_sorted a_parts m_seed1 m_darkNow)] rfl ?_
      exact k_zret X hr (zn_b (iv_w iv_31 (by decide) (by decide))) dX11_trim_38 (Nat.le_of_ble_eq_true rfl) (Nat.le_of_ble_eq_true rfl) [3, 2, 0, 1] (by decide) rfl rfl ⟨d_st, m_thrown2_1, m_trouble2_29, d_undone, m_undos, (iv_w hv_m_undos (by decide) (by decide)), (iv_w iv_31 (by decide) (by decide)), ⟨m_thrown2_1, m_trouble2_2, hq_4, ⟨r_5, hq_7, (Or.inl ⟨h_9, ⟨z_14, ez_14, ⟨r_15, hq_17, (Or.inr ⟨h_18, ⟨m_trouble2_29, r_30, hq_32, ⟨rfl, rfl, rfl, rfl, rfl, rfl⟩⟩⟩)⟩⟩⟩)⟩⟩, rfl⟩
  · skip
    have iv_33 : IV r_5 0 0 := iv_meet iv_6 (iv_e h_9 (show IV 0 0 0 from (by decide))) (by decide) (by decide)
    refine k_aload_n X dX11_trim_12 0 rfl ?_
    refine k_iconst (v := 1) X dX11_trim_13 (by decide) ?_
    refine k_callVI (n := 1) (As := [.int 1]) (st := []) X [(cO11_i1r1i10r1i2r5i2r12i3r4i2 h0 m_thrown2_1 a_tape m_taped m_size m_at m_end m_token m_whole m_nameSize m_fault m_place m_trouble2_2 a_letters m_failed m_hasHouse a_r a_fresh a_st a_undone a_kept m_undos m_images a_from a_begin a_motor a_change a_startFrame a_changeFrame a_lostAt a_blackAt a_slips a_leftArc a_died a_arcs m_bestSum m_nearest m_nearestTown a_there a_backAt a_sorted a_parts m_seed1 m_darkNow)] [(cAI g a_st 44 d_st), (cAI g a_undone 528 d_undone), (cAI g a_r 311 d_r)] [2] [0, 1, 3] (m_isNotX l g h0 1 m_thrown2_1 a_tape m_taped m_size m_at m_end m_token m_whole m_nameSize m_fault m_place m_trouble2_2 a_letters m_failed m_hasHouse a_r a_fresh a_st a_undone a_kept m_undos m_images a_from a_begin a_motor a_change a_startFrame a_changeFrame a_lostAt a_blackAt a_slips a_leftArc a_died a_arcs m_bestSum m_nearest m_nearestTown a_there a_backAt a_sorted a_parts m_seed1 m_darkNow) dX11_trim_14 mw1471 mw1472 mw1473 mw5 mw1474 rfl 11 rfl rfl 0 _ rfl yk_yX11_isNot_1 rfl (Nat.le_of_ble_eq_true rfl) (Nat.le_of_ble_eq_true rfl) (Nat.le_of_ble_eq_true rfl) (Nat.le_of_ble_eq_true rfl) (Nat.le_of_ble_eq_true rfl) rfl rfl (by decide) rfl (by decide) (by decide) ?_
    rintro r_35 w ⟨m_trouble2_34, iv_36, hq_37, rfl⟩
    refine k_ws [(cAI g a_st 44 d_st), (cAI g a_undone 528 d_undone), (cAI g a_r 311 d_r), (cO11_i1r1i10r1i2r5i2r12i3r4i2 h0 m_thrown2_1 a_tape m_taped m_size m_at m_end m_token m_whole m_nameSize m_fault m_place m_trouble2_34 a_letters m_failed m_hasHouse a_r a_fresh a_st a_undone a_kept m_undos m_images a_from a_begin a_motor a_change a_startFrame a_changeFrame a_lostAt a_blackAt a_slips a_leftArc a_died a_arcs m_bestSum m_nearest m_nearestTown a_there a_backAt a_sorted a_parts m_seed1 m_darkNow)] rfl ?_
    exact k_zret X hr (zn_b (iv_w iv_36 (by decide) (by decide))) dX11_trim_17 (Nat.le_of_ble_eq_true rfl) (Nat.le_of_ble_eq_true rfl) [3, 2, 0, 1] (by decide) rfl rfl ⟨d_st, m_thrown2_1, m_trouble2_34, d_undone, m_undos, (iv_w hv_m_undos (by decide) (by decide)), (iv_w iv_36 (by decide) (by decide)), ⟨m_thrown2_1, m_trouble2_2, hq_4, ⟨r_5, hq_7, (Or.inr ⟨h_9, ⟨m_trouble2_34, r_35, hq_37, ⟨rfl, rfl, rfl, rfl, rfl, rfl⟩⟩⟩)⟩⟩, rfl⟩


set_option maxHeartbeats 4000000 in
set_option maxRecDepth 100000 in
theorem m_mendX (l : Launch) (g : Gx) (h0 : Nat) (p0 : Int32) (m_thrown : Int32) (a_tape : Nat) (m_taped : Int32) (m_size : Int32) (m_at : Int32) (m_end : Int32) (m_token : Int32) (m_whole : Int32) (m_nameSize : Int32) (m_fault : Int32) (m_place : Int32) (m_trouble : Int32) (a_letters : Nat) (m_failed : Int32) (m_hasHouse : Int32) (a_r : Nat) (a_fresh : Nat) (a_st : Nat) (a_undone : Nat) (a_kept : Nat) (m_undos : Int32) (m_images : Int32) (a_from : Nat) (a_begin : Nat) (a_motor : Nat) (a_change : Nat) (a_startFrame : Nat) (a_changeFrame : Nat) (a_lostAt : Nat) (a_blackAt : Nat) (a_slips : Nat) (a_leftArc : Nat) (a_died : Nat) (a_arcs : Nat) (m_bestSum : Int32) (m_nearest : Int32) (m_nearestTown : Int32) (a_there : Nat) (a_backAt : Nat) (a_sorted : Nat) (a_parts : Nat) (m_seed1 : Int32) (m_darkNow : Int32) (d_r : Nat → Int32) (d_st : Nat → Int32) (d_undone : Nat → Int32) (hv_m_hasHouse : IV m_hasHouse 0 1) (hv_m_undos : IV m_undos 0 12) (hp_d_r : RInv d_r) : cI l g yX11_mend cX11_mend 6 (some .int) 2 46 0 0 [.ref h0, .int p0] [(cO11_i1r1i10r1i2r5i2r12i3r4i2 h0 m_thrown a_tape m_taped m_size m_at m_end m_token m_whole m_nameSize m_fault m_place m_trouble a_letters m_failed m_hasHouse a_r a_fresh a_st a_undone a_kept m_undos m_images a_from a_begin a_motor a_change a_startFrame a_changeFrame a_lostAt a_blackAt a_slips a_leftArc a_died a_arcs m_bestSum m_nearest m_nearestTown a_there a_backAt a_sorted a_parts m_seed1 m_darkNow), (cAI g a_r 311 d_r), (cAI g a_st 44 d_st), (cAI g a_undone 528 d_undone)] (fun r w => ∃ (d_st2 : Nat → Int32) (m_thrown2 : Int32) (m_trouble2 : Int32) (d_undone2 : Nat → Int32) (m_undos2 : Int32), IV m_undos2 0 12 ∧ (R_m_mendX p0 m_hasHouse m_undos d_r d_st d_undone d_st2 m_thrown2 m_trouble2 d_undone2 m_undos2 r) ∧ w = [(cO11_i1r1i10r1i2r5i2r12i3r4i2 h0 m_thrown2 a_tape m_taped m_size m_at m_end m_token m_whole m_nameSize m_fault m_place m_trouble2 a_letters m_failed m_hasHouse a_r a_fresh a_st a_undone a_kept m_undos2 m_images a_from a_begin a_motor a_change a_startFrame a_changeFrame a_lostAt a_blackAt a_slips a_leftArc a_died a_arcs m_bestSum m_nearest m_nearestTown a_there a_backAt a_sorted a_parts m_seed1 m_darkNow), (cAI g a_r 311 d_r), (cAI g a_st 44 d_st2), (cAI g a_undone 528 d_undone2)]) := by
  refine cI.of (by decide) (Nat.le_of_ble_eq_true rfl) ?_
  intro p e s m args below meth c A X hr hi
  refine k_lveq [(0, .ref h0), (1, .int p0)] rfl ?_
  refine k_aload_n X dX11_mend_0 0 rfl ?_
  refine k_callVV (n := 0) (As := []) (st := []) X [(cO11_i1r1i10r1i2r5i2r12i3r4i2 h0 m_thrown a_tape m_taped m_size m_at m_end m_token m_whole m_nameSize m_fault m_place m_trouble a_letters m_failed m_hasHouse a_r a_fresh a_st a_undone a_kept m_undos m_images a_from a_begin a_motor a_change a_startFrame a_changeFrame a_lostAt a_blackAt a_slips a_leftArc a_died a_arcs m_bestSum m_nearest m_nearestTown a_there a_backAt a_sorted a_parts m_seed1 m_darkNow)] [(cAI g a_r 311 d_r), (cAI g a_st 44 d_st), (cAI g a_undone 528 d_undone)] [0] [1, 2, 3] (m_goodX l g h0 m_thrown a_tape m_taped m_size m_at m_end m_token m_whole m_nameSize m_fault m_place m_trouble a_letters m_failed m_hasHouse a_r a_fresh a_st a_undone a_kept m_undos m_images a_from a_begin a_motor a_change a_startFrame a_changeFrame a_lostAt a_blackAt a_slips a_leftArc a_died a_arcs m_bestSum m_nearest m_nearestTown a_there a_backAt a_sorted a_parts m_seed1 m_darkNow) dX11_mend_1 mw477 mw478 mw479 mw5 mw480 rfl 11 rfl rfl 0 _ rfl yk_yX11_good_0 rfl (Nat.le_of_ble_eq_true rfl) (Nat.le_of_ble_eq_true rfl) (Nat.le_of_ble_eq_true rfl) (Nat.le_of_ble_eq_true rfl) (Nat.le_of_ble_eq_true rfl) rfl rfl (by decide) rfl (by decide) (by decide) ?_
  rintro w ⟨m_thrown2_1, m_trouble2_2, hq_4, rfl⟩
  refine k_ws [(cAI g a_r 311 d_r), (cAI g a_st 44 d_st), (cAI g a_undone 528 d_undone), (cO11_i1r1i10r1i2r5i2r12i3r4i2 h0 m_thrown2_1 a_tape m_taped m_size m_at m_end m_token m_whole m_nameSize m_fault m_place m_trouble2_2 a_letters m_failed m_hasHouse a_r a_fresh a_st a_undone a_kept m_undos m_images a_from a_begin a_motor a_change a_startFrame a_changeFrame a_lostAt a_blackAt a_slips a_leftArc a_died a_arcs m_bestSum m_nearest m_nearestTown a_there a_backAt a_sorted a_parts m_seed1 m_darkNow)] rfl ?_
  refine k_aload_n X dX11_mend_4 0 rfl ?_
  refine k_iload_n X dX11_mend_5 1 rfl ?_
  refine k_callVI (n := 1) (As := [.int p0]) (st := []) X [(cO11_i1r1i10r1i2r5i2r12i3r4i2 h0 m_thrown2_1 a_tape m_taped m_size m_at m_end m_token m_whole m_nameSize m_fault m_place m_trouble2_2 a_letters m_failed m_hasHouse a_r a_fresh a_st a_undone a_kept m_undos m_images a_from a_begin a_motor a_change a_startFrame a_changeFrame a_lostAt a_blackAt a_slips a_leftArc a_died a_arcs m_bestSum m_nearest m_nearestTown a_there a_backAt a_sorted a_parts m_seed1 m_darkNow), (cAI g a_r 311 d_r)] [(cAI g a_st 44 d_st), (cAI g a_undone 528 d_undone)] [3, 0] [1, 2] (m_isWeakX l g h0 p0 m_thrown2_1 a_tape m_taped m_size m_at m_end m_token m_whole m_nameSize m_fault m_place m_trouble2_2 a_letters m_failed m_hasHouse a_r a_fresh a_st a_undone a_kept m_undos m_images a_from a_begin a_motor a_change a_startFrame a_changeFrame a_lostAt a_blackAt a_slips a_leftArc a_died a_arcs m_bestSum m_nearest m_nearestTown a_there a_backAt a_sorted a_parts m_seed1 m_darkNow d_r (iv_w hv_m_hasHouse (by decide) (by decide)) hp_d_r) dX11_mend_6 mw1252 mw1253 mw1254 mw5 mw1255 rfl 11 rfl rfl 0 _ rfl yk_yX11_isWeak_1 rfl (Nat.le_of_ble_eq_true rfl) (Nat.le_of_ble_eq_true rfl) (Nat.le_of_ble_eq_true rfl) (Nat.le_of_ble_eq_true rfl) (Nat.le_of_ble_eq_true rfl) rfl rfl (by decide) rfl (by decide) (by decide) ?_
  rintro r_5 w ⟨iv_6, hq_7, hk_8, rfl⟩
  refine k_ws [(cAI g a_st 44 d_st), (cAI g a_undone 528 d_undone), (cO11_i1r1i10r1i2r5i2r12i3r4i2 h0 m_thrown2_1 a_tape m_taped m_size m_at m_end m_token m_whole m_nameSize m_fault m_place m_trouble2_2 a_letters m_failed m_hasHouse a_r a_fresh a_st a_undone a_kept m_undos m_images a_from a_begin a_motor a_change a_startFrame a_changeFrame a_lostAt a_blackAt a_slips a_leftArc a_died a_arcs m_bestSum m_nearest m_nearestTown a_there a_backAt a_sorted a_parts m_seed1 m_darkNow), (cAI g a_r 311 d_r)] rfl ?_
  refine k_if_ne 18 X dX11_mend_9 (by decide) (fun h_9 => ?_) (fun h_9 => ?_)
  · skip
    have hc_10 := hk_8.resolve_left h_9
    have iv_11 : IV p0 0 5 := iv_meet (iv_any p0) hc_10 (by decide) (by decide)
    have iv_12 : IV r_5 1 1 := iv_neL h_9 iv_6 (show IV 0 0 0 from (by decide)) (by decide)
    refine k_aload_n X dX11_mend_18 0 rfl ?_
    refine k_get (ci := 11) X inlX11 rfl 15 (by decide) dX11_mend_19 mw170 2 rfl rfl ?_
    refine k_bipush (v := 96) X dX11_mend_22 (by decide) ?_
    refine k_iconst (v := 3) X dX11_mend_24 (by decide) ?_
    refine k_iload_n X dX11_mend_25 1 rfl ?_
    refine k_imul X dX11_mend_26 ?_
    refine k_nm (fun z_13 ez_13 => ?_)
    have i_14 : z_13.toInt = 3 * p0.toInt := in_mul ez_13 (by decide) (by decide) iv_11 (by decide) (by decide)
    have iv_15 : IV z_13 0 15 := iz4 i_14 iv_11 (by decide) (by decide) (by decide)
    refine k_iadd X dX11_mend_27 ?_
    refine k_nm (fun z_16 ez_16 => ?_)
    have i_17 : z_16.toInt = 96 + z_13.toInt := in_add ez_16 (show IV 96 96 96 from (by decide)) iv_15 (by decide) (by decide)
    have iv_18 : IV z_16 96 111 := iz2 i_17 iv_15 (by decide) (by decide)
    refine k_iald X dX11_mend_28 3 rfl (iv_in iv_18 (by decide) (by decide)) ?_
    refine k_nm (fun z_19 ez_19 => ?_)
    have i_20 : z_16.toInt = 96 + 3 * p0.toInt := by omega
    have iv_21 : IV z_19 0 7 := rb_96_3 ez_19 hp_d_r i_20 (iv_w iv_11 (by decide) (by decide))
    refine k_istore_n [(2, .int z_19), (0, .ref h0), (1, .int p0)] X dX11_mend_29 (by decide) rfl ?_
    refine k_aload_n X dX11_mend_30 1 rfl ?_
    refine k_iload_n X dX11_mend_31 2 rfl ?_
    refine k_callVI (n := 1) (As := [.int p0]) (st := []) X [(cO11_i1r1i10r1i2r5i2r12i3r4i2 h0 m_thrown2_1 a_tape m_taped m_size m_at m_end m_token m_whole m_nameSize m_fault m_place m_trouble2_2 a_letters m_failed m_hasHouse a_r a_fresh a_st a_undone a_kept m_undos m_images a_from a_begin a_motor a_change a_startFrame a_changeFrame a_lostAt a_blackAt a_slips a_leftArc a_died a_arcs m_bestSum m_nearest m_nearestTown a_there a_backAt a_sorted a_parts m_seed1 m_darkNow), (cAI g a_st 44 d_st)] [(cAI g a_undone 528 d_undone), (cAI g a_r 311 d_r)] [2, 0] [1, 3] (m_isMendedX l g h0 p0 m_thrown2_1 a_tape m_taped m_size m_at m_end m_token m_whole m_nameSize m_fault m_place m_trouble2_2 a_letters m_failed m_hasHouse a_r a_fresh a_st a_undone a_kept m_undos m_images a_from a_begin a_motor a_change a_startFrame a_changeFrame a_lostAt a_blackAt a_slips a_leftArc a_died a_arcs m_bestSum m_nearest m_nearestTown a_there a_backAt a_sorted a_parts m_seed1 m_darkNow d_st) dX11_mend_32 mw682 mw683 mw684 mw5 mw685 rfl 11 rfl rfl 0 _ rfl yk_yX11_isMended_1 rfl (Nat.le_of_ble_eq_true rfl) (Nat.le_of_ble_eq_true rfl) (Nat.le_of_ble_eq_true rfl) (Nat.le_of_ble_eq_true rfl) (Nat.le_of_ble_eq_true rfl) rfl rfl (by decide) rfl (by decide) (by decide) ?_
    rintro r_22 w ⟨iv_23, hq_24, rfl⟩
    refine k_ws [(cAI g a_undone 528 d_undone), (cAI g a_r 311 d_r), (cO11_i1r1i10r1i2r5i2r12i3r4i2 h0 m_thrown2_1 a_tape m_taped m_size m_at m_end m_token m_whole m_nameSize m_fault m_place m_trouble2_2 a_letters m_failed m_hasHouse a_r a_fresh a_st a_undone a_kept m_undos m_images a_from a_begin a_motor a_change a_startFrame a_changeFrame a_lostAt a_blackAt a_slips a_leftArc a_died a_arcs m_bestSum m_nearest m_nearestTown a_there a_backAt a_sorted a_parts m_seed1 m_darkNow), (cAI g a_st 44 d_st)] rfl ?_
    refine k_if_ne 51 X dX11_mend_35 (by decide) (fun h_25 => ?_) (fun h_25 => ?_)
    · skip
      have iv_26 : IV r_22 1 1 := iv_neL h_25 iv_23 (show IV 0 0 0 from (by decide)) (by decide)
      refine k_aload_n X dX11_mend_51 1 rfl ?_
      refine k_iconst (v := 5) X dX11_mend_52 (by decide) ?_
      refine k_callVI (n := 1) (As := [.int 5]) (st := []) X [(cO11_i1r1i10r1i2r5i2r12i3r4i2 h0 m_thrown2_1 a_tape m_taped m_size m_at m_end m_token m_whole m_nameSize m_fault m_place m_trouble2_2 a_letters m_failed m_hasHouse a_r a_fresh a_st a_undone a_kept m_undos m_images a_from a_begin a_motor a_change a_startFrame a_changeFrame a_lostAt a_blackAt a_slips a_leftArc a_died a_arcs m_bestSum m_nearest m_nearestTown a_there a_backAt a_sorted a_parts m_seed1 m_darkNow)] [(cAI g a_undone 528 d_undone), (cAI g a_r 311 d_r), (cAI g a_st 44 d_st)] [2] [0, 1, 3] (m_noX l g h0 5 m_thrown2_1 a_tape m_taped m_size m_at m_end m_token m_whole m_nameSize m_fault m_place m_trouble2_2 a_letters m_failed m_hasHouse a_r a_fresh a_st a_undone a_kept m_undos m_images a_from a_begin a_motor a_change a_startFrame a_changeFrame a_lostAt a_blackAt a_slips a_leftArc a_died a_arcs m_bestSum m_nearest m_nearestTown a_there a_backAt a_sorted a_parts m_seed1 m_darkNow) dX11_mend_53 mw485 mw486 mw487 mw5 mw488 rfl 11 rfl rfl 0 _ rfl yk_yX11_no_1 rfl (Nat.le_of_ble_eq_true rfl) (Nat.le_of_ble_eq_true rfl) (Nat.le_of_ble_eq_true rfl) (Nat.le_of_ble_eq_true rfl) (Nat.le_of_ble_eq_true rfl) rfl rfl (by decide) rfl (by decide) (by decide) ?_
      rintro r_28 w ⟨m_trouble2_27, iv_29, hq_30, rfl⟩
      refine k_ws [(cAI g a_undone 528 d_undone), (cAI g a_r 311 d_r), (cAI g a_st 44 d_st), (cO11_i1r1i10r1i2r5i2r12i3r4i2 h0 m_thrown2_1 a_tape m_taped m_size m_at m_end m_token m_whole m_nameSize m_fault m_place m_trouble2_27 a_letters m_failed m_hasHouse a_r a_fresh a_st a_undone a_kept m_undos m_images a_from a_begin a_motor a_change a_startFrame a_changeFrame a_lostAt a_blackAt a_slips a_leftArc a_died a_arcs m_bestSum m_nearest m_nearestTown a_there a_backAt a_sorted a_parts m_seed1 m_darkNow)] rfl ?_
      exact k_iret X hr dX11_mend_56 (Nat.le_of_ble_eq_true rfl) (Nat.le_of_ble_eq_true rfl) [3, 1, 2, 0] (by decide) rfl rfl ⟨d_st, m_thrown2_1, m_trouble2_27, d_undone, m_undos, (iv_w hv_m_undos (by decide) (by decide)), ⟨m_thrown2_1, m_trouble2_2, hq_4, ⟨r_5, hq_7, (Or.inl ⟨h_9, ⟨z_13, ez_13, ⟨z_16, ez_16, ⟨z_19, ez_19, ⟨r_22, hq_24, (Or.inl ⟨h_25, ⟨m_trouble2_27, r_28, hq_30, ⟨rfl, rfl, rfl, rfl, rfl, rfl⟩⟩⟩)⟩⟩⟩⟩⟩)⟩⟩, rfl⟩
    · skip
      have iv_31 : IV r_22 0 0 := iv_meet iv_23 (iv_e h_25 (show IV 0 0 0 from (by decide))) (by decide) (by decide)
      refine k_aload_n X dX11_mend_38 1 rfl ?_
      refine k_get (ci := 11) X inlX11 rfl 17 (by decide) dX11_mend_39 mw172 2 rfl rfl ?_
      refine k_iconst (v := 0) X dX11_mend_42 (by decide) ?_
      refine k_iload_n X dX11_mend_43 0 rfl ?_
      refine k_iadd X dX11_mend_44 ?_
      refine k_nm (fun z_32 ez_32 => ?_)
      have i_33 : z_32.toInt = 0 + z_19.toInt := in_add ez_32 (show IV 0 0 0 from (by decide)) iv_21 (by decide) (by decide)
      have iv_34 : IV z_32 0 7 := iz2 i_33 iv_21 (by decide) (by decide)
      refine k_iald X dX11_mend_45 3 rfl (iv_in iv_34 (by decide) (by decide)) ?_
      refine k_nm (fun z_35 ez_35 => ?_)
      refine k_bipush (v := 6) X dX11_mend_46 (by decide) ?_
      refine k_ic_ge 57 X dX11_mend_48 (by decide) (fun h_36 => ?_) (fun h_36 => ?_)
      · skip
        have j_37 : 6 ≤ z_35.toInt := iv_le h_36
        have iv_38 : IV z_35 6 2147483647 := iv_leR (iv_le h_36) (show IV 6 6 6 from (by decide)) (iv_any z_35) (by decide)
        refine k_aload_n X dX11_mend_57 1 rfl ?_
        refine k_callVV (n := 0) (As := []) (st := []) X [(cO11_i1r1i10r1i2r5i2r12i3r4i2 h0 m_thrown2_1 a_tape m_taped m_size m_at m_end m_token m_whole m_nameSize m_fault m_place m_trouble2_2 a_letters m_failed m_hasHouse a_r a_fresh a_st a_undone a_kept m_undos m_images a_from a_begin a_motor a_change a_startFrame a_changeFrame a_lostAt a_blackAt a_slips a_leftArc a_died a_arcs m_bestSum m_nearest m_nearestTown a_there a_backAt a_sorted a_parts m_seed1 m_darkNow), (cAI g a_st 44 d_st), (cAI g a_undone 528 d_undone)] [(cAI g a_r 311 d_r)] [2, 3, 0] [1] (m_noteX l g h0 m_thrown2_1 a_tape m_taped m_size m_at m_end m_token m_whole m_nameSize m_fault m_place m_trouble2_2 a_letters m_failed m_hasHouse a_r a_fresh a_st a_undone a_kept m_undos m_images a_from a_begin a_motor a_change a_startFrame a_changeFrame a_lostAt a_blackAt a_slips a_leftArc a_died a_arcs m_bestSum m_nearest m_nearestTown a_there a_backAt a_sorted a_parts m_seed1 m_darkNow d_st d_undone (iv_w hv_m_undos (by decide) (by decide))) dX11_mend_58 mw1475 mw1476 mw1477 mw5 mw1478 rfl 11 rfl rfl 0 _ rfl yk_yX11_note_0 rfl (Nat.le_of_ble_eq_true rfl) (Nat.le_of_ble_eq_true rfl) (Nat.le_of_ble_eq_true rfl) (Nat.le_of_ble_eq_true rfl) (Nat.le_of_ble_eq_true rfl) rfl rfl (by decide) rfl (by decide) (by decide) ?_
        rintro w ⟨d_undone2_39, m_undos2_40, iv_42, hq_43, rfl⟩
        refine k_ws [(cAI g a_r 311 d_r), (cO11_i1r1i10r1i2r5i2r12i3r4i2 h0 m_thrown2_1 a_tape m_taped m_size m_at m_end m_token m_whole m_nameSize m_fault m_place m_trouble2_2 a_letters m_failed m_hasHouse a_r a_fresh a_st a_undone a_kept m_undos2_40 m_images a_from a_begin a_motor a_change a_startFrame a_changeFrame a_lostAt a_blackAt a_slips a_leftArc a_died a_arcs m_bestSum m_nearest m_nearestTown a_there a_backAt a_sorted a_parts m_seed1 m_darkNow), (cAI g a_st 44 d_st), (cAI g a_undone 528 d_undone2_39)] rfl ?_
        refine k_aload_n X dX11_mend_61 1 rfl ?_
        refine k_get (ci := 11) X inlX11 rfl 17 (by decide) dX11_mend_62 mw172 1 rfl rfl ?_
        refine k_bipush (v := 28) X dX11_mend_65 (by decide) ?_
        refine k_iload_n X dX11_mend_67 2 rfl ?_
        refine k_iadd X dX11_mend_68 ?_
        refine k_nm (fun z_44 ez_44 => ?_)
        have i_45 : z_44.toInt = 28 + p0.toInt := in_add ez_44 (show IV 28 28 28 from (by decide)) iv_11 (by decide) (by decide)
        have iv_46 : IV z_44 28 33 := iz2 i_45 iv_11 (by decide) (by decide)
        refine k_iald X dX11_mend_69 2 rfl (iv_in iv_46 (by decide) (by decide)) ?_
        refine k_nm (fun z_47 ez_47 => ?_)
        refine k_istore_n [(3, .int z_47), (2, .int z_19), (0, .ref h0), (1, .int p0)] X dX11_mend_70 (by decide) rfl ?_
        refine k_aload_n X dX11_mend_71 2 rfl ?_
        refine k_get (ci := 11) X inlX11 rfl 17 (by decide) dX11_mend_72 mw172 1 rfl rfl ?_
        refine k_iconst (v := 0) X dX11_mend_75 (by decide) ?_
        refine k_iload_n X dX11_mend_76 1 rfl ?_
        refine k_iadd X dX11_mend_77 ?_
        refine k_to z_32 ez_32.symm ?_
        refine k_dup2 X dX11_mend_78 rfl rfl ?_
        refine k_iald X dX11_mend_79 2 rfl (iv_in iv_34 (by decide) (by decide)) ?_
        refine k_to z_35 ez_35.symm ?_
        refine k_iconst (v := 2) X dX11_mend_80 (by decide) ?_
        refine k_isub X dX11_mend_81 ?_
        refine k_nm (fun z_48 ez_48 => ?_)
        have i_49 : z_48.toInt = z_35.toInt - 2 := in_sub ez_48 iv_38 (show IV 2 2 2 from (by decide)) (by decide) (by decide)
        have iv_50 : IV z_48 4 2147483645 := iz5 i_49 iv_38 (by decide) (by decide)
        refine k_iast [(cAI g a_r 311 d_r), (cO11_i1r1i10r1i2r5i2r12i3r4i2 h0 m_thrown2_1 a_tape m_taped m_size m_at m_end m_token m_whole m_nameSize m_fault m_place m_trouble2_2 a_letters m_failed m_hasHouse a_r a_fresh a_st a_undone a_kept m_undos2_40 m_images a_from a_begin a_motor a_change a_startFrame a_changeFrame a_lostAt a_blackAt a_slips a_leftArc a_died a_arcs m_bestSum m_nearest m_nearestTown a_there a_backAt a_sorted a_parts m_seed1 m_darkNow), (cAI g a_st 44 (upd d_st (z_32 : Int32).toNatClampNeg z_48)), (cAI g a_undone 528 d_undone2_39)] X dX11_mend_82 2 rfl (iv_in iv_34 (by decide) (by decide)) rfl ?_
        refine k_aload_n X dX11_mend_83 2 rfl ?_
        refine k_get (ci := 11) X inlX11 rfl 17 (by decide) dX11_mend_84 mw172 1 rfl rfl ?_
        refine k_iconst (v := 0) X dX11_mend_87 (by decide) ?_
        refine k_iload_n X dX11_mend_88 1 rfl ?_
        refine k_iadd X dX11_mend_89 ?_
        refine k_to z_32 ez_32.symm ?_
        refine k_iald X dX11_mend_90 2 rfl (iv_in iv_34 (by decide) (by decide)) ?_
        refine k_to z_48 upd_at ?_
        refine k_istore [(4, .int z_48), (3, .int z_47), (2, .int z_19), (0, .ref h0), (1, .int p0)] X dX11_mend_91 (by decide) rfl ?_
        refine k_aload_n X dX11_mend_93 3 rfl ?_
        refine k_get (ci := 11) X inlX11 rfl 17 (by decide) dX11_mend_94 mw172 1 rfl rfl ?_
        refine k_bipush (v := 8) X dX11_mend_97 (by decide) ?_
        refine k_iload_n X dX11_mend_99 2 rfl ?_
        refine k_iadd X dX11_mend_100 ?_
        refine k_nm (fun z_52 ez_52 => ?_)
        have i_53 : z_52.toInt = 8 + z_19.toInt := in_add ez_52 (show IV 8 8 8 from (by decide)) iv_21 (by decide) (by decide)
        have iv_54 : IV z_52 8 15 := iz2 i_53 iv_21 (by decide) (by decide)
        refine k_aload_n X dX11_mend_101 3 rfl ?_
        refine k_get (ci := 11) X inlX11 rfl 17 (by decide) dX11_mend_102 mw172 1 rfl rfl ?_
        refine k_bipush (v := 8) X dX11_mend_105 (by decide) ?_
        refine k_iload_n X dX11_mend_107 2 rfl ?_
        refine k_iadd X dX11_mend_108 ?_
        refine k_to z_52 ez_52.symm ?_
        refine k_iald X dX11_mend_109 2 rfl (iv_in iv_54 (by decide) (by decide)) ?_
        refine k_nm (fun z_55 ez_55 => ?_)
        refine k_iload_n X dX11_mend_110 1 rfl ?_
        refine k_iload X dX11_mend_111 0 rfl ?_
        refine k_callSI (n := 3) (As := [.int z_55, .int z_47, .int z_48]) (st := [.int z_52, .ref a_st]) X [] [(cAI g a_r 311 d_r), (cO11_i1r1i10r1i2r5i2r12i3r4i2 h0 m_thrown2_1 a_tape m_taped m_size m_at m_end m_token m_whole m_nameSize m_fault m_place m_trouble2_2 a_letters m_failed m_hasHouse a_r a_fresh a_st a_undone a_kept m_undos2_40 m_images a_from a_begin a_motor a_change a_startFrame a_changeFrame a_lostAt a_blackAt a_slips a_leftArc a_died a_arcs m_bestSum m_nearest m_nearestTown a_there a_backAt a_sorted a_parts m_seed1 m_darkNow), (cAI g a_st 44 (upd d_st (z_32 : Int32).toNatClampNeg z_48)), (cAI g a_undone 528 d_undone2_39)] [] [0, 1, 2, 3] (m_shiftedX l g z_55 z_47 z_48) dX11_mend_113 mw1508 mw1509 mw5 mw1510 yk_yX11_shifted_3 rfl (Nat.le_of_ble_eq_true rfl) (Nat.le_of_ble_eq_true rfl) (Nat.le_of_ble_eq_true rfl) (Nat.le_of_ble_eq_true rfl) (Nat.le_of_ble_eq_true rfl) rfl rfl (by decide) rfl (by decide) (by decide) ?_
        rintro r_56 w ⟨hq_57, rfl⟩
        refine k_ws [(cAI g a_r 311 d_r), (cO11_i1r1i10r1i2r5i2r12i3r4i2 h0 m_thrown2_1 a_tape m_taped m_size m_at m_end m_token m_whole m_nameSize m_fault m_place m_trouble2_2 a_letters m_failed m_hasHouse a_r a_fresh a_st a_undone a_kept m_undos2_40 m_images a_from a_begin a_motor a_change a_startFrame a_changeFrame a_lostAt a_blackAt a_slips a_leftArc a_died a_arcs m_bestSum m_nearest m_nearestTown a_there a_backAt a_sorted a_parts m_seed1 m_darkNow), (cAI g a_st 44 (upd d_st (z_32 : Int32).toNatClampNeg z_48)), (cAI g a_undone 528 d_undone2_39)] rfl ?_
        refine k_iast [(cAI g a_r 311 d_r), (cO11_i1r1i10r1i2r5i2r12i3r4i2 h0 m_thrown2_1 a_tape m_taped m_size m_at m_end m_token m_whole m_nameSize m_fault m_place m_trouble2_2 a_letters m_failed m_hasHouse a_r a_fresh a_st a_undone a_kept m_undos2_40 m_images a_from a_begin a_motor a_change a_startFrame a_changeFrame a_lostAt a_blackAt a_slips a_leftArc a_died a_arcs m_bestSum m_nearest m_nearestTown a_there a_backAt a_sorted a_parts m_seed1 m_darkNow), (cAI g a_st 44 (upd (upd d_st (z_32 : Int32).toNatClampNeg z_48) (z_52 : Int32).toNatClampNeg r_56)), (cAI g a_undone 528 d_undone2_39)] X dX11_mend_116 2 rfl (iv_in iv_54 (by decide) (by decide)) rfl ?_
        refine k_iconst (v := 0) X dX11_mend_117 (by decide) ?_
        refine k_istore [(5, .int 0), (4, .int z_48), (3, .int z_47), (2, .int z_19), (0, .ref h0), (1, .int p0)] X dX11_mend_118 (by decide) rfl ?_
        refine (fun hL : ∀ (nn_62 : Nat) (uf_59 : Nat → Int32) (u_60 : Int32), (2147483647 - u_60.toInt).toNat = nn_62 → (IV u_60 0 255) → (∀ (d_st2 : Nat → Int32) (m_thrown2 : Int32) (m_trouble2 : Int32) (d_undone2 : Nat → Int32) (m_undos2 : Int32) (r : Int32), (∃ n_0 : Nat, R_m_mendX_L0 d_r z_19 z_47 z_48 (fun (uf_59 : Nat → Int32) => ∃ n_1 : Nat, R_m_mendX_L1 d_r z_19 z_47 z_48 (fun (uf_70 : Nat → Int32) => ∃ z_81 : Int32, z_81 = uf_70 ((43 : Int32)).toNatClampNeg ∧ ∃ z_82 : Int32, z_82 = (1 : Int32) <<< (p0 &&& 31) ∧ ∃ z_84 : Int32, z_84 = z_81 ||| z_82 ∧ d_st2 = (upd uf_70 (43 : Int32).toNatClampNeg z_84) ∧ m_thrown2 = m_thrown2_1 ∧ m_trouble2 = m_trouble2_2 ∧ d_undone2 = d_undone2_39 ∧ m_undos2 = m_undos2_40 ∧ r = z_48) n_1 uf_59 0) n_0 uf_59 u_60) → R_m_mendX p0 m_hasHouse m_undos d_r d_st d_undone d_st2 m_thrown2 m_trouble2 d_undone2 m_undos2 r) → Wk p l e _ s m args below meth c _ A g _ _ _ [(cAI g a_r 311 d_r), (cO11_i1r1i10r1i2r5i2r12i3r4i2 h0 m_thrown2_1 a_tape m_taped m_size m_at m_end m_token m_whole m_nameSize m_fault m_place m_trouble2_2 a_letters m_failed m_hasHouse a_r a_fresh a_st a_undone a_kept m_undos2_40 m_images a_from a_begin a_motor a_change a_startFrame a_changeFrame a_lostAt a_blackAt a_slips a_leftArc a_died a_arcs m_bestSum m_nearest m_nearestTown a_there a_backAt a_sorted a_parts m_seed1 m_darkNow), (cAI g a_st 44 uf_59), (cAI g a_undone 528 d_undone2_39)] [(5, .int u_60), (4, .int z_48), (3, .int z_47), (2, .int z_19), (0, .ref h0), (1, .int p0)] 120 [] => hL _ ((upd (upd d_st (z_32 : Int32).toNatClampNeg z_48) (z_52 : Int32).toNatClampNeg r_56)) 0 rfl (iv_w (show IV 0 0 0 from (by decide)) (by decide) (by decide)) (fun d_st2 m_thrown2 m_trouble2 d_undone2 m_undos2 r h => ⟨m_thrown2_1, m_trouble2_2, hq_4, ⟨r_5, hq_7, (Or.inl ⟨h_9, ⟨z_13, ez_13, ⟨z_16, ez_16, ⟨z_19, ez_19, ⟨r_22, hq_24, (Or.inr ⟨h_25, ⟨z_32, ez_32, ⟨z_35, ez_35, (Or.inl ⟨h_36, ⟨d_undone2_39, m_undos2_40, hq_43, ⟨z_44, ez_44, ⟨z_47, ez_47, ⟨z_48, ez_48, ⟨z_52, ez_52, ⟨z_55, ez_55, ⟨r_56, hq_57, h⟩⟩⟩⟩⟩⟩⟩⟩)⟩⟩⟩)⟩⟩⟩⟩⟩)⟩⟩)) ?_
        refine fun nn_62 => Nat.strongRecOn nn_62 (fun nn_62 ih_64 => ?_)
        intro uf_59 u_60 hm_63 hv_61 KH_0
        refine k_iload X dX11_mend_120 0 rfl ?_
        refine k_aload_n X dX11_mend_122 4 rfl ?_
        refine k_get (ci := 11) X inlX11 rfl 15 (by decide) dX11_mend_123 mw170 1 rfl rfl ?_
        refine k_bipush (v := 8) X dX11_mend_126 (by decide) ?_
        refine k_iald X dX11_mend_128 0 rfl (by unfold vp_in; decide) ?_
        refine k_nm (fun z_65 ez_65 => ?_)
        have i_66 : z_65.toInt = (d_r 8).toInt := by rw [ez_65]; rfl
        have iv_67 : IV z_65 0 12 := rb_8 ez_65 hp_d_r
        refine k_ic_ge 180 X dX11_mend_129 (by decide) (fun h_68 => ?_) (fun h_68 => ?_)
        · skip
          have j_69 : z_65.toInt ≤ u_60.toInt := iv_le h_68
          refine k_iconst (v := 0) X dX11_mend_180 (by decide) ?_
          refine k_istore [(5, .int 0), (4, .int z_48), (3, .int z_47), (2, .int z_19), (0, .ref h0), (1, .int p0)] X dX11_mend_181 (by decide) rfl ?_
          refine (fun hL : ∀ (nn_73 : Nat) (uf_70 : Nat → Int32) (u_71 : Int32), (2147483647 - u_71.toInt).toNat = nn_73 → (IV u_71 0 8) → (∀ (d_st2 : Nat → Int32) (m_thrown2 : Int32) (m_trouble2 : Int32) (d_undone2 : Nat → Int32) (m_undos2 : Int32) (r : Int32), (∃ n_1 : Nat, R_m_mendX_L1 d_r z_19 z_47 z_48 (fun (uf_70 : Nat → Int32) => ∃ z_81 : Int32, z_81 = uf_70 ((43 : Int32)).toNatClampNeg ∧ ∃ z_82 : Int32, z_82 = (1 : Int32) <<< (p0 &&& 31) ∧ ∃ z_84 : Int32, z_84 = z_81 ||| z_82 ∧ d_st2 = (upd uf_70 (43 : Int32).toNatClampNeg z_84) ∧ m_thrown2 = m_thrown2_1 ∧ m_trouble2 = m_trouble2_2 ∧ d_undone2 = d_undone2_39 ∧ m_undos2 = m_undos2_40 ∧ r = z_48) n_1 uf_70 u_71) → R_m_mendX p0 m_hasHouse m_undos d_r d_st d_undone d_st2 m_thrown2 m_trouble2 d_undone2 m_undos2 r) → Wk p l e _ s m args below meth c _ A g _ _ _ [(cAI g a_r 311 d_r), (cO11_i1r1i10r1i2r5i2r12i3r4i2 h0 m_thrown2_1 a_tape m_taped m_size m_at m_end m_token m_whole m_nameSize m_fault m_place m_trouble2_2 a_letters m_failed m_hasHouse a_r a_fresh a_st a_undone a_kept m_undos2_40 m_images a_from a_begin a_motor a_change a_startFrame a_changeFrame a_lostAt a_blackAt a_slips a_leftArc a_died a_arcs m_bestSum m_nearest m_nearestTown a_there a_backAt a_sorted a_parts m_seed1 m_darkNow), (cAI g a_st 44 uf_70), (cAI g a_undone 528 d_undone2_39)] [(5, .int u_71), (4, .int z_48), (3, .int z_47), (2, .int z_19), (0, .ref h0), (1, .int p0)] 183 [] => hL _ uf_59 0 rfl (iv_w (show IV 0 0 0 from (by decide)) (by decide) (by decide)) (fun d_st2 m_thrown2 m_trouble2 d_undone2 m_undos2 r h => (KH_0 _ _ _ _ _ _ ⟨0 + 1, ⟨z_65, ez_65, (Or.inl ⟨h_68, h⟩)⟩⟩))) ?_
          refine fun nn_73 => Nat.strongRecOn nn_73 (fun nn_73 ih_75 => ?_)
          intro uf_70 u_71 hm_74 hv_72 KH_1
          refine k_iload X dX11_mend_183 0 rfl ?_
          refine k_aload_n X dX11_mend_185 4 rfl ?_
          refine k_get (ci := 11) X inlX11 rfl 15 (by decide) dX11_mend_186 mw170 1 rfl rfl ?_
          refine k_bipush (v := 10) X dX11_mend_189 (by decide) ?_
          refine k_iald X dX11_mend_191 0 rfl (by unfold vp_in; decide) ?_
          refine k_nm (fun z_76 ez_76 => ?_)
          have i_77 : z_76.toInt = (d_r 10).toInt := by rw [ez_76]; rfl
          have iv_78 : IV z_76 0 6 := rb_10 ez_76 hp_d_r
          refine k_ic_ge 243 X dX11_mend_192 (by decide) (fun h_79 => ?_) (fun h_79 => ?_)
          · skip
            have j_80 : z_76.toInt ≤ u_71.toInt := iv_le h_79
            refine k_aload_n X dX11_mend_243 4 rfl ?_
            refine k_get (ci := 11) X inlX11 rfl 17 (by decide) dX11_mend_244 mw172 1 rfl rfl ?_
            refine k_bipush (v := 43) X dX11_mend_247 (by decide) ?_
            refine k_dup2 X dX11_mend_249 rfl rfl ?_
            refine k_iald X dX11_mend_250 2 rfl (by unfold vp_in; decide) ?_
            refine k_nm (fun z_81 ez_81 => ?_)
            refine k_iconst (v := 1) X dX11_mend_251 (by decide) ?_
            refine k_iload_n X dX11_mend_252 5 rfl ?_
            refine k_ishl X dX11_mend_253 ?_
            refine k_nm (fun z_82 ez_82 => ?_)
            have iv_83 : IV z_82 1 256 := iv_shl ez_82 (iv_w iv_11 (by decide) (by decide))
            refine k_ior X dX11_mend_254 ?_
            refine k_nm (fun z_84 ez_84 => ?_)
            refine k_iast [(cAI g a_r 311 d_r), (cO11_i1r1i10r1i2r5i2r12i3r4i2 h0 m_thrown2_1 a_tape m_taped m_size m_at m_end m_token m_whole m_nameSize m_fault m_place m_trouble2_2 a_letters m_failed m_hasHouse a_r a_fresh a_st a_undone a_kept m_undos2_40 m_images a_from a_begin a_motor a_change a_startFrame a_changeFrame a_lostAt a_blackAt a_slips a_leftArc a_died a_arcs m_bestSum m_nearest m_nearestTown a_there a_backAt a_sorted a_parts m_seed1 m_darkNow), (cAI g a_st 44 (upd uf_70 (43 : Int32).toNatClampNeg z_84)), (cAI g a_undone 528 d_undone2_39)] X dX11_mend_255 2 rfl (by unfold vp_in; decide) rfl ?_
            refine k_iload X dX11_mend_256 1 rfl ?_
            exact k_iret X hr dX11_mend_258 (Nat.le_of_ble_eq_true rfl) (Nat.le_of_ble_eq_true rfl) [1, 0, 2, 3] (by decide) rfl rfl ⟨(upd uf_70 (43 : Int32).toNatClampNeg z_84), m_thrown2_1, m_trouble2_2, d_undone2_39, m_undos2_40, (iv_w iv_42 (by decide) (by decide)), (KH_1 _ _ _ _ _ _ ⟨0 + 1, ⟨z_76, ez_76, (Or.inl ⟨h_79, ⟨z_81, ez_81, ⟨z_82, ez_82, ⟨z_84, ez_84, ⟨rfl, rfl, rfl, rfl, rfl, rfl⟩⟩⟩⟩⟩)⟩⟩), rfl⟩
          · skip
            have j_86 : u_71.toInt < z_76.toInt := iv_nle h_79
            have iv_87 : IV u_71 0 5 := iv_ltL (iv_nle h_79) hv_72 iv_78 (by decide)
            have iv_88 : IV z_76 1 6 := iv_ltR (iv_nle h_79) hv_72 iv_78 (by decide)
            refine k_aload_n X dX11_mend_195 4 rfl ?_
            refine k_get (ci := 11) X inlX11 rfl 15 (by decide) dX11_mend_196 mw170 1 rfl rfl ?_
            refine k_bipush (v := 96) X dX11_mend_199 (by decide) ?_
            refine k_iconst (v := 3) X dX11_mend_201 (by decide) ?_
            refine k_iload X dX11_mend_202 0 rfl ?_
            refine k_imul X dX11_mend_204 ?_
            refine k_nm (fun z_89 ez_89 => ?_)
            have i_90 : z_89.toInt = 3 * u_71.toInt := in_mul ez_89 (by decide) (by decide) iv_87 (by decide) (by decide)
            have iv_91 : IV z_89 0 15 := iz4 i_90 iv_87 (by decide) (by decide) (by decide)
            refine k_iadd X dX11_mend_205 ?_
            refine k_nm (fun z_92 ez_92 => ?_)
            have i_93 : z_92.toInt = 96 + z_89.toInt := in_add ez_92 (show IV 96 96 96 from (by decide)) iv_91 (by decide) (by decide)
            have iv_94 : IV z_92 96 111 := iz2 i_93 iv_91 (by decide) (by decide)
            refine k_iald X dX11_mend_206 0 rfl (iv_in iv_94 (by decide) (by decide)) ?_
            refine k_nm (fun z_95 ez_95 => ?_)
            have i_96 : z_92.toInt = 96 + 3 * u_71.toInt := by omega
            have iv_97 : IV z_95 0 7 := rb_96_3 ez_95 hp_d_r i_96 (iv_w iv_87 (by decide) (by decide))
            refine k_iload_n X dX11_mend_207 3 rfl ?_
            refine k_ic_ne 237 X dX11_mend_208 (by decide) (fun h_98 => ?_) (fun h_98 => ?_)
            · skip
              obtain ⟨z_99, ez_99⟩ : ∃ y : Int32, u_71 + Int32.ofInt 1 = y := ⟨_, rfl⟩
              refine k_iinc z_99 [(5, .int z_99), (4, .int z_48), (3, .int z_47), (2, .int z_19), (0, .ref h0), (1, .int p0)] 0 X dX11_mend_237 rfl ez_99 (by decide) rfl ?_
              have i_100 : z_99.toInt = u_71.toInt + 1 := in_inc ez_99 (by decide) iv_87 (by decide) (by decide)
              have iv_101 : IV z_99 1 6 := iz1 i_100 iv_87 (by decide) (by decide)
              refine k_goto 183 X dX11_mend_240 (by decide) ?_
              exact ih_75 _ (by omega) uf_70 z_99 rfl (iv_w iv_101 (by decide) (by decide)) (fun d_st2 m_thrown2 m_trouble2 d_undone2 m_undos2 r h => h.elim (fun n_1 q => (KH_1 _ _ _ _ _ _ ⟨n_1 + 1, ⟨z_76, ez_76, (Or.inr ⟨h_79, ⟨z_89, ez_89, ⟨z_92, ez_92, ⟨z_95, ez_95, (Or.inl ⟨h_98, ⟨z_99, ez_99, q⟩⟩)⟩⟩⟩⟩)⟩⟩)))
            · skip
              refine k_aload_n X dX11_mend_211 4 rfl ?_
              refine k_get (ci := 11) X inlX11 rfl 17 (by decide) dX11_mend_212 mw172 1 rfl rfl ?_
              refine k_bipush (v := 28) X dX11_mend_215 (by decide) ?_
              refine k_iload X dX11_mend_217 0 rfl ?_
              refine k_iadd X dX11_mend_219 ?_
              refine k_nm (fun z_102 ez_102 => ?_)
              have i_103 : z_102.toInt = 28 + u_71.toInt := in_add ez_102 (show IV 28 28 28 from (by decide)) iv_87 (by decide) (by decide)
              have iv_104 : IV z_102 28 33 := iz2 i_103 iv_87 (by decide) (by decide)
              refine k_aload_n X dX11_mend_220 4 rfl ?_
              refine k_get (ci := 11) X inlX11 rfl 17 (by decide) dX11_mend_221 mw172 1 rfl rfl ?_
              refine k_bipush (v := 28) X dX11_mend_224 (by decide) ?_
              refine k_iload X dX11_mend_226 0 rfl ?_
              refine k_iadd X dX11_mend_228 ?_
              refine k_to z_102 ez_102.symm ?_
              refine k_iald X dX11_mend_229 2 rfl (iv_in iv_104 (by decide) (by decide)) ?_
              refine k_nm (fun z_105 ez_105 => ?_)
              refine k_iload_n X dX11_mend_230 2 rfl ?_
              refine k_iload X dX11_mend_231 1 rfl ?_
              refine k_callSI (n := 3) (As := [.int z_105, .int z_47, .int z_48]) (st := [.int z_102, .ref a_st]) X [] [(cAI g a_r 311 d_r), (cO11_i1r1i10r1i2r5i2r12i3r4i2 h0 m_thrown2_1 a_tape m_taped m_size m_at m_end m_token m_whole m_nameSize m_fault m_place m_trouble2_2 a_letters m_failed m_hasHouse a_r a_fresh a_st a_undone a_kept m_undos2_40 m_images a_from a_begin a_motor a_change a_startFrame a_changeFrame a_lostAt a_blackAt a_slips a_leftArc a_died a_arcs m_bestSum m_nearest m_nearestTown a_there a_backAt a_sorted a_parts m_seed1 m_darkNow), (cAI g a_st 44 uf_70), (cAI g a_undone 528 d_undone2_39)] [] [0, 1, 2, 3] (m_shiftedX l g z_105 z_47 z_48) dX11_mend_233 mw1508 mw1509 mw5 mw1510 yk_yX11_shifted_3 rfl (Nat.le_of_ble_eq_true rfl) (Nat.le_of_ble_eq_true rfl) (Nat.le_of_ble_eq_true rfl) (Nat.le_of_ble_eq_true rfl) (Nat.le_of_ble_eq_true rfl) rfl rfl (by decide) rfl (by decide) (by decide) ?_
              rintro r_106 w ⟨hq_107, rfl⟩
              refine k_ws [(cAI g a_r 311 d_r), (cO11_i1r1i10r1i2r5i2r12i3r4i2 h0 m_thrown2_1 a_tape m_taped m_size m_at m_end m_token m_whole m_nameSize m_fault m_place m_trouble2_2 a_letters m_failed m_hasHouse a_r a_fresh a_st a_undone a_kept m_undos2_40 m_images a_from a_begin a_motor a_change a_startFrame a_changeFrame a_lostAt a_blackAt a_slips a_leftArc a_died a_arcs m_bestSum m_nearest m_nearestTown a_there a_backAt a_sorted a_parts m_seed1 m_darkNow), (cAI g a_st 44 uf_70), (cAI g a_undone 528 d_undone2_39)] rfl ?_
              refine k_iast [(cAI g a_r 311 d_r), (cO11_i1r1i10r1i2r5i2r12i3r4i2 h0 m_thrown2_1 a_tape m_taped m_size m_at m_end m_token m_whole m_nameSize m_fault m_place m_trouble2_2 a_letters m_failed m_hasHouse a_r a_fresh a_st a_undone a_kept m_undos2_40 m_images a_from a_begin a_motor a_change a_startFrame a_changeFrame a_lostAt a_blackAt a_slips a_leftArc a_died a_arcs m_bestSum m_nearest m_nearestTown a_there a_backAt a_sorted a_parts m_seed1 m_darkNow), (cAI g a_st 44 (upd uf_70 (z_102 : Int32).toNatClampNeg r_106)), (cAI g a_undone 528 d_undone2_39)] X dX11_mend_236 2 rfl (iv_in iv_104 (by decide) (by decide)) rfl ?_
              obtain ⟨z_109, ez_109⟩ : ∃ y : Int32, u_71 + Int32.ofInt 1 = y := ⟨_, rfl⟩
              refine k_iinc z_109 [(5, .int z_109), (4, .int z_48), (3, .int z_47), (2, .int z_19), (0, .ref h0), (1, .int p0)] 0 X dX11_mend_237 rfl ez_109 (by decide) rfl ?_
              have i_110 : z_109.toInt = u_71.toInt + 1 := in_inc ez_109 (by decide) iv_87 (by decide) (by decide)
              have iv_111 : IV z_109 1 6 := iz1 i_110 iv_87 (by decide) (by decide)
              refine k_goto 183 X dX11_mend_240 (by decide) ?_
              exact ih_75 _ (by omega) ((upd uf_70 (z_102 : Int32).toNatClampNeg r_106)) z_109 rfl (iv_w iv_111 (by decide) (by decide)) (fun d_st2 m_thrown2 m_trouble2 d_undone2 m_undos2 r h => h.elim (fun n_1 q => (KH_1 _ _ _ _ _ _ ⟨n_1 + 1, ⟨z_76, ez_76, (Or.inr ⟨h_79, ⟨z_89, ez_89, ⟨z_92, ez_92, ⟨z_95, ez_95, (Or.inr ⟨h_98, ⟨z_102, ez_102, ⟨z_105, ez_105, ⟨r_106, hq_107, ⟨z_109, ez_109, q⟩⟩⟩⟩⟩)⟩⟩⟩⟩)⟩⟩)))
        · skip
          have j_112 : u_60.toInt < z_65.toInt := iv_nle h_68
          have iv_113 : IV u_60 0 11 := iv_ltL (iv_nle h_68) hv_61 iv_67 (by decide)
          have iv_114 : IV z_65 1 12 := iv_ltR (iv_nle h_68) hv_61 iv_67 (by decide)
          refine k_aload_n X dX11_mend_132 4 rfl ?_
          refine k_get (ci := 11) X inlX11 rfl 15 (by decide) dX11_mend_133 mw170 1 rfl rfl ?_
          refine k_bipush (v := 44) X dX11_mend_136 (by decide) ?_
          refine k_iconst (v := 3) X dX11_mend_138 (by decide) ?_
          refine k_iload X dX11_mend_139 0 rfl ?_
          refine k_imul X dX11_mend_141 ?_
          refine k_nm (fun z_115 ez_115 => ?_)
          have i_116 : z_115.toInt = 3 * u_60.toInt := in_mul ez_115 (by decide) (by decide) iv_113 (by decide) (by decide)
          have iv_117 : IV z_115 0 33 := iz4 i_116 iv_113 (by decide) (by decide) (by decide)
          refine k_iadd X dX11_mend_142 ?_
          refine k_nm (fun z_118 ez_118 => ?_)
          have i_119 : z_118.toInt = 44 + z_115.toInt := in_add ez_118 (show IV 44 44 44 from (by decide)) iv_117 (by decide) (by decide)
          have iv_120 : IV z_118 44 77 := iz2 i_119 iv_117 (by decide) (by decide)
          refine k_iald X dX11_mend_143 0 rfl (iv_in iv_120 (by decide) (by decide)) ?_
          refine k_nm (fun z_121 ez_121 => ?_)
          have i_122 : z_118.toInt = 44 + 3 * u_60.toInt := by omega
          have iv_123 : IV z_121 0 7 := rb_44_3 ez_121 hp_d_r i_122 (iv_w iv_113 (by decide) (by decide))
          refine k_iload_n X dX11_mend_144 3 rfl ?_
          refine k_ic_ne 174 X dX11_mend_145 (by decide) (fun h_124 => ?_) (fun h_124 => ?_)
          · skip
            obtain ⟨z_125, ez_125⟩ : ∃ y : Int32, u_60 + Int32.ofInt 1 = y := ⟨_, rfl⟩
            refine k_iinc z_125 [(5, .int z_125), (4, .int z_48), (3, .int z_47), (2, .int z_19), (0, .ref h0), (1, .int p0)] 0 X dX11_mend_174 rfl ez_125 (by decide) rfl ?_
            have i_126 : z_125.toInt = u_60.toInt + 1 := in_inc ez_125 (by decide) iv_113 (by decide) (by decide)
            have iv_127 : IV z_125 1 12 := iz1 i_126 iv_113 (by decide) (by decide)
            refine k_goto 120 X dX11_mend_177 (by decide) ?_
            exact ih_64 _ (by omega) uf_59 z_125 rfl (iv_w iv_127 (by decide) (by decide)) (fun d_st2 m_thrown2 m_trouble2 d_undone2 m_undos2 r h => h.elim (fun n_0 q => (KH_0 _ _ _ _ _ _ ⟨n_0 + 1, ⟨z_65, ez_65, (Or.inr ⟨h_68, ⟨z_115, ez_115, ⟨z_118, ez_118, ⟨z_121, ez_121, (Or.inl ⟨h_124, ⟨z_125, ez_125, q⟩⟩)⟩⟩⟩⟩)⟩⟩)))
          · skip
            refine k_aload_n X dX11_mend_148 4 rfl ?_
            refine k_get (ci := 11) X inlX11 rfl 17 (by decide) dX11_mend_149 mw172 1 rfl rfl ?_
            refine k_bipush (v := 16) X dX11_mend_152 (by decide) ?_
            refine k_iload X dX11_mend_154 0 rfl ?_
            refine k_iadd X dX11_mend_156 ?_
            refine k_nm (fun z_128 ez_128 => ?_)
            have i_129 : z_128.toInt = 16 + u_60.toInt := in_add ez_128 (show IV 16 16 16 from (by decide)) iv_113 (by decide) (by decide)
            have iv_130 : IV z_128 16 27 := iz2 i_129 iv_113 (by decide) (by decide)
            refine k_aload_n X dX11_mend_157 4 rfl ?_
            refine k_get (ci := 11) X inlX11 rfl 17 (by decide) dX11_mend_158 mw172 1 rfl rfl ?_
            refine k_bipush (v := 16) X dX11_mend_161 (by decide) ?_
            refine k_iload X dX11_mend_163 0 rfl ?_
            refine k_iadd X dX11_mend_165 ?_
            refine k_to z_128 ez_128.symm ?_
            refine k_iald X dX11_mend_166 2 rfl (iv_in iv_130 (by decide) (by decide)) ?_
            refine k_nm (fun z_131 ez_131 => ?_)
            refine k_iload_n X dX11_mend_167 2 rfl ?_
            refine k_iload X dX11_mend_168 1 rfl ?_
            refine k_callSI (n := 3) (As := [.int z_131, .int z_47, .int z_48]) (st := [.int z_128, .ref a_st]) X [] [(cAI g a_r 311 d_r), (cO11_i1r1i10r1i2r5i2r12i3r4i2 h0 m_thrown2_1 a_tape m_taped m_size m_at m_end m_token m_whole m_nameSize m_fault m_place m_trouble2_2 a_letters m_failed m_hasHouse a_r a_fresh a_st a_undone a_kept m_undos2_40 m_images a_from a_begin a_motor a_change a_startFrame a_changeFrame a_lostAt a_blackAt a_slips a_leftArc a_died a_arcs m_bestSum m_nearest m_nearestTown a_there a_backAt a_sorted a_parts m_seed1 m_darkNow), (cAI g a_st 44 uf_59), (cAI g a_undone 528 d_undone2_39)] [] [0, 1, 2, 3] (m_shiftedX l g z_131 z_47 z_48) dX11_mend_170 mw1508 mw1509 mw5 mw1510 yk_yX11_shifted_3 rfl (Nat.le_of_ble_eq_true rfl) (Nat.le_of_ble_eq_true rfl) (Nat.le_of_ble_eq_true rfl) (Nat.le_of_ble_eq_true rfl) (Nat.le_of_ble_eq_true rfl) rfl rfl (by decide) rfl (by decide) (by decide) ?_
            rintro r_132 w ⟨hq_133, rfl⟩
            refine k_ws [(cAI g a_r 311 d_r), (cO11_i1r1i10r1i2r5i2r12i3r4i2 h0 m_thrown2_1 a_tape m_taped m_size m_at m_end m_token m_whole m_nameSize m_fault m_place m_trouble2_2 a_letters m_failed m_hasHouse a_r a_fresh a_st a_undone a_kept m_undos2_40 m_images a_from a_begin a_motor a_change a_startFrame a_changeFrame a_lostAt a_blackAt a_slips a_leftArc a_died a_arcs m_bestSum m_nearest m_nearestTown a_there a_backAt a_sorted a_parts m_seed1 m_darkNow), (cAI g a_st 44 uf_59), (cAI g a_undone 528 d_undone2_39)] rfl ?_
            refine k_iast [(cAI g a_r 311 d_r), (cO11_i1r1i10r1i2r5i2r12i3r4i2 h0 m_thrown2_1 a_tape m_taped m_size m_at m_end m_token m_whole m_nameSize m_fault m_place m_trouble2_2 a_letters m_failed m_hasHouse a_r a_fresh a_st a_undone a_kept m_undos2_40 m_images a_from a_begin a_motor a_change a_startFrame a_changeFrame a_lostAt a_blackAt a_slips a_leftArc a_died a_arcs m_bestSum m_nearest m_nearestTown a_there a_backAt a_sorted a_parts m_seed1 m_darkNow), (cAI g a_st 44 (upd uf_59 (z_128 : Int32).toNatClampNeg r_132)), (cAI g a_undone 528 d_undone2_39)] X dX11_mend_173 2 rfl (iv_in iv_130 (by decide) (by decide)) rfl ?_
            obtain ⟨z_135, ez_135⟩ : ∃ y : Int32, u_60 + Int32.ofInt 1 = y := ⟨_, rfl⟩
            refine k_iinc z_135 [(5, .int z_135), (4, .int z_48), (3, .int z_47), (2, .int z_19), (0, .ref h0), (1, .int p0)] 0 X dX11_mend_174 rfl ez_135 (by decide) rfl ?_
            have i_136 : z_135.toInt = u_60.toInt + 1 := in_inc ez_135 (by decide) iv_113 (by decide) (by decide)
            have iv_137 : IV z_135 1 12 := iz1 i_136 iv_113 (by decide) (by decide)
            refine k_goto 120 X dX11_mend_177 (by decide) ?_
            exact ih_64 _ (by omega) ((upd uf_59 (z_128 : Int32).toNatClampNeg r_132)) z_135 rfl (iv_w iv_137 (by decide) (by decide)) (fun d_st2 m_thrown2 m_trouble2 d_undone2 m_undos2 r h => h.elim (fun n_0 q => (KH_0 _ _ _ _ _ _ ⟨n_0 + 1, ⟨z_65, ez_65, (Or.inr ⟨h_68, ⟨z_115, ez_115, ⟨z_118, ez_118, ⟨z_121, ez_121, (Or.inr ⟨h_124, ⟨z_128, ez_128, ⟨z_131, ez_131, ⟨r_132, hq_133, ⟨z_135, ez_135, q⟩⟩⟩⟩⟩)⟩⟩⟩⟩)⟩⟩)))
      · skip
        have j_138 : z_35.toInt < 6 := iv_nle h_36
        have iv_139 : IV z_35 (-2147483648) 5 := iv_ltL (iv_nle h_36) (iv_any z_35) (show IV 6 6 6 from (by decide)) (by decide)
        refine k_aload_n X dX11_mend_51 1 rfl ?_
        refine k_iconst (v := 5) X dX11_mend_52 (by decide) ?_
        refine k_callVI (n := 1) (As := [.int 5]) (st := []) X [(cO11_i1r1i10r1i2r5i2r12i3r4i2 h0 m_thrown2_1 a_tape m_taped m_size m_at m_end m_token m_whole m_nameSize m_fault m_place m_trouble2_2 a_letters m_failed m_hasHouse a_r a_fresh a_st a_undone a_kept m_undos m_images a_from a_begin a_motor a_change a_startFrame a_changeFrame a_lostAt a_blackAt a_slips a_leftArc a_died a_arcs m_bestSum m_nearest m_nearestTown a_there a_backAt a_sorted a_parts m_seed1 m_darkNow)] [(cAI g a_undone 528 d_undone), (cAI g a_r 311 d_r), (cAI g a_st 44 d_st)] [2] [0, 1, 3] (m_noX l g h0 5 m_thrown2_1 a_tape m_taped m_size m_at m_end m_token m_whole m_nameSize m_fault m_place m_trouble2_2 a_letters m_failed m_hasHouse a_r a_fresh a_st a_undone a_kept m_undos m_images a_from a_begin a_motor a_change a_startFrame a_changeFrame a_lostAt a_blackAt a_slips a_leftArc a_died a_arcs m_bestSum m_nearest m_nearestTown a_there a_backAt a_sorted a_parts m_seed1 m_darkNow) dX11_mend_53 mw485 mw486 mw487 mw5 mw488 rfl 11 rfl rfl 0 _ rfl yk_yX11_no_1 rfl (Nat.le_of_ble_eq_true rfl) (Nat.le_of_ble_eq_true rfl) (Nat.le_of_ble_eq_true rfl) (Nat.le_of_ble_eq_true rfl) (Nat.le_of_ble_eq_true rfl) rfl rfl (by decide) rfl (by decide) (by decide) ?_
        rintro r_141 w ⟨m_trouble2_140, iv_142, hq_143, rfl⟩
        refine k_ws [(cAI g a_undone 528 d_undone), (cAI g a_r 311 d_r), (cAI g a_st 44 d_st), (cO11_i1r1i10r1i2r5i2r12i3r4i2 h0 m_thrown2_1 a_tape m_taped m_size m_at m_end m_token m_whole m_nameSize m_fault m_place m_trouble2_140 a_letters m_failed m_hasHouse a_r a_fresh a_st a_undone a_kept m_undos m_images a_from a_begin a_motor a_change a_startFrame a_changeFrame a_lostAt a_blackAt a_slips a_leftArc a_died a_arcs m_bestSum m_nearest m_nearestTown a_there a_backAt a_sorted a_parts m_seed1 m_darkNow)] rfl ?_
        exact k_iret X hr dX11_mend_56 (Nat.le_of_ble_eq_true rfl) (Nat.le_of_ble_eq_true rfl) [3, 1, 2, 0] (by decide) rfl rfl ⟨d_st, m_thrown2_1, m_trouble2_140, d_undone, m_undos, (iv_w hv_m_undos (by decide) (by decide)), ⟨m_thrown2_1, m_trouble2_2, hq_4, ⟨r_5, hq_7, (Or.inl ⟨h_9, ⟨z_13, ez_13, ⟨z_16, ez_16, ⟨z_19, ez_19, ⟨r_22, hq_24, (Or.inr ⟨h_25, ⟨z_32, ez_32, ⟨z_35, ez_35, (Or.inr ⟨h_36, ⟨m_trouble2_140, r_141, hq_143, ⟨rfl, rfl, rfl, rfl, rfl, rfl⟩⟩⟩)⟩⟩⟩)⟩⟩⟩⟩⟩)⟩⟩, rfl⟩
  · skip
    have iv_144 : IV r_5 0 0 := iv_meet iv_6 (iv_e h_9 (show IV 0 0 0 from (by decide))) (by decide) (by decide)
    refine k_aload_n X dX11_mend_12 0 rfl ?_
    refine k_iconst (v := 1) X dX11_mend_13 (by decide) ?_
    refine k_callVI (n := 1) (As := [.int 1]) (st := []) X [(cO11_i1r1i10r1i2r5i2r12i3r4i2 h0 m_thrown2_1 a_tape m_taped m_size m_at m_end m_token m_whole m_nameSize m_fault m_place m_trouble2_2 a_letters m_failed m_hasHouse a_r a_fresh a_st a_undone a_kept m_undos m_images a_from a_begin a_motor a_change a_startFrame a_changeFrame a_lostAt a_blackAt a_slips a_leftArc a_died a_arcs m_bestSum m_nearest m_nearestTown a_there a_backAt a_sorted a_parts m_seed1 m_darkNow)] [(cAI g a_st 44 d_st), (cAI g a_undone 528 d_undone), (cAI g a_r 311 d_r)] [2] [0, 1, 3] (m_noX l g h0 1 m_thrown2_1 a_tape m_taped m_size m_at m_end m_token m_whole m_nameSize m_fault m_place m_trouble2_2 a_letters m_failed m_hasHouse a_r a_fresh a_st a_undone a_kept m_undos m_images a_from a_begin a_motor a_change a_startFrame a_changeFrame a_lostAt a_blackAt a_slips a_leftArc a_died a_arcs m_bestSum m_nearest m_nearestTown a_there a_backAt a_sorted a_parts m_seed1 m_darkNow) dX11_mend_14 mw485 mw486 mw487 mw5 mw488 rfl 11 rfl rfl 0 _ rfl yk_yX11_no_1 rfl (Nat.le_of_ble_eq_true rfl) (Nat.le_of_ble_eq_true rfl) (Nat.le_of_ble_eq_true rfl) (Nat.le_of_ble_eq_true rfl) (Nat.le_of_ble_eq_true rfl) rfl rfl (by decide) rfl (by decide) (by decide) ?_
    rintro r_146 w ⟨m_trouble2_145, iv_147, hq_148, rfl⟩
    refine k_ws [(cAI g a_st 44 d_st), (cAI g a_undone 528 d_undone), (cAI g a_r 311 d_r), (cO11_i1r1i10r1i2r5i2r12i3r4i2 h0 m_thrown2_1 a_tape m_taped m_size m_at m_end m_token m_whole m_nameSize m_fault m_place m_trouble2_145 a_letters m_failed m_hasHouse a_r a_fresh a_st a_undone a_kept m_undos m_images a_from a_begin a_motor a_change a_startFrame a_changeFrame a_lostAt a_blackAt a_slips a_leftArc a_died a_arcs m_bestSum m_nearest m_nearestTown a_there a_backAt a_sorted a_parts m_seed1 m_darkNow)] rfl ?_
    exact k_iret X hr dX11_mend_17 (Nat.le_of_ble_eq_true rfl) (Nat.le_of_ble_eq_true rfl) [3, 2, 0, 1] (by decide) rfl rfl ⟨d_st, m_thrown2_1, m_trouble2_145, d_undone, m_undos, (iv_w hv_m_undos (by decide) (by decide)), ⟨m_thrown2_1, m_trouble2_2, hq_4, ⟨r_5, hq_7, (Or.inr ⟨h_9, ⟨m_trouble2_145, r_146, hq_148, ⟨rfl, rfl, rfl, rfl, rfl, rfl⟩⟩⟩)⟩⟩, rfl⟩


set_option maxHeartbeats 4000000 in
set_option maxRecDepth 100000 in
theorem m_undoX (l : Launch) (g : Gx) (h0 : Nat) (m_thrown : Int32) (a_tape : Nat) (m_taped : Int32) (m_size : Int32) (m_at : Int32) (m_end : Int32) (m_token : Int32) (m_whole : Int32) (m_nameSize : Int32) (m_fault : Int32) (m_place : Int32) (m_trouble : Int32) (a_letters : Nat) (m_failed : Int32) (m_hasHouse : Int32) (a_r : Nat) (a_fresh : Nat) (a_st : Nat) (a_undone : Nat) (a_kept : Nat) (m_undos : Int32) (m_images : Int32) (a_from : Nat) (a_begin : Nat) (a_motor : Nat) (a_change : Nat) (a_startFrame : Nat) (a_changeFrame : Nat) (a_lostAt : Nat) (a_blackAt : Nat) (a_slips : Nat) (a_leftArc : Nat) (a_died : Nat) (a_arcs : Nat) (m_bestSum : Int32) (m_nearest : Int32) (m_nearestTown : Int32) (a_there : Nat) (a_backAt : Nat) (a_sorted : Nat) (a_parts : Nat) (m_seed1 : Int32) (m_darkNow : Int32) (d_st : Nat → Int32) (d_undone : Nat → Int32) (hv_m_undos : IV m_undos 0 12) : cI l g yX11_undo cX11_undo 1 (some .boolean) 1 25 0 0 [.ref h0] [(cO11_i1r1i10r1i2r5i2r12i3r4i2 h0 m_thrown a_tape m_taped m_size m_at m_end m_token m_whole m_nameSize m_fault m_place m_trouble a_letters m_failed m_hasHouse a_r a_fresh a_st a_undone a_kept m_undos m_images a_from a_begin a_motor a_change a_startFrame a_changeFrame a_lostAt a_blackAt a_slips a_leftArc a_died a_arcs m_bestSum m_nearest m_nearestTown a_there a_backAt a_sorted a_parts m_seed1 m_darkNow), (cAI g a_st 44 d_st), (cAI g a_undone 528 d_undone)] (fun r w => ∃ (d_st2 : Nat → Int32) (m_thrown2 : Int32) (m_trouble2 : Int32) (m_undos2 : Int32), IV m_undos2 0 12 ∧ IV r 0 1 ∧ (R_m_undoX m_undos d_st d_undone d_st2 m_thrown2 m_trouble2 m_undos2 r) ∧ w = [(cO11_i1r1i10r1i2r5i2r12i3r4i2 h0 m_thrown2 a_tape m_taped m_size m_at m_end m_token m_whole m_nameSize m_fault m_place m_trouble2 a_letters m_failed m_hasHouse a_r a_fresh a_st a_undone a_kept m_undos2 m_images a_from a_begin a_motor a_change a_startFrame a_changeFrame a_lostAt a_blackAt a_slips a_leftArc a_died a_arcs m_bestSum m_nearest m_nearestTown a_there a_backAt a_sorted a_parts m_seed1 m_darkNow), (cAI g a_st 44 d_st2), (cAI g a_undone 528 d_undone)]) := by
  refine cI.of (by decide) (Nat.le_of_ble_eq_true rfl) ?_
  intro p e s m args below meth c A X hr hi
  refine k_lveq [(0, .ref h0)] rfl ?_
  refine k_aload_n X dX11_undo_0 0 rfl ?_
  refine k_callVV (n := 0) (As := []) (st := []) X [(cO11_i1r1i10r1i2r5i2r12i3r4i2 h0 m_thrown a_tape m_taped m_size m_at m_end m_token m_whole m_nameSize m_fault m_place m_trouble a_letters m_failed m_hasHouse a_r a_fresh a_st a_undone a_kept m_undos m_images a_from a_begin a_motor a_change a_startFrame a_changeFrame a_lostAt a_blackAt a_slips a_leftArc a_died a_arcs m_bestSum m_nearest m_nearestTown a_there a_backAt a_sorted a_parts m_seed1 m_darkNow)] [(cAI g a_st 44 d_st), (cAI g a_undone 528 d_undone)] [0] [1, 2] (m_goodX l g h0 m_thrown a_tape m_taped m_size m_at m_end m_token m_whole m_nameSize m_fault m_place m_trouble a_letters m_failed m_hasHouse a_r a_fresh a_st a_undone a_kept m_undos m_images a_from a_begin a_motor a_change a_startFrame a_changeFrame a_lostAt a_blackAt a_slips a_leftArc a_died a_arcs m_bestSum m_nearest m_nearestTown a_there a_backAt a_sorted a_parts m_seed1 m_darkNow) dX11_undo_1 mw477 mw478 mw479 mw5 mw480 rfl 11 rfl rfl 0 _ rfl yk_yX11_good_0 rfl (Nat.le_of_ble_eq_true rfl) (Nat.le_of_ble_eq_true rfl) (Nat.le_of_ble_eq_true rfl) (Nat.le_of_ble_eq_true rfl) (Nat.le_of_ble_eq_true rfl) rfl rfl (by decide) rfl (by decide) (by decide) ?_
  rintro w ⟨m_thrown2_1, m_trouble2_2, hq_4, rfl⟩
  refine k_ws [(cAI g a_st 44 d_st), (cAI g a_undone 528 d_undone), (cO11_i1r1i10r1i2r5i2r12i3r4i2 h0 m_thrown2_1 a_tape m_taped m_size m_at m_end m_token m_whole m_nameSize m_fault m_place m_trouble2_2 a_letters m_failed m_hasHouse a_r a_fresh a_st a_undone a_kept m_undos m_images a_from a_begin a_motor a_change a_startFrame a_changeFrame a_lostAt a_blackAt a_slips a_leftArc a_died a_arcs m_bestSum m_nearest m_nearestTown a_there a_backAt a_sorted a_parts m_seed1 m_darkNow)] rfl ?_
  refine k_aload_n X dX11_undo_4 0 rfl ?_
  refine k_get (ci := 11) X inlX11 rfl 20 (by decide) dX11_undo_5 mw475 2 rfl rfl ?_
  refine k_if_ne 18 X dX11_undo_8 (by decide) (fun h_5 => ?_) (fun h_5 => ?_)
  · skip
    have iv_6 : IV m_undos 1 12 := iv_neL h_5 hv_m_undos (show IV 0 0 0 from (by decide)) (by decide)
    refine k_aload_n X dX11_undo_18 0 rfl ?_
    refine k_dup X dX11_undo_19 rfl ?_
    refine k_get (ci := 11) X inlX11 rfl 20 (by decide) dX11_undo_20 mw475 2 rfl rfl ?_
    refine k_iconst (v := 1) X dX11_undo_23 (by decide) ?_
    refine k_isub X dX11_undo_24 ?_
    refine k_nm (fun z_7 ez_7 => ?_)
    have i_8 : z_7.toInt = m_undos.toInt - 1 := in_sub ez_7 iv_6 (show IV 1 1 1 from (by decide)) (by decide) (by decide)
    have iv_9 : IV z_7 0 11 := iz5 i_8 iv_6 (by decide) (by decide)
    refine k_put (ci := 11) [(cAI g a_st 44 d_st), (cAI g a_undone 528 d_undone), (cO11_i1r1i10r1i2r5i2r12i3r4i2 h0 m_thrown2_1 a_tape m_taped m_size m_at m_end m_token m_whole m_nameSize m_fault m_place m_trouble2_2 a_letters m_failed m_hasHouse a_r a_fresh a_st a_undone a_kept z_7 m_images a_from a_begin a_motor a_change a_startFrame a_changeFrame a_lostAt a_blackAt a_slips a_leftArc a_died a_arcs m_bestSum m_nearest m_nearestTown a_there a_backAt a_sorted a_parts m_seed1 m_darkNow)] X inlX11 rfl tyX11_ok nmX11 20 (by decide) rfl dX11_undo_25 mw475 2 rfl rfl rfl (Nat.le_of_ble_eq_true rfl) rfl ?_
    refine k_aload_n X dX11_undo_28 0 rfl ?_
    refine k_get (ci := 11) X inlX11 rfl 18 (by decide) dX11_undo_29 mw173 2 rfl rfl ?_
    refine k_bipush (v := 44) X dX11_undo_32 (by decide) ?_
    refine k_aload_n X dX11_undo_34 0 rfl ?_
    refine k_get (ci := 11) X inlX11 rfl 20 (by decide) dX11_undo_35 mw475 2 rfl rfl ?_
    refine k_imul X dX11_undo_38 ?_
    refine k_nm (fun z_10 ez_10 => ?_)
    have i_11 : z_10.toInt = 44 * z_7.toInt := in_mul ez_10 (by decide) (by decide) iv_9 (by decide) (by decide)
    have iv_12 : IV z_10 0 484 := iz4 i_11 iv_9 (by decide) (by decide) (by decide)
    refine k_aload_n X dX11_undo_39 0 rfl ?_
    refine k_get (ci := 11) X inlX11 rfl 17 (by decide) dX11_undo_40 mw172 2 rfl rfl ?_
    refine k_iconst (v := 0) X dX11_undo_43 (by decide) ?_
    refine k_bipush (v := 44) X dX11_undo_44 (by decide) ?_
    refine k_callSV (n := 5) (As := [.ref a_undone, .int z_10, .ref a_st, .int 0, .int 44]) (st := []) X [(cAI g a_undone 528 d_undone), (cAI g a_st 44 d_st)] [(cO11_i1r1i10r1i2r5i2r12i3r4i2 h0 m_thrown2_1 a_tape m_taped m_size m_at m_end m_token m_whole m_nameSize m_fault m_place m_trouble2_2 a_letters m_failed m_hasHouse a_r a_fresh a_st a_undone a_kept z_7 m_images a_from a_begin a_motor a_change a_startFrame a_changeFrame a_lostAt a_blackAt a_slips a_leftArc a_died a_arcs m_bestSum m_nearest m_nearestTown a_there a_backAt a_sorted a_parts m_seed1 m_darkNow)] [1, 0] [2] (m_copyBX l g a_undone z_10 a_st d_undone d_st (iv_w iv_12 (by decide) (by decide))) dX11_undo_46 mw619 mw620 mw5 mw621 yk_yX11_copy_5 rfl (Nat.le_of_ble_eq_true rfl) (Nat.le_of_ble_eq_true rfl) (Nat.le_of_ble_eq_true rfl) (Nat.le_of_ble_eq_true rfl) (Nat.le_of_ble_eq_true rfl) rfl rfl (by decide) rfl (by decide) (by decide) ?_
    rintro w ⟨f3_13, hq_15, rfl⟩
    refine k_ws [(cO11_i1r1i10r1i2r5i2r12i3r4i2 h0 m_thrown2_1 a_tape m_taped m_size m_at m_end m_token m_whole m_nameSize m_fault m_place m_trouble2_2 a_letters m_failed m_hasHouse a_r a_fresh a_st a_undone a_kept z_7 m_images a_from a_begin a_motor a_change a_startFrame a_changeFrame a_lostAt a_blackAt a_slips a_leftArc a_died a_arcs m_bestSum m_nearest m_nearestTown a_there a_backAt a_sorted a_parts m_seed1 m_darkNow), (cAI g a_undone 528 d_undone), (cAI g a_st 44 f3_13)] rfl ?_
    refine k_iconst (v := 1) X dX11_undo_49 (by decide) ?_
    exact k_zret X hr (by first | rfl | decide) dX11_undo_50 (Nat.le_of_ble_eq_true rfl) (Nat.le_of_ble_eq_true rfl) [0, 2, 1] (by decide) rfl rfl ⟨f3_13, m_thrown2_1, m_trouble2_2, z_7, (iv_w iv_9 (by decide) (by decide)), (iv_w (show IV 1 1 1 from (by decide)) (by decide) (by decide)), ⟨m_thrown2_1, m_trouble2_2, hq_4, (Or.inl ⟨h_5, ⟨z_7, ez_7, ⟨z_10, ez_10, ⟨f3_13, hq_15, ⟨rfl, rfl, rfl, rfl, rfl⟩⟩⟩⟩⟩)⟩, rfl⟩
  · skip
    have iv_16 : IV m_undos 0 0 := iv_meet hv_m_undos (iv_e h_5 (show IV 0 0 0 from (by decide))) (by decide) (by decide)
    refine k_aload_n X dX11_undo_11 0 rfl ?_
    refine k_bipush (v := 6) X dX11_undo_12 (by decide) ?_
    refine k_callVI (n := 1) (As := [.int 6]) (st := []) X [(cO11_i1r1i10r1i2r5i2r12i3r4i2 h0 m_thrown2_1 a_tape m_taped m_size m_at m_end m_token m_whole m_nameSize m_fault m_place m_trouble2_2 a_letters m_failed m_hasHouse a_r a_fresh a_st a_undone a_kept m_undos m_images a_from a_begin a_motor a_change a_startFrame a_changeFrame a_lostAt a_blackAt a_slips a_leftArc a_died a_arcs m_bestSum m_nearest m_nearestTown a_there a_backAt a_sorted a_parts m_seed1 m_darkNow)] [(cAI g a_st 44 d_st), (cAI g a_undone 528 d_undone)] [2] [0, 1] (m_isNotX l g h0 6 m_thrown2_1 a_tape m_taped m_size m_at m_end m_token m_whole m_nameSize m_fault m_place m_trouble2_2 a_letters m_failed m_hasHouse a_r a_fresh a_st a_undone a_kept m_undos m_images a_from a_begin a_motor a_change a_startFrame a_changeFrame a_lostAt a_blackAt a_slips a_leftArc a_died a_arcs m_bestSum m_nearest m_nearestTown a_there a_backAt a_sorted a_parts m_seed1 m_darkNow) dX11_undo_14 mw1471 mw1472 mw1473 mw5 mw1474 rfl 11 rfl rfl 0 _ rfl yk_yX11_isNot_1 rfl (Nat.le_of_ble_eq_true rfl) (Nat.le_of_ble_eq_true rfl) (Nat.le_of_ble_eq_true rfl) (Nat.le_of_ble_eq_true rfl) (Nat.le_of_ble_eq_true rfl) rfl rfl (by decide) rfl (by decide) (by decide) ?_
    rintro r_18 w ⟨m_trouble2_17, iv_19, hq_20, rfl⟩
    refine k_ws [(cAI g a_st 44 d_st), (cAI g a_undone 528 d_undone), (cO11_i1r1i10r1i2r5i2r12i3r4i2 h0 m_thrown2_1 a_tape m_taped m_size m_at m_end m_token m_whole m_nameSize m_fault m_place m_trouble2_17 a_letters m_failed m_hasHouse a_r a_fresh a_st a_undone a_kept m_undos m_images a_from a_begin a_motor a_change a_startFrame a_changeFrame a_lostAt a_blackAt a_slips a_leftArc a_died a_arcs m_bestSum m_nearest m_nearestTown a_there a_backAt a_sorted a_parts m_seed1 m_darkNow)] rfl ?_
    exact k_zret X hr (zn_b (iv_w iv_19 (by decide) (by decide))) dX11_undo_17 (Nat.le_of_ble_eq_true rfl) (Nat.le_of_ble_eq_true rfl) [2, 0, 1] (by decide) rfl rfl ⟨d_st, m_thrown2_1, m_trouble2_17, m_undos, (iv_w iv_16 (by decide) (by decide)), (iv_w iv_19 (by decide) (by decide)), ⟨m_thrown2_1, m_trouble2_2, hq_4, (Or.inr ⟨h_5, ⟨m_trouble2_17, r_18, hq_20, ⟨rfl, rfl, rfl, rfl, rfl⟩⟩⟩)⟩, rfl⟩


set_option maxHeartbeats 4000000 in
set_option maxRecDepth 100000 in
theorem m_imageX (l : Launch) (g : Gx) (h0 : Nat) (m_thrown : Int32) (a_tape : Nat) (m_taped : Int32) (m_size : Int32) (m_at : Int32) (m_end : Int32) (m_token : Int32) (m_whole : Int32) (m_nameSize : Int32) (m_fault : Int32) (m_place : Int32) (m_trouble : Int32) (a_letters : Nat) (m_failed : Int32) (m_hasHouse : Int32) (a_r : Nat) (a_fresh : Nat) (a_st : Nat) (a_undone : Nat) (a_kept : Nat) (m_undos : Int32) (m_images : Int32) (a_from : Nat) (a_begin : Nat) (a_motor : Nat) (a_change : Nat) (a_startFrame : Nat) (a_changeFrame : Nat) (a_lostAt : Nat) (a_blackAt : Nat) (a_slips : Nat) (a_leftArc : Nat) (a_died : Nat) (a_arcs : Nat) (m_bestSum : Int32) (m_nearest : Int32) (m_nearestTown : Int32) (a_there : Nat) (a_backAt : Nat) (a_sorted : Nat) (a_parts : Nat) (m_seed1 : Int32) (m_darkNow : Int32) (d_st : Nat → Int32) (d_kept : Nat → Int32) (hv_m_hasHouse : IV m_hasHouse 0 1) (hv_m_images : IV m_images 0 3) : cI l g yX11_image cX11_image 1 (some .int) 1 25 0 0 [.ref h0] [(cO11_i1r1i10r1i2r5i2r12i3r4i2 h0 m_thrown a_tape m_taped m_size m_at m_end m_token m_whole m_nameSize m_fault m_place m_trouble a_letters m_failed m_hasHouse a_r a_fresh a_st a_undone a_kept m_undos m_images a_from a_begin a_motor a_change a_startFrame a_changeFrame a_lostAt a_blackAt a_slips a_leftArc a_died a_arcs m_bestSum m_nearest m_nearestTown a_there a_backAt a_sorted a_parts m_seed1 m_darkNow), (cAI g a_st 44 d_st), (cAI g a_kept 132 d_kept)] (fun r w => ∃ (m_images2 : Int32) (d_kept2 : Nat → Int32) (m_thrown2 : Int32) (m_trouble2 : Int32), IV m_images2 0 3 ∧ (R_m_imageX m_hasHouse m_images d_st d_kept m_images2 d_kept2 m_thrown2 m_trouble2 r) ∧ w = [(cO11_i1r1i10r1i2r5i2r12i3r4i2 h0 m_thrown2 a_tape m_taped m_size m_at m_end m_token m_whole m_nameSize m_fault m_place m_trouble2 a_letters m_failed m_hasHouse a_r a_fresh a_st a_undone a_kept m_undos m_images2 a_from a_begin a_motor a_change a_startFrame a_changeFrame a_lostAt a_blackAt a_slips a_leftArc a_died a_arcs m_bestSum m_nearest m_nearestTown a_there a_backAt a_sorted a_parts m_seed1 m_darkNow), (cAI g a_st 44 d_st), (cAI g a_kept 132 d_kept2)]) := by
  refine cI.of (by decide) (Nat.le_of_ble_eq_true rfl) ?_
  intro p e s m args below meth c A X hr hi
  refine k_lveq [(0, .ref h0)] rfl ?_
  refine k_aload_n X dX11_image_0 0 rfl ?_
  refine k_callVV (n := 0) (As := []) (st := []) X [(cO11_i1r1i10r1i2r5i2r12i3r4i2 h0 m_thrown a_tape m_taped m_size m_at m_end m_token m_whole m_nameSize m_fault m_place m_trouble a_letters m_failed m_hasHouse a_r a_fresh a_st a_undone a_kept m_undos m_images a_from a_begin a_motor a_change a_startFrame a_changeFrame a_lostAt a_blackAt a_slips a_leftArc a_died a_arcs m_bestSum m_nearest m_nearestTown a_there a_backAt a_sorted a_parts m_seed1 m_darkNow)] [(cAI g a_st 44 d_st), (cAI g a_kept 132 d_kept)] [0] [1, 2] (m_goodX l g h0 m_thrown a_tape m_taped m_size m_at m_end m_token m_whole m_nameSize m_fault m_place m_trouble a_letters m_failed m_hasHouse a_r a_fresh a_st a_undone a_kept m_undos m_images a_from a_begin a_motor a_change a_startFrame a_changeFrame a_lostAt a_blackAt a_slips a_leftArc a_died a_arcs m_bestSum m_nearest m_nearestTown a_there a_backAt a_sorted a_parts m_seed1 m_darkNow) dX11_image_1 mw477 mw478 mw479 mw5 mw480 rfl 11 rfl rfl 0 _ rfl yk_yX11_good_0 rfl (Nat.le_of_ble_eq_true rfl) (Nat.le_of_ble_eq_true rfl) (Nat.le_of_ble_eq_true rfl) (Nat.le_of_ble_eq_true rfl) (Nat.le_of_ble_eq_true rfl) rfl rfl (by decide) rfl (by decide) (by decide) ?_
  rintro w ⟨m_thrown2_1, m_trouble2_2, hq_4, rfl⟩
  refine k_ws [(cAI g a_st 44 d_st), (cAI g a_kept 132 d_kept), (cO11_i1r1i10r1i2r5i2r12i3r4i2 h0 m_thrown2_1 a_tape m_taped m_size m_at m_end m_token m_whole m_nameSize m_fault m_place m_trouble2_2 a_letters m_failed m_hasHouse a_r a_fresh a_st a_undone a_kept m_undos m_images a_from a_begin a_motor a_change a_startFrame a_changeFrame a_lostAt a_blackAt a_slips a_leftArc a_died a_arcs m_bestSum m_nearest m_nearestTown a_there a_backAt a_sorted a_parts m_seed1 m_darkNow)] rfl ?_
  refine k_aload_n X dX11_image_4 0 rfl ?_
  refine k_get (ci := 11) X inlX11 rfl 14 (by decide) dX11_image_5 mw474 2 rfl rfl ?_
  refine k_if_ne 17 X dX11_image_8 (by decide) (fun h_5 => ?_) (fun h_5 => ?_)
  · skip
    have iv_6 : IV m_hasHouse 1 1 := iv_neL h_5 hv_m_hasHouse (show IV 0 0 0 from (by decide)) (by decide)
    refine k_aload_n X dX11_image_17 0 rfl ?_
    refine k_get (ci := 11) X inlX11 rfl 21 (by decide) dX11_image_18 mw476 2 rfl rfl ?_
    refine k_iconst (v := 3) X dX11_image_21 (by decide) ?_
    refine k_ic_ne 31 X dX11_image_22 (by decide) (fun h_7 => ?_) (fun h_7 => ?_)
    · skip
      have iv_8 : IV m_images 0 2 := iv_neH h_7 hv_m_images (show IV 3 3 3 from (by decide)) (by decide)
      refine k_aload_n X dX11_image_31 0 rfl ?_
      refine k_get (ci := 11) X inlX11 rfl 17 (by decide) dX11_image_32 mw172 2 rfl rfl ?_
      refine k_iconst (v := 0) X dX11_image_35 (by decide) ?_
      refine k_aload_n X dX11_image_36 0 rfl ?_
      refine k_get (ci := 11) X inlX11 rfl 19 (by decide) dX11_image_37 mw174 2 rfl rfl ?_
      refine k_bipush (v := 44) X dX11_image_40 (by decide) ?_
      refine k_aload_n X dX11_image_42 0 rfl ?_
      refine k_get (ci := 11) X inlX11 rfl 21 (by decide) dX11_image_43 mw476 2 rfl rfl ?_
      refine k_imul X dX11_image_46 ?_
      refine k_nm (fun z_9 ez_9 => ?_)
      have i_10 : z_9.toInt = 44 * m_images.toInt := in_mul ez_9 (by decide) (by decide) iv_8 (by decide) (by decide)
      have iv_11 : IV z_9 0 88 := iz4 i_10 iv_8 (by decide) (by decide) (by decide)
      refine k_bipush (v := 44) X dX11_image_47 (by decide) ?_
      refine k_callSV (n := 5) (As := [.ref a_st, .int 0, .ref a_kept, .int z_9, .int 44]) (st := []) X [(cAI g a_st 44 d_st), (cAI g a_kept 132 d_kept)] [(cO11_i1r1i10r1i2r5i2r12i3r4i2 h0 m_thrown2_1 a_tape m_taped m_size m_at m_end m_token m_whole m_nameSize m_fault m_place m_trouble2_2 a_letters m_failed m_hasHouse a_r a_fresh a_st a_undone a_kept m_undos m_images a_from a_begin a_motor a_change a_startFrame a_changeFrame a_lostAt a_blackAt a_slips a_leftArc a_died a_arcs m_bestSum m_nearest m_nearestTown a_there a_backAt a_sorted a_parts m_seed1 m_darkNow)] [0, 1] [2] (m_copyCX l g a_st a_kept z_9 d_st d_kept (iv_w iv_11 (by decide) (by decide))) dX11_image_49 mw619 mw620 mw5 mw621 yk_yX11_copy_5 rfl (Nat.le_of_ble_eq_true rfl) (Nat.le_of_ble_eq_true rfl) (Nat.le_of_ble_eq_true rfl) (Nat.le_of_ble_eq_true rfl) (Nat.le_of_ble_eq_true rfl) rfl rfl (by decide) rfl (by decide) (by decide) ?_
      rintro w ⟨f3_12, hq_14, rfl⟩
      refine k_ws [(cO11_i1r1i10r1i2r5i2r12i3r4i2 h0 m_thrown2_1 a_tape m_taped m_size m_at m_end m_token m_whole m_nameSize m_fault m_place m_trouble2_2 a_letters m_failed m_hasHouse a_r a_fresh a_st a_undone a_kept m_undos m_images a_from a_begin a_motor a_change a_startFrame a_changeFrame a_lostAt a_blackAt a_slips a_leftArc a_died a_arcs m_bestSum m_nearest m_nearestTown a_there a_backAt a_sorted a_parts m_seed1 m_darkNow), (cAI g a_st 44 d_st), (cAI g a_kept 132 f3_12)] rfl ?_
      refine k_aload_n X dX11_image_52 0 rfl ?_
      refine k_dup X dX11_image_53 rfl ?_
      refine k_get (ci := 11) X inlX11 rfl 21 (by decide) dX11_image_54 mw476 0 rfl rfl ?_
      refine k_iconst (v := 1) X dX11_image_57 (by decide) ?_
      refine k_iadd X dX11_image_58 ?_
      refine k_nm (fun z_15 ez_15 => ?_)
      have i_16 : z_15.toInt = m_images.toInt + 1 := in_add ez_15 iv_8 (show IV 1 1 1 from (by decide)) (by decide) (by decide)
      have iv_17 : IV z_15 1 3 := iz1 i_16 iv_8 (by decide) (by decide)
      refine k_put (ci := 11) [(cO11_i1r1i10r1i2r5i2r12i3r4i2 h0 m_thrown2_1 a_tape m_taped m_size m_at m_end m_token m_whole m_nameSize m_fault m_place m_trouble2_2 a_letters m_failed m_hasHouse a_r a_fresh a_st a_undone a_kept m_undos z_15 a_from a_begin a_motor a_change a_startFrame a_changeFrame a_lostAt a_blackAt a_slips a_leftArc a_died a_arcs m_bestSum m_nearest m_nearestTown a_there a_backAt a_sorted a_parts m_seed1 m_darkNow), (cAI g a_st 44 d_st), (cAI g a_kept 132 f3_12)] X inlX11 rfl tyX11_ok nmX11 21 (by decide) rfl dX11_image_59 mw476 0 rfl rfl rfl (Nat.le_of_ble_eq_true rfl) rfl ?_
      refine k_aload_n X dX11_image_62 0 rfl ?_
      refine k_get (ci := 11) X inlX11 rfl 21 (by decide) dX11_image_63 mw476 0 rfl rfl ?_
      refine k_iconst (v := 1) X dX11_image_66 (by decide) ?_
      refine k_isub X dX11_image_67 ?_
      refine k_nm (fun z_18 ez_18 => ?_)
      have i_19 : z_18.toInt = z_15.toInt - 1 := in_sub ez_18 iv_17 (show IV 1 1 1 from (by decide)) (by decide) (by decide)
      have iv_20 : IV z_18 0 2 := iz5 i_19 iv_17 (by decide) (by decide)
      exact k_iret X hr dX11_image_68 (Nat.le_of_ble_eq_true rfl) (Nat.le_of_ble_eq_true rfl) [0, 1, 2] (by decide) rfl rfl ⟨z_15, f3_12, m_thrown2_1, m_trouble2_2, (iv_w iv_17 (by decide) (by decide)), ⟨m_thrown2_1, m_trouble2_2, hq_4, (Or.inl ⟨h_5, (Or.inl ⟨h_7, ⟨z_9, ez_9, ⟨f3_12, hq_14, ⟨z_15, ez_15, ⟨z_18, ez_18, ⟨rfl, rfl, rfl, rfl, rfl⟩⟩⟩⟩⟩⟩)⟩)⟩, rfl⟩
    · skip
      have iv_21 : IV m_images 3 3 := iv_meet hv_m_images (iv_e h_7 (show IV 3 3 3 from (by decide))) (by decide) (by decide)
      refine k_aload_n X dX11_image_25 0 rfl ?_
      refine k_iconst (v := 3) X dX11_image_26 (by decide) ?_
      refine k_callVI (n := 1) (As := [.int 3]) (st := []) X [(cO11_i1r1i10r1i2r5i2r12i3r4i2 h0 m_thrown2_1 a_tape m_taped m_size m_at m_end m_token m_whole m_nameSize m_fault m_place m_trouble2_2 a_letters m_failed m_hasHouse a_r a_fresh a_st a_undone a_kept m_undos m_images a_from a_begin a_motor a_change a_startFrame a_changeFrame a_lostAt a_blackAt a_slips a_leftArc a_died a_arcs m_bestSum m_nearest m_nearestTown a_there a_backAt a_sorted a_parts m_seed1 m_darkNow)] [(cAI g a_st 44 d_st), (cAI g a_kept 132 d_kept)] [2] [0, 1] (m_noX l g h0 3 m_thrown2_1 a_tape m_taped m_size m_at m_end m_token m_whole m_nameSize m_fault m_place m_trouble2_2 a_letters m_failed m_hasHouse a_r a_fresh a_st a_undone a_kept m_undos m_images a_from a_begin a_motor a_change a_startFrame a_changeFrame a_lostAt a_blackAt a_slips a_leftArc a_died a_arcs m_bestSum m_nearest m_nearestTown a_there a_backAt a_sorted a_parts m_seed1 m_darkNow) dX11_image_27 mw485 mw486 mw487 mw5 mw488 rfl 11 rfl rfl 0 _ rfl yk_yX11_no_1 rfl (Nat.le_of_ble_eq_true rfl) (Nat.le_of_ble_eq_true rfl) (Nat.le_of_ble_eq_true rfl) (Nat.le_of_ble_eq_true rfl) (Nat.le_of_ble_eq_true rfl) rfl rfl (by decide) rfl (by decide) (by decide) ?_
      rintro r_23 w ⟨m_trouble2_22, iv_24, hq_25, rfl⟩
      refine k_ws [(cAI g a_st 44 d_st), (cAI g a_kept 132 d_kept), (cO11_i1r1i10r1i2r5i2r12i3r4i2 h0 m_thrown2_1 a_tape m_taped m_size m_at m_end m_token m_whole m_nameSize m_fault m_place m_trouble2_22 a_letters m_failed m_hasHouse a_r a_fresh a_st a_undone a_kept m_undos m_images a_from a_begin a_motor a_change a_startFrame a_changeFrame a_lostAt a_blackAt a_slips a_leftArc a_died a_arcs m_bestSum m_nearest m_nearestTown a_there a_backAt a_sorted a_parts m_seed1 m_darkNow)] rfl ?_
      exact k_iret X hr dX11_image_30 (Nat.le_of_ble_eq_true rfl) (Nat.le_of_ble_eq_true rfl) [2, 0, 1] (by decide) rfl rfl ⟨m_images, d_kept, m_thrown2_1, m_trouble2_22, (iv_w iv_21 (by decide) (by decide)), ⟨m_thrown2_1, m_trouble2_2, hq_4, (Or.inl ⟨h_5, (Or.inr ⟨h_7, ⟨m_trouble2_22, r_23, hq_25, ⟨rfl, rfl, rfl, rfl, rfl⟩⟩⟩)⟩)⟩, rfl⟩
  · skip
    have iv_26 : IV m_hasHouse 0 0 := iv_meet hv_m_hasHouse (iv_e h_5 (show IV 0 0 0 from (by decide))) (by decide) (by decide)
    refine k_aload_n X dX11_image_11 0 rfl ?_
    refine k_iconst (v := 1) X dX11_image_12 (by decide) ?_
    refine k_callVI (n := 1) (As := [.int 1]) (st := []) X [(cO11_i1r1i10r1i2r5i2r12i3r4i2 h0 m_thrown2_1 a_tape m_taped m_size m_at m_end m_token m_whole m_nameSize m_fault m_place m_trouble2_2 a_letters m_failed m_hasHouse a_r a_fresh a_st a_undone a_kept m_undos m_images a_from a_begin a_motor a_change a_startFrame a_changeFrame a_lostAt a_blackAt a_slips a_leftArc a_died a_arcs m_bestSum m_nearest m_nearestTown a_there a_backAt a_sorted a_parts m_seed1 m_darkNow)] [(cAI g a_st 44 d_st), (cAI g a_kept 132 d_kept)] [2] [0, 1] (m_noX l g h0 1 m_thrown2_1 a_tape m_taped m_size m_at m_end m_token m_whole m_nameSize m_fault m_place m_trouble2_2 a_letters m_failed m_hasHouse a_r a_fresh a_st a_undone a_kept m_undos m_images a_from a_begin a_motor a_change a_startFrame a_changeFrame a_lostAt a_blackAt a_slips a_leftArc a_died a_arcs m_bestSum m_nearest m_nearestTown a_there a_backAt a_sorted a_parts m_seed1 m_darkNow) dX11_image_13 mw485 mw486 mw487 mw5 mw488 rfl 11 rfl rfl 0 _ rfl yk_yX11_no_1 rfl (Nat.le_of_ble_eq_true rfl) (Nat.le_of_ble_eq_true rfl) (Nat.le_of_ble_eq_true rfl) (Nat.le_of_ble_eq_true rfl) (Nat.le_of_ble_eq_true rfl) rfl rfl (by decide) rfl (by decide) (by decide) ?_
    rintro r_28 w ⟨m_trouble2_27, iv_29, hq_30, rfl⟩
    refine k_ws [(cAI g a_st 44 d_st), (cAI g a_kept 132 d_kept), (cO11_i1r1i10r1i2r5i2r12i3r4i2 h0 m_thrown2_1 a_tape m_taped m_size m_at m_end m_token m_whole m_nameSize m_fault m_place m_trouble2_27 a_letters m_failed m_hasHouse a_r a_fresh a_st a_undone a_kept m_undos m_images a_from a_begin a_motor a_change a_startFrame a_changeFrame a_lostAt a_blackAt a_slips a_leftArc a_died a_arcs m_bestSum m_nearest m_nearestTown a_there a_backAt a_sorted a_parts m_seed1 m_darkNow)] rfl ?_
    exact k_iret X hr dX11_image_16 (Nat.le_of_ble_eq_true rfl) (Nat.le_of_ble_eq_true rfl) [2, 0, 1] (by decide) rfl rfl ⟨m_images, d_kept, m_thrown2_1, m_trouble2_27, (iv_w hv_m_images (by decide) (by decide)), ⟨m_thrown2_1, m_trouble2_2, hq_4, (Or.inr ⟨h_5, ⟨m_trouble2_27, r_28, hq_30, ⟨rfl, rfl, rfl, rfl, rfl⟩⟩⟩)⟩, rfl⟩


set_option maxHeartbeats 4000000 in
set_option maxRecDepth 100000 in
theorem m_backX (l : Launch) (g : Gx) (h0 : Nat) (p0 : Int32) (m_thrown : Int32) (a_tape : Nat) (m_taped : Int32) (m_size : Int32) (m_at : Int32) (m_end : Int32) (m_token : Int32) (m_whole : Int32) (m_nameSize : Int32) (m_fault : Int32) (m_place : Int32) (m_trouble : Int32) (a_letters : Nat) (m_failed : Int32) (m_hasHouse : Int32) (a_r : Nat) (a_fresh : Nat) (a_st : Nat) (a_undone : Nat) (a_kept : Nat) (m_undos : Int32) (m_images : Int32) (a_from : Nat) (a_begin : Nat) (a_motor : Nat) (a_change : Nat) (a_startFrame : Nat) (a_changeFrame : Nat) (a_lostAt : Nat) (a_blackAt : Nat) (a_slips : Nat) (a_leftArc : Nat) (a_died : Nat) (a_arcs : Nat) (m_bestSum : Int32) (m_nearest : Int32) (m_nearestTown : Int32) (a_there : Nat) (a_backAt : Nat) (a_sorted : Nat) (a_parts : Nat) (m_seed1 : Int32) (m_darkNow : Int32) (d_st : Nat → Int32) (d_kept : Nat → Int32) (hv_m_undos : IV m_undos 0 12) (hv_m_images : IV m_images 0 3) : cI l g yX11_back cX11_back 2 (some .boolean) 1 25 0 0 [.ref h0, .int p0] [(cO11_i1r1i10r1i2r5i2r12i3r4i2 h0 m_thrown a_tape m_taped m_size m_at m_end m_token m_whole m_nameSize m_fault m_place m_trouble a_letters m_failed m_hasHouse a_r a_fresh a_st a_undone a_kept m_undos m_images a_from a_begin a_motor a_change a_startFrame a_changeFrame a_lostAt a_blackAt a_slips a_leftArc a_died a_arcs m_bestSum m_nearest m_nearestTown a_there a_backAt a_sorted a_parts m_seed1 m_darkNow), (cAI g a_st 44 d_st), (cAI g a_kept 132 d_kept)] (fun r w => ∃ (d_st2 : Nat → Int32) (m_thrown2 : Int32) (m_trouble2 : Int32) (m_undos2 : Int32), IV m_undos2 0 12 ∧ IV r 0 1 ∧ (R_m_backX p0 m_undos m_images d_st d_kept d_st2 m_thrown2 m_trouble2 m_undos2 r) ∧ w = [(cO11_i1r1i10r1i2r5i2r12i3r4i2 h0 m_thrown2 a_tape m_taped m_size m_at m_end m_token m_whole m_nameSize m_fault m_place m_trouble2 a_letters m_failed m_hasHouse a_r a_fresh a_st a_undone a_kept m_undos2 m_images a_from a_begin a_motor a_change a_startFrame a_changeFrame a_lostAt a_blackAt a_slips a_leftArc a_died a_arcs m_bestSum m_nearest m_nearestTown a_there a_backAt a_sorted a_parts m_seed1 m_darkNow), (cAI g a_st 44 d_st2), (cAI g a_kept 132 d_kept)]) := by
  refine cI.of (by decide) (Nat.le_of_ble_eq_true rfl) ?_
  intro p e s m args below meth c A X hr hi
  refine k_lveq [(0, .ref h0), (1, .int p0)] rfl ?_
  refine k_aload_n X dX11_back_0 0 rfl ?_
  refine k_callVV (n := 0) (As := []) (st := []) X [(cO11_i1r1i10r1i2r5i2r12i3r4i2 h0 m_thrown a_tape m_taped m_size m_at m_end m_token m_whole m_nameSize m_fault m_place m_trouble a_letters m_failed m_hasHouse a_r a_fresh a_st a_undone a_kept m_undos m_images a_from a_begin a_motor a_change a_startFrame a_changeFrame a_lostAt a_blackAt a_slips a_leftArc a_died a_arcs m_bestSum m_nearest m_nearestTown a_there a_backAt a_sorted a_parts m_seed1 m_darkNow)] [(cAI g a_st 44 d_st), (cAI g a_kept 132 d_kept)] [0] [1, 2] (m_goodX l g h0 m_thrown a_tape m_taped m_size m_at m_end m_token m_whole m_nameSize m_fault m_place m_trouble a_letters m_failed m_hasHouse a_r a_fresh a_st a_undone a_kept m_undos m_images a_from a_begin a_motor a_change a_startFrame a_changeFrame a_lostAt a_blackAt a_slips a_leftArc a_died a_arcs m_bestSum m_nearest m_nearestTown a_there a_backAt a_sorted a_parts m_seed1 m_darkNow) dX11_back_1 mw477 mw478 mw479 mw5 mw480 rfl 11 rfl rfl 0 _ rfl yk_yX11_good_0 rfl (Nat.le_of_ble_eq_true rfl) (Nat.le_of_ble_eq_true rfl) (Nat.le_of_ble_eq_true rfl) (Nat.le_of_ble_eq_true rfl) (Nat.le_of_ble_eq_true rfl) rfl rfl (by decide) rfl (by decide) (by decide) ?_
  rintro w ⟨m_thrown2_1, m_trouble2_2, hq_4, rfl⟩
  refine k_ws [(cAI g a_st 44 d_st), (cAI g a_kept 132 d_kept), (cO11_i1r1i10r1i2r5i2r12i3r4i2 h0 m_thrown2_1 a_tape m_taped m_size m_at m_end m_token m_whole m_nameSize m_fault m_place m_trouble2_2 a_letters m_failed m_hasHouse a_r a_fresh a_st a_undone a_kept m_undos m_images a_from a_begin a_motor a_change a_startFrame a_changeFrame a_lostAt a_blackAt a_slips a_leftArc a_died a_arcs m_bestSum m_nearest m_nearestTown a_there a_backAt a_sorted a_parts m_seed1 m_darkNow)] rfl ?_
  refine k_iload_n X dX11_back_4 1 rfl ?_
  refine k_iconst (v := 0) X dX11_back_5 (by decide) ?_
  refine k_aload_n X dX11_back_6 0 rfl ?_
  refine k_get (ci := 11) X inlX11 rfl 21 (by decide) dX11_back_7 mw476 2 rfl rfl ?_
  refine k_iconst (v := 1) X dX11_back_10 (by decide) ?_
  refine k_isub X dX11_back_11 ?_
  refine k_nm (fun z_5 ez_5 => ?_)
  have i_6 : z_5.toInt = m_images.toInt - 1 := in_sub ez_5 hv_m_images (show IV 1 1 1 from (by decide)) (by decide) (by decide)
  have iv_7 : IV z_5 (-1) 2 := iz5 i_6 hv_m_images (by decide) (by decide)
  refine k_callSI (n := 3) (As := [.int p0, .int 0, .int z_5]) (st := []) X [] [(cAI g a_st 44 d_st), (cAI g a_kept 132 d_kept), (cO11_i1r1i10r1i2r5i2r12i3r4i2 h0 m_thrown2_1 a_tape m_taped m_size m_at m_end m_token m_whole m_nameSize m_fault m_place m_trouble2_2 a_letters m_failed m_hasHouse a_r a_fresh a_st a_undone a_kept m_undos m_images a_from a_begin a_motor a_change a_startFrame a_changeFrame a_lostAt a_blackAt a_slips a_leftArc a_died a_arcs m_bestSum m_nearest m_nearestTown a_there a_backAt a_sorted a_parts m_seed1 m_darkNow)] [] [0, 1, 2] (m_inX l g p0 0 z_5) dX11_back_12 mw482 mw483 mw5 mw484 yk_yX11_in_3 rfl (Nat.le_of_ble_eq_true rfl) (Nat.le_of_ble_eq_true rfl) (Nat.le_of_ble_eq_true rfl) (Nat.le_of_ble_eq_true rfl) (Nat.le_of_ble_eq_true rfl) rfl rfl (by decide) rfl (by decide) (by decide) ?_
  rintro r_8 w ⟨iv_9, hq_10, hk_11, hk_12, rfl⟩
  refine k_ws [(cAI g a_st 44 d_st), (cAI g a_kept 132 d_kept), (cO11_i1r1i10r1i2r5i2r12i3r4i2 h0 m_thrown2_1 a_tape m_taped m_size m_at m_end m_token m_whole m_nameSize m_fault m_place m_trouble2_2 a_letters m_failed m_hasHouse a_r a_fresh a_st a_undone a_kept m_undos m_images a_from a_begin a_motor a_change a_startFrame a_changeFrame a_lostAt a_blackAt a_slips a_leftArc a_died a_arcs m_bestSum m_nearest m_nearestTown a_there a_backAt a_sorted a_parts m_seed1 m_darkNow)] rfl ?_
  refine k_if_ne 24 X dX11_back_15 (by decide) (fun h_13 => ?_) (fun h_13 => ?_)
  · skip
    have hc_14 := hk_11.resolve_left h_13
    have j_15 : 0 ≤ p0.toInt := hc_14.1
    have iv_16 : IV p0 0 2147483647 := iv_leR hc_14.1 (show IV 0 0 0 from (by decide)) (iv_any p0) (by decide)
    have j_17 : p0.toInt ≤ z_5.toInt := hc_14.2
    have iv_18 : IV p0 0 2 := iv_leL hc_14.2 iv_16 iv_7 (by decide)
    have iv_19 : IV z_5 0 2 := iv_leR hc_14.2 iv_18 iv_7 (by decide)
    have iv_20 : IV m_images 1 3 := by have := hv_m_images; have := iv_19; rw [IV]; omega
    have iv_21 : IV r_8 1 1 := iv_neL h_13 iv_9 (show IV 0 0 0 from (by decide)) (by decide)
    refine k_aload_n X dX11_back_24 0 rfl ?_
    refine k_get (ci := 11) X inlX11 rfl 19 (by decide) dX11_back_25 mw174 2 rfl rfl ?_
    refine k_bipush (v := 44) X dX11_back_28 (by decide) ?_
    refine k_iload_n X dX11_back_30 1 rfl ?_
    refine k_imul X dX11_back_31 ?_
    refine k_nm (fun z_22 ez_22 => ?_)
    have i_23 : z_22.toInt = 44 * p0.toInt := in_mul ez_22 (by decide) (by decide) iv_18 (by decide) (by decide)
    have iv_24 : IV z_22 0 88 := iz4 i_23 iv_18 (by decide) (by decide) (by decide)
    refine k_aload_n X dX11_back_32 0 rfl ?_
    refine k_get (ci := 11) X inlX11 rfl 17 (by decide) dX11_back_33 mw172 2 rfl rfl ?_
    refine k_iconst (v := 0) X dX11_back_36 (by decide) ?_
    refine k_bipush (v := 44) X dX11_back_37 (by decide) ?_
    refine k_callSV (n := 5) (As := [.ref a_kept, .int z_22, .ref a_st, .int 0, .int 44]) (st := []) X [(cAI g a_kept 132 d_kept), (cAI g a_st 44 d_st)] [(cO11_i1r1i10r1i2r5i2r12i3r4i2 h0 m_thrown2_1 a_tape m_taped m_size m_at m_end m_token m_whole m_nameSize m_fault m_place m_trouble2_2 a_letters m_failed m_hasHouse a_r a_fresh a_st a_undone a_kept m_undos m_images a_from a_begin a_motor a_change a_startFrame a_changeFrame a_lostAt a_blackAt a_slips a_leftArc a_died a_arcs m_bestSum m_nearest m_nearestTown a_there a_backAt a_sorted a_parts m_seed1 m_darkNow)] [1, 0] [2] (m_copyDX l g a_kept z_22 a_st d_kept d_st (iv_w iv_24 (by decide) (by decide))) dX11_back_39 mw619 mw620 mw5 mw621 yk_yX11_copy_5 rfl (Nat.le_of_ble_eq_true rfl) (Nat.le_of_ble_eq_true rfl) (Nat.le_of_ble_eq_true rfl) (Nat.le_of_ble_eq_true rfl) (Nat.le_of_ble_eq_true rfl) rfl rfl (by decide) rfl (by decide) (by decide) ?_
    rintro w ⟨f3_25, hq_27, rfl⟩
    refine k_ws [(cO11_i1r1i10r1i2r5i2r12i3r4i2 h0 m_thrown2_1 a_tape m_taped m_size m_at m_end m_token m_whole m_nameSize m_fault m_place m_trouble2_2 a_letters m_failed m_hasHouse a_r a_fresh a_st a_undone a_kept m_undos m_images a_from a_begin a_motor a_change a_startFrame a_changeFrame a_lostAt a_blackAt a_slips a_leftArc a_died a_arcs m_bestSum m_nearest m_nearestTown a_there a_backAt a_sorted a_parts m_seed1 m_darkNow), (cAI g a_kept 132 d_kept), (cAI g a_st 44 f3_25)] rfl ?_
    refine k_aload_n X dX11_back_42 0 rfl ?_
    refine k_iconst (v := 0) X dX11_back_43 (by decide) ?_
    refine k_put (ci := 11) [(cO11_i1r1i10r1i2r5i2r12i3r4i2 h0 m_thrown2_1 a_tape m_taped m_size m_at m_end m_token m_whole m_nameSize m_fault m_place m_trouble2_2 a_letters m_failed m_hasHouse a_r a_fresh a_st a_undone a_kept 0 m_images a_from a_begin a_motor a_change a_startFrame a_changeFrame a_lostAt a_blackAt a_slips a_leftArc a_died a_arcs m_bestSum m_nearest m_nearestTown a_there a_backAt a_sorted a_parts m_seed1 m_darkNow), (cAI g a_kept 132 d_kept), (cAI g a_st 44 f3_25)] X inlX11 rfl tyX11_ok nmX11 20 (by decide) rfl dX11_back_44 mw475 0 rfl rfl rfl (Nat.le_of_ble_eq_true rfl) rfl ?_
    refine k_iconst (v := 1) X dX11_back_47 (by decide) ?_
    exact k_zret X hr (by first | rfl | decide) dX11_back_48 (Nat.le_of_ble_eq_true rfl) (Nat.le_of_ble_eq_true rfl) [0, 2, 1] (by decide) rfl rfl ⟨f3_25, m_thrown2_1, m_trouble2_2, 0, (iv_w (show IV 0 0 0 from (by decide)) (by decide) (by decide)), (iv_w (show IV 1 1 1 from (by decide)) (by decide) (by decide)), ⟨m_thrown2_1, m_trouble2_2, hq_4, ⟨z_5, ez_5, ⟨r_8, hq_10, (Or.inl ⟨h_13, ⟨z_22, ez_22, ⟨f3_25, hq_27, ⟨rfl, rfl, rfl, rfl, rfl⟩⟩⟩⟩)⟩⟩⟩, rfl⟩
  · skip
    have iv_28 : IV r_8 0 0 := iv_meet iv_9 (iv_e h_13 (show IV 0 0 0 from (by decide))) (by decide) (by decide)
    have hc_29 := hk_12 (iv_eq iv_28 (show IV 0 0 0 from (by decide)))
    have j_30 : p0.toInt < 0 ∨ z_5.toInt < p0.toInt := hc_29
    refine k_aload_n X dX11_back_18 0 rfl ?_
    refine k_iconst (v := 1) X dX11_back_19 (by decide) ?_
    refine k_callVI (n := 1) (As := [.int 1]) (st := []) X [(cO11_i1r1i10r1i2r5i2r12i3r4i2 h0 m_thrown2_1 a_tape m_taped m_size m_at m_end m_token m_whole m_nameSize m_fault m_place m_trouble2_2 a_letters m_failed m_hasHouse a_r a_fresh a_st a_undone a_kept m_undos m_images a_from a_begin a_motor a_change a_startFrame a_changeFrame a_lostAt a_blackAt a_slips a_leftArc a_died a_arcs m_bestSum m_nearest m_nearestTown a_there a_backAt a_sorted a_parts m_seed1 m_darkNow)] [(cAI g a_st 44 d_st), (cAI g a_kept 132 d_kept)] [2] [0, 1] (m_isNotX l g h0 1 m_thrown2_1 a_tape m_taped m_size m_at m_end m_token m_whole m_nameSize m_fault m_place m_trouble2_2 a_letters m_failed m_hasHouse a_r a_fresh a_st a_undone a_kept m_undos m_images a_from a_begin a_motor a_change a_startFrame a_changeFrame a_lostAt a_blackAt a_slips a_leftArc a_died a_arcs m_bestSum m_nearest m_nearestTown a_there a_backAt a_sorted a_parts m_seed1 m_darkNow) dX11_back_20 mw1471 mw1472 mw1473 mw5 mw1474 rfl 11 rfl rfl 0 _ rfl yk_yX11_isNot_1 rfl (Nat.le_of_ble_eq_true rfl) (Nat.le_of_ble_eq_true rfl) (Nat.le_of_ble_eq_true rfl) (Nat.le_of_ble_eq_true rfl) (Nat.le_of_ble_eq_true rfl) rfl rfl (by decide) rfl (by decide) (by decide) ?_
    rintro r_32 w ⟨m_trouble2_31, iv_33, hq_34, rfl⟩
    refine k_ws [(cAI g a_st 44 d_st), (cAI g a_kept 132 d_kept), (cO11_i1r1i10r1i2r5i2r12i3r4i2 h0 m_thrown2_1 a_tape m_taped m_size m_at m_end m_token m_whole m_nameSize m_fault m_place m_trouble2_31 a_letters m_failed m_hasHouse a_r a_fresh a_st a_undone a_kept m_undos m_images a_from a_begin a_motor a_change a_startFrame a_changeFrame a_lostAt a_blackAt a_slips a_leftArc a_died a_arcs m_bestSum m_nearest m_nearestTown a_there a_backAt a_sorted a_parts m_seed1 m_darkNow)] rfl ?_
    exact k_zret X hr (zn_b (iv_w iv_33 (by decide) (by decide))) dX11_back_23 (Nat.le_of_ble_eq_true rfl) (Nat.le_of_ble_eq_true rfl) [2, 0, 1] (by decide) rfl rfl ⟨d_st, m_thrown2_1, m_trouble2_31, m_undos, (iv_w hv_m_undos (by decide) (by decide)), (iv_w iv_33 (by decide) (by decide)), ⟨m_thrown2_1, m_trouble2_2, hq_4, ⟨z_5, ez_5, ⟨r_8, hq_10, (Or.inr ⟨h_13, ⟨m_trouble2_31, r_32, hq_34, ⟨rfl, rfl, rfl, rfl, rfl⟩⟩⟩)⟩⟩⟩, rfl⟩
