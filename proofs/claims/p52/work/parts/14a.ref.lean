theorem dX11_good_0 : decode cX11_good 0 = .ok (.aload_n 0, 1) := dk_42 rfl
theorem dX11_good_1 : decode cX11_good 1 = .ok (.iconst 0, 1) := dk_3 rfl
theorem dX11_good_2 : decode cX11_good 2 = .ok (.putfield 83, 3) := dk_181 rfl rfl rfl rfl
theorem dX11_good_5 : decode cX11_good 5 = .ok (.aload_n 0, 1) := dk_42 rfl
theorem dX11_good_6 : decode cX11_good 6 = .ok (.iconst 0, 1) := dk_3 rfl
theorem dX11_good_7 : decode cX11_good 7 = .ok (.putfield 86, 3) := dk_181 rfl rfl rfl rfl
theorem dX11_good_10 : decode cX11_good 10 = .ok (.return_, 1) := dk_177 rfl
set_option maxHeartbeats 4000000 in
set_option maxRecDepth 100000 in
theorem m_good (l : Launch) (g : Gx) (h0 : Nat) (m_thrown : Int32) (a_tape : Nat) (m_taped : Int32) (m_size : Int32) (m_at : Int32) (m_end : Int32) (m_token : Int32) (m_whole : Int32) (m_nameSize : Int32) (m_fault : Int32) (m_place : Int32) (m_trouble : Int32) (a_letters : Nat) (m_failed : Int32) (m_hasHouse : Int32) (a_r : Nat) (a_fresh : Nat) (a_st : Nat) (a_undone : Nat) (a_kept : Nat) (m_undos : Int32) (m_images : Int32) (a_from : Nat) (a_begin : Nat) (a_motor : Nat) (a_change : Nat) (a_startFrame : Nat) (a_changeFrame : Nat) (a_lostAt : Nat) (a_blackAt : Nat) (a_slips : Nat) (a_leftArc : Nat) (a_died : Nat) (a_arcs : Nat) (m_bestSum : Int32) (m_nearest : Int32) (m_nearestTown : Int32) (a_there : Nat) (a_backAt : Nat) (a_sorted : Nat) (a_parts : Nat) (m_seed1 : Int32) (m_darkNow : Int32) : cV l g yX11_good cX11_good 1 0 0 0 0 [.ref h0] [(cO11_i1r1i10r1i2r5i2r12i3r4i2 h0 m_thrown a_tape m_taped m_size m_at m_end m_token m_whole m_nameSize m_fault m_place m_trouble a_letters m_failed m_hasHouse a_r a_fresh a_st a_undone a_kept m_undos m_images a_from a_begin a_motor a_change a_startFrame a_changeFrame a_lostAt a_blackAt a_slips a_leftArc a_died a_arcs m_bestSum m_nearest m_nearestTown a_there a_backAt a_sorted a_parts m_seed1 m_darkNow)] (fun w => ∃ (m_thrown2 : Int32) (m_trouble2 : Int32), w = [(cO11_i1r1i10r1i2r5i2r12i3r4i2 h0 m_thrown2 a_tape m_taped m_size m_at m_end m_token m_whole m_nameSize m_fault m_place m_trouble2 a_letters m_failed m_hasHouse a_r a_fresh a_st a_undone a_kept m_undos m_images a_from a_begin a_motor a_change a_startFrame a_changeFrame a_lostAt a_blackAt a_slips a_leftArc a_died a_arcs m_bestSum m_nearest m_nearestTown a_there a_backAt a_sorted a_parts m_seed1 m_darkNow)]) := by
  refine cV.of (by decide) (Nat.le_of_ble_eq_true rfl) ?_
  intro p e s m args below meth c A X hr hi
  refine k_lveq [(0, .ref h0)] rfl ?_
  refine k_aload_n X dX11_good_0 0 rfl ?_
  refine k_iconst (v := 0) X dX11_good_1 (by decide) ?_
  refine k_put (ci := 11) [(cO11_i1r1i10r1i2r5i2r12i3r4i2 h0 0 a_tape m_taped m_size m_at m_end m_token m_whole m_nameSize m_fault m_place m_trouble a_letters m_failed m_hasHouse a_r a_fresh a_st a_undone a_kept m_undos m_images a_from a_begin a_motor a_change a_startFrame a_changeFrame a_lostAt a_blackAt a_slips a_leftArc a_died a_arcs m_bestSum m_nearest m_nearestTown a_there a_backAt a_sorted a_parts m_seed1 m_darkNow)] X inlX11 rfl tyX11_ok nmX11 0 (by decide) rfl dX11_good_2 mw204 0 rfl rfl rfl (Nat.le_of_ble_eq_true rfl) rfl ?_
  refine k_aload_n X dX11_good_5 0 rfl ?_
  refine k_iconst (v := 0) X dX11_good_6 (by decide) ?_
  refine k_put (ci := 11) [(cO11_i1r1i10r1i2r5i2r12i3r4i2 h0 0 a_tape m_taped m_size m_at m_end m_token m_whole m_nameSize m_fault m_place 0 a_letters m_failed m_hasHouse a_r a_fresh a_st a_undone a_kept m_undos m_images a_from a_begin a_motor a_change a_startFrame a_changeFrame a_lostAt a_blackAt a_slips a_leftArc a_died a_arcs m_bestSum m_nearest m_nearestTown a_there a_backAt a_sorted a_parts m_seed1 m_darkNow)] X inlX11 rfl tyX11_ok nmX11 11 (by decide) rfl dX11_good_7 mw481 0 rfl rfl rfl (Nat.le_of_ble_eq_true rfl) rfl ?_
  exact k_vret X hr dX11_good_10 (Nat.le_of_ble_eq_true rfl) (Nat.le_of_ble_eq_true rfl) [0] (by decide) rfl rfl ⟨0, 0, rfl⟩

theorem dX11_no_0 : decode cX11_no 0 = .ok (.aload_n 0, 1) := dk_42 rfl
theorem dX11_no_1 : decode cX11_no 1 = .ok (.iload_n 1, 1) := dk_27 rfl
theorem dX11_no_2 : decode cX11_no 2 = .ok (.putfield 86, 3) := dk_181 rfl rfl rfl rfl
theorem dX11_no_5 : decode cX11_no 5 = .ok (.iconst (-1), 1) := dk_2 rfl
theorem dX11_no_6 : decode cX11_no 6 = .ok (.ireturn, 1) := dk_172 rfl
set_option maxHeartbeats 4000000 in
set_option maxRecDepth 100000 in
theorem m_no (l : Launch) (g : Gx) (h0 : Nat) (p0 : Int32) (m_thrown : Int32) (a_tape : Nat) (m_taped : Int32) (m_size : Int32) (m_at : Int32) (m_end : Int32) (m_token : Int32) (m_whole : Int32) (m_nameSize : Int32) (m_fault : Int32) (m_place : Int32) (m_trouble : Int32) (a_letters : Nat) (m_failed : Int32) (m_hasHouse : Int32) (a_r : Nat) (a_fresh : Nat) (a_st : Nat) (a_undone : Nat) (a_kept : Nat) (m_undos : Int32) (m_images : Int32) (a_from : Nat) (a_begin : Nat) (a_motor : Nat) (a_change : Nat) (a_startFrame : Nat) (a_changeFrame : Nat) (a_lostAt : Nat) (a_blackAt : Nat) (a_slips : Nat) (a_leftArc : Nat) (a_died : Nat) (a_arcs : Nat) (m_bestSum : Int32) (m_nearest : Int32) (m_nearestTown : Int32) (a_there : Nat) (a_backAt : Nat) (a_sorted : Nat) (a_parts : Nat) (m_seed1 : Int32) (m_darkNow : Int32) : cI l g yX11_no cX11_no 2 (some .int) 0 0 0 0 [.ref h0, .int p0] [(cO11_i1r1i10r1i2r5i2r12i3r4i2 h0 m_thrown a_tape m_taped m_size m_at m_end m_token m_whole m_nameSize m_fault m_place m_trouble a_letters m_failed m_hasHouse a_r a_fresh a_st a_undone a_kept m_undos m_images a_from a_begin a_motor a_change a_startFrame a_changeFrame a_lostAt a_blackAt a_slips a_leftArc a_died a_arcs m_bestSum m_nearest m_nearestTown a_there a_backAt a_sorted a_parts m_seed1 m_darkNow)] (fun r w => ∃ (m_trouble2 : Int32), IV r (-1) (-1) ∧ w = [(cO11_i1r1i10r1i2r5i2r12i3r4i2 h0 m_thrown a_tape m_taped m_size m_at m_end m_token m_whole m_nameSize m_fault m_place m_trouble2 a_letters m_failed m_hasHouse a_r a_fresh a_st a_undone a_kept m_undos m_images a_from a_begin a_motor a_change a_startFrame a_changeFrame a_lostAt a_blackAt a_slips a_leftArc a_died a_arcs m_bestSum m_nearest m_nearestTown a_there a_backAt a_sorted a_parts m_seed1 m_darkNow)]) := by
  refine cI.of (by decide) (Nat.le_of_ble_eq_true rfl) ?_
  intro p e s m args below meth c A X hr hi
  refine k_lveq [(0, .ref h0), (1, .int p0)] rfl ?_
  refine k_aload_n X dX11_no_0 0 rfl ?_
  refine k_iload_n X dX11_no_1 1 rfl ?_
  refine k_put (ci := 11) [(cO11_i1r1i10r1i2r5i2r12i3r4i2 h0 m_thrown a_tape m_taped m_size m_at m_end m_token m_whole m_nameSize m_fault m_place p0 a_letters m_failed m_hasHouse a_r a_fresh a_st a_undone a_kept m_undos m_images a_from a_begin a_motor a_change a_startFrame a_changeFrame a_lostAt a_blackAt a_slips a_leftArc a_died a_arcs m_bestSum m_nearest m_nearestTown a_there a_backAt a_sorted a_parts m_seed1 m_darkNow)] X inlX11 rfl tyX11_ok nmX11 11 (by decide) rfl dX11_no_2 mw481 0 rfl rfl rfl (Nat.le_of_ble_eq_true rfl) rfl ?_
  refine k_iconst (v := -1) X dX11_no_5 (by decide) ?_
  exact k_iret X hr dX11_no_6 (Nat.le_of_ble_eq_true rfl) (Nat.le_of_ble_eq_true rfl) [0] (by decide) rfl rfl ⟨p0, (iv_w (show IV (-1) (-1) (-1) from (by decide)) (by decide) (by decide)), rfl⟩

theorem dX11_isNot_0 : decode cX11_isNot 0 = .ok (.aload_n 0, 1) := dk_42 rfl
theorem dX11_isNot_1 : decode cX11_isNot 1 = .ok (.iload_n 1, 1) := dk_27 rfl
theorem dX11_isNot_2 : decode cX11_isNot 2 = .ok (.putfield 86, 3) := dk_181 rfl rfl rfl rfl
theorem dX11_isNot_5 : decode cX11_isNot 5 = .ok (.iconst 0, 1) := dk_3 rfl
theorem dX11_isNot_6 : decode cX11_isNot 6 = .ok (.ireturn, 1) := dk_172 rfl
theorem dX11_in_0 : decode cX11_in 0 = .ok (.iload_n 0, 1) := dk_26 rfl
theorem dX11_in_1 : decode cX11_in 1 = .ok (.iload_n 1, 1) := dk_27 rfl
theorem dX11_in_2 : decode cX11_in 2 = .ok (.if_icmp .lt 12, 3) := dk_161 rfl rfl rfl (by decide)
theorem dX11_in_5 : decode cX11_in 5 = .ok (.iload_n 0, 1) := dk_26 rfl
theorem dX11_in_6 : decode cX11_in 6 = .ok (.iload_n 2, 1) := dk_28 rfl
theorem dX11_in_7 : decode cX11_in 7 = .ok (.if_icmp .gt 7, 3) := dk_163 rfl rfl rfl (by decide)
theorem dX11_in_10 : decode cX11_in 10 = .ok (.iconst 1, 1) := dk_4 rfl
theorem dX11_in_11 : decode cX11_in 11 = .ok (.goto 4, 3) := dk_167 rfl rfl rfl (by decide)
theorem dX11_in_14 : decode cX11_in 14 = .ok (.iconst 0, 1) := dk_3 rfl
theorem dX11_in_15 : decode cX11_in 15 = .ok (.ireturn, 1) := dk_172 rfl
set_option maxHeartbeats 4000000 in
set_option maxRecDepth 100000 in
theorem m_in (l : Launch) (g : Gx) (p0 : Int32) (p1 : Int32) (p2 : Int32) : cI l g yX11_in cX11_in 3 (some .boolean) 0 0 0 0 [.int p0, .int p1, .int p2] [] (fun r w => IV r 0 1 ∧ (r = 0 ∨ (p1.toInt ≤ p0.toInt ∧ p0.toInt ≤ p2.toInt)) ∧ (r = 0 → p0.toInt < p1.toInt ∨ p2.toInt < p0.toInt) ∧ w = []) := by
  refine cI.of (by decide) (Nat.le_of_ble_eq_true rfl) ?_
  intro p e s m args below meth c A X hr hi
  refine k_lveq [(0, .int p0), (1, .int p1), (2, .int p2)] rfl ?_
  refine k_iload_n X dX11_in_0 0 rfl ?_
  refine k_iload_n X dX11_in_1 1 rfl ?_
  refine k_ic_lt 14 X dX11_in_2 (by decide) (fun h_1 => ?_) (fun h_1 => ?_)
  · skip
    have j_2 : p0.toInt < p1.toInt := iv_lt h_1
    have iv_3 : IV p0 (-2147483648) 2147483646 := iv_ltL (iv_lt h_1) (iv_any p0) (iv_any p1) (by decide)
    have iv_4 : IV p1 (-2147483647) 2147483647 := iv_ltR (iv_lt h_1) (iv_any p0) (iv_any p1) (by decide)
    refine k_iconst (v := 0) X dX11_in_14 (by decide) ?_
    exact k_zret X hr (by first | rfl | decide) dX11_in_15 (Nat.le_of_ble_eq_true rfl) (Nat.le_of_ble_eq_true rfl) [] (by decide) rfl rfl ⟨(iv_w (show IV 0 0 0 from (by decide)) (by decide) (by decide)), (Or.inl (iv_eq (show IV 0 0 0 from (by decide)) (show IV 0 0 0 from (by decide)))), (fun _ => (by omega)), rfl⟩
  · skip
    have j_5 : p1.toInt ≤ p0.toInt := iv_nlt h_1
    refine k_iload_n X dX11_in_5 0 rfl ?_
    refine k_iload_n X dX11_in_6 2 rfl ?_
    refine k_ic_gt 14 X dX11_in_7 (by decide) (fun h_6 => ?_) (fun h_6 => ?_)
    · skip
      have j_7 : p2.toInt < p0.toInt := iv_lt h_6
      have iv_8 : IV p2 (-2147483648) 2147483646 := iv_ltL (iv_lt h_6) (iv_any p2) (iv_any p0) (by decide)
      have iv_9 : IV p0 (-2147483647) 2147483647 := iv_ltR (iv_lt h_6) (iv_any p2) (iv_any p0) (by decide)
      refine k_iconst (v := 0) X dX11_in_14 (by decide) ?_
      exact k_zret X hr (by first | rfl | decide) dX11_in_15 (Nat.le_of_ble_eq_true rfl) (Nat.le_of_ble_eq_true rfl) [] (by decide) rfl rfl ⟨(iv_w (show IV 0 0 0 from (by decide)) (by decide) (by decide)), (Or.inl (iv_eq (show IV 0 0 0 from (by decide)) (show IV 0 0 0 from (by decide)))), (fun _ => (by omega)), rfl⟩
    · skip
      have j_10 : p0.toInt ≤ p2.toInt := iv_nlt h_6
      refine k_iconst (v := 1) X dX11_in_10 (by decide) ?_
      refine k_goto 15 X dX11_in_11 (by decide) ?_
      exact k_zret X hr (by first | rfl | decide) dX11_in_15 (Nat.le_of_ble_eq_true rfl) (Nat.le_of_ble_eq_true rfl) [] (by decide) rfl rfl ⟨(iv_w (show IV 1 1 1 from (by decide)) (by decide) (by decide)), (Or.inr ⟨(by omega), (by omega)⟩), (fun q => (iv_eqN q (show IV 1 1 1 from (by decide)) (show IV 0 0 0 from (by decide)) (by decide)).elim), rfl⟩

theorem dX11_hasBit_0 : decode cX11_hasBit 0 = .ok (.iload_n 0, 1) := dk_26 rfl
theorem dX11_hasBit_1 : decode cX11_hasBit 1 = .ok (.iload_n 1, 1) := dk_27 rfl
theorem dX11_hasBit_2 : decode cX11_hasBit 2 = .ok (.ishr, 1) := dk_122 rfl
theorem dX11_hasBit_3 : decode cX11_hasBit 3 = .ok (.iconst 1, 1) := dk_4 rfl
theorem dX11_hasBit_4 : decode cX11_hasBit 4 = .ok (.iand, 1) := dk_126 rfl
theorem dX11_hasBit_5 : decode cX11_hasBit 5 = .ok (.iconst 1, 1) := dk_4 rfl
theorem dX11_hasBit_6 : decode cX11_hasBit 6 = .ok (.if_icmp .ne 7, 3) := dk_160 rfl rfl rfl (by decide)
theorem dX11_hasBit_9 : decode cX11_hasBit 9 = .ok (.iconst 1, 1) := dk_4 rfl
theorem dX11_hasBit_10 : decode cX11_hasBit 10 = .ok (.goto 4, 3) := dk_167 rfl rfl rfl (by decide)
theorem dX11_hasBit_13 : decode cX11_hasBit 13 = .ok (.iconst 0, 1) := dk_3 rfl
theorem dX11_hasBit_14 : decode cX11_hasBit 14 = .ok (.ireturn, 1) := dk_172 rfl
set_option maxHeartbeats 4000000 in
set_option maxRecDepth 100000 in
theorem m_hasBit (l : Launch) (g : Gx) (p0 : Int32) (p1 : Int32) : cI l g yX11_hasBit cX11_hasBit 2 (some .boolean) 0 0 0 0 [.int p0, .int p1] [] (fun r w => IV r 0 1 ∧ w = []) := by
  refine cI.of (by decide) (Nat.le_of_ble_eq_true rfl) ?_
  intro p e s m args below meth c A X hr hi
  refine k_lveq [(0, .int p0), (1, .int p1)] rfl ?_
  refine k_iload_n X dX11_hasBit_0 0 rfl ?_
  refine k_iload_n X dX11_hasBit_1 1 rfl ?_
  refine k_ishr X dX11_hasBit_2 ?_
  refine k_nm (fun z_1 ez_1 => ?_)
  refine k_iconst (v := 1) X dX11_hasBit_3 (by decide) ?_
  refine k_iand X dX11_hasBit_4 ?_
  refine k_nm (fun z_2 ez_2 => ?_)
  have iv_3 : IV z_2 0 1 := iv_and (ez_2.trans (Int32.and_comm _ _)) (show IV 1 1 1 from (by decide)) (by decide)
  refine k_iconst (v := 1) X dX11_hasBit_5 (by decide) ?_
  refine k_ic_ne 13 X dX11_hasBit_6 (by decide) (fun h_4 => ?_) (fun h_4 => ?_)
  · skip
    have iv_5 : IV z_2 0 0 := iv_neH h_4 iv_3 (show IV 1 1 1 from (by decide)) (by decide)
    refine k_iconst (v := 0) X dX11_hasBit_13 (by decide) ?_
    exact k_zret X hr (by first | rfl | decide) dX11_hasBit_14 (Nat.le_of_ble_eq_true rfl) (Nat.le_of_ble_eq_true rfl) [] (by decide) rfl rfl ⟨(iv_w (show IV 0 0 0 from (by decide)) (by decide) (by decide)), rfl⟩
  · skip
    have iv_6 : IV z_2 1 1 := iv_meet iv_3 (iv_e h_4 (show IV 1 1 1 from (by decide))) (by decide) (by decide)
    refine k_iconst (v := 1) X dX11_hasBit_9 (by decide) ?_
    refine k_goto 14 X dX11_hasBit_10 (by decide) ?_
    exact k_zret X hr (by first | rfl | decide) dX11_hasBit_14 (Nat.le_of_ble_eq_true rfl) (Nat.le_of_ble_eq_true rfl) [] (by decide) rfl rfl ⟨(iv_w (show IV 1 1 1 from (by decide)) (by decide) (by decide)), rfl⟩

theorem dX11_ones_0 : decode cX11_ones 0 = .ok (.iconst 0, 1) := dk_3 rfl
theorem dX11_ones_1 : decode cX11_ones 1 = .ok (.istore_n 1, 1) := dk_60 rfl
theorem dX11_ones_2 : decode cX11_ones 2 = .ok (.iconst 0, 1) := dk_3 rfl
theorem dX11_ones_3 : decode cX11_ones 3 = .ok (.istore_n 2, 1) := dk_61 rfl
theorem dX11_ones_4 : decode cX11_ones 4 = .ok (.iload_n 2, 1) := dk_28 rfl
theorem dX11_ones_5 : decode cX11_ones 5 = .ok (.bipush 8, 2) := dk_16 rfl rfl (by decide)
theorem dX11_ones_7 : decode cX11_ones 7 = .ok (.if_icmp .ge 17, 3) := dk_162 rfl rfl rfl (by decide)
theorem dX11_ones_10 : decode cX11_ones 10 = .ok (.iload_n 1, 1) := dk_27 rfl
theorem dX11_ones_11 : decode cX11_ones 11 = .ok (.iload_n 0, 1) := dk_26 rfl
theorem dX11_ones_12 : decode cX11_ones 12 = .ok (.iload_n 2, 1) := dk_28 rfl
theorem dX11_ones_13 : decode cX11_ones 13 = .ok (.ishr, 1) := dk_122 rfl
theorem dX11_ones_14 : decode cX11_ones 14 = .ok (.iconst 1, 1) := dk_4 rfl
theorem dX11_ones_15 : decode cX11_ones 15 = .ok (.iand, 1) := dk_126 rfl
theorem dX11_ones_16 : decode cX11_ones 16 = .ok (.iadd, 1) := dk_96 rfl
theorem dX11_ones_17 : decode cX11_ones 17 = .ok (.istore_n 1, 1) := dk_60 rfl
theorem dX11_ones_18 : decode cX11_ones 18 = .ok (.iinc 2 1, 3) := dk_132 rfl rfl rfl rfl (by decide)
theorem dX11_ones_21 : decode cX11_ones 21 = .ok (.goto (-17), 3) := dk_167 rfl rfl rfl (by decide)
theorem dX11_ones_24 : decode cX11_ones 24 = .ok (.iload_n 1, 1) := dk_27 rfl
theorem dX11_ones_25 : decode cX11_ones 25 = .ok (.ireturn, 1) := dk_172 rfl
set_option maxHeartbeats 4000000 in
set_option maxRecDepth 100000 in
theorem m_ones (l : Launch) (g : Gx) (p0 : Int32) : cI l g yX11_ones cX11_ones 3 (some .int) 0 0 0 0 [.int p0] [] (fun r w => w = []) := by
  refine cI.of (by decide) (Nat.le_of_ble_eq_true rfl) ?_
  intro p e s m args below meth c A X hr hi
  refine k_lveq [(0, .int p0)] rfl ?_
  refine k_iconst (v := 0) X dX11_ones_0 (by decide) ?_
  refine k_istore_n [(1, .int 0), (0, .int p0)] X dX11_ones_1 (by decide) rfl ?_
  refine k_iconst (v := 0) X dX11_ones_2 (by decide) ?_
  refine k_istore_n [(2, .int 0), (1, .int 0), (0, .int p0)] X dX11_ones_3 (by decide) rfl ?_
  refine (fun hL : ∀ (nn_4 : Nat) (u_1 : Int32) (u_2 : Int32), (8 - u_2.toInt).toNat = nn_4 → (IV u_2 0 8) → Wk p l e _ s m args below meth c _ A g _ _ _ [] [(2, .int u_2), (1, .int u_1), (0, .int p0)] 4 [] => hL _ 0 0 rfl (iv_w (show IV 0 0 0 from (by decide)) (by decide) (by decide))) ?_
  refine fun nn_4 => Nat.strongRecOn nn_4 (fun nn_4 ih_6 => ?_)
  intro u_1 u_2 hm_5 hv_3
  refine k_iload_n X dX11_ones_4 0 rfl ?_
  refine k_bipush (v := 8) X dX11_ones_5 (by decide) ?_
  refine k_ic_ge 24 X dX11_ones_7 (by decide) (fun h_7 => ?_) (fun h_7 => ?_)
  · skip
    have j_8 : 8 ≤ u_2.toInt := iv_le h_7
    have iv_9 : IV u_2 8 8 := iv_leR (iv_le h_7) (show IV 8 8 8 from (by decide)) hv_3 (by decide)
    refine k_iload_n X dX11_ones_24 1 rfl ?_
    exact k_iret X hr dX11_ones_25 (Nat.le_of_ble_eq_true rfl) (Nat.le_of_ble_eq_true rfl) [] (by decide) rfl rfl rfl
  · skip
    have j_10 : u_2.toInt < 8 := iv_nle h_7
    have iv_11 : IV u_2 0 7 := iv_ltL (iv_nle h_7) hv_3 (show IV 8 8 8 from (by decide)) (by decide)
    refine k_iload_n X dX11_ones_10 1 rfl ?_
    refine k_iload_n X dX11_ones_11 2 rfl ?_
    refine k_iload_n X dX11_ones_12 0 rfl ?_
    refine k_ishr X dX11_ones_13 ?_
    refine k_nm (fun z_12 ez_12 => ?_)
    refine k_iconst (v := 1) X dX11_ones_14 (by decide) ?_
    refine k_iand X dX11_ones_15 ?_
    refine k_nm (fun z_13 ez_13 => ?_)
    have iv_14 : IV z_13 0 1 := iv_and (ez_13.trans (Int32.and_comm _ _)) (show IV 1 1 1 from (by decide)) (by decide)
    refine k_iadd X dX11_ones_16 ?_
    refine k_nm (fun z_15 ez_15 => ?_)
    refine k_istore_n [(1, .int z_15), (2, .int u_2), (0, .int p0)] X dX11_ones_17 (by decide) rfl ?_
    obtain ⟨z_17, ez_17⟩ : ∃ y : Int32, u_2 + Int32.ofInt 1 = y := ⟨_, rfl⟩
    refine k_iinc z_17 [(2, .int z_17), (1, .int z_15), (0, .int p0)] 1 X dX11_ones_18 rfl ez_17 (by decide) rfl ?_
    have i_18 : z_17.toInt = u_2.toInt + 1 := in_inc ez_17 (by decide) iv_11 (by decide) (by decide)
    have iv_19 : IV z_17 1 8 := iz1 i_18 iv_11 (by decide) (by decide)
    refine k_goto 4 X dX11_ones_21 (by decide) ?_
    exact ih_6 _ (by omega) z_15 z_17 rfl (iv_w iv_19 (by decide) (by decide))

theorem dX11_most_0 : decode cX11_most 0 = .ok (.iload_n 0, 1) := dk_26 rfl
theorem dX11_most_1 : decode cX11_most 1 = .ok (.iload_n 1, 1) := dk_27 rfl
theorem dX11_most_2 : decode cX11_most 2 = .ok (.if_icmp .le 7, 3) := dk_164 rfl rfl rfl (by decide)
theorem dX11_most_5 : decode cX11_most 5 = .ok (.iload_n 0, 1) := dk_26 rfl
theorem dX11_most_6 : decode cX11_most 6 = .ok (.goto 4, 3) := dk_167 rfl rfl rfl (by decide)
theorem dX11_most_9 : decode cX11_most 9 = .ok (.iload_n 1, 1) := dk_27 rfl
theorem dX11_most_10 : decode cX11_most 10 = .ok (.ireturn, 1) := dk_172 rfl
set_option maxHeartbeats 4000000 in
set_option maxRecDepth 100000 in
theorem m_most (l : Launch) (g : Gx) (p0 : Int32) (p1 : Int32) : cI l g yX11_most cX11_most 2 (some .int) 0 0 0 0 [.int p0, .int p1] [] (fun r w => w = []) := by
  refine cI.of (by decide) (Nat.le_of_ble_eq_true rfl) ?_
  intro p e s m args below meth c A X hr hi
  refine k_lveq [(0, .int p0), (1, .int p1)] rfl ?_
  refine k_iload_n X dX11_most_0 0 rfl ?_
  refine k_iload_n X dX11_most_1 1 rfl ?_
  refine k_ic_le 9 X dX11_most_2 (by decide) (fun h_1 => ?_) (fun h_1 => ?_)
  · skip
    have j_2 : p0.toInt ≤ p1.toInt := iv_le h_1
    refine k_iload_n X dX11_most_9 1 rfl ?_
    exact k_iret X hr dX11_most_10 (Nat.le_of_ble_eq_true rfl) (Nat.le_of_ble_eq_true rfl) [] (by decide) rfl rfl rfl
  · skip
    have j_3 : p1.toInt < p0.toInt := iv_nle h_1
    have iv_4 : IV p1 (-2147483648) 2147483646 := iv_ltL (iv_nle h_1) (iv_any p1) (iv_any p0) (by decide)
    have iv_5 : IV p0 (-2147483647) 2147483647 := iv_ltR (iv_nle h_1) (iv_any p1) (iv_any p0) (by decide)
    refine k_iload_n X dX11_most_5 0 rfl ?_
    refine k_goto 10 X dX11_most_6 (by decide) ?_
    exact k_iret X hr dX11_most_10 (Nat.le_of_ble_eq_true rfl) (Nat.le_of_ble_eq_true rfl) [] (by decide) rfl rfl rfl

theorem dX11_least_0 : decode cX11_least 0 = .ok (.iload_n 0, 1) := dk_26 rfl
theorem dX11_least_1 : decode cX11_least 1 = .ok (.iload_n 1, 1) := dk_27 rfl
theorem dX11_least_2 : decode cX11_least 2 = .ok (.if_icmp .ge 7, 3) := dk_162 rfl rfl rfl (by decide)
theorem dX11_least_5 : decode cX11_least 5 = .ok (.iload_n 0, 1) := dk_26 rfl
theorem dX11_least_6 : decode cX11_least 6 = .ok (.goto 4, 3) := dk_167 rfl rfl rfl (by decide)
theorem dX11_least_9 : decode cX11_least 9 = .ok (.iload_n 1, 1) := dk_27 rfl
theorem dX11_least_10 : decode cX11_least 10 = .ok (.ireturn, 1) := dk_172 rfl
set_option maxHeartbeats 4000000 in
set_option maxRecDepth 100000 in
theorem m_least (l : Launch) (g : Gx) (p0 : Int32) (p1 : Int32) : cI l g yX11_least cX11_least 2 (some .int) 0 0 0 0 [.int p0, .int p1] [] (fun r w => w = []) := by
  refine cI.of (by decide) (Nat.le_of_ble_eq_true rfl) ?_
  intro p e s m args below meth c A X hr hi
  refine k_lveq [(0, .int p0), (1, .int p1)] rfl ?_
  refine k_iload_n X dX11_least_0 0 rfl ?_
  refine k_iload_n X dX11_least_1 1 rfl ?_
  refine k_ic_ge 9 X dX11_least_2 (by decide) (fun h_1 => ?_) (fun h_1 => ?_)
  · skip
    have j_2 : p1.toInt ≤ p0.toInt := iv_le h_1
    refine k_iload_n X dX11_least_9 1 rfl ?_
    exact k_iret X hr dX11_least_10 (Nat.le_of_ble_eq_true rfl) (Nat.le_of_ble_eq_true rfl) [] (by decide) rfl rfl rfl
  · skip
    have j_3 : p0.toInt < p1.toInt := iv_nle h_1
    have iv_4 : IV p0 (-2147483648) 2147483646 := iv_ltL (iv_nle h_1) (iv_any p0) (iv_any p1) (by decide)
    have iv_5 : IV p1 (-2147483647) 2147483647 := iv_ltR (iv_nle h_1) (iv_any p0) (iv_any p1) (by decide)
    refine k_iload_n X dX11_least_5 0 rfl ?_
    refine k_goto 10 X dX11_least_6 (by decide) ?_
    exact k_iret X hr dX11_least_10 (Nat.le_of_ble_eq_true rfl) (Nat.le_of_ble_eq_true rfl) [] (by decide) rfl rfl rfl

theorem dX11_isSmall_0 : decode cX11_isSmall 0 = .ok (.iload_n 0, 1) := dk_26 rfl
theorem dX11_isSmall_1 : decode cX11_isSmall 1 = .ok (.bipush 97, 2) := dk_16 rfl rfl (by decide)
theorem dX11_isSmall_3 : decode cX11_isSmall 3 = .ok (.if_icmp .lt 13, 3) := dk_161 rfl rfl rfl (by decide)
theorem dX11_isSmall_6 : decode cX11_isSmall 6 = .ok (.iload_n 0, 1) := dk_26 rfl
theorem dX11_isSmall_7 : decode cX11_isSmall 7 = .ok (.bipush 122, 2) := dk_16 rfl rfl (by decide)
theorem dX11_isSmall_9 : decode cX11_isSmall 9 = .ok (.if_icmp .gt 7, 3) := dk_163 rfl rfl rfl (by decide)
theorem dX11_isSmall_12 : decode cX11_isSmall 12 = .ok (.iconst 1, 1) := dk_4 rfl
theorem dX11_isSmall_13 : decode cX11_isSmall 13 = .ok (.goto 4, 3) := dk_167 rfl rfl rfl (by decide)
theorem dX11_isSmall_16 : decode cX11_isSmall 16 = .ok (.iconst 0, 1) := dk_3 rfl
theorem dX11_isSmall_17 : decode cX11_isSmall 17 = .ok (.ireturn, 1) := dk_172 rfl
theorem dX11_isDigit_0 : decode cX11_isDigit 0 = .ok (.iload_n 0, 1) := dk_26 rfl
theorem dX11_isDigit_1 : decode cX11_isDigit 1 = .ok (.bipush 48, 2) := dk_16 rfl rfl (by decide)
theorem dX11_isDigit_3 : decode cX11_isDigit 3 = .ok (.if_icmp .lt 13, 3) := dk_161 rfl rfl rfl (by decide)
theorem dX11_isDigit_6 : decode cX11_isDigit 6 = .ok (.iload_n 0, 1) := dk_26 rfl
theorem dX11_isDigit_7 : decode cX11_isDigit 7 = .ok (.bipush 57, 2) := dk_16 rfl rfl (by decide)
theorem dX11_isDigit_9 : decode cX11_isDigit 9 = .ok (.if_icmp .gt 7, 3) := dk_163 rfl rfl rfl (by decide)
theorem dX11_isDigit_12 : decode cX11_isDigit 12 = .ok (.iconst 1, 1) := dk_4 rfl
theorem dX11_isDigit_13 : decode cX11_isDigit 13 = .ok (.goto 4, 3) := dk_167 rfl rfl rfl (by decide)
theorem dX11_isDigit_16 : decode cX11_isDigit 16 = .ok (.iconst 0, 1) := dk_3 rfl
theorem dX11_isDigit_17 : decode cX11_isDigit 17 = .ok (.ireturn, 1) := dk_172 rfl
theorem dX11_shifted_0 : decode cX11_shifted 0 = .ok (.iload_n 0, 1) := dk_26 rfl
theorem dX11_shifted_1 : decode cX11_shifted 1 = .ok (.iload_n 1, 1) := dk_27 rfl
theorem dX11_shifted_2 : decode cX11_shifted 2 = .ok (.if_icmp .lt 13, 3) := dk_161 rfl rfl rfl (by decide)
theorem dX11_shifted_5 : decode cX11_shifted 5 = .ok (.iload_n 0, 1) := dk_26 rfl
theorem dX11_shifted_6 : decode cX11_shifted 6 = .ok (.iconst 2, 1) := dk_5 rfl
theorem dX11_shifted_7 : decode cX11_shifted 7 = .ok (.isub, 1) := dk_100 rfl
theorem dX11_shifted_8 : decode cX11_shifted 8 = .ok (.iconst 0, 1) := dk_3 rfl
theorem dX11_shifted_9 : decode cX11_shifted 9 = .ok (.invokestatic 351, 3) := dk_184 rfl rfl rfl rfl
theorem dX11_shifted_12 : decode cX11_shifted 12 = .ok (.goto 4, 3) := dk_167 rfl rfl rfl (by decide)
theorem dX11_shifted_15 : decode cX11_shifted 15 = .ok (.iload_n 0, 1) := dk_26 rfl
theorem dX11_shifted_16 : decode cX11_shifted 16 = .ok (.istore_n 3, 1) := dk_62 rfl
theorem dX11_shifted_17 : decode cX11_shifted 17 = .ok (.iload_n 3, 1) := dk_29 rfl
theorem dX11_shifted_18 : decode cX11_shifted 18 = .ok (.iload_n 2, 1) := dk_28 rfl
theorem dX11_shifted_19 : decode cX11_shifted 19 = .ok (.iconst 1, 1) := dk_4 rfl
theorem dX11_shifted_20 : decode cX11_shifted 20 = .ok (.isub, 1) := dk_100 rfl
theorem dX11_shifted_21 : decode cX11_shifted 21 = .ok (.invokestatic 348, 3) := dk_184 rfl rfl rfl rfl
theorem dX11_shifted_24 : decode cX11_shifted 24 = .ok (.ireturn, 1) := dk_172 rfl
theorem dX11_isReel_0 : decode cX11_isReel 0 = .ok (.aload_n 0, 1) := dk_42 rfl
theorem dX11_isReel_1 : decode cX11_isReel 1 = .ok (.getfield 213, 3) := dk_180 rfl rfl rfl rfl
theorem dX11_isReel_4 : decode cX11_isReel 4 = .ok (.ifCond .eq 24, 3) := dk_153 rfl rfl rfl (by decide)
theorem dX11_isReel_7 : decode cX11_isReel 7 = .ok (.iload_n 1, 1) := dk_27 rfl
theorem dX11_isReel_8 : decode cX11_isReel 8 = .ok (.iconst 0, 1) := dk_3 rfl
theorem dX11_isReel_9 : decode cX11_isReel 9 = .ok (.aload_n 0, 1) := dk_42 rfl
theorem dX11_isReel_10 : decode cX11_isReel 10 = .ok (.getfield 20, 3) := dk_180 rfl rfl rfl rfl
theorem dX11_isReel_13 : decode cX11_isReel 13 = .ok (.bipush 6, 2) := dk_16 rfl rfl (by decide)
theorem dX11_isReel_15 : decode cX11_isReel 15 = .ok (.iaload, 1) := dk_46 rfl
theorem dX11_isReel_16 : decode cX11_isReel 16 = .ok (.iconst 1, 1) := dk_4 rfl
theorem dX11_isReel_17 : decode cX11_isReel 17 = .ok (.isub, 1) := dk_100 rfl
theorem dX11_isReel_18 : decode cX11_isReel 18 = .ok (.invokestatic 182, 3) := dk_184 rfl rfl rfl rfl
theorem dX11_isReel_21 : decode cX11_isReel 21 = .ok (.ifCond .eq 7, 3) := dk_153 rfl rfl rfl (by decide)
theorem dX11_isReel_24 : decode cX11_isReel 24 = .ok (.iconst 1, 1) := dk_4 rfl
theorem dX11_isReel_25 : decode cX11_isReel 25 = .ok (.goto 4, 3) := dk_167 rfl rfl rfl (by decide)
theorem dX11_isReel_28 : decode cX11_isReel 28 = .ok (.iconst 0, 1) := dk_3 rfl
theorem dX11_isReel_29 : decode cX11_isReel 29 = .ok (.ireturn, 1) := dk_172 rfl
set_option maxHeartbeats 4000000 in
set_option maxRecDepth 100000 in
theorem m_isReel (l : Launch) (g : Gx) (h0 : Nat) (p0 : Int32) (m_thrown : Int32) (a_tape : Nat) (m_taped : Int32) (m_size : Int32) (m_at : Int32) (m_end : Int32) (m_token : Int32) (m_whole : Int32) (m_nameSize : Int32) (m_fault : Int32) (m_place : Int32) (m_trouble : Int32) (a_letters : Nat) (m_failed : Int32) (m_hasHouse : Int32) (a_r : Nat) (a_fresh : Nat) (a_st : Nat) (a_undone : Nat) (a_kept : Nat) (m_undos : Int32) (m_images : Int32) (a_from : Nat) (a_begin : Nat) (a_motor : Nat) (a_change : Nat) (a_startFrame : Nat) (a_changeFrame : Nat) (a_lostAt : Nat) (a_blackAt : Nat) (a_slips : Nat) (a_leftArc : Nat) (a_died : Nat) (a_arcs : Nat) (m_bestSum : Int32) (m_nearest : Int32) (m_nearestTown : Int32) (a_there : Nat) (a_backAt : Nat) (a_sorted : Nat) (a_parts : Nat) (m_seed1 : Int32) (m_darkNow : Int32) (d_r : Nat → Int32) (hv_m_hasHouse : IV m_hasHouse 0 1) (hp_d_r : RInv d_r) : cI l g yX11_isReel cX11_isReel 2 (some .boolean) 1 22 0 0 [.ref h0, .int p0] [(cO11_i1r1i10r1i2r5i2r12i3r4i2 h0 m_thrown a_tape m_taped m_size m_at m_end m_token m_whole m_nameSize m_fault m_place m_trouble a_letters m_failed m_hasHouse a_r a_fresh a_st a_undone a_kept m_undos m_images a_from a_begin a_motor a_change a_startFrame a_changeFrame a_lostAt a_blackAt a_slips a_leftArc a_died a_arcs m_bestSum m_nearest m_nearestTown a_there a_backAt a_sorted a_parts m_seed1 m_darkNow), (cAI g a_r 311 d_r)] (fun r w => IV r 0 1 ∧ (r = 0 ∨ (IV p0 0 7)) ∧ w = [(cO11_i1r1i10r1i2r5i2r12i3r4i2 h0 m_thrown a_tape m_taped m_size m_at m_end m_token m_whole m_nameSize m_fault m_place m_trouble a_letters m_failed m_hasHouse a_r a_fresh a_st a_undone a_kept m_undos m_images a_from a_begin a_motor a_change a_startFrame a_changeFrame a_lostAt a_blackAt a_slips a_leftArc a_died a_arcs m_bestSum m_nearest m_nearestTown a_there a_backAt a_sorted a_parts m_seed1 m_darkNow), (cAI g a_r 311 d_r)]) := by
  refine cI.of (by decide) (Nat.le_of_ble_eq_true rfl) ?_
  intro p e s m args below meth c A X hr hi
  refine k_lveq [(0, .ref h0), (1, .int p0)] rfl ?_
  refine k_aload_n X dX11_isReel_0 0 rfl ?_
  refine k_get (ci := 11) X inlX11 rfl 14 (by decide) dX11_isReel_1 mw474 0 rfl rfl ?_
  refine k_if_eq 28 X dX11_isReel_4 (by decide) (fun h_1 => ?_) (fun h_1 => ?_)
  · skip
    have iv_2 : IV m_hasHouse 0 0 := iv_meet hv_m_hasHouse (iv_e h_1 (show IV 0 0 0 from (by decide))) (by decide) (by decide)
    refine k_iconst (v := 0) X dX11_isReel_28 (by decide) ?_
    exact k_zret X hr (by first | rfl | decide) dX11_isReel_29 (Nat.le_of_ble_eq_true rfl) (Nat.le_of_ble_eq_true rfl) [0, 1] (by decide) rfl rfl ⟨(iv_w (show IV 0 0 0 from (by decide)) (by decide) (by decide)), (Or.inl (iv_eq (show IV 0 0 0 from (by decide)) (show IV 0 0 0 from (by decide)))), rfl⟩
  · skip
    have iv_3 : IV m_hasHouse 1 1 := iv_neL h_1 hv_m_hasHouse (show IV 0 0 0 from (by decide)) (by decide)
    refine k_iload_n X dX11_isReel_7 1 rfl ?_
    refine k_iconst (v := 0) X dX11_isReel_8 (by decide) ?_
    refine k_aload_n X dX11_isReel_9 0 rfl ?_
    refine k_get (ci := 11) X inlX11 rfl 15 (by decide) dX11_isReel_10 mw170 0 rfl rfl ?_
    refine k_bipush (v := 6) X dX11_isReel_13 (by decide) ?_
    refine k_iald X dX11_isReel_15 1 rfl (by unfold vp_in; decide) ?_
    refine k_nm (fun z_4 ez_4 => ?_)
    have i_5 : z_4.toInt = (d_r 6).toInt := by rw [ez_4]; rfl
    have iv_6 : IV z_4 0 8 := rb_6 ez_4 hp_d_r
    refine k_iconst (v := 1) X dX11_isReel_16 (by decide) ?_
    refine k_isub X dX11_isReel_17 ?_
    refine k_nm (fun z_7 ez_7 => ?_)
    have i_8 : z_7.toInt = z_4.toInt - 1 := in_sub ez_7 iv_6 (show IV 1 1 1 from (by decide)) (by decide) (by decide)
    have iv_9 : IV z_7 (-1) 7 := iz5 i_8 iv_6 (by decide) (by decide)
    refine k_callSI (n := 3) (As := [.int p0, .int 0, .int z_7]) (st := []) X [] [(cO11_i1r1i10r1i2r5i2r12i3r4i2 h0 m_thrown a_tape m_taped m_size m_at m_end m_token m_whole m_nameSize m_fault m_place m_trouble a_letters m_failed m_hasHouse a_r a_fresh a_st a_undone a_kept m_undos m_images a_from a_begin a_motor a_change a_startFrame a_changeFrame a_lostAt a_blackAt a_slips a_leftArc a_died a_arcs m_bestSum m_nearest m_nearestTown a_there a_backAt a_sorted a_parts m_seed1 m_darkNow), (cAI g a_r 311 d_r)] [] [0, 1] (m_in l g p0 0 z_7) dX11_isReel_18 mw482 mw483 mw5 mw484 yk_yX11_in_3 rfl (Nat.le_of_ble_eq_true rfl) (Nat.le_of_ble_eq_true rfl) (Nat.le_of_ble_eq_true rfl) (Nat.le_of_ble_eq_true rfl) (Nat.le_of_ble_eq_true rfl) rfl rfl (by decide) rfl (by decide) (by decide) ?_
    rintro r_10 w ⟨iv_11, hk_12, hk_13, rfl⟩
    refine k_ws [(cO11_i1r1i10r1i2r5i2r12i3r4i2 h0 m_thrown a_tape m_taped m_size m_at m_end m_token m_whole m_nameSize m_fault m_place m_trouble a_letters m_failed m_hasHouse a_r a_fresh a_st a_undone a_kept m_undos m_images a_from a_begin a_motor a_change a_startFrame a_changeFrame a_lostAt a_blackAt a_slips a_leftArc a_died a_arcs m_bestSum m_nearest m_nearestTown a_there a_backAt a_sorted a_parts m_seed1 m_darkNow), (cAI g a_r 311 d_r)] rfl ?_
    refine k_if_eq 28 X dX11_isReel_21 (by decide) (fun h_14 => ?_) (fun h_14 => ?_)
    · skip
      have iv_15 : IV r_10 0 0 := iv_meet iv_11 (iv_e h_14 (show IV 0 0 0 from (by decide))) (by decide) (by decide)
      have hc_16 := hk_13 (iv_eq iv_15 (show IV 0 0 0 from (by decide)))
      have j_17 : p0.toInt < 0 ∨ z_7.toInt < p0.toInt := hc_16
      refine k_iconst (v := 0) X dX11_isReel_28 (by decide) ?_
      exact k_zret X hr (by first | rfl | decide) dX11_isReel_29 (Nat.le_of_ble_eq_true rfl) (Nat.le_of_ble_eq_true rfl) [0, 1] (by decide) rfl rfl ⟨(iv_w (show IV 0 0 0 from (by decide)) (by decide) (by decide)), (Or.inl (iv_eq (show IV 0 0 0 from (by decide)) (show IV 0 0 0 from (by decide)))), rfl⟩
    · skip
      have hc_18 := hk_12.resolve_left h_14
      have j_19 : 0 ≤ p0.toInt := hc_18.1
      have iv_20 : IV p0 0 2147483647 := iv_leR hc_18.1 (show IV 0 0 0 from (by decide)) (iv_any p0) (by decide)
      have j_21 : p0.toInt ≤ z_7.toInt := hc_18.2
      have iv_22 : IV p0 0 7 := iv_leL hc_18.2 iv_20 iv_9 (by decide)
      have iv_23 : IV z_7 0 7 := iv_leR hc_18.2 iv_22 iv_9 (by decide)
      have iv_24 : IV z_4 1 8 := by have := iv_6; have := iv_23; rw [IV]; omega
      have iv_25 : IV r_10 1 1 := iv_neL h_14 iv_11 (show IV 0 0 0 from (by decide)) (by decide)
      refine k_iconst (v := 1) X dX11_isReel_24 (by decide) ?_
      refine k_goto 29 X dX11_isReel_25 (by decide) ?_
      exact k_zret X hr (by first | rfl | decide) dX11_isReel_29 (Nat.le_of_ble_eq_true rfl) (Nat.le_of_ble_eq_true rfl) [0, 1] (by decide) rfl rfl ⟨(iv_w (show IV 1 1 1 from (by decide)) (by decide) (by decide)), (Or.inr (iv_w iv_22 (by decide) (by decide))), rfl⟩

theorem dX11_isPlace_0 : decode cX11_isPlace 0 = .ok (.aload_n 0, 1) := dk_42 rfl
theorem dX11_isPlace_1 : decode cX11_isPlace 1 = .ok (.getfield 213, 3) := dk_180 rfl rfl rfl rfl
theorem dX11_isPlace_4 : decode cX11_isPlace 4 = .ok (.ifCond .eq 24, 3) := dk_153 rfl rfl rfl (by decide)
theorem dX11_isPlace_7 : decode cX11_isPlace 7 = .ok (.iload_n 1, 1) := dk_27 rfl
theorem dX11_isPlace_8 : decode cX11_isPlace 8 = .ok (.iconst 0, 1) := dk_3 rfl
theorem dX11_isPlace_9 : decode cX11_isPlace 9 = .ok (.aload_n 0, 1) := dk_42 rfl
theorem dX11_isPlace_10 : decode cX11_isPlace 10 = .ok (.getfield 20, 3) := dk_180 rfl rfl rfl rfl
theorem dX11_isPlace_13 : decode cX11_isPlace 13 = .ok (.bipush 12, 2) := dk_16 rfl rfl (by decide)
theorem dX11_isPlace_15 : decode cX11_isPlace 15 = .ok (.iaload, 1) := dk_46 rfl
theorem dX11_isPlace_16 : decode cX11_isPlace 16 = .ok (.iconst 1, 1) := dk_4 rfl
theorem dX11_isPlace_17 : decode cX11_isPlace 17 = .ok (.isub, 1) := dk_100 rfl
theorem dX11_isPlace_18 : decode cX11_isPlace 18 = .ok (.invokestatic 182, 3) := dk_184 rfl rfl rfl rfl
theorem dX11_isPlace_21 : decode cX11_isPlace 21 = .ok (.ifCond .eq 7, 3) := dk_153 rfl rfl rfl (by decide)
theorem dX11_isPlace_24 : decode cX11_isPlace 24 = .ok (.iconst 1, 1) := dk_4 rfl
theorem dX11_isPlace_25 : decode cX11_isPlace 25 = .ok (.goto 4, 3) := dk_167 rfl rfl rfl (by decide)
theorem dX11_isPlace_28 : decode cX11_isPlace 28 = .ok (.iconst 0, 1) := dk_3 rfl
theorem dX11_isPlace_29 : decode cX11_isPlace 29 = .ok (.ireturn, 1) := dk_172 rfl
set_option maxHeartbeats 4000000 in
set_option maxRecDepth 100000 in
theorem m_isPlace (l : Launch) (g : Gx) (h0 : Nat) (p0 : Int32) (m_thrown : Int32) (a_tape : Nat) (m_taped : Int32) (m_size : Int32) (m_at : Int32) (m_end : Int32) (m_token : Int32) (m_whole : Int32) (m_nameSize : Int32) (m_fault : Int32) (m_place : Int32) (m_trouble : Int32) (a_letters : Nat) (m_failed : Int32) (m_hasHouse : Int32) (a_r : Nat) (a_fresh : Nat) (a_st : Nat) (a_undone : Nat) (a_kept : Nat) (m_undos : Int32) (m_images : Int32) (a_from : Nat) (a_begin : Nat) (a_motor : Nat) (a_change : Nat) (a_startFrame : Nat) (a_changeFrame : Nat) (a_lostAt : Nat) (a_blackAt : Nat) (a_slips : Nat) (a_leftArc : Nat) (a_died : Nat) (a_arcs : Nat) (m_bestSum : Int32) (m_nearest : Int32) (m_nearestTown : Int32) (a_there : Nat) (a_backAt : Nat) (a_sorted : Nat) (a_parts : Nat) (m_seed1 : Int32) (m_darkNow : Int32) (d_r : Nat → Int32) (hv_m_hasHouse : IV m_hasHouse 0 1) (hp_d_r : RInv d_r) : cI l g yX11_isPlace cX11_isPlace 2 (some .boolean) 1 22 0 0 [.ref h0, .int p0] [(cO11_i1r1i10r1i2r5i2r12i3r4i2 h0 m_thrown a_tape m_taped m_size m_at m_end m_token m_whole m_nameSize m_fault m_place m_trouble a_letters m_failed m_hasHouse a_r a_fresh a_st a_undone a_kept m_undos m_images a_from a_begin a_motor a_change a_startFrame a_changeFrame a_lostAt a_blackAt a_slips a_leftArc a_died a_arcs m_bestSum m_nearest m_nearestTown a_there a_backAt a_sorted a_parts m_seed1 m_darkNow), (cAI g a_r 311 d_r)] (fun r w => IV r 0 1 ∧ (r = 0 ∨ (IV p0 0 7 ∧ p0.toInt < (d_r 12).toInt)) ∧ w = [(cO11_i1r1i10r1i2r5i2r12i3r4i2 h0 m_thrown a_tape m_taped m_size m_at m_end m_token m_whole m_nameSize m_fault m_place m_trouble a_letters m_failed m_hasHouse a_r a_fresh a_st a_undone a_kept m_undos m_images a_from a_begin a_motor a_change a_startFrame a_changeFrame a_lostAt a_blackAt a_slips a_leftArc a_died a_arcs m_bestSum m_nearest m_nearestTown a_there a_backAt a_sorted a_parts m_seed1 m_darkNow), (cAI g a_r 311 d_r)]) := by
  refine cI.of (by decide) (Nat.le_of_ble_eq_true rfl) ?_
  intro p e s m args below meth c A X hr hi
  refine k_lveq [(0, .ref h0), (1, .int p0)] rfl ?_
  refine k_aload_n X dX11_isPlace_0 0 rfl ?_
  refine k_get (ci := 11) X inlX11 rfl 14 (by decide) dX11_isPlace_1 mw474 0 rfl rfl ?_
  refine k_if_eq 28 X dX11_isPlace_4 (by decide) (fun h_1 => ?_) (fun h_1 => ?_)
  · skip
    have iv_2 : IV m_hasHouse 0 0 := iv_meet hv_m_hasHouse (iv_e h_1 (show IV 0 0 0 from (by decide))) (by decide) (by decide)
    refine k_iconst (v := 0) X dX11_isPlace_28 (by decide) ?_
    exact k_zret X hr (by first | rfl | decide) dX11_isPlace_29 (Nat.le_of_ble_eq_true rfl) (Nat.le_of_ble_eq_true rfl) [0, 1] (by decide) rfl rfl ⟨(iv_w (show IV 0 0 0 from (by decide)) (by decide) (by decide)), (Or.inl (iv_eq (show IV 0 0 0 from (by decide)) (show IV 0 0 0 from (by decide)))), rfl⟩
  · skip
    have iv_3 : IV m_hasHouse 1 1 := iv_neL h_1 hv_m_hasHouse (show IV 0 0 0 from (by decide)) (by decide)
    refine k_iload_n X dX11_isPlace_7 1 rfl ?_
    refine k_iconst (v := 0) X dX11_isPlace_8 (by decide) ?_
    refine k_aload_n X dX11_isPlace_9 0 rfl ?_
    refine k_get (ci := 11) X inlX11 rfl 15 (by decide) dX11_isPlace_10 mw170 0 rfl rfl ?_
    refine k_bipush (v := 12) X dX11_isPlace_13 (by decide) ?_
    refine k_iald X dX11_isPlace_15 1 rfl (by unfold vp_in; decide) ?_
    refine k_nm (fun z_4 ez_4 => ?_)
    have i_5 : z_4.toInt = (d_r 12).toInt := by rw [ez_4]; rfl
    have iv_6 : IV z_4 0 8 := rb_12 ez_4 hp_d_r
    refine k_iconst (v := 1) X dX11_isPlace_16 (by decide) ?_
    refine k_isub X dX11_isPlace_17 ?_
    refine k_nm (fun z_7 ez_7 => ?_)
    have i_8 : z_7.toInt = z_4.toInt - 1 := in_sub ez_7 iv_6 (show IV 1 1 1 from (by decide)) (by decide) (by decide)
    have iv_9 : IV z_7 (-1) 7 := iz5 i_8 iv_6 (by decide) (by decide)
    refine k_callSI (n := 3) (As := [.int p0, .int 0, .int z_7]) (st := []) X [] [(cO11_i1r1i10r1i2r5i2r12i3r4i2 h0 m_thrown a_tape m_taped m_size m_at m_end m_token m_whole m_nameSize m_fault m_place m_trouble a_letters m_failed m_hasHouse a_r a_fresh a_st a_undone a_kept m_undos m_images a_from a_begin a_motor a_change a_startFrame a_changeFrame a_lostAt a_blackAt a_slips a_leftArc a_died a_arcs m_bestSum m_nearest m_nearestTown a_there a_backAt a_sorted a_parts m_seed1 m_darkNow), (cAI g a_r 311 d_r)] [] [0, 1] (m_in l g p0 0 z_7) dX11_isPlace_18 mw482 mw483 mw5 mw484 yk_yX11_in_3 rfl (Nat.le_of_ble_eq_true rfl) (Nat.le_of_ble_eq_true rfl) (Nat.le_of_ble_eq_true rfl) (Nat.le_of_ble_eq_true rfl) (Nat.le_of_ble_eq_true rfl) rfl rfl (by decide) rfl (by decide) (by decide) ?_
    rintro r_10 w ⟨iv_11, hk_12, hk_13, rfl⟩
    refine k_ws [(cO11_i1r1i10r1i2r5i2r12i3r4i2 h0 m_thrown a_tape m_taped m_size m_at m_end m_token m_whole m_nameSize m_fault m_place m_trouble a_letters m_failed m_hasHouse a_r a_fresh a_st a_undone a_kept m_undos m_images a_from a_begin a_motor a_change a_startFrame a_changeFrame a_lostAt a_blackAt a_slips a_leftArc a_died a_arcs m_bestSum m_nearest m_nearestTown a_there a_backAt a_sorted a_parts m_seed1 m_darkNow), (cAI g a_r 311 d_r)] rfl ?_
    refine k_if_eq 28 X dX11_isPlace_21 (by decide) (fun h_14 => ?_) (fun h_14 => ?_)
    · skip
      have iv_15 : IV r_10 0 0 := iv_meet iv_11 (iv_e h_14 (show IV 0 0 0 from (by decide))) (by decide) (by decide)
      have hc_16 := hk_13 (iv_eq iv_15 (show IV 0 0 0 from (by decide)))
      have j_17 : p0.toInt < 0 ∨ z_7.toInt < p0.toInt := hc_16
      refine k_iconst (v := 0) X dX11_isPlace_28 (by decide) ?_
      exact k_zret X hr (by first | rfl | decide) dX11_isPlace_29 (Nat.le_of_ble_eq_true rfl) (Nat.le_of_ble_eq_true rfl) [0, 1] (by decide) rfl rfl ⟨(iv_w (show IV 0 0 0 from (by decide)) (by decide) (by decide)), (Or.inl (iv_eq (show IV 0 0 0 from (by decide)) (show IV 0 0 0 from (by decide)))), rfl⟩
    · skip
      have hc_18 := hk_12.resolve_left h_14
      have j_19 : 0 ≤ p0.toInt := hc_18.1
      have iv_20 : IV p0 0 2147483647 := iv_leR hc_18.1 (show IV 0 0 0 from (by decide)) (iv_any p0) (by decide)
      have j_21 : p0.toInt ≤ z_7.toInt := hc_18.2
      have iv_22 : IV p0 0 7 := iv_leL hc_18.2 iv_20 iv_9 (by decide)
      have iv_23 : IV z_7 0 7 := iv_leR hc_18.2 iv_22 iv_9 (by decide)
      have iv_24 : IV z_4 1 8 := by have := iv_6; have := iv_23; rw [IV]; omega
      have iv_25 : IV r_10 1 1 := iv_neL h_14 iv_11 (show IV 0 0 0 from (by decide)) (by decide)
      refine k_iconst (v := 1) X dX11_isPlace_24 (by decide) ?_
      refine k_goto 29 X dX11_isPlace_25 (by decide) ?_
      exact k_zret X hr (by first | rfl | decide) dX11_isPlace_29 (Nat.le_of_ble_eq_true rfl) (Nat.le_of_ble_eq_true rfl) [0, 1] (by decide) rfl rfl ⟨(iv_w (show IV 1 1 1 from (by decide)) (by decide) (by decide)), (Or.inr ⟨(iv_w iv_22 (by decide) (by decide)), (by omega)⟩), rfl⟩

theorem dX11_isMan_0 : decode cX11_isMan 0 = .ok (.aload_n 0, 1) := dk_42 rfl
theorem dX11_isMan_1 : decode cX11_isMan 1 = .ok (.getfield 213, 3) := dk_180 rfl rfl rfl rfl
theorem dX11_isMan_4 : decode cX11_isMan 4 = .ok (.ifCond .eq 24, 3) := dk_153 rfl rfl rfl (by decide)
theorem dX11_isMan_7 : decode cX11_isMan 7 = .ok (.iload_n 1, 1) := dk_27 rfl
theorem dX11_isMan_8 : decode cX11_isMan 8 = .ok (.iconst 0, 1) := dk_3 rfl
theorem dX11_isMan_9 : decode cX11_isMan 9 = .ok (.aload_n 0, 1) := dk_42 rfl
theorem dX11_isMan_10 : decode cX11_isMan 10 = .ok (.getfield 20, 3) := dk_180 rfl rfl rfl rfl
theorem dX11_isMan_13 : decode cX11_isMan 13 = .ok (.bipush 11, 2) := dk_16 rfl rfl (by decide)
theorem dX11_isMan_15 : decode cX11_isMan 15 = .ok (.iaload, 1) := dk_46 rfl
theorem dX11_isMan_16 : decode cX11_isMan 16 = .ok (.iconst 1, 1) := dk_4 rfl
theorem dX11_isMan_17 : decode cX11_isMan 17 = .ok (.isub, 1) := dk_100 rfl
theorem dX11_isMan_18 : decode cX11_isMan 18 = .ok (.invokestatic 182, 3) := dk_184 rfl rfl rfl rfl
theorem dX11_isMan_21 : decode cX11_isMan 21 = .ok (.ifCond .eq 7, 3) := dk_153 rfl rfl rfl (by decide)
theorem dX11_isMan_24 : decode cX11_isMan 24 = .ok (.iconst 1, 1) := dk_4 rfl
theorem dX11_isMan_25 : decode cX11_isMan 25 = .ok (.goto 4, 3) := dk_167 rfl rfl rfl (by decide)
theorem dX11_isMan_28 : decode cX11_isMan 28 = .ok (.iconst 0, 1) := dk_3 rfl
theorem dX11_isMan_29 : decode cX11_isMan 29 = .ok (.ireturn, 1) := dk_172 rfl
set_option maxHeartbeats 4000000 in
set_option maxRecDepth 100000 in
theorem m_isMan (l : Launch) (g : Gx) (h0 : Nat) (p0 : Int32) (m_thrown : Int32) (a_tape : Nat) (m_taped : Int32) (m_size : Int32) (m_at : Int32) (m_end : Int32) (m_token : Int32) (m_whole : Int32) (m_nameSize : Int32) (m_fault : Int32) (m_place : Int32) (m_trouble : Int32) (a_letters : Nat) (m_failed : Int32) (m_hasHouse : Int32) (a_r : Nat) (a_fresh : Nat) (a_st : Nat) (a_undone : Nat) (a_kept : Nat) (m_undos : Int32) (m_images : Int32) (a_from : Nat) (a_begin : Nat) (a_motor : Nat) (a_change : Nat) (a_startFrame : Nat) (a_changeFrame : Nat) (a_lostAt : Nat) (a_blackAt : Nat) (a_slips : Nat) (a_leftArc : Nat) (a_died : Nat) (a_arcs : Nat) (m_bestSum : Int32) (m_nearest : Int32) (m_nearestTown : Int32) (a_there : Nat) (a_backAt : Nat) (a_sorted : Nat) (a_parts : Nat) (m_seed1 : Int32) (m_darkNow : Int32) (d_r : Nat → Int32) (hv_m_hasHouse : IV m_hasHouse 0 1) (hp_d_r : RInv d_r) : cI l g yX11_isMan cX11_isMan 2 (some .boolean) 1 22 0 0 [.ref h0, .int p0] [(cO11_i1r1i10r1i2r5i2r12i3r4i2 h0 m_thrown a_tape m_taped m_size m_at m_end m_token m_whole m_nameSize m_fault m_place m_trouble a_letters m_failed m_hasHouse a_r a_fresh a_st a_undone a_kept m_undos m_images a_from a_begin a_motor a_change a_startFrame a_changeFrame a_lostAt a_blackAt a_slips a_leftArc a_died a_arcs m_bestSum m_nearest m_nearestTown a_there a_backAt a_sorted a_parts m_seed1 m_darkNow), (cAI g a_r 311 d_r)] (fun r w => IV r 0 1 ∧ (r = 0 ∨ (IV p0 0 3)) ∧ w = [(cO11_i1r1i10r1i2r5i2r12i3r4i2 h0 m_thrown a_tape m_taped m_size m_at m_end m_token m_whole m_nameSize m_fault m_place m_trouble a_letters m_failed m_hasHouse a_r a_fresh a_st a_undone a_kept m_undos m_images a_from a_begin a_motor a_change a_startFrame a_changeFrame a_lostAt a_blackAt a_slips a_leftArc a_died a_arcs m_bestSum m_nearest m_nearestTown a_there a_backAt a_sorted a_parts m_seed1 m_darkNow), (cAI g a_r 311 d_r)]) := by
  refine cI.of (by decide) (Nat.le_of_ble_eq_true rfl) ?_
  intro p e s m args below meth c A X hr hi
  refine k_lveq [(0, .ref h0), (1, .int p0)] rfl ?_
  refine k_aload_n X dX11_isMan_0 0 rfl ?_
  refine k_get (ci := 11) X inlX11 rfl 14 (by decide) dX11_isMan_1 mw474 0 rfl rfl ?_
  refine k_if_eq 28 X dX11_isMan_4 (by decide) (fun h_1 => ?_) (fun h_1 => ?_)
  · skip
    have iv_2 : IV m_hasHouse 0 0 := iv_meet hv_m_hasHouse (iv_e h_1 (show IV 0 0 0 from (by decide))) (by decide) (by decide)
    refine k_iconst (v := 0) X dX11_isMan_28 (by decide) ?_
    exact k_zret X hr (by first | rfl | decide) dX11_isMan_29 (Nat.le_of_ble_eq_true rfl) (Nat.le_of_ble_eq_true rfl) [0, 1] (by decide) rfl rfl ⟨(iv_w (show IV 0 0 0 from (by decide)) (by decide) (by decide)), (Or.inl (iv_eq (show IV 0 0 0 from (by decide)) (show IV 0 0 0 from (by decide)))), rfl⟩
  · skip
    have iv_3 : IV m_hasHouse 1 1 := iv_neL h_1 hv_m_hasHouse (show IV 0 0 0 from (by decide)) (by decide)
    refine k_iload_n X dX11_isMan_7 1 rfl ?_
    refine k_iconst (v := 0) X dX11_isMan_8 (by decide) ?_
    refine k_aload_n X dX11_isMan_9 0 rfl ?_
    refine k_get (ci := 11) X inlX11 rfl 15 (by decide) dX11_isMan_10 mw170 0 rfl rfl ?_
    refine k_bipush (v := 11) X dX11_isMan_13 (by decide) ?_
    refine k_iald X dX11_isMan_15 1 rfl (by unfold vp_in; decide) ?_
    refine k_nm (fun z_4 ez_4 => ?_)
    have i_5 : z_4.toInt = (d_r 11).toInt := by rw [ez_4]; rfl
    have iv_6 : IV z_4 0 4 := rb_11 ez_4 hp_d_r
    refine k_iconst (v := 1) X dX11_isMan_16 (by decide) ?_
    refine k_isub X dX11_isMan_17 ?_
    refine k_nm (fun z_7 ez_7 => ?_)
    have i_8 : z_7.toInt = z_4.toInt - 1 := in_sub ez_7 iv_6 (show IV 1 1 1 from (by decide)) (by decide) (by decide)
    have iv_9 : IV z_7 (-1) 3 := iz5 i_8 iv_6 (by decide) (by decide)
    refine k_callSI (n := 3) (As := [.int p0, .int 0, .int z_7]) (st := []) X [] [(cO11_i1r1i10r1i2r5i2r12i3r4i2 h0 m_thrown a_tape m_taped m_size m_at m_end m_token m_whole m_nameSize m_fault m_place m_trouble a_letters m_failed m_hasHouse a_r a_fresh a_st a_undone a_kept m_undos m_images a_from a_begin a_motor a_change a_startFrame a_changeFrame a_lostAt a_blackAt a_slips a_leftArc a_died a_arcs m_bestSum m_nearest m_nearestTown a_there a_backAt a_sorted a_parts m_seed1 m_darkNow), (cAI g a_r 311 d_r)] [] [0, 1] (m_in l g p0 0 z_7) dX11_isMan_18 mw482 mw483 mw5 mw484 yk_yX11_in_3 rfl (Nat.le_of_ble_eq_true rfl) (Nat.le_of_ble_eq_true rfl) (Nat.le_of_ble_eq_true rfl) (Nat.le_of_ble_eq_true rfl) (Nat.le_of_ble_eq_true rfl) rfl rfl (by decide) rfl (by decide) (by decide) ?_
    rintro r_10 w ⟨iv_11, hk_12, hk_13, rfl⟩
    refine k_ws [(cO11_i1r1i10r1i2r5i2r12i3r4i2 h0 m_thrown a_tape m_taped m_size m_at m_end m_token m_whole m_nameSize m_fault m_place m_trouble a_letters m_failed m_hasHouse a_r a_fresh a_st a_undone a_kept m_undos m_images a_from a_begin a_motor a_change a_startFrame a_changeFrame a_lostAt a_blackAt a_slips a_leftArc a_died a_arcs m_bestSum m_nearest m_nearestTown a_there a_backAt a_sorted a_parts m_seed1 m_darkNow), (cAI g a_r 311 d_r)] rfl ?_
    refine k_if_eq 28 X dX11_isMan_21 (by decide) (fun h_14 => ?_) (fun h_14 => ?_)
    · skip
      have iv_15 : IV r_10 0 0 := iv_meet iv_11 (iv_e h_14 (show IV 0 0 0 from (by decide))) (by decide) (by decide)
      have hc_16 := hk_13 (iv_eq iv_15 (show IV 0 0 0 from (by decide)))
      have j_17 : p0.toInt < 0 ∨ z_7.toInt < p0.toInt := hc_16
      refine k_iconst (v := 0) X dX11_isMan_28 (by decide) ?_
      exact k_zret X hr (by first | rfl | decide) dX11_isMan_29 (Nat.le_of_ble_eq_true rfl) (Nat.le_of_ble_eq_true rfl) [0, 1] (by decide) rfl rfl ⟨(iv_w (show IV 0 0 0 from (by decide)) (by decide) (by decide)), (Or.inl (iv_eq (show IV 0 0 0 from (by decide)) (show IV 0 0 0 from (by decide)))), rfl⟩
    · skip
      have hc_18 := hk_12.resolve_left h_14
      have j_19 : 0 ≤ p0.toInt := hc_18.1
      have iv_20 : IV p0 0 2147483647 := iv_leR hc_18.1 (show IV 0 0 0 from (by decide)) (iv_any p0) (by decide)
      have j_21 : p0.toInt ≤ z_7.toInt := hc_18.2
      have iv_22 : IV p0 0 3 := iv_leL hc_18.2 iv_20 iv_9 (by decide)
      have iv_23 : IV z_7 0 3 := iv_leR hc_18.2 iv_22 iv_9 (by decide)
      have iv_24 : IV z_4 1 4 := by have := iv_6; have := iv_23; rw [IV]; omega
      have iv_25 : IV r_10 1 1 := iv_neL h_14 iv_11 (show IV 0 0 0 from (by decide)) (by decide)
      refine k_iconst (v := 1) X dX11_isMan_24 (by decide) ?_
      refine k_goto 29 X dX11_isMan_25 (by decide) ?_
      exact k_zret X hr (by first | rfl | decide) dX11_isMan_29 (Nat.le_of_ble_eq_true rfl) (Nat.le_of_ble_eq_true rfl) [0, 1] (by decide) rfl rfl ⟨(iv_w (show IV 1 1 1 from (by decide)) (by decide) (by decide)), (Or.inr (iv_w iv_22 (by decide) (by decide))), rfl⟩

theorem dX11_isWeak_0 : decode cX11_isWeak 0 = .ok (.aload_n 0, 1) := dk_42 rfl
theorem dX11_isWeak_1 : decode cX11_isWeak 1 = .ok (.getfield 213, 3) := dk_180 rfl rfl rfl rfl
theorem dX11_isWeak_4 : decode cX11_isWeak 4 = .ok (.ifCond .eq 24, 3) := dk_153 rfl rfl rfl (by decide)
theorem dX11_isWeak_7 : decode cX11_isWeak 7 = .ok (.iload_n 1, 1) := dk_27 rfl
theorem dX11_isWeak_8 : decode cX11_isWeak 8 = .ok (.iconst 0, 1) := dk_3 rfl
theorem dX11_isWeak_9 : decode cX11_isWeak 9 = .ok (.aload_n 0, 1) := dk_42 rfl
theorem dX11_isWeak_10 : decode cX11_isWeak 10 = .ok (.getfield 20, 3) := dk_180 rfl rfl rfl rfl
theorem dX11_isWeak_13 : decode cX11_isWeak 13 = .ok (.bipush 10, 2) := dk_16 rfl rfl (by decide)
theorem dX11_isWeak_15 : decode cX11_isWeak 15 = .ok (.iaload, 1) := dk_46 rfl
theorem dX11_isWeak_16 : decode cX11_isWeak 16 = .ok (.iconst 1, 1) := dk_4 rfl
theorem dX11_isWeak_17 : decode cX11_isWeak 17 = .ok (.isub, 1) := dk_100 rfl
theorem dX11_isWeak_18 : decode cX11_isWeak 18 = .ok (.invokestatic 182, 3) := dk_184 rfl rfl rfl rfl
theorem dX11_isWeak_21 : decode cX11_isWeak 21 = .ok (.ifCond .eq 7, 3) := dk_153 rfl rfl rfl (by decide)
theorem dX11_isWeak_24 : decode cX11_isWeak 24 = .ok (.iconst 1, 1) := dk_4 rfl
theorem dX11_isWeak_25 : decode cX11_isWeak 25 = .ok (.goto 4, 3) := dk_167 rfl rfl rfl (by decide)
theorem dX11_isWeak_28 : decode cX11_isWeak 28 = .ok (.iconst 0, 1) := dk_3 rfl
theorem dX11_isWeak_29 : decode cX11_isWeak 29 = .ok (.ireturn, 1) := dk_172 rfl
set_option maxHeartbeats 4000000 in
set_option maxRecDepth 100000 in
theorem m_isWeak (l : Launch) (g : Gx) (h0 : Nat) (p0 : Int32) (m_thrown : Int32) (a_tape : Nat) (m_taped : Int32) (m_size : Int32) (m_at : Int32) (m_end : Int32) (m_token : Int32) (m_whole : Int32) (m_nameSize : Int32) (m_fault : Int32) (m_place : Int32) (m_trouble : Int32) (a_letters : Nat) (m_failed : Int32) (m_hasHouse : Int32) (a_r : Nat) (a_fresh : Nat) (a_st : Nat) (a_undone : Nat) (a_kept : Nat) (m_undos : Int32) (m_images : Int32) (a_from : Nat) (a_begin : Nat) (a_motor : Nat) (a_change : Nat) (a_startFrame : Nat) (a_changeFrame : Nat) (a_lostAt : Nat) (a_blackAt : Nat) (a_slips : Nat) (a_leftArc : Nat) (a_died : Nat) (a_arcs : Nat) (m_bestSum : Int32) (m_nearest : Int32) (m_nearestTown : Int32) (a_there : Nat) (a_backAt : Nat) (a_sorted : Nat) (a_parts : Nat) (m_seed1 : Int32) (m_darkNow : Int32) (d_r : Nat → Int32) (hv_m_hasHouse : IV m_hasHouse 0 1) (hp_d_r : RInv d_r) : cI l g yX11_isWeak cX11_isWeak 2 (some .boolean) 1 22 0 0 [.ref h0, .int p0] [(cO11_i1r1i10r1i2r5i2r12i3r4i2 h0 m_thrown a_tape m_taped m_size m_at m_end m_token m_whole m_nameSize m_fault m_place m_trouble a_letters m_failed m_hasHouse a_r a_fresh a_st a_undone a_kept m_undos m_images a_from a_begin a_motor a_change a_startFrame a_changeFrame a_lostAt a_blackAt a_slips a_leftArc a_died a_arcs m_bestSum m_nearest m_nearestTown a_there a_backAt a_sorted a_parts m_seed1 m_darkNow), (cAI g a_r 311 d_r)] (fun r w => IV r 0 1 ∧ (r = 0 ∨ (IV p0 0 5)) ∧ w = [(cO11_i1r1i10r1i2r5i2r12i3r4i2 h0 m_thrown a_tape m_taped m_size m_at m_end m_token m_whole m_nameSize m_fault m_place m_trouble a_letters m_failed m_hasHouse a_r a_fresh a_st a_undone a_kept m_undos m_images a_from a_begin a_motor a_change a_startFrame a_changeFrame a_lostAt a_blackAt a_slips a_leftArc a_died a_arcs m_bestSum m_nearest m_nearestTown a_there a_backAt a_sorted a_parts m_seed1 m_darkNow), (cAI g a_r 311 d_r)]) := by
  refine cI.of (by decide) (Nat.le_of_ble_eq_true rfl) ?_
  intro p e s m args below meth c A X hr hi
  refine k_lveq [(0, .ref h0), (1, .int p0)] rfl ?_
  refine k_aload_n X dX11_isWeak_0 0 rfl ?_
  refine k_get (ci := 11) X inlX11 rfl 14 (by decide) dX11_isWeak_1 mw474 0 rfl rfl ?_
  refine k_if_eq 28 X dX11_isWeak_4 (by decide) (fun h_1 => ?_) (fun h_1 => ?_)
  · skip
    have iv_2 : IV m_hasHouse 0 0 := iv_meet hv_m_hasHouse (iv_e h_1 (show IV 0 0 0 from (by decide))) (by decide) (by decide)
    refine k_iconst (v := 0) X dX11_isWeak_28 (by decide) ?_
    exact k_zret X hr (by first | rfl | decide) dX11_isWeak_29 (Nat.le_of_ble_eq_true rfl) (Nat.le_of_ble_eq_true rfl) [0, 1] (by decide) rfl rfl ⟨(iv_w (show IV 0 0 0 from (by decide)) (by decide) (by decide)), (Or.inl (iv_eq (show IV 0 0 0 from (by decide)) (show IV 0 0 0 from (by decide)))), rfl⟩
  · skip
    have iv_3 : IV m_hasHouse 1 1 := iv_neL h_1 hv_m_hasHouse (show IV 0 0 0 from (by decide)) (by decide)
    refine k_iload_n X dX11_isWeak_7 1 rfl ?_
    refine k_iconst (v := 0) X dX11_isWeak_8 (by decide) ?_
    refine k_aload_n X dX11_isWeak_9 0 rfl ?_
    refine k_get (ci := 11) X inlX11 rfl 15 (by decide) dX11_isWeak_10 mw170 0 rfl rfl ?_
    refine k_bipush (v := 10) X dX11_isWeak_13 (by decide) ?_
    refine k_iald X dX11_isWeak_15 1 rfl (by unfold vp_in; decide) ?_
    refine k_nm (fun z_4 ez_4 => ?_)
    have i_5 : z_4.toInt = (d_r 10).toInt := by rw [ez_4]; rfl
    have iv_6 : IV z_4 0 6 := rb_10 ez_4 hp_d_r
    refine k_iconst (v := 1) X dX11_isWeak_16 (by decide) ?_
    refine k_isub X dX11_isWeak_17 ?_
    refine k_nm (fun z_7 ez_7 => ?_)
    have i_8 : z_7.toInt = z_4.toInt - 1 := in_sub ez_7 iv_6 (show IV 1 1 1 from (by decide)) (by decide) (by decide)
    have iv_9 : IV z_7 (-1) 5 := iz5 i_8 iv_6 (by decide) (by decide)
    refine k_callSI (n := 3) (As := [.int p0, .int 0, .int z_7]) (st := []) X [] [(cO11_i1r1i10r1i2r5i2r12i3r4i2 h0 m_thrown a_tape m_taped m_size m_at m_end m_token m_whole m_nameSize m_fault m_place m_trouble a_letters m_failed m_hasHouse a_r a_fresh a_st a_undone a_kept m_undos m_images a_from a_begin a_motor a_change a_startFrame a_changeFrame a_lostAt a_blackAt a_slips a_leftArc a_died a_arcs m_bestSum m_nearest m_nearestTown a_there a_backAt a_sorted a_parts m_seed1 m_darkNow), (cAI g a_r 311 d_r)] [] [0, 1] (m_in l g p0 0 z_7) dX11_isWeak_18 mw482 mw483 mw5 mw484 yk_yX11_in_3 rfl (Nat.le_of_ble_eq_true rfl) (Nat.le_of_ble_eq_true rfl) (Nat.le_of_ble_eq_true rfl) (Nat.le_of_ble_eq_true rfl) (Nat.le_of_ble_eq_true rfl) rfl rfl (by decide) rfl (by decide) (by decide) ?_
    rintro r_10 w ⟨iv_11, hk_12, hk_13, rfl⟩
    refine k_ws [(cO11_i1r1i10r1i2r5i2r12i3r4i2 h0 m_thrown a_tape m_taped m_size m_at m_end m_token m_whole m_nameSize m_fault m_place m_trouble a_letters m_failed m_hasHouse a_r a_fresh a_st a_undone a_kept m_undos m_images a_from a_begin a_motor a_change a_startFrame a_changeFrame a_lostAt a_blackAt a_slips a_leftArc a_died a_arcs m_bestSum m_nearest m_nearestTown a_there a_backAt a_sorted a_parts m_seed1 m_darkNow), (cAI g a_r 311 d_r)] rfl ?_
    refine k_if_eq 28 X dX11_isWeak_21 (by decide) (fun h_14 => ?_) (fun h_14 => ?_)
    · skip
      have iv_15 : IV r_10 0 0 := iv_meet iv_11 (iv_e h_14 (show IV 0 0 0 from (by decide))) (by decide) (by decide)
      have hc_16 := hk_13 (iv_eq iv_15 (show IV 0 0 0 from (by decide)))
      have j_17 : p0.toInt < 0 ∨ z_7.toInt < p0.toInt := hc_16
      refine k_iconst (v := 0) X dX11_isWeak_28 (by decide) ?_
      exact k_zret X hr (by first | rfl | decide) dX11_isWeak_29 (Nat.le_of_ble_eq_true rfl) (Nat.le_of_ble_eq_true rfl) [0, 1] (by decide) rfl rfl ⟨(iv_w (show IV 0 0 0 from (by decide)) (by decide) (by decide)), (Or.inl (iv_eq (show IV 0 0 0 from (by decide)) (show IV 0 0 0 from (by decide)))), rfl⟩
    · skip
      have hc_18 := hk_12.resolve_left h_14
      have j_19 : 0 ≤ p0.toInt := hc_18.1
      have iv_20 : IV p0 0 2147483647 := iv_leR hc_18.1 (show IV 0 0 0 from (by decide)) (iv_any p0) (by decide)
      have j_21 : p0.toInt ≤ z_7.toInt := hc_18.2
      have iv_22 : IV p0 0 5 := iv_leL hc_18.2 iv_20 iv_9 (by decide)
      have iv_23 : IV z_7 0 5 := iv_leR hc_18.2 iv_22 iv_9 (by decide)
      have iv_24 : IV z_4 1 6 := by have := iv_6; have := iv_23; rw [IV]; omega
      have iv_25 : IV r_10 1 1 := iv_neL h_14 iv_11 (show IV 0 0 0 from (by decide)) (by decide)
      refine k_iconst (v := 1) X dX11_isWeak_24 (by decide) ?_
      refine k_goto 29 X dX11_isWeak_25 (by decide) ?_
      exact k_zret X hr (by first | rfl | decide) dX11_isWeak_29 (Nat.le_of_ble_eq_true rfl) (Nat.le_of_ble_eq_true rfl) [0, 1] (by decide) rfl rfl ⟨(iv_w (show IV 1 1 1 from (by decide)) (by decide) (by decide)), (Or.inr (iv_w iv_22 (by decide) (by decide))), rfl⟩

theorem dX11_isMended_0 : decode cX11_isMended 0 = .ok (.aload_n 0, 1) := dk_42 rfl
theorem dX11_isMended_1 : decode cX11_isMended 1 = .ok (.getfield 26, 3) := dk_180 rfl rfl rfl rfl
theorem dX11_isMended_4 : decode cX11_isMended 4 = .ok (.bipush 43, 2) := dk_16 rfl rfl (by decide)
theorem dX11_isMended_6 : decode cX11_isMended 6 = .ok (.iaload, 1) := dk_46 rfl
theorem dX11_isMended_7 : decode cX11_isMended 7 = .ok (.iload_n 1, 1) := dk_27 rfl
theorem dX11_isMended_8 : decode cX11_isMended 8 = .ok (.invokestatic 320, 3) := dk_184 rfl rfl rfl rfl
theorem dX11_isMended_11 : decode cX11_isMended 11 = .ok (.ireturn, 1) := dk_172 rfl
set_option maxHeartbeats 4000000 in
set_option maxRecDepth 100000 in
theorem m_isMended (l : Launch) (g : Gx) (h0 : Nat) (p0 : Int32) (m_thrown : Int32) (a_tape : Nat) (m_taped : Int32) (m_size : Int32) (m_at : Int32) (m_end : Int32) (m_token : Int32) (m_whole : Int32) (m_nameSize : Int32) (m_fault : Int32) (m_place : Int32) (m_trouble : Int32) (a_letters : Nat) (m_failed : Int32) (m_hasHouse : Int32) (a_r : Nat) (a_fresh : Nat) (a_st : Nat) (a_undone : Nat) (a_kept : Nat) (m_undos : Int32) (m_images : Int32) (a_from : Nat) (a_begin : Nat) (a_motor : Nat) (a_change : Nat) (a_startFrame : Nat) (a_changeFrame : Nat) (a_lostAt : Nat) (a_blackAt : Nat) (a_slips : Nat) (a_leftArc : Nat) (a_died : Nat) (a_arcs : Nat) (m_bestSum : Int32) (m_nearest : Int32) (m_nearestTown : Int32) (a_there : Nat) (a_backAt : Nat) (a_sorted : Nat) (a_parts : Nat) (m_seed1 : Int32) (m_darkNow : Int32) (d_st : Nat → Int32) : cI l g yX11_isMended cX11_isMended 2 (some .boolean) 1 21 0 0 [.ref h0, .int p0] [(cO11_i1r1i10r1i2r5i2r12i3r4i2 h0 m_thrown a_tape m_taped m_size m_at m_end m_token m_whole m_nameSize m_fault m_place m_trouble a_letters m_failed m_hasHouse a_r a_fresh a_st a_undone a_kept m_undos m_images a_from a_begin a_motor a_change a_startFrame a_changeFrame a_lostAt a_blackAt a_slips a_leftArc a_died a_arcs m_bestSum m_nearest m_nearestTown a_there a_backAt a_sorted a_parts m_seed1 m_darkNow), (cAI g a_st 44 d_st)] (fun r w => IV r 0 1 ∧ w = [(cO11_i1r1i10r1i2r5i2r12i3r4i2 h0 m_thrown a_tape m_taped m_size m_at m_end m_token m_whole m_nameSize m_fault m_place m_trouble a_letters m_failed m_hasHouse a_r a_fresh a_st a_undone a_kept m_undos m_images a_from a_begin a_motor a_change a_startFrame a_changeFrame a_lostAt a_blackAt a_slips a_leftArc a_died a_arcs m_bestSum m_nearest m_nearestTown a_there a_backAt a_sorted a_parts m_seed1 m_darkNow), (cAI g a_st 44 d_st)]) := by
  refine cI.of (by decide) (Nat.le_of_ble_eq_true rfl) ?_
  intro p e s m args below meth c A X hr hi
  refine k_lveq [(0, .ref h0), (1, .int p0)] rfl ?_
  refine k_aload_n X dX11_isMended_0 0 rfl ?_
  refine k_get (ci := 11) X inlX11 rfl 17 (by decide) dX11_isMended_1 mw172 0 rfl rfl ?_
  refine k_bipush (v := 43) X dX11_isMended_4 (by decide) ?_
  refine k_iald X dX11_isMended_6 1 rfl (by unfold vp_in; decide) ?_
  refine k_nm (fun z_1 ez_1 => ?_)
  refine k_iload_n X dX11_isMended_7 1 rfl ?_
  refine k_callSI (n := 2) (As := [.int z_1, .int p0]) (st := []) X [] [(cO11_i1r1i10r1i2r5i2r12i3r4i2 h0 m_thrown a_tape m_taped m_size m_at m_end m_token m_whole m_nameSize m_fault m_place m_trouble a_letters m_failed m_hasHouse a_r a_fresh a_st a_undone a_kept m_undos m_images a_from a_begin a_motor a_change a_startFrame a_changeFrame a_lostAt a_blackAt a_slips a_leftArc a_died a_arcs m_bestSum m_nearest m_nearestTown a_there a_backAt a_sorted a_parts m_seed1 m_darkNow), (cAI g a_st 44 d_st)] [] [0, 1] (m_hasBit l g z_1 p0) dX11_isMended_8 mw686 mw687 mw5 mw688 yk_yX11_hasBit_2 rfl (Nat.le_of_ble_eq_true rfl) (Nat.le_of_ble_eq_true rfl) (Nat.le_of_ble_eq_true rfl) (Nat.le_of_ble_eq_true rfl) (Nat.le_of_ble_eq_true rfl) rfl rfl (by decide) rfl (by decide) (by decide) ?_
  rintro r_2 w ⟨iv_3, rfl⟩
  refine k_ws [(cO11_i1r1i10r1i2r5i2r12i3r4i2 h0 m_thrown a_tape m_taped m_size m_at m_end m_token m_whole m_nameSize m_fault m_place m_trouble a_letters m_failed m_hasHouse a_r a_fresh a_st a_undone a_kept m_undos m_images a_from a_begin a_motor a_change a_startFrame a_changeFrame a_lostAt a_blackAt a_slips a_leftArc a_died a_arcs m_bestSum m_nearest m_nearestTown a_there a_backAt a_sorted a_parts m_seed1 m_darkNow), (cAI g a_st 44 d_st)] rfl ?_
  exact k_zret X hr (zn_b (iv_w iv_3 (by decide) (by decide))) dX11_isMended_11 (Nat.le_of_ble_eq_true rfl) (Nat.le_of_ble_eq_true rfl) [0, 1] (by decide) rfl rfl ⟨(iv_w iv_3 (by decide) (by decide)), rfl⟩

theorem dX11_reelAt_0 : decode cX11_reelAt 0 = .ok (.aload_n 0, 1) := dk_42 rfl
theorem dX11_reelAt_1 : decode cX11_reelAt 1 = .ok (.getfield 20, 3) := dk_180 rfl rfl rfl rfl
theorem dX11_reelAt_4 : decode cX11_reelAt 4 = .ok (.bipush 126, 2) := dk_16 rfl rfl (by decide)
theorem dX11_reelAt_6 : decode cX11_reelAt 6 = .ok (.iload_n 1, 1) := dk_27 rfl
theorem dX11_reelAt_7 : decode cX11_reelAt 7 = .ok (.iadd, 1) := dk_96 rfl
theorem dX11_reelAt_8 : decode cX11_reelAt 8 = .ok (.iaload, 1) := dk_46 rfl
theorem dX11_reelAt_9 : decode cX11_reelAt 9 = .ok (.ireturn, 1) := dk_172 rfl
set_option maxHeartbeats 4000000 in
set_option maxRecDepth 100000 in
theorem m_reelAt (l : Launch) (g : Gx) (h0 : Nat) (p0 : Int32) (m_thrown : Int32) (a_tape : Nat) (m_taped : Int32) (m_size : Int32) (m_at : Int32) (m_end : Int32) (m_token : Int32) (m_whole : Int32) (m_nameSize : Int32) (m_fault : Int32) (m_place : Int32) (m_trouble : Int32) (a_letters : Nat) (m_failed : Int32) (m_hasHouse : Int32) (a_r : Nat) (a_fresh : Nat) (a_st : Nat) (a_undone : Nat) (a_kept : Nat) (m_undos : Int32) (m_images : Int32) (a_from : Nat) (a_begin : Nat) (a_motor : Nat) (a_change : Nat) (a_startFrame : Nat) (a_changeFrame : Nat) (a_lostAt : Nat) (a_blackAt : Nat) (a_slips : Nat) (a_leftArc : Nat) (a_died : Nat) (a_arcs : Nat) (m_bestSum : Int32) (m_nearest : Int32) (m_nearestTown : Int32) (a_there : Nat) (a_backAt : Nat) (a_sorted : Nat) (a_parts : Nat) (m_seed1 : Int32) (m_darkNow : Int32) (d_r : Nat → Int32) (hv_p0 : IV p0 0 7) (hp_d_r : RInv d_r) : cI l g yX11_reelAt cX11_reelAt 2 (some .int) 0 0 0 0 [.ref h0, .int p0] [(cO11_i1r1i10r1i2r5i2r12i3r4i2 h0 m_thrown a_tape m_taped m_size m_at m_end m_token m_whole m_nameSize m_fault m_place m_trouble a_letters m_failed m_hasHouse a_r a_fresh a_st a_undone a_kept m_undos m_images a_from a_begin a_motor a_change a_startFrame a_changeFrame a_lostAt a_blackAt a_slips a_leftArc a_died a_arcs m_bestSum m_nearest m_nearestTown a_there a_backAt a_sorted a_parts m_seed1 m_darkNow), (cAI g a_r 311 d_r)] (fun r w => IV r 0 7 ∧ w = [(cO11_i1r1i10r1i2r5i2r12i3r4i2 h0 m_thrown a_tape m_taped m_size m_at m_end m_token m_whole m_nameSize m_fault m_place m_trouble a_letters m_failed m_hasHouse a_r a_fresh a_st a_undone a_kept m_undos m_images a_from a_begin a_motor a_change a_startFrame a_changeFrame a_lostAt a_blackAt a_slips a_leftArc a_died a_arcs m_bestSum m_nearest m_nearestTown a_there a_backAt a_sorted a_parts m_seed1 m_darkNow), (cAI g a_r 311 d_r)]) := by
  refine cI.of (by decide) (Nat.le_of_ble_eq_true rfl) ?_
  intro p e s m args below meth c A X hr hi
  refine k_lveq [(0, .ref h0), (1, .int p0)] rfl ?_
  refine k_aload_n X dX11_reelAt_0 0 rfl ?_
  refine k_get (ci := 11) X inlX11 rfl 15 (by decide) dX11_reelAt_1 mw170 0 rfl rfl ?_
  refine k_bipush (v := 126) X dX11_reelAt_4 (by decide) ?_
  refine k_iload_n X dX11_reelAt_6 1 rfl ?_
  refine k_iadd X dX11_reelAt_7 ?_
  refine k_nm (fun z_1 ez_1 => ?_)
  have i_2 : z_1.toInt = 126 + p0.toInt := in_add ez_1 (show IV 126 126 126 from (by decide)) hv_p0 (by decide) (by decide)
  have iv_3 : IV z_1 126 133 := iz2 i_2 hv_p0 (by decide) (by decide)
  refine k_iald X dX11_reelAt_8 1 rfl (iv_in iv_3 (by decide) (by decide)) ?_
  refine k_nm (fun z_4 ez_4 => ?_)
  have i_5 : z_1.toInt = 126 + 1 * p0.toInt := by omega
  have iv_6 : IV z_4 0 7 := rb_126_1 ez_4 hp_d_r i_5 (iv_w hv_p0 (by decide) (by decide))
  exact k_iret X hr dX11_reelAt_9 (Nat.le_of_ble_eq_true rfl) (Nat.le_of_ble_eq_true rfl) [0, 1] (by decide) rfl rfl ⟨(iv_w iv_6 (by decide) (by decide)), rfl⟩

theorem dX11_framesAt_0 : decode cX11_framesAt 0 = .ok (.aload_n 0, 1) := dk_42 rfl
theorem dX11_framesAt_1 : decode cX11_framesAt 1 = .ok (.getfield 26, 3) := dk_180 rfl rfl rfl rfl
theorem dX11_framesAt_4 : decode cX11_framesAt 4 = .ok (.iconst 0, 1) := dk_3 rfl
theorem dX11_framesAt_5 : decode cX11_framesAt 5 = .ok (.aload_n 0, 1) := dk_42 rfl
theorem dX11_framesAt_6 : decode cX11_framesAt 6 = .ok (.iload_n 1, 1) := dk_27 rfl
theorem dX11_framesAt_7 : decode cX11_framesAt 7 = .ok (.invokevirtual 324, 3) := dk_182 rfl rfl rfl rfl
theorem dX11_framesAt_10 : decode cX11_framesAt 10 = .ok (.iadd, 1) := dk_96 rfl
theorem dX11_framesAt_11 : decode cX11_framesAt 11 = .ok (.iaload, 1) := dk_46 rfl
theorem dX11_framesAt_12 : decode cX11_framesAt 12 = .ok (.ireturn, 1) := dk_172 rfl
set_option maxHeartbeats 4000000 in
set_option maxRecDepth 100000 in
theorem m_framesAt (l : Launch) (g : Gx) (h0 : Nat) (p0 : Int32) (m_thrown : Int32) (a_tape : Nat) (m_taped : Int32) (m_size : Int32) (m_at : Int32) (m_end : Int32) (m_token : Int32) (m_whole : Int32) (m_nameSize : Int32) (m_fault : Int32) (m_place : Int32) (m_trouble : Int32) (a_letters : Nat) (m_failed : Int32) (m_hasHouse : Int32) (a_r : Nat) (a_fresh : Nat) (a_st : Nat) (a_undone : Nat) (a_kept : Nat) (m_undos : Int32) (m_images : Int32) (a_from : Nat) (a_begin : Nat) (a_motor : Nat) (a_change : Nat) (a_startFrame : Nat) (a_changeFrame : Nat) (a_lostAt : Nat) (a_blackAt : Nat) (a_slips : Nat) (a_leftArc : Nat) (a_died : Nat) (a_arcs : Nat) (m_bestSum : Int32) (m_nearest : Int32) (m_nearestTown : Int32) (a_there : Nat) (a_backAt : Nat) (a_sorted : Nat) (a_parts : Nat) (m_seed1 : Int32) (m_darkNow : Int32) (d_r : Nat → Int32) (d_st : Nat → Int32) (hv_p0 : IV p0 0 7) (hp_d_r : RInv d_r) : cI l g yX11_framesAt cX11_framesAt 2 (some .int) 1 21 0 0 [.ref h0, .int p0] [(cO11_i1r1i10r1i2r5i2r12i3r4i2 h0 m_thrown a_tape m_taped m_size m_at m_end m_token m_whole m_nameSize m_fault m_place m_trouble a_letters m_failed m_hasHouse a_r a_fresh a_st a_undone a_kept m_undos m_images a_from a_begin a_motor a_change a_startFrame a_changeFrame a_lostAt a_blackAt a_slips a_leftArc a_died a_arcs m_bestSum m_nearest m_nearestTown a_there a_backAt a_sorted a_parts m_seed1 m_darkNow), (cAI g a_r 311 d_r), (cAI g a_st 44 d_st)] (fun r w => w = [(cO11_i1r1i10r1i2r5i2r12i3r4i2 h0 m_thrown a_tape m_taped m_size m_at m_end m_token m_whole m_nameSize m_fault m_place m_trouble a_letters m_failed m_hasHouse a_r a_fresh a_st a_undone a_kept m_undos m_images a_from a_begin a_motor a_change a_startFrame a_changeFrame a_lostAt a_blackAt a_slips a_leftArc a_died a_arcs m_bestSum m_nearest m_nearestTown a_there a_backAt a_sorted a_parts m_seed1 m_darkNow), (cAI g a_r 311 d_r), (cAI g a_st 44 d_st)]) := by
  refine cI.of (by decide) (Nat.le_of_ble_eq_true rfl) ?_
  intro p e s m args below meth c A X hr hi
  refine k_lveq [(0, .ref h0), (1, .int p0)] rfl ?_
  refine k_aload_n X dX11_framesAt_0 0 rfl ?_
  refine k_get (ci := 11) X inlX11 rfl 17 (by decide) dX11_framesAt_1 mw172 0 rfl rfl ?_
  refine k_iconst (v := 0) X dX11_framesAt_4 (by decide) ?_
  refine k_aload_n X dX11_framesAt_5 0 rfl ?_
  refine k_iload_n X dX11_framesAt_6 1 rfl ?_
  refine k_callVI (n := 1) (As := [.int p0]) (st := [.int 0, .ref a_st]) X [(cO11_i1r1i10r1i2r5i2r12i3r4i2 h0 m_thrown a_tape m_taped m_size m_at m_end m_token m_whole m_nameSize m_fault m_place m_trouble a_letters m_failed m_hasHouse a_r a_fresh a_st a_undone a_kept m_undos m_images a_from a_begin a_motor a_change a_startFrame a_changeFrame a_lostAt a_blackAt a_slips a_leftArc a_died a_arcs m_bestSum m_nearest m_nearestTown a_there a_backAt a_sorted a_parts m_seed1 m_darkNow), (cAI g a_r 311 d_r)] [(cAI g a_st 44 d_st)] [0, 1] [2] (m_reelAt l g h0 p0 m_thrown a_tape m_taped m_size m_at m_end m_token m_whole m_nameSize m_fault m_place m_trouble a_letters m_failed m_hasHouse a_r a_fresh a_st a_undone a_kept m_undos m_images a_from a_begin a_motor a_change a_startFrame a_changeFrame a_lostAt a_blackAt a_slips a_leftArc a_died a_arcs m_bestSum m_nearest m_nearestTown a_there a_backAt a_sorted a_parts m_seed1 m_darkNow d_r (iv_w hv_p0 (by decide) (by decide)) hp_d_r) dX11_framesAt_7 mw723 mw724 mw725 mw5 mw726 rfl 11 rfl rfl 0 _ rfl yk_yX11_reelAt_1 rfl (Nat.le_of_ble_eq_true rfl) (Nat.le_of_ble_eq_true rfl) (Nat.le_of_ble_eq_true rfl) (Nat.le_of_ble_eq_true rfl) (Nat.le_of_ble_eq_true rfl) rfl rfl (by decide) rfl (by decide) (by decide) ?_
  rintro r_1 w ⟨iv_2, rfl⟩
  refine k_ws [(cAI g a_st 44 d_st), (cO11_i1r1i10r1i2r5i2r12i3r4i2 h0 m_thrown a_tape m_taped m_size m_at m_end m_token m_whole m_nameSize m_fault m_place m_trouble a_letters m_failed m_hasHouse a_r a_fresh a_st a_undone a_kept m_undos m_images a_from a_begin a_motor a_change a_startFrame a_changeFrame a_lostAt a_blackAt a_slips a_leftArc a_died a_arcs m_bestSum m_nearest m_nearestTown a_there a_backAt a_sorted a_parts m_seed1 m_darkNow), (cAI g a_r 311 d_r)] rfl ?_
  refine k_iadd X dX11_framesAt_10 ?_
  refine k_nm (fun z_3 ez_3 => ?_)
  have i_4 : z_3.toInt = 0 + r_1.toInt := in_add ez_3 (show IV 0 0 0 from (by decide)) iv_2 (by decide) (by decide)
  have iv_5 : IV z_3 0 7 := by have := (show IV 0 0 0 from (by decide)); have := iv_2; rw [IV, i_4]; omega
  refine k_iald X dX11_framesAt_11 0 rfl (iv_in iv_5 (by decide) (by decide)) ?_
  refine k_nm (fun z_6 ez_6 => ?_)
  exact k_iret X hr dX11_framesAt_12 (Nat.le_of_ble_eq_true rfl) (Nat.le_of_ble_eq_true rfl) [1, 2, 0] (by decide) rfl rfl rfl

theorem dX11_marksOf_0 : decode cX11_marksOf 0 = .ok (.iconst 0, 1) := dk_3 rfl
theorem dX11_marksOf_1 : decode cX11_marksOf 1 = .ok (.istore_n 2, 1) := dk_61 rfl
theorem dX11_marksOf_2 : decode cX11_marksOf 2 = .ok (.iconst 0, 1) := dk_3 rfl
theorem dX11_marksOf_3 : decode cX11_marksOf 3 = .ok (.istore_n 3, 1) := dk_62 rfl
theorem dX11_marksOf_4 : decode cX11_marksOf 4 = .ok (.iload_n 3, 1) := dk_29 rfl
theorem dX11_marksOf_5 : decode cX11_marksOf 5 = .ok (.aload_n 0, 1) := dk_42 rfl
theorem dX11_marksOf_6 : decode cX11_marksOf 6 = .ok (.getfield 20, 3) := dk_180 rfl rfl rfl rfl
theorem dX11_marksOf_9 : decode cX11_marksOf 9 = .ok (.bipush 8, 2) := dk_16 rfl rfl (by decide)
theorem dX11_marksOf_11 : decode cX11_marksOf 11 = .ok (.iaload, 1) := dk_46 rfl
theorem dX11_marksOf_12 : decode cX11_marksOf 12 = .ok (.if_icmp .ge 32, 3) := dk_162 rfl rfl rfl (by decide)
theorem dX11_marksOf_15 : decode cX11_marksOf 15 = .ok (.iload_n 2, 1) := dk_28 rfl
theorem dX11_marksOf_16 : decode cX11_marksOf 16 = .ok (.aload_n 0, 1) := dk_42 rfl
theorem dX11_marksOf_17 : decode cX11_marksOf 17 = .ok (.getfield 20, 3) := dk_180 rfl rfl rfl rfl
theorem dX11_marksOf_20 : decode cX11_marksOf 20 = .ok (.bipush 44, 2) := dk_16 rfl rfl (by decide)
theorem dX11_marksOf_22 : decode cX11_marksOf 22 = .ok (.iconst 3, 1) := dk_6 rfl
theorem dX11_marksOf_23 : decode cX11_marksOf 23 = .ok (.iload_n 3, 1) := dk_29 rfl
theorem dX11_marksOf_24 : decode cX11_marksOf 24 = .ok (.imul, 1) := dk_104 rfl
theorem dX11_marksOf_25 : decode cX11_marksOf 25 = .ok (.iadd, 1) := dk_96 rfl
theorem dX11_marksOf_26 : decode cX11_marksOf 26 = .ok (.iaload, 1) := dk_46 rfl
theorem dX11_marksOf_27 : decode cX11_marksOf 27 = .ok (.iload_n 1, 1) := dk_27 rfl
theorem dX11_marksOf_28 : decode cX11_marksOf 28 = .ok (.if_icmp .ne 7, 3) := dk_160 rfl rfl rfl (by decide)
theorem dX11_marksOf_31 : decode cX11_marksOf 31 = .ok (.iconst 1, 1) := dk_4 rfl
theorem dX11_marksOf_32 : decode cX11_marksOf 32 = .ok (.goto 4, 3) := dk_167 rfl rfl rfl (by decide)
theorem dX11_marksOf_35 : decode cX11_marksOf 35 = .ok (.iconst 0, 1) := dk_3 rfl
theorem dX11_marksOf_36 : decode cX11_marksOf 36 = .ok (.iadd, 1) := dk_96 rfl
theorem dX11_marksOf_37 : decode cX11_marksOf 37 = .ok (.istore_n 2, 1) := dk_61 rfl
theorem dX11_marksOf_38 : decode cX11_marksOf 38 = .ok (.iinc 3 1, 3) := dk_132 rfl rfl rfl rfl (by decide)
theorem dX11_marksOf_41 : decode cX11_marksOf 41 = .ok (.goto (-37), 3) := dk_167 rfl rfl rfl (by decide)
theorem dX11_marksOf_44 : decode cX11_marksOf 44 = .ok (.iload_n 2, 1) := dk_28 rfl
theorem dX11_marksOf_45 : decode cX11_marksOf 45 = .ok (.ireturn, 1) := dk_172 rfl
set_option maxHeartbeats 4000000 in
set_option maxRecDepth 100000 in
theorem m_marksOf (l : Launch) (g : Gx) (h0 : Nat) (p0 : Int32) (m_thrown : Int32) (a_tape : Nat) (m_taped : Int32) (m_size : Int32) (m_at : Int32) (m_end : Int32) (m_token : Int32) (m_whole : Int32) (m_nameSize : Int32) (m_fault : Int32) (m_place : Int32) (m_trouble : Int32) (a_letters : Nat) (m_failed : Int32) (m_hasHouse : Int32) (a_r : Nat) (a_fresh : Nat) (a_st : Nat) (a_undone : Nat) (a_kept : Nat) (m_undos : Int32) (m_images : Int32) (a_from : Nat) (a_begin : Nat) (a_motor : Nat) (a_change : Nat) (a_startFrame : Nat) (a_changeFrame : Nat) (a_lostAt : Nat) (a_blackAt : Nat) (a_slips : Nat) (a_leftArc : Nat) (a_died : Nat) (a_arcs : Nat) (m_bestSum : Int32) (m_nearest : Int32) (m_nearestTown : Int32) (a_there : Nat) (a_backAt : Nat) (a_sorted : Nat) (a_parts : Nat) (m_seed1 : Int32) (m_darkNow : Int32) (d_r : Nat → Int32) (hp_d_r : RInv d_r) : cI l g yX11_marksOf cX11_marksOf 4 (some .int) 0 0 0 0 [.ref h0, .int p0] [(cO11_i1r1i10r1i2r5i2r12i3r4i2 h0 m_thrown a_tape m_taped m_size m_at m_end m_token m_whole m_nameSize m_fault m_place m_trouble a_letters m_failed m_hasHouse a_r a_fresh a_st a_undone a_kept m_undos m_images a_from a_begin a_motor a_change a_startFrame a_changeFrame a_lostAt a_blackAt a_slips a_leftArc a_died a_arcs m_bestSum m_nearest m_nearestTown a_there a_backAt a_sorted a_parts m_seed1 m_darkNow), (cAI g a_r 311 d_r)] (fun r w => w = [(cO11_i1r1i10r1i2r5i2r12i3r4i2 h0 m_thrown a_tape m_taped m_size m_at m_end m_token m_whole m_nameSize m_fault m_place m_trouble a_letters m_failed m_hasHouse a_r a_fresh a_st a_undone a_kept m_undos m_images a_from a_begin a_motor a_change a_startFrame a_changeFrame a_lostAt a_blackAt a_slips a_leftArc a_died a_arcs m_bestSum m_nearest m_nearestTown a_there a_backAt a_sorted a_parts m_seed1 m_darkNow), (cAI g a_r 311 d_r)]) := by
  refine cI.of (by decide) (Nat.le_of_ble_eq_true rfl) ?_
  intro p e s m args below meth c A X hr hi
  refine k_lveq [(0, .ref h0), (1, .int p0)] rfl ?_
  refine k_iconst (v := 0) X dX11_marksOf_0 (by decide) ?_
  refine k_istore_n [(2, .int 0), (0, .ref h0), (1, .int p0)] X dX11_marksOf_1 (by decide) rfl ?_
  refine k_iconst (v := 0) X dX11_marksOf_2 (by decide) ?_
  refine k_istore_n [(3, .int 0), (2, .int 0), (0, .ref h0), (1, .int p0)] X dX11_marksOf_3 (by decide) rfl ?_
  refine (fun hL : ∀ (nn_4 : Nat) (u_1 : Int32) (u_2 : Int32), (2147483647 - u_2.toInt).toNat = nn_4 → (IV u_2 0 255) → Wk p l e _ s m args below meth c _ A g _ _ _ [(cO11_i1r1i10r1i2r5i2r12i3r4i2 h0 m_thrown a_tape m_taped m_size m_at m_end m_token m_whole m_nameSize m_fault m_place m_trouble a_letters m_failed m_hasHouse a_r a_fresh a_st a_undone a_kept m_undos m_images a_from a_begin a_motor a_change a_startFrame a_changeFrame a_lostAt a_blackAt a_slips a_leftArc a_died a_arcs m_bestSum m_nearest m_nearestTown a_there a_backAt a_sorted a_parts m_seed1 m_darkNow), (cAI g a_r 311 d_r)] [(3, .int u_2), (2, .int u_1), (0, .ref h0), (1, .int p0)] 4 [] => hL _ 0 0 rfl (iv_w (show IV 0 0 0 from (by decide)) (by decide) (by decide))) ?_
  refine fun nn_4 => Nat.strongRecOn nn_4 (fun nn_4 ih_6 => ?_)
  intro u_1 u_2 hm_5 hv_3
  refine k_iload_n X dX11_marksOf_4 0 rfl ?_
  refine k_aload_n X dX11_marksOf_5 2 rfl ?_
  refine k_get (ci := 11) X inlX11 rfl 15 (by decide) dX11_marksOf_6 mw170 0 rfl rfl ?_
  refine k_bipush (v := 8) X dX11_marksOf_9 (by decide) ?_
  refine k_iald X dX11_marksOf_11 1 rfl (by unfold vp_in; decide) ?_
  refine k_nm (fun z_7 ez_7 => ?_)
  have i_8 : z_7.toInt = (d_r 8).toInt := by rw [ez_7]; rfl
  have iv_9 : IV z_7 0 12 := rb_8 ez_7 hp_d_r
  refine k_ic_ge 44 X dX11_marksOf_12 (by decide) (fun h_10 => ?_) (fun h_10 => ?_)
  · skip
    have j_11 : z_7.toInt ≤ u_2.toInt := iv_le h_10
    refine k_iload_n X dX11_marksOf_44 1 rfl ?_
    exact k_iret X hr dX11_marksOf_45 (Nat.le_of_ble_eq_true rfl) (Nat.le_of_ble_eq_true rfl) [0, 1] (by decide) rfl rfl rfl
  · skip
    have j_12 : u_2.toInt < z_7.toInt := iv_nle h_10
    have iv_13 : IV u_2 0 11 := iv_ltL (iv_nle h_10) hv_3 iv_9 (by decide)
    have iv_14 : IV z_7 1 12 := iv_ltR (iv_nle h_10) hv_3 iv_9 (by decide)
    refine k_iload_n X dX11_marksOf_15 1 rfl ?_
    refine k_aload_n X dX11_marksOf_16 2 rfl ?_
    refine k_get (ci := 11) X inlX11 rfl 15 (by decide) dX11_marksOf_17 mw170 0 rfl rfl ?_
    refine k_bipush (v := 44) X dX11_marksOf_20 (by decide) ?_
    refine k_iconst (v := 3) X dX11_marksOf_22 (by decide) ?_
    refine k_iload_n X dX11_marksOf_23 0 rfl ?_
    refine k_imul X dX11_marksOf_24 ?_
    refine k_nm (fun z_15 ez_15 => ?_)
    have i_16 : z_15.toInt = 3 * u_2.toInt := in_mul ez_15 (by decide) (by decide) iv_13 (by decide) (by decide)
    have iv_17 : IV z_15 0 33 := iz4 i_16 iv_13 (by decide) (by decide) (by decide)
    refine k_iadd X dX11_marksOf_25 ?_
    refine k_nm (fun z_18 ez_18 => ?_)
    have i_19 : z_18.toInt = 44 + z_15.toInt := in_add ez_18 (show IV 44 44 44 from (by decide)) iv_17 (by decide) (by decide)
    have iv_20 : IV z_18 44 77 := iz2 i_19 iv_17 (by decide) (by decide)
    refine k_iald X dX11_marksOf_26 1 rfl (iv_in iv_20 (by decide) (by decide)) ?_
    refine k_nm (fun z_21 ez_21 => ?_)
    have i_22 : z_18.toInt = 44 + 3 * u_2.toInt := by omega
    have iv_23 : IV z_21 0 7 := rb_44_3 ez_21 hp_d_r i_22 (iv_w iv_13 (by decide) (by decide))
    refine k_iload_n X dX11_marksOf_27 3 rfl ?_
    refine k_ic_ne 35 X dX11_marksOf_28 (by decide) (fun h_24 => ?_) (fun h_24 => ?_)
    · skip
      refine k_iconst (v := 0) X dX11_marksOf_35 (by decide) ?_
      refine k_iadd X dX11_marksOf_36 ?_
      refine k_nm (fun z_25 ez_25 => ?_)
      have i_26 : z_25.toInt = u_1.toInt + 0 := in_add ez_25 (iv_any u_1) (show IV 0 0 0 from (by decide)) (by decide) (by decide)
      have iv_27 : IV z_25 (-2147483648) 2147483647 := by have := (iv_any u_1); have := (show IV 0 0 0 from (by decide)); rw [IV, i_26]; omega
      refine k_istore_n [(2, .int z_25), (3, .int u_2), (0, .ref h0), (1, .int p0)] X dX11_marksOf_37 (by decide) rfl ?_
      obtain ⟨z_28, ez_28⟩ : ∃ y : Int32, u_2 + Int32.ofInt 1 = y := ⟨_, rfl⟩
      refine k_iinc z_28 [(3, .int z_28), (2, .int z_25), (0, .ref h0), (1, .int p0)] 1 X dX11_marksOf_38 rfl ez_28 (by decide) rfl ?_
      have i_29 : z_28.toInt = u_2.toInt + 1 := in_inc ez_28 (by decide) iv_13 (by decide) (by decide)
      have iv_30 : IV z_28 1 12 := iz1 i_29 iv_13 (by decide) (by decide)
      refine k_goto 4 X dX11_marksOf_41 (by decide) ?_
      exact ih_6 _ (by omega) z_25 z_28 rfl (iv_w iv_30 (by decide) (by decide))
    · skip
      have iv_31 : IV p0 0 7 := iv_meet (iv_any p0) (iv_e h_24.symm iv_23) (by decide) (by decide)
      refine k_iconst (v := 1) X dX11_marksOf_31 (by decide) ?_
      refine k_goto 36 X dX11_marksOf_32 (by decide) ?_
      refine k_iadd X dX11_marksOf_36 ?_
      refine k_nm (fun z_32 ez_32 => ?_)
      refine k_istore_n [(2, .int z_32), (3, .int u_2), (0, .ref h0), (1, .int p0)] X dX11_marksOf_37 (by decide) rfl ?_
      obtain ⟨z_34, ez_34⟩ : ∃ y : Int32, u_2 + Int32.ofInt 1 = y := ⟨_, rfl⟩
      refine k_iinc z_34 [(3, .int z_34), (2, .int z_32), (0, .ref h0), (1, .int p0)] 1 X dX11_marksOf_38 rfl ez_34 (by decide) rfl ?_
      have i_35 : z_34.toInt = u_2.toInt + 1 := in_inc ez_34 (by decide) iv_13 (by decide) (by decide)
      have iv_36 : IV z_34 1 12 := iz1 i_35 iv_13 (by decide) (by decide)
      refine k_goto 4 X dX11_marksOf_41 (by decide) ?_
      exact ih_6 _ (by omega) z_32 z_34 rfl (iv_w iv_36 (by decide) (by decide))

theorem dX11_joinsOf_0 : decode cX11_joinsOf 0 = .ok (.iconst 0, 1) := dk_3 rfl
theorem dX11_joinsOf_1 : decode cX11_joinsOf 1 = .ok (.istore_n 2, 1) := dk_61 rfl
theorem dX11_joinsOf_2 : decode cX11_joinsOf 2 = .ok (.iconst 0, 1) := dk_3 rfl
theorem dX11_joinsOf_3 : decode cX11_joinsOf 3 = .ok (.istore_n 3, 1) := dk_62 rfl
theorem dX11_joinsOf_4 : decode cX11_joinsOf 4 = .ok (.iload_n 3, 1) := dk_29 rfl
theorem dX11_joinsOf_5 : decode cX11_joinsOf 5 = .ok (.aload_n 0, 1) := dk_42 rfl
theorem dX11_joinsOf_6 : decode cX11_joinsOf 6 = .ok (.getfield 20, 3) := dk_180 rfl rfl rfl rfl
theorem dX11_joinsOf_9 : decode cX11_joinsOf 9 = .ok (.bipush 9, 2) := dk_16 rfl rfl (by decide)
theorem dX11_joinsOf_11 : decode cX11_joinsOf 11 = .ok (.iaload, 1) := dk_46 rfl
theorem dX11_joinsOf_12 : decode cX11_joinsOf 12 = .ok (.if_icmp .ge 32, 3) := dk_162 rfl rfl rfl (by decide)
theorem dX11_joinsOf_15 : decode cX11_joinsOf 15 = .ok (.iload_n 2, 1) := dk_28 rfl
theorem dX11_joinsOf_16 : decode cX11_joinsOf 16 = .ok (.aload_n 0, 1) := dk_42 rfl
theorem dX11_joinsOf_17 : decode cX11_joinsOf 17 = .ok (.getfield 20, 3) := dk_180 rfl rfl rfl rfl
theorem dX11_joinsOf_20 : decode cX11_joinsOf 20 = .ok (.bipush 80, 2) := dk_16 rfl rfl (by decide)
theorem dX11_joinsOf_22 : decode cX11_joinsOf 22 = .ok (.iconst 2, 1) := dk_5 rfl
theorem dX11_joinsOf_23 : decode cX11_joinsOf 23 = .ok (.iload_n 3, 1) := dk_29 rfl
theorem dX11_joinsOf_24 : decode cX11_joinsOf 24 = .ok (.imul, 1) := dk_104 rfl
theorem dX11_joinsOf_25 : decode cX11_joinsOf 25 = .ok (.iadd, 1) := dk_96 rfl
theorem dX11_joinsOf_26 : decode cX11_joinsOf 26 = .ok (.iaload, 1) := dk_46 rfl
theorem dX11_joinsOf_27 : decode cX11_joinsOf 27 = .ok (.iload_n 1, 1) := dk_27 rfl
theorem dX11_joinsOf_28 : decode cX11_joinsOf 28 = .ok (.if_icmp .ne 7, 3) := dk_160 rfl rfl rfl (by decide)
theorem dX11_joinsOf_31 : decode cX11_joinsOf 31 = .ok (.iconst 1, 1) := dk_4 rfl
theorem dX11_joinsOf_32 : decode cX11_joinsOf 32 = .ok (.goto 4, 3) := dk_167 rfl rfl rfl (by decide)
theorem dX11_joinsOf_35 : decode cX11_joinsOf 35 = .ok (.iconst 0, 1) := dk_3 rfl
theorem dX11_joinsOf_36 : decode cX11_joinsOf 36 = .ok (.iadd, 1) := dk_96 rfl
theorem dX11_joinsOf_37 : decode cX11_joinsOf 37 = .ok (.istore_n 2, 1) := dk_61 rfl
theorem dX11_joinsOf_38 : decode cX11_joinsOf 38 = .ok (.iinc 3 1, 3) := dk_132 rfl rfl rfl rfl (by decide)
theorem dX11_joinsOf_41 : decode cX11_joinsOf 41 = .ok (.goto (-37), 3) := dk_167 rfl rfl rfl (by decide)
theorem dX11_joinsOf_44 : decode cX11_joinsOf 44 = .ok (.iconst 0, 1) := dk_3 rfl
theorem dX11_joinsOf_45 : decode cX11_joinsOf 45 = .ok (.istore_n 3, 1) := dk_62 rfl
theorem dX11_joinsOf_46 : decode cX11_joinsOf 46 = .ok (.iload_n 3, 1) := dk_29 rfl
theorem dX11_joinsOf_47 : decode cX11_joinsOf 47 = .ok (.aload_n 0, 1) := dk_42 rfl
theorem dX11_joinsOf_48 : decode cX11_joinsOf 48 = .ok (.getfield 20, 3) := dk_180 rfl rfl rfl rfl
theorem dX11_joinsOf_51 : decode cX11_joinsOf 51 = .ok (.bipush 10, 2) := dk_16 rfl rfl (by decide)
theorem dX11_joinsOf_53 : decode cX11_joinsOf 53 = .ok (.iaload, 1) := dk_46 rfl
theorem dX11_joinsOf_54 : decode cX11_joinsOf 54 = .ok (.if_icmp .ge 40, 3) := dk_162 rfl rfl rfl (by decide)
theorem dX11_joinsOf_57 : decode cX11_joinsOf 57 = .ok (.iload_n 2, 1) := dk_28 rfl
theorem dX11_joinsOf_58 : decode cX11_joinsOf 58 = .ok (.aload_n 0, 1) := dk_42 rfl
theorem dX11_joinsOf_59 : decode cX11_joinsOf 59 = .ok (.iload_n 3, 1) := dk_29 rfl
theorem dX11_joinsOf_60 : decode cX11_joinsOf 60 = .ok (.invokevirtual 339, 3) := dk_182 rfl rfl rfl rfl
theorem dX11_joinsOf_63 : decode cX11_joinsOf 63 = .ok (.ifCond .eq 22, 3) := dk_153 rfl rfl rfl (by decide)
theorem dX11_joinsOf_66 : decode cX11_joinsOf 66 = .ok (.aload_n 0, 1) := dk_42 rfl
theorem dX11_joinsOf_67 : decode cX11_joinsOf 67 = .ok (.getfield 20, 3) := dk_180 rfl rfl rfl rfl
theorem dX11_joinsOf_70 : decode cX11_joinsOf 70 = .ok (.bipush 96, 2) := dk_16 rfl rfl (by decide)
theorem dX11_joinsOf_72 : decode cX11_joinsOf 72 = .ok (.iconst 3, 1) := dk_6 rfl
theorem dX11_joinsOf_73 : decode cX11_joinsOf 73 = .ok (.iload_n 3, 1) := dk_29 rfl
theorem dX11_joinsOf_74 : decode cX11_joinsOf 74 = .ok (.imul, 1) := dk_104 rfl
theorem dX11_joinsOf_75 : decode cX11_joinsOf 75 = .ok (.iadd, 1) := dk_96 rfl
theorem dX11_joinsOf_76 : decode cX11_joinsOf 76 = .ok (.iaload, 1) := dk_46 rfl
theorem dX11_joinsOf_77 : decode cX11_joinsOf 77 = .ok (.iload_n 1, 1) := dk_27 rfl
theorem dX11_joinsOf_78 : decode cX11_joinsOf 78 = .ok (.if_icmp .ne 7, 3) := dk_160 rfl rfl rfl (by decide)
theorem dX11_joinsOf_81 : decode cX11_joinsOf 81 = .ok (.iconst 1, 1) := dk_4 rfl
theorem dX11_joinsOf_82 : decode cX11_joinsOf 82 = .ok (.goto 4, 3) := dk_167 rfl rfl rfl (by decide)
theorem dX11_joinsOf_85 : decode cX11_joinsOf 85 = .ok (.iconst 0, 1) := dk_3 rfl
theorem dX11_joinsOf_86 : decode cX11_joinsOf 86 = .ok (.iadd, 1) := dk_96 rfl
theorem dX11_joinsOf_87 : decode cX11_joinsOf 87 = .ok (.istore_n 2, 1) := dk_61 rfl
theorem dX11_joinsOf_88 : decode cX11_joinsOf 88 = .ok (.iinc 3 1, 3) := dk_132 rfl rfl rfl rfl (by decide)
theorem dX11_joinsOf_91 : decode cX11_joinsOf 91 = .ok (.goto (-45), 3) := dk_167 rfl rfl rfl (by decide)
theorem dX11_joinsOf_94 : decode cX11_joinsOf 94 = .ok (.iload_n 2, 1) := dk_28 rfl
theorem dX11_joinsOf_95 : decode cX11_joinsOf 95 = .ok (.ireturn, 1) := dk_172 rfl
set_option maxHeartbeats 4000000 in
set_option maxRecDepth 100000 in
theorem m_joinsOf (l : Launch) (g : Gx) (h0 : Nat) (p0 : Int32) (m_thrown : Int32) (a_tape : Nat) (m_taped : Int32) (m_size : Int32) (m_at : Int32) (m_end : Int32) (m_token : Int32) (m_whole : Int32) (m_nameSize : Int32) (m_fault : Int32) (m_place : Int32) (m_trouble : Int32) (a_letters : Nat) (m_failed : Int32) (m_hasHouse : Int32) (a_r : Nat) (a_fresh : Nat) (a_st : Nat) (a_undone : Nat) (a_kept : Nat) (m_undos : Int32) (m_images : Int32) (a_from : Nat) (a_begin : Nat) (a_motor : Nat) (a_change : Nat) (a_startFrame : Nat) (a_changeFrame : Nat) (a_lostAt : Nat) (a_blackAt : Nat) (a_slips : Nat) (a_leftArc : Nat) (a_died : Nat) (a_arcs : Nat) (m_bestSum : Int32) (m_nearest : Int32) (m_nearestTown : Int32) (a_there : Nat) (a_backAt : Nat) (a_sorted : Nat) (a_parts : Nat) (m_seed1 : Int32) (m_darkNow : Int32) (d_r : Nat → Int32) (d_st : Nat → Int32) (hp_d_r : RInv d_r) : cI l g yX11_joinsOf cX11_joinsOf 4 (some .int) 2 42 0 0 [.ref h0, .int p0] [(cO11_i1r1i10r1i2r5i2r12i3r4i2 h0 m_thrown a_tape m_taped m_size m_at m_end m_token m_whole m_nameSize m_fault m_place m_trouble a_letters m_failed m_hasHouse a_r a_fresh a_st a_undone a_kept m_undos m_images a_from a_begin a_motor a_change a_startFrame a_changeFrame a_lostAt a_blackAt a_slips a_leftArc a_died a_arcs m_bestSum m_nearest m_nearestTown a_there a_backAt a_sorted a_parts m_seed1 m_darkNow), (cAI g a_r 311 d_r), (cAI g a_st 44 d_st)] (fun r w => w = [(cO11_i1r1i10r1i2r5i2r12i3r4i2 h0 m_thrown a_tape m_taped m_size m_at m_end m_token m_whole m_nameSize m_fault m_place m_trouble a_letters m_failed m_hasHouse a_r a_fresh a_st a_undone a_kept m_undos m_images a_from a_begin a_motor a_change a_startFrame a_changeFrame a_lostAt a_blackAt a_slips a_leftArc a_died a_arcs m_bestSum m_nearest m_nearestTown a_there a_backAt a_sorted a_parts m_seed1 m_darkNow), (cAI g a_r 311 d_r), (cAI g a_st 44 d_st)]) := by
  refine cI.of (by decide) (Nat.le_of_ble_eq_true rfl) ?_
  intro p e s m args below meth c A X hr hi
  refine k_lveq [(0, .ref h0), (1, .int p0)] rfl ?_
  refine k_iconst (v := 0) X dX11_joinsOf_0 (by decide) ?_
  refine k_istore_n [(2, .int 0), (0, .ref h0), (1, .int p0)] X dX11_joinsOf_1 (by decide) rfl ?_
  refine k_iconst (v := 0) X dX11_joinsOf_2 (by decide) ?_
  refine k_istore_n [(3, .int 0), (2, .int 0), (0, .ref h0), (1, .int p0)] X dX11_joinsOf_3 (by decide) rfl ?_
  refine (fun hL : ∀ (nn_4 : Nat) (u_1 : Int32) (u_2 : Int32), (2147483647 - u_2.toInt).toNat = nn_4 → (IV u_2 0 8) → Wk p l e _ s m args below meth c _ A g _ _ _ [(cO11_i1r1i10r1i2r5i2r12i3r4i2 h0 m_thrown a_tape m_taped m_size m_at m_end m_token m_whole m_nameSize m_fault m_place m_trouble a_letters m_failed m_hasHouse a_r a_fresh a_st a_undone a_kept m_undos m_images a_from a_begin a_motor a_change a_startFrame a_changeFrame a_lostAt a_blackAt a_slips a_leftArc a_died a_arcs m_bestSum m_nearest m_nearestTown a_there a_backAt a_sorted a_parts m_seed1 m_darkNow), (cAI g a_r 311 d_r), (cAI g a_st 44 d_st)] [(3, .int u_2), (2, .int u_1), (0, .ref h0), (1, .int p0)] 4 [] => hL _ 0 0 rfl (iv_w (show IV 0 0 0 from (by decide)) (by decide) (by decide))) ?_
  refine fun nn_4 => Nat.strongRecOn nn_4 (fun nn_4 ih_6 => ?_)
  intro u_1 u_2 hm_5 hv_3
  refine k_iload_n X dX11_joinsOf_4 0 rfl ?_
  refine k_aload_n X dX11_joinsOf_5 2 rfl ?_
  refine k_get (ci := 11) X inlX11 rfl 15 (by decide) dX11_joinsOf_6 mw170 0 rfl rfl ?_
  refine k_bipush (v := 9) X dX11_joinsOf_9 (by decide) ?_
  refine k_iald X dX11_joinsOf_11 1 rfl (by unfold vp_in; decide) ?_
  refine k_nm (fun z_7 ez_7 => ?_)
  have i_8 : z_7.toInt = (d_r 9).toInt := by rw [ez_7]; rfl
  have iv_9 : IV z_7 0 8 := rb_9 ez_7 hp_d_r
  refine k_ic_ge 44 X dX11_joinsOf_12 (by decide) (fun h_10 => ?_) (fun h_10 => ?_)
  · skip
    have j_11 : z_7.toInt ≤ u_2.toInt := iv_le h_10
    refine k_iconst (v := 0) X dX11_joinsOf_44 (by decide) ?_
    refine k_istore_n [(3, .int 0), (2, .int u_1), (0, .ref h0), (1, .int p0)] X dX11_joinsOf_45 (by decide) rfl ?_
    refine (fun hL : ∀ (nn_15 : Nat) (u_12 : Int32) (u_13 : Int32), (2147483647 - u_13.toInt).toNat = nn_15 → (IV u_13 0 8) → Wk p l e _ s m args below meth c _ A g _ _ _ [(cO11_i1r1i10r1i2r5i2r12i3r4i2 h0 m_thrown a_tape m_taped m_size m_at m_end m_token m_whole m_nameSize m_fault m_place m_trouble a_letters m_failed m_hasHouse a_r a_fresh a_st a_undone a_kept m_undos m_images a_from a_begin a_motor a_change a_startFrame a_changeFrame a_lostAt a_blackAt a_slips a_leftArc a_died a_arcs m_bestSum m_nearest m_nearestTown a_there a_backAt a_sorted a_parts m_seed1 m_darkNow), (cAI g a_r 311 d_r), (cAI g a_st 44 d_st)] [(3, .int u_13), (2, .int u_12), (0, .ref h0), (1, .int p0)] 46 [] => hL _ u_1 0 rfl (iv_w (show IV 0 0 0 from (by decide)) (by decide) (by decide))) ?_
    refine fun nn_15 => Nat.strongRecOn nn_15 (fun nn_15 ih_17 => ?_)
    intro u_12 u_13 hm_16 hv_14
    refine k_iload_n X dX11_joinsOf_46 0 rfl ?_
    refine k_aload_n X dX11_joinsOf_47 2 rfl ?_
    refine k_get (ci := 11) X inlX11 rfl 15 (by decide) dX11_joinsOf_48 mw170 0 rfl rfl ?_
    refine k_bipush (v := 10) X dX11_joinsOf_51 (by decide) ?_
    refine k_iald X dX11_joinsOf_53 1 rfl (by unfold vp_in; decide) ?_
    refine k_nm (fun z_18 ez_18 => ?_)
    have i_19 : z_18.toInt = (d_r 10).toInt := by rw [ez_18]; rfl
    have iv_20 : IV z_18 0 6 := rb_10 ez_18 hp_d_r
    refine k_ic_ge 94 X dX11_joinsOf_54 (by decide) (fun h_21 => ?_) (fun h_21 => ?_)
    · skip
      have j_22 : z_18.toInt ≤ u_13.toInt := iv_le h_21
      refine k_iload_n X dX11_joinsOf_94 1 rfl ?_
      exact k_iret X hr dX11_joinsOf_95 (Nat.le_of_ble_eq_true rfl) (Nat.le_of_ble_eq_true rfl) [0, 1, 2] (by decide) rfl rfl rfl
    · skip
      have j_23 : u_13.toInt < z_18.toInt := iv_nle h_21
      have iv_24 : IV u_13 0 5 := iv_ltL (iv_nle h_21) hv_14 iv_20 (by decide)
      have iv_25 : IV z_18 1 6 := iv_ltR (iv_nle h_21) hv_14 iv_20 (by decide)
      refine k_iload_n X dX11_joinsOf_57 1 rfl ?_
      refine k_aload_n X dX11_joinsOf_58 2 rfl ?_
      refine k_iload_n X dX11_joinsOf_59 0 rfl ?_
      refine k_callVI (n := 1) (As := [.int u_13]) (st := [.int u_12]) X [(cO11_i1r1i10r1i2r5i2r12i3r4i2 h0 m_thrown a_tape m_taped m_size m_at m_end m_token m_whole m_nameSize m_fault m_place m_trouble a_letters m_failed m_hasHouse a_r a_fresh a_st a_undone a_kept m_undos m_images a_from a_begin a_motor a_change a_startFrame a_changeFrame a_lostAt a_blackAt a_slips a_leftArc a_died a_arcs m_bestSum m_nearest m_nearestTown a_there a_backAt a_sorted a_parts m_seed1 m_darkNow), (cAI g a_st 44 d_st)] [(cAI g a_r 311 d_r)] [0, 2] [1] (m_isMended l g h0 u_13 m_thrown a_tape m_taped m_size m_at m_end m_token m_whole m_nameSize m_fault m_place m_trouble a_letters m_failed m_hasHouse a_r a_fresh a_st a_undone a_kept m_undos m_images a_from a_begin a_motor a_change a_startFrame a_changeFrame a_lostAt a_blackAt a_slips a_leftArc a_died a_arcs m_bestSum m_nearest m_nearestTown a_there a_backAt a_sorted a_parts m_seed1 m_darkNow d_st) dX11_joinsOf_60 mw682 mw683 mw684 mw5 mw685 rfl 11 rfl rfl 0 _ rfl yk_yX11_isMended_1 rfl (Nat.le_of_ble_eq_true rfl) (Nat.le_of_ble_eq_true rfl) (Nat.le_of_ble_eq_true rfl) (Nat.le_of_ble_eq_true rfl) (Nat.le_of_ble_eq_true rfl) rfl rfl (by decide) rfl (by decide) (by decide) ?_
      rintro r_26 w ⟨iv_27, rfl⟩
      refine k_ws [(cAI g a_r 311 d_r), (cO11_i1r1i10r1i2r5i2r12i3r4i2 h0 m_thrown a_tape m_taped m_size m_at m_end m_token m_whole m_nameSize m_fault m_place m_trouble a_letters m_failed m_hasHouse a_r a_fresh a_st a_undone a_kept m_undos m_images a_from a_begin a_motor a_change a_startFrame a_changeFrame a_lostAt a_blackAt a_slips a_leftArc a_died a_arcs m_bestSum m_nearest m_nearestTown a_there a_backAt a_sorted a_parts m_seed1 m_darkNow), (cAI g a_st 44 d_st)] rfl ?_
      refine k_if_eq 85 X dX11_joinsOf_63 (by decide) (fun h_28 => ?_) (fun h_28 => ?_)
      · skip
        have iv_29 : IV r_26 0 0 := iv_meet iv_27 (iv_e h_28 (show IV 0 0 0 from (by decide))) (by decide) (by decide)
        refine k_iconst (v := 0) X dX11_joinsOf_85 (by decide) ?_
        refine k_iadd X dX11_joinsOf_86 ?_
        refine k_nm (fun z_30 ez_30 => ?_)
        have i_31 : z_30.toInt = u_12.toInt + 0 := in_add ez_30 (iv_any u_12) (show IV 0 0 0 from (by decide)) (by decide) (by decide)
        have iv_32 : IV z_30 (-2147483648) 2147483647 := by have := (iv_any u_12); have := (show IV 0 0 0 from (by decide)); rw [IV, i_31]; omega
        refine k_istore_n [(2, .int z_30), (3, .int u_13), (0, .ref h0), (1, .int p0)] X dX11_joinsOf_87 (by decide) rfl ?_
        obtain ⟨z_33, ez_33⟩ : ∃ y : Int32, u_13 + Int32.ofInt 1 = y := ⟨_, rfl⟩
        refine k_iinc z_33 [(3, .int z_33), (2, .int z_30), (0, .ref h0), (1, .int p0)] 1 X dX11_joinsOf_88 rfl ez_33 (by decide) rfl ?_
        have i_34 : z_33.toInt = u_13.toInt + 1 := in_inc ez_33 (by decide) iv_24 (by decide) (by decide)
        have iv_35 : IV z_33 1 6 := iz1 i_34 iv_24 (by decide) (by decide)
        refine k_goto 46 X dX11_joinsOf_91 (by decide) ?_
        refine k_sub [(cO11_i1r1i10r1i2r5i2r12i3r4i2 h0 m_thrown a_tape m_taped m_size m_at m_end m_token m_whole m_nameSize m_fault m_place m_trouble a_letters m_failed m_hasHouse a_r a_fresh a_st a_undone a_kept m_undos m_images a_from a_begin a_motor a_change a_startFrame a_changeFrame a_lostAt a_blackAt a_slips a_leftArc a_died a_arcs m_bestSum m_nearest m_nearestTown a_there a_backAt a_sorted a_parts m_seed1 m_darkNow), (cAI g a_r 311 d_r), (cAI g a_st 44 d_st)] [1, 0, 2] rfl (by decide) rfl ?_
        exact ih_17 _ (by omega) z_30 z_33 rfl (iv_w iv_35 (by decide) (by decide))
      · skip
        have iv_36 : IV r_26 1 1 := iv_neL h_28 iv_27 (show IV 0 0 0 from (by decide)) (by decide)
        refine k_aload_n X dX11_joinsOf_66 2 rfl ?_
        refine k_get (ci := 11) X inlX11 rfl 15 (by decide) dX11_joinsOf_67 mw170 1 rfl rfl ?_
        refine k_bipush (v := 96) X dX11_joinsOf_70 (by decide) ?_
        refine k_iconst (v := 3) X dX11_joinsOf_72 (by decide) ?_
        refine k_iload_n X dX11_joinsOf_73 0 rfl ?_
        refine k_imul X dX11_joinsOf_74 ?_
        refine k_nm (fun z_37 ez_37 => ?_)
        have i_38 : z_37.toInt = 3 * u_13.toInt := in_mul ez_37 (by decide) (by decide) iv_24 (by decide) (by decide)
        have iv_39 : IV z_37 0 15 := iz4 i_38 iv_24 (by decide) (by decide) (by decide)
        refine k_iadd X dX11_joinsOf_75 ?_
        refine k_nm (fun z_40 ez_40 => ?_)
        have i_41 : z_40.toInt = 96 + z_37.toInt := in_add ez_40 (show IV 96 96 96 from (by decide)) iv_39 (by decide) (by decide)
        have iv_42 : IV z_40 96 111 := iz2 i_41 iv_39 (by decide) (by decide)
        refine k_iald X dX11_joinsOf_76 0 rfl (iv_in iv_42 (by decide) (by decide)) ?_
        refine k_nm (fun z_43 ez_43 => ?_)
        have i_44 : z_40.toInt = 96 + 3 * u_13.toInt := by omega
        have iv_45 : IV z_43 0 7 := rb_96_3 ez_43 hp_d_r i_44 (iv_w iv_24 (by decide) (by decide))
        refine k_iload_n X dX11_joinsOf_77 3 rfl ?_
        refine k_ic_ne 85 X dX11_joinsOf_78 (by decide) (fun h_46 => ?_) (fun h_46 => ?_)
        · skip
          refine k_iconst (v := 0) X dX11_joinsOf_85 (by decide) ?_
          refine k_iadd X dX11_joinsOf_86 ?_
          refine k_nm (fun z_47 ez_47 => ?_)
          have i_48 : z_47.toInt = u_12.toInt + 0 := in_add ez_47 (iv_any u_12) (show IV 0 0 0 from (by decide)) (by decide) (by decide)
          have iv_49 : IV z_47 (-2147483648) 2147483647 := by have := (iv_any u_12); have := (show IV 0 0 0 from (by decide)); rw [IV, i_48]; omega
          refine k_istore_n [(2, .int z_47), (3, .int u_13), (0, .ref h0), (1, .int p0)] X dX11_joinsOf_87 (by decide) rfl ?_
          obtain ⟨z_50, ez_50⟩ : ∃ y : Int32, u_13 + Int32.ofInt 1 = y := ⟨_, rfl⟩
          refine k_iinc z_50 [(3, .int z_50), (2, .int z_47), (0, .ref h0), (1, .int p0)] 1 X dX11_joinsOf_88 rfl ez_50 (by decide) rfl ?_
          have i_51 : z_50.toInt = u_13.toInt + 1 := in_inc ez_50 (by decide) iv_24 (by decide) (by decide)
          have iv_52 : IV z_50 1 6 := iz1 i_51 iv_24 (by decide) (by decide)
          refine k_goto 46 X dX11_joinsOf_91 (by decide) ?_
          refine k_sub [(cO11_i1r1i10r1i2r5i2r12i3r4i2 h0 m_thrown a_tape m_taped m_size m_at m_end m_token m_whole m_nameSize m_fault m_place m_trouble a_letters m_failed m_hasHouse a_r a_fresh a_st a_undone a_kept m_undos m_images a_from a_begin a_motor a_change a_startFrame a_changeFrame a_lostAt a_blackAt a_slips a_leftArc a_died a_arcs m_bestSum m_nearest m_nearestTown a_there a_backAt a_sorted a_parts m_seed1 m_darkNow), (cAI g a_r 311 d_r), (cAI g a_st 44 d_st)] [1, 0, 2] rfl (by decide) rfl ?_
          exact ih_17 _ (by omega) z_47 z_50 rfl (iv_w iv_52 (by decide) (by decide))
        · skip
          have iv_53 : IV p0 0 7 := iv_meet (iv_any p0) (iv_e h_46.symm iv_45) (by decide) (by decide)
          refine k_iconst (v := 1) X dX11_joinsOf_81 (by decide) ?_
          refine k_goto 86 X dX11_joinsOf_82 (by decide) ?_
          refine k_iadd X dX11_joinsOf_86 ?_
          refine k_nm (fun z_54 ez_54 => ?_)
          refine k_istore_n [(2, .int z_54), (3, .int u_13), (0, .ref h0), (1, .int p0)] X dX11_joinsOf_87 (by decide) rfl ?_
          obtain ⟨z_56, ez_56⟩ : ∃ y : Int32, u_13 + Int32.ofInt 1 = y := ⟨_, rfl⟩
          refine k_iinc z_56 [(3, .int z_56), (2, .int z_54), (0, .ref h0), (1, .int p0)] 1 X dX11_joinsOf_88 rfl ez_56 (by decide) rfl ?_
          have i_57 : z_56.toInt = u_13.toInt + 1 := in_inc ez_56 (by decide) iv_24 (by decide) (by decide)
          have iv_58 : IV z_56 1 6 := iz1 i_57 iv_24 (by decide) (by decide)
          refine k_goto 46 X dX11_joinsOf_91 (by decide) ?_
          refine k_sub [(cO11_i1r1i10r1i2r5i2r12i3r4i2 h0 m_thrown a_tape m_taped m_size m_at m_end m_token m_whole m_nameSize m_fault m_place m_trouble a_letters m_failed m_hasHouse a_r a_fresh a_st a_undone a_kept m_undos m_images a_from a_begin a_motor a_change a_startFrame a_changeFrame a_lostAt a_blackAt a_slips a_leftArc a_died a_arcs m_bestSum m_nearest m_nearestTown a_there a_backAt a_sorted a_parts m_seed1 m_darkNow), (cAI g a_r 311 d_r), (cAI g a_st 44 d_st)] [1, 0, 2] rfl (by decide) rfl ?_
          exact ih_17 _ (by omega) z_54 z_56 rfl (iv_w iv_58 (by decide) (by decide))
  · skip
    have j_59 : u_2.toInt < z_7.toInt := iv_nle h_10
    have iv_60 : IV u_2 0 7 := iv_ltL (iv_nle h_10) hv_3 iv_9 (by decide)
    have iv_61 : IV z_7 1 8 := iv_ltR (iv_nle h_10) hv_3 iv_9 (by decide)
    refine k_iload_n X dX11_joinsOf_15 1 rfl ?_
    refine k_aload_n X dX11_joinsOf_16 2 rfl ?_
    refine k_get (ci := 11) X inlX11 rfl 15 (by decide) dX11_joinsOf_17 mw170 0 rfl rfl ?_
    refine k_bipush (v := 80) X dX11_joinsOf_20 (by decide) ?_
    refine k_iconst (v := 2) X dX11_joinsOf_22 (by decide) ?_
    refine k_iload_n X dX11_joinsOf_23 0 rfl ?_
    refine k_imul X dX11_joinsOf_24 ?_
    refine k_nm (fun z_62 ez_62 => ?_)
    have i_63 : z_62.toInt = 2 * u_2.toInt := in_mul ez_62 (by decide) (by decide) iv_60 (by decide) (by decide)
    have iv_64 : IV z_62 0 14 := iz4 i_63 iv_60 (by decide) (by decide) (by decide)
    refine k_iadd X dX11_joinsOf_25 ?_
    refine k_nm (fun z_65 ez_65 => ?_)
    have i_66 : z_65.toInt = 80 + z_62.toInt := in_add ez_65 (show IV 80 80 80 from (by decide)) iv_64 (by decide) (by decide)
    have iv_67 : IV z_65 80 94 := iz2 i_66 iv_64 (by decide) (by decide)
    refine k_iald X dX11_joinsOf_26 1 rfl (iv_in iv_67 (by decide) (by decide)) ?_
    refine k_nm (fun z_68 ez_68 => ?_)
    have i_69 : z_65.toInt = 80 + 2 * u_2.toInt := by omega
    have iv_70 : IV z_68 0 7 := rb_80_2 ez_68 hp_d_r i_69 (iv_w iv_60 (by decide) (by decide))
    refine k_iload_n X dX11_joinsOf_27 3 rfl ?_
    refine k_ic_ne 35 X dX11_joinsOf_28 (by decide) (fun h_71 => ?_) (fun h_71 => ?_)
    · skip
      refine k_iconst (v := 0) X dX11_joinsOf_35 (by decide) ?_
      refine k_iadd X dX11_joinsOf_36 ?_
      refine k_nm (fun z_72 ez_72 => ?_)
      have i_73 : z_72.toInt = u_1.toInt + 0 := in_add ez_72 (iv_any u_1) (show IV 0 0 0 from (by decide)) (by decide) (by decide)
      have iv_74 : IV z_72 (-2147483648) 2147483647 := by have := (iv_any u_1); have := (show IV 0 0 0 from (by decide)); rw [IV, i_73]; omega
      refine k_istore_n [(2, .int z_72), (3, .int u_2), (0, .ref h0), (1, .int p0)] X dX11_joinsOf_37 (by decide) rfl ?_
      obtain ⟨z_75, ez_75⟩ : ∃ y : Int32, u_2 + Int32.ofInt 1 = y := ⟨_, rfl⟩
      refine k_iinc z_75 [(3, .int z_75), (2, .int z_72), (0, .ref h0), (1, .int p0)] 1 X dX11_joinsOf_38 rfl ez_75 (by decide) rfl ?_
      have i_76 : z_75.toInt = u_2.toInt + 1 := in_inc ez_75 (by decide) iv_60 (by decide) (by decide)
      have iv_77 : IV z_75 1 8 := iz1 i_76 iv_60 (by decide) (by decide)
      refine k_goto 4 X dX11_joinsOf_41 (by decide) ?_
      exact ih_6 _ (by omega) z_72 z_75 rfl (iv_w iv_77 (by decide) (by decide))
    · skip
      have iv_78 : IV p0 0 7 := iv_meet (iv_any p0) (iv_e h_71.symm iv_70) (by decide) (by decide)
      refine k_iconst (v := 1) X dX11_joinsOf_31 (by decide) ?_
      refine k_goto 36 X dX11_joinsOf_32 (by decide) ?_
      refine k_iadd X dX11_joinsOf_36 ?_
      refine k_nm (fun z_79 ez_79 => ?_)
      refine k_istore_n [(2, .int z_79), (3, .int u_2), (0, .ref h0), (1, .int p0)] X dX11_joinsOf_37 (by decide) rfl ?_
      obtain ⟨z_81, ez_81⟩ : ∃ y : Int32, u_2 + Int32.ofInt 1 = y := ⟨_, rfl⟩
      refine k_iinc z_81 [(3, .int z_81), (2, .int z_79), (0, .ref h0), (1, .int p0)] 1 X dX11_joinsOf_38 rfl ez_81 (by decide) rfl ?_
      have i_82 : z_81.toInt = u_2.toInt + 1 := in_inc ez_81 (by decide) iv_60 (by decide) (by decide)
      have iv_83 : IV z_81 1 8 := iz1 i_82 iv_60 (by decide) (by decide)
      refine k_goto 4 X dX11_joinsOf_41 (by decide) ?_
      exact ih_6 _ (by omega) z_79 z_81 rfl (iv_w iv_83 (by decide) (by decide))

theorem dX11_weaksOf_0 : decode cX11_weaksOf 0 = .ok (.iconst 0, 1) := dk_3 rfl
theorem dX11_weaksOf_1 : decode cX11_weaksOf 1 = .ok (.istore_n 2, 1) := dk_61 rfl
theorem dX11_weaksOf_2 : decode cX11_weaksOf 2 = .ok (.iconst 0, 1) := dk_3 rfl
theorem dX11_weaksOf_3 : decode cX11_weaksOf 3 = .ok (.istore_n 3, 1) := dk_62 rfl
theorem dX11_weaksOf_4 : decode cX11_weaksOf 4 = .ok (.iload_n 3, 1) := dk_29 rfl
theorem dX11_weaksOf_5 : decode cX11_weaksOf 5 = .ok (.aload_n 0, 1) := dk_42 rfl
theorem dX11_weaksOf_6 : decode cX11_weaksOf 6 = .ok (.getfield 20, 3) := dk_180 rfl rfl rfl rfl
theorem dX11_weaksOf_9 : decode cX11_weaksOf 9 = .ok (.bipush 10, 2) := dk_16 rfl rfl (by decide)
theorem dX11_weaksOf_11 : decode cX11_weaksOf 11 = .ok (.iaload, 1) := dk_46 rfl
theorem dX11_weaksOf_12 : decode cX11_weaksOf 12 = .ok (.if_icmp .ge 40, 3) := dk_162 rfl rfl rfl (by decide)
theorem dX11_weaksOf_15 : decode cX11_weaksOf 15 = .ok (.iload_n 2, 1) := dk_28 rfl
theorem dX11_weaksOf_16 : decode cX11_weaksOf 16 = .ok (.aload_n 0, 1) := dk_42 rfl
theorem dX11_weaksOf_17 : decode cX11_weaksOf 17 = .ok (.iload_n 3, 1) := dk_29 rfl
theorem dX11_weaksOf_18 : decode cX11_weaksOf 18 = .ok (.invokevirtual 339, 3) := dk_182 rfl rfl rfl rfl
theorem dX11_weaksOf_21 : decode cX11_weaksOf 21 = .ok (.ifCond .ne 22, 3) := dk_154 rfl rfl rfl (by decide)
theorem dX11_weaksOf_24 : decode cX11_weaksOf 24 = .ok (.aload_n 0, 1) := dk_42 rfl
theorem dX11_weaksOf_25 : decode cX11_weaksOf 25 = .ok (.getfield 20, 3) := dk_180 rfl rfl rfl rfl
theorem dX11_weaksOf_28 : decode cX11_weaksOf 28 = .ok (.bipush 96, 2) := dk_16 rfl rfl (by decide)
theorem dX11_weaksOf_30 : decode cX11_weaksOf 30 = .ok (.iconst 3, 1) := dk_6 rfl
theorem dX11_weaksOf_31 : decode cX11_weaksOf 31 = .ok (.iload_n 3, 1) := dk_29 rfl
theorem dX11_weaksOf_32 : decode cX11_weaksOf 32 = .ok (.imul, 1) := dk_104 rfl
theorem dX11_weaksOf_33 : decode cX11_weaksOf 33 = .ok (.iadd, 1) := dk_96 rfl
theorem dX11_weaksOf_34 : decode cX11_weaksOf 34 = .ok (.iaload, 1) := dk_46 rfl
theorem dX11_weaksOf_35 : decode cX11_weaksOf 35 = .ok (.iload_n 1, 1) := dk_27 rfl
theorem dX11_weaksOf_36 : decode cX11_weaksOf 36 = .ok (.if_icmp .ne 7, 3) := dk_160 rfl rfl rfl (by decide)
theorem dX11_weaksOf_39 : decode cX11_weaksOf 39 = .ok (.iconst 1, 1) := dk_4 rfl
theorem dX11_weaksOf_40 : decode cX11_weaksOf 40 = .ok (.goto 4, 3) := dk_167 rfl rfl rfl (by decide)
theorem dX11_weaksOf_43 : decode cX11_weaksOf 43 = .ok (.iconst 0, 1) := dk_3 rfl
theorem dX11_weaksOf_44 : decode cX11_weaksOf 44 = .ok (.iadd, 1) := dk_96 rfl
theorem dX11_weaksOf_45 : decode cX11_weaksOf 45 = .ok (.istore_n 2, 1) := dk_61 rfl
theorem dX11_weaksOf_46 : decode cX11_weaksOf 46 = .ok (.iinc 3 1, 3) := dk_132 rfl rfl rfl rfl (by decide)
theorem dX11_weaksOf_49 : decode cX11_weaksOf 49 = .ok (.goto (-45), 3) := dk_167 rfl rfl rfl (by decide)
theorem dX11_weaksOf_52 : decode cX11_weaksOf 52 = .ok (.iload_n 2, 1) := dk_28 rfl
theorem dX11_weaksOf_53 : decode cX11_weaksOf 53 = .ok (.ireturn, 1) := dk_172 rfl
set_option maxHeartbeats 4000000 in
set_option maxRecDepth 100000 in
theorem m_weaksOf (l : Launch) (g : Gx) (h0 : Nat) (p0 : Int32) (m_thrown : Int32) (a_tape : Nat) (m_taped : Int32) (m_size : Int32) (m_at : Int32) (m_end : Int32) (m_token : Int32) (m_whole : Int32) (m_nameSize : Int32) (m_fault : Int32) (m_place : Int32) (m_trouble : Int32) (a_letters : Nat) (m_failed : Int32) (m_hasHouse : Int32) (a_r : Nat) (a_fresh : Nat) (a_st : Nat) (a_undone : Nat) (a_kept : Nat) (m_undos : Int32) (m_images : Int32) (a_from : Nat) (a_begin : Nat) (a_motor : Nat) (a_change : Nat) (a_startFrame : Nat) (a_changeFrame : Nat) (a_lostAt : Nat) (a_blackAt : Nat) (a_slips : Nat) (a_leftArc : Nat) (a_died : Nat) (a_arcs : Nat) (m_bestSum : Int32) (m_nearest : Int32) (m_nearestTown : Int32) (a_there : Nat) (a_backAt : Nat) (a_sorted : Nat) (a_parts : Nat) (m_seed1 : Int32) (m_darkNow : Int32) (d_r : Nat → Int32) (d_st : Nat → Int32) (hp_d_r : RInv d_r) : cI l g yX11_weaksOf cX11_weaksOf 4 (some .int) 2 42 0 0 [.ref h0, .int p0] [(cO11_i1r1i10r1i2r5i2r12i3r4i2 h0 m_thrown a_tape m_taped m_size m_at m_end m_token m_whole m_nameSize m_fault m_place m_trouble a_letters m_failed m_hasHouse a_r a_fresh a_st a_undone a_kept m_undos m_images a_from a_begin a_motor a_change a_startFrame a_changeFrame a_lostAt a_blackAt a_slips a_leftArc a_died a_arcs m_bestSum m_nearest m_nearestTown a_there a_backAt a_sorted a_parts m_seed1 m_darkNow), (cAI g a_r 311 d_r), (cAI g a_st 44 d_st)] (fun r w => w = [(cO11_i1r1i10r1i2r5i2r12i3r4i2 h0 m_thrown a_tape m_taped m_size m_at m_end m_token m_whole m_nameSize m_fault m_place m_trouble a_letters m_failed m_hasHouse a_r a_fresh a_st a_undone a_kept m_undos m_images a_from a_begin a_motor a_change a_startFrame a_changeFrame a_lostAt a_blackAt a_slips a_leftArc a_died a_arcs m_bestSum m_nearest m_nearestTown a_there a_backAt a_sorted a_parts m_seed1 m_darkNow), (cAI g a_r 311 d_r), (cAI g a_st 44 d_st)]) := by
  refine cI.of (by decide) (Nat.le_of_ble_eq_true rfl) ?_
  intro p e s m args below meth c A X hr hi
  refine k_lveq [(0, .ref h0), (1, .int p0)] rfl ?_
  refine k_iconst (v := 0) X dX11_weaksOf_0 (by decide) ?_
  refine k_istore_n [(2, .int 0), (0, .ref h0), (1, .int p0)] X dX11_weaksOf_1 (by decide) rfl ?_
  refine k_iconst (v := 0) X dX11_weaksOf_2 (by decide) ?_
  refine k_istore_n [(3, .int 0), (2, .int 0), (0, .ref h0), (1, .int p0)] X dX11_weaksOf_3 (by decide) rfl ?_
  refine (fun hL : ∀ (nn_4 : Nat) (u_1 : Int32) (u_2 : Int32), (2147483647 - u_2.toInt).toNat = nn_4 → (IV u_2 0 8) → Wk p l e _ s m args below meth c _ A g _ _ _ [(cO11_i1r1i10r1i2r5i2r12i3r4i2 h0 m_thrown a_tape m_taped m_size m_at m_end m_token m_whole m_nameSize m_fault m_place m_trouble a_letters m_failed m_hasHouse a_r a_fresh a_st a_undone a_kept m_undos m_images a_from a_begin a_motor a_change a_startFrame a_changeFrame a_lostAt a_blackAt a_slips a_leftArc a_died a_arcs m_bestSum m_nearest m_nearestTown a_there a_backAt a_sorted a_parts m_seed1 m_darkNow), (cAI g a_r 311 d_r), (cAI g a_st 44 d_st)] [(3, .int u_2), (2, .int u_1), (0, .ref h0), (1, .int p0)] 4 [] => hL _ 0 0 rfl (iv_w (show IV 0 0 0 from (by decide)) (by decide) (by decide))) ?_
  refine fun nn_4 => Nat.strongRecOn nn_4 (fun nn_4 ih_6 => ?_)
  intro u_1 u_2 hm_5 hv_3
  refine k_iload_n X dX11_weaksOf_4 0 rfl ?_
  refine k_aload_n X dX11_weaksOf_5 2 rfl ?_
  refine k_get (ci := 11) X inlX11 rfl 15 (by decide) dX11_weaksOf_6 mw170 0 rfl rfl ?_
  refine k_bipush (v := 10) X dX11_weaksOf_9 (by decide) ?_
  refine k_iald X dX11_weaksOf_11 1 rfl (by unfold vp_in; decide) ?_
  refine k_nm (fun z_7 ez_7 => ?_)
  have i_8 : z_7.toInt = (d_r 10).toInt := by rw [ez_7]; rfl
  have iv_9 : IV z_7 0 6 := rb_10 ez_7 hp_d_r
  refine k_ic_ge 52 X dX11_weaksOf_12 (by decide) (fun h_10 => ?_) (fun h_10 => ?_)
  · skip
    have j_11 : z_7.toInt ≤ u_2.toInt := iv_le h_10
    refine k_iload_n X dX11_weaksOf_52 1 rfl ?_
    exact k_iret X hr dX11_weaksOf_53 (Nat.le_of_ble_eq_true rfl) (Nat.le_of_ble_eq_true rfl) [0, 1, 2] (by decide) rfl rfl rfl
  · skip
    have j_12 : u_2.toInt < z_7.toInt := iv_nle h_10
    have iv_13 : IV u_2 0 5 := iv_ltL (iv_nle h_10) hv_3 iv_9 (by decide)
    have iv_14 : IV z_7 1 6 := iv_ltR (iv_nle h_10) hv_3 iv_9 (by decide)
    refine k_iload_n X dX11_weaksOf_15 1 rfl ?_
    refine k_aload_n X dX11_weaksOf_16 2 rfl ?_
    refine k_iload_n X dX11_weaksOf_17 0 rfl ?_
    refine k_callVI (n := 1) (As := [.int u_2]) (st := [.int u_1]) X [(cO11_i1r1i10r1i2r5i2r12i3r4i2 h0 m_thrown a_tape m_taped m_size m_at m_end m_token m_whole m_nameSize m_fault m_place m_trouble a_letters m_failed m_hasHouse a_r a_fresh a_st a_undone a_kept m_undos m_images a_from a_begin a_motor a_change a_startFrame a_changeFrame a_lostAt a_blackAt a_slips a_leftArc a_died a_arcs m_bestSum m_nearest m_nearestTown a_there a_backAt a_sorted a_parts m_seed1 m_darkNow), (cAI g a_st 44 d_st)] [(cAI g a_r 311 d_r)] [0, 2] [1] (m_isMended l g h0 u_2 m_thrown a_tape m_taped m_size m_at m_end m_token m_whole m_nameSize m_fault m_place m_trouble a_letters m_failed m_hasHouse a_r a_fresh a_st a_undone a_kept m_undos m_images a_from a_begin a_motor a_change a_startFrame a_changeFrame a_lostAt a_blackAt a_slips a_leftArc a_died a_arcs m_bestSum m_nearest m_nearestTown a_there a_backAt a_sorted a_parts m_seed1 m_darkNow d_st) dX11_weaksOf_18 mw682 mw683 mw684 mw5 mw685 rfl 11 rfl rfl 0 _ rfl yk_yX11_isMended_1 rfl (Nat.le_of_ble_eq_true rfl) (Nat.le_of_ble_eq_true rfl) (Nat.le_of_ble_eq_true rfl) (Nat.le_of_ble_eq_true rfl) (Nat.le_of_ble_eq_true rfl) rfl rfl (by decide) rfl (by decide) (by decide) ?_
    rintro r_15 w ⟨iv_16, rfl⟩
    refine k_ws [(cAI g a_r 311 d_r), (cO11_i1r1i10r1i2r5i2r12i3r4i2 h0 m_thrown a_tape m_taped m_size m_at m_end m_token m_whole m_nameSize m_fault m_place m_trouble a_letters m_failed m_hasHouse a_r a_fresh a_st a_undone a_kept m_undos m_images a_from a_begin a_motor a_change a_startFrame a_changeFrame a_lostAt a_blackAt a_slips a_leftArc a_died a_arcs m_bestSum m_nearest m_nearestTown a_there a_backAt a_sorted a_parts m_seed1 m_darkNow), (cAI g a_st 44 d_st)] rfl ?_
    refine k_if_ne 43 X dX11_weaksOf_21 (by decide) (fun h_17 => ?_) (fun h_17 => ?_)
    · skip
      have iv_18 : IV r_15 1 1 := iv_neL h_17 iv_16 (show IV 0 0 0 from (by decide)) (by decide)
      refine k_iconst (v := 0) X dX11_weaksOf_43 (by decide) ?_
      refine k_iadd X dX11_weaksOf_44 ?_
      refine k_nm (fun z_19 ez_19 => ?_)
      have i_20 : z_19.toInt = u_1.toInt + 0 := in_add ez_19 (iv_any u_1) (show IV 0 0 0 from (by decide)) (by decide) (by decide)
      have iv_21 : IV z_19 (-2147483648) 2147483647 := by have := (iv_any u_1); have := (show IV 0 0 0 from (by decide)); rw [IV, i_20]; omega
      refine k_istore_n [(2, .int z_19), (3, .int u_2), (0, .ref h0), (1, .int p0)] X dX11_weaksOf_45 (by decide) rfl ?_
      obtain ⟨z_22, ez_22⟩ : ∃ y : Int32, u_2 + Int32.ofInt 1 = y := ⟨_, rfl⟩
      refine k_iinc z_22 [(3, .int z_22), (2, .int z_19), (0, .ref h0), (1, .int p0)] 1 X dX11_weaksOf_46 rfl ez_22 (by decide) rfl ?_
      have i_23 : z_22.toInt = u_2.toInt + 1 := in_inc ez_22 (by decide) iv_13 (by decide) (by decide)
      have iv_24 : IV z_22 1 6 := iz1 i_23 iv_13 (by decide) (by decide)
      refine k_goto 4 X dX11_weaksOf_49 (by decide) ?_
      refine k_sub [(cO11_i1r1i10r1i2r5i2r12i3r4i2 h0 m_thrown a_tape m_taped m_size m_at m_end m_token m_whole m_nameSize m_fault m_place m_trouble a_letters m_failed m_hasHouse a_r a_fresh a_st a_undone a_kept m_undos m_images a_from a_begin a_motor a_change a_startFrame a_changeFrame a_lostAt a_blackAt a_slips a_leftArc a_died a_arcs m_bestSum m_nearest m_nearestTown a_there a_backAt a_sorted a_parts m_seed1 m_darkNow), (cAI g a_r 311 d_r), (cAI g a_st 44 d_st)] [1, 0, 2] rfl (by decide) rfl ?_
      exact ih_6 _ (by omega) z_19 z_22 rfl (iv_w iv_24 (by decide) (by decide))
    · skip
      have iv_25 : IV r_15 0 0 := iv_meet iv_16 (iv_e h_17 (show IV 0 0 0 from (by decide))) (by decide) (by decide)
      refine k_aload_n X dX11_weaksOf_24 2 rfl ?_
      refine k_get (ci := 11) X inlX11 rfl 15 (by decide) dX11_weaksOf_25 mw170 1 rfl rfl ?_
      refine k_bipush (v := 96) X dX11_weaksOf_28 (by decide) ?_
      refine k_iconst (v := 3) X dX11_weaksOf_30 (by decide) ?_
      refine k_iload_n X dX11_weaksOf_31 0 rfl ?_
      refine k_imul X dX11_weaksOf_32 ?_
      refine k_nm (fun z_26 ez_26 => ?_)
      have i_27 : z_26.toInt = 3 * u_2.toInt := in_mul ez_26 (by decide) (by decide) iv_13 (by decide) (by decide)
      have iv_28 : IV z_26 0 15 := iz4 i_27 iv_13 (by decide) (by decide) (by decide)
      refine k_iadd X dX11_weaksOf_33 ?_
      refine k_nm (fun z_29 ez_29 => ?_)
      have i_30 : z_29.toInt = 96 + z_26.toInt := in_add ez_29 (show IV 96 96 96 from (by decide)) iv_28 (by decide) (by decide)
      have iv_31 : IV z_29 96 111 := iz2 i_30 iv_28 (by decide) (by decide)
      refine k_iald X dX11_weaksOf_34 0 rfl (iv_in iv_31 (by decide) (by decide)) ?_
      refine k_nm (fun z_32 ez_32 => ?_)
      have i_33 : z_29.toInt = 96 + 3 * u_2.toInt := by omega
      have iv_34 : IV z_32 0 7 := rb_96_3 ez_32 hp_d_r i_33 (iv_w iv_13 (by decide) (by decide))
      refine k_iload_n X dX11_weaksOf_35 3 rfl ?_
      refine k_ic_ne 43 X dX11_weaksOf_36 (by decide) (fun h_35 => ?_) (fun h_35 => ?_)
      · skip
        refine k_iconst (v := 0) X dX11_weaksOf_43 (by decide) ?_
        refine k_iadd X dX11_weaksOf_44 ?_
        refine k_nm (fun z_36 ez_36 => ?_)
        have i_37 : z_36.toInt = u_1.toInt + 0 := in_add ez_36 (iv_any u_1) (show IV 0 0 0 from (by decide)) (by decide) (by decide)
        have iv_38 : IV z_36 (-2147483648) 2147483647 := by have := (iv_any u_1); have := (show IV 0 0 0 from (by decide)); rw [IV, i_37]; omega
        refine k_istore_n [(2, .int z_36), (3, .int u_2), (0, .ref h0), (1, .int p0)] X dX11_weaksOf_45 (by decide) rfl ?_
        obtain ⟨z_39, ez_39⟩ : ∃ y : Int32, u_2 + Int32.ofInt 1 = y := ⟨_, rfl⟩
        refine k_iinc z_39 [(3, .int z_39), (2, .int z_36), (0, .ref h0), (1, .int p0)] 1 X dX11_weaksOf_46 rfl ez_39 (by decide) rfl ?_
        have i_40 : z_39.toInt = u_2.toInt + 1 := in_inc ez_39 (by decide) iv_13 (by decide) (by decide)
        have iv_41 : IV z_39 1 6 := iz1 i_40 iv_13 (by decide) (by decide)
        refine k_goto 4 X dX11_weaksOf_49 (by decide) ?_
        refine k_sub [(cO11_i1r1i10r1i2r5i2r12i3r4i2 h0 m_thrown a_tape m_taped m_size m_at m_end m_token m_whole m_nameSize m_fault m_place m_trouble a_letters m_failed m_hasHouse a_r a_fresh a_st a_undone a_kept m_undos m_images a_from a_begin a_motor a_change a_startFrame a_changeFrame a_lostAt a_blackAt a_slips a_leftArc a_died a_arcs m_bestSum m_nearest m_nearestTown a_there a_backAt a_sorted a_parts m_seed1 m_darkNow), (cAI g a_r 311 d_r), (cAI g a_st 44 d_st)] [1, 0, 2] rfl (by decide) rfl ?_
        exact ih_6 _ (by omega) z_36 z_39 rfl (iv_w iv_41 (by decide) (by decide))
      · skip
        have iv_42 : IV p0 0 7 := iv_meet (iv_any p0) (iv_e h_35.symm iv_34) (by decide) (by decide)
        refine k_iconst (v := 1) X dX11_weaksOf_39 (by decide) ?_
        refine k_goto 44 X dX11_weaksOf_40 (by decide) ?_
        refine k_iadd X dX11_weaksOf_44 ?_
        refine k_nm (fun z_43 ez_43 => ?_)
        refine k_istore_n [(2, .int z_43), (3, .int u_2), (0, .ref h0), (1, .int p0)] X dX11_weaksOf_45 (by decide) rfl ?_
        obtain ⟨z_45, ez_45⟩ : ∃ y : Int32, u_2 + Int32.ofInt 1 = y := ⟨_, rfl⟩
        refine k_iinc z_45 [(3, .int z_45), (2, .int z_43), (0, .ref h0), (1, .int p0)] 1 X dX11_weaksOf_46 rfl ez_45 (by decide) rfl ?_
        have i_46 : z_45.toInt = u_2.toInt + 1 := in_inc ez_45 (by decide) iv_13 (by decide) (by decide)
        have iv_47 : IV z_45 1 6 := iz1 i_46 iv_13 (by decide) (by decide)
        refine k_goto 4 X dX11_weaksOf_49 (by decide) ?_
        refine k_sub [(cO11_i1r1i10r1i2r5i2r12i3r4i2 h0 m_thrown a_tape m_taped m_size m_at m_end m_token m_whole m_nameSize m_fault m_place m_trouble a_letters m_failed m_hasHouse a_r a_fresh a_st a_undone a_kept m_undos m_images a_from a_begin a_motor a_change a_startFrame a_changeFrame a_lostAt a_blackAt a_slips a_leftArc a_died a_arcs m_bestSum m_nearest m_nearestTown a_there a_backAt a_sorted a_parts m_seed1 m_darkNow), (cAI g a_r 311 d_r), (cAI g a_st 44 d_st)] [1, 0, 2] rfl (by decide) rfl ?_
        exact ih_6 _ (by omega) z_43 z_45 rfl (iv_w iv_47 (by decide) (by decide))

theorem dX11_markOf_0 : decode cX11_markOf 0 = .ok (.iconst 0, 1) := dk_3 rfl
theorem dX11_markOf_1 : decode cX11_markOf 1 = .ok (.istore_n 3, 1) := dk_62 rfl
theorem dX11_markOf_2 : decode cX11_markOf 2 = .ok (.iload_n 3, 1) := dk_29 rfl
theorem dX11_markOf_3 : decode cX11_markOf 3 = .ok (.aload_n 0, 1) := dk_42 rfl
theorem dX11_markOf_4 : decode cX11_markOf 4 = .ok (.getfield 20, 3) := dk_180 rfl rfl rfl rfl
theorem dX11_markOf_7 : decode cX11_markOf 7 = .ok (.bipush 8, 2) := dk_16 rfl rfl (by decide)
theorem dX11_markOf_9 : decode cX11_markOf 9 = .ok (.iaload, 1) := dk_46 rfl
theorem dX11_markOf_10 : decode cX11_markOf 10 = .ok (.if_icmp .ge 51, 3) := dk_162 rfl rfl rfl (by decide)
theorem dX11_markOf_13 : decode cX11_markOf 13 = .ok (.aload_n 0, 1) := dk_42 rfl
theorem dX11_markOf_14 : decode cX11_markOf 14 = .ok (.getfield 20, 3) := dk_180 rfl rfl rfl rfl
theorem dX11_markOf_17 : decode cX11_markOf 17 = .ok (.bipush 44, 2) := dk_16 rfl rfl (by decide)
theorem dX11_markOf_19 : decode cX11_markOf 19 = .ok (.iconst 3, 1) := dk_6 rfl
theorem dX11_markOf_20 : decode cX11_markOf 20 = .ok (.iload_n 3, 1) := dk_29 rfl
theorem dX11_markOf_21 : decode cX11_markOf 21 = .ok (.imul, 1) := dk_104 rfl
theorem dX11_markOf_22 : decode cX11_markOf 22 = .ok (.iadd, 1) := dk_96 rfl
theorem dX11_markOf_23 : decode cX11_markOf 23 = .ok (.iaload, 1) := dk_46 rfl
theorem dX11_markOf_24 : decode cX11_markOf 24 = .ok (.iload_n 1, 1) := dk_27 rfl
theorem dX11_markOf_25 : decode cX11_markOf 25 = .ok (.if_icmp .ne 30, 3) := dk_160 rfl rfl rfl (by decide)
theorem dX11_markOf_28 : decode cX11_markOf 28 = .ok (.aload_n 0, 1) := dk_42 rfl
theorem dX11_markOf_29 : decode cX11_markOf 29 = .ok (.getfield 20, 3) := dk_180 rfl rfl rfl rfl
theorem dX11_markOf_32 : decode cX11_markOf 32 = .ok (.bipush 44, 2) := dk_16 rfl rfl (by decide)
theorem dX11_markOf_34 : decode cX11_markOf 34 = .ok (.iconst 3, 1) := dk_6 rfl
theorem dX11_markOf_35 : decode cX11_markOf 35 = .ok (.iload_n 3, 1) := dk_29 rfl
theorem dX11_markOf_36 : decode cX11_markOf 36 = .ok (.imul, 1) := dk_104 rfl
theorem dX11_markOf_37 : decode cX11_markOf 37 = .ok (.iadd, 1) := dk_96 rfl
theorem dX11_markOf_38 : decode cX11_markOf 38 = .ok (.iconst 2, 1) := dk_5 rfl
theorem dX11_markOf_39 : decode cX11_markOf 39 = .ok (.iadd, 1) := dk_96 rfl
theorem dX11_markOf_40 : decode cX11_markOf 40 = .ok (.iaload, 1) := dk_46 rfl
theorem dX11_markOf_41 : decode cX11_markOf 41 = .ok (.iload_n 2, 1) := dk_28 rfl
theorem dX11_markOf_42 : decode cX11_markOf 42 = .ok (.if_icmp .ne 13, 3) := dk_160 rfl rfl rfl (by decide)
theorem dX11_markOf_45 : decode cX11_markOf 45 = .ok (.aload_n 0, 1) := dk_42 rfl
theorem dX11_markOf_46 : decode cX11_markOf 46 = .ok (.getfield 26, 3) := dk_180 rfl rfl rfl rfl
theorem dX11_markOf_49 : decode cX11_markOf 49 = .ok (.bipush 16, 2) := dk_16 rfl rfl (by decide)
theorem dX11_markOf_51 : decode cX11_markOf 51 = .ok (.iload_n 3, 1) := dk_29 rfl
theorem dX11_markOf_52 : decode cX11_markOf 52 = .ok (.iadd, 1) := dk_96 rfl
theorem dX11_markOf_53 : decode cX11_markOf 53 = .ok (.iaload, 1) := dk_46 rfl
theorem dX11_markOf_54 : decode cX11_markOf 54 = .ok (.ireturn, 1) := dk_172 rfl
theorem dX11_markOf_55 : decode cX11_markOf 55 = .ok (.iinc 3 1, 3) := dk_132 rfl rfl rfl rfl (by decide)
theorem dX11_markOf_58 : decode cX11_markOf 58 = .ok (.goto (-56), 3) := dk_167 rfl rfl rfl (by decide)
theorem dX11_markOf_61 : decode cX11_markOf 61 = .ok (.bipush (-2), 2) := dk_16 rfl rfl (by decide)
theorem dX11_markOf_63 : decode cX11_markOf 63 = .ok (.ireturn, 1) := dk_172 rfl
set_option maxHeartbeats 4000000 in
set_option maxRecDepth 100000 in
theorem m_markOf (l : Launch) (g : Gx) (h0 : Nat) (p0 : Int32) (p1 : Int32) (m_thrown : Int32) (a_tape : Nat) (m_taped : Int32) (m_size : Int32) (m_at : Int32) (m_end : Int32) (m_token : Int32) (m_whole : Int32) (m_nameSize : Int32) (m_fault : Int32) (m_place : Int32) (m_trouble : Int32) (a_letters : Nat) (m_failed : Int32) (m_hasHouse : Int32) (a_r : Nat) (a_fresh : Nat) (a_st : Nat) (a_undone : Nat) (a_kept : Nat) (m_undos : Int32) (m_images : Int32) (a_from : Nat) (a_begin : Nat) (a_motor : Nat) (a_change : Nat) (a_startFrame : Nat) (a_changeFrame : Nat) (a_lostAt : Nat) (a_blackAt : Nat) (a_slips : Nat) (a_leftArc : Nat) (a_died : Nat) (a_arcs : Nat) (m_bestSum : Int32) (m_nearest : Int32) (m_nearestTown : Int32) (a_there : Nat) (a_backAt : Nat) (a_sorted : Nat) (a_parts : Nat) (m_seed1 : Int32) (m_darkNow : Int32) (d_r : Nat → Int32) (d_st : Nat → Int32) (hp_d_r : RInv d_r) : cI l g yX11_markOf cX11_markOf 4 (some .int) 0 0 0 0 [.ref h0, .int p0, .int p1] [(cO11_i1r1i10r1i2r5i2r12i3r4i2 h0 m_thrown a_tape m_taped m_size m_at m_end m_token m_whole m_nameSize m_fault m_place m_trouble a_letters m_failed m_hasHouse a_r a_fresh a_st a_undone a_kept m_undos m_images a_from a_begin a_motor a_change a_startFrame a_changeFrame a_lostAt a_blackAt a_slips a_leftArc a_died a_arcs m_bestSum m_nearest m_nearestTown a_there a_backAt a_sorted a_parts m_seed1 m_darkNow), (cAI g a_r 311 d_r), (cAI g a_st 44 d_st)] (fun r w => w = [(cO11_i1r1i10r1i2r5i2r12i3r4i2 h0 m_thrown a_tape m_taped m_size m_at m_end m_token m_whole m_nameSize m_fault m_place m_trouble a_letters m_failed m_hasHouse a_r a_fresh a_st a_undone a_kept m_undos m_images a_from a_begin a_motor a_change a_startFrame a_changeFrame a_lostAt a_blackAt a_slips a_leftArc a_died a_arcs m_bestSum m_nearest m_nearestTown a_there a_backAt a_sorted a_parts m_seed1 m_darkNow), (cAI g a_r 311 d_r), (cAI g a_st 44 d_st)]) := by
  refine cI.of (by decide) (Nat.le_of_ble_eq_true rfl) ?_
  intro p e s m args below meth c A X hr hi
  refine k_lveq [(0, .ref h0), (1, .int p0), (2, .int p1)] rfl ?_
  refine k_iconst (v := 0) X dX11_markOf_0 (by decide) ?_
  refine k_istore_n [(3, .int 0), (0, .ref h0), (1, .int p0), (2, .int p1)] X dX11_markOf_1 (by decide) rfl ?_
  refine (fun hL : ∀ (nn_3 : Nat) (u_1 : Int32), (2147483647 - u_1.toInt).toNat = nn_3 → (IV u_1 0 255) → Wk p l e _ s m args below meth c _ A g _ _ _ [(cO11_i1r1i10r1i2r5i2r12i3r4i2 h0 m_thrown a_tape m_taped m_size m_at m_end m_token m_whole m_nameSize m_fault m_place m_trouble a_letters m_failed m_hasHouse a_r a_fresh a_st a_undone a_kept m_undos m_images a_from a_begin a_motor a_change a_startFrame a_changeFrame a_lostAt a_blackAt a_slips a_leftArc a_died a_arcs m_bestSum m_nearest m_nearestTown a_there a_backAt a_sorted a_parts m_seed1 m_darkNow), (cAI g a_r 311 d_r), (cAI g a_st 44 d_st)] [(3, .int u_1), (0, .ref h0), (1, .int p0), (2, .int p1)] 2 [] => hL _ 0 rfl (iv_w (show IV 0 0 0 from (by decide)) (by decide) (by decide))) ?_
  refine fun nn_3 => Nat.strongRecOn nn_3 (fun nn_3 ih_5 => ?_)
  intro u_1 hm_4 hv_2
  refine k_iload_n X dX11_markOf_2 0 rfl ?_
  refine k_aload_n X dX11_markOf_3 1 rfl ?_
  refine k_get (ci := 11) X inlX11 rfl 15 (by decide) dX11_markOf_4 mw170 0 rfl rfl ?_
  refine k_bipush (v := 8) X dX11_markOf_7 (by decide) ?_
  refine k_iald X dX11_markOf_9 1 rfl (by unfold vp_in; decide) ?_
  refine k_nm (fun z_6 ez_6 => ?_)
  have i_7 : z_6.toInt = (d_r 8).toInt := by rw [ez_6]; rfl
  have iv_8 : IV z_6 0 12 := rb_8 ez_6 hp_d_r
  refine k_ic_ge 61 X dX11_markOf_10 (by decide) (fun h_9 => ?_) (fun h_9 => ?_)
  · skip
    have j_10 : z_6.toInt ≤ u_1.toInt := iv_le h_9
    refine k_bipush (v := -2) X dX11_markOf_61 (by decide) ?_
    exact k_iret X hr dX11_markOf_63 (Nat.le_of_ble_eq_true rfl) (Nat.le_of_ble_eq_true rfl) [0, 1, 2] (by decide) rfl rfl rfl
  · skip
    have j_11 : u_1.toInt < z_6.toInt := iv_nle h_9
    have iv_12 : IV u_1 0 11 := iv_ltL (iv_nle h_9) hv_2 iv_8 (by decide)
    have iv_13 : IV z_6 1 12 := iv_ltR (iv_nle h_9) hv_2 iv_8 (by decide)
    refine k_aload_n X dX11_markOf_13 1 rfl ?_
    refine k_get (ci := 11) X inlX11 rfl 15 (by decide) dX11_markOf_14 mw170 0 rfl rfl ?_
    refine k_bipush (v := 44) X dX11_markOf_17 (by decide) ?_
    refine k_iconst (v := 3) X dX11_markOf_19 (by decide) ?_
    refine k_iload_n X dX11_markOf_20 0 rfl ?_
    refine k_imul X dX11_markOf_21 ?_
    refine k_nm (fun z_14 ez_14 => ?_)
    have i_15 : z_14.toInt = 3 * u_1.toInt := in_mul ez_14 (by decide) (by decide) iv_12 (by decide) (by decide)
    have iv_16 : IV z_14 0 33 := iz4 i_15 iv_12 (by decide) (by decide) (by decide)
    refine k_iadd X dX11_markOf_22 ?_
    refine k_nm (fun z_17 ez_17 => ?_)
    have i_18 : z_17.toInt = 44 + z_14.toInt := in_add ez_17 (show IV 44 44 44 from (by decide)) iv_16 (by decide) (by decide)
    have iv_19 : IV z_17 44 77 := iz2 i_18 iv_16 (by decide) (by decide)
    refine k_iald X dX11_markOf_23 1 rfl (iv_in iv_19 (by decide) (by decide)) ?_
    refine k_nm (fun z_20 ez_20 => ?_)
    have i_21 : z_17.toInt = 44 + 3 * u_1.toInt := by omega
    have iv_22 : IV z_20 0 7 := rb_44_3 ez_20 hp_d_r i_21 (iv_w iv_12 (by decide) (by decide))
    refine k_iload_n X dX11_markOf_24 2 rfl ?_
    refine k_ic_ne 55 X dX11_markOf_25 (by decide) (fun h_23 => ?_) (fun h_23 => ?_)
    · skip
      obtain ⟨z_24, ez_24⟩ : ∃ y : Int32, u_1 + Int32.ofInt 1 = y := ⟨_, rfl⟩
      refine k_iinc z_24 [(3, .int z_24), (0, .ref h0), (1, .int p0), (2, .int p1)] 0 X dX11_markOf_55 rfl ez_24 (by decide) rfl ?_
      have i_25 : z_24.toInt = u_1.toInt + 1 := in_inc ez_24 (by decide) iv_12 (by decide) (by decide)
      have iv_26 : IV z_24 1 12 := iz1 i_25 iv_12 (by decide) (by decide)
      refine k_goto 2 X dX11_markOf_58 (by decide) ?_
      exact ih_5 _ (by omega) z_24 rfl (iv_w iv_26 (by decide) (by decide))
    · skip
      have iv_27 : IV p0 0 7 := iv_meet (iv_any p0) (iv_e h_23.symm iv_22) (by decide) (by decide)
      refine k_aload_n X dX11_markOf_28 1 rfl ?_
      refine k_get (ci := 11) X inlX11 rfl 15 (by decide) dX11_markOf_29 mw170 0 rfl rfl ?_
      refine k_bipush (v := 44) X dX11_markOf_32 (by decide) ?_
      refine k_iconst (v := 3) X dX11_markOf_34 (by decide) ?_
      refine k_iload_n X dX11_markOf_35 0 rfl ?_
      refine k_imul X dX11_markOf_36 ?_
      refine k_to z_14 ez_14.symm ?_
      refine k_iadd X dX11_markOf_37 ?_
      refine k_to z_17 ez_17.symm ?_
      refine k_iconst (v := 2) X dX11_markOf_38 (by decide) ?_
      refine k_iadd X dX11_markOf_39 ?_
      refine k_nm (fun z_28 ez_28 => ?_)
      have i_29 : z_28.toInt = z_17.toInt + 2 := in_add ez_28 iv_19 (show IV 2 2 2 from (by decide)) (by decide) (by decide)
      have iv_30 : IV z_28 46 79 := iz1 i_29 iv_19 (by decide) (by decide)
      refine k_iald X dX11_markOf_40 1 rfl (iv_in iv_30 (by decide) (by decide)) ?_
      refine k_nm (fun z_31 ez_31 => ?_)
      have i_32 : z_28.toInt = 46 + 3 * u_1.toInt := by omega
      have iv_33 : IV z_31 0 3 := rb_46_3 ez_31 hp_d_r i_32 (iv_w iv_12 (by decide) (by decide))
      refine k_iload_n X dX11_markOf_41 3 rfl ?_
      refine k_ic_ne 55 X dX11_markOf_42 (by decide) (fun h_34 => ?_) (fun h_34 => ?_)
      · skip
        obtain ⟨z_35, ez_35⟩ : ∃ y : Int32, u_1 + Int32.ofInt 1 = y := ⟨_, rfl⟩
        refine k_iinc z_35 [(3, .int z_35), (0, .ref h0), (1, .int p0), (2, .int p1)] 0 X dX11_markOf_55 rfl ez_35 (by decide) rfl ?_
        have i_36 : z_35.toInt = u_1.toInt + 1 := in_inc ez_35 (by decide) iv_12 (by decide) (by decide)
        have iv_37 : IV z_35 1 12 := iz1 i_36 iv_12 (by decide) (by decide)
        refine k_goto 2 X dX11_markOf_58 (by decide) ?_
        exact ih_5 _ (by omega) z_35 rfl (iv_w iv_37 (by decide) (by decide))
      · skip
        have iv_38 : IV p1 0 3 := iv_meet (iv_any p1) (iv_e h_34.symm iv_33) (by decide) (by decide)
        refine k_aload_n X dX11_markOf_45 1 rfl ?_
        refine k_get (ci := 11) X inlX11 rfl 17 (by decide) dX11_markOf_46 mw172 0 rfl rfl ?_
        refine k_bipush (v := 16) X dX11_markOf_49 (by decide) ?_
        refine k_iload_n X dX11_markOf_51 0 rfl ?_
        refine k_iadd X dX11_markOf_52 ?_
        refine k_nm (fun z_39 ez_39 => ?_)
        have i_40 : z_39.toInt = 16 + u_1.toInt := in_add ez_39 (show IV 16 16 16 from (by decide)) iv_12 (by decide) (by decide)
        have iv_41 : IV z_39 16 27 := iz2 i_40 iv_12 (by decide) (by decide)
        refine k_iald X dX11_markOf_53 2 rfl (iv_in iv_41 (by decide) (by decide)) ?_
        refine k_nm (fun z_42 ez_42 => ?_)
        exact k_iret X hr dX11_markOf_54 (Nat.le_of_ble_eq_true rfl) (Nat.le_of_ble_eq_true rfl) [0, 1, 2] (by decide) rfl rfl rfl

theorem dX11_reel_0 : decode cX11_reel 0 = .ok (.aload_n 0, 1) := dk_42 rfl
theorem dX11_reel_1 : decode cX11_reel 1 = .ok (.invokevirtual 200, 3) := dk_182 rfl rfl rfl rfl
theorem dX11_reel_4 : decode cX11_reel 4 = .ok (.aload_n 0, 1) := dk_42 rfl
theorem dX11_reel_5 : decode cX11_reel 5 = .ok (.iload_n 1, 1) := dk_27 rfl
theorem dX11_reel_6 : decode cX11_reel 6 = .ok (.invokevirtual 327, 3) := dk_182 rfl rfl rfl rfl
theorem dX11_reel_9 : decode cX11_reel 9 = .ok (.ifCond .eq 12, 3) := dk_153 rfl rfl rfl (by decide)
theorem dX11_reel_12 : decode cX11_reel 12 = .ok (.iload_n 2, 1) := dk_28 rfl
theorem dX11_reel_13 : decode cX11_reel 13 = .ok (.iconst 0, 1) := dk_3 rfl
theorem dX11_reel_14 : decode cX11_reel 14 = .ok (.iconst 5, 1) := dk_8 rfl
theorem dX11_reel_15 : decode cX11_reel 15 = .ok (.invokestatic 182, 3) := dk_184 rfl rfl rfl rfl
theorem dX11_reel_18 : decode cX11_reel 18 = .ok (.ifCond .ne 9, 3) := dk_154 rfl rfl rfl (by decide)
theorem dX11_reel_21 : decode cX11_reel 21 = .ok (.aload_n 0, 1) := dk_42 rfl
theorem dX11_reel_22 : decode cX11_reel 22 = .ok (.iconst 1, 1) := dk_4 rfl
theorem dX11_reel_23 : decode cX11_reel 23 = .ok (.invokevirtual 203, 3) := dk_182 rfl rfl rfl rfl
theorem dX11_reel_26 : decode cX11_reel 26 = .ok (.ireturn, 1) := dk_172 rfl
theorem dX11_reel_27 : decode cX11_reel 27 = .ok (.iload_n 2, 1) := dk_28 rfl
theorem dX11_reel_28 : decode cX11_reel 28 = .ok (.tableswitch 81 0 4 #[36, 45, 55, 69, 75], 36) := by decide +kernel
theorem dX11_reel_64 : decode cX11_reel 64 = .ok (.aload_n 0, 1) := dk_42 rfl
theorem dX11_reel_65 : decode cX11_reel 65 = .ok (.getfield 26, 3) := dk_180 rfl rfl rfl rfl
theorem dX11_reel_68 : decode cX11_reel 68 = .ok (.iconst 0, 1) := dk_3 rfl
theorem dX11_reel_69 : decode cX11_reel 69 = .ok (.iload_n 1, 1) := dk_27 rfl
theorem dX11_reel_70 : decode cX11_reel 70 = .ok (.iadd, 1) := dk_96 rfl
theorem dX11_reel_71 : decode cX11_reel 71 = .ok (.iaload, 1) := dk_46 rfl
theorem dX11_reel_72 : decode cX11_reel 72 = .ok (.ireturn, 1) := dk_172 rfl
theorem dX11_reel_73 : decode cX11_reel 73 = .ok (.aload_n 0, 1) := dk_42 rfl
theorem dX11_reel_74 : decode cX11_reel 74 = .ok (.getfield 26, 3) := dk_180 rfl rfl rfl rfl
theorem dX11_reel_77 : decode cX11_reel 77 = .ok (.bipush 8, 2) := dk_16 rfl rfl (by decide)
theorem dX11_reel_79 : decode cX11_reel 79 = .ok (.iload_n 1, 1) := dk_27 rfl
theorem dX11_reel_80 : decode cX11_reel 80 = .ok (.iadd, 1) := dk_96 rfl
theorem dX11_reel_81 : decode cX11_reel 81 = .ok (.iaload, 1) := dk_46 rfl
theorem dX11_reel_82 : decode cX11_reel 82 = .ok (.ireturn, 1) := dk_172 rfl
theorem dX11_reel_83 : decode cX11_reel 83 = .ok (.aload_n 0, 1) := dk_42 rfl
theorem dX11_reel_84 : decode cX11_reel 84 = .ok (.getfield 20, 3) := dk_180 rfl rfl rfl rfl
theorem dX11_reel_87 : decode cX11_reel 87 = .ok (.bipush 16, 2) := dk_16 rfl rfl (by decide)
theorem dX11_reel_89 : decode cX11_reel 89 = .ok (.iconst 3, 1) := dk_6 rfl
theorem dX11_reel_90 : decode cX11_reel 90 = .ok (.iload_n 1, 1) := dk_27 rfl
theorem dX11_reel_91 : decode cX11_reel 91 = .ok (.imul, 1) := dk_104 rfl
theorem dX11_reel_92 : decode cX11_reel 92 = .ok (.iadd, 1) := dk_96 rfl
theorem dX11_reel_93 : decode cX11_reel 93 = .ok (.iconst 2, 1) := dk_5 rfl
theorem dX11_reel_94 : decode cX11_reel 94 = .ok (.iadd, 1) := dk_96 rfl
theorem dX11_reel_95 : decode cX11_reel 95 = .ok (.iaload, 1) := dk_46 rfl
theorem dX11_reel_96 : decode cX11_reel 96 = .ok (.ireturn, 1) := dk_172 rfl
theorem dX11_reel_97 : decode cX11_reel 97 = .ok (.aload_n 0, 1) := by decide +kernel
theorem dX11_reel_98 : decode cX11_reel 98 = .ok (.iload_n 1, 1) := by decide +kernel
theorem dX11_reel_99 : decode cX11_reel 99 = .ok (.invokevirtual 330, 3) := by decide +kernel
theorem dX11_reel_102 : decode cX11_reel 102 = .ok (.ireturn, 1) := by decide +kernel
theorem dX11_reel_103 : decode cX11_reel 103 = .ok (.aload_n 0, 1) := by decide +kernel
theorem dX11_reel_104 : decode cX11_reel 104 = .ok (.iload_n 1, 1) := by decide +kernel
theorem dX11_reel_105 : decode cX11_reel 105 = .ok (.invokevirtual 333, 3) := by decide +kernel
theorem dX11_reel_108 : decode cX11_reel 108 = .ok (.ireturn, 1) := by decide +kernel
theorem dX11_reel_109 : decode cX11_reel 109 = .ok (.aload_n 0, 1) := by decide +kernel
theorem dX11_reel_110 : decode cX11_reel 110 = .ok (.iload_n 1, 1) := by decide +kernel
theorem dX11_reel_111 : decode cX11_reel 111 = .ok (.invokevirtual 336, 3) := by decide +kernel
theorem dX11_reel_114 : decode cX11_reel 114 = .ok (.ireturn, 1) := by decide +kernel
set_option maxHeartbeats 4000000 in
set_option maxRecDepth 100000 in
theorem m_reel (l : Launch) (g : Gx) (h0 : Nat) (p0 : Int32) (p1 : Int32) (m_thrown : Int32) (a_tape : Nat) (m_taped : Int32) (m_size : Int32) (m_at : Int32) (m_end : Int32) (m_token : Int32) (m_whole : Int32) (m_nameSize : Int32) (m_fault : Int32) (m_place : Int32) (m_trouble : Int32) (a_letters : Nat) (m_failed : Int32) (m_hasHouse : Int32) (a_r : Nat) (a_fresh : Nat) (a_st : Nat) (a_undone : Nat) (a_kept : Nat) (m_undos : Int32) (m_images : Int32) (a_from : Nat) (a_begin : Nat) (a_motor : Nat) (a_change : Nat) (a_startFrame : Nat) (a_changeFrame : Nat) (a_lostAt : Nat) (a_blackAt : Nat) (a_slips : Nat) (a_leftArc : Nat) (a_died : Nat) (a_arcs : Nat) (m_bestSum : Int32) (m_nearest : Int32) (m_nearestTown : Int32) (a_there : Nat) (a_backAt : Nat) (a_sorted : Nat) (a_parts : Nat) (m_seed1 : Int32) (m_darkNow : Int32) (d_r : Nat → Int32) (d_st : Nat → Int32) (hv_m_hasHouse : IV m_hasHouse 0 1) (hp_d_r : RInv d_r) : cI l g yX11_reel cX11_reel 3 (some .int) 3 65 0 0 [.ref h0, .int p0, .int p1] [(cO11_i1r1i10r1i2r5i2r12i3r4i2 h0 m_thrown a_tape m_taped m_size m_at m_end m_token m_whole m_nameSize m_fault m_place m_trouble a_letters m_failed m_hasHouse a_r a_fresh a_st a_undone a_kept m_undos m_images a_from a_begin a_motor a_change a_startFrame a_changeFrame a_lostAt a_blackAt a_slips a_leftArc a_died a_arcs m_bestSum m_nearest m_nearestTown a_there a_backAt a_sorted a_parts m_seed1 m_darkNow), (cAI g a_r 311 d_r), (cAI g a_st 44 d_st)] (fun r w => ∃ (m_thrown2 : Int32) (m_trouble2 : Int32), w = [(cO11_i1r1i10r1i2r5i2r12i3r4i2 h0 m_thrown2 a_tape m_taped m_size m_at m_end m_token m_whole m_nameSize m_fault m_place m_trouble2 a_letters m_failed m_hasHouse a_r a_fresh a_st a_undone a_kept m_undos m_images a_from a_begin a_motor a_change a_startFrame a_changeFrame a_lostAt a_blackAt a_slips a_leftArc a_died a_arcs m_bestSum m_nearest m_nearestTown a_there a_backAt a_sorted a_parts m_seed1 m_darkNow), (cAI g a_r 311 d_r), (cAI g a_st 44 d_st)]) := by
  refine cI.of (by decide) (Nat.le_of_ble_eq_true rfl) ?_
  intro p e s m args below meth c A X hr hi
  refine k_lveq [(0, .ref h0), (1, .int p0), (2, .int p1)] rfl ?_
  refine k_aload_n X dX11_reel_0 0 rfl ?_
  refine k_callVV (n := 0) (As := []) (st := []) X [(cO11_i1r1i10r1i2r5i2r12i3r4i2 h0 m_thrown a_tape m_taped m_size m_at m_end m_token m_whole m_nameSize m_fault m_place m_trouble a_letters m_failed m_hasHouse a_r a_fresh a_st a_undone a_kept m_undos m_images a_from a_begin a_motor a_change a_startFrame a_changeFrame a_lostAt a_blackAt a_slips a_leftArc a_died a_arcs m_bestSum m_nearest m_nearestTown a_there a_backAt a_sorted a_parts m_seed1 m_darkNow)] [(cAI g a_r 311 d_r), (cAI g a_st 44 d_st)] [0] [1, 2] (m_good l g h0 m_thrown a_tape m_taped m_size m_at m_end m_token m_whole m_nameSize m_fault m_place m_trouble a_letters m_failed m_hasHouse a_r a_fresh a_st a_undone a_kept m_undos m_images a_from a_begin a_motor a_change a_startFrame a_changeFrame a_lostAt a_blackAt a_slips a_leftArc a_died a_arcs m_bestSum m_nearest m_nearestTown a_there a_backAt a_sorted a_parts m_seed1 m_darkNow) dX11_reel_1 mw477 mw478 mw479 mw5 mw480 rfl 11 rfl rfl 0 _ rfl yk_yX11_good_0 rfl (Nat.le_of_ble_eq_true rfl) (Nat.le_of_ble_eq_true rfl) (Nat.le_of_ble_eq_true rfl) (Nat.le_of_ble_eq_true rfl) (Nat.le_of_ble_eq_true rfl) rfl rfl (by decide) rfl (by decide) (by decide) ?_
  rintro w ⟨m_thrown2_1, m_trouble2_2, rfl⟩
  refine k_ws [(cAI g a_r 311 d_r), (cAI g a_st 44 d_st), (cO11_i1r1i10r1i2r5i2r12i3r4i2 h0 m_thrown2_1 a_tape m_taped m_size m_at m_end m_token m_whole m_nameSize m_fault m_place m_trouble2_2 a_letters m_failed m_hasHouse a_r a_fresh a_st a_undone a_kept m_undos m_images a_from a_begin a_motor a_change a_startFrame a_changeFrame a_lostAt a_blackAt a_slips a_leftArc a_died a_arcs m_bestSum m_nearest m_nearestTown a_there a_backAt a_sorted a_parts m_seed1 m_darkNow)] rfl ?_
  refine k_aload_n X dX11_reel_4 0 rfl ?_
  refine k_iload_n X dX11_reel_5 1 rfl ?_
  refine k_callVI (n := 1) (As := [.int p0]) (st := []) X [(cO11_i1r1i10r1i2r5i2r12i3r4i2 h0 m_thrown2_1 a_tape m_taped m_size m_at m_end m_token m_whole m_nameSize m_fault m_place m_trouble2_2 a_letters m_failed m_hasHouse a_r a_fresh a_st a_undone a_kept m_undos m_images a_from a_begin a_motor a_change a_startFrame a_changeFrame a_lostAt a_blackAt a_slips a_leftArc a_died a_arcs m_bestSum m_nearest m_nearestTown a_there a_backAt a_sorted a_parts m_seed1 m_darkNow), (cAI g a_r 311 d_r)] [(cAI g a_st 44 d_st)] [2, 0] [1] (m_isReel l g h0 p0 m_thrown2_1 a_tape m_taped m_size m_at m_end m_token m_whole m_nameSize m_fault m_place m_trouble2_2 a_letters m_failed m_hasHouse a_r a_fresh a_st a_undone a_kept m_undos m_images a_from a_begin a_motor a_change a_startFrame a_changeFrame a_lostAt a_blackAt a_slips a_leftArc a_died a_arcs m_bestSum m_nearest m_nearestTown a_there a_backAt a_sorted a_parts m_seed1 m_darkNow d_r (iv_w hv_m_hasHouse (by decide) (by decide)) hp_d_r) dX11_reel_6 mw670 mw671 mw672 mw5 mw673 rfl 11 rfl rfl 0 _ rfl yk_yX11_isReel_1 rfl (Nat.le_of_ble_eq_true rfl) (Nat.le_of_ble_eq_true rfl) (Nat.le_of_ble_eq_true rfl) (Nat.le_of_ble_eq_true rfl) (Nat.le_of_ble_eq_true rfl) rfl rfl (by decide) rfl (by decide) (by decide) ?_
  rintro r_4 w ⟨iv_5, hk_6, rfl⟩
  refine k_ws [(cAI g a_st 44 d_st), (cO11_i1r1i10r1i2r5i2r12i3r4i2 h0 m_thrown2_1 a_tape m_taped m_size m_at m_end m_token m_whole m_nameSize m_fault m_place m_trouble2_2 a_letters m_failed m_hasHouse a_r a_fresh a_st a_undone a_kept m_undos m_images a_from a_begin a_motor a_change a_startFrame a_changeFrame a_lostAt a_blackAt a_slips a_leftArc a_died a_arcs m_bestSum m_nearest m_nearestTown a_there a_backAt a_sorted a_parts m_seed1 m_darkNow), (cAI g a_r 311 d_r)] rfl ?_
  refine k_if_eq 21 X dX11_reel_9 (by decide) (fun h_7 => ?_) (fun h_7 => ?_)
  · skip
    have iv_8 : IV r_4 0 0 := iv_meet iv_5 (iv_e h_7 (show IV 0 0 0 from (by decide))) (by decide) (by decide)
    refine k_aload_n X dX11_reel_21 0 rfl ?_
    refine k_iconst (v := 1) X dX11_reel_22 (by decide) ?_
    refine k_callVI (n := 1) (As := [.int 1]) (st := []) X [(cO11_i1r1i10r1i2r5i2r12i3r4i2 h0 m_thrown2_1 a_tape m_taped m_size m_at m_end m_token m_whole m_nameSize m_fault m_place m_trouble2_2 a_letters m_failed m_hasHouse a_r a_fresh a_st a_undone a_kept m_undos m_images a_from a_begin a_motor a_change a_startFrame a_changeFrame a_lostAt a_blackAt a_slips a_leftArc a_died a_arcs m_bestSum m_nearest m_nearestTown a_there a_backAt a_sorted a_parts m_seed1 m_darkNow)] [(cAI g a_st 44 d_st), (cAI g a_r 311 d_r)] [1] [0, 2] (m_no l g h0 1 m_thrown2_1 a_tape m_taped m_size m_at m_end m_token m_whole m_nameSize m_fault m_place m_trouble2_2 a_letters m_failed m_hasHouse a_r a_fresh a_st a_undone a_kept m_undos m_images a_from a_begin a_motor a_change a_startFrame a_changeFrame a_lostAt a_blackAt a_slips a_leftArc a_died a_arcs m_bestSum m_nearest m_nearestTown a_there a_backAt a_sorted a_parts m_seed1 m_darkNow) dX11_reel_23 mw485 mw486 mw487 mw5 mw488 rfl 11 rfl rfl 0 _ rfl yk_yX11_no_1 rfl (Nat.le_of_ble_eq_true rfl) (Nat.le_of_ble_eq_true rfl) (Nat.le_of_ble_eq_true rfl) (Nat.le_of_ble_eq_true rfl) (Nat.le_of_ble_eq_true rfl) rfl rfl (by decide) rfl (by decide) (by decide) ?_
    rintro r_10 w ⟨m_trouble2_9, iv_11, rfl⟩
    refine k_ws [(cAI g a_st 44 d_st), (cAI g a_r 311 d_r), (cO11_i1r1i10r1i2r5i2r12i3r4i2 h0 m_thrown2_1 a_tape m_taped m_size m_at m_end m_token m_whole m_nameSize m_fault m_place m_trouble2_9 a_letters m_failed m_hasHouse a_r a_fresh a_st a_undone a_kept m_undos m_images a_from a_begin a_motor a_change a_startFrame a_changeFrame a_lostAt a_blackAt a_slips a_leftArc a_died a_arcs m_bestSum m_nearest m_nearestTown a_there a_backAt a_sorted a_parts m_seed1 m_darkNow)] rfl ?_
    exact k_iret X hr dX11_reel_26 (Nat.le_of_ble_eq_true rfl) (Nat.le_of_ble_eq_true rfl) [2, 1, 0] (by decide) rfl rfl ⟨m_thrown2_1, m_trouble2_9, rfl⟩
  · skip
    have hc_12 := hk_6.resolve_left h_7
    have iv_13 : IV p0 0 7 := iv_meet (iv_any p0) hc_12 (by decide) (by decide)
    have iv_14 : IV r_4 1 1 := iv_neL h_7 iv_5 (show IV 0 0 0 from (by decide)) (by decide)
    refine k_iload_n X dX11_reel_12 2 rfl ?_
    refine k_iconst (v := 0) X dX11_reel_13 (by decide) ?_
    refine k_iconst (v := 5) X dX11_reel_14 (by decide) ?_
    refine k_callSI (n := 3) (As := [.int p1, .int 0, .int 5]) (st := []) X [] [(cAI g a_st 44 d_st), (cO11_i1r1i10r1i2r5i2r12i3r4i2 h0 m_thrown2_1 a_tape m_taped m_size m_at m_end m_token m_whole m_nameSize m_fault m_place m_trouble2_2 a_letters m_failed m_hasHouse a_r a_fresh a_st a_undone a_kept m_undos m_images a_from a_begin a_motor a_change a_startFrame a_changeFrame a_lostAt a_blackAt a_slips a_leftArc a_died a_arcs m_bestSum m_nearest m_nearestTown a_there a_backAt a_sorted a_parts m_seed1 m_darkNow), (cAI g a_r 311 d_r)] [] [0, 1, 2] (m_in l g p1 0 5) dX11_reel_15 mw482 mw483 mw5 mw484 yk_yX11_in_3 rfl (Nat.le_of_ble_eq_true rfl) (Nat.le_of_ble_eq_true rfl) (Nat.le_of_ble_eq_true rfl) (Nat.le_of_ble_eq_true rfl) (Nat.le_of_ble_eq_true rfl) rfl rfl (by decide) rfl (by decide) (by decide) ?_
    rintro r_15 w ⟨iv_16, hk_17, hk_18, rfl⟩
    refine k_ws [(cAI g a_st 44 d_st), (cO11_i1r1i10r1i2r5i2r12i3r4i2 h0 m_thrown2_1 a_tape m_taped m_size m_at m_end m_token m_whole m_nameSize m_fault m_place m_trouble2_2 a_letters m_failed m_hasHouse a_r a_fresh a_st a_undone a_kept m_undos m_images a_from a_begin a_motor a_change a_startFrame a_changeFrame a_lostAt a_blackAt a_slips a_leftArc a_died a_arcs m_bestSum m_nearest m_nearestTown a_there a_backAt a_sorted a_parts m_seed1 m_darkNow), (cAI g a_r 311 d_r)] rfl ?_
    refine k_if_ne 27 X dX11_reel_18 (by decide) (fun h_19 => ?_) (fun h_19 => ?_)
    · skip
      have hc_20 := hk_17.resolve_left h_19
      have j_21 : 0 ≤ p1.toInt := hc_20.1
      have iv_22 : IV p1 0 2147483647 := iv_leR hc_20.1 (show IV 0 0 0 from (by decide)) (iv_any p1) (by decide)
      have j_23 : p1.toInt ≤ 5 := hc_20.2
      have iv_24 : IV p1 0 5 := iv_leL hc_20.2 iv_22 (show IV 5 5 5 from (by decide)) (by decide)
      have iv_25 : IV r_15 1 1 := iv_neL h_19 iv_16 (show IV 0 0 0 from (by decide)) (by decide)
      refine k_iload_n X dX11_reel_27 2 rfl ?_
      by_cases h_26 : p1 = 0
      · skip
        refine k_tableIn 64 X dX11_reel_28 (by rw [h_26]; decide) (by rw [h_26]; decide) (off := 36) (by rw [h_26]; rfl) (by decide) ?_
        refine k_aload_n X dX11_reel_64 0 rfl ?_
        refine k_get (ci := 11) X inlX11 rfl 17 (by decide) dX11_reel_65 mw172 1 rfl rfl ?_
        refine k_iconst (v := 0) X dX11_reel_68 (by decide) ?_
        refine k_iload_n X dX11_reel_69 1 rfl ?_
        refine k_iadd X dX11_reel_70 ?_
        refine k_nm (fun z_27 ez_27 => ?_)
        have i_28 : z_27.toInt = 0 + p0.toInt := in_add ez_27 (show IV 0 0 0 from (by decide)) iv_13 (by decide) (by decide)
        have iv_29 : IV z_27 0 7 := iz2 i_28 iv_13 (by decide) (by decide)
        refine k_iald X dX11_reel_71 0 rfl (iv_in iv_29 (by decide) (by decide)) ?_
        refine k_nm (fun z_30 ez_30 => ?_)
        exact k_iret X hr dX11_reel_72 (Nat.le_of_ble_eq_true rfl) (Nat.le_of_ble_eq_true rfl) [1, 2, 0] (by decide) rfl rfl ⟨m_thrown2_1, m_trouble2_2, rfl⟩
      by_cases h_31 : p1 = 1
      · skip
        refine k_tableIn 73 X dX11_reel_28 (by rw [h_31]; decide) (by rw [h_31]; decide) (off := 45) (by rw [h_31]; rfl) (by decide) ?_
        refine k_aload_n X dX11_reel_73 0 rfl ?_
        refine k_get (ci := 11) X inlX11 rfl 17 (by decide) dX11_reel_74 mw172 1 rfl rfl ?_
        refine k_bipush (v := 8) X dX11_reel_77 (by decide) ?_
        refine k_iload_n X dX11_reel_79 1 rfl ?_
        refine k_iadd X dX11_reel_80 ?_
        refine k_nm (fun z_32 ez_32 => ?_)
        have i_33 : z_32.toInt = 8 + p0.toInt := in_add ez_32 (show IV 8 8 8 from (by decide)) iv_13 (by decide) (by decide)
        have iv_34 : IV z_32 8 15 := iz2 i_33 iv_13 (by decide) (by decide)
        refine k_iald X dX11_reel_81 0 rfl (iv_in iv_34 (by decide) (by decide)) ?_
        refine k_nm (fun z_35 ez_35 => ?_)
        exact k_iret X hr dX11_reel_82 (Nat.le_of_ble_eq_true rfl) (Nat.le_of_ble_eq_true rfl) [1, 2, 0] (by decide) rfl rfl ⟨m_thrown2_1, m_trouble2_2, rfl⟩
      by_cases h_36 : p1 = 2
      · skip
        refine k_tableIn 83 X dX11_reel_28 (by rw [h_36]; decide) (by rw [h_36]; decide) (off := 55) (by rw [h_36]; rfl) (by decide) ?_
        refine k_aload_n X dX11_reel_83 0 rfl ?_
        refine k_get (ci := 11) X inlX11 rfl 15 (by decide) dX11_reel_84 mw170 1 rfl rfl ?_
        refine k_bipush (v := 16) X dX11_reel_87 (by decide) ?_
        refine k_iconst (v := 3) X dX11_reel_89 (by decide) ?_
        refine k_iload_n X dX11_reel_90 1 rfl ?_
        refine k_imul X dX11_reel_91 ?_
        refine k_nm (fun z_37 ez_37 => ?_)
        have i_38 : z_37.toInt = 3 * p0.toInt := in_mul ez_37 (by decide) (by decide) iv_13 (by decide) (by decide)
        have iv_39 : IV z_37 0 21 := iz4 i_38 iv_13 (by decide) (by decide) (by decide)
        refine k_iadd X dX11_reel_92 ?_
        refine k_nm (fun z_40 ez_40 => ?_)
        have i_41 : z_40.toInt = 16 + z_37.toInt := in_add ez_40 (show IV 16 16 16 from (by decide)) iv_39 (by decide) (by decide)
        have iv_42 : IV z_40 16 37 := iz2 i_41 iv_39 (by decide) (by decide)
        refine k_iconst (v := 2) X dX11_reel_93 (by decide) ?_
        refine k_iadd X dX11_reel_94 ?_
        refine k_nm (fun z_43 ez_43 => ?_)
        have i_44 : z_43.toInt = z_40.toInt + 2 := in_add ez_43 iv_42 (show IV 2 2 2 from (by decide)) (by decide) (by decide)
        have iv_45 : IV z_43 18 39 := iz1 i_44 iv_42 (by decide) (by decide)
        refine k_iald X dX11_reel_95 2 rfl (iv_in iv_45 (by decide) (by decide)) ?_
        refine k_nm (fun z_46 ez_46 => ?_)
        exact k_iret X hr dX11_reel_96 (Nat.le_of_ble_eq_true rfl) (Nat.le_of_ble_eq_true rfl) [1, 2, 0] (by decide) rfl rfl ⟨m_thrown2_1, m_trouble2_2, rfl⟩
      by_cases h_47 : p1 = 3
      · skip
        refine k_tableIn 97 X dX11_reel_28 (by rw [h_47]; decide) (by rw [h_47]; decide) (off := 69) (by rw [h_47]; rfl) (by decide) ?_
        refine k_aload_n X dX11_reel_97 0 rfl ?_
        refine k_iload_n X dX11_reel_98 1 rfl ?_
        refine k_callVI (n := 1) (As := [.int p0]) (st := []) X [(cO11_i1r1i10r1i2r5i2r12i3r4i2 h0 m_thrown2_1 a_tape m_taped m_size m_at m_end m_token m_whole m_nameSize m_fault m_place m_trouble2_2 a_letters m_failed m_hasHouse a_r a_fresh a_st a_undone a_kept m_undos m_images a_from a_begin a_motor a_change a_startFrame a_changeFrame a_lostAt a_blackAt a_slips a_leftArc a_died a_arcs m_bestSum m_nearest m_nearestTown a_there a_backAt a_sorted a_parts m_seed1 m_darkNow), (cAI g a_r 311 d_r)] [(cAI g a_st 44 d_st)] [1, 2] [0] (m_marksOf l g h0 p0 m_thrown2_1 a_tape m_taped m_size m_at m_end m_token m_whole m_nameSize m_fault m_place m_trouble2_2 a_letters m_failed m_hasHouse a_r a_fresh a_st a_undone a_kept m_undos m_images a_from a_begin a_motor a_change a_startFrame a_changeFrame a_lostAt a_blackAt a_slips a_leftArc a_died a_arcs m_bestSum m_nearest m_nearestTown a_there a_backAt a_sorted a_parts m_seed1 m_darkNow d_r hp_d_r) dX11_reel_99 mw674 mw675 mw676 mw5 mw677 rfl 11 rfl rfl 0 _ rfl yk_yX11_marksOf_1 rfl (Nat.le_of_ble_eq_true rfl) (Nat.le_of_ble_eq_true rfl) (Nat.le_of_ble_eq_true rfl) (Nat.le_of_ble_eq_true rfl) (Nat.le_of_ble_eq_true rfl) rfl rfl (by decide) rfl (by decide) (by decide) ?_
        rintro r_48 w rfl
        refine k_ws [(cAI g a_st 44 d_st), (cO11_i1r1i10r1i2r5i2r12i3r4i2 h0 m_thrown2_1 a_tape m_taped m_size m_at m_end m_token m_whole m_nameSize m_fault m_place m_trouble2_2 a_letters m_failed m_hasHouse a_r a_fresh a_st a_undone a_kept m_undos m_images a_from a_begin a_motor a_change a_startFrame a_changeFrame a_lostAt a_blackAt a_slips a_leftArc a_died a_arcs m_bestSum m_nearest m_nearestTown a_there a_backAt a_sorted a_parts m_seed1 m_darkNow), (cAI g a_r 311 d_r)] rfl ?_
        exact k_iret X hr dX11_reel_102 (Nat.le_of_ble_eq_true rfl) (Nat.le_of_ble_eq_true rfl) [1, 2, 0] (by decide) rfl rfl ⟨m_thrown2_1, m_trouble2_2, rfl⟩
      by_cases h_49 : p1 = 4
      · skip
        refine k_tableIn 103 X dX11_reel_28 (by rw [h_49]; decide) (by rw [h_49]; decide) (off := 75) (by rw [h_49]; rfl) (by decide) ?_
        refine k_aload_n X dX11_reel_103 0 rfl ?_
        refine k_iload_n X dX11_reel_104 1 rfl ?_
        refine k_callVI (n := 1) (As := [.int p0]) (st := []) X [(cO11_i1r1i10r1i2r5i2r12i3r4i2 h0 m_thrown2_1 a_tape m_taped m_size m_at m_end m_token m_whole m_nameSize m_fault m_place m_trouble2_2 a_letters m_failed m_hasHouse a_r a_fresh a_st a_undone a_kept m_undos m_images a_from a_begin a_motor a_change a_startFrame a_changeFrame a_lostAt a_blackAt a_slips a_leftArc a_died a_arcs m_bestSum m_nearest m_nearestTown a_there a_backAt a_sorted a_parts m_seed1 m_darkNow), (cAI g a_r 311 d_r), (cAI g a_st 44 d_st)] [] [1, 2, 0] [] (m_joinsOf l g h0 p0 m_thrown2_1 a_tape m_taped m_size m_at m_end m_token m_whole m_nameSize m_fault m_place m_trouble2_2 a_letters m_failed m_hasHouse a_r a_fresh a_st a_undone a_kept m_undos m_images a_from a_begin a_motor a_change a_startFrame a_changeFrame a_lostAt a_blackAt a_slips a_leftArc a_died a_arcs m_bestSum m_nearest m_nearestTown a_there a_backAt a_sorted a_parts m_seed1 m_darkNow d_r d_st hp_d_r) dX11_reel_105 mw678 mw679 mw680 mw5 mw681 rfl 11 rfl rfl 0 _ rfl yk_yX11_joinsOf_1 rfl (Nat.le_of_ble_eq_true rfl) (Nat.le_of_ble_eq_true rfl) (Nat.le_of_ble_eq_true rfl) (Nat.le_of_ble_eq_true rfl) (Nat.le_of_ble_eq_true rfl) rfl rfl (by decide) rfl (by decide) (by decide) ?_
        rintro r_50 w rfl
        refine k_ws [(cO11_i1r1i10r1i2r5i2r12i3r4i2 h0 m_thrown2_1 a_tape m_taped m_size m_at m_end m_token m_whole m_nameSize m_fault m_place m_trouble2_2 a_letters m_failed m_hasHouse a_r a_fresh a_st a_undone a_kept m_undos m_images a_from a_begin a_motor a_change a_startFrame a_changeFrame a_lostAt a_blackAt a_slips a_leftArc a_died a_arcs m_bestSum m_nearest m_nearestTown a_there a_backAt a_sorted a_parts m_seed1 m_darkNow), (cAI g a_r 311 d_r), (cAI g a_st 44 d_st)] rfl ?_
        exact k_iret X hr dX11_reel_108 (Nat.le_of_ble_eq_true rfl) (Nat.le_of_ble_eq_true rfl) [0, 1, 2] (by decide) rfl rfl ⟨m_thrown2_1, m_trouble2_2, rfl⟩
      refine k_tableOut 109 X dX11_reel_28 (by have eh_26 : p1.toInt ≠ 0 := fun q => h_26 (Int32.toInt_inj.mp (q.trans (by decide))); have eh_31 : p1.toInt ≠ 1 := fun q => h_31 (Int32.toInt_inj.mp (q.trans (by decide))); have eh_36 : p1.toInt ≠ 2 := fun q => h_36 (Int32.toInt_inj.mp (q.trans (by decide))); have eh_47 : p1.toInt ≠ 3 := fun q => h_47 (Int32.toInt_inj.mp (q.trans (by decide))); have eh_49 : p1.toInt ≠ 4 := fun q => h_49 (Int32.toInt_inj.mp (q.trans (by decide))); omega) (by decide) ?_
      refine k_aload_n X dX11_reel_109 0 rfl ?_
      refine k_iload_n X dX11_reel_110 1 rfl ?_
      refine k_callVI (n := 1) (As := [.int p0]) (st := []) X [(cO11_i1r1i10r1i2r5i2r12i3r4i2 h0 m_thrown2_1 a_tape m_taped m_size m_at m_end m_token m_whole m_nameSize m_fault m_place m_trouble2_2 a_letters m_failed m_hasHouse a_r a_fresh a_st a_undone a_kept m_undos m_images a_from a_begin a_motor a_change a_startFrame a_changeFrame a_lostAt a_blackAt a_slips a_leftArc a_died a_arcs m_bestSum m_nearest m_nearestTown a_there a_backAt a_sorted a_parts m_seed1 m_darkNow), (cAI g a_r 311 d_r), (cAI g a_st 44 d_st)] [] [1, 2, 0] [] (m_weaksOf l g h0 p0 m_thrown2_1 a_tape m_taped m_size m_at m_end m_token m_whole m_nameSize m_fault m_place m_trouble2_2 a_letters m_failed m_hasHouse a_r a_fresh a_st a_undone a_kept m_undos m_images a_from a_begin a_motor a_change a_startFrame a_changeFrame a_lostAt a_blackAt a_slips a_leftArc a_died a_arcs m_bestSum m_nearest m_nearestTown a_there a_backAt a_sorted a_parts m_seed1 m_darkNow d_r d_st hp_d_r) dX11_reel_111 mw689 mw690 mw691 mw5 mw692 rfl 11 rfl rfl 0 _ rfl yk_yX11_weaksOf_1 rfl (Nat.le_of_ble_eq_true rfl) (Nat.le_of_ble_eq_true rfl) (Nat.le_of_ble_eq_true rfl) (Nat.le_of_ble_eq_true rfl) (Nat.le_of_ble_eq_true rfl) rfl rfl (by decide) rfl (by decide) (by decide) ?_
      rintro r_51 w rfl
      refine k_ws [(cO11_i1r1i10r1i2r5i2r12i3r4i2 h0 m_thrown2_1 a_tape m_taped m_size m_at m_end m_token m_whole m_nameSize m_fault m_place m_trouble2_2 a_letters m_failed m_hasHouse a_r a_fresh a_st a_undone a_kept m_undos m_images a_from a_begin a_motor a_change a_startFrame a_changeFrame a_lostAt a_blackAt a_slips a_leftArc a_died a_arcs m_bestSum m_nearest m_nearestTown a_there a_backAt a_sorted a_parts m_seed1 m_darkNow), (cAI g a_r 311 d_r), (cAI g a_st 44 d_st)] rfl ?_
      exact k_iret X hr dX11_reel_114 (Nat.le_of_ble_eq_true rfl) (Nat.le_of_ble_eq_true rfl) [0, 1, 2] (by decide) rfl rfl ⟨m_thrown2_1, m_trouble2_2, rfl⟩
    · skip
      have iv_52 : IV r_15 0 0 := iv_meet iv_16 (iv_e h_19 (show IV 0 0 0 from (by decide))) (by decide) (by decide)
      have hc_53 := hk_18 (iv_eq iv_52 (show IV 0 0 0 from (by decide)))
      have j_54 : p1.toInt < 0 ∨ 5 < p1.toInt := hc_53
      refine k_aload_n X dX11_reel_21 0 rfl ?_
      refine k_iconst (v := 1) X dX11_reel_22 (by decide) ?_
      refine k_callVI (n := 1) (As := [.int 1]) (st := []) X [(cO11_i1r1i10r1i2r5i2r12i3r4i2 h0 m_thrown2_1 a_tape m_taped m_size m_at m_end m_token m_whole m_nameSize m_fault m_place m_trouble2_2 a_letters m_failed m_hasHouse a_r a_fresh a_st a_undone a_kept m_undos m_images a_from a_begin a_motor a_change a_startFrame a_changeFrame a_lostAt a_blackAt a_slips a_leftArc a_died a_arcs m_bestSum m_nearest m_nearestTown a_there a_backAt a_sorted a_parts m_seed1 m_darkNow)] [(cAI g a_st 44 d_st), (cAI g a_r 311 d_r)] [1] [0, 2] (m_no l g h0 1 m_thrown2_1 a_tape m_taped m_size m_at m_end m_token m_whole m_nameSize m_fault m_place m_trouble2_2 a_letters m_failed m_hasHouse a_r a_fresh a_st a_undone a_kept m_undos m_images a_from a_begin a_motor a_change a_startFrame a_changeFrame a_lostAt a_blackAt a_slips a_leftArc a_died a_arcs m_bestSum m_nearest m_nearestTown a_there a_backAt a_sorted a_parts m_seed1 m_darkNow) dX11_reel_23 mw485 mw486 mw487 mw5 mw488 rfl 11 rfl rfl 0 _ rfl yk_yX11_no_1 rfl (Nat.le_of_ble_eq_true rfl) (Nat.le_of_ble_eq_true rfl) (Nat.le_of_ble_eq_true rfl) (Nat.le_of_ble_eq_true rfl) (Nat.le_of_ble_eq_true rfl) rfl rfl (by decide) rfl (by decide) (by decide) ?_
      rintro r_56 w ⟨m_trouble2_55, iv_57, rfl⟩
      refine k_ws [(cAI g a_st 44 d_st), (cAI g a_r 311 d_r), (cO11_i1r1i10r1i2r5i2r12i3r4i2 h0 m_thrown2_1 a_tape m_taped m_size m_at m_end m_token m_whole m_nameSize m_fault m_place m_trouble2_55 a_letters m_failed m_hasHouse a_r a_fresh a_st a_undone a_kept m_undos m_images a_from a_begin a_motor a_change a_startFrame a_changeFrame a_lostAt a_blackAt a_slips a_leftArc a_died a_arcs m_bestSum m_nearest m_nearestTown a_there a_backAt a_sorted a_parts m_seed1 m_darkNow)] rfl ?_
      exact k_iret X hr dX11_reel_26 (Nat.le_of_ble_eq_true rfl) (Nat.le_of_ble_eq_true rfl) [2, 1, 0] (by decide) rfl rfl ⟨m_thrown2_1, m_trouble2_55, rfl⟩

theorem dX11_mark_0 : decode cX11_mark 0 = .ok (.aload_n 0, 1) := dk_42 rfl
theorem dX11_mark_1 : decode cX11_mark 1 = .ok (.invokevirtual 200, 3) := dk_182 rfl rfl rfl rfl
theorem dX11_mark_4 : decode cX11_mark 4 = .ok (.aload_n 0, 1) := dk_42 rfl
theorem dX11_mark_5 : decode cX11_mark 5 = .ok (.iload_n 1, 1) := dk_27 rfl
theorem dX11_mark_6 : decode cX11_mark 6 = .ok (.invokevirtual 327, 3) := dk_182 rfl rfl rfl rfl
theorem dX11_mark_9 : decode cX11_mark 9 = .ok (.ifCond .eq 29, 3) := dk_153 rfl rfl rfl (by decide)
theorem dX11_mark_12 : decode cX11_mark 12 = .ok (.iload_n 2, 1) := dk_28 rfl
theorem dX11_mark_13 : decode cX11_mark 13 = .ok (.iconst 0, 1) := dk_3 rfl
theorem dX11_mark_14 : decode cX11_mark 14 = .ok (.aload_n 0, 1) := dk_42 rfl
theorem dX11_mark_15 : decode cX11_mark 15 = .ok (.getfield 20, 3) := dk_180 rfl rfl rfl rfl
theorem dX11_mark_18 : decode cX11_mark 18 = .ok (.bipush 7, 2) := dk_16 rfl rfl (by decide)
theorem dX11_mark_20 : decode cX11_mark 20 = .ok (.iaload, 1) := dk_46 rfl
theorem dX11_mark_21 : decode cX11_mark 21 = .ok (.iconst 1, 1) := dk_4 rfl
theorem dX11_mark_22 : decode cX11_mark 22 = .ok (.isub, 1) := dk_100 rfl
theorem dX11_mark_23 : decode cX11_mark 23 = .ok (.invokestatic 182, 3) := dk_184 rfl rfl rfl rfl
theorem dX11_mark_26 : decode cX11_mark 26 = .ok (.ifCond .eq 12, 3) := dk_153 rfl rfl rfl (by decide)
theorem dX11_mark_29 : decode cX11_mark 29 = .ok (.aload_n 0, 1) := dk_42 rfl
theorem dX11_mark_30 : decode cX11_mark 30 = .ok (.iload_n 1, 1) := dk_27 rfl
theorem dX11_mark_31 : decode cX11_mark 31 = .ok (.iload_n 2, 1) := dk_28 rfl
theorem dX11_mark_32 : decode cX11_mark 32 = .ok (.invokevirtual 342, 3) := dk_182 rfl rfl rfl rfl
theorem dX11_mark_35 : decode cX11_mark 35 = .ok (.goto 8, 3) := dk_167 rfl rfl rfl (by decide)
theorem dX11_mark_38 : decode cX11_mark 38 = .ok (.aload_n 0, 1) := dk_42 rfl
theorem dX11_mark_39 : decode cX11_mark 39 = .ok (.iconst 1, 1) := dk_4 rfl
theorem dX11_mark_40 : decode cX11_mark 40 = .ok (.invokevirtual 203, 3) := dk_182 rfl rfl rfl rfl
theorem dX11_mark_43 : decode cX11_mark 43 = .ok (.ireturn, 1) := dk_172 rfl
set_option maxHeartbeats 4000000 in
set_option maxRecDepth 100000 in
theorem m_mark (l : Launch) (g : Gx) (h0 : Nat) (p0 : Int32) (p1 : Int32) (m_thrown : Int32) (a_tape : Nat) (m_taped : Int32) (m_size : Int32) (m_at : Int32) (m_end : Int32) (m_token : Int32) (m_whole : Int32) (m_nameSize : Int32) (m_fault : Int32) (m_place : Int32) (m_trouble : Int32) (a_letters : Nat) (m_failed : Int32) (m_hasHouse : Int32) (a_r : Nat) (a_fresh : Nat) (a_st : Nat) (a_undone : Nat) (a_kept : Nat) (m_undos : Int32) (m_images : Int32) (a_from : Nat) (a_begin : Nat) (a_motor : Nat) (a_change : Nat) (a_startFrame : Nat) (a_changeFrame : Nat) (a_lostAt : Nat) (a_blackAt : Nat) (a_slips : Nat) (a_leftArc : Nat) (a_died : Nat) (a_arcs : Nat) (m_bestSum : Int32) (m_nearest : Int32) (m_nearestTown : Int32) (a_there : Nat) (a_backAt : Nat) (a_sorted : Nat) (a_parts : Nat) (m_seed1 : Int32) (m_darkNow : Int32) (d_r : Nat → Int32) (d_st : Nat → Int32) (hv_m_hasHouse : IV m_hasHouse 0 1) (hp_d_r : RInv d_r) : cI l g yX11_mark cX11_mark 3 (some .int) 2 43 0 0 [.ref h0, .int p0, .int p1] [(cO11_i1r1i10r1i2r5i2r12i3r4i2 h0 m_thrown a_tape m_taped m_size m_at m_end m_token m_whole m_nameSize m_fault m_place m_trouble a_letters m_failed m_hasHouse a_r a_fresh a_st a_undone a_kept m_undos m_images a_from a_begin a_motor a_change a_startFrame a_changeFrame a_lostAt a_blackAt a_slips a_leftArc a_died a_arcs m_bestSum m_nearest m_nearestTown a_there a_backAt a_sorted a_parts m_seed1 m_darkNow), (cAI g a_r 311 d_r), (cAI g a_st 44 d_st)] (fun r w => ∃ (m_thrown2 : Int32) (m_trouble2 : Int32), w = [(cO11_i1r1i10r1i2r5i2r12i3r4i2 h0 m_thrown2 a_tape m_taped m_size m_at m_end m_token m_whole m_nameSize m_fault m_place m_trouble2 a_letters m_failed m_hasHouse a_r a_fresh a_st a_undone a_kept m_undos m_images a_from a_begin a_motor a_change a_startFrame a_changeFrame a_lostAt a_blackAt a_slips a_leftArc a_died a_arcs m_bestSum m_nearest m_nearestTown a_there a_backAt a_sorted a_parts m_seed1 m_darkNow), (cAI g a_r 311 d_r), (cAI g a_st 44 d_st)]) := by
  refine cI.of (by decide) (Nat.le_of_ble_eq_true rfl) ?_
  intro p e s m args below meth c A X hr hi
  refine k_lveq [(0, .ref h0), (1, .int p0), (2, .int p1)] rfl ?_
  refine k_aload_n X dX11_mark_0 0 rfl ?_
  refine k_callVV (n := 0) (As := []) (st := []) X [(cO11_i1r1i10r1i2r5i2r12i3r4i2 h0 m_thrown a_tape m_taped m_size m_at m_end m_token m_whole m_nameSize m_fault m_place m_trouble a_letters m_failed m_hasHouse a_r a_fresh a_st a_undone a_kept m_undos m_images a_from a_begin a_motor a_change a_startFrame a_changeFrame a_lostAt a_blackAt a_slips a_leftArc a_died a_arcs m_bestSum m_nearest m_nearestTown a_there a_backAt a_sorted a_parts m_seed1 m_darkNow)] [(cAI g a_r 311 d_r), (cAI g a_st 44 d_st)] [0] [1, 2] (m_good l g h0 m_thrown a_tape m_taped m_size m_at m_end m_token m_whole m_nameSize m_fault m_place m_trouble a_letters m_failed m_hasHouse a_r a_fresh a_st a_undone a_kept m_undos m_images a_from a_begin a_motor a_change a_startFrame a_changeFrame a_lostAt a_blackAt a_slips a_leftArc a_died a_arcs m_bestSum m_nearest m_nearestTown a_there a_backAt a_sorted a_parts m_seed1 m_darkNow) dX11_mark_1 mw477 mw478 mw479 mw5 mw480 rfl 11 rfl rfl 0 _ rfl yk_yX11_good_0 rfl (Nat.le_of_ble_eq_true rfl) (Nat.le_of_ble_eq_true rfl) (Nat.le_of_ble_eq_true rfl) (Nat.le_of_ble_eq_true rfl) (Nat.le_of_ble_eq_true rfl) rfl rfl (by decide) rfl (by decide) (by decide) ?_
  rintro w ⟨m_thrown2_1, m_trouble2_2, rfl⟩
  refine k_ws [(cAI g a_r 311 d_r), (cAI g a_st 44 d_st), (cO11_i1r1i10r1i2r5i2r12i3r4i2 h0 m_thrown2_1 a_tape m_taped m_size m_at m_end m_token m_whole m_nameSize m_fault m_place m_trouble2_2 a_letters m_failed m_hasHouse a_r a_fresh a_st a_undone a_kept m_undos m_images a_from a_begin a_motor a_change a_startFrame a_changeFrame a_lostAt a_blackAt a_slips a_leftArc a_died a_arcs m_bestSum m_nearest m_nearestTown a_there a_backAt a_sorted a_parts m_seed1 m_darkNow)] rfl ?_
  refine k_aload_n X dX11_mark_4 0 rfl ?_
  refine k_iload_n X dX11_mark_5 1 rfl ?_
  refine k_callVI (n := 1) (As := [.int p0]) (st := []) X [(cO11_i1r1i10r1i2r5i2r12i3r4i2 h0 m_thrown2_1 a_tape m_taped m_size m_at m_end m_token m_whole m_nameSize m_fault m_place m_trouble2_2 a_letters m_failed m_hasHouse a_r a_fresh a_st a_undone a_kept m_undos m_images a_from a_begin a_motor a_change a_startFrame a_changeFrame a_lostAt a_blackAt a_slips a_leftArc a_died a_arcs m_bestSum m_nearest m_nearestTown a_there a_backAt a_sorted a_parts m_seed1 m_darkNow), (cAI g a_r 311 d_r)] [(cAI g a_st 44 d_st)] [2, 0] [1] (m_isReel l g h0 p0 m_thrown2_1 a_tape m_taped m_size m_at m_end m_token m_whole m_nameSize m_fault m_place m_trouble2_2 a_letters m_failed m_hasHouse a_r a_fresh a_st a_undone a_kept m_undos m_images a_from a_begin a_motor a_change a_startFrame a_changeFrame a_lostAt a_blackAt a_slips a_leftArc a_died a_arcs m_bestSum m_nearest m_nearestTown a_there a_backAt a_sorted a_parts m_seed1 m_darkNow d_r (iv_w hv_m_hasHouse (by decide) (by decide)) hp_d_r) dX11_mark_6 mw670 mw671 mw672 mw5 mw673 rfl 11 rfl rfl 0 _ rfl yk_yX11_isReel_1 rfl (Nat.le_of_ble_eq_true rfl) (Nat.le_of_ble_eq_true rfl) (Nat.le_of_ble_eq_true rfl) (Nat.le_of_ble_eq_true rfl) (Nat.le_of_ble_eq_true rfl) rfl rfl (by decide) rfl (by decide) (by decide) ?_
  rintro r_4 w ⟨iv_5, hk_6, rfl⟩
  refine k_ws [(cAI g a_st 44 d_st), (cO11_i1r1i10r1i2r5i2r12i3r4i2 h0 m_thrown2_1 a_tape m_taped m_size m_at m_end m_token m_whole m_nameSize m_fault m_place m_trouble2_2 a_letters m_failed m_hasHouse a_r a_fresh a_st a_undone a_kept m_undos m_images a_from a_begin a_motor a_change a_startFrame a_changeFrame a_lostAt a_blackAt a_slips a_leftArc a_died a_arcs m_bestSum m_nearest m_nearestTown a_there a_backAt a_sorted a_parts m_seed1 m_darkNow), (cAI g a_r 311 d_r)] rfl ?_
  refine k_if_eq 38 X dX11_mark_9 (by decide) (fun h_7 => ?_) (fun h_7 => ?_)
  · skip
    have iv_8 : IV r_4 0 0 := iv_meet iv_5 (iv_e h_7 (show IV 0 0 0 from (by decide))) (by decide) (by decide)
    refine k_aload_n X dX11_mark_38 0 rfl ?_
    refine k_iconst (v := 1) X dX11_mark_39 (by decide) ?_
    refine k_callVI (n := 1) (As := [.int 1]) (st := []) X [(cO11_i1r1i10r1i2r5i2r12i3r4i2 h0 m_thrown2_1 a_tape m_taped m_size m_at m_end m_token m_whole m_nameSize m_fault m_place m_trouble2_2 a_letters m_failed m_hasHouse a_r a_fresh a_st a_undone a_kept m_undos m_images a_from a_begin a_motor a_change a_startFrame a_changeFrame a_lostAt a_blackAt a_slips a_leftArc a_died a_arcs m_bestSum m_nearest m_nearestTown a_there a_backAt a_sorted a_parts m_seed1 m_darkNow)] [(cAI g a_st 44 d_st), (cAI g a_r 311 d_r)] [1] [0, 2] (m_no l g h0 1 m_thrown2_1 a_tape m_taped m_size m_at m_end m_token m_whole m_nameSize m_fault m_place m_trouble2_2 a_letters m_failed m_hasHouse a_r a_fresh a_st a_undone a_kept m_undos m_images a_from a_begin a_motor a_change a_startFrame a_changeFrame a_lostAt a_blackAt a_slips a_leftArc a_died a_arcs m_bestSum m_nearest m_nearestTown a_there a_backAt a_sorted a_parts m_seed1 m_darkNow) dX11_mark_40 mw485 mw486 mw487 mw5 mw488 rfl 11 rfl rfl 0 _ rfl yk_yX11_no_1 rfl (Nat.le_of_ble_eq_true rfl) (Nat.le_of_ble_eq_true rfl) (Nat.le_of_ble_eq_true rfl) (Nat.le_of_ble_eq_true rfl) (Nat.le_of_ble_eq_true rfl) rfl rfl (by decide) rfl (by decide) (by decide) ?_
    rintro r_10 w ⟨m_trouble2_9, iv_11, rfl⟩
    refine k_ws [(cAI g a_st 44 d_st), (cAI g a_r 311 d_r), (cO11_i1r1i10r1i2r5i2r12i3r4i2 h0 m_thrown2_1 a_tape m_taped m_size m_at m_end m_token m_whole m_nameSize m_fault m_place m_trouble2_9 a_letters m_failed m_hasHouse a_r a_fresh a_st a_undone a_kept m_undos m_images a_from a_begin a_motor a_change a_startFrame a_changeFrame a_lostAt a_blackAt a_slips a_leftArc a_died a_arcs m_bestSum m_nearest m_nearestTown a_there a_backAt a_sorted a_parts m_seed1 m_darkNow)] rfl ?_
    exact k_iret X hr dX11_mark_43 (Nat.le_of_ble_eq_true rfl) (Nat.le_of_ble_eq_true rfl) [2, 1, 0] (by decide) rfl rfl ⟨m_thrown2_1, m_trouble2_9, rfl⟩
  · skip
    have hc_12 := hk_6.resolve_left h_7
    have iv_13 : IV p0 0 7 := iv_meet (iv_any p0) hc_12 (by decide) (by decide)
    have iv_14 : IV r_4 1 1 := iv_neL h_7 iv_5 (show IV 0 0 0 from (by decide)) (by decide)
    refine k_iload_n X dX11_mark_12 2 rfl ?_
    refine k_iconst (v := 0) X dX11_mark_13 (by decide) ?_
    refine k_aload_n X dX11_mark_14 0 rfl ?_
    refine k_get (ci := 11) X inlX11 rfl 15 (by decide) dX11_mark_15 mw170 1 rfl rfl ?_
    refine k_bipush (v := 7) X dX11_mark_18 (by decide) ?_
    refine k_iald X dX11_mark_20 2 rfl (by unfold vp_in; decide) ?_
    refine k_nm (fun z_15 ez_15 => ?_)
    have i_16 : z_15.toInt = (d_r 7).toInt := by rw [ez_15]; rfl
    have iv_17 : IV z_15 0 4 := rb_7 ez_15 hp_d_r
    refine k_iconst (v := 1) X dX11_mark_21 (by decide) ?_
    refine k_isub X dX11_mark_22 ?_
    refine k_nm (fun z_18 ez_18 => ?_)
    have i_19 : z_18.toInt = z_15.toInt - 1 := in_sub ez_18 iv_17 (show IV 1 1 1 from (by decide)) (by decide) (by decide)
    have iv_20 : IV z_18 (-1) 3 := iz5 i_19 iv_17 (by decide) (by decide)
    refine k_callSI (n := 3) (As := [.int p1, .int 0, .int z_18]) (st := []) X [] [(cAI g a_st 44 d_st), (cO11_i1r1i10r1i2r5i2r12i3r4i2 h0 m_thrown2_1 a_tape m_taped m_size m_at m_end m_token m_whole m_nameSize m_fault m_place m_trouble2_2 a_letters m_failed m_hasHouse a_r a_fresh a_st a_undone a_kept m_undos m_images a_from a_begin a_motor a_change a_startFrame a_changeFrame a_lostAt a_blackAt a_slips a_leftArc a_died a_arcs m_bestSum m_nearest m_nearestTown a_there a_backAt a_sorted a_parts m_seed1 m_darkNow), (cAI g a_r 311 d_r)] [] [0, 1, 2] (m_in l g p1 0 z_18) dX11_mark_23 mw482 mw483 mw5 mw484 yk_yX11_in_3 rfl (Nat.le_of_ble_eq_true rfl) (Nat.le_of_ble_eq_true rfl) (Nat.le_of_ble_eq_true rfl) (Nat.le_of_ble_eq_true rfl) (Nat.le_of_ble_eq_true rfl) rfl rfl (by decide) rfl (by decide) (by decide) ?_
    rintro r_21 w ⟨iv_22, hk_23, hk_24, rfl⟩
    refine k_ws [(cAI g a_st 44 d_st), (cO11_i1r1i10r1i2r5i2r12i3r4i2 h0 m_thrown2_1 a_tape m_taped m_size m_at m_end m_token m_whole m_nameSize m_fault m_place m_trouble2_2 a_letters m_failed m_hasHouse a_r a_fresh a_st a_undone a_kept m_undos m_images a_from a_begin a_motor a_change a_startFrame a_changeFrame a_lostAt a_blackAt a_slips a_leftArc a_died a_arcs m_bestSum m_nearest m_nearestTown a_there a_backAt a_sorted a_parts m_seed1 m_darkNow), (cAI g a_r 311 d_r)] rfl ?_
    refine k_if_eq 38 X dX11_mark_26 (by decide) (fun h_25 => ?_) (fun h_25 => ?_)
    · skip
      have iv_26 : IV r_21 0 0 := iv_meet iv_22 (iv_e h_25 (show IV 0 0 0 from (by decide))) (by decide) (by decide)
      have hc_27 := hk_24 (iv_eq iv_26 (show IV 0 0 0 from (by decide)))
      have j_28 : p1.toInt < 0 ∨ z_18.toInt < p1.toInt := hc_27
      refine k_aload_n X dX11_mark_38 0 rfl ?_
      refine k_iconst (v := 1) X dX11_mark_39 (by decide) ?_
      refine k_callVI (n := 1) (As := [.int 1]) (st := []) X [(cO11_i1r1i10r1i2r5i2r12i3r4i2 h0 m_thrown2_1 a_tape m_taped m_size m_at m_end m_token m_whole m_nameSize m_fault m_place m_trouble2_2 a_letters m_failed m_hasHouse a_r a_fresh a_st a_undone a_kept m_undos m_images a_from a_begin a_motor a_change a_startFrame a_changeFrame a_lostAt a_blackAt a_slips a_leftArc a_died a_arcs m_bestSum m_nearest m_nearestTown a_there a_backAt a_sorted a_parts m_seed1 m_darkNow)] [(cAI g a_st 44 d_st), (cAI g a_r 311 d_r)] [1] [0, 2] (m_no l g h0 1 m_thrown2_1 a_tape m_taped m_size m_at m_end m_token m_whole m_nameSize m_fault m_place m_trouble2_2 a_letters m_failed m_hasHouse a_r a_fresh a_st a_undone a_kept m_undos m_images a_from a_begin a_motor a_change a_startFrame a_changeFrame a_lostAt a_blackAt a_slips a_leftArc a_died a_arcs m_bestSum m_nearest m_nearestTown a_there a_backAt a_sorted a_parts m_seed1 m_darkNow) dX11_mark_40 mw485 mw486 mw487 mw5 mw488 rfl 11 rfl rfl 0 _ rfl yk_yX11_no_1 rfl (Nat.le_of_ble_eq_true rfl) (Nat.le_of_ble_eq_true rfl) (Nat.le_of_ble_eq_true rfl) (Nat.le_of_ble_eq_true rfl) (Nat.le_of_ble_eq_true rfl) rfl rfl (by decide) rfl (by decide) (by decide) ?_
      rintro r_30 w ⟨m_trouble2_29, iv_31, rfl⟩
      refine k_ws [(cAI g a_st 44 d_st), (cAI g a_r 311 d_r), (cO11_i1r1i10r1i2r5i2r12i3r4i2 h0 m_thrown2_1 a_tape m_taped m_size m_at m_end m_token m_whole m_nameSize m_fault m_place m_trouble2_29 a_letters m_failed m_hasHouse a_r a_fresh a_st a_undone a_kept m_undos m_images a_from a_begin a_motor a_change a_startFrame a_changeFrame a_lostAt a_blackAt a_slips a_leftArc a_died a_arcs m_bestSum m_nearest m_nearestTown a_there a_backAt a_sorted a_parts m_seed1 m_darkNow)] rfl ?_
      exact k_iret X hr dX11_mark_43 (Nat.le_of_ble_eq_true rfl) (Nat.le_of_ble_eq_true rfl) [2, 1, 0] (by decide) rfl rfl ⟨m_thrown2_1, m_trouble2_29, rfl⟩
    · skip
      have hc_32 := hk_23.resolve_left h_25
      have j_33 : 0 ≤ p1.toInt := hc_32.1
      have iv_34 : IV p1 0 2147483647 := iv_leR hc_32.1 (show IV 0 0 0 from (by decide)) (iv_any p1) (by decide)
      have j_35 : p1.toInt ≤ z_18.toInt := hc_32.2
      have iv_36 : IV p1 0 3 := iv_leL hc_32.2 iv_34 iv_20 (by decide)
      have iv_37 : IV z_18 0 3 := iv_leR hc_32.2 iv_36 iv_20 (by decide)
      have iv_38 : IV z_15 1 4 := by have := iv_17; have := iv_37; rw [IV]; omega
      have iv_39 : IV r_21 1 1 := iv_neL h_25 iv_22 (show IV 0 0 0 from (by decide)) (by decide)
      refine k_aload_n X dX11_mark_29 0 rfl ?_
      refine k_iload_n X dX11_mark_30 1 rfl ?_
      refine k_iload_n X dX11_mark_31 2 rfl ?_
      refine k_callVI (n := 2) (As := [.int p0, .int p1]) (st := []) X [(cO11_i1r1i10r1i2r5i2r12i3r4i2 h0 m_thrown2_1 a_tape m_taped m_size m_at m_end m_token m_whole m_nameSize m_fault m_place m_trouble2_2 a_letters m_failed m_hasHouse a_r a_fresh a_st a_undone a_kept m_undos m_images a_from a_begin a_motor a_change a_startFrame a_changeFrame a_lostAt a_blackAt a_slips a_leftArc a_died a_arcs m_bestSum m_nearest m_nearestTown a_there a_backAt a_sorted a_parts m_seed1 m_darkNow), (cAI g a_r 311 d_r), (cAI g a_st 44 d_st)] [] [1, 2, 0] [] (m_markOf l g h0 p0 p1 m_thrown2_1 a_tape m_taped m_size m_at m_end m_token m_whole m_nameSize m_fault m_place m_trouble2_2 a_letters m_failed m_hasHouse a_r a_fresh a_st a_undone a_kept m_undos m_images a_from a_begin a_motor a_change a_startFrame a_changeFrame a_lostAt a_blackAt a_slips a_leftArc a_died a_arcs m_bestSum m_nearest m_nearestTown a_there a_backAt a_sorted a_parts m_seed1 m_darkNow d_r d_st hp_d_r) dX11_mark_32 mw703 mw704 mw705 mw5 mw706 rfl 11 rfl rfl 0 _ rfl yk_yX11_markOf_2 rfl (Nat.le_of_ble_eq_true rfl) (Nat.le_of_ble_eq_true rfl) (Nat.le_of_ble_eq_true rfl) (Nat.le_of_ble_eq_true rfl) (Nat.le_of_ble_eq_true rfl) rfl rfl (by decide) rfl (by decide) (by decide) ?_
      rintro r_40 w rfl
      refine k_ws [(cO11_i1r1i10r1i2r5i2r12i3r4i2 h0 m_thrown2_1 a_tape m_taped m_size m_at m_end m_token m_whole m_nameSize m_fault m_place m_trouble2_2 a_letters m_failed m_hasHouse a_r a_fresh a_st a_undone a_kept m_undos m_images a_from a_begin a_motor a_change a_startFrame a_changeFrame a_lostAt a_blackAt a_slips a_leftArc a_died a_arcs m_bestSum m_nearest m_nearestTown a_there a_backAt a_sorted a_parts m_seed1 m_darkNow), (cAI g a_r 311 d_r), (cAI g a_st 44 d_st)] rfl ?_
      refine k_goto 43 X dX11_mark_35 (by decide) ?_
      exact k_iret X hr dX11_mark_43 (Nat.le_of_ble_eq_true rfl) (Nat.le_of_ble_eq_true rfl) [0, 1, 2] (by decide) rfl rfl ⟨m_thrown2_1, m_trouble2_2, rfl⟩

theorem dX11_shows_0 : decode cX11_shows 0 = .ok (.aload_n 0, 1) := dk_42 rfl
theorem dX11_shows_1 : decode cX11_shows 1 = .ok (.invokevirtual 200, 3) := dk_182 rfl rfl rfl rfl
theorem dX11_shows_4 : decode cX11_shows 4 = .ok (.aload_n 0, 1) := dk_42 rfl
theorem dX11_shows_5 : decode cX11_shows 5 = .ok (.iload_n 1, 1) := dk_27 rfl
theorem dX11_shows_6 : decode cX11_shows 6 = .ok (.invokevirtual 345, 3) := dk_182 rfl rfl rfl rfl
theorem dX11_shows_9 : decode cX11_shows 9 = .ok (.ifCond .eq 11, 3) := dk_153 rfl rfl rfl (by decide)
theorem dX11_shows_12 : decode cX11_shows 12 = .ok (.aload_n 0, 1) := dk_42 rfl
theorem dX11_shows_13 : decode cX11_shows 13 = .ok (.iload_n 1, 1) := dk_27 rfl
theorem dX11_shows_14 : decode cX11_shows 14 = .ok (.invokevirtual 324, 3) := dk_182 rfl rfl rfl rfl
theorem dX11_shows_17 : decode cX11_shows 17 = .ok (.goto 8, 3) := dk_167 rfl rfl rfl (by decide)
theorem dX11_shows_20 : decode cX11_shows 20 = .ok (.aload_n 0, 1) := dk_42 rfl
theorem dX11_shows_21 : decode cX11_shows 21 = .ok (.iconst 1, 1) := dk_4 rfl
theorem dX11_shows_22 : decode cX11_shows 22 = .ok (.invokevirtual 203, 3) := dk_182 rfl rfl rfl rfl
theorem dX11_shows_25 : decode cX11_shows 25 = .ok (.ireturn, 1) := dk_172 rfl
set_option maxHeartbeats 4000000 in
set_option maxRecDepth 100000 in
theorem m_shows (l : Launch) (g : Gx) (h0 : Nat) (p0 : Int32) (m_thrown : Int32) (a_tape : Nat) (m_taped : Int32) (m_size : Int32) (m_at : Int32) (m_end : Int32) (m_token : Int32) (m_whole : Int32) (m_nameSize : Int32) (m_fault : Int32) (m_place : Int32) (m_trouble : Int32) (a_letters : Nat) (m_failed : Int32) (m_hasHouse : Int32) (a_r : Nat) (a_fresh : Nat) (a_st : Nat) (a_undone : Nat) (a_kept : Nat) (m_undos : Int32) (m_images : Int32) (a_from : Nat) (a_begin : Nat) (a_motor : Nat) (a_change : Nat) (a_startFrame : Nat) (a_changeFrame : Nat) (a_lostAt : Nat) (a_blackAt : Nat) (a_slips : Nat) (a_leftArc : Nat) (a_died : Nat) (a_arcs : Nat) (m_bestSum : Int32) (m_nearest : Int32) (m_nearestTown : Int32) (a_there : Nat) (a_backAt : Nat) (a_sorted : Nat) (a_parts : Nat) (m_seed1 : Int32) (m_darkNow : Int32) (d_r : Nat → Int32) (hv_m_hasHouse : IV m_hasHouse 0 1) (hp_d_r : RInv d_r) : cI l g yX11_shows cX11_shows 2 (some .int) 2 43 0 0 [.ref h0, .int p0] [(cO11_i1r1i10r1i2r5i2r12i3r4i2 h0 m_thrown a_tape m_taped m_size m_at m_end m_token m_whole m_nameSize m_fault m_place m_trouble a_letters m_failed m_hasHouse a_r a_fresh a_st a_undone a_kept m_undos m_images a_from a_begin a_motor a_change a_startFrame a_changeFrame a_lostAt a_blackAt a_slips a_leftArc a_died a_arcs m_bestSum m_nearest m_nearestTown a_there a_backAt a_sorted a_parts m_seed1 m_darkNow), (cAI g a_r 311 d_r)] (fun r w => ∃ (m_thrown2 : Int32) (m_trouble2 : Int32), w = [(cO11_i1r1i10r1i2r5i2r12i3r4i2 h0 m_thrown2 a_tape m_taped m_size m_at m_end m_token m_whole m_nameSize m_fault m_place m_trouble2 a_letters m_failed m_hasHouse a_r a_fresh a_st a_undone a_kept m_undos m_images a_from a_begin a_motor a_change a_startFrame a_changeFrame a_lostAt a_blackAt a_slips a_leftArc a_died a_arcs m_bestSum m_nearest m_nearestTown a_there a_backAt a_sorted a_parts m_seed1 m_darkNow), (cAI g a_r 311 d_r)]) := by
  refine cI.of (by decide) (Nat.le_of_ble_eq_true rfl) ?_
  intro p e s m args below meth c A X hr hi
  refine k_lveq [(0, .ref h0), (1, .int p0)] rfl ?_
  refine k_aload_n X dX11_shows_0 0 rfl ?_
  refine k_callVV (n := 0) (As := []) (st := []) X [(cO11_i1r1i10r1i2r5i2r12i3r4i2 h0 m_thrown a_tape m_taped m_size m_at m_end m_token m_whole m_nameSize m_fault m_place m_trouble a_letters m_failed m_hasHouse a_r a_fresh a_st a_undone a_kept m_undos m_images a_from a_begin a_motor a_change a_startFrame a_changeFrame a_lostAt a_blackAt a_slips a_leftArc a_died a_arcs m_bestSum m_nearest m_nearestTown a_there a_backAt a_sorted a_parts m_seed1 m_darkNow)] [(cAI g a_r 311 d_r)] [0] [1] (m_good l g h0 m_thrown a_tape m_taped m_size m_at m_end m_token m_whole m_nameSize m_fault m_place m_trouble a_letters m_failed m_hasHouse a_r a_fresh a_st a_undone a_kept m_undos m_images a_from a_begin a_motor a_change a_startFrame a_changeFrame a_lostAt a_blackAt a_slips a_leftArc a_died a_arcs m_bestSum m_nearest m_nearestTown a_there a_backAt a_sorted a_parts m_seed1 m_darkNow) dX11_shows_1 mw477 mw478 mw479 mw5 mw480 rfl 11 rfl rfl 0 _ rfl yk_yX11_good_0 rfl (Nat.le_of_ble_eq_true rfl) (Nat.le_of_ble_eq_true rfl) (Nat.le_of_ble_eq_true rfl) (Nat.le_of_ble_eq_true rfl) (Nat.le_of_ble_eq_true rfl) rfl rfl (by decide) rfl (by decide) (by decide) ?_
  rintro w ⟨m_thrown2_1, m_trouble2_2, rfl⟩
  refine k_ws [(cAI g a_r 311 d_r), (cO11_i1r1i10r1i2r5i2r12i3r4i2 h0 m_thrown2_1 a_tape m_taped m_size m_at m_end m_token m_whole m_nameSize m_fault m_place m_trouble2_2 a_letters m_failed m_hasHouse a_r a_fresh a_st a_undone a_kept m_undos m_images a_from a_begin a_motor a_change a_startFrame a_changeFrame a_lostAt a_blackAt a_slips a_leftArc a_died a_arcs m_bestSum m_nearest m_nearestTown a_there a_backAt a_sorted a_parts m_seed1 m_darkNow)] rfl ?_
  refine k_aload_n X dX11_shows_4 0 rfl ?_
  refine k_iload_n X dX11_shows_5 1 rfl ?_
  refine k_callVI (n := 1) (As := [.int p0]) (st := []) X [(cO11_i1r1i10r1i2r5i2r12i3r4i2 h0 m_thrown2_1 a_tape m_taped m_size m_at m_end m_token m_whole m_nameSize m_fault m_place m_trouble2_2 a_letters m_failed m_hasHouse a_r a_fresh a_st a_undone a_kept m_undos m_images a_from a_begin a_motor a_change a_startFrame a_changeFrame a_lostAt a_blackAt a_slips a_leftArc a_died a_arcs m_bestSum m_nearest m_nearestTown a_there a_backAt a_sorted a_parts m_seed1 m_darkNow), (cAI g a_r 311 d_r)] [] [1, 0] [] (m_isPlace l g h0 p0 m_thrown2_1 a_tape m_taped m_size m_at m_end m_token m_whole m_nameSize m_fault m_place m_trouble2_2 a_letters m_failed m_hasHouse a_r a_fresh a_st a_undone a_kept m_undos m_images a_from a_begin a_motor a_change a_startFrame a_changeFrame a_lostAt a_blackAt a_slips a_leftArc a_died a_arcs m_bestSum m_nearest m_nearestTown a_there a_backAt a_sorted a_parts m_seed1 m_darkNow d_r (iv_w hv_m_hasHouse (by decide) (by decide)) hp_d_r) dX11_shows_6 mw719 mw720 mw721 mw5 mw722 rfl 11 rfl rfl 0 _ rfl yk_yX11_isPlace_1 rfl (Nat.le_of_ble_eq_true rfl) (Nat.le_of_ble_eq_true rfl) (Nat.le_of_ble_eq_true rfl) (Nat.le_of_ble_eq_true rfl) (Nat.le_of_ble_eq_true rfl) rfl rfl (by decide) rfl (by decide) (by decide) ?_
  rintro r_4 w ⟨iv_5, hk_6, rfl⟩
  refine k_ws [(cO11_i1r1i10r1i2r5i2r12i3r4i2 h0 m_thrown2_1 a_tape m_taped m_size m_at m_end m_token m_whole m_nameSize m_fault m_place m_trouble2_2 a_letters m_failed m_hasHouse a_r a_fresh a_st a_undone a_kept m_undos m_images a_from a_begin a_motor a_change a_startFrame a_changeFrame a_lostAt a_blackAt a_slips a_leftArc a_died a_arcs m_bestSum m_nearest m_nearestTown a_there a_backAt a_sorted a_parts m_seed1 m_darkNow), (cAI g a_r 311 d_r)] rfl ?_
  refine k_if_eq 20 X dX11_shows_9 (by decide) (fun h_7 => ?_) (fun h_7 => ?_)
  · skip
    have iv_8 : IV r_4 0 0 := iv_meet iv_5 (iv_e h_7 (show IV 0 0 0 from (by decide))) (by decide) (by decide)
    refine k_aload_n X dX11_shows_20 0 rfl ?_
    refine k_iconst (v := 1) X dX11_shows_21 (by decide) ?_
    refine k_callVI (n := 1) (As := [.int 1]) (st := []) X [(cO11_i1r1i10r1i2r5i2r12i3r4i2 h0 m_thrown2_1 a_tape m_taped m_size m_at m_end m_token m_whole m_nameSize m_fault m_place m_trouble2_2 a_letters m_failed m_hasHouse a_r a_fresh a_st a_undone a_kept m_undos m_images a_from a_begin a_motor a_change a_startFrame a_changeFrame a_lostAt a_blackAt a_slips a_leftArc a_died a_arcs m_bestSum m_nearest m_nearestTown a_there a_backAt a_sorted a_parts m_seed1 m_darkNow)] [(cAI g a_r 311 d_r)] [0] [1] (m_no l g h0 1 m_thrown2_1 a_tape m_taped m_size m_at m_end m_token m_whole m_nameSize m_fault m_place m_trouble2_2 a_letters m_failed m_hasHouse a_r a_fresh a_st a_undone a_kept m_undos m_images a_from a_begin a_motor a_change a_startFrame a_changeFrame a_lostAt a_blackAt a_slips a_leftArc a_died a_arcs m_bestSum m_nearest m_nearestTown a_there a_backAt a_sorted a_parts m_seed1 m_darkNow) dX11_shows_22 mw485 mw486 mw487 mw5 mw488 rfl 11 rfl rfl 0 _ rfl yk_yX11_no_1 rfl (Nat.le_of_ble_eq_true rfl) (Nat.le_of_ble_eq_true rfl) (Nat.le_of_ble_eq_true rfl) (Nat.le_of_ble_eq_true rfl) (Nat.le_of_ble_eq_true rfl) rfl rfl (by decide) rfl (by decide) (by decide) ?_
    rintro r_10 w ⟨m_trouble2_9, iv_11, rfl⟩
    refine k_ws [(cAI g a_r 311 d_r), (cO11_i1r1i10r1i2r5i2r12i3r4i2 h0 m_thrown2_1 a_tape m_taped m_size m_at m_end m_token m_whole m_nameSize m_fault m_place m_trouble2_9 a_letters m_failed m_hasHouse a_r a_fresh a_st a_undone a_kept m_undos m_images a_from a_begin a_motor a_change a_startFrame a_changeFrame a_lostAt a_blackAt a_slips a_leftArc a_died a_arcs m_bestSum m_nearest m_nearestTown a_there a_backAt a_sorted a_parts m_seed1 m_darkNow)] rfl ?_
    exact k_iret X hr dX11_shows_25 (Nat.le_of_ble_eq_true rfl) (Nat.le_of_ble_eq_true rfl) [1, 0] (by decide) rfl rfl ⟨m_thrown2_1, m_trouble2_9, rfl⟩
  · skip
    have hc_12 := hk_6.resolve_left h_7
    have iv_13 : IV p0 0 7 := iv_meet (iv_any p0) hc_12.1 (by decide) (by decide)
    have j_14 : p0.toInt < (d_r 12).toInt := hc_12.2
    have iv_15 : IV r_4 1 1 := iv_neL h_7 iv_5 (show IV 0 0 0 from (by decide)) (by decide)
    refine k_aload_n X dX11_shows_12 0 rfl ?_
    refine k_iload_n X dX11_shows_13 1 rfl ?_
    refine k_callVI (n := 1) (As := [.int p0]) (st := []) X [(cO11_i1r1i10r1i2r5i2r12i3r4i2 h0 m_thrown2_1 a_tape m_taped m_size m_at m_end m_token m_whole m_nameSize m_fault m_place m_trouble2_2 a_letters m_failed m_hasHouse a_r a_fresh a_st a_undone a_kept m_undos m_images a_from a_begin a_motor a_change a_startFrame a_changeFrame a_lostAt a_blackAt a_slips a_leftArc a_died a_arcs m_bestSum m_nearest m_nearestTown a_there a_backAt a_sorted a_parts m_seed1 m_darkNow), (cAI g a_r 311 d_r)] [] [0, 1] [] (m_reelAt l g h0 p0 m_thrown2_1 a_tape m_taped m_size m_at m_end m_token m_whole m_nameSize m_fault m_place m_trouble2_2 a_letters m_failed m_hasHouse a_r a_fresh a_st a_undone a_kept m_undos m_images a_from a_begin a_motor a_change a_startFrame a_changeFrame a_lostAt a_blackAt a_slips a_leftArc a_died a_arcs m_bestSum m_nearest m_nearestTown a_there a_backAt a_sorted a_parts m_seed1 m_darkNow d_r (iv_w iv_13 (by decide) (by decide)) hp_d_r) dX11_shows_14 mw723 mw724 mw725 mw5 mw726 rfl 11 rfl rfl 0 _ rfl yk_yX11_reelAt_1 rfl (Nat.le_of_ble_eq_true rfl) (Nat.le_of_ble_eq_true rfl) (Nat.le_of_ble_eq_true rfl) (Nat.le_of_ble_eq_true rfl) (Nat.le_of_ble_eq_true rfl) rfl rfl (by decide) rfl (by decide) (by decide) ?_
    rintro r_16 w ⟨iv_17, rfl⟩
    refine k_ws [(cO11_i1r1i10r1i2r5i2r12i3r4i2 h0 m_thrown2_1 a_tape m_taped m_size m_at m_end m_token m_whole m_nameSize m_fault m_place m_trouble2_2 a_letters m_failed m_hasHouse a_r a_fresh a_st a_undone a_kept m_undos m_images a_from a_begin a_motor a_change a_startFrame a_changeFrame a_lostAt a_blackAt a_slips a_leftArc a_died a_arcs m_bestSum m_nearest m_nearestTown a_there a_backAt a_sorted a_parts m_seed1 m_darkNow), (cAI g a_r 311 d_r)] rfl ?_
    refine k_goto 25 X dX11_shows_17 (by decide) ?_
    exact k_iret X hr dX11_shows_25 (Nat.le_of_ble_eq_true rfl) (Nat.le_of_ble_eq_true rfl) [0, 1] (by decide) rfl rfl ⟨m_thrown2_1, m_trouble2_2, rfl⟩

theorem dX11_thread_0 : decode cX11_thread 0 = .ok (.aload_n 0, 1) := dk_42 rfl
theorem dX11_thread_1 : decode cX11_thread 1 = .ok (.invokevirtual 200, 3) := dk_182 rfl rfl rfl rfl
theorem dX11_thread_4 : decode cX11_thread 4 = .ok (.aload_n 0, 1) := dk_42 rfl
theorem dX11_thread_5 : decode cX11_thread 5 = .ok (.iload_n 1, 1) := dk_27 rfl
theorem dX11_thread_6 : decode cX11_thread 6 = .ok (.invokevirtual 345, 3) := dk_182 rfl rfl rfl rfl
theorem dX11_thread_9 : decode cX11_thread 9 = .ok (.ifCond .eq 15, 3) := dk_153 rfl rfl rfl (by decide)
theorem dX11_thread_12 : decode cX11_thread 12 = .ok (.aload_n 0, 1) := dk_42 rfl
theorem dX11_thread_13 : decode cX11_thread 13 = .ok (.getfield 26, 3) := dk_180 rfl rfl rfl rfl
theorem dX11_thread_16 : decode cX11_thread 16 = .ok (.bipush 34, 2) := dk_16 rfl rfl (by decide)
theorem dX11_thread_18 : decode cX11_thread 18 = .ok (.iload_n 1, 1) := dk_27 rfl
theorem dX11_thread_19 : decode cX11_thread 19 = .ok (.iadd, 1) := dk_96 rfl
theorem dX11_thread_20 : decode cX11_thread 20 = .ok (.iaload, 1) := dk_46 rfl
theorem dX11_thread_21 : decode cX11_thread 21 = .ok (.goto 8, 3) := dk_167 rfl rfl rfl (by decide)
theorem dX11_thread_24 : decode cX11_thread 24 = .ok (.aload_n 0, 1) := dk_42 rfl
theorem dX11_thread_25 : decode cX11_thread 25 = .ok (.iconst 1, 1) := dk_4 rfl
theorem dX11_thread_26 : decode cX11_thread 26 = .ok (.invokevirtual 203, 3) := dk_182 rfl rfl rfl rfl
theorem dX11_thread_29 : decode cX11_thread 29 = .ok (.ireturn, 1) := dk_172 rfl
set_option maxHeartbeats 4000000 in
set_option maxRecDepth 100000 in
theorem m_thread (l : Launch) (g : Gx) (h0 : Nat) (p0 : Int32) (m_thrown : Int32) (a_tape : Nat) (m_taped : Int32) (m_size : Int32) (m_at : Int32) (m_end : Int32) (m_token : Int32) (m_whole : Int32) (m_nameSize : Int32) (m_fault : Int32) (m_place : Int32) (m_trouble : Int32) (a_letters : Nat) (m_failed : Int32) (m_hasHouse : Int32) (a_r : Nat) (a_fresh : Nat) (a_st : Nat) (a_undone : Nat) (a_kept : Nat) (m_undos : Int32) (m_images : Int32) (a_from : Nat) (a_begin : Nat) (a_motor : Nat) (a_change : Nat) (a_startFrame : Nat) (a_changeFrame : Nat) (a_lostAt : Nat) (a_blackAt : Nat) (a_slips : Nat) (a_leftArc : Nat) (a_died : Nat) (a_arcs : Nat) (m_bestSum : Int32) (m_nearest : Int32) (m_nearestTown : Int32) (a_there : Nat) (a_backAt : Nat) (a_sorted : Nat) (a_parts : Nat) (m_seed1 : Int32) (m_darkNow : Int32) (d_r : Nat → Int32) (d_st : Nat → Int32) (hv_m_hasHouse : IV m_hasHouse 0 1) (hp_d_r : RInv d_r) : cI l g yX11_thread cX11_thread 2 (some .int) 2 43 0 0 [.ref h0, .int p0] [(cO11_i1r1i10r1i2r5i2r12i3r4i2 h0 m_thrown a_tape m_taped m_size m_at m_end m_token m_whole m_nameSize m_fault m_place m_trouble a_letters m_failed m_hasHouse a_r a_fresh a_st a_undone a_kept m_undos m_images a_from a_begin a_motor a_change a_startFrame a_changeFrame a_lostAt a_blackAt a_slips a_leftArc a_died a_arcs m_bestSum m_nearest m_nearestTown a_there a_backAt a_sorted a_parts m_seed1 m_darkNow), (cAI g a_r 311 d_r), (cAI g a_st 44 d_st)] (fun r w => ∃ (m_thrown2 : Int32) (m_trouble2 : Int32), w = [(cO11_i1r1i10r1i2r5i2r12i3r4i2 h0 m_thrown2 a_tape m_taped m_size m_at m_end m_token m_whole m_nameSize m_fault m_place m_trouble2 a_letters m_failed m_hasHouse a_r a_fresh a_st a_undone a_kept m_undos m_images a_from a_begin a_motor a_change a_startFrame a_changeFrame a_lostAt a_blackAt a_slips a_leftArc a_died a_arcs m_bestSum m_nearest m_nearestTown a_there a_backAt a_sorted a_parts m_seed1 m_darkNow), (cAI g a_r 311 d_r), (cAI g a_st 44 d_st)]) := by
  refine cI.of (by decide) (Nat.le_of_ble_eq_true rfl) ?_
  intro p e s m args below meth c A X hr hi
  refine k_lveq [(0, .ref h0), (1, .int p0)] rfl ?_
  refine k_aload_n X dX11_thread_0 0 rfl ?_
  refine k_callVV (n := 0) (As := []) (st := []) X [(cO11_i1r1i10r1i2r5i2r12i3r4i2 h0 m_thrown a_tape m_taped m_size m_at m_end m_token m_whole m_nameSize m_fault m_place m_trouble a_letters m_failed m_hasHouse a_r a_fresh a_st a_undone a_kept m_undos m_images a_from a_begin a_motor a_change a_startFrame a_changeFrame a_lostAt a_blackAt a_slips a_leftArc a_died a_arcs m_bestSum m_nearest m_nearestTown a_there a_backAt a_sorted a_parts m_seed1 m_darkNow)] [(cAI g a_r 311 d_r), (cAI g a_st 44 d_st)] [0] [1, 2] (m_good l g h0 m_thrown a_tape m_taped m_size m_at m_end m_token m_whole m_nameSize m_fault m_place m_trouble a_letters m_failed m_hasHouse a_r a_fresh a_st a_undone a_kept m_undos m_images a_from a_begin a_motor a_change a_startFrame a_changeFrame a_lostAt a_blackAt a_slips a_leftArc a_died a_arcs m_bestSum m_nearest m_nearestTown a_there a_backAt a_sorted a_parts m_seed1 m_darkNow) dX11_thread_1 mw477 mw478 mw479 mw5 mw480 rfl 11 rfl rfl 0 _ rfl yk_yX11_good_0 rfl (Nat.le_of_ble_eq_true rfl) (Nat.le_of_ble_eq_true rfl) (Nat.le_of_ble_eq_true rfl) (Nat.le_of_ble_eq_true rfl) (Nat.le_of_ble_eq_true rfl) rfl rfl (by decide) rfl (by decide) (by decide) ?_
  rintro w ⟨m_thrown2_1, m_trouble2_2, rfl⟩
  refine k_ws [(cAI g a_r 311 d_r), (cAI g a_st 44 d_st), (cO11_i1r1i10r1i2r5i2r12i3r4i2 h0 m_thrown2_1 a_tape m_taped m_size m_at m_end m_token m_whole m_nameSize m_fault m_place m_trouble2_2 a_letters m_failed m_hasHouse a_r a_fresh a_st a_undone a_kept m_undos m_images a_from a_begin a_motor a_change a_startFrame a_changeFrame a_lostAt a_blackAt a_slips a_leftArc a_died a_arcs m_bestSum m_nearest m_nearestTown a_there a_backAt a_sorted a_parts m_seed1 m_darkNow)] rfl ?_
  refine k_aload_n X dX11_thread_4 0 rfl ?_
  refine k_iload_n X dX11_thread_5 1 rfl ?_
  refine k_callVI (n := 1) (As := [.int p0]) (st := []) X [(cO11_i1r1i10r1i2r5i2r12i3r4i2 h0 m_thrown2_1 a_tape m_taped m_size m_at m_end m_token m_whole m_nameSize m_fault m_place m_trouble2_2 a_letters m_failed m_hasHouse a_r a_fresh a_st a_undone a_kept m_undos m_images a_from a_begin a_motor a_change a_startFrame a_changeFrame a_lostAt a_blackAt a_slips a_leftArc a_died a_arcs m_bestSum m_nearest m_nearestTown a_there a_backAt a_sorted a_parts m_seed1 m_darkNow), (cAI g a_r 311 d_r)] [(cAI g a_st 44 d_st)] [2, 0] [1] (m_isPlace l g h0 p0 m_thrown2_1 a_tape m_taped m_size m_at m_end m_token m_whole m_nameSize m_fault m_place m_trouble2_2 a_letters m_failed m_hasHouse a_r a_fresh a_st a_undone a_kept m_undos m_images a_from a_begin a_motor a_change a_startFrame a_changeFrame a_lostAt a_blackAt a_slips a_leftArc a_died a_arcs m_bestSum m_nearest m_nearestTown a_there a_backAt a_sorted a_parts m_seed1 m_darkNow d_r (iv_w hv_m_hasHouse (by decide) (by decide)) hp_d_r) dX11_thread_6 mw719 mw720 mw721 mw5 mw722 rfl 11 rfl rfl 0 _ rfl yk_yX11_isPlace_1 rfl (Nat.le_of_ble_eq_true rfl) (Nat.le_of_ble_eq_true rfl) (Nat.le_of_ble_eq_true rfl) (Nat.le_of_ble_eq_true rfl) (Nat.le_of_ble_eq_true rfl) rfl rfl (by decide) rfl (by decide) (by decide) ?_
  rintro r_4 w ⟨iv_5, hk_6, rfl⟩
  refine k_ws [(cAI g a_st 44 d_st), (cO11_i1r1i10r1i2r5i2r12i3r4i2 h0 m_thrown2_1 a_tape m_taped m_size m_at m_end m_token m_whole m_nameSize m_fault m_place m_trouble2_2 a_letters m_failed m_hasHouse a_r a_fresh a_st a_undone a_kept m_undos m_images a_from a_begin a_motor a_change a_startFrame a_changeFrame a_lostAt a_blackAt a_slips a_leftArc a_died a_arcs m_bestSum m_nearest m_nearestTown a_there a_backAt a_sorted a_parts m_seed1 m_darkNow), (cAI g a_r 311 d_r)] rfl ?_
  refine k_if_eq 24 X dX11_thread_9 (by decide) (fun h_7 => ?_) (fun h_7 => ?_)
  · skip
    have iv_8 : IV r_4 0 0 := iv_meet iv_5 (iv_e h_7 (show IV 0 0 0 from (by decide))) (by decide) (by decide)
    refine k_aload_n X dX11_thread_24 0 rfl ?_
    refine k_iconst (v := 1) X dX11_thread_25 (by decide) ?_
    refine k_callVI (n := 1) (As := [.int 1]) (st := []) X [(cO11_i1r1i10r1i2r5i2r12i3r4i2 h0 m_thrown2_1 a_tape m_taped m_size m_at m_end m_token m_whole m_nameSize m_fault m_place m_trouble2_2 a_letters m_failed m_hasHouse a_r a_fresh a_st a_undone a_kept m_undos m_images a_from a_begin a_motor a_change a_startFrame a_changeFrame a_lostAt a_blackAt a_slips a_leftArc a_died a_arcs m_bestSum m_nearest m_nearestTown a_there a_backAt a_sorted a_parts m_seed1 m_darkNow)] [(cAI g a_st 44 d_st), (cAI g a_r 311 d_r)] [1] [0, 2] (m_no l g h0 1 m_thrown2_1 a_tape m_taped m_size m_at m_end m_token m_whole m_nameSize m_fault m_place m_trouble2_2 a_letters m_failed m_hasHouse a_r a_fresh a_st a_undone a_kept m_undos m_images a_from a_begin a_motor a_change a_startFrame a_changeFrame a_lostAt a_blackAt a_slips a_leftArc a_died a_arcs m_bestSum m_nearest m_nearestTown a_there a_backAt a_sorted a_parts m_seed1 m_darkNow) dX11_thread_26 mw485 mw486 mw487 mw5 mw488 rfl 11 rfl rfl 0 _ rfl yk_yX11_no_1 rfl (Nat.le_of_ble_eq_true rfl) (Nat.le_of_ble_eq_true rfl) (Nat.le_of_ble_eq_true rfl) (Nat.le_of_ble_eq_true rfl) (Nat.le_of_ble_eq_true rfl) rfl rfl (by decide) rfl (by decide) (by decide) ?_
    rintro r_10 w ⟨m_trouble2_9, iv_11, rfl⟩
    refine k_ws [(cAI g a_st 44 d_st), (cAI g a_r 311 d_r), (cO11_i1r1i10r1i2r5i2r12i3r4i2 h0 m_thrown2_1 a_tape m_taped m_size m_at m_end m_token m_whole m_nameSize m_fault m_place m_trouble2_9 a_letters m_failed m_hasHouse a_r a_fresh a_st a_undone a_kept m_undos m_images a_from a_begin a_motor a_change a_startFrame a_changeFrame a_lostAt a_blackAt a_slips a_leftArc a_died a_arcs m_bestSum m_nearest m_nearestTown a_there a_backAt a_sorted a_parts m_seed1 m_darkNow)] rfl ?_
    exact k_iret X hr dX11_thread_29 (Nat.le_of_ble_eq_true rfl) (Nat.le_of_ble_eq_true rfl) [2, 1, 0] (by decide) rfl rfl ⟨m_thrown2_1, m_trouble2_9, rfl⟩
  · skip
    have hc_12 := hk_6.resolve_left h_7
    have iv_13 : IV p0 0 7 := iv_meet (iv_any p0) hc_12.1 (by decide) (by decide)
    have j_14 : p0.toInt < (d_r 12).toInt := hc_12.2
    have iv_15 : IV r_4 1 1 := iv_neL h_7 iv_5 (show IV 0 0 0 from (by decide)) (by decide)
    refine k_aload_n X dX11_thread_12 0 rfl ?_
    refine k_get (ci := 11) X inlX11 rfl 17 (by decide) dX11_thread_13 mw172 1 rfl rfl ?_
    refine k_bipush (v := 34) X dX11_thread_16 (by decide) ?_
    refine k_iload_n X dX11_thread_18 1 rfl ?_
    refine k_iadd X dX11_thread_19 ?_
    refine k_nm (fun z_16 ez_16 => ?_)
    have i_17 : z_16.toInt = 34 + p0.toInt := in_add ez_16 (show IV 34 34 34 from (by decide)) iv_13 (by decide) (by decide)
    have iv_18 : IV z_16 34 41 := iz2 i_17 iv_13 (by decide) (by decide)
    refine k_iald X dX11_thread_20 0 rfl (iv_in iv_18 (by decide) (by decide)) ?_
    refine k_nm (fun z_19 ez_19 => ?_)
    refine k_goto 29 X dX11_thread_21 (by decide) ?_
    exact k_iret X hr dX11_thread_29 (Nat.le_of_ble_eq_true rfl) (Nat.le_of_ble_eq_true rfl) [1, 2, 0] (by decide) rfl rfl ⟨m_thrown2_1, m_trouble2_2, rfl⟩

theorem dX11_believesOf_0 : decode cX11_believesOf 0 = .ok (.aload_n 0, 1) := dk_42 rfl
theorem dX11_believesOf_1 : decode cX11_believesOf 1 = .ok (.iload_n 2, 1) := dk_28 rfl
theorem dX11_believesOf_2 : decode cX11_believesOf 2 = .ok (.invokevirtual 324, 3) := dk_182 rfl rfl rfl rfl
theorem dX11_believesOf_5 : decode cX11_believesOf 5 = .ok (.istore_n 3, 1) := dk_62 rfl
theorem dX11_believesOf_6 : decode cX11_believesOf 6 = .ok (.aload_n 0, 1) := dk_42 rfl
theorem dX11_believesOf_7 : decode cX11_believesOf 7 = .ok (.getfield 20, 3) := dk_180 rfl rfl rfl rfl
theorem dX11_believesOf_10 : decode cX11_believesOf 10 = .ok (.bipush 114, 2) := dk_16 rfl rfl (by decide)
theorem dX11_believesOf_12 : decode cX11_believesOf 12 = .ok (.iconst 3, 1) := dk_6 rfl
theorem dX11_believesOf_13 : decode cX11_believesOf 13 = .ok (.iload_n 1, 1) := dk_27 rfl
theorem dX11_believesOf_14 : decode cX11_believesOf 14 = .ok (.imul, 1) := dk_104 rfl
theorem dX11_believesOf_15 : decode cX11_believesOf 15 = .ok (.iadd, 1) := dk_96 rfl
theorem dX11_believesOf_16 : decode cX11_believesOf 16 = .ok (.iaload, 1) := dk_46 rfl
theorem dX11_believesOf_17 : decode cX11_believesOf 17 = .ok (.istore 4, 2) := dk_54 rfl rfl rfl
theorem dX11_believesOf_19 : decode cX11_believesOf 19 = .ok (.aload_n 0, 1) := dk_42 rfl
theorem dX11_believesOf_20 : decode cX11_believesOf 20 = .ok (.getfield 26, 3) := dk_180 rfl rfl rfl rfl
theorem dX11_believesOf_23 : decode cX11_believesOf 23 = .ok (.bipush 8, 2) := dk_16 rfl rfl (by decide)
theorem dX11_believesOf_25 : decode cX11_believesOf 25 = .ok (.iload_n 3, 1) := dk_29 rfl
theorem dX11_believesOf_26 : decode cX11_believesOf 26 = .ok (.iadd, 1) := dk_96 rfl
theorem dX11_believesOf_27 : decode cX11_believesOf 27 = .ok (.iaload, 1) := dk_46 rfl
theorem dX11_believesOf_28 : decode cX11_believesOf 28 = .ok (.istore 5, 2) := dk_54 rfl rfl rfl
theorem dX11_believesOf_30 : decode cX11_believesOf 30 = .ok (.iload 4, 2) := dk_21 rfl rfl rfl
theorem dX11_believesOf_32 : decode cX11_believesOf 32 = .ok (.iconst 3, 1) := dk_6 rfl
theorem dX11_believesOf_33 : decode cX11_believesOf 33 = .ok (.if_icmp .ne 36, 3) := dk_160 rfl rfl rfl (by decide)
theorem dX11_believesOf_36 : decode cX11_believesOf 36 = .ok (.aload_n 0, 1) := dk_42 rfl
theorem dX11_believesOf_37 : decode cX11_believesOf 37 = .ok (.iload_n 3, 1) := dk_29 rfl
theorem dX11_believesOf_38 : decode cX11_believesOf 38 = .ok (.aload_n 0, 1) := dk_42 rfl
theorem dX11_believesOf_39 : decode cX11_believesOf 39 = .ok (.getfield 20, 3) := dk_180 rfl rfl rfl rfl
theorem dX11_believesOf_42 : decode cX11_believesOf 42 = .ok (.bipush 114, 2) := dk_16 rfl rfl (by decide)
theorem dX11_believesOf_44 : decode cX11_believesOf 44 = .ok (.iconst 3, 1) := dk_6 rfl
theorem dX11_believesOf_45 : decode cX11_believesOf 45 = .ok (.iload_n 1, 1) := dk_27 rfl
theorem dX11_believesOf_46 : decode cX11_believesOf 46 = .ok (.imul, 1) := dk_104 rfl
theorem dX11_believesOf_47 : decode cX11_believesOf 47 = .ok (.iadd, 1) := dk_96 rfl
theorem dX11_believesOf_48 : decode cX11_believesOf 48 = .ok (.iconst 1, 1) := dk_4 rfl
theorem dX11_believesOf_49 : decode cX11_believesOf 49 = .ok (.iadd, 1) := dk_96 rfl
theorem dX11_believesOf_50 : decode cX11_believesOf 50 = .ok (.iaload, 1) := dk_46 rfl
theorem dX11_believesOf_51 : decode cX11_believesOf 51 = .ok (.invokevirtual 342, 3) := dk_182 rfl rfl rfl rfl
theorem dX11_believesOf_54 : decode cX11_believesOf 54 = .ok (.istore 6, 2) := dk_54 rfl rfl rfl
theorem dX11_believesOf_56 : decode cX11_believesOf 56 = .ok (.iload 6, 2) := dk_21 rfl rfl rfl
theorem dX11_believesOf_58 : decode cX11_believesOf 58 = .ok (.ifCond .ge 8, 3) := dk_156 rfl rfl rfl (by decide)
theorem dX11_believesOf_61 : decode cX11_believesOf 61 = .ok (.iload 5, 2) := dk_21 rfl rfl rfl
theorem dX11_believesOf_63 : decode cX11_believesOf 63 = .ok (.goto 5, 3) := dk_167 rfl rfl rfl (by decide)
theorem dX11_believesOf_66 : decode cX11_believesOf 66 = .ok (.iload 6, 2) := dk_21 rfl rfl rfl
theorem dX11_believesOf_68 : decode cX11_believesOf 68 = .ok (.ireturn, 1) := dk_172 rfl
theorem dX11_believesOf_69 : decode cX11_believesOf 69 = .ok (.iconst 0, 1) := dk_3 rfl
theorem dX11_believesOf_70 : decode cX11_believesOf 70 = .ok (.istore 6, 2) := dk_54 rfl rfl rfl
theorem dX11_believesOf_72 : decode cX11_believesOf 72 = .ok (.iload 6, 2) := dk_21 rfl rfl rfl
theorem dX11_believesOf_74 : decode cX11_believesOf 74 = .ok (.aload_n 0, 1) := dk_42 rfl
theorem dX11_believesOf_75 : decode cX11_believesOf 75 = .ok (.getfield 20, 3) := dk_180 rfl rfl rfl rfl
theorem dX11_believesOf_78 : decode cX11_believesOf 78 = .ok (.bipush 8, 2) := dk_16 rfl rfl (by decide)
theorem dX11_believesOf_80 : decode cX11_believesOf 80 = .ok (.iaload, 1) := dk_46 rfl
theorem dX11_believesOf_81 : decode cX11_believesOf 81 = .ok (.if_icmp .ge 71, 3) := dk_162 rfl rfl rfl (by decide)
theorem dX11_believesOf_84 : decode cX11_believesOf 84 = .ok (.iload 4, 2) := dk_21 rfl rfl rfl
theorem dX11_believesOf_86 : decode cX11_believesOf 86 = .ok (.ifCond .eq 66, 3) := dk_153 rfl rfl rfl (by decide)
theorem dX11_believesOf_89 : decode cX11_believesOf 89 = .ok (.aload_n 0, 1) := dk_42 rfl
theorem dX11_believesOf_90 : decode cX11_believesOf 90 = .ok (.getfield 20, 3) := dk_180 rfl rfl rfl rfl
theorem dX11_believesOf_93 : decode cX11_believesOf 93 = .ok (.bipush 44, 2) := dk_16 rfl rfl (by decide)
theorem dX11_believesOf_95 : decode cX11_believesOf 95 = .ok (.iconst 3, 1) := dk_6 rfl
theorem dX11_believesOf_96 : decode cX11_believesOf 96 = .ok (.iload 6, 2) := dk_21 rfl rfl rfl
theorem dX11_believesOf_98 : decode cX11_believesOf 98 = .ok (.imul, 1) := by decide +kernel
theorem dX11_believesOf_99 : decode cX11_believesOf 99 = .ok (.iadd, 1) := by decide +kernel
theorem dX11_believesOf_100 : decode cX11_believesOf 100 = .ok (.iaload, 1) := by decide +kernel
theorem dX11_believesOf_101 : decode cX11_believesOf 101 = .ok (.iload_n 3, 1) := by decide +kernel
theorem dX11_believesOf_102 : decode cX11_believesOf 102 = .ok (.if_icmp .ne 44, 3) := by decide +kernel
theorem dX11_believesOf_105 : decode cX11_believesOf 105 = .ok (.iload 4, 2) := by decide +kernel
theorem dX11_believesOf_107 : decode cX11_believesOf 107 = .ok (.iconst 1, 1) := by decide +kernel
theorem dX11_believesOf_108 : decode cX11_believesOf 108 = .ok (.if_icmp .ne 21, 3) := by decide +kernel
theorem dX11_believesOf_111 : decode cX11_believesOf 111 = .ok (.iload 5, 2) := by decide +kernel
theorem dX11_believesOf_113 : decode cX11_believesOf 113 = .ok (.aload_n 0, 1) := by decide +kernel
theorem dX11_believesOf_114 : decode cX11_believesOf 114 = .ok (.getfield 26, 3) := by decide +kernel
theorem dX11_believesOf_117 : decode cX11_believesOf 117 = .ok (.bipush 16, 2) := by decide +kernel
theorem dX11_believesOf_119 : decode cX11_believesOf 119 = .ok (.iload 6, 2) := by decide +kernel
theorem dX11_believesOf_121 : decode cX11_believesOf 121 = .ok (.iadd, 1) := by decide +kernel
theorem dX11_believesOf_122 : decode cX11_believesOf 122 = .ok (.iaload, 1) := by decide +kernel
theorem dX11_believesOf_123 : decode cX11_believesOf 123 = .ok (.invokestatic 348, 3) := by decide +kernel
theorem dX11_believesOf_126 : decode cX11_believesOf 126 = .ok (.goto 18, 3) := by decide +kernel
theorem dX11_believesOf_129 : decode cX11_believesOf 129 = .ok (.iload 5, 2) := by decide +kernel
theorem dX11_believesOf_131 : decode cX11_believesOf 131 = .ok (.aload_n 0, 1) := by decide +kernel
theorem dX11_believesOf_132 : decode cX11_believesOf 132 = .ok (.getfield 26, 3) := by decide +kernel
theorem dX11_believesOf_135 : decode cX11_believesOf 135 = .ok (.bipush 16, 2) := by decide +kernel
theorem dX11_believesOf_137 : decode cX11_believesOf 137 = .ok (.iload 6, 2) := by decide +kernel
theorem dX11_believesOf_139 : decode cX11_believesOf 139 = .ok (.iadd, 1) := by decide +kernel
theorem dX11_believesOf_140 : decode cX11_believesOf 140 = .ok (.iaload, 1) := by decide +kernel
theorem dX11_believesOf_141 : decode cX11_believesOf 141 = .ok (.invokestatic 351, 3) := by decide +kernel
theorem dX11_believesOf_144 : decode cX11_believesOf 144 = .ok (.istore 5, 2) := by decide +kernel
theorem dX11_believesOf_146 : decode cX11_believesOf 146 = .ok (.iinc 6 1, 3) := by decide +kernel
theorem dX11_believesOf_149 : decode cX11_believesOf 149 = .ok (.goto (-77), 3) := by decide +kernel
theorem dX11_believesOf_152 : decode cX11_believesOf 152 = .ok (.iload 5, 2) := by decide +kernel
theorem dX11_believesOf_154 : decode cX11_believesOf 154 = .ok (.ireturn, 1) := by decide +kernel
set_option maxHeartbeats 4000000 in
set_option maxRecDepth 100000 in
theorem m_believesOf (l : Launch) (g : Gx) (h0 : Nat) (p0 : Int32) (p1 : Int32) (m_thrown : Int32) (a_tape : Nat) (m_taped : Int32) (m_size : Int32) (m_at : Int32) (m_end : Int32) (m_token : Int32) (m_whole : Int32) (m_nameSize : Int32) (m_fault : Int32) (m_place : Int32) (m_trouble : Int32) (a_letters : Nat) (m_failed : Int32) (m_hasHouse : Int32) (a_r : Nat) (a_fresh : Nat) (a_st : Nat) (a_undone : Nat) (a_kept : Nat) (m_undos : Int32) (m_images : Int32) (a_from : Nat) (a_begin : Nat) (a_motor : Nat) (a_change : Nat) (a_startFrame : Nat) (a_changeFrame : Nat) (a_lostAt : Nat) (a_blackAt : Nat) (a_slips : Nat) (a_leftArc : Nat) (a_died : Nat) (a_arcs : Nat) (m_bestSum : Int32) (m_nearest : Int32) (m_nearestTown : Int32) (a_there : Nat) (a_backAt : Nat) (a_sorted : Nat) (a_parts : Nat) (m_seed1 : Int32) (m_darkNow : Int32) (d_r : Nat → Int32) (d_st : Nat → Int32) (hv_p0 : IV p0 0 3) (hv_p1 : IV p1 0 7) (hp_d_r : RInv d_r) : cI l g yX11_believesOf cX11_believesOf 7 (some .int) 1 23 0 0 [.ref h0, .int p0, .int p1] [(cO11_i1r1i10r1i2r5i2r12i3r4i2 h0 m_thrown a_tape m_taped m_size m_at m_end m_token m_whole m_nameSize m_fault m_place m_trouble a_letters m_failed m_hasHouse a_r a_fresh a_st a_undone a_kept m_undos m_images a_from a_begin a_motor a_change a_startFrame a_changeFrame a_lostAt a_blackAt a_slips a_leftArc a_died a_arcs m_bestSum m_nearest m_nearestTown a_there a_backAt a_sorted a_parts m_seed1 m_darkNow), (cAI g a_r 311 d_r), (cAI g a_st 44 d_st)] (fun r w => w = [(cO11_i1r1i10r1i2r5i2r12i3r4i2 h0 m_thrown a_tape m_taped m_size m_at m_end m_token m_whole m_nameSize m_fault m_place m_trouble a_letters m_failed m_hasHouse a_r a_fresh a_st a_undone a_kept m_undos m_images a_from a_begin a_motor a_change a_startFrame a_changeFrame a_lostAt a_blackAt a_slips a_leftArc a_died a_arcs m_bestSum m_nearest m_nearestTown a_there a_backAt a_sorted a_parts m_seed1 m_darkNow), (cAI g a_r 311 d_r), (cAI g a_st 44 d_st)]) := by
  refine cI.of (by decide) (Nat.le_of_ble_eq_true rfl) ?_
  intro p e s m args below meth c A X hr hi
  refine k_lveq [(0, .ref h0), (1, .int p0), (2, .int p1)] rfl ?_
  refine k_aload_n X dX11_believesOf_0 0 rfl ?_
  refine k_iload_n X dX11_believesOf_1 2 rfl ?_
  refine k_callVI (n := 1) (As := [.int p1]) (st := []) X [(cO11_i1r1i10r1i2r5i2r12i3r4i2 h0 m_thrown a_tape m_taped m_size m_at m_end m_token m_whole m_nameSize m_fault m_place m_trouble a_letters m_failed m_hasHouse a_r a_fresh a_st a_undone a_kept m_undos m_images a_from a_begin a_motor a_change a_startFrame a_changeFrame a_lostAt a_blackAt a_slips a_leftArc a_died a_arcs m_bestSum m_nearest m_nearestTown a_there a_backAt a_sorted a_parts m_seed1 m_darkNow), (cAI g a_r 311 d_r)] [(cAI g a_st 44 d_st)] [0, 1] [2] (m_reelAt l g h0 p1 m_thrown a_tape m_taped m_size m_at m_end m_token m_whole m_nameSize m_fault m_place m_trouble a_letters m_failed m_hasHouse a_r a_fresh a_st a_undone a_kept m_undos m_images a_from a_begin a_motor a_change a_startFrame a_changeFrame a_lostAt a_blackAt a_slips a_leftArc a_died a_arcs m_bestSum m_nearest m_nearestTown a_there a_backAt a_sorted a_parts m_seed1 m_darkNow d_r (iv_w hv_p1 (by decide) (by decide)) hp_d_r) dX11_believesOf_2 mw723 mw724 mw725 mw5 mw726 rfl 11 rfl rfl 0 _ rfl yk_yX11_reelAt_1 rfl (Nat.le_of_ble_eq_true rfl) (Nat.le_of_ble_eq_true rfl) (Nat.le_of_ble_eq_true rfl) (Nat.le_of_ble_eq_true rfl) (Nat.le_of_ble_eq_true rfl) rfl rfl (by decide) rfl (by decide) (by decide) ?_
  rintro r_1 w ⟨iv_2, rfl⟩
  refine k_ws [(cAI g a_st 44 d_st), (cO11_i1r1i10r1i2r5i2r12i3r4i2 h0 m_thrown a_tape m_taped m_size m_at m_end m_token m_whole m_nameSize m_fault m_place m_trouble a_letters m_failed m_hasHouse a_r a_fresh a_st a_undone a_kept m_undos m_images a_from a_begin a_motor a_change a_startFrame a_changeFrame a_lostAt a_blackAt a_slips a_leftArc a_died a_arcs m_bestSum m_nearest m_nearestTown a_there a_backAt a_sorted a_parts m_seed1 m_darkNow), (cAI g a_r 311 d_r)] rfl ?_
  refine k_istore_n [(3, .int r_1), (0, .ref h0), (1, .int p0), (2, .int p1)] X dX11_believesOf_5 (by decide) rfl ?_
  refine k_aload_n X dX11_believesOf_6 1 rfl ?_
  refine k_get (ci := 11) X inlX11 rfl 15 (by decide) dX11_believesOf_7 mw170 1 rfl rfl ?_
  refine k_bipush (v := 114) X dX11_believesOf_10 (by decide) ?_
  refine k_iconst (v := 3) X dX11_believesOf_12 (by decide) ?_
  refine k_iload_n X dX11_believesOf_13 2 rfl ?_
  refine k_imul X dX11_believesOf_14 ?_
  refine k_nm (fun z_3 ez_3 => ?_)
  have i_4 : z_3.toInt = 3 * p0.toInt := in_mul ez_3 (by decide) (by decide) hv_p0 (by decide) (by decide)
  have iv_5 : IV z_3 0 9 := iz4 i_4 hv_p0 (by decide) (by decide) (by decide)
  refine k_iadd X dX11_believesOf_15 ?_
  refine k_nm (fun z_6 ez_6 => ?_)
  have i_7 : z_6.toInt = 114 + z_3.toInt := in_add ez_6 (show IV 114 114 114 from (by decide)) iv_5 (by decide) (by decide)
  have iv_8 : IV z_6 114 123 := iz2 i_7 iv_5 (by decide) (by decide)
  refine k_iald X dX11_believesOf_16 2 rfl (iv_in iv_8 (by decide) (by decide)) ?_
  refine k_nm (fun z_9 ez_9 => ?_)
  refine k_istore [(4, .int z_9), (3, .int r_1), (0, .ref h0), (1, .int p0), (2, .int p1)] X dX11_believesOf_17 (by decide) rfl ?_
  refine k_aload_n X dX11_believesOf_19 2 rfl ?_
  refine k_get (ci := 11) X inlX11 rfl 17 (by decide) dX11_believesOf_20 mw172 1 rfl rfl ?_
  refine k_bipush (v := 8) X dX11_believesOf_23 (by decide) ?_
  refine k_iload_n X dX11_believesOf_25 1 rfl ?_
  refine k_iadd X dX11_believesOf_26 ?_
  refine k_nm (fun z_10 ez_10 => ?_)
  have i_11 : z_10.toInt = 8 + r_1.toInt := in_add ez_10 (show IV 8 8 8 from (by decide)) iv_2 (by decide) (by decide)
  have iv_12 : IV z_10 8 15 := by have := (show IV 8 8 8 from (by decide)); have := iv_2; rw [IV, i_11]; omega
  refine k_iald X dX11_believesOf_27 0 rfl (iv_in iv_12 (by decide) (by decide)) ?_
  refine k_nm (fun z_13 ez_13 => ?_)
  refine k_istore [(5, .int z_13), (4, .int z_9), (3, .int r_1), (0, .ref h0), (1, .int p0), (2, .int p1)] X dX11_believesOf_28 (by decide) rfl ?_
  refine k_iload X dX11_believesOf_30 1 rfl ?_
  refine k_iconst (v := 3) X dX11_believesOf_32 (by decide) ?_
  refine k_ic_ne 69 X dX11_believesOf_33 (by decide) (fun h_14 => ?_) (fun h_14 => ?_)
  · skip
    refine k_iconst (v := 0) X dX11_believesOf_69 (by decide) ?_
    refine k_istore [(6, .int 0), (5, .int z_13), (4, .int z_9), (3, .int r_1), (0, .ref h0), (1, .int p0), (2, .int p1)] X dX11_believesOf_70 (by decide) rfl ?_
    refine (fun hL : ∀ (nn_18 : Nat) (u_15 : Int32) (u_16 : Int32), (2147483647 - u_16.toInt).toNat = nn_18 → (IV u_16 0 255) → Wk p l e _ s m args below meth c _ A g _ _ _ [(cAI g a_st 44 d_st), (cO11_i1r1i10r1i2r5i2r12i3r4i2 h0 m_thrown a_tape m_taped m_size m_at m_end m_token m_whole m_nameSize m_fault m_place m_trouble a_letters m_failed m_hasHouse a_r a_fresh a_st a_undone a_kept m_undos m_images a_from a_begin a_motor a_change a_startFrame a_changeFrame a_lostAt a_blackAt a_slips a_leftArc a_died a_arcs m_bestSum m_nearest m_nearestTown a_there a_backAt a_sorted a_parts m_seed1 m_darkNow), (cAI g a_r 311 d_r)] [(6, .int u_16), (5, .int u_15), (4, .int z_9), (3, .int r_1), (0, .ref h0), (1, .int p0), (2, .int p1)] 72 [] => hL _ z_13 0 rfl (iv_w (show IV 0 0 0 from (by decide)) (by decide) (by decide))) ?_
    refine fun nn_18 => Nat.strongRecOn nn_18 (fun nn_18 ih_20 => ?_)
    intro u_15 u_16 hm_19 hv_17
    refine k_iload X dX11_believesOf_72 0 rfl ?_
    refine k_aload_n X dX11_believesOf_74 4 rfl ?_
    refine k_get (ci := 11) X inlX11 rfl 15 (by decide) dX11_believesOf_75 mw170 1 rfl rfl ?_
    refine k_bipush (v := 8) X dX11_believesOf_78 (by decide) ?_
    refine k_iald X dX11_believesOf_80 2 rfl (by unfold vp_in; decide) ?_
    refine k_nm (fun z_21 ez_21 => ?_)
    have i_22 : z_21.toInt = (d_r 8).toInt := by rw [ez_21]; rfl
    have iv_23 : IV z_21 0 12 := rb_8 ez_21 hp_d_r
    refine k_ic_ge 152 X dX11_believesOf_81 (by decide) (fun h_24 => ?_) (fun h_24 => ?_)
    · skip
      have j_25 : z_21.toInt ≤ u_16.toInt := iv_le h_24
      refine k_iload X dX11_believesOf_152 1 rfl ?_
      exact k_iret X hr dX11_believesOf_154 (Nat.le_of_ble_eq_true rfl) (Nat.le_of_ble_eq_true rfl) [1, 2, 0] (by decide) rfl rfl rfl
    · skip
      have j_26 : u_16.toInt < z_21.toInt := iv_nle h_24
      have iv_27 : IV u_16 0 11 := iv_ltL (iv_nle h_24) hv_17 iv_23 (by decide)
      have iv_28 : IV z_21 1 12 := iv_ltR (iv_nle h_24) hv_17 iv_23 (by decide)
      refine k_iload X dX11_believesOf_84 2 rfl ?_
      refine k_if_eq 152 X dX11_believesOf_86 (by decide) (fun h_29 => ?_) (fun h_29 => ?_)
      · skip
        have iv_30 : IV z_9 0 0 := iv_meet (iv_any z_9) (iv_e h_29 (show IV 0 0 0 from (by decide))) (by decide) (by decide)
        refine k_iload X dX11_believesOf_152 1 rfl ?_
        exact k_iret X hr dX11_believesOf_154 (Nat.le_of_ble_eq_true rfl) (Nat.le_of_ble_eq_true rfl) [1, 2, 0] (by decide) rfl rfl rfl
      · skip
        refine k_aload_n X dX11_believesOf_89 4 rfl ?_
        refine k_get (ci := 11) X inlX11 rfl 15 (by decide) dX11_believesOf_90 mw170 1 rfl rfl ?_
        refine k_bipush (v := 44) X dX11_believesOf_93 (by decide) ?_
        refine k_iconst (v := 3) X dX11_believesOf_95 (by decide) ?_
        refine k_iload X dX11_believesOf_96 0 rfl ?_
        refine k_imul X dX11_believesOf_98 ?_
        refine k_nm (fun z_31 ez_31 => ?_)
        have i_32 : z_31.toInt = 3 * u_16.toInt := in_mul ez_31 (by decide) (by decide) iv_27 (by decide) (by decide)
        have iv_33 : IV z_31 0 33 := iz4 i_32 iv_27 (by decide) (by decide) (by decide)
        refine k_iadd X dX11_believesOf_99 ?_
        refine k_nm (fun z_34 ez_34 => ?_)
        have i_35 : z_34.toInt = 44 + z_31.toInt := in_add ez_34 (show IV 44 44 44 from (by decide)) iv_33 (by decide) (by decide)
        have iv_36 : IV z_34 44 77 := iz2 i_35 iv_33 (by decide) (by decide)
        refine k_iald X dX11_believesOf_100 2 rfl (iv_in iv_36 (by decide) (by decide)) ?_
        refine k_nm (fun z_37 ez_37 => ?_)
        have i_38 : z_34.toInt = 44 + 3 * u_16.toInt := by omega
        have iv_39 : IV z_37 0 7 := rb_44_3 ez_37 hp_d_r i_38 (iv_w iv_27 (by decide) (by decide))
        refine k_iload_n X dX11_believesOf_101 3 rfl ?_
        refine k_ic_ne 146 X dX11_believesOf_102 (by decide) (fun h_40 => ?_) (fun h_40 => ?_)
        · skip
          obtain ⟨z_41, ez_41⟩ : ∃ y : Int32, u_16 + Int32.ofInt 1 = y := ⟨_, rfl⟩
          refine k_iinc z_41 [(6, .int z_41), (5, .int u_15), (4, .int z_9), (3, .int r_1), (0, .ref h0), (1, .int p0), (2, .int p1)] 0 X dX11_believesOf_146 rfl ez_41 (by decide) rfl ?_
          have i_42 : z_41.toInt = u_16.toInt + 1 := in_inc ez_41 (by decide) iv_27 (by decide) (by decide)
          have iv_43 : IV z_41 1 12 := iz1 i_42 iv_27 (by decide) (by decide)
          refine k_goto 72 X dX11_believesOf_149 (by decide) ?_
          exact ih_20 _ (by omega) u_15 z_41 rfl (iv_w iv_43 (by decide) (by decide))
        · skip
          refine k_iload X dX11_believesOf_105 2 rfl ?_
          refine k_iconst (v := 1) X dX11_believesOf_107 (by decide) ?_
          refine k_ic_ne 129 X dX11_believesOf_108 (by decide) (fun h_44 => ?_) (fun h_44 => ?_)
          · skip
            refine k_iload X dX11_believesOf_129 1 rfl ?_
            refine k_aload_n X dX11_believesOf_131 4 rfl ?_
            refine k_get (ci := 11) X inlX11 rfl 17 (by decide) dX11_believesOf_132 mw172 1 rfl rfl ?_
            refine k_bipush (v := 16) X dX11_believesOf_135 (by decide) ?_
            refine k_iload X dX11_believesOf_137 0 rfl ?_
            refine k_iadd X dX11_believesOf_139 ?_
            refine k_nm (fun z_45 ez_45 => ?_)
            have i_46 : z_45.toInt = 16 + u_16.toInt := in_add ez_45 (show IV 16 16 16 from (by decide)) iv_27 (by decide) (by decide)
            have iv_47 : IV z_45 16 27 := iz2 i_46 iv_27 (by decide) (by decide)
            refine k_iald X dX11_believesOf_140 0 rfl (iv_in iv_47 (by decide) (by decide)) ?_
            refine k_nm (fun z_48 ez_48 => ?_)
            refine k_callSI (n := 2) (As := [.int u_15, .int z_48]) (st := []) X [] [(cAI g a_st 44 d_st), (cO11_i1r1i10r1i2r5i2r12i3r4i2 h0 m_thrown a_tape m_taped m_size m_at m_end m_token m_whole m_nameSize m_fault m_place m_trouble a_letters m_failed m_hasHouse a_r a_fresh a_st a_undone a_kept m_undos m_images a_from a_begin a_motor a_change a_startFrame a_changeFrame a_lostAt a_blackAt a_slips a_leftArc a_died a_arcs m_bestSum m_nearest m_nearestTown a_there a_backAt a_sorted a_parts m_seed1 m_darkNow), (cAI g a_r 311 d_r)] [] [0, 1, 2] (m_most l g u_15 z_48) dX11_believesOf_141 mw842 mw843 mw5 mw844 yk_yX11_most_2 rfl (Nat.le_of_ble_eq_true rfl) (Nat.le_of_ble_eq_true rfl) (Nat.le_of_ble_eq_true rfl) (Nat.le_of_ble_eq_true rfl) (Nat.le_of_ble_eq_true rfl) rfl rfl (by decide) rfl (by decide) (by decide) ?_
            rintro r_49 w rfl
            refine k_ws [(cAI g a_st 44 d_st), (cO11_i1r1i10r1i2r5i2r12i3r4i2 h0 m_thrown a_tape m_taped m_size m_at m_end m_token m_whole m_nameSize m_fault m_place m_trouble a_letters m_failed m_hasHouse a_r a_fresh a_st a_undone a_kept m_undos m_images a_from a_begin a_motor a_change a_startFrame a_changeFrame a_lostAt a_blackAt a_slips a_leftArc a_died a_arcs m_bestSum m_nearest m_nearestTown a_there a_backAt a_sorted a_parts m_seed1 m_darkNow), (cAI g a_r 311 d_r)] rfl ?_
            refine k_istore [(5, .int r_49), (6, .int u_16), (4, .int z_9), (3, .int r_1), (0, .ref h0), (1, .int p0), (2, .int p1)] X dX11_believesOf_144 (by decide) rfl ?_
            obtain ⟨z_50, ez_50⟩ : ∃ y : Int32, u_16 + Int32.ofInt 1 = y := ⟨_, rfl⟩
            refine k_iinc z_50 [(6, .int z_50), (5, .int r_49), (4, .int z_9), (3, .int r_1), (0, .ref h0), (1, .int p0), (2, .int p1)] 1 X dX11_believesOf_146 rfl ez_50 (by decide) rfl ?_
            have i_51 : z_50.toInt = u_16.toInt + 1 := in_inc ez_50 (by decide) iv_27 (by decide) (by decide)
            have iv_52 : IV z_50 1 12 := iz1 i_51 iv_27 (by decide) (by decide)
            refine k_goto 72 X dX11_believesOf_149 (by decide) ?_
            exact ih_20 _ (by omega) r_49 z_50 rfl (iv_w iv_52 (by decide) (by decide))
          · skip
            have iv_53 : IV z_9 1 1 := iv_meet (iv_any z_9) (iv_e h_44 (show IV 1 1 1 from (by decide))) (by decide) (by decide)
            refine k_iload X dX11_believesOf_111 1 rfl ?_
            refine k_aload_n X dX11_believesOf_113 4 rfl ?_
            refine k_get (ci := 11) X inlX11 rfl 17 (by decide) dX11_believesOf_114 mw172 1 rfl rfl ?_
            refine k_bipush (v := 16) X dX11_believesOf_117 (by decide) ?_
            refine k_iload X dX11_believesOf_119 0 rfl ?_
            refine k_iadd X dX11_believesOf_121 ?_
            refine k_nm (fun z_54 ez_54 => ?_)
            have i_55 : z_54.toInt = 16 + u_16.toInt := in_add ez_54 (show IV 16 16 16 from (by decide)) iv_27 (by decide) (by decide)
            have iv_56 : IV z_54 16 27 := iz2 i_55 iv_27 (by decide) (by decide)
            refine k_iald X dX11_believesOf_122 0 rfl (iv_in iv_56 (by decide) (by decide)) ?_
            refine k_nm (fun z_57 ez_57 => ?_)
            refine k_callSI (n := 2) (As := [.int u_15, .int z_57]) (st := []) X [] [(cAI g a_st 44 d_st), (cO11_i1r1i10r1i2r5i2r12i3r4i2 h0 m_thrown a_tape m_taped m_size m_at m_end m_token m_whole m_nameSize m_fault m_place m_trouble a_letters m_failed m_hasHouse a_r a_fresh a_st a_undone a_kept m_undos m_images a_from a_begin a_motor a_change a_startFrame a_changeFrame a_lostAt a_blackAt a_slips a_leftArc a_died a_arcs m_bestSum m_nearest m_nearestTown a_there a_backAt a_sorted a_parts m_seed1 m_darkNow), (cAI g a_r 311 d_r)] [] [0, 1, 2] (m_least l g u_15 z_57) dX11_believesOf_123 mw839 mw840 mw5 mw841 yk_yX11_least_2 rfl (Nat.le_of_ble_eq_true rfl) (Nat.le_of_ble_eq_true rfl) (Nat.le_of_ble_eq_true rfl) (Nat.le_of_ble_eq_true rfl) (Nat.le_of_ble_eq_true rfl) rfl rfl (by decide) rfl (by decide) (by decide) ?_
            rintro r_58 w rfl
            refine k_ws [(cAI g a_st 44 d_st), (cO11_i1r1i10r1i2r5i2r12i3r4i2 h0 m_thrown a_tape m_taped m_size m_at m_end m_token m_whole m_nameSize m_fault m_place m_trouble a_letters m_failed m_hasHouse a_r a_fresh a_st a_undone a_kept m_undos m_images a_from a_begin a_motor a_change a_startFrame a_changeFrame a_lostAt a_blackAt a_slips a_leftArc a_died a_arcs m_bestSum m_nearest m_nearestTown a_there a_backAt a_sorted a_parts m_seed1 m_darkNow), (cAI g a_r 311 d_r)] rfl ?_
            refine k_goto 144 X dX11_believesOf_126 (by decide) ?_
            refine k_istore [(5, .int r_58), (6, .int u_16), (4, .int z_9), (3, .int r_1), (0, .ref h0), (1, .int p0), (2, .int p1)] X dX11_believesOf_144 (by decide) rfl ?_
            obtain ⟨z_59, ez_59⟩ : ∃ y : Int32, u_16 + Int32.ofInt 1 = y := ⟨_, rfl⟩
            refine k_iinc z_59 [(6, .int z_59), (5, .int r_58), (4, .int z_9), (3, .int r_1), (0, .ref h0), (1, .int p0), (2, .int p1)] 1 X dX11_believesOf_146 rfl ez_59 (by decide) rfl ?_
            have i_60 : z_59.toInt = u_16.toInt + 1 := in_inc ez_59 (by decide) iv_27 (by decide) (by decide)
            have iv_61 : IV z_59 1 12 := iz1 i_60 iv_27 (by decide) (by decide)
            refine k_goto 72 X dX11_believesOf_149 (by decide) ?_
            exact ih_20 _ (by omega) r_58 z_59 rfl (iv_w iv_61 (by decide) (by decide))
  · skip
    have iv_62 : IV z_9 3 3 := iv_meet (iv_any z_9) (iv_e h_14 (show IV 3 3 3 from (by decide))) (by decide) (by decide)
    refine k_aload_n X dX11_believesOf_36 3 rfl ?_
    refine k_iload_n X dX11_believesOf_37 2 rfl ?_
    refine k_aload_n X dX11_believesOf_38 3 rfl ?_
    refine k_get (ci := 11) X inlX11 rfl 15 (by decide) dX11_believesOf_39 mw170 1 rfl rfl ?_
    refine k_bipush (v := 114) X dX11_believesOf_42 (by decide) ?_
    refine k_iconst (v := 3) X dX11_believesOf_44 (by decide) ?_
    refine k_iload_n X dX11_believesOf_45 4 rfl ?_
    refine k_imul X dX11_believesOf_46 ?_
    refine k_to z_3 ez_3.symm ?_
    refine k_iadd X dX11_believesOf_47 ?_
    refine k_to z_6 ez_6.symm ?_
    refine k_iconst (v := 1) X dX11_believesOf_48 (by decide) ?_
    refine k_iadd X dX11_believesOf_49 ?_
    refine k_nm (fun z_63 ez_63 => ?_)
    have i_64 : z_63.toInt = z_6.toInt + 1 := in_add ez_63 iv_8 (show IV 1 1 1 from (by decide)) (by decide) (by decide)
    have iv_65 : IV z_63 115 124 := iz1 i_64 iv_8 (by decide) (by decide)
    refine k_iald X dX11_believesOf_50 2 rfl (iv_in iv_65 (by decide) (by decide)) ?_
    refine k_nm (fun z_66 ez_66 => ?_)
    refine k_callVI (n := 2) (As := [.int r_1, .int z_66]) (st := []) X [(cO11_i1r1i10r1i2r5i2r12i3r4i2 h0 m_thrown a_tape m_taped m_size m_at m_end m_token m_whole m_nameSize m_fault m_place m_trouble a_letters m_failed m_hasHouse a_r a_fresh a_st a_undone a_kept m_undos m_images a_from a_begin a_motor a_change a_startFrame a_changeFrame a_lostAt a_blackAt a_slips a_leftArc a_died a_arcs m_bestSum m_nearest m_nearestTown a_there a_backAt a_sorted a_parts m_seed1 m_darkNow), (cAI g a_r 311 d_r), (cAI g a_st 44 d_st)] [] [1, 2, 0] [] (m_markOf l g h0 r_1 z_66 m_thrown a_tape m_taped m_size m_at m_end m_token m_whole m_nameSize m_fault m_place m_trouble a_letters m_failed m_hasHouse a_r a_fresh a_st a_undone a_kept m_undos m_images a_from a_begin a_motor a_change a_startFrame a_changeFrame a_lostAt a_blackAt a_slips a_leftArc a_died a_arcs m_bestSum m_nearest m_nearestTown a_there a_backAt a_sorted a_parts m_seed1 m_darkNow d_r d_st hp_d_r) dX11_believesOf_51 mw703 mw704 mw705 mw5 mw706 rfl 11 rfl rfl 0 _ rfl yk_yX11_markOf_2 rfl (Nat.le_of_ble_eq_true rfl) (Nat.le_of_ble_eq_true rfl) (Nat.le_of_ble_eq_true rfl) (Nat.le_of_ble_eq_true rfl) (Nat.le_of_ble_eq_true rfl) rfl rfl (by decide) rfl (by decide) (by decide) ?_
    rintro r_67 w rfl
    refine k_ws [(cO11_i1r1i10r1i2r5i2r12i3r4i2 h0 m_thrown a_tape m_taped m_size m_at m_end m_token m_whole m_nameSize m_fault m_place m_trouble a_letters m_failed m_hasHouse a_r a_fresh a_st a_undone a_kept m_undos m_images a_from a_begin a_motor a_change a_startFrame a_changeFrame a_lostAt a_blackAt a_slips a_leftArc a_died a_arcs m_bestSum m_nearest m_nearestTown a_there a_backAt a_sorted a_parts m_seed1 m_darkNow), (cAI g a_r 311 d_r), (cAI g a_st 44 d_st)] rfl ?_
    refine k_istore [(6, .int r_67), (5, .int z_13), (4, .int z_9), (3, .int r_1), (0, .ref h0), (1, .int p0), (2, .int p1)] X dX11_believesOf_54 (by decide) rfl ?_
    refine k_iload X dX11_believesOf_56 0 rfl ?_
    refine k_if_ge 66 X dX11_believesOf_58 (by decide) (fun h_68 => ?_) (fun h_68 => ?_)
    · skip
      have j_69 : 0 ≤ r_67.toInt := iv_le h_68
      have iv_70 : IV r_67 0 2147483647 := iv_leR (iv_le h_68) (show IV 0 0 0 from (by decide)) (iv_any r_67) (by decide)
      refine k_iload X dX11_believesOf_66 0 rfl ?_
      exact k_iret X hr dX11_believesOf_68 (Nat.le_of_ble_eq_true rfl) (Nat.le_of_ble_eq_true rfl) [0, 1, 2] (by decide) rfl rfl rfl
    · skip
      have j_71 : r_67.toInt < 0 := iv_nle h_68
      have iv_72 : IV r_67 (-2147483648) (-1) := iv_ltL (iv_nle h_68) (iv_any r_67) (show IV 0 0 0 from (by decide)) (by decide)
      refine k_iload X dX11_believesOf_61 1 rfl ?_
      refine k_goto 68 X dX11_believesOf_63 (by decide) ?_
      exact k_iret X hr dX11_believesOf_68 (Nat.le_of_ble_eq_true rfl) (Nat.le_of_ble_eq_true rfl) [0, 1, 2] (by decide) rfl rfl rfl

theorem dX11_isGone_0 : decode cX11_isGone 0 = .ok (.aload_n 0, 1) := dk_42 rfl
theorem dX11_isGone_1 : decode cX11_isGone 1 = .ok (.getfield 35, 3) := dk_180 rfl rfl rfl rfl
theorem dX11_isGone_4 : decode cX11_isGone 4 = .ok (.iload_n 1, 1) := dk_27 rfl
theorem dX11_isGone_5 : decode cX11_isGone 5 = .ok (.iaload, 1) := dk_46 rfl
theorem dX11_isGone_6 : decode cX11_isGone 6 = .ok (.aload_n 0, 1) := dk_42 rfl
theorem dX11_isGone_7 : decode cX11_isGone 7 = .ok (.iload_n 1, 1) := dk_27 rfl
theorem dX11_isGone_8 : decode cX11_isGone 8 = .ok (.invokevirtual 354, 3) := dk_182 rfl rfl rfl rfl
theorem dX11_isGone_11 : decode cX11_isGone 11 = .ok (.if_icmp .lt 7, 3) := dk_161 rfl rfl rfl (by decide)
theorem dX11_isGone_14 : decode cX11_isGone 14 = .ok (.iconst 1, 1) := dk_4 rfl
theorem dX11_isGone_15 : decode cX11_isGone 15 = .ok (.goto 4, 3) := dk_167 rfl rfl rfl (by decide)
theorem dX11_isGone_18 : decode cX11_isGone 18 = .ok (.iconst 0, 1) := dk_3 rfl
theorem dX11_isGone_19 : decode cX11_isGone 19 = .ok (.ireturn, 1) := dk_172 rfl
set_option maxHeartbeats 4000000 in
set_option maxRecDepth 100000 in
theorem m_isGone (l : Launch) (g : Gx) (h0 : Nat) (p0 : Int32) (m_thrown : Int32) (a_tape : Nat) (m_taped : Int32) (m_size : Int32) (m_at : Int32) (m_end : Int32) (m_token : Int32) (m_whole : Int32) (m_nameSize : Int32) (m_fault : Int32) (m_place : Int32) (m_trouble : Int32) (a_letters : Nat) (m_failed : Int32) (m_hasHouse : Int32) (a_r : Nat) (a_fresh : Nat) (a_st : Nat) (a_undone : Nat) (a_kept : Nat) (m_undos : Int32) (m_images : Int32) (a_from : Nat) (a_begin : Nat) (a_motor : Nat) (a_change : Nat) (a_startFrame : Nat) (a_changeFrame : Nat) (a_lostAt : Nat) (a_blackAt : Nat) (a_slips : Nat) (a_leftArc : Nat) (a_died : Nat) (a_arcs : Nat) (m_bestSum : Int32) (m_nearest : Int32) (m_nearestTown : Int32) (a_there : Nat) (a_backAt : Nat) (a_sorted : Nat) (a_parts : Nat) (m_seed1 : Int32) (m_darkNow : Int32) (d_r : Nat → Int32) (d_st : Nat → Int32) (d_from : Nat → Int32) (hv_p0 : IV p0 0 7) (hp_d_r : RInv d_r) : cI l g yX11_isGone cX11_isGone 2 (some .boolean) 2 42 0 0 [.ref h0, .int p0] [(cO11_i1r1i10r1i2r5i2r12i3r4i2 h0 m_thrown a_tape m_taped m_size m_at m_end m_token m_whole m_nameSize m_fault m_place m_trouble a_letters m_failed m_hasHouse a_r a_fresh a_st a_undone a_kept m_undos m_images a_from a_begin a_motor a_change a_startFrame a_changeFrame a_lostAt a_blackAt a_slips a_leftArc a_died a_arcs m_bestSum m_nearest m_nearestTown a_there a_backAt a_sorted a_parts m_seed1 m_darkNow), (cAI g a_r 311 d_r), (cAI g a_st 44 d_st), (cAI g a_from 8 d_from)] (fun r w => IV r 0 1 ∧ w = [(cO11_i1r1i10r1i2r5i2r12i3r4i2 h0 m_thrown a_tape m_taped m_size m_at m_end m_token m_whole m_nameSize m_fault m_place m_trouble a_letters m_failed m_hasHouse a_r a_fresh a_st a_undone a_kept m_undos m_images a_from a_begin a_motor a_change a_startFrame a_changeFrame a_lostAt a_blackAt a_slips a_leftArc a_died a_arcs m_bestSum m_nearest m_nearestTown a_there a_backAt a_sorted a_parts m_seed1 m_darkNow), (cAI g a_r 311 d_r), (cAI g a_st 44 d_st), (cAI g a_from 8 d_from)]) := by
  refine cI.of (by decide) (Nat.le_of_ble_eq_true rfl) ?_
  intro p e s m args below meth c A X hr hi
  refine k_lveq [(0, .ref h0), (1, .int p0)] rfl ?_
  refine k_aload_n X dX11_isGone_0 0 rfl ?_
  refine k_get (ci := 11) X inlX11 rfl 22 (by decide) dX11_isGone_1 mw175 0 rfl rfl ?_
  refine k_iload_n X dX11_isGone_4 1 rfl ?_
  refine k_iald X dX11_isGone_5 3 rfl (iv_in hv_p0 (by decide) (by decide)) ?_
  refine k_nm (fun z_1 ez_1 => ?_)
  refine k_aload_n X dX11_isGone_6 0 rfl ?_
  refine k_iload_n X dX11_isGone_7 1 rfl ?_
  refine k_callVI (n := 1) (As := [.int p0]) (st := [.int z_1]) X [(cO11_i1r1i10r1i2r5i2r12i3r4i2 h0 m_thrown a_tape m_taped m_size m_at m_end m_token m_whole m_nameSize m_fault m_place m_trouble a_letters m_failed m_hasHouse a_r a_fresh a_st a_undone a_kept m_undos m_images a_from a_begin a_motor a_change a_startFrame a_changeFrame a_lostAt a_blackAt a_slips a_leftArc a_died a_arcs m_bestSum m_nearest m_nearestTown a_there a_backAt a_sorted a_parts m_seed1 m_darkNow), (cAI g a_r 311 d_r), (cAI g a_st 44 d_st)] [(cAI g a_from 8 d_from)] [0, 1, 2] [3] (m_framesAt l g h0 p0 m_thrown a_tape m_taped m_size m_at m_end m_token m_whole m_nameSize m_fault m_place m_trouble a_letters m_failed m_hasHouse a_r a_fresh a_st a_undone a_kept m_undos m_images a_from a_begin a_motor a_change a_startFrame a_changeFrame a_lostAt a_blackAt a_slips a_leftArc a_died a_arcs m_bestSum m_nearest m_nearestTown a_there a_backAt a_sorted a_parts m_seed1 m_darkNow d_r d_st (iv_w hv_p0 (by decide) (by decide)) hp_d_r) dX11_isGone_8 mw823 mw824 mw825 mw5 mw826 rfl 11 rfl rfl 0 _ rfl yk_yX11_framesAt_1 rfl (Nat.le_of_ble_eq_true rfl) (Nat.le_of_ble_eq_true rfl) (Nat.le_of_ble_eq_true rfl) (Nat.le_of_ble_eq_true rfl) (Nat.le_of_ble_eq_true rfl) rfl rfl (by decide) rfl (by decide) (by decide) ?_
  rintro r_2 w rfl
  refine k_ws [(cAI g a_from 8 d_from), (cO11_i1r1i10r1i2r5i2r12i3r4i2 h0 m_thrown a_tape m_taped m_size m_at m_end m_token m_whole m_nameSize m_fault m_place m_trouble a_letters m_failed m_hasHouse a_r a_fresh a_st a_undone a_kept m_undos m_images a_from a_begin a_motor a_change a_startFrame a_changeFrame a_lostAt a_blackAt a_slips a_leftArc a_died a_arcs m_bestSum m_nearest m_nearestTown a_there a_backAt a_sorted a_parts m_seed1 m_darkNow), (cAI g a_r 311 d_r), (cAI g a_st 44 d_st)] rfl ?_
  refine k_ic_lt 18 X dX11_isGone_11 (by decide) (fun h_3 => ?_) (fun h_3 => ?_)
  · skip
    have j_4 : z_1.toInt < r_2.toInt := iv_lt h_3
    have iv_5 : IV z_1 (-2147483648) 2147483646 := iv_ltL (iv_lt h_3) (iv_any z_1) (iv_any r_2) (by decide)
    have iv_6 : IV r_2 (-2147483647) 2147483647 := iv_ltR (iv_lt h_3) (iv_any z_1) (iv_any r_2) (by decide)
    refine k_iconst (v := 0) X dX11_isGone_18 (by decide) ?_
    exact k_zret X hr (by first | rfl | decide) dX11_isGone_19 (Nat.le_of_ble_eq_true rfl) (Nat.le_of_ble_eq_true rfl) [1, 2, 3, 0] (by decide) rfl rfl ⟨(iv_w (show IV 0 0 0 from (by decide)) (by decide) (by decide)), rfl⟩
  · skip
    have j_7 : r_2.toInt ≤ z_1.toInt := iv_nlt h_3
    refine k_iconst (v := 1) X dX11_isGone_14 (by decide) ?_
    refine k_goto 19 X dX11_isGone_15 (by decide) ?_
    exact k_zret X hr (by first | rfl | decide) dX11_isGone_19 (Nat.le_of_ble_eq_true rfl) (Nat.le_of_ble_eq_true rfl) [1, 2, 3, 0] (by decide) rfl rfl ⟨(iv_w (show IV 1 1 1 from (by decide)) (by decide) (by decide)), rfl⟩

theorem dX11_follows_0 : decode cX11_follows 0 = .ok (.iload_n 1, 1) := dk_27 rfl
theorem dX11_follows_1 : decode cX11_follows 1 = .ok (.iconst 1, 1) := dk_4 rfl
theorem dX11_follows_2 : decode cX11_follows 2 = .ok (.iadd, 1) := dk_96 rfl
theorem dX11_follows_3 : decode cX11_follows 3 = .ok (.istore 6, 2) := dk_54 rfl rfl rfl
theorem dX11_follows_5 : decode cX11_follows 5 = .ok (.aload_n 0, 1) := dk_42 rfl
theorem dX11_follows_6 : decode cX11_follows 6 = .ok (.getfield 41, 3) := dk_180 rfl rfl rfl rfl
theorem dX11_follows_9 : decode cX11_follows 9 = .ok (.iload 6, 2) := dk_21 rfl rfl rfl
theorem dX11_follows_11 : decode cX11_follows 11 = .ok (.iload_n 2, 1) := dk_28 rfl
theorem dX11_follows_12 : decode cX11_follows 12 = .ok (.iastore, 1) := dk_79 rfl
theorem dX11_follows_13 : decode cX11_follows 13 = .ok (.aload_n 0, 1) := dk_42 rfl
theorem dX11_follows_14 : decode cX11_follows 14 = .ok (.getfield 35, 3) := dk_180 rfl rfl rfl rfl
theorem dX11_follows_17 : decode cX11_follows 17 = .ok (.iload 6, 2) := dk_21 rfl rfl rfl
theorem dX11_follows_19 : decode cX11_follows 19 = .ok (.iload 5, 2) := dk_21 rfl rfl rfl
theorem dX11_follows_21 : decode cX11_follows 21 = .ok (.ifCond .ne 8, 3) := dk_154 rfl rfl rfl (by decide)
theorem dX11_follows_24 : decode cX11_follows 24 = .ok (.iload 4, 2) := dk_21 rfl rfl rfl
theorem dX11_follows_26 : decode cX11_follows 26 = .ok (.ifCond .ge 7, 3) := dk_156 rfl rfl rfl (by decide)
theorem dX11_follows_29 : decode cX11_follows 29 = .ok (.iconst 0, 1) := dk_3 rfl
theorem dX11_follows_30 : decode cX11_follows 30 = .ok (.goto 5, 3) := dk_167 rfl rfl rfl (by decide)
theorem dX11_follows_33 : decode cX11_follows 33 = .ok (.iload 4, 2) := dk_21 rfl rfl rfl
theorem dX11_follows_35 : decode cX11_follows 35 = .ok (.iastore, 1) := dk_79 rfl
theorem dX11_follows_36 : decode cX11_follows 36 = .ok (.aload_n 0, 1) := dk_42 rfl
theorem dX11_follows_37 : decode cX11_follows 37 = .ok (.getfield 53, 3) := dk_180 rfl rfl rfl rfl
theorem dX11_follows_40 : decode cX11_follows 40 = .ok (.iload 6, 2) := dk_21 rfl rfl rfl
theorem dX11_follows_42 : decode cX11_follows 42 = .ok (.aload_n 0, 1) := dk_42 rfl
theorem dX11_follows_43 : decode cX11_follows 43 = .ok (.getfield 35, 3) := dk_180 rfl rfl rfl rfl
theorem dX11_follows_46 : decode cX11_follows 46 = .ok (.iload 6, 2) := dk_21 rfl rfl rfl
theorem dX11_follows_48 : decode cX11_follows 48 = .ok (.iaload, 1) := dk_46 rfl
theorem dX11_follows_49 : decode cX11_follows 49 = .ok (.iastore, 1) := dk_79 rfl
theorem dX11_follows_50 : decode cX11_follows 50 = .ok (.aload_n 0, 1) := dk_42 rfl
theorem dX11_follows_51 : decode cX11_follows 51 = .ok (.getfield 56, 3) := dk_180 rfl rfl rfl rfl
theorem dX11_follows_54 : decode cX11_follows 54 = .ok (.iload 6, 2) := dk_21 rfl rfl rfl
theorem dX11_follows_56 : decode cX11_follows 56 = .ok (.iload 5, 2) := dk_21 rfl rfl rfl
theorem dX11_follows_58 : decode cX11_follows 58 = .ok (.ifCond .ne 8, 3) := dk_154 rfl rfl rfl (by decide)
theorem dX11_follows_61 : decode cX11_follows 61 = .ok (.iload 4, 2) := dk_21 rfl rfl rfl
theorem dX11_follows_63 : decode cX11_follows 63 = .ok (.ifCond .le 7, 3) := dk_158 rfl rfl rfl (by decide)
theorem dX11_follows_66 : decode cX11_follows 66 = .ok (.iconst 0, 1) := dk_3 rfl
theorem dX11_follows_67 : decode cX11_follows 67 = .ok (.goto 6, 3) := dk_167 rfl rfl rfl (by decide)
theorem dX11_follows_70 : decode cX11_follows 70 = .ok (.iload 4, 2) := dk_21 rfl rfl rfl
theorem dX11_follows_72 : decode cX11_follows 72 = .ok (.ineg, 1) := dk_116 rfl
theorem dX11_follows_73 : decode cX11_follows 73 = .ok (.iastore, 1) := dk_79 rfl
theorem dX11_follows_74 : decode cX11_follows 74 = .ok (.aload_n 0, 1) := dk_42 rfl
theorem dX11_follows_75 : decode cX11_follows 75 = .ok (.getfield 38, 3) := dk_180 rfl rfl rfl rfl
theorem dX11_follows_78 : decode cX11_follows 78 = .ok (.iload 6, 2) := dk_21 rfl rfl rfl
theorem dX11_follows_80 : decode cX11_follows 80 = .ok (.iload_n 3, 1) := dk_29 rfl
theorem dX11_follows_81 : decode cX11_follows 81 = .ok (.aload_n 0, 1) := dk_42 rfl
theorem dX11_follows_82 : decode cX11_follows 82 = .ok (.getfield 56, 3) := dk_180 rfl rfl rfl rfl
theorem dX11_follows_85 : decode cX11_follows 85 = .ok (.iload 6, 2) := dk_21 rfl rfl rfl
theorem dX11_follows_87 : decode cX11_follows 87 = .ok (.iaload, 1) := dk_46 rfl
theorem dX11_follows_88 : decode cX11_follows 88 = .ok (.iadd, 1) := dk_96 rfl
theorem dX11_follows_89 : decode cX11_follows 89 = .ok (.iastore, 1) := dk_79 rfl
theorem dX11_follows_90 : decode cX11_follows 90 = .ok (.return_, 1) := dk_177 rfl
set_option maxHeartbeats 4000000 in
set_option maxRecDepth 100000 in
theorem m_follows (l : Launch) (g : Gx) (h0 : Nat) (p0 : Int32) (p1 : Int32) (p2 : Int32) (p3 : Int32) (p4 : Int32) (m_thrown : Int32) (a_tape : Nat) (m_taped : Int32) (m_size : Int32) (m_at : Int32) (m_end : Int32) (m_token : Int32) (m_whole : Int32) (m_nameSize : Int32) (m_fault : Int32) (m_place : Int32) (m_trouble : Int32) (a_letters : Nat) (m_failed : Int32) (m_hasHouse : Int32) (a_r : Nat) (a_fresh : Nat) (a_st : Nat) (a_undone : Nat) (a_kept : Nat) (m_undos : Int32) (m_images : Int32) (a_from : Nat) (a_begin : Nat) (a_motor : Nat) (a_change : Nat) (a_startFrame : Nat) (a_changeFrame : Nat) (a_lostAt : Nat) (a_blackAt : Nat) (a_slips : Nat) (a_leftArc : Nat) (a_died : Nat) (a_arcs : Nat) (m_bestSum : Int32) (m_nearest : Int32) (m_nearestTown : Int32) (a_there : Nat) (a_backAt : Nat) (a_sorted : Nat) (a_parts : Nat) (m_seed1 : Int32) (m_darkNow : Int32) (d_from : Nat → Int32) (d_begin : Nat → Int32) (d_motor : Nat → Int32) (d_lostAt : Nat → Int32) (d_blackAt : Nat → Int32) (hv_p0 : IV p0 0 6) : cV l g yX11_follows cX11_follows 7 0 0 0 0 [.ref h0, .int p0, .int p1, .int p2, .int p3, .int p4] [(cO11_i1r1i10r1i2r5i2r12i3r4i2 h0 m_thrown a_tape m_taped m_size m_at m_end m_token m_whole m_nameSize m_fault m_place m_trouble a_letters m_failed m_hasHouse a_r a_fresh a_st a_undone a_kept m_undos m_images a_from a_begin a_motor a_change a_startFrame a_changeFrame a_lostAt a_blackAt a_slips a_leftArc a_died a_arcs m_bestSum m_nearest m_nearestTown a_there a_backAt a_sorted a_parts m_seed1 m_darkNow), (cAI g a_from 8 d_from), (cAI g a_begin 8 d_begin), (cAI g a_motor 8 d_motor), (cAI g a_lostAt 8 d_lostAt), (cAI g a_blackAt 8 d_blackAt)] (fun w => ∃ (d_begin2 : Nat → Int32) (d_blackAt2 : Nat → Int32) (d_from2 : Nat → Int32) (d_lostAt2 : Nat → Int32) (d_motor2 : Nat → Int32), w = [(cO11_i1r1i10r1i2r5i2r12i3r4i2 h0 m_thrown a_tape m_taped m_size m_at m_end m_token m_whole m_nameSize m_fault m_place m_trouble a_letters m_failed m_hasHouse a_r a_fresh a_st a_undone a_kept m_undos m_images a_from a_begin a_motor a_change a_startFrame a_changeFrame a_lostAt a_blackAt a_slips a_leftArc a_died a_arcs m_bestSum m_nearest m_nearestTown a_there a_backAt a_sorted a_parts m_seed1 m_darkNow), (cAI g a_from 8 d_from2), (cAI g a_begin 8 d_begin2), (cAI g a_motor 8 d_motor2), (cAI g a_lostAt 8 d_lostAt2), (cAI g a_blackAt 8 d_blackAt2)]) := by
  refine cV.of (by decide) (Nat.le_of_ble_eq_true rfl) ?_
  intro p e s m args below meth c A X hr hi
  refine k_lveq [(0, .ref h0), (1, .int p0), (2, .int p1), (3, .int p2), (4, .int p3), (5, .int p4)] rfl ?_
  refine k_iload_n X dX11_follows_0 1 rfl ?_
  refine k_iconst (v := 1) X dX11_follows_1 (by decide) ?_
  refine k_iadd X dX11_follows_2 ?_
  refine k_nm (fun z_1 ez_1 => ?_)
  have i_2 : z_1.toInt = p0.toInt + 1 := in_add ez_1 hv_p0 (show IV 1 1 1 from (by decide)) (by decide) (by decide)
  have iv_3 : IV z_1 1 7 := iz1 i_2 hv_p0 (by decide) (by decide)
  refine k_istore [(6, .int z_1), (0, .ref h0), (1, .int p0), (2, .int p1), (3, .int p2), (4, .int p3), (5, .int p4)] X dX11_follows_3 (by decide) rfl ?_
  refine k_aload_n X dX11_follows_5 1 rfl ?_
  refine k_get (ci := 11) X inlX11 rfl 24 (by decide) dX11_follows_6 mw177 0 rfl rfl ?_
  refine k_iload X dX11_follows_9 0 rfl ?_
  refine k_iload_n X dX11_follows_11 3 rfl ?_
  refine k_iast [(cO11_i1r1i10r1i2r5i2r12i3r4i2 h0 m_thrown a_tape m_taped m_size m_at m_end m_token m_whole m_nameSize m_fault m_place m_trouble a_letters m_failed m_hasHouse a_r a_fresh a_st a_undone a_kept m_undos m_images a_from a_begin a_motor a_change a_startFrame a_changeFrame a_lostAt a_blackAt a_slips a_leftArc a_died a_arcs m_bestSum m_nearest m_nearestTown a_there a_backAt a_sorted a_parts m_seed1 m_darkNow), (cAI g a_from 8 d_from), (cAI g a_begin 8 d_begin), (cAI g a_motor 8 (upd d_motor (z_1 : Int32).toNatClampNeg p1)), (cAI g a_lostAt 8 d_lostAt), (cAI g a_blackAt 8 d_blackAt)] X dX11_follows_12 3 rfl (iv_in iv_3 (by decide) (by decide)) rfl ?_
  refine (fun hg : ∀ fa_4 : Nat → Int32, Wk p l e _ s m args below meth c _ A g _ _ _ [(cO11_i1r1i10r1i2r5i2r12i3r4i2 h0 m_thrown a_tape m_taped m_size m_at m_end m_token m_whole m_nameSize m_fault m_place m_trouble a_letters m_failed m_hasHouse a_r a_fresh a_st a_undone a_kept m_undos m_images a_from a_begin a_motor a_change a_startFrame a_changeFrame a_lostAt a_blackAt a_slips a_leftArc a_died a_arcs m_bestSum m_nearest m_nearestTown a_there a_backAt a_sorted a_parts m_seed1 m_darkNow), (cAI g a_from 8 d_from), (cAI g a_begin 8 d_begin), (cAI g a_motor 8 fa_4), (cAI g a_lostAt 8 d_lostAt), (cAI g a_blackAt 8 d_blackAt)] _ _ _ => hg _) (fun fa_4 => ?_)
  refine k_aload_n X dX11_follows_13 1 rfl ?_
  refine k_get (ci := 11) X inlX11 rfl 22 (by decide) dX11_follows_14 mw175 0 rfl rfl ?_
  refine k_iload X dX11_follows_17 0 rfl ?_
  refine k_iload X dX11_follows_19 6 rfl ?_
  refine k_if_ne 29 X dX11_follows_21 (by decide) (fun h_5 => ?_) (fun h_5 => ?_)
  · skip
    refine k_iconst (v := 0) X dX11_follows_29 (by decide) ?_
    refine k_goto 35 X dX11_follows_30 (by decide) ?_
    refine k_iast [(cO11_i1r1i10r1i2r5i2r12i3r4i2 h0 m_thrown a_tape m_taped m_size m_at m_end m_token m_whole m_nameSize m_fault m_place m_trouble a_letters m_failed m_hasHouse a_r a_fresh a_st a_undone a_kept m_undos m_images a_from a_begin a_motor a_change a_startFrame a_changeFrame a_lostAt a_blackAt a_slips a_leftArc a_died a_arcs m_bestSum m_nearest m_nearestTown a_there a_backAt a_sorted a_parts m_seed1 m_darkNow), (cAI g a_from 8 (upd d_from (z_1 : Int32).toNatClampNeg 0)), (cAI g a_begin 8 d_begin), (cAI g a_motor 8 fa_4), (cAI g a_lostAt 8 d_lostAt), (cAI g a_blackAt 8 d_blackAt)] X dX11_follows_35 1 rfl (iv_in iv_3 (by decide) (by decide)) rfl ?_
    refine (fun hg : ∀ fa_6 : Nat → Int32, Wk p l e _ s m args below meth c _ A g _ _ _ [(cO11_i1r1i10r1i2r5i2r12i3r4i2 h0 m_thrown a_tape m_taped m_size m_at m_end m_token m_whole m_nameSize m_fault m_place m_trouble a_letters m_failed m_hasHouse a_r a_fresh a_st a_undone a_kept m_undos m_images a_from a_begin a_motor a_change a_startFrame a_changeFrame a_lostAt a_blackAt a_slips a_leftArc a_died a_arcs m_bestSum m_nearest m_nearestTown a_there a_backAt a_sorted a_parts m_seed1 m_darkNow), (cAI g a_from 8 fa_6), (cAI g a_begin 8 d_begin), (cAI g a_motor 8 fa_4), (cAI g a_lostAt 8 d_lostAt), (cAI g a_blackAt 8 d_blackAt)] _ _ _ => hg _) (fun fa_6 => ?_)
    refine k_aload_n X dX11_follows_36 1 rfl ?_
    refine k_get (ci := 11) X inlX11 rfl 28 (by decide) dX11_follows_37 mw181 0 rfl rfl ?_
    refine k_iload X dX11_follows_40 0 rfl ?_
    refine k_aload_n X dX11_follows_42 1 rfl ?_
    refine k_get (ci := 11) X inlX11 rfl 22 (by decide) dX11_follows_43 mw175 0 rfl rfl ?_
    refine k_iload X dX11_follows_46 0 rfl ?_
    refine k_iald X dX11_follows_48 1 rfl (iv_in iv_3 (by decide) (by decide)) ?_
    refine k_nm (fun z_7 ez_7 => ?_)
    refine k_iast [(cO11_i1r1i10r1i2r5i2r12i3r4i2 h0 m_thrown a_tape m_taped m_size m_at m_end m_token m_whole m_nameSize m_fault m_place m_trouble a_letters m_failed m_hasHouse a_r a_fresh a_st a_undone a_kept m_undos m_images a_from a_begin a_motor a_change a_startFrame a_changeFrame a_lostAt a_blackAt a_slips a_leftArc a_died a_arcs m_bestSum m_nearest m_nearestTown a_there a_backAt a_sorted a_parts m_seed1 m_darkNow), (cAI g a_from 8 fa_6), (cAI g a_begin 8 d_begin), (cAI g a_motor 8 fa_4), (cAI g a_lostAt 8 (upd d_lostAt (z_1 : Int32).toNatClampNeg z_7)), (cAI g a_blackAt 8 d_blackAt)] X dX11_follows_49 4 rfl (iv_in iv_3 (by decide) (by decide)) rfl ?_
    refine (fun hg : ∀ fa_8 : Nat → Int32, Wk p l e _ s m args below meth c _ A g _ _ _ [(cO11_i1r1i10r1i2r5i2r12i3r4i2 h0 m_thrown a_tape m_taped m_size m_at m_end m_token m_whole m_nameSize m_fault m_place m_trouble a_letters m_failed m_hasHouse a_r a_fresh a_st a_undone a_kept m_undos m_images a_from a_begin a_motor a_change a_startFrame a_changeFrame a_lostAt a_blackAt a_slips a_leftArc a_died a_arcs m_bestSum m_nearest m_nearestTown a_there a_backAt a_sorted a_parts m_seed1 m_darkNow), (cAI g a_from 8 fa_6), (cAI g a_begin 8 d_begin), (cAI g a_motor 8 fa_4), (cAI g a_lostAt 8 fa_8), (cAI g a_blackAt 8 d_blackAt)] _ _ _ => hg _) (fun fa_8 => ?_)
    refine k_aload_n X dX11_follows_50 1 rfl ?_
    refine k_get (ci := 11) X inlX11 rfl 29 (by decide) dX11_follows_51 mw182 0 rfl rfl ?_
    refine k_iload X dX11_follows_54 0 rfl ?_
    refine k_iload X dX11_follows_56 6 rfl ?_
    refine k_if_ne 66 X dX11_follows_58 (by decide) (fun h_9 => ?_) (fun h_9 => ?_)
    · skip
      refine k_iconst (v := 0) X dX11_follows_66 (by decide) ?_
      refine k_goto 73 X dX11_follows_67 (by decide) ?_
      refine k_iast [(cO11_i1r1i10r1i2r5i2r12i3r4i2 h0 m_thrown a_tape m_taped m_size m_at m_end m_token m_whole m_nameSize m_fault m_place m_trouble a_letters m_failed m_hasHouse a_r a_fresh a_st a_undone a_kept m_undos m_images a_from a_begin a_motor a_change a_startFrame a_changeFrame a_lostAt a_blackAt a_slips a_leftArc a_died a_arcs m_bestSum m_nearest m_nearestTown a_there a_backAt a_sorted a_parts m_seed1 m_darkNow), (cAI g a_from 8 fa_6), (cAI g a_begin 8 d_begin), (cAI g a_motor 8 fa_4), (cAI g a_lostAt 8 fa_8), (cAI g a_blackAt 8 (upd d_blackAt (z_1 : Int32).toNatClampNeg 0))] X dX11_follows_73 5 rfl (iv_in iv_3 (by decide) (by decide)) rfl ?_
      refine (fun hg : ∀ fa_10 : Nat → Int32, Wk p l e _ s m args below meth c _ A g _ _ _ [(cO11_i1r1i10r1i2r5i2r12i3r4i2 h0 m_thrown a_tape m_taped m_size m_at m_end m_token m_whole m_nameSize m_fault m_place m_trouble a_letters m_failed m_hasHouse a_r a_fresh a_st a_undone a_kept m_undos m_images a_from a_begin a_motor a_change a_startFrame a_changeFrame a_lostAt a_blackAt a_slips a_leftArc a_died a_arcs m_bestSum m_nearest m_nearestTown a_there a_backAt a_sorted a_parts m_seed1 m_darkNow), (cAI g a_from 8 fa_6), (cAI g a_begin 8 d_begin), (cAI g a_motor 8 fa_4), (cAI g a_lostAt 8 fa_8), (cAI g a_blackAt 8 fa_10)] _ _ _ => hg _) (fun fa_10 => ?_)
      refine k_aload_n X dX11_follows_74 1 rfl ?_
      refine k_get (ci := 11) X inlX11 rfl 23 (by decide) dX11_follows_75 mw176 0 rfl rfl ?_
      refine k_iload X dX11_follows_78 0 rfl ?_
      refine k_iload_n X dX11_follows_80 4 rfl ?_
      refine k_aload_n X dX11_follows_81 1 rfl ?_
      refine k_get (ci := 11) X inlX11 rfl 29 (by decide) dX11_follows_82 mw182 0 rfl rfl ?_
      refine k_iload X dX11_follows_85 0 rfl ?_
      refine k_iald X dX11_follows_87 5 rfl (iv_in iv_3 (by decide) (by decide)) ?_
      refine k_nm (fun z_11 ez_11 => ?_)
      refine k_iadd X dX11_follows_88 ?_
      refine k_nm (fun z_12 ez_12 => ?_)
      refine k_iast [(cO11_i1r1i10r1i2r5i2r12i3r4i2 h0 m_thrown a_tape m_taped m_size m_at m_end m_token m_whole m_nameSize m_fault m_place m_trouble a_letters m_failed m_hasHouse a_r a_fresh a_st a_undone a_kept m_undos m_images a_from a_begin a_motor a_change a_startFrame a_changeFrame a_lostAt a_blackAt a_slips a_leftArc a_died a_arcs m_bestSum m_nearest m_nearestTown a_there a_backAt a_sorted a_parts m_seed1 m_darkNow), (cAI g a_from 8 fa_6), (cAI g a_begin 8 (upd d_begin (z_1 : Int32).toNatClampNeg z_12)), (cAI g a_motor 8 fa_4), (cAI g a_lostAt 8 fa_8), (cAI g a_blackAt 8 fa_10)] X dX11_follows_89 2 rfl (iv_in iv_3 (by decide) (by decide)) rfl ?_
      refine (fun hg : ∀ fa_14 : Nat → Int32, Wk p l e _ s m args below meth c _ A g _ _ _ [(cO11_i1r1i10r1i2r5i2r12i3r4i2 h0 m_thrown a_tape m_taped m_size m_at m_end m_token m_whole m_nameSize m_fault m_place m_trouble a_letters m_failed m_hasHouse a_r a_fresh a_st a_undone a_kept m_undos m_images a_from a_begin a_motor a_change a_startFrame a_changeFrame a_lostAt a_blackAt a_slips a_leftArc a_died a_arcs m_bestSum m_nearest m_nearestTown a_there a_backAt a_sorted a_parts m_seed1 m_darkNow), (cAI g a_from 8 fa_6), (cAI g a_begin 8 fa_14), (cAI g a_motor 8 fa_4), (cAI g a_lostAt 8 fa_8), (cAI g a_blackAt 8 fa_10)] _ _ _ => hg _) (fun fa_14 => ?_)
      exact k_vret X hr dX11_follows_90 (Nat.le_of_ble_eq_true rfl) (Nat.le_of_ble_eq_true rfl) [0, 1, 2, 3, 4, 5] (by decide) rfl rfl ⟨fa_14, fa_10, fa_6, fa_8, fa_4, rfl⟩
    · skip
      have iv_15 : IV p4 0 0 := iv_meet (iv_any p4) (iv_e h_9 (show IV 0 0 0 from (by decide))) (by decide) (by decide)
      refine k_iload X dX11_follows_61 5 rfl ?_
      refine k_if_le 70 X dX11_follows_63 (by decide) (fun h_16 => ?_) (fun h_16 => ?_)
      · skip
        have j_17 : p3.toInt ≤ 0 := iv_le h_16
        have iv_18 : IV p3 (-2147483648) 0 := iv_leL (iv_le h_16) (iv_any p3) (show IV 0 0 0 from (by decide)) (by decide)
        refine k_iload X dX11_follows_70 5 rfl ?_
        refine k_ineg X dX11_follows_72 ?_
        refine k_nm (fun z_19 ez_19 => ?_)
        refine k_iast [(cO11_i1r1i10r1i2r5i2r12i3r4i2 h0 m_thrown a_tape m_taped m_size m_at m_end m_token m_whole m_nameSize m_fault m_place m_trouble a_letters m_failed m_hasHouse a_r a_fresh a_st a_undone a_kept m_undos m_images a_from a_begin a_motor a_change a_startFrame a_changeFrame a_lostAt a_blackAt a_slips a_leftArc a_died a_arcs m_bestSum m_nearest m_nearestTown a_there a_backAt a_sorted a_parts m_seed1 m_darkNow), (cAI g a_from 8 fa_6), (cAI g a_begin 8 d_begin), (cAI g a_motor 8 fa_4), (cAI g a_lostAt 8 fa_8), (cAI g a_blackAt 8 (upd d_blackAt (z_1 : Int32).toNatClampNeg z_19))] X dX11_follows_73 5 rfl (iv_in iv_3 (by decide) (by decide)) rfl ?_
        refine (fun hg : ∀ fa_20 : Nat → Int32, Wk p l e _ s m args below meth c _ A g _ _ _ [(cO11_i1r1i10r1i2r5i2r12i3r4i2 h0 m_thrown a_tape m_taped m_size m_at m_end m_token m_whole m_nameSize m_fault m_place m_trouble a_letters m_failed m_hasHouse a_r a_fresh a_st a_undone a_kept m_undos m_images a_from a_begin a_motor a_change a_startFrame a_changeFrame a_lostAt a_blackAt a_slips a_leftArc a_died a_arcs m_bestSum m_nearest m_nearestTown a_there a_backAt a_sorted a_parts m_seed1 m_darkNow), (cAI g a_from 8 fa_6), (cAI g a_begin 8 d_begin), (cAI g a_motor 8 fa_4), (cAI g a_lostAt 8 fa_8), (cAI g a_blackAt 8 fa_20)] _ _ _ => hg _) (fun fa_20 => ?_)
        refine k_aload_n X dX11_follows_74 1 rfl ?_
        refine k_get (ci := 11) X inlX11 rfl 23 (by decide) dX11_follows_75 mw176 0 rfl rfl ?_
        refine k_iload X dX11_follows_78 0 rfl ?_
        refine k_iload_n X dX11_follows_80 4 rfl ?_
        refine k_aload_n X dX11_follows_81 1 rfl ?_
        refine k_get (ci := 11) X inlX11 rfl 29 (by decide) dX11_follows_82 mw182 0 rfl rfl ?_
        refine k_iload X dX11_follows_85 0 rfl ?_
        refine k_iald X dX11_follows_87 5 rfl (iv_in iv_3 (by decide) (by decide)) ?_
        refine k_nm (fun z_21 ez_21 => ?_)
        refine k_iadd X dX11_follows_88 ?_
        refine k_nm (fun z_22 ez_22 => ?_)
        refine k_iast [(cO11_i1r1i10r1i2r5i2r12i3r4i2 h0 m_thrown a_tape m_taped m_size m_at m_end m_token m_whole m_nameSize m_fault m_place m_trouble a_letters m_failed m_hasHouse a_r a_fresh a_st a_undone a_kept m_undos m_images a_from a_begin a_motor a_change a_startFrame a_changeFrame a_lostAt a_blackAt a_slips a_leftArc a_died a_arcs m_bestSum m_nearest m_nearestTown a_there a_backAt a_sorted a_parts m_seed1 m_darkNow), (cAI g a_from 8 fa_6), (cAI g a_begin 8 (upd d_begin (z_1 : Int32).toNatClampNeg z_22)), (cAI g a_motor 8 fa_4), (cAI g a_lostAt 8 fa_8), (cAI g a_blackAt 8 fa_20)] X dX11_follows_89 2 rfl (iv_in iv_3 (by decide) (by decide)) rfl ?_
        refine (fun hg : ∀ fa_24 : Nat → Int32, Wk p l e _ s m args below meth c _ A g _ _ _ [(cO11_i1r1i10r1i2r5i2r12i3r4i2 h0 m_thrown a_tape m_taped m_size m_at m_end m_token m_whole m_nameSize m_fault m_place m_trouble a_letters m_failed m_hasHouse a_r a_fresh a_st a_undone a_kept m_undos m_images a_from a_begin a_motor a_change a_startFrame a_changeFrame a_lostAt a_blackAt a_slips a_leftArc a_died a_arcs m_bestSum m_nearest m_nearestTown a_there a_backAt a_sorted a_parts m_seed1 m_darkNow), (cAI g a_from 8 fa_6), (cAI g a_begin 8 fa_24), (cAI g a_motor 8 fa_4), (cAI g a_lostAt 8 fa_8), (cAI g a_blackAt 8 fa_20)] _ _ _ => hg _) (fun fa_24 => ?_)
        exact k_vret X hr dX11_follows_90 (Nat.le_of_ble_eq_true rfl) (Nat.le_of_ble_eq_true rfl) [0, 1, 2, 3, 4, 5] (by decide) rfl rfl ⟨fa_24, fa_20, fa_6, fa_8, fa_4, rfl⟩
      · skip
        have j_25 : 0 < p3.toInt := iv_nle h_16
        have iv_26 : IV p3 1 2147483647 := iv_ltR (iv_nle h_16) (show IV 0 0 0 from (by decide)) (iv_any p3) (by decide)
        refine k_iconst (v := 0) X dX11_follows_66 (by decide) ?_
        refine k_goto 73 X dX11_follows_67 (by decide) ?_
        refine k_iast [(cO11_i1r1i10r1i2r5i2r12i3r4i2 h0 m_thrown a_tape m_taped m_size m_at m_end m_token m_whole m_nameSize m_fault m_place m_trouble a_letters m_failed m_hasHouse a_r a_fresh a_st a_undone a_kept m_undos m_images a_from a_begin a_motor a_change a_startFrame a_changeFrame a_lostAt a_blackAt a_slips a_leftArc a_died a_arcs m_bestSum m_nearest m_nearestTown a_there a_backAt a_sorted a_parts m_seed1 m_darkNow), (cAI g a_from 8 fa_6), (cAI g a_begin 8 d_begin), (cAI g a_motor 8 fa_4), (cAI g a_lostAt 8 fa_8), (cAI g a_blackAt 8 (upd d_blackAt (z_1 : Int32).toNatClampNeg 0))] X dX11_follows_73 5 rfl (iv_in iv_3 (by decide) (by decide)) rfl ?_
        refine (fun hg : ∀ fa_27 : Nat → Int32, Wk p l e _ s m args below meth c _ A g _ _ _ [(cO11_i1r1i10r1i2r5i2r12i3r4i2 h0 m_thrown a_tape m_taped m_size m_at m_end m_token m_whole m_nameSize m_fault m_place m_trouble a_letters m_failed m_hasHouse a_r a_fresh a_st a_undone a_kept m_undos m_images a_from a_begin a_motor a_change a_startFrame a_changeFrame a_lostAt a_blackAt a_slips a_leftArc a_died a_arcs m_bestSum m_nearest m_nearestTown a_there a_backAt a_sorted a_parts m_seed1 m_darkNow), (cAI g a_from 8 fa_6), (cAI g a_begin 8 d_begin), (cAI g a_motor 8 fa_4), (cAI g a_lostAt 8 fa_8), (cAI g a_blackAt 8 fa_27)] _ _ _ => hg _) (fun fa_27 => ?_)
        refine k_aload_n X dX11_follows_74 1 rfl ?_
        refine k_get (ci := 11) X inlX11 rfl 23 (by decide) dX11_follows_75 mw176 0 rfl rfl ?_
        refine k_iload X dX11_follows_78 0 rfl ?_
        refine k_iload_n X dX11_follows_80 4 rfl ?_
        refine k_aload_n X dX11_follows_81 1 rfl ?_
        refine k_get (ci := 11) X inlX11 rfl 29 (by decide) dX11_follows_82 mw182 0 rfl rfl ?_
        refine k_iload X dX11_follows_85 0 rfl ?_
        refine k_iald X dX11_follows_87 5 rfl (iv_in iv_3 (by decide) (by decide)) ?_
        refine k_nm (fun z_28 ez_28 => ?_)
        refine k_iadd X dX11_follows_88 ?_
        refine k_nm (fun z_29 ez_29 => ?_)
        refine k_iast [(cO11_i1r1i10r1i2r5i2r12i3r4i2 h0 m_thrown a_tape m_taped m_size m_at m_end m_token m_whole m_nameSize m_fault m_place m_trouble a_letters m_failed m_hasHouse a_r a_fresh a_st a_undone a_kept m_undos m_images a_from a_begin a_motor a_change a_startFrame a_changeFrame a_lostAt a_blackAt a_slips a_leftArc a_died a_arcs m_bestSum m_nearest m_nearestTown a_there a_backAt a_sorted a_parts m_seed1 m_darkNow), (cAI g a_from 8 fa_6), (cAI g a_begin 8 (upd d_begin (z_1 : Int32).toNatClampNeg z_29)), (cAI g a_motor 8 fa_4), (cAI g a_lostAt 8 fa_8), (cAI g a_blackAt 8 fa_27)] X dX11_follows_89 2 rfl (iv_in iv_3 (by decide) (by decide)) rfl ?_
        refine (fun hg : ∀ fa_31 : Nat → Int32, Wk p l e _ s m args below meth c _ A g _ _ _ [(cO11_i1r1i10r1i2r5i2r12i3r4i2 h0 m_thrown a_tape m_taped m_size m_at m_end m_token m_whole m_nameSize m_fault m_place m_trouble a_letters m_failed m_hasHouse a_r a_fresh a_st a_undone a_kept m_undos m_images a_from a_begin a_motor a_change a_startFrame a_changeFrame a_lostAt a_blackAt a_slips a_leftArc a_died a_arcs m_bestSum m_nearest m_nearestTown a_there a_backAt a_sorted a_parts m_seed1 m_darkNow), (cAI g a_from 8 fa_6), (cAI g a_begin 8 fa_31), (cAI g a_motor 8 fa_4), (cAI g a_lostAt 8 fa_8), (cAI g a_blackAt 8 fa_27)] _ _ _ => hg _) (fun fa_31 => ?_)
        exact k_vret X hr dX11_follows_90 (Nat.le_of_ble_eq_true rfl) (Nat.le_of_ble_eq_true rfl) [0, 1, 2, 3, 4, 5] (by decide) rfl rfl ⟨fa_31, fa_27, fa_6, fa_8, fa_4, rfl⟩
  · skip
    have iv_32 : IV p4 0 0 := iv_meet (iv_any p4) (iv_e h_5 (show IV 0 0 0 from (by decide))) (by decide) (by decide)
    refine k_iload X dX11_follows_24 5 rfl ?_
    refine k_if_ge 33 X dX11_follows_26 (by decide) (fun h_33 => ?_) (fun h_33 => ?_)
    · skip
      have j_34 : 0 ≤ p3.toInt := iv_le h_33
      have iv_35 : IV p3 0 2147483647 := iv_leR (iv_le h_33) (show IV 0 0 0 from (by decide)) (iv_any p3) (by decide)
      refine k_iload X dX11_follows_33 5 rfl ?_
      refine k_iast [(cO11_i1r1i10r1i2r5i2r12i3r4i2 h0 m_thrown a_tape m_taped m_size m_at m_end m_token m_whole m_nameSize m_fault m_place m_trouble a_letters m_failed m_hasHouse a_r a_fresh a_st a_undone a_kept m_undos m_images a_from a_begin a_motor a_change a_startFrame a_changeFrame a_lostAt a_blackAt a_slips a_leftArc a_died a_arcs m_bestSum m_nearest m_nearestTown a_there a_backAt a_sorted a_parts m_seed1 m_darkNow), (cAI g a_from 8 (upd d_from (z_1 : Int32).toNatClampNeg p3)), (cAI g a_begin 8 d_begin), (cAI g a_motor 8 fa_4), (cAI g a_lostAt 8 d_lostAt), (cAI g a_blackAt 8 d_blackAt)] X dX11_follows_35 1 rfl (iv_in iv_3 (by decide) (by decide)) rfl ?_
      refine (fun hg : ∀ fa_36 : Nat → Int32, Wk p l e _ s m args below meth c _ A g _ _ _ [(cO11_i1r1i10r1i2r5i2r12i3r4i2 h0 m_thrown a_tape m_taped m_size m_at m_end m_token m_whole m_nameSize m_fault m_place m_trouble a_letters m_failed m_hasHouse a_r a_fresh a_st a_undone a_kept m_undos m_images a_from a_begin a_motor a_change a_startFrame a_changeFrame a_lostAt a_blackAt a_slips a_leftArc a_died a_arcs m_bestSum m_nearest m_nearestTown a_there a_backAt a_sorted a_parts m_seed1 m_darkNow), (cAI g a_from 8 fa_36), (cAI g a_begin 8 d_begin), (cAI g a_motor 8 fa_4), (cAI g a_lostAt 8 d_lostAt), (cAI g a_blackAt 8 d_blackAt)] _ _ _ => hg _) (fun fa_36 => ?_)
      refine k_aload_n X dX11_follows_36 1 rfl ?_
      refine k_get (ci := 11) X inlX11 rfl 28 (by decide) dX11_follows_37 mw181 0 rfl rfl ?_
      refine k_iload X dX11_follows_40 0 rfl ?_
      refine k_aload_n X dX11_follows_42 1 rfl ?_
      refine k_get (ci := 11) X inlX11 rfl 22 (by decide) dX11_follows_43 mw175 0 rfl rfl ?_
      refine k_iload X dX11_follows_46 0 rfl ?_
      refine k_iald X dX11_follows_48 1 rfl (iv_in iv_3 (by decide) (by decide)) ?_
      refine k_nm (fun z_37 ez_37 => ?_)
      refine k_iast [(cO11_i1r1i10r1i2r5i2r12i3r4i2 h0 m_thrown a_tape m_taped m_size m_at m_end m_token m_whole m_nameSize m_fault m_place m_trouble a_letters m_failed m_hasHouse a_r a_fresh a_st a_undone a_kept m_undos m_images a_from a_begin a_motor a_change a_startFrame a_changeFrame a_lostAt a_blackAt a_slips a_leftArc a_died a_arcs m_bestSum m_nearest m_nearestTown a_there a_backAt a_sorted a_parts m_seed1 m_darkNow), (cAI g a_from 8 fa_36), (cAI g a_begin 8 d_begin), (cAI g a_motor 8 fa_4), (cAI g a_lostAt 8 (upd d_lostAt (z_1 : Int32).toNatClampNeg z_37)), (cAI g a_blackAt 8 d_blackAt)] X dX11_follows_49 4 rfl (iv_in iv_3 (by decide) (by decide)) rfl ?_
      refine (fun hg : ∀ fa_38 : Nat → Int32, Wk p l e _ s m args below meth c _ A g _ _ _ [(cO11_i1r1i10r1i2r5i2r12i3r4i2 h0 m_thrown a_tape m_taped m_size m_at m_end m_token m_whole m_nameSize m_fault m_place m_trouble a_letters m_failed m_hasHouse a_r a_fresh a_st a_undone a_kept m_undos m_images a_from a_begin a_motor a_change a_startFrame a_changeFrame a_lostAt a_blackAt a_slips a_leftArc a_died a_arcs m_bestSum m_nearest m_nearestTown a_there a_backAt a_sorted a_parts m_seed1 m_darkNow), (cAI g a_from 8 fa_36), (cAI g a_begin 8 d_begin), (cAI g a_motor 8 fa_4), (cAI g a_lostAt 8 fa_38), (cAI g a_blackAt 8 d_blackAt)] _ _ _ => hg _) (fun fa_38 => ?_)
      refine k_aload_n X dX11_follows_50 1 rfl ?_
      refine k_get (ci := 11) X inlX11 rfl 29 (by decide) dX11_follows_51 mw182 0 rfl rfl ?_
      refine k_iload X dX11_follows_54 0 rfl ?_
      refine k_iload X dX11_follows_56 6 rfl ?_
      refine k_if_ne 66 X dX11_follows_58 (by decide) (fun h_39 => absurd (iv_eq iv_32 (show IV 0 0 0 from (by decide))) h_39) (fun h_39 => ?_)
      refine k_iload X dX11_follows_61 5 rfl ?_
      refine k_if_le 70 X dX11_follows_63 (by decide) (fun h_40 => ?_) (fun h_40 => ?_)
      · skip
        have j_41 : p3.toInt ≤ 0 := iv_le h_40
        have iv_42 : IV p3 0 0 := iv_leL (iv_le h_40) iv_35 (show IV 0 0 0 from (by decide)) (by decide)
        refine k_iload X dX11_follows_70 5 rfl ?_
        refine k_ineg X dX11_follows_72 ?_
        refine k_nm (fun z_43 ez_43 => ?_)
        refine k_iast [(cO11_i1r1i10r1i2r5i2r12i3r4i2 h0 m_thrown a_tape m_taped m_size m_at m_end m_token m_whole m_nameSize m_fault m_place m_trouble a_letters m_failed m_hasHouse a_r a_fresh a_st a_undone a_kept m_undos m_images a_from a_begin a_motor a_change a_startFrame a_changeFrame a_lostAt a_blackAt a_slips a_leftArc a_died a_arcs m_bestSum m_nearest m_nearestTown a_there a_backAt a_sorted a_parts m_seed1 m_darkNow), (cAI g a_from 8 fa_36), (cAI g a_begin 8 d_begin), (cAI g a_motor 8 fa_4), (cAI g a_lostAt 8 fa_38), (cAI g a_blackAt 8 (upd d_blackAt (z_1 : Int32).toNatClampNeg z_43))] X dX11_follows_73 5 rfl (iv_in iv_3 (by decide) (by decide)) rfl ?_
        refine (fun hg : ∀ fa_44 : Nat → Int32, Wk p l e _ s m args below meth c _ A g _ _ _ [(cO11_i1r1i10r1i2r5i2r12i3r4i2 h0 m_thrown a_tape m_taped m_size m_at m_end m_token m_whole m_nameSize m_fault m_place m_trouble a_letters m_failed m_hasHouse a_r a_fresh a_st a_undone a_kept m_undos m_images a_from a_begin a_motor a_change a_startFrame a_changeFrame a_lostAt a_blackAt a_slips a_leftArc a_died a_arcs m_bestSum m_nearest m_nearestTown a_there a_backAt a_sorted a_parts m_seed1 m_darkNow), (cAI g a_from 8 fa_36), (cAI g a_begin 8 d_begin), (cAI g a_motor 8 fa_4), (cAI g a_lostAt 8 fa_38), (cAI g a_blackAt 8 fa_44)] _ _ _ => hg _) (fun fa_44 => ?_)
        refine k_aload_n X dX11_follows_74 1 rfl ?_
        refine k_get (ci := 11) X inlX11 rfl 23 (by decide) dX11_follows_75 mw176 0 rfl rfl ?_
        refine k_iload X dX11_follows_78 0 rfl ?_
        refine k_iload_n X dX11_follows_80 4 rfl ?_
        refine k_aload_n X dX11_follows_81 1 rfl ?_
        refine k_get (ci := 11) X inlX11 rfl 29 (by decide) dX11_follows_82 mw182 0 rfl rfl ?_
        refine k_iload X dX11_follows_85 0 rfl ?_
        refine k_iald X dX11_follows_87 5 rfl (iv_in iv_3 (by decide) (by decide)) ?_
        refine k_nm (fun z_45 ez_45 => ?_)
        refine k_iadd X dX11_follows_88 ?_
        refine k_nm (fun z_46 ez_46 => ?_)
        refine k_iast [(cO11_i1r1i10r1i2r5i2r12i3r4i2 h0 m_thrown a_tape m_taped m_size m_at m_end m_token m_whole m_nameSize m_fault m_place m_trouble a_letters m_failed m_hasHouse a_r a_fresh a_st a_undone a_kept m_undos m_images a_from a_begin a_motor a_change a_startFrame a_changeFrame a_lostAt a_blackAt a_slips a_leftArc a_died a_arcs m_bestSum m_nearest m_nearestTown a_there a_backAt a_sorted a_parts m_seed1 m_darkNow), (cAI g a_from 8 fa_36), (cAI g a_begin 8 (upd d_begin (z_1 : Int32).toNatClampNeg z_46)), (cAI g a_motor 8 fa_4), (cAI g a_lostAt 8 fa_38), (cAI g a_blackAt 8 fa_44)] X dX11_follows_89 2 rfl (iv_in iv_3 (by decide) (by decide)) rfl ?_
        refine (fun hg : ∀ fa_48 : Nat → Int32, Wk p l e _ s m args below meth c _ A g _ _ _ [(cO11_i1r1i10r1i2r5i2r12i3r4i2 h0 m_thrown a_tape m_taped m_size m_at m_end m_token m_whole m_nameSize m_fault m_place m_trouble a_letters m_failed m_hasHouse a_r a_fresh a_st a_undone a_kept m_undos m_images a_from a_begin a_motor a_change a_startFrame a_changeFrame a_lostAt a_blackAt a_slips a_leftArc a_died a_arcs m_bestSum m_nearest m_nearestTown a_there a_backAt a_sorted a_parts m_seed1 m_darkNow), (cAI g a_from 8 fa_36), (cAI g a_begin 8 fa_48), (cAI g a_motor 8 fa_4), (cAI g a_lostAt 8 fa_38), (cAI g a_blackAt 8 fa_44)] _ _ _ => hg _) (fun fa_48 => ?_)
        exact k_vret X hr dX11_follows_90 (Nat.le_of_ble_eq_true rfl) (Nat.le_of_ble_eq_true rfl) [0, 1, 2, 3, 4, 5] (by decide) rfl rfl ⟨fa_48, fa_44, fa_36, fa_38, fa_4, rfl⟩
      · skip
        have j_49 : 0 < p3.toInt := iv_nle h_40
        have iv_50 : IV p3 1 2147483647 := iv_ltR (iv_nle h_40) (show IV 0 0 0 from (by decide)) iv_35 (by decide)
        refine k_iconst (v := 0) X dX11_follows_66 (by decide) ?_
        refine k_goto 73 X dX11_follows_67 (by decide) ?_
        refine k_iast [(cO11_i1r1i10r1i2r5i2r12i3r4i2 h0 m_thrown a_tape m_taped m_size m_at m_end m_token m_whole m_nameSize m_fault m_place m_trouble a_letters m_failed m_hasHouse a_r a_fresh a_st a_undone a_kept m_undos m_images a_from a_begin a_motor a_change a_startFrame a_changeFrame a_lostAt a_blackAt a_slips a_leftArc a_died a_arcs m_bestSum m_nearest m_nearestTown a_there a_backAt a_sorted a_parts m_seed1 m_darkNow), (cAI g a_from 8 fa_36), (cAI g a_begin 8 d_begin), (cAI g a_motor 8 fa_4), (cAI g a_lostAt 8 fa_38), (cAI g a_blackAt 8 (upd d_blackAt (z_1 : Int32).toNatClampNeg 0))] X dX11_follows_73 5 rfl (iv_in iv_3 (by decide) (by decide)) rfl ?_
        refine (fun hg : ∀ fa_51 : Nat → Int32, Wk p l e _ s m args below meth c _ A g _ _ _ [(cO11_i1r1i10r1i2r5i2r12i3r4i2 h0 m_thrown a_tape m_taped m_size m_at m_end m_token m_whole m_nameSize m_fault m_place m_trouble a_letters m_failed m_hasHouse a_r a_fresh a_st a_undone a_kept m_undos m_images a_from a_begin a_motor a_change a_startFrame a_changeFrame a_lostAt a_blackAt a_slips a_leftArc a_died a_arcs m_bestSum m_nearest m_nearestTown a_there a_backAt a_sorted a_parts m_seed1 m_darkNow), (cAI g a_from 8 fa_36), (cAI g a_begin 8 d_begin), (cAI g a_motor 8 fa_4), (cAI g a_lostAt 8 fa_38), (cAI g a_blackAt 8 fa_51)] _ _ _ => hg _) (fun fa_51 => ?_)
        refine k_aload_n X dX11_follows_74 1 rfl ?_
        refine k_get (ci := 11) X inlX11 rfl 23 (by decide) dX11_follows_75 mw176 0 rfl rfl ?_
        refine k_iload X dX11_follows_78 0 rfl ?_
        refine k_iload_n X dX11_follows_80 4 rfl ?_
        refine k_aload_n X dX11_follows_81 1 rfl ?_
        refine k_get (ci := 11) X inlX11 rfl 29 (by decide) dX11_follows_82 mw182 0 rfl rfl ?_
        refine k_iload X dX11_follows_85 0 rfl ?_
        refine k_iald X dX11_follows_87 5 rfl (iv_in iv_3 (by decide) (by decide)) ?_
        refine k_nm (fun z_52 ez_52 => ?_)
        refine k_iadd X dX11_follows_88 ?_
        refine k_nm (fun z_53 ez_53 => ?_)
        refine k_iast [(cO11_i1r1i10r1i2r5i2r12i3r4i2 h0 m_thrown a_tape m_taped m_size m_at m_end m_token m_whole m_nameSize m_fault m_place m_trouble a_letters m_failed m_hasHouse a_r a_fresh a_st a_undone a_kept m_undos m_images a_from a_begin a_motor a_change a_startFrame a_changeFrame a_lostAt a_blackAt a_slips a_leftArc a_died a_arcs m_bestSum m_nearest m_nearestTown a_there a_backAt a_sorted a_parts m_seed1 m_darkNow), (cAI g a_from 8 fa_36), (cAI g a_begin 8 (upd d_begin (z_1 : Int32).toNatClampNeg z_53)), (cAI g a_motor 8 fa_4), (cAI g a_lostAt 8 fa_38), (cAI g a_blackAt 8 fa_51)] X dX11_follows_89 2 rfl (iv_in iv_3 (by decide) (by decide)) rfl ?_
        refine (fun hg : ∀ fa_55 : Nat → Int32, Wk p l e _ s m args below meth c _ A g _ _ _ [(cO11_i1r1i10r1i2r5i2r12i3r4i2 h0 m_thrown a_tape m_taped m_size m_at m_end m_token m_whole m_nameSize m_fault m_place m_trouble a_letters m_failed m_hasHouse a_r a_fresh a_st a_undone a_kept m_undos m_images a_from a_begin a_motor a_change a_startFrame a_changeFrame a_lostAt a_blackAt a_slips a_leftArc a_died a_arcs m_bestSum m_nearest m_nearestTown a_there a_backAt a_sorted a_parts m_seed1 m_darkNow), (cAI g a_from 8 fa_36), (cAI g a_begin 8 fa_55), (cAI g a_motor 8 fa_4), (cAI g a_lostAt 8 fa_38), (cAI g a_blackAt 8 fa_51)] _ _ _ => hg _) (fun fa_55 => ?_)
        exact k_vret X hr dX11_follows_90 (Nat.le_of_ble_eq_true rfl) (Nat.le_of_ble_eq_true rfl) [0, 1, 2, 3, 4, 5] (by decide) rfl rfl ⟨fa_55, fa_51, fa_36, fa_38, fa_4, rfl⟩
    · skip
      have j_56 : p3.toInt < 0 := iv_nle h_33
      have iv_57 : IV p3 (-2147483648) (-1) := iv_ltL (iv_nle h_33) (iv_any p3) (show IV 0 0 0 from (by decide)) (by decide)
      refine k_iconst (v := 0) X dX11_follows_29 (by decide) ?_
      refine k_goto 35 X dX11_follows_30 (by decide) ?_
      refine k_iast [(cO11_i1r1i10r1i2r5i2r12i3r4i2 h0 m_thrown a_tape m_taped m_size m_at m_end m_token m_whole m_nameSize m_fault m_place m_trouble a_letters m_failed m_hasHouse a_r a_fresh a_st a_undone a_kept m_undos m_images a_from a_begin a_motor a_change a_startFrame a_changeFrame a_lostAt a_blackAt a_slips a_leftArc a_died a_arcs m_bestSum m_nearest m_nearestTown a_there a_backAt a_sorted a_parts m_seed1 m_darkNow), (cAI g a_from 8 (upd d_from (z_1 : Int32).toNatClampNeg 0)), (cAI g a_begin 8 d_begin), (cAI g a_motor 8 fa_4), (cAI g a_lostAt 8 d_lostAt), (cAI g a_blackAt 8 d_blackAt)] X dX11_follows_35 1 rfl (iv_in iv_3 (by decide) (by decide)) rfl ?_
      refine (fun hg : ∀ fa_58 : Nat → Int32, Wk p l e _ s m args below meth c _ A g _ _ _ [(cO11_i1r1i10r1i2r5i2r12i3r4i2 h0 m_thrown a_tape m_taped m_size m_at m_end m_token m_whole m_nameSize m_fault m_place m_trouble a_letters m_failed m_hasHouse a_r a_fresh a_st a_undone a_kept m_undos m_images a_from a_begin a_motor a_change a_startFrame a_changeFrame a_lostAt a_blackAt a_slips a_leftArc a_died a_arcs m_bestSum m_nearest m_nearestTown a_there a_backAt a_sorted a_parts m_seed1 m_darkNow), (cAI g a_from 8 fa_58), (cAI g a_begin 8 d_begin), (cAI g a_motor 8 fa_4), (cAI g a_lostAt 8 d_lostAt), (cAI g a_blackAt 8 d_blackAt)] _ _ _ => hg _) (fun fa_58 => ?_)
      refine k_aload_n X dX11_follows_36 1 rfl ?_
      refine k_get (ci := 11) X inlX11 rfl 28 (by decide) dX11_follows_37 mw181 0 rfl rfl ?_
      refine k_iload X dX11_follows_40 0 rfl ?_
      refine k_aload_n X dX11_follows_42 1 rfl ?_
      refine k_get (ci := 11) X inlX11 rfl 22 (by decide) dX11_follows_43 mw175 0 rfl rfl ?_
      refine k_iload X dX11_follows_46 0 rfl ?_
      refine k_iald X dX11_follows_48 1 rfl (iv_in iv_3 (by decide) (by decide)) ?_
      refine k_nm (fun z_59 ez_59 => ?_)
      refine k_iast [(cO11_i1r1i10r1i2r5i2r12i3r4i2 h0 m_thrown a_tape m_taped m_size m_at m_end m_token m_whole m_nameSize m_fault m_place m_trouble a_letters m_failed m_hasHouse a_r a_fresh a_st a_undone a_kept m_undos m_images a_from a_begin a_motor a_change a_startFrame a_changeFrame a_lostAt a_blackAt a_slips a_leftArc a_died a_arcs m_bestSum m_nearest m_nearestTown a_there a_backAt a_sorted a_parts m_seed1 m_darkNow), (cAI g a_from 8 fa_58), (cAI g a_begin 8 d_begin), (cAI g a_motor 8 fa_4), (cAI g a_lostAt 8 (upd d_lostAt (z_1 : Int32).toNatClampNeg z_59)), (cAI g a_blackAt 8 d_blackAt)] X dX11_follows_49 4 rfl (iv_in iv_3 (by decide) (by decide)) rfl ?_
      refine (fun hg : ∀ fa_60 : Nat → Int32, Wk p l e _ s m args below meth c _ A g _ _ _ [(cO11_i1r1i10r1i2r5i2r12i3r4i2 h0 m_thrown a_tape m_taped m_size m_at m_end m_token m_whole m_nameSize m_fault m_place m_trouble a_letters m_failed m_hasHouse a_r a_fresh a_st a_undone a_kept m_undos m_images a_from a_begin a_motor a_change a_startFrame a_changeFrame a_lostAt a_blackAt a_slips a_leftArc a_died a_arcs m_bestSum m_nearest m_nearestTown a_there a_backAt a_sorted a_parts m_seed1 m_darkNow), (cAI g a_from 8 fa_58), (cAI g a_begin 8 d_begin), (cAI g a_motor 8 fa_4), (cAI g a_lostAt 8 fa_60), (cAI g a_blackAt 8 d_blackAt)] _ _ _ => hg _) (fun fa_60 => ?_)
      refine k_aload_n X dX11_follows_50 1 rfl ?_
      refine k_get (ci := 11) X inlX11 rfl 29 (by decide) dX11_follows_51 mw182 0 rfl rfl ?_
      refine k_iload X dX11_follows_54 0 rfl ?_
      refine k_iload X dX11_follows_56 6 rfl ?_
      refine k_if_ne 66 X dX11_follows_58 (by decide) (fun h_61 => absurd (iv_eq iv_32 (show IV 0 0 0 from (by decide))) h_61) (fun h_61 => ?_)
      refine k_iload X dX11_follows_61 5 rfl ?_
      refine k_if_le 70 X dX11_follows_63 (by decide) (fun h_62 => ?_) (fun h_62 => (iv_ltN (iv_nle h_62) (show IV 0 0 0 from (by decide)) iv_57 (by decide)).elim)
      have j_63 : p3.toInt ≤ 0 := iv_le h_62
      refine k_iload X dX11_follows_70 5 rfl ?_
      refine k_ineg X dX11_follows_72 ?_
      refine k_nm (fun z_64 ez_64 => ?_)
      refine k_iast [(cO11_i1r1i10r1i2r5i2r12i3r4i2 h0 m_thrown a_tape m_taped m_size m_at m_end m_token m_whole m_nameSize m_fault m_place m_trouble a_letters m_failed m_hasHouse a_r a_fresh a_st a_undone a_kept m_undos m_images a_from a_begin a_motor a_change a_startFrame a_changeFrame a_lostAt a_blackAt a_slips a_leftArc a_died a_arcs m_bestSum m_nearest m_nearestTown a_there a_backAt a_sorted a_parts m_seed1 m_darkNow), (cAI g a_from 8 fa_58), (cAI g a_begin 8 d_begin), (cAI g a_motor 8 fa_4), (cAI g a_lostAt 8 fa_60), (cAI g a_blackAt 8 (upd d_blackAt (z_1 : Int32).toNatClampNeg z_64))] X dX11_follows_73 5 rfl (iv_in iv_3 (by decide) (by decide)) rfl ?_
      refine (fun hg : ∀ fa_65 : Nat → Int32, Wk p l e _ s m args below meth c _ A g _ _ _ [(cO11_i1r1i10r1i2r5i2r12i3r4i2 h0 m_thrown a_tape m_taped m_size m_at m_end m_token m_whole m_nameSize m_fault m_place m_trouble a_letters m_failed m_hasHouse a_r a_fresh a_st a_undone a_kept m_undos m_images a_from a_begin a_motor a_change a_startFrame a_changeFrame a_lostAt a_blackAt a_slips a_leftArc a_died a_arcs m_bestSum m_nearest m_nearestTown a_there a_backAt a_sorted a_parts m_seed1 m_darkNow), (cAI g a_from 8 fa_58), (cAI g a_begin 8 d_begin), (cAI g a_motor 8 fa_4), (cAI g a_lostAt 8 fa_60), (cAI g a_blackAt 8 fa_65)] _ _ _ => hg _) (fun fa_65 => ?_)
      refine k_aload_n X dX11_follows_74 1 rfl ?_
      refine k_get (ci := 11) X inlX11 rfl 23 (by decide) dX11_follows_75 mw176 0 rfl rfl ?_
      refine k_iload X dX11_follows_78 0 rfl ?_
      refine k_iload_n X dX11_follows_80 4 rfl ?_
      refine k_aload_n X dX11_follows_81 1 rfl ?_
      refine k_get (ci := 11) X inlX11 rfl 29 (by decide) dX11_follows_82 mw182 0 rfl rfl ?_
      refine k_iload X dX11_follows_85 0 rfl ?_
      refine k_iald X dX11_follows_87 5 rfl (iv_in iv_3 (by decide) (by decide)) ?_
      refine k_nm (fun z_66 ez_66 => ?_)
      refine k_iadd X dX11_follows_88 ?_
      refine k_nm (fun z_67 ez_67 => ?_)
      refine k_iast [(cO11_i1r1i10r1i2r5i2r12i3r4i2 h0 m_thrown a_tape m_taped m_size m_at m_end m_token m_whole m_nameSize m_fault m_place m_trouble a_letters m_failed m_hasHouse a_r a_fresh a_st a_undone a_kept m_undos m_images a_from a_begin a_motor a_change a_startFrame a_changeFrame a_lostAt a_blackAt a_slips a_leftArc a_died a_arcs m_bestSum m_nearest m_nearestTown a_there a_backAt a_sorted a_parts m_seed1 m_darkNow), (cAI g a_from 8 fa_58), (cAI g a_begin 8 (upd d_begin (z_1 : Int32).toNatClampNeg z_67)), (cAI g a_motor 8 fa_4), (cAI g a_lostAt 8 fa_60), (cAI g a_blackAt 8 fa_65)] X dX11_follows_89 2 rfl (iv_in iv_3 (by decide) (by decide)) rfl ?_
      refine (fun hg : ∀ fa_69 : Nat → Int32, Wk p l e _ s m args below meth c _ A g _ _ _ [(cO11_i1r1i10r1i2r5i2r12i3r4i2 h0 m_thrown a_tape m_taped m_size m_at m_end m_token m_whole m_nameSize m_fault m_place m_trouble a_letters m_failed m_hasHouse a_r a_fresh a_st a_undone a_kept m_undos m_images a_from a_begin a_motor a_change a_startFrame a_changeFrame a_lostAt a_blackAt a_slips a_leftArc a_died a_arcs m_bestSum m_nearest m_nearestTown a_there a_backAt a_sorted a_parts m_seed1 m_darkNow), (cAI g a_from 8 fa_58), (cAI g a_begin 8 fa_69), (cAI g a_motor 8 fa_4), (cAI g a_lostAt 8 fa_60), (cAI g a_blackAt 8 fa_65)] _ _ _ => hg _) (fun fa_69 => ?_)
      exact k_vret X hr dX11_follows_90 (Nat.le_of_ble_eq_true rfl) (Nat.le_of_ble_eq_true rfl) [0, 1, 2, 3, 4, 5] (by decide) rfl rfl ⟨fa_69, fa_65, fa_58, fa_60, fa_4, rfl⟩
