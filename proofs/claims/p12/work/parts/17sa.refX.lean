
set_option maxHeartbeats 4000000 in
set_option maxRecDepth 100000 in
theorem m_goodX (l : Launch) (g : Gx) (h0 : Nat) (m_thrown : Int32) (a_tape : Nat) (m_taped : Int32) (m_size : Int32) (m_at : Int32) (m_end : Int32) (m_token : Int32) (m_whole : Int32) (m_nameSize : Int32) (m_fault : Int32) (m_place : Int32) (m_trouble : Int32) (a_letters : Nat) (m_failed : Int32) (m_hasHouse : Int32) (a_r : Nat) (a_fresh : Nat) (a_st : Nat) (a_undone : Nat) (a_kept : Nat) (m_undos : Int32) (m_images : Int32) (a_from : Nat) (a_begin : Nat) (a_motor : Nat) (a_change : Nat) (a_startFrame : Nat) (a_changeFrame : Nat) (a_lostAt : Nat) (a_blackAt : Nat) (a_slips : Nat) (a_leftArc : Nat) (a_died : Nat) (a_arcs : Nat) (m_bestSum : Int32) (m_nearest : Int32) (m_nearestTown : Int32) (a_there : Nat) (a_backAt : Nat) (a_sorted : Nat) (a_parts : Nat) (m_seed1 : Int32) (m_darkNow : Int32) : cV l g yX11_good cX11_good 1 0 0 0 0 [.ref h0] [(cO11_i1r1i10r1i2r5i2r12i3r4i2 h0 m_thrown a_tape m_taped m_size m_at m_end m_token m_whole m_nameSize m_fault m_place m_trouble a_letters m_failed m_hasHouse a_r a_fresh a_st a_undone a_kept m_undos m_images a_from a_begin a_motor a_change a_startFrame a_changeFrame a_lostAt a_blackAt a_slips a_leftArc a_died a_arcs m_bestSum m_nearest m_nearestTown a_there a_backAt a_sorted a_parts m_seed1 m_darkNow)] (fun w => ∃ (m_thrown2 : Int32) (m_trouble2 : Int32), (R_m_goodX m_thrown2 m_trouble2) ∧ w = [(cO11_i1r1i10r1i2r5i2r12i3r4i2 h0 m_thrown2 a_tape m_taped m_size m_at m_end m_token m_whole m_nameSize m_fault m_place m_trouble2 a_letters m_failed m_hasHouse a_r a_fresh a_st a_undone a_kept m_undos m_images a_from a_begin a_motor a_change a_startFrame a_changeFrame a_lostAt a_blackAt a_slips a_leftArc a_died a_arcs m_bestSum m_nearest m_nearestTown a_there a_backAt a_sorted a_parts m_seed1 m_darkNow)]) := by
  refine cV.of (by decide) (Nat.le_of_ble_eq_true rfl) ?_
  intro p e s m args below meth c A X hr hi
  refine k_lveq [(0, .ref h0)] rfl ?_
  refine k_aload_n X dX11_good_k0.1.1 0 rfl ?_
  refine k_iconst (v := 0) X dX11_good_k0.1.2.1 ic_0 ?_
  refine k_put (ci := 11) [(cO11_i1r1i10r1i2r5i2r12i3r4i2 h0 0 a_tape m_taped m_size m_at m_end m_token m_whole m_nameSize m_fault m_place m_trouble a_letters m_failed m_hasHouse a_r a_fresh a_st a_undone a_kept m_undos m_images a_from a_begin a_motor a_change a_startFrame a_changeFrame a_lostAt a_blackAt a_slips a_leftArc a_died a_arcs m_bestSum m_nearest m_nearestTown a_there a_backAt a_sorted a_parts m_seed1 m_darkNow)] X inlX11 rfl tyX11_ok nmX11 0 (nlt_e rfl) rfl dX11_good_k0.1.2.2 mw204 0 rfl rfl rfl (Nat.le_of_ble_eq_true rfl) rfl ?_
  refine k_aload_n X dX11_good_k0.2.1.1 0 rfl ?_
  refine k_iconst (v := 0) X dX11_good_k0.2.1.2 ic_0 ?_
  refine k_put (ci := 11) [(cO11_i1r1i10r1i2r5i2r12i3r4i2 h0 0 a_tape m_taped m_size m_at m_end m_token m_whole m_nameSize m_fault m_place 0 a_letters m_failed m_hasHouse a_r a_fresh a_st a_undone a_kept m_undos m_images a_from a_begin a_motor a_change a_startFrame a_changeFrame a_lostAt a_blackAt a_slips a_leftArc a_died a_arcs m_bestSum m_nearest m_nearestTown a_there a_backAt a_sorted a_parts m_seed1 m_darkNow)] X inlX11 rfl tyX11_ok nmX11 11 (nlt_e rfl) rfl dX11_good_k0.2.2.1 mw481 0 rfl rfl rfl (Nat.le_of_ble_eq_true rfl) rfl ?_
  exact k_vret X hr dX11_good_k0.2.2.2 (Nat.le_of_ble_eq_true rfl) (Nat.le_of_ble_eq_true rfl) [0] (vnd_e rfl) rfl rfl ⟨0, 0, ⟨rfl, rfl⟩, rfl⟩


set_option maxHeartbeats 4000000 in
set_option maxRecDepth 100000 in
theorem m_noX (l : Launch) (g : Gx) (h0 : Nat) (p0 : Int32) (m_thrown : Int32) (a_tape : Nat) (m_taped : Int32) (m_size : Int32) (m_at : Int32) (m_end : Int32) (m_token : Int32) (m_whole : Int32) (m_nameSize : Int32) (m_fault : Int32) (m_place : Int32) (m_trouble : Int32) (a_letters : Nat) (m_failed : Int32) (m_hasHouse : Int32) (a_r : Nat) (a_fresh : Nat) (a_st : Nat) (a_undone : Nat) (a_kept : Nat) (m_undos : Int32) (m_images : Int32) (a_from : Nat) (a_begin : Nat) (a_motor : Nat) (a_change : Nat) (a_startFrame : Nat) (a_changeFrame : Nat) (a_lostAt : Nat) (a_blackAt : Nat) (a_slips : Nat) (a_leftArc : Nat) (a_died : Nat) (a_arcs : Nat) (m_bestSum : Int32) (m_nearest : Int32) (m_nearestTown : Int32) (a_there : Nat) (a_backAt : Nat) (a_sorted : Nat) (a_parts : Nat) (m_seed1 : Int32) (m_darkNow : Int32) : cI l g yX11_no cX11_no 2 (some .int) 0 0 0 0 [.ref h0, .int p0] [(cO11_i1r1i10r1i2r5i2r12i3r4i2 h0 m_thrown a_tape m_taped m_size m_at m_end m_token m_whole m_nameSize m_fault m_place m_trouble a_letters m_failed m_hasHouse a_r a_fresh a_st a_undone a_kept m_undos m_images a_from a_begin a_motor a_change a_startFrame a_changeFrame a_lostAt a_blackAt a_slips a_leftArc a_died a_arcs m_bestSum m_nearest m_nearestTown a_there a_backAt a_sorted a_parts m_seed1 m_darkNow)] (fun r w => ∃ (m_trouble2 : Int32), IV r (-1) (-1) ∧ (R_m_noX p0 m_trouble2 r) ∧ w = [(cO11_i1r1i10r1i2r5i2r12i3r4i2 h0 m_thrown a_tape m_taped m_size m_at m_end m_token m_whole m_nameSize m_fault m_place m_trouble2 a_letters m_failed m_hasHouse a_r a_fresh a_st a_undone a_kept m_undos m_images a_from a_begin a_motor a_change a_startFrame a_changeFrame a_lostAt a_blackAt a_slips a_leftArc a_died a_arcs m_bestSum m_nearest m_nearestTown a_there a_backAt a_sorted a_parts m_seed1 m_darkNow)]) := by
  refine cI.of (by decide) (Nat.le_of_ble_eq_true rfl) ?_
  intro p e s m args below meth c A X hr hi
  refine k_lveq [(0, .ref h0), (1, .int p0)] rfl ?_
  refine k_aload_n X dX11_no_k0.1.1 0 rfl ?_
  refine k_iload_n X dX11_no_k0.1.2 1 rfl ?_
  refine k_put (ci := 11) [(cO11_i1r1i10r1i2r5i2r12i3r4i2 h0 m_thrown a_tape m_taped m_size m_at m_end m_token m_whole m_nameSize m_fault m_place p0 a_letters m_failed m_hasHouse a_r a_fresh a_st a_undone a_kept m_undos m_images a_from a_begin a_motor a_change a_startFrame a_changeFrame a_lostAt a_blackAt a_slips a_leftArc a_died a_arcs m_bestSum m_nearest m_nearestTown a_there a_backAt a_sorted a_parts m_seed1 m_darkNow)] X inlX11 rfl tyX11_ok nmX11 11 (nlt_e rfl) rfl dX11_no_k0.2.1 mw481 0 rfl rfl rfl (Nat.le_of_ble_eq_true rfl) rfl ?_
  refine k_iconst (v := -1) X dX11_no_k0.2.2.1 ic_m1 ?_
  exact k_iret X hr dX11_no_k0.2.2.2 (Nat.le_of_ble_eq_true rfl) (Nat.le_of_ble_eq_true rfl) [0] (vnd_e rfl) rfl rfl ⟨p0, (iv_w iq_m1_m1_m1 (zle_e rfl) (zle_e rfl)), ⟨rfl, rfl⟩, rfl⟩


set_option maxHeartbeats 4000000 in
set_option maxRecDepth 100000 in
theorem m_inX (l : Launch) (g : Gx) (p0 : Int32) (p1 : Int32) (p2 : Int32) : cI l g yX11_in cX11_in 3 (some .boolean) 0 0 0 0 [.int p0, .int p1, .int p2] [] (fun r w => IV r 0 1 ∧ (R_m_inX p0 p1 p2 r) ∧ (r = 0 ∨ (p1.toInt ≤ p0.toInt ∧ p0.toInt ≤ p2.toInt)) ∧ (r = 0 → p0.toInt < p1.toInt ∨ p2.toInt < p0.toInt) ∧ w = []) := by
  refine cI.of (by decide) (Nat.le_of_ble_eq_true rfl) ?_
  intro p e s m args below meth c A X hr hi
  refine k_lveq [(0, .int p0), (1, .int p1), (2, .int p2)] rfl ?_
  refine k_iload_n X dX11_in_k0.1.1.1 0 rfl ?_
  refine k_iload_n X dX11_in_k0.1.1.2 1 rfl ?_
  refine k_ic_lt 14 X dX11_in_k0.1.2.1 (jp_e rfl) (fun h_1 => ?_) (fun h_1 => ?_)
  · skip
    have j_2 : p0.toInt < p1.toInt := iv_lt h_1
    have iv_3 : IV p0 (-2147483648) 2147483646 := iv_ltL (iv_lt h_1) (iv_any p0) (iv_any p1) (zle_e rfl)
    have iv_4 : IV p1 (-2147483647) 2147483647 := iv_ltR (iv_lt h_1) (iv_any p0) (iv_any p1) (zle_e rfl)
    refine k_iconst (v := 0) X dX11_in_k0.2.2.2.1 ic_0 ?_
    exact k_zret X hr (by first | rfl | decide) dX11_in_k0.2.2.2.2 (Nat.le_of_ble_eq_true rfl) (Nat.le_of_ble_eq_true rfl) [] (vnd_e rfl) rfl rfl ⟨(iv_w iq_0_0_0 (zle_e rfl) (zle_e rfl)), (Or.inl ⟨h_1, rfl⟩), (Or.inl (iv_eq iq_0_0_0 iq_0_0_0)), (fun _ => (by omega)), rfl⟩
  · skip
    have j_5 : p1.toInt ≤ p0.toInt := iv_nlt h_1
    refine k_iload_n X dX11_in_k0.1.2.2.1 0 rfl ?_
    refine k_iload_n X dX11_in_k0.1.2.2.2 2 rfl ?_
    refine k_ic_gt 14 X dX11_in_k0.2.1.1 (jp_e rfl) (fun h_6 => ?_) (fun h_6 => ?_)
    · skip
      have j_7 : p2.toInt < p0.toInt := iv_lt h_6
      have iv_8 : IV p2 (-2147483648) 2147483646 := iv_ltL (iv_lt h_6) (iv_any p2) (iv_any p0) (zle_e rfl)
      have iv_9 : IV p0 (-2147483647) 2147483647 := iv_ltR (iv_lt h_6) (iv_any p2) (iv_any p0) (zle_e rfl)
      refine k_iconst (v := 0) X dX11_in_k0.2.2.2.1 ic_0 ?_
      exact k_zret X hr (by first | rfl | decide) dX11_in_k0.2.2.2.2 (Nat.le_of_ble_eq_true rfl) (Nat.le_of_ble_eq_true rfl) [] (vnd_e rfl) rfl rfl ⟨(iv_w iq_0_0_0 (zle_e rfl) (zle_e rfl)), (Or.inr ⟨h_1, (Or.inl ⟨h_6, rfl⟩)⟩), (Or.inl (iv_eq iq_0_0_0 iq_0_0_0)), (fun _ => (by omega)), rfl⟩
    · skip
      have j_10 : p0.toInt ≤ p2.toInt := iv_nlt h_6
      refine k_iconst (v := 1) X dX11_in_k0.2.1.2 ic_1 ?_
      refine k_goto 15 X dX11_in_k0.2.2.1 (jp_e rfl) ?_
      exact k_zret X hr (by first | rfl | decide) dX11_in_k0.2.2.2.2 (Nat.le_of_ble_eq_true rfl) (Nat.le_of_ble_eq_true rfl) [] (vnd_e rfl) rfl rfl ⟨(iv_w iq_1_1_1 (zle_e rfl) (zle_e rfl)), (Or.inr ⟨h_1, (Or.inr ⟨h_6, rfl⟩)⟩), (Or.inr ⟨(by omega), (by omega)⟩), (fun q => (iv_eqN q iq_1_1_1 iq_0_0_0 (by decide)).elim), rfl⟩


set_option maxHeartbeats 4000000 in
set_option maxRecDepth 100000 in
theorem m_isSmallX (l : Launch) (g : Gx) (p0 : Int32) : cI l g yX11_isSmall cX11_isSmall 1 (some .boolean) 0 0 0 0 [.int p0] [] (fun r w => IV r 0 1 ∧ (R_m_isSmallX p0 r) ∧ (r = 0 ∨ (IV p0 97 122)) ∧ (r = 0 → p0.toInt < 97 ∨ 122 < p0.toInt) ∧ w = []) := by
  refine cI.of (by decide) (Nat.le_of_ble_eq_true rfl) ?_
  intro p e s m args below meth c A X hr hi
  refine k_lveq [(0, .int p0)] rfl ?_
  refine k_iload_n X dX11_isSmall_k0.1.1.1 0 rfl ?_
  refine k_bipush (v := 97) X dX11_isSmall_k0.1.1.2 bi_97 ?_
  refine k_ic_lt 16 X dX11_isSmall_k0.1.2.1 (jp_e rfl) (fun h_1 => ?_) (fun h_1 => ?_)
  · skip
    have j_2 : p0.toInt < 97 := iv_lt h_1
    have iv_3 : IV p0 (-2147483648) 96 := iv_ltL (iv_lt h_1) (iv_any p0) iq_97_97_97 (zle_e rfl)
    refine k_iconst (v := 0) X dX11_isSmall_k0.2.2.2.1 ic_0 ?_
    exact k_zret X hr (by first | rfl | decide) dX11_isSmall_k0.2.2.2.2 (Nat.le_of_ble_eq_true rfl) (Nat.le_of_ble_eq_true rfl) [] (vnd_e rfl) rfl rfl ⟨(iv_w iq_0_0_0 (zle_e rfl) (zle_e rfl)), (Or.inl ⟨h_1, rfl⟩), (Or.inl (iv_eq iq_0_0_0 iq_0_0_0)), (fun _ => (by omega)), rfl⟩
  · skip
    have j_4 : 97 ≤ p0.toInt := iv_nlt h_1
    have iv_5 : IV p0 97 2147483647 := iv_leR (iv_nlt h_1) iq_97_97_97 (iv_any p0) (zle_e rfl)
    refine k_iload_n X dX11_isSmall_k0.1.2.2.1 0 rfl ?_
    refine k_bipush (v := 122) X dX11_isSmall_k0.1.2.2.2 bi_122 ?_
    refine k_ic_gt 16 X dX11_isSmall_k0.2.1.1 (jp_e rfl) (fun h_6 => ?_) (fun h_6 => ?_)
    · skip
      have j_7 : 122 < p0.toInt := iv_lt h_6
      have iv_8 : IV p0 123 2147483647 := iv_ltR (iv_lt h_6) iq_122_122_122 iv_5 (zle_e rfl)
      refine k_iconst (v := 0) X dX11_isSmall_k0.2.2.2.1 ic_0 ?_
      exact k_zret X hr (by first | rfl | decide) dX11_isSmall_k0.2.2.2.2 (Nat.le_of_ble_eq_true rfl) (Nat.le_of_ble_eq_true rfl) [] (vnd_e rfl) rfl rfl ⟨(iv_w iq_0_0_0 (zle_e rfl) (zle_e rfl)), (Or.inr ⟨h_1, (Or.inl ⟨h_6, rfl⟩)⟩), (Or.inl (iv_eq iq_0_0_0 iq_0_0_0)), (fun _ => (by omega)), rfl⟩
    · skip
      have j_9 : p0.toInt ≤ 122 := iv_nlt h_6
      have iv_10 : IV p0 97 122 := iv_leL (iv_nlt h_6) iv_5 iq_122_122_122 (zle_e rfl)
      refine k_iconst (v := 1) X dX11_isSmall_k0.2.1.2 ic_1 ?_
      refine k_goto 17 X dX11_isSmall_k0.2.2.1 (jp_e rfl) ?_
      exact k_zret X hr (by first | rfl | decide) dX11_isSmall_k0.2.2.2.2 (Nat.le_of_ble_eq_true rfl) (Nat.le_of_ble_eq_true rfl) [] (vnd_e rfl) rfl rfl ⟨(iv_w iq_1_1_1 (zle_e rfl) (zle_e rfl)), (Or.inr ⟨h_1, (Or.inr ⟨h_6, rfl⟩)⟩), (Or.inr (iv_w iv_10 (zle_e rfl) (zle_e rfl))), (fun q => (iv_eqN q iq_1_1_1 iq_0_0_0 (by decide)).elim), rfl⟩


set_option maxHeartbeats 4000000 in
set_option maxRecDepth 100000 in
theorem m_isDigitX (l : Launch) (g : Gx) (p0 : Int32) : cI l g yX11_isDigit cX11_isDigit 1 (some .boolean) 0 0 0 0 [.int p0] [] (fun r w => IV r 0 1 ∧ (R_m_isDigitX p0 r) ∧ (r = 0 ∨ (IV p0 48 57)) ∧ (r = 0 → p0.toInt < 48 ∨ 57 < p0.toInt) ∧ w = []) := by
  refine cI.of (by decide) (Nat.le_of_ble_eq_true rfl) ?_
  intro p e s m args below meth c A X hr hi
  refine k_lveq [(0, .int p0)] rfl ?_
  refine k_iload_n X dX11_isDigit_k0.1.1.1 0 rfl ?_
  refine k_bipush (v := 48) X dX11_isDigit_k0.1.1.2 bi_48 ?_
  refine k_ic_lt 16 X dX11_isDigit_k0.1.2.1 (jp_e rfl) (fun h_1 => ?_) (fun h_1 => ?_)
  · skip
    have j_2 : p0.toInt < 48 := iv_lt h_1
    have iv_3 : IV p0 (-2147483648) 47 := iv_ltL (iv_lt h_1) (iv_any p0) iq_48_48_48 (zle_e rfl)
    refine k_iconst (v := 0) X dX11_isDigit_k0.2.2.2.1 ic_0 ?_
    exact k_zret X hr (by first | rfl | decide) dX11_isDigit_k0.2.2.2.2 (Nat.le_of_ble_eq_true rfl) (Nat.le_of_ble_eq_true rfl) [] (vnd_e rfl) rfl rfl ⟨(iv_w iq_0_0_0 (zle_e rfl) (zle_e rfl)), (Or.inl ⟨h_1, rfl⟩), (Or.inl (iv_eq iq_0_0_0 iq_0_0_0)), (fun _ => (by omega)), rfl⟩
  · skip
    have j_4 : 48 ≤ p0.toInt := iv_nlt h_1
    have iv_5 : IV p0 48 2147483647 := iv_leR (iv_nlt h_1) iq_48_48_48 (iv_any p0) (zle_e rfl)
    refine k_iload_n X dX11_isDigit_k0.1.2.2.1 0 rfl ?_
    refine k_bipush (v := 57) X dX11_isDigit_k0.1.2.2.2 bi_57 ?_
    refine k_ic_gt 16 X dX11_isDigit_k0.2.1.1 (jp_e rfl) (fun h_6 => ?_) (fun h_6 => ?_)
    · skip
      have j_7 : 57 < p0.toInt := iv_lt h_6
      have iv_8 : IV p0 58 2147483647 := iv_ltR (iv_lt h_6) iq_57_57_57 iv_5 (zle_e rfl)
      refine k_iconst (v := 0) X dX11_isDigit_k0.2.2.2.1 ic_0 ?_
      exact k_zret X hr (by first | rfl | decide) dX11_isDigit_k0.2.2.2.2 (Nat.le_of_ble_eq_true rfl) (Nat.le_of_ble_eq_true rfl) [] (vnd_e rfl) rfl rfl ⟨(iv_w iq_0_0_0 (zle_e rfl) (zle_e rfl)), (Or.inr ⟨h_1, (Or.inl ⟨h_6, rfl⟩)⟩), (Or.inl (iv_eq iq_0_0_0 iq_0_0_0)), (fun _ => (by omega)), rfl⟩
    · skip
      have j_9 : p0.toInt ≤ 57 := iv_nlt h_6
      have iv_10 : IV p0 48 57 := iv_leL (iv_nlt h_6) iv_5 iq_57_57_57 (zle_e rfl)
      refine k_iconst (v := 1) X dX11_isDigit_k0.2.1.2 ic_1 ?_
      refine k_goto 17 X dX11_isDigit_k0.2.2.1 (jp_e rfl) ?_
      exact k_zret X hr (by first | rfl | decide) dX11_isDigit_k0.2.2.2.2 (Nat.le_of_ble_eq_true rfl) (Nat.le_of_ble_eq_true rfl) [] (vnd_e rfl) rfl rfl ⟨(iv_w iq_1_1_1 (zle_e rfl) (zle_e rfl)), (Or.inr ⟨h_1, (Or.inr ⟨h_6, rfl⟩)⟩), (Or.inr (iv_w iv_10 (zle_e rfl) (zle_e rfl))), (fun q => (iv_eqN q iq_1_1_1 iq_0_0_0 (by decide)).elim), rfl⟩


set_option maxHeartbeats 4000000 in
set_option maxRecDepth 100000 in
theorem m_lookX (l : Launch) (g : Gx) (h0 : Nat) (p0 : Int32) (m_thrown : Int32) (a_tape : Nat) (m_taped : Int32) (m_size : Int32) (m_at : Int32) (m_end : Int32) (m_token : Int32) (m_whole : Int32) (m_nameSize : Int32) (m_fault : Int32) (m_place : Int32) (m_trouble : Int32) (a_letters : Nat) (m_failed : Int32) (m_hasHouse : Int32) (a_r : Nat) (a_fresh : Nat) (a_st : Nat) (a_undone : Nat) (a_kept : Nat) (m_undos : Int32) (m_images : Int32) (a_from : Nat) (a_begin : Nat) (a_motor : Nat) (a_change : Nat) (a_startFrame : Nat) (a_changeFrame : Nat) (a_lostAt : Nat) (a_blackAt : Nat) (a_slips : Nat) (a_leftArc : Nat) (a_died : Nat) (a_arcs : Nat) (m_bestSum : Int32) (m_nearest : Int32) (m_nearestTown : Int32) (a_there : Nat) (a_backAt : Nat) (a_sorted : Nat) (a_parts : Nat) (m_seed1 : Int32) (m_darkNow : Int32) (d_tape : Nat → Int32) (hv_p0 : IV p0 0 2147483647) (hv_m_size : IV m_size 0 900) : cI l g yX11_look cX11_look 2 (some .int) 0 0 0 0 [.ref h0, .int p0] [(cO11_i1r1i10r1i2r5i2r12i3r4i2 h0 m_thrown a_tape m_taped m_size m_at m_end m_token m_whole m_nameSize m_fault m_place m_trouble a_letters m_failed m_hasHouse a_r a_fresh a_st a_undone a_kept m_undos m_images a_from a_begin a_motor a_change a_startFrame a_changeFrame a_lostAt a_blackAt a_slips a_leftArc a_died a_arcs m_bestSum m_nearest m_nearestTown a_there a_backAt a_sorted a_parts m_seed1 m_darkNow), (cAI g a_tape 900 d_tape)] (fun r w => (r = lookF d_tape m_size p0) ∧ (R_m_lookX p0 m_size d_tape r) ∧ (r = (-1) ∨ (IV p0 0 899 ∧ p0.toInt < m_size.toInt)) ∧ w = [(cO11_i1r1i10r1i2r5i2r12i3r4i2 h0 m_thrown a_tape m_taped m_size m_at m_end m_token m_whole m_nameSize m_fault m_place m_trouble a_letters m_failed m_hasHouse a_r a_fresh a_st a_undone a_kept m_undos m_images a_from a_begin a_motor a_change a_startFrame a_changeFrame a_lostAt a_blackAt a_slips a_leftArc a_died a_arcs m_bestSum m_nearest m_nearestTown a_there a_backAt a_sorted a_parts m_seed1 m_darkNow), (cAI g a_tape 900 d_tape)]) := by
  refine cI.of (by decide) (Nat.le_of_ble_eq_true rfl) ?_
  intro p e s m args below meth c A X hr hi
  refine k_lveq [(0, .ref h0), (1, .int p0)] rfl ?_
  refine k_iload_n X dX11_look_k0.1.1.1 1 rfl ?_
  refine k_aload_n X dX11_look_k0.1.1.2 0 rfl ?_
  refine k_get (ci := 11) X inlX11 rfl 3 (nlt_e rfl) dX11_look_k0.1.2.1 mw470 0 rfl rfl ?_
  refine k_ic_ge 17 X dX11_look_k0.1.2.2.1 (jp_e rfl) (fun h_1 => ?_) (fun h_1 => ?_)
  · skip
    have j_2 : m_size.toInt ≤ p0.toInt := iv_le h_1
    refine k_iconst (v := -1) X dX11_look_k0.2.2.2.1 ic_m1 ?_
    exact k_iret X hr dX11_look_k0.2.2.2.2 (Nat.le_of_ble_eq_true rfl) (Nat.le_of_ble_eq_true rfl) [0, 1] (vnd_e rfl) rfl rfl ⟨(by unfold lookF; first | rw [if_neg (by assumption)] | (rw [if_pos (Int32.not_le.mp (by assumption))]; assumption) | (rw [if_neg (Int32.not_lt.mpr (by assumption))])), (Or.inl ⟨h_1, rfl⟩), (Or.inl (iv_eq iq_m1_m1_m1 iq_m1_m1_m1)), rfl⟩
  · skip
    have j_3 : p0.toInt < m_size.toInt := iv_nle h_1
    have iv_4 : IV p0 0 899 := iv_ltL (iv_nle h_1) hv_p0 hv_m_size (zle_e rfl)
    have iv_5 : IV m_size 1 900 := iv_ltR (iv_nle h_1) hv_p0 hv_m_size (zle_e rfl)
    refine k_aload_n X dX11_look_k0.1.2.2.2 0 rfl ?_
    refine k_get (ci := 11) X inlX11 rfl 1 (nlt_e rfl) dX11_look_k0.2.1.1 mw167 0 rfl rfl ?_
    refine k_iload_n X dX11_look_k0.2.1.2.1 1 rfl ?_
    refine k_iald X dX11_look_k0.2.1.2.2 1 rfl (iv_in iv_4 (zle_e rfl) (zle_l rfl)) ?_
    refine k_nm (fun z_6 ez_6 => ?_)
    refine k_goto 18 X dX11_look_k0.2.2.1 (jp_e rfl) ?_
    exact k_iret X hr dX11_look_k0.2.2.2.2 (Nat.le_of_ble_eq_true rfl) (Nat.le_of_ble_eq_true rfl) [0, 1] (vnd_e rfl) rfl rfl ⟨(by unfold lookF; first | rw [if_neg (by assumption)] | (rw [if_pos (Int32.not_le.mp (by assumption))]; assumption) | (rw [if_neg (Int32.not_lt.mpr (by assumption))])), (Or.inr ⟨h_1, ⟨z_6, ez_6, rfl⟩⟩), (Or.inr ⟨(iv_w iv_4 (zle_e rfl) (zle_e rfl)), (by omega)⟩), rfl⟩


set_option maxHeartbeats 4000000 in
set_option maxRecDepth 100000 in
theorem m_nextX (l : Launch) (g : Gx) (h0 : Nat) (m_thrown : Int32) (a_tape : Nat) (m_taped : Int32) (m_size : Int32) (m_at : Int32) (m_end : Int32) (m_token : Int32) (m_whole : Int32) (m_nameSize : Int32) (m_fault : Int32) (m_place : Int32) (m_trouble : Int32) (a_letters : Nat) (m_failed : Int32) (m_hasHouse : Int32) (a_r : Nat) (a_fresh : Nat) (a_st : Nat) (a_undone : Nat) (a_kept : Nat) (m_undos : Int32) (m_images : Int32) (a_from : Nat) (a_begin : Nat) (a_motor : Nat) (a_change : Nat) (a_startFrame : Nat) (a_changeFrame : Nat) (a_lostAt : Nat) (a_blackAt : Nat) (a_slips : Nat) (a_leftArc : Nat) (a_died : Nat) (a_arcs : Nat) (m_bestSum : Int32) (m_nearest : Int32) (m_nearestTown : Int32) (a_there : Nat) (a_backAt : Nat) (a_sorted : Nat) (a_parts : Nat) (m_seed1 : Int32) (m_darkNow : Int32) (d_tape : Nat → Int32) (d_letters : Nat → Int32) (hv_m_size : IV m_size 0 900) (hv_m_end : IV m_end 0 900) (hv_m_nameSize : IV m_nameSize 0 900) : cV l g yX11_next cX11_next 4 1 21 0 0 [.ref h0] [(cO11_i1r1i10r1i2r5i2r12i3r4i2 h0 m_thrown a_tape m_taped m_size m_at m_end m_token m_whole m_nameSize m_fault m_place m_trouble a_letters m_failed m_hasHouse a_r a_fresh a_st a_undone a_kept m_undos m_images a_from a_begin a_motor a_change a_startFrame a_changeFrame a_lostAt a_blackAt a_slips a_leftArc a_died a_arcs m_bestSum m_nearest m_nearestTown a_there a_backAt a_sorted a_parts m_seed1 m_darkNow), (cAI g a_tape 900 d_tape), (cAI g a_letters 8 d_letters)] (fun w => ∃ (m_at2 : Int32) (m_end2 : Int32) (d_letters2 : Nat → Int32) (m_nameSize2 : Int32) (m_token2 : Int32) (m_whole2 : Int32), IV m_end2 0 900 ∧ IV m_nameSize2 0 900 ∧ (m_token2.toInt = 0 ∨ m_end.toInt < m_end2.toInt) ∧ (m_end.toInt ≤ m_end2.toInt) ∧ (R_m_nextX m_size m_end d_tape d_letters m_at2 m_end2 d_letters2 m_nameSize2 m_token2 m_whole2) ∧ (m_token2 = 2 → IV m_nameSize2 0 8) ∧ w = [(cO11_i1r1i10r1i2r5i2r12i3r4i2 h0 m_thrown a_tape m_taped m_size m_at2 m_end2 m_token2 m_whole2 m_nameSize2 m_fault m_place m_trouble a_letters m_failed m_hasHouse a_r a_fresh a_st a_undone a_kept m_undos m_images a_from a_begin a_motor a_change a_startFrame a_changeFrame a_lostAt a_blackAt a_slips a_leftArc a_died a_arcs m_bestSum m_nearest m_nearestTown a_there a_backAt a_sorted a_parts m_seed1 m_darkNow), (cAI g a_tape 900 d_tape), (cAI g a_letters 8 d_letters2)]) := by
  refine cV.of (by decide) (Nat.le_of_ble_eq_true rfl) ?_
  intro p e s m args below meth c A X hr hi
  refine k_lveq [(0, .ref h0)] rfl ?_
  refine k_aload_n X dX11_next_k0.1.1.1.1 0 rfl ?_
  refine k_get (ci := 11) X inlX11 rfl 5 (nlt_e rfl) dX11_next_k0.1.1.1.2 mw471 0 rfl rfl ?_
  refine k_istore_n [(1, .int m_end), (0, .ref h0)] X dX11_next_k0.1.1.2.1 (nlt_e rfl) rfl ?_
  refine (fun hL : ∀ (nn_5 : Nat) (u_1 : Int32), (901 - u_1.toInt).toNat = nn_5 → (IV u_1 0 900) → (m_end.toInt ≤ u_1.toInt) → (m_end.toInt ≤ u_1.toInt) → (∀ (m_at2 : Int32) (m_end2 : Int32) (d_letters2 : Nat → Int32) (m_nameSize2 : Int32) (m_token2 : Int32) (m_whole2 : Int32), (∃ n_0 : Nat, R_m_nextX_L0 m_size d_tape (fun (u_1 : Int32) => ∃ r_13 : Int32, (R_m_lookX u_1 m_size d_tape r_13) ∧ (((r_13 ≠ (-1 : Int32)) ∧ (∃ r_21 : Int32, (R_m_isSmallX r_13 r_21) ∧ (((r_21 = (0 : Int32)) ∧ (∃ r_30 : Int32, (R_m_isDigitX r_13 r_30) ∧ (((r_30 = (0 : Int32)) ∧ (∃ z_39 : Int32, z_39 = u_1 + (1 : Int32) ∧ (((r_13 = (59 : Int32)) ∧ (m_at2 = u_1 ∧ m_end2 = z_39 ∧ d_letters2 = d_letters ∧ m_nameSize2 = 0 ∧ m_token2 = r_13 ∧ m_whole2 = 0)) ∨ ((¬ (r_13 = (59 : Int32))) ∧ ((((r_13 ≠ (44 : Int32)) ∧ (m_at2 = u_1 ∧ m_end2 = z_39 ∧ d_letters2 = d_letters ∧ m_nameSize2 = 0 ∧ m_token2 = 1 ∧ m_whole2 = 0)) ∨ ((r_13 = (44 : Int32)) ∧ (m_at2 = u_1 ∧ m_end2 = z_39 ∧ d_letters2 = d_letters ∧ m_nameSize2 = 0 ∧ m_token2 = r_13 ∧ m_whole2 = 0)))))))) ∨ ((¬ (r_30 = (0 : Int32))) ∧ (∃ n_1 : Nat, R_m_nextX_L1 m_size d_tape (fun (u_51 : Int32) (u_49 : Int32) (u_52 : Int32) => (((u_51 ≤ (4 : Int32)) ∧ (m_at2 = u_1 ∧ m_end2 = u_49 ∧ d_letters2 = d_letters ∧ m_nameSize2 = 0 ∧ m_token2 = 3 ∧ m_whole2 = u_52)) ∨ ((¬ (u_51 ≤ (4 : Int32))) ∧ (m_at2 = u_1 ∧ m_end2 = u_49 ∧ d_letters2 = d_letters ∧ m_nameSize2 = 0 ∧ m_token2 = 1 ∧ m_whole2 = u_52)))) n_1 u_1 0 0))))) ∨ ((¬ (r_21 = (0 : Int32))) ∧ (∃ n_2 : Nat, R_m_nextX_L2 m_size d_tape (fun (u_114 : Int32) (u_112 : Int32) (uf_111 : Nat → Int32) => (((u_114 ≤ (8 : Int32)) ∧ (m_at2 = u_1 ∧ m_end2 = u_112 ∧ d_letters2 = uf_111 ∧ m_nameSize2 = u_114 ∧ m_token2 = 2 ∧ m_whole2 = 0)) ∨ ((¬ (u_114 ≤ (8 : Int32))) ∧ (m_at2 = u_1 ∧ m_end2 = u_112 ∧ d_letters2 = uf_111 ∧ m_nameSize2 = u_114 ∧ m_token2 = 1 ∧ m_whole2 = 0)))) n_2 d_letters u_1 0))))) ∨ ((r_13 = (-1 : Int32)) ∧ (m_at2 = u_1 ∧ m_end2 = u_1 ∧ d_letters2 = d_letters ∧ m_nameSize2 = 0 ∧ m_token2 = 0 ∧ m_whole2 = 0)))) n_0 u_1) → R_m_nextX m_size m_end d_tape d_letters m_at2 m_end2 d_letters2 m_nameSize2 m_token2 m_whole2) → Wk p l e _ s m args below meth c _ A g _ _ _ [(cO11_i1r1i10r1i2r5i2r12i3r4i2 h0 m_thrown a_tape m_taped m_size m_at m_end m_token m_whole m_nameSize m_fault m_place m_trouble a_letters m_failed m_hasHouse a_r a_fresh a_st a_undone a_kept m_undos m_images a_from a_begin a_motor a_change a_startFrame a_changeFrame a_lostAt a_blackAt a_slips a_leftArc a_died a_arcs m_bestSum m_nearest m_nearestTown a_there a_backAt a_sorted a_parts m_seed1 m_darkNow), (cAI g a_tape 900 d_tape), (cAI g a_letters 8 d_letters)] [(1, .int u_1), (0, .ref h0)] 5 [] => hL _ m_end rfl (iv_w hv_m_end (zle_e rfl) (zle_e rfl)) (by omega) (by omega) (fun m_at2 m_end2 d_letters2 m_nameSize2 m_token2 m_whole2 h => h)) ?_
  refine fun nn_5 => Nat.strongRecOn nn_5 (fun nn_5 ih_7 => ?_)
  intro u_1 hm_6 hv_2 hx_3 hx_4 KH_0
  refine k_aload_n X dX11_next_k0.1.1.2.2 1 rfl ?_
  refine k_iload_n X dX11_next_k0.1.2.1.1 0 rfl ?_
  refine k_callVI (n := 1) (As := [.int u_1]) (st := []) X [(cO11_i1r1i10r1i2r5i2r12i3r4i2 h0 m_thrown a_tape m_taped m_size m_at m_end m_token m_whole m_nameSize m_fault m_place m_trouble a_letters m_failed m_hasHouse a_r a_fresh a_st a_undone a_kept m_undos m_images a_from a_begin a_motor a_change a_startFrame a_changeFrame a_lostAt a_blackAt a_slips a_leftArc a_died a_arcs m_bestSum m_nearest m_nearestTown a_there a_backAt a_sorted a_parts m_seed1 m_darkNow), (cAI g a_tape 900 d_tape)] [(cAI g a_letters 8 d_letters)] [0, 1] [2] (m_lookX l g h0 u_1 m_thrown a_tape m_taped m_size m_at m_end m_token m_whole m_nameSize m_fault m_place m_trouble a_letters m_failed m_hasHouse a_r a_fresh a_st a_undone a_kept m_undos m_images a_from a_begin a_motor a_change a_startFrame a_changeFrame a_lostAt a_blackAt a_slips a_leftArc a_died a_arcs m_bestSum m_nearest m_nearestTown a_there a_backAt a_sorted a_parts m_seed1 m_darkNow d_tape (iv_w hv_2 (zle_e rfl) (zle_e rfl)) (iv_w hv_m_size (zle_e rfl) (zle_e rfl))) dX11_next_k0.1.2.1.2 mw495 mw496 mw497 mw5 mw498 rfl 11 rfl rfl 0 _ rfl yk_yX11_look_1 rfl (Nat.le_of_ble_eq_true rfl) (Nat.le_of_ble_eq_true rfl) (Nat.le_of_ble_eq_true rfl) (Nat.le_of_ble_eq_true rfl) (Nat.le_of_ble_eq_true rfl) rfl rfl (vnd_e rfl) rfl (vnd_e rfl) (dsj_e rfl) ?_
  rintro r_8 w ⟨hq_9, hq_10, hk_11, rfl⟩
  refine k_ws [(cAI g a_letters 8 d_letters), (cO11_i1r1i10r1i2r5i2r12i3r4i2 h0 m_thrown a_tape m_taped m_size m_at m_end m_token m_whole m_nameSize m_fault m_place m_trouble a_letters m_failed m_hasHouse a_r a_fresh a_st a_undone a_kept m_undos m_images a_from a_begin a_motor a_change a_startFrame a_changeFrame a_lostAt a_blackAt a_slips a_leftArc a_died a_arcs m_bestSum m_nearest m_nearestTown a_there a_backAt a_sorted a_parts m_seed1 m_darkNow), (cAI g a_tape 900 d_tape)] rfl ?_
  refine k_bipush (v := 32) X dX11_next_k0.1.2.2.1 bi_32 ?_
  refine k_ic_ne 21 X dX11_next_k0.1.2.2.2 (jp_e rfl) (fun h_12 => ?_) (fun h_12 => ?_)
  · skip
    refine k_aload_n X dX11_next_k0.2.1.2.1 1 rfl ?_
    refine k_iload_n X dX11_next_k0.2.1.2.2 0 rfl ?_
    refine k_put (ci := 11) [(cAI g a_letters 8 d_letters), (cO11_i1r1i10r1i2r5i2r12i3r4i2 h0 m_thrown a_tape m_taped m_size u_1 m_end m_token m_whole m_nameSize m_fault m_place m_trouble a_letters m_failed m_hasHouse a_r a_fresh a_st a_undone a_kept m_undos m_images a_from a_begin a_motor a_change a_startFrame a_changeFrame a_lostAt a_blackAt a_slips a_leftArc a_died a_arcs m_bestSum m_nearest m_nearestTown a_there a_backAt a_sorted a_parts m_seed1 m_darkNow), (cAI g a_tape 900 d_tape)] X inlX11 rfl tyX11_ok nmX11 4 (nlt_e rfl) rfl dX11_next_k0.2.2.1.1 mw473 1 rfl rfl rfl (Nat.le_of_ble_eq_true rfl) rfl ?_
    refine k_aload_n X dX11_next_k0.2.2.1.2 1 rfl ?_
    refine k_iload_n X dX11_next_k0.2.2.2.1 0 rfl ?_
    refine k_callVI (n := 1) (As := [.int u_1]) (st := []) X [(cO11_i1r1i10r1i2r5i2r12i3r4i2 h0 m_thrown a_tape m_taped m_size u_1 m_end m_token m_whole m_nameSize m_fault m_place m_trouble a_letters m_failed m_hasHouse a_r a_fresh a_st a_undone a_kept m_undos m_images a_from a_begin a_motor a_change a_startFrame a_changeFrame a_lostAt a_blackAt a_slips a_leftArc a_died a_arcs m_bestSum m_nearest m_nearestTown a_there a_backAt a_sorted a_parts m_seed1 m_darkNow), (cAI g a_tape 900 d_tape)] [(cAI g a_letters 8 d_letters)] [1, 2] [0] (m_lookX l g h0 u_1 m_thrown a_tape m_taped m_size u_1 m_end m_token m_whole m_nameSize m_fault m_place m_trouble a_letters m_failed m_hasHouse a_r a_fresh a_st a_undone a_kept m_undos m_images a_from a_begin a_motor a_change a_startFrame a_changeFrame a_lostAt a_blackAt a_slips a_leftArc a_died a_arcs m_bestSum m_nearest m_nearestTown a_there a_backAt a_sorted a_parts m_seed1 m_darkNow d_tape (iv_w hv_2 (zle_e rfl) (zle_e rfl)) (iv_w hv_m_size (zle_e rfl) (zle_e rfl))) dX11_next_k0.2.2.2.2 mw495 mw496 mw497 mw5 mw498 rfl 11 rfl rfl 0 _ rfl yk_yX11_look_1 rfl (Nat.le_of_ble_eq_true rfl) (Nat.le_of_ble_eq_true rfl) (Nat.le_of_ble_eq_true rfl) (Nat.le_of_ble_eq_true rfl) (Nat.le_of_ble_eq_true rfl) rfl rfl (vnd_e rfl) rfl (vnd_e rfl) (dsj_e rfl) ?_
    rintro r_13 w ⟨hq_14, hq_15, hk_16, rfl⟩
    refine k_ws [(cAI g a_letters 8 d_letters), (cO11_i1r1i10r1i2r5i2r12i3r4i2 h0 m_thrown a_tape m_taped m_size u_1 m_end m_token m_whole m_nameSize m_fault m_place m_trouble a_letters m_failed m_hasHouse a_r a_fresh a_st a_undone a_kept m_undos m_images a_from a_begin a_motor a_change a_startFrame a_changeFrame a_lostAt a_blackAt a_slips a_leftArc a_died a_arcs m_bestSum m_nearest m_nearestTown a_there a_backAt a_sorted a_parts m_seed1 m_darkNow), (cAI g a_tape 900 d_tape)] rfl ?_
    refine k_istore_n [(2, .int r_13), (1, .int u_1), (0, .ref h0)] X dX11_next_k1.1.1.1.1 (nlt_e rfl) rfl ?_
    refine k_aload_n X dX11_next_k1.1.1.1.2 2 rfl ?_
    refine k_iconst (v := 0) X dX11_next_k1.1.1.2.1 ic_0 ?_
    refine k_put (ci := 11) [(cAI g a_letters 8 d_letters), (cO11_i1r1i10r1i2r5i2r12i3r4i2 h0 m_thrown a_tape m_taped m_size u_1 m_end m_token m_whole 0 m_fault m_place m_trouble a_letters m_failed m_hasHouse a_r a_fresh a_st a_undone a_kept m_undos m_images a_from a_begin a_motor a_change a_startFrame a_changeFrame a_lostAt a_blackAt a_slips a_leftArc a_died a_arcs m_bestSum m_nearest m_nearestTown a_there a_backAt a_sorted a_parts m_seed1 m_darkNow), (cAI g a_tape 900 d_tape)] X inlX11 rfl tyX11_ok nmX11 8 (nlt_e rfl) rfl dX11_next_k1.1.1.2.2 mw493 1 rfl rfl rfl (Nat.le_of_ble_eq_true rfl) rfl ?_
    refine k_aload_n X dX11_next_k1.1.2.1.1 2 rfl ?_
    refine k_iconst (v := 0) X dX11_next_k1.1.2.1.2 ic_0 ?_
    refine k_put (ci := 11) [(cAI g a_letters 8 d_letters), (cO11_i1r1i10r1i2r5i2r12i3r4i2 h0 m_thrown a_tape m_taped m_size u_1 m_end m_token 0 0 m_fault m_place m_trouble a_letters m_failed m_hasHouse a_r a_fresh a_st a_undone a_kept m_undos m_images a_from a_begin a_motor a_change a_startFrame a_changeFrame a_lostAt a_blackAt a_slips a_leftArc a_died a_arcs m_bestSum m_nearest m_nearestTown a_there a_backAt a_sorted a_parts m_seed1 m_darkNow), (cAI g a_tape 900 d_tape)] X inlX11 rfl tyX11_ok nmX11 7 (nlt_e rfl) rfl dX11_next_k1.1.2.2.1 mw494 1 rfl rfl rfl (Nat.le_of_ble_eq_true rfl) rfl ?_
    refine k_iload_n X dX11_next_k1.1.2.2.2 0 rfl ?_
    refine k_iconst (v := -1) X dX11_next_k1.2.1.1.1 ic_m1 ?_
    refine k_ic_ne 60 X dX11_next_k1.2.1.1.2 (jp_e rfl) (fun h_17 => ?_) (fun h_17 => ?_)
    · skip
      have hc_18 := hk_16.resolve_left h_17
      have iv_19 : IV u_1 0 899 := iv_meet hv_2 hc_18.1 (zle_o rfl) (zle_o rfl)
      have j_20 : u_1.toInt < m_size.toInt := hc_18.2
      refine k_iload_n X dX11_next_k2.1.1.1.2 0 rfl ?_
      refine k_callSI (n := 1) (As := [.int r_13]) (st := []) X [] [(cAI g a_letters 8 d_letters), (cO11_i1r1i10r1i2r5i2r12i3r4i2 h0 m_thrown a_tape m_taped m_size u_1 m_end m_token 0 0 m_fault m_place m_trouble a_letters m_failed m_hasHouse a_r a_fresh a_st a_undone a_kept m_undos m_images a_from a_begin a_motor a_change a_startFrame a_changeFrame a_lostAt a_blackAt a_slips a_leftArc a_died a_arcs m_bestSum m_nearest m_nearestTown a_there a_backAt a_sorted a_parts m_seed1 m_darkNow), (cAI g a_tape 900 d_tape)] [] [0, 1, 2] (m_isSmallX l g r_13) dX11_next_k2.1.1.2.1 mw499 mw500 mw5 mw501 yk_yX11_isSmall_1 rfl (Nat.le_of_ble_eq_true rfl) (Nat.le_of_ble_eq_true rfl) (Nat.le_of_ble_eq_true rfl) (Nat.le_of_ble_eq_true rfl) (Nat.le_of_ble_eq_true rfl) rfl rfl (vnd_e rfl) rfl (vnd_e rfl) (dsj_e rfl) ?_
      rintro r_21 w ⟨iv_22, hq_23, hk_24, hk_25, rfl⟩
      refine k_ws [(cAI g a_letters 8 d_letters), (cO11_i1r1i10r1i2r5i2r12i3r4i2 h0 m_thrown a_tape m_taped m_size u_1 m_end m_token 0 0 m_fault m_place m_trouble a_letters m_failed m_hasHouse a_r a_fresh a_st a_undone a_kept m_undos m_images a_from a_begin a_motor a_change a_startFrame a_changeFrame a_lostAt a_blackAt a_slips a_leftArc a_died a_arcs m_bestSum m_nearest m_nearestTown a_there a_backAt a_sorted a_parts m_seed1 m_darkNow), (cAI g a_tape 900 d_tape)] rfl ?_
      refine k_if_eq 143 X dX11_next_k2.1.1.2.2 (jp_e rfl) (fun h_26 => ?_) (fun h_26 => ?_)
      · skip
        have iv_27 : IV r_21 0 0 := iv_meet iv_22 (iv_e h_26 iq_0_0_0) (zle_o rfl) (zle_o rfl)
        have hc_28 := hk_25 (iv_eq iv_27 iq_0_0_0)
        have j_29 : r_13.toInt < 97 ∨ 122 < r_13.toInt := hc_28
        refine k_iload_n X dX11_next_k4.2.1.2.1 0 rfl ?_
        refine k_callSI (n := 1) (As := [.int r_13]) (st := []) X [] [(cAI g a_letters 8 d_letters), (cO11_i1r1i10r1i2r5i2r12i3r4i2 h0 m_thrown a_tape m_taped m_size u_1 m_end m_token 0 0 m_fault m_place m_trouble a_letters m_failed m_hasHouse a_r a_fresh a_st a_undone a_kept m_undos m_images a_from a_begin a_motor a_change a_startFrame a_changeFrame a_lostAt a_blackAt a_slips a_leftArc a_died a_arcs m_bestSum m_nearest m_nearestTown a_there a_backAt a_sorted a_parts m_seed1 m_darkNow), (cAI g a_tape 900 d_tape)] [] [0, 1, 2] (m_isDigitX l g r_13) dX11_next_k4.2.1.2.2 mw502 mw503 mw5 mw504 yk_yX11_isDigit_1 rfl (Nat.le_of_ble_eq_true rfl) (Nat.le_of_ble_eq_true rfl) (Nat.le_of_ble_eq_true rfl) (Nat.le_of_ble_eq_true rfl) (Nat.le_of_ble_eq_true rfl) rfl rfl (vnd_e rfl) rfl (vnd_e rfl) (dsj_e rfl) ?_
        rintro r_30 w ⟨iv_31, hq_32, hk_33, hk_34, rfl⟩
        refine k_ws [(cAI g a_letters 8 d_letters), (cO11_i1r1i10r1i2r5i2r12i3r4i2 h0 m_thrown a_tape m_taped m_size u_1 m_end m_token 0 0 m_fault m_place m_trouble a_letters m_failed m_hasHouse a_r a_fresh a_st a_undone a_kept m_undos m_images a_from a_begin a_motor a_change a_startFrame a_changeFrame a_lostAt a_blackAt a_slips a_leftArc a_died a_arcs m_bestSum m_nearest m_nearestTown a_there a_backAt a_sorted a_parts m_seed1 m_darkNow), (cAI g a_tape 900 d_tape)] rfl ?_
        refine k_if_eq 219 X dX11_next_k4.2.2.1.1 (jp_e rfl) (fun h_35 => ?_) (fun h_35 => ?_)
        · skip
          have iv_36 : IV r_30 0 0 := iv_meet iv_31 (iv_e h_35 iq_0_0_0) (zle_o rfl) (zle_o rfl)
          have hc_37 := hk_34 (iv_eq iv_36 iq_0_0_0)
          have j_38 : r_13.toInt < 48 ∨ 57 < r_13.toInt := hc_37
          refine k_aload_n X dX11_next_k7.1.1.2.1 2 rfl ?_
          refine k_iload_n X dX11_next_k7.1.1.2.2 1 rfl ?_
          refine k_iconst (v := 1) X dX11_next_k7.1.2.1.1 ic_1 ?_
          refine k_iadd X dX11_next_k7.1.2.1.2 ?_
          refine k_nm (fun z_39 ez_39 => ?_)
          have i_40 : z_39.toInt = u_1.toInt + 1 := in_add ez_39 iv_19 iq_1_1_1 (zle_e rfl) (zle_e rfl)
          have iv_41 : IV z_39 1 900 := iz1 i_40 iv_19 (zle_e rfl) (zle_e rfl)
          refine k_put (ci := 11) [(cAI g a_letters 8 d_letters), (cO11_i1r1i10r1i2r5i2r12i3r4i2 h0 m_thrown a_tape m_taped m_size u_1 z_39 m_token 0 0 m_fault m_place m_trouble a_letters m_failed m_hasHouse a_r a_fresh a_st a_undone a_kept m_undos m_images a_from a_begin a_motor a_change a_startFrame a_changeFrame a_lostAt a_blackAt a_slips a_leftArc a_died a_arcs m_bestSum m_nearest m_nearestTown a_there a_backAt a_sorted a_parts m_seed1 m_darkNow), (cAI g a_tape 900 d_tape)] X inlX11 rfl tyX11_ok nmX11 5 (nlt_e rfl) rfl dX11_next_k7.1.2.2.1 mw471 1 rfl rfl rfl (Nat.le_of_ble_eq_true rfl) rfl ?_
          refine k_aload_n X dX11_next_k7.1.2.2.2 2 rfl ?_
          refine k_iload_n X dX11_next_k7.2.1.1.1 0 rfl ?_
          refine k_bipush (v := 59) X dX11_next_k7.2.1.1.2 bi_59 ?_
          refine k_ic_eq 239 X dX11_next_k7.2.1.2.1 (jp_e rfl) (fun h_42 => ?_) (fun h_42 => ?_)
          · skip
            have iv_43 : IV r_13 59 59 := iv_meet (iv_any r_13) (iv_e h_42 iq_59_59_59) (zle_o rfl) (zle_o rfl)
            refine k_iload_n X dX11_next_k7.2.2.2.1 0 rfl ?_
            refine k_goto 244 X dX11_next_k7.2.2.2.2 (jp_e rfl) ?_
            refine k_put (ci := 11) [(cAI g a_letters 8 d_letters), (cO11_i1r1i10r1i2r5i2r12i3r4i2 h0 m_thrown a_tape m_taped m_size u_1 z_39 r_13 0 0 m_fault m_place m_trouble a_letters m_failed m_hasHouse a_r a_fresh a_st a_undone a_kept m_undos m_images a_from a_begin a_motor a_change a_startFrame a_changeFrame a_lostAt a_blackAt a_slips a_leftArc a_died a_arcs m_bestSum m_nearest m_nearestTown a_there a_backAt a_sorted a_parts m_seed1 m_darkNow), (cAI g a_tape 900 d_tape)] X inlX11 rfl tyX11_ok nmX11 6 (nlt_e rfl) rfl dX11_next_k8.2.1 mw472 1 rfl rfl rfl (Nat.le_of_ble_eq_true rfl) rfl ?_
            exact k_vret X hr dX11_next_k8.2.2 (Nat.le_of_ble_eq_true rfl) (Nat.le_of_ble_eq_true rfl) [1, 2, 0] (vnd_e rfl) rfl rfl ⟨u_1, z_39, d_letters, 0, r_13, 0, (iv_w iv_41 (zle_e rfl) (zle_e rfl)), (iv_w iq_0_0_0 (zle_e rfl) (zle_e rfl)), (by first | exact Or.inl (by decide) | exact Or.inr (by omega) | omega), (by omega), (KH_0 _ _ _ _ _ _ ⟨0 + 1, ⟨r_8, hq_10, (Or.inl ⟨h_12, ⟨r_13, hq_15, (Or.inl ⟨h_17, ⟨r_21, hq_23, (Or.inl ⟨h_26, ⟨r_30, hq_32, (Or.inl ⟨h_35, ⟨z_39, ez_39, (Or.inl ⟨h_42, ⟨rfl, rfl, rfl, rfl, rfl, rfl⟩⟩)⟩⟩)⟩⟩)⟩⟩)⟩⟩)⟩⟩), (fun q => (iv_eqN q iv_43 iq_2_2_2 (by decide)).elim), rfl⟩
          · skip
            refine k_iload_n X dX11_next_k7.2.1.2.2 0 rfl ?_
            refine k_bipush (v := 44) X dX11_next_k7.2.2.1.1 bi_44 ?_
            refine k_ic_ne 243 X dX11_next_k7.2.2.1.2 (jp_e rfl) (fun h_44 => ?_) (fun h_44 => ?_)
            · skip
              refine k_iconst (v := 1) X dX11_next_k8.1 ic_1 ?_
              refine k_put (ci := 11) [(cAI g a_letters 8 d_letters), (cO11_i1r1i10r1i2r5i2r12i3r4i2 h0 m_thrown a_tape m_taped m_size u_1 z_39 1 0 0 m_fault m_place m_trouble a_letters m_failed m_hasHouse a_r a_fresh a_st a_undone a_kept m_undos m_images a_from a_begin a_motor a_change a_startFrame a_changeFrame a_lostAt a_blackAt a_slips a_leftArc a_died a_arcs m_bestSum m_nearest m_nearestTown a_there a_backAt a_sorted a_parts m_seed1 m_darkNow), (cAI g a_tape 900 d_tape)] X inlX11 rfl tyX11_ok nmX11 6 (nlt_e rfl) rfl dX11_next_k8.2.1 mw472 1 rfl rfl rfl (Nat.le_of_ble_eq_true rfl) rfl ?_
              exact k_vret X hr dX11_next_k8.2.2 (Nat.le_of_ble_eq_true rfl) (Nat.le_of_ble_eq_true rfl) [1, 2, 0] (vnd_e rfl) rfl rfl ⟨u_1, z_39, d_letters, 0, 1, 0, (iv_w iv_41 (zle_e rfl) (zle_e rfl)), (iv_w iq_0_0_0 (zle_e rfl) (zle_e rfl)), (by first | exact Or.inl (by decide) | exact Or.inr (by omega) | omega), (by omega), (KH_0 _ _ _ _ _ _ ⟨0 + 1, ⟨r_8, hq_10, (Or.inl ⟨h_12, ⟨r_13, hq_15, (Or.inl ⟨h_17, ⟨r_21, hq_23, (Or.inl ⟨h_26, ⟨r_30, hq_32, (Or.inl ⟨h_35, ⟨z_39, ez_39, (Or.inr ⟨h_42, (Or.inl ⟨h_44, ⟨rfl, rfl, rfl, rfl, rfl, rfl⟩⟩)⟩)⟩⟩)⟩⟩)⟩⟩)⟩⟩)⟩⟩), (fun q => (iv_eqN q iq_1_1_1 iq_2_2_2 (by decide)).elim), rfl⟩
            · skip
              have iv_45 : IV r_13 44 44 := iv_meet (iv_any r_13) (iv_e h_44 iq_44_44_44) (zle_o rfl) (zle_o rfl)
              refine k_iload_n X dX11_next_k7.2.2.2.1 0 rfl ?_
              refine k_goto 244 X dX11_next_k7.2.2.2.2 (jp_e rfl) ?_
              refine k_put (ci := 11) [(cAI g a_letters 8 d_letters), (cO11_i1r1i10r1i2r5i2r12i3r4i2 h0 m_thrown a_tape m_taped m_size u_1 z_39 r_13 0 0 m_fault m_place m_trouble a_letters m_failed m_hasHouse a_r a_fresh a_st a_undone a_kept m_undos m_images a_from a_begin a_motor a_change a_startFrame a_changeFrame a_lostAt a_blackAt a_slips a_leftArc a_died a_arcs m_bestSum m_nearest m_nearestTown a_there a_backAt a_sorted a_parts m_seed1 m_darkNow), (cAI g a_tape 900 d_tape)] X inlX11 rfl tyX11_ok nmX11 6 (nlt_e rfl) rfl dX11_next_k8.2.1 mw472 1 rfl rfl rfl (Nat.le_of_ble_eq_true rfl) rfl ?_
              exact k_vret X hr dX11_next_k8.2.2 (Nat.le_of_ble_eq_true rfl) (Nat.le_of_ble_eq_true rfl) [1, 2, 0] (vnd_e rfl) rfl rfl ⟨u_1, z_39, d_letters, 0, r_13, 0, (iv_w iv_41 (zle_e rfl) (zle_e rfl)), (iv_w iq_0_0_0 (zle_e rfl) (zle_e rfl)), (by first | exact Or.inl (by decide) | exact Or.inr (by omega) | omega), (by omega), (KH_0 _ _ _ _ _ _ ⟨0 + 1, ⟨r_8, hq_10, (Or.inl ⟨h_12, ⟨r_13, hq_15, (Or.inl ⟨h_17, ⟨r_21, hq_23, (Or.inl ⟨h_26, ⟨r_30, hq_32, (Or.inl ⟨h_35, ⟨z_39, ez_39, (Or.inr ⟨h_42, (Or.inr ⟨h_44, ⟨rfl, rfl, rfl, rfl, rfl, rfl⟩⟩)⟩)⟩⟩)⟩⟩)⟩⟩)⟩⟩)⟩⟩), (fun q => (iv_eqN q iv_45 iq_2_2_2 (by decide)).elim), rfl⟩
        · skip
          have hc_46 := hk_33.resolve_left h_35
          have iv_47 : IV r_13 48 57 := iv_meet (iv_any r_13) hc_46 (zle_o rfl) (zle_o rfl)
          have iv_48 : IV r_30 1 1 := iv_neL h_35 iv_31 iq_0_0_0 (zle_e rfl)
          refine k_iconst (v := 0) X dX11_next_k4.2.2.1.2 ic_0 ?_
          refine k_istore_n [(3, .int 0), (2, .int r_13), (1, .int u_1), (0, .ref h0)] X dX11_next_k4.2.2.2.1 (nlt_e rfl) rfl ?_
          refine (fun hL : ∀ (nn_55 : Nat) (u_49 : Int32) (u_51 : Int32) (u_52 : Int32), (901 - u_49.toInt).toNat = nn_55 → (IV u_49 0 900) → (m_end.toInt ≤ u_49.toInt) → (u_1.toInt ≤ u_49.toInt) → (∀ (m_at2 : Int32) (m_end2 : Int32) (d_letters2 : Nat → Int32) (m_nameSize2 : Int32) (m_token2 : Int32) (m_whole2 : Int32), (∃ n_1 : Nat, R_m_nextX_L1 m_size d_tape (fun (u_51 : Int32) (u_49 : Int32) (u_52 : Int32) => (((u_51 ≤ (4 : Int32)) ∧ (m_at2 = u_1 ∧ m_end2 = u_49 ∧ d_letters2 = d_letters ∧ m_nameSize2 = 0 ∧ m_token2 = 3 ∧ m_whole2 = u_52)) ∨ ((¬ (u_51 ≤ (4 : Int32))) ∧ (m_at2 = u_1 ∧ m_end2 = u_49 ∧ d_letters2 = d_letters ∧ m_nameSize2 = 0 ∧ m_token2 = 1 ∧ m_whole2 = u_52)))) n_1 u_49 u_51 u_52) → R_m_nextX m_size m_end d_tape d_letters m_at2 m_end2 d_letters2 m_nameSize2 m_token2 m_whole2) → Wk p l e _ s m args below meth c _ A g _ _ _ [(cAI g a_letters 8 d_letters), (cO11_i1r1i10r1i2r5i2r12i3r4i2 h0 m_thrown a_tape m_taped m_size u_1 m_end m_token u_52 0 m_fault m_place m_trouble a_letters m_failed m_hasHouse a_r a_fresh a_st a_undone a_kept m_undos m_images a_from a_begin a_motor a_change a_startFrame a_changeFrame a_lostAt a_blackAt a_slips a_leftArc a_died a_arcs m_bestSum m_nearest m_nearestTown a_there a_backAt a_sorted a_parts m_seed1 m_darkNow), (cAI g a_tape 900 d_tape)] [(3, .int u_51), (2, .int r_13), (1, .int u_49), (0, .ref h0)] 152 [] => hL _ u_1 0 0 rfl (iv_w iv_19 (zle_e rfl) (zle_e rfl)) (by omega) (by omega) (fun m_at2 m_end2 d_letters2 m_nameSize2 m_token2 m_whole2 h => (KH_0 _ _ _ _ _ _ ⟨0 + 1, ⟨r_8, hq_10, (Or.inl ⟨h_12, ⟨r_13, hq_15, (Or.inl ⟨h_17, ⟨r_21, hq_23, (Or.inl ⟨h_26, ⟨r_30, hq_32, (Or.inr ⟨h_35, h⟩)⟩⟩)⟩⟩)⟩⟩)⟩⟩))) ?_
          refine fun nn_55 => Nat.strongRecOn nn_55 (fun nn_55 ih_57 => ?_)
          intro u_49 u_51 u_52 hm_56 hv_50 hx_53 hx_54 KH_1
          refine k_aload_n X dX11_next_k4.2.2.2.2 3 rfl ?_
          refine k_iload_n X dX11_next_k5.1.1.1.1 2 rfl ?_
          refine k_callVI (n := 1) (As := [.int u_49]) (st := []) X [(cO11_i1r1i10r1i2r5i2r12i3r4i2 h0 m_thrown a_tape m_taped m_size u_1 m_end m_token u_52 0 m_fault m_place m_trouble a_letters m_failed m_hasHouse a_r a_fresh a_st a_undone a_kept m_undos m_images a_from a_begin a_motor a_change a_startFrame a_changeFrame a_lostAt a_blackAt a_slips a_leftArc a_died a_arcs m_bestSum m_nearest m_nearestTown a_there a_backAt a_sorted a_parts m_seed1 m_darkNow), (cAI g a_tape 900 d_tape)] [(cAI g a_letters 8 d_letters)] [1, 2] [0] (m_lookX l g h0 u_49 m_thrown a_tape m_taped m_size u_1 m_end m_token u_52 0 m_fault m_place m_trouble a_letters m_failed m_hasHouse a_r a_fresh a_st a_undone a_kept m_undos m_images a_from a_begin a_motor a_change a_startFrame a_changeFrame a_lostAt a_blackAt a_slips a_leftArc a_died a_arcs m_bestSum m_nearest m_nearestTown a_there a_backAt a_sorted a_parts m_seed1 m_darkNow d_tape (iv_w hv_50 (zle_e rfl) (zle_e rfl)) (iv_w hv_m_size (zle_e rfl) (zle_e rfl))) dX11_next_k5.1.1.1.2 mw495 mw496 mw497 mw5 mw498 rfl 11 rfl rfl 0 _ rfl yk_yX11_look_1 rfl (Nat.le_of_ble_eq_true rfl) (Nat.le_of_ble_eq_true rfl) (Nat.le_of_ble_eq_true rfl) (Nat.le_of_ble_eq_true rfl) (Nat.le_of_ble_eq_true rfl) rfl rfl (vnd_e rfl) rfl (vnd_e rfl) (dsj_e rfl) ?_
          rintro r_58 w ⟨hq_59, hq_60, hk_61, rfl⟩
          refine k_ws [(cAI g a_letters 8 d_letters), (cO11_i1r1i10r1i2r5i2r12i3r4i2 h0 m_thrown a_tape m_taped m_size u_1 m_end m_token u_52 0 m_fault m_place m_trouble a_letters m_failed m_hasHouse a_r a_fresh a_st a_undone a_kept m_undos m_images a_from a_begin a_motor a_change a_startFrame a_changeFrame a_lostAt a_blackAt a_slips a_leftArc a_died a_arcs m_bestSum m_nearest m_nearestTown a_there a_backAt a_sorted a_parts m_seed1 m_darkNow), (cAI g a_tape 900 d_tape)] rfl ?_
          refine k_callSI (n := 1) (As := [.int r_58]) (st := []) X [] [(cAI g a_letters 8 d_letters), (cO11_i1r1i10r1i2r5i2r12i3r4i2 h0 m_thrown a_tape m_taped m_size u_1 m_end m_token u_52 0 m_fault m_place m_trouble a_letters m_failed m_hasHouse a_r a_fresh a_st a_undone a_kept m_undos m_images a_from a_begin a_motor a_change a_startFrame a_changeFrame a_lostAt a_blackAt a_slips a_leftArc a_died a_arcs m_bestSum m_nearest m_nearestTown a_there a_backAt a_sorted a_parts m_seed1 m_darkNow), (cAI g a_tape 900 d_tape)] [] [0, 1, 2] (m_isDigitX l g r_58) dX11_next_k5.1.1.2.1 mw502 mw503 mw5 mw504 yk_yX11_isDigit_1 rfl (Nat.le_of_ble_eq_true rfl) (Nat.le_of_ble_eq_true rfl) (Nat.le_of_ble_eq_true rfl) (Nat.le_of_ble_eq_true rfl) (Nat.le_of_ble_eq_true rfl) rfl rfl (vnd_e rfl) rfl (vnd_e rfl) (dsj_e rfl) ?_
          rintro r_62 w ⟨iv_63, hq_64, hk_65, hk_66, rfl⟩
          refine k_ws [(cAI g a_letters 8 d_letters), (cO11_i1r1i10r1i2r5i2r12i3r4i2 h0 m_thrown a_tape m_taped m_size u_1 m_end m_token u_52 0 m_fault m_place m_trouble a_letters m_failed m_hasHouse a_r a_fresh a_st a_undone a_kept m_undos m_images a_from a_begin a_motor a_change a_startFrame a_changeFrame a_lostAt a_blackAt a_slips a_leftArc a_died a_arcs m_bestSum m_nearest m_nearestTown a_there a_backAt a_sorted a_parts m_seed1 m_darkNow), (cAI g a_tape 900 d_tape)] rfl ?_
          refine k_if_eq 197 X dX11_next_k5.1.1.2.2 (jp_e rfl) (fun h_67 => ?_) (fun h_67 => ?_)
          · skip
            have iv_68 : IV r_62 0 0 := iv_meet iv_63 (iv_e h_67 iq_0_0_0) (zle_o rfl) (zle_o rfl)
            have hc_69 := hk_66 (iv_eq iv_68 iq_0_0_0)
            have j_70 : r_58.toInt < 48 ∨ 57 < r_58.toInt := hc_69
            have j_71 : u_1.toInt < u_49.toInt := look_str hq_14 hq_59 iv_47 (by assumption) hx_54
            refine k_aload_n X dX11_next_k6.1.2.2.1 3 rfl ?_
            refine k_iload_n X dX11_next_k6.1.2.2.2 2 rfl ?_
            refine k_put (ci := 11) [(cAI g a_letters 8 d_letters), (cO11_i1r1i10r1i2r5i2r12i3r4i2 h0 m_thrown a_tape m_taped m_size u_1 u_49 m_token u_52 0 m_fault m_place m_trouble a_letters m_failed m_hasHouse a_r a_fresh a_st a_undone a_kept m_undos m_images a_from a_begin a_motor a_change a_startFrame a_changeFrame a_lostAt a_blackAt a_slips a_leftArc a_died a_arcs m_bestSum m_nearest m_nearestTown a_there a_backAt a_sorted a_parts m_seed1 m_darkNow), (cAI g a_tape 900 d_tape)] X inlX11 rfl tyX11_ok nmX11 5 (nlt_e rfl) rfl dX11_next_k6.2.1.1.1 mw471 1 rfl rfl rfl (Nat.le_of_ble_eq_true rfl) rfl ?_
            refine k_aload_n X dX11_next_k6.2.1.1.2 3 rfl ?_
            refine k_iload_n X dX11_next_k6.2.1.2.1 0 rfl ?_
            refine k_iconst (v := 4) X dX11_next_k6.2.1.2.2 ic_4 ?_
            refine k_ic_le 212 X dX11_next_k6.2.2.1.1 (jp_e rfl) (fun h_72 => ?_) (fun h_72 => ?_)
            · skip
              have j_73 : u_51.toInt ≤ 4 := iv_le h_72
              have iv_74 : IV u_51 (-2147483648) 4 := iv_leL (iv_le h_72) (iv_any u_51) iq_4_4_4 (zle_e rfl)
              refine k_iconst (v := 3) X dX11_next_k6.2.2.2.2 ic_3 ?_
              refine k_put (ci := 11) [(cAI g a_letters 8 d_letters), (cO11_i1r1i10r1i2r5i2r12i3r4i2 h0 m_thrown a_tape m_taped m_size u_1 u_49 3 u_52 0 m_fault m_place m_trouble a_letters m_failed m_hasHouse a_r a_fresh a_st a_undone a_kept m_undos m_images a_from a_begin a_motor a_change a_startFrame a_changeFrame a_lostAt a_blackAt a_slips a_leftArc a_died a_arcs m_bestSum m_nearest m_nearestTown a_there a_backAt a_sorted a_parts m_seed1 m_darkNow), (cAI g a_tape 900 d_tape)] X inlX11 rfl tyX11_ok nmX11 6 (nlt_e rfl) rfl dX11_next_k7.1.1.1.1 mw472 1 rfl rfl rfl (Nat.le_of_ble_eq_true rfl) rfl ?_
              refine k_goto 247 X dX11_next_k7.1.1.1.2 (jp_e rfl) ?_
              exact k_vret X hr dX11_next_k8.2.2 (Nat.le_of_ble_eq_true rfl) (Nat.le_of_ble_eq_true rfl) [1, 2, 0] (vnd_e rfl) rfl rfl ⟨u_1, u_49, d_letters, 0, 3, u_52, (iv_w hv_50 (zle_e rfl) (zle_e rfl)), (iv_w iq_0_0_0 (zle_e rfl) (zle_e rfl)), (by first | exact Or.inl (by decide) | exact Or.inr (by omega) | omega), (by omega), (KH_1 _ _ _ _ _ _ ⟨0 + 1, ⟨r_58, hq_60, ⟨r_62, hq_64, (Or.inl ⟨h_67, (Or.inl ⟨h_72, ⟨rfl, rfl, rfl, rfl, rfl, rfl⟩⟩)⟩)⟩⟩⟩), (fun q => (iv_eqN q iq_3_3_3 iq_2_2_2 (by decide)).elim), rfl⟩
            · skip
              have j_75 : 4 < u_51.toInt := iv_nle h_72
              have iv_76 : IV u_51 5 2147483647 := iv_ltR (iv_nle h_72) iq_4_4_4 (iv_any u_51) (zle_e rfl)
              refine k_iconst (v := 1) X dX11_next_k6.2.2.1.2 ic_1 ?_
              refine k_goto 213 X dX11_next_k6.2.2.2.1 (jp_e rfl) ?_
              refine k_put (ci := 11) [(cAI g a_letters 8 d_letters), (cO11_i1r1i10r1i2r5i2r12i3r4i2 h0 m_thrown a_tape m_taped m_size u_1 u_49 1 u_52 0 m_fault m_place m_trouble a_letters m_failed m_hasHouse a_r a_fresh a_st a_undone a_kept m_undos m_images a_from a_begin a_motor a_change a_startFrame a_changeFrame a_lostAt a_blackAt a_slips a_leftArc a_died a_arcs m_bestSum m_nearest m_nearestTown a_there a_backAt a_sorted a_parts m_seed1 m_darkNow), (cAI g a_tape 900 d_tape)] X inlX11 rfl tyX11_ok nmX11 6 (nlt_e rfl) rfl dX11_next_k7.1.1.1.1 mw472 1 rfl rfl rfl (Nat.le_of_ble_eq_true rfl) rfl ?_
              refine k_goto 247 X dX11_next_k7.1.1.1.2 (jp_e rfl) ?_
              exact k_vret X hr dX11_next_k8.2.2 (Nat.le_of_ble_eq_true rfl) (Nat.le_of_ble_eq_true rfl) [1, 2, 0] (vnd_e rfl) rfl rfl ⟨u_1, u_49, d_letters, 0, 1, u_52, (iv_w hv_50 (zle_e rfl) (zle_e rfl)), (iv_w iq_0_0_0 (zle_e rfl) (zle_e rfl)), (by first | exact Or.inl (by decide) | exact Or.inr (by omega) | omega), (by omega), (KH_1 _ _ _ _ _ _ ⟨0 + 1, ⟨r_58, hq_60, ⟨r_62, hq_64, (Or.inl ⟨h_67, (Or.inr ⟨h_72, ⟨rfl, rfl, rfl, rfl, rfl, rfl⟩⟩)⟩)⟩⟩⟩), (fun q => (iv_eqN q iq_1_1_1 iq_2_2_2 (by decide)).elim), rfl⟩
          · skip
            have hc_77 := hk_65.resolve_left h_67
            have iv_78 : IV r_58 48 57 := iv_meet (iv_any r_58) hc_77 (zle_o rfl) (zle_o rfl)
            have hc_79 := hk_61.resolve_left (fun q => iv_eqN q iv_78 iq_m1_m1_m1 (by decide))
            have iv_80 : IV u_49 0 899 := iv_meet hv_50 hc_79.1 (zle_o rfl) (zle_o rfl)
            have j_81 : u_49.toInt < m_size.toInt := hc_79.2
            have iv_82 : IV r_62 1 1 := iv_neL h_67 iv_63 iq_0_0_0 (zle_e rfl)
            refine k_iload_n X dX11_next_k5.1.2.1.1 0 rfl ?_
            refine k_iconst (v := 4) X dX11_next_k5.1.2.1.2 ic_4 ?_
            refine k_ic_ge 188 X dX11_next_k5.1.2.2.1 (jp_e rfl) (fun h_83 => ?_) (fun h_83 => ?_)
            · skip
              have j_84 : 4 ≤ u_51.toInt := iv_le h_83
              have iv_85 : IV u_51 4 2147483647 := iv_leR (iv_le h_83) iq_4_4_4 (iv_any u_51) (zle_e rfl)
              obtain ⟨z_86, ez_86⟩ : ∃ y : Int32, u_51 + Int32.ofInt 1 = y := ⟨_, rfl⟩
              refine k_iinc z_86 [(3, .int z_86), (2, .int r_13), (1, .int u_49), (0, .ref h0)] 0 X dX11_next_k6.1.1.2.2 rfl ez_86 (nlt_e rfl) rfl ?_
              obtain ⟨z_87, ez_87⟩ : ∃ y : Int32, u_49 + Int32.ofInt 1 = y := ⟨_, rfl⟩
              refine k_iinc z_87 [(1, .int z_87), (3, .int z_86), (2, .int r_13), (0, .ref h0)] 2 X dX11_next_k6.1.2.1.1 rfl ez_87 (nlt_e rfl) rfl ?_
              have i_88 : z_87.toInt = u_49.toInt + 1 := in_inc ez_87 (oin_e rfl) iv_80 (zle_e rfl) (zle_e rfl)
              have iv_89 : IV z_87 1 900 := iz1 i_88 iv_80 (zle_e rfl) (zle_e rfl)
              refine k_goto 152 X dX11_next_k6.1.2.1.2 (jp_e rfl) ?_
              refine k_lv [(3, .int z_86), (2, .int r_13), (1, .int z_87), (0, .ref h0)] [1, 2, 0, 3] rfl ?_
              exact ih_57 _ (by omega) z_87 z_86 u_52 rfl (iv_w iv_89 (zle_e rfl) (zle_e rfl)) (by omega) (by omega) (fun m_at2 m_end2 d_letters2 m_nameSize2 m_token2 m_whole2 h => h.elim (fun n_1 q => (KH_1 _ _ _ _ _ _ ⟨n_1 + 1, ⟨r_58, hq_60, ⟨r_62, hq_64, (Or.inr ⟨h_67, (Or.inl ⟨h_83, ⟨z_86, ez_86, ⟨z_87, ez_87, q⟩⟩⟩)⟩)⟩⟩⟩)))
            · skip
              have j_90 : u_51.toInt < 4 := iv_nle h_83
              have iv_91 : IV u_51 (-2147483648) 3 := iv_ltL (iv_nle h_83) (iv_any u_51) iq_4_4_4 (zle_e rfl)
              refine k_aload_n X dX11_next_k5.1.2.2.2 3 rfl ?_
              refine k_bipush (v := 10) X dX11_next_k5.2.1.1.1 bi_10 ?_
              refine k_aload_n X dX11_next_k5.2.1.1.2 3 rfl ?_
              refine k_get (ci := 11) X inlX11 rfl 7 (nlt_e rfl) dX11_next_k5.2.1.2.1 mw494 1 rfl rfl ?_
              refine k_imul X dX11_next_k5.2.1.2.2 ?_
              refine k_nm (fun z_92 ez_92 => ?_)
              refine k_aload_n X dX11_next_k5.2.2.1.1 3 rfl ?_
              refine k_iload_n X dX11_next_k5.2.2.1.2 2 rfl ?_
              refine k_callVI (n := 1) (As := [.int u_49]) (st := [.int z_92, .ref h0]) X [(cO11_i1r1i10r1i2r5i2r12i3r4i2 h0 m_thrown a_tape m_taped m_size u_1 m_end m_token u_52 0 m_fault m_place m_trouble a_letters m_failed m_hasHouse a_r a_fresh a_st a_undone a_kept m_undos m_images a_from a_begin a_motor a_change a_startFrame a_changeFrame a_lostAt a_blackAt a_slips a_leftArc a_died a_arcs m_bestSum m_nearest m_nearestTown a_there a_backAt a_sorted a_parts m_seed1 m_darkNow), (cAI g a_tape 900 d_tape)] [(cAI g a_letters 8 d_letters)] [1, 2] [0] (m_lookX l g h0 u_49 m_thrown a_tape m_taped m_size u_1 m_end m_token u_52 0 m_fault m_place m_trouble a_letters m_failed m_hasHouse a_r a_fresh a_st a_undone a_kept m_undos m_images a_from a_begin a_motor a_change a_startFrame a_changeFrame a_lostAt a_blackAt a_slips a_leftArc a_died a_arcs m_bestSum m_nearest m_nearestTown a_there a_backAt a_sorted a_parts m_seed1 m_darkNow d_tape (iv_w iv_80 (zle_e rfl) (zle_e rfl)) (iv_w hv_m_size (zle_e rfl) (zle_e rfl))) dX11_next_k5.2.2.2.1 mw495 mw496 mw497 mw5 mw498 rfl 11 rfl rfl 0 _ rfl yk_yX11_look_1 rfl (Nat.le_of_ble_eq_true rfl) (Nat.le_of_ble_eq_true rfl) (Nat.le_of_ble_eq_true rfl) (Nat.le_of_ble_eq_true rfl) (Nat.le_of_ble_eq_true rfl) rfl rfl (vnd_e rfl) rfl (vnd_e rfl) (dsj_e rfl) ?_
              rintro r_94 w ⟨hq_95, hq_96, hk_97, rfl⟩
              refine k_ws [(cAI g a_letters 8 d_letters), (cO11_i1r1i10r1i2r5i2r12i3r4i2 h0 m_thrown a_tape m_taped m_size u_1 m_end m_token u_52 0 m_fault m_place m_trouble a_letters m_failed m_hasHouse a_r a_fresh a_st a_undone a_kept m_undos m_images a_from a_begin a_motor a_change a_startFrame a_changeFrame a_lostAt a_blackAt a_slips a_leftArc a_died a_arcs m_bestSum m_nearest m_nearestTown a_there a_backAt a_sorted a_parts m_seed1 m_darkNow), (cAI g a_tape 900 d_tape)] rfl ?_
              refine k_iadd X dX11_next_k5.2.2.2.2 ?_
              refine k_nm (fun z_98 ez_98 => ?_)
              refine k_bipush (v := 48) X dX11_next_k6.1.1.1.1 bi_48 ?_
              refine k_isub X dX11_next_k6.1.1.1.2 ?_
              refine k_nm (fun z_100 ez_100 => ?_)
              refine k_put (ci := 11) [(cAI g a_letters 8 d_letters), (cO11_i1r1i10r1i2r5i2r12i3r4i2 h0 m_thrown a_tape m_taped m_size u_1 m_end m_token z_100 0 m_fault m_place m_trouble a_letters m_failed m_hasHouse a_r a_fresh a_st a_undone a_kept m_undos m_images a_from a_begin a_motor a_change a_startFrame a_changeFrame a_lostAt a_blackAt a_slips a_leftArc a_died a_arcs m_bestSum m_nearest m_nearestTown a_there a_backAt a_sorted a_parts m_seed1 m_darkNow), (cAI g a_tape 900 d_tape)] X inlX11 rfl tyX11_ok nmX11 7 (nlt_e rfl) rfl dX11_next_k6.1.1.2.1 mw494 1 rfl rfl rfl (Nat.le_of_ble_eq_true rfl) rfl ?_
              obtain ⟨z_102, ez_102⟩ : ∃ y : Int32, u_51 + Int32.ofInt 1 = y := ⟨_, rfl⟩
              refine k_iinc z_102 [(3, .int z_102), (2, .int r_13), (1, .int u_49), (0, .ref h0)] 0 X dX11_next_k6.1.1.2.2 rfl ez_102 (nlt_e rfl) rfl ?_
              have i_103 : z_102.toInt = u_51.toInt + 1 := in_inc ez_102 (oin_e rfl) iv_91 (zle_e rfl) (zle_e rfl)
              have iv_104 : IV z_102 (-2147483647) 4 := iz1 i_103 iv_91 (zle_e rfl) (zle_e rfl)
              obtain ⟨z_105, ez_105⟩ : ∃ y : Int32, u_49 + Int32.ofInt 1 = y := ⟨_, rfl⟩
              refine k_iinc z_105 [(1, .int z_105), (3, .int z_102), (2, .int r_13), (0, .ref h0)] 2 X dX11_next_k6.1.2.1.1 rfl ez_105 (nlt_e rfl) rfl ?_
              have i_106 : z_105.toInt = u_49.toInt + 1 := in_inc ez_105 (oin_e rfl) iv_80 (zle_e rfl) (zle_e rfl)
              have iv_107 : IV z_105 1 900 := iz1 i_106 iv_80 (zle_e rfl) (zle_e rfl)
              refine k_goto 152 X dX11_next_k6.1.2.1.2 (jp_e rfl) ?_
              refine k_lv [(3, .int z_102), (2, .int r_13), (1, .int z_105), (0, .ref h0)] [1, 2, 0, 3] rfl ?_
              exact ih_57 _ (by omega) z_105 z_102 z_100 rfl (iv_w iv_107 (zle_e rfl) (zle_e rfl)) (by omega) (by omega) (fun m_at2 m_end2 d_letters2 m_nameSize2 m_token2 m_whole2 h => h.elim (fun n_1 q => (KH_1 _ _ _ _ _ _ ⟨n_1 + 1, ⟨r_58, hq_60, ⟨r_62, hq_64, (Or.inr ⟨h_67, (Or.inr ⟨h_83, ⟨z_92, ez_92, ⟨r_94, hq_96, ⟨z_98, ez_98, ⟨z_100, ez_100, ⟨z_102, ez_102, ⟨z_105, ez_105, q⟩⟩⟩⟩⟩⟩⟩)⟩)⟩⟩⟩)))
      · skip
        have hc_108 := hk_24.resolve_left h_26
        have iv_109 : IV r_13 97 122 := iv_meet (iv_any r_13) hc_108 (zle_o rfl) (zle_o rfl)
        have iv_110 : IV r_21 1 1 := iv_neL h_26 iv_22 iq_0_0_0 (zle_e rfl)
        refine (fun hL : ∀ (nn_119 : Nat) (uf_111 : Nat → Int32) (u_112 : Int32) (u_114 : Int32), (901 - u_112.toInt).toNat = nn_119 → (IV u_112 0 900) → (IV u_114 0 900) → (m_end.toInt ≤ u_112.toInt) → (u_1.toInt ≤ u_112.toInt) → (u_114.toInt ≤ u_112.toInt) → (∀ (m_at2 : Int32) (m_end2 : Int32) (d_letters2 : Nat → Int32) (m_nameSize2 : Int32) (m_token2 : Int32) (m_whole2 : Int32), (∃ n_2 : Nat, R_m_nextX_L2 m_size d_tape (fun (u_114 : Int32) (u_112 : Int32) (uf_111 : Nat → Int32) => (((u_114 ≤ (8 : Int32)) ∧ (m_at2 = u_1 ∧ m_end2 = u_112 ∧ d_letters2 = uf_111 ∧ m_nameSize2 = u_114 ∧ m_token2 = 2 ∧ m_whole2 = 0)) ∨ ((¬ (u_114 ≤ (8 : Int32))) ∧ (m_at2 = u_1 ∧ m_end2 = u_112 ∧ d_letters2 = uf_111 ∧ m_nameSize2 = u_114 ∧ m_token2 = 1 ∧ m_whole2 = 0)))) n_2 uf_111 u_112 u_114) → R_m_nextX m_size m_end d_tape d_letters m_at2 m_end2 d_letters2 m_nameSize2 m_token2 m_whole2) → Wk p l e _ s m args below meth c _ A g _ _ _ [(cAI g a_letters 8 uf_111), (cO11_i1r1i10r1i2r5i2r12i3r4i2 h0 m_thrown a_tape m_taped m_size u_1 m_end m_token 0 u_114 m_fault m_place m_trouble a_letters m_failed m_hasHouse a_r a_fresh a_st a_undone a_kept m_undos m_images a_from a_begin a_motor a_change a_startFrame a_changeFrame a_lostAt a_blackAt a_slips a_leftArc a_died a_arcs m_bestSum m_nearest m_nearestTown a_there a_backAt a_sorted a_parts m_seed1 m_darkNow), (cAI g a_tape 900 d_tape)] [(2, .int r_13), (1, .int u_112), (0, .ref h0)] 67 [] => hL _ d_letters u_1 0 rfl (iv_w iv_19 (zle_e rfl) (zle_e rfl)) (iv_w iq_0_0_0 (zle_e rfl) (zle_e rfl)) (by omega) (by omega) (by have e0 : (0 : Int32).toInt = 0 := (by decide); omega) (fun m_at2 m_end2 d_letters2 m_nameSize2 m_token2 m_whole2 h => (KH_0 _ _ _ _ _ _ ⟨0 + 1, ⟨r_8, hq_10, (Or.inl ⟨h_12, ⟨r_13, hq_15, (Or.inl ⟨h_17, ⟨r_21, hq_23, (Or.inr ⟨h_26, h⟩)⟩⟩)⟩⟩)⟩⟩))) ?_
        refine fun nn_119 => Nat.strongRecOn nn_119 (fun nn_119 ih_121 => ?_)
        intro uf_111 u_112 u_114 hm_120 hv_113 hv_115 hx_116 hx_117 hx_118 KH_2
        refine k_aload_n X dX11_next_k2.1.2.1.1 2 rfl ?_
        refine k_iload_n X dX11_next_k2.1.2.1.2 1 rfl ?_
        refine k_callVI (n := 1) (As := [.int u_112]) (st := []) X [(cO11_i1r1i10r1i2r5i2r12i3r4i2 h0 m_thrown a_tape m_taped m_size u_1 m_end m_token 0 u_114 m_fault m_place m_trouble a_letters m_failed m_hasHouse a_r a_fresh a_st a_undone a_kept m_undos m_images a_from a_begin a_motor a_change a_startFrame a_changeFrame a_lostAt a_blackAt a_slips a_leftArc a_died a_arcs m_bestSum m_nearest m_nearestTown a_there a_backAt a_sorted a_parts m_seed1 m_darkNow), (cAI g a_tape 900 d_tape)] [(cAI g a_letters 8 uf_111)] [1, 2] [0] (m_lookX l g h0 u_112 m_thrown a_tape m_taped m_size u_1 m_end m_token 0 u_114 m_fault m_place m_trouble a_letters m_failed m_hasHouse a_r a_fresh a_st a_undone a_kept m_undos m_images a_from a_begin a_motor a_change a_startFrame a_changeFrame a_lostAt a_blackAt a_slips a_leftArc a_died a_arcs m_bestSum m_nearest m_nearestTown a_there a_backAt a_sorted a_parts m_seed1 m_darkNow d_tape (iv_w hv_113 (zle_e rfl) (zle_e rfl)) (iv_w hv_m_size (zle_e rfl) (zle_e rfl))) dX11_next_k2.1.2.2.1 mw495 mw496 mw497 mw5 mw498 rfl 11 rfl rfl 0 _ rfl yk_yX11_look_1 rfl (Nat.le_of_ble_eq_true rfl) (Nat.le_of_ble_eq_true rfl) (Nat.le_of_ble_eq_true rfl) (Nat.le_of_ble_eq_true rfl) (Nat.le_of_ble_eq_true rfl) rfl rfl (vnd_e rfl) rfl (vnd_e rfl) (dsj_e rfl) ?_
        rintro r_122 w ⟨hq_123, hq_124, hk_125, rfl⟩
        refine k_ws [(cAI g a_letters 8 uf_111), (cO11_i1r1i10r1i2r5i2r12i3r4i2 h0 m_thrown a_tape m_taped m_size u_1 m_end m_token 0 u_114 m_fault m_place m_trouble a_letters m_failed m_hasHouse a_r a_fresh a_st a_undone a_kept m_undos m_images a_from a_begin a_motor a_change a_startFrame a_changeFrame a_lostAt a_blackAt a_slips a_leftArc a_died a_arcs m_bestSum m_nearest m_nearestTown a_there a_backAt a_sorted a_parts m_seed1 m_darkNow), (cAI g a_tape 900 d_tape)] rfl ?_
        refine k_callSI (n := 1) (As := [.int r_122]) (st := []) X [] [(cAI g a_letters 8 uf_111), (cO11_i1r1i10r1i2r5i2r12i3r4i2 h0 m_thrown a_tape m_taped m_size u_1 m_end m_token 0 u_114 m_fault m_place m_trouble a_letters m_failed m_hasHouse a_r a_fresh a_st a_undone a_kept m_undos m_images a_from a_begin a_motor a_change a_startFrame a_changeFrame a_lostAt a_blackAt a_slips a_leftArc a_died a_arcs m_bestSum m_nearest m_nearestTown a_there a_backAt a_sorted a_parts m_seed1 m_darkNow), (cAI g a_tape 900 d_tape)] [] [0, 1, 2] (m_isSmallX l g r_122) dX11_next_k2.1.2.2.2 mw499 mw500 mw5 mw501 yk_yX11_isSmall_1 rfl (Nat.le_of_ble_eq_true rfl) (Nat.le_of_ble_eq_true rfl) (Nat.le_of_ble_eq_true rfl) (Nat.le_of_ble_eq_true rfl) (Nat.le_of_ble_eq_true rfl) rfl rfl (vnd_e rfl) rfl (vnd_e rfl) (dsj_e rfl) ?_
        rintro r_126 w ⟨iv_127, hq_128, hk_129, hk_130, rfl⟩
        refine k_ws [(cAI g a_letters 8 uf_111), (cO11_i1r1i10r1i2r5i2r12i3r4i2 h0 m_thrown a_tape m_taped m_size u_1 m_end m_token 0 u_114 m_fault m_place m_trouble a_letters m_failed m_hasHouse a_r a_fresh a_st a_undone a_kept m_undos m_images a_from a_begin a_motor a_change a_startFrame a_changeFrame a_lostAt a_blackAt a_slips a_leftArc a_died a_arcs m_bestSum m_nearest m_nearestTown a_there a_backAt a_sorted a_parts m_seed1 m_darkNow), (cAI g a_tape 900 d_tape)] rfl ?_
        refine k_if_eq 117 X dX11_next_k2.2.1.1.1 (jp_e rfl) (fun h_131 => ?_) (fun h_131 => ?_)
        · skip
          have iv_132 : IV r_126 0 0 := iv_meet iv_127 (iv_e h_131 iq_0_0_0) (zle_o rfl) (zle_o rfl)
          have hc_133 := hk_130 (iv_eq iv_132 iq_0_0_0)
          have j_134 : r_122.toInt < 97 ∨ 122 < r_122.toInt := hc_133
          have j_135 : u_1.toInt < u_112.toInt := look_str hq_14 hq_123 iv_109 (by assumption) hx_117
          refine k_aload_n X dX11_next_k3.2.2.1.2 2 rfl ?_
          refine k_iload_n X dX11_next_k3.2.2.2.1 1 rfl ?_
          refine k_put (ci := 11) [(cAI g a_letters 8 uf_111), (cO11_i1r1i10r1i2r5i2r12i3r4i2 h0 m_thrown a_tape m_taped m_size u_1 u_112 m_token 0 u_114 m_fault m_place m_trouble a_letters m_failed m_hasHouse a_r a_fresh a_st a_undone a_kept m_undos m_images a_from a_begin a_motor a_change a_startFrame a_changeFrame a_lostAt a_blackAt a_slips a_leftArc a_died a_arcs m_bestSum m_nearest m_nearestTown a_there a_backAt a_sorted a_parts m_seed1 m_darkNow), (cAI g a_tape 900 d_tape)] X inlX11 rfl tyX11_ok nmX11 5 (nlt_e rfl) rfl dX11_next_k3.2.2.2.2 mw471 1 rfl rfl rfl (Nat.le_of_ble_eq_true rfl) rfl ?_
          refine k_aload_n X dX11_next_k4.1.1.1.1 2 rfl ?_
          refine k_aload_n X dX11_next_k4.1.1.1.2 2 rfl ?_
          refine k_get (ci := 11) X inlX11 rfl 8 (nlt_e rfl) dX11_next_k4.1.1.2.1 mw493 1 rfl rfl ?_
          refine k_bipush (v := 8) X dX11_next_k4.1.1.2.2 bi_8 ?_
          refine k_ic_le 136 X dX11_next_k4.1.2.1.1 (jp_e rfl) (fun h_136 => ?_) (fun h_136 => ?_)
          · skip
            have j_137 : u_114.toInt ≤ 8 := iv_le h_136
            have iv_138 : IV u_114 0 8 := iv_leL (iv_le h_136) hv_115 iq_8_8_8 (zle_e rfl)
            refine k_iconst (v := 2) X dX11_next_k4.1.2.2.2 ic_2 ?_
            refine k_put (ci := 11) [(cAI g a_letters 8 uf_111), (cO11_i1r1i10r1i2r5i2r12i3r4i2 h0 m_thrown a_tape m_taped m_size u_1 u_112 2 0 u_114 m_fault m_place m_trouble a_letters m_failed m_hasHouse a_r a_fresh a_st a_undone a_kept m_undos m_images a_from a_begin a_motor a_change a_startFrame a_changeFrame a_lostAt a_blackAt a_slips a_leftArc a_died a_arcs m_bestSum m_nearest m_nearestTown a_there a_backAt a_sorted a_parts m_seed1 m_darkNow), (cAI g a_tape 900 d_tape)] X inlX11 rfl tyX11_ok nmX11 6 (nlt_e rfl) rfl dX11_next_k4.2.1.1.1 mw472 1 rfl rfl rfl (Nat.le_of_ble_eq_true rfl) rfl ?_
            refine k_goto 247 X dX11_next_k4.2.1.1.2 (jp_e rfl) ?_
            exact k_vret X hr dX11_next_k8.2.2 (Nat.le_of_ble_eq_true rfl) (Nat.le_of_ble_eq_true rfl) [1, 2, 0] (vnd_e rfl) rfl rfl ⟨u_1, u_112, uf_111, u_114, 2, 0, (iv_w hv_113 (zle_e rfl) (zle_e rfl)), (iv_w iv_138 (zle_e rfl) (zle_e rfl)), (by first | exact Or.inl (by decide) | exact Or.inr (by omega) | omega), (by omega), (KH_2 _ _ _ _ _ _ ⟨0 + 1, ⟨r_122, hq_124, ⟨r_126, hq_128, (Or.inl ⟨h_131, (Or.inl ⟨h_136, ⟨rfl, rfl, rfl, rfl, rfl, rfl⟩⟩)⟩)⟩⟩⟩), (fun _ => (iv_w iv_138 (zle_e rfl) (zle_e rfl))), rfl⟩
          · skip
            have j_139 : 8 < u_114.toInt := iv_nle h_136
            have iv_140 : IV u_114 9 900 := iv_ltR (iv_nle h_136) iq_8_8_8 hv_115 (zle_e rfl)
            refine k_iconst (v := 1) X dX11_next_k4.1.2.1.2 ic_1 ?_
            refine k_goto 137 X dX11_next_k4.1.2.2.1 (jp_e rfl) ?_
            refine k_put (ci := 11) [(cAI g a_letters 8 uf_111), (cO11_i1r1i10r1i2r5i2r12i3r4i2 h0 m_thrown a_tape m_taped m_size u_1 u_112 1 0 u_114 m_fault m_place m_trouble a_letters m_failed m_hasHouse a_r a_fresh a_st a_undone a_kept m_undos m_images a_from a_begin a_motor a_change a_startFrame a_changeFrame a_lostAt a_blackAt a_slips a_leftArc a_died a_arcs m_bestSum m_nearest m_nearestTown a_there a_backAt a_sorted a_parts m_seed1 m_darkNow), (cAI g a_tape 900 d_tape)] X inlX11 rfl tyX11_ok nmX11 6 (nlt_e rfl) rfl dX11_next_k4.2.1.1.1 mw472 1 rfl rfl rfl (Nat.le_of_ble_eq_true rfl) rfl ?_
            refine k_goto 247 X dX11_next_k4.2.1.1.2 (jp_e rfl) ?_
            exact k_vret X hr dX11_next_k8.2.2 (Nat.le_of_ble_eq_true rfl) (Nat.le_of_ble_eq_true rfl) [1, 2, 0] (vnd_e rfl) rfl rfl ⟨u_1, u_112, uf_111, u_114, 1, 0, (iv_w hv_113 (zle_e rfl) (zle_e rfl)), (iv_w iv_140 (zle_e rfl) (zle_e rfl)), (by first | exact Or.inl (by decide) | exact Or.inr (by omega) | omega), (by omega), (KH_2 _ _ _ _ _ _ ⟨0 + 1, ⟨r_122, hq_124, ⟨r_126, hq_128, (Or.inl ⟨h_131, (Or.inr ⟨h_136, ⟨rfl, rfl, rfl, rfl, rfl, rfl⟩⟩)⟩)⟩⟩⟩), (fun q => (iv_eqN q iq_1_1_1 iq_2_2_2 (by decide)).elim), rfl⟩
        · skip
          have hc_141 := hk_129.resolve_left h_131
          have iv_142 : IV r_122 97 122 := iv_meet (iv_any r_122) hc_141 (zle_o rfl) (zle_o rfl)
          have hc_143 := hk_125.resolve_left (fun q => iv_eqN q iv_142 iq_m1_m1_m1 (by decide))
          have iv_144 : IV u_112 0 899 := iv_meet hv_113 hc_143.1 (zle_o rfl) (zle_o rfl)
          have j_145 : u_112.toInt < m_size.toInt := hc_143.2
          have iv_146 : IV r_126 1 1 := iv_neL h_131 iv_127 iq_0_0_0 (zle_e rfl)
          refine k_aload_n X dX11_next_k2.2.1.1.2 2 rfl ?_
          refine k_get (ci := 11) X inlX11 rfl 8 (nlt_e rfl) dX11_next_k2.2.1.2.1 mw493 1 rfl rfl ?_
          refine k_bipush (v := 8) X dX11_next_k2.2.1.2.2 bi_8 ?_
          refine k_ic_ge 101 X dX11_next_k2.2.2.1.1 (jp_e rfl) (fun h_147 => ?_) (fun h_147 => ?_)
          · skip
            have j_148 : 8 ≤ u_114.toInt := iv_le h_147
            have iv_149 : IV u_114 8 900 := iv_leR (iv_le h_147) iq_8_8_8 hv_115 (zle_e rfl)
            have iv_150 : IV u_114 8 899 := by have := iv_149; rw [IV]; omega
            refine k_aload_n X dX11_next_k3.1.2.1.2 2 rfl ?_
            refine k_dup X dX11_next_k3.1.2.2.1 rfl ?_
            refine k_get (ci := 11) X inlX11 rfl 8 (nlt_e rfl) dX11_next_k3.1.2.2.2 mw493 1 rfl rfl ?_
            refine k_iconst (v := 1) X dX11_next_k3.2.1.1.1 ic_1 ?_
            refine k_iadd X dX11_next_k3.2.1.1.2 ?_
            refine k_nm (fun z_151 ez_151 => ?_)
            have i_152 : z_151.toInt = u_114.toInt + 1 := in_add ez_151 iv_150 iq_1_1_1 (zle_e rfl) (zle_e rfl)
            have iv_153 : IV z_151 9 900 := iz1 i_152 iv_150 (zle_e rfl) (zle_e rfl)
            refine k_put (ci := 11) [(cAI g a_letters 8 uf_111), (cO11_i1r1i10r1i2r5i2r12i3r4i2 h0 m_thrown a_tape m_taped m_size u_1 m_end m_token 0 z_151 m_fault m_place m_trouble a_letters m_failed m_hasHouse a_r a_fresh a_st a_undone a_kept m_undos m_images a_from a_begin a_motor a_change a_startFrame a_changeFrame a_lostAt a_blackAt a_slips a_leftArc a_died a_arcs m_bestSum m_nearest m_nearestTown a_there a_backAt a_sorted a_parts m_seed1 m_darkNow), (cAI g a_tape 900 d_tape)] X inlX11 rfl tyX11_ok nmX11 8 (nlt_e rfl) rfl dX11_next_k3.2.1.2.1 mw493 1 rfl rfl rfl (Nat.le_of_ble_eq_true rfl) rfl ?_
            obtain ⟨z_154, ez_154⟩ : ∃ y : Int32, u_112 + Int32.ofInt 1 = y := ⟨_, rfl⟩
            refine k_iinc z_154 [(1, .int z_154), (2, .int r_13), (0, .ref h0)] 1 X dX11_next_k3.2.1.2.2 rfl ez_154 (nlt_e rfl) rfl ?_
            have i_155 : z_154.toInt = u_112.toInt + 1 := in_inc ez_154 (oin_e rfl) iv_144 (zle_e rfl) (zle_e rfl)
            have iv_156 : IV z_154 1 900 := iz1 i_155 iv_144 (zle_e rfl) (zle_e rfl)
            refine k_goto 67 X dX11_next_k3.2.2.1.1 (jp_e rfl) ?_
            refine k_lv [(2, .int r_13), (1, .int z_154), (0, .ref h0)] [1, 0, 2] rfl ?_
            exact ih_121 _ (by omega) uf_111 z_154 z_151 rfl (iv_w iv_156 (zle_e rfl) (zle_e rfl)) (iv_w iv_153 (zle_e rfl) (zle_e rfl)) (by omega) (by omega) (by omega) (fun m_at2 m_end2 d_letters2 m_nameSize2 m_token2 m_whole2 h => h.elim (fun n_2 q => (KH_2 _ _ _ _ _ _ ⟨n_2 + 1, ⟨r_122, hq_124, ⟨r_126, hq_128, (Or.inr ⟨h_131, (Or.inl ⟨h_147, ⟨z_151, ez_151, ⟨z_154, ez_154, q⟩⟩⟩)⟩)⟩⟩⟩)))
          · skip
            have j_157 : u_114.toInt < 8 := iv_nle h_147
            have iv_158 : IV u_114 0 7 := iv_ltL (iv_nle h_147) hv_115 iq_8_8_8 (zle_e rfl)
            refine k_aload_n X dX11_next_k2.2.2.1.2 2 rfl ?_
            refine k_get (ci := 11) X inlX11 rfl 12 (nlt_e rfl) dX11_next_k2.2.2.2.1 mw169 1 rfl rfl ?_
            refine k_aload_n X dX11_next_k2.2.2.2.2 2 rfl ?_
            refine k_get (ci := 11) X inlX11 rfl 8 (nlt_e rfl) dX11_next_k3.1.1.1.1 mw493 1 rfl rfl ?_
            refine k_aload_n X dX11_next_k3.1.1.1.2 2 rfl ?_
            refine k_iload_n X dX11_next_k3.1.1.2.1 1 rfl ?_
            refine k_callVI (n := 1) (As := [.int u_112]) (st := [.int u_114, .ref a_letters]) X [(cO11_i1r1i10r1i2r5i2r12i3r4i2 h0 m_thrown a_tape m_taped m_size u_1 m_end m_token 0 u_114 m_fault m_place m_trouble a_letters m_failed m_hasHouse a_r a_fresh a_st a_undone a_kept m_undos m_images a_from a_begin a_motor a_change a_startFrame a_changeFrame a_lostAt a_blackAt a_slips a_leftArc a_died a_arcs m_bestSum m_nearest m_nearestTown a_there a_backAt a_sorted a_parts m_seed1 m_darkNow), (cAI g a_tape 900 d_tape)] [(cAI g a_letters 8 uf_111)] [1, 2] [0] (m_lookX l g h0 u_112 m_thrown a_tape m_taped m_size u_1 m_end m_token 0 u_114 m_fault m_place m_trouble a_letters m_failed m_hasHouse a_r a_fresh a_st a_undone a_kept m_undos m_images a_from a_begin a_motor a_change a_startFrame a_changeFrame a_lostAt a_blackAt a_slips a_leftArc a_died a_arcs m_bestSum m_nearest m_nearestTown a_there a_backAt a_sorted a_parts m_seed1 m_darkNow d_tape (iv_w iv_144 (zle_e rfl) (zle_e rfl)) (iv_w hv_m_size (zle_e rfl) (zle_e rfl))) dX11_next_k3.1.1.2.2 mw495 mw496 mw497 mw5 mw498 rfl 11 rfl rfl 0 _ rfl yk_yX11_look_1 rfl (Nat.le_of_ble_eq_true rfl) (Nat.le_of_ble_eq_true rfl) (Nat.le_of_ble_eq_true rfl) (Nat.le_of_ble_eq_true rfl) (Nat.le_of_ble_eq_true rfl) rfl rfl (vnd_e rfl) rfl (vnd_e rfl) (dsj_e rfl) ?_
            rintro r_159 w ⟨hq_160, hq_161, hk_162, rfl⟩
            refine k_ws [(cAI g a_letters 8 uf_111), (cO11_i1r1i10r1i2r5i2r12i3r4i2 h0 m_thrown a_tape m_taped m_size u_1 m_end m_token 0 u_114 m_fault m_place m_trouble a_letters m_failed m_hasHouse a_r a_fresh a_st a_undone a_kept m_undos m_images a_from a_begin a_motor a_change a_startFrame a_changeFrame a_lostAt a_blackAt a_slips a_leftArc a_died a_arcs m_bestSum m_nearest m_nearestTown a_there a_backAt a_sorted a_parts m_seed1 m_darkNow), (cAI g a_tape 900 d_tape)] rfl ?_
            refine k_iast [(cAI g a_letters 8 (upd uf_111 (u_114 : Int32).toNatClampNeg r_159)), (cO11_i1r1i10r1i2r5i2r12i3r4i2 h0 m_thrown a_tape m_taped m_size u_1 m_end m_token 0 u_114 m_fault m_place m_trouble a_letters m_failed m_hasHouse a_r a_fresh a_st a_undone a_kept m_undos m_images a_from a_begin a_motor a_change a_startFrame a_changeFrame a_lostAt a_blackAt a_slips a_leftArc a_died a_arcs m_bestSum m_nearest m_nearestTown a_there a_backAt a_sorted a_parts m_seed1 m_darkNow), (cAI g a_tape 900 d_tape)] X dX11_next_k3.1.2.1.1 0 rfl (iv_in iv_158 (zle_e rfl) (zle_l rfl)) rfl ?_
            have iv_164 : IV u_114 0 7 := by have := iv_158; rw [IV]; omega
            refine k_aload_n X dX11_next_k3.1.2.1.2 2 rfl ?_
            refine k_dup X dX11_next_k3.1.2.2.1 rfl ?_
            refine k_get (ci := 11) X inlX11 rfl 8 (nlt_e rfl) dX11_next_k3.1.2.2.2 mw493 1 rfl rfl ?_
            refine k_iconst (v := 1) X dX11_next_k3.2.1.1.1 ic_1 ?_
            refine k_iadd X dX11_next_k3.2.1.1.2 ?_
            refine k_nm (fun z_165 ez_165 => ?_)
            have i_166 : z_165.toInt = u_114.toInt + 1 := in_add ez_165 iv_164 iq_1_1_1 (zle_e rfl) (zle_e rfl)
            have iv_167 : IV z_165 1 8 := iz1 i_166 iv_164 (zle_e rfl) (zle_e rfl)
            refine k_put (ci := 11) [(cAI g a_letters 8 (upd uf_111 (u_114 : Int32).toNatClampNeg r_159)), (cO11_i1r1i10r1i2r5i2r12i3r4i2 h0 m_thrown a_tape m_taped m_size u_1 m_end m_token 0 z_165 m_fault m_place m_trouble a_letters m_failed m_hasHouse a_r a_fresh a_st a_undone a_kept m_undos m_images a_from a_begin a_motor a_change a_startFrame a_changeFrame a_lostAt a_blackAt a_slips a_leftArc a_died a_arcs m_bestSum m_nearest m_nearestTown a_there a_backAt a_sorted a_parts m_seed1 m_darkNow), (cAI g a_tape 900 d_tape)] X inlX11 rfl tyX11_ok nmX11 8 (nlt_e rfl) rfl dX11_next_k3.2.1.2.1 mw493 1 rfl rfl rfl (Nat.le_of_ble_eq_true rfl) rfl ?_
            obtain ⟨z_168, ez_168⟩ : ∃ y : Int32, u_112 + Int32.ofInt 1 = y := ⟨_, rfl⟩
            refine k_iinc z_168 [(1, .int z_168), (2, .int r_13), (0, .ref h0)] 1 X dX11_next_k3.2.1.2.2 rfl ez_168 (nlt_e rfl) rfl ?_
            have i_169 : z_168.toInt = u_112.toInt + 1 := in_inc ez_168 (oin_e rfl) iv_144 (zle_e rfl) (zle_e rfl)
            have iv_170 : IV z_168 1 900 := iz1 i_169 iv_144 (zle_e rfl) (zle_e rfl)
            refine k_goto 67 X dX11_next_k3.2.2.1.1 (jp_e rfl) ?_
            refine k_lv [(2, .int r_13), (1, .int z_168), (0, .ref h0)] [1, 0, 2] rfl ?_
            exact ih_121 _ (by omega) ((upd uf_111 (u_114 : Int32).toNatClampNeg r_159)) z_168 z_165 rfl (iv_w iv_170 (zle_e rfl) (zle_e rfl)) (iv_w iv_167 (zle_e rfl) (zle_e rfl)) (by omega) (by omega) (by omega) (fun m_at2 m_end2 d_letters2 m_nameSize2 m_token2 m_whole2 h => h.elim (fun n_2 q => (KH_2 _ _ _ _ _ _ ⟨n_2 + 1, ⟨r_122, hq_124, ⟨r_126, hq_128, (Or.inr ⟨h_131, (Or.inr ⟨h_147, ⟨r_159, hq_161, ⟨z_165, ez_165, ⟨z_168, ez_168, q⟩⟩⟩⟩)⟩)⟩⟩⟩)))
    · skip
      have iv_171 : IV r_13 (-1) (-1) := iv_meet (iv_any r_13) (iv_e h_17 iq_m1_m1_m1) (zle_o rfl) (zle_o rfl)
      refine k_aload_n X dX11_next_k1.2.1.2.1 2 rfl ?_
      refine k_iconst (v := 0) X dX11_next_k1.2.1.2.2 ic_0 ?_
      refine k_put (ci := 11) [(cAI g a_letters 8 d_letters), (cO11_i1r1i10r1i2r5i2r12i3r4i2 h0 m_thrown a_tape m_taped m_size u_1 m_end 0 0 0 m_fault m_place m_trouble a_letters m_failed m_hasHouse a_r a_fresh a_st a_undone a_kept m_undos m_images a_from a_begin a_motor a_change a_startFrame a_changeFrame a_lostAt a_blackAt a_slips a_leftArc a_died a_arcs m_bestSum m_nearest m_nearestTown a_there a_backAt a_sorted a_parts m_seed1 m_darkNow), (cAI g a_tape 900 d_tape)] X inlX11 rfl tyX11_ok nmX11 6 (nlt_e rfl) rfl dX11_next_k1.2.2.1.1 mw472 1 rfl rfl rfl (Nat.le_of_ble_eq_true rfl) rfl ?_
      refine k_aload_n X dX11_next_k1.2.2.1.2 2 rfl ?_
      refine k_iload_n X dX11_next_k1.2.2.2.1 1 rfl ?_
      refine k_put (ci := 11) [(cAI g a_letters 8 d_letters), (cO11_i1r1i10r1i2r5i2r12i3r4i2 h0 m_thrown a_tape m_taped m_size u_1 u_1 0 0 0 m_fault m_place m_trouble a_letters m_failed m_hasHouse a_r a_fresh a_st a_undone a_kept m_undos m_images a_from a_begin a_motor a_change a_startFrame a_changeFrame a_lostAt a_blackAt a_slips a_leftArc a_died a_arcs m_bestSum m_nearest m_nearestTown a_there a_backAt a_sorted a_parts m_seed1 m_darkNow), (cAI g a_tape 900 d_tape)] X inlX11 rfl tyX11_ok nmX11 5 (nlt_e rfl) rfl dX11_next_k1.2.2.2.2 mw471 1 rfl rfl rfl (Nat.le_of_ble_eq_true rfl) rfl ?_
      refine k_goto 247 X dX11_next_k2.1.1.1.1 (jp_e rfl) ?_
      exact k_vret X hr dX11_next_k8.2.2 (Nat.le_of_ble_eq_true rfl) (Nat.le_of_ble_eq_true rfl) [1, 2, 0] (vnd_e rfl) rfl rfl ⟨u_1, u_1, d_letters, 0, 0, 0, (iv_w hv_2 (zle_e rfl) (zle_e rfl)), (iv_w iq_0_0_0 (zle_e rfl) (zle_e rfl)), (by first | exact Or.inl (by decide) | exact Or.inr (by omega) | omega), (by omega), (KH_0 _ _ _ _ _ _ ⟨0 + 1, ⟨r_8, hq_10, (Or.inl ⟨h_12, ⟨r_13, hq_15, (Or.inr ⟨h_17, ⟨rfl, rfl, rfl, rfl, rfl, rfl⟩⟩)⟩⟩)⟩⟩), (fun q => (iv_eqN q iq_0_0_0 iq_2_2_2 (by decide)).elim), rfl⟩
  · skip
    have iv_172 : IV r_8 32 32 := iv_meet (iv_any r_8) (iv_e h_12 iq_32_32_32) (zle_o rfl) (zle_o rfl)
    have hc_173 := hk_11.resolve_left (fun q => iv_eqN q iv_172 iq_m1_m1_m1 (by decide))
    have iv_174 : IV u_1 0 899 := iv_meet hv_2 hc_173.1 (zle_o rfl) (zle_o rfl)
    have j_175 : u_1.toInt < m_size.toInt := hc_173.2
    obtain ⟨z_176, ez_176⟩ : ∃ y : Int32, u_1 + Int32.ofInt 1 = y := ⟨_, rfl⟩
    refine k_iinc z_176 [(1, .int z_176), (0, .ref h0)] 0 X dX11_next_k0.2.1.1.1 rfl ez_176 (nlt_e rfl) rfl ?_
    have i_177 : z_176.toInt = u_1.toInt + 1 := in_inc ez_176 (oin_e rfl) iv_174 (zle_e rfl) (zle_e rfl)
    have iv_178 : IV z_176 1 900 := iz1 i_177 iv_174 (zle_e rfl) (zle_e rfl)
    refine k_goto 5 X dX11_next_k0.2.1.1.2 (jp_e rfl) ?_
    refine k_sub [(cO11_i1r1i10r1i2r5i2r12i3r4i2 h0 m_thrown a_tape m_taped m_size m_at m_end m_token m_whole m_nameSize m_fault m_place m_trouble a_letters m_failed m_hasHouse a_r a_fresh a_st a_undone a_kept m_undos m_images a_from a_begin a_motor a_change a_startFrame a_changeFrame a_lostAt a_blackAt a_slips a_leftArc a_died a_arcs m_bestSum m_nearest m_nearestTown a_there a_backAt a_sorted a_parts m_seed1 m_darkNow), (cAI g a_tape 900 d_tape), (cAI g a_letters 8 d_letters)] [1, 2, 0] rfl (by decide) rfl ?_
    exact ih_7 _ (by omega) z_176 rfl (iv_w iv_178 (zle_e rfl) (zle_e rfl)) (by omega) (by omega) (fun m_at2 m_end2 d_letters2 m_nameSize2 m_token2 m_whole2 h => h.elim (fun n_0 q => (KH_0 _ _ _ _ _ _ ⟨n_0 + 1, ⟨r_8, hq_10, (Or.inr ⟨h_12, ⟨z_176, ez_176, q⟩⟩)⟩⟩)))


set_option maxHeartbeats 4000000 in
set_option maxRecDepth 100000 in
theorem m_badX (l : Launch) (g : Gx) (h0 : Nat) (p0 : Int32) (p1 : Int32) (m_thrown : Int32) (a_tape : Nat) (m_taped : Int32) (m_size : Int32) (m_at : Int32) (m_end : Int32) (m_token : Int32) (m_whole : Int32) (m_nameSize : Int32) (m_fault : Int32) (m_place : Int32) (m_trouble : Int32) (a_letters : Nat) (m_failed : Int32) (m_hasHouse : Int32) (a_r : Nat) (a_fresh : Nat) (a_st : Nat) (a_undone : Nat) (a_kept : Nat) (m_undos : Int32) (m_images : Int32) (a_from : Nat) (a_begin : Nat) (a_motor : Nat) (a_change : Nat) (a_startFrame : Nat) (a_changeFrame : Nat) (a_lostAt : Nat) (a_blackAt : Nat) (a_slips : Nat) (a_leftArc : Nat) (a_died : Nat) (a_arcs : Nat) (m_bestSum : Int32) (m_nearest : Int32) (m_nearestTown : Int32) (a_there : Nat) (a_backAt : Nat) (a_sorted : Nat) (a_parts : Nat) (m_seed1 : Int32) (m_darkNow : Int32) (hv_m_failed : IV m_failed 0 1) : cV l g yX11_bad cX11_bad 3 0 0 0 0 [.ref h0, .int p0, .int p1] [(cO11_i1r1i10r1i2r5i2r12i3r4i2 h0 m_thrown a_tape m_taped m_size m_at m_end m_token m_whole m_nameSize m_fault m_place m_trouble a_letters m_failed m_hasHouse a_r a_fresh a_st a_undone a_kept m_undos m_images a_from a_begin a_motor a_change a_startFrame a_changeFrame a_lostAt a_blackAt a_slips a_leftArc a_died a_arcs m_bestSum m_nearest m_nearestTown a_there a_backAt a_sorted a_parts m_seed1 m_darkNow)] (fun w => ∃ (m_failed2 : Int32) (m_fault2 : Int32) (m_place2 : Int32), IV m_failed2 1 1 ∧ (R_m_badX p0 p1 m_fault m_place m_failed m_failed2 m_fault2 m_place2) ∧ w = [(cO11_i1r1i10r1i2r5i2r12i3r4i2 h0 m_thrown a_tape m_taped m_size m_at m_end m_token m_whole m_nameSize m_fault2 m_place2 m_trouble a_letters m_failed2 m_hasHouse a_r a_fresh a_st a_undone a_kept m_undos m_images a_from a_begin a_motor a_change a_startFrame a_changeFrame a_lostAt a_blackAt a_slips a_leftArc a_died a_arcs m_bestSum m_nearest m_nearestTown a_there a_backAt a_sorted a_parts m_seed1 m_darkNow)]) := by
  refine cV.of (by decide) (Nat.le_of_ble_eq_true rfl) ?_
  intro p e s m args below meth c A X hr hi
  refine k_lveq [(0, .ref h0), (1, .int p0), (2, .int p1)] rfl ?_
  refine k_aload_n X dX11_bad_k0.1.1.1 0 rfl ?_
  refine k_get (ci := 11) X inlX11 rfl 13 (nlt_e rfl) dX11_bad_k0.1.1.2.1 mw469 0 rfl rfl ?_
  refine k_if_eq 8 X dX11_bad_k0.1.1.2.2 (jp_e rfl) (fun h_1 => ?_) (fun h_1 => ?_)
  · skip
    have iv_2 : IV m_failed 0 0 := iv_meet hv_m_failed (iv_e h_1 iq_0_0_0) (zle_o rfl) (zle_o rfl)
    refine k_aload_n X dX11_bad_k0.1.2.1.2 0 rfl ?_
    refine k_iconst (v := 1) X dX11_bad_k0.1.2.2.1 ic_1 ?_
    refine k_put (ci := 11) [(cO11_i1r1i10r1i2r5i2r12i3r4i2 h0 m_thrown a_tape m_taped m_size m_at m_end m_token m_whole m_nameSize m_fault m_place m_trouble a_letters 1 m_hasHouse a_r a_fresh a_st a_undone a_kept m_undos m_images a_from a_begin a_motor a_change a_startFrame a_changeFrame a_lostAt a_blackAt a_slips a_leftArc a_died a_arcs m_bestSum m_nearest m_nearestTown a_there a_backAt a_sorted a_parts m_seed1 m_darkNow)] X inlX11 rfl tyX11_ok nmX11 13 (nlt_e rfl) rfl dX11_bad_k0.1.2.2.2 mw469 0 rfl (by decide) (by decide) (Nat.le_of_ble_eq_true rfl) rfl ?_
    refine k_aload_n X dX11_bad_k0.2.1.1 0 rfl ?_
    refine k_iload_n X dX11_bad_k0.2.1.2.1 1 rfl ?_
    refine k_put (ci := 11) [(cO11_i1r1i10r1i2r5i2r12i3r4i2 h0 m_thrown a_tape m_taped m_size m_at m_end m_token m_whole m_nameSize p0 m_place m_trouble a_letters 1 m_hasHouse a_r a_fresh a_st a_undone a_kept m_undos m_images a_from a_begin a_motor a_change a_startFrame a_changeFrame a_lostAt a_blackAt a_slips a_leftArc a_died a_arcs m_bestSum m_nearest m_nearestTown a_there a_backAt a_sorted a_parts m_seed1 m_darkNow)] X inlX11 rfl tyX11_ok nmX11 9 (nlt_e rfl) rfl dX11_bad_k0.2.1.2.2 mw468 0 rfl rfl rfl (Nat.le_of_ble_eq_true rfl) rfl ?_
    refine k_aload_n X dX11_bad_k0.2.2.1.1 0 rfl ?_
    refine k_iload_n X dX11_bad_k0.2.2.1.2 2 rfl ?_
    refine k_put (ci := 11) [(cO11_i1r1i10r1i2r5i2r12i3r4i2 h0 m_thrown a_tape m_taped m_size m_at m_end m_token m_whole m_nameSize p0 p1 m_trouble a_letters 1 m_hasHouse a_r a_fresh a_st a_undone a_kept m_undos m_images a_from a_begin a_motor a_change a_startFrame a_changeFrame a_lostAt a_blackAt a_slips a_leftArc a_died a_arcs m_bestSum m_nearest m_nearestTown a_there a_backAt a_sorted a_parts m_seed1 m_darkNow)] X inlX11 rfl tyX11_ok nmX11 10 (nlt_e rfl) rfl dX11_bad_k0.2.2.2.1 mw168 0 rfl rfl rfl (Nat.le_of_ble_eq_true rfl) rfl ?_
    exact k_vret X hr dX11_bad_k0.2.2.2.2 (Nat.le_of_ble_eq_true rfl) (Nat.le_of_ble_eq_true rfl) [0] (vnd_e rfl) rfl rfl ⟨1, p0, p1, (iv_w iq_1_1_1 (zle_e rfl) (zle_e rfl)), (Or.inl ⟨h_1, ⟨rfl, rfl, rfl⟩⟩), rfl⟩
  · skip
    have iv_3 : IV m_failed 1 1 := iv_neL h_1 hv_m_failed iq_0_0_0 (zle_e rfl)
    exact k_vret X hr dX11_bad_k0.1.2.1.1 (Nat.le_of_ble_eq_true rfl) (Nat.le_of_ble_eq_true rfl) [0] (vnd_e rfl) rfl rfl ⟨m_failed, m_fault, m_place, (iv_w iv_3 (zle_e rfl) (zle_e rfl)), (Or.inr ⟨h_1, ⟨rfl, rfl, rfl⟩⟩), rfl⟩


set_option maxHeartbeats 4000000 in
set_option maxRecDepth 100000 in
theorem m_isWordX (l : Launch) (g : Gx) (h0 : Nat) (sa : Nat) (m_thrown : Int32) (a_tape : Nat) (m_taped : Int32) (m_size : Int32) (m_at : Int32) (m_end : Int32) (m_token : Int32) (m_whole : Int32) (m_nameSize : Int32) (m_fault : Int32) (m_place : Int32) (m_trouble : Int32) (a_letters : Nat) (m_failed : Int32) (m_hasHouse : Int32) (a_r : Nat) (a_fresh : Nat) (a_st : Nat) (a_undone : Nat) (a_kept : Nat) (m_undos : Int32) (m_images : Int32) (a_from : Nat) (a_begin : Nat) (a_motor : Nat) (a_change : Nat) (a_startFrame : Nat) (a_changeFrame : Nat) (a_lostAt : Nat) (a_blackAt : Nat) (a_slips : Nat) (a_leftArc : Nat) (a_died : Nat) (a_arcs : Nat) (m_bestSum : Int32) (m_nearest : Int32) (m_nearestTown : Int32) (a_there : Nat) (a_backAt : Nat) (a_sorted : Nat) (a_parts : Nat) (m_seed1 : Int32) (m_darkNow : Int32) (d_letters : Nat → Int32) (tx_sa : String) (hv_m_nameSize : IV m_nameSize 0 900) (hv_m_failed : IV m_failed 0 1) (hp_sa : LtS g sa tx_sa) (hc_0 : m_token = 2 → IV m_nameSize 0 8) : cI l g yX11_isWord cX11_isWord 4 (some .boolean) 4 85 0 0 [.ref h0, .ref sa] [(cO11_i1r1i10r1i2r5i2r12i3r4i2 h0 m_thrown a_tape m_taped m_size m_at m_end m_token m_whole m_nameSize m_fault m_place m_trouble a_letters m_failed m_hasHouse a_r a_fresh a_st a_undone a_kept m_undos m_images a_from a_begin a_motor a_change a_startFrame a_changeFrame a_lostAt a_blackAt a_slips a_leftArc a_died a_arcs m_bestSum m_nearest m_nearestTown a_there a_backAt a_sorted a_parts m_seed1 m_darkNow), (cAI g a_letters 8 d_letters)] (fun r w => IV r 0 1 ∧ (R_m_isWordX m_token m_nameSize m_failed d_letters tx_sa r) ∧ (r = 0 ∨ (IV m_token 2 2 ∧ IV m_failed 0 0)) ∧ w = [(cO11_i1r1i10r1i2r5i2r12i3r4i2 h0 m_thrown a_tape m_taped m_size m_at m_end m_token m_whole m_nameSize m_fault m_place m_trouble a_letters m_failed m_hasHouse a_r a_fresh a_st a_undone a_kept m_undos m_images a_from a_begin a_motor a_change a_startFrame a_changeFrame a_lostAt a_blackAt a_slips a_leftArc a_died a_arcs m_bestSum m_nearest m_nearestTown a_there a_backAt a_sorted a_parts m_seed1 m_darkNow), (cAI g a_letters 8 d_letters)]) := by
  refine cI.of (by decide) (Nat.le_of_ble_eq_true rfl) ?_
  intro p e s m args below meth c A X hr hi
  refine k_lveq [(0, .ref h0), (1, .ref sa)] rfl ?_
  refine k_aload_n X dX11_isWord_k0.1.1.1.1 0 rfl ?_
  refine k_get (ci := 11) X inlX11 rfl 13 (nlt_e rfl) dX11_isWord_k0.1.1.1.2 mw469 0 rfl rfl ?_
  refine k_if_ne 26 X dX11_isWord_k0.1.1.2.1 (jp_e rfl) (fun h_1 => ?_) (fun h_1 => ?_)
  · skip
    have iv_2 : IV m_failed 1 1 := iv_neL h_1 hv_m_failed iq_0_0_0 (zle_e rfl)
    refine k_iconst (v := 0) X dX11_isWord_k0.2.2.1.1 ic_0 ?_
    exact k_zret X hr (by first | rfl | decide) dX11_isWord_k0.2.2.1.2 (Nat.le_of_ble_eq_true rfl) (Nat.le_of_ble_eq_true rfl) [0, 1] (vnd_e rfl) rfl rfl ⟨(iv_w iq_0_0_0 (zle_e rfl) (zle_e rfl)), (Or.inl ⟨h_1, rfl⟩), (Or.inl (iv_eq iq_0_0_0 iq_0_0_0)), rfl⟩
  · skip
    have iv_3 : IV m_failed 0 0 := iv_meet hv_m_failed (iv_e h_1 iq_0_0_0) (zle_o rfl) (zle_o rfl)
    refine k_aload_n X dX11_isWord_k0.1.1.2.2 0 rfl ?_
    refine k_get (ci := 11) X inlX11 rfl 6 (nlt_e rfl) dX11_isWord_k0.1.2.1.1 mw472 0 rfl rfl ?_
    refine k_iconst (v := 2) X dX11_isWord_k0.1.2.1.2 ic_2 ?_
    refine k_ic_ne 26 X dX11_isWord_k0.1.2.2.1 (jp_e rfl) (fun h_4 => ?_) (fun h_4 => ?_)
    · skip
      refine k_iconst (v := 0) X dX11_isWord_k0.2.2.1.1 ic_0 ?_
      exact k_zret X hr (by first | rfl | decide) dX11_isWord_k0.2.2.1.2 (Nat.le_of_ble_eq_true rfl) (Nat.le_of_ble_eq_true rfl) [0, 1] (vnd_e rfl) rfl rfl ⟨(iv_w iq_0_0_0 (zle_e rfl) (zle_e rfl)), (Or.inr ⟨h_1, (Or.inl ⟨h_4, rfl⟩)⟩), (Or.inl (iv_eq iq_0_0_0 iq_0_0_0)), rfl⟩
    · skip
      have iv_5 : IV m_token 2 2 := iv_meet (iv_any m_token) (iv_e h_4 iq_2_2_2) (zle_o rfl) (zle_o rfl)
      have hc_6 := hc_0 (iv_eq iv_5 iq_2_2_2)
      have iv_7 : IV m_nameSize 0 8 := iv_meet hv_m_nameSize hc_6 (zle_o rfl) (zle_o rfl)
      refine k_aload_n X dX11_isWord_k0.1.2.2.2 0 rfl ?_
      refine k_get (ci := 11) X inlX11 rfl 8 (nlt_e rfl) dX11_isWord_k0.2.1.1.1 mw493 0 rfl rfl ?_
      refine k_aload_n X dX11_isWord_k0.2.1.1.2 1 rfl ?_
      refine k_callLI (n := 0) (As := []) (st := [.int m_nameSize]) X [] [(cO11_i1r1i10r1i2r5i2r12i3r4i2 h0 m_thrown a_tape m_taped m_size m_at m_end m_token m_whole m_nameSize m_fault m_place m_trouble a_letters m_failed m_hasHouse a_r a_fresh a_st a_undone a_kept m_undos m_images a_from a_begin a_motor a_change a_startFrame a_changeFrame a_lostAt a_blackAt a_slips a_leftArc a_died a_arcs m_bestSum m_nearest m_nearestTown a_there a_backAt a_sorted a_parts m_seed1 m_darkNow), (cAI g a_letters 8 d_letters)] [] [0, 1] (j_length l g sa tx_sa hp_sa) dX11_isWord_k0.2.1.2.1 mw513 mw257 mw258 mw259 mw260 rfl hp_sa rfl yk_yJ0_length_8abf5_0 rfl (Nat.le_of_ble_eq_true rfl) (Nat.le_of_ble_eq_true rfl) (Nat.le_of_ble_eq_true rfl) (Nat.le_of_ble_eq_true rfl) (Nat.le_of_ble_eq_true rfl) rfl rfl (vnd_e rfl) rfl (vnd_e rfl) (dsj_e rfl) ?_
      rintro r_8 w ⟨iv_9, hq_10, rfl⟩
      refine k_ws [(cO11_i1r1i10r1i2r5i2r12i3r4i2 h0 m_thrown a_tape m_taped m_size m_at m_end m_token m_whole m_nameSize m_fault m_place m_trouble a_letters m_failed m_hasHouse a_r a_fresh a_st a_undone a_kept m_undos m_images a_from a_begin a_motor a_change a_startFrame a_changeFrame a_lostAt a_blackAt a_slips a_leftArc a_died a_arcs m_bestSum m_nearest m_nearestTown a_there a_backAt a_sorted a_parts m_seed1 m_darkNow), (cAI g a_letters 8 d_letters)] rfl ?_
      refine k_ic_eq 28 X dX11_isWord_k0.2.1.2.2 (jp_e rfl) (fun h_11 => ?_) (fun h_11 => ?_)
      · skip
        refine k_iconst (v := 1) X dX11_isWord_k0.2.2.2.1 ic_1 ?_
        refine k_istore_n [(2, .int 1), (0, .ref h0), (1, .ref sa)] X dX11_isWord_k0.2.2.2.2 (nlt_e rfl) rfl ?_
        refine k_iconst (v := 0) X dX11_isWord_k1.1.1.1.1 ic_0 ?_
        refine k_istore_n [(3, .int 0), (2, .int 1), (0, .ref h0), (1, .ref sa)] X dX11_isWord_k1.1.1.1.2 (nlt_e rfl) rfl ?_
        refine (fun hL : ∀ (nn_16 : Nat) (u_12 : Int32) (u_14 : Int32), (9 - u_14.toInt).toNat = nn_16 → (IV u_12 0 1) → (IV u_14 0 8) → (∀ (r : Int32), (∃ n_0 : Nat, R_m_isWordX_L0 m_nameSize d_letters tx_sa (fun (u_12 : Int32) => r = u_12) n_0 u_12 u_14) → R_m_isWordX m_token m_nameSize m_failed d_letters tx_sa r) → Wk p l e _ s m args below meth c _ A g _ _ _ [(cO11_i1r1i10r1i2r5i2r12i3r4i2 h0 m_thrown a_tape m_taped m_size m_at m_end m_token m_whole m_nameSize m_fault m_place m_trouble a_letters m_failed m_hasHouse a_r a_fresh a_st a_undone a_kept m_undos m_images a_from a_begin a_motor a_change a_startFrame a_changeFrame a_lostAt a_blackAt a_slips a_leftArc a_died a_arcs m_bestSum m_nearest m_nearestTown a_there a_backAt a_sorted a_parts m_seed1 m_darkNow), (cAI g a_letters 8 d_letters)] [(3, .int u_14), (2, .int u_12), (0, .ref h0), (1, .ref sa)] 32 [] => hL _ 1 0 rfl (iv_w iq_1_1_1 (zle_e rfl) (zle_e rfl)) (iv_w iq_0_0_0 (zle_e rfl) (zle_e rfl)) (fun r h => (Or.inr ⟨h_1, (Or.inr ⟨h_4, ⟨r_8, hq_10, (Or.inl ⟨h_11, h⟩)⟩⟩)⟩))) ?_
        refine fun nn_16 => Nat.strongRecOn nn_16 (fun nn_16 ih_18 => ?_)
        intro u_12 u_14 hm_17 hv_13 hv_15 KH_0
        refine k_iload_n X dX11_isWord_k1.1.1.2.1 0 rfl ?_
        refine k_aload_n X dX11_isWord_k1.1.1.2.2 2 rfl ?_
        refine k_get (ci := 11) X inlX11 rfl 8 (nlt_e rfl) dX11_isWord_k1.1.2.1.1 mw493 0 rfl rfl ?_
        refine k_ic_ge 70 X dX11_isWord_k1.1.2.1.2 (jp_e rfl) (fun h_19 => ?_) (fun h_19 => ?_)
        · skip
          have j_20 : m_nameSize.toInt ≤ u_14.toInt := iv_le h_19
          refine k_iload_n X dX11_isWord_k2.2.2.1 1 rfl ?_
          exact k_zret X hr (zn_b (iv_w hv_13 (zle_e rfl) (zle_e rfl))) dX11_isWord_k2.2.2.2 (Nat.le_of_ble_eq_true rfl) (Nat.le_of_ble_eq_true rfl) [0, 1] (vnd_e rfl) rfl rfl ⟨(iv_w hv_13 (zle_e rfl) (zle_e rfl)), (KH_0 _ ⟨0 + 1, (Or.inl ⟨h_19, rfl⟩)⟩), (Or.inr ⟨(iv_w iv_5 (zle_e rfl) (zle_e rfl)), (iv_w iv_3 (zle_e rfl) (zle_e rfl))⟩), rfl⟩
        · skip
          have j_21 : u_14.toInt < m_nameSize.toInt := iv_nle h_19
          have iv_22 : IV u_14 0 7 := iv_ltL (iv_nle h_19) hv_15 iv_7 (zle_e rfl)
          have iv_23 : IV m_nameSize 1 8 := iv_ltR (iv_nle h_19) hv_15 iv_7 (zle_e rfl)
          refine k_iload_n X dX11_isWord_k1.1.2.2.1 1 rfl ?_
          refine k_if_eq 62 X dX11_isWord_k1.1.2.2.2 (jp_e rfl) (fun h_24 => ?_) (fun h_24 => ?_)
          · skip
            have iv_25 : IV u_12 0 0 := iv_meet hv_13 (iv_e h_24 iq_0_0_0) (zle_o rfl) (zle_o rfl)
            refine k_iconst (v := 0) X dX11_isWord_k2.1.2.1 ic_0 ?_
            refine k_istore_n [(2, .int 0), (3, .int u_14), (0, .ref h0), (1, .ref sa)] X dX11_isWord_k2.1.2.2 (nlt_e rfl) rfl ?_
            obtain ⟨z_26, ez_26⟩ : ∃ y : Int32, u_14 + Int32.ofInt 1 = y := ⟨_, rfl⟩
            refine k_iinc z_26 [(3, .int z_26), (2, .int 0), (0, .ref h0), (1, .ref sa)] 1 X dX11_isWord_k2.2.1.1 rfl ez_26 (nlt_e rfl) rfl ?_
            have i_27 : z_26.toInt = u_14.toInt + 1 := in_inc ez_26 (oin_e rfl) iv_22 (zle_e rfl) (zle_e rfl)
            have iv_28 : IV z_26 1 8 := iz1 i_27 iv_22 (zle_e rfl) (zle_e rfl)
            refine k_goto 32 X dX11_isWord_k2.2.1.2 (jp_e rfl) ?_
            exact ih_18 _ (by omega) 0 z_26 rfl (iv_w iq_0_0_0 (zle_e rfl) (zle_e rfl)) (iv_w iv_28 (zle_e rfl) (zle_e rfl)) (fun r h => h.elim (fun n_0 q => (KH_0 _ ⟨n_0 + 1, (Or.inr ⟨h_19, (Or.inl ⟨h_24, ⟨z_26, ez_26, q⟩⟩)⟩)⟩)))
          · skip
            have iv_29 : IV u_12 1 1 := iv_neL h_24 hv_13 iq_0_0_0 (zle_e rfl)
            refine k_aload_n X dX11_isWord_k1.2.1.1.1 2 rfl ?_
            refine k_get (ci := 11) X inlX11 rfl 12 (nlt_e rfl) dX11_isWord_k1.2.1.1.2 mw169 0 rfl rfl ?_
            refine k_iload_n X dX11_isWord_k1.2.1.2.1 0 rfl ?_
            refine k_iald X dX11_isWord_k1.2.1.2.2 1 rfl (iv_in iv_22 (zle_e rfl) (zle_l rfl)) ?_
            refine k_nm (fun z_30 ez_30 => ?_)
            refine k_aload_n X dX11_isWord_k1.2.2.1.1 3 rfl ?_
            refine k_iload_n X dX11_isWord_k1.2.2.1.2 0 rfl ?_
            refine k_callLI (n := 1) (As := [.int u_14]) (st := [.int z_30]) X [] [(cO11_i1r1i10r1i2r5i2r12i3r4i2 h0 m_thrown a_tape m_taped m_size m_at m_end m_token m_whole m_nameSize m_fault m_place m_trouble a_letters m_failed m_hasHouse a_r a_fresh a_st a_undone a_kept m_undos m_images a_from a_begin a_motor a_change a_startFrame a_changeFrame a_lostAt a_blackAt a_slips a_leftArc a_died a_arcs m_bestSum m_nearest m_nearestTown a_there a_backAt a_sorted a_parts m_seed1 m_darkNow), (cAI g a_letters 8 d_letters)] [] [0, 1] (j_charAt l g sa u_14 tx_sa (iv_w iv_22 (zle_e rfl) (zle_e rfl)) hp_sa (by first | assumption | (subst_vars; first | assumption | exact Int32.not_le.mp (by assumption)))) dX11_isWord_k1.2.2.2.1 mw514 mw269 mw270 mw259 mw271 rfl hp_sa rfl yk_yJ0_charAt_5068e_1 rfl (Nat.le_of_ble_eq_true rfl) (Nat.le_of_ble_eq_true rfl) (Nat.le_of_ble_eq_true rfl) (Nat.le_of_ble_eq_true rfl) (Nat.le_of_ble_eq_true rfl) rfl rfl (vnd_e rfl) rfl (vnd_e rfl) (dsj_e rfl) ?_
            rintro r_31 w ⟨hq_32, rfl⟩
            refine k_ws [(cO11_i1r1i10r1i2r5i2r12i3r4i2 h0 m_thrown a_tape m_taped m_size m_at m_end m_token m_whole m_nameSize m_fault m_place m_trouble a_letters m_failed m_hasHouse a_r a_fresh a_st a_undone a_kept m_undos m_images a_from a_begin a_motor a_change a_startFrame a_changeFrame a_lostAt a_blackAt a_slips a_leftArc a_died a_arcs m_bestSum m_nearest m_nearestTown a_there a_backAt a_sorted a_parts m_seed1 m_darkNow), (cAI g a_letters 8 d_letters)] rfl ?_
            refine k_ic_ne 62 X dX11_isWord_k1.2.2.2.2 (jp_e rfl) (fun h_33 => ?_) (fun h_33 => ?_)
            · skip
              refine k_iconst (v := 0) X dX11_isWord_k2.1.2.1 ic_0 ?_
              refine k_istore_n [(2, .int 0), (3, .int u_14), (0, .ref h0), (1, .ref sa)] X dX11_isWord_k2.1.2.2 (nlt_e rfl) rfl ?_
              obtain ⟨z_34, ez_34⟩ : ∃ y : Int32, u_14 + Int32.ofInt 1 = y := ⟨_, rfl⟩
              refine k_iinc z_34 [(3, .int z_34), (2, .int 0), (0, .ref h0), (1, .ref sa)] 1 X dX11_isWord_k2.2.1.1 rfl ez_34 (nlt_e rfl) rfl ?_
              have i_35 : z_34.toInt = u_14.toInt + 1 := in_inc ez_34 (oin_e rfl) iv_22 (zle_e rfl) (zle_e rfl)
              have iv_36 : IV z_34 1 8 := iz1 i_35 iv_22 (zle_e rfl) (zle_e rfl)
              refine k_goto 32 X dX11_isWord_k2.2.1.2 (jp_e rfl) ?_
              exact ih_18 _ (by omega) 0 z_34 rfl (iv_w iq_0_0_0 (zle_e rfl) (zle_e rfl)) (iv_w iv_36 (zle_e rfl) (zle_e rfl)) (fun r h => h.elim (fun n_0 q => (KH_0 _ ⟨n_0 + 1, (Or.inr ⟨h_19, (Or.inr ⟨h_24, ⟨z_30, ez_30, ⟨r_31, hq_32, (Or.inl ⟨h_33, ⟨z_34, ez_34, q⟩⟩)⟩⟩⟩)⟩)⟩)))
            · skip
              refine k_iconst (v := 1) X dX11_isWord_k2.1.1.1 ic_1 ?_
              refine k_goto 63 X dX11_isWord_k2.1.1.2 (jp_e rfl) ?_
              refine k_istore_n [(2, .int 1), (3, .int u_14), (0, .ref h0), (1, .ref sa)] X dX11_isWord_k2.1.2.2 (nlt_e rfl) rfl ?_
              obtain ⟨z_37, ez_37⟩ : ∃ y : Int32, u_14 + Int32.ofInt 1 = y := ⟨_, rfl⟩
              refine k_iinc z_37 [(3, .int z_37), (2, .int 1), (0, .ref h0), (1, .ref sa)] 1 X dX11_isWord_k2.2.1.1 rfl ez_37 (nlt_e rfl) rfl ?_
              have i_38 : z_37.toInt = u_14.toInt + 1 := in_inc ez_37 (oin_e rfl) iv_22 (zle_e rfl) (zle_e rfl)
              have iv_39 : IV z_37 1 8 := iz1 i_38 iv_22 (zle_e rfl) (zle_e rfl)
              refine k_goto 32 X dX11_isWord_k2.2.1.2 (jp_e rfl) ?_
              exact ih_18 _ (by omega) 1 z_37 rfl (iv_w iq_1_1_1 (zle_e rfl) (zle_e rfl)) (iv_w iv_39 (zle_e rfl) (zle_e rfl)) (fun r h => h.elim (fun n_0 q => (KH_0 _ ⟨n_0 + 1, (Or.inr ⟨h_19, (Or.inr ⟨h_24, ⟨z_30, ez_30, ⟨r_31, hq_32, (Or.inr ⟨h_33, ⟨z_37, ez_37, q⟩⟩)⟩⟩⟩)⟩)⟩)))
      · skip
        refine k_iconst (v := 0) X dX11_isWord_k0.2.2.1.1 ic_0 ?_
        exact k_zret X hr (by first | rfl | decide) dX11_isWord_k0.2.2.1.2 (Nat.le_of_ble_eq_true rfl) (Nat.le_of_ble_eq_true rfl) [0, 1] (vnd_e rfl) rfl rfl ⟨(iv_w iq_0_0_0 (zle_e rfl) (zle_e rfl)), (Or.inr ⟨h_1, (Or.inr ⟨h_4, ⟨r_8, hq_10, (Or.inr ⟨h_11, rfl⟩)⟩⟩)⟩), (Or.inl (iv_eq iq_0_0_0 iq_0_0_0)), rfl⟩


set_option maxHeartbeats 4000000 in
set_option maxRecDepth 100000 in
theorem m_takesWordX (l : Launch) (g : Gx) (h0 : Nat) (sa : Nat) (m_thrown : Int32) (a_tape : Nat) (m_taped : Int32) (m_size : Int32) (m_at : Int32) (m_end : Int32) (m_token : Int32) (m_whole : Int32) (m_nameSize : Int32) (m_fault : Int32) (m_place : Int32) (m_trouble : Int32) (a_letters : Nat) (m_failed : Int32) (m_hasHouse : Int32) (a_r : Nat) (a_fresh : Nat) (a_st : Nat) (a_undone : Nat) (a_kept : Nat) (m_undos : Int32) (m_images : Int32) (a_from : Nat) (a_begin : Nat) (a_motor : Nat) (a_change : Nat) (a_startFrame : Nat) (a_changeFrame : Nat) (a_lostAt : Nat) (a_blackAt : Nat) (a_slips : Nat) (a_leftArc : Nat) (a_died : Nat) (a_arcs : Nat) (m_bestSum : Int32) (m_nearest : Int32) (m_nearestTown : Int32) (a_there : Nat) (a_backAt : Nat) (a_sorted : Nat) (a_parts : Nat) (m_seed1 : Int32) (m_darkNow : Int32) (d_tape : Nat → Int32) (d_letters : Nat → Int32) (tx_sa : String) (hv_m_size : IV m_size 0 900) (hv_m_end : IV m_end 0 900) (hv_m_nameSize : IV m_nameSize 0 900) (hv_m_failed : IV m_failed 0 1) (hp_sa : LtS g sa tx_sa) (hc_0 : m_token = 2 → IV m_nameSize 0 8) : cI l g yX11_takesWord cX11_takesWord 2 (some .boolean) 5 108 0 0 [.ref h0, .ref sa] [(cO11_i1r1i10r1i2r5i2r12i3r4i2 h0 m_thrown a_tape m_taped m_size m_at m_end m_token m_whole m_nameSize m_fault m_place m_trouble a_letters m_failed m_hasHouse a_r a_fresh a_st a_undone a_kept m_undos m_images a_from a_begin a_motor a_change a_startFrame a_changeFrame a_lostAt a_blackAt a_slips a_leftArc a_died a_arcs m_bestSum m_nearest m_nearestTown a_there a_backAt a_sorted a_parts m_seed1 m_darkNow), (cAI g a_tape 900 d_tape), (cAI g a_letters 8 d_letters)] (fun r w => ∃ (m_at2 : Int32) (m_end2 : Int32) (d_letters2 : Nat → Int32) (m_nameSize2 : Int32) (m_token2 : Int32) (m_whole2 : Int32), IV m_end2 0 900 ∧ IV m_nameSize2 0 900 ∧ IV r 0 1 ∧ (m_end.toInt ≤ m_end2.toInt) ∧ (R_m_takesWordX m_size m_at m_end m_token m_whole m_nameSize m_failed d_tape d_letters tx_sa m_at2 m_end2 d_letters2 m_nameSize2 m_token2 m_whole2 r) ∧ (m_token2 = 2 → IV m_nameSize2 0 8) ∧ w = [(cO11_i1r1i10r1i2r5i2r12i3r4i2 h0 m_thrown a_tape m_taped m_size m_at2 m_end2 m_token2 m_whole2 m_nameSize2 m_fault m_place m_trouble a_letters m_failed m_hasHouse a_r a_fresh a_st a_undone a_kept m_undos m_images a_from a_begin a_motor a_change a_startFrame a_changeFrame a_lostAt a_blackAt a_slips a_leftArc a_died a_arcs m_bestSum m_nearest m_nearestTown a_there a_backAt a_sorted a_parts m_seed1 m_darkNow), (cAI g a_tape 900 d_tape), (cAI g a_letters 8 d_letters2)]) := by
  refine cI.of (by decide) (Nat.le_of_ble_eq_true rfl) ?_
  intro p e s m args below meth c A X hr hi
  refine k_lveq [(0, .ref h0), (1, .ref sa)] rfl ?_
  refine k_aload_n X dX11_takesWord_k0.1.1.1 0 rfl ?_
  refine k_aload_n X dX11_takesWord_k0.1.1.2 1 rfl ?_
  refine k_callVI (n := 1) (As := [.ref sa]) (st := []) X [(cO11_i1r1i10r1i2r5i2r12i3r4i2 h0 m_thrown a_tape m_taped m_size m_at m_end m_token m_whole m_nameSize m_fault m_place m_trouble a_letters m_failed m_hasHouse a_r a_fresh a_st a_undone a_kept m_undos m_images a_from a_begin a_motor a_change a_startFrame a_changeFrame a_lostAt a_blackAt a_slips a_leftArc a_died a_arcs m_bestSum m_nearest m_nearestTown a_there a_backAt a_sorted a_parts m_seed1 m_darkNow), (cAI g a_letters 8 d_letters)] [(cAI g a_tape 900 d_tape)] [0, 2] [1] (m_isWordX l g h0 sa m_thrown a_tape m_taped m_size m_at m_end m_token m_whole m_nameSize m_fault m_place m_trouble a_letters m_failed m_hasHouse a_r a_fresh a_st a_undone a_kept m_undos m_images a_from a_begin a_motor a_change a_startFrame a_changeFrame a_lostAt a_blackAt a_slips a_leftArc a_died a_arcs m_bestSum m_nearest m_nearestTown a_there a_backAt a_sorted a_parts m_seed1 m_darkNow d_letters tx_sa (iv_w hv_m_nameSize (zle_e rfl) (zle_e rfl)) (iv_w hv_m_failed (zle_e rfl) (zle_e rfl)) hp_sa hc_0) dX11_takesWord_k0.1.2.1 mw509 mw510 mw511 mw5 mw512 rfl 11 rfl rfl 0 _ rfl yk_yX11_isWord_1 rfl (Nat.le_of_ble_eq_true rfl) (Nat.le_of_ble_eq_true rfl) (Nat.le_of_ble_eq_true rfl) (Nat.le_of_ble_eq_true rfl) (Nat.le_of_ble_eq_true rfl) rfl rfl (vnd_e rfl) rfl (vnd_e rfl) (dsj_e rfl) ?_
  rintro r_1 w ⟨iv_2, hq_3, hk_4, rfl⟩
  refine k_ws [(cAI g a_tape 900 d_tape), (cO11_i1r1i10r1i2r5i2r12i3r4i2 h0 m_thrown a_tape m_taped m_size m_at m_end m_token m_whole m_nameSize m_fault m_place m_trouble a_letters m_failed m_hasHouse a_r a_fresh a_st a_undone a_kept m_undos m_images a_from a_begin a_motor a_change a_startFrame a_changeFrame a_lostAt a_blackAt a_slips a_leftArc a_died a_arcs m_bestSum m_nearest m_nearestTown a_there a_backAt a_sorted a_parts m_seed1 m_darkNow), (cAI g a_letters 8 d_letters)] rfl ?_
  refine k_if_ne 10 X dX11_takesWord_k0.1.2.2.1 (jp_e rfl) (fun h_5 => ?_) (fun h_5 => ?_)
  · skip
    have hc_6 := hk_4.resolve_left h_5
    have iv_7 : IV m_token 2 2 := iv_meet (iv_any m_token) hc_6.1 (zle_o rfl) (zle_o rfl)
    have hc_8 := hc_0 (iv_eq iv_7 iq_2_2_2)
    have iv_9 : IV m_nameSize 0 8 := iv_meet hv_m_nameSize hc_8 (zle_o rfl) (zle_o rfl)
    have iv_10 : IV m_failed 0 0 := iv_meet hv_m_failed hc_6.2 (zle_o rfl) (zle_o rfl)
    have iv_11 : IV r_1 1 1 := iv_neL h_5 iv_2 iq_0_0_0 (zle_e rfl)
    refine k_aload_n X dX11_takesWord_k0.2.1.2 0 rfl ?_
    refine k_callVV (n := 0) (As := []) (st := []) X [(cO11_i1r1i10r1i2r5i2r12i3r4i2 h0 m_thrown a_tape m_taped m_size m_at m_end m_token m_whole m_nameSize m_fault m_place m_trouble a_letters m_failed m_hasHouse a_r a_fresh a_st a_undone a_kept m_undos m_images a_from a_begin a_motor a_change a_startFrame a_changeFrame a_lostAt a_blackAt a_slips a_leftArc a_died a_arcs m_bestSum m_nearest m_nearestTown a_there a_backAt a_sorted a_parts m_seed1 m_darkNow), (cAI g a_tape 900 d_tape), (cAI g a_letters 8 d_letters)] [] [1, 0, 2] [] (m_nextX l g h0 m_thrown a_tape m_taped m_size m_at m_end m_token m_whole m_nameSize m_fault m_place m_trouble a_letters m_failed m_hasHouse a_r a_fresh a_st a_undone a_kept m_undos m_images a_from a_begin a_motor a_change a_startFrame a_changeFrame a_lostAt a_blackAt a_slips a_leftArc a_died a_arcs m_bestSum m_nearest m_nearestTown a_there a_backAt a_sorted a_parts m_seed1 m_darkNow d_tape d_letters (iv_w hv_m_size (zle_e rfl) (zle_e rfl)) (iv_w hv_m_end (zle_e rfl) (zle_e rfl)) (iv_w iv_9 (zle_e rfl) (zle_e rfl))) dX11_takesWord_k0.2.2.1 mw489 mw490 mw491 mw5 mw492 rfl 11 rfl rfl 0 _ rfl yk_yX11_next_0 rfl (Nat.le_of_ble_eq_true rfl) (Nat.le_of_ble_eq_true rfl) (Nat.le_of_ble_eq_true rfl) (Nat.le_of_ble_eq_true rfl) (Nat.le_of_ble_eq_true rfl) rfl rfl (vnd_e rfl) rfl (vnd_e rfl) (dsj_e rfl) ?_
    intro w zq
    refine exE6 zq ?_
    clear zq
    intro m_at2_12 m_end2_13 d_letters2_14 m_nameSize2_15 m_token2_16 m_whole2_17 iv_19 zq
    refine exA5 zq ?_
    clear zq
    intro iv_20 hq_21 hq_22 hq_23 hk_24 zq
    subst zq
    refine k_ws [(cO11_i1r1i10r1i2r5i2r12i3r4i2 h0 m_thrown a_tape m_taped m_size m_at2_12 m_end2_13 m_token2_16 m_whole2_17 m_nameSize2_15 m_fault m_place m_trouble a_letters m_failed m_hasHouse a_r a_fresh a_st a_undone a_kept m_undos m_images a_from a_begin a_motor a_change a_startFrame a_changeFrame a_lostAt a_blackAt a_slips a_leftArc a_died a_arcs m_bestSum m_nearest m_nearestTown a_there a_backAt a_sorted a_parts m_seed1 m_darkNow), (cAI g a_tape 900 d_tape), (cAI g a_letters 8 d_letters2_14)] rfl ?_
    refine k_iconst (v := 1) X dX11_takesWord_k0.2.2.2.1 ic_1 ?_
    exact k_zret X hr (by first | rfl | decide) dX11_takesWord_k0.2.2.2.2 (Nat.le_of_ble_eq_true rfl) (Nat.le_of_ble_eq_true rfl) [0, 1, 2] (vnd_e rfl) rfl rfl ⟨m_at2_12, m_end2_13, d_letters2_14, m_nameSize2_15, m_token2_16, m_whole2_17, (iv_w iv_19 (zle_e rfl) (zle_e rfl)), (iv_w iv_20 (zle_e rfl) (zle_e rfl)), (iv_w iq_1_1_1 (zle_e rfl) (zle_e rfl)), (by omega), ⟨r_1, hq_3, (Or.inl ⟨h_5, ⟨m_at2_12, m_end2_13, d_letters2_14, m_nameSize2_15, m_token2_16, m_whole2_17, hq_23, ⟨rfl, rfl, rfl, rfl, rfl, rfl, rfl⟩⟩⟩)⟩, hk_24, rfl⟩
  · skip
    have iv_25 : IV r_1 0 0 := iv_meet iv_2 (iv_e h_5 iq_0_0_0) (zle_o rfl) (zle_o rfl)
    refine k_iconst (v := 0) X dX11_takesWord_k0.1.2.2.2 ic_0 ?_
    exact k_zret X hr (by first | rfl | decide) dX11_takesWord_k0.2.1.1 (Nat.le_of_ble_eq_true rfl) (Nat.le_of_ble_eq_true rfl) [1, 0, 2] (vnd_e rfl) rfl rfl ⟨m_at, m_end, d_letters, m_nameSize, m_token, m_whole, (iv_w hv_m_end (zle_e rfl) (zle_e rfl)), (iv_w hv_m_nameSize (zle_e rfl) (zle_e rfl)), (iv_w iq_0_0_0 (zle_e rfl) (zle_e rfl)), (by omega), ⟨r_1, hq_3, (Or.inr ⟨h_5, ⟨rfl, rfl, rfl, rfl, rfl, rfl, rfl⟩⟩)⟩, hc_0, rfl⟩


set_option maxHeartbeats 4000000 in
set_option maxRecDepth 100000 in
theorem m_mustX (l : Launch) (g : Gx) (h0 : Nat) (sa : Nat) (m_thrown : Int32) (a_tape : Nat) (m_taped : Int32) (m_size : Int32) (m_at : Int32) (m_end : Int32) (m_token : Int32) (m_whole : Int32) (m_nameSize : Int32) (m_fault : Int32) (m_place : Int32) (m_trouble : Int32) (a_letters : Nat) (m_failed : Int32) (m_hasHouse : Int32) (a_r : Nat) (a_fresh : Nat) (a_st : Nat) (a_undone : Nat) (a_kept : Nat) (m_undos : Int32) (m_images : Int32) (a_from : Nat) (a_begin : Nat) (a_motor : Nat) (a_change : Nat) (a_startFrame : Nat) (a_changeFrame : Nat) (a_lostAt : Nat) (a_blackAt : Nat) (a_slips : Nat) (a_leftArc : Nat) (a_died : Nat) (a_arcs : Nat) (m_bestSum : Int32) (m_nearest : Int32) (m_nearestTown : Int32) (a_there : Nat) (a_backAt : Nat) (a_sorted : Nat) (a_parts : Nat) (m_seed1 : Int32) (m_darkNow : Int32) (d_tape : Nat → Int32) (d_letters : Nat → Int32) (tx_sa : String) (hv_m_size : IV m_size 0 900) (hv_m_end : IV m_end 0 900) (hv_m_nameSize : IV m_nameSize 0 900) (hv_m_failed : IV m_failed 0 1) (hp_sa : LtS g sa tx_sa) (hc_0 : m_token = 2 → IV m_nameSize 0 8) : cV l g yX11_must cX11_must 2 6 129 0 0 [.ref h0, .ref sa] [(cO11_i1r1i10r1i2r5i2r12i3r4i2 h0 m_thrown a_tape m_taped m_size m_at m_end m_token m_whole m_nameSize m_fault m_place m_trouble a_letters m_failed m_hasHouse a_r a_fresh a_st a_undone a_kept m_undos m_images a_from a_begin a_motor a_change a_startFrame a_changeFrame a_lostAt a_blackAt a_slips a_leftArc a_died a_arcs m_bestSum m_nearest m_nearestTown a_there a_backAt a_sorted a_parts m_seed1 m_darkNow), (cAI g a_tape 900 d_tape), (cAI g a_letters 8 d_letters)] (fun w => ∃ (m_at2 : Int32) (m_end2 : Int32) (m_failed2 : Int32) (m_fault2 : Int32) (d_letters2 : Nat → Int32) (m_nameSize2 : Int32) (m_place2 : Int32) (m_token2 : Int32) (m_whole2 : Int32), IV m_end2 0 900 ∧ IV m_failed2 0 1 ∧ IV m_nameSize2 0 900 ∧ (m_end.toInt ≤ m_end2.toInt) ∧ (R_m_mustX m_size m_at m_end m_token m_whole m_nameSize m_fault m_place m_failed d_tape d_letters tx_sa m_at2 m_end2 m_failed2 m_fault2 d_letters2 m_nameSize2 m_place2 m_token2 m_whole2) ∧ (m_token2 = 2 → IV m_nameSize2 0 8) ∧ w = [(cO11_i1r1i10r1i2r5i2r12i3r4i2 h0 m_thrown a_tape m_taped m_size m_at2 m_end2 m_token2 m_whole2 m_nameSize2 m_fault2 m_place2 m_trouble a_letters m_failed2 m_hasHouse a_r a_fresh a_st a_undone a_kept m_undos m_images a_from a_begin a_motor a_change a_startFrame a_changeFrame a_lostAt a_blackAt a_slips a_leftArc a_died a_arcs m_bestSum m_nearest m_nearestTown a_there a_backAt a_sorted a_parts m_seed1 m_darkNow), (cAI g a_tape 900 d_tape), (cAI g a_letters 8 d_letters2)]) := by
  refine cV.of (by decide) (Nat.le_of_ble_eq_true rfl) ?_
  intro p e s m args below meth c A X hr hi
  refine k_lveq [(0, .ref h0), (1, .ref sa)] rfl ?_
  refine k_aload_n X dX11_must_k0.1.1.1 0 rfl ?_
  refine k_get (ci := 11) X inlX11 rfl 13 (nlt_e rfl) dX11_must_k0.1.1.2.1 mw469 0 rfl rfl ?_
  refine k_if_ne 24 X dX11_must_k0.1.1.2.2 (jp_e rfl) (fun h_1 => ?_) (fun h_1 => ?_)
  · skip
    have iv_2 : IV m_failed 1 1 := iv_neL h_1 hv_m_failed iq_0_0_0 (zle_e rfl)
    exact k_vret X hr dX11_must_k0.2.2.2.2 (Nat.le_of_ble_eq_true rfl) (Nat.le_of_ble_eq_true rfl) [0, 1, 2] (vnd_e rfl) rfl rfl ⟨m_at, m_end, m_failed, m_fault, d_letters, m_nameSize, m_place, m_token, m_whole, (iv_w hv_m_end (zle_e rfl) (zle_e rfl)), (iv_w iv_2 (zle_e rfl) (zle_e rfl)), (iv_w hv_m_nameSize (zle_e rfl) (zle_e rfl)), (by omega), (Or.inl ⟨h_1, ⟨rfl, rfl, rfl, rfl, rfl, rfl, rfl, rfl, rfl⟩⟩), hc_0, rfl⟩
  · skip
    have iv_3 : IV m_failed 0 0 := iv_meet hv_m_failed (iv_e h_1 iq_0_0_0) (zle_o rfl) (zle_o rfl)
    refine k_aload_n X dX11_must_k0.1.2.1 0 rfl ?_
    refine k_aload_n X dX11_must_k0.1.2.2.1 1 rfl ?_
    refine k_callVI (n := 1) (As := [.ref sa]) (st := []) X [(cO11_i1r1i10r1i2r5i2r12i3r4i2 h0 m_thrown a_tape m_taped m_size m_at m_end m_token m_whole m_nameSize m_fault m_place m_trouble a_letters m_failed m_hasHouse a_r a_fresh a_st a_undone a_kept m_undos m_images a_from a_begin a_motor a_change a_startFrame a_changeFrame a_lostAt a_blackAt a_slips a_leftArc a_died a_arcs m_bestSum m_nearest m_nearestTown a_there a_backAt a_sorted a_parts m_seed1 m_darkNow), (cAI g a_tape 900 d_tape), (cAI g a_letters 8 d_letters)] [] [0, 1, 2] [] (m_takesWordX l g h0 sa m_thrown a_tape m_taped m_size m_at m_end m_token m_whole m_nameSize m_fault m_place m_trouble a_letters m_failed m_hasHouse a_r a_fresh a_st a_undone a_kept m_undos m_images a_from a_begin a_motor a_change a_startFrame a_changeFrame a_lostAt a_blackAt a_slips a_leftArc a_died a_arcs m_bestSum m_nearest m_nearestTown a_there a_backAt a_sorted a_parts m_seed1 m_darkNow d_tape d_letters tx_sa (iv_w hv_m_size (zle_e rfl) (zle_e rfl)) (iv_w hv_m_end (zle_e rfl) (zle_e rfl)) (iv_w hv_m_nameSize (zle_e rfl) (zle_e rfl)) (iv_w iv_3 (zle_e rfl) (zle_e rfl)) hp_sa hc_0) dX11_must_k0.1.2.2.2 mw531 mw532 mw533 mw5 mw534 rfl 11 rfl rfl 0 _ rfl yk_yX11_takesWord_1 rfl (Nat.le_of_ble_eq_true rfl) (Nat.le_of_ble_eq_true rfl) (Nat.le_of_ble_eq_true rfl) (Nat.le_of_ble_eq_true rfl) (Nat.le_of_ble_eq_true rfl) rfl rfl (vnd_e rfl) rfl (vnd_e rfl) (dsj_e rfl) ?_
    intro r_10 w zq
    refine exE6 zq ?_
    clear zq
    intro m_at2_4 m_end2_5 d_letters2_6 m_nameSize2_7 m_token2_8 m_whole2_9 iv_11 zq
    refine exA5 zq ?_
    clear zq
    intro iv_12 iv_13 hq_14 hq_15 hk_16 zq
    subst zq
    refine k_ws [(cO11_i1r1i10r1i2r5i2r12i3r4i2 h0 m_thrown a_tape m_taped m_size m_at2_4 m_end2_5 m_token2_8 m_whole2_9 m_nameSize2_7 m_fault m_place m_trouble a_letters m_failed m_hasHouse a_r a_fresh a_st a_undone a_kept m_undos m_images a_from a_begin a_motor a_change a_startFrame a_changeFrame a_lostAt a_blackAt a_slips a_leftArc a_died a_arcs m_bestSum m_nearest m_nearestTown a_there a_backAt a_sorted a_parts m_seed1 m_darkNow), (cAI g a_tape 900 d_tape), (cAI g a_letters 8 d_letters2_6)] rfl ?_
    refine k_if_ne 24 X dX11_must_k0.2.1.1 (jp_e rfl) (fun h_17 => ?_) (fun h_17 => ?_)
    · skip
      have iv_18 : IV r_10 1 1 := iv_neL h_17 iv_13 iq_0_0_0 (zle_e rfl)
      exact k_vret X hr dX11_must_k0.2.2.2.2 (Nat.le_of_ble_eq_true rfl) (Nat.le_of_ble_eq_true rfl) [0, 1, 2] (vnd_e rfl) rfl rfl ⟨m_at2_4, m_end2_5, m_failed, m_fault, d_letters2_6, m_nameSize2_7, m_place, m_token2_8, m_whole2_9, (iv_w iv_11 (zle_e rfl) (zle_e rfl)), (iv_w iv_3 (zle_e rfl) (zle_e rfl)), (iv_w iv_12 (zle_e rfl) (zle_e rfl)), (by omega), (Or.inr ⟨h_1, ⟨m_at2_4, m_end2_5, d_letters2_6, m_nameSize2_7, m_token2_8, m_whole2_9, r_10, hq_15, (Or.inl ⟨h_17, ⟨rfl, rfl, rfl, rfl, rfl, rfl, rfl, rfl, rfl⟩⟩)⟩⟩), hk_16, rfl⟩
    · skip
      have iv_19 : IV r_10 0 0 := iv_meet iv_13 (iv_e h_17 iq_0_0_0) (zle_o rfl) (zle_o rfl)
      refine k_aload_n X dX11_must_k0.2.1.2.1 0 rfl ?_
      refine k_iconst (v := 1) X dX11_must_k0.2.1.2.2 ic_1 ?_
      refine k_aload_n X dX11_must_k0.2.2.1.1 0 rfl ?_
      refine k_get (ci := 11) X inlX11 rfl 4 (nlt_e rfl) dX11_must_k0.2.2.1.2 mw473 0 rfl rfl ?_
      refine k_callVV (n := 2) (As := [.int 1, .int m_at2_4]) (st := []) X [(cO11_i1r1i10r1i2r5i2r12i3r4i2 h0 m_thrown a_tape m_taped m_size m_at2_4 m_end2_5 m_token2_8 m_whole2_9 m_nameSize2_7 m_fault m_place m_trouble a_letters m_failed m_hasHouse a_r a_fresh a_st a_undone a_kept m_undos m_images a_from a_begin a_motor a_change a_startFrame a_changeFrame a_lostAt a_blackAt a_slips a_leftArc a_died a_arcs m_bestSum m_nearest m_nearestTown a_there a_backAt a_sorted a_parts m_seed1 m_darkNow)] [(cAI g a_tape 900 d_tape), (cAI g a_letters 8 d_letters2_6)] [0] [1, 2] (m_badX l g h0 1 m_at2_4 m_thrown a_tape m_taped m_size m_at2_4 m_end2_5 m_token2_8 m_whole2_9 m_nameSize2_7 m_fault m_place m_trouble a_letters m_failed m_hasHouse a_r a_fresh a_st a_undone a_kept m_undos m_images a_from a_begin a_motor a_change a_startFrame a_changeFrame a_lostAt a_blackAt a_slips a_leftArc a_died a_arcs m_bestSum m_nearest m_nearestTown a_there a_backAt a_sorted a_parts m_seed1 m_darkNow (iv_w iv_3 (zle_e rfl) (zle_e rfl))) dX11_must_k0.2.2.2.1 mw519 mw520 mw521 mw5 mw522 rfl 11 rfl rfl 0 _ rfl yk_yX11_bad_2 rfl (Nat.le_of_ble_eq_true rfl) (Nat.le_of_ble_eq_true rfl) (Nat.le_of_ble_eq_true rfl) (Nat.le_of_ble_eq_true rfl) (Nat.le_of_ble_eq_true rfl) rfl rfl (vnd_e rfl) rfl (vnd_e rfl) (dsj_e rfl) ?_
      rintro w ⟨m_failed2_20, m_fault2_21, m_place2_22, iv_24, hq_25, rfl⟩
      refine k_ws [(cAI g a_tape 900 d_tape), (cAI g a_letters 8 d_letters2_6), (cO11_i1r1i10r1i2r5i2r12i3r4i2 h0 m_thrown a_tape m_taped m_size m_at2_4 m_end2_5 m_token2_8 m_whole2_9 m_nameSize2_7 m_fault2_21 m_place2_22 m_trouble a_letters m_failed2_20 m_hasHouse a_r a_fresh a_st a_undone a_kept m_undos m_images a_from a_begin a_motor a_change a_startFrame a_changeFrame a_lostAt a_blackAt a_slips a_leftArc a_died a_arcs m_bestSum m_nearest m_nearestTown a_there a_backAt a_sorted a_parts m_seed1 m_darkNow)] rfl ?_
      exact k_vret X hr dX11_must_k0.2.2.2.2 (Nat.le_of_ble_eq_true rfl) (Nat.le_of_ble_eq_true rfl) [2, 0, 1] (vnd_e rfl) rfl rfl ⟨m_at2_4, m_end2_5, m_failed2_20, m_fault2_21, d_letters2_6, m_nameSize2_7, m_place2_22, m_token2_8, m_whole2_9, (iv_w iv_11 (zle_e rfl) (zle_e rfl)), (iv_w iv_24 (zle_e rfl) (zle_e rfl)), (iv_w iv_12 (zle_e rfl) (zle_e rfl)), (by omega), (Or.inr ⟨h_1, ⟨m_at2_4, m_end2_5, d_letters2_6, m_nameSize2_7, m_token2_8, m_whole2_9, r_10, hq_15, (Or.inr ⟨h_17, ⟨m_failed2_20, m_fault2_21, m_place2_22, hq_25, ⟨rfl, rfl, rfl, rfl, rfl, rfl, rfl, rfl, rfl⟩⟩⟩)⟩⟩), hk_16, rfl⟩


set_option maxHeartbeats 4000000 in
set_option maxRecDepth 100000 in
theorem m_mustNameX (l : Launch) (g : Gx) (h0 : Nat) (m_thrown : Int32) (a_tape : Nat) (m_taped : Int32) (m_size : Int32) (m_at : Int32) (m_end : Int32) (m_token : Int32) (m_whole : Int32) (m_nameSize : Int32) (m_fault : Int32) (m_place : Int32) (m_trouble : Int32) (a_letters : Nat) (m_failed : Int32) (m_hasHouse : Int32) (a_r : Nat) (a_fresh : Nat) (a_st : Nat) (a_undone : Nat) (a_kept : Nat) (m_undos : Int32) (m_images : Int32) (a_from : Nat) (a_begin : Nat) (a_motor : Nat) (a_change : Nat) (a_startFrame : Nat) (a_changeFrame : Nat) (a_lostAt : Nat) (a_blackAt : Nat) (a_slips : Nat) (a_leftArc : Nat) (a_died : Nat) (a_arcs : Nat) (m_bestSum : Int32) (m_nearest : Int32) (m_nearestTown : Int32) (a_there : Nat) (a_backAt : Nat) (a_sorted : Nat) (a_parts : Nat) (m_seed1 : Int32) (m_darkNow : Int32) (d_letters : Nat → Int32) (hv_m_nameSize : IV m_nameSize 0 900) (hv_m_failed : IV m_failed 0 1) (hc_0 : m_token = 2 → IV m_nameSize 0 8) : cV l g yX11_mustName cX11_mustName 2 5 108 0 0 [.ref h0] [(cO11_i1r1i10r1i2r5i2r12i3r4i2 h0 m_thrown a_tape m_taped m_size m_at m_end m_token m_whole m_nameSize m_fault m_place m_trouble a_letters m_failed m_hasHouse a_r a_fresh a_st a_undone a_kept m_undos m_images a_from a_begin a_motor a_change a_startFrame a_changeFrame a_lostAt a_blackAt a_slips a_leftArc a_died a_arcs m_bestSum m_nearest m_nearestTown a_there a_backAt a_sorted a_parts m_seed1 m_darkNow), (cAI g a_letters 8 d_letters)] (fun w => ∃ (m_failed2 : Int32) (m_fault2 : Int32) (m_place2 : Int32), IV m_failed2 0 1 ∧ (R_m_mustNameX m_at m_token m_nameSize m_fault m_place m_failed d_letters m_failed2 m_fault2 m_place2) ∧ (m_failed2 = 1 ∨ (IV m_token 2 2)) ∧ w = [(cO11_i1r1i10r1i2r5i2r12i3r4i2 h0 m_thrown a_tape m_taped m_size m_at m_end m_token m_whole m_nameSize m_fault2 m_place2 m_trouble a_letters m_failed2 m_hasHouse a_r a_fresh a_st a_undone a_kept m_undos m_images a_from a_begin a_motor a_change a_startFrame a_changeFrame a_lostAt a_blackAt a_slips a_leftArc a_died a_arcs m_bestSum m_nearest m_nearestTown a_there a_backAt a_sorted a_parts m_seed1 m_darkNow), (cAI g a_letters 8 d_letters)]) := by
  refine cV.of (by decide) (Nat.le_of_ble_eq_true rfl) ?_
  intro p e s m args below meth c A X hr hi
  refine k_lveq [(0, .ref h0)] rfl ?_
  refine k_aload_n X dX11_mustName_k0.1.1.1.1 0 rfl ?_
  refine k_ldcS (tx := "house") X dX11_mustName_k0.1.1.1.2 (by decide +kernel) (fun sr_1 hsr_1 => ?_)
  refine k_callVI (n := 1) (As := [.ref sr_1]) (st := []) X [(cO11_i1r1i10r1i2r5i2r12i3r4i2 h0 m_thrown a_tape m_taped m_size m_at m_end m_token m_whole m_nameSize m_fault m_place m_trouble a_letters m_failed m_hasHouse a_r a_fresh a_st a_undone a_kept m_undos m_images a_from a_begin a_motor a_change a_startFrame a_changeFrame a_lostAt a_blackAt a_slips a_leftArc a_died a_arcs m_bestSum m_nearest m_nearestTown a_there a_backAt a_sorted a_parts m_seed1 m_darkNow), (cAI g a_letters 8 d_letters)] [] [0, 1] [] (m_isWordX l g h0 sr_1 m_thrown a_tape m_taped m_size m_at m_end m_token m_whole m_nameSize m_fault m_place m_trouble a_letters m_failed m_hasHouse a_r a_fresh a_st a_undone a_kept m_undos m_images a_from a_begin a_motor a_change a_startFrame a_changeFrame a_lostAt a_blackAt a_slips a_leftArc a_died a_arcs m_bestSum m_nearest m_nearestTown a_there a_backAt a_sorted a_parts m_seed1 m_darkNow d_letters ("house") (iv_w hv_m_nameSize (zle_e rfl) (zle_e rfl)) (iv_w hv_m_failed (zle_e rfl) (zle_e rfl)) hsr_1 hc_0) dX11_mustName_k0.1.1.2.1 mw509 mw510 mw511 mw5 mw512 rfl 11 rfl rfl 0 _ rfl yk_yX11_isWord_1 rfl (Nat.le_of_ble_eq_true rfl) (Nat.le_of_ble_eq_true rfl) (Nat.le_of_ble_eq_true rfl) (Nat.le_of_ble_eq_true rfl) (Nat.le_of_ble_eq_true rfl) rfl rfl (vnd_e rfl) rfl (vnd_e rfl) (dsj_e rfl) ?_
  rintro r_2 w ⟨iv_3, hq_4, hk_5, rfl⟩
  refine k_ws [(cO11_i1r1i10r1i2r5i2r12i3r4i2 h0 m_thrown a_tape m_taped m_size m_at m_end m_token m_whole m_nameSize m_fault m_place m_trouble a_letters m_failed m_hasHouse a_r a_fresh a_st a_undone a_kept m_undos m_images a_from a_begin a_motor a_change a_startFrame a_changeFrame a_lostAt a_blackAt a_slips a_leftArc a_died a_arcs m_bestSum m_nearest m_nearestTown a_there a_backAt a_sorted a_parts m_seed1 m_darkNow), (cAI g a_letters 8 d_letters)] rfl ?_
  refine k_if_ne 108 X dX11_mustName_k0.1.1.2.2 (jp_e rfl) (fun h_6 => ?_) (fun h_6 => ?_)
  · skip
    have hc_7 := hk_5.resolve_left h_6
    have iv_8 : IV m_token 2 2 := iv_meet (iv_any m_token) hc_7.1 (zle_o rfl) (zle_o rfl)
    have hc_9 := hc_0 (iv_eq iv_8 iq_2_2_2)
    have iv_10 : IV m_nameSize 0 8 := iv_meet hv_m_nameSize hc_9 (zle_o rfl) (zle_o rfl)
    have iv_11 : IV m_failed 0 0 := iv_meet hv_m_failed hc_7.2 (zle_o rfl) (zle_o rfl)
    have iv_12 : IV r_2 1 1 := iv_neL h_6 iv_3 iq_0_0_0 (zle_e rfl)
    refine k_iconst (v := 1) X dX11_mustName_k3.1.1.1.1 ic_1 ?_
    refine k_goto 113 X dX11_mustName_k3.1.1.1.2 (jp_e rfl) ?_
    refine k_istore_n [(1, .int 1), (0, .ref h0)] X dX11_mustName_k3.1.1.2.2 (nlt_e rfl) rfl ?_
    refine k_aload_n X dX11_mustName_k3.1.2.1.1 1 rfl ?_
    refine k_get (ci := 11) X inlX11 rfl 6 (nlt_e rfl) dX11_mustName_k3.1.2.1.2 mw472 0 rfl rfl ?_
    refine k_iconst (v := 2) X dX11_mustName_k3.1.2.2.1 ic_2 ?_
    refine k_ic_ne 126 X dX11_mustName_k3.1.2.2.2 (jp_e rfl) (fun h_13 => absurd (iv_eq iv_8 iq_2_2_2) h_13) (fun h_13 => ?_)
    refine k_iload_n X dX11_mustName_k3.2.1.1.1 0 rfl ?_
    refine k_if_eq 135 X dX11_mustName_k3.2.1.1.2 (jp_e rfl) (fun h_14 => absurd h_14 (by decide)) (fun _ => ?_)
    refine k_aload_n X dX11_mustName_k3.2.1.2.1 1 rfl ?_
    refine k_iconst (v := 1) X dX11_mustName_k3.2.1.2.2 ic_1 ?_
    refine k_aload_n X dX11_mustName_k3.2.2.1.1 1 rfl ?_
    refine k_get (ci := 11) X inlX11 rfl 4 (nlt_e rfl) dX11_mustName_k3.2.2.1.2 mw473 0 rfl rfl ?_
    refine k_callVV (n := 2) (As := [.int 1, .int m_at]) (st := []) X [(cO11_i1r1i10r1i2r5i2r12i3r4i2 h0 m_thrown a_tape m_taped m_size m_at m_end m_token m_whole m_nameSize m_fault m_place m_trouble a_letters m_failed m_hasHouse a_r a_fresh a_st a_undone a_kept m_undos m_images a_from a_begin a_motor a_change a_startFrame a_changeFrame a_lostAt a_blackAt a_slips a_leftArc a_died a_arcs m_bestSum m_nearest m_nearestTown a_there a_backAt a_sorted a_parts m_seed1 m_darkNow)] [(cAI g a_letters 8 d_letters)] [0] [1] (m_badX l g h0 1 m_at m_thrown a_tape m_taped m_size m_at m_end m_token m_whole m_nameSize m_fault m_place m_trouble a_letters m_failed m_hasHouse a_r a_fresh a_st a_undone a_kept m_undos m_images a_from a_begin a_motor a_change a_startFrame a_changeFrame a_lostAt a_blackAt a_slips a_leftArc a_died a_arcs m_bestSum m_nearest m_nearestTown a_there a_backAt a_sorted a_parts m_seed1 m_darkNow (iv_w iv_11 (zle_e rfl) (zle_e rfl))) dX11_mustName_k3.2.2.2.1 mw519 mw520 mw521 mw5 mw522 rfl 11 rfl rfl 0 _ rfl yk_yX11_bad_2 rfl (Nat.le_of_ble_eq_true rfl) (Nat.le_of_ble_eq_true rfl) (Nat.le_of_ble_eq_true rfl) (Nat.le_of_ble_eq_true rfl) (Nat.le_of_ble_eq_true rfl) rfl rfl (vnd_e rfl) rfl (vnd_e rfl) (dsj_e rfl) ?_
    rintro w ⟨m_failed2_15, m_fault2_16, m_place2_17, iv_19, hq_20, rfl⟩
    refine k_ws [(cAI g a_letters 8 d_letters), (cO11_i1r1i10r1i2r5i2r12i3r4i2 h0 m_thrown a_tape m_taped m_size m_at m_end m_token m_whole m_nameSize m_fault2_16 m_place2_17 m_trouble a_letters m_failed2_15 m_hasHouse a_r a_fresh a_st a_undone a_kept m_undos m_images a_from a_begin a_motor a_change a_startFrame a_changeFrame a_lostAt a_blackAt a_slips a_leftArc a_died a_arcs m_bestSum m_nearest m_nearestTown a_there a_backAt a_sorted a_parts m_seed1 m_darkNow)] rfl ?_
    exact k_vret X hr dX11_mustName_k3.2.2.2.2 (Nat.le_of_ble_eq_true rfl) (Nat.le_of_ble_eq_true rfl) [1, 0] (vnd_e rfl) rfl rfl ⟨m_failed2_15, m_fault2_16, m_place2_17, (iv_w iv_19 (zle_e rfl) (zle_e rfl)), ⟨r_2, hq_4, (Or.inl ⟨h_6, ⟨m_failed2_15, m_fault2_16, m_place2_17, hq_20, ⟨rfl, rfl, rfl⟩⟩⟩)⟩, (Or.inl (iv_eq iv_19 iq_1_1_1)), rfl⟩
  · skip
    have iv_21 : IV r_2 0 0 := iv_meet iv_3 (iv_e h_6 iq_0_0_0) (zle_o rfl) (zle_o rfl)
    refine k_aload_n X dX11_mustName_k0.1.2.1.1 0 rfl ?_
    refine k_ldcS (tx := "reel") X dX11_mustName_k0.1.2.1.2 (by decide +kernel) (fun sr_22 hsr_22 => ?_)
    refine k_callVI (n := 1) (As := [.ref sr_22]) (st := []) X [(cO11_i1r1i10r1i2r5i2r12i3r4i2 h0 m_thrown a_tape m_taped m_size m_at m_end m_token m_whole m_nameSize m_fault m_place m_trouble a_letters m_failed m_hasHouse a_r a_fresh a_st a_undone a_kept m_undos m_images a_from a_begin a_motor a_change a_startFrame a_changeFrame a_lostAt a_blackAt a_slips a_leftArc a_died a_arcs m_bestSum m_nearest m_nearestTown a_there a_backAt a_sorted a_parts m_seed1 m_darkNow), (cAI g a_letters 8 d_letters)] [] [0, 1] [] (m_isWordX l g h0 sr_22 m_thrown a_tape m_taped m_size m_at m_end m_token m_whole m_nameSize m_fault m_place m_trouble a_letters m_failed m_hasHouse a_r a_fresh a_st a_undone a_kept m_undos m_images a_from a_begin a_motor a_change a_startFrame a_changeFrame a_lostAt a_blackAt a_slips a_leftArc a_died a_arcs m_bestSum m_nearest m_nearestTown a_there a_backAt a_sorted a_parts m_seed1 m_darkNow d_letters ("reel") (iv_w hv_m_nameSize (zle_e rfl) (zle_e rfl)) (iv_w hv_m_failed (zle_e rfl) (zle_e rfl)) hsr_22 hc_0) dX11_mustName_k0.1.2.2.1 mw509 mw510 mw511 mw5 mw512 rfl 11 rfl rfl 0 _ rfl yk_yX11_isWord_1 rfl (Nat.le_of_ble_eq_true rfl) (Nat.le_of_ble_eq_true rfl) (Nat.le_of_ble_eq_true rfl) (Nat.le_of_ble_eq_true rfl) (Nat.le_of_ble_eq_true rfl) rfl rfl (vnd_e rfl) rfl (vnd_e rfl) (dsj_e rfl) ?_
    rintro r_23 w ⟨iv_24, hq_25, hk_26, rfl⟩
    refine k_ws [(cO11_i1r1i10r1i2r5i2r12i3r4i2 h0 m_thrown a_tape m_taped m_size m_at m_end m_token m_whole m_nameSize m_fault m_place m_trouble a_letters m_failed m_hasHouse a_r a_fresh a_st a_undone a_kept m_undos m_images a_from a_begin a_motor a_change a_startFrame a_changeFrame a_lostAt a_blackAt a_slips a_leftArc a_died a_arcs m_bestSum m_nearest m_nearestTown a_there a_backAt a_sorted a_parts m_seed1 m_darkNow), (cAI g a_letters 8 d_letters)] rfl ?_
    refine k_if_ne 108 X dX11_mustName_k0.1.2.2.2 (jp_e rfl) (fun h_27 => ?_) (fun h_27 => ?_)
    · skip
      have hc_28 := hk_26.resolve_left h_27
      have iv_29 : IV m_token 2 2 := iv_meet (iv_any m_token) hc_28.1 (zle_o rfl) (zle_o rfl)
      have hc_30 := hc_0 (iv_eq iv_29 iq_2_2_2)
      have iv_31 : IV m_nameSize 0 8 := iv_meet hv_m_nameSize hc_30 (zle_o rfl) (zle_o rfl)
      have iv_32 : IV m_failed 0 0 := iv_meet hv_m_failed hc_28.2 (zle_o rfl) (zle_o rfl)
      have iv_33 : IV r_23 1 1 := iv_neL h_27 iv_24 iq_0_0_0 (zle_e rfl)
      refine k_iconst (v := 1) X dX11_mustName_k3.1.1.1.1 ic_1 ?_
      refine k_goto 113 X dX11_mustName_k3.1.1.1.2 (jp_e rfl) ?_
      refine k_istore_n [(1, .int 1), (0, .ref h0)] X dX11_mustName_k3.1.1.2.2 (nlt_e rfl) rfl ?_
      refine k_aload_n X dX11_mustName_k3.1.2.1.1 1 rfl ?_
      refine k_get (ci := 11) X inlX11 rfl 6 (nlt_e rfl) dX11_mustName_k3.1.2.1.2 mw472 0 rfl rfl ?_
      refine k_iconst (v := 2) X dX11_mustName_k3.1.2.2.1 ic_2 ?_
      refine k_ic_ne 126 X dX11_mustName_k3.1.2.2.2 (jp_e rfl) (fun h_34 => absurd (iv_eq iv_29 iq_2_2_2) h_34) (fun h_34 => ?_)
      refine k_iload_n X dX11_mustName_k3.2.1.1.1 0 rfl ?_
      refine k_if_eq 135 X dX11_mustName_k3.2.1.1.2 (jp_e rfl) (fun h_35 => absurd h_35 (by decide)) (fun _ => ?_)
      refine k_aload_n X dX11_mustName_k3.2.1.2.1 1 rfl ?_
      refine k_iconst (v := 1) X dX11_mustName_k3.2.1.2.2 ic_1 ?_
      refine k_aload_n X dX11_mustName_k3.2.2.1.1 1 rfl ?_
      refine k_get (ci := 11) X inlX11 rfl 4 (nlt_e rfl) dX11_mustName_k3.2.2.1.2 mw473 0 rfl rfl ?_
      refine k_callVV (n := 2) (As := [.int 1, .int m_at]) (st := []) X [(cO11_i1r1i10r1i2r5i2r12i3r4i2 h0 m_thrown a_tape m_taped m_size m_at m_end m_token m_whole m_nameSize m_fault m_place m_trouble a_letters m_failed m_hasHouse a_r a_fresh a_st a_undone a_kept m_undos m_images a_from a_begin a_motor a_change a_startFrame a_changeFrame a_lostAt a_blackAt a_slips a_leftArc a_died a_arcs m_bestSum m_nearest m_nearestTown a_there a_backAt a_sorted a_parts m_seed1 m_darkNow)] [(cAI g a_letters 8 d_letters)] [0] [1] (m_badX l g h0 1 m_at m_thrown a_tape m_taped m_size m_at m_end m_token m_whole m_nameSize m_fault m_place m_trouble a_letters m_failed m_hasHouse a_r a_fresh a_st a_undone a_kept m_undos m_images a_from a_begin a_motor a_change a_startFrame a_changeFrame a_lostAt a_blackAt a_slips a_leftArc a_died a_arcs m_bestSum m_nearest m_nearestTown a_there a_backAt a_sorted a_parts m_seed1 m_darkNow (iv_w iv_32 (zle_e rfl) (zle_e rfl))) dX11_mustName_k3.2.2.2.1 mw519 mw520 mw521 mw5 mw522 rfl 11 rfl rfl 0 _ rfl yk_yX11_bad_2 rfl (Nat.le_of_ble_eq_true rfl) (Nat.le_of_ble_eq_true rfl) (Nat.le_of_ble_eq_true rfl) (Nat.le_of_ble_eq_true rfl) (Nat.le_of_ble_eq_true rfl) rfl rfl (vnd_e rfl) rfl (vnd_e rfl) (dsj_e rfl) ?_
      rintro w ⟨m_failed2_36, m_fault2_37, m_place2_38, iv_40, hq_41, rfl⟩
      refine k_ws [(cAI g a_letters 8 d_letters), (cO11_i1r1i10r1i2r5i2r12i3r4i2 h0 m_thrown a_tape m_taped m_size m_at m_end m_token m_whole m_nameSize m_fault2_37 m_place2_38 m_trouble a_letters m_failed2_36 m_hasHouse a_r a_fresh a_st a_undone a_kept m_undos m_images a_from a_begin a_motor a_change a_startFrame a_changeFrame a_lostAt a_blackAt a_slips a_leftArc a_died a_arcs m_bestSum m_nearest m_nearestTown a_there a_backAt a_sorted a_parts m_seed1 m_darkNow)] rfl ?_
      exact k_vret X hr dX11_mustName_k3.2.2.2.2 (Nat.le_of_ble_eq_true rfl) (Nat.le_of_ble_eq_true rfl) [1, 0] (vnd_e rfl) rfl rfl ⟨m_failed2_36, m_fault2_37, m_place2_38, (iv_w iv_40 (zle_e rfl) (zle_e rfl)), ⟨r_2, hq_4, (Or.inr ⟨h_6, ⟨r_23, hq_25, (Or.inl ⟨h_27, ⟨m_failed2_36, m_fault2_37, m_place2_38, hq_41, ⟨rfl, rfl, rfl⟩⟩⟩)⟩⟩)⟩, (Or.inl (iv_eq iv_40 iq_1_1_1)), rfl⟩
    · skip
      have iv_42 : IV r_23 0 0 := iv_meet iv_24 (iv_e h_27 iq_0_0_0) (zle_o rfl) (zle_o rfl)
      refine k_aload_n X dX11_mustName_k0.2.1.1.1 0 rfl ?_
      refine k_ldcS (tx := "town") X dX11_mustName_k0.2.1.1.2 (by decide +kernel) (fun sr_43 hsr_43 => ?_)
      refine k_callVI (n := 1) (As := [.ref sr_43]) (st := []) X [(cO11_i1r1i10r1i2r5i2r12i3r4i2 h0 m_thrown a_tape m_taped m_size m_at m_end m_token m_whole m_nameSize m_fault m_place m_trouble a_letters m_failed m_hasHouse a_r a_fresh a_st a_undone a_kept m_undos m_images a_from a_begin a_motor a_change a_startFrame a_changeFrame a_lostAt a_blackAt a_slips a_leftArc a_died a_arcs m_bestSum m_nearest m_nearestTown a_there a_backAt a_sorted a_parts m_seed1 m_darkNow), (cAI g a_letters 8 d_letters)] [] [0, 1] [] (m_isWordX l g h0 sr_43 m_thrown a_tape m_taped m_size m_at m_end m_token m_whole m_nameSize m_fault m_place m_trouble a_letters m_failed m_hasHouse a_r a_fresh a_st a_undone a_kept m_undos m_images a_from a_begin a_motor a_change a_startFrame a_changeFrame a_lostAt a_blackAt a_slips a_leftArc a_died a_arcs m_bestSum m_nearest m_nearestTown a_there a_backAt a_sorted a_parts m_seed1 m_darkNow d_letters ("town") (iv_w hv_m_nameSize (zle_e rfl) (zle_e rfl)) (iv_w hv_m_failed (zle_e rfl) (zle_e rfl)) hsr_43 hc_0) dX11_mustName_k0.2.1.2.1 mw509 mw510 mw511 mw5 mw512 rfl 11 rfl rfl 0 _ rfl yk_yX11_isWord_1 rfl (Nat.le_of_ble_eq_true rfl) (Nat.le_of_ble_eq_true rfl) (Nat.le_of_ble_eq_true rfl) (Nat.le_of_ble_eq_true rfl) (Nat.le_of_ble_eq_true rfl) rfl rfl (vnd_e rfl) rfl (vnd_e rfl) (dsj_e rfl) ?_
      rintro r_44 w ⟨iv_45, hq_46, hk_47, rfl⟩
      refine k_ws [(cO11_i1r1i10r1i2r5i2r12i3r4i2 h0 m_thrown a_tape m_taped m_size m_at m_end m_token m_whole m_nameSize m_fault m_place m_trouble a_letters m_failed m_hasHouse a_r a_fresh a_st a_undone a_kept m_undos m_images a_from a_begin a_motor a_change a_startFrame a_changeFrame a_lostAt a_blackAt a_slips a_leftArc a_died a_arcs m_bestSum m_nearest m_nearestTown a_there a_backAt a_sorted a_parts m_seed1 m_darkNow), (cAI g a_letters 8 d_letters)] rfl ?_
      refine k_if_ne 108 X dX11_mustName_k0.2.1.2.2 (jp_e rfl) (fun h_48 => ?_) (fun h_48 => ?_)
      · skip
        have hc_49 := hk_47.resolve_left h_48
        have iv_50 : IV m_token 2 2 := iv_meet (iv_any m_token) hc_49.1 (zle_o rfl) (zle_o rfl)
        have hc_51 := hc_0 (iv_eq iv_50 iq_2_2_2)
        have iv_52 : IV m_nameSize 0 8 := iv_meet hv_m_nameSize hc_51 (zle_o rfl) (zle_o rfl)
        have iv_53 : IV m_failed 0 0 := iv_meet hv_m_failed hc_49.2 (zle_o rfl) (zle_o rfl)
        have iv_54 : IV r_44 1 1 := iv_neL h_48 iv_45 iq_0_0_0 (zle_e rfl)
        refine k_iconst (v := 1) X dX11_mustName_k3.1.1.1.1 ic_1 ?_
        refine k_goto 113 X dX11_mustName_k3.1.1.1.2 (jp_e rfl) ?_
        refine k_istore_n [(1, .int 1), (0, .ref h0)] X dX11_mustName_k3.1.1.2.2 (nlt_e rfl) rfl ?_
        refine k_aload_n X dX11_mustName_k3.1.2.1.1 1 rfl ?_
        refine k_get (ci := 11) X inlX11 rfl 6 (nlt_e rfl) dX11_mustName_k3.1.2.1.2 mw472 0 rfl rfl ?_
        refine k_iconst (v := 2) X dX11_mustName_k3.1.2.2.1 ic_2 ?_
        refine k_ic_ne 126 X dX11_mustName_k3.1.2.2.2 (jp_e rfl) (fun h_55 => absurd (iv_eq iv_50 iq_2_2_2) h_55) (fun h_55 => ?_)
        refine k_iload_n X dX11_mustName_k3.2.1.1.1 0 rfl ?_
        refine k_if_eq 135 X dX11_mustName_k3.2.1.1.2 (jp_e rfl) (fun h_56 => absurd h_56 (by decide)) (fun _ => ?_)
        refine k_aload_n X dX11_mustName_k3.2.1.2.1 1 rfl ?_
        refine k_iconst (v := 1) X dX11_mustName_k3.2.1.2.2 ic_1 ?_
        refine k_aload_n X dX11_mustName_k3.2.2.1.1 1 rfl ?_
        refine k_get (ci := 11) X inlX11 rfl 4 (nlt_e rfl) dX11_mustName_k3.2.2.1.2 mw473 0 rfl rfl ?_
        refine k_callVV (n := 2) (As := [.int 1, .int m_at]) (st := []) X [(cO11_i1r1i10r1i2r5i2r12i3r4i2 h0 m_thrown a_tape m_taped m_size m_at m_end m_token m_whole m_nameSize m_fault m_place m_trouble a_letters m_failed m_hasHouse a_r a_fresh a_st a_undone a_kept m_undos m_images a_from a_begin a_motor a_change a_startFrame a_changeFrame a_lostAt a_blackAt a_slips a_leftArc a_died a_arcs m_bestSum m_nearest m_nearestTown a_there a_backAt a_sorted a_parts m_seed1 m_darkNow)] [(cAI g a_letters 8 d_letters)] [0] [1] (m_badX l g h0 1 m_at m_thrown a_tape m_taped m_size m_at m_end m_token m_whole m_nameSize m_fault m_place m_trouble a_letters m_failed m_hasHouse a_r a_fresh a_st a_undone a_kept m_undos m_images a_from a_begin a_motor a_change a_startFrame a_changeFrame a_lostAt a_blackAt a_slips a_leftArc a_died a_arcs m_bestSum m_nearest m_nearestTown a_there a_backAt a_sorted a_parts m_seed1 m_darkNow (iv_w iv_53 (zle_e rfl) (zle_e rfl))) dX11_mustName_k3.2.2.2.1 mw519 mw520 mw521 mw5 mw522 rfl 11 rfl rfl 0 _ rfl yk_yX11_bad_2 rfl (Nat.le_of_ble_eq_true rfl) (Nat.le_of_ble_eq_true rfl) (Nat.le_of_ble_eq_true rfl) (Nat.le_of_ble_eq_true rfl) (Nat.le_of_ble_eq_true rfl) rfl rfl (vnd_e rfl) rfl (vnd_e rfl) (dsj_e rfl) ?_
        rintro w ⟨m_failed2_57, m_fault2_58, m_place2_59, iv_61, hq_62, rfl⟩
        refine k_ws [(cAI g a_letters 8 d_letters), (cO11_i1r1i10r1i2r5i2r12i3r4i2 h0 m_thrown a_tape m_taped m_size m_at m_end m_token m_whole m_nameSize m_fault2_58 m_place2_59 m_trouble a_letters m_failed2_57 m_hasHouse a_r a_fresh a_st a_undone a_kept m_undos m_images a_from a_begin a_motor a_change a_startFrame a_changeFrame a_lostAt a_blackAt a_slips a_leftArc a_died a_arcs m_bestSum m_nearest m_nearestTown a_there a_backAt a_sorted a_parts m_seed1 m_darkNow)] rfl ?_
        exact k_vret X hr dX11_mustName_k3.2.2.2.2 (Nat.le_of_ble_eq_true rfl) (Nat.le_of_ble_eq_true rfl) [1, 0] (vnd_e rfl) rfl rfl ⟨m_failed2_57, m_fault2_58, m_place2_59, (iv_w iv_61 (zle_e rfl) (zle_e rfl)), ⟨r_2, hq_4, (Or.inr ⟨h_6, ⟨r_23, hq_25, (Or.inr ⟨h_27, ⟨r_44, hq_46, (Or.inl ⟨h_48, ⟨m_failed2_57, m_fault2_58, m_place2_59, hq_62, ⟨rfl, rfl, rfl⟩⟩⟩)⟩⟩)⟩⟩)⟩, (Or.inl (iv_eq iv_61 iq_1_1_1)), rfl⟩
      · skip
        have iv_63 : IV r_44 0 0 := iv_meet iv_45 (iv_e h_48 iq_0_0_0) (zle_o rfl) (zle_o rfl)
        refine k_aload_n X dX11_mustName_k0.2.2.1.1 0 rfl ?_
        refine k_ldcS (tx := "mark") X dX11_mustName_k0.2.2.1.2 (by decide +kernel) (fun sr_64 hsr_64 => ?_)
        refine k_callVI (n := 1) (As := [.ref sr_64]) (st := []) X [(cO11_i1r1i10r1i2r5i2r12i3r4i2 h0 m_thrown a_tape m_taped m_size m_at m_end m_token m_whole m_nameSize m_fault m_place m_trouble a_letters m_failed m_hasHouse a_r a_fresh a_st a_undone a_kept m_undos m_images a_from a_begin a_motor a_change a_startFrame a_changeFrame a_lostAt a_blackAt a_slips a_leftArc a_died a_arcs m_bestSum m_nearest m_nearestTown a_there a_backAt a_sorted a_parts m_seed1 m_darkNow), (cAI g a_letters 8 d_letters)] [] [0, 1] [] (m_isWordX l g h0 sr_64 m_thrown a_tape m_taped m_size m_at m_end m_token m_whole m_nameSize m_fault m_place m_trouble a_letters m_failed m_hasHouse a_r a_fresh a_st a_undone a_kept m_undos m_images a_from a_begin a_motor a_change a_startFrame a_changeFrame a_lostAt a_blackAt a_slips a_leftArc a_died a_arcs m_bestSum m_nearest m_nearestTown a_there a_backAt a_sorted a_parts m_seed1 m_darkNow d_letters ("mark") (iv_w hv_m_nameSize (zle_e rfl) (zle_e rfl)) (iv_w hv_m_failed (zle_e rfl) (zle_e rfl)) hsr_64 hc_0) dX11_mustName_k0.2.2.2.1 mw509 mw510 mw511 mw5 mw512 rfl 11 rfl rfl 0 _ rfl yk_yX11_isWord_1 rfl (Nat.le_of_ble_eq_true rfl) (Nat.le_of_ble_eq_true rfl) (Nat.le_of_ble_eq_true rfl) (Nat.le_of_ble_eq_true rfl) (Nat.le_of_ble_eq_true rfl) rfl rfl (vnd_e rfl) rfl (vnd_e rfl) (dsj_e rfl) ?_
        rintro r_65 w ⟨iv_66, hq_67, hk_68, rfl⟩
        refine k_ws [(cO11_i1r1i10r1i2r5i2r12i3r4i2 h0 m_thrown a_tape m_taped m_size m_at m_end m_token m_whole m_nameSize m_fault m_place m_trouble a_letters m_failed m_hasHouse a_r a_fresh a_st a_undone a_kept m_undos m_images a_from a_begin a_motor a_change a_startFrame a_changeFrame a_lostAt a_blackAt a_slips a_leftArc a_died a_arcs m_bestSum m_nearest m_nearestTown a_there a_backAt a_sorted a_parts m_seed1 m_darkNow), (cAI g a_letters 8 d_letters)] rfl ?_
        refine k_if_ne 108 X dX11_mustName_k0.2.2.2.2 (jp_e rfl) (fun h_69 => ?_) (fun h_69 => ?_)
        · skip
          have hc_70 := hk_68.resolve_left h_69
          have iv_71 : IV m_token 2 2 := iv_meet (iv_any m_token) hc_70.1 (zle_o rfl) (zle_o rfl)
          have hc_72 := hc_0 (iv_eq iv_71 iq_2_2_2)
          have iv_73 : IV m_nameSize 0 8 := iv_meet hv_m_nameSize hc_72 (zle_o rfl) (zle_o rfl)
          have iv_74 : IV m_failed 0 0 := iv_meet hv_m_failed hc_70.2 (zle_o rfl) (zle_o rfl)
          have iv_75 : IV r_65 1 1 := iv_neL h_69 iv_66 iq_0_0_0 (zle_e rfl)
          refine k_iconst (v := 1) X dX11_mustName_k3.1.1.1.1 ic_1 ?_
          refine k_goto 113 X dX11_mustName_k3.1.1.1.2 (jp_e rfl) ?_
          refine k_istore_n [(1, .int 1), (0, .ref h0)] X dX11_mustName_k3.1.1.2.2 (nlt_e rfl) rfl ?_
          refine k_aload_n X dX11_mustName_k3.1.2.1.1 1 rfl ?_
          refine k_get (ci := 11) X inlX11 rfl 6 (nlt_e rfl) dX11_mustName_k3.1.2.1.2 mw472 0 rfl rfl ?_
          refine k_iconst (v := 2) X dX11_mustName_k3.1.2.2.1 ic_2 ?_
          refine k_ic_ne 126 X dX11_mustName_k3.1.2.2.2 (jp_e rfl) (fun h_76 => absurd (iv_eq iv_71 iq_2_2_2) h_76) (fun h_76 => ?_)
          refine k_iload_n X dX11_mustName_k3.2.1.1.1 0 rfl ?_
          refine k_if_eq 135 X dX11_mustName_k3.2.1.1.2 (jp_e rfl) (fun h_77 => absurd h_77 (by decide)) (fun _ => ?_)
          refine k_aload_n X dX11_mustName_k3.2.1.2.1 1 rfl ?_
          refine k_iconst (v := 1) X dX11_mustName_k3.2.1.2.2 ic_1 ?_
          refine k_aload_n X dX11_mustName_k3.2.2.1.1 1 rfl ?_
          refine k_get (ci := 11) X inlX11 rfl 4 (nlt_e rfl) dX11_mustName_k3.2.2.1.2 mw473 0 rfl rfl ?_
          refine k_callVV (n := 2) (As := [.int 1, .int m_at]) (st := []) X [(cO11_i1r1i10r1i2r5i2r12i3r4i2 h0 m_thrown a_tape m_taped m_size m_at m_end m_token m_whole m_nameSize m_fault m_place m_trouble a_letters m_failed m_hasHouse a_r a_fresh a_st a_undone a_kept m_undos m_images a_from a_begin a_motor a_change a_startFrame a_changeFrame a_lostAt a_blackAt a_slips a_leftArc a_died a_arcs m_bestSum m_nearest m_nearestTown a_there a_backAt a_sorted a_parts m_seed1 m_darkNow)] [(cAI g a_letters 8 d_letters)] [0] [1] (m_badX l g h0 1 m_at m_thrown a_tape m_taped m_size m_at m_end m_token m_whole m_nameSize m_fault m_place m_trouble a_letters m_failed m_hasHouse a_r a_fresh a_st a_undone a_kept m_undos m_images a_from a_begin a_motor a_change a_startFrame a_changeFrame a_lostAt a_blackAt a_slips a_leftArc a_died a_arcs m_bestSum m_nearest m_nearestTown a_there a_backAt a_sorted a_parts m_seed1 m_darkNow (iv_w iv_74 (zle_e rfl) (zle_e rfl))) dX11_mustName_k3.2.2.2.1 mw519 mw520 mw521 mw5 mw522 rfl 11 rfl rfl 0 _ rfl yk_yX11_bad_2 rfl (Nat.le_of_ble_eq_true rfl) (Nat.le_of_ble_eq_true rfl) (Nat.le_of_ble_eq_true rfl) (Nat.le_of_ble_eq_true rfl) (Nat.le_of_ble_eq_true rfl) rfl rfl (vnd_e rfl) rfl (vnd_e rfl) (dsj_e rfl) ?_
          rintro w ⟨m_failed2_78, m_fault2_79, m_place2_80, iv_82, hq_83, rfl⟩
          refine k_ws [(cAI g a_letters 8 d_letters), (cO11_i1r1i10r1i2r5i2r12i3r4i2 h0 m_thrown a_tape m_taped m_size m_at m_end m_token m_whole m_nameSize m_fault2_79 m_place2_80 m_trouble a_letters m_failed2_78 m_hasHouse a_r a_fresh a_st a_undone a_kept m_undos m_images a_from a_begin a_motor a_change a_startFrame a_changeFrame a_lostAt a_blackAt a_slips a_leftArc a_died a_arcs m_bestSum m_nearest m_nearestTown a_there a_backAt a_sorted a_parts m_seed1 m_darkNow)] rfl ?_
          exact k_vret X hr dX11_mustName_k3.2.2.2.2 (Nat.le_of_ble_eq_true rfl) (Nat.le_of_ble_eq_true rfl) [1, 0] (vnd_e rfl) rfl rfl ⟨m_failed2_78, m_fault2_79, m_place2_80, (iv_w iv_82 (zle_e rfl) (zle_e rfl)), ⟨r_2, hq_4, (Or.inr ⟨h_6, ⟨r_23, hq_25, (Or.inr ⟨h_27, ⟨r_44, hq_46, (Or.inr ⟨h_48, ⟨r_65, hq_67, (Or.inl ⟨h_69, ⟨m_failed2_78, m_fault2_79, m_place2_80, hq_83, ⟨rfl, rfl, rfl⟩⟩⟩)⟩⟩)⟩⟩)⟩⟩)⟩, (Or.inl (iv_eq iv_82 iq_1_1_1)), rfl⟩
        · skip
          have iv_84 : IV r_65 0 0 := iv_meet iv_66 (iv_e h_69 iq_0_0_0) (zle_o rfl) (zle_o rfl)
          refine k_aload_n X dX11_mustName_k1.1.1.1.1 0 rfl ?_
          refine k_ldcS (tx := "join") X dX11_mustName_k1.1.1.1.2 (by decide +kernel) (fun sr_85 hsr_85 => ?_)
          refine k_callVI (n := 1) (As := [.ref sr_85]) (st := []) X [(cO11_i1r1i10r1i2r5i2r12i3r4i2 h0 m_thrown a_tape m_taped m_size m_at m_end m_token m_whole m_nameSize m_fault m_place m_trouble a_letters m_failed m_hasHouse a_r a_fresh a_st a_undone a_kept m_undos m_images a_from a_begin a_motor a_change a_startFrame a_changeFrame a_lostAt a_blackAt a_slips a_leftArc a_died a_arcs m_bestSum m_nearest m_nearestTown a_there a_backAt a_sorted a_parts m_seed1 m_darkNow), (cAI g a_letters 8 d_letters)] [] [0, 1] [] (m_isWordX l g h0 sr_85 m_thrown a_tape m_taped m_size m_at m_end m_token m_whole m_nameSize m_fault m_place m_trouble a_letters m_failed m_hasHouse a_r a_fresh a_st a_undone a_kept m_undos m_images a_from a_begin a_motor a_change a_startFrame a_changeFrame a_lostAt a_blackAt a_slips a_leftArc a_died a_arcs m_bestSum m_nearest m_nearestTown a_there a_backAt a_sorted a_parts m_seed1 m_darkNow d_letters ("join") (iv_w hv_m_nameSize (zle_e rfl) (zle_e rfl)) (iv_w hv_m_failed (zle_e rfl) (zle_e rfl)) hsr_85 hc_0) dX11_mustName_k1.1.1.2.1 mw509 mw510 mw511 mw5 mw512 rfl 11 rfl rfl 0 _ rfl yk_yX11_isWord_1 rfl (Nat.le_of_ble_eq_true rfl) (Nat.le_of_ble_eq_true rfl) (Nat.le_of_ble_eq_true rfl) (Nat.le_of_ble_eq_true rfl) (Nat.le_of_ble_eq_true rfl) rfl rfl (vnd_e rfl) rfl (vnd_e rfl) (dsj_e rfl) ?_
          rintro r_86 w ⟨iv_87, hq_88, hk_89, rfl⟩
          refine k_ws [(cO11_i1r1i10r1i2r5i2r12i3r4i2 h0 m_thrown a_tape m_taped m_size m_at m_end m_token m_whole m_nameSize m_fault m_place m_trouble a_letters m_failed m_hasHouse a_r a_fresh a_st a_undone a_kept m_undos m_images a_from a_begin a_motor a_change a_startFrame a_changeFrame a_lostAt a_blackAt a_slips a_leftArc a_died a_arcs m_bestSum m_nearest m_nearestTown a_there a_backAt a_sorted a_parts m_seed1 m_darkNow), (cAI g a_letters 8 d_letters)] rfl ?_
          refine k_if_ne 108 X dX11_mustName_k1.1.1.2.2 (jp_e rfl) (fun h_90 => ?_) (fun h_90 => ?_)
          · skip
            have hc_91 := hk_89.resolve_left h_90
            have iv_92 : IV m_token 2 2 := iv_meet (iv_any m_token) hc_91.1 (zle_o rfl) (zle_o rfl)
            have hc_93 := hc_0 (iv_eq iv_92 iq_2_2_2)
            have iv_94 : IV m_nameSize 0 8 := iv_meet hv_m_nameSize hc_93 (zle_o rfl) (zle_o rfl)
            have iv_95 : IV m_failed 0 0 := iv_meet hv_m_failed hc_91.2 (zle_o rfl) (zle_o rfl)
            have iv_96 : IV r_86 1 1 := iv_neL h_90 iv_87 iq_0_0_0 (zle_e rfl)
            refine k_iconst (v := 1) X dX11_mustName_k3.1.1.1.1 ic_1 ?_
            refine k_goto 113 X dX11_mustName_k3.1.1.1.2 (jp_e rfl) ?_
            refine k_istore_n [(1, .int 1), (0, .ref h0)] X dX11_mustName_k3.1.1.2.2 (nlt_e rfl) rfl ?_
            refine k_aload_n X dX11_mustName_k3.1.2.1.1 1 rfl ?_
            refine k_get (ci := 11) X inlX11 rfl 6 (nlt_e rfl) dX11_mustName_k3.1.2.1.2 mw472 0 rfl rfl ?_
            refine k_iconst (v := 2) X dX11_mustName_k3.1.2.2.1 ic_2 ?_
            refine k_ic_ne 126 X dX11_mustName_k3.1.2.2.2 (jp_e rfl) (fun h_97 => absurd (iv_eq iv_92 iq_2_2_2) h_97) (fun h_97 => ?_)
            refine k_iload_n X dX11_mustName_k3.2.1.1.1 0 rfl ?_
            refine k_if_eq 135 X dX11_mustName_k3.2.1.1.2 (jp_e rfl) (fun h_98 => absurd h_98 (by decide)) (fun _ => ?_)
            refine k_aload_n X dX11_mustName_k3.2.1.2.1 1 rfl ?_
            refine k_iconst (v := 1) X dX11_mustName_k3.2.1.2.2 ic_1 ?_
            refine k_aload_n X dX11_mustName_k3.2.2.1.1 1 rfl ?_
            refine k_get (ci := 11) X inlX11 rfl 4 (nlt_e rfl) dX11_mustName_k3.2.2.1.2 mw473 0 rfl rfl ?_
            refine k_callVV (n := 2) (As := [.int 1, .int m_at]) (st := []) X [(cO11_i1r1i10r1i2r5i2r12i3r4i2 h0 m_thrown a_tape m_taped m_size m_at m_end m_token m_whole m_nameSize m_fault m_place m_trouble a_letters m_failed m_hasHouse a_r a_fresh a_st a_undone a_kept m_undos m_images a_from a_begin a_motor a_change a_startFrame a_changeFrame a_lostAt a_blackAt a_slips a_leftArc a_died a_arcs m_bestSum m_nearest m_nearestTown a_there a_backAt a_sorted a_parts m_seed1 m_darkNow)] [(cAI g a_letters 8 d_letters)] [0] [1] (m_badX l g h0 1 m_at m_thrown a_tape m_taped m_size m_at m_end m_token m_whole m_nameSize m_fault m_place m_trouble a_letters m_failed m_hasHouse a_r a_fresh a_st a_undone a_kept m_undos m_images a_from a_begin a_motor a_change a_startFrame a_changeFrame a_lostAt a_blackAt a_slips a_leftArc a_died a_arcs m_bestSum m_nearest m_nearestTown a_there a_backAt a_sorted a_parts m_seed1 m_darkNow (iv_w iv_95 (zle_e rfl) (zle_e rfl))) dX11_mustName_k3.2.2.2.1 mw519 mw520 mw521 mw5 mw522 rfl 11 rfl rfl 0 _ rfl yk_yX11_bad_2 rfl (Nat.le_of_ble_eq_true rfl) (Nat.le_of_ble_eq_true rfl) (Nat.le_of_ble_eq_true rfl) (Nat.le_of_ble_eq_true rfl) (Nat.le_of_ble_eq_true rfl) rfl rfl (vnd_e rfl) rfl (vnd_e rfl) (dsj_e rfl) ?_
            rintro w ⟨m_failed2_99, m_fault2_100, m_place2_101, iv_103, hq_104, rfl⟩
            refine k_ws [(cAI g a_letters 8 d_letters), (cO11_i1r1i10r1i2r5i2r12i3r4i2 h0 m_thrown a_tape m_taped m_size m_at m_end m_token m_whole m_nameSize m_fault2_100 m_place2_101 m_trouble a_letters m_failed2_99 m_hasHouse a_r a_fresh a_st a_undone a_kept m_undos m_images a_from a_begin a_motor a_change a_startFrame a_changeFrame a_lostAt a_blackAt a_slips a_leftArc a_died a_arcs m_bestSum m_nearest m_nearestTown a_there a_backAt a_sorted a_parts m_seed1 m_darkNow)] rfl ?_
            exact k_vret X hr dX11_mustName_k3.2.2.2.2 (Nat.le_of_ble_eq_true rfl) (Nat.le_of_ble_eq_true rfl) [1, 0] (vnd_e rfl) rfl rfl ⟨m_failed2_99, m_fault2_100, m_place2_101, (iv_w iv_103 (zle_e rfl) (zle_e rfl)), ⟨r_2, hq_4, (Or.inr ⟨h_6, ⟨r_23, hq_25, (Or.inr ⟨h_27, ⟨r_44, hq_46, (Or.inr ⟨h_48, ⟨r_65, hq_67, (Or.inr ⟨h_69, ⟨r_86, hq_88, (Or.inl ⟨h_90, ⟨m_failed2_99, m_fault2_100, m_place2_101, hq_104, ⟨rfl, rfl, rfl⟩⟩⟩)⟩⟩)⟩⟩)⟩⟩)⟩⟩)⟩, (Or.inl (iv_eq iv_103 iq_1_1_1)), rfl⟩
          · skip
            have iv_105 : IV r_86 0 0 := iv_meet iv_87 (iv_e h_90 iq_0_0_0) (zle_o rfl) (zle_o rfl)
            refine k_aload_n X dX11_mustName_k1.1.2.1.1 0 rfl ?_
            refine k_ldcS (tx := "weak") X dX11_mustName_k1.1.2.1.2 (by decide +kernel) (fun sr_106 hsr_106 => ?_)
            refine k_callVI (n := 1) (As := [.ref sr_106]) (st := []) X [(cO11_i1r1i10r1i2r5i2r12i3r4i2 h0 m_thrown a_tape m_taped m_size m_at m_end m_token m_whole m_nameSize m_fault m_place m_trouble a_letters m_failed m_hasHouse a_r a_fresh a_st a_undone a_kept m_undos m_images a_from a_begin a_motor a_change a_startFrame a_changeFrame a_lostAt a_blackAt a_slips a_leftArc a_died a_arcs m_bestSum m_nearest m_nearestTown a_there a_backAt a_sorted a_parts m_seed1 m_darkNow), (cAI g a_letters 8 d_letters)] [] [0, 1] [] (m_isWordX l g h0 sr_106 m_thrown a_tape m_taped m_size m_at m_end m_token m_whole m_nameSize m_fault m_place m_trouble a_letters m_failed m_hasHouse a_r a_fresh a_st a_undone a_kept m_undos m_images a_from a_begin a_motor a_change a_startFrame a_changeFrame a_lostAt a_blackAt a_slips a_leftArc a_died a_arcs m_bestSum m_nearest m_nearestTown a_there a_backAt a_sorted a_parts m_seed1 m_darkNow d_letters ("weak") (iv_w hv_m_nameSize (zle_e rfl) (zle_e rfl)) (iv_w hv_m_failed (zle_e rfl) (zle_e rfl)) hsr_106 hc_0) dX11_mustName_k1.1.2.2.1 mw509 mw510 mw511 mw5 mw512 rfl 11 rfl rfl 0 _ rfl yk_yX11_isWord_1 rfl (Nat.le_of_ble_eq_true rfl) (Nat.le_of_ble_eq_true rfl) (Nat.le_of_ble_eq_true rfl) (Nat.le_of_ble_eq_true rfl) (Nat.le_of_ble_eq_true rfl) rfl rfl (vnd_e rfl) rfl (vnd_e rfl) (dsj_e rfl) ?_
            rintro r_107 w ⟨iv_108, hq_109, hk_110, rfl⟩
            refine k_ws [(cO11_i1r1i10r1i2r5i2r12i3r4i2 h0 m_thrown a_tape m_taped m_size m_at m_end m_token m_whole m_nameSize m_fault m_place m_trouble a_letters m_failed m_hasHouse a_r a_fresh a_st a_undone a_kept m_undos m_images a_from a_begin a_motor a_change a_startFrame a_changeFrame a_lostAt a_blackAt a_slips a_leftArc a_died a_arcs m_bestSum m_nearest m_nearestTown a_there a_backAt a_sorted a_parts m_seed1 m_darkNow), (cAI g a_letters 8 d_letters)] rfl ?_
            refine k_if_ne 108 X dX11_mustName_k1.1.2.2.2 (jp_e rfl) (fun h_111 => ?_) (fun h_111 => ?_)
            · skip
              have hc_112 := hk_110.resolve_left h_111
              have iv_113 : IV m_token 2 2 := iv_meet (iv_any m_token) hc_112.1 (zle_o rfl) (zle_o rfl)
              have hc_114 := hc_0 (iv_eq iv_113 iq_2_2_2)
              have iv_115 : IV m_nameSize 0 8 := iv_meet hv_m_nameSize hc_114 (zle_o rfl) (zle_o rfl)
              have iv_116 : IV m_failed 0 0 := iv_meet hv_m_failed hc_112.2 (zle_o rfl) (zle_o rfl)
              have iv_117 : IV r_107 1 1 := iv_neL h_111 iv_108 iq_0_0_0 (zle_e rfl)
              refine k_iconst (v := 1) X dX11_mustName_k3.1.1.1.1 ic_1 ?_
              refine k_goto 113 X dX11_mustName_k3.1.1.1.2 (jp_e rfl) ?_
              refine k_istore_n [(1, .int 1), (0, .ref h0)] X dX11_mustName_k3.1.1.2.2 (nlt_e rfl) rfl ?_
              refine k_aload_n X dX11_mustName_k3.1.2.1.1 1 rfl ?_
              refine k_get (ci := 11) X inlX11 rfl 6 (nlt_e rfl) dX11_mustName_k3.1.2.1.2 mw472 0 rfl rfl ?_
              refine k_iconst (v := 2) X dX11_mustName_k3.1.2.2.1 ic_2 ?_
              refine k_ic_ne 126 X dX11_mustName_k3.1.2.2.2 (jp_e rfl) (fun h_118 => absurd (iv_eq iv_113 iq_2_2_2) h_118) (fun h_118 => ?_)
              refine k_iload_n X dX11_mustName_k3.2.1.1.1 0 rfl ?_
              refine k_if_eq 135 X dX11_mustName_k3.2.1.1.2 (jp_e rfl) (fun h_119 => absurd h_119 (by decide)) (fun _ => ?_)
              refine k_aload_n X dX11_mustName_k3.2.1.2.1 1 rfl ?_
              refine k_iconst (v := 1) X dX11_mustName_k3.2.1.2.2 ic_1 ?_
              refine k_aload_n X dX11_mustName_k3.2.2.1.1 1 rfl ?_
              refine k_get (ci := 11) X inlX11 rfl 4 (nlt_e rfl) dX11_mustName_k3.2.2.1.2 mw473 0 rfl rfl ?_
              refine k_callVV (n := 2) (As := [.int 1, .int m_at]) (st := []) X [(cO11_i1r1i10r1i2r5i2r12i3r4i2 h0 m_thrown a_tape m_taped m_size m_at m_end m_token m_whole m_nameSize m_fault m_place m_trouble a_letters m_failed m_hasHouse a_r a_fresh a_st a_undone a_kept m_undos m_images a_from a_begin a_motor a_change a_startFrame a_changeFrame a_lostAt a_blackAt a_slips a_leftArc a_died a_arcs m_bestSum m_nearest m_nearestTown a_there a_backAt a_sorted a_parts m_seed1 m_darkNow)] [(cAI g a_letters 8 d_letters)] [0] [1] (m_badX l g h0 1 m_at m_thrown a_tape m_taped m_size m_at m_end m_token m_whole m_nameSize m_fault m_place m_trouble a_letters m_failed m_hasHouse a_r a_fresh a_st a_undone a_kept m_undos m_images a_from a_begin a_motor a_change a_startFrame a_changeFrame a_lostAt a_blackAt a_slips a_leftArc a_died a_arcs m_bestSum m_nearest m_nearestTown a_there a_backAt a_sorted a_parts m_seed1 m_darkNow (iv_w iv_116 (zle_e rfl) (zle_e rfl))) dX11_mustName_k3.2.2.2.1 mw519 mw520 mw521 mw5 mw522 rfl 11 rfl rfl 0 _ rfl yk_yX11_bad_2 rfl (Nat.le_of_ble_eq_true rfl) (Nat.le_of_ble_eq_true rfl) (Nat.le_of_ble_eq_true rfl) (Nat.le_of_ble_eq_true rfl) (Nat.le_of_ble_eq_true rfl) rfl rfl (vnd_e rfl) rfl (vnd_e rfl) (dsj_e rfl) ?_
              rintro w ⟨m_failed2_120, m_fault2_121, m_place2_122, iv_124, hq_125, rfl⟩
              refine k_ws [(cAI g a_letters 8 d_letters), (cO11_i1r1i10r1i2r5i2r12i3r4i2 h0 m_thrown a_tape m_taped m_size m_at m_end m_token m_whole m_nameSize m_fault2_121 m_place2_122 m_trouble a_letters m_failed2_120 m_hasHouse a_r a_fresh a_st a_undone a_kept m_undos m_images a_from a_begin a_motor a_change a_startFrame a_changeFrame a_lostAt a_blackAt a_slips a_leftArc a_died a_arcs m_bestSum m_nearest m_nearestTown a_there a_backAt a_sorted a_parts m_seed1 m_darkNow)] rfl ?_
              exact k_vret X hr dX11_mustName_k3.2.2.2.2 (Nat.le_of_ble_eq_true rfl) (Nat.le_of_ble_eq_true rfl) [1, 0] (vnd_e rfl) rfl rfl ⟨m_failed2_120, m_fault2_121, m_place2_122, (iv_w iv_124 (zle_e rfl) (zle_e rfl)), ⟨r_2, hq_4, (Or.inr ⟨h_6, ⟨r_23, hq_25, (Or.inr ⟨h_27, ⟨r_44, hq_46, (Or.inr ⟨h_48, ⟨r_65, hq_67, (Or.inr ⟨h_69, ⟨r_86, hq_88, (Or.inr ⟨h_90, ⟨r_107, hq_109, (Or.inl ⟨h_111, ⟨m_failed2_120, m_fault2_121, m_place2_122, hq_125, ⟨rfl, rfl, rfl⟩⟩⟩)⟩⟩)⟩⟩)⟩⟩)⟩⟩)⟩⟩)⟩, (Or.inl (iv_eq iv_124 iq_1_1_1)), rfl⟩
            · skip
              have iv_126 : IV r_107 0 0 := iv_meet iv_108 (iv_e h_111 iq_0_0_0) (zle_o rfl) (zle_o rfl)
              refine k_aload_n X dX11_mustName_k1.2.1.1.1 0 rfl ?_
              refine k_ldcS (tx := "man") X dX11_mustName_k1.2.1.1.2 (by decide +kernel) (fun sr_127 hsr_127 => ?_)
              refine k_callVI (n := 1) (As := [.ref sr_127]) (st := []) X [(cO11_i1r1i10r1i2r5i2r12i3r4i2 h0 m_thrown a_tape m_taped m_size m_at m_end m_token m_whole m_nameSize m_fault m_place m_trouble a_letters m_failed m_hasHouse a_r a_fresh a_st a_undone a_kept m_undos m_images a_from a_begin a_motor a_change a_startFrame a_changeFrame a_lostAt a_blackAt a_slips a_leftArc a_died a_arcs m_bestSum m_nearest m_nearestTown a_there a_backAt a_sorted a_parts m_seed1 m_darkNow), (cAI g a_letters 8 d_letters)] [] [0, 1] [] (m_isWordX l g h0 sr_127 m_thrown a_tape m_taped m_size m_at m_end m_token m_whole m_nameSize m_fault m_place m_trouble a_letters m_failed m_hasHouse a_r a_fresh a_st a_undone a_kept m_undos m_images a_from a_begin a_motor a_change a_startFrame a_changeFrame a_lostAt a_blackAt a_slips a_leftArc a_died a_arcs m_bestSum m_nearest m_nearestTown a_there a_backAt a_sorted a_parts m_seed1 m_darkNow d_letters ("man") (iv_w hv_m_nameSize (zle_e rfl) (zle_e rfl)) (iv_w hv_m_failed (zle_e rfl) (zle_e rfl)) hsr_127 hc_0) dX11_mustName_k1.2.1.2.1 mw509 mw510 mw511 mw5 mw512 rfl 11 rfl rfl 0 _ rfl yk_yX11_isWord_1 rfl (Nat.le_of_ble_eq_true rfl) (Nat.le_of_ble_eq_true rfl) (Nat.le_of_ble_eq_true rfl) (Nat.le_of_ble_eq_true rfl) (Nat.le_of_ble_eq_true rfl) rfl rfl (vnd_e rfl) rfl (vnd_e rfl) (dsj_e rfl) ?_
              rintro r_128 w ⟨iv_129, hq_130, hk_131, rfl⟩
              refine k_ws [(cO11_i1r1i10r1i2r5i2r12i3r4i2 h0 m_thrown a_tape m_taped m_size m_at m_end m_token m_whole m_nameSize m_fault m_place m_trouble a_letters m_failed m_hasHouse a_r a_fresh a_st a_undone a_kept m_undos m_images a_from a_begin a_motor a_change a_startFrame a_changeFrame a_lostAt a_blackAt a_slips a_leftArc a_died a_arcs m_bestSum m_nearest m_nearestTown a_there a_backAt a_sorted a_parts m_seed1 m_darkNow), (cAI g a_letters 8 d_letters)] rfl ?_
              refine k_if_ne 108 X dX11_mustName_k1.2.1.2.2 (jp_e rfl) (fun h_132 => ?_) (fun h_132 => ?_)
              · skip
                have hc_133 := hk_131.resolve_left h_132
                have iv_134 : IV m_token 2 2 := iv_meet (iv_any m_token) hc_133.1 (zle_o rfl) (zle_o rfl)
                have hc_135 := hc_0 (iv_eq iv_134 iq_2_2_2)
                have iv_136 : IV m_nameSize 0 8 := iv_meet hv_m_nameSize hc_135 (zle_o rfl) (zle_o rfl)
                have iv_137 : IV m_failed 0 0 := iv_meet hv_m_failed hc_133.2 (zle_o rfl) (zle_o rfl)
                have iv_138 : IV r_128 1 1 := iv_neL h_132 iv_129 iq_0_0_0 (zle_e rfl)
                refine k_iconst (v := 1) X dX11_mustName_k3.1.1.1.1 ic_1 ?_
                refine k_goto 113 X dX11_mustName_k3.1.1.1.2 (jp_e rfl) ?_
                refine k_istore_n [(1, .int 1), (0, .ref h0)] X dX11_mustName_k3.1.1.2.2 (nlt_e rfl) rfl ?_
                refine k_aload_n X dX11_mustName_k3.1.2.1.1 1 rfl ?_
                refine k_get (ci := 11) X inlX11 rfl 6 (nlt_e rfl) dX11_mustName_k3.1.2.1.2 mw472 0 rfl rfl ?_
                refine k_iconst (v := 2) X dX11_mustName_k3.1.2.2.1 ic_2 ?_
                refine k_ic_ne 126 X dX11_mustName_k3.1.2.2.2 (jp_e rfl) (fun h_139 => absurd (iv_eq iv_134 iq_2_2_2) h_139) (fun h_139 => ?_)
                refine k_iload_n X dX11_mustName_k3.2.1.1.1 0 rfl ?_
                refine k_if_eq 135 X dX11_mustName_k3.2.1.1.2 (jp_e rfl) (fun h_140 => absurd h_140 (by decide)) (fun _ => ?_)
                refine k_aload_n X dX11_mustName_k3.2.1.2.1 1 rfl ?_
                refine k_iconst (v := 1) X dX11_mustName_k3.2.1.2.2 ic_1 ?_
                refine k_aload_n X dX11_mustName_k3.2.2.1.1 1 rfl ?_
                refine k_get (ci := 11) X inlX11 rfl 4 (nlt_e rfl) dX11_mustName_k3.2.2.1.2 mw473 0 rfl rfl ?_
                refine k_callVV (n := 2) (As := [.int 1, .int m_at]) (st := []) X [(cO11_i1r1i10r1i2r5i2r12i3r4i2 h0 m_thrown a_tape m_taped m_size m_at m_end m_token m_whole m_nameSize m_fault m_place m_trouble a_letters m_failed m_hasHouse a_r a_fresh a_st a_undone a_kept m_undos m_images a_from a_begin a_motor a_change a_startFrame a_changeFrame a_lostAt a_blackAt a_slips a_leftArc a_died a_arcs m_bestSum m_nearest m_nearestTown a_there a_backAt a_sorted a_parts m_seed1 m_darkNow)] [(cAI g a_letters 8 d_letters)] [0] [1] (m_badX l g h0 1 m_at m_thrown a_tape m_taped m_size m_at m_end m_token m_whole m_nameSize m_fault m_place m_trouble a_letters m_failed m_hasHouse a_r a_fresh a_st a_undone a_kept m_undos m_images a_from a_begin a_motor a_change a_startFrame a_changeFrame a_lostAt a_blackAt a_slips a_leftArc a_died a_arcs m_bestSum m_nearest m_nearestTown a_there a_backAt a_sorted a_parts m_seed1 m_darkNow (iv_w iv_137 (zle_e rfl) (zle_e rfl))) dX11_mustName_k3.2.2.2.1 mw519 mw520 mw521 mw5 mw522 rfl 11 rfl rfl 0 _ rfl yk_yX11_bad_2 rfl (Nat.le_of_ble_eq_true rfl) (Nat.le_of_ble_eq_true rfl) (Nat.le_of_ble_eq_true rfl) (Nat.le_of_ble_eq_true rfl) (Nat.le_of_ble_eq_true rfl) rfl rfl (vnd_e rfl) rfl (vnd_e rfl) (dsj_e rfl) ?_
                rintro w ⟨m_failed2_141, m_fault2_142, m_place2_143, iv_145, hq_146, rfl⟩
                refine k_ws [(cAI g a_letters 8 d_letters), (cO11_i1r1i10r1i2r5i2r12i3r4i2 h0 m_thrown a_tape m_taped m_size m_at m_end m_token m_whole m_nameSize m_fault2_142 m_place2_143 m_trouble a_letters m_failed2_141 m_hasHouse a_r a_fresh a_st a_undone a_kept m_undos m_images a_from a_begin a_motor a_change a_startFrame a_changeFrame a_lostAt a_blackAt a_slips a_leftArc a_died a_arcs m_bestSum m_nearest m_nearestTown a_there a_backAt a_sorted a_parts m_seed1 m_darkNow)] rfl ?_
                exact k_vret X hr dX11_mustName_k3.2.2.2.2 (Nat.le_of_ble_eq_true rfl) (Nat.le_of_ble_eq_true rfl) [1, 0] (vnd_e rfl) rfl rfl ⟨m_failed2_141, m_fault2_142, m_place2_143, (iv_w iv_145 (zle_e rfl) (zle_e rfl)), ⟨r_2, hq_4, (Or.inr ⟨h_6, ⟨r_23, hq_25, (Or.inr ⟨h_27, ⟨r_44, hq_46, (Or.inr ⟨h_48, ⟨r_65, hq_67, (Or.inr ⟨h_69, ⟨r_86, hq_88, (Or.inr ⟨h_90, ⟨r_107, hq_109, (Or.inr ⟨h_111, ⟨r_128, hq_130, (Or.inl ⟨h_132, ⟨m_failed2_141, m_fault2_142, m_place2_143, hq_146, ⟨rfl, rfl, rfl⟩⟩⟩)⟩⟩)⟩⟩)⟩⟩)⟩⟩)⟩⟩)⟩⟩)⟩, (Or.inl (iv_eq iv_145 iq_1_1_1)), rfl⟩
              · skip
                have iv_147 : IV r_128 0 0 := iv_meet iv_129 (iv_e h_132 iq_0_0_0) (zle_o rfl) (zle_o rfl)
                refine k_aload_n X dX11_mustName_k1.2.2.1.1 0 rfl ?_
                refine k_ldcS (tx := "shows") X dX11_mustName_k1.2.2.1.2 (by decide +kernel) (fun sr_148 hsr_148 => ?_)
                refine k_callVI (n := 1) (As := [.ref sr_148]) (st := []) X [(cO11_i1r1i10r1i2r5i2r12i3r4i2 h0 m_thrown a_tape m_taped m_size m_at m_end m_token m_whole m_nameSize m_fault m_place m_trouble a_letters m_failed m_hasHouse a_r a_fresh a_st a_undone a_kept m_undos m_images a_from a_begin a_motor a_change a_startFrame a_changeFrame a_lostAt a_blackAt a_slips a_leftArc a_died a_arcs m_bestSum m_nearest m_nearestTown a_there a_backAt a_sorted a_parts m_seed1 m_darkNow), (cAI g a_letters 8 d_letters)] [] [0, 1] [] (m_isWordX l g h0 sr_148 m_thrown a_tape m_taped m_size m_at m_end m_token m_whole m_nameSize m_fault m_place m_trouble a_letters m_failed m_hasHouse a_r a_fresh a_st a_undone a_kept m_undos m_images a_from a_begin a_motor a_change a_startFrame a_changeFrame a_lostAt a_blackAt a_slips a_leftArc a_died a_arcs m_bestSum m_nearest m_nearestTown a_there a_backAt a_sorted a_parts m_seed1 m_darkNow d_letters ("shows") (iv_w hv_m_nameSize (zle_e rfl) (zle_e rfl)) (iv_w hv_m_failed (zle_e rfl) (zle_e rfl)) hsr_148 hc_0) dX11_mustName_k1.2.2.2.1 mw509 mw510 mw511 mw5 mw512 rfl 11 rfl rfl 0 _ rfl yk_yX11_isWord_1 rfl (Nat.le_of_ble_eq_true rfl) (Nat.le_of_ble_eq_true rfl) (Nat.le_of_ble_eq_true rfl) (Nat.le_of_ble_eq_true rfl) (Nat.le_of_ble_eq_true rfl) rfl rfl (vnd_e rfl) rfl (vnd_e rfl) (dsj_e rfl) ?_
                rintro r_149 w ⟨iv_150, hq_151, hk_152, rfl⟩
                refine k_ws [(cO11_i1r1i10r1i2r5i2r12i3r4i2 h0 m_thrown a_tape m_taped m_size m_at m_end m_token m_whole m_nameSize m_fault m_place m_trouble a_letters m_failed m_hasHouse a_r a_fresh a_st a_undone a_kept m_undos m_images a_from a_begin a_motor a_change a_startFrame a_changeFrame a_lostAt a_blackAt a_slips a_leftArc a_died a_arcs m_bestSum m_nearest m_nearestTown a_there a_backAt a_sorted a_parts m_seed1 m_darkNow), (cAI g a_letters 8 d_letters)] rfl ?_
                refine k_if_ne 108 X dX11_mustName_k1.2.2.2.2 (jp_e rfl) (fun h_153 => ?_) (fun h_153 => ?_)
                · skip
                  have hc_154 := hk_152.resolve_left h_153
                  have iv_155 : IV m_token 2 2 := iv_meet (iv_any m_token) hc_154.1 (zle_o rfl) (zle_o rfl)
                  have hc_156 := hc_0 (iv_eq iv_155 iq_2_2_2)
                  have iv_157 : IV m_nameSize 0 8 := iv_meet hv_m_nameSize hc_156 (zle_o rfl) (zle_o rfl)
                  have iv_158 : IV m_failed 0 0 := iv_meet hv_m_failed hc_154.2 (zle_o rfl) (zle_o rfl)
                  have iv_159 : IV r_149 1 1 := iv_neL h_153 iv_150 iq_0_0_0 (zle_e rfl)
                  refine k_iconst (v := 1) X dX11_mustName_k3.1.1.1.1 ic_1 ?_
                  refine k_goto 113 X dX11_mustName_k3.1.1.1.2 (jp_e rfl) ?_
                  refine k_istore_n [(1, .int 1), (0, .ref h0)] X dX11_mustName_k3.1.1.2.2 (nlt_e rfl) rfl ?_
                  refine k_aload_n X dX11_mustName_k3.1.2.1.1 1 rfl ?_
                  refine k_get (ci := 11) X inlX11 rfl 6 (nlt_e rfl) dX11_mustName_k3.1.2.1.2 mw472 0 rfl rfl ?_
                  refine k_iconst (v := 2) X dX11_mustName_k3.1.2.2.1 ic_2 ?_
                  refine k_ic_ne 126 X dX11_mustName_k3.1.2.2.2 (jp_e rfl) (fun h_160 => absurd (iv_eq iv_155 iq_2_2_2) h_160) (fun h_160 => ?_)
                  refine k_iload_n X dX11_mustName_k3.2.1.1.1 0 rfl ?_
                  refine k_if_eq 135 X dX11_mustName_k3.2.1.1.2 (jp_e rfl) (fun h_161 => absurd h_161 (by decide)) (fun _ => ?_)
                  refine k_aload_n X dX11_mustName_k3.2.1.2.1 1 rfl ?_
                  refine k_iconst (v := 1) X dX11_mustName_k3.2.1.2.2 ic_1 ?_
                  refine k_aload_n X dX11_mustName_k3.2.2.1.1 1 rfl ?_
                  refine k_get (ci := 11) X inlX11 rfl 4 (nlt_e rfl) dX11_mustName_k3.2.2.1.2 mw473 0 rfl rfl ?_
                  refine k_callVV (n := 2) (As := [.int 1, .int m_at]) (st := []) X [(cO11_i1r1i10r1i2r5i2r12i3r4i2 h0 m_thrown a_tape m_taped m_size m_at m_end m_token m_whole m_nameSize m_fault m_place m_trouble a_letters m_failed m_hasHouse a_r a_fresh a_st a_undone a_kept m_undos m_images a_from a_begin a_motor a_change a_startFrame a_changeFrame a_lostAt a_blackAt a_slips a_leftArc a_died a_arcs m_bestSum m_nearest m_nearestTown a_there a_backAt a_sorted a_parts m_seed1 m_darkNow)] [(cAI g a_letters 8 d_letters)] [0] [1] (m_badX l g h0 1 m_at m_thrown a_tape m_taped m_size m_at m_end m_token m_whole m_nameSize m_fault m_place m_trouble a_letters m_failed m_hasHouse a_r a_fresh a_st a_undone a_kept m_undos m_images a_from a_begin a_motor a_change a_startFrame a_changeFrame a_lostAt a_blackAt a_slips a_leftArc a_died a_arcs m_bestSum m_nearest m_nearestTown a_there a_backAt a_sorted a_parts m_seed1 m_darkNow (iv_w iv_158 (zle_e rfl) (zle_e rfl))) dX11_mustName_k3.2.2.2.1 mw519 mw520 mw521 mw5 mw522 rfl 11 rfl rfl 0 _ rfl yk_yX11_bad_2 rfl (Nat.le_of_ble_eq_true rfl) (Nat.le_of_ble_eq_true rfl) (Nat.le_of_ble_eq_true rfl) (Nat.le_of_ble_eq_true rfl) (Nat.le_of_ble_eq_true rfl) rfl rfl (vnd_e rfl) rfl (vnd_e rfl) (dsj_e rfl) ?_
                  rintro w ⟨m_failed2_162, m_fault2_163, m_place2_164, iv_166, hq_167, rfl⟩
                  refine k_ws [(cAI g a_letters 8 d_letters), (cO11_i1r1i10r1i2r5i2r12i3r4i2 h0 m_thrown a_tape m_taped m_size m_at m_end m_token m_whole m_nameSize m_fault2_163 m_place2_164 m_trouble a_letters m_failed2_162 m_hasHouse a_r a_fresh a_st a_undone a_kept m_undos m_images a_from a_begin a_motor a_change a_startFrame a_changeFrame a_lostAt a_blackAt a_slips a_leftArc a_died a_arcs m_bestSum m_nearest m_nearestTown a_there a_backAt a_sorted a_parts m_seed1 m_darkNow)] rfl ?_
                  exact k_vret X hr dX11_mustName_k3.2.2.2.2 (Nat.le_of_ble_eq_true rfl) (Nat.le_of_ble_eq_true rfl) [1, 0] (vnd_e rfl) rfl rfl ⟨m_failed2_162, m_fault2_163, m_place2_164, (iv_w iv_166 (zle_e rfl) (zle_e rfl)), ⟨r_2, hq_4, (Or.inr ⟨h_6, ⟨r_23, hq_25, (Or.inr ⟨h_27, ⟨r_44, hq_46, (Or.inr ⟨h_48, ⟨r_65, hq_67, (Or.inr ⟨h_69, ⟨r_86, hq_88, (Or.inr ⟨h_90, ⟨r_107, hq_109, (Or.inr ⟨h_111, ⟨r_128, hq_130, (Or.inr ⟨h_132, ⟨r_149, hq_151, (Or.inl ⟨h_153, ⟨m_failed2_162, m_fault2_163, m_place2_164, hq_167, ⟨rfl, rfl, rfl⟩⟩⟩)⟩⟩)⟩⟩)⟩⟩)⟩⟩)⟩⟩)⟩⟩)⟩⟩)⟩, (Or.inl (iv_eq iv_166 iq_1_1_1)), rfl⟩
                · skip
                  have iv_168 : IV r_149 0 0 := iv_meet iv_150 (iv_e h_153 iq_0_0_0) (zle_o rfl) (zle_o rfl)
                  refine k_aload_n X dX11_mustName_k2.1.1.1.1 0 rfl ?_
                  refine k_ldcS (tx := "boys") X dX11_mustName_k2.1.1.1.2 (by decide +kernel) (fun sr_169 hsr_169 => ?_)
                  refine k_callVI (n := 1) (As := [.ref sr_169]) (st := []) X [(cO11_i1r1i10r1i2r5i2r12i3r4i2 h0 m_thrown a_tape m_taped m_size m_at m_end m_token m_whole m_nameSize m_fault m_place m_trouble a_letters m_failed m_hasHouse a_r a_fresh a_st a_undone a_kept m_undos m_images a_from a_begin a_motor a_change a_startFrame a_changeFrame a_lostAt a_blackAt a_slips a_leftArc a_died a_arcs m_bestSum m_nearest m_nearestTown a_there a_backAt a_sorted a_parts m_seed1 m_darkNow), (cAI g a_letters 8 d_letters)] [] [0, 1] [] (m_isWordX l g h0 sr_169 m_thrown a_tape m_taped m_size m_at m_end m_token m_whole m_nameSize m_fault m_place m_trouble a_letters m_failed m_hasHouse a_r a_fresh a_st a_undone a_kept m_undos m_images a_from a_begin a_motor a_change a_startFrame a_changeFrame a_lostAt a_blackAt a_slips a_leftArc a_died a_arcs m_bestSum m_nearest m_nearestTown a_there a_backAt a_sorted a_parts m_seed1 m_darkNow d_letters ("boys") (iv_w hv_m_nameSize (zle_e rfl) (zle_e rfl)) (iv_w hv_m_failed (zle_e rfl) (zle_e rfl)) hsr_169 hc_0) dX11_mustName_k2.1.1.2.1 mw509 mw510 mw511 mw5 mw512 rfl 11 rfl rfl 0 _ rfl yk_yX11_isWord_1 rfl (Nat.le_of_ble_eq_true rfl) (Nat.le_of_ble_eq_true rfl) (Nat.le_of_ble_eq_true rfl) (Nat.le_of_ble_eq_true rfl) (Nat.le_of_ble_eq_true rfl) rfl rfl (vnd_e rfl) rfl (vnd_e rfl) (dsj_e rfl) ?_
                  rintro r_170 w ⟨iv_171, hq_172, hk_173, rfl⟩
                  refine k_ws [(cO11_i1r1i10r1i2r5i2r12i3r4i2 h0 m_thrown a_tape m_taped m_size m_at m_end m_token m_whole m_nameSize m_fault m_place m_trouble a_letters m_failed m_hasHouse a_r a_fresh a_st a_undone a_kept m_undos m_images a_from a_begin a_motor a_change a_startFrame a_changeFrame a_lostAt a_blackAt a_slips a_leftArc a_died a_arcs m_bestSum m_nearest m_nearestTown a_there a_backAt a_sorted a_parts m_seed1 m_darkNow), (cAI g a_letters 8 d_letters)] rfl ?_
                  refine k_if_ne 108 X dX11_mustName_k2.1.1.2.2 (jp_e rfl) (fun h_174 => ?_) (fun h_174 => ?_)
                  · skip
                    have hc_175 := hk_173.resolve_left h_174
                    have iv_176 : IV m_token 2 2 := iv_meet (iv_any m_token) hc_175.1 (zle_o rfl) (zle_o rfl)
                    have hc_177 := hc_0 (iv_eq iv_176 iq_2_2_2)
                    have iv_178 : IV m_nameSize 0 8 := iv_meet hv_m_nameSize hc_177 (zle_o rfl) (zle_o rfl)
                    have iv_179 : IV m_failed 0 0 := iv_meet hv_m_failed hc_175.2 (zle_o rfl) (zle_o rfl)
                    have iv_180 : IV r_170 1 1 := iv_neL h_174 iv_171 iq_0_0_0 (zle_e rfl)
                    refine k_iconst (v := 1) X dX11_mustName_k3.1.1.1.1 ic_1 ?_
                    refine k_goto 113 X dX11_mustName_k3.1.1.1.2 (jp_e rfl) ?_
                    refine k_istore_n [(1, .int 1), (0, .ref h0)] X dX11_mustName_k3.1.1.2.2 (nlt_e rfl) rfl ?_
                    refine k_aload_n X dX11_mustName_k3.1.2.1.1 1 rfl ?_
                    refine k_get (ci := 11) X inlX11 rfl 6 (nlt_e rfl) dX11_mustName_k3.1.2.1.2 mw472 0 rfl rfl ?_
                    refine k_iconst (v := 2) X dX11_mustName_k3.1.2.2.1 ic_2 ?_
                    refine k_ic_ne 126 X dX11_mustName_k3.1.2.2.2 (jp_e rfl) (fun h_181 => absurd (iv_eq iv_176 iq_2_2_2) h_181) (fun h_181 => ?_)
                    refine k_iload_n X dX11_mustName_k3.2.1.1.1 0 rfl ?_
                    refine k_if_eq 135 X dX11_mustName_k3.2.1.1.2 (jp_e rfl) (fun h_182 => absurd h_182 (by decide)) (fun _ => ?_)
                    refine k_aload_n X dX11_mustName_k3.2.1.2.1 1 rfl ?_
                    refine k_iconst (v := 1) X dX11_mustName_k3.2.1.2.2 ic_1 ?_
                    refine k_aload_n X dX11_mustName_k3.2.2.1.1 1 rfl ?_
                    refine k_get (ci := 11) X inlX11 rfl 4 (nlt_e rfl) dX11_mustName_k3.2.2.1.2 mw473 0 rfl rfl ?_
                    refine k_callVV (n := 2) (As := [.int 1, .int m_at]) (st := []) X [(cO11_i1r1i10r1i2r5i2r12i3r4i2 h0 m_thrown a_tape m_taped m_size m_at m_end m_token m_whole m_nameSize m_fault m_place m_trouble a_letters m_failed m_hasHouse a_r a_fresh a_st a_undone a_kept m_undos m_images a_from a_begin a_motor a_change a_startFrame a_changeFrame a_lostAt a_blackAt a_slips a_leftArc a_died a_arcs m_bestSum m_nearest m_nearestTown a_there a_backAt a_sorted a_parts m_seed1 m_darkNow)] [(cAI g a_letters 8 d_letters)] [0] [1] (m_badX l g h0 1 m_at m_thrown a_tape m_taped m_size m_at m_end m_token m_whole m_nameSize m_fault m_place m_trouble a_letters m_failed m_hasHouse a_r a_fresh a_st a_undone a_kept m_undos m_images a_from a_begin a_motor a_change a_startFrame a_changeFrame a_lostAt a_blackAt a_slips a_leftArc a_died a_arcs m_bestSum m_nearest m_nearestTown a_there a_backAt a_sorted a_parts m_seed1 m_darkNow (iv_w iv_179 (zle_e rfl) (zle_e rfl))) dX11_mustName_k3.2.2.2.1 mw519 mw520 mw521 mw5 mw522 rfl 11 rfl rfl 0 _ rfl yk_yX11_bad_2 rfl (Nat.le_of_ble_eq_true rfl) (Nat.le_of_ble_eq_true rfl) (Nat.le_of_ble_eq_true rfl) (Nat.le_of_ble_eq_true rfl) (Nat.le_of_ble_eq_true rfl) rfl rfl (vnd_e rfl) rfl (vnd_e rfl) (dsj_e rfl) ?_
                    rintro w ⟨m_failed2_183, m_fault2_184, m_place2_185, iv_187, hq_188, rfl⟩
                    refine k_ws [(cAI g a_letters 8 d_letters), (cO11_i1r1i10r1i2r5i2r12i3r4i2 h0 m_thrown a_tape m_taped m_size m_at m_end m_token m_whole m_nameSize m_fault2_184 m_place2_185 m_trouble a_letters m_failed2_183 m_hasHouse a_r a_fresh a_st a_undone a_kept m_undos m_images a_from a_begin a_motor a_change a_startFrame a_changeFrame a_lostAt a_blackAt a_slips a_leftArc a_died a_arcs m_bestSum m_nearest m_nearestTown a_there a_backAt a_sorted a_parts m_seed1 m_darkNow)] rfl ?_
                    exact k_vret X hr dX11_mustName_k3.2.2.2.2 (Nat.le_of_ble_eq_true rfl) (Nat.le_of_ble_eq_true rfl) [1, 0] (vnd_e rfl) rfl rfl ⟨m_failed2_183, m_fault2_184, m_place2_185, (iv_w iv_187 (zle_e rfl) (zle_e rfl)), ⟨r_2, hq_4, (Or.inr ⟨h_6, ⟨r_23, hq_25, (Or.inr ⟨h_27, ⟨r_44, hq_46, (Or.inr ⟨h_48, ⟨r_65, hq_67, (Or.inr ⟨h_69, ⟨r_86, hq_88, (Or.inr ⟨h_90, ⟨r_107, hq_109, (Or.inr ⟨h_111, ⟨r_128, hq_130, (Or.inr ⟨h_132, ⟨r_149, hq_151, (Or.inr ⟨h_153, ⟨r_170, hq_172, (Or.inl ⟨h_174, ⟨m_failed2_183, m_fault2_184, m_place2_185, hq_188, ⟨rfl, rfl, rfl⟩⟩⟩)⟩⟩)⟩⟩)⟩⟩)⟩⟩)⟩⟩)⟩⟩)⟩⟩)⟩⟩)⟩, (Or.inl (iv_eq iv_187 iq_1_1_1)), rfl⟩
                  · skip
                    have iv_189 : IV r_170 0 0 := iv_meet iv_171 (iv_e h_174 iq_0_0_0) (zle_o rfl) (zle_o rfl)
                    refine k_aload_n X dX11_mustName_k2.1.2.1.1 0 rfl ?_
                    refine k_ldcS (tx := "by") X dX11_mustName_k2.1.2.1.2 (by decide +kernel) (fun sr_190 hsr_190 => ?_)
                    refine k_callVI (n := 1) (As := [.ref sr_190]) (st := []) X [(cO11_i1r1i10r1i2r5i2r12i3r4i2 h0 m_thrown a_tape m_taped m_size m_at m_end m_token m_whole m_nameSize m_fault m_place m_trouble a_letters m_failed m_hasHouse a_r a_fresh a_st a_undone a_kept m_undos m_images a_from a_begin a_motor a_change a_startFrame a_changeFrame a_lostAt a_blackAt a_slips a_leftArc a_died a_arcs m_bestSum m_nearest m_nearestTown a_there a_backAt a_sorted a_parts m_seed1 m_darkNow), (cAI g a_letters 8 d_letters)] [] [0, 1] [] (m_isWordX l g h0 sr_190 m_thrown a_tape m_taped m_size m_at m_end m_token m_whole m_nameSize m_fault m_place m_trouble a_letters m_failed m_hasHouse a_r a_fresh a_st a_undone a_kept m_undos m_images a_from a_begin a_motor a_change a_startFrame a_changeFrame a_lostAt a_blackAt a_slips a_leftArc a_died a_arcs m_bestSum m_nearest m_nearestTown a_there a_backAt a_sorted a_parts m_seed1 m_darkNow d_letters ("by") (iv_w hv_m_nameSize (zle_e rfl) (zle_e rfl)) (iv_w hv_m_failed (zle_e rfl) (zle_e rfl)) hsr_190 hc_0) dX11_mustName_k2.1.2.2.1 mw509 mw510 mw511 mw5 mw512 rfl 11 rfl rfl 0 _ rfl yk_yX11_isWord_1 rfl (Nat.le_of_ble_eq_true rfl) (Nat.le_of_ble_eq_true rfl) (Nat.le_of_ble_eq_true rfl) (Nat.le_of_ble_eq_true rfl) (Nat.le_of_ble_eq_true rfl) rfl rfl (vnd_e rfl) rfl (vnd_e rfl) (dsj_e rfl) ?_
                    rintro r_191 w ⟨iv_192, hq_193, hk_194, rfl⟩
                    refine k_ws [(cO11_i1r1i10r1i2r5i2r12i3r4i2 h0 m_thrown a_tape m_taped m_size m_at m_end m_token m_whole m_nameSize m_fault m_place m_trouble a_letters m_failed m_hasHouse a_r a_fresh a_st a_undone a_kept m_undos m_images a_from a_begin a_motor a_change a_startFrame a_changeFrame a_lostAt a_blackAt a_slips a_leftArc a_died a_arcs m_bestSum m_nearest m_nearestTown a_there a_backAt a_sorted a_parts m_seed1 m_darkNow), (cAI g a_letters 8 d_letters)] rfl ?_
                    refine k_if_ne 108 X dX11_mustName_k2.1.2.2.2 (jp_e rfl) (fun h_195 => ?_) (fun h_195 => ?_)
                    · skip
                      have hc_196 := hk_194.resolve_left h_195
                      have iv_197 : IV m_token 2 2 := iv_meet (iv_any m_token) hc_196.1 (zle_o rfl) (zle_o rfl)
                      have hc_198 := hc_0 (iv_eq iv_197 iq_2_2_2)
                      have iv_199 : IV m_nameSize 0 8 := iv_meet hv_m_nameSize hc_198 (zle_o rfl) (zle_o rfl)
                      have iv_200 : IV m_failed 0 0 := iv_meet hv_m_failed hc_196.2 (zle_o rfl) (zle_o rfl)
                      have iv_201 : IV r_191 1 1 := iv_neL h_195 iv_192 iq_0_0_0 (zle_e rfl)
                      refine k_iconst (v := 1) X dX11_mustName_k3.1.1.1.1 ic_1 ?_
                      refine k_goto 113 X dX11_mustName_k3.1.1.1.2 (jp_e rfl) ?_
                      refine k_istore_n [(1, .int 1), (0, .ref h0)] X dX11_mustName_k3.1.1.2.2 (nlt_e rfl) rfl ?_
                      refine k_aload_n X dX11_mustName_k3.1.2.1.1 1 rfl ?_
                      refine k_get (ci := 11) X inlX11 rfl 6 (nlt_e rfl) dX11_mustName_k3.1.2.1.2 mw472 0 rfl rfl ?_
                      refine k_iconst (v := 2) X dX11_mustName_k3.1.2.2.1 ic_2 ?_
                      refine k_ic_ne 126 X dX11_mustName_k3.1.2.2.2 (jp_e rfl) (fun h_202 => absurd (iv_eq iv_197 iq_2_2_2) h_202) (fun h_202 => ?_)
                      refine k_iload_n X dX11_mustName_k3.2.1.1.1 0 rfl ?_
                      refine k_if_eq 135 X dX11_mustName_k3.2.1.1.2 (jp_e rfl) (fun h_203 => absurd h_203 (by decide)) (fun _ => ?_)
                      refine k_aload_n X dX11_mustName_k3.2.1.2.1 1 rfl ?_
                      refine k_iconst (v := 1) X dX11_mustName_k3.2.1.2.2 ic_1 ?_
                      refine k_aload_n X dX11_mustName_k3.2.2.1.1 1 rfl ?_
                      refine k_get (ci := 11) X inlX11 rfl 4 (nlt_e rfl) dX11_mustName_k3.2.2.1.2 mw473 0 rfl rfl ?_
                      refine k_callVV (n := 2) (As := [.int 1, .int m_at]) (st := []) X [(cO11_i1r1i10r1i2r5i2r12i3r4i2 h0 m_thrown a_tape m_taped m_size m_at m_end m_token m_whole m_nameSize m_fault m_place m_trouble a_letters m_failed m_hasHouse a_r a_fresh a_st a_undone a_kept m_undos m_images a_from a_begin a_motor a_change a_startFrame a_changeFrame a_lostAt a_blackAt a_slips a_leftArc a_died a_arcs m_bestSum m_nearest m_nearestTown a_there a_backAt a_sorted a_parts m_seed1 m_darkNow)] [(cAI g a_letters 8 d_letters)] [0] [1] (m_badX l g h0 1 m_at m_thrown a_tape m_taped m_size m_at m_end m_token m_whole m_nameSize m_fault m_place m_trouble a_letters m_failed m_hasHouse a_r a_fresh a_st a_undone a_kept m_undos m_images a_from a_begin a_motor a_change a_startFrame a_changeFrame a_lostAt a_blackAt a_slips a_leftArc a_died a_arcs m_bestSum m_nearest m_nearestTown a_there a_backAt a_sorted a_parts m_seed1 m_darkNow (iv_w iv_200 (zle_e rfl) (zle_e rfl))) dX11_mustName_k3.2.2.2.1 mw519 mw520 mw521 mw5 mw522 rfl 11 rfl rfl 0 _ rfl yk_yX11_bad_2 rfl (Nat.le_of_ble_eq_true rfl) (Nat.le_of_ble_eq_true rfl) (Nat.le_of_ble_eq_true rfl) (Nat.le_of_ble_eq_true rfl) (Nat.le_of_ble_eq_true rfl) rfl rfl (vnd_e rfl) rfl (vnd_e rfl) (dsj_e rfl) ?_
                      rintro w ⟨m_failed2_204, m_fault2_205, m_place2_206, iv_208, hq_209, rfl⟩
                      refine k_ws [(cAI g a_letters 8 d_letters), (cO11_i1r1i10r1i2r5i2r12i3r4i2 h0 m_thrown a_tape m_taped m_size m_at m_end m_token m_whole m_nameSize m_fault2_205 m_place2_206 m_trouble a_letters m_failed2_204 m_hasHouse a_r a_fresh a_st a_undone a_kept m_undos m_images a_from a_begin a_motor a_change a_startFrame a_changeFrame a_lostAt a_blackAt a_slips a_leftArc a_died a_arcs m_bestSum m_nearest m_nearestTown a_there a_backAt a_sorted a_parts m_seed1 m_darkNow)] rfl ?_
                      exact k_vret X hr dX11_mustName_k3.2.2.2.2 (Nat.le_of_ble_eq_true rfl) (Nat.le_of_ble_eq_true rfl) [1, 0] (vnd_e rfl) rfl rfl ⟨m_failed2_204, m_fault2_205, m_place2_206, (iv_w iv_208 (zle_e rfl) (zle_e rfl)), ⟨r_2, hq_4, (Or.inr ⟨h_6, ⟨r_23, hq_25, (Or.inr ⟨h_27, ⟨r_44, hq_46, (Or.inr ⟨h_48, ⟨r_65, hq_67, (Or.inr ⟨h_69, ⟨r_86, hq_88, (Or.inr ⟨h_90, ⟨r_107, hq_109, (Or.inr ⟨h_111, ⟨r_128, hq_130, (Or.inr ⟨h_132, ⟨r_149, hq_151, (Or.inr ⟨h_153, ⟨r_170, hq_172, (Or.inr ⟨h_174, ⟨r_191, hq_193, (Or.inl ⟨h_195, ⟨m_failed2_204, m_fault2_205, m_place2_206, hq_209, ⟨rfl, rfl, rfl⟩⟩⟩)⟩⟩)⟩⟩)⟩⟩)⟩⟩)⟩⟩)⟩⟩)⟩⟩)⟩⟩)⟩⟩)⟩, (Or.inl (iv_eq iv_208 iq_1_1_1)), rfl⟩
                    · skip
                      have iv_210 : IV r_191 0 0 := iv_meet iv_192 (iv_e h_195 iq_0_0_0) (zle_o rfl) (zle_o rfl)
                      refine k_aload_n X dX11_mustName_k2.2.1.1.1 0 rfl ?_
                      refine k_ldcS (tx := "seen") X dX11_mustName_k2.2.1.1.2 (by decide +kernel) (fun sr_211 hsr_211 => ?_)
                      refine k_callVI (n := 1) (As := [.ref sr_211]) (st := []) X [(cO11_i1r1i10r1i2r5i2r12i3r4i2 h0 m_thrown a_tape m_taped m_size m_at m_end m_token m_whole m_nameSize m_fault m_place m_trouble a_letters m_failed m_hasHouse a_r a_fresh a_st a_undone a_kept m_undos m_images a_from a_begin a_motor a_change a_startFrame a_changeFrame a_lostAt a_blackAt a_slips a_leftArc a_died a_arcs m_bestSum m_nearest m_nearestTown a_there a_backAt a_sorted a_parts m_seed1 m_darkNow), (cAI g a_letters 8 d_letters)] [] [0, 1] [] (m_isWordX l g h0 sr_211 m_thrown a_tape m_taped m_size m_at m_end m_token m_whole m_nameSize m_fault m_place m_trouble a_letters m_failed m_hasHouse a_r a_fresh a_st a_undone a_kept m_undos m_images a_from a_begin a_motor a_change a_startFrame a_changeFrame a_lostAt a_blackAt a_slips a_leftArc a_died a_arcs m_bestSum m_nearest m_nearestTown a_there a_backAt a_sorted a_parts m_seed1 m_darkNow d_letters ("seen") (iv_w hv_m_nameSize (zle_e rfl) (zle_e rfl)) (iv_w hv_m_failed (zle_e rfl) (zle_e rfl)) hsr_211 hc_0) dX11_mustName_k2.2.1.2.1 mw509 mw510 mw511 mw5 mw512 rfl 11 rfl rfl 0 _ rfl yk_yX11_isWord_1 rfl (Nat.le_of_ble_eq_true rfl) (Nat.le_of_ble_eq_true rfl) (Nat.le_of_ble_eq_true rfl) (Nat.le_of_ble_eq_true rfl) (Nat.le_of_ble_eq_true rfl) rfl rfl (vnd_e rfl) rfl (vnd_e rfl) (dsj_e rfl) ?_
                      rintro r_212 w ⟨iv_213, hq_214, hk_215, rfl⟩
                      refine k_ws [(cO11_i1r1i10r1i2r5i2r12i3r4i2 h0 m_thrown a_tape m_taped m_size m_at m_end m_token m_whole m_nameSize m_fault m_place m_trouble a_letters m_failed m_hasHouse a_r a_fresh a_st a_undone a_kept m_undos m_images a_from a_begin a_motor a_change a_startFrame a_changeFrame a_lostAt a_blackAt a_slips a_leftArc a_died a_arcs m_bestSum m_nearest m_nearestTown a_there a_backAt a_sorted a_parts m_seed1 m_darkNow), (cAI g a_letters 8 d_letters)] rfl ?_
                      refine k_if_ne 108 X dX11_mustName_k2.2.1.2.2 (jp_e rfl) (fun h_216 => ?_) (fun h_216 => ?_)
                      · skip
                        have hc_217 := hk_215.resolve_left h_216
                        have iv_218 : IV m_token 2 2 := iv_meet (iv_any m_token) hc_217.1 (zle_o rfl) (zle_o rfl)
                        have hc_219 := hc_0 (iv_eq iv_218 iq_2_2_2)
                        have iv_220 : IV m_nameSize 0 8 := iv_meet hv_m_nameSize hc_219 (zle_o rfl) (zle_o rfl)
                        have iv_221 : IV m_failed 0 0 := iv_meet hv_m_failed hc_217.2 (zle_o rfl) (zle_o rfl)
                        have iv_222 : IV r_212 1 1 := iv_neL h_216 iv_213 iq_0_0_0 (zle_e rfl)
                        refine k_iconst (v := 1) X dX11_mustName_k3.1.1.1.1 ic_1 ?_
                        refine k_goto 113 X dX11_mustName_k3.1.1.1.2 (jp_e rfl) ?_
                        refine k_istore_n [(1, .int 1), (0, .ref h0)] X dX11_mustName_k3.1.1.2.2 (nlt_e rfl) rfl ?_
                        refine k_aload_n X dX11_mustName_k3.1.2.1.1 1 rfl ?_
                        refine k_get (ci := 11) X inlX11 rfl 6 (nlt_e rfl) dX11_mustName_k3.1.2.1.2 mw472 0 rfl rfl ?_
                        refine k_iconst (v := 2) X dX11_mustName_k3.1.2.2.1 ic_2 ?_
                        refine k_ic_ne 126 X dX11_mustName_k3.1.2.2.2 (jp_e rfl) (fun h_223 => absurd (iv_eq iv_218 iq_2_2_2) h_223) (fun h_223 => ?_)
                        refine k_iload_n X dX11_mustName_k3.2.1.1.1 0 rfl ?_
                        refine k_if_eq 135 X dX11_mustName_k3.2.1.1.2 (jp_e rfl) (fun h_224 => absurd h_224 (by decide)) (fun _ => ?_)
                        refine k_aload_n X dX11_mustName_k3.2.1.2.1 1 rfl ?_
                        refine k_iconst (v := 1) X dX11_mustName_k3.2.1.2.2 ic_1 ?_
                        refine k_aload_n X dX11_mustName_k3.2.2.1.1 1 rfl ?_
                        refine k_get (ci := 11) X inlX11 rfl 4 (nlt_e rfl) dX11_mustName_k3.2.2.1.2 mw473 0 rfl rfl ?_
                        refine k_callVV (n := 2) (As := [.int 1, .int m_at]) (st := []) X [(cO11_i1r1i10r1i2r5i2r12i3r4i2 h0 m_thrown a_tape m_taped m_size m_at m_end m_token m_whole m_nameSize m_fault m_place m_trouble a_letters m_failed m_hasHouse a_r a_fresh a_st a_undone a_kept m_undos m_images a_from a_begin a_motor a_change a_startFrame a_changeFrame a_lostAt a_blackAt a_slips a_leftArc a_died a_arcs m_bestSum m_nearest m_nearestTown a_there a_backAt a_sorted a_parts m_seed1 m_darkNow)] [(cAI g a_letters 8 d_letters)] [0] [1] (m_badX l g h0 1 m_at m_thrown a_tape m_taped m_size m_at m_end m_token m_whole m_nameSize m_fault m_place m_trouble a_letters m_failed m_hasHouse a_r a_fresh a_st a_undone a_kept m_undos m_images a_from a_begin a_motor a_change a_startFrame a_changeFrame a_lostAt a_blackAt a_slips a_leftArc a_died a_arcs m_bestSum m_nearest m_nearestTown a_there a_backAt a_sorted a_parts m_seed1 m_darkNow (iv_w iv_221 (zle_e rfl) (zle_e rfl))) dX11_mustName_k3.2.2.2.1 mw519 mw520 mw521 mw5 mw522 rfl 11 rfl rfl 0 _ rfl yk_yX11_bad_2 rfl (Nat.le_of_ble_eq_true rfl) (Nat.le_of_ble_eq_true rfl) (Nat.le_of_ble_eq_true rfl) (Nat.le_of_ble_eq_true rfl) (Nat.le_of_ble_eq_true rfl) rfl rfl (vnd_e rfl) rfl (vnd_e rfl) (dsj_e rfl) ?_
                        rintro w ⟨m_failed2_225, m_fault2_226, m_place2_227, iv_229, hq_230, rfl⟩
                        refine k_ws [(cAI g a_letters 8 d_letters), (cO11_i1r1i10r1i2r5i2r12i3r4i2 h0 m_thrown a_tape m_taped m_size m_at m_end m_token m_whole m_nameSize m_fault2_226 m_place2_227 m_trouble a_letters m_failed2_225 m_hasHouse a_r a_fresh a_st a_undone a_kept m_undos m_images a_from a_begin a_motor a_change a_startFrame a_changeFrame a_lostAt a_blackAt a_slips a_leftArc a_died a_arcs m_bestSum m_nearest m_nearestTown a_there a_backAt a_sorted a_parts m_seed1 m_darkNow)] rfl ?_
                        exact k_vret X hr dX11_mustName_k3.2.2.2.2 (Nat.le_of_ble_eq_true rfl) (Nat.le_of_ble_eq_true rfl) [1, 0] (vnd_e rfl) rfl rfl ⟨m_failed2_225, m_fault2_226, m_place2_227, (iv_w iv_229 (zle_e rfl) (zle_e rfl)), ⟨r_2, hq_4, (Or.inr ⟨h_6, ⟨r_23, hq_25, (Or.inr ⟨h_27, ⟨r_44, hq_46, (Or.inr ⟨h_48, ⟨r_65, hq_67, (Or.inr ⟨h_69, ⟨r_86, hq_88, (Or.inr ⟨h_90, ⟨r_107, hq_109, (Or.inr ⟨h_111, ⟨r_128, hq_130, (Or.inr ⟨h_132, ⟨r_149, hq_151, (Or.inr ⟨h_153, ⟨r_170, hq_172, (Or.inr ⟨h_174, ⟨r_191, hq_193, (Or.inr ⟨h_195, ⟨r_212, hq_214, (Or.inl ⟨h_216, ⟨m_failed2_225, m_fault2_226, m_place2_227, hq_230, ⟨rfl, rfl, rfl⟩⟩⟩)⟩⟩)⟩⟩)⟩⟩)⟩⟩)⟩⟩)⟩⟩)⟩⟩)⟩⟩)⟩⟩)⟩⟩)⟩, (Or.inl (iv_eq iv_229 iq_1_1_1)), rfl⟩
                      · skip
                        have iv_231 : IV r_212 0 0 := iv_meet iv_213 (iv_e h_216 iq_0_0_0) (zle_o rfl) (zle_o rfl)
                        refine k_aload_n X dX11_mustName_k2.2.2.1.1 0 rfl ?_
                        refine k_ldcS (tx := "scratch") X dX11_mustName_k2.2.2.1.2 (by decide +kernel) (fun sr_232 hsr_232 => ?_)
                        refine k_callVI (n := 1) (As := [.ref sr_232]) (st := []) X [(cO11_i1r1i10r1i2r5i2r12i3r4i2 h0 m_thrown a_tape m_taped m_size m_at m_end m_token m_whole m_nameSize m_fault m_place m_trouble a_letters m_failed m_hasHouse a_r a_fresh a_st a_undone a_kept m_undos m_images a_from a_begin a_motor a_change a_startFrame a_changeFrame a_lostAt a_blackAt a_slips a_leftArc a_died a_arcs m_bestSum m_nearest m_nearestTown a_there a_backAt a_sorted a_parts m_seed1 m_darkNow), (cAI g a_letters 8 d_letters)] [] [0, 1] [] (m_isWordX l g h0 sr_232 m_thrown a_tape m_taped m_size m_at m_end m_token m_whole m_nameSize m_fault m_place m_trouble a_letters m_failed m_hasHouse a_r a_fresh a_st a_undone a_kept m_undos m_images a_from a_begin a_motor a_change a_startFrame a_changeFrame a_lostAt a_blackAt a_slips a_leftArc a_died a_arcs m_bestSum m_nearest m_nearestTown a_there a_backAt a_sorted a_parts m_seed1 m_darkNow d_letters ("scratch") (iv_w hv_m_nameSize (zle_e rfl) (zle_e rfl)) (iv_w hv_m_failed (zle_e rfl) (zle_e rfl)) hsr_232 hc_0) dX11_mustName_k2.2.2.2.1 mw509 mw510 mw511 mw5 mw512 rfl 11 rfl rfl 0 _ rfl yk_yX11_isWord_1 rfl (Nat.le_of_ble_eq_true rfl) (Nat.le_of_ble_eq_true rfl) (Nat.le_of_ble_eq_true rfl) (Nat.le_of_ble_eq_true rfl) (Nat.le_of_ble_eq_true rfl) rfl rfl (vnd_e rfl) rfl (vnd_e rfl) (dsj_e rfl) ?_
                        rintro r_233 w ⟨iv_234, hq_235, hk_236, rfl⟩
                        refine k_ws [(cO11_i1r1i10r1i2r5i2r12i3r4i2 h0 m_thrown a_tape m_taped m_size m_at m_end m_token m_whole m_nameSize m_fault m_place m_trouble a_letters m_failed m_hasHouse a_r a_fresh a_st a_undone a_kept m_undos m_images a_from a_begin a_motor a_change a_startFrame a_changeFrame a_lostAt a_blackAt a_slips a_leftArc a_died a_arcs m_bestSum m_nearest m_nearestTown a_there a_backAt a_sorted a_parts m_seed1 m_darkNow), (cAI g a_letters 8 d_letters)] rfl ?_
                        refine k_if_eq 112 X dX11_mustName_k2.2.2.2.2 (jp_e rfl) (fun h_237 => ?_) (fun h_237 => ?_)
                        · skip
                          have iv_238 : IV r_233 0 0 := iv_meet iv_234 (iv_e h_237 iq_0_0_0) (zle_o rfl) (zle_o rfl)
                          refine k_iconst (v := 0) X dX11_mustName_k3.1.1.2.1 ic_0 ?_
                          refine k_istore_n [(1, .int 0), (0, .ref h0)] X dX11_mustName_k3.1.1.2.2 (nlt_e rfl) rfl ?_
                          refine k_aload_n X dX11_mustName_k3.1.2.1.1 1 rfl ?_
                          refine k_get (ci := 11) X inlX11 rfl 6 (nlt_e rfl) dX11_mustName_k3.1.2.1.2 mw472 0 rfl rfl ?_
                          refine k_iconst (v := 2) X dX11_mustName_k3.1.2.2.1 ic_2 ?_
                          refine k_ic_ne 126 X dX11_mustName_k3.1.2.2.2 (jp_e rfl) (fun h_239 => ?_) (fun h_239 => ?_)
                          · skip
                            refine k_aload_n X dX11_mustName_k3.2.1.2.1 1 rfl ?_
                            refine k_iconst (v := 1) X dX11_mustName_k3.2.1.2.2 ic_1 ?_
                            refine k_aload_n X dX11_mustName_k3.2.2.1.1 1 rfl ?_
                            refine k_get (ci := 11) X inlX11 rfl 4 (nlt_e rfl) dX11_mustName_k3.2.2.1.2 mw473 0 rfl rfl ?_
                            refine k_callVV (n := 2) (As := [.int 1, .int m_at]) (st := []) X [(cO11_i1r1i10r1i2r5i2r12i3r4i2 h0 m_thrown a_tape m_taped m_size m_at m_end m_token m_whole m_nameSize m_fault m_place m_trouble a_letters m_failed m_hasHouse a_r a_fresh a_st a_undone a_kept m_undos m_images a_from a_begin a_motor a_change a_startFrame a_changeFrame a_lostAt a_blackAt a_slips a_leftArc a_died a_arcs m_bestSum m_nearest m_nearestTown a_there a_backAt a_sorted a_parts m_seed1 m_darkNow)] [(cAI g a_letters 8 d_letters)] [0] [1] (m_badX l g h0 1 m_at m_thrown a_tape m_taped m_size m_at m_end m_token m_whole m_nameSize m_fault m_place m_trouble a_letters m_failed m_hasHouse a_r a_fresh a_st a_undone a_kept m_undos m_images a_from a_begin a_motor a_change a_startFrame a_changeFrame a_lostAt a_blackAt a_slips a_leftArc a_died a_arcs m_bestSum m_nearest m_nearestTown a_there a_backAt a_sorted a_parts m_seed1 m_darkNow (iv_w hv_m_failed (zle_e rfl) (zle_e rfl))) dX11_mustName_k3.2.2.2.1 mw519 mw520 mw521 mw5 mw522 rfl 11 rfl rfl 0 _ rfl yk_yX11_bad_2 rfl (Nat.le_of_ble_eq_true rfl) (Nat.le_of_ble_eq_true rfl) (Nat.le_of_ble_eq_true rfl) (Nat.le_of_ble_eq_true rfl) (Nat.le_of_ble_eq_true rfl) rfl rfl (vnd_e rfl) rfl (vnd_e rfl) (dsj_e rfl) ?_
                            rintro w ⟨m_failed2_240, m_fault2_241, m_place2_242, iv_244, hq_245, rfl⟩
                            refine k_ws [(cAI g a_letters 8 d_letters), (cO11_i1r1i10r1i2r5i2r12i3r4i2 h0 m_thrown a_tape m_taped m_size m_at m_end m_token m_whole m_nameSize m_fault2_241 m_place2_242 m_trouble a_letters m_failed2_240 m_hasHouse a_r a_fresh a_st a_undone a_kept m_undos m_images a_from a_begin a_motor a_change a_startFrame a_changeFrame a_lostAt a_blackAt a_slips a_leftArc a_died a_arcs m_bestSum m_nearest m_nearestTown a_there a_backAt a_sorted a_parts m_seed1 m_darkNow)] rfl ?_
                            exact k_vret X hr dX11_mustName_k3.2.2.2.2 (Nat.le_of_ble_eq_true rfl) (Nat.le_of_ble_eq_true rfl) [1, 0] (vnd_e rfl) rfl rfl ⟨m_failed2_240, m_fault2_241, m_place2_242, (iv_w iv_244 (zle_e rfl) (zle_e rfl)), ⟨r_2, hq_4, (Or.inr ⟨h_6, ⟨r_23, hq_25, (Or.inr ⟨h_27, ⟨r_44, hq_46, (Or.inr ⟨h_48, ⟨r_65, hq_67, (Or.inr ⟨h_69, ⟨r_86, hq_88, (Or.inr ⟨h_90, ⟨r_107, hq_109, (Or.inr ⟨h_111, ⟨r_128, hq_130, (Or.inr ⟨h_132, ⟨r_149, hq_151, (Or.inr ⟨h_153, ⟨r_170, hq_172, (Or.inr ⟨h_174, ⟨r_191, hq_193, (Or.inr ⟨h_195, ⟨r_212, hq_214, (Or.inr ⟨h_216, ⟨r_233, hq_235, (Or.inl ⟨h_237, (Or.inl ⟨h_239, ⟨m_failed2_240, m_fault2_241, m_place2_242, hq_245, ⟨rfl, rfl, rfl⟩⟩⟩)⟩)⟩⟩)⟩⟩)⟩⟩)⟩⟩)⟩⟩)⟩⟩)⟩⟩)⟩⟩)⟩⟩)⟩⟩)⟩⟩)⟩, (Or.inl (iv_eq iv_244 iq_1_1_1)), rfl⟩
                          · skip
                            have iv_246 : IV m_token 2 2 := iv_meet (iv_any m_token) (iv_e h_239 iq_2_2_2) (zle_o rfl) (zle_o rfl)
                            have hc_247 := hc_0 (iv_eq iv_246 iq_2_2_2)
                            have iv_248 : IV m_nameSize 0 8 := iv_meet hv_m_nameSize hc_247 (zle_o rfl) (zle_o rfl)
                            refine k_iload_n X dX11_mustName_k3.2.1.1.1 0 rfl ?_
                            refine k_if_eq 135 X dX11_mustName_k3.2.1.1.2 (jp_e rfl) (fun _ => ?_) (fun h_249 => absurd (by decide) h_249)
                            exact k_vret X hr dX11_mustName_k3.2.2.2.2 (Nat.le_of_ble_eq_true rfl) (Nat.le_of_ble_eq_true rfl) [0, 1] (vnd_e rfl) rfl rfl ⟨m_failed, m_fault, m_place, (iv_w hv_m_failed (zle_e rfl) (zle_e rfl)), ⟨r_2, hq_4, (Or.inr ⟨h_6, ⟨r_23, hq_25, (Or.inr ⟨h_27, ⟨r_44, hq_46, (Or.inr ⟨h_48, ⟨r_65, hq_67, (Or.inr ⟨h_69, ⟨r_86, hq_88, (Or.inr ⟨h_90, ⟨r_107, hq_109, (Or.inr ⟨h_111, ⟨r_128, hq_130, (Or.inr ⟨h_132, ⟨r_149, hq_151, (Or.inr ⟨h_153, ⟨r_170, hq_172, (Or.inr ⟨h_174, ⟨r_191, hq_193, (Or.inr ⟨h_195, ⟨r_212, hq_214, (Or.inr ⟨h_216, ⟨r_233, hq_235, (Or.inl ⟨h_237, (Or.inr ⟨h_239, ⟨rfl, rfl, rfl⟩⟩)⟩)⟩⟩)⟩⟩)⟩⟩)⟩⟩)⟩⟩)⟩⟩)⟩⟩)⟩⟩)⟩⟩)⟩⟩)⟩⟩)⟩, (Or.inr (iv_w iv_246 (zle_e rfl) (zle_e rfl))), rfl⟩
                        · skip
                          have hc_250 := hk_236.resolve_left h_237
                          have iv_251 : IV m_token 2 2 := iv_meet (iv_any m_token) hc_250.1 (zle_o rfl) (zle_o rfl)
                          have hc_252 := hc_0 (iv_eq iv_251 iq_2_2_2)
                          have iv_253 : IV m_nameSize 0 8 := iv_meet hv_m_nameSize hc_252 (zle_o rfl) (zle_o rfl)
                          have iv_254 : IV m_failed 0 0 := iv_meet hv_m_failed hc_250.2 (zle_o rfl) (zle_o rfl)
                          have iv_255 : IV r_233 1 1 := iv_neL h_237 iv_234 iq_0_0_0 (zle_e rfl)
                          refine k_iconst (v := 1) X dX11_mustName_k3.1.1.1.1 ic_1 ?_
                          refine k_goto 113 X dX11_mustName_k3.1.1.1.2 (jp_e rfl) ?_
                          refine k_istore_n [(1, .int 1), (0, .ref h0)] X dX11_mustName_k3.1.1.2.2 (nlt_e rfl) rfl ?_
                          refine k_aload_n X dX11_mustName_k3.1.2.1.1 1 rfl ?_
                          refine k_get (ci := 11) X inlX11 rfl 6 (nlt_e rfl) dX11_mustName_k3.1.2.1.2 mw472 0 rfl rfl ?_
                          refine k_iconst (v := 2) X dX11_mustName_k3.1.2.2.1 ic_2 ?_
                          refine k_ic_ne 126 X dX11_mustName_k3.1.2.2.2 (jp_e rfl) (fun h_256 => absurd (iv_eq iv_251 iq_2_2_2) h_256) (fun h_256 => ?_)
                          refine k_iload_n X dX11_mustName_k3.2.1.1.1 0 rfl ?_
                          refine k_if_eq 135 X dX11_mustName_k3.2.1.1.2 (jp_e rfl) (fun h_257 => absurd h_257 (by decide)) (fun _ => ?_)
                          refine k_aload_n X dX11_mustName_k3.2.1.2.1 1 rfl ?_
                          refine k_iconst (v := 1) X dX11_mustName_k3.2.1.2.2 ic_1 ?_
                          refine k_aload_n X dX11_mustName_k3.2.2.1.1 1 rfl ?_
                          refine k_get (ci := 11) X inlX11 rfl 4 (nlt_e rfl) dX11_mustName_k3.2.2.1.2 mw473 0 rfl rfl ?_
                          refine k_callVV (n := 2) (As := [.int 1, .int m_at]) (st := []) X [(cO11_i1r1i10r1i2r5i2r12i3r4i2 h0 m_thrown a_tape m_taped m_size m_at m_end m_token m_whole m_nameSize m_fault m_place m_trouble a_letters m_failed m_hasHouse a_r a_fresh a_st a_undone a_kept m_undos m_images a_from a_begin a_motor a_change a_startFrame a_changeFrame a_lostAt a_blackAt a_slips a_leftArc a_died a_arcs m_bestSum m_nearest m_nearestTown a_there a_backAt a_sorted a_parts m_seed1 m_darkNow)] [(cAI g a_letters 8 d_letters)] [0] [1] (m_badX l g h0 1 m_at m_thrown a_tape m_taped m_size m_at m_end m_token m_whole m_nameSize m_fault m_place m_trouble a_letters m_failed m_hasHouse a_r a_fresh a_st a_undone a_kept m_undos m_images a_from a_begin a_motor a_change a_startFrame a_changeFrame a_lostAt a_blackAt a_slips a_leftArc a_died a_arcs m_bestSum m_nearest m_nearestTown a_there a_backAt a_sorted a_parts m_seed1 m_darkNow (iv_w iv_254 (zle_e rfl) (zle_e rfl))) dX11_mustName_k3.2.2.2.1 mw519 mw520 mw521 mw5 mw522 rfl 11 rfl rfl 0 _ rfl yk_yX11_bad_2 rfl (Nat.le_of_ble_eq_true rfl) (Nat.le_of_ble_eq_true rfl) (Nat.le_of_ble_eq_true rfl) (Nat.le_of_ble_eq_true rfl) (Nat.le_of_ble_eq_true rfl) rfl rfl (vnd_e rfl) rfl (vnd_e rfl) (dsj_e rfl) ?_
                          rintro w ⟨m_failed2_258, m_fault2_259, m_place2_260, iv_262, hq_263, rfl⟩
                          refine k_ws [(cAI g a_letters 8 d_letters), (cO11_i1r1i10r1i2r5i2r12i3r4i2 h0 m_thrown a_tape m_taped m_size m_at m_end m_token m_whole m_nameSize m_fault2_259 m_place2_260 m_trouble a_letters m_failed2_258 m_hasHouse a_r a_fresh a_st a_undone a_kept m_undos m_images a_from a_begin a_motor a_change a_startFrame a_changeFrame a_lostAt a_blackAt a_slips a_leftArc a_died a_arcs m_bestSum m_nearest m_nearestTown a_there a_backAt a_sorted a_parts m_seed1 m_darkNow)] rfl ?_
                          exact k_vret X hr dX11_mustName_k3.2.2.2.2 (Nat.le_of_ble_eq_true rfl) (Nat.le_of_ble_eq_true rfl) [1, 0] (vnd_e rfl) rfl rfl ⟨m_failed2_258, m_fault2_259, m_place2_260, (iv_w iv_262 (zle_e rfl) (zle_e rfl)), ⟨r_2, hq_4, (Or.inr ⟨h_6, ⟨r_23, hq_25, (Or.inr ⟨h_27, ⟨r_44, hq_46, (Or.inr ⟨h_48, ⟨r_65, hq_67, (Or.inr ⟨h_69, ⟨r_86, hq_88, (Or.inr ⟨h_90, ⟨r_107, hq_109, (Or.inr ⟨h_111, ⟨r_128, hq_130, (Or.inr ⟨h_132, ⟨r_149, hq_151, (Or.inr ⟨h_153, ⟨r_170, hq_172, (Or.inr ⟨h_174, ⟨r_191, hq_193, (Or.inr ⟨h_195, ⟨r_212, hq_214, (Or.inr ⟨h_216, ⟨r_233, hq_235, (Or.inr ⟨h_237, ⟨m_failed2_258, m_fault2_259, m_place2_260, hq_263, ⟨rfl, rfl, rfl⟩⟩⟩)⟩⟩)⟩⟩)⟩⟩)⟩⟩)⟩⟩)⟩⟩)⟩⟩)⟩⟩)⟩⟩)⟩⟩)⟩⟩)⟩, (Or.inl (iv_eq iv_262 iq_1_1_1)), rfl⟩


set_option maxHeartbeats 4000000 in
set_option maxRecDepth 100000 in
theorem m_findX (l : Launch) (g : Gx) (h0 : Nat) (m_thrown : Int32) (a_tape : Nat) (m_taped : Int32) (m_size : Int32) (m_at : Int32) (m_end : Int32) (m_token : Int32) (m_whole : Int32) (m_nameSize : Int32) (m_fault : Int32) (m_place : Int32) (m_trouble : Int32) (a_letters : Nat) (m_failed : Int32) (m_hasHouse : Int32) (a_r : Nat) (a_fresh : Nat) (a_st : Nat) (a_undone : Nat) (a_kept : Nat) (m_undos : Int32) (m_images : Int32) (a_from : Nat) (a_begin : Nat) (a_motor : Nat) (a_change : Nat) (a_startFrame : Nat) (a_changeFrame : Nat) (a_lostAt : Nat) (a_blackAt : Nat) (a_slips : Nat) (a_leftArc : Nat) (a_died : Nat) (a_arcs : Nat) (m_bestSum : Int32) (m_nearest : Int32) (m_nearestTown : Int32) (a_there : Nat) (a_backAt : Nat) (a_sorted : Nat) (a_parts : Nat) (m_seed1 : Int32) (m_darkNow : Int32) (d_letters : Nat → Int32) (d_fresh : Nat → Int32) (hv_m_nameSize : IV m_nameSize 0 900) (hp_d_fresh : RInv d_fresh) : cI l g yX11_find cX11_find 4 (some .int) 0 0 0 0 [.ref h0] [(cO11_i1r1i10r1i2r5i2r12i3r4i2 h0 m_thrown a_tape m_taped m_size m_at m_end m_token m_whole m_nameSize m_fault m_place m_trouble a_letters m_failed m_hasHouse a_r a_fresh a_st a_undone a_kept m_undos m_images a_from a_begin a_motor a_change a_startFrame a_changeFrame a_lostAt a_blackAt a_slips a_leftArc a_died a_arcs m_bestSum m_nearest m_nearestTown a_there a_backAt a_sorted a_parts m_seed1 m_darkNow), (cAI g a_letters 8 d_letters), (cAI g a_fresh 311 d_fresh)] (fun r w => IV r (-1) 15 ∧ (r.toInt < 0 ∨ 0 < (d_fresh (167 + r.toInt.toNat)).toInt) ∧ (R_m_findX m_nameSize d_letters d_fresh r) ∧ w = [(cO11_i1r1i10r1i2r5i2r12i3r4i2 h0 m_thrown a_tape m_taped m_size m_at m_end m_token m_whole m_nameSize m_fault m_place m_trouble a_letters m_failed m_hasHouse a_r a_fresh a_st a_undone a_kept m_undos m_images a_from a_begin a_motor a_change a_startFrame a_changeFrame a_lostAt a_blackAt a_slips a_leftArc a_died a_arcs m_bestSum m_nearest m_nearestTown a_there a_backAt a_sorted a_parts m_seed1 m_darkNow), (cAI g a_letters 8 d_letters), (cAI g a_fresh 311 d_fresh)]) := by
  refine cI.of (by decide) (Nat.le_of_ble_eq_true rfl) ?_
  intro p e s m args below meth c A X hr hi
  refine k_lveq [(0, .ref h0)] rfl ?_
  refine k_iconst (v := 0) X dX11_find_k0.1.1.1.1 ic_0 ?_
  refine k_istore_n [(1, .int 0), (0, .ref h0)] X dX11_find_k0.1.1.1.2 (nlt_e rfl) rfl ?_
  refine (fun hL : ∀ (nn_3 : Nat) (u_1 : Int32), (16 - u_1.toInt).toNat = nn_3 → (IV u_1 0 255) → (∀ (r : Int32), (∃ n_0 : Nat, R_m_findX_L0 m_nameSize d_letters d_fresh r (r = (-1)) n_0 u_1) → R_m_findX m_nameSize d_letters d_fresh r) → Wk p l e _ s m args below meth c _ A g _ _ _ [(cO11_i1r1i10r1i2r5i2r12i3r4i2 h0 m_thrown a_tape m_taped m_size m_at m_end m_token m_whole m_nameSize m_fault m_place m_trouble a_letters m_failed m_hasHouse a_r a_fresh a_st a_undone a_kept m_undos m_images a_from a_begin a_motor a_change a_startFrame a_changeFrame a_lostAt a_blackAt a_slips a_leftArc a_died a_arcs m_bestSum m_nearest m_nearestTown a_there a_backAt a_sorted a_parts m_seed1 m_darkNow), (cAI g a_letters 8 d_letters), (cAI g a_fresh 311 d_fresh)] [(1, .int u_1), (0, .ref h0)] 2 [] => hL _ 0 rfl (iv_w iq_0_0_0 (zle_e rfl) (zle_e rfl)) (fun r h => h)) ?_
  refine fun nn_3 => Nat.strongRecOn nn_3 (fun nn_3 ih_5 => ?_)
  intro u_1 hm_4 hv_2 KH_0
  refine k_iload_n X dX11_find_k0.1.1.2.1 0 rfl ?_
  refine k_bipush (v := 16) X dX11_find_k0.1.1.2.2 bi_16 ?_
  refine k_ic_ge 106 X dX11_find_k0.1.2.1.1 (jp_e rfl) (fun h_6 => ?_) (fun h_6 => ?_)
  · skip
    have j_7 : 16 ≤ u_1.toInt := iv_le h_6
    have iv_8 : IV u_1 16 255 := iv_leR (iv_le h_6) iq_16_16_16 hv_2 (zle_e rfl)
    refine k_iconst (v := -1) X dX11_find_k3.2.2.2.1 ic_m1 ?_
    exact k_iret X hr dX11_find_k3.2.2.2.2 (Nat.le_of_ble_eq_true rfl) (Nat.le_of_ble_eq_true rfl) [0, 1, 2] (vnd_e rfl) rfl rfl ⟨(iv_w iq_m1_m1_m1 (zle_e rfl) (zle_e rfl)), (Or.inl (by decide)), (KH_0 _ ⟨0 + 1, (Or.inl ⟨h_6, rfl⟩)⟩), rfl⟩
  · skip
    have j_9 : u_1.toInt < 16 := iv_nle h_6
    have iv_10 : IV u_1 0 15 := iv_ltL (iv_nle h_6) hv_2 iq_16_16_16 (zle_e rfl)
    refine k_aload_n X dX11_find_k0.1.2.1.2 1 rfl ?_
    refine k_get (ci := 11) X inlX11 rfl 16 (nlt_e rfl) dX11_find_k0.1.2.2.1 mw171 0 rfl rfl ?_
    refine k_sipush (v := 167) X dX11_find_k0.1.2.2.2 si_167 ?_
    refine k_iload_n X dX11_find_k0.2.1.1.1 0 rfl ?_
    refine k_iadd X dX11_find_k0.2.1.1.2 ?_
    refine k_nm (fun z_11 ez_11 => ?_)
    have i_12 : z_11.toInt = 167 + u_1.toInt := in_add ez_11 iq_167_167_167 iv_10 (zle_e rfl) (zle_e rfl)
    have iv_13 : IV z_11 167 182 := iz2 i_12 iv_10 (zle_e rfl) (zle_e rfl)
    refine k_iald X dX11_find_k0.2.1.2.1 2 rfl (iv_in iv_13 (zle_e rfl) (zle_l rfl)) ?_
    refine k_nm (fun z_14 ez_14 => ?_)
    have i_15 : z_11.toInt = 167 + 1 * u_1.toInt := by omega
    have iv_16 : IV z_14 0 8 := rb_167_1 ez_14 hp_d_fresh i_15 (iv_w iv_10 (zle_e rfl) (zle_e rfl))
    refine k_if_le 42 X dX11_find_k0.2.1.2.2 (jp_e rfl) (fun h_17 => ?_) (fun h_17 => ?_)
    · skip
      have j_18 : z_14.toInt ≤ 0 := iv_le h_17
      have iv_19 : IV z_14 0 0 := iv_leL (iv_le h_17) iv_16 iq_0_0_0 (zle_e rfl)
      refine k_iconst (v := 0) X dX11_find_k1.1.2.2.2 ic_0 ?_
      refine k_istore_n [(2, .int 0), (1, .int u_1), (0, .ref h0)] X dX11_find_k1.2.1.1.1 (nlt_e rfl) rfl ?_
      refine k_iconst (v := 0) X dX11_find_k1.2.1.1.2 ic_0 ?_
      refine k_istore_n [(3, .int 0), (2, .int 0), (1, .int u_1), (0, .ref h0)] X dX11_find_k1.2.1.2.1 (nlt_e rfl) rfl ?_
      refine (fun hL : ∀ (nn_24 : Nat) (u_20 : Int32) (u_22 : Int32), (m_nameSize.toInt - u_22.toInt).toNat = nn_24 → (IV u_20 0 0) → (IV u_22 0 0) → (∀ (r : Int32) (n_0 : Nat), (∃ n_1 : Nat, R_m_findX_L1 m_nameSize (∃ z_31 : Int32, u_1 + Int32.ofInt 1 = z_31 ∧ R_m_findX_L0 m_nameSize d_letters d_fresh r (r = (-1)) n_0 z_31) (∃ z_38 : Int32, u_1 + Int32.ofInt 1 = z_38 ∧ R_m_findX_L0 m_nameSize d_letters d_fresh r (r = (-1)) n_0 z_38) n_1 u_20 u_22) → R_m_findX m_nameSize d_letters d_fresh r) → Wk p l e _ s m args below meth c _ A g _ _ _ [(cO11_i1r1i10r1i2r5i2r12i3r4i2 h0 m_thrown a_tape m_taped m_size m_at m_end m_token m_whole m_nameSize m_fault m_place m_trouble a_letters m_failed m_hasHouse a_r a_fresh a_st a_undone a_kept m_undos m_images a_from a_begin a_motor a_change a_startFrame a_changeFrame a_lostAt a_blackAt a_slips a_leftArc a_died a_arcs m_bestSum m_nearest m_nearestTown a_there a_backAt a_sorted a_parts m_seed1 m_darkNow), (cAI g a_letters 8 d_letters), (cAI g a_fresh 311 d_fresh)] [(3, .int u_22), (2, .int u_20), (1, .int u_1), (0, .ref h0)] 46 [] => hL _ 0 0 rfl (iv_w iq_0_0_0 (zle_e rfl) (zle_e rfl)) (iv_w iq_0_0_0 (zle_e rfl) (zle_e rfl)) (fun r n_0 h => (KH_0 _ ⟨n_0 + 1, (Or.inr ⟨h_6, ⟨z_11, ez_11, ⟨z_14, ez_14, (Or.inl ⟨h_17, h⟩)⟩⟩⟩)⟩))) ?_
      refine fun nn_24 => Nat.strongRecOn nn_24 (fun nn_24 ih_26 => ?_)
      intro u_20 u_22 hm_25 hv_21 hv_23 KH_1
      refine k_iload_n X dX11_find_k1.2.1.2.2 0 rfl ?_
      refine k_aload_n X dX11_find_k1.2.2.1.1 3 rfl ?_
      refine k_get (ci := 11) X inlX11 rfl 8 (nlt_e rfl) dX11_find_k1.2.2.1.2 mw493 0 rfl rfl ?_
      refine k_ic_ge 94 X dX11_find_k1.2.2.2.1 (jp_e rfl) (fun h_27 => ?_) (fun h_27 => ?_)
      · skip
        have j_28 : m_nameSize.toInt ≤ u_22.toInt := iv_le h_27
        have iv_29 : IV m_nameSize 0 0 := iv_leL (iv_le h_27) hv_m_nameSize hv_23 (zle_e rfl)
        refine k_iload_n X dX11_find_k3.1.2.2.2 1 rfl ?_
        refine k_if_eq 100 X dX11_find_k3.2.1.1 (jp_e rfl) (fun h_30 => ?_) (fun h_30 => absurd (iv_eq hv_21 iq_0_0_0) h_30)
        obtain ⟨z_31, ez_31⟩ : ∃ y : Int32, u_1 + Int32.ofInt 1 = y := ⟨_, rfl⟩
        refine k_iinc z_31 [(1, .int z_31), (3, .int u_22), (2, .int u_20), (0, .ref h0)] 2 X dX11_find_k3.2.2.1.1 rfl ez_31 (nlt_e rfl) rfl ?_
        have i_32 : z_31.toInt = u_1.toInt + 1 := in_inc ez_31 (oin_e rfl) iv_10 (zle_e rfl) (zle_e rfl)
        have iv_33 : IV z_31 1 16 := iz1 i_32 iv_10 (zle_e rfl) (zle_e rfl)
        refine k_goto 2 X dX11_find_k3.2.2.1.2 (jp_e rfl) ?_
        refine k_lv [(1, .int z_31), (0, .ref h0)] [0, 3] rfl ?_
        exact ih_5 _ (by omega) z_31 rfl (iv_w iv_33 (zle_e rfl) (zle_e rfl)) (fun r h => h.elim (fun n_0 q => (KH_1 _ n_0 ⟨0 + 1, (Or.inl ⟨h_27, ⟨z_31, ez_31, q⟩⟩)⟩)))
      · skip
        have j_34 : u_22.toInt < m_nameSize.toInt := iv_nle h_27
        have iv_35 : IV m_nameSize 1 900 := iv_ltR (iv_nle h_27) hv_23 hv_m_nameSize (zle_e rfl)
        refine k_iload_n X dX11_find_k1.2.2.2.2 1 rfl ?_
        refine k_if_eq 94 X dX11_find_k2.1.1.1.1 (jp_e rfl) (fun h_36 => ?_) (fun h_36 => absurd (iv_eq hv_21 iq_0_0_0) h_36)
        refine k_iload_n X dX11_find_k3.1.2.2.2 1 rfl ?_
        refine k_if_eq 100 X dX11_find_k3.2.1.1 (jp_e rfl) (fun h_37 => ?_) (fun h_37 => absurd (iv_eq hv_21 iq_0_0_0) h_37)
        obtain ⟨z_38, ez_38⟩ : ∃ y : Int32, u_1 + Int32.ofInt 1 = y := ⟨_, rfl⟩
        refine k_iinc z_38 [(1, .int z_38), (3, .int u_22), (2, .int u_20), (0, .ref h0)] 2 X dX11_find_k3.2.2.1.1 rfl ez_38 (nlt_e rfl) rfl ?_
        have i_39 : z_38.toInt = u_1.toInt + 1 := in_inc ez_38 (oin_e rfl) iv_10 (zle_e rfl) (zle_e rfl)
        have iv_40 : IV z_38 1 16 := iz1 i_39 iv_10 (zle_e rfl) (zle_e rfl)
        refine k_goto 2 X dX11_find_k3.2.2.1.2 (jp_e rfl) ?_
        refine k_lv [(1, .int z_38), (0, .ref h0)] [0, 3] rfl ?_
        exact ih_5 _ (by omega) z_38 rfl (iv_w iv_40 (zle_e rfl) (zle_e rfl)) (fun r h => h.elim (fun n_0 q => (KH_1 _ n_0 ⟨0 + 1, (Or.inr ⟨h_27, ⟨z_38, ez_38, q⟩⟩)⟩)))
    · skip
      have j_41 : 0 < z_14.toInt := iv_nle h_17
      have iv_42 : IV z_14 1 8 := iv_ltR (iv_nle h_17) iq_0_0_0 iv_16 (zle_e rfl)
      refine k_aload_n X dX11_find_k0.2.2.1.1 1 rfl ?_
      refine k_get (ci := 11) X inlX11 rfl 16 (nlt_e rfl) dX11_find_k0.2.2.1.2 mw171 0 rfl rfl ?_
      refine k_sipush (v := 167) X dX11_find_k0.2.2.2.1 si_167 ?_
      refine k_iload_n X dX11_find_k0.2.2.2.2 0 rfl ?_
      refine k_iadd X dX11_find_k1.1.1.1.1 ?_
      refine k_to z_11 ez_11.symm ?_
      refine k_iald X dX11_find_k1.1.1.1.2 2 rfl (iv_in iv_13 (zle_e rfl) (zle_l rfl)) ?_
      refine k_to z_14 ez_14.symm ?_
      refine k_aload_n X dX11_find_k1.1.1.2.1 1 rfl ?_
      refine k_get (ci := 11) X inlX11 rfl 8 (nlt_e rfl) dX11_find_k1.1.1.2.2 mw493 0 rfl rfl ?_
      refine k_ic_ne 42 X dX11_find_k1.1.2.1.1 (jp_e rfl) (fun h_43 => ?_) (fun h_43 => ?_)
      · skip
        refine k_iconst (v := 0) X dX11_find_k1.1.2.2.2 ic_0 ?_
        refine k_istore_n [(2, .int 0), (1, .int u_1), (0, .ref h0)] X dX11_find_k1.2.1.1.1 (nlt_e rfl) rfl ?_
        refine k_iconst (v := 0) X dX11_find_k1.2.1.1.2 ic_0 ?_
        refine k_istore_n [(3, .int 0), (2, .int 0), (1, .int u_1), (0, .ref h0)] X dX11_find_k1.2.1.2.1 (nlt_e rfl) rfl ?_
        refine (fun hL : ∀ (nn_48 : Nat) (u_44 : Int32) (u_46 : Int32), (m_nameSize.toInt - u_46.toInt).toNat = nn_48 → (IV u_44 0 0) → (IV u_46 0 0) → (∀ (r : Int32) (n_0 : Nat), (∃ n_2 : Nat, R_m_findX_L2 m_nameSize (∃ z_55 : Int32, u_1 + Int32.ofInt 1 = z_55 ∧ R_m_findX_L0 m_nameSize d_letters d_fresh r (r = (-1)) n_0 z_55) (∃ z_62 : Int32, u_1 + Int32.ofInt 1 = z_62 ∧ R_m_findX_L0 m_nameSize d_letters d_fresh r (r = (-1)) n_0 z_62) n_2 u_44 u_46) → R_m_findX m_nameSize d_letters d_fresh r) → Wk p l e _ s m args below meth c _ A g _ _ _ [(cO11_i1r1i10r1i2r5i2r12i3r4i2 h0 m_thrown a_tape m_taped m_size m_at m_end m_token m_whole m_nameSize m_fault m_place m_trouble a_letters m_failed m_hasHouse a_r a_fresh a_st a_undone a_kept m_undos m_images a_from a_begin a_motor a_change a_startFrame a_changeFrame a_lostAt a_blackAt a_slips a_leftArc a_died a_arcs m_bestSum m_nearest m_nearestTown a_there a_backAt a_sorted a_parts m_seed1 m_darkNow), (cAI g a_letters 8 d_letters), (cAI g a_fresh 311 d_fresh)] [(3, .int u_46), (2, .int u_44), (1, .int u_1), (0, .ref h0)] 46 [] => hL _ 0 0 rfl (iv_w iq_0_0_0 (zle_e rfl) (zle_e rfl)) (iv_w iq_0_0_0 (zle_e rfl) (zle_e rfl)) (fun r n_0 h => (KH_0 _ ⟨n_0 + 1, (Or.inr ⟨h_6, ⟨z_11, ez_11, ⟨z_14, ez_14, (Or.inr ⟨h_17, (Or.inl ⟨h_43, h⟩)⟩)⟩⟩⟩)⟩))) ?_
        refine fun nn_48 => Nat.strongRecOn nn_48 (fun nn_48 ih_50 => ?_)
        intro u_44 u_46 hm_49 hv_45 hv_47 KH_2
        refine k_iload_n X dX11_find_k1.2.1.2.2 0 rfl ?_
        refine k_aload_n X dX11_find_k1.2.2.1.1 3 rfl ?_
        refine k_get (ci := 11) X inlX11 rfl 8 (nlt_e rfl) dX11_find_k1.2.2.1.2 mw493 0 rfl rfl ?_
        refine k_ic_ge 94 X dX11_find_k1.2.2.2.1 (jp_e rfl) (fun h_51 => ?_) (fun h_51 => ?_)
        · skip
          have j_52 : m_nameSize.toInt ≤ u_46.toInt := iv_le h_51
          have iv_53 : IV m_nameSize 0 0 := iv_leL (iv_le h_51) hv_m_nameSize hv_47 (zle_e rfl)
          refine k_iload_n X dX11_find_k3.1.2.2.2 1 rfl ?_
          refine k_if_eq 100 X dX11_find_k3.2.1.1 (jp_e rfl) (fun h_54 => ?_) (fun h_54 => absurd (iv_eq hv_45 iq_0_0_0) h_54)
          obtain ⟨z_55, ez_55⟩ : ∃ y : Int32, u_1 + Int32.ofInt 1 = y := ⟨_, rfl⟩
          refine k_iinc z_55 [(1, .int z_55), (3, .int u_46), (2, .int u_44), (0, .ref h0)] 2 X dX11_find_k3.2.2.1.1 rfl ez_55 (nlt_e rfl) rfl ?_
          have i_56 : z_55.toInt = u_1.toInt + 1 := in_inc ez_55 (oin_e rfl) iv_10 (zle_e rfl) (zle_e rfl)
          have iv_57 : IV z_55 1 16 := iz1 i_56 iv_10 (zle_e rfl) (zle_e rfl)
          refine k_goto 2 X dX11_find_k3.2.2.1.2 (jp_e rfl) ?_
          refine k_lv [(1, .int z_55), (0, .ref h0)] [0, 3] rfl ?_
          exact ih_5 _ (by omega) z_55 rfl (iv_w iv_57 (zle_e rfl) (zle_e rfl)) (fun r h => h.elim (fun n_0 q => (KH_2 _ n_0 ⟨0 + 1, (Or.inl ⟨h_51, ⟨z_55, ez_55, q⟩⟩)⟩)))
        · skip
          have j_58 : u_46.toInt < m_nameSize.toInt := iv_nle h_51
          have iv_59 : IV m_nameSize 1 900 := iv_ltR (iv_nle h_51) hv_47 hv_m_nameSize (zle_e rfl)
          refine k_iload_n X dX11_find_k1.2.2.2.2 1 rfl ?_
          refine k_if_eq 94 X dX11_find_k2.1.1.1.1 (jp_e rfl) (fun h_60 => ?_) (fun h_60 => absurd (iv_eq hv_45 iq_0_0_0) h_60)
          refine k_iload_n X dX11_find_k3.1.2.2.2 1 rfl ?_
          refine k_if_eq 100 X dX11_find_k3.2.1.1 (jp_e rfl) (fun h_61 => ?_) (fun h_61 => absurd (iv_eq hv_45 iq_0_0_0) h_61)
          obtain ⟨z_62, ez_62⟩ : ∃ y : Int32, u_1 + Int32.ofInt 1 = y := ⟨_, rfl⟩
          refine k_iinc z_62 [(1, .int z_62), (3, .int u_46), (2, .int u_44), (0, .ref h0)] 2 X dX11_find_k3.2.2.1.1 rfl ez_62 (nlt_e rfl) rfl ?_
          have i_63 : z_62.toInt = u_1.toInt + 1 := in_inc ez_62 (oin_e rfl) iv_10 (zle_e rfl) (zle_e rfl)
          have iv_64 : IV z_62 1 16 := iz1 i_63 iv_10 (zle_e rfl) (zle_e rfl)
          refine k_goto 2 X dX11_find_k3.2.2.1.2 (jp_e rfl) ?_
          refine k_lv [(1, .int z_62), (0, .ref h0)] [0, 3] rfl ?_
          exact ih_5 _ (by omega) z_62 rfl (iv_w iv_64 (zle_e rfl) (zle_e rfl)) (fun r h => h.elim (fun n_0 q => (KH_2 _ n_0 ⟨0 + 1, (Or.inr ⟨h_51, ⟨z_62, ez_62, q⟩⟩)⟩)))
      · skip
        have iv_65 : IV m_nameSize 1 8 := iv_meet hv_m_nameSize (iv_e h_43.symm iv_42) (zle_o rfl) (zle_o rfl)
        refine k_iconst (v := 1) X dX11_find_k1.1.2.1.2 ic_1 ?_
        refine k_goto 43 X dX11_find_k1.1.2.2.1 (jp_e rfl) ?_
        refine k_istore_n [(2, .int 1), (1, .int u_1), (0, .ref h0)] X dX11_find_k1.2.1.1.1 (nlt_e rfl) rfl ?_
        refine k_iconst (v := 0) X dX11_find_k1.2.1.1.2 ic_0 ?_
        refine k_istore_n [(3, .int 0), (2, .int 1), (1, .int u_1), (0, .ref h0)] X dX11_find_k1.2.1.2.1 (nlt_e rfl) rfl ?_
        refine (fun hL : ∀ (nn_70 : Nat) (u_66 : Int32) (u_68 : Int32), (m_nameSize.toInt - u_68.toInt).toNat = nn_70 → (IV u_66 0 1) → (IV u_68 0 8) → (∀ (r : Int32) (n_0 : Nat), (∃ n_3 : Nat, R_m_findX_L3 m_nameSize d_letters d_fresh u_1 (fun (u_66 : Int32) => (((u_66 = (0 : Int32)) ∧ (∃ z_78 : Int32, u_1 + Int32.ofInt 1 = z_78 ∧ R_m_findX_L0 m_nameSize d_letters d_fresh r (r = (-1)) n_0 z_78)) ∨ ((¬ (u_66 = (0 : Int32))) ∧ (r = u_1)))) (∃ z_87 : Int32, u_1 + Int32.ofInt 1 = z_87 ∧ R_m_findX_L0 m_nameSize d_letters d_fresh r (r = (-1)) n_0 z_87) n_3 u_66 u_68) → R_m_findX m_nameSize d_letters d_fresh r) → Wk p l e _ s m args below meth c _ A g _ _ _ [(cO11_i1r1i10r1i2r5i2r12i3r4i2 h0 m_thrown a_tape m_taped m_size m_at m_end m_token m_whole m_nameSize m_fault m_place m_trouble a_letters m_failed m_hasHouse a_r a_fresh a_st a_undone a_kept m_undos m_images a_from a_begin a_motor a_change a_startFrame a_changeFrame a_lostAt a_blackAt a_slips a_leftArc a_died a_arcs m_bestSum m_nearest m_nearestTown a_there a_backAt a_sorted a_parts m_seed1 m_darkNow), (cAI g a_letters 8 d_letters), (cAI g a_fresh 311 d_fresh)] [(3, .int u_68), (2, .int u_66), (1, .int u_1), (0, .ref h0)] 46 [] => hL _ 1 0 rfl (iv_w iq_1_1_1 (zle_e rfl) (zle_e rfl)) (iv_w iq_0_0_0 (zle_e rfl) (zle_e rfl)) (fun r n_0 h => (KH_0 _ ⟨n_0 + 1, (Or.inr ⟨h_6, ⟨z_11, ez_11, ⟨z_14, ez_14, (Or.inr ⟨h_17, (Or.inr ⟨h_43, h⟩)⟩)⟩⟩⟩)⟩))) ?_
        refine fun nn_70 => Nat.strongRecOn nn_70 (fun nn_70 ih_72 => ?_)
        intro u_66 u_68 hm_71 hv_67 hv_69 KH_3
        refine k_iload_n X dX11_find_k1.2.1.2.2 0 rfl ?_
        refine k_aload_n X dX11_find_k1.2.2.1.1 3 rfl ?_
        refine k_get (ci := 11) X inlX11 rfl 8 (nlt_e rfl) dX11_find_k1.2.2.1.2 mw493 0 rfl rfl ?_
        refine k_ic_ge 94 X dX11_find_k1.2.2.2.1 (jp_e rfl) (fun h_73 => ?_) (fun h_73 => ?_)
        · skip
          have j_74 : m_nameSize.toInt ≤ u_68.toInt := iv_le h_73
          have iv_75 : IV u_68 1 8 := iv_leR (iv_le h_73) iv_65 hv_69 (zle_e rfl)
          refine k_iload_n X dX11_find_k3.1.2.2.2 1 rfl ?_
          refine k_if_eq 100 X dX11_find_k3.2.1.1 (jp_e rfl) (fun h_76 => ?_) (fun h_76 => ?_)
          · skip
            have iv_77 : IV u_66 0 0 := iv_meet hv_67 (iv_e h_76 iq_0_0_0) (zle_o rfl) (zle_o rfl)
            obtain ⟨z_78, ez_78⟩ : ∃ y : Int32, u_1 + Int32.ofInt 1 = y := ⟨_, rfl⟩
            refine k_iinc z_78 [(1, .int z_78), (3, .int u_68), (2, .int u_66), (0, .ref h0)] 2 X dX11_find_k3.2.2.1.1 rfl ez_78 (nlt_e rfl) rfl ?_
            have i_79 : z_78.toInt = u_1.toInt + 1 := in_inc ez_78 (oin_e rfl) iv_10 (zle_e rfl) (zle_e rfl)
            have iv_80 : IV z_78 1 16 := iz1 i_79 iv_10 (zle_e rfl) (zle_e rfl)
            refine k_goto 2 X dX11_find_k3.2.2.1.2 (jp_e rfl) ?_
            refine k_lv [(1, .int z_78), (0, .ref h0)] [0, 3] rfl ?_
            exact ih_5 _ (by omega) z_78 rfl (iv_w iv_80 (zle_e rfl) (zle_e rfl)) (fun r h => h.elim (fun n_0 q => (KH_3 _ n_0 ⟨0 + 1, (Or.inl ⟨h_73, (Or.inl ⟨h_76, ⟨z_78, ez_78, q⟩⟩)⟩)⟩)))
          · skip
            have iv_81 : IV u_66 1 1 := iv_neL h_76 hv_67 iq_0_0_0 (zle_e rfl)
            refine k_iload_n X dX11_find_k3.2.1.2.1 2 rfl ?_
            exact k_iret X hr dX11_find_k3.2.1.2.2 (Nat.le_of_ble_eq_true rfl) (Nat.le_of_ble_eq_true rfl) [0, 1, 2] (vnd_e rfl) rfl rfl ⟨(iv_w iv_10 (zle_e rfl) (zle_e rfl)), (Or.inr (find_p ez_14 (by omega) (by omega) (by omega))), (KH_3 _ 0 ⟨0 + 1, (Or.inl ⟨h_73, (Or.inr ⟨h_76, rfl⟩)⟩)⟩), rfl⟩
        · skip
          have j_82 : u_68.toInt < m_nameSize.toInt := iv_nle h_73
          have iv_83 : IV u_68 0 7 := iv_ltL (iv_nle h_73) hv_69 iv_65 (zle_e rfl)
          refine k_iload_n X dX11_find_k1.2.2.2.2 1 rfl ?_
          refine k_if_eq 94 X dX11_find_k2.1.1.1.1 (jp_e rfl) (fun h_84 => ?_) (fun h_84 => ?_)
          · skip
            have iv_85 : IV u_66 0 0 := iv_meet hv_67 (iv_e h_84 iq_0_0_0) (zle_o rfl) (zle_o rfl)
            refine k_iload_n X dX11_find_k3.1.2.2.2 1 rfl ?_
            refine k_if_eq 100 X dX11_find_k3.2.1.1 (jp_e rfl) (fun h_86 => ?_) (fun h_86 => absurd (iv_eq iv_85 iq_0_0_0) h_86)
            obtain ⟨z_87, ez_87⟩ : ∃ y : Int32, u_1 + Int32.ofInt 1 = y := ⟨_, rfl⟩
            refine k_iinc z_87 [(1, .int z_87), (3, .int u_68), (2, .int u_66), (0, .ref h0)] 2 X dX11_find_k3.2.2.1.1 rfl ez_87 (nlt_e rfl) rfl ?_
            have i_88 : z_87.toInt = u_1.toInt + 1 := in_inc ez_87 (oin_e rfl) iv_10 (zle_e rfl) (zle_e rfl)
            have iv_89 : IV z_87 1 16 := iz1 i_88 iv_10 (zle_e rfl) (zle_e rfl)
            refine k_goto 2 X dX11_find_k3.2.2.1.2 (jp_e rfl) ?_
            refine k_lv [(1, .int z_87), (0, .ref h0)] [0, 3] rfl ?_
            exact ih_5 _ (by omega) z_87 rfl (iv_w iv_89 (zle_e rfl) (zle_e rfl)) (fun r h => h.elim (fun n_0 q => (KH_3 _ n_0 ⟨0 + 1, (Or.inr ⟨h_73, (Or.inl ⟨h_84, ⟨z_87, ez_87, q⟩⟩)⟩)⟩)))
          · skip
            have iv_90 : IV u_66 1 1 := iv_neL h_84 hv_67 iq_0_0_0 (zle_e rfl)
            refine k_aload_n X dX11_find_k2.1.1.1.2 3 rfl ?_
            refine k_get (ci := 11) X inlX11 rfl 16 (nlt_e rfl) dX11_find_k2.1.1.2.1 mw171 0 rfl rfl ?_
            refine k_sipush (v := 183) X dX11_find_k2.1.1.2.2 si_183 ?_
            refine k_bipush (v := 8) X dX11_find_k2.1.2.1.1 bi_8 ?_
            refine k_iload_n X dX11_find_k2.1.2.1.2 2 rfl ?_
            refine k_imul X dX11_find_k2.1.2.2.1 ?_
            refine k_nm (fun z_91 ez_91 => ?_)
            have i_92 : z_91.toInt = 8 * u_1.toInt := in_mul ez_91 (by decide) (zle_e rfl) iv_10 (zle_e rfl) (zle_e rfl)
            have iv_93 : IV z_91 0 120 := iz4 i_92 iv_10 (zle_e rfl) (zle_e rfl) (zle_e rfl)
            refine k_iadd X dX11_find_k2.1.2.2.2 ?_
            refine k_nm (fun z_94 ez_94 => ?_)
            have i_95 : z_94.toInt = 183 + z_91.toInt := in_add ez_94 iq_183_183_183 iv_93 (zle_e rfl) (zle_e rfl)
            have iv_96 : IV z_94 183 303 := iz2 i_95 iv_93 (zle_e rfl) (zle_e rfl)
            refine k_iload_n X dX11_find_k2.2.1.1.1 0 rfl ?_
            refine k_iadd X dX11_find_k2.2.1.1.2 ?_
            refine k_nm (fun z_97 ez_97 => ?_)
            have i_98 : z_97.toInt = z_94.toInt + u_68.toInt := in_add ez_97 iv_96 iv_83 (zle_e rfl) (zle_e rfl)
            have iv_99 : IV z_97 183 310 := by have := iv_96; have := iv_83; rw [IV, i_98]; omega
            refine k_iald X dX11_find_k2.2.1.2.1 2 rfl (iv_in iv_99 (zle_e rfl) (zle_l rfl)) ?_
            refine k_nm (fun z_100 ez_100 => ?_)
            refine k_aload_n X dX11_find_k2.2.1.2.2 3 rfl ?_
            refine k_get (ci := 11) X inlX11 rfl 12 (nlt_e rfl) dX11_find_k2.2.2.1.1 mw169 0 rfl rfl ?_
            refine k_iload_n X dX11_find_k2.2.2.1.2 0 rfl ?_
            refine k_iald X dX11_find_k2.2.2.2.1 1 rfl (iv_in iv_83 (zle_e rfl) (zle_l rfl)) ?_
            refine k_nm (fun z_101 ez_101 => ?_)
            refine k_ic_ne 86 X dX11_find_k2.2.2.2.2 (jp_e rfl) (fun h_102 => ?_) (fun h_102 => ?_)
            · skip
              refine k_iconst (v := 0) X dX11_find_k3.1.1.2.2 ic_0 ?_
              refine k_istore_n [(2, .int 0), (3, .int u_68), (1, .int u_1), (0, .ref h0)] X dX11_find_k3.1.2.1.1 (nlt_e rfl) rfl ?_
              obtain ⟨z_103, ez_103⟩ : ∃ y : Int32, u_68 + Int32.ofInt 1 = y := ⟨_, rfl⟩
              refine k_iinc z_103 [(3, .int z_103), (2, .int 0), (1, .int u_1), (0, .ref h0)] 1 X dX11_find_k3.1.2.1.2 rfl ez_103 (nlt_e rfl) rfl ?_
              have i_104 : z_103.toInt = u_68.toInt + 1 := in_inc ez_103 (oin_e rfl) iv_83 (zle_e rfl) (zle_e rfl)
              have iv_105 : IV z_103 1 8 := iz1 i_104 iv_83 (zle_e rfl) (zle_e rfl)
              refine k_goto 46 X dX11_find_k3.1.2.2.1 (jp_e rfl) ?_
              exact ih_72 _ (by omega) 0 z_103 rfl (iv_w iq_0_0_0 (zle_e rfl) (zle_e rfl)) (iv_w iv_105 (zle_e rfl) (zle_e rfl)) (fun r n_0 h => h.elim (fun n_3 q => (KH_3 _ n_0 ⟨n_3 + 1, (Or.inr ⟨h_73, (Or.inr ⟨h_84, ⟨z_91, ez_91, ⟨z_94, ez_94, ⟨z_97, ez_97, ⟨z_100, ez_100, ⟨z_101, ez_101, (Or.inl ⟨h_102, ⟨z_103, ez_103, q⟩⟩)⟩⟩⟩⟩⟩⟩)⟩)⟩)))
            · skip
              refine k_iconst (v := 1) X dX11_find_k3.1.1.1 ic_1 ?_
              refine k_goto 87 X dX11_find_k3.1.1.2.1 (jp_e rfl) ?_
              refine k_istore_n [(2, .int 1), (3, .int u_68), (1, .int u_1), (0, .ref h0)] X dX11_find_k3.1.2.1.1 (nlt_e rfl) rfl ?_
              obtain ⟨z_106, ez_106⟩ : ∃ y : Int32, u_68 + Int32.ofInt 1 = y := ⟨_, rfl⟩
              refine k_iinc z_106 [(3, .int z_106), (2, .int 1), (1, .int u_1), (0, .ref h0)] 1 X dX11_find_k3.1.2.1.2 rfl ez_106 (nlt_e rfl) rfl ?_
              have i_107 : z_106.toInt = u_68.toInt + 1 := in_inc ez_106 (oin_e rfl) iv_83 (zle_e rfl) (zle_e rfl)
              have iv_108 : IV z_106 1 8 := iz1 i_107 iv_83 (zle_e rfl) (zle_e rfl)
              refine k_goto 46 X dX11_find_k3.1.2.2.1 (jp_e rfl) ?_
              exact ih_72 _ (by omega) 1 z_106 rfl (iv_w iq_1_1_1 (zle_e rfl) (zle_e rfl)) (iv_w iv_108 (zle_e rfl) (zle_e rfl)) (fun r n_0 h => h.elim (fun n_3 q => (KH_3 _ n_0 ⟨n_3 + 1, (Or.inr ⟨h_73, (Or.inr ⟨h_84, ⟨z_91, ez_91, ⟨z_94, ez_94, ⟨z_97, ez_97, ⟨z_100, ez_100, ⟨z_101, ez_101, (Or.inr ⟨h_102, ⟨z_106, ez_106, q⟩⟩)⟩⟩⟩⟩⟩⟩)⟩)⟩)))


set_option maxHeartbeats 4000000 in
set_option maxRecDepth 100000 in
theorem m_newNameX (l : Launch) (g : Gx) (h0 : Nat) (p0 : Int32) (m_thrown : Int32) (a_tape : Nat) (m_taped : Int32) (m_size : Int32) (m_at : Int32) (m_end : Int32) (m_token : Int32) (m_whole : Int32) (m_nameSize : Int32) (m_fault : Int32) (m_place : Int32) (m_trouble : Int32) (a_letters : Nat) (m_failed : Int32) (m_hasHouse : Int32) (a_r : Nat) (a_fresh : Nat) (a_st : Nat) (a_undone : Nat) (a_kept : Nat) (m_undos : Int32) (m_images : Int32) (a_from : Nat) (a_begin : Nat) (a_motor : Nat) (a_change : Nat) (a_startFrame : Nat) (a_changeFrame : Nat) (a_lostAt : Nat) (a_blackAt : Nat) (a_slips : Nat) (a_leftArc : Nat) (a_died : Nat) (a_arcs : Nat) (m_bestSum : Int32) (m_nearest : Int32) (m_nearestTown : Int32) (a_there : Nat) (a_backAt : Nat) (a_sorted : Nat) (a_parts : Nat) (m_seed1 : Int32) (m_darkNow : Int32) (d_tape : Nat → Int32) (d_letters : Nat → Int32) (d_fresh : Nat → Int32) (hv_p0 : IV p0 0 15) (hv_m_size : IV m_size 0 900) (hv_m_end : IV m_end 0 900) (hv_m_nameSize : IV m_nameSize 0 900) (hv_m_failed : IV m_failed 0 1) (hp_d_fresh : RInv d_fresh) (hc_0 : m_token = 2 → IV m_nameSize 0 8) : cV l g yX11_newName cX11_newName 3 6 129 0 0 [.ref h0, .int p0] [(cO11_i1r1i10r1i2r5i2r12i3r4i2 h0 m_thrown a_tape m_taped m_size m_at m_end m_token m_whole m_nameSize m_fault m_place m_trouble a_letters m_failed m_hasHouse a_r a_fresh a_st a_undone a_kept m_undos m_images a_from a_begin a_motor a_change a_startFrame a_changeFrame a_lostAt a_blackAt a_slips a_leftArc a_died a_arcs m_bestSum m_nearest m_nearestTown a_there a_backAt a_sorted a_parts m_seed1 m_darkNow), (cAI g a_tape 900 d_tape), (cAI g a_letters 8 d_letters), (cAI g a_fresh 311 d_fresh)] (fun w => ∃ (m_at2 : Int32) (m_end2 : Int32) (m_failed2 : Int32) (m_fault2 : Int32) (d_fresh2 : Nat → Int32) (d_letters2 : Nat → Int32) (m_nameSize2 : Int32) (m_place2 : Int32) (m_token2 : Int32) (m_whole2 : Int32), IV m_end2 0 900 ∧ IV m_failed2 0 1 ∧ IV m_nameSize2 0 900 ∧ RInv d_fresh2 ∧ (KN p0 d_fresh d_fresh2) ∧ (m_end.toInt ≤ m_end2.toInt) ∧ (R_m_newNameX p0 m_size m_at m_end m_token m_whole m_nameSize m_fault m_place m_failed d_tape d_letters d_fresh m_at2 m_end2 m_failed2 m_fault2 d_fresh2 d_letters2 m_nameSize2 m_place2 m_token2 m_whole2) ∧ (m_token2 = 2 → IV m_nameSize2 0 8) ∧ w = [(cO11_i1r1i10r1i2r5i2r12i3r4i2 h0 m_thrown a_tape m_taped m_size m_at2 m_end2 m_token2 m_whole2 m_nameSize2 m_fault2 m_place2 m_trouble a_letters m_failed2 m_hasHouse a_r a_fresh a_st a_undone a_kept m_undos m_images a_from a_begin a_motor a_change a_startFrame a_changeFrame a_lostAt a_blackAt a_slips a_leftArc a_died a_arcs m_bestSum m_nearest m_nearestTown a_there a_backAt a_sorted a_parts m_seed1 m_darkNow), (cAI g a_tape 900 d_tape), (cAI g a_letters 8 d_letters2), (cAI g a_fresh 311 d_fresh2)]) := by
  refine cV.of (by decide) (Nat.le_of_ble_eq_true rfl) ?_
  intro p e s m args below meth c A X hr hi
  refine k_lveq [(0, .ref h0), (1, .int p0)] rfl ?_
  refine k_aload_n X dX11_newName_k0.1.1.1.1 0 rfl ?_
  refine k_get (ci := 11) X inlX11 rfl 13 (nlt_e rfl) dX11_newName_k0.1.1.1.2 mw469 0 rfl rfl ?_
  refine k_if_eq 8 X dX11_newName_k0.1.1.2.1 (jp_e rfl) (fun h_1 => ?_) (fun h_1 => ?_)
  · skip
    have iv_2 : IV m_failed 0 0 := iv_meet hv_m_failed (iv_e h_1 iq_0_0_0) (zle_o rfl) (zle_o rfl)
    refine k_aload_n X dX11_newName_k0.1.2.1.1 0 rfl ?_
    refine k_callVV (n := 0) (As := []) (st := []) X [(cO11_i1r1i10r1i2r5i2r12i3r4i2 h0 m_thrown a_tape m_taped m_size m_at m_end m_token m_whole m_nameSize m_fault m_place m_trouble a_letters m_failed m_hasHouse a_r a_fresh a_st a_undone a_kept m_undos m_images a_from a_begin a_motor a_change a_startFrame a_changeFrame a_lostAt a_blackAt a_slips a_leftArc a_died a_arcs m_bestSum m_nearest m_nearestTown a_there a_backAt a_sorted a_parts m_seed1 m_darkNow), (cAI g a_letters 8 d_letters)] [(cAI g a_tape 900 d_tape), (cAI g a_fresh 311 d_fresh)] [0, 2] [1, 3] (m_mustNameX l g h0 m_thrown a_tape m_taped m_size m_at m_end m_token m_whole m_nameSize m_fault m_place m_trouble a_letters m_failed m_hasHouse a_r a_fresh a_st a_undone a_kept m_undos m_images a_from a_begin a_motor a_change a_startFrame a_changeFrame a_lostAt a_blackAt a_slips a_leftArc a_died a_arcs m_bestSum m_nearest m_nearestTown a_there a_backAt a_sorted a_parts m_seed1 m_darkNow d_letters (iv_w hv_m_nameSize (zle_e rfl) (zle_e rfl)) (iv_w iv_2 (zle_e rfl) (zle_e rfl)) hc_0) dX11_newName_k0.1.2.1.2 mw555 mw556 mw557 mw5 mw558 rfl 11 rfl rfl 0 _ rfl yk_yX11_mustName_0 rfl (Nat.le_of_ble_eq_true rfl) (Nat.le_of_ble_eq_true rfl) (Nat.le_of_ble_eq_true rfl) (Nat.le_of_ble_eq_true rfl) (Nat.le_of_ble_eq_true rfl) rfl rfl (vnd_e rfl) rfl (vnd_e rfl) (dsj_e rfl) ?_
    rintro w ⟨m_failed2_3, m_fault2_4, m_place2_5, iv_7, hq_8, hk_9, rfl⟩
    refine k_ws [(cAI g a_tape 900 d_tape), (cAI g a_fresh 311 d_fresh), (cO11_i1r1i10r1i2r5i2r12i3r4i2 h0 m_thrown a_tape m_taped m_size m_at m_end m_token m_whole m_nameSize m_fault2_4 m_place2_5 m_trouble a_letters m_failed2_3 m_hasHouse a_r a_fresh a_st a_undone a_kept m_undos m_images a_from a_begin a_motor a_change a_startFrame a_changeFrame a_lostAt a_blackAt a_slips a_leftArc a_died a_arcs m_bestSum m_nearest m_nearestTown a_there a_backAt a_sorted a_parts m_seed1 m_darkNow), (cAI g a_letters 8 d_letters)] rfl ?_
    refine k_aload_n X dX11_newName_k0.1.2.2.1 0 rfl ?_
    refine k_get (ci := 11) X inlX11 rfl 13 (nlt_e rfl) dX11_newName_k0.1.2.2.2 mw469 2 rfl rfl ?_
    refine k_if_ne 35 X dX11_newName_k0.2.1.1.1 (jp_e rfl) (fun h_10 => ?_) (fun h_10 => ?_)
    · skip
      have iv_11 : IV m_failed2_3 1 1 := iv_neL h_10 iv_7 iq_0_0_0 (zle_e rfl)
      refine k_aload_n X dX11_newName_k1.1.1.1.2 0 rfl ?_
      refine k_get (ci := 11) X inlX11 rfl 13 (nlt_e rfl) dX11_newName_k1.1.1.2.1 mw469 2 rfl rfl ?_
      refine k_if_eq 43 X dX11_newName_k1.1.1.2.2 (jp_e rfl) (fun h_12 => (iv_eqN h_12 iv_11 iq_0_0_0 (by decide)).elim) (fun h_12 => ?_)
      exact k_vret X hr dX11_newName_k1.1.2.1.1 (Nat.le_of_ble_eq_true rfl) (Nat.le_of_ble_eq_true rfl) [2, 0, 3, 1] (vnd_e rfl) rfl rfl ⟨m_at, m_end, m_failed2_3, m_fault2_4, d_fresh, d_letters, m_nameSize, m_place2_5, m_token, m_whole, (iv_w hv_m_end (zle_e rfl) (zle_e rfl)), (iv_w iv_11 (zle_e rfl) (zle_e rfl)), (iv_w hv_m_nameSize (zle_e rfl) (zle_e rfl)), hp_d_fresh, (fun _ _ _ => rfl), (by omega), (Or.inl ⟨h_1, ⟨m_failed2_3, m_fault2_4, m_place2_5, hq_8, (Or.inl ⟨h_10, ⟨rfl, rfl, rfl, rfl, rfl, rfl, rfl, rfl, rfl, rfl⟩⟩)⟩⟩), hc_0, rfl⟩
    · skip
      have iv_13 : IV m_failed2_3 0 0 := iv_meet iv_7 (iv_e h_10 iq_0_0_0) (zle_o rfl) (zle_o rfl)
      have hc_14 := hk_9.resolve_left (fun q => iv_eqN q iv_13 iq_1_1_1 (by decide))
      have iv_15 : IV m_token 2 2 := iv_meet (iv_any m_token) hc_14 (zle_o rfl) (zle_o rfl)
      have hc_16 := hc_0 (iv_eq iv_15 iq_2_2_2)
      have iv_17 : IV m_nameSize 0 8 := iv_meet hv_m_nameSize hc_16 (zle_o rfl) (zle_o rfl)
      refine k_aload_n X dX11_newName_k0.2.1.1.2 0 rfl ?_
      refine k_callVI (n := 0) (As := []) (st := []) X [(cO11_i1r1i10r1i2r5i2r12i3r4i2 h0 m_thrown a_tape m_taped m_size m_at m_end m_token m_whole m_nameSize m_fault2_4 m_place2_5 m_trouble a_letters m_failed2_3 m_hasHouse a_r a_fresh a_st a_undone a_kept m_undos m_images a_from a_begin a_motor a_change a_startFrame a_changeFrame a_lostAt a_blackAt a_slips a_leftArc a_died a_arcs m_bestSum m_nearest m_nearestTown a_there a_backAt a_sorted a_parts m_seed1 m_darkNow), (cAI g a_letters 8 d_letters), (cAI g a_fresh 311 d_fresh)] [(cAI g a_tape 900 d_tape)] [2, 3, 1] [0] (m_findX l g h0 m_thrown a_tape m_taped m_size m_at m_end m_token m_whole m_nameSize m_fault2_4 m_place2_5 m_trouble a_letters m_failed2_3 m_hasHouse a_r a_fresh a_st a_undone a_kept m_undos m_images a_from a_begin a_motor a_change a_startFrame a_changeFrame a_lostAt a_blackAt a_slips a_leftArc a_died a_arcs m_bestSum m_nearest m_nearestTown a_there a_backAt a_sorted a_parts m_seed1 m_darkNow d_letters d_fresh (iv_w iv_17 (zle_e rfl) (zle_e rfl)) hp_d_fresh) dX11_newName_k0.2.1.2.1 mw559 mw560 mw561 mw5 mw562 rfl 11 rfl rfl 0 _ rfl yk_yX11_find_0 rfl (Nat.le_of_ble_eq_true rfl) (Nat.le_of_ble_eq_true rfl) (Nat.le_of_ble_eq_true rfl) (Nat.le_of_ble_eq_true rfl) (Nat.le_of_ble_eq_true rfl) rfl rfl (vnd_e rfl) rfl (vnd_e rfl) (dsj_e rfl) ?_
      rintro r_18 w ⟨iv_19, hq_20, hq_21, rfl⟩
      refine k_ws [(cAI g a_tape 900 d_tape), (cO11_i1r1i10r1i2r5i2r12i3r4i2 h0 m_thrown a_tape m_taped m_size m_at m_end m_token m_whole m_nameSize m_fault2_4 m_place2_5 m_trouble a_letters m_failed2_3 m_hasHouse a_r a_fresh a_st a_undone a_kept m_undos m_images a_from a_begin a_motor a_change a_startFrame a_changeFrame a_lostAt a_blackAt a_slips a_leftArc a_died a_arcs m_bestSum m_nearest m_nearestTown a_there a_backAt a_sorted a_parts m_seed1 m_darkNow), (cAI g a_letters 8 d_letters), (cAI g a_fresh 311 d_fresh)] rfl ?_
      refine k_if_lt 35 X dX11_newName_k0.2.1.2.2 (jp_e rfl) (fun h_22 => ?_) (fun h_22 => ?_)
      · skip
        have j_23 : r_18.toInt < 0 := iv_lt h_22
        have iv_24 : IV r_18 (-1) (-1) := iv_ltL (iv_lt h_22) iv_19 iq_0_0_0 (zle_e rfl)
        refine k_aload_n X dX11_newName_k1.1.1.1.2 0 rfl ?_
        refine k_get (ci := 11) X inlX11 rfl 13 (nlt_e rfl) dX11_newName_k1.1.1.2.1 mw469 1 rfl rfl ?_
        refine k_if_eq 43 X dX11_newName_k1.1.1.2.2 (jp_e rfl) (fun h_25 => ?_) (fun h_25 => absurd (iv_eq iv_13 iq_0_0_0) h_25)
        refine k_iconst (v := 0) X dX11_newName_k1.1.2.1.2 ic_0 ?_
        refine k_istore_n [(2, .int 0), (0, .ref h0), (1, .int p0)] X dX11_newName_k1.1.2.2.1 (nlt_e rfl) rfl ?_
        refine (fun hL : ∀ (nn_31 : Nat) (uf_26 : Nat → Int32) (u_28 : Int32), (m_nameSize.toInt - u_28.toInt).toNat = nn_31 → (RInv uf_26) → (IV u_28 0 8) → (K183 d_fresh uf_26) → (∀ (m_at2 : Int32) (m_end2 : Int32) (m_failed2 : Int32) (m_fault2 : Int32) (d_fresh2 : Nat → Int32) (d_letters2 : Nat → Int32) (m_nameSize2 : Int32) (m_place2 : Int32) (m_token2 : Int32) (m_whole2 : Int32), (∃ n_0 : Nat, R_m_newNameX_L0 p0 m_nameSize d_letters (fun (uf_26 : Nat → Int32) => ∃ z_36 : Int32, z_36 = (167 : Int32) + p0 ∧ ∃ fa_39 : Nat → Int32, fa_39 = upd uf_26 (z_36).toNatClampNeg m_nameSize ∧ ∃ m_at2_44 : Int32, ∃ m_end2_45 : Int32, ∃ d_letters2_46 : Nat → Int32, ∃ m_nameSize2_47 : Int32, ∃ m_token2_48 : Int32, ∃ m_whole2_49 : Int32, (R_m_nextX m_size m_end d_tape d_letters m_at2_44 m_end2_45 d_letters2_46 m_nameSize2_47 m_token2_48 m_whole2_49) ∧ m_at2 = m_at2_44 ∧ m_end2 = m_end2_45 ∧ m_failed2 = m_failed2_3 ∧ m_fault2 = m_fault2_4 ∧ d_fresh2 = fa_39 ∧ d_letters2 = d_letters2_46 ∧ m_nameSize2 = m_nameSize2_47 ∧ m_place2 = m_place2_5 ∧ m_token2 = m_token2_48 ∧ m_whole2 = m_whole2_49) n_0 uf_26 u_28) → R_m_newNameX p0 m_size m_at m_end m_token m_whole m_nameSize m_fault m_place m_failed d_tape d_letters d_fresh m_at2 m_end2 m_failed2 m_fault2 d_fresh2 d_letters2 m_nameSize2 m_place2 m_token2 m_whole2) → Wk p l e _ s m args below meth c _ A g _ _ _ [(cAI g a_tape 900 d_tape), (cO11_i1r1i10r1i2r5i2r12i3r4i2 h0 m_thrown a_tape m_taped m_size m_at m_end m_token m_whole m_nameSize m_fault2_4 m_place2_5 m_trouble a_letters m_failed2_3 m_hasHouse a_r a_fresh a_st a_undone a_kept m_undos m_images a_from a_begin a_motor a_change a_startFrame a_changeFrame a_lostAt a_blackAt a_slips a_leftArc a_died a_arcs m_bestSum m_nearest m_nearestTown a_there a_backAt a_sorted a_parts m_seed1 m_darkNow), (cAI g a_letters 8 d_letters), (cAI g a_fresh 311 uf_26)] [(2, .int u_28), (0, .ref h0), (1, .int p0)] 45 [] => hL _ d_fresh 0 rfl hp_d_fresh (iv_w iq_0_0_0 (zle_e rfl) (zle_e rfl)) (fun _ _ => rfl) (fun m_at2 m_end2 m_failed2 m_fault2 d_fresh2 d_letters2 m_nameSize2 m_place2 m_token2 m_whole2 h => (Or.inl ⟨h_1, ⟨m_failed2_3, m_fault2_4, m_place2_5, hq_8, (Or.inr ⟨h_10, ⟨r_18, hq_21, (Or.inl ⟨h_22, h⟩)⟩⟩)⟩⟩))) ?_
        refine fun nn_31 => Nat.strongRecOn nn_31 (fun nn_31 ih_33 => ?_)
        intro uf_26 u_28 hm_32 hp_27 hv_29 hx_30 KH_0
        refine k_iload_n X dX11_newName_k1.1.2.2.2 0 rfl ?_
        refine k_aload_n X dX11_newName_k1.2.1.1.1 1 rfl ?_
        refine k_get (ci := 11) X inlX11 rfl 8 (nlt_e rfl) dX11_newName_k1.2.1.1.2 mw493 1 rfl rfl ?_
        refine k_ic_ge 80 X dX11_newName_k1.2.1.2.1 (jp_e rfl) (fun h_34 => ?_) (fun h_34 => ?_)
        · skip
          have j_35 : m_nameSize.toInt ≤ u_28.toInt := iv_le h_34
          refine k_aload_n X dX11_newName_k2.2.1.2.2 1 rfl ?_
          refine k_get (ci := 11) X inlX11 rfl 16 (nlt_e rfl) dX11_newName_k2.2.2.1.1 mw171 1 rfl rfl ?_
          refine k_sipush (v := 167) X dX11_newName_k2.2.2.1.2 si_167 ?_
          refine k_iload_n X dX11_newName_k2.2.2.2.1 2 rfl ?_
          refine k_iadd X dX11_newName_k2.2.2.2.2 ?_
          refine k_nm (fun z_36 ez_36 => ?_)
          have i_37 : z_36.toInt = 167 + p0.toInt := in_add ez_36 iq_167_167_167 hv_p0 (zle_e rfl) (zle_e rfl)
          have iv_38 : IV z_36 167 182 := iz2 i_37 hv_p0 (zle_e rfl) (zle_e rfl)
          refine k_aload_n X dX11_newName_k3.1.1 1 rfl ?_
          refine k_get (ci := 11) X inlX11 rfl 8 (nlt_e rfl) dX11_newName_k3.1.2.1 mw493 1 rfl rfl ?_
          refine k_iast [(cAI g a_tape 900 d_tape), (cO11_i1r1i10r1i2r5i2r12i3r4i2 h0 m_thrown a_tape m_taped m_size m_at m_end m_token m_whole m_nameSize m_fault2_4 m_place2_5 m_trouble a_letters m_failed2_3 m_hasHouse a_r a_fresh a_st a_undone a_kept m_undos m_images a_from a_begin a_motor a_change a_startFrame a_changeFrame a_lostAt a_blackAt a_slips a_leftArc a_died a_arcs m_bestSum m_nearest m_nearestTown a_there a_backAt a_sorted a_parts m_seed1 m_darkNow), (cAI g a_letters 8 d_letters), (cAI g a_fresh 311 (upd uf_26 (z_36 : Int32).toNatClampNeg m_nameSize))] X dX11_newName_k3.1.2.2 3 rfl (iv_in iv_38 (zle_e rfl) (zle_l rfl)) rfl ?_
          have i_41 : z_36.toInt = 167 + 1 * p0.toInt := by omega
          refine (fun hg : ∀ fa_39 : Nat → Int32, fa_39 = upd uf_26 (z_36 : Int32).toNatClampNeg m_nameSize → RInv fa_39 → K16 uf_26 fa_39 → Wk p l e _ s m args below meth c _ A g _ _ _ [(cAI g a_tape 900 d_tape), (cO11_i1r1i10r1i2r5i2r12i3r4i2 h0 m_thrown a_tape m_taped m_size m_at m_end m_token m_whole m_nameSize m_fault2_4 m_place2_5 m_trouble a_letters m_failed2_3 m_hasHouse a_r a_fresh a_st a_undone a_kept m_undos m_images a_from a_begin a_motor a_change a_startFrame a_changeFrame a_lostAt a_blackAt a_slips a_leftArc a_died a_arcs m_bestSum m_nearest m_nearestTown a_there a_backAt a_sorted a_parts m_seed1 m_darkNow), (cAI g a_letters 8 d_letters), (cAI g a_fresh 311 fa_39)] _ _ _ => hg _ rfl (w_rb_167_1 hp_27 i_41 (iv_w hv_p0 (zle_e rfl) (zle_e rfl)) (iv_w iv_17 (zle_e rfl) (zle_e rfl))) (k16_u (z := z_36) (by have := iv_38; omega))) (fun fa_39 eq_43 hR_40 hk_42 => ?_)
          refine k_aload_n X dX11_newName_k3.2.1 1 rfl ?_
          refine k_callVV (n := 0) (As := []) (st := []) X [(cO11_i1r1i10r1i2r5i2r12i3r4i2 h0 m_thrown a_tape m_taped m_size m_at m_end m_token m_whole m_nameSize m_fault2_4 m_place2_5 m_trouble a_letters m_failed2_3 m_hasHouse a_r a_fresh a_st a_undone a_kept m_undos m_images a_from a_begin a_motor a_change a_startFrame a_changeFrame a_lostAt a_blackAt a_slips a_leftArc a_died a_arcs m_bestSum m_nearest m_nearestTown a_there a_backAt a_sorted a_parts m_seed1 m_darkNow), (cAI g a_tape 900 d_tape), (cAI g a_letters 8 d_letters)] [(cAI g a_fresh 311 fa_39)] [1, 0, 2] [3] (m_nextX l g h0 m_thrown a_tape m_taped m_size m_at m_end m_token m_whole m_nameSize m_fault2_4 m_place2_5 m_trouble a_letters m_failed2_3 m_hasHouse a_r a_fresh a_st a_undone a_kept m_undos m_images a_from a_begin a_motor a_change a_startFrame a_changeFrame a_lostAt a_blackAt a_slips a_leftArc a_died a_arcs m_bestSum m_nearest m_nearestTown a_there a_backAt a_sorted a_parts m_seed1 m_darkNow d_tape d_letters (iv_w hv_m_size (zle_e rfl) (zle_e rfl)) (iv_w hv_m_end (zle_e rfl) (zle_e rfl)) (iv_w iv_17 (zle_e rfl) (zle_e rfl))) dX11_newName_k3.2.2.1 mw489 mw490 mw491 mw5 mw492 rfl 11 rfl rfl 0 _ rfl yk_yX11_next_0 rfl (Nat.le_of_ble_eq_true rfl) (Nat.le_of_ble_eq_true rfl) (Nat.le_of_ble_eq_true rfl) (Nat.le_of_ble_eq_true rfl) (Nat.le_of_ble_eq_true rfl) rfl rfl (vnd_e rfl) rfl (vnd_e rfl) (dsj_e rfl) ?_
          intro w zq
          refine exE6 zq ?_
          clear zq
          intro m_at2_44 m_end2_45 d_letters2_46 m_nameSize2_47 m_token2_48 m_whole2_49 iv_51 zq
          refine exA5 zq ?_
          clear zq
          intro iv_52 hq_53 hq_54 hq_55 hk_56 zq
          subst zq
          refine k_ws [(cAI g a_fresh 311 fa_39), (cO11_i1r1i10r1i2r5i2r12i3r4i2 h0 m_thrown a_tape m_taped m_size m_at2_44 m_end2_45 m_token2_48 m_whole2_49 m_nameSize2_47 m_fault2_4 m_place2_5 m_trouble a_letters m_failed2_3 m_hasHouse a_r a_fresh a_st a_undone a_kept m_undos m_images a_from a_begin a_motor a_change a_startFrame a_changeFrame a_lostAt a_blackAt a_slips a_leftArc a_died a_arcs m_bestSum m_nearest m_nearestTown a_there a_backAt a_sorted a_parts m_seed1 m_darkNow), (cAI g a_tape 900 d_tape), (cAI g a_letters 8 d_letters2_46)] rfl ?_
          exact k_vret X hr dX11_newName_k3.2.2.2 (Nat.le_of_ble_eq_true rfl) (Nat.le_of_ble_eq_true rfl) [1, 2, 3, 0] (vnd_e rfl) rfl rfl ⟨m_at2_44, m_end2_45, m_failed2_3, m_fault2_4, fa_39, d_letters2_46, m_nameSize2_47, m_place2_5, m_token2_48, m_whole2_49, (iv_w iv_51 (zle_e rfl) (zle_e rfl)), (iv_w iv_13 (zle_e rfl) (zle_e rfl)), (iv_w iv_52 (zle_e rfl) (zle_e rfl)), hR_40, (kn_u hx_30 eq_43 (by omega) (by have := hv_p0; omega)), (by omega), (KH_0 _ _ _ _ _ _ _ _ _ _ ⟨0 + 1, (Or.inl ⟨h_34, ⟨z_36, ez_36, ⟨fa_39, eq_43, ⟨m_at2_44, m_end2_45, d_letters2_46, m_nameSize2_47, m_token2_48, m_whole2_49, hq_55, ⟨rfl, rfl, rfl, rfl, rfl, rfl, rfl, rfl, rfl, rfl⟩⟩⟩⟩⟩)⟩), hk_56, rfl⟩
        · skip
          have j_57 : u_28.toInt < m_nameSize.toInt := iv_nle h_34
          have iv_58 : IV u_28 0 7 := iv_ltL (iv_nle h_34) hv_29 iv_17 (zle_e rfl)
          have iv_59 : IV m_nameSize 1 8 := iv_ltR (iv_nle h_34) hv_29 iv_17 (zle_e rfl)
          refine k_aload_n X dX11_newName_k1.2.1.2.2 1 rfl ?_
          refine k_get (ci := 11) X inlX11 rfl 16 (nlt_e rfl) dX11_newName_k1.2.2.1.1 mw171 1 rfl rfl ?_
          refine k_sipush (v := 183) X dX11_newName_k1.2.2.1.2 si_183 ?_
          refine k_bipush (v := 8) X dX11_newName_k1.2.2.2.1 bi_8 ?_
          refine k_iload_n X dX11_newName_k1.2.2.2.2 2 rfl ?_
          refine k_imul X dX11_newName_k2.1.1.1.1 ?_
          refine k_nm (fun z_60 ez_60 => ?_)
          have i_61 : z_60.toInt = 8 * p0.toInt := in_mul ez_60 (by decide) (zle_e rfl) hv_p0 (zle_e rfl) (zle_e rfl)
          have iv_62 : IV z_60 0 120 := iz4 i_61 hv_p0 (zle_e rfl) (zle_e rfl) (zle_e rfl)
          refine k_iadd X dX11_newName_k2.1.1.1.2 ?_
          refine k_nm (fun z_63 ez_63 => ?_)
          have i_64 : z_63.toInt = 183 + z_60.toInt := in_add ez_63 iq_183_183_183 iv_62 (zle_e rfl) (zle_e rfl)
          have iv_65 : IV z_63 183 303 := iz2 i_64 iv_62 (zle_e rfl) (zle_e rfl)
          refine k_iload_n X dX11_newName_k2.1.1.2.1 0 rfl ?_
          refine k_iadd X dX11_newName_k2.1.1.2.2 ?_
          refine k_nm (fun z_66 ez_66 => ?_)
          have i_67 : z_66.toInt = z_63.toInt + u_28.toInt := in_add ez_66 iv_65 iv_58 (zle_e rfl) (zle_e rfl)
          have iv_68 : IV z_66 183 310 := by have := iv_65; have := iv_58; rw [IV, i_67]; omega
          refine k_aload_n X dX11_newName_k2.1.2.1.1 1 rfl ?_
          refine k_get (ci := 11) X inlX11 rfl 12 (nlt_e rfl) dX11_newName_k2.1.2.1.2 mw169 1 rfl rfl ?_
          refine k_iload_n X dX11_newName_k2.1.2.2.1 0 rfl ?_
          refine k_iald X dX11_newName_k2.1.2.2.2 2 rfl (iv_in iv_58 (zle_e rfl) (zle_l rfl)) ?_
          refine k_nm (fun z_69 ez_69 => ?_)
          refine k_iast [(cAI g a_tape 900 d_tape), (cO11_i1r1i10r1i2r5i2r12i3r4i2 h0 m_thrown a_tape m_taped m_size m_at m_end m_token m_whole m_nameSize m_fault2_4 m_place2_5 m_trouble a_letters m_failed2_3 m_hasHouse a_r a_fresh a_st a_undone a_kept m_undos m_images a_from a_begin a_motor a_change a_startFrame a_changeFrame a_lostAt a_blackAt a_slips a_leftArc a_died a_arcs m_bestSum m_nearest m_nearestTown a_there a_backAt a_sorted a_parts m_seed1 m_darkNow), (cAI g a_letters 8 d_letters), (cAI g a_fresh 311 (upd uf_26 (z_66 : Int32).toNatClampNeg z_69))] X dX11_newName_k2.2.1.1.1 3 rfl (iv_in iv_68 (zle_e rfl) (zle_l rfl)) rfl ?_
          refine (fun hg : ∀ fa_70 : Nat → Int32, fa_70 = upd uf_26 (z_66 : Int32).toNatClampNeg z_69 → RInv fa_70 → K16 uf_26 fa_70 → Wk p l e _ s m args below meth c _ A g _ _ _ [(cAI g a_tape 900 d_tape), (cO11_i1r1i10r1i2r5i2r12i3r4i2 h0 m_thrown a_tape m_taped m_size m_at m_end m_token m_whole m_nameSize m_fault2_4 m_place2_5 m_trouble a_letters m_failed2_3 m_hasHouse a_r a_fresh a_st a_undone a_kept m_undos m_images a_from a_begin a_motor a_change a_startFrame a_changeFrame a_lostAt a_blackAt a_slips a_leftArc a_died a_arcs m_bestSum m_nearest m_nearestTown a_there a_backAt a_sorted a_parts m_seed1 m_darkNow), (cAI g a_letters 8 d_letters), (cAI g a_fresh 311 fa_70)] _ _ _ => hg _ rfl (w_let (z := z_66) hp_27 (by have := iv_68; omega)) (k16_u (z := z_66) (by have := iv_68; omega))) (fun fa_70 eq_73 hR_71 hk_72 => ?_)
          obtain ⟨z_74, ez_74⟩ : ∃ y : Int32, u_28 + Int32.ofInt 1 = y := ⟨_, rfl⟩
          refine k_iinc z_74 [(2, .int z_74), (0, .ref h0), (1, .int p0)] 0 X dX11_newName_k2.2.1.1.2 rfl ez_74 (nlt_e rfl) rfl ?_
          have i_75 : z_74.toInt = u_28.toInt + 1 := in_inc ez_74 (oin_e rfl) iv_58 (zle_e rfl) (zle_e rfl)
          have iv_76 : IV z_74 1 8 := iz1 i_75 iv_58 (zle_e rfl) (zle_e rfl)
          refine k_goto 45 X dX11_newName_k2.2.1.2.1 (jp_e rfl) ?_
          exact ih_33 _ (by omega) fa_70 z_74 rfl hR_71 (iv_w iv_76 (zle_e rfl) (zle_e rfl)) (k183_u hx_30 eq_73 (by have := iv_68; omega)) (fun m_at2 m_end2 m_failed2 m_fault2 d_fresh2 d_letters2 m_nameSize2 m_place2 m_token2 m_whole2 h => h.elim (fun n_0 q => (KH_0 _ _ _ _ _ _ _ _ _ _ ⟨n_0 + 1, (Or.inr ⟨h_34, ⟨z_60, ez_60, ⟨z_63, ez_63, ⟨z_66, ez_66, ⟨z_69, ez_69, ⟨fa_70, eq_73, ⟨z_74, ez_74, q⟩⟩⟩⟩⟩⟩⟩)⟩)))
      · skip
        have j_77 : 0 ≤ r_18.toInt := iv_nlt h_22
        have iv_78 : IV r_18 0 15 := iv_leR (iv_nlt h_22) iq_0_0_0 iv_19 (zle_e rfl)
        refine k_aload_n X dX11_newName_k0.2.2.1.1 0 rfl ?_
        refine k_iconst (v := 3) X dX11_newName_k0.2.2.1.2 ic_3 ?_
        refine k_aload_n X dX11_newName_k0.2.2.2.1 0 rfl ?_
        refine k_get (ci := 11) X inlX11 rfl 4 (nlt_e rfl) dX11_newName_k0.2.2.2.2 mw473 1 rfl rfl ?_
        refine k_callVV (n := 2) (As := [.int 3, .int m_at]) (st := []) X [(cO11_i1r1i10r1i2r5i2r12i3r4i2 h0 m_thrown a_tape m_taped m_size m_at m_end m_token m_whole m_nameSize m_fault2_4 m_place2_5 m_trouble a_letters m_failed2_3 m_hasHouse a_r a_fresh a_st a_undone a_kept m_undos m_images a_from a_begin a_motor a_change a_startFrame a_changeFrame a_lostAt a_blackAt a_slips a_leftArc a_died a_arcs m_bestSum m_nearest m_nearestTown a_there a_backAt a_sorted a_parts m_seed1 m_darkNow)] [(cAI g a_tape 900 d_tape), (cAI g a_letters 8 d_letters), (cAI g a_fresh 311 d_fresh)] [1] [0, 2, 3] (m_badX l g h0 3 m_at m_thrown a_tape m_taped m_size m_at m_end m_token m_whole m_nameSize m_fault2_4 m_place2_5 m_trouble a_letters m_failed2_3 m_hasHouse a_r a_fresh a_st a_undone a_kept m_undos m_images a_from a_begin a_motor a_change a_startFrame a_changeFrame a_lostAt a_blackAt a_slips a_leftArc a_died a_arcs m_bestSum m_nearest m_nearestTown a_there a_backAt a_sorted a_parts m_seed1 m_darkNow (iv_w iv_13 (zle_e rfl) (zle_e rfl))) dX11_newName_k1.1.1.1.1 mw519 mw520 mw521 mw5 mw522 rfl 11 rfl rfl 0 _ rfl yk_yX11_bad_2 rfl (Nat.le_of_ble_eq_true rfl) (Nat.le_of_ble_eq_true rfl) (Nat.le_of_ble_eq_true rfl) (Nat.le_of_ble_eq_true rfl) (Nat.le_of_ble_eq_true rfl) rfl rfl (vnd_e rfl) rfl (vnd_e rfl) (dsj_e rfl) ?_
        rintro w ⟨m_failed2_79, m_fault2_80, m_place2_81, iv_83, hq_84, rfl⟩
        refine k_ws [(cAI g a_tape 900 d_tape), (cAI g a_letters 8 d_letters), (cAI g a_fresh 311 d_fresh), (cO11_i1r1i10r1i2r5i2r12i3r4i2 h0 m_thrown a_tape m_taped m_size m_at m_end m_token m_whole m_nameSize m_fault2_80 m_place2_81 m_trouble a_letters m_failed2_79 m_hasHouse a_r a_fresh a_st a_undone a_kept m_undos m_images a_from a_begin a_motor a_change a_startFrame a_changeFrame a_lostAt a_blackAt a_slips a_leftArc a_died a_arcs m_bestSum m_nearest m_nearestTown a_there a_backAt a_sorted a_parts m_seed1 m_darkNow)] rfl ?_
        refine k_aload_n X dX11_newName_k1.1.1.1.2 0 rfl ?_
        refine k_get (ci := 11) X inlX11 rfl 13 (nlt_e rfl) dX11_newName_k1.1.1.2.1 mw469 3 rfl rfl ?_
        refine k_if_eq 43 X dX11_newName_k1.1.1.2.2 (jp_e rfl) (fun h_85 => (iv_eqN h_85 iv_83 iq_0_0_0 (by decide)).elim) (fun h_85 => ?_)
        exact k_vret X hr dX11_newName_k1.1.2.1.1 (Nat.le_of_ble_eq_true rfl) (Nat.le_of_ble_eq_true rfl) [3, 0, 1, 2] (vnd_e rfl) rfl rfl ⟨m_at, m_end, m_failed2_79, m_fault2_80, d_fresh, d_letters, m_nameSize, m_place2_81, m_token, m_whole, (iv_w hv_m_end (zle_e rfl) (zle_e rfl)), (iv_w iv_83 (zle_e rfl) (zle_e rfl)), (iv_w iv_17 (zle_e rfl) (zle_e rfl)), hp_d_fresh, (fun _ _ _ => rfl), (by omega), (Or.inl ⟨h_1, ⟨m_failed2_3, m_fault2_4, m_place2_5, hq_8, (Or.inr ⟨h_10, ⟨r_18, hq_21, (Or.inr ⟨h_22, ⟨m_failed2_79, m_fault2_80, m_place2_81, hq_84, ⟨rfl, rfl, rfl, rfl, rfl, rfl, rfl, rfl, rfl, rfl⟩⟩⟩)⟩⟩)⟩⟩), (fun _ => (iv_w iv_17 (zle_e rfl) (zle_e rfl))), rfl⟩
  · skip
    have iv_86 : IV m_failed 1 1 := iv_neL h_1 hv_m_failed iq_0_0_0 (zle_e rfl)
    exact k_vret X hr dX11_newName_k0.1.1.2.2 (Nat.le_of_ble_eq_true rfl) (Nat.le_of_ble_eq_true rfl) [0, 1, 2, 3] (vnd_e rfl) rfl rfl ⟨m_at, m_end, m_failed, m_fault, d_fresh, d_letters, m_nameSize, m_place, m_token, m_whole, (iv_w hv_m_end (zle_e rfl) (zle_e rfl)), (iv_w iv_86 (zle_e rfl) (zle_e rfl)), (iv_w hv_m_nameSize (zle_e rfl) (zle_e rfl)), hp_d_fresh, (fun _ _ _ => rfl), (by omega), (Or.inr ⟨h_1, ⟨rfl, rfl, rfl, rfl, rfl, rfl, rfl, rfl, rfl, rfl⟩⟩), hc_0, rfl⟩


set_option maxHeartbeats 4000000 in
set_option maxRecDepth 100000 in
theorem m_namedRX (l : Launch) (g : Gx) (h0 : Nat) (m_thrown : Int32) (a_tape : Nat) (m_taped : Int32) (m_size : Int32) (m_at : Int32) (m_end : Int32) (m_token : Int32) (m_whole : Int32) (m_nameSize : Int32) (m_fault : Int32) (m_place : Int32) (m_trouble : Int32) (a_letters : Nat) (m_failed : Int32) (m_hasHouse : Int32) (a_r : Nat) (a_fresh : Nat) (a_st : Nat) (a_undone : Nat) (a_kept : Nat) (m_undos : Int32) (m_images : Int32) (a_from : Nat) (a_begin : Nat) (a_motor : Nat) (a_change : Nat) (a_startFrame : Nat) (a_changeFrame : Nat) (a_lostAt : Nat) (a_blackAt : Nat) (a_slips : Nat) (a_leftArc : Nat) (a_died : Nat) (a_arcs : Nat) (m_bestSum : Int32) (m_nearest : Int32) (m_nearestTown : Int32) (a_there : Nat) (a_backAt : Nat) (a_sorted : Nat) (a_parts : Nat) (m_seed1 : Int32) (m_darkNow : Int32) (d_letters : Nat → Int32) (d_fresh : Nat → Int32) (hv_m_nameSize : IV m_nameSize 0 900) (hv_m_failed : IV m_failed 0 1) (hp_d_fresh : RInv d_fresh) (hc_0 : m_token = 2 → IV m_nameSize 0 8) : cI l g yX11_named cX11_named 4 (some .int) 6 129 0 0 [.ref h0, .int 0, .int 7] [(cO11_i1r1i10r1i2r5i2r12i3r4i2 h0 m_thrown a_tape m_taped m_size m_at m_end m_token m_whole m_nameSize m_fault m_place m_trouble a_letters m_failed m_hasHouse a_r a_fresh a_st a_undone a_kept m_undos m_images a_from a_begin a_motor a_change a_startFrame a_changeFrame a_lostAt a_blackAt a_slips a_leftArc a_died a_arcs m_bestSum m_nearest m_nearestTown a_there a_backAt a_sorted a_parts m_seed1 m_darkNow), (cAI g a_letters 8 d_letters), (cAI g a_fresh 311 d_fresh)] (fun r w => ∃ (m_failed2 : Int32) (m_fault2 : Int32) (m_place2 : Int32), IV m_failed2 0 1 ∧ IV r 0 7 ∧ (R_m_namedRX m_at m_token m_nameSize m_fault m_place m_failed d_letters d_fresh m_failed2 m_fault2 m_place2 r) ∧ w = [(cO11_i1r1i10r1i2r5i2r12i3r4i2 h0 m_thrown a_tape m_taped m_size m_at m_end m_token m_whole m_nameSize m_fault2 m_place2 m_trouble a_letters m_failed2 m_hasHouse a_r a_fresh a_st a_undone a_kept m_undos m_images a_from a_begin a_motor a_change a_startFrame a_changeFrame a_lostAt a_blackAt a_slips a_leftArc a_died a_arcs m_bestSum m_nearest m_nearestTown a_there a_backAt a_sorted a_parts m_seed1 m_darkNow), (cAI g a_letters 8 d_letters), (cAI g a_fresh 311 d_fresh)]) := by
  refine cI.of (by decide) (Nat.le_of_ble_eq_true rfl) ?_
  intro p e s m args below meth c A X hr hi
  refine k_lveq [(0, .ref h0), (1, .int 0), (2, .int 7)] rfl ?_
  refine k_aload_n X dX11_named_k0.1.1.1.1 0 rfl ?_
  refine k_get (ci := 11) X inlX11 rfl 13 (nlt_e rfl) dX11_named_k0.1.1.1.2 mw469 0 rfl rfl ?_
  refine k_if_eq 9 X dX11_named_k0.1.1.2.1 (jp_e rfl) (fun h_1 => ?_) (fun h_1 => ?_)
  · skip
    have iv_2 : IV m_failed 0 0 := iv_meet hv_m_failed (iv_e h_1 iq_0_0_0) (zle_o rfl) (zle_o rfl)
    refine k_aload_n X dX11_named_k0.1.2.1.2 0 rfl ?_
    refine k_callVV (n := 0) (As := []) (st := []) X [(cO11_i1r1i10r1i2r5i2r12i3r4i2 h0 m_thrown a_tape m_taped m_size m_at m_end m_token m_whole m_nameSize m_fault m_place m_trouble a_letters m_failed m_hasHouse a_r a_fresh a_st a_undone a_kept m_undos m_images a_from a_begin a_motor a_change a_startFrame a_changeFrame a_lostAt a_blackAt a_slips a_leftArc a_died a_arcs m_bestSum m_nearest m_nearestTown a_there a_backAt a_sorted a_parts m_seed1 m_darkNow), (cAI g a_letters 8 d_letters)] [(cAI g a_fresh 311 d_fresh)] [0, 1] [2] (m_mustNameX l g h0 m_thrown a_tape m_taped m_size m_at m_end m_token m_whole m_nameSize m_fault m_place m_trouble a_letters m_failed m_hasHouse a_r a_fresh a_st a_undone a_kept m_undos m_images a_from a_begin a_motor a_change a_startFrame a_changeFrame a_lostAt a_blackAt a_slips a_leftArc a_died a_arcs m_bestSum m_nearest m_nearestTown a_there a_backAt a_sorted a_parts m_seed1 m_darkNow d_letters (iv_w hv_m_nameSize (zle_e rfl) (zle_e rfl)) (iv_w iv_2 (zle_e rfl) (zle_e rfl)) hc_0) dX11_named_k0.1.2.2.1 mw555 mw556 mw557 mw5 mw558 rfl 11 rfl rfl 0 _ rfl yk_yX11_mustName_0 rfl (Nat.le_of_ble_eq_true rfl) (Nat.le_of_ble_eq_true rfl) (Nat.le_of_ble_eq_true rfl) (Nat.le_of_ble_eq_true rfl) (Nat.le_of_ble_eq_true rfl) rfl rfl (vnd_e rfl) rfl (vnd_e rfl) (dsj_e rfl) ?_
    rintro w ⟨m_failed2_3, m_fault2_4, m_place2_5, iv_7, hq_8, hk_9, rfl⟩
    refine k_ws [(cAI g a_fresh 311 d_fresh), (cO11_i1r1i10r1i2r5i2r12i3r4i2 h0 m_thrown a_tape m_taped m_size m_at m_end m_token m_whole m_nameSize m_fault2_4 m_place2_5 m_trouble a_letters m_failed2_3 m_hasHouse a_r a_fresh a_st a_undone a_kept m_undos m_images a_from a_begin a_motor a_change a_startFrame a_changeFrame a_lostAt a_blackAt a_slips a_leftArc a_died a_arcs m_bestSum m_nearest m_nearestTown a_there a_backAt a_sorted a_parts m_seed1 m_darkNow), (cAI g a_letters 8 d_letters)] rfl ?_
    refine k_aload_n X dX11_named_k0.1.2.2.2 0 rfl ?_
    refine k_get (ci := 11) X inlX11 rfl 13 (nlt_e rfl) dX11_named_k0.2.1.1.1 mw469 1 rfl rfl ?_
    refine k_if_eq 22 X dX11_named_k0.2.1.1.2 (jp_e rfl) (fun h_10 => ?_) (fun h_10 => ?_)
    · skip
      have iv_11 : IV m_failed2_3 0 0 := iv_meet iv_7 (iv_e h_10 iq_0_0_0) (zle_o rfl) (zle_o rfl)
      have hc_12 := hk_9.resolve_left (fun q => iv_eqN q iv_11 iq_1_1_1 (by decide))
      have iv_13 : IV m_token 2 2 := iv_meet (iv_any m_token) hc_12 (zle_o rfl) (zle_o rfl)
      have hc_14 := hc_0 (iv_eq iv_13 iq_2_2_2)
      have iv_15 : IV m_nameSize 0 8 := iv_meet hv_m_nameSize hc_14 (zle_o rfl) (zle_o rfl)
      refine k_aload_n X dX11_named_k0.2.2.1.1 0 rfl ?_
      refine k_callVI (n := 0) (As := []) (st := []) X [(cO11_i1r1i10r1i2r5i2r12i3r4i2 h0 m_thrown a_tape m_taped m_size m_at m_end m_token m_whole m_nameSize m_fault2_4 m_place2_5 m_trouble a_letters m_failed2_3 m_hasHouse a_r a_fresh a_st a_undone a_kept m_undos m_images a_from a_begin a_motor a_change a_startFrame a_changeFrame a_lostAt a_blackAt a_slips a_leftArc a_died a_arcs m_bestSum m_nearest m_nearestTown a_there a_backAt a_sorted a_parts m_seed1 m_darkNow), (cAI g a_letters 8 d_letters), (cAI g a_fresh 311 d_fresh)] [] [1, 2, 0] [] (m_findX l g h0 m_thrown a_tape m_taped m_size m_at m_end m_token m_whole m_nameSize m_fault2_4 m_place2_5 m_trouble a_letters m_failed2_3 m_hasHouse a_r a_fresh a_st a_undone a_kept m_undos m_images a_from a_begin a_motor a_change a_startFrame a_changeFrame a_lostAt a_blackAt a_slips a_leftArc a_died a_arcs m_bestSum m_nearest m_nearestTown a_there a_backAt a_sorted a_parts m_seed1 m_darkNow d_letters d_fresh (iv_w iv_15 (zle_e rfl) (zle_e rfl)) hp_d_fresh) dX11_named_k0.2.2.1.2 mw559 mw560 mw561 mw5 mw562 rfl 11 rfl rfl 0 _ rfl yk_yX11_find_0 rfl (Nat.le_of_ble_eq_true rfl) (Nat.le_of_ble_eq_true rfl) (Nat.le_of_ble_eq_true rfl) (Nat.le_of_ble_eq_true rfl) (Nat.le_of_ble_eq_true rfl) rfl rfl (vnd_e rfl) rfl (vnd_e rfl) (dsj_e rfl) ?_
      rintro r_16 w ⟨iv_17, hq_18, hq_19, rfl⟩
      refine k_ws [(cO11_i1r1i10r1i2r5i2r12i3r4i2 h0 m_thrown a_tape m_taped m_size m_at m_end m_token m_whole m_nameSize m_fault2_4 m_place2_5 m_trouble a_letters m_failed2_3 m_hasHouse a_r a_fresh a_st a_undone a_kept m_undos m_images a_from a_begin a_motor a_change a_startFrame a_changeFrame a_lostAt a_blackAt a_slips a_leftArc a_died a_arcs m_bestSum m_nearest m_nearestTown a_there a_backAt a_sorted a_parts m_seed1 m_darkNow), (cAI g a_letters 8 d_letters), (cAI g a_fresh 311 d_fresh)] rfl ?_
      refine k_istore_n [(3, .int r_16), (0, .ref h0), (1, .int 0), (2, .int 7)] X dX11_named_k0.2.2.2.1 (nlt_e rfl) rfl ?_
      refine k_iload_n X dX11_named_k0.2.2.2.2 0 rfl ?_
      refine k_iload_n X dX11_named_k1.1.1.1.1 2 rfl ?_
      refine k_iload_n X dX11_named_k1.1.1.1.2 3 rfl ?_
      refine k_callSI (n := 3) (As := [.int r_16, .int 0, .int 7]) (st := []) X [] [(cO11_i1r1i10r1i2r5i2r12i3r4i2 h0 m_thrown a_tape m_taped m_size m_at m_end m_token m_whole m_nameSize m_fault2_4 m_place2_5 m_trouble a_letters m_failed2_3 m_hasHouse a_r a_fresh a_st a_undone a_kept m_undos m_images a_from a_begin a_motor a_change a_startFrame a_changeFrame a_lostAt a_blackAt a_slips a_leftArc a_died a_arcs m_bestSum m_nearest m_nearestTown a_there a_backAt a_sorted a_parts m_seed1 m_darkNow), (cAI g a_letters 8 d_letters), (cAI g a_fresh 311 d_fresh)] [] [0, 1, 2] (m_inX l g r_16 0 7) dX11_named_k1.1.1.2.1 mw482 mw483 mw5 mw484 yk_yX11_in_3 rfl (Nat.le_of_ble_eq_true rfl) (Nat.le_of_ble_eq_true rfl) (Nat.le_of_ble_eq_true rfl) (Nat.le_of_ble_eq_true rfl) (Nat.le_of_ble_eq_true rfl) rfl rfl (vnd_e rfl) rfl (vnd_e rfl) (dsj_e rfl) ?_
      rintro r_20 w ⟨iv_21, hq_22, hk_23, hk_24, rfl⟩
      refine k_ws [(cO11_i1r1i10r1i2r5i2r12i3r4i2 h0 m_thrown a_tape m_taped m_size m_at m_end m_token m_whole m_nameSize m_fault2_4 m_place2_5 m_trouble a_letters m_failed2_3 m_hasHouse a_r a_fresh a_st a_undone a_kept m_undos m_images a_from a_begin a_motor a_change a_startFrame a_changeFrame a_lostAt a_blackAt a_slips a_leftArc a_died a_arcs m_bestSum m_nearest m_nearestTown a_there a_backAt a_sorted a_parts m_seed1 m_darkNow), (cAI g a_letters 8 d_letters), (cAI g a_fresh 311 d_fresh)] rfl ?_
      refine k_if_ne 45 X dX11_named_k1.1.1.2.2 (jp_e rfl) (fun h_25 => ?_) (fun h_25 => ?_)
      · skip
        have hc_26 := hk_23.resolve_left h_25
        have j_27 : 0 ≤ r_16.toInt := hc_26.1
        have iv_28 : IV r_16 0 15 := iv_leR hc_26.1 iq_0_0_0 iv_17 (zle_e rfl)
        have j_29 : r_16.toInt ≤ 7 := hc_26.2
        have iv_30 : IV r_16 0 7 := iv_leL hc_26.2 iv_28 iq_7_7_7 (zle_e rfl)
        have iv_31 : IV r_20 1 1 := iv_neL h_25 iv_21 iq_0_0_0 (zle_e rfl)
        refine k_aload_n X dX11_named_k1.2.1.1.2 1 rfl ?_
        refine k_get (ci := 11) X inlX11 rfl 13 (nlt_e rfl) dX11_named_k1.2.1.2.1 mw469 0 rfl rfl ?_
        refine k_if_eq 56 X dX11_named_k1.2.1.2.2 (jp_e rfl) (fun h_32 => ?_) (fun h_32 => absurd (iv_eq iv_11 iq_0_0_0) h_32)
        refine k_iload_n X dX11_named_k1.2.2.2.1 0 rfl ?_
        refine k_iload_n X dX11_named_k1.2.2.2.2 2 rfl ?_
        refine k_isub X dX11_named_k2.1 ?_
        refine k_nm (fun z_33 ez_33 => ?_)
        have i_34 : z_33.toInt = r_16.toInt - 0 := in_sub ez_33 iv_30 iq_0_0_0 (zle_e rfl) (zle_e rfl)
        have iv_35 : IV z_33 0 7 := iz5 i_34 iv_30 (zle_e rfl) (zle_e rfl)
        exact k_iret X hr dX11_named_k2.2 (Nat.le_of_ble_eq_true rfl) (Nat.le_of_ble_eq_true rfl) [0, 1, 2] (vnd_e rfl) rfl rfl ⟨m_failed2_3, m_fault2_4, m_place2_5, (iv_w iv_11 (zle_e rfl) (zle_e rfl)), (iv_w iv_35 (zle_e rfl) (zle_e rfl)), (Or.inl ⟨h_1, ⟨m_failed2_3, m_fault2_4, m_place2_5, hq_8, (Or.inl ⟨h_10, ⟨r_16, hq_19, ⟨r_20, hq_22, (Or.inl ⟨h_25, ⟨z_33, ez_33, ⟨rfl, rfl, rfl, rfl⟩⟩⟩)⟩⟩⟩)⟩⟩), rfl⟩
      · skip
        have iv_36 : IV r_20 0 0 := iv_meet iv_21 (iv_e h_25 iq_0_0_0) (zle_o rfl) (zle_o rfl)
        have hc_37 := hk_24 (iv_eq iv_36 iq_0_0_0)
        have j_38 : r_16.toInt < 0 ∨ 7 < r_16.toInt := hc_37
        refine k_aload_n X dX11_named_k1.1.2.1.1 1 rfl ?_
        refine k_iconst (v := 2) X dX11_named_k1.1.2.1.2 ic_2 ?_
        refine k_aload_n X dX11_named_k1.1.2.2.1 1 rfl ?_
        refine k_get (ci := 11) X inlX11 rfl 4 (nlt_e rfl) dX11_named_k1.1.2.2.2 mw473 0 rfl rfl ?_
        refine k_callVV (n := 2) (As := [.int 2, .int m_at]) (st := []) X [(cO11_i1r1i10r1i2r5i2r12i3r4i2 h0 m_thrown a_tape m_taped m_size m_at m_end m_token m_whole m_nameSize m_fault2_4 m_place2_5 m_trouble a_letters m_failed2_3 m_hasHouse a_r a_fresh a_st a_undone a_kept m_undos m_images a_from a_begin a_motor a_change a_startFrame a_changeFrame a_lostAt a_blackAt a_slips a_leftArc a_died a_arcs m_bestSum m_nearest m_nearestTown a_there a_backAt a_sorted a_parts m_seed1 m_darkNow)] [(cAI g a_letters 8 d_letters), (cAI g a_fresh 311 d_fresh)] [0] [1, 2] (m_badX l g h0 2 m_at m_thrown a_tape m_taped m_size m_at m_end m_token m_whole m_nameSize m_fault2_4 m_place2_5 m_trouble a_letters m_failed2_3 m_hasHouse a_r a_fresh a_st a_undone a_kept m_undos m_images a_from a_begin a_motor a_change a_startFrame a_changeFrame a_lostAt a_blackAt a_slips a_leftArc a_died a_arcs m_bestSum m_nearest m_nearestTown a_there a_backAt a_sorted a_parts m_seed1 m_darkNow (iv_w iv_11 (zle_e rfl) (zle_e rfl))) dX11_named_k1.2.1.1.1 mw519 mw520 mw521 mw5 mw522 rfl 11 rfl rfl 0 _ rfl yk_yX11_bad_2 rfl (Nat.le_of_ble_eq_true rfl) (Nat.le_of_ble_eq_true rfl) (Nat.le_of_ble_eq_true rfl) (Nat.le_of_ble_eq_true rfl) (Nat.le_of_ble_eq_true rfl) rfl rfl (vnd_e rfl) rfl (vnd_e rfl) (dsj_e rfl) ?_
        rintro w ⟨m_failed2_39, m_fault2_40, m_place2_41, iv_43, hq_44, rfl⟩
        refine k_ws [(cAI g a_letters 8 d_letters), (cAI g a_fresh 311 d_fresh), (cO11_i1r1i10r1i2r5i2r12i3r4i2 h0 m_thrown a_tape m_taped m_size m_at m_end m_token m_whole m_nameSize m_fault2_40 m_place2_41 m_trouble a_letters m_failed2_39 m_hasHouse a_r a_fresh a_st a_undone a_kept m_undos m_images a_from a_begin a_motor a_change a_startFrame a_changeFrame a_lostAt a_blackAt a_slips a_leftArc a_died a_arcs m_bestSum m_nearest m_nearestTown a_there a_backAt a_sorted a_parts m_seed1 m_darkNow)] rfl ?_
        refine k_aload_n X dX11_named_k1.2.1.1.2 1 rfl ?_
        refine k_get (ci := 11) X inlX11 rfl 13 (nlt_e rfl) dX11_named_k1.2.1.2.1 mw469 2 rfl rfl ?_
        refine k_if_eq 56 X dX11_named_k1.2.1.2.2 (jp_e rfl) (fun h_45 => (iv_eqN h_45 iv_43 iq_0_0_0 (by decide)).elim) (fun h_45 => ?_)
        refine k_iconst (v := 0) X dX11_named_k1.2.2.1.1 ic_0 ?_
        refine k_goto 59 X dX11_named_k1.2.2.1.2 (jp_e rfl) ?_
        exact k_iret X hr dX11_named_k2.2 (Nat.le_of_ble_eq_true rfl) (Nat.le_of_ble_eq_true rfl) [2, 0, 1] (vnd_e rfl) rfl rfl ⟨m_failed2_39, m_fault2_40, m_place2_41, (iv_w iv_43 (zle_e rfl) (zle_e rfl)), (iv_w iq_0_0_0 (zle_e rfl) (zle_e rfl)), (Or.inl ⟨h_1, ⟨m_failed2_3, m_fault2_4, m_place2_5, hq_8, (Or.inl ⟨h_10, ⟨r_16, hq_19, ⟨r_20, hq_22, (Or.inr ⟨h_25, ⟨m_failed2_39, m_fault2_40, m_place2_41, hq_44, ⟨rfl, rfl, rfl, rfl⟩⟩⟩)⟩⟩⟩)⟩⟩), rfl⟩
    · skip
      have iv_46 : IV m_failed2_3 1 1 := iv_neL h_10 iv_7 iq_0_0_0 (zle_e rfl)
      refine k_iconst (v := 0) X dX11_named_k0.2.1.2.1 ic_0 ?_
      exact k_iret X hr dX11_named_k0.2.1.2.2 (Nat.le_of_ble_eq_true rfl) (Nat.le_of_ble_eq_true rfl) [1, 2, 0] (vnd_e rfl) rfl rfl ⟨m_failed2_3, m_fault2_4, m_place2_5, (iv_w iv_46 (zle_e rfl) (zle_e rfl)), (iv_w iq_0_0_0 (zle_e rfl) (zle_e rfl)), (Or.inl ⟨h_1, ⟨m_failed2_3, m_fault2_4, m_place2_5, hq_8, (Or.inr ⟨h_10, ⟨rfl, rfl, rfl, rfl⟩⟩)⟩⟩), rfl⟩
  · skip
    have iv_47 : IV m_failed 1 1 := iv_neL h_1 hv_m_failed iq_0_0_0 (zle_e rfl)
    refine k_iconst (v := 0) X dX11_named_k0.1.1.2.2 ic_0 ?_
    exact k_iret X hr dX11_named_k0.1.2.1.1 (Nat.le_of_ble_eq_true rfl) (Nat.le_of_ble_eq_true rfl) [0, 1, 2] (vnd_e rfl) rfl rfl ⟨m_failed, m_fault, m_place, (iv_w iv_47 (zle_e rfl) (zle_e rfl)), (iv_w iq_0_0_0 (zle_e rfl) (zle_e rfl)), (Or.inr ⟨h_1, ⟨rfl, rfl, rfl, rfl⟩⟩), rfl⟩


set_option maxHeartbeats 4000000 in
set_option maxRecDepth 100000 in
theorem m_namedTX (l : Launch) (g : Gx) (h0 : Nat) (m_thrown : Int32) (a_tape : Nat) (m_taped : Int32) (m_size : Int32) (m_at : Int32) (m_end : Int32) (m_token : Int32) (m_whole : Int32) (m_nameSize : Int32) (m_fault : Int32) (m_place : Int32) (m_trouble : Int32) (a_letters : Nat) (m_failed : Int32) (m_hasHouse : Int32) (a_r : Nat) (a_fresh : Nat) (a_st : Nat) (a_undone : Nat) (a_kept : Nat) (m_undos : Int32) (m_images : Int32) (a_from : Nat) (a_begin : Nat) (a_motor : Nat) (a_change : Nat) (a_startFrame : Nat) (a_changeFrame : Nat) (a_lostAt : Nat) (a_blackAt : Nat) (a_slips : Nat) (a_leftArc : Nat) (a_died : Nat) (a_arcs : Nat) (m_bestSum : Int32) (m_nearest : Int32) (m_nearestTown : Int32) (a_there : Nat) (a_backAt : Nat) (a_sorted : Nat) (a_parts : Nat) (m_seed1 : Int32) (m_darkNow : Int32) (d_letters : Nat → Int32) (d_fresh : Nat → Int32) (hv_m_nameSize : IV m_nameSize 0 900) (hv_m_failed : IV m_failed 0 1) (hp_d_fresh : RInv d_fresh) (hc_0 : m_token = 2 → IV m_nameSize 0 8) : cI l g yX11_named cX11_named 4 (some .int) 6 129 0 0 [.ref h0, .int 8, .int 11] [(cO11_i1r1i10r1i2r5i2r12i3r4i2 h0 m_thrown a_tape m_taped m_size m_at m_end m_token m_whole m_nameSize m_fault m_place m_trouble a_letters m_failed m_hasHouse a_r a_fresh a_st a_undone a_kept m_undos m_images a_from a_begin a_motor a_change a_startFrame a_changeFrame a_lostAt a_blackAt a_slips a_leftArc a_died a_arcs m_bestSum m_nearest m_nearestTown a_there a_backAt a_sorted a_parts m_seed1 m_darkNow), (cAI g a_letters 8 d_letters), (cAI g a_fresh 311 d_fresh)] (fun r w => ∃ (m_failed2 : Int32) (m_fault2 : Int32) (m_place2 : Int32), IV m_failed2 0 1 ∧ IV r 0 3 ∧ (m_failed2.toInt = 1 ∨ 0 < (d_fresh (175 + r.toInt.toNat)).toInt) ∧ (R_m_namedTX m_at m_token m_nameSize m_fault m_place m_failed d_letters d_fresh m_failed2 m_fault2 m_place2 r) ∧ w = [(cO11_i1r1i10r1i2r5i2r12i3r4i2 h0 m_thrown a_tape m_taped m_size m_at m_end m_token m_whole m_nameSize m_fault2 m_place2 m_trouble a_letters m_failed2 m_hasHouse a_r a_fresh a_st a_undone a_kept m_undos m_images a_from a_begin a_motor a_change a_startFrame a_changeFrame a_lostAt a_blackAt a_slips a_leftArc a_died a_arcs m_bestSum m_nearest m_nearestTown a_there a_backAt a_sorted a_parts m_seed1 m_darkNow), (cAI g a_letters 8 d_letters), (cAI g a_fresh 311 d_fresh)]) := by
  refine cI.of (by decide) (Nat.le_of_ble_eq_true rfl) ?_
  intro p e s m args below meth c A X hr hi
  refine k_lveq [(0, .ref h0), (1, .int 8), (2, .int 11)] rfl ?_
  refine k_aload_n X dX11_named_k0.1.1.1.1 0 rfl ?_
  refine k_get (ci := 11) X inlX11 rfl 13 (nlt_e rfl) dX11_named_k0.1.1.1.2 mw469 0 rfl rfl ?_
  refine k_if_eq 9 X dX11_named_k0.1.1.2.1 (jp_e rfl) (fun h_1 => ?_) (fun h_1 => ?_)
  · skip
    have iv_2 : IV m_failed 0 0 := iv_meet hv_m_failed (iv_e h_1 iq_0_0_0) (zle_o rfl) (zle_o rfl)
    refine k_aload_n X dX11_named_k0.1.2.1.2 0 rfl ?_
    refine k_callVV (n := 0) (As := []) (st := []) X [(cO11_i1r1i10r1i2r5i2r12i3r4i2 h0 m_thrown a_tape m_taped m_size m_at m_end m_token m_whole m_nameSize m_fault m_place m_trouble a_letters m_failed m_hasHouse a_r a_fresh a_st a_undone a_kept m_undos m_images a_from a_begin a_motor a_change a_startFrame a_changeFrame a_lostAt a_blackAt a_slips a_leftArc a_died a_arcs m_bestSum m_nearest m_nearestTown a_there a_backAt a_sorted a_parts m_seed1 m_darkNow), (cAI g a_letters 8 d_letters)] [(cAI g a_fresh 311 d_fresh)] [0, 1] [2] (m_mustNameX l g h0 m_thrown a_tape m_taped m_size m_at m_end m_token m_whole m_nameSize m_fault m_place m_trouble a_letters m_failed m_hasHouse a_r a_fresh a_st a_undone a_kept m_undos m_images a_from a_begin a_motor a_change a_startFrame a_changeFrame a_lostAt a_blackAt a_slips a_leftArc a_died a_arcs m_bestSum m_nearest m_nearestTown a_there a_backAt a_sorted a_parts m_seed1 m_darkNow d_letters (iv_w hv_m_nameSize (zle_e rfl) (zle_e rfl)) (iv_w iv_2 (zle_e rfl) (zle_e rfl)) hc_0) dX11_named_k0.1.2.2.1 mw555 mw556 mw557 mw5 mw558 rfl 11 rfl rfl 0 _ rfl yk_yX11_mustName_0 rfl (Nat.le_of_ble_eq_true rfl) (Nat.le_of_ble_eq_true rfl) (Nat.le_of_ble_eq_true rfl) (Nat.le_of_ble_eq_true rfl) (Nat.le_of_ble_eq_true rfl) rfl rfl (vnd_e rfl) rfl (vnd_e rfl) (dsj_e rfl) ?_
    rintro w ⟨m_failed2_3, m_fault2_4, m_place2_5, iv_7, hq_8, hk_9, rfl⟩
    refine k_ws [(cAI g a_fresh 311 d_fresh), (cO11_i1r1i10r1i2r5i2r12i3r4i2 h0 m_thrown a_tape m_taped m_size m_at m_end m_token m_whole m_nameSize m_fault2_4 m_place2_5 m_trouble a_letters m_failed2_3 m_hasHouse a_r a_fresh a_st a_undone a_kept m_undos m_images a_from a_begin a_motor a_change a_startFrame a_changeFrame a_lostAt a_blackAt a_slips a_leftArc a_died a_arcs m_bestSum m_nearest m_nearestTown a_there a_backAt a_sorted a_parts m_seed1 m_darkNow), (cAI g a_letters 8 d_letters)] rfl ?_
    refine k_aload_n X dX11_named_k0.1.2.2.2 0 rfl ?_
    refine k_get (ci := 11) X inlX11 rfl 13 (nlt_e rfl) dX11_named_k0.2.1.1.1 mw469 1 rfl rfl ?_
    refine k_if_eq 22 X dX11_named_k0.2.1.1.2 (jp_e rfl) (fun h_10 => ?_) (fun h_10 => ?_)
    · skip
      have iv_11 : IV m_failed2_3 0 0 := iv_meet iv_7 (iv_e h_10 iq_0_0_0) (zle_o rfl) (zle_o rfl)
      have hc_12 := hk_9.resolve_left (fun q => iv_eqN q iv_11 iq_1_1_1 (by decide))
      have iv_13 : IV m_token 2 2 := iv_meet (iv_any m_token) hc_12 (zle_o rfl) (zle_o rfl)
      have hc_14 := hc_0 (iv_eq iv_13 iq_2_2_2)
      have iv_15 : IV m_nameSize 0 8 := iv_meet hv_m_nameSize hc_14 (zle_o rfl) (zle_o rfl)
      refine k_aload_n X dX11_named_k0.2.2.1.1 0 rfl ?_
      refine k_callVI (n := 0) (As := []) (st := []) X [(cO11_i1r1i10r1i2r5i2r12i3r4i2 h0 m_thrown a_tape m_taped m_size m_at m_end m_token m_whole m_nameSize m_fault2_4 m_place2_5 m_trouble a_letters m_failed2_3 m_hasHouse a_r a_fresh a_st a_undone a_kept m_undos m_images a_from a_begin a_motor a_change a_startFrame a_changeFrame a_lostAt a_blackAt a_slips a_leftArc a_died a_arcs m_bestSum m_nearest m_nearestTown a_there a_backAt a_sorted a_parts m_seed1 m_darkNow), (cAI g a_letters 8 d_letters), (cAI g a_fresh 311 d_fresh)] [] [1, 2, 0] [] (m_findX l g h0 m_thrown a_tape m_taped m_size m_at m_end m_token m_whole m_nameSize m_fault2_4 m_place2_5 m_trouble a_letters m_failed2_3 m_hasHouse a_r a_fresh a_st a_undone a_kept m_undos m_images a_from a_begin a_motor a_change a_startFrame a_changeFrame a_lostAt a_blackAt a_slips a_leftArc a_died a_arcs m_bestSum m_nearest m_nearestTown a_there a_backAt a_sorted a_parts m_seed1 m_darkNow d_letters d_fresh (iv_w iv_15 (zle_e rfl) (zle_e rfl)) hp_d_fresh) dX11_named_k0.2.2.1.2 mw559 mw560 mw561 mw5 mw562 rfl 11 rfl rfl 0 _ rfl yk_yX11_find_0 rfl (Nat.le_of_ble_eq_true rfl) (Nat.le_of_ble_eq_true rfl) (Nat.le_of_ble_eq_true rfl) (Nat.le_of_ble_eq_true rfl) (Nat.le_of_ble_eq_true rfl) rfl rfl (vnd_e rfl) rfl (vnd_e rfl) (dsj_e rfl) ?_
      rintro r_16 w ⟨iv_17, hq_18, hq_19, rfl⟩
      refine k_ws [(cO11_i1r1i10r1i2r5i2r12i3r4i2 h0 m_thrown a_tape m_taped m_size m_at m_end m_token m_whole m_nameSize m_fault2_4 m_place2_5 m_trouble a_letters m_failed2_3 m_hasHouse a_r a_fresh a_st a_undone a_kept m_undos m_images a_from a_begin a_motor a_change a_startFrame a_changeFrame a_lostAt a_blackAt a_slips a_leftArc a_died a_arcs m_bestSum m_nearest m_nearestTown a_there a_backAt a_sorted a_parts m_seed1 m_darkNow), (cAI g a_letters 8 d_letters), (cAI g a_fresh 311 d_fresh)] rfl ?_
      refine k_istore_n [(3, .int r_16), (0, .ref h0), (1, .int 8), (2, .int 11)] X dX11_named_k0.2.2.2.1 (nlt_e rfl) rfl ?_
      refine k_iload_n X dX11_named_k0.2.2.2.2 0 rfl ?_
      refine k_iload_n X dX11_named_k1.1.1.1.1 2 rfl ?_
      refine k_iload_n X dX11_named_k1.1.1.1.2 3 rfl ?_
      refine k_callSI (n := 3) (As := [.int r_16, .int 8, .int 11]) (st := []) X [] [(cO11_i1r1i10r1i2r5i2r12i3r4i2 h0 m_thrown a_tape m_taped m_size m_at m_end m_token m_whole m_nameSize m_fault2_4 m_place2_5 m_trouble a_letters m_failed2_3 m_hasHouse a_r a_fresh a_st a_undone a_kept m_undos m_images a_from a_begin a_motor a_change a_startFrame a_changeFrame a_lostAt a_blackAt a_slips a_leftArc a_died a_arcs m_bestSum m_nearest m_nearestTown a_there a_backAt a_sorted a_parts m_seed1 m_darkNow), (cAI g a_letters 8 d_letters), (cAI g a_fresh 311 d_fresh)] [] [0, 1, 2] (m_inX l g r_16 8 11) dX11_named_k1.1.1.2.1 mw482 mw483 mw5 mw484 yk_yX11_in_3 rfl (Nat.le_of_ble_eq_true rfl) (Nat.le_of_ble_eq_true rfl) (Nat.le_of_ble_eq_true rfl) (Nat.le_of_ble_eq_true rfl) (Nat.le_of_ble_eq_true rfl) rfl rfl (vnd_e rfl) rfl (vnd_e rfl) (dsj_e rfl) ?_
      rintro r_20 w ⟨iv_21, hq_22, hk_23, hk_24, rfl⟩
      refine k_ws [(cO11_i1r1i10r1i2r5i2r12i3r4i2 h0 m_thrown a_tape m_taped m_size m_at m_end m_token m_whole m_nameSize m_fault2_4 m_place2_5 m_trouble a_letters m_failed2_3 m_hasHouse a_r a_fresh a_st a_undone a_kept m_undos m_images a_from a_begin a_motor a_change a_startFrame a_changeFrame a_lostAt a_blackAt a_slips a_leftArc a_died a_arcs m_bestSum m_nearest m_nearestTown a_there a_backAt a_sorted a_parts m_seed1 m_darkNow), (cAI g a_letters 8 d_letters), (cAI g a_fresh 311 d_fresh)] rfl ?_
      refine k_if_ne 45 X dX11_named_k1.1.1.2.2 (jp_e rfl) (fun h_25 => ?_) (fun h_25 => ?_)
      · skip
        have hc_26 := hk_23.resolve_left h_25
        have j_27 : 8 ≤ r_16.toInt := hc_26.1
        have iv_28 : IV r_16 8 15 := iv_leR hc_26.1 iq_8_8_8 iv_17 (zle_e rfl)
        have j_29 : r_16.toInt ≤ 11 := hc_26.2
        have iv_30 : IV r_16 8 11 := iv_leL hc_26.2 iv_28 iq_11_11_11 (zle_e rfl)
        have iv_31 : IV r_20 1 1 := iv_neL h_25 iv_21 iq_0_0_0 (zle_e rfl)
        refine k_aload_n X dX11_named_k1.2.1.1.2 1 rfl ?_
        refine k_get (ci := 11) X inlX11 rfl 13 (nlt_e rfl) dX11_named_k1.2.1.2.1 mw469 0 rfl rfl ?_
        refine k_if_eq 56 X dX11_named_k1.2.1.2.2 (jp_e rfl) (fun h_32 => ?_) (fun h_32 => absurd (iv_eq iv_11 iq_0_0_0) h_32)
        refine k_iload_n X dX11_named_k1.2.2.2.1 0 rfl ?_
        refine k_iload_n X dX11_named_k1.2.2.2.2 2 rfl ?_
        refine k_isub X dX11_named_k2.1 ?_
        refine k_nm (fun z_33 ez_33 => ?_)
        have i_34 : z_33.toInt = r_16.toInt - 8 := in_sub ez_33 iv_30 iq_8_8_8 (zle_e rfl) (zle_e rfl)
        have iv_35 : IV z_33 0 3 := iz5 i_34 iv_30 (zle_e rfl) (zle_e rfl)
        exact k_iret X hr dX11_named_k2.2 (Nat.le_of_ble_eq_true rfl) (Nat.le_of_ble_eq_true rfl) [0, 1, 2] (vnd_e rfl) rfl rfl ⟨m_failed2_3, m_fault2_4, m_place2_5, (iv_w iv_11 (zle_e rfl) (zle_e rfl)), (iv_w iv_35 (zle_e rfl) (zle_e rfl)), (Or.inr (nm_p hq_18 (by omega) (by omega))), (Or.inl ⟨h_1, ⟨m_failed2_3, m_fault2_4, m_place2_5, hq_8, (Or.inl ⟨h_10, ⟨r_16, hq_19, ⟨r_20, hq_22, (Or.inl ⟨h_25, ⟨z_33, ez_33, ⟨rfl, rfl, rfl, rfl⟩⟩⟩)⟩⟩⟩)⟩⟩), rfl⟩
      · skip
        have iv_36 : IV r_20 0 0 := iv_meet iv_21 (iv_e h_25 iq_0_0_0) (zle_o rfl) (zle_o rfl)
        have hc_37 := hk_24 (iv_eq iv_36 iq_0_0_0)
        have j_38 : r_16.toInt < 8 ∨ 11 < r_16.toInt := hc_37
        refine k_aload_n X dX11_named_k1.1.2.1.1 1 rfl ?_
        refine k_iconst (v := 2) X dX11_named_k1.1.2.1.2 ic_2 ?_
        refine k_aload_n X dX11_named_k1.1.2.2.1 1 rfl ?_
        refine k_get (ci := 11) X inlX11 rfl 4 (nlt_e rfl) dX11_named_k1.1.2.2.2 mw473 0 rfl rfl ?_
        refine k_callVV (n := 2) (As := [.int 2, .int m_at]) (st := []) X [(cO11_i1r1i10r1i2r5i2r12i3r4i2 h0 m_thrown a_tape m_taped m_size m_at m_end m_token m_whole m_nameSize m_fault2_4 m_place2_5 m_trouble a_letters m_failed2_3 m_hasHouse a_r a_fresh a_st a_undone a_kept m_undos m_images a_from a_begin a_motor a_change a_startFrame a_changeFrame a_lostAt a_blackAt a_slips a_leftArc a_died a_arcs m_bestSum m_nearest m_nearestTown a_there a_backAt a_sorted a_parts m_seed1 m_darkNow)] [(cAI g a_letters 8 d_letters), (cAI g a_fresh 311 d_fresh)] [0] [1, 2] (m_badX l g h0 2 m_at m_thrown a_tape m_taped m_size m_at m_end m_token m_whole m_nameSize m_fault2_4 m_place2_5 m_trouble a_letters m_failed2_3 m_hasHouse a_r a_fresh a_st a_undone a_kept m_undos m_images a_from a_begin a_motor a_change a_startFrame a_changeFrame a_lostAt a_blackAt a_slips a_leftArc a_died a_arcs m_bestSum m_nearest m_nearestTown a_there a_backAt a_sorted a_parts m_seed1 m_darkNow (iv_w iv_11 (zle_e rfl) (zle_e rfl))) dX11_named_k1.2.1.1.1 mw519 mw520 mw521 mw5 mw522 rfl 11 rfl rfl 0 _ rfl yk_yX11_bad_2 rfl (Nat.le_of_ble_eq_true rfl) (Nat.le_of_ble_eq_true rfl) (Nat.le_of_ble_eq_true rfl) (Nat.le_of_ble_eq_true rfl) (Nat.le_of_ble_eq_true rfl) rfl rfl (vnd_e rfl) rfl (vnd_e rfl) (dsj_e rfl) ?_
        rintro w ⟨m_failed2_39, m_fault2_40, m_place2_41, iv_43, hq_44, rfl⟩
        refine k_ws [(cAI g a_letters 8 d_letters), (cAI g a_fresh 311 d_fresh), (cO11_i1r1i10r1i2r5i2r12i3r4i2 h0 m_thrown a_tape m_taped m_size m_at m_end m_token m_whole m_nameSize m_fault2_40 m_place2_41 m_trouble a_letters m_failed2_39 m_hasHouse a_r a_fresh a_st a_undone a_kept m_undos m_images a_from a_begin a_motor a_change a_startFrame a_changeFrame a_lostAt a_blackAt a_slips a_leftArc a_died a_arcs m_bestSum m_nearest m_nearestTown a_there a_backAt a_sorted a_parts m_seed1 m_darkNow)] rfl ?_
        refine k_aload_n X dX11_named_k1.2.1.1.2 1 rfl ?_
        refine k_get (ci := 11) X inlX11 rfl 13 (nlt_e rfl) dX11_named_k1.2.1.2.1 mw469 2 rfl rfl ?_
        refine k_if_eq 56 X dX11_named_k1.2.1.2.2 (jp_e rfl) (fun h_45 => (iv_eqN h_45 iv_43 iq_0_0_0 (by decide)).elim) (fun h_45 => ?_)
        refine k_iconst (v := 0) X dX11_named_k1.2.2.1.1 ic_0 ?_
        refine k_goto 59 X dX11_named_k1.2.2.1.2 (jp_e rfl) ?_
        exact k_iret X hr dX11_named_k2.2 (Nat.le_of_ble_eq_true rfl) (Nat.le_of_ble_eq_true rfl) [2, 0, 1] (vnd_e rfl) rfl rfl ⟨m_failed2_39, m_fault2_40, m_place2_41, (iv_w iv_43 (zle_e rfl) (zle_e rfl)), (iv_w iq_0_0_0 (zle_e rfl) (zle_e rfl)), (Or.inl (by have := iv_43; omega)), (Or.inl ⟨h_1, ⟨m_failed2_3, m_fault2_4, m_place2_5, hq_8, (Or.inl ⟨h_10, ⟨r_16, hq_19, ⟨r_20, hq_22, (Or.inr ⟨h_25, ⟨m_failed2_39, m_fault2_40, m_place2_41, hq_44, ⟨rfl, rfl, rfl, rfl⟩⟩⟩)⟩⟩⟩)⟩⟩), rfl⟩
    · skip
      have iv_46 : IV m_failed2_3 1 1 := iv_neL h_10 iv_7 iq_0_0_0 (zle_e rfl)
      refine k_iconst (v := 0) X dX11_named_k0.2.1.2.1 ic_0 ?_
      exact k_iret X hr dX11_named_k0.2.1.2.2 (Nat.le_of_ble_eq_true rfl) (Nat.le_of_ble_eq_true rfl) [1, 2, 0] (vnd_e rfl) rfl rfl ⟨m_failed2_3, m_fault2_4, m_place2_5, (iv_w iv_46 (zle_e rfl) (zle_e rfl)), (iv_w iq_0_0_0 (zle_e rfl) (zle_e rfl)), (Or.inl (by have := iv_46; omega)), (Or.inl ⟨h_1, ⟨m_failed2_3, m_fault2_4, m_place2_5, hq_8, (Or.inr ⟨h_10, ⟨rfl, rfl, rfl, rfl⟩⟩)⟩⟩), rfl⟩
  · skip
    have iv_47 : IV m_failed 1 1 := iv_neL h_1 hv_m_failed iq_0_0_0 (zle_e rfl)
    refine k_iconst (v := 0) X dX11_named_k0.1.1.2.2 ic_0 ?_
    exact k_iret X hr dX11_named_k0.1.2.1.1 (Nat.le_of_ble_eq_true rfl) (Nat.le_of_ble_eq_true rfl) [0, 1, 2] (vnd_e rfl) rfl rfl ⟨m_failed, m_fault, m_place, (iv_w iv_47 (zle_e rfl) (zle_e rfl)), (iv_w iq_0_0_0 (zle_e rfl) (zle_e rfl)), (Or.inl (by have := iv_47; omega)), (Or.inr ⟨h_1, ⟨rfl, rfl, rfl, rfl⟩⟩), rfl⟩


set_option maxHeartbeats 4000000 in
set_option maxRecDepth 100000 in
theorem m_reelPassedX (l : Launch) (g : Gx) (h0 : Nat) (m_thrown : Int32) (a_tape : Nat) (m_taped : Int32) (m_size : Int32) (m_at : Int32) (m_end : Int32) (m_token : Int32) (m_whole : Int32) (m_nameSize : Int32) (m_fault : Int32) (m_place : Int32) (m_trouble : Int32) (a_letters : Nat) (m_failed : Int32) (m_hasHouse : Int32) (a_r : Nat) (a_fresh : Nat) (a_st : Nat) (a_undone : Nat) (a_kept : Nat) (m_undos : Int32) (m_images : Int32) (a_from : Nat) (a_begin : Nat) (a_motor : Nat) (a_change : Nat) (a_startFrame : Nat) (a_changeFrame : Nat) (a_lostAt : Nat) (a_blackAt : Nat) (a_slips : Nat) (a_leftArc : Nat) (a_died : Nat) (a_arcs : Nat) (m_bestSum : Int32) (m_nearest : Int32) (m_nearestTown : Int32) (a_there : Nat) (a_backAt : Nat) (a_sorted : Nat) (a_parts : Nat) (m_seed1 : Int32) (m_darkNow : Int32) (d_tape : Nat → Int32) (d_letters : Nat → Int32) (d_fresh : Nat → Int32) (hv_m_size : IV m_size 0 900) (hv_m_end : IV m_end 0 900) (hv_m_nameSize : IV m_nameSize 0 900) (hv_m_failed : IV m_failed 0 1) (hp_d_fresh : RInv d_fresh) (hc_0 : m_token = 2 → IV m_nameSize 0 8) : cI l g yX11_reelPassed cX11_reelPassed 2 (some .int) 7 152 0 0 [.ref h0] [(cO11_i1r1i10r1i2r5i2r12i3r4i2 h0 m_thrown a_tape m_taped m_size m_at m_end m_token m_whole m_nameSize m_fault m_place m_trouble a_letters m_failed m_hasHouse a_r a_fresh a_st a_undone a_kept m_undos m_images a_from a_begin a_motor a_change a_startFrame a_changeFrame a_lostAt a_blackAt a_slips a_leftArc a_died a_arcs m_bestSum m_nearest m_nearestTown a_there a_backAt a_sorted a_parts m_seed1 m_darkNow), (cAI g a_tape 900 d_tape), (cAI g a_letters 8 d_letters), (cAI g a_fresh 311 d_fresh)] (fun r w => ∃ (m_at2 : Int32) (m_end2 : Int32) (m_failed2 : Int32) (m_fault2 : Int32) (d_letters2 : Nat → Int32) (m_nameSize2 : Int32) (m_place2 : Int32) (m_token2 : Int32) (m_whole2 : Int32), IV m_end2 0 900 ∧ IV m_failed2 0 1 ∧ IV m_nameSize2 0 900 ∧ IV r 0 7 ∧ (m_end.toInt ≤ m_end2.toInt) ∧ (R_m_reelPassedX m_size m_at m_end m_token m_whole m_nameSize m_fault m_place m_failed d_tape d_letters d_fresh m_at2 m_end2 m_failed2 m_fault2 d_letters2 m_nameSize2 m_place2 m_token2 m_whole2 r) ∧ (m_token2 = 2 → IV m_nameSize2 0 8) ∧ w = [(cO11_i1r1i10r1i2r5i2r12i3r4i2 h0 m_thrown a_tape m_taped m_size m_at2 m_end2 m_token2 m_whole2 m_nameSize2 m_fault2 m_place2 m_trouble a_letters m_failed2 m_hasHouse a_r a_fresh a_st a_undone a_kept m_undos m_images a_from a_begin a_motor a_change a_startFrame a_changeFrame a_lostAt a_blackAt a_slips a_leftArc a_died a_arcs m_bestSum m_nearest m_nearestTown a_there a_backAt a_sorted a_parts m_seed1 m_darkNow), (cAI g a_tape 900 d_tape), (cAI g a_letters 8 d_letters2), (cAI g a_fresh 311 d_fresh)]) := by
  refine cI.of (by decide) (Nat.le_of_ble_eq_true rfl) ?_
  intro p e s m args below meth c A X hr hi
  refine k_lveq [(0, .ref h0)] rfl ?_
  refine k_aload_n X dX11_reelPassed_k0.1.1.1 0 rfl ?_
  refine k_iconst (v := 0) X dX11_reelPassed_k0.1.1.2.1 ic_0 ?_
  refine k_bipush (v := 7) X dX11_reelPassed_k0.1.1.2.2 bi_7 ?_
  refine k_callVI (n := 2) (As := [.int 0, .int 7]) (st := []) X [(cO11_i1r1i10r1i2r5i2r12i3r4i2 h0 m_thrown a_tape m_taped m_size m_at m_end m_token m_whole m_nameSize m_fault m_place m_trouble a_letters m_failed m_hasHouse a_r a_fresh a_st a_undone a_kept m_undos m_images a_from a_begin a_motor a_change a_startFrame a_changeFrame a_lostAt a_blackAt a_slips a_leftArc a_died a_arcs m_bestSum m_nearest m_nearestTown a_there a_backAt a_sorted a_parts m_seed1 m_darkNow), (cAI g a_letters 8 d_letters), (cAI g a_fresh 311 d_fresh)] [(cAI g a_tape 900 d_tape)] [0, 2, 3] [1] (m_namedRX l g h0 m_thrown a_tape m_taped m_size m_at m_end m_token m_whole m_nameSize m_fault m_place m_trouble a_letters m_failed m_hasHouse a_r a_fresh a_st a_undone a_kept m_undos m_images a_from a_begin a_motor a_change a_startFrame a_changeFrame a_lostAt a_blackAt a_slips a_leftArc a_died a_arcs m_bestSum m_nearest m_nearestTown a_there a_backAt a_sorted a_parts m_seed1 m_darkNow d_letters d_fresh (iv_w hv_m_nameSize (zle_e rfl) (zle_e rfl)) (iv_w hv_m_failed (zle_e rfl) (zle_e rfl)) hp_d_fresh hc_0) dX11_reelPassed_k0.1.2.1 mw575 mw576 mw577 mw5 mw578 rfl 11 rfl rfl 0 _ rfl yk_yX11_named_2 rfl (Nat.le_of_ble_eq_true rfl) (Nat.le_of_ble_eq_true rfl) (Nat.le_of_ble_eq_true rfl) (Nat.le_of_ble_eq_true rfl) (Nat.le_of_ble_eq_true rfl) rfl rfl (vnd_e rfl) rfl (vnd_e rfl) (dsj_e rfl) ?_
  rintro r_4 w ⟨m_failed2_1, m_fault2_2, m_place2_3, iv_5, iv_6, hq_7, rfl⟩
  refine k_ws [(cAI g a_tape 900 d_tape), (cO11_i1r1i10r1i2r5i2r12i3r4i2 h0 m_thrown a_tape m_taped m_size m_at m_end m_token m_whole m_nameSize m_fault2_2 m_place2_3 m_trouble a_letters m_failed2_1 m_hasHouse a_r a_fresh a_st a_undone a_kept m_undos m_images a_from a_begin a_motor a_change a_startFrame a_changeFrame a_lostAt a_blackAt a_slips a_leftArc a_died a_arcs m_bestSum m_nearest m_nearestTown a_there a_backAt a_sorted a_parts m_seed1 m_darkNow), (cAI g a_letters 8 d_letters), (cAI g a_fresh 311 d_fresh)] rfl ?_
  refine k_istore_n [(1, .int r_4), (0, .ref h0)] X dX11_reelPassed_k0.1.2.2.1 (nlt_e rfl) rfl ?_
  refine k_aload_n X dX11_reelPassed_k0.1.2.2.2 1 rfl ?_
  refine k_get (ci := 11) X inlX11 rfl 13 (nlt_e rfl) dX11_reelPassed_k0.2.1.1 mw469 1 rfl rfl ?_
  refine k_if_ne 19 X dX11_reelPassed_k0.2.1.2.1 (jp_e rfl) (fun h_8 => ?_) (fun h_8 => ?_)
  · skip
    have iv_9 : IV m_failed2_1 1 1 := iv_neL h_8 iv_5 iq_0_0_0 (zle_e rfl)
    refine k_iload_n X dX11_reelPassed_k0.2.2.2.1 0 rfl ?_
    exact k_iret X hr dX11_reelPassed_k0.2.2.2.2 (Nat.le_of_ble_eq_true rfl) (Nat.le_of_ble_eq_true rfl) [1, 0, 2, 3] (vnd_e rfl) rfl rfl ⟨m_at, m_end, m_failed2_1, m_fault2_2, d_letters, m_nameSize, m_place2_3, m_token, m_whole, (iv_w hv_m_end (zle_e rfl) (zle_e rfl)), (iv_w iv_9 (zle_e rfl) (zle_e rfl)), (iv_w hv_m_nameSize (zle_e rfl) (zle_e rfl)), (iv_w iv_6 (zle_e rfl) (zle_e rfl)), (by omega), ⟨m_failed2_1, m_fault2_2, m_place2_3, r_4, hq_7, (Or.inl ⟨h_8, ⟨rfl, rfl, rfl, rfl, rfl, rfl, rfl, rfl, rfl, rfl⟩⟩)⟩, hc_0, rfl⟩
  · skip
    have iv_10 : IV m_failed2_1 0 0 := iv_meet iv_5 (iv_e h_8 iq_0_0_0) (zle_o rfl) (zle_o rfl)
    refine k_aload_n X dX11_reelPassed_k0.2.1.2.2 1 rfl ?_
    refine k_callVV (n := 0) (As := []) (st := []) X [(cO11_i1r1i10r1i2r5i2r12i3r4i2 h0 m_thrown a_tape m_taped m_size m_at m_end m_token m_whole m_nameSize m_fault2_2 m_place2_3 m_trouble a_letters m_failed2_1 m_hasHouse a_r a_fresh a_st a_undone a_kept m_undos m_images a_from a_begin a_motor a_change a_startFrame a_changeFrame a_lostAt a_blackAt a_slips a_leftArc a_died a_arcs m_bestSum m_nearest m_nearestTown a_there a_backAt a_sorted a_parts m_seed1 m_darkNow), (cAI g a_tape 900 d_tape), (cAI g a_letters 8 d_letters)] [(cAI g a_fresh 311 d_fresh)] [1, 0, 2] [3] (m_nextX l g h0 m_thrown a_tape m_taped m_size m_at m_end m_token m_whole m_nameSize m_fault2_2 m_place2_3 m_trouble a_letters m_failed2_1 m_hasHouse a_r a_fresh a_st a_undone a_kept m_undos m_images a_from a_begin a_motor a_change a_startFrame a_changeFrame a_lostAt a_blackAt a_slips a_leftArc a_died a_arcs m_bestSum m_nearest m_nearestTown a_there a_backAt a_sorted a_parts m_seed1 m_darkNow d_tape d_letters (iv_w hv_m_size (zle_e rfl) (zle_e rfl)) (iv_w hv_m_end (zle_e rfl) (zle_e rfl)) (iv_w hv_m_nameSize (zle_e rfl) (zle_e rfl))) dX11_reelPassed_k0.2.2.1 mw489 mw490 mw491 mw5 mw492 rfl 11 rfl rfl 0 _ rfl yk_yX11_next_0 rfl (Nat.le_of_ble_eq_true rfl) (Nat.le_of_ble_eq_true rfl) (Nat.le_of_ble_eq_true rfl) (Nat.le_of_ble_eq_true rfl) (Nat.le_of_ble_eq_true rfl) rfl rfl (vnd_e rfl) rfl (vnd_e rfl) (dsj_e rfl) ?_
    intro w zq
    refine exE6 zq ?_
    clear zq
    intro m_at2_11 m_end2_12 d_letters2_13 m_nameSize2_14 m_token2_15 m_whole2_16 iv_18 zq
    refine exA5 zq ?_
    clear zq
    intro iv_19 hq_20 hq_21 hq_22 hk_23 zq
    subst zq
    refine k_ws [(cAI g a_fresh 311 d_fresh), (cO11_i1r1i10r1i2r5i2r12i3r4i2 h0 m_thrown a_tape m_taped m_size m_at2_11 m_end2_12 m_token2_15 m_whole2_16 m_nameSize2_14 m_fault2_2 m_place2_3 m_trouble a_letters m_failed2_1 m_hasHouse a_r a_fresh a_st a_undone a_kept m_undos m_images a_from a_begin a_motor a_change a_startFrame a_changeFrame a_lostAt a_blackAt a_slips a_leftArc a_died a_arcs m_bestSum m_nearest m_nearestTown a_there a_backAt a_sorted a_parts m_seed1 m_darkNow), (cAI g a_tape 900 d_tape), (cAI g a_letters 8 d_letters2_13)] rfl ?_
    refine k_iload_n X dX11_reelPassed_k0.2.2.2.1 0 rfl ?_
    exact k_iret X hr dX11_reelPassed_k0.2.2.2.2 (Nat.le_of_ble_eq_true rfl) (Nat.le_of_ble_eq_true rfl) [1, 2, 3, 0] (vnd_e rfl) rfl rfl ⟨m_at2_11, m_end2_12, m_failed2_1, m_fault2_2, d_letters2_13, m_nameSize2_14, m_place2_3, m_token2_15, m_whole2_16, (iv_w iv_18 (zle_e rfl) (zle_e rfl)), (iv_w iv_10 (zle_e rfl) (zle_e rfl)), (iv_w iv_19 (zle_e rfl) (zle_e rfl)), (iv_w iv_6 (zle_e rfl) (zle_e rfl)), (by omega), ⟨m_failed2_1, m_fault2_2, m_place2_3, r_4, hq_7, (Or.inr ⟨h_8, ⟨m_at2_11, m_end2_12, d_letters2_13, m_nameSize2_14, m_token2_15, m_whole2_16, hq_22, ⟨rfl, rfl, rfl, rfl, rfl, rfl, rfl, rfl, rfl, rfl⟩⟩⟩)⟩, hk_23, rfl⟩


set_option maxHeartbeats 4000000 in
set_option maxRecDepth 100000 in
theorem m_numberHereX (l : Launch) (g : Gx) (h0 : Nat) (p0 : Int32) (p1 : Int32) (m_thrown : Int32) (a_tape : Nat) (m_taped : Int32) (m_size : Int32) (m_at : Int32) (m_end : Int32) (m_token : Int32) (m_whole : Int32) (m_nameSize : Int32) (m_fault : Int32) (m_place : Int32) (m_trouble : Int32) (a_letters : Nat) (m_failed : Int32) (m_hasHouse : Int32) (a_r : Nat) (a_fresh : Nat) (a_st : Nat) (a_undone : Nat) (a_kept : Nat) (m_undos : Int32) (m_images : Int32) (a_from : Nat) (a_begin : Nat) (a_motor : Nat) (a_change : Nat) (a_startFrame : Nat) (a_changeFrame : Nat) (a_lostAt : Nat) (a_blackAt : Nat) (a_slips : Nat) (a_leftArc : Nat) (a_died : Nat) (a_arcs : Nat) (m_bestSum : Int32) (m_nearest : Int32) (m_nearestTown : Int32) (a_there : Nat) (a_backAt : Nat) (a_sorted : Nat) (a_parts : Nat) (m_seed1 : Int32) (m_darkNow : Int32) (hv_m_failed : IV m_failed 0 1) : cI l g yX11_numberHere cX11_numberHere 3 (some .int) 1 22 0 0 [.ref h0, .int p0, .int p1] [(cO11_i1r1i10r1i2r5i2r12i3r4i2 h0 m_thrown a_tape m_taped m_size m_at m_end m_token m_whole m_nameSize m_fault m_place m_trouble a_letters m_failed m_hasHouse a_r a_fresh a_st a_undone a_kept m_undos m_images a_from a_begin a_motor a_change a_startFrame a_changeFrame a_lostAt a_blackAt a_slips a_leftArc a_died a_arcs m_bestSum m_nearest m_nearestTown a_there a_backAt a_sorted a_parts m_seed1 m_darkNow)] (fun r w => ∃ (m_failed2 : Int32) (m_fault2 : Int32) (m_place2 : Int32), IV m_failed2 0 1 ∧ (p0.toInt ≤ r.toInt ∧ (r.toInt ≤ p0.toInt ∨ r.toInt ≤ p1.toInt)) ∧ (R_m_numberHereX p0 p1 m_at m_token m_whole m_fault m_place m_failed m_failed2 m_fault2 m_place2 r) ∧ w = [(cO11_i1r1i10r1i2r5i2r12i3r4i2 h0 m_thrown a_tape m_taped m_size m_at m_end m_token m_whole m_nameSize m_fault2 m_place2 m_trouble a_letters m_failed2 m_hasHouse a_r a_fresh a_st a_undone a_kept m_undos m_images a_from a_begin a_motor a_change a_startFrame a_changeFrame a_lostAt a_blackAt a_slips a_leftArc a_died a_arcs m_bestSum m_nearest m_nearestTown a_there a_backAt a_sorted a_parts m_seed1 m_darkNow)]) := by
  refine cI.of (by decide) (Nat.le_of_ble_eq_true rfl) ?_
  intro p e s m args below meth c A X hr hi
  refine k_lveq [(0, .ref h0), (1, .int p0), (2, .int p1)] rfl ?_
  refine k_aload_n X dX11_numberHere_k0.1.1.1.1 0 rfl ?_
  refine k_get (ci := 11) X inlX11 rfl 13 (nlt_e rfl) dX11_numberHere_k0.1.1.1.2 mw469 0 rfl rfl ?_
  refine k_if_eq 9 X dX11_numberHere_k0.1.1.2.1 (jp_e rfl) (fun h_1 => ?_) (fun h_1 => ?_)
  · skip
    have iv_2 : IV m_failed 0 0 := iv_meet hv_m_failed (iv_e h_1 iq_0_0_0) (zle_o rfl) (zle_o rfl)
    refine k_aload_n X dX11_numberHere_k0.1.2.1.2 0 rfl ?_
    refine k_get (ci := 11) X inlX11 rfl 6 (nlt_e rfl) dX11_numberHere_k0.1.2.2.1 mw472 0 rfl rfl ?_
    refine k_iconst (v := 3) X dX11_numberHere_k0.1.2.2.2 ic_3 ?_
    refine k_ic_eq 29 X dX11_numberHere_k0.2.1.1.1 (jp_e rfl) (fun h_3 => ?_) (fun h_3 => ?_)
    · skip
      have iv_4 : IV m_token 3 3 := iv_meet (iv_any m_token) (iv_e h_3 iq_3_3_3) (zle_o rfl) (zle_o rfl)
      refine k_aload_n X dX11_numberHere_k0.2.2.2.2 0 rfl ?_
      refine k_get (ci := 11) X inlX11 rfl 7 (nlt_e rfl) dX11_numberHere_k1.1.1.1.1 mw494 0 rfl rfl ?_
      refine k_iload_n X dX11_numberHere_k1.1.1.1.2 1 rfl ?_
      refine k_iload_n X dX11_numberHere_k1.1.1.2.1 2 rfl ?_
      refine k_callSI (n := 3) (As := [.int m_whole, .int p0, .int p1]) (st := []) X [] [(cO11_i1r1i10r1i2r5i2r12i3r4i2 h0 m_thrown a_tape m_taped m_size m_at m_end m_token m_whole m_nameSize m_fault m_place m_trouble a_letters m_failed m_hasHouse a_r a_fresh a_st a_undone a_kept m_undos m_images a_from a_begin a_motor a_change a_startFrame a_changeFrame a_lostAt a_blackAt a_slips a_leftArc a_died a_arcs m_bestSum m_nearest m_nearestTown a_there a_backAt a_sorted a_parts m_seed1 m_darkNow)] [] [0] (m_inX l g m_whole p0 p1) dX11_numberHere_k1.1.1.2.2 mw482 mw483 mw5 mw484 yk_yX11_in_3 rfl (Nat.le_of_ble_eq_true rfl) (Nat.le_of_ble_eq_true rfl) (Nat.le_of_ble_eq_true rfl) (Nat.le_of_ble_eq_true rfl) (Nat.le_of_ble_eq_true rfl) rfl rfl (vnd_e rfl) rfl (vnd_e rfl) (dsj_e rfl) ?_
      rintro r_5 w ⟨iv_6, hq_7, hk_8, hk_9, rfl⟩
      refine k_ws [(cO11_i1r1i10r1i2r5i2r12i3r4i2 h0 m_thrown a_tape m_taped m_size m_at m_end m_token m_whole m_nameSize m_fault m_place m_trouble a_letters m_failed m_hasHouse a_r a_fresh a_st a_undone a_kept m_undos m_images a_from a_begin a_motor a_change a_startFrame a_changeFrame a_lostAt a_blackAt a_slips a_leftArc a_died a_arcs m_bestSum m_nearest m_nearestTown a_there a_backAt a_sorted a_parts m_seed1 m_darkNow)] rfl ?_
      refine k_if_ne 50 X dX11_numberHere_k1.1.2.1.1 (jp_e rfl) (fun h_10 => ?_) (fun h_10 => ?_)
      · skip
        have hc_11 := hk_8.resolve_left h_10
        have j_12 : p0.toInt ≤ m_whole.toInt := hc_11.1
        have j_13 : m_whole.toInt ≤ p1.toInt := hc_11.2
        have iv_14 : IV r_5 1 1 := iv_neL h_10 iv_6 iq_0_0_0 (zle_e rfl)
        refine k_aload_n X dX11_numberHere_k1.2.1.2.1 0 rfl ?_
        refine k_get (ci := 11) X inlX11 rfl 13 (nlt_e rfl) dX11_numberHere_k1.2.1.2.2 mw469 0 rfl rfl ?_
        refine k_if_eq 61 X dX11_numberHere_k1.2.2.1.1 (jp_e rfl) (fun h_15 => ?_) (fun h_15 => absurd (iv_eq iv_2 iq_0_0_0) h_15)
        refine k_aload_n X dX11_numberHere_k1.2.2.2.2 0 rfl ?_
        refine k_get (ci := 11) X inlX11 rfl 7 (nlt_e rfl) dX11_numberHere_k2.1 mw494 0 rfl rfl ?_
        exact k_iret X hr dX11_numberHere_k2.2 (Nat.le_of_ble_eq_true rfl) (Nat.le_of_ble_eq_true rfl) [0] (vnd_e rfl) rfl rfl ⟨m_failed, m_fault, m_place, (iv_w iv_2 (zle_e rfl) (zle_e rfl)), (by omega), (Or.inl ⟨h_1, (Or.inl ⟨h_3, ⟨r_5, hq_7, (Or.inl ⟨h_10, ⟨rfl, rfl, rfl, rfl⟩⟩)⟩⟩)⟩), rfl⟩
      · skip
        have iv_16 : IV r_5 0 0 := iv_meet iv_6 (iv_e h_10 iq_0_0_0) (zle_o rfl) (zle_o rfl)
        have hc_17 := hk_9 (iv_eq iv_16 iq_0_0_0)
        have j_18 : m_whole.toInt < p0.toInt ∨ p1.toInt < m_whole.toInt := hc_17
        refine k_aload_n X dX11_numberHere_k1.1.2.1.2 0 rfl ?_
        refine k_iconst (v := 4) X dX11_numberHere_k1.1.2.2.1 ic_4 ?_
        refine k_aload_n X dX11_numberHere_k1.1.2.2.2 0 rfl ?_
        refine k_get (ci := 11) X inlX11 rfl 4 (nlt_e rfl) dX11_numberHere_k1.2.1.1.1 mw473 0 rfl rfl ?_
        refine k_callVV (n := 2) (As := [.int 4, .int m_at]) (st := []) X [(cO11_i1r1i10r1i2r5i2r12i3r4i2 h0 m_thrown a_tape m_taped m_size m_at m_end m_token m_whole m_nameSize m_fault m_place m_trouble a_letters m_failed m_hasHouse a_r a_fresh a_st a_undone a_kept m_undos m_images a_from a_begin a_motor a_change a_startFrame a_changeFrame a_lostAt a_blackAt a_slips a_leftArc a_died a_arcs m_bestSum m_nearest m_nearestTown a_there a_backAt a_sorted a_parts m_seed1 m_darkNow)] [] [0] [] (m_badX l g h0 4 m_at m_thrown a_tape m_taped m_size m_at m_end m_token m_whole m_nameSize m_fault m_place m_trouble a_letters m_failed m_hasHouse a_r a_fresh a_st a_undone a_kept m_undos m_images a_from a_begin a_motor a_change a_startFrame a_changeFrame a_lostAt a_blackAt a_slips a_leftArc a_died a_arcs m_bestSum m_nearest m_nearestTown a_there a_backAt a_sorted a_parts m_seed1 m_darkNow (iv_w iv_2 (zle_e rfl) (zle_e rfl))) dX11_numberHere_k1.2.1.1.2 mw519 mw520 mw521 mw5 mw522 rfl 11 rfl rfl 0 _ rfl yk_yX11_bad_2 rfl (Nat.le_of_ble_eq_true rfl) (Nat.le_of_ble_eq_true rfl) (Nat.le_of_ble_eq_true rfl) (Nat.le_of_ble_eq_true rfl) (Nat.le_of_ble_eq_true rfl) rfl rfl (vnd_e rfl) rfl (vnd_e rfl) (dsj_e rfl) ?_
        rintro w ⟨m_failed2_19, m_fault2_20, m_place2_21, iv_23, hq_24, rfl⟩
        refine k_ws [(cO11_i1r1i10r1i2r5i2r12i3r4i2 h0 m_thrown a_tape m_taped m_size m_at m_end m_token m_whole m_nameSize m_fault2_20 m_place2_21 m_trouble a_letters m_failed2_19 m_hasHouse a_r a_fresh a_st a_undone a_kept m_undos m_images a_from a_begin a_motor a_change a_startFrame a_changeFrame a_lostAt a_blackAt a_slips a_leftArc a_died a_arcs m_bestSum m_nearest m_nearestTown a_there a_backAt a_sorted a_parts m_seed1 m_darkNow)] rfl ?_
        refine k_aload_n X dX11_numberHere_k1.2.1.2.1 0 rfl ?_
        refine k_get (ci := 11) X inlX11 rfl 13 (nlt_e rfl) dX11_numberHere_k1.2.1.2.2 mw469 0 rfl rfl ?_
        refine k_if_eq 61 X dX11_numberHere_k1.2.2.1.1 (jp_e rfl) (fun h_25 => (iv_eqN h_25 iv_23 iq_0_0_0 (by decide)).elim) (fun h_25 => ?_)
        refine k_iload_n X dX11_numberHere_k1.2.2.1.2 1 rfl ?_
        refine k_goto 65 X dX11_numberHere_k1.2.2.2.1 (jp_e rfl) ?_
        exact k_iret X hr dX11_numberHere_k2.2 (Nat.le_of_ble_eq_true rfl) (Nat.le_of_ble_eq_true rfl) [0] (vnd_e rfl) rfl rfl ⟨m_failed2_19, m_fault2_20, m_place2_21, (iv_w iv_23 (zle_e rfl) (zle_e rfl)), (by omega), (Or.inl ⟨h_1, (Or.inl ⟨h_3, ⟨r_5, hq_7, (Or.inr ⟨h_10, ⟨m_failed2_19, m_fault2_20, m_place2_21, hq_24, ⟨rfl, rfl, rfl, rfl⟩⟩⟩)⟩⟩)⟩), rfl⟩
    · skip
      refine k_aload_n X dX11_numberHere_k0.2.1.1.2 0 rfl ?_
      refine k_iconst (v := 1) X dX11_numberHere_k0.2.1.2.1 ic_1 ?_
      refine k_aload_n X dX11_numberHere_k0.2.1.2.2 0 rfl ?_
      refine k_get (ci := 11) X inlX11 rfl 4 (nlt_e rfl) dX11_numberHere_k0.2.2.1.1 mw473 0 rfl rfl ?_
      refine k_callVV (n := 2) (As := [.int 1, .int m_at]) (st := []) X [(cO11_i1r1i10r1i2r5i2r12i3r4i2 h0 m_thrown a_tape m_taped m_size m_at m_end m_token m_whole m_nameSize m_fault m_place m_trouble a_letters m_failed m_hasHouse a_r a_fresh a_st a_undone a_kept m_undos m_images a_from a_begin a_motor a_change a_startFrame a_changeFrame a_lostAt a_blackAt a_slips a_leftArc a_died a_arcs m_bestSum m_nearest m_nearestTown a_there a_backAt a_sorted a_parts m_seed1 m_darkNow)] [] [0] [] (m_badX l g h0 1 m_at m_thrown a_tape m_taped m_size m_at m_end m_token m_whole m_nameSize m_fault m_place m_trouble a_letters m_failed m_hasHouse a_r a_fresh a_st a_undone a_kept m_undos m_images a_from a_begin a_motor a_change a_startFrame a_changeFrame a_lostAt a_blackAt a_slips a_leftArc a_died a_arcs m_bestSum m_nearest m_nearestTown a_there a_backAt a_sorted a_parts m_seed1 m_darkNow (iv_w iv_2 (zle_e rfl) (zle_e rfl))) dX11_numberHere_k0.2.2.1.2 mw519 mw520 mw521 mw5 mw522 rfl 11 rfl rfl 0 _ rfl yk_yX11_bad_2 rfl (Nat.le_of_ble_eq_true rfl) (Nat.le_of_ble_eq_true rfl) (Nat.le_of_ble_eq_true rfl) (Nat.le_of_ble_eq_true rfl) (Nat.le_of_ble_eq_true rfl) rfl rfl (vnd_e rfl) rfl (vnd_e rfl) (dsj_e rfl) ?_
      rintro w ⟨m_failed2_26, m_fault2_27, m_place2_28, iv_30, hq_31, rfl⟩
      refine k_ws [(cO11_i1r1i10r1i2r5i2r12i3r4i2 h0 m_thrown a_tape m_taped m_size m_at m_end m_token m_whole m_nameSize m_fault2_27 m_place2_28 m_trouble a_letters m_failed2_26 m_hasHouse a_r a_fresh a_st a_undone a_kept m_undos m_images a_from a_begin a_motor a_change a_startFrame a_changeFrame a_lostAt a_blackAt a_slips a_leftArc a_died a_arcs m_bestSum m_nearest m_nearestTown a_there a_backAt a_sorted a_parts m_seed1 m_darkNow)] rfl ?_
      refine k_goto 50 X dX11_numberHere_k0.2.2.2.1 (jp_e rfl) ?_
      refine k_aload_n X dX11_numberHere_k1.2.1.2.1 0 rfl ?_
      refine k_get (ci := 11) X inlX11 rfl 13 (nlt_e rfl) dX11_numberHere_k1.2.1.2.2 mw469 0 rfl rfl ?_
      refine k_if_eq 61 X dX11_numberHere_k1.2.2.1.1 (jp_e rfl) (fun h_32 => (iv_eqN h_32 iv_30 iq_0_0_0 (by decide)).elim) (fun h_32 => ?_)
      refine k_iload_n X dX11_numberHere_k1.2.2.1.2 1 rfl ?_
      refine k_goto 65 X dX11_numberHere_k1.2.2.2.1 (jp_e rfl) ?_
      exact k_iret X hr dX11_numberHere_k2.2 (Nat.le_of_ble_eq_true rfl) (Nat.le_of_ble_eq_true rfl) [0] (vnd_e rfl) rfl rfl ⟨m_failed2_26, m_fault2_27, m_place2_28, (iv_w iv_30 (zle_e rfl) (zle_e rfl)), (by omega), (Or.inl ⟨h_1, (Or.inr ⟨h_3, ⟨m_failed2_26, m_fault2_27, m_place2_28, hq_31, ⟨rfl, rfl, rfl, rfl⟩⟩⟩)⟩), rfl⟩
  · skip
    have iv_33 : IV m_failed 1 1 := iv_neL h_1 hv_m_failed iq_0_0_0 (zle_e rfl)
    refine k_iload_n X dX11_numberHere_k0.1.1.2.2 1 rfl ?_
    exact k_iret X hr dX11_numberHere_k0.1.2.1.1 (Nat.le_of_ble_eq_true rfl) (Nat.le_of_ble_eq_true rfl) [0] (vnd_e rfl) rfl rfl ⟨m_failed, m_fault, m_place, (iv_w iv_33 (zle_e rfl) (zle_e rfl)), (by omega), (Or.inr ⟨h_1, ⟨rfl, rfl, rfl, rfl⟩⟩), rfl⟩


set_option maxHeartbeats 4000000 in
set_option maxRecDepth 100000 in
theorem m_numberX (l : Launch) (g : Gx) (h0 : Nat) (p0 : Int32) (p1 : Int32) (m_thrown : Int32) (a_tape : Nat) (m_taped : Int32) (m_size : Int32) (m_at : Int32) (m_end : Int32) (m_token : Int32) (m_whole : Int32) (m_nameSize : Int32) (m_fault : Int32) (m_place : Int32) (m_trouble : Int32) (a_letters : Nat) (m_failed : Int32) (m_hasHouse : Int32) (a_r : Nat) (a_fresh : Nat) (a_st : Nat) (a_undone : Nat) (a_kept : Nat) (m_undos : Int32) (m_images : Int32) (a_from : Nat) (a_begin : Nat) (a_motor : Nat) (a_change : Nat) (a_startFrame : Nat) (a_changeFrame : Nat) (a_lostAt : Nat) (a_blackAt : Nat) (a_slips : Nat) (a_leftArc : Nat) (a_died : Nat) (a_arcs : Nat) (m_bestSum : Int32) (m_nearest : Int32) (m_nearestTown : Int32) (a_there : Nat) (a_backAt : Nat) (a_sorted : Nat) (a_parts : Nat) (m_seed1 : Int32) (m_darkNow : Int32) (d_tape : Nat → Int32) (d_letters : Nat → Int32) (hv_m_size : IV m_size 0 900) (hv_m_end : IV m_end 0 900) (hv_m_nameSize : IV m_nameSize 0 900) (hv_m_failed : IV m_failed 0 1) (hc_0 : m_token = 2 → IV m_nameSize 0 8) : cI l g yX11_number cX11_number 4 (some .int) 2 44 0 0 [.ref h0, .int p0, .int p1] [(cO11_i1r1i10r1i2r5i2r12i3r4i2 h0 m_thrown a_tape m_taped m_size m_at m_end m_token m_whole m_nameSize m_fault m_place m_trouble a_letters m_failed m_hasHouse a_r a_fresh a_st a_undone a_kept m_undos m_images a_from a_begin a_motor a_change a_startFrame a_changeFrame a_lostAt a_blackAt a_slips a_leftArc a_died a_arcs m_bestSum m_nearest m_nearestTown a_there a_backAt a_sorted a_parts m_seed1 m_darkNow), (cAI g a_tape 900 d_tape), (cAI g a_letters 8 d_letters)] (fun r w => ∃ (m_at2 : Int32) (m_end2 : Int32) (m_failed2 : Int32) (m_fault2 : Int32) (d_letters2 : Nat → Int32) (m_nameSize2 : Int32) (m_place2 : Int32) (m_token2 : Int32) (m_whole2 : Int32), IV m_end2 0 900 ∧ IV m_failed2 0 1 ∧ IV m_nameSize2 0 900 ∧ (p0.toInt ≤ r.toInt ∧ (r.toInt ≤ p0.toInt ∨ r.toInt ≤ p1.toInt)) ∧ (m_end.toInt ≤ m_end2.toInt) ∧ (R_m_numberX p0 p1 m_size m_at m_end m_token m_whole m_nameSize m_fault m_place m_failed d_tape d_letters m_at2 m_end2 m_failed2 m_fault2 d_letters2 m_nameSize2 m_place2 m_token2 m_whole2 r) ∧ (m_token2 = 2 → IV m_nameSize2 0 8) ∧ w = [(cO11_i1r1i10r1i2r5i2r12i3r4i2 h0 m_thrown a_tape m_taped m_size m_at2 m_end2 m_token2 m_whole2 m_nameSize2 m_fault2 m_place2 m_trouble a_letters m_failed2 m_hasHouse a_r a_fresh a_st a_undone a_kept m_undos m_images a_from a_begin a_motor a_change a_startFrame a_changeFrame a_lostAt a_blackAt a_slips a_leftArc a_died a_arcs m_bestSum m_nearest m_nearestTown a_there a_backAt a_sorted a_parts m_seed1 m_darkNow), (cAI g a_tape 900 d_tape), (cAI g a_letters 8 d_letters2)]) := by
  refine cI.of (by decide) (Nat.le_of_ble_eq_true rfl) ?_
  intro p e s m args below meth c A X hr hi
  refine k_lveq [(0, .ref h0), (1, .int p0), (2, .int p1)] rfl ?_
  refine k_aload_n X dX11_number_k0.1.1.1 0 rfl ?_
  refine k_iload_n X dX11_number_k0.1.1.2.1 1 rfl ?_
  refine k_iload_n X dX11_number_k0.1.1.2.2 2 rfl ?_
  refine k_callVI (n := 2) (As := [.int p0, .int p1]) (st := []) X [(cO11_i1r1i10r1i2r5i2r12i3r4i2 h0 m_thrown a_tape m_taped m_size m_at m_end m_token m_whole m_nameSize m_fault m_place m_trouble a_letters m_failed m_hasHouse a_r a_fresh a_st a_undone a_kept m_undos m_images a_from a_begin a_motor a_change a_startFrame a_changeFrame a_lostAt a_blackAt a_slips a_leftArc a_died a_arcs m_bestSum m_nearest m_nearestTown a_there a_backAt a_sorted a_parts m_seed1 m_darkNow)] [(cAI g a_tape 900 d_tape), (cAI g a_letters 8 d_letters)] [0] [1, 2] (m_numberHereX l g h0 p0 p1 m_thrown a_tape m_taped m_size m_at m_end m_token m_whole m_nameSize m_fault m_place m_trouble a_letters m_failed m_hasHouse a_r a_fresh a_st a_undone a_kept m_undos m_images a_from a_begin a_motor a_change a_startFrame a_changeFrame a_lostAt a_blackAt a_slips a_leftArc a_died a_arcs m_bestSum m_nearest m_nearestTown a_there a_backAt a_sorted a_parts m_seed1 m_darkNow (iv_w hv_m_failed (zle_e rfl) (zle_e rfl))) dX11_number_k0.1.2.1 mw539 mw540 mw541 mw5 mw542 rfl 11 rfl rfl 0 _ rfl yk_yX11_numberHere_2 rfl (Nat.le_of_ble_eq_true rfl) (Nat.le_of_ble_eq_true rfl) (Nat.le_of_ble_eq_true rfl) (Nat.le_of_ble_eq_true rfl) (Nat.le_of_ble_eq_true rfl) rfl rfl (vnd_e rfl) rfl (vnd_e rfl) (dsj_e rfl) ?_
  rintro r_4 w ⟨m_failed2_1, m_fault2_2, m_place2_3, iv_5, hq_6, hq_7, rfl⟩
  refine k_ws [(cAI g a_tape 900 d_tape), (cAI g a_letters 8 d_letters), (cO11_i1r1i10r1i2r5i2r12i3r4i2 h0 m_thrown a_tape m_taped m_size m_at m_end m_token m_whole m_nameSize m_fault2_2 m_place2_3 m_trouble a_letters m_failed2_1 m_hasHouse a_r a_fresh a_st a_undone a_kept m_undos m_images a_from a_begin a_motor a_change a_startFrame a_changeFrame a_lostAt a_blackAt a_slips a_leftArc a_died a_arcs m_bestSum m_nearest m_nearestTown a_there a_backAt a_sorted a_parts m_seed1 m_darkNow)] rfl ?_
  refine k_istore_n [(3, .int r_4), (0, .ref h0), (1, .int p0), (2, .int p1)] X dX11_number_k0.1.2.2.1 (nlt_e rfl) rfl ?_
  refine k_aload_n X dX11_number_k0.1.2.2.2 1 rfl ?_
  refine k_get (ci := 11) X inlX11 rfl 13 (nlt_e rfl) dX11_number_k0.2.1.1 mw469 2 rfl rfl ?_
  refine k_if_ne 18 X dX11_number_k0.2.1.2.1 (jp_e rfl) (fun h_8 => ?_) (fun h_8 => ?_)
  · skip
    have iv_9 : IV m_failed2_1 1 1 := iv_neL h_8 iv_5 iq_0_0_0 (zle_e rfl)
    refine k_iload_n X dX11_number_k0.2.2.2.1 0 rfl ?_
    exact k_iret X hr dX11_number_k0.2.2.2.2 (Nat.le_of_ble_eq_true rfl) (Nat.le_of_ble_eq_true rfl) [2, 0, 1] (vnd_e rfl) rfl rfl ⟨m_at, m_end, m_failed2_1, m_fault2_2, d_letters, m_nameSize, m_place2_3, m_token, m_whole, (iv_w hv_m_end (zle_e rfl) (zle_e rfl)), (iv_w iv_9 (zle_e rfl) (zle_e rfl)), (iv_w hv_m_nameSize (zle_e rfl) (zle_e rfl)), (by omega), (by omega), ⟨m_failed2_1, m_fault2_2, m_place2_3, r_4, hq_7, (Or.inl ⟨h_8, ⟨rfl, rfl, rfl, rfl, rfl, rfl, rfl, rfl, rfl, rfl⟩⟩)⟩, hc_0, rfl⟩
  · skip
    have iv_10 : IV m_failed2_1 0 0 := iv_meet iv_5 (iv_e h_8 iq_0_0_0) (zle_o rfl) (zle_o rfl)
    refine k_aload_n X dX11_number_k0.2.1.2.2 1 rfl ?_
    refine k_callVV (n := 0) (As := []) (st := []) X [(cO11_i1r1i10r1i2r5i2r12i3r4i2 h0 m_thrown a_tape m_taped m_size m_at m_end m_token m_whole m_nameSize m_fault2_2 m_place2_3 m_trouble a_letters m_failed2_1 m_hasHouse a_r a_fresh a_st a_undone a_kept m_undos m_images a_from a_begin a_motor a_change a_startFrame a_changeFrame a_lostAt a_blackAt a_slips a_leftArc a_died a_arcs m_bestSum m_nearest m_nearestTown a_there a_backAt a_sorted a_parts m_seed1 m_darkNow), (cAI g a_tape 900 d_tape), (cAI g a_letters 8 d_letters)] [] [2, 0, 1] [] (m_nextX l g h0 m_thrown a_tape m_taped m_size m_at m_end m_token m_whole m_nameSize m_fault2_2 m_place2_3 m_trouble a_letters m_failed2_1 m_hasHouse a_r a_fresh a_st a_undone a_kept m_undos m_images a_from a_begin a_motor a_change a_startFrame a_changeFrame a_lostAt a_blackAt a_slips a_leftArc a_died a_arcs m_bestSum m_nearest m_nearestTown a_there a_backAt a_sorted a_parts m_seed1 m_darkNow d_tape d_letters (iv_w hv_m_size (zle_e rfl) (zle_e rfl)) (iv_w hv_m_end (zle_e rfl) (zle_e rfl)) (iv_w hv_m_nameSize (zle_e rfl) (zle_e rfl))) dX11_number_k0.2.2.1 mw489 mw490 mw491 mw5 mw492 rfl 11 rfl rfl 0 _ rfl yk_yX11_next_0 rfl (Nat.le_of_ble_eq_true rfl) (Nat.le_of_ble_eq_true rfl) (Nat.le_of_ble_eq_true rfl) (Nat.le_of_ble_eq_true rfl) (Nat.le_of_ble_eq_true rfl) rfl rfl (vnd_e rfl) rfl (vnd_e rfl) (dsj_e rfl) ?_
    intro w zq
    refine exE6 zq ?_
    clear zq
    intro m_at2_11 m_end2_12 d_letters2_13 m_nameSize2_14 m_token2_15 m_whole2_16 iv_18 zq
    refine exA5 zq ?_
    clear zq
    intro iv_19 hq_20 hq_21 hq_22 hk_23 zq
    subst zq
    refine k_ws [(cO11_i1r1i10r1i2r5i2r12i3r4i2 h0 m_thrown a_tape m_taped m_size m_at2_11 m_end2_12 m_token2_15 m_whole2_16 m_nameSize2_14 m_fault2_2 m_place2_3 m_trouble a_letters m_failed2_1 m_hasHouse a_r a_fresh a_st a_undone a_kept m_undos m_images a_from a_begin a_motor a_change a_startFrame a_changeFrame a_lostAt a_blackAt a_slips a_leftArc a_died a_arcs m_bestSum m_nearest m_nearestTown a_there a_backAt a_sorted a_parts m_seed1 m_darkNow), (cAI g a_tape 900 d_tape), (cAI g a_letters 8 d_letters2_13)] rfl ?_
    refine k_iload_n X dX11_number_k0.2.2.2.1 0 rfl ?_
    exact k_iret X hr dX11_number_k0.2.2.2.2 (Nat.le_of_ble_eq_true rfl) (Nat.le_of_ble_eq_true rfl) [0, 1, 2] (vnd_e rfl) rfl rfl ⟨m_at2_11, m_end2_12, m_failed2_1, m_fault2_2, d_letters2_13, m_nameSize2_14, m_place2_3, m_token2_15, m_whole2_16, (iv_w iv_18 (zle_e rfl) (zle_e rfl)), (iv_w iv_10 (zle_e rfl) (zle_e rfl)), (iv_w iv_19 (zle_e rfl) (zle_e rfl)), (by omega), (by omega), ⟨m_failed2_1, m_fault2_2, m_place2_3, r_4, hq_7, (Or.inr ⟨h_8, ⟨m_at2_11, m_end2_12, d_letters2_13, m_nameSize2_14, m_token2_15, m_whole2_16, hq_22, ⟨rfl, rfl, rfl, rfl, rfl, rfl, rfl, rfl, rfl, rfl⟩⟩⟩)⟩, hk_23, rfl⟩


set_option maxHeartbeats 4000000 in
set_option maxRecDepth 100000 in
theorem m_afterX (l : Launch) (g : Gx) (h0 : Nat) (sa : Nat) (p1 : Int32) (p2 : Int32) (m_thrown : Int32) (a_tape : Nat) (m_taped : Int32) (m_size : Int32) (m_at : Int32) (m_end : Int32) (m_token : Int32) (m_whole : Int32) (m_nameSize : Int32) (m_fault : Int32) (m_place : Int32) (m_trouble : Int32) (a_letters : Nat) (m_failed : Int32) (m_hasHouse : Int32) (a_r : Nat) (a_fresh : Nat) (a_st : Nat) (a_undone : Nat) (a_kept : Nat) (m_undos : Int32) (m_images : Int32) (a_from : Nat) (a_begin : Nat) (a_motor : Nat) (a_change : Nat) (a_startFrame : Nat) (a_changeFrame : Nat) (a_lostAt : Nat) (a_blackAt : Nat) (a_slips : Nat) (a_leftArc : Nat) (a_died : Nat) (a_arcs : Nat) (m_bestSum : Int32) (m_nearest : Int32) (m_nearestTown : Int32) (a_there : Nat) (a_backAt : Nat) (a_sorted : Nat) (a_parts : Nat) (m_seed1 : Int32) (m_darkNow : Int32) (d_tape : Nat → Int32) (d_letters : Nat → Int32) (tx_sa : String) (hv_m_size : IV m_size 0 900) (hv_m_end : IV m_end 0 900) (hv_m_nameSize : IV m_nameSize 0 900) (hv_m_failed : IV m_failed 0 1) (hp_sa : LtS g sa tx_sa) (hc_0 : m_token = 2 → IV m_nameSize 0 8) : cI l g yX11_after cX11_after 4 (some .int) 7 150 0 0 [.ref h0, .ref sa, .int p1, .int p2] [(cO11_i1r1i10r1i2r5i2r12i3r4i2 h0 m_thrown a_tape m_taped m_size m_at m_end m_token m_whole m_nameSize m_fault m_place m_trouble a_letters m_failed m_hasHouse a_r a_fresh a_st a_undone a_kept m_undos m_images a_from a_begin a_motor a_change a_startFrame a_changeFrame a_lostAt a_blackAt a_slips a_leftArc a_died a_arcs m_bestSum m_nearest m_nearestTown a_there a_backAt a_sorted a_parts m_seed1 m_darkNow), (cAI g a_tape 900 d_tape), (cAI g a_letters 8 d_letters)] (fun r w => ∃ (m_at2 : Int32) (m_end2 : Int32) (m_failed2 : Int32) (m_fault2 : Int32) (d_letters2 : Nat → Int32) (m_nameSize2 : Int32) (m_place2 : Int32) (m_token2 : Int32) (m_whole2 : Int32), IV m_end2 0 900 ∧ IV m_failed2 0 1 ∧ IV m_nameSize2 0 900 ∧ (p1.toInt ≤ r.toInt ∧ (r.toInt ≤ p1.toInt ∨ r.toInt ≤ p2.toInt)) ∧ (m_end.toInt ≤ m_end2.toInt) ∧ (R_m_afterX p1 p2 m_size m_at m_end m_token m_whole m_nameSize m_fault m_place m_failed d_tape d_letters tx_sa m_at2 m_end2 m_failed2 m_fault2 d_letters2 m_nameSize2 m_place2 m_token2 m_whole2 r) ∧ (m_token2 = 2 → IV m_nameSize2 0 8) ∧ w = [(cO11_i1r1i10r1i2r5i2r12i3r4i2 h0 m_thrown a_tape m_taped m_size m_at2 m_end2 m_token2 m_whole2 m_nameSize2 m_fault2 m_place2 m_trouble a_letters m_failed2 m_hasHouse a_r a_fresh a_st a_undone a_kept m_undos m_images a_from a_begin a_motor a_change a_startFrame a_changeFrame a_lostAt a_blackAt a_slips a_leftArc a_died a_arcs m_bestSum m_nearest m_nearestTown a_there a_backAt a_sorted a_parts m_seed1 m_darkNow), (cAI g a_tape 900 d_tape), (cAI g a_letters 8 d_letters2)]) := by
  refine cI.of (by decide) (Nat.le_of_ble_eq_true rfl) ?_
  intro p e s m args below meth c A X hr hi
  refine k_lveq [(0, .ref h0), (1, .ref sa), (2, .int p1), (3, .int p2)] rfl ?_
  refine k_aload_n X dX11_after_k0.1.1.1 0 rfl ?_
  refine k_aload_n X dX11_after_k0.1.1.2 1 rfl ?_
  refine k_callVV (n := 1) (As := [.ref sa]) (st := []) X [(cO11_i1r1i10r1i2r5i2r12i3r4i2 h0 m_thrown a_tape m_taped m_size m_at m_end m_token m_whole m_nameSize m_fault m_place m_trouble a_letters m_failed m_hasHouse a_r a_fresh a_st a_undone a_kept m_undos m_images a_from a_begin a_motor a_change a_startFrame a_changeFrame a_lostAt a_blackAt a_slips a_leftArc a_died a_arcs m_bestSum m_nearest m_nearestTown a_there a_backAt a_sorted a_parts m_seed1 m_darkNow), (cAI g a_tape 900 d_tape), (cAI g a_letters 8 d_letters)] [] [0, 1, 2] [] (m_mustX l g h0 sa m_thrown a_tape m_taped m_size m_at m_end m_token m_whole m_nameSize m_fault m_place m_trouble a_letters m_failed m_hasHouse a_r a_fresh a_st a_undone a_kept m_undos m_images a_from a_begin a_motor a_change a_startFrame a_changeFrame a_lostAt a_blackAt a_slips a_leftArc a_died a_arcs m_bestSum m_nearest m_nearestTown a_there a_backAt a_sorted a_parts m_seed1 m_darkNow d_tape d_letters tx_sa (iv_w hv_m_size (zle_e rfl) (zle_e rfl)) (iv_w hv_m_end (zle_e rfl) (zle_e rfl)) (iv_w hv_m_nameSize (zle_e rfl) (zle_e rfl)) (iv_w hv_m_failed (zle_e rfl) (zle_e rfl)) hp_sa hc_0) dX11_after_k0.1.2.1 mw527 mw528 mw529 mw5 mw530 rfl 11 rfl rfl 0 _ rfl yk_yX11_must_1 rfl (Nat.le_of_ble_eq_true rfl) (Nat.le_of_ble_eq_true rfl) (Nat.le_of_ble_eq_true rfl) (Nat.le_of_ble_eq_true rfl) (Nat.le_of_ble_eq_true rfl) rfl rfl (vnd_e rfl) rfl (vnd_e rfl) (dsj_e rfl) ?_
  intro w zq
  refine exE9 zq ?_
  clear zq
  intro m_at2_1 m_end2_2 m_failed2_3 m_fault2_4 d_letters2_5 m_nameSize2_6 m_place2_7 m_token2_8 m_whole2_9 iv_11 zq
  refine exA5 zq ?_
  clear zq
  intro iv_12 iv_13 hq_14 hq_15 hk_16 zq
  subst zq
  refine k_ws [(cO11_i1r1i10r1i2r5i2r12i3r4i2 h0 m_thrown a_tape m_taped m_size m_at2_1 m_end2_2 m_token2_8 m_whole2_9 m_nameSize2_6 m_fault2_4 m_place2_7 m_trouble a_letters m_failed2_3 m_hasHouse a_r a_fresh a_st a_undone a_kept m_undos m_images a_from a_begin a_motor a_change a_startFrame a_changeFrame a_lostAt a_blackAt a_slips a_leftArc a_died a_arcs m_bestSum m_nearest m_nearestTown a_there a_backAt a_sorted a_parts m_seed1 m_darkNow), (cAI g a_tape 900 d_tape), (cAI g a_letters 8 d_letters2_5)] rfl ?_
  refine k_aload_n X dX11_after_k0.1.2.2 0 rfl ?_
  refine k_iload_n X dX11_after_k0.2.1.1 2 rfl ?_
  refine k_iload_n X dX11_after_k0.2.1.2 3 rfl ?_
  refine k_callVI (n := 2) (As := [.int p1, .int p2]) (st := []) X [(cO11_i1r1i10r1i2r5i2r12i3r4i2 h0 m_thrown a_tape m_taped m_size m_at2_1 m_end2_2 m_token2_8 m_whole2_9 m_nameSize2_6 m_fault2_4 m_place2_7 m_trouble a_letters m_failed2_3 m_hasHouse a_r a_fresh a_st a_undone a_kept m_undos m_images a_from a_begin a_motor a_change a_startFrame a_changeFrame a_lostAt a_blackAt a_slips a_leftArc a_died a_arcs m_bestSum m_nearest m_nearestTown a_there a_backAt a_sorted a_parts m_seed1 m_darkNow), (cAI g a_tape 900 d_tape), (cAI g a_letters 8 d_letters2_5)] [] [0, 1, 2] [] (m_numberX l g h0 p1 p2 m_thrown a_tape m_taped m_size m_at2_1 m_end2_2 m_token2_8 m_whole2_9 m_nameSize2_6 m_fault2_4 m_place2_7 m_trouble a_letters m_failed2_3 m_hasHouse a_r a_fresh a_st a_undone a_kept m_undos m_images a_from a_begin a_motor a_change a_startFrame a_changeFrame a_lostAt a_blackAt a_slips a_leftArc a_died a_arcs m_bestSum m_nearest m_nearestTown a_there a_backAt a_sorted a_parts m_seed1 m_darkNow d_tape d_letters2_5 (iv_w hv_m_size (zle_e rfl) (zle_e rfl)) (iv_w iv_11 (zle_e rfl) (zle_e rfl)) (iv_w iv_13 (zle_e rfl) (zle_e rfl)) (iv_w iv_12 (zle_e rfl) (zle_e rfl)) hk_16) dX11_after_k0.2.2.1 mw535 mw536 mw537 mw5 mw538 rfl 11 rfl rfl 0 _ rfl yk_yX11_number_2 rfl (Nat.le_of_ble_eq_true rfl) (Nat.le_of_ble_eq_true rfl) (Nat.le_of_ble_eq_true rfl) (Nat.le_of_ble_eq_true rfl) (Nat.le_of_ble_eq_true rfl) rfl rfl (vnd_e rfl) rfl (vnd_e rfl) (dsj_e rfl) ?_
  intro r_26 w zq
  refine exE9 zq ?_
  clear zq
  intro m_at2_17 m_end2_18 m_failed2_19 m_fault2_20 d_letters2_21 m_nameSize2_22 m_place2_23 m_token2_24 m_whole2_25 iv_27 zq
  refine exA6 zq ?_
  clear zq
  intro iv_28 iv_29 hq_30 hq_31 hq_32 hk_33 zq
  subst zq
  refine k_ws [(cO11_i1r1i10r1i2r5i2r12i3r4i2 h0 m_thrown a_tape m_taped m_size m_at2_17 m_end2_18 m_token2_24 m_whole2_25 m_nameSize2_22 m_fault2_20 m_place2_23 m_trouble a_letters m_failed2_19 m_hasHouse a_r a_fresh a_st a_undone a_kept m_undos m_images a_from a_begin a_motor a_change a_startFrame a_changeFrame a_lostAt a_blackAt a_slips a_leftArc a_died a_arcs m_bestSum m_nearest m_nearestTown a_there a_backAt a_sorted a_parts m_seed1 m_darkNow), (cAI g a_tape 900 d_tape), (cAI g a_letters 8 d_letters2_21)] rfl ?_
  exact k_iret X hr dX11_after_k0.2.2.2 (Nat.le_of_ble_eq_true rfl) (Nat.le_of_ble_eq_true rfl) [0, 1, 2] (vnd_e rfl) rfl rfl ⟨m_at2_17, m_end2_18, m_failed2_19, m_fault2_20, d_letters2_21, m_nameSize2_22, m_place2_23, m_token2_24, m_whole2_25, (iv_w iv_27 (zle_e rfl) (zle_e rfl)), (iv_w iv_28 (zle_e rfl) (zle_e rfl)), (iv_w iv_29 (zle_e rfl) (zle_e rfl)), (by omega), (by omega), ⟨m_at2_1, m_end2_2, m_failed2_3, m_fault2_4, d_letters2_5, m_nameSize2_6, m_place2_7, m_token2_8, m_whole2_9, hq_15, ⟨m_at2_17, m_end2_18, m_failed2_19, m_fault2_20, d_letters2_21, m_nameSize2_22, m_place2_23, m_token2_24, m_whole2_25, r_26, hq_32, ⟨rfl, rfl, rfl, rfl, rfl, rfl, rfl, rfl, rfl, rfl⟩⟩⟩, hk_33, rfl⟩


set_option maxHeartbeats 4000000 in
set_option maxRecDepth 100000 in
theorem m_commaX (l : Launch) (g : Gx) (h0 : Nat) (m_thrown : Int32) (a_tape : Nat) (m_taped : Int32) (m_size : Int32) (m_at : Int32) (m_end : Int32) (m_token : Int32) (m_whole : Int32) (m_nameSize : Int32) (m_fault : Int32) (m_place : Int32) (m_trouble : Int32) (a_letters : Nat) (m_failed : Int32) (m_hasHouse : Int32) (a_r : Nat) (a_fresh : Nat) (a_st : Nat) (a_undone : Nat) (a_kept : Nat) (m_undos : Int32) (m_images : Int32) (a_from : Nat) (a_begin : Nat) (a_motor : Nat) (a_change : Nat) (a_startFrame : Nat) (a_changeFrame : Nat) (a_lostAt : Nat) (a_blackAt : Nat) (a_slips : Nat) (a_leftArc : Nat) (a_died : Nat) (a_arcs : Nat) (m_bestSum : Int32) (m_nearest : Int32) (m_nearestTown : Int32) (a_there : Nat) (a_backAt : Nat) (a_sorted : Nat) (a_parts : Nat) (m_seed1 : Int32) (m_darkNow : Int32) (d_tape : Nat → Int32) (d_letters : Nat → Int32) (hv_m_size : IV m_size 0 900) (hv_m_end : IV m_end 0 900) (hv_m_nameSize : IV m_nameSize 0 900) (hv_m_failed : IV m_failed 0 1) (hc_0 : m_token = 2 → IV m_nameSize 0 8) : cI l g yX11_comma cX11_comma 1 (some .boolean) 2 44 0 0 [.ref h0] [(cO11_i1r1i10r1i2r5i2r12i3r4i2 h0 m_thrown a_tape m_taped m_size m_at m_end m_token m_whole m_nameSize m_fault m_place m_trouble a_letters m_failed m_hasHouse a_r a_fresh a_st a_undone a_kept m_undos m_images a_from a_begin a_motor a_change a_startFrame a_changeFrame a_lostAt a_blackAt a_slips a_leftArc a_died a_arcs m_bestSum m_nearest m_nearestTown a_there a_backAt a_sorted a_parts m_seed1 m_darkNow), (cAI g a_tape 900 d_tape), (cAI g a_letters 8 d_letters)] (fun r w => ∃ (m_at2 : Int32) (m_end2 : Int32) (d_letters2 : Nat → Int32) (m_nameSize2 : Int32) (m_token2 : Int32) (m_whole2 : Int32), IV m_end2 0 900 ∧ IV m_nameSize2 0 900 ∧ IV r 0 1 ∧ (m_end.toInt ≤ m_end2.toInt) ∧ (R_m_commaX m_size m_at m_end m_token m_whole m_nameSize m_failed d_tape d_letters m_at2 m_end2 d_letters2 m_nameSize2 m_token2 m_whole2 r) ∧ (m_token2 = 2 → IV m_nameSize2 0 8) ∧ w = [(cO11_i1r1i10r1i2r5i2r12i3r4i2 h0 m_thrown a_tape m_taped m_size m_at2 m_end2 m_token2 m_whole2 m_nameSize2 m_fault m_place m_trouble a_letters m_failed m_hasHouse a_r a_fresh a_st a_undone a_kept m_undos m_images a_from a_begin a_motor a_change a_startFrame a_changeFrame a_lostAt a_blackAt a_slips a_leftArc a_died a_arcs m_bestSum m_nearest m_nearestTown a_there a_backAt a_sorted a_parts m_seed1 m_darkNow), (cAI g a_tape 900 d_tape), (cAI g a_letters 8 d_letters2)]) := by
  refine cI.of (by decide) (Nat.le_of_ble_eq_true rfl) ?_
  intro p e s m args below meth c A X hr hi
  refine k_lveq [(0, .ref h0)] rfl ?_
  refine k_aload_n X dX11_comma_k0.1.1.1 0 rfl ?_
  refine k_get (ci := 11) X inlX11 rfl 13 (nlt_e rfl) dX11_comma_k0.1.1.2.1 mw469 0 rfl rfl ?_
  refine k_if_ne 16 X dX11_comma_k0.1.1.2.2 (jp_e rfl) (fun h_1 => ?_) (fun h_1 => ?_)
  · skip
    have iv_2 : IV m_failed 1 1 := iv_neL h_1 hv_m_failed iq_0_0_0 (zle_e rfl)
    refine k_iconst (v := 0) X dX11_comma_k0.2.1.2.1 ic_0 ?_
    exact k_zret X hr (by first | rfl | decide) dX11_comma_k0.2.1.2.2 (Nat.le_of_ble_eq_true rfl) (Nat.le_of_ble_eq_true rfl) [0, 1, 2] (vnd_e rfl) rfl rfl ⟨m_at, m_end, d_letters, m_nameSize, m_token, m_whole, (iv_w hv_m_end (zle_e rfl) (zle_e rfl)), (iv_w hv_m_nameSize (zle_e rfl) (zle_e rfl)), (iv_w iq_0_0_0 (zle_e rfl) (zle_e rfl)), (by omega), (Or.inl ⟨h_1, ⟨rfl, rfl, rfl, rfl, rfl, rfl, rfl⟩⟩), hc_0, rfl⟩
  · skip
    have iv_3 : IV m_failed 0 0 := iv_meet hv_m_failed (iv_e h_1 iq_0_0_0) (zle_o rfl) (zle_o rfl)
    refine k_aload_n X dX11_comma_k0.1.2.1 0 rfl ?_
    refine k_get (ci := 11) X inlX11 rfl 6 (nlt_e rfl) dX11_comma_k0.1.2.2.1 mw472 0 rfl rfl ?_
    refine k_bipush (v := 44) X dX11_comma_k0.1.2.2.2 bi_44 ?_
    refine k_ic_eq 18 X dX11_comma_k0.2.1.1 (jp_e rfl) (fun h_4 => ?_) (fun h_4 => ?_)
    · skip
      have iv_5 : IV m_token 44 44 := iv_meet (iv_any m_token) (iv_e h_4 iq_44_44_44) (zle_o rfl) (zle_o rfl)
      refine k_aload_n X dX11_comma_k0.2.2.1.1 0 rfl ?_
      refine k_callVV (n := 0) (As := []) (st := []) X [(cO11_i1r1i10r1i2r5i2r12i3r4i2 h0 m_thrown a_tape m_taped m_size m_at m_end m_token m_whole m_nameSize m_fault m_place m_trouble a_letters m_failed m_hasHouse a_r a_fresh a_st a_undone a_kept m_undos m_images a_from a_begin a_motor a_change a_startFrame a_changeFrame a_lostAt a_blackAt a_slips a_leftArc a_died a_arcs m_bestSum m_nearest m_nearestTown a_there a_backAt a_sorted a_parts m_seed1 m_darkNow), (cAI g a_tape 900 d_tape), (cAI g a_letters 8 d_letters)] [] [0, 1, 2] [] (m_nextX l g h0 m_thrown a_tape m_taped m_size m_at m_end m_token m_whole m_nameSize m_fault m_place m_trouble a_letters m_failed m_hasHouse a_r a_fresh a_st a_undone a_kept m_undos m_images a_from a_begin a_motor a_change a_startFrame a_changeFrame a_lostAt a_blackAt a_slips a_leftArc a_died a_arcs m_bestSum m_nearest m_nearestTown a_there a_backAt a_sorted a_parts m_seed1 m_darkNow d_tape d_letters (iv_w hv_m_size (zle_e rfl) (zle_e rfl)) (iv_w hv_m_end (zle_e rfl) (zle_e rfl)) (iv_w hv_m_nameSize (zle_e rfl) (zle_e rfl))) dX11_comma_k0.2.2.1.2 mw489 mw490 mw491 mw5 mw492 rfl 11 rfl rfl 0 _ rfl yk_yX11_next_0 rfl (Nat.le_of_ble_eq_true rfl) (Nat.le_of_ble_eq_true rfl) (Nat.le_of_ble_eq_true rfl) (Nat.le_of_ble_eq_true rfl) (Nat.le_of_ble_eq_true rfl) rfl rfl (vnd_e rfl) rfl (vnd_e rfl) (dsj_e rfl) ?_
      intro w zq
      refine exE6 zq ?_
      clear zq
      intro m_at2_6 m_end2_7 d_letters2_8 m_nameSize2_9 m_token2_10 m_whole2_11 iv_13 zq
      refine exA5 zq ?_
      clear zq
      intro iv_14 hq_15 hq_16 hq_17 hk_18 zq
      subst zq
      refine k_ws [(cO11_i1r1i10r1i2r5i2r12i3r4i2 h0 m_thrown a_tape m_taped m_size m_at2_6 m_end2_7 m_token2_10 m_whole2_11 m_nameSize2_9 m_fault m_place m_trouble a_letters m_failed m_hasHouse a_r a_fresh a_st a_undone a_kept m_undos m_images a_from a_begin a_motor a_change a_startFrame a_changeFrame a_lostAt a_blackAt a_slips a_leftArc a_died a_arcs m_bestSum m_nearest m_nearestTown a_there a_backAt a_sorted a_parts m_seed1 m_darkNow), (cAI g a_tape 900 d_tape), (cAI g a_letters 8 d_letters2_8)] rfl ?_
      refine k_iconst (v := 1) X dX11_comma_k0.2.2.2.1 ic_1 ?_
      exact k_zret X hr (by first | rfl | decide) dX11_comma_k0.2.2.2.2 (Nat.le_of_ble_eq_true rfl) (Nat.le_of_ble_eq_true rfl) [0, 1, 2] (vnd_e rfl) rfl rfl ⟨m_at2_6, m_end2_7, d_letters2_8, m_nameSize2_9, m_token2_10, m_whole2_11, (iv_w iv_13 (zle_e rfl) (zle_e rfl)), (iv_w iv_14 (zle_e rfl) (zle_e rfl)), (iv_w iq_1_1_1 (zle_e rfl) (zle_e rfl)), (by omega), (Or.inr ⟨h_1, (Or.inl ⟨h_4, ⟨m_at2_6, m_end2_7, d_letters2_8, m_nameSize2_9, m_token2_10, m_whole2_11, hq_17, ⟨rfl, rfl, rfl, rfl, rfl, rfl, rfl⟩⟩⟩)⟩), hk_18, rfl⟩
    · skip
      refine k_iconst (v := 0) X dX11_comma_k0.2.1.2.1 ic_0 ?_
      exact k_zret X hr (by first | rfl | decide) dX11_comma_k0.2.1.2.2 (Nat.le_of_ble_eq_true rfl) (Nat.le_of_ble_eq_true rfl) [0, 1, 2] (vnd_e rfl) rfl rfl ⟨m_at, m_end, d_letters, m_nameSize, m_token, m_whole, (iv_w hv_m_end (zle_e rfl) (zle_e rfl)), (iv_w hv_m_nameSize (zle_e rfl) (zle_e rfl)), (iv_w iq_0_0_0 (zle_e rfl) (zle_e rfl)), (by omega), (Or.inr ⟨h_1, (Or.inr ⟨h_4, ⟨rfl, rfl, rfl, rfl, rfl, rfl, rfl⟩⟩)⟩), hc_0, rfl⟩


set_option maxHeartbeats 4000000 in
set_option maxRecDepth 100000 in
theorem m_opensX (l : Launch) (g : Gx) (h0 : Nat) (sa : Nat) (p1 : Int32) (m_thrown : Int32) (a_tape : Nat) (m_taped : Int32) (m_size : Int32) (m_at : Int32) (m_end : Int32) (m_token : Int32) (m_whole : Int32) (m_nameSize : Int32) (m_fault : Int32) (m_place : Int32) (m_trouble : Int32) (a_letters : Nat) (m_failed : Int32) (m_hasHouse : Int32) (a_r : Nat) (a_fresh : Nat) (a_st : Nat) (a_undone : Nat) (a_kept : Nat) (m_undos : Int32) (m_images : Int32) (a_from : Nat) (a_begin : Nat) (a_motor : Nat) (a_change : Nat) (a_startFrame : Nat) (a_changeFrame : Nat) (a_lostAt : Nat) (a_blackAt : Nat) (a_slips : Nat) (a_leftArc : Nat) (a_died : Nat) (a_arcs : Nat) (m_bestSum : Int32) (m_nearest : Int32) (m_nearestTown : Int32) (a_there : Nat) (a_backAt : Nat) (a_sorted : Nat) (a_parts : Nat) (m_seed1 : Int32) (m_darkNow : Int32) (d_tape : Nat → Int32) (d_letters : Nat → Int32) (d_fresh : Nat → Int32) (tx_sa : String) (hv_p1 : IV p1 0 1) (hv_m_size : IV m_size 0 900) (hv_m_end : IV m_end 0 900) (hv_m_nameSize : IV m_nameSize 0 900) (hv_m_failed : IV m_failed 0 1) (hp_d_fresh : RInv d_fresh) (hp_sa : LtS g sa tx_sa) (hc_0 : m_token = 2 → IV m_nameSize 0 8) : cI l g yX11_opens cX11_opens 3 (some .boolean) 5 108 0 0 [.ref h0, .ref sa, .int p1] [(cO11_i1r1i10r1i2r5i2r12i3r4i2 h0 m_thrown a_tape m_taped m_size m_at m_end m_token m_whole m_nameSize m_fault m_place m_trouble a_letters m_failed m_hasHouse a_r a_fresh a_st a_undone a_kept m_undos m_images a_from a_begin a_motor a_change a_startFrame a_changeFrame a_lostAt a_blackAt a_slips a_leftArc a_died a_arcs m_bestSum m_nearest m_nearestTown a_there a_backAt a_sorted a_parts m_seed1 m_darkNow), (cAI g a_tape 900 d_tape), (cAI g a_letters 8 d_letters), (cAI g a_fresh 311 d_fresh)] (fun r w => ∃ (m_at2 : Int32) (m_end2 : Int32) (m_failed2 : Int32) (m_fault2 : Int32) (d_letters2 : Nat → Int32) (m_nameSize2 : Int32) (m_place2 : Int32) (m_token2 : Int32) (m_whole2 : Int32), IV m_end2 0 900 ∧ IV m_failed2 0 1 ∧ IV m_nameSize2 0 900 ∧ IV r 0 1 ∧ (r = 0 ∨ m_failed2 = 1 ∨ p1 ≠ 0) ∧ (r.toInt = 0 → m_token2.toInt = m_token.toInt) ∧ (m_end.toInt ≤ m_end2.toInt) ∧ (R_m_opensX p1 m_size m_at m_end m_token m_whole m_nameSize m_fault m_place m_failed d_tape d_letters d_fresh tx_sa m_at2 m_end2 m_failed2 m_fault2 d_letters2 m_nameSize2 m_place2 m_token2 m_whole2 r) ∧ (r = 0 ∨ (IV m_token 2 2)) ∧ (m_token2 = 2 → IV m_nameSize2 0 8) ∧ w = [(cO11_i1r1i10r1i2r5i2r12i3r4i2 h0 m_thrown a_tape m_taped m_size m_at2 m_end2 m_token2 m_whole2 m_nameSize2 m_fault2 m_place2 m_trouble a_letters m_failed2 m_hasHouse a_r a_fresh a_st a_undone a_kept m_undos m_images a_from a_begin a_motor a_change a_startFrame a_changeFrame a_lostAt a_blackAt a_slips a_leftArc a_died a_arcs m_bestSum m_nearest m_nearestTown a_there a_backAt a_sorted a_parts m_seed1 m_darkNow), (cAI g a_tape 900 d_tape), (cAI g a_letters 8 d_letters2), (cAI g a_fresh 311 d_fresh)]) := by
  refine cI.of (by decide) (Nat.le_of_ble_eq_true rfl) ?_
  intro p e s m args below meth c A X hr hi
  refine k_lveq [(0, .ref h0), (1, .ref sa), (2, .int p1)] rfl ?_
  refine k_aload_n X dX11_opens_k0.1.1.1.1 0 rfl ?_
  refine k_aload_n X dX11_opens_k0.1.1.1.2 1 rfl ?_
  refine k_callVI (n := 1) (As := [.ref sa]) (st := []) X [(cO11_i1r1i10r1i2r5i2r12i3r4i2 h0 m_thrown a_tape m_taped m_size m_at m_end m_token m_whole m_nameSize m_fault m_place m_trouble a_letters m_failed m_hasHouse a_r a_fresh a_st a_undone a_kept m_undos m_images a_from a_begin a_motor a_change a_startFrame a_changeFrame a_lostAt a_blackAt a_slips a_leftArc a_died a_arcs m_bestSum m_nearest m_nearestTown a_there a_backAt a_sorted a_parts m_seed1 m_darkNow), (cAI g a_letters 8 d_letters)] [(cAI g a_tape 900 d_tape), (cAI g a_fresh 311 d_fresh)] [0, 2] [1, 3] (m_isWordX l g h0 sa m_thrown a_tape m_taped m_size m_at m_end m_token m_whole m_nameSize m_fault m_place m_trouble a_letters m_failed m_hasHouse a_r a_fresh a_st a_undone a_kept m_undos m_images a_from a_begin a_motor a_change a_startFrame a_changeFrame a_lostAt a_blackAt a_slips a_leftArc a_died a_arcs m_bestSum m_nearest m_nearestTown a_there a_backAt a_sorted a_parts m_seed1 m_darkNow d_letters tx_sa (iv_w hv_m_nameSize (zle_e rfl) (zle_e rfl)) (iv_w hv_m_failed (zle_e rfl) (zle_e rfl)) hp_sa hc_0) dX11_opens_k0.1.1.2.1 mw509 mw510 mw511 mw5 mw512 rfl 11 rfl rfl 0 _ rfl yk_yX11_isWord_1 rfl (Nat.le_of_ble_eq_true rfl) (Nat.le_of_ble_eq_true rfl) (Nat.le_of_ble_eq_true rfl) (Nat.le_of_ble_eq_true rfl) (Nat.le_of_ble_eq_true rfl) rfl rfl (vnd_e rfl) rfl (vnd_e rfl) (dsj_e rfl) ?_
  rintro r_1 w ⟨iv_2, hq_3, hk_4, rfl⟩
  refine k_ws [(cAI g a_tape 900 d_tape), (cAI g a_fresh 311 d_fresh), (cO11_i1r1i10r1i2r5i2r12i3r4i2 h0 m_thrown a_tape m_taped m_size m_at m_end m_token m_whole m_nameSize m_fault m_place m_trouble a_letters m_failed m_hasHouse a_r a_fresh a_st a_undone a_kept m_undos m_images a_from a_begin a_motor a_change a_startFrame a_changeFrame a_lostAt a_blackAt a_slips a_leftArc a_died a_arcs m_bestSum m_nearest m_nearestTown a_there a_backAt a_sorted a_parts m_seed1 m_darkNow), (cAI g a_letters 8 d_letters)] rfl ?_
  refine k_if_ne 10 X dX11_opens_k0.1.1.2.2 (jp_e rfl) (fun h_5 => ?_) (fun h_5 => ?_)
  · skip
    have hc_6 := hk_4.resolve_left h_5
    have iv_7 : IV m_token 2 2 := iv_meet (iv_any m_token) hc_6.1 (zle_o rfl) (zle_o rfl)
    have hc_8 := hc_0 (iv_eq iv_7 iq_2_2_2)
    have iv_9 : IV m_nameSize 0 8 := iv_meet hv_m_nameSize hc_8 (zle_o rfl) (zle_o rfl)
    have iv_10 : IV m_failed 0 0 := iv_meet hv_m_failed hc_6.2 (zle_o rfl) (zle_o rfl)
    have iv_11 : IV r_1 1 1 := iv_neL h_5 iv_2 iq_0_0_0 (zle_e rfl)
    refine k_iload_n X dX11_opens_k0.1.2.2.1 2 rfl ?_
    refine k_if_ne 23 X dX11_opens_k0.1.2.2.2 (jp_e rfl) (fun h_12 => ?_) (fun h_12 => ?_)
    · skip
      have iv_13 : IV p1 1 1 := iv_neL h_12 hv_p1 iq_0_0_0 (zle_e rfl)
      refine k_aload_n X dX11_opens_k0.2.2.1.2 0 rfl ?_
      refine k_get (ci := 11) X inlX11 rfl 16 (nlt_e rfl) dX11_opens_k0.2.2.2.1 mw171 2 rfl rfl ?_
      refine k_bipush (v := 15) X dX11_opens_k0.2.2.2.2 bi_15 ?_
      refine k_iald X dX11_opens_k1.1.1.1 1 rfl (by unfold vp_in; decide) ?_
      refine k_nm (fun z_14 ez_14 => ?_)
      refine k_if_ne 43 X dX11_opens_k1.1.1.2.1 (jp_e rfl) (fun h_15 => ?_) (fun h_15 => ?_)
      · skip
        refine k_aload_n X dX11_opens_k1.2.1.1 0 rfl ?_
        refine k_get (ci := 11) X inlX11 rfl 13 (nlt_e rfl) dX11_opens_k1.2.1.2.1 mw469 2 rfl rfl ?_
        refine k_if_ne 54 X dX11_opens_k1.2.1.2.2 (jp_e rfl) (fun h_16 => absurd (iv_eq iv_10 iq_0_0_0) h_16) (fun h_16 => ?_)
        refine k_aload_n X dX11_opens_k1.2.2.1.1 0 rfl ?_
        refine k_callVV (n := 0) (As := []) (st := []) X [(cO11_i1r1i10r1i2r5i2r12i3r4i2 h0 m_thrown a_tape m_taped m_size m_at m_end m_token m_whole m_nameSize m_fault m_place m_trouble a_letters m_failed m_hasHouse a_r a_fresh a_st a_undone a_kept m_undos m_images a_from a_begin a_motor a_change a_startFrame a_changeFrame a_lostAt a_blackAt a_slips a_leftArc a_died a_arcs m_bestSum m_nearest m_nearestTown a_there a_backAt a_sorted a_parts m_seed1 m_darkNow), (cAI g a_tape 900 d_tape), (cAI g a_letters 8 d_letters)] [(cAI g a_fresh 311 d_fresh)] [2, 0, 3] [1] (m_nextX l g h0 m_thrown a_tape m_taped m_size m_at m_end m_token m_whole m_nameSize m_fault m_place m_trouble a_letters m_failed m_hasHouse a_r a_fresh a_st a_undone a_kept m_undos m_images a_from a_begin a_motor a_change a_startFrame a_changeFrame a_lostAt a_blackAt a_slips a_leftArc a_died a_arcs m_bestSum m_nearest m_nearestTown a_there a_backAt a_sorted a_parts m_seed1 m_darkNow d_tape d_letters (iv_w hv_m_size (zle_e rfl) (zle_e rfl)) (iv_w hv_m_end (zle_e rfl) (zle_e rfl)) (iv_w iv_9 (zle_e rfl) (zle_e rfl))) dX11_opens_k1.2.2.1.2 mw489 mw490 mw491 mw5 mw492 rfl 11 rfl rfl 0 _ rfl yk_yX11_next_0 rfl (Nat.le_of_ble_eq_true rfl) (Nat.le_of_ble_eq_true rfl) (Nat.le_of_ble_eq_true rfl) (Nat.le_of_ble_eq_true rfl) (Nat.le_of_ble_eq_true rfl) rfl rfl (vnd_e rfl) rfl (vnd_e rfl) (dsj_e rfl) ?_
        intro w zq
        refine exE6 zq ?_
        clear zq
        intro m_at2_17 m_end2_18 d_letters2_19 m_nameSize2_20 m_token2_21 m_whole2_22 iv_24 zq
        refine exA5 zq ?_
        clear zq
        intro iv_25 hq_26 hq_27 hq_28 hk_29 zq
        subst zq
        refine k_ws [(cAI g a_fresh 311 d_fresh), (cO11_i1r1i10r1i2r5i2r12i3r4i2 h0 m_thrown a_tape m_taped m_size m_at2_17 m_end2_18 m_token2_21 m_whole2_22 m_nameSize2_20 m_fault m_place m_trouble a_letters m_failed m_hasHouse a_r a_fresh a_st a_undone a_kept m_undos m_images a_from a_begin a_motor a_change a_startFrame a_changeFrame a_lostAt a_blackAt a_slips a_leftArc a_died a_arcs m_bestSum m_nearest m_nearestTown a_there a_backAt a_sorted a_parts m_seed1 m_darkNow), (cAI g a_tape 900 d_tape), (cAI g a_letters 8 d_letters2_19)] rfl ?_
        refine k_iconst (v := 1) X dX11_opens_k1.2.2.2.1 ic_1 ?_
        exact k_zret X hr (by first | rfl | decide) dX11_opens_k1.2.2.2.2 (Nat.le_of_ble_eq_true rfl) (Nat.le_of_ble_eq_true rfl) [1, 2, 3, 0] (vnd_e rfl) rfl rfl ⟨m_at2_17, m_end2_18, m_failed, m_fault, d_letters2_19, m_nameSize2_20, m_place, m_token2_21, m_whole2_22, (iv_w iv_24 (zle_e rfl) (zle_e rfl)), (iv_w iv_10 (zle_e rfl) (zle_e rfl)), (iv_w iv_25 (zle_e rfl) (zle_e rfl)), (iv_w iq_1_1_1 (zle_e rfl) (zle_e rfl)), (by first | exact Or.inl rfl | exact Or.inr (Or.inr (by assumption)) | exact Or.inr (Or.inl (iv_eq (by assumption) iq_1_1_1))), (by first | exact fun _ => rfl | exact fun q => absurd q (by decide)), (by omega), ⟨r_1, hq_3, (Or.inl ⟨h_5, (Or.inl ⟨h_12, ⟨z_14, ez_14, (Or.inl ⟨h_15, ⟨m_at2_17, m_end2_18, d_letters2_19, m_nameSize2_20, m_token2_21, m_whole2_22, hq_28, ⟨rfl, rfl, rfl, rfl, rfl, rfl, rfl, rfl, rfl, rfl⟩⟩⟩)⟩⟩)⟩)⟩, (Or.inr (iv_w iv_7 (zle_e rfl) (zle_e rfl))), hk_29, rfl⟩
      · skip
        have iv_30 : IV z_14 0 0 := iv_meet (iv_any z_14) (iv_e h_15 iq_0_0_0) (zle_o rfl) (zle_o rfl)
        refine k_aload_n X dX11_opens_k1.1.1.2.2 0 rfl ?_
        refine k_bipush (v := 6) X dX11_opens_k1.1.2.1.1 bi_6 ?_
        refine k_aload_n X dX11_opens_k1.1.2.1.2 0 rfl ?_
        refine k_get (ci := 11) X inlX11 rfl 4 (nlt_e rfl) dX11_opens_k1.1.2.2.1 mw473 2 rfl rfl ?_
        refine k_callVV (n := 2) (As := [.int 6, .int m_at]) (st := []) X [(cO11_i1r1i10r1i2r5i2r12i3r4i2 h0 m_thrown a_tape m_taped m_size m_at m_end m_token m_whole m_nameSize m_fault m_place m_trouble a_letters m_failed m_hasHouse a_r a_fresh a_st a_undone a_kept m_undos m_images a_from a_begin a_motor a_change a_startFrame a_changeFrame a_lostAt a_blackAt a_slips a_leftArc a_died a_arcs m_bestSum m_nearest m_nearestTown a_there a_backAt a_sorted a_parts m_seed1 m_darkNow)] [(cAI g a_tape 900 d_tape), (cAI g a_fresh 311 d_fresh), (cAI g a_letters 8 d_letters)] [2] [0, 1, 3] (m_badX l g h0 6 m_at m_thrown a_tape m_taped m_size m_at m_end m_token m_whole m_nameSize m_fault m_place m_trouble a_letters m_failed m_hasHouse a_r a_fresh a_st a_undone a_kept m_undos m_images a_from a_begin a_motor a_change a_startFrame a_changeFrame a_lostAt a_blackAt a_slips a_leftArc a_died a_arcs m_bestSum m_nearest m_nearestTown a_there a_backAt a_sorted a_parts m_seed1 m_darkNow (iv_w iv_10 (zle_e rfl) (zle_e rfl))) dX11_opens_k1.1.2.2.2 mw519 mw520 mw521 mw5 mw522 rfl 11 rfl rfl 0 _ rfl yk_yX11_bad_2 rfl (Nat.le_of_ble_eq_true rfl) (Nat.le_of_ble_eq_true rfl) (Nat.le_of_ble_eq_true rfl) (Nat.le_of_ble_eq_true rfl) (Nat.le_of_ble_eq_true rfl) rfl rfl (vnd_e rfl) rfl (vnd_e rfl) (dsj_e rfl) ?_
        rintro w ⟨m_failed2_31, m_fault2_32, m_place2_33, iv_35, hq_36, rfl⟩
        refine k_ws [(cAI g a_tape 900 d_tape), (cAI g a_fresh 311 d_fresh), (cAI g a_letters 8 d_letters), (cO11_i1r1i10r1i2r5i2r12i3r4i2 h0 m_thrown a_tape m_taped m_size m_at m_end m_token m_whole m_nameSize m_fault2_32 m_place2_33 m_trouble a_letters m_failed2_31 m_hasHouse a_r a_fresh a_st a_undone a_kept m_undos m_images a_from a_begin a_motor a_change a_startFrame a_changeFrame a_lostAt a_blackAt a_slips a_leftArc a_died a_arcs m_bestSum m_nearest m_nearestTown a_there a_backAt a_sorted a_parts m_seed1 m_darkNow)] rfl ?_
        refine k_aload_n X dX11_opens_k1.2.1.1 0 rfl ?_
        refine k_get (ci := 11) X inlX11 rfl 13 (nlt_e rfl) dX11_opens_k1.2.1.2.1 mw469 3 rfl rfl ?_
        refine k_if_ne 54 X dX11_opens_k1.2.1.2.2 (jp_e rfl) (fun h_37 => ?_) (fun h_37 => (iv_eqN h_37 iv_35 iq_0_0_0 (by decide)).elim)
        refine k_iconst (v := 1) X dX11_opens_k1.2.2.2.1 ic_1 ?_
        exact k_zret X hr (by first | rfl | decide) dX11_opens_k1.2.2.2.2 (Nat.le_of_ble_eq_true rfl) (Nat.le_of_ble_eq_true rfl) [3, 0, 2, 1] (vnd_e rfl) rfl rfl ⟨m_at, m_end, m_failed2_31, m_fault2_32, d_letters, m_nameSize, m_place2_33, m_token, m_whole, (iv_w hv_m_end (zle_e rfl) (zle_e rfl)), (iv_w iv_35 (zle_e rfl) (zle_e rfl)), (iv_w iv_9 (zle_e rfl) (zle_e rfl)), (iv_w iq_1_1_1 (zle_e rfl) (zle_e rfl)), (by first | exact Or.inl rfl | exact Or.inr (Or.inr (by assumption)) | exact Or.inr (Or.inl (iv_eq (by assumption) iq_1_1_1))), (by first | exact fun _ => rfl | exact fun q => absurd q (by decide)), (by omega), ⟨r_1, hq_3, (Or.inl ⟨h_5, (Or.inl ⟨h_12, ⟨z_14, ez_14, (Or.inr ⟨h_15, ⟨m_failed2_31, m_fault2_32, m_place2_33, hq_36, ⟨rfl, rfl, rfl, rfl, rfl, rfl, rfl, rfl, rfl, rfl⟩⟩⟩)⟩⟩)⟩)⟩, (Or.inr (iv_w iv_7 (zle_e rfl) (zle_e rfl))), (fun _ => (iv_w iv_9 (zle_e rfl) (zle_e rfl))), rfl⟩
    · skip
      have iv_38 : IV p1 0 0 := iv_meet hv_p1 (iv_e h_12 iq_0_0_0) (zle_o rfl) (zle_o rfl)
      refine k_aload_n X dX11_opens_k0.2.1.1.1 0 rfl ?_
      refine k_iconst (v := 5) X dX11_opens_k0.2.1.1.2 ic_5 ?_
      refine k_aload_n X dX11_opens_k0.2.1.2.1 0 rfl ?_
      refine k_get (ci := 11) X inlX11 rfl 4 (nlt_e rfl) dX11_opens_k0.2.1.2.2 mw473 2 rfl rfl ?_
      refine k_callVV (n := 2) (As := [.int 5, .int m_at]) (st := []) X [(cO11_i1r1i10r1i2r5i2r12i3r4i2 h0 m_thrown a_tape m_taped m_size m_at m_end m_token m_whole m_nameSize m_fault m_place m_trouble a_letters m_failed m_hasHouse a_r a_fresh a_st a_undone a_kept m_undos m_images a_from a_begin a_motor a_change a_startFrame a_changeFrame a_lostAt a_blackAt a_slips a_leftArc a_died a_arcs m_bestSum m_nearest m_nearestTown a_there a_backAt a_sorted a_parts m_seed1 m_darkNow)] [(cAI g a_tape 900 d_tape), (cAI g a_fresh 311 d_fresh), (cAI g a_letters 8 d_letters)] [2] [0, 1, 3] (m_badX l g h0 5 m_at m_thrown a_tape m_taped m_size m_at m_end m_token m_whole m_nameSize m_fault m_place m_trouble a_letters m_failed m_hasHouse a_r a_fresh a_st a_undone a_kept m_undos m_images a_from a_begin a_motor a_change a_startFrame a_changeFrame a_lostAt a_blackAt a_slips a_leftArc a_died a_arcs m_bestSum m_nearest m_nearestTown a_there a_backAt a_sorted a_parts m_seed1 m_darkNow (iv_w iv_10 (zle_e rfl) (zle_e rfl))) dX11_opens_k0.2.2.1.1 mw519 mw520 mw521 mw5 mw522 rfl 11 rfl rfl 0 _ rfl yk_yX11_bad_2 rfl (Nat.le_of_ble_eq_true rfl) (Nat.le_of_ble_eq_true rfl) (Nat.le_of_ble_eq_true rfl) (Nat.le_of_ble_eq_true rfl) (Nat.le_of_ble_eq_true rfl) rfl rfl (vnd_e rfl) rfl (vnd_e rfl) (dsj_e rfl) ?_
      rintro w ⟨m_failed2_39, m_fault2_40, m_place2_41, iv_43, hq_44, rfl⟩
      refine k_ws [(cAI g a_tape 900 d_tape), (cAI g a_fresh 311 d_fresh), (cAI g a_letters 8 d_letters), (cO11_i1r1i10r1i2r5i2r12i3r4i2 h0 m_thrown a_tape m_taped m_size m_at m_end m_token m_whole m_nameSize m_fault2_40 m_place2_41 m_trouble a_letters m_failed2_39 m_hasHouse a_r a_fresh a_st a_undone a_kept m_undos m_images a_from a_begin a_motor a_change a_startFrame a_changeFrame a_lostAt a_blackAt a_slips a_leftArc a_died a_arcs m_bestSum m_nearest m_nearestTown a_there a_backAt a_sorted a_parts m_seed1 m_darkNow)] rfl ?_
      refine k_aload_n X dX11_opens_k0.2.2.1.2 0 rfl ?_
      refine k_get (ci := 11) X inlX11 rfl 16 (nlt_e rfl) dX11_opens_k0.2.2.2.1 mw171 3 rfl rfl ?_
      refine k_bipush (v := 15) X dX11_opens_k0.2.2.2.2 bi_15 ?_
      refine k_iald X dX11_opens_k1.1.1.1 1 rfl (by unfold vp_in; decide) ?_
      refine k_nm (fun z_45 ez_45 => ?_)
      refine k_if_ne 43 X dX11_opens_k1.1.1.2.1 (jp_e rfl) (fun h_46 => ?_) (fun h_46 => ?_)
      · skip
        refine k_aload_n X dX11_opens_k1.2.1.1 0 rfl ?_
        refine k_get (ci := 11) X inlX11 rfl 13 (nlt_e rfl) dX11_opens_k1.2.1.2.1 mw469 3 rfl rfl ?_
        refine k_if_ne 54 X dX11_opens_k1.2.1.2.2 (jp_e rfl) (fun h_47 => ?_) (fun h_47 => (iv_eqN h_47 iv_43 iq_0_0_0 (by decide)).elim)
        refine k_iconst (v := 1) X dX11_opens_k1.2.2.2.1 ic_1 ?_
        exact k_zret X hr (by first | rfl | decide) dX11_opens_k1.2.2.2.2 (Nat.le_of_ble_eq_true rfl) (Nat.le_of_ble_eq_true rfl) [3, 0, 2, 1] (vnd_e rfl) rfl rfl ⟨m_at, m_end, m_failed2_39, m_fault2_40, d_letters, m_nameSize, m_place2_41, m_token, m_whole, (iv_w hv_m_end (zle_e rfl) (zle_e rfl)), (iv_w iv_43 (zle_e rfl) (zle_e rfl)), (iv_w iv_9 (zle_e rfl) (zle_e rfl)), (iv_w iq_1_1_1 (zle_e rfl) (zle_e rfl)), (by first | exact Or.inl rfl | exact Or.inr (Or.inr (by assumption)) | exact Or.inr (Or.inl (iv_eq (by assumption) iq_1_1_1))), (by first | exact fun _ => rfl | exact fun q => absurd q (by decide)), (by omega), ⟨r_1, hq_3, (Or.inl ⟨h_5, (Or.inr ⟨h_12, ⟨m_failed2_39, m_fault2_40, m_place2_41, hq_44, ⟨z_45, ez_45, (Or.inl ⟨h_46, ⟨rfl, rfl, rfl, rfl, rfl, rfl, rfl, rfl, rfl, rfl⟩⟩)⟩⟩⟩)⟩)⟩, (Or.inr (iv_w iv_7 (zle_e rfl) (zle_e rfl))), (fun _ => (iv_w iv_9 (zle_e rfl) (zle_e rfl))), rfl⟩
      · skip
        have iv_48 : IV z_45 0 0 := iv_meet (iv_any z_45) (iv_e h_46 iq_0_0_0) (zle_o rfl) (zle_o rfl)
        refine k_aload_n X dX11_opens_k1.1.1.2.2 0 rfl ?_
        refine k_bipush (v := 6) X dX11_opens_k1.1.2.1.1 bi_6 ?_
        refine k_aload_n X dX11_opens_k1.1.2.1.2 0 rfl ?_
        refine k_get (ci := 11) X inlX11 rfl 4 (nlt_e rfl) dX11_opens_k1.1.2.2.1 mw473 3 rfl rfl ?_
        refine k_callVV (n := 2) (As := [.int 6, .int m_at]) (st := []) X [(cO11_i1r1i10r1i2r5i2r12i3r4i2 h0 m_thrown a_tape m_taped m_size m_at m_end m_token m_whole m_nameSize m_fault2_40 m_place2_41 m_trouble a_letters m_failed2_39 m_hasHouse a_r a_fresh a_st a_undone a_kept m_undos m_images a_from a_begin a_motor a_change a_startFrame a_changeFrame a_lostAt a_blackAt a_slips a_leftArc a_died a_arcs m_bestSum m_nearest m_nearestTown a_there a_backAt a_sorted a_parts m_seed1 m_darkNow)] [(cAI g a_tape 900 d_tape), (cAI g a_fresh 311 d_fresh), (cAI g a_letters 8 d_letters)] [3] [0, 1, 2] (m_badX l g h0 6 m_at m_thrown a_tape m_taped m_size m_at m_end m_token m_whole m_nameSize m_fault2_40 m_place2_41 m_trouble a_letters m_failed2_39 m_hasHouse a_r a_fresh a_st a_undone a_kept m_undos m_images a_from a_begin a_motor a_change a_startFrame a_changeFrame a_lostAt a_blackAt a_slips a_leftArc a_died a_arcs m_bestSum m_nearest m_nearestTown a_there a_backAt a_sorted a_parts m_seed1 m_darkNow (iv_w iv_43 (zle_e rfl) (zle_e rfl))) dX11_opens_k1.1.2.2.2 mw519 mw520 mw521 mw5 mw522 rfl 11 rfl rfl 0 _ rfl yk_yX11_bad_2 rfl (Nat.le_of_ble_eq_true rfl) (Nat.le_of_ble_eq_true rfl) (Nat.le_of_ble_eq_true rfl) (Nat.le_of_ble_eq_true rfl) (Nat.le_of_ble_eq_true rfl) rfl rfl (vnd_e rfl) rfl (vnd_e rfl) (dsj_e rfl) ?_
        rintro w ⟨m_failed2_49, m_fault2_50, m_place2_51, iv_53, hq_54, rfl⟩
        refine k_ws [(cAI g a_tape 900 d_tape), (cAI g a_fresh 311 d_fresh), (cAI g a_letters 8 d_letters), (cO11_i1r1i10r1i2r5i2r12i3r4i2 h0 m_thrown a_tape m_taped m_size m_at m_end m_token m_whole m_nameSize m_fault2_50 m_place2_51 m_trouble a_letters m_failed2_49 m_hasHouse a_r a_fresh a_st a_undone a_kept m_undos m_images a_from a_begin a_motor a_change a_startFrame a_changeFrame a_lostAt a_blackAt a_slips a_leftArc a_died a_arcs m_bestSum m_nearest m_nearestTown a_there a_backAt a_sorted a_parts m_seed1 m_darkNow)] rfl ?_
        refine k_aload_n X dX11_opens_k1.2.1.1 0 rfl ?_
        refine k_get (ci := 11) X inlX11 rfl 13 (nlt_e rfl) dX11_opens_k1.2.1.2.1 mw469 3 rfl rfl ?_
        refine k_if_ne 54 X dX11_opens_k1.2.1.2.2 (jp_e rfl) (fun h_55 => ?_) (fun h_55 => (iv_eqN h_55 iv_53 iq_0_0_0 (by decide)).elim)
        refine k_iconst (v := 1) X dX11_opens_k1.2.2.2.1 ic_1 ?_
        exact k_zret X hr (by first | rfl | decide) dX11_opens_k1.2.2.2.2 (Nat.le_of_ble_eq_true rfl) (Nat.le_of_ble_eq_true rfl) [3, 0, 2, 1] (vnd_e rfl) rfl rfl ⟨m_at, m_end, m_failed2_49, m_fault2_50, d_letters, m_nameSize, m_place2_51, m_token, m_whole, (iv_w hv_m_end (zle_e rfl) (zle_e rfl)), (iv_w iv_53 (zle_e rfl) (zle_e rfl)), (iv_w iv_9 (zle_e rfl) (zle_e rfl)), (iv_w iq_1_1_1 (zle_e rfl) (zle_e rfl)), (by first | exact Or.inl rfl | exact Or.inr (Or.inr (by assumption)) | exact Or.inr (Or.inl (iv_eq (by assumption) iq_1_1_1))), (by first | exact fun _ => rfl | exact fun q => absurd q (by decide)), (by omega), ⟨r_1, hq_3, (Or.inl ⟨h_5, (Or.inr ⟨h_12, ⟨m_failed2_39, m_fault2_40, m_place2_41, hq_44, ⟨z_45, ez_45, (Or.inr ⟨h_46, ⟨m_failed2_49, m_fault2_50, m_place2_51, hq_54, ⟨rfl, rfl, rfl, rfl, rfl, rfl, rfl, rfl, rfl, rfl⟩⟩⟩)⟩⟩⟩)⟩)⟩, (Or.inr (iv_w iv_7 (zle_e rfl) (zle_e rfl))), (fun _ => (iv_w iv_9 (zle_e rfl) (zle_e rfl))), rfl⟩
  · skip
    have iv_56 : IV r_1 0 0 := iv_meet iv_2 (iv_e h_5 iq_0_0_0) (zle_o rfl) (zle_o rfl)
    refine k_iconst (v := 0) X dX11_opens_k0.1.2.1.1 ic_0 ?_
    exact k_zret X hr (by first | rfl | decide) dX11_opens_k0.1.2.1.2 (Nat.le_of_ble_eq_true rfl) (Nat.le_of_ble_eq_true rfl) [2, 0, 3, 1] (vnd_e rfl) rfl rfl ⟨m_at, m_end, m_failed, m_fault, d_letters, m_nameSize, m_place, m_token, m_whole, (iv_w hv_m_end (zle_e rfl) (zle_e rfl)), (iv_w hv_m_failed (zle_e rfl) (zle_e rfl)), (iv_w hv_m_nameSize (zle_e rfl) (zle_e rfl)), (iv_w iq_0_0_0 (zle_e rfl) (zle_e rfl)), (by first | exact Or.inl rfl | exact Or.inr (Or.inr (by assumption)) | exact Or.inr (Or.inl (iv_eq (by assumption) iq_1_1_1))), (by first | exact fun _ => rfl | exact fun q => absurd q (by decide)), (by omega), ⟨r_1, hq_3, (Or.inr ⟨h_5, ⟨rfl, rfl, rfl, rfl, rfl, rfl, rfl, rfl, rfl, rfl⟩⟩)⟩, (Or.inl (iv_eq iq_0_0_0 iq_0_0_0)), hc_0, rfl⟩


set_option maxHeartbeats 4000000 in
set_option maxRecDepth 100000 in
theorem m_opensOnceX (l : Launch) (g : Gx) (h0 : Nat) (sa : Nat) (p1 : Int32) (m_thrown : Int32) (a_tape : Nat) (m_taped : Int32) (m_size : Int32) (m_at : Int32) (m_end : Int32) (m_token : Int32) (m_whole : Int32) (m_nameSize : Int32) (m_fault : Int32) (m_place : Int32) (m_trouble : Int32) (a_letters : Nat) (m_failed : Int32) (m_hasHouse : Int32) (a_r : Nat) (a_fresh : Nat) (a_st : Nat) (a_undone : Nat) (a_kept : Nat) (m_undos : Int32) (m_images : Int32) (a_from : Nat) (a_begin : Nat) (a_motor : Nat) (a_change : Nat) (a_startFrame : Nat) (a_changeFrame : Nat) (a_lostAt : Nat) (a_blackAt : Nat) (a_slips : Nat) (a_leftArc : Nat) (a_died : Nat) (a_arcs : Nat) (m_bestSum : Int32) (m_nearest : Int32) (m_nearestTown : Int32) (a_there : Nat) (a_backAt : Nat) (a_sorted : Nat) (a_parts : Nat) (m_seed1 : Int32) (m_darkNow : Int32) (d_tape : Nat → Int32) (d_letters : Nat → Int32) (d_fresh : Nat → Int32) (tx_sa : String) (hv_p1 : IV p1 0 1) (hv_m_size : IV m_size 0 900) (hv_m_end : IV m_end 0 900) (hv_m_nameSize : IV m_nameSize 0 900) (hv_m_failed : IV m_failed 0 1) (hp_d_fresh : RInv d_fresh) (hp_sa : LtS g sa tx_sa) (hc_0 : m_token = 2 → IV m_nameSize 0 8) : cI l g yX11_opensOnce cX11_opensOnce 3 (some .boolean) 5 108 0 0 [.ref h0, .ref sa, .int p1] [(cO11_i1r1i10r1i2r5i2r12i3r4i2 h0 m_thrown a_tape m_taped m_size m_at m_end m_token m_whole m_nameSize m_fault m_place m_trouble a_letters m_failed m_hasHouse a_r a_fresh a_st a_undone a_kept m_undos m_images a_from a_begin a_motor a_change a_startFrame a_changeFrame a_lostAt a_blackAt a_slips a_leftArc a_died a_arcs m_bestSum m_nearest m_nearestTown a_there a_backAt a_sorted a_parts m_seed1 m_darkNow), (cAI g a_tape 900 d_tape), (cAI g a_letters 8 d_letters), (cAI g a_fresh 311 d_fresh)] (fun r w => ∃ (m_at2 : Int32) (m_end2 : Int32) (m_failed2 : Int32) (m_fault2 : Int32) (d_letters2 : Nat → Int32) (m_nameSize2 : Int32) (m_place2 : Int32) (m_token2 : Int32) (m_whole2 : Int32), IV m_end2 0 900 ∧ IV m_failed2 0 1 ∧ IV m_nameSize2 0 900 ∧ IV r 0 1 ∧ (r.toInt = 0 → m_token2.toInt = m_token.toInt) ∧ (m_end.toInt ≤ m_end2.toInt) ∧ (R_m_opensOnceX p1 m_size m_at m_end m_token m_whole m_nameSize m_fault m_place m_failed d_tape d_letters d_fresh tx_sa m_at2 m_end2 m_failed2 m_fault2 d_letters2 m_nameSize2 m_place2 m_token2 m_whole2 r) ∧ (r = 0 ∨ (IV m_token 2 2)) ∧ (m_token2 = 2 → IV m_nameSize2 0 8) ∧ w = [(cO11_i1r1i10r1i2r5i2r12i3r4i2 h0 m_thrown a_tape m_taped m_size m_at2 m_end2 m_token2 m_whole2 m_nameSize2 m_fault2 m_place2 m_trouble a_letters m_failed2 m_hasHouse a_r a_fresh a_st a_undone a_kept m_undos m_images a_from a_begin a_motor a_change a_startFrame a_changeFrame a_lostAt a_blackAt a_slips a_leftArc a_died a_arcs m_bestSum m_nearest m_nearestTown a_there a_backAt a_sorted a_parts m_seed1 m_darkNow), (cAI g a_tape 900 d_tape), (cAI g a_letters 8 d_letters2), (cAI g a_fresh 311 d_fresh)]) := by
  refine cI.of (by decide) (Nat.le_of_ble_eq_true rfl) ?_
  intro p e s m args below meth c A X hr hi
  refine k_lveq [(0, .ref h0), (1, .ref sa), (2, .int p1)] rfl ?_
  refine k_aload_n X dX11_opensOnce_k0.1.1.1.1 0 rfl ?_
  refine k_aload_n X dX11_opensOnce_k0.1.1.1.2 1 rfl ?_
  refine k_callVI (n := 1) (As := [.ref sa]) (st := []) X [(cO11_i1r1i10r1i2r5i2r12i3r4i2 h0 m_thrown a_tape m_taped m_size m_at m_end m_token m_whole m_nameSize m_fault m_place m_trouble a_letters m_failed m_hasHouse a_r a_fresh a_st a_undone a_kept m_undos m_images a_from a_begin a_motor a_change a_startFrame a_changeFrame a_lostAt a_blackAt a_slips a_leftArc a_died a_arcs m_bestSum m_nearest m_nearestTown a_there a_backAt a_sorted a_parts m_seed1 m_darkNow), (cAI g a_letters 8 d_letters)] [(cAI g a_tape 900 d_tape), (cAI g a_fresh 311 d_fresh)] [0, 2] [1, 3] (m_isWordX l g h0 sa m_thrown a_tape m_taped m_size m_at m_end m_token m_whole m_nameSize m_fault m_place m_trouble a_letters m_failed m_hasHouse a_r a_fresh a_st a_undone a_kept m_undos m_images a_from a_begin a_motor a_change a_startFrame a_changeFrame a_lostAt a_blackAt a_slips a_leftArc a_died a_arcs m_bestSum m_nearest m_nearestTown a_there a_backAt a_sorted a_parts m_seed1 m_darkNow d_letters tx_sa (iv_w hv_m_nameSize (zle_e rfl) (zle_e rfl)) (iv_w hv_m_failed (zle_e rfl) (zle_e rfl)) hp_sa hc_0) dX11_opensOnce_k0.1.1.2.1 mw509 mw510 mw511 mw5 mw512 rfl 11 rfl rfl 0 _ rfl yk_yX11_isWord_1 rfl (Nat.le_of_ble_eq_true rfl) (Nat.le_of_ble_eq_true rfl) (Nat.le_of_ble_eq_true rfl) (Nat.le_of_ble_eq_true rfl) (Nat.le_of_ble_eq_true rfl) rfl rfl (vnd_e rfl) rfl (vnd_e rfl) (dsj_e rfl) ?_
  rintro r_1 w ⟨iv_2, hq_3, hk_4, rfl⟩
  refine k_ws [(cAI g a_tape 900 d_tape), (cAI g a_fresh 311 d_fresh), (cO11_i1r1i10r1i2r5i2r12i3r4i2 h0 m_thrown a_tape m_taped m_size m_at m_end m_token m_whole m_nameSize m_fault m_place m_trouble a_letters m_failed m_hasHouse a_r a_fresh a_st a_undone a_kept m_undos m_images a_from a_begin a_motor a_change a_startFrame a_changeFrame a_lostAt a_blackAt a_slips a_leftArc a_died a_arcs m_bestSum m_nearest m_nearestTown a_there a_backAt a_sorted a_parts m_seed1 m_darkNow), (cAI g a_letters 8 d_letters)] rfl ?_
  refine k_if_ne 10 X dX11_opensOnce_k0.1.1.2.2 (jp_e rfl) (fun h_5 => ?_) (fun h_5 => ?_)
  · skip
    have hc_6 := hk_4.resolve_left h_5
    have iv_7 : IV m_token 2 2 := iv_meet (iv_any m_token) hc_6.1 (zle_o rfl) (zle_o rfl)
    have hc_8 := hc_0 (iv_eq iv_7 iq_2_2_2)
    have iv_9 : IV m_nameSize 0 8 := iv_meet hv_m_nameSize hc_8 (zle_o rfl) (zle_o rfl)
    have iv_10 : IV m_failed 0 0 := iv_meet hv_m_failed hc_6.2 (zle_o rfl) (zle_o rfl)
    have iv_11 : IV r_1 1 1 := iv_neL h_5 iv_2 iq_0_0_0 (zle_e rfl)
    refine k_iload_n X dX11_opensOnce_k0.1.2.2.1 2 rfl ?_
    refine k_if_eq 23 X dX11_opensOnce_k0.1.2.2.2 (jp_e rfl) (fun h_12 => ?_) (fun h_12 => ?_)
    · skip
      have iv_13 : IV p1 0 0 := iv_meet hv_p1 (iv_e h_12 iq_0_0_0) (zle_o rfl) (zle_o rfl)
      refine k_aload_n X dX11_opensOnce_k0.2.2.1.2 0 rfl ?_
      refine k_get (ci := 11) X inlX11 rfl 16 (nlt_e rfl) dX11_opensOnce_k0.2.2.2.1 mw171 2 rfl rfl ?_
      refine k_bipush (v := 15) X dX11_opensOnce_k0.2.2.2.2 bi_15 ?_
      refine k_iald X dX11_opensOnce_k1.1.1.1 1 rfl (by unfold vp_in; decide) ?_
      refine k_nm (fun z_14 ez_14 => ?_)
      refine k_if_ne 43 X dX11_opensOnce_k1.1.1.2.1 (jp_e rfl) (fun h_15 => ?_) (fun h_15 => ?_)
      · skip
        refine k_aload_n X dX11_opensOnce_k1.2.1.1 0 rfl ?_
        refine k_get (ci := 11) X inlX11 rfl 13 (nlt_e rfl) dX11_opensOnce_k1.2.1.2.1 mw469 2 rfl rfl ?_
        refine k_if_ne 54 X dX11_opensOnce_k1.2.1.2.2 (jp_e rfl) (fun h_16 => absurd (iv_eq iv_10 iq_0_0_0) h_16) (fun h_16 => ?_)
        refine k_aload_n X dX11_opensOnce_k1.2.2.1.1 0 rfl ?_
        refine k_callVV (n := 0) (As := []) (st := []) X [(cO11_i1r1i10r1i2r5i2r12i3r4i2 h0 m_thrown a_tape m_taped m_size m_at m_end m_token m_whole m_nameSize m_fault m_place m_trouble a_letters m_failed m_hasHouse a_r a_fresh a_st a_undone a_kept m_undos m_images a_from a_begin a_motor a_change a_startFrame a_changeFrame a_lostAt a_blackAt a_slips a_leftArc a_died a_arcs m_bestSum m_nearest m_nearestTown a_there a_backAt a_sorted a_parts m_seed1 m_darkNow), (cAI g a_tape 900 d_tape), (cAI g a_letters 8 d_letters)] [(cAI g a_fresh 311 d_fresh)] [2, 0, 3] [1] (m_nextX l g h0 m_thrown a_tape m_taped m_size m_at m_end m_token m_whole m_nameSize m_fault m_place m_trouble a_letters m_failed m_hasHouse a_r a_fresh a_st a_undone a_kept m_undos m_images a_from a_begin a_motor a_change a_startFrame a_changeFrame a_lostAt a_blackAt a_slips a_leftArc a_died a_arcs m_bestSum m_nearest m_nearestTown a_there a_backAt a_sorted a_parts m_seed1 m_darkNow d_tape d_letters (iv_w hv_m_size (zle_e rfl) (zle_e rfl)) (iv_w hv_m_end (zle_e rfl) (zle_e rfl)) (iv_w iv_9 (zle_e rfl) (zle_e rfl))) dX11_opensOnce_k1.2.2.1.2 mw489 mw490 mw491 mw5 mw492 rfl 11 rfl rfl 0 _ rfl yk_yX11_next_0 rfl (Nat.le_of_ble_eq_true rfl) (Nat.le_of_ble_eq_true rfl) (Nat.le_of_ble_eq_true rfl) (Nat.le_of_ble_eq_true rfl) (Nat.le_of_ble_eq_true rfl) rfl rfl (vnd_e rfl) rfl (vnd_e rfl) (dsj_e rfl) ?_
        intro w zq
        refine exE6 zq ?_
        clear zq
        intro m_at2_17 m_end2_18 d_letters2_19 m_nameSize2_20 m_token2_21 m_whole2_22 iv_24 zq
        refine exA5 zq ?_
        clear zq
        intro iv_25 hq_26 hq_27 hq_28 hk_29 zq
        subst zq
        refine k_ws [(cAI g a_fresh 311 d_fresh), (cO11_i1r1i10r1i2r5i2r12i3r4i2 h0 m_thrown a_tape m_taped m_size m_at2_17 m_end2_18 m_token2_21 m_whole2_22 m_nameSize2_20 m_fault m_place m_trouble a_letters m_failed m_hasHouse a_r a_fresh a_st a_undone a_kept m_undos m_images a_from a_begin a_motor a_change a_startFrame a_changeFrame a_lostAt a_blackAt a_slips a_leftArc a_died a_arcs m_bestSum m_nearest m_nearestTown a_there a_backAt a_sorted a_parts m_seed1 m_darkNow), (cAI g a_tape 900 d_tape), (cAI g a_letters 8 d_letters2_19)] rfl ?_
        refine k_iconst (v := 1) X dX11_opensOnce_k1.2.2.2.1 ic_1 ?_
        exact k_zret X hr (by first | rfl | decide) dX11_opensOnce_k1.2.2.2.2 (Nat.le_of_ble_eq_true rfl) (Nat.le_of_ble_eq_true rfl) [1, 2, 3, 0] (vnd_e rfl) rfl rfl ⟨m_at2_17, m_end2_18, m_failed, m_fault, d_letters2_19, m_nameSize2_20, m_place, m_token2_21, m_whole2_22, (iv_w iv_24 (zle_e rfl) (zle_e rfl)), (iv_w iv_10 (zle_e rfl) (zle_e rfl)), (iv_w iv_25 (zle_e rfl) (zle_e rfl)), (iv_w iq_1_1_1 (zle_e rfl) (zle_e rfl)), (by first | exact fun _ => rfl | exact fun q => absurd q (by decide)), (by omega), ⟨r_1, hq_3, (Or.inl ⟨h_5, (Or.inl ⟨h_12, ⟨z_14, ez_14, (Or.inl ⟨h_15, ⟨m_at2_17, m_end2_18, d_letters2_19, m_nameSize2_20, m_token2_21, m_whole2_22, hq_28, ⟨rfl, rfl, rfl, rfl, rfl, rfl, rfl, rfl, rfl, rfl⟩⟩⟩)⟩⟩)⟩)⟩, (Or.inr (iv_w iv_7 (zle_e rfl) (zle_e rfl))), hk_29, rfl⟩
      · skip
        have iv_30 : IV z_14 0 0 := iv_meet (iv_any z_14) (iv_e h_15 iq_0_0_0) (zle_o rfl) (zle_o rfl)
        refine k_aload_n X dX11_opensOnce_k1.1.1.2.2 0 rfl ?_
        refine k_bipush (v := 6) X dX11_opensOnce_k1.1.2.1.1 bi_6 ?_
        refine k_aload_n X dX11_opensOnce_k1.1.2.1.2 0 rfl ?_
        refine k_get (ci := 11) X inlX11 rfl 4 (nlt_e rfl) dX11_opensOnce_k1.1.2.2.1 mw473 2 rfl rfl ?_
        refine k_callVV (n := 2) (As := [.int 6, .int m_at]) (st := []) X [(cO11_i1r1i10r1i2r5i2r12i3r4i2 h0 m_thrown a_tape m_taped m_size m_at m_end m_token m_whole m_nameSize m_fault m_place m_trouble a_letters m_failed m_hasHouse a_r a_fresh a_st a_undone a_kept m_undos m_images a_from a_begin a_motor a_change a_startFrame a_changeFrame a_lostAt a_blackAt a_slips a_leftArc a_died a_arcs m_bestSum m_nearest m_nearestTown a_there a_backAt a_sorted a_parts m_seed1 m_darkNow)] [(cAI g a_tape 900 d_tape), (cAI g a_fresh 311 d_fresh), (cAI g a_letters 8 d_letters)] [2] [0, 1, 3] (m_badX l g h0 6 m_at m_thrown a_tape m_taped m_size m_at m_end m_token m_whole m_nameSize m_fault m_place m_trouble a_letters m_failed m_hasHouse a_r a_fresh a_st a_undone a_kept m_undos m_images a_from a_begin a_motor a_change a_startFrame a_changeFrame a_lostAt a_blackAt a_slips a_leftArc a_died a_arcs m_bestSum m_nearest m_nearestTown a_there a_backAt a_sorted a_parts m_seed1 m_darkNow (iv_w iv_10 (zle_e rfl) (zle_e rfl))) dX11_opensOnce_k1.1.2.2.2 mw519 mw520 mw521 mw5 mw522 rfl 11 rfl rfl 0 _ rfl yk_yX11_bad_2 rfl (Nat.le_of_ble_eq_true rfl) (Nat.le_of_ble_eq_true rfl) (Nat.le_of_ble_eq_true rfl) (Nat.le_of_ble_eq_true rfl) (Nat.le_of_ble_eq_true rfl) rfl rfl (vnd_e rfl) rfl (vnd_e rfl) (dsj_e rfl) ?_
        rintro w ⟨m_failed2_31, m_fault2_32, m_place2_33, iv_35, hq_36, rfl⟩
        refine k_ws [(cAI g a_tape 900 d_tape), (cAI g a_fresh 311 d_fresh), (cAI g a_letters 8 d_letters), (cO11_i1r1i10r1i2r5i2r12i3r4i2 h0 m_thrown a_tape m_taped m_size m_at m_end m_token m_whole m_nameSize m_fault2_32 m_place2_33 m_trouble a_letters m_failed2_31 m_hasHouse a_r a_fresh a_st a_undone a_kept m_undos m_images a_from a_begin a_motor a_change a_startFrame a_changeFrame a_lostAt a_blackAt a_slips a_leftArc a_died a_arcs m_bestSum m_nearest m_nearestTown a_there a_backAt a_sorted a_parts m_seed1 m_darkNow)] rfl ?_
        refine k_aload_n X dX11_opensOnce_k1.2.1.1 0 rfl ?_
        refine k_get (ci := 11) X inlX11 rfl 13 (nlt_e rfl) dX11_opensOnce_k1.2.1.2.1 mw469 3 rfl rfl ?_
        refine k_if_ne 54 X dX11_opensOnce_k1.2.1.2.2 (jp_e rfl) (fun h_37 => ?_) (fun h_37 => (iv_eqN h_37 iv_35 iq_0_0_0 (by decide)).elim)
        refine k_iconst (v := 1) X dX11_opensOnce_k1.2.2.2.1 ic_1 ?_
        exact k_zret X hr (by first | rfl | decide) dX11_opensOnce_k1.2.2.2.2 (Nat.le_of_ble_eq_true rfl) (Nat.le_of_ble_eq_true rfl) [3, 0, 2, 1] (vnd_e rfl) rfl rfl ⟨m_at, m_end, m_failed2_31, m_fault2_32, d_letters, m_nameSize, m_place2_33, m_token, m_whole, (iv_w hv_m_end (zle_e rfl) (zle_e rfl)), (iv_w iv_35 (zle_e rfl) (zle_e rfl)), (iv_w iv_9 (zle_e rfl) (zle_e rfl)), (iv_w iq_1_1_1 (zle_e rfl) (zle_e rfl)), (by first | exact fun _ => rfl | exact fun q => absurd q (by decide)), (by omega), ⟨r_1, hq_3, (Or.inl ⟨h_5, (Or.inl ⟨h_12, ⟨z_14, ez_14, (Or.inr ⟨h_15, ⟨m_failed2_31, m_fault2_32, m_place2_33, hq_36, ⟨rfl, rfl, rfl, rfl, rfl, rfl, rfl, rfl, rfl, rfl⟩⟩⟩)⟩⟩)⟩)⟩, (Or.inr (iv_w iv_7 (zle_e rfl) (zle_e rfl))), (fun _ => (iv_w iv_9 (zle_e rfl) (zle_e rfl))), rfl⟩
    · skip
      have iv_38 : IV p1 1 1 := iv_neL h_12 hv_p1 iq_0_0_0 (zle_e rfl)
      refine k_aload_n X dX11_opensOnce_k0.2.1.1.1 0 rfl ?_
      refine k_iconst (v := 3) X dX11_opensOnce_k0.2.1.1.2 ic_3 ?_
      refine k_aload_n X dX11_opensOnce_k0.2.1.2.1 0 rfl ?_
      refine k_get (ci := 11) X inlX11 rfl 4 (nlt_e rfl) dX11_opensOnce_k0.2.1.2.2 mw473 2 rfl rfl ?_
      refine k_callVV (n := 2) (As := [.int 3, .int m_at]) (st := []) X [(cO11_i1r1i10r1i2r5i2r12i3r4i2 h0 m_thrown a_tape m_taped m_size m_at m_end m_token m_whole m_nameSize m_fault m_place m_trouble a_letters m_failed m_hasHouse a_r a_fresh a_st a_undone a_kept m_undos m_images a_from a_begin a_motor a_change a_startFrame a_changeFrame a_lostAt a_blackAt a_slips a_leftArc a_died a_arcs m_bestSum m_nearest m_nearestTown a_there a_backAt a_sorted a_parts m_seed1 m_darkNow)] [(cAI g a_tape 900 d_tape), (cAI g a_fresh 311 d_fresh), (cAI g a_letters 8 d_letters)] [2] [0, 1, 3] (m_badX l g h0 3 m_at m_thrown a_tape m_taped m_size m_at m_end m_token m_whole m_nameSize m_fault m_place m_trouble a_letters m_failed m_hasHouse a_r a_fresh a_st a_undone a_kept m_undos m_images a_from a_begin a_motor a_change a_startFrame a_changeFrame a_lostAt a_blackAt a_slips a_leftArc a_died a_arcs m_bestSum m_nearest m_nearestTown a_there a_backAt a_sorted a_parts m_seed1 m_darkNow (iv_w iv_10 (zle_e rfl) (zle_e rfl))) dX11_opensOnce_k0.2.2.1.1 mw519 mw520 mw521 mw5 mw522 rfl 11 rfl rfl 0 _ rfl yk_yX11_bad_2 rfl (Nat.le_of_ble_eq_true rfl) (Nat.le_of_ble_eq_true rfl) (Nat.le_of_ble_eq_true rfl) (Nat.le_of_ble_eq_true rfl) (Nat.le_of_ble_eq_true rfl) rfl rfl (vnd_e rfl) rfl (vnd_e rfl) (dsj_e rfl) ?_
      rintro w ⟨m_failed2_39, m_fault2_40, m_place2_41, iv_43, hq_44, rfl⟩
      refine k_ws [(cAI g a_tape 900 d_tape), (cAI g a_fresh 311 d_fresh), (cAI g a_letters 8 d_letters), (cO11_i1r1i10r1i2r5i2r12i3r4i2 h0 m_thrown a_tape m_taped m_size m_at m_end m_token m_whole m_nameSize m_fault2_40 m_place2_41 m_trouble a_letters m_failed2_39 m_hasHouse a_r a_fresh a_st a_undone a_kept m_undos m_images a_from a_begin a_motor a_change a_startFrame a_changeFrame a_lostAt a_blackAt a_slips a_leftArc a_died a_arcs m_bestSum m_nearest m_nearestTown a_there a_backAt a_sorted a_parts m_seed1 m_darkNow)] rfl ?_
      refine k_aload_n X dX11_opensOnce_k0.2.2.1.2 0 rfl ?_
      refine k_get (ci := 11) X inlX11 rfl 16 (nlt_e rfl) dX11_opensOnce_k0.2.2.2.1 mw171 3 rfl rfl ?_
      refine k_bipush (v := 15) X dX11_opensOnce_k0.2.2.2.2 bi_15 ?_
      refine k_iald X dX11_opensOnce_k1.1.1.1 1 rfl (by unfold vp_in; decide) ?_
      refine k_nm (fun z_45 ez_45 => ?_)
      refine k_if_ne 43 X dX11_opensOnce_k1.1.1.2.1 (jp_e rfl) (fun h_46 => ?_) (fun h_46 => ?_)
      · skip
        refine k_aload_n X dX11_opensOnce_k1.2.1.1 0 rfl ?_
        refine k_get (ci := 11) X inlX11 rfl 13 (nlt_e rfl) dX11_opensOnce_k1.2.1.2.1 mw469 3 rfl rfl ?_
        refine k_if_ne 54 X dX11_opensOnce_k1.2.1.2.2 (jp_e rfl) (fun h_47 => ?_) (fun h_47 => (iv_eqN h_47 iv_43 iq_0_0_0 (by decide)).elim)
        refine k_iconst (v := 1) X dX11_opensOnce_k1.2.2.2.1 ic_1 ?_
        exact k_zret X hr (by first | rfl | decide) dX11_opensOnce_k1.2.2.2.2 (Nat.le_of_ble_eq_true rfl) (Nat.le_of_ble_eq_true rfl) [3, 0, 2, 1] (vnd_e rfl) rfl rfl ⟨m_at, m_end, m_failed2_39, m_fault2_40, d_letters, m_nameSize, m_place2_41, m_token, m_whole, (iv_w hv_m_end (zle_e rfl) (zle_e rfl)), (iv_w iv_43 (zle_e rfl) (zle_e rfl)), (iv_w iv_9 (zle_e rfl) (zle_e rfl)), (iv_w iq_1_1_1 (zle_e rfl) (zle_e rfl)), (by first | exact fun _ => rfl | exact fun q => absurd q (by decide)), (by omega), ⟨r_1, hq_3, (Or.inl ⟨h_5, (Or.inr ⟨h_12, ⟨m_failed2_39, m_fault2_40, m_place2_41, hq_44, ⟨z_45, ez_45, (Or.inl ⟨h_46, ⟨rfl, rfl, rfl, rfl, rfl, rfl, rfl, rfl, rfl, rfl⟩⟩)⟩⟩⟩)⟩)⟩, (Or.inr (iv_w iv_7 (zle_e rfl) (zle_e rfl))), (fun _ => (iv_w iv_9 (zle_e rfl) (zle_e rfl))), rfl⟩
      · skip
        have iv_48 : IV z_45 0 0 := iv_meet (iv_any z_45) (iv_e h_46 iq_0_0_0) (zle_o rfl) (zle_o rfl)
        refine k_aload_n X dX11_opensOnce_k1.1.1.2.2 0 rfl ?_
        refine k_bipush (v := 6) X dX11_opensOnce_k1.1.2.1.1 bi_6 ?_
        refine k_aload_n X dX11_opensOnce_k1.1.2.1.2 0 rfl ?_
        refine k_get (ci := 11) X inlX11 rfl 4 (nlt_e rfl) dX11_opensOnce_k1.1.2.2.1 mw473 3 rfl rfl ?_
        refine k_callVV (n := 2) (As := [.int 6, .int m_at]) (st := []) X [(cO11_i1r1i10r1i2r5i2r12i3r4i2 h0 m_thrown a_tape m_taped m_size m_at m_end m_token m_whole m_nameSize m_fault2_40 m_place2_41 m_trouble a_letters m_failed2_39 m_hasHouse a_r a_fresh a_st a_undone a_kept m_undos m_images a_from a_begin a_motor a_change a_startFrame a_changeFrame a_lostAt a_blackAt a_slips a_leftArc a_died a_arcs m_bestSum m_nearest m_nearestTown a_there a_backAt a_sorted a_parts m_seed1 m_darkNow)] [(cAI g a_tape 900 d_tape), (cAI g a_fresh 311 d_fresh), (cAI g a_letters 8 d_letters)] [3] [0, 1, 2] (m_badX l g h0 6 m_at m_thrown a_tape m_taped m_size m_at m_end m_token m_whole m_nameSize m_fault2_40 m_place2_41 m_trouble a_letters m_failed2_39 m_hasHouse a_r a_fresh a_st a_undone a_kept m_undos m_images a_from a_begin a_motor a_change a_startFrame a_changeFrame a_lostAt a_blackAt a_slips a_leftArc a_died a_arcs m_bestSum m_nearest m_nearestTown a_there a_backAt a_sorted a_parts m_seed1 m_darkNow (iv_w iv_43 (zle_e rfl) (zle_e rfl))) dX11_opensOnce_k1.1.2.2.2 mw519 mw520 mw521 mw5 mw522 rfl 11 rfl rfl 0 _ rfl yk_yX11_bad_2 rfl (Nat.le_of_ble_eq_true rfl) (Nat.le_of_ble_eq_true rfl) (Nat.le_of_ble_eq_true rfl) (Nat.le_of_ble_eq_true rfl) (Nat.le_of_ble_eq_true rfl) rfl rfl (vnd_e rfl) rfl (vnd_e rfl) (dsj_e rfl) ?_
        rintro w ⟨m_failed2_49, m_fault2_50, m_place2_51, iv_53, hq_54, rfl⟩
        refine k_ws [(cAI g a_tape 900 d_tape), (cAI g a_fresh 311 d_fresh), (cAI g a_letters 8 d_letters), (cO11_i1r1i10r1i2r5i2r12i3r4i2 h0 m_thrown a_tape m_taped m_size m_at m_end m_token m_whole m_nameSize m_fault2_50 m_place2_51 m_trouble a_letters m_failed2_49 m_hasHouse a_r a_fresh a_st a_undone a_kept m_undos m_images a_from a_begin a_motor a_change a_startFrame a_changeFrame a_lostAt a_blackAt a_slips a_leftArc a_died a_arcs m_bestSum m_nearest m_nearestTown a_there a_backAt a_sorted a_parts m_seed1 m_darkNow)] rfl ?_
        refine k_aload_n X dX11_opensOnce_k1.2.1.1 0 rfl ?_
        refine k_get (ci := 11) X inlX11 rfl 13 (nlt_e rfl) dX11_opensOnce_k1.2.1.2.1 mw469 3 rfl rfl ?_
        refine k_if_ne 54 X dX11_opensOnce_k1.2.1.2.2 (jp_e rfl) (fun h_55 => ?_) (fun h_55 => (iv_eqN h_55 iv_53 iq_0_0_0 (by decide)).elim)
        refine k_iconst (v := 1) X dX11_opensOnce_k1.2.2.2.1 ic_1 ?_
        exact k_zret X hr (by first | rfl | decide) dX11_opensOnce_k1.2.2.2.2 (Nat.le_of_ble_eq_true rfl) (Nat.le_of_ble_eq_true rfl) [3, 0, 2, 1] (vnd_e rfl) rfl rfl ⟨m_at, m_end, m_failed2_49, m_fault2_50, d_letters, m_nameSize, m_place2_51, m_token, m_whole, (iv_w hv_m_end (zle_e rfl) (zle_e rfl)), (iv_w iv_53 (zle_e rfl) (zle_e rfl)), (iv_w iv_9 (zle_e rfl) (zle_e rfl)), (iv_w iq_1_1_1 (zle_e rfl) (zle_e rfl)), (by first | exact fun _ => rfl | exact fun q => absurd q (by decide)), (by omega), ⟨r_1, hq_3, (Or.inl ⟨h_5, (Or.inr ⟨h_12, ⟨m_failed2_39, m_fault2_40, m_place2_41, hq_44, ⟨z_45, ez_45, (Or.inr ⟨h_46, ⟨m_failed2_49, m_fault2_50, m_place2_51, hq_54, ⟨rfl, rfl, rfl, rfl, rfl, rfl, rfl, rfl, rfl, rfl⟩⟩⟩)⟩⟩⟩)⟩)⟩, (Or.inr (iv_w iv_7 (zle_e rfl) (zle_e rfl))), (fun _ => (iv_w iv_9 (zle_e rfl) (zle_e rfl))), rfl⟩
  · skip
    have iv_56 : IV r_1 0 0 := iv_meet iv_2 (iv_e h_5 iq_0_0_0) (zle_o rfl) (zle_o rfl)
    refine k_iconst (v := 0) X dX11_opensOnce_k0.1.2.1.1 ic_0 ?_
    exact k_zret X hr (by first | rfl | decide) dX11_opensOnce_k0.1.2.1.2 (Nat.le_of_ble_eq_true rfl) (Nat.le_of_ble_eq_true rfl) [2, 0, 3, 1] (vnd_e rfl) rfl rfl ⟨m_at, m_end, m_failed, m_fault, d_letters, m_nameSize, m_place, m_token, m_whole, (iv_w hv_m_end (zle_e rfl) (zle_e rfl)), (iv_w hv_m_failed (zle_e rfl) (zle_e rfl)), (iv_w hv_m_nameSize (zle_e rfl) (zle_e rfl)), (iv_w iq_0_0_0 (zle_e rfl) (zle_e rfl)), (by first | exact fun _ => rfl | exact fun q => absurd q (by decide)), (by omega), ⟨r_1, hq_3, (Or.inr ⟨h_5, ⟨rfl, rfl, rfl, rfl, rfl, rfl, rfl, rfl, rfl, rfl⟩⟩)⟩, (Or.inl (iv_eq iq_0_0_0 iq_0_0_0)), hc_0, rfl⟩


set_option maxHeartbeats 4000000 in
set_option maxRecDepth 100000 in
theorem m_frameOfX (l : Launch) (g : Gx) (h0 : Nat) (p0 : Int32) (m_thrown : Int32) (a_tape : Nat) (m_taped : Int32) (m_size : Int32) (m_at : Int32) (m_end : Int32) (m_token : Int32) (m_whole : Int32) (m_nameSize : Int32) (m_fault : Int32) (m_place : Int32) (m_trouble : Int32) (a_letters : Nat) (m_failed : Int32) (m_hasHouse : Int32) (a_r : Nat) (a_fresh : Nat) (a_st : Nat) (a_undone : Nat) (a_kept : Nat) (m_undos : Int32) (m_images : Int32) (a_from : Nat) (a_begin : Nat) (a_motor : Nat) (a_change : Nat) (a_startFrame : Nat) (a_changeFrame : Nat) (a_lostAt : Nat) (a_blackAt : Nat) (a_slips : Nat) (a_leftArc : Nat) (a_died : Nat) (a_arcs : Nat) (m_bestSum : Int32) (m_nearest : Int32) (m_nearestTown : Int32) (a_there : Nat) (a_backAt : Nat) (a_sorted : Nat) (a_parts : Nat) (m_seed1 : Int32) (m_darkNow : Int32) (d_tape : Nat → Int32) (d_letters : Nat → Int32) (d_fresh : Nat → Int32) (hv_p0 : IV p0 0 7) (hv_m_size : IV m_size 0 900) (hv_m_end : IV m_end 0 900) (hv_m_nameSize : IV m_nameSize 0 900) (hv_m_failed : IV m_failed 0 1) (hp_d_fresh : RInv d_fresh) (hc_0 : m_token = 2 → IV m_nameSize 0 8) : cI l g yX11_frameOf cX11_frameOf 2 (some .int) 3 67 0 0 [.ref h0, .int p0] [(cO11_i1r1i10r1i2r5i2r12i3r4i2 h0 m_thrown a_tape m_taped m_size m_at m_end m_token m_whole m_nameSize m_fault m_place m_trouble a_letters m_failed m_hasHouse a_r a_fresh a_st a_undone a_kept m_undos m_images a_from a_begin a_motor a_change a_startFrame a_changeFrame a_lostAt a_blackAt a_slips a_leftArc a_died a_arcs m_bestSum m_nearest m_nearestTown a_there a_backAt a_sorted a_parts m_seed1 m_darkNow), (cAI g a_tape 900 d_tape), (cAI g a_letters 8 d_letters), (cAI g a_fresh 311 d_fresh)] (fun r w => ∃ (m_at2 : Int32) (m_end2 : Int32) (m_failed2 : Int32) (m_fault2 : Int32) (d_letters2 : Nat → Int32) (m_nameSize2 : Int32) (m_place2 : Int32) (m_token2 : Int32) (m_whole2 : Int32), IV m_end2 0 900 ∧ IV m_failed2 0 1 ∧ IV m_nameSize2 0 900 ∧ (m_end.toInt ≤ m_end2.toInt) ∧ (R_m_frameOfX p0 m_size m_at m_end m_token m_whole m_nameSize m_fault m_place m_failed d_tape d_letters d_fresh m_at2 m_end2 m_failed2 m_fault2 d_letters2 m_nameSize2 m_place2 m_token2 m_whole2 r) ∧ (m_token2 = 2 → IV m_nameSize2 0 8) ∧ w = [(cO11_i1r1i10r1i2r5i2r12i3r4i2 h0 m_thrown a_tape m_taped m_size m_at2 m_end2 m_token2 m_whole2 m_nameSize2 m_fault2 m_place2 m_trouble a_letters m_failed2 m_hasHouse a_r a_fresh a_st a_undone a_kept m_undos m_images a_from a_begin a_motor a_change a_startFrame a_changeFrame a_lostAt a_blackAt a_slips a_leftArc a_died a_arcs m_bestSum m_nearest m_nearestTown a_there a_backAt a_sorted a_parts m_seed1 m_darkNow), (cAI g a_tape 900 d_tape), (cAI g a_letters 8 d_letters2), (cAI g a_fresh 311 d_fresh)]) := by
  refine cI.of (by decide) (Nat.le_of_ble_eq_true rfl) ?_
  intro p e s m args below meth c A X hr hi
  refine k_lveq [(0, .ref h0), (1, .int p0)] rfl ?_
  refine k_aload_n X dX11_frameOf_k0.1.1.1 0 rfl ?_
  refine k_iconst (v := 0) X dX11_frameOf_k0.1.1.2.1 ic_0 ?_
  refine k_aload_n X dX11_frameOf_k0.1.1.2.2 0 rfl ?_
  refine k_get (ci := 11) X inlX11 rfl 16 (nlt_e rfl) dX11_frameOf_k0.1.2.1.1 mw171 0 rfl rfl ?_
  refine k_bipush (v := 16) X dX11_frameOf_k0.1.2.1.2 bi_16 ?_
  refine k_iconst (v := 3) X dX11_frameOf_k0.1.2.2.1 ic_3 ?_
  refine k_iload_n X dX11_frameOf_k0.1.2.2.2 1 rfl ?_
  refine k_imul X dX11_frameOf_k0.2.1.1 ?_
  refine k_nm (fun z_1 ez_1 => ?_)
  have i_2 : z_1.toInt = 3 * p0.toInt := in_mul ez_1 (by decide) (zle_e rfl) hv_p0 (zle_e rfl) (zle_e rfl)
  have iv_3 : IV z_1 0 21 := iz4 i_2 hv_p0 (zle_e rfl) (zle_e rfl) (zle_e rfl)
  refine k_iadd X dX11_frameOf_k0.2.1.2.1 ?_
  refine k_nm (fun z_4 ez_4 => ?_)
  have i_5 : z_4.toInt = 16 + z_1.toInt := in_add ez_4 iq_16_16_16 iv_3 (zle_e rfl) (zle_e rfl)
  have iv_6 : IV z_4 16 37 := iz2 i_5 iv_3 (zle_e rfl) (zle_e rfl)
  refine k_iald X dX11_frameOf_k0.2.1.2.2 3 rfl (iv_in iv_6 (zle_e rfl) (zle_l rfl)) ?_
  refine k_nm (fun z_7 ez_7 => ?_)
  refine k_iconst (v := 1) X dX11_frameOf_k0.2.2.1.1 ic_1 ?_
  refine k_isub X dX11_frameOf_k0.2.2.1.2 ?_
  refine k_nm (fun z_8 ez_8 => ?_)
  refine k_callVI (n := 2) (As := [.int 0, .int z_8]) (st := []) X [(cO11_i1r1i10r1i2r5i2r12i3r4i2 h0 m_thrown a_tape m_taped m_size m_at m_end m_token m_whole m_nameSize m_fault m_place m_trouble a_letters m_failed m_hasHouse a_r a_fresh a_st a_undone a_kept m_undos m_images a_from a_begin a_motor a_change a_startFrame a_changeFrame a_lostAt a_blackAt a_slips a_leftArc a_died a_arcs m_bestSum m_nearest m_nearestTown a_there a_backAt a_sorted a_parts m_seed1 m_darkNow), (cAI g a_tape 900 d_tape), (cAI g a_letters 8 d_letters)] [(cAI g a_fresh 311 d_fresh)] [0, 1, 2] [3] (m_numberX l g h0 0 z_8 m_thrown a_tape m_taped m_size m_at m_end m_token m_whole m_nameSize m_fault m_place m_trouble a_letters m_failed m_hasHouse a_r a_fresh a_st a_undone a_kept m_undos m_images a_from a_begin a_motor a_change a_startFrame a_changeFrame a_lostAt a_blackAt a_slips a_leftArc a_died a_arcs m_bestSum m_nearest m_nearestTown a_there a_backAt a_sorted a_parts m_seed1 m_darkNow d_tape d_letters (iv_w hv_m_size (zle_e rfl) (zle_e rfl)) (iv_w hv_m_end (zle_e rfl) (zle_e rfl)) (iv_w hv_m_nameSize (zle_e rfl) (zle_e rfl)) (iv_w hv_m_failed (zle_e rfl) (zle_e rfl)) hc_0) dX11_frameOf_k0.2.2.2.1 mw535 mw536 mw537 mw5 mw538 rfl 11 rfl rfl 0 _ rfl yk_yX11_number_2 rfl (Nat.le_of_ble_eq_true rfl) (Nat.le_of_ble_eq_true rfl) (Nat.le_of_ble_eq_true rfl) (Nat.le_of_ble_eq_true rfl) (Nat.le_of_ble_eq_true rfl) rfl rfl (vnd_e rfl) rfl (vnd_e rfl) (dsj_e rfl) ?_
  intro r_19 w zq
  refine exE9 zq ?_
  clear zq
  intro m_at2_10 m_end2_11 m_failed2_12 m_fault2_13 d_letters2_14 m_nameSize2_15 m_place2_16 m_token2_17 m_whole2_18 iv_20 zq
  refine exA6 zq ?_
  clear zq
  intro iv_21 iv_22 hq_23 hq_24 hq_25 hk_26 zq
  subst zq
  refine k_ws [(cAI g a_fresh 311 d_fresh), (cO11_i1r1i10r1i2r5i2r12i3r4i2 h0 m_thrown a_tape m_taped m_size m_at2_10 m_end2_11 m_token2_17 m_whole2_18 m_nameSize2_15 m_fault2_13 m_place2_16 m_trouble a_letters m_failed2_12 m_hasHouse a_r a_fresh a_st a_undone a_kept m_undos m_images a_from a_begin a_motor a_change a_startFrame a_changeFrame a_lostAt a_blackAt a_slips a_leftArc a_died a_arcs m_bestSum m_nearest m_nearestTown a_there a_backAt a_sorted a_parts m_seed1 m_darkNow), (cAI g a_tape 900 d_tape), (cAI g a_letters 8 d_letters2_14)] rfl ?_
  have e_27 : (0 : Int32).toInt = 0 := by decide
  have iv_28 : IV r_19 0 2147483647 := by have := iq_0_0_0; have := (iv_any z_8); rw [IV]; omega
  exact k_iret X hr dX11_frameOf_k0.2.2.2.2 (Nat.le_of_ble_eq_true rfl) (Nat.le_of_ble_eq_true rfl) [1, 2, 3, 0] (vnd_e rfl) rfl rfl ⟨m_at2_10, m_end2_11, m_failed2_12, m_fault2_13, d_letters2_14, m_nameSize2_15, m_place2_16, m_token2_17, m_whole2_18, (iv_w iv_20 (zle_e rfl) (zle_e rfl)), (iv_w iv_21 (zle_e rfl) (zle_e rfl)), (iv_w iv_22 (zle_e rfl) (zle_e rfl)), (by omega), ⟨z_1, ez_1, ⟨z_4, ez_4, ⟨z_7, ez_7, ⟨z_8, ez_8, ⟨m_at2_10, m_end2_11, m_failed2_12, m_fault2_13, d_letters2_14, m_nameSize2_15, m_place2_16, m_token2_17, m_whole2_18, r_19, hq_25, ⟨rfl, rfl, rfl, rfl, rfl, rfl, rfl, rfl, rfl, rfl⟩⟩⟩⟩⟩⟩, hk_26, rfl⟩


set_option maxHeartbeats 4000000 in
set_option maxRecDepth 100000 in
theorem m_houseLineX (l : Launch) (g : Gx) (h0 : Nat) (m_thrown : Int32) (a_tape : Nat) (m_taped : Int32) (m_size : Int32) (m_at : Int32) (m_end : Int32) (m_token : Int32) (m_whole : Int32) (m_nameSize : Int32) (m_fault : Int32) (m_place : Int32) (m_trouble : Int32) (a_letters : Nat) (m_failed : Int32) (m_hasHouse : Int32) (a_r : Nat) (a_fresh : Nat) (a_st : Nat) (a_undone : Nat) (a_kept : Nat) (m_undos : Int32) (m_images : Int32) (a_from : Nat) (a_begin : Nat) (a_motor : Nat) (a_change : Nat) (a_startFrame : Nat) (a_changeFrame : Nat) (a_lostAt : Nat) (a_blackAt : Nat) (a_slips : Nat) (a_leftArc : Nat) (a_died : Nat) (a_arcs : Nat) (m_bestSum : Int32) (m_nearest : Int32) (m_nearestTown : Int32) (a_there : Nat) (a_backAt : Nat) (a_sorted : Nat) (a_parts : Nat) (m_seed1 : Int32) (m_darkNow : Int32) (d_tape : Nat → Int32) (d_letters : Nat → Int32) (d_fresh : Nat → Int32) (hv_m_size : IV m_size 0 900) (hv_m_end : IV m_end 0 900) (hv_m_nameSize : IV m_nameSize 0 900) (hv_m_failed : IV m_failed 0 1) (hp_d_fresh : RInv d_fresh) (hr_0 : TRI d_fresh) (hc_0 : m_token = 2 → IV m_nameSize 0 8) : cV l g yX11_houseLine cX11_houseLine 1 8 173 0 0 [.ref h0] [(cO11_i1r1i10r1i2r5i2r12i3r4i2 h0 m_thrown a_tape m_taped m_size m_at m_end m_token m_whole m_nameSize m_fault m_place m_trouble a_letters m_failed m_hasHouse a_r a_fresh a_st a_undone a_kept m_undos m_images a_from a_begin a_motor a_change a_startFrame a_changeFrame a_lostAt a_blackAt a_slips a_leftArc a_died a_arcs m_bestSum m_nearest m_nearestTown a_there a_backAt a_sorted a_parts m_seed1 m_darkNow), (cAI g a_tape 900 d_tape), (cAI g a_letters 8 d_letters), (cAI g a_fresh 311 d_fresh)] (fun w => ∃ (m_at2 : Int32) (m_end2 : Int32) (m_failed2 : Int32) (m_fault2 : Int32) (d_fresh2 : Nat → Int32) (d_letters2 : Nat → Int32) (m_nameSize2 : Int32) (m_place2 : Int32) (m_token2 : Int32) (m_whole2 : Int32), IV m_end2 0 900 ∧ IV m_failed2 0 1 ∧ IV m_nameSize2 0 900 ∧ RInv d_fresh2 ∧ (m_end.toInt ≤ m_end2.toInt) ∧ (TRI d_fresh2) ∧ (R_m_houseLineX m_size m_at m_end m_token m_whole m_nameSize m_fault m_place m_failed d_tape d_letters d_fresh m_at2 m_end2 m_failed2 m_fault2 d_fresh2 d_letters2 m_nameSize2 m_place2 m_token2 m_whole2) ∧ (m_token2 = 2 → IV m_nameSize2 0 8) ∧ w = [(cO11_i1r1i10r1i2r5i2r12i3r4i2 h0 m_thrown a_tape m_taped m_size m_at2 m_end2 m_token2 m_whole2 m_nameSize2 m_fault2 m_place2 m_trouble a_letters m_failed2 m_hasHouse a_r a_fresh a_st a_undone a_kept m_undos m_images a_from a_begin a_motor a_change a_startFrame a_changeFrame a_lostAt a_blackAt a_slips a_leftArc a_died a_arcs m_bestSum m_nearest m_nearestTown a_there a_backAt a_sorted a_parts m_seed1 m_darkNow), (cAI g a_tape 900 d_tape), (cAI g a_letters 8 d_letters2), (cAI g a_fresh 311 d_fresh2)]) := by
  refine cV.of (by decide) (Nat.le_of_ble_eq_true rfl) ?_
  intro p e s m args below meth c A X hr hi
  refine k_lveq [(0, .ref h0)] rfl ?_
  refine k_aload_n X dX11_houseLine_k0.1.1.1.1 0 rfl ?_
  refine k_get (ci := 11) X inlX11 rfl 16 (nlt_e rfl) dX11_houseLine_k0.1.1.1.2 mw171 0 rfl rfl ?_
  refine k_bipush (v := 15) X dX11_houseLine_k0.1.1.2.1 bi_15 ?_
  refine k_iald X dX11_houseLine_k0.1.1.2.2 3 rfl (by unfold vp_in; decide) ?_
  refine k_nm (fun z_1 ez_1 => ?_)
  refine k_iconst (v := 1) X dX11_houseLine_k0.1.2.1.1 ic_1 ?_
  refine k_ic_ne 20 X dX11_houseLine_k0.1.2.1.2 (jp_e rfl) (fun h_2 => ?_) (fun h_2 => ?_)
  · skip
    refine k_aload_n X dX11_houseLine_k0.2.1.2.2 0 rfl ?_
    refine k_get (ci := 11) X inlX11 rfl 13 (nlt_e rfl) dX11_houseLine_k0.2.2.1.1 mw469 0 rfl rfl ?_
    refine k_if_eq 28 X dX11_houseLine_k0.2.2.1.2 (jp_e rfl) (fun h_3 => ?_) (fun h_3 => ?_)
    · skip
      have iv_4 : IV m_failed 0 0 := iv_meet hv_m_failed (iv_e h_3 iq_0_0_0) (zle_o rfl) (zle_o rfl)
      refine k_aload_n X dX11_houseLine_k0.2.2.2.2 0 rfl ?_
      refine k_callVV (n := 0) (As := []) (st := []) X [(cO11_i1r1i10r1i2r5i2r12i3r4i2 h0 m_thrown a_tape m_taped m_size m_at m_end m_token m_whole m_nameSize m_fault m_place m_trouble a_letters m_failed m_hasHouse a_r a_fresh a_st a_undone a_kept m_undos m_images a_from a_begin a_motor a_change a_startFrame a_changeFrame a_lostAt a_blackAt a_slips a_leftArc a_died a_arcs m_bestSum m_nearest m_nearestTown a_there a_backAt a_sorted a_parts m_seed1 m_darkNow), (cAI g a_tape 900 d_tape), (cAI g a_letters 8 d_letters)] [(cAI g a_fresh 311 d_fresh)] [0, 1, 2] [3] (m_nextX l g h0 m_thrown a_tape m_taped m_size m_at m_end m_token m_whole m_nameSize m_fault m_place m_trouble a_letters m_failed m_hasHouse a_r a_fresh a_st a_undone a_kept m_undos m_images a_from a_begin a_motor a_change a_startFrame a_changeFrame a_lostAt a_blackAt a_slips a_leftArc a_died a_arcs m_bestSum m_nearest m_nearestTown a_there a_backAt a_sorted a_parts m_seed1 m_darkNow d_tape d_letters (iv_w hv_m_size (zle_e rfl) (zle_e rfl)) (iv_w hv_m_end (zle_e rfl) (zle_e rfl)) (iv_w hv_m_nameSize (zle_e rfl) (zle_e rfl))) dX11_houseLine_k1.1.1.1.1 mw489 mw490 mw491 mw5 mw492 rfl 11 rfl rfl 0 _ rfl yk_yX11_next_0 rfl (Nat.le_of_ble_eq_true rfl) (Nat.le_of_ble_eq_true rfl) (Nat.le_of_ble_eq_true rfl) (Nat.le_of_ble_eq_true rfl) (Nat.le_of_ble_eq_true rfl) rfl rfl (vnd_e rfl) rfl (vnd_e rfl) (dsj_e rfl) ?_
      intro w zq
      refine exE6 zq ?_
      clear zq
      intro m_at2_5 m_end2_6 d_letters2_7 m_nameSize2_8 m_token2_9 m_whole2_10 iv_12 zq
      refine exA5 zq ?_
      clear zq
      intro iv_13 hq_14 hq_15 hq_16 hk_17 zq
      subst zq
      refine k_ws [(cAI g a_fresh 311 d_fresh), (cO11_i1r1i10r1i2r5i2r12i3r4i2 h0 m_thrown a_tape m_taped m_size m_at2_5 m_end2_6 m_token2_9 m_whole2_10 m_nameSize2_8 m_fault m_place m_trouble a_letters m_failed m_hasHouse a_r a_fresh a_st a_undone a_kept m_undos m_images a_from a_begin a_motor a_change a_startFrame a_changeFrame a_lostAt a_blackAt a_slips a_leftArc a_died a_arcs m_bestSum m_nearest m_nearestTown a_there a_backAt a_sorted a_parts m_seed1 m_darkNow), (cAI g a_tape 900 d_tape), (cAI g a_letters 8 d_letters2_7)] rfl ?_
      refine k_aload_n X dX11_houseLine_k1.1.1.1.2 0 rfl ?_
      refine k_get (ci := 11) X inlX11 rfl 16 (nlt_e rfl) dX11_houseLine_k1.1.1.2.1 mw171 1 rfl rfl ?_
      refine k_iconst (v := 0) X dX11_houseLine_k1.1.1.2.2 ic_0 ?_
      refine k_aload_n X dX11_houseLine_k1.1.2.1.1 0 rfl ?_
      refine k_ldcwS (tx := "apart") X dX11_houseLine_k1.1.2.1.2 (by decide +kernel) (fun sr_18 hsr_18 => ?_)
      refine k_iconst (v := 1) X dX11_houseLine_k1.1.2.2.1 ic_1 ?_
      refine k_bipush (v := 50) X dX11_houseLine_k1.1.2.2.2 bi_50 ?_
      refine k_callVI (n := 3) (As := [.ref sr_18, .int 1, .int 50]) (st := [.int 0, .ref a_fresh]) X [(cO11_i1r1i10r1i2r5i2r12i3r4i2 h0 m_thrown a_tape m_taped m_size m_at2_5 m_end2_6 m_token2_9 m_whole2_10 m_nameSize2_8 m_fault m_place m_trouble a_letters m_failed m_hasHouse a_r a_fresh a_st a_undone a_kept m_undos m_images a_from a_begin a_motor a_change a_startFrame a_changeFrame a_lostAt a_blackAt a_slips a_leftArc a_died a_arcs m_bestSum m_nearest m_nearestTown a_there a_backAt a_sorted a_parts m_seed1 m_darkNow), (cAI g a_tape 900 d_tape), (cAI g a_letters 8 d_letters2_7)] [(cAI g a_fresh 311 d_fresh)] [1, 2, 3] [0] (m_afterX l g h0 sr_18 1 50 m_thrown a_tape m_taped m_size m_at2_5 m_end2_6 m_token2_9 m_whole2_10 m_nameSize2_8 m_fault m_place m_trouble a_letters m_failed m_hasHouse a_r a_fresh a_st a_undone a_kept m_undos m_images a_from a_begin a_motor a_change a_startFrame a_changeFrame a_lostAt a_blackAt a_slips a_leftArc a_died a_arcs m_bestSum m_nearest m_nearestTown a_there a_backAt a_sorted a_parts m_seed1 m_darkNow d_tape d_letters2_7 ("apart") (iv_w hv_m_size (zle_e rfl) (zle_e rfl)) (iv_w iv_12 (zle_e rfl) (zle_e rfl)) (iv_w iv_13 (zle_e rfl) (zle_e rfl)) (iv_w iv_4 (zle_e rfl) (zle_e rfl)) hsr_18 hk_17) dX11_houseLine_k1.2.1.1.1 mw523 mw524 mw525 mw5 mw526 rfl 11 rfl rfl 0 _ rfl yk_yX11_after_3 rfl (Nat.le_of_ble_eq_true rfl) (Nat.le_of_ble_eq_true rfl) (Nat.le_of_ble_eq_true rfl) (Nat.le_of_ble_eq_true rfl) (Nat.le_of_ble_eq_true rfl) rfl rfl (vnd_e rfl) rfl (vnd_e rfl) (dsj_e rfl) ?_
      intro r_28 w zq
      refine exE9 zq ?_
      clear zq
      intro m_at2_19 m_end2_20 m_failed2_21 m_fault2_22 d_letters2_23 m_nameSize2_24 m_place2_25 m_token2_26 m_whole2_27 iv_29 zq
      refine exA6 zq ?_
      clear zq
      intro iv_30 iv_31 hq_32 hq_33 hq_34 hk_35 zq
      subst zq
      refine k_ws [(cAI g a_fresh 311 d_fresh), (cO11_i1r1i10r1i2r5i2r12i3r4i2 h0 m_thrown a_tape m_taped m_size m_at2_19 m_end2_20 m_token2_26 m_whole2_27 m_nameSize2_24 m_fault2_22 m_place2_25 m_trouble a_letters m_failed2_21 m_hasHouse a_r a_fresh a_st a_undone a_kept m_undos m_images a_from a_begin a_motor a_change a_startFrame a_changeFrame a_lostAt a_blackAt a_slips a_leftArc a_died a_arcs m_bestSum m_nearest m_nearestTown a_there a_backAt a_sorted a_parts m_seed1 m_darkNow), (cAI g a_tape 900 d_tape), (cAI g a_letters 8 d_letters2_23)] rfl ?_
      have e_36 : (1 : Int32).toInt = 1 := by decide
      have e_37 : (50 : Int32).toInt = 50 := by decide
      have iv_38 : IV r_28 1 50 := by have := iq_1_1_1; have := iq_50_50_50; rw [IV]; omega
      refine k_iast [(cAI g a_fresh 311 (upd d_fresh (0 : Int32).toNatClampNeg r_28)), (cO11_i1r1i10r1i2r5i2r12i3r4i2 h0 m_thrown a_tape m_taped m_size m_at2_19 m_end2_20 m_token2_26 m_whole2_27 m_nameSize2_24 m_fault2_22 m_place2_25 m_trouble a_letters m_failed2_21 m_hasHouse a_r a_fresh a_st a_undone a_kept m_undos m_images a_from a_begin a_motor a_change a_startFrame a_changeFrame a_lostAt a_blackAt a_slips a_leftArc a_died a_arcs m_bestSum m_nearest m_nearestTown a_there a_backAt a_sorted a_parts m_seed1 m_darkNow), (cAI g a_tape 900 d_tape), (cAI g a_letters 8 d_letters2_23)] X dX11_houseLine_k1.2.1.1.2 0 rfl (by unfold vp_in; decide) rfl ?_
      refine (fun hg : ∀ fa_39 : Nat → Int32, fa_39 = upd d_fresh (0 : Int32).toNatClampNeg r_28 → RInv fa_39 → Wk p l e _ s m args below meth c _ A g _ _ _ [(cAI g a_fresh 311 fa_39), (cO11_i1r1i10r1i2r5i2r12i3r4i2 h0 m_thrown a_tape m_taped m_size m_at2_19 m_end2_20 m_token2_26 m_whole2_27 m_nameSize2_24 m_fault2_22 m_place2_25 m_trouble a_letters m_failed2_21 m_hasHouse a_r a_fresh a_st a_undone a_kept m_undos m_images a_from a_begin a_motor a_change a_startFrame a_changeFrame a_lostAt a_blackAt a_slips a_leftArc a_died a_arcs m_bestSum m_nearest m_nearestTown a_there a_backAt a_sorted a_parts m_seed1 m_darkNow), (cAI g a_tape 900 d_tape), (cAI g a_letters 8 d_letters2_23)] _ _ _ => hg _ rfl (w_fr_0 hp_d_fresh)) (fun fa_39 eq_42 hR_40 => ?_)
      have hT_43 : TRI fa_39 := by rw [eq_42]; exact tri_n (z := 0) hr_0 hp_d_fresh (by decide) (by decide) (by decide) (by decide)
      refine k_aload_n X dX11_houseLine_k1.2.1.2.1 0 rfl ?_
      refine k_get (ci := 11) X inlX11 rfl 16 (nlt_e rfl) dX11_houseLine_k1.2.1.2.2 mw171 1 rfl rfl ?_
      refine k_iconst (v := 1) X dX11_houseLine_k1.2.2.1.1 ic_1 ?_
      refine k_aload_n X dX11_houseLine_k1.2.2.1.2 0 rfl ?_
      refine k_ldcwS (tx := "motor") X dX11_houseLine_k1.2.2.2.1 (by decide +kernel) (fun sr_44 hsr_44 => ?_)
      refine k_iconst (v := 0) X dX11_houseLine_k1.2.2.2.2 ic_0 ?_
      refine k_bipush (v := 50) X dX11_houseLine_k2.1.1.1.1 bi_50 ?_
      refine k_callVI (n := 3) (As := [.ref sr_44, .int 0, .int 50]) (st := [.int 1, .ref a_fresh]) X [(cO11_i1r1i10r1i2r5i2r12i3r4i2 h0 m_thrown a_tape m_taped m_size m_at2_19 m_end2_20 m_token2_26 m_whole2_27 m_nameSize2_24 m_fault2_22 m_place2_25 m_trouble a_letters m_failed2_21 m_hasHouse a_r a_fresh a_st a_undone a_kept m_undos m_images a_from a_begin a_motor a_change a_startFrame a_changeFrame a_lostAt a_blackAt a_slips a_leftArc a_died a_arcs m_bestSum m_nearest m_nearestTown a_there a_backAt a_sorted a_parts m_seed1 m_darkNow), (cAI g a_tape 900 d_tape), (cAI g a_letters 8 d_letters2_23)] [(cAI g a_fresh 311 fa_39)] [1, 2, 3] [0] (m_afterX l g h0 sr_44 0 50 m_thrown a_tape m_taped m_size m_at2_19 m_end2_20 m_token2_26 m_whole2_27 m_nameSize2_24 m_fault2_22 m_place2_25 m_trouble a_letters m_failed2_21 m_hasHouse a_r a_fresh a_st a_undone a_kept m_undos m_images a_from a_begin a_motor a_change a_startFrame a_changeFrame a_lostAt a_blackAt a_slips a_leftArc a_died a_arcs m_bestSum m_nearest m_nearestTown a_there a_backAt a_sorted a_parts m_seed1 m_darkNow d_tape d_letters2_23 ("motor") (iv_w hv_m_size (zle_e rfl) (zle_e rfl)) (iv_w iv_29 (zle_e rfl) (zle_e rfl)) (iv_w iv_31 (zle_e rfl) (zle_e rfl)) (iv_w iv_30 (zle_e rfl) (zle_e rfl)) hsr_44 hk_35) dX11_houseLine_k2.1.1.1.2 mw523 mw524 mw525 mw5 mw526 rfl 11 rfl rfl 0 _ rfl yk_yX11_after_3 rfl (Nat.le_of_ble_eq_true rfl) (Nat.le_of_ble_eq_true rfl) (Nat.le_of_ble_eq_true rfl) (Nat.le_of_ble_eq_true rfl) (Nat.le_of_ble_eq_true rfl) rfl rfl (vnd_e rfl) rfl (vnd_e rfl) (dsj_e rfl) ?_
      intro r_54 w zq
      refine exE9 zq ?_
      clear zq
      intro m_at2_45 m_end2_46 m_failed2_47 m_fault2_48 d_letters2_49 m_nameSize2_50 m_place2_51 m_token2_52 m_whole2_53 iv_55 zq
      refine exA6 zq ?_
      clear zq
      intro iv_56 iv_57 hq_58 hq_59 hq_60 hk_61 zq
      subst zq
      refine k_ws [(cAI g a_fresh 311 fa_39), (cO11_i1r1i10r1i2r5i2r12i3r4i2 h0 m_thrown a_tape m_taped m_size m_at2_45 m_end2_46 m_token2_52 m_whole2_53 m_nameSize2_50 m_fault2_48 m_place2_51 m_trouble a_letters m_failed2_47 m_hasHouse a_r a_fresh a_st a_undone a_kept m_undos m_images a_from a_begin a_motor a_change a_startFrame a_changeFrame a_lostAt a_blackAt a_slips a_leftArc a_died a_arcs m_bestSum m_nearest m_nearestTown a_there a_backAt a_sorted a_parts m_seed1 m_darkNow), (cAI g a_tape 900 d_tape), (cAI g a_letters 8 d_letters2_49)] rfl ?_
      have e_62 : (0 : Int32).toInt = 0 := by decide
      have e_63 : (50 : Int32).toInt = 50 := by decide
      have iv_64 : IV r_54 0 50 := by have := iq_0_0_0; have := iq_50_50_50; rw [IV]; omega
      refine k_iast [(cAI g a_fresh 311 (upd fa_39 (1 : Int32).toNatClampNeg r_54)), (cO11_i1r1i10r1i2r5i2r12i3r4i2 h0 m_thrown a_tape m_taped m_size m_at2_45 m_end2_46 m_token2_52 m_whole2_53 m_nameSize2_50 m_fault2_48 m_place2_51 m_trouble a_letters m_failed2_47 m_hasHouse a_r a_fresh a_st a_undone a_kept m_undos m_images a_from a_begin a_motor a_change a_startFrame a_changeFrame a_lostAt a_blackAt a_slips a_leftArc a_died a_arcs m_bestSum m_nearest m_nearestTown a_there a_backAt a_sorted a_parts m_seed1 m_darkNow), (cAI g a_tape 900 d_tape), (cAI g a_letters 8 d_letters2_49)] X dX11_houseLine_k2.1.1.2.1 0 rfl (by unfold vp_in; decide) rfl ?_
      refine (fun hg : ∀ fa_65 : Nat → Int32, fa_65 = upd fa_39 (1 : Int32).toNatClampNeg r_54 → RInv fa_65 → Wk p l e _ s m args below meth c _ A g _ _ _ [(cAI g a_fresh 311 fa_65), (cO11_i1r1i10r1i2r5i2r12i3r4i2 h0 m_thrown a_tape m_taped m_size m_at2_45 m_end2_46 m_token2_52 m_whole2_53 m_nameSize2_50 m_fault2_48 m_place2_51 m_trouble a_letters m_failed2_47 m_hasHouse a_r a_fresh a_st a_undone a_kept m_undos m_images a_from a_begin a_motor a_change a_startFrame a_changeFrame a_lostAt a_blackAt a_slips a_leftArc a_died a_arcs m_bestSum m_nearest m_nearestTown a_there a_backAt a_sorted a_parts m_seed1 m_darkNow), (cAI g a_tape 900 d_tape), (cAI g a_letters 8 d_letters2_49)] _ _ _ => hg _ rfl (w_fr_1 hR_40)) (fun fa_65 eq_68 hR_66 => ?_)
      have hT_69 : TRI fa_65 := by rw [eq_68]; exact tri_n (z := 1) hT_43 hR_40 (by decide) (by decide) (by decide) (by decide)
      refine k_aload_n X dX11_houseLine_k2.1.1.2.2 0 rfl ?_
      refine k_get (ci := 11) X inlX11 rfl 16 (nlt_e rfl) dX11_houseLine_k2.1.2.1.1 mw171 1 rfl rfl ?_
      refine k_iconst (v := 2) X dX11_houseLine_k2.1.2.1.2 ic_2 ?_
      refine k_aload_n X dX11_houseLine_k2.1.2.2.1 0 rfl ?_
      refine k_ldcwS (tx := "leader") X dX11_houseLine_k2.1.2.2.2 (by decide +kernel) (fun sr_70 hsr_70 => ?_)
      refine k_iconst (v := 0) X dX11_houseLine_k2.2.1.1.1 ic_0 ?_
      refine k_bipush (v := 99) X dX11_houseLine_k2.2.1.1.2 bi_99 ?_
      refine k_callVI (n := 3) (As := [.ref sr_70, .int 0, .int 99]) (st := [.int 2, .ref a_fresh]) X [(cO11_i1r1i10r1i2r5i2r12i3r4i2 h0 m_thrown a_tape m_taped m_size m_at2_45 m_end2_46 m_token2_52 m_whole2_53 m_nameSize2_50 m_fault2_48 m_place2_51 m_trouble a_letters m_failed2_47 m_hasHouse a_r a_fresh a_st a_undone a_kept m_undos m_images a_from a_begin a_motor a_change a_startFrame a_changeFrame a_lostAt a_blackAt a_slips a_leftArc a_died a_arcs m_bestSum m_nearest m_nearestTown a_there a_backAt a_sorted a_parts m_seed1 m_darkNow), (cAI g a_tape 900 d_tape), (cAI g a_letters 8 d_letters2_49)] [(cAI g a_fresh 311 fa_65)] [1, 2, 3] [0] (m_afterX l g h0 sr_70 0 99 m_thrown a_tape m_taped m_size m_at2_45 m_end2_46 m_token2_52 m_whole2_53 m_nameSize2_50 m_fault2_48 m_place2_51 m_trouble a_letters m_failed2_47 m_hasHouse a_r a_fresh a_st a_undone a_kept m_undos m_images a_from a_begin a_motor a_change a_startFrame a_changeFrame a_lostAt a_blackAt a_slips a_leftArc a_died a_arcs m_bestSum m_nearest m_nearestTown a_there a_backAt a_sorted a_parts m_seed1 m_darkNow d_tape d_letters2_49 ("leader") (iv_w hv_m_size (zle_e rfl) (zle_e rfl)) (iv_w iv_55 (zle_e rfl) (zle_e rfl)) (iv_w iv_57 (zle_e rfl) (zle_e rfl)) (iv_w iv_56 (zle_e rfl) (zle_e rfl)) hsr_70 hk_61) dX11_houseLine_k2.2.1.2.1 mw523 mw524 mw525 mw5 mw526 rfl 11 rfl rfl 0 _ rfl yk_yX11_after_3 rfl (Nat.le_of_ble_eq_true rfl) (Nat.le_of_ble_eq_true rfl) (Nat.le_of_ble_eq_true rfl) (Nat.le_of_ble_eq_true rfl) (Nat.le_of_ble_eq_true rfl) rfl rfl (vnd_e rfl) rfl (vnd_e rfl) (dsj_e rfl) ?_
      intro r_80 w zq
      refine exE9 zq ?_
      clear zq
      intro m_at2_71 m_end2_72 m_failed2_73 m_fault2_74 d_letters2_75 m_nameSize2_76 m_place2_77 m_token2_78 m_whole2_79 iv_81 zq
      refine exA6 zq ?_
      clear zq
      intro iv_82 iv_83 hq_84 hq_85 hq_86 hk_87 zq
      subst zq
      refine k_ws [(cAI g a_fresh 311 fa_65), (cO11_i1r1i10r1i2r5i2r12i3r4i2 h0 m_thrown a_tape m_taped m_size m_at2_71 m_end2_72 m_token2_78 m_whole2_79 m_nameSize2_76 m_fault2_74 m_place2_77 m_trouble a_letters m_failed2_73 m_hasHouse a_r a_fresh a_st a_undone a_kept m_undos m_images a_from a_begin a_motor a_change a_startFrame a_changeFrame a_lostAt a_blackAt a_slips a_leftArc a_died a_arcs m_bestSum m_nearest m_nearestTown a_there a_backAt a_sorted a_parts m_seed1 m_darkNow), (cAI g a_tape 900 d_tape), (cAI g a_letters 8 d_letters2_75)] rfl ?_
      have e_88 : (0 : Int32).toInt = 0 := by decide
      have e_89 : (99 : Int32).toInt = 99 := by decide
      have iv_90 : IV r_80 0 99 := by have := iq_0_0_0; have := iq_99_99_99; rw [IV]; omega
      refine k_iast [(cAI g a_fresh 311 (upd fa_65 (2 : Int32).toNatClampNeg r_80)), (cO11_i1r1i10r1i2r5i2r12i3r4i2 h0 m_thrown a_tape m_taped m_size m_at2_71 m_end2_72 m_token2_78 m_whole2_79 m_nameSize2_76 m_fault2_74 m_place2_77 m_trouble a_letters m_failed2_73 m_hasHouse a_r a_fresh a_st a_undone a_kept m_undos m_images a_from a_begin a_motor a_change a_startFrame a_changeFrame a_lostAt a_blackAt a_slips a_leftArc a_died a_arcs m_bestSum m_nearest m_nearestTown a_there a_backAt a_sorted a_parts m_seed1 m_darkNow), (cAI g a_tape 900 d_tape), (cAI g a_letters 8 d_letters2_75)] X dX11_houseLine_k2.2.1.2.2 0 rfl (by unfold vp_in; decide) rfl ?_
      refine (fun hg : ∀ fa_91 : Nat → Int32, fa_91 = upd fa_65 (2 : Int32).toNatClampNeg r_80 → RInv fa_91 → Wk p l e _ s m args below meth c _ A g _ _ _ [(cAI g a_fresh 311 fa_91), (cO11_i1r1i10r1i2r5i2r12i3r4i2 h0 m_thrown a_tape m_taped m_size m_at2_71 m_end2_72 m_token2_78 m_whole2_79 m_nameSize2_76 m_fault2_74 m_place2_77 m_trouble a_letters m_failed2_73 m_hasHouse a_r a_fresh a_st a_undone a_kept m_undos m_images a_from a_begin a_motor a_change a_startFrame a_changeFrame a_lostAt a_blackAt a_slips a_leftArc a_died a_arcs m_bestSum m_nearest m_nearestTown a_there a_backAt a_sorted a_parts m_seed1 m_darkNow), (cAI g a_tape 900 d_tape), (cAI g a_letters 8 d_letters2_75)] _ _ _ => hg _ rfl (w_fr_2 hR_66)) (fun fa_91 eq_94 hR_92 => ?_)
      have hT_95 : TRI fa_91 := by rw [eq_94]; exact tri_n (z := 2) hT_69 hR_66 (by decide) (by decide) (by decide) (by decide)
      refine k_aload_n X dX11_houseLine_k2.2.2.1.1 0 rfl ?_
      refine k_get (ci := 11) X inlX11 rfl 16 (nlt_e rfl) dX11_houseLine_k2.2.2.1.2 mw171 1 rfl rfl ?_
      refine k_iconst (v := 3) X dX11_houseLine_k2.2.2.2.1 ic_3 ?_
      refine k_aload_n X dX11_houseLine_k2.2.2.2.2 0 rfl ?_
      refine k_ldcwS (tx := "burns") X dX11_houseLine_k3.1.1.1.1 (by decide +kernel) (fun sr_96 hsr_96 => ?_)
      refine k_iconst (v := 1) X dX11_houseLine_k3.1.1.1.2 ic_1 ?_
      refine k_sipush (v := 9999) X dX11_houseLine_k3.1.1.2.1 si_9999 ?_
      refine k_callVI (n := 3) (As := [.ref sr_96, .int 1, .int 9999]) (st := [.int 3, .ref a_fresh]) X [(cO11_i1r1i10r1i2r5i2r12i3r4i2 h0 m_thrown a_tape m_taped m_size m_at2_71 m_end2_72 m_token2_78 m_whole2_79 m_nameSize2_76 m_fault2_74 m_place2_77 m_trouble a_letters m_failed2_73 m_hasHouse a_r a_fresh a_st a_undone a_kept m_undos m_images a_from a_begin a_motor a_change a_startFrame a_changeFrame a_lostAt a_blackAt a_slips a_leftArc a_died a_arcs m_bestSum m_nearest m_nearestTown a_there a_backAt a_sorted a_parts m_seed1 m_darkNow), (cAI g a_tape 900 d_tape), (cAI g a_letters 8 d_letters2_75)] [(cAI g a_fresh 311 fa_91)] [1, 2, 3] [0] (m_afterX l g h0 sr_96 1 9999 m_thrown a_tape m_taped m_size m_at2_71 m_end2_72 m_token2_78 m_whole2_79 m_nameSize2_76 m_fault2_74 m_place2_77 m_trouble a_letters m_failed2_73 m_hasHouse a_r a_fresh a_st a_undone a_kept m_undos m_images a_from a_begin a_motor a_change a_startFrame a_changeFrame a_lostAt a_blackAt a_slips a_leftArc a_died a_arcs m_bestSum m_nearest m_nearestTown a_there a_backAt a_sorted a_parts m_seed1 m_darkNow d_tape d_letters2_75 ("burns") (iv_w hv_m_size (zle_e rfl) (zle_e rfl)) (iv_w iv_81 (zle_e rfl) (zle_e rfl)) (iv_w iv_83 (zle_e rfl) (zle_e rfl)) (iv_w iv_82 (zle_e rfl) (zle_e rfl)) hsr_96 hk_87) dX11_houseLine_k3.1.1.2.2 mw523 mw524 mw525 mw5 mw526 rfl 11 rfl rfl 0 _ rfl yk_yX11_after_3 rfl (Nat.le_of_ble_eq_true rfl) (Nat.le_of_ble_eq_true rfl) (Nat.le_of_ble_eq_true rfl) (Nat.le_of_ble_eq_true rfl) (Nat.le_of_ble_eq_true rfl) rfl rfl (vnd_e rfl) rfl (vnd_e rfl) (dsj_e rfl) ?_
      intro r_106 w zq
      refine exE9 zq ?_
      clear zq
      intro m_at2_97 m_end2_98 m_failed2_99 m_fault2_100 d_letters2_101 m_nameSize2_102 m_place2_103 m_token2_104 m_whole2_105 iv_107 zq
      refine exA6 zq ?_
      clear zq
      intro iv_108 iv_109 hq_110 hq_111 hq_112 hk_113 zq
      subst zq
      refine k_ws [(cAI g a_fresh 311 fa_91), (cO11_i1r1i10r1i2r5i2r12i3r4i2 h0 m_thrown a_tape m_taped m_size m_at2_97 m_end2_98 m_token2_104 m_whole2_105 m_nameSize2_102 m_fault2_100 m_place2_103 m_trouble a_letters m_failed2_99 m_hasHouse a_r a_fresh a_st a_undone a_kept m_undos m_images a_from a_begin a_motor a_change a_startFrame a_changeFrame a_lostAt a_blackAt a_slips a_leftArc a_died a_arcs m_bestSum m_nearest m_nearestTown a_there a_backAt a_sorted a_parts m_seed1 m_darkNow), (cAI g a_tape 900 d_tape), (cAI g a_letters 8 d_letters2_101)] rfl ?_
      have e_114 : (1 : Int32).toInt = 1 := by decide
      have e_115 : (9999 : Int32).toInt = 9999 := by decide
      have iv_116 : IV r_106 1 9999 := by have := iq_1_1_1; have := iq_9999_9999_9999; rw [IV]; omega
      refine k_iast [(cAI g a_fresh 311 (upd fa_91 (3 : Int32).toNatClampNeg r_106)), (cO11_i1r1i10r1i2r5i2r12i3r4i2 h0 m_thrown a_tape m_taped m_size m_at2_97 m_end2_98 m_token2_104 m_whole2_105 m_nameSize2_102 m_fault2_100 m_place2_103 m_trouble a_letters m_failed2_99 m_hasHouse a_r a_fresh a_st a_undone a_kept m_undos m_images a_from a_begin a_motor a_change a_startFrame a_changeFrame a_lostAt a_blackAt a_slips a_leftArc a_died a_arcs m_bestSum m_nearest m_nearestTown a_there a_backAt a_sorted a_parts m_seed1 m_darkNow), (cAI g a_tape 900 d_tape), (cAI g a_letters 8 d_letters2_101)] X dX11_houseLine_k3.1.2.1.1 0 rfl (by unfold vp_in; decide) rfl ?_
      refine (fun hg : ∀ fa_117 : Nat → Int32, fa_117 = upd fa_91 (3 : Int32).toNatClampNeg r_106 → RInv fa_117 → Wk p l e _ s m args below meth c _ A g _ _ _ [(cAI g a_fresh 311 fa_117), (cO11_i1r1i10r1i2r5i2r12i3r4i2 h0 m_thrown a_tape m_taped m_size m_at2_97 m_end2_98 m_token2_104 m_whole2_105 m_nameSize2_102 m_fault2_100 m_place2_103 m_trouble a_letters m_failed2_99 m_hasHouse a_r a_fresh a_st a_undone a_kept m_undos m_images a_from a_begin a_motor a_change a_startFrame a_changeFrame a_lostAt a_blackAt a_slips a_leftArc a_died a_arcs m_bestSum m_nearest m_nearestTown a_there a_backAt a_sorted a_parts m_seed1 m_darkNow), (cAI g a_tape 900 d_tape), (cAI g a_letters 8 d_letters2_101)] _ _ _ => hg _ rfl (w_fr_3 hR_92)) (fun fa_117 eq_120 hR_118 => ?_)
      have hT_121 : TRI fa_117 := by rw [eq_120]; exact tri_n (z := 3) hT_95 hR_92 (by decide) (by decide) (by decide) (by decide)
      refine k_aload_n X dX11_houseLine_k3.1.2.1.2 0 rfl ?_
      refine k_get (ci := 11) X inlX11 rfl 16 (nlt_e rfl) dX11_houseLine_k3.1.2.2.1 mw171 1 rfl rfl ?_
      refine k_iconst (v := 4) X dX11_houseLine_k3.1.2.2.2 ic_4 ?_
      refine k_aload_n X dX11_houseLine_k3.2.1.1.1 0 rfl ?_
      refine k_ldcwS (tx := "trim") X dX11_houseLine_k3.2.1.1.2 (by decide +kernel) (fun sr_122 hsr_122 => ?_)
      refine k_iconst (v := 0) X dX11_houseLine_k3.2.1.2.1 ic_0 ?_
      refine k_sipush (v := 999) X dX11_houseLine_k3.2.1.2.2 si_999 ?_
      refine k_callVI (n := 3) (As := [.ref sr_122, .int 0, .int 999]) (st := [.int 4, .ref a_fresh]) X [(cO11_i1r1i10r1i2r5i2r12i3r4i2 h0 m_thrown a_tape m_taped m_size m_at2_97 m_end2_98 m_token2_104 m_whole2_105 m_nameSize2_102 m_fault2_100 m_place2_103 m_trouble a_letters m_failed2_99 m_hasHouse a_r a_fresh a_st a_undone a_kept m_undos m_images a_from a_begin a_motor a_change a_startFrame a_changeFrame a_lostAt a_blackAt a_slips a_leftArc a_died a_arcs m_bestSum m_nearest m_nearestTown a_there a_backAt a_sorted a_parts m_seed1 m_darkNow), (cAI g a_tape 900 d_tape), (cAI g a_letters 8 d_letters2_101)] [(cAI g a_fresh 311 fa_117)] [1, 2, 3] [0] (m_afterX l g h0 sr_122 0 999 m_thrown a_tape m_taped m_size m_at2_97 m_end2_98 m_token2_104 m_whole2_105 m_nameSize2_102 m_fault2_100 m_place2_103 m_trouble a_letters m_failed2_99 m_hasHouse a_r a_fresh a_st a_undone a_kept m_undos m_images a_from a_begin a_motor a_change a_startFrame a_changeFrame a_lostAt a_blackAt a_slips a_leftArc a_died a_arcs m_bestSum m_nearest m_nearestTown a_there a_backAt a_sorted a_parts m_seed1 m_darkNow d_tape d_letters2_101 ("trim") (iv_w hv_m_size (zle_e rfl) (zle_e rfl)) (iv_w iv_107 (zle_e rfl) (zle_e rfl)) (iv_w iv_109 (zle_e rfl) (zle_e rfl)) (iv_w iv_108 (zle_e rfl) (zle_e rfl)) hsr_122 hk_113) dX11_houseLine_k3.2.2.1.1 mw523 mw524 mw525 mw5 mw526 rfl 11 rfl rfl 0 _ rfl yk_yX11_after_3 rfl (Nat.le_of_ble_eq_true rfl) (Nat.le_of_ble_eq_true rfl) (Nat.le_of_ble_eq_true rfl) (Nat.le_of_ble_eq_true rfl) (Nat.le_of_ble_eq_true rfl) rfl rfl (vnd_e rfl) rfl (vnd_e rfl) (dsj_e rfl) ?_
      intro r_132 w zq
      refine exE9 zq ?_
      clear zq
      intro m_at2_123 m_end2_124 m_failed2_125 m_fault2_126 d_letters2_127 m_nameSize2_128 m_place2_129 m_token2_130 m_whole2_131 iv_133 zq
      refine exA6 zq ?_
      clear zq
      intro iv_134 iv_135 hq_136 hq_137 hq_138 hk_139 zq
      subst zq
      refine k_ws [(cAI g a_fresh 311 fa_117), (cO11_i1r1i10r1i2r5i2r12i3r4i2 h0 m_thrown a_tape m_taped m_size m_at2_123 m_end2_124 m_token2_130 m_whole2_131 m_nameSize2_128 m_fault2_126 m_place2_129 m_trouble a_letters m_failed2_125 m_hasHouse a_r a_fresh a_st a_undone a_kept m_undos m_images a_from a_begin a_motor a_change a_startFrame a_changeFrame a_lostAt a_blackAt a_slips a_leftArc a_died a_arcs m_bestSum m_nearest m_nearestTown a_there a_backAt a_sorted a_parts m_seed1 m_darkNow), (cAI g a_tape 900 d_tape), (cAI g a_letters 8 d_letters2_127)] rfl ?_
      have e_140 : (0 : Int32).toInt = 0 := by decide
      have e_141 : (999 : Int32).toInt = 999 := by decide
      have iv_142 : IV r_132 0 999 := by have := iq_0_0_0; have := iq_999_999_999; rw [IV]; omega
      refine k_iast [(cAI g a_fresh 311 (upd fa_117 (4 : Int32).toNatClampNeg r_132)), (cO11_i1r1i10r1i2r5i2r12i3r4i2 h0 m_thrown a_tape m_taped m_size m_at2_123 m_end2_124 m_token2_130 m_whole2_131 m_nameSize2_128 m_fault2_126 m_place2_129 m_trouble a_letters m_failed2_125 m_hasHouse a_r a_fresh a_st a_undone a_kept m_undos m_images a_from a_begin a_motor a_change a_startFrame a_changeFrame a_lostAt a_blackAt a_slips a_leftArc a_died a_arcs m_bestSum m_nearest m_nearestTown a_there a_backAt a_sorted a_parts m_seed1 m_darkNow), (cAI g a_tape 900 d_tape), (cAI g a_letters 8 d_letters2_127)] X dX11_houseLine_k3.2.2.1.2 0 rfl (by unfold vp_in; decide) rfl ?_
      refine (fun hg : ∀ fa_143 : Nat → Int32, fa_143 = upd fa_117 (4 : Int32).toNatClampNeg r_132 → RInv fa_143 → Wk p l e _ s m args below meth c _ A g _ _ _ [(cAI g a_fresh 311 fa_143), (cO11_i1r1i10r1i2r5i2r12i3r4i2 h0 m_thrown a_tape m_taped m_size m_at2_123 m_end2_124 m_token2_130 m_whole2_131 m_nameSize2_128 m_fault2_126 m_place2_129 m_trouble a_letters m_failed2_125 m_hasHouse a_r a_fresh a_st a_undone a_kept m_undos m_images a_from a_begin a_motor a_change a_startFrame a_changeFrame a_lostAt a_blackAt a_slips a_leftArc a_died a_arcs m_bestSum m_nearest m_nearestTown a_there a_backAt a_sorted a_parts m_seed1 m_darkNow), (cAI g a_tape 900 d_tape), (cAI g a_letters 8 d_letters2_127)] _ _ _ => hg _ rfl (w_fr_4 hR_118)) (fun fa_143 eq_146 hR_144 => ?_)
      have hT_147 : TRI fa_143 := by rw [eq_146]; exact tri_n (z := 4) hT_121 hR_118 (by decide) (by decide) (by decide) (by decide)
      refine k_aload_n X dX11_houseLine_k3.2.2.2.1 0 rfl ?_
      refine k_get (ci := 11) X inlX11 rfl 16 (nlt_e rfl) dX11_houseLine_k3.2.2.2.2 mw171 1 rfl rfl ?_
      refine k_iconst (v := 5) X dX11_houseLine_k4.1.1.1.1 ic_5 ?_
      refine k_aload_n X dX11_houseLine_k4.1.1.1.2 0 rfl ?_
      refine k_ldcwS (tx := "mend") X dX11_houseLine_k4.1.1.2.1 (by decide +kernel) (fun sr_148 hsr_148 => ?_)
      refine k_iconst (v := 0) X dX11_houseLine_k4.1.1.2.2 ic_0 ?_
      refine k_sipush (v := 999) X dX11_houseLine_k4.1.2.1.1 si_999 ?_
      refine k_callVI (n := 3) (As := [.ref sr_148, .int 0, .int 999]) (st := [.int 5, .ref a_fresh]) X [(cO11_i1r1i10r1i2r5i2r12i3r4i2 h0 m_thrown a_tape m_taped m_size m_at2_123 m_end2_124 m_token2_130 m_whole2_131 m_nameSize2_128 m_fault2_126 m_place2_129 m_trouble a_letters m_failed2_125 m_hasHouse a_r a_fresh a_st a_undone a_kept m_undos m_images a_from a_begin a_motor a_change a_startFrame a_changeFrame a_lostAt a_blackAt a_slips a_leftArc a_died a_arcs m_bestSum m_nearest m_nearestTown a_there a_backAt a_sorted a_parts m_seed1 m_darkNow), (cAI g a_tape 900 d_tape), (cAI g a_letters 8 d_letters2_127)] [(cAI g a_fresh 311 fa_143)] [1, 2, 3] [0] (m_afterX l g h0 sr_148 0 999 m_thrown a_tape m_taped m_size m_at2_123 m_end2_124 m_token2_130 m_whole2_131 m_nameSize2_128 m_fault2_126 m_place2_129 m_trouble a_letters m_failed2_125 m_hasHouse a_r a_fresh a_st a_undone a_kept m_undos m_images a_from a_begin a_motor a_change a_startFrame a_changeFrame a_lostAt a_blackAt a_slips a_leftArc a_died a_arcs m_bestSum m_nearest m_nearestTown a_there a_backAt a_sorted a_parts m_seed1 m_darkNow d_tape d_letters2_127 ("mend") (iv_w hv_m_size (zle_e rfl) (zle_e rfl)) (iv_w iv_133 (zle_e rfl) (zle_e rfl)) (iv_w iv_135 (zle_e rfl) (zle_e rfl)) (iv_w iv_134 (zle_e rfl) (zle_e rfl)) hsr_148 hk_139) dX11_houseLine_k4.1.2.1.2 mw523 mw524 mw525 mw5 mw526 rfl 11 rfl rfl 0 _ rfl yk_yX11_after_3 rfl (Nat.le_of_ble_eq_true rfl) (Nat.le_of_ble_eq_true rfl) (Nat.le_of_ble_eq_true rfl) (Nat.le_of_ble_eq_true rfl) (Nat.le_of_ble_eq_true rfl) rfl rfl (vnd_e rfl) rfl (vnd_e rfl) (dsj_e rfl) ?_
      intro r_158 w zq
      refine exE9 zq ?_
      clear zq
      intro m_at2_149 m_end2_150 m_failed2_151 m_fault2_152 d_letters2_153 m_nameSize2_154 m_place2_155 m_token2_156 m_whole2_157 iv_159 zq
      refine exA6 zq ?_
      clear zq
      intro iv_160 iv_161 hq_162 hq_163 hq_164 hk_165 zq
      subst zq
      refine k_ws [(cAI g a_fresh 311 fa_143), (cO11_i1r1i10r1i2r5i2r12i3r4i2 h0 m_thrown a_tape m_taped m_size m_at2_149 m_end2_150 m_token2_156 m_whole2_157 m_nameSize2_154 m_fault2_152 m_place2_155 m_trouble a_letters m_failed2_151 m_hasHouse a_r a_fresh a_st a_undone a_kept m_undos m_images a_from a_begin a_motor a_change a_startFrame a_changeFrame a_lostAt a_blackAt a_slips a_leftArc a_died a_arcs m_bestSum m_nearest m_nearestTown a_there a_backAt a_sorted a_parts m_seed1 m_darkNow), (cAI g a_tape 900 d_tape), (cAI g a_letters 8 d_letters2_153)] rfl ?_
      have e_166 : (0 : Int32).toInt = 0 := by decide
      have e_167 : (999 : Int32).toInt = 999 := by decide
      have iv_168 : IV r_158 0 999 := by have := iq_0_0_0; have := iq_999_999_999; rw [IV]; omega
      refine k_iast [(cAI g a_fresh 311 (upd fa_143 (5 : Int32).toNatClampNeg r_158)), (cO11_i1r1i10r1i2r5i2r12i3r4i2 h0 m_thrown a_tape m_taped m_size m_at2_149 m_end2_150 m_token2_156 m_whole2_157 m_nameSize2_154 m_fault2_152 m_place2_155 m_trouble a_letters m_failed2_151 m_hasHouse a_r a_fresh a_st a_undone a_kept m_undos m_images a_from a_begin a_motor a_change a_startFrame a_changeFrame a_lostAt a_blackAt a_slips a_leftArc a_died a_arcs m_bestSum m_nearest m_nearestTown a_there a_backAt a_sorted a_parts m_seed1 m_darkNow), (cAI g a_tape 900 d_tape), (cAI g a_letters 8 d_letters2_153)] X dX11_houseLine_k4.1.2.2.1 0 rfl (by unfold vp_in; decide) rfl ?_
      refine (fun hg : ∀ fa_169 : Nat → Int32, fa_169 = upd fa_143 (5 : Int32).toNatClampNeg r_158 → RInv fa_169 → Wk p l e _ s m args below meth c _ A g _ _ _ [(cAI g a_fresh 311 fa_169), (cO11_i1r1i10r1i2r5i2r12i3r4i2 h0 m_thrown a_tape m_taped m_size m_at2_149 m_end2_150 m_token2_156 m_whole2_157 m_nameSize2_154 m_fault2_152 m_place2_155 m_trouble a_letters m_failed2_151 m_hasHouse a_r a_fresh a_st a_undone a_kept m_undos m_images a_from a_begin a_motor a_change a_startFrame a_changeFrame a_lostAt a_blackAt a_slips a_leftArc a_died a_arcs m_bestSum m_nearest m_nearestTown a_there a_backAt a_sorted a_parts m_seed1 m_darkNow), (cAI g a_tape 900 d_tape), (cAI g a_letters 8 d_letters2_153)] _ _ _ => hg _ rfl (w_fr_5 hR_144)) (fun fa_169 eq_172 hR_170 => ?_)
      have hT_173 : TRI fa_169 := by rw [eq_172]; exact tri_n (z := 5) hT_147 hR_144 (by decide) (by decide) (by decide) (by decide)
      refine k_aload_n X dX11_houseLine_k4.1.2.2.2 0 rfl ?_
      refine k_get (ci := 11) X inlX11 rfl 13 (nlt_e rfl) dX11_houseLine_k4.2.1.1.1 mw469 1 rfl rfl ?_
      refine k_if_ne 146 X dX11_houseLine_k4.2.1.1.2 (jp_e rfl) (fun h_174 => ?_) (fun h_174 => ?_)
      · skip
        have iv_175 : IV m_failed2_151 1 1 := iv_neL h_174 iv_160 iq_0_0_0 (zle_e rfl)
        exact k_vret X hr dX11_houseLine_k4.2.2.2.2 (Nat.le_of_ble_eq_true rfl) (Nat.le_of_ble_eq_true rfl) [1, 2, 3, 0] (vnd_e rfl) rfl rfl ⟨m_at2_149, m_end2_150, m_failed2_151, m_fault2_152, fa_169, d_letters2_153, m_nameSize2_154, m_place2_155, m_token2_156, m_whole2_157, (iv_w iv_159 (zle_e rfl) (zle_e rfl)), (iv_w iv_175 (zle_e rfl) (zle_e rfl)), (iv_w iv_161 (zle_e rfl) (zle_e rfl)), hR_170, (by omega), hT_173, ⟨z_1, ez_1, (Or.inl ⟨h_2, (Or.inl ⟨h_3, ⟨m_at2_5, m_end2_6, d_letters2_7, m_nameSize2_8, m_token2_9, m_whole2_10, hq_16, ⟨m_at2_19, m_end2_20, m_failed2_21, m_fault2_22, d_letters2_23, m_nameSize2_24, m_place2_25, m_token2_26, m_whole2_27, r_28, hq_34, ⟨fa_39, eq_42, ⟨m_at2_45, m_end2_46, m_failed2_47, m_fault2_48, d_letters2_49, m_nameSize2_50, m_place2_51, m_token2_52, m_whole2_53, r_54, hq_60, ⟨fa_65, eq_68, ⟨m_at2_71, m_end2_72, m_failed2_73, m_fault2_74, d_letters2_75, m_nameSize2_76, m_place2_77, m_token2_78, m_whole2_79, r_80, hq_86, ⟨fa_91, eq_94, ⟨m_at2_97, m_end2_98, m_failed2_99, m_fault2_100, d_letters2_101, m_nameSize2_102, m_place2_103, m_token2_104, m_whole2_105, r_106, hq_112, ⟨fa_117, eq_120, ⟨m_at2_123, m_end2_124, m_failed2_125, m_fault2_126, d_letters2_127, m_nameSize2_128, m_place2_129, m_token2_130, m_whole2_131, r_132, hq_138, ⟨fa_143, eq_146, ⟨m_at2_149, m_end2_150, m_failed2_151, m_fault2_152, d_letters2_153, m_nameSize2_154, m_place2_155, m_token2_156, m_whole2_157, r_158, hq_164, ⟨fa_169, eq_172, (Or.inl ⟨h_174, ⟨rfl, rfl, rfl, rfl, rfl, rfl, rfl, rfl, rfl, rfl⟩⟩)⟩⟩⟩⟩⟩⟩⟩⟩⟩⟩⟩⟩⟩⟩)⟩)⟩, hk_165, rfl⟩
      · skip
        have iv_176 : IV m_failed2_151 0 0 := iv_meet iv_160 (iv_e h_174 iq_0_0_0) (zle_o rfl) (zle_o rfl)
        refine k_aload_n X dX11_houseLine_k4.2.1.2.1 0 rfl ?_
        refine k_get (ci := 11) X inlX11 rfl 16 (nlt_e rfl) dX11_houseLine_k4.2.1.2.2 mw171 1 rfl rfl ?_
        refine k_bipush (v := 15) X dX11_houseLine_k4.2.2.1.1 bi_15 ?_
        refine k_iconst (v := 1) X dX11_houseLine_k4.2.2.1.2 ic_1 ?_
        refine k_iast [(cAI g a_fresh 311 (upd fa_169 (15 : Int32).toNatClampNeg 1)), (cO11_i1r1i10r1i2r5i2r12i3r4i2 h0 m_thrown a_tape m_taped m_size m_at2_149 m_end2_150 m_token2_156 m_whole2_157 m_nameSize2_154 m_fault2_152 m_place2_155 m_trouble a_letters m_failed2_151 m_hasHouse a_r a_fresh a_st a_undone a_kept m_undos m_images a_from a_begin a_motor a_change a_startFrame a_changeFrame a_lostAt a_blackAt a_slips a_leftArc a_died a_arcs m_bestSum m_nearest m_nearestTown a_there a_backAt a_sorted a_parts m_seed1 m_darkNow), (cAI g a_tape 900 d_tape), (cAI g a_letters 8 d_letters2_153)] X dX11_houseLine_k4.2.2.2.1 0 rfl (by unfold vp_in; decide) rfl ?_
        refine (fun hg : ∀ fa_177 : Nat → Int32, fa_177 = upd fa_169 (15 : Int32).toNatClampNeg 1 → RInv fa_177 → Wk p l e _ s m args below meth c _ A g _ _ _ [(cAI g a_fresh 311 fa_177), (cO11_i1r1i10r1i2r5i2r12i3r4i2 h0 m_thrown a_tape m_taped m_size m_at2_149 m_end2_150 m_token2_156 m_whole2_157 m_nameSize2_154 m_fault2_152 m_place2_155 m_trouble a_letters m_failed2_151 m_hasHouse a_r a_fresh a_st a_undone a_kept m_undos m_images a_from a_begin a_motor a_change a_startFrame a_changeFrame a_lostAt a_blackAt a_slips a_leftArc a_died a_arcs m_bestSum m_nearest m_nearestTown a_there a_backAt a_sorted a_parts m_seed1 m_darkNow), (cAI g a_tape 900 d_tape), (cAI g a_letters 8 d_letters2_153)] _ _ _ => hg _ rfl (w_fr_15 hR_170)) (fun fa_177 eq_180 hR_178 => ?_)
        have hT_181 : TRI fa_177 := by rw [eq_180]; exact tri_n (z := 15) hT_173 hR_170 (by decide) (by decide) (by decide) (by decide)
        exact k_vret X hr dX11_houseLine_k4.2.2.2.2 (Nat.le_of_ble_eq_true rfl) (Nat.le_of_ble_eq_true rfl) [1, 2, 3, 0] (vnd_e rfl) rfl rfl ⟨m_at2_149, m_end2_150, m_failed2_151, m_fault2_152, fa_177, d_letters2_153, m_nameSize2_154, m_place2_155, m_token2_156, m_whole2_157, (iv_w iv_159 (zle_e rfl) (zle_e rfl)), (iv_w iv_176 (zle_e rfl) (zle_e rfl)), (iv_w iv_161 (zle_e rfl) (zle_e rfl)), hR_178, (by omega), hT_181, ⟨z_1, ez_1, (Or.inl ⟨h_2, (Or.inl ⟨h_3, ⟨m_at2_5, m_end2_6, d_letters2_7, m_nameSize2_8, m_token2_9, m_whole2_10, hq_16, ⟨m_at2_19, m_end2_20, m_failed2_21, m_fault2_22, d_letters2_23, m_nameSize2_24, m_place2_25, m_token2_26, m_whole2_27, r_28, hq_34, ⟨fa_39, eq_42, ⟨m_at2_45, m_end2_46, m_failed2_47, m_fault2_48, d_letters2_49, m_nameSize2_50, m_place2_51, m_token2_52, m_whole2_53, r_54, hq_60, ⟨fa_65, eq_68, ⟨m_at2_71, m_end2_72, m_failed2_73, m_fault2_74, d_letters2_75, m_nameSize2_76, m_place2_77, m_token2_78, m_whole2_79, r_80, hq_86, ⟨fa_91, eq_94, ⟨m_at2_97, m_end2_98, m_failed2_99, m_fault2_100, d_letters2_101, m_nameSize2_102, m_place2_103, m_token2_104, m_whole2_105, r_106, hq_112, ⟨fa_117, eq_120, ⟨m_at2_123, m_end2_124, m_failed2_125, m_fault2_126, d_letters2_127, m_nameSize2_128, m_place2_129, m_token2_130, m_whole2_131, r_132, hq_138, ⟨fa_143, eq_146, ⟨m_at2_149, m_end2_150, m_failed2_151, m_fault2_152, d_letters2_153, m_nameSize2_154, m_place2_155, m_token2_156, m_whole2_157, r_158, hq_164, ⟨fa_169, eq_172, (Or.inr ⟨h_174, ⟨fa_177, eq_180, ⟨rfl, rfl, rfl, rfl, rfl, rfl, rfl, rfl, rfl, rfl⟩⟩⟩)⟩⟩⟩⟩⟩⟩⟩⟩⟩⟩⟩⟩⟩⟩)⟩)⟩, hk_165, rfl⟩
    · skip
      have iv_182 : IV m_failed 1 1 := iv_neL h_3 hv_m_failed iq_0_0_0 (zle_e rfl)
      exact k_vret X hr dX11_houseLine_k0.2.2.2.1 (Nat.le_of_ble_eq_true rfl) (Nat.le_of_ble_eq_true rfl) [0, 1, 2, 3] (vnd_e rfl) rfl rfl ⟨m_at, m_end, m_failed, m_fault, d_fresh, d_letters, m_nameSize, m_place, m_token, m_whole, (iv_w hv_m_end (zle_e rfl) (zle_e rfl)), (iv_w iv_182 (zle_e rfl) (zle_e rfl)), (iv_w hv_m_nameSize (zle_e rfl) (zle_e rfl)), hp_d_fresh, (by omega), hr_0, ⟨z_1, ez_1, (Or.inl ⟨h_2, (Or.inr ⟨h_3, ⟨rfl, rfl, rfl, rfl, rfl, rfl, rfl, rfl, rfl, rfl⟩⟩)⟩)⟩, hc_0, rfl⟩
  · skip
    have iv_183 : IV z_1 1 1 := iv_meet (iv_any z_1) (iv_e h_2 iq_1_1_1) (zle_o rfl) (zle_o rfl)
    refine k_aload_n X dX11_houseLine_k0.1.2.2.1 0 rfl ?_
    refine k_iconst (v := 3) X dX11_houseLine_k0.1.2.2.2 ic_3 ?_
    refine k_aload_n X dX11_houseLine_k0.2.1.1.1 0 rfl ?_
    refine k_get (ci := 11) X inlX11 rfl 4 (nlt_e rfl) dX11_houseLine_k0.2.1.1.2 mw473 0 rfl rfl ?_
    refine k_callVV (n := 2) (As := [.int 3, .int m_at]) (st := []) X [(cO11_i1r1i10r1i2r5i2r12i3r4i2 h0 m_thrown a_tape m_taped m_size m_at m_end m_token m_whole m_nameSize m_fault m_place m_trouble a_letters m_failed m_hasHouse a_r a_fresh a_st a_undone a_kept m_undos m_images a_from a_begin a_motor a_change a_startFrame a_changeFrame a_lostAt a_blackAt a_slips a_leftArc a_died a_arcs m_bestSum m_nearest m_nearestTown a_there a_backAt a_sorted a_parts m_seed1 m_darkNow)] [(cAI g a_tape 900 d_tape), (cAI g a_letters 8 d_letters), (cAI g a_fresh 311 d_fresh)] [0] [1, 2, 3] (m_badX l g h0 3 m_at m_thrown a_tape m_taped m_size m_at m_end m_token m_whole m_nameSize m_fault m_place m_trouble a_letters m_failed m_hasHouse a_r a_fresh a_st a_undone a_kept m_undos m_images a_from a_begin a_motor a_change a_startFrame a_changeFrame a_lostAt a_blackAt a_slips a_leftArc a_died a_arcs m_bestSum m_nearest m_nearestTown a_there a_backAt a_sorted a_parts m_seed1 m_darkNow (iv_w hv_m_failed (zle_e rfl) (zle_e rfl))) dX11_houseLine_k0.2.1.2.1 mw519 mw520 mw521 mw5 mw522 rfl 11 rfl rfl 0 _ rfl yk_yX11_bad_2 rfl (Nat.le_of_ble_eq_true rfl) (Nat.le_of_ble_eq_true rfl) (Nat.le_of_ble_eq_true rfl) (Nat.le_of_ble_eq_true rfl) (Nat.le_of_ble_eq_true rfl) rfl rfl (vnd_e rfl) rfl (vnd_e rfl) (dsj_e rfl) ?_
    rintro w ⟨m_failed2_184, m_fault2_185, m_place2_186, iv_188, hq_189, rfl⟩
    refine k_ws [(cAI g a_tape 900 d_tape), (cAI g a_letters 8 d_letters), (cAI g a_fresh 311 d_fresh), (cO11_i1r1i10r1i2r5i2r12i3r4i2 h0 m_thrown a_tape m_taped m_size m_at m_end m_token m_whole m_nameSize m_fault2_185 m_place2_186 m_trouble a_letters m_failed2_184 m_hasHouse a_r a_fresh a_st a_undone a_kept m_undos m_images a_from a_begin a_motor a_change a_startFrame a_changeFrame a_lostAt a_blackAt a_slips a_leftArc a_died a_arcs m_bestSum m_nearest m_nearestTown a_there a_backAt a_sorted a_parts m_seed1 m_darkNow)] rfl ?_
    refine k_aload_n X dX11_houseLine_k0.2.1.2.2 0 rfl ?_
    refine k_get (ci := 11) X inlX11 rfl 13 (nlt_e rfl) dX11_houseLine_k0.2.2.1.1 mw469 3 rfl rfl ?_
    refine k_if_eq 28 X dX11_houseLine_k0.2.2.1.2 (jp_e rfl) (fun h_190 => (iv_eqN h_190 iv_188 iq_0_0_0 (by decide)).elim) (fun h_190 => ?_)
    exact k_vret X hr dX11_houseLine_k0.2.2.2.1 (Nat.le_of_ble_eq_true rfl) (Nat.le_of_ble_eq_true rfl) [3, 0, 1, 2] (vnd_e rfl) rfl rfl ⟨m_at, m_end, m_failed2_184, m_fault2_185, d_fresh, d_letters, m_nameSize, m_place2_186, m_token, m_whole, (iv_w hv_m_end (zle_e rfl) (zle_e rfl)), (iv_w iv_188 (zle_e rfl) (zle_e rfl)), (iv_w hv_m_nameSize (zle_e rfl) (zle_e rfl)), hp_d_fresh, (by omega), hr_0, ⟨z_1, ez_1, (Or.inr ⟨h_2, ⟨m_failed2_184, m_fault2_185, m_place2_186, hq_189, ⟨rfl, rfl, rfl, rfl, rfl, rfl, rfl, rfl, rfl, rfl⟩⟩⟩)⟩, hc_0, rfl⟩


set_option maxHeartbeats 4000000 in
set_option maxRecDepth 100000 in
theorem m_reelLineX (l : Launch) (g : Gx) (h0 : Nat) (m_thrown : Int32) (a_tape : Nat) (m_taped : Int32) (m_size : Int32) (m_at : Int32) (m_end : Int32) (m_token : Int32) (m_whole : Int32) (m_nameSize : Int32) (m_fault : Int32) (m_place : Int32) (m_trouble : Int32) (a_letters : Nat) (m_failed : Int32) (m_hasHouse : Int32) (a_r : Nat) (a_fresh : Nat) (a_st : Nat) (a_undone : Nat) (a_kept : Nat) (m_undos : Int32) (m_images : Int32) (a_from : Nat) (a_begin : Nat) (a_motor : Nat) (a_change : Nat) (a_startFrame : Nat) (a_changeFrame : Nat) (a_lostAt : Nat) (a_blackAt : Nat) (a_slips : Nat) (a_leftArc : Nat) (a_died : Nat) (a_arcs : Nat) (m_bestSum : Int32) (m_nearest : Int32) (m_nearestTown : Int32) (a_there : Nat) (a_backAt : Nat) (a_sorted : Nat) (a_parts : Nat) (m_seed1 : Int32) (m_darkNow : Int32) (d_tape : Nat → Int32) (d_letters : Nat → Int32) (d_fresh : Nat → Int32) (hv_m_size : IV m_size 0 900) (hv_m_end : IV m_end 0 900) (hv_m_nameSize : IV m_nameSize 0 900) (hv_m_failed : IV m_failed 0 1) (hp_d_fresh : RInv d_fresh) (hr_0 : TRI d_fresh) (hc_0 : m_failed = 1 ∨ ((d_fresh 6).toInt ≤ 7)) (hc_1 : m_token = 2 → IV m_nameSize 0 8) : cV l g yX11_reelLine cX11_reelLine 2 8 173 0 0 [.ref h0] [(cO11_i1r1i10r1i2r5i2r12i3r4i2 h0 m_thrown a_tape m_taped m_size m_at m_end m_token m_whole m_nameSize m_fault m_place m_trouble a_letters m_failed m_hasHouse a_r a_fresh a_st a_undone a_kept m_undos m_images a_from a_begin a_motor a_change a_startFrame a_changeFrame a_lostAt a_blackAt a_slips a_leftArc a_died a_arcs m_bestSum m_nearest m_nearestTown a_there a_backAt a_sorted a_parts m_seed1 m_darkNow), (cAI g a_tape 900 d_tape), (cAI g a_letters 8 d_letters), (cAI g a_fresh 311 d_fresh)] (fun w => ∃ (m_at2 : Int32) (m_end2 : Int32) (m_failed2 : Int32) (m_fault2 : Int32) (d_fresh2 : Nat → Int32) (d_letters2 : Nat → Int32) (m_nameSize2 : Int32) (m_place2 : Int32) (m_token2 : Int32) (m_whole2 : Int32), IV m_end2 0 900 ∧ IV m_failed2 0 1 ∧ IV m_nameSize2 0 900 ∧ RInv d_fresh2 ∧ (m_end.toInt ≤ m_end2.toInt) ∧ (TRI d_fresh2) ∧ (R_m_reelLineX m_size m_at m_end m_token m_whole m_nameSize m_fault m_place m_failed d_tape d_letters d_fresh m_at2 m_end2 m_failed2 m_fault2 d_fresh2 d_letters2 m_nameSize2 m_place2 m_token2 m_whole2) ∧ (m_token2 = 2 → IV m_nameSize2 0 8) ∧ w = [(cO11_i1r1i10r1i2r5i2r12i3r4i2 h0 m_thrown a_tape m_taped m_size m_at2 m_end2 m_token2 m_whole2 m_nameSize2 m_fault2 m_place2 m_trouble a_letters m_failed2 m_hasHouse a_r a_fresh a_st a_undone a_kept m_undos m_images a_from a_begin a_motor a_change a_startFrame a_changeFrame a_lostAt a_blackAt a_slips a_leftArc a_died a_arcs m_bestSum m_nearest m_nearestTown a_there a_backAt a_sorted a_parts m_seed1 m_darkNow), (cAI g a_tape 900 d_tape), (cAI g a_letters 8 d_letters2), (cAI g a_fresh 311 d_fresh2)]) := by
  refine cV.of (by decide) (Nat.le_of_ble_eq_true rfl) ?_
  intro p e s m args below meth c A X hr hi
  refine k_lveq [(0, .ref h0)] rfl ?_
  refine k_aload_n X dX11_reelLine_k0.1.1.1.1 0 rfl ?_
  refine k_get (ci := 11) X inlX11 rfl 13 (nlt_e rfl) dX11_reelLine_k0.1.1.1.2 mw469 0 rfl rfl ?_
  refine k_if_eq 8 X dX11_reelLine_k0.1.1.2.1 (jp_e rfl) (fun h_1 => ?_) (fun h_1 => ?_)
  · skip
    have iv_2 : IV m_failed 0 0 := iv_meet hv_m_failed (iv_e h_1 iq_0_0_0) (zle_o rfl) (zle_o rfl)
    have hc_3 := hc_0.resolve_left (fun q => iv_eqN q iv_2 iq_1_1_1 (by decide))
    have j_4 : (d_fresh 6).toInt ≤ 7 := hc_3
    refine k_bipush (v := 16) X dX11_reelLine_k0.1.2.1.1 bi_16 ?_
    refine k_iconst (v := 3) X dX11_reelLine_k0.1.2.1.2 ic_3 ?_
    refine k_aload_n X dX11_reelLine_k0.1.2.2.1 0 rfl ?_
    refine k_get (ci := 11) X inlX11 rfl 16 (nlt_e rfl) dX11_reelLine_k0.1.2.2.2 mw171 0 rfl rfl ?_
    refine k_bipush (v := 6) X dX11_reelLine_k0.2.1.1.1 bi_6 ?_
    refine k_iald X dX11_reelLine_k0.2.1.1.2 3 rfl (by unfold vp_in; decide) ?_
    refine k_nm (fun z_5 ez_5 => ?_)
    have i_6 : z_5.toInt = (d_fresh 6).toInt := by rw [ez_5]; rfl
    have iv_7 : IV z_5 0 7 := by have := rb_6 ez_5 hp_d_fresh; rw [IV]; omega
    refine k_imul X dX11_reelLine_k0.2.1.2.1 ?_
    refine k_nm (fun z_8 ez_8 => ?_)
    have i_9 : z_8.toInt = 3 * z_5.toInt := in_mul ez_8 (by decide) (zle_e rfl) iv_7 (zle_e rfl) (zle_e rfl)
    have iv_10 : IV z_8 0 21 := iz4 i_9 iv_7 (zle_e rfl) (zle_e rfl) (zle_e rfl)
    refine k_iadd X dX11_reelLine_k0.2.1.2.2 ?_
    refine k_nm (fun z_11 ez_11 => ?_)
    have i_12 : z_11.toInt = 16 + z_8.toInt := in_add ez_11 iq_16_16_16 iv_10 (zle_e rfl) (zle_e rfl)
    have iv_13 : IV z_11 16 37 := iz2 i_12 iv_10 (zle_e rfl) (zle_e rfl)
    refine k_istore_n [(1, .int z_11), (0, .ref h0)] X dX11_reelLine_k0.2.2.1.1 (nlt_e rfl) rfl ?_
    refine k_aload_n X dX11_reelLine_k0.2.2.1.2 1 rfl ?_
    refine k_aload_n X dX11_reelLine_k0.2.2.2.1 1 rfl ?_
    refine k_get (ci := 11) X inlX11 rfl 16 (nlt_e rfl) dX11_reelLine_k0.2.2.2.2 mw171 0 rfl rfl ?_
    refine k_bipush (v := 6) X dX11_reelLine_k1.1.1.1.1 bi_6 ?_
    refine k_iald X dX11_reelLine_k1.1.1.1.2 3 rfl (by unfold vp_in; decide) ?_
    refine k_to z_5 ez_5.symm ?_
    refine k_callVV (n := 1) (As := [.int z_5]) (st := []) X [(cO11_i1r1i10r1i2r5i2r12i3r4i2 h0 m_thrown a_tape m_taped m_size m_at m_end m_token m_whole m_nameSize m_fault m_place m_trouble a_letters m_failed m_hasHouse a_r a_fresh a_st a_undone a_kept m_undos m_images a_from a_begin a_motor a_change a_startFrame a_changeFrame a_lostAt a_blackAt a_slips a_leftArc a_died a_arcs m_bestSum m_nearest m_nearestTown a_there a_backAt a_sorted a_parts m_seed1 m_darkNow), (cAI g a_tape 900 d_tape), (cAI g a_letters 8 d_letters), (cAI g a_fresh 311 d_fresh)] [] [0, 1, 2, 3] [] (m_newNameX l g h0 z_5 m_thrown a_tape m_taped m_size m_at m_end m_token m_whole m_nameSize m_fault m_place m_trouble a_letters m_failed m_hasHouse a_r a_fresh a_st a_undone a_kept m_undos m_images a_from a_begin a_motor a_change a_startFrame a_changeFrame a_lostAt a_blackAt a_slips a_leftArc a_died a_arcs m_bestSum m_nearest m_nearestTown a_there a_backAt a_sorted a_parts m_seed1 m_darkNow d_tape d_letters d_fresh (iv_w iv_7 (zle_e rfl) (zle_e rfl)) (iv_w hv_m_size (zle_e rfl) (zle_e rfl)) (iv_w hv_m_end (zle_e rfl) (zle_e rfl)) (iv_w hv_m_nameSize (zle_e rfl) (zle_e rfl)) (iv_w iv_2 (zle_e rfl) (zle_e rfl)) hp_d_fresh hc_1) dX11_reelLine_k1.1.1.2.1 mw551 mw552 mw553 mw5 mw554 rfl 11 rfl rfl 0 _ rfl yk_yX11_newName_1 rfl (Nat.le_of_ble_eq_true rfl) (Nat.le_of_ble_eq_true rfl) (Nat.le_of_ble_eq_true rfl) (Nat.le_of_ble_eq_true rfl) (Nat.le_of_ble_eq_true rfl) rfl rfl (vnd_e rfl) rfl (vnd_e rfl) (dsj_e rfl) ?_
    intro w zq
    refine exE10 zq ?_
    clear zq
    intro m_at2_14 m_end2_15 m_failed2_16 m_fault2_17 d_fresh2_18 d_letters2_19 m_nameSize2_20 m_place2_21 m_token2_22 m_whole2_23 iv_25 zq
    refine exA7 zq ?_
    clear zq
    intro iv_26 iv_27 hp_28 hq_29 hq_30 hq_31 hk_32 zq
    subst zq
    refine k_ws [(cO11_i1r1i10r1i2r5i2r12i3r4i2 h0 m_thrown a_tape m_taped m_size m_at2_14 m_end2_15 m_token2_22 m_whole2_23 m_nameSize2_20 m_fault2_17 m_place2_21 m_trouble a_letters m_failed2_16 m_hasHouse a_r a_fresh a_st a_undone a_kept m_undos m_images a_from a_begin a_motor a_change a_startFrame a_changeFrame a_lostAt a_blackAt a_slips a_leftArc a_died a_arcs m_bestSum m_nearest m_nearestTown a_there a_backAt a_sorted a_parts m_seed1 m_darkNow), (cAI g a_tape 900 d_tape), (cAI g a_letters 8 d_letters2_19), (cAI g a_fresh 311 d_fresh2_18)] rfl ?_
    have hk_33 : K16 d_fresh d_fresh2_18 := KN.k16 hq_29 (by have := iv_7; omega)
    have ek_34 : z_5 = d_fresh2_18 (6 : Int32).toNatClampNeg := ez_5.trans (hk_33 _ (by decide)).symm
    have hT_35 : TRI d_fresh2_18 := tri_kn hr_0 hp_d_fresh hq_29 (by have := iv_7; omega) (by have := iv_7; omega)
    refine k_aload_n X dX11_reelLine_k1.1.1.2.2 1 rfl ?_
    refine k_get (ci := 11) X inlX11 rfl 16 (nlt_e rfl) dX11_reelLine_k1.1.2.1.1 mw171 0 rfl rfl ?_
    refine k_iload_n X dX11_reelLine_k1.1.2.1.2 0 rfl ?_
    refine k_aload_n X dX11_reelLine_k1.1.2.2.1 1 rfl ?_
    refine k_ldcwS (tx := "frames") X dX11_reelLine_k1.1.2.2.2 (by decide +kernel) (fun sr_36 hsr_36 => ?_)
    refine k_iconst (v := 2) X dX11_reelLine_k1.2.1.1.1 ic_2 ?_
    refine k_sipush (v := 2000) X dX11_reelLine_k1.2.1.1.2 si_2000 ?_
    refine k_callVI (n := 3) (As := [.ref sr_36, .int 2, .int 2000]) (st := [.int z_11, .ref a_fresh]) X [(cO11_i1r1i10r1i2r5i2r12i3r4i2 h0 m_thrown a_tape m_taped m_size m_at2_14 m_end2_15 m_token2_22 m_whole2_23 m_nameSize2_20 m_fault2_17 m_place2_21 m_trouble a_letters m_failed2_16 m_hasHouse a_r a_fresh a_st a_undone a_kept m_undos m_images a_from a_begin a_motor a_change a_startFrame a_changeFrame a_lostAt a_blackAt a_slips a_leftArc a_died a_arcs m_bestSum m_nearest m_nearestTown a_there a_backAt a_sorted a_parts m_seed1 m_darkNow), (cAI g a_tape 900 d_tape), (cAI g a_letters 8 d_letters2_19)] [(cAI g a_fresh 311 d_fresh2_18)] [0, 1, 2] [3] (m_afterX l g h0 sr_36 2 2000 m_thrown a_tape m_taped m_size m_at2_14 m_end2_15 m_token2_22 m_whole2_23 m_nameSize2_20 m_fault2_17 m_place2_21 m_trouble a_letters m_failed2_16 m_hasHouse a_r a_fresh a_st a_undone a_kept m_undos m_images a_from a_begin a_motor a_change a_startFrame a_changeFrame a_lostAt a_blackAt a_slips a_leftArc a_died a_arcs m_bestSum m_nearest m_nearestTown a_there a_backAt a_sorted a_parts m_seed1 m_darkNow d_tape d_letters2_19 ("frames") (iv_w hv_m_size (zle_e rfl) (zle_e rfl)) (iv_w iv_25 (zle_e rfl) (zle_e rfl)) (iv_w iv_27 (zle_e rfl) (zle_e rfl)) (iv_w iv_26 (zle_e rfl) (zle_e rfl)) hsr_36 hk_32) dX11_reelLine_k1.2.1.2.1 mw523 mw524 mw525 mw5 mw526 rfl 11 rfl rfl 0 _ rfl yk_yX11_after_3 rfl (Nat.le_of_ble_eq_true rfl) (Nat.le_of_ble_eq_true rfl) (Nat.le_of_ble_eq_true rfl) (Nat.le_of_ble_eq_true rfl) (Nat.le_of_ble_eq_true rfl) rfl rfl (vnd_e rfl) rfl (vnd_e rfl) (dsj_e rfl) ?_
    intro r_46 w zq
    refine exE9 zq ?_
    clear zq
    intro m_at2_37 m_end2_38 m_failed2_39 m_fault2_40 d_letters2_41 m_nameSize2_42 m_place2_43 m_token2_44 m_whole2_45 iv_47 zq
    refine exA6 zq ?_
    clear zq
    intro iv_48 iv_49 hq_50 hq_51 hq_52 hk_53 zq
    subst zq
    refine k_ws [(cAI g a_fresh 311 d_fresh2_18), (cO11_i1r1i10r1i2r5i2r12i3r4i2 h0 m_thrown a_tape m_taped m_size m_at2_37 m_end2_38 m_token2_44 m_whole2_45 m_nameSize2_42 m_fault2_40 m_place2_43 m_trouble a_letters m_failed2_39 m_hasHouse a_r a_fresh a_st a_undone a_kept m_undos m_images a_from a_begin a_motor a_change a_startFrame a_changeFrame a_lostAt a_blackAt a_slips a_leftArc a_died a_arcs m_bestSum m_nearest m_nearestTown a_there a_backAt a_sorted a_parts m_seed1 m_darkNow), (cAI g a_tape 900 d_tape), (cAI g a_letters 8 d_letters2_41)] rfl ?_
    have e_54 : (2 : Int32).toInt = 2 := by decide
    have e_55 : (2000 : Int32).toInt = 2000 := by decide
    have iv_56 : IV r_46 2 2000 := by have := iq_2_2_2; have := iq_2000_2000_2000; rw [IV]; omega
    refine k_iast [(cAI g a_fresh 311 (upd d_fresh2_18 (z_11 : Int32).toNatClampNeg r_46)), (cO11_i1r1i10r1i2r5i2r12i3r4i2 h0 m_thrown a_tape m_taped m_size m_at2_37 m_end2_38 m_token2_44 m_whole2_45 m_nameSize2_42 m_fault2_40 m_place2_43 m_trouble a_letters m_failed2_39 m_hasHouse a_r a_fresh a_st a_undone a_kept m_undos m_images a_from a_begin a_motor a_change a_startFrame a_changeFrame a_lostAt a_blackAt a_slips a_leftArc a_died a_arcs m_bestSum m_nearest m_nearestTown a_there a_backAt a_sorted a_parts m_seed1 m_darkNow), (cAI g a_tape 900 d_tape), (cAI g a_letters 8 d_letters2_41)] X dX11_reelLine_k1.2.1.2.2 0 rfl (iv_in iv_13 (zle_e rfl) (zle_l rfl)) rfl ?_
    have i_59 : z_11.toInt = 16 + 3 * z_5.toInt := by omega
    refine (fun hg : ∀ fa_57 : Nat → Int32, fa_57 = upd d_fresh2_18 (z_11 : Int32).toNatClampNeg r_46 → RInv fa_57 → K16 d_fresh2_18 fa_57 → Wk p l e _ s m args below meth c _ A g _ _ _ [(cAI g a_fresh 311 fa_57), (cO11_i1r1i10r1i2r5i2r12i3r4i2 h0 m_thrown a_tape m_taped m_size m_at2_37 m_end2_38 m_token2_44 m_whole2_45 m_nameSize2_42 m_fault2_40 m_place2_43 m_trouble a_letters m_failed2_39 m_hasHouse a_r a_fresh a_st a_undone a_kept m_undos m_images a_from a_begin a_motor a_change a_startFrame a_changeFrame a_lostAt a_blackAt a_slips a_leftArc a_died a_arcs m_bestSum m_nearest m_nearestTown a_there a_backAt a_sorted a_parts m_seed1 m_darkNow), (cAI g a_tape 900 d_tape), (cAI g a_letters 8 d_letters2_41)] _ _ _ => hg _ rfl (w_fr_16_3 hp_28 i_59 (iv_w iv_7 (zle_e rfl) (zle_e rfl))) (k16_u (z := z_11) (by have := iv_13; omega))) (fun fa_57 eq_61 hR_58 hk_60 => ?_)
    have ek_62 : z_5 = fa_57 (6 : Int32).toNatClampNeg := ek_34.trans (hk_60 _ (by decide)).symm
    have hT_63 : TRI fa_57 := by have := iv_13; exact tri_z (z := z_11) eq_61 hT_35 hp_28 (by omega) (by omega) (by omega) (by omega) (by omega)
    refine k_aload_n X dX11_reelLine_k1.2.2.1.1 1 rfl ?_
    refine k_get (ci := 11) X inlX11 rfl 16 (nlt_e rfl) dX11_reelLine_k1.2.2.1.2 mw171 1 rfl rfl ?_
    refine k_iload_n X dX11_reelLine_k1.2.2.2.1 0 rfl ?_
    refine k_iconst (v := 1) X dX11_reelLine_k1.2.2.2.2 ic_1 ?_
    refine k_iadd X dX11_reelLine_k2.1.1.1.1 ?_
    refine k_nm (fun z_64 ez_64 => ?_)
    have i_65 : z_64.toInt = z_11.toInt + 1 := in_add ez_64 iv_13 iq_1_1_1 (zle_e rfl) (zle_e rfl)
    have iv_66 : IV z_64 17 38 := iz1 i_65 iv_13 (zle_e rfl) (zle_e rfl)
    refine k_aload_n X dX11_reelLine_k2.1.1.1.2 1 rfl ?_
    refine k_ldcwS (tx := "first") X dX11_reelLine_k2.1.1.2.1 (by decide +kernel) (fun sr_67 hsr_67 => ?_)
    refine k_iconst (v := 0) X dX11_reelLine_k2.1.1.2.2 ic_0 ?_
    refine k_aload_n X dX11_reelLine_k2.1.2.1.1 1 rfl ?_
    refine k_get (ci := 11) X inlX11 rfl 16 (nlt_e rfl) dX11_reelLine_k2.1.2.1.2 mw171 1 rfl rfl ?_
    refine k_iload_n X dX11_reelLine_k2.1.2.2.1 0 rfl ?_
    refine k_iald X dX11_reelLine_k2.1.2.2.2 0 rfl (iv_in iv_13 (zle_e rfl) (zle_l rfl)) ?_
    refine k_nm (fun z_68 ez_68 => ?_)
    refine k_iconst (v := 1) X dX11_reelLine_k2.2.1.1.1 ic_1 ?_
    refine k_isub X dX11_reelLine_k2.2.1.1.2 ?_
    refine k_nm (fun z_69 ez_69 => ?_)
    refine k_callVI (n := 3) (As := [.ref sr_67, .int 0, .int z_69]) (st := [.int z_64, .ref a_fresh]) X [(cO11_i1r1i10r1i2r5i2r12i3r4i2 h0 m_thrown a_tape m_taped m_size m_at2_37 m_end2_38 m_token2_44 m_whole2_45 m_nameSize2_42 m_fault2_40 m_place2_43 m_trouble a_letters m_failed2_39 m_hasHouse a_r a_fresh a_st a_undone a_kept m_undos m_images a_from a_begin a_motor a_change a_startFrame a_changeFrame a_lostAt a_blackAt a_slips a_leftArc a_died a_arcs m_bestSum m_nearest m_nearestTown a_there a_backAt a_sorted a_parts m_seed1 m_darkNow), (cAI g a_tape 900 d_tape), (cAI g a_letters 8 d_letters2_41)] [(cAI g a_fresh 311 fa_57)] [1, 2, 3] [0] (m_afterX l g h0 sr_67 0 z_69 m_thrown a_tape m_taped m_size m_at2_37 m_end2_38 m_token2_44 m_whole2_45 m_nameSize2_42 m_fault2_40 m_place2_43 m_trouble a_letters m_failed2_39 m_hasHouse a_r a_fresh a_st a_undone a_kept m_undos m_images a_from a_begin a_motor a_change a_startFrame a_changeFrame a_lostAt a_blackAt a_slips a_leftArc a_died a_arcs m_bestSum m_nearest m_nearestTown a_there a_backAt a_sorted a_parts m_seed1 m_darkNow d_tape d_letters2_41 ("first") (iv_w hv_m_size (zle_e rfl) (zle_e rfl)) (iv_w iv_47 (zle_e rfl) (zle_e rfl)) (iv_w iv_49 (zle_e rfl) (zle_e rfl)) (iv_w iv_48 (zle_e rfl) (zle_e rfl)) hsr_67 hk_53) dX11_reelLine_k2.2.1.2.1 mw523 mw524 mw525 mw5 mw526 rfl 11 rfl rfl 0 _ rfl yk_yX11_after_3 rfl (Nat.le_of_ble_eq_true rfl) (Nat.le_of_ble_eq_true rfl) (Nat.le_of_ble_eq_true rfl) (Nat.le_of_ble_eq_true rfl) (Nat.le_of_ble_eq_true rfl) rfl rfl (vnd_e rfl) rfl (vnd_e rfl) (dsj_e rfl) ?_
    intro r_80 w zq
    refine exE9 zq ?_
    clear zq
    intro m_at2_71 m_end2_72 m_failed2_73 m_fault2_74 d_letters2_75 m_nameSize2_76 m_place2_77 m_token2_78 m_whole2_79 iv_81 zq
    refine exA6 zq ?_
    clear zq
    intro iv_82 iv_83 hq_84 hq_85 hq_86 hk_87 zq
    subst zq
    refine k_ws [(cAI g a_fresh 311 fa_57), (cO11_i1r1i10r1i2r5i2r12i3r4i2 h0 m_thrown a_tape m_taped m_size m_at2_71 m_end2_72 m_token2_78 m_whole2_79 m_nameSize2_76 m_fault2_74 m_place2_77 m_trouble a_letters m_failed2_73 m_hasHouse a_r a_fresh a_st a_undone a_kept m_undos m_images a_from a_begin a_motor a_change a_startFrame a_changeFrame a_lostAt a_blackAt a_slips a_leftArc a_died a_arcs m_bestSum m_nearest m_nearestTown a_there a_backAt a_sorted a_parts m_seed1 m_darkNow), (cAI g a_tape 900 d_tape), (cAI g a_letters 8 d_letters2_75)] rfl ?_
    have e_88 : (0 : Int32).toInt = 0 := by decide
    have iv_89 : IV r_80 0 2147483647 := by have := iq_0_0_0; have := (iv_any z_69); rw [IV]; omega
    refine k_iast [(cAI g a_fresh 311 (upd fa_57 (z_64 : Int32).toNatClampNeg r_80)), (cO11_i1r1i10r1i2r5i2r12i3r4i2 h0 m_thrown a_tape m_taped m_size m_at2_71 m_end2_72 m_token2_78 m_whole2_79 m_nameSize2_76 m_fault2_74 m_place2_77 m_trouble a_letters m_failed2_73 m_hasHouse a_r a_fresh a_st a_undone a_kept m_undos m_images a_from a_begin a_motor a_change a_startFrame a_changeFrame a_lostAt a_blackAt a_slips a_leftArc a_died a_arcs m_bestSum m_nearest m_nearestTown a_there a_backAt a_sorted a_parts m_seed1 m_darkNow), (cAI g a_tape 900 d_tape), (cAI g a_letters 8 d_letters2_75)] X dX11_reelLine_k2.2.1.2.2 0 rfl (iv_in iv_66 (zle_e rfl) (zle_l rfl)) rfl ?_
    have i_92 : z_64.toInt = 17 + 3 * z_5.toInt := by omega
    refine (fun hg : ∀ fa_90 : Nat → Int32, fa_90 = upd fa_57 (z_64 : Int32).toNatClampNeg r_80 → RInv fa_90 → K16 fa_57 fa_90 → Wk p l e _ s m args below meth c _ A g _ _ _ [(cAI g a_fresh 311 fa_90), (cO11_i1r1i10r1i2r5i2r12i3r4i2 h0 m_thrown a_tape m_taped m_size m_at2_71 m_end2_72 m_token2_78 m_whole2_79 m_nameSize2_76 m_fault2_74 m_place2_77 m_trouble a_letters m_failed2_73 m_hasHouse a_r a_fresh a_st a_undone a_kept m_undos m_images a_from a_begin a_motor a_change a_startFrame a_changeFrame a_lostAt a_blackAt a_slips a_leftArc a_died a_arcs m_bestSum m_nearest m_nearestTown a_there a_backAt a_sorted a_parts m_seed1 m_darkNow), (cAI g a_tape 900 d_tape), (cAI g a_letters 8 d_letters2_75)] _ _ _ => hg _ rfl (w_fr_17_3 hR_58 i_92 (iv_w iv_7 (zle_e rfl) (zle_e rfl))) (k16_u (z := z_64) (by have := iv_66; omega))) (fun fa_90 eq_94 hR_91 hk_93 => ?_)
    have ek_95 : z_5 = fa_90 (6 : Int32).toNatClampNeg := ek_62.trans (hk_93 _ (by decide)).symm
    have hT_96 : TRI fa_90 := by have := iv_66; exact tri_z (z := z_64) eq_94 hT_63 hR_58 (by omega) (by omega) (by omega) (by omega) (by omega)
    refine k_aload_n X dX11_reelLine_k2.2.2.1.1 1 rfl ?_
    refine k_get (ci := 11) X inlX11 rfl 16 (nlt_e rfl) dX11_reelLine_k2.2.2.1.2 mw171 1 rfl rfl ?_
    refine k_iload_n X dX11_reelLine_k2.2.2.2.1 0 rfl ?_
    refine k_iconst (v := 2) X dX11_reelLine_k2.2.2.2.2 ic_2 ?_
    refine k_iadd X dX11_reelLine_k3.1.1.1.1 ?_
    refine k_nm (fun z_97 ez_97 => ?_)
    have i_98 : z_97.toInt = z_11.toInt + 2 := in_add ez_97 iv_13 iq_2_2_2 (zle_e rfl) (zle_e rfl)
    have iv_99 : IV z_97 18 39 := iz1 i_98 iv_13 (zle_e rfl) (zle_e rfl)
    refine k_aload_n X dX11_reelLine_k3.1.1.1.2 1 rfl ?_
    refine k_ldcwS (tx := "whole") X dX11_reelLine_k3.1.1.2.1 (by decide +kernel) (fun sr_100 hsr_100 => ?_)
    refine k_aload_n X dX11_reelLine_k3.1.1.2.2 1 rfl ?_
    refine k_get (ci := 11) X inlX11 rfl 16 (nlt_e rfl) dX11_reelLine_k3.1.2.1.1 mw171 1 rfl rfl ?_
    refine k_iload_n X dX11_reelLine_k3.1.2.1.2 0 rfl ?_
    refine k_iald X dX11_reelLine_k3.1.2.2.1 0 rfl (iv_in iv_13 (zle_e rfl) (zle_l rfl)) ?_
    refine k_nm (fun z_101 ez_101 => ?_)
    refine k_sipush (v := 2000) X dX11_reelLine_k3.1.2.2.2 si_2000 ?_
    refine k_callVI (n := 3) (As := [.ref sr_100, .int z_101, .int 2000]) (st := [.int z_97, .ref a_fresh]) X [(cO11_i1r1i10r1i2r5i2r12i3r4i2 h0 m_thrown a_tape m_taped m_size m_at2_71 m_end2_72 m_token2_78 m_whole2_79 m_nameSize2_76 m_fault2_74 m_place2_77 m_trouble a_letters m_failed2_73 m_hasHouse a_r a_fresh a_st a_undone a_kept m_undos m_images a_from a_begin a_motor a_change a_startFrame a_changeFrame a_lostAt a_blackAt a_slips a_leftArc a_died a_arcs m_bestSum m_nearest m_nearestTown a_there a_backAt a_sorted a_parts m_seed1 m_darkNow), (cAI g a_tape 900 d_tape), (cAI g a_letters 8 d_letters2_75)] [(cAI g a_fresh 311 fa_90)] [1, 2, 3] [0] (m_afterX l g h0 sr_100 z_101 2000 m_thrown a_tape m_taped m_size m_at2_71 m_end2_72 m_token2_78 m_whole2_79 m_nameSize2_76 m_fault2_74 m_place2_77 m_trouble a_letters m_failed2_73 m_hasHouse a_r a_fresh a_st a_undone a_kept m_undos m_images a_from a_begin a_motor a_change a_startFrame a_changeFrame a_lostAt a_blackAt a_slips a_leftArc a_died a_arcs m_bestSum m_nearest m_nearestTown a_there a_backAt a_sorted a_parts m_seed1 m_darkNow d_tape d_letters2_75 ("whole") (iv_w hv_m_size (zle_e rfl) (zle_e rfl)) (iv_w iv_81 (zle_e rfl) (zle_e rfl)) (iv_w iv_83 (zle_e rfl) (zle_e rfl)) (iv_w iv_82 (zle_e rfl) (zle_e rfl)) hsr_100 hk_87) dX11_reelLine_k3.2.1.1.1 mw523 mw524 mw525 mw5 mw526 rfl 11 rfl rfl 0 _ rfl yk_yX11_after_3 rfl (Nat.le_of_ble_eq_true rfl) (Nat.le_of_ble_eq_true rfl) (Nat.le_of_ble_eq_true rfl) (Nat.le_of_ble_eq_true rfl) (Nat.le_of_ble_eq_true rfl) rfl rfl (vnd_e rfl) rfl (vnd_e rfl) (dsj_e rfl) ?_
    intro r_111 w zq
    refine exE9 zq ?_
    clear zq
    intro m_at2_102 m_end2_103 m_failed2_104 m_fault2_105 d_letters2_106 m_nameSize2_107 m_place2_108 m_token2_109 m_whole2_110 iv_112 zq
    refine exA6 zq ?_
    clear zq
    intro iv_113 iv_114 hq_115 hq_116 hq_117 hk_118 zq
    subst zq
    refine k_ws [(cAI g a_fresh 311 fa_90), (cO11_i1r1i10r1i2r5i2r12i3r4i2 h0 m_thrown a_tape m_taped m_size m_at2_102 m_end2_103 m_token2_109 m_whole2_110 m_nameSize2_107 m_fault2_105 m_place2_108 m_trouble a_letters m_failed2_104 m_hasHouse a_r a_fresh a_st a_undone a_kept m_undos m_images a_from a_begin a_motor a_change a_startFrame a_changeFrame a_lostAt a_blackAt a_slips a_leftArc a_died a_arcs m_bestSum m_nearest m_nearestTown a_there a_backAt a_sorted a_parts m_seed1 m_darkNow), (cAI g a_tape 900 d_tape), (cAI g a_letters 8 d_letters2_106)] rfl ?_
    have e_119 : (2000 : Int32).toInt = 2000 := by decide
    refine k_iast [(cAI g a_fresh 311 (upd fa_90 (z_97 : Int32).toNatClampNeg r_111)), (cO11_i1r1i10r1i2r5i2r12i3r4i2 h0 m_thrown a_tape m_taped m_size m_at2_102 m_end2_103 m_token2_109 m_whole2_110 m_nameSize2_107 m_fault2_105 m_place2_108 m_trouble a_letters m_failed2_104 m_hasHouse a_r a_fresh a_st a_undone a_kept m_undos m_images a_from a_begin a_motor a_change a_startFrame a_changeFrame a_lostAt a_blackAt a_slips a_leftArc a_died a_arcs m_bestSum m_nearest m_nearestTown a_there a_backAt a_sorted a_parts m_seed1 m_darkNow), (cAI g a_tape 900 d_tape), (cAI g a_letters 8 d_letters2_106)] X dX11_reelLine_k3.2.1.1.2 0 rfl (iv_in iv_99 (zle_e rfl) (zle_l rfl)) rfl ?_
    have i_122 : z_97.toInt = 18 + 3 * z_5.toInt := by omega
    refine (fun hg : ∀ fa_120 : Nat → Int32, fa_120 = upd fa_90 (z_97 : Int32).toNatClampNeg r_111 → RInv fa_120 → K16 fa_90 fa_120 → Wk p l e _ s m args below meth c _ A g _ _ _ [(cAI g a_fresh 311 fa_120), (cO11_i1r1i10r1i2r5i2r12i3r4i2 h0 m_thrown a_tape m_taped m_size m_at2_102 m_end2_103 m_token2_109 m_whole2_110 m_nameSize2_107 m_fault2_105 m_place2_108 m_trouble a_letters m_failed2_104 m_hasHouse a_r a_fresh a_st a_undone a_kept m_undos m_images a_from a_begin a_motor a_change a_startFrame a_changeFrame a_lostAt a_blackAt a_slips a_leftArc a_died a_arcs m_bestSum m_nearest m_nearestTown a_there a_backAt a_sorted a_parts m_seed1 m_darkNow), (cAI g a_tape 900 d_tape), (cAI g a_letters 8 d_letters2_106)] _ _ _ => hg _ rfl (w_fr_18_3 hR_91 i_122 (iv_w iv_7 (zle_e rfl) (zle_e rfl))) (k16_u (z := z_97) (by have := iv_99; omega))) (fun fa_120 eq_124 hR_121 hk_123 => ?_)
    have ek_125 : z_5 = fa_120 (6 : Int32).toNatClampNeg := ek_95.trans (hk_123 _ (by decide)).symm
    have hT_126 : TRI fa_120 := by have := iv_99; exact tri_z (z := z_97) eq_124 hT_96 hR_91 (by omega) (by omega) (by omega) (by omega) (by omega)
    refine k_aload_n X dX11_reelLine_k3.2.1.2.1 1 rfl ?_
    refine k_get (ci := 11) X inlX11 rfl 13 (nlt_e rfl) dX11_reelLine_k3.2.1.2.2 mw469 1 rfl rfl ?_
    refine k_if_ne 115 X dX11_reelLine_k3.2.2.1.1 (jp_e rfl) (fun h_127 => ?_) (fun h_127 => ?_)
    · skip
      have iv_128 : IV m_failed2_104 1 1 := iv_neL h_127 iv_113 iq_0_0_0 (zle_e rfl)
      exact k_vret X hr dX11_reelLine_k4.2.2.2 (Nat.le_of_ble_eq_true rfl) (Nat.le_of_ble_eq_true rfl) [1, 2, 3, 0] (vnd_e rfl) rfl rfl ⟨m_at2_102, m_end2_103, m_failed2_104, m_fault2_105, fa_120, d_letters2_106, m_nameSize2_107, m_place2_108, m_token2_109, m_whole2_110, (iv_w iv_112 (zle_e rfl) (zle_e rfl)), (iv_w iv_128 (zle_e rfl) (zle_e rfl)), (iv_w iv_114 (zle_e rfl) (zle_e rfl)), hR_121, (by omega), hT_126, (Or.inl ⟨h_1, ⟨z_5, ez_5, ⟨z_8, ez_8, ⟨z_11, ez_11, ⟨m_at2_14, m_end2_15, m_failed2_16, m_fault2_17, d_fresh2_18, d_letters2_19, m_nameSize2_20, m_place2_21, m_token2_22, m_whole2_23, hq_31, ⟨m_at2_37, m_end2_38, m_failed2_39, m_fault2_40, d_letters2_41, m_nameSize2_42, m_place2_43, m_token2_44, m_whole2_45, r_46, hq_52, ⟨fa_57, eq_61, ⟨z_64, ez_64, ⟨z_68, ez_68, ⟨z_69, ez_69, ⟨m_at2_71, m_end2_72, m_failed2_73, m_fault2_74, d_letters2_75, m_nameSize2_76, m_place2_77, m_token2_78, m_whole2_79, r_80, hq_86, ⟨fa_90, eq_94, ⟨z_97, ez_97, ⟨z_101, ez_101, ⟨m_at2_102, m_end2_103, m_failed2_104, m_fault2_105, d_letters2_106, m_nameSize2_107, m_place2_108, m_token2_109, m_whole2_110, r_111, hq_117, ⟨fa_120, eq_124, (Or.inl ⟨h_127, ⟨rfl, rfl, rfl, rfl, rfl, rfl, rfl, rfl, rfl, rfl⟩⟩)⟩⟩⟩⟩⟩⟩⟩⟩⟩⟩⟩⟩⟩⟩⟩⟩), hk_118, rfl⟩
    · skip
      have iv_129 : IV m_failed2_104 0 0 := iv_meet iv_113 (iv_e h_127 iq_0_0_0) (zle_o rfl) (zle_o rfl)
      refine k_aload_n X dX11_reelLine_k3.2.2.1.2 1 rfl ?_
      refine k_get (ci := 11) X inlX11 rfl 16 (nlt_e rfl) dX11_reelLine_k3.2.2.2.1 mw171 1 rfl rfl ?_
      refine k_bipush (v := 6) X dX11_reelLine_k3.2.2.2.2 bi_6 ?_
      refine k_dup2 X dX11_reelLine_k4.1.1 rfl rfl ?_
      refine k_iald X dX11_reelLine_k4.1.2.1 0 rfl (by unfold vp_in; decide) ?_
      refine k_to z_5 ek_125.symm ?_
      refine k_iconst (v := 1) X dX11_reelLine_k4.1.2.2 ic_1 ?_
      refine k_iadd X dX11_reelLine_k4.2.1 ?_
      refine k_nm (fun z_130 ez_130 => ?_)
      have i_131 : z_130.toInt = z_5.toInt + 1 := in_add ez_130 iv_7 iq_1_1_1 (zle_e rfl) (zle_e rfl)
      have iv_132 : IV z_130 1 8 := iz1 i_131 iv_7 (zle_e rfl) (zle_e rfl)
      refine k_iast [(cAI g a_fresh 311 (upd fa_120 (6 : Int32).toNatClampNeg z_130)), (cO11_i1r1i10r1i2r5i2r12i3r4i2 h0 m_thrown a_tape m_taped m_size m_at2_102 m_end2_103 m_token2_109 m_whole2_110 m_nameSize2_107 m_fault2_105 m_place2_108 m_trouble a_letters m_failed2_104 m_hasHouse a_r a_fresh a_st a_undone a_kept m_undos m_images a_from a_begin a_motor a_change a_startFrame a_changeFrame a_lostAt a_blackAt a_slips a_leftArc a_died a_arcs m_bestSum m_nearest m_nearestTown a_there a_backAt a_sorted a_parts m_seed1 m_darkNow), (cAI g a_tape 900 d_tape), (cAI g a_letters 8 d_letters2_106)] X dX11_reelLine_k4.2.2.1 0 rfl (by unfold vp_in; decide) rfl ?_
      refine (fun hg : ∀ fa_133 : Nat → Int32, fa_133 = upd fa_120 (6 : Int32).toNatClampNeg z_130 → RInv fa_133 → Wk p l e _ s m args below meth c _ A g _ _ _ [(cAI g a_fresh 311 fa_133), (cO11_i1r1i10r1i2r5i2r12i3r4i2 h0 m_thrown a_tape m_taped m_size m_at2_102 m_end2_103 m_token2_109 m_whole2_110 m_nameSize2_107 m_fault2_105 m_place2_108 m_trouble a_letters m_failed2_104 m_hasHouse a_r a_fresh a_st a_undone a_kept m_undos m_images a_from a_begin a_motor a_change a_startFrame a_changeFrame a_lostAt a_blackAt a_slips a_leftArc a_died a_arcs m_bestSum m_nearest m_nearestTown a_there a_backAt a_sorted a_parts m_seed1 m_darkNow), (cAI g a_tape 900 d_tape), (cAI g a_letters 8 d_letters2_106)] _ _ _ => hg _ rfl (w_rb_6 hR_121 (iv_w iv_132 (zle_e rfl) (zle_e rfl)))) (fun fa_133 eq_136 hR_134 => ?_)
      have hT_137 : TRI fa_133 := by rw [eq_136]; exact tri_n (z := 6) hT_126 hR_121 (by decide) (by decide) (by decide) (by decide)
      exact k_vret X hr dX11_reelLine_k4.2.2.2 (Nat.le_of_ble_eq_true rfl) (Nat.le_of_ble_eq_true rfl) [1, 2, 3, 0] (vnd_e rfl) rfl rfl ⟨m_at2_102, m_end2_103, m_failed2_104, m_fault2_105, fa_133, d_letters2_106, m_nameSize2_107, m_place2_108, m_token2_109, m_whole2_110, (iv_w iv_112 (zle_e rfl) (zle_e rfl)), (iv_w iv_129 (zle_e rfl) (zle_e rfl)), (iv_w iv_114 (zle_e rfl) (zle_e rfl)), hR_134, (by omega), hT_137, (Or.inl ⟨h_1, ⟨z_5, ez_5, ⟨z_8, ez_8, ⟨z_11, ez_11, ⟨m_at2_14, m_end2_15, m_failed2_16, m_fault2_17, d_fresh2_18, d_letters2_19, m_nameSize2_20, m_place2_21, m_token2_22, m_whole2_23, hq_31, ⟨m_at2_37, m_end2_38, m_failed2_39, m_fault2_40, d_letters2_41, m_nameSize2_42, m_place2_43, m_token2_44, m_whole2_45, r_46, hq_52, ⟨fa_57, eq_61, ⟨z_64, ez_64, ⟨z_68, ez_68, ⟨z_69, ez_69, ⟨m_at2_71, m_end2_72, m_failed2_73, m_fault2_74, d_letters2_75, m_nameSize2_76, m_place2_77, m_token2_78, m_whole2_79, r_80, hq_86, ⟨fa_90, eq_94, ⟨z_97, ez_97, ⟨z_101, ez_101, ⟨m_at2_102, m_end2_103, m_failed2_104, m_fault2_105, d_letters2_106, m_nameSize2_107, m_place2_108, m_token2_109, m_whole2_110, r_111, hq_117, ⟨fa_120, eq_124, (Or.inr ⟨h_127, ⟨z_130, ez_130, ⟨fa_133, eq_136, ⟨rfl, rfl, rfl, rfl, rfl, rfl, rfl, rfl, rfl, rfl⟩⟩⟩⟩)⟩⟩⟩⟩⟩⟩⟩⟩⟩⟩⟩⟩⟩⟩⟩⟩), hk_118, rfl⟩
  · skip
    have iv_138 : IV m_failed 1 1 := iv_neL h_1 hv_m_failed iq_0_0_0 (zle_e rfl)
    exact k_vret X hr dX11_reelLine_k0.1.1.2.2 (Nat.le_of_ble_eq_true rfl) (Nat.le_of_ble_eq_true rfl) [0, 1, 2, 3] (vnd_e rfl) rfl rfl ⟨m_at, m_end, m_failed, m_fault, d_fresh, d_letters, m_nameSize, m_place, m_token, m_whole, (iv_w hv_m_end (zle_e rfl) (zle_e rfl)), (iv_w iv_138 (zle_e rfl) (zle_e rfl)), (iv_w hv_m_nameSize (zle_e rfl) (zle_e rfl)), hp_d_fresh, (by omega), hr_0, (Or.inr ⟨h_1, ⟨rfl, rfl, rfl, rfl, rfl, rfl, rfl, rfl, rfl, rfl⟩⟩), hc_1, rfl⟩


set_option maxHeartbeats 4000000 in
set_option maxRecDepth 100000 in
theorem m_townLineX (l : Launch) (g : Gx) (h0 : Nat) (m_thrown : Int32) (a_tape : Nat) (m_taped : Int32) (m_size : Int32) (m_at : Int32) (m_end : Int32) (m_token : Int32) (m_whole : Int32) (m_nameSize : Int32) (m_fault : Int32) (m_place : Int32) (m_trouble : Int32) (a_letters : Nat) (m_failed : Int32) (m_hasHouse : Int32) (a_r : Nat) (a_fresh : Nat) (a_st : Nat) (a_undone : Nat) (a_kept : Nat) (m_undos : Int32) (m_images : Int32) (a_from : Nat) (a_begin : Nat) (a_motor : Nat) (a_change : Nat) (a_startFrame : Nat) (a_changeFrame : Nat) (a_lostAt : Nat) (a_blackAt : Nat) (a_slips : Nat) (a_leftArc : Nat) (a_died : Nat) (a_arcs : Nat) (m_bestSum : Int32) (m_nearest : Int32) (m_nearestTown : Int32) (a_there : Nat) (a_backAt : Nat) (a_sorted : Nat) (a_parts : Nat) (m_seed1 : Int32) (m_darkNow : Int32) (d_tape : Nat → Int32) (d_letters : Nat → Int32) (d_fresh : Nat → Int32) (hv_m_size : IV m_size 0 900) (hv_m_end : IV m_end 0 900) (hv_m_nameSize : IV m_nameSize 0 900) (hv_m_failed : IV m_failed 0 1) (hp_d_fresh : RInv d_fresh) (hr_0 : TRI d_fresh) (hc_0 : m_failed = 1 ∨ ((d_fresh 7).toInt ≤ 3)) (hc_1 : m_token = 2 → IV m_nameSize 0 8) : cV l g yX11_townLine cX11_townLine 1 8 173 0 0 [.ref h0] [(cO11_i1r1i10r1i2r5i2r12i3r4i2 h0 m_thrown a_tape m_taped m_size m_at m_end m_token m_whole m_nameSize m_fault m_place m_trouble a_letters m_failed m_hasHouse a_r a_fresh a_st a_undone a_kept m_undos m_images a_from a_begin a_motor a_change a_startFrame a_changeFrame a_lostAt a_blackAt a_slips a_leftArc a_died a_arcs m_bestSum m_nearest m_nearestTown a_there a_backAt a_sorted a_parts m_seed1 m_darkNow), (cAI g a_tape 900 d_tape), (cAI g a_letters 8 d_letters), (cAI g a_fresh 311 d_fresh)] (fun w => ∃ (m_at2 : Int32) (m_end2 : Int32) (m_failed2 : Int32) (m_fault2 : Int32) (d_fresh2 : Nat → Int32) (d_letters2 : Nat → Int32) (m_nameSize2 : Int32) (m_place2 : Int32) (m_token2 : Int32) (m_whole2 : Int32), IV m_end2 0 900 ∧ IV m_failed2 0 1 ∧ IV m_nameSize2 0 900 ∧ RInv d_fresh2 ∧ (m_end.toInt ≤ m_end2.toInt) ∧ (TRI d_fresh2) ∧ (R_m_townLineX m_size m_at m_end m_token m_whole m_nameSize m_fault m_place m_failed d_tape d_letters d_fresh m_at2 m_end2 m_failed2 m_fault2 d_fresh2 d_letters2 m_nameSize2 m_place2 m_token2 m_whole2) ∧ (m_token2 = 2 → IV m_nameSize2 0 8) ∧ w = [(cO11_i1r1i10r1i2r5i2r12i3r4i2 h0 m_thrown a_tape m_taped m_size m_at2 m_end2 m_token2 m_whole2 m_nameSize2 m_fault2 m_place2 m_trouble a_letters m_failed2 m_hasHouse a_r a_fresh a_st a_undone a_kept m_undos m_images a_from a_begin a_motor a_change a_startFrame a_changeFrame a_lostAt a_blackAt a_slips a_leftArc a_died a_arcs m_bestSum m_nearest m_nearestTown a_there a_backAt a_sorted a_parts m_seed1 m_darkNow), (cAI g a_tape 900 d_tape), (cAI g a_letters 8 d_letters2), (cAI g a_fresh 311 d_fresh2)]) := by
  refine cV.of (by decide) (Nat.le_of_ble_eq_true rfl) ?_
  intro p e s m args below meth c A X hr hi
  refine k_lveq [(0, .ref h0)] rfl ?_
  refine k_aload_n X dX11_townLine_k0.1.1.1.1 0 rfl ?_
  refine k_get (ci := 11) X inlX11 rfl 13 (nlt_e rfl) dX11_townLine_k0.1.1.1.2 mw469 0 rfl rfl ?_
  refine k_if_eq 8 X dX11_townLine_k0.1.1.2.1 (jp_e rfl) (fun h_1 => ?_) (fun h_1 => ?_)
  · skip
    have iv_2 : IV m_failed 0 0 := iv_meet hv_m_failed (iv_e h_1 iq_0_0_0) (zle_o rfl) (zle_o rfl)
    have hc_3 := hc_0.resolve_left (fun q => iv_eqN q iv_2 iq_1_1_1 (by decide))
    have j_4 : (d_fresh 7).toInt ≤ 3 := hc_3
    refine k_aload_n X dX11_townLine_k0.1.2.1.1 0 rfl ?_
    refine k_bipush (v := 8) X dX11_townLine_k0.1.2.1.2 bi_8 ?_
    refine k_aload_n X dX11_townLine_k0.1.2.2.1 0 rfl ?_
    refine k_get (ci := 11) X inlX11 rfl 16 (nlt_e rfl) dX11_townLine_k0.1.2.2.2 mw171 0 rfl rfl ?_
    refine k_bipush (v := 7) X dX11_townLine_k0.2.1.1.1 bi_7 ?_
    refine k_iald X dX11_townLine_k0.2.1.1.2 3 rfl (by unfold vp_in; decide) ?_
    refine k_nm (fun z_5 ez_5 => ?_)
    have i_6 : z_5.toInt = (d_fresh 7).toInt := by rw [ez_5]; rfl
    have iv_7 : IV z_5 0 3 := by have := rb_7 ez_5 hp_d_fresh; rw [IV]; omega
    refine k_iadd X dX11_townLine_k0.2.1.2.1 ?_
    refine k_nm (fun z_8 ez_8 => ?_)
    have i_9 : z_8.toInt = 8 + z_5.toInt := in_add ez_8 iq_8_8_8 iv_7 (zle_e rfl) (zle_e rfl)
    have iv_10 : IV z_8 8 11 := iz2 i_9 iv_7 (zle_e rfl) (zle_e rfl)
    refine k_callVV (n := 1) (As := [.int z_8]) (st := []) X [(cO11_i1r1i10r1i2r5i2r12i3r4i2 h0 m_thrown a_tape m_taped m_size m_at m_end m_token m_whole m_nameSize m_fault m_place m_trouble a_letters m_failed m_hasHouse a_r a_fresh a_st a_undone a_kept m_undos m_images a_from a_begin a_motor a_change a_startFrame a_changeFrame a_lostAt a_blackAt a_slips a_leftArc a_died a_arcs m_bestSum m_nearest m_nearestTown a_there a_backAt a_sorted a_parts m_seed1 m_darkNow), (cAI g a_tape 900 d_tape), (cAI g a_letters 8 d_letters), (cAI g a_fresh 311 d_fresh)] [] [0, 1, 2, 3] [] (m_newNameX l g h0 z_8 m_thrown a_tape m_taped m_size m_at m_end m_token m_whole m_nameSize m_fault m_place m_trouble a_letters m_failed m_hasHouse a_r a_fresh a_st a_undone a_kept m_undos m_images a_from a_begin a_motor a_change a_startFrame a_changeFrame a_lostAt a_blackAt a_slips a_leftArc a_died a_arcs m_bestSum m_nearest m_nearestTown a_there a_backAt a_sorted a_parts m_seed1 m_darkNow d_tape d_letters d_fresh (iv_w iv_10 (zle_e rfl) (zle_e rfl)) (iv_w hv_m_size (zle_e rfl) (zle_e rfl)) (iv_w hv_m_end (zle_e rfl) (zle_e rfl)) (iv_w hv_m_nameSize (zle_e rfl) (zle_e rfl)) (iv_w iv_2 (zle_e rfl) (zle_e rfl)) hp_d_fresh hc_1) dX11_townLine_k0.2.1.2.2 mw551 mw552 mw553 mw5 mw554 rfl 11 rfl rfl 0 _ rfl yk_yX11_newName_1 rfl (Nat.le_of_ble_eq_true rfl) (Nat.le_of_ble_eq_true rfl) (Nat.le_of_ble_eq_true rfl) (Nat.le_of_ble_eq_true rfl) (Nat.le_of_ble_eq_true rfl) rfl rfl (vnd_e rfl) rfl (vnd_e rfl) (dsj_e rfl) ?_
    intro w zq
    refine exE10 zq ?_
    clear zq
    intro m_at2_11 m_end2_12 m_failed2_13 m_fault2_14 d_fresh2_15 d_letters2_16 m_nameSize2_17 m_place2_18 m_token2_19 m_whole2_20 iv_22 zq
    refine exA7 zq ?_
    clear zq
    intro iv_23 iv_24 hp_25 hq_26 hq_27 hq_28 hk_29 zq
    subst zq
    refine k_ws [(cO11_i1r1i10r1i2r5i2r12i3r4i2 h0 m_thrown a_tape m_taped m_size m_at2_11 m_end2_12 m_token2_19 m_whole2_20 m_nameSize2_17 m_fault2_14 m_place2_18 m_trouble a_letters m_failed2_13 m_hasHouse a_r a_fresh a_st a_undone a_kept m_undos m_images a_from a_begin a_motor a_change a_startFrame a_changeFrame a_lostAt a_blackAt a_slips a_leftArc a_died a_arcs m_bestSum m_nearest m_nearestTown a_there a_backAt a_sorted a_parts m_seed1 m_darkNow), (cAI g a_tape 900 d_tape), (cAI g a_letters 8 d_letters2_16), (cAI g a_fresh 311 d_fresh2_15)] rfl ?_
    have hk_30 : K16 d_fresh d_fresh2_15 := KN.k16 hq_26 (by have := iv_10; omega)
    have ek_31 : z_5 = d_fresh2_15 (7 : Int32).toNatClampNeg := ez_5.trans (hk_30 _ (by decide)).symm
    refine k_aload_n X dX11_townLine_k0.2.2.1.1 0 rfl ?_
    refine k_get (ci := 11) X inlX11 rfl 16 (nlt_e rfl) dX11_townLine_k0.2.2.1.2 mw171 0 rfl rfl ?_
    refine k_bipush (v := 40) X dX11_townLine_k0.2.2.2.1 bi_40 ?_
    refine k_aload_n X dX11_townLine_k0.2.2.2.2 0 rfl ?_
    refine k_get (ci := 11) X inlX11 rfl 16 (nlt_e rfl) dX11_townLine_k1.1.1.1.1 mw171 0 rfl rfl ?_
    refine k_bipush (v := 7) X dX11_townLine_k1.1.1.1.2 bi_7 ?_
    refine k_iald X dX11_townLine_k1.1.1.2.1 3 rfl (by unfold vp_in; decide) ?_
    refine k_to z_5 ek_31.symm ?_
    refine k_iadd X dX11_townLine_k1.1.1.2.2 ?_
    refine k_nm (fun z_32 ez_32 => ?_)
    have i_33 : z_32.toInt = 40 + z_5.toInt := in_add ez_32 iq_40_40_40 iv_7 (zle_e rfl) (zle_e rfl)
    have iv_34 : IV z_32 40 43 := iz2 i_33 iv_7 (zle_e rfl) (zle_e rfl)
    refine k_aload_n X dX11_townLine_k1.1.2.1.1 0 rfl ?_
    refine k_ldcwS (tx := "trust") X dX11_townLine_k1.1.2.1.2 (by decide +kernel) (fun sr_35 hsr_35 => ?_)
    refine k_iconst (v := 1) X dX11_townLine_k1.1.2.2.1 ic_1 ?_
    refine k_bipush (v := 9) X dX11_townLine_k1.1.2.2.2 bi_9 ?_
    refine k_callVI (n := 3) (As := [.ref sr_35, .int 1, .int 9]) (st := [.int z_32, .ref a_fresh]) X [(cO11_i1r1i10r1i2r5i2r12i3r4i2 h0 m_thrown a_tape m_taped m_size m_at2_11 m_end2_12 m_token2_19 m_whole2_20 m_nameSize2_17 m_fault2_14 m_place2_18 m_trouble a_letters m_failed2_13 m_hasHouse a_r a_fresh a_st a_undone a_kept m_undos m_images a_from a_begin a_motor a_change a_startFrame a_changeFrame a_lostAt a_blackAt a_slips a_leftArc a_died a_arcs m_bestSum m_nearest m_nearestTown a_there a_backAt a_sorted a_parts m_seed1 m_darkNow), (cAI g a_tape 900 d_tape), (cAI g a_letters 8 d_letters2_16)] [(cAI g a_fresh 311 d_fresh2_15)] [0, 1, 2] [3] (m_afterX l g h0 sr_35 1 9 m_thrown a_tape m_taped m_size m_at2_11 m_end2_12 m_token2_19 m_whole2_20 m_nameSize2_17 m_fault2_14 m_place2_18 m_trouble a_letters m_failed2_13 m_hasHouse a_r a_fresh a_st a_undone a_kept m_undos m_images a_from a_begin a_motor a_change a_startFrame a_changeFrame a_lostAt a_blackAt a_slips a_leftArc a_died a_arcs m_bestSum m_nearest m_nearestTown a_there a_backAt a_sorted a_parts m_seed1 m_darkNow d_tape d_letters2_16 ("trust") (iv_w hv_m_size (zle_e rfl) (zle_e rfl)) (iv_w iv_22 (zle_e rfl) (zle_e rfl)) (iv_w iv_24 (zle_e rfl) (zle_e rfl)) (iv_w iv_23 (zle_e rfl) (zle_e rfl)) hsr_35 hk_29) dX11_townLine_k1.2.1.1.1 mw523 mw524 mw525 mw5 mw526 rfl 11 rfl rfl 0 _ rfl yk_yX11_after_3 rfl (Nat.le_of_ble_eq_true rfl) (Nat.le_of_ble_eq_true rfl) (Nat.le_of_ble_eq_true rfl) (Nat.le_of_ble_eq_true rfl) (Nat.le_of_ble_eq_true rfl) rfl rfl (vnd_e rfl) rfl (vnd_e rfl) (dsj_e rfl) ?_
    intro r_45 w zq
    refine exE9 zq ?_
    clear zq
    intro m_at2_36 m_end2_37 m_failed2_38 m_fault2_39 d_letters2_40 m_nameSize2_41 m_place2_42 m_token2_43 m_whole2_44 iv_46 zq
    refine exA6 zq ?_
    clear zq
    intro iv_47 iv_48 hq_49 hq_50 hq_51 hk_52 zq
    subst zq
    refine k_ws [(cAI g a_fresh 311 d_fresh2_15), (cO11_i1r1i10r1i2r5i2r12i3r4i2 h0 m_thrown a_tape m_taped m_size m_at2_36 m_end2_37 m_token2_43 m_whole2_44 m_nameSize2_41 m_fault2_39 m_place2_42 m_trouble a_letters m_failed2_38 m_hasHouse a_r a_fresh a_st a_undone a_kept m_undos m_images a_from a_begin a_motor a_change a_startFrame a_changeFrame a_lostAt a_blackAt a_slips a_leftArc a_died a_arcs m_bestSum m_nearest m_nearestTown a_there a_backAt a_sorted a_parts m_seed1 m_darkNow), (cAI g a_tape 900 d_tape), (cAI g a_letters 8 d_letters2_40)] rfl ?_
    have e_53 : (1 : Int32).toInt = 1 := by decide
    have e_54 : (9 : Int32).toInt = 9 := by decide
    have iv_55 : IV r_45 1 9 := by have := iq_1_1_1; have := iq_9_9_9; rw [IV]; omega
    refine k_iast [(cAI g a_fresh 311 (upd d_fresh2_15 (z_32 : Int32).toNatClampNeg r_45)), (cO11_i1r1i10r1i2r5i2r12i3r4i2 h0 m_thrown a_tape m_taped m_size m_at2_36 m_end2_37 m_token2_43 m_whole2_44 m_nameSize2_41 m_fault2_39 m_place2_42 m_trouble a_letters m_failed2_38 m_hasHouse a_r a_fresh a_st a_undone a_kept m_undos m_images a_from a_begin a_motor a_change a_startFrame a_changeFrame a_lostAt a_blackAt a_slips a_leftArc a_died a_arcs m_bestSum m_nearest m_nearestTown a_there a_backAt a_sorted a_parts m_seed1 m_darkNow), (cAI g a_tape 900 d_tape), (cAI g a_letters 8 d_letters2_40)] X dX11_townLine_k1.2.1.1.2 0 rfl (iv_in iv_34 (zle_e rfl) (zle_l rfl)) rfl ?_
    have i_58 : z_32.toInt = 40 + 1 * z_5.toInt := by omega
    refine (fun hg : ∀ fa_56 : Nat → Int32, fa_56 = upd d_fresh2_15 (z_32 : Int32).toNatClampNeg r_45 → RInv fa_56 → K16 d_fresh2_15 fa_56 → Wk p l e _ s m args below meth c _ A g _ _ _ [(cAI g a_fresh 311 fa_56), (cO11_i1r1i10r1i2r5i2r12i3r4i2 h0 m_thrown a_tape m_taped m_size m_at2_36 m_end2_37 m_token2_43 m_whole2_44 m_nameSize2_41 m_fault2_39 m_place2_42 m_trouble a_letters m_failed2_38 m_hasHouse a_r a_fresh a_st a_undone a_kept m_undos m_images a_from a_begin a_motor a_change a_startFrame a_changeFrame a_lostAt a_blackAt a_slips a_leftArc a_died a_arcs m_bestSum m_nearest m_nearestTown a_there a_backAt a_sorted a_parts m_seed1 m_darkNow), (cAI g a_tape 900 d_tape), (cAI g a_letters 8 d_letters2_40)] _ _ _ => hg _ rfl (w_rb_40_1 hp_25 i_58 (iv_w iv_7 (zle_e rfl) (zle_e rfl)) (iv_w iv_55 (zle_e rfl) (zle_e rfl))) (k16_u (z := z_32) (by have := iv_34; omega))) (fun fa_56 eq_60 hR_57 hk_59 => ?_)
    have ek_61 : z_5 = fa_56 (7 : Int32).toNatClampNeg := ek_31.trans (hk_59 _ (by decide)).symm
    have hT_62 : TRI fa_56 := tri_town (v := z_5) (z := z_32) hr_0 hp_d_fresh hq_26 eq_60 (by omega) (iv_w iv_7 (zle_e rfl) (zle_e rfl)) (by omega) (iv_w iv_55 (zle_e rfl) (zle_e rfl))
    refine k_aload_n X dX11_townLine_k1.2.1.2.1 0 rfl ?_
    refine k_get (ci := 11) X inlX11 rfl 13 (nlt_e rfl) dX11_townLine_k1.2.1.2.2 mw469 1 rfl rfl ?_
    refine k_if_ne 65 X dX11_townLine_k1.2.2.1.1 (jp_e rfl) (fun h_63 => ?_) (fun h_63 => ?_)
    · skip
      have iv_64 : IV m_failed2_38 1 1 := iv_neL h_63 iv_47 iq_0_0_0 (zle_e rfl)
      exact k_vret X hr dX11_townLine_k2.2.2.2 (Nat.le_of_ble_eq_true rfl) (Nat.le_of_ble_eq_true rfl) [1, 2, 3, 0] (vnd_e rfl) rfl rfl ⟨m_at2_36, m_end2_37, m_failed2_38, m_fault2_39, fa_56, d_letters2_40, m_nameSize2_41, m_place2_42, m_token2_43, m_whole2_44, (iv_w iv_46 (zle_e rfl) (zle_e rfl)), (iv_w iv_64 (zle_e rfl) (zle_e rfl)), (iv_w iv_48 (zle_e rfl) (zle_e rfl)), hR_57, (by omega), hT_62, (Or.inl ⟨h_1, ⟨z_5, ez_5, ⟨z_8, ez_8, ⟨m_at2_11, m_end2_12, m_failed2_13, m_fault2_14, d_fresh2_15, d_letters2_16, m_nameSize2_17, m_place2_18, m_token2_19, m_whole2_20, hq_28, ⟨z_32, ez_32, ⟨m_at2_36, m_end2_37, m_failed2_38, m_fault2_39, d_letters2_40, m_nameSize2_41, m_place2_42, m_token2_43, m_whole2_44, r_45, hq_51, ⟨fa_56, eq_60, (Or.inl ⟨h_63, ⟨rfl, rfl, rfl, rfl, rfl, rfl, rfl, rfl, rfl, rfl⟩⟩)⟩⟩⟩⟩⟩⟩⟩), hk_52, rfl⟩
    · skip
      have iv_65 : IV m_failed2_38 0 0 := iv_meet iv_47 (iv_e h_63 iq_0_0_0) (zle_o rfl) (zle_o rfl)
      refine k_aload_n X dX11_townLine_k1.2.2.1.2 0 rfl ?_
      refine k_get (ci := 11) X inlX11 rfl 16 (nlt_e rfl) dX11_townLine_k1.2.2.2.1 mw171 1 rfl rfl ?_
      refine k_bipush (v := 7) X dX11_townLine_k1.2.2.2.2 bi_7 ?_
      refine k_dup2 X dX11_townLine_k2.1.1 rfl rfl ?_
      refine k_iald X dX11_townLine_k2.1.2.1 0 rfl (by unfold vp_in; decide) ?_
      refine k_to z_5 ek_61.symm ?_
      refine k_iconst (v := 1) X dX11_townLine_k2.1.2.2 ic_1 ?_
      refine k_iadd X dX11_townLine_k2.2.1 ?_
      refine k_nm (fun z_66 ez_66 => ?_)
      have i_67 : z_66.toInt = z_5.toInt + 1 := in_add ez_66 iv_7 iq_1_1_1 (zle_e rfl) (zle_e rfl)
      have iv_68 : IV z_66 1 4 := iz1 i_67 iv_7 (zle_e rfl) (zle_e rfl)
      refine k_iast [(cAI g a_fresh 311 (upd fa_56 (7 : Int32).toNatClampNeg z_66)), (cO11_i1r1i10r1i2r5i2r12i3r4i2 h0 m_thrown a_tape m_taped m_size m_at2_36 m_end2_37 m_token2_43 m_whole2_44 m_nameSize2_41 m_fault2_39 m_place2_42 m_trouble a_letters m_failed2_38 m_hasHouse a_r a_fresh a_st a_undone a_kept m_undos m_images a_from a_begin a_motor a_change a_startFrame a_changeFrame a_lostAt a_blackAt a_slips a_leftArc a_died a_arcs m_bestSum m_nearest m_nearestTown a_there a_backAt a_sorted a_parts m_seed1 m_darkNow), (cAI g a_tape 900 d_tape), (cAI g a_letters 8 d_letters2_40)] X dX11_townLine_k2.2.2.1 0 rfl (by unfold vp_in; decide) rfl ?_
      refine (fun hg : ∀ fa_69 : Nat → Int32, fa_69 = upd fa_56 (7 : Int32).toNatClampNeg z_66 → RInv fa_69 → Wk p l e _ s m args below meth c _ A g _ _ _ [(cAI g a_fresh 311 fa_69), (cO11_i1r1i10r1i2r5i2r12i3r4i2 h0 m_thrown a_tape m_taped m_size m_at2_36 m_end2_37 m_token2_43 m_whole2_44 m_nameSize2_41 m_fault2_39 m_place2_42 m_trouble a_letters m_failed2_38 m_hasHouse a_r a_fresh a_st a_undone a_kept m_undos m_images a_from a_begin a_motor a_change a_startFrame a_changeFrame a_lostAt a_blackAt a_slips a_leftArc a_died a_arcs m_bestSum m_nearest m_nearestTown a_there a_backAt a_sorted a_parts m_seed1 m_darkNow), (cAI g a_tape 900 d_tape), (cAI g a_letters 8 d_letters2_40)] _ _ _ => hg _ rfl (w_rb_7 hR_57 (iv_w iv_68 (zle_e rfl) (zle_e rfl)))) (fun fa_69 eq_72 hR_70 => ?_)
      have hT_73 : TRI fa_69 := by rw [eq_72]; exact tri_n (z := 7) hT_62 hR_57 (by decide) (by decide) (by decide) (by decide)
      exact k_vret X hr dX11_townLine_k2.2.2.2 (Nat.le_of_ble_eq_true rfl) (Nat.le_of_ble_eq_true rfl) [1, 2, 3, 0] (vnd_e rfl) rfl rfl ⟨m_at2_36, m_end2_37, m_failed2_38, m_fault2_39, fa_69, d_letters2_40, m_nameSize2_41, m_place2_42, m_token2_43, m_whole2_44, (iv_w iv_46 (zle_e rfl) (zle_e rfl)), (iv_w iv_65 (zle_e rfl) (zle_e rfl)), (iv_w iv_48 (zle_e rfl) (zle_e rfl)), hR_70, (by omega), hT_73, (Or.inl ⟨h_1, ⟨z_5, ez_5, ⟨z_8, ez_8, ⟨m_at2_11, m_end2_12, m_failed2_13, m_fault2_14, d_fresh2_15, d_letters2_16, m_nameSize2_17, m_place2_18, m_token2_19, m_whole2_20, hq_28, ⟨z_32, ez_32, ⟨m_at2_36, m_end2_37, m_failed2_38, m_fault2_39, d_letters2_40, m_nameSize2_41, m_place2_42, m_token2_43, m_whole2_44, r_45, hq_51, ⟨fa_56, eq_60, (Or.inr ⟨h_63, ⟨z_66, ez_66, ⟨fa_69, eq_72, ⟨rfl, rfl, rfl, rfl, rfl, rfl, rfl, rfl, rfl, rfl⟩⟩⟩⟩)⟩⟩⟩⟩⟩⟩⟩), hk_52, rfl⟩
  · skip
    have iv_74 : IV m_failed 1 1 := iv_neL h_1 hv_m_failed iq_0_0_0 (zle_e rfl)
    exact k_vret X hr dX11_townLine_k0.1.1.2.2 (Nat.le_of_ble_eq_true rfl) (Nat.le_of_ble_eq_true rfl) [0, 1, 2, 3] (vnd_e rfl) rfl rfl ⟨m_at, m_end, m_failed, m_fault, d_fresh, d_letters, m_nameSize, m_place, m_token, m_whole, (iv_w hv_m_end (zle_e rfl) (zle_e rfl)), (iv_w iv_74 (zle_e rfl) (zle_e rfl)), (iv_w hv_m_nameSize (zle_e rfl) (zle_e rfl)), hp_d_fresh, (by omega), hr_0, (Or.inr ⟨h_1, ⟨rfl, rfl, rfl, rfl, rfl, rfl, rfl, rfl, rfl, rfl⟩⟩), hc_1, rfl⟩


set_option maxHeartbeats 4000000 in
set_option maxRecDepth 100000 in
theorem m_markLineX (l : Launch) (g : Gx) (h0 : Nat) (m_thrown : Int32) (a_tape : Nat) (m_taped : Int32) (m_size : Int32) (m_at : Int32) (m_end : Int32) (m_token : Int32) (m_whole : Int32) (m_nameSize : Int32) (m_fault : Int32) (m_place : Int32) (m_trouble : Int32) (a_letters : Nat) (m_failed : Int32) (m_hasHouse : Int32) (a_r : Nat) (a_fresh : Nat) (a_st : Nat) (a_undone : Nat) (a_kept : Nat) (m_undos : Int32) (m_images : Int32) (a_from : Nat) (a_begin : Nat) (a_motor : Nat) (a_change : Nat) (a_startFrame : Nat) (a_changeFrame : Nat) (a_lostAt : Nat) (a_blackAt : Nat) (a_slips : Nat) (a_leftArc : Nat) (a_died : Nat) (a_arcs : Nat) (m_bestSum : Int32) (m_nearest : Int32) (m_nearestTown : Int32) (a_there : Nat) (a_backAt : Nat) (a_sorted : Nat) (a_parts : Nat) (m_seed1 : Int32) (m_darkNow : Int32) (d_tape : Nat → Int32) (d_letters : Nat → Int32) (d_fresh : Nat → Int32) (hv_m_size : IV m_size 0 900) (hv_m_end : IV m_end 0 900) (hv_m_nameSize : IV m_nameSize 0 900) (hv_m_failed : IV m_failed 0 1) (hp_d_fresh : RInv d_fresh) (hr_0 : TRI d_fresh) (hc_0 : m_failed = 1 ∨ ((d_fresh 8).toInt ≤ 11)) (hc_1 : m_token = 2 → IV m_nameSize 0 8) : cV l g yX11_markLine cX11_markLine 6 8 173 0 0 [.ref h0] [(cO11_i1r1i10r1i2r5i2r12i3r4i2 h0 m_thrown a_tape m_taped m_size m_at m_end m_token m_whole m_nameSize m_fault m_place m_trouble a_letters m_failed m_hasHouse a_r a_fresh a_st a_undone a_kept m_undos m_images a_from a_begin a_motor a_change a_startFrame a_changeFrame a_lostAt a_blackAt a_slips a_leftArc a_died a_arcs m_bestSum m_nearest m_nearestTown a_there a_backAt a_sorted a_parts m_seed1 m_darkNow), (cAI g a_tape 900 d_tape), (cAI g a_letters 8 d_letters), (cAI g a_fresh 311 d_fresh)] (fun w => ∃ (m_at2 : Int32) (m_end2 : Int32) (m_failed2 : Int32) (m_fault2 : Int32) (d_fresh2 : Nat → Int32) (d_letters2 : Nat → Int32) (m_nameSize2 : Int32) (m_place2 : Int32) (m_token2 : Int32) (m_whole2 : Int32), IV m_end2 0 900 ∧ IV m_failed2 0 1 ∧ IV m_nameSize2 0 900 ∧ RInv d_fresh2 ∧ (m_end.toInt ≤ m_end2.toInt) ∧ (TRI d_fresh2) ∧ (R_m_markLineX m_size m_at m_end m_token m_whole m_nameSize m_fault m_place m_failed d_tape d_letters d_fresh m_at2 m_end2 m_failed2 m_fault2 d_fresh2 d_letters2 m_nameSize2 m_place2 m_token2 m_whole2) ∧ (m_token2 = 2 → IV m_nameSize2 0 8) ∧ w = [(cO11_i1r1i10r1i2r5i2r12i3r4i2 h0 m_thrown a_tape m_taped m_size m_at2 m_end2 m_token2 m_whole2 m_nameSize2 m_fault2 m_place2 m_trouble a_letters m_failed2 m_hasHouse a_r a_fresh a_st a_undone a_kept m_undos m_images a_from a_begin a_motor a_change a_startFrame a_changeFrame a_lostAt a_blackAt a_slips a_leftArc a_died a_arcs m_bestSum m_nearest m_nearestTown a_there a_backAt a_sorted a_parts m_seed1 m_darkNow), (cAI g a_tape 900 d_tape), (cAI g a_letters 8 d_letters2), (cAI g a_fresh 311 d_fresh2)]) := by
  refine cV.of (by decide) (Nat.le_of_ble_eq_true rfl) ?_
  intro p e s m args below meth c A X hr hi
  refine k_lveq [(0, .ref h0)] rfl ?_
  refine k_aload_n X dX11_markLine_k0.1.1.1.1 0 rfl ?_
  refine k_get (ci := 11) X inlX11 rfl 13 (nlt_e rfl) dX11_markLine_k0.1.1.1.2 mw469 0 rfl rfl ?_
  refine k_if_eq 8 X dX11_markLine_k0.1.1.2.1 (jp_e rfl) (fun h_1 => ?_) (fun h_1 => ?_)
  · skip
    have iv_2 : IV m_failed 0 0 := iv_meet hv_m_failed (iv_e h_1 iq_0_0_0) (zle_o rfl) (zle_o rfl)
    have hc_3 := hc_0.resolve_left (fun q => iv_eqN q iv_2 iq_1_1_1 (by decide))
    have j_4 : (d_fresh 8).toInt ≤ 11 := hc_3
    refine k_bipush (v := 44) X dX11_markLine_k0.1.2.1.1 bi_44 ?_
    refine k_iconst (v := 3) X dX11_markLine_k0.1.2.1.2 ic_3 ?_
    refine k_aload_n X dX11_markLine_k0.1.2.2.1 0 rfl ?_
    refine k_get (ci := 11) X inlX11 rfl 16 (nlt_e rfl) dX11_markLine_k0.1.2.2.2 mw171 0 rfl rfl ?_
    refine k_bipush (v := 8) X dX11_markLine_k0.2.1.1.1 bi_8 ?_
    refine k_iald X dX11_markLine_k0.2.1.1.2 3 rfl (by unfold vp_in; decide) ?_
    refine k_nm (fun z_5 ez_5 => ?_)
    have i_6 : z_5.toInt = (d_fresh 8).toInt := by rw [ez_5]; rfl
    have iv_7 : IV z_5 0 11 := by have := rb_8 ez_5 hp_d_fresh; rw [IV]; omega
    refine k_imul X dX11_markLine_k0.2.1.2.1 ?_
    refine k_nm (fun z_8 ez_8 => ?_)
    have i_9 : z_8.toInt = 3 * z_5.toInt := in_mul ez_8 (by decide) (zle_e rfl) iv_7 (zle_e rfl) (zle_e rfl)
    have iv_10 : IV z_8 0 33 := iz4 i_9 iv_7 (zle_e rfl) (zle_e rfl) (zle_e rfl)
    refine k_iadd X dX11_markLine_k0.2.1.2.2 ?_
    refine k_nm (fun z_11 ez_11 => ?_)
    have i_12 : z_11.toInt = 44 + z_8.toInt := in_add ez_11 iq_44_44_44 iv_10 (zle_e rfl) (zle_e rfl)
    have iv_13 : IV z_11 44 77 := iz2 i_12 iv_10 (zle_e rfl) (zle_e rfl)
    refine k_istore_n [(1, .int z_11), (0, .ref h0)] X dX11_markLine_k0.2.2.1.1 (nlt_e rfl) rfl ?_
    refine k_aload_n X dX11_markLine_k0.2.2.1.2 1 rfl ?_
    refine k_callVI (n := 0) (As := []) (st := []) X [(cO11_i1r1i10r1i2r5i2r12i3r4i2 h0 m_thrown a_tape m_taped m_size m_at m_end m_token m_whole m_nameSize m_fault m_place m_trouble a_letters m_failed m_hasHouse a_r a_fresh a_st a_undone a_kept m_undos m_images a_from a_begin a_motor a_change a_startFrame a_changeFrame a_lostAt a_blackAt a_slips a_leftArc a_died a_arcs m_bestSum m_nearest m_nearestTown a_there a_backAt a_sorted a_parts m_seed1 m_darkNow), (cAI g a_tape 900 d_tape), (cAI g a_letters 8 d_letters), (cAI g a_fresh 311 d_fresh)] [] [0, 1, 2, 3] [] (m_reelPassedX l g h0 m_thrown a_tape m_taped m_size m_at m_end m_token m_whole m_nameSize m_fault m_place m_trouble a_letters m_failed m_hasHouse a_r a_fresh a_st a_undone a_kept m_undos m_images a_from a_begin a_motor a_change a_startFrame a_changeFrame a_lostAt a_blackAt a_slips a_leftArc a_died a_arcs m_bestSum m_nearest m_nearestTown a_there a_backAt a_sorted a_parts m_seed1 m_darkNow d_tape d_letters d_fresh (iv_w hv_m_size (zle_e rfl) (zle_e rfl)) (iv_w hv_m_end (zle_e rfl) (zle_e rfl)) (iv_w hv_m_nameSize (zle_e rfl) (zle_e rfl)) (iv_w iv_2 (zle_e rfl) (zle_e rfl)) hp_d_fresh hc_1) dX11_markLine_k0.2.2.2.1 mw571 mw572 mw573 mw5 mw574 rfl 11 rfl rfl 0 _ rfl yk_yX11_reelPassed_0 rfl (Nat.le_of_ble_eq_true rfl) (Nat.le_of_ble_eq_true rfl) (Nat.le_of_ble_eq_true rfl) (Nat.le_of_ble_eq_true rfl) (Nat.le_of_ble_eq_true rfl) rfl rfl (vnd_e rfl) rfl (vnd_e rfl) (dsj_e rfl) ?_
    intro r_23 w zq
    refine exE9 zq ?_
    clear zq
    intro m_at2_14 m_end2_15 m_failed2_16 m_fault2_17 d_letters2_18 m_nameSize2_19 m_place2_20 m_token2_21 m_whole2_22 iv_24 zq
    refine exA6 zq ?_
    clear zq
    intro iv_25 iv_26 iv_27 hq_28 hq_29 hk_30 zq
    subst zq
    refine k_ws [(cO11_i1r1i10r1i2r5i2r12i3r4i2 h0 m_thrown a_tape m_taped m_size m_at2_14 m_end2_15 m_token2_21 m_whole2_22 m_nameSize2_19 m_fault2_17 m_place2_20 m_trouble a_letters m_failed2_16 m_hasHouse a_r a_fresh a_st a_undone a_kept m_undos m_images a_from a_begin a_motor a_change a_startFrame a_changeFrame a_lostAt a_blackAt a_slips a_leftArc a_died a_arcs m_bestSum m_nearest m_nearestTown a_there a_backAt a_sorted a_parts m_seed1 m_darkNow), (cAI g a_tape 900 d_tape), (cAI g a_letters 8 d_letters2_18), (cAI g a_fresh 311 d_fresh)] rfl ?_
    refine k_istore_n [(2, .int r_23), (1, .int z_11), (0, .ref h0)] X dX11_markLine_k0.2.2.2.2 (nlt_e rfl) rfl ?_
    refine k_aload_n X dX11_markLine_k1.1.1.1.1 2 rfl ?_
    refine k_get (ci := 11) X inlX11 rfl 13 (nlt_e rfl) dX11_markLine_k1.1.1.1.2 mw469 0 rfl rfl ?_
    refine k_if_eq 37 X dX11_markLine_k1.1.1.2.1 (jp_e rfl) (fun h_31 => ?_) (fun h_31 => ?_)
    · skip
      have iv_32 : IV m_failed2_16 0 0 := iv_meet iv_25 (iv_e h_31 iq_0_0_0) (zle_o rfl) (zle_o rfl)
      refine k_aload_n X dX11_markLine_k1.1.2.1.2 2 rfl ?_
      refine k_iload_n X dX11_markLine_k1.1.2.2.1 0 rfl ?_
      refine k_callVI (n := 1) (As := [.int r_23]) (st := []) X [(cO11_i1r1i10r1i2r5i2r12i3r4i2 h0 m_thrown a_tape m_taped m_size m_at2_14 m_end2_15 m_token2_21 m_whole2_22 m_nameSize2_19 m_fault2_17 m_place2_20 m_trouble a_letters m_failed2_16 m_hasHouse a_r a_fresh a_st a_undone a_kept m_undos m_images a_from a_begin a_motor a_change a_startFrame a_changeFrame a_lostAt a_blackAt a_slips a_leftArc a_died a_arcs m_bestSum m_nearest m_nearestTown a_there a_backAt a_sorted a_parts m_seed1 m_darkNow), (cAI g a_tape 900 d_tape), (cAI g a_letters 8 d_letters2_18), (cAI g a_fresh 311 d_fresh)] [] [0, 1, 2, 3] [] (m_frameOfX l g h0 r_23 m_thrown a_tape m_taped m_size m_at2_14 m_end2_15 m_token2_21 m_whole2_22 m_nameSize2_19 m_fault2_17 m_place2_20 m_trouble a_letters m_failed2_16 m_hasHouse a_r a_fresh a_st a_undone a_kept m_undos m_images a_from a_begin a_motor a_change a_startFrame a_changeFrame a_lostAt a_blackAt a_slips a_leftArc a_died a_arcs m_bestSum m_nearest m_nearestTown a_there a_backAt a_sorted a_parts m_seed1 m_darkNow d_tape d_letters2_18 d_fresh (iv_w iv_27 (zle_e rfl) (zle_e rfl)) (iv_w hv_m_size (zle_e rfl) (zle_e rfl)) (iv_w iv_24 (zle_e rfl) (zle_e rfl)) (iv_w iv_26 (zle_e rfl) (zle_e rfl)) (iv_w iv_32 (zle_e rfl) (zle_e rfl)) hp_d_fresh hk_30) dX11_markLine_k1.1.2.2.2 mw579 mw580 mw581 mw5 mw582 rfl 11 rfl rfl 0 _ rfl yk_yX11_frameOf_1 rfl (Nat.le_of_ble_eq_true rfl) (Nat.le_of_ble_eq_true rfl) (Nat.le_of_ble_eq_true rfl) (Nat.le_of_ble_eq_true rfl) (Nat.le_of_ble_eq_true rfl) rfl rfl (vnd_e rfl) rfl (vnd_e rfl) (dsj_e rfl) ?_
      intro r_42 w zq
      refine exE9 zq ?_
      clear zq
      intro m_at2_33 m_end2_34 m_failed2_35 m_fault2_36 d_letters2_37 m_nameSize2_38 m_place2_39 m_token2_40 m_whole2_41 iv_43 zq
      refine exA5 zq ?_
      clear zq
      intro iv_44 iv_45 hq_46 hq_47 hk_48 zq
      subst zq
      refine k_ws [(cO11_i1r1i10r1i2r5i2r12i3r4i2 h0 m_thrown a_tape m_taped m_size m_at2_33 m_end2_34 m_token2_40 m_whole2_41 m_nameSize2_38 m_fault2_36 m_place2_39 m_trouble a_letters m_failed2_35 m_hasHouse a_r a_fresh a_st a_undone a_kept m_undos m_images a_from a_begin a_motor a_change a_startFrame a_changeFrame a_lostAt a_blackAt a_slips a_leftArc a_died a_arcs m_bestSum m_nearest m_nearestTown a_there a_backAt a_sorted a_parts m_seed1 m_darkNow), (cAI g a_tape 900 d_tape), (cAI g a_letters 8 d_letters2_37), (cAI g a_fresh 311 d_fresh)] rfl ?_
      refine k_istore_n [(3, .int r_42), (2, .int r_23), (1, .int z_11), (0, .ref h0)] X dX11_markLine_k1.2.1.1.1 (nlt_e rfl) rfl ?_
      refine k_aload_n X dX11_markLine_k1.2.1.1.2 3 rfl ?_
      refine k_ldcS (tx := "by") X dX11_markLine_k1.2.1.2.1 (by decide +kernel) (fun sr_49 hsr_49 => ?_)
      refine k_callVV (n := 1) (As := [.ref sr_49]) (st := []) X [(cO11_i1r1i10r1i2r5i2r12i3r4i2 h0 m_thrown a_tape m_taped m_size m_at2_33 m_end2_34 m_token2_40 m_whole2_41 m_nameSize2_38 m_fault2_36 m_place2_39 m_trouble a_letters m_failed2_35 m_hasHouse a_r a_fresh a_st a_undone a_kept m_undos m_images a_from a_begin a_motor a_change a_startFrame a_changeFrame a_lostAt a_blackAt a_slips a_leftArc a_died a_arcs m_bestSum m_nearest m_nearestTown a_there a_backAt a_sorted a_parts m_seed1 m_darkNow), (cAI g a_tape 900 d_tape), (cAI g a_letters 8 d_letters2_37)] [(cAI g a_fresh 311 d_fresh)] [0, 1, 2] [3] (m_mustX l g h0 sr_49 m_thrown a_tape m_taped m_size m_at2_33 m_end2_34 m_token2_40 m_whole2_41 m_nameSize2_38 m_fault2_36 m_place2_39 m_trouble a_letters m_failed2_35 m_hasHouse a_r a_fresh a_st a_undone a_kept m_undos m_images a_from a_begin a_motor a_change a_startFrame a_changeFrame a_lostAt a_blackAt a_slips a_leftArc a_died a_arcs m_bestSum m_nearest m_nearestTown a_there a_backAt a_sorted a_parts m_seed1 m_darkNow d_tape d_letters2_37 ("by") (iv_w hv_m_size (zle_e rfl) (zle_e rfl)) (iv_w iv_43 (zle_e rfl) (zle_e rfl)) (iv_w iv_45 (zle_e rfl) (zle_e rfl)) (iv_w iv_44 (zle_e rfl) (zle_e rfl)) hsr_49 hk_48) dX11_markLine_k1.2.1.2.2 mw527 mw528 mw529 mw5 mw530 rfl 11 rfl rfl 0 _ rfl yk_yX11_must_1 rfl (Nat.le_of_ble_eq_true rfl) (Nat.le_of_ble_eq_true rfl) (Nat.le_of_ble_eq_true rfl) (Nat.le_of_ble_eq_true rfl) (Nat.le_of_ble_eq_true rfl) rfl rfl (vnd_e rfl) rfl (vnd_e rfl) (dsj_e rfl) ?_
      intro w zq
      refine exE9 zq ?_
      clear zq
      intro m_at2_50 m_end2_51 m_failed2_52 m_fault2_53 d_letters2_54 m_nameSize2_55 m_place2_56 m_token2_57 m_whole2_58 iv_60 zq
      refine exA5 zq ?_
      clear zq
      intro iv_61 iv_62 hq_63 hq_64 hk_65 zq
      subst zq
      refine k_ws [(cAI g a_fresh 311 d_fresh), (cO11_i1r1i10r1i2r5i2r12i3r4i2 h0 m_thrown a_tape m_taped m_size m_at2_50 m_end2_51 m_token2_57 m_whole2_58 m_nameSize2_55 m_fault2_53 m_place2_56 m_trouble a_letters m_failed2_52 m_hasHouse a_r a_fresh a_st a_undone a_kept m_undos m_images a_from a_begin a_motor a_change a_startFrame a_changeFrame a_lostAt a_blackAt a_slips a_leftArc a_died a_arcs m_bestSum m_nearest m_nearestTown a_there a_backAt a_sorted a_parts m_seed1 m_darkNow), (cAI g a_tape 900 d_tape), (cAI g a_letters 8 d_letters2_54)] rfl ?_
      refine k_aload_n X dX11_markLine_k1.2.2.1.1 3 rfl ?_
      refine k_bipush (v := 8) X dX11_markLine_k1.2.2.1.2 bi_8 ?_
      refine k_bipush (v := 11) X dX11_markLine_k1.2.2.2.1 bi_11 ?_
      refine k_callVI (n := 2) (As := [.int 8, .int 11]) (st := []) X [(cO11_i1r1i10r1i2r5i2r12i3r4i2 h0 m_thrown a_tape m_taped m_size m_at2_50 m_end2_51 m_token2_57 m_whole2_58 m_nameSize2_55 m_fault2_53 m_place2_56 m_trouble a_letters m_failed2_52 m_hasHouse a_r a_fresh a_st a_undone a_kept m_undos m_images a_from a_begin a_motor a_change a_startFrame a_changeFrame a_lostAt a_blackAt a_slips a_leftArc a_died a_arcs m_bestSum m_nearest m_nearestTown a_there a_backAt a_sorted a_parts m_seed1 m_darkNow), (cAI g a_letters 8 d_letters2_54), (cAI g a_fresh 311 d_fresh)] [(cAI g a_tape 900 d_tape)] [1, 3, 0] [2] (m_namedTX l g h0 m_thrown a_tape m_taped m_size m_at2_50 m_end2_51 m_token2_57 m_whole2_58 m_nameSize2_55 m_fault2_53 m_place2_56 m_trouble a_letters m_failed2_52 m_hasHouse a_r a_fresh a_st a_undone a_kept m_undos m_images a_from a_begin a_motor a_change a_startFrame a_changeFrame a_lostAt a_blackAt a_slips a_leftArc a_died a_arcs m_bestSum m_nearest m_nearestTown a_there a_backAt a_sorted a_parts m_seed1 m_darkNow d_letters2_54 d_fresh (iv_w iv_62 (zle_e rfl) (zle_e rfl)) (iv_w iv_61 (zle_e rfl) (zle_e rfl)) hp_d_fresh hk_65) dX11_markLine_k1.2.2.2.2 mw575 mw576 mw577 mw5 mw578 rfl 11 rfl rfl 0 _ rfl yk_yX11_named_2 rfl (Nat.le_of_ble_eq_true rfl) (Nat.le_of_ble_eq_true rfl) (Nat.le_of_ble_eq_true rfl) (Nat.le_of_ble_eq_true rfl) (Nat.le_of_ble_eq_true rfl) rfl rfl (vnd_e rfl) rfl (vnd_e rfl) (dsj_e rfl) ?_
      rintro r_69 w ⟨m_failed2_66, m_fault2_67, m_place2_68, iv_70, iv_71, hq_72, hq_73, rfl⟩
      refine k_ws [(cAI g a_tape 900 d_tape), (cO11_i1r1i10r1i2r5i2r12i3r4i2 h0 m_thrown a_tape m_taped m_size m_at2_50 m_end2_51 m_token2_57 m_whole2_58 m_nameSize2_55 m_fault2_67 m_place2_68 m_trouble a_letters m_failed2_66 m_hasHouse a_r a_fresh a_st a_undone a_kept m_undos m_images a_from a_begin a_motor a_change a_startFrame a_changeFrame a_lostAt a_blackAt a_slips a_leftArc a_died a_arcs m_bestSum m_nearest m_nearestTown a_there a_backAt a_sorted a_parts m_seed1 m_darkNow), (cAI g a_letters 8 d_letters2_54), (cAI g a_fresh 311 d_fresh)] rfl ?_
      refine k_istore [(4, .int r_69), (3, .int r_42), (2, .int r_23), (1, .int z_11), (0, .ref h0)] X dX11_markLine_k2.1.1.1.1 (nlt_e rfl) rfl ?_
      refine k_iconst (v := 0) X dX11_markLine_k2.1.1.1.2 ic_0 ?_
      refine k_istore [(5, .int 0), (4, .int r_69), (3, .int r_42), (2, .int r_23), (1, .int z_11), (0, .ref h0)] X dX11_markLine_k2.1.1.2.1 (nlt_e rfl) rfl ?_
      refine (fun hL : ∀ (nn_81 : Nat) (u_74 : Int32) (u_76 : Int32) (u_77 : Int32) (u_79 : Int32), (z_5.toInt - u_74.toInt).toNat = nn_81 → (IV u_74 0 255) → (IV u_77 0 1) → (m_failed2_66.toInt ≤ u_77.toInt) → (∀ (m_at2 : Int32) (m_end2 : Int32) (m_failed2 : Int32) (m_fault2 : Int32) (d_fresh2 : Nat → Int32) (d_letters2 : Nat → Int32) (m_nameSize2 : Int32) (m_place2 : Int32) (m_token2 : Int32) (m_whole2 : Int32), (∃ n_0 : Nat, R_m_markLineX_L0 d_fresh z_5 r_23 m_at2_50 r_69 (fun (u_77 : Int32) (u_79 : Int32) (u_76 : Int32) => (((u_77 = (0 : Int32)) ∧ (∃ m_at2_88 : Int32, ∃ m_end2_89 : Int32, ∃ d_letters2_90 : Nat → Int32, ∃ m_nameSize2_91 : Int32, ∃ m_token2_92 : Int32, ∃ m_whole2_93 : Int32, (R_m_nextX m_size m_end2_51 d_tape d_letters2_54 m_at2_88 m_end2_89 d_letters2_90 m_nameSize2_91 m_token2_92 m_whole2_93) ∧ ∃ fa_101 : Nat → Int32, fa_101 = upd d_fresh (z_11).toNatClampNeg r_23 ∧ ∃ z_108 : Int32, z_108 = z_11 + (1 : Int32) ∧ ∃ fa_111 : Nat → Int32, fa_111 = upd fa_101 (z_108).toNatClampNeg r_42 ∧ ∃ z_118 : Int32, z_118 = z_11 + (2 : Int32) ∧ ∃ fa_121 : Nat → Int32, fa_121 = upd fa_111 (z_118).toNatClampNeg r_69 ∧ ∃ z_128 : Int32, z_128 = z_5 + (1 : Int32) ∧ ∃ fa_131 : Nat → Int32, fa_131 = upd fa_121 ((8 : Int32)).toNatClampNeg z_128 ∧ m_at2 = m_at2_88 ∧ m_end2 = m_end2_89 ∧ m_failed2 = u_77 ∧ m_fault2 = u_79 ∧ d_fresh2 = fa_131 ∧ d_letters2 = d_letters2_90 ∧ m_nameSize2 = m_nameSize2_91 ∧ m_place2 = u_76 ∧ m_token2 = m_token2_92 ∧ m_whole2 = m_whole2_93)) ∨ ((¬ (u_77 = (0 : Int32))) ∧ (m_at2 = m_at2_50 ∧ m_end2 = m_end2_51 ∧ m_failed2 = u_77 ∧ m_fault2 = u_79 ∧ d_fresh2 = d_fresh ∧ d_letters2 = d_letters2_54 ∧ m_nameSize2 = m_nameSize2_55 ∧ m_place2 = u_76 ∧ m_token2 = m_token2_57 ∧ m_whole2 = m_whole2_58)))) n_0 u_74 u_76 u_77 u_79) → R_m_markLineX m_size m_at m_end m_token m_whole m_nameSize m_fault m_place m_failed d_tape d_letters d_fresh m_at2 m_end2 m_failed2 m_fault2 d_fresh2 d_letters2 m_nameSize2 m_place2 m_token2 m_whole2) → Wk p l e _ s m args below meth c _ A g _ _ _ [(cAI g a_tape 900 d_tape), (cO11_i1r1i10r1i2r5i2r12i3r4i2 h0 m_thrown a_tape m_taped m_size m_at2_50 m_end2_51 m_token2_57 m_whole2_58 m_nameSize2_55 u_79 u_76 m_trouble a_letters u_77 m_hasHouse a_r a_fresh a_st a_undone a_kept m_undos m_images a_from a_begin a_motor a_change a_startFrame a_changeFrame a_lostAt a_blackAt a_slips a_leftArc a_died a_arcs m_bestSum m_nearest m_nearestTown a_there a_backAt a_sorted a_parts m_seed1 m_darkNow), (cAI g a_letters 8 d_letters2_54), (cAI g a_fresh 311 d_fresh)] [(5, .int u_74), (4, .int r_69), (3, .int r_42), (2, .int r_23), (1, .int z_11), (0, .ref h0)] 62 [] => hL _ 0 m_place2_68 m_failed2_66 m_fault2_67 rfl (iv_w iq_0_0_0 (zle_e rfl) (zle_e rfl)) (iv_w iv_70 (zle_e rfl) (zle_e rfl)) (by omega) (fun m_at2 m_end2 m_failed2 m_fault2 d_fresh2 d_letters2 m_nameSize2 m_place2 m_token2 m_whole2 h => (Or.inl ⟨h_1, ⟨z_5, ez_5, ⟨z_8, ez_8, ⟨z_11, ez_11, ⟨m_at2_14, m_end2_15, m_failed2_16, m_fault2_17, d_letters2_18, m_nameSize2_19, m_place2_20, m_token2_21, m_whole2_22, r_23, hq_29, (Or.inl ⟨h_31, ⟨m_at2_33, m_end2_34, m_failed2_35, m_fault2_36, d_letters2_37, m_nameSize2_38, m_place2_39, m_token2_40, m_whole2_41, r_42, hq_47, ⟨m_at2_50, m_end2_51, m_failed2_52, m_fault2_53, d_letters2_54, m_nameSize2_55, m_place2_56, m_token2_57, m_whole2_58, hq_64, ⟨m_failed2_66, m_fault2_67, m_place2_68, r_69, hq_73, h⟩⟩⟩⟩)⟩⟩⟩⟩⟩))) ?_
      refine fun nn_81 => Nat.strongRecOn nn_81 (fun nn_81 ih_83 => ?_)
      intro u_74 u_76 u_77 u_79 hm_82 hv_75 hv_78 hx_80 KH_0
      refine k_iload X dX11_markLine_k2.1.1.2.2 0 rfl ?_
      refine k_aload_n X dX11_markLine_k2.1.2.1.1 5 rfl ?_
      refine k_get (ci := 11) X inlX11 rfl 16 (nlt_e rfl) dX11_markLine_k2.1.2.1.2 mw171 1 rfl rfl ?_
      refine k_bipush (v := 8) X dX11_markLine_k2.1.2.2.1 bi_8 ?_
      refine k_iald X dX11_markLine_k2.1.2.2.2 3 rfl (by unfold vp_in; decide) ?_
      refine k_to z_5 ez_5.symm ?_
      refine k_ic_ge 131 X dX11_markLine_k2.2.1.1.1 (jp_e rfl) (fun h_84 => ?_) (fun h_84 => ?_)
      · skip
        have j_85 : z_5.toInt ≤ u_74.toInt := iv_le h_84
        refine k_aload_n X dX11_markLine_k4.2.1.1.2 5 rfl ?_
        refine k_get (ci := 11) X inlX11 rfl 13 (nlt_e rfl) dX11_markLine_k4.2.1.2.1 mw469 1 rfl rfl ?_
        refine k_if_eq 139 X dX11_markLine_k4.2.1.2.2 (jp_e rfl) (fun h_86 => ?_) (fun h_86 => ?_)
        · skip
          have iv_87 : IV u_77 0 0 := iv_meet hv_78 (iv_e h_86 iq_0_0_0) (zle_o rfl) (zle_o rfl)
          refine k_aload_n X dX11_markLine_k4.2.2.1.2 5 rfl ?_
          refine k_callVV (n := 0) (As := []) (st := []) X [(cO11_i1r1i10r1i2r5i2r12i3r4i2 h0 m_thrown a_tape m_taped m_size m_at2_50 m_end2_51 m_token2_57 m_whole2_58 m_nameSize2_55 u_79 u_76 m_trouble a_letters u_77 m_hasHouse a_r a_fresh a_st a_undone a_kept m_undos m_images a_from a_begin a_motor a_change a_startFrame a_changeFrame a_lostAt a_blackAt a_slips a_leftArc a_died a_arcs m_bestSum m_nearest m_nearestTown a_there a_backAt a_sorted a_parts m_seed1 m_darkNow), (cAI g a_tape 900 d_tape), (cAI g a_letters 8 d_letters2_54)] [(cAI g a_fresh 311 d_fresh)] [1, 0, 2] [3] (m_nextX l g h0 m_thrown a_tape m_taped m_size m_at2_50 m_end2_51 m_token2_57 m_whole2_58 m_nameSize2_55 u_79 u_76 m_trouble a_letters u_77 m_hasHouse a_r a_fresh a_st a_undone a_kept m_undos m_images a_from a_begin a_motor a_change a_startFrame a_changeFrame a_lostAt a_blackAt a_slips a_leftArc a_died a_arcs m_bestSum m_nearest m_nearestTown a_there a_backAt a_sorted a_parts m_seed1 m_darkNow d_tape d_letters2_54 (iv_w hv_m_size (zle_e rfl) (zle_e rfl)) (iv_w iv_60 (zle_e rfl) (zle_e rfl)) (iv_w iv_62 (zle_e rfl) (zle_e rfl))) dX11_markLine_k4.2.2.2.1 mw489 mw490 mw491 mw5 mw492 rfl 11 rfl rfl 0 _ rfl yk_yX11_next_0 rfl (Nat.le_of_ble_eq_true rfl) (Nat.le_of_ble_eq_true rfl) (Nat.le_of_ble_eq_true rfl) (Nat.le_of_ble_eq_true rfl) (Nat.le_of_ble_eq_true rfl) rfl rfl (vnd_e rfl) rfl (vnd_e rfl) (dsj_e rfl) ?_
          intro w zq
          refine exE6 zq ?_
          clear zq
          intro m_at2_88 m_end2_89 d_letters2_90 m_nameSize2_91 m_token2_92 m_whole2_93 iv_95 zq
          refine exA5 zq ?_
          clear zq
          intro iv_96 hq_97 hq_98 hq_99 hk_100 zq
          subst zq
          refine k_ws [(cAI g a_fresh 311 d_fresh), (cO11_i1r1i10r1i2r5i2r12i3r4i2 h0 m_thrown a_tape m_taped m_size m_at2_88 m_end2_89 m_token2_92 m_whole2_93 m_nameSize2_91 u_79 u_76 m_trouble a_letters u_77 m_hasHouse a_r a_fresh a_st a_undone a_kept m_undos m_images a_from a_begin a_motor a_change a_startFrame a_changeFrame a_lostAt a_blackAt a_slips a_leftArc a_died a_arcs m_bestSum m_nearest m_nearestTown a_there a_backAt a_sorted a_parts m_seed1 m_darkNow), (cAI g a_tape 900 d_tape), (cAI g a_letters 8 d_letters2_90)] rfl ?_
          refine k_aload_n X dX11_markLine_k4.2.2.2.2 5 rfl ?_
          refine k_get (ci := 11) X inlX11 rfl 16 (nlt_e rfl) dX11_markLine_k5.1.1.1.1 mw171 1 rfl rfl ?_
          refine k_iload_n X dX11_markLine_k5.1.1.1.2 4 rfl ?_
          refine k_iload_n X dX11_markLine_k5.1.1.2.1 3 rfl ?_
          refine k_iast [(cAI g a_fresh 311 (upd d_fresh (z_11 : Int32).toNatClampNeg r_23)), (cO11_i1r1i10r1i2r5i2r12i3r4i2 h0 m_thrown a_tape m_taped m_size m_at2_88 m_end2_89 m_token2_92 m_whole2_93 m_nameSize2_91 u_79 u_76 m_trouble a_letters u_77 m_hasHouse a_r a_fresh a_st a_undone a_kept m_undos m_images a_from a_begin a_motor a_change a_startFrame a_changeFrame a_lostAt a_blackAt a_slips a_leftArc a_died a_arcs m_bestSum m_nearest m_nearestTown a_there a_backAt a_sorted a_parts m_seed1 m_darkNow), (cAI g a_tape 900 d_tape), (cAI g a_letters 8 d_letters2_90)] X dX11_markLine_k5.1.1.2.2 0 rfl (iv_in iv_13 (zle_e rfl) (zle_l rfl)) rfl ?_
          have i_103 : z_11.toInt = 44 + 3 * z_5.toInt := by omega
          refine (fun hg : ∀ fa_101 : Nat → Int32, fa_101 = upd d_fresh (z_11 : Int32).toNatClampNeg r_23 → RInv fa_101 → K16 d_fresh fa_101 → Wk p l e _ s m args below meth c _ A g _ _ _ [(cAI g a_fresh 311 fa_101), (cO11_i1r1i10r1i2r5i2r12i3r4i2 h0 m_thrown a_tape m_taped m_size m_at2_88 m_end2_89 m_token2_92 m_whole2_93 m_nameSize2_91 u_79 u_76 m_trouble a_letters u_77 m_hasHouse a_r a_fresh a_st a_undone a_kept m_undos m_images a_from a_begin a_motor a_change a_startFrame a_changeFrame a_lostAt a_blackAt a_slips a_leftArc a_died a_arcs m_bestSum m_nearest m_nearestTown a_there a_backAt a_sorted a_parts m_seed1 m_darkNow), (cAI g a_tape 900 d_tape), (cAI g a_letters 8 d_letters2_90)] _ _ _ => hg _ rfl (w_rb_44_3 hp_d_fresh i_103 (iv_w iv_7 (zle_e rfl) (zle_e rfl)) (iv_w iv_27 (zle_e rfl) (zle_e rfl))) (k16_u (z := z_11) (by have := iv_13; omega))) (fun fa_101 eq_105 hR_102 hk_104 => ?_)
          have ek_106 : z_5 = fa_101 (8 : Int32).toNatClampNeg := ez_5.trans (hk_104 _ (by decide)).symm
          have hT_107 : TRI fa_101 := by have := iv_13; exact tri_z (z := z_11) eq_105 hr_0 hp_d_fresh (by omega) (by omega) (by omega) (by omega) (by omega)
          refine k_aload_n X dX11_markLine_k5.1.2.1.1 5 rfl ?_
          refine k_get (ci := 11) X inlX11 rfl 16 (nlt_e rfl) dX11_markLine_k5.1.2.1.2 mw171 1 rfl rfl ?_
          refine k_iload_n X dX11_markLine_k5.1.2.2.1 4 rfl ?_
          refine k_iconst (v := 1) X dX11_markLine_k5.1.2.2.2 ic_1 ?_
          refine k_iadd X dX11_markLine_k5.2.1.1.1 ?_
          refine k_nm (fun z_108 ez_108 => ?_)
          have i_109 : z_108.toInt = z_11.toInt + 1 := in_add ez_108 iv_13 iq_1_1_1 (zle_e rfl) (zle_e rfl)
          have iv_110 : IV z_108 45 78 := iz1 i_109 iv_13 (zle_e rfl) (zle_e rfl)
          refine k_iload_n X dX11_markLine_k5.2.1.1.2 2 rfl ?_
          refine k_iast [(cAI g a_fresh 311 (upd fa_101 (z_108 : Int32).toNatClampNeg r_42)), (cO11_i1r1i10r1i2r5i2r12i3r4i2 h0 m_thrown a_tape m_taped m_size m_at2_88 m_end2_89 m_token2_92 m_whole2_93 m_nameSize2_91 u_79 u_76 m_trouble a_letters u_77 m_hasHouse a_r a_fresh a_st a_undone a_kept m_undos m_images a_from a_begin a_motor a_change a_startFrame a_changeFrame a_lostAt a_blackAt a_slips a_leftArc a_died a_arcs m_bestSum m_nearest m_nearestTown a_there a_backAt a_sorted a_parts m_seed1 m_darkNow), (cAI g a_tape 900 d_tape), (cAI g a_letters 8 d_letters2_90)] X dX11_markLine_k5.2.1.2.1 0 rfl (iv_in iv_110 (zle_e rfl) (zle_l rfl)) rfl ?_
          have i_113 : z_108.toInt = 45 + 3 * z_5.toInt := by omega
          refine (fun hg : ∀ fa_111 : Nat → Int32, fa_111 = upd fa_101 (z_108 : Int32).toNatClampNeg r_42 → RInv fa_111 → K16 fa_101 fa_111 → Wk p l e _ s m args below meth c _ A g _ _ _ [(cAI g a_fresh 311 fa_111), (cO11_i1r1i10r1i2r5i2r12i3r4i2 h0 m_thrown a_tape m_taped m_size m_at2_88 m_end2_89 m_token2_92 m_whole2_93 m_nameSize2_91 u_79 u_76 m_trouble a_letters u_77 m_hasHouse a_r a_fresh a_st a_undone a_kept m_undos m_images a_from a_begin a_motor a_change a_startFrame a_changeFrame a_lostAt a_blackAt a_slips a_leftArc a_died a_arcs m_bestSum m_nearest m_nearestTown a_there a_backAt a_sorted a_parts m_seed1 m_darkNow), (cAI g a_tape 900 d_tape), (cAI g a_letters 8 d_letters2_90)] _ _ _ => hg _ rfl (w_fr_45_3 hR_102 i_113 (iv_w iv_7 (zle_e rfl) (zle_e rfl))) (k16_u (z := z_108) (by have := iv_110; omega))) (fun fa_111 eq_115 hR_112 hk_114 => ?_)
          have ek_116 : z_5 = fa_111 (8 : Int32).toNatClampNeg := ek_106.trans (hk_114 _ (by decide)).symm
          have hT_117 : TRI fa_111 := by have := iv_110; exact tri_z (z := z_108) eq_115 hT_107 hR_102 (by omega) (by omega) (by omega) (by omega) (by omega)
          refine k_aload_n X dX11_markLine_k5.2.1.2.2 5 rfl ?_
          refine k_get (ci := 11) X inlX11 rfl 16 (nlt_e rfl) dX11_markLine_k5.2.2.1.1 mw171 1 rfl rfl ?_
          refine k_iload_n X dX11_markLine_k5.2.2.1.2 4 rfl ?_
          refine k_iconst (v := 2) X dX11_markLine_k5.2.2.2.1 ic_2 ?_
          refine k_iadd X dX11_markLine_k5.2.2.2.2 ?_
          refine k_nm (fun z_118 ez_118 => ?_)
          have i_119 : z_118.toInt = z_11.toInt + 2 := in_add ez_118 iv_13 iq_2_2_2 (zle_e rfl) (zle_e rfl)
          have iv_120 : IV z_118 46 79 := iz1 i_119 iv_13 (zle_e rfl) (zle_e rfl)
          refine k_iload X dX11_markLine_k6.1.1.1 1 rfl ?_
          refine k_iast [(cAI g a_fresh 311 (upd fa_111 (z_118 : Int32).toNatClampNeg r_69)), (cO11_i1r1i10r1i2r5i2r12i3r4i2 h0 m_thrown a_tape m_taped m_size m_at2_88 m_end2_89 m_token2_92 m_whole2_93 m_nameSize2_91 u_79 u_76 m_trouble a_letters u_77 m_hasHouse a_r a_fresh a_st a_undone a_kept m_undos m_images a_from a_begin a_motor a_change a_startFrame a_changeFrame a_lostAt a_blackAt a_slips a_leftArc a_died a_arcs m_bestSum m_nearest m_nearestTown a_there a_backAt a_sorted a_parts m_seed1 m_darkNow), (cAI g a_tape 900 d_tape), (cAI g a_letters 8 d_letters2_90)] X dX11_markLine_k6.1.1.2 0 rfl (iv_in iv_120 (zle_e rfl) (zle_l rfl)) rfl ?_
          have i_123 : z_118.toInt = 46 + 3 * z_5.toInt := by omega
          refine (fun hg : ∀ fa_121 : Nat → Int32, fa_121 = upd fa_111 (z_118 : Int32).toNatClampNeg r_69 → RInv fa_121 → K16 fa_111 fa_121 → Wk p l e _ s m args below meth c _ A g _ _ _ [(cAI g a_fresh 311 fa_121), (cO11_i1r1i10r1i2r5i2r12i3r4i2 h0 m_thrown a_tape m_taped m_size m_at2_88 m_end2_89 m_token2_92 m_whole2_93 m_nameSize2_91 u_79 u_76 m_trouble a_letters u_77 m_hasHouse a_r a_fresh a_st a_undone a_kept m_undos m_images a_from a_begin a_motor a_change a_startFrame a_changeFrame a_lostAt a_blackAt a_slips a_leftArc a_died a_arcs m_bestSum m_nearest m_nearestTown a_there a_backAt a_sorted a_parts m_seed1 m_darkNow), (cAI g a_tape 900 d_tape), (cAI g a_letters 8 d_letters2_90)] _ _ _ => hg _ rfl (w_rb_46_3 hR_112 i_123 (iv_w iv_7 (zle_e rfl) (zle_e rfl)) (iv_w iv_71 (zle_e rfl) (zle_e rfl))) (k16_u (z := z_118) (by have := iv_120; omega))) (fun fa_121 eq_125 hR_122 hk_124 => ?_)
          have ek_126 : z_5 = fa_121 (8 : Int32).toNatClampNeg := ek_116.trans (hk_124 _ (by decide)).symm
          refine k_aload_n X dX11_markLine_k6.1.2.1 5 rfl ?_
          refine k_get (ci := 11) X inlX11 rfl 16 (nlt_e rfl) dX11_markLine_k6.1.2.2.1 mw171 1 rfl rfl ?_
          refine k_bipush (v := 8) X dX11_markLine_k6.1.2.2.2 bi_8 ?_
          refine k_dup2 X dX11_markLine_k6.2.1.1 rfl rfl ?_
          refine k_iald X dX11_markLine_k6.2.1.2.1 0 rfl (by unfold vp_in; decide) ?_
          refine k_to z_5 ek_126.symm ?_
          refine k_iconst (v := 1) X dX11_markLine_k6.2.1.2.2 ic_1 ?_
          refine k_iadd X dX11_markLine_k6.2.2.1 ?_
          refine k_nm (fun z_128 ez_128 => ?_)
          have i_129 : z_128.toInt = z_5.toInt + 1 := in_add ez_128 iv_7 iq_1_1_1 (zle_e rfl) (zle_e rfl)
          have iv_130 : IV z_128 1 12 := iz1 i_129 iv_7 (zle_e rfl) (zle_e rfl)
          refine k_iast [(cAI g a_fresh 311 (upd fa_121 (8 : Int32).toNatClampNeg z_128)), (cO11_i1r1i10r1i2r5i2r12i3r4i2 h0 m_thrown a_tape m_taped m_size m_at2_88 m_end2_89 m_token2_92 m_whole2_93 m_nameSize2_91 u_79 u_76 m_trouble a_letters u_77 m_hasHouse a_r a_fresh a_st a_undone a_kept m_undos m_images a_from a_begin a_motor a_change a_startFrame a_changeFrame a_lostAt a_blackAt a_slips a_leftArc a_died a_arcs m_bestSum m_nearest m_nearestTown a_there a_backAt a_sorted a_parts m_seed1 m_darkNow), (cAI g a_tape 900 d_tape), (cAI g a_letters 8 d_letters2_90)] X dX11_markLine_k6.2.2.2.1 0 rfl (by unfold vp_in; decide) rfl ?_
          refine (fun hg : ∀ fa_131 : Nat → Int32, fa_131 = upd fa_121 (8 : Int32).toNatClampNeg z_128 → RInv fa_131 → Wk p l e _ s m args below meth c _ A g _ _ _ [(cAI g a_fresh 311 fa_131), (cO11_i1r1i10r1i2r5i2r12i3r4i2 h0 m_thrown a_tape m_taped m_size m_at2_88 m_end2_89 m_token2_92 m_whole2_93 m_nameSize2_91 u_79 u_76 m_trouble a_letters u_77 m_hasHouse a_r a_fresh a_st a_undone a_kept m_undos m_images a_from a_begin a_motor a_change a_startFrame a_changeFrame a_lostAt a_blackAt a_slips a_leftArc a_died a_arcs m_bestSum m_nearest m_nearestTown a_there a_backAt a_sorted a_parts m_seed1 m_darkNow), (cAI g a_tape 900 d_tape), (cAI g a_letters 8 d_letters2_90)] _ _ _ => hg _ rfl (w_rb_8 hR_122 (iv_w iv_130 (zle_e rfl) (zle_e rfl)))) (fun fa_131 eq_134 hR_132 => ?_)
          have hT_135 : TRI fa_131 := tri_mark (v := z_5) hr_0 hp_d_fresh eq_105 eq_115 eq_125 eq_134 (by omega) (by omega) (by omega) (by omega) (by omega) (iv_w iv_7 (zle_e rfl) (zle_e rfl)) (iv_w iv_71 (zle_e rfl) (zle_e rfl)) (hq_72.resolve_left (by omega))
          exact k_vret X hr dX11_markLine_k6.2.2.2.2 (Nat.le_of_ble_eq_true rfl) (Nat.le_of_ble_eq_true rfl) [1, 2, 3, 0] (vnd_e rfl) rfl rfl ⟨m_at2_88, m_end2_89, u_77, u_79, fa_131, d_letters2_90, m_nameSize2_91, u_76, m_token2_92, m_whole2_93, (iv_w iv_95 (zle_e rfl) (zle_e rfl)), (iv_w iv_87 (zle_e rfl) (zle_e rfl)), (iv_w iv_96 (zle_e rfl) (zle_e rfl)), hR_132, (by omega), hT_135, (KH_0 _ _ _ _ _ _ _ _ _ _ ⟨0 + 1, (Or.inl ⟨h_84, (Or.inl ⟨h_86, ⟨m_at2_88, m_end2_89, d_letters2_90, m_nameSize2_91, m_token2_92, m_whole2_93, hq_99, ⟨fa_101, eq_105, ⟨z_108, ez_108, ⟨fa_111, eq_115, ⟨z_118, ez_118, ⟨fa_121, eq_125, ⟨z_128, ez_128, ⟨fa_131, eq_134, ⟨rfl, rfl, rfl, rfl, rfl, rfl, rfl, rfl, rfl, rfl⟩⟩⟩⟩⟩⟩⟩⟩⟩⟩)⟩)⟩), hk_100, rfl⟩
        · skip
          have iv_136 : IV u_77 1 1 := iv_neL h_86 hv_78 iq_0_0_0 (zle_e rfl)
          exact k_vret X hr dX11_markLine_k4.2.2.1.1 (Nat.le_of_ble_eq_true rfl) (Nat.le_of_ble_eq_true rfl) [1, 0, 2, 3] (vnd_e rfl) rfl rfl ⟨m_at2_50, m_end2_51, u_77, u_79, d_fresh, d_letters2_54, m_nameSize2_55, u_76, m_token2_57, m_whole2_58, (iv_w iv_60 (zle_e rfl) (zle_e rfl)), (iv_w iv_136 (zle_e rfl) (zle_e rfl)), (iv_w iv_62 (zle_e rfl) (zle_e rfl)), hp_d_fresh, (by omega), hr_0, (KH_0 _ _ _ _ _ _ _ _ _ _ ⟨0 + 1, (Or.inl ⟨h_84, (Or.inr ⟨h_86, ⟨rfl, rfl, rfl, rfl, rfl, rfl, rfl, rfl, rfl, rfl⟩⟩)⟩)⟩), hk_65, rfl⟩
      · skip
        have j_137 : u_74.toInt < z_5.toInt := iv_nle h_84
        have iv_138 : IV u_74 0 10 := iv_ltL (iv_nle h_84) hv_75 iv_7 (zle_e rfl)
        have iv_139 : IV z_5 1 11 := iv_ltR (iv_nle h_84) hv_75 iv_7 (zle_e rfl)
        refine k_aload_n X dX11_markLine_k2.2.1.1.2 5 rfl ?_
        refine k_get (ci := 11) X inlX11 rfl 13 (nlt_e rfl) dX11_markLine_k2.2.1.2.1 mw469 1 rfl rfl ?_
        refine k_if_ne 125 X dX11_markLine_k2.2.1.2.2 (jp_e rfl) (fun h_140 => ?_) (fun h_140 => ?_)
        · skip
          have iv_141 : IV u_77 1 1 := iv_neL h_140 hv_78 iq_0_0_0 (zle_e rfl)
          obtain ⟨z_142, ez_142⟩ : ∃ y : Int32, u_74 + Int32.ofInt 1 = y := ⟨_, rfl⟩
          refine k_iinc z_142 [(5, .int z_142), (4, .int r_69), (3, .int r_42), (2, .int r_23), (1, .int z_11), (0, .ref h0)] 0 X dX11_markLine_k4.1.2.2.2 rfl ez_142 (nlt_e rfl) rfl ?_
          have i_143 : z_142.toInt = u_74.toInt + 1 := in_inc ez_142 (oin_e rfl) iv_138 (zle_e rfl) (zle_e rfl)
          have iv_144 : IV z_142 1 11 := iz1 i_143 iv_138 (zle_e rfl) (zle_e rfl)
          refine k_goto 62 X dX11_markLine_k4.2.1.1.1 (jp_e rfl) ?_
          exact ih_83 _ (by omega) z_142 u_76 u_77 u_79 rfl (iv_w iv_144 (zle_e rfl) (zle_e rfl)) (iv_w iv_141 (zle_e rfl) (zle_e rfl)) (by omega) (fun m_at2 m_end2 m_failed2 m_fault2 d_fresh2 d_letters2 m_nameSize2 m_place2 m_token2 m_whole2 h => h.elim (fun n_0 q => (KH_0 _ _ _ _ _ _ _ _ _ _ ⟨n_0 + 1, (Or.inr ⟨h_84, (Or.inl ⟨h_140, ⟨z_142, ez_142, q⟩⟩)⟩)⟩)))
        · skip
          have iv_145 : IV u_77 0 0 := iv_meet hv_78 (iv_e h_140 iq_0_0_0) (zle_o rfl) (zle_o rfl)
          refine k_aload_n X dX11_markLine_k2.2.2.1.1 5 rfl ?_
          refine k_get (ci := 11) X inlX11 rfl 16 (nlt_e rfl) dX11_markLine_k2.2.2.1.2 mw171 1 rfl rfl ?_
          refine k_bipush (v := 44) X dX11_markLine_k2.2.2.2.1 bi_44 ?_
          refine k_iconst (v := 3) X dX11_markLine_k2.2.2.2.2 ic_3 ?_
          refine k_iload X dX11_markLine_k3.1.1.1.1 0 rfl ?_
          refine k_imul X dX11_markLine_k3.1.1.1.2 ?_
          refine k_nm (fun z_146 ez_146 => ?_)
          have i_147 : z_146.toInt = 3 * u_74.toInt := in_mul ez_146 (by decide) (zle_e rfl) iv_138 (zle_e rfl) (zle_e rfl)
          have iv_148 : IV z_146 0 30 := iz4 i_147 iv_138 (zle_e rfl) (zle_e rfl) (zle_e rfl)
          refine k_iadd X dX11_markLine_k3.1.1.2.1 ?_
          refine k_nm (fun z_149 ez_149 => ?_)
          have i_150 : z_149.toInt = 44 + z_146.toInt := in_add ez_149 iq_44_44_44 iv_148 (zle_e rfl) (zle_e rfl)
          have iv_151 : IV z_149 44 74 := iz2 i_150 iv_148 (zle_e rfl) (zle_e rfl)
          refine k_iald X dX11_markLine_k3.1.1.2.2 3 rfl (iv_in iv_151 (zle_e rfl) (zle_l rfl)) ?_
          refine k_nm (fun z_152 ez_152 => ?_)
          have i_153 : z_149.toInt = 44 + 3 * u_74.toInt := by omega
          have iv_154 : IV z_152 0 7 := rb_44_3 ez_152 hp_d_fresh i_153 (iv_w iv_138 (zle_e rfl) (zle_e rfl))
          refine k_iload_n X dX11_markLine_k3.1.2.1.1 3 rfl ?_
          refine k_ic_ne 125 X dX11_markLine_k3.1.2.1.2 (jp_e rfl) (fun h_155 => ?_) (fun h_155 => ?_)
          · skip
            obtain ⟨z_156, ez_156⟩ : ∃ y : Int32, u_74 + Int32.ofInt 1 = y := ⟨_, rfl⟩
            refine k_iinc z_156 [(5, .int z_156), (4, .int r_69), (3, .int r_42), (2, .int r_23), (1, .int z_11), (0, .ref h0)] 0 X dX11_markLine_k4.1.2.2.2 rfl ez_156 (nlt_e rfl) rfl ?_
            have i_157 : z_156.toInt = u_74.toInt + 1 := in_inc ez_156 (oin_e rfl) iv_138 (zle_e rfl) (zle_e rfl)
            have iv_158 : IV z_156 1 11 := iz1 i_157 iv_138 (zle_e rfl) (zle_e rfl)
            refine k_goto 62 X dX11_markLine_k4.2.1.1.1 (jp_e rfl) ?_
            exact ih_83 _ (by omega) z_156 u_76 u_77 u_79 rfl (iv_w iv_158 (zle_e rfl) (zle_e rfl)) (iv_w iv_145 (zle_e rfl) (zle_e rfl)) (by omega) (fun m_at2 m_end2 m_failed2 m_fault2 d_fresh2 d_letters2 m_nameSize2 m_place2 m_token2 m_whole2 h => h.elim (fun n_0 q => (KH_0 _ _ _ _ _ _ _ _ _ _ ⟨n_0 + 1, (Or.inr ⟨h_84, (Or.inr ⟨h_140, ⟨z_146, ez_146, ⟨z_149, ez_149, ⟨z_152, ez_152, (Or.inl ⟨h_155, ⟨z_156, ez_156, q⟩⟩)⟩⟩⟩⟩)⟩)⟩)))
          · skip
            refine k_aload_n X dX11_markLine_k3.1.2.2.1 5 rfl ?_
            refine k_get (ci := 11) X inlX11 rfl 16 (nlt_e rfl) dX11_markLine_k3.1.2.2.2 mw171 1 rfl rfl ?_
            refine k_bipush (v := 44) X dX11_markLine_k3.2.1.1.1 bi_44 ?_
            refine k_iconst (v := 3) X dX11_markLine_k3.2.1.1.2 ic_3 ?_
            refine k_iload X dX11_markLine_k3.2.1.2.1 0 rfl ?_
            refine k_imul X dX11_markLine_k3.2.1.2.2 ?_
            refine k_to z_146 ez_146.symm ?_
            refine k_iadd X dX11_markLine_k3.2.2.1.1 ?_
            refine k_to z_149 ez_149.symm ?_
            refine k_iconst (v := 2) X dX11_markLine_k3.2.2.1.2 ic_2 ?_
            refine k_iadd X dX11_markLine_k3.2.2.2.1 ?_
            refine k_nm (fun z_159 ez_159 => ?_)
            have i_160 : z_159.toInt = z_149.toInt + 2 := in_add ez_159 iv_151 iq_2_2_2 (zle_e rfl) (zle_e rfl)
            have iv_161 : IV z_159 46 76 := iz1 i_160 iv_151 (zle_e rfl) (zle_e rfl)
            refine k_iald X dX11_markLine_k3.2.2.2.2 3 rfl (iv_in iv_161 (zle_e rfl) (zle_l rfl)) ?_
            refine k_nm (fun z_162 ez_162 => ?_)
            have i_163 : z_159.toInt = 46 + 3 * u_74.toInt := by omega
            have iv_164 : IV z_162 0 3 := rb_46_3 ez_162 hp_d_fresh i_163 (iv_w iv_138 (zle_e rfl) (zle_e rfl))
            refine k_iload X dX11_markLine_k4.1.1.1.1 1 rfl ?_
            refine k_ic_ne 125 X dX11_markLine_k4.1.1.1.2 (jp_e rfl) (fun h_165 => ?_) (fun h_165 => ?_)
            · skip
              obtain ⟨z_166, ez_166⟩ : ∃ y : Int32, u_74 + Int32.ofInt 1 = y := ⟨_, rfl⟩
              refine k_iinc z_166 [(5, .int z_166), (4, .int r_69), (3, .int r_42), (2, .int r_23), (1, .int z_11), (0, .ref h0)] 0 X dX11_markLine_k4.1.2.2.2 rfl ez_166 (nlt_e rfl) rfl ?_
              have i_167 : z_166.toInt = u_74.toInt + 1 := in_inc ez_166 (oin_e rfl) iv_138 (zle_e rfl) (zle_e rfl)
              have iv_168 : IV z_166 1 11 := iz1 i_167 iv_138 (zle_e rfl) (zle_e rfl)
              refine k_goto 62 X dX11_markLine_k4.2.1.1.1 (jp_e rfl) ?_
              exact ih_83 _ (by omega) z_166 u_76 u_77 u_79 rfl (iv_w iv_168 (zle_e rfl) (zle_e rfl)) (iv_w iv_145 (zle_e rfl) (zle_e rfl)) (by omega) (fun m_at2 m_end2 m_failed2 m_fault2 d_fresh2 d_letters2 m_nameSize2 m_place2 m_token2 m_whole2 h => h.elim (fun n_0 q => (KH_0 _ _ _ _ _ _ _ _ _ _ ⟨n_0 + 1, (Or.inr ⟨h_84, (Or.inr ⟨h_140, ⟨z_146, ez_146, ⟨z_149, ez_149, ⟨z_152, ez_152, (Or.inr ⟨h_155, ⟨z_159, ez_159, ⟨z_162, ez_162, (Or.inl ⟨h_165, ⟨z_166, ez_166, q⟩⟩)⟩⟩⟩)⟩⟩⟩⟩)⟩)⟩)))
            · skip
              refine k_aload_n X dX11_markLine_k4.1.1.2.1 5 rfl ?_
              refine k_iconst (v := 3) X dX11_markLine_k4.1.1.2.2 ic_3 ?_
              refine k_aload_n X dX11_markLine_k4.1.2.1.1 5 rfl ?_
              refine k_get (ci := 11) X inlX11 rfl 4 (nlt_e rfl) dX11_markLine_k4.1.2.1.2 mw473 1 rfl rfl ?_
              refine k_callVV (n := 2) (As := [.int 3, .int m_at2_50]) (st := []) X [(cO11_i1r1i10r1i2r5i2r12i3r4i2 h0 m_thrown a_tape m_taped m_size m_at2_50 m_end2_51 m_token2_57 m_whole2_58 m_nameSize2_55 u_79 u_76 m_trouble a_letters u_77 m_hasHouse a_r a_fresh a_st a_undone a_kept m_undos m_images a_from a_begin a_motor a_change a_startFrame a_changeFrame a_lostAt a_blackAt a_slips a_leftArc a_died a_arcs m_bestSum m_nearest m_nearestTown a_there a_backAt a_sorted a_parts m_seed1 m_darkNow)] [(cAI g a_tape 900 d_tape), (cAI g a_letters 8 d_letters2_54), (cAI g a_fresh 311 d_fresh)] [1] [0, 2, 3] (m_badX l g h0 3 m_at2_50 m_thrown a_tape m_taped m_size m_at2_50 m_end2_51 m_token2_57 m_whole2_58 m_nameSize2_55 u_79 u_76 m_trouble a_letters u_77 m_hasHouse a_r a_fresh a_st a_undone a_kept m_undos m_images a_from a_begin a_motor a_change a_startFrame a_changeFrame a_lostAt a_blackAt a_slips a_leftArc a_died a_arcs m_bestSum m_nearest m_nearestTown a_there a_backAt a_sorted a_parts m_seed1 m_darkNow (iv_w iv_145 (zle_e rfl) (zle_e rfl))) dX11_markLine_k4.1.2.2.1 mw519 mw520 mw521 mw5 mw522 rfl 11 rfl rfl 0 _ rfl yk_yX11_bad_2 rfl (Nat.le_of_ble_eq_true rfl) (Nat.le_of_ble_eq_true rfl) (Nat.le_of_ble_eq_true rfl) (Nat.le_of_ble_eq_true rfl) (Nat.le_of_ble_eq_true rfl) rfl rfl (vnd_e rfl) rfl (vnd_e rfl) (dsj_e rfl) ?_
              rintro w ⟨m_failed2_169, m_fault2_170, m_place2_171, iv_173, hq_174, rfl⟩
              refine k_ws [(cAI g a_tape 900 d_tape), (cAI g a_letters 8 d_letters2_54), (cAI g a_fresh 311 d_fresh), (cO11_i1r1i10r1i2r5i2r12i3r4i2 h0 m_thrown a_tape m_taped m_size m_at2_50 m_end2_51 m_token2_57 m_whole2_58 m_nameSize2_55 m_fault2_170 m_place2_171 m_trouble a_letters m_failed2_169 m_hasHouse a_r a_fresh a_st a_undone a_kept m_undos m_images a_from a_begin a_motor a_change a_startFrame a_changeFrame a_lostAt a_blackAt a_slips a_leftArc a_died a_arcs m_bestSum m_nearest m_nearestTown a_there a_backAt a_sorted a_parts m_seed1 m_darkNow)] rfl ?_
              obtain ⟨z_175, ez_175⟩ : ∃ y : Int32, u_74 + Int32.ofInt 1 = y := ⟨_, rfl⟩
              refine k_iinc z_175 [(5, .int z_175), (4, .int r_69), (3, .int r_42), (2, .int r_23), (1, .int z_11), (0, .ref h0)] 0 X dX11_markLine_k4.1.2.2.2 rfl ez_175 (nlt_e rfl) rfl ?_
              have i_176 : z_175.toInt = u_74.toInt + 1 := in_inc ez_175 (oin_e rfl) iv_138 (zle_e rfl) (zle_e rfl)
              have iv_177 : IV z_175 1 11 := iz1 i_176 iv_138 (zle_e rfl) (zle_e rfl)
              refine k_goto 62 X dX11_markLine_k4.2.1.1.1 (jp_e rfl) ?_
              refine k_sub [(cAI g a_tape 900 d_tape), (cO11_i1r1i10r1i2r5i2r12i3r4i2 h0 m_thrown a_tape m_taped m_size m_at2_50 m_end2_51 m_token2_57 m_whole2_58 m_nameSize2_55 m_fault2_170 m_place2_171 m_trouble a_letters m_failed2_169 m_hasHouse a_r a_fresh a_st a_undone a_kept m_undos m_images a_from a_begin a_motor a_change a_startFrame a_changeFrame a_lostAt a_blackAt a_slips a_leftArc a_died a_arcs m_bestSum m_nearest m_nearestTown a_there a_backAt a_sorted a_parts m_seed1 m_darkNow), (cAI g a_letters 8 d_letters2_54), (cAI g a_fresh 311 d_fresh)] [0, 3, 1, 2] rfl (by decide) rfl ?_
              exact ih_83 _ (by omega) z_175 m_place2_171 m_failed2_169 m_fault2_170 rfl (iv_w iv_177 (zle_e rfl) (zle_e rfl)) (iv_w iv_173 (zle_e rfl) (zle_e rfl)) (by omega) (fun m_at2 m_end2 m_failed2 m_fault2 d_fresh2 d_letters2 m_nameSize2 m_place2 m_token2 m_whole2 h => h.elim (fun n_0 q => (KH_0 _ _ _ _ _ _ _ _ _ _ ⟨n_0 + 1, (Or.inr ⟨h_84, (Or.inr ⟨h_140, ⟨z_146, ez_146, ⟨z_149, ez_149, ⟨z_152, ez_152, (Or.inr ⟨h_155, ⟨z_159, ez_159, ⟨z_162, ez_162, (Or.inr ⟨h_165, ⟨m_failed2_169, m_fault2_170, m_place2_171, hq_174, ⟨z_175, ez_175, q⟩⟩⟩)⟩⟩⟩)⟩⟩⟩⟩)⟩)⟩)))
    · skip
      have iv_178 : IV m_failed2_16 1 1 := iv_neL h_31 iv_25 iq_0_0_0 (zle_e rfl)
      refine k_iconst (v := 0) X dX11_markLine_k1.1.1.2.2 ic_0 ?_
      refine k_goto 42 X dX11_markLine_k1.1.2.1.1 (jp_e rfl) ?_
      refine k_istore_n [(3, .int 0), (2, .int r_23), (1, .int z_11), (0, .ref h0)] X dX11_markLine_k1.2.1.1.1 (nlt_e rfl) rfl ?_
      refine k_aload_n X dX11_markLine_k1.2.1.1.2 3 rfl ?_
      refine k_ldcS (tx := "by") X dX11_markLine_k1.2.1.2.1 (by decide +kernel) (fun sr_179 hsr_179 => ?_)
      refine k_callVV (n := 1) (As := [.ref sr_179]) (st := []) X [(cO11_i1r1i10r1i2r5i2r12i3r4i2 h0 m_thrown a_tape m_taped m_size m_at2_14 m_end2_15 m_token2_21 m_whole2_22 m_nameSize2_19 m_fault2_17 m_place2_20 m_trouble a_letters m_failed2_16 m_hasHouse a_r a_fresh a_st a_undone a_kept m_undos m_images a_from a_begin a_motor a_change a_startFrame a_changeFrame a_lostAt a_blackAt a_slips a_leftArc a_died a_arcs m_bestSum m_nearest m_nearestTown a_there a_backAt a_sorted a_parts m_seed1 m_darkNow), (cAI g a_tape 900 d_tape), (cAI g a_letters 8 d_letters2_18)] [(cAI g a_fresh 311 d_fresh)] [0, 1, 2] [3] (m_mustX l g h0 sr_179 m_thrown a_tape m_taped m_size m_at2_14 m_end2_15 m_token2_21 m_whole2_22 m_nameSize2_19 m_fault2_17 m_place2_20 m_trouble a_letters m_failed2_16 m_hasHouse a_r a_fresh a_st a_undone a_kept m_undos m_images a_from a_begin a_motor a_change a_startFrame a_changeFrame a_lostAt a_blackAt a_slips a_leftArc a_died a_arcs m_bestSum m_nearest m_nearestTown a_there a_backAt a_sorted a_parts m_seed1 m_darkNow d_tape d_letters2_18 ("by") (iv_w hv_m_size (zle_e rfl) (zle_e rfl)) (iv_w iv_24 (zle_e rfl) (zle_e rfl)) (iv_w iv_26 (zle_e rfl) (zle_e rfl)) (iv_w iv_178 (zle_e rfl) (zle_e rfl)) hsr_179 hk_30) dX11_markLine_k1.2.1.2.2 mw527 mw528 mw529 mw5 mw530 rfl 11 rfl rfl 0 _ rfl yk_yX11_must_1 rfl (Nat.le_of_ble_eq_true rfl) (Nat.le_of_ble_eq_true rfl) (Nat.le_of_ble_eq_true rfl) (Nat.le_of_ble_eq_true rfl) (Nat.le_of_ble_eq_true rfl) rfl rfl (vnd_e rfl) rfl (vnd_e rfl) (dsj_e rfl) ?_
      intro w zq
      refine exE9 zq ?_
      clear zq
      intro m_at2_180 m_end2_181 m_failed2_182 m_fault2_183 d_letters2_184 m_nameSize2_185 m_place2_186 m_token2_187 m_whole2_188 iv_190 zq
      refine exA5 zq ?_
      clear zq
      intro iv_191 iv_192 hq_193 hq_194 hk_195 zq
      subst zq
      refine k_ws [(cAI g a_fresh 311 d_fresh), (cO11_i1r1i10r1i2r5i2r12i3r4i2 h0 m_thrown a_tape m_taped m_size m_at2_180 m_end2_181 m_token2_187 m_whole2_188 m_nameSize2_185 m_fault2_183 m_place2_186 m_trouble a_letters m_failed2_182 m_hasHouse a_r a_fresh a_st a_undone a_kept m_undos m_images a_from a_begin a_motor a_change a_startFrame a_changeFrame a_lostAt a_blackAt a_slips a_leftArc a_died a_arcs m_bestSum m_nearest m_nearestTown a_there a_backAt a_sorted a_parts m_seed1 m_darkNow), (cAI g a_tape 900 d_tape), (cAI g a_letters 8 d_letters2_184)] rfl ?_
      refine k_aload_n X dX11_markLine_k1.2.2.1.1 3 rfl ?_
      refine k_bipush (v := 8) X dX11_markLine_k1.2.2.1.2 bi_8 ?_
      refine k_bipush (v := 11) X dX11_markLine_k1.2.2.2.1 bi_11 ?_
      refine k_callVI (n := 2) (As := [.int 8, .int 11]) (st := []) X [(cO11_i1r1i10r1i2r5i2r12i3r4i2 h0 m_thrown a_tape m_taped m_size m_at2_180 m_end2_181 m_token2_187 m_whole2_188 m_nameSize2_185 m_fault2_183 m_place2_186 m_trouble a_letters m_failed2_182 m_hasHouse a_r a_fresh a_st a_undone a_kept m_undos m_images a_from a_begin a_motor a_change a_startFrame a_changeFrame a_lostAt a_blackAt a_slips a_leftArc a_died a_arcs m_bestSum m_nearest m_nearestTown a_there a_backAt a_sorted a_parts m_seed1 m_darkNow), (cAI g a_letters 8 d_letters2_184), (cAI g a_fresh 311 d_fresh)] [(cAI g a_tape 900 d_tape)] [1, 3, 0] [2] (m_namedTX l g h0 m_thrown a_tape m_taped m_size m_at2_180 m_end2_181 m_token2_187 m_whole2_188 m_nameSize2_185 m_fault2_183 m_place2_186 m_trouble a_letters m_failed2_182 m_hasHouse a_r a_fresh a_st a_undone a_kept m_undos m_images a_from a_begin a_motor a_change a_startFrame a_changeFrame a_lostAt a_blackAt a_slips a_leftArc a_died a_arcs m_bestSum m_nearest m_nearestTown a_there a_backAt a_sorted a_parts m_seed1 m_darkNow d_letters2_184 d_fresh (iv_w iv_192 (zle_e rfl) (zle_e rfl)) (iv_w iv_191 (zle_e rfl) (zle_e rfl)) hp_d_fresh hk_195) dX11_markLine_k1.2.2.2.2 mw575 mw576 mw577 mw5 mw578 rfl 11 rfl rfl 0 _ rfl yk_yX11_named_2 rfl (Nat.le_of_ble_eq_true rfl) (Nat.le_of_ble_eq_true rfl) (Nat.le_of_ble_eq_true rfl) (Nat.le_of_ble_eq_true rfl) (Nat.le_of_ble_eq_true rfl) rfl rfl (vnd_e rfl) rfl (vnd_e rfl) (dsj_e rfl) ?_
      rintro r_199 w ⟨m_failed2_196, m_fault2_197, m_place2_198, iv_200, iv_201, hq_202, hq_203, rfl⟩
      refine k_ws [(cAI g a_tape 900 d_tape), (cO11_i1r1i10r1i2r5i2r12i3r4i2 h0 m_thrown a_tape m_taped m_size m_at2_180 m_end2_181 m_token2_187 m_whole2_188 m_nameSize2_185 m_fault2_197 m_place2_198 m_trouble a_letters m_failed2_196 m_hasHouse a_r a_fresh a_st a_undone a_kept m_undos m_images a_from a_begin a_motor a_change a_startFrame a_changeFrame a_lostAt a_blackAt a_slips a_leftArc a_died a_arcs m_bestSum m_nearest m_nearestTown a_there a_backAt a_sorted a_parts m_seed1 m_darkNow), (cAI g a_letters 8 d_letters2_184), (cAI g a_fresh 311 d_fresh)] rfl ?_
      refine k_istore [(4, .int r_199), (3, .int 0), (2, .int r_23), (1, .int z_11), (0, .ref h0)] X dX11_markLine_k2.1.1.1.1 (nlt_e rfl) rfl ?_
      refine k_iconst (v := 0) X dX11_markLine_k2.1.1.1.2 ic_0 ?_
      refine k_istore [(5, .int 0), (4, .int r_199), (3, .int 0), (2, .int r_23), (1, .int z_11), (0, .ref h0)] X dX11_markLine_k2.1.1.2.1 (nlt_e rfl) rfl ?_
      refine (fun hL : ∀ (nn_211 : Nat) (u_204 : Int32) (u_206 : Int32) (u_207 : Int32) (u_209 : Int32), (z_5.toInt - u_204.toInt).toNat = nn_211 → (IV u_204 0 255) → (IV u_207 0 1) → (m_failed2_196.toInt ≤ u_207.toInt) → (∀ (m_at2 : Int32) (m_end2 : Int32) (m_failed2 : Int32) (m_fault2 : Int32) (d_fresh2 : Nat → Int32) (d_letters2 : Nat → Int32) (m_nameSize2 : Int32) (m_place2 : Int32) (m_token2 : Int32) (m_whole2 : Int32), (∃ n_1 : Nat, R_m_markLineX_L1 d_fresh z_5 r_23 m_at2_180 r_199 (fun (u_207 : Int32) (u_209 : Int32) (u_206 : Int32) => (((u_207 = (0 : Int32)) ∧ (∃ m_at2_218 : Int32, ∃ m_end2_219 : Int32, ∃ d_letters2_220 : Nat → Int32, ∃ m_nameSize2_221 : Int32, ∃ m_token2_222 : Int32, ∃ m_whole2_223 : Int32, (R_m_nextX m_size m_end2_181 d_tape d_letters2_184 m_at2_218 m_end2_219 d_letters2_220 m_nameSize2_221 m_token2_222 m_whole2_223) ∧ ∃ fa_231 : Nat → Int32, fa_231 = upd d_fresh (z_11).toNatClampNeg r_23 ∧ ∃ z_238 : Int32, z_238 = z_11 + (1 : Int32) ∧ ∃ fa_241 : Nat → Int32, fa_241 = upd fa_231 (z_238).toNatClampNeg (0 : Int32) ∧ ∃ z_247 : Int32, z_247 = z_11 + (2 : Int32) ∧ ∃ fa_250 : Nat → Int32, fa_250 = upd fa_241 (z_247).toNatClampNeg r_199 ∧ ∃ z_257 : Int32, z_257 = z_5 + (1 : Int32) ∧ ∃ fa_260 : Nat → Int32, fa_260 = upd fa_250 ((8 : Int32)).toNatClampNeg z_257 ∧ m_at2 = m_at2_218 ∧ m_end2 = m_end2_219 ∧ m_failed2 = u_207 ∧ m_fault2 = u_209 ∧ d_fresh2 = fa_260 ∧ d_letters2 = d_letters2_220 ∧ m_nameSize2 = m_nameSize2_221 ∧ m_place2 = u_206 ∧ m_token2 = m_token2_222 ∧ m_whole2 = m_whole2_223)) ∨ ((¬ (u_207 = (0 : Int32))) ∧ (m_at2 = m_at2_180 ∧ m_end2 = m_end2_181 ∧ m_failed2 = u_207 ∧ m_fault2 = u_209 ∧ d_fresh2 = d_fresh ∧ d_letters2 = d_letters2_184 ∧ m_nameSize2 = m_nameSize2_185 ∧ m_place2 = u_206 ∧ m_token2 = m_token2_187 ∧ m_whole2 = m_whole2_188)))) n_1 u_204 u_206 u_207 u_209) → R_m_markLineX m_size m_at m_end m_token m_whole m_nameSize m_fault m_place m_failed d_tape d_letters d_fresh m_at2 m_end2 m_failed2 m_fault2 d_fresh2 d_letters2 m_nameSize2 m_place2 m_token2 m_whole2) → Wk p l e _ s m args below meth c _ A g _ _ _ [(cAI g a_tape 900 d_tape), (cO11_i1r1i10r1i2r5i2r12i3r4i2 h0 m_thrown a_tape m_taped m_size m_at2_180 m_end2_181 m_token2_187 m_whole2_188 m_nameSize2_185 u_209 u_206 m_trouble a_letters u_207 m_hasHouse a_r a_fresh a_st a_undone a_kept m_undos m_images a_from a_begin a_motor a_change a_startFrame a_changeFrame a_lostAt a_blackAt a_slips a_leftArc a_died a_arcs m_bestSum m_nearest m_nearestTown a_there a_backAt a_sorted a_parts m_seed1 m_darkNow), (cAI g a_letters 8 d_letters2_184), (cAI g a_fresh 311 d_fresh)] [(5, .int u_204), (4, .int r_199), (3, .int 0), (2, .int r_23), (1, .int z_11), (0, .ref h0)] 62 [] => hL _ 0 m_place2_198 m_failed2_196 m_fault2_197 rfl (iv_w iq_0_0_0 (zle_e rfl) (zle_e rfl)) (iv_w iv_200 (zle_e rfl) (zle_e rfl)) (by omega) (fun m_at2 m_end2 m_failed2 m_fault2 d_fresh2 d_letters2 m_nameSize2 m_place2 m_token2 m_whole2 h => (Or.inl ⟨h_1, ⟨z_5, ez_5, ⟨z_8, ez_8, ⟨z_11, ez_11, ⟨m_at2_14, m_end2_15, m_failed2_16, m_fault2_17, d_letters2_18, m_nameSize2_19, m_place2_20, m_token2_21, m_whole2_22, r_23, hq_29, (Or.inr ⟨h_31, ⟨m_at2_180, m_end2_181, m_failed2_182, m_fault2_183, d_letters2_184, m_nameSize2_185, m_place2_186, m_token2_187, m_whole2_188, hq_194, ⟨m_failed2_196, m_fault2_197, m_place2_198, r_199, hq_203, h⟩⟩⟩)⟩⟩⟩⟩⟩))) ?_
      refine fun nn_211 => Nat.strongRecOn nn_211 (fun nn_211 ih_213 => ?_)
      intro u_204 u_206 u_207 u_209 hm_212 hv_205 hv_208 hx_210 KH_1
      refine k_iload X dX11_markLine_k2.1.1.2.2 0 rfl ?_
      refine k_aload_n X dX11_markLine_k2.1.2.1.1 5 rfl ?_
      refine k_get (ci := 11) X inlX11 rfl 16 (nlt_e rfl) dX11_markLine_k2.1.2.1.2 mw171 1 rfl rfl ?_
      refine k_bipush (v := 8) X dX11_markLine_k2.1.2.2.1 bi_8 ?_
      refine k_iald X dX11_markLine_k2.1.2.2.2 3 rfl (by unfold vp_in; decide) ?_
      refine k_to z_5 ez_5.symm ?_
      refine k_ic_ge 131 X dX11_markLine_k2.2.1.1.1 (jp_e rfl) (fun h_214 => ?_) (fun h_214 => ?_)
      · skip
        have j_215 : z_5.toInt ≤ u_204.toInt := iv_le h_214
        refine k_aload_n X dX11_markLine_k4.2.1.1.2 5 rfl ?_
        refine k_get (ci := 11) X inlX11 rfl 13 (nlt_e rfl) dX11_markLine_k4.2.1.2.1 mw469 1 rfl rfl ?_
        refine k_if_eq 139 X dX11_markLine_k4.2.1.2.2 (jp_e rfl) (fun h_216 => ?_) (fun h_216 => ?_)
        · skip
          have iv_217 : IV u_207 0 0 := iv_meet hv_208 (iv_e h_216 iq_0_0_0) (zle_o rfl) (zle_o rfl)
          refine k_aload_n X dX11_markLine_k4.2.2.1.2 5 rfl ?_
          refine k_callVV (n := 0) (As := []) (st := []) X [(cO11_i1r1i10r1i2r5i2r12i3r4i2 h0 m_thrown a_tape m_taped m_size m_at2_180 m_end2_181 m_token2_187 m_whole2_188 m_nameSize2_185 u_209 u_206 m_trouble a_letters u_207 m_hasHouse a_r a_fresh a_st a_undone a_kept m_undos m_images a_from a_begin a_motor a_change a_startFrame a_changeFrame a_lostAt a_blackAt a_slips a_leftArc a_died a_arcs m_bestSum m_nearest m_nearestTown a_there a_backAt a_sorted a_parts m_seed1 m_darkNow), (cAI g a_tape 900 d_tape), (cAI g a_letters 8 d_letters2_184)] [(cAI g a_fresh 311 d_fresh)] [1, 0, 2] [3] (m_nextX l g h0 m_thrown a_tape m_taped m_size m_at2_180 m_end2_181 m_token2_187 m_whole2_188 m_nameSize2_185 u_209 u_206 m_trouble a_letters u_207 m_hasHouse a_r a_fresh a_st a_undone a_kept m_undos m_images a_from a_begin a_motor a_change a_startFrame a_changeFrame a_lostAt a_blackAt a_slips a_leftArc a_died a_arcs m_bestSum m_nearest m_nearestTown a_there a_backAt a_sorted a_parts m_seed1 m_darkNow d_tape d_letters2_184 (iv_w hv_m_size (zle_e rfl) (zle_e rfl)) (iv_w iv_190 (zle_e rfl) (zle_e rfl)) (iv_w iv_192 (zle_e rfl) (zle_e rfl))) dX11_markLine_k4.2.2.2.1 mw489 mw490 mw491 mw5 mw492 rfl 11 rfl rfl 0 _ rfl yk_yX11_next_0 rfl (Nat.le_of_ble_eq_true rfl) (Nat.le_of_ble_eq_true rfl) (Nat.le_of_ble_eq_true rfl) (Nat.le_of_ble_eq_true rfl) (Nat.le_of_ble_eq_true rfl) rfl rfl (vnd_e rfl) rfl (vnd_e rfl) (dsj_e rfl) ?_
          intro w zq
          refine exE6 zq ?_
          clear zq
          intro m_at2_218 m_end2_219 d_letters2_220 m_nameSize2_221 m_token2_222 m_whole2_223 iv_225 zq
          refine exA5 zq ?_
          clear zq
          intro iv_226 hq_227 hq_228 hq_229 hk_230 zq
          subst zq
          refine k_ws [(cAI g a_fresh 311 d_fresh), (cO11_i1r1i10r1i2r5i2r12i3r4i2 h0 m_thrown a_tape m_taped m_size m_at2_218 m_end2_219 m_token2_222 m_whole2_223 m_nameSize2_221 u_209 u_206 m_trouble a_letters u_207 m_hasHouse a_r a_fresh a_st a_undone a_kept m_undos m_images a_from a_begin a_motor a_change a_startFrame a_changeFrame a_lostAt a_blackAt a_slips a_leftArc a_died a_arcs m_bestSum m_nearest m_nearestTown a_there a_backAt a_sorted a_parts m_seed1 m_darkNow), (cAI g a_tape 900 d_tape), (cAI g a_letters 8 d_letters2_220)] rfl ?_
          refine k_aload_n X dX11_markLine_k4.2.2.2.2 5 rfl ?_
          refine k_get (ci := 11) X inlX11 rfl 16 (nlt_e rfl) dX11_markLine_k5.1.1.1.1 mw171 1 rfl rfl ?_
          refine k_iload_n X dX11_markLine_k5.1.1.1.2 4 rfl ?_
          refine k_iload_n X dX11_markLine_k5.1.1.2.1 3 rfl ?_
          refine k_iast [(cAI g a_fresh 311 (upd d_fresh (z_11 : Int32).toNatClampNeg r_23)), (cO11_i1r1i10r1i2r5i2r12i3r4i2 h0 m_thrown a_tape m_taped m_size m_at2_218 m_end2_219 m_token2_222 m_whole2_223 m_nameSize2_221 u_209 u_206 m_trouble a_letters u_207 m_hasHouse a_r a_fresh a_st a_undone a_kept m_undos m_images a_from a_begin a_motor a_change a_startFrame a_changeFrame a_lostAt a_blackAt a_slips a_leftArc a_died a_arcs m_bestSum m_nearest m_nearestTown a_there a_backAt a_sorted a_parts m_seed1 m_darkNow), (cAI g a_tape 900 d_tape), (cAI g a_letters 8 d_letters2_220)] X dX11_markLine_k5.1.1.2.2 0 rfl (iv_in iv_13 (zle_e rfl) (zle_l rfl)) rfl ?_
          have i_233 : z_11.toInt = 44 + 3 * z_5.toInt := by omega
          refine (fun hg : ∀ fa_231 : Nat → Int32, fa_231 = upd d_fresh (z_11 : Int32).toNatClampNeg r_23 → RInv fa_231 → K16 d_fresh fa_231 → Wk p l e _ s m args below meth c _ A g _ _ _ [(cAI g a_fresh 311 fa_231), (cO11_i1r1i10r1i2r5i2r12i3r4i2 h0 m_thrown a_tape m_taped m_size m_at2_218 m_end2_219 m_token2_222 m_whole2_223 m_nameSize2_221 u_209 u_206 m_trouble a_letters u_207 m_hasHouse a_r a_fresh a_st a_undone a_kept m_undos m_images a_from a_begin a_motor a_change a_startFrame a_changeFrame a_lostAt a_blackAt a_slips a_leftArc a_died a_arcs m_bestSum m_nearest m_nearestTown a_there a_backAt a_sorted a_parts m_seed1 m_darkNow), (cAI g a_tape 900 d_tape), (cAI g a_letters 8 d_letters2_220)] _ _ _ => hg _ rfl (w_rb_44_3 hp_d_fresh i_233 (iv_w iv_7 (zle_e rfl) (zle_e rfl)) (iv_w iv_27 (zle_e rfl) (zle_e rfl))) (k16_u (z := z_11) (by have := iv_13; omega))) (fun fa_231 eq_235 hR_232 hk_234 => ?_)
          have ek_236 : z_5 = fa_231 (8 : Int32).toNatClampNeg := ez_5.trans (hk_234 _ (by decide)).symm
          have hT_237 : TRI fa_231 := by have := iv_13; exact tri_z (z := z_11) eq_235 hr_0 hp_d_fresh (by omega) (by omega) (by omega) (by omega) (by omega)
          refine k_aload_n X dX11_markLine_k5.1.2.1.1 5 rfl ?_
          refine k_get (ci := 11) X inlX11 rfl 16 (nlt_e rfl) dX11_markLine_k5.1.2.1.2 mw171 1 rfl rfl ?_
          refine k_iload_n X dX11_markLine_k5.1.2.2.1 4 rfl ?_
          refine k_iconst (v := 1) X dX11_markLine_k5.1.2.2.2 ic_1 ?_
          refine k_iadd X dX11_markLine_k5.2.1.1.1 ?_
          refine k_nm (fun z_238 ez_238 => ?_)
          have i_239 : z_238.toInt = z_11.toInt + 1 := in_add ez_238 iv_13 iq_1_1_1 (zle_e rfl) (zle_e rfl)
          have iv_240 : IV z_238 45 78 := iz1 i_239 iv_13 (zle_e rfl) (zle_e rfl)
          refine k_iload_n X dX11_markLine_k5.2.1.1.2 2 rfl ?_
          refine k_iast [(cAI g a_fresh 311 (upd fa_231 (z_238 : Int32).toNatClampNeg 0)), (cO11_i1r1i10r1i2r5i2r12i3r4i2 h0 m_thrown a_tape m_taped m_size m_at2_218 m_end2_219 m_token2_222 m_whole2_223 m_nameSize2_221 u_209 u_206 m_trouble a_letters u_207 m_hasHouse a_r a_fresh a_st a_undone a_kept m_undos m_images a_from a_begin a_motor a_change a_startFrame a_changeFrame a_lostAt a_blackAt a_slips a_leftArc a_died a_arcs m_bestSum m_nearest m_nearestTown a_there a_backAt a_sorted a_parts m_seed1 m_darkNow), (cAI g a_tape 900 d_tape), (cAI g a_letters 8 d_letters2_220)] X dX11_markLine_k5.2.1.2.1 0 rfl (iv_in iv_240 (zle_e rfl) (zle_l rfl)) rfl ?_
          refine (fun hg : ∀ fa_241 : Nat → Int32, fa_241 = upd fa_231 (z_238 : Int32).toNatClampNeg 0 → RInv fa_241 → K16 fa_231 fa_241 → Wk p l e _ s m args below meth c _ A g _ _ _ [(cAI g a_fresh 311 fa_241), (cO11_i1r1i10r1i2r5i2r12i3r4i2 h0 m_thrown a_tape m_taped m_size m_at2_218 m_end2_219 m_token2_222 m_whole2_223 m_nameSize2_221 u_209 u_206 m_trouble a_letters u_207 m_hasHouse a_r a_fresh a_st a_undone a_kept m_undos m_images a_from a_begin a_motor a_change a_startFrame a_changeFrame a_lostAt a_blackAt a_slips a_leftArc a_died a_arcs m_bestSum m_nearest m_nearestTown a_there a_backAt a_sorted a_parts m_seed1 m_darkNow), (cAI g a_tape 900 d_tape), (cAI g a_letters 8 d_letters2_220)] _ _ _ => hg _ rfl (w_zero hR_232) (k16_u (z := z_238) (by have := iv_240; omega))) (fun fa_241 eq_244 hR_242 hk_243 => ?_)
          have ek_245 : z_5 = fa_241 (8 : Int32).toNatClampNeg := ek_236.trans (hk_243 _ (by decide)).symm
          have hT_246 : TRI fa_241 := by have := iv_240; exact tri_z (z := z_238) eq_244 hT_237 hR_232 (by omega) (by omega) (by omega) (by omega) (by omega)
          refine k_aload_n X dX11_markLine_k5.2.1.2.2 5 rfl ?_
          refine k_get (ci := 11) X inlX11 rfl 16 (nlt_e rfl) dX11_markLine_k5.2.2.1.1 mw171 1 rfl rfl ?_
          refine k_iload_n X dX11_markLine_k5.2.2.1.2 4 rfl ?_
          refine k_iconst (v := 2) X dX11_markLine_k5.2.2.2.1 ic_2 ?_
          refine k_iadd X dX11_markLine_k5.2.2.2.2 ?_
          refine k_nm (fun z_247 ez_247 => ?_)
          have i_248 : z_247.toInt = z_11.toInt + 2 := in_add ez_247 iv_13 iq_2_2_2 (zle_e rfl) (zle_e rfl)
          have iv_249 : IV z_247 46 79 := iz1 i_248 iv_13 (zle_e rfl) (zle_e rfl)
          refine k_iload X dX11_markLine_k6.1.1.1 1 rfl ?_
          refine k_iast [(cAI g a_fresh 311 (upd fa_241 (z_247 : Int32).toNatClampNeg r_199)), (cO11_i1r1i10r1i2r5i2r12i3r4i2 h0 m_thrown a_tape m_taped m_size m_at2_218 m_end2_219 m_token2_222 m_whole2_223 m_nameSize2_221 u_209 u_206 m_trouble a_letters u_207 m_hasHouse a_r a_fresh a_st a_undone a_kept m_undos m_images a_from a_begin a_motor a_change a_startFrame a_changeFrame a_lostAt a_blackAt a_slips a_leftArc a_died a_arcs m_bestSum m_nearest m_nearestTown a_there a_backAt a_sorted a_parts m_seed1 m_darkNow), (cAI g a_tape 900 d_tape), (cAI g a_letters 8 d_letters2_220)] X dX11_markLine_k6.1.1.2 0 rfl (iv_in iv_249 (zle_e rfl) (zle_l rfl)) rfl ?_
          have i_252 : z_247.toInt = 46 + 3 * z_5.toInt := by omega
          refine (fun hg : ∀ fa_250 : Nat → Int32, fa_250 = upd fa_241 (z_247 : Int32).toNatClampNeg r_199 → RInv fa_250 → K16 fa_241 fa_250 → Wk p l e _ s m args below meth c _ A g _ _ _ [(cAI g a_fresh 311 fa_250), (cO11_i1r1i10r1i2r5i2r12i3r4i2 h0 m_thrown a_tape m_taped m_size m_at2_218 m_end2_219 m_token2_222 m_whole2_223 m_nameSize2_221 u_209 u_206 m_trouble a_letters u_207 m_hasHouse a_r a_fresh a_st a_undone a_kept m_undos m_images a_from a_begin a_motor a_change a_startFrame a_changeFrame a_lostAt a_blackAt a_slips a_leftArc a_died a_arcs m_bestSum m_nearest m_nearestTown a_there a_backAt a_sorted a_parts m_seed1 m_darkNow), (cAI g a_tape 900 d_tape), (cAI g a_letters 8 d_letters2_220)] _ _ _ => hg _ rfl (w_rb_46_3 hR_242 i_252 (iv_w iv_7 (zle_e rfl) (zle_e rfl)) (iv_w iv_201 (zle_e rfl) (zle_e rfl))) (k16_u (z := z_247) (by have := iv_249; omega))) (fun fa_250 eq_254 hR_251 hk_253 => ?_)
          have ek_255 : z_5 = fa_250 (8 : Int32).toNatClampNeg := ek_245.trans (hk_253 _ (by decide)).symm
          refine k_aload_n X dX11_markLine_k6.1.2.1 5 rfl ?_
          refine k_get (ci := 11) X inlX11 rfl 16 (nlt_e rfl) dX11_markLine_k6.1.2.2.1 mw171 1 rfl rfl ?_
          refine k_bipush (v := 8) X dX11_markLine_k6.1.2.2.2 bi_8 ?_
          refine k_dup2 X dX11_markLine_k6.2.1.1 rfl rfl ?_
          refine k_iald X dX11_markLine_k6.2.1.2.1 0 rfl (by unfold vp_in; decide) ?_
          refine k_to z_5 ek_255.symm ?_
          refine k_iconst (v := 1) X dX11_markLine_k6.2.1.2.2 ic_1 ?_
          refine k_iadd X dX11_markLine_k6.2.2.1 ?_
          refine k_nm (fun z_257 ez_257 => ?_)
          have i_258 : z_257.toInt = z_5.toInt + 1 := in_add ez_257 iv_7 iq_1_1_1 (zle_e rfl) (zle_e rfl)
          have iv_259 : IV z_257 1 12 := iz1 i_258 iv_7 (zle_e rfl) (zle_e rfl)
          refine k_iast [(cAI g a_fresh 311 (upd fa_250 (8 : Int32).toNatClampNeg z_257)), (cO11_i1r1i10r1i2r5i2r12i3r4i2 h0 m_thrown a_tape m_taped m_size m_at2_218 m_end2_219 m_token2_222 m_whole2_223 m_nameSize2_221 u_209 u_206 m_trouble a_letters u_207 m_hasHouse a_r a_fresh a_st a_undone a_kept m_undos m_images a_from a_begin a_motor a_change a_startFrame a_changeFrame a_lostAt a_blackAt a_slips a_leftArc a_died a_arcs m_bestSum m_nearest m_nearestTown a_there a_backAt a_sorted a_parts m_seed1 m_darkNow), (cAI g a_tape 900 d_tape), (cAI g a_letters 8 d_letters2_220)] X dX11_markLine_k6.2.2.2.1 0 rfl (by unfold vp_in; decide) rfl ?_
          refine (fun hg : ∀ fa_260 : Nat → Int32, fa_260 = upd fa_250 (8 : Int32).toNatClampNeg z_257 → RInv fa_260 → Wk p l e _ s m args below meth c _ A g _ _ _ [(cAI g a_fresh 311 fa_260), (cO11_i1r1i10r1i2r5i2r12i3r4i2 h0 m_thrown a_tape m_taped m_size m_at2_218 m_end2_219 m_token2_222 m_whole2_223 m_nameSize2_221 u_209 u_206 m_trouble a_letters u_207 m_hasHouse a_r a_fresh a_st a_undone a_kept m_undos m_images a_from a_begin a_motor a_change a_startFrame a_changeFrame a_lostAt a_blackAt a_slips a_leftArc a_died a_arcs m_bestSum m_nearest m_nearestTown a_there a_backAt a_sorted a_parts m_seed1 m_darkNow), (cAI g a_tape 900 d_tape), (cAI g a_letters 8 d_letters2_220)] _ _ _ => hg _ rfl (w_rb_8 hR_251 (iv_w iv_259 (zle_e rfl) (zle_e rfl)))) (fun fa_260 eq_263 hR_261 => ?_)
          have hT_264 : TRI fa_260 := tri_mark (v := z_5) hr_0 hp_d_fresh eq_235 eq_244 eq_254 eq_263 (by omega) (by omega) (by omega) (by omega) (by omega) (iv_w iv_7 (zle_e rfl) (zle_e rfl)) (iv_w iv_201 (zle_e rfl) (zle_e rfl)) (hq_202.resolve_left (by omega))
          exact k_vret X hr dX11_markLine_k6.2.2.2.2 (Nat.le_of_ble_eq_true rfl) (Nat.le_of_ble_eq_true rfl) [1, 2, 3, 0] (vnd_e rfl) rfl rfl ⟨m_at2_218, m_end2_219, u_207, u_209, fa_260, d_letters2_220, m_nameSize2_221, u_206, m_token2_222, m_whole2_223, (iv_w iv_225 (zle_e rfl) (zle_e rfl)), (iv_w iv_217 (zle_e rfl) (zle_e rfl)), (iv_w iv_226 (zle_e rfl) (zle_e rfl)), hR_261, (by omega), hT_264, (KH_1 _ _ _ _ _ _ _ _ _ _ ⟨0 + 1, (Or.inl ⟨h_214, (Or.inl ⟨h_216, ⟨m_at2_218, m_end2_219, d_letters2_220, m_nameSize2_221, m_token2_222, m_whole2_223, hq_229, ⟨fa_231, eq_235, ⟨z_238, ez_238, ⟨fa_241, eq_244, ⟨z_247, ez_247, ⟨fa_250, eq_254, ⟨z_257, ez_257, ⟨fa_260, eq_263, ⟨rfl, rfl, rfl, rfl, rfl, rfl, rfl, rfl, rfl, rfl⟩⟩⟩⟩⟩⟩⟩⟩⟩⟩)⟩)⟩), hk_230, rfl⟩
        · skip
          have iv_265 : IV u_207 1 1 := iv_neL h_216 hv_208 iq_0_0_0 (zle_e rfl)
          exact k_vret X hr dX11_markLine_k4.2.2.1.1 (Nat.le_of_ble_eq_true rfl) (Nat.le_of_ble_eq_true rfl) [1, 0, 2, 3] (vnd_e rfl) rfl rfl ⟨m_at2_180, m_end2_181, u_207, u_209, d_fresh, d_letters2_184, m_nameSize2_185, u_206, m_token2_187, m_whole2_188, (iv_w iv_190 (zle_e rfl) (zle_e rfl)), (iv_w iv_265 (zle_e rfl) (zle_e rfl)), (iv_w iv_192 (zle_e rfl) (zle_e rfl)), hp_d_fresh, (by omega), hr_0, (KH_1 _ _ _ _ _ _ _ _ _ _ ⟨0 + 1, (Or.inl ⟨h_214, (Or.inr ⟨h_216, ⟨rfl, rfl, rfl, rfl, rfl, rfl, rfl, rfl, rfl, rfl⟩⟩)⟩)⟩), hk_195, rfl⟩
      · skip
        have j_266 : u_204.toInt < z_5.toInt := iv_nle h_214
        have iv_267 : IV u_204 0 10 := iv_ltL (iv_nle h_214) hv_205 iv_7 (zle_e rfl)
        have iv_268 : IV z_5 1 11 := iv_ltR (iv_nle h_214) hv_205 iv_7 (zle_e rfl)
        refine k_aload_n X dX11_markLine_k2.2.1.1.2 5 rfl ?_
        refine k_get (ci := 11) X inlX11 rfl 13 (nlt_e rfl) dX11_markLine_k2.2.1.2.1 mw469 1 rfl rfl ?_
        refine k_if_ne 125 X dX11_markLine_k2.2.1.2.2 (jp_e rfl) (fun h_269 => ?_) (fun h_269 => ?_)
        · skip
          have iv_270 : IV u_207 1 1 := iv_neL h_269 hv_208 iq_0_0_0 (zle_e rfl)
          obtain ⟨z_271, ez_271⟩ : ∃ y : Int32, u_204 + Int32.ofInt 1 = y := ⟨_, rfl⟩
          refine k_iinc z_271 [(5, .int z_271), (4, .int r_199), (3, .int 0), (2, .int r_23), (1, .int z_11), (0, .ref h0)] 0 X dX11_markLine_k4.1.2.2.2 rfl ez_271 (nlt_e rfl) rfl ?_
          have i_272 : z_271.toInt = u_204.toInt + 1 := in_inc ez_271 (oin_e rfl) iv_267 (zle_e rfl) (zle_e rfl)
          have iv_273 : IV z_271 1 11 := iz1 i_272 iv_267 (zle_e rfl) (zle_e rfl)
          refine k_goto 62 X dX11_markLine_k4.2.1.1.1 (jp_e rfl) ?_
          exact ih_213 _ (by omega) z_271 u_206 u_207 u_209 rfl (iv_w iv_273 (zle_e rfl) (zle_e rfl)) (iv_w iv_270 (zle_e rfl) (zle_e rfl)) (by omega) (fun m_at2 m_end2 m_failed2 m_fault2 d_fresh2 d_letters2 m_nameSize2 m_place2 m_token2 m_whole2 h => h.elim (fun n_1 q => (KH_1 _ _ _ _ _ _ _ _ _ _ ⟨n_1 + 1, (Or.inr ⟨h_214, (Or.inl ⟨h_269, ⟨z_271, ez_271, q⟩⟩)⟩)⟩)))
        · skip
          have iv_274 : IV u_207 0 0 := iv_meet hv_208 (iv_e h_269 iq_0_0_0) (zle_o rfl) (zle_o rfl)
          refine k_aload_n X dX11_markLine_k2.2.2.1.1 5 rfl ?_
          refine k_get (ci := 11) X inlX11 rfl 16 (nlt_e rfl) dX11_markLine_k2.2.2.1.2 mw171 1 rfl rfl ?_
          refine k_bipush (v := 44) X dX11_markLine_k2.2.2.2.1 bi_44 ?_
          refine k_iconst (v := 3) X dX11_markLine_k2.2.2.2.2 ic_3 ?_
          refine k_iload X dX11_markLine_k3.1.1.1.1 0 rfl ?_
          refine k_imul X dX11_markLine_k3.1.1.1.2 ?_
          refine k_nm (fun z_275 ez_275 => ?_)
          have i_276 : z_275.toInt = 3 * u_204.toInt := in_mul ez_275 (by decide) (zle_e rfl) iv_267 (zle_e rfl) (zle_e rfl)
          have iv_277 : IV z_275 0 30 := iz4 i_276 iv_267 (zle_e rfl) (zle_e rfl) (zle_e rfl)
          refine k_iadd X dX11_markLine_k3.1.1.2.1 ?_
          refine k_nm (fun z_278 ez_278 => ?_)
          have i_279 : z_278.toInt = 44 + z_275.toInt := in_add ez_278 iq_44_44_44 iv_277 (zle_e rfl) (zle_e rfl)
          have iv_280 : IV z_278 44 74 := iz2 i_279 iv_277 (zle_e rfl) (zle_e rfl)
          refine k_iald X dX11_markLine_k3.1.1.2.2 3 rfl (iv_in iv_280 (zle_e rfl) (zle_l rfl)) ?_
          refine k_nm (fun z_281 ez_281 => ?_)
          have i_282 : z_278.toInt = 44 + 3 * u_204.toInt := by omega
          have iv_283 : IV z_281 0 7 := rb_44_3 ez_281 hp_d_fresh i_282 (iv_w iv_267 (zle_e rfl) (zle_e rfl))
          refine k_iload_n X dX11_markLine_k3.1.2.1.1 3 rfl ?_
          refine k_ic_ne 125 X dX11_markLine_k3.1.2.1.2 (jp_e rfl) (fun h_284 => ?_) (fun h_284 => ?_)
          · skip
            obtain ⟨z_285, ez_285⟩ : ∃ y : Int32, u_204 + Int32.ofInt 1 = y := ⟨_, rfl⟩
            refine k_iinc z_285 [(5, .int z_285), (4, .int r_199), (3, .int 0), (2, .int r_23), (1, .int z_11), (0, .ref h0)] 0 X dX11_markLine_k4.1.2.2.2 rfl ez_285 (nlt_e rfl) rfl ?_
            have i_286 : z_285.toInt = u_204.toInt + 1 := in_inc ez_285 (oin_e rfl) iv_267 (zle_e rfl) (zle_e rfl)
            have iv_287 : IV z_285 1 11 := iz1 i_286 iv_267 (zle_e rfl) (zle_e rfl)
            refine k_goto 62 X dX11_markLine_k4.2.1.1.1 (jp_e rfl) ?_
            exact ih_213 _ (by omega) z_285 u_206 u_207 u_209 rfl (iv_w iv_287 (zle_e rfl) (zle_e rfl)) (iv_w iv_274 (zle_e rfl) (zle_e rfl)) (by omega) (fun m_at2 m_end2 m_failed2 m_fault2 d_fresh2 d_letters2 m_nameSize2 m_place2 m_token2 m_whole2 h => h.elim (fun n_1 q => (KH_1 _ _ _ _ _ _ _ _ _ _ ⟨n_1 + 1, (Or.inr ⟨h_214, (Or.inr ⟨h_269, ⟨z_275, ez_275, ⟨z_278, ez_278, ⟨z_281, ez_281, (Or.inl ⟨h_284, ⟨z_285, ez_285, q⟩⟩)⟩⟩⟩⟩)⟩)⟩)))
          · skip
            refine k_aload_n X dX11_markLine_k3.1.2.2.1 5 rfl ?_
            refine k_get (ci := 11) X inlX11 rfl 16 (nlt_e rfl) dX11_markLine_k3.1.2.2.2 mw171 1 rfl rfl ?_
            refine k_bipush (v := 44) X dX11_markLine_k3.2.1.1.1 bi_44 ?_
            refine k_iconst (v := 3) X dX11_markLine_k3.2.1.1.2 ic_3 ?_
            refine k_iload X dX11_markLine_k3.2.1.2.1 0 rfl ?_
            refine k_imul X dX11_markLine_k3.2.1.2.2 ?_
            refine k_to z_275 ez_275.symm ?_
            refine k_iadd X dX11_markLine_k3.2.2.1.1 ?_
            refine k_to z_278 ez_278.symm ?_
            refine k_iconst (v := 2) X dX11_markLine_k3.2.2.1.2 ic_2 ?_
            refine k_iadd X dX11_markLine_k3.2.2.2.1 ?_
            refine k_nm (fun z_288 ez_288 => ?_)
            have i_289 : z_288.toInt = z_278.toInt + 2 := in_add ez_288 iv_280 iq_2_2_2 (zle_e rfl) (zle_e rfl)
            have iv_290 : IV z_288 46 76 := iz1 i_289 iv_280 (zle_e rfl) (zle_e rfl)
            refine k_iald X dX11_markLine_k3.2.2.2.2 3 rfl (iv_in iv_290 (zle_e rfl) (zle_l rfl)) ?_
            refine k_nm (fun z_291 ez_291 => ?_)
            have i_292 : z_288.toInt = 46 + 3 * u_204.toInt := by omega
            have iv_293 : IV z_291 0 3 := rb_46_3 ez_291 hp_d_fresh i_292 (iv_w iv_267 (zle_e rfl) (zle_e rfl))
            refine k_iload X dX11_markLine_k4.1.1.1.1 1 rfl ?_
            refine k_ic_ne 125 X dX11_markLine_k4.1.1.1.2 (jp_e rfl) (fun h_294 => ?_) (fun h_294 => ?_)
            · skip
              obtain ⟨z_295, ez_295⟩ : ∃ y : Int32, u_204 + Int32.ofInt 1 = y := ⟨_, rfl⟩
              refine k_iinc z_295 [(5, .int z_295), (4, .int r_199), (3, .int 0), (2, .int r_23), (1, .int z_11), (0, .ref h0)] 0 X dX11_markLine_k4.1.2.2.2 rfl ez_295 (nlt_e rfl) rfl ?_
              have i_296 : z_295.toInt = u_204.toInt + 1 := in_inc ez_295 (oin_e rfl) iv_267 (zle_e rfl) (zle_e rfl)
              have iv_297 : IV z_295 1 11 := iz1 i_296 iv_267 (zle_e rfl) (zle_e rfl)
              refine k_goto 62 X dX11_markLine_k4.2.1.1.1 (jp_e rfl) ?_
              exact ih_213 _ (by omega) z_295 u_206 u_207 u_209 rfl (iv_w iv_297 (zle_e rfl) (zle_e rfl)) (iv_w iv_274 (zle_e rfl) (zle_e rfl)) (by omega) (fun m_at2 m_end2 m_failed2 m_fault2 d_fresh2 d_letters2 m_nameSize2 m_place2 m_token2 m_whole2 h => h.elim (fun n_1 q => (KH_1 _ _ _ _ _ _ _ _ _ _ ⟨n_1 + 1, (Or.inr ⟨h_214, (Or.inr ⟨h_269, ⟨z_275, ez_275, ⟨z_278, ez_278, ⟨z_281, ez_281, (Or.inr ⟨h_284, ⟨z_288, ez_288, ⟨z_291, ez_291, (Or.inl ⟨h_294, ⟨z_295, ez_295, q⟩⟩)⟩⟩⟩)⟩⟩⟩⟩)⟩)⟩)))
            · skip
              refine k_aload_n X dX11_markLine_k4.1.1.2.1 5 rfl ?_
              refine k_iconst (v := 3) X dX11_markLine_k4.1.1.2.2 ic_3 ?_
              refine k_aload_n X dX11_markLine_k4.1.2.1.1 5 rfl ?_
              refine k_get (ci := 11) X inlX11 rfl 4 (nlt_e rfl) dX11_markLine_k4.1.2.1.2 mw473 1 rfl rfl ?_
              refine k_callVV (n := 2) (As := [.int 3, .int m_at2_180]) (st := []) X [(cO11_i1r1i10r1i2r5i2r12i3r4i2 h0 m_thrown a_tape m_taped m_size m_at2_180 m_end2_181 m_token2_187 m_whole2_188 m_nameSize2_185 u_209 u_206 m_trouble a_letters u_207 m_hasHouse a_r a_fresh a_st a_undone a_kept m_undos m_images a_from a_begin a_motor a_change a_startFrame a_changeFrame a_lostAt a_blackAt a_slips a_leftArc a_died a_arcs m_bestSum m_nearest m_nearestTown a_there a_backAt a_sorted a_parts m_seed1 m_darkNow)] [(cAI g a_tape 900 d_tape), (cAI g a_letters 8 d_letters2_184), (cAI g a_fresh 311 d_fresh)] [1] [0, 2, 3] (m_badX l g h0 3 m_at2_180 m_thrown a_tape m_taped m_size m_at2_180 m_end2_181 m_token2_187 m_whole2_188 m_nameSize2_185 u_209 u_206 m_trouble a_letters u_207 m_hasHouse a_r a_fresh a_st a_undone a_kept m_undos m_images a_from a_begin a_motor a_change a_startFrame a_changeFrame a_lostAt a_blackAt a_slips a_leftArc a_died a_arcs m_bestSum m_nearest m_nearestTown a_there a_backAt a_sorted a_parts m_seed1 m_darkNow (iv_w iv_274 (zle_e rfl) (zle_e rfl))) dX11_markLine_k4.1.2.2.1 mw519 mw520 mw521 mw5 mw522 rfl 11 rfl rfl 0 _ rfl yk_yX11_bad_2 rfl (Nat.le_of_ble_eq_true rfl) (Nat.le_of_ble_eq_true rfl) (Nat.le_of_ble_eq_true rfl) (Nat.le_of_ble_eq_true rfl) (Nat.le_of_ble_eq_true rfl) rfl rfl (vnd_e rfl) rfl (vnd_e rfl) (dsj_e rfl) ?_
              rintro w ⟨m_failed2_298, m_fault2_299, m_place2_300, iv_302, hq_303, rfl⟩
              refine k_ws [(cAI g a_tape 900 d_tape), (cAI g a_letters 8 d_letters2_184), (cAI g a_fresh 311 d_fresh), (cO11_i1r1i10r1i2r5i2r12i3r4i2 h0 m_thrown a_tape m_taped m_size m_at2_180 m_end2_181 m_token2_187 m_whole2_188 m_nameSize2_185 m_fault2_299 m_place2_300 m_trouble a_letters m_failed2_298 m_hasHouse a_r a_fresh a_st a_undone a_kept m_undos m_images a_from a_begin a_motor a_change a_startFrame a_changeFrame a_lostAt a_blackAt a_slips a_leftArc a_died a_arcs m_bestSum m_nearest m_nearestTown a_there a_backAt a_sorted a_parts m_seed1 m_darkNow)] rfl ?_
              obtain ⟨z_304, ez_304⟩ : ∃ y : Int32, u_204 + Int32.ofInt 1 = y := ⟨_, rfl⟩
              refine k_iinc z_304 [(5, .int z_304), (4, .int r_199), (3, .int 0), (2, .int r_23), (1, .int z_11), (0, .ref h0)] 0 X dX11_markLine_k4.1.2.2.2 rfl ez_304 (nlt_e rfl) rfl ?_
              have i_305 : z_304.toInt = u_204.toInt + 1 := in_inc ez_304 (oin_e rfl) iv_267 (zle_e rfl) (zle_e rfl)
              have iv_306 : IV z_304 1 11 := iz1 i_305 iv_267 (zle_e rfl) (zle_e rfl)
              refine k_goto 62 X dX11_markLine_k4.2.1.1.1 (jp_e rfl) ?_
              refine k_sub [(cAI g a_tape 900 d_tape), (cO11_i1r1i10r1i2r5i2r12i3r4i2 h0 m_thrown a_tape m_taped m_size m_at2_180 m_end2_181 m_token2_187 m_whole2_188 m_nameSize2_185 m_fault2_299 m_place2_300 m_trouble a_letters m_failed2_298 m_hasHouse a_r a_fresh a_st a_undone a_kept m_undos m_images a_from a_begin a_motor a_change a_startFrame a_changeFrame a_lostAt a_blackAt a_slips a_leftArc a_died a_arcs m_bestSum m_nearest m_nearestTown a_there a_backAt a_sorted a_parts m_seed1 m_darkNow), (cAI g a_letters 8 d_letters2_184), (cAI g a_fresh 311 d_fresh)] [0, 3, 1, 2] rfl (by decide) rfl ?_
              exact ih_213 _ (by omega) z_304 m_place2_300 m_failed2_298 m_fault2_299 rfl (iv_w iv_306 (zle_e rfl) (zle_e rfl)) (iv_w iv_302 (zle_e rfl) (zle_e rfl)) (by omega) (fun m_at2 m_end2 m_failed2 m_fault2 d_fresh2 d_letters2 m_nameSize2 m_place2 m_token2 m_whole2 h => h.elim (fun n_1 q => (KH_1 _ _ _ _ _ _ _ _ _ _ ⟨n_1 + 1, (Or.inr ⟨h_214, (Or.inr ⟨h_269, ⟨z_275, ez_275, ⟨z_278, ez_278, ⟨z_281, ez_281, (Or.inr ⟨h_284, ⟨z_288, ez_288, ⟨z_291, ez_291, (Or.inr ⟨h_294, ⟨m_failed2_298, m_fault2_299, m_place2_300, hq_303, ⟨z_304, ez_304, q⟩⟩⟩)⟩⟩⟩)⟩⟩⟩⟩)⟩)⟩)))
  · skip
    have iv_307 : IV m_failed 1 1 := iv_neL h_1 hv_m_failed iq_0_0_0 (zle_e rfl)
    exact k_vret X hr dX11_markLine_k0.1.1.2.2 (Nat.le_of_ble_eq_true rfl) (Nat.le_of_ble_eq_true rfl) [0, 1, 2, 3] (vnd_e rfl) rfl rfl ⟨m_at, m_end, m_failed, m_fault, d_fresh, d_letters, m_nameSize, m_place, m_token, m_whole, (iv_w hv_m_end (zle_e rfl) (zle_e rfl)), (iv_w iv_307 (zle_e rfl) (zle_e rfl)), (iv_w hv_m_nameSize (zle_e rfl) (zle_e rfl)), hp_d_fresh, (by omega), hr_0, (Or.inr ⟨h_1, ⟨rfl, rfl, rfl, rfl, rfl, rfl, rfl, rfl, rfl, rfl⟩⟩), hc_1, rfl⟩


set_option maxHeartbeats 4000000 in
set_option maxRecDepth 100000 in
theorem m_joinLineX (l : Launch) (g : Gx) (h0 : Nat) (m_thrown : Int32) (a_tape : Nat) (m_taped : Int32) (m_size : Int32) (m_at : Int32) (m_end : Int32) (m_token : Int32) (m_whole : Int32) (m_nameSize : Int32) (m_fault : Int32) (m_place : Int32) (m_trouble : Int32) (a_letters : Nat) (m_failed : Int32) (m_hasHouse : Int32) (a_r : Nat) (a_fresh : Nat) (a_st : Nat) (a_undone : Nat) (a_kept : Nat) (m_undos : Int32) (m_images : Int32) (a_from : Nat) (a_begin : Nat) (a_motor : Nat) (a_change : Nat) (a_startFrame : Nat) (a_changeFrame : Nat) (a_lostAt : Nat) (a_blackAt : Nat) (a_slips : Nat) (a_leftArc : Nat) (a_died : Nat) (a_arcs : Nat) (m_bestSum : Int32) (m_nearest : Int32) (m_nearestTown : Int32) (a_there : Nat) (a_backAt : Nat) (a_sorted : Nat) (a_parts : Nat) (m_seed1 : Int32) (m_darkNow : Int32) (d_tape : Nat → Int32) (d_letters : Nat → Int32) (d_fresh : Nat → Int32) (hv_m_size : IV m_size 0 900) (hv_m_end : IV m_end 0 900) (hv_m_nameSize : IV m_nameSize 0 900) (hv_m_failed : IV m_failed 0 1) (hp_d_fresh : RInv d_fresh) (hr_0 : TRI d_fresh) (hc_0 : m_failed = 1 ∨ ((d_fresh 9).toInt ≤ 7)) (hc_1 : m_token = 2 → IV m_nameSize 0 8) : cV l g yX11_joinLine cX11_joinLine 2 8 173 0 0 [.ref h0] [(cO11_i1r1i10r1i2r5i2r12i3r4i2 h0 m_thrown a_tape m_taped m_size m_at m_end m_token m_whole m_nameSize m_fault m_place m_trouble a_letters m_failed m_hasHouse a_r a_fresh a_st a_undone a_kept m_undos m_images a_from a_begin a_motor a_change a_startFrame a_changeFrame a_lostAt a_blackAt a_slips a_leftArc a_died a_arcs m_bestSum m_nearest m_nearestTown a_there a_backAt a_sorted a_parts m_seed1 m_darkNow), (cAI g a_tape 900 d_tape), (cAI g a_letters 8 d_letters), (cAI g a_fresh 311 d_fresh)] (fun w => ∃ (m_at2 : Int32) (m_end2 : Int32) (m_failed2 : Int32) (m_fault2 : Int32) (d_fresh2 : Nat → Int32) (d_letters2 : Nat → Int32) (m_nameSize2 : Int32) (m_place2 : Int32) (m_token2 : Int32) (m_whole2 : Int32), IV m_end2 0 900 ∧ IV m_failed2 0 1 ∧ IV m_nameSize2 0 900 ∧ RInv d_fresh2 ∧ (m_end.toInt ≤ m_end2.toInt) ∧ (TRI d_fresh2) ∧ (R_m_joinLineX m_size m_at m_end m_token m_whole m_nameSize m_fault m_place m_failed d_tape d_letters d_fresh m_at2 m_end2 m_failed2 m_fault2 d_fresh2 d_letters2 m_nameSize2 m_place2 m_token2 m_whole2) ∧ (m_token2 = 2 → IV m_nameSize2 0 8) ∧ w = [(cO11_i1r1i10r1i2r5i2r12i3r4i2 h0 m_thrown a_tape m_taped m_size m_at2 m_end2 m_token2 m_whole2 m_nameSize2 m_fault2 m_place2 m_trouble a_letters m_failed2 m_hasHouse a_r a_fresh a_st a_undone a_kept m_undos m_images a_from a_begin a_motor a_change a_startFrame a_changeFrame a_lostAt a_blackAt a_slips a_leftArc a_died a_arcs m_bestSum m_nearest m_nearestTown a_there a_backAt a_sorted a_parts m_seed1 m_darkNow), (cAI g a_tape 900 d_tape), (cAI g a_letters 8 d_letters2), (cAI g a_fresh 311 d_fresh2)]) := by
  refine cV.of (by decide) (Nat.le_of_ble_eq_true rfl) ?_
  intro p e s m args below meth c A X hr hi
  refine k_lveq [(0, .ref h0)] rfl ?_
  refine k_aload_n X dX11_joinLine_k0.1.1.1.1 0 rfl ?_
  refine k_get (ci := 11) X inlX11 rfl 13 (nlt_e rfl) dX11_joinLine_k0.1.1.1.2 mw469 0 rfl rfl ?_
  refine k_if_eq 8 X dX11_joinLine_k0.1.1.2.1 (jp_e rfl) (fun h_1 => ?_) (fun h_1 => ?_)
  · skip
    have iv_2 : IV m_failed 0 0 := iv_meet hv_m_failed (iv_e h_1 iq_0_0_0) (zle_o rfl) (zle_o rfl)
    have hc_3 := hc_0.resolve_left (fun q => iv_eqN q iv_2 iq_1_1_1 (by decide))
    have j_4 : (d_fresh 9).toInt ≤ 7 := hc_3
    refine k_bipush (v := 80) X dX11_joinLine_k0.1.2.1.1 bi_80 ?_
    refine k_iconst (v := 2) X dX11_joinLine_k0.1.2.1.2 ic_2 ?_
    refine k_aload_n X dX11_joinLine_k0.1.2.2.1 0 rfl ?_
    refine k_get (ci := 11) X inlX11 rfl 16 (nlt_e rfl) dX11_joinLine_k0.1.2.2.2 mw171 0 rfl rfl ?_
    refine k_bipush (v := 9) X dX11_joinLine_k0.2.1.1.1 bi_9 ?_
    refine k_iald X dX11_joinLine_k0.2.1.1.2 3 rfl (by unfold vp_in; decide) ?_
    refine k_nm (fun z_5 ez_5 => ?_)
    have i_6 : z_5.toInt = (d_fresh 9).toInt := by rw [ez_5]; rfl
    have iv_7 : IV z_5 0 7 := by have := rb_9 ez_5 hp_d_fresh; rw [IV]; omega
    refine k_imul X dX11_joinLine_k0.2.1.2.1 ?_
    refine k_nm (fun z_8 ez_8 => ?_)
    have i_9 : z_8.toInt = 2 * z_5.toInt := in_mul ez_8 (by decide) (zle_e rfl) iv_7 (zle_e rfl) (zle_e rfl)
    have iv_10 : IV z_8 0 14 := iz4 i_9 iv_7 (zle_e rfl) (zle_e rfl) (zle_e rfl)
    refine k_iadd X dX11_joinLine_k0.2.1.2.2 ?_
    refine k_nm (fun z_11 ez_11 => ?_)
    have i_12 : z_11.toInt = 80 + z_8.toInt := in_add ez_11 iq_80_80_80 iv_10 (zle_e rfl) (zle_e rfl)
    have iv_13 : IV z_11 80 94 := iz2 i_12 iv_10 (zle_e rfl) (zle_e rfl)
    refine k_istore_n [(1, .int z_11), (0, .ref h0)] X dX11_joinLine_k0.2.2.1.1 (nlt_e rfl) rfl ?_
    refine k_aload_n X dX11_joinLine_k0.2.2.1.2 1 rfl ?_
    refine k_get (ci := 11) X inlX11 rfl 16 (nlt_e rfl) dX11_joinLine_k0.2.2.2.1 mw171 0 rfl rfl ?_
    refine k_iload_n X dX11_joinLine_k0.2.2.2.2 0 rfl ?_
    refine k_aload_n X dX11_joinLine_k1.1.1.1.1 1 rfl ?_
    refine k_callVI (n := 0) (As := []) (st := [.int z_11, .ref a_fresh]) X [(cO11_i1r1i10r1i2r5i2r12i3r4i2 h0 m_thrown a_tape m_taped m_size m_at m_end m_token m_whole m_nameSize m_fault m_place m_trouble a_letters m_failed m_hasHouse a_r a_fresh a_st a_undone a_kept m_undos m_images a_from a_begin a_motor a_change a_startFrame a_changeFrame a_lostAt a_blackAt a_slips a_leftArc a_died a_arcs m_bestSum m_nearest m_nearestTown a_there a_backAt a_sorted a_parts m_seed1 m_darkNow), (cAI g a_tape 900 d_tape), (cAI g a_letters 8 d_letters), (cAI g a_fresh 311 d_fresh)] [] [0, 1, 2, 3] [] (m_reelPassedX l g h0 m_thrown a_tape m_taped m_size m_at m_end m_token m_whole m_nameSize m_fault m_place m_trouble a_letters m_failed m_hasHouse a_r a_fresh a_st a_undone a_kept m_undos m_images a_from a_begin a_motor a_change a_startFrame a_changeFrame a_lostAt a_blackAt a_slips a_leftArc a_died a_arcs m_bestSum m_nearest m_nearestTown a_there a_backAt a_sorted a_parts m_seed1 m_darkNow d_tape d_letters d_fresh (iv_w hv_m_size (zle_e rfl) (zle_e rfl)) (iv_w hv_m_end (zle_e rfl) (zle_e rfl)) (iv_w hv_m_nameSize (zle_e rfl) (zle_e rfl)) (iv_w iv_2 (zle_e rfl) (zle_e rfl)) hp_d_fresh hc_1) dX11_joinLine_k1.1.1.1.2 mw571 mw572 mw573 mw5 mw574 rfl 11 rfl rfl 0 _ rfl yk_yX11_reelPassed_0 rfl (Nat.le_of_ble_eq_true rfl) (Nat.le_of_ble_eq_true rfl) (Nat.le_of_ble_eq_true rfl) (Nat.le_of_ble_eq_true rfl) (Nat.le_of_ble_eq_true rfl) rfl rfl (vnd_e rfl) rfl (vnd_e rfl) (dsj_e rfl) ?_
    intro r_23 w zq
    refine exE9 zq ?_
    clear zq
    intro m_at2_14 m_end2_15 m_failed2_16 m_fault2_17 d_letters2_18 m_nameSize2_19 m_place2_20 m_token2_21 m_whole2_22 iv_24 zq
    refine exA6 zq ?_
    clear zq
    intro iv_25 iv_26 iv_27 hq_28 hq_29 hk_30 zq
    subst zq
    refine k_ws [(cO11_i1r1i10r1i2r5i2r12i3r4i2 h0 m_thrown a_tape m_taped m_size m_at2_14 m_end2_15 m_token2_21 m_whole2_22 m_nameSize2_19 m_fault2_17 m_place2_20 m_trouble a_letters m_failed2_16 m_hasHouse a_r a_fresh a_st a_undone a_kept m_undos m_images a_from a_begin a_motor a_change a_startFrame a_changeFrame a_lostAt a_blackAt a_slips a_leftArc a_died a_arcs m_bestSum m_nearest m_nearestTown a_there a_backAt a_sorted a_parts m_seed1 m_darkNow), (cAI g a_tape 900 d_tape), (cAI g a_letters 8 d_letters2_18), (cAI g a_fresh 311 d_fresh)] rfl ?_
    refine k_iast [(cO11_i1r1i10r1i2r5i2r12i3r4i2 h0 m_thrown a_tape m_taped m_size m_at2_14 m_end2_15 m_token2_21 m_whole2_22 m_nameSize2_19 m_fault2_17 m_place2_20 m_trouble a_letters m_failed2_16 m_hasHouse a_r a_fresh a_st a_undone a_kept m_undos m_images a_from a_begin a_motor a_change a_startFrame a_changeFrame a_lostAt a_blackAt a_slips a_leftArc a_died a_arcs m_bestSum m_nearest m_nearestTown a_there a_backAt a_sorted a_parts m_seed1 m_darkNow), (cAI g a_tape 900 d_tape), (cAI g a_letters 8 d_letters2_18), (cAI g a_fresh 311 (upd d_fresh (z_11 : Int32).toNatClampNeg r_23))] X dX11_joinLine_k1.1.1.2.1 3 rfl (iv_in iv_13 (zle_e rfl) (zle_l rfl)) rfl ?_
    have i_33 : z_11.toInt = 80 + 2 * z_5.toInt := by omega
    refine (fun hg : ∀ fa_31 : Nat → Int32, fa_31 = upd d_fresh (z_11 : Int32).toNatClampNeg r_23 → RInv fa_31 → K16 d_fresh fa_31 → Wk p l e _ s m args below meth c _ A g _ _ _ [(cO11_i1r1i10r1i2r5i2r12i3r4i2 h0 m_thrown a_tape m_taped m_size m_at2_14 m_end2_15 m_token2_21 m_whole2_22 m_nameSize2_19 m_fault2_17 m_place2_20 m_trouble a_letters m_failed2_16 m_hasHouse a_r a_fresh a_st a_undone a_kept m_undos m_images a_from a_begin a_motor a_change a_startFrame a_changeFrame a_lostAt a_blackAt a_slips a_leftArc a_died a_arcs m_bestSum m_nearest m_nearestTown a_there a_backAt a_sorted a_parts m_seed1 m_darkNow), (cAI g a_tape 900 d_tape), (cAI g a_letters 8 d_letters2_18), (cAI g a_fresh 311 fa_31)] _ _ _ => hg _ rfl (w_rb_80_2 hp_d_fresh i_33 (iv_w iv_7 (zle_e rfl) (zle_e rfl)) (iv_w iv_27 (zle_e rfl) (zle_e rfl))) (k16_u (z := z_11) (by have := iv_13; omega))) (fun fa_31 eq_35 hR_32 hk_34 => ?_)
    have ek_36 : z_5 = fa_31 (9 : Int32).toNatClampNeg := ez_5.trans (hk_34 _ (by decide)).symm
    have hT_37 : TRI fa_31 := by have := iv_13; exact tri_z (z := z_11) eq_35 hr_0 hp_d_fresh (by omega) (by omega) (by omega) (by omega) (by omega)
    refine k_aload_n X dX11_joinLine_k1.1.1.2.2 1 rfl ?_
    refine k_get (ci := 11) X inlX11 rfl 13 (nlt_e rfl) dX11_joinLine_k1.1.2.1.1 mw469 0 rfl rfl ?_
    refine k_if_ne 49 X dX11_joinLine_k1.1.2.1.2 (jp_e rfl) (fun h_38 => ?_) (fun h_38 => ?_)
    · skip
      have iv_39 : IV m_failed2_16 1 1 := iv_neL h_38 iv_25 iq_0_0_0 (zle_e rfl)
      refine k_aload_n X dX11_joinLine_k1.2.2.1.2 1 rfl ?_
      refine k_get (ci := 11) X inlX11 rfl 16 (nlt_e rfl) dX11_joinLine_k1.2.2.2.1 mw171 0 rfl rfl ?_
      refine k_iload_n X dX11_joinLine_k1.2.2.2.2 0 rfl ?_
      refine k_iconst (v := 1) X dX11_joinLine_k2.1.1.1.1 ic_1 ?_
      refine k_iadd X dX11_joinLine_k2.1.1.1.2 ?_
      refine k_nm (fun z_40 ez_40 => ?_)
      have i_41 : z_40.toInt = z_11.toInt + 1 := in_add ez_40 iv_13 iq_1_1_1 (zle_e rfl) (zle_e rfl)
      have iv_42 : IV z_40 81 95 := iz1 i_41 iv_13 (zle_e rfl) (zle_e rfl)
      refine k_aload_n X dX11_joinLine_k2.1.1.2.1 1 rfl ?_
      refine k_ldcwS (tx := "lacks") X dX11_joinLine_k2.1.1.2.2 (by decide +kernel) (fun sr_43 hsr_43 => ?_)
      refine k_iconst (v := 1) X dX11_joinLine_k2.1.2.1.1 ic_1 ?_
      refine k_bipush (v := 99) X dX11_joinLine_k2.1.2.1.2 bi_99 ?_
      refine k_callVI (n := 3) (As := [.ref sr_43, .int 1, .int 99]) (st := [.int z_40, .ref a_fresh]) X [(cO11_i1r1i10r1i2r5i2r12i3r4i2 h0 m_thrown a_tape m_taped m_size m_at2_14 m_end2_15 m_token2_21 m_whole2_22 m_nameSize2_19 m_fault2_17 m_place2_20 m_trouble a_letters m_failed2_16 m_hasHouse a_r a_fresh a_st a_undone a_kept m_undos m_images a_from a_begin a_motor a_change a_startFrame a_changeFrame a_lostAt a_blackAt a_slips a_leftArc a_died a_arcs m_bestSum m_nearest m_nearestTown a_there a_backAt a_sorted a_parts m_seed1 m_darkNow), (cAI g a_tape 900 d_tape), (cAI g a_letters 8 d_letters2_18)] [(cAI g a_fresh 311 fa_31)] [0, 1, 2] [3] (m_afterX l g h0 sr_43 1 99 m_thrown a_tape m_taped m_size m_at2_14 m_end2_15 m_token2_21 m_whole2_22 m_nameSize2_19 m_fault2_17 m_place2_20 m_trouble a_letters m_failed2_16 m_hasHouse a_r a_fresh a_st a_undone a_kept m_undos m_images a_from a_begin a_motor a_change a_startFrame a_changeFrame a_lostAt a_blackAt a_slips a_leftArc a_died a_arcs m_bestSum m_nearest m_nearestTown a_there a_backAt a_sorted a_parts m_seed1 m_darkNow d_tape d_letters2_18 ("lacks") (iv_w hv_m_size (zle_e rfl) (zle_e rfl)) (iv_w iv_24 (zle_e rfl) (zle_e rfl)) (iv_w iv_26 (zle_e rfl) (zle_e rfl)) (iv_w iv_39 (zle_e rfl) (zle_e rfl)) hsr_43 hk_30) dX11_joinLine_k2.1.2.2.1 mw523 mw524 mw525 mw5 mw526 rfl 11 rfl rfl 0 _ rfl yk_yX11_after_3 rfl (Nat.le_of_ble_eq_true rfl) (Nat.le_of_ble_eq_true rfl) (Nat.le_of_ble_eq_true rfl) (Nat.le_of_ble_eq_true rfl) (Nat.le_of_ble_eq_true rfl) rfl rfl (vnd_e rfl) rfl (vnd_e rfl) (dsj_e rfl) ?_
      intro r_53 w zq
      refine exE9 zq ?_
      clear zq
      intro m_at2_44 m_end2_45 m_failed2_46 m_fault2_47 d_letters2_48 m_nameSize2_49 m_place2_50 m_token2_51 m_whole2_52 iv_54 zq
      refine exA6 zq ?_
      clear zq
      intro iv_55 iv_56 hq_57 hq_58 hq_59 hk_60 zq
      subst zq
      refine k_ws [(cAI g a_fresh 311 fa_31), (cO11_i1r1i10r1i2r5i2r12i3r4i2 h0 m_thrown a_tape m_taped m_size m_at2_44 m_end2_45 m_token2_51 m_whole2_52 m_nameSize2_49 m_fault2_47 m_place2_50 m_trouble a_letters m_failed2_46 m_hasHouse a_r a_fresh a_st a_undone a_kept m_undos m_images a_from a_begin a_motor a_change a_startFrame a_changeFrame a_lostAt a_blackAt a_slips a_leftArc a_died a_arcs m_bestSum m_nearest m_nearestTown a_there a_backAt a_sorted a_parts m_seed1 m_darkNow), (cAI g a_tape 900 d_tape), (cAI g a_letters 8 d_letters2_48)] rfl ?_
      have e_61 : (1 : Int32).toInt = 1 := by decide
      have e_62 : (99 : Int32).toInt = 99 := by decide
      have iv_63 : IV r_53 1 99 := by have := iq_1_1_1; have := iq_99_99_99; rw [IV]; omega
      refine k_iast [(cAI g a_fresh 311 (upd fa_31 (z_40 : Int32).toNatClampNeg r_53)), (cO11_i1r1i10r1i2r5i2r12i3r4i2 h0 m_thrown a_tape m_taped m_size m_at2_44 m_end2_45 m_token2_51 m_whole2_52 m_nameSize2_49 m_fault2_47 m_place2_50 m_trouble a_letters m_failed2_46 m_hasHouse a_r a_fresh a_st a_undone a_kept m_undos m_images a_from a_begin a_motor a_change a_startFrame a_changeFrame a_lostAt a_blackAt a_slips a_leftArc a_died a_arcs m_bestSum m_nearest m_nearestTown a_there a_backAt a_sorted a_parts m_seed1 m_darkNow), (cAI g a_tape 900 d_tape), (cAI g a_letters 8 d_letters2_48)] X dX11_joinLine_k2.1.2.2.2 0 rfl (iv_in iv_42 (zle_e rfl) (zle_l rfl)) rfl ?_
      have i_66 : z_40.toInt = 81 + 2 * z_5.toInt := by omega
      refine (fun hg : ∀ fa_64 : Nat → Int32, fa_64 = upd fa_31 (z_40 : Int32).toNatClampNeg r_53 → RInv fa_64 → K16 fa_31 fa_64 → Wk p l e _ s m args below meth c _ A g _ _ _ [(cAI g a_fresh 311 fa_64), (cO11_i1r1i10r1i2r5i2r12i3r4i2 h0 m_thrown a_tape m_taped m_size m_at2_44 m_end2_45 m_token2_51 m_whole2_52 m_nameSize2_49 m_fault2_47 m_place2_50 m_trouble a_letters m_failed2_46 m_hasHouse a_r a_fresh a_st a_undone a_kept m_undos m_images a_from a_begin a_motor a_change a_startFrame a_changeFrame a_lostAt a_blackAt a_slips a_leftArc a_died a_arcs m_bestSum m_nearest m_nearestTown a_there a_backAt a_sorted a_parts m_seed1 m_darkNow), (cAI g a_tape 900 d_tape), (cAI g a_letters 8 d_letters2_48)] _ _ _ => hg _ rfl (w_fr_81_2 hR_32 i_66 (iv_w iv_7 (zle_e rfl) (zle_e rfl))) (k16_u (z := z_40) (by have := iv_42; omega))) (fun fa_64 eq_68 hR_65 hk_67 => ?_)
      have ek_69 : z_5 = fa_64 (9 : Int32).toNatClampNeg := ek_36.trans (hk_67 _ (by decide)).symm
      have hT_70 : TRI fa_64 := by have := iv_42; exact tri_z (z := z_40) eq_68 hT_37 hR_32 (by omega) (by omega) (by omega) (by omega) (by omega)
      refine k_aload_n X dX11_joinLine_k2.2.1.1.1 1 rfl ?_
      refine k_get (ci := 11) X inlX11 rfl 13 (nlt_e rfl) dX11_joinLine_k2.2.1.1.2 mw469 1 rfl rfl ?_
      refine k_if_ne 85 X dX11_joinLine_k2.2.1.2.1 (jp_e rfl) (fun h_71 => ?_) (fun h_71 => ?_)
      · skip
        have iv_72 : IV m_failed2_46 1 1 := iv_neL h_71 iv_55 iq_0_0_0 (zle_e rfl)
        exact k_vret X hr dX11_joinLine_k3.2.2 (Nat.le_of_ble_eq_true rfl) (Nat.le_of_ble_eq_true rfl) [1, 2, 3, 0] (vnd_e rfl) rfl rfl ⟨m_at2_44, m_end2_45, m_failed2_46, m_fault2_47, fa_64, d_letters2_48, m_nameSize2_49, m_place2_50, m_token2_51, m_whole2_52, (iv_w iv_54 (zle_e rfl) (zle_e rfl)), (iv_w iv_72 (zle_e rfl) (zle_e rfl)), (iv_w iv_56 (zle_e rfl) (zle_e rfl)), hR_65, (by omega), hT_70, (Or.inl ⟨h_1, ⟨z_5, ez_5, ⟨z_8, ez_8, ⟨z_11, ez_11, ⟨m_at2_14, m_end2_15, m_failed2_16, m_fault2_17, d_letters2_18, m_nameSize2_19, m_place2_20, m_token2_21, m_whole2_22, r_23, hq_29, ⟨fa_31, eq_35, (Or.inl ⟨h_38, ⟨z_40, ez_40, ⟨m_at2_44, m_end2_45, m_failed2_46, m_fault2_47, d_letters2_48, m_nameSize2_49, m_place2_50, m_token2_51, m_whole2_52, r_53, hq_59, ⟨fa_64, eq_68, (Or.inl ⟨h_71, ⟨rfl, rfl, rfl, rfl, rfl, rfl, rfl, rfl, rfl, rfl⟩⟩)⟩⟩⟩⟩)⟩⟩⟩⟩⟩⟩), hk_60, rfl⟩
      · skip
        have iv_73 : IV m_failed2_46 0 0 := iv_meet iv_55 (iv_e h_71 iq_0_0_0) (zle_o rfl) (zle_o rfl)
        refine k_aload_n X dX11_joinLine_k2.2.1.2.2 1 rfl ?_
        refine k_get (ci := 11) X inlX11 rfl 16 (nlt_e rfl) dX11_joinLine_k2.2.2.1.1 mw171 1 rfl rfl ?_
        refine k_bipush (v := 9) X dX11_joinLine_k2.2.2.1.2 bi_9 ?_
        refine k_dup2 X dX11_joinLine_k2.2.2.2.1 rfl rfl ?_
        refine k_iald X dX11_joinLine_k2.2.2.2.2 0 rfl (by unfold vp_in; decide) ?_
        refine k_to z_5 ek_69.symm ?_
        refine k_iconst (v := 1) X dX11_joinLine_k3.1.1 ic_1 ?_
        refine k_iadd X dX11_joinLine_k3.1.2 ?_
        refine k_nm (fun z_74 ez_74 => ?_)
        have i_75 : z_74.toInt = z_5.toInt + 1 := in_add ez_74 iv_7 iq_1_1_1 (zle_e rfl) (zle_e rfl)
        have iv_76 : IV z_74 1 8 := iz1 i_75 iv_7 (zle_e rfl) (zle_e rfl)
        refine k_iast [(cAI g a_fresh 311 (upd fa_64 (9 : Int32).toNatClampNeg z_74)), (cO11_i1r1i10r1i2r5i2r12i3r4i2 h0 m_thrown a_tape m_taped m_size m_at2_44 m_end2_45 m_token2_51 m_whole2_52 m_nameSize2_49 m_fault2_47 m_place2_50 m_trouble a_letters m_failed2_46 m_hasHouse a_r a_fresh a_st a_undone a_kept m_undos m_images a_from a_begin a_motor a_change a_startFrame a_changeFrame a_lostAt a_blackAt a_slips a_leftArc a_died a_arcs m_bestSum m_nearest m_nearestTown a_there a_backAt a_sorted a_parts m_seed1 m_darkNow), (cAI g a_tape 900 d_tape), (cAI g a_letters 8 d_letters2_48)] X dX11_joinLine_k3.2.1 0 rfl (by unfold vp_in; decide) rfl ?_
        refine (fun hg : ∀ fa_77 : Nat → Int32, fa_77 = upd fa_64 (9 : Int32).toNatClampNeg z_74 → RInv fa_77 → Wk p l e _ s m args below meth c _ A g _ _ _ [(cAI g a_fresh 311 fa_77), (cO11_i1r1i10r1i2r5i2r12i3r4i2 h0 m_thrown a_tape m_taped m_size m_at2_44 m_end2_45 m_token2_51 m_whole2_52 m_nameSize2_49 m_fault2_47 m_place2_50 m_trouble a_letters m_failed2_46 m_hasHouse a_r a_fresh a_st a_undone a_kept m_undos m_images a_from a_begin a_motor a_change a_startFrame a_changeFrame a_lostAt a_blackAt a_slips a_leftArc a_died a_arcs m_bestSum m_nearest m_nearestTown a_there a_backAt a_sorted a_parts m_seed1 m_darkNow), (cAI g a_tape 900 d_tape), (cAI g a_letters 8 d_letters2_48)] _ _ _ => hg _ rfl (w_rb_9 hR_65 (iv_w iv_76 (zle_e rfl) (zle_e rfl)))) (fun fa_77 eq_80 hR_78 => ?_)
        have hT_81 : TRI fa_77 := by rw [eq_80]; exact tri_n (z := 9) hT_70 hR_65 (by decide) (by decide) (by decide) (by decide)
        exact k_vret X hr dX11_joinLine_k3.2.2 (Nat.le_of_ble_eq_true rfl) (Nat.le_of_ble_eq_true rfl) [1, 2, 3, 0] (vnd_e rfl) rfl rfl ⟨m_at2_44, m_end2_45, m_failed2_46, m_fault2_47, fa_77, d_letters2_48, m_nameSize2_49, m_place2_50, m_token2_51, m_whole2_52, (iv_w iv_54 (zle_e rfl) (zle_e rfl)), (iv_w iv_73 (zle_e rfl) (zle_e rfl)), (iv_w iv_56 (zle_e rfl) (zle_e rfl)), hR_78, (by omega), hT_81, (Or.inl ⟨h_1, ⟨z_5, ez_5, ⟨z_8, ez_8, ⟨z_11, ez_11, ⟨m_at2_14, m_end2_15, m_failed2_16, m_fault2_17, d_letters2_18, m_nameSize2_19, m_place2_20, m_token2_21, m_whole2_22, r_23, hq_29, ⟨fa_31, eq_35, (Or.inl ⟨h_38, ⟨z_40, ez_40, ⟨m_at2_44, m_end2_45, m_failed2_46, m_fault2_47, d_letters2_48, m_nameSize2_49, m_place2_50, m_token2_51, m_whole2_52, r_53, hq_59, ⟨fa_64, eq_68, (Or.inr ⟨h_71, ⟨z_74, ez_74, ⟨fa_77, eq_80, ⟨rfl, rfl, rfl, rfl, rfl, rfl, rfl, rfl, rfl, rfl⟩⟩⟩⟩)⟩⟩⟩⟩)⟩⟩⟩⟩⟩⟩), hk_60, rfl⟩
    · skip
      have iv_82 : IV m_failed2_16 0 0 := iv_meet iv_25 (iv_e h_38 iq_0_0_0) (zle_o rfl) (zle_o rfl)
      refine k_aload_n X dX11_joinLine_k1.1.2.2.1 1 rfl ?_
      refine k_aload_n X dX11_joinLine_k1.1.2.2.2 1 rfl ?_
      refine k_get (ci := 11) X inlX11 rfl 16 (nlt_e rfl) dX11_joinLine_k1.2.1.1.1 mw171 0 rfl rfl ?_
      refine k_iload_n X dX11_joinLine_k1.2.1.1.2 0 rfl ?_
      refine k_iald X dX11_joinLine_k1.2.1.2.1 3 rfl (iv_in iv_13 (zle_e rfl) (zle_l rfl)) ?_
      refine k_nm (fun z_83 ez_83 => ?_)
      have i_84 : z_11.toInt = 80 + 2 * z_5.toInt := by omega
      have iv_85 : IV z_83 0 7 := rb_80_2 ez_83 hR_32 i_84 (iv_w iv_7 (zle_e rfl) (zle_e rfl))
      refine k_callVI (n := 1) (As := [.int z_83]) (st := []) X [(cO11_i1r1i10r1i2r5i2r12i3r4i2 h0 m_thrown a_tape m_taped m_size m_at2_14 m_end2_15 m_token2_21 m_whole2_22 m_nameSize2_19 m_fault2_17 m_place2_20 m_trouble a_letters m_failed2_16 m_hasHouse a_r a_fresh a_st a_undone a_kept m_undos m_images a_from a_begin a_motor a_change a_startFrame a_changeFrame a_lostAt a_blackAt a_slips a_leftArc a_died a_arcs m_bestSum m_nearest m_nearestTown a_there a_backAt a_sorted a_parts m_seed1 m_darkNow), (cAI g a_tape 900 d_tape), (cAI g a_letters 8 d_letters2_18), (cAI g a_fresh 311 fa_31)] [] [0, 1, 2, 3] [] (m_frameOfX l g h0 z_83 m_thrown a_tape m_taped m_size m_at2_14 m_end2_15 m_token2_21 m_whole2_22 m_nameSize2_19 m_fault2_17 m_place2_20 m_trouble a_letters m_failed2_16 m_hasHouse a_r a_fresh a_st a_undone a_kept m_undos m_images a_from a_begin a_motor a_change a_startFrame a_changeFrame a_lostAt a_blackAt a_slips a_leftArc a_died a_arcs m_bestSum m_nearest m_nearestTown a_there a_backAt a_sorted a_parts m_seed1 m_darkNow d_tape d_letters2_18 fa_31 (iv_w iv_85 (zle_e rfl) (zle_e rfl)) (iv_w hv_m_size (zle_e rfl) (zle_e rfl)) (iv_w iv_24 (zle_e rfl) (zle_e rfl)) (iv_w iv_26 (zle_e rfl) (zle_e rfl)) (iv_w iv_82 (zle_e rfl) (zle_e rfl)) hR_32 hk_30) dX11_joinLine_k1.2.1.2.2 mw579 mw580 mw581 mw5 mw582 rfl 11 rfl rfl 0 _ rfl yk_yX11_frameOf_1 rfl (Nat.le_of_ble_eq_true rfl) (Nat.le_of_ble_eq_true rfl) (Nat.le_of_ble_eq_true rfl) (Nat.le_of_ble_eq_true rfl) (Nat.le_of_ble_eq_true rfl) rfl rfl (vnd_e rfl) rfl (vnd_e rfl) (dsj_e rfl) ?_
      intro r_95 w zq
      refine exE9 zq ?_
      clear zq
      intro m_at2_86 m_end2_87 m_failed2_88 m_fault2_89 d_letters2_90 m_nameSize2_91 m_place2_92 m_token2_93 m_whole2_94 iv_96 zq
      refine exA5 zq ?_
      clear zq
      intro iv_97 iv_98 hq_99 hq_100 hk_101 zq
      subst zq
      refine k_ws [(cO11_i1r1i10r1i2r5i2r12i3r4i2 h0 m_thrown a_tape m_taped m_size m_at2_86 m_end2_87 m_token2_93 m_whole2_94 m_nameSize2_91 m_fault2_89 m_place2_92 m_trouble a_letters m_failed2_88 m_hasHouse a_r a_fresh a_st a_undone a_kept m_undos m_images a_from a_begin a_motor a_change a_startFrame a_changeFrame a_lostAt a_blackAt a_slips a_leftArc a_died a_arcs m_bestSum m_nearest m_nearestTown a_there a_backAt a_sorted a_parts m_seed1 m_darkNow), (cAI g a_tape 900 d_tape), (cAI g a_letters 8 d_letters2_90), (cAI g a_fresh 311 fa_31)] rfl ?_
      refine k_pop X dX11_joinLine_k1.2.2.1.1 rfl ?_
      refine k_aload_n X dX11_joinLine_k1.2.2.1.2 1 rfl ?_
      refine k_get (ci := 11) X inlX11 rfl 16 (nlt_e rfl) dX11_joinLine_k1.2.2.2.1 mw171 0 rfl rfl ?_
      refine k_iload_n X dX11_joinLine_k1.2.2.2.2 0 rfl ?_
      refine k_iconst (v := 1) X dX11_joinLine_k2.1.1.1.1 ic_1 ?_
      refine k_iadd X dX11_joinLine_k2.1.1.1.2 ?_
      refine k_nm (fun z_102 ez_102 => ?_)
      have i_103 : z_102.toInt = z_11.toInt + 1 := in_add ez_102 iv_13 iq_1_1_1 (zle_e rfl) (zle_e rfl)
      have iv_104 : IV z_102 81 95 := iz1 i_103 iv_13 (zle_e rfl) (zle_e rfl)
      refine k_aload_n X dX11_joinLine_k2.1.1.2.1 1 rfl ?_
      refine k_ldcwS (tx := "lacks") X dX11_joinLine_k2.1.1.2.2 (by decide +kernel) (fun sr_105 hsr_105 => ?_)
      refine k_iconst (v := 1) X dX11_joinLine_k2.1.2.1.1 ic_1 ?_
      refine k_bipush (v := 99) X dX11_joinLine_k2.1.2.1.2 bi_99 ?_
      refine k_callVI (n := 3) (As := [.ref sr_105, .int 1, .int 99]) (st := [.int z_102, .ref a_fresh]) X [(cO11_i1r1i10r1i2r5i2r12i3r4i2 h0 m_thrown a_tape m_taped m_size m_at2_86 m_end2_87 m_token2_93 m_whole2_94 m_nameSize2_91 m_fault2_89 m_place2_92 m_trouble a_letters m_failed2_88 m_hasHouse a_r a_fresh a_st a_undone a_kept m_undos m_images a_from a_begin a_motor a_change a_startFrame a_changeFrame a_lostAt a_blackAt a_slips a_leftArc a_died a_arcs m_bestSum m_nearest m_nearestTown a_there a_backAt a_sorted a_parts m_seed1 m_darkNow), (cAI g a_tape 900 d_tape), (cAI g a_letters 8 d_letters2_90)] [(cAI g a_fresh 311 fa_31)] [0, 1, 2] [3] (m_afterX l g h0 sr_105 1 99 m_thrown a_tape m_taped m_size m_at2_86 m_end2_87 m_token2_93 m_whole2_94 m_nameSize2_91 m_fault2_89 m_place2_92 m_trouble a_letters m_failed2_88 m_hasHouse a_r a_fresh a_st a_undone a_kept m_undos m_images a_from a_begin a_motor a_change a_startFrame a_changeFrame a_lostAt a_blackAt a_slips a_leftArc a_died a_arcs m_bestSum m_nearest m_nearestTown a_there a_backAt a_sorted a_parts m_seed1 m_darkNow d_tape d_letters2_90 ("lacks") (iv_w hv_m_size (zle_e rfl) (zle_e rfl)) (iv_w iv_96 (zle_e rfl) (zle_e rfl)) (iv_w iv_98 (zle_e rfl) (zle_e rfl)) (iv_w iv_97 (zle_e rfl) (zle_e rfl)) hsr_105 hk_101) dX11_joinLine_k2.1.2.2.1 mw523 mw524 mw525 mw5 mw526 rfl 11 rfl rfl 0 _ rfl yk_yX11_after_3 rfl (Nat.le_of_ble_eq_true rfl) (Nat.le_of_ble_eq_true rfl) (Nat.le_of_ble_eq_true rfl) (Nat.le_of_ble_eq_true rfl) (Nat.le_of_ble_eq_true rfl) rfl rfl (vnd_e rfl) rfl (vnd_e rfl) (dsj_e rfl) ?_
      intro r_115 w zq
      refine exE9 zq ?_
      clear zq
      intro m_at2_106 m_end2_107 m_failed2_108 m_fault2_109 d_letters2_110 m_nameSize2_111 m_place2_112 m_token2_113 m_whole2_114 iv_116 zq
      refine exA6 zq ?_
      clear zq
      intro iv_117 iv_118 hq_119 hq_120 hq_121 hk_122 zq
      subst zq
      refine k_ws [(cAI g a_fresh 311 fa_31), (cO11_i1r1i10r1i2r5i2r12i3r4i2 h0 m_thrown a_tape m_taped m_size m_at2_106 m_end2_107 m_token2_113 m_whole2_114 m_nameSize2_111 m_fault2_109 m_place2_112 m_trouble a_letters m_failed2_108 m_hasHouse a_r a_fresh a_st a_undone a_kept m_undos m_images a_from a_begin a_motor a_change a_startFrame a_changeFrame a_lostAt a_blackAt a_slips a_leftArc a_died a_arcs m_bestSum m_nearest m_nearestTown a_there a_backAt a_sorted a_parts m_seed1 m_darkNow), (cAI g a_tape 900 d_tape), (cAI g a_letters 8 d_letters2_110)] rfl ?_
      have e_123 : (1 : Int32).toInt = 1 := by decide
      have e_124 : (99 : Int32).toInt = 99 := by decide
      have iv_125 : IV r_115 1 99 := by have := iq_1_1_1; have := iq_99_99_99; rw [IV]; omega
      refine k_iast [(cAI g a_fresh 311 (upd fa_31 (z_102 : Int32).toNatClampNeg r_115)), (cO11_i1r1i10r1i2r5i2r12i3r4i2 h0 m_thrown a_tape m_taped m_size m_at2_106 m_end2_107 m_token2_113 m_whole2_114 m_nameSize2_111 m_fault2_109 m_place2_112 m_trouble a_letters m_failed2_108 m_hasHouse a_r a_fresh a_st a_undone a_kept m_undos m_images a_from a_begin a_motor a_change a_startFrame a_changeFrame a_lostAt a_blackAt a_slips a_leftArc a_died a_arcs m_bestSum m_nearest m_nearestTown a_there a_backAt a_sorted a_parts m_seed1 m_darkNow), (cAI g a_tape 900 d_tape), (cAI g a_letters 8 d_letters2_110)] X dX11_joinLine_k2.1.2.2.2 0 rfl (iv_in iv_104 (zle_e rfl) (zle_l rfl)) rfl ?_
      have i_128 : z_102.toInt = 81 + 2 * z_5.toInt := by omega
      refine (fun hg : ∀ fa_126 : Nat → Int32, fa_126 = upd fa_31 (z_102 : Int32).toNatClampNeg r_115 → RInv fa_126 → K16 fa_31 fa_126 → Wk p l e _ s m args below meth c _ A g _ _ _ [(cAI g a_fresh 311 fa_126), (cO11_i1r1i10r1i2r5i2r12i3r4i2 h0 m_thrown a_tape m_taped m_size m_at2_106 m_end2_107 m_token2_113 m_whole2_114 m_nameSize2_111 m_fault2_109 m_place2_112 m_trouble a_letters m_failed2_108 m_hasHouse a_r a_fresh a_st a_undone a_kept m_undos m_images a_from a_begin a_motor a_change a_startFrame a_changeFrame a_lostAt a_blackAt a_slips a_leftArc a_died a_arcs m_bestSum m_nearest m_nearestTown a_there a_backAt a_sorted a_parts m_seed1 m_darkNow), (cAI g a_tape 900 d_tape), (cAI g a_letters 8 d_letters2_110)] _ _ _ => hg _ rfl (w_fr_81_2 hR_32 i_128 (iv_w iv_7 (zle_e rfl) (zle_e rfl))) (k16_u (z := z_102) (by have := iv_104; omega))) (fun fa_126 eq_130 hR_127 hk_129 => ?_)
      have ek_131 : z_5 = fa_126 (9 : Int32).toNatClampNeg := ek_36.trans (hk_129 _ (by decide)).symm
      have hT_132 : TRI fa_126 := by have := iv_104; exact tri_z (z := z_102) eq_130 hT_37 hR_32 (by omega) (by omega) (by omega) (by omega) (by omega)
      refine k_aload_n X dX11_joinLine_k2.2.1.1.1 1 rfl ?_
      refine k_get (ci := 11) X inlX11 rfl 13 (nlt_e rfl) dX11_joinLine_k2.2.1.1.2 mw469 1 rfl rfl ?_
      refine k_if_ne 85 X dX11_joinLine_k2.2.1.2.1 (jp_e rfl) (fun h_133 => ?_) (fun h_133 => ?_)
      · skip
        have iv_134 : IV m_failed2_108 1 1 := iv_neL h_133 iv_117 iq_0_0_0 (zle_e rfl)
        exact k_vret X hr dX11_joinLine_k3.2.2 (Nat.le_of_ble_eq_true rfl) (Nat.le_of_ble_eq_true rfl) [1, 2, 3, 0] (vnd_e rfl) rfl rfl ⟨m_at2_106, m_end2_107, m_failed2_108, m_fault2_109, fa_126, d_letters2_110, m_nameSize2_111, m_place2_112, m_token2_113, m_whole2_114, (iv_w iv_116 (zle_e rfl) (zle_e rfl)), (iv_w iv_134 (zle_e rfl) (zle_e rfl)), (iv_w iv_118 (zle_e rfl) (zle_e rfl)), hR_127, (by omega), hT_132, (Or.inl ⟨h_1, ⟨z_5, ez_5, ⟨z_8, ez_8, ⟨z_11, ez_11, ⟨m_at2_14, m_end2_15, m_failed2_16, m_fault2_17, d_letters2_18, m_nameSize2_19, m_place2_20, m_token2_21, m_whole2_22, r_23, hq_29, ⟨fa_31, eq_35, (Or.inr ⟨h_38, ⟨z_83, ez_83, ⟨m_at2_86, m_end2_87, m_failed2_88, m_fault2_89, d_letters2_90, m_nameSize2_91, m_place2_92, m_token2_93, m_whole2_94, r_95, hq_100, ⟨z_102, ez_102, ⟨m_at2_106, m_end2_107, m_failed2_108, m_fault2_109, d_letters2_110, m_nameSize2_111, m_place2_112, m_token2_113, m_whole2_114, r_115, hq_121, ⟨fa_126, eq_130, (Or.inl ⟨h_133, ⟨rfl, rfl, rfl, rfl, rfl, rfl, rfl, rfl, rfl, rfl⟩⟩)⟩⟩⟩⟩⟩⟩)⟩⟩⟩⟩⟩⟩), hk_122, rfl⟩
      · skip
        have iv_135 : IV m_failed2_108 0 0 := iv_meet iv_117 (iv_e h_133 iq_0_0_0) (zle_o rfl) (zle_o rfl)
        refine k_aload_n X dX11_joinLine_k2.2.1.2.2 1 rfl ?_
        refine k_get (ci := 11) X inlX11 rfl 16 (nlt_e rfl) dX11_joinLine_k2.2.2.1.1 mw171 1 rfl rfl ?_
        refine k_bipush (v := 9) X dX11_joinLine_k2.2.2.1.2 bi_9 ?_
        refine k_dup2 X dX11_joinLine_k2.2.2.2.1 rfl rfl ?_
        refine k_iald X dX11_joinLine_k2.2.2.2.2 0 rfl (by unfold vp_in; decide) ?_
        refine k_to z_5 ek_131.symm ?_
        refine k_iconst (v := 1) X dX11_joinLine_k3.1.1 ic_1 ?_
        refine k_iadd X dX11_joinLine_k3.1.2 ?_
        refine k_nm (fun z_136 ez_136 => ?_)
        have i_137 : z_136.toInt = z_5.toInt + 1 := in_add ez_136 iv_7 iq_1_1_1 (zle_e rfl) (zle_e rfl)
        have iv_138 : IV z_136 1 8 := iz1 i_137 iv_7 (zle_e rfl) (zle_e rfl)
        refine k_iast [(cAI g a_fresh 311 (upd fa_126 (9 : Int32).toNatClampNeg z_136)), (cO11_i1r1i10r1i2r5i2r12i3r4i2 h0 m_thrown a_tape m_taped m_size m_at2_106 m_end2_107 m_token2_113 m_whole2_114 m_nameSize2_111 m_fault2_109 m_place2_112 m_trouble a_letters m_failed2_108 m_hasHouse a_r a_fresh a_st a_undone a_kept m_undos m_images a_from a_begin a_motor a_change a_startFrame a_changeFrame a_lostAt a_blackAt a_slips a_leftArc a_died a_arcs m_bestSum m_nearest m_nearestTown a_there a_backAt a_sorted a_parts m_seed1 m_darkNow), (cAI g a_tape 900 d_tape), (cAI g a_letters 8 d_letters2_110)] X dX11_joinLine_k3.2.1 0 rfl (by unfold vp_in; decide) rfl ?_
        refine (fun hg : ∀ fa_139 : Nat → Int32, fa_139 = upd fa_126 (9 : Int32).toNatClampNeg z_136 → RInv fa_139 → Wk p l e _ s m args below meth c _ A g _ _ _ [(cAI g a_fresh 311 fa_139), (cO11_i1r1i10r1i2r5i2r12i3r4i2 h0 m_thrown a_tape m_taped m_size m_at2_106 m_end2_107 m_token2_113 m_whole2_114 m_nameSize2_111 m_fault2_109 m_place2_112 m_trouble a_letters m_failed2_108 m_hasHouse a_r a_fresh a_st a_undone a_kept m_undos m_images a_from a_begin a_motor a_change a_startFrame a_changeFrame a_lostAt a_blackAt a_slips a_leftArc a_died a_arcs m_bestSum m_nearest m_nearestTown a_there a_backAt a_sorted a_parts m_seed1 m_darkNow), (cAI g a_tape 900 d_tape), (cAI g a_letters 8 d_letters2_110)] _ _ _ => hg _ rfl (w_rb_9 hR_127 (iv_w iv_138 (zle_e rfl) (zle_e rfl)))) (fun fa_139 eq_142 hR_140 => ?_)
        have hT_143 : TRI fa_139 := by rw [eq_142]; exact tri_n (z := 9) hT_132 hR_127 (by decide) (by decide) (by decide) (by decide)
        exact k_vret X hr dX11_joinLine_k3.2.2 (Nat.le_of_ble_eq_true rfl) (Nat.le_of_ble_eq_true rfl) [1, 2, 3, 0] (vnd_e rfl) rfl rfl ⟨m_at2_106, m_end2_107, m_failed2_108, m_fault2_109, fa_139, d_letters2_110, m_nameSize2_111, m_place2_112, m_token2_113, m_whole2_114, (iv_w iv_116 (zle_e rfl) (zle_e rfl)), (iv_w iv_135 (zle_e rfl) (zle_e rfl)), (iv_w iv_118 (zle_e rfl) (zle_e rfl)), hR_140, (by omega), hT_143, (Or.inl ⟨h_1, ⟨z_5, ez_5, ⟨z_8, ez_8, ⟨z_11, ez_11, ⟨m_at2_14, m_end2_15, m_failed2_16, m_fault2_17, d_letters2_18, m_nameSize2_19, m_place2_20, m_token2_21, m_whole2_22, r_23, hq_29, ⟨fa_31, eq_35, (Or.inr ⟨h_38, ⟨z_83, ez_83, ⟨m_at2_86, m_end2_87, m_failed2_88, m_fault2_89, d_letters2_90, m_nameSize2_91, m_place2_92, m_token2_93, m_whole2_94, r_95, hq_100, ⟨z_102, ez_102, ⟨m_at2_106, m_end2_107, m_failed2_108, m_fault2_109, d_letters2_110, m_nameSize2_111, m_place2_112, m_token2_113, m_whole2_114, r_115, hq_121, ⟨fa_126, eq_130, (Or.inr ⟨h_133, ⟨z_136, ez_136, ⟨fa_139, eq_142, ⟨rfl, rfl, rfl, rfl, rfl, rfl, rfl, rfl, rfl, rfl⟩⟩⟩⟩)⟩⟩⟩⟩⟩⟩)⟩⟩⟩⟩⟩⟩), hk_122, rfl⟩
  · skip
    have iv_144 : IV m_failed 1 1 := iv_neL h_1 hv_m_failed iq_0_0_0 (zle_e rfl)
    exact k_vret X hr dX11_joinLine_k0.1.1.2.2 (Nat.le_of_ble_eq_true rfl) (Nat.le_of_ble_eq_true rfl) [0, 1, 2, 3] (vnd_e rfl) rfl rfl ⟨m_at, m_end, m_failed, m_fault, d_fresh, d_letters, m_nameSize, m_place, m_token, m_whole, (iv_w hv_m_end (zle_e rfl) (zle_e rfl)), (iv_w iv_144 (zle_e rfl) (zle_e rfl)), (iv_w hv_m_nameSize (zle_e rfl) (zle_e rfl)), hp_d_fresh, (by omega), hr_0, (Or.inr ⟨h_1, ⟨rfl, rfl, rfl, rfl, rfl, rfl, rfl, rfl, rfl, rfl⟩⟩), hc_1, rfl⟩


set_option maxHeartbeats 4000000 in
set_option maxRecDepth 100000 in
theorem m_weakLineX (l : Launch) (g : Gx) (h0 : Nat) (m_thrown : Int32) (a_tape : Nat) (m_taped : Int32) (m_size : Int32) (m_at : Int32) (m_end : Int32) (m_token : Int32) (m_whole : Int32) (m_nameSize : Int32) (m_fault : Int32) (m_place : Int32) (m_trouble : Int32) (a_letters : Nat) (m_failed : Int32) (m_hasHouse : Int32) (a_r : Nat) (a_fresh : Nat) (a_st : Nat) (a_undone : Nat) (a_kept : Nat) (m_undos : Int32) (m_images : Int32) (a_from : Nat) (a_begin : Nat) (a_motor : Nat) (a_change : Nat) (a_startFrame : Nat) (a_changeFrame : Nat) (a_lostAt : Nat) (a_blackAt : Nat) (a_slips : Nat) (a_leftArc : Nat) (a_died : Nat) (a_arcs : Nat) (m_bestSum : Int32) (m_nearest : Int32) (m_nearestTown : Int32) (a_there : Nat) (a_backAt : Nat) (a_sorted : Nat) (a_parts : Nat) (m_seed1 : Int32) (m_darkNow : Int32) (d_tape : Nat → Int32) (d_letters : Nat → Int32) (d_fresh : Nat → Int32) (hv_m_size : IV m_size 0 900) (hv_m_end : IV m_end 0 900) (hv_m_nameSize : IV m_nameSize 0 900) (hv_m_failed : IV m_failed 0 1) (hp_d_fresh : RInv d_fresh) (hr_0 : TRI d_fresh) (hc_0 : m_failed = 1 ∨ ((d_fresh 10).toInt ≤ 5)) (hc_1 : m_token = 2 → IV m_nameSize 0 8) : cV l g yX11_weakLine cX11_weakLine 5 8 173 0 0 [.ref h0] [(cO11_i1r1i10r1i2r5i2r12i3r4i2 h0 m_thrown a_tape m_taped m_size m_at m_end m_token m_whole m_nameSize m_fault m_place m_trouble a_letters m_failed m_hasHouse a_r a_fresh a_st a_undone a_kept m_undos m_images a_from a_begin a_motor a_change a_startFrame a_changeFrame a_lostAt a_blackAt a_slips a_leftArc a_died a_arcs m_bestSum m_nearest m_nearestTown a_there a_backAt a_sorted a_parts m_seed1 m_darkNow), (cAI g a_tape 900 d_tape), (cAI g a_letters 8 d_letters), (cAI g a_fresh 311 d_fresh)] (fun w => ∃ (m_at2 : Int32) (m_end2 : Int32) (m_failed2 : Int32) (m_fault2 : Int32) (d_fresh2 : Nat → Int32) (d_letters2 : Nat → Int32) (m_nameSize2 : Int32) (m_place2 : Int32) (m_token2 : Int32) (m_whole2 : Int32), IV m_end2 0 900 ∧ IV m_failed2 0 1 ∧ IV m_nameSize2 0 900 ∧ RInv d_fresh2 ∧ (m_end.toInt ≤ m_end2.toInt) ∧ (TRI d_fresh2) ∧ (R_m_weakLineX m_size m_at m_end m_token m_whole m_nameSize m_fault m_place m_failed d_tape d_letters d_fresh m_at2 m_end2 m_failed2 m_fault2 d_fresh2 d_letters2 m_nameSize2 m_place2 m_token2 m_whole2) ∧ (m_token2 = 2 → IV m_nameSize2 0 8) ∧ w = [(cO11_i1r1i10r1i2r5i2r12i3r4i2 h0 m_thrown a_tape m_taped m_size m_at2 m_end2 m_token2 m_whole2 m_nameSize2 m_fault2 m_place2 m_trouble a_letters m_failed2 m_hasHouse a_r a_fresh a_st a_undone a_kept m_undos m_images a_from a_begin a_motor a_change a_startFrame a_changeFrame a_lostAt a_blackAt a_slips a_leftArc a_died a_arcs m_bestSum m_nearest m_nearestTown a_there a_backAt a_sorted a_parts m_seed1 m_darkNow), (cAI g a_tape 900 d_tape), (cAI g a_letters 8 d_letters2), (cAI g a_fresh 311 d_fresh2)]) := by
  refine cV.of (by decide) (Nat.le_of_ble_eq_true rfl) ?_
  intro p e s m args below meth c A X hr hi
  refine k_lveq [(0, .ref h0)] rfl ?_
  refine k_aload_n X dX11_weakLine_k0.1.1.1.1 0 rfl ?_
  refine k_get (ci := 11) X inlX11 rfl 13 (nlt_e rfl) dX11_weakLine_k0.1.1.1.2 mw469 0 rfl rfl ?_
  refine k_if_eq 8 X dX11_weakLine_k0.1.1.2.1 (jp_e rfl) (fun h_1 => ?_) (fun h_1 => ?_)
  · skip
    have iv_2 : IV m_failed 0 0 := iv_meet hv_m_failed (iv_e h_1 iq_0_0_0) (zle_o rfl) (zle_o rfl)
    have hc_3 := hc_0.resolve_left (fun q => iv_eqN q iv_2 iq_1_1_1 (by decide))
    have j_4 : (d_fresh 10).toInt ≤ 5 := hc_3
    refine k_bipush (v := 96) X dX11_weakLine_k0.1.2.1.1 bi_96 ?_
    refine k_iconst (v := 3) X dX11_weakLine_k0.1.2.1.2 ic_3 ?_
    refine k_aload_n X dX11_weakLine_k0.1.2.2.1 0 rfl ?_
    refine k_get (ci := 11) X inlX11 rfl 16 (nlt_e rfl) dX11_weakLine_k0.1.2.2.2 mw171 0 rfl rfl ?_
    refine k_bipush (v := 10) X dX11_weakLine_k0.2.1.1.1 bi_10 ?_
    refine k_iald X dX11_weakLine_k0.2.1.1.2 3 rfl (by unfold vp_in; decide) ?_
    refine k_nm (fun z_5 ez_5 => ?_)
    have i_6 : z_5.toInt = (d_fresh 10).toInt := by rw [ez_5]; rfl
    have iv_7 : IV z_5 0 5 := by have := rb_10 ez_5 hp_d_fresh; rw [IV]; omega
    refine k_imul X dX11_weakLine_k0.2.1.2.1 ?_
    refine k_nm (fun z_8 ez_8 => ?_)
    have i_9 : z_8.toInt = 3 * z_5.toInt := in_mul ez_8 (by decide) (zle_e rfl) iv_7 (zle_e rfl) (zle_e rfl)
    have iv_10 : IV z_8 0 15 := iz4 i_9 iv_7 (zle_e rfl) (zle_e rfl) (zle_e rfl)
    refine k_iadd X dX11_weakLine_k0.2.1.2.2 ?_
    refine k_nm (fun z_11 ez_11 => ?_)
    have i_12 : z_11.toInt = 96 + z_8.toInt := in_add ez_11 iq_96_96_96 iv_10 (zle_e rfl) (zle_e rfl)
    have iv_13 : IV z_11 96 111 := iz2 i_12 iv_10 (zle_e rfl) (zle_e rfl)
    refine k_istore_n [(1, .int z_11), (0, .ref h0)] X dX11_weakLine_k0.2.2.1.1 (nlt_e rfl) rfl ?_
    refine k_aload_n X dX11_weakLine_k0.2.2.1.2 1 rfl ?_
    refine k_callVI (n := 0) (As := []) (st := []) X [(cO11_i1r1i10r1i2r5i2r12i3r4i2 h0 m_thrown a_tape m_taped m_size m_at m_end m_token m_whole m_nameSize m_fault m_place m_trouble a_letters m_failed m_hasHouse a_r a_fresh a_st a_undone a_kept m_undos m_images a_from a_begin a_motor a_change a_startFrame a_changeFrame a_lostAt a_blackAt a_slips a_leftArc a_died a_arcs m_bestSum m_nearest m_nearestTown a_there a_backAt a_sorted a_parts m_seed1 m_darkNow), (cAI g a_tape 900 d_tape), (cAI g a_letters 8 d_letters), (cAI g a_fresh 311 d_fresh)] [] [0, 1, 2, 3] [] (m_reelPassedX l g h0 m_thrown a_tape m_taped m_size m_at m_end m_token m_whole m_nameSize m_fault m_place m_trouble a_letters m_failed m_hasHouse a_r a_fresh a_st a_undone a_kept m_undos m_images a_from a_begin a_motor a_change a_startFrame a_changeFrame a_lostAt a_blackAt a_slips a_leftArc a_died a_arcs m_bestSum m_nearest m_nearestTown a_there a_backAt a_sorted a_parts m_seed1 m_darkNow d_tape d_letters d_fresh (iv_w hv_m_size (zle_e rfl) (zle_e rfl)) (iv_w hv_m_end (zle_e rfl) (zle_e rfl)) (iv_w hv_m_nameSize (zle_e rfl) (zle_e rfl)) (iv_w iv_2 (zle_e rfl) (zle_e rfl)) hp_d_fresh hc_1) dX11_weakLine_k0.2.2.2.1 mw571 mw572 mw573 mw5 mw574 rfl 11 rfl rfl 0 _ rfl yk_yX11_reelPassed_0 rfl (Nat.le_of_ble_eq_true rfl) (Nat.le_of_ble_eq_true rfl) (Nat.le_of_ble_eq_true rfl) (Nat.le_of_ble_eq_true rfl) (Nat.le_of_ble_eq_true rfl) rfl rfl (vnd_e rfl) rfl (vnd_e rfl) (dsj_e rfl) ?_
    intro r_23 w zq
    refine exE9 zq ?_
    clear zq
    intro m_at2_14 m_end2_15 m_failed2_16 m_fault2_17 d_letters2_18 m_nameSize2_19 m_place2_20 m_token2_21 m_whole2_22 iv_24 zq
    refine exA6 zq ?_
    clear zq
    intro iv_25 iv_26 iv_27 hq_28 hq_29 hk_30 zq
    subst zq
    refine k_ws [(cO11_i1r1i10r1i2r5i2r12i3r4i2 h0 m_thrown a_tape m_taped m_size m_at2_14 m_end2_15 m_token2_21 m_whole2_22 m_nameSize2_19 m_fault2_17 m_place2_20 m_trouble a_letters m_failed2_16 m_hasHouse a_r a_fresh a_st a_undone a_kept m_undos m_images a_from a_begin a_motor a_change a_startFrame a_changeFrame a_lostAt a_blackAt a_slips a_leftArc a_died a_arcs m_bestSum m_nearest m_nearestTown a_there a_backAt a_sorted a_parts m_seed1 m_darkNow), (cAI g a_tape 900 d_tape), (cAI g a_letters 8 d_letters2_18), (cAI g a_fresh 311 d_fresh)] rfl ?_
    refine k_istore_n [(2, .int r_23), (1, .int z_11), (0, .ref h0)] X dX11_weakLine_k0.2.2.2.2 (nlt_e rfl) rfl ?_
    refine k_aload_n X dX11_weakLine_k1.1.1.1.1 2 rfl ?_
    refine k_get (ci := 11) X inlX11 rfl 13 (nlt_e rfl) dX11_weakLine_k1.1.1.1.2 mw469 0 rfl rfl ?_
    refine k_if_eq 37 X dX11_weakLine_k1.1.1.2.1 (jp_e rfl) (fun h_31 => ?_) (fun h_31 => ?_)
    · skip
      have iv_32 : IV m_failed2_16 0 0 := iv_meet iv_25 (iv_e h_31 iq_0_0_0) (zle_o rfl) (zle_o rfl)
      refine k_aload_n X dX11_weakLine_k1.1.2.1.2 2 rfl ?_
      refine k_iconst (v := 0) X dX11_weakLine_k1.1.2.2.1 ic_0 ?_
      refine k_aload_n X dX11_weakLine_k1.1.2.2.2 2 rfl ?_
      refine k_get (ci := 11) X inlX11 rfl 16 (nlt_e rfl) dX11_weakLine_k1.2.1.1.1 mw171 0 rfl rfl ?_
      refine k_bipush (v := 16) X dX11_weakLine_k1.2.1.1.2 bi_16 ?_
      refine k_iconst (v := 3) X dX11_weakLine_k1.2.1.2.1 ic_3 ?_
      refine k_iload_n X dX11_weakLine_k1.2.1.2.2 0 rfl ?_
      refine k_imul X dX11_weakLine_k1.2.2.1.1 ?_
      refine k_nm (fun z_33 ez_33 => ?_)
      have i_34 : z_33.toInt = 3 * r_23.toInt := in_mul ez_33 (by decide) (zle_e rfl) iv_27 (zle_e rfl) (zle_e rfl)
      have iv_35 : IV z_33 0 21 := by have := iq_3_3_3; have := iv_27; rw [IV, i_34]; omega
      refine k_iadd X dX11_weakLine_k1.2.2.1.2 ?_
      refine k_nm (fun z_36 ez_36 => ?_)
      have i_37 : z_36.toInt = 16 + z_33.toInt := in_add ez_36 iq_16_16_16 iv_35 (zle_e rfl) (zle_e rfl)
      have iv_38 : IV z_36 16 37 := iz2 i_37 iv_35 (zle_e rfl) (zle_e rfl)
      refine k_iald X dX11_weakLine_k1.2.2.2.1 3 rfl (iv_in iv_38 (zle_e rfl) (zle_l rfl)) ?_
      refine k_nm (fun z_39 ez_39 => ?_)
      refine k_iconst (v := 1) X dX11_weakLine_k1.2.2.2.2 ic_1 ?_
      refine k_isub X dX11_weakLine_k2.1.1.1.1 ?_
      refine k_nm (fun z_40 ez_40 => ?_)
      refine k_callVI (n := 2) (As := [.int 0, .int z_40]) (st := []) X [(cO11_i1r1i10r1i2r5i2r12i3r4i2 h0 m_thrown a_tape m_taped m_size m_at2_14 m_end2_15 m_token2_21 m_whole2_22 m_nameSize2_19 m_fault2_17 m_place2_20 m_trouble a_letters m_failed2_16 m_hasHouse a_r a_fresh a_st a_undone a_kept m_undos m_images a_from a_begin a_motor a_change a_startFrame a_changeFrame a_lostAt a_blackAt a_slips a_leftArc a_died a_arcs m_bestSum m_nearest m_nearestTown a_there a_backAt a_sorted a_parts m_seed1 m_darkNow)] [(cAI g a_tape 900 d_tape), (cAI g a_letters 8 d_letters2_18), (cAI g a_fresh 311 d_fresh)] [0] [1, 2, 3] (m_numberHereX l g h0 0 z_40 m_thrown a_tape m_taped m_size m_at2_14 m_end2_15 m_token2_21 m_whole2_22 m_nameSize2_19 m_fault2_17 m_place2_20 m_trouble a_letters m_failed2_16 m_hasHouse a_r a_fresh a_st a_undone a_kept m_undos m_images a_from a_begin a_motor a_change a_startFrame a_changeFrame a_lostAt a_blackAt a_slips a_leftArc a_died a_arcs m_bestSum m_nearest m_nearestTown a_there a_backAt a_sorted a_parts m_seed1 m_darkNow (iv_w iv_32 (zle_e rfl) (zle_e rfl))) dX11_weakLine_k2.1.1.1.2 mw539 mw540 mw541 mw5 mw542 rfl 11 rfl rfl 0 _ rfl yk_yX11_numberHere_2 rfl (Nat.le_of_ble_eq_true rfl) (Nat.le_of_ble_eq_true rfl) (Nat.le_of_ble_eq_true rfl) (Nat.le_of_ble_eq_true rfl) (Nat.le_of_ble_eq_true rfl) rfl rfl (vnd_e rfl) rfl (vnd_e rfl) (dsj_e rfl) ?_
      rintro r_45 w ⟨m_failed2_42, m_fault2_43, m_place2_44, iv_46, hq_47, hq_48, rfl⟩
      refine k_ws [(cAI g a_tape 900 d_tape), (cAI g a_letters 8 d_letters2_18), (cAI g a_fresh 311 d_fresh), (cO11_i1r1i10r1i2r5i2r12i3r4i2 h0 m_thrown a_tape m_taped m_size m_at2_14 m_end2_15 m_token2_21 m_whole2_22 m_nameSize2_19 m_fault2_43 m_place2_44 m_trouble a_letters m_failed2_42 m_hasHouse a_r a_fresh a_st a_undone a_kept m_undos m_images a_from a_begin a_motor a_change a_startFrame a_changeFrame a_lostAt a_blackAt a_slips a_leftArc a_died a_arcs m_bestSum m_nearest m_nearestTown a_there a_backAt a_sorted a_parts m_seed1 m_darkNow)] rfl ?_
      have e_49 : (0 : Int32).toInt = 0 := by decide
      have iv_50 : IV r_45 0 2147483647 := by have := iq_0_0_0; have := (iv_any z_40); rw [IV]; omega
      refine k_istore_n [(3, .int r_45), (2, .int r_23), (1, .int z_11), (0, .ref h0)] X dX11_weakLine_k2.1.1.2.1 (nlt_e rfl) rfl ?_
      refine k_iconst (v := 0) X dX11_weakLine_k2.1.1.2.2 ic_0 ?_
      refine k_istore [(4, .int 0), (3, .int r_45), (2, .int r_23), (1, .int z_11), (0, .ref h0)] X dX11_weakLine_k2.1.2.1.1 (nlt_e rfl) rfl ?_
      refine (fun hL : ∀ (nn_57 : Nat) (u_51 : Int32) (u_53 : Int32) (u_54 : Int32) (u_56 : Int32), (z_5.toInt - u_51.toInt).toNat = nn_57 → (IV u_51 0 8) → (IV u_54 0 1) → (∀ (m_at2 : Int32) (m_end2 : Int32) (m_failed2 : Int32) (m_fault2 : Int32) (d_fresh2 : Nat → Int32) (d_letters2 : Nat → Int32) (m_nameSize2 : Int32) (m_place2 : Int32) (m_token2 : Int32) (m_whole2 : Int32), (∃ n_0 : Nat, R_m_weakLineX_L0 d_fresh z_5 m_at2_14 r_23 r_45 (fun (u_54 : Int32) (u_56 : Int32) (u_53 : Int32) => (((u_54 = (0 : Int32)) ∧ (∃ m_at2_64 : Int32, ∃ m_end2_65 : Int32, ∃ d_letters2_66 : Nat → Int32, ∃ m_nameSize2_67 : Int32, ∃ m_token2_68 : Int32, ∃ m_whole2_69 : Int32, (R_m_nextX m_size m_end2_15 d_tape d_letters2_18 m_at2_64 m_end2_65 d_letters2_66 m_nameSize2_67 m_token2_68 m_whole2_69) ∧ ∃ fa_77 : Nat → Int32, fa_77 = upd d_fresh (z_11).toNatClampNeg r_23 ∧ ∃ z_84 : Int32, z_84 = z_11 + (1 : Int32) ∧ ∃ fa_87 : Nat → Int32, fa_87 = upd fa_77 (z_84).toNatClampNeg r_45 ∧ ∃ z_94 : Int32, z_94 = z_11 + (2 : Int32) ∧ ∃ m_at2_98 : Int32, ∃ m_end2_99 : Int32, ∃ m_failed2_100 : Int32, ∃ m_fault2_101 : Int32, ∃ d_letters2_102 : Nat → Int32, ∃ m_nameSize2_103 : Int32, ∃ m_place2_104 : Int32, ∃ m_token2_105 : Int32, ∃ m_whole2_106 : Int32, ∃ r_107 : Int32, (R_m_afterX 1 99 m_size m_at2_64 m_end2_65 m_token2_68 m_whole2_69 m_nameSize2_67 u_56 u_53 u_54 d_tape d_letters2_66 ("snaps") m_at2_98 m_end2_99 m_failed2_100 m_fault2_101 d_letters2_102 m_nameSize2_103 m_place2_104 m_token2_105 m_whole2_106 r_107) ∧ ∃ fa_118 : Nat → Int32, fa_118 = upd fa_87 (z_94).toNatClampNeg r_107 ∧ (((m_failed2_100 ≠ (0 : Int32)) ∧ (m_at2 = m_at2_98 ∧ m_end2 = m_end2_99 ∧ m_failed2 = m_failed2_100 ∧ m_fault2 = m_fault2_101 ∧ d_fresh2 = fa_118 ∧ d_letters2 = d_letters2_102 ∧ m_nameSize2 = m_nameSize2_103 ∧ m_place2 = m_place2_104 ∧ m_token2 = m_token2_105 ∧ m_whole2 = m_whole2_106)) ∨ ((m_failed2_100 = (0 : Int32)) ∧ (∃ z_128 : Int32, z_128 = z_5 + (1 : Int32) ∧ ∃ fa_131 : Nat → Int32, fa_131 = upd fa_118 ((10 : Int32)).toNatClampNeg z_128 ∧ m_at2 = m_at2_98 ∧ m_end2 = m_end2_99 ∧ m_failed2 = m_failed2_100 ∧ m_fault2 = m_fault2_101 ∧ d_fresh2 = fa_131 ∧ d_letters2 = d_letters2_102 ∧ m_nameSize2 = m_nameSize2_103 ∧ m_place2 = m_place2_104 ∧ m_token2 = m_token2_105 ∧ m_whole2 = m_whole2_106))))) ∨ ((¬ (u_54 = (0 : Int32))) ∧ (m_at2 = m_at2_14 ∧ m_end2 = m_end2_15 ∧ m_failed2 = u_54 ∧ m_fault2 = u_56 ∧ d_fresh2 = d_fresh ∧ d_letters2 = d_letters2_18 ∧ m_nameSize2 = m_nameSize2_19 ∧ m_place2 = u_53 ∧ m_token2 = m_token2_21 ∧ m_whole2 = m_whole2_22)))) n_0 u_51 u_53 u_54 u_56) → R_m_weakLineX m_size m_at m_end m_token m_whole m_nameSize m_fault m_place m_failed d_tape d_letters d_fresh m_at2 m_end2 m_failed2 m_fault2 d_fresh2 d_letters2 m_nameSize2 m_place2 m_token2 m_whole2) → Wk p l e _ s m args below meth c _ A g _ _ _ [(cAI g a_tape 900 d_tape), (cAI g a_letters 8 d_letters2_18), (cAI g a_fresh 311 d_fresh), (cO11_i1r1i10r1i2r5i2r12i3r4i2 h0 m_thrown a_tape m_taped m_size m_at2_14 m_end2_15 m_token2_21 m_whole2_22 m_nameSize2_19 u_56 u_53 m_trouble a_letters u_54 m_hasHouse a_r a_fresh a_st a_undone a_kept m_undos m_images a_from a_begin a_motor a_change a_startFrame a_changeFrame a_lostAt a_blackAt a_slips a_leftArc a_died a_arcs m_bestSum m_nearest m_nearestTown a_there a_backAt a_sorted a_parts m_seed1 m_darkNow)] [(4, .int u_51), (3, .int r_45), (2, .int r_23), (1, .int z_11), (0, .ref h0)] 59 [] => hL _ 0 m_place2_44 m_failed2_42 m_fault2_43 rfl (iv_w iq_0_0_0 (zle_e rfl) (zle_e rfl)) (iv_w iv_46 (zle_e rfl) (zle_e rfl)) (fun m_at2 m_end2 m_failed2 m_fault2 d_fresh2 d_letters2 m_nameSize2 m_place2 m_token2 m_whole2 h => (Or.inl ⟨h_1, ⟨z_5, ez_5, ⟨z_8, ez_8, ⟨z_11, ez_11, ⟨m_at2_14, m_end2_15, m_failed2_16, m_fault2_17, d_letters2_18, m_nameSize2_19, m_place2_20, m_token2_21, m_whole2_22, r_23, hq_29, (Or.inl ⟨h_31, ⟨z_33, ez_33, ⟨z_36, ez_36, ⟨z_39, ez_39, ⟨z_40, ez_40, ⟨m_failed2_42, m_fault2_43, m_place2_44, r_45, hq_48, h⟩⟩⟩⟩⟩⟩)⟩⟩⟩⟩⟩))) ?_
      refine fun nn_57 => Nat.strongRecOn nn_57 (fun nn_57 ih_59 => ?_)
      intro u_51 u_53 u_54 u_56 hm_58 hv_52 hv_55 KH_0
      refine k_iload X dX11_weakLine_k2.1.2.1.2 0 rfl ?_
      refine k_aload_n X dX11_weakLine_k2.1.2.2.1 4 rfl ?_
      refine k_get (ci := 11) X inlX11 rfl 16 (nlt_e rfl) dX11_weakLine_k2.1.2.2.2 mw171 3 rfl rfl ?_
      refine k_bipush (v := 10) X dX11_weakLine_k2.2.1.1.1 bi_10 ?_
      refine k_iald X dX11_weakLine_k2.2.1.1.2 2 rfl (by unfold vp_in; decide) ?_
      refine k_to z_5 ez_5.symm ?_
      refine k_ic_ge 127 X dX11_weakLine_k2.2.1.2.1 (jp_e rfl) (fun h_60 => ?_) (fun h_60 => ?_)
      · skip
        have j_61 : z_5.toInt ≤ u_51.toInt := iv_le h_60
        refine k_aload_n X dX11_weakLine_k4.2.1.2.2 4 rfl ?_
        refine k_get (ci := 11) X inlX11 rfl 13 (nlt_e rfl) dX11_weakLine_k4.2.2.1.1 mw469 3 rfl rfl ?_
        refine k_if_eq 135 X dX11_weakLine_k4.2.2.1.2 (jp_e rfl) (fun h_62 => ?_) (fun h_62 => ?_)
        · skip
          have iv_63 : IV u_54 0 0 := iv_meet hv_55 (iv_e h_62 iq_0_0_0) (zle_o rfl) (zle_o rfl)
          refine k_aload_n X dX11_weakLine_k4.2.2.2.2 4 rfl ?_
          refine k_callVV (n := 0) (As := []) (st := []) X [(cO11_i1r1i10r1i2r5i2r12i3r4i2 h0 m_thrown a_tape m_taped m_size m_at2_14 m_end2_15 m_token2_21 m_whole2_22 m_nameSize2_19 u_56 u_53 m_trouble a_letters u_54 m_hasHouse a_r a_fresh a_st a_undone a_kept m_undos m_images a_from a_begin a_motor a_change a_startFrame a_changeFrame a_lostAt a_blackAt a_slips a_leftArc a_died a_arcs m_bestSum m_nearest m_nearestTown a_there a_backAt a_sorted a_parts m_seed1 m_darkNow), (cAI g a_tape 900 d_tape), (cAI g a_letters 8 d_letters2_18)] [(cAI g a_fresh 311 d_fresh)] [3, 0, 1] [2] (m_nextX l g h0 m_thrown a_tape m_taped m_size m_at2_14 m_end2_15 m_token2_21 m_whole2_22 m_nameSize2_19 u_56 u_53 m_trouble a_letters u_54 m_hasHouse a_r a_fresh a_st a_undone a_kept m_undos m_images a_from a_begin a_motor a_change a_startFrame a_changeFrame a_lostAt a_blackAt a_slips a_leftArc a_died a_arcs m_bestSum m_nearest m_nearestTown a_there a_backAt a_sorted a_parts m_seed1 m_darkNow d_tape d_letters2_18 (iv_w hv_m_size (zle_e rfl) (zle_e rfl)) (iv_w iv_24 (zle_e rfl) (zle_e rfl)) (iv_w iv_26 (zle_e rfl) (zle_e rfl))) dX11_weakLine_k5.1.1.1.1 mw489 mw490 mw491 mw5 mw492 rfl 11 rfl rfl 0 _ rfl yk_yX11_next_0 rfl (Nat.le_of_ble_eq_true rfl) (Nat.le_of_ble_eq_true rfl) (Nat.le_of_ble_eq_true rfl) (Nat.le_of_ble_eq_true rfl) (Nat.le_of_ble_eq_true rfl) rfl rfl (vnd_e rfl) rfl (vnd_e rfl) (dsj_e rfl) ?_
          intro w zq
          refine exE6 zq ?_
          clear zq
          intro m_at2_64 m_end2_65 d_letters2_66 m_nameSize2_67 m_token2_68 m_whole2_69 iv_71 zq
          refine exA5 zq ?_
          clear zq
          intro iv_72 hq_73 hq_74 hq_75 hk_76 zq
          subst zq
          refine k_ws [(cAI g a_fresh 311 d_fresh), (cO11_i1r1i10r1i2r5i2r12i3r4i2 h0 m_thrown a_tape m_taped m_size m_at2_64 m_end2_65 m_token2_68 m_whole2_69 m_nameSize2_67 u_56 u_53 m_trouble a_letters u_54 m_hasHouse a_r a_fresh a_st a_undone a_kept m_undos m_images a_from a_begin a_motor a_change a_startFrame a_changeFrame a_lostAt a_blackAt a_slips a_leftArc a_died a_arcs m_bestSum m_nearest m_nearestTown a_there a_backAt a_sorted a_parts m_seed1 m_darkNow), (cAI g a_tape 900 d_tape), (cAI g a_letters 8 d_letters2_66)] rfl ?_
          refine k_aload_n X dX11_weakLine_k5.1.1.1.2 4 rfl ?_
          refine k_get (ci := 11) X inlX11 rfl 16 (nlt_e rfl) dX11_weakLine_k5.1.1.2.1 mw171 1 rfl rfl ?_
          refine k_iload_n X dX11_weakLine_k5.1.1.2.2 3 rfl ?_
          refine k_iload_n X dX11_weakLine_k5.1.2.1.1 2 rfl ?_
          refine k_iast [(cAI g a_fresh 311 (upd d_fresh (z_11 : Int32).toNatClampNeg r_23)), (cO11_i1r1i10r1i2r5i2r12i3r4i2 h0 m_thrown a_tape m_taped m_size m_at2_64 m_end2_65 m_token2_68 m_whole2_69 m_nameSize2_67 u_56 u_53 m_trouble a_letters u_54 m_hasHouse a_r a_fresh a_st a_undone a_kept m_undos m_images a_from a_begin a_motor a_change a_startFrame a_changeFrame a_lostAt a_blackAt a_slips a_leftArc a_died a_arcs m_bestSum m_nearest m_nearestTown a_there a_backAt a_sorted a_parts m_seed1 m_darkNow), (cAI g a_tape 900 d_tape), (cAI g a_letters 8 d_letters2_66)] X dX11_weakLine_k5.1.2.1.2 0 rfl (iv_in iv_13 (zle_e rfl) (zle_l rfl)) rfl ?_
          have i_79 : z_11.toInt = 96 + 3 * z_5.toInt := by omega
          refine (fun hg : ∀ fa_77 : Nat → Int32, fa_77 = upd d_fresh (z_11 : Int32).toNatClampNeg r_23 → RInv fa_77 → K16 d_fresh fa_77 → Wk p l e _ s m args below meth c _ A g _ _ _ [(cAI g a_fresh 311 fa_77), (cO11_i1r1i10r1i2r5i2r12i3r4i2 h0 m_thrown a_tape m_taped m_size m_at2_64 m_end2_65 m_token2_68 m_whole2_69 m_nameSize2_67 u_56 u_53 m_trouble a_letters u_54 m_hasHouse a_r a_fresh a_st a_undone a_kept m_undos m_images a_from a_begin a_motor a_change a_startFrame a_changeFrame a_lostAt a_blackAt a_slips a_leftArc a_died a_arcs m_bestSum m_nearest m_nearestTown a_there a_backAt a_sorted a_parts m_seed1 m_darkNow), (cAI g a_tape 900 d_tape), (cAI g a_letters 8 d_letters2_66)] _ _ _ => hg _ rfl (w_rb_96_3 hp_d_fresh i_79 (iv_w iv_7 (zle_e rfl) (zle_e rfl)) (iv_w iv_27 (zle_e rfl) (zle_e rfl))) (k16_u (z := z_11) (by have := iv_13; omega))) (fun fa_77 eq_81 hR_78 hk_80 => ?_)
          have ek_82 : z_5 = fa_77 (10 : Int32).toNatClampNeg := ez_5.trans (hk_80 _ (by decide)).symm
          have hT_83 : TRI fa_77 := by have := iv_13; exact tri_z (z := z_11) eq_81 hr_0 hp_d_fresh (by omega) (by omega) (by omega) (by omega) (by omega)
          refine k_aload_n X dX11_weakLine_k5.1.2.2.1 4 rfl ?_
          refine k_get (ci := 11) X inlX11 rfl 16 (nlt_e rfl) dX11_weakLine_k5.1.2.2.2 mw171 1 rfl rfl ?_
          refine k_iload_n X dX11_weakLine_k5.2.1.1.1 3 rfl ?_
          refine k_iconst (v := 1) X dX11_weakLine_k5.2.1.1.2 ic_1 ?_
          refine k_iadd X dX11_weakLine_k5.2.1.2.1 ?_
          refine k_nm (fun z_84 ez_84 => ?_)
          have i_85 : z_84.toInt = z_11.toInt + 1 := in_add ez_84 iv_13 iq_1_1_1 (zle_e rfl) (zle_e rfl)
          have iv_86 : IV z_84 97 112 := iz1 i_85 iv_13 (zle_e rfl) (zle_e rfl)
          refine k_iload_n X dX11_weakLine_k5.2.1.2.2 1 rfl ?_
          refine k_iast [(cAI g a_fresh 311 (upd fa_77 (z_84 : Int32).toNatClampNeg r_45)), (cO11_i1r1i10r1i2r5i2r12i3r4i2 h0 m_thrown a_tape m_taped m_size m_at2_64 m_end2_65 m_token2_68 m_whole2_69 m_nameSize2_67 u_56 u_53 m_trouble a_letters u_54 m_hasHouse a_r a_fresh a_st a_undone a_kept m_undos m_images a_from a_begin a_motor a_change a_startFrame a_changeFrame a_lostAt a_blackAt a_slips a_leftArc a_died a_arcs m_bestSum m_nearest m_nearestTown a_there a_backAt a_sorted a_parts m_seed1 m_darkNow), (cAI g a_tape 900 d_tape), (cAI g a_letters 8 d_letters2_66)] X dX11_weakLine_k5.2.2.1.1 0 rfl (iv_in iv_86 (zle_e rfl) (zle_l rfl)) rfl ?_
          have i_89 : z_84.toInt = 97 + 3 * z_5.toInt := by omega
          refine (fun hg : ∀ fa_87 : Nat → Int32, fa_87 = upd fa_77 (z_84 : Int32).toNatClampNeg r_45 → RInv fa_87 → K16 fa_77 fa_87 → Wk p l e _ s m args below meth c _ A g _ _ _ [(cAI g a_fresh 311 fa_87), (cO11_i1r1i10r1i2r5i2r12i3r4i2 h0 m_thrown a_tape m_taped m_size m_at2_64 m_end2_65 m_token2_68 m_whole2_69 m_nameSize2_67 u_56 u_53 m_trouble a_letters u_54 m_hasHouse a_r a_fresh a_st a_undone a_kept m_undos m_images a_from a_begin a_motor a_change a_startFrame a_changeFrame a_lostAt a_blackAt a_slips a_leftArc a_died a_arcs m_bestSum m_nearest m_nearestTown a_there a_backAt a_sorted a_parts m_seed1 m_darkNow), (cAI g a_tape 900 d_tape), (cAI g a_letters 8 d_letters2_66)] _ _ _ => hg _ rfl (w_fr_97_3 hR_78 i_89 (iv_w iv_7 (zle_e rfl) (zle_e rfl))) (k16_u (z := z_84) (by have := iv_86; omega))) (fun fa_87 eq_91 hR_88 hk_90 => ?_)
          have ek_92 : z_5 = fa_87 (10 : Int32).toNatClampNeg := ek_82.trans (hk_90 _ (by decide)).symm
          have hT_93 : TRI fa_87 := by have := iv_86; exact tri_z (z := z_84) eq_91 hT_83 hR_78 (by omega) (by omega) (by omega) (by omega) (by omega)
          refine k_aload_n X dX11_weakLine_k5.2.2.1.2 4 rfl ?_
          refine k_get (ci := 11) X inlX11 rfl 16 (nlt_e rfl) dX11_weakLine_k5.2.2.2.1 mw171 1 rfl rfl ?_
          refine k_iload_n X dX11_weakLine_k5.2.2.2.2 3 rfl ?_
          refine k_iconst (v := 2) X dX11_weakLine_k6.1.1.1.1 ic_2 ?_
          refine k_iadd X dX11_weakLine_k6.1.1.1.2 ?_
          refine k_nm (fun z_94 ez_94 => ?_)
          have i_95 : z_94.toInt = z_11.toInt + 2 := in_add ez_94 iv_13 iq_2_2_2 (zle_e rfl) (zle_e rfl)
          have iv_96 : IV z_94 98 113 := iz1 i_95 iv_13 (zle_e rfl) (zle_e rfl)
          refine k_aload_n X dX11_weakLine_k6.1.1.2.1 4 rfl ?_
          refine k_ldcwS (tx := "snaps") X dX11_weakLine_k6.1.1.2.2 (by decide +kernel) (fun sr_97 hsr_97 => ?_)
          refine k_iconst (v := 1) X dX11_weakLine_k6.1.2.1.1 ic_1 ?_
          refine k_bipush (v := 99) X dX11_weakLine_k6.1.2.1.2 bi_99 ?_
          refine k_callVI (n := 3) (As := [.ref sr_97, .int 1, .int 99]) (st := [.int z_94, .ref a_fresh]) X [(cO11_i1r1i10r1i2r5i2r12i3r4i2 h0 m_thrown a_tape m_taped m_size m_at2_64 m_end2_65 m_token2_68 m_whole2_69 m_nameSize2_67 u_56 u_53 m_trouble a_letters u_54 m_hasHouse a_r a_fresh a_st a_undone a_kept m_undos m_images a_from a_begin a_motor a_change a_startFrame a_changeFrame a_lostAt a_blackAt a_slips a_leftArc a_died a_arcs m_bestSum m_nearest m_nearestTown a_there a_backAt a_sorted a_parts m_seed1 m_darkNow), (cAI g a_tape 900 d_tape), (cAI g a_letters 8 d_letters2_66)] [(cAI g a_fresh 311 fa_87)] [1, 2, 3] [0] (m_afterX l g h0 sr_97 1 99 m_thrown a_tape m_taped m_size m_at2_64 m_end2_65 m_token2_68 m_whole2_69 m_nameSize2_67 u_56 u_53 m_trouble a_letters u_54 m_hasHouse a_r a_fresh a_st a_undone a_kept m_undos m_images a_from a_begin a_motor a_change a_startFrame a_changeFrame a_lostAt a_blackAt a_slips a_leftArc a_died a_arcs m_bestSum m_nearest m_nearestTown a_there a_backAt a_sorted a_parts m_seed1 m_darkNow d_tape d_letters2_66 ("snaps") (iv_w hv_m_size (zle_e rfl) (zle_e rfl)) (iv_w iv_71 (zle_e rfl) (zle_e rfl)) (iv_w iv_72 (zle_e rfl) (zle_e rfl)) (iv_w iv_63 (zle_e rfl) (zle_e rfl)) hsr_97 hk_76) dX11_weakLine_k6.1.2.2.1 mw523 mw524 mw525 mw5 mw526 rfl 11 rfl rfl 0 _ rfl yk_yX11_after_3 rfl (Nat.le_of_ble_eq_true rfl) (Nat.le_of_ble_eq_true rfl) (Nat.le_of_ble_eq_true rfl) (Nat.le_of_ble_eq_true rfl) (Nat.le_of_ble_eq_true rfl) rfl rfl (vnd_e rfl) rfl (vnd_e rfl) (dsj_e rfl) ?_
          intro r_107 w zq
          refine exE9 zq ?_
          clear zq
          intro m_at2_98 m_end2_99 m_failed2_100 m_fault2_101 d_letters2_102 m_nameSize2_103 m_place2_104 m_token2_105 m_whole2_106 iv_108 zq
          refine exA6 zq ?_
          clear zq
          intro iv_109 iv_110 hq_111 hq_112 hq_113 hk_114 zq
          subst zq
          refine k_ws [(cAI g a_fresh 311 fa_87), (cO11_i1r1i10r1i2r5i2r12i3r4i2 h0 m_thrown a_tape m_taped m_size m_at2_98 m_end2_99 m_token2_105 m_whole2_106 m_nameSize2_103 m_fault2_101 m_place2_104 m_trouble a_letters m_failed2_100 m_hasHouse a_r a_fresh a_st a_undone a_kept m_undos m_images a_from a_begin a_motor a_change a_startFrame a_changeFrame a_lostAt a_blackAt a_slips a_leftArc a_died a_arcs m_bestSum m_nearest m_nearestTown a_there a_backAt a_sorted a_parts m_seed1 m_darkNow), (cAI g a_tape 900 d_tape), (cAI g a_letters 8 d_letters2_102)] rfl ?_
          have e_115 : (1 : Int32).toInt = 1 := by decide
          have e_116 : (99 : Int32).toInt = 99 := by decide
          have iv_117 : IV r_107 1 99 := by have := iq_1_1_1; have := iq_99_99_99; rw [IV]; omega
          refine k_iast [(cAI g a_fresh 311 (upd fa_87 (z_94 : Int32).toNatClampNeg r_107)), (cO11_i1r1i10r1i2r5i2r12i3r4i2 h0 m_thrown a_tape m_taped m_size m_at2_98 m_end2_99 m_token2_105 m_whole2_106 m_nameSize2_103 m_fault2_101 m_place2_104 m_trouble a_letters m_failed2_100 m_hasHouse a_r a_fresh a_st a_undone a_kept m_undos m_images a_from a_begin a_motor a_change a_startFrame a_changeFrame a_lostAt a_blackAt a_slips a_leftArc a_died a_arcs m_bestSum m_nearest m_nearestTown a_there a_backAt a_sorted a_parts m_seed1 m_darkNow), (cAI g a_tape 900 d_tape), (cAI g a_letters 8 d_letters2_102)] X dX11_weakLine_k6.1.2.2.2 0 rfl (iv_in iv_96 (zle_e rfl) (zle_l rfl)) rfl ?_
          have i_120 : z_94.toInt = 98 + 3 * z_5.toInt := by omega
          refine (fun hg : ∀ fa_118 : Nat → Int32, fa_118 = upd fa_87 (z_94 : Int32).toNatClampNeg r_107 → RInv fa_118 → K16 fa_87 fa_118 → Wk p l e _ s m args below meth c _ A g _ _ _ [(cAI g a_fresh 311 fa_118), (cO11_i1r1i10r1i2r5i2r12i3r4i2 h0 m_thrown a_tape m_taped m_size m_at2_98 m_end2_99 m_token2_105 m_whole2_106 m_nameSize2_103 m_fault2_101 m_place2_104 m_trouble a_letters m_failed2_100 m_hasHouse a_r a_fresh a_st a_undone a_kept m_undos m_images a_from a_begin a_motor a_change a_startFrame a_changeFrame a_lostAt a_blackAt a_slips a_leftArc a_died a_arcs m_bestSum m_nearest m_nearestTown a_there a_backAt a_sorted a_parts m_seed1 m_darkNow), (cAI g a_tape 900 d_tape), (cAI g a_letters 8 d_letters2_102)] _ _ _ => hg _ rfl (w_fr_98_3 hR_88 i_120 (iv_w iv_7 (zle_e rfl) (zle_e rfl))) (k16_u (z := z_94) (by have := iv_96; omega))) (fun fa_118 eq_122 hR_119 hk_121 => ?_)
          have ek_123 : z_5 = fa_118 (10 : Int32).toNatClampNeg := ek_92.trans (hk_121 _ (by decide)).symm
          have hT_124 : TRI fa_118 := by have := iv_96; exact tri_z (z := z_94) eq_122 hT_93 hR_88 (by omega) (by omega) (by omega) (by omega) (by omega)
          refine k_aload_n X dX11_weakLine_k6.2.1.1.1 4 rfl ?_
          refine k_get (ci := 11) X inlX11 rfl 13 (nlt_e rfl) dX11_weakLine_k6.2.1.1.2 mw469 1 rfl rfl ?_
          refine k_if_ne 191 X dX11_weakLine_k6.2.1.2.1 (jp_e rfl) (fun h_125 => ?_) (fun h_125 => ?_)
          · skip
            have iv_126 : IV m_failed2_100 1 1 := iv_neL h_125 iv_109 iq_0_0_0 (zle_e rfl)
            exact k_vret X hr dX11_weakLine_k7.2.2 (Nat.le_of_ble_eq_true rfl) (Nat.le_of_ble_eq_true rfl) [1, 2, 3, 0] (vnd_e rfl) rfl rfl ⟨m_at2_98, m_end2_99, m_failed2_100, m_fault2_101, fa_118, d_letters2_102, m_nameSize2_103, m_place2_104, m_token2_105, m_whole2_106, (iv_w iv_108 (zle_e rfl) (zle_e rfl)), (iv_w iv_126 (zle_e rfl) (zle_e rfl)), (iv_w iv_110 (zle_e rfl) (zle_e rfl)), hR_119, (by omega), hT_124, (KH_0 _ _ _ _ _ _ _ _ _ _ ⟨0 + 1, (Or.inl ⟨h_60, (Or.inl ⟨h_62, ⟨m_at2_64, m_end2_65, d_letters2_66, m_nameSize2_67, m_token2_68, m_whole2_69, hq_75, ⟨fa_77, eq_81, ⟨z_84, ez_84, ⟨fa_87, eq_91, ⟨z_94, ez_94, ⟨m_at2_98, m_end2_99, m_failed2_100, m_fault2_101, d_letters2_102, m_nameSize2_103, m_place2_104, m_token2_105, m_whole2_106, r_107, hq_113, ⟨fa_118, eq_122, (Or.inl ⟨h_125, ⟨rfl, rfl, rfl, rfl, rfl, rfl, rfl, rfl, rfl, rfl⟩⟩)⟩⟩⟩⟩⟩⟩⟩⟩)⟩)⟩), hk_114, rfl⟩
          · skip
            have iv_127 : IV m_failed2_100 0 0 := iv_meet iv_109 (iv_e h_125 iq_0_0_0) (zle_o rfl) (zle_o rfl)
            refine k_aload_n X dX11_weakLine_k6.2.1.2.2 4 rfl ?_
            refine k_get (ci := 11) X inlX11 rfl 16 (nlt_e rfl) dX11_weakLine_k6.2.2.1.1 mw171 1 rfl rfl ?_
            refine k_bipush (v := 10) X dX11_weakLine_k6.2.2.1.2 bi_10 ?_
            refine k_dup2 X dX11_weakLine_k6.2.2.2.1 rfl rfl ?_
            refine k_iald X dX11_weakLine_k6.2.2.2.2 0 rfl (by unfold vp_in; decide) ?_
            refine k_to z_5 ek_123.symm ?_
            refine k_iconst (v := 1) X dX11_weakLine_k7.1.1 ic_1 ?_
            refine k_iadd X dX11_weakLine_k7.1.2 ?_
            refine k_nm (fun z_128 ez_128 => ?_)
            have i_129 : z_128.toInt = z_5.toInt + 1 := in_add ez_128 iv_7 iq_1_1_1 (zle_e rfl) (zle_e rfl)
            have iv_130 : IV z_128 1 6 := iz1 i_129 iv_7 (zle_e rfl) (zle_e rfl)
            refine k_iast [(cAI g a_fresh 311 (upd fa_118 (10 : Int32).toNatClampNeg z_128)), (cO11_i1r1i10r1i2r5i2r12i3r4i2 h0 m_thrown a_tape m_taped m_size m_at2_98 m_end2_99 m_token2_105 m_whole2_106 m_nameSize2_103 m_fault2_101 m_place2_104 m_trouble a_letters m_failed2_100 m_hasHouse a_r a_fresh a_st a_undone a_kept m_undos m_images a_from a_begin a_motor a_change a_startFrame a_changeFrame a_lostAt a_blackAt a_slips a_leftArc a_died a_arcs m_bestSum m_nearest m_nearestTown a_there a_backAt a_sorted a_parts m_seed1 m_darkNow), (cAI g a_tape 900 d_tape), (cAI g a_letters 8 d_letters2_102)] X dX11_weakLine_k7.2.1 0 rfl (by unfold vp_in; decide) rfl ?_
            refine (fun hg : ∀ fa_131 : Nat → Int32, fa_131 = upd fa_118 (10 : Int32).toNatClampNeg z_128 → RInv fa_131 → Wk p l e _ s m args below meth c _ A g _ _ _ [(cAI g a_fresh 311 fa_131), (cO11_i1r1i10r1i2r5i2r12i3r4i2 h0 m_thrown a_tape m_taped m_size m_at2_98 m_end2_99 m_token2_105 m_whole2_106 m_nameSize2_103 m_fault2_101 m_place2_104 m_trouble a_letters m_failed2_100 m_hasHouse a_r a_fresh a_st a_undone a_kept m_undos m_images a_from a_begin a_motor a_change a_startFrame a_changeFrame a_lostAt a_blackAt a_slips a_leftArc a_died a_arcs m_bestSum m_nearest m_nearestTown a_there a_backAt a_sorted a_parts m_seed1 m_darkNow), (cAI g a_tape 900 d_tape), (cAI g a_letters 8 d_letters2_102)] _ _ _ => hg _ rfl (w_rb_10 hR_119 (iv_w iv_130 (zle_e rfl) (zle_e rfl)))) (fun fa_131 eq_134 hR_132 => ?_)
            have hT_135 : TRI fa_131 := by rw [eq_134]; exact tri_n (z := 10) hT_124 hR_119 (by decide) (by decide) (by decide) (by decide)
            exact k_vret X hr dX11_weakLine_k7.2.2 (Nat.le_of_ble_eq_true rfl) (Nat.le_of_ble_eq_true rfl) [1, 2, 3, 0] (vnd_e rfl) rfl rfl ⟨m_at2_98, m_end2_99, m_failed2_100, m_fault2_101, fa_131, d_letters2_102, m_nameSize2_103, m_place2_104, m_token2_105, m_whole2_106, (iv_w iv_108 (zle_e rfl) (zle_e rfl)), (iv_w iv_127 (zle_e rfl) (zle_e rfl)), (iv_w iv_110 (zle_e rfl) (zle_e rfl)), hR_132, (by omega), hT_135, (KH_0 _ _ _ _ _ _ _ _ _ _ ⟨0 + 1, (Or.inl ⟨h_60, (Or.inl ⟨h_62, ⟨m_at2_64, m_end2_65, d_letters2_66, m_nameSize2_67, m_token2_68, m_whole2_69, hq_75, ⟨fa_77, eq_81, ⟨z_84, ez_84, ⟨fa_87, eq_91, ⟨z_94, ez_94, ⟨m_at2_98, m_end2_99, m_failed2_100, m_fault2_101, d_letters2_102, m_nameSize2_103, m_place2_104, m_token2_105, m_whole2_106, r_107, hq_113, ⟨fa_118, eq_122, (Or.inr ⟨h_125, ⟨z_128, ez_128, ⟨fa_131, eq_134, ⟨rfl, rfl, rfl, rfl, rfl, rfl, rfl, rfl, rfl, rfl⟩⟩⟩⟩)⟩⟩⟩⟩⟩⟩⟩⟩)⟩)⟩), hk_114, rfl⟩
        · skip
          have iv_136 : IV u_54 1 1 := iv_neL h_62 hv_55 iq_0_0_0 (zle_e rfl)
          exact k_vret X hr dX11_weakLine_k4.2.2.2.1 (Nat.le_of_ble_eq_true rfl) (Nat.le_of_ble_eq_true rfl) [3, 0, 1, 2] (vnd_e rfl) rfl rfl ⟨m_at2_14, m_end2_15, u_54, u_56, d_fresh, d_letters2_18, m_nameSize2_19, u_53, m_token2_21, m_whole2_22, (iv_w iv_24 (zle_e rfl) (zle_e rfl)), (iv_w iv_136 (zle_e rfl) (zle_e rfl)), (iv_w iv_26 (zle_e rfl) (zle_e rfl)), hp_d_fresh, (by omega), hr_0, (KH_0 _ _ _ _ _ _ _ _ _ _ ⟨0 + 1, (Or.inl ⟨h_60, (Or.inr ⟨h_62, ⟨rfl, rfl, rfl, rfl, rfl, rfl, rfl, rfl, rfl, rfl⟩⟩)⟩)⟩), hk_30, rfl⟩
      · skip
        have j_137 : u_51.toInt < z_5.toInt := iv_nle h_60
        have iv_138 : IV u_51 0 4 := iv_ltL (iv_nle h_60) hv_52 iv_7 (zle_e rfl)
        have iv_139 : IV z_5 1 5 := iv_ltR (iv_nle h_60) hv_52 iv_7 (zle_e rfl)
        refine k_aload_n X dX11_weakLine_k2.2.1.2.2 4 rfl ?_
        refine k_get (ci := 11) X inlX11 rfl 13 (nlt_e rfl) dX11_weakLine_k2.2.2.1.1 mw469 3 rfl rfl ?_
        refine k_if_ne 121 X dX11_weakLine_k2.2.2.1.2 (jp_e rfl) (fun h_140 => ?_) (fun h_140 => ?_)
        · skip
          have iv_141 : IV u_54 1 1 := iv_neL h_140 hv_55 iq_0_0_0 (zle_e rfl)
          obtain ⟨z_142, ez_142⟩ : ∃ y : Int32, u_51 + Int32.ofInt 1 = y := ⟨_, rfl⟩
          refine k_iinc z_142 [(4, .int z_142), (3, .int r_45), (2, .int r_23), (1, .int z_11), (0, .ref h0)] 0 X dX11_weakLine_k4.2.1.1.2 rfl ez_142 (nlt_e rfl) rfl ?_
          have i_143 : z_142.toInt = u_51.toInt + 1 := in_inc ez_142 (oin_e rfl) iv_138 (zle_e rfl) (zle_e rfl)
          have iv_144 : IV z_142 1 5 := iz1 i_143 iv_138 (zle_e rfl) (zle_e rfl)
          refine k_goto 59 X dX11_weakLine_k4.2.1.2.1 (jp_e rfl) ?_
          exact ih_59 _ (by omega) z_142 u_53 u_54 u_56 rfl (iv_w iv_144 (zle_e rfl) (zle_e rfl)) (iv_w iv_141 (zle_e rfl) (zle_e rfl)) (fun m_at2 m_end2 m_failed2 m_fault2 d_fresh2 d_letters2 m_nameSize2 m_place2 m_token2 m_whole2 h => h.elim (fun n_0 q => (KH_0 _ _ _ _ _ _ _ _ _ _ ⟨n_0 + 1, (Or.inr ⟨h_60, (Or.inl ⟨h_140, ⟨z_142, ez_142, q⟩⟩)⟩)⟩)))
        · skip
          have iv_145 : IV u_54 0 0 := iv_meet hv_55 (iv_e h_140 iq_0_0_0) (zle_o rfl) (zle_o rfl)
          refine k_aload_n X dX11_weakLine_k2.2.2.2.1 4 rfl ?_
          refine k_get (ci := 11) X inlX11 rfl 16 (nlt_e rfl) dX11_weakLine_k2.2.2.2.2 mw171 3 rfl rfl ?_
          refine k_bipush (v := 96) X dX11_weakLine_k3.1.1.1.1 bi_96 ?_
          refine k_iconst (v := 3) X dX11_weakLine_k3.1.1.1.2 ic_3 ?_
          refine k_iload X dX11_weakLine_k3.1.1.2.1 0 rfl ?_
          refine k_imul X dX11_weakLine_k3.1.1.2.2 ?_
          refine k_nm (fun z_146 ez_146 => ?_)
          have i_147 : z_146.toInt = 3 * u_51.toInt := in_mul ez_146 (by decide) (zle_e rfl) iv_138 (zle_e rfl) (zle_e rfl)
          have iv_148 : IV z_146 0 12 := iz4 i_147 iv_138 (zle_e rfl) (zle_e rfl) (zle_e rfl)
          refine k_iadd X dX11_weakLine_k3.1.2.1.1 ?_
          refine k_nm (fun z_149 ez_149 => ?_)
          have i_150 : z_149.toInt = 96 + z_146.toInt := in_add ez_149 iq_96_96_96 iv_148 (zle_e rfl) (zle_e rfl)
          have iv_151 : IV z_149 96 108 := iz2 i_150 iv_148 (zle_e rfl) (zle_e rfl)
          refine k_iald X dX11_weakLine_k3.1.2.1.2 2 rfl (iv_in iv_151 (zle_e rfl) (zle_l rfl)) ?_
          refine k_nm (fun z_152 ez_152 => ?_)
          have i_153 : z_149.toInt = 96 + 3 * u_51.toInt := by omega
          have iv_154 : IV z_152 0 7 := rb_96_3 ez_152 hp_d_fresh i_153 (iv_w iv_138 (zle_e rfl) (zle_e rfl))
          refine k_iload_n X dX11_weakLine_k3.1.2.2.1 2 rfl ?_
          refine k_ic_ne 121 X dX11_weakLine_k3.1.2.2.2 (jp_e rfl) (fun h_155 => ?_) (fun h_155 => ?_)
          · skip
            obtain ⟨z_156, ez_156⟩ : ∃ y : Int32, u_51 + Int32.ofInt 1 = y := ⟨_, rfl⟩
            refine k_iinc z_156 [(4, .int z_156), (3, .int r_45), (2, .int r_23), (1, .int z_11), (0, .ref h0)] 0 X dX11_weakLine_k4.2.1.1.2 rfl ez_156 (nlt_e rfl) rfl ?_
            have i_157 : z_156.toInt = u_51.toInt + 1 := in_inc ez_156 (oin_e rfl) iv_138 (zle_e rfl) (zle_e rfl)
            have iv_158 : IV z_156 1 5 := iz1 i_157 iv_138 (zle_e rfl) (zle_e rfl)
            refine k_goto 59 X dX11_weakLine_k4.2.1.2.1 (jp_e rfl) ?_
            exact ih_59 _ (by omega) z_156 u_53 u_54 u_56 rfl (iv_w iv_158 (zle_e rfl) (zle_e rfl)) (iv_w iv_145 (zle_e rfl) (zle_e rfl)) (fun m_at2 m_end2 m_failed2 m_fault2 d_fresh2 d_letters2 m_nameSize2 m_place2 m_token2 m_whole2 h => h.elim (fun n_0 q => (KH_0 _ _ _ _ _ _ _ _ _ _ ⟨n_0 + 1, (Or.inr ⟨h_60, (Or.inr ⟨h_140, ⟨z_146, ez_146, ⟨z_149, ez_149, ⟨z_152, ez_152, (Or.inl ⟨h_155, ⟨z_156, ez_156, q⟩⟩)⟩⟩⟩⟩)⟩)⟩)))
          · skip
            refine k_aload_n X dX11_weakLine_k3.2.1.1.1 4 rfl ?_
            refine k_get (ci := 11) X inlX11 rfl 16 (nlt_e rfl) dX11_weakLine_k3.2.1.1.2 mw171 3 rfl rfl ?_
            refine k_bipush (v := 96) X dX11_weakLine_k3.2.1.2.1 bi_96 ?_
            refine k_iconst (v := 3) X dX11_weakLine_k3.2.1.2.2 ic_3 ?_
            refine k_iload X dX11_weakLine_k3.2.2.1.1 0 rfl ?_
            refine k_imul X dX11_weakLine_k3.2.2.1.2 ?_
            refine k_to z_146 ez_146.symm ?_
            refine k_iadd X dX11_weakLine_k3.2.2.2.1 ?_
            refine k_to z_149 ez_149.symm ?_
            refine k_iconst (v := 1) X dX11_weakLine_k3.2.2.2.2 ic_1 ?_
            refine k_iadd X dX11_weakLine_k4.1.1.1.1 ?_
            refine k_nm (fun z_159 ez_159 => ?_)
            have i_160 : z_159.toInt = z_149.toInt + 1 := in_add ez_159 iv_151 iq_1_1_1 (zle_e rfl) (zle_e rfl)
            have iv_161 : IV z_159 97 109 := iz1 i_160 iv_151 (zle_e rfl) (zle_e rfl)
            refine k_iald X dX11_weakLine_k4.1.1.1.2 2 rfl (iv_in iv_161 (zle_e rfl) (zle_l rfl)) ?_
            refine k_nm (fun z_162 ez_162 => ?_)
            refine k_iload_n X dX11_weakLine_k4.1.1.2.1 1 rfl ?_
            refine k_ic_ne 121 X dX11_weakLine_k4.1.1.2.2 (jp_e rfl) (fun h_163 => ?_) (fun h_163 => ?_)
            · skip
              obtain ⟨z_164, ez_164⟩ : ∃ y : Int32, u_51 + Int32.ofInt 1 = y := ⟨_, rfl⟩
              refine k_iinc z_164 [(4, .int z_164), (3, .int r_45), (2, .int r_23), (1, .int z_11), (0, .ref h0)] 0 X dX11_weakLine_k4.2.1.1.2 rfl ez_164 (nlt_e rfl) rfl ?_
              have i_165 : z_164.toInt = u_51.toInt + 1 := in_inc ez_164 (oin_e rfl) iv_138 (zle_e rfl) (zle_e rfl)
              have iv_166 : IV z_164 1 5 := iz1 i_165 iv_138 (zle_e rfl) (zle_e rfl)
              refine k_goto 59 X dX11_weakLine_k4.2.1.2.1 (jp_e rfl) ?_
              exact ih_59 _ (by omega) z_164 u_53 u_54 u_56 rfl (iv_w iv_166 (zle_e rfl) (zle_e rfl)) (iv_w iv_145 (zle_e rfl) (zle_e rfl)) (fun m_at2 m_end2 m_failed2 m_fault2 d_fresh2 d_letters2 m_nameSize2 m_place2 m_token2 m_whole2 h => h.elim (fun n_0 q => (KH_0 _ _ _ _ _ _ _ _ _ _ ⟨n_0 + 1, (Or.inr ⟨h_60, (Or.inr ⟨h_140, ⟨z_146, ez_146, ⟨z_149, ez_149, ⟨z_152, ez_152, (Or.inr ⟨h_155, ⟨z_159, ez_159, ⟨z_162, ez_162, (Or.inl ⟨h_163, ⟨z_164, ez_164, q⟩⟩)⟩⟩⟩)⟩⟩⟩⟩)⟩)⟩)))
            · skip
              have iv_167 : IV z_162 0 2147483647 := iv_meet (iv_any z_162) (iv_e h_163 iv_50) (zle_o rfl) (zle_o rfl)
              refine k_aload_n X dX11_weakLine_k4.1.2.1.1 4 rfl ?_
              refine k_iconst (v := 3) X dX11_weakLine_k4.1.2.1.2 ic_3 ?_
              refine k_aload_n X dX11_weakLine_k4.1.2.2.1 4 rfl ?_
              refine k_get (ci := 11) X inlX11 rfl 4 (nlt_e rfl) dX11_weakLine_k4.1.2.2.2 mw473 3 rfl rfl ?_
              refine k_callVV (n := 2) (As := [.int 3, .int m_at2_14]) (st := []) X [(cO11_i1r1i10r1i2r5i2r12i3r4i2 h0 m_thrown a_tape m_taped m_size m_at2_14 m_end2_15 m_token2_21 m_whole2_22 m_nameSize2_19 u_56 u_53 m_trouble a_letters u_54 m_hasHouse a_r a_fresh a_st a_undone a_kept m_undos m_images a_from a_begin a_motor a_change a_startFrame a_changeFrame a_lostAt a_blackAt a_slips a_leftArc a_died a_arcs m_bestSum m_nearest m_nearestTown a_there a_backAt a_sorted a_parts m_seed1 m_darkNow)] [(cAI g a_tape 900 d_tape), (cAI g a_letters 8 d_letters2_18), (cAI g a_fresh 311 d_fresh)] [3] [0, 1, 2] (m_badX l g h0 3 m_at2_14 m_thrown a_tape m_taped m_size m_at2_14 m_end2_15 m_token2_21 m_whole2_22 m_nameSize2_19 u_56 u_53 m_trouble a_letters u_54 m_hasHouse a_r a_fresh a_st a_undone a_kept m_undos m_images a_from a_begin a_motor a_change a_startFrame a_changeFrame a_lostAt a_blackAt a_slips a_leftArc a_died a_arcs m_bestSum m_nearest m_nearestTown a_there a_backAt a_sorted a_parts m_seed1 m_darkNow (iv_w iv_145 (zle_e rfl) (zle_e rfl))) dX11_weakLine_k4.2.1.1.1 mw519 mw520 mw521 mw5 mw522 rfl 11 rfl rfl 0 _ rfl yk_yX11_bad_2 rfl (Nat.le_of_ble_eq_true rfl) (Nat.le_of_ble_eq_true rfl) (Nat.le_of_ble_eq_true rfl) (Nat.le_of_ble_eq_true rfl) (Nat.le_of_ble_eq_true rfl) rfl rfl (vnd_e rfl) rfl (vnd_e rfl) (dsj_e rfl) ?_
              rintro w ⟨m_failed2_168, m_fault2_169, m_place2_170, iv_172, hq_173, rfl⟩
              refine k_ws [(cAI g a_tape 900 d_tape), (cAI g a_letters 8 d_letters2_18), (cAI g a_fresh 311 d_fresh), (cO11_i1r1i10r1i2r5i2r12i3r4i2 h0 m_thrown a_tape m_taped m_size m_at2_14 m_end2_15 m_token2_21 m_whole2_22 m_nameSize2_19 m_fault2_169 m_place2_170 m_trouble a_letters m_failed2_168 m_hasHouse a_r a_fresh a_st a_undone a_kept m_undos m_images a_from a_begin a_motor a_change a_startFrame a_changeFrame a_lostAt a_blackAt a_slips a_leftArc a_died a_arcs m_bestSum m_nearest m_nearestTown a_there a_backAt a_sorted a_parts m_seed1 m_darkNow)] rfl ?_
              obtain ⟨z_174, ez_174⟩ : ∃ y : Int32, u_51 + Int32.ofInt 1 = y := ⟨_, rfl⟩
              refine k_iinc z_174 [(4, .int z_174), (3, .int r_45), (2, .int r_23), (1, .int z_11), (0, .ref h0)] 0 X dX11_weakLine_k4.2.1.1.2 rfl ez_174 (nlt_e rfl) rfl ?_
              have i_175 : z_174.toInt = u_51.toInt + 1 := in_inc ez_174 (oin_e rfl) iv_138 (zle_e rfl) (zle_e rfl)
              have iv_176 : IV z_174 1 5 := iz1 i_175 iv_138 (zle_e rfl) (zle_e rfl)
              refine k_goto 59 X dX11_weakLine_k4.2.1.2.1 (jp_e rfl) ?_
              exact ih_59 _ (by omega) z_174 m_place2_170 m_failed2_168 m_fault2_169 rfl (iv_w iv_176 (zle_e rfl) (zle_e rfl)) (iv_w iv_172 (zle_e rfl) (zle_e rfl)) (fun m_at2 m_end2 m_failed2 m_fault2 d_fresh2 d_letters2 m_nameSize2 m_place2 m_token2 m_whole2 h => h.elim (fun n_0 q => (KH_0 _ _ _ _ _ _ _ _ _ _ ⟨n_0 + 1, (Or.inr ⟨h_60, (Or.inr ⟨h_140, ⟨z_146, ez_146, ⟨z_149, ez_149, ⟨z_152, ez_152, (Or.inr ⟨h_155, ⟨z_159, ez_159, ⟨z_162, ez_162, (Or.inr ⟨h_163, ⟨m_failed2_168, m_fault2_169, m_place2_170, hq_173, ⟨z_174, ez_174, q⟩⟩⟩)⟩⟩⟩)⟩⟩⟩⟩)⟩)⟩)))
    · skip
      have iv_177 : IV m_failed2_16 1 1 := iv_neL h_31 iv_25 iq_0_0_0 (zle_e rfl)
      refine k_iconst (v := 0) X dX11_weakLine_k1.1.1.2.2 ic_0 ?_
      refine k_goto 55 X dX11_weakLine_k1.1.2.1.1 (jp_e rfl) ?_
      refine k_istore_n [(3, .int 0), (2, .int r_23), (1, .int z_11), (0, .ref h0)] X dX11_weakLine_k2.1.1.2.1 (nlt_e rfl) rfl ?_
      refine k_iconst (v := 0) X dX11_weakLine_k2.1.1.2.2 ic_0 ?_
      refine k_istore [(4, .int 0), (3, .int 0), (2, .int r_23), (1, .int z_11), (0, .ref h0)] X dX11_weakLine_k2.1.2.1.1 (nlt_e rfl) rfl ?_
      refine (fun hL : ∀ (nn_180 : Nat) (u_178 : Int32), (z_5.toInt - u_178.toInt).toNat = nn_180 → (IV u_178 0 8) → (∀ (m_at2 : Int32) (m_end2 : Int32) (m_failed2 : Int32) (m_fault2 : Int32) (d_fresh2 : Nat → Int32) (d_letters2 : Nat → Int32) (m_nameSize2 : Int32) (m_place2 : Int32) (m_token2 : Int32) (m_whole2 : Int32), (∃ n_1 : Nat, R_m_weakLineX_L1 z_5 (m_at2 = m_at2_14 ∧ m_end2 = m_end2_15 ∧ m_failed2 = m_failed2_16 ∧ m_fault2 = m_fault2_17 ∧ d_fresh2 = d_fresh ∧ d_letters2 = d_letters2_18 ∧ m_nameSize2 = m_nameSize2_19 ∧ m_place2 = m_place2_20 ∧ m_token2 = m_token2_21 ∧ m_whole2 = m_whole2_22) n_1 u_178) → R_m_weakLineX m_size m_at m_end m_token m_whole m_nameSize m_fault m_place m_failed d_tape d_letters d_fresh m_at2 m_end2 m_failed2 m_fault2 d_fresh2 d_letters2 m_nameSize2 m_place2 m_token2 m_whole2) → Wk p l e _ s m args below meth c _ A g _ _ _ [(cO11_i1r1i10r1i2r5i2r12i3r4i2 h0 m_thrown a_tape m_taped m_size m_at2_14 m_end2_15 m_token2_21 m_whole2_22 m_nameSize2_19 m_fault2_17 m_place2_20 m_trouble a_letters m_failed2_16 m_hasHouse a_r a_fresh a_st a_undone a_kept m_undos m_images a_from a_begin a_motor a_change a_startFrame a_changeFrame a_lostAt a_blackAt a_slips a_leftArc a_died a_arcs m_bestSum m_nearest m_nearestTown a_there a_backAt a_sorted a_parts m_seed1 m_darkNow), (cAI g a_tape 900 d_tape), (cAI g a_letters 8 d_letters2_18), (cAI g a_fresh 311 d_fresh)] [(4, .int u_178), (3, .int 0), (2, .int r_23), (1, .int z_11), (0, .ref h0)] 59 [] => hL _ 0 rfl (iv_w iq_0_0_0 (zle_e rfl) (zle_e rfl)) (fun m_at2 m_end2 m_failed2 m_fault2 d_fresh2 d_letters2 m_nameSize2 m_place2 m_token2 m_whole2 h => (Or.inl ⟨h_1, ⟨z_5, ez_5, ⟨z_8, ez_8, ⟨z_11, ez_11, ⟨m_at2_14, m_end2_15, m_failed2_16, m_fault2_17, d_letters2_18, m_nameSize2_19, m_place2_20, m_token2_21, m_whole2_22, r_23, hq_29, (Or.inr ⟨h_31, h⟩)⟩⟩⟩⟩⟩))) ?_
      refine fun nn_180 => Nat.strongRecOn nn_180 (fun nn_180 ih_182 => ?_)
      intro u_178 hm_181 hv_179 KH_1
      refine k_iload X dX11_weakLine_k2.1.2.1.2 0 rfl ?_
      refine k_aload_n X dX11_weakLine_k2.1.2.2.1 4 rfl ?_
      refine k_get (ci := 11) X inlX11 rfl 16 (nlt_e rfl) dX11_weakLine_k2.1.2.2.2 mw171 0 rfl rfl ?_
      refine k_bipush (v := 10) X dX11_weakLine_k2.2.1.1.1 bi_10 ?_
      refine k_iald X dX11_weakLine_k2.2.1.1.2 3 rfl (by unfold vp_in; decide) ?_
      refine k_to z_5 ez_5.symm ?_
      refine k_ic_ge 127 X dX11_weakLine_k2.2.1.2.1 (jp_e rfl) (fun h_183 => ?_) (fun h_183 => ?_)
      · skip
        have j_184 : z_5.toInt ≤ u_178.toInt := iv_le h_183
        refine k_aload_n X dX11_weakLine_k4.2.1.2.2 4 rfl ?_
        refine k_get (ci := 11) X inlX11 rfl 13 (nlt_e rfl) dX11_weakLine_k4.2.2.1.1 mw469 0 rfl rfl ?_
        refine k_if_eq 135 X dX11_weakLine_k4.2.2.1.2 (jp_e rfl) (fun h_185 => (iv_eqN h_185 iv_177 iq_0_0_0 (by decide)).elim) (fun h_185 => ?_)
        exact k_vret X hr dX11_weakLine_k4.2.2.2.1 (Nat.le_of_ble_eq_true rfl) (Nat.le_of_ble_eq_true rfl) [0, 1, 2, 3] (vnd_e rfl) rfl rfl ⟨m_at2_14, m_end2_15, m_failed2_16, m_fault2_17, d_fresh, d_letters2_18, m_nameSize2_19, m_place2_20, m_token2_21, m_whole2_22, (iv_w iv_24 (zle_e rfl) (zle_e rfl)), (iv_w iv_177 (zle_e rfl) (zle_e rfl)), (iv_w iv_26 (zle_e rfl) (zle_e rfl)), hp_d_fresh, (by omega), hr_0, (KH_1 _ _ _ _ _ _ _ _ _ _ ⟨0 + 1, (Or.inl ⟨h_183, ⟨rfl, rfl, rfl, rfl, rfl, rfl, rfl, rfl, rfl, rfl⟩⟩)⟩), hk_30, rfl⟩
      · skip
        have j_186 : u_178.toInt < z_5.toInt := iv_nle h_183
        have iv_187 : IV u_178 0 4 := iv_ltL (iv_nle h_183) hv_179 iv_7 (zle_e rfl)
        have iv_188 : IV z_5 1 5 := iv_ltR (iv_nle h_183) hv_179 iv_7 (zle_e rfl)
        refine k_aload_n X dX11_weakLine_k2.2.1.2.2 4 rfl ?_
        refine k_get (ci := 11) X inlX11 rfl 13 (nlt_e rfl) dX11_weakLine_k2.2.2.1.1 mw469 0 rfl rfl ?_
        refine k_if_ne 121 X dX11_weakLine_k2.2.2.1.2 (jp_e rfl) (fun h_189 => ?_) (fun h_189 => (iv_eqN h_189 iv_177 iq_0_0_0 (by decide)).elim)
        obtain ⟨z_190, ez_190⟩ : ∃ y : Int32, u_178 + Int32.ofInt 1 = y := ⟨_, rfl⟩
        refine k_iinc z_190 [(4, .int z_190), (3, .int 0), (2, .int r_23), (1, .int z_11), (0, .ref h0)] 0 X dX11_weakLine_k4.2.1.1.2 rfl ez_190 (nlt_e rfl) rfl ?_
        have i_191 : z_190.toInt = u_178.toInt + 1 := in_inc ez_190 (oin_e rfl) iv_187 (zle_e rfl) (zle_e rfl)
        have iv_192 : IV z_190 1 5 := iz1 i_191 iv_187 (zle_e rfl) (zle_e rfl)
        refine k_goto 59 X dX11_weakLine_k4.2.1.2.1 (jp_e rfl) ?_
        exact ih_182 _ (by omega) z_190 rfl (iv_w iv_192 (zle_e rfl) (zle_e rfl)) (fun m_at2 m_end2 m_failed2 m_fault2 d_fresh2 d_letters2 m_nameSize2 m_place2 m_token2 m_whole2 h => h.elim (fun n_1 q => (KH_1 _ _ _ _ _ _ _ _ _ _ ⟨n_1 + 1, (Or.inr ⟨h_183, ⟨z_190, ez_190, q⟩⟩)⟩)))
  · skip
    have iv_193 : IV m_failed 1 1 := iv_neL h_1 hv_m_failed iq_0_0_0 (zle_e rfl)
    exact k_vret X hr dX11_weakLine_k0.1.1.2.2 (Nat.le_of_ble_eq_true rfl) (Nat.le_of_ble_eq_true rfl) [0, 1, 2, 3] (vnd_e rfl) rfl rfl ⟨m_at, m_end, m_failed, m_fault, d_fresh, d_letters, m_nameSize, m_place, m_token, m_whole, (iv_w hv_m_end (zle_e rfl) (zle_e rfl)), (iv_w iv_193 (zle_e rfl) (zle_e rfl)), (iv_w hv_m_nameSize (zle_e rfl) (zle_e rfl)), hp_d_fresh, (by omega), hr_0, (Or.inr ⟨h_1, ⟨rfl, rfl, rfl, rfl, rfl, rfl, rfl, rfl, rfl, rfl⟩⟩), hc_1, rfl⟩
