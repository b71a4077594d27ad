
set_option maxHeartbeats 4000000 in
set_option maxRecDepth 100000 in
theorem s_soonerX (l : Launch) (g : Gx) (p0 : Int32) (p1 : Int32) (p2 : Int32) : cI l g yX7_sooner cX7_sooner 4 (some .int) 1 21 0 0 [.int p0, .int p1, .int p2] [] (fun r w => (R_s_soonerX p0 p1 p2 r) ∧ w = []) := by
  refine cI.of (by decide) (Nat.le_of_ble_eq_true rfl) ?_
  intro p e s m args below meth c A X hr hi
  refine k_lveq [(0, .int p0), (1, .int p1), (2, .int p2)] rfl ?_
  refine k_iload_n X dX7_sooner_0 0 rfl ?_
  refine k_iload_n X dX7_sooner_1 1 rfl ?_
  refine k_ic_lt 15 X dX7_sooner_2 (by decide) (fun h_1 => ?_) (fun h_1 => ?_)
  · skip
    have j_2 : p0.toInt < p1.toInt := iv_lt h_1
    have iv_3 : IV p0 (-2147483648) 2147483646 := iv_ltL (iv_lt h_1) (iv_any p0) (iv_any p1) (by decide)
    have iv_4 : IV p1 (-2147483647) 2147483647 := iv_ltR (iv_lt h_1) (iv_any p0) (iv_any p1) (by decide)
    refine k_iload_n X dX7_sooner_15 0 rfl ?_
    refine k_istore_n [(3, .int p0), (0, .int p0), (1, .int p1), (2, .int p2)] X dX7_sooner_16 (by decide) rfl ?_
    refine k_iload_n X dX7_sooner_17 0 rfl ?_
    refine k_iload_n X dX7_sooner_18 3 rfl ?_
    refine k_mmin X dX7_sooner_19 mw1500 mw785 mw103 mw786 (Nat.le_of_ble_eq_true rfl) (Nat.le_of_ble_eq_true rfl) (Nat.zero_le _) (Nat.zero_le _) ?_
    refine k_nm (fun z_5 ez_5 => ?_)
    exact k_iret X hr dX7_sooner_22 (Nat.le_of_ble_eq_true rfl) (Nat.le_of_ble_eq_true rfl) [] (by decide) rfl rfl ⟨(Or.inl ⟨h_1, ⟨z_5, ez_5, rfl⟩⟩), rfl⟩
  · skip
    have j_6 : p1.toInt ≤ p0.toInt := iv_nlt h_1
    refine k_iconst (v := 0) X dX7_sooner_5 (by decide) ?_
    refine k_iload_n X dX7_sooner_6 0 rfl ?_
    refine k_iconst (v := 2) X dX7_sooner_7 (by decide) ?_
    refine k_isub X dX7_sooner_8 ?_
    refine k_nm (fun z_7 ez_7 => ?_)
    refine k_mmax X dX7_sooner_9 mw1499 mw102 mw103 mw104 (Nat.le_of_ble_eq_true rfl) (Nat.le_of_ble_eq_true rfl) (Nat.zero_le _) (Nat.zero_le _) ?_
    refine k_nm (fun z_9 ez_9 => ?_)
    refine k_goto 16 X dX7_sooner_12 (by decide) ?_
    refine k_istore_n [(3, .int z_9), (0, .int p0), (1, .int p1), (2, .int p2)] X dX7_sooner_16 (by decide) rfl ?_
    refine k_iload_n X dX7_sooner_17 0 rfl ?_
    refine k_iload_n X dX7_sooner_18 3 rfl ?_
    refine k_mmin X dX7_sooner_19 mw1500 mw785 mw103 mw786 (Nat.le_of_ble_eq_true rfl) (Nat.le_of_ble_eq_true rfl) (Nat.zero_le _) (Nat.zero_le _) ?_
    refine k_nm (fun z_10 ez_10 => ?_)
    exact k_iret X hr dX7_sooner_22 (Nat.le_of_ble_eq_true rfl) (Nat.le_of_ble_eq_true rfl) [] (by decide) rfl rfl ⟨(Or.inr ⟨h_1, ⟨z_7, ez_7, ⟨z_9, ez_9, ⟨z_10, ez_10, rfl⟩⟩⟩⟩), rfl⟩


set_option maxHeartbeats 4000000 in
set_option maxRecDepth 100000 in
theorem s_isWeakX (l : Launch) (g : Gx) (h0 : Nat) (p0 : Int32) (v0h0 : Value) (v1h0 : Value) (xw : Nat) (v3h0 : Value) (xmd : Int32) (xtr : Int32) (xwc : Nat) (xwn : Int32) (xwf : Nat → Int32) : cI l g yX7_isWeak cX7_isWeak 2 (some .boolean) 1 21 0 0 [.ref h0, .int p0] [(cO7_vvrvii h0 v0h0 v1h0 xw v3h0 xmd xtr), (cO8_iiri xw 6 3 xwc xwn), (cAI g xwc 18 xwf)] (fun r w => (R_s_isWeakX p0 xmd xwn r) ∧ w = [(cO7_vvrvii h0 v0h0 v1h0 xw v3h0 xmd xtr), (cO8_iiri xw 6 3 xwc xwn), (cAI g xwc 18 xwf)]) := by
  refine cI.of (by decide) (Nat.le_of_ble_eq_true rfl) ?_
  intro p e s m args below meth c A X hr hi
  refine k_lveq [(0, .ref h0), (1, .int p0)] rfl ?_
  refine k_aload_n X dX7_isWeak_0 0 rfl ?_
  refine k_get (ci := 7) X inlX7 rfl 2 (by decide) dX7_isWeak_1 mw92 0 rfl rfl ?_
  refine k_iload_n X dX7_isWeak_4 1 rfl ?_
  refine k_callVI (n := 1) (As := [.int p0]) (st := []) X [(cO8_iiri xw 6 3 xwc xwn)] [(cO7_vvrvii h0 v0h0 v1h0 xw v3h0 xmd xtr), (cAI g xwc 18 xwf)] [1] [0, 2] (t_has l g xw p0 (.int 6) (.int 3) (.ref xwc) xwn) dX7_isWeak_5 mw664 mw648 mw649 mw64 mw650 rfl 8 rfl rfl 0 _ rfl yk_yX8_has_1 rfl (Nat.le_of_ble_eq_true rfl) (Nat.le_of_ble_eq_true rfl) (Nat.le_of_ble_eq_true rfl) (Nat.le_of_ble_eq_true rfl) (Nat.le_of_ble_eq_true rfl) rfl rfl (by decide) rfl (by decide) (by decide) ?_
  rintro r_1 w ⟨hr_2, rfl⟩
  refine k_ws [(cO7_vvrvii h0 v0h0 v1h0 xw v3h0 xmd xtr), (cAI g xwc 18 xwf), (cO8_iiri xw 6 3 xwc xwn)] rfl ?_
  refine k_if_eq 26 X dX7_isWeak_8 (by decide) (fun h_3 => ?_) (fun h_3 => ?_)
  · skip
    have iv_4 : IV r_1 0 0 := iv_meet (iv_any r_1) (iv_e h_3 (show IV 0 0 0 from (by decide))) (by decide) (by decide)
    refine k_iconst (v := 0) X dX7_isWeak_26 (by decide) ?_
    exact k_zret X hr (by first | rfl | decide) dX7_isWeak_27 (Nat.le_of_ble_eq_true rfl) (Nat.le_of_ble_eq_true rfl) [0, 2, 1] (by decide) rfl rfl ⟨⟨r_1, hr_2, (Or.inl ⟨h_3, rfl⟩)⟩, rfl⟩
  · skip
    refine k_aload_n X dX7_isWeak_11 0 rfl ?_
    refine k_get (ci := 7) X inlX7 rfl 4 (by decide) dX7_isWeak_12 mw94 0 rfl rfl ?_
    refine k_iload_n X dX7_isWeak_15 1 rfl ?_
    refine k_ishr X dX7_isWeak_16 ?_
    refine k_nm (fun z_5 ez_5 => ?_)
    refine k_iconst (v := 1) X dX7_isWeak_17 (by decide) ?_
    refine k_iand X dX7_isWeak_18 ?_
    refine k_nm (fun z_6 ez_6 => ?_)
    have iv_7 : IV z_6 0 1 := iv_and (ez_6.trans (Int32.and_comm _ _)) (show IV 1 1 1 from (by decide)) (by decide)
    refine k_if_ne 26 X dX7_isWeak_19 (by decide) (fun h_8 => ?_) (fun h_8 => ?_)
    · skip
      have iv_9 : IV z_6 1 1 := iv_neL h_8 iv_7 (show IV 0 0 0 from (by decide)) (by decide)
      refine k_iconst (v := 0) X dX7_isWeak_26 (by decide) ?_
      exact k_zret X hr (by first | rfl | decide) dX7_isWeak_27 (Nat.le_of_ble_eq_true rfl) (Nat.le_of_ble_eq_true rfl) [0, 2, 1] (by decide) rfl rfl ⟨⟨r_1, hr_2, (Or.inr ⟨h_3, ⟨z_5, ez_5, ⟨z_6, ez_6, (Or.inl ⟨h_8, rfl⟩)⟩⟩⟩)⟩, rfl⟩
    · skip
      have iv_10 : IV z_6 0 0 := iv_meet iv_7 (iv_e h_8 (show IV 0 0 0 from (by decide))) (by decide) (by decide)
      refine k_iconst (v := 1) X dX7_isWeak_22 (by decide) ?_
      refine k_goto 27 X dX7_isWeak_23 (by decide) ?_
      exact k_zret X hr (by first | rfl | decide) dX7_isWeak_27 (Nat.le_of_ble_eq_true rfl) (Nat.le_of_ble_eq_true rfl) [0, 2, 1] (by decide) rfl rfl ⟨⟨r_1, hr_2, (Or.inr ⟨h_3, ⟨z_5, ez_5, ⟨z_6, ez_6, (Or.inr ⟨h_8, rfl⟩)⟩⟩⟩)⟩, rfl⟩


set_option maxHeartbeats 4000000 in
set_option maxRecDepth 100000 in
theorem s_pull12X (l : Launch) (g : Gx) (h0 : Nat) (p0 : Int32) (p1 : Int32) (p2 : Int32) (h0c : Nat) (h0n : Int32) (h0f : Nat → Int32) : cV l g yX7_pull cX7_pull 5 2 44 0 0 [.ref h0, .int p0, .int p1, .int p2] [(cO8_iiri h0 12 3 h0c h0n), (cAI g h0c 36 h0f)] (fun w => ∃ (h0g : Nat → Int32), (R_s_pull12X p0 p1 p2 h0n h0f h0g) ∧ w = [(cO8_iiri h0 12 3 h0c h0n), (cAI g h0c 36 h0g)]) := by
  refine cV.of (by decide) (Nat.le_of_ble_eq_true rfl) ?_
  intro p e s m args below meth c A X hr hi
  refine k_lveq [(0, .ref h0), (1, .int p0), (2, .int p1), (3, .int p2)] rfl ?_
  refine k_iconst (v := 0) X dX7_pull_0 (by decide) ?_
  refine k_istore [(4, .int 0), (0, .ref h0), (1, .int p0), (2, .int p1), (3, .int p2)] X dX7_pull_1 (by decide) rfl ?_
  refine (fun hL : ∀ (nn_4 : Nat) (uf_1 : Nat → Int32) (u_2 : Int32), (h0n.toInt - u_2.toInt).toNat = nn_4 → (IV u_2 0 2147483647) → (∀ (h0g : Nat → Int32), (∃ n_0 : Nat, R_s_pull12X_L0 p0 p1 p2 h0n (fun (uf_1 : Nat → Int32) => h0g = uf_1) n_0 uf_1 u_2) → R_s_pull12X p0 p1 p2 h0n h0f h0g) → Wk p l e _ s m args below meth c _ A g _ _ _ [(cO8_iiri h0 12 3 h0c h0n), (cAI g h0c 36 uf_1)] [(4, .int u_2), (0, .ref h0), (1, .int p0), (2, .int p1), (3, .int p2)] 3 [] => hL _ h0f 0 rfl (iv_w (show IV 0 0 0 from (by decide)) (by decide) (by decide)) (fun h0g h => h)) ?_
  refine fun nn_4 => Nat.strongRecOn nn_4 (fun nn_4 ih_6 => ?_)
  intro uf_1 u_2 hm_5 hv_3 KH_0
  refine k_iload X dX7_pull_3 0 rfl ?_
  refine k_aload_n X dX7_pull_5 1 rfl ?_
  refine k_get (ci := 8) X inlX8 rfl 3 (by decide) dX7_pull_6 mw387 0 rfl rfl ?_
  refine k_ic_ge 48 X dX7_pull_9 (by decide) (fun h_7 => ?_) (fun h_7 => ?_)
  · skip
    have j_8 : h0n.toInt ≤ u_2.toInt := iv_le h_7
    exact k_vret X hr dX7_pull_48 (Nat.le_of_ble_eq_true rfl) (Nat.le_of_ble_eq_true rfl) [0, 1] (by decide) rfl rfl ⟨uf_1, (KH_0 _ ⟨0 + 1, (Or.inl ⟨h_7, rfl⟩)⟩), rfl⟩
  · skip
    have j_9 : u_2.toInt < h0n.toInt := iv_nle h_7
    have iv_10 : IV u_2 0 2147483646 := iv_ltL (iv_nle h_7) hv_3 (iv_any h0n) (by decide)
    have iv_11 : IV h0n 1 2147483647 := iv_ltR (iv_nle h_7) hv_3 (iv_any h0n) (by decide)
    refine k_aload_n X dX7_pull_12 1 rfl ?_
    refine k_iload X dX7_pull_13 0 rfl ?_
    refine k_iconst (v := 0) X dX7_pull_15 (by decide) ?_
    refine k_callVI (n := 2) (As := [.int u_2, .int 0]) (st := []) X [(cO8_iiri h0 12 3 h0c h0n), (cAI g h0c 36 uf_1)] [] [0, 1] [] (t_at l g h0 u_2 0 12 3 h0c h0n 36 uf_1 (tbk_12_3)) dX7_pull_16 mw388 mw376 mw377 mw64 mw378 rfl 8 rfl rfl 0 _ rfl yk_yX8_at_2 rfl (Nat.le_of_ble_eq_true rfl) (Nat.le_of_ble_eq_true rfl) (Nat.le_of_ble_eq_true rfl) (Nat.le_of_ble_eq_true rfl) (Nat.le_of_ble_eq_true rfl) rfl rfl (by decide) rfl (by decide) (by decide) ?_
    rintro r_12 w ⟨hr_13, rfl⟩
    refine k_ws [(cO8_iiri h0 12 3 h0c h0n), (cAI g h0c 36 uf_1)] rfl ?_
    refine k_iload_n X dX7_pull_19 2 rfl ?_
    refine k_ic_ne 42 X dX7_pull_20 (by decide) (fun h_14 => ?_) (fun h_14 => ?_)
    · skip
      obtain ⟨z_15, ez_15⟩ : ∃ y : Int32, u_2 + Int32.ofInt 1 = y := ⟨_, rfl⟩
      refine k_iinc z_15 [(4, .int z_15), (0, .ref h0), (1, .int p0), (2, .int p1), (3, .int p2)] 0 X dX7_pull_42 rfl ez_15 (by decide) rfl ?_
      have i_16 : z_15.toInt = u_2.toInt + 1 := in_inc ez_15 (by decide) iv_10 (by decide) (by decide)
      have iv_17 : IV z_15 1 2147483647 := iz1 i_16 iv_10 (by decide) (by decide)
      refine k_goto 3 X dX7_pull_45 (by decide) ?_
      exact ih_6 _ (by omega) uf_1 z_15 rfl (iv_w iv_17 (by decide) (by decide)) (fun h0g h => h.elim (fun n_0 q => (KH_0 _ ⟨n_0 + 1, (Or.inr ⟨h_7, ⟨r_12, hr_13, (Or.inl ⟨h_14, ⟨z_15, ez_15, q⟩⟩)⟩⟩)⟩)))
    · skip
      refine k_aload_n X dX7_pull_23 1 rfl ?_
      refine k_iload X dX7_pull_24 0 rfl ?_
      refine k_iconst (v := 1) X dX7_pull_26 (by decide) ?_
      refine k_aload_n X dX7_pull_27 1 rfl ?_
      refine k_iload X dX7_pull_28 0 rfl ?_
      refine k_iconst (v := 1) X dX7_pull_30 (by decide) ?_
      refine k_callVI (n := 2) (As := [.int u_2, .int 1]) (st := [.int 1, .int u_2, .ref h0]) X [(cO8_iiri h0 12 3 h0c h0n), (cAI g h0c 36 uf_1)] [] [0, 1] [] (t_at l g h0 u_2 1 12 3 h0c h0n 36 uf_1 (tbk_12_3)) dX7_pull_31 mw388 mw376 mw377 mw64 mw378 rfl 8 rfl rfl 0 _ rfl yk_yX8_at_2 rfl (Nat.le_of_ble_eq_true rfl) (Nat.le_of_ble_eq_true rfl) (Nat.le_of_ble_eq_true rfl) (Nat.le_of_ble_eq_true rfl) (Nat.le_of_ble_eq_true rfl) rfl rfl (by decide) rfl (by decide) (by decide) ?_
      rintro r_18 w ⟨hr_19, rfl⟩
      refine k_ws [(cO8_iiri h0 12 3 h0c h0n), (cAI g h0c 36 uf_1)] rfl ?_
      refine k_iload_n X dX7_pull_34 3 rfl ?_
      refine k_iload_n X dX7_pull_35 4 rfl ?_
      refine k_callSI (n := 3) (As := [.int r_18, .int p1, .int p2]) (st := [.int 1, .int u_2, .ref h0]) X [] [(cO8_iiri h0 12 3 h0c h0n), (cAI g h0c 36 uf_1)] [] [0, 1] (s_soonerX l g r_18 p1 p2) dX7_pull_36 mw1496 mw1497 mw23 mw1498 yk_yX7_sooner_3 rfl (Nat.le_of_ble_eq_true rfl) (Nat.le_of_ble_eq_true rfl) (Nat.le_of_ble_eq_true rfl) (Nat.le_of_ble_eq_true rfl) (Nat.le_of_ble_eq_true rfl) rfl rfl (by decide) rfl (by decide) (by decide) ?_
      rintro r_20 w ⟨hq_21, rfl⟩
      refine k_ws [(cO8_iiri h0 12 3 h0c h0n), (cAI g h0c 36 uf_1)] rfl ?_
      refine k_callVV (n := 3) (As := [.int u_2, .int 1, .int r_20]) (st := []) X [(cO8_iiri h0 12 3 h0c h0n), (cAI g h0c 36 uf_1)] [] [0, 1] [] (t_put l g h0 u_2 1 r_20 12 3 h0c h0n 36 uf_1 (tbk_12_3)) dX7_pull_39 mw1495 mw326 mw327 mw64 mw328 rfl 8 rfl rfl 0 _ rfl yk_yX8_put_3 rfl (Nat.le_of_ble_eq_true rfl) (Nat.le_of_ble_eq_true rfl) (Nat.le_of_ble_eq_true rfl) (Nat.le_of_ble_eq_true rfl) (Nat.le_of_ble_eq_true rfl) rfl rfl (by decide) rfl (by decide) (by decide) ?_
      rintro w ⟨fa_22, hr_24, rfl⟩
      refine k_ws [(cO8_iiri h0 12 3 h0c h0n), (cAI g h0c 36 fa_22)] rfl ?_
      obtain ⟨z_25, ez_25⟩ : ∃ y : Int32, u_2 + Int32.ofInt 1 = y := ⟨_, rfl⟩
      refine k_iinc z_25 [(4, .int z_25), (0, .ref h0), (1, .int p0), (2, .int p1), (3, .int p2)] 0 X dX7_pull_42 rfl ez_25 (by decide) rfl ?_
      have i_26 : z_25.toInt = u_2.toInt + 1 := in_inc ez_25 (by decide) iv_10 (by decide) (by decide)
      have iv_27 : IV z_25 1 2147483647 := iz1 i_26 iv_10 (by decide) (by decide)
      refine k_goto 3 X dX7_pull_45 (by decide) ?_
      exact ih_6 _ (by omega) fa_22 z_25 rfl (iv_w iv_27 (by decide) (by decide)) (fun h0g h => h.elim (fun n_0 q => (KH_0 _ ⟨n_0 + 1, (Or.inr ⟨h_7, ⟨r_12, hr_13, (Or.inr ⟨h_14, ⟨r_18, hr_19, ⟨r_20, hq_21, ⟨fa_22, hr_24, ⟨z_25, ez_25, q⟩⟩⟩⟩⟩)⟩⟩)⟩)))


set_option maxHeartbeats 4000000 in
set_option maxRecDepth 100000 in
theorem s_pull6X (l : Launch) (g : Gx) (h0 : Nat) (p0 : Int32) (p1 : Int32) (p2 : Int32) (h0c : Nat) (h0n : Int32) (h0f : Nat → Int32) : cV l g yX7_pull cX7_pull 5 2 44 0 0 [.ref h0, .int p0, .int p1, .int p2] [(cO8_iiri h0 6 3 h0c h0n), (cAI g h0c 18 h0f)] (fun w => ∃ (h0g : Nat → Int32), (R_s_pull6X p0 p1 p2 h0n h0f h0g) ∧ w = [(cO8_iiri h0 6 3 h0c h0n), (cAI g h0c 18 h0g)]) := by
  refine cV.of (by decide) (Nat.le_of_ble_eq_true rfl) ?_
  intro p e s m args below meth c A X hr hi
  refine k_lveq [(0, .ref h0), (1, .int p0), (2, .int p1), (3, .int p2)] rfl ?_
  refine k_iconst (v := 0) X dX7_pull_0 (by decide) ?_
  refine k_istore [(4, .int 0), (0, .ref h0), (1, .int p0), (2, .int p1), (3, .int p2)] X dX7_pull_1 (by decide) rfl ?_
  refine (fun hL : ∀ (nn_4 : Nat) (uf_1 : Nat → Int32) (u_2 : Int32), (h0n.toInt - u_2.toInt).toNat = nn_4 → (IV u_2 0 2147483647) → (∀ (h0g : Nat → Int32), (∃ n_0 : Nat, R_s_pull6X_L0 p0 p1 p2 h0n (fun (uf_1 : Nat → Int32) => h0g = uf_1) n_0 uf_1 u_2) → R_s_pull6X p0 p1 p2 h0n h0f h0g) → Wk p l e _ s m args below meth c _ A g _ _ _ [(cO8_iiri h0 6 3 h0c h0n), (cAI g h0c 18 uf_1)] [(4, .int u_2), (0, .ref h0), (1, .int p0), (2, .int p1), (3, .int p2)] 3 [] => hL _ h0f 0 rfl (iv_w (show IV 0 0 0 from (by decide)) (by decide) (by decide)) (fun h0g h => h)) ?_
  refine fun nn_4 => Nat.strongRecOn nn_4 (fun nn_4 ih_6 => ?_)
  intro uf_1 u_2 hm_5 hv_3 KH_0
  refine k_iload X dX7_pull_3 0 rfl ?_
  refine k_aload_n X dX7_pull_5 1 rfl ?_
  refine k_get (ci := 8) X inlX8 rfl 3 (by decide) dX7_pull_6 mw387 0 rfl rfl ?_
  refine k_ic_ge 48 X dX7_pull_9 (by decide) (fun h_7 => ?_) (fun h_7 => ?_)
  · skip
    have j_8 : h0n.toInt ≤ u_2.toInt := iv_le h_7
    exact k_vret X hr dX7_pull_48 (Nat.le_of_ble_eq_true rfl) (Nat.le_of_ble_eq_true rfl) [0, 1] (by decide) rfl rfl ⟨uf_1, (KH_0 _ ⟨0 + 1, (Or.inl ⟨h_7, rfl⟩)⟩), rfl⟩
  · skip
    have j_9 : u_2.toInt < h0n.toInt := iv_nle h_7
    have iv_10 : IV u_2 0 2147483646 := iv_ltL (iv_nle h_7) hv_3 (iv_any h0n) (by decide)
    have iv_11 : IV h0n 1 2147483647 := iv_ltR (iv_nle h_7) hv_3 (iv_any h0n) (by decide)
    refine k_aload_n X dX7_pull_12 1 rfl ?_
    refine k_iload X dX7_pull_13 0 rfl ?_
    refine k_iconst (v := 0) X dX7_pull_15 (by decide) ?_
    refine k_callVI (n := 2) (As := [.int u_2, .int 0]) (st := []) X [(cO8_iiri h0 6 3 h0c h0n), (cAI g h0c 18 uf_1)] [] [0, 1] [] (t_at l g h0 u_2 0 6 3 h0c h0n 18 uf_1 (tbk_6_3)) dX7_pull_16 mw388 mw376 mw377 mw64 mw378 rfl 8 rfl rfl 0 _ rfl yk_yX8_at_2 rfl (Nat.le_of_ble_eq_true rfl) (Nat.le_of_ble_eq_true rfl) (Nat.le_of_ble_eq_true rfl) (Nat.le_of_ble_eq_true rfl) (Nat.le_of_ble_eq_true rfl) rfl rfl (by decide) rfl (by decide) (by decide) ?_
    rintro r_12 w ⟨hr_13, rfl⟩
    refine k_ws [(cO8_iiri h0 6 3 h0c h0n), (cAI g h0c 18 uf_1)] rfl ?_
    refine k_iload_n X dX7_pull_19 2 rfl ?_
    refine k_ic_ne 42 X dX7_pull_20 (by decide) (fun h_14 => ?_) (fun h_14 => ?_)
    · skip
      obtain ⟨z_15, ez_15⟩ : ∃ y : Int32, u_2 + Int32.ofInt 1 = y := ⟨_, rfl⟩
      refine k_iinc z_15 [(4, .int z_15), (0, .ref h0), (1, .int p0), (2, .int p1), (3, .int p2)] 0 X dX7_pull_42 rfl ez_15 (by decide) rfl ?_
      have i_16 : z_15.toInt = u_2.toInt + 1 := in_inc ez_15 (by decide) iv_10 (by decide) (by decide)
      have iv_17 : IV z_15 1 2147483647 := iz1 i_16 iv_10 (by decide) (by decide)
      refine k_goto 3 X dX7_pull_45 (by decide) ?_
      exact ih_6 _ (by omega) uf_1 z_15 rfl (iv_w iv_17 (by decide) (by decide)) (fun h0g h => h.elim (fun n_0 q => (KH_0 _ ⟨n_0 + 1, (Or.inr ⟨h_7, ⟨r_12, hr_13, (Or.inl ⟨h_14, ⟨z_15, ez_15, q⟩⟩)⟩⟩)⟩)))
    · skip
      refine k_aload_n X dX7_pull_23 1 rfl ?_
      refine k_iload X dX7_pull_24 0 rfl ?_
      refine k_iconst (v := 1) X dX7_pull_26 (by decide) ?_
      refine k_aload_n X dX7_pull_27 1 rfl ?_
      refine k_iload X dX7_pull_28 0 rfl ?_
      refine k_iconst (v := 1) X dX7_pull_30 (by decide) ?_
      refine k_callVI (n := 2) (As := [.int u_2, .int 1]) (st := [.int 1, .int u_2, .ref h0]) X [(cO8_iiri h0 6 3 h0c h0n), (cAI g h0c 18 uf_1)] [] [0, 1] [] (t_at l g h0 u_2 1 6 3 h0c h0n 18 uf_1 (tbk_6_3)) dX7_pull_31 mw388 mw376 mw377 mw64 mw378 rfl 8 rfl rfl 0 _ rfl yk_yX8_at_2 rfl (Nat.le_of_ble_eq_true rfl) (Nat.le_of_ble_eq_true rfl) (Nat.le_of_ble_eq_true rfl) (Nat.le_of_ble_eq_true rfl) (Nat.le_of_ble_eq_true rfl) rfl rfl (by decide) rfl (by decide) (by decide) ?_
      rintro r_18 w ⟨hr_19, rfl⟩
      refine k_ws [(cO8_iiri h0 6 3 h0c h0n), (cAI g h0c 18 uf_1)] rfl ?_
      refine k_iload_n X dX7_pull_34 3 rfl ?_
      refine k_iload_n X dX7_pull_35 4 rfl ?_
      refine k_callSI (n := 3) (As := [.int r_18, .int p1, .int p2]) (st := [.int 1, .int u_2, .ref h0]) X [] [(cO8_iiri h0 6 3 h0c h0n), (cAI g h0c 18 uf_1)] [] [0, 1] (s_soonerX l g r_18 p1 p2) dX7_pull_36 mw1496 mw1497 mw23 mw1498 yk_yX7_sooner_3 rfl (Nat.le_of_ble_eq_true rfl) (Nat.le_of_ble_eq_true rfl) (Nat.le_of_ble_eq_true rfl) (Nat.le_of_ble_eq_true rfl) (Nat.le_of_ble_eq_true rfl) rfl rfl (by decide) rfl (by decide) (by decide) ?_
      rintro r_20 w ⟨hq_21, rfl⟩
      refine k_ws [(cO8_iiri h0 6 3 h0c h0n), (cAI g h0c 18 uf_1)] rfl ?_
      refine k_callVV (n := 3) (As := [.int u_2, .int 1, .int r_20]) (st := []) X [(cO8_iiri h0 6 3 h0c h0n), (cAI g h0c 18 uf_1)] [] [0, 1] [] (t_put l g h0 u_2 1 r_20 6 3 h0c h0n 18 uf_1 (tbk_6_3)) dX7_pull_39 mw1495 mw326 mw327 mw64 mw328 rfl 8 rfl rfl 0 _ rfl yk_yX8_put_3 rfl (Nat.le_of_ble_eq_true rfl) (Nat.le_of_ble_eq_true rfl) (Nat.le_of_ble_eq_true rfl) (Nat.le_of_ble_eq_true rfl) (Nat.le_of_ble_eq_true rfl) rfl rfl (by decide) rfl (by decide) (by decide) ?_
      rintro w ⟨fa_22, hr_24, rfl⟩
      refine k_ws [(cO8_iiri h0 6 3 h0c h0n), (cAI g h0c 18 fa_22)] rfl ?_
      obtain ⟨z_25, ez_25⟩ : ∃ y : Int32, u_2 + Int32.ofInt 1 = y := ⟨_, rfl⟩
      refine k_iinc z_25 [(4, .int z_25), (0, .ref h0), (1, .int p0), (2, .int p1), (3, .int p2)] 0 X dX7_pull_42 rfl ez_25 (by decide) rfl ?_
      have i_26 : z_25.toInt = u_2.toInt + 1 := in_inc ez_25 (by decide) iv_10 (by decide) (by decide)
      have iv_27 : IV z_25 1 2147483647 := iz1 i_26 iv_10 (by decide) (by decide)
      refine k_goto 3 X dX7_pull_45 (by decide) ?_
      exact ih_6 _ (by omega) fa_22 z_25 rfl (iv_w iv_27 (by decide) (by decide)) (fun h0g h => h.elim (fun n_0 q => (KH_0 _ ⟨n_0 + 1, (Or.inr ⟨h_7, ⟨r_12, hr_13, (Or.inr ⟨h_14, ⟨r_18, hr_19, ⟨r_20, hq_21, ⟨fa_22, hr_24, ⟨z_25, ez_25, q⟩⟩⟩⟩⟩)⟩⟩)⟩)))


set_option maxHeartbeats 4000000 in
set_option maxRecDepth 100000 in
theorem s_cutOutX (l : Launch) (g : Gx) (h0 : Nat) (p0 : Int32) (xr : Nat) (xm : Nat) (xw : Nat) (v3h0 : Value) (xmd : Int32) (xtr : Int32) (xrc : Nat) (xrn : Int32) (xrf : Nat → Int32) (xmc : Nat) (xmn : Int32) (xmf : Nat → Int32) (xwc : Nat) (xwn : Int32) (xwf : Nat → Int32) : cV l g yX7_cutOut cX7_cutOut 5 3 68 0 0 [.ref h0, .int p0] [(cO7_rrrvii h0 xr xm xw v3h0 xmd xtr), (cO8_iiri xr 8 3 xrc xrn), (cAI g xrc 24 xrf), (cO8_iiri xm 12 3 xmc xmn), (cAI g xmc 36 xmf), (cO8_iiri xw 6 3 xwc xwn), (cAI g xwc 18 xwf)] (fun w => ∃ (xmd2 : Int32) (xrg : Nat → Int32) (xmg : Nat → Int32) (xwg : Nat → Int32), (R_s_cutOutX p0 xmd xrf xmn xmf xwn xwf xmd2 xrg xmg xwg) ∧ w = [(cO7_rrrvii h0 xr xm xw v3h0 xmd2 xtr), (cO8_iiri xr 8 3 xrc xrn), (cAI g xrc 24 xrg), (cO8_iiri xm 12 3 xmc xmn), (cAI g xmc 36 xmg), (cO8_iiri xw 6 3 xwc xwn), (cAI g xwc 18 xwg)]) := by
  refine cV.of (by decide) (Nat.le_of_ble_eq_true rfl) ?_
  intro p e s m args below meth c A X hr hi
  refine k_lveq [(0, .ref h0), (1, .int p0)] rfl ?_
  refine k_aload_n X dX7_cutOut_0 0 rfl ?_
  refine k_get (ci := 7) X inlX7 rfl 2 (by decide) dX7_cutOut_1 mw92 0 rfl rfl ?_
  refine k_iload_n X dX7_cutOut_4 1 rfl ?_
  refine k_iconst (v := 0) X dX7_cutOut_5 (by decide) ?_
  refine k_callVI (n := 2) (As := [.int p0, .int 0]) (st := []) X [(cO8_iiri xw 6 3 xwc xwn), (cAI g xwc 18 xwf)] [(cO7_rrrvii h0 xr xm xw v3h0 xmd xtr), (cO8_iiri xr 8 3 xrc xrn), (cAI g xrc 24 xrf), (cO8_iiri xm 12 3 xmc xmn), (cAI g xmc 36 xmf)] [5, 6] [0, 1, 2, 3, 4] (t_at l g xw p0 0 6 3 xwc xwn 18 xwf (tbk_6_3)) dX7_cutOut_6 mw388 mw376 mw377 mw64 mw378 rfl 8 rfl rfl 0 _ rfl yk_yX8_at_2 rfl (Nat.le_of_ble_eq_true rfl) (Nat.le_of_ble_eq_true rfl) (Nat.le_of_ble_eq_true rfl) (Nat.le_of_ble_eq_true rfl) (Nat.le_of_ble_eq_true rfl) rfl rfl (by decide) rfl (by decide) (by decide) ?_
  rintro r_1 w ⟨hr_2, rfl⟩
  refine k_ws [(cO7_rrrvii h0 xr xm xw v3h0 xmd xtr), (cO8_iiri xr 8 3 xrc xrn), (cAI g xrc 24 xrf), (cO8_iiri xm 12 3 xmc xmn), (cAI g xmc 36 xmf), (cO8_iiri xw 6 3 xwc xwn), (cAI g xwc 18 xwf)] rfl ?_
  refine k_istore_n [(2, .int r_1), (0, .ref h0), (1, .int p0)] X dX7_cutOut_9 (by decide) rfl ?_
  refine k_aload_n X dX7_cutOut_10 1 rfl ?_
  refine k_get (ci := 7) X inlX7 rfl 2 (by decide) dX7_cutOut_11 mw92 0 rfl rfl ?_
  refine k_iload_n X dX7_cutOut_14 2 rfl ?_
  refine k_iconst (v := 1) X dX7_cutOut_15 (by decide) ?_
  refine k_callVI (n := 2) (As := [.int p0, .int 1]) (st := []) X [(cO8_iiri xw 6 3 xwc xwn), (cAI g xwc 18 xwf)] [(cO7_rrrvii h0 xr xm xw v3h0 xmd xtr), (cO8_iiri xr 8 3 xrc xrn), (cAI g xrc 24 xrf), (cO8_iiri xm 12 3 xmc xmn), (cAI g xmc 36 xmf)] [5, 6] [0, 1, 2, 3, 4] (t_at l g xw p0 1 6 3 xwc xwn 18 xwf (tbk_6_3)) dX7_cutOut_16 mw388 mw376 mw377 mw64 mw378 rfl 8 rfl rfl 0 _ rfl yk_yX8_at_2 rfl (Nat.le_of_ble_eq_true rfl) (Nat.le_of_ble_eq_true rfl) (Nat.le_of_ble_eq_true rfl) (Nat.le_of_ble_eq_true rfl) (Nat.le_of_ble_eq_true rfl) rfl rfl (by decide) rfl (by decide) (by decide) ?_
  rintro r_3 w ⟨hr_4, rfl⟩
  refine k_ws [(cO7_rrrvii h0 xr xm xw v3h0 xmd xtr), (cO8_iiri xr 8 3 xrc xrn), (cAI g xrc 24 xrf), (cO8_iiri xm 12 3 xmc xmn), (cAI g xmc 36 xmf), (cO8_iiri xw 6 3 xwc xwn), (cAI g xwc 18 xwf)] rfl ?_
  refine k_istore_n [(3, .int r_3), (2, .int r_1), (0, .ref h0), (1, .int p0)] X dX7_cutOut_19 (by decide) rfl ?_
  refine k_aload_n X dX7_cutOut_20 2 rfl ?_
  refine k_get (ci := 7) X inlX7 rfl 0 (by decide) dX7_cutOut_21 mw90 0 rfl rfl ?_
  refine k_iload_n X dX7_cutOut_24 1 rfl ?_
  refine k_iconst (v := 0) X dX7_cutOut_25 (by decide) ?_
  refine k_callVI (n := 2) (As := [.int r_1, .int 0]) (st := []) X [(cO8_iiri xr 8 3 xrc xrn), (cAI g xrc 24 xrf)] [(cO7_rrrvii h0 xr xm xw v3h0 xmd xtr), (cO8_iiri xm 12 3 xmc xmn), (cAI g xmc 36 xmf), (cO8_iiri xw 6 3 xwc xwn), (cAI g xwc 18 xwf)] [1, 2] [0, 3, 4, 5, 6] (t_at l g xr r_1 0 8 3 xrc xrn 24 xrf (tbk_8_3)) dX7_cutOut_26 mw388 mw376 mw377 mw64 mw378 rfl 8 rfl rfl 0 _ rfl yk_yX8_at_2 rfl (Nat.le_of_ble_eq_true rfl) (Nat.le_of_ble_eq_true rfl) (Nat.le_of_ble_eq_true rfl) (Nat.le_of_ble_eq_true rfl) (Nat.le_of_ble_eq_true rfl) rfl rfl (by decide) rfl (by decide) (by decide) ?_
  rintro r_5 w ⟨hr_6, rfl⟩
  refine k_ws [(cO7_rrrvii h0 xr xm xw v3h0 xmd xtr), (cO8_iiri xm 12 3 xmc xmn), (cAI g xmc 36 xmf), (cO8_iiri xw 6 3 xwc xwn), (cAI g xwc 18 xwf), (cO8_iiri xr 8 3 xrc xrn), (cAI g xrc 24 xrf)] rfl ?_
  refine k_iconst (v := 2) X dX7_cutOut_29 (by decide) ?_
  refine k_isub X dX7_cutOut_30 ?_
  refine k_nm (fun z_7 ez_7 => ?_)
  refine k_iconst (v := 1) X dX7_cutOut_31 (by decide) ?_
  refine k_isub X dX7_cutOut_32 ?_
  refine k_nm (fun z_9 ez_9 => ?_)
  refine k_istore [(4, .int z_9), (3, .int r_3), (2, .int r_1), (0, .ref h0), (1, .int p0)] X dX7_cutOut_33 (by decide) rfl ?_
  refine k_aload_n X dX7_cutOut_35 3 rfl ?_
  refine k_get (ci := 7) X inlX7 rfl 0 (by decide) dX7_cutOut_36 mw90 0 rfl rfl ?_
  refine k_iload_n X dX7_cutOut_39 2 rfl ?_
  refine k_iconst (v := 0) X dX7_cutOut_40 (by decide) ?_
  refine k_iload X dX7_cutOut_41 0 rfl ?_
  refine k_iconst (v := 1) X dX7_cutOut_43 (by decide) ?_
  refine k_iadd X dX7_cutOut_44 ?_
  refine k_nm (fun z_11 ez_11 => ?_)
  refine k_callVV (n := 3) (As := [.int r_1, .int 0, .int z_11]) (st := []) X [(cO8_iiri xr 8 3 xrc xrn), (cAI g xrc 24 xrf)] [(cO7_rrrvii h0 xr xm xw v3h0 xmd xtr), (cO8_iiri xm 12 3 xmc xmn), (cAI g xmc 36 xmf), (cO8_iiri xw 6 3 xwc xwn), (cAI g xwc 18 xwf)] [5, 6] [0, 1, 2, 3, 4] (t_put l g xr r_1 0 z_11 8 3 xrc xrn 24 xrf (tbk_8_3)) dX7_cutOut_45 mw1495 mw326 mw327 mw64 mw328 rfl 8 rfl rfl 0 _ rfl yk_yX8_put_3 rfl (Nat.le_of_ble_eq_true rfl) (Nat.le_of_ble_eq_true rfl) (Nat.le_of_ble_eq_true rfl) (Nat.le_of_ble_eq_true rfl) (Nat.le_of_ble_eq_true rfl) rfl rfl (by decide) rfl (by decide) (by decide) ?_
  rintro w ⟨fa_13, hr_15, rfl⟩
  refine k_ws [(cO7_rrrvii h0 xr xm xw v3h0 xmd xtr), (cO8_iiri xm 12 3 xmc xmn), (cAI g xmc 36 xmf), (cO8_iiri xw 6 3 xwc xwn), (cAI g xwc 18 xwf), (cO8_iiri xr 8 3 xrc xrn), (cAI g xrc 24 fa_13)] rfl ?_
  refine k_aload_n X dX7_cutOut_48 3 rfl ?_
  refine k_get (ci := 7) X inlX7 rfl 0 (by decide) dX7_cutOut_49 mw90 0 rfl rfl ?_
  refine k_iload_n X dX7_cutOut_52 2 rfl ?_
  refine k_iconst (v := 1) X dX7_cutOut_53 (by decide) ?_
  refine k_aload_n X dX7_cutOut_54 3 rfl ?_
  refine k_get (ci := 7) X inlX7 rfl 0 (by decide) dX7_cutOut_55 mw90 0 rfl rfl ?_
  refine k_iload_n X dX7_cutOut_58 2 rfl ?_
  refine k_iconst (v := 1) X dX7_cutOut_59 (by decide) ?_
  refine k_callVI (n := 2) (As := [.int r_1, .int 1]) (st := [.int 1, .int r_1, .ref xr]) X [(cO8_iiri xr 8 3 xrc xrn), (cAI g xrc 24 fa_13)] [(cO7_rrrvii h0 xr xm xw v3h0 xmd xtr), (cO8_iiri xm 12 3 xmc xmn), (cAI g xmc 36 xmf), (cO8_iiri xw 6 3 xwc xwn), (cAI g xwc 18 xwf)] [5, 6] [0, 1, 2, 3, 4] (t_at l g xr r_1 1 8 3 xrc xrn 24 fa_13 (tbk_8_3)) dX7_cutOut_60 mw388 mw376 mw377 mw64 mw378 rfl 8 rfl rfl 0 _ rfl yk_yX8_at_2 rfl (Nat.le_of_ble_eq_true rfl) (Nat.le_of_ble_eq_true rfl) (Nat.le_of_ble_eq_true rfl) (Nat.le_of_ble_eq_true rfl) (Nat.le_of_ble_eq_true rfl) rfl rfl (by decide) rfl (by decide) (by decide) ?_
  rintro r_16 w ⟨hr_17, rfl⟩
  refine k_ws [(cO7_rrrvii h0 xr xm xw v3h0 xmd xtr), (cO8_iiri xm 12 3 xmc xmn), (cAI g xmc 36 xmf), (cO8_iiri xw 6 3 xwc xwn), (cAI g xwc 18 xwf), (cO8_iiri xr 8 3 xrc xrn), (cAI g xrc 24 fa_13)] rfl ?_
  refine k_iload_n X dX7_cutOut_63 1 rfl ?_
  refine k_iload X dX7_cutOut_64 0 rfl ?_
  refine k_callSI (n := 3) (As := [.int r_16, .int r_3, .int z_9]) (st := [.int 1, .int r_1, .ref xr]) X [] [(cO7_rrrvii h0 xr xm xw v3h0 xmd xtr), (cO8_iiri xm 12 3 xmc xmn), (cAI g xmc 36 xmf), (cO8_iiri xw 6 3 xwc xwn), (cAI g xwc 18 xwf), (cO8_iiri xr 8 3 xrc xrn), (cAI g xrc 24 fa_13)] [] [0, 1, 2, 3, 4, 5, 6] (s_soonerX l g r_16 r_3 z_9) dX7_cutOut_66 mw1496 mw1497 mw23 mw1498 yk_yX7_sooner_3 rfl (Nat.le_of_ble_eq_true rfl) (Nat.le_of_ble_eq_true rfl) (Nat.le_of_ble_eq_true rfl) (Nat.le_of_ble_eq_true rfl) (Nat.le_of_ble_eq_true rfl) rfl rfl (by decide) rfl (by decide) (by decide) ?_
  rintro r_18 w ⟨hq_19, rfl⟩
  refine k_ws [(cO7_rrrvii h0 xr xm xw v3h0 xmd xtr), (cO8_iiri xm 12 3 xmc xmn), (cAI g xmc 36 xmf), (cO8_iiri xw 6 3 xwc xwn), (cAI g xwc 18 xwf), (cO8_iiri xr 8 3 xrc xrn), (cAI g xrc 24 fa_13)] rfl ?_
  refine k_callVV (n := 3) (As := [.int r_1, .int 1, .int r_18]) (st := []) X [(cO8_iiri xr 8 3 xrc xrn), (cAI g xrc 24 fa_13)] [(cO7_rrrvii h0 xr xm xw v3h0 xmd xtr), (cO8_iiri xm 12 3 xmc xmn), (cAI g xmc 36 xmf), (cO8_iiri xw 6 3 xwc xwn), (cAI g xwc 18 xwf)] [5, 6] [0, 1, 2, 3, 4] (t_put l g xr r_1 1 r_18 8 3 xrc xrn 24 fa_13 (tbk_8_3)) dX7_cutOut_69 mw1495 mw326 mw327 mw64 mw328 rfl 8 rfl rfl 0 _ rfl yk_yX8_put_3 rfl (Nat.le_of_ble_eq_true rfl) (Nat.le_of_ble_eq_true rfl) (Nat.le_of_ble_eq_true rfl) (Nat.le_of_ble_eq_true rfl) (Nat.le_of_ble_eq_true rfl) rfl rfl (by decide) rfl (by decide) (by decide) ?_
  rintro w ⟨fa_20, hr_22, rfl⟩
  refine k_ws [(cO7_rrrvii h0 xr xm xw v3h0 xmd xtr), (cO8_iiri xm 12 3 xmc xmn), (cAI g xmc 36 xmf), (cO8_iiri xw 6 3 xwc xwn), (cAI g xwc 18 xwf), (cO8_iiri xr 8 3 xrc xrn), (cAI g xrc 24 fa_20)] rfl ?_
  refine k_aload_n X dX7_cutOut_72 3 rfl ?_
  refine k_get (ci := 7) X inlX7 rfl 1 (by decide) dX7_cutOut_73 mw91 0 rfl rfl ?_
  refine k_iload_n X dX7_cutOut_76 2 rfl ?_
  refine k_iload_n X dX7_cutOut_77 1 rfl ?_
  refine k_iload X dX7_cutOut_78 0 rfl ?_
  refine k_callSV (n := 4) (As := [.ref xm, .int r_1, .int r_3, .int z_9]) (st := []) X [(cO8_iiri xm 12 3 xmc xmn), (cAI g xmc 36 xmf)] [(cO7_rrrvii h0 xr xm xw v3h0 xmd xtr), (cO8_iiri xw 6 3 xwc xwn), (cAI g xwc 18 xwf), (cO8_iiri xr 8 3 xrc xrn), (cAI g xrc 24 fa_20)] [1, 2] [0, 3, 4, 5, 6] (s_pull12X l g xm r_1 r_3 z_9 xmc xmn xmf) dX7_cutOut_80 mw1501 mw1502 mw23 mw1503 yk_yX7_pull_4 rfl (Nat.le_of_ble_eq_true rfl) (Nat.le_of_ble_eq_true rfl) (Nat.le_of_ble_eq_true rfl) (Nat.le_of_ble_eq_true rfl) (Nat.le_of_ble_eq_true rfl) rfl rfl (by decide) rfl (by decide) (by decide) ?_
  rintro w ⟨h0g_23, hq_25, rfl⟩
  refine k_ws [(cO7_rrrvii h0 xr xm xw v3h0 xmd xtr), (cO8_iiri xw 6 3 xwc xwn), (cAI g xwc 18 xwf), (cO8_iiri xr 8 3 xrc xrn), (cAI g xrc 24 fa_20), (cO8_iiri xm 12 3 xmc xmn), (cAI g xmc 36 h0g_23)] rfl ?_
  refine k_aload_n X dX7_cutOut_83 3 rfl ?_
  refine k_get (ci := 7) X inlX7 rfl 2 (by decide) dX7_cutOut_84 mw92 0 rfl rfl ?_
  refine k_iload_n X dX7_cutOut_87 2 rfl ?_
  refine k_iload_n X dX7_cutOut_88 1 rfl ?_
  refine k_iload X dX7_cutOut_89 0 rfl ?_
  refine k_callSV (n := 4) (As := [.ref xw, .int r_1, .int r_3, .int z_9]) (st := []) X [(cO8_iiri xw 6 3 xwc xwn), (cAI g xwc 18 xwf)] [(cO7_rrrvii h0 xr xm xw v3h0 xmd xtr), (cO8_iiri xr 8 3 xrc xrn), (cAI g xrc 24 fa_20), (cO8_iiri xm 12 3 xmc xmn), (cAI g xmc 36 h0g_23)] [1, 2] [0, 3, 4, 5, 6] (s_pull6X l g xw r_1 r_3 z_9 xwc xwn xwf) dX7_cutOut_91 mw1501 mw1502 mw23 mw1503 yk_yX7_pull_4 rfl (Nat.le_of_ble_eq_true rfl) (Nat.le_of_ble_eq_true rfl) (Nat.le_of_ble_eq_true rfl) (Nat.le_of_ble_eq_true rfl) (Nat.le_of_ble_eq_true rfl) rfl rfl (by decide) rfl (by decide) (by decide) ?_
  rintro w ⟨h0g_26, hq_28, rfl⟩
  refine k_ws [(cO7_rrrvii h0 xr xm xw v3h0 xmd xtr), (cO8_iiri xr 8 3 xrc xrn), (cAI g xrc 24 fa_20), (cO8_iiri xm 12 3 xmc xmn), (cAI g xmc 36 h0g_23), (cO8_iiri xw 6 3 xwc xwn), (cAI g xwc 18 h0g_26)] rfl ?_
  refine k_aload_n X dX7_cutOut_94 3 rfl ?_
  refine k_dup X dX7_cutOut_95 rfl ?_
  refine k_get (ci := 7) X inlX7 rfl 4 (by decide) dX7_cutOut_96 mw94 0 rfl rfl ?_
  refine k_iconst (v := 1) X dX7_cutOut_99 (by decide) ?_
  refine k_iload_n X dX7_cutOut_100 4 rfl ?_
  refine k_ishl X dX7_cutOut_101 ?_
  refine k_nm (fun z_29 ez_29 => ?_)
  refine k_ior X dX7_cutOut_102 ?_
  refine k_nm (fun z_30 ez_30 => ?_)
  refine k_put (ci := 7) [(cO7_rrrvii h0 xr xm xw v3h0 z_30 xtr), (cO8_iiri xr 8 3 xrc xrn), (cAI g xrc 24 fa_20), (cO8_iiri xm 12 3 xmc xmn), (cAI g xmc 36 h0g_23), (cO8_iiri xw 6 3 xwc xwn), (cAI g xwc 18 h0g_26)] X inlX7 rfl tyX7_ok nmX7 4 (by decide) rfl dX7_cutOut_103 mw94 0 rfl rfl rfl (Nat.le_of_ble_eq_true rfl) rfl ?_
  exact k_vret X hr dX7_cutOut_106 (Nat.le_of_ble_eq_true rfl) (Nat.le_of_ble_eq_true rfl) [0, 1, 2, 3, 4, 5, 6] (by decide) rfl rfl ⟨z_30, fa_20, h0g_23, h0g_26, ⟨r_1, hr_2, ⟨r_3, hr_4, ⟨r_5, hr_6, ⟨z_7, ez_7, ⟨z_9, ez_9, ⟨z_11, ez_11, ⟨fa_13, hr_15, ⟨r_16, hr_17, ⟨r_18, hq_19, ⟨fa_20, hr_22, ⟨h0g_23, hq_25, ⟨h0g_26, hq_28, ⟨z_29, ez_29, ⟨z_30, ez_30, ⟨rfl, rfl, rfl, rfl⟩⟩⟩⟩⟩⟩⟩⟩⟩⟩⟩⟩⟩⟩⟩, rfl⟩


set_option maxHeartbeats 4000000 in
set_option maxRecDepth 100000 in
theorem c_isOpenX (l : Launch) (g : Gx) (h0 : Nat) (v0h0 : Value) (v1h0 : Value) (nw : Nat) (v3h0 : Value) (v4h0 : Value) (v5h0 : Value) (v6h0 : Value) (v7h0 : Value) (v8h0 : Value) (tr : Int32) (v0nw : Value) (v1nw : Value) (v2nw : Value) (zp : Nat) (zmd : Int32) (ztr : Int32) (zpc : Nat) (zpn : Int32) (zpf : Nat → Int32) : cI l g yX10_isOpen cX10_isOpen 1 (some .boolean) 0 0 0 0 [.ref h0] [(cO10_vvrvvvvvvi h0 v0h0 v1h0 nw v3h0 v4h0 v5h0 v6h0 v7h0 v8h0 tr), (cO7_vvvrii nw v0nw v1nw v2nw zp zmd ztr), (cO8_iiri zp 8 2 zpc zpn), (cAI g zpc 16 zpf)] (fun r w => (R_c_isOpenX zpn r) ∧ w = [(cO10_vvrvvvvvvi h0 v0h0 v1h0 nw v3h0 v4h0 v5h0 v6h0 v7h0 v8h0 tr), (cO7_vvvrii nw v0nw v1nw v2nw zp zmd ztr), (cO8_iiri zp 8 2 zpc zpn), (cAI g zpc 16 zpf)]) := by
  refine cI.of (by decide) (Nat.le_of_ble_eq_true rfl) ?_
  intro p e s m args below meth c A X hr hi
  refine k_lveq [(0, .ref h0)] rfl ?_
  refine k_aload_n X dX10_isOpen_0 0 rfl ?_
  refine k_get (ci := 10) X inlX10 rfl 2 (by decide) dX10_isOpen_1 mw24 0 rfl rfl ?_
  refine k_get (ci := 7) X inlX7 rfl 3 (by decide) dX10_isOpen_4 mw213 1 rfl rfl ?_
  refine k_get (ci := 8) X inlX8 rfl 3 (by decide) dX10_isOpen_7 mw214 2 rfl rfl ?_
  refine k_if_le 17 X dX10_isOpen_10 (by decide) (fun h_1 => ?_) (fun h_1 => ?_)
  · skip
    have j_2 : zpn.toInt ≤ 0 := iv_le h_1
    have iv_3 : IV zpn (-2147483648) 0 := iv_leL (iv_le h_1) (iv_any zpn) (show IV 0 0 0 from (by decide)) (by decide)
    refine k_iconst (v := 0) X dX10_isOpen_17 (by decide) ?_
    exact k_zret X hr (by first | rfl | decide) dX10_isOpen_18 (Nat.le_of_ble_eq_true rfl) (Nat.le_of_ble_eq_true rfl) [0, 1, 2, 3] (by decide) rfl rfl ⟨(Or.inl ⟨h_1, rfl⟩), rfl⟩
  · skip
    have j_4 : 0 < zpn.toInt := iv_nle h_1
    have iv_5 : IV zpn 1 2147483647 := iv_ltR (iv_nle h_1) (show IV 0 0 0 from (by decide)) (iv_any zpn) (by decide)
    refine k_iconst (v := 1) X dX10_isOpen_13 (by decide) ?_
    refine k_goto 18 X dX10_isOpen_14 (by decide) ?_
    exact k_zret X hr (by first | rfl | decide) dX10_isOpen_18 (Nat.le_of_ble_eq_true rfl) (Nat.le_of_ble_eq_true rfl) [0, 1, 2, 3] (by decide) rfl rfl ⟨(Or.inr ⟨h_1, rfl⟩), rfl⟩


set_option maxHeartbeats 4000000 in
set_option maxRecDepth 100000 in
theorem c_refuseActX (l : Launch) (g : Gx) (h0 : Nat) (p0 : Int32) (v0h0 : Value) (v1h0 : Value) (v2h0 : Value) (v3h0 : Value) (v4h0 : Value) (v5h0 : Value) (v6h0 : Value) (v7h0 : Value) (v8h0 : Value) (tr : Int32) : cI l g yX10_refuseAct cX10_refuseAct 2 (some .boolean) 0 0 0 0 [.ref h0, .int p0] [(cO10_vvvvvvvvvi h0 v0h0 v1h0 v2h0 v3h0 v4h0 v5h0 v6h0 v7h0 v8h0 tr)] (fun r w => ∃ (tr2 : Int32), IV r 0 1 ∧ (R_c_refuseActX p0 tr2 r) ∧ w = [(cO10_vvvvvvvvvi h0 v0h0 v1h0 v2h0 v3h0 v4h0 v5h0 v6h0 v7h0 v8h0 tr2)]) := by
  refine cI.of (by decide) (Nat.le_of_ble_eq_true rfl) ?_
  intro p e s m args below meth c A X hr hi
  refine k_lveq [(0, .ref h0), (1, .int p0)] rfl ?_
  refine k_aload_n X dX10_refuseAct_0 0 rfl ?_
  refine k_iload_n X dX10_refuseAct_1 1 rfl ?_
  refine k_put (ci := 10) [(cO10_vvvvvvvvvi h0 v0h0 v1h0 v2h0 v3h0 v4h0 v5h0 v6h0 v7h0 v8h0 p0)] X inlX10 rfl tyX10_ok nmX10 9 (by decide) rfl dX10_refuseAct_2 mw49 0 rfl rfl rfl (Nat.le_of_ble_eq_true rfl) rfl ?_
  refine k_iconst (v := 0) X dX10_refuseAct_5 (by decide) ?_
  exact k_zret X hr (by first | rfl | decide) dX10_refuseAct_6 (Nat.le_of_ble_eq_true rfl) (Nat.le_of_ble_eq_true rfl) [0] (by decide) rfl rfl ⟨p0, (iv_w (show IV 0 0 0 from (by decide)) (by decide) (by decide)), ⟨rfl, rfl⟩, rfl⟩


set_option maxHeartbeats 4000000 in
set_option maxRecDepth 100000 in
theorem c_actDoneX (l : Launch) (g : Gx) (h0 : Nat) (v0h0 : Value) (v1h0 : Value) (v2h0 : Value) (v3h0 : Value) (v4h0 : Value) (v5h0 : Value) (v6h0 : Value) (v7h0 : Value) (v8h0 : Value) (tr : Int32) : cI l g yX10_actDone cX10_actDone 1 (some .boolean) 0 0 0 0 [.ref h0] [(cO10_vvvvvvvvvi h0 v0h0 v1h0 v2h0 v3h0 v4h0 v5h0 v6h0 v7h0 v8h0 tr)] (fun r w => ∃ (tr2 : Int32), IV r 0 1 ∧ (R_c_actDoneX tr2 r) ∧ w = [(cO10_vvvvvvvvvi h0 v0h0 v1h0 v2h0 v3h0 v4h0 v5h0 v6h0 v7h0 v8h0 tr2)]) := by
  refine cI.of (by decide) (Nat.le_of_ble_eq_true rfl) ?_
  intro p e s m args below meth c A X hr hi
  refine k_lveq [(0, .ref h0)] rfl ?_
  refine k_aload_n X dX10_actDone_0 0 rfl ?_
  refine k_iconst (v := 0) X dX10_actDone_1 (by decide) ?_
  refine k_put (ci := 10) [(cO10_vvvvvvvvvi h0 v0h0 v1h0 v2h0 v3h0 v4h0 v5h0 v6h0 v7h0 v8h0 0)] X inlX10 rfl tyX10_ok nmX10 9 (by decide) rfl dX10_actDone_2 mw49 0 rfl rfl rfl (Nat.le_of_ble_eq_true rfl) rfl ?_
  refine k_iconst (v := 1) X dX10_actDone_5 (by decide) ?_
  exact k_zret X hr (by first | rfl | decide) dX10_actDone_6 (Nat.le_of_ble_eq_true rfl) (Nat.le_of_ble_eq_true rfl) [0] (by decide) rfl rfl ⟨0, (iv_w (show IV 1 1 1 from (by decide)) (by decide) (by decide)), ⟨rfl, rfl⟩, rfl⟩
