
set_option maxHeartbeats 4000000 in
set_option maxRecDepth 100000 in
theorem t_add8_3X (l : Launch) (g : Gx) (h0 : Nat) (p0 : Int32) (p1 : Int32) (p2 : Int32) (h0c : Nat) (h0n : Int32) (h0f : Nat → Int32) : cV l g yX8_add cX8_add 4 1 23 0 0 [.ref h0, .int p0, .int p1, .int p2] [(cO8_iiri h0 8 3 h0c h0n), (cAI g h0c 24 h0f)] (fun w => ∃ (h0g : Nat → Int32) (h0k : Int32), (R_t_add8_3X p0 p1 p2 h0n h0f h0g h0k) ∧ w = [(cO8_iiri h0 8 3 h0c h0k), (cAI g h0c 24 h0g)]) := by
  refine cV.of (by decide) (Nat.le_of_ble_eq_true rfl) ?_
  intro p e s m args below meth c A X hr hi
  refine k_lveq [(0, .ref h0), (1, .int p0), (2, .int p1), (3, .int p2)] rfl ?_
  refine k_aload_n X dX8_add_0 0 rfl ?_
  refine k_callVI (n := 0) (As := []) (st := []) X [(cO8_iiri h0 8 3 h0c h0n)] [(cAI g h0c 24 h0f)] [0] [1] (t_isFull l g h0 8 (.int 3) (.ref h0c) h0n) dX8_add_1 mw359 mw344 mw345 mw64 mw346 rfl 8 rfl rfl 0 _ rfl yk_yX8_isFull_0 rfl (Nat.le_of_ble_eq_true rfl) (Nat.le_of_ble_eq_true rfl) (Nat.le_of_ble_eq_true rfl) (Nat.le_of_ble_eq_true rfl) (Nat.le_of_ble_eq_true rfl) rfl rfl (by decide) rfl (by decide) (by decide) ?_
  rintro r_1 w ⟨hr_2, rfl⟩
  refine k_ws [(cAI g h0c 24 h0f), (cO8_iiri h0 8 3 h0c h0n)] rfl ?_
  refine k_if_eq 8 X dX8_add_4 (by decide) (fun h_3 => ?_) (fun h_3 => ?_)
  · skip
    have iv_4 : IV r_1 0 0 := iv_meet (iv_any r_1) (iv_e h_3 (show IV 0 0 0 from (by decide))) (by decide) (by decide)
    refine k_aload_n X dX8_add_8 0 rfl ?_
    refine k_aload_n X dX8_add_9 0 rfl ?_
    refine k_get (ci := 8) X inlX8 rfl 3 (by decide) dX8_add_10 mw100 1 rfl rfl ?_
    refine k_iconst (v := 0) X dX8_add_13 (by decide) ?_
    refine k_iload_n X dX8_add_14 1 rfl ?_
    refine k_callVV (n := 3) (As := [.int h0n, .int 0, .int p0]) (st := []) X [(cO8_iiri h0 8 3 h0c h0n), (cAI g h0c 24 h0f)] [] [1, 0] [] (t_put l g h0 h0n 0 p0 8 3 h0c h0n 24 h0f (tbk_8_3)) dX8_add_15 mw360 mw326 mw327 mw64 mw328 rfl 8 rfl rfl 0 _ rfl yk_yX8_put_3 rfl (Nat.le_of_ble_eq_true rfl) (Nat.le_of_ble_eq_true rfl) (Nat.le_of_ble_eq_true rfl) (Nat.le_of_ble_eq_true rfl) (Nat.le_of_ble_eq_true rfl) rfl rfl (by decide) rfl (by decide) (by decide) ?_
    rintro w ⟨fa_5, hr_7, rfl⟩
    refine k_ws [(cO8_iiri h0 8 3 h0c h0n), (cAI g h0c 24 fa_5)] rfl ?_
    refine k_aload_n X dX8_add_18 0 rfl ?_
    refine k_aload_n X dX8_add_19 0 rfl ?_
    refine k_get (ci := 8) X inlX8 rfl 3 (by decide) dX8_add_20 mw100 0 rfl rfl ?_
    refine k_iconst (v := 1) X dX8_add_23 (by decide) ?_
    refine k_iload_n X dX8_add_24 2 rfl ?_
    refine k_callVV (n := 3) (As := [.int h0n, .int 1, .int p1]) (st := []) X [(cO8_iiri h0 8 3 h0c h0n), (cAI g h0c 24 fa_5)] [] [0, 1] [] (t_put l g h0 h0n 1 p1 8 3 h0c h0n 24 fa_5 (tbk_8_3)) dX8_add_25 mw360 mw326 mw327 mw64 mw328 rfl 8 rfl rfl 0 _ rfl yk_yX8_put_3 rfl (Nat.le_of_ble_eq_true rfl) (Nat.le_of_ble_eq_true rfl) (Nat.le_of_ble_eq_true rfl) (Nat.le_of_ble_eq_true rfl) (Nat.le_of_ble_eq_true rfl) rfl rfl (by decide) rfl (by decide) (by decide) ?_
    rintro w ⟨fa_8, hr_10, rfl⟩
    refine k_ws [(cO8_iiri h0 8 3 h0c h0n), (cAI g h0c 24 fa_8)] rfl ?_
    refine k_aload_n X dX8_add_28 0 rfl ?_
    refine k_aload_n X dX8_add_29 0 rfl ?_
    refine k_get (ci := 8) X inlX8 rfl 3 (by decide) dX8_add_30 mw100 0 rfl rfl ?_
    refine k_iconst (v := 2) X dX8_add_33 (by decide) ?_
    refine k_iload_n X dX8_add_34 3 rfl ?_
    refine k_callVV (n := 3) (As := [.int h0n, .int 2, .int p2]) (st := []) X [(cO8_iiri h0 8 3 h0c h0n), (cAI g h0c 24 fa_8)] [] [0, 1] [] (t_put l g h0 h0n 2 p2 8 3 h0c h0n 24 fa_8 (tbk_8_3)) dX8_add_35 mw360 mw326 mw327 mw64 mw328 rfl 8 rfl rfl 0 _ rfl yk_yX8_put_3 rfl (Nat.le_of_ble_eq_true rfl) (Nat.le_of_ble_eq_true rfl) (Nat.le_of_ble_eq_true rfl) (Nat.le_of_ble_eq_true rfl) (Nat.le_of_ble_eq_true rfl) rfl rfl (by decide) rfl (by decide) (by decide) ?_
    rintro w ⟨fa_11, hr_13, rfl⟩
    refine k_ws [(cO8_iiri h0 8 3 h0c h0n), (cAI g h0c 24 fa_11)] rfl ?_
    refine k_aload_n X dX8_add_38 0 rfl ?_
    refine k_dup X dX8_add_39 rfl ?_
    refine k_get (ci := 8) X inlX8 rfl 3 (by decide) dX8_add_40 mw100 0 rfl rfl ?_
    refine k_iconst (v := 1) X dX8_add_43 (by decide) ?_
    refine k_iadd X dX8_add_44 ?_
    refine k_nm (fun z_14 ez_14 => ?_)
    refine k_put (ci := 8) [(cO8_iiri h0 8 3 h0c z_14), (cAI g h0c 24 fa_11)] X inlX8 rfl tyX8_ok nmX8 3 (by decide) rfl dX8_add_45 mw100 0 rfl rfl rfl (Nat.le_of_ble_eq_true rfl) rfl ?_
    exact k_vret X hr dX8_add_48 (Nat.le_of_ble_eq_true rfl) (Nat.le_of_ble_eq_true rfl) [0, 1] (by decide) rfl rfl ⟨fa_11, z_14, ⟨r_1, hr_2, (Or.inl ⟨h_3, ⟨fa_5, hr_7, ⟨fa_8, hr_10, ⟨fa_11, hr_13, ⟨z_14, ez_14, ⟨rfl, rfl⟩⟩⟩⟩⟩⟩)⟩, rfl⟩
  · skip
    exact k_vret X hr dX8_add_7 (Nat.le_of_ble_eq_true rfl) (Nat.le_of_ble_eq_true rfl) [1, 0] (by decide) rfl rfl ⟨h0f, h0n, ⟨r_1, hr_2, (Or.inr ⟨h_3, ⟨rfl, rfl⟩⟩)⟩, rfl⟩


set_option maxHeartbeats 4000000 in
set_option maxRecDepth 100000 in
theorem t_add4_1X (l : Launch) (g : Gx) (h0 : Nat) (p0 : Int32) (p1 : Int32) (p2 : Int32) (h0c : Nat) (h0n : Int32) (h0f : Nat → Int32) : cV l g yX8_add cX8_add 4 1 23 0 0 [.ref h0, .int p0, .int p1, .int p2] [(cO8_iiri h0 4 1 h0c h0n), (cAI g h0c 4 h0f)] (fun w => ∃ (h0g : Nat → Int32) (h0k : Int32), (R_t_add4_1X p0 p1 p2 h0n h0f h0g h0k) ∧ w = [(cO8_iiri h0 4 1 h0c h0k), (cAI g h0c 4 h0g)]) := by
  refine cV.of (by decide) (Nat.le_of_ble_eq_true rfl) ?_
  intro p e s m args below meth c A X hr hi
  refine k_lveq [(0, .ref h0), (1, .int p0), (2, .int p1), (3, .int p2)] rfl ?_
  refine k_aload_n X dX8_add_0 0 rfl ?_
  refine k_callVI (n := 0) (As := []) (st := []) X [(cO8_iiri h0 4 1 h0c h0n)] [(cAI g h0c 4 h0f)] [0] [1] (t_isFull l g h0 4 (.int 1) (.ref h0c) h0n) dX8_add_1 mw359 mw344 mw345 mw64 mw346 rfl 8 rfl rfl 0 _ rfl yk_yX8_isFull_0 rfl (Nat.le_of_ble_eq_true rfl) (Nat.le_of_ble_eq_true rfl) (Nat.le_of_ble_eq_true rfl) (Nat.le_of_ble_eq_true rfl) (Nat.le_of_ble_eq_true rfl) rfl rfl (by decide) rfl (by decide) (by decide) ?_
  rintro r_1 w ⟨hr_2, rfl⟩
  refine k_ws [(cAI g h0c 4 h0f), (cO8_iiri h0 4 1 h0c h0n)] rfl ?_
  refine k_if_eq 8 X dX8_add_4 (by decide) (fun h_3 => ?_) (fun h_3 => ?_)
  · skip
    have iv_4 : IV r_1 0 0 := iv_meet (iv_any r_1) (iv_e h_3 (show IV 0 0 0 from (by decide))) (by decide) (by decide)
    refine k_aload_n X dX8_add_8 0 rfl ?_
    refine k_aload_n X dX8_add_9 0 rfl ?_
    refine k_get (ci := 8) X inlX8 rfl 3 (by decide) dX8_add_10 mw100 1 rfl rfl ?_
    refine k_iconst (v := 0) X dX8_add_13 (by decide) ?_
    refine k_iload_n X dX8_add_14 1 rfl ?_
    refine k_callVV (n := 3) (As := [.int h0n, .int 0, .int p0]) (st := []) X [(cO8_iiri h0 4 1 h0c h0n), (cAI g h0c 4 h0f)] [] [1, 0] [] (t_put l g h0 h0n 0 p0 4 1 h0c h0n 4 h0f (tbk_4_1)) dX8_add_15 mw360 mw326 mw327 mw64 mw328 rfl 8 rfl rfl 0 _ rfl yk_yX8_put_3 rfl (Nat.le_of_ble_eq_true rfl) (Nat.le_of_ble_eq_true rfl) (Nat.le_of_ble_eq_true rfl) (Nat.le_of_ble_eq_true rfl) (Nat.le_of_ble_eq_true rfl) rfl rfl (by decide) rfl (by decide) (by decide) ?_
    rintro w ⟨fa_5, hr_7, rfl⟩
    refine k_ws [(cO8_iiri h0 4 1 h0c h0n), (cAI g h0c 4 fa_5)] rfl ?_
    refine k_aload_n X dX8_add_18 0 rfl ?_
    refine k_aload_n X dX8_add_19 0 rfl ?_
    refine k_get (ci := 8) X inlX8 rfl 3 (by decide) dX8_add_20 mw100 0 rfl rfl ?_
    refine k_iconst (v := 1) X dX8_add_23 (by decide) ?_
    refine k_iload_n X dX8_add_24 2 rfl ?_
    refine k_callVV (n := 3) (As := [.int h0n, .int 1, .int p1]) (st := []) X [(cO8_iiri h0 4 1 h0c h0n), (cAI g h0c 4 fa_5)] [] [0, 1] [] (t_put l g h0 h0n 1 p1 4 1 h0c h0n 4 fa_5 (tbk_4_1)) dX8_add_25 mw360 mw326 mw327 mw64 mw328 rfl 8 rfl rfl 0 _ rfl yk_yX8_put_3 rfl (Nat.le_of_ble_eq_true rfl) (Nat.le_of_ble_eq_true rfl) (Nat.le_of_ble_eq_true rfl) (Nat.le_of_ble_eq_true rfl) (Nat.le_of_ble_eq_true rfl) rfl rfl (by decide) rfl (by decide) (by decide) ?_
    rintro w ⟨fa_8, hr_10, rfl⟩
    refine k_ws [(cO8_iiri h0 4 1 h0c h0n), (cAI g h0c 4 fa_8)] rfl ?_
    refine k_aload_n X dX8_add_28 0 rfl ?_
    refine k_aload_n X dX8_add_29 0 rfl ?_
    refine k_get (ci := 8) X inlX8 rfl 3 (by decide) dX8_add_30 mw100 0 rfl rfl ?_
    refine k_iconst (v := 2) X dX8_add_33 (by decide) ?_
    refine k_iload_n X dX8_add_34 3 rfl ?_
    refine k_callVV (n := 3) (As := [.int h0n, .int 2, .int p2]) (st := []) X [(cO8_iiri h0 4 1 h0c h0n), (cAI g h0c 4 fa_8)] [] [0, 1] [] (t_put l g h0 h0n 2 p2 4 1 h0c h0n 4 fa_8 (tbk_4_1)) dX8_add_35 mw360 mw326 mw327 mw64 mw328 rfl 8 rfl rfl 0 _ rfl yk_yX8_put_3 rfl (Nat.le_of_ble_eq_true rfl) (Nat.le_of_ble_eq_true rfl) (Nat.le_of_ble_eq_true rfl) (Nat.le_of_ble_eq_true rfl) (Nat.le_of_ble_eq_true rfl) rfl rfl (by decide) rfl (by decide) (by decide) ?_
    rintro w ⟨fa_11, hr_13, rfl⟩
    refine k_ws [(cO8_iiri h0 4 1 h0c h0n), (cAI g h0c 4 fa_11)] rfl ?_
    refine k_aload_n X dX8_add_38 0 rfl ?_
    refine k_dup X dX8_add_39 rfl ?_
    refine k_get (ci := 8) X inlX8 rfl 3 (by decide) dX8_add_40 mw100 0 rfl rfl ?_
    refine k_iconst (v := 1) X dX8_add_43 (by decide) ?_
    refine k_iadd X dX8_add_44 ?_
    refine k_nm (fun z_14 ez_14 => ?_)
    refine k_put (ci := 8) [(cO8_iiri h0 4 1 h0c z_14), (cAI g h0c 4 fa_11)] X inlX8 rfl tyX8_ok nmX8 3 (by decide) rfl dX8_add_45 mw100 0 rfl rfl rfl (Nat.le_of_ble_eq_true rfl) rfl ?_
    exact k_vret X hr dX8_add_48 (Nat.le_of_ble_eq_true rfl) (Nat.le_of_ble_eq_true rfl) [0, 1] (by decide) rfl rfl ⟨fa_11, z_14, ⟨r_1, hr_2, (Or.inl ⟨h_3, ⟨fa_5, hr_7, ⟨fa_8, hr_10, ⟨fa_11, hr_13, ⟨z_14, ez_14, ⟨rfl, rfl⟩⟩⟩⟩⟩⟩)⟩, rfl⟩
  · skip
    exact k_vret X hr dX8_add_7 (Nat.le_of_ble_eq_true rfl) (Nat.le_of_ble_eq_true rfl) [1, 0] (by decide) rfl rfl ⟨h0f, h0n, ⟨r_1, hr_2, (Or.inr ⟨h_3, ⟨rfl, rfl⟩⟩)⟩, rfl⟩


set_option maxHeartbeats 4000000 in
set_option maxRecDepth 100000 in
theorem t_add12_3X (l : Launch) (g : Gx) (h0 : Nat) (p0 : Int32) (p1 : Int32) (p2 : Int32) (h0c : Nat) (h0n : Int32) (h0f : Nat → Int32) : cV l g yX8_add cX8_add 4 1 23 0 0 [.ref h0, .int p0, .int p1, .int p2] [(cO8_iiri h0 12 3 h0c h0n), (cAI g h0c 36 h0f)] (fun w => ∃ (h0g : Nat → Int32) (h0k : Int32), (R_t_add12_3X p0 p1 p2 h0n h0f h0g h0k) ∧ w = [(cO8_iiri h0 12 3 h0c h0k), (cAI g h0c 36 h0g)]) := by
  refine cV.of (by decide) (Nat.le_of_ble_eq_true rfl) ?_
  intro p e s m args below meth c A X hr hi
  refine k_lveq [(0, .ref h0), (1, .int p0), (2, .int p1), (3, .int p2)] rfl ?_
  refine k_aload_n X dX8_add_0 0 rfl ?_
  refine k_callVI (n := 0) (As := []) (st := []) X [(cO8_iiri h0 12 3 h0c h0n)] [(cAI g h0c 36 h0f)] [0] [1] (t_isFull l g h0 12 (.int 3) (.ref h0c) h0n) dX8_add_1 mw359 mw344 mw345 mw64 mw346 rfl 8 rfl rfl 0 _ rfl yk_yX8_isFull_0 rfl (Nat.le_of_ble_eq_true rfl) (Nat.le_of_ble_eq_true rfl) (Nat.le_of_ble_eq_true rfl) (Nat.le_of_ble_eq_true rfl) (Nat.le_of_ble_eq_true rfl) rfl rfl (by decide) rfl (by decide) (by decide) ?_
  rintro r_1 w ⟨hr_2, rfl⟩
  refine k_ws [(cAI g h0c 36 h0f), (cO8_iiri h0 12 3 h0c h0n)] rfl ?_
  refine k_if_eq 8 X dX8_add_4 (by decide) (fun h_3 => ?_) (fun h_3 => ?_)
  · skip
    have iv_4 : IV r_1 0 0 := iv_meet (iv_any r_1) (iv_e h_3 (show IV 0 0 0 from (by decide))) (by decide) (by decide)
    refine k_aload_n X dX8_add_8 0 rfl ?_
    refine k_aload_n X dX8_add_9 0 rfl ?_
    refine k_get (ci := 8) X inlX8 rfl 3 (by decide) dX8_add_10 mw100 1 rfl rfl ?_
    refine k_iconst (v := 0) X dX8_add_13 (by decide) ?_
    refine k_iload_n X dX8_add_14 1 rfl ?_
    refine k_callVV (n := 3) (As := [.int h0n, .int 0, .int p0]) (st := []) X [(cO8_iiri h0 12 3 h0c h0n), (cAI g h0c 36 h0f)] [] [1, 0] [] (t_put l g h0 h0n 0 p0 12 3 h0c h0n 36 h0f (tbk_12_3)) dX8_add_15 mw360 mw326 mw327 mw64 mw328 rfl 8 rfl rfl 0 _ rfl yk_yX8_put_3 rfl (Nat.le_of_ble_eq_true rfl) (Nat.le_of_ble_eq_true rfl) (Nat.le_of_ble_eq_true rfl) (Nat.le_of_ble_eq_true rfl) (Nat.le_of_ble_eq_true rfl) rfl rfl (by decide) rfl (by decide) (by decide) ?_
    rintro w ⟨fa_5, hr_7, rfl⟩
    refine k_ws [(cO8_iiri h0 12 3 h0c h0n), (cAI g h0c 36 fa_5)] rfl ?_
    refine k_aload_n X dX8_add_18 0 rfl ?_
    refine k_aload_n X dX8_add_19 0 rfl ?_
    refine k_get (ci := 8) X inlX8 rfl 3 (by decide) dX8_add_20 mw100 0 rfl rfl ?_
    refine k_iconst (v := 1) X dX8_add_23 (by decide) ?_
    refine k_iload_n X dX8_add_24 2 rfl ?_
    refine k_callVV (n := 3) (As := [.int h0n, .int 1, .int p1]) (st := []) X [(cO8_iiri h0 12 3 h0c h0n), (cAI g h0c 36 fa_5)] [] [0, 1] [] (t_put l g h0 h0n 1 p1 12 3 h0c h0n 36 fa_5 (tbk_12_3)) dX8_add_25 mw360 mw326 mw327 mw64 mw328 rfl 8 rfl rfl 0 _ rfl yk_yX8_put_3 rfl (Nat.le_of_ble_eq_true rfl) (Nat.le_of_ble_eq_true rfl) (Nat.le_of_ble_eq_true rfl) (Nat.le_of_ble_eq_true rfl) (Nat.le_of_ble_eq_true rfl) rfl rfl (by decide) rfl (by decide) (by decide) ?_
    rintro w ⟨fa_8, hr_10, rfl⟩
    refine k_ws [(cO8_iiri h0 12 3 h0c h0n), (cAI g h0c 36 fa_8)] rfl ?_
    refine k_aload_n X dX8_add_28 0 rfl ?_
    refine k_aload_n X dX8_add_29 0 rfl ?_
    refine k_get (ci := 8) X inlX8 rfl 3 (by decide) dX8_add_30 mw100 0 rfl rfl ?_
    refine k_iconst (v := 2) X dX8_add_33 (by decide) ?_
    refine k_iload_n X dX8_add_34 3 rfl ?_
    refine k_callVV (n := 3) (As := [.int h0n, .int 2, .int p2]) (st := []) X [(cO8_iiri h0 12 3 h0c h0n), (cAI g h0c 36 fa_8)] [] [0, 1] [] (t_put l g h0 h0n 2 p2 12 3 h0c h0n 36 fa_8 (tbk_12_3)) dX8_add_35 mw360 mw326 mw327 mw64 mw328 rfl 8 rfl rfl 0 _ rfl yk_yX8_put_3 rfl (Nat.le_of_ble_eq_true rfl) (Nat.le_of_ble_eq_true rfl) (Nat.le_of_ble_eq_true rfl) (Nat.le_of_ble_eq_true rfl) (Nat.le_of_ble_eq_true rfl) rfl rfl (by decide) rfl (by decide) (by decide) ?_
    rintro w ⟨fa_11, hr_13, rfl⟩
    refine k_ws [(cO8_iiri h0 12 3 h0c h0n), (cAI g h0c 36 fa_11)] rfl ?_
    refine k_aload_n X dX8_add_38 0 rfl ?_
    refine k_dup X dX8_add_39 rfl ?_
    refine k_get (ci := 8) X inlX8 rfl 3 (by decide) dX8_add_40 mw100 0 rfl rfl ?_
    refine k_iconst (v := 1) X dX8_add_43 (by decide) ?_
    refine k_iadd X dX8_add_44 ?_
    refine k_nm (fun z_14 ez_14 => ?_)
    refine k_put (ci := 8) [(cO8_iiri h0 12 3 h0c z_14), (cAI g h0c 36 fa_11)] X inlX8 rfl tyX8_ok nmX8 3 (by decide) rfl dX8_add_45 mw100 0 rfl rfl rfl (Nat.le_of_ble_eq_true rfl) rfl ?_
    exact k_vret X hr dX8_add_48 (Nat.le_of_ble_eq_true rfl) (Nat.le_of_ble_eq_true rfl) [0, 1] (by decide) rfl rfl ⟨fa_11, z_14, ⟨r_1, hr_2, (Or.inl ⟨h_3, ⟨fa_5, hr_7, ⟨fa_8, hr_10, ⟨fa_11, hr_13, ⟨z_14, ez_14, ⟨rfl, rfl⟩⟩⟩⟩⟩⟩)⟩, rfl⟩
  · skip
    exact k_vret X hr dX8_add_7 (Nat.le_of_ble_eq_true rfl) (Nat.le_of_ble_eq_true rfl) [1, 0] (by decide) rfl rfl ⟨h0f, h0n, ⟨r_1, hr_2, (Or.inr ⟨h_3, ⟨rfl, rfl⟩⟩)⟩, rfl⟩


set_option maxHeartbeats 4000000 in
set_option maxRecDepth 100000 in
theorem t_add8_2X (l : Launch) (g : Gx) (h0 : Nat) (p0 : Int32) (p1 : Int32) (p2 : Int32) (h0c : Nat) (h0n : Int32) (h0f : Nat → Int32) : cV l g yX8_add cX8_add 4 1 23 0 0 [.ref h0, .int p0, .int p1, .int p2] [(cO8_iiri h0 8 2 h0c h0n), (cAI g h0c 16 h0f)] (fun w => ∃ (h0g : Nat → Int32) (h0k : Int32), (R_t_add8_2X p0 p1 p2 h0n h0f h0g h0k) ∧ w = [(cO8_iiri h0 8 2 h0c h0k), (cAI g h0c 16 h0g)]) := by
  refine cV.of (by decide) (Nat.le_of_ble_eq_true rfl) ?_
  intro p e s m args below meth c A X hr hi
  refine k_lveq [(0, .ref h0), (1, .int p0), (2, .int p1), (3, .int p2)] rfl ?_
  refine k_aload_n X dX8_add_0 0 rfl ?_
  refine k_callVI (n := 0) (As := []) (st := []) X [(cO8_iiri h0 8 2 h0c h0n)] [(cAI g h0c 16 h0f)] [0] [1] (t_isFull l g h0 8 (.int 2) (.ref h0c) h0n) dX8_add_1 mw359 mw344 mw345 mw64 mw346 rfl 8 rfl rfl 0 _ rfl yk_yX8_isFull_0 rfl (Nat.le_of_ble_eq_true rfl) (Nat.le_of_ble_eq_true rfl) (Nat.le_of_ble_eq_true rfl) (Nat.le_of_ble_eq_true rfl) (Nat.le_of_ble_eq_true rfl) rfl rfl (by decide) rfl (by decide) (by decide) ?_
  rintro r_1 w ⟨hr_2, rfl⟩
  refine k_ws [(cAI g h0c 16 h0f), (cO8_iiri h0 8 2 h0c h0n)] rfl ?_
  refine k_if_eq 8 X dX8_add_4 (by decide) (fun h_3 => ?_) (fun h_3 => ?_)
  · skip
    have iv_4 : IV r_1 0 0 := iv_meet (iv_any r_1) (iv_e h_3 (show IV 0 0 0 from (by decide))) (by decide) (by decide)
    refine k_aload_n X dX8_add_8 0 rfl ?_
    refine k_aload_n X dX8_add_9 0 rfl ?_
    refine k_get (ci := 8) X inlX8 rfl 3 (by decide) dX8_add_10 mw100 1 rfl rfl ?_
    refine k_iconst (v := 0) X dX8_add_13 (by decide) ?_
    refine k_iload_n X dX8_add_14 1 rfl ?_
    refine k_callVV (n := 3) (As := [.int h0n, .int 0, .int p0]) (st := []) X [(cO8_iiri h0 8 2 h0c h0n), (cAI g h0c 16 h0f)] [] [1, 0] [] (t_put l g h0 h0n 0 p0 8 2 h0c h0n 16 h0f (tbk_8_2)) dX8_add_15 mw360 mw326 mw327 mw64 mw328 rfl 8 rfl rfl 0 _ rfl yk_yX8_put_3 rfl (Nat.le_of_ble_eq_true rfl) (Nat.le_of_ble_eq_true rfl) (Nat.le_of_ble_eq_true rfl) (Nat.le_of_ble_eq_true rfl) (Nat.le_of_ble_eq_true rfl) rfl rfl (by decide) rfl (by decide) (by decide) ?_
    rintro w ⟨fa_5, hr_7, rfl⟩
    refine k_ws [(cO8_iiri h0 8 2 h0c h0n), (cAI g h0c 16 fa_5)] rfl ?_
    refine k_aload_n X dX8_add_18 0 rfl ?_
    refine k_aload_n X dX8_add_19 0 rfl ?_
    refine k_get (ci := 8) X inlX8 rfl 3 (by decide) dX8_add_20 mw100 0 rfl rfl ?_
    refine k_iconst (v := 1) X dX8_add_23 (by decide) ?_
    refine k_iload_n X dX8_add_24 2 rfl ?_
    refine k_callVV (n := 3) (As := [.int h0n, .int 1, .int p1]) (st := []) X [(cO8_iiri h0 8 2 h0c h0n), (cAI g h0c 16 fa_5)] [] [0, 1] [] (t_put l g h0 h0n 1 p1 8 2 h0c h0n 16 fa_5 (tbk_8_2)) dX8_add_25 mw360 mw326 mw327 mw64 mw328 rfl 8 rfl rfl 0 _ rfl yk_yX8_put_3 rfl (Nat.le_of_ble_eq_true rfl) (Nat.le_of_ble_eq_true rfl) (Nat.le_of_ble_eq_true rfl) (Nat.le_of_ble_eq_true rfl) (Nat.le_of_ble_eq_true rfl) rfl rfl (by decide) rfl (by decide) (by decide) ?_
    rintro w ⟨fa_8, hr_10, rfl⟩
    refine k_ws [(cO8_iiri h0 8 2 h0c h0n), (cAI g h0c 16 fa_8)] rfl ?_
    refine k_aload_n X dX8_add_28 0 rfl ?_
    refine k_aload_n X dX8_add_29 0 rfl ?_
    refine k_get (ci := 8) X inlX8 rfl 3 (by decide) dX8_add_30 mw100 0 rfl rfl ?_
    refine k_iconst (v := 2) X dX8_add_33 (by decide) ?_
    refine k_iload_n X dX8_add_34 3 rfl ?_
    refine k_callVV (n := 3) (As := [.int h0n, .int 2, .int p2]) (st := []) X [(cO8_iiri h0 8 2 h0c h0n), (cAI g h0c 16 fa_8)] [] [0, 1] [] (t_put l g h0 h0n 2 p2 8 2 h0c h0n 16 fa_8 (tbk_8_2)) dX8_add_35 mw360 mw326 mw327 mw64 mw328 rfl 8 rfl rfl 0 _ rfl yk_yX8_put_3 rfl (Nat.le_of_ble_eq_true rfl) (Nat.le_of_ble_eq_true rfl) (Nat.le_of_ble_eq_true rfl) (Nat.le_of_ble_eq_true rfl) (Nat.le_of_ble_eq_true rfl) rfl rfl (by decide) rfl (by decide) (by decide) ?_
    rintro w ⟨fa_11, hr_13, rfl⟩
    refine k_ws [(cO8_iiri h0 8 2 h0c h0n), (cAI g h0c 16 fa_11)] rfl ?_
    refine k_aload_n X dX8_add_38 0 rfl ?_
    refine k_dup X dX8_add_39 rfl ?_
    refine k_get (ci := 8) X inlX8 rfl 3 (by decide) dX8_add_40 mw100 0 rfl rfl ?_
    refine k_iconst (v := 1) X dX8_add_43 (by decide) ?_
    refine k_iadd X dX8_add_44 ?_
    refine k_nm (fun z_14 ez_14 => ?_)
    refine k_put (ci := 8) [(cO8_iiri h0 8 2 h0c z_14), (cAI g h0c 16 fa_11)] X inlX8 rfl tyX8_ok nmX8 3 (by decide) rfl dX8_add_45 mw100 0 rfl rfl rfl (Nat.le_of_ble_eq_true rfl) rfl ?_
    exact k_vret X hr dX8_add_48 (Nat.le_of_ble_eq_true rfl) (Nat.le_of_ble_eq_true rfl) [0, 1] (by decide) rfl rfl ⟨fa_11, z_14, ⟨r_1, hr_2, (Or.inl ⟨h_3, ⟨fa_5, hr_7, ⟨fa_8, hr_10, ⟨fa_11, hr_13, ⟨z_14, ez_14, ⟨rfl, rfl⟩⟩⟩⟩⟩⟩)⟩, rfl⟩
  · skip
    exact k_vret X hr dX8_add_7 (Nat.le_of_ble_eq_true rfl) (Nat.le_of_ble_eq_true rfl) [1, 0] (by decide) rfl rfl ⟨h0f, h0n, ⟨r_1, hr_2, (Or.inr ⟨h_3, ⟨rfl, rfl⟩⟩)⟩, rfl⟩


set_option maxHeartbeats 4000000 in
set_option maxRecDepth 100000 in
theorem t_add6_3X (l : Launch) (g : Gx) (h0 : Nat) (p0 : Int32) (p1 : Int32) (p2 : Int32) (h0c : Nat) (h0n : Int32) (h0f : Nat → Int32) : cV l g yX8_add cX8_add 4 1 23 0 0 [.ref h0, .int p0, .int p1, .int p2] [(cO8_iiri h0 6 3 h0c h0n), (cAI g h0c 18 h0f)] (fun w => ∃ (h0g : Nat → Int32) (h0k : Int32), (R_t_add6_3X p0 p1 p2 h0n h0f h0g h0k) ∧ w = [(cO8_iiri h0 6 3 h0c h0k), (cAI g h0c 18 h0g)]) := by
  refine cV.of (by decide) (Nat.le_of_ble_eq_true rfl) ?_
  intro p e s m args below meth c A X hr hi
  refine k_lveq [(0, .ref h0), (1, .int p0), (2, .int p1), (3, .int p2)] rfl ?_
  refine k_aload_n X dX8_add_0 0 rfl ?_
  refine k_callVI (n := 0) (As := []) (st := []) X [(cO8_iiri h0 6 3 h0c h0n)] [(cAI g h0c 18 h0f)] [0] [1] (t_isFull l g h0 6 (.int 3) (.ref h0c) h0n) dX8_add_1 mw359 mw344 mw345 mw64 mw346 rfl 8 rfl rfl 0 _ rfl yk_yX8_isFull_0 rfl (Nat.le_of_ble_eq_true rfl) (Nat.le_of_ble_eq_true rfl) (Nat.le_of_ble_eq_true rfl) (Nat.le_of_ble_eq_true rfl) (Nat.le_of_ble_eq_true rfl) rfl rfl (by decide) rfl (by decide) (by decide) ?_
  rintro r_1 w ⟨hr_2, rfl⟩
  refine k_ws [(cAI g h0c 18 h0f), (cO8_iiri h0 6 3 h0c h0n)] rfl ?_
  refine k_if_eq 8 X dX8_add_4 (by decide) (fun h_3 => ?_) (fun h_3 => ?_)
  · skip
    have iv_4 : IV r_1 0 0 := iv_meet (iv_any r_1) (iv_e h_3 (show IV 0 0 0 from (by decide))) (by decide) (by decide)
    refine k_aload_n X dX8_add_8 0 rfl ?_
    refine k_aload_n X dX8_add_9 0 rfl ?_
    refine k_get (ci := 8) X inlX8 rfl 3 (by decide) dX8_add_10 mw100 1 rfl rfl ?_
    refine k_iconst (v := 0) X dX8_add_13 (by decide) ?_
    refine k_iload_n X dX8_add_14 1 rfl ?_
    refine k_callVV (n := 3) (As := [.int h0n, .int 0, .int p0]) (st := []) X [(cO8_iiri h0 6 3 h0c h0n), (cAI g h0c 18 h0f)] [] [1, 0] [] (t_put l g h0 h0n 0 p0 6 3 h0c h0n 18 h0f (tbk_6_3)) dX8_add_15 mw360 mw326 mw327 mw64 mw328 rfl 8 rfl rfl 0 _ rfl yk_yX8_put_3 rfl (Nat.le_of_ble_eq_true rfl) (Nat.le_of_ble_eq_true rfl) (Nat.le_of_ble_eq_true rfl) (Nat.le_of_ble_eq_true rfl) (Nat.le_of_ble_eq_true rfl) rfl rfl (by decide) rfl (by decide) (by decide) ?_
    rintro w ⟨fa_5, hr_7, rfl⟩
    refine k_ws [(cO8_iiri h0 6 3 h0c h0n), (cAI g h0c 18 fa_5)] rfl ?_
    refine k_aload_n X dX8_add_18 0 rfl ?_
    refine k_aload_n X dX8_add_19 0 rfl ?_
    refine k_get (ci := 8) X inlX8 rfl 3 (by decide) dX8_add_20 mw100 0 rfl rfl ?_
    refine k_iconst (v := 1) X dX8_add_23 (by decide) ?_
    refine k_iload_n X dX8_add_24 2 rfl ?_
    refine k_callVV (n := 3) (As := [.int h0n, .int 1, .int p1]) (st := []) X [(cO8_iiri h0 6 3 h0c h0n), (cAI g h0c 18 fa_5)] [] [0, 1] [] (t_put l g h0 h0n 1 p1 6 3 h0c h0n 18 fa_5 (tbk_6_3)) dX8_add_25 mw360 mw326 mw327 mw64 mw328 rfl 8 rfl rfl 0 _ rfl yk_yX8_put_3 rfl (Nat.le_of_ble_eq_true rfl) (Nat.le_of_ble_eq_true rfl) (Nat.le_of_ble_eq_true rfl) (Nat.le_of_ble_eq_true rfl) (Nat.le_of_ble_eq_true rfl) rfl rfl (by decide) rfl (by decide) (by decide) ?_
    rintro w ⟨fa_8, hr_10, rfl⟩
    refine k_ws [(cO8_iiri h0 6 3 h0c h0n), (cAI g h0c 18 fa_8)] rfl ?_
    refine k_aload_n X dX8_add_28 0 rfl ?_
    refine k_aload_n X dX8_add_29 0 rfl ?_
    refine k_get (ci := 8) X inlX8 rfl 3 (by decide) dX8_add_30 mw100 0 rfl rfl ?_
    refine k_iconst (v := 2) X dX8_add_33 (by decide) ?_
    refine k_iload_n X dX8_add_34 3 rfl ?_
    refine k_callVV (n := 3) (As := [.int h0n, .int 2, .int p2]) (st := []) X [(cO8_iiri h0 6 3 h0c h0n), (cAI g h0c 18 fa_8)] [] [0, 1] [] (t_put l g h0 h0n 2 p2 6 3 h0c h0n 18 fa_8 (tbk_6_3)) dX8_add_35 mw360 mw326 mw327 mw64 mw328 rfl 8 rfl rfl 0 _ rfl yk_yX8_put_3 rfl (Nat.le_of_ble_eq_true rfl) (Nat.le_of_ble_eq_true rfl) (Nat.le_of_ble_eq_true rfl) (Nat.le_of_ble_eq_true rfl) (Nat.le_of_ble_eq_true rfl) rfl rfl (by decide) rfl (by decide) (by decide) ?_
    rintro w ⟨fa_11, hr_13, rfl⟩
    refine k_ws [(cO8_iiri h0 6 3 h0c h0n), (cAI g h0c 18 fa_11)] rfl ?_
    refine k_aload_n X dX8_add_38 0 rfl ?_
    refine k_dup X dX8_add_39 rfl ?_
    refine k_get (ci := 8) X inlX8 rfl 3 (by decide) dX8_add_40 mw100 0 rfl rfl ?_
    refine k_iconst (v := 1) X dX8_add_43 (by decide) ?_
    refine k_iadd X dX8_add_44 ?_
    refine k_nm (fun z_14 ez_14 => ?_)
    refine k_put (ci := 8) [(cO8_iiri h0 6 3 h0c z_14), (cAI g h0c 18 fa_11)] X inlX8 rfl tyX8_ok nmX8 3 (by decide) rfl dX8_add_45 mw100 0 rfl rfl rfl (Nat.le_of_ble_eq_true rfl) rfl ?_
    exact k_vret X hr dX8_add_48 (Nat.le_of_ble_eq_true rfl) (Nat.le_of_ble_eq_true rfl) [0, 1] (by decide) rfl rfl ⟨fa_11, z_14, ⟨r_1, hr_2, (Or.inl ⟨h_3, ⟨fa_5, hr_7, ⟨fa_8, hr_10, ⟨fa_11, hr_13, ⟨z_14, ez_14, ⟨rfl, rfl⟩⟩⟩⟩⟩⟩)⟩, rfl⟩
  · skip
    exact k_vret X hr dX8_add_7 (Nat.le_of_ble_eq_true rfl) (Nat.le_of_ble_eq_true rfl) [1, 0] (by decide) rfl rfl ⟨h0f, h0n, ⟨r_1, hr_2, (Or.inr ⟨h_3, ⟨rfl, rfl⟩⟩)⟩, rfl⟩


set_option maxHeartbeats 4000000 in
set_option maxRecDepth 100000 in
theorem t_add4_3X (l : Launch) (g : Gx) (h0 : Nat) (p0 : Int32) (p1 : Int32) (p2 : Int32) (h0c : Nat) (h0n : Int32) (h0f : Nat → Int32) : cV l g yX8_add cX8_add 4 1 23 0 0 [.ref h0, .int p0, .int p1, .int p2] [(cO8_iiri h0 4 3 h0c h0n), (cAI g h0c 12 h0f)] (fun w => ∃ (h0g : Nat → Int32) (h0k : Int32), (R_t_add4_3X p0 p1 p2 h0n h0f h0g h0k) ∧ w = [(cO8_iiri h0 4 3 h0c h0k), (cAI g h0c 12 h0g)]) := by
  refine cV.of (by decide) (Nat.le_of_ble_eq_true rfl) ?_
  intro p e s m args below meth c A X hr hi
  refine k_lveq [(0, .ref h0), (1, .int p0), (2, .int p1), (3, .int p2)] rfl ?_
  refine k_aload_n X dX8_add_0 0 rfl ?_
  refine k_callVI (n := 0) (As := []) (st := []) X [(cO8_iiri h0 4 3 h0c h0n)] [(cAI g h0c 12 h0f)] [0] [1] (t_isFull l g h0 4 (.int 3) (.ref h0c) h0n) dX8_add_1 mw359 mw344 mw345 mw64 mw346 rfl 8 rfl rfl 0 _ rfl yk_yX8_isFull_0 rfl (Nat.le_of_ble_eq_true rfl) (Nat.le_of_ble_eq_true rfl) (Nat.le_of_ble_eq_true rfl) (Nat.le_of_ble_eq_true rfl) (Nat.le_of_ble_eq_true rfl) rfl rfl (by decide) rfl (by decide) (by decide) ?_
  rintro r_1 w ⟨hr_2, rfl⟩
  refine k_ws [(cAI g h0c 12 h0f), (cO8_iiri h0 4 3 h0c h0n)] rfl ?_
  refine k_if_eq 8 X dX8_add_4 (by decide) (fun h_3 => ?_) (fun h_3 => ?_)
  · skip
    have iv_4 : IV r_1 0 0 := iv_meet (iv_any r_1) (iv_e h_3 (show IV 0 0 0 from (by decide))) (by decide) (by decide)
    refine k_aload_n X dX8_add_8 0 rfl ?_
    refine k_aload_n X dX8_add_9 0 rfl ?_
    refine k_get (ci := 8) X inlX8 rfl 3 (by decide) dX8_add_10 mw100 1 rfl rfl ?_
    refine k_iconst (v := 0) X dX8_add_13 (by decide) ?_
    refine k_iload_n X dX8_add_14 1 rfl ?_
    refine k_callVV (n := 3) (As := [.int h0n, .int 0, .int p0]) (st := []) X [(cO8_iiri h0 4 3 h0c h0n), (cAI g h0c 12 h0f)] [] [1, 0] [] (t_put l g h0 h0n 0 p0 4 3 h0c h0n 12 h0f (tbk_4_3)) dX8_add_15 mw360 mw326 mw327 mw64 mw328 rfl 8 rfl rfl 0 _ rfl yk_yX8_put_3 rfl (Nat.le_of_ble_eq_true rfl) (Nat.le_of_ble_eq_true rfl) (Nat.le_of_ble_eq_true rfl) (Nat.le_of_ble_eq_true rfl) (Nat.le_of_ble_eq_true rfl) rfl rfl (by decide) rfl (by decide) (by decide) ?_
    rintro w ⟨fa_5, hr_7, rfl⟩
    refine k_ws [(cO8_iiri h0 4 3 h0c h0n), (cAI g h0c 12 fa_5)] rfl ?_
    refine k_aload_n X dX8_add_18 0 rfl ?_
    refine k_aload_n X dX8_add_19 0 rfl ?_
    refine k_get (ci := 8) X inlX8 rfl 3 (by decide) dX8_add_20 mw100 0 rfl rfl ?_
    refine k_iconst (v := 1) X dX8_add_23 (by decide) ?_
    refine k_iload_n X dX8_add_24 2 rfl ?_
    refine k_callVV (n := 3) (As := [.int h0n, .int 1, .int p1]) (st := []) X [(cO8_iiri h0 4 3 h0c h0n), (cAI g h0c 12 fa_5)] [] [0, 1] [] (t_put l g h0 h0n 1 p1 4 3 h0c h0n 12 fa_5 (tbk_4_3)) dX8_add_25 mw360 mw326 mw327 mw64 mw328 rfl 8 rfl rfl 0 _ rfl yk_yX8_put_3 rfl (Nat.le_of_ble_eq_true rfl) (Nat.le_of_ble_eq_true rfl) (Nat.le_of_ble_eq_true rfl) (Nat.le_of_ble_eq_true rfl) (Nat.le_of_ble_eq_true rfl) rfl rfl (by decide) rfl (by decide) (by decide) ?_
    rintro w ⟨fa_8, hr_10, rfl⟩
    refine k_ws [(cO8_iiri h0 4 3 h0c h0n), (cAI g h0c 12 fa_8)] rfl ?_
    refine k_aload_n X dX8_add_28 0 rfl ?_
    refine k_aload_n X dX8_add_29 0 rfl ?_
    refine k_get (ci := 8) X inlX8 rfl 3 (by decide) dX8_add_30 mw100 0 rfl rfl ?_
    refine k_iconst (v := 2) X dX8_add_33 (by decide) ?_
    refine k_iload_n X dX8_add_34 3 rfl ?_
    refine k_callVV (n := 3) (As := [.int h0n, .int 2, .int p2]) (st := []) X [(cO8_iiri h0 4 3 h0c h0n), (cAI g h0c 12 fa_8)] [] [0, 1] [] (t_put l g h0 h0n 2 p2 4 3 h0c h0n 12 fa_8 (tbk_4_3)) dX8_add_35 mw360 mw326 mw327 mw64 mw328 rfl 8 rfl rfl 0 _ rfl yk_yX8_put_3 rfl (Nat.le_of_ble_eq_true rfl) (Nat.le_of_ble_eq_true rfl) (Nat.le_of_ble_eq_true rfl) (Nat.le_of_ble_eq_true rfl) (Nat.le_of_ble_eq_true rfl) rfl rfl (by decide) rfl (by decide) (by decide) ?_
    rintro w ⟨fa_11, hr_13, rfl⟩
    refine k_ws [(cO8_iiri h0 4 3 h0c h0n), (cAI g h0c 12 fa_11)] rfl ?_
    refine k_aload_n X dX8_add_38 0 rfl ?_
    refine k_dup X dX8_add_39 rfl ?_
    refine k_get (ci := 8) X inlX8 rfl 3 (by decide) dX8_add_40 mw100 0 rfl rfl ?_
    refine k_iconst (v := 1) X dX8_add_43 (by decide) ?_
    refine k_iadd X dX8_add_44 ?_
    refine k_nm (fun z_14 ez_14 => ?_)
    refine k_put (ci := 8) [(cO8_iiri h0 4 3 h0c z_14), (cAI g h0c 12 fa_11)] X inlX8 rfl tyX8_ok nmX8 3 (by decide) rfl dX8_add_45 mw100 0 rfl rfl rfl (Nat.le_of_ble_eq_true rfl) rfl ?_
    exact k_vret X hr dX8_add_48 (Nat.le_of_ble_eq_true rfl) (Nat.le_of_ble_eq_true rfl) [0, 1] (by decide) rfl rfl ⟨fa_11, z_14, ⟨r_1, hr_2, (Or.inl ⟨h_3, ⟨fa_5, hr_7, ⟨fa_8, hr_10, ⟨fa_11, hr_13, ⟨z_14, ez_14, ⟨rfl, rfl⟩⟩⟩⟩⟩⟩)⟩, rfl⟩
  · skip
    exact k_vret X hr dX8_add_7 (Nat.le_of_ble_eq_true rfl) (Nat.le_of_ble_eq_true rfl) [1, 0] (by decide) rfl rfl ⟨h0f, h0n, ⟨r_1, hr_2, (Or.inr ⟨h_3, ⟨rfl, rfl⟩⟩)⟩, rfl⟩


set_option maxHeartbeats 4000000 in
set_option maxRecDepth 100000 in
theorem t_add6_2X (l : Launch) (g : Gx) (h0 : Nat) (p0 : Int32) (p1 : Int32) (p2 : Int32) (h0c : Nat) (h0n : Int32) (h0f : Nat → Int32) : cV l g yX8_add cX8_add 4 1 23 0 0 [.ref h0, .int p0, .int p1, .int p2] [(cO8_iiri h0 6 2 h0c h0n), (cAI g h0c 12 h0f)] (fun w => ∃ (h0g : Nat → Int32) (h0k : Int32), (R_t_add6_2X p0 p1 p2 h0n h0f h0g h0k) ∧ w = [(cO8_iiri h0 6 2 h0c h0k), (cAI g h0c 12 h0g)]) := by
  refine cV.of (by decide) (Nat.le_of_ble_eq_true rfl) ?_
  intro p e s m args below meth c A X hr hi
  refine k_lveq [(0, .ref h0), (1, .int p0), (2, .int p1), (3, .int p2)] rfl ?_
  refine k_aload_n X dX8_add_0 0 rfl ?_
  refine k_callVI (n := 0) (As := []) (st := []) X [(cO8_iiri h0 6 2 h0c h0n)] [(cAI g h0c 12 h0f)] [0] [1] (t_isFull l g h0 6 (.int 2) (.ref h0c) h0n) dX8_add_1 mw359 mw344 mw345 mw64 mw346 rfl 8 rfl rfl 0 _ rfl yk_yX8_isFull_0 rfl (Nat.le_of_ble_eq_true rfl) (Nat.le_of_ble_eq_true rfl) (Nat.le_of_ble_eq_true rfl) (Nat.le_of_ble_eq_true rfl) (Nat.le_of_ble_eq_true rfl) rfl rfl (by decide) rfl (by decide) (by decide) ?_
  rintro r_1 w ⟨hr_2, rfl⟩
  refine k_ws [(cAI g h0c 12 h0f), (cO8_iiri h0 6 2 h0c h0n)] rfl ?_
  refine k_if_eq 8 X dX8_add_4 (by decide) (fun h_3 => ?_) (fun h_3 => ?_)
  · skip
    have iv_4 : IV r_1 0 0 := iv_meet (iv_any r_1) (iv_e h_3 (show IV 0 0 0 from (by decide))) (by decide) (by decide)
    refine k_aload_n X dX8_add_8 0 rfl ?_
    refine k_aload_n X dX8_add_9 0 rfl ?_
    refine k_get (ci := 8) X inlX8 rfl 3 (by decide) dX8_add_10 mw100 1 rfl rfl ?_
    refine k_iconst (v := 0) X dX8_add_13 (by decide) ?_
    refine k_iload_n X dX8_add_14 1 rfl ?_
    refine k_callVV (n := 3) (As := [.int h0n, .int 0, .int p0]) (st := []) X [(cO8_iiri h0 6 2 h0c h0n), (cAI g h0c 12 h0f)] [] [1, 0] [] (t_put l g h0 h0n 0 p0 6 2 h0c h0n 12 h0f (tbk_6_2)) dX8_add_15 mw360 mw326 mw327 mw64 mw328 rfl 8 rfl rfl 0 _ rfl yk_yX8_put_3 rfl (Nat.le_of_ble_eq_true rfl) (Nat.le_of_ble_eq_true rfl) (Nat.le_of_ble_eq_true rfl) (Nat.le_of_ble_eq_true rfl) (Nat.le_of_ble_eq_true rfl) rfl rfl (by decide) rfl (by decide) (by decide) ?_
    rintro w ⟨fa_5, hr_7, rfl⟩
    refine k_ws [(cO8_iiri h0 6 2 h0c h0n), (cAI g h0c 12 fa_5)] rfl ?_
    refine k_aload_n X dX8_add_18 0 rfl ?_
    refine k_aload_n X dX8_add_19 0 rfl ?_
    refine k_get (ci := 8) X inlX8 rfl 3 (by decide) dX8_add_20 mw100 0 rfl rfl ?_
    refine k_iconst (v := 1) X dX8_add_23 (by decide) ?_
    refine k_iload_n X dX8_add_24 2 rfl ?_
    refine k_callVV (n := 3) (As := [.int h0n, .int 1, .int p1]) (st := []) X [(cO8_iiri h0 6 2 h0c h0n), (cAI g h0c 12 fa_5)] [] [0, 1] [] (t_put l g h0 h0n 1 p1 6 2 h0c h0n 12 fa_5 (tbk_6_2)) dX8_add_25 mw360 mw326 mw327 mw64 mw328 rfl 8 rfl rfl 0 _ rfl yk_yX8_put_3 rfl (Nat.le_of_ble_eq_true rfl) (Nat.le_of_ble_eq_true rfl) (Nat.le_of_ble_eq_true rfl) (Nat.le_of_ble_eq_true rfl) (Nat.le_of_ble_eq_true rfl) rfl rfl (by decide) rfl (by decide) (by decide) ?_
    rintro w ⟨fa_8, hr_10, rfl⟩
    refine k_ws [(cO8_iiri h0 6 2 h0c h0n), (cAI g h0c 12 fa_8)] rfl ?_
    refine k_aload_n X dX8_add_28 0 rfl ?_
    refine k_aload_n X dX8_add_29 0 rfl ?_
    refine k_get (ci := 8) X inlX8 rfl 3 (by decide) dX8_add_30 mw100 0 rfl rfl ?_
    refine k_iconst (v := 2) X dX8_add_33 (by decide) ?_
    refine k_iload_n X dX8_add_34 3 rfl ?_
    refine k_callVV (n := 3) (As := [.int h0n, .int 2, .int p2]) (st := []) X [(cO8_iiri h0 6 2 h0c h0n), (cAI g h0c 12 fa_8)] [] [0, 1] [] (t_put l g h0 h0n 2 p2 6 2 h0c h0n 12 fa_8 (tbk_6_2)) dX8_add_35 mw360 mw326 mw327 mw64 mw328 rfl 8 rfl rfl 0 _ rfl yk_yX8_put_3 rfl (Nat.le_of_ble_eq_true rfl) (Nat.le_of_ble_eq_true rfl) (Nat.le_of_ble_eq_true rfl) (Nat.le_of_ble_eq_true rfl) (Nat.le_of_ble_eq_true rfl) rfl rfl (by decide) rfl (by decide) (by decide) ?_
    rintro w ⟨fa_11, hr_13, rfl⟩
    refine k_ws [(cO8_iiri h0 6 2 h0c h0n), (cAI g h0c 12 fa_11)] rfl ?_
    refine k_aload_n X dX8_add_38 0 rfl ?_
    refine k_dup X dX8_add_39 rfl ?_
    refine k_get (ci := 8) X inlX8 rfl 3 (by decide) dX8_add_40 mw100 0 rfl rfl ?_
    refine k_iconst (v := 1) X dX8_add_43 (by decide) ?_
    refine k_iadd X dX8_add_44 ?_
    refine k_nm (fun z_14 ez_14 => ?_)
    refine k_put (ci := 8) [(cO8_iiri h0 6 2 h0c z_14), (cAI g h0c 12 fa_11)] X inlX8 rfl tyX8_ok nmX8 3 (by decide) rfl dX8_add_45 mw100 0 rfl rfl rfl (Nat.le_of_ble_eq_true rfl) rfl ?_
    exact k_vret X hr dX8_add_48 (Nat.le_of_ble_eq_true rfl) (Nat.le_of_ble_eq_true rfl) [0, 1] (by decide) rfl rfl ⟨fa_11, z_14, ⟨r_1, hr_2, (Or.inl ⟨h_3, ⟨fa_5, hr_7, ⟨fa_8, hr_10, ⟨fa_11, hr_13, ⟨z_14, ez_14, ⟨rfl, rfl⟩⟩⟩⟩⟩⟩)⟩, rfl⟩
  · skip
    exact k_vret X hr dX8_add_7 (Nat.le_of_ble_eq_true rfl) (Nat.le_of_ble_eq_true rfl) [1, 0] (by decide) rfl rfl ⟨h0f, h0n, ⟨r_1, hr_2, (Or.inr ⟨h_3, ⟨rfl, rfl⟩⟩)⟩, rfl⟩


set_option maxHeartbeats 4000000 in
set_option maxRecDepth 100000 in
theorem t_add1_3X (l : Launch) (g : Gx) (h0 : Nat) (p0 : Int32) (p1 : Int32) (p2 : Int32) (h0c : Nat) (h0n : Int32) (h0f : Nat → Int32) : cV l g yX8_add cX8_add 4 1 23 0 0 [.ref h0, .int p0, .int p1, .int p2] [(cO8_iiri h0 1 3 h0c h0n), (cAI g h0c 3 h0f)] (fun w => ∃ (h0g : Nat → Int32) (h0k : Int32), (R_t_add1_3X p0 p1 p2 h0n h0f h0g h0k) ∧ w = [(cO8_iiri h0 1 3 h0c h0k), (cAI g h0c 3 h0g)]) := by
  refine cV.of (by decide) (Nat.le_of_ble_eq_true rfl) ?_
  intro p e s m args below meth c A X hr hi
  refine k_lveq [(0, .ref h0), (1, .int p0), (2, .int p1), (3, .int p2)] rfl ?_
  refine k_aload_n X dX8_add_0 0 rfl ?_
  refine k_callVI (n := 0) (As := []) (st := []) X [(cO8_iiri h0 1 3 h0c h0n)] [(cAI g h0c 3 h0f)] [0] [1] (t_isFull l g h0 1 (.int 3) (.ref h0c) h0n) dX8_add_1 mw359 mw344 mw345 mw64 mw346 rfl 8 rfl rfl 0 _ rfl yk_yX8_isFull_0 rfl (Nat.le_of_ble_eq_true rfl) (Nat.le_of_ble_eq_true rfl) (Nat.le_of_ble_eq_true rfl) (Nat.le_of_ble_eq_true rfl) (Nat.le_of_ble_eq_true rfl) rfl rfl (by decide) rfl (by decide) (by decide) ?_
  rintro r_1 w ⟨hr_2, rfl⟩
  refine k_ws [(cAI g h0c 3 h0f), (cO8_iiri h0 1 3 h0c h0n)] rfl ?_
  refine k_if_eq 8 X dX8_add_4 (by decide) (fun h_3 => ?_) (fun h_3 => ?_)
  · skip
    have iv_4 : IV r_1 0 0 := iv_meet (iv_any r_1) (iv_e h_3 (show IV 0 0 0 from (by decide))) (by decide) (by decide)
    refine k_aload_n X dX8_add_8 0 rfl ?_
    refine k_aload_n X dX8_add_9 0 rfl ?_
    refine k_get (ci := 8) X inlX8 rfl 3 (by decide) dX8_add_10 mw100 1 rfl rfl ?_
    refine k_iconst (v := 0) X dX8_add_13 (by decide) ?_
    refine k_iload_n X dX8_add_14 1 rfl ?_
    refine k_callVV (n := 3) (As := [.int h0n, .int 0, .int p0]) (st := []) X [(cO8_iiri h0 1 3 h0c h0n), (cAI g h0c 3 h0f)] [] [1, 0] [] (t_put l g h0 h0n 0 p0 1 3 h0c h0n 3 h0f (tbk_1_3)) dX8_add_15 mw360 mw326 mw327 mw64 mw328 rfl 8 rfl rfl 0 _ rfl yk_yX8_put_3 rfl (Nat.le_of_ble_eq_true rfl) (Nat.le_of_ble_eq_true rfl) (Nat.le_of_ble_eq_true rfl) (Nat.le_of_ble_eq_true rfl) (Nat.le_of_ble_eq_true rfl) rfl rfl (by decide) rfl (by decide) (by decide) ?_
    rintro w ⟨fa_5, hr_7, rfl⟩
    refine k_ws [(cO8_iiri h0 1 3 h0c h0n), (cAI g h0c 3 fa_5)] rfl ?_
    refine k_aload_n X dX8_add_18 0 rfl ?_
    refine k_aload_n X dX8_add_19 0 rfl ?_
    refine k_get (ci := 8) X inlX8 rfl 3 (by decide) dX8_add_20 mw100 0 rfl rfl ?_
    refine k_iconst (v := 1) X dX8_add_23 (by decide) ?_
    refine k_iload_n X dX8_add_24 2 rfl ?_
    refine k_callVV (n := 3) (As := [.int h0n, .int 1, .int p1]) (st := []) X [(cO8_iiri h0 1 3 h0c h0n), (cAI g h0c 3 fa_5)] [] [0, 1] [] (t_put l g h0 h0n 1 p1 1 3 h0c h0n 3 fa_5 (tbk_1_3)) dX8_add_25 mw360 mw326 mw327 mw64 mw328 rfl 8 rfl rfl 0 _ rfl yk_yX8_put_3 rfl (Nat.le_of_ble_eq_true rfl) (Nat.le_of_ble_eq_true rfl) (Nat.le_of_ble_eq_true rfl) (Nat.le_of_ble_eq_true rfl) (Nat.le_of_ble_eq_true rfl) rfl rfl (by decide) rfl (by decide) (by decide) ?_
    rintro w ⟨fa_8, hr_10, rfl⟩
    refine k_ws [(cO8_iiri h0 1 3 h0c h0n), (cAI g h0c 3 fa_8)] rfl ?_
    refine k_aload_n X dX8_add_28 0 rfl ?_
    refine k_aload_n X dX8_add_29 0 rfl ?_
    refine k_get (ci := 8) X inlX8 rfl 3 (by decide) dX8_add_30 mw100 0 rfl rfl ?_
    refine k_iconst (v := 2) X dX8_add_33 (by decide) ?_
    refine k_iload_n X dX8_add_34 3 rfl ?_
    refine k_callVV (n := 3) (As := [.int h0n, .int 2, .int p2]) (st := []) X [(cO8_iiri h0 1 3 h0c h0n), (cAI g h0c 3 fa_8)] [] [0, 1] [] (t_put l g h0 h0n 2 p2 1 3 h0c h0n 3 fa_8 (tbk_1_3)) dX8_add_35 mw360 mw326 mw327 mw64 mw328 rfl 8 rfl rfl 0 _ rfl yk_yX8_put_3 rfl (Nat.le_of_ble_eq_true rfl) (Nat.le_of_ble_eq_true rfl) (Nat.le_of_ble_eq_true rfl) (Nat.le_of_ble_eq_true rfl) (Nat.le_of_ble_eq_true rfl) rfl rfl (by decide) rfl (by decide) (by decide) ?_
    rintro w ⟨fa_11, hr_13, rfl⟩
    refine k_ws [(cO8_iiri h0 1 3 h0c h0n), (cAI g h0c 3 fa_11)] rfl ?_
    refine k_aload_n X dX8_add_38 0 rfl ?_
    refine k_dup X dX8_add_39 rfl ?_
    refine k_get (ci := 8) X inlX8 rfl 3 (by decide) dX8_add_40 mw100 0 rfl rfl ?_
    refine k_iconst (v := 1) X dX8_add_43 (by decide) ?_
    refine k_iadd X dX8_add_44 ?_
    refine k_nm (fun z_14 ez_14 => ?_)
    refine k_put (ci := 8) [(cO8_iiri h0 1 3 h0c z_14), (cAI g h0c 3 fa_11)] X inlX8 rfl tyX8_ok nmX8 3 (by decide) rfl dX8_add_45 mw100 0 rfl rfl rfl (Nat.le_of_ble_eq_true rfl) rfl ?_
    exact k_vret X hr dX8_add_48 (Nat.le_of_ble_eq_true rfl) (Nat.le_of_ble_eq_true rfl) [0, 1] (by decide) rfl rfl ⟨fa_11, z_14, ⟨r_1, hr_2, (Or.inl ⟨h_3, ⟨fa_5, hr_7, ⟨fa_8, hr_10, ⟨fa_11, hr_13, ⟨z_14, ez_14, ⟨rfl, rfl⟩⟩⟩⟩⟩⟩)⟩, rfl⟩
  · skip
    exact k_vret X hr dX8_add_7 (Nat.le_of_ble_eq_true rfl) (Nat.le_of_ble_eq_true rfl) [1, 0] (by decide) rfl rfl ⟨h0f, h0n, ⟨r_1, hr_2, (Or.inr ⟨h_3, ⟨rfl, rfl⟩⟩)⟩, rfl⟩


set_option maxHeartbeats 4000000 in
set_option maxRecDepth 100000 in
theorem t_add16_2X (l : Launch) (g : Gx) (h0 : Nat) (p0 : Int32) (p1 : Int32) (p2 : Int32) (h0c : Nat) (h0n : Int32) (h0f : Nat → Int32) : cV l g yX8_add cX8_add 4 1 23 0 0 [.ref h0, .int p0, .int p1, .int p2] [(cO8_iiri h0 16 2 h0c h0n), (cAI g h0c 32 h0f)] (fun w => ∃ (h0g : Nat → Int32) (h0k : Int32), (R_t_add16_2X p0 p1 p2 h0n h0f h0g h0k) ∧ w = [(cO8_iiri h0 16 2 h0c h0k), (cAI g h0c 32 h0g)]) := by
  refine cV.of (by decide) (Nat.le_of_ble_eq_true rfl) ?_
  intro p e s m args below meth c A X hr hi
  refine k_lveq [(0, .ref h0), (1, .int p0), (2, .int p1), (3, .int p2)] rfl ?_
  refine k_aload_n X dX8_add_0 0 rfl ?_
  refine k_callVI (n := 0) (As := []) (st := []) X [(cO8_iiri h0 16 2 h0c h0n)] [(cAI g h0c 32 h0f)] [0] [1] (t_isFull l g h0 16 (.int 2) (.ref h0c) h0n) dX8_add_1 mw359 mw344 mw345 mw64 mw346 rfl 8 rfl rfl 0 _ rfl yk_yX8_isFull_0 rfl (Nat.le_of_ble_eq_true rfl) (Nat.le_of_ble_eq_true rfl) (Nat.le_of_ble_eq_true rfl) (Nat.le_of_ble_eq_true rfl) (Nat.le_of_ble_eq_true rfl) rfl rfl (by decide) rfl (by decide) (by decide) ?_
  rintro r_1 w ⟨hr_2, rfl⟩
  refine k_ws [(cAI g h0c 32 h0f), (cO8_iiri h0 16 2 h0c h0n)] rfl ?_
  refine k_if_eq 8 X dX8_add_4 (by decide) (fun h_3 => ?_) (fun h_3 => ?_)
  · skip
    have iv_4 : IV r_1 0 0 := iv_meet (iv_any r_1) (iv_e h_3 (show IV 0 0 0 from (by decide))) (by decide) (by decide)
    refine k_aload_n X dX8_add_8 0 rfl ?_
    refine k_aload_n X dX8_add_9 0 rfl ?_
    refine k_get (ci := 8) X inlX8 rfl 3 (by decide) dX8_add_10 mw100 1 rfl rfl ?_
    refine k_iconst (v := 0) X dX8_add_13 (by decide) ?_
    refine k_iload_n X dX8_add_14 1 rfl ?_
    refine k_callVV (n := 3) (As := [.int h0n, .int 0, .int p0]) (st := []) X [(cO8_iiri h0 16 2 h0c h0n), (cAI g h0c 32 h0f)] [] [1, 0] [] (t_put l g h0 h0n 0 p0 16 2 h0c h0n 32 h0f (tbk_16_2)) dX8_add_15 mw360 mw326 mw327 mw64 mw328 rfl 8 rfl rfl 0 _ rfl yk_yX8_put_3 rfl (Nat.le_of_ble_eq_true rfl) (Nat.le_of_ble_eq_true rfl) (Nat.le_of_ble_eq_true rfl) (Nat.le_of_ble_eq_true rfl) (Nat.le_of_ble_eq_true rfl) rfl rfl (by decide) rfl (by decide) (by decide) ?_
    rintro w ⟨fa_5, hr_7, rfl⟩
    refine k_ws [(cO8_iiri h0 16 2 h0c h0n), (cAI g h0c 32 fa_5)] rfl ?_
    refine k_aload_n X dX8_add_18 0 rfl ?_
    refine k_aload_n X dX8_add_19 0 rfl ?_
    refine k_get (ci := 8) X inlX8 rfl 3 (by decide) dX8_add_20 mw100 0 rfl rfl ?_
    refine k_iconst (v := 1) X dX8_add_23 (by decide) ?_
    refine k_iload_n X dX8_add_24 2 rfl ?_
    refine k_callVV (n := 3) (As := [.int h0n, .int 1, .int p1]) (st := []) X [(cO8_iiri h0 16 2 h0c h0n), (cAI g h0c 32 fa_5)] [] [0, 1] [] (t_put l g h0 h0n 1 p1 16 2 h0c h0n 32 fa_5 (tbk_16_2)) dX8_add_25 mw360 mw326 mw327 mw64 mw328 rfl 8 rfl rfl 0 _ rfl yk_yX8_put_3 rfl (Nat.le_of_ble_eq_true rfl) (Nat.le_of_ble_eq_true rfl) (Nat.le_of_ble_eq_true rfl) (Nat.le_of_ble_eq_true rfl) (Nat.le_of_ble_eq_true rfl) rfl rfl (by decide) rfl (by decide) (by decide) ?_
    rintro w ⟨fa_8, hr_10, rfl⟩
    refine k_ws [(cO8_iiri h0 16 2 h0c h0n), (cAI g h0c 32 fa_8)] rfl ?_
    refine k_aload_n X dX8_add_28 0 rfl ?_
    refine k_aload_n X dX8_add_29 0 rfl ?_
    refine k_get (ci := 8) X inlX8 rfl 3 (by decide) dX8_add_30 mw100 0 rfl rfl ?_
    refine k_iconst (v := 2) X dX8_add_33 (by decide) ?_
    refine k_iload_n X dX8_add_34 3 rfl ?_
    refine k_callVV (n := 3) (As := [.int h0n, .int 2, .int p2]) (st := []) X [(cO8_iiri h0 16 2 h0c h0n), (cAI g h0c 32 fa_8)] [] [0, 1] [] (t_put l g h0 h0n 2 p2 16 2 h0c h0n 32 fa_8 (tbk_16_2)) dX8_add_35 mw360 mw326 mw327 mw64 mw328 rfl 8 rfl rfl 0 _ rfl yk_yX8_put_3 rfl (Nat.le_of_ble_eq_true rfl) (Nat.le_of_ble_eq_true rfl) (Nat.le_of_ble_eq_true rfl) (Nat.le_of_ble_eq_true rfl) (Nat.le_of_ble_eq_true rfl) rfl rfl (by decide) rfl (by decide) (by decide) ?_
    rintro w ⟨fa_11, hr_13, rfl⟩
    refine k_ws [(cO8_iiri h0 16 2 h0c h0n), (cAI g h0c 32 fa_11)] rfl ?_
    refine k_aload_n X dX8_add_38 0 rfl ?_
    refine k_dup X dX8_add_39 rfl ?_
    refine k_get (ci := 8) X inlX8 rfl 3 (by decide) dX8_add_40 mw100 0 rfl rfl ?_
    refine k_iconst (v := 1) X dX8_add_43 (by decide) ?_
    refine k_iadd X dX8_add_44 ?_
    refine k_nm (fun z_14 ez_14 => ?_)
    refine k_put (ci := 8) [(cO8_iiri h0 16 2 h0c z_14), (cAI g h0c 32 fa_11)] X inlX8 rfl tyX8_ok nmX8 3 (by decide) rfl dX8_add_45 mw100 0 rfl rfl rfl (Nat.le_of_ble_eq_true rfl) rfl ?_
    exact k_vret X hr dX8_add_48 (Nat.le_of_ble_eq_true rfl) (Nat.le_of_ble_eq_true rfl) [0, 1] (by decide) rfl rfl ⟨fa_11, z_14, ⟨r_1, hr_2, (Or.inl ⟨h_3, ⟨fa_5, hr_7, ⟨fa_8, hr_10, ⟨fa_11, hr_13, ⟨z_14, ez_14, ⟨rfl, rfl⟩⟩⟩⟩⟩⟩)⟩, rfl⟩
  · skip
    exact k_vret X hr dX8_add_7 (Nat.le_of_ble_eq_true rfl) (Nat.le_of_ble_eq_true rfl) [1, 0] (by decide) rfl rfl ⟨h0f, h0n, ⟨r_1, hr_2, (Or.inr ⟨h_3, ⟨rfl, rfl⟩⟩)⟩, rfl⟩


set_option maxHeartbeats 4000000 in
set_option maxRecDepth 100000 in
theorem s_markByX (l : Launch) (g : Gx) (h0 : Nat) (p0 : Int32) (p1 : Int32) (v0h0 : Value) (xm : Nat) (v2h0 : Value) (v3h0 : Value) (xmd : Int32) (xtr : Int32) (xmc : Nat) (xmn : Int32) (xmf : Nat → Int32) : cI l g yX7_markBy cX7_markBy 4 (some .int) 1 22 0 0 [.ref h0, .int p0, .int p1] [(cO7_vrvvii h0 v0h0 xm v2h0 v3h0 xmd xtr), (cO8_iiri xm 12 3 xmc xmn), (cAI g xmc 36 xmf)] (fun r w => (R_s_markByX p0 p1 xmn xmf r) ∧ w = [(cO7_vrvvii h0 v0h0 xm v2h0 v3h0 xmd xtr), (cO8_iiri xm 12 3 xmc xmn), (cAI g xmc 36 xmf)]) := by
  refine cI.of (by decide) (Nat.le_of_ble_eq_true rfl) ?_
  intro p e s m args below meth c A X hr hi
  refine k_lveq [(0, .ref h0), (1, .int p0), (2, .int p1)] rfl ?_
  refine k_iconst (v := 0) X dX7_markBy_0 (by decide) ?_
  refine k_istore_n [(3, .int 0), (0, .ref h0), (1, .int p0), (2, .int p1)] X dX7_markBy_1 (by decide) rfl ?_
  refine (fun hL : ∀ (nn_3 : Nat) (u_1 : Int32), (xmn.toInt - u_1.toInt).toNat = nn_3 → (IV u_1 0 2147483647) → (∀ (r : Int32), (∃ n_0 : Nat, R_s_markByX_L0 p0 p1 xmn xmf r (r = (-2)) n_0 u_1) → R_s_markByX p0 p1 xmn xmf r) → Wk p l e _ s m args below meth c _ A g _ _ _ [(cO7_vrvvii h0 v0h0 xm v2h0 v3h0 xmd xtr), (cO8_iiri xm 12 3 xmc xmn), (cAI g xmc 36 xmf)] [(3, .int u_1), (0, .ref h0), (1, .int p0), (2, .int p1)] 2 [] => hL _ 0 rfl (iv_w (show IV 0 0 0 from (by decide)) (by decide) (by decide)) (fun r h => h)) ?_
  refine fun nn_3 => Nat.strongRecOn nn_3 (fun nn_3 ih_5 => ?_)
  intro u_1 hm_4 hv_2 KH_0
  refine k_iload_n X dX7_markBy_2 0 rfl ?_
  refine k_aload_n X dX7_markBy_3 1 rfl ?_
  refine k_get (ci := 7) X inlX7 rfl 1 (by decide) dX7_markBy_4 mw91 0 rfl rfl ?_
  refine k_get (ci := 8) X inlX8 rfl 3 (by decide) dX7_markBy_7 mw387 1 rfl rfl ?_
  refine k_ic_ge 55 X dX7_markBy_10 (by decide) (fun h_6 => ?_) (fun h_6 => ?_)
  · skip
    have j_7 : xmn.toInt ≤ u_1.toInt := iv_le h_6
    refine k_bipush (v := -2) X dX7_markBy_55 (by decide) ?_
    exact k_iret X hr dX7_markBy_57 (Nat.le_of_ble_eq_true rfl) (Nat.le_of_ble_eq_true rfl) [0, 1, 2] (by decide) rfl rfl ⟨(KH_0 _ ⟨0 + 1, (Or.inl ⟨h_6, rfl⟩)⟩), rfl⟩
  · skip
    have j_8 : u_1.toInt < xmn.toInt := iv_nle h_6
    have iv_9 : IV u_1 0 2147483646 := iv_ltL (iv_nle h_6) hv_2 (iv_any xmn) (by decide)
    have iv_10 : IV xmn 1 2147483647 := iv_ltR (iv_nle h_6) hv_2 (iv_any xmn) (by decide)
    refine k_aload_n X dX7_markBy_13 1 rfl ?_
    refine k_get (ci := 7) X inlX7 rfl 1 (by decide) dX7_markBy_14 mw91 0 rfl rfl ?_
    refine k_iload_n X dX7_markBy_17 0 rfl ?_
    refine k_iconst (v := 0) X dX7_markBy_18 (by decide) ?_
    refine k_callVI (n := 2) (As := [.int u_1, .int 0]) (st := []) X [(cO8_iiri xm 12 3 xmc xmn), (cAI g xmc 36 xmf)] [(cO7_vrvvii h0 v0h0 xm v2h0 v3h0 xmd xtr)] [1, 2] [0] (t_at l g xm u_1 0 12 3 xmc xmn 36 xmf (tbk_12_3)) dX7_markBy_19 mw388 mw376 mw377 mw64 mw378 rfl 8 rfl rfl 0 _ rfl yk_yX8_at_2 rfl (Nat.le_of_ble_eq_true rfl) (Nat.le_of_ble_eq_true rfl) (Nat.le_of_ble_eq_true rfl) (Nat.le_of_ble_eq_true rfl) (Nat.le_of_ble_eq_true rfl) rfl rfl (by decide) rfl (by decide) (by decide) ?_
    rintro r_11 w ⟨hr_12, rfl⟩
    refine k_ws [(cO7_vrvvii h0 v0h0 xm v2h0 v3h0 xmd xtr), (cO8_iiri xm 12 3 xmc xmn), (cAI g xmc 36 xmf)] rfl ?_
    refine k_iload_n X dX7_markBy_22 2 rfl ?_
    refine k_ic_ne 49 X dX7_markBy_23 (by decide) (fun h_13 => ?_) (fun h_13 => ?_)
    · skip
      obtain ⟨z_14, ez_14⟩ : ∃ y : Int32, u_1 + Int32.ofInt 1 = y := ⟨_, rfl⟩
      refine k_iinc z_14 [(3, .int z_14), (0, .ref h0), (1, .int p0), (2, .int p1)] 0 X dX7_markBy_49 rfl ez_14 (by decide) rfl ?_
      have i_15 : z_14.toInt = u_1.toInt + 1 := in_inc ez_14 (by decide) iv_9 (by decide) (by decide)
      have iv_16 : IV z_14 1 2147483647 := iz1 i_15 iv_9 (by decide) (by decide)
      refine k_goto 2 X dX7_markBy_52 (by decide) ?_
      exact ih_5 _ (by omega) z_14 rfl (iv_w iv_16 (by decide) (by decide)) (fun r h => h.elim (fun n_0 q => (KH_0 _ ⟨n_0 + 1, (Or.inr ⟨h_6, ⟨r_11, hr_12, (Or.inl ⟨h_13, ⟨z_14, ez_14, q⟩⟩)⟩⟩)⟩)))
    · skip
      refine k_aload_n X dX7_markBy_26 1 rfl ?_
      refine k_get (ci := 7) X inlX7 rfl 1 (by decide) dX7_markBy_27 mw91 0 rfl rfl ?_
      refine k_iload_n X dX7_markBy_30 0 rfl ?_
      refine k_iconst (v := 2) X dX7_markBy_31 (by decide) ?_
      refine k_callVI (n := 2) (As := [.int u_1, .int 2]) (st := []) X [(cO8_iiri xm 12 3 xmc xmn), (cAI g xmc 36 xmf)] [(cO7_vrvvii h0 v0h0 xm v2h0 v3h0 xmd xtr)] [1, 2] [0] (t_at l g xm u_1 2 12 3 xmc xmn 36 xmf (tbk_12_3)) dX7_markBy_32 mw388 mw376 mw377 mw64 mw378 rfl 8 rfl rfl 0 _ rfl yk_yX8_at_2 rfl (Nat.le_of_ble_eq_true rfl) (Nat.le_of_ble_eq_true rfl) (Nat.le_of_ble_eq_true rfl) (Nat.le_of_ble_eq_true rfl) (Nat.le_of_ble_eq_true rfl) rfl rfl (by decide) rfl (by decide) (by decide) ?_
      rintro r_17 w ⟨hr_18, rfl⟩
      refine k_ws [(cO7_vrvvii h0 v0h0 xm v2h0 v3h0 xmd xtr), (cO8_iiri xm 12 3 xmc xmn), (cAI g xmc 36 xmf)] rfl ?_
      refine k_iload_n X dX7_markBy_35 3 rfl ?_
      refine k_ic_ne 49 X dX7_markBy_36 (by decide) (fun h_19 => ?_) (fun h_19 => ?_)
      · skip
        obtain ⟨z_20, ez_20⟩ : ∃ y : Int32, u_1 + Int32.ofInt 1 = y := ⟨_, rfl⟩
        refine k_iinc z_20 [(3, .int z_20), (0, .ref h0), (1, .int p0), (2, .int p1)] 0 X dX7_markBy_49 rfl ez_20 (by decide) rfl ?_
        have i_21 : z_20.toInt = u_1.toInt + 1 := in_inc ez_20 (by decide) iv_9 (by decide) (by decide)
        have iv_22 : IV z_20 1 2147483647 := iz1 i_21 iv_9 (by decide) (by decide)
        refine k_goto 2 X dX7_markBy_52 (by decide) ?_
        exact ih_5 _ (by omega) z_20 rfl (iv_w iv_22 (by decide) (by decide)) (fun r h => h.elim (fun n_0 q => (KH_0 _ ⟨n_0 + 1, (Or.inr ⟨h_6, ⟨r_11, hr_12, (Or.inr ⟨h_13, ⟨r_17, hr_18, (Or.inl ⟨h_19, ⟨z_20, ez_20, q⟩⟩)⟩⟩)⟩⟩)⟩)))
      · skip
        refine k_aload_n X dX7_markBy_39 1 rfl ?_
        refine k_get (ci := 7) X inlX7 rfl 1 (by decide) dX7_markBy_40 mw91 0 rfl rfl ?_
        refine k_iload_n X dX7_markBy_43 0 rfl ?_
        refine k_iconst (v := 1) X dX7_markBy_44 (by decide) ?_
        refine k_callVI (n := 2) (As := [.int u_1, .int 1]) (st := []) X [(cO8_iiri xm 12 3 xmc xmn), (cAI g xmc 36 xmf)] [(cO7_vrvvii h0 v0h0 xm v2h0 v3h0 xmd xtr)] [1, 2] [0] (t_at l g xm u_1 1 12 3 xmc xmn 36 xmf (tbk_12_3)) dX7_markBy_45 mw388 mw376 mw377 mw64 mw378 rfl 8 rfl rfl 0 _ rfl yk_yX8_at_2 rfl (Nat.le_of_ble_eq_true rfl) (Nat.le_of_ble_eq_true rfl) (Nat.le_of_ble_eq_true rfl) (Nat.le_of_ble_eq_true rfl) (Nat.le_of_ble_eq_true rfl) rfl rfl (by decide) rfl (by decide) (by decide) ?_
        rintro r_23 w ⟨hr_24, rfl⟩
        refine k_ws [(cO7_vrvvii h0 v0h0 xm v2h0 v3h0 xmd xtr), (cO8_iiri xm 12 3 xmc xmn), (cAI g xmc 36 xmf)] rfl ?_
        exact k_iret X hr dX7_markBy_48 (Nat.le_of_ble_eq_true rfl) (Nat.le_of_ble_eq_true rfl) [0, 1, 2] (by decide) rfl rfl ⟨(KH_0 _ ⟨0 + 1, (Or.inr ⟨h_6, ⟨r_11, hr_12, (Or.inr ⟨h_13, ⟨r_17, hr_18, (Or.inr ⟨h_19, ⟨r_23, hr_24, rfl⟩⟩)⟩⟩)⟩⟩)⟩), rfl⟩


set_option maxHeartbeats 4000000 in
set_option maxRecDepth 100000 in
theorem s_clearX (l : Launch) (g : Gx) (h0 : Nat) (xr : Nat) (xm : Nat) (xw : Nat) (xp : Nat) (xmd : Int32) (xtr : Int32) (xrc : Nat) (xrn : Int32) (xrf : Nat → Int32) (xmc : Nat) (xmn : Int32) (xmf : Nat → Int32) (xwc : Nat) (xwn : Int32) (xwf : Nat → Int32) (xpc : Nat) (xpn : Int32) (xpf : Nat → Int32) : cV l g yX7_clear cX7_clear 1 1 20 0 0 [.ref h0] [(cO7_rrrrii h0 xr xm xw xp xmd xtr), (cO8_iiri xr 8 3 xrc xrn), (cAI g xrc 24 xrf), (cO8_iiri xm 12 3 xmc xmn), (cAI g xmc 36 xmf), (cO8_iiri xw 6 3 xwc xwn), (cAI g xwc 18 xwf), (cO8_iiri xp 8 2 xpc xpn), (cAI g xpc 16 xpf)] (fun w => ∃ (xrg : Nat → Int32) (xmg : Nat → Int32) (xwg : Nat → Int32) (xpg : Nat → Int32) (xrk : Int32) (xmk : Int32) (xwk : Int32) (xpk : Int32) (xmd2 : Int32) (xtr2 : Int32), (R_s_clearX xrf xmf xwf xpf xrg xmg xwg xpg xrk xmk xwk xpk xmd2 xtr2) ∧ w = [(cO7_rrrrii h0 xr xm xw xp xmd2 xtr2), (cO8_iiri xr 8 3 xrc xrk), (cAI g xrc 24 xrg), (cO8_iiri xm 12 3 xmc xmk), (cAI g xmc 36 xmg), (cO8_iiri xw 6 3 xwc xwk), (cAI g xwc 18 xwg), (cO8_iiri xp 8 2 xpc xpk), (cAI g xpc 16 xpg)]) := by
  refine cV.of (by decide) (Nat.le_of_ble_eq_true rfl) ?_
  intro p e s m args below meth c A X hr hi
  refine k_lveq [(0, .ref h0)] rfl ?_
  refine k_aload_n X dX7_clear_0 0 rfl ?_
  refine k_get (ci := 7) X inlX7 rfl 0 (by decide) dX7_clear_1 mw90 0 rfl rfl ?_
  refine k_callVV (n := 0) (As := []) (st := []) X [(cO8_iiri xr 8 3 xrc xrn)] [(cO7_rrrrii h0 xr xm xw xp xmd xtr), (cAI g xrc 24 xrf), (cO8_iiri xm 12 3 xmc xmn), (cAI g xmc 36 xmf), (cO8_iiri xw 6 3 xwc xwn), (cAI g xwc 18 xwf), (cO8_iiri xp 8 2 xpc xpn), (cAI g xpc 16 xpf)] [1] [0, 2, 3, 4, 5, 6, 7, 8] (t_clear l g xr (.int 8) (.int 3) (.ref xrc) xrn) dX7_clear_4 mw231 mw232 mw233 mw64 mw234 rfl 8 rfl rfl 0 _ rfl yk_yX8_clear_0 rfl (Nat.le_of_ble_eq_true rfl) (Nat.le_of_ble_eq_true rfl) (Nat.le_of_ble_eq_true rfl) (Nat.le_of_ble_eq_true rfl) (Nat.le_of_ble_eq_true rfl) rfl rfl (by decide) rfl (by decide) (by decide) ?_
  rintro w rfl
  refine k_ws [(cO7_rrrrii h0 xr xm xw xp xmd xtr), (cAI g xrc 24 xrf), (cO8_iiri xm 12 3 xmc xmn), (cAI g xmc 36 xmf), (cO8_iiri xw 6 3 xwc xwn), (cAI g xwc 18 xwf), (cO8_iiri xp 8 2 xpc xpn), (cAI g xpc 16 xpf), (cO8_iiri xr 8 3 xrc 0)] rfl ?_
  refine k_aload_n X dX7_clear_7 0 rfl ?_
  refine k_get (ci := 7) X inlX7 rfl 1 (by decide) dX7_clear_8 mw91 0 rfl rfl ?_
  refine k_callVV (n := 0) (As := []) (st := []) X [(cO8_iiri xm 12 3 xmc xmn)] [(cO7_rrrrii h0 xr xm xw xp xmd xtr), (cAI g xrc 24 xrf), (cAI g xmc 36 xmf), (cO8_iiri xw 6 3 xwc xwn), (cAI g xwc 18 xwf), (cO8_iiri xp 8 2 xpc xpn), (cAI g xpc 16 xpf), (cO8_iiri xr 8 3 xrc 0)] [2] [0, 1, 3, 4, 5, 6, 7, 8] (t_clear l g xm (.int 12) (.int 3) (.ref xmc) xmn) dX7_clear_11 mw231 mw232 mw233 mw64 mw234 rfl 8 rfl rfl 0 _ rfl yk_yX8_clear_0 rfl (Nat.le_of_ble_eq_true rfl) (Nat.le_of_ble_eq_true rfl) (Nat.le_of_ble_eq_true rfl) (Nat.le_of_ble_eq_true rfl) (Nat.le_of_ble_eq_true rfl) rfl rfl (by decide) rfl (by decide) (by decide) ?_
  rintro w rfl
  refine k_ws [(cO7_rrrrii h0 xr xm xw xp xmd xtr), (cAI g xrc 24 xrf), (cAI g xmc 36 xmf), (cO8_iiri xw 6 3 xwc xwn), (cAI g xwc 18 xwf), (cO8_iiri xp 8 2 xpc xpn), (cAI g xpc 16 xpf), (cO8_iiri xr 8 3 xrc 0), (cO8_iiri xm 12 3 xmc 0)] rfl ?_
  refine k_aload_n X dX7_clear_14 0 rfl ?_
  refine k_get (ci := 7) X inlX7 rfl 2 (by decide) dX7_clear_15 mw92 0 rfl rfl ?_
  refine k_callVV (n := 0) (As := []) (st := []) X [(cO8_iiri xw 6 3 xwc xwn)] [(cO7_rrrrii h0 xr xm xw xp xmd xtr), (cAI g xrc 24 xrf), (cAI g xmc 36 xmf), (cAI g xwc 18 xwf), (cO8_iiri xp 8 2 xpc xpn), (cAI g xpc 16 xpf), (cO8_iiri xr 8 3 xrc 0), (cO8_iiri xm 12 3 xmc 0)] [3] [0, 1, 2, 4, 5, 6, 7, 8] (t_clear l g xw (.int 6) (.int 3) (.ref xwc) xwn) dX7_clear_18 mw231 mw232 mw233 mw64 mw234 rfl 8 rfl rfl 0 _ rfl yk_yX8_clear_0 rfl (Nat.le_of_ble_eq_true rfl) (Nat.le_of_ble_eq_true rfl) (Nat.le_of_ble_eq_true rfl) (Nat.le_of_ble_eq_true rfl) (Nat.le_of_ble_eq_true rfl) rfl rfl (by decide) rfl (by decide) (by decide) ?_
  rintro w rfl
  refine k_ws [(cO7_rrrrii h0 xr xm xw xp xmd xtr), (cAI g xrc 24 xrf), (cAI g xmc 36 xmf), (cAI g xwc 18 xwf), (cO8_iiri xp 8 2 xpc xpn), (cAI g xpc 16 xpf), (cO8_iiri xr 8 3 xrc 0), (cO8_iiri xm 12 3 xmc 0), (cO8_iiri xw 6 3 xwc 0)] rfl ?_
  refine k_aload_n X dX7_clear_21 0 rfl ?_
  refine k_get (ci := 7) X inlX7 rfl 3 (by decide) dX7_clear_22 mw93 0 rfl rfl ?_
  refine k_callVV (n := 0) (As := []) (st := []) X [(cO8_iiri xp 8 2 xpc xpn)] [(cO7_rrrrii h0 xr xm xw xp xmd xtr), (cAI g xrc 24 xrf), (cAI g xmc 36 xmf), (cAI g xwc 18 xwf), (cAI g xpc 16 xpf), (cO8_iiri xr 8 3 xrc 0), (cO8_iiri xm 12 3 xmc 0), (cO8_iiri xw 6 3 xwc 0)] [4] [0, 1, 2, 3, 5, 6, 7, 8] (t_clear l g xp (.int 8) (.int 2) (.ref xpc) xpn) dX7_clear_25 mw231 mw232 mw233 mw64 mw234 rfl 8 rfl rfl 0 _ rfl yk_yX8_clear_0 rfl (Nat.le_of_ble_eq_true rfl) (Nat.le_of_ble_eq_true rfl) (Nat.le_of_ble_eq_true rfl) (Nat.le_of_ble_eq_true rfl) (Nat.le_of_ble_eq_true rfl) rfl rfl (by decide) rfl (by decide) (by decide) ?_
  rintro w rfl
  refine k_ws [(cO7_rrrrii h0 xr xm xw xp xmd xtr), (cAI g xrc 24 xrf), (cAI g xmc 36 xmf), (cAI g xwc 18 xwf), (cAI g xpc 16 xpf), (cO8_iiri xr 8 3 xrc 0), (cO8_iiri xm 12 3 xmc 0), (cO8_iiri xw 6 3 xwc 0), (cO8_iiri xp 8 2 xpc 0)] rfl ?_
  refine k_aload_n X dX7_clear_28 0 rfl ?_
  refine k_iconst (v := 0) X dX7_clear_29 (by decide) ?_
  refine k_put (ci := 7) [(cO7_rrrrii h0 xr xm xw xp 0 xtr), (cAI g xrc 24 xrf), (cAI g xmc 36 xmf), (cAI g xwc 18 xwf), (cAI g xpc 16 xpf), (cO8_iiri xr 8 3 xrc 0), (cO8_iiri xm 12 3 xmc 0), (cO8_iiri xw 6 3 xwc 0), (cO8_iiri xp 8 2 xpc 0)] X inlX7 rfl tyX7_ok nmX7 4 (by decide) rfl dX7_clear_30 mw94 0 rfl rfl rfl (Nat.le_of_ble_eq_true rfl) rfl ?_
  refine k_aload_n X dX7_clear_33 0 rfl ?_
  refine k_iconst (v := 0) X dX7_clear_34 (by decide) ?_
  refine k_put (ci := 7) [(cO7_rrrrii h0 xr xm xw xp 0 0), (cAI g xrc 24 xrf), (cAI g xmc 36 xmf), (cAI g xwc 18 xwf), (cAI g xpc 16 xpf), (cO8_iiri xr 8 3 xrc 0), (cO8_iiri xm 12 3 xmc 0), (cO8_iiri xw 6 3 xwc 0), (cO8_iiri xp 8 2 xpc 0)] X inlX7 rfl tyX7_ok nmX7 5 (by decide) rfl dX7_clear_35 mw95 0 rfl rfl rfl (Nat.le_of_ble_eq_true rfl) rfl ?_
  exact k_vret X hr dX7_clear_38 (Nat.le_of_ble_eq_true rfl) (Nat.le_of_ble_eq_true rfl) [0, 5, 1, 6, 2, 7, 3, 8, 4] (by decide) rfl rfl ⟨xrf, xmf, xwf, xpf, 0, 0, 0, 0, 0, 0, ⟨rfl, rfl, rfl, rfl, rfl, rfl, rfl, rfl, rfl, rfl⟩, rfl⟩


set_option maxHeartbeats 4000000 in
set_option maxRecDepth 100000 in
theorem h_clearX (l : Launch) (g : Gx) (h0 : Nat) (xs : Nat) (xhn : Nat) (xht : Nat) (xhj : Nat) (xhm : Nat) (xhb : Nat) (xhs : Nat) (xhc : Nat) (xr : Nat) (xm : Nat) (xw : Nat) (xp : Nat) (xmd : Int32) (xtr : Int32) (xrc : Nat) (xrn : Int32) (xrf : Nat → Int32) (xmc : Nat) (xmn : Int32) (xmf : Nat → Int32) (xwc : Nat) (xwn : Int32) (xwf : Nat → Int32) (xpc : Nat) (xpn : Int32) (xpf : Nat → Int32) (xhnc : Nat) (xhnn : Int32) (xhnf : Nat → Int32) (xhtc : Nat) (xhtn : Int32) (xhtf : Nat → Int32) (xhjc : Nat) (xhjn : Int32) (xhjf : Nat → Int32) (xhmc : Nat) (xhmn : Int32) (xhmf : Nat → Int32) (xhbc : Nat) (xhbn : Int32) (xhbf : Nat → Int32) (xhsc : Nat) (xhsn : Int32) (xhsf : Nat → Int32) (xhcc : Nat) (xhcn : Int32) (xhcf : Nat → Int32) : cV l g yX3_clear cX3_clear 1 2 40 0 0 [.ref h0] ((cO3_rrrrrrrr h0 xs xhn xht xhj xhm xhb xhs xhc) :: (cO7_rrrrii xs xr xm xw xp xmd xtr) :: (cO8_iiri xr 8 3 xrc xrn) :: (cAI g xrc 24 xrf) :: (cO8_iiri xm 12 3 xmc xmn) :: (cAI g xmc 36 xmf) :: (cO8_iiri xw 6 3 xwc xwn) :: (cAI g xwc 18 xwf) :: (cO8_iiri xp 8 2 xpc xpn) :: (cAI g xpc 16 xpf) :: (cO8_iiri xhn 1 6 xhnc xhnn) :: (cAI g xhnc 6 xhnf) :: (cO8_iiri xht 4 1 xhtc xhtn) :: (cAI g xhtc 4 xhtf) :: (cO8_iiri xhj 8 2 xhjc xhjn) :: (cAI g xhjc 16 xhjf) :: (cO8_iiri xhm 4 3 xhmc xhmn) :: (cAI g xhmc 12 xhmf) :: (cO8_iiri xhb 1 3 xhbc xhbn) :: (cAI g xhbc 3 xhbf) :: (cO8_iiri xhs 6 3 xhsc xhsn) :: (cAI g xhsc 18 xhsf) :: (cO8_iiri xhc 6 2 xhcc xhcn) :: (cAI g xhcc 12 xhcf) :: []) (fun w => ∃ (xrg : Nat → Int32) (xmg : Nat → Int32) (xwg : Nat → Int32) (xpg : Nat → Int32) (xrk : Int32) (xmk : Int32) (xwk : Int32) (xpk : Int32) (xmd2 : Int32) (xtr2 : Int32) (xhng : Nat → Int32) (xhtg : Nat → Int32) (xhjg : Nat → Int32) (xhmg : Nat → Int32) (xhbg : Nat → Int32) (xhsg : Nat → Int32) (xhcg : Nat → Int32) (xhnk : Int32) (xhtk : Int32) (xhjk : Int32) (xhmk : Int32) (xhbk : Int32) (xhsk : Int32) (xhck : Int32), (R_h_clearX xrf xmf xwf xpf xhnf xhtf xhjf xhmf xhbf xhsf xhcf xrg xmg xwg xpg xrk xmk xwk xpk xmd2 xtr2 xhng xhtg xhjg xhmg xhbg xhsg xhcg xhnk xhtk xhjk xhmk xhbk xhsk xhck) ∧ w = ((cO3_rrrrrrrr h0 xs xhn xht xhj xhm xhb xhs xhc) :: (cO7_rrrrii xs xr xm xw xp xmd2 xtr2) :: (cO8_iiri xr 8 3 xrc xrk) :: (cAI g xrc 24 xrg) :: (cO8_iiri xm 12 3 xmc xmk) :: (cAI g xmc 36 xmg) :: (cO8_iiri xw 6 3 xwc xwk) :: (cAI g xwc 18 xwg) :: (cO8_iiri xp 8 2 xpc xpk) :: (cAI g xpc 16 xpg) :: (cO8_iiri xhn 1 6 xhnc xhnk) :: (cAI g xhnc 6 xhng) :: (cO8_iiri xht 4 1 xhtc xhtk) :: (cAI g xhtc 4 xhtg) :: (cO8_iiri xhj 8 2 xhjc xhjk) :: (cAI g xhjc 16 xhjg) :: (cO8_iiri xhm 4 3 xhmc xhmk) :: (cAI g xhmc 12 xhmg) :: (cO8_iiri xhb 1 3 xhbc xhbk) :: (cAI g xhbc 3 xhbg) :: (cO8_iiri xhs 6 3 xhsc xhsk) :: (cAI g xhsc 18 xhsg) :: (cO8_iiri xhc 6 2 xhcc xhck) :: (cAI g xhcc 12 xhcg) :: [])) := by
  refine cV.of (by decide) (Nat.le_of_ble_eq_true rfl) ?_
  intro p e s m args below meth c A X hr hi
  refine k_lveq [(0, .ref h0)] rfl ?_
  refine k_aload_n X dX3_clear_0 0 rfl ?_
  refine k_get (ci := 3) X inlX3 rfl 0 (by decide) dX3_clear_1 mw77 0 rfl rfl ?_
  refine k_callVV (n := 0) (As := []) (st := []) X [(cO7_rrrrii xs xr xm xw xp xmd xtr), (cO8_iiri xr 8 3 xrc xrn), (cAI g xrc 24 xrf), (cO8_iiri xm 12 3 xmc xmn), (cAI g xmc 36 xmf), (cO8_iiri xw 6 3 xwc xwn), (cAI g xwc 18 xwf), (cO8_iiri xp 8 2 xpc xpn), (cAI g xpc 16 xpf)] [(cO3_rrrrrrrr h0 xs xhn xht xhj xhm xhb xhs xhc), (cO8_iiri xhn 1 6 xhnc xhnn), (cAI g xhnc 6 xhnf), (cO8_iiri xht 4 1 xhtc xhtn), (cAI g xhtc 4 xhtf), (cO8_iiri xhj 8 2 xhjc xhjn), (cAI g xhjc 16 xhjf), (cO8_iiri xhm 4 3 xhmc xhmn), (cAI g xhmc 12 xhmf), (cO8_iiri xhb 1 3 xhbc xhbn), (cAI g xhbc 3 xhbf), (cO8_iiri xhs 6 3 xhsc xhsn), (cAI g xhsc 18 xhsf), (cO8_iiri xhc 6 2 xhcc xhcn), (cAI g xhcc 12 xhcf)] [1, 2, 3, 4, 5, 6, 7, 8, 9] [0, 10, 11, 12, 13, 14, 15, 16, 17, 18, 19, 20, 21, 22, 23] (s_clearX l g xs xr xm xw xp xmd xtr xrc xrn xrf xmc xmn xmf xwc xwn xwf xpc xpn xpf) dX3_clear_4 mw227 mw228 mw229 mw23 mw230 rfl 7 rfl rfl 0 _ rfl yk_yX7_clear_0 rfl (Nat.le_of_ble_eq_true rfl) (Nat.le_of_ble_eq_true rfl) (Nat.le_of_ble_eq_true rfl) (Nat.le_of_ble_eq_true rfl) (Nat.le_of_ble_eq_true rfl) rfl rfl (by decide +kernel) rfl (by decide +kernel) (by decide +kernel) ?_
  intro w zq
  refine exE10 zq ?_
  clear zq
  intro xrg_1 xmg_2 xwg_3 xpg_4 xrk_5 xmk_6 xwk_7 xpk_8 xmd2_9 xtr2_10 hq_12 zq
  subst zq
  refine k_ws ((cO3_rrrrrrrr h0 xs xhn xht xhj xhm xhb xhs xhc) :: (cO8_iiri xhn 1 6 xhnc xhnn) :: (cAI g xhnc 6 xhnf) :: (cO8_iiri xht 4 1 xhtc xhtn) :: (cAI g xhtc 4 xhtf) :: (cO8_iiri xhj 8 2 xhjc xhjn) :: (cAI g xhjc 16 xhjf) :: (cO8_iiri xhm 4 3 xhmc xhmn) :: (cAI g xhmc 12 xhmf) :: (cO8_iiri xhb 1 3 xhbc xhbn) :: (cAI g xhbc 3 xhbf) :: (cO8_iiri xhs 6 3 xhsc xhsn) :: (cAI g xhsc 18 xhsf) :: (cO8_iiri xhc 6 2 xhcc xhcn) :: (cAI g xhcc 12 xhcf) :: (cO7_rrrrii xs xr xm xw xp xmd2_9 xtr2_10) :: (cO8_iiri xr 8 3 xrc xrk_5) :: (cAI g xrc 24 xrg_1) :: (cO8_iiri xm 12 3 xmc xmk_6) :: (cAI g xmc 36 xmg_2) :: (cO8_iiri xw 6 3 xwc xwk_7) :: (cAI g xwc 18 xwg_3) :: (cO8_iiri xp 8 2 xpc xpk_8) :: (cAI g xpc 16 xpg_4) :: []) rfl ?_
  refine k_aload_n X dX3_clear_7 0 rfl ?_
  refine k_get (ci := 3) X inlX3 rfl 1 (by decide) dX3_clear_8 mw79 0 rfl rfl ?_
  refine k_callVV (n := 0) (As := []) (st := []) X [(cO8_iiri xhn 1 6 xhnc xhnn)] ((cO3_rrrrrrrr h0 xs xhn xht xhj xhm xhb xhs xhc) :: (cAI g xhnc 6 xhnf) :: (cO8_iiri xht 4 1 xhtc xhtn) :: (cAI g xhtc 4 xhtf) :: (cO8_iiri xhj 8 2 xhjc xhjn) :: (cAI g xhjc 16 xhjf) :: (cO8_iiri xhm 4 3 xhmc xhmn) :: (cAI g xhmc 12 xhmf) :: (cO8_iiri xhb 1 3 xhbc xhbn) :: (cAI g xhbc 3 xhbf) :: (cO8_iiri xhs 6 3 xhsc xhsn) :: (cAI g xhsc 18 xhsf) :: (cO8_iiri xhc 6 2 xhcc xhcn) :: (cAI g xhcc 12 xhcf) :: (cO7_rrrrii xs xr xm xw xp xmd2_9 xtr2_10) :: (cO8_iiri xr 8 3 xrc xrk_5) :: (cAI g xrc 24 xrg_1) :: (cO8_iiri xm 12 3 xmc xmk_6) :: (cAI g xmc 36 xmg_2) :: (cO8_iiri xw 6 3 xwc xwk_7) :: (cAI g xwc 18 xwg_3) :: (cO8_iiri xp 8 2 xpc xpk_8) :: (cAI g xpc 16 xpg_4) :: []) [1] [0, 2, 3, 4, 5, 6, 7, 8, 9, 10, 11, 12, 13, 14, 15, 16, 17, 18, 19, 20, 21, 22, 23] (t_clear l g xhn (.int 1) (.int 6) (.ref xhnc) xhnn) dX3_clear_11 mw235 mw232 mw233 mw64 mw234 rfl 8 rfl rfl 0 _ rfl yk_yX8_clear_0 rfl (Nat.le_of_ble_eq_true rfl) (Nat.le_of_ble_eq_true rfl) (Nat.le_of_ble_eq_true rfl) (Nat.le_of_ble_eq_true rfl) (Nat.le_of_ble_eq_true rfl) rfl rfl (by decide) rfl (by decide) (by decide) ?_
  rintro w rfl
  refine k_ws ((cO3_rrrrrrrr h0 xs xhn xht xhj xhm xhb xhs xhc) :: (cAI g xhnc 6 xhnf) :: (cO8_iiri xht 4 1 xhtc xhtn) :: (cAI g xhtc 4 xhtf) :: (cO8_iiri xhj 8 2 xhjc xhjn) :: (cAI g xhjc 16 xhjf) :: (cO8_iiri xhm 4 3 xhmc xhmn) :: (cAI g xhmc 12 xhmf) :: (cO8_iiri xhb 1 3 xhbc xhbn) :: (cAI g xhbc 3 xhbf) :: (cO8_iiri xhs 6 3 xhsc xhsn) :: (cAI g xhsc 18 xhsf) :: (cO8_iiri xhc 6 2 xhcc xhcn) :: (cAI g xhcc 12 xhcf) :: (cO7_rrrrii xs xr xm xw xp xmd2_9 xtr2_10) :: (cO8_iiri xr 8 3 xrc xrk_5) :: (cAI g xrc 24 xrg_1) :: (cO8_iiri xm 12 3 xmc xmk_6) :: (cAI g xmc 36 xmg_2) :: (cO8_iiri xw 6 3 xwc xwk_7) :: (cAI g xwc 18 xwg_3) :: (cO8_iiri xp 8 2 xpc xpk_8) :: (cAI g xpc 16 xpg_4) :: (cO8_iiri xhn 1 6 xhnc 0) :: []) rfl ?_
  refine k_aload_n X dX3_clear_14 0 rfl ?_
  refine k_get (ci := 3) X inlX3 rfl 2 (by decide) dX3_clear_15 mw80 0 rfl rfl ?_
  refine k_callVV (n := 0) (As := []) (st := []) X [(cO8_iiri xht 4 1 xhtc xhtn)] ((cO3_rrrrrrrr h0 xs xhn xht xhj xhm xhb xhs xhc) :: (cAI g xhnc 6 xhnf) :: (cAI g xhtc 4 xhtf) :: (cO8_iiri xhj 8 2 xhjc xhjn) :: (cAI g xhjc 16 xhjf) :: (cO8_iiri xhm 4 3 xhmc xhmn) :: (cAI g xhmc 12 xhmf) :: (cO8_iiri xhb 1 3 xhbc xhbn) :: (cAI g xhbc 3 xhbf) :: (cO8_iiri xhs 6 3 xhsc xhsn) :: (cAI g xhsc 18 xhsf) :: (cO8_iiri xhc 6 2 xhcc xhcn) :: (cAI g xhcc 12 xhcf) :: (cO7_rrrrii xs xr xm xw xp xmd2_9 xtr2_10) :: (cO8_iiri xr 8 3 xrc xrk_5) :: (cAI g xrc 24 xrg_1) :: (cO8_iiri xm 12 3 xmc xmk_6) :: (cAI g xmc 36 xmg_2) :: (cO8_iiri xw 6 3 xwc xwk_7) :: (cAI g xwc 18 xwg_3) :: (cO8_iiri xp 8 2 xpc xpk_8) :: (cAI g xpc 16 xpg_4) :: (cO8_iiri xhn 1 6 xhnc 0) :: []) [2] [0, 1, 3, 4, 5, 6, 7, 8, 9, 10, 11, 12, 13, 14, 15, 16, 17, 18, 19, 20, 21, 22, 23] (t_clear l g xht (.int 4) (.int 1) (.ref xhtc) xhtn) dX3_clear_18 mw235 mw232 mw233 mw64 mw234 rfl 8 rfl rfl 0 _ rfl yk_yX8_clear_0 rfl (Nat.le_of_ble_eq_true rfl) (Nat.le_of_ble_eq_true rfl) (Nat.le_of_ble_eq_true rfl) (Nat.le_of_ble_eq_true rfl) (Nat.le_of_ble_eq_true rfl) rfl rfl (by decide) rfl (by decide) (by decide) ?_
  rintro w rfl
  refine k_ws ((cO3_rrrrrrrr h0 xs xhn xht xhj xhm xhb xhs xhc) :: (cAI g xhnc 6 xhnf) :: (cAI g xhtc 4 xhtf) :: (cO8_iiri xhj 8 2 xhjc xhjn) :: (cAI g xhjc 16 xhjf) :: (cO8_iiri xhm 4 3 xhmc xhmn) :: (cAI g xhmc 12 xhmf) :: (cO8_iiri xhb 1 3 xhbc xhbn) :: (cAI g xhbc 3 xhbf) :: (cO8_iiri xhs 6 3 xhsc xhsn) :: (cAI g xhsc 18 xhsf) :: (cO8_iiri xhc 6 2 xhcc xhcn) :: (cAI g xhcc 12 xhcf) :: (cO7_rrrrii xs xr xm xw xp xmd2_9 xtr2_10) :: (cO8_iiri xr 8 3 xrc xrk_5) :: (cAI g xrc 24 xrg_1) :: (cO8_iiri xm 12 3 xmc xmk_6) :: (cAI g xmc 36 xmg_2) :: (cO8_iiri xw 6 3 xwc xwk_7) :: (cAI g xwc 18 xwg_3) :: (cO8_iiri xp 8 2 xpc xpk_8) :: (cAI g xpc 16 xpg_4) :: (cO8_iiri xhn 1 6 xhnc 0) :: (cO8_iiri xht 4 1 xhtc 0) :: []) rfl ?_
  refine k_aload_n X dX3_clear_21 0 rfl ?_
  refine k_get (ci := 3) X inlX3 rfl 3 (by decide) dX3_clear_22 mw81 0 rfl rfl ?_
  refine k_callVV (n := 0) (As := []) (st := []) X [(cO8_iiri xhj 8 2 xhjc xhjn)] ((cO3_rrrrrrrr h0 xs xhn xht xhj xhm xhb xhs xhc) :: (cAI g xhnc 6 xhnf) :: (cAI g xhtc 4 xhtf) :: (cAI g xhjc 16 xhjf) :: (cO8_iiri xhm 4 3 xhmc xhmn) :: (cAI g xhmc 12 xhmf) :: (cO8_iiri xhb 1 3 xhbc xhbn) :: (cAI g xhbc 3 xhbf) :: (cO8_iiri xhs 6 3 xhsc xhsn) :: (cAI g xhsc 18 xhsf) :: (cO8_iiri xhc 6 2 xhcc xhcn) :: (cAI g xhcc 12 xhcf) :: (cO7_rrrrii xs xr xm xw xp xmd2_9 xtr2_10) :: (cO8_iiri xr 8 3 xrc xrk_5) :: (cAI g xrc 24 xrg_1) :: (cO8_iiri xm 12 3 xmc xmk_6) :: (cAI g xmc 36 xmg_2) :: (cO8_iiri xw 6 3 xwc xwk_7) :: (cAI g xwc 18 xwg_3) :: (cO8_iiri xp 8 2 xpc xpk_8) :: (cAI g xpc 16 xpg_4) :: (cO8_iiri xhn 1 6 xhnc 0) :: (cO8_iiri xht 4 1 xhtc 0) :: []) [3] [0, 1, 2, 4, 5, 6, 7, 8, 9, 10, 11, 12, 13, 14, 15, 16, 17, 18, 19, 20, 21, 22, 23] (t_clear l g xhj (.int 8) (.int 2) (.ref xhjc) xhjn) dX3_clear_25 mw235 mw232 mw233 mw64 mw234 rfl 8 rfl rfl 0 _ rfl yk_yX8_clear_0 rfl (Nat.le_of_ble_eq_true rfl) (Nat.le_of_ble_eq_true rfl) (Nat.le_of_ble_eq_true rfl) (Nat.le_of_ble_eq_true rfl) (Nat.le_of_ble_eq_true rfl) rfl rfl (by decide) rfl (by decide) (by decide) ?_
  rintro w rfl
  refine k_ws ((cO3_rrrrrrrr h0 xs xhn xht xhj xhm xhb xhs xhc) :: (cAI g xhnc 6 xhnf) :: (cAI g xhtc 4 xhtf) :: (cAI g xhjc 16 xhjf) :: (cO8_iiri xhm 4 3 xhmc xhmn) :: (cAI g xhmc 12 xhmf) :: (cO8_iiri xhb 1 3 xhbc xhbn) :: (cAI g xhbc 3 xhbf) :: (cO8_iiri xhs 6 3 xhsc xhsn) :: (cAI g xhsc 18 xhsf) :: (cO8_iiri xhc 6 2 xhcc xhcn) :: (cAI g xhcc 12 xhcf) :: (cO7_rrrrii xs xr xm xw xp xmd2_9 xtr2_10) :: (cO8_iiri xr 8 3 xrc xrk_5) :: (cAI g xrc 24 xrg_1) :: (cO8_iiri xm 12 3 xmc xmk_6) :: (cAI g xmc 36 xmg_2) :: (cO8_iiri xw 6 3 xwc xwk_7) :: (cAI g xwc 18 xwg_3) :: (cO8_iiri xp 8 2 xpc xpk_8) :: (cAI g xpc 16 xpg_4) :: (cO8_iiri xhn 1 6 xhnc 0) :: (cO8_iiri xht 4 1 xhtc 0) :: (cO8_iiri xhj 8 2 xhjc 0) :: []) rfl ?_
  refine k_aload_n X dX3_clear_28 0 rfl ?_
  refine k_get (ci := 3) X inlX3 rfl 4 (by decide) dX3_clear_29 mw82 0 rfl rfl ?_
  refine k_callVV (n := 0) (As := []) (st := []) X [(cO8_iiri xhm 4 3 xhmc xhmn)] ((cO3_rrrrrrrr h0 xs xhn xht xhj xhm xhb xhs xhc) :: (cAI g xhnc 6 xhnf) :: (cAI g xhtc 4 xhtf) :: (cAI g xhjc 16 xhjf) :: (cAI g xhmc 12 xhmf) :: (cO8_iiri xhb 1 3 xhbc xhbn) :: (cAI g xhbc 3 xhbf) :: (cO8_iiri xhs 6 3 xhsc xhsn) :: (cAI g xhsc 18 xhsf) :: (cO8_iiri xhc 6 2 xhcc xhcn) :: (cAI g xhcc 12 xhcf) :: (cO7_rrrrii xs xr xm xw xp xmd2_9 xtr2_10) :: (cO8_iiri xr 8 3 xrc xrk_5) :: (cAI g xrc 24 xrg_1) :: (cO8_iiri xm 12 3 xmc xmk_6) :: (cAI g xmc 36 xmg_2) :: (cO8_iiri xw 6 3 xwc xwk_7) :: (cAI g xwc 18 xwg_3) :: (cO8_iiri xp 8 2 xpc xpk_8) :: (cAI g xpc 16 xpg_4) :: (cO8_iiri xhn 1 6 xhnc 0) :: (cO8_iiri xht 4 1 xhtc 0) :: (cO8_iiri xhj 8 2 xhjc 0) :: []) [4] [0, 1, 2, 3, 5, 6, 7, 8, 9, 10, 11, 12, 13, 14, 15, 16, 17, 18, 19, 20, 21, 22, 23] (t_clear l g xhm (.int 4) (.int 3) (.ref xhmc) xhmn) dX3_clear_32 mw235 mw232 mw233 mw64 mw234 rfl 8 rfl rfl 0 _ rfl yk_yX8_clear_0 rfl (Nat.le_of_ble_eq_true rfl) (Nat.le_of_ble_eq_true rfl) (Nat.le_of_ble_eq_true rfl) (Nat.le_of_ble_eq_true rfl) (Nat.le_of_ble_eq_true rfl) rfl rfl (by decide) rfl (by decide) (by decide) ?_
  rintro w rfl
  refine k_ws ((cO3_rrrrrrrr h0 xs xhn xht xhj xhm xhb xhs xhc) :: (cAI g xhnc 6 xhnf) :: (cAI g xhtc 4 xhtf) :: (cAI g xhjc 16 xhjf) :: (cAI g xhmc 12 xhmf) :: (cO8_iiri xhb 1 3 xhbc xhbn) :: (cAI g xhbc 3 xhbf) :: (cO8_iiri xhs 6 3 xhsc xhsn) :: (cAI g xhsc 18 xhsf) :: (cO8_iiri xhc 6 2 xhcc xhcn) :: (cAI g xhcc 12 xhcf) :: (cO7_rrrrii xs xr xm xw xp xmd2_9 xtr2_10) :: (cO8_iiri xr 8 3 xrc xrk_5) :: (cAI g xrc 24 xrg_1) :: (cO8_iiri xm 12 3 xmc xmk_6) :: (cAI g xmc 36 xmg_2) :: (cO8_iiri xw 6 3 xwc xwk_7) :: (cAI g xwc 18 xwg_3) :: (cO8_iiri xp 8 2 xpc xpk_8) :: (cAI g xpc 16 xpg_4) :: (cO8_iiri xhn 1 6 xhnc 0) :: (cO8_iiri xht 4 1 xhtc 0) :: (cO8_iiri xhj 8 2 xhjc 0) :: (cO8_iiri xhm 4 3 xhmc 0) :: []) rfl ?_
  refine k_aload_n X dX3_clear_35 0 rfl ?_
  refine k_get (ci := 3) X inlX3 rfl 5 (by decide) dX3_clear_36 mw83 0 rfl rfl ?_
  refine k_callVV (n := 0) (As := []) (st := []) X [(cO8_iiri xhb 1 3 xhbc xhbn)] ((cO3_rrrrrrrr h0 xs xhn xht xhj xhm xhb xhs xhc) :: (cAI g xhnc 6 xhnf) :: (cAI g xhtc 4 xhtf) :: (cAI g xhjc 16 xhjf) :: (cAI g xhmc 12 xhmf) :: (cAI g xhbc 3 xhbf) :: (cO8_iiri xhs 6 3 xhsc xhsn) :: (cAI g xhsc 18 xhsf) :: (cO8_iiri xhc 6 2 xhcc xhcn) :: (cAI g xhcc 12 xhcf) :: (cO7_rrrrii xs xr xm xw xp xmd2_9 xtr2_10) :: (cO8_iiri xr 8 3 xrc xrk_5) :: (cAI g xrc 24 xrg_1) :: (cO8_iiri xm 12 3 xmc xmk_6) :: (cAI g xmc 36 xmg_2) :: (cO8_iiri xw 6 3 xwc xwk_7) :: (cAI g xwc 18 xwg_3) :: (cO8_iiri xp 8 2 xpc xpk_8) :: (cAI g xpc 16 xpg_4) :: (cO8_iiri xhn 1 6 xhnc 0) :: (cO8_iiri xht 4 1 xhtc 0) :: (cO8_iiri xhj 8 2 xhjc 0) :: (cO8_iiri xhm 4 3 xhmc 0) :: []) [5] [0, 1, 2, 3, 4, 6, 7, 8, 9, 10, 11, 12, 13, 14, 15, 16, 17, 18, 19, 20, 21, 22, 23] (t_clear l g xhb (.int 1) (.int 3) (.ref xhbc) xhbn) dX3_clear_39 mw235 mw232 mw233 mw64 mw234 rfl 8 rfl rfl 0 _ rfl yk_yX8_clear_0 rfl (Nat.le_of_ble_eq_true rfl) (Nat.le_of_ble_eq_true rfl) (Nat.le_of_ble_eq_true rfl) (Nat.le_of_ble_eq_true rfl) (Nat.le_of_ble_eq_true rfl) rfl rfl (by decide) rfl (by decide) (by decide) ?_
  rintro w rfl
  refine k_ws ((cO3_rrrrrrrr h0 xs xhn xht xhj xhm xhb xhs xhc) :: (cAI g xhnc 6 xhnf) :: (cAI g xhtc 4 xhtf) :: (cAI g xhjc 16 xhjf) :: (cAI g xhmc 12 xhmf) :: (cAI g xhbc 3 xhbf) :: (cO8_iiri xhs 6 3 xhsc xhsn) :: (cAI g xhsc 18 xhsf) :: (cO8_iiri xhc 6 2 xhcc xhcn) :: (cAI g xhcc 12 xhcf) :: (cO7_rrrrii xs xr xm xw xp xmd2_9 xtr2_10) :: (cO8_iiri xr 8 3 xrc xrk_5) :: (cAI g xrc 24 xrg_1) :: (cO8_iiri xm 12 3 xmc xmk_6) :: (cAI g xmc 36 xmg_2) :: (cO8_iiri xw 6 3 xwc xwk_7) :: (cAI g xwc 18 xwg_3) :: (cO8_iiri xp 8 2 xpc xpk_8) :: (cAI g xpc 16 xpg_4) :: (cO8_iiri xhn 1 6 xhnc 0) :: (cO8_iiri xht 4 1 xhtc 0) :: (cO8_iiri xhj 8 2 xhjc 0) :: (cO8_iiri xhm 4 3 xhmc 0) :: (cO8_iiri xhb 1 3 xhbc 0) :: []) rfl ?_
  refine k_aload_n X dX3_clear_42 0 rfl ?_
  refine k_get (ci := 3) X inlX3 rfl 6 (by decide) dX3_clear_43 mw84 0 rfl rfl ?_
  refine k_callVV (n := 0) (As := []) (st := []) X [(cO8_iiri xhs 6 3 xhsc xhsn)] ((cO3_rrrrrrrr h0 xs xhn xht xhj xhm xhb xhs xhc) :: (cAI g xhnc 6 xhnf) :: (cAI g xhtc 4 xhtf) :: (cAI g xhjc 16 xhjf) :: (cAI g xhmc 12 xhmf) :: (cAI g xhbc 3 xhbf) :: (cAI g xhsc 18 xhsf) :: (cO8_iiri xhc 6 2 xhcc xhcn) :: (cAI g xhcc 12 xhcf) :: (cO7_rrrrii xs xr xm xw xp xmd2_9 xtr2_10) :: (cO8_iiri xr 8 3 xrc xrk_5) :: (cAI g xrc 24 xrg_1) :: (cO8_iiri xm 12 3 xmc xmk_6) :: (cAI g xmc 36 xmg_2) :: (cO8_iiri xw 6 3 xwc xwk_7) :: (cAI g xwc 18 xwg_3) :: (cO8_iiri xp 8 2 xpc xpk_8) :: (cAI g xpc 16 xpg_4) :: (cO8_iiri xhn 1 6 xhnc 0) :: (cO8_iiri xht 4 1 xhtc 0) :: (cO8_iiri xhj 8 2 xhjc 0) :: (cO8_iiri xhm 4 3 xhmc 0) :: (cO8_iiri xhb 1 3 xhbc 0) :: []) [6] [0, 1, 2, 3, 4, 5, 7, 8, 9, 10, 11, 12, 13, 14, 15, 16, 17, 18, 19, 20, 21, 22, 23] (t_clear l g xhs (.int 6) (.int 3) (.ref xhsc) xhsn) dX3_clear_46 mw235 mw232 mw233 mw64 mw234 rfl 8 rfl rfl 0 _ rfl yk_yX8_clear_0 rfl (Nat.le_of_ble_eq_true rfl) (Nat.le_of_ble_eq_true rfl) (Nat.le_of_ble_eq_true rfl) (Nat.le_of_ble_eq_true rfl) (Nat.le_of_ble_eq_true rfl) rfl rfl (by decide) rfl (by decide) (by decide) ?_
  rintro w rfl
  refine k_ws ((cO3_rrrrrrrr h0 xs xhn xht xhj xhm xhb xhs xhc) :: (cAI g xhnc 6 xhnf) :: (cAI g xhtc 4 xhtf) :: (cAI g xhjc 16 xhjf) :: (cAI g xhmc 12 xhmf) :: (cAI g xhbc 3 xhbf) :: (cAI g xhsc 18 xhsf) :: (cO8_iiri xhc 6 2 xhcc xhcn) :: (cAI g xhcc 12 xhcf) :: (cO7_rrrrii xs xr xm xw xp xmd2_9 xtr2_10) :: (cO8_iiri xr 8 3 xrc xrk_5) :: (cAI g xrc 24 xrg_1) :: (cO8_iiri xm 12 3 xmc xmk_6) :: (cAI g xmc 36 xmg_2) :: (cO8_iiri xw 6 3 xwc xwk_7) :: (cAI g xwc 18 xwg_3) :: (cO8_iiri xp 8 2 xpc xpk_8) :: (cAI g xpc 16 xpg_4) :: (cO8_iiri xhn 1 6 xhnc 0) :: (cO8_iiri xht 4 1 xhtc 0) :: (cO8_iiri xhj 8 2 xhjc 0) :: (cO8_iiri xhm 4 3 xhmc 0) :: (cO8_iiri xhb 1 3 xhbc 0) :: (cO8_iiri xhs 6 3 xhsc 0) :: []) rfl ?_
  refine k_aload_n X dX3_clear_49 0 rfl ?_
  refine k_get (ci := 3) X inlX3 rfl 7 (by decide) dX3_clear_50 mw85 0 rfl rfl ?_
  refine k_callVV (n := 0) (As := []) (st := []) X [(cO8_iiri xhc 6 2 xhcc xhcn)] ((cO3_rrrrrrrr h0 xs xhn xht xhj xhm xhb xhs xhc) :: (cAI g xhnc 6 xhnf) :: (cAI g xhtc 4 xhtf) :: (cAI g xhjc 16 xhjf) :: (cAI g xhmc 12 xhmf) :: (cAI g xhbc 3 xhbf) :: (cAI g xhsc 18 xhsf) :: (cAI g xhcc 12 xhcf) :: (cO7_rrrrii xs xr xm xw xp xmd2_9 xtr2_10) :: (cO8_iiri xr 8 3 xrc xrk_5) :: (cAI g xrc 24 xrg_1) :: (cO8_iiri xm 12 3 xmc xmk_6) :: (cAI g xmc 36 xmg_2) :: (cO8_iiri xw 6 3 xwc xwk_7) :: (cAI g xwc 18 xwg_3) :: (cO8_iiri xp 8 2 xpc xpk_8) :: (cAI g xpc 16 xpg_4) :: (cO8_iiri xhn 1 6 xhnc 0) :: (cO8_iiri xht 4 1 xhtc 0) :: (cO8_iiri xhj 8 2 xhjc 0) :: (cO8_iiri xhm 4 3 xhmc 0) :: (cO8_iiri xhb 1 3 xhbc 0) :: (cO8_iiri xhs 6 3 xhsc 0) :: []) [7] [0, 1, 2, 3, 4, 5, 6, 8, 9, 10, 11, 12, 13, 14, 15, 16, 17, 18, 19, 20, 21, 22, 23] (t_clear l g xhc (.int 6) (.int 2) (.ref xhcc) xhcn) dX3_clear_53 mw235 mw232 mw233 mw64 mw234 rfl 8 rfl rfl 0 _ rfl yk_yX8_clear_0 rfl (Nat.le_of_ble_eq_true rfl) (Nat.le_of_ble_eq_true rfl) (Nat.le_of_ble_eq_true rfl) (Nat.le_of_ble_eq_true rfl) (Nat.le_of_ble_eq_true rfl) rfl rfl (by decide) rfl (by decide) (by decide) ?_
  rintro w rfl
  refine k_ws ((cO3_rrrrrrrr h0 xs xhn xht xhj xhm xhb xhs xhc) :: (cAI g xhnc 6 xhnf) :: (cAI g xhtc 4 xhtf) :: (cAI g xhjc 16 xhjf) :: (cAI g xhmc 12 xhmf) :: (cAI g xhbc 3 xhbf) :: (cAI g xhsc 18 xhsf) :: (cAI g xhcc 12 xhcf) :: (cO7_rrrrii xs xr xm xw xp xmd2_9 xtr2_10) :: (cO8_iiri xr 8 3 xrc xrk_5) :: (cAI g xrc 24 xrg_1) :: (cO8_iiri xm 12 3 xmc xmk_6) :: (cAI g xmc 36 xmg_2) :: (cO8_iiri xw 6 3 xwc xwk_7) :: (cAI g xwc 18 xwg_3) :: (cO8_iiri xp 8 2 xpc xpk_8) :: (cAI g xpc 16 xpg_4) :: (cO8_iiri xhn 1 6 xhnc 0) :: (cO8_iiri xht 4 1 xhtc 0) :: (cO8_iiri xhj 8 2 xhjc 0) :: (cO8_iiri xhm 4 3 xhmc 0) :: (cO8_iiri xhb 1 3 xhbc 0) :: (cO8_iiri xhs 6 3 xhsc 0) :: (cO8_iiri xhc 6 2 xhcc 0) :: []) rfl ?_
  exact k_vret X hr dX3_clear_56 (Nat.le_of_ble_eq_true rfl) (Nat.le_of_ble_eq_true rfl) [0, 8, 9, 10, 11, 12, 13, 14, 15, 16, 17, 1, 18, 2, 19, 3, 20, 4, 21, 5, 22, 6, 23, 7] (by decide) rfl rfl ⟨xrg_1, xmg_2, xwg_3, xpg_4, xrk_5, xmk_6, xwk_7, xpk_8, xmd2_9, xtr2_10, xhnf, xhtf, xhjf, xhmf, xhbf, xhsf, xhcf, 0, 0, 0, 0, 0, 0, 0, ⟨xrg_1, xmg_2, xwg_3, xpg_4, xrk_5, xmk_6, xwk_7, xpk_8, xmd2_9, xtr2_10, hq_12, ⟨rfl, rfl, rfl, rfl, rfl, rfl, rfl, rfl, rfl, rfl, rfl, rfl, rfl, rfl, rfl, rfl, rfl, rfl, rfl, rfl, rfl, rfl, rfl, rfl⟩⟩, rfl⟩


set_option maxHeartbeats 4000000 in
set_option maxRecDepth 100000 in
theorem h_numberX (l : Launch) (g : Gx) (h0 : Nat) (p0 : Int32) (v0h0 : Value) (xhn : Nat) (v2h0 : Value) (v3h0 : Value) (v4h0 : Value) (v5h0 : Value) (v6h0 : Value) (v7h0 : Value) (xhnc : Nat) (xhnn : Int32) (xhnf : Nat → Int32) : cI l g yX3_number cX3_number 2 (some .int) 1 22 0 0 [.ref h0, .int p0] [(cO3_vrvvvvvv h0 v0h0 xhn v2h0 v3h0 v4h0 v5h0 v6h0 v7h0), (cO8_iiri xhn 1 6 xhnc xhnn), (cAI g xhnc 6 xhnf)] (fun r w => (R_h_numberX p0 xhnf r) ∧ w = [(cO3_vrvvvvvv h0 v0h0 xhn v2h0 v3h0 v4h0 v5h0 v6h0 v7h0), (cO8_iiri xhn 1 6 xhnc xhnn), (cAI g xhnc 6 xhnf)]) := by
  refine cI.of (by decide) (Nat.le_of_ble_eq_true rfl) ?_
  intro p e s m args below meth c A X hr hi
  refine k_lveq [(0, .ref h0), (1, .int p0)] rfl ?_
  refine k_aload_n X dX3_number_0 0 rfl ?_
  refine k_get (ci := 3) X inlX3 rfl 1 (by decide) dX3_number_1 mw79 0 rfl rfl ?_
  refine k_iconst (v := 0) X dX3_number_4 (by decide) ?_
  refine k_iload_n X dX3_number_5 1 rfl ?_
  refine k_callVI (n := 2) (As := [.int 0, .int p0]) (st := []) X [(cO8_iiri xhn 1 6 xhnc xhnn), (cAI g xhnc 6 xhnf)] [(cO3_vrvvvvvv h0 v0h0 xhn v2h0 v3h0 v4h0 v5h0 v6h0 v7h0)] [1, 2] [0] (t_at l g xhn 0 p0 1 6 xhnc xhnn 6 xhnf (tbk_1_6)) dX3_number_6 mw418 mw376 mw377 mw64 mw378 rfl 8 rfl rfl 0 _ rfl yk_yX8_at_2 rfl (Nat.le_of_ble_eq_true rfl) (Nat.le_of_ble_eq_true rfl) (Nat.le_of_ble_eq_true rfl) (Nat.le_of_ble_eq_true rfl) (Nat.le_of_ble_eq_true rfl) rfl rfl (by decide) rfl (by decide) (by decide) ?_
  rintro r_1 w ⟨hr_2, rfl⟩
  refine k_ws [(cO3_vrvvvvvv h0 v0h0 xhn v2h0 v3h0 v4h0 v5h0 v6h0 v7h0), (cO8_iiri xhn 1 6 xhnc xhnn), (cAI g xhnc 6 xhnf)] rfl ?_
  exact k_iret X hr dX3_number_9 (Nat.le_of_ble_eq_true rfl) (Nat.le_of_ble_eq_true rfl) [0, 1, 2] (by decide) rfl rfl ⟨⟨r_1, hr_2, rfl⟩, rfl⟩


set_option maxHeartbeats 4000000 in
set_option maxRecDepth 100000 in
theorem t_copyFrom1_3X (l : Launch) (g : Gx) (h0 : Nat) (h1 : Nat) (h0c : Nat) (h0n : Int32) (h0f : Nat → Int32) (h1c : Nat) (h1n : Int32) (h1f : Nat → Int32) : cV l g yX8_copyFrom cX8_copyFrom 2 1 40 0 0 [.ref h0, .ref h1] [(cO8_iiri h0 1 3 h0c h0n), (cAI g h0c 3 h0f), (cO8_iiri h1 1 3 h1c h1n), (cAI g h1c 3 h1f)] (fun w => ∃ (h0g : Nat → Int32) (h0k : Int32), (R_t_copyFrom1_3X h0f h1n h1f h0g h0k) ∧ w = [(cO8_iiri h0 1 3 h0c h0k), (cAI g h0c 3 h0g), (cO8_iiri h1 1 3 h1c h1n), (cAI g h1c 3 h1f)]) := by
  refine cV.of (by decide) (Nat.le_of_ble_eq_true rfl) ?_
  intro p e s m args below meth c A X hr hi
  refine k_lveq [(0, .ref h0), (1, .ref h1)] rfl ?_
  refine k_aload_n X dX8_copyFrom_0 1 rfl ?_
  refine k_ifnull X dX8_copyFrom_1 ?_
  refine k_aload_n X dX8_copyFrom_4 1 rfl ?_
  refine k_get (ci := 8) X inlX8 rfl 2 (by decide) dX8_copyFrom_5 mw108 2 rfl rfl ?_
  refine k_alen 3 1 X dX8_copyFrom_8 3 rfl rfl (by show Int32.ofNat 3 = 3; decide) ?_
  refine k_aload_n X dX8_copyFrom_9 0 rfl ?_
  refine k_get (ci := 8) X inlX8 rfl 2 (by decide) dX8_copyFrom_10 mw108 0 rfl rfl ?_
  refine k_alen 3 1 X dX8_copyFrom_13 1 rfl rfl (by show Int32.ofNat 3 = 3; decide) ?_
  refine k_ic_eq 18 X dX8_copyFrom_14 (by decide) (fun _ => ?_) (fun h_1 => absurd (by decide) h_1)
  refine k_aload_n X dX8_copyFrom_18 1 rfl ?_
  refine k_get (ci := 8) X inlX8 rfl 2 (by decide) dX8_copyFrom_19 mw108 2 rfl rfl ?_
  refine k_iconst (v := 0) X dX8_copyFrom_22 (by decide) ?_
  refine k_aload_n X dX8_copyFrom_23 0 rfl ?_
  refine k_get (ci := 8) X inlX8 rfl 2 (by decide) dX8_copyFrom_24 mw108 0 rfl rfl ?_
  refine k_iconst (v := 0) X dX8_copyFrom_27 (by decide) ?_
  refine k_aload_n X dX8_copyFrom_28 0 rfl ?_
  refine k_get (ci := 8) X inlX8 rfl 2 (by decide) dX8_copyFrom_29 mw108 0 rfl rfl ?_
  refine k_alen 3 1 X dX8_copyFrom_32 1 rfl rfl (by show Int32.ofNat 3 = 3; decide) ?_
  refine k_copyi [(cO8_iiri h0 1 3 h0c h0n), (cAI g h0c 3 (va_cpy h1f h0f (0 : Int32).toNatClampNeg (0 : Int32).toNatClampNeg (3 : Int32).toNatClampNeg)), (cO8_iiri h1 1 3 h1c h1n), (cAI g h1c 3 h1f)] X dX8_copyFrom_33 mw450 mw451 mw452 mw453 3 1 rfl rfl (by decide) (by decide) (by decide) (by decide) (by decide) (Nat.le_of_ble_eq_true rfl) (Nat.le_of_ble_eq_true rfl) rfl ?_
  refine k_aload_n X dX8_copyFrom_36 0 rfl ?_
  refine k_aload_n X dX8_copyFrom_37 1 rfl ?_
  refine k_get (ci := 8) X inlX8 rfl 3 (by decide) dX8_copyFrom_38 mw100 2 rfl rfl ?_
  refine k_put (ci := 8) [(cO8_iiri h0 1 3 h0c h1n), (cAI g h0c 3 (va_cpy h1f h0f (0 : Int32).toNatClampNeg (0 : Int32).toNatClampNeg (3 : Int32).toNatClampNeg)), (cO8_iiri h1 1 3 h1c h1n), (cAI g h1c 3 h1f)] X inlX8 rfl tyX8_ok nmX8 3 (by decide) rfl dX8_copyFrom_41 mw100 0 rfl rfl rfl (Nat.le_of_ble_eq_true rfl) rfl ?_
  exact k_vret X hr dX8_copyFrom_44 (Nat.le_of_ble_eq_true rfl) (Nat.le_of_ble_eq_true rfl) [0, 1, 2, 3] (by decide) rfl rfl ⟨(va_cpy h1f h0f (0 : Int32).toNatClampNeg (0 : Int32).toNatClampNeg (3 : Int32).toNatClampNeg), h1n, ⟨rfl, rfl⟩, rfl⟩


set_option maxHeartbeats 4000000 in
set_option maxRecDepth 100000 in
theorem t_copyFrom1_6X (l : Launch) (g : Gx) (h0 : Nat) (h1 : Nat) (h0c : Nat) (h0n : Int32) (h0f : Nat → Int32) (h1c : Nat) (h1n : Int32) (h1f : Nat → Int32) : cV l g yX8_copyFrom cX8_copyFrom 2 1 40 0 0 [.ref h0, .ref h1] [(cO8_iiri h0 1 6 h0c h0n), (cAI g h0c 6 h0f), (cO8_iiri h1 1 6 h1c h1n), (cAI g h1c 6 h1f)] (fun w => ∃ (h0g : Nat → Int32) (h0k : Int32), (R_t_copyFrom1_6X h0f h1n h1f h0g h0k) ∧ w = [(cO8_iiri h0 1 6 h0c h0k), (cAI g h0c 6 h0g), (cO8_iiri h1 1 6 h1c h1n), (cAI g h1c 6 h1f)]) := by
  refine cV.of (by decide) (Nat.le_of_ble_eq_true rfl) ?_
  intro p e s m args below meth c A X hr hi
  refine k_lveq [(0, .ref h0), (1, .ref h1)] rfl ?_
  refine k_aload_n X dX8_copyFrom_0 1 rfl ?_
  refine k_ifnull X dX8_copyFrom_1 ?_
  refine k_aload_n X dX8_copyFrom_4 1 rfl ?_
  refine k_get (ci := 8) X inlX8 rfl 2 (by decide) dX8_copyFrom_5 mw108 2 rfl rfl ?_
  refine k_alen 6 1 X dX8_copyFrom_8 3 rfl rfl (by show Int32.ofNat 6 = 6; decide) ?_
  refine k_aload_n X dX8_copyFrom_9 0 rfl ?_
  refine k_get (ci := 8) X inlX8 rfl 2 (by decide) dX8_copyFrom_10 mw108 0 rfl rfl ?_
  refine k_alen 6 1 X dX8_copyFrom_13 1 rfl rfl (by show Int32.ofNat 6 = 6; decide) ?_
  refine k_ic_eq 18 X dX8_copyFrom_14 (by decide) (fun _ => ?_) (fun h_1 => absurd (by decide) h_1)
  refine k_aload_n X dX8_copyFrom_18 1 rfl ?_
  refine k_get (ci := 8) X inlX8 rfl 2 (by decide) dX8_copyFrom_19 mw108 2 rfl rfl ?_
  refine k_iconst (v := 0) X dX8_copyFrom_22 (by decide) ?_
  refine k_aload_n X dX8_copyFrom_23 0 rfl ?_
  refine k_get (ci := 8) X inlX8 rfl 2 (by decide) dX8_copyFrom_24 mw108 0 rfl rfl ?_
  refine k_iconst (v := 0) X dX8_copyFrom_27 (by decide) ?_
  refine k_aload_n X dX8_copyFrom_28 0 rfl ?_
  refine k_get (ci := 8) X inlX8 rfl 2 (by decide) dX8_copyFrom_29 mw108 0 rfl rfl ?_
  refine k_alen 6 1 X dX8_copyFrom_32 1 rfl rfl (by show Int32.ofNat 6 = 6; decide) ?_
  refine k_copyi [(cO8_iiri h0 1 6 h0c h0n), (cAI g h0c 6 (va_cpy h1f h0f (0 : Int32).toNatClampNeg (0 : Int32).toNatClampNeg (6 : Int32).toNatClampNeg)), (cO8_iiri h1 1 6 h1c h1n), (cAI g h1c 6 h1f)] X dX8_copyFrom_33 mw450 mw451 mw452 mw453 3 1 rfl rfl (by decide) (by decide) (by decide) (by decide) (by decide) (Nat.le_of_ble_eq_true rfl) (Nat.le_of_ble_eq_true rfl) rfl ?_
  refine k_aload_n X dX8_copyFrom_36 0 rfl ?_
  refine k_aload_n X dX8_copyFrom_37 1 rfl ?_
  refine k_get (ci := 8) X inlX8 rfl 3 (by decide) dX8_copyFrom_38 mw100 2 rfl rfl ?_
  refine k_put (ci := 8) [(cO8_iiri h0 1 6 h0c h1n), (cAI g h0c 6 (va_cpy h1f h0f (0 : Int32).toNatClampNeg (0 : Int32).toNatClampNeg (6 : Int32).toNatClampNeg)), (cO8_iiri h1 1 6 h1c h1n), (cAI g h1c 6 h1f)] X inlX8 rfl tyX8_ok nmX8 3 (by decide) rfl dX8_copyFrom_41 mw100 0 rfl rfl rfl (Nat.le_of_ble_eq_true rfl) rfl ?_
  exact k_vret X hr dX8_copyFrom_44 (Nat.le_of_ble_eq_true rfl) (Nat.le_of_ble_eq_true rfl) [0, 1, 2, 3] (by decide) rfl rfl ⟨(va_cpy h1f h0f (0 : Int32).toNatClampNeg (0 : Int32).toNatClampNeg (6 : Int32).toNatClampNeg), h1n, ⟨rfl, rfl⟩, rfl⟩


set_option maxHeartbeats 4000000 in
set_option maxRecDepth 100000 in
theorem t_copyFrom4_1X (l : Launch) (g : Gx) (h0 : Nat) (h1 : Nat) (h0c : Nat) (h0n : Int32) (h0f : Nat → Int32) (h1c : Nat) (h1n : Int32) (h1f : Nat → Int32) : cV l g yX8_copyFrom cX8_copyFrom 2 1 40 0 0 [.ref h0, .ref h1] [(cO8_iiri h0 4 1 h0c h0n), (cAI g h0c 4 h0f), (cO8_iiri h1 4 1 h1c h1n), (cAI g h1c 4 h1f)] (fun w => ∃ (h0g : Nat → Int32) (h0k : Int32), (R_t_copyFrom4_1X h0f h1n h1f h0g h0k) ∧ w = [(cO8_iiri h0 4 1 h0c h0k), (cAI g h0c 4 h0g), (cO8_iiri h1 4 1 h1c h1n), (cAI g h1c 4 h1f)]) := by
  refine cV.of (by decide) (Nat.le_of_ble_eq_true rfl) ?_
  intro p e s m args below meth c A X hr hi
  refine k_lveq [(0, .ref h0), (1, .ref h1)] rfl ?_
  refine k_aload_n X dX8_copyFrom_0 1 rfl ?_
  refine k_ifnull X dX8_copyFrom_1 ?_
  refine k_aload_n X dX8_copyFrom_4 1 rfl ?_
  refine k_get (ci := 8) X inlX8 rfl 2 (by decide) dX8_copyFrom_5 mw108 2 rfl rfl ?_
  refine k_alen 4 1 X dX8_copyFrom_8 3 rfl rfl (by show Int32.ofNat 4 = 4; decide) ?_
  refine k_aload_n X dX8_copyFrom_9 0 rfl ?_
  refine k_get (ci := 8) X inlX8 rfl 2 (by decide) dX8_copyFrom_10 mw108 0 rfl rfl ?_
  refine k_alen 4 1 X dX8_copyFrom_13 1 rfl rfl (by show Int32.ofNat 4 = 4; decide) ?_
  refine k_ic_eq 18 X dX8_copyFrom_14 (by decide) (fun _ => ?_) (fun h_1 => absurd (by decide) h_1)
  refine k_aload_n X dX8_copyFrom_18 1 rfl ?_
  refine k_get (ci := 8) X inlX8 rfl 2 (by decide) dX8_copyFrom_19 mw108 2 rfl rfl ?_
  refine k_iconst (v := 0) X dX8_copyFrom_22 (by decide) ?_
  refine k_aload_n X dX8_copyFrom_23 0 rfl ?_
  refine k_get (ci := 8) X inlX8 rfl 2 (by decide) dX8_copyFrom_24 mw108 0 rfl rfl ?_
  refine k_iconst (v := 0) X dX8_copyFrom_27 (by decide) ?_
  refine k_aload_n X dX8_copyFrom_28 0 rfl ?_
  refine k_get (ci := 8) X inlX8 rfl 2 (by decide) dX8_copyFrom_29 mw108 0 rfl rfl ?_
  refine k_alen 4 1 X dX8_copyFrom_32 1 rfl rfl (by show Int32.ofNat 4 = 4; decide) ?_
  refine k_copyi [(cO8_iiri h0 4 1 h0c h0n), (cAI g h0c 4 (va_cpy h1f h0f (0 : Int32).toNatClampNeg (0 : Int32).toNatClampNeg (4 : Int32).toNatClampNeg)), (cO8_iiri h1 4 1 h1c h1n), (cAI g h1c 4 h1f)] X dX8_copyFrom_33 mw450 mw451 mw452 mw453 3 1 rfl rfl (by decide) (by decide) (by decide) (by decide) (by decide) (Nat.le_of_ble_eq_true rfl) (Nat.le_of_ble_eq_true rfl) rfl ?_
  refine k_aload_n X dX8_copyFrom_36 0 rfl ?_
  refine k_aload_n X dX8_copyFrom_37 1 rfl ?_
  refine k_get (ci := 8) X inlX8 rfl 3 (by decide) dX8_copyFrom_38 mw100 2 rfl rfl ?_
  refine k_put (ci := 8) [(cO8_iiri h0 4 1 h0c h1n), (cAI g h0c 4 (va_cpy h1f h0f (0 : Int32).toNatClampNeg (0 : Int32).toNatClampNeg (4 : Int32).toNatClampNeg)), (cO8_iiri h1 4 1 h1c h1n), (cAI g h1c 4 h1f)] X inlX8 rfl tyX8_ok nmX8 3 (by decide) rfl dX8_copyFrom_41 mw100 0 rfl rfl rfl (Nat.le_of_ble_eq_true rfl) rfl ?_
  exact k_vret X hr dX8_copyFrom_44 (Nat.le_of_ble_eq_true rfl) (Nat.le_of_ble_eq_true rfl) [0, 1, 2, 3] (by decide) rfl rfl ⟨(va_cpy h1f h0f (0 : Int32).toNatClampNeg (0 : Int32).toNatClampNeg (4 : Int32).toNatClampNeg), h1n, ⟨rfl, rfl⟩, rfl⟩


set_option maxHeartbeats 4000000 in
set_option maxRecDepth 100000 in
theorem t_copyFrom4_3X (l : Launch) (g : Gx) (h0 : Nat) (h1 : Nat) (h0c : Nat) (h0n : Int32) (h0f : Nat → Int32) (h1c : Nat) (h1n : Int32) (h1f : Nat → Int32) : cV l g yX8_copyFrom cX8_copyFrom 2 1 40 0 0 [.ref h0, .ref h1] [(cO8_iiri h0 4 3 h0c h0n), (cAI g h0c 12 h0f), (cO8_iiri h1 4 3 h1c h1n), (cAI g h1c 12 h1f)] (fun w => ∃ (h0g : Nat → Int32) (h0k : Int32), (R_t_copyFrom4_3X h0f h1n h1f h0g h0k) ∧ w = [(cO8_iiri h0 4 3 h0c h0k), (cAI g h0c 12 h0g), (cO8_iiri h1 4 3 h1c h1n), (cAI g h1c 12 h1f)]) := by
  refine cV.of (by decide) (Nat.le_of_ble_eq_true rfl) ?_
  intro p e s m args below meth c A X hr hi
  refine k_lveq [(0, .ref h0), (1, .ref h1)] rfl ?_
  refine k_aload_n X dX8_copyFrom_0 1 rfl ?_
  refine k_ifnull X dX8_copyFrom_1 ?_
  refine k_aload_n X dX8_copyFrom_4 1 rfl ?_
  refine k_get (ci := 8) X inlX8 rfl 2 (by decide) dX8_copyFrom_5 mw108 2 rfl rfl ?_
  refine k_alen 12 1 X dX8_copyFrom_8 3 rfl rfl (by show Int32.ofNat 12 = 12; decide) ?_
  refine k_aload_n X dX8_copyFrom_9 0 rfl ?_
  refine k_get (ci := 8) X inlX8 rfl 2 (by decide) dX8_copyFrom_10 mw108 0 rfl rfl ?_
  refine k_alen 12 1 X dX8_copyFrom_13 1 rfl rfl (by show Int32.ofNat 12 = 12; decide) ?_
  refine k_ic_eq 18 X dX8_copyFrom_14 (by decide) (fun _ => ?_) (fun h_1 => absurd (by decide) h_1)
  refine k_aload_n X dX8_copyFrom_18 1 rfl ?_
  refine k_get (ci := 8) X inlX8 rfl 2 (by decide) dX8_copyFrom_19 mw108 2 rfl rfl ?_
  refine k_iconst (v := 0) X dX8_copyFrom_22 (by decide) ?_
  refine k_aload_n X dX8_copyFrom_23 0 rfl ?_
  refine k_get (ci := 8) X inlX8 rfl 2 (by decide) dX8_copyFrom_24 mw108 0 rfl rfl ?_
  refine k_iconst (v := 0) X dX8_copyFrom_27 (by decide) ?_
  refine k_aload_n X dX8_copyFrom_28 0 rfl ?_
  refine k_get (ci := 8) X inlX8 rfl 2 (by decide) dX8_copyFrom_29 mw108 0 rfl rfl ?_
  refine k_alen 12 1 X dX8_copyFrom_32 1 rfl rfl (by show Int32.ofNat 12 = 12; decide) ?_
  refine k_copyi [(cO8_iiri h0 4 3 h0c h0n), (cAI g h0c 12 (va_cpy h1f h0f (0 : Int32).toNatClampNeg (0 : Int32).toNatClampNeg (12 : Int32).toNatClampNeg)), (cO8_iiri h1 4 3 h1c h1n), (cAI g h1c 12 h1f)] X dX8_copyFrom_33 mw450 mw451 mw452 mw453 3 1 rfl rfl (by decide) (by decide) (by decide) (by decide) (by decide) (Nat.le_of_ble_eq_true rfl) (Nat.le_of_ble_eq_true rfl) rfl ?_
  refine k_aload_n X dX8_copyFrom_36 0 rfl ?_
  refine k_aload_n X dX8_copyFrom_37 1 rfl ?_
  refine k_get (ci := 8) X inlX8 rfl 3 (by decide) dX8_copyFrom_38 mw100 2 rfl rfl ?_
  refine k_put (ci := 8) [(cO8_iiri h0 4 3 h0c h1n), (cAI g h0c 12 (va_cpy h1f h0f (0 : Int32).toNatClampNeg (0 : Int32).toNatClampNeg (12 : Int32).toNatClampNeg)), (cO8_iiri h1 4 3 h1c h1n), (cAI g h1c 12 h1f)] X inlX8 rfl tyX8_ok nmX8 3 (by decide) rfl dX8_copyFrom_41 mw100 0 rfl rfl rfl (Nat.le_of_ble_eq_true rfl) rfl ?_
  exact k_vret X hr dX8_copyFrom_44 (Nat.le_of_ble_eq_true rfl) (Nat.le_of_ble_eq_true rfl) [0, 1, 2, 3] (by decide) rfl rfl ⟨(va_cpy h1f h0f (0 : Int32).toNatClampNeg (0 : Int32).toNatClampNeg (12 : Int32).toNatClampNeg), h1n, ⟨rfl, rfl⟩, rfl⟩


set_option maxHeartbeats 4000000 in
set_option maxRecDepth 100000 in
theorem t_copyFrom6_2X (l : Launch) (g : Gx) (h0 : Nat) (h1 : Nat) (h0c : Nat) (h0n : Int32) (h0f : Nat → Int32) (h1c : Nat) (h1n : Int32) (h1f : Nat → Int32) : cV l g yX8_copyFrom cX8_copyFrom 2 1 40 0 0 [.ref h0, .ref h1] [(cO8_iiri h0 6 2 h0c h0n), (cAI g h0c 12 h0f), (cO8_iiri h1 6 2 h1c h1n), (cAI g h1c 12 h1f)] (fun w => ∃ (h0g : Nat → Int32) (h0k : Int32), (R_t_copyFrom6_2X h0f h1n h1f h0g h0k) ∧ w = [(cO8_iiri h0 6 2 h0c h0k), (cAI g h0c 12 h0g), (cO8_iiri h1 6 2 h1c h1n), (cAI g h1c 12 h1f)]) := by
  refine cV.of (by decide) (Nat.le_of_ble_eq_true rfl) ?_
  intro p e s m args below meth c A X hr hi
  refine k_lveq [(0, .ref h0), (1, .ref h1)] rfl ?_
  refine k_aload_n X dX8_copyFrom_0 1 rfl ?_
  refine k_ifnull X dX8_copyFrom_1 ?_
  refine k_aload_n X dX8_copyFrom_4 1 rfl ?_
  refine k_get (ci := 8) X inlX8 rfl 2 (by decide) dX8_copyFrom_5 mw108 2 rfl rfl ?_
  refine k_alen 12 1 X dX8_copyFrom_8 3 rfl rfl (by show Int32.ofNat 12 = 12; decide) ?_
  refine k_aload_n X dX8_copyFrom_9 0 rfl ?_
  refine k_get (ci := 8) X inlX8 rfl 2 (by decide) dX8_copyFrom_10 mw108 0 rfl rfl ?_
  refine k_alen 12 1 X dX8_copyFrom_13 1 rfl rfl (by show Int32.ofNat 12 = 12; decide) ?_
  refine k_ic_eq 18 X dX8_copyFrom_14 (by decide) (fun _ => ?_) (fun h_1 => absurd (by decide) h_1)
  refine k_aload_n X dX8_copyFrom_18 1 rfl ?_
  refine k_get (ci := 8) X inlX8 rfl 2 (by decide) dX8_copyFrom_19 mw108 2 rfl rfl ?_
  refine k_iconst (v := 0) X dX8_copyFrom_22 (by decide) ?_
  refine k_aload_n X dX8_copyFrom_23 0 rfl ?_
  refine k_get (ci := 8) X inlX8 rfl 2 (by decide) dX8_copyFrom_24 mw108 0 rfl rfl ?_
  refine k_iconst (v := 0) X dX8_copyFrom_27 (by decide) ?_
  refine k_aload_n X dX8_copyFrom_28 0 rfl ?_
  refine k_get (ci := 8) X inlX8 rfl 2 (by decide) dX8_copyFrom_29 mw108 0 rfl rfl ?_
  refine k_alen 12 1 X dX8_copyFrom_32 1 rfl rfl (by show Int32.ofNat 12 = 12; decide) ?_
  refine k_copyi [(cO8_iiri h0 6 2 h0c h0n), (cAI g h0c 12 (va_cpy h1f h0f (0 : Int32).toNatClampNeg (0 : Int32).toNatClampNeg (12 : Int32).toNatClampNeg)), (cO8_iiri h1 6 2 h1c h1n), (cAI g h1c 12 h1f)] X dX8_copyFrom_33 mw450 mw451 mw452 mw453 3 1 rfl rfl (by decide) (by decide) (by decide) (by decide) (by decide) (Nat.le_of_ble_eq_true rfl) (Nat.le_of_ble_eq_true rfl) rfl ?_
  refine k_aload_n X dX8_copyFrom_36 0 rfl ?_
  refine k_aload_n X dX8_copyFrom_37 1 rfl ?_
  refine k_get (ci := 8) X inlX8 rfl 3 (by decide) dX8_copyFrom_38 mw100 2 rfl rfl ?_
  refine k_put (ci := 8) [(cO8_iiri h0 6 2 h0c h1n), (cAI g h0c 12 (va_cpy h1f h0f (0 : Int32).toNatClampNeg (0 : Int32).toNatClampNeg (12 : Int32).toNatClampNeg)), (cO8_iiri h1 6 2 h1c h1n), (cAI g h1c 12 h1f)] X inlX8 rfl tyX8_ok nmX8 3 (by decide) rfl dX8_copyFrom_41 mw100 0 rfl rfl rfl (Nat.le_of_ble_eq_true rfl) rfl ?_
  exact k_vret X hr dX8_copyFrom_44 (Nat.le_of_ble_eq_true rfl) (Nat.le_of_ble_eq_true rfl) [0, 1, 2, 3] (by decide) rfl rfl ⟨(va_cpy h1f h0f (0 : Int32).toNatClampNeg (0 : Int32).toNatClampNeg (12 : Int32).toNatClampNeg), h1n, ⟨rfl, rfl⟩, rfl⟩


set_option maxHeartbeats 4000000 in
set_option maxRecDepth 100000 in
theorem t_copyFrom6_3X (l : Launch) (g : Gx) (h0 : Nat) (h1 : Nat) (h0c : Nat) (h0n : Int32) (h0f : Nat → Int32) (h1c : Nat) (h1n : Int32) (h1f : Nat → Int32) : cV l g yX8_copyFrom cX8_copyFrom 2 1 40 0 0 [.ref h0, .ref h1] [(cO8_iiri h0 6 3 h0c h0n), (cAI g h0c 18 h0f), (cO8_iiri h1 6 3 h1c h1n), (cAI g h1c 18 h1f)] (fun w => ∃ (h0g : Nat → Int32) (h0k : Int32), (R_t_copyFrom6_3X h0f h1n h1f h0g h0k) ∧ w = [(cO8_iiri h0 6 3 h0c h0k), (cAI g h0c 18 h0g), (cO8_iiri h1 6 3 h1c h1n), (cAI g h1c 18 h1f)]) := by
  refine cV.of (by decide) (Nat.le_of_ble_eq_true rfl) ?_
  intro p e s m args below meth c A X hr hi
  refine k_lveq [(0, .ref h0), (1, .ref h1)] rfl ?_
  refine k_aload_n X dX8_copyFrom_0 1 rfl ?_
  refine k_ifnull X dX8_copyFrom_1 ?_
  refine k_aload_n X dX8_copyFrom_4 1 rfl ?_
  refine k_get (ci := 8) X inlX8 rfl 2 (by decide) dX8_copyFrom_5 mw108 2 rfl rfl ?_
  refine k_alen 18 1 X dX8_copyFrom_8 3 rfl rfl (by show Int32.ofNat 18 = 18; decide) ?_
  refine k_aload_n X dX8_copyFrom_9 0 rfl ?_
  refine k_get (ci := 8) X inlX8 rfl 2 (by decide) dX8_copyFrom_10 mw108 0 rfl rfl ?_
  refine k_alen 18 1 X dX8_copyFrom_13 1 rfl rfl (by show Int32.ofNat 18 = 18; decide) ?_
  refine k_ic_eq 18 X dX8_copyFrom_14 (by decide) (fun _ => ?_) (fun h_1 => absurd (by decide) h_1)
  refine k_aload_n X dX8_copyFrom_18 1 rfl ?_
  refine k_get (ci := 8) X inlX8 rfl 2 (by decide) dX8_copyFrom_19 mw108 2 rfl rfl ?_
  refine k_iconst (v := 0) X dX8_copyFrom_22 (by decide) ?_
  refine k_aload_n X dX8_copyFrom_23 0 rfl ?_
  refine k_get (ci := 8) X inlX8 rfl 2 (by decide) dX8_copyFrom_24 mw108 0 rfl rfl ?_
  refine k_iconst (v := 0) X dX8_copyFrom_27 (by decide) ?_
  refine k_aload_n X dX8_copyFrom_28 0 rfl ?_
  refine k_get (ci := 8) X inlX8 rfl 2 (by decide) dX8_copyFrom_29 mw108 0 rfl rfl ?_
  refine k_alen 18 1 X dX8_copyFrom_32 1 rfl rfl (by show Int32.ofNat 18 = 18; decide) ?_
  refine k_copyi [(cO8_iiri h0 6 3 h0c h0n), (cAI g h0c 18 (va_cpy h1f h0f (0 : Int32).toNatClampNeg (0 : Int32).toNatClampNeg (18 : Int32).toNatClampNeg)), (cO8_iiri h1 6 3 h1c h1n), (cAI g h1c 18 h1f)] X dX8_copyFrom_33 mw450 mw451 mw452 mw453 3 1 rfl rfl (by decide) (by decide) (by decide) (by decide) (by decide) (Nat.le_of_ble_eq_true rfl) (Nat.le_of_ble_eq_true rfl) rfl ?_
  refine k_aload_n X dX8_copyFrom_36 0 rfl ?_
  refine k_aload_n X dX8_copyFrom_37 1 rfl ?_
  refine k_get (ci := 8) X inlX8 rfl 3 (by decide) dX8_copyFrom_38 mw100 2 rfl rfl ?_
  refine k_put (ci := 8) [(cO8_iiri h0 6 3 h0c h1n), (cAI g h0c 18 (va_cpy h1f h0f (0 : Int32).toNatClampNeg (0 : Int32).toNatClampNeg (18 : Int32).toNatClampNeg)), (cO8_iiri h1 6 3 h1c h1n), (cAI g h1c 18 h1f)] X inlX8 rfl tyX8_ok nmX8 3 (by decide) rfl dX8_copyFrom_41 mw100 0 rfl rfl rfl (Nat.le_of_ble_eq_true rfl) rfl ?_
  exact k_vret X hr dX8_copyFrom_44 (Nat.le_of_ble_eq_true rfl) (Nat.le_of_ble_eq_true rfl) [0, 1, 2, 3] (by decide) rfl rfl ⟨(va_cpy h1f h0f (0 : Int32).toNatClampNeg (0 : Int32).toNatClampNeg (18 : Int32).toNatClampNeg), h1n, ⟨rfl, rfl⟩, rfl⟩


set_option maxHeartbeats 4000000 in
set_option maxRecDepth 100000 in
theorem t_copyFrom8_2X (l : Launch) (g : Gx) (h0 : Nat) (h1 : Nat) (h0c : Nat) (h0n : Int32) (h0f : Nat → Int32) (h1c : Nat) (h1n : Int32) (h1f : Nat → Int32) : cV l g yX8_copyFrom cX8_copyFrom 2 1 40 0 0 [.ref h0, .ref h1] [(cO8_iiri h0 8 2 h0c h0n), (cAI g h0c 16 h0f), (cO8_iiri h1 8 2 h1c h1n), (cAI g h1c 16 h1f)] (fun w => ∃ (h0g : Nat → Int32) (h0k : Int32), (R_t_copyFrom8_2X h0f h1n h1f h0g h0k) ∧ w = [(cO8_iiri h0 8 2 h0c h0k), (cAI g h0c 16 h0g), (cO8_iiri h1 8 2 h1c h1n), (cAI g h1c 16 h1f)]) := by
  refine cV.of (by decide) (Nat.le_of_ble_eq_true rfl) ?_
  intro p e s m args below meth c A X hr hi
  refine k_lveq [(0, .ref h0), (1, .ref h1)] rfl ?_
  refine k_aload_n X dX8_copyFrom_0 1 rfl ?_
  refine k_ifnull X dX8_copyFrom_1 ?_
  refine k_aload_n X dX8_copyFrom_4 1 rfl ?_
  refine k_get (ci := 8) X inlX8 rfl 2 (by decide) dX8_copyFrom_5 mw108 2 rfl rfl ?_
  refine k_alen 16 1 X dX8_copyFrom_8 3 rfl rfl (by show Int32.ofNat 16 = 16; decide) ?_
  refine k_aload_n X dX8_copyFrom_9 0 rfl ?_
  refine k_get (ci := 8) X inlX8 rfl 2 (by decide) dX8_copyFrom_10 mw108 0 rfl rfl ?_
  refine k_alen 16 1 X dX8_copyFrom_13 1 rfl rfl (by show Int32.ofNat 16 = 16; decide) ?_
  refine k_ic_eq 18 X dX8_copyFrom_14 (by decide) (fun _ => ?_) (fun h_1 => absurd (by decide) h_1)
  refine k_aload_n X dX8_copyFrom_18 1 rfl ?_
  refine k_get (ci := 8) X inlX8 rfl 2 (by decide) dX8_copyFrom_19 mw108 2 rfl rfl ?_
  refine k_iconst (v := 0) X dX8_copyFrom_22 (by decide) ?_
  refine k_aload_n X dX8_copyFrom_23 0 rfl ?_
  refine k_get (ci := 8) X inlX8 rfl 2 (by decide) dX8_copyFrom_24 mw108 0 rfl rfl ?_
  refine k_iconst (v := 0) X dX8_copyFrom_27 (by decide) ?_
  refine k_aload_n X dX8_copyFrom_28 0 rfl ?_
  refine k_get (ci := 8) X inlX8 rfl 2 (by decide) dX8_copyFrom_29 mw108 0 rfl rfl ?_
  refine k_alen 16 1 X dX8_copyFrom_32 1 rfl rfl (by show Int32.ofNat 16 = 16; decide) ?_
  refine k_copyi [(cO8_iiri h0 8 2 h0c h0n), (cAI g h0c 16 (va_cpy h1f h0f (0 : Int32).toNatClampNeg (0 : Int32).toNatClampNeg (16 : Int32).toNatClampNeg)), (cO8_iiri h1 8 2 h1c h1n), (cAI g h1c 16 h1f)] X dX8_copyFrom_33 mw450 mw451 mw452 mw453 3 1 rfl rfl (by decide) (by decide) (by decide) (by decide) (by decide) (Nat.le_of_ble_eq_true rfl) (Nat.le_of_ble_eq_true rfl) rfl ?_
  refine k_aload_n X dX8_copyFrom_36 0 rfl ?_
  refine k_aload_n X dX8_copyFrom_37 1 rfl ?_
  refine k_get (ci := 8) X inlX8 rfl 3 (by decide) dX8_copyFrom_38 mw100 2 rfl rfl ?_
  refine k_put (ci := 8) [(cO8_iiri h0 8 2 h0c h1n), (cAI g h0c 16 (va_cpy h1f h0f (0 : Int32).toNatClampNeg (0 : Int32).toNatClampNeg (16 : Int32).toNatClampNeg)), (cO8_iiri h1 8 2 h1c h1n), (cAI g h1c 16 h1f)] X inlX8 rfl tyX8_ok nmX8 3 (by decide) rfl dX8_copyFrom_41 mw100 0 rfl rfl rfl (Nat.le_of_ble_eq_true rfl) rfl ?_
  exact k_vret X hr dX8_copyFrom_44 (Nat.le_of_ble_eq_true rfl) (Nat.le_of_ble_eq_true rfl) [0, 1, 2, 3] (by decide) rfl rfl ⟨(va_cpy h1f h0f (0 : Int32).toNatClampNeg (0 : Int32).toNatClampNeg (16 : Int32).toNatClampNeg), h1n, ⟨rfl, rfl⟩, rfl⟩


set_option maxHeartbeats 4000000 in
set_option maxRecDepth 100000 in
theorem t_copyFrom8_3X (l : Launch) (g : Gx) (h0 : Nat) (h1 : Nat) (h0c : Nat) (h0n : Int32) (h0f : Nat → Int32) (h1c : Nat) (h1n : Int32) (h1f : Nat → Int32) : cV l g yX8_copyFrom cX8_copyFrom 2 1 40 0 0 [.ref h0, .ref h1] [(cO8_iiri h0 8 3 h0c h0n), (cAI g h0c 24 h0f), (cO8_iiri h1 8 3 h1c h1n), (cAI g h1c 24 h1f)] (fun w => ∃ (h0g : Nat → Int32) (h0k : Int32), (R_t_copyFrom8_3X h0f h1n h1f h0g h0k) ∧ w = [(cO8_iiri h0 8 3 h0c h0k), (cAI g h0c 24 h0g), (cO8_iiri h1 8 3 h1c h1n), (cAI g h1c 24 h1f)]) := by
  refine cV.of (by decide) (Nat.le_of_ble_eq_true rfl) ?_
  intro p e s m args below meth c A X hr hi
  refine k_lveq [(0, .ref h0), (1, .ref h1)] rfl ?_
  refine k_aload_n X dX8_copyFrom_0 1 rfl ?_
  refine k_ifnull X dX8_copyFrom_1 ?_
  refine k_aload_n X dX8_copyFrom_4 1 rfl ?_
  refine k_get (ci := 8) X inlX8 rfl 2 (by decide) dX8_copyFrom_5 mw108 2 rfl rfl ?_
  refine k_alen 24 1 X dX8_copyFrom_8 3 rfl rfl (by show Int32.ofNat 24 = 24; decide) ?_
  refine k_aload_n X dX8_copyFrom_9 0 rfl ?_
  refine k_get (ci := 8) X inlX8 rfl 2 (by decide) dX8_copyFrom_10 mw108 0 rfl rfl ?_
  refine k_alen 24 1 X dX8_copyFrom_13 1 rfl rfl (by show Int32.ofNat 24 = 24; decide) ?_
  refine k_ic_eq 18 X dX8_copyFrom_14 (by decide) (fun _ => ?_) (fun h_1 => absurd (by decide) h_1)
  refine k_aload_n X dX8_copyFrom_18 1 rfl ?_
  refine k_get (ci := 8) X inlX8 rfl 2 (by decide) dX8_copyFrom_19 mw108 2 rfl rfl ?_
  refine k_iconst (v := 0) X dX8_copyFrom_22 (by decide) ?_
  refine k_aload_n X dX8_copyFrom_23 0 rfl ?_
  refine k_get (ci := 8) X inlX8 rfl 2 (by decide) dX8_copyFrom_24 mw108 0 rfl rfl ?_
  refine k_iconst (v := 0) X dX8_copyFrom_27 (by decide) ?_
  refine k_aload_n X dX8_copyFrom_28 0 rfl ?_
  refine k_get (ci := 8) X inlX8 rfl 2 (by decide) dX8_copyFrom_29 mw108 0 rfl rfl ?_
  refine k_alen 24 1 X dX8_copyFrom_32 1 rfl rfl (by show Int32.ofNat 24 = 24; decide) ?_
  refine k_copyi [(cO8_iiri h0 8 3 h0c h0n), (cAI g h0c 24 (va_cpy h1f h0f (0 : Int32).toNatClampNeg (0 : Int32).toNatClampNeg (24 : Int32).toNatClampNeg)), (cO8_iiri h1 8 3 h1c h1n), (cAI g h1c 24 h1f)] X dX8_copyFrom_33 mw450 mw451 mw452 mw453 3 1 rfl rfl (by decide) (by decide) (by decide) (by decide) (by decide) (Nat.le_of_ble_eq_true rfl) (Nat.le_of_ble_eq_true rfl) rfl ?_
  refine k_aload_n X dX8_copyFrom_36 0 rfl ?_
  refine k_aload_n X dX8_copyFrom_37 1 rfl ?_
  refine k_get (ci := 8) X inlX8 rfl 3 (by decide) dX8_copyFrom_38 mw100 2 rfl rfl ?_
  refine k_put (ci := 8) [(cO8_iiri h0 8 3 h0c h1n), (cAI g h0c 24 (va_cpy h1f h0f (0 : Int32).toNatClampNeg (0 : Int32).toNatClampNeg (24 : Int32).toNatClampNeg)), (cO8_iiri h1 8 3 h1c h1n), (cAI g h1c 24 h1f)] X inlX8 rfl tyX8_ok nmX8 3 (by decide) rfl dX8_copyFrom_41 mw100 0 rfl rfl rfl (Nat.le_of_ble_eq_true rfl) rfl ?_
  exact k_vret X hr dX8_copyFrom_44 (Nat.le_of_ble_eq_true rfl) (Nat.le_of_ble_eq_true rfl) [0, 1, 2, 3] (by decide) rfl rfl ⟨(va_cpy h1f h0f (0 : Int32).toNatClampNeg (0 : Int32).toNatClampNeg (24 : Int32).toNatClampNeg), h1n, ⟨rfl, rfl⟩, rfl⟩


set_option maxHeartbeats 4000000 in
set_option maxRecDepth 100000 in
theorem t_copyFrom12_3X (l : Launch) (g : Gx) (h0 : Nat) (h1 : Nat) (h0c : Nat) (h0n : Int32) (h0f : Nat → Int32) (h1c : Nat) (h1n : Int32) (h1f : Nat → Int32) : cV l g yX8_copyFrom cX8_copyFrom 2 1 40 0 0 [.ref h0, .ref h1] [(cO8_iiri h0 12 3 h0c h0n), (cAI g h0c 36 h0f), (cO8_iiri h1 12 3 h1c h1n), (cAI g h1c 36 h1f)] (fun w => ∃ (h0g : Nat → Int32) (h0k : Int32), (R_t_copyFrom12_3X h0f h1n h1f h0g h0k) ∧ w = [(cO8_iiri h0 12 3 h0c h0k), (cAI g h0c 36 h0g), (cO8_iiri h1 12 3 h1c h1n), (cAI g h1c 36 h1f)]) := by
  refine cV.of (by decide) (Nat.le_of_ble_eq_true rfl) ?_
  intro p e s m args below meth c A X hr hi
  refine k_lveq [(0, .ref h0), (1, .ref h1)] rfl ?_
  refine k_aload_n X dX8_copyFrom_0 1 rfl ?_
  refine k_ifnull X dX8_copyFrom_1 ?_
  refine k_aload_n X dX8_copyFrom_4 1 rfl ?_
  refine k_get (ci := 8) X inlX8 rfl 2 (by decide) dX8_copyFrom_5 mw108 2 rfl rfl ?_
  refine k_alen 36 1 X dX8_copyFrom_8 3 rfl rfl (by show Int32.ofNat 36 = 36; decide) ?_
  refine k_aload_n X dX8_copyFrom_9 0 rfl ?_
  refine k_get (ci := 8) X inlX8 rfl 2 (by decide) dX8_copyFrom_10 mw108 0 rfl rfl ?_
  refine k_alen 36 1 X dX8_copyFrom_13 1 rfl rfl (by show Int32.ofNat 36 = 36; decide) ?_
  refine k_ic_eq 18 X dX8_copyFrom_14 (by decide) (fun _ => ?_) (fun h_1 => absurd (by decide) h_1)
  refine k_aload_n X dX8_copyFrom_18 1 rfl ?_
  refine k_get (ci := 8) X inlX8 rfl 2 (by decide) dX8_copyFrom_19 mw108 2 rfl rfl ?_
  refine k_iconst (v := 0) X dX8_copyFrom_22 (by decide) ?_
  refine k_aload_n X dX8_copyFrom_23 0 rfl ?_
  refine k_get (ci := 8) X inlX8 rfl 2 (by decide) dX8_copyFrom_24 mw108 0 rfl rfl ?_
  refine k_iconst (v := 0) X dX8_copyFrom_27 (by decide) ?_
  refine k_aload_n X dX8_copyFrom_28 0 rfl ?_
  refine k_get (ci := 8) X inlX8 rfl 2 (by decide) dX8_copyFrom_29 mw108 0 rfl rfl ?_
  refine k_alen 36 1 X dX8_copyFrom_32 1 rfl rfl (by show Int32.ofNat 36 = 36; decide) ?_
  refine k_copyi [(cO8_iiri h0 12 3 h0c h0n), (cAI g h0c 36 (va_cpy h1f h0f (0 : Int32).toNatClampNeg (0 : Int32).toNatClampNeg (36 : Int32).toNatClampNeg)), (cO8_iiri h1 12 3 h1c h1n), (cAI g h1c 36 h1f)] X dX8_copyFrom_33 mw450 mw451 mw452 mw453 3 1 rfl rfl (by decide) (by decide) (by decide) (by decide) (by decide) (Nat.le_of_ble_eq_true rfl) (Nat.le_of_ble_eq_true rfl) rfl ?_
  refine k_aload_n X dX8_copyFrom_36 0 rfl ?_
  refine k_aload_n X dX8_copyFrom_37 1 rfl ?_
  refine k_get (ci := 8) X inlX8 rfl 3 (by decide) dX8_copyFrom_38 mw100 2 rfl rfl ?_
  refine k_put (ci := 8) [(cO8_iiri h0 12 3 h0c h1n), (cAI g h0c 36 (va_cpy h1f h0f (0 : Int32).toNatClampNeg (0 : Int32).toNatClampNeg (36 : Int32).toNatClampNeg)), (cO8_iiri h1 12 3 h1c h1n), (cAI g h1c 36 h1f)] X inlX8 rfl tyX8_ok nmX8 3 (by decide) rfl dX8_copyFrom_41 mw100 0 rfl rfl rfl (Nat.le_of_ble_eq_true rfl) rfl ?_
  exact k_vret X hr dX8_copyFrom_44 (Nat.le_of_ble_eq_true rfl) (Nat.le_of_ble_eq_true rfl) [0, 1, 2, 3] (by decide) rfl rfl ⟨(va_cpy h1f h0f (0 : Int32).toNatClampNeg (0 : Int32).toNatClampNeg (36 : Int32).toNatClampNeg), h1n, ⟨rfl, rfl⟩, rfl⟩


set_option maxHeartbeats 4000000 in
set_option maxRecDepth 100000 in
theorem s_copyFromX (l : Launch) (g : Gx) (h0 : Nat) (h1 : Nat) (xr : Nat) (xm : Nat) (xw : Nat) (xp : Nat) (xmd : Int32) (xtr : Int32) (xrc : Nat) (xrn : Int32) (xrf : Nat → Int32) (xmc : Nat) (xmn : Int32) (xmf : Nat → Int32) (xwc : Nat) (xwn : Int32) (xwf : Nat → Int32) (xpc : Nat) (xpn : Int32) (xpf : Nat → Int32) (yr : Nat) (ym : Nat) (yw : Nat) (yp : Nat) (ymd : Int32) (ytr : Int32) (yrc : Nat) (yrn : Int32) (yrf : Nat → Int32) (ymc : Nat) (ymn : Int32) (ymf : Nat → Int32) (ywc : Nat) (ywn : Int32) (ywf : Nat → Int32) (ypc : Nat) (ypn : Int32) (ypf : Nat → Int32) : cV l g yX7_copyFrom cX7_copyFrom 2 2 61 0 0 [.ref h0, .ref h1] [(cO7_rrrrii h0 xr xm xw xp xmd xtr), (cO8_iiri xr 8 3 xrc xrn), (cAI g xrc 24 xrf), (cO8_iiri xm 12 3 xmc xmn), (cAI g xmc 36 xmf), (cO8_iiri xw 6 3 xwc xwn), (cAI g xwc 18 xwf), (cO8_iiri xp 8 2 xpc xpn), (cAI g xpc 16 xpf), (cO7_rrrrii h1 yr ym yw yp ymd ytr), (cO8_iiri yr 8 3 yrc yrn), (cAI g yrc 24 yrf), (cO8_iiri ym 12 3 ymc ymn), (cAI g ymc 36 ymf), (cO8_iiri yw 6 3 ywc ywn), (cAI g ywc 18 ywf), (cO8_iiri yp 8 2 ypc ypn), (cAI g ypc 16 ypf)] (fun w => ∃ (xrg : Nat → Int32) (xmg : Nat → Int32) (xwg : Nat → Int32) (xpg : Nat → Int32) (xrk : Int32) (xmk : Int32) (xwk : Int32) (xpk : Int32) (xmd2 : Int32) (xtr2 : Int32), (R_s_copyFromX xrf xmf xwf xpf ymd ytr yrn yrf ymn ymf ywn ywf ypn ypf xrg xmg xwg xpg xrk xmk xwk xpk xmd2 xtr2) ∧ w = [(cO7_rrrrii h0 xr xm xw xp xmd2 xtr2), (cO8_iiri xr 8 3 xrc xrk), (cAI g xrc 24 xrg), (cO8_iiri xm 12 3 xmc xmk), (cAI g xmc 36 xmg), (cO8_iiri xw 6 3 xwc xwk), (cAI g xwc 18 xwg), (cO8_iiri xp 8 2 xpc xpk), (cAI g xpc 16 xpg), (cO7_rrrrii h1 yr ym yw yp ymd ytr), (cO8_iiri yr 8 3 yrc yrn), (cAI g yrc 24 yrf), (cO8_iiri ym 12 3 ymc ymn), (cAI g ymc 36 ymf), (cO8_iiri yw 6 3 ywc ywn), (cAI g ywc 18 ywf), (cO8_iiri yp 8 2 ypc ypn), (cAI g ypc 16 ypf)]) := by
  refine cV.of (by decide) (Nat.le_of_ble_eq_true rfl) ?_
  intro p e s m args below meth c A X hr hi
  refine k_lveq [(0, .ref h0), (1, .ref h1)] rfl ?_
  refine k_aload_n X dX7_copyFrom_0 1 rfl ?_
  refine k_ifnonnull 5 X dX7_copyFrom_1 (by decide) ?_
  refine k_aload_n X dX7_copyFrom_5 0 rfl ?_
  refine k_get (ci := 7) X inlX7 rfl 0 (by decide) dX7_copyFrom_6 mw90 0 rfl rfl ?_
  refine k_aload_n X dX7_copyFrom_9 1 rfl ?_
  refine k_get (ci := 7) X inlX7 rfl 0 (by decide) dX7_copyFrom_10 mw90 9 rfl rfl ?_
  refine k_callVV (n := 1) (As := [.ref yr]) (st := []) X [(cO8_iiri xr 8 3 xrc xrn), (cAI g xrc 24 xrf), (cO8_iiri yr 8 3 yrc yrn), (cAI g yrc 24 yrf)] [(cO7_rrrrii h0 xr xm xw xp xmd xtr), (cO8_iiri xm 12 3 xmc xmn), (cAI g xmc 36 xmf), (cO8_iiri xw 6 3 xwc xwn), (cAI g xwc 18 xwf), (cO8_iiri xp 8 2 xpc xpn), (cAI g xpc 16 xpf), (cO7_rrrrii h1 yr ym yw yp ymd ytr), (cO8_iiri ym 12 3 ymc ymn), (cAI g ymc 36 ymf), (cO8_iiri yw 6 3 ywc ywn), (cAI g ywc 18 ywf), (cO8_iiri yp 8 2 ypc ypn), (cAI g ypc 16 ypf)] [1, 2, 10, 11] [0, 3, 4, 5, 6, 7, 8, 9, 12, 13, 14, 15, 16, 17] (t_copyFrom8_3X l g xr yr xrc xrn xrf yrc yrn yrf) dX7_copyFrom_13 mw446 mw447 mw448 mw64 mw449 rfl 8 rfl rfl 0 _ rfl yk_yX8_copyFrom_1 rfl (Nat.le_of_ble_eq_true rfl) (Nat.le_of_ble_eq_true rfl) (Nat.le_of_ble_eq_true rfl) (Nat.le_of_ble_eq_true rfl) (Nat.le_of_ble_eq_true rfl) rfl rfl (by decide +kernel) rfl (by decide +kernel) (by decide +kernel) ?_
  rintro w ⟨h0g_1, h0k_2, hq_4, rfl⟩
  refine k_ws [(cO7_rrrrii h0 xr xm xw xp xmd xtr), (cO8_iiri xm 12 3 xmc xmn), (cAI g xmc 36 xmf), (cO8_iiri xw 6 3 xwc xwn), (cAI g xwc 18 xwf), (cO8_iiri xp 8 2 xpc xpn), (cAI g xpc 16 xpf), (cO7_rrrrii h1 yr ym yw yp ymd ytr), (cO8_iiri ym 12 3 ymc ymn), (cAI g ymc 36 ymf), (cO8_iiri yw 6 3 ywc ywn), (cAI g ywc 18 ywf), (cO8_iiri yp 8 2 ypc ypn), (cAI g ypc 16 ypf), (cO8_iiri xr 8 3 xrc h0k_2), (cAI g xrc 24 h0g_1), (cO8_iiri yr 8 3 yrc yrn), (cAI g yrc 24 yrf)] rfl ?_
  refine k_aload_n X dX7_copyFrom_16 0 rfl ?_
  refine k_get (ci := 7) X inlX7 rfl 1 (by decide) dX7_copyFrom_17 mw91 0 rfl rfl ?_
  refine k_aload_n X dX7_copyFrom_20 1 rfl ?_
  refine k_get (ci := 7) X inlX7 rfl 1 (by decide) dX7_copyFrom_21 mw91 7 rfl rfl ?_
  refine k_callVV (n := 1) (As := [.ref ym]) (st := []) X [(cO8_iiri xm 12 3 xmc xmn), (cAI g xmc 36 xmf), (cO8_iiri ym 12 3 ymc ymn), (cAI g ymc 36 ymf)] [(cO7_rrrrii h0 xr xm xw xp xmd xtr), (cO8_iiri xw 6 3 xwc xwn), (cAI g xwc 18 xwf), (cO8_iiri xp 8 2 xpc xpn), (cAI g xpc 16 xpf), (cO7_rrrrii h1 yr ym yw yp ymd ytr), (cO8_iiri yw 6 3 ywc ywn), (cAI g ywc 18 ywf), (cO8_iiri yp 8 2 ypc ypn), (cAI g ypc 16 ypf), (cO8_iiri xr 8 3 xrc h0k_2), (cAI g xrc 24 h0g_1), (cO8_iiri yr 8 3 yrc yrn), (cAI g yrc 24 yrf)] [1, 2, 8, 9] [0, 3, 4, 5, 6, 7, 10, 11, 12, 13, 14, 15, 16, 17] (t_copyFrom12_3X l g xm ym xmc xmn xmf ymc ymn ymf) dX7_copyFrom_24 mw446 mw447 mw448 mw64 mw449 rfl 8 rfl rfl 0 _ rfl yk_yX8_copyFrom_1 rfl (Nat.le_of_ble_eq_true rfl) (Nat.le_of_ble_eq_true rfl) (Nat.le_of_ble_eq_true rfl) (Nat.le_of_ble_eq_true rfl) (Nat.le_of_ble_eq_true rfl) rfl rfl (by decide +kernel) rfl (by decide +kernel) (by decide +kernel) ?_
  rintro w ⟨h0g_5, h0k_6, hq_8, rfl⟩
  refine k_ws [(cO7_rrrrii h0 xr xm xw xp xmd xtr), (cO8_iiri xw 6 3 xwc xwn), (cAI g xwc 18 xwf), (cO8_iiri xp 8 2 xpc xpn), (cAI g xpc 16 xpf), (cO7_rrrrii h1 yr ym yw yp ymd ytr), (cO8_iiri yw 6 3 ywc ywn), (cAI g ywc 18 ywf), (cO8_iiri yp 8 2 ypc ypn), (cAI g ypc 16 ypf), (cO8_iiri xr 8 3 xrc h0k_2), (cAI g xrc 24 h0g_1), (cO8_iiri yr 8 3 yrc yrn), (cAI g yrc 24 yrf), (cO8_iiri xm 12 3 xmc h0k_6), (cAI g xmc 36 h0g_5), (cO8_iiri ym 12 3 ymc ymn), (cAI g ymc 36 ymf)] rfl ?_
  refine k_aload_n X dX7_copyFrom_27 0 rfl ?_
  refine k_get (ci := 7) X inlX7 rfl 2 (by decide) dX7_copyFrom_28 mw92 0 rfl rfl ?_
  refine k_aload_n X dX7_copyFrom_31 1 rfl ?_
  refine k_get (ci := 7) X inlX7 rfl 2 (by decide) dX7_copyFrom_32 mw92 5 rfl rfl ?_
  refine k_callVV (n := 1) (As := [.ref yw]) (st := []) X [(cO8_iiri xw 6 3 xwc xwn), (cAI g xwc 18 xwf), (cO8_iiri yw 6 3 ywc ywn), (cAI g ywc 18 ywf)] [(cO7_rrrrii h0 xr xm xw xp xmd xtr), (cO8_iiri xp 8 2 xpc xpn), (cAI g xpc 16 xpf), (cO7_rrrrii h1 yr ym yw yp ymd ytr), (cO8_iiri yp 8 2 ypc ypn), (cAI g ypc 16 ypf), (cO8_iiri xr 8 3 xrc h0k_2), (cAI g xrc 24 h0g_1), (cO8_iiri yr 8 3 yrc yrn), (cAI g yrc 24 yrf), (cO8_iiri xm 12 3 xmc h0k_6), (cAI g xmc 36 h0g_5), (cO8_iiri ym 12 3 ymc ymn), (cAI g ymc 36 ymf)] [1, 2, 6, 7] [0, 3, 4, 5, 8, 9, 10, 11, 12, 13, 14, 15, 16, 17] (t_copyFrom6_3X l g xw yw xwc xwn xwf ywc ywn ywf) dX7_copyFrom_35 mw446 mw447 mw448 mw64 mw449 rfl 8 rfl rfl 0 _ rfl yk_yX8_copyFrom_1 rfl (Nat.le_of_ble_eq_true rfl) (Nat.le_of_ble_eq_true rfl) (Nat.le_of_ble_eq_true rfl) (Nat.le_of_ble_eq_true rfl) (Nat.le_of_ble_eq_true rfl) rfl rfl (by decide +kernel) rfl (by decide +kernel) (by decide +kernel) ?_
  rintro w ⟨h0g_9, h0k_10, hq_12, rfl⟩
  refine k_ws [(cO7_rrrrii h0 xr xm xw xp xmd xtr), (cO8_iiri xp 8 2 xpc xpn), (cAI g xpc 16 xpf), (cO7_rrrrii h1 yr ym yw yp ymd ytr), (cO8_iiri yp 8 2 ypc ypn), (cAI g ypc 16 ypf), (cO8_iiri xr 8 3 xrc h0k_2), (cAI g xrc 24 h0g_1), (cO8_iiri yr 8 3 yrc yrn), (cAI g yrc 24 yrf), (cO8_iiri xm 12 3 xmc h0k_6), (cAI g xmc 36 h0g_5), (cO8_iiri ym 12 3 ymc ymn), (cAI g ymc 36 ymf), (cO8_iiri xw 6 3 xwc h0k_10), (cAI g xwc 18 h0g_9), (cO8_iiri yw 6 3 ywc ywn), (cAI g ywc 18 ywf)] rfl ?_
  refine k_aload_n X dX7_copyFrom_38 0 rfl ?_
  refine k_get (ci := 7) X inlX7 rfl 3 (by decide) dX7_copyFrom_39 mw93 0 rfl rfl ?_
  refine k_aload_n X dX7_copyFrom_42 1 rfl ?_
  refine k_get (ci := 7) X inlX7 rfl 3 (by decide) dX7_copyFrom_43 mw93 3 rfl rfl ?_
  refine k_callVV (n := 1) (As := [.ref yp]) (st := []) X [(cO8_iiri xp 8 2 xpc xpn), (cAI g xpc 16 xpf), (cO8_iiri yp 8 2 ypc ypn), (cAI g ypc 16 ypf)] [(cO7_rrrrii h0 xr xm xw xp xmd xtr), (cO7_rrrrii h1 yr ym yw yp ymd ytr), (cO8_iiri xr 8 3 xrc h0k_2), (cAI g xrc 24 h0g_1), (cO8_iiri yr 8 3 yrc yrn), (cAI g yrc 24 yrf), (cO8_iiri xm 12 3 xmc h0k_6), (cAI g xmc 36 h0g_5), (cO8_iiri ym 12 3 ymc ymn), (cAI g ymc 36 ymf), (cO8_iiri xw 6 3 xwc h0k_10), (cAI g xwc 18 h0g_9), (cO8_iiri yw 6 3 ywc ywn), (cAI g ywc 18 ywf)] [1, 2, 4, 5] [0, 3, 6, 7, 8, 9, 10, 11, 12, 13, 14, 15, 16, 17] (t_copyFrom8_2X l g xp yp xpc xpn xpf ypc ypn ypf) dX7_copyFrom_46 mw446 mw447 mw448 mw64 mw449 rfl 8 rfl rfl 0 _ rfl yk_yX8_copyFrom_1 rfl (Nat.le_of_ble_eq_true rfl) (Nat.le_of_ble_eq_true rfl) (Nat.le_of_ble_eq_true rfl) (Nat.le_of_ble_eq_true rfl) (Nat.le_of_ble_eq_true rfl) rfl rfl (by decide +kernel) rfl (by decide +kernel) (by decide +kernel) ?_
  rintro w ⟨h0g_13, h0k_14, hq_16, rfl⟩
  refine k_ws [(cO7_rrrrii h0 xr xm xw xp xmd xtr), (cO7_rrrrii h1 yr ym yw yp ymd ytr), (cO8_iiri xr 8 3 xrc h0k_2), (cAI g xrc 24 h0g_1), (cO8_iiri yr 8 3 yrc yrn), (cAI g yrc 24 yrf), (cO8_iiri xm 12 3 xmc h0k_6), (cAI g xmc 36 h0g_5), (cO8_iiri ym 12 3 ymc ymn), (cAI g ymc 36 ymf), (cO8_iiri xw 6 3 xwc h0k_10), (cAI g xwc 18 h0g_9), (cO8_iiri yw 6 3 ywc ywn), (cAI g ywc 18 ywf), (cO8_iiri xp 8 2 xpc h0k_14), (cAI g xpc 16 h0g_13), (cO8_iiri yp 8 2 ypc ypn), (cAI g ypc 16 ypf)] rfl ?_
  refine k_aload_n X dX7_copyFrom_49 0 rfl ?_
  refine k_aload_n X dX7_copyFrom_50 1 rfl ?_
  refine k_get (ci := 7) X inlX7 rfl 4 (by decide) dX7_copyFrom_51 mw94 1 rfl rfl ?_
  refine k_put (ci := 7) [(cO7_rrrrii h0 xr xm xw xp ymd xtr), (cO7_rrrrii h1 yr ym yw yp ymd ytr), (cO8_iiri xr 8 3 xrc h0k_2), (cAI g xrc 24 h0g_1), (cO8_iiri yr 8 3 yrc yrn), (cAI g yrc 24 yrf), (cO8_iiri xm 12 3 xmc h0k_6), (cAI g xmc 36 h0g_5), (cO8_iiri ym 12 3 ymc ymn), (cAI g ymc 36 ymf), (cO8_iiri xw 6 3 xwc h0k_10), (cAI g xwc 18 h0g_9), (cO8_iiri yw 6 3 ywc ywn), (cAI g ywc 18 ywf), (cO8_iiri xp 8 2 xpc h0k_14), (cAI g xpc 16 h0g_13), (cO8_iiri yp 8 2 ypc ypn), (cAI g ypc 16 ypf)] X inlX7 rfl tyX7_ok nmX7 4 (by decide) rfl dX7_copyFrom_54 mw94 0 rfl rfl rfl (Nat.le_of_ble_eq_true rfl) rfl ?_
  refine k_aload_n X dX7_copyFrom_57 0 rfl ?_
  refine k_aload_n X dX7_copyFrom_58 1 rfl ?_
  refine k_get (ci := 7) X inlX7 rfl 5 (by decide) dX7_copyFrom_59 mw95 1 rfl rfl ?_
  refine k_put (ci := 7) [(cO7_rrrrii h0 xr xm xw xp ymd ytr), (cO7_rrrrii h1 yr ym yw yp ymd ytr), (cO8_iiri xr 8 3 xrc h0k_2), (cAI g xrc 24 h0g_1), (cO8_iiri yr 8 3 yrc yrn), (cAI g yrc 24 yrf), (cO8_iiri xm 12 3 xmc h0k_6), (cAI g xmc 36 h0g_5), (cO8_iiri ym 12 3 ymc ymn), (cAI g ymc 36 ymf), (cO8_iiri xw 6 3 xwc h0k_10), (cAI g xwc 18 h0g_9), (cO8_iiri yw 6 3 ywc ywn), (cAI g ywc 18 ywf), (cO8_iiri xp 8 2 xpc h0k_14), (cAI g xpc 16 h0g_13), (cO8_iiri yp 8 2 ypc ypn), (cAI g ypc 16 ypf)] X inlX7 rfl tyX7_ok nmX7 5 (by decide) rfl dX7_copyFrom_62 mw95 0 rfl rfl rfl (Nat.le_of_ble_eq_true rfl) rfl ?_
  exact k_vret X hr dX7_copyFrom_65 (Nat.le_of_ble_eq_true rfl) (Nat.le_of_ble_eq_true rfl) [0, 2, 3, 6, 7, 10, 11, 14, 15, 1, 4, 5, 8, 9, 12, 13, 16, 17] (by decide) rfl rfl ⟨h0g_1, h0g_5, h0g_9, h0g_13, h0k_2, h0k_6, h0k_10, h0k_14, ymd, ytr, ⟨h0g_1, h0k_2, hq_4, ⟨h0g_5, h0k_6, hq_8, ⟨h0g_9, h0k_10, hq_12, ⟨h0g_13, h0k_14, hq_16, ⟨rfl, rfl, rfl, rfl, rfl, rfl, rfl, rfl, rfl, rfl⟩⟩⟩⟩⟩, rfl⟩


set_option maxHeartbeats 4000000 in
set_option maxRecDepth 100000 in
theorem h_copyFromX (l : Launch) (g : Gx) (h0 : Nat) (h1 : Nat) (xs : Nat) (xhn : Nat) (xht : Nat) (xhj : Nat) (xhm : Nat) (xhb : Nat) (xhs : Nat) (xhc : Nat) (xr : Nat) (xm : Nat) (xw : Nat) (xp : Nat) (xmd : Int32) (xtr : Int32) (xrc : Nat) (xrn : Int32) (xrf : Nat → Int32) (xmc : Nat) (xmn : Int32) (xmf : Nat → Int32) (xwc : Nat) (xwn : Int32) (xwf : Nat → Int32) (xpc : Nat) (xpn : Int32) (xpf : Nat → Int32) (xhnc : Nat) (xhnn : Int32) (xhnf : Nat → Int32) (xhtc : Nat) (xhtn : Int32) (xhtf : Nat → Int32) (xhjc : Nat) (xhjn : Int32) (xhjf : Nat → Int32) (xhmc : Nat) (xhmn : Int32) (xhmf : Nat → Int32) (xhbc : Nat) (xhbn : Int32) (xhbf : Nat → Int32) (xhsc : Nat) (xhsn : Int32) (xhsf : Nat → Int32) (xhcc : Nat) (xhcn : Int32) (xhcf : Nat → Int32) (ys : Nat) (yhn : Nat) (yht : Nat) (yhj : Nat) (yhm : Nat) (yhb : Nat) (yhs : Nat) (yhc : Nat) (yr : Nat) (ym : Nat) (yw : Nat) (yp : Nat) (ymd : Int32) (ytr : Int32) (yrc : Nat) (yrn : Int32) (yrf : Nat → Int32) (ymc : Nat) (ymn : Int32) (ymf : Nat → Int32) (ywc : Nat) (ywn : Int32) (ywf : Nat → Int32) (ypc : Nat) (ypn : Int32) (ypf : Nat → Int32) (yhnc : Nat) (yhnn : Int32) (yhnf : Nat → Int32) (yhtc : Nat) (yhtn : Int32) (yhtf : Nat → Int32) (yhjc : Nat) (yhjn : Int32) (yhjf : Nat → Int32) (yhmc : Nat) (yhmn : Int32) (yhmf : Nat → Int32) (yhbc : Nat) (yhbn : Int32) (yhbf : Nat → Int32) (yhsc : Nat) (yhsn : Int32) (yhsf : Nat → Int32) (yhcc : Nat) (yhcn : Int32) (yhcf : Nat → Int32) : cV l g yX3_copyFrom cX3_copyFrom 2 3 82 0 0 [.ref h0, .ref h1] ((cO3_rrrrrrrr h0 xs xhn xht xhj xhm xhb xhs xhc) :: (cO7_rrrrii xs xr xm xw xp xmd xtr) :: (cO8_iiri xr 8 3 xrc xrn) :: (cAI g xrc 24 xrf) :: (cO8_iiri xm 12 3 xmc xmn) :: (cAI g xmc 36 xmf) :: (cO8_iiri xw 6 3 xwc xwn) :: (cAI g xwc 18 xwf) :: (cO8_iiri xp 8 2 xpc xpn) :: (cAI g xpc 16 xpf) :: (cO8_iiri xhn 1 6 xhnc xhnn) :: (cAI g xhnc 6 xhnf) :: (cO8_iiri xht 4 1 xhtc xhtn) :: (cAI g xhtc 4 xhtf) :: (cO8_iiri xhj 8 2 xhjc xhjn) :: (cAI g xhjc 16 xhjf) :: (cO8_iiri xhm 4 3 xhmc xhmn) :: (cAI g xhmc 12 xhmf) :: (cO8_iiri xhb 1 3 xhbc xhbn) :: (cAI g xhbc 3 xhbf) :: (cO8_iiri xhs 6 3 xhsc xhsn) :: (cAI g xhsc 18 xhsf) :: (cO8_iiri xhc 6 2 xhcc xhcn) :: (cAI g xhcc 12 xhcf) :: (cO3_rrrrrrrr h1 ys yhn yht yhj yhm yhb yhs yhc) :: (cO7_rrrrii ys yr ym yw yp ymd ytr) :: (cO8_iiri yr 8 3 yrc yrn) :: (cAI g yrc 24 yrf) :: (cO8_iiri ym 12 3 ymc ymn) :: (cAI g ymc 36 ymf) :: (cO8_iiri yw 6 3 ywc ywn) :: (cAI g ywc 18 ywf) :: (cO8_iiri yp 8 2 ypc ypn) :: (cAI g ypc 16 ypf) :: (cO8_iiri yhn 1 6 yhnc yhnn) :: (cAI g yhnc 6 yhnf) :: (cO8_iiri yht 4 1 yhtc yhtn) :: (cAI g yhtc 4 yhtf) :: (cO8_iiri yhj 8 2 yhjc yhjn) :: (cAI g yhjc 16 yhjf) :: (cO8_iiri yhm 4 3 yhmc yhmn) :: (cAI g yhmc 12 yhmf) :: (cO8_iiri yhb 1 3 yhbc yhbn) :: (cAI g yhbc 3 yhbf) :: (cO8_iiri yhs 6 3 yhsc yhsn) :: (cAI g yhsc 18 yhsf) :: (cO8_iiri yhc 6 2 yhcc yhcn) :: (cAI g yhcc 12 yhcf) :: []) (fun w => ∃ (xrg : Nat → Int32) (xmg : Nat → Int32) (xwg : Nat → Int32) (xpg : Nat → Int32) (xrk : Int32) (xmk : Int32) (xwk : Int32) (xpk : Int32) (xmd2 : Int32) (xtr2 : Int32) (xhng : Nat → Int32) (xhtg : Nat → Int32) (xhjg : Nat → Int32) (xhmg : Nat → Int32) (xhbg : Nat → Int32) (xhsg : Nat → Int32) (xhcg : Nat → Int32) (xhnk : Int32) (xhtk : Int32) (xhjk : Int32) (xhmk : Int32) (xhbk : Int32) (xhsk : Int32) (xhck : Int32), (R_h_copyFromX xrf xmf xwf xpf xhnf xhtf xhjf xhmf xhbf xhsf xhcf ymd ytr yrn yrf ymn ymf ywn ywf ypn ypf yhnn yhnf yhtn yhtf yhjn yhjf yhmn yhmf yhbn yhbf yhsn yhsf yhcn yhcf xrg xmg xwg xpg xrk xmk xwk xpk xmd2 xtr2 xhng xhtg xhjg xhmg xhbg xhsg xhcg xhnk xhtk xhjk xhmk xhbk xhsk xhck) ∧ w = ((cO3_rrrrrrrr h0 xs xhn xht xhj xhm xhb xhs xhc) :: (cO7_rrrrii xs xr xm xw xp xmd2 xtr2) :: (cO8_iiri xr 8 3 xrc xrk) :: (cAI g xrc 24 xrg) :: (cO8_iiri xm 12 3 xmc xmk) :: (cAI g xmc 36 xmg) :: (cO8_iiri xw 6 3 xwc xwk) :: (cAI g xwc 18 xwg) :: (cO8_iiri xp 8 2 xpc xpk) :: (cAI g xpc 16 xpg) :: (cO8_iiri xhn 1 6 xhnc xhnk) :: (cAI g xhnc 6 xhng) :: (cO8_iiri xht 4 1 xhtc xhtk) :: (cAI g xhtc 4 xhtg) :: (cO8_iiri xhj 8 2 xhjc xhjk) :: (cAI g xhjc 16 xhjg) :: (cO8_iiri xhm 4 3 xhmc xhmk) :: (cAI g xhmc 12 xhmg) :: (cO8_iiri xhb 1 3 xhbc xhbk) :: (cAI g xhbc 3 xhbg) :: (cO8_iiri xhs 6 3 xhsc xhsk) :: (cAI g xhsc 18 xhsg) :: (cO8_iiri xhc 6 2 xhcc xhck) :: (cAI g xhcc 12 xhcg) :: (cO3_rrrrrrrr h1 ys yhn yht yhj yhm yhb yhs yhc) :: (cO7_rrrrii ys yr ym yw yp ymd ytr) :: (cO8_iiri yr 8 3 yrc yrn) :: (cAI g yrc 24 yrf) :: (cO8_iiri ym 12 3 ymc ymn) :: (cAI g ymc 36 ymf) :: (cO8_iiri yw 6 3 ywc ywn) :: (cAI g ywc 18 ywf) :: (cO8_iiri yp 8 2 ypc ypn) :: (cAI g ypc 16 ypf) :: (cO8_iiri yhn 1 6 yhnc yhnn) :: (cAI g yhnc 6 yhnf) :: (cO8_iiri yht 4 1 yhtc yhtn) :: (cAI g yhtc 4 yhtf) :: (cO8_iiri yhj 8 2 yhjc yhjn) :: (cAI g yhjc 16 yhjf) :: (cO8_iiri yhm 4 3 yhmc yhmn) :: (cAI g yhmc 12 yhmf) :: (cO8_iiri yhb 1 3 yhbc yhbn) :: (cAI g yhbc 3 yhbf) :: (cO8_iiri yhs 6 3 yhsc yhsn) :: (cAI g yhsc 18 yhsf) :: (cO8_iiri yhc 6 2 yhcc yhcn) :: (cAI g yhcc 12 yhcf) :: [])) := by
  refine cV.of (by decide) (Nat.le_of_ble_eq_true rfl) ?_
  intro p e s m args below meth c A X hr hi
  refine k_lveq [(0, .ref h0), (1, .ref h1)] rfl ?_
  refine k_aload_n X dX3_copyFrom_0 1 rfl ?_
  refine k_ifnonnull 5 X dX3_copyFrom_1 (by decide) ?_
  refine k_aload_n X dX3_copyFrom_5 0 rfl ?_
  refine k_get (ci := 3) X inlX3 rfl 0 (by decide) dX3_copyFrom_6 mw77 0 rfl rfl ?_
  refine k_aload_n X dX3_copyFrom_9 1 rfl ?_
  refine k_get (ci := 3) X inlX3 rfl 0 (by decide) dX3_copyFrom_10 mw77 24 rfl rfl ?_
  refine k_callVV (n := 1) (As := [.ref ys]) (st := []) X [(cO7_rrrrii xs xr xm xw xp xmd xtr), (cO8_iiri xr 8 3 xrc xrn), (cAI g xrc 24 xrf), (cO8_iiri xm 12 3 xmc xmn), (cAI g xmc 36 xmf), (cO8_iiri xw 6 3 xwc xwn), (cAI g xwc 18 xwf), (cO8_iiri xp 8 2 xpc xpn), (cAI g xpc 16 xpf), (cO7_rrrrii ys yr ym yw yp ymd ytr), (cO8_iiri yr 8 3 yrc yrn), (cAI g yrc 24 yrf), (cO8_iiri ym 12 3 ymc ymn), (cAI g ymc 36 ymf), (cO8_iiri yw 6 3 ywc ywn), (cAI g ywc 18 ywf), (cO8_iiri yp 8 2 ypc ypn), (cAI g ypc 16 ypf)] ((cO3_rrrrrrrr h0 xs xhn xht xhj xhm xhb xhs xhc) :: (cO8_iiri xhn 1 6 xhnc xhnn) :: (cAI g xhnc 6 xhnf) :: (cO8_iiri xht 4 1 xhtc xhtn) :: (cAI g xhtc 4 xhtf) :: (cO8_iiri xhj 8 2 xhjc xhjn) :: (cAI g xhjc 16 xhjf) :: (cO8_iiri xhm 4 3 xhmc xhmn) :: (cAI g xhmc 12 xhmf) :: (cO8_iiri xhb 1 3 xhbc xhbn) :: (cAI g xhbc 3 xhbf) :: (cO8_iiri xhs 6 3 xhsc xhsn) :: (cAI g xhsc 18 xhsf) :: (cO8_iiri xhc 6 2 xhcc xhcn) :: (cAI g xhcc 12 xhcf) :: (cO3_rrrrrrrr h1 ys yhn yht yhj yhm yhb yhs yhc) :: (cO8_iiri yhn 1 6 yhnc yhnn) :: (cAI g yhnc 6 yhnf) :: (cO8_iiri yht 4 1 yhtc yhtn) :: (cAI g yhtc 4 yhtf) :: (cO8_iiri yhj 8 2 yhjc yhjn) :: (cAI g yhjc 16 yhjf) :: (cO8_iiri yhm 4 3 yhmc yhmn) :: (cAI g yhmc 12 yhmf) :: (cO8_iiri yhb 1 3 yhbc yhbn) :: (cAI g yhbc 3 yhbf) :: (cO8_iiri yhs 6 3 yhsc yhsn) :: (cAI g yhsc 18 yhsf) :: (cO8_iiri yhc 6 2 yhcc yhcn) :: (cAI g yhcc 12 yhcf) :: []) [1, 2, 3, 4, 5, 6, 7, 8, 9, 25, 26, 27, 28, 29, 30, 31, 32, 33] [0, 10, 11, 12, 13, 14, 15, 16, 17, 18, 19, 20, 21, 22, 23, 24, 34, 35, 36, 37, 38, 39, 40, 41, 42, 43, 44, 45, 46, 47] (s_copyFromX l g xs ys xr xm xw xp xmd xtr xrc xrn xrf xmc xmn xmf xwc xwn xwf xpc xpn xpf yr ym yw yp ymd ytr yrc yrn yrf ymc ymn ymf ywc ywn ywf ypc ypn ypf) dX3_copyFrom_13 mw442 mw443 mw444 mw23 mw445 rfl 7 rfl rfl 0 _ rfl yk_yX7_copyFrom_1 rfl (Nat.le_of_ble_eq_true rfl) (Nat.le_of_ble_eq_true rfl) (Nat.le_of_ble_eq_true rfl) (Nat.le_of_ble_eq_true rfl) (Nat.le_of_ble_eq_true rfl) rfl rfl (by decide) rfl (by decide) (by decide) ?_
  intro w zq
  refine exE10 zq ?_
  clear zq
  intro xrg_1 xmg_2 xwg_3 xpg_4 xrk_5 xmk_6 xwk_7 xpk_8 xmd2_9 xtr2_10 hq_12 zq
  subst zq
  refine k_ws ((cO3_rrrrrrrr h0 xs xhn xht xhj xhm xhb xhs xhc) :: (cO8_iiri xhn 1 6 xhnc xhnn) :: (cAI g xhnc 6 xhnf) :: (cO8_iiri xht 4 1 xhtc xhtn) :: (cAI g xhtc 4 xhtf) :: (cO8_iiri xhj 8 2 xhjc xhjn) :: (cAI g xhjc 16 xhjf) :: (cO8_iiri xhm 4 3 xhmc xhmn) :: (cAI g xhmc 12 xhmf) :: (cO8_iiri xhb 1 3 xhbc xhbn) :: (cAI g xhbc 3 xhbf) :: (cO8_iiri xhs 6 3 xhsc xhsn) :: (cAI g xhsc 18 xhsf) :: (cO8_iiri xhc 6 2 xhcc xhcn) :: (cAI g xhcc 12 xhcf) :: (cO3_rrrrrrrr h1 ys yhn yht yhj yhm yhb yhs yhc) :: (cO8_iiri yhn 1 6 yhnc yhnn) :: (cAI g yhnc 6 yhnf) :: (cO8_iiri yht 4 1 yhtc yhtn) :: (cAI g yhtc 4 yhtf) :: (cO8_iiri yhj 8 2 yhjc yhjn) :: (cAI g yhjc 16 yhjf) :: (cO8_iiri yhm 4 3 yhmc yhmn) :: (cAI g yhmc 12 yhmf) :: (cO8_iiri yhb 1 3 yhbc yhbn) :: (cAI g yhbc 3 yhbf) :: (cO8_iiri yhs 6 3 yhsc yhsn) :: (cAI g yhsc 18 yhsf) :: (cO8_iiri yhc 6 2 yhcc yhcn) :: (cAI g yhcc 12 yhcf) :: (cO7_rrrrii xs xr xm xw xp xmd2_9 xtr2_10) :: (cO8_iiri xr 8 3 xrc xrk_5) :: (cAI g xrc 24 xrg_1) :: (cO8_iiri xm 12 3 xmc xmk_6) :: (cAI g xmc 36 xmg_2) :: (cO8_iiri xw 6 3 xwc xwk_7) :: (cAI g xwc 18 xwg_3) :: (cO8_iiri xp 8 2 xpc xpk_8) :: (cAI g xpc 16 xpg_4) :: (cO7_rrrrii ys yr ym yw yp ymd ytr) :: (cO8_iiri yr 8 3 yrc yrn) :: (cAI g yrc 24 yrf) :: (cO8_iiri ym 12 3 ymc ymn) :: (cAI g ymc 36 ymf) :: (cO8_iiri yw 6 3 ywc ywn) :: (cAI g ywc 18 ywf) :: (cO8_iiri yp 8 2 ypc ypn) :: (cAI g ypc 16 ypf) :: []) rfl ?_
  refine k_aload_n X dX3_copyFrom_16 0 rfl ?_
  refine k_get (ci := 3) X inlX3 rfl 1 (by decide) dX3_copyFrom_17 mw79 0 rfl rfl ?_
  refine k_aload_n X dX3_copyFrom_20 1 rfl ?_
  refine k_get (ci := 3) X inlX3 rfl 1 (by decide) dX3_copyFrom_21 mw79 15 rfl rfl ?_
  refine k_callVV (n := 1) (As := [.ref yhn]) (st := []) X [(cO8_iiri xhn 1 6 xhnc xhnn), (cAI g xhnc 6 xhnf), (cO8_iiri yhn 1 6 yhnc yhnn), (cAI g yhnc 6 yhnf)] ((cO3_rrrrrrrr h0 xs xhn xht xhj xhm xhb xhs xhc) :: (cO8_iiri xht 4 1 xhtc xhtn) :: (cAI g xhtc 4 xhtf) :: (cO8_iiri xhj 8 2 xhjc xhjn) :: (cAI g xhjc 16 xhjf) :: (cO8_iiri xhm 4 3 xhmc xhmn) :: (cAI g xhmc 12 xhmf) :: (cO8_iiri xhb 1 3 xhbc xhbn) :: (cAI g xhbc 3 xhbf) :: (cO8_iiri xhs 6 3 xhsc xhsn) :: (cAI g xhsc 18 xhsf) :: (cO8_iiri xhc 6 2 xhcc xhcn) :: (cAI g xhcc 12 xhcf) :: (cO3_rrrrrrrr h1 ys yhn yht yhj yhm yhb yhs yhc) :: (cO8_iiri yht 4 1 yhtc yhtn) :: (cAI g yhtc 4 yhtf) :: (cO8_iiri yhj 8 2 yhjc yhjn) :: (cAI g yhjc 16 yhjf) :: (cO8_iiri yhm 4 3 yhmc yhmn) :: (cAI g yhmc 12 yhmf) :: (cO8_iiri yhb 1 3 yhbc yhbn) :: (cAI g yhbc 3 yhbf) :: (cO8_iiri yhs 6 3 yhsc yhsn) :: (cAI g yhsc 18 yhsf) :: (cO8_iiri yhc 6 2 yhcc yhcn) :: (cAI g yhcc 12 yhcf) :: (cO7_rrrrii xs xr xm xw xp xmd2_9 xtr2_10) :: (cO8_iiri xr 8 3 xrc xrk_5) :: (cAI g xrc 24 xrg_1) :: (cO8_iiri xm 12 3 xmc xmk_6) :: (cAI g xmc 36 xmg_2) :: (cO8_iiri xw 6 3 xwc xwk_7) :: (cAI g xwc 18 xwg_3) :: (cO8_iiri xp 8 2 xpc xpk_8) :: (cAI g xpc 16 xpg_4) :: (cO7_rrrrii ys yr ym yw yp ymd ytr) :: (cO8_iiri yr 8 3 yrc yrn) :: (cAI g yrc 24 yrf) :: (cO8_iiri ym 12 3 ymc ymn) :: (cAI g ymc 36 ymf) :: (cO8_iiri yw 6 3 ywc ywn) :: (cAI g ywc 18 ywf) :: (cO8_iiri yp 8 2 ypc ypn) :: (cAI g ypc 16 ypf) :: []) [1, 2, 16, 17] [0, 3, 4, 5, 6, 7, 8, 9, 10, 11, 12, 13, 14, 15, 18, 19, 20, 21, 22, 23, 24, 25, 26, 27, 28, 29, 30, 31, 32, 33, 34, 35, 36, 37, 38, 39, 40, 41, 42, 43, 44, 45, 46, 47] (t_copyFrom1_6X l g xhn yhn xhnc xhnn xhnf yhnc yhnn yhnf) dX3_copyFrom_24 mw454 mw447 mw448 mw64 mw449 rfl 8 rfl rfl 0 _ rfl yk_yX8_copyFrom_1 rfl (Nat.le_of_ble_eq_true rfl) (Nat.le_of_ble_eq_true rfl) (Nat.le_of_ble_eq_true rfl) (Nat.le_of_ble_eq_true rfl) (Nat.le_of_ble_eq_true rfl) rfl rfl (by decide) rfl (by decide) (by decide) ?_
  rintro w ⟨h0g_13, h0k_14, hq_16, rfl⟩
  refine k_ws ((cO3_rrrrrrrr h0 xs xhn xht xhj xhm xhb xhs xhc) :: (cO8_iiri xht 4 1 xhtc xhtn) :: (cAI g xhtc 4 xhtf) :: (cO8_iiri xhj 8 2 xhjc xhjn) :: (cAI g xhjc 16 xhjf) :: (cO8_iiri xhm 4 3 xhmc xhmn) :: (cAI g xhmc 12 xhmf) :: (cO8_iiri xhb 1 3 xhbc xhbn) :: (cAI g xhbc 3 xhbf) :: (cO8_iiri xhs 6 3 xhsc xhsn) :: (cAI g xhsc 18 xhsf) :: (cO8_iiri xhc 6 2 xhcc xhcn) :: (cAI g xhcc 12 xhcf) :: (cO3_rrrrrrrr h1 ys yhn yht yhj yhm yhb yhs yhc) :: (cO8_iiri yht 4 1 yhtc yhtn) :: (cAI g yhtc 4 yhtf) :: (cO8_iiri yhj 8 2 yhjc yhjn) :: (cAI g yhjc 16 yhjf) :: (cO8_iiri yhm 4 3 yhmc yhmn) :: (cAI g yhmc 12 yhmf) :: (cO8_iiri yhb 1 3 yhbc yhbn) :: (cAI g yhbc 3 yhbf) :: (cO8_iiri yhs 6 3 yhsc yhsn) :: (cAI g yhsc 18 yhsf) :: (cO8_iiri yhc 6 2 yhcc yhcn) :: (cAI g yhcc 12 yhcf) :: (cO7_rrrrii xs xr xm xw xp xmd2_9 xtr2_10) :: (cO8_iiri xr 8 3 xrc xrk_5) :: (cAI g xrc 24 xrg_1) :: (cO8_iiri xm 12 3 xmc xmk_6) :: (cAI g xmc 36 xmg_2) :: (cO8_iiri xw 6 3 xwc xwk_7) :: (cAI g xwc 18 xwg_3) :: (cO8_iiri xp 8 2 xpc xpk_8) :: (cAI g xpc 16 xpg_4) :: (cO7_rrrrii ys yr ym yw yp ymd ytr) :: (cO8_iiri yr 8 3 yrc yrn) :: (cAI g yrc 24 yrf) :: (cO8_iiri ym 12 3 ymc ymn) :: (cAI g ymc 36 ymf) :: (cO8_iiri yw 6 3 ywc ywn) :: (cAI g ywc 18 ywf) :: (cO8_iiri yp 8 2 ypc ypn) :: (cAI g ypc 16 ypf) :: (cO8_iiri xhn 1 6 xhnc h0k_14) :: (cAI g xhnc 6 h0g_13) :: (cO8_iiri yhn 1 6 yhnc yhnn) :: (cAI g yhnc 6 yhnf) :: []) rfl ?_
  refine k_aload_n X dX3_copyFrom_27 0 rfl ?_
  refine k_get (ci := 3) X inlX3 rfl 2 (by decide) dX3_copyFrom_28 mw80 0 rfl rfl ?_
  refine k_aload_n X dX3_copyFrom_31 1 rfl ?_
  refine k_get (ci := 3) X inlX3 rfl 2 (by decide) dX3_copyFrom_32 mw80 13 rfl rfl ?_
  refine k_callVV (n := 1) (As := [.ref yht]) (st := []) X [(cO8_iiri xht 4 1 xhtc xhtn), (cAI g xhtc 4 xhtf), (cO8_iiri yht 4 1 yhtc yhtn), (cAI g yhtc 4 yhtf)] ((cO3_rrrrrrrr h0 xs xhn xht xhj xhm xhb xhs xhc) :: (cO8_iiri xhj 8 2 xhjc xhjn) :: (cAI g xhjc 16 xhjf) :: (cO8_iiri xhm 4 3 xhmc xhmn) :: (cAI g xhmc 12 xhmf) :: (cO8_iiri xhb 1 3 xhbc xhbn) :: (cAI g xhbc 3 xhbf) :: (cO8_iiri xhs 6 3 xhsc xhsn) :: (cAI g xhsc 18 xhsf) :: (cO8_iiri xhc 6 2 xhcc xhcn) :: (cAI g xhcc 12 xhcf) :: (cO3_rrrrrrrr h1 ys yhn yht yhj yhm yhb yhs yhc) :: (cO8_iiri yhj 8 2 yhjc yhjn) :: (cAI g yhjc 16 yhjf) :: (cO8_iiri yhm 4 3 yhmc yhmn) :: (cAI g yhmc 12 yhmf) :: (cO8_iiri yhb 1 3 yhbc yhbn) :: (cAI g yhbc 3 yhbf) :: (cO8_iiri yhs 6 3 yhsc yhsn) :: (cAI g yhsc 18 yhsf) :: (cO8_iiri yhc 6 2 yhcc yhcn) :: (cAI g yhcc 12 yhcf) :: (cO7_rrrrii xs xr xm xw xp xmd2_9 xtr2_10) :: (cO8_iiri xr 8 3 xrc xrk_5) :: (cAI g xrc 24 xrg_1) :: (cO8_iiri xm 12 3 xmc xmk_6) :: (cAI g xmc 36 xmg_2) :: (cO8_iiri xw 6 3 xwc xwk_7) :: (cAI g xwc 18 xwg_3) :: (cO8_iiri xp 8 2 xpc xpk_8) :: (cAI g xpc 16 xpg_4) :: (cO7_rrrrii ys yr ym yw yp ymd ytr) :: (cO8_iiri yr 8 3 yrc yrn) :: (cAI g yrc 24 yrf) :: (cO8_iiri ym 12 3 ymc ymn) :: (cAI g ymc 36 ymf) :: (cO8_iiri yw 6 3 ywc ywn) :: (cAI g ywc 18 ywf) :: (cO8_iiri yp 8 2 ypc ypn) :: (cAI g ypc 16 ypf) :: (cO8_iiri xhn 1 6 xhnc h0k_14) :: (cAI g xhnc 6 h0g_13) :: (cO8_iiri yhn 1 6 yhnc yhnn) :: (cAI g yhnc 6 yhnf) :: []) [1, 2, 14, 15] [0, 3, 4, 5, 6, 7, 8, 9, 10, 11, 12, 13, 16, 17, 18, 19, 20, 21, 22, 23, 24, 25, 26, 27, 28, 29, 30, 31, 32, 33, 34, 35, 36, 37, 38, 39, 40, 41, 42, 43, 44, 45, 46, 47] (t_copyFrom4_1X l g xht yht xhtc xhtn xhtf yhtc yhtn yhtf) dX3_copyFrom_35 mw454 mw447 mw448 mw64 mw449 rfl 8 rfl rfl 0 _ rfl yk_yX8_copyFrom_1 rfl (Nat.le_of_ble_eq_true rfl) (Nat.le_of_ble_eq_true rfl) (Nat.le_of_ble_eq_true rfl) (Nat.le_of_ble_eq_true rfl) (Nat.le_of_ble_eq_true rfl) rfl rfl (by decide) rfl (by decide) (by decide) ?_
  rintro w ⟨h0g_17, h0k_18, hq_20, rfl⟩
  refine k_ws ((cO3_rrrrrrrr h0 xs xhn xht xhj xhm xhb xhs xhc) :: (cO8_iiri xhj 8 2 xhjc xhjn) :: (cAI g xhjc 16 xhjf) :: (cO8_iiri xhm 4 3 xhmc xhmn) :: (cAI g xhmc 12 xhmf) :: (cO8_iiri xhb 1 3 xhbc xhbn) :: (cAI g xhbc 3 xhbf) :: (cO8_iiri xhs 6 3 xhsc xhsn) :: (cAI g xhsc 18 xhsf) :: (cO8_iiri xhc 6 2 xhcc xhcn) :: (cAI g xhcc 12 xhcf) :: (cO3_rrrrrrrr h1 ys yhn yht yhj yhm yhb yhs yhc) :: (cO8_iiri yhj 8 2 yhjc yhjn) :: (cAI g yhjc 16 yhjf) :: (cO8_iiri yhm 4 3 yhmc yhmn) :: (cAI g yhmc 12 yhmf) :: (cO8_iiri yhb 1 3 yhbc yhbn) :: (cAI g yhbc 3 yhbf) :: (cO8_iiri yhs 6 3 yhsc yhsn) :: (cAI g yhsc 18 yhsf) :: (cO8_iiri yhc 6 2 yhcc yhcn) :: (cAI g yhcc 12 yhcf) :: (cO7_rrrrii xs xr xm xw xp xmd2_9 xtr2_10) :: (cO8_iiri xr 8 3 xrc xrk_5) :: (cAI g xrc 24 xrg_1) :: (cO8_iiri xm 12 3 xmc xmk_6) :: (cAI g xmc 36 xmg_2) :: (cO8_iiri xw 6 3 xwc xwk_7) :: (cAI g xwc 18 xwg_3) :: (cO8_iiri xp 8 2 xpc xpk_8) :: (cAI g xpc 16 xpg_4) :: (cO7_rrrrii ys yr ym yw yp ymd ytr) :: (cO8_iiri yr 8 3 yrc yrn) :: (cAI g yrc 24 yrf) :: (cO8_iiri ym 12 3 ymc ymn) :: (cAI g ymc 36 ymf) :: (cO8_iiri yw 6 3 ywc ywn) :: (cAI g ywc 18 ywf) :: (cO8_iiri yp 8 2 ypc ypn) :: (cAI g ypc 16 ypf) :: (cO8_iiri xhn 1 6 xhnc h0k_14) :: (cAI g xhnc 6 h0g_13) :: (cO8_iiri yhn 1 6 yhnc yhnn) :: (cAI g yhnc 6 yhnf) :: (cO8_iiri xht 4 1 xhtc h0k_18) :: (cAI g xhtc 4 h0g_17) :: (cO8_iiri yht 4 1 yhtc yhtn) :: (cAI g yhtc 4 yhtf) :: []) rfl ?_
  refine k_aload_n X dX3_copyFrom_38 0 rfl ?_
  refine k_get (ci := 3) X inlX3 rfl 3 (by decide) dX3_copyFrom_39 mw81 0 rfl rfl ?_
  refine k_aload_n X dX3_copyFrom_42 1 rfl ?_
  refine k_get (ci := 3) X inlX3 rfl 3 (by decide) dX3_copyFrom_43 mw81 11 rfl rfl ?_
  refine k_callVV (n := 1) (As := [.ref yhj]) (st := []) X [(cO8_iiri xhj 8 2 xhjc xhjn), (cAI g xhjc 16 xhjf), (cO8_iiri yhj 8 2 yhjc yhjn), (cAI g yhjc 16 yhjf)] ((cO3_rrrrrrrr h0 xs xhn xht xhj xhm xhb xhs xhc) :: (cO8_iiri xhm 4 3 xhmc xhmn) :: (cAI g xhmc 12 xhmf) :: (cO8_iiri xhb 1 3 xhbc xhbn) :: (cAI g xhbc 3 xhbf) :: (cO8_iiri xhs 6 3 xhsc xhsn) :: (cAI g xhsc 18 xhsf) :: (cO8_iiri xhc 6 2 xhcc xhcn) :: (cAI g xhcc 12 xhcf) :: (cO3_rrrrrrrr h1 ys yhn yht yhj yhm yhb yhs yhc) :: (cO8_iiri yhm 4 3 yhmc yhmn) :: (cAI g yhmc 12 yhmf) :: (cO8_iiri yhb 1 3 yhbc yhbn) :: (cAI g yhbc 3 yhbf) :: (cO8_iiri yhs 6 3 yhsc yhsn) :: (cAI g yhsc 18 yhsf) :: (cO8_iiri yhc 6 2 yhcc yhcn) :: (cAI g yhcc 12 yhcf) :: (cO7_rrrrii xs xr xm xw xp xmd2_9 xtr2_10) :: (cO8_iiri xr 8 3 xrc xrk_5) :: (cAI g xrc 24 xrg_1) :: (cO8_iiri xm 12 3 xmc xmk_6) :: (cAI g xmc 36 xmg_2) :: (cO8_iiri xw 6 3 xwc xwk_7) :: (cAI g xwc 18 xwg_3) :: (cO8_iiri xp 8 2 xpc xpk_8) :: (cAI g xpc 16 xpg_4) :: (cO7_rrrrii ys yr ym yw yp ymd ytr) :: (cO8_iiri yr 8 3 yrc yrn) :: (cAI g yrc 24 yrf) :: (cO8_iiri ym 12 3 ymc ymn) :: (cAI g ymc 36 ymf) :: (cO8_iiri yw 6 3 ywc ywn) :: (cAI g ywc 18 ywf) :: (cO8_iiri yp 8 2 ypc ypn) :: (cAI g ypc 16 ypf) :: (cO8_iiri xhn 1 6 xhnc h0k_14) :: (cAI g xhnc 6 h0g_13) :: (cO8_iiri yhn 1 6 yhnc yhnn) :: (cAI g yhnc 6 yhnf) :: (cO8_iiri xht 4 1 xhtc h0k_18) :: (cAI g xhtc 4 h0g_17) :: (cO8_iiri yht 4 1 yhtc yhtn) :: (cAI g yhtc 4 yhtf) :: []) [1, 2, 12, 13] [0, 3, 4, 5, 6, 7, 8, 9, 10, 11, 14, 15, 16, 17, 18, 19, 20, 21, 22, 23, 24, 25, 26, 27, 28, 29, 30, 31, 32, 33, 34, 35, 36, 37, 38, 39, 40, 41, 42, 43, 44, 45, 46, 47] (t_copyFrom8_2X l g xhj yhj xhjc xhjn xhjf yhjc yhjn yhjf) dX3_copyFrom_46 mw454 mw447 mw448 mw64 mw449 rfl 8 rfl rfl 0 _ rfl yk_yX8_copyFrom_1 rfl (Nat.le_of_ble_eq_true rfl) (Nat.le_of_ble_eq_true rfl) (Nat.le_of_ble_eq_true rfl) (Nat.le_of_ble_eq_true rfl) (Nat.le_of_ble_eq_true rfl) rfl rfl (by decide) rfl (by decide) (by decide) ?_
  rintro w ⟨h0g_21, h0k_22, hq_24, rfl⟩
  refine k_ws ((cO3_rrrrrrrr h0 xs xhn xht xhj xhm xhb xhs xhc) :: (cO8_iiri xhm 4 3 xhmc xhmn) :: (cAI g xhmc 12 xhmf) :: (cO8_iiri xhb 1 3 xhbc xhbn) :: (cAI g xhbc 3 xhbf) :: (cO8_iiri xhs 6 3 xhsc xhsn) :: (cAI g xhsc 18 xhsf) :: (cO8_iiri xhc 6 2 xhcc xhcn) :: (cAI g xhcc 12 xhcf) :: (cO3_rrrrrrrr h1 ys yhn yht yhj yhm yhb yhs yhc) :: (cO8_iiri yhm 4 3 yhmc yhmn) :: (cAI g yhmc 12 yhmf) :: (cO8_iiri yhb 1 3 yhbc yhbn) :: (cAI g yhbc 3 yhbf) :: (cO8_iiri yhs 6 3 yhsc yhsn) :: (cAI g yhsc 18 yhsf) :: (cO8_iiri yhc 6 2 yhcc yhcn) :: (cAI g yhcc 12 yhcf) :: (cO7_rrrrii xs xr xm xw xp xmd2_9 xtr2_10) :: (cO8_iiri xr 8 3 xrc xrk_5) :: (cAI g xrc 24 xrg_1) :: (cO8_iiri xm 12 3 xmc xmk_6) :: (cAI g xmc 36 xmg_2) :: (cO8_iiri xw 6 3 xwc xwk_7) :: (cAI g xwc 18 xwg_3) :: (cO8_iiri xp 8 2 xpc xpk_8) :: (cAI g xpc 16 xpg_4) :: (cO7_rrrrii ys yr ym yw yp ymd ytr) :: (cO8_iiri yr 8 3 yrc yrn) :: (cAI g yrc 24 yrf) :: (cO8_iiri ym 12 3 ymc ymn) :: (cAI g ymc 36 ymf) :: (cO8_iiri yw 6 3 ywc ywn) :: (cAI g ywc 18 ywf) :: (cO8_iiri yp 8 2 ypc ypn) :: (cAI g ypc 16 ypf) :: (cO8_iiri xhn 1 6 xhnc h0k_14) :: (cAI g xhnc 6 h0g_13) :: (cO8_iiri yhn 1 6 yhnc yhnn) :: (cAI g yhnc 6 yhnf) :: (cO8_iiri xht 4 1 xhtc h0k_18) :: (cAI g xhtc 4 h0g_17) :: (cO8_iiri yht 4 1 yhtc yhtn) :: (cAI g yhtc 4 yhtf) :: (cO8_iiri xhj 8 2 xhjc h0k_22) :: (cAI g xhjc 16 h0g_21) :: (cO8_iiri yhj 8 2 yhjc yhjn) :: (cAI g yhjc 16 yhjf) :: []) rfl ?_
  refine k_aload_n X dX3_copyFrom_49 0 rfl ?_
  refine k_get (ci := 3) X inlX3 rfl 4 (by decide) dX3_copyFrom_50 mw82 0 rfl rfl ?_
  refine k_aload_n X dX3_copyFrom_53 1 rfl ?_
  refine k_get (ci := 3) X inlX3 rfl 4 (by decide) dX3_copyFrom_54 mw82 9 rfl rfl ?_
  refine k_callVV (n := 1) (As := [.ref yhm]) (st := []) X [(cO8_iiri xhm 4 3 xhmc xhmn), (cAI g xhmc 12 xhmf), (cO8_iiri yhm 4 3 yhmc yhmn), (cAI g yhmc 12 yhmf)] ((cO3_rrrrrrrr h0 xs xhn xht xhj xhm xhb xhs xhc) :: (cO8_iiri xhb 1 3 xhbc xhbn) :: (cAI g xhbc 3 xhbf) :: (cO8_iiri xhs 6 3 xhsc xhsn) :: (cAI g xhsc 18 xhsf) :: (cO8_iiri xhc 6 2 xhcc xhcn) :: (cAI g xhcc 12 xhcf) :: (cO3_rrrrrrrr h1 ys yhn yht yhj yhm yhb yhs yhc) :: (cO8_iiri yhb 1 3 yhbc yhbn) :: (cAI g yhbc 3 yhbf) :: (cO8_iiri yhs 6 3 yhsc yhsn) :: (cAI g yhsc 18 yhsf) :: (cO8_iiri yhc 6 2 yhcc yhcn) :: (cAI g yhcc 12 yhcf) :: (cO7_rrrrii xs xr xm xw xp xmd2_9 xtr2_10) :: (cO8_iiri xr 8 3 xrc xrk_5) :: (cAI g xrc 24 xrg_1) :: (cO8_iiri xm 12 3 xmc xmk_6) :: (cAI g xmc 36 xmg_2) :: (cO8_iiri xw 6 3 xwc xwk_7) :: (cAI g xwc 18 xwg_3) :: (cO8_iiri xp 8 2 xpc xpk_8) :: (cAI g xpc 16 xpg_4) :: (cO7_rrrrii ys yr ym yw yp ymd ytr) :: (cO8_iiri yr 8 3 yrc yrn) :: (cAI g yrc 24 yrf) :: (cO8_iiri ym 12 3 ymc ymn) :: (cAI g ymc 36 ymf) :: (cO8_iiri yw 6 3 ywc ywn) :: (cAI g ywc 18 ywf) :: (cO8_iiri yp 8 2 ypc ypn) :: (cAI g ypc 16 ypf) :: (cO8_iiri xhn 1 6 xhnc h0k_14) :: (cAI g xhnc 6 h0g_13) :: (cO8_iiri yhn 1 6 yhnc yhnn) :: (cAI g yhnc 6 yhnf) :: (cO8_iiri xht 4 1 xhtc h0k_18) :: (cAI g xhtc 4 h0g_17) :: (cO8_iiri yht 4 1 yhtc yhtn) :: (cAI g yhtc 4 yhtf) :: (cO8_iiri xhj 8 2 xhjc h0k_22) :: (cAI g xhjc 16 h0g_21) :: (cO8_iiri yhj 8 2 yhjc yhjn) :: (cAI g yhjc 16 yhjf) :: []) [1, 2, 10, 11] [0, 3, 4, 5, 6, 7, 8, 9, 12, 13, 14, 15, 16, 17, 18, 19, 20, 21, 22, 23, 24, 25, 26, 27, 28, 29, 30, 31, 32, 33, 34, 35, 36, 37, 38, 39, 40, 41, 42, 43, 44, 45, 46, 47] (t_copyFrom4_3X l g xhm yhm xhmc xhmn xhmf yhmc yhmn yhmf) dX3_copyFrom_57 mw454 mw447 mw448 mw64 mw449 rfl 8 rfl rfl 0 _ rfl yk_yX8_copyFrom_1 rfl (Nat.le_of_ble_eq_true rfl) (Nat.le_of_ble_eq_true rfl) (Nat.le_of_ble_eq_true rfl) (Nat.le_of_ble_eq_true rfl) (Nat.le_of_ble_eq_true rfl) rfl rfl (by decide) rfl (by decide) (by decide) ?_
  rintro w ⟨h0g_25, h0k_26, hq_28, rfl⟩
  refine k_ws ((cO3_rrrrrrrr h0 xs xhn xht xhj xhm xhb xhs xhc) :: (cO8_iiri xhb 1 3 xhbc xhbn) :: (cAI g xhbc 3 xhbf) :: (cO8_iiri xhs 6 3 xhsc xhsn) :: (cAI g xhsc 18 xhsf) :: (cO8_iiri xhc 6 2 xhcc xhcn) :: (cAI g xhcc 12 xhcf) :: (cO3_rrrrrrrr h1 ys yhn yht yhj yhm yhb yhs yhc) :: (cO8_iiri yhb 1 3 yhbc yhbn) :: (cAI g yhbc 3 yhbf) :: (cO8_iiri yhs 6 3 yhsc yhsn) :: (cAI g yhsc 18 yhsf) :: (cO8_iiri yhc 6 2 yhcc yhcn) :: (cAI g yhcc 12 yhcf) :: (cO7_rrrrii xs xr xm xw xp xmd2_9 xtr2_10) :: (cO8_iiri xr 8 3 xrc xrk_5) :: (cAI g xrc 24 xrg_1) :: (cO8_iiri xm 12 3 xmc xmk_6) :: (cAI g xmc 36 xmg_2) :: (cO8_iiri xw 6 3 xwc xwk_7) :: (cAI g xwc 18 xwg_3) :: (cO8_iiri xp 8 2 xpc xpk_8) :: (cAI g xpc 16 xpg_4) :: (cO7_rrrrii ys yr ym yw yp ymd ytr) :: (cO8_iiri yr 8 3 yrc yrn) :: (cAI g yrc 24 yrf) :: (cO8_iiri ym 12 3 ymc ymn) :: (cAI g ymc 36 ymf) :: (cO8_iiri yw 6 3 ywc ywn) :: (cAI g ywc 18 ywf) :: (cO8_iiri yp 8 2 ypc ypn) :: (cAI g ypc 16 ypf) :: (cO8_iiri xhn 1 6 xhnc h0k_14) :: (cAI g xhnc 6 h0g_13) :: (cO8_iiri yhn 1 6 yhnc yhnn) :: (cAI g yhnc 6 yhnf) :: (cO8_iiri xht 4 1 xhtc h0k_18) :: (cAI g xhtc 4 h0g_17) :: (cO8_iiri yht 4 1 yhtc yhtn) :: (cAI g yhtc 4 yhtf) :: (cO8_iiri xhj 8 2 xhjc h0k_22) :: (cAI g xhjc 16 h0g_21) :: (cO8_iiri yhj 8 2 yhjc yhjn) :: (cAI g yhjc 16 yhjf) :: (cO8_iiri xhm 4 3 xhmc h0k_26) :: (cAI g xhmc 12 h0g_25) :: (cO8_iiri yhm 4 3 yhmc yhmn) :: (cAI g yhmc 12 yhmf) :: []) rfl ?_
  refine k_aload_n X dX3_copyFrom_60 0 rfl ?_
  refine k_get (ci := 3) X inlX3 rfl 5 (by decide) dX3_copyFrom_61 mw83 0 rfl rfl ?_
  refine k_aload_n X dX3_copyFrom_64 1 rfl ?_
  refine k_get (ci := 3) X inlX3 rfl 5 (by decide) dX3_copyFrom_65 mw83 7 rfl rfl ?_
  refine k_callVV (n := 1) (As := [.ref yhb]) (st := []) X [(cO8_iiri xhb 1 3 xhbc xhbn), (cAI g xhbc 3 xhbf), (cO8_iiri yhb 1 3 yhbc yhbn), (cAI g yhbc 3 yhbf)] ((cO3_rrrrrrrr h0 xs xhn xht xhj xhm xhb xhs xhc) :: (cO8_iiri xhs 6 3 xhsc xhsn) :: (cAI g xhsc 18 xhsf) :: (cO8_iiri xhc 6 2 xhcc xhcn) :: (cAI g xhcc 12 xhcf) :: (cO3_rrrrrrrr h1 ys yhn yht yhj yhm yhb yhs yhc) :: (cO8_iiri yhs 6 3 yhsc yhsn) :: (cAI g yhsc 18 yhsf) :: (cO8_iiri yhc 6 2 yhcc yhcn) :: (cAI g yhcc 12 yhcf) :: (cO7_rrrrii xs xr xm xw xp xmd2_9 xtr2_10) :: (cO8_iiri xr 8 3 xrc xrk_5) :: (cAI g xrc 24 xrg_1) :: (cO8_iiri xm 12 3 xmc xmk_6) :: (cAI g xmc 36 xmg_2) :: (cO8_iiri xw 6 3 xwc xwk_7) :: (cAI g xwc 18 xwg_3) :: (cO8_iiri xp 8 2 xpc xpk_8) :: (cAI g xpc 16 xpg_4) :: (cO7_rrrrii ys yr ym yw yp ymd ytr) :: (cO8_iiri yr 8 3 yrc yrn) :: (cAI g yrc 24 yrf) :: (cO8_iiri ym 12 3 ymc ymn) :: (cAI g ymc 36 ymf) :: (cO8_iiri yw 6 3 ywc ywn) :: (cAI g ywc 18 ywf) :: (cO8_iiri yp 8 2 ypc ypn) :: (cAI g ypc 16 ypf) :: (cO8_iiri xhn 1 6 xhnc h0k_14) :: (cAI g xhnc 6 h0g_13) :: (cO8_iiri yhn 1 6 yhnc yhnn) :: (cAI g yhnc 6 yhnf) :: (cO8_iiri xht 4 1 xhtc h0k_18) :: (cAI g xhtc 4 h0g_17) :: (cO8_iiri yht 4 1 yhtc yhtn) :: (cAI g yhtc 4 yhtf) :: (cO8_iiri xhj 8 2 xhjc h0k_22) :: (cAI g xhjc 16 h0g_21) :: (cO8_iiri yhj 8 2 yhjc yhjn) :: (cAI g yhjc 16 yhjf) :: (cO8_iiri xhm 4 3 xhmc h0k_26) :: (cAI g xhmc 12 h0g_25) :: (cO8_iiri yhm 4 3 yhmc yhmn) :: (cAI g yhmc 12 yhmf) :: []) [1, 2, 8, 9] [0, 3, 4, 5, 6, 7, 10, 11, 12, 13, 14, 15, 16, 17, 18, 19, 20, 21, 22, 23, 24, 25, 26, 27, 28, 29, 30, 31, 32, 33, 34, 35, 36, 37, 38, 39, 40, 41, 42, 43, 44, 45, 46, 47] (t_copyFrom1_3X l g xhb yhb xhbc xhbn xhbf yhbc yhbn yhbf) dX3_copyFrom_68 mw454 mw447 mw448 mw64 mw449 rfl 8 rfl rfl 0 _ rfl yk_yX8_copyFrom_1 rfl (Nat.le_of_ble_eq_true rfl) (Nat.le_of_ble_eq_true rfl) (Nat.le_of_ble_eq_true rfl) (Nat.le_of_ble_eq_true rfl) (Nat.le_of_ble_eq_true rfl) rfl rfl (by decide) rfl (by decide) (by decide) ?_
  rintro w ⟨h0g_29, h0k_30, hq_32, rfl⟩
  refine k_ws ((cO3_rrrrrrrr h0 xs xhn xht xhj xhm xhb xhs xhc) :: (cO8_iiri xhs 6 3 xhsc xhsn) :: (cAI g xhsc 18 xhsf) :: (cO8_iiri xhc 6 2 xhcc xhcn) :: (cAI g xhcc 12 xhcf) :: (cO3_rrrrrrrr h1 ys yhn yht yhj yhm yhb yhs yhc) :: (cO8_iiri yhs 6 3 yhsc yhsn) :: (cAI g yhsc 18 yhsf) :: (cO8_iiri yhc 6 2 yhcc yhcn) :: (cAI g yhcc 12 yhcf) :: (cO7_rrrrii xs xr xm xw xp xmd2_9 xtr2_10) :: (cO8_iiri xr 8 3 xrc xrk_5) :: (cAI g xrc 24 xrg_1) :: (cO8_iiri xm 12 3 xmc xmk_6) :: (cAI g xmc 36 xmg_2) :: (cO8_iiri xw 6 3 xwc xwk_7) :: (cAI g xwc 18 xwg_3) :: (cO8_iiri xp 8 2 xpc xpk_8) :: (cAI g xpc 16 xpg_4) :: (cO7_rrrrii ys yr ym yw yp ymd ytr) :: (cO8_iiri yr 8 3 yrc yrn) :: (cAI g yrc 24 yrf) :: (cO8_iiri ym 12 3 ymc ymn) :: (cAI g ymc 36 ymf) :: (cO8_iiri yw 6 3 ywc ywn) :: (cAI g ywc 18 ywf) :: (cO8_iiri yp 8 2 ypc ypn) :: (cAI g ypc 16 ypf) :: (cO8_iiri xhn 1 6 xhnc h0k_14) :: (cAI g xhnc 6 h0g_13) :: (cO8_iiri yhn 1 6 yhnc yhnn) :: (cAI g yhnc 6 yhnf) :: (cO8_iiri xht 4 1 xhtc h0k_18) :: (cAI g xhtc 4 h0g_17) :: (cO8_iiri yht 4 1 yhtc yhtn) :: (cAI g yhtc 4 yhtf) :: (cO8_iiri xhj 8 2 xhjc h0k_22) :: (cAI g xhjc 16 h0g_21) :: (cO8_iiri yhj 8 2 yhjc yhjn) :: (cAI g yhjc 16 yhjf) :: (cO8_iiri xhm 4 3 xhmc h0k_26) :: (cAI g xhmc 12 h0g_25) :: (cO8_iiri yhm 4 3 yhmc yhmn) :: (cAI g yhmc 12 yhmf) :: (cO8_iiri xhb 1 3 xhbc h0k_30) :: (cAI g xhbc 3 h0g_29) :: (cO8_iiri yhb 1 3 yhbc yhbn) :: (cAI g yhbc 3 yhbf) :: []) rfl ?_
  refine k_aload_n X dX3_copyFrom_71 0 rfl ?_
  refine k_get (ci := 3) X inlX3 rfl 6 (by decide) dX3_copyFrom_72 mw84 0 rfl rfl ?_
  refine k_aload_n X dX3_copyFrom_75 1 rfl ?_
  refine k_get (ci := 3) X inlX3 rfl 6 (by decide) dX3_copyFrom_76 mw84 5 rfl rfl ?_
  refine k_callVV (n := 1) (As := [.ref yhs]) (st := []) X [(cO8_iiri xhs 6 3 xhsc xhsn), (cAI g xhsc 18 xhsf), (cO8_iiri yhs 6 3 yhsc yhsn), (cAI g yhsc 18 yhsf)] ((cO3_rrrrrrrr h0 xs xhn xht xhj xhm xhb xhs xhc) :: (cO8_iiri xhc 6 2 xhcc xhcn) :: (cAI g xhcc 12 xhcf) :: (cO3_rrrrrrrr h1 ys yhn yht yhj yhm yhb yhs yhc) :: (cO8_iiri yhc 6 2 yhcc yhcn) :: (cAI g yhcc 12 yhcf) :: (cO7_rrrrii xs xr xm xw xp xmd2_9 xtr2_10) :: (cO8_iiri xr 8 3 xrc xrk_5) :: (cAI g xrc 24 xrg_1) :: (cO8_iiri xm 12 3 xmc xmk_6) :: (cAI g xmc 36 xmg_2) :: (cO8_iiri xw 6 3 xwc xwk_7) :: (cAI g xwc 18 xwg_3) :: (cO8_iiri xp 8 2 xpc xpk_8) :: (cAI g xpc 16 xpg_4) :: (cO7_rrrrii ys yr ym yw yp ymd ytr) :: (cO8_iiri yr 8 3 yrc yrn) :: (cAI g yrc 24 yrf) :: (cO8_iiri ym 12 3 ymc ymn) :: (cAI g ymc 36 ymf) :: (cO8_iiri yw 6 3 ywc ywn) :: (cAI g ywc 18 ywf) :: (cO8_iiri yp 8 2 ypc ypn) :: (cAI g ypc 16 ypf) :: (cO8_iiri xhn 1 6 xhnc h0k_14) :: (cAI g xhnc 6 h0g_13) :: (cO8_iiri yhn 1 6 yhnc yhnn) :: (cAI g yhnc 6 yhnf) :: (cO8_iiri xht 4 1 xhtc h0k_18) :: (cAI g xhtc 4 h0g_17) :: (cO8_iiri yht 4 1 yhtc yhtn) :: (cAI g yhtc 4 yhtf) :: (cO8_iiri xhj 8 2 xhjc h0k_22) :: (cAI g xhjc 16 h0g_21) :: (cO8_iiri yhj 8 2 yhjc yhjn) :: (cAI g yhjc 16 yhjf) :: (cO8_iiri xhm 4 3 xhmc h0k_26) :: (cAI g xhmc 12 h0g_25) :: (cO8_iiri yhm 4 3 yhmc yhmn) :: (cAI g yhmc 12 yhmf) :: (cO8_iiri xhb 1 3 xhbc h0k_30) :: (cAI g xhbc 3 h0g_29) :: (cO8_iiri yhb 1 3 yhbc yhbn) :: (cAI g yhbc 3 yhbf) :: []) [1, 2, 6, 7] [0, 3, 4, 5, 8, 9, 10, 11, 12, 13, 14, 15, 16, 17, 18, 19, 20, 21, 22, 23, 24, 25, 26, 27, 28, 29, 30, 31, 32, 33, 34, 35, 36, 37, 38, 39, 40, 41, 42, 43, 44, 45, 46, 47] (t_copyFrom6_3X l g xhs yhs xhsc xhsn xhsf yhsc yhsn yhsf) dX3_copyFrom_79 mw454 mw447 mw448 mw64 mw449 rfl 8 rfl rfl 0 _ rfl yk_yX8_copyFrom_1 rfl (Nat.le_of_ble_eq_true rfl) (Nat.le_of_ble_eq_true rfl) (Nat.le_of_ble_eq_true rfl) (Nat.le_of_ble_eq_true rfl) (Nat.le_of_ble_eq_true rfl) rfl rfl (by decide) rfl (by decide) (by decide) ?_
  rintro w ⟨h0g_33, h0k_34, hq_36, rfl⟩
  refine k_ws ((cO3_rrrrrrrr h0 xs xhn xht xhj xhm xhb xhs xhc) :: (cO8_iiri xhc 6 2 xhcc xhcn) :: (cAI g xhcc 12 xhcf) :: (cO3_rrrrrrrr h1 ys yhn yht yhj yhm yhb yhs yhc) :: (cO8_iiri yhc 6 2 yhcc yhcn) :: (cAI g yhcc 12 yhcf) :: (cO7_rrrrii xs xr xm xw xp xmd2_9 xtr2_10) :: (cO8_iiri xr 8 3 xrc xrk_5) :: (cAI g xrc 24 xrg_1) :: (cO8_iiri xm 12 3 xmc xmk_6) :: (cAI g xmc 36 xmg_2) :: (cO8_iiri xw 6 3 xwc xwk_7) :: (cAI g xwc 18 xwg_3) :: (cO8_iiri xp 8 2 xpc xpk_8) :: (cAI g xpc 16 xpg_4) :: (cO7_rrrrii ys yr ym yw yp ymd ytr) :: (cO8_iiri yr 8 3 yrc yrn) :: (cAI g yrc 24 yrf) :: (cO8_iiri ym 12 3 ymc ymn) :: (cAI g ymc 36 ymf) :: (cO8_iiri yw 6 3 ywc ywn) :: (cAI g ywc 18 ywf) :: (cO8_iiri yp 8 2 ypc ypn) :: (cAI g ypc 16 ypf) :: (cO8_iiri xhn 1 6 xhnc h0k_14) :: (cAI g xhnc 6 h0g_13) :: (cO8_iiri yhn 1 6 yhnc yhnn) :: (cAI g yhnc 6 yhnf) :: (cO8_iiri xht 4 1 xhtc h0k_18) :: (cAI g xhtc 4 h0g_17) :: (cO8_iiri yht 4 1 yhtc yhtn) :: (cAI g yhtc 4 yhtf) :: (cO8_iiri xhj 8 2 xhjc h0k_22) :: (cAI g xhjc 16 h0g_21) :: (cO8_iiri yhj 8 2 yhjc yhjn) :: (cAI g yhjc 16 yhjf) :: (cO8_iiri xhm 4 3 xhmc h0k_26) :: (cAI g xhmc 12 h0g_25) :: (cO8_iiri yhm 4 3 yhmc yhmn) :: (cAI g yhmc 12 yhmf) :: (cO8_iiri xhb 1 3 xhbc h0k_30) :: (cAI g xhbc 3 h0g_29) :: (cO8_iiri yhb 1 3 yhbc yhbn) :: (cAI g yhbc 3 yhbf) :: (cO8_iiri xhs 6 3 xhsc h0k_34) :: (cAI g xhsc 18 h0g_33) :: (cO8_iiri yhs 6 3 yhsc yhsn) :: (cAI g yhsc 18 yhsf) :: []) rfl ?_
  refine k_aload_n X dX3_copyFrom_82 0 rfl ?_
  refine k_get (ci := 3) X inlX3 rfl 7 (by decide) dX3_copyFrom_83 mw85 0 rfl rfl ?_
  refine k_aload_n X dX3_copyFrom_86 1 rfl ?_
  refine k_get (ci := 3) X inlX3 rfl 7 (by decide) dX3_copyFrom_87 mw85 3 rfl rfl ?_
  refine k_callVV (n := 1) (As := [.ref yhc]) (st := []) X [(cO8_iiri xhc 6 2 xhcc xhcn), (cAI g xhcc 12 xhcf), (cO8_iiri yhc 6 2 yhcc yhcn), (cAI g yhcc 12 yhcf)] ((cO3_rrrrrrrr h0 xs xhn xht xhj xhm xhb xhs xhc) :: (cO3_rrrrrrrr h1 ys yhn yht yhj yhm yhb yhs yhc) :: (cO7_rrrrii xs xr xm xw xp xmd2_9 xtr2_10) :: (cO8_iiri xr 8 3 xrc xrk_5) :: (cAI g xrc 24 xrg_1) :: (cO8_iiri xm 12 3 xmc xmk_6) :: (cAI g xmc 36 xmg_2) :: (cO8_iiri xw 6 3 xwc xwk_7) :: (cAI g xwc 18 xwg_3) :: (cO8_iiri xp 8 2 xpc xpk_8) :: (cAI g xpc 16 xpg_4) :: (cO7_rrrrii ys yr ym yw yp ymd ytr) :: (cO8_iiri yr 8 3 yrc yrn) :: (cAI g yrc 24 yrf) :: (cO8_iiri ym 12 3 ymc ymn) :: (cAI g ymc 36 ymf) :: (cO8_iiri yw 6 3 ywc ywn) :: (cAI g ywc 18 ywf) :: (cO8_iiri yp 8 2 ypc ypn) :: (cAI g ypc 16 ypf) :: (cO8_iiri xhn 1 6 xhnc h0k_14) :: (cAI g xhnc 6 h0g_13) :: (cO8_iiri yhn 1 6 yhnc yhnn) :: (cAI g yhnc 6 yhnf) :: (cO8_iiri xht 4 1 xhtc h0k_18) :: (cAI g xhtc 4 h0g_17) :: (cO8_iiri yht 4 1 yhtc yhtn) :: (cAI g yhtc 4 yhtf) :: (cO8_iiri xhj 8 2 xhjc h0k_22) :: (cAI g xhjc 16 h0g_21) :: (cO8_iiri yhj 8 2 yhjc yhjn) :: (cAI g yhjc 16 yhjf) :: (cO8_iiri xhm 4 3 xhmc h0k_26) :: (cAI g xhmc 12 h0g_25) :: (cO8_iiri yhm 4 3 yhmc yhmn) :: (cAI g yhmc 12 yhmf) :: (cO8_iiri xhb 1 3 xhbc h0k_30) :: (cAI g xhbc 3 h0g_29) :: (cO8_iiri yhb 1 3 yhbc yhbn) :: (cAI g yhbc 3 yhbf) :: (cO8_iiri xhs 6 3 xhsc h0k_34) :: (cAI g xhsc 18 h0g_33) :: (cO8_iiri yhs 6 3 yhsc yhsn) :: (cAI g yhsc 18 yhsf) :: []) [1, 2, 4, 5] [0, 3, 6, 7, 8, 9, 10, 11, 12, 13, 14, 15, 16, 17, 18, 19, 20, 21, 22, 23, 24, 25, 26, 27, 28, 29, 30, 31, 32, 33, 34, 35, 36, 37, 38, 39, 40, 41, 42, 43, 44, 45, 46, 47] (t_copyFrom6_2X l g xhc yhc xhcc xhcn xhcf yhcc yhcn yhcf) dX3_copyFrom_90 mw454 mw447 mw448 mw64 mw449 rfl 8 rfl rfl 0 _ rfl yk_yX8_copyFrom_1 rfl (Nat.le_of_ble_eq_true rfl) (Nat.le_of_ble_eq_true rfl) (Nat.le_of_ble_eq_true rfl) (Nat.le_of_ble_eq_true rfl) (Nat.le_of_ble_eq_true rfl) rfl rfl (by decide) rfl (by decide) (by decide) ?_
  rintro w ⟨h0g_37, h0k_38, hq_40, rfl⟩
  refine k_ws ((cO3_rrrrrrrr h0 xs xhn xht xhj xhm xhb xhs xhc) :: (cO3_rrrrrrrr h1 ys yhn yht yhj yhm yhb yhs yhc) :: (cO7_rrrrii xs xr xm xw xp xmd2_9 xtr2_10) :: (cO8_iiri xr 8 3 xrc xrk_5) :: (cAI g xrc 24 xrg_1) :: (cO8_iiri xm 12 3 xmc xmk_6) :: (cAI g xmc 36 xmg_2) :: (cO8_iiri xw 6 3 xwc xwk_7) :: (cAI g xwc 18 xwg_3) :: (cO8_iiri xp 8 2 xpc xpk_8) :: (cAI g xpc 16 xpg_4) :: (cO7_rrrrii ys yr ym yw yp ymd ytr) :: (cO8_iiri yr 8 3 yrc yrn) :: (cAI g yrc 24 yrf) :: (cO8_iiri ym 12 3 ymc ymn) :: (cAI g ymc 36 ymf) :: (cO8_iiri yw 6 3 ywc ywn) :: (cAI g ywc 18 ywf) :: (cO8_iiri yp 8 2 ypc ypn) :: (cAI g ypc 16 ypf) :: (cO8_iiri xhn 1 6 xhnc h0k_14) :: (cAI g xhnc 6 h0g_13) :: (cO8_iiri yhn 1 6 yhnc yhnn) :: (cAI g yhnc 6 yhnf) :: (cO8_iiri xht 4 1 xhtc h0k_18) :: (cAI g xhtc 4 h0g_17) :: (cO8_iiri yht 4 1 yhtc yhtn) :: (cAI g yhtc 4 yhtf) :: (cO8_iiri xhj 8 2 xhjc h0k_22) :: (cAI g xhjc 16 h0g_21) :: (cO8_iiri yhj 8 2 yhjc yhjn) :: (cAI g yhjc 16 yhjf) :: (cO8_iiri xhm 4 3 xhmc h0k_26) :: (cAI g xhmc 12 h0g_25) :: (cO8_iiri yhm 4 3 yhmc yhmn) :: (cAI g yhmc 12 yhmf) :: (cO8_iiri xhb 1 3 xhbc h0k_30) :: (cAI g xhbc 3 h0g_29) :: (cO8_iiri yhb 1 3 yhbc yhbn) :: (cAI g yhbc 3 yhbf) :: (cO8_iiri xhs 6 3 xhsc h0k_34) :: (cAI g xhsc 18 h0g_33) :: (cO8_iiri yhs 6 3 yhsc yhsn) :: (cAI g yhsc 18 yhsf) :: (cO8_iiri xhc 6 2 xhcc h0k_38) :: (cAI g xhcc 12 h0g_37) :: (cO8_iiri yhc 6 2 yhcc yhcn) :: (cAI g yhcc 12 yhcf) :: []) rfl ?_
  exact k_vret X hr dX3_copyFrom_93 (Nat.le_of_ble_eq_true rfl) (Nat.le_of_ble_eq_true rfl) [0, 2, 3, 4, 5, 6, 7, 8, 9, 10, 20, 21, 24, 25, 28, 29, 32, 33, 36, 37, 40, 41, 44, 45, 1, 11, 12, 13, 14, 15, 16, 17, 18, 19, 22, 23, 26, 27, 30, 31, 34, 35, 38, 39, 42, 43, 46, 47] (by decide) rfl rfl ⟨xrg_1, xmg_2, xwg_3, xpg_4, xrk_5, xmk_6, xwk_7, xpk_8, xmd2_9, xtr2_10, h0g_13, h0g_17, h0g_21, h0g_25, h0g_29, h0g_33, h0g_37, h0k_14, h0k_18, h0k_22, h0k_26, h0k_30, h0k_34, h0k_38, ⟨xrg_1, xmg_2, xwg_3, xpg_4, xrk_5, xmk_6, xwk_7, xpk_8, xmd2_9, xtr2_10, hq_12, ⟨h0g_13, h0k_14, hq_16, ⟨h0g_17, h0k_18, hq_20, ⟨h0g_21, h0k_22, hq_24, ⟨h0g_25, h0k_26, hq_28, ⟨h0g_29, h0k_30, hq_32, ⟨h0g_33, h0k_34, hq_36, ⟨h0g_37, h0k_38, hq_40, ⟨rfl, rfl, rfl, rfl, rfl, rfl, rfl, rfl, rfl, rfl, rfl, rfl, rfl, rfl, rfl, rfl, rfl, rfl, rfl, rfl, rfl, rfl, rfl, rfl⟩⟩⟩⟩⟩⟩⟩⟩⟩, rfl⟩


set_option maxHeartbeats 4000000 in
set_option maxRecDepth 100000 in
theorem c_refuseX (l : Launch) (g : Gx) (h0 : Nat) (p0 : Int32) (v0h0 : Value) (v1h0 : Value) (v2h0 : Value) (v3h0 : Value) (v4h0 : Value) (v5h0 : Value) (v6h0 : Value) (v7h0 : Value) (v8h0 : Value) (tr : Int32) : cI l g yX10_refuse cX10_refuse 2 (some .int) 0 0 0 0 [.ref h0, .int p0] [(cO10_vvvvvvvvvi h0 v0h0 v1h0 v2h0 v3h0 v4h0 v5h0 v6h0 v7h0 v8h0 tr)] (fun r w => ∃ (tr2 : Int32), (R_c_refuseX p0 tr2 r) ∧ w = [(cO10_vvvvvvvvvi h0 v0h0 v1h0 v2h0 v3h0 v4h0 v5h0 v6h0 v7h0 v8h0 tr2)]) := by
  refine cI.of (by decide) (Nat.le_of_ble_eq_true rfl) ?_
  intro p e s m args below meth c A X hr hi
  refine k_lveq [(0, .ref h0), (1, .int p0)] rfl ?_
  refine k_aload_n X dX10_refuse_0 0 rfl ?_
  refine k_iload_n X dX10_refuse_1 1 rfl ?_
  refine k_put (ci := 10) [(cO10_vvvvvvvvvi h0 v0h0 v1h0 v2h0 v3h0 v4h0 v5h0 v6h0 v7h0 v8h0 p0)] X inlX10 rfl tyX10_ok nmX10 9 (by decide) rfl dX10_refuse_2 mw49 0 rfl rfl rfl (Nat.le_of_ble_eq_true rfl) rfl ?_
  refine k_iconst (v := -1) X dX10_refuse_5 (by decide) ?_
  exact k_iret X hr dX10_refuse_6 (Nat.le_of_ble_eq_true rfl) (Nat.le_of_ble_eq_true rfl) [0] (by decide) rfl rfl ⟨p0, ⟨rfl, rfl⟩, rfl⟩


set_option maxHeartbeats 4000000 in
set_option maxRecDepth 100000 in
theorem c_tellX (l : Launch) (g : Gx) (h0 : Nat) (p0 : Int32) (v0h0 : Value) (v1h0 : Value) (v2h0 : Value) (v3h0 : Value) (v4h0 : Value) (v5h0 : Value) (v6h0 : Value) (v7h0 : Value) (v8h0 : Value) (tr : Int32) : cI l g yX10_tell cX10_tell 2 (some .int) 0 0 0 0 [.ref h0, .int p0] [(cO10_vvvvvvvvvi h0 v0h0 v1h0 v2h0 v3h0 v4h0 v5h0 v6h0 v7h0 v8h0 tr)] (fun r w => ∃ (tr2 : Int32), (R_c_tellX p0 tr2 r) ∧ w = [(cO10_vvvvvvvvvi h0 v0h0 v1h0 v2h0 v3h0 v4h0 v5h0 v6h0 v7h0 v8h0 tr2)]) := by
  refine cI.of (by decide) (Nat.le_of_ble_eq_true rfl) ?_
  intro p e s m args below meth c A X hr hi
  refine k_lveq [(0, .ref h0), (1, .int p0)] rfl ?_
  refine k_aload_n X dX10_tell_0 0 rfl ?_
  refine k_iconst (v := 0) X dX10_tell_1 (by decide) ?_
  refine k_put (ci := 10) [(cO10_vvvvvvvvvi h0 v0h0 v1h0 v2h0 v3h0 v4h0 v5h0 v6h0 v7h0 v8h0 0)] X inlX10 rfl tyX10_ok nmX10 9 (by decide) rfl dX10_tell_2 mw49 0 rfl rfl rfl (Nat.le_of_ble_eq_true rfl) rfl ?_
  refine k_iload_n X dX10_tell_5 1 rfl ?_
  exact k_iret X hr dX10_tell_6 (Nat.le_of_ble_eq_true rfl) (Nat.le_of_ble_eq_true rfl) [0] (by decide) rfl rfl ⟨0, ⟨rfl, rfl⟩, rfl⟩


set_option maxHeartbeats 4000000 in
set_option maxRecDepth 100000 in
theorem x_refuseAtX (l : Launch) (g : Gx) (h0 : Nat) (p0 : Int32) (p1 : Int32) (xtpd : Int32) (th : Nat) (xfn : Int32) (xfp : Int32) (tp : Nat) (xen : Int32) (nm : Nat) (nd : Nat) (xkd : Int32) (xsta : Int32) (xpo : Int32) (xva : Int32) (xle : Int64) (xtk : Int32) (xta : Int32) (tpf : Nat → Int32) : cI l g yX9_refuseAt cX9_refuseAt 3 (some .boolean) 0 0 0 0 [.ref h0, .int p0, .int p1] [(cO9_i1r1i2r1i1r2i4l1i2 h0 xtpd th xfn xfp tp xen nm nd xkd xsta xpo xva xle xtk xta), (cAB g tp 900 tpf)] (fun r w => ∃ (xfn2 : Int32) (xfp2 : Int32), IV r 0 0 ∧ (R_x_refuseAtX p0 p1 xfn2 xfp2 r) ∧ w = [(cO9_i1r1i2r1i1r2i4l1i2 h0 xtpd th xfn2 xfp2 tp xen nm nd xkd xsta xpo xva xle xtk xta), (cAB g tp 900 tpf)]) := by
  refine cI.of (by decide) (Nat.le_of_ble_eq_true rfl) ?_
  intro p e s m args below meth c A X hr hi
  refine k_lveq [(0, .ref h0), (1, .int p0), (2, .int p1)] rfl ?_
  refine k_aload_n X dX9_refuseAt_0 0 rfl ?_
  refine k_iload_n X dX9_refuseAt_1 1 rfl ?_
  refine k_put (ci := 9) [(cO9_i1r1i2r1i1r2i4l1i2 h0 xtpd th p0 xfp tp xen nm nd xkd xsta xpo xva xle xtk xta), (cAB g tp 900 tpf)] X inlX9 rfl tyX9_ok nmX9 2 (by decide) rfl dX9_refuseAt_2 mw56 0 rfl rfl rfl (Nat.le_of_ble_eq_true rfl) rfl ?_
  refine k_aload_n X dX9_refuseAt_5 0 rfl ?_
  refine k_iload_n X dX9_refuseAt_6 2 rfl ?_
  refine k_put (ci := 9) [(cO9_i1r1i2r1i1r2i4l1i2 h0 xtpd th p0 p1 tp xen nm nd xkd xsta xpo xva xle xtk xta), (cAB g tp 900 tpf)] X inlX9 rfl tyX9_ok nmX9 3 (by decide) rfl dX9_refuseAt_7 mw57 0 rfl rfl rfl (Nat.le_of_ble_eq_true rfl) rfl ?_
  refine k_iconst (v := 0) X dX9_refuseAt_10 (by decide) ?_
  exact k_zret X hr (by first | rfl | decide) dX9_refuseAt_11 (Nat.le_of_ble_eq_true rfl) (Nat.le_of_ble_eq_true rfl) [0, 1] (by decide) rfl rfl ⟨p0, p1, (iv_w (show IV 0 0 0 from (by decide)) (by decide) (by decide)), ⟨rfl, rfl, rfl⟩, rfl⟩


set_option maxHeartbeats 4000000 in
set_option maxRecDepth 100000 in
theorem x_kindAtX (l : Launch) (g : Gx) (h0 : Nat) (p0 : Int32) (xtpd : Int32) (th : Nat) (xfn : Int32) (xfp : Int32) (tp : Nat) (xen : Int32) (nm : Nat) (nd : Nat) (xkd : Int32) (xsta : Int32) (xpo : Int32) (xva : Int32) (xle : Int64) (xtk : Int32) (xta : Int32) (tpf : Nat → Int32) : cI l g yX9_kindAt cX9_kindAt 3 (some .int) 0 0 0 0 [.ref h0, .int p0] [(cO9_i1r1i2r1i1r2i4l1i2 h0 xtpd th xfn xfp tp xen nm nd xkd xsta xpo xva xle xtk xta), (cAB g tp 900 tpf)] (fun r w => IV r 0 6 ∧ (r = 0 ∨ p0.toInt < xen.toInt) ∧ (R_x_kindAtX p0 xen tpf r) ∧ w = [(cO9_i1r1i2r1i1r2i4l1i2 h0 xtpd th xfn xfp tp xen nm nd xkd xsta xpo xva xle xtk xta), (cAB g tp 900 tpf)]) := by
  refine cI.of (by decide) (Nat.le_of_ble_eq_true rfl) ?_
  intro p e s m args below meth c A X hr hi
  refine k_lveq [(0, .ref h0), (1, .int p0)] rfl ?_
  refine k_iload_n X dX9_kindAt_0 1 rfl ?_
  refine k_if_lt 21 X dX9_kindAt_1 (by decide) (fun h_1 => ?_) (fun h_1 => ?_)
  · skip
    have j_2 : p0.toInt < 0 := iv_lt h_1
    have iv_3 : IV p0 (-2147483648) (-1) := iv_ltL (iv_lt h_1) (iv_any p0) (show IV 0 0 0 from (by decide)) (by decide)
    refine k_iconst (v := 0) X dX9_kindAt_21 (by decide) ?_
    exact k_iret X hr dX9_kindAt_22 (Nat.le_of_ble_eq_true rfl) (Nat.le_of_ble_eq_true rfl) [0, 1] (by decide) rfl rfl ⟨(iv_w (show IV 0 0 0 from (by decide)) (by decide) (by decide)), (by first | exact Or.inl rfl | exact Or.inr (by omega)), (Or.inl ⟨h_1, rfl⟩), rfl⟩
  · skip
    have j_4 : 0 ≤ p0.toInt := iv_nlt h_1
    have iv_5 : IV p0 0 2147483647 := iv_leR (iv_nlt h_1) (show IV 0 0 0 from (by decide)) (iv_any p0) (by decide)
    refine k_iload_n X dX9_kindAt_4 1 rfl ?_
    refine k_aload_n X dX9_kindAt_5 0 rfl ?_
    refine k_get (ci := 9) X inlX9 rfl 5 (by decide) dX9_kindAt_6 mw60 0 rfl rfl ?_
    refine k_ic_ge 21 X dX9_kindAt_9 (by decide) (fun h_6 => ?_) (fun h_6 => ?_)
    · skip
      have j_7 : xen.toInt ≤ p0.toInt := iv_le h_6
      refine k_iconst (v := 0) X dX9_kindAt_21 (by decide) ?_
      exact k_iret X hr dX9_kindAt_22 (Nat.le_of_ble_eq_true rfl) (Nat.le_of_ble_eq_true rfl) [0, 1] (by decide) rfl rfl ⟨(iv_w (show IV 0 0 0 from (by decide)) (by decide) (by decide)), (by first | exact Or.inl rfl | exact Or.inr (by omega)), (Or.inr ⟨h_1, (Or.inl ⟨h_6, rfl⟩)⟩), rfl⟩
    · skip
      have j_8 : p0.toInt < xen.toInt := iv_nle h_6
      have iv_9 : IV p0 0 2147483646 := iv_ltL (iv_nle h_6) iv_5 (iv_any xen) (by decide)
      have iv_10 : IV xen 1 2147483647 := iv_ltR (iv_nle h_6) iv_5 (iv_any xen) (by decide)
      refine k_iload_n X dX9_kindAt_12 1 rfl ?_
      refine k_aload_n X dX9_kindAt_13 0 rfl ?_
      refine k_get (ci := 9) X inlX9 rfl 4 (by decide) dX9_kindAt_14 mw59 0 rfl rfl ?_
      refine k_alen 900 0 X dX9_kindAt_17 1 rfl rfl (by show Int32.ofNat 900 = 900; decide) ?_
      refine k_ic_lt 23 X dX9_kindAt_18 (by decide) (fun h_11 => ?_) (fun h_11 => ?_)
      · skip
        have j_12 : p0.toInt < 900 := iv_lt h_11
        have iv_13 : IV p0 0 899 := iv_ltL (iv_lt h_11) iv_9 (show IV 900 900 900 from (by decide)) (by decide)
        refine k_aload_n X dX9_kindAt_23 0 rfl ?_
        refine k_get (ci := 9) X inlX9 rfl 4 (by decide) dX9_kindAt_24 mw59 0 rfl rfl ?_
        refine k_iload_n X dX9_kindAt_27 1 rfl ?_
        refine k_bald X dX9_kindAt_28 1 rfl (iv_in iv_13 (by decide) (by decide)) ?_
        refine k_nm (fun z_14 ez_14 => ?_)
        refine k_istore_n [(2, .int z_14), (0, .ref h0), (1, .int p0)] X dX9_kindAt_29 (by decide) rfl ?_
        refine k_iload_n X dX9_kindAt_30 0 rfl ?_
        refine k_bipush (v := 97) X dX9_kindAt_31 (by decide) ?_
        refine k_ic_lt 44 X dX9_kindAt_33 (by decide) (fun h_15 => ?_) (fun h_15 => ?_)
        · skip
          have j_16 : z_14.toInt < 97 := iv_lt h_15
          have iv_17 : IV z_14 (-2147483648) 96 := iv_ltL (iv_lt h_15) (iv_any z_14) (show IV 97 97 97 from (by decide)) (by decide)
          refine k_iload_n X dX9_kindAt_44 0 rfl ?_
          refine k_bipush (v := 48) X dX9_kindAt_45 (by decide) ?_
          refine k_ic_lt 58 X dX9_kindAt_47 (by decide) (fun h_18 => ?_) (fun h_18 => ?_)
          · skip
            have j_19 : z_14.toInt < 48 := iv_lt h_18
            have iv_20 : IV z_14 (-2147483648) 47 := iv_ltL (iv_lt h_18) iv_17 (show IV 48 48 48 from (by decide)) (by decide)
            refine k_iload_n X dX9_kindAt_58 0 rfl ?_
            by_cases h_21 : z_14 = 32
            · skip
              refine k_lookup 92 X dX9_kindAt_59 (by decide) (off := 33) (by rw [h_21]; decide) (by decide) ?_
              refine k_iconst (v := 5) X dX9_kindAt_92 (by decide) ?_
              exact k_iret X hr dX9_kindAt_93 (Nat.le_of_ble_eq_true rfl) (Nat.le_of_ble_eq_true rfl) [0, 1] (by decide) rfl rfl ⟨(iv_w (show IV 5 5 5 from (by decide)) (by decide) (by decide)), (by first | exact Or.inl rfl | exact Or.inr (by omega)), (Or.inr ⟨h_1, (Or.inr ⟨h_6, (Or.inl ⟨h_11, ⟨z_14, ez_14, (Or.inl ⟨h_15, (Or.inl ⟨h_18, (Or.inl ⟨h_21, rfl⟩)⟩)⟩)⟩⟩)⟩)⟩), rfl⟩
            by_cases h_22 : z_14 = 44
            · skip
              refine k_lookup 96 X dX9_kindAt_59 (by decide) (off := 37) (by rw [h_22]; decide) (by decide) ?_
              refine k_iconst (v := 4) X dX9_kindAt_96 (by decide) ?_
              exact k_iret X hr dX9_kindAt_97 (Nat.le_of_ble_eq_true rfl) (Nat.le_of_ble_eq_true rfl) [0, 1] (by decide) rfl rfl ⟨(iv_w (show IV 4 4 4 from (by decide)) (by decide) (by decide)), (by first | exact Or.inl rfl | exact Or.inr (by omega)), (Or.inr ⟨h_1, (Or.inr ⟨h_6, (Or.inl ⟨h_11, ⟨z_14, ez_14, (Or.inl ⟨h_15, (Or.inl ⟨h_18, (Or.inr ⟨h_21, (Or.inl ⟨h_22, rfl⟩)⟩)⟩)⟩)⟩⟩)⟩)⟩), rfl⟩
            by_cases h_23 : z_14 = 59
            · skip
              refine k_lookup 94 X dX9_kindAt_59 (by decide) (off := 35) (by rw [h_23]; decide) (by decide) ?_
              refine k_iconst (v := 3) X dX9_kindAt_94 (by decide) ?_
              exact k_iret X hr dX9_kindAt_95 (Nat.le_of_ble_eq_true rfl) (Nat.le_of_ble_eq_true rfl) [0, 1] (by decide) rfl rfl ⟨(iv_w (show IV 3 3 3 from (by decide)) (by decide) (by decide)), (by first | exact Or.inl rfl | exact Or.inr (by omega)), (Or.inr ⟨h_1, (Or.inr ⟨h_6, (Or.inl ⟨h_11, ⟨z_14, ez_14, (Or.inl ⟨h_15, (Or.inl ⟨h_18, (Or.inr ⟨h_21, (Or.inr ⟨h_22, (Or.inl ⟨h_23, rfl⟩)⟩)⟩)⟩)⟩)⟩⟩)⟩)⟩), rfl⟩
            refine k_lookup 98 X dX9_kindAt_59 (by decide) (off := 39) (by have eh_21 : z_14.toInt ≠ 32 := fun q => h_21 (Int32.toInt_inj.mp (q.trans (by decide))); have eh_22 : z_14.toInt ≠ 44 := fun q => h_22 (Int32.toInt_inj.mp (q.trans (by decide))); have eh_23 : z_14.toInt ≠ 59 := fun q => h_23 (Int32.toInt_inj.mp (q.trans (by decide))); simp [Op.lookupswitch.offset, eh_21.symm, eh_22.symm, eh_23.symm]) (by decide) ?_
            refine k_bipush (v := 6) X dX9_kindAt_98 (by decide) ?_
            exact k_iret X hr dX9_kindAt_100 (Nat.le_of_ble_eq_true rfl) (Nat.le_of_ble_eq_true rfl) [0, 1] (by decide) rfl rfl ⟨(iv_w (show IV 6 6 6 from (by decide)) (by decide) (by decide)), (by first | exact Or.inl rfl | exact Or.inr (by omega)), (Or.inr ⟨h_1, (Or.inr ⟨h_6, (Or.inl ⟨h_11, ⟨z_14, ez_14, (Or.inl ⟨h_15, (Or.inl ⟨h_18, (Or.inr ⟨h_21, (Or.inr ⟨h_22, (Or.inr ⟨h_23, rfl⟩)⟩)⟩)⟩)⟩)⟩⟩)⟩)⟩), rfl⟩
          · skip
            have j_24 : 48 ≤ z_14.toInt := iv_nlt h_18
            have iv_25 : IV z_14 48 96 := iv_leR (iv_nlt h_18) (show IV 48 48 48 from (by decide)) iv_17 (by decide)
            refine k_iload_n X dX9_kindAt_50 0 rfl ?_
            refine k_bipush (v := 57) X dX9_kindAt_51 (by decide) ?_
            refine k_ic_gt 58 X dX9_kindAt_53 (by decide) (fun h_26 => ?_) (fun h_26 => ?_)
            · skip
              have j_27 : 57 < z_14.toInt := iv_lt h_26
              have iv_28 : IV z_14 58 96 := iv_ltR (iv_lt h_26) (show IV 57 57 57 from (by decide)) iv_25 (by decide)
              refine k_iload_n X dX9_kindAt_58 0 rfl ?_
              by_cases h_29 : z_14 = 32
              · skip
                refine k_lookup 92 X dX9_kindAt_59 (by decide) (off := 33) (by rw [h_29]; decide) (by decide) ?_
                refine k_iconst (v := 5) X dX9_kindAt_92 (by decide) ?_
                exact k_iret X hr dX9_kindAt_93 (Nat.le_of_ble_eq_true rfl) (Nat.le_of_ble_eq_true rfl) [0, 1] (by decide) rfl rfl ⟨(iv_w (show IV 5 5 5 from (by decide)) (by decide) (by decide)), (by first | exact Or.inl rfl | exact Or.inr (by omega)), (Or.inr ⟨h_1, (Or.inr ⟨h_6, (Or.inl ⟨h_11, ⟨z_14, ez_14, (Or.inl ⟨h_15, (Or.inr ⟨h_18, (Or.inl ⟨h_26, (Or.inl ⟨h_29, rfl⟩)⟩)⟩)⟩)⟩⟩)⟩)⟩), rfl⟩
              by_cases h_30 : z_14 = 44
              · skip
                refine k_lookup 96 X dX9_kindAt_59 (by decide) (off := 37) (by rw [h_30]; decide) (by decide) ?_
                refine k_iconst (v := 4) X dX9_kindAt_96 (by decide) ?_
                exact k_iret X hr dX9_kindAt_97 (Nat.le_of_ble_eq_true rfl) (Nat.le_of_ble_eq_true rfl) [0, 1] (by decide) rfl rfl ⟨(iv_w (show IV 4 4 4 from (by decide)) (by decide) (by decide)), (by first | exact Or.inl rfl | exact Or.inr (by omega)), (Or.inr ⟨h_1, (Or.inr ⟨h_6, (Or.inl ⟨h_11, ⟨z_14, ez_14, (Or.inl ⟨h_15, (Or.inr ⟨h_18, (Or.inl ⟨h_26, (Or.inr ⟨h_29, (Or.inl ⟨h_30, rfl⟩)⟩)⟩)⟩)⟩)⟩⟩)⟩)⟩), rfl⟩
              by_cases h_31 : z_14 = 59
              · skip
                refine k_lookup 94 X dX9_kindAt_59 (by decide) (off := 35) (by rw [h_31]; decide) (by decide) ?_
                refine k_iconst (v := 3) X dX9_kindAt_94 (by decide) ?_
                exact k_iret X hr dX9_kindAt_95 (Nat.le_of_ble_eq_true rfl) (Nat.le_of_ble_eq_true rfl) [0, 1] (by decide) rfl rfl ⟨(iv_w (show IV 3 3 3 from (by decide)) (by decide) (by decide)), (by first | exact Or.inl rfl | exact Or.inr (by omega)), (Or.inr ⟨h_1, (Or.inr ⟨h_6, (Or.inl ⟨h_11, ⟨z_14, ez_14, (Or.inl ⟨h_15, (Or.inr ⟨h_18, (Or.inl ⟨h_26, (Or.inr ⟨h_29, (Or.inr ⟨h_30, (Or.inl ⟨h_31, rfl⟩)⟩)⟩)⟩)⟩)⟩)⟩⟩)⟩)⟩), rfl⟩
              refine k_lookup 98 X dX9_kindAt_59 (by decide) (off := 39) (by have eh_29 : z_14.toInt ≠ 32 := fun q => h_29 (Int32.toInt_inj.mp (q.trans (by decide))); have eh_30 : z_14.toInt ≠ 44 := fun q => h_30 (Int32.toInt_inj.mp (q.trans (by decide))); have eh_31 : z_14.toInt ≠ 59 := fun q => h_31 (Int32.toInt_inj.mp (q.trans (by decide))); simp [Op.lookupswitch.offset, eh_29.symm, eh_30.symm, eh_31.symm]) (by decide) ?_
              refine k_bipush (v := 6) X dX9_kindAt_98 (by decide) ?_
              exact k_iret X hr dX9_kindAt_100 (Nat.le_of_ble_eq_true rfl) (Nat.le_of_ble_eq_true rfl) [0, 1] (by decide) rfl rfl ⟨(iv_w (show IV 6 6 6 from (by decide)) (by decide) (by decide)), (by first | exact Or.inl rfl | exact Or.inr (by omega)), (Or.inr ⟨h_1, (Or.inr ⟨h_6, (Or.inl ⟨h_11, ⟨z_14, ez_14, (Or.inl ⟨h_15, (Or.inr ⟨h_18, (Or.inl ⟨h_26, (Or.inr ⟨h_29, (Or.inr ⟨h_30, (Or.inr ⟨h_31, rfl⟩)⟩)⟩)⟩)⟩)⟩)⟩⟩)⟩)⟩), rfl⟩
            · skip
              have j_32 : z_14.toInt ≤ 57 := iv_nlt h_26
              have iv_33 : IV z_14 48 57 := iv_leL (iv_nlt h_26) iv_25 (show IV 57 57 57 from (by decide)) (by decide)
              refine k_iconst (v := 2) X dX9_kindAt_56 (by decide) ?_
              exact k_iret X hr dX9_kindAt_57 (Nat.le_of_ble_eq_true rfl) (Nat.le_of_ble_eq_true rfl) [0, 1] (by decide) rfl rfl ⟨(iv_w (show IV 2 2 2 from (by decide)) (by decide) (by decide)), (by first | exact Or.inl rfl | exact Or.inr (by omega)), (Or.inr ⟨h_1, (Or.inr ⟨h_6, (Or.inl ⟨h_11, ⟨z_14, ez_14, (Or.inl ⟨h_15, (Or.inr ⟨h_18, (Or.inr ⟨h_26, rfl⟩)⟩)⟩)⟩⟩)⟩)⟩), rfl⟩
        · skip
          have j_34 : 97 ≤ z_14.toInt := iv_nlt h_15
          have iv_35 : IV z_14 97 2147483647 := iv_leR (iv_nlt h_15) (show IV 97 97 97 from (by decide)) (iv_any z_14) (by decide)
          refine k_iload_n X dX9_kindAt_36 0 rfl ?_
          refine k_bipush (v := 122) X dX9_kindAt_37 (by decide) ?_
          refine k_ic_gt 44 X dX9_kindAt_39 (by decide) (fun h_36 => ?_) (fun h_36 => ?_)
          · skip
            have j_37 : 122 < z_14.toInt := iv_lt h_36
            have iv_38 : IV z_14 123 2147483647 := iv_ltR (iv_lt h_36) (show IV 122 122 122 from (by decide)) iv_35 (by decide)
            refine k_iload_n X dX9_kindAt_44 0 rfl ?_
            refine k_bipush (v := 48) X dX9_kindAt_45 (by decide) ?_
            refine k_ic_lt 58 X dX9_kindAt_47 (by decide) (fun h_39 => (iv_ltN (iv_lt h_39) iv_38 (show IV 48 48 48 from (by decide)) (by decide)).elim) (fun h_39 => ?_)
            have j_40 : 48 ≤ z_14.toInt := iv_nlt h_39
            refine k_iload_n X dX9_kindAt_50 0 rfl ?_
            refine k_bipush (v := 57) X dX9_kindAt_51 (by decide) ?_
            refine k_ic_gt 58 X dX9_kindAt_53 (by decide) (fun h_41 => ?_) (fun h_41 => (iv_leN (iv_nlt h_41) iv_38 (show IV 57 57 57 from (by decide)) (by decide)).elim)
            have j_42 : 57 < z_14.toInt := iv_lt h_41
            refine k_iload_n X dX9_kindAt_58 0 rfl ?_
            by_cases h_43 : z_14 = 32
            · skip
              refine k_lookup 92 X dX9_kindAt_59 (by decide) (off := 33) (by rw [h_43]; decide) (by decide) ?_
              refine k_iconst (v := 5) X dX9_kindAt_92 (by decide) ?_
              exact k_iret X hr dX9_kindAt_93 (Nat.le_of_ble_eq_true rfl) (Nat.le_of_ble_eq_true rfl) [0, 1] (by decide) rfl rfl ⟨(iv_w (show IV 5 5 5 from (by decide)) (by decide) (by decide)), (by first | exact Or.inl rfl | exact Or.inr (by omega)), (Or.inr ⟨h_1, (Or.inr ⟨h_6, (Or.inl ⟨h_11, ⟨z_14, ez_14, (Or.inr ⟨h_15, (Or.inl ⟨h_36, (Or.inl ⟨h_43, rfl⟩)⟩)⟩)⟩⟩)⟩)⟩), rfl⟩
            by_cases h_44 : z_14 = 44
            · skip
              refine k_lookup 96 X dX9_kindAt_59 (by decide) (off := 37) (by rw [h_44]; decide) (by decide) ?_
              refine k_iconst (v := 4) X dX9_kindAt_96 (by decide) ?_
              exact k_iret X hr dX9_kindAt_97 (Nat.le_of_ble_eq_true rfl) (Nat.le_of_ble_eq_true rfl) [0, 1] (by decide) rfl rfl ⟨(iv_w (show IV 4 4 4 from (by decide)) (by decide) (by decide)), (by first | exact Or.inl rfl | exact Or.inr (by omega)), (Or.inr ⟨h_1, (Or.inr ⟨h_6, (Or.inl ⟨h_11, ⟨z_14, ez_14, (Or.inr ⟨h_15, (Or.inl ⟨h_36, (Or.inr ⟨h_43, (Or.inl ⟨h_44, rfl⟩)⟩)⟩)⟩)⟩⟩)⟩)⟩), rfl⟩
            by_cases h_45 : z_14 = 59
            · skip
              refine k_lookup 94 X dX9_kindAt_59 (by decide) (off := 35) (by rw [h_45]; decide) (by decide) ?_
              refine k_iconst (v := 3) X dX9_kindAt_94 (by decide) ?_
              exact k_iret X hr dX9_kindAt_95 (Nat.le_of_ble_eq_true rfl) (Nat.le_of_ble_eq_true rfl) [0, 1] (by decide) rfl rfl ⟨(iv_w (show IV 3 3 3 from (by decide)) (by decide) (by decide)), (by first | exact Or.inl rfl | exact Or.inr (by omega)), (Or.inr ⟨h_1, (Or.inr ⟨h_6, (Or.inl ⟨h_11, ⟨z_14, ez_14, (Or.inr ⟨h_15, (Or.inl ⟨h_36, (Or.inr ⟨h_43, (Or.inr ⟨h_44, (Or.inl ⟨h_45, rfl⟩)⟩)⟩)⟩)⟩)⟩⟩)⟩)⟩), rfl⟩
            refine k_lookup 98 X dX9_kindAt_59 (by decide) (off := 39) (by have eh_43 : z_14.toInt ≠ 32 := fun q => h_43 (Int32.toInt_inj.mp (q.trans (by decide))); have eh_44 : z_14.toInt ≠ 44 := fun q => h_44 (Int32.toInt_inj.mp (q.trans (by decide))); have eh_45 : z_14.toInt ≠ 59 := fun q => h_45 (Int32.toInt_inj.mp (q.trans (by decide))); simp [Op.lookupswitch.offset, eh_43.symm, eh_44.symm, eh_45.symm]) (by decide) ?_
            refine k_bipush (v := 6) X dX9_kindAt_98 (by decide) ?_
            exact k_iret X hr dX9_kindAt_100 (Nat.le_of_ble_eq_true rfl) (Nat.le_of_ble_eq_true rfl) [0, 1] (by decide) rfl rfl ⟨(iv_w (show IV 6 6 6 from (by decide)) (by decide) (by decide)), (by first | exact Or.inl rfl | exact Or.inr (by omega)), (Or.inr ⟨h_1, (Or.inr ⟨h_6, (Or.inl ⟨h_11, ⟨z_14, ez_14, (Or.inr ⟨h_15, (Or.inl ⟨h_36, (Or.inr ⟨h_43, (Or.inr ⟨h_44, (Or.inr ⟨h_45, rfl⟩)⟩)⟩)⟩)⟩)⟩⟩)⟩)⟩), rfl⟩
          · skip
            have j_46 : z_14.toInt ≤ 122 := iv_nlt h_36
            have iv_47 : IV z_14 97 122 := iv_leL (iv_nlt h_36) iv_35 (show IV 122 122 122 from (by decide)) (by decide)
            refine k_iconst (v := 1) X dX9_kindAt_42 (by decide) ?_
            exact k_iret X hr dX9_kindAt_43 (Nat.le_of_ble_eq_true rfl) (Nat.le_of_ble_eq_true rfl) [0, 1] (by decide) rfl rfl ⟨(iv_w (show IV 1 1 1 from (by decide)) (by decide) (by decide)), (by first | exact Or.inl rfl | exact Or.inr (by omega)), (Or.inr ⟨h_1, (Or.inr ⟨h_6, (Or.inl ⟨h_11, ⟨z_14, ez_14, (Or.inr ⟨h_15, (Or.inr ⟨h_36, rfl⟩)⟩)⟩⟩)⟩)⟩), rfl⟩
      · skip
        have j_48 : 900 ≤ p0.toInt := iv_nlt h_11
        have iv_49 : IV p0 900 2147483646 := iv_leR (iv_nlt h_11) (show IV 900 900 900 from (by decide)) iv_9 (by decide)
        refine k_iconst (v := 0) X dX9_kindAt_21 (by decide) ?_
        exact k_iret X hr dX9_kindAt_22 (Nat.le_of_ble_eq_true rfl) (Nat.le_of_ble_eq_true rfl) [0, 1] (by decide) rfl rfl ⟨(iv_w (show IV 0 0 0 from (by decide)) (by decide) (by decide)), (by first | exact Or.inl rfl | exact Or.inr (by omega)), (Or.inr ⟨h_1, (Or.inr ⟨h_6, (Or.inr ⟨h_11, rfl⟩)⟩)⟩), rfl⟩


set_option maxHeartbeats 4000000 in
set_option maxRecDepth 100000 in
theorem x_nextX (l : Launch) (g : Gx) (h0 : Nat) (xtpd : Int32) (th : Nat) (xfn : Int32) (xfp : Int32) (tp : Nat) (xen : Int32) (nm : Nat) (nd : Nat) (xkd : Int32) (xsta : Int32) (xpo : Int32) (xva : Int32) (xle : Int64) (xtk : Int32) (xta : Int32) (tpf : Nat → Int32) (hv_xen : IV xen 0 900) (hv_xpo : IV xpo 0 900) : cV l g yX9_next cX9_next 1 1 22 0 0 [.ref h0] [(cO9_i1r1i2r1i1r2i4l1i2 h0 xtpd th xfn xfp tp xen nm nd xkd xsta xpo xva xle xtk xta), (cAB g tp 900 tpf)] (fun w => ∃ (xkd2 : Int32) (xsta2 : Int32) (xpo2 : Int32) (xva2 : Int32) (xle2 : Int64), IV xsta2 0 900 ∧ IV xpo2 0 900 ∧ IV xkd2 0 6 ∧ (R_x_nextX xen xpo tpf xkd2 xsta2 xpo2 xva2 xle2) ∧ w = [(cO9_i1r1i2r1i1r2i4l1i2 h0 xtpd th xfn xfp tp xen nm nd xkd2 xsta2 xpo2 xva2 xle2 xtk xta), (cAB g tp 900 tpf)]) := by
  refine cV.of (by decide) (Nat.le_of_ble_eq_true rfl) ?_
  intro p e s m args below meth c A X hr hi
  refine k_lveq [(0, .ref h0)] rfl ?_
  refine (fun hL : ∀ (nn_3 : Nat) (u_1 : Int32), (xen.toInt - u_1.toInt).toNat = nn_3 → (IV u_1 0 900) → (∀ (xkd2 : Int32) (xsta2 : Int32) (xpo2 : Int32) (xva2 : Int32) (xle2 : Int64), (∃ n_0 : Nat, R_x_nextX_L0 xen tpf (fun (u_1 : Int32) => ∃ r_8 : Int32, (R_x_kindAtX u_1 xen tpf r_8) ∧ (((r_8 = (1 : Int32)) ∧ (∃ n_1 : Nat, R_x_nextX_L1 xen tpf r_8 (fun (u_14 : Int32) (u_16 : Int32) (u_17 : Int64) => ∃ z_25 : Int32, z_25 = u_14 - u_1 ∧ (((z_25 ≤ (8 : Int32)) ∧ (xkd2 = r_8 ∧ xsta2 = u_1 ∧ xpo2 = u_14 ∧ xva2 = u_16 ∧ xle2 = u_17)) ∨ ((¬ (z_25 ≤ (8 : Int32))) ∧ (xkd2 = 6 ∧ xsta2 = u_1 ∧ xpo2 = u_14 ∧ xva2 = u_16 ∧ xle2 = u_17)))) (fun (u_14 : Int32) (u_16 : Int32) (u_17 : Int64) => ∃ z_44 : Int32, z_44 = u_14 - u_1 ∧ (((z_44 ≤ (8 : Int32)) ∧ (xkd2 = r_8 ∧ xsta2 = u_1 ∧ xpo2 = u_14 ∧ xva2 = u_16 ∧ xle2 = u_17)) ∨ ((¬ (z_44 ≤ (8 : Int32))) ∧ (xkd2 = 6 ∧ xsta2 = u_1 ∧ xpo2 = u_14 ∧ xva2 = u_16 ∧ xle2 = u_17)))) n_1 u_1 0 0)) ∨ ((¬ (r_8 = (1 : Int32))) ∧ ((((r_8 ≠ (2 : Int32)) ∧ ((((r_8 = (0 : Int32)) ∧ (∃ z_75 : Int32, z_75 = u_1 - u_1 ∧ (((z_75 ≤ (4 : Int32)) ∧ (xkd2 = r_8 ∧ xsta2 = u_1 ∧ xpo2 = u_1 ∧ xva2 = 0 ∧ xle2 = 0)) ∨ ((¬ (z_75 ≤ (4 : Int32))) ∧ (xkd2 = 6 ∧ xsta2 = u_1 ∧ xpo2 = u_1 ∧ xva2 = 0 ∧ xle2 = 0))))) ∨ ((¬ (r_8 = (0 : Int32))) ∧ (∃ z_86 : Int32, z_86 = u_1 + (1 : Int32) ∧ ∃ z_89 : Int32, z_89 = z_86 - u_1 ∧ (((r_8 ≠ (1 : Int32)) ∧ ((((z_89 ≤ (4 : Int32)) ∧ (xkd2 = r_8 ∧ xsta2 = u_1 ∧ xpo2 = z_86 ∧ xva2 = 0 ∧ xle2 = 0)) ∨ ((¬ (z_89 ≤ (4 : Int32))) ∧ (xkd2 = 6 ∧ xsta2 = u_1 ∧ xpo2 = z_86 ∧ xva2 = 0 ∧ xle2 = 0))))) ∨ ((r_8 = (1 : Int32)) ∧ ((((z_89 ≤ (8 : Int32)) ∧ (xkd2 = r_8 ∧ xsta2 = u_1 ∧ xpo2 = z_86 ∧ xva2 = 0 ∧ xle2 = 0)) ∨ ((¬ (z_89 ≤ (8 : Int32))) ∧ (xkd2 = 6 ∧ xsta2 = u_1 ∧ xpo2 = z_86 ∧ xva2 = 0 ∧ xle2 = 0))))))))))) ∨ ((r_8 = (2 : Int32)) ∧ (∃ n_2 : Nat, R_x_nextX_L2 xen tpf r_8 (fun (u_106 : Int32) (u_108 : Int32) (u_109 : Int64) => ∃ z_117 : Int32, z_117 = u_106 - u_1 ∧ (((z_117 ≤ (4 : Int32)) ∧ (xkd2 = r_8 ∧ xsta2 = u_1 ∧ xpo2 = u_106 ∧ xva2 = u_108 ∧ xle2 = u_109)) ∨ ((¬ (z_117 ≤ (4 : Int32))) ∧ (xkd2 = 6 ∧ xsta2 = u_1 ∧ xpo2 = u_106 ∧ xva2 = u_108 ∧ xle2 = u_109)))) (fun (u_106 : Int32) (u_108 : Int32) (u_109 : Int64) => ∃ z_136 : Int32, z_136 = u_106 - u_1 ∧ (((z_136 ≤ (4 : Int32)) ∧ (xkd2 = r_8 ∧ xsta2 = u_1 ∧ xpo2 = u_106 ∧ xva2 = u_108 ∧ xle2 = u_109)) ∨ ((¬ (z_136 ≤ (4 : Int32))) ∧ (xkd2 = 6 ∧ xsta2 = u_1 ∧ xpo2 = u_106 ∧ xva2 = u_108 ∧ xle2 = u_109)))) n_2 u_1 0 0))))))) (fun (u_1 : Int32) => ∃ r_172 : Int32, (R_x_kindAtX u_1 xen tpf r_172) ∧ (((r_172 = (1 : Int32)) ∧ (∃ n_3 : Nat, R_x_nextX_L3 xen tpf r_172 (fun (u_178 : Int32) (u_180 : Int32) (u_181 : Int64) => ∃ z_190 : Int32, z_190 = u_178 - u_1 ∧ (((z_190 ≤ (8 : Int32)) ∧ (xkd2 = r_172 ∧ xsta2 = u_1 ∧ xpo2 = u_178 ∧ xva2 = u_180 ∧ xle2 = u_181)) ∨ ((¬ (z_190 ≤ (8 : Int32))) ∧ (xkd2 = 6 ∧ xsta2 = u_1 ∧ xpo2 = u_178 ∧ xva2 = u_180 ∧ xle2 = u_181)))) (fun (u_178 : Int32) (u_180 : Int32) (u_181 : Int64) => ∃ z_208 : Int32, z_208 = u_178 - u_1 ∧ (((z_208 ≤ (8 : Int32)) ∧ (xkd2 = r_172 ∧ xsta2 = u_1 ∧ xpo2 = u_178 ∧ xva2 = u_180 ∧ xle2 = u_181)) ∨ ((¬ (z_208 ≤ (8 : Int32))) ∧ (xkd2 = 6 ∧ xsta2 = u_1 ∧ xpo2 = u_178 ∧ xva2 = u_180 ∧ xle2 = u_181)))) n_3 u_1 0 0)) ∨ ((¬ (r_172 = (1 : Int32))) ∧ ((((r_172 ≠ (2 : Int32)) ∧ ((((r_172 = (0 : Int32)) ∧ (∃ z_239 : Int32, z_239 = u_1 - u_1 ∧ (((z_239 ≤ (4 : Int32)) ∧ (xkd2 = r_172 ∧ xsta2 = u_1 ∧ xpo2 = u_1 ∧ xva2 = 0 ∧ xle2 = 0)) ∨ ((¬ (z_239 ≤ (4 : Int32))) ∧ (xkd2 = 6 ∧ xsta2 = u_1 ∧ xpo2 = u_1 ∧ xva2 = 0 ∧ xle2 = 0))))) ∨ ((¬ (r_172 = (0 : Int32))) ∧ (∃ z_250 : Int32, z_250 = u_1 + (1 : Int32) ∧ ∃ z_253 : Int32, z_253 = z_250 - u_1 ∧ (((r_172 ≠ (1 : Int32)) ∧ ((((z_253 ≤ (4 : Int32)) ∧ (xkd2 = r_172 ∧ xsta2 = u_1 ∧ xpo2 = z_250 ∧ xva2 = 0 ∧ xle2 = 0)) ∨ ((¬ (z_253 ≤ (4 : Int32))) ∧ (xkd2 = 6 ∧ xsta2 = u_1 ∧ xpo2 = z_250 ∧ xva2 = 0 ∧ xle2 = 0))))) ∨ ((r_172 = (1 : Int32)) ∧ ((((z_253 ≤ (8 : Int32)) ∧ (xkd2 = r_172 ∧ xsta2 = u_1 ∧ xpo2 = z_250 ∧ xva2 = 0 ∧ xle2 = 0)) ∨ ((¬ (z_253 ≤ (8 : Int32))) ∧ (xkd2 = 6 ∧ xsta2 = u_1 ∧ xpo2 = z_250 ∧ xva2 = 0 ∧ xle2 = 0))))))))))) ∨ ((r_172 = (2 : Int32)) ∧ (∃ n_4 : Nat, R_x_nextX_L4 xen tpf r_172 (fun (u_270 : Int32) (u_272 : Int32) (u_273 : Int64) => ∃ z_282 : Int32, z_282 = u_270 - u_1 ∧ (((z_282 ≤ (4 : Int32)) ∧ (xkd2 = r_172 ∧ xsta2 = u_1 ∧ xpo2 = u_270 ∧ xva2 = u_272 ∧ xle2 = u_273)) ∨ ((¬ (z_282 ≤ (4 : Int32))) ∧ (xkd2 = 6 ∧ xsta2 = u_1 ∧ xpo2 = u_270 ∧ xva2 = u_272 ∧ xle2 = u_273)))) (fun (u_270 : Int32) (u_272 : Int32) (u_273 : Int64) => ∃ z_300 : Int32, z_300 = u_270 - u_1 ∧ (((z_300 ≤ (4 : Int32)) ∧ (xkd2 = r_172 ∧ xsta2 = u_1 ∧ xpo2 = u_270 ∧ xva2 = u_272 ∧ xle2 = u_273)) ∨ ((¬ (z_300 ≤ (4 : Int32))) ∧ (xkd2 = 6 ∧ xsta2 = u_1 ∧ xpo2 = u_270 ∧ xva2 = u_272 ∧ xle2 = u_273)))) n_4 u_1 0 0))))))) n_0 u_1) → R_x_nextX xen xpo tpf xkd2 xsta2 xpo2 xva2 xle2) → Wk p l e _ s m args below meth c _ A g _ _ _ [(cO9_i1r1i2r1i1r2i4l1i2 h0 xtpd th xfn xfp tp xen nm nd xkd xsta u_1 xva xle xtk xta), (cAB g tp 900 tpf)] [(0, .ref h0)] 0 [] => hL _ xpo rfl (iv_w hv_xpo (by decide) (by decide)) (fun xkd2 xsta2 xpo2 xva2 xle2 h => h)) ?_
  refine fun nn_3 => Nat.strongRecOn nn_3 (fun nn_3 ih_5 => ?_)
  intro u_1 hm_4 hv_2 KH_0
  refine k_aload_n X dX9_next_0 0 rfl ?_
  refine k_get (ci := 9) X inlX9 rfl 10 (by decide) dX9_next_1 mw68 0 rfl rfl ?_
  refine k_aload_n X dX9_next_4 0 rfl ?_
  refine k_get (ci := 9) X inlX9 rfl 5 (by decide) dX9_next_5 mw60 0 rfl rfl ?_
  refine k_ic_ge 36 X dX9_next_8 (by decide) (fun h_6 => ?_) (fun h_6 => ?_)
  · skip
    have j_7 : xen.toInt ≤ u_1.toInt := iv_le h_6
    refine k_aload_n X dX9_next_36 0 rfl ?_
    refine k_aload_n X dX9_next_37 0 rfl ?_
    refine k_get (ci := 9) X inlX9 rfl 10 (by decide) dX9_next_38 mw68 0 rfl rfl ?_
    refine k_put (ci := 9) [(cO9_i1r1i2r1i1r2i4l1i2 h0 xtpd th xfn xfp tp xen nm nd xkd u_1 u_1 xva xle xtk xta), (cAB g tp 900 tpf)] X inlX9 rfl tyX9_ok nmX9 9 (by decide) rfl dX9_next_41 mw67 0 rfl rfl rfl (Nat.le_of_ble_eq_true rfl) rfl ?_
    refine k_aload_n X dX9_next_44 0 rfl ?_
    refine k_aload_n X dX9_next_45 0 rfl ?_
    refine k_aload_n X dX9_next_46 0 rfl ?_
    refine k_get (ci := 9) X inlX9 rfl 9 (by decide) dX9_next_47 mw67 0 rfl rfl ?_
    refine k_callVI (n := 1) (As := [.int u_1]) (st := [.ref h0]) X [(cO9_i1r1i2r1i1r2i4l1i2 h0 xtpd th xfn xfp tp xen nm nd xkd u_1 u_1 xva xle xtk xta), (cAB g tp 900 tpf)] [] [0, 1] [] (x_kindAtX l g h0 u_1 xtpd th xfn xfp tp xen nm nd xkd u_1 u_1 xva xle xtk xta tpf) dX9_next_50 mw242 mw243 mw244 mw15 mw245 rfl 9 rfl rfl 0 _ rfl yk_yX9_kindAt_1 rfl (Nat.le_of_ble_eq_true rfl) (Nat.le_of_ble_eq_true rfl) (Nat.le_of_ble_eq_true rfl) (Nat.le_of_ble_eq_true rfl) (Nat.le_of_ble_eq_true rfl) rfl rfl (by decide) rfl (by decide) (by decide) ?_
    rintro r_8 w ⟨iv_9, hq_10, hq_11, rfl⟩
    refine k_ws [(cO9_i1r1i2r1i1r2i4l1i2 h0 xtpd th xfn xfp tp xen nm nd xkd u_1 u_1 xva xle xtk xta), (cAB g tp 900 tpf)] rfl ?_
    refine k_put (ci := 9) [(cO9_i1r1i2r1i1r2i4l1i2 h0 xtpd th xfn xfp tp xen nm nd r_8 u_1 u_1 xva xle xtk xta), (cAB g tp 900 tpf)] X inlX9 rfl tyX9_ok nmX9 8 (by decide) rfl dX9_next_53 mw66 0 rfl rfl rfl (Nat.le_of_ble_eq_true rfl) rfl ?_
    refine k_aload_n X dX9_next_56 0 rfl ?_
    refine k_lconst (v := 0) X dX9_next_57 (by decide) ?_
    refine k_put (ci := 9) [(cO9_i1r1i2r1i1r2i4l1i2 h0 xtpd th xfn xfp tp xen nm nd r_8 u_1 u_1 xva 0 xtk xta), (cAB g tp 900 tpf)] X inlX9 rfl tyX9_ok nmX9 12 (by decide) rfl dX9_next_58 mw70 0 rfl rfl rfl (Nat.le_of_ble_eq_true rfl) rfl ?_
    refine k_aload_n X dX9_next_61 0 rfl ?_
    refine k_iconst (v := 0) X dX9_next_62 (by decide) ?_
    refine k_put (ci := 9) [(cO9_i1r1i2r1i1r2i4l1i2 h0 xtpd th xfn xfp tp xen nm nd r_8 u_1 u_1 0 0 xtk xta), (cAB g tp 900 tpf)] X inlX9 rfl tyX9_ok nmX9 11 (by decide) rfl dX9_next_63 mw69 0 rfl rfl rfl (Nat.le_of_ble_eq_true rfl) rfl ?_
    refine k_aload_n X dX9_next_66 0 rfl ?_
    refine k_get (ci := 9) X inlX9 rfl 8 (by decide) dX9_next_67 mw66 0 rfl rfl ?_
    refine k_iconst (v := 1) X dX9_next_70 (by decide) ?_
    refine k_ic_eq 82 X dX9_next_71 (by decide) (fun h_12 => ?_) (fun h_12 => ?_)
    · skip
      have iv_13 : IV r_8 1 1 := iv_meet iv_9 (iv_e h_12 (show IV 1 1 1 from (by decide))) (by decide) (by decide)
      refine (fun hL : ∀ (nn_18 : Nat) (u_14 : Int32) (u_16 : Int32) (u_17 : Int64), (xen.toInt - u_14.toInt).toNat = nn_18 → (IV u_14 0 900) → (∀ (xkd2 : Int32) (xsta2 : Int32) (xpo2 : Int32) (xva2 : Int32) (xle2 : Int64), (∃ n_1 : Nat, R_x_nextX_L1 xen tpf r_8 (fun (u_14 : Int32) (u_16 : Int32) (u_17 : Int64) => ∃ z_25 : Int32, z_25 = u_14 - u_1 ∧ (((z_25 ≤ (8 : Int32)) ∧ (xkd2 = r_8 ∧ xsta2 = u_1 ∧ xpo2 = u_14 ∧ xva2 = u_16 ∧ xle2 = u_17)) ∨ ((¬ (z_25 ≤ (8 : Int32))) ∧ (xkd2 = 6 ∧ xsta2 = u_1 ∧ xpo2 = u_14 ∧ xva2 = u_16 ∧ xle2 = u_17)))) (fun (u_14 : Int32) (u_16 : Int32) (u_17 : Int64) => ∃ z_44 : Int32, z_44 = u_14 - u_1 ∧ (((z_44 ≤ (8 : Int32)) ∧ (xkd2 = r_8 ∧ xsta2 = u_1 ∧ xpo2 = u_14 ∧ xva2 = u_16 ∧ xle2 = u_17)) ∨ ((¬ (z_44 ≤ (8 : Int32))) ∧ (xkd2 = 6 ∧ xsta2 = u_1 ∧ xpo2 = u_14 ∧ xva2 = u_16 ∧ xle2 = u_17)))) n_1 u_14 u_16 u_17) → R_x_nextX xen xpo tpf xkd2 xsta2 xpo2 xva2 xle2) → Wk p l e _ s m args below meth c _ A g _ _ _ [(cO9_i1r1i2r1i1r2i4l1i2 h0 xtpd th xfn xfp tp xen nm nd r_8 u_1 u_14 u_16 u_17 xtk xta), (cAB g tp 900 tpf)] [(0, .ref h0)] 82 [] => hL _ u_1 0 0 rfl (iv_w hv_2 (by decide) (by decide)) (fun xkd2 xsta2 xpo2 xva2 xle2 h => (KH_0 _ _ _ _ _ ⟨0 + 1, (Or.inl ⟨h_6, ⟨r_8, hq_11, (Or.inl ⟨h_12, h⟩)⟩⟩)⟩))) ?_
      refine fun nn_18 => Nat.strongRecOn nn_18 (fun nn_18 ih_20 => ?_)
      intro u_14 u_16 u_17 hm_19 hv_15 KH_1
      refine k_aload_n X dX9_next_82 0 rfl ?_
      refine k_get (ci := 9) X inlX9 rfl 10 (by decide) dX9_next_83 mw68 0 rfl rfl ?_
      refine k_if_lt 209 X dX9_next_86 (by decide) (fun h_21 => (iv_ltN (iv_lt h_21) hv_15 (show IV 0 0 0 from (by decide)) (by decide)).elim) (fun h_21 => ?_)
      have j_22 : 0 ≤ u_14.toInt := iv_nlt h_21
      refine k_aload_n X dX9_next_89 0 rfl ?_
      refine k_get (ci := 9) X inlX9 rfl 10 (by decide) dX9_next_90 mw68 0 rfl rfl ?_
      refine k_aload_n X dX9_next_93 0 rfl ?_
      refine k_get (ci := 9) X inlX9 rfl 5 (by decide) dX9_next_94 mw60 0 rfl rfl ?_
      refine k_ic_ge 209 X dX9_next_97 (by decide) (fun h_23 => ?_) (fun h_23 => ?_)
      · skip
        have j_24 : xen.toInt ≤ u_14.toInt := iv_le h_23
        refine k_aload_n X dX9_next_209 0 rfl ?_
        refine k_get (ci := 9) X inlX9 rfl 10 (by decide) dX9_next_210 mw68 0 rfl rfl ?_
        refine k_aload_n X dX9_next_213 0 rfl ?_
        refine k_get (ci := 9) X inlX9 rfl 9 (by decide) dX9_next_214 mw67 0 rfl rfl ?_
        refine k_isub X dX9_next_217 ?_
        refine k_nm (fun z_25 ez_25 => ?_)
        have i_26 : z_25.toInt = u_14.toInt - u_1.toInt := in_sub ez_25 hv_15 hv_2 (by decide) (by decide)
        have iv_27 : IV z_25 (-900) 900 := by have := hv_15; have := hv_2; rw [IV, i_26]; omega
        refine k_aload_n X dX9_next_218 0 rfl ?_
        refine k_get (ci := 9) X inlX9 rfl 8 (by decide) dX9_next_219 mw66 0 rfl rfl ?_
        refine k_iconst (v := 1) X dX9_next_222 (by decide) ?_
        refine k_ic_ne 231 X dX9_next_223 (by decide) (fun h_28 => absurd (iv_eq iv_13 (show IV 1 1 1 from (by decide))) h_28) (fun h_28 => ?_)
        refine k_bipush (v := 8) X dX9_next_226 (by decide) ?_
        refine k_goto 232 X dX9_next_228 (by decide) ?_
        refine k_ic_le 241 X dX9_next_232 (by decide) (fun h_29 => ?_) (fun h_29 => ?_)
        · skip
          have j_30 : z_25.toInt ≤ 8 := iv_le h_29
          have iv_31 : IV z_25 (-900) 8 := iv_leL (iv_le h_29) iv_27 (show IV 8 8 8 from (by decide)) (by decide)
          exact k_vret X hr dX9_next_241 (Nat.le_of_ble_eq_true rfl) (Nat.le_of_ble_eq_true rfl) [0, 1] (by decide) rfl rfl ⟨r_8, u_1, u_14, u_16, u_17, (iv_w hv_2 (by decide) (by decide)), (iv_w hv_15 (by decide) (by decide)), (iv_w iv_13 (by decide) (by decide)), (KH_1 _ _ _ _ _ ⟨0 + 1, (Or.inl ⟨h_23, ⟨z_25, ez_25, (Or.inl ⟨h_29, ⟨rfl, rfl, rfl, rfl, rfl⟩⟩)⟩⟩)⟩), rfl⟩
        · skip
          have j_32 : 8 < z_25.toInt := iv_nle h_29
          have iv_33 : IV z_25 9 900 := iv_ltR (iv_nle h_29) (show IV 8 8 8 from (by decide)) iv_27 (by decide)
          refine k_aload_n X dX9_next_235 0 rfl ?_
          refine k_bipush (v := 6) X dX9_next_236 (by decide) ?_
          refine k_put (ci := 9) [(cO9_i1r1i2r1i1r2i4l1i2 h0 xtpd th xfn xfp tp xen nm nd 6 u_1 u_14 u_16 u_17 xtk xta), (cAB g tp 900 tpf)] X inlX9 rfl tyX9_ok nmX9 8 (by decide) rfl dX9_next_238 mw66 0 rfl rfl rfl (Nat.le_of_ble_eq_true rfl) rfl ?_
          exact k_vret X hr dX9_next_241 (Nat.le_of_ble_eq_true rfl) (Nat.le_of_ble_eq_true rfl) [0, 1] (by decide) rfl rfl ⟨6, u_1, u_14, u_16, u_17, (iv_w hv_2 (by decide) (by decide)), (iv_w hv_15 (by decide) (by decide)), (iv_w (show IV 6 6 6 from (by decide)) (by decide) (by decide)), (KH_1 _ _ _ _ _ ⟨0 + 1, (Or.inl ⟨h_23, ⟨z_25, ez_25, (Or.inr ⟨h_29, ⟨rfl, rfl, rfl, rfl, rfl⟩⟩)⟩⟩)⟩), rfl⟩
      · skip
        have j_34 : u_14.toInt < xen.toInt := iv_nle h_23
        have iv_35 : IV u_14 0 899 := iv_ltL (iv_nle h_23) hv_15 hv_xen (by decide)
        have iv_36 : IV xen 1 900 := iv_ltR (iv_nle h_23) hv_15 hv_xen (by decide)
        refine k_aload_n X dX9_next_100 0 rfl ?_
        refine k_get (ci := 9) X inlX9 rfl 10 (by decide) dX9_next_101 mw68 0 rfl rfl ?_
        refine k_aload_n X dX9_next_104 0 rfl ?_
        refine k_get (ci := 9) X inlX9 rfl 4 (by decide) dX9_next_105 mw59 0 rfl rfl ?_
        refine k_alen 900 0 X dX9_next_108 1 rfl rfl (by show Int32.ofNat 900 = 900; decide) ?_
        refine k_ic_ge 209 X dX9_next_109 (by decide) (fun h_37 => (iv_leN (iv_le h_37) (show IV 900 900 900 from (by decide)) iv_35 (by decide)).elim) (fun h_37 => ?_)
        have j_38 : u_14.toInt < 900 := iv_nle h_37
        refine k_aload_n X dX9_next_112 0 rfl ?_
        refine k_aload_n X dX9_next_113 0 rfl ?_
        refine k_get (ci := 9) X inlX9 rfl 10 (by decide) dX9_next_114 mw68 0 rfl rfl ?_
        refine k_callVI (n := 1) (As := [.int u_14]) (st := []) X [(cO9_i1r1i2r1i1r2i4l1i2 h0 xtpd th xfn xfp tp xen nm nd r_8 u_1 u_14 u_16 u_17 xtk xta), (cAB g tp 900 tpf)] [] [0, 1] [] (x_kindAtX l g h0 u_14 xtpd th xfn xfp tp xen nm nd r_8 u_1 u_14 u_16 u_17 xtk xta tpf) dX9_next_117 mw242 mw243 mw244 mw15 mw245 rfl 9 rfl rfl 0 _ rfl yk_yX9_kindAt_1 rfl (Nat.le_of_ble_eq_true rfl) (Nat.le_of_ble_eq_true rfl) (Nat.le_of_ble_eq_true rfl) (Nat.le_of_ble_eq_true rfl) (Nat.le_of_ble_eq_true rfl) rfl rfl (by decide) rfl (by decide) (by decide) ?_
        rintro r_39 w ⟨iv_40, hq_41, hq_42, rfl⟩
        refine k_ws [(cO9_i1r1i2r1i1r2i4l1i2 h0 xtpd th xfn xfp tp xen nm nd r_8 u_1 u_14 u_16 u_17 xtk xta), (cAB g tp 900 tpf)] rfl ?_
        refine k_aload_n X dX9_next_120 0 rfl ?_
        refine k_get (ci := 9) X inlX9 rfl 8 (by decide) dX9_next_121 mw66 0 rfl rfl ?_
        refine k_ic_ne 209 X dX9_next_124 (by decide) (fun h_43 => ?_) (fun h_43 => ?_)
        · skip
          refine k_aload_n X dX9_next_209 0 rfl ?_
          refine k_get (ci := 9) X inlX9 rfl 10 (by decide) dX9_next_210 mw68 0 rfl rfl ?_
          refine k_aload_n X dX9_next_213 0 rfl ?_
          refine k_get (ci := 9) X inlX9 rfl 9 (by decide) dX9_next_214 mw67 0 rfl rfl ?_
          refine k_isub X dX9_next_217 ?_
          refine k_nm (fun z_44 ez_44 => ?_)
          have i_45 : z_44.toInt = u_14.toInt - u_1.toInt := in_sub ez_44 iv_35 hv_2 (by decide) (by decide)
          have iv_46 : IV z_44 (-900) 899 := by have := iv_35; have := hv_2; rw [IV, i_45]; omega
          refine k_aload_n X dX9_next_218 0 rfl ?_
          refine k_get (ci := 9) X inlX9 rfl 8 (by decide) dX9_next_219 mw66 0 rfl rfl ?_
          refine k_iconst (v := 1) X dX9_next_222 (by decide) ?_
          refine k_ic_ne 231 X dX9_next_223 (by decide) (fun h_47 => absurd (iv_eq iv_13 (show IV 1 1 1 from (by decide))) h_47) (fun h_47 => ?_)
          refine k_bipush (v := 8) X dX9_next_226 (by decide) ?_
          refine k_goto 232 X dX9_next_228 (by decide) ?_
          refine k_ic_le 241 X dX9_next_232 (by decide) (fun h_48 => ?_) (fun h_48 => ?_)
          · skip
            have j_49 : z_44.toInt ≤ 8 := iv_le h_48
            have iv_50 : IV z_44 (-900) 8 := iv_leL (iv_le h_48) iv_46 (show IV 8 8 8 from (by decide)) (by decide)
            exact k_vret X hr dX9_next_241 (Nat.le_of_ble_eq_true rfl) (Nat.le_of_ble_eq_true rfl) [0, 1] (by decide) rfl rfl ⟨r_8, u_1, u_14, u_16, u_17, (iv_w hv_2 (by decide) (by decide)), (iv_w iv_35 (by decide) (by decide)), (iv_w iv_13 (by decide) (by decide)), (KH_1 _ _ _ _ _ ⟨0 + 1, (Or.inr ⟨h_23, ⟨r_39, hq_42, (Or.inl ⟨h_43, ⟨z_44, ez_44, (Or.inl ⟨h_48, ⟨rfl, rfl, rfl, rfl, rfl⟩⟩)⟩⟩)⟩⟩)⟩), rfl⟩
          · skip
            have j_51 : 8 < z_44.toInt := iv_nle h_48
            have iv_52 : IV z_44 9 899 := iv_ltR (iv_nle h_48) (show IV 8 8 8 from (by decide)) iv_46 (by decide)
            refine k_aload_n X dX9_next_235 0 rfl ?_
            refine k_bipush (v := 6) X dX9_next_236 (by decide) ?_
            refine k_put (ci := 9) [(cO9_i1r1i2r1i1r2i4l1i2 h0 xtpd th xfn xfp tp xen nm nd 6 u_1 u_14 u_16 u_17 xtk xta), (cAB g tp 900 tpf)] X inlX9 rfl tyX9_ok nmX9 8 (by decide) rfl dX9_next_238 mw66 0 rfl rfl rfl (Nat.le_of_ble_eq_true rfl) rfl ?_
            exact k_vret X hr dX9_next_241 (Nat.le_of_ble_eq_true rfl) (Nat.le_of_ble_eq_true rfl) [0, 1] (by decide) rfl rfl ⟨6, u_1, u_14, u_16, u_17, (iv_w hv_2 (by decide) (by decide)), (iv_w iv_35 (by decide) (by decide)), (iv_w (show IV 6 6 6 from (by decide)) (by decide) (by decide)), (KH_1 _ _ _ _ _ ⟨0 + 1, (Or.inr ⟨h_23, ⟨r_39, hq_42, (Or.inl ⟨h_43, ⟨z_44, ez_44, (Or.inr ⟨h_48, ⟨rfl, rfl, rfl, rfl, rfl⟩⟩)⟩⟩)⟩⟩)⟩), rfl⟩
        · skip
          have iv_53 : IV r_39 1 1 := iv_meet iv_40 (iv_e h_43 iv_13) (by decide) (by decide)
          refine k_aload_n X dX9_next_127 0 rfl ?_
          refine k_aload_n X dX9_next_128 0 rfl ?_
          refine k_get (ci := 9) X inlX9 rfl 12 (by decide) dX9_next_129 mw70 0 rfl rfl ?_
          refine k_ldc2 (v := 27) X dX9_next_132 mw241 ?_
          refine k_lmul X dX9_next_135 ?_
          refine k_nmL (fun y_54 ey_54 => ?_)
          refine k_aload_n X dX9_next_136 0 rfl ?_
          refine k_get (ci := 9) X inlX9 rfl 4 (by decide) dX9_next_137 mw59 0 rfl rfl ?_
          refine k_aload_n X dX9_next_140 0 rfl ?_
          refine k_get (ci := 9) X inlX9 rfl 10 (by decide) dX9_next_141 mw68 0 rfl rfl ?_
          refine k_bald X dX9_next_144 1 rfl (iv_in iv_35 (by decide) (by decide)) ?_
          refine k_nm (fun z_55 ez_55 => ?_)
          refine k_bipush (v := 97) X dX9_next_145 (by decide) ?_
          refine k_isub X dX9_next_147 ?_
          refine k_nm (fun z_56 ez_56 => ?_)
          refine k_iconst (v := 1) X dX9_next_148 (by decide) ?_
          refine k_iadd X dX9_next_149 ?_
          refine k_nm (fun z_58 ez_58 => ?_)
          refine k_i2l X dX9_next_150 ?_
          refine k_nmL (fun y_60 ey_60 => ?_)
          refine k_ladd X dX9_next_151 ?_
          refine k_nmL (fun y_61 ey_61 => ?_)
          refine k_put (ci := 9) [(cO9_i1r1i2r1i1r2i4l1i2 h0 xtpd th xfn xfp tp xen nm nd r_8 u_1 u_14 u_16 y_61 xtk xta), (cAB g tp 900 tpf)] X inlX9 rfl tyX9_ok nmX9 12 (by decide) rfl dX9_next_152 mw70 0 rfl rfl rfl (Nat.le_of_ble_eq_true rfl) rfl ?_
          refine k_aload_n X dX9_next_155 0 rfl ?_
          refine k_aload_n X dX9_next_156 0 rfl ?_
          refine k_get (ci := 9) X inlX9 rfl 11 (by decide) dX9_next_157 mw69 0 rfl rfl ?_
          refine k_bipush (v := 10) X dX9_next_160 (by decide) ?_
          refine k_imul X dX9_next_162 ?_
          refine k_nm (fun z_62 ez_62 => ?_)
          refine k_aload_n X dX9_next_163 0 rfl ?_
          refine k_get (ci := 9) X inlX9 rfl 4 (by decide) dX9_next_164 mw59 0 rfl rfl ?_
          refine k_aload_n X dX9_next_167 0 rfl ?_
          refine k_get (ci := 9) X inlX9 rfl 10 (by decide) dX9_next_168 mw68 0 rfl rfl ?_
          refine k_bald X dX9_next_171 1 rfl (iv_in iv_35 (by decide) (by decide)) ?_
          refine k_nm (fun z_64 ez_64 => ?_)
          refine k_bipush (v := 48) X dX9_next_172 (by decide) ?_
          refine k_isub X dX9_next_174 ?_
          refine k_nm (fun z_65 ez_65 => ?_)
          refine k_iadd X dX9_next_175 ?_
          refine k_nm (fun z_67 ez_67 => ?_)
          refine k_put (ci := 9) [(cO9_i1r1i2r1i1r2i4l1i2 h0 xtpd th xfn xfp tp xen nm nd r_8 u_1 u_14 z_67 y_61 xtk xta), (cAB g tp 900 tpf)] X inlX9 rfl tyX9_ok nmX9 11 (by decide) rfl dX9_next_176 mw69 0 rfl rfl rfl (Nat.le_of_ble_eq_true rfl) rfl ?_
          refine k_aload_n X dX9_next_179 0 rfl ?_
          refine k_dup X dX9_next_180 rfl ?_
          refine k_get (ci := 9) X inlX9 rfl 10 (by decide) dX9_next_181 mw68 0 rfl rfl ?_
          refine k_iconst (v := 1) X dX9_next_184 (by decide) ?_
          refine k_iadd X dX9_next_185 ?_
          refine k_nm (fun z_69 ez_69 => ?_)
          have i_70 : z_69.toInt = u_14.toInt + 1 := in_add ez_69 iv_35 (show IV 1 1 1 from (by decide)) (by decide) (by decide)
          have iv_71 : IV z_69 1 900 := iz1 i_70 iv_35 (by decide) (by decide)
          refine k_put (ci := 9) [(cO9_i1r1i2r1i1r2i4l1i2 h0 xtpd th xfn xfp tp xen nm nd r_8 u_1 z_69 z_67 y_61 xtk xta), (cAB g tp 900 tpf)] X inlX9 rfl tyX9_ok nmX9 10 (by decide) rfl dX9_next_186 mw68 0 rfl rfl rfl (Nat.le_of_ble_eq_true rfl) rfl ?_
          refine k_goto 82 X dX9_next_189 (by decide) ?_
          exact ih_20 _ (by omega) z_69 z_67 y_61 rfl (iv_w iv_71 (by decide) (by decide)) (fun xkd2 xsta2 xpo2 xva2 xle2 h => h.elim (fun n_1 q => (KH_1 _ _ _ _ _ ⟨n_1 + 1, (Or.inr ⟨h_23, ⟨r_39, hq_42, (Or.inr ⟨h_43, ⟨y_54, ey_54, ⟨z_55, ez_55, ⟨z_56, ez_56, ⟨z_58, ez_58, ⟨y_60, ey_60, ⟨y_61, ey_61, ⟨z_62, ez_62, ⟨z_64, ez_64, ⟨z_65, ez_65, ⟨z_67, ez_67, ⟨z_69, ez_69, q⟩⟩⟩⟩⟩⟩⟩⟩⟩⟩⟩⟩)⟩⟩)⟩)))
    · skip
      refine k_aload_n X dX9_next_74 0 rfl ?_
      refine k_get (ci := 9) X inlX9 rfl 8 (by decide) dX9_next_75 mw66 0 rfl rfl ?_
      refine k_iconst (v := 2) X dX9_next_78 (by decide) ?_
      refine k_ic_ne 192 X dX9_next_79 (by decide) (fun h_72 => ?_) (fun h_72 => ?_)
      · skip
        refine k_aload_n X dX9_next_192 0 rfl ?_
        refine k_get (ci := 9) X inlX9 rfl 8 (by decide) dX9_next_193 mw66 0 rfl rfl ?_
        refine k_if_eq 209 X dX9_next_196 (by decide) (fun h_73 => ?_) (fun h_73 => ?_)
        · skip
          have iv_74 : IV r_8 0 0 := iv_meet iv_9 (iv_e h_73 (show IV 0 0 0 from (by decide))) (by decide) (by decide)
          refine k_aload_n X dX9_next_209 0 rfl ?_
          refine k_get (ci := 9) X inlX9 rfl 10 (by decide) dX9_next_210 mw68 0 rfl rfl ?_
          refine k_aload_n X dX9_next_213 0 rfl ?_
          refine k_get (ci := 9) X inlX9 rfl 9 (by decide) dX9_next_214 mw67 0 rfl rfl ?_
          refine k_isub X dX9_next_217 ?_
          refine k_nm (fun z_75 ez_75 => ?_)
          have i_76 : z_75.toInt = u_1.toInt - u_1.toInt := in_sub ez_75 hv_2 hv_2 (by decide) (by decide)
          have iv_77 : IV z_75 (-900) 900 := by have := hv_2; have := hv_2; rw [IV, i_76]; omega
          refine k_aload_n X dX9_next_218 0 rfl ?_
          refine k_get (ci := 9) X inlX9 rfl 8 (by decide) dX9_next_219 mw66 0 rfl rfl ?_
          refine k_iconst (v := 1) X dX9_next_222 (by decide) ?_
          refine k_ic_ne 231 X dX9_next_223 (by decide) (fun h_78 => ?_) (fun h_78 => (iv_eqN h_78 iv_74 (show IV 1 1 1 from (by decide)) (by decide)).elim)
          refine k_iconst (v := 4) X dX9_next_231 (by decide) ?_
          refine k_ic_le 241 X dX9_next_232 (by decide) (fun h_79 => ?_) (fun h_79 => ?_)
          · skip
            have j_80 : z_75.toInt ≤ 4 := iv_le h_79
            have iv_81 : IV z_75 (-900) 4 := iv_leL (iv_le h_79) iv_77 (show IV 4 4 4 from (by decide)) (by decide)
            exact k_vret X hr dX9_next_241 (Nat.le_of_ble_eq_true rfl) (Nat.le_of_ble_eq_true rfl) [0, 1] (by decide) rfl rfl ⟨r_8, u_1, u_1, 0, 0, (iv_w hv_2 (by decide) (by decide)), (iv_w hv_2 (by decide) (by decide)), (iv_w iv_74 (by decide) (by decide)), (KH_0 _ _ _ _ _ ⟨0 + 1, (Or.inl ⟨h_6, ⟨r_8, hq_11, (Or.inr ⟨h_12, (Or.inl ⟨h_72, (Or.inl ⟨h_73, ⟨z_75, ez_75, (Or.inl ⟨h_79, ⟨rfl, rfl, rfl, rfl, rfl⟩⟩)⟩⟩)⟩)⟩)⟩⟩)⟩), rfl⟩
          · skip
            have j_82 : 4 < z_75.toInt := iv_nle h_79
            have iv_83 : IV z_75 5 900 := iv_ltR (iv_nle h_79) (show IV 4 4 4 from (by decide)) iv_77 (by decide)
            refine k_aload_n X dX9_next_235 0 rfl ?_
            refine k_bipush (v := 6) X dX9_next_236 (by decide) ?_
            refine k_put (ci := 9) [(cO9_i1r1i2r1i1r2i4l1i2 h0 xtpd th xfn xfp tp xen nm nd 6 u_1 u_1 0 0 xtk xta), (cAB g tp 900 tpf)] X inlX9 rfl tyX9_ok nmX9 8 (by decide) rfl dX9_next_238 mw66 0 rfl rfl rfl (Nat.le_of_ble_eq_true rfl) rfl ?_
            exact k_vret X hr dX9_next_241 (Nat.le_of_ble_eq_true rfl) (Nat.le_of_ble_eq_true rfl) [0, 1] (by decide) rfl rfl ⟨6, u_1, u_1, 0, 0, (iv_w hv_2 (by decide) (by decide)), (iv_w hv_2 (by decide) (by decide)), (iv_w (show IV 6 6 6 from (by decide)) (by decide) (by decide)), (KH_0 _ _ _ _ _ ⟨0 + 1, (Or.inl ⟨h_6, ⟨r_8, hq_11, (Or.inr ⟨h_12, (Or.inl ⟨h_72, (Or.inl ⟨h_73, ⟨z_75, ez_75, (Or.inr ⟨h_79, ⟨rfl, rfl, rfl, rfl, rfl⟩⟩)⟩⟩)⟩)⟩)⟩⟩)⟩), rfl⟩
        · skip
          have iv_84 : IV r_8 1 6 := iv_neL h_73 iv_9 (show IV 0 0 0 from (by decide)) (by decide)
          have iv_85 : IV u_1 0 899 := ⟨hv_2.1, by rcases hq_10 with q | q; exact absurd q h_73; have := hv_xen.2; omega⟩
          refine k_aload_n X dX9_next_199 0 rfl ?_
          refine k_dup X dX9_next_200 rfl ?_
          refine k_get (ci := 9) X inlX9 rfl 10 (by decide) dX9_next_201 mw68 0 rfl rfl ?_
          refine k_iconst (v := 1) X dX9_next_204 (by decide) ?_
          refine k_iadd X dX9_next_205 ?_
          refine k_nm (fun z_86 ez_86 => ?_)
          have i_87 : z_86.toInt = u_1.toInt + 1 := in_add ez_86 iv_85 (show IV 1 1 1 from (by decide)) (by decide) (by decide)
          have iv_88 : IV z_86 1 900 := iz1 i_87 iv_85 (by decide) (by decide)
          refine k_put (ci := 9) [(cO9_i1r1i2r1i1r2i4l1i2 h0 xtpd th xfn xfp tp xen nm nd r_8 u_1 z_86 0 0 xtk xta), (cAB g tp 900 tpf)] X inlX9 rfl tyX9_ok nmX9 10 (by decide) rfl dX9_next_206 mw68 0 rfl rfl rfl (Nat.le_of_ble_eq_true rfl) rfl ?_
          refine k_aload_n X dX9_next_209 0 rfl ?_
          refine k_get (ci := 9) X inlX9 rfl 10 (by decide) dX9_next_210 mw68 0 rfl rfl ?_
          refine k_aload_n X dX9_next_213 0 rfl ?_
          refine k_get (ci := 9) X inlX9 rfl 9 (by decide) dX9_next_214 mw67 0 rfl rfl ?_
          refine k_isub X dX9_next_217 ?_
          refine k_nm (fun z_89 ez_89 => ?_)
          have i_90 : z_89.toInt = z_86.toInt - u_1.toInt := in_sub ez_89 iv_88 iv_85 (by decide) (by decide)
          have iv_91 : IV z_89 (-898) 900 := by have := iv_88; have := iv_85; rw [IV, i_90]; omega
          refine k_aload_n X dX9_next_218 0 rfl ?_
          refine k_get (ci := 9) X inlX9 rfl 8 (by decide) dX9_next_219 mw66 0 rfl rfl ?_
          refine k_iconst (v := 1) X dX9_next_222 (by decide) ?_
          refine k_ic_ne 231 X dX9_next_223 (by decide) (fun h_92 => ?_) (fun h_92 => ?_)
          · skip
            have iv_93 : IV r_8 2 6 := iv_neL h_92 iv_84 (show IV 1 1 1 from (by decide)) (by decide)
            refine k_iconst (v := 4) X dX9_next_231 (by decide) ?_
            refine k_ic_le 241 X dX9_next_232 (by decide) (fun h_94 => ?_) (fun h_94 => ?_)
            · skip
              have j_95 : z_89.toInt ≤ 4 := iv_le h_94
              have iv_96 : IV z_89 (-898) 4 := iv_leL (iv_le h_94) iv_91 (show IV 4 4 4 from (by decide)) (by decide)
              exact k_vret X hr dX9_next_241 (Nat.le_of_ble_eq_true rfl) (Nat.le_of_ble_eq_true rfl) [0, 1] (by decide) rfl rfl ⟨r_8, u_1, z_86, 0, 0, (iv_w iv_85 (by decide) (by decide)), (iv_w iv_88 (by decide) (by decide)), (iv_w iv_93 (by decide) (by decide)), (KH_0 _ _ _ _ _ ⟨0 + 1, (Or.inl ⟨h_6, ⟨r_8, hq_11, (Or.inr ⟨h_12, (Or.inl ⟨h_72, (Or.inr ⟨h_73, ⟨z_86, ez_86, ⟨z_89, ez_89, (Or.inl ⟨h_92, (Or.inl ⟨h_94, ⟨rfl, rfl, rfl, rfl, rfl⟩⟩)⟩)⟩⟩⟩)⟩)⟩)⟩⟩)⟩), rfl⟩
            · skip
              have j_97 : 4 < z_89.toInt := iv_nle h_94
              have iv_98 : IV z_89 5 900 := iv_ltR (iv_nle h_94) (show IV 4 4 4 from (by decide)) iv_91 (by decide)
              refine k_aload_n X dX9_next_235 0 rfl ?_
              refine k_bipush (v := 6) X dX9_next_236 (by decide) ?_
              refine k_put (ci := 9) [(cO9_i1r1i2r1i1r2i4l1i2 h0 xtpd th xfn xfp tp xen nm nd 6 u_1 z_86 0 0 xtk xta), (cAB g tp 900 tpf)] X inlX9 rfl tyX9_ok nmX9 8 (by decide) rfl dX9_next_238 mw66 0 rfl rfl rfl (Nat.le_of_ble_eq_true rfl) rfl ?_
              exact k_vret X hr dX9_next_241 (Nat.le_of_ble_eq_true rfl) (Nat.le_of_ble_eq_true rfl) [0, 1] (by decide) rfl rfl ⟨6, u_1, z_86, 0, 0, (iv_w iv_85 (by decide) (by decide)), (iv_w iv_88 (by decide) (by decide)), (iv_w (show IV 6 6 6 from (by decide)) (by decide) (by decide)), (KH_0 _ _ _ _ _ ⟨0 + 1, (Or.inl ⟨h_6, ⟨r_8, hq_11, (Or.inr ⟨h_12, (Or.inl ⟨h_72, (Or.inr ⟨h_73, ⟨z_86, ez_86, ⟨z_89, ez_89, (Or.inl ⟨h_92, (Or.inr ⟨h_94, ⟨rfl, rfl, rfl, rfl, rfl⟩⟩)⟩)⟩⟩⟩)⟩)⟩)⟩⟩)⟩), rfl⟩
          · skip
            have iv_99 : IV r_8 1 1 := iv_meet iv_84 (iv_e h_92 (show IV 1 1 1 from (by decide))) (by decide) (by decide)
            refine k_bipush (v := 8) X dX9_next_226 (by decide) ?_
            refine k_goto 232 X dX9_next_228 (by decide) ?_
            refine k_ic_le 241 X dX9_next_232 (by decide) (fun h_100 => ?_) (fun h_100 => ?_)
            · skip
              have j_101 : z_89.toInt ≤ 8 := iv_le h_100
              have iv_102 : IV z_89 (-898) 8 := iv_leL (iv_le h_100) iv_91 (show IV 8 8 8 from (by decide)) (by decide)
              exact k_vret X hr dX9_next_241 (Nat.le_of_ble_eq_true rfl) (Nat.le_of_ble_eq_true rfl) [0, 1] (by decide) rfl rfl ⟨r_8, u_1, z_86, 0, 0, (iv_w iv_85 (by decide) (by decide)), (iv_w iv_88 (by decide) (by decide)), (iv_w iv_99 (by decide) (by decide)), (KH_0 _ _ _ _ _ ⟨0 + 1, (Or.inl ⟨h_6, ⟨r_8, hq_11, (Or.inr ⟨h_12, (Or.inl ⟨h_72, (Or.inr ⟨h_73, ⟨z_86, ez_86, ⟨z_89, ez_89, (Or.inr ⟨h_92, (Or.inl ⟨h_100, ⟨rfl, rfl, rfl, rfl, rfl⟩⟩)⟩)⟩⟩⟩)⟩)⟩)⟩⟩)⟩), rfl⟩
            · skip
              have j_103 : 8 < z_89.toInt := iv_nle h_100
              have iv_104 : IV z_89 9 900 := iv_ltR (iv_nle h_100) (show IV 8 8 8 from (by decide)) iv_91 (by decide)
              refine k_aload_n X dX9_next_235 0 rfl ?_
              refine k_bipush (v := 6) X dX9_next_236 (by decide) ?_
              refine k_put (ci := 9) [(cO9_i1r1i2r1i1r2i4l1i2 h0 xtpd th xfn xfp tp xen nm nd 6 u_1 z_86 0 0 xtk xta), (cAB g tp 900 tpf)] X inlX9 rfl tyX9_ok nmX9 8 (by decide) rfl dX9_next_238 mw66 0 rfl rfl rfl (Nat.le_of_ble_eq_true rfl) rfl ?_
              exact k_vret X hr dX9_next_241 (Nat.le_of_ble_eq_true rfl) (Nat.le_of_ble_eq_true rfl) [0, 1] (by decide) rfl rfl ⟨6, u_1, z_86, 0, 0, (iv_w iv_85 (by decide) (by decide)), (iv_w iv_88 (by decide) (by decide)), (iv_w (show IV 6 6 6 from (by decide)) (by decide) (by decide)), (KH_0 _ _ _ _ _ ⟨0 + 1, (Or.inl ⟨h_6, ⟨r_8, hq_11, (Or.inr ⟨h_12, (Or.inl ⟨h_72, (Or.inr ⟨h_73, ⟨z_86, ez_86, ⟨z_89, ez_89, (Or.inr ⟨h_92, (Or.inr ⟨h_100, ⟨rfl, rfl, rfl, rfl, rfl⟩⟩)⟩)⟩⟩⟩)⟩)⟩)⟩⟩)⟩), rfl⟩
      · skip
        have iv_105 : IV r_8 2 2 := iv_meet iv_9 (iv_e h_72 (show IV 2 2 2 from (by decide))) (by decide) (by decide)
        refine (fun hL : ∀ (nn_110 : Nat) (u_106 : Int32) (u_108 : Int32) (u_109 : Int64), (xen.toInt - u_106.toInt).toNat = nn_110 → (IV u_106 0 900) → (∀ (xkd2 : Int32) (xsta2 : Int32) (xpo2 : Int32) (xva2 : Int32) (xle2 : Int64), (∃ n_2 : Nat, R_x_nextX_L2 xen tpf r_8 (fun (u_106 : Int32) (u_108 : Int32) (u_109 : Int64) => ∃ z_117 : Int32, z_117 = u_106 - u_1 ∧ (((z_117 ≤ (4 : Int32)) ∧ (xkd2 = r_8 ∧ xsta2 = u_1 ∧ xpo2 = u_106 ∧ xva2 = u_108 ∧ xle2 = u_109)) ∨ ((¬ (z_117 ≤ (4 : Int32))) ∧ (xkd2 = 6 ∧ xsta2 = u_1 ∧ xpo2 = u_106 ∧ xva2 = u_108 ∧ xle2 = u_109)))) (fun (u_106 : Int32) (u_108 : Int32) (u_109 : Int64) => ∃ z_136 : Int32, z_136 = u_106 - u_1 ∧ (((z_136 ≤ (4 : Int32)) ∧ (xkd2 = r_8 ∧ xsta2 = u_1 ∧ xpo2 = u_106 ∧ xva2 = u_108 ∧ xle2 = u_109)) ∨ ((¬ (z_136 ≤ (4 : Int32))) ∧ (xkd2 = 6 ∧ xsta2 = u_1 ∧ xpo2 = u_106 ∧ xva2 = u_108 ∧ xle2 = u_109)))) n_2 u_106 u_108 u_109) → R_x_nextX xen xpo tpf xkd2 xsta2 xpo2 xva2 xle2) → Wk p l e _ s m args below meth c _ A g _ _ _ [(cO9_i1r1i2r1i1r2i4l1i2 h0 xtpd th xfn xfp tp xen nm nd r_8 u_1 u_106 u_108 u_109 xtk xta), (cAB g tp 900 tpf)] [(0, .ref h0)] 82 [] => hL _ u_1 0 0 rfl (iv_w hv_2 (by decide) (by decide)) (fun xkd2 xsta2 xpo2 xva2 xle2 h => (KH_0 _ _ _ _ _ ⟨0 + 1, (Or.inl ⟨h_6, ⟨r_8, hq_11, (Or.inr ⟨h_12, (Or.inr ⟨h_72, h⟩)⟩)⟩⟩)⟩))) ?_
        refine fun nn_110 => Nat.strongRecOn nn_110 (fun nn_110 ih_112 => ?_)
        intro u_106 u_108 u_109 hm_111 hv_107 KH_2
        refine k_aload_n X dX9_next_82 0 rfl ?_
        refine k_get (ci := 9) X inlX9 rfl 10 (by decide) dX9_next_83 mw68 0 rfl rfl ?_
        refine k_if_lt 209 X dX9_next_86 (by decide) (fun h_113 => (iv_ltN (iv_lt h_113) hv_107 (show IV 0 0 0 from (by decide)) (by decide)).elim) (fun h_113 => ?_)
        have j_114 : 0 ≤ u_106.toInt := iv_nlt h_113
        refine k_aload_n X dX9_next_89 0 rfl ?_
        refine k_get (ci := 9) X inlX9 rfl 10 (by decide) dX9_next_90 mw68 0 rfl rfl ?_
        refine k_aload_n X dX9_next_93 0 rfl ?_
        refine k_get (ci := 9) X inlX9 rfl 5 (by decide) dX9_next_94 mw60 0 rfl rfl ?_
        refine k_ic_ge 209 X dX9_next_97 (by decide) (fun h_115 => ?_) (fun h_115 => ?_)
        · skip
          have j_116 : xen.toInt ≤ u_106.toInt := iv_le h_115
          refine k_aload_n X dX9_next_209 0 rfl ?_
          refine k_get (ci := 9) X inlX9 rfl 10 (by decide) dX9_next_210 mw68 0 rfl rfl ?_
          refine k_aload_n X dX9_next_213 0 rfl ?_
          refine k_get (ci := 9) X inlX9 rfl 9 (by decide) dX9_next_214 mw67 0 rfl rfl ?_
          refine k_isub X dX9_next_217 ?_
          refine k_nm (fun z_117 ez_117 => ?_)
          have i_118 : z_117.toInt = u_106.toInt - u_1.toInt := in_sub ez_117 hv_107 hv_2 (by decide) (by decide)
          have iv_119 : IV z_117 (-900) 900 := by have := hv_107; have := hv_2; rw [IV, i_118]; omega
          refine k_aload_n X dX9_next_218 0 rfl ?_
          refine k_get (ci := 9) X inlX9 rfl 8 (by decide) dX9_next_219 mw66 0 rfl rfl ?_
          refine k_iconst (v := 1) X dX9_next_222 (by decide) ?_
          refine k_ic_ne 231 X dX9_next_223 (by decide) (fun h_120 => ?_) (fun h_120 => (iv_eqN h_120 iv_105 (show IV 1 1 1 from (by decide)) (by decide)).elim)
          refine k_iconst (v := 4) X dX9_next_231 (by decide) ?_
          refine k_ic_le 241 X dX9_next_232 (by decide) (fun h_121 => ?_) (fun h_121 => ?_)
          · skip
            have j_122 : z_117.toInt ≤ 4 := iv_le h_121
            have iv_123 : IV z_117 (-900) 4 := iv_leL (iv_le h_121) iv_119 (show IV 4 4 4 from (by decide)) (by decide)
            exact k_vret X hr dX9_next_241 (Nat.le_of_ble_eq_true rfl) (Nat.le_of_ble_eq_true rfl) [0, 1] (by decide) rfl rfl ⟨r_8, u_1, u_106, u_108, u_109, (iv_w hv_2 (by decide) (by decide)), (iv_w hv_107 (by decide) (by decide)), (iv_w iv_105 (by decide) (by decide)), (KH_2 _ _ _ _ _ ⟨0 + 1, (Or.inl ⟨h_115, ⟨z_117, ez_117, (Or.inl ⟨h_121, ⟨rfl, rfl, rfl, rfl, rfl⟩⟩)⟩⟩)⟩), rfl⟩
          · skip
            have j_124 : 4 < z_117.toInt := iv_nle h_121
            have iv_125 : IV z_117 5 900 := iv_ltR (iv_nle h_121) (show IV 4 4 4 from (by decide)) iv_119 (by decide)
            refine k_aload_n X dX9_next_235 0 rfl ?_
            refine k_bipush (v := 6) X dX9_next_236 (by decide) ?_
            refine k_put (ci := 9) [(cO9_i1r1i2r1i1r2i4l1i2 h0 xtpd th xfn xfp tp xen nm nd 6 u_1 u_106 u_108 u_109 xtk xta), (cAB g tp 900 tpf)] X inlX9 rfl tyX9_ok nmX9 8 (by decide) rfl dX9_next_238 mw66 0 rfl rfl rfl (Nat.le_of_ble_eq_true rfl) rfl ?_
            exact k_vret X hr dX9_next_241 (Nat.le_of_ble_eq_true rfl) (Nat.le_of_ble_eq_true rfl) [0, 1] (by decide) rfl rfl ⟨6, u_1, u_106, u_108, u_109, (iv_w hv_2 (by decide) (by decide)), (iv_w hv_107 (by decide) (by decide)), (iv_w (show IV 6 6 6 from (by decide)) (by decide) (by decide)), (KH_2 _ _ _ _ _ ⟨0 + 1, (Or.inl ⟨h_115, ⟨z_117, ez_117, (Or.inr ⟨h_121, ⟨rfl, rfl, rfl, rfl, rfl⟩⟩)⟩⟩)⟩), rfl⟩
        · skip
          have j_126 : u_106.toInt < xen.toInt := iv_nle h_115
          have iv_127 : IV u_106 0 899 := iv_ltL (iv_nle h_115) hv_107 hv_xen (by decide)
          have iv_128 : IV xen 1 900 := iv_ltR (iv_nle h_115) hv_107 hv_xen (by decide)
          refine k_aload_n X dX9_next_100 0 rfl ?_
          refine k_get (ci := 9) X inlX9 rfl 10 (by decide) dX9_next_101 mw68 0 rfl rfl ?_
          refine k_aload_n X dX9_next_104 0 rfl ?_
          refine k_get (ci := 9) X inlX9 rfl 4 (by decide) dX9_next_105 mw59 0 rfl rfl ?_
          refine k_alen 900 0 X dX9_next_108 1 rfl rfl (by show Int32.ofNat 900 = 900; decide) ?_
          refine k_ic_ge 209 X dX9_next_109 (by decide) (fun h_129 => (iv_leN (iv_le h_129) (show IV 900 900 900 from (by decide)) iv_127 (by decide)).elim) (fun h_129 => ?_)
          have j_130 : u_106.toInt < 900 := iv_nle h_129
          refine k_aload_n X dX9_next_112 0 rfl ?_
          refine k_aload_n X dX9_next_113 0 rfl ?_
          refine k_get (ci := 9) X inlX9 rfl 10 (by decide) dX9_next_114 mw68 0 rfl rfl ?_
          refine k_callVI (n := 1) (As := [.int u_106]) (st := []) X [(cO9_i1r1i2r1i1r2i4l1i2 h0 xtpd th xfn xfp tp xen nm nd r_8 u_1 u_106 u_108 u_109 xtk xta), (cAB g tp 900 tpf)] [] [0, 1] [] (x_kindAtX l g h0 u_106 xtpd th xfn xfp tp xen nm nd r_8 u_1 u_106 u_108 u_109 xtk xta tpf) dX9_next_117 mw242 mw243 mw244 mw15 mw245 rfl 9 rfl rfl 0 _ rfl yk_yX9_kindAt_1 rfl (Nat.le_of_ble_eq_true rfl) (Nat.le_of_ble_eq_true rfl) (Nat.le_of_ble_eq_true rfl) (Nat.le_of_ble_eq_true rfl) (Nat.le_of_ble_eq_true rfl) rfl rfl (by decide) rfl (by decide) (by decide) ?_
          rintro r_131 w ⟨iv_132, hq_133, hq_134, rfl⟩
          refine k_ws [(cO9_i1r1i2r1i1r2i4l1i2 h0 xtpd th xfn xfp tp xen nm nd r_8 u_1 u_106 u_108 u_109 xtk xta), (cAB g tp 900 tpf)] rfl ?_
          refine k_aload_n X dX9_next_120 0 rfl ?_
          refine k_get (ci := 9) X inlX9 rfl 8 (by decide) dX9_next_121 mw66 0 rfl rfl ?_
          refine k_ic_ne 209 X dX9_next_124 (by decide) (fun h_135 => ?_) (fun h_135 => ?_)
          · skip
            refine k_aload_n X dX9_next_209 0 rfl ?_
            refine k_get (ci := 9) X inlX9 rfl 10 (by decide) dX9_next_210 mw68 0 rfl rfl ?_
            refine k_aload_n X dX9_next_213 0 rfl ?_
            refine k_get (ci := 9) X inlX9 rfl 9 (by decide) dX9_next_214 mw67 0 rfl rfl ?_
            refine k_isub X dX9_next_217 ?_
            refine k_nm (fun z_136 ez_136 => ?_)
            have i_137 : z_136.toInt = u_106.toInt - u_1.toInt := in_sub ez_136 iv_127 hv_2 (by decide) (by decide)
            have iv_138 : IV z_136 (-900) 899 := by have := iv_127; have := hv_2; rw [IV, i_137]; omega
            refine k_aload_n X dX9_next_218 0 rfl ?_
            refine k_get (ci := 9) X inlX9 rfl 8 (by decide) dX9_next_219 mw66 0 rfl rfl ?_
            refine k_iconst (v := 1) X dX9_next_222 (by decide) ?_
            refine k_ic_ne 231 X dX9_next_223 (by decide) (fun h_139 => ?_) (fun h_139 => (iv_eqN h_139 iv_105 (show IV 1 1 1 from (by decide)) (by decide)).elim)
            refine k_iconst (v := 4) X dX9_next_231 (by decide) ?_
            refine k_ic_le 241 X dX9_next_232 (by decide) (fun h_140 => ?_) (fun h_140 => ?_)
            · skip
              have j_141 : z_136.toInt ≤ 4 := iv_le h_140
              have iv_142 : IV z_136 (-900) 4 := iv_leL (iv_le h_140) iv_138 (show IV 4 4 4 from (by decide)) (by decide)
              exact k_vret X hr dX9_next_241 (Nat.le_of_ble_eq_true rfl) (Nat.le_of_ble_eq_true rfl) [0, 1] (by decide) rfl rfl ⟨r_8, u_1, u_106, u_108, u_109, (iv_w hv_2 (by decide) (by decide)), (iv_w iv_127 (by decide) (by decide)), (iv_w iv_105 (by decide) (by decide)), (KH_2 _ _ _ _ _ ⟨0 + 1, (Or.inr ⟨h_115, ⟨r_131, hq_134, (Or.inl ⟨h_135, ⟨z_136, ez_136, (Or.inl ⟨h_140, ⟨rfl, rfl, rfl, rfl, rfl⟩⟩)⟩⟩)⟩⟩)⟩), rfl⟩
            · skip
              have j_143 : 4 < z_136.toInt := iv_nle h_140
              have iv_144 : IV z_136 5 899 := iv_ltR (iv_nle h_140) (show IV 4 4 4 from (by decide)) iv_138 (by decide)
              refine k_aload_n X dX9_next_235 0 rfl ?_
              refine k_bipush (v := 6) X dX9_next_236 (by decide) ?_
              refine k_put (ci := 9) [(cO9_i1r1i2r1i1r2i4l1i2 h0 xtpd th xfn xfp tp xen nm nd 6 u_1 u_106 u_108 u_109 xtk xta), (cAB g tp 900 tpf)] X inlX9 rfl tyX9_ok nmX9 8 (by decide) rfl dX9_next_238 mw66 0 rfl rfl rfl (Nat.le_of_ble_eq_true rfl) rfl ?_
              exact k_vret X hr dX9_next_241 (Nat.le_of_ble_eq_true rfl) (Nat.le_of_ble_eq_true rfl) [0, 1] (by decide) rfl rfl ⟨6, u_1, u_106, u_108, u_109, (iv_w hv_2 (by decide) (by decide)), (iv_w iv_127 (by decide) (by decide)), (iv_w (show IV 6 6 6 from (by decide)) (by decide) (by decide)), (KH_2 _ _ _ _ _ ⟨0 + 1, (Or.inr ⟨h_115, ⟨r_131, hq_134, (Or.inl ⟨h_135, ⟨z_136, ez_136, (Or.inr ⟨h_140, ⟨rfl, rfl, rfl, rfl, rfl⟩⟩)⟩⟩)⟩⟩)⟩), rfl⟩
          · skip
            have iv_145 : IV r_131 2 2 := iv_meet iv_132 (iv_e h_135 iv_105) (by decide) (by decide)
            refine k_aload_n X dX9_next_127 0 rfl ?_
            refine k_aload_n X dX9_next_128 0 rfl ?_
            refine k_get (ci := 9) X inlX9 rfl 12 (by decide) dX9_next_129 mw70 0 rfl rfl ?_
            refine k_ldc2 (v := 27) X dX9_next_132 mw241 ?_
            refine k_lmul X dX9_next_135 ?_
            refine k_nmL (fun y_146 ey_146 => ?_)
            refine k_aload_n X dX9_next_136 0 rfl ?_
            refine k_get (ci := 9) X inlX9 rfl 4 (by decide) dX9_next_137 mw59 0 rfl rfl ?_
            refine k_aload_n X dX9_next_140 0 rfl ?_
            refine k_get (ci := 9) X inlX9 rfl 10 (by decide) dX9_next_141 mw68 0 rfl rfl ?_
            refine k_bald X dX9_next_144 1 rfl (iv_in iv_127 (by decide) (by decide)) ?_
            refine k_nm (fun z_147 ez_147 => ?_)
            refine k_bipush (v := 97) X dX9_next_145 (by decide) ?_
            refine k_isub X dX9_next_147 ?_
            refine k_nm (fun z_148 ez_148 => ?_)
            refine k_iconst (v := 1) X dX9_next_148 (by decide) ?_
            refine k_iadd X dX9_next_149 ?_
            refine k_nm (fun z_150 ez_150 => ?_)
            refine k_i2l X dX9_next_150 ?_
            refine k_nmL (fun y_152 ey_152 => ?_)
            refine k_ladd X dX9_next_151 ?_
            refine k_nmL (fun y_153 ey_153 => ?_)
            refine k_put (ci := 9) [(cO9_i1r1i2r1i1r2i4l1i2 h0 xtpd th xfn xfp tp xen nm nd r_8 u_1 u_106 u_108 y_153 xtk xta), (cAB g tp 900 tpf)] X inlX9 rfl tyX9_ok nmX9 12 (by decide) rfl dX9_next_152 mw70 0 rfl rfl rfl (Nat.le_of_ble_eq_true rfl) rfl ?_
            refine k_aload_n X dX9_next_155 0 rfl ?_
            refine k_aload_n X dX9_next_156 0 rfl ?_
            refine k_get (ci := 9) X inlX9 rfl 11 (by decide) dX9_next_157 mw69 0 rfl rfl ?_
            refine k_bipush (v := 10) X dX9_next_160 (by decide) ?_
            refine k_imul X dX9_next_162 ?_
            refine k_nm (fun z_154 ez_154 => ?_)
            refine k_aload_n X dX9_next_163 0 rfl ?_
            refine k_get (ci := 9) X inlX9 rfl 4 (by decide) dX9_next_164 mw59 0 rfl rfl ?_
            refine k_aload_n X dX9_next_167 0 rfl ?_
            refine k_get (ci := 9) X inlX9 rfl 10 (by decide) dX9_next_168 mw68 0 rfl rfl ?_
            refine k_bald X dX9_next_171 1 rfl (iv_in iv_127 (by decide) (by decide)) ?_
            refine k_nm (fun z_156 ez_156 => ?_)
            refine k_bipush (v := 48) X dX9_next_172 (by decide) ?_
            refine k_isub X dX9_next_174 ?_
            refine k_nm (fun z_157 ez_157 => ?_)
            refine k_iadd X dX9_next_175 ?_
            refine k_nm (fun z_159 ez_159 => ?_)
            refine k_put (ci := 9) [(cO9_i1r1i2r1i1r2i4l1i2 h0 xtpd th xfn xfp tp xen nm nd r_8 u_1 u_106 z_159 y_153 xtk xta), (cAB g tp 900 tpf)] X inlX9 rfl tyX9_ok nmX9 11 (by decide) rfl dX9_next_176 mw69 0 rfl rfl rfl (Nat.le_of_ble_eq_true rfl) rfl ?_
            refine k_aload_n X dX9_next_179 0 rfl ?_
            refine k_dup X dX9_next_180 rfl ?_
            refine k_get (ci := 9) X inlX9 rfl 10 (by decide) dX9_next_181 mw68 0 rfl rfl ?_
            refine k_iconst (v := 1) X dX9_next_184 (by decide) ?_
            refine k_iadd X dX9_next_185 ?_
            refine k_nm (fun z_161 ez_161 => ?_)
            have i_162 : z_161.toInt = u_106.toInt + 1 := in_add ez_161 iv_127 (show IV 1 1 1 from (by decide)) (by decide) (by decide)
            have iv_163 : IV z_161 1 900 := iz1 i_162 iv_127 (by decide) (by decide)
            refine k_put (ci := 9) [(cO9_i1r1i2r1i1r2i4l1i2 h0 xtpd th xfn xfp tp xen nm nd r_8 u_1 z_161 z_159 y_153 xtk xta), (cAB g tp 900 tpf)] X inlX9 rfl tyX9_ok nmX9 10 (by decide) rfl dX9_next_186 mw68 0 rfl rfl rfl (Nat.le_of_ble_eq_true rfl) rfl ?_
            refine k_goto 82 X dX9_next_189 (by decide) ?_
            exact ih_112 _ (by omega) z_161 z_159 y_153 rfl (iv_w iv_163 (by decide) (by decide)) (fun xkd2 xsta2 xpo2 xva2 xle2 h => h.elim (fun n_2 q => (KH_2 _ _ _ _ _ ⟨n_2 + 1, (Or.inr ⟨h_115, ⟨r_131, hq_134, (Or.inr ⟨h_135, ⟨y_146, ey_146, ⟨z_147, ez_147, ⟨z_148, ez_148, ⟨z_150, ez_150, ⟨y_152, ey_152, ⟨y_153, ey_153, ⟨z_154, ez_154, ⟨z_156, ez_156, ⟨z_157, ez_157, ⟨z_159, ez_159, ⟨z_161, ez_161, q⟩⟩⟩⟩⟩⟩⟩⟩⟩⟩⟩⟩)⟩⟩)⟩)))
  · skip
    have j_164 : u_1.toInt < xen.toInt := iv_nle h_6
    have iv_165 : IV u_1 0 899 := iv_ltL (iv_nle h_6) hv_2 hv_xen (by decide)
    have iv_166 : IV xen 1 900 := iv_ltR (iv_nle h_6) hv_2 hv_xen (by decide)
    refine k_aload_n X dX9_next_11 0 rfl ?_
    refine k_aload_n X dX9_next_12 0 rfl ?_
    refine k_get (ci := 9) X inlX9 rfl 10 (by decide) dX9_next_13 mw68 0 rfl rfl ?_
    refine k_callVI (n := 1) (As := [.int u_1]) (st := []) X [(cO9_i1r1i2r1i1r2i4l1i2 h0 xtpd th xfn xfp tp xen nm nd xkd xsta u_1 xva xle xtk xta), (cAB g tp 900 tpf)] [] [0, 1] [] (x_kindAtX l g h0 u_1 xtpd th xfn xfp tp xen nm nd xkd xsta u_1 xva xle xtk xta tpf) dX9_next_16 mw242 mw243 mw244 mw15 mw245 rfl 9 rfl rfl 0 _ rfl yk_yX9_kindAt_1 rfl (Nat.le_of_ble_eq_true rfl) (Nat.le_of_ble_eq_true rfl) (Nat.le_of_ble_eq_true rfl) (Nat.le_of_ble_eq_true rfl) (Nat.le_of_ble_eq_true rfl) rfl rfl (by decide) rfl (by decide) (by decide) ?_
    rintro r_167 w ⟨iv_168, hq_169, hq_170, rfl⟩
    refine k_ws [(cO9_i1r1i2r1i1r2i4l1i2 h0 xtpd th xfn xfp tp xen nm nd xkd xsta u_1 xva xle xtk xta), (cAB g tp 900 tpf)] rfl ?_
    refine k_iconst (v := 5) X dX9_next_19 (by decide) ?_
    refine k_ic_ne 36 X dX9_next_20 (by decide) (fun h_171 => ?_) (fun h_171 => ?_)
    · skip
      refine k_aload_n X dX9_next_36 0 rfl ?_
      refine k_aload_n X dX9_next_37 0 rfl ?_
      refine k_get (ci := 9) X inlX9 rfl 10 (by decide) dX9_next_38 mw68 0 rfl rfl ?_
      refine k_put (ci := 9) [(cO9_i1r1i2r1i1r2i4l1i2 h0 xtpd th xfn xfp tp xen nm nd xkd u_1 u_1 xva xle xtk xta), (cAB g tp 900 tpf)] X inlX9 rfl tyX9_ok nmX9 9 (by decide) rfl dX9_next_41 mw67 0 rfl rfl rfl (Nat.le_of_ble_eq_true rfl) rfl ?_
      refine k_aload_n X dX9_next_44 0 rfl ?_
      refine k_aload_n X dX9_next_45 0 rfl ?_
      refine k_aload_n X dX9_next_46 0 rfl ?_
      refine k_get (ci := 9) X inlX9 rfl 9 (by decide) dX9_next_47 mw67 0 rfl rfl ?_
      refine k_callVI (n := 1) (As := [.int u_1]) (st := [.ref h0]) X [(cO9_i1r1i2r1i1r2i4l1i2 h0 xtpd th xfn xfp tp xen nm nd xkd u_1 u_1 xva xle xtk xta), (cAB g tp 900 tpf)] [] [0, 1] [] (x_kindAtX l g h0 u_1 xtpd th xfn xfp tp xen nm nd xkd u_1 u_1 xva xle xtk xta tpf) dX9_next_50 mw242 mw243 mw244 mw15 mw245 rfl 9 rfl rfl 0 _ rfl yk_yX9_kindAt_1 rfl (Nat.le_of_ble_eq_true rfl) (Nat.le_of_ble_eq_true rfl) (Nat.le_of_ble_eq_true rfl) (Nat.le_of_ble_eq_true rfl) (Nat.le_of_ble_eq_true rfl) rfl rfl (by decide) rfl (by decide) (by decide) ?_
      rintro r_172 w ⟨iv_173, hq_174, hq_175, rfl⟩
      refine k_ws [(cO9_i1r1i2r1i1r2i4l1i2 h0 xtpd th xfn xfp tp xen nm nd xkd u_1 u_1 xva xle xtk xta), (cAB g tp 900 tpf)] rfl ?_
      refine k_put (ci := 9) [(cO9_i1r1i2r1i1r2i4l1i2 h0 xtpd th xfn xfp tp xen nm nd r_172 u_1 u_1 xva xle xtk xta), (cAB g tp 900 tpf)] X inlX9 rfl tyX9_ok nmX9 8 (by decide) rfl dX9_next_53 mw66 0 rfl rfl rfl (Nat.le_of_ble_eq_true rfl) rfl ?_
      refine k_aload_n X dX9_next_56 0 rfl ?_
      refine k_lconst (v := 0) X dX9_next_57 (by decide) ?_
      refine k_put (ci := 9) [(cO9_i1r1i2r1i1r2i4l1i2 h0 xtpd th xfn xfp tp xen nm nd r_172 u_1 u_1 xva 0 xtk xta), (cAB g tp 900 tpf)] X inlX9 rfl tyX9_ok nmX9 12 (by decide) rfl dX9_next_58 mw70 0 rfl rfl rfl (Nat.le_of_ble_eq_true rfl) rfl ?_
      refine k_aload_n X dX9_next_61 0 rfl ?_
      refine k_iconst (v := 0) X dX9_next_62 (by decide) ?_
      refine k_put (ci := 9) [(cO9_i1r1i2r1i1r2i4l1i2 h0 xtpd th xfn xfp tp xen nm nd r_172 u_1 u_1 0 0 xtk xta), (cAB g tp 900 tpf)] X inlX9 rfl tyX9_ok nmX9 11 (by decide) rfl dX9_next_63 mw69 0 rfl rfl rfl (Nat.le_of_ble_eq_true rfl) rfl ?_
      refine k_aload_n X dX9_next_66 0 rfl ?_
      refine k_get (ci := 9) X inlX9 rfl 8 (by decide) dX9_next_67 mw66 0 rfl rfl ?_
      refine k_iconst (v := 1) X dX9_next_70 (by decide) ?_
      refine k_ic_eq 82 X dX9_next_71 (by decide) (fun h_176 => ?_) (fun h_176 => ?_)
      · skip
        have iv_177 : IV r_172 1 1 := iv_meet iv_173 (iv_e h_176 (show IV 1 1 1 from (by decide))) (by decide) (by decide)
        refine (fun hL : ∀ (nn_182 : Nat) (u_178 : Int32) (u_180 : Int32) (u_181 : Int64), (xen.toInt - u_178.toInt).toNat = nn_182 → (IV u_178 0 900) → (∀ (xkd2 : Int32) (xsta2 : Int32) (xpo2 : Int32) (xva2 : Int32) (xle2 : Int64), (∃ n_3 : Nat, R_x_nextX_L3 xen tpf r_172 (fun (u_178 : Int32) (u_180 : Int32) (u_181 : Int64) => ∃ z_190 : Int32, z_190 = u_178 - u_1 ∧ (((z_190 ≤ (8 : Int32)) ∧ (xkd2 = r_172 ∧ xsta2 = u_1 ∧ xpo2 = u_178 ∧ xva2 = u_180 ∧ xle2 = u_181)) ∨ ((¬ (z_190 ≤ (8 : Int32))) ∧ (xkd2 = 6 ∧ xsta2 = u_1 ∧ xpo2 = u_178 ∧ xva2 = u_180 ∧ xle2 = u_181)))) (fun (u_178 : Int32) (u_180 : Int32) (u_181 : Int64) => ∃ z_208 : Int32, z_208 = u_178 - u_1 ∧ (((z_208 ≤ (8 : Int32)) ∧ (xkd2 = r_172 ∧ xsta2 = u_1 ∧ xpo2 = u_178 ∧ xva2 = u_180 ∧ xle2 = u_181)) ∨ ((¬ (z_208 ≤ (8 : Int32))) ∧ (xkd2 = 6 ∧ xsta2 = u_1 ∧ xpo2 = u_178 ∧ xva2 = u_180 ∧ xle2 = u_181)))) n_3 u_178 u_180 u_181) → R_x_nextX xen xpo tpf xkd2 xsta2 xpo2 xva2 xle2) → Wk p l e _ s m args below meth c _ A g _ _ _ [(cO9_i1r1i2r1i1r2i4l1i2 h0 xtpd th xfn xfp tp xen nm nd r_172 u_1 u_178 u_180 u_181 xtk xta), (cAB g tp 900 tpf)] [(0, .ref h0)] 82 [] => hL _ u_1 0 0 rfl (iv_w iv_165 (by decide) (by decide)) (fun xkd2 xsta2 xpo2 xva2 xle2 h => (KH_0 _ _ _ _ _ ⟨0 + 1, (Or.inr ⟨h_6, ⟨r_167, hq_170, (Or.inl ⟨h_171, ⟨r_172, hq_175, (Or.inl ⟨h_176, h⟩)⟩⟩)⟩⟩)⟩))) ?_
        refine fun nn_182 => Nat.strongRecOn nn_182 (fun nn_182 ih_184 => ?_)
        intro u_178 u_180 u_181 hm_183 hv_179 KH_3
        refine k_aload_n X dX9_next_82 0 rfl ?_
        refine k_get (ci := 9) X inlX9 rfl 10 (by decide) dX9_next_83 mw68 0 rfl rfl ?_
        refine k_if_lt 209 X dX9_next_86 (by decide) (fun h_185 => (iv_ltN (iv_lt h_185) hv_179 (show IV 0 0 0 from (by decide)) (by decide)).elim) (fun h_185 => ?_)
        have j_186 : 0 ≤ u_178.toInt := iv_nlt h_185
        refine k_aload_n X dX9_next_89 0 rfl ?_
        refine k_get (ci := 9) X inlX9 rfl 10 (by decide) dX9_next_90 mw68 0 rfl rfl ?_
        refine k_aload_n X dX9_next_93 0 rfl ?_
        refine k_get (ci := 9) X inlX9 rfl 5 (by decide) dX9_next_94 mw60 0 rfl rfl ?_
        refine k_ic_ge 209 X dX9_next_97 (by decide) (fun h_187 => ?_) (fun h_187 => ?_)
        · skip
          have j_188 : xen.toInt ≤ u_178.toInt := iv_le h_187
          have iv_189 : IV u_178 1 900 := iv_leR (iv_le h_187) iv_166 hv_179 (by decide)
          refine k_aload_n X dX9_next_209 0 rfl ?_
          refine k_get (ci := 9) X inlX9 rfl 10 (by decide) dX9_next_210 mw68 0 rfl rfl ?_
          refine k_aload_n X dX9_next_213 0 rfl ?_
          refine k_get (ci := 9) X inlX9 rfl 9 (by decide) dX9_next_214 mw67 0 rfl rfl ?_
          refine k_isub X dX9_next_217 ?_
          refine k_nm (fun z_190 ez_190 => ?_)
          have i_191 : z_190.toInt = u_178.toInt - u_1.toInt := in_sub ez_190 iv_189 iv_165 (by decide) (by decide)
          have iv_192 : IV z_190 (-898) 900 := by have := iv_189; have := iv_165; rw [IV, i_191]; omega
          refine k_aload_n X dX9_next_218 0 rfl ?_
          refine k_get (ci := 9) X inlX9 rfl 8 (by decide) dX9_next_219 mw66 0 rfl rfl ?_
          refine k_iconst (v := 1) X dX9_next_222 (by decide) ?_
          refine k_ic_ne 231 X dX9_next_223 (by decide) (fun h_193 => absurd (iv_eq iv_177 (show IV 1 1 1 from (by decide))) h_193) (fun h_193 => ?_)
          refine k_bipush (v := 8) X dX9_next_226 (by decide) ?_
          refine k_goto 232 X dX9_next_228 (by decide) ?_
          refine k_ic_le 241 X dX9_next_232 (by decide) (fun h_194 => ?_) (fun h_194 => ?_)
          · skip
            have j_195 : z_190.toInt ≤ 8 := iv_le h_194
            have iv_196 : IV z_190 (-898) 8 := iv_leL (iv_le h_194) iv_192 (show IV 8 8 8 from (by decide)) (by decide)
            exact k_vret X hr dX9_next_241 (Nat.le_of_ble_eq_true rfl) (Nat.le_of_ble_eq_true rfl) [0, 1] (by decide) rfl rfl ⟨r_172, u_1, u_178, u_180, u_181, (iv_w iv_165 (by decide) (by decide)), (iv_w iv_189 (by decide) (by decide)), (iv_w iv_177 (by decide) (by decide)), (KH_3 _ _ _ _ _ ⟨0 + 1, (Or.inl ⟨h_187, ⟨z_190, ez_190, (Or.inl ⟨h_194, ⟨rfl, rfl, rfl, rfl, rfl⟩⟩)⟩⟩)⟩), rfl⟩
          · skip
            have j_197 : 8 < z_190.toInt := iv_nle h_194
            have iv_198 : IV z_190 9 900 := iv_ltR (iv_nle h_194) (show IV 8 8 8 from (by decide)) iv_192 (by decide)
            refine k_aload_n X dX9_next_235 0 rfl ?_
            refine k_bipush (v := 6) X dX9_next_236 (by decide) ?_
            refine k_put (ci := 9) [(cO9_i1r1i2r1i1r2i4l1i2 h0 xtpd th xfn xfp tp xen nm nd 6 u_1 u_178 u_180 u_181 xtk xta), (cAB g tp 900 tpf)] X inlX9 rfl tyX9_ok nmX9 8 (by decide) rfl dX9_next_238 mw66 0 rfl rfl rfl (Nat.le_of_ble_eq_true rfl) rfl ?_
            exact k_vret X hr dX9_next_241 (Nat.le_of_ble_eq_true rfl) (Nat.le_of_ble_eq_true rfl) [0, 1] (by decide) rfl rfl ⟨6, u_1, u_178, u_180, u_181, (iv_w iv_165 (by decide) (by decide)), (iv_w iv_189 (by decide) (by decide)), (iv_w (show IV 6 6 6 from (by decide)) (by decide) (by decide)), (KH_3 _ _ _ _ _ ⟨0 + 1, (Or.inl ⟨h_187, ⟨z_190, ez_190, (Or.inr ⟨h_194, ⟨rfl, rfl, rfl, rfl, rfl⟩⟩)⟩⟩)⟩), rfl⟩
        · skip
          have j_199 : u_178.toInt < xen.toInt := iv_nle h_187
          have iv_200 : IV u_178 0 899 := iv_ltL (iv_nle h_187) hv_179 iv_166 (by decide)
          refine k_aload_n X dX9_next_100 0 rfl ?_
          refine k_get (ci := 9) X inlX9 rfl 10 (by decide) dX9_next_101 mw68 0 rfl rfl ?_
          refine k_aload_n X dX9_next_104 0 rfl ?_
          refine k_get (ci := 9) X inlX9 rfl 4 (by decide) dX9_next_105 mw59 0 rfl rfl ?_
          refine k_alen 900 0 X dX9_next_108 1 rfl rfl (by show Int32.ofNat 900 = 900; decide) ?_
          refine k_ic_ge 209 X dX9_next_109 (by decide) (fun h_201 => (iv_leN (iv_le h_201) (show IV 900 900 900 from (by decide)) iv_200 (by decide)).elim) (fun h_201 => ?_)
          have j_202 : u_178.toInt < 900 := iv_nle h_201
          refine k_aload_n X dX9_next_112 0 rfl ?_
          refine k_aload_n X dX9_next_113 0 rfl ?_
          refine k_get (ci := 9) X inlX9 rfl 10 (by decide) dX9_next_114 mw68 0 rfl rfl ?_
          refine k_callVI (n := 1) (As := [.int u_178]) (st := []) X [(cO9_i1r1i2r1i1r2i4l1i2 h0 xtpd th xfn xfp tp xen nm nd r_172 u_1 u_178 u_180 u_181 xtk xta), (cAB g tp 900 tpf)] [] [0, 1] [] (x_kindAtX l g h0 u_178 xtpd th xfn xfp tp xen nm nd r_172 u_1 u_178 u_180 u_181 xtk xta tpf) dX9_next_117 mw242 mw243 mw244 mw15 mw245 rfl 9 rfl rfl 0 _ rfl yk_yX9_kindAt_1 rfl (Nat.le_of_ble_eq_true rfl) (Nat.le_of_ble_eq_true rfl) (Nat.le_of_ble_eq_true rfl) (Nat.le_of_ble_eq_true rfl) (Nat.le_of_ble_eq_true rfl) rfl rfl (by decide) rfl (by decide) (by decide) ?_
          rintro r_203 w ⟨iv_204, hq_205, hq_206, rfl⟩
          refine k_ws [(cO9_i1r1i2r1i1r2i4l1i2 h0 xtpd th xfn xfp tp xen nm nd r_172 u_1 u_178 u_180 u_181 xtk xta), (cAB g tp 900 tpf)] rfl ?_
          refine k_aload_n X dX9_next_120 0 rfl ?_
          refine k_get (ci := 9) X inlX9 rfl 8 (by decide) dX9_next_121 mw66 0 rfl rfl ?_
          refine k_ic_ne 209 X dX9_next_124 (by decide) (fun h_207 => ?_) (fun h_207 => ?_)
          · skip
            refine k_aload_n X dX9_next_209 0 rfl ?_
            refine k_get (ci := 9) X inlX9 rfl 10 (by decide) dX9_next_210 mw68 0 rfl rfl ?_
            refine k_aload_n X dX9_next_213 0 rfl ?_
            refine k_get (ci := 9) X inlX9 rfl 9 (by decide) dX9_next_214 mw67 0 rfl rfl ?_
            refine k_isub X dX9_next_217 ?_
            refine k_nm (fun z_208 ez_208 => ?_)
            have i_209 : z_208.toInt = u_178.toInt - u_1.toInt := in_sub ez_208 iv_200 iv_165 (by decide) (by decide)
            have iv_210 : IV z_208 (-899) 899 := by have := iv_200; have := iv_165; rw [IV, i_209]; omega
            refine k_aload_n X dX9_next_218 0 rfl ?_
            refine k_get (ci := 9) X inlX9 rfl 8 (by decide) dX9_next_219 mw66 0 rfl rfl ?_
            refine k_iconst (v := 1) X dX9_next_222 (by decide) ?_
            refine k_ic_ne 231 X dX9_next_223 (by decide) (fun h_211 => absurd (iv_eq iv_177 (show IV 1 1 1 from (by decide))) h_211) (fun h_211 => ?_)
            refine k_bipush (v := 8) X dX9_next_226 (by decide) ?_
            refine k_goto 232 X dX9_next_228 (by decide) ?_
            refine k_ic_le 241 X dX9_next_232 (by decide) (fun h_212 => ?_) (fun h_212 => ?_)
            · skip
              have j_213 : z_208.toInt ≤ 8 := iv_le h_212
              have iv_214 : IV z_208 (-899) 8 := iv_leL (iv_le h_212) iv_210 (show IV 8 8 8 from (by decide)) (by decide)
              exact k_vret X hr dX9_next_241 (Nat.le_of_ble_eq_true rfl) (Nat.le_of_ble_eq_true rfl) [0, 1] (by decide) rfl rfl ⟨r_172, u_1, u_178, u_180, u_181, (iv_w iv_165 (by decide) (by decide)), (iv_w iv_200 (by decide) (by decide)), (iv_w iv_177 (by decide) (by decide)), (KH_3 _ _ _ _ _ ⟨0 + 1, (Or.inr ⟨h_187, ⟨r_203, hq_206, (Or.inl ⟨h_207, ⟨z_208, ez_208, (Or.inl ⟨h_212, ⟨rfl, rfl, rfl, rfl, rfl⟩⟩)⟩⟩)⟩⟩)⟩), rfl⟩
            · skip
              have j_215 : 8 < z_208.toInt := iv_nle h_212
              have iv_216 : IV z_208 9 899 := iv_ltR (iv_nle h_212) (show IV 8 8 8 from (by decide)) iv_210 (by decide)
              refine k_aload_n X dX9_next_235 0 rfl ?_
              refine k_bipush (v := 6) X dX9_next_236 (by decide) ?_
              refine k_put (ci := 9) [(cO9_i1r1i2r1i1r2i4l1i2 h0 xtpd th xfn xfp tp xen nm nd 6 u_1 u_178 u_180 u_181 xtk xta), (cAB g tp 900 tpf)] X inlX9 rfl tyX9_ok nmX9 8 (by decide) rfl dX9_next_238 mw66 0 rfl rfl rfl (Nat.le_of_ble_eq_true rfl) rfl ?_
              exact k_vret X hr dX9_next_241 (Nat.le_of_ble_eq_true rfl) (Nat.le_of_ble_eq_true rfl) [0, 1] (by decide) rfl rfl ⟨6, u_1, u_178, u_180, u_181, (iv_w iv_165 (by decide) (by decide)), (iv_w iv_200 (by decide) (by decide)), (iv_w (show IV 6 6 6 from (by decide)) (by decide) (by decide)), (KH_3 _ _ _ _ _ ⟨0 + 1, (Or.inr ⟨h_187, ⟨r_203, hq_206, (Or.inl ⟨h_207, ⟨z_208, ez_208, (Or.inr ⟨h_212, ⟨rfl, rfl, rfl, rfl, rfl⟩⟩)⟩⟩)⟩⟩)⟩), rfl⟩
          · skip
            have iv_217 : IV r_203 1 1 := iv_meet iv_204 (iv_e h_207 iv_177) (by decide) (by decide)
            refine k_aload_n X dX9_next_127 0 rfl ?_
            refine k_aload_n X dX9_next_128 0 rfl ?_
            refine k_get (ci := 9) X inlX9 rfl 12 (by decide) dX9_next_129 mw70 0 rfl rfl ?_
            refine k_ldc2 (v := 27) X dX9_next_132 mw241 ?_
            refine k_lmul X dX9_next_135 ?_
            refine k_nmL (fun y_218 ey_218 => ?_)
            refine k_aload_n X dX9_next_136 0 rfl ?_
            refine k_get (ci := 9) X inlX9 rfl 4 (by decide) dX9_next_137 mw59 0 rfl rfl ?_
            refine k_aload_n X dX9_next_140 0 rfl ?_
            refine k_get (ci := 9) X inlX9 rfl 10 (by decide) dX9_next_141 mw68 0 rfl rfl ?_
            refine k_bald X dX9_next_144 1 rfl (iv_in iv_200 (by decide) (by decide)) ?_
            refine k_nm (fun z_219 ez_219 => ?_)
            refine k_bipush (v := 97) X dX9_next_145 (by decide) ?_
            refine k_isub X dX9_next_147 ?_
            refine k_nm (fun z_220 ez_220 => ?_)
            refine k_iconst (v := 1) X dX9_next_148 (by decide) ?_
            refine k_iadd X dX9_next_149 ?_
            refine k_nm (fun z_222 ez_222 => ?_)
            refine k_i2l X dX9_next_150 ?_
            refine k_nmL (fun y_224 ey_224 => ?_)
            refine k_ladd X dX9_next_151 ?_
            refine k_nmL (fun y_225 ey_225 => ?_)
            refine k_put (ci := 9) [(cO9_i1r1i2r1i1r2i4l1i2 h0 xtpd th xfn xfp tp xen nm nd r_172 u_1 u_178 u_180 y_225 xtk xta), (cAB g tp 900 tpf)] X inlX9 rfl tyX9_ok nmX9 12 (by decide) rfl dX9_next_152 mw70 0 rfl rfl rfl (Nat.le_of_ble_eq_true rfl) rfl ?_
            refine k_aload_n X dX9_next_155 0 rfl ?_
            refine k_aload_n X dX9_next_156 0 rfl ?_
            refine k_get (ci := 9) X inlX9 rfl 11 (by decide) dX9_next_157 mw69 0 rfl rfl ?_
            refine k_bipush (v := 10) X dX9_next_160 (by decide) ?_
            refine k_imul X dX9_next_162 ?_
            refine k_nm (fun z_226 ez_226 => ?_)
            refine k_aload_n X dX9_next_163 0 rfl ?_
            refine k_get (ci := 9) X inlX9 rfl 4 (by decide) dX9_next_164 mw59 0 rfl rfl ?_
            refine k_aload_n X dX9_next_167 0 rfl ?_
            refine k_get (ci := 9) X inlX9 rfl 10 (by decide) dX9_next_168 mw68 0 rfl rfl ?_
            refine k_bald X dX9_next_171 1 rfl (iv_in iv_200 (by decide) (by decide)) ?_
            refine k_nm (fun z_228 ez_228 => ?_)
            refine k_bipush (v := 48) X dX9_next_172 (by decide) ?_
            refine k_isub X dX9_next_174 ?_
            refine k_nm (fun z_229 ez_229 => ?_)
            refine k_iadd X dX9_next_175 ?_
            refine k_nm (fun z_231 ez_231 => ?_)
            refine k_put (ci := 9) [(cO9_i1r1i2r1i1r2i4l1i2 h0 xtpd th xfn xfp tp xen nm nd r_172 u_1 u_178 z_231 y_225 xtk xta), (cAB g tp 900 tpf)] X inlX9 rfl tyX9_ok nmX9 11 (by decide) rfl dX9_next_176 mw69 0 rfl rfl rfl (Nat.le_of_ble_eq_true rfl) rfl ?_
            refine k_aload_n X dX9_next_179 0 rfl ?_
            refine k_dup X dX9_next_180 rfl ?_
            refine k_get (ci := 9) X inlX9 rfl 10 (by decide) dX9_next_181 mw68 0 rfl rfl ?_
            refine k_iconst (v := 1) X dX9_next_184 (by decide) ?_
            refine k_iadd X dX9_next_185 ?_
            refine k_nm (fun z_233 ez_233 => ?_)
            have i_234 : z_233.toInt = u_178.toInt + 1 := in_add ez_233 iv_200 (show IV 1 1 1 from (by decide)) (by decide) (by decide)
            have iv_235 : IV z_233 1 900 := iz1 i_234 iv_200 (by decide) (by decide)
            refine k_put (ci := 9) [(cO9_i1r1i2r1i1r2i4l1i2 h0 xtpd th xfn xfp tp xen nm nd r_172 u_1 z_233 z_231 y_225 xtk xta), (cAB g tp 900 tpf)] X inlX9 rfl tyX9_ok nmX9 10 (by decide) rfl dX9_next_186 mw68 0 rfl rfl rfl (Nat.le_of_ble_eq_true rfl) rfl ?_
            refine k_goto 82 X dX9_next_189 (by decide) ?_
            exact ih_184 _ (by omega) z_233 z_231 y_225 rfl (iv_w iv_235 (by decide) (by decide)) (fun xkd2 xsta2 xpo2 xva2 xle2 h => h.elim (fun n_3 q => (KH_3 _ _ _ _ _ ⟨n_3 + 1, (Or.inr ⟨h_187, ⟨r_203, hq_206, (Or.inr ⟨h_207, ⟨y_218, ey_218, ⟨z_219, ez_219, ⟨z_220, ez_220, ⟨z_222, ez_222, ⟨y_224, ey_224, ⟨y_225, ey_225, ⟨z_226, ez_226, ⟨z_228, ez_228, ⟨z_229, ez_229, ⟨z_231, ez_231, ⟨z_233, ez_233, q⟩⟩⟩⟩⟩⟩⟩⟩⟩⟩⟩⟩)⟩⟩)⟩)))
      · skip
        refine k_aload_n X dX9_next_74 0 rfl ?_
        refine k_get (ci := 9) X inlX9 rfl 8 (by decide) dX9_next_75 mw66 0 rfl rfl ?_
        refine k_iconst (v := 2) X dX9_next_78 (by decide) ?_
        refine k_ic_ne 192 X dX9_next_79 (by decide) (fun h_236 => ?_) (fun h_236 => ?_)
        · skip
          refine k_aload_n X dX9_next_192 0 rfl ?_
          refine k_get (ci := 9) X inlX9 rfl 8 (by decide) dX9_next_193 mw66 0 rfl rfl ?_
          refine k_if_eq 209 X dX9_next_196 (by decide) (fun h_237 => ?_) (fun h_237 => ?_)
          · skip
            have iv_238 : IV r_172 0 0 := iv_meet iv_173 (iv_e h_237 (show IV 0 0 0 from (by decide))) (by decide) (by decide)
            refine k_aload_n X dX9_next_209 0 rfl ?_
            refine k_get (ci := 9) X inlX9 rfl 10 (by decide) dX9_next_210 mw68 0 rfl rfl ?_
            refine k_aload_n X dX9_next_213 0 rfl ?_
            refine k_get (ci := 9) X inlX9 rfl 9 (by decide) dX9_next_214 mw67 0 rfl rfl ?_
            refine k_isub X dX9_next_217 ?_
            refine k_nm (fun z_239 ez_239 => ?_)
            have i_240 : z_239.toInt = u_1.toInt - u_1.toInt := in_sub ez_239 iv_165 iv_165 (by decide) (by decide)
            have iv_241 : IV z_239 (-899) 899 := by have := iv_165; have := iv_165; rw [IV, i_240]; omega
            refine k_aload_n X dX9_next_218 0 rfl ?_
            refine k_get (ci := 9) X inlX9 rfl 8 (by decide) dX9_next_219 mw66 0 rfl rfl ?_
            refine k_iconst (v := 1) X dX9_next_222 (by decide) ?_
            refine k_ic_ne 231 X dX9_next_223 (by decide) (fun h_242 => ?_) (fun h_242 => (iv_eqN h_242 iv_238 (show IV 1 1 1 from (by decide)) (by decide)).elim)
            refine k_iconst (v := 4) X dX9_next_231 (by decide) ?_
            refine k_ic_le 241 X dX9_next_232 (by decide) (fun h_243 => ?_) (fun h_243 => ?_)
            · skip
              have j_244 : z_239.toInt ≤ 4 := iv_le h_243
              have iv_245 : IV z_239 (-899) 4 := iv_leL (iv_le h_243) iv_241 (show IV 4 4 4 from (by decide)) (by decide)
              exact k_vret X hr dX9_next_241 (Nat.le_of_ble_eq_true rfl) (Nat.le_of_ble_eq_true rfl) [0, 1] (by decide) rfl rfl ⟨r_172, u_1, u_1, 0, 0, (iv_w iv_165 (by decide) (by decide)), (iv_w iv_165 (by decide) (by decide)), (iv_w iv_238 (by decide) (by decide)), (KH_0 _ _ _ _ _ ⟨0 + 1, (Or.inr ⟨h_6, ⟨r_167, hq_170, (Or.inl ⟨h_171, ⟨r_172, hq_175, (Or.inr ⟨h_176, (Or.inl ⟨h_236, (Or.inl ⟨h_237, ⟨z_239, ez_239, (Or.inl ⟨h_243, ⟨rfl, rfl, rfl, rfl, rfl⟩⟩)⟩⟩)⟩)⟩)⟩⟩)⟩⟩)⟩), rfl⟩
            · skip
              have j_246 : 4 < z_239.toInt := iv_nle h_243
              have iv_247 : IV z_239 5 899 := iv_ltR (iv_nle h_243) (show IV 4 4 4 from (by decide)) iv_241 (by decide)
              refine k_aload_n X dX9_next_235 0 rfl ?_
              refine k_bipush (v := 6) X dX9_next_236 (by decide) ?_
              refine k_put (ci := 9) [(cO9_i1r1i2r1i1r2i4l1i2 h0 xtpd th xfn xfp tp xen nm nd 6 u_1 u_1 0 0 xtk xta), (cAB g tp 900 tpf)] X inlX9 rfl tyX9_ok nmX9 8 (by decide) rfl dX9_next_238 mw66 0 rfl rfl rfl (Nat.le_of_ble_eq_true rfl) rfl ?_
              exact k_vret X hr dX9_next_241 (Nat.le_of_ble_eq_true rfl) (Nat.le_of_ble_eq_true rfl) [0, 1] (by decide) rfl rfl ⟨6, u_1, u_1, 0, 0, (iv_w iv_165 (by decide) (by decide)), (iv_w iv_165 (by decide) (by decide)), (iv_w (show IV 6 6 6 from (by decide)) (by decide) (by decide)), (KH_0 _ _ _ _ _ ⟨0 + 1, (Or.inr ⟨h_6, ⟨r_167, hq_170, (Or.inl ⟨h_171, ⟨r_172, hq_175, (Or.inr ⟨h_176, (Or.inl ⟨h_236, (Or.inl ⟨h_237, ⟨z_239, ez_239, (Or.inr ⟨h_243, ⟨rfl, rfl, rfl, rfl, rfl⟩⟩)⟩⟩)⟩)⟩)⟩⟩)⟩⟩)⟩), rfl⟩
          · skip
            have iv_248 : IV r_172 1 6 := iv_neL h_237 iv_173 (show IV 0 0 0 from (by decide)) (by decide)
            have iv_249 : IV u_1 0 899 := ⟨iv_165.1, by rcases hq_174 with q | q; exact absurd q h_237; have := hv_xen.2; omega⟩
            refine k_aload_n X dX9_next_199 0 rfl ?_
            refine k_dup X dX9_next_200 rfl ?_
            refine k_get (ci := 9) X inlX9 rfl 10 (by decide) dX9_next_201 mw68 0 rfl rfl ?_
            refine k_iconst (v := 1) X dX9_next_204 (by decide) ?_
            refine k_iadd X dX9_next_205 ?_
            refine k_nm (fun z_250 ez_250 => ?_)
            have i_251 : z_250.toInt = u_1.toInt + 1 := in_add ez_250 iv_249 (show IV 1 1 1 from (by decide)) (by decide) (by decide)
            have iv_252 : IV z_250 1 900 := iz1 i_251 iv_249 (by decide) (by decide)
            refine k_put (ci := 9) [(cO9_i1r1i2r1i1r2i4l1i2 h0 xtpd th xfn xfp tp xen nm nd r_172 u_1 z_250 0 0 xtk xta), (cAB g tp 900 tpf)] X inlX9 rfl tyX9_ok nmX9 10 (by decide) rfl dX9_next_206 mw68 0 rfl rfl rfl (Nat.le_of_ble_eq_true rfl) rfl ?_
            refine k_aload_n X dX9_next_209 0 rfl ?_
            refine k_get (ci := 9) X inlX9 rfl 10 (by decide) dX9_next_210 mw68 0 rfl rfl ?_
            refine k_aload_n X dX9_next_213 0 rfl ?_
            refine k_get (ci := 9) X inlX9 rfl 9 (by decide) dX9_next_214 mw67 0 rfl rfl ?_
            refine k_isub X dX9_next_217 ?_
            refine k_nm (fun z_253 ez_253 => ?_)
            have i_254 : z_253.toInt = z_250.toInt - u_1.toInt := in_sub ez_253 iv_252 iv_249 (by decide) (by decide)
            have iv_255 : IV z_253 (-898) 900 := by have := iv_252; have := iv_249; rw [IV, i_254]; omega
            refine k_aload_n X dX9_next_218 0 rfl ?_
            refine k_get (ci := 9) X inlX9 rfl 8 (by decide) dX9_next_219 mw66 0 rfl rfl ?_
            refine k_iconst (v := 1) X dX9_next_222 (by decide) ?_
            refine k_ic_ne 231 X dX9_next_223 (by decide) (fun h_256 => ?_) (fun h_256 => ?_)
            · skip
              have iv_257 : IV r_172 2 6 := iv_neL h_256 iv_248 (show IV 1 1 1 from (by decide)) (by decide)
              refine k_iconst (v := 4) X dX9_next_231 (by decide) ?_
              refine k_ic_le 241 X dX9_next_232 (by decide) (fun h_258 => ?_) (fun h_258 => ?_)
              · skip
                have j_259 : z_253.toInt ≤ 4 := iv_le h_258
                have iv_260 : IV z_253 (-898) 4 := iv_leL (iv_le h_258) iv_255 (show IV 4 4 4 from (by decide)) (by decide)
                exact k_vret X hr dX9_next_241 (Nat.le_of_ble_eq_true rfl) (Nat.le_of_ble_eq_true rfl) [0, 1] (by decide) rfl rfl ⟨r_172, u_1, z_250, 0, 0, (iv_w iv_249 (by decide) (by decide)), (iv_w iv_252 (by decide) (by decide)), (iv_w iv_257 (by decide) (by decide)), (KH_0 _ _ _ _ _ ⟨0 + 1, (Or.inr ⟨h_6, ⟨r_167, hq_170, (Or.inl ⟨h_171, ⟨r_172, hq_175, (Or.inr ⟨h_176, (Or.inl ⟨h_236, (Or.inr ⟨h_237, ⟨z_250, ez_250, ⟨z_253, ez_253, (Or.inl ⟨h_256, (Or.inl ⟨h_258, ⟨rfl, rfl, rfl, rfl, rfl⟩⟩)⟩)⟩⟩⟩)⟩)⟩)⟩⟩)⟩⟩)⟩), rfl⟩
              · skip
                have j_261 : 4 < z_253.toInt := iv_nle h_258
                have iv_262 : IV z_253 5 900 := iv_ltR (iv_nle h_258) (show IV 4 4 4 from (by decide)) iv_255 (by decide)
                refine k_aload_n X dX9_next_235 0 rfl ?_
                refine k_bipush (v := 6) X dX9_next_236 (by decide) ?_
                refine k_put (ci := 9) [(cO9_i1r1i2r1i1r2i4l1i2 h0 xtpd th xfn xfp tp xen nm nd 6 u_1 z_250 0 0 xtk xta), (cAB g tp 900 tpf)] X inlX9 rfl tyX9_ok nmX9 8 (by decide) rfl dX9_next_238 mw66 0 rfl rfl rfl (Nat.le_of_ble_eq_true rfl) rfl ?_
                exact k_vret X hr dX9_next_241 (Nat.le_of_ble_eq_true rfl) (Nat.le_of_ble_eq_true rfl) [0, 1] (by decide) rfl rfl ⟨6, u_1, z_250, 0, 0, (iv_w iv_249 (by decide) (by decide)), (iv_w iv_252 (by decide) (by decide)), (iv_w (show IV 6 6 6 from (by decide)) (by decide) (by decide)), (KH_0 _ _ _ _ _ ⟨0 + 1, (Or.inr ⟨h_6, ⟨r_167, hq_170, (Or.inl ⟨h_171, ⟨r_172, hq_175, (Or.inr ⟨h_176, (Or.inl ⟨h_236, (Or.inr ⟨h_237, ⟨z_250, ez_250, ⟨z_253, ez_253, (Or.inl ⟨h_256, (Or.inr ⟨h_258, ⟨rfl, rfl, rfl, rfl, rfl⟩⟩)⟩)⟩⟩⟩)⟩)⟩)⟩⟩)⟩⟩)⟩), rfl⟩
            · skip
              have iv_263 : IV r_172 1 1 := iv_meet iv_248 (iv_e h_256 (show IV 1 1 1 from (by decide))) (by decide) (by decide)
              refine k_bipush (v := 8) X dX9_next_226 (by decide) ?_
              refine k_goto 232 X dX9_next_228 (by decide) ?_
              refine k_ic_le 241 X dX9_next_232 (by decide) (fun h_264 => ?_) (fun h_264 => ?_)
              · skip
                have j_265 : z_253.toInt ≤ 8 := iv_le h_264
                have iv_266 : IV z_253 (-898) 8 := iv_leL (iv_le h_264) iv_255 (show IV 8 8 8 from (by decide)) (by decide)
                exact k_vret X hr dX9_next_241 (Nat.le_of_ble_eq_true rfl) (Nat.le_of_ble_eq_true rfl) [0, 1] (by decide) rfl rfl ⟨r_172, u_1, z_250, 0, 0, (iv_w iv_249 (by decide) (by decide)), (iv_w iv_252 (by decide) (by decide)), (iv_w iv_263 (by decide) (by decide)), (KH_0 _ _ _ _ _ ⟨0 + 1, (Or.inr ⟨h_6, ⟨r_167, hq_170, (Or.inl ⟨h_171, ⟨r_172, hq_175, (Or.inr ⟨h_176, (Or.inl ⟨h_236, (Or.inr ⟨h_237, ⟨z_250, ez_250, ⟨z_253, ez_253, (Or.inr ⟨h_256, (Or.inl ⟨h_264, ⟨rfl, rfl, rfl, rfl, rfl⟩⟩)⟩)⟩⟩⟩)⟩)⟩)⟩⟩)⟩⟩)⟩), rfl⟩
              · skip
                have j_267 : 8 < z_253.toInt := iv_nle h_264
                have iv_268 : IV z_253 9 900 := iv_ltR (iv_nle h_264) (show IV 8 8 8 from (by decide)) iv_255 (by decide)
                refine k_aload_n X dX9_next_235 0 rfl ?_
                refine k_bipush (v := 6) X dX9_next_236 (by decide) ?_
                refine k_put (ci := 9) [(cO9_i1r1i2r1i1r2i4l1i2 h0 xtpd th xfn xfp tp xen nm nd 6 u_1 z_250 0 0 xtk xta), (cAB g tp 900 tpf)] X inlX9 rfl tyX9_ok nmX9 8 (by decide) rfl dX9_next_238 mw66 0 rfl rfl rfl (Nat.le_of_ble_eq_true rfl) rfl ?_
                exact k_vret X hr dX9_next_241 (Nat.le_of_ble_eq_true rfl) (Nat.le_of_ble_eq_true rfl) [0, 1] (by decide) rfl rfl ⟨6, u_1, z_250, 0, 0, (iv_w iv_249 (by decide) (by decide)), (iv_w iv_252 (by decide) (by decide)), (iv_w (show IV 6 6 6 from (by decide)) (by decide) (by decide)), (KH_0 _ _ _ _ _ ⟨0 + 1, (Or.inr ⟨h_6, ⟨r_167, hq_170, (Or.inl ⟨h_171, ⟨r_172, hq_175, (Or.inr ⟨h_176, (Or.inl ⟨h_236, (Or.inr ⟨h_237, ⟨z_250, ez_250, ⟨z_253, ez_253, (Or.inr ⟨h_256, (Or.inr ⟨h_264, ⟨rfl, rfl, rfl, rfl, rfl⟩⟩)⟩)⟩⟩⟩)⟩)⟩)⟩⟩)⟩⟩)⟩), rfl⟩
        · skip
          have iv_269 : IV r_172 2 2 := iv_meet iv_173 (iv_e h_236 (show IV 2 2 2 from (by decide))) (by decide) (by decide)
          refine (fun hL : ∀ (nn_274 : Nat) (u_270 : Int32) (u_272 : Int32) (u_273 : Int64), (xen.toInt - u_270.toInt).toNat = nn_274 → (IV u_270 0 900) → (∀ (xkd2 : Int32) (xsta2 : Int32) (xpo2 : Int32) (xva2 : Int32) (xle2 : Int64), (∃ n_4 : Nat, R_x_nextX_L4 xen tpf r_172 (fun (u_270 : Int32) (u_272 : Int32) (u_273 : Int64) => ∃ z_282 : Int32, z_282 = u_270 - u_1 ∧ (((z_282 ≤ (4 : Int32)) ∧ (xkd2 = r_172 ∧ xsta2 = u_1 ∧ xpo2 = u_270 ∧ xva2 = u_272 ∧ xle2 = u_273)) ∨ ((¬ (z_282 ≤ (4 : Int32))) ∧ (xkd2 = 6 ∧ xsta2 = u_1 ∧ xpo2 = u_270 ∧ xva2 = u_272 ∧ xle2 = u_273)))) (fun (u_270 : Int32) (u_272 : Int32) (u_273 : Int64) => ∃ z_300 : Int32, z_300 = u_270 - u_1 ∧ (((z_300 ≤ (4 : Int32)) ∧ (xkd2 = r_172 ∧ xsta2 = u_1 ∧ xpo2 = u_270 ∧ xva2 = u_272 ∧ xle2 = u_273)) ∨ ((¬ (z_300 ≤ (4 : Int32))) ∧ (xkd2 = 6 ∧ xsta2 = u_1 ∧ xpo2 = u_270 ∧ xva2 = u_272 ∧ xle2 = u_273)))) n_4 u_270 u_272 u_273) → R_x_nextX xen xpo tpf xkd2 xsta2 xpo2 xva2 xle2) → Wk p l e _ s m args below meth c _ A g _ _ _ [(cO9_i1r1i2r1i1r2i4l1i2 h0 xtpd th xfn xfp tp xen nm nd r_172 u_1 u_270 u_272 u_273 xtk xta), (cAB g tp 900 tpf)] [(0, .ref h0)] 82 [] => hL _ u_1 0 0 rfl (iv_w iv_165 (by decide) (by decide)) (fun xkd2 xsta2 xpo2 xva2 xle2 h => (KH_0 _ _ _ _ _ ⟨0 + 1, (Or.inr ⟨h_6, ⟨r_167, hq_170, (Or.inl ⟨h_171, ⟨r_172, hq_175, (Or.inr ⟨h_176, (Or.inr ⟨h_236, h⟩)⟩)⟩⟩)⟩⟩)⟩))) ?_
          refine fun nn_274 => Nat.strongRecOn nn_274 (fun nn_274 ih_276 => ?_)
          intro u_270 u_272 u_273 hm_275 hv_271 KH_4
          refine k_aload_n X dX9_next_82 0 rfl ?_
          refine k_get (ci := 9) X inlX9 rfl 10 (by decide) dX9_next_83 mw68 0 rfl rfl ?_
          refine k_if_lt 209 X dX9_next_86 (by decide) (fun h_277 => (iv_ltN (iv_lt h_277) hv_271 (show IV 0 0 0 from (by decide)) (by decide)).elim) (fun h_277 => ?_)
          have j_278 : 0 ≤ u_270.toInt := iv_nlt h_277
          refine k_aload_n X dX9_next_89 0 rfl ?_
          refine k_get (ci := 9) X inlX9 rfl 10 (by decide) dX9_next_90 mw68 0 rfl rfl ?_
          refine k_aload_n X dX9_next_93 0 rfl ?_
          refine k_get (ci := 9) X inlX9 rfl 5 (by decide) dX9_next_94 mw60 0 rfl rfl ?_
          refine k_ic_ge 209 X dX9_next_97 (by decide) (fun h_279 => ?_) (fun h_279 => ?_)
          · skip
            have j_280 : xen.toInt ≤ u_270.toInt := iv_le h_279
            have iv_281 : IV u_270 1 900 := iv_leR (iv_le h_279) iv_166 hv_271 (by decide)
            refine k_aload_n X dX9_next_209 0 rfl ?_
            refine k_get (ci := 9) X inlX9 rfl 10 (by decide) dX9_next_210 mw68 0 rfl rfl ?_
            refine k_aload_n X dX9_next_213 0 rfl ?_
            refine k_get (ci := 9) X inlX9 rfl 9 (by decide) dX9_next_214 mw67 0 rfl rfl ?_
            refine k_isub X dX9_next_217 ?_
            refine k_nm (fun z_282 ez_282 => ?_)
            have i_283 : z_282.toInt = u_270.toInt - u_1.toInt := in_sub ez_282 iv_281 iv_165 (by decide) (by decide)
            have iv_284 : IV z_282 (-898) 900 := by have := iv_281; have := iv_165; rw [IV, i_283]; omega
            refine k_aload_n X dX9_next_218 0 rfl ?_
            refine k_get (ci := 9) X inlX9 rfl 8 (by decide) dX9_next_219 mw66 0 rfl rfl ?_
            refine k_iconst (v := 1) X dX9_next_222 (by decide) ?_
            refine k_ic_ne 231 X dX9_next_223 (by decide) (fun h_285 => ?_) (fun h_285 => (iv_eqN h_285 iv_269 (show IV 1 1 1 from (by decide)) (by decide)).elim)
            refine k_iconst (v := 4) X dX9_next_231 (by decide) ?_
            refine k_ic_le 241 X dX9_next_232 (by decide) (fun h_286 => ?_) (fun h_286 => ?_)
            · skip
              have j_287 : z_282.toInt ≤ 4 := iv_le h_286
              have iv_288 : IV z_282 (-898) 4 := iv_leL (iv_le h_286) iv_284 (show IV 4 4 4 from (by decide)) (by decide)
              exact k_vret X hr dX9_next_241 (Nat.le_of_ble_eq_true rfl) (Nat.le_of_ble_eq_true rfl) [0, 1] (by decide) rfl rfl ⟨r_172, u_1, u_270, u_272, u_273, (iv_w iv_165 (by decide) (by decide)), (iv_w iv_281 (by decide) (by decide)), (iv_w iv_269 (by decide) (by decide)), (KH_4 _ _ _ _ _ ⟨0 + 1, (Or.inl ⟨h_279, ⟨z_282, ez_282, (Or.inl ⟨h_286, ⟨rfl, rfl, rfl, rfl, rfl⟩⟩)⟩⟩)⟩), rfl⟩
            · skip
              have j_289 : 4 < z_282.toInt := iv_nle h_286
              have iv_290 : IV z_282 5 900 := iv_ltR (iv_nle h_286) (show IV 4 4 4 from (by decide)) iv_284 (by decide)
              refine k_aload_n X dX9_next_235 0 rfl ?_
              refine k_bipush (v := 6) X dX9_next_236 (by decide) ?_
              refine k_put (ci := 9) [(cO9_i1r1i2r1i1r2i4l1i2 h0 xtpd th xfn xfp tp xen nm nd 6 u_1 u_270 u_272 u_273 xtk xta), (cAB g tp 900 tpf)] X inlX9 rfl tyX9_ok nmX9 8 (by decide) rfl dX9_next_238 mw66 0 rfl rfl rfl (Nat.le_of_ble_eq_true rfl) rfl ?_
              exact k_vret X hr dX9_next_241 (Nat.le_of_ble_eq_true rfl) (Nat.le_of_ble_eq_true rfl) [0, 1] (by decide) rfl rfl ⟨6, u_1, u_270, u_272, u_273, (iv_w iv_165 (by decide) (by decide)), (iv_w iv_281 (by decide) (by decide)), (iv_w (show IV 6 6 6 from (by decide)) (by decide) (by decide)), (KH_4 _ _ _ _ _ ⟨0 + 1, (Or.inl ⟨h_279, ⟨z_282, ez_282, (Or.inr ⟨h_286, ⟨rfl, rfl, rfl, rfl, rfl⟩⟩)⟩⟩)⟩), rfl⟩
          · skip
            have j_291 : u_270.toInt < xen.toInt := iv_nle h_279
            have iv_292 : IV u_270 0 899 := iv_ltL (iv_nle h_279) hv_271 iv_166 (by decide)
            refine k_aload_n X dX9_next_100 0 rfl ?_
            refine k_get (ci := 9) X inlX9 rfl 10 (by decide) dX9_next_101 mw68 0 rfl rfl ?_
            refine k_aload_n X dX9_next_104 0 rfl ?_
            refine k_get (ci := 9) X inlX9 rfl 4 (by decide) dX9_next_105 mw59 0 rfl rfl ?_
            refine k_alen 900 0 X dX9_next_108 1 rfl rfl (by show Int32.ofNat 900 = 900; decide) ?_
            refine k_ic_ge 209 X dX9_next_109 (by decide) (fun h_293 => (iv_leN (iv_le h_293) (show IV 900 900 900 from (by decide)) iv_292 (by decide)).elim) (fun h_293 => ?_)
            have j_294 : u_270.toInt < 900 := iv_nle h_293
            refine k_aload_n X dX9_next_112 0 rfl ?_
            refine k_aload_n X dX9_next_113 0 rfl ?_
            refine k_get (ci := 9) X inlX9 rfl 10 (by decide) dX9_next_114 mw68 0 rfl rfl ?_
            refine k_callVI (n := 1) (As := [.int u_270]) (st := []) X [(cO9_i1r1i2r1i1r2i4l1i2 h0 xtpd th xfn xfp tp xen nm nd r_172 u_1 u_270 u_272 u_273 xtk xta), (cAB g tp 900 tpf)] [] [0, 1] [] (x_kindAtX l g h0 u_270 xtpd th xfn xfp tp xen nm nd r_172 u_1 u_270 u_272 u_273 xtk xta tpf) dX9_next_117 mw242 mw243 mw244 mw15 mw245 rfl 9 rfl rfl 0 _ rfl yk_yX9_kindAt_1 rfl (Nat.le_of_ble_eq_true rfl) (Nat.le_of_ble_eq_true rfl) (Nat.le_of_ble_eq_true rfl) (Nat.le_of_ble_eq_true rfl) (Nat.le_of_ble_eq_true rfl) rfl rfl (by decide) rfl (by decide) (by decide) ?_
            rintro r_295 w ⟨iv_296, hq_297, hq_298, rfl⟩
            refine k_ws [(cO9_i1r1i2r1i1r2i4l1i2 h0 xtpd th xfn xfp tp xen nm nd r_172 u_1 u_270 u_272 u_273 xtk xta), (cAB g tp 900 tpf)] rfl ?_
            refine k_aload_n X dX9_next_120 0 rfl ?_
            refine k_get (ci := 9) X inlX9 rfl 8 (by decide) dX9_next_121 mw66 0 rfl rfl ?_
            refine k_ic_ne 209 X dX9_next_124 (by decide) (fun h_299 => ?_) (fun h_299 => ?_)
            · skip
              refine k_aload_n X dX9_next_209 0 rfl ?_
              refine k_get (ci := 9) X inlX9 rfl 10 (by decide) dX9_next_210 mw68 0 rfl rfl ?_
              refine k_aload_n X dX9_next_213 0 rfl ?_
              refine k_get (ci := 9) X inlX9 rfl 9 (by decide) dX9_next_214 mw67 0 rfl rfl ?_
              refine k_isub X dX9_next_217 ?_
              refine k_nm (fun z_300 ez_300 => ?_)
              have i_301 : z_300.toInt = u_270.toInt - u_1.toInt := in_sub ez_300 iv_292 iv_165 (by decide) (by decide)
              have iv_302 : IV z_300 (-899) 899 := by have := iv_292; have := iv_165; rw [IV, i_301]; omega
              refine k_aload_n X dX9_next_218 0 rfl ?_
              refine k_get (ci := 9) X inlX9 rfl 8 (by decide) dX9_next_219 mw66 0 rfl rfl ?_
              refine k_iconst (v := 1) X dX9_next_222 (by decide) ?_
              refine k_ic_ne 231 X dX9_next_223 (by decide) (fun h_303 => ?_) (fun h_303 => (iv_eqN h_303 iv_269 (show IV 1 1 1 from (by decide)) (by decide)).elim)
              refine k_iconst (v := 4) X dX9_next_231 (by decide) ?_
              refine k_ic_le 241 X dX9_next_232 (by decide) (fun h_304 => ?_) (fun h_304 => ?_)
              · skip
                have j_305 : z_300.toInt ≤ 4 := iv_le h_304
                have iv_306 : IV z_300 (-899) 4 := iv_leL (iv_le h_304) iv_302 (show IV 4 4 4 from (by decide)) (by decide)
                exact k_vret X hr dX9_next_241 (Nat.le_of_ble_eq_true rfl) (Nat.le_of_ble_eq_true rfl) [0, 1] (by decide) rfl rfl ⟨r_172, u_1, u_270, u_272, u_273, (iv_w iv_165 (by decide) (by decide)), (iv_w iv_292 (by decide) (by decide)), (iv_w iv_269 (by decide) (by decide)), (KH_4 _ _ _ _ _ ⟨0 + 1, (Or.inr ⟨h_279, ⟨r_295, hq_298, (Or.inl ⟨h_299, ⟨z_300, ez_300, (Or.inl ⟨h_304, ⟨rfl, rfl, rfl, rfl, rfl⟩⟩)⟩⟩)⟩⟩)⟩), rfl⟩
              · skip
                have j_307 : 4 < z_300.toInt := iv_nle h_304
                have iv_308 : IV z_300 5 899 := iv_ltR (iv_nle h_304) (show IV 4 4 4 from (by decide)) iv_302 (by decide)
                refine k_aload_n X dX9_next_235 0 rfl ?_
                refine k_bipush (v := 6) X dX9_next_236 (by decide) ?_
                refine k_put (ci := 9) [(cO9_i1r1i2r1i1r2i4l1i2 h0 xtpd th xfn xfp tp xen nm nd 6 u_1 u_270 u_272 u_273 xtk xta), (cAB g tp 900 tpf)] X inlX9 rfl tyX9_ok nmX9 8 (by decide) rfl dX9_next_238 mw66 0 rfl rfl rfl (Nat.le_of_ble_eq_true rfl) rfl ?_
                exact k_vret X hr dX9_next_241 (Nat.le_of_ble_eq_true rfl) (Nat.le_of_ble_eq_true rfl) [0, 1] (by decide) rfl rfl ⟨6, u_1, u_270, u_272, u_273, (iv_w iv_165 (by decide) (by decide)), (iv_w iv_292 (by decide) (by decide)), (iv_w (show IV 6 6 6 from (by decide)) (by decide) (by decide)), (KH_4 _ _ _ _ _ ⟨0 + 1, (Or.inr ⟨h_279, ⟨r_295, hq_298, (Or.inl ⟨h_299, ⟨z_300, ez_300, (Or.inr ⟨h_304, ⟨rfl, rfl, rfl, rfl, rfl⟩⟩)⟩⟩)⟩⟩)⟩), rfl⟩
            · skip
              have iv_309 : IV r_295 2 2 := iv_meet iv_296 (iv_e h_299 iv_269) (by decide) (by decide)
              refine k_aload_n X dX9_next_127 0 rfl ?_
              refine k_aload_n X dX9_next_128 0 rfl ?_
              refine k_get (ci := 9) X inlX9 rfl 12 (by decide) dX9_next_129 mw70 0 rfl rfl ?_
              refine k_ldc2 (v := 27) X dX9_next_132 mw241 ?_
              refine k_lmul X dX9_next_135 ?_
              refine k_nmL (fun y_310 ey_310 => ?_)
              refine k_aload_n X dX9_next_136 0 rfl ?_
              refine k_get (ci := 9) X inlX9 rfl 4 (by decide) dX9_next_137 mw59 0 rfl rfl ?_
              refine k_aload_n X dX9_next_140 0 rfl ?_
              refine k_get (ci := 9) X inlX9 rfl 10 (by decide) dX9_next_141 mw68 0 rfl rfl ?_
              refine k_bald X dX9_next_144 1 rfl (iv_in iv_292 (by decide) (by decide)) ?_
              refine k_nm (fun z_311 ez_311 => ?_)
              refine k_bipush (v := 97) X dX9_next_145 (by decide) ?_
              refine k_isub X dX9_next_147 ?_
              refine k_nm (fun z_312 ez_312 => ?_)
              refine k_iconst (v := 1) X dX9_next_148 (by decide) ?_
              refine k_iadd X dX9_next_149 ?_
              refine k_nm (fun z_314 ez_314 => ?_)
              refine k_i2l X dX9_next_150 ?_
              refine k_nmL (fun y_316 ey_316 => ?_)
              refine k_ladd X dX9_next_151 ?_
              refine k_nmL (fun y_317 ey_317 => ?_)
              refine k_put (ci := 9) [(cO9_i1r1i2r1i1r2i4l1i2 h0 xtpd th xfn xfp tp xen nm nd r_172 u_1 u_270 u_272 y_317 xtk xta), (cAB g tp 900 tpf)] X inlX9 rfl tyX9_ok nmX9 12 (by decide) rfl dX9_next_152 mw70 0 rfl rfl rfl (Nat.le_of_ble_eq_true rfl) rfl ?_
              refine k_aload_n X dX9_next_155 0 rfl ?_
              refine k_aload_n X dX9_next_156 0 rfl ?_
              refine k_get (ci := 9) X inlX9 rfl 11 (by decide) dX9_next_157 mw69 0 rfl rfl ?_
              refine k_bipush (v := 10) X dX9_next_160 (by decide) ?_
              refine k_imul X dX9_next_162 ?_
              refine k_nm (fun z_318 ez_318 => ?_)
              refine k_aload_n X dX9_next_163 0 rfl ?_
              refine k_get (ci := 9) X inlX9 rfl 4 (by decide) dX9_next_164 mw59 0 rfl rfl ?_
              refine k_aload_n X dX9_next_167 0 rfl ?_
              refine k_get (ci := 9) X inlX9 rfl 10 (by decide) dX9_next_168 mw68 0 rfl rfl ?_
              refine k_bald X dX9_next_171 1 rfl (iv_in iv_292 (by decide) (by decide)) ?_
              refine k_nm (fun z_320 ez_320 => ?_)
              refine k_bipush (v := 48) X dX9_next_172 (by decide) ?_
              refine k_isub X dX9_next_174 ?_
              refine k_nm (fun z_321 ez_321 => ?_)
              refine k_iadd X dX9_next_175 ?_
              refine k_nm (fun z_323 ez_323 => ?_)
              refine k_put (ci := 9) [(cO9_i1r1i2r1i1r2i4l1i2 h0 xtpd th xfn xfp tp xen nm nd r_172 u_1 u_270 z_323 y_317 xtk xta), (cAB g tp 900 tpf)] X inlX9 rfl tyX9_ok nmX9 11 (by decide) rfl dX9_next_176 mw69 0 rfl rfl rfl (Nat.le_of_ble_eq_true rfl) rfl ?_
              refine k_aload_n X dX9_next_179 0 rfl ?_
              refine k_dup X dX9_next_180 rfl ?_
              refine k_get (ci := 9) X inlX9 rfl 10 (by decide) dX9_next_181 mw68 0 rfl rfl ?_
              refine k_iconst (v := 1) X dX9_next_184 (by decide) ?_
              refine k_iadd X dX9_next_185 ?_
              refine k_nm (fun z_325 ez_325 => ?_)
              have i_326 : z_325.toInt = u_270.toInt + 1 := in_add ez_325 iv_292 (show IV 1 1 1 from (by decide)) (by decide) (by decide)
              have iv_327 : IV z_325 1 900 := iz1 i_326 iv_292 (by decide) (by decide)
              refine k_put (ci := 9) [(cO9_i1r1i2r1i1r2i4l1i2 h0 xtpd th xfn xfp tp xen nm nd r_172 u_1 z_325 z_323 y_317 xtk xta), (cAB g tp 900 tpf)] X inlX9 rfl tyX9_ok nmX9 10 (by decide) rfl dX9_next_186 mw68 0 rfl rfl rfl (Nat.le_of_ble_eq_true rfl) rfl ?_
              refine k_goto 82 X dX9_next_189 (by decide) ?_
              exact ih_276 _ (by omega) z_325 z_323 y_317 rfl (iv_w iv_327 (by decide) (by decide)) (fun xkd2 xsta2 xpo2 xva2 xle2 h => h.elim (fun n_4 q => (KH_4 _ _ _ _ _ ⟨n_4 + 1, (Or.inr ⟨h_279, ⟨r_295, hq_298, (Or.inr ⟨h_299, ⟨y_310, ey_310, ⟨z_311, ez_311, ⟨z_312, ez_312, ⟨z_314, ez_314, ⟨y_316, ey_316, ⟨y_317, ey_317, ⟨z_318, ez_318, ⟨z_320, ez_320, ⟨z_321, ez_321, ⟨z_323, ez_323, ⟨z_325, ez_325, q⟩⟩⟩⟩⟩⟩⟩⟩⟩⟩⟩⟩)⟩⟩)⟩)))
    · skip
      have iv_328 : IV r_167 5 5 := iv_meet iv_168 (iv_e h_171 (show IV 5 5 5 from (by decide))) (by decide) (by decide)
      refine k_aload_n X dX9_next_23 0 rfl ?_
      refine k_dup X dX9_next_24 rfl ?_
      refine k_get (ci := 9) X inlX9 rfl 10 (by decide) dX9_next_25 mw68 0 rfl rfl ?_
      refine k_iconst (v := 1) X dX9_next_28 (by decide) ?_
      refine k_iadd X dX9_next_29 ?_
      refine k_nm (fun z_329 ez_329 => ?_)
      have i_330 : z_329.toInt = u_1.toInt + 1 := in_add ez_329 iv_165 (show IV 1 1 1 from (by decide)) (by decide) (by decide)
      have iv_331 : IV z_329 1 900 := iz1 i_330 iv_165 (by decide) (by decide)
      refine k_put (ci := 9) [(cO9_i1r1i2r1i1r2i4l1i2 h0 xtpd th xfn xfp tp xen nm nd xkd xsta z_329 xva xle xtk xta), (cAB g tp 900 tpf)] X inlX9 rfl tyX9_ok nmX9 10 (by decide) rfl dX9_next_30 mw68 0 rfl rfl rfl (Nat.le_of_ble_eq_true rfl) rfl ?_
      refine k_goto 0 X dX9_next_33 (by decide) ?_
      exact ih_5 _ (by omega) z_329 rfl (iv_w iv_331 (by decide) (by decide)) (fun xkd2 xsta2 xpo2 xva2 xle2 h => h.elim (fun n_0 q => (KH_0 _ _ _ _ _ ⟨n_0 + 1, (Or.inr ⟨h_6, ⟨r_167, hq_170, (Or.inr ⟨h_171, ⟨z_329, ez_329, q⟩⟩)⟩⟩)⟩)))


set_option maxHeartbeats 4000000 in
set_option maxRecDepth 100000 in
theorem x_isX (l : Launch) (g : Gx) (h0 : Nat) (sa : Nat) (xtpd : Int32) (th : Nat) (xfn : Int32) (xfp : Int32) (tp : Nat) (xen : Int32) (nm : Nat) (nd : Nat) (xkd : Int32) (xsta : Int32) (xpo : Int32) (xva : Int32) (xle : Int64) (xtk : Int32) (xta : Int32) (tpf : Nat → Int32) (tx_sa : String) (hv_xsta : IV xsta 0 900) (hp_sa : LtS g sa tx_sa) : cI l g yX9_is cX9_is 3 (some .boolean) 4 85 0 0 [.ref h0, .ref sa] [(cO9_i1r1i2r1i1r2i4l1i2 h0 xtpd th xfn xfp tp xen nm nd xkd xsta xpo xva xle xtk xta), (cAB g tp 900 tpf)] (fun r w => IV r 0 1 ∧ (R_x_isX xkd xsta xpo tpf tx_sa r) ∧ w = [(cO9_i1r1i2r1i1r2i4l1i2 h0 xtpd th xfn xfp tp xen nm nd xkd xsta xpo xva xle xtk xta), (cAB g tp 900 tpf)]) := by
  refine cI.of (by decide) (Nat.le_of_ble_eq_true rfl) ?_
  intro p e s m args below meth c A X hr hi
  refine k_lveq [(0, .ref h0), (1, .ref sa)] rfl ?_
  refine k_aload_n X dX9_is_0 0 rfl ?_
  refine k_get (ci := 9) X inlX9 rfl 8 (by decide) dX9_is_1 mw66 0 rfl rfl ?_
  refine k_iconst (v := 1) X dX9_is_4 (by decide) ?_
  refine k_ic_ne 31 X dX9_is_5 (by decide) (fun h_1 => ?_) (fun h_1 => ?_)
  · skip
    refine k_iconst (v := 0) X dX9_is_31 (by decide) ?_
    exact k_zret X hr (by first | rfl | decide) dX9_is_32 (Nat.le_of_ble_eq_true rfl) (Nat.le_of_ble_eq_true rfl) [0, 1] (by decide) rfl rfl ⟨(iv_w (show IV 0 0 0 from (by decide)) (by decide) (by decide)), (Or.inl ⟨h_1, rfl⟩), rfl⟩
  · skip
    have iv_2 : IV xkd 1 1 := iv_meet (iv_any xkd) (iv_e h_1 (show IV 1 1 1 from (by decide))) (by decide) (by decide)
    refine k_aload_n X dX9_is_8 0 rfl ?_
    refine k_get (ci := 9) X inlX9 rfl 9 (by decide) dX9_is_9 mw67 0 rfl rfl ?_
    refine k_if_lt 31 X dX9_is_12 (by decide) (fun h_3 => (iv_ltN (iv_lt h_3) hv_xsta (show IV 0 0 0 from (by decide)) (by decide)).elim) (fun h_3 => ?_)
    have j_4 : 0 ≤ xsta.toInt := iv_nlt h_3
    refine k_aload_n X dX9_is_15 1 rfl ?_
    refine k_callLI (n := 0) (As := []) (st := []) X [] [(cO9_i1r1i2r1i1r2i4l1i2 h0 xtpd th xfn xfp tp xen nm nd xkd xsta xpo xva xle xtk xta), (cAB g tp 900 tpf)] [] [0, 1] (j_length l g sa tx_sa hp_sa) dX9_is_16 mw256 mw257 mw258 mw259 mw260 rfl hp_sa rfl yk_yJ0_length_8abf5_0 rfl (Nat.le_of_ble_eq_true rfl) (Nat.le_of_ble_eq_true rfl) (Nat.le_of_ble_eq_true rfl) (Nat.le_of_ble_eq_true rfl) (Nat.le_of_ble_eq_true rfl) rfl rfl (by decide) rfl (by decide) (by decide) ?_
    rintro r_5 w ⟨iv_6, hq_7, rfl⟩
    refine k_ws [(cO9_i1r1i2r1i1r2i4l1i2 h0 xtpd th xfn xfp tp xen nm nd xkd xsta xpo xva xle xtk xta), (cAB g tp 900 tpf)] rfl ?_
    refine k_aload_n X dX9_is_19 0 rfl ?_
    refine k_get (ci := 9) X inlX9 rfl 10 (by decide) dX9_is_20 mw68 0 rfl rfl ?_
    refine k_aload_n X dX9_is_23 0 rfl ?_
    refine k_get (ci := 9) X inlX9 rfl 9 (by decide) dX9_is_24 mw67 0 rfl rfl ?_
    refine k_isub X dX9_is_27 ?_
    refine k_nm (fun z_8 ez_8 => ?_)
    refine k_ic_eq 33 X dX9_is_28 (by decide) (fun h_10 => ?_) (fun h_10 => ?_)
    · skip
      have iv_11 : IV z_8 0 8 := iv_meet (iv_any z_8) (iv_e h_10.symm iv_6) (by decide) (by decide)
      refine k_iconst (v := 0) X dX9_is_33 (by decide) ?_
      refine k_istore_n [(2, .int 0), (0, .ref h0), (1, .ref sa)] X dX9_is_34 (by decide) rfl ?_
      refine (fun hL : ∀ (nn_14 : Nat) (u_12 : Int32), (9 - u_12.toInt).toNat = nn_14 → (IV u_12 0 8) → (∀ (r : Int32), (∃ n_0 : Nat, R_x_isX_L0 xsta tpf tx_sa r (r = 1) (r = 1) n_0 u_12) → R_x_isX xkd xsta xpo tpf tx_sa r) → Wk p l e _ s m args below meth c _ A g _ _ _ [(cO9_i1r1i2r1i1r2i4l1i2 h0 xtpd th xfn xfp tp xen nm nd xkd xsta xpo xva xle xtk xta), (cAB g tp 900 tpf)] [(2, .int u_12), (0, .ref h0), (1, .ref sa)] 35 [] => hL _ 0 rfl (iv_w (show IV 0 0 0 from (by decide)) (by decide) (by decide)) (fun r h => (Or.inr ⟨h_1, ⟨r_5, hq_7, ⟨z_8, ez_8, (Or.inl ⟨h_10, h⟩)⟩⟩⟩))) ?_
      refine fun nn_14 => Nat.strongRecOn nn_14 (fun nn_14 ih_16 => ?_)
      intro u_12 hm_15 hv_13 KH_0
      refine k_iload_n X dX9_is_35 0 rfl ?_
      refine k_aload_n X dX9_is_36 2 rfl ?_
      refine k_callLI (n := 0) (As := []) (st := [.int u_12]) X [] [(cO9_i1r1i2r1i1r2i4l1i2 h0 xtpd th xfn xfp tp xen nm nd xkd xsta xpo xva xle xtk xta), (cAB g tp 900 tpf)] [] [0, 1] (j_length l g sa tx_sa hp_sa) dX9_is_37 mw256 mw257 mw258 mw259 mw260 rfl hp_sa rfl yk_yJ0_length_8abf5_0 rfl (Nat.le_of_ble_eq_true rfl) (Nat.le_of_ble_eq_true rfl) (Nat.le_of_ble_eq_true rfl) (Nat.le_of_ble_eq_true rfl) (Nat.le_of_ble_eq_true rfl) rfl rfl (by decide) rfl (by decide) (by decide) ?_
      rintro r_17 w ⟨iv_18, hq_19, rfl⟩
      refine k_ws [(cO9_i1r1i2r1i1r2i4l1i2 h0 xtpd th xfn xfp tp xen nm nd xkd xsta xpo xva xle xtk xta), (cAB g tp 900 tpf)] rfl ?_
      refine k_ic_ge 84 X dX9_is_40 (by decide) (fun h_20 => ?_) (fun h_20 => ?_)
      · skip
        have j_21 : r_17.toInt ≤ u_12.toInt := iv_le h_20
        refine k_iconst (v := 1) X dX9_is_84 (by decide) ?_
        exact k_zret X hr (by first | rfl | decide) dX9_is_85 (Nat.le_of_ble_eq_true rfl) (Nat.le_of_ble_eq_true rfl) [0, 1] (by decide) rfl rfl ⟨(iv_w (show IV 1 1 1 from (by decide)) (by decide) (by decide)), (KH_0 _ ⟨0 + 1, ⟨r_17, hq_19, (Or.inl ⟨h_20, rfl⟩)⟩⟩), rfl⟩
      · skip
        have j_22 : u_12.toInt < r_17.toInt := iv_nle h_20
        have iv_23 : IV u_12 0 7 := iv_ltL (iv_nle h_20) hv_13 iv_18 (by decide)
        have iv_24 : IV r_17 1 8 := iv_ltR (iv_nle h_20) hv_13 iv_18 (by decide)
        refine k_aload_n X dX9_is_43 1 rfl ?_
        refine k_get (ci := 9) X inlX9 rfl 9 (by decide) dX9_is_44 mw67 0 rfl rfl ?_
        refine k_iload_n X dX9_is_47 0 rfl ?_
        refine k_iadd X dX9_is_48 ?_
        refine k_nm (fun z_25 ez_25 => ?_)
        have i_26 : z_25.toInt = xsta.toInt + u_12.toInt := in_add ez_25 hv_xsta iv_23 (by decide) (by decide)
        have iv_27 : IV z_25 0 907 := by have := hv_xsta; have := iv_23; rw [IV, i_26]; omega
        refine k_aload_n X dX9_is_49 1 rfl ?_
        refine k_get (ci := 9) X inlX9 rfl 4 (by decide) dX9_is_50 mw59 0 rfl rfl ?_
        refine k_alen 900 0 X dX9_is_53 1 rfl rfl (by show Int32.ofNat 900 = 900; decide) ?_
        refine k_ic_ge 84 X dX9_is_54 (by decide) (fun h_28 => ?_) (fun h_28 => ?_)
        · skip
          have j_29 : 900 ≤ z_25.toInt := iv_le h_28
          have iv_30 : IV z_25 900 907 := iv_leR (iv_le h_28) (show IV 900 900 900 from (by decide)) iv_27 (by decide)
          refine k_iconst (v := 1) X dX9_is_84 (by decide) ?_
          exact k_zret X hr (by first | rfl | decide) dX9_is_85 (Nat.le_of_ble_eq_true rfl) (Nat.le_of_ble_eq_true rfl) [0, 1] (by decide) rfl rfl ⟨(iv_w (show IV 1 1 1 from (by decide)) (by decide) (by decide)), (KH_0 _ ⟨0 + 1, ⟨r_17, hq_19, (Or.inr ⟨h_20, ⟨z_25, ez_25, (Or.inl ⟨h_28, rfl⟩)⟩⟩)⟩⟩), rfl⟩
        · skip
          have j_31 : z_25.toInt < 900 := iv_nle h_28
          have iv_32 : IV z_25 0 899 := iv_ltL (iv_nle h_28) iv_27 (show IV 900 900 900 from (by decide)) (by decide)
          refine k_aload_n X dX9_is_57 1 rfl ?_
          refine k_get (ci := 9) X inlX9 rfl 4 (by decide) dX9_is_58 mw59 0 rfl rfl ?_
          refine k_aload_n X dX9_is_61 1 rfl ?_
          refine k_get (ci := 9) X inlX9 rfl 9 (by decide) dX9_is_62 mw67 0 rfl rfl ?_
          refine k_iload_n X dX9_is_65 0 rfl ?_
          refine k_iadd X dX9_is_66 ?_
          refine k_to z_25 ez_25.symm ?_
          refine k_bald X dX9_is_67 1 rfl (iv_in iv_32 (by decide) (by decide)) ?_
          refine k_nm (fun z_33 ez_33 => ?_)
          refine k_aload_n X dX9_is_68 2 rfl ?_
          refine k_iload_n X dX9_is_69 0 rfl ?_
          refine k_callLI (n := 1) (As := [.int u_12]) (st := [.int z_33]) X [] [(cO9_i1r1i2r1i1r2i4l1i2 h0 xtpd th xfn xfp tp xen nm nd xkd xsta xpo xva xle xtk xta), (cAB g tp 900 tpf)] [] [0, 1] (j_charAt l g sa u_12 tx_sa (iv_w iv_23 (by decide) (by decide)) hp_sa (by first | assumption | (subst_vars; first | assumption | exact Int32.not_le.mp (by assumption)))) dX9_is_70 mw268 mw269 mw270 mw259 mw271 rfl hp_sa rfl yk_yJ0_charAt_5068e_1 rfl (Nat.le_of_ble_eq_true rfl) (Nat.le_of_ble_eq_true rfl) (Nat.le_of_ble_eq_true rfl) (Nat.le_of_ble_eq_true rfl) (Nat.le_of_ble_eq_true rfl) rfl rfl (by decide) rfl (by decide) (by decide) ?_
          rintro r_34 w ⟨hq_35, rfl⟩
          refine k_ws [(cO9_i1r1i2r1i1r2i4l1i2 h0 xtpd th xfn xfp tp xen nm nd xkd xsta xpo xva xle xtk xta), (cAB g tp 900 tpf)] rfl ?_
          refine k_ic_eq 78 X dX9_is_73 (by decide) (fun h_36 => ?_) (fun h_36 => ?_)
          · skip
            obtain ⟨z_37, ez_37⟩ : ∃ y : Int32, u_12 + Int32.ofInt 1 = y := ⟨_, rfl⟩
            refine k_iinc z_37 [(2, .int z_37), (0, .ref h0), (1, .ref sa)] 0 X dX9_is_78 rfl ez_37 (by decide) rfl ?_
            have i_38 : z_37.toInt = u_12.toInt + 1 := in_inc ez_37 (by decide) iv_23 (by decide) (by decide)
            have iv_39 : IV z_37 1 8 := iz1 i_38 iv_23 (by decide) (by decide)
            refine k_goto 35 X dX9_is_81 (by decide) ?_
            exact ih_16 _ (by omega) z_37 rfl (iv_w iv_39 (by decide) (by decide)) (fun r h => h.elim (fun n_0 q => (KH_0 _ ⟨n_0 + 1, ⟨r_17, hq_19, (Or.inr ⟨h_20, ⟨z_25, ez_25, (Or.inr ⟨h_28, ⟨z_33, ez_33, ⟨r_34, hq_35, (Or.inl ⟨h_36, ⟨z_37, ez_37, q⟩⟩)⟩⟩⟩)⟩⟩)⟩⟩)))
          · skip
            refine k_iconst (v := 0) X dX9_is_76 (by decide) ?_
            exact k_zret X hr (by first | rfl | decide) dX9_is_77 (Nat.le_of_ble_eq_true rfl) (Nat.le_of_ble_eq_true rfl) [0, 1] (by decide) rfl rfl ⟨(iv_w (show IV 0 0 0 from (by decide)) (by decide) (by decide)), (KH_0 _ ⟨0 + 1, ⟨r_17, hq_19, (Or.inr ⟨h_20, ⟨z_25, ez_25, (Or.inr ⟨h_28, ⟨z_33, ez_33, ⟨r_34, hq_35, (Or.inr ⟨h_36, rfl⟩)⟩⟩⟩)⟩⟩)⟩⟩), rfl⟩
    · skip
      refine k_iconst (v := 0) X dX9_is_31 (by decide) ?_
      exact k_zret X hr (by first | rfl | decide) dX9_is_32 (Nat.le_of_ble_eq_true rfl) (Nat.le_of_ble_eq_true rfl) [0, 1] (by decide) rfl rfl ⟨(iv_w (show IV 0 0 0 from (by decide)) (by decide) (by decide)), (Or.inr ⟨h_1, ⟨r_5, hq_7, ⟨z_8, ez_8, (Or.inr ⟨h_10, rfl⟩)⟩⟩⟩), rfl⟩


set_option maxHeartbeats 4000000 in
set_option maxRecDepth 100000 in
theorem x_isReservedX (l : Launch) (g : Gx) (h0 : Nat) (xtpd : Int32) (th : Nat) (xfn : Int32) (xfp : Int32) (tp : Nat) (xen : Int32) (nm : Nat) (nd : Nat) (xkd : Int32) (xsta : Int32) (xpo : Int32) (xva : Int32) (xle : Int64) (xtk : Int32) (xta : Int32) (tpf : Nat → Int32) (hv_xsta : IV xsta 0 900) : cI l g yX9_isReserved cX9_isReserved 1 (some .boolean) 5 107 0 0 [.ref h0] [(cO9_i1r1i2r1i1r2i4l1i2 h0 xtpd th xfn xfp tp xen nm nd xkd xsta xpo xva xle xtk xta), (cAB g tp 900 tpf)] (fun r w => IV r 0 1 ∧ (R_x_isReservedX xkd xsta xpo tpf r) ∧ w = [(cO9_i1r1i2r1i1r2i4l1i2 h0 xtpd th xfn xfp tp xen nm nd xkd xsta xpo xva xle xtk xta), (cAB g tp 900 tpf)]) := by
  refine cI.of (by decide) (Nat.le_of_ble_eq_true rfl) ?_
  intro p e s m args below meth c A X hr hi
  refine k_lveq [(0, .ref h0)] rfl ?_
  refine k_aload_n X dX9_isReserved_0 0 rfl ?_
  refine k_ldcS (tx := "house") X dX9_isReserved_1 (by decide +kernel) (fun sr_1 hsr_1 => ?_)
  refine k_callVI (n := 1) (As := [.ref sr_1]) (st := []) X [(cO9_i1r1i2r1i1r2i4l1i2 h0 xtpd th xfn xfp tp xen nm nd xkd xsta xpo xva xle xtk xta), (cAB g tp 900 tpf)] [] [0, 1] [] (x_isX l g h0 sr_1 xtpd th xfn xfp tp xen nm nd xkd xsta xpo xva xle xtk xta tpf ("house") (iv_w hv_xsta (by decide) (by decide)) hsr_1) dX9_isReserved_3 mw252 mw253 mw254 mw15 mw255 rfl 9 rfl rfl 0 _ rfl yk_yX9_is_1 rfl (Nat.le_of_ble_eq_true rfl) (Nat.le_of_ble_eq_true rfl) (Nat.le_of_ble_eq_true rfl) (Nat.le_of_ble_eq_true rfl) (Nat.le_of_ble_eq_true rfl) rfl rfl (by decide) rfl (by decide) (by decide) ?_
  rintro r_2 w ⟨iv_3, hq_4, rfl⟩
  refine k_ws [(cO9_i1r1i2r1i1r2i4l1i2 h0 xtpd th xfn xfp tp xen nm nd xkd xsta xpo xva xle xtk xta), (cAB g tp 900 tpf)] rfl ?_
  refine k_if_ne 109 X dX9_isReserved_6 (by decide) (fun h_5 => ?_) (fun h_5 => ?_)
  · skip
    have iv_6 : IV r_2 1 1 := iv_neL h_5 iv_3 (show IV 0 0 0 from (by decide)) (by decide)
    refine k_iconst (v := 1) X dX9_isReserved_109 (by decide) ?_
    refine k_goto 114 X dX9_isReserved_110 (by decide) ?_
    exact k_zret X hr (by first | rfl | decide) dX9_isReserved_114 (Nat.le_of_ble_eq_true rfl) (Nat.le_of_ble_eq_true rfl) [0, 1] (by decide) rfl rfl ⟨(iv_w (show IV 1 1 1 from (by decide)) (by decide) (by decide)), ⟨r_2, hq_4, (Or.inl ⟨h_5, rfl⟩)⟩, rfl⟩
  · skip
    have iv_7 : IV r_2 0 0 := iv_meet iv_3 (iv_e h_5 (show IV 0 0 0 from (by decide))) (by decide) (by decide)
    refine k_aload_n X dX9_isReserved_9 0 rfl ?_
    refine k_ldcS (tx := "reel") X dX9_isReserved_10 (by decide +kernel) (fun sr_8 hsr_8 => ?_)
    refine k_callVI (n := 1) (As := [.ref sr_8]) (st := []) X [(cO9_i1r1i2r1i1r2i4l1i2 h0 xtpd th xfn xfp tp xen nm nd xkd xsta xpo xva xle xtk xta), (cAB g tp 900 tpf)] [] [0, 1] [] (x_isX l g h0 sr_8 xtpd th xfn xfp tp xen nm nd xkd xsta xpo xva xle xtk xta tpf ("reel") (iv_w hv_xsta (by decide) (by decide)) hsr_8) dX9_isReserved_12 mw252 mw253 mw254 mw15 mw255 rfl 9 rfl rfl 0 _ rfl yk_yX9_is_1 rfl (Nat.le_of_ble_eq_true rfl) (Nat.le_of_ble_eq_true rfl) (Nat.le_of_ble_eq_true rfl) (Nat.le_of_ble_eq_true rfl) (Nat.le_of_ble_eq_true rfl) rfl rfl (by decide) rfl (by decide) (by decide) ?_
    rintro r_9 w ⟨iv_10, hq_11, rfl⟩
    refine k_ws [(cO9_i1r1i2r1i1r2i4l1i2 h0 xtpd th xfn xfp tp xen nm nd xkd xsta xpo xva xle xtk xta), (cAB g tp 900 tpf)] rfl ?_
    refine k_if_ne 109 X dX9_isReserved_15 (by decide) (fun h_12 => ?_) (fun h_12 => ?_)
    · skip
      have iv_13 : IV r_9 1 1 := iv_neL h_12 iv_10 (show IV 0 0 0 from (by decide)) (by decide)
      refine k_iconst (v := 1) X dX9_isReserved_109 (by decide) ?_
      refine k_goto 114 X dX9_isReserved_110 (by decide) ?_
      exact k_zret X hr (by first | rfl | decide) dX9_isReserved_114 (Nat.le_of_ble_eq_true rfl) (Nat.le_of_ble_eq_true rfl) [0, 1] (by decide) rfl rfl ⟨(iv_w (show IV 1 1 1 from (by decide)) (by decide) (by decide)), ⟨r_2, hq_4, (Or.inr ⟨h_5, ⟨r_9, hq_11, (Or.inl ⟨h_12, rfl⟩)⟩⟩)⟩, rfl⟩
    · skip
      have iv_14 : IV r_9 0 0 := iv_meet iv_10 (iv_e h_12 (show IV 0 0 0 from (by decide))) (by decide) (by decide)
      refine k_aload_n X dX9_isReserved_18 0 rfl ?_
      refine k_ldcS (tx := "town") X dX9_isReserved_19 (by decide +kernel) (fun sr_15 hsr_15 => ?_)
      refine k_callVI (n := 1) (As := [.ref sr_15]) (st := []) X [(cO9_i1r1i2r1i1r2i4l1i2 h0 xtpd th xfn xfp tp xen nm nd xkd xsta xpo xva xle xtk xta), (cAB g tp 900 tpf)] [] [0, 1] [] (x_isX l g h0 sr_15 xtpd th xfn xfp tp xen nm nd xkd xsta xpo xva xle xtk xta tpf ("town") (iv_w hv_xsta (by decide) (by decide)) hsr_15) dX9_isReserved_21 mw252 mw253 mw254 mw15 mw255 rfl 9 rfl rfl 0 _ rfl yk_yX9_is_1 rfl (Nat.le_of_ble_eq_true rfl) (Nat.le_of_ble_eq_true rfl) (Nat.le_of_ble_eq_true rfl) (Nat.le_of_ble_eq_true rfl) (Nat.le_of_ble_eq_true rfl) rfl rfl (by decide) rfl (by decide) (by decide) ?_
      rintro r_16 w ⟨iv_17, hq_18, rfl⟩
      refine k_ws [(cO9_i1r1i2r1i1r2i4l1i2 h0 xtpd th xfn xfp tp xen nm nd xkd xsta xpo xva xle xtk xta), (cAB g tp 900 tpf)] rfl ?_
      refine k_if_ne 109 X dX9_isReserved_24 (by decide) (fun h_19 => ?_) (fun h_19 => ?_)
      · skip
        have iv_20 : IV r_16 1 1 := iv_neL h_19 iv_17 (show IV 0 0 0 from (by decide)) (by decide)
        refine k_iconst (v := 1) X dX9_isReserved_109 (by decide) ?_
        refine k_goto 114 X dX9_isReserved_110 (by decide) ?_
        exact k_zret X hr (by first | rfl | decide) dX9_isReserved_114 (Nat.le_of_ble_eq_true rfl) (Nat.le_of_ble_eq_true rfl) [0, 1] (by decide) rfl rfl ⟨(iv_w (show IV 1 1 1 from (by decide)) (by decide) (by decide)), ⟨r_2, hq_4, (Or.inr ⟨h_5, ⟨r_9, hq_11, (Or.inr ⟨h_12, ⟨r_16, hq_18, (Or.inl ⟨h_19, rfl⟩)⟩⟩)⟩⟩)⟩, rfl⟩
      · skip
        have iv_21 : IV r_16 0 0 := iv_meet iv_17 (iv_e h_19 (show IV 0 0 0 from (by decide))) (by decide) (by decide)
        refine k_aload_n X dX9_isReserved_27 0 rfl ?_
        refine k_ldcS (tx := "mark") X dX9_isReserved_28 (by decide +kernel) (fun sr_22 hsr_22 => ?_)
        refine k_callVI (n := 1) (As := [.ref sr_22]) (st := []) X [(cO9_i1r1i2r1i1r2i4l1i2 h0 xtpd th xfn xfp tp xen nm nd xkd xsta xpo xva xle xtk xta), (cAB g tp 900 tpf)] [] [0, 1] [] (x_isX l g h0 sr_22 xtpd th xfn xfp tp xen nm nd xkd xsta xpo xva xle xtk xta tpf ("mark") (iv_w hv_xsta (by decide) (by decide)) hsr_22) dX9_isReserved_30 mw252 mw253 mw254 mw15 mw255 rfl 9 rfl rfl 0 _ rfl yk_yX9_is_1 rfl (Nat.le_of_ble_eq_true rfl) (Nat.le_of_ble_eq_true rfl) (Nat.le_of_ble_eq_true rfl) (Nat.le_of_ble_eq_true rfl) (Nat.le_of_ble_eq_true rfl) rfl rfl (by decide) rfl (by decide) (by decide) ?_
        rintro r_23 w ⟨iv_24, hq_25, rfl⟩
        refine k_ws [(cO9_i1r1i2r1i1r2i4l1i2 h0 xtpd th xfn xfp tp xen nm nd xkd xsta xpo xva xle xtk xta), (cAB g tp 900 tpf)] rfl ?_
        refine k_if_ne 109 X dX9_isReserved_33 (by decide) (fun h_26 => ?_) (fun h_26 => ?_)
        · skip
          have iv_27 : IV r_23 1 1 := iv_neL h_26 iv_24 (show IV 0 0 0 from (by decide)) (by decide)
          refine k_iconst (v := 1) X dX9_isReserved_109 (by decide) ?_
          refine k_goto 114 X dX9_isReserved_110 (by decide) ?_
          exact k_zret X hr (by first | rfl | decide) dX9_isReserved_114 (Nat.le_of_ble_eq_true rfl) (Nat.le_of_ble_eq_true rfl) [0, 1] (by decide) rfl rfl ⟨(iv_w (show IV 1 1 1 from (by decide)) (by decide) (by decide)), ⟨r_2, hq_4, (Or.inr ⟨h_5, ⟨r_9, hq_11, (Or.inr ⟨h_12, ⟨r_16, hq_18, (Or.inr ⟨h_19, ⟨r_23, hq_25, (Or.inl ⟨h_26, rfl⟩)⟩⟩)⟩⟩)⟩⟩)⟩, rfl⟩
        · skip
          have iv_28 : IV r_23 0 0 := iv_meet iv_24 (iv_e h_26 (show IV 0 0 0 from (by decide))) (by decide) (by decide)
          refine k_aload_n X dX9_isReserved_36 0 rfl ?_
          refine k_ldcS (tx := "join") X dX9_isReserved_37 (by decide +kernel) (fun sr_29 hsr_29 => ?_)
          refine k_callVI (n := 1) (As := [.ref sr_29]) (st := []) X [(cO9_i1r1i2r1i1r2i4l1i2 h0 xtpd th xfn xfp tp xen nm nd xkd xsta xpo xva xle xtk xta), (cAB g tp 900 tpf)] [] [0, 1] [] (x_isX l g h0 sr_29 xtpd th xfn xfp tp xen nm nd xkd xsta xpo xva xle xtk xta tpf ("join") (iv_w hv_xsta (by decide) (by decide)) hsr_29) dX9_isReserved_39 mw252 mw253 mw254 mw15 mw255 rfl 9 rfl rfl 0 _ rfl yk_yX9_is_1 rfl (Nat.le_of_ble_eq_true rfl) (Nat.le_of_ble_eq_true rfl) (Nat.le_of_ble_eq_true rfl) (Nat.le_of_ble_eq_true rfl) (Nat.le_of_ble_eq_true rfl) rfl rfl (by decide) rfl (by decide) (by decide) ?_
          rintro r_30 w ⟨iv_31, hq_32, rfl⟩
          refine k_ws [(cO9_i1r1i2r1i1r2i4l1i2 h0 xtpd th xfn xfp tp xen nm nd xkd xsta xpo xva xle xtk xta), (cAB g tp 900 tpf)] rfl ?_
          refine k_if_ne 109 X dX9_isReserved_42 (by decide) (fun h_33 => ?_) (fun h_33 => ?_)
          · skip
            have iv_34 : IV r_30 1 1 := iv_neL h_33 iv_31 (show IV 0 0 0 from (by decide)) (by decide)
            refine k_iconst (v := 1) X dX9_isReserved_109 (by decide) ?_
            refine k_goto 114 X dX9_isReserved_110 (by decide) ?_
            exact k_zret X hr (by first | rfl | decide) dX9_isReserved_114 (Nat.le_of_ble_eq_true rfl) (Nat.le_of_ble_eq_true rfl) [0, 1] (by decide) rfl rfl ⟨(iv_w (show IV 1 1 1 from (by decide)) (by decide) (by decide)), ⟨r_2, hq_4, (Or.inr ⟨h_5, ⟨r_9, hq_11, (Or.inr ⟨h_12, ⟨r_16, hq_18, (Or.inr ⟨h_19, ⟨r_23, hq_25, (Or.inr ⟨h_26, ⟨r_30, hq_32, (Or.inl ⟨h_33, rfl⟩)⟩⟩)⟩⟩)⟩⟩)⟩⟩)⟩, rfl⟩
          · skip
            have iv_35 : IV r_30 0 0 := iv_meet iv_31 (iv_e h_33 (show IV 0 0 0 from (by decide))) (by decide) (by decide)
            refine k_aload_n X dX9_isReserved_45 0 rfl ?_
            refine k_ldcS (tx := "weak") X dX9_isReserved_46 (by decide +kernel) (fun sr_36 hsr_36 => ?_)
            refine k_callVI (n := 1) (As := [.ref sr_36]) (st := []) X [(cO9_i1r1i2r1i1r2i4l1i2 h0 xtpd th xfn xfp tp xen nm nd xkd xsta xpo xva xle xtk xta), (cAB g tp 900 tpf)] [] [0, 1] [] (x_isX l g h0 sr_36 xtpd th xfn xfp tp xen nm nd xkd xsta xpo xva xle xtk xta tpf ("weak") (iv_w hv_xsta (by decide) (by decide)) hsr_36) dX9_isReserved_48 mw252 mw253 mw254 mw15 mw255 rfl 9 rfl rfl 0 _ rfl yk_yX9_is_1 rfl (Nat.le_of_ble_eq_true rfl) (Nat.le_of_ble_eq_true rfl) (Nat.le_of_ble_eq_true rfl) (Nat.le_of_ble_eq_true rfl) (Nat.le_of_ble_eq_true rfl) rfl rfl (by decide) rfl (by decide) (by decide) ?_
            rintro r_37 w ⟨iv_38, hq_39, rfl⟩
            refine k_ws [(cO9_i1r1i2r1i1r2i4l1i2 h0 xtpd th xfn xfp tp xen nm nd xkd xsta xpo xva xle xtk xta), (cAB g tp 900 tpf)] rfl ?_
            refine k_if_ne 109 X dX9_isReserved_51 (by decide) (fun h_40 => ?_) (fun h_40 => ?_)
            · skip
              have iv_41 : IV r_37 1 1 := iv_neL h_40 iv_38 (show IV 0 0 0 from (by decide)) (by decide)
              refine k_iconst (v := 1) X dX9_isReserved_109 (by decide) ?_
              refine k_goto 114 X dX9_isReserved_110 (by decide) ?_
              exact k_zret X hr (by first | rfl | decide) dX9_isReserved_114 (Nat.le_of_ble_eq_true rfl) (Nat.le_of_ble_eq_true rfl) [0, 1] (by decide) rfl rfl ⟨(iv_w (show IV 1 1 1 from (by decide)) (by decide) (by decide)), ⟨r_2, hq_4, (Or.inr ⟨h_5, ⟨r_9, hq_11, (Or.inr ⟨h_12, ⟨r_16, hq_18, (Or.inr ⟨h_19, ⟨r_23, hq_25, (Or.inr ⟨h_26, ⟨r_30, hq_32, (Or.inr ⟨h_33, ⟨r_37, hq_39, (Or.inl ⟨h_40, rfl⟩)⟩⟩)⟩⟩)⟩⟩)⟩⟩)⟩⟩)⟩, rfl⟩
            · skip
              have iv_42 : IV r_37 0 0 := iv_meet iv_38 (iv_e h_40 (show IV 0 0 0 from (by decide))) (by decide) (by decide)
              refine k_aload_n X dX9_isReserved_54 0 rfl ?_
              refine k_ldcS (tx := "man") X dX9_isReserved_55 (by decide +kernel) (fun sr_43 hsr_43 => ?_)
              refine k_callVI (n := 1) (As := [.ref sr_43]) (st := []) X [(cO9_i1r1i2r1i1r2i4l1i2 h0 xtpd th xfn xfp tp xen nm nd xkd xsta xpo xva xle xtk xta), (cAB g tp 900 tpf)] [] [0, 1] [] (x_isX l g h0 sr_43 xtpd th xfn xfp tp xen nm nd xkd xsta xpo xva xle xtk xta tpf ("man") (iv_w hv_xsta (by decide) (by decide)) hsr_43) dX9_isReserved_57 mw252 mw253 mw254 mw15 mw255 rfl 9 rfl rfl 0 _ rfl yk_yX9_is_1 rfl (Nat.le_of_ble_eq_true rfl) (Nat.le_of_ble_eq_true rfl) (Nat.le_of_ble_eq_true rfl) (Nat.le_of_ble_eq_true rfl) (Nat.le_of_ble_eq_true rfl) rfl rfl (by decide) rfl (by decide) (by decide) ?_
              rintro r_44 w ⟨iv_45, hq_46, rfl⟩
              refine k_ws [(cO9_i1r1i2r1i1r2i4l1i2 h0 xtpd th xfn xfp tp xen nm nd xkd xsta xpo xva xle xtk xta), (cAB g tp 900 tpf)] rfl ?_
              refine k_if_ne 109 X dX9_isReserved_60 (by decide) (fun h_47 => ?_) (fun h_47 => ?_)
              · skip
                have iv_48 : IV r_44 1 1 := iv_neL h_47 iv_45 (show IV 0 0 0 from (by decide)) (by decide)
                refine k_iconst (v := 1) X dX9_isReserved_109 (by decide) ?_
                refine k_goto 114 X dX9_isReserved_110 (by decide) ?_
                exact k_zret X hr (by first | rfl | decide) dX9_isReserved_114 (Nat.le_of_ble_eq_true rfl) (Nat.le_of_ble_eq_true rfl) [0, 1] (by decide) rfl rfl ⟨(iv_w (show IV 1 1 1 from (by decide)) (by decide) (by decide)), ⟨r_2, hq_4, (Or.inr ⟨h_5, ⟨r_9, hq_11, (Or.inr ⟨h_12, ⟨r_16, hq_18, (Or.inr ⟨h_19, ⟨r_23, hq_25, (Or.inr ⟨h_26, ⟨r_30, hq_32, (Or.inr ⟨h_33, ⟨r_37, hq_39, (Or.inr ⟨h_40, ⟨r_44, hq_46, (Or.inl ⟨h_47, rfl⟩)⟩⟩)⟩⟩)⟩⟩)⟩⟩)⟩⟩)⟩⟩)⟩, rfl⟩
              · skip
                have iv_49 : IV r_44 0 0 := iv_meet iv_45 (iv_e h_47 (show IV 0 0 0 from (by decide))) (by decide) (by decide)
                refine k_aload_n X dX9_isReserved_63 0 rfl ?_
                refine k_ldcS (tx := "shows") X dX9_isReserved_64 (by decide +kernel) (fun sr_50 hsr_50 => ?_)
                refine k_callVI (n := 1) (As := [.ref sr_50]) (st := []) X [(cO9_i1r1i2r1i1r2i4l1i2 h0 xtpd th xfn xfp tp xen nm nd xkd xsta xpo xva xle xtk xta), (cAB g tp 900 tpf)] [] [0, 1] [] (x_isX l g h0 sr_50 xtpd th xfn xfp tp xen nm nd xkd xsta xpo xva xle xtk xta tpf ("shows") (iv_w hv_xsta (by decide) (by decide)) hsr_50) dX9_isReserved_66 mw252 mw253 mw254 mw15 mw255 rfl 9 rfl rfl 0 _ rfl yk_yX9_is_1 rfl (Nat.le_of_ble_eq_true rfl) (Nat.le_of_ble_eq_true rfl) (Nat.le_of_ble_eq_true rfl) (Nat.le_of_ble_eq_true rfl) (Nat.le_of_ble_eq_true rfl) rfl rfl (by decide) rfl (by decide) (by decide) ?_
                rintro r_51 w ⟨iv_52, hq_53, rfl⟩
                refine k_ws [(cO9_i1r1i2r1i1r2i4l1i2 h0 xtpd th xfn xfp tp xen nm nd xkd xsta xpo xva xle xtk xta), (cAB g tp 900 tpf)] rfl ?_
                refine k_if_ne 109 X dX9_isReserved_69 (by decide) (fun h_54 => ?_) (fun h_54 => ?_)
                · skip
                  have iv_55 : IV r_51 1 1 := iv_neL h_54 iv_52 (show IV 0 0 0 from (by decide)) (by decide)
                  refine k_iconst (v := 1) X dX9_isReserved_109 (by decide) ?_
                  refine k_goto 114 X dX9_isReserved_110 (by decide) ?_
                  exact k_zret X hr (by first | rfl | decide) dX9_isReserved_114 (Nat.le_of_ble_eq_true rfl) (Nat.le_of_ble_eq_true rfl) [0, 1] (by decide) rfl rfl ⟨(iv_w (show IV 1 1 1 from (by decide)) (by decide) (by decide)), ⟨r_2, hq_4, (Or.inr ⟨h_5, ⟨r_9, hq_11, (Or.inr ⟨h_12, ⟨r_16, hq_18, (Or.inr ⟨h_19, ⟨r_23, hq_25, (Or.inr ⟨h_26, ⟨r_30, hq_32, (Or.inr ⟨h_33, ⟨r_37, hq_39, (Or.inr ⟨h_40, ⟨r_44, hq_46, (Or.inr ⟨h_47, ⟨r_51, hq_53, (Or.inl ⟨h_54, rfl⟩)⟩⟩)⟩⟩)⟩⟩)⟩⟩)⟩⟩)⟩⟩)⟩⟩)⟩, rfl⟩
                · skip
                  have iv_56 : IV r_51 0 0 := iv_meet iv_52 (iv_e h_54 (show IV 0 0 0 from (by decide))) (by decide) (by decide)
                  refine k_aload_n X dX9_isReserved_72 0 rfl ?_
                  refine k_ldcS (tx := "boys") X dX9_isReserved_73 (by decide +kernel) (fun sr_57 hsr_57 => ?_)
                  refine k_callVI (n := 1) (As := [.ref sr_57]) (st := []) X [(cO9_i1r1i2r1i1r2i4l1i2 h0 xtpd th xfn xfp tp xen nm nd xkd xsta xpo xva xle xtk xta), (cAB g tp 900 tpf)] [] [0, 1] [] (x_isX l g h0 sr_57 xtpd th xfn xfp tp xen nm nd xkd xsta xpo xva xle xtk xta tpf ("boys") (iv_w hv_xsta (by decide) (by decide)) hsr_57) dX9_isReserved_75 mw252 mw253 mw254 mw15 mw255 rfl 9 rfl rfl 0 _ rfl yk_yX9_is_1 rfl (Nat.le_of_ble_eq_true rfl) (Nat.le_of_ble_eq_true rfl) (Nat.le_of_ble_eq_true rfl) (Nat.le_of_ble_eq_true rfl) (Nat.le_of_ble_eq_true rfl) rfl rfl (by decide) rfl (by decide) (by decide) ?_
                  rintro r_58 w ⟨iv_59, hq_60, rfl⟩
                  refine k_ws [(cO9_i1r1i2r1i1r2i4l1i2 h0 xtpd th xfn xfp tp xen nm nd xkd xsta xpo xva xle xtk xta), (cAB g tp 900 tpf)] rfl ?_
                  refine k_if_ne 109 X dX9_isReserved_78 (by decide) (fun h_61 => ?_) (fun h_61 => ?_)
                  · skip
                    have iv_62 : IV r_58 1 1 := iv_neL h_61 iv_59 (show IV 0 0 0 from (by decide)) (by decide)
                    refine k_iconst (v := 1) X dX9_isReserved_109 (by decide) ?_
                    refine k_goto 114 X dX9_isReserved_110 (by decide) ?_
                    exact k_zret X hr (by first | rfl | decide) dX9_isReserved_114 (Nat.le_of_ble_eq_true rfl) (Nat.le_of_ble_eq_true rfl) [0, 1] (by decide) rfl rfl ⟨(iv_w (show IV 1 1 1 from (by decide)) (by decide) (by decide)), ⟨r_2, hq_4, (Or.inr ⟨h_5, ⟨r_9, hq_11, (Or.inr ⟨h_12, ⟨r_16, hq_18, (Or.inr ⟨h_19, ⟨r_23, hq_25, (Or.inr ⟨h_26, ⟨r_30, hq_32, (Or.inr ⟨h_33, ⟨r_37, hq_39, (Or.inr ⟨h_40, ⟨r_44, hq_46, (Or.inr ⟨h_47, ⟨r_51, hq_53, (Or.inr ⟨h_54, ⟨r_58, hq_60, (Or.inl ⟨h_61, rfl⟩)⟩⟩)⟩⟩)⟩⟩)⟩⟩)⟩⟩)⟩⟩)⟩⟩)⟩⟩)⟩, rfl⟩
                  · skip
                    have iv_63 : IV r_58 0 0 := iv_meet iv_59 (iv_e h_61 (show IV 0 0 0 from (by decide))) (by decide) (by decide)
                    refine k_aload_n X dX9_isReserved_81 0 rfl ?_
                    refine k_ldcS (tx := "by") X dX9_isReserved_82 (by decide +kernel) (fun sr_64 hsr_64 => ?_)
                    refine k_callVI (n := 1) (As := [.ref sr_64]) (st := []) X [(cO9_i1r1i2r1i1r2i4l1i2 h0 xtpd th xfn xfp tp xen nm nd xkd xsta xpo xva xle xtk xta), (cAB g tp 900 tpf)] [] [0, 1] [] (x_isX l g h0 sr_64 xtpd th xfn xfp tp xen nm nd xkd xsta xpo xva xle xtk xta tpf ("by") (iv_w hv_xsta (by decide) (by decide)) hsr_64) dX9_isReserved_84 mw252 mw253 mw254 mw15 mw255 rfl 9 rfl rfl 0 _ rfl yk_yX9_is_1 rfl (Nat.le_of_ble_eq_true rfl) (Nat.le_of_ble_eq_true rfl) (Nat.le_of_ble_eq_true rfl) (Nat.le_of_ble_eq_true rfl) (Nat.le_of_ble_eq_true rfl) rfl rfl (by decide) rfl (by decide) (by decide) ?_
                    rintro r_65 w ⟨iv_66, hq_67, rfl⟩
                    refine k_ws [(cO9_i1r1i2r1i1r2i4l1i2 h0 xtpd th xfn xfp tp xen nm nd xkd xsta xpo xva xle xtk xta), (cAB g tp 900 tpf)] rfl ?_
                    refine k_if_ne 109 X dX9_isReserved_87 (by decide) (fun h_68 => ?_) (fun h_68 => ?_)
                    · skip
                      have iv_69 : IV r_65 1 1 := iv_neL h_68 iv_66 (show IV 0 0 0 from (by decide)) (by decide)
                      refine k_iconst (v := 1) X dX9_isReserved_109 (by decide) ?_
                      refine k_goto 114 X dX9_isReserved_110 (by decide) ?_
                      exact k_zret X hr (by first | rfl | decide) dX9_isReserved_114 (Nat.le_of_ble_eq_true rfl) (Nat.le_of_ble_eq_true rfl) [0, 1] (by decide) rfl rfl ⟨(iv_w (show IV 1 1 1 from (by decide)) (by decide) (by decide)), ⟨r_2, hq_4, (Or.inr ⟨h_5, ⟨r_9, hq_11, (Or.inr ⟨h_12, ⟨r_16, hq_18, (Or.inr ⟨h_19, ⟨r_23, hq_25, (Or.inr ⟨h_26, ⟨r_30, hq_32, (Or.inr ⟨h_33, ⟨r_37, hq_39, (Or.inr ⟨h_40, ⟨r_44, hq_46, (Or.inr ⟨h_47, ⟨r_51, hq_53, (Or.inr ⟨h_54, ⟨r_58, hq_60, (Or.inr ⟨h_61, ⟨r_65, hq_67, (Or.inl ⟨h_68, rfl⟩)⟩⟩)⟩⟩)⟩⟩)⟩⟩)⟩⟩)⟩⟩)⟩⟩)⟩⟩)⟩⟩)⟩, rfl⟩
                    · skip
                      have iv_70 : IV r_65 0 0 := iv_meet iv_66 (iv_e h_68 (show IV 0 0 0 from (by decide))) (by decide) (by decide)
                      refine k_aload_n X dX9_isReserved_90 0 rfl ?_
                      refine k_ldcS (tx := "seen") X dX9_isReserved_91 (by decide +kernel) (fun sr_71 hsr_71 => ?_)
                      refine k_callVI (n := 1) (As := [.ref sr_71]) (st := []) X [(cO9_i1r1i2r1i1r2i4l1i2 h0 xtpd th xfn xfp tp xen nm nd xkd xsta xpo xva xle xtk xta), (cAB g tp 900 tpf)] [] [0, 1] [] (x_isX l g h0 sr_71 xtpd th xfn xfp tp xen nm nd xkd xsta xpo xva xle xtk xta tpf ("seen") (iv_w hv_xsta (by decide) (by decide)) hsr_71) dX9_isReserved_93 mw252 mw253 mw254 mw15 mw255 rfl 9 rfl rfl 0 _ rfl yk_yX9_is_1 rfl (Nat.le_of_ble_eq_true rfl) (Nat.le_of_ble_eq_true rfl) (Nat.le_of_ble_eq_true rfl) (Nat.le_of_ble_eq_true rfl) (Nat.le_of_ble_eq_true rfl) rfl rfl (by decide) rfl (by decide) (by decide) ?_
                      rintro r_72 w ⟨iv_73, hq_74, rfl⟩
                      refine k_ws [(cO9_i1r1i2r1i1r2i4l1i2 h0 xtpd th xfn xfp tp xen nm nd xkd xsta xpo xva xle xtk xta), (cAB g tp 900 tpf)] rfl ?_
                      refine k_if_ne 109 X dX9_isReserved_96 (by decide) (fun h_75 => ?_) (fun h_75 => ?_)
                      · skip
                        have iv_76 : IV r_72 1 1 := iv_neL h_75 iv_73 (show IV 0 0 0 from (by decide)) (by decide)
                        refine k_iconst (v := 1) X dX9_isReserved_109 (by decide) ?_
                        refine k_goto 114 X dX9_isReserved_110 (by decide) ?_
                        exact k_zret X hr (by first | rfl | decide) dX9_isReserved_114 (Nat.le_of_ble_eq_true rfl) (Nat.le_of_ble_eq_true rfl) [0, 1] (by decide) rfl rfl ⟨(iv_w (show IV 1 1 1 from (by decide)) (by decide) (by decide)), ⟨r_2, hq_4, (Or.inr ⟨h_5, ⟨r_9, hq_11, (Or.inr ⟨h_12, ⟨r_16, hq_18, (Or.inr ⟨h_19, ⟨r_23, hq_25, (Or.inr ⟨h_26, ⟨r_30, hq_32, (Or.inr ⟨h_33, ⟨r_37, hq_39, (Or.inr ⟨h_40, ⟨r_44, hq_46, (Or.inr ⟨h_47, ⟨r_51, hq_53, (Or.inr ⟨h_54, ⟨r_58, hq_60, (Or.inr ⟨h_61, ⟨r_65, hq_67, (Or.inr ⟨h_68, ⟨r_72, hq_74, (Or.inl ⟨h_75, rfl⟩)⟩⟩)⟩⟩)⟩⟩)⟩⟩)⟩⟩)⟩⟩)⟩⟩)⟩⟩)⟩⟩)⟩⟩)⟩, rfl⟩
                      · skip
                        have iv_77 : IV r_72 0 0 := iv_meet iv_73 (iv_e h_75 (show IV 0 0 0 from (by decide))) (by decide) (by decide)
                        refine k_aload_n X dX9_isReserved_99 0 rfl ?_
                        refine k_ldcwS (tx := "scratch") X dX9_isReserved_100 (by decide +kernel) (fun sr_78 hsr_78 => ?_)
                        refine k_callVI (n := 1) (As := [.ref sr_78]) (st := []) X [(cO9_i1r1i2r1i1r2i4l1i2 h0 xtpd th xfn xfp tp xen nm nd xkd xsta xpo xva xle xtk xta), (cAB g tp 900 tpf)] [] [0, 1] [] (x_isX l g h0 sr_78 xtpd th xfn xfp tp xen nm nd xkd xsta xpo xva xle xtk xta tpf ("scratch") (iv_w hv_xsta (by decide) (by decide)) hsr_78) dX9_isReserved_103 mw252 mw253 mw254 mw15 mw255 rfl 9 rfl rfl 0 _ rfl yk_yX9_is_1 rfl (Nat.le_of_ble_eq_true rfl) (Nat.le_of_ble_eq_true rfl) (Nat.le_of_ble_eq_true rfl) (Nat.le_of_ble_eq_true rfl) (Nat.le_of_ble_eq_true rfl) rfl rfl (by decide) rfl (by decide) (by decide) ?_
                        rintro r_79 w ⟨iv_80, hq_81, rfl⟩
                        refine k_ws [(cO9_i1r1i2r1i1r2i4l1i2 h0 xtpd th xfn xfp tp xen nm nd xkd xsta xpo xva xle xtk xta), (cAB g tp 900 tpf)] rfl ?_
                        refine k_if_eq 113 X dX9_isReserved_106 (by decide) (fun h_82 => ?_) (fun h_82 => ?_)
                        · skip
                          have iv_83 : IV r_79 0 0 := iv_meet iv_80 (iv_e h_82 (show IV 0 0 0 from (by decide))) (by decide) (by decide)
                          refine k_iconst (v := 0) X dX9_isReserved_113 (by decide) ?_
                          exact k_zret X hr (by first | rfl | decide) dX9_isReserved_114 (Nat.le_of_ble_eq_true rfl) (Nat.le_of_ble_eq_true rfl) [0, 1] (by decide) rfl rfl ⟨(iv_w (show IV 0 0 0 from (by decide)) (by decide) (by decide)), ⟨r_2, hq_4, (Or.inr ⟨h_5, ⟨r_9, hq_11, (Or.inr ⟨h_12, ⟨r_16, hq_18, (Or.inr ⟨h_19, ⟨r_23, hq_25, (Or.inr ⟨h_26, ⟨r_30, hq_32, (Or.inr ⟨h_33, ⟨r_37, hq_39, (Or.inr ⟨h_40, ⟨r_44, hq_46, (Or.inr ⟨h_47, ⟨r_51, hq_53, (Or.inr ⟨h_54, ⟨r_58, hq_60, (Or.inr ⟨h_61, ⟨r_65, hq_67, (Or.inr ⟨h_68, ⟨r_72, hq_74, (Or.inr ⟨h_75, ⟨r_79, hq_81, (Or.inl ⟨h_82, rfl⟩)⟩⟩)⟩⟩)⟩⟩)⟩⟩)⟩⟩)⟩⟩)⟩⟩)⟩⟩)⟩⟩)⟩⟩)⟩⟩)⟩, rfl⟩
                        · skip
                          have iv_84 : IV r_79 1 1 := iv_neL h_82 iv_80 (show IV 0 0 0 from (by decide)) (by decide)
                          refine k_iconst (v := 1) X dX9_isReserved_109 (by decide) ?_
                          refine k_goto 114 X dX9_isReserved_110 (by decide) ?_
                          exact k_zret X hr (by first | rfl | decide) dX9_isReserved_114 (Nat.le_of_ble_eq_true rfl) (Nat.le_of_ble_eq_true rfl) [0, 1] (by decide) rfl rfl ⟨(iv_w (show IV 1 1 1 from (by decide)) (by decide) (by decide)), ⟨r_2, hq_4, (Or.inr ⟨h_5, ⟨r_9, hq_11, (Or.inr ⟨h_12, ⟨r_16, hq_18, (Or.inr ⟨h_19, ⟨r_23, hq_25, (Or.inr ⟨h_26, ⟨r_30, hq_32, (Or.inr ⟨h_33, ⟨r_37, hq_39, (Or.inr ⟨h_40, ⟨r_44, hq_46, (Or.inr ⟨h_47, ⟨r_51, hq_53, (Or.inr ⟨h_54, ⟨r_58, hq_60, (Or.inr ⟨h_61, ⟨r_65, hq_67, (Or.inr ⟨h_68, ⟨r_72, hq_74, (Or.inr ⟨h_75, ⟨r_79, hq_81, (Or.inr ⟨h_82, rfl⟩)⟩⟩)⟩⟩)⟩⟩)⟩⟩)⟩⟩)⟩⟩)⟩⟩)⟩⟩)⟩⟩)⟩⟩)⟩⟩)⟩, rfl⟩


set_option maxHeartbeats 4000000 in
set_option maxRecDepth 100000 in
theorem x_kindOfManX (l : Launch) (g : Gx) (h0 : Nat) (xtpd : Int32) (th : Nat) (xfn : Int32) (xfp : Int32) (tp : Nat) (xen : Int32) (nm : Nat) (nd : Nat) (xkd : Int32) (xsta : Int32) (xpo : Int32) (xva : Int32) (xle : Int64) (xtk : Int32) (xta : Int32) (tpf : Nat → Int32) (hv_xsta : IV xsta 0 900) : cI l g yX9_kindOfMan cX9_kindOfMan 1 (some .int) 5 107 0 0 [.ref h0] [(cO9_i1r1i2r1i1r2i4l1i2 h0 xtpd th xfn xfp tp xen nm nd xkd xsta xpo xva xle xtk xta), (cAB g tp 900 tpf)] (fun r w => IV r (-1) 3 ∧ (R_x_kindOfManX xkd xsta xpo tpf r) ∧ w = [(cO9_i1r1i2r1i1r2i4l1i2 h0 xtpd th xfn xfp tp xen nm nd xkd xsta xpo xva xle xtk xta), (cAB g tp 900 tpf)]) := by
  refine cI.of (by decide) (Nat.le_of_ble_eq_true rfl) ?_
  intro p e s m args below meth c A X hr hi
  refine k_lveq [(0, .ref h0)] rfl ?_
  refine k_aload_n X dX9_kindOfMan_0 0 rfl ?_
  refine k_ldcS (tx := "clean") X dX9_kindOfMan_1 (by decide +kernel) (fun sr_1 hsr_1 => ?_)
  refine k_callVI (n := 1) (As := [.ref sr_1]) (st := []) X [(cO9_i1r1i2r1i1r2i4l1i2 h0 xtpd th xfn xfp tp xen nm nd xkd xsta xpo xva xle xtk xta), (cAB g tp 900 tpf)] [] [0, 1] [] (x_isX l g h0 sr_1 xtpd th xfn xfp tp xen nm nd xkd xsta xpo xva xle xtk xta tpf ("clean") (iv_w hv_xsta (by decide) (by decide)) hsr_1) dX9_kindOfMan_3 mw252 mw253 mw254 mw15 mw255 rfl 9 rfl rfl 0 _ rfl yk_yX9_is_1 rfl (Nat.le_of_ble_eq_true rfl) (Nat.le_of_ble_eq_true rfl) (Nat.le_of_ble_eq_true rfl) (Nat.le_of_ble_eq_true rfl) (Nat.le_of_ble_eq_true rfl) rfl rfl (by decide) rfl (by decide) (by decide) ?_
  rintro r_2 w ⟨iv_3, hq_4, rfl⟩
  refine k_ws [(cO9_i1r1i2r1i1r2i4l1i2 h0 xtpd th xfn xfp tp xen nm nd xkd xsta xpo xva xle xtk xta), (cAB g tp 900 tpf)] rfl ?_
  refine k_if_eq 11 X dX9_kindOfMan_6 (by decide) (fun h_5 => ?_) (fun h_5 => ?_)
  · skip
    have iv_6 : IV r_2 0 0 := iv_meet iv_3 (iv_e h_5 (show IV 0 0 0 from (by decide))) (by decide) (by decide)
    refine k_aload_n X dX9_kindOfMan_11 0 rfl ?_
    refine k_ldcS (tx := "early") X dX9_kindOfMan_12 (by decide +kernel) (fun sr_7 hsr_7 => ?_)
    refine k_callVI (n := 1) (As := [.ref sr_7]) (st := []) X [(cO9_i1r1i2r1i1r2i4l1i2 h0 xtpd th xfn xfp tp xen nm nd xkd xsta xpo xva xle xtk xta), (cAB g tp 900 tpf)] [] [0, 1] [] (x_isX l g h0 sr_7 xtpd th xfn xfp tp xen nm nd xkd xsta xpo xva xle xtk xta tpf ("early") (iv_w hv_xsta (by decide) (by decide)) hsr_7) dX9_kindOfMan_14 mw252 mw253 mw254 mw15 mw255 rfl 9 rfl rfl 0 _ rfl yk_yX9_is_1 rfl (Nat.le_of_ble_eq_true rfl) (Nat.le_of_ble_eq_true rfl) (Nat.le_of_ble_eq_true rfl) (Nat.le_of_ble_eq_true rfl) (Nat.le_of_ble_eq_true rfl) rfl rfl (by decide) rfl (by decide) (by decide) ?_
    rintro r_8 w ⟨iv_9, hq_10, rfl⟩
    refine k_ws [(cO9_i1r1i2r1i1r2i4l1i2 h0 xtpd th xfn xfp tp xen nm nd xkd xsta xpo xva xle xtk xta), (cAB g tp 900 tpf)] rfl ?_
    refine k_if_eq 22 X dX9_kindOfMan_17 (by decide) (fun h_11 => ?_) (fun h_11 => ?_)
    · skip
      have iv_12 : IV r_8 0 0 := iv_meet iv_9 (iv_e h_11 (show IV 0 0 0 from (by decide))) (by decide) (by decide)
      refine k_aload_n X dX9_kindOfMan_22 0 rfl ?_
      refine k_ldcS (tx := "late") X dX9_kindOfMan_23 (by decide +kernel) (fun sr_13 hsr_13 => ?_)
      refine k_callVI (n := 1) (As := [.ref sr_13]) (st := []) X [(cO9_i1r1i2r1i1r2i4l1i2 h0 xtpd th xfn xfp tp xen nm nd xkd xsta xpo xva xle xtk xta), (cAB g tp 900 tpf)] [] [0, 1] [] (x_isX l g h0 sr_13 xtpd th xfn xfp tp xen nm nd xkd xsta xpo xva xle xtk xta tpf ("late") (iv_w hv_xsta (by decide) (by decide)) hsr_13) dX9_kindOfMan_25 mw252 mw253 mw254 mw15 mw255 rfl 9 rfl rfl 0 _ rfl yk_yX9_is_1 rfl (Nat.le_of_ble_eq_true rfl) (Nat.le_of_ble_eq_true rfl) (Nat.le_of_ble_eq_true rfl) (Nat.le_of_ble_eq_true rfl) (Nat.le_of_ble_eq_true rfl) rfl rfl (by decide) rfl (by decide) (by decide) ?_
      rintro r_14 w ⟨iv_15, hq_16, rfl⟩
      refine k_ws [(cO9_i1r1i2r1i1r2i4l1i2 h0 xtpd th xfn xfp tp xen nm nd xkd xsta xpo xva xle xtk xta), (cAB g tp 900 tpf)] rfl ?_
      refine k_if_eq 33 X dX9_kindOfMan_28 (by decide) (fun h_17 => ?_) (fun h_17 => ?_)
      · skip
        have iv_18 : IV r_14 0 0 := iv_meet iv_15 (iv_e h_17 (show IV 0 0 0 from (by decide))) (by decide) (by decide)
        refine k_aload_n X dX9_kindOfMan_33 0 rfl ?_
        refine k_ldcwS (tx := "misled") X dX9_kindOfMan_34 (by decide +kernel) (fun sr_19 hsr_19 => ?_)
        refine k_callVI (n := 1) (As := [.ref sr_19]) (st := []) X [(cO9_i1r1i2r1i1r2i4l1i2 h0 xtpd th xfn xfp tp xen nm nd xkd xsta xpo xva xle xtk xta), (cAB g tp 900 tpf)] [] [0, 1] [] (x_isX l g h0 sr_19 xtpd th xfn xfp tp xen nm nd xkd xsta xpo xva xle xtk xta tpf ("misled") (iv_w hv_xsta (by decide) (by decide)) hsr_19) dX9_kindOfMan_37 mw252 mw253 mw254 mw15 mw255 rfl 9 rfl rfl 0 _ rfl yk_yX9_is_1 rfl (Nat.le_of_ble_eq_true rfl) (Nat.le_of_ble_eq_true rfl) (Nat.le_of_ble_eq_true rfl) (Nat.le_of_ble_eq_true rfl) (Nat.le_of_ble_eq_true rfl) rfl rfl (by decide) rfl (by decide) (by decide) ?_
        rintro r_20 w ⟨iv_21, hq_22, rfl⟩
        refine k_ws [(cO9_i1r1i2r1i1r2i4l1i2 h0 xtpd th xfn xfp tp xen nm nd xkd xsta xpo xva xle xtk xta), (cAB g tp 900 tpf)] rfl ?_
        refine k_if_eq 47 X dX9_kindOfMan_40 (by decide) (fun h_23 => ?_) (fun h_23 => ?_)
        · skip
          have iv_24 : IV r_20 0 0 := iv_meet iv_21 (iv_e h_23 (show IV 0 0 0 from (by decide))) (by decide) (by decide)
          refine k_iconst (v := -1) X dX9_kindOfMan_47 (by decide) ?_
          exact k_iret X hr dX9_kindOfMan_48 (Nat.le_of_ble_eq_true rfl) (Nat.le_of_ble_eq_true rfl) [0, 1] (by decide) rfl rfl ⟨(iv_w (show IV (-1) (-1) (-1) from (by decide)) (by decide) (by decide)), ⟨r_2, hq_4, (Or.inl ⟨h_5, ⟨r_8, hq_10, (Or.inl ⟨h_11, ⟨r_14, hq_16, (Or.inl ⟨h_17, ⟨r_20, hq_22, (Or.inl ⟨h_23, rfl⟩)⟩⟩)⟩⟩)⟩⟩)⟩, rfl⟩
        · skip
          have iv_25 : IV r_20 1 1 := iv_neL h_23 iv_21 (show IV 0 0 0 from (by decide)) (by decide)
          refine k_iconst (v := 3) X dX9_kindOfMan_43 (by decide) ?_
          refine k_goto 48 X dX9_kindOfMan_44 (by decide) ?_
          exact k_iret X hr dX9_kindOfMan_48 (Nat.le_of_ble_eq_true rfl) (Nat.le_of_ble_eq_true rfl) [0, 1] (by decide) rfl rfl ⟨(iv_w (show IV 3 3 3 from (by decide)) (by decide) (by decide)), ⟨r_2, hq_4, (Or.inl ⟨h_5, ⟨r_8, hq_10, (Or.inl ⟨h_11, ⟨r_14, hq_16, (Or.inl ⟨h_17, ⟨r_20, hq_22, (Or.inr ⟨h_23, rfl⟩)⟩⟩)⟩⟩)⟩⟩)⟩, rfl⟩
      · skip
        have iv_26 : IV r_14 1 1 := iv_neL h_17 iv_15 (show IV 0 0 0 from (by decide)) (by decide)
        refine k_iconst (v := 2) X dX9_kindOfMan_31 (by decide) ?_
        exact k_iret X hr dX9_kindOfMan_32 (Nat.le_of_ble_eq_true rfl) (Nat.le_of_ble_eq_true rfl) [0, 1] (by decide) rfl rfl ⟨(iv_w (show IV 2 2 2 from (by decide)) (by decide) (by decide)), ⟨r_2, hq_4, (Or.inl ⟨h_5, ⟨r_8, hq_10, (Or.inl ⟨h_11, ⟨r_14, hq_16, (Or.inr ⟨h_17, rfl⟩)⟩⟩)⟩⟩)⟩, rfl⟩
    · skip
      have iv_27 : IV r_8 1 1 := iv_neL h_11 iv_9 (show IV 0 0 0 from (by decide)) (by decide)
      refine k_iconst (v := 1) X dX9_kindOfMan_20 (by decide) ?_
      exact k_iret X hr dX9_kindOfMan_21 (Nat.le_of_ble_eq_true rfl) (Nat.le_of_ble_eq_true rfl) [0, 1] (by decide) rfl rfl ⟨(iv_w (show IV 1 1 1 from (by decide)) (by decide) (by decide)), ⟨r_2, hq_4, (Or.inl ⟨h_5, ⟨r_8, hq_10, (Or.inr ⟨h_11, rfl⟩)⟩⟩)⟩, rfl⟩
  · skip
    have iv_28 : IV r_2 1 1 := iv_neL h_5 iv_3 (show IV 0 0 0 from (by decide)) (by decide)
    refine k_iconst (v := 0) X dX9_kindOfMan_9 (by decide) ?_
    exact k_iret X hr dX9_kindOfMan_10 (Nat.le_of_ble_eq_true rfl) (Nat.le_of_ble_eq_true rfl) [0, 1] (by decide) rfl rfl ⟨(iv_w (show IV 0 0 0 from (by decide)) (by decide) (by decide)), ⟨r_2, hq_4, (Or.inr ⟨h_5, rfl⟩)⟩, rfl⟩


set_option maxHeartbeats 4000000 in
set_option maxRecDepth 100000 in
theorem x_isLabelX (l : Launch) (g : Gx) (h0 : Nat) (sa : Nat) (xtpd : Int32) (th : Nat) (xfn : Int32) (xfp : Int32) (tp : Nat) (xen : Int32) (nm : Nat) (nd : Nat) (xkd : Int32) (xsta : Int32) (xpo : Int32) (xva : Int32) (xle : Int64) (xtk : Int32) (xta : Int32) (tpf : Nat → Int32) (tx_sa : String) (hv_xen : IV xen 0 900) (hv_xsta : IV xsta 0 900) (hv_xpo : IV xpo 0 900) (hp_sa : LtS g sa tx_sa) : cI l g yX9_isLabel cX9_isLabel 2 (some .boolean) 5 107 0 0 [.ref h0, .ref sa] [(cO9_i1r1i2r1i1r2i4l1i2 h0 xtpd th xfn xfp tp xen nm nd xkd xsta xpo xva xle xtk xta), (cAB g tp 900 tpf)] (fun r w => ∃ (xfn2 : Int32) (xfp2 : Int32) (xkd2 : Int32) (xsta2 : Int32) (xpo2 : Int32) (xva2 : Int32) (xle2 : Int64), IV xsta2 0 900 ∧ IV xpo2 0 900 ∧ IV r 0 1 ∧ (R_x_isLabelX xfn xfp xen xkd xsta xpo xva xle tpf tx_sa xfn2 xfp2 xkd2 xsta2 xpo2 xva2 xle2 r) ∧ w = [(cO9_i1r1i2r1i1r2i4l1i2 h0 xtpd th xfn2 xfp2 tp xen nm nd xkd2 xsta2 xpo2 xva2 xle2 xtk xta), (cAB g tp 900 tpf)]) := by
  refine cI.of (by decide) (Nat.le_of_ble_eq_true rfl) ?_
  intro p e s m args below meth c A X hr hi
  refine k_lveq [(0, .ref h0), (1, .ref sa)] rfl ?_
  refine k_aload_n X dX9_isLabel_0 0 rfl ?_
  refine k_aload_n X dX9_isLabel_1 1 rfl ?_
  refine k_callVI (n := 1) (As := [.ref sa]) (st := []) X [(cO9_i1r1i2r1i1r2i4l1i2 h0 xtpd th xfn xfp tp xen nm nd xkd xsta xpo xva xle xtk xta), (cAB g tp 900 tpf)] [] [0, 1] [] (x_isX l g h0 sa xtpd th xfn xfp tp xen nm nd xkd xsta xpo xva xle xtk xta tpf tx_sa (iv_w hv_xsta (by decide) (by decide)) hp_sa) dX9_isLabel_2 mw252 mw253 mw254 mw15 mw255 rfl 9 rfl rfl 0 _ rfl yk_yX9_is_1 rfl (Nat.le_of_ble_eq_true rfl) (Nat.le_of_ble_eq_true rfl) (Nat.le_of_ble_eq_true rfl) (Nat.le_of_ble_eq_true rfl) (Nat.le_of_ble_eq_true rfl) rfl rfl (by decide) rfl (by decide) (by decide) ?_
  rintro r_1 w ⟨iv_2, hq_3, rfl⟩
  refine k_ws [(cO9_i1r1i2r1i1r2i4l1i2 h0 xtpd th xfn xfp tp xen nm nd xkd xsta xpo xva xle xtk xta), (cAB g tp 900 tpf)] rfl ?_
  refine k_if_ne 18 X dX9_isLabel_5 (by decide) (fun h_4 => ?_) (fun h_4 => ?_)
  · skip
    have iv_5 : IV r_1 1 1 := iv_neL h_4 iv_2 (show IV 0 0 0 from (by decide)) (by decide)
    refine k_aload_n X dX9_isLabel_18 0 rfl ?_
    refine k_callVV (n := 0) (As := []) (st := []) X [(cO9_i1r1i2r1i1r2i4l1i2 h0 xtpd th xfn xfp tp xen nm nd xkd xsta xpo xva xle xtk xta), (cAB g tp 900 tpf)] [] [0, 1] [] (x_nextX l g h0 xtpd th xfn xfp tp xen nm nd xkd xsta xpo xva xle xtk xta tpf (iv_w hv_xen (by decide) (by decide)) (iv_w hv_xpo (by decide) (by decide))) dX9_isLabel_19 mw237 mw238 mw239 mw15 mw240 rfl 9 rfl rfl 0 _ rfl yk_yX9_next_0 rfl (Nat.le_of_ble_eq_true rfl) (Nat.le_of_ble_eq_true rfl) (Nat.le_of_ble_eq_true rfl) (Nat.le_of_ble_eq_true rfl) (Nat.le_of_ble_eq_true rfl) rfl rfl (by decide) rfl (by decide) (by decide) ?_
    rintro w ⟨xkd2_6, xsta2_7, xpo2_8, xva2_9, xle2_10, iv_12, iv_13, iv_14, hq_15, rfl⟩
    refine k_ws [(cO9_i1r1i2r1i1r2i4l1i2 h0 xtpd th xfn xfp tp xen nm nd xkd2_6 xsta2_7 xpo2_8 xva2_9 xle2_10 xtk xta), (cAB g tp 900 tpf)] rfl ?_
    refine k_iconst (v := 1) X dX9_isLabel_22 (by decide) ?_
    exact k_zret X hr (by first | rfl | decide) dX9_isLabel_23 (Nat.le_of_ble_eq_true rfl) (Nat.le_of_ble_eq_true rfl) [0, 1] (by decide) rfl rfl ⟨xfn, xfp, xkd2_6, xsta2_7, xpo2_8, xva2_9, xle2_10, (iv_w iv_12 (by decide) (by decide)), (iv_w iv_13 (by decide) (by decide)), (iv_w (show IV 1 1 1 from (by decide)) (by decide) (by decide)), ⟨r_1, hq_3, (Or.inl ⟨h_4, ⟨xkd2_6, xsta2_7, xpo2_8, xva2_9, xle2_10, hq_15, ⟨rfl, rfl, rfl, rfl, rfl, rfl, rfl, rfl⟩⟩⟩)⟩, rfl⟩
  · skip
    have iv_16 : IV r_1 0 0 := iv_meet iv_2 (iv_e h_4 (show IV 0 0 0 from (by decide))) (by decide) (by decide)
    refine k_aload_n X dX9_isLabel_8 0 rfl ?_
    refine k_iconst (v := 1) X dX9_isLabel_9 (by decide) ?_
    refine k_aload_n X dX9_isLabel_10 0 rfl ?_
    refine k_get (ci := 9) X inlX9 rfl 9 (by decide) dX9_isLabel_11 mw67 0 rfl rfl ?_
    refine k_callVI (n := 2) (As := [.int 1, .int xsta]) (st := []) X [(cO9_i1r1i2r1i1r2i4l1i2 h0 xtpd th xfn xfp tp xen nm nd xkd xsta xpo xva xle xtk xta), (cAB g tp 900 tpf)] [] [0, 1] [] (x_refuseAtX l g h0 1 xsta xtpd th xfn xfp tp xen nm nd xkd xsta xpo xva xle xtk xta tpf) dX9_isLabel_14 mw309 mw310 mw311 mw15 mw312 rfl 9 rfl rfl 0 _ rfl yk_yX9_refuseAt_2 rfl (Nat.le_of_ble_eq_true rfl) (Nat.le_of_ble_eq_true rfl) (Nat.le_of_ble_eq_true rfl) (Nat.le_of_ble_eq_true rfl) (Nat.le_of_ble_eq_true rfl) rfl rfl (by decide) rfl (by decide) (by decide) ?_
    rintro r_19 w ⟨xfn2_17, xfp2_18, iv_20, hq_21, rfl⟩
    refine k_ws [(cO9_i1r1i2r1i1r2i4l1i2 h0 xtpd th xfn2_17 xfp2_18 tp xen nm nd xkd xsta xpo xva xle xtk xta), (cAB g tp 900 tpf)] rfl ?_
    exact k_zret X hr (zn_b (iv_w iv_20 (by decide) (by decide))) dX9_isLabel_17 (Nat.le_of_ble_eq_true rfl) (Nat.le_of_ble_eq_true rfl) [0, 1] (by decide) rfl rfl ⟨xfn2_17, xfp2_18, xkd, xsta, xpo, xva, xle, (iv_w hv_xsta (by decide) (by decide)), (iv_w hv_xpo (by decide) (by decide)), (iv_w iv_20 (by decide) (by decide)), ⟨r_1, hq_3, (Or.inr ⟨h_4, ⟨xfn2_17, xfp2_18, r_19, hq_21, ⟨rfl, rfl, rfl, rfl, rfl, rfl, rfl, rfl⟩⟩⟩)⟩, rfl⟩


set_option maxHeartbeats 4000000 in
set_option maxRecDepth 100000 in
theorem x_isWholeX (l : Launch) (g : Gx) (h0 : Nat) (p0 : Int32) (p1 : Int32) (xtpd : Int32) (th : Nat) (xfn : Int32) (xfp : Int32) (tp : Nat) (xen : Int32) (nm : Nat) (nd : Nat) (xkd : Int32) (xsta : Int32) (xpo : Int32) (xva : Int32) (xle : Int64) (xtk : Int32) (xta : Int32) (tpf : Nat → Int32) (hv_xen : IV xen 0 900) (hv_xsta : IV xsta 0 900) (hv_xpo : IV xpo 0 900) : cI l g yX9_isWhole cX9_isWhole 3 (some .boolean) 2 42 0 0 [.ref h0, .int p0, .int p1] [(cO9_i1r1i2r1i1r2i4l1i2 h0 xtpd th xfn xfp tp xen nm nd xkd xsta xpo xva xle xtk xta), (cAB g tp 900 tpf)] (fun r w => ∃ (xfn2 : Int32) (xfp2 : Int32) (xkd2 : Int32) (xsta2 : Int32) (xpo2 : Int32) (xva2 : Int32) (xle2 : Int64) (xtk2 : Int32) (xta2 : Int32), IV xsta2 0 900 ∧ IV xpo2 0 900 ∧ IV r 0 1 ∧ (R_x_isWholeX p0 p1 xfn xfp xen xkd xsta xpo xva xle xtk xta tpf xfn2 xfp2 xkd2 xsta2 xpo2 xva2 xle2 xtk2 xta2 r) ∧ w = [(cO9_i1r1i2r1i1r2i4l1i2 h0 xtpd th xfn2 xfp2 tp xen nm nd xkd2 xsta2 xpo2 xva2 xle2 xtk2 xta2), (cAB g tp 900 tpf)]) := by
  refine cI.of (by decide) (Nat.le_of_ble_eq_true rfl) ?_
  intro p e s m args below meth c A X hr hi
  refine k_lveq [(0, .ref h0), (1, .int p0), (2, .int p1)] rfl ?_
  refine k_aload_n X dX9_isWhole_0 0 rfl ?_
  refine k_get (ci := 9) X inlX9 rfl 8 (by decide) dX9_isWhole_1 mw66 0 rfl rfl ?_
  refine k_iconst (v := 2) X dX9_isWhole_4 (by decide) ?_
  refine k_ic_eq 18 X dX9_isWhole_5 (by decide) (fun h_1 => ?_) (fun h_1 => ?_)
  · skip
    have iv_2 : IV xkd 2 2 := iv_meet (iv_any xkd) (iv_e h_1 (show IV 2 2 2 from (by decide))) (by decide) (by decide)
    refine k_aload_n X dX9_isWhole_18 0 rfl ?_
    refine k_get (ci := 9) X inlX9 rfl 11 (by decide) dX9_isWhole_19 mw69 0 rfl rfl ?_
    refine k_iload_n X dX9_isWhole_22 1 rfl ?_
    refine k_ic_lt 34 X dX9_isWhole_23 (by decide) (fun h_3 => ?_) (fun h_3 => ?_)
    · skip
      have j_4 : xva.toInt < p0.toInt := iv_lt h_3
      have iv_5 : IV xva (-2147483648) 2147483646 := iv_ltL (iv_lt h_3) (iv_any xva) (iv_any p0) (by decide)
      have iv_6 : IV p0 (-2147483647) 2147483647 := iv_ltR (iv_lt h_3) (iv_any xva) (iv_any p0) (by decide)
      refine k_aload_n X dX9_isWhole_34 0 rfl ?_
      refine k_iconst (v := 4) X dX9_isWhole_35 (by decide) ?_
      refine k_aload_n X dX9_isWhole_36 0 rfl ?_
      refine k_get (ci := 9) X inlX9 rfl 9 (by decide) dX9_isWhole_37 mw67 0 rfl rfl ?_
      refine k_callVI (n := 2) (As := [.int 4, .int xsta]) (st := []) X [(cO9_i1r1i2r1i1r2i4l1i2 h0 xtpd th xfn xfp tp xen nm nd xkd xsta xpo xva xle xtk xta), (cAB g tp 900 tpf)] [] [0, 1] [] (x_refuseAtX l g h0 4 xsta xtpd th xfn xfp tp xen nm nd xkd xsta xpo xva xle xtk xta tpf) dX9_isWhole_40 mw309 mw310 mw311 mw15 mw312 rfl 9 rfl rfl 0 _ rfl yk_yX9_refuseAt_2 rfl (Nat.le_of_ble_eq_true rfl) (Nat.le_of_ble_eq_true rfl) (Nat.le_of_ble_eq_true rfl) (Nat.le_of_ble_eq_true rfl) (Nat.le_of_ble_eq_true rfl) rfl rfl (by decide) rfl (by decide) (by decide) ?_
      rintro r_9 w ⟨xfn2_7, xfp2_8, iv_10, hq_11, rfl⟩
      refine k_ws [(cO9_i1r1i2r1i1r2i4l1i2 h0 xtpd th xfn2_7 xfp2_8 tp xen nm nd xkd xsta xpo xva xle xtk xta), (cAB g tp 900 tpf)] rfl ?_
      exact k_zret X hr (zn_b (iv_w iv_10 (by decide) (by decide))) dX9_isWhole_43 (Nat.le_of_ble_eq_true rfl) (Nat.le_of_ble_eq_true rfl) [0, 1] (by decide) rfl rfl ⟨xfn2_7, xfp2_8, xkd, xsta, xpo, xva, xle, xtk, xta, (iv_w hv_xsta (by decide) (by decide)), (iv_w hv_xpo (by decide) (by decide)), (iv_w iv_10 (by decide) (by decide)), (Or.inl ⟨h_1, (Or.inl ⟨h_3, ⟨xfn2_7, xfp2_8, r_9, hq_11, ⟨rfl, rfl, rfl, rfl, rfl, rfl, rfl, rfl, rfl, rfl⟩⟩⟩)⟩), rfl⟩
    · skip
      have j_12 : p0.toInt ≤ xva.toInt := iv_nlt h_3
      refine k_aload_n X dX9_isWhole_26 0 rfl ?_
      refine k_get (ci := 9) X inlX9 rfl 11 (by decide) dX9_isWhole_27 mw69 0 rfl rfl ?_
      refine k_iload_n X dX9_isWhole_30 2 rfl ?_
      refine k_ic_le 44 X dX9_isWhole_31 (by decide) (fun h_13 => ?_) (fun h_13 => ?_)
      · skip
        have j_14 : xva.toInt ≤ p1.toInt := iv_le h_13
        refine k_aload_n X dX9_isWhole_44 0 rfl ?_
        refine k_aload_n X dX9_isWhole_45 0 rfl ?_
        refine k_get (ci := 9) X inlX9 rfl 11 (by decide) dX9_isWhole_46 mw69 0 rfl rfl ?_
        refine k_put (ci := 9) [(cO9_i1r1i2r1i1r2i4l1i2 h0 xtpd th xfn xfp tp xen nm nd xkd xsta xpo xva xle xva xta), (cAB g tp 900 tpf)] X inlX9 rfl tyX9_ok nmX9 13 (by decide) rfl dX9_isWhole_49 mw71 0 rfl rfl rfl (Nat.le_of_ble_eq_true rfl) rfl ?_
        refine k_aload_n X dX9_isWhole_52 0 rfl ?_
        refine k_aload_n X dX9_isWhole_53 0 rfl ?_
        refine k_get (ci := 9) X inlX9 rfl 9 (by decide) dX9_isWhole_54 mw67 0 rfl rfl ?_
        refine k_put (ci := 9) [(cO9_i1r1i2r1i1r2i4l1i2 h0 xtpd th xfn xfp tp xen nm nd xkd xsta xpo xva xle xva xsta), (cAB g tp 900 tpf)] X inlX9 rfl tyX9_ok nmX9 14 (by decide) rfl dX9_isWhole_57 mw72 0 rfl rfl rfl (Nat.le_of_ble_eq_true rfl) rfl ?_
        refine k_aload_n X dX9_isWhole_60 0 rfl ?_
        refine k_callVV (n := 0) (As := []) (st := []) X [(cO9_i1r1i2r1i1r2i4l1i2 h0 xtpd th xfn xfp tp xen nm nd xkd xsta xpo xva xle xva xsta), (cAB g tp 900 tpf)] [] [0, 1] [] (x_nextX l g h0 xtpd th xfn xfp tp xen nm nd xkd xsta xpo xva xle xva xsta tpf (iv_w hv_xen (by decide) (by decide)) (iv_w hv_xpo (by decide) (by decide))) dX9_isWhole_61 mw237 mw238 mw239 mw15 mw240 rfl 9 rfl rfl 0 _ rfl yk_yX9_next_0 rfl (Nat.le_of_ble_eq_true rfl) (Nat.le_of_ble_eq_true rfl) (Nat.le_of_ble_eq_true rfl) (Nat.le_of_ble_eq_true rfl) (Nat.le_of_ble_eq_true rfl) rfl rfl (by decide) rfl (by decide) (by decide) ?_
        rintro w ⟨xkd2_15, xsta2_16, xpo2_17, xva2_18, xle2_19, iv_21, iv_22, iv_23, hq_24, rfl⟩
        refine k_ws [(cO9_i1r1i2r1i1r2i4l1i2 h0 xtpd th xfn xfp tp xen nm nd xkd2_15 xsta2_16 xpo2_17 xva2_18 xle2_19 xva xsta), (cAB g tp 900 tpf)] rfl ?_
        refine k_iconst (v := 1) X dX9_isWhole_64 (by decide) ?_
        exact k_zret X hr (by first | rfl | decide) dX9_isWhole_65 (Nat.le_of_ble_eq_true rfl) (Nat.le_of_ble_eq_true rfl) [0, 1] (by decide) rfl rfl ⟨xfn, xfp, xkd2_15, xsta2_16, xpo2_17, xva2_18, xle2_19, xva, xsta, (iv_w iv_21 (by decide) (by decide)), (iv_w iv_22 (by decide) (by decide)), (iv_w (show IV 1 1 1 from (by decide)) (by decide) (by decide)), (Or.inl ⟨h_1, (Or.inr ⟨h_3, (Or.inl ⟨h_13, ⟨xkd2_15, xsta2_16, xpo2_17, xva2_18, xle2_19, hq_24, ⟨rfl, rfl, rfl, rfl, rfl, rfl, rfl, rfl, rfl, rfl⟩⟩⟩)⟩)⟩), rfl⟩
      · skip
        have j_25 : p1.toInt < xva.toInt := iv_nle h_13
        have iv_26 : IV p1 (-2147483648) 2147483646 := iv_ltL (iv_nle h_13) (iv_any p1) (iv_any xva) (by decide)
        have iv_27 : IV xva (-2147483647) 2147483647 := iv_ltR (iv_nle h_13) (iv_any p1) (iv_any xva) (by decide)
        refine k_aload_n X dX9_isWhole_34 0 rfl ?_
        refine k_iconst (v := 4) X dX9_isWhole_35 (by decide) ?_
        refine k_aload_n X dX9_isWhole_36 0 rfl ?_
        refine k_get (ci := 9) X inlX9 rfl 9 (by decide) dX9_isWhole_37 mw67 0 rfl rfl ?_
        refine k_callVI (n := 2) (As := [.int 4, .int xsta]) (st := []) X [(cO9_i1r1i2r1i1r2i4l1i2 h0 xtpd th xfn xfp tp xen nm nd xkd xsta xpo xva xle xtk xta), (cAB g tp 900 tpf)] [] [0, 1] [] (x_refuseAtX l g h0 4 xsta xtpd th xfn xfp tp xen nm nd xkd xsta xpo xva xle xtk xta tpf) dX9_isWhole_40 mw309 mw310 mw311 mw15 mw312 rfl 9 rfl rfl 0 _ rfl yk_yX9_refuseAt_2 rfl (Nat.le_of_ble_eq_true rfl) (Nat.le_of_ble_eq_true rfl) (Nat.le_of_ble_eq_true rfl) (Nat.le_of_ble_eq_true rfl) (Nat.le_of_ble_eq_true rfl) rfl rfl (by decide) rfl (by decide) (by decide) ?_
        rintro r_30 w ⟨xfn2_28, xfp2_29, iv_31, hq_32, rfl⟩
        refine k_ws [(cO9_i1r1i2r1i1r2i4l1i2 h0 xtpd th xfn2_28 xfp2_29 tp xen nm nd xkd xsta xpo xva xle xtk xta), (cAB g tp 900 tpf)] rfl ?_
        exact k_zret X hr (zn_b (iv_w iv_31 (by decide) (by decide))) dX9_isWhole_43 (Nat.le_of_ble_eq_true rfl) (Nat.le_of_ble_eq_true rfl) [0, 1] (by decide) rfl rfl ⟨xfn2_28, xfp2_29, xkd, xsta, xpo, xva, xle, xtk, xta, (iv_w hv_xsta (by decide) (by decide)), (iv_w hv_xpo (by decide) (by decide)), (iv_w iv_31 (by decide) (by decide)), (Or.inl ⟨h_1, (Or.inr ⟨h_3, (Or.inr ⟨h_13, ⟨xfn2_28, xfp2_29, r_30, hq_32, ⟨rfl, rfl, rfl, rfl, rfl, rfl, rfl, rfl, rfl, rfl⟩⟩⟩)⟩)⟩), rfl⟩
  · skip
    refine k_aload_n X dX9_isWhole_8 0 rfl ?_
    refine k_iconst (v := 1) X dX9_isWhole_9 (by decide) ?_
    refine k_aload_n X dX9_isWhole_10 0 rfl ?_
    refine k_get (ci := 9) X inlX9 rfl 9 (by decide) dX9_isWhole_11 mw67 0 rfl rfl ?_
    refine k_callVI (n := 2) (As := [.int 1, .int xsta]) (st := []) X [(cO9_i1r1i2r1i1r2i4l1i2 h0 xtpd th xfn xfp tp xen nm nd xkd xsta xpo xva xle xtk xta), (cAB g tp 900 tpf)] [] [0, 1] [] (x_refuseAtX l g h0 1 xsta xtpd th xfn xfp tp xen nm nd xkd xsta xpo xva xle xtk xta tpf) dX9_isWhole_14 mw309 mw310 mw311 mw15 mw312 rfl 9 rfl rfl 0 _ rfl yk_yX9_refuseAt_2 rfl (Nat.le_of_ble_eq_true rfl) (Nat.le_of_ble_eq_true rfl) (Nat.le_of_ble_eq_true rfl) (Nat.le_of_ble_eq_true rfl) (Nat.le_of_ble_eq_true rfl) rfl rfl (by decide) rfl (by decide) (by decide) ?_
    rintro r_35 w ⟨xfn2_33, xfp2_34, iv_36, hq_37, rfl⟩
    refine k_ws [(cO9_i1r1i2r1i1r2i4l1i2 h0 xtpd th xfn2_33 xfp2_34 tp xen nm nd xkd xsta xpo xva xle xtk xta), (cAB g tp 900 tpf)] rfl ?_
    exact k_zret X hr (zn_b (iv_w iv_36 (by decide) (by decide))) dX9_isWhole_17 (Nat.le_of_ble_eq_true rfl) (Nat.le_of_ble_eq_true rfl) [0, 1] (by decide) rfl rfl ⟨xfn2_33, xfp2_34, xkd, xsta, xpo, xva, xle, xtk, xta, (iv_w hv_xsta (by decide) (by decide)), (iv_w hv_xpo (by decide) (by decide)), (iv_w iv_36 (by decide) (by decide)), (Or.inr ⟨h_1, ⟨xfn2_33, xfp2_34, r_35, hq_37, ⟨rfl, rfl, rfl, rfl, rfl, rfl, rfl, rfl, rfl, rfl⟩⟩⟩), rfl⟩


set_option maxHeartbeats 4000000 in
set_option maxRecDepth 100000 in
theorem x_findNameX (l : Launch) (g : Gx) (h0 : Nat) (xtpd : Int32) (th : Nat) (xfn : Int32) (xfp : Int32) (tp : Nat) (xen : Int32) (nm : Nat) (nd : Nat) (xkd : Int32) (xsta : Int32) (xpo : Int32) (xva : Int32) (xle : Int64) (xtk : Int32) (xta : Int32) (tpf : Nat → Int32) (nmf : Nat → Int64) (ndc : Nat) (ndn : Int32) (ndf : Nat → Int32) : cI l g yX9_findName cX9_findName 2 (some .int) 0 0 0 0 [.ref h0] [(cO9_i1r1i2r1i1r2i4l1i2 h0 xtpd th xfn xfp tp xen nm nd xkd xsta xpo xva xle xtk xta), (cAB g tp 900 tpf), (cAJ g nm 16 nmf), (cO8_iiri nd 16 2 ndc ndn), (cAI g ndc 32 ndf)] (fun r w => (R_x_findNameX xle nmf ndn r) ∧ w = [(cO9_i1r1i2r1i1r2i4l1i2 h0 xtpd th xfn xfp tp xen nm nd xkd xsta xpo xva xle xtk xta), (cAB g tp 900 tpf), (cAJ g nm 16 nmf), (cO8_iiri nd 16 2 ndc ndn), (cAI g ndc 32 ndf)]) := by
  refine cI.of (by decide) (Nat.le_of_ble_eq_true rfl) ?_
  intro p e s m args below meth c A X hr hi
  refine k_lveq [(0, .ref h0)] rfl ?_
  refine k_iconst (v := 0) X dX9_findName_0 (by decide) ?_
  refine k_istore_n [(1, .int 0), (0, .ref h0)] X dX9_findName_1 (by decide) rfl ?_
  refine (fun hL : ∀ (nn_3 : Nat) (u_1 : Int32), (ndn.toInt - u_1.toInt).toNat = nn_3 → (IV u_1 0 255) → (∀ (r : Int32), (∃ n_0 : Nat, R_x_findNameX_L0 xle nmf ndn r (r = (-1)) (r = (-1)) n_0 u_1) → R_x_findNameX xle nmf ndn r) → Wk p l e _ s m args below meth c _ A g _ _ _ [(cO9_i1r1i2r1i1r2i4l1i2 h0 xtpd th xfn xfp tp xen nm nd xkd xsta xpo xva xle xtk xta), (cAB g tp 900 tpf), (cAJ g nm 16 nmf), (cO8_iiri nd 16 2 ndc ndn), (cAI g ndc 32 ndf)] [(1, .int u_1), (0, .ref h0)] 2 [] => hL _ 0 rfl (iv_w (show IV 0 0 0 from (by decide)) (by decide) (by decide)) (fun r h => h)) ?_
  refine fun nn_3 => Nat.strongRecOn nn_3 (fun nn_3 ih_5 => ?_)
  intro u_1 hm_4 hv_2 KH_0
  refine k_iload_n X dX9_findName_2 0 rfl ?_
  refine k_aload_n X dX9_findName_3 1 rfl ?_
  refine k_get (ci := 9) X inlX9 rfl 7 (by decide) dX9_findName_4 mw65 0 rfl rfl ?_
  refine k_get (ci := 8) X inlX8 rfl 3 (by decide) dX9_findName_7 mw251 3 rfl rfl ?_
  refine k_ic_ge 44 X dX9_findName_10 (by decide) (fun h_6 => ?_) (fun h_6 => ?_)
  · skip
    have j_7 : ndn.toInt ≤ u_1.toInt := iv_le h_6
    have iv_8 : IV ndn (-2147483648) 255 := iv_leL (iv_le h_6) (iv_any ndn) hv_2 (by decide)
    refine k_iconst (v := -1) X dX9_findName_44 (by decide) ?_
    exact k_iret X hr dX9_findName_45 (Nat.le_of_ble_eq_true rfl) (Nat.le_of_ble_eq_true rfl) [0, 1, 2, 3, 4] (by decide) rfl rfl ⟨(KH_0 _ ⟨0 + 1, (Or.inl ⟨h_6, rfl⟩)⟩), rfl⟩
  · skip
    have j_9 : u_1.toInt < ndn.toInt := iv_nle h_6
    have iv_10 : IV ndn 1 2147483647 := iv_ltR (iv_nle h_6) hv_2 (iv_any ndn) (by decide)
    refine k_iload_n X dX9_findName_13 0 rfl ?_
    refine k_aload_n X dX9_findName_14 1 rfl ?_
    refine k_get (ci := 9) X inlX9 rfl 6 (by decide) dX9_findName_15 mw61 0 rfl rfl ?_
    refine k_alen 16 2 X dX9_findName_18 2 rfl rfl (by show Int32.ofNat 16 = 16; decide) ?_
    refine k_ic_ge 44 X dX9_findName_19 (by decide) (fun h_11 => ?_) (fun h_11 => ?_)
    · skip
      have j_12 : 16 ≤ u_1.toInt := iv_le h_11
      have iv_13 : IV u_1 16 255 := iv_leR (iv_le h_11) (show IV 16 16 16 from (by decide)) hv_2 (by decide)
      refine k_iconst (v := -1) X dX9_findName_44 (by decide) ?_
      exact k_iret X hr dX9_findName_45 (Nat.le_of_ble_eq_true rfl) (Nat.le_of_ble_eq_true rfl) [0, 1, 2, 3, 4] (by decide) rfl rfl ⟨(KH_0 _ ⟨0 + 1, (Or.inr ⟨h_6, (Or.inl ⟨h_11, rfl⟩)⟩)⟩), rfl⟩
    · skip
      have j_14 : u_1.toInt < 16 := iv_nle h_11
      have iv_15 : IV u_1 0 15 := iv_ltL (iv_nle h_11) hv_2 (show IV 16 16 16 from (by decide)) (by decide)
      refine k_aload_n X dX9_findName_22 1 rfl ?_
      refine k_get (ci := 9) X inlX9 rfl 6 (by decide) dX9_findName_23 mw61 0 rfl rfl ?_
      refine k_iload_n X dX9_findName_26 0 rfl ?_
      refine k_lald X dX9_findName_27 2 rfl (iv_in iv_15 (by decide) (by decide)) ?_
      refine k_nmL (fun y_16 ey_16 => ?_)
      refine k_aload_n X dX9_findName_28 1 rfl ?_
      refine k_get (ci := 9) X inlX9 rfl 12 (by decide) dX9_findName_29 mw70 0 rfl rfl ?_
      refine k_lcmp X dX9_findName_32 ?_
      refine k_nm (fun z_17 ez_17 => ?_)
      refine k_if_ne 38 X dX9_findName_33 (by decide) (fun h_18 => ?_) (fun h_18 => ?_)
      · skip
        obtain ⟨z_19, ez_19⟩ : ∃ y : Int32, u_1 + Int32.ofInt 1 = y := ⟨_, rfl⟩
        refine k_iinc z_19 [(1, .int z_19), (0, .ref h0)] 0 X dX9_findName_38 rfl ez_19 (by decide) rfl ?_
        have i_20 : z_19.toInt = u_1.toInt + 1 := in_inc ez_19 (by decide) iv_15 (by decide) (by decide)
        have iv_21 : IV z_19 1 16 := iz1 i_20 iv_15 (by decide) (by decide)
        refine k_goto 2 X dX9_findName_41 (by decide) ?_
        exact ih_5 _ (by omega) z_19 rfl (iv_w iv_21 (by decide) (by decide)) (fun r h => h.elim (fun n_0 q => (KH_0 _ ⟨n_0 + 1, (Or.inr ⟨h_6, (Or.inr ⟨h_11, ⟨y_16, ey_16, ⟨z_17, ez_17, (Or.inl ⟨h_18, ⟨z_19, ez_19, q⟩⟩)⟩⟩⟩)⟩)⟩)))
      · skip
        have iv_22 : IV z_17 0 0 := iv_meet (iv_any z_17) (iv_e h_18 (show IV 0 0 0 from (by decide))) (by decide) (by decide)
        refine k_iload_n X dX9_findName_36 0 rfl ?_
        exact k_iret X hr dX9_findName_37 (Nat.le_of_ble_eq_true rfl) (Nat.le_of_ble_eq_true rfl) [0, 1, 2, 3, 4] (by decide) rfl rfl ⟨(KH_0 _ ⟨0 + 1, (Or.inr ⟨h_6, (Or.inr ⟨h_11, ⟨y_16, ey_16, ⟨z_17, ez_17, (Or.inr ⟨h_18, rfl⟩)⟩⟩⟩)⟩)⟩), rfl⟩


set_option maxHeartbeats 4000000 in
set_option maxRecDepth 100000 in
theorem x_isNewNameX (l : Launch) (g : Gx) (h0 : Nat) (p0 : Int32) (p1 : Int32) (xtpd : Int32) (th : Nat) (xfn : Int32) (xfp : Int32) (tp : Nat) (xen : Int32) (nm : Nat) (nd : Nat) (xkd : Int32) (xsta : Int32) (xpo : Int32) (xva : Int32) (xle : Int64) (xtk : Int32) (xta : Int32) (tpf : Nat → Int32) (nmf : Nat → Int64) (ndc : Nat) (ndn : Int32) (ndf : Nat → Int32) (hv_xen : IV xen 0 900) (hv_xsta : IV xsta 0 900) (hv_xpo : IV xpo 0 900) : cI l g yX9_isNewName cX9_isNewName 4 (some .boolean) 6 127 0 0 [.ref h0, .int p0, .int p1] [(cO9_i1r1i2r1i1r2i4l1i2 h0 xtpd th xfn xfp tp xen nm nd xkd xsta xpo xva xle xtk xta), (cAB g tp 900 tpf), (cAJ g nm 16 nmf), (cO8_iiri nd 16 2 ndc ndn), (cAI g ndc 32 ndf)] (fun r w => ∃ (xfn2 : Int32) (xfp2 : Int32) (xkd2 : Int32) (xsta2 : Int32) (xpo2 : Int32) (xva2 : Int32) (xle2 : Int64) (nmfg : Nat → Int64) (ndfg : Nat → Int32) (ndnk : Int32), IV xsta2 0 900 ∧ IV xpo2 0 900 ∧ IV r 0 1 ∧ (R_x_isNewNameX p0 p1 xfn xfp xen xkd xsta xpo xva xle tpf nmf ndn ndf xfn2 xfp2 xkd2 xsta2 xpo2 xva2 xle2 nmfg ndfg ndnk r) ∧ w = [(cO9_i1r1i2r1i1r2i4l1i2 h0 xtpd th xfn2 xfp2 tp xen nm nd xkd2 xsta2 xpo2 xva2 xle2 xtk xta), (cAB g tp 900 tpf), (cAJ g nm 16 nmfg), (cO8_iiri nd 16 2 ndc ndnk), (cAI g ndc 32 ndfg)]) := by
  refine cI.of (by decide) (Nat.le_of_ble_eq_true rfl) ?_
  intro p e s m args below meth c A X hr hi
  refine k_lveq [(0, .ref h0), (1, .int p0), (2, .int p1)] rfl ?_
  refine k_aload_n X dX9_isNewName_0 0 rfl ?_
  refine k_get (ci := 9) X inlX9 rfl 8 (by decide) dX9_isNewName_1 mw66 0 rfl rfl ?_
  refine k_iconst (v := 1) X dX9_isNewName_4 (by decide) ?_
  refine k_ic_ne 15 X dX9_isNewName_5 (by decide) (fun h_1 => ?_) (fun h_1 => ?_)
  · skip
    refine k_aload_n X dX9_isNewName_15 0 rfl ?_
    refine k_iconst (v := 1) X dX9_isNewName_16 (by decide) ?_
    refine k_aload_n X dX9_isNewName_17 0 rfl ?_
    refine k_get (ci := 9) X inlX9 rfl 9 (by decide) dX9_isNewName_18 mw67 0 rfl rfl ?_
    refine k_callVI (n := 2) (As := [.int 1, .int xsta]) (st := []) X [(cO9_i1r1i2r1i1r2i4l1i2 h0 xtpd th xfn xfp tp xen nm nd xkd xsta xpo xva xle xtk xta), (cAB g tp 900 tpf)] [(cAJ g nm 16 nmf), (cO8_iiri nd 16 2 ndc ndn), (cAI g ndc 32 ndf)] [0, 1] [2, 3, 4] (x_refuseAtX l g h0 1 xsta xtpd th xfn xfp tp xen nm nd xkd xsta xpo xva xle xtk xta tpf) dX9_isNewName_21 mw309 mw310 mw311 mw15 mw312 rfl 9 rfl rfl 0 _ rfl yk_yX9_refuseAt_2 rfl (Nat.le_of_ble_eq_true rfl) (Nat.le_of_ble_eq_true rfl) (Nat.le_of_ble_eq_true rfl) (Nat.le_of_ble_eq_true rfl) (Nat.le_of_ble_eq_true rfl) rfl rfl (by decide) rfl (by decide) (by decide) ?_
    rintro r_4 w ⟨xfn2_2, xfp2_3, iv_5, hq_6, rfl⟩
    refine k_ws [(cAJ g nm 16 nmf), (cO8_iiri nd 16 2 ndc ndn), (cAI g ndc 32 ndf), (cO9_i1r1i2r1i1r2i4l1i2 h0 xtpd th xfn2_2 xfp2_3 tp xen nm nd xkd xsta xpo xva xle xtk xta), (cAB g tp 900 tpf)] rfl ?_
    exact k_zret X hr (zn_b (iv_w iv_5 (by decide) (by decide))) dX9_isNewName_24 (Nat.le_of_ble_eq_true rfl) (Nat.le_of_ble_eq_true rfl) [3, 4, 0, 1, 2] (by decide) rfl rfl ⟨xfn2_2, xfp2_3, xkd, xsta, xpo, xva, xle, nmf, ndf, ndn, (iv_w hv_xsta (by decide) (by decide)), (iv_w hv_xpo (by decide) (by decide)), (iv_w iv_5 (by decide) (by decide)), (Or.inl ⟨h_1, ⟨xfn2_2, xfp2_3, r_4, hq_6, ⟨rfl, rfl, rfl, rfl, rfl, rfl, rfl, rfl, rfl, rfl, rfl⟩⟩⟩), rfl⟩
  · skip
    have iv_7 : IV xkd 1 1 := iv_meet (iv_any xkd) (iv_e h_1 (show IV 1 1 1 from (by decide))) (by decide) (by decide)
    refine k_aload_n X dX9_isNewName_8 0 rfl ?_
    refine k_callVI (n := 0) (As := []) (st := []) X [(cO9_i1r1i2r1i1r2i4l1i2 h0 xtpd th xfn xfp tp xen nm nd xkd xsta xpo xva xle xtk xta), (cAB g tp 900 tpf)] [(cAJ g nm 16 nmf), (cO8_iiri nd 16 2 ndc ndn), (cAI g ndc 32 ndf)] [0, 1] [2, 3, 4] (x_isReservedX l g h0 xtpd th xfn xfp tp xen nm nd xkd xsta xpo xva xle xtk xta tpf (iv_w hv_xsta (by decide) (by decide))) dX9_isNewName_9 mw329 mw330 mw331 mw15 mw332 rfl 9 rfl rfl 0 _ rfl yk_yX9_isReserved_0 rfl (Nat.le_of_ble_eq_true rfl) (Nat.le_of_ble_eq_true rfl) (Nat.le_of_ble_eq_true rfl) (Nat.le_of_ble_eq_true rfl) (Nat.le_of_ble_eq_true rfl) rfl rfl (by decide) rfl (by decide) (by decide) ?_
    rintro r_8 w ⟨iv_9, hq_10, rfl⟩
    refine k_ws [(cAJ g nm 16 nmf), (cO8_iiri nd 16 2 ndc ndn), (cAI g ndc 32 ndf), (cO9_i1r1i2r1i1r2i4l1i2 h0 xtpd th xfn xfp tp xen nm nd xkd xsta xpo xva xle xtk xta), (cAB g tp 900 tpf)] rfl ?_
    refine k_if_eq 25 X dX9_isNewName_12 (by decide) (fun h_11 => ?_) (fun h_11 => ?_)
    · skip
      have iv_12 : IV r_8 0 0 := iv_meet iv_9 (iv_e h_11 (show IV 0 0 0 from (by decide))) (by decide) (by decide)
      refine k_aload_n X dX9_isNewName_25 0 rfl ?_
      refine k_callVI (n := 0) (As := []) (st := []) X [(cO9_i1r1i2r1i1r2i4l1i2 h0 xtpd th xfn xfp tp xen nm nd xkd xsta xpo xva xle xtk xta), (cAB g tp 900 tpf), (cAJ g nm 16 nmf), (cO8_iiri nd 16 2 ndc ndn), (cAI g ndc 32 ndf)] [] [3, 4, 0, 1, 2] [] (x_findNameX l g h0 xtpd th xfn xfp tp xen nm nd xkd xsta xpo xva xle xtk xta tpf nmf ndc ndn ndf) dX9_isNewName_26 mw351 mw352 mw353 mw15 mw354 rfl 9 rfl rfl 0 _ rfl yk_yX9_findName_0 rfl (Nat.le_of_ble_eq_true rfl) (Nat.le_of_ble_eq_true rfl) (Nat.le_of_ble_eq_true rfl) (Nat.le_of_ble_eq_true rfl) (Nat.le_of_ble_eq_true rfl) rfl rfl (by decide) rfl (by decide) (by decide) ?_
      rintro r_13 w ⟨hq_14, rfl⟩
      refine k_ws [(cO9_i1r1i2r1i1r2i4l1i2 h0 xtpd th xfn xfp tp xen nm nd xkd xsta xpo xva xle xtk xta), (cAB g tp 900 tpf), (cAJ g nm 16 nmf), (cO8_iiri nd 16 2 ndc ndn), (cAI g ndc 32 ndf)] rfl ?_
      refine k_if_lt 42 X dX9_isNewName_29 (by decide) (fun h_15 => ?_) (fun h_15 => ?_)
      · skip
        have j_16 : r_13.toInt < 0 := iv_lt h_15
        have iv_17 : IV r_13 (-2147483648) (-1) := iv_ltL (iv_lt h_15) (iv_any r_13) (show IV 0 0 0 from (by decide)) (by decide)
        refine k_aload_n X dX9_isNewName_42 0 rfl ?_
        refine k_get (ci := 9) X inlX9 rfl 7 (by decide) dX9_isNewName_43 mw65 0 rfl rfl ?_
        refine k_get (ci := 8) X inlX8 rfl 3 (by decide) dX9_isNewName_46 mw251 3 rfl rfl ?_
        refine k_istore_n [(3, .int ndn), (0, .ref h0), (1, .int p0), (2, .int p1)] X dX9_isNewName_49 (by decide) rfl ?_
        refine k_iload_n X dX9_isNewName_50 0 rfl ?_
        refine k_if_lt 83 X dX9_isNewName_51 (by decide) (fun h_18 => ?_) (fun h_18 => ?_)
        · skip
          have j_19 : ndn.toInt < 0 := iv_lt h_18
          have iv_20 : IV ndn (-2147483648) (-1) := iv_ltL (iv_lt h_18) (iv_any ndn) (show IV 0 0 0 from (by decide)) (by decide)
          refine k_aload_n X dX9_isNewName_83 1 rfl ?_
          refine k_callVV (n := 0) (As := []) (st := []) X [(cO9_i1r1i2r1i1r2i4l1i2 h0 xtpd th xfn xfp tp xen nm nd xkd xsta xpo xva xle xtk xta), (cAB g tp 900 tpf)] [(cAJ g nm 16 nmf), (cO8_iiri nd 16 2 ndc ndn), (cAI g ndc 32 ndf)] [0, 1] [2, 3, 4] (x_nextX l g h0 xtpd th xfn xfp tp xen nm nd xkd xsta xpo xva xle xtk xta tpf (iv_w hv_xen (by decide) (by decide)) (iv_w hv_xpo (by decide) (by decide))) dX9_isNewName_84 mw237 mw238 mw239 mw15 mw240 rfl 9 rfl rfl 0 _ rfl yk_yX9_next_0 rfl (Nat.le_of_ble_eq_true rfl) (Nat.le_of_ble_eq_true rfl) (Nat.le_of_ble_eq_true rfl) (Nat.le_of_ble_eq_true rfl) (Nat.le_of_ble_eq_true rfl) rfl rfl (by decide) rfl (by decide) (by decide) ?_
          rintro w ⟨xkd2_21, xsta2_22, xpo2_23, xva2_24, xle2_25, iv_27, iv_28, iv_29, hq_30, rfl⟩
          refine k_ws [(cAJ g nm 16 nmf), (cO8_iiri nd 16 2 ndc ndn), (cAI g ndc 32 ndf), (cO9_i1r1i2r1i1r2i4l1i2 h0 xtpd th xfn xfp tp xen nm nd xkd2_21 xsta2_22 xpo2_23 xva2_24 xle2_25 xtk xta), (cAB g tp 900 tpf)] rfl ?_
          refine k_iconst (v := 1) X dX9_isNewName_87 (by decide) ?_
          exact k_zret X hr (by first | rfl | decide) dX9_isNewName_88 (Nat.le_of_ble_eq_true rfl) (Nat.le_of_ble_eq_true rfl) [3, 4, 0, 1, 2] (by decide) rfl rfl ⟨xfn, xfp, xkd2_21, xsta2_22, xpo2_23, xva2_24, xle2_25, nmf, ndf, ndn, (iv_w iv_27 (by decide) (by decide)), (iv_w iv_28 (by decide) (by decide)), (iv_w (show IV 1 1 1 from (by decide)) (by decide) (by decide)), (Or.inr ⟨h_1, ⟨r_8, hq_10, (Or.inl ⟨h_11, ⟨r_13, hq_14, (Or.inl ⟨h_15, (Or.inl ⟨h_18, ⟨xkd2_21, xsta2_22, xpo2_23, xva2_24, xle2_25, hq_30, ⟨rfl, rfl, rfl, rfl, rfl, rfl, rfl, rfl, rfl, rfl, rfl⟩⟩⟩)⟩)⟩⟩)⟩⟩), rfl⟩
        · skip
          have j_31 : 0 ≤ ndn.toInt := iv_nlt h_18
          have iv_32 : IV ndn 0 2147483647 := iv_leR (iv_nlt h_18) (show IV 0 0 0 from (by decide)) (iv_any ndn) (by decide)
          refine k_iload_n X dX9_isNewName_54 0 rfl ?_
          refine k_aload_n X dX9_isNewName_55 1 rfl ?_
          refine k_get (ci := 9) X inlX9 rfl 6 (by decide) dX9_isNewName_56 mw61 0 rfl rfl ?_
          refine k_alen 16 2 X dX9_isNewName_59 2 rfl rfl (by show Int32.ofNat 16 = 16; decide) ?_
          refine k_ic_ge 83 X dX9_isNewName_60 (by decide) (fun h_33 => ?_) (fun h_33 => ?_)
          · skip
            have j_34 : 16 ≤ ndn.toInt := iv_le h_33
            have iv_35 : IV ndn 16 2147483647 := iv_leR (iv_le h_33) (show IV 16 16 16 from (by decide)) iv_32 (by decide)
            refine k_aload_n X dX9_isNewName_83 1 rfl ?_
            refine k_callVV (n := 0) (As := []) (st := []) X [(cO9_i1r1i2r1i1r2i4l1i2 h0 xtpd th xfn xfp tp xen nm nd xkd xsta xpo xva xle xtk xta), (cAB g tp 900 tpf)] [(cAJ g nm 16 nmf), (cO8_iiri nd 16 2 ndc ndn), (cAI g ndc 32 ndf)] [0, 1] [2, 3, 4] (x_nextX l g h0 xtpd th xfn xfp tp xen nm nd xkd xsta xpo xva xle xtk xta tpf (iv_w hv_xen (by decide) (by decide)) (iv_w hv_xpo (by decide) (by decide))) dX9_isNewName_84 mw237 mw238 mw239 mw15 mw240 rfl 9 rfl rfl 0 _ rfl yk_yX9_next_0 rfl (Nat.le_of_ble_eq_true rfl) (Nat.le_of_ble_eq_true rfl) (Nat.le_of_ble_eq_true rfl) (Nat.le_of_ble_eq_true rfl) (Nat.le_of_ble_eq_true rfl) rfl rfl (by decide) rfl (by decide) (by decide) ?_
            rintro w ⟨xkd2_36, xsta2_37, xpo2_38, xva2_39, xle2_40, iv_42, iv_43, iv_44, hq_45, rfl⟩
            refine k_ws [(cAJ g nm 16 nmf), (cO8_iiri nd 16 2 ndc ndn), (cAI g ndc 32 ndf), (cO9_i1r1i2r1i1r2i4l1i2 h0 xtpd th xfn xfp tp xen nm nd xkd2_36 xsta2_37 xpo2_38 xva2_39 xle2_40 xtk xta), (cAB g tp 900 tpf)] rfl ?_
            refine k_iconst (v := 1) X dX9_isNewName_87 (by decide) ?_
            exact k_zret X hr (by first | rfl | decide) dX9_isNewName_88 (Nat.le_of_ble_eq_true rfl) (Nat.le_of_ble_eq_true rfl) [3, 4, 0, 1, 2] (by decide) rfl rfl ⟨xfn, xfp, xkd2_36, xsta2_37, xpo2_38, xva2_39, xle2_40, nmf, ndf, ndn, (iv_w iv_42 (by decide) (by decide)), (iv_w iv_43 (by decide) (by decide)), (iv_w (show IV 1 1 1 from (by decide)) (by decide) (by decide)), (Or.inr ⟨h_1, ⟨r_8, hq_10, (Or.inl ⟨h_11, ⟨r_13, hq_14, (Or.inl ⟨h_15, (Or.inr ⟨h_18, (Or.inl ⟨h_33, ⟨xkd2_36, xsta2_37, xpo2_38, xva2_39, xle2_40, hq_45, ⟨rfl, rfl, rfl, rfl, rfl, rfl, rfl, rfl, rfl, rfl, rfl⟩⟩⟩)⟩)⟩)⟩⟩)⟩⟩), rfl⟩
          · skip
            have j_46 : ndn.toInt < 16 := iv_nle h_33
            have iv_47 : IV ndn 0 15 := iv_ltL (iv_nle h_33) iv_32 (show IV 16 16 16 from (by decide)) (by decide)
            refine k_aload_n X dX9_isNewName_63 1 rfl ?_
            refine k_get (ci := 9) X inlX9 rfl 6 (by decide) dX9_isNewName_64 mw61 0 rfl rfl ?_
            refine k_iload_n X dX9_isNewName_67 0 rfl ?_
            refine k_aload_n X dX9_isNewName_68 1 rfl ?_
            refine k_get (ci := 9) X inlX9 rfl 12 (by decide) dX9_isNewName_69 mw70 0 rfl rfl ?_
            refine k_last [(cO9_i1r1i2r1i1r2i4l1i2 h0 xtpd th xfn xfp tp xen nm nd xkd xsta xpo xva xle xtk xta), (cAB g tp 900 tpf), (cAJ g nm 16 (vp_updL nmf (ndn : Int32).toNatClampNeg xle)), (cO8_iiri nd 16 2 ndc ndn), (cAI g ndc 32 ndf)] X dX9_isNewName_72 2 rfl (iv_in iv_47 (by decide) (by decide)) rfl ?_
            refine k_aload_n X dX9_isNewName_73 1 rfl ?_
            refine k_get (ci := 9) X inlX9 rfl 7 (by decide) dX9_isNewName_74 mw65 0 rfl rfl ?_
            refine k_iload_n X dX9_isNewName_77 2 rfl ?_
            refine k_iload_n X dX9_isNewName_78 3 rfl ?_
            refine k_iconst (v := 0) X dX9_isNewName_79 (by decide) ?_
            refine k_callVV (n := 3) (As := [.int p0, .int p1, .int 0]) (st := []) X [(cO8_iiri nd 16 2 ndc ndn), (cAI g ndc 32 ndf)] [(cO9_i1r1i2r1i1r2i4l1i2 h0 xtpd th xfn xfp tp xen nm nd xkd xsta xpo xva xle xtk xta), (cAB g tp 900 tpf), (cAJ g nm 16 (vp_updL nmf (ndn : Int32).toNatClampNeg xle))] [3, 4] [0, 1, 2] (t_add16_2X l g nd p0 p1 0 ndc ndn ndf) dX9_isNewName_80 mw355 mw356 mw357 mw64 mw358 rfl 8 rfl rfl 0 _ rfl yk_yX8_add_3 rfl (Nat.le_of_ble_eq_true rfl) (Nat.le_of_ble_eq_true rfl) (Nat.le_of_ble_eq_true rfl) (Nat.le_of_ble_eq_true rfl) (Nat.le_of_ble_eq_true rfl) rfl rfl (by decide) rfl (by decide) (by decide) ?_
            rintro w ⟨h0g_49, h0k_50, hq_52, rfl⟩
            refine k_ws [(cO9_i1r1i2r1i1r2i4l1i2 h0 xtpd th xfn xfp tp xen nm nd xkd xsta xpo xva xle xtk xta), (cAB g tp 900 tpf), (cAJ g nm 16 (vp_updL nmf (ndn : Int32).toNatClampNeg xle)), (cO8_iiri nd 16 2 ndc h0k_50), (cAI g ndc 32 h0g_49)] rfl ?_
            refine k_aload_n X dX9_isNewName_83 1 rfl ?_
            refine k_callVV (n := 0) (As := []) (st := []) X [(cO9_i1r1i2r1i1r2i4l1i2 h0 xtpd th xfn xfp tp xen nm nd xkd xsta xpo xva xle xtk xta), (cAB g tp 900 tpf)] [(cAJ g nm 16 (vp_updL nmf (ndn : Int32).toNatClampNeg xle)), (cO8_iiri nd 16 2 ndc h0k_50), (cAI g ndc 32 h0g_49)] [0, 1] [2, 3, 4] (x_nextX l g h0 xtpd th xfn xfp tp xen nm nd xkd xsta xpo xva xle xtk xta tpf (iv_w hv_xen (by decide) (by decide)) (iv_w hv_xpo (by decide) (by decide))) dX9_isNewName_84 mw237 mw238 mw239 mw15 mw240 rfl 9 rfl rfl 0 _ rfl yk_yX9_next_0 rfl (Nat.le_of_ble_eq_true rfl) (Nat.le_of_ble_eq_true rfl) (Nat.le_of_ble_eq_true rfl) (Nat.le_of_ble_eq_true rfl) (Nat.le_of_ble_eq_true rfl) rfl rfl (by decide) rfl (by decide) (by decide) ?_
            rintro w ⟨xkd2_53, xsta2_54, xpo2_55, xva2_56, xle2_57, iv_59, iv_60, iv_61, hq_62, rfl⟩
            refine k_ws [(cAJ g nm 16 (vp_updL nmf (ndn : Int32).toNatClampNeg xle)), (cO8_iiri nd 16 2 ndc h0k_50), (cAI g ndc 32 h0g_49), (cO9_i1r1i2r1i1r2i4l1i2 h0 xtpd th xfn xfp tp xen nm nd xkd2_53 xsta2_54 xpo2_55 xva2_56 xle2_57 xtk xta), (cAB g tp 900 tpf)] rfl ?_
            refine k_iconst (v := 1) X dX9_isNewName_87 (by decide) ?_
            exact k_zret X hr (by first | rfl | decide) dX9_isNewName_88 (Nat.le_of_ble_eq_true rfl) (Nat.le_of_ble_eq_true rfl) [3, 4, 0, 1, 2] (by decide) rfl rfl ⟨xfn, xfp, xkd2_53, xsta2_54, xpo2_55, xva2_56, xle2_57, (vp_updL nmf (ndn : Int32).toNatClampNeg xle), h0g_49, h0k_50, (iv_w iv_59 (by decide) (by decide)), (iv_w iv_60 (by decide) (by decide)), (iv_w (show IV 1 1 1 from (by decide)) (by decide) (by decide)), (Or.inr ⟨h_1, ⟨r_8, hq_10, (Or.inl ⟨h_11, ⟨r_13, hq_14, (Or.inl ⟨h_15, (Or.inr ⟨h_18, (Or.inr ⟨h_33, ⟨h0g_49, h0k_50, hq_52, ⟨xkd2_53, xsta2_54, xpo2_55, xva2_56, xle2_57, hq_62, ⟨rfl, rfl, rfl, rfl, rfl, rfl, rfl, rfl, rfl, rfl, rfl⟩⟩⟩⟩)⟩)⟩)⟩⟩)⟩⟩), rfl⟩
      · skip
        have j_63 : 0 ≤ r_13.toInt := iv_nlt h_15
        have iv_64 : IV r_13 0 2147483647 := iv_leR (iv_nlt h_15) (show IV 0 0 0 from (by decide)) (iv_any r_13) (by decide)
        refine k_aload_n X dX9_isNewName_32 0 rfl ?_
        refine k_iconst (v := 3) X dX9_isNewName_33 (by decide) ?_
        refine k_aload_n X dX9_isNewName_34 0 rfl ?_
        refine k_get (ci := 9) X inlX9 rfl 9 (by decide) dX9_isNewName_35 mw67 0 rfl rfl ?_
        refine k_callVI (n := 2) (As := [.int 3, .int xsta]) (st := []) X [(cO9_i1r1i2r1i1r2i4l1i2 h0 xtpd th xfn xfp tp xen nm nd xkd xsta xpo xva xle xtk xta), (cAB g tp 900 tpf)] [(cAJ g nm 16 nmf), (cO8_iiri nd 16 2 ndc ndn), (cAI g ndc 32 ndf)] [0, 1] [2, 3, 4] (x_refuseAtX l g h0 3 xsta xtpd th xfn xfp tp xen nm nd xkd xsta xpo xva xle xtk xta tpf) dX9_isNewName_38 mw309 mw310 mw311 mw15 mw312 rfl 9 rfl rfl 0 _ rfl yk_yX9_refuseAt_2 rfl (Nat.le_of_ble_eq_true rfl) (Nat.le_of_ble_eq_true rfl) (Nat.le_of_ble_eq_true rfl) (Nat.le_of_ble_eq_true rfl) (Nat.le_of_ble_eq_true rfl) rfl rfl (by decide) rfl (by decide) (by decide) ?_
        rintro r_67 w ⟨xfn2_65, xfp2_66, iv_68, hq_69, rfl⟩
        refine k_ws [(cAJ g nm 16 nmf), (cO8_iiri nd 16 2 ndc ndn), (cAI g ndc 32 ndf), (cO9_i1r1i2r1i1r2i4l1i2 h0 xtpd th xfn2_65 xfp2_66 tp xen nm nd xkd xsta xpo xva xle xtk xta), (cAB g tp 900 tpf)] rfl ?_
        exact k_zret X hr (zn_b (iv_w iv_68 (by decide) (by decide))) dX9_isNewName_41 (Nat.le_of_ble_eq_true rfl) (Nat.le_of_ble_eq_true rfl) [3, 4, 0, 1, 2] (by decide) rfl rfl ⟨xfn2_65, xfp2_66, xkd, xsta, xpo, xva, xle, nmf, ndf, ndn, (iv_w hv_xsta (by decide) (by decide)), (iv_w hv_xpo (by decide) (by decide)), (iv_w iv_68 (by decide) (by decide)), (Or.inr ⟨h_1, ⟨r_8, hq_10, (Or.inl ⟨h_11, ⟨r_13, hq_14, (Or.inr ⟨h_15, ⟨xfn2_65, xfp2_66, r_67, hq_69, ⟨rfl, rfl, rfl, rfl, rfl, rfl, rfl, rfl, rfl, rfl, rfl⟩⟩⟩)⟩⟩)⟩⟩), rfl⟩
    · skip
      have iv_70 : IV r_8 1 1 := iv_neL h_11 iv_9 (show IV 0 0 0 from (by decide)) (by decide)
      refine k_aload_n X dX9_isNewName_15 0 rfl ?_
      refine k_iconst (v := 1) X dX9_isNewName_16 (by decide) ?_
      refine k_aload_n X dX9_isNewName_17 0 rfl ?_
      refine k_get (ci := 9) X inlX9 rfl 9 (by decide) dX9_isNewName_18 mw67 3 rfl rfl ?_
      refine k_callVI (n := 2) (As := [.int 1, .int xsta]) (st := []) X [(cO9_i1r1i2r1i1r2i4l1i2 h0 xtpd th xfn xfp tp xen nm nd xkd xsta xpo xva xle xtk xta), (cAB g tp 900 tpf)] [(cAJ g nm 16 nmf), (cO8_iiri nd 16 2 ndc ndn), (cAI g ndc 32 ndf)] [3, 4] [0, 1, 2] (x_refuseAtX l g h0 1 xsta xtpd th xfn xfp tp xen nm nd xkd xsta xpo xva xle xtk xta tpf) dX9_isNewName_21 mw309 mw310 mw311 mw15 mw312 rfl 9 rfl rfl 0 _ rfl yk_yX9_refuseAt_2 rfl (Nat.le_of_ble_eq_true rfl) (Nat.le_of_ble_eq_true rfl) (Nat.le_of_ble_eq_true rfl) (Nat.le_of_ble_eq_true rfl) (Nat.le_of_ble_eq_true rfl) rfl rfl (by decide) rfl (by decide) (by decide) ?_
      rintro r_73 w ⟨xfn2_71, xfp2_72, iv_74, hq_75, rfl⟩
      refine k_ws [(cAJ g nm 16 nmf), (cO8_iiri nd 16 2 ndc ndn), (cAI g ndc 32 ndf), (cO9_i1r1i2r1i1r2i4l1i2 h0 xtpd th xfn2_71 xfp2_72 tp xen nm nd xkd xsta xpo xva xle xtk xta), (cAB g tp 900 tpf)] rfl ?_
      exact k_zret X hr (zn_b (iv_w iv_74 (by decide) (by decide))) dX9_isNewName_24 (Nat.le_of_ble_eq_true rfl) (Nat.le_of_ble_eq_true rfl) [3, 4, 0, 1, 2] (by decide) rfl rfl ⟨xfn2_71, xfp2_72, xkd, xsta, xpo, xva, xle, nmf, ndf, ndn, (iv_w hv_xsta (by decide) (by decide)), (iv_w hv_xpo (by decide) (by decide)), (iv_w iv_74 (by decide) (by decide)), (Or.inr ⟨h_1, ⟨r_8, hq_10, (Or.inr ⟨h_11, ⟨xfn2_71, xfp2_72, r_73, hq_75, ⟨rfl, rfl, rfl, rfl, rfl, rfl, rfl, rfl, rfl, rfl, rfl⟩⟩⟩)⟩⟩), rfl⟩


set_option maxHeartbeats 4000000 in
set_option maxRecDepth 100000 in
theorem x_isOldNameX (l : Launch) (g : Gx) (h0 : Nat) (p0 : Int32) (xtpd : Int32) (th : Nat) (xfn : Int32) (xfp : Int32) (tp : Nat) (xen : Int32) (nm : Nat) (nd : Nat) (xkd : Int32) (xsta : Int32) (xpo : Int32) (xva : Int32) (xle : Int64) (xtk : Int32) (xta : Int32) (tpf : Nat → Int32) (nmf : Nat → Int64) (ndc : Nat) (ndn : Int32) (ndf : Nat → Int32) (hv_xen : IV xen 0 900) (hv_xsta : IV xsta 0 900) (hv_xpo : IV xpo 0 900) : cI l g yX9_isOldName cX9_isOldName 3 (some .boolean) 6 127 0 0 [.ref h0, .int p0] [(cO9_i1r1i2r1i1r2i4l1i2 h0 xtpd th xfn xfp tp xen nm nd xkd xsta xpo xva xle xtk xta), (cAB g tp 900 tpf), (cAJ g nm 16 nmf), (cO8_iiri nd 16 2 ndc ndn), (cAI g ndc 32 ndf)] (fun r w => ∃ (xfn2 : Int32) (xfp2 : Int32) (xkd2 : Int32) (xsta2 : Int32) (xpo2 : Int32) (xva2 : Int32) (xle2 : Int64) (xtk2 : Int32) (xta2 : Int32), IV xsta2 0 900 ∧ IV xpo2 0 900 ∧ IV r 0 1 ∧ (R_x_isOldNameX p0 xfn xfp xen xkd xsta xpo xva xle xtk xta tpf nmf ndn ndf xfn2 xfp2 xkd2 xsta2 xpo2 xva2 xle2 xtk2 xta2 r) ∧ w = [(cO9_i1r1i2r1i1r2i4l1i2 h0 xtpd th xfn2 xfp2 tp xen nm nd xkd2 xsta2 xpo2 xva2 xle2 xtk2 xta2), (cAB g tp 900 tpf), (cAJ g nm 16 nmf), (cO8_iiri nd 16 2 ndc ndn), (cAI g ndc 32 ndf)]) := by
  refine cI.of (by decide) (Nat.le_of_ble_eq_true rfl) ?_
  intro p e s m args below meth c A X hr hi
  refine k_lveq [(0, .ref h0), (1, .int p0)] rfl ?_
  refine k_aload_n X dX9_isOldName_0 0 rfl ?_
  refine k_get (ci := 9) X inlX9 rfl 8 (by decide) dX9_isOldName_1 mw66 0 rfl rfl ?_
  refine k_iconst (v := 1) X dX9_isOldName_4 (by decide) ?_
  refine k_ic_ne 15 X dX9_isOldName_5 (by decide) (fun h_1 => ?_) (fun h_1 => ?_)
  · skip
    refine k_aload_n X dX9_isOldName_15 0 rfl ?_
    refine k_iconst (v := 1) X dX9_isOldName_16 (by decide) ?_
    refine k_aload_n X dX9_isOldName_17 0 rfl ?_
    refine k_get (ci := 9) X inlX9 rfl 9 (by decide) dX9_isOldName_18 mw67 0 rfl rfl ?_
    refine k_callVI (n := 2) (As := [.int 1, .int xsta]) (st := []) X [(cO9_i1r1i2r1i1r2i4l1i2 h0 xtpd th xfn xfp tp xen nm nd xkd xsta xpo xva xle xtk xta), (cAB g tp 900 tpf)] [(cAJ g nm 16 nmf), (cO8_iiri nd 16 2 ndc ndn), (cAI g ndc 32 ndf)] [0, 1] [2, 3, 4] (x_refuseAtX l g h0 1 xsta xtpd th xfn xfp tp xen nm nd xkd xsta xpo xva xle xtk xta tpf) dX9_isOldName_21 mw309 mw310 mw311 mw15 mw312 rfl 9 rfl rfl 0 _ rfl yk_yX9_refuseAt_2 rfl (Nat.le_of_ble_eq_true rfl) (Nat.le_of_ble_eq_true rfl) (Nat.le_of_ble_eq_true rfl) (Nat.le_of_ble_eq_true rfl) (Nat.le_of_ble_eq_true rfl) rfl rfl (by decide) rfl (by decide) (by decide) ?_
    rintro r_4 w ⟨xfn2_2, xfp2_3, iv_5, hq_6, rfl⟩
    refine k_ws [(cAJ g nm 16 nmf), (cO8_iiri nd 16 2 ndc ndn), (cAI g ndc 32 ndf), (cO9_i1r1i2r1i1r2i4l1i2 h0 xtpd th xfn2_2 xfp2_3 tp xen nm nd xkd xsta xpo xva xle xtk xta), (cAB g tp 900 tpf)] rfl ?_
    exact k_zret X hr (zn_b (iv_w iv_5 (by decide) (by decide))) dX9_isOldName_24 (Nat.le_of_ble_eq_true rfl) (Nat.le_of_ble_eq_true rfl) [3, 4, 0, 1, 2] (by decide) rfl rfl ⟨xfn2_2, xfp2_3, xkd, xsta, xpo, xva, xle, xtk, xta, (iv_w hv_xsta (by decide) (by decide)), (iv_w hv_xpo (by decide) (by decide)), (iv_w iv_5 (by decide) (by decide)), (Or.inl ⟨h_1, ⟨xfn2_2, xfp2_3, r_4, hq_6, ⟨rfl, rfl, rfl, rfl, rfl, rfl, rfl, rfl, rfl, rfl⟩⟩⟩), rfl⟩
  · skip
    have iv_7 : IV xkd 1 1 := iv_meet (iv_any xkd) (iv_e h_1 (show IV 1 1 1 from (by decide))) (by decide) (by decide)
    refine k_aload_n X dX9_isOldName_8 0 rfl ?_
    refine k_callVI (n := 0) (As := []) (st := []) X [(cO9_i1r1i2r1i1r2i4l1i2 h0 xtpd th xfn xfp tp xen nm nd xkd xsta xpo xva xle xtk xta), (cAB g tp 900 tpf)] [(cAJ g nm 16 nmf), (cO8_iiri nd 16 2 ndc ndn), (cAI g ndc 32 ndf)] [0, 1] [2, 3, 4] (x_isReservedX l g h0 xtpd th xfn xfp tp xen nm nd xkd xsta xpo xva xle xtk xta tpf (iv_w hv_xsta (by decide) (by decide))) dX9_isOldName_9 mw329 mw330 mw331 mw15 mw332 rfl 9 rfl rfl 0 _ rfl yk_yX9_isReserved_0 rfl (Nat.le_of_ble_eq_true rfl) (Nat.le_of_ble_eq_true rfl) (Nat.le_of_ble_eq_true rfl) (Nat.le_of_ble_eq_true rfl) (Nat.le_of_ble_eq_true rfl) rfl rfl (by decide) rfl (by decide) (by decide) ?_
    rintro r_8 w ⟨iv_9, hq_10, rfl⟩
    refine k_ws [(cAJ g nm 16 nmf), (cO8_iiri nd 16 2 ndc ndn), (cAI g ndc 32 ndf), (cO9_i1r1i2r1i1r2i4l1i2 h0 xtpd th xfn xfp tp xen nm nd xkd xsta xpo xva xle xtk xta), (cAB g tp 900 tpf)] rfl ?_
    refine k_if_eq 25 X dX9_isOldName_12 (by decide) (fun h_11 => ?_) (fun h_11 => ?_)
    · skip
      have iv_12 : IV r_8 0 0 := iv_meet iv_9 (iv_e h_11 (show IV 0 0 0 from (by decide))) (by decide) (by decide)
      refine k_aload_n X dX9_isOldName_25 0 rfl ?_
      refine k_callVI (n := 0) (As := []) (st := []) X [(cO9_i1r1i2r1i1r2i4l1i2 h0 xtpd th xfn xfp tp xen nm nd xkd xsta xpo xva xle xtk xta), (cAB g tp 900 tpf), (cAJ g nm 16 nmf), (cO8_iiri nd 16 2 ndc ndn), (cAI g ndc 32 ndf)] [] [3, 4, 0, 1, 2] [] (x_findNameX l g h0 xtpd th xfn xfp tp xen nm nd xkd xsta xpo xva xle xtk xta tpf nmf ndc ndn ndf) dX9_isOldName_26 mw351 mw352 mw353 mw15 mw354 rfl 9 rfl rfl 0 _ rfl yk_yX9_findName_0 rfl (Nat.le_of_ble_eq_true rfl) (Nat.le_of_ble_eq_true rfl) (Nat.le_of_ble_eq_true rfl) (Nat.le_of_ble_eq_true rfl) (Nat.le_of_ble_eq_true rfl) rfl rfl (by decide) rfl (by decide) (by decide) ?_
      rintro r_13 w ⟨hq_14, rfl⟩
      refine k_ws [(cO9_i1r1i2r1i1r2i4l1i2 h0 xtpd th xfn xfp tp xen nm nd xkd xsta xpo xva xle xtk xta), (cAB g tp 900 tpf), (cAJ g nm 16 nmf), (cO8_iiri nd 16 2 ndc ndn), (cAI g ndc 32 ndf)] rfl ?_
      refine k_istore_n [(2, .int r_13), (0, .ref h0), (1, .int p0)] X dX9_isOldName_29 (by decide) rfl ?_
      refine k_iload_n X dX9_isOldName_30 0 rfl ?_
      refine k_if_lt 47 X dX9_isOldName_31 (by decide) (fun h_15 => ?_) (fun h_15 => ?_)
      · skip
        have j_16 : r_13.toInt < 0 := iv_lt h_15
        have iv_17 : IV r_13 (-2147483648) (-1) := iv_ltL (iv_lt h_15) (iv_any r_13) (show IV 0 0 0 from (by decide)) (by decide)
        refine k_aload_n X dX9_isOldName_47 1 rfl ?_
        refine k_iconst (v := 2) X dX9_isOldName_48 (by decide) ?_
        refine k_aload_n X dX9_isOldName_49 1 rfl ?_
        refine k_get (ci := 9) X inlX9 rfl 9 (by decide) dX9_isOldName_50 mw67 0 rfl rfl ?_
        refine k_callVI (n := 2) (As := [.int 2, .int xsta]) (st := []) X [(cO9_i1r1i2r1i1r2i4l1i2 h0 xtpd th xfn xfp tp xen nm nd xkd xsta xpo xva xle xtk xta), (cAB g tp 900 tpf)] [(cAJ g nm 16 nmf), (cO8_iiri nd 16 2 ndc ndn), (cAI g ndc 32 ndf)] [0, 1] [2, 3, 4] (x_refuseAtX l g h0 2 xsta xtpd th xfn xfp tp xen nm nd xkd xsta xpo xva xle xtk xta tpf) dX9_isOldName_53 mw309 mw310 mw311 mw15 mw312 rfl 9 rfl rfl 0 _ rfl yk_yX9_refuseAt_2 rfl (Nat.le_of_ble_eq_true rfl) (Nat.le_of_ble_eq_true rfl) (Nat.le_of_ble_eq_true rfl) (Nat.le_of_ble_eq_true rfl) (Nat.le_of_ble_eq_true rfl) rfl rfl (by decide) rfl (by decide) (by decide) ?_
        rintro r_20 w ⟨xfn2_18, xfp2_19, iv_21, hq_22, rfl⟩
        refine k_ws [(cAJ g nm 16 nmf), (cO8_iiri nd 16 2 ndc ndn), (cAI g ndc 32 ndf), (cO9_i1r1i2r1i1r2i4l1i2 h0 xtpd th xfn2_18 xfp2_19 tp xen nm nd xkd xsta xpo xva xle xtk xta), (cAB g tp 900 tpf)] rfl ?_
        exact k_zret X hr (zn_b (iv_w iv_21 (by decide) (by decide))) dX9_isOldName_56 (Nat.le_of_ble_eq_true rfl) (Nat.le_of_ble_eq_true rfl) [3, 4, 0, 1, 2] (by decide) rfl rfl ⟨xfn2_18, xfp2_19, xkd, xsta, xpo, xva, xle, xtk, xta, (iv_w hv_xsta (by decide) (by decide)), (iv_w hv_xpo (by decide) (by decide)), (iv_w iv_21 (by decide) (by decide)), (Or.inr ⟨h_1, ⟨r_8, hq_10, (Or.inl ⟨h_11, ⟨r_13, hq_14, (Or.inl ⟨h_15, ⟨xfn2_18, xfp2_19, r_20, hq_22, ⟨rfl, rfl, rfl, rfl, rfl, rfl, rfl, rfl, rfl, rfl⟩⟩⟩)⟩⟩)⟩⟩), rfl⟩
      · skip
        have j_23 : 0 ≤ r_13.toInt := iv_nlt h_15
        have iv_24 : IV r_13 0 2147483647 := iv_leR (iv_nlt h_15) (show IV 0 0 0 from (by decide)) (iv_any r_13) (by decide)
        refine k_aload_n X dX9_isOldName_34 1 rfl ?_
        refine k_get (ci := 9) X inlX9 rfl 7 (by decide) dX9_isOldName_35 mw65 0 rfl rfl ?_
        refine k_iload_n X dX9_isOldName_38 0 rfl ?_
        refine k_iconst (v := 0) X dX9_isOldName_39 (by decide) ?_
        refine k_callVI (n := 2) (As := [.int r_13, .int 0]) (st := []) X [(cO8_iiri nd 16 2 ndc ndn), (cAI g ndc 32 ndf)] [(cO9_i1r1i2r1i1r2i4l1i2 h0 xtpd th xfn xfp tp xen nm nd xkd xsta xpo xva xle xtk xta), (cAB g tp 900 tpf), (cAJ g nm 16 nmf)] [3, 4] [0, 1, 2] (t_at l g nd r_13 0 16 2 ndc ndn 32 ndf (tbk_16_2)) dX9_isOldName_40 mw375 mw376 mw377 mw64 mw378 rfl 8 rfl rfl 0 _ rfl yk_yX8_at_2 rfl (Nat.le_of_ble_eq_true rfl) (Nat.le_of_ble_eq_true rfl) (Nat.le_of_ble_eq_true rfl) (Nat.le_of_ble_eq_true rfl) (Nat.le_of_ble_eq_true rfl) rfl rfl (by decide) rfl (by decide) (by decide) ?_
        rintro r_25 w ⟨hr_26, rfl⟩
        refine k_ws [(cO9_i1r1i2r1i1r2i4l1i2 h0 xtpd th xfn xfp tp xen nm nd xkd xsta xpo xva xle xtk xta), (cAB g tp 900 tpf), (cAJ g nm 16 nmf), (cO8_iiri nd 16 2 ndc ndn), (cAI g ndc 32 ndf)] rfl ?_
        refine k_iload_n X dX9_isOldName_43 2 rfl ?_
        refine k_ic_eq 57 X dX9_isOldName_44 (by decide) (fun h_27 => ?_) (fun h_27 => ?_)
        · skip
          refine k_aload_n X dX9_isOldName_57 1 rfl ?_
          refine k_aload_n X dX9_isOldName_58 1 rfl ?_
          refine k_get (ci := 9) X inlX9 rfl 7 (by decide) dX9_isOldName_59 mw65 0 rfl rfl ?_
          refine k_iload_n X dX9_isOldName_62 0 rfl ?_
          refine k_iconst (v := 1) X dX9_isOldName_63 (by decide) ?_
          refine k_callVI (n := 2) (As := [.int r_13, .int 1]) (st := [.ref h0]) X [(cO8_iiri nd 16 2 ndc ndn), (cAI g ndc 32 ndf)] [(cO9_i1r1i2r1i1r2i4l1i2 h0 xtpd th xfn xfp tp xen nm nd xkd xsta xpo xva xle xtk xta), (cAB g tp 900 tpf), (cAJ g nm 16 nmf)] [3, 4] [0, 1, 2] (t_at l g nd r_13 1 16 2 ndc ndn 32 ndf (tbk_16_2)) dX9_isOldName_64 mw375 mw376 mw377 mw64 mw378 rfl 8 rfl rfl 0 _ rfl yk_yX8_at_2 rfl (Nat.le_of_ble_eq_true rfl) (Nat.le_of_ble_eq_true rfl) (Nat.le_of_ble_eq_true rfl) (Nat.le_of_ble_eq_true rfl) (Nat.le_of_ble_eq_true rfl) rfl rfl (by decide) rfl (by decide) (by decide) ?_
          rintro r_28 w ⟨hr_29, rfl⟩
          refine k_ws [(cO9_i1r1i2r1i1r2i4l1i2 h0 xtpd th xfn xfp tp xen nm nd xkd xsta xpo xva xle xtk xta), (cAB g tp 900 tpf), (cAJ g nm 16 nmf), (cO8_iiri nd 16 2 ndc ndn), (cAI g ndc 32 ndf)] rfl ?_
          refine k_put (ci := 9) [(cO9_i1r1i2r1i1r2i4l1i2 h0 xtpd th xfn xfp tp xen nm nd xkd xsta xpo xva xle r_28 xta), (cAB g tp 900 tpf), (cAJ g nm 16 nmf), (cO8_iiri nd 16 2 ndc ndn), (cAI g ndc 32 ndf)] X inlX9 rfl tyX9_ok nmX9 13 (by decide) rfl dX9_isOldName_67 mw71 0 rfl rfl rfl (Nat.le_of_ble_eq_true rfl) rfl ?_
          refine k_aload_n X dX9_isOldName_70 1 rfl ?_
          refine k_aload_n X dX9_isOldName_71 1 rfl ?_
          refine k_get (ci := 9) X inlX9 rfl 9 (by decide) dX9_isOldName_72 mw67 0 rfl rfl ?_
          refine k_put (ci := 9) [(cO9_i1r1i2r1i1r2i4l1i2 h0 xtpd th xfn xfp tp xen nm nd xkd xsta xpo xva xle r_28 xsta), (cAB g tp 900 tpf), (cAJ g nm 16 nmf), (cO8_iiri nd 16 2 ndc ndn), (cAI g ndc 32 ndf)] X inlX9 rfl tyX9_ok nmX9 14 (by decide) rfl dX9_isOldName_75 mw72 0 rfl rfl rfl (Nat.le_of_ble_eq_true rfl) rfl ?_
          refine k_aload_n X dX9_isOldName_78 1 rfl ?_
          refine k_callVV (n := 0) (As := []) (st := []) X [(cO9_i1r1i2r1i1r2i4l1i2 h0 xtpd th xfn xfp tp xen nm nd xkd xsta xpo xva xle r_28 xsta), (cAB g tp 900 tpf)] [(cAJ g nm 16 nmf), (cO8_iiri nd 16 2 ndc ndn), (cAI g ndc 32 ndf)] [0, 1] [2, 3, 4] (x_nextX l g h0 xtpd th xfn xfp tp xen nm nd xkd xsta xpo xva xle r_28 xsta tpf (iv_w hv_xen (by decide) (by decide)) (iv_w hv_xpo (by decide) (by decide))) dX9_isOldName_79 mw237 mw238 mw239 mw15 mw240 rfl 9 rfl rfl 0 _ rfl yk_yX9_next_0 rfl (Nat.le_of_ble_eq_true rfl) (Nat.le_of_ble_eq_true rfl) (Nat.le_of_ble_eq_true rfl) (Nat.le_of_ble_eq_true rfl) (Nat.le_of_ble_eq_true rfl) rfl rfl (by decide) rfl (by decide) (by decide) ?_
          rintro w ⟨xkd2_30, xsta2_31, xpo2_32, xva2_33, xle2_34, iv_36, iv_37, iv_38, hq_39, rfl⟩
          refine k_ws [(cAJ g nm 16 nmf), (cO8_iiri nd 16 2 ndc ndn), (cAI g ndc 32 ndf), (cO9_i1r1i2r1i1r2i4l1i2 h0 xtpd th xfn xfp tp xen nm nd xkd2_30 xsta2_31 xpo2_32 xva2_33 xle2_34 r_28 xsta), (cAB g tp 900 tpf)] rfl ?_
          refine k_iconst (v := 1) X dX9_isOldName_82 (by decide) ?_
          exact k_zret X hr (by first | rfl | decide) dX9_isOldName_83 (Nat.le_of_ble_eq_true rfl) (Nat.le_of_ble_eq_true rfl) [3, 4, 0, 1, 2] (by decide) rfl rfl ⟨xfn, xfp, xkd2_30, xsta2_31, xpo2_32, xva2_33, xle2_34, r_28, xsta, (iv_w iv_36 (by decide) (by decide)), (iv_w iv_37 (by decide) (by decide)), (iv_w (show IV 1 1 1 from (by decide)) (by decide) (by decide)), (Or.inr ⟨h_1, ⟨r_8, hq_10, (Or.inl ⟨h_11, ⟨r_13, hq_14, (Or.inr ⟨h_15, ⟨r_25, hr_26, (Or.inl ⟨h_27, ⟨r_28, hr_29, ⟨xkd2_30, xsta2_31, xpo2_32, xva2_33, xle2_34, hq_39, ⟨rfl, rfl, rfl, rfl, rfl, rfl, rfl, rfl, rfl, rfl⟩⟩⟩⟩)⟩⟩)⟩⟩)⟩⟩), rfl⟩
        · skip
          refine k_aload_n X dX9_isOldName_47 1 rfl ?_
          refine k_iconst (v := 2) X dX9_isOldName_48 (by decide) ?_
          refine k_aload_n X dX9_isOldName_49 1 rfl ?_
          refine k_get (ci := 9) X inlX9 rfl 9 (by decide) dX9_isOldName_50 mw67 0 rfl rfl ?_
          refine k_callVI (n := 2) (As := [.int 2, .int xsta]) (st := []) X [(cO9_i1r1i2r1i1r2i4l1i2 h0 xtpd th xfn xfp tp xen nm nd xkd xsta xpo xva xle xtk xta), (cAB g tp 900 tpf)] [(cAJ g nm 16 nmf), (cO8_iiri nd 16 2 ndc ndn), (cAI g ndc 32 ndf)] [0, 1] [2, 3, 4] (x_refuseAtX l g h0 2 xsta xtpd th xfn xfp tp xen nm nd xkd xsta xpo xva xle xtk xta tpf) dX9_isOldName_53 mw309 mw310 mw311 mw15 mw312 rfl 9 rfl rfl 0 _ rfl yk_yX9_refuseAt_2 rfl (Nat.le_of_ble_eq_true rfl) (Nat.le_of_ble_eq_true rfl) (Nat.le_of_ble_eq_true rfl) (Nat.le_of_ble_eq_true rfl) (Nat.le_of_ble_eq_true rfl) rfl rfl (by decide) rfl (by decide) (by decide) ?_
          rintro r_42 w ⟨xfn2_40, xfp2_41, iv_43, hq_44, rfl⟩
          refine k_ws [(cAJ g nm 16 nmf), (cO8_iiri nd 16 2 ndc ndn), (cAI g ndc 32 ndf), (cO9_i1r1i2r1i1r2i4l1i2 h0 xtpd th xfn2_40 xfp2_41 tp xen nm nd xkd xsta xpo xva xle xtk xta), (cAB g tp 900 tpf)] rfl ?_
          exact k_zret X hr (zn_b (iv_w iv_43 (by decide) (by decide))) dX9_isOldName_56 (Nat.le_of_ble_eq_true rfl) (Nat.le_of_ble_eq_true rfl) [3, 4, 0, 1, 2] (by decide) rfl rfl ⟨xfn2_40, xfp2_41, xkd, xsta, xpo, xva, xle, xtk, xta, (iv_w hv_xsta (by decide) (by decide)), (iv_w hv_xpo (by decide) (by decide)), (iv_w iv_43 (by decide) (by decide)), (Or.inr ⟨h_1, ⟨r_8, hq_10, (Or.inl ⟨h_11, ⟨r_13, hq_14, (Or.inr ⟨h_15, ⟨r_25, hr_26, (Or.inr ⟨h_27, ⟨xfn2_40, xfp2_41, r_42, hq_44, ⟨rfl, rfl, rfl, rfl, rfl, rfl, rfl, rfl, rfl, rfl⟩⟩⟩)⟩⟩)⟩⟩)⟩⟩), rfl⟩
    · skip
      have iv_45 : IV r_8 1 1 := iv_neL h_11 iv_9 (show IV 0 0 0 from (by decide)) (by decide)
      refine k_aload_n X dX9_isOldName_15 0 rfl ?_
      refine k_iconst (v := 1) X dX9_isOldName_16 (by decide) ?_
      refine k_aload_n X dX9_isOldName_17 0 rfl ?_
      refine k_get (ci := 9) X inlX9 rfl 9 (by decide) dX9_isOldName_18 mw67 3 rfl rfl ?_
      refine k_callVI (n := 2) (As := [.int 1, .int xsta]) (st := []) X [(cO9_i1r1i2r1i1r2i4l1i2 h0 xtpd th xfn xfp tp xen nm nd xkd xsta xpo xva xle xtk xta), (cAB g tp 900 tpf)] [(cAJ g nm 16 nmf), (cO8_iiri nd 16 2 ndc ndn), (cAI g ndc 32 ndf)] [3, 4] [0, 1, 2] (x_refuseAtX l g h0 1 xsta xtpd th xfn xfp tp xen nm nd xkd xsta xpo xva xle xtk xta tpf) dX9_isOldName_21 mw309 mw310 mw311 mw15 mw312 rfl 9 rfl rfl 0 _ rfl yk_yX9_refuseAt_2 rfl (Nat.le_of_ble_eq_true rfl) (Nat.le_of_ble_eq_true rfl) (Nat.le_of_ble_eq_true rfl) (Nat.le_of_ble_eq_true rfl) (Nat.le_of_ble_eq_true rfl) rfl rfl (by decide) rfl (by decide) (by decide) ?_
      rintro r_48 w ⟨xfn2_46, xfp2_47, iv_49, hq_50, rfl⟩
      refine k_ws [(cAJ g nm 16 nmf), (cO8_iiri nd 16 2 ndc ndn), (cAI g ndc 32 ndf), (cO9_i1r1i2r1i1r2i4l1i2 h0 xtpd th xfn2_46 xfp2_47 tp xen nm nd xkd xsta xpo xva xle xtk xta), (cAB g tp 900 tpf)] rfl ?_
      exact k_zret X hr (zn_b (iv_w iv_49 (by decide) (by decide))) dX9_isOldName_24 (Nat.le_of_ble_eq_true rfl) (Nat.le_of_ble_eq_true rfl) [3, 4, 0, 1, 2] (by decide) rfl rfl ⟨xfn2_46, xfp2_47, xkd, xsta, xpo, xva, xle, xtk, xta, (iv_w hv_xsta (by decide) (by decide)), (iv_w hv_xpo (by decide) (by decide)), (iv_w iv_49 (by decide) (by decide)), (Or.inr ⟨h_1, ⟨r_8, hq_10, (Or.inr ⟨h_11, ⟨xfn2_46, xfp2_47, r_48, hq_50, ⟨rfl, rfl, rfl, rfl, rfl, rfl, rfl, rfl, rfl, rfl⟩⟩⟩)⟩⟩), rfl⟩


set_option maxHeartbeats 4000000 in
set_option maxRecDepth 100000 in
theorem x_hasRoom0X (l : Launch) (g : Gx) (h0 : Nat) (tt : Nat) (xtpd : Int32) (th : Nat) (xfn : Int32) (xfp : Int32) (tp : Nat) (xen : Int32) (nm : Nat) (nd : Nat) (xkd : Int32) (xsta : Int32) (xpo : Int32) (xva : Int32) (xle : Int64) (xtk : Int32) (xta : Int32) (tpf : Nat → Int32) (ttc : Nat) (ttn : Int32) (ttf : Nat → Int32) (hv_xen : IV xen 0 900) (hv_xsta : IV xsta 0 900) (hv_xpo : IV xpo 0 900) : cI l g yX9_hasRoom cX9_hasRoom 2 (some .boolean) 2 42 0 0 [.ref h0, .ref tt] [(cO9_i1r1i2r1i1r2i4l1i2 h0 xtpd th xfn xfp tp xen nm nd xkd xsta xpo xva xle xtk xta), (cAB g tp 900 tpf), (cO8_iiri tt 8 3 ttc ttn), (cAI g ttc 24 ttf)] (fun r w => ∃ (xfn2 : Int32) (xfp2 : Int32) (xkd2 : Int32) (xsta2 : Int32) (xpo2 : Int32) (xva2 : Int32) (xle2 : Int64), IV xsta2 0 900 ∧ IV xpo2 0 900 ∧ IV r 0 1 ∧ (R_x_hasRoom0X xfn xfp xen xkd xsta xpo xva xle tpf ttn xfn2 xfp2 xkd2 xsta2 xpo2 xva2 xle2 r) ∧ w = [(cO9_i1r1i2r1i1r2i4l1i2 h0 xtpd th xfn2 xfp2 tp xen nm nd xkd2 xsta2 xpo2 xva2 xle2 xtk xta), (cAB g tp 900 tpf), (cO8_iiri tt 8 3 ttc ttn), (cAI g ttc 24 ttf)]) := by
  refine cI.of (by decide) (Nat.le_of_ble_eq_true rfl) ?_
  intro p e s m args below meth c A X hr hi
  refine k_lveq [(0, .ref h0), (1, .ref tt)] rfl ?_
  refine k_aload_n X dX9_hasRoom_0 1 rfl ?_
  refine k_callVI (n := 0) (As := []) (st := []) X [(cO8_iiri tt 8 3 ttc ttn)] [(cO9_i1r1i2r1i1r2i4l1i2 h0 xtpd th xfn xfp tp xen nm nd xkd xsta xpo xva xle xtk xta), (cAB g tp 900 tpf), (cAI g ttc 24 ttf)] [2] [0, 1, 3] (t_isFull l g tt 8 (.int 3) (.ref ttc) ttn) dX9_hasRoom_1 mw343 mw344 mw345 mw64 mw346 rfl 8 rfl rfl 0 _ rfl yk_yX8_isFull_0 rfl (Nat.le_of_ble_eq_true rfl) (Nat.le_of_ble_eq_true rfl) (Nat.le_of_ble_eq_true rfl) (Nat.le_of_ble_eq_true rfl) (Nat.le_of_ble_eq_true rfl) rfl rfl (by decide) rfl (by decide) (by decide) ?_
  rintro r_1 w ⟨hr_2, rfl⟩
  refine k_ws [(cO9_i1r1i2r1i1r2i4l1i2 h0 xtpd th xfn xfp tp xen nm nd xkd xsta xpo xva xle xtk xta), (cAB g tp 900 tpf), (cAI g ttc 24 ttf), (cO8_iiri tt 8 3 ttc ttn)] rfl ?_
  refine k_if_eq 17 X dX9_hasRoom_4 (by decide) (fun h_3 => ?_) (fun h_3 => ?_)
  · skip
    have iv_4 : IV r_1 0 0 := iv_meet (iv_any r_1) (iv_e h_3 (show IV 0 0 0 from (by decide))) (by decide) (by decide)
    refine k_aload_n X dX9_hasRoom_17 0 rfl ?_
    refine k_callVV (n := 0) (As := []) (st := []) X [(cO9_i1r1i2r1i1r2i4l1i2 h0 xtpd th xfn xfp tp xen nm nd xkd xsta xpo xva xle xtk xta), (cAB g tp 900 tpf)] [(cAI g ttc 24 ttf), (cO8_iiri tt 8 3 ttc ttn)] [0, 1] [2, 3] (x_nextX l g h0 xtpd th xfn xfp tp xen nm nd xkd xsta xpo xva xle xtk xta tpf (iv_w hv_xen (by decide) (by decide)) (iv_w hv_xpo (by decide) (by decide))) dX9_hasRoom_18 mw237 mw238 mw239 mw15 mw240 rfl 9 rfl rfl 0 _ rfl yk_yX9_next_0 rfl (Nat.le_of_ble_eq_true rfl) (Nat.le_of_ble_eq_true rfl) (Nat.le_of_ble_eq_true rfl) (Nat.le_of_ble_eq_true rfl) (Nat.le_of_ble_eq_true rfl) rfl rfl (by decide) rfl (by decide) (by decide) ?_
    rintro w ⟨xkd2_5, xsta2_6, xpo2_7, xva2_8, xle2_9, iv_11, iv_12, iv_13, hq_14, rfl⟩
    refine k_ws [(cAI g ttc 24 ttf), (cO8_iiri tt 8 3 ttc ttn), (cO9_i1r1i2r1i1r2i4l1i2 h0 xtpd th xfn xfp tp xen nm nd xkd2_5 xsta2_6 xpo2_7 xva2_8 xle2_9 xtk xta), (cAB g tp 900 tpf)] rfl ?_
    refine k_iconst (v := 1) X dX9_hasRoom_21 (by decide) ?_
    exact k_zret X hr (by first | rfl | decide) dX9_hasRoom_22 (Nat.le_of_ble_eq_true rfl) (Nat.le_of_ble_eq_true rfl) [2, 3, 1, 0] (by decide) rfl rfl ⟨xfn, xfp, xkd2_5, xsta2_6, xpo2_7, xva2_8, xle2_9, (iv_w iv_11 (by decide) (by decide)), (iv_w iv_12 (by decide) (by decide)), (iv_w (show IV 1 1 1 from (by decide)) (by decide) (by decide)), ⟨r_1, hr_2, (Or.inl ⟨h_3, ⟨xkd2_5, xsta2_6, xpo2_7, xva2_8, xle2_9, hq_14, ⟨rfl, rfl, rfl, rfl, rfl, rfl, rfl, rfl⟩⟩⟩)⟩, rfl⟩
  · skip
    refine k_aload_n X dX9_hasRoom_7 0 rfl ?_
    refine k_iconst (v := 5) X dX9_hasRoom_8 (by decide) ?_
    refine k_aload_n X dX9_hasRoom_9 0 rfl ?_
    refine k_get (ci := 9) X inlX9 rfl 9 (by decide) dX9_hasRoom_10 mw67 0 rfl rfl ?_
    refine k_callVI (n := 2) (As := [.int 5, .int xsta]) (st := []) X [(cO9_i1r1i2r1i1r2i4l1i2 h0 xtpd th xfn xfp tp xen nm nd xkd xsta xpo xva xle xtk xta), (cAB g tp 900 tpf)] [(cAI g ttc 24 ttf), (cO8_iiri tt 8 3 ttc ttn)] [0, 1] [2, 3] (x_refuseAtX l g h0 5 xsta xtpd th xfn xfp tp xen nm nd xkd xsta xpo xva xle xtk xta tpf) dX9_hasRoom_13 mw309 mw310 mw311 mw15 mw312 rfl 9 rfl rfl 0 _ rfl yk_yX9_refuseAt_2 rfl (Nat.le_of_ble_eq_true rfl) (Nat.le_of_ble_eq_true rfl) (Nat.le_of_ble_eq_true rfl) (Nat.le_of_ble_eq_true rfl) (Nat.le_of_ble_eq_true rfl) rfl rfl (by decide) rfl (by decide) (by decide) ?_
    rintro r_17 w ⟨xfn2_15, xfp2_16, iv_18, hq_19, rfl⟩
    refine k_ws [(cAI g ttc 24 ttf), (cO8_iiri tt 8 3 ttc ttn), (cO9_i1r1i2r1i1r2i4l1i2 h0 xtpd th xfn2_15 xfp2_16 tp xen nm nd xkd xsta xpo xva xle xtk xta), (cAB g tp 900 tpf)] rfl ?_
    exact k_zret X hr (zn_b (iv_w iv_18 (by decide) (by decide))) dX9_hasRoom_16 (Nat.le_of_ble_eq_true rfl) (Nat.le_of_ble_eq_true rfl) [2, 3, 1, 0] (by decide) rfl rfl ⟨xfn2_15, xfp2_16, xkd, xsta, xpo, xva, xle, (iv_w hv_xsta (by decide) (by decide)), (iv_w hv_xpo (by decide) (by decide)), (iv_w iv_18 (by decide) (by decide)), ⟨r_1, hr_2, (Or.inr ⟨h_3, ⟨xfn2_15, xfp2_16, r_17, hq_19, ⟨rfl, rfl, rfl, rfl, rfl, rfl, rfl, rfl⟩⟩⟩)⟩, rfl⟩


set_option maxHeartbeats 4000000 in
set_option maxRecDepth 100000 in
theorem x_hasRoom1X (l : Launch) (g : Gx) (h0 : Nat) (tt : Nat) (xtpd : Int32) (th : Nat) (xfn : Int32) (xfp : Int32) (tp : Nat) (xen : Int32) (nm : Nat) (nd : Nat) (xkd : Int32) (xsta : Int32) (xpo : Int32) (xva : Int32) (xle : Int64) (xtk : Int32) (xta : Int32) (tpf : Nat → Int32) (ttc : Nat) (ttn : Int32) (ttf : Nat → Int32) (hv_xen : IV xen 0 900) (hv_xsta : IV xsta 0 900) (hv_xpo : IV xpo 0 900) : cI l g yX9_hasRoom cX9_hasRoom 2 (some .boolean) 2 42 0 0 [.ref h0, .ref tt] [(cO9_i1r1i2r1i1r2i4l1i2 h0 xtpd th xfn xfp tp xen nm nd xkd xsta xpo xva xle xtk xta), (cAB g tp 900 tpf), (cO8_iiri tt 4 1 ttc ttn), (cAI g ttc 4 ttf)] (fun r w => ∃ (xfn2 : Int32) (xfp2 : Int32) (xkd2 : Int32) (xsta2 : Int32) (xpo2 : Int32) (xva2 : Int32) (xle2 : Int64), IV xsta2 0 900 ∧ IV xpo2 0 900 ∧ IV r 0 1 ∧ (R_x_hasRoom1X xfn xfp xen xkd xsta xpo xva xle tpf ttn xfn2 xfp2 xkd2 xsta2 xpo2 xva2 xle2 r) ∧ w = [(cO9_i1r1i2r1i1r2i4l1i2 h0 xtpd th xfn2 xfp2 tp xen nm nd xkd2 xsta2 xpo2 xva2 xle2 xtk xta), (cAB g tp 900 tpf), (cO8_iiri tt 4 1 ttc ttn), (cAI g ttc 4 ttf)]) := by
  refine cI.of (by decide) (Nat.le_of_ble_eq_true rfl) ?_
  intro p e s m args below meth c A X hr hi
  refine k_lveq [(0, .ref h0), (1, .ref tt)] rfl ?_
  refine k_aload_n X dX9_hasRoom_0 1 rfl ?_
  refine k_callVI (n := 0) (As := []) (st := []) X [(cO8_iiri tt 4 1 ttc ttn)] [(cO9_i1r1i2r1i1r2i4l1i2 h0 xtpd th xfn xfp tp xen nm nd xkd xsta xpo xva xle xtk xta), (cAB g tp 900 tpf), (cAI g ttc 4 ttf)] [2] [0, 1, 3] (t_isFull l g tt 4 (.int 1) (.ref ttc) ttn) dX9_hasRoom_1 mw343 mw344 mw345 mw64 mw346 rfl 8 rfl rfl 0 _ rfl yk_yX8_isFull_0 rfl (Nat.le_of_ble_eq_true rfl) (Nat.le_of_ble_eq_true rfl) (Nat.le_of_ble_eq_true rfl) (Nat.le_of_ble_eq_true rfl) (Nat.le_of_ble_eq_true rfl) rfl rfl (by decide) rfl (by decide) (by decide) ?_
  rintro r_1 w ⟨hr_2, rfl⟩
  refine k_ws [(cO9_i1r1i2r1i1r2i4l1i2 h0 xtpd th xfn xfp tp xen nm nd xkd xsta xpo xva xle xtk xta), (cAB g tp 900 tpf), (cAI g ttc 4 ttf), (cO8_iiri tt 4 1 ttc ttn)] rfl ?_
  refine k_if_eq 17 X dX9_hasRoom_4 (by decide) (fun h_3 => ?_) (fun h_3 => ?_)
  · skip
    have iv_4 : IV r_1 0 0 := iv_meet (iv_any r_1) (iv_e h_3 (show IV 0 0 0 from (by decide))) (by decide) (by decide)
    refine k_aload_n X dX9_hasRoom_17 0 rfl ?_
    refine k_callVV (n := 0) (As := []) (st := []) X [(cO9_i1r1i2r1i1r2i4l1i2 h0 xtpd th xfn xfp tp xen nm nd xkd xsta xpo xva xle xtk xta), (cAB g tp 900 tpf)] [(cAI g ttc 4 ttf), (cO8_iiri tt 4 1 ttc ttn)] [0, 1] [2, 3] (x_nextX l g h0 xtpd th xfn xfp tp xen nm nd xkd xsta xpo xva xle xtk xta tpf (iv_w hv_xen (by decide) (by decide)) (iv_w hv_xpo (by decide) (by decide))) dX9_hasRoom_18 mw237 mw238 mw239 mw15 mw240 rfl 9 rfl rfl 0 _ rfl yk_yX9_next_0 rfl (Nat.le_of_ble_eq_true rfl) (Nat.le_of_ble_eq_true rfl) (Nat.le_of_ble_eq_true rfl) (Nat.le_of_ble_eq_true rfl) (Nat.le_of_ble_eq_true rfl) rfl rfl (by decide) rfl (by decide) (by decide) ?_
    rintro w ⟨xkd2_5, xsta2_6, xpo2_7, xva2_8, xle2_9, iv_11, iv_12, iv_13, hq_14, rfl⟩
    refine k_ws [(cAI g ttc 4 ttf), (cO8_iiri tt 4 1 ttc ttn), (cO9_i1r1i2r1i1r2i4l1i2 h0 xtpd th xfn xfp tp xen nm nd xkd2_5 xsta2_6 xpo2_7 xva2_8 xle2_9 xtk xta), (cAB g tp 900 tpf)] rfl ?_
    refine k_iconst (v := 1) X dX9_hasRoom_21 (by decide) ?_
    exact k_zret X hr (by first | rfl | decide) dX9_hasRoom_22 (Nat.le_of_ble_eq_true rfl) (Nat.le_of_ble_eq_true rfl) [2, 3, 1, 0] (by decide) rfl rfl ⟨xfn, xfp, xkd2_5, xsta2_6, xpo2_7, xva2_8, xle2_9, (iv_w iv_11 (by decide) (by decide)), (iv_w iv_12 (by decide) (by decide)), (iv_w (show IV 1 1 1 from (by decide)) (by decide) (by decide)), ⟨r_1, hr_2, (Or.inl ⟨h_3, ⟨xkd2_5, xsta2_6, xpo2_7, xva2_8, xle2_9, hq_14, ⟨rfl, rfl, rfl, rfl, rfl, rfl, rfl, rfl⟩⟩⟩)⟩, rfl⟩
  · skip
    refine k_aload_n X dX9_hasRoom_7 0 rfl ?_
    refine k_iconst (v := 5) X dX9_hasRoom_8 (by decide) ?_
    refine k_aload_n X dX9_hasRoom_9 0 rfl ?_
    refine k_get (ci := 9) X inlX9 rfl 9 (by decide) dX9_hasRoom_10 mw67 0 rfl rfl ?_
    refine k_callVI (n := 2) (As := [.int 5, .int xsta]) (st := []) X [(cO9_i1r1i2r1i1r2i4l1i2 h0 xtpd th xfn xfp tp xen nm nd xkd xsta xpo xva xle xtk xta), (cAB g tp 900 tpf)] [(cAI g ttc 4 ttf), (cO8_iiri tt 4 1 ttc ttn)] [0, 1] [2, 3] (x_refuseAtX l g h0 5 xsta xtpd th xfn xfp tp xen nm nd xkd xsta xpo xva xle xtk xta tpf) dX9_hasRoom_13 mw309 mw310 mw311 mw15 mw312 rfl 9 rfl rfl 0 _ rfl yk_yX9_refuseAt_2 rfl (Nat.le_of_ble_eq_true rfl) (Nat.le_of_ble_eq_true rfl) (Nat.le_of_ble_eq_true rfl) (Nat.le_of_ble_eq_true rfl) (Nat.le_of_ble_eq_true rfl) rfl rfl (by decide) rfl (by decide) (by decide) ?_
    rintro r_17 w ⟨xfn2_15, xfp2_16, iv_18, hq_19, rfl⟩
    refine k_ws [(cAI g ttc 4 ttf), (cO8_iiri tt 4 1 ttc ttn), (cO9_i1r1i2r1i1r2i4l1i2 h0 xtpd th xfn2_15 xfp2_16 tp xen nm nd xkd xsta xpo xva xle xtk xta), (cAB g tp 900 tpf)] rfl ?_
    exact k_zret X hr (zn_b (iv_w iv_18 (by decide) (by decide))) dX9_hasRoom_16 (Nat.le_of_ble_eq_true rfl) (Nat.le_of_ble_eq_true rfl) [2, 3, 1, 0] (by decide) rfl rfl ⟨xfn2_15, xfp2_16, xkd, xsta, xpo, xva, xle, (iv_w hv_xsta (by decide) (by decide)), (iv_w hv_xpo (by decide) (by decide)), (iv_w iv_18 (by decide) (by decide)), ⟨r_1, hr_2, (Or.inr ⟨h_3, ⟨xfn2_15, xfp2_16, r_17, hq_19, ⟨rfl, rfl, rfl, rfl, rfl, rfl, rfl, rfl⟩⟩⟩)⟩, rfl⟩


set_option maxHeartbeats 4000000 in
set_option maxRecDepth 100000 in
theorem x_hasRoom2X (l : Launch) (g : Gx) (h0 : Nat) (tt : Nat) (xtpd : Int32) (th : Nat) (xfn : Int32) (xfp : Int32) (tp : Nat) (xen : Int32) (nm : Nat) (nd : Nat) (xkd : Int32) (xsta : Int32) (xpo : Int32) (xva : Int32) (xle : Int64) (xtk : Int32) (xta : Int32) (tpf : Nat → Int32) (ttc : Nat) (ttn : Int32) (ttf : Nat → Int32) (hv_xen : IV xen 0 900) (hv_xsta : IV xsta 0 900) (hv_xpo : IV xpo 0 900) : cI l g yX9_hasRoom cX9_hasRoom 2 (some .boolean) 2 42 0 0 [.ref h0, .ref tt] [(cO9_i1r1i2r1i1r2i4l1i2 h0 xtpd th xfn xfp tp xen nm nd xkd xsta xpo xva xle xtk xta), (cAB g tp 900 tpf), (cO8_iiri tt 12 3 ttc ttn), (cAI g ttc 36 ttf)] (fun r w => ∃ (xfn2 : Int32) (xfp2 : Int32) (xkd2 : Int32) (xsta2 : Int32) (xpo2 : Int32) (xva2 : Int32) (xle2 : Int64), IV xsta2 0 900 ∧ IV xpo2 0 900 ∧ IV r 0 1 ∧ (R_x_hasRoom2X xfn xfp xen xkd xsta xpo xva xle tpf ttn xfn2 xfp2 xkd2 xsta2 xpo2 xva2 xle2 r) ∧ w = [(cO9_i1r1i2r1i1r2i4l1i2 h0 xtpd th xfn2 xfp2 tp xen nm nd xkd2 xsta2 xpo2 xva2 xle2 xtk xta), (cAB g tp 900 tpf), (cO8_iiri tt 12 3 ttc ttn), (cAI g ttc 36 ttf)]) := by
  refine cI.of (by decide) (Nat.le_of_ble_eq_true rfl) ?_
  intro p e s m args below meth c A X hr hi
  refine k_lveq [(0, .ref h0), (1, .ref tt)] rfl ?_
  refine k_aload_n X dX9_hasRoom_0 1 rfl ?_
  refine k_callVI (n := 0) (As := []) (st := []) X [(cO8_iiri tt 12 3 ttc ttn)] [(cO9_i1r1i2r1i1r2i4l1i2 h0 xtpd th xfn xfp tp xen nm nd xkd xsta xpo xva xle xtk xta), (cAB g tp 900 tpf), (cAI g ttc 36 ttf)] [2] [0, 1, 3] (t_isFull l g tt 12 (.int 3) (.ref ttc) ttn) dX9_hasRoom_1 mw343 mw344 mw345 mw64 mw346 rfl 8 rfl rfl 0 _ rfl yk_yX8_isFull_0 rfl (Nat.le_of_ble_eq_true rfl) (Nat.le_of_ble_eq_true rfl) (Nat.le_of_ble_eq_true rfl) (Nat.le_of_ble_eq_true rfl) (Nat.le_of_ble_eq_true rfl) rfl rfl (by decide) rfl (by decide) (by decide) ?_
  rintro r_1 w ⟨hr_2, rfl⟩
  refine k_ws [(cO9_i1r1i2r1i1r2i4l1i2 h0 xtpd th xfn xfp tp xen nm nd xkd xsta xpo xva xle xtk xta), (cAB g tp 900 tpf), (cAI g ttc 36 ttf), (cO8_iiri tt 12 3 ttc ttn)] rfl ?_
  refine k_if_eq 17 X dX9_hasRoom_4 (by decide) (fun h_3 => ?_) (fun h_3 => ?_)
  · skip
    have iv_4 : IV r_1 0 0 := iv_meet (iv_any r_1) (iv_e h_3 (show IV 0 0 0 from (by decide))) (by decide) (by decide)
    refine k_aload_n X dX9_hasRoom_17 0 rfl ?_
    refine k_callVV (n := 0) (As := []) (st := []) X [(cO9_i1r1i2r1i1r2i4l1i2 h0 xtpd th xfn xfp tp xen nm nd xkd xsta xpo xva xle xtk xta), (cAB g tp 900 tpf)] [(cAI g ttc 36 ttf), (cO8_iiri tt 12 3 ttc ttn)] [0, 1] [2, 3] (x_nextX l g h0 xtpd th xfn xfp tp xen nm nd xkd xsta xpo xva xle xtk xta tpf (iv_w hv_xen (by decide) (by decide)) (iv_w hv_xpo (by decide) (by decide))) dX9_hasRoom_18 mw237 mw238 mw239 mw15 mw240 rfl 9 rfl rfl 0 _ rfl yk_yX9_next_0 rfl (Nat.le_of_ble_eq_true rfl) (Nat.le_of_ble_eq_true rfl) (Nat.le_of_ble_eq_true rfl) (Nat.le_of_ble_eq_true rfl) (Nat.le_of_ble_eq_true rfl) rfl rfl (by decide) rfl (by decide) (by decide) ?_
    rintro w ⟨xkd2_5, xsta2_6, xpo2_7, xva2_8, xle2_9, iv_11, iv_12, iv_13, hq_14, rfl⟩
    refine k_ws [(cAI g ttc 36 ttf), (cO8_iiri tt 12 3 ttc ttn), (cO9_i1r1i2r1i1r2i4l1i2 h0 xtpd th xfn xfp tp xen nm nd xkd2_5 xsta2_6 xpo2_7 xva2_8 xle2_9 xtk xta), (cAB g tp 900 tpf)] rfl ?_
    refine k_iconst (v := 1) X dX9_hasRoom_21 (by decide) ?_
    exact k_zret X hr (by first | rfl | decide) dX9_hasRoom_22 (Nat.le_of_ble_eq_true rfl) (Nat.le_of_ble_eq_true rfl) [2, 3, 1, 0] (by decide) rfl rfl ⟨xfn, xfp, xkd2_5, xsta2_6, xpo2_7, xva2_8, xle2_9, (iv_w iv_11 (by decide) (by decide)), (iv_w iv_12 (by decide) (by decide)), (iv_w (show IV 1 1 1 from (by decide)) (by decide) (by decide)), ⟨r_1, hr_2, (Or.inl ⟨h_3, ⟨xkd2_5, xsta2_6, xpo2_7, xva2_8, xle2_9, hq_14, ⟨rfl, rfl, rfl, rfl, rfl, rfl, rfl, rfl⟩⟩⟩)⟩, rfl⟩
  · skip
    refine k_aload_n X dX9_hasRoom_7 0 rfl ?_
    refine k_iconst (v := 5) X dX9_hasRoom_8 (by decide) ?_
    refine k_aload_n X dX9_hasRoom_9 0 rfl ?_
    refine k_get (ci := 9) X inlX9 rfl 9 (by decide) dX9_hasRoom_10 mw67 0 rfl rfl ?_
    refine k_callVI (n := 2) (As := [.int 5, .int xsta]) (st := []) X [(cO9_i1r1i2r1i1r2i4l1i2 h0 xtpd th xfn xfp tp xen nm nd xkd xsta xpo xva xle xtk xta), (cAB g tp 900 tpf)] [(cAI g ttc 36 ttf), (cO8_iiri tt 12 3 ttc ttn)] [0, 1] [2, 3] (x_refuseAtX l g h0 5 xsta xtpd th xfn xfp tp xen nm nd xkd xsta xpo xva xle xtk xta tpf) dX9_hasRoom_13 mw309 mw310 mw311 mw15 mw312 rfl 9 rfl rfl 0 _ rfl yk_yX9_refuseAt_2 rfl (Nat.le_of_ble_eq_true rfl) (Nat.le_of_ble_eq_true rfl) (Nat.le_of_ble_eq_true rfl) (Nat.le_of_ble_eq_true rfl) (Nat.le_of_ble_eq_true rfl) rfl rfl (by decide) rfl (by decide) (by decide) ?_
    rintro r_17 w ⟨xfn2_15, xfp2_16, iv_18, hq_19, rfl⟩
    refine k_ws [(cAI g ttc 36 ttf), (cO8_iiri tt 12 3 ttc ttn), (cO9_i1r1i2r1i1r2i4l1i2 h0 xtpd th xfn2_15 xfp2_16 tp xen nm nd xkd xsta xpo xva xle xtk xta), (cAB g tp 900 tpf)] rfl ?_
    exact k_zret X hr (zn_b (iv_w iv_18 (by decide) (by decide))) dX9_hasRoom_16 (Nat.le_of_ble_eq_true rfl) (Nat.le_of_ble_eq_true rfl) [2, 3, 1, 0] (by decide) rfl rfl ⟨xfn2_15, xfp2_16, xkd, xsta, xpo, xva, xle, (iv_w hv_xsta (by decide) (by decide)), (iv_w hv_xpo (by decide) (by decide)), (iv_w iv_18 (by decide) (by decide)), ⟨r_1, hr_2, (Or.inr ⟨h_3, ⟨xfn2_15, xfp2_16, r_17, hq_19, ⟨rfl, rfl, rfl, rfl, rfl, rfl, rfl, rfl⟩⟩⟩)⟩, rfl⟩


set_option maxHeartbeats 4000000 in
set_option maxRecDepth 100000 in
theorem x_hasRoom3X (l : Launch) (g : Gx) (h0 : Nat) (tt : Nat) (xtpd : Int32) (th : Nat) (xfn : Int32) (xfp : Int32) (tp : Nat) (xen : Int32) (nm : Nat) (nd : Nat) (xkd : Int32) (xsta : Int32) (xpo : Int32) (xva : Int32) (xle : Int64) (xtk : Int32) (xta : Int32) (tpf : Nat → Int32) (ttc : Nat) (ttn : Int32) (ttf : Nat → Int32) (hv_xen : IV xen 0 900) (hv_xsta : IV xsta 0 900) (hv_xpo : IV xpo 0 900) : cI l g yX9_hasRoom cX9_hasRoom 2 (some .boolean) 2 42 0 0 [.ref h0, .ref tt] [(cO9_i1r1i2r1i1r2i4l1i2 h0 xtpd th xfn xfp tp xen nm nd xkd xsta xpo xva xle xtk xta), (cAB g tp 900 tpf), (cO8_iiri tt 8 2 ttc ttn), (cAI g ttc 16 ttf)] (fun r w => ∃ (xfn2 : Int32) (xfp2 : Int32) (xkd2 : Int32) (xsta2 : Int32) (xpo2 : Int32) (xva2 : Int32) (xle2 : Int64), IV xsta2 0 900 ∧ IV xpo2 0 900 ∧ IV r 0 1 ∧ (R_x_hasRoom3X xfn xfp xen xkd xsta xpo xva xle tpf ttn xfn2 xfp2 xkd2 xsta2 xpo2 xva2 xle2 r) ∧ w = [(cO9_i1r1i2r1i1r2i4l1i2 h0 xtpd th xfn2 xfp2 tp xen nm nd xkd2 xsta2 xpo2 xva2 xle2 xtk xta), (cAB g tp 900 tpf), (cO8_iiri tt 8 2 ttc ttn), (cAI g ttc 16 ttf)]) := by
  refine cI.of (by decide) (Nat.le_of_ble_eq_true rfl) ?_
  intro p e s m args below meth c A X hr hi
  refine k_lveq [(0, .ref h0), (1, .ref tt)] rfl ?_
  refine k_aload_n X dX9_hasRoom_0 1 rfl ?_
  refine k_callVI (n := 0) (As := []) (st := []) X [(cO8_iiri tt 8 2 ttc ttn)] [(cO9_i1r1i2r1i1r2i4l1i2 h0 xtpd th xfn xfp tp xen nm nd xkd xsta xpo xva xle xtk xta), (cAB g tp 900 tpf), (cAI g ttc 16 ttf)] [2] [0, 1, 3] (t_isFull l g tt 8 (.int 2) (.ref ttc) ttn) dX9_hasRoom_1 mw343 mw344 mw345 mw64 mw346 rfl 8 rfl rfl 0 _ rfl yk_yX8_isFull_0 rfl (Nat.le_of_ble_eq_true rfl) (Nat.le_of_ble_eq_true rfl) (Nat.le_of_ble_eq_true rfl) (Nat.le_of_ble_eq_true rfl) (Nat.le_of_ble_eq_true rfl) rfl rfl (by decide) rfl (by decide) (by decide) ?_
  rintro r_1 w ⟨hr_2, rfl⟩
  refine k_ws [(cO9_i1r1i2r1i1r2i4l1i2 h0 xtpd th xfn xfp tp xen nm nd xkd xsta xpo xva xle xtk xta), (cAB g tp 900 tpf), (cAI g ttc 16 ttf), (cO8_iiri tt 8 2 ttc ttn)] rfl ?_
  refine k_if_eq 17 X dX9_hasRoom_4 (by decide) (fun h_3 => ?_) (fun h_3 => ?_)
  · skip
    have iv_4 : IV r_1 0 0 := iv_meet (iv_any r_1) (iv_e h_3 (show IV 0 0 0 from (by decide))) (by decide) (by decide)
    refine k_aload_n X dX9_hasRoom_17 0 rfl ?_
    refine k_callVV (n := 0) (As := []) (st := []) X [(cO9_i1r1i2r1i1r2i4l1i2 h0 xtpd th xfn xfp tp xen nm nd xkd xsta xpo xva xle xtk xta), (cAB g tp 900 tpf)] [(cAI g ttc 16 ttf), (cO8_iiri tt 8 2 ttc ttn)] [0, 1] [2, 3] (x_nextX l g h0 xtpd th xfn xfp tp xen nm nd xkd xsta xpo xva xle xtk xta tpf (iv_w hv_xen (by decide) (by decide)) (iv_w hv_xpo (by decide) (by decide))) dX9_hasRoom_18 mw237 mw238 mw239 mw15 mw240 rfl 9 rfl rfl 0 _ rfl yk_yX9_next_0 rfl (Nat.le_of_ble_eq_true rfl) (Nat.le_of_ble_eq_true rfl) (Nat.le_of_ble_eq_true rfl) (Nat.le_of_ble_eq_true rfl) (Nat.le_of_ble_eq_true rfl) rfl rfl (by decide) rfl (by decide) (by decide) ?_
    rintro w ⟨xkd2_5, xsta2_6, xpo2_7, xva2_8, xle2_9, iv_11, iv_12, iv_13, hq_14, rfl⟩
    refine k_ws [(cAI g ttc 16 ttf), (cO8_iiri tt 8 2 ttc ttn), (cO9_i1r1i2r1i1r2i4l1i2 h0 xtpd th xfn xfp tp xen nm nd xkd2_5 xsta2_6 xpo2_7 xva2_8 xle2_9 xtk xta), (cAB g tp 900 tpf)] rfl ?_
    refine k_iconst (v := 1) X dX9_hasRoom_21 (by decide) ?_
    exact k_zret X hr (by first | rfl | decide) dX9_hasRoom_22 (Nat.le_of_ble_eq_true rfl) (Nat.le_of_ble_eq_true rfl) [2, 3, 1, 0] (by decide) rfl rfl ⟨xfn, xfp, xkd2_5, xsta2_6, xpo2_7, xva2_8, xle2_9, (iv_w iv_11 (by decide) (by decide)), (iv_w iv_12 (by decide) (by decide)), (iv_w (show IV 1 1 1 from (by decide)) (by decide) (by decide)), ⟨r_1, hr_2, (Or.inl ⟨h_3, ⟨xkd2_5, xsta2_6, xpo2_7, xva2_8, xle2_9, hq_14, ⟨rfl, rfl, rfl, rfl, rfl, rfl, rfl, rfl⟩⟩⟩)⟩, rfl⟩
  · skip
    refine k_aload_n X dX9_hasRoom_7 0 rfl ?_
    refine k_iconst (v := 5) X dX9_hasRoom_8 (by decide) ?_
    refine k_aload_n X dX9_hasRoom_9 0 rfl ?_
    refine k_get (ci := 9) X inlX9 rfl 9 (by decide) dX9_hasRoom_10 mw67 0 rfl rfl ?_
    refine k_callVI (n := 2) (As := [.int 5, .int xsta]) (st := []) X [(cO9_i1r1i2r1i1r2i4l1i2 h0 xtpd th xfn xfp tp xen nm nd xkd xsta xpo xva xle xtk xta), (cAB g tp 900 tpf)] [(cAI g ttc 16 ttf), (cO8_iiri tt 8 2 ttc ttn)] [0, 1] [2, 3] (x_refuseAtX l g h0 5 xsta xtpd th xfn xfp tp xen nm nd xkd xsta xpo xva xle xtk xta tpf) dX9_hasRoom_13 mw309 mw310 mw311 mw15 mw312 rfl 9 rfl rfl 0 _ rfl yk_yX9_refuseAt_2 rfl (Nat.le_of_ble_eq_true rfl) (Nat.le_of_ble_eq_true rfl) (Nat.le_of_ble_eq_true rfl) (Nat.le_of_ble_eq_true rfl) (Nat.le_of_ble_eq_true rfl) rfl rfl (by decide) rfl (by decide) (by decide) ?_
    rintro r_17 w ⟨xfn2_15, xfp2_16, iv_18, hq_19, rfl⟩
    refine k_ws [(cAI g ttc 16 ttf), (cO8_iiri tt 8 2 ttc ttn), (cO9_i1r1i2r1i1r2i4l1i2 h0 xtpd th xfn2_15 xfp2_16 tp xen nm nd xkd xsta xpo xva xle xtk xta), (cAB g tp 900 tpf)] rfl ?_
    exact k_zret X hr (zn_b (iv_w iv_18 (by decide) (by decide))) dX9_hasRoom_16 (Nat.le_of_ble_eq_true rfl) (Nat.le_of_ble_eq_true rfl) [2, 3, 1, 0] (by decide) rfl rfl ⟨xfn2_15, xfp2_16, xkd, xsta, xpo, xva, xle, (iv_w hv_xsta (by decide) (by decide)), (iv_w hv_xpo (by decide) (by decide)), (iv_w iv_18 (by decide) (by decide)), ⟨r_1, hr_2, (Or.inr ⟨h_3, ⟨xfn2_15, xfp2_16, r_17, hq_19, ⟨rfl, rfl, rfl, rfl, rfl, rfl, rfl, rfl⟩⟩⟩)⟩, rfl⟩


set_option maxHeartbeats 4000000 in
set_option maxRecDepth 100000 in
theorem x_hasRoom4X (l : Launch) (g : Gx) (h0 : Nat) (tt : Nat) (xtpd : Int32) (th : Nat) (xfn : Int32) (xfp : Int32) (tp : Nat) (xen : Int32) (nm : Nat) (nd : Nat) (xkd : Int32) (xsta : Int32) (xpo : Int32) (xva : Int32) (xle : Int64) (xtk : Int32) (xta : Int32) (tpf : Nat → Int32) (ttc : Nat) (ttn : Int32) (ttf : Nat → Int32) (hv_xen : IV xen 0 900) (hv_xsta : IV xsta 0 900) (hv_xpo : IV xpo 0 900) : cI l g yX9_hasRoom cX9_hasRoom 2 (some .boolean) 2 42 0 0 [.ref h0, .ref tt] [(cO9_i1r1i2r1i1r2i4l1i2 h0 xtpd th xfn xfp tp xen nm nd xkd xsta xpo xva xle xtk xta), (cAB g tp 900 tpf), (cO8_iiri tt 6 3 ttc ttn), (cAI g ttc 18 ttf)] (fun r w => ∃ (xfn2 : Int32) (xfp2 : Int32) (xkd2 : Int32) (xsta2 : Int32) (xpo2 : Int32) (xva2 : Int32) (xle2 : Int64), IV xsta2 0 900 ∧ IV xpo2 0 900 ∧ IV r 0 1 ∧ (R_x_hasRoom4X xfn xfp xen xkd xsta xpo xva xle tpf ttn xfn2 xfp2 xkd2 xsta2 xpo2 xva2 xle2 r) ∧ w = [(cO9_i1r1i2r1i1r2i4l1i2 h0 xtpd th xfn2 xfp2 tp xen nm nd xkd2 xsta2 xpo2 xva2 xle2 xtk xta), (cAB g tp 900 tpf), (cO8_iiri tt 6 3 ttc ttn), (cAI g ttc 18 ttf)]) := by
  refine cI.of (by decide) (Nat.le_of_ble_eq_true rfl) ?_
  intro p e s m args below meth c A X hr hi
  refine k_lveq [(0, .ref h0), (1, .ref tt)] rfl ?_
  refine k_aload_n X dX9_hasRoom_0 1 rfl ?_
  refine k_callVI (n := 0) (As := []) (st := []) X [(cO8_iiri tt 6 3 ttc ttn)] [(cO9_i1r1i2r1i1r2i4l1i2 h0 xtpd th xfn xfp tp xen nm nd xkd xsta xpo xva xle xtk xta), (cAB g tp 900 tpf), (cAI g ttc 18 ttf)] [2] [0, 1, 3] (t_isFull l g tt 6 (.int 3) (.ref ttc) ttn) dX9_hasRoom_1 mw343 mw344 mw345 mw64 mw346 rfl 8 rfl rfl 0 _ rfl yk_yX8_isFull_0 rfl (Nat.le_of_ble_eq_true rfl) (Nat.le_of_ble_eq_true rfl) (Nat.le_of_ble_eq_true rfl) (Nat.le_of_ble_eq_true rfl) (Nat.le_of_ble_eq_true rfl) rfl rfl (by decide) rfl (by decide) (by decide) ?_
  rintro r_1 w ⟨hr_2, rfl⟩
  refine k_ws [(cO9_i1r1i2r1i1r2i4l1i2 h0 xtpd th xfn xfp tp xen nm nd xkd xsta xpo xva xle xtk xta), (cAB g tp 900 tpf), (cAI g ttc 18 ttf), (cO8_iiri tt 6 3 ttc ttn)] rfl ?_
  refine k_if_eq 17 X dX9_hasRoom_4 (by decide) (fun h_3 => ?_) (fun h_3 => ?_)
  · skip
    have iv_4 : IV r_1 0 0 := iv_meet (iv_any r_1) (iv_e h_3 (show IV 0 0 0 from (by decide))) (by decide) (by decide)
    refine k_aload_n X dX9_hasRoom_17 0 rfl ?_
    refine k_callVV (n := 0) (As := []) (st := []) X [(cO9_i1r1i2r1i1r2i4l1i2 h0 xtpd th xfn xfp tp xen nm nd xkd xsta xpo xva xle xtk xta), (cAB g tp 900 tpf)] [(cAI g ttc 18 ttf), (cO8_iiri tt 6 3 ttc ttn)] [0, 1] [2, 3] (x_nextX l g h0 xtpd th xfn xfp tp xen nm nd xkd xsta xpo xva xle xtk xta tpf (iv_w hv_xen (by decide) (by decide)) (iv_w hv_xpo (by decide) (by decide))) dX9_hasRoom_18 mw237 mw238 mw239 mw15 mw240 rfl 9 rfl rfl 0 _ rfl yk_yX9_next_0 rfl (Nat.le_of_ble_eq_true rfl) (Nat.le_of_ble_eq_true rfl) (Nat.le_of_ble_eq_true rfl) (Nat.le_of_ble_eq_true rfl) (Nat.le_of_ble_eq_true rfl) rfl rfl (by decide) rfl (by decide) (by decide) ?_
    rintro w ⟨xkd2_5, xsta2_6, xpo2_7, xva2_8, xle2_9, iv_11, iv_12, iv_13, hq_14, rfl⟩
    refine k_ws [(cAI g ttc 18 ttf), (cO8_iiri tt 6 3 ttc ttn), (cO9_i1r1i2r1i1r2i4l1i2 h0 xtpd th xfn xfp tp xen nm nd xkd2_5 xsta2_6 xpo2_7 xva2_8 xle2_9 xtk xta), (cAB g tp 900 tpf)] rfl ?_
    refine k_iconst (v := 1) X dX9_hasRoom_21 (by decide) ?_
    exact k_zret X hr (by first | rfl | decide) dX9_hasRoom_22 (Nat.le_of_ble_eq_true rfl) (Nat.le_of_ble_eq_true rfl) [2, 3, 1, 0] (by decide) rfl rfl ⟨xfn, xfp, xkd2_5, xsta2_6, xpo2_7, xva2_8, xle2_9, (iv_w iv_11 (by decide) (by decide)), (iv_w iv_12 (by decide) (by decide)), (iv_w (show IV 1 1 1 from (by decide)) (by decide) (by decide)), ⟨r_1, hr_2, (Or.inl ⟨h_3, ⟨xkd2_5, xsta2_6, xpo2_7, xva2_8, xle2_9, hq_14, ⟨rfl, rfl, rfl, rfl, rfl, rfl, rfl, rfl⟩⟩⟩)⟩, rfl⟩
  · skip
    refine k_aload_n X dX9_hasRoom_7 0 rfl ?_
    refine k_iconst (v := 5) X dX9_hasRoom_8 (by decide) ?_
    refine k_aload_n X dX9_hasRoom_9 0 rfl ?_
    refine k_get (ci := 9) X inlX9 rfl 9 (by decide) dX9_hasRoom_10 mw67 0 rfl rfl ?_
    refine k_callVI (n := 2) (As := [.int 5, .int xsta]) (st := []) X [(cO9_i1r1i2r1i1r2i4l1i2 h0 xtpd th xfn xfp tp xen nm nd xkd xsta xpo xva xle xtk xta), (cAB g tp 900 tpf)] [(cAI g ttc 18 ttf), (cO8_iiri tt 6 3 ttc ttn)] [0, 1] [2, 3] (x_refuseAtX l g h0 5 xsta xtpd th xfn xfp tp xen nm nd xkd xsta xpo xva xle xtk xta tpf) dX9_hasRoom_13 mw309 mw310 mw311 mw15 mw312 rfl 9 rfl rfl 0 _ rfl yk_yX9_refuseAt_2 rfl (Nat.le_of_ble_eq_true rfl) (Nat.le_of_ble_eq_true rfl) (Nat.le_of_ble_eq_true rfl) (Nat.le_of_ble_eq_true rfl) (Nat.le_of_ble_eq_true rfl) rfl rfl (by decide) rfl (by decide) (by decide) ?_
    rintro r_17 w ⟨xfn2_15, xfp2_16, iv_18, hq_19, rfl⟩
    refine k_ws [(cAI g ttc 18 ttf), (cO8_iiri tt 6 3 ttc ttn), (cO9_i1r1i2r1i1r2i4l1i2 h0 xtpd th xfn2_15 xfp2_16 tp xen nm nd xkd xsta xpo xva xle xtk xta), (cAB g tp 900 tpf)] rfl ?_
    exact k_zret X hr (zn_b (iv_w iv_18 (by decide) (by decide))) dX9_hasRoom_16 (Nat.le_of_ble_eq_true rfl) (Nat.le_of_ble_eq_true rfl) [2, 3, 1, 0] (by decide) rfl rfl ⟨xfn2_15, xfp2_16, xkd, xsta, xpo, xva, xle, (iv_w hv_xsta (by decide) (by decide)), (iv_w hv_xpo (by decide) (by decide)), (iv_w iv_18 (by decide) (by decide)), ⟨r_1, hr_2, (Or.inr ⟨h_3, ⟨xfn2_15, xfp2_16, r_17, hq_19, ⟨rfl, rfl, rfl, rfl, rfl, rfl, rfl, rfl⟩⟩⟩)⟩, rfl⟩


set_option maxHeartbeats 4000000 in
set_option maxRecDepth 100000 in
theorem x_hasRoom5X (l : Launch) (g : Gx) (h0 : Nat) (tt : Nat) (xtpd : Int32) (th : Nat) (xfn : Int32) (xfp : Int32) (tp : Nat) (xen : Int32) (nm : Nat) (nd : Nat) (xkd : Int32) (xsta : Int32) (xpo : Int32) (xva : Int32) (xle : Int64) (xtk : Int32) (xta : Int32) (tpf : Nat → Int32) (ttc : Nat) (ttn : Int32) (ttf : Nat → Int32) (hv_xen : IV xen 0 900) (hv_xsta : IV xsta 0 900) (hv_xpo : IV xpo 0 900) : cI l g yX9_hasRoom cX9_hasRoom 2 (some .boolean) 2 42 0 0 [.ref h0, .ref tt] [(cO9_i1r1i2r1i1r2i4l1i2 h0 xtpd th xfn xfp tp xen nm nd xkd xsta xpo xva xle xtk xta), (cAB g tp 900 tpf), (cO8_iiri tt 4 3 ttc ttn), (cAI g ttc 12 ttf)] (fun r w => ∃ (xfn2 : Int32) (xfp2 : Int32) (xkd2 : Int32) (xsta2 : Int32) (xpo2 : Int32) (xva2 : Int32) (xle2 : Int64), IV xsta2 0 900 ∧ IV xpo2 0 900 ∧ IV r 0 1 ∧ (R_x_hasRoom5X xfn xfp xen xkd xsta xpo xva xle tpf ttn xfn2 xfp2 xkd2 xsta2 xpo2 xva2 xle2 r) ∧ w = [(cO9_i1r1i2r1i1r2i4l1i2 h0 xtpd th xfn2 xfp2 tp xen nm nd xkd2 xsta2 xpo2 xva2 xle2 xtk xta), (cAB g tp 900 tpf), (cO8_iiri tt 4 3 ttc ttn), (cAI g ttc 12 ttf)]) := by
  refine cI.of (by decide) (Nat.le_of_ble_eq_true rfl) ?_
  intro p e s m args below meth c A X hr hi
  refine k_lveq [(0, .ref h0), (1, .ref tt)] rfl ?_
  refine k_aload_n X dX9_hasRoom_0 1 rfl ?_
  refine k_callVI (n := 0) (As := []) (st := []) X [(cO8_iiri tt 4 3 ttc ttn)] [(cO9_i1r1i2r1i1r2i4l1i2 h0 xtpd th xfn xfp tp xen nm nd xkd xsta xpo xva xle xtk xta), (cAB g tp 900 tpf), (cAI g ttc 12 ttf)] [2] [0, 1, 3] (t_isFull l g tt 4 (.int 3) (.ref ttc) ttn) dX9_hasRoom_1 mw343 mw344 mw345 mw64 mw346 rfl 8 rfl rfl 0 _ rfl yk_yX8_isFull_0 rfl (Nat.le_of_ble_eq_true rfl) (Nat.le_of_ble_eq_true rfl) (Nat.le_of_ble_eq_true rfl) (Nat.le_of_ble_eq_true rfl) (Nat.le_of_ble_eq_true rfl) rfl rfl (by decide) rfl (by decide) (by decide) ?_
  rintro r_1 w ⟨hr_2, rfl⟩
  refine k_ws [(cO9_i1r1i2r1i1r2i4l1i2 h0 xtpd th xfn xfp tp xen nm nd xkd xsta xpo xva xle xtk xta), (cAB g tp 900 tpf), (cAI g ttc 12 ttf), (cO8_iiri tt 4 3 ttc ttn)] rfl ?_
  refine k_if_eq 17 X dX9_hasRoom_4 (by decide) (fun h_3 => ?_) (fun h_3 => ?_)
  · skip
    have iv_4 : IV r_1 0 0 := iv_meet (iv_any r_1) (iv_e h_3 (show IV 0 0 0 from (by decide))) (by decide) (by decide)
    refine k_aload_n X dX9_hasRoom_17 0 rfl ?_
    refine k_callVV (n := 0) (As := []) (st := []) X [(cO9_i1r1i2r1i1r2i4l1i2 h0 xtpd th xfn xfp tp xen nm nd xkd xsta xpo xva xle xtk xta), (cAB g tp 900 tpf)] [(cAI g ttc 12 ttf), (cO8_iiri tt 4 3 ttc ttn)] [0, 1] [2, 3] (x_nextX l g h0 xtpd th xfn xfp tp xen nm nd xkd xsta xpo xva xle xtk xta tpf (iv_w hv_xen (by decide) (by decide)) (iv_w hv_xpo (by decide) (by decide))) dX9_hasRoom_18 mw237 mw238 mw239 mw15 mw240 rfl 9 rfl rfl 0 _ rfl yk_yX9_next_0 rfl (Nat.le_of_ble_eq_true rfl) (Nat.le_of_ble_eq_true rfl) (Nat.le_of_ble_eq_true rfl) (Nat.le_of_ble_eq_true rfl) (Nat.le_of_ble_eq_true rfl) rfl rfl (by decide) rfl (by decide) (by decide) ?_
    rintro w ⟨xkd2_5, xsta2_6, xpo2_7, xva2_8, xle2_9, iv_11, iv_12, iv_13, hq_14, rfl⟩
    refine k_ws [(cAI g ttc 12 ttf), (cO8_iiri tt 4 3 ttc ttn), (cO9_i1r1i2r1i1r2i4l1i2 h0 xtpd th xfn xfp tp xen nm nd xkd2_5 xsta2_6 xpo2_7 xva2_8 xle2_9 xtk xta), (cAB g tp 900 tpf)] rfl ?_
    refine k_iconst (v := 1) X dX9_hasRoom_21 (by decide) ?_
    exact k_zret X hr (by first | rfl | decide) dX9_hasRoom_22 (Nat.le_of_ble_eq_true rfl) (Nat.le_of_ble_eq_true rfl) [2, 3, 1, 0] (by decide) rfl rfl ⟨xfn, xfp, xkd2_5, xsta2_6, xpo2_7, xva2_8, xle2_9, (iv_w iv_11 (by decide) (by decide)), (iv_w iv_12 (by decide) (by decide)), (iv_w (show IV 1 1 1 from (by decide)) (by decide) (by decide)), ⟨r_1, hr_2, (Or.inl ⟨h_3, ⟨xkd2_5, xsta2_6, xpo2_7, xva2_8, xle2_9, hq_14, ⟨rfl, rfl, rfl, rfl, rfl, rfl, rfl, rfl⟩⟩⟩)⟩, rfl⟩
  · skip
    refine k_aload_n X dX9_hasRoom_7 0 rfl ?_
    refine k_iconst (v := 5) X dX9_hasRoom_8 (by decide) ?_
    refine k_aload_n X dX9_hasRoom_9 0 rfl ?_
    refine k_get (ci := 9) X inlX9 rfl 9 (by decide) dX9_hasRoom_10 mw67 0 rfl rfl ?_
    refine k_callVI (n := 2) (As := [.int 5, .int xsta]) (st := []) X [(cO9_i1r1i2r1i1r2i4l1i2 h0 xtpd th xfn xfp tp xen nm nd xkd xsta xpo xva xle xtk xta), (cAB g tp 900 tpf)] [(cAI g ttc 12 ttf), (cO8_iiri tt 4 3 ttc ttn)] [0, 1] [2, 3] (x_refuseAtX l g h0 5 xsta xtpd th xfn xfp tp xen nm nd xkd xsta xpo xva xle xtk xta tpf) dX9_hasRoom_13 mw309 mw310 mw311 mw15 mw312 rfl 9 rfl rfl 0 _ rfl yk_yX9_refuseAt_2 rfl (Nat.le_of_ble_eq_true rfl) (Nat.le_of_ble_eq_true rfl) (Nat.le_of_ble_eq_true rfl) (Nat.le_of_ble_eq_true rfl) (Nat.le_of_ble_eq_true rfl) rfl rfl (by decide) rfl (by decide) (by decide) ?_
    rintro r_17 w ⟨xfn2_15, xfp2_16, iv_18, hq_19, rfl⟩
    refine k_ws [(cAI g ttc 12 ttf), (cO8_iiri tt 4 3 ttc ttn), (cO9_i1r1i2r1i1r2i4l1i2 h0 xtpd th xfn2_15 xfp2_16 tp xen nm nd xkd xsta xpo xva xle xtk xta), (cAB g tp 900 tpf)] rfl ?_
    exact k_zret X hr (zn_b (iv_w iv_18 (by decide) (by decide))) dX9_hasRoom_16 (Nat.le_of_ble_eq_true rfl) (Nat.le_of_ble_eq_true rfl) [2, 3, 1, 0] (by decide) rfl rfl ⟨xfn2_15, xfp2_16, xkd, xsta, xpo, xva, xle, (iv_w hv_xsta (by decide) (by decide)), (iv_w hv_xpo (by decide) (by decide)), (iv_w iv_18 (by decide) (by decide)), ⟨r_1, hr_2, (Or.inr ⟨h_3, ⟨xfn2_15, xfp2_16, r_17, hq_19, ⟨rfl, rfl, rfl, rfl, rfl, rfl, rfl, rfl⟩⟩⟩)⟩, rfl⟩


set_option maxHeartbeats 4000000 in
set_option maxRecDepth 100000 in
theorem x_hasRoom6X (l : Launch) (g : Gx) (h0 : Nat) (tt : Nat) (xtpd : Int32) (th : Nat) (xfn : Int32) (xfp : Int32) (tp : Nat) (xen : Int32) (nm : Nat) (nd : Nat) (xkd : Int32) (xsta : Int32) (xpo : Int32) (xva : Int32) (xle : Int64) (xtk : Int32) (xta : Int32) (tpf : Nat → Int32) (ttc : Nat) (ttn : Int32) (ttf : Nat → Int32) (hv_xen : IV xen 0 900) (hv_xsta : IV xsta 0 900) (hv_xpo : IV xpo 0 900) : cI l g yX9_hasRoom cX9_hasRoom 2 (some .boolean) 2 42 0 0 [.ref h0, .ref tt] [(cO9_i1r1i2r1i1r2i4l1i2 h0 xtpd th xfn xfp tp xen nm nd xkd xsta xpo xva xle xtk xta), (cAB g tp 900 tpf), (cO8_iiri tt 6 2 ttc ttn), (cAI g ttc 12 ttf)] (fun r w => ∃ (xfn2 : Int32) (xfp2 : Int32) (xkd2 : Int32) (xsta2 : Int32) (xpo2 : Int32) (xva2 : Int32) (xle2 : Int64), IV xsta2 0 900 ∧ IV xpo2 0 900 ∧ IV r 0 1 ∧ (R_x_hasRoom6X xfn xfp xen xkd xsta xpo xva xle tpf ttn xfn2 xfp2 xkd2 xsta2 xpo2 xva2 xle2 r) ∧ w = [(cO9_i1r1i2r1i1r2i4l1i2 h0 xtpd th xfn2 xfp2 tp xen nm nd xkd2 xsta2 xpo2 xva2 xle2 xtk xta), (cAB g tp 900 tpf), (cO8_iiri tt 6 2 ttc ttn), (cAI g ttc 12 ttf)]) := by
  refine cI.of (by decide) (Nat.le_of_ble_eq_true rfl) ?_
  intro p e s m args below meth c A X hr hi
  refine k_lveq [(0, .ref h0), (1, .ref tt)] rfl ?_
  refine k_aload_n X dX9_hasRoom_0 1 rfl ?_
  refine k_callVI (n := 0) (As := []) (st := []) X [(cO8_iiri tt 6 2 ttc ttn)] [(cO9_i1r1i2r1i1r2i4l1i2 h0 xtpd th xfn xfp tp xen nm nd xkd xsta xpo xva xle xtk xta), (cAB g tp 900 tpf), (cAI g ttc 12 ttf)] [2] [0, 1, 3] (t_isFull l g tt 6 (.int 2) (.ref ttc) ttn) dX9_hasRoom_1 mw343 mw344 mw345 mw64 mw346 rfl 8 rfl rfl 0 _ rfl yk_yX8_isFull_0 rfl (Nat.le_of_ble_eq_true rfl) (Nat.le_of_ble_eq_true rfl) (Nat.le_of_ble_eq_true rfl) (Nat.le_of_ble_eq_true rfl) (Nat.le_of_ble_eq_true rfl) rfl rfl (by decide) rfl (by decide) (by decide) ?_
  rintro r_1 w ⟨hr_2, rfl⟩
  refine k_ws [(cO9_i1r1i2r1i1r2i4l1i2 h0 xtpd th xfn xfp tp xen nm nd xkd xsta xpo xva xle xtk xta), (cAB g tp 900 tpf), (cAI g ttc 12 ttf), (cO8_iiri tt 6 2 ttc ttn)] rfl ?_
  refine k_if_eq 17 X dX9_hasRoom_4 (by decide) (fun h_3 => ?_) (fun h_3 => ?_)
  · skip
    have iv_4 : IV r_1 0 0 := iv_meet (iv_any r_1) (iv_e h_3 (show IV 0 0 0 from (by decide))) (by decide) (by decide)
    refine k_aload_n X dX9_hasRoom_17 0 rfl ?_
    refine k_callVV (n := 0) (As := []) (st := []) X [(cO9_i1r1i2r1i1r2i4l1i2 h0 xtpd th xfn xfp tp xen nm nd xkd xsta xpo xva xle xtk xta), (cAB g tp 900 tpf)] [(cAI g ttc 12 ttf), (cO8_iiri tt 6 2 ttc ttn)] [0, 1] [2, 3] (x_nextX l g h0 xtpd th xfn xfp tp xen nm nd xkd xsta xpo xva xle xtk xta tpf (iv_w hv_xen (by decide) (by decide)) (iv_w hv_xpo (by decide) (by decide))) dX9_hasRoom_18 mw237 mw238 mw239 mw15 mw240 rfl 9 rfl rfl 0 _ rfl yk_yX9_next_0 rfl (Nat.le_of_ble_eq_true rfl) (Nat.le_of_ble_eq_true rfl) (Nat.le_of_ble_eq_true rfl) (Nat.le_of_ble_eq_true rfl) (Nat.le_of_ble_eq_true rfl) rfl rfl (by decide) rfl (by decide) (by decide) ?_
    rintro w ⟨xkd2_5, xsta2_6, xpo2_7, xva2_8, xle2_9, iv_11, iv_12, iv_13, hq_14, rfl⟩
    refine k_ws [(cAI g ttc 12 ttf), (cO8_iiri tt 6 2 ttc ttn), (cO9_i1r1i2r1i1r2i4l1i2 h0 xtpd th xfn xfp tp xen nm nd xkd2_5 xsta2_6 xpo2_7 xva2_8 xle2_9 xtk xta), (cAB g tp 900 tpf)] rfl ?_
    refine k_iconst (v := 1) X dX9_hasRoom_21 (by decide) ?_
    exact k_zret X hr (by first | rfl | decide) dX9_hasRoom_22 (Nat.le_of_ble_eq_true rfl) (Nat.le_of_ble_eq_true rfl) [2, 3, 1, 0] (by decide) rfl rfl ⟨xfn, xfp, xkd2_5, xsta2_6, xpo2_7, xva2_8, xle2_9, (iv_w iv_11 (by decide) (by decide)), (iv_w iv_12 (by decide) (by decide)), (iv_w (show IV 1 1 1 from (by decide)) (by decide) (by decide)), ⟨r_1, hr_2, (Or.inl ⟨h_3, ⟨xkd2_5, xsta2_6, xpo2_7, xva2_8, xle2_9, hq_14, ⟨rfl, rfl, rfl, rfl, rfl, rfl, rfl, rfl⟩⟩⟩)⟩, rfl⟩
  · skip
    refine k_aload_n X dX9_hasRoom_7 0 rfl ?_
    refine k_iconst (v := 5) X dX9_hasRoom_8 (by decide) ?_
    refine k_aload_n X dX9_hasRoom_9 0 rfl ?_
    refine k_get (ci := 9) X inlX9 rfl 9 (by decide) dX9_hasRoom_10 mw67 0 rfl rfl ?_
    refine k_callVI (n := 2) (As := [.int 5, .int xsta]) (st := []) X [(cO9_i1r1i2r1i1r2i4l1i2 h0 xtpd th xfn xfp tp xen nm nd xkd xsta xpo xva xle xtk xta), (cAB g tp 900 tpf)] [(cAI g ttc 12 ttf), (cO8_iiri tt 6 2 ttc ttn)] [0, 1] [2, 3] (x_refuseAtX l g h0 5 xsta xtpd th xfn xfp tp xen nm nd xkd xsta xpo xva xle xtk xta tpf) dX9_hasRoom_13 mw309 mw310 mw311 mw15 mw312 rfl 9 rfl rfl 0 _ rfl yk_yX9_refuseAt_2 rfl (Nat.le_of_ble_eq_true rfl) (Nat.le_of_ble_eq_true rfl) (Nat.le_of_ble_eq_true rfl) (Nat.le_of_ble_eq_true rfl) (Nat.le_of_ble_eq_true rfl) rfl rfl (by decide) rfl (by decide) (by decide) ?_
    rintro r_17 w ⟨xfn2_15, xfp2_16, iv_18, hq_19, rfl⟩
    refine k_ws [(cAI g ttc 12 ttf), (cO8_iiri tt 6 2 ttc ttn), (cO9_i1r1i2r1i1r2i4l1i2 h0 xtpd th xfn2_15 xfp2_16 tp xen nm nd xkd xsta xpo xva xle xtk xta), (cAB g tp 900 tpf)] rfl ?_
    exact k_zret X hr (zn_b (iv_w iv_18 (by decide) (by decide))) dX9_hasRoom_16 (Nat.le_of_ble_eq_true rfl) (Nat.le_of_ble_eq_true rfl) [2, 3, 1, 0] (by decide) rfl rfl ⟨xfn2_15, xfp2_16, xkd, xsta, xpo, xva, xle, (iv_w hv_xsta (by decide) (by decide)), (iv_w hv_xpo (by decide) (by decide)), (iv_w iv_18 (by decide) (by decide)), ⟨r_1, hr_2, (Or.inr ⟨h_3, ⟨xfn2_15, xfp2_16, r_17, hq_19, ⟨rfl, rfl, rfl, rfl, rfl, rfl, rfl, rfl⟩⟩⟩)⟩, rfl⟩


set_option maxHeartbeats 4000000 in
set_option maxRecDepth 100000 in
theorem x_lastFrameX (l : Launch) (g : Gx) (h0 : Nat) (p0 : Int32) (xtpd : Int32) (th : Nat) (xfn : Int32) (xfp : Int32) (tp : Nat) (xen : Int32) (nm : Nat) (nd : Nat) (xkd : Int32) (xsta : Int32) (xpo : Int32) (xva : Int32) (xle : Int64) (xtk : Int32) (xta : Int32) (tpf : Nat → Int32) (qs : Nat) (qhn : Nat) (qht : Nat) (qhj : Nat) (qhm : Nat) (qhb : Nat) (qhs : Nat) (qhc : Nat) (qr : Nat) (qm : Nat) (qw : Nat) (qp : Nat) (qmd : Int32) (qtr : Int32) (qrc : Nat) (qrn : Int32) (qrf : Nat → Int32) (qmc : Nat) (qmn : Int32) (qmf : Nat → Int32) (qwc : Nat) (qwn : Int32) (qwf : Nat → Int32) (qpc : Nat) (qpn : Int32) (qpf : Nat → Int32) (qhnc : Nat) (qhnn : Int32) (qhnf : Nat → Int32) (qhtc : Nat) (qhtn : Int32) (qhtf : Nat → Int32) (qhjc : Nat) (qhjn : Int32) (qhjf : Nat → Int32) (qhmc : Nat) (qhmn : Int32) (qhmf : Nat → Int32) (qhbc : Nat) (qhbn : Int32) (qhbf : Nat → Int32) (qhsc : Nat) (qhsn : Int32) (qhsf : Nat → Int32) (qhcc : Nat) (qhcn : Int32) (qhcf : Nat → Int32) : cI l g yX9_lastFrame cX9_lastFrame 2 (some .int) 1 22 0 0 [.ref h0, .int p0] ((cO9_i1r1i2r1i1r2i4l1i2 h0 xtpd th xfn xfp tp xen nm nd xkd xsta xpo xva xle xtk xta) :: (cAB g tp 900 tpf) :: (cO3_rrrrrrrr th qs qhn qht qhj qhm qhb qhs qhc) :: (cO7_rrrrii qs qr qm qw qp qmd qtr) :: (cO8_iiri qr 8 3 qrc qrn) :: (cAI g qrc 24 qrf) :: (cO8_iiri qm 12 3 qmc qmn) :: (cAI g qmc 36 qmf) :: (cO8_iiri qw 6 3 qwc qwn) :: (cAI g qwc 18 qwf) :: (cO8_iiri qp 8 2 qpc qpn) :: (cAI g qpc 16 qpf) :: (cO8_iiri qhn 1 6 qhnc qhnn) :: (cAI g qhnc 6 qhnf) :: (cO8_iiri qht 4 1 qhtc qhtn) :: (cAI g qhtc 4 qhtf) :: (cO8_iiri qhj 8 2 qhjc qhjn) :: (cAI g qhjc 16 qhjf) :: (cO8_iiri qhm 4 3 qhmc qhmn) :: (cAI g qhmc 12 qhmf) :: (cO8_iiri qhb 1 3 qhbc qhbn) :: (cAI g qhbc 3 qhbf) :: (cO8_iiri qhs 6 3 qhsc qhsn) :: (cAI g qhsc 18 qhsf) :: (cO8_iiri qhc 6 2 qhcc qhcn) :: (cAI g qhcc 12 qhcf) :: []) (fun r w => (R_x_lastFrameX p0 qrf r) ∧ w = ((cO9_i1r1i2r1i1r2i4l1i2 h0 xtpd th xfn xfp tp xen nm nd xkd xsta xpo xva xle xtk xta) :: (cAB g tp 900 tpf) :: (cO3_rrrrrrrr th qs qhn qht qhj qhm qhb qhs qhc) :: (cO7_rrrrii qs qr qm qw qp qmd qtr) :: (cO8_iiri qr 8 3 qrc qrn) :: (cAI g qrc 24 qrf) :: (cO8_iiri qm 12 3 qmc qmn) :: (cAI g qmc 36 qmf) :: (cO8_iiri qw 6 3 qwc qwn) :: (cAI g qwc 18 qwf) :: (cO8_iiri qp 8 2 qpc qpn) :: (cAI g qpc 16 qpf) :: (cO8_iiri qhn 1 6 qhnc qhnn) :: (cAI g qhnc 6 qhnf) :: (cO8_iiri qht 4 1 qhtc qhtn) :: (cAI g qhtc 4 qhtf) :: (cO8_iiri qhj 8 2 qhjc qhjn) :: (cAI g qhjc 16 qhjf) :: (cO8_iiri qhm 4 3 qhmc qhmn) :: (cAI g qhmc 12 qhmf) :: (cO8_iiri qhb 1 3 qhbc qhbn) :: (cAI g qhbc 3 qhbf) :: (cO8_iiri qhs 6 3 qhsc qhsn) :: (cAI g qhsc 18 qhsf) :: (cO8_iiri qhc 6 2 qhcc qhcn) :: (cAI g qhcc 12 qhcf) :: [])) := by
  refine cI.of (by decide) (Nat.le_of_ble_eq_true rfl) ?_
  intro p e s m args below meth c A X hr hi
  refine k_lveq [(0, .ref h0), (1, .int p0)] rfl ?_
  refine k_aload_n X dX9_lastFrame_0 0 rfl ?_
  refine k_get (ci := 9) X inlX9 rfl 1 (by decide) dX9_lastFrame_1 mw55 0 rfl rfl ?_
  refine k_get (ci := 3) X inlX3 rfl 0 (by decide) dX9_lastFrame_4 mw337 2 rfl rfl ?_
  refine k_get (ci := 7) X inlX7 rfl 0 (by decide) dX9_lastFrame_7 mw338 3 rfl rfl ?_
  refine k_iload_n X dX9_lastFrame_10 1 rfl ?_
  refine k_iconst (v := 0) X dX9_lastFrame_11 (by decide) ?_
  refine k_callVI (n := 2) (As := [.int p0, .int 0]) (st := []) X [(cO8_iiri qr 8 3 qrc qrn), (cAI g qrc 24 qrf)] ((cO9_i1r1i2r1i1r2i4l1i2 h0 xtpd th xfn xfp tp xen nm nd xkd xsta xpo xva xle xtk xta) :: (cAB g tp 900 tpf) :: (cO3_rrrrrrrr th qs qhn qht qhj qhm qhb qhs qhc) :: (cO7_rrrrii qs qr qm qw qp qmd qtr) :: (cO8_iiri qm 12 3 qmc qmn) :: (cAI g qmc 36 qmf) :: (cO8_iiri qw 6 3 qwc qwn) :: (cAI g qwc 18 qwf) :: (cO8_iiri qp 8 2 qpc qpn) :: (cAI g qpc 16 qpf) :: (cO8_iiri qhn 1 6 qhnc qhnn) :: (cAI g qhnc 6 qhnf) :: (cO8_iiri qht 4 1 qhtc qhtn) :: (cAI g qhtc 4 qhtf) :: (cO8_iiri qhj 8 2 qhjc qhjn) :: (cAI g qhjc 16 qhjf) :: (cO8_iiri qhm 4 3 qhmc qhmn) :: (cAI g qhmc 12 qhmf) :: (cO8_iiri qhb 1 3 qhbc qhbn) :: (cAI g qhbc 3 qhbf) :: (cO8_iiri qhs 6 3 qhsc qhsn) :: (cAI g qhsc 18 qhsf) :: (cO8_iiri qhc 6 2 qhcc qhcn) :: (cAI g qhcc 12 qhcf) :: []) [4, 5] [0, 1, 2, 3, 6, 7, 8, 9, 10, 11, 12, 13, 14, 15, 16, 17, 18, 19, 20, 21, 22, 23, 24, 25] (t_at l g qr p0 0 8 3 qrc qrn 24 qrf (tbk_8_3)) dX9_lastFrame_12 mw375 mw376 mw377 mw64 mw378 rfl 8 rfl rfl 0 _ rfl yk_yX8_at_2 rfl (Nat.le_of_ble_eq_true rfl) (Nat.le_of_ble_eq_true rfl) (Nat.le_of_ble_eq_true rfl) (Nat.le_of_ble_eq_true rfl) (Nat.le_of_ble_eq_true rfl) rfl rfl (by decide) rfl (by decide) (by decide) ?_
  rintro r_1 w ⟨hr_2, rfl⟩
  refine k_ws ((cO9_i1r1i2r1i1r2i4l1i2 h0 xtpd th xfn xfp tp xen nm nd xkd xsta xpo xva xle xtk xta) :: (cAB g tp 900 tpf) :: (cO3_rrrrrrrr th qs qhn qht qhj qhm qhb qhs qhc) :: (cO7_rrrrii qs qr qm qw qp qmd qtr) :: (cO8_iiri qm 12 3 qmc qmn) :: (cAI g qmc 36 qmf) :: (cO8_iiri qw 6 3 qwc qwn) :: (cAI g qwc 18 qwf) :: (cO8_iiri qp 8 2 qpc qpn) :: (cAI g qpc 16 qpf) :: (cO8_iiri qhn 1 6 qhnc qhnn) :: (cAI g qhnc 6 qhnf) :: (cO8_iiri qht 4 1 qhtc qhtn) :: (cAI g qhtc 4 qhtf) :: (cO8_iiri qhj 8 2 qhjc qhjn) :: (cAI g qhjc 16 qhjf) :: (cO8_iiri qhm 4 3 qhmc qhmn) :: (cAI g qhmc 12 qhmf) :: (cO8_iiri qhb 1 3 qhbc qhbn) :: (cAI g qhbc 3 qhbf) :: (cO8_iiri qhs 6 3 qhsc qhsn) :: (cAI g qhsc 18 qhsf) :: (cO8_iiri qhc 6 2 qhcc qhcn) :: (cAI g qhcc 12 qhcf) :: (cO8_iiri qr 8 3 qrc qrn) :: (cAI g qrc 24 qrf) :: []) rfl ?_
  refine k_iconst (v := 1) X dX9_lastFrame_15 (by decide) ?_
  refine k_isub X dX9_lastFrame_16 ?_
  refine k_nm (fun z_3 ez_3 => ?_)
  exact k_iret X hr dX9_lastFrame_17 (Nat.le_of_ble_eq_true rfl) (Nat.le_of_ble_eq_true rfl) [0, 1, 2, 3, 24, 25, 4, 5, 6, 7, 8, 9, 10, 11, 12, 13, 14, 15, 16, 17, 18, 19, 20, 21, 22, 23] (by decide) rfl rfl ⟨⟨r_1, hr_2, ⟨z_3, ez_3, rfl⟩⟩, rfl⟩


set_option maxHeartbeats 4000000 in
set_option maxRecDepth 100000 in
theorem x_isNumberX (l : Launch) (g : Gx) (h0 : Nat) (sa : Nat) (p0 : Int32) (p1 : Int32) (p2 : Int32) (xtpd : Int32) (th : Nat) (xfn : Int32) (xfp : Int32) (tp : Nat) (xen : Int32) (nm : Nat) (nd : Nat) (xkd : Int32) (xsta : Int32) (xpo : Int32) (xva : Int32) (xle : Int64) (xtk : Int32) (xta : Int32) (tpf : Nat → Int32) (qs : Nat) (qhn : Nat) (qht : Nat) (qhj : Nat) (qhm : Nat) (qhb : Nat) (qhs : Nat) (qhc : Nat) (qr : Nat) (qm : Nat) (qw : Nat) (qp : Nat) (qmd : Int32) (qtr : Int32) (qrc : Nat) (qrn : Int32) (qrf : Nat → Int32) (qmc : Nat) (qmn : Int32) (qmf : Nat → Int32) (qwc : Nat) (qwn : Int32) (qwf : Nat → Int32) (qpc : Nat) (qpn : Int32) (qpf : Nat → Int32) (qhnc : Nat) (qhnn : Int32) (qhnf : Nat → Int32) (qhtc : Nat) (qhtn : Int32) (qhtf : Nat → Int32) (qhjc : Nat) (qhjn : Int32) (qhjf : Nat → Int32) (qhmc : Nat) (qhmn : Int32) (qhmf : Nat → Int32) (qhbc : Nat) (qhbn : Int32) (qhbf : Nat → Int32) (qhsc : Nat) (qhsn : Int32) (qhsf : Nat → Int32) (qhcc : Nat) (qhcn : Int32) (qhcf : Nat → Int32) (tx_sa : String) (hv_xen : IV xen 0 900) (hv_xsta : IV xsta 0 900) (hv_xpo : IV xpo 0 900) (hp_sa : LtS g sa tx_sa) : cI l g yX9_isNumber cX9_isNumber 5 (some .boolean) 6 128 0 0 [.ref h0, .ref sa, .int p0, .int p1, .int p2] ((cO9_i1r1i2r1i1r2i4l1i2 h0 xtpd th xfn xfp tp xen nm nd xkd xsta xpo xva xle xtk xta) :: (cAB g tp 900 tpf) :: (cO3_rrrrrrrr th qs qhn qht qhj qhm qhb qhs qhc) :: (cO7_rrrrii qs qr qm qw qp qmd qtr) :: (cO8_iiri qr 8 3 qrc qrn) :: (cAI g qrc 24 qrf) :: (cO8_iiri qm 12 3 qmc qmn) :: (cAI g qmc 36 qmf) :: (cO8_iiri qw 6 3 qwc qwn) :: (cAI g qwc 18 qwf) :: (cO8_iiri qp 8 2 qpc qpn) :: (cAI g qpc 16 qpf) :: (cO8_iiri qhn 1 6 qhnc qhnn) :: (cAI g qhnc 6 qhnf) :: (cO8_iiri qht 4 1 qhtc qhtn) :: (cAI g qhtc 4 qhtf) :: (cO8_iiri qhj 8 2 qhjc qhjn) :: (cAI g qhjc 16 qhjf) :: (cO8_iiri qhm 4 3 qhmc qhmn) :: (cAI g qhmc 12 qhmf) :: (cO8_iiri qhb 1 3 qhbc qhbn) :: (cAI g qhbc 3 qhbf) :: (cO8_iiri qhs 6 3 qhsc qhsn) :: (cAI g qhsc 18 qhsf) :: (cO8_iiri qhc 6 2 qhcc qhcn) :: (cAI g qhcc 12 qhcf) :: []) (fun r w => ∃ (xfn2 : Int32) (xfp2 : Int32) (xkd2 : Int32) (xsta2 : Int32) (xpo2 : Int32) (xva2 : Int32) (xle2 : Int64) (xtk2 : Int32) (xta2 : Int32) (qrg : Nat → Int32) (qmg : Nat → Int32) (qwg : Nat → Int32) (qpg : Nat → Int32) (qrk : Int32) (qmk : Int32) (qwk : Int32) (qpk : Int32) (qmd2 : Int32) (qtr2 : Int32) (qhng : Nat → Int32) (qhtg : Nat → Int32) (qhjg : Nat → Int32) (qhmg : Nat → Int32) (qhbg : Nat → Int32) (qhsg : Nat → Int32) (qhcg : Nat → Int32) (qhnk : Int32) (qhtk : Int32) (qhjk : Int32) (qhmk : Int32) (qhbk : Int32) (qhsk : Int32) (qhck : Int32), IV xsta2 0 900 ∧ IV xpo2 0 900 ∧ IV r 0 1 ∧ (R_x_isNumberX p0 p1 p2 xfn xfp xen xkd xsta xpo xva xle xtk xta tpf qmd qtr qrn qrf qmn qmf qwn qwf qpn qpf qhnn qhnf qhtn qhtf qhjn qhjf qhmn qhmf qhbn qhbf qhsn qhsf qhcn qhcf tx_sa xfn2 xfp2 xkd2 xsta2 xpo2 xva2 xle2 xtk2 xta2 qrg qmg qwg qpg qrk qmk qwk qpk qmd2 qtr2 qhng qhtg qhjg qhmg qhbg qhsg qhcg qhnk qhtk qhjk qhmk qhbk qhsk qhck r) ∧ w = ((cO9_i1r1i2r1i1r2i4l1i2 h0 xtpd th xfn2 xfp2 tp xen nm nd xkd2 xsta2 xpo2 xva2 xle2 xtk2 xta2) :: (cAB g tp 900 tpf) :: (cO3_rrrrrrrr th qs qhn qht qhj qhm qhb qhs qhc) :: (cO7_rrrrii qs qr qm qw qp qmd2 qtr2) :: (cO8_iiri qr 8 3 qrc qrk) :: (cAI g qrc 24 qrg) :: (cO8_iiri qm 12 3 qmc qmk) :: (cAI g qmc 36 qmg) :: (cO8_iiri qw 6 3 qwc qwk) :: (cAI g qwc 18 qwg) :: (cO8_iiri qp 8 2 qpc qpk) :: (cAI g qpc 16 qpg) :: (cO8_iiri qhn 1 6 qhnc qhnk) :: (cAI g qhnc 6 qhng) :: (cO8_iiri qht 4 1 qhtc qhtk) :: (cAI g qhtc 4 qhtg) :: (cO8_iiri qhj 8 2 qhjc qhjk) :: (cAI g qhjc 16 qhjg) :: (cO8_iiri qhm 4 3 qhmc qhmk) :: (cAI g qhmc 12 qhmg) :: (cO8_iiri qhb 1 3 qhbc qhbk) :: (cAI g qhbc 3 qhbg) :: (cO8_iiri qhs 6 3 qhsc qhsk) :: (cAI g qhsc 18 qhsg) :: (cO8_iiri qhc 6 2 qhcc qhck) :: (cAI g qhcc 12 qhcg) :: [])) := by
  refine cI.of (by decide) (Nat.le_of_ble_eq_true rfl) ?_
  intro p e s m args below meth c A X hr hi
  refine k_lveq [(0, .ref h0), (1, .ref sa), (2, .int p0), (3, .int p1), (4, .int p2)] rfl ?_
  refine k_aload_n X dX9_isNumber_0 0 rfl ?_
  refine k_aload_n X dX9_isNumber_1 1 rfl ?_
  refine k_callVI (n := 1) (As := [.ref sa]) (st := []) X [(cO9_i1r1i2r1i1r2i4l1i2 h0 xtpd th xfn xfp tp xen nm nd xkd xsta xpo xva xle xtk xta), (cAB g tp 900 tpf)] ((cO3_rrrrrrrr th qs qhn qht qhj qhm qhb qhs qhc) :: (cO7_rrrrii qs qr qm qw qp qmd qtr) :: (cO8_iiri qr 8 3 qrc qrn) :: (cAI g qrc 24 qrf) :: (cO8_iiri qm 12 3 qmc qmn) :: (cAI g qmc 36 qmf) :: (cO8_iiri qw 6 3 qwc qwn) :: (cAI g qwc 18 qwf) :: (cO8_iiri qp 8 2 qpc qpn) :: (cAI g qpc 16 qpf) :: (cO8_iiri qhn 1 6 qhnc qhnn) :: (cAI g qhnc 6 qhnf) :: (cO8_iiri qht 4 1 qhtc qhtn) :: (cAI g qhtc 4 qhtf) :: (cO8_iiri qhj 8 2 qhjc qhjn) :: (cAI g qhjc 16 qhjf) :: (cO8_iiri qhm 4 3 qhmc qhmn) :: (cAI g qhmc 12 qhmf) :: (cO8_iiri qhb 1 3 qhbc qhbn) :: (cAI g qhbc 3 qhbf) :: (cO8_iiri qhs 6 3 qhsc qhsn) :: (cAI g qhsc 18 qhsf) :: (cO8_iiri qhc 6 2 qhcc qhcn) :: (cAI g qhcc 12 qhcf) :: []) [0, 1] [2, 3, 4, 5, 6, 7, 8, 9, 10, 11, 12, 13, 14, 15, 16, 17, 18, 19, 20, 21, 22, 23, 24, 25] (x_isLabelX l g h0 sa xtpd th xfn xfp tp xen nm nd xkd xsta xpo xva xle xtk xta tpf tx_sa (iv_w hv_xen (by decide) (by decide)) (iv_w hv_xsta (by decide) (by decide)) (iv_w hv_xpo (by decide) (by decide)) hp_sa) dX9_isNumber_2 mw317 mw318 mw319 mw15 mw320 rfl 9 rfl rfl 0 _ rfl yk_yX9_isLabel_1 rfl (Nat.le_of_ble_eq_true rfl) (Nat.le_of_ble_eq_true rfl) (Nat.le_of_ble_eq_true rfl) (Nat.le_of_ble_eq_true rfl) (Nat.le_of_ble_eq_true rfl) rfl rfl (by decide) rfl (by decide) (by decide) ?_
  intro r_8 w zq
  refine exE7 zq ?_
  clear zq
  intro xfn2_1 xfp2_2 xkd2_3 xsta2_4 xpo2_5 xva2_6 xle2_7 iv_9 zq
  refine exA3 zq ?_
  clear zq
  intro iv_10 iv_11 hq_12 zq
  subst zq
  refine k_ws ((cO3_rrrrrrrr th qs qhn qht qhj qhm qhb qhs qhc) :: (cO7_rrrrii qs qr qm qw qp qmd qtr) :: (cO8_iiri qr 8 3 qrc qrn) :: (cAI g qrc 24 qrf) :: (cO8_iiri qm 12 3 qmc qmn) :: (cAI g qmc 36 qmf) :: (cO8_iiri qw 6 3 qwc qwn) :: (cAI g qwc 18 qwf) :: (cO8_iiri qp 8 2 qpc qpn) :: (cAI g qpc 16 qpf) :: (cO8_iiri qhn 1 6 qhnc qhnn) :: (cAI g qhnc 6 qhnf) :: (cO8_iiri qht 4 1 qhtc qhtn) :: (cAI g qhtc 4 qhtf) :: (cO8_iiri qhj 8 2 qhjc qhjn) :: (cAI g qhjc 16 qhjf) :: (cO8_iiri qhm 4 3 qhmc qhmn) :: (cAI g qhmc 12 qhmf) :: (cO8_iiri qhb 1 3 qhbc qhbn) :: (cAI g qhbc 3 qhbf) :: (cO8_iiri qhs 6 3 qhsc qhsn) :: (cAI g qhsc 18 qhsf) :: (cO8_iiri qhc 6 2 qhcc qhcn) :: (cAI g qhcc 12 qhcf) :: (cO9_i1r1i2r1i1r2i4l1i2 h0 xtpd th xfn2_1 xfp2_2 tp xen nm nd xkd2_3 xsta2_4 xpo2_5 xva2_6 xle2_7 xtk xta) :: (cAB g tp 900 tpf) :: []) rfl ?_
  refine k_if_eq 18 X dX9_isNumber_5 (by decide) (fun h_13 => ?_) (fun h_13 => ?_)
  · skip
    have iv_14 : IV r_8 0 0 := iv_meet iv_11 (iv_e h_13 (show IV 0 0 0 from (by decide))) (by decide) (by decide)
    refine k_iconst (v := 0) X dX9_isNumber_18 (by decide) ?_
    exact k_zret X hr (by first | rfl | decide) dX9_isNumber_19 (Nat.le_of_ble_eq_true rfl) (Nat.le_of_ble_eq_true rfl) [24, 25, 0, 1, 2, 3, 4, 5, 6, 7, 8, 9, 10, 11, 12, 13, 14, 15, 16, 17, 18, 19, 20, 21, 22, 23] (by decide) rfl rfl ⟨xfn2_1, xfp2_2, xkd2_3, xsta2_4, xpo2_5, xva2_6, xle2_7, xtk, xta, qrf, qmf, qwf, qpf, qrn, qmn, qwn, qpn, qmd, qtr, qhnf, qhtf, qhjf, qhmf, qhbf, qhsf, qhcf, qhnn, qhtn, qhjn, qhmn, qhbn, qhsn, qhcn, (iv_w iv_9 (by decide) (by decide)), (iv_w iv_10 (by decide) (by decide)), (iv_w (show IV 0 0 0 from (by decide)) (by decide) (by decide)), ⟨xfn2_1, xfp2_2, xkd2_3, xsta2_4, xpo2_5, xva2_6, xle2_7, r_8, hq_12, (Or.inl ⟨h_13, ⟨rfl, rfl, rfl, rfl, rfl, rfl, rfl, rfl, rfl, rfl, rfl, rfl, rfl, rfl, rfl, rfl, rfl, rfl, rfl, rfl, rfl, rfl, rfl, rfl, rfl, rfl, rfl, rfl, rfl, rfl, rfl, rfl, rfl, rfl⟩⟩)⟩, rfl⟩
  · skip
    have iv_15 : IV r_8 1 1 := iv_neL h_13 iv_11 (show IV 0 0 0 from (by decide)) (by decide)
    refine k_aload_n X dX9_isNumber_8 0 rfl ?_
    refine k_iload_n X dX9_isNumber_9 3 rfl ?_
    refine k_iload X dX9_isNumber_10 4 rfl ?_
    refine k_callVI (n := 2) (As := [.int p1, .int p2]) (st := []) X [(cO9_i1r1i2r1i1r2i4l1i2 h0 xtpd th xfn2_1 xfp2_2 tp xen nm nd xkd2_3 xsta2_4 xpo2_5 xva2_6 xle2_7 xtk xta), (cAB g tp 900 tpf)] ((cO3_rrrrrrrr th qs qhn qht qhj qhm qhb qhs qhc) :: (cO7_rrrrii qs qr qm qw qp qmd qtr) :: (cO8_iiri qr 8 3 qrc qrn) :: (cAI g qrc 24 qrf) :: (cO8_iiri qm 12 3 qmc qmn) :: (cAI g qmc 36 qmf) :: (cO8_iiri qw 6 3 qwc qwn) :: (cAI g qwc 18 qwf) :: (cO8_iiri qp 8 2 qpc qpn) :: (cAI g qpc 16 qpf) :: (cO8_iiri qhn 1 6 qhnc qhnn) :: (cAI g qhnc 6 qhnf) :: (cO8_iiri qht 4 1 qhtc qhtn) :: (cAI g qhtc 4 qhtf) :: (cO8_iiri qhj 8 2 qhjc qhjn) :: (cAI g qhjc 16 qhjf) :: (cO8_iiri qhm 4 3 qhmc qhmn) :: (cAI g qhmc 12 qhmf) :: (cO8_iiri qhb 1 3 qhbc qhbn) :: (cAI g qhbc 3 qhbf) :: (cO8_iiri qhs 6 3 qhsc qhsn) :: (cAI g qhsc 18 qhsf) :: (cO8_iiri qhc 6 2 qhcc qhcn) :: (cAI g qhcc 12 qhcf) :: []) [24, 25] [0, 1, 2, 3, 4, 5, 6, 7, 8, 9, 10, 11, 12, 13, 14, 15, 16, 17, 18, 19, 20, 21, 22, 23] (x_isWholeX l g h0 p1 p2 xtpd th xfn2_1 xfp2_2 tp xen nm nd xkd2_3 xsta2_4 xpo2_5 xva2_6 xle2_7 xtk xta tpf (iv_w hv_xen (by decide) (by decide)) (iv_w iv_9 (by decide) (by decide)) (iv_w iv_10 (by decide) (by decide))) dX9_isNumber_12 mw321 mw322 mw323 mw15 mw324 rfl 9 rfl rfl 0 _ rfl yk_yX9_isWhole_2 rfl (Nat.le_of_ble_eq_true rfl) (Nat.le_of_ble_eq_true rfl) (Nat.le_of_ble_eq_true rfl) (Nat.le_of_ble_eq_true rfl) (Nat.le_of_ble_eq_true rfl) rfl rfl (by decide) rfl (by decide) (by decide) ?_
    intro r_25 w zq
    refine exE9 zq ?_
    clear zq
    intro xfn2_16 xfp2_17 xkd2_18 xsta2_19 xpo2_20 xva2_21 xle2_22 xtk2_23 xta2_24 iv_26 zq
    refine exA3 zq ?_
    clear zq
    intro iv_27 iv_28 hq_29 zq
    subst zq
    refine k_ws ((cO3_rrrrrrrr th qs qhn qht qhj qhm qhb qhs qhc) :: (cO7_rrrrii qs qr qm qw qp qmd qtr) :: (cO8_iiri qr 8 3 qrc qrn) :: (cAI g qrc 24 qrf) :: (cO8_iiri qm 12 3 qmc qmn) :: (cAI g qmc 36 qmf) :: (cO8_iiri qw 6 3 qwc qwn) :: (cAI g qwc 18 qwf) :: (cO8_iiri qp 8 2 qpc qpn) :: (cAI g qpc 16 qpf) :: (cO8_iiri qhn 1 6 qhnc qhnn) :: (cAI g qhnc 6 qhnf) :: (cO8_iiri qht 4 1 qhtc qhtn) :: (cAI g qhtc 4 qhtf) :: (cO8_iiri qhj 8 2 qhjc qhjn) :: (cAI g qhjc 16 qhjf) :: (cO8_iiri qhm 4 3 qhmc qhmn) :: (cAI g qhmc 12 qhmf) :: (cO8_iiri qhb 1 3 qhbc qhbn) :: (cAI g qhbc 3 qhbf) :: (cO8_iiri qhs 6 3 qhsc qhsn) :: (cAI g qhsc 18 qhsf) :: (cO8_iiri qhc 6 2 qhcc qhcn) :: (cAI g qhcc 12 qhcf) :: (cO9_i1r1i2r1i1r2i4l1i2 h0 xtpd th xfn2_16 xfp2_17 tp xen nm nd xkd2_18 xsta2_19 xpo2_20 xva2_21 xle2_22 xtk2_23 xta2_24) :: (cAB g tp 900 tpf) :: []) rfl ?_
    refine k_if_ne 20 X dX9_isNumber_15 (by decide) (fun h_30 => ?_) (fun h_30 => ?_)
    · skip
      have iv_31 : IV r_25 1 1 := iv_neL h_30 iv_28 (show IV 0 0 0 from (by decide)) (by decide)
      refine k_aload_n X dX9_isNumber_20 0 rfl ?_
      refine k_get (ci := 9) X inlX9 rfl 1 (by decide) dX9_isNumber_21 mw55 24 rfl rfl ?_
      refine k_get (ci := 3) X inlX3 rfl 1 (by decide) dX9_isNumber_24 mw250 0 rfl rfl ?_
      refine k_iconst (v := 0) X dX9_isNumber_27 (by decide) ?_
      refine k_iload_n X dX9_isNumber_28 2 rfl ?_
      refine k_aload_n X dX9_isNumber_29 0 rfl ?_
      refine k_get (ci := 9) X inlX9 rfl 13 (by decide) dX9_isNumber_30 mw71 24 rfl rfl ?_
      refine k_callVV (n := 3) (As := [.int 0, .int p0, .int xtk2_23]) (st := []) X [(cO8_iiri qhn 1 6 qhnc qhnn), (cAI g qhnc 6 qhnf)] ((cO3_rrrrrrrr th qs qhn qht qhj qhm qhb qhs qhc) :: (cO7_rrrrii qs qr qm qw qp qmd qtr) :: (cO8_iiri qr 8 3 qrc qrn) :: (cAI g qrc 24 qrf) :: (cO8_iiri qm 12 3 qmc qmn) :: (cAI g qmc 36 qmf) :: (cO8_iiri qw 6 3 qwc qwn) :: (cAI g qwc 18 qwf) :: (cO8_iiri qp 8 2 qpc qpn) :: (cAI g qpc 16 qpf) :: (cO8_iiri qht 4 1 qhtc qhtn) :: (cAI g qhtc 4 qhtf) :: (cO8_iiri qhj 8 2 qhjc qhjn) :: (cAI g qhjc 16 qhjf) :: (cO8_iiri qhm 4 3 qhmc qhmn) :: (cAI g qhmc 12 qhmf) :: (cO8_iiri qhb 1 3 qhbc qhbn) :: (cAI g qhbc 3 qhbf) :: (cO8_iiri qhs 6 3 qhsc qhsn) :: (cAI g qhsc 18 qhsf) :: (cO8_iiri qhc 6 2 qhcc qhcn) :: (cAI g qhcc 12 qhcf) :: (cO9_i1r1i2r1i1r2i4l1i2 h0 xtpd th xfn2_16 xfp2_17 tp xen nm nd xkd2_18 xsta2_19 xpo2_20 xva2_21 xle2_22 xtk2_23 xta2_24) :: (cAB g tp 900 tpf) :: []) [10, 11] [0, 1, 2, 3, 4, 5, 6, 7, 8, 9, 12, 13, 14, 15, 16, 17, 18, 19, 20, 21, 22, 23, 24, 25] (t_put l g qhn 0 p0 xtk2_23 1 6 qhnc qhnn 6 qhnf (tbk_1_6)) dX9_isNumber_33 mw325 mw326 mw327 mw64 mw328 rfl 8 rfl rfl 0 _ rfl yk_yX8_put_3 rfl (Nat.le_of_ble_eq_true rfl) (Nat.le_of_ble_eq_true rfl) (Nat.le_of_ble_eq_true rfl) (Nat.le_of_ble_eq_true rfl) (Nat.le_of_ble_eq_true rfl) rfl rfl (by decide) rfl (by decide) (by decide) ?_
      rintro w ⟨fa_32, hr_34, rfl⟩
      refine k_ws ((cO3_rrrrrrrr th qs qhn qht qhj qhm qhb qhs qhc) :: (cO7_rrrrii qs qr qm qw qp qmd qtr) :: (cO8_iiri qr 8 3 qrc qrn) :: (cAI g qrc 24 qrf) :: (cO8_iiri qm 12 3 qmc qmn) :: (cAI g qmc 36 qmf) :: (cO8_iiri qw 6 3 qwc qwn) :: (cAI g qwc 18 qwf) :: (cO8_iiri qp 8 2 qpc qpn) :: (cAI g qpc 16 qpf) :: (cO8_iiri qht 4 1 qhtc qhtn) :: (cAI g qhtc 4 qhtf) :: (cO8_iiri qhj 8 2 qhjc qhjn) :: (cAI g qhjc 16 qhjf) :: (cO8_iiri qhm 4 3 qhmc qhmn) :: (cAI g qhmc 12 qhmf) :: (cO8_iiri qhb 1 3 qhbc qhbn) :: (cAI g qhbc 3 qhbf) :: (cO8_iiri qhs 6 3 qhsc qhsn) :: (cAI g qhsc 18 qhsf) :: (cO8_iiri qhc 6 2 qhcc qhcn) :: (cAI g qhcc 12 qhcf) :: (cO9_i1r1i2r1i1r2i4l1i2 h0 xtpd th xfn2_16 xfp2_17 tp xen nm nd xkd2_18 xsta2_19 xpo2_20 xva2_21 xle2_22 xtk2_23 xta2_24) :: (cAB g tp 900 tpf) :: (cO8_iiri qhn 1 6 qhnc qhnn) :: (cAI g qhnc 6 fa_32) :: []) rfl ?_
      refine k_iconst (v := 1) X dX9_isNumber_36 (by decide) ?_
      exact k_zret X hr (by first | rfl | decide) dX9_isNumber_37 (Nat.le_of_ble_eq_true rfl) (Nat.le_of_ble_eq_true rfl) [22, 23, 0, 1, 2, 3, 4, 5, 6, 7, 8, 9, 24, 25, 10, 11, 12, 13, 14, 15, 16, 17, 18, 19, 20, 21] (by decide) rfl rfl ⟨xfn2_16, xfp2_17, xkd2_18, xsta2_19, xpo2_20, xva2_21, xle2_22, xtk2_23, xta2_24, qrf, qmf, qwf, qpf, qrn, qmn, qwn, qpn, qmd, qtr, fa_32, qhtf, qhjf, qhmf, qhbf, qhsf, qhcf, qhnn, qhtn, qhjn, qhmn, qhbn, qhsn, qhcn, (iv_w iv_26 (by decide) (by decide)), (iv_w iv_27 (by decide) (by decide)), (iv_w (show IV 1 1 1 from (by decide)) (by decide) (by decide)), ⟨xfn2_1, xfp2_2, xkd2_3, xsta2_4, xpo2_5, xva2_6, xle2_7, r_8, hq_12, (Or.inr ⟨h_13, ⟨xfn2_16, xfp2_17, xkd2_18, xsta2_19, xpo2_20, xva2_21, xle2_22, xtk2_23, xta2_24, r_25, hq_29, (Or.inl ⟨h_30, ⟨fa_32, hr_34, ⟨rfl, rfl, rfl, rfl, rfl, rfl, rfl, rfl, rfl, rfl, rfl, rfl, rfl, rfl, rfl, rfl, rfl, rfl, rfl, rfl, rfl, rfl, rfl, rfl, rfl, rfl, rfl, rfl, rfl, rfl, rfl, rfl, rfl, rfl⟩⟩⟩)⟩⟩)⟩, rfl⟩
    · skip
      have iv_35 : IV r_25 0 0 := iv_meet iv_28 (iv_e h_30 (show IV 0 0 0 from (by decide))) (by decide) (by decide)
      refine k_iconst (v := 0) X dX9_isNumber_18 (by decide) ?_
      exact k_zret X hr (by first | rfl | decide) dX9_isNumber_19 (Nat.le_of_ble_eq_true rfl) (Nat.le_of_ble_eq_true rfl) [24, 25, 0, 1, 2, 3, 4, 5, 6, 7, 8, 9, 10, 11, 12, 13, 14, 15, 16, 17, 18, 19, 20, 21, 22, 23] (by decide) rfl rfl ⟨xfn2_16, xfp2_17, xkd2_18, xsta2_19, xpo2_20, xva2_21, xle2_22, xtk2_23, xta2_24, qrf, qmf, qwf, qpf, qrn, qmn, qwn, qpn, qmd, qtr, qhnf, qhtf, qhjf, qhmf, qhbf, qhsf, qhcf, qhnn, qhtn, qhjn, qhmn, qhbn, qhsn, qhcn, (iv_w iv_26 (by decide) (by decide)), (iv_w iv_27 (by decide) (by decide)), (iv_w (show IV 0 0 0 from (by decide)) (by decide) (by decide)), ⟨xfn2_1, xfp2_2, xkd2_3, xsta2_4, xpo2_5, xva2_6, xle2_7, r_8, hq_12, (Or.inr ⟨h_13, ⟨xfn2_16, xfp2_17, xkd2_18, xsta2_19, xpo2_20, xva2_21, xle2_22, xtk2_23, xta2_24, r_25, hq_29, (Or.inr ⟨h_30, ⟨rfl, rfl, rfl, rfl, rfl, rfl, rfl, rfl, rfl, rfl, rfl, rfl, rfl, rfl, rfl, rfl, rfl, rfl, rfl, rfl, rfl, rfl, rfl, rfl, rfl, rfl, rfl, rfl, rfl, rfl, rfl, rfl, rfl, rfl⟩⟩)⟩⟩)⟩, rfl⟩
