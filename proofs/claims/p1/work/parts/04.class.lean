theorem dX10_refuse_0 : decode cX10_refuse 0 = .ok (.aload_n 0, 1) := by decide +kernel
theorem dX10_refuse_1 : decode cX10_refuse 1 = .ok (.iload_n 1, 1) := by decide +kernel
theorem dX10_refuse_2 : decode cX10_refuse 2 = .ok (.putfield 72, 3) := by decide +kernel
theorem dX10_refuse_5 : decode cX10_refuse 5 = .ok (.iconst (-1), 1) := by decide +kernel
theorem dX10_refuse_6 : decode cX10_refuse 6 = .ok (.ireturn, 1) := by decide +kernel
set_option maxHeartbeats 4000000 in
set_option maxRecDepth 100000 in
theorem c_refuse (l : Launch) (g : Gx) (h0 : Nat) (p0 : Int32) (v0h0 : Value) (v1h0 : Value) (v2h0 : Value) (v3h0 : Value) (v4h0 : Value) (v5h0 : Value) (v6h0 : Value) (v7h0 : Value) (v8h0 : Value) (v9h0 : Value) : cI l g yX10_refuse cX10_refuse 2 (some .int) 0 0 0 0 [.ref h0, .int p0] [(h0, .inr (10, [v0h0, v1h0, v2h0, v3h0, v4h0, v5h0, v6h0, v7h0, v8h0, v9h0]))] (fun r w => r = (-1) ∧ w = []) := by
  refine cI.of (by decide) (Nat.le_of_ble_eq_true rfl) ?_
  intro p e s m args below meth c A X hr hi
  refine k_lveq [(0, .ref h0), (1, .int p0)] rfl ?_
  refine k_aload_n X dX10_refuse_0 0 rfl ?_
  refine k_iload_n X dX10_refuse_1 1 rfl ?_
  refine k_put (ci := 10) [(h0, .inr (10, [v0h0, v1h0, v2h0, v3h0, v4h0, v5h0, v6h0, v7h0, v8h0, .int p0]))] X inlX10 rfl tyX10_ok nmX10 9 (by decide) rfl dX10_refuse_2 mw166 0 rfl rfl rfl (Nat.le_of_ble_eq_true rfl) rfl ?_
  refine k_iconst (v := -1) X dX10_refuse_5 (by decide) ?_
  exact k_iret X hr dX10_refuse_6 (Nat.le_of_ble_eq_true rfl) (Nat.le_of_ble_eq_true rfl) [] (by decide) rfl rfl ⟨rfl, rfl⟩

theorem dX10_refuseAct_0 : decode cX10_refuseAct 0 = .ok (.aload_n 0, 1) := by decide +kernel
theorem dX10_refuseAct_1 : decode cX10_refuseAct 1 = .ok (.iload_n 1, 1) := by decide +kernel
theorem dX10_refuseAct_2 : decode cX10_refuseAct 2 = .ok (.putfield 72, 3) := by decide +kernel
theorem dX10_refuseAct_5 : decode cX10_refuseAct 5 = .ok (.iconst 0, 1) := by decide +kernel
theorem dX10_refuseAct_6 : decode cX10_refuseAct 6 = .ok (.ireturn, 1) := by decide +kernel
set_option maxHeartbeats 4000000 in
set_option maxRecDepth 100000 in
theorem c_refuseAct (l : Launch) (g : Gx) (h0 : Nat) (p0 : Int32) (v0h0 : Value) (v1h0 : Value) (v2h0 : Value) (v3h0 : Value) (v4h0 : Value) (v5h0 : Value) (v6h0 : Value) (v7h0 : Value) (v8h0 : Value) (v9h0 : Value) : cI l g yX10_refuseAct cX10_refuseAct 2 (some .boolean) 0 0 0 0 [.ref h0, .int p0] [(h0, .inr (10, [v0h0, v1h0, v2h0, v3h0, v4h0, v5h0, v6h0, v7h0, v8h0, v9h0]))] (fun r w => r = 0 ∧ w = []) := by
  refine cI.of (by decide) (Nat.le_of_ble_eq_true rfl) ?_
  intro p e s m args below meth c A X hr hi
  refine k_lveq [(0, .ref h0), (1, .int p0)] rfl ?_
  refine k_aload_n X dX10_refuseAct_0 0 rfl ?_
  refine k_iload_n X dX10_refuseAct_1 1 rfl ?_
  refine k_put (ci := 10) [(h0, .inr (10, [v0h0, v1h0, v2h0, v3h0, v4h0, v5h0, v6h0, v7h0, v8h0, .int p0]))] X inlX10 rfl tyX10_ok nmX10 9 (by decide) rfl dX10_refuseAct_2 mw166 0 rfl rfl rfl (Nat.le_of_ble_eq_true rfl) rfl ?_
  refine k_iconst (v := 0) X dX10_refuseAct_5 (by decide) ?_
  exact k_zret X hr rfl dX10_refuseAct_6 (Nat.le_of_ble_eq_true rfl) (Nat.le_of_ble_eq_true rfl) [] (by decide) rfl rfl ⟨rfl, rfl⟩

theorem dX10_isOpen_0 : decode cX10_isOpen 0 = .ok (.aload_n 0, 1) := by decide +kernel
theorem dX10_isOpen_1 : decode cX10_isOpen 1 = .ok (.getfield 26, 3) := by decide +kernel
theorem dX10_isOpen_4 : decode cX10_isOpen 4 = .ok (.getfield 109, 3) := by decide +kernel
theorem dX10_isOpen_7 : decode cX10_isOpen 7 = .ok (.getfield 113, 3) := by decide +kernel
theorem dX10_isOpen_10 : decode cX10_isOpen 10 = .ok (.ifCond .le 7, 3) := by decide +kernel
theorem dX10_isOpen_17 : decode cX10_isOpen 17 = .ok (.iconst 0, 1) := by decide +kernel
theorem dX10_isOpen_18 : decode cX10_isOpen 18 = .ok (.ireturn, 1) := by decide +kernel
set_option maxHeartbeats 4000000 in
set_option maxRecDepth 100000 in
theorem c_isOpen (l : Launch) (g : Gx) (h0 : Nat) (v0h0 : Value) (v1h0 : Value) (nw : Nat) (v3h0 : Value) (v4h0 : Value) (v5h0 : Value) (v6h0 : Value) (v7h0 : Value) (v8h0 : Value) (v9h0 : Value) (v0nw : Value) (v1nw : Value) (v2nw : Value) (np : Nat) (v4nw : Value) (v5nw : Value) (v0np : Value) (v1np : Value) (v2np : Value) : cI l g yX10_isOpen cX10_isOpen 1 (some .boolean) 0 0 0 0 [.ref h0] [(h0, .inr (10, [v0h0, v1h0, .ref nw, v3h0, v4h0, v5h0, v6h0, v7h0, v8h0, v9h0])), (nw, .inr (7, [v0nw, v1nw, v2nw, .ref np, v4nw, v5nw])), (np, .inr (8, [v0np, v1np, v2np, .int 0]))] (fun r w => r = 0 ∧ w = [(h0, .inr (10, [v0h0, v1h0, .ref nw, v3h0, v4h0, v5h0, v6h0, v7h0, v8h0, v9h0])), (nw, .inr (7, [v0nw, v1nw, v2nw, .ref np, v4nw, v5nw])), (np, .inr (8, [v0np, v1np, v2np, .int 0]))]) := by
  refine cI.of (by decide) (Nat.le_of_ble_eq_true rfl) ?_
  intro p e s m args below meth c A X hr hi
  refine k_lveq [(0, .ref h0)] rfl ?_
  refine k_aload_n X dX10_isOpen_0 0 rfl ?_
  refine k_get (ci := 10) X inlX10 rfl 2 (by decide) dX10_isOpen_1 mw128 0 rfl rfl ?_
  refine k_get (ci := 7) X inlX7 rfl 3 (by decide) dX10_isOpen_4 mw167 1 rfl rfl ?_
  refine k_get (ci := 8) X inlX8 rfl 3 (by decide) dX10_isOpen_7 mw168 2 rfl rfl ?_
  refine k_if_le 17 X dX10_isOpen_10 (by decide) (fun _ => ?_) (fun h_1 => absurd (by decide) h_1)
  refine k_iconst (v := 0) X dX10_isOpen_17 (by decide) ?_
  exact k_zret X hr rfl dX10_isOpen_18 (Nat.le_of_ble_eq_true rfl) (Nat.le_of_ble_eq_true rfl) [0, 1, 2] (by decide) rfl rfl ⟨rfl, rfl⟩

theorem dX10_runNight_0 : decode cX10_runNight 0 = .ok (.aload_n 0, 1) := by decide +kernel
theorem dX10_runNight_1 : decode cX10_runNight 1 = .ok (.getfield 19, 3) := by decide +kernel
theorem dX10_runNight_4 : decode cX10_runNight 4 = .ok (.getfield 191, 3) := by decide +kernel
theorem dX10_runNight_7 : decode cX10_runNight 7 = .ok (.iload_n 1, 1) := by decide +kernel
theorem dX10_runNight_8 : decode cX10_runNight 8 = .ok (.invokevirtual 127, 3) := by decide +kernel
theorem dX10_runNight_11 : decode cX10_runNight 11 = .ok (.ifCond .ne 5, 3) := by decide +kernel
theorem dX10_runNight_14 : decode cX10_runNight 14 = .ok (.iconst 0, 1) := by decide +kernel
theorem dX10_runNight_15 : decode cX10_runNight 15 = .ok (.ireturn, 1) := by decide +kernel
set_option maxHeartbeats 4000000 in
set_option maxRecDepth 100000 in
theorem c_runNight (l : Launch) (g : Gx) (h0 : Nat) (p0 : Int32) (v0h0 : Value) (tl : Nat) (v2h0 : Value) (v3h0 : Value) (v4h0 : Value) (v5h0 : Value) (v6h0 : Value) (v7h0 : Value) (v8h0 : Value) (v9h0 : Value) (v0tl : Value) (v1tl : Value) (v2tl : Value) (v3tl : Value) (lm : Nat) (v5tl : Value) (v6tl : Value) (v7tl : Value) (v0lm : Value) (v1lm : Value) (v2lm : Value) : cI l g yX10_runNight cX10_runNight 2 (some .boolean) 1 21 0 0 [.ref h0, .int p0] [(h0, .inr (10, [v0h0, .ref tl, v2h0, v3h0, v4h0, v5h0, v6h0, v7h0, v8h0, v9h0])), (tl, .inr (3, [v0tl, v1tl, v2tl, v3tl, .ref lm, v5tl, v6tl, v7tl])), (lm, .inr (8, [v0lm, v1lm, v2lm, .int 0]))] (fun r w => r = 0 ∧ w = [(h0, .inr (10, [v0h0, .ref tl, v2h0, v3h0, v4h0, v5h0, v6h0, v7h0, v8h0, v9h0])), (tl, .inr (3, [v0tl, v1tl, v2tl, v3tl, .ref lm, v5tl, v6tl, v7tl])), (lm, .inr (8, [v0lm, v1lm, v2lm, .int 0]))]) := by
  refine cI.of (by decide) (Nat.le_of_ble_eq_true rfl) ?_
  intro p e s m args below meth c A X hr hi
  refine k_lveq [(0, .ref h0), (1, .int p0)] rfl ?_
  refine k_aload_n X dX10_runNight_0 0 rfl ?_
  refine k_get (ci := 10) X inlX10 rfl 1 (by decide) dX10_runNight_1 mw126 0 rfl rfl ?_
  refine k_get (ci := 3) X inlX3 rfl 4 (by decide) dX10_runNight_4 mw169 1 rfl rfl ?_
  refine k_iload_n X dX10_runNight_7 1 rfl ?_
  refine k_callVI (n := 1) (As := [.int p0]) (st := []) X [(lm, .inr (8, [v0lm, v1lm, v2lm, .int 0]))] [(h0, .inr (10, [v0h0, .ref tl, v2h0, v3h0, v4h0, v5h0, v6h0, v7h0, v8h0, v9h0])), (tl, .inr (3, [v0tl, v1tl, v2tl, v3tl, .ref lm, v5tl, v6tl, v7tl]))] [2] [0, 1] (c_T_has l g lm p0 v0lm v1lm v2lm) dX10_runNight_8 mw170 mw30 mw31 mw15 mw32 rfl 8 rfl rfl 0 _ rfl (by unfold yOk; decide) rfl (Nat.le_of_ble_eq_true rfl) (Nat.le_of_ble_eq_true rfl) (Nat.le_of_ble_eq_true rfl) (Nat.le_of_ble_eq_true rfl) (Nat.le_of_ble_eq_true rfl) rfl rfl (by decide) rfl (by decide) (by decide) ?_
  rintro r w ⟨rfl, rfl⟩
  refine k_ws [(h0, .inr (10, [v0h0, .ref tl, v2h0, v3h0, v4h0, v5h0, v6h0, v7h0, v8h0, v9h0])), (tl, .inr (3, [v0tl, v1tl, v2tl, v3tl, .ref lm, v5tl, v6tl, v7tl])), (lm, .inr (8, [v0lm, v1lm, v2lm, .int 0]))] rfl ?_
  refine k_if_ne 16 X dX10_runNight_11 (by decide) (fun h_1 => absurd h_1 (by decide)) (fun _ => ?_)
  refine k_iconst (v := 0) X dX10_runNight_14 (by decide) ?_
  exact k_zret X hr rfl dX10_runNight_15 (Nat.le_of_ble_eq_true rfl) (Nat.le_of_ble_eq_true rfl) [0, 1, 2] (by decide) rfl rfl ⟨rfl, rfl⟩

theorem dX10_rideTrouble_0 : decode cX10_rideTrouble 0 = .ok (.aload_n 0, 1) := by decide +kernel
theorem dX10_rideTrouble_1 : decode cX10_rideTrouble 1 = .ok (.iload_n 1, 1) := by decide +kernel
theorem dX10_rideTrouble_2 : decode cX10_rideTrouble 2 = .ok (.invokevirtual 163, 3) := by decide +kernel
theorem dX10_rideTrouble_5 : decode cX10_rideTrouble 5 = .ok (.ifCond .ne 5, 3) := by decide +kernel
theorem dX10_rideTrouble_8 : decode cX10_rideTrouble 8 = .ok (.iconst 1, 1) := by decide +kernel
theorem dX10_rideTrouble_9 : decode cX10_rideTrouble 9 = .ok (.ireturn, 1) := by decide +kernel
set_option maxHeartbeats 4000000 in
set_option maxRecDepth 100000 in
theorem c_rideTrouble (l : Launch) (g : Gx) (h0 : Nat) (p0 : Int32) (p1 : Int32) (p2 : Int32) (v0h0 : Value) (tl : Nat) (v2h0 : Value) (v3h0 : Value) (v4h0 : Value) (v5h0 : Value) (v6h0 : Value) (v7h0 : Value) (v8h0 : Value) (v9h0 : Value) (v0tl : Value) (v1tl : Value) (v2tl : Value) (v3tl : Value) (lm : Nat) (v5tl : Value) (v6tl : Value) (v7tl : Value) (v0lm : Value) (v1lm : Value) (v2lm : Value) : cI l g yX10_rideTrouble cX10_rideTrouble 4 (some .int) 2 42 0 0 [.ref h0, .int p0, .int p1, .int p2] [(h0, .inr (10, [v0h0, .ref tl, v2h0, v3h0, v4h0, v5h0, v6h0, v7h0, v8h0, v9h0])), (tl, .inr (3, [v0tl, v1tl, v2tl, v3tl, .ref lm, v5tl, v6tl, v7tl])), (lm, .inr (8, [v0lm, v1lm, v2lm, .int 0]))] (fun r w => r = 1 ∧ w = [(h0, .inr (10, [v0h0, .ref tl, v2h0, v3h0, v4h0, v5h0, v6h0, v7h0, v8h0, v9h0])), (tl, .inr (3, [v0tl, v1tl, v2tl, v3tl, .ref lm, v5tl, v6tl, v7tl])), (lm, .inr (8, [v0lm, v1lm, v2lm, .int 0]))]) := by
  refine cI.of (by decide) (Nat.le_of_ble_eq_true rfl) ?_
  intro p e s m args below meth c A X hr hi
  refine k_lveq [(0, .ref h0), (1, .int p0), (2, .int p1), (3, .int p2)] rfl ?_
  refine k_aload_n X dX10_rideTrouble_0 0 rfl ?_
  refine k_iload_n X dX10_rideTrouble_1 1 rfl ?_
  refine k_callVI (n := 1) (As := [.int p0]) (st := []) X [(h0, .inr (10, [v0h0, .ref tl, v2h0, v3h0, v4h0, v5h0, v6h0, v7h0, v8h0, v9h0])), (tl, .inr (3, [v0tl, v1tl, v2tl, v3tl, .ref lm, v5tl, v6tl, v7tl])), (lm, .inr (8, [v0lm, v1lm, v2lm, .int 0]))] [] [0, 1, 2] [] (c_runNight l g h0 p0 v0h0 tl v2h0 v3h0 v4h0 v5h0 v6h0 v7h0 v8h0 v9h0 v0tl v1tl v2tl v3tl lm v5tl v6tl v7tl v0lm v1lm v2lm) dX10_rideTrouble_2 mw171 mw172 mw173 mw174 mw175 rfl 10 rfl rfl 0 _ rfl (by unfold yOk; decide) rfl (Nat.le_of_ble_eq_true rfl) (Nat.le_of_ble_eq_true rfl) (Nat.le_of_ble_eq_true rfl) (Nat.le_of_ble_eq_true rfl) (Nat.le_of_ble_eq_true rfl) rfl rfl (by decide) rfl (by decide) (by decide) ?_
  rintro r w ⟨rfl, rfl⟩
  refine k_ws [(h0, .inr (10, [v0h0, .ref tl, v2h0, v3h0, v4h0, v5h0, v6h0, v7h0, v8h0, v9h0])), (tl, .inr (3, [v0tl, v1tl, v2tl, v3tl, .ref lm, v5tl, v6tl, v7tl])), (lm, .inr (8, [v0lm, v1lm, v2lm, .int 0]))] rfl ?_
  refine k_if_ne 10 X dX10_rideTrouble_5 (by decide) (fun h_1 => absurd h_1 (by decide)) (fun _ => ?_)
  refine k_iconst (v := 1) X dX10_rideTrouble_8 (by decide) ?_
  exact k_iret X hr dX10_rideTrouble_9 (Nat.le_of_ble_eq_true rfl) (Nat.le_of_ble_eq_true rfl) [0, 1, 2] (by decide) rfl rfl ⟨rfl, rfl⟩

theorem dX10_ofPlace_0 : decode cX10_ofPlace 0 = .ok (.aload_n 0, 1) := by decide +kernel
theorem dX10_ofPlace_1 : decode cX10_ofPlace 1 = .ok (.getfield 26, 3) := by decide +kernel
theorem dX10_ofPlace_4 : decode cX10_ofPlace 4 = .ok (.getfield 109, 3) := by decide +kernel
theorem dX10_ofPlace_7 : decode cX10_ofPlace 7 = .ok (.iload_n 1, 1) := by decide +kernel
theorem dX10_ofPlace_8 : decode cX10_ofPlace 8 = .ok (.invokevirtual 127, 3) := by decide +kernel
theorem dX10_ofPlace_11 : decode cX10_ofPlace 11 = .ok (.ifCond .eq 22, 3) := by decide +kernel
theorem dX10_ofPlace_33 : decode cX10_ofPlace 33 = .ok (.aload_n 0, 1) := by decide +kernel
theorem dX10_ofPlace_34 : decode cX10_ofPlace 34 = .ok (.iconst 1, 1) := by decide +kernel
theorem dX10_ofPlace_35 : decode cX10_ofPlace 35 = .ok (.invokevirtual 83, 3) := by decide +kernel
theorem dX10_ofPlace_38 : decode cX10_ofPlace 38 = .ok (.ireturn, 1) := by decide +kernel
set_option maxHeartbeats 4000000 in
set_option maxRecDepth 100000 in
theorem c_ofPlace (l : Launch) (g : Gx) (h0 : Nat) (p0 : Int32) (p1 : Int32) (v0h0 : Value) (v1h0 : Value) (nw : Nat) (v3h0 : Value) (v4h0 : Value) (v5h0 : Value) (v6h0 : Value) (v7h0 : Value) (v8h0 : Value) (v9h0 : Value) (v0nw : Value) (v1nw : Value) (v2nw : Value) (np : Nat) (v4nw : Value) (v5nw : Value) (v0np : Value) (v1np : Value) (v2np : Value) : cI l g yX10_ofPlace cX10_ofPlace 3 (some .int) 1 21 0 0 [.ref h0, .int p0, .int p1] [(h0, .inr (10, [v0h0, v1h0, .ref nw, v3h0, v4h0, v5h0, v6h0, v7h0, v8h0, v9h0])), (nw, .inr (7, [v0nw, v1nw, v2nw, .ref np, v4nw, v5nw])), (np, .inr (8, [v0np, v1np, v2np, .int 0]))] (fun r w => r = (-1) ∧ w = []) := by
  refine cI.of (by decide) (Nat.le_of_ble_eq_true rfl) ?_
  intro p e s m args below meth c A X hr hi
  refine k_lveq [(0, .ref h0), (1, .int p0), (2, .int p1)] rfl ?_
  refine k_aload_n X dX10_ofPlace_0 0 rfl ?_
  refine k_get (ci := 10) X inlX10 rfl 2 (by decide) dX10_ofPlace_1 mw128 0 rfl rfl ?_
  refine k_get (ci := 7) X inlX7 rfl 3 (by decide) dX10_ofPlace_4 mw167 1 rfl rfl ?_
  refine k_iload_n X dX10_ofPlace_7 1 rfl ?_
  refine k_callVI (n := 1) (As := [.int p0]) (st := []) X [(np, .inr (8, [v0np, v1np, v2np, .int 0]))] [(h0, .inr (10, [v0h0, v1h0, .ref nw, v3h0, v4h0, v5h0, v6h0, v7h0, v8h0, v9h0])), (nw, .inr (7, [v0nw, v1nw, v2nw, .ref np, v4nw, v5nw]))] [2] [0, 1] (c_T_has l g np p0 v0np v1np v2np) dX10_ofPlace_8 mw170 mw30 mw31 mw15 mw32 rfl 8 rfl rfl 0 _ rfl (by unfold yOk; decide) rfl (Nat.le_of_ble_eq_true rfl) (Nat.le_of_ble_eq_true rfl) (Nat.le_of_ble_eq_true rfl) (Nat.le_of_ble_eq_true rfl) (Nat.le_of_ble_eq_true rfl) rfl rfl (by decide) rfl (by decide) (by decide) ?_
  rintro r w ⟨rfl, rfl⟩
  refine k_ws [(h0, .inr (10, [v0h0, v1h0, .ref nw, v3h0, v4h0, v5h0, v6h0, v7h0, v8h0, v9h0])), (nw, .inr (7, [v0nw, v1nw, v2nw, .ref np, v4nw, v5nw])), (np, .inr (8, [v0np, v1np, v2np, .int 0]))] rfl ?_
  refine k_if_eq 33 X dX10_ofPlace_11 (by decide) (fun _ => ?_) (fun h_1 => absurd (by decide) h_1)
  refine k_aload_n X dX10_ofPlace_33 0 rfl ?_
  refine k_iconst (v := 1) X dX10_ofPlace_34 (by decide) ?_
  refine k_callVI (n := 1) (As := [.int 1]) (st := []) X [(h0, .inr (10, [v0h0, v1h0, .ref nw, v3h0, v4h0, v5h0, v6h0, v7h0, v8h0, v9h0]))] [(nw, .inr (7, [v0nw, v1nw, v2nw, .ref np, v4nw, v5nw])), (np, .inr (8, [v0np, v1np, v2np, .int 0]))] [0] [1, 2] (c_refuse l g h0 1 v0h0 v1h0 (.ref nw) v3h0 v4h0 v5h0 v6h0 v7h0 v8h0 v9h0) dX10_ofPlace_35 mw176 mw177 mw178 mw174 mw179 rfl 10 rfl rfl 0 _ rfl (by unfold yOk; decide) rfl (Nat.le_of_ble_eq_true rfl) (Nat.le_of_ble_eq_true rfl) (Nat.le_of_ble_eq_true rfl) (Nat.le_of_ble_eq_true rfl) (Nat.le_of_ble_eq_true rfl) rfl rfl (by decide) rfl (by decide) (by decide) ?_
  rintro r w ⟨rfl, rfl⟩
  refine k_ws [(nw, .inr (7, [v0nw, v1nw, v2nw, .ref np, v4nw, v5nw])), (np, .inr (8, [v0np, v1np, v2np, .int 0]))] rfl ?_
  exact k_iret X hr dX10_ofPlace_38 (Nat.le_of_ble_eq_true rfl) (Nat.le_of_ble_eq_true rfl) [] (by decide) rfl rfl ⟨rfl, rfl⟩

theorem dX10_ofNight_0 : decode cX10_ofNight 0 = .ok (.aload_n 0, 1) := by decide +kernel
theorem dX10_ofNight_1 : decode cX10_ofNight 1 = .ok (.getfield 26, 3) := by decide +kernel
theorem dX10_ofNight_4 : decode cX10_ofNight 4 = .ok (.getfield 109, 3) := by decide +kernel
theorem dX10_ofNight_7 : decode cX10_ofNight 7 = .ok (.iload_n 2, 1) := by decide +kernel
theorem dX10_ofNight_8 : decode cX10_ofNight 8 = .ok (.invokevirtual 127, 3) := by decide +kernel
theorem dX10_ofNight_11 : decode cX10_ofNight 11 = .ok (.ifCond .eq 11, 3) := by decide +kernel
theorem dX10_ofNight_22 : decode cX10_ofNight 22 = .ok (.aload_n 0, 1) := by decide +kernel
theorem dX10_ofNight_23 : decode cX10_ofNight 23 = .ok (.iconst 1, 1) := by decide +kernel
theorem dX10_ofNight_24 : decode cX10_ofNight 24 = .ok (.invokevirtual 83, 3) := by decide +kernel
theorem dX10_ofNight_27 : decode cX10_ofNight 27 = .ok (.ireturn, 1) := by decide +kernel
set_option maxHeartbeats 4000000 in
set_option maxRecDepth 100000 in
theorem c_ofNight (l : Launch) (g : Gx) (h0 : Nat) (p0 : Int32) (p1 : Int32) (p2 : Int32) (v0h0 : Value) (v1h0 : Value) (nw : Nat) (v3h0 : Value) (v4h0 : Value) (v5h0 : Value) (v6h0 : Value) (v7h0 : Value) (v8h0 : Value) (v9h0 : Value) (v0nw : Value) (v1nw : Value) (v2nw : Value) (np : Nat) (v4nw : Value) (v5nw : Value) (v0np : Value) (v1np : Value) (v2np : Value) : cI l g yX10_ofNight cX10_ofNight 4 (some .int) 1 21 0 0 [.ref h0, .int p0, .int p1, .int p2] [(h0, .inr (10, [v0h0, v1h0, .ref nw, v3h0, v4h0, v5h0, v6h0, v7h0, v8h0, v9h0])), (nw, .inr (7, [v0nw, v1nw, v2nw, .ref np, v4nw, v5nw])), (np, .inr (8, [v0np, v1np, v2np, .int 0]))] (fun r w => r = (-1) ∧ w = []) := by
  refine cI.of (by decide) (Nat.le_of_ble_eq_true rfl) ?_
  intro p e s m args below meth c A X hr hi
  refine k_lveq [(0, .ref h0), (1, .int p0), (2, .int p1), (3, .int p2)] rfl ?_
  refine k_aload_n X dX10_ofNight_0 0 rfl ?_
  refine k_get (ci := 10) X inlX10 rfl 2 (by decide) dX10_ofNight_1 mw128 0 rfl rfl ?_
  refine k_get (ci := 7) X inlX7 rfl 3 (by decide) dX10_ofNight_4 mw167 1 rfl rfl ?_
  refine k_iload_n X dX10_ofNight_7 2 rfl ?_
  refine k_callVI (n := 1) (As := [.int p1]) (st := []) X [(np, .inr (8, [v0np, v1np, v2np, .int 0]))] [(h0, .inr (10, [v0h0, v1h0, .ref nw, v3h0, v4h0, v5h0, v6h0, v7h0, v8h0, v9h0])), (nw, .inr (7, [v0nw, v1nw, v2nw, .ref np, v4nw, v5nw]))] [2] [0, 1] (c_T_has l g np p1 v0np v1np v2np) dX10_ofNight_8 mw170 mw30 mw31 mw15 mw32 rfl 8 rfl rfl 0 _ rfl (by unfold yOk; decide) rfl (Nat.le_of_ble_eq_true rfl) (Nat.le_of_ble_eq_true rfl) (Nat.le_of_ble_eq_true rfl) (Nat.le_of_ble_eq_true rfl) (Nat.le_of_ble_eq_true rfl) rfl rfl (by decide) rfl (by decide) (by decide) ?_
  rintro r w ⟨rfl, rfl⟩
  refine k_ws [(h0, .inr (10, [v0h0, v1h0, .ref nw, v3h0, v4h0, v5h0, v6h0, v7h0, v8h0, v9h0])), (nw, .inr (7, [v0nw, v1nw, v2nw, .ref np, v4nw, v5nw])), (np, .inr (8, [v0np, v1np, v2np, .int 0]))] rfl ?_
  refine k_if_eq 22 X dX10_ofNight_11 (by decide) (fun _ => ?_) (fun h_1 => absurd (by decide) h_1)
  refine k_aload_n X dX10_ofNight_22 0 rfl ?_
  refine k_iconst (v := 1) X dX10_ofNight_23 (by decide) ?_
  refine k_callVI (n := 1) (As := [.int 1]) (st := []) X [(h0, .inr (10, [v0h0, v1h0, .ref nw, v3h0, v4h0, v5h0, v6h0, v7h0, v8h0, v9h0]))] [(nw, .inr (7, [v0nw, v1nw, v2nw, .ref np, v4nw, v5nw])), (np, .inr (8, [v0np, v1np, v2np, .int 0]))] [0] [1, 2] (c_refuse l g h0 1 v0h0 v1h0 (.ref nw) v3h0 v4h0 v5h0 v6h0 v7h0 v8h0 v9h0) dX10_ofNight_24 mw176 mw177 mw178 mw174 mw179 rfl 10 rfl rfl 0 _ rfl (by unfold yOk; decide) rfl (Nat.le_of_ble_eq_true rfl) (Nat.le_of_ble_eq_true rfl) (Nat.le_of_ble_eq_true rfl) (Nat.le_of_ble_eq_true rfl) (Nat.le_of_ble_eq_true rfl) rfl rfl (by decide) rfl (by decide) (by decide) ?_
  rintro r w ⟨rfl, rfl⟩
  refine k_ws [(nw, .inr (7, [v0nw, v1nw, v2nw, .ref np, v4nw, v5nw])), (np, .inr (8, [v0np, v1np, v2np, .int 0]))] rfl ?_
  exact k_iret X hr dX10_ofNight_27 (Nat.le_of_ble_eq_true rfl) (Nat.le_of_ble_eq_true rfl) [] (by decide) rfl rfl ⟨rfl, rfl⟩

theorem dX4_takeBack_0 : decode cX4_takeBack 0 = .ok (.aload_n 0, 1) := by decide +kernel
theorem dX4_takeBack_1 : decode cX4_takeBack 1 = .ok (.getfield 20, 3) := by decide +kernel
theorem dX4_takeBack_4 : decode cX4_takeBack 4 = .ok (.ifCond .ne 5, 3) := by decide +kernel
theorem dX4_takeBack_7 : decode cX4_takeBack 7 = .ok (.iconst 0, 1) := by decide +kernel
theorem dX4_takeBack_8 : decode cX4_takeBack 8 = .ok (.ireturn, 1) := by decide +kernel
set_option maxHeartbeats 4000000 in
set_option maxRecDepth 100000 in
theorem c_takeBack (l : Launch) (g : Gx) (h0 : Nat) (p0 : Nat) (v0h0 : Value) (v1h0 : Value) (v3h0 : Value) (v4h0 : Value) : cI l g yX4_takeBack cX4_takeBack 2 (some .boolean) 0 0 0 0 [.ref h0, .ref p0] [(h0, .inr (4, [v0h0, v1h0, .int 0, v3h0, v4h0]))] (fun r w => r = 0 ∧ w = []) := by
  refine cI.of (by decide) (Nat.le_of_ble_eq_true rfl) ?_
  intro p e s m args below meth c A X hr hi
  refine k_lveq [(0, .ref h0), (1, .ref p0)] rfl ?_
  refine k_aload_n X dX4_takeBack_0 0 rfl ?_
  refine k_get (ci := 4) X inlX4 rfl 2 (by decide) dX4_takeBack_1 mw58 0 rfl rfl ?_
  refine k_if_ne 9 X dX4_takeBack_4 (by decide) (fun h_1 => absurd h_1 (by decide)) (fun _ => ?_)
  refine k_iconst (v := 0) X dX4_takeBack_7 (by decide) ?_
  exact k_zret X hr rfl dX4_takeBack_8 (Nat.le_of_ble_eq_true rfl) (Nat.le_of_ble_eq_true rfl) [] (by decide) rfl rfl ⟨rfl, rfl⟩

theorem dX4_goBack_0 : decode cX4_goBack 0 = .ok (.iload_n 1, 1) := by decide +kernel
theorem dX4_goBack_1 : decode cX4_goBack 1 = .ok (.ifCond .lt 11, 3) := by decide +kernel
theorem dX4_goBack_4 : decode cX4_goBack 4 = .ok (.iload_n 1, 1) := by decide +kernel
theorem dX4_goBack_5 : decode cX4_goBack 5 = .ok (.aload_n 0, 1) := by decide +kernel
theorem dX4_goBack_6 : decode cX4_goBack 6 = .ok (.getfield 27, 3) := by decide +kernel
theorem dX4_goBack_9 : decode cX4_goBack 9 = .ok (.if_icmp .lt 5, 3) := by decide +kernel
theorem dX4_goBack_12 : decode cX4_goBack 12 = .ok (.iconst 0, 1) := by decide +kernel
theorem dX4_goBack_13 : decode cX4_goBack 13 = .ok (.ireturn, 1) := by decide +kernel
set_option maxHeartbeats 4000000 in
set_option maxRecDepth 100000 in
theorem c_goBack (l : Launch) (g : Gx) (h0 : Nat) (p0 : Int32) (p1 : Nat) (v0h0 : Value) (v1h0 : Value) (v2h0 : Value) (v3h0 : Value) : cI l g yX4_goBack cX4_goBack 3 (some .boolean) 0 0 0 0 [.ref h0, .int p0, .ref p1] [(h0, .inr (4, [v0h0, v1h0, v2h0, v3h0, .int 0]))] (fun r w => r = 0 ∧ w = []) := by
  refine cI.of (by decide) (Nat.le_of_ble_eq_true rfl) ?_
  intro p e s m args below meth c A X hr hi
  refine k_lveq [(0, .ref h0), (1, .int p0), (2, .ref p1)] rfl ?_
  refine k_iload_n X dX4_goBack_0 1 rfl ?_
  refine k_if_lt 12 X dX4_goBack_1 (by decide) (fun h_1 => ?_) (fun h_1 => ?_)
  · skip
    refine k_iconst (v := 0) X dX4_goBack_12 (by decide) ?_
    exact k_zret X hr rfl dX4_goBack_13 (Nat.le_of_ble_eq_true rfl) (Nat.le_of_ble_eq_true rfl) [] (by decide) rfl rfl ⟨rfl, rfl⟩
  · skip
    refine k_iload_n X dX4_goBack_4 1 rfl ?_
    refine k_aload_n X dX4_goBack_5 0 rfl ?_
    refine k_get (ci := 4) X inlX4 rfl 4 (by decide) dX4_goBack_6 mw60 0 rfl rfl ?_
    refine k_ic_lt 14 X dX4_goBack_9 (by decide) (fun h_2 => absurd h_2 h_1) (fun h_2 => ?_)
    refine k_iconst (v := 0) X dX4_goBack_12 (by decide) ?_
    exact k_zret X hr rfl dX4_goBack_13 (Nat.le_of_ble_eq_true rfl) (Nat.le_of_ble_eq_true rfl) [] (by decide) rfl rfl ⟨rfl, rfl⟩

theorem dX10_fault_0 : decode cX10_fault 0 = .ok (.aload_n 0, 1) := by decide +kernel
theorem dX10_fault_1 : decode cX10_fault 1 = .ok (.getfield 10, 3) := by decide +kernel
theorem dX10_fault_4 : decode cX10_fault 4 = .ok (.getfield 90, 3) := by decide +kernel
theorem dX10_fault_7 : decode cX10_fault 7 = .ok (.ireturn, 1) := by decide +kernel
set_option maxHeartbeats 4000000 in
set_option maxRecDepth 100000 in
theorem m_fault (l : Launch) (g : Gx) (h0 : Nat) (tx : Nat) (v1h0 : Value) (v2h0 : Value) (v3h0 : Value) (v4h0 : Value) (v5h0 : Value) (v6h0 : Value) (v7h0 : Value) (v8h0 : Value) (v9h0 : Value) (v0tx : Value) (v1tx : Value) (v3tx : Value) (v4tx : Value) (v5tx : Value) (v6tx : Value) (v7tx : Value) (v8tx : Value) (v9tx : Value) (v10tx : Value) (v11tx : Value) (v12tx : Value) (v13tx : Value) (v14tx : Value) : cI l g yX10_fault cX10_fault 1 (some .int) 0 0 0 0 [.ref h0] [(h0, .inr (10, [.ref tx, v1h0, v2h0, v3h0, v4h0, v5h0, v6h0, v7h0, v8h0, v9h0])), (tx, .inr (9, [v0tx, v1tx, .int 0, v3tx, v4tx, v5tx, v6tx, v7tx, v8tx, v9tx, v10tx, v11tx, v12tx, v13tx, v14tx]))] (fun r w => r = 0 ∧ w = []) := by
  refine cI.of (by decide) (Nat.le_of_ble_eq_true rfl) ?_
  intro p e s m args below meth c A X hr hi
  refine k_lveq [(0, .ref h0)] rfl ?_
  refine k_aload_n X dX10_fault_0 0 rfl ?_
  refine k_get (ci := 10) X inlX10 rfl 0 (by decide) dX10_fault_1 mw124 0 rfl rfl ?_
  refine k_get (ci := 9) X inlX9 rfl 2 (by decide) dX10_fault_4 mw180 1 rfl rfl ?_
  exact k_iret X hr dX10_fault_7 (Nat.le_of_ble_eq_true rfl) (Nat.le_of_ble_eq_true rfl) [] (by decide) rfl rfl ⟨rfl, rfl⟩

theorem dX10_where_0 : decode cX10_where 0 = .ok (.aload_n 0, 1) := by decide +kernel
theorem dX10_where_1 : decode cX10_where 1 = .ok (.getfield 72, 3) := by decide +kernel
theorem dX10_where_4 : decode cX10_where 4 = .ok (.iconst 4, 1) := by decide +kernel
theorem dX10_where_5 : decode cX10_where 5 = .ok (.if_icmp .ne 13, 3) := by decide +kernel
theorem dX10_where_18 : decode cX10_where 18 = .ok (.iconst (-1), 1) := by decide +kernel
theorem dX10_where_19 : decode cX10_where 19 = .ok (.ireturn, 1) := by decide +kernel
set_option maxHeartbeats 4000000 in
set_option maxRecDepth 100000 in
theorem m_where (l : Launch) (g : Gx) (h0 : Nat) (v0h0 : Value) (v1h0 : Value) (v2h0 : Value) (v3h0 : Value) (v4h0 : Value) (v5h0 : Value) (v6h0 : Value) (v7h0 : Value) (v8h0 : Value) : cI l g yX10_where cX10_where 1 (some .int) 0 0 0 0 [.ref h0] [(h0, .inr (10, [v0h0, v1h0, v2h0, v3h0, v4h0, v5h0, v6h0, v7h0, v8h0, .int 0]))] (fun r w => r = (-1) ∧ w = []) := by
  refine cI.of (by decide) (Nat.le_of_ble_eq_true rfl) ?_
  intro p e s m args below meth c A X hr hi
  refine k_lveq [(0, .ref h0)] rfl ?_
  refine k_aload_n X dX10_where_0 0 rfl ?_
  refine k_get (ci := 10) X inlX10 rfl 9 (by decide) dX10_where_1 mw166 0 rfl rfl ?_
  refine k_iconst (v := 4) X dX10_where_4 (by decide) ?_
  refine k_ic_ne 18 X dX10_where_5 (by decide) (fun _ => ?_) (fun h_1 => absurd h_1 (by decide))
  refine k_iconst (v := -1) X dX10_where_18 (by decide) ?_
  exact k_iret X hr dX10_where_19 (Nat.le_of_ble_eq_true rfl) (Nat.le_of_ble_eq_true rfl) [] (by decide) rfl rfl ⟨rfl, rfl⟩

theorem dX10_reel_0 : decode cX10_reel 0 = .ok (.aload_n 0, 1) := by decide +kernel
theorem dX10_reel_1 : decode cX10_reel 1 = .ok (.getfield 26, 3) := by decide +kernel
theorem dX10_reel_4 : decode cX10_reel 4 = .ok (.getfield 124, 3) := by decide +kernel
theorem dX10_reel_7 : decode cX10_reel 7 = .ok (.iload_n 1, 1) := by decide +kernel
theorem dX10_reel_8 : decode cX10_reel 8 = .ok (.invokevirtual 127, 3) := by decide +kernel
theorem dX10_reel_11 : decode cX10_reel 11 = .ok (.ifCond .eq 12, 3) := by decide +kernel
theorem dX10_reel_23 : decode cX10_reel 23 = .ok (.aload_n 0, 1) := by decide +kernel
theorem dX10_reel_24 : decode cX10_reel 24 = .ok (.iconst 1, 1) := by decide +kernel
theorem dX10_reel_25 : decode cX10_reel 25 = .ok (.invokevirtual 83, 3) := by decide +kernel
theorem dX10_reel_28 : decode cX10_reel 28 = .ok (.ireturn, 1) := by decide +kernel
set_option maxHeartbeats 4000000 in
set_option maxRecDepth 100000 in
theorem m_reel (l : Launch) (g : Gx) (h0 : Nat) (p0 : Int32) (p1 : Int32) (v0h0 : Value) (v1h0 : Value) (nw : Nat) (v3h0 : Value) (v4h0 : Value) (v5h0 : Value) (v6h0 : Value) (v7h0 : Value) (v8h0 : Value) (v9h0 : Value) (nr : Nat) (v1nw : Value) (v2nw : Value) (v3nw : Value) (v4nw : Value) (v5nw : Value) (v0nr : Value) (v1nr : Value) (v2nr : Value) : cI l g yX10_reel cX10_reel 3 (some .int) 1 21 0 0 [.ref h0, .int p0, .int p1] [(h0, .inr (10, [v0h0, v1h0, .ref nw, v3h0, v4h0, v5h0, v6h0, v7h0, v8h0, v9h0])), (nw, .inr (7, [.ref nr, v1nw, v2nw, v3nw, v4nw, v5nw])), (nr, .inr (8, [v0nr, v1nr, v2nr, .int 0]))] (fun r w => r = (-1) ∧ w = []) := by
  refine cI.of (by decide) (Nat.le_of_ble_eq_true rfl) ?_
  intro p e s m args below meth c A X hr hi
  refine k_lveq [(0, .ref h0), (1, .int p0), (2, .int p1)] rfl ?_
  refine k_aload_n X dX10_reel_0 0 rfl ?_
  refine k_get (ci := 10) X inlX10 rfl 2 (by decide) dX10_reel_1 mw128 0 rfl rfl ?_
  refine k_get (ci := 7) X inlX7 rfl 0 (by decide) dX10_reel_4 mw181 1 rfl rfl ?_
  refine k_iload_n X dX10_reel_7 1 rfl ?_
  refine k_callVI (n := 1) (As := [.int p0]) (st := []) X [(nr, .inr (8, [v0nr, v1nr, v2nr, .int 0]))] [(h0, .inr (10, [v0h0, v1h0, .ref nw, v3h0, v4h0, v5h0, v6h0, v7h0, v8h0, v9h0])), (nw, .inr (7, [.ref nr, v1nw, v2nw, v3nw, v4nw, v5nw]))] [2] [0, 1] (c_T_has l g nr p0 v0nr v1nr v2nr) dX10_reel_8 mw170 mw30 mw31 mw15 mw32 rfl 8 rfl rfl 0 _ rfl (by unfold yOk; decide) rfl (Nat.le_of_ble_eq_true rfl) (Nat.le_of_ble_eq_true rfl) (Nat.le_of_ble_eq_true rfl) (Nat.le_of_ble_eq_true rfl) (Nat.le_of_ble_eq_true rfl) rfl rfl (by decide) rfl (by decide) (by decide) ?_
  rintro r w ⟨rfl, rfl⟩
  refine k_ws [(h0, .inr (10, [v0h0, v1h0, .ref nw, v3h0, v4h0, v5h0, v6h0, v7h0, v8h0, v9h0])), (nw, .inr (7, [.ref nr, v1nw, v2nw, v3nw, v4nw, v5nw])), (nr, .inr (8, [v0nr, v1nr, v2nr, .int 0]))] rfl ?_
  refine k_if_eq 23 X dX10_reel_11 (by decide) (fun _ => ?_) (fun h_1 => absurd (by decide) h_1)
  refine k_aload_n X dX10_reel_23 0 rfl ?_
  refine k_iconst (v := 1) X dX10_reel_24 (by decide) ?_
  refine k_callVI (n := 1) (As := [.int 1]) (st := []) X [(h0, .inr (10, [v0h0, v1h0, .ref nw, v3h0, v4h0, v5h0, v6h0, v7h0, v8h0, v9h0]))] [(nw, .inr (7, [.ref nr, v1nw, v2nw, v3nw, v4nw, v5nw])), (nr, .inr (8, [v0nr, v1nr, v2nr, .int 0]))] [0] [1, 2] (c_refuse l g h0 1 v0h0 v1h0 (.ref nw) v3h0 v4h0 v5h0 v6h0 v7h0 v8h0 v9h0) dX10_reel_25 mw176 mw177 mw178 mw174 mw179 rfl 10 rfl rfl 0 _ rfl (by unfold yOk; decide) rfl (Nat.le_of_ble_eq_true rfl) (Nat.le_of_ble_eq_true rfl) (Nat.le_of_ble_eq_true rfl) (Nat.le_of_ble_eq_true rfl) (Nat.le_of_ble_eq_true rfl) rfl rfl (by decide) rfl (by decide) (by decide) ?_
  rintro r w ⟨rfl, rfl⟩
  refine k_ws [(nw, .inr (7, [.ref nr, v1nw, v2nw, v3nw, v4nw, v5nw])), (nr, .inr (8, [v0nr, v1nr, v2nr, .int 0]))] rfl ?_
  exact k_iret X hr dX10_reel_28 (Nat.le_of_ble_eq_true rfl) (Nat.le_of_ble_eq_true rfl) [] (by decide) rfl rfl ⟨rfl, rfl⟩

theorem dX10_mark_0 : decode cX10_mark 0 = .ok (.aload_n 0, 1) := by decide +kernel
theorem dX10_mark_1 : decode cX10_mark 1 = .ok (.getfield 26, 3) := by decide +kernel
theorem dX10_mark_4 : decode cX10_mark 4 = .ok (.getfield 124, 3) := by decide +kernel
theorem dX10_mark_7 : decode cX10_mark 7 = .ok (.iload_n 1, 1) := by decide +kernel
theorem dX10_mark_8 : decode cX10_mark 8 = .ok (.invokevirtual 127, 3) := by decide +kernel
theorem dX10_mark_11 : decode cX10_mark 11 = .ok (.ifCond .eq 17, 3) := by decide +kernel
theorem dX10_mark_28 : decode cX10_mark 28 = .ok (.aload_n 0, 1) := by decide +kernel
theorem dX10_mark_29 : decode cX10_mark 29 = .ok (.iconst 1, 1) := by decide +kernel
theorem dX10_mark_30 : decode cX10_mark 30 = .ok (.invokevirtual 83, 3) := by decide +kernel
theorem dX10_mark_33 : decode cX10_mark 33 = .ok (.ireturn, 1) := by decide +kernel
set_option maxHeartbeats 4000000 in
set_option maxRecDepth 100000 in
theorem m_mark (l : Launch) (g : Gx) (h0 : Nat) (p0 : Int32) (p1 : Int32) (v0h0 : Value) (v1h0 : Value) (nw : Nat) (v3h0 : Value) (v4h0 : Value) (v5h0 : Value) (v6h0 : Value) (v7h0 : Value) (v8h0 : Value) (v9h0 : Value) (nr : Nat) (v1nw : Value) (v2nw : Value) (v3nw : Value) (v4nw : Value) (v5nw : Value) (v0nr : Value) (v1nr : Value) (v2nr : Value) : cI l g yX10_mark cX10_mark 3 (some .int) 1 21 0 0 [.ref h0, .int p0, .int p1] [(h0, .inr (10, [v0h0, v1h0, .ref nw, v3h0, v4h0, v5h0, v6h0, v7h0, v8h0, v9h0])), (nw, .inr (7, [.ref nr, v1nw, v2nw, v3nw, v4nw, v5nw])), (nr, .inr (8, [v0nr, v1nr, v2nr, .int 0]))] (fun r w => r = (-1) ∧ w = []) := by
  refine cI.of (by decide) (Nat.le_of_ble_eq_true rfl) ?_
  intro p e s m args below meth c A X hr hi
  refine k_lveq [(0, .ref h0), (1, .int p0), (2, .int p1)] rfl ?_
  refine k_aload_n X dX10_mark_0 0 rfl ?_
  refine k_get (ci := 10) X inlX10 rfl 2 (by decide) dX10_mark_1 mw128 0 rfl rfl ?_
  refine k_get (ci := 7) X inlX7 rfl 0 (by decide) dX10_mark_4 mw181 1 rfl rfl ?_
  refine k_iload_n X dX10_mark_7 1 rfl ?_
  refine k_callVI (n := 1) (As := [.int p0]) (st := []) X [(nr, .inr (8, [v0nr, v1nr, v2nr, .int 0]))] [(h0, .inr (10, [v0h0, v1h0, .ref nw, v3h0, v4h0, v5h0, v6h0, v7h0, v8h0, v9h0])), (nw, .inr (7, [.ref nr, v1nw, v2nw, v3nw, v4nw, v5nw]))] [2] [0, 1] (c_T_has l g nr p0 v0nr v1nr v2nr) dX10_mark_8 mw170 mw30 mw31 mw15 mw32 rfl 8 rfl rfl 0 _ rfl (by unfold yOk; decide) rfl (Nat.le_of_ble_eq_true rfl) (Nat.le_of_ble_eq_true rfl) (Nat.le_of_ble_eq_true rfl) (Nat.le_of_ble_eq_true rfl) (Nat.le_of_ble_eq_true rfl) rfl rfl (by decide) rfl (by decide) (by decide) ?_
  rintro r w ⟨rfl, rfl⟩
  refine k_ws [(h0, .inr (10, [v0h0, v1h0, .ref nw, v3h0, v4h0, v5h0, v6h0, v7h0, v8h0, v9h0])), (nw, .inr (7, [.ref nr, v1nw, v2nw, v3nw, v4nw, v5nw])), (nr, .inr (8, [v0nr, v1nr, v2nr, .int 0]))] rfl ?_
  refine k_if_eq 28 X dX10_mark_11 (by decide) (fun _ => ?_) (fun h_1 => absurd (by decide) h_1)
  refine k_aload_n X dX10_mark_28 0 rfl ?_
  refine k_iconst (v := 1) X dX10_mark_29 (by decide) ?_
  refine k_callVI (n := 1) (As := [.int 1]) (st := []) X [(h0, .inr (10, [v0h0, v1h0, .ref nw, v3h0, v4h0, v5h0, v6h0, v7h0, v8h0, v9h0]))] [(nw, .inr (7, [.ref nr, v1nw, v2nw, v3nw, v4nw, v5nw])), (nr, .inr (8, [v0nr, v1nr, v2nr, .int 0]))] [0] [1, 2] (c_refuse l g h0 1 v0h0 v1h0 (.ref nw) v3h0 v4h0 v5h0 v6h0 v7h0 v8h0 v9h0) dX10_mark_30 mw176 mw177 mw178 mw174 mw179 rfl 10 rfl rfl 0 _ rfl (by unfold yOk; decide) rfl (Nat.le_of_ble_eq_true rfl) (Nat.le_of_ble_eq_true rfl) (Nat.le_of_ble_eq_true rfl) (Nat.le_of_ble_eq_true rfl) (Nat.le_of_ble_eq_true rfl) rfl rfl (by decide) rfl (by decide) (by decide) ?_
  rintro r w ⟨rfl, rfl⟩
  refine k_ws [(nw, .inr (7, [.ref nr, v1nw, v2nw, v3nw, v4nw, v5nw])), (nr, .inr (8, [v0nr, v1nr, v2nr, .int 0]))] rfl ?_
  exact k_iret X hr dX10_mark_33 (Nat.le_of_ble_eq_true rfl) (Nat.le_of_ble_eq_true rfl) [] (by decide) rfl rfl ⟨rfl, rfl⟩

theorem dX10_likeliest_0 : decode cX10_likeliest 0 = .ok (.aload_n 0, 1) := by decide +kernel
theorem dX10_likeliest_1 : decode cX10_likeliest 1 = .ok (.getfield 26, 3) := by decide +kernel
theorem dX10_likeliest_4 : decode cX10_likeliest 4 = .ok (.getfield 124, 3) := by decide +kernel
theorem dX10_likeliest_7 : decode cX10_likeliest 7 = .ok (.iload_n 1, 1) := by decide +kernel
theorem dX10_likeliest_8 : decode cX10_likeliest 8 = .ok (.invokevirtual 127, 3) := by decide +kernel
theorem dX10_likeliest_11 : decode cX10_likeliest 11 = .ok (.ifCond .eq 25, 3) := by decide +kernel
theorem dX10_likeliest_36 : decode cX10_likeliest 36 = .ok (.aload_n 0, 1) := by decide +kernel
theorem dX10_likeliest_37 : decode cX10_likeliest 37 = .ok (.iconst 1, 1) := by decide +kernel
theorem dX10_likeliest_38 : decode cX10_likeliest 38 = .ok (.invokevirtual 83, 3) := by decide +kernel
theorem dX10_likeliest_41 : decode cX10_likeliest 41 = .ok (.ireturn, 1) := by decide +kernel
set_option maxHeartbeats 4000000 in
set_option maxRecDepth 100000 in
theorem m_likeliest (l : Launch) (g : Gx) (h0 : Nat) (p0 : Int32) (v0h0 : Value) (v1h0 : Value) (nw : Nat) (v3h0 : Value) (v4h0 : Value) (v5h0 : Value) (v6h0 : Value) (v7h0 : Value) (v8h0 : Value) (v9h0 : Value) (nr : Nat) (v1nw : Value) (v2nw : Value) (v3nw : Value) (v4nw : Value) (v5nw : Value) (v0nr : Value) (v1nr : Value) (v2nr : Value) : cI l g yX10_likeliest cX10_likeliest 2 (some .int) 1 21 0 0 [.ref h0, .int p0] [(h0, .inr (10, [v0h0, v1h0, .ref nw, v3h0, v4h0, v5h0, v6h0, v7h0, v8h0, v9h0])), (nw, .inr (7, [.ref nr, v1nw, v2nw, v3nw, v4nw, v5nw])), (nr, .inr (8, [v0nr, v1nr, v2nr, .int 0]))] (fun r w => r = (-1) ∧ w = []) := by
  refine cI.of (by decide) (Nat.le_of_ble_eq_true rfl) ?_
  intro p e s m args below meth c A X hr hi
  refine k_lveq [(0, .ref h0), (1, .int p0)] rfl ?_
  refine k_aload_n X dX10_likeliest_0 0 rfl ?_
  refine k_get (ci := 10) X inlX10 rfl 2 (by decide) dX10_likeliest_1 mw128 0 rfl rfl ?_
  refine k_get (ci := 7) X inlX7 rfl 0 (by decide) dX10_likeliest_4 mw181 1 rfl rfl ?_
  refine k_iload_n X dX10_likeliest_7 1 rfl ?_
  refine k_callVI (n := 1) (As := [.int p0]) (st := []) X [(nr, .inr (8, [v0nr, v1nr, v2nr, .int 0]))] [(h0, .inr (10, [v0h0, v1h0, .ref nw, v3h0, v4h0, v5h0, v6h0, v7h0, v8h0, v9h0])), (nw, .inr (7, [.ref nr, v1nw, v2nw, v3nw, v4nw, v5nw]))] [2] [0, 1] (c_T_has l g nr p0 v0nr v1nr v2nr) dX10_likeliest_8 mw170 mw30 mw31 mw15 mw32 rfl 8 rfl rfl 0 _ rfl (by unfold yOk; decide) rfl (Nat.le_of_ble_eq_true rfl) (Nat.le_of_ble_eq_true rfl) (Nat.le_of_ble_eq_true rfl) (Nat.le_of_ble_eq_true rfl) (Nat.le_of_ble_eq_true rfl) rfl rfl (by decide) rfl (by decide) (by decide) ?_
  rintro r w ⟨rfl, rfl⟩
  refine k_ws [(h0, .inr (10, [v0h0, v1h0, .ref nw, v3h0, v4h0, v5h0, v6h0, v7h0, v8h0, v9h0])), (nw, .inr (7, [.ref nr, v1nw, v2nw, v3nw, v4nw, v5nw])), (nr, .inr (8, [v0nr, v1nr, v2nr, .int 0]))] rfl ?_
  refine k_if_eq 36 X dX10_likeliest_11 (by decide) (fun _ => ?_) (fun h_1 => absurd (by decide) h_1)
  refine k_aload_n X dX10_likeliest_36 0 rfl ?_
  refine k_iconst (v := 1) X dX10_likeliest_37 (by decide) ?_
  refine k_callVI (n := 1) (As := [.int 1]) (st := []) X [(h0, .inr (10, [v0h0, v1h0, .ref nw, v3h0, v4h0, v5h0, v6h0, v7h0, v8h0, v9h0]))] [(nw, .inr (7, [.ref nr, v1nw, v2nw, v3nw, v4nw, v5nw])), (nr, .inr (8, [v0nr, v1nr, v2nr, .int 0]))] [0] [1, 2] (c_refuse l g h0 1 v0h0 v1h0 (.ref nw) v3h0 v4h0 v5h0 v6h0 v7h0 v8h0 v9h0) dX10_likeliest_38 mw176 mw177 mw178 mw174 mw179 rfl 10 rfl rfl 0 _ rfl (by unfold yOk; decide) rfl (Nat.le_of_ble_eq_true rfl) (Nat.le_of_ble_eq_true rfl) (Nat.le_of_ble_eq_true rfl) (Nat.le_of_ble_eq_true rfl) (Nat.le_of_ble_eq_true rfl) rfl rfl (by decide) rfl (by decide) (by decide) ?_
  rintro r w ⟨rfl, rfl⟩
  refine k_ws [(nw, .inr (7, [.ref nr, v1nw, v2nw, v3nw, v4nw, v5nw])), (nr, .inr (8, [v0nr, v1nr, v2nr, .int 0]))] rfl ?_
  exact k_iret X hr dX10_likeliest_41 (Nat.le_of_ble_eq_true rfl) (Nat.le_of_ble_eq_true rfl) [] (by decide) rfl rfl ⟨rfl, rfl⟩

theorem dX10_missing_0 : decode cX10_missing 0 = .ok (.aload_n 0, 1) := by decide +kernel
theorem dX10_missing_1 : decode cX10_missing 1 = .ok (.getfield 26, 3) := by decide +kernel
theorem dX10_missing_4 : decode cX10_missing 4 = .ok (.getfield 124, 3) := by decide +kernel
theorem dX10_missing_7 : decode cX10_missing 7 = .ok (.iload_n 1, 1) := by decide +kernel
theorem dX10_missing_8 : decode cX10_missing 8 = .ok (.invokevirtual 127, 3) := by decide +kernel
theorem dX10_missing_11 : decode cX10_missing 11 = .ok (.ifCond .ne 9, 3) := by decide +kernel
theorem dX10_missing_14 : decode cX10_missing 14 = .ok (.aload_n 0, 1) := by decide +kernel
theorem dX10_missing_15 : decode cX10_missing 15 = .ok (.iconst 1, 1) := by decide +kernel
theorem dX10_missing_16 : decode cX10_missing 16 = .ok (.invokevirtual 83, 3) := by decide +kernel
theorem dX10_missing_19 : decode cX10_missing 19 = .ok (.ireturn, 1) := by decide +kernel
set_option maxHeartbeats 4000000 in
set_option maxRecDepth 100000 in
theorem m_missing (l : Launch) (g : Gx) (h0 : Nat) (p0 : Int32) (p1 : Int32) (v0h0 : Value) (v1h0 : Value) (nw : Nat) (v3h0 : Value) (v4h0 : Value) (v5h0 : Value) (v6h0 : Value) (v7h0 : Value) (v8h0 : Value) (v9h0 : Value) (nr : Nat) (v1nw : Value) (v2nw : Value) (v3nw : Value) (v4nw : Value) (v5nw : Value) (v0nr : Value) (v1nr : Value) (v2nr : Value) : cI l g yX10_missing cX10_missing 4 (some .int) 1 21 0 0 [.ref h0, .int p0, .int p1] [(h0, .inr (10, [v0h0, v1h0, .ref nw, v3h0, v4h0, v5h0, v6h0, v7h0, v8h0, v9h0])), (nw, .inr (7, [.ref nr, v1nw, v2nw, v3nw, v4nw, v5nw])), (nr, .inr (8, [v0nr, v1nr, v2nr, .int 0]))] (fun r w => r = (-1) ∧ w = []) := by
  refine cI.of (by decide) (Nat.le_of_ble_eq_true rfl) ?_
  intro p e s m args below meth c A X hr hi
  refine k_lveq [(0, .ref h0), (1, .int p0), (2, .int p1)] rfl ?_
  refine k_aload_n X dX10_missing_0 0 rfl ?_
  refine k_get (ci := 10) X inlX10 rfl 2 (by decide) dX10_missing_1 mw128 0 rfl rfl ?_
  refine k_get (ci := 7) X inlX7 rfl 0 (by decide) dX10_missing_4 mw181 1 rfl rfl ?_
  refine k_iload_n X dX10_missing_7 1 rfl ?_
  refine k_callVI (n := 1) (As := [.int p0]) (st := []) X [(nr, .inr (8, [v0nr, v1nr, v2nr, .int 0]))] [(h0, .inr (10, [v0h0, v1h0, .ref nw, v3h0, v4h0, v5h0, v6h0, v7h0, v8h0, v9h0])), (nw, .inr (7, [.ref nr, v1nw, v2nw, v3nw, v4nw, v5nw]))] [2] [0, 1] (c_T_has l g nr p0 v0nr v1nr v2nr) dX10_missing_8 mw170 mw30 mw31 mw15 mw32 rfl 8 rfl rfl 0 _ rfl (by unfold yOk; decide) rfl (Nat.le_of_ble_eq_true rfl) (Nat.le_of_ble_eq_true rfl) (Nat.le_of_ble_eq_true rfl) (Nat.le_of_ble_eq_true rfl) (Nat.le_of_ble_eq_true rfl) rfl rfl (by decide) rfl (by decide) (by decide) ?_
  rintro r w ⟨rfl, rfl⟩
  refine k_ws [(h0, .inr (10, [v0h0, v1h0, .ref nw, v3h0, v4h0, v5h0, v6h0, v7h0, v8h0, v9h0])), (nw, .inr (7, [.ref nr, v1nw, v2nw, v3nw, v4nw, v5nw])), (nr, .inr (8, [v0nr, v1nr, v2nr, .int 0]))] rfl ?_
  refine k_if_ne 20 X dX10_missing_11 (by decide) (fun h_1 => absurd h_1 (by decide)) (fun _ => ?_)
  refine k_aload_n X dX10_missing_14 0 rfl ?_
  refine k_iconst (v := 1) X dX10_missing_15 (by decide) ?_
  refine k_callVI (n := 1) (As := [.int 1]) (st := []) X [(h0, .inr (10, [v0h0, v1h0, .ref nw, v3h0, v4h0, v5h0, v6h0, v7h0, v8h0, v9h0]))] [(nw, .inr (7, [.ref nr, v1nw, v2nw, v3nw, v4nw, v5nw])), (nr, .inr (8, [v0nr, v1nr, v2nr, .int 0]))] [0] [1, 2] (c_refuse l g h0 1 v0h0 v1h0 (.ref nw) v3h0 v4h0 v5h0 v6h0 v7h0 v8h0 v9h0) dX10_missing_16 mw176 mw177 mw178 mw174 mw179 rfl 10 rfl rfl 0 _ rfl (by unfold yOk; decide) rfl (Nat.le_of_ble_eq_true rfl) (Nat.le_of_ble_eq_true rfl) (Nat.le_of_ble_eq_true rfl) (Nat.le_of_ble_eq_true rfl) (Nat.le_of_ble_eq_true rfl) rfl rfl (by decide) rfl (by decide) (by decide) ?_
  rintro r w ⟨rfl, rfl⟩
  refine k_ws [(nw, .inr (7, [.ref nr, v1nw, v2nw, v3nw, v4nw, v5nw])), (nr, .inr (8, [v0nr, v1nr, v2nr, .int 0]))] rfl ?_
  exact k_iret X hr dX10_missing_19 (Nat.le_of_ble_eq_true rfl) (Nat.le_of_ble_eq_true rfl) [] (by decide) rfl rfl ⟨rfl, rfl⟩

theorem dX10_words_0 : decode cX10_words 0 = .ok (.aload_n 0, 1) := by decide +kernel
theorem dX10_words_1 : decode cX10_words 1 = .ok (.getfield 26, 3) := by decide +kernel
theorem dX10_words_4 : decode cX10_words 4 = .ok (.getfield 124, 3) := by decide +kernel
theorem dX10_words_7 : decode cX10_words 7 = .ok (.iload_n 1, 1) := by decide +kernel
theorem dX10_words_8 : decode cX10_words 8 = .ok (.invokevirtual 127, 3) := by decide +kernel
theorem dX10_words_11 : decode cX10_words 11 = .ok (.ifCond .ne 9, 3) := by decide +kernel
theorem dX10_words_14 : decode cX10_words 14 = .ok (.aload_n 0, 1) := by decide +kernel
theorem dX10_words_15 : decode cX10_words 15 = .ok (.iconst 1, 1) := by decide +kernel
theorem dX10_words_16 : decode cX10_words 16 = .ok (.invokevirtual 83, 3) := by decide +kernel
theorem dX10_words_19 : decode cX10_words 19 = .ok (.ireturn, 1) := by decide +kernel
set_option maxHeartbeats 4000000 in
set_option maxRecDepth 100000 in
theorem m_words (l : Launch) (g : Gx) (h0 : Nat) (p0 : Int32) (v0h0 : Value) (v1h0 : Value) (nw : Nat) (v3h0 : Value) (v4h0 : Value) (v5h0 : Value) (v6h0 : Value) (v7h0 : Value) (v8h0 : Value) (v9h0 : Value) (nr : Nat) (v1nw : Value) (v2nw : Value) (v3nw : Value) (v4nw : Value) (v5nw : Value) (v0nr : Value) (v1nr : Value) (v2nr : Value) : cI l g yX10_words cX10_words 4 (some .int) 1 21 0 0 [.ref h0, .int p0] [(h0, .inr (10, [v0h0, v1h0, .ref nw, v3h0, v4h0, v5h0, v6h0, v7h0, v8h0, v9h0])), (nw, .inr (7, [.ref nr, v1nw, v2nw, v3nw, v4nw, v5nw])), (nr, .inr (8, [v0nr, v1nr, v2nr, .int 0]))] (fun r w => r = (-1) ∧ w = []) := by
  refine cI.of (by decide) (Nat.le_of_ble_eq_true rfl) ?_
  intro p e s m args below meth c A X hr hi
  refine k_lveq [(0, .ref h0), (1, .int p0)] rfl ?_
  refine k_aload_n X dX10_words_0 0 rfl ?_
  refine k_get (ci := 10) X inlX10 rfl 2 (by decide) dX10_words_1 mw128 0 rfl rfl ?_
  refine k_get (ci := 7) X inlX7 rfl 0 (by decide) dX10_words_4 mw181 1 rfl rfl ?_
  refine k_iload_n X dX10_words_7 1 rfl ?_
  refine k_callVI (n := 1) (As := [.int p0]) (st := []) X [(nr, .inr (8, [v0nr, v1nr, v2nr, .int 0]))] [(h0, .inr (10, [v0h0, v1h0, .ref nw, v3h0, v4h0, v5h0, v6h0, v7h0, v8h0, v9h0])), (nw, .inr (7, [.ref nr, v1nw, v2nw, v3nw, v4nw, v5nw]))] [2] [0, 1] (c_T_has l g nr p0 v0nr v1nr v2nr) dX10_words_8 mw170 mw30 mw31 mw15 mw32 rfl 8 rfl rfl 0 _ rfl (by unfold yOk; decide) rfl (Nat.le_of_ble_eq_true rfl) (Nat.le_of_ble_eq_true rfl) (Nat.le_of_ble_eq_true rfl) (Nat.le_of_ble_eq_true rfl) (Nat.le_of_ble_eq_true rfl) rfl rfl (by decide) rfl (by decide) (by decide) ?_
  rintro r w ⟨rfl, rfl⟩
  refine k_ws [(h0, .inr (10, [v0h0, v1h0, .ref nw, v3h0, v4h0, v5h0, v6h0, v7h0, v8h0, v9h0])), (nw, .inr (7, [.ref nr, v1nw, v2nw, v3nw, v4nw, v5nw])), (nr, .inr (8, [v0nr, v1nr, v2nr, .int 0]))] rfl ?_
  refine k_if_ne 20 X dX10_words_11 (by decide) (fun h_1 => absurd h_1 (by decide)) (fun _ => ?_)
  refine k_aload_n X dX10_words_14 0 rfl ?_
  refine k_iconst (v := 1) X dX10_words_15 (by decide) ?_
  refine k_callVI (n := 1) (As := [.int 1]) (st := []) X [(h0, .inr (10, [v0h0, v1h0, .ref nw, v3h0, v4h0, v5h0, v6h0, v7h0, v8h0, v9h0]))] [(nw, .inr (7, [.ref nr, v1nw, v2nw, v3nw, v4nw, v5nw])), (nr, .inr (8, [v0nr, v1nr, v2nr, .int 0]))] [0] [1, 2] (c_refuse l g h0 1 v0h0 v1h0 (.ref nw) v3h0 v4h0 v5h0 v6h0 v7h0 v8h0 v9h0) dX10_words_16 mw176 mw177 mw178 mw174 mw179 rfl 10 rfl rfl 0 _ rfl (by unfold yOk; decide) rfl (Nat.le_of_ble_eq_true rfl) (Nat.le_of_ble_eq_true rfl) (Nat.le_of_ble_eq_true rfl) (Nat.le_of_ble_eq_true rfl) (Nat.le_of_ble_eq_true rfl) rfl rfl (by decide) rfl (by decide) (by decide) ?_
  rintro r w ⟨rfl, rfl⟩
  refine k_ws [(nw, .inr (7, [.ref nr, v1nw, v2nw, v3nw, v4nw, v5nw])), (nr, .inr (8, [v0nr, v1nr, v2nr, .int 0]))] rfl ?_
  exact k_iret X hr dX10_words_19 (Nat.le_of_ble_eq_true rfl) (Nat.le_of_ble_eq_true rfl) [] (by decide) rfl rfl ⟨rfl, rfl⟩

theorem dX10_truly_0 : decode cX10_truly 0 = .ok (.aload_n 0, 1) := by decide +kernel
theorem dX10_truly_1 : decode cX10_truly 1 = .ok (.getfield 26, 3) := by decide +kernel
theorem dX10_truly_4 : decode cX10_truly 4 = .ok (.getfield 124, 3) := by decide +kernel
theorem dX10_truly_7 : decode cX10_truly 7 = .ok (.iload_n 1, 1) := by decide +kernel
theorem dX10_truly_8 : decode cX10_truly 8 = .ok (.invokevirtual 127, 3) := by decide +kernel
theorem dX10_truly_11 : decode cX10_truly 11 = .ok (.ifCond .eq 15, 3) := by decide +kernel
theorem dX10_truly_26 : decode cX10_truly 26 = .ok (.aload_n 0, 1) := by decide +kernel
theorem dX10_truly_27 : decode cX10_truly 27 = .ok (.iconst 1, 1) := by decide +kernel
theorem dX10_truly_28 : decode cX10_truly 28 = .ok (.invokevirtual 83, 3) := by decide +kernel
theorem dX10_truly_31 : decode cX10_truly 31 = .ok (.i2l, 1) := by decide +kernel
theorem dX10_truly_32 : decode cX10_truly 32 = .ok (.lreturn, 1) := by decide +kernel
set_option maxHeartbeats 4000000 in
set_option maxRecDepth 100000 in
theorem m_truly (l : Launch) (g : Gx) (h0 : Nat) (p0 : Int32) (p1 : Int32) (p2 : Int32) (v0h0 : Value) (v1h0 : Value) (nw : Nat) (v3h0 : Value) (v4h0 : Value) (v5h0 : Value) (v6h0 : Value) (v7h0 : Value) (v8h0 : Value) (v9h0 : Value) (nr : Nat) (v1nw : Value) (v2nw : Value) (v3nw : Value) (v4nw : Value) (v5nw : Value) (v0nr : Value) (v1nr : Value) (v2nr : Value) : cL l g yX10_truly cX10_truly 4 (some .long) 1 21 0 0 [.ref h0, .int p0, .int p1, .int p2] [(h0, .inr (10, [v0h0, v1h0, .ref nw, v3h0, v4h0, v5h0, v6h0, v7h0, v8h0, v9h0])), (nw, .inr (7, [.ref nr, v1nw, v2nw, v3nw, v4nw, v5nw])), (nr, .inr (8, [v0nr, v1nr, v2nr, .int 0]))] (fun r w => r = (-1) ∧ w = []) := by
  refine cL.of (by decide) (Nat.le_of_ble_eq_true rfl) ?_
  intro p e s m args below meth c A X hr hi
  refine k_lveq [(0, .ref h0), (1, .int p0), (2, .int p1), (3, .int p2)] rfl ?_
  refine k_aload_n X dX10_truly_0 0 rfl ?_
  refine k_get (ci := 10) X inlX10 rfl 2 (by decide) dX10_truly_1 mw128 0 rfl rfl ?_
  refine k_get (ci := 7) X inlX7 rfl 0 (by decide) dX10_truly_4 mw181 1 rfl rfl ?_
  refine k_iload_n X dX10_truly_7 1 rfl ?_
  refine k_callVI (n := 1) (As := [.int p0]) (st := []) X [(nr, .inr (8, [v0nr, v1nr, v2nr, .int 0]))] [(h0, .inr (10, [v0h0, v1h0, .ref nw, v3h0, v4h0, v5h0, v6h0, v7h0, v8h0, v9h0])), (nw, .inr (7, [.ref nr, v1nw, v2nw, v3nw, v4nw, v5nw]))] [2] [0, 1] (c_T_has l g nr p0 v0nr v1nr v2nr) dX10_truly_8 mw170 mw30 mw31 mw15 mw32 rfl 8 rfl rfl 0 _ rfl (by unfold yOk; decide) rfl (Nat.le_of_ble_eq_true rfl) (Nat.le_of_ble_eq_true rfl) (Nat.le_of_ble_eq_true rfl) (Nat.le_of_ble_eq_true rfl) (Nat.le_of_ble_eq_true rfl) rfl rfl (by decide) rfl (by decide) (by decide) ?_
  rintro r w ⟨rfl, rfl⟩
  refine k_ws [(h0, .inr (10, [v0h0, v1h0, .ref nw, v3h0, v4h0, v5h0, v6h0, v7h0, v8h0, v9h0])), (nw, .inr (7, [.ref nr, v1nw, v2nw, v3nw, v4nw, v5nw])), (nr, .inr (8, [v0nr, v1nr, v2nr, .int 0]))] rfl ?_
  refine k_if_eq 26 X dX10_truly_11 (by decide) (fun _ => ?_) (fun h_1 => absurd (by decide) h_1)
  refine k_aload_n X dX10_truly_26 0 rfl ?_
  refine k_iconst (v := 1) X dX10_truly_27 (by decide) ?_
  refine k_callVI (n := 1) (As := [.int 1]) (st := []) X [(h0, .inr (10, [v0h0, v1h0, .ref nw, v3h0, v4h0, v5h0, v6h0, v7h0, v8h0, v9h0]))] [(nw, .inr (7, [.ref nr, v1nw, v2nw, v3nw, v4nw, v5nw])), (nr, .inr (8, [v0nr, v1nr, v2nr, .int 0]))] [0] [1, 2] (c_refuse l g h0 1 v0h0 v1h0 (.ref nw) v3h0 v4h0 v5h0 v6h0 v7h0 v8h0 v9h0) dX10_truly_28 mw176 mw177 mw178 mw174 mw179 rfl 10 rfl rfl 0 _ rfl (by unfold yOk; decide) rfl (Nat.le_of_ble_eq_true rfl) (Nat.le_of_ble_eq_true rfl) (Nat.le_of_ble_eq_true rfl) (Nat.le_of_ble_eq_true rfl) (Nat.le_of_ble_eq_true rfl) rfl rfl (by decide) rfl (by decide) (by decide) ?_
  rintro r w ⟨rfl, rfl⟩
  refine k_ws [(nw, .inr (7, [.ref nr, v1nw, v2nw, v3nw, v4nw, v5nw])), (nr, .inr (8, [v0nr, v1nr, v2nr, .int 0]))] rfl ?_
  refine k_i2l X dX10_truly_31 ?_
  refine k_toL (-1) (by decide) ?_
  exact k_lret X hr dX10_truly_32 (Nat.le_of_ble_eq_true rfl) (Nat.le_of_ble_eq_true rfl) [] (by decide) rfl rfl ⟨rfl, rfl⟩

theorem dX10_wears_0 : decode cX10_wears 0 = .ok (.aload_n 0, 1) := by decide +kernel
theorem dX10_wears_1 : decode cX10_wears 1 = .ok (.getfield 26, 3) := by decide +kernel
theorem dX10_wears_4 : decode cX10_wears 4 = .ok (.getfield 124, 3) := by decide +kernel
theorem dX10_wears_7 : decode cX10_wears 7 = .ok (.iload_n 1, 1) := by decide +kernel
theorem dX10_wears_8 : decode cX10_wears 8 = .ok (.invokevirtual 127, 3) := by decide +kernel
theorem dX10_wears_11 : decode cX10_wears 11 = .ok (.ifCond .ne 10, 3) := by decide +kernel
theorem dX10_wears_14 : decode cX10_wears 14 = .ok (.aload_n 0, 1) := by decide +kernel
theorem dX10_wears_15 : decode cX10_wears 15 = .ok (.iconst 1, 1) := by decide +kernel
theorem dX10_wears_16 : decode cX10_wears 16 = .ok (.invokevirtual 83, 3) := by decide +kernel
theorem dX10_wears_19 : decode cX10_wears 19 = .ok (.i2l, 1) := by decide +kernel
theorem dX10_wears_20 : decode cX10_wears 20 = .ok (.lreturn, 1) := by decide +kernel
set_option maxHeartbeats 4000000 in
set_option maxRecDepth 100000 in
theorem m_wears (l : Launch) (g : Gx) (h0 : Nat) (p0 : Int32) (p1 : Int32) (p2 : Int32) (v0h0 : Value) (v1h0 : Value) (nw : Nat) (v3h0 : Value) (v4h0 : Value) (v5h0 : Value) (v6h0 : Value) (v7h0 : Value) (v8h0 : Value) (v9h0 : Value) (nr : Nat) (v1nw : Value) (v2nw : Value) (v3nw : Value) (v4nw : Value) (v5nw : Value) (v0nr : Value) (v1nr : Value) (v2nr : Value) : cL l g yX10_wears cX10_wears 6 (some .long) 1 21 0 0 [.ref h0, .int p0, .int p1, .int p2] [(h0, .inr (10, [v0h0, v1h0, .ref nw, v3h0, v4h0, v5h0, v6h0, v7h0, v8h0, v9h0])), (nw, .inr (7, [.ref nr, v1nw, v2nw, v3nw, v4nw, v5nw])), (nr, .inr (8, [v0nr, v1nr, v2nr, .int 0]))] (fun r w => r = (-1) ∧ w = []) := by
  refine cL.of (by decide) (Nat.le_of_ble_eq_true rfl) ?_
  intro p e s m args below meth c A X hr hi
  refine k_lveq [(0, .ref h0), (1, .int p0), (2, .int p1), (3, .int p2)] rfl ?_
  refine k_aload_n X dX10_wears_0 0 rfl ?_
  refine k_get (ci := 10) X inlX10 rfl 2 (by decide) dX10_wears_1 mw128 0 rfl rfl ?_
  refine k_get (ci := 7) X inlX7 rfl 0 (by decide) dX10_wears_4 mw181 1 rfl rfl ?_
  refine k_iload_n X dX10_wears_7 1 rfl ?_
  refine k_callVI (n := 1) (As := [.int p0]) (st := []) X [(nr, .inr (8, [v0nr, v1nr, v2nr, .int 0]))] [(h0, .inr (10, [v0h0, v1h0, .ref nw, v3h0, v4h0, v5h0, v6h0, v7h0, v8h0, v9h0])), (nw, .inr (7, [.ref nr, v1nw, v2nw, v3nw, v4nw, v5nw]))] [2] [0, 1] (c_T_has l g nr p0 v0nr v1nr v2nr) dX10_wears_8 mw170 mw30 mw31 mw15 mw32 rfl 8 rfl rfl 0 _ rfl (by unfold yOk; decide) rfl (Nat.le_of_ble_eq_true rfl) (Nat.le_of_ble_eq_true rfl) (Nat.le_of_ble_eq_true rfl) (Nat.le_of_ble_eq_true rfl) (Nat.le_of_ble_eq_true rfl) rfl rfl (by decide) rfl (by decide) (by decide) ?_
  rintro r w ⟨rfl, rfl⟩
  refine k_ws [(h0, .inr (10, [v0h0, v1h0, .ref nw, v3h0, v4h0, v5h0, v6h0, v7h0, v8h0, v9h0])), (nw, .inr (7, [.ref nr, v1nw, v2nw, v3nw, v4nw, v5nw])), (nr, .inr (8, [v0nr, v1nr, v2nr, .int 0]))] rfl ?_
  refine k_if_ne 21 X dX10_wears_11 (by decide) (fun h_1 => absurd h_1 (by decide)) (fun _ => ?_)
  refine k_aload_n X dX10_wears_14 0 rfl ?_
  refine k_iconst (v := 1) X dX10_wears_15 (by decide) ?_
  refine k_callVI (n := 1) (As := [.int 1]) (st := []) X [(h0, .inr (10, [v0h0, v1h0, .ref nw, v3h0, v4h0, v5h0, v6h0, v7h0, v8h0, v9h0]))] [(nw, .inr (7, [.ref nr, v1nw, v2nw, v3nw, v4nw, v5nw])), (nr, .inr (8, [v0nr, v1nr, v2nr, .int 0]))] [0] [1, 2] (c_refuse l g h0 1 v0h0 v1h0 (.ref nw) v3h0 v4h0 v5h0 v6h0 v7h0 v8h0 v9h0) dX10_wears_16 mw176 mw177 mw178 mw174 mw179 rfl 10 rfl rfl 0 _ rfl (by unfold yOk; decide) rfl (Nat.le_of_ble_eq_true rfl) (Nat.le_of_ble_eq_true rfl) (Nat.le_of_ble_eq_true rfl) (Nat.le_of_ble_eq_true rfl) (Nat.le_of_ble_eq_true rfl) rfl rfl (by decide) rfl (by decide) (by decide) ?_
  rintro r w ⟨rfl, rfl⟩
  refine k_ws [(nw, .inr (7, [.ref nr, v1nw, v2nw, v3nw, v4nw, v5nw])), (nr, .inr (8, [v0nr, v1nr, v2nr, .int 0]))] rfl ?_
  refine k_i2l X dX10_wears_19 ?_
  refine k_toL (-1) (by decide) ?_
  exact k_lret X hr dX10_wears_20 (Nat.le_of_ble_eq_true rfl) (Nat.le_of_ble_eq_true rfl) [] (by decide) rfl rfl ⟨rfl, rfl⟩

theorem dX10_shows_0 : decode cX10_shows 0 = .ok (.aload_n 0, 1) := by decide +kernel
theorem dX10_shows_1 : decode cX10_shows 1 = .ok (.iload_n 1, 1) := by decide +kernel
theorem dX10_shows_2 : decode cX10_shows 2 = .ok (.iconst 0, 1) := by decide +kernel
theorem dX10_shows_3 : decode cX10_shows 3 = .ok (.invokevirtual 156, 3) := by decide +kernel
theorem dX10_shows_6 : decode cX10_shows 6 = .ok (.ireturn, 1) := by decide +kernel
set_option maxHeartbeats 4000000 in
set_option maxRecDepth 100000 in
theorem m_shows (l : Launch) (g : Gx) (h0 : Nat) (p0 : Int32) (v0h0 : Value) (v1h0 : Value) (nw : Nat) (v3h0 : Value) (v4h0 : Value) (v5h0 : Value) (v6h0 : Value) (v7h0 : Value) (v8h0 : Value) (v9h0 : Value) (v0nw : Value) (v1nw : Value) (v2nw : Value) (np : Nat) (v4nw : Value) (v5nw : Value) (v0np : Value) (v1np : Value) (v2np : Value) : cI l g yX10_shows cX10_shows 2 (some .int) 2 43 0 0 [.ref h0, .int p0] [(h0, .inr (10, [v0h0, v1h0, .ref nw, v3h0, v4h0, v5h0, v6h0, v7h0, v8h0, v9h0])), (nw, .inr (7, [v0nw, v1nw, v2nw, .ref np, v4nw, v5nw])), (np, .inr (8, [v0np, v1np, v2np, .int 0]))] (fun r w => r = (-1) ∧ w = []) := by
  refine cI.of (by decide) (Nat.le_of_ble_eq_true rfl) ?_
  intro p e s m args below meth c A X hr hi
  refine k_lveq [(0, .ref h0), (1, .int p0)] rfl ?_
  refine k_aload_n X dX10_shows_0 0 rfl ?_
  refine k_iload_n X dX10_shows_1 1 rfl ?_
  refine k_iconst (v := 0) X dX10_shows_2 (by decide) ?_
  refine k_callVI (n := 2) (As := [.int p0, .int 0]) (st := []) X [(h0, .inr (10, [v0h0, v1h0, .ref nw, v3h0, v4h0, v5h0, v6h0, v7h0, v8h0, v9h0])), (nw, .inr (7, [v0nw, v1nw, v2nw, .ref np, v4nw, v5nw])), (np, .inr (8, [v0np, v1np, v2np, .int 0]))] [] [0, 1, 2] [] (c_ofPlace l g h0 p0 0 v0h0 v1h0 nw v3h0 v4h0 v5h0 v6h0 v7h0 v8h0 v9h0 v0nw v1nw v2nw np v4nw v5nw v0np v1np v2np) dX10_shows_3 mw182 mw183 mw184 mw174 mw185 rfl 10 rfl rfl 0 _ rfl (by unfold yOk; decide) rfl (Nat.le_of_ble_eq_true rfl) (Nat.le_of_ble_eq_true rfl) (Nat.le_of_ble_eq_true rfl) (Nat.le_of_ble_eq_true rfl) (Nat.le_of_ble_eq_true rfl) rfl rfl (by decide) rfl (by decide) (by decide) ?_
  rintro r w ⟨rfl, rfl⟩
  refine k_ws [] rfl ?_
  exact k_iret X hr dX10_shows_6 (Nat.le_of_ble_eq_true rfl) (Nat.le_of_ble_eq_true rfl) [] (by decide) rfl rfl ⟨rfl, rfl⟩

theorem dX10_thread_0 : decode cX10_thread 0 = .ok (.aload_n 0, 1) := by decide +kernel
theorem dX10_thread_1 : decode cX10_thread 1 = .ok (.iload_n 1, 1) := by decide +kernel
theorem dX10_thread_2 : decode cX10_thread 2 = .ok (.iconst 1, 1) := by decide +kernel
theorem dX10_thread_3 : decode cX10_thread 3 = .ok (.invokevirtual 156, 3) := by decide +kernel
theorem dX10_thread_6 : decode cX10_thread 6 = .ok (.ireturn, 1) := by decide +kernel
set_option maxHeartbeats 4000000 in
set_option maxRecDepth 100000 in
theorem m_thread (l : Launch) (g : Gx) (h0 : Nat) (p0 : Int32) (v0h0 : Value) (v1h0 : Value) (nw : Nat) (v3h0 : Value) (v4h0 : Value) (v5h0 : Value) (v6h0 : Value) (v7h0 : Value) (v8h0 : Value) (v9h0 : Value) (v0nw : Value) (v1nw : Value) (v2nw : Value) (np : Nat) (v4nw : Value) (v5nw : Value) (v0np : Value) (v1np : Value) (v2np : Value) : cI l g yX10_thread cX10_thread 2 (some .int) 2 43 0 0 [.ref h0, .int p0] [(h0, .inr (10, [v0h0, v1h0, .ref nw, v3h0, v4h0, v5h0, v6h0, v7h0, v8h0, v9h0])), (nw, .inr (7, [v0nw, v1nw, v2nw, .ref np, v4nw, v5nw])), (np, .inr (8, [v0np, v1np, v2np, .int 0]))] (fun r w => r = (-1) ∧ w = []) := by
  refine cI.of (by decide) (Nat.le_of_ble_eq_true rfl) ?_
  intro p e s m args below meth c A X hr hi
  refine k_lveq [(0, .ref h0), (1, .int p0)] rfl ?_
  refine k_aload_n X dX10_thread_0 0 rfl ?_
  refine k_iload_n X dX10_thread_1 1 rfl ?_
  refine k_iconst (v := 1) X dX10_thread_2 (by decide) ?_
  refine k_callVI (n := 2) (As := [.int p0, .int 1]) (st := []) X [(h0, .inr (10, [v0h0, v1h0, .ref nw, v3h0, v4h0, v5h0, v6h0, v7h0, v8h0, v9h0])), (nw, .inr (7, [v0nw, v1nw, v2nw, .ref np, v4nw, v5nw])), (np, .inr (8, [v0np, v1np, v2np, .int 0]))] [] [0, 1, 2] [] (c_ofPlace l g h0 p0 1 v0h0 v1h0 nw v3h0 v4h0 v5h0 v6h0 v7h0 v8h0 v9h0 v0nw v1nw v2nw np v4nw v5nw v0np v1np v2np) dX10_thread_3 mw182 mw183 mw184 mw174 mw185 rfl 10 rfl rfl 0 _ rfl (by unfold yOk; decide) rfl (Nat.le_of_ble_eq_true rfl) (Nat.le_of_ble_eq_true rfl) (Nat.le_of_ble_eq_true rfl) (Nat.le_of_ble_eq_true rfl) (Nat.le_of_ble_eq_true rfl) rfl rfl (by decide) rfl (by decide) (by decide) ?_
  rintro r w ⟨rfl, rfl⟩
  refine k_ws [] rfl ?_
  exact k_iret X hr dX10_thread_6 (Nat.le_of_ble_eq_true rfl) (Nat.le_of_ble_eq_true rfl) [] (by decide) rfl rfl ⟨rfl, rfl⟩

theorem dX10_believes_0 : decode cX10_believes 0 = .ok (.aload_n 0, 1) := by decide +kernel
theorem dX10_believes_1 : decode cX10_believes 1 = .ok (.iload_n 1, 1) := by decide +kernel
theorem dX10_believes_2 : decode cX10_believes 2 = .ok (.iload_n 2, 1) := by decide +kernel
theorem dX10_believes_3 : decode cX10_believes 3 = .ok (.bipush 9, 2) := by decide +kernel
theorem dX10_believes_5 : decode cX10_believes 5 = .ok (.invokevirtual 159, 3) := by decide +kernel
theorem dX10_believes_8 : decode cX10_believes 8 = .ok (.ireturn, 1) := by decide +kernel
set_option maxHeartbeats 4000000 in
set_option maxRecDepth 100000 in
theorem m_believes (l : Launch) (g : Gx) (h0 : Nat) (p0 : Int32) (p1 : Int32) (v0h0 : Value) (v1h0 : Value) (nw : Nat) (v3h0 : Value) (v4h0 : Value) (v5h0 : Value) (v6h0 : Value) (v7h0 : Value) (v8h0 : Value) (v9h0 : Value) (v0nw : Value) (v1nw : Value) (v2nw : Value) (np : Nat) (v4nw : Value) (v5nw : Value) (v0np : Value) (v1np : Value) (v2np : Value) : cI l g yX10_believes cX10_believes 3 (some .int) 2 44 0 0 [.ref h0, .int p0, .int p1] [(h0, .inr (10, [v0h0, v1h0, .ref nw, v3h0, v4h0, v5h0, v6h0, v7h0, v8h0, v9h0])), (nw, .inr (7, [v0nw, v1nw, v2nw, .ref np, v4nw, v5nw])), (np, .inr (8, [v0np, v1np, v2np, .int 0]))] (fun r w => r = (-1) ∧ w = []) := by
  refine cI.of (by decide) (Nat.le_of_ble_eq_true rfl) ?_
  intro p e s m args below meth c A X hr hi
  refine k_lveq [(0, .ref h0), (1, .int p0), (2, .int p1)] rfl ?_
  refine k_aload_n X dX10_believes_0 0 rfl ?_
  refine k_iload_n X dX10_believes_1 1 rfl ?_
  refine k_iload_n X dX10_believes_2 2 rfl ?_
  refine k_bipush (v := 9) X dX10_believes_3 (by decide) ?_
  refine k_callVI (n := 3) (As := [.int p0, .int p1, .int 9]) (st := []) X [(h0, .inr (10, [v0h0, v1h0, .ref nw, v3h0, v4h0, v5h0, v6h0, v7h0, v8h0, v9h0])), (nw, .inr (7, [v0nw, v1nw, v2nw, .ref np, v4nw, v5nw])), (np, .inr (8, [v0np, v1np, v2np, .int 0]))] [] [0, 1, 2] [] (c_ofNight l g h0 p0 p1 9 v0h0 v1h0 nw v3h0 v4h0 v5h0 v6h0 v7h0 v8h0 v9h0 v0nw v1nw v2nw np v4nw v5nw v0np v1np v2np) dX10_believes_5 mw186 mw187 mw188 mw174 mw189 rfl 10 rfl rfl 0 _ rfl (by unfold yOk; decide) rfl (Nat.le_of_ble_eq_true rfl) (Nat.le_of_ble_eq_true rfl) (Nat.le_of_ble_eq_true rfl) (Nat.le_of_ble_eq_true rfl) (Nat.le_of_ble_eq_true rfl) rfl rfl (by decide) rfl (by decide) (by decide) ?_
  rintro r w ⟨rfl, rfl⟩
  refine k_ws [] rfl ?_
  exact k_iret X hr dX10_believes_8 (Nat.le_of_ble_eq_true rfl) (Nat.le_of_ble_eq_true rfl) [] (by decide) rfl rfl ⟨rfl, rfl⟩

theorem dX10_starts_0 : decode cX10_starts 0 = .ok (.aload_n 0, 1) := by decide +kernel
theorem dX10_starts_1 : decode cX10_starts 1 = .ok (.iload_n 1, 1) := by decide +kernel
theorem dX10_starts_2 : decode cX10_starts 2 = .ok (.iload_n 2, 1) := by decide +kernel
theorem dX10_starts_3 : decode cX10_starts 3 = .ok (.iconst 4, 1) := by decide +kernel
theorem dX10_starts_4 : decode cX10_starts 4 = .ok (.invokevirtual 159, 3) := by decide +kernel
theorem dX10_starts_7 : decode cX10_starts 7 = .ok (.ireturn, 1) := by decide +kernel
set_option maxHeartbeats 4000000 in
set_option maxRecDepth 100000 in
theorem m_starts (l : Launch) (g : Gx) (h0 : Nat) (p0 : Int32) (p1 : Int32) (v0h0 : Value) (v1h0 : Value) (nw : Nat) (v3h0 : Value) (v4h0 : Value) (v5h0 : Value) (v6h0 : Value) (v7h0 : Value) (v8h0 : Value) (v9h0 : Value) (v0nw : Value) (v1nw : Value) (v2nw : Value) (np : Nat) (v4nw : Value) (v5nw : Value) (v0np : Value) (v1np : Value) (v2np : Value) : cI l g yX10_starts cX10_starts 3 (some .int) 2 44 0 0 [.ref h0, .int p0, .int p1] [(h0, .inr (10, [v0h0, v1h0, .ref nw, v3h0, v4h0, v5h0, v6h0, v7h0, v8h0, v9h0])), (nw, .inr (7, [v0nw, v1nw, v2nw, .ref np, v4nw, v5nw])), (np, .inr (8, [v0np, v1np, v2np, .int 0]))] (fun r w => r = (-1) ∧ w = []) := by
  refine cI.of (by decide) (Nat.le_of_ble_eq_true rfl) ?_
  intro p e s m args below meth c A X hr hi
  refine k_lveq [(0, .ref h0), (1, .int p0), (2, .int p1)] rfl ?_
  refine k_aload_n X dX10_starts_0 0 rfl ?_
  refine k_iload_n X dX10_starts_1 1 rfl ?_
  refine k_iload_n X dX10_starts_2 2 rfl ?_
  refine k_iconst (v := 4) X dX10_starts_3 (by decide) ?_
  refine k_callVI (n := 3) (As := [.int p0, .int p1, .int 4]) (st := []) X [(h0, .inr (10, [v0h0, v1h0, .ref nw, v3h0, v4h0, v5h0, v6h0, v7h0, v8h0, v9h0])), (nw, .inr (7, [v0nw, v1nw, v2nw, .ref np, v4nw, v5nw])), (np, .inr (8, [v0np, v1np, v2np, .int 0]))] [] [0, 1, 2] [] (c_ofNight l g h0 p0 p1 4 v0h0 v1h0 nw v3h0 v4h0 v5h0 v6h0 v7h0 v8h0 v9h0 v0nw v1nw v2nw np v4nw v5nw v0np v1np v2np) dX10_starts_4 mw186 mw187 mw188 mw174 mw189 rfl 10 rfl rfl 0 _ rfl (by unfold yOk; decide) rfl (Nat.le_of_ble_eq_true rfl) (Nat.le_of_ble_eq_true rfl) (Nat.le_of_ble_eq_true rfl) (Nat.le_of_ble_eq_true rfl) (Nat.le_of_ble_eq_true rfl) rfl rfl (by decide) rfl (by decide) (by decide) ?_
  rintro r w ⟨rfl, rfl⟩
  refine k_ws [] rfl ?_
  exact k_iret X hr dX10_starts_7 (Nat.le_of_ble_eq_true rfl) (Nat.le_of_ble_eq_true rfl) [] (by decide) rfl rfl ⟨rfl, rfl⟩

theorem dX10_changes_0 : decode cX10_changes 0 = .ok (.aload_n 0, 1) := by decide +kernel
theorem dX10_changes_1 : decode cX10_changes 1 = .ok (.iload_n 1, 1) := by decide +kernel
theorem dX10_changes_2 : decode cX10_changes 2 = .ok (.iload_n 2, 1) := by decide +kernel
theorem dX10_changes_3 : decode cX10_changes 3 = .ok (.iconst 5, 1) := by decide +kernel
theorem dX10_changes_4 : decode cX10_changes 4 = .ok (.invokevirtual 159, 3) := by decide +kernel
theorem dX10_changes_7 : decode cX10_changes 7 = .ok (.ireturn, 1) := by decide +kernel
set_option maxHeartbeats 4000000 in
set_option maxRecDepth 100000 in
theorem m_changes (l : Launch) (g : Gx) (h0 : Nat) (p0 : Int32) (p1 : Int32) (v0h0 : Value) (v1h0 : Value) (nw : Nat) (v3h0 : Value) (v4h0 : Value) (v5h0 : Value) (v6h0 : Value) (v7h0 : Value) (v8h0 : Value) (v9h0 : Value) (v0nw : Value) (v1nw : Value) (v2nw : Value) (np : Nat) (v4nw : Value) (v5nw : Value) (v0np : Value) (v1np : Value) (v2np : Value) : cI l g yX10_changes cX10_changes 3 (some .int) 2 44 0 0 [.ref h0, .int p0, .int p1] [(h0, .inr (10, [v0h0, v1h0, .ref nw, v3h0, v4h0, v5h0, v6h0, v7h0, v8h0, v9h0])), (nw, .inr (7, [v0nw, v1nw, v2nw, .ref np, v4nw, v5nw])), (np, .inr (8, [v0np, v1np, v2np, .int 0]))] (fun r w => r = (-1) ∧ w = []) := by
  refine cI.of (by decide) (Nat.le_of_ble_eq_true rfl) ?_
  intro p e s m args below meth c A X hr hi
  refine k_lveq [(0, .ref h0), (1, .int p0), (2, .int p1)] rfl ?_
  refine k_aload_n X dX10_changes_0 0 rfl ?_
  refine k_iload_n X dX10_changes_1 1 rfl ?_
  refine k_iload_n X dX10_changes_2 2 rfl ?_
  refine k_iconst (v := 5) X dX10_changes_3 (by decide) ?_
  refine k_callVI (n := 3) (As := [.int p0, .int p1, .int 5]) (st := []) X [(h0, .inr (10, [v0h0, v1h0, .ref nw, v3h0, v4h0, v5h0, v6h0, v7h0, v8h0, v9h0])), (nw, .inr (7, [v0nw, v1nw, v2nw, .ref np, v4nw, v5nw])), (np, .inr (8, [v0np, v1np, v2np, .int 0]))] [] [0, 1, 2] [] (c_ofNight l g h0 p0 p1 5 v0h0 v1h0 nw v3h0 v4h0 v5h0 v6h0 v7h0 v8h0 v9h0 v0nw v1nw v2nw np v4nw v5nw v0np v1np v2np) dX10_changes_4 mw186 mw187 mw188 mw174 mw189 rfl 10 rfl rfl 0 _ rfl (by unfold yOk; decide) rfl (Nat.le_of_ble_eq_true rfl) (Nat.le_of_ble_eq_true rfl) (Nat.le_of_ble_eq_true rfl) (Nat.le_of_ble_eq_true rfl) (Nat.le_of_ble_eq_true rfl) rfl rfl (by decide) rfl (by decide) (by decide) ?_
  rintro r w ⟨rfl, rfl⟩
  refine k_ws [] rfl ?_
  exact k_iret X hr dX10_changes_7 (Nat.le_of_ble_eq_true rfl) (Nat.le_of_ble_eq_true rfl) [] (by decide) rfl rfl ⟨rfl, rfl⟩

theorem dX10_lost_0 : decode cX10_lost 0 = .ok (.aload_n 0, 1) := by decide +kernel
theorem dX10_lost_1 : decode cX10_lost 1 = .ok (.iload_n 1, 1) := by decide +kernel
theorem dX10_lost_2 : decode cX10_lost 2 = .ok (.iload_n 2, 1) := by decide +kernel
theorem dX10_lost_3 : decode cX10_lost 3 = .ok (.iconst 0, 1) := by decide +kernel
theorem dX10_lost_4 : decode cX10_lost 4 = .ok (.invokevirtual 159, 3) := by decide +kernel
theorem dX10_lost_7 : decode cX10_lost 7 = .ok (.ireturn, 1) := by decide +kernel
set_option maxHeartbeats 4000000 in
set_option maxRecDepth 100000 in
theorem m_lost (l : Launch) (g : Gx) (h0 : Nat) (p0 : Int32) (p1 : Int32) (v0h0 : Value) (v1h0 : Value) (nw : Nat) (v3h0 : Value) (v4h0 : Value) (v5h0 : Value) (v6h0 : Value) (v7h0 : Value) (v8h0 : Value) (v9h0 : Value) (v0nw : Value) (v1nw : Value) (v2nw : Value) (np : Nat) (v4nw : Value) (v5nw : Value) (v0np : Value) (v1np : Value) (v2np : Value) : cI l g yX10_lost cX10_lost 3 (some .int) 2 44 0 0 [.ref h0, .int p0, .int p1] [(h0, .inr (10, [v0h0, v1h0, .ref nw, v3h0, v4h0, v5h0, v6h0, v7h0, v8h0, v9h0])), (nw, .inr (7, [v0nw, v1nw, v2nw, .ref np, v4nw, v5nw])), (np, .inr (8, [v0np, v1np, v2np, .int 0]))] (fun r w => r = (-1) ∧ w = []) := by
  refine cI.of (by decide) (Nat.le_of_ble_eq_true rfl) ?_
  intro p e s m args below meth c A X hr hi
  refine k_lveq [(0, .ref h0), (1, .int p0), (2, .int p1)] rfl ?_
  refine k_aload_n X dX10_lost_0 0 rfl ?_
  refine k_iload_n X dX10_lost_1 1 rfl ?_
  refine k_iload_n X dX10_lost_2 2 rfl ?_
  refine k_iconst (v := 0) X dX10_lost_3 (by decide) ?_
  refine k_callVI (n := 3) (As := [.int p0, .int p1, .int 0]) (st := []) X [(h0, .inr (10, [v0h0, v1h0, .ref nw, v3h0, v4h0, v5h0, v6h0, v7h0, v8h0, v9h0])), (nw, .inr (7, [v0nw, v1nw, v2nw, .ref np, v4nw, v5nw])), (np, .inr (8, [v0np, v1np, v2np, .int 0]))] [] [0, 1, 2] [] (c_ofNight l g h0 p0 p1 0 v0h0 v1h0 nw v3h0 v4h0 v5h0 v6h0 v7h0 v8h0 v9h0 v0nw v1nw v2nw np v4nw v5nw v0np v1np v2np) dX10_lost_4 mw186 mw187 mw188 mw174 mw189 rfl 10 rfl rfl 0 _ rfl (by unfold yOk; decide) rfl (Nat.le_of_ble_eq_true rfl) (Nat.le_of_ble_eq_true rfl) (Nat.le_of_ble_eq_true rfl) (Nat.le_of_ble_eq_true rfl) (Nat.le_of_ble_eq_true rfl) rfl rfl (by decide) rfl (by decide) (by decide) ?_
  rintro r w ⟨rfl, rfl⟩
  refine k_ws [] rfl ?_
  exact k_iret X hr dX10_lost_7 (Nat.le_of_ble_eq_true rfl) (Nat.le_of_ble_eq_true rfl) [] (by decide) rfl rfl ⟨rfl, rfl⟩

theorem dX10_black_0 : decode cX10_black 0 = .ok (.aload_n 0, 1) := by decide +kernel
theorem dX10_black_1 : decode cX10_black 1 = .ok (.iload_n 1, 1) := by decide +kernel
theorem dX10_black_2 : decode cX10_black 2 = .ok (.iload_n 2, 1) := by decide +kernel
theorem dX10_black_3 : decode cX10_black 3 = .ok (.iconst 1, 1) := by decide +kernel
theorem dX10_black_4 : decode cX10_black 4 = .ok (.invokevirtual 159, 3) := by decide +kernel
theorem dX10_black_7 : decode cX10_black 7 = .ok (.ireturn, 1) := by decide +kernel
set_option maxHeartbeats 4000000 in
set_option maxRecDepth 100000 in
theorem m_black (l : Launch) (g : Gx) (h0 : Nat) (p0 : Int32) (p1 : Int32) (v0h0 : Value) (v1h0 : Value) (nw : Nat) (v3h0 : Value) (v4h0 : Value) (v5h0 : Value) (v6h0 : Value) (v7h0 : Value) (v8h0 : Value) (v9h0 : Value) (v0nw : Value) (v1nw : Value) (v2nw : Value) (np : Nat) (v4nw : Value) (v5nw : Value) (v0np : Value) (v1np : Value) (v2np : Value) : cI l g yX10_black cX10_black 3 (some .int) 2 44 0 0 [.ref h0, .int p0, .int p1] [(h0, .inr (10, [v0h0, v1h0, .ref nw, v3h0, v4h0, v5h0, v6h0, v7h0, v8h0, v9h0])), (nw, .inr (7, [v0nw, v1nw, v2nw, .ref np, v4nw, v5nw])), (np, .inr (8, [v0np, v1np, v2np, .int 0]))] (fun r w => r = (-1) ∧ w = []) := by
  refine cI.of (by decide) (Nat.le_of_ble_eq_true rfl) ?_
  intro p e s m args below meth c A X hr hi
  refine k_lveq [(0, .ref h0), (1, .int p0), (2, .int p1)] rfl ?_
  refine k_aload_n X dX10_black_0 0 rfl ?_
  refine k_iload_n X dX10_black_1 1 rfl ?_
  refine k_iload_n X dX10_black_2 2 rfl ?_
  refine k_iconst (v := 1) X dX10_black_3 (by decide) ?_
  refine k_callVI (n := 3) (As := [.int p0, .int p1, .int 1]) (st := []) X [(h0, .inr (10, [v0h0, v1h0, .ref nw, v3h0, v4h0, v5h0, v6h0, v7h0, v8h0, v9h0])), (nw, .inr (7, [v0nw, v1nw, v2nw, .ref np, v4nw, v5nw])), (np, .inr (8, [v0np, v1np, v2np, .int 0]))] [] [0, 1, 2] [] (c_ofNight l g h0 p0 p1 1 v0h0 v1h0 nw v3h0 v4h0 v5h0 v6h0 v7h0 v8h0 v9h0 v0nw v1nw v2nw np v4nw v5nw v0np v1np v2np) dX10_black_4 mw186 mw187 mw188 mw174 mw189 rfl 10 rfl rfl 0 _ rfl (by unfold yOk; decide) rfl (Nat.le_of_ble_eq_true rfl) (Nat.le_of_ble_eq_true rfl) (Nat.le_of_ble_eq_true rfl) (Nat.le_of_ble_eq_true rfl) (Nat.le_of_ble_eq_true rfl) rfl rfl (by decide) rfl (by decide) (by decide) ?_
  rintro r w ⟨rfl, rfl⟩
  refine k_ws [] rfl ?_
  exact k_iret X hr dX10_black_7 (Nat.le_of_ble_eq_true rfl) (Nat.le_of_ble_eq_true rfl) [] (by decide) rfl rfl ⟨rfl, rfl⟩

theorem dX10_tail_0 : decode cX10_tail 0 = .ok (.aload_n 0, 1) := by decide +kernel
theorem dX10_tail_1 : decode cX10_tail 1 = .ok (.iload_n 1, 1) := by decide +kernel
theorem dX10_tail_2 : decode cX10_tail 2 = .ok (.iload_n 2, 1) := by decide +kernel
theorem dX10_tail_3 : decode cX10_tail 3 = .ok (.iconst 2, 1) := by decide +kernel
theorem dX10_tail_4 : decode cX10_tail 4 = .ok (.invokevirtual 159, 3) := by decide +kernel
theorem dX10_tail_7 : decode cX10_tail 7 = .ok (.ireturn, 1) := by decide +kernel
set_option maxHeartbeats 4000000 in
set_option maxRecDepth 100000 in
theorem m_tail (l : Launch) (g : Gx) (h0 : Nat) (p0 : Int32) (p1 : Int32) (v0h0 : Value) (v1h0 : Value) (nw : Nat) (v3h0 : Value) (v4h0 : Value) (v5h0 : Value) (v6h0 : Value) (v7h0 : Value) (v8h0 : Value) (v9h0 : Value) (v0nw : Value) (v1nw : Value) (v2nw : Value) (np : Nat) (v4nw : Value) (v5nw : Value) (v0np : Value) (v1np : Value) (v2np : Value) : cI l g yX10_tail cX10_tail 3 (some .int) 2 44 0 0 [.ref h0, .int p0, .int p1] [(h0, .inr (10, [v0h0, v1h0, .ref nw, v3h0, v4h0, v5h0, v6h0, v7h0, v8h0, v9h0])), (nw, .inr (7, [v0nw, v1nw, v2nw, .ref np, v4nw, v5nw])), (np, .inr (8, [v0np, v1np, v2np, .int 0]))] (fun r w => r = (-1) ∧ w = []) := by
  refine cI.of (by decide) (Nat.le_of_ble_eq_true rfl) ?_
  intro p e s m args below meth c A X hr hi
  refine k_lveq [(0, .ref h0), (1, .int p0), (2, .int p1)] rfl ?_
  refine k_aload_n X dX10_tail_0 0 rfl ?_
  refine k_iload_n X dX10_tail_1 1 rfl ?_
  refine k_iload_n X dX10_tail_2 2 rfl ?_
  refine k_iconst (v := 2) X dX10_tail_3 (by decide) ?_
  refine k_callVI (n := 3) (As := [.int p0, .int p1, .int 2]) (st := []) X [(h0, .inr (10, [v0h0, v1h0, .ref nw, v3h0, v4h0, v5h0, v6h0, v7h0, v8h0, v9h0])), (nw, .inr (7, [v0nw, v1nw, v2nw, .ref np, v4nw, v5nw])), (np, .inr (8, [v0np, v1np, v2np, .int 0]))] [] [0, 1, 2] [] (c_ofNight l g h0 p0 p1 2 v0h0 v1h0 nw v3h0 v4h0 v5h0 v6h0 v7h0 v8h0 v9h0 v0nw v1nw v2nw np v4nw v5nw v0np v1np v2np) dX10_tail_4 mw186 mw187 mw188 mw174 mw189 rfl 10 rfl rfl 0 _ rfl (by unfold yOk; decide) rfl (Nat.le_of_ble_eq_true rfl) (Nat.le_of_ble_eq_true rfl) (Nat.le_of_ble_eq_true rfl) (Nat.le_of_ble_eq_true rfl) (Nat.le_of_ble_eq_true rfl) rfl rfl (by decide) rfl (by decide) (by decide) ?_
  rintro r w ⟨rfl, rfl⟩
  refine k_ws [] rfl ?_
  exact k_iret X hr dX10_tail_7 (Nat.le_of_ble_eq_true rfl) (Nat.le_of_ble_eq_true rfl) [] (by decide) rfl rfl ⟨rfl, rfl⟩

theorem dX10_begins_0 : decode cX10_begins 0 = .ok (.aload_n 0, 1) := by decide +kernel
theorem dX10_begins_1 : decode cX10_begins 1 = .ok (.iload_n 1, 1) := by decide +kernel
theorem dX10_begins_2 : decode cX10_begins 2 = .ok (.iload_n 2, 1) := by decide +kernel
theorem dX10_begins_3 : decode cX10_begins 3 = .ok (.bipush 6, 2) := by decide +kernel
theorem dX10_begins_5 : decode cX10_begins 5 = .ok (.invokevirtual 159, 3) := by decide +kernel
theorem dX10_begins_8 : decode cX10_begins 8 = .ok (.ireturn, 1) := by decide +kernel
set_option maxHeartbeats 4000000 in
set_option maxRecDepth 100000 in
theorem m_begins (l : Launch) (g : Gx) (h0 : Nat) (p0 : Int32) (p1 : Int32) (v0h0 : Value) (v1h0 : Value) (nw : Nat) (v3h0 : Value) (v4h0 : Value) (v5h0 : Value) (v6h0 : Value) (v7h0 : Value) (v8h0 : Value) (v9h0 : Value) (v0nw : Value) (v1nw : Value) (v2nw : Value) (np : Nat) (v4nw : Value) (v5nw : Value) (v0np : Value) (v1np : Value) (v2np : Value) : cI l g yX10_begins cX10_begins 3 (some .int) 2 44 0 0 [.ref h0, .int p0, .int p1] [(h0, .inr (10, [v0h0, v1h0, .ref nw, v3h0, v4h0, v5h0, v6h0, v7h0, v8h0, v9h0])), (nw, .inr (7, [v0nw, v1nw, v2nw, .ref np, v4nw, v5nw])), (np, .inr (8, [v0np, v1np, v2np, .int 0]))] (fun r w => r = (-1) ∧ w = []) := by
  refine cI.of (by decide) (Nat.le_of_ble_eq_true rfl) ?_
  intro p e s m args below meth c A X hr hi
  refine k_lveq [(0, .ref h0), (1, .int p0), (2, .int p1)] rfl ?_
  refine k_aload_n X dX10_begins_0 0 rfl ?_
  refine k_iload_n X dX10_begins_1 1 rfl ?_
  refine k_iload_n X dX10_begins_2 2 rfl ?_
  refine k_bipush (v := 6) X dX10_begins_3 (by decide) ?_
  refine k_callVI (n := 3) (As := [.int p0, .int p1, .int 6]) (st := []) X [(h0, .inr (10, [v0h0, v1h0, .ref nw, v3h0, v4h0, v5h0, v6h0, v7h0, v8h0, v9h0])), (nw, .inr (7, [v0nw, v1nw, v2nw, .ref np, v4nw, v5nw])), (np, .inr (8, [v0np, v1np, v2np, .int 0]))] [] [0, 1, 2] [] (c_ofNight l g h0 p0 p1 6 v0h0 v1h0 nw v3h0 v4h0 v5h0 v6h0 v7h0 v8h0 v9h0 v0nw v1nw v2nw np v4nw v5nw v0np v1np v2np) dX10_begins_5 mw186 mw187 mw188 mw174 mw189 rfl 10 rfl rfl 0 _ rfl (by unfold yOk; decide) rfl (Nat.le_of_ble_eq_true rfl) (Nat.le_of_ble_eq_true rfl) (Nat.le_of_ble_eq_true rfl) (Nat.le_of_ble_eq_true rfl) (Nat.le_of_ble_eq_true rfl) rfl rfl (by decide) rfl (by decide) (by decide) ?_
  rintro r w ⟨rfl, rfl⟩
  refine k_ws [] rfl ?_
  exact k_iret X hr dX10_begins_8 (Nat.le_of_ble_eq_true rfl) (Nat.le_of_ble_eq_true rfl) [] (by decide) rfl rfl ⟨rfl, rfl⟩

theorem dX10_exact_0 : decode cX10_exact 0 = .ok (.iload_n 2, 1) := by decide +kernel
theorem dX10_exact_1 : decode cX10_exact 1 = .ok (.ifCond .eq 25, 3) := by decide +kernel
theorem dX10_exact_4 : decode cX10_exact 4 = .ok (.aload_n 0, 1) := by decide +kernel
theorem dX10_exact_5 : decode cX10_exact 5 = .ok (.getfield 26, 3) := by decide +kernel
theorem dX10_exact_8 : decode cX10_exact 8 = .ok (.getfield 109, 3) := by decide +kernel
theorem dX10_exact_11 : decode cX10_exact 11 = .ok (.iload_n 2, 1) := by decide +kernel
theorem dX10_exact_12 : decode cX10_exact 12 = .ok (.invokevirtual 127, 3) := by decide +kernel
theorem dX10_exact_15 : decode cX10_exact 15 = .ok (.ifCond .eq 11, 3) := by decide +kernel
theorem dX10_exact_26 : decode cX10_exact 26 = .ok (.aload_n 0, 1) := by decide +kernel
theorem dX10_exact_27 : decode cX10_exact 27 = .ok (.iconst 1, 1) := by decide +kernel
theorem dX10_exact_28 : decode cX10_exact 28 = .ok (.invokevirtual 83, 3) := by decide +kernel
theorem dX10_exact_31 : decode cX10_exact 31 = .ok (.ireturn, 1) := by decide +kernel
set_option maxHeartbeats 4000000 in
set_option maxRecDepth 100000 in
theorem m_exact (l : Launch) (g : Gx) (h0 : Nat) (p0 : Int32) (p1 : Int32) (v0h0 : Value) (v1h0 : Value) (nw : Nat) (v3h0 : Value) (v4h0 : Value) (v5h0 : Value) (v6h0 : Value) (v7h0 : Value) (v8h0 : Value) (v9h0 : Value) (v0nw : Value) (v1nw : Value) (v2nw : Value) (np : Nat) (v4nw : Value) (v5nw : Value) (v0np : Value) (v1np : Value) (v2np : Value) : cI l g yX10_exact cX10_exact 3 (some .int) 1 21 0 0 [.ref h0, .int p0, .int p1] [(h0, .inr (10, [v0h0, v1h0, .ref nw, v3h0, v4h0, v5h0, v6h0, v7h0, v8h0, v9h0])), (nw, .inr (7, [v0nw, v1nw, v2nw, .ref np, v4nw, v5nw])), (np, .inr (8, [v0np, v1np, v2np, .int 0]))] (fun r w => r = (-1) ∧ w = []) := by
  refine cI.of (by decide) (Nat.le_of_ble_eq_true rfl) ?_
  intro p e s m args below meth c A X hr hi
  refine k_lveq [(0, .ref h0), (1, .int p0), (2, .int p1)] rfl ?_
  refine k_iload_n X dX10_exact_0 2 rfl ?_
  refine k_if_eq 26 X dX10_exact_1 (by decide) (fun h_1 => ?_) (fun h_1 => ?_)
  · skip
    refine k_aload_n X dX10_exact_26 0 rfl ?_
    refine k_iconst (v := 1) X dX10_exact_27 (by decide) ?_
    refine k_callVI (n := 1) (As := [.int 1]) (st := []) X [(h0, .inr (10, [v0h0, v1h0, .ref nw, v3h0, v4h0, v5h0, v6h0, v7h0, v8h0, v9h0]))] [(nw, .inr (7, [v0nw, v1nw, v2nw, .ref np, v4nw, v5nw])), (np, .inr (8, [v0np, v1np, v2np, .int 0]))] [0] [1, 2] (c_refuse l g h0 1 v0h0 v1h0 (.ref nw) v3h0 v4h0 v5h0 v6h0 v7h0 v8h0 v9h0) dX10_exact_28 mw176 mw177 mw178 mw174 mw179 rfl 10 rfl rfl 0 _ rfl (by unfold yOk; decide) rfl (Nat.le_of_ble_eq_true rfl) (Nat.le_of_ble_eq_true rfl) (Nat.le_of_ble_eq_true rfl) (Nat.le_of_ble_eq_true rfl) (Nat.le_of_ble_eq_true rfl) rfl rfl (by decide) rfl (by decide) (by decide) ?_
    rintro r w ⟨rfl, rfl⟩
    refine k_ws [(nw, .inr (7, [v0nw, v1nw, v2nw, .ref np, v4nw, v5nw])), (np, .inr (8, [v0np, v1np, v2np, .int 0]))] rfl ?_
    exact k_iret X hr dX10_exact_31 (Nat.le_of_ble_eq_true rfl) (Nat.le_of_ble_eq_true rfl) [] (by decide) rfl rfl ⟨rfl, rfl⟩
  · skip
    refine k_aload_n X dX10_exact_4 0 rfl ?_
    refine k_get (ci := 10) X inlX10 rfl 2 (by decide) dX10_exact_5 mw128 0 rfl rfl ?_
    refine k_get (ci := 7) X inlX7 rfl 3 (by decide) dX10_exact_8 mw167 1 rfl rfl ?_
    refine k_iload_n X dX10_exact_11 2 rfl ?_
    refine k_callVI (n := 1) (As := [.int p1]) (st := []) X [(np, .inr (8, [v0np, v1np, v2np, .int 0]))] [(h0, .inr (10, [v0h0, v1h0, .ref nw, v3h0, v4h0, v5h0, v6h0, v7h0, v8h0, v9h0])), (nw, .inr (7, [v0nw, v1nw, v2nw, .ref np, v4nw, v5nw]))] [2] [0, 1] (c_T_has l g np p1 v0np v1np v2np) dX10_exact_12 mw170 mw30 mw31 mw15 mw32 rfl 8 rfl rfl 0 _ rfl (by unfold yOk; decide) rfl (Nat.le_of_ble_eq_true rfl) (Nat.le_of_ble_eq_true rfl) (Nat.le_of_ble_eq_true rfl) (Nat.le_of_ble_eq_true rfl) (Nat.le_of_ble_eq_true rfl) rfl rfl (by decide) rfl (by decide) (by decide) ?_
    rintro r w ⟨rfl, rfl⟩
    refine k_ws [(h0, .inr (10, [v0h0, v1h0, .ref nw, v3h0, v4h0, v5h0, v6h0, v7h0, v8h0, v9h0])), (nw, .inr (7, [v0nw, v1nw, v2nw, .ref np, v4nw, v5nw])), (np, .inr (8, [v0np, v1np, v2np, .int 0]))] rfl ?_
    refine k_if_eq 26 X dX10_exact_15 (by decide) (fun _ => ?_) (fun h_2 => absurd (by decide) h_2)
    refine k_aload_n X dX10_exact_26 0 rfl ?_
    refine k_iconst (v := 1) X dX10_exact_27 (by decide) ?_
    refine k_callVI (n := 1) (As := [.int 1]) (st := []) X [(h0, .inr (10, [v0h0, v1h0, .ref nw, v3h0, v4h0, v5h0, v6h0, v7h0, v8h0, v9h0]))] [(nw, .inr (7, [v0nw, v1nw, v2nw, .ref np, v4nw, v5nw])), (np, .inr (8, [v0np, v1np, v2np, .int 0]))] [0] [1, 2] (c_refuse l g h0 1 v0h0 v1h0 (.ref nw) v3h0 v4h0 v5h0 v6h0 v7h0 v8h0 v9h0) dX10_exact_28 mw176 mw177 mw178 mw174 mw179 rfl 10 rfl rfl 0 _ rfl (by unfold yOk; decide) rfl (Nat.le_of_ble_eq_true rfl) (Nat.le_of_ble_eq_true rfl) (Nat.le_of_ble_eq_true rfl) (Nat.le_of_ble_eq_true rfl) (Nat.le_of_ble_eq_true rfl) rfl rfl (by decide) rfl (by decide) (by decide) ?_
    rintro r w ⟨rfl, rfl⟩
    refine k_ws [(nw, .inr (7, [v0nw, v1nw, v2nw, .ref np, v4nw, v5nw])), (np, .inr (8, [v0np, v1np, v2np, .int 0]))] rfl ?_
    exact k_iret X hr dX10_exact_31 (Nat.le_of_ble_eq_true rfl) (Nat.le_of_ble_eq_true rfl) [] (by decide) rfl rfl ⟨rfl, rfl⟩

theorem dX10_fits_0 : decode cX10_fits 0 = .ok (.aload_n 0, 1) := by decide +kernel
theorem dX10_fits_1 : decode cX10_fits 1 = .ok (.invokevirtual 184, 3) := by decide +kernel
theorem dX10_fits_4 : decode cX10_fits 4 = .ok (.ifCond .ne 9, 3) := by decide +kernel
theorem dX10_fits_7 : decode cX10_fits 7 = .ok (.aload_n 0, 1) := by decide +kernel
theorem dX10_fits_8 : decode cX10_fits 8 = .ok (.iconst 1, 1) := by decide +kernel
theorem dX10_fits_9 : decode cX10_fits 9 = .ok (.invokevirtual 83, 3) := by decide +kernel
theorem dX10_fits_12 : decode cX10_fits 12 = .ok (.ireturn, 1) := by decide +kernel
set_option maxHeartbeats 4000000 in
set_option maxRecDepth 100000 in
theorem m_fits (l : Launch) (g : Gx) (h0 : Nat) (v0h0 : Value) (v1h0 : Value) (nw : Nat) (v3h0 : Value) (v4h0 : Value) (v5h0 : Value) (v6h0 : Value) (v7h0 : Value) (v8h0 : Value) (v9h0 : Value) (v0nw : Value) (v1nw : Value) (v2nw : Value) (np : Nat) (v4nw : Value) (v5nw : Value) (v0np : Value) (v1np : Value) (v2np : Value) : cI l g yX10_fits cX10_fits 4 (some .int) 1 21 0 0 [.ref h0] [(h0, .inr (10, [v0h0, v1h0, .ref nw, v3h0, v4h0, v5h0, v6h0, v7h0, v8h0, v9h0])), (nw, .inr (7, [v0nw, v1nw, v2nw, .ref np, v4nw, v5nw])), (np, .inr (8, [v0np, v1np, v2np, .int 0]))] (fun r w => r = (-1) ∧ w = []) := by
  refine cI.of (by decide) (Nat.le_of_ble_eq_true rfl) ?_
  intro p e s m args below meth c A X hr hi
  refine k_lveq [(0, .ref h0)] rfl ?_
  refine k_aload_n X dX10_fits_0 0 rfl ?_
  refine k_callVI (n := 0) (As := []) (st := []) X [(h0, .inr (10, [v0h0, v1h0, .ref nw, v3h0, v4h0, v5h0, v6h0, v7h0, v8h0, v9h0])), (nw, .inr (7, [v0nw, v1nw, v2nw, .ref np, v4nw, v5nw])), (np, .inr (8, [v0np, v1np, v2np, .int 0]))] [] [0, 1, 2] [] (c_isOpen l g h0 v0h0 v1h0 nw v3h0 v4h0 v5h0 v6h0 v7h0 v8h0 v9h0 v0nw v1nw v2nw np v4nw v5nw v0np v1np v2np) dX10_fits_1 mw190 mw191 mw192 mw174 mw193 rfl 10 rfl rfl 0 _ rfl (by unfold yOk; decide) rfl (Nat.le_of_ble_eq_true rfl) (Nat.le_of_ble_eq_true rfl) (Nat.le_of_ble_eq_true rfl) (Nat.le_of_ble_eq_true rfl) (Nat.le_of_ble_eq_true rfl) rfl rfl (by decide) rfl (by decide) (by decide) ?_
  rintro r w ⟨rfl, rfl⟩
  refine k_ws [(h0, .inr (10, [v0h0, v1h0, .ref nw, v3h0, v4h0, v5h0, v6h0, v7h0, v8h0, v9h0])), (nw, .inr (7, [v0nw, v1nw, v2nw, .ref np, v4nw, v5nw])), (np, .inr (8, [v0np, v1np, v2np, .int 0]))] rfl ?_
  refine k_if_ne 13 X dX10_fits_4 (by decide) (fun h_1 => absurd h_1 (by decide)) (fun _ => ?_)
  refine k_aload_n X dX10_fits_7 0 rfl ?_
  refine k_iconst (v := 1) X dX10_fits_8 (by decide) ?_
  refine k_callVI (n := 1) (As := [.int 1]) (st := []) X [(h0, .inr (10, [v0h0, v1h0, .ref nw, v3h0, v4h0, v5h0, v6h0, v7h0, v8h0, v9h0]))] [(nw, .inr (7, [v0nw, v1nw, v2nw, .ref np, v4nw, v5nw])), (np, .inr (8, [v0np, v1np, v2np, .int 0]))] [0] [1, 2] (c_refuse l g h0 1 v0h0 v1h0 (.ref nw) v3h0 v4h0 v5h0 v6h0 v7h0 v8h0 v9h0) dX10_fits_9 mw176 mw177 mw178 mw174 mw179 rfl 10 rfl rfl 0 _ rfl (by unfold yOk; decide) rfl (Nat.le_of_ble_eq_true rfl) (Nat.le_of_ble_eq_true rfl) (Nat.le_of_ble_eq_true rfl) (Nat.le_of_ble_eq_true rfl) (Nat.le_of_ble_eq_true rfl) rfl rfl (by decide) rfl (by decide) (by decide) ?_
  rintro r w ⟨rfl, rfl⟩
  refine k_ws [(nw, .inr (7, [v0nw, v1nw, v2nw, .ref np, v4nw, v5nw])), (np, .inr (8, [v0np, v1np, v2np, .int 0]))] rfl ?_
  exact k_iret X hr dX10_fits_12 (Nat.le_of_ble_eq_true rfl) (Nat.le_of_ble_eq_true rfl) [] (by decide) rfl rfl ⟨rfl, rfl⟩

theorem dX10_needs_0 : decode cX10_needs 0 = .ok (.aload_n 0, 1) := by decide +kernel
theorem dX10_needs_1 : decode cX10_needs 1 = .ok (.getfield 26, 3) := by decide +kernel
theorem dX10_needs_4 : decode cX10_needs 4 = .ok (.getfield 109, 3) := by decide +kernel
theorem dX10_needs_7 : decode cX10_needs 7 = .ok (.iload_n 2, 1) := by decide +kernel
theorem dX10_needs_8 : decode cX10_needs 8 = .ok (.invokevirtual 127, 3) := by decide +kernel
theorem dX10_needs_11 : decode cX10_needs 11 = .ok (.ifCond .eq 11, 3) := by decide +kernel
theorem dX10_needs_22 : decode cX10_needs 22 = .ok (.aload_n 0, 1) := by decide +kernel
theorem dX10_needs_23 : decode cX10_needs 23 = .ok (.iconst 1, 1) := by decide +kernel
theorem dX10_needs_24 : decode cX10_needs 24 = .ok (.invokevirtual 83, 3) := by decide +kernel
theorem dX10_needs_27 : decode cX10_needs 27 = .ok (.ireturn, 1) := by decide +kernel
set_option maxHeartbeats 4000000 in
set_option maxRecDepth 100000 in
theorem m_needs (l : Launch) (g : Gx) (h0 : Nat) (p0 : Int32) (p1 : Int32) (v0h0 : Value) (v1h0 : Value) (nw : Nat) (v3h0 : Value) (v4h0 : Value) (v5h0 : Value) (v6h0 : Value) (v7h0 : Value) (v8h0 : Value) (v9h0 : Value) (v0nw : Value) (v1nw : Value) (v2nw : Value) (np : Nat) (v4nw : Value) (v5nw : Value) (v0np : Value) (v1np : Value) (v2np : Value) : cI l g yX10_needs cX10_needs 3 (some .int) 1 21 0 0 [.ref h0, .int p0, .int p1] [(h0, .inr (10, [v0h0, v1h0, .ref nw, v3h0, v4h0, v5h0, v6h0, v7h0, v8h0, v9h0])), (nw, .inr (7, [v0nw, v1nw, v2nw, .ref np, v4nw, v5nw])), (np, .inr (8, [v0np, v1np, v2np, .int 0]))] (fun r w => r = (-1) ∧ w = []) := by
  refine cI.of (by decide) (Nat.le_of_ble_eq_true rfl) ?_
  intro p e s m args below meth c A X hr hi
  refine k_lveq [(0, .ref h0), (1, .int p0), (2, .int p1)] rfl ?_
  refine k_aload_n X dX10_needs_0 0 rfl ?_
  refine k_get (ci := 10) X inlX10 rfl 2 (by decide) dX10_needs_1 mw128 0 rfl rfl ?_
  refine k_get (ci := 7) X inlX7 rfl 3 (by decide) dX10_needs_4 mw167 1 rfl rfl ?_
  refine k_iload_n X dX10_needs_7 2 rfl ?_
  refine k_callVI (n := 1) (As := [.int p1]) (st := []) X [(np, .inr (8, [v0np, v1np, v2np, .int 0]))] [(h0, .inr (10, [v0h0, v1h0, .ref nw, v3h0, v4h0, v5h0, v6h0, v7h0, v8h0, v9h0])), (nw, .inr (7, [v0nw, v1nw, v2nw, .ref np, v4nw, v5nw]))] [2] [0, 1] (c_T_has l g np p1 v0np v1np v2np) dX10_needs_8 mw170 mw30 mw31 mw15 mw32 rfl 8 rfl rfl 0 _ rfl (by unfold yOk; decide) rfl (Nat.le_of_ble_eq_true rfl) (Nat.le_of_ble_eq_true rfl) (Nat.le_of_ble_eq_true rfl) (Nat.le_of_ble_eq_true rfl) (Nat.le_of_ble_eq_true rfl) rfl rfl (by decide) rfl (by decide) (by decide) ?_
  rintro r w ⟨rfl, rfl⟩
  refine k_ws [(h0, .inr (10, [v0h0, v1h0, .ref nw, v3h0, v4h0, v5h0, v6h0, v7h0, v8h0, v9h0])), (nw, .inr (7, [v0nw, v1nw, v2nw, .ref np, v4nw, v5nw])), (np, .inr (8, [v0np, v1np, v2np, .int 0]))] rfl ?_
  refine k_if_eq 22 X dX10_needs_11 (by decide) (fun _ => ?_) (fun h_1 => absurd (by decide) h_1)
  refine k_aload_n X dX10_needs_22 0 rfl ?_
  refine k_iconst (v := 1) X dX10_needs_23 (by decide) ?_
  refine k_callVI (n := 1) (As := [.int 1]) (st := []) X [(h0, .inr (10, [v0h0, v1h0, .ref nw, v3h0, v4h0, v5h0, v6h0, v7h0, v8h0, v9h0]))] [(nw, .inr (7, [v0nw, v1nw, v2nw, .ref np, v4nw, v5nw])), (np, .inr (8, [v0np, v1np, v2np, .int 0]))] [0] [1, 2] (c_refuse l g h0 1 v0h0 v1h0 (.ref nw) v3h0 v4h0 v5h0 v6h0 v7h0 v8h0 v9h0) dX10_needs_24 mw176 mw177 mw178 mw174 mw179 rfl 10 rfl rfl 0 _ rfl (by unfold yOk; decide) rfl (Nat.le_of_ble_eq_true rfl) (Nat.le_of_ble_eq_true rfl) (Nat.le_of_ble_eq_true rfl) (Nat.le_of_ble_eq_true rfl) (Nat.le_of_ble_eq_true rfl) rfl rfl (by decide) rfl (by decide) (by decide) ?_
  rintro r w ⟨rfl, rfl⟩
  refine k_ws [(nw, .inr (7, [v0nw, v1nw, v2nw, .ref np, v4nw, v5nw])), (np, .inr (8, [v0np, v1np, v2np, .int 0]))] rfl ?_
  exact k_iret X hr dX10_needs_27 (Nat.le_of_ble_eq_true rfl) (Nat.le_of_ble_eq_true rfl) [] (by decide) rfl rfl ⟨rfl, rfl⟩

theorem dX10_dies_0 : decode cX10_dies 0 = .ok (.aload_n 0, 1) := by decide +kernel
theorem dX10_dies_1 : decode cX10_dies 1 = .ok (.getfield 26, 3) := by decide +kernel
theorem dX10_dies_4 : decode cX10_dies 4 = .ok (.getfield 109, 3) := by decide +kernel
theorem dX10_dies_7 : decode cX10_dies 7 = .ok (.iload_n 2, 1) := by decide +kernel
theorem dX10_dies_8 : decode cX10_dies 8 = .ok (.invokevirtual 127, 3) := by decide +kernel
theorem dX10_dies_11 : decode cX10_dies 11 = .ok (.ifCond .eq 11, 3) := by decide +kernel
theorem dX10_dies_22 : decode cX10_dies 22 = .ok (.aload_n 0, 1) := by decide +kernel
theorem dX10_dies_23 : decode cX10_dies 23 = .ok (.iconst 1, 1) := by decide +kernel
theorem dX10_dies_24 : decode cX10_dies 24 = .ok (.invokevirtual 83, 3) := by decide +kernel
theorem dX10_dies_27 : decode cX10_dies 27 = .ok (.ireturn, 1) := by decide +kernel
set_option maxHeartbeats 4000000 in
set_option maxRecDepth 100000 in
theorem m_dies (l : Launch) (g : Gx) (h0 : Nat) (p0 : Int32) (p1 : Int32) (v0h0 : Value) (v1h0 : Value) (nw : Nat) (v3h0 : Value) (v4h0 : Value) (v5h0 : Value) (v6h0 : Value) (v7h0 : Value) (v8h0 : Value) (v9h0 : Value) (v0nw : Value) (v1nw : Value) (v2nw : Value) (np : Nat) (v4nw : Value) (v5nw : Value) (v0np : Value) (v1np : Value) (v2np : Value) : cI l g yX10_dies cX10_dies 3 (some .int) 1 21 0 0 [.ref h0, .int p0, .int p1] [(h0, .inr (10, [v0h0, v1h0, .ref nw, v3h0, v4h0, v5h0, v6h0, v7h0, v8h0, v9h0])), (nw, .inr (7, [v0nw, v1nw, v2nw, .ref np, v4nw, v5nw])), (np, .inr (8, [v0np, v1np, v2np, .int 0]))] (fun r w => r = (-1) ∧ w = []) := by
  refine cI.of (by decide) (Nat.le_of_ble_eq_true rfl) ?_
  intro p e s m args below meth c A X hr hi
  refine k_lveq [(0, .ref h0), (1, .int p0), (2, .int p1)] rfl ?_
  refine k_aload_n X dX10_dies_0 0 rfl ?_
  refine k_get (ci := 10) X inlX10 rfl 2 (by decide) dX10_dies_1 mw128 0 rfl rfl ?_
  refine k_get (ci := 7) X inlX7 rfl 3 (by decide) dX10_dies_4 mw167 1 rfl rfl ?_
  refine k_iload_n X dX10_dies_7 2 rfl ?_
  refine k_callVI (n := 1) (As := [.int p1]) (st := []) X [(np, .inr (8, [v0np, v1np, v2np, .int 0]))] [(h0, .inr (10, [v0h0, v1h0, .ref nw, v3h0, v4h0, v5h0, v6h0, v7h0, v8h0, v9h0])), (nw, .inr (7, [v0nw, v1nw, v2nw, .ref np, v4nw, v5nw]))] [2] [0, 1] (c_T_has l g np p1 v0np v1np v2np) dX10_dies_8 mw170 mw30 mw31 mw15 mw32 rfl 8 rfl rfl 0 _ rfl (by unfold yOk; decide) rfl (Nat.le_of_ble_eq_true rfl) (Nat.le_of_ble_eq_true rfl) (Nat.le_of_ble_eq_true rfl) (Nat.le_of_ble_eq_true rfl) (Nat.le_of_ble_eq_true rfl) rfl rfl (by decide) rfl (by decide) (by decide) ?_
  rintro r w ⟨rfl, rfl⟩
  refine k_ws [(h0, .inr (10, [v0h0, v1h0, .ref nw, v3h0, v4h0, v5h0, v6h0, v7h0, v8h0, v9h0])), (nw, .inr (7, [v0nw, v1nw, v2nw, .ref np, v4nw, v5nw])), (np, .inr (8, [v0np, v1np, v2np, .int 0]))] rfl ?_
  refine k_if_eq 22 X dX10_dies_11 (by decide) (fun _ => ?_) (fun h_1 => absurd (by decide) h_1)
  refine k_aload_n X dX10_dies_22 0 rfl ?_
  refine k_iconst (v := 1) X dX10_dies_23 (by decide) ?_
  refine k_callVI (n := 1) (As := [.int 1]) (st := []) X [(h0, .inr (10, [v0h0, v1h0, .ref nw, v3h0, v4h0, v5h0, v6h0, v7h0, v8h0, v9h0]))] [(nw, .inr (7, [v0nw, v1nw, v2nw, .ref np, v4nw, v5nw])), (np, .inr (8, [v0np, v1np, v2np, .int 0]))] [0] [1, 2] (c_refuse l g h0 1 v0h0 v1h0 (.ref nw) v3h0 v4h0 v5h0 v6h0 v7h0 v8h0 v9h0) dX10_dies_24 mw176 mw177 mw178 mw174 mw179 rfl 10 rfl rfl 0 _ rfl (by unfold yOk; decide) rfl (Nat.le_of_ble_eq_true rfl) (Nat.le_of_ble_eq_true rfl) (Nat.le_of_ble_eq_true rfl) (Nat.le_of_ble_eq_true rfl) (Nat.le_of_ble_eq_true rfl) rfl rfl (by decide) rfl (by decide) (by decide) ?_
  rintro r w ⟨rfl, rfl⟩
  refine k_ws [(nw, .inr (7, [v0nw, v1nw, v2nw, .ref np, v4nw, v5nw])), (np, .inr (8, [v0np, v1np, v2np, .int 0]))] rfl ?_
  exact k_iret X hr dX10_dies_27 (Nat.le_of_ble_eq_true rfl) (Nat.le_of_ble_eq_true rfl) [] (by decide) rfl rfl ⟨rfl, rfl⟩

theorem dX10_free_0 : decode cX10_free 0 = .ok (.aload_n 0, 1) := by decide +kernel
theorem dX10_free_1 : decode cX10_free 1 = .ok (.getfield 26, 3) := by decide +kernel
theorem dX10_free_4 : decode cX10_free 4 = .ok (.getfield 109, 3) := by decide +kernel
theorem dX10_free_7 : decode cX10_free 7 = .ok (.iload_n 2, 1) := by decide +kernel
theorem dX10_free_8 : decode cX10_free 8 = .ok (.invokevirtual 127, 3) := by decide +kernel
theorem dX10_free_11 : decode cX10_free 11 = .ok (.ifCond .eq 11, 3) := by decide +kernel
theorem dX10_free_22 : decode cX10_free 22 = .ok (.aload_n 0, 1) := by decide +kernel
theorem dX10_free_23 : decode cX10_free 23 = .ok (.iconst 1, 1) := by decide +kernel
theorem dX10_free_24 : decode cX10_free 24 = .ok (.invokevirtual 83, 3) := by decide +kernel
theorem dX10_free_27 : decode cX10_free 27 = .ok (.ireturn, 1) := by decide +kernel
set_option maxHeartbeats 4000000 in
set_option maxRecDepth 100000 in
theorem m_free (l : Launch) (g : Gx) (h0 : Nat) (p0 : Int32) (p1 : Int32) (v0h0 : Value) (v1h0 : Value) (nw : Nat) (v3h0 : Value) (v4h0 : Value) (v5h0 : Value) (v6h0 : Value) (v7h0 : Value) (v8h0 : Value) (v9h0 : Value) (v0nw : Value) (v1nw : Value) (v2nw : Value) (np : Nat) (v4nw : Value) (v5nw : Value) (v0np : Value) (v1np : Value) (v2np : Value) : cI l g yX10_free cX10_free 3 (some .int) 1 21 0 0 [.ref h0, .int p0, .int p1] [(h0, .inr (10, [v0h0, v1h0, .ref nw, v3h0, v4h0, v5h0, v6h0, v7h0, v8h0, v9h0])), (nw, .inr (7, [v0nw, v1nw, v2nw, .ref np, v4nw, v5nw])), (np, .inr (8, [v0np, v1np, v2np, .int 0]))] (fun r w => r = (-1) ∧ w = []) := by
  refine cI.of (by decide) (Nat.le_of_ble_eq_true rfl) ?_
  intro p e s m args below meth c A X hr hi
  refine k_lveq [(0, .ref h0), (1, .int p0), (2, .int p1)] rfl ?_
  refine k_aload_n X dX10_free_0 0 rfl ?_
  refine k_get (ci := 10) X inlX10 rfl 2 (by decide) dX10_free_1 mw128 0 rfl rfl ?_
  refine k_get (ci := 7) X inlX7 rfl 3 (by decide) dX10_free_4 mw167 1 rfl rfl ?_
  refine k_iload_n X dX10_free_7 2 rfl ?_
  refine k_callVI (n := 1) (As := [.int p1]) (st := []) X [(np, .inr (8, [v0np, v1np, v2np, .int 0]))] [(h0, .inr (10, [v0h0, v1h0, .ref nw, v3h0, v4h0, v5h0, v6h0, v7h0, v8h0, v9h0])), (nw, .inr (7, [v0nw, v1nw, v2nw, .ref np, v4nw, v5nw]))] [2] [0, 1] (c_T_has l g np p1 v0np v1np v2np) dX10_free_8 mw170 mw30 mw31 mw15 mw32 rfl 8 rfl rfl 0 _ rfl (by unfold yOk; decide) rfl (Nat.le_of_ble_eq_true rfl) (Nat.le_of_ble_eq_true rfl) (Nat.le_of_ble_eq_true rfl) (Nat.le_of_ble_eq_true rfl) (Nat.le_of_ble_eq_true rfl) rfl rfl (by decide) rfl (by decide) (by decide) ?_
  rintro r w ⟨rfl, rfl⟩
  refine k_ws [(h0, .inr (10, [v0h0, v1h0, .ref nw, v3h0, v4h0, v5h0, v6h0, v7h0, v8h0, v9h0])), (nw, .inr (7, [v0nw, v1nw, v2nw, .ref np, v4nw, v5nw])), (np, .inr (8, [v0np, v1np, v2np, .int 0]))] rfl ?_
  refine k_if_eq 22 X dX10_free_11 (by decide) (fun _ => ?_) (fun h_1 => absurd (by decide) h_1)
  refine k_aload_n X dX10_free_22 0 rfl ?_
  refine k_iconst (v := 1) X dX10_free_23 (by decide) ?_
  refine k_callVI (n := 1) (As := [.int 1]) (st := []) X [(h0, .inr (10, [v0h0, v1h0, .ref nw, v3h0, v4h0, v5h0, v6h0, v7h0, v8h0, v9h0]))] [(nw, .inr (7, [v0nw, v1nw, v2nw, .ref np, v4nw, v5nw])), (np, .inr (8, [v0np, v1np, v2np, .int 0]))] [0] [1, 2] (c_refuse l g h0 1 v0h0 v1h0 (.ref nw) v3h0 v4h0 v5h0 v6h0 v7h0 v8h0 v9h0) dX10_free_24 mw176 mw177 mw178 mw174 mw179 rfl 10 rfl rfl 0 _ rfl (by unfold yOk; decide) rfl (Nat.le_of_ble_eq_true rfl) (Nat.le_of_ble_eq_true rfl) (Nat.le_of_ble_eq_true rfl) (Nat.le_of_ble_eq_true rfl) (Nat.le_of_ble_eq_true rfl) rfl rfl (by decide) rfl (by decide) (by decide) ?_
  rintro r w ⟨rfl, rfl⟩
  refine k_ws [(nw, .inr (7, [v0nw, v1nw, v2nw, .ref np, v4nw, v5nw])), (np, .inr (8, [v0np, v1np, v2np, .int 0]))] rfl ?_
  exact k_iret X hr dX10_free_27 (Nat.le_of_ble_eq_true rfl) (Nat.le_of_ble_eq_true rfl) [] (by decide) rfl rfl ⟨rfl, rfl⟩

theorem dX10_arc_0 : decode cX10_arc 0 = .ok (.aload_n 0, 1) := by decide +kernel
theorem dX10_arc_1 : decode cX10_arc 1 = .ok (.getfield 26, 3) := by decide +kernel
theorem dX10_arc_4 : decode cX10_arc 4 = .ok (.getfield 109, 3) := by decide +kernel
theorem dX10_arc_7 : decode cX10_arc 7 = .ok (.iload_n 2, 1) := by decide +kernel
theorem dX10_arc_8 : decode cX10_arc 8 = .ok (.invokevirtual 127, 3) := by decide +kernel
theorem dX10_arc_11 : decode cX10_arc 11 = .ok (.ifCond .eq 11, 3) := by decide +kernel
theorem dX10_arc_22 : decode cX10_arc 22 = .ok (.aload_n 0, 1) := by decide +kernel
theorem dX10_arc_23 : decode cX10_arc 23 = .ok (.iconst 1, 1) := by decide +kernel
theorem dX10_arc_24 : decode cX10_arc 24 = .ok (.invokevirtual 83, 3) := by decide +kernel
theorem dX10_arc_27 : decode cX10_arc 27 = .ok (.ireturn, 1) := by decide +kernel
set_option maxHeartbeats 4000000 in
set_option maxRecDepth 100000 in
theorem m_arc (l : Launch) (g : Gx) (h0 : Nat) (p0 : Int32) (p1 : Int32) (v0h0 : Value) (v1h0 : Value) (nw : Nat) (v3h0 : Value) (v4h0 : Value) (v5h0 : Value) (v6h0 : Value) (v7h0 : Value) (v8h0 : Value) (v9h0 : Value) (v0nw : Value) (v1nw : Value) (v2nw : Value) (np : Nat) (v4nw : Value) (v5nw : Value) (v0np : Value) (v1np : Value) (v2np : Value) : cI l g yX10_arc cX10_arc 3 (some .int) 1 21 0 0 [.ref h0, .int p0, .int p1] [(h0, .inr (10, [v0h0, v1h0, .ref nw, v3h0, v4h0, v5h0, v6h0, v7h0, v8h0, v9h0])), (nw, .inr (7, [v0nw, v1nw, v2nw, .ref np, v4nw, v5nw])), (np, .inr (8, [v0np, v1np, v2np, .int 0]))] (fun r w => r = (-1) ∧ w = []) := by
  refine cI.of (by decide) (Nat.le_of_ble_eq_true rfl) ?_
  intro p e s m args below meth c A X hr hi
  refine k_lveq [(0, .ref h0), (1, .int p0), (2, .int p1)] rfl ?_
  refine k_aload_n X dX10_arc_0 0 rfl ?_
  refine k_get (ci := 10) X inlX10 rfl 2 (by decide) dX10_arc_1 mw128 0 rfl rfl ?_
  refine k_get (ci := 7) X inlX7 rfl 3 (by decide) dX10_arc_4 mw167 1 rfl rfl ?_
  refine k_iload_n X dX10_arc_7 2 rfl ?_
  refine k_callVI (n := 1) (As := [.int p1]) (st := []) X [(np, .inr (8, [v0np, v1np, v2np, .int 0]))] [(h0, .inr (10, [v0h0, v1h0, .ref nw, v3h0, v4h0, v5h0, v6h0, v7h0, v8h0, v9h0])), (nw, .inr (7, [v0nw, v1nw, v2nw, .ref np, v4nw, v5nw]))] [2] [0, 1] (c_T_has l g np p1 v0np v1np v2np) dX10_arc_8 mw170 mw30 mw31 mw15 mw32 rfl 8 rfl rfl 0 _ rfl (by unfold yOk; decide) rfl (Nat.le_of_ble_eq_true rfl) (Nat.le_of_ble_eq_true rfl) (Nat.le_of_ble_eq_true rfl) (Nat.le_of_ble_eq_true rfl) (Nat.le_of_ble_eq_true rfl) rfl rfl (by decide) rfl (by decide) (by decide) ?_
  rintro r w ⟨rfl, rfl⟩
  refine k_ws [(h0, .inr (10, [v0h0, v1h0, .ref nw, v3h0, v4h0, v5h0, v6h0, v7h0, v8h0, v9h0])), (nw, .inr (7, [v0nw, v1nw, v2nw, .ref np, v4nw, v5nw])), (np, .inr (8, [v0np, v1np, v2np, .int 0]))] rfl ?_
  refine k_if_eq 22 X dX10_arc_11 (by decide) (fun _ => ?_) (fun h_1 => absurd (by decide) h_1)
  refine k_aload_n X dX10_arc_22 0 rfl ?_
  refine k_iconst (v := 1) X dX10_arc_23 (by decide) ?_
  refine k_callVI (n := 1) (As := [.int 1]) (st := []) X [(h0, .inr (10, [v0h0, v1h0, .ref nw, v3h0, v4h0, v5h0, v6h0, v7h0, v8h0, v9h0]))] [(nw, .inr (7, [v0nw, v1nw, v2nw, .ref np, v4nw, v5nw])), (np, .inr (8, [v0np, v1np, v2np, .int 0]))] [0] [1, 2] (c_refuse l g h0 1 v0h0 v1h0 (.ref nw) v3h0 v4h0 v5h0 v6h0 v7h0 v8h0 v9h0) dX10_arc_24 mw176 mw177 mw178 mw174 mw179 rfl 10 rfl rfl 0 _ rfl (by unfold yOk; decide) rfl (Nat.le_of_ble_eq_true rfl) (Nat.le_of_ble_eq_true rfl) (Nat.le_of_ble_eq_true rfl) (Nat.le_of_ble_eq_true rfl) (Nat.le_of_ble_eq_true rfl) rfl rfl (by decide) rfl (by decide) (by decide) ?_
  rintro r w ⟨rfl, rfl⟩
  refine k_ws [(nw, .inr (7, [v0nw, v1nw, v2nw, .ref np, v4nw, v5nw])), (np, .inr (8, [v0np, v1np, v2np, .int 0]))] rfl ?_
  exact k_iret X hr dX10_arc_27 (Nat.le_of_ble_eq_true rfl) (Nat.le_of_ble_eq_true rfl) [] (by decide) rfl rfl ⟨rfl, rfl⟩

theorem dX10_well_0 : decode cX10_well 0 = .ok (.aload_n 0, 1) := by decide +kernel
theorem dX10_well_1 : decode cX10_well 1 = .ok (.invokevirtual 184, 3) := by decide +kernel
theorem dX10_well_4 : decode cX10_well 4 = .ok (.ifCond .ne 10, 3) := by decide +kernel
theorem dX10_well_7 : decode cX10_well 7 = .ok (.aload_n 0, 1) := by decide +kernel
theorem dX10_well_8 : decode cX10_well 8 = .ok (.iconst 1, 1) := by decide +kernel
theorem dX10_well_9 : decode cX10_well 9 = .ok (.invokevirtual 83, 3) := by decide +kernel
theorem dX10_well_12 : decode cX10_well 12 = .ok (.i2l, 1) := by decide +kernel
theorem dX10_well_13 : decode cX10_well 13 = .ok (.lreturn, 1) := by decide +kernel
set_option maxHeartbeats 4000000 in
set_option maxRecDepth 100000 in
theorem m_well (l : Launch) (g : Gx) (h0 : Nat) (p0 : Int32) (v0h0 : Value) (v1h0 : Value) (nw : Nat) (v3h0 : Value) (v4h0 : Value) (v5h0 : Value) (v6h0 : Value) (v7h0 : Value) (v8h0 : Value) (v9h0 : Value) (v0nw : Value) (v1nw : Value) (v2nw : Value) (np : Nat) (v4nw : Value) (v5nw : Value) (v0np : Value) (v1np : Value) (v2np : Value) : cL l g yX10_well cX10_well 2 (some .long) 1 21 0 0 [.ref h0, .int p0] [(h0, .inr (10, [v0h0, v1h0, .ref nw, v3h0, v4h0, v5h0, v6h0, v7h0, v8h0, v9h0])), (nw, .inr (7, [v0nw, v1nw, v2nw, .ref np, v4nw, v5nw])), (np, .inr (8, [v0np, v1np, v2np, .int 0]))] (fun r w => r = (-1) ∧ w = []) := by
  refine cL.of (by decide) (Nat.le_of_ble_eq_true rfl) ?_
  intro p e s m args below meth c A X hr hi
  refine k_lveq [(0, .ref h0), (1, .int p0)] rfl ?_
  refine k_aload_n X dX10_well_0 0 rfl ?_
  refine k_callVI (n := 0) (As := []) (st := []) X [(h0, .inr (10, [v0h0, v1h0, .ref nw, v3h0, v4h0, v5h0, v6h0, v7h0, v8h0, v9h0])), (nw, .inr (7, [v0nw, v1nw, v2nw, .ref np, v4nw, v5nw])), (np, .inr (8, [v0np, v1np, v2np, .int 0]))] [] [0, 1, 2] [] (c_isOpen l g h0 v0h0 v1h0 nw v3h0 v4h0 v5h0 v6h0 v7h0 v8h0 v9h0 v0nw v1nw v2nw np v4nw v5nw v0np v1np v2np) dX10_well_1 mw190 mw191 mw192 mw174 mw193 rfl 10 rfl rfl 0 _ rfl (by unfold yOk; decide) rfl (Nat.le_of_ble_eq_true rfl) (Nat.le_of_ble_eq_true rfl) (Nat.le_of_ble_eq_true rfl) (Nat.le_of_ble_eq_true rfl) (Nat.le_of_ble_eq_true rfl) rfl rfl (by decide) rfl (by decide) (by decide) ?_
  rintro r w ⟨rfl, rfl⟩
  refine k_ws [(h0, .inr (10, [v0h0, v1h0, .ref nw, v3h0, v4h0, v5h0, v6h0, v7h0, v8h0, v9h0])), (nw, .inr (7, [v0nw, v1nw, v2nw, .ref np, v4nw, v5nw])), (np, .inr (8, [v0np, v1np, v2np, .int 0]))] rfl ?_
  refine k_if_ne 14 X dX10_well_4 (by decide) (fun h_1 => absurd h_1 (by decide)) (fun _ => ?_)
  refine k_aload_n X dX10_well_7 0 rfl ?_
  refine k_iconst (v := 1) X dX10_well_8 (by decide) ?_
  refine k_callVI (n := 1) (As := [.int 1]) (st := []) X [(h0, .inr (10, [v0h0, v1h0, .ref nw, v3h0, v4h0, v5h0, v6h0, v7h0, v8h0, v9h0]))] [(nw, .inr (7, [v0nw, v1nw, v2nw, .ref np, v4nw, v5nw])), (np, .inr (8, [v0np, v1np, v2np, .int 0]))] [0] [1, 2] (c_refuse l g h0 1 v0h0 v1h0 (.ref nw) v3h0 v4h0 v5h0 v6h0 v7h0 v8h0 v9h0) dX10_well_9 mw176 mw177 mw178 mw174 mw179 rfl 10 rfl rfl 0 _ rfl (by unfold yOk; decide) rfl (Nat.le_of_ble_eq_true rfl) (Nat.le_of_ble_eq_true rfl) (Nat.le_of_ble_eq_true rfl) (Nat.le_of_ble_eq_true rfl) (Nat.le_of_ble_eq_true rfl) rfl rfl (by decide) rfl (by decide) (by decide) ?_
  rintro r w ⟨rfl, rfl⟩
  refine k_ws [(nw, .inr (7, [v0nw, v1nw, v2nw, .ref np, v4nw, v5nw])), (np, .inr (8, [v0np, v1np, v2np, .int 0]))] rfl ?_
  refine k_i2l X dX10_well_12 ?_
  refine k_toL (-1) (by decide) ?_
  exact k_lret X hr dX10_well_13 (Nat.le_of_ble_eq_true rfl) (Nat.le_of_ble_eq_true rfl) [] (by decide) rfl rfl ⟨rfl, rfl⟩

theorem dX10_wrong_0 : decode cX10_wrong 0 = .ok (.aload_n 0, 1) := by decide +kernel
theorem dX10_wrong_1 : decode cX10_wrong 1 = .ok (.invokevirtual 184, 3) := by decide +kernel
theorem dX10_wrong_4 : decode cX10_wrong 4 = .ok (.ifCond .eq 21, 3) := by decide +kernel
theorem dX10_wrong_25 : decode cX10_wrong 25 = .ok (.aload_n 0, 1) := by decide +kernel
theorem dX10_wrong_26 : decode cX10_wrong 26 = .ok (.iconst 1, 1) := by decide +kernel
theorem dX10_wrong_27 : decode cX10_wrong 27 = .ok (.invokevirtual 83, 3) := by decide +kernel
theorem dX10_wrong_30 : decode cX10_wrong 30 = .ok (.ireturn, 1) := by decide +kernel
set_option maxHeartbeats 4000000 in
set_option maxRecDepth 100000 in
theorem m_wrong (l : Launch) (g : Gx) (h0 : Nat) (v0h0 : Value) (v1h0 : Value) (nw : Nat) (v3h0 : Value) (v4h0 : Value) (v5h0 : Value) (v6h0 : Value) (v7h0 : Value) (v8h0 : Value) (v9h0 : Value) (v0nw : Value) (v1nw : Value) (v2nw : Value) (np : Nat) (v4nw : Value) (v5nw : Value) (v0np : Value) (v1np : Value) (v2np : Value) : cI l g yX10_wrong cX10_wrong 1 (some .int) 1 21 0 0 [.ref h0] [(h0, .inr (10, [v0h0, v1h0, .ref nw, v3h0, v4h0, v5h0, v6h0, v7h0, v8h0, v9h0])), (nw, .inr (7, [v0nw, v1nw, v2nw, .ref np, v4nw, v5nw])), (np, .inr (8, [v0np, v1np, v2np, .int 0]))] (fun r w => r = (-1) ∧ w = []) := by
  refine cI.of (by decide) (Nat.le_of_ble_eq_true rfl) ?_
  intro p e s m args below meth c A X hr hi
  refine k_lveq [(0, .ref h0)] rfl ?_
  refine k_aload_n X dX10_wrong_0 0 rfl ?_
  refine k_callVI (n := 0) (As := []) (st := []) X [(h0, .inr (10, [v0h0, v1h0, .ref nw, v3h0, v4h0, v5h0, v6h0, v7h0, v8h0, v9h0])), (nw, .inr (7, [v0nw, v1nw, v2nw, .ref np, v4nw, v5nw])), (np, .inr (8, [v0np, v1np, v2np, .int 0]))] [] [0, 1, 2] [] (c_isOpen l g h0 v0h0 v1h0 nw v3h0 v4h0 v5h0 v6h0 v7h0 v8h0 v9h0 v0nw v1nw v2nw np v4nw v5nw v0np v1np v2np) dX10_wrong_1 mw190 mw191 mw192 mw174 mw193 rfl 10 rfl rfl 0 _ rfl (by unfold yOk; decide) rfl (Nat.le_of_ble_eq_true rfl) (Nat.le_of_ble_eq_true rfl) (Nat.le_of_ble_eq_true rfl) (Nat.le_of_ble_eq_true rfl) (Nat.le_of_ble_eq_true rfl) rfl rfl (by decide) rfl (by decide) (by decide) ?_
  rintro r w ⟨rfl, rfl⟩
  refine k_ws [(h0, .inr (10, [v0h0, v1h0, .ref nw, v3h0, v4h0, v5h0, v6h0, v7h0, v8h0, v9h0])), (nw, .inr (7, [v0nw, v1nw, v2nw, .ref np, v4nw, v5nw])), (np, .inr (8, [v0np, v1np, v2np, .int 0]))] rfl ?_
  refine k_if_eq 25 X dX10_wrong_4 (by decide) (fun _ => ?_) (fun h_1 => absurd (by decide) h_1)
  refine k_aload_n X dX10_wrong_25 0 rfl ?_
  refine k_iconst (v := 1) X dX10_wrong_26 (by decide) ?_
  refine k_callVI (n := 1) (As := [.int 1]) (st := []) X [(h0, .inr (10, [v0h0, v1h0, .ref nw, v3h0, v4h0, v5h0, v6h0, v7h0, v8h0, v9h0]))] [(nw, .inr (7, [v0nw, v1nw, v2nw, .ref np, v4nw, v5nw])), (np, .inr (8, [v0np, v1np, v2np, .int 0]))] [0] [1, 2] (c_refuse l g h0 1 v0h0 v1h0 (.ref nw) v3h0 v4h0 v5h0 v6h0 v7h0 v8h0 v9h0) dX10_wrong_27 mw176 mw177 mw178 mw174 mw179 rfl 10 rfl rfl 0 _ rfl (by unfold yOk; decide) rfl (Nat.le_of_ble_eq_true rfl) (Nat.le_of_ble_eq_true rfl) (Nat.le_of_ble_eq_true rfl) (Nat.le_of_ble_eq_true rfl) (Nat.le_of_ble_eq_true rfl) rfl rfl (by decide) rfl (by decide) (by decide) ?_
  rintro r w ⟨rfl, rfl⟩
  refine k_ws [(nw, .inr (7, [v0nw, v1nw, v2nw, .ref np, v4nw, v5nw])), (np, .inr (8, [v0np, v1np, v2np, .int 0]))] rfl ?_
  exact k_iret X hr dX10_wrong_30 (Nat.le_of_ble_eq_true rfl) (Nat.le_of_ble_eq_true rfl) [] (by decide) rfl rfl ⟨rfl, rfl⟩

theorem dX10_exchanges_0 : decode cX10_exchanges 0 = .ok (.aload_n 0, 1) := by decide +kernel
theorem dX10_exchanges_1 : decode cX10_exchanges 1 = .ok (.invokevirtual 184, 3) := by decide +kernel
theorem dX10_exchanges_4 : decode cX10_exchanges 4 = .ok (.ifCond .eq 21, 3) := by decide +kernel
theorem dX10_exchanges_25 : decode cX10_exchanges 25 = .ok (.aload_n 0, 1) := by decide +kernel
theorem dX10_exchanges_26 : decode cX10_exchanges 26 = .ok (.iconst 1, 1) := by decide +kernel
theorem dX10_exchanges_27 : decode cX10_exchanges 27 = .ok (.invokevirtual 83, 3) := by decide +kernel
theorem dX10_exchanges_30 : decode cX10_exchanges 30 = .ok (.ireturn, 1) := by decide +kernel
set_option maxHeartbeats 4000000 in
set_option maxRecDepth 100000 in
theorem m_exchanges (l : Launch) (g : Gx) (h0 : Nat) (v0h0 : Value) (v1h0 : Value) (nw : Nat) (v3h0 : Value) (v4h0 : Value) (v5h0 : Value) (v6h0 : Value) (v7h0 : Value) (v8h0 : Value) (v9h0 : Value) (v0nw : Value) (v1nw : Value) (v2nw : Value) (np : Nat) (v4nw : Value) (v5nw : Value) (v0np : Value) (v1np : Value) (v2np : Value) : cI l g yX10_exchanges cX10_exchanges 1 (some .int) 1 21 0 0 [.ref h0] [(h0, .inr (10, [v0h0, v1h0, .ref nw, v3h0, v4h0, v5h0, v6h0, v7h0, v8h0, v9h0])), (nw, .inr (7, [v0nw, v1nw, v2nw, .ref np, v4nw, v5nw])), (np, .inr (8, [v0np, v1np, v2np, .int 0]))] (fun r w => r = (-1) ∧ w = []) := by
  refine cI.of (by decide) (Nat.le_of_ble_eq_true rfl) ?_
  intro p e s m args below meth c A X hr hi
  refine k_lveq [(0, .ref h0)] rfl ?_
  refine k_aload_n X dX10_exchanges_0 0 rfl ?_
  refine k_callVI (n := 0) (As := []) (st := []) X [(h0, .inr (10, [v0h0, v1h0, .ref nw, v3h0, v4h0, v5h0, v6h0, v7h0, v8h0, v9h0])), (nw, .inr (7, [v0nw, v1nw, v2nw, .ref np, v4nw, v5nw])), (np, .inr (8, [v0np, v1np, v2np, .int 0]))] [] [0, 1, 2] [] (c_isOpen l g h0 v0h0 v1h0 nw v3h0 v4h0 v5h0 v6h0 v7h0 v8h0 v9h0 v0nw v1nw v2nw np v4nw v5nw v0np v1np v2np) dX10_exchanges_1 mw190 mw191 mw192 mw174 mw193 rfl 10 rfl rfl 0 _ rfl (by unfold yOk; decide) rfl (Nat.le_of_ble_eq_true rfl) (Nat.le_of_ble_eq_true rfl) (Nat.le_of_ble_eq_true rfl) (Nat.le_of_ble_eq_true rfl) (Nat.le_of_ble_eq_true rfl) rfl rfl (by decide) rfl (by decide) (by decide) ?_
  rintro r w ⟨rfl, rfl⟩
  refine k_ws [(h0, .inr (10, [v0h0, v1h0, .ref nw, v3h0, v4h0, v5h0, v6h0, v7h0, v8h0, v9h0])), (nw, .inr (7, [v0nw, v1nw, v2nw, .ref np, v4nw, v5nw])), (np, .inr (8, [v0np, v1np, v2np, .int 0]))] rfl ?_
  refine k_if_eq 25 X dX10_exchanges_4 (by decide) (fun _ => ?_) (fun h_1 => absurd (by decide) h_1)
  refine k_aload_n X dX10_exchanges_25 0 rfl ?_
  refine k_iconst (v := 1) X dX10_exchanges_26 (by decide) ?_
  refine k_callVI (n := 1) (As := [.int 1]) (st := []) X [(h0, .inr (10, [v0h0, v1h0, .ref nw, v3h0, v4h0, v5h0, v6h0, v7h0, v8h0, v9h0]))] [(nw, .inr (7, [v0nw, v1nw, v2nw, .ref np, v4nw, v5nw])), (np, .inr (8, [v0np, v1np, v2np, .int 0]))] [0] [1, 2] (c_refuse l g h0 1 v0h0 v1h0 (.ref nw) v3h0 v4h0 v5h0 v6h0 v7h0 v8h0 v9h0) dX10_exchanges_27 mw176 mw177 mw178 mw174 mw179 rfl 10 rfl rfl 0 _ rfl (by unfold yOk; decide) rfl (Nat.le_of_ble_eq_true rfl) (Nat.le_of_ble_eq_true rfl) (Nat.le_of_ble_eq_true rfl) (Nat.le_of_ble_eq_true rfl) (Nat.le_of_ble_eq_true rfl) rfl rfl (by decide) rfl (by decide) (by decide) ?_
  rintro r w ⟨rfl, rfl⟩
  refine k_ws [(nw, .inr (7, [v0nw, v1nw, v2nw, .ref np, v4nw, v5nw])), (np, .inr (8, [v0np, v1np, v2np, .int 0]))] rfl ?_
  exact k_iret X hr dX10_exchanges_30 (Nat.le_of_ble_eq_true rfl) (Nat.le_of_ble_eq_true rfl) [] (by decide) rfl rfl ⟨rfl, rfl⟩

theorem dX10_bestMan_0 : decode cX10_bestMan 0 = .ok (.aload_n 0, 1) := by decide +kernel
theorem dX10_bestMan_1 : decode cX10_bestMan 1 = .ok (.invokevirtual 184, 3) := by decide +kernel
theorem dX10_bestMan_4 : decode cX10_bestMan 4 = .ok (.ifCond .ne 9, 3) := by decide +kernel
theorem dX10_bestMan_7 : decode cX10_bestMan 7 = .ok (.aload_n 0, 1) := by decide +kernel
theorem dX10_bestMan_8 : decode cX10_bestMan 8 = .ok (.iconst 1, 1) := by decide +kernel
theorem dX10_bestMan_9 : decode cX10_bestMan 9 = .ok (.invokevirtual 83, 3) := by decide +kernel
theorem dX10_bestMan_12 : decode cX10_bestMan 12 = .ok (.ireturn, 1) := by decide +kernel
set_option maxHeartbeats 4000000 in
set_option maxRecDepth 100000 in
theorem m_bestMan (l : Launch) (g : Gx) (h0 : Nat) (p0 : Int32) (p1 : Int32) (v0h0 : Value) (v1h0 : Value) (nw : Nat) (v3h0 : Value) (v4h0 : Value) (v5h0 : Value) (v6h0 : Value) (v7h0 : Value) (v8h0 : Value) (v9h0 : Value) (v0nw : Value) (v1nw : Value) (v2nw : Value) (np : Nat) (v4nw : Value) (v5nw : Value) (v0np : Value) (v1np : Value) (v2np : Value) : cI l g yX10_bestMan cX10_bestMan 7 (some .int) 1 21 0 0 [.ref h0, .int p0, .int p1] [(h0, .inr (10, [v0h0, v1h0, .ref nw, v3h0, v4h0, v5h0, v6h0, v7h0, v8h0, v9h0])), (nw, .inr (7, [v0nw, v1nw, v2nw, .ref np, v4nw, v5nw])), (np, .inr (8, [v0np, v1np, v2np, .int 0]))] (fun r w => r = (-1) ∧ w = []) := by
  refine cI.of (by decide) (Nat.le_of_ble_eq_true rfl) ?_
  intro p e s m args below meth c A X hr hi
  refine k_lveq [(0, .ref h0), (1, .int p0), (2, .int p1)] rfl ?_
  refine k_aload_n X dX10_bestMan_0 0 rfl ?_
  refine k_callVI (n := 0) (As := []) (st := []) X [(h0, .inr (10, [v0h0, v1h0, .ref nw, v3h0, v4h0, v5h0, v6h0, v7h0, v8h0, v9h0])), (nw, .inr (7, [v0nw, v1nw, v2nw, .ref np, v4nw, v5nw])), (np, .inr (8, [v0np, v1np, v2np, .int 0]))] [] [0, 1, 2] [] (c_isOpen l g h0 v0h0 v1h0 nw v3h0 v4h0 v5h0 v6h0 v7h0 v8h0 v9h0 v0nw v1nw v2nw np v4nw v5nw v0np v1np v2np) dX10_bestMan_1 mw190 mw191 mw192 mw174 mw193 rfl 10 rfl rfl 0 _ rfl (by unfold yOk; decide) rfl (Nat.le_of_ble_eq_true rfl) (Nat.le_of_ble_eq_true rfl) (Nat.le_of_ble_eq_true rfl) (Nat.le_of_ble_eq_true rfl) (Nat.le_of_ble_eq_true rfl) rfl rfl (by decide) rfl (by decide) (by decide) ?_
  rintro r w ⟨rfl, rfl⟩
  refine k_ws [(h0, .inr (10, [v0h0, v1h0, .ref nw, v3h0, v4h0, v5h0, v6h0, v7h0, v8h0, v9h0])), (nw, .inr (7, [v0nw, v1nw, v2nw, .ref np, v4nw, v5nw])), (np, .inr (8, [v0np, v1np, v2np, .int 0]))] rfl ?_
  refine k_if_ne 13 X dX10_bestMan_4 (by decide) (fun h_1 => absurd h_1 (by decide)) (fun _ => ?_)
  refine k_aload_n X dX10_bestMan_7 0 rfl ?_
  refine k_iconst (v := 1) X dX10_bestMan_8 (by decide) ?_
  refine k_callVI (n := 1) (As := [.int 1]) (st := []) X [(h0, .inr (10, [v0h0, v1h0, .ref nw, v3h0, v4h0, v5h0, v6h0, v7h0, v8h0, v9h0]))] [(nw, .inr (7, [v0nw, v1nw, v2nw, .ref np, v4nw, v5nw])), (np, .inr (8, [v0np, v1np, v2np, .int 0]))] [0] [1, 2] (c_refuse l g h0 1 v0h0 v1h0 (.ref nw) v3h0 v4h0 v5h0 v6h0 v7h0 v8h0 v9h0) dX10_bestMan_9 mw176 mw177 mw178 mw174 mw179 rfl 10 rfl rfl 0 _ rfl (by unfold yOk; decide) rfl (Nat.le_of_ble_eq_true rfl) (Nat.le_of_ble_eq_true rfl) (Nat.le_of_ble_eq_true rfl) (Nat.le_of_ble_eq_true rfl) (Nat.le_of_ble_eq_true rfl) rfl rfl (by decide) rfl (by decide) (by decide) ?_
  rintro r w ⟨rfl, rfl⟩
  refine k_ws [(nw, .inr (7, [v0nw, v1nw, v2nw, .ref np, v4nw, v5nw])), (np, .inr (8, [v0np, v1np, v2np, .int 0]))] rfl ?_
  exact k_iret X hr dX10_bestMan_12 (Nat.le_of_ble_eq_true rfl) (Nat.le_of_ble_eq_true rfl) [] (by decide) rfl rfl ⟨rfl, rfl⟩

theorem dX10_image_0 : decode cX10_image 0 = .ok (.aload_n 0, 1) := by decide +kernel
theorem dX10_image_1 : decode cX10_image 1 = .ok (.invokevirtual 184, 3) := by decide +kernel
theorem dX10_image_4 : decode cX10_image 4 = .ok (.ifCond .ne 9, 3) := by decide +kernel
theorem dX10_image_7 : decode cX10_image 7 = .ok (.aload_n 0, 1) := by decide +kernel
theorem dX10_image_8 : decode cX10_image 8 = .ok (.iconst 1, 1) := by decide +kernel
theorem dX10_image_9 : decode cX10_image 9 = .ok (.invokevirtual 83, 3) := by decide +kernel
theorem dX10_image_12 : decode cX10_image 12 = .ok (.ireturn, 1) := by decide +kernel
set_option maxHeartbeats 4000000 in
set_option maxRecDepth 100000 in
theorem m_image (l : Launch) (g : Gx) (h0 : Nat) (v0h0 : Value) (v1h0 : Value) (nw : Nat) (v3h0 : Value) (v4h0 : Value) (v5h0 : Value) (v6h0 : Value) (v7h0 : Value) (v8h0 : Value) (v9h0 : Value) (v0nw : Value) (v1nw : Value) (v2nw : Value) (np : Nat) (v4nw : Value) (v5nw : Value) (v0np : Value) (v1np : Value) (v2np : Value) : cI l g yX10_image cX10_image 2 (some .int) 1 21 0 0 [.ref h0] [(h0, .inr (10, [v0h0, v1h0, .ref nw, v3h0, v4h0, v5h0, v6h0, v7h0, v8h0, v9h0])), (nw, .inr (7, [v0nw, v1nw, v2nw, .ref np, v4nw, v5nw])), (np, .inr (8, [v0np, v1np, v2np, .int 0]))] (fun r w => r = (-1) ∧ w = []) := by
  refine cI.of (by decide) (Nat.le_of_ble_eq_true rfl) ?_
  intro p e s m args below meth c A X hr hi
  refine k_lveq [(0, .ref h0)] rfl ?_
  refine k_aload_n X dX10_image_0 0 rfl ?_
  refine k_callVI (n := 0) (As := []) (st := []) X [(h0, .inr (10, [v0h0, v1h0, .ref nw, v3h0, v4h0, v5h0, v6h0, v7h0, v8h0, v9h0])), (nw, .inr (7, [v0nw, v1nw, v2nw, .ref np, v4nw, v5nw])), (np, .inr (8, [v0np, v1np, v2np, .int 0]))] [] [0, 1, 2] [] (c_isOpen l g h0 v0h0 v1h0 nw v3h0 v4h0 v5h0 v6h0 v7h0 v8h0 v9h0 v0nw v1nw v2nw np v4nw v5nw v0np v1np v2np) dX10_image_1 mw190 mw191 mw192 mw174 mw193 rfl 10 rfl rfl 0 _ rfl (by unfold yOk; decide) rfl (Nat.le_of_ble_eq_true rfl) (Nat.le_of_ble_eq_true rfl) (Nat.le_of_ble_eq_true rfl) (Nat.le_of_ble_eq_true rfl) (Nat.le_of_ble_eq_true rfl) rfl rfl (by decide) rfl (by decide) (by decide) ?_
  rintro r w ⟨rfl, rfl⟩
  refine k_ws [(h0, .inr (10, [v0h0, v1h0, .ref nw, v3h0, v4h0, v5h0, v6h0, v7h0, v8h0, v9h0])), (nw, .inr (7, [v0nw, v1nw, v2nw, .ref np, v4nw, v5nw])), (np, .inr (8, [v0np, v1np, v2np, .int 0]))] rfl ?_
  refine k_if_ne 13 X dX10_image_4 (by decide) (fun h_1 => absurd h_1 (by decide)) (fun _ => ?_)
  refine k_aload_n X dX10_image_7 0 rfl ?_
  refine k_iconst (v := 1) X dX10_image_8 (by decide) ?_
  refine k_callVI (n := 1) (As := [.int 1]) (st := []) X [(h0, .inr (10, [v0h0, v1h0, .ref nw, v3h0, v4h0, v5h0, v6h0, v7h0, v8h0, v9h0]))] [(nw, .inr (7, [v0nw, v1nw, v2nw, .ref np, v4nw, v5nw])), (np, .inr (8, [v0np, v1np, v2np, .int 0]))] [0] [1, 2] (c_refuse l g h0 1 v0h0 v1h0 (.ref nw) v3h0 v4h0 v5h0 v6h0 v7h0 v8h0 v9h0) dX10_image_9 mw176 mw177 mw178 mw174 mw179 rfl 10 rfl rfl 0 _ rfl (by unfold yOk; decide) rfl (Nat.le_of_ble_eq_true rfl) (Nat.le_of_ble_eq_true rfl) (Nat.le_of_ble_eq_true rfl) (Nat.le_of_ble_eq_true rfl) (Nat.le_of_ble_eq_true rfl) rfl rfl (by decide) rfl (by decide) (by decide) ?_
  rintro r w ⟨rfl, rfl⟩
  refine k_ws [(nw, .inr (7, [v0nw, v1nw, v2nw, .ref np, v4nw, v5nw])), (np, .inr (8, [v0np, v1np, v2np, .int 0]))] rfl ?_
  exact k_iret X hr dX10_image_12 (Nat.le_of_ble_eq_true rfl) (Nat.le_of_ble_eq_true rfl) [] (by decide) rfl rfl ⟨rfl, rfl⟩

theorem dX10_threads_0 : decode cX10_threads 0 = .ok (.aload_n 0, 1) := by decide +kernel
theorem dX10_threads_1 : decode cX10_threads 1 = .ok (.getfield 26, 3) := by decide +kernel
theorem dX10_threads_4 : decode cX10_threads 4 = .ok (.getfield 109, 3) := by decide +kernel
theorem dX10_threads_7 : decode cX10_threads 7 = .ok (.iload_n 1, 1) := by decide +kernel
theorem dX10_threads_8 : decode cX10_threads 8 = .ok (.invokevirtual 127, 3) := by decide +kernel
theorem dX10_threads_11 : decode cX10_threads 11 = .ok (.ifCond .ne 9, 3) := by decide +kernel
theorem dX10_threads_14 : decode cX10_threads 14 = .ok (.aload_n 0, 1) := by decide +kernel
theorem dX10_threads_15 : decode cX10_threads 15 = .ok (.iconst 1, 1) := by decide +kernel
theorem dX10_threads_16 : decode cX10_threads 16 = .ok (.invokevirtual 337, 3) := by decide +kernel
theorem dX10_threads_19 : decode cX10_threads 19 = .ok (.ireturn, 1) := by decide +kernel
set_option maxHeartbeats 4000000 in
set_option maxRecDepth 100000 in
theorem m_threads (l : Launch) (g : Gx) (h0 : Nat) (p0 : Int32) (p1 : Int32) (v0h0 : Value) (v1h0 : Value) (nw : Nat) (v3h0 : Value) (v4h0 : Value) (v5h0 : Value) (v6h0 : Value) (v7h0 : Value) (v8h0 : Value) (v9h0 : Value) (v0nw : Value) (v1nw : Value) (v2nw : Value) (np : Nat) (v4nw : Value) (v5nw : Value) (v0np : Value) (v1np : Value) (v2np : Value) : cI l g yX10_threads cX10_threads 3 (some .boolean) 1 21 0 0 [.ref h0, .int p0, .int p1] [(h0, .inr (10, [v0h0, v1h0, .ref nw, v3h0, v4h0, v5h0, v6h0, v7h0, v8h0, v9h0])), (nw, .inr (7, [v0nw, v1nw, v2nw, .ref np, v4nw, v5nw])), (np, .inr (8, [v0np, v1np, v2np, .int 0]))] (fun r w => r = 0 ∧ w = []) := by
  refine cI.of (by decide) (Nat.le_of_ble_eq_true rfl) ?_
  intro p e s m args below meth c A X hr hi
  refine k_lveq [(0, .ref h0), (1, .int p0), (2, .int p1)] rfl ?_
  refine k_aload_n X dX10_threads_0 0 rfl ?_
  refine k_get (ci := 10) X inlX10 rfl 2 (by decide) dX10_threads_1 mw128 0 rfl rfl ?_
  refine k_get (ci := 7) X inlX7 rfl 3 (by decide) dX10_threads_4 mw167 1 rfl rfl ?_
  refine k_iload_n X dX10_threads_7 1 rfl ?_
  refine k_callVI (n := 1) (As := [.int p0]) (st := []) X [(np, .inr (8, [v0np, v1np, v2np, .int 0]))] [(h0, .inr (10, [v0h0, v1h0, .ref nw, v3h0, v4h0, v5h0, v6h0, v7h0, v8h0, v9h0])), (nw, .inr (7, [v0nw, v1nw, v2nw, .ref np, v4nw, v5nw]))] [2] [0, 1] (c_T_has l g np p0 v0np v1np v2np) dX10_threads_8 mw170 mw30 mw31 mw15 mw32 rfl 8 rfl rfl 0 _ rfl (by unfold yOk; decide) rfl (Nat.le_of_ble_eq_true rfl) (Nat.le_of_ble_eq_true rfl) (Nat.le_of_ble_eq_true rfl) (Nat.le_of_ble_eq_true rfl) (Nat.le_of_ble_eq_true rfl) rfl rfl (by decide) rfl (by decide) (by decide) ?_
  rintro r w ⟨rfl, rfl⟩
  refine k_ws [(h0, .inr (10, [v0h0, v1h0, .ref nw, v3h0, v4h0, v5h0, v6h0, v7h0, v8h0, v9h0])), (nw, .inr (7, [v0nw, v1nw, v2nw, .ref np, v4nw, v5nw])), (np, .inr (8, [v0np, v1np, v2np, .int 0]))] rfl ?_
  refine k_if_ne 20 X dX10_threads_11 (by decide) (fun h_1 => absurd h_1 (by decide)) (fun _ => ?_)
  refine k_aload_n X dX10_threads_14 0 rfl ?_
  refine k_iconst (v := 1) X dX10_threads_15 (by decide) ?_
  refine k_callVI (n := 1) (As := [.int 1]) (st := []) X [(h0, .inr (10, [v0h0, v1h0, .ref nw, v3h0, v4h0, v5h0, v6h0, v7h0, v8h0, v9h0]))] [(nw, .inr (7, [v0nw, v1nw, v2nw, .ref np, v4nw, v5nw])), (np, .inr (8, [v0np, v1np, v2np, .int 0]))] [0] [1, 2] (c_refuseAct l g h0 1 v0h0 v1h0 (.ref nw) v3h0 v4h0 v5h0 v6h0 v7h0 v8h0 v9h0) dX10_threads_16 mw194 mw195 mw196 mw174 mw197 rfl 10 rfl rfl 0 _ rfl (by unfold yOk; decide) rfl (Nat.le_of_ble_eq_true rfl) (Nat.le_of_ble_eq_true rfl) (Nat.le_of_ble_eq_true rfl) (Nat.le_of_ble_eq_true rfl) (Nat.le_of_ble_eq_true rfl) rfl rfl (by decide) rfl (by decide) (by decide) ?_
  rintro r w ⟨rfl, rfl⟩
  refine k_ws [(nw, .inr (7, [v0nw, v1nw, v2nw, .ref np, v4nw, v5nw])), (np, .inr (8, [v0np, v1np, v2np, .int 0]))] rfl ?_
  exact k_zret X hr rfl dX10_threads_19 (Nat.le_of_ble_eq_true rfl) (Nat.le_of_ble_eq_true rfl) [] (by decide) rfl rfl ⟨rfl, rfl⟩

theorem dX10_trim_0 : decode cX10_trim 0 = .ok (.aload_n 0, 1) := by decide +kernel
theorem dX10_trim_1 : decode cX10_trim 1 = .ok (.getfield 26, 3) := by decide +kernel
theorem dX10_trim_4 : decode cX10_trim 4 = .ok (.getfield 109, 3) := by decide +kernel
theorem dX10_trim_7 : decode cX10_trim 7 = .ok (.iload_n 1, 1) := by decide +kernel
theorem dX10_trim_8 : decode cX10_trim 8 = .ok (.invokevirtual 127, 3) := by decide +kernel
theorem dX10_trim_11 : decode cX10_trim 11 = .ok (.ifCond .ne 9, 3) := by decide +kernel
theorem dX10_trim_14 : decode cX10_trim 14 = .ok (.aload_n 0, 1) := by decide +kernel
theorem dX10_trim_15 : decode cX10_trim 15 = .ok (.iconst 1, 1) := by decide +kernel
theorem dX10_trim_16 : decode cX10_trim 16 = .ok (.invokevirtual 337, 3) := by decide +kernel
theorem dX10_trim_19 : decode cX10_trim 19 = .ok (.ireturn, 1) := by decide +kernel
set_option maxHeartbeats 4000000 in
set_option maxRecDepth 100000 in
theorem m_trim (l : Launch) (g : Gx) (h0 : Nat) (p0 : Int32) (p1 : Int32) (v0h0 : Value) (v1h0 : Value) (nw : Nat) (v3h0 : Value) (v4h0 : Value) (v5h0 : Value) (v6h0 : Value) (v7h0 : Value) (v8h0 : Value) (v9h0 : Value) (v0nw : Value) (v1nw : Value) (v2nw : Value) (np : Nat) (v4nw : Value) (v5nw : Value) (v0np : Value) (v1np : Value) (v2np : Value) : cI l g yX10_trim cX10_trim 3 (some .boolean) 1 21 0 0 [.ref h0, .int p0, .int p1] [(h0, .inr (10, [v0h0, v1h0, .ref nw, v3h0, v4h0, v5h0, v6h0, v7h0, v8h0, v9h0])), (nw, .inr (7, [v0nw, v1nw, v2nw, .ref np, v4nw, v5nw])), (np, .inr (8, [v0np, v1np, v2np, .int 0]))] (fun r w => r = 0 ∧ w = []) := by
  refine cI.of (by decide) (Nat.le_of_ble_eq_true rfl) ?_
  intro p e s m args below meth c A X hr hi
  refine k_lveq [(0, .ref h0), (1, .int p0), (2, .int p1)] rfl ?_
  refine k_aload_n X dX10_trim_0 0 rfl ?_
  refine k_get (ci := 10) X inlX10 rfl 2 (by decide) dX10_trim_1 mw128 0 rfl rfl ?_
  refine k_get (ci := 7) X inlX7 rfl 3 (by decide) dX10_trim_4 mw167 1 rfl rfl ?_
  refine k_iload_n X dX10_trim_7 1 rfl ?_
  refine k_callVI (n := 1) (As := [.int p0]) (st := []) X [(np, .inr (8, [v0np, v1np, v2np, .int 0]))] [(h0, .inr (10, [v0h0, v1h0, .ref nw, v3h0, v4h0, v5h0, v6h0, v7h0, v8h0, v9h0])), (nw, .inr (7, [v0nw, v1nw, v2nw, .ref np, v4nw, v5nw]))] [2] [0, 1] (c_T_has l g np p0 v0np v1np v2np) dX10_trim_8 mw170 mw30 mw31 mw15 mw32 rfl 8 rfl rfl 0 _ rfl (by unfold yOk; decide) rfl (Nat.le_of_ble_eq_true rfl) (Nat.le_of_ble_eq_true rfl) (Nat.le_of_ble_eq_true rfl) (Nat.le_of_ble_eq_true rfl) (Nat.le_of_ble_eq_true rfl) rfl rfl (by decide) rfl (by decide) (by decide) ?_
  rintro r w ⟨rfl, rfl⟩
  refine k_ws [(h0, .inr (10, [v0h0, v1h0, .ref nw, v3h0, v4h0, v5h0, v6h0, v7h0, v8h0, v9h0])), (nw, .inr (7, [v0nw, v1nw, v2nw, .ref np, v4nw, v5nw])), (np, .inr (8, [v0np, v1np, v2np, .int 0]))] rfl ?_
  refine k_if_ne 20 X dX10_trim_11 (by decide) (fun h_1 => absurd h_1 (by decide)) (fun _ => ?_)
  refine k_aload_n X dX10_trim_14 0 rfl ?_
  refine k_iconst (v := 1) X dX10_trim_15 (by decide) ?_
  refine k_callVI (n := 1) (As := [.int 1]) (st := []) X [(h0, .inr (10, [v0h0, v1h0, .ref nw, v3h0, v4h0, v5h0, v6h0, v7h0, v8h0, v9h0]))] [(nw, .inr (7, [v0nw, v1nw, v2nw, .ref np, v4nw, v5nw])), (np, .inr (8, [v0np, v1np, v2np, .int 0]))] [0] [1, 2] (c_refuseAct l g h0 1 v0h0 v1h0 (.ref nw) v3h0 v4h0 v5h0 v6h0 v7h0 v8h0 v9h0) dX10_trim_16 mw194 mw195 mw196 mw174 mw197 rfl 10 rfl rfl 0 _ rfl (by unfold yOk; decide) rfl (Nat.le_of_ble_eq_true rfl) (Nat.le_of_ble_eq_true rfl) (Nat.le_of_ble_eq_true rfl) (Nat.le_of_ble_eq_true rfl) (Nat.le_of_ble_eq_true rfl) rfl rfl (by decide) rfl (by decide) (by decide) ?_
  rintro r w ⟨rfl, rfl⟩
  refine k_ws [(nw, .inr (7, [v0nw, v1nw, v2nw, .ref np, v4nw, v5nw])), (np, .inr (8, [v0np, v1np, v2np, .int 0]))] rfl ?_
  exact k_zret X hr rfl dX10_trim_19 (Nat.le_of_ble_eq_true rfl) (Nat.le_of_ble_eq_true rfl) [] (by decide) rfl rfl ⟨rfl, rfl⟩

theorem dX10_length_0 : decode cX10_length 0 = .ok (.aload_n 0, 1) := by decide +kernel
theorem dX10_length_1 : decode cX10_length 1 = .ok (.iload_n 1, 1) := by decide +kernel
theorem dX10_length_2 : decode cX10_length 2 = .ok (.invokevirtual 163, 3) := by decide +kernel
theorem dX10_length_5 : decode cX10_length 5 = .ok (.ifCond .eq 17, 3) := by decide +kernel
theorem dX10_length_22 : decode cX10_length 22 = .ok (.aload_n 0, 1) := by decide +kernel
theorem dX10_length_23 : decode cX10_length 23 = .ok (.iconst 1, 1) := by decide +kernel
theorem dX10_length_24 : decode cX10_length 24 = .ok (.invokevirtual 83, 3) := by decide +kernel
theorem dX10_length_27 : decode cX10_length 27 = .ok (.ireturn, 1) := by decide +kernel
set_option maxHeartbeats 4000000 in
set_option maxRecDepth 100000 in
theorem m_length (l : Launch) (g : Gx) (h0 : Nat) (p0 : Int32) (v0h0 : Value) (tl : Nat) (v2h0 : Value) (v3h0 : Value) (v4h0 : Value) (v5h0 : Value) (v6h0 : Value) (v7h0 : Value) (v8h0 : Value) (v9h0 : Value) (v0tl : Value) (v1tl : Value) (v2tl : Value) (v3tl : Value) (lm : Nat) (v5tl : Value) (v6tl : Value) (v7tl : Value) (v0lm : Value) (v1lm : Value) (v2lm : Value) : cI l g yX10_length cX10_length 2 (some .int) 2 42 0 0 [.ref h0, .int p0] [(h0, .inr (10, [v0h0, .ref tl, v2h0, v3h0, v4h0, v5h0, v6h0, v7h0, v8h0, v9h0])), (tl, .inr (3, [v0tl, v1tl, v2tl, v3tl, .ref lm, v5tl, v6tl, v7tl])), (lm, .inr (8, [v0lm, v1lm, v2lm, .int 0]))] (fun r w => r = (-1) ∧ w = []) := by
  refine cI.of (by decide) (Nat.le_of_ble_eq_true rfl) ?_
  intro p e s m args below meth c A X hr hi
  refine k_lveq [(0, .ref h0), (1, .int p0)] rfl ?_
  refine k_aload_n X dX10_length_0 0 rfl ?_
  refine k_iload_n X dX10_length_1 1 rfl ?_
  refine k_callVI (n := 1) (As := [.int p0]) (st := []) X [(h0, .inr (10, [v0h0, .ref tl, v2h0, v3h0, v4h0, v5h0, v6h0, v7h0, v8h0, v9h0])), (tl, .inr (3, [v0tl, v1tl, v2tl, v3tl, .ref lm, v5tl, v6tl, v7tl])), (lm, .inr (8, [v0lm, v1lm, v2lm, .int 0]))] [] [0, 1, 2] [] (c_runNight l g h0 p0 v0h0 tl v2h0 v3h0 v4h0 v5h0 v6h0 v7h0 v8h0 v9h0 v0tl v1tl v2tl v3tl lm v5tl v6tl v7tl v0lm v1lm v2lm) dX10_length_2 mw171 mw172 mw173 mw174 mw175 rfl 10 rfl rfl 0 _ rfl (by unfold yOk; decide) rfl (Nat.le_of_ble_eq_true rfl) (Nat.le_of_ble_eq_true rfl) (Nat.le_of_ble_eq_true rfl) (Nat.le_of_ble_eq_true rfl) (Nat.le_of_ble_eq_true rfl) rfl rfl (by decide) rfl (by decide) (by decide) ?_
  rintro r w ⟨rfl, rfl⟩
  refine k_ws [(h0, .inr (10, [v0h0, .ref tl, v2h0, v3h0, v4h0, v5h0, v6h0, v7h0, v8h0, v9h0])), (tl, .inr (3, [v0tl, v1tl, v2tl, v3tl, .ref lm, v5tl, v6tl, v7tl])), (lm, .inr (8, [v0lm, v1lm, v2lm, .int 0]))] rfl ?_
  refine k_if_eq 22 X dX10_length_5 (by decide) (fun _ => ?_) (fun h_1 => absurd (by decide) h_1)
  refine k_aload_n X dX10_length_22 0 rfl ?_
  refine k_iconst (v := 1) X dX10_length_23 (by decide) ?_
  refine k_callVI (n := 1) (As := [.int 1]) (st := []) X [(h0, .inr (10, [v0h0, .ref tl, v2h0, v3h0, v4h0, v5h0, v6h0, v7h0, v8h0, v9h0]))] [(tl, .inr (3, [v0tl, v1tl, v2tl, v3tl, .ref lm, v5tl, v6tl, v7tl])), (lm, .inr (8, [v0lm, v1lm, v2lm, .int 0]))] [0] [1, 2] (c_refuse l g h0 1 v0h0 (.ref tl) v2h0 v3h0 v4h0 v5h0 v6h0 v7h0 v8h0 v9h0) dX10_length_24 mw176 mw177 mw178 mw174 mw179 rfl 10 rfl rfl 0 _ rfl (by unfold yOk; decide) rfl (Nat.le_of_ble_eq_true rfl) (Nat.le_of_ble_eq_true rfl) (Nat.le_of_ble_eq_true rfl) (Nat.le_of_ble_eq_true rfl) (Nat.le_of_ble_eq_true rfl) rfl rfl (by decide) rfl (by decide) (by decide) ?_
  rintro r w ⟨rfl, rfl⟩
  refine k_ws [(tl, .inr (3, [v0tl, v1tl, v2tl, v3tl, .ref lm, v5tl, v6tl, v7tl])), (lm, .inr (8, [v0lm, v1lm, v2lm, .int 0]))] rfl ?_
  exact k_iret X hr dX10_length_27 (Nat.le_of_ble_eq_true rfl) (Nat.le_of_ble_eq_true rfl) [] (by decide) rfl rfl ⟨rfl, rfl⟩

theorem dX10_all_0 : decode cX10_all 0 = .ok (.iload_n 2, 1) := by decide +kernel
theorem dX10_all_1 : decode cX10_all 1 = .ok (.ifCond .lt 16, 3) := by decide +kernel
theorem dX10_all_4 : decode cX10_all 4 = .ok (.iload_n 2, 1) := by decide +kernel
theorem dX10_all_5 : decode cX10_all 5 = .ok (.iconst 3, 1) := by decide +kernel
theorem dX10_all_6 : decode cX10_all 6 = .ok (.if_icmp .gt 11, 3) := by decide +kernel
theorem dX10_all_9 : decode cX10_all 9 = .ok (.aload_n 0, 1) := by decide +kernel
theorem dX10_all_10 : decode cX10_all 10 = .ok (.iload_n 1, 1) := by decide +kernel
theorem dX10_all_11 : decode cX10_all 11 = .ok (.invokevirtual 163, 3) := by decide +kernel
theorem dX10_all_14 : decode cX10_all 14 = .ok (.ifCond .ne 9, 3) := by decide +kernel
theorem dX10_all_17 : decode cX10_all 17 = .ok (.aload_n 0, 1) := by decide +kernel
theorem dX10_all_18 : decode cX10_all 18 = .ok (.iconst 1, 1) := by decide +kernel
theorem dX10_all_19 : decode cX10_all 19 = .ok (.invokevirtual 83, 3) := by decide +kernel
theorem dX10_all_22 : decode cX10_all 22 = .ok (.ireturn, 1) := by decide +kernel
set_option maxHeartbeats 4000000 in
set_option maxRecDepth 100000 in
theorem m_all (l : Launch) (g : Gx) (h0 : Nat) (p0 : Int32) (p1 : Int32) (v0h0 : Value) (tl : Nat) (v2h0 : Value) (v3h0 : Value) (v4h0 : Value) (v5h0 : Value) (v6h0 : Value) (v7h0 : Value) (v8h0 : Value) (v9h0 : Value) (v0tl : Value) (v1tl : Value) (v2tl : Value) (v3tl : Value) (lm : Nat) (v5tl : Value) (v6tl : Value) (v7tl : Value) (v0lm : Value) (v1lm : Value) (v2lm : Value) : cI l g yX10_all cX10_all 3 (some .int) 2 42 0 0 [.ref h0, .int p0, .int p1] [(h0, .inr (10, [v0h0, .ref tl, v2h0, v3h0, v4h0, v5h0, v6h0, v7h0, v8h0, v9h0])), (tl, .inr (3, [v0tl, v1tl, v2tl, v3tl, .ref lm, v5tl, v6tl, v7tl])), (lm, .inr (8, [v0lm, v1lm, v2lm, .int 0]))] (fun r w => r = (-1) ∧ w = []) := by
  refine cI.of (by decide) (Nat.le_of_ble_eq_true rfl) ?_
  intro p e s m args below meth c A X hr hi
  refine k_lveq [(0, .ref h0), (1, .int p0), (2, .int p1)] rfl ?_
  refine k_iload_n X dX10_all_0 2 rfl ?_
  refine k_if_lt 17 X dX10_all_1 (by decide) (fun h_1 => ?_) (fun h_1 => ?_)
  · skip
    refine k_aload_n X dX10_all_17 0 rfl ?_
    refine k_iconst (v := 1) X dX10_all_18 (by decide) ?_
    refine k_callVI (n := 1) (As := [.int 1]) (st := []) X [(h0, .inr (10, [v0h0, .ref tl, v2h0, v3h0, v4h0, v5h0, v6h0, v7h0, v8h0, v9h0]))] [(tl, .inr (3, [v0tl, v1tl, v2tl, v3tl, .ref lm, v5tl, v6tl, v7tl])), (lm, .inr (8, [v0lm, v1lm, v2lm, .int 0]))] [0] [1, 2] (c_refuse l g h0 1 v0h0 (.ref tl) v2h0 v3h0 v4h0 v5h0 v6h0 v7h0 v8h0 v9h0) dX10_all_19 mw176 mw177 mw178 mw174 mw179 rfl 10 rfl rfl 0 _ rfl (by unfold yOk; decide) rfl (Nat.le_of_ble_eq_true rfl) (Nat.le_of_ble_eq_true rfl) (Nat.le_of_ble_eq_true rfl) (Nat.le_of_ble_eq_true rfl) (Nat.le_of_ble_eq_true rfl) rfl rfl (by decide) rfl (by decide) (by decide) ?_
    rintro r w ⟨rfl, rfl⟩
    refine k_ws [(tl, .inr (3, [v0tl, v1tl, v2tl, v3tl, .ref lm, v5tl, v6tl, v7tl])), (lm, .inr (8, [v0lm, v1lm, v2lm, .int 0]))] rfl ?_
    exact k_iret X hr dX10_all_22 (Nat.le_of_ble_eq_true rfl) (Nat.le_of_ble_eq_true rfl) [] (by decide) rfl rfl ⟨rfl, rfl⟩
  · skip
    refine k_iload_n X dX10_all_4 2 rfl ?_
    refine k_iconst (v := 3) X dX10_all_5 (by decide) ?_
    refine k_ic_gt 17 X dX10_all_6 (by decide) (fun h_2 => ?_) (fun h_2 => ?_)
    · skip
      refine k_aload_n X dX10_all_17 0 rfl ?_
      refine k_iconst (v := 1) X dX10_all_18 (by decide) ?_
      refine k_callVI (n := 1) (As := [.int 1]) (st := []) X [(h0, .inr (10, [v0h0, .ref tl, v2h0, v3h0, v4h0, v5h0, v6h0, v7h0, v8h0, v9h0]))] [(tl, .inr (3, [v0tl, v1tl, v2tl, v3tl, .ref lm, v5tl, v6tl, v7tl])), (lm, .inr (8, [v0lm, v1lm, v2lm, .int 0]))] [0] [1, 2] (c_refuse l g h0 1 v0h0 (.ref tl) v2h0 v3h0 v4h0 v5h0 v6h0 v7h0 v8h0 v9h0) dX10_all_19 mw176 mw177 mw178 mw174 mw179 rfl 10 rfl rfl 0 _ rfl (by unfold yOk; decide) rfl (Nat.le_of_ble_eq_true rfl) (Nat.le_of_ble_eq_true rfl) (Nat.le_of_ble_eq_true rfl) (Nat.le_of_ble_eq_true rfl) (Nat.le_of_ble_eq_true rfl) rfl rfl (by decide) rfl (by decide) (by decide) ?_
      rintro r w ⟨rfl, rfl⟩
      refine k_ws [(tl, .inr (3, [v0tl, v1tl, v2tl, v3tl, .ref lm, v5tl, v6tl, v7tl])), (lm, .inr (8, [v0lm, v1lm, v2lm, .int 0]))] rfl ?_
      exact k_iret X hr dX10_all_22 (Nat.le_of_ble_eq_true rfl) (Nat.le_of_ble_eq_true rfl) [] (by decide) rfl rfl ⟨rfl, rfl⟩
    · skip
      refine k_aload_n X dX10_all_9 0 rfl ?_
      refine k_iload_n X dX10_all_10 1 rfl ?_
      refine k_callVI (n := 1) (As := [.int p0]) (st := []) X [(h0, .inr (10, [v0h0, .ref tl, v2h0, v3h0, v4h0, v5h0, v6h0, v7h0, v8h0, v9h0])), (tl, .inr (3, [v0tl, v1tl, v2tl, v3tl, .ref lm, v5tl, v6tl, v7tl])), (lm, .inr (8, [v0lm, v1lm, v2lm, .int 0]))] [] [0, 1, 2] [] (c_runNight l g h0 p0 v0h0 tl v2h0 v3h0 v4h0 v5h0 v6h0 v7h0 v8h0 v9h0 v0tl v1tl v2tl v3tl lm v5tl v6tl v7tl v0lm v1lm v2lm) dX10_all_11 mw171 mw172 mw173 mw174 mw175 rfl 10 rfl rfl 0 _ rfl (by unfold yOk; decide) rfl (Nat.le_of_ble_eq_true rfl) (Nat.le_of_ble_eq_true rfl) (Nat.le_of_ble_eq_true rfl) (Nat.le_of_ble_eq_true rfl) (Nat.le_of_ble_eq_true rfl) rfl rfl (by decide) rfl (by decide) (by decide) ?_
      rintro r w ⟨rfl, rfl⟩
      refine k_ws [(h0, .inr (10, [v0h0, .ref tl, v2h0, v3h0, v4h0, v5h0, v6h0, v7h0, v8h0, v9h0])), (tl, .inr (3, [v0tl, v1tl, v2tl, v3tl, .ref lm, v5tl, v6tl, v7tl])), (lm, .inr (8, [v0lm, v1lm, v2lm, .int 0]))] rfl ?_
      refine k_if_ne 23 X dX10_all_14 (by decide) (fun h_3 => absurd h_3 (by decide)) (fun _ => ?_)
      refine k_aload_n X dX10_all_17 0 rfl ?_
      refine k_iconst (v := 1) X dX10_all_18 (by decide) ?_
      refine k_callVI (n := 1) (As := [.int 1]) (st := []) X [(h0, .inr (10, [v0h0, .ref tl, v2h0, v3h0, v4h0, v5h0, v6h0, v7h0, v8h0, v9h0]))] [(tl, .inr (3, [v0tl, v1tl, v2tl, v3tl, .ref lm, v5tl, v6tl, v7tl])), (lm, .inr (8, [v0lm, v1lm, v2lm, .int 0]))] [0] [1, 2] (c_refuse l g h0 1 v0h0 (.ref tl) v2h0 v3h0 v4h0 v5h0 v6h0 v7h0 v8h0 v9h0) dX10_all_19 mw176 mw177 mw178 mw174 mw179 rfl 10 rfl rfl 0 _ rfl (by unfold yOk; decide) rfl (Nat.le_of_ble_eq_true rfl) (Nat.le_of_ble_eq_true rfl) (Nat.le_of_ble_eq_true rfl) (Nat.le_of_ble_eq_true rfl) (Nat.le_of_ble_eq_true rfl) rfl rfl (by decide) rfl (by decide) (by decide) ?_
      rintro r w ⟨rfl, rfl⟩
      refine k_ws [(tl, .inr (3, [v0tl, v1tl, v2tl, v3tl, .ref lm, v5tl, v6tl, v7tl])), (lm, .inr (8, [v0lm, v1lm, v2lm, .int 0]))] rfl ?_
      exact k_iret X hr dX10_all_22 (Nat.le_of_ble_eq_true rfl) (Nat.le_of_ble_eq_true rfl) [] (by decide) rfl rfl ⟨rfl, rfl⟩

theorem dX10_worst_0 : decode cX10_worst 0 = .ok (.aload_n 0, 1) := by decide +kernel
theorem dX10_worst_1 : decode cX10_worst 1 = .ok (.iload_n 1, 1) := by decide +kernel
theorem dX10_worst_2 : decode cX10_worst 2 = .ok (.invokevirtual 163, 3) := by decide +kernel
theorem dX10_worst_5 : decode cX10_worst 5 = .ok (.ifCond .eq 17, 3) := by decide +kernel
theorem dX10_worst_22 : decode cX10_worst 22 = .ok (.aload_n 0, 1) := by decide +kernel
theorem dX10_worst_23 : decode cX10_worst 23 = .ok (.iconst 1, 1) := by decide +kernel
theorem dX10_worst_24 : decode cX10_worst 24 = .ok (.invokevirtual 83, 3) := by decide +kernel
theorem dX10_worst_27 : decode cX10_worst 27 = .ok (.ireturn, 1) := by decide +kernel
set_option maxHeartbeats 4000000 in
set_option maxRecDepth 100000 in
theorem m_worst (l : Launch) (g : Gx) (h0 : Nat) (p0 : Int32) (v0h0 : Value) (tl : Nat) (v2h0 : Value) (v3h0 : Value) (v4h0 : Value) (v5h0 : Value) (v6h0 : Value) (v7h0 : Value) (v8h0 : Value) (v9h0 : Value) (v0tl : Value) (v1tl : Value) (v2tl : Value) (v3tl : Value) (lm : Nat) (v5tl : Value) (v6tl : Value) (v7tl : Value) (v0lm : Value) (v1lm : Value) (v2lm : Value) : cI l g yX10_worst cX10_worst 2 (some .int) 2 42 0 0 [.ref h0, .int p0] [(h0, .inr (10, [v0h0, .ref tl, v2h0, v3h0, v4h0, v5h0, v6h0, v7h0, v8h0, v9h0])), (tl, .inr (3, [v0tl, v1tl, v2tl, v3tl, .ref lm, v5tl, v6tl, v7tl])), (lm, .inr (8, [v0lm, v1lm, v2lm, .int 0]))] (fun r w => r = (-1) ∧ w = []) := by
  refine cI.of (by decide) (Nat.le_of_ble_eq_true rfl) ?_
  intro p e s m args below meth c A X hr hi
  refine k_lveq [(0, .ref h0), (1, .int p0)] rfl ?_
  refine k_aload_n X dX10_worst_0 0 rfl ?_
  refine k_iload_n X dX10_worst_1 1 rfl ?_
  refine k_callVI (n := 1) (As := [.int p0]) (st := []) X [(h0, .inr (10, [v0h0, .ref tl, v2h0, v3h0, v4h0, v5h0, v6h0, v7h0, v8h0, v9h0])), (tl, .inr (3, [v0tl, v1tl, v2tl, v3tl, .ref lm, v5tl, v6tl, v7tl])), (lm, .inr (8, [v0lm, v1lm, v2lm, .int 0]))] [] [0, 1, 2] [] (c_runNight l g h0 p0 v0h0 tl v2h0 v3h0 v4h0 v5h0 v6h0 v7h0 v8h0 v9h0 v0tl v1tl v2tl v3tl lm v5tl v6tl v7tl v0lm v1lm v2lm) dX10_worst_2 mw171 mw172 mw173 mw174 mw175 rfl 10 rfl rfl 0 _ rfl (by unfold yOk; decide) rfl (Nat.le_of_ble_eq_true rfl) (Nat.le_of_ble_eq_true rfl) (Nat.le_of_ble_eq_true rfl) (Nat.le_of_ble_eq_true rfl) (Nat.le_of_ble_eq_true rfl) rfl rfl (by decide) rfl (by decide) (by decide) ?_
  rintro r w ⟨rfl, rfl⟩
  refine k_ws [(h0, .inr (10, [v0h0, .ref tl, v2h0, v3h0, v4h0, v5h0, v6h0, v7h0, v8h0, v9h0])), (tl, .inr (3, [v0tl, v1tl, v2tl, v3tl, .ref lm, v5tl, v6tl, v7tl])), (lm, .inr (8, [v0lm, v1lm, v2lm, .int 0]))] rfl ?_
  refine k_if_eq 22 X dX10_worst_5 (by decide) (fun _ => ?_) (fun h_1 => absurd (by decide) h_1)
  refine k_aload_n X dX10_worst_22 0 rfl ?_
  refine k_iconst (v := 1) X dX10_worst_23 (by decide) ?_
  refine k_callVI (n := 1) (As := [.int 1]) (st := []) X [(h0, .inr (10, [v0h0, .ref tl, v2h0, v3h0, v4h0, v5h0, v6h0, v7h0, v8h0, v9h0]))] [(tl, .inr (3, [v0tl, v1tl, v2tl, v3tl, .ref lm, v5tl, v6tl, v7tl])), (lm, .inr (8, [v0lm, v1lm, v2lm, .int 0]))] [0] [1, 2] (c_refuse l g h0 1 v0h0 (.ref tl) v2h0 v3h0 v4h0 v5h0 v6h0 v7h0 v8h0 v9h0) dX10_worst_24 mw176 mw177 mw178 mw174 mw179 rfl 10 rfl rfl 0 _ rfl (by unfold yOk; decide) rfl (Nat.le_of_ble_eq_true rfl) (Nat.le_of_ble_eq_true rfl) (Nat.le_of_ble_eq_true rfl) (Nat.le_of_ble_eq_true rfl) (Nat.le_of_ble_eq_true rfl) rfl rfl (by decide) rfl (by decide) (by decide) ?_
  rintro r w ⟨rfl, rfl⟩
  refine k_ws [(tl, .inr (3, [v0tl, v1tl, v2tl, v3tl, .ref lm, v5tl, v6tl, v7tl])), (lm, .inr (8, [v0lm, v1lm, v2lm, .int 0]))] rfl ?_
  exact k_iret X hr dX10_worst_27 (Nat.le_of_ble_eq_true rfl) (Nat.le_of_ble_eq_true rfl) [] (by decide) rfl rfl ⟨rfl, rfl⟩

theorem dX10_signs_0 : decode cX10_signs 0 = .ok (.aload_n 0, 1) := by decide +kernel
theorem dX10_signs_1 : decode cX10_signs 1 = .ok (.iload_n 1, 1) := by decide +kernel
theorem dX10_signs_2 : decode cX10_signs 2 = .ok (.invokevirtual 163, 3) := by decide +kernel
theorem dX10_signs_5 : decode cX10_signs 5 = .ok (.ifCond .eq 21, 3) := by decide +kernel
theorem dX10_signs_26 : decode cX10_signs 26 = .ok (.aload_n 0, 1) := by decide +kernel
theorem dX10_signs_27 : decode cX10_signs 27 = .ok (.iconst 1, 1) := by decide +kernel
theorem dX10_signs_28 : decode cX10_signs 28 = .ok (.invokevirtual 83, 3) := by decide +kernel
theorem dX10_signs_31 : decode cX10_signs 31 = .ok (.ireturn, 1) := by decide +kernel
set_option maxHeartbeats 4000000 in
set_option maxRecDepth 100000 in
theorem m_signs (l : Launch) (g : Gx) (h0 : Nat) (p0 : Int32) (v0h0 : Value) (tl : Nat) (v2h0 : Value) (v3h0 : Value) (v4h0 : Value) (v5h0 : Value) (v6h0 : Value) (v7h0 : Value) (v8h0 : Value) (v9h0 : Value) (v0tl : Value) (v1tl : Value) (v2tl : Value) (v3tl : Value) (lm : Nat) (v5tl : Value) (v6tl : Value) (v7tl : Value) (v0lm : Value) (v1lm : Value) (v2lm : Value) : cI l g yX10_signs cX10_signs 2 (some .int) 2 42 0 0 [.ref h0, .int p0] [(h0, .inr (10, [v0h0, .ref tl, v2h0, v3h0, v4h0, v5h0, v6h0, v7h0, v8h0, v9h0])), (tl, .inr (3, [v0tl, v1tl, v2tl, v3tl, .ref lm, v5tl, v6tl, v7tl])), (lm, .inr (8, [v0lm, v1lm, v2lm, .int 0]))] (fun r w => r = (-1) ∧ w = []) := by
  refine cI.of (by decide) (Nat.le_of_ble_eq_true rfl) ?_
  intro p e s m args below meth c A X hr hi
  refine k_lveq [(0, .ref h0), (1, .int p0)] rfl ?_
  refine k_aload_n X dX10_signs_0 0 rfl ?_
  refine k_iload_n X dX10_signs_1 1 rfl ?_
  refine k_callVI (n := 1) (As := [.int p0]) (st := []) X [(h0, .inr (10, [v0h0, .ref tl, v2h0, v3h0, v4h0, v5h0, v6h0, v7h0, v8h0, v9h0])), (tl, .inr (3, [v0tl, v1tl, v2tl, v3tl, .ref lm, v5tl, v6tl, v7tl])), (lm, .inr (8, [v0lm, v1lm, v2lm, .int 0]))] [] [0, 1, 2] [] (c_runNight l g h0 p0 v0h0 tl v2h0 v3h0 v4h0 v5h0 v6h0 v7h0 v8h0 v9h0 v0tl v1tl v2tl v3tl lm v5tl v6tl v7tl v0lm v1lm v2lm) dX10_signs_2 mw171 mw172 mw173 mw174 mw175 rfl 10 rfl rfl 0 _ rfl (by unfold yOk; decide) rfl (Nat.le_of_ble_eq_true rfl) (Nat.le_of_ble_eq_true rfl) (Nat.le_of_ble_eq_true rfl) (Nat.le_of_ble_eq_true rfl) (Nat.le_of_ble_eq_true rfl) rfl rfl (by decide) rfl (by decide) (by decide) ?_
  rintro r w ⟨rfl, rfl⟩
  refine k_ws [(h0, .inr (10, [v0h0, .ref tl, v2h0, v3h0, v4h0, v5h0, v6h0, v7h0, v8h0, v9h0])), (tl, .inr (3, [v0tl, v1tl, v2tl, v3tl, .ref lm, v5tl, v6tl, v7tl])), (lm, .inr (8, [v0lm, v1lm, v2lm, .int 0]))] rfl ?_
  refine k_if_eq 26 X dX10_signs_5 (by decide) (fun _ => ?_) (fun h_1 => absurd (by decide) h_1)
  refine k_aload_n X dX10_signs_26 0 rfl ?_
  refine k_iconst (v := 1) X dX10_signs_27 (by decide) ?_
  refine k_callVI (n := 1) (As := [.int 1]) (st := []) X [(h0, .inr (10, [v0h0, .ref tl, v2h0, v3h0, v4h0, v5h0, v6h0, v7h0, v8h0, v9h0]))] [(tl, .inr (3, [v0tl, v1tl, v2tl, v3tl, .ref lm, v5tl, v6tl, v7tl])), (lm, .inr (8, [v0lm, v1lm, v2lm, .int 0]))] [0] [1, 2] (c_refuse l g h0 1 v0h0 (.ref tl) v2h0 v3h0 v4h0 v5h0 v6h0 v7h0 v8h0 v9h0) dX10_signs_28 mw176 mw177 mw178 mw174 mw179 rfl 10 rfl rfl 0 _ rfl (by unfold yOk; decide) rfl (Nat.le_of_ble_eq_true rfl) (Nat.le_of_ble_eq_true rfl) (Nat.le_of_ble_eq_true rfl) (Nat.le_of_ble_eq_true rfl) (Nat.le_of_ble_eq_true rfl) rfl rfl (by decide) rfl (by decide) (by decide) ?_
  rintro r w ⟨rfl, rfl⟩
  refine k_ws [(tl, .inr (3, [v0tl, v1tl, v2tl, v3tl, .ref lm, v5tl, v6tl, v7tl])), (lm, .inr (8, [v0lm, v1lm, v2lm, .int 0]))] rfl ?_
  exact k_iret X hr dX10_signs_31 (Nat.le_of_ble_eq_true rfl) (Nat.le_of_ble_eq_true rfl) [] (by decide) rfl rfl ⟨rfl, rfl⟩

theorem dX10_bestSlip_0 : decode cX10_bestSlip 0 = .ok (.aload_n 0, 1) := by decide +kernel
theorem dX10_bestSlip_1 : decode cX10_bestSlip 1 = .ok (.getfield 19, 3) := by decide +kernel
theorem dX10_bestSlip_4 : decode cX10_bestSlip 4 = .ok (.getfield 191, 3) := by decide +kernel
theorem dX10_bestSlip_7 : decode cX10_bestSlip 7 = .ok (.iload_n 1, 1) := by decide +kernel
theorem dX10_bestSlip_8 : decode cX10_bestSlip 8 = .ok (.invokevirtual 127, 3) := by decide +kernel
theorem dX10_bestSlip_11 : decode cX10_bestSlip 11 = .ok (.ifCond .eq 15, 3) := by decide +kernel
theorem dX10_bestSlip_26 : decode cX10_bestSlip 26 = .ok (.aload_n 0, 1) := by decide +kernel
theorem dX10_bestSlip_27 : decode cX10_bestSlip 27 = .ok (.iconst 1, 1) := by decide +kernel
theorem dX10_bestSlip_28 : decode cX10_bestSlip 28 = .ok (.invokevirtual 83, 3) := by decide +kernel
theorem dX10_bestSlip_31 : decode cX10_bestSlip 31 = .ok (.ireturn, 1) := by decide +kernel
set_option maxHeartbeats 4000000 in
set_option maxRecDepth 100000 in
theorem m_bestSlip (l : Launch) (g : Gx) (h0 : Nat) (p0 : Int32) (v0h0 : Value) (tl : Nat) (v2h0 : Value) (v3h0 : Value) (v4h0 : Value) (v5h0 : Value) (v6h0 : Value) (v7h0 : Value) (v8h0 : Value) (v9h0 : Value) (v0tl : Value) (v1tl : Value) (v2tl : Value) (v3tl : Value) (lm : Nat) (v5tl : Value) (v6tl : Value) (v7tl : Value) (v0lm : Value) (v1lm : Value) (v2lm : Value) : cI l g yX10_bestSlip cX10_bestSlip 2 (some .int) 1 21 0 0 [.ref h0, .int p0] [(h0, .inr (10, [v0h0, .ref tl, v2h0, v3h0, v4h0, v5h0, v6h0, v7h0, v8h0, v9h0])), (tl, .inr (3, [v0tl, v1tl, v2tl, v3tl, .ref lm, v5tl, v6tl, v7tl])), (lm, .inr (8, [v0lm, v1lm, v2lm, .int 0]))] (fun r w => r = (-1) ∧ w = []) := by
  refine cI.of (by decide) (Nat.le_of_ble_eq_true rfl) ?_
  intro p e s m args below meth c A X hr hi
  refine k_lveq [(0, .ref h0), (1, .int p0)] rfl ?_
  refine k_aload_n X dX10_bestSlip_0 0 rfl ?_
  refine k_get (ci := 10) X inlX10 rfl 1 (by decide) dX10_bestSlip_1 mw126 0 rfl rfl ?_
  refine k_get (ci := 3) X inlX3 rfl 4 (by decide) dX10_bestSlip_4 mw169 1 rfl rfl ?_
  refine k_iload_n X dX10_bestSlip_7 1 rfl ?_
  refine k_callVI (n := 1) (As := [.int p0]) (st := []) X [(lm, .inr (8, [v0lm, v1lm, v2lm, .int 0]))] [(h0, .inr (10, [v0h0, .ref tl, v2h0, v3h0, v4h0, v5h0, v6h0, v7h0, v8h0, v9h0])), (tl, .inr (3, [v0tl, v1tl, v2tl, v3tl, .ref lm, v5tl, v6tl, v7tl]))] [2] [0, 1] (c_T_has l g lm p0 v0lm v1lm v2lm) dX10_bestSlip_8 mw170 mw30 mw31 mw15 mw32 rfl 8 rfl rfl 0 _ rfl (by unfold yOk; decide) rfl (Nat.le_of_ble_eq_true rfl) (Nat.le_of_ble_eq_true rfl) (Nat.le_of_ble_eq_true rfl) (Nat.le_of_ble_eq_true rfl) (Nat.le_of_ble_eq_true rfl) rfl rfl (by decide) rfl (by decide) (by decide) ?_
  rintro r w ⟨rfl, rfl⟩
  refine k_ws [(h0, .inr (10, [v0h0, .ref tl, v2h0, v3h0, v4h0, v5h0, v6h0, v7h0, v8h0, v9h0])), (tl, .inr (3, [v0tl, v1tl, v2tl, v3tl, .ref lm, v5tl, v6tl, v7tl])), (lm, .inr (8, [v0lm, v1lm, v2lm, .int 0]))] rfl ?_
  refine k_if_eq 26 X dX10_bestSlip_11 (by decide) (fun _ => ?_) (fun h_1 => absurd (by decide) h_1)
  refine k_aload_n X dX10_bestSlip_26 0 rfl ?_
  refine k_iconst (v := 1) X dX10_bestSlip_27 (by decide) ?_
  refine k_callVI (n := 1) (As := [.int 1]) (st := []) X [(h0, .inr (10, [v0h0, .ref tl, v2h0, v3h0, v4h0, v5h0, v6h0, v7h0, v8h0, v9h0]))] [(tl, .inr (3, [v0tl, v1tl, v2tl, v3tl, .ref lm, v5tl, v6tl, v7tl])), (lm, .inr (8, [v0lm, v1lm, v2lm, .int 0]))] [0] [1, 2] (c_refuse l g h0 1 v0h0 (.ref tl) v2h0 v3h0 v4h0 v5h0 v6h0 v7h0 v8h0 v9h0) dX10_bestSlip_28 mw176 mw177 mw178 mw174 mw179 rfl 10 rfl rfl 0 _ rfl (by unfold yOk; decide) rfl (Nat.le_of_ble_eq_true rfl) (Nat.le_of_ble_eq_true rfl) (Nat.le_of_ble_eq_true rfl) (Nat.le_of_ble_eq_true rfl) (Nat.le_of_ble_eq_true rfl) rfl rfl (by decide) rfl (by decide) (by decide) ?_
  rintro r w ⟨rfl, rfl⟩
  refine k_ws [(tl, .inr (3, [v0tl, v1tl, v2tl, v3tl, .ref lm, v5tl, v6tl, v7tl])), (lm, .inr (8, [v0lm, v1lm, v2lm, .int 0]))] rfl ?_
  exact k_iret X hr dX10_bestSlip_31 (Nat.le_of_ble_eq_true rfl) (Nat.le_of_ble_eq_true rfl) [] (by decide) rfl rfl ⟨rfl, rfl⟩

theorem dX10_bySlip_0 : decode cX10_bySlip 0 = .ok (.aload_n 0, 1) := by decide +kernel
theorem dX10_bySlip_1 : decode cX10_bySlip 1 = .ok (.getfield 19, 3) := by decide +kernel
theorem dX10_bySlip_4 : decode cX10_bySlip 4 = .ok (.getfield 191, 3) := by decide +kernel
theorem dX10_bySlip_7 : decode cX10_bySlip 7 = .ok (.iload_n 1, 1) := by decide +kernel
theorem dX10_bySlip_8 : decode cX10_bySlip 8 = .ok (.invokevirtual 127, 3) := by decide +kernel
theorem dX10_bySlip_11 : decode cX10_bySlip 11 = .ok (.ifCond .ne 9, 3) := by decide +kernel
theorem dX10_bySlip_14 : decode cX10_bySlip 14 = .ok (.aload_n 0, 1) := by decide +kernel
theorem dX10_bySlip_15 : decode cX10_bySlip 15 = .ok (.iconst 1, 1) := by decide +kernel
theorem dX10_bySlip_16 : decode cX10_bySlip 16 = .ok (.invokevirtual 83, 3) := by decide +kernel
theorem dX10_bySlip_19 : decode cX10_bySlip 19 = .ok (.ireturn, 1) := by decide +kernel
set_option maxHeartbeats 4000000 in
set_option maxRecDepth 100000 in
theorem m_bySlip (l : Launch) (g : Gx) (h0 : Nat) (p0 : Int32) (v0h0 : Value) (tl : Nat) (v2h0 : Value) (v3h0 : Value) (v4h0 : Value) (v5h0 : Value) (v6h0 : Value) (v7h0 : Value) (v8h0 : Value) (v9h0 : Value) (v0tl : Value) (v1tl : Value) (v2tl : Value) (v3tl : Value) (lm : Nat) (v5tl : Value) (v6tl : Value) (v7tl : Value) (v0lm : Value) (v1lm : Value) (v2lm : Value) : cI l g yX10_bySlip cX10_bySlip 2 (some .int) 1 21 0 0 [.ref h0, .int p0] [(h0, .inr (10, [v0h0, .ref tl, v2h0, v3h0, v4h0, v5h0, v6h0, v7h0, v8h0, v9h0])), (tl, .inr (3, [v0tl, v1tl, v2tl, v3tl, .ref lm, v5tl, v6tl, v7tl])), (lm, .inr (8, [v0lm, v1lm, v2lm, .int 0]))] (fun r w => r = (-1) ∧ w = []) := by
  refine cI.of (by decide) (Nat.le_of_ble_eq_true rfl) ?_
  intro p e s m args below meth c A X hr hi
  refine k_lveq [(0, .ref h0), (1, .int p0)] rfl ?_
  refine k_aload_n X dX10_bySlip_0 0 rfl ?_
  refine k_get (ci := 10) X inlX10 rfl 1 (by decide) dX10_bySlip_1 mw126 0 rfl rfl ?_
  refine k_get (ci := 3) X inlX3 rfl 4 (by decide) dX10_bySlip_4 mw169 1 rfl rfl ?_
  refine k_iload_n X dX10_bySlip_7 1 rfl ?_
  refine k_callVI (n := 1) (As := [.int p0]) (st := []) X [(lm, .inr (8, [v0lm, v1lm, v2lm, .int 0]))] [(h0, .inr (10, [v0h0, .ref tl, v2h0, v3h0, v4h0, v5h0, v6h0, v7h0, v8h0, v9h0])), (tl, .inr (3, [v0tl, v1tl, v2tl, v3tl, .ref lm, v5tl, v6tl, v7tl]))] [2] [0, 1] (c_T_has l g lm p0 v0lm v1lm v2lm) dX10_bySlip_8 mw170 mw30 mw31 mw15 mw32 rfl 8 rfl rfl 0 _ rfl (by unfold yOk; decide) rfl (Nat.le_of_ble_eq_true rfl) (Nat.le_of_ble_eq_true rfl) (Nat.le_of_ble_eq_true rfl) (Nat.le_of_ble_eq_true rfl) (Nat.le_of_ble_eq_true rfl) rfl rfl (by decide) rfl (by decide) (by decide) ?_
  rintro r w ⟨rfl, rfl⟩
  refine k_ws [(h0, .inr (10, [v0h0, .ref tl, v2h0, v3h0, v4h0, v5h0, v6h0, v7h0, v8h0, v9h0])), (tl, .inr (3, [v0tl, v1tl, v2tl, v3tl, .ref lm, v5tl, v6tl, v7tl])), (lm, .inr (8, [v0lm, v1lm, v2lm, .int 0]))] rfl ?_
  refine k_if_ne 20 X dX10_bySlip_11 (by decide) (fun h_1 => absurd h_1 (by decide)) (fun _ => ?_)
  refine k_aload_n X dX10_bySlip_14 0 rfl ?_
  refine k_iconst (v := 1) X dX10_bySlip_15 (by decide) ?_
  refine k_callVI (n := 1) (As := [.int 1]) (st := []) X [(h0, .inr (10, [v0h0, .ref tl, v2h0, v3h0, v4h0, v5h0, v6h0, v7h0, v8h0, v9h0]))] [(tl, .inr (3, [v0tl, v1tl, v2tl, v3tl, .ref lm, v5tl, v6tl, v7tl])), (lm, .inr (8, [v0lm, v1lm, v2lm, .int 0]))] [0] [1, 2] (c_refuse l g h0 1 v0h0 (.ref tl) v2h0 v3h0 v4h0 v5h0 v6h0 v7h0 v8h0 v9h0) dX10_bySlip_16 mw176 mw177 mw178 mw174 mw179 rfl 10 rfl rfl 0 _ rfl (by unfold yOk; decide) rfl (Nat.le_of_ble_eq_true rfl) (Nat.le_of_ble_eq_true rfl) (Nat.le_of_ble_eq_true rfl) (Nat.le_of_ble_eq_true rfl) (Nat.le_of_ble_eq_true rfl) rfl rfl (by decide) rfl (by decide) (by decide) ?_
  rintro r w ⟨rfl, rfl⟩
  refine k_ws [(tl, .inr (3, [v0tl, v1tl, v2tl, v3tl, .ref lm, v5tl, v6tl, v7tl])), (lm, .inr (8, [v0lm, v1lm, v2lm, .int 0]))] rfl ?_
  exact k_iret X hr dX10_bySlip_19 (Nat.le_of_ble_eq_true rfl) (Nat.le_of_ble_eq_true rfl) [] (by decide) rfl rfl ⟨rfl, rfl⟩

theorem dX10_firstDies_0 : decode cX10_firstDies 0 = .ok (.aload_n 0, 1) := by decide +kernel
theorem dX10_firstDies_1 : decode cX10_firstDies 1 = .ok (.iload_n 1, 1) := by decide +kernel
theorem dX10_firstDies_2 : decode cX10_firstDies 2 = .ok (.invokevirtual 163, 3) := by decide +kernel
theorem dX10_firstDies_5 : decode cX10_firstDies 5 = .ok (.ifCond .ne 9, 3) := by decide +kernel
theorem dX10_firstDies_8 : decode cX10_firstDies 8 = .ok (.aload_n 0, 1) := by decide +kernel
theorem dX10_firstDies_9 : decode cX10_firstDies 9 = .ok (.iconst 1, 1) := by decide +kernel
theorem dX10_firstDies_10 : decode cX10_firstDies 10 = .ok (.invokevirtual 83, 3) := by decide +kernel
theorem dX10_firstDies_13 : decode cX10_firstDies 13 = .ok (.ireturn, 1) := by decide +kernel
set_option maxHeartbeats 4000000 in
set_option maxRecDepth 100000 in
theorem m_firstDies (l : Launch) (g : Gx) (h0 : Nat) (p0 : Int32) (v0h0 : Value) (tl : Nat) (v2h0 : Value) (v3h0 : Value) (v4h0 : Value) (v5h0 : Value) (v6h0 : Value) (v7h0 : Value) (v8h0 : Value) (v9h0 : Value) (v0tl : Value) (v1tl : Value) (v2tl : Value) (v3tl : Value) (lm : Nat) (v5tl : Value) (v6tl : Value) (v7tl : Value) (v0lm : Value) (v1lm : Value) (v2lm : Value) : cI l g yX10_firstDies cX10_firstDies 2 (some .int) 2 42 0 0 [.ref h0, .int p0] [(h0, .inr (10, [v0h0, .ref tl, v2h0, v3h0, v4h0, v5h0, v6h0, v7h0, v8h0, v9h0])), (tl, .inr (3, [v0tl, v1tl, v2tl, v3tl, .ref lm, v5tl, v6tl, v7tl])), (lm, .inr (8, [v0lm, v1lm, v2lm, .int 0]))] (fun r w => r = (-1) ∧ w = []) := by
  refine cI.of (by decide) (Nat.le_of_ble_eq_true rfl) ?_
  intro p e s m args below meth c A X hr hi
  refine k_lveq [(0, .ref h0), (1, .int p0)] rfl ?_
  refine k_aload_n X dX10_firstDies_0 0 rfl ?_
  refine k_iload_n X dX10_firstDies_1 1 rfl ?_
  refine k_callVI (n := 1) (As := [.int p0]) (st := []) X [(h0, .inr (10, [v0h0, .ref tl, v2h0, v3h0, v4h0, v5h0, v6h0, v7h0, v8h0, v9h0])), (tl, .inr (3, [v0tl, v1tl, v2tl, v3tl, .ref lm, v5tl, v6tl, v7tl])), (lm, .inr (8, [v0lm, v1lm, v2lm, .int 0]))] [] [0, 1, 2] [] (c_runNight l g h0 p0 v0h0 tl v2h0 v3h0 v4h0 v5h0 v6h0 v7h0 v8h0 v9h0 v0tl v1tl v2tl v3tl lm v5tl v6tl v7tl v0lm v1lm v2lm) dX10_firstDies_2 mw171 mw172 mw173 mw174 mw175 rfl 10 rfl rfl 0 _ rfl (by unfold yOk; decide) rfl (Nat.le_of_ble_eq_true rfl) (Nat.le_of_ble_eq_true rfl) (Nat.le_of_ble_eq_true rfl) (Nat.le_of_ble_eq_true rfl) (Nat.le_of_ble_eq_true rfl) rfl rfl (by decide) rfl (by decide) (by decide) ?_
  rintro r w ⟨rfl, rfl⟩
  refine k_ws [(h0, .inr (10, [v0h0, .ref tl, v2h0, v3h0, v4h0, v5h0, v6h0, v7h0, v8h0, v9h0])), (tl, .inr (3, [v0tl, v1tl, v2tl, v3tl, .ref lm, v5tl, v6tl, v7tl])), (lm, .inr (8, [v0lm, v1lm, v2lm, .int 0]))] rfl ?_
  refine k_if_ne 14 X dX10_firstDies_5 (by decide) (fun h_1 => absurd h_1 (by decide)) (fun _ => ?_)
  refine k_aload_n X dX10_firstDies_8 0 rfl ?_
  refine k_iconst (v := 1) X dX10_firstDies_9 (by decide) ?_
  refine k_callVI (n := 1) (As := [.int 1]) (st := []) X [(h0, .inr (10, [v0h0, .ref tl, v2h0, v3h0, v4h0, v5h0, v6h0, v7h0, v8h0, v9h0]))] [(tl, .inr (3, [v0tl, v1tl, v2tl, v3tl, .ref lm, v5tl, v6tl, v7tl])), (lm, .inr (8, [v0lm, v1lm, v2lm, .int 0]))] [0] [1, 2] (c_refuse l g h0 1 v0h0 (.ref tl) v2h0 v3h0 v4h0 v5h0 v6h0 v7h0 v8h0 v9h0) dX10_firstDies_10 mw176 mw177 mw178 mw174 mw179 rfl 10 rfl rfl 0 _ rfl (by unfold yOk; decide) rfl (Nat.le_of_ble_eq_true rfl) (Nat.le_of_ble_eq_true rfl) (Nat.le_of_ble_eq_true rfl) (Nat.le_of_ble_eq_true rfl) (Nat.le_of_ble_eq_true rfl) rfl rfl (by decide) rfl (by decide) (by decide) ?_
  rintro r w ⟨rfl, rfl⟩
  refine k_ws [(tl, .inr (3, [v0tl, v1tl, v2tl, v3tl, .ref lm, v5tl, v6tl, v7tl])), (lm, .inr (8, [v0lm, v1lm, v2lm, .int 0]))] rfl ?_
  exact k_iret X hr dX10_firstDies_13 (Nat.le_of_ble_eq_true rfl) (Nat.le_of_ble_eq_true rfl) [] (by decide) rfl rfl ⟨rfl, rfl⟩

theorem dX10_never_0 : decode cX10_never 0 = .ok (.aload_n 0, 1) := by decide +kernel
theorem dX10_never_1 : decode cX10_never 1 = .ok (.iload_n 1, 1) := by decide +kernel
theorem dX10_never_2 : decode cX10_never 2 = .ok (.invokevirtual 163, 3) := by decide +kernel
theorem dX10_never_5 : decode cX10_never 5 = .ok (.ifCond .eq 25, 3) := by decide +kernel
theorem dX10_never_30 : decode cX10_never 30 = .ok (.aload_n 0, 1) := by decide +kernel
theorem dX10_never_31 : decode cX10_never 31 = .ok (.iconst 1, 1) := by decide +kernel
theorem dX10_never_32 : decode cX10_never 32 = .ok (.invokevirtual 83, 3) := by decide +kernel
theorem dX10_never_35 : decode cX10_never 35 = .ok (.ireturn, 1) := by decide +kernel
set_option maxHeartbeats 4000000 in
set_option maxRecDepth 100000 in
theorem m_never (l : Launch) (g : Gx) (h0 : Nat) (p0 : Int32) (v0h0 : Value) (tl : Nat) (v2h0 : Value) (v3h0 : Value) (v4h0 : Value) (v5h0 : Value) (v6h0 : Value) (v7h0 : Value) (v8h0 : Value) (v9h0 : Value) (v0tl : Value) (v1tl : Value) (v2tl : Value) (v3tl : Value) (lm : Nat) (v5tl : Value) (v6tl : Value) (v7tl : Value) (v0lm : Value) (v1lm : Value) (v2lm : Value) : cI l g yX10_never cX10_never 2 (some .int) 2 42 0 0 [.ref h0, .int p0] [(h0, .inr (10, [v0h0, .ref tl, v2h0, v3h0, v4h0, v5h0, v6h0, v7h0, v8h0, v9h0])), (tl, .inr (3, [v0tl, v1tl, v2tl, v3tl, .ref lm, v5tl, v6tl, v7tl])), (lm, .inr (8, [v0lm, v1lm, v2lm, .int 0]))] (fun r w => r = (-1) ∧ w = []) := by
  refine cI.of (by decide) (Nat.le_of_ble_eq_true rfl) ?_
  intro p e s m args below meth c A X hr hi
  refine k_lveq [(0, .ref h0), (1, .int p0)] rfl ?_
  refine k_aload_n X dX10_never_0 0 rfl ?_
  refine k_iload_n X dX10_never_1 1 rfl ?_
  refine k_callVI (n := 1) (As := [.int p0]) (st := []) X [(h0, .inr (10, [v0h0, .ref tl, v2h0, v3h0, v4h0, v5h0, v6h0, v7h0, v8h0, v9h0])), (tl, .inr (3, [v0tl, v1tl, v2tl, v3tl, .ref lm, v5tl, v6tl, v7tl])), (lm, .inr (8, [v0lm, v1lm, v2lm, .int 0]))] [] [0, 1, 2] [] (c_runNight l g h0 p0 v0h0 tl v2h0 v3h0 v4h0 v5h0 v6h0 v7h0 v8h0 v9h0 v0tl v1tl v2tl v3tl lm v5tl v6tl v7tl v0lm v1lm v2lm) dX10_never_2 mw171 mw172 mw173 mw174 mw175 rfl 10 rfl rfl 0 _ rfl (by unfold yOk; decide) rfl (Nat.le_of_ble_eq_true rfl) (Nat.le_of_ble_eq_true rfl) (Nat.le_of_ble_eq_true rfl) (Nat.le_of_ble_eq_true rfl) (Nat.le_of_ble_eq_true rfl) rfl rfl (by decide) rfl (by decide) (by decide) ?_
  rintro r w ⟨rfl, rfl⟩
  refine k_ws [(h0, .inr (10, [v0h0, .ref tl, v2h0, v3h0, v4h0, v5h0, v6h0, v7h0, v8h0, v9h0])), (tl, .inr (3, [v0tl, v1tl, v2tl, v3tl, .ref lm, v5tl, v6tl, v7tl])), (lm, .inr (8, [v0lm, v1lm, v2lm, .int 0]))] rfl ?_
  refine k_if_eq 30 X dX10_never_5 (by decide) (fun _ => ?_) (fun h_1 => absurd (by decide) h_1)
  refine k_aload_n X dX10_never_30 0 rfl ?_
  refine k_iconst (v := 1) X dX10_never_31 (by decide) ?_
  refine k_callVI (n := 1) (As := [.int 1]) (st := []) X [(h0, .inr (10, [v0h0, .ref tl, v2h0, v3h0, v4h0, v5h0, v6h0, v7h0, v8h0, v9h0]))] [(tl, .inr (3, [v0tl, v1tl, v2tl, v3tl, .ref lm, v5tl, v6tl, v7tl])), (lm, .inr (8, [v0lm, v1lm, v2lm, .int 0]))] [0] [1, 2] (c_refuse l g h0 1 v0h0 (.ref tl) v2h0 v3h0 v4h0 v5h0 v6h0 v7h0 v8h0 v9h0) dX10_never_32 mw176 mw177 mw178 mw174 mw179 rfl 10 rfl rfl 0 _ rfl (by unfold yOk; decide) rfl (Nat.le_of_ble_eq_true rfl) (Nat.le_of_ble_eq_true rfl) (Nat.le_of_ble_eq_true rfl) (Nat.le_of_ble_eq_true rfl) (Nat.le_of_ble_eq_true rfl) rfl rfl (by decide) rfl (by decide) (by decide) ?_
  rintro r w ⟨rfl, rfl⟩
  refine k_ws [(tl, .inr (3, [v0tl, v1tl, v2tl, v3tl, .ref lm, v5tl, v6tl, v7tl])), (lm, .inr (8, [v0lm, v1lm, v2lm, .int 0]))] rfl ?_
  exact k_iret X hr dX10_never_35 (Nat.le_of_ble_eq_true rfl) (Nat.le_of_ble_eq_true rfl) [] (by decide) rfl rfl ⟨rfl, rfl⟩

theorem dX10_apart_0 : decode cX10_apart 0 = .ok (.aload_n 0, 1) := by decide +kernel
theorem dX10_apart_1 : decode cX10_apart 1 = .ok (.iload_n 1, 1) := by decide +kernel
theorem dX10_apart_2 : decode cX10_apart 2 = .ok (.iload_n 2, 1) := by decide +kernel
theorem dX10_apart_3 : decode cX10_apart 3 = .ok (.iconst 0, 1) := by decide +kernel
theorem dX10_apart_4 : decode cX10_apart 4 = .ok (.invokevirtual 294, 3) := by decide +kernel
theorem dX10_apart_7 : decode cX10_apart 7 = .ok (.istore_n 3, 1) := by decide +kernel
theorem dX10_apart_8 : decode cX10_apart 8 = .ok (.iload_n 3, 1) := by decide +kernel
theorem dX10_apart_9 : decode cX10_apart 9 = .ok (.ifCond .eq 9, 3) := by decide +kernel
theorem dX10_apart_12 : decode cX10_apart 12 = .ok (.aload_n 0, 1) := by decide +kernel
theorem dX10_apart_13 : decode cX10_apart 13 = .ok (.iload_n 3, 1) := by decide +kernel
theorem dX10_apart_14 : decode cX10_apart 14 = .ok (.invokevirtual 83, 3) := by decide +kernel
theorem dX10_apart_17 : decode cX10_apart 17 = .ok (.ireturn, 1) := by decide +kernel
set_option maxHeartbeats 4000000 in
set_option maxRecDepth 100000 in
theorem m_apart (l : Launch) (g : Gx) (h0 : Nat) (p0 : Int32) (p1 : Int32) (v0h0 : Value) (tl : Nat) (v2h0 : Value) (v3h0 : Value) (v4h0 : Value) (v5h0 : Value) (v6h0 : Value) (v7h0 : Value) (v8h0 : Value) (v9h0 : Value) (v0tl : Value) (v1tl : Value) (v2tl : Value) (v3tl : Value) (lm : Nat) (v5tl : Value) (v6tl : Value) (v7tl : Value) (v0lm : Value) (v1lm : Value) (v2lm : Value) : cI l g yX10_apart cX10_apart 4 (some .int) 3 65 0 0 [.ref h0, .int p0, .int p1] [(h0, .inr (10, [v0h0, .ref tl, v2h0, v3h0, v4h0, v5h0, v6h0, v7h0, v8h0, v9h0])), (tl, .inr (3, [v0tl, v1tl, v2tl, v3tl, .ref lm, v5tl, v6tl, v7tl])), (lm, .inr (8, [v0lm, v1lm, v2lm, .int 0]))] (fun r w => r = (-1) ∧ w = []) := by
  refine cI.of (by decide) (Nat.le_of_ble_eq_true rfl) ?_
  intro p e s m args below meth c A X hr hi
  refine k_lveq [(0, .ref h0), (1, .int p0), (2, .int p1)] rfl ?_
  refine k_aload_n X dX10_apart_0 0 rfl ?_
  refine k_iload_n X dX10_apart_1 1 rfl ?_
  refine k_iload_n X dX10_apart_2 2 rfl ?_
  refine k_iconst (v := 0) X dX10_apart_3 (by decide) ?_
  refine k_callVI (n := 3) (As := [.int p0, .int p1, .int 0]) (st := []) X [(h0, .inr (10, [v0h0, .ref tl, v2h0, v3h0, v4h0, v5h0, v6h0, v7h0, v8h0, v9h0])), (tl, .inr (3, [v0tl, v1tl, v2tl, v3tl, .ref lm, v5tl, v6tl, v7tl])), (lm, .inr (8, [v0lm, v1lm, v2lm, .int 0]))] [] [0, 1, 2] [] (c_rideTrouble l g h0 p0 p1 0 v0h0 tl v2h0 v3h0 v4h0 v5h0 v6h0 v7h0 v8h0 v9h0 v0tl v1tl v2tl v3tl lm v5tl v6tl v7tl v0lm v1lm v2lm) dX10_apart_4 mw198 mw199 mw200 mw174 mw201 rfl 10 rfl rfl 0 _ rfl (by unfold yOk; decide) rfl (Nat.le_of_ble_eq_true rfl) (Nat.le_of_ble_eq_true rfl) (Nat.le_of_ble_eq_true rfl) (Nat.le_of_ble_eq_true rfl) (Nat.le_of_ble_eq_true rfl) rfl rfl (by decide) rfl (by decide) (by decide) ?_
  rintro r w ⟨rfl, rfl⟩
  refine k_ws [(h0, .inr (10, [v0h0, .ref tl, v2h0, v3h0, v4h0, v5h0, v6h0, v7h0, v8h0, v9h0])), (tl, .inr (3, [v0tl, v1tl, v2tl, v3tl, .ref lm, v5tl, v6tl, v7tl])), (lm, .inr (8, [v0lm, v1lm, v2lm, .int 0]))] rfl ?_
  refine k_istore_n [(3, .int 1), (0, .ref h0), (1, .int p0), (2, .int p1)] X dX10_apart_7 (by decide) rfl ?_
  refine k_iload_n X dX10_apart_8 0 rfl ?_
  refine k_if_eq 18 X dX10_apart_9 (by decide) (fun h_1 => absurd h_1 (by decide)) (fun _ => ?_)
  refine k_aload_n X dX10_apart_12 1 rfl ?_
  refine k_iload_n X dX10_apart_13 0 rfl ?_
  refine k_callVI (n := 1) (As := [.int 1]) (st := []) X [(h0, .inr (10, [v0h0, .ref tl, v2h0, v3h0, v4h0, v5h0, v6h0, v7h0, v8h0, v9h0]))] [(tl, .inr (3, [v0tl, v1tl, v2tl, v3tl, .ref lm, v5tl, v6tl, v7tl])), (lm, .inr (8, [v0lm, v1lm, v2lm, .int 0]))] [0] [1, 2] (c_refuse l g h0 1 v0h0 (.ref tl) v2h0 v3h0 v4h0 v5h0 v6h0 v7h0 v8h0 v9h0) dX10_apart_14 mw176 mw177 mw178 mw174 mw179 rfl 10 rfl rfl 0 _ rfl (by unfold yOk; decide) rfl (Nat.le_of_ble_eq_true rfl) (Nat.le_of_ble_eq_true rfl) (Nat.le_of_ble_eq_true rfl) (Nat.le_of_ble_eq_true rfl) (Nat.le_of_ble_eq_true rfl) rfl rfl (by decide) rfl (by decide) (by decide) ?_
  rintro r w ⟨rfl, rfl⟩
  refine k_ws [(tl, .inr (3, [v0tl, v1tl, v2tl, v3tl, .ref lm, v5tl, v6tl, v7tl])), (lm, .inr (8, [v0lm, v1lm, v2lm, .int 0]))] rfl ?_
  exact k_iret X hr dX10_apart_17 (Nat.le_of_ble_eq_true rfl) (Nat.le_of_ble_eq_true rfl) [] (by decide) rfl rfl ⟨rfl, rfl⟩

theorem dX10_waits_0 : decode cX10_waits 0 = .ok (.aload_n 0, 1) := by decide +kernel
theorem dX10_waits_1 : decode cX10_waits 1 = .ok (.iload_n 1, 1) := by decide +kernel
theorem dX10_waits_2 : decode cX10_waits 2 = .ok (.iload_n 2, 1) := by decide +kernel
theorem dX10_waits_3 : decode cX10_waits 3 = .ok (.iload_n 3, 1) := by decide +kernel
theorem dX10_waits_4 : decode cX10_waits 4 = .ok (.invokevirtual 294, 3) := by decide +kernel
theorem dX10_waits_7 : decode cX10_waits 7 = .ok (.istore 4, 2) := by decide +kernel
theorem dX10_waits_9 : decode cX10_waits 9 = .ok (.iload 4, 2) := by decide +kernel
theorem dX10_waits_11 : decode cX10_waits 11 = .ok (.ifCond .eq 10, 3) := by decide +kernel
theorem dX10_waits_14 : decode cX10_waits 14 = .ok (.aload_n 0, 1) := by decide +kernel
theorem dX10_waits_15 : decode cX10_waits 15 = .ok (.iload 4, 2) := by decide +kernel
theorem dX10_waits_17 : decode cX10_waits 17 = .ok (.invokevirtual 83, 3) := by decide +kernel
theorem dX10_waits_20 : decode cX10_waits 20 = .ok (.ireturn, 1) := by decide +kernel
set_option maxHeartbeats 4000000 in
set_option maxRecDepth 100000 in
theorem m_waits (l : Launch) (g : Gx) (h0 : Nat) (p0 : Int32) (p1 : Int32) (p2 : Int32) (v0h0 : Value) (tl : Nat) (v2h0 : Value) (v3h0 : Value) (v4h0 : Value) (v5h0 : Value) (v6h0 : Value) (v7h0 : Value) (v8h0 : Value) (v9h0 : Value) (v0tl : Value) (v1tl : Value) (v2tl : Value) (v3tl : Value) (lm : Nat) (v5tl : Value) (v6tl : Value) (v7tl : Value) (v0lm : Value) (v1lm : Value) (v2lm : Value) : cI l g yX10_waits cX10_waits 5 (some .int) 3 65 0 0 [.ref h0, .int p0, .int p1, .int p2] [(h0, .inr (10, [v0h0, .ref tl, v2h0, v3h0, v4h0, v5h0, v6h0, v7h0, v8h0, v9h0])), (tl, .inr (3, [v0tl, v1tl, v2tl, v3tl, .ref lm, v5tl, v6tl, v7tl])), (lm, .inr (8, [v0lm, v1lm, v2lm, .int 0]))] (fun r w => r = (-1) ∧ w = []) := by
  refine cI.of (by decide) (Nat.le_of_ble_eq_true rfl) ?_
  intro p e s m args below meth c A X hr hi
  refine k_lveq [(0, .ref h0), (1, .int p0), (2, .int p1), (3, .int p2)] rfl ?_
  refine k_aload_n X dX10_waits_0 0 rfl ?_
  refine k_iload_n X dX10_waits_1 1 rfl ?_
  refine k_iload_n X dX10_waits_2 2 rfl ?_
  refine k_iload_n X dX10_waits_3 3 rfl ?_
  refine k_callVI (n := 3) (As := [.int p0, .int p1, .int p2]) (st := []) X [(h0, .inr (10, [v0h0, .ref tl, v2h0, v3h0, v4h0, v5h0, v6h0, v7h0, v8h0, v9h0])), (tl, .inr (3, [v0tl, v1tl, v2tl, v3tl, .ref lm, v5tl, v6tl, v7tl])), (lm, .inr (8, [v0lm, v1lm, v2lm, .int 0]))] [] [0, 1, 2] [] (c_rideTrouble l g h0 p0 p1 p2 v0h0 tl v2h0 v3h0 v4h0 v5h0 v6h0 v7h0 v8h0 v9h0 v0tl v1tl v2tl v3tl lm v5tl v6tl v7tl v0lm v1lm v2lm) dX10_waits_4 mw198 mw199 mw200 mw174 mw201 rfl 10 rfl rfl 0 _ rfl (by unfold yOk; decide) rfl (Nat.le_of_ble_eq_true rfl) (Nat.le_of_ble_eq_true rfl) (Nat.le_of_ble_eq_true rfl) (Nat.le_of_ble_eq_true rfl) (Nat.le_of_ble_eq_true rfl) rfl rfl (by decide) rfl (by decide) (by decide) ?_
  rintro r w ⟨rfl, rfl⟩
  refine k_ws [(h0, .inr (10, [v0h0, .ref tl, v2h0, v3h0, v4h0, v5h0, v6h0, v7h0, v8h0, v9h0])), (tl, .inr (3, [v0tl, v1tl, v2tl, v3tl, .ref lm, v5tl, v6tl, v7tl])), (lm, .inr (8, [v0lm, v1lm, v2lm, .int 0]))] rfl ?_
  refine k_istore [(4, .int 1), (0, .ref h0), (1, .int p0), (2, .int p1), (3, .int p2)] X dX10_waits_7 (by decide) rfl ?_
  refine k_iload X dX10_waits_9 0 rfl ?_
  refine k_if_eq 21 X dX10_waits_11 (by decide) (fun h_1 => absurd h_1 (by decide)) (fun _ => ?_)
  refine k_aload_n X dX10_waits_14 1 rfl ?_
  refine k_iload X dX10_waits_15 0 rfl ?_
  refine k_callVI (n := 1) (As := [.int 1]) (st := []) X [(h0, .inr (10, [v0h0, .ref tl, v2h0, v3h0, v4h0, v5h0, v6h0, v7h0, v8h0, v9h0]))] [(tl, .inr (3, [v0tl, v1tl, v2tl, v3tl, .ref lm, v5tl, v6tl, v7tl])), (lm, .inr (8, [v0lm, v1lm, v2lm, .int 0]))] [0] [1, 2] (c_refuse l g h0 1 v0h0 (.ref tl) v2h0 v3h0 v4h0 v5h0 v6h0 v7h0 v8h0 v9h0) dX10_waits_17 mw176 mw177 mw178 mw174 mw179 rfl 10 rfl rfl 0 _ rfl (by unfold yOk; decide) rfl (Nat.le_of_ble_eq_true rfl) (Nat.le_of_ble_eq_true rfl) (Nat.le_of_ble_eq_true rfl) (Nat.le_of_ble_eq_true rfl) (Nat.le_of_ble_eq_true rfl) rfl rfl (by decide) rfl (by decide) (by decide) ?_
  rintro r w ⟨rfl, rfl⟩
  refine k_ws [(tl, .inr (3, [v0tl, v1tl, v2tl, v3tl, .ref lm, v5tl, v6tl, v7tl])), (lm, .inr (8, [v0lm, v1lm, v2lm, .int 0]))] rfl ?_
  exact k_iret X hr dX10_waits_20 (Nat.le_of_ble_eq_true rfl) (Nat.le_of_ble_eq_true rfl) [] (by decide) rfl rfl ⟨rfl, rfl⟩

theorem dX10_boys_0 : decode cX10_boys 0 = .ok (.aload_n 0, 1) := by decide +kernel
theorem dX10_boys_1 : decode cX10_boys 1 = .ok (.iload_n 1, 1) := by decide +kernel
theorem dX10_boys_2 : decode cX10_boys 2 = .ok (.iconst 0, 1) := by decide +kernel
theorem dX10_boys_3 : decode cX10_boys 3 = .ok (.iconst 0, 1) := by decide +kernel
theorem dX10_boys_4 : decode cX10_boys 4 = .ok (.invokevirtual 294, 3) := by decide +kernel
theorem dX10_boys_7 : decode cX10_boys 7 = .ok (.istore_n 2, 1) := by decide +kernel
theorem dX10_boys_8 : decode cX10_boys 8 = .ok (.iload_n 2, 1) := by decide +kernel
theorem dX10_boys_9 : decode cX10_boys 9 = .ok (.ifCond .eq 9, 3) := by decide +kernel
theorem dX10_boys_12 : decode cX10_boys 12 = .ok (.aload_n 0, 1) := by decide +kernel
theorem dX10_boys_13 : decode cX10_boys 13 = .ok (.iload_n 2, 1) := by decide +kernel
theorem dX10_boys_14 : decode cX10_boys 14 = .ok (.invokevirtual 83, 3) := by decide +kernel
theorem dX10_boys_17 : decode cX10_boys 17 = .ok (.ireturn, 1) := by decide +kernel
set_option maxHeartbeats 4000000 in
set_option maxRecDepth 100000 in
theorem m_boys (l : Launch) (g : Gx) (h0 : Nat) (p0 : Int32) (v0h0 : Value) (tl : Nat) (v2h0 : Value) (v3h0 : Value) (v4h0 : Value) (v5h0 : Value) (v6h0 : Value) (v7h0 : Value) (v8h0 : Value) (v9h0 : Value) (v0tl : Value) (v1tl : Value) (v2tl : Value) (v3tl : Value) (lm : Nat) (v5tl : Value) (v6tl : Value) (v7tl : Value) (v0lm : Value) (v1lm : Value) (v2lm : Value) : cI l g yX10_boys cX10_boys 5 (some .int) 3 65 0 0 [.ref h0, .int p0] [(h0, .inr (10, [v0h0, .ref tl, v2h0, v3h0, v4h0, v5h0, v6h0, v7h0, v8h0, v9h0])), (tl, .inr (3, [v0tl, v1tl, v2tl, v3tl, .ref lm, v5tl, v6tl, v7tl])), (lm, .inr (8, [v0lm, v1lm, v2lm, .int 0]))] (fun r w => r = (-1) ∧ w = []) := by
  refine cI.of (by decide) (Nat.le_of_ble_eq_true rfl) ?_
  intro p e s m args below meth c A X hr hi
  refine k_lveq [(0, .ref h0), (1, .int p0)] rfl ?_
  refine k_aload_n X dX10_boys_0 0 rfl ?_
  refine k_iload_n X dX10_boys_1 1 rfl ?_
  refine k_iconst (v := 0) X dX10_boys_2 (by decide) ?_
  refine k_iconst (v := 0) X dX10_boys_3 (by decide) ?_
  refine k_callVI (n := 3) (As := [.int p0, .int 0, .int 0]) (st := []) X [(h0, .inr (10, [v0h0, .ref tl, v2h0, v3h0, v4h0, v5h0, v6h0, v7h0, v8h0, v9h0])), (tl, .inr (3, [v0tl, v1tl, v2tl, v3tl, .ref lm, v5tl, v6tl, v7tl])), (lm, .inr (8, [v0lm, v1lm, v2lm, .int 0]))] [] [0, 1, 2] [] (c_rideTrouble l g h0 p0 0 0 v0h0 tl v2h0 v3h0 v4h0 v5h0 v6h0 v7h0 v8h0 v9h0 v0tl v1tl v2tl v3tl lm v5tl v6tl v7tl v0lm v1lm v2lm) dX10_boys_4 mw198 mw199 mw200 mw174 mw201 rfl 10 rfl rfl 0 _ rfl (by unfold yOk; decide) rfl (Nat.le_of_ble_eq_true rfl) (Nat.le_of_ble_eq_true rfl) (Nat.le_of_ble_eq_true rfl) (Nat.le_of_ble_eq_true rfl) (Nat.le_of_ble_eq_true rfl) rfl rfl (by decide) rfl (by decide) (by decide) ?_
  rintro r w ⟨rfl, rfl⟩
  refine k_ws [(h0, .inr (10, [v0h0, .ref tl, v2h0, v3h0, v4h0, v5h0, v6h0, v7h0, v8h0, v9h0])), (tl, .inr (3, [v0tl, v1tl, v2tl, v3tl, .ref lm, v5tl, v6tl, v7tl])), (lm, .inr (8, [v0lm, v1lm, v2lm, .int 0]))] rfl ?_
  refine k_istore_n [(2, .int 1), (0, .ref h0), (1, .int p0)] X dX10_boys_7 (by decide) rfl ?_
  refine k_iload_n X dX10_boys_8 0 rfl ?_
  refine k_if_eq 18 X dX10_boys_9 (by decide) (fun h_1 => absurd h_1 (by decide)) (fun _ => ?_)
  refine k_aload_n X dX10_boys_12 1 rfl ?_
  refine k_iload_n X dX10_boys_13 0 rfl ?_
  refine k_callVI (n := 1) (As := [.int 1]) (st := []) X [(h0, .inr (10, [v0h0, .ref tl, v2h0, v3h0, v4h0, v5h0, v6h0, v7h0, v8h0, v9h0]))] [(tl, .inr (3, [v0tl, v1tl, v2tl, v3tl, .ref lm, v5tl, v6tl, v7tl])), (lm, .inr (8, [v0lm, v1lm, v2lm, .int 0]))] [0] [1, 2] (c_refuse l g h0 1 v0h0 (.ref tl) v2h0 v3h0 v4h0 v5h0 v6h0 v7h0 v8h0 v9h0) dX10_boys_14 mw176 mw177 mw178 mw174 mw179 rfl 10 rfl rfl 0 _ rfl (by unfold yOk; decide) rfl (Nat.le_of_ble_eq_true rfl) (Nat.le_of_ble_eq_true rfl) (Nat.le_of_ble_eq_true rfl) (Nat.le_of_ble_eq_true rfl) (Nat.le_of_ble_eq_true rfl) rfl rfl (by decide) rfl (by decide) (by decide) ?_
  rintro r w ⟨rfl, rfl⟩
  refine k_ws [(tl, .inr (3, [v0tl, v1tl, v2tl, v3tl, .ref lm, v5tl, v6tl, v7tl])), (lm, .inr (8, [v0lm, v1lm, v2lm, .int 0]))] rfl ?_
  exact k_iret X hr dX10_boys_17 (Nat.le_of_ble_eq_true rfl) (Nat.le_of_ble_eq_true rfl) [] (by decide) rfl rfl ⟨rfl, rfl⟩

theorem dX10_dark_0 : decode cX10_dark 0 = .ok (.aload_n 0, 1) := by decide +kernel
theorem dX10_dark_1 : decode cX10_dark 1 = .ok (.getfield 19, 3) := by decide +kernel
theorem dX10_dark_4 : decode cX10_dark 4 = .ok (.getfield 191, 3) := by decide +kernel
theorem dX10_dark_7 : decode cX10_dark 7 = .ok (.iload_n 1, 1) := by decide +kernel
theorem dX10_dark_8 : decode cX10_dark 8 = .ok (.invokevirtual 127, 3) := by decide +kernel
theorem dX10_dark_11 : decode cX10_dark 11 = .ok (.ifCond .ne 9, 3) := by decide +kernel
theorem dX10_dark_14 : decode cX10_dark 14 = .ok (.aload_n 0, 1) := by decide +kernel
theorem dX10_dark_15 : decode cX10_dark 15 = .ok (.iconst 1, 1) := by decide +kernel
theorem dX10_dark_16 : decode cX10_dark 16 = .ok (.invokevirtual 83, 3) := by decide +kernel
theorem dX10_dark_19 : decode cX10_dark 19 = .ok (.ireturn, 1) := by decide +kernel
set_option maxHeartbeats 4000000 in
set_option maxRecDepth 100000 in
theorem m_dark (l : Launch) (g : Gx) (h0 : Nat) (p0 : Int32) (p1 : Int32) (v0h0 : Value) (tl : Nat) (v2h0 : Value) (v3h0 : Value) (v4h0 : Value) (v5h0 : Value) (v6h0 : Value) (v7h0 : Value) (v8h0 : Value) (v9h0 : Value) (v0tl : Value) (v1tl : Value) (v2tl : Value) (v3tl : Value) (lm : Nat) (v5tl : Value) (v6tl : Value) (v7tl : Value) (v0lm : Value) (v1lm : Value) (v2lm : Value) : cI l g yX10_dark cX10_dark 3 (some .int) 1 21 0 0 [.ref h0, .int p0, .int p1] [(h0, .inr (10, [v0h0, .ref tl, v2h0, v3h0, v4h0, v5h0, v6h0, v7h0, v8h0, v9h0])), (tl, .inr (3, [v0tl, v1tl, v2tl, v3tl, .ref lm, v5tl, v6tl, v7tl])), (lm, .inr (8, [v0lm, v1lm, v2lm, .int 0]))] (fun r w => r = (-1) ∧ w = []) := by
  refine cI.of (by decide) (Nat.le_of_ble_eq_true rfl) ?_
  intro p e s m args below meth c A X hr hi
  refine k_lveq [(0, .ref h0), (1, .int p0), (2, .int p1)] rfl ?_
  refine k_aload_n X dX10_dark_0 0 rfl ?_
  refine k_get (ci := 10) X inlX10 rfl 1 (by decide) dX10_dark_1 mw126 0 rfl rfl ?_
  refine k_get (ci := 3) X inlX3 rfl 4 (by decide) dX10_dark_4 mw169 1 rfl rfl ?_
  refine k_iload_n X dX10_dark_7 1 rfl ?_
  refine k_callVI (n := 1) (As := [.int p0]) (st := []) X [(lm, .inr (8, [v0lm, v1lm, v2lm, .int 0]))] [(h0, .inr (10, [v0h0, .ref tl, v2h0, v3h0, v4h0, v5h0, v6h0, v7h0, v8h0, v9h0])), (tl, .inr (3, [v0tl, v1tl, v2tl, v3tl, .ref lm, v5tl, v6tl, v7tl]))] [2] [0, 1] (c_T_has l g lm p0 v0lm v1lm v2lm) dX10_dark_8 mw170 mw30 mw31 mw15 mw32 rfl 8 rfl rfl 0 _ rfl (by unfold yOk; decide) rfl (Nat.le_of_ble_eq_true rfl) (Nat.le_of_ble_eq_true rfl) (Nat.le_of_ble_eq_true rfl) (Nat.le_of_ble_eq_true rfl) (Nat.le_of_ble_eq_true rfl) rfl rfl (by decide) rfl (by decide) (by decide) ?_
  rintro r w ⟨rfl, rfl⟩
  refine k_ws [(h0, .inr (10, [v0h0, .ref tl, v2h0, v3h0, v4h0, v5h0, v6h0, v7h0, v8h0, v9h0])), (tl, .inr (3, [v0tl, v1tl, v2tl, v3tl, .ref lm, v5tl, v6tl, v7tl])), (lm, .inr (8, [v0lm, v1lm, v2lm, .int 0]))] rfl ?_
  refine k_if_ne 20 X dX10_dark_11 (by decide) (fun h_1 => absurd h_1 (by decide)) (fun _ => ?_)
  refine k_aload_n X dX10_dark_14 0 rfl ?_
  refine k_iconst (v := 1) X dX10_dark_15 (by decide) ?_
  refine k_callVI (n := 1) (As := [.int 1]) (st := []) X [(h0, .inr (10, [v0h0, .ref tl, v2h0, v3h0, v4h0, v5h0, v6h0, v7h0, v8h0, v9h0]))] [(tl, .inr (3, [v0tl, v1tl, v2tl, v3tl, .ref lm, v5tl, v6tl, v7tl])), (lm, .inr (8, [v0lm, v1lm, v2lm, .int 0]))] [0] [1, 2] (c_refuse l g h0 1 v0h0 (.ref tl) v2h0 v3h0 v4h0 v5h0 v6h0 v7h0 v8h0 v9h0) dX10_dark_16 mw176 mw177 mw178 mw174 mw179 rfl 10 rfl rfl 0 _ rfl (by unfold yOk; decide) rfl (Nat.le_of_ble_eq_true rfl) (Nat.le_of_ble_eq_true rfl) (Nat.le_of_ble_eq_true rfl) (Nat.le_of_ble_eq_true rfl) (Nat.le_of_ble_eq_true rfl) rfl rfl (by decide) rfl (by decide) (by decide) ?_
  rintro r w ⟨rfl, rfl⟩
  refine k_ws [(tl, .inr (3, [v0tl, v1tl, v2tl, v3tl, .ref lm, v5tl, v6tl, v7tl])), (lm, .inr (8, [v0lm, v1lm, v2lm, .int 0]))] rfl ?_
  exact k_iret X hr dX10_dark_19 (Nat.le_of_ble_eq_true rfl) (Nat.le_of_ble_eq_true rfl) [] (by decide) rfl rfl ⟨rfl, rfl⟩

theorem dX10_who_0 : decode cX10_who 0 = .ok (.aload_n 0, 1) := by decide +kernel
theorem dX10_who_1 : decode cX10_who 1 = .ok (.getfield 19, 3) := by decide +kernel
theorem dX10_who_4 : decode cX10_who 4 = .ok (.getfield 256, 3) := by decide +kernel
theorem dX10_who_7 : decode cX10_who 7 = .ok (.iload_n 1, 1) := by decide +kernel
theorem dX10_who_8 : decode cX10_who 8 = .ok (.invokevirtual 127, 3) := by decide +kernel
theorem dX10_who_11 : decode cX10_who 11 = .ok (.ifCond .ne 9, 3) := by decide +kernel
theorem dX10_who_14 : decode cX10_who 14 = .ok (.aload_n 0, 1) := by decide +kernel
theorem dX10_who_15 : decode cX10_who 15 = .ok (.iconst 1, 1) := by decide +kernel
theorem dX10_who_16 : decode cX10_who 16 = .ok (.invokevirtual 83, 3) := by decide +kernel
theorem dX10_who_19 : decode cX10_who 19 = .ok (.ireturn, 1) := by decide +kernel
set_option maxHeartbeats 4000000 in
set_option maxRecDepth 100000 in
theorem m_who (l : Launch) (g : Gx) (h0 : Nat) (p0 : Int32) (v0h0 : Value) (tl : Nat) (v2h0 : Value) (v3h0 : Value) (v4h0 : Value) (v5h0 : Value) (v6h0 : Value) (v7h0 : Value) (v8h0 : Value) (v9h0 : Value) (v0tl : Value) (v1tl : Value) (v2tl : Value) (v3tl : Value) (v4tl : Value) (v5tl : Value) (v6tl : Value) (ls : Nat) (v0ls : Value) (v1ls : Value) (v2ls : Value) : cI l g yX10_who cX10_who 3 (some .int) 1 21 0 0 [.ref h0, .int p0] [(h0, .inr (10, [v0h0, .ref tl, v2h0, v3h0, v4h0, v5h0, v6h0, v7h0, v8h0, v9h0])), (tl, .inr (3, [v0tl, v1tl, v2tl, v3tl, v4tl, v5tl, v6tl, .ref ls])), (ls, .inr (8, [v0ls, v1ls, v2ls, .int 0]))] (fun r w => r = (-1) ∧ w = []) := by
  refine cI.of (by decide) (Nat.le_of_ble_eq_true rfl) ?_
  intro p e s m args below meth c A X hr hi
  refine k_lveq [(0, .ref h0), (1, .int p0)] rfl ?_
  refine k_aload_n X dX10_who_0 0 rfl ?_
  refine k_get (ci := 10) X inlX10 rfl 1 (by decide) dX10_who_1 mw126 0 rfl rfl ?_
  refine k_get (ci := 3) X inlX3 rfl 7 (by decide) dX10_who_4 mw202 1 rfl rfl ?_
  refine k_iload_n X dX10_who_7 1 rfl ?_
  refine k_callVI (n := 1) (As := [.int p0]) (st := []) X [(ls, .inr (8, [v0ls, v1ls, v2ls, .int 0]))] [(h0, .inr (10, [v0h0, .ref tl, v2h0, v3h0, v4h0, v5h0, v6h0, v7h0, v8h0, v9h0])), (tl, .inr (3, [v0tl, v1tl, v2tl, v3tl, v4tl, v5tl, v6tl, .ref ls]))] [2] [0, 1] (c_T_has l g ls p0 v0ls v1ls v2ls) dX10_who_8 mw170 mw30 mw31 mw15 mw32 rfl 8 rfl rfl 0 _ rfl (by unfold yOk; decide) rfl (Nat.le_of_ble_eq_true rfl) (Nat.le_of_ble_eq_true rfl) (Nat.le_of_ble_eq_true rfl) (Nat.le_of_ble_eq_true rfl) (Nat.le_of_ble_eq_true rfl) rfl rfl (by decide) rfl (by decide) (by decide) ?_
  rintro r w ⟨rfl, rfl⟩
  refine k_ws [(h0, .inr (10, [v0h0, .ref tl, v2h0, v3h0, v4h0, v5h0, v6h0, v7h0, v8h0, v9h0])), (tl, .inr (3, [v0tl, v1tl, v2tl, v3tl, v4tl, v5tl, v6tl, .ref ls])), (ls, .inr (8, [v0ls, v1ls, v2ls, .int 0]))] rfl ?_
  refine k_if_ne 20 X dX10_who_11 (by decide) (fun h_1 => absurd h_1 (by decide)) (fun _ => ?_)
  refine k_aload_n X dX10_who_14 0 rfl ?_
  refine k_iconst (v := 1) X dX10_who_15 (by decide) ?_
  refine k_callVI (n := 1) (As := [.int 1]) (st := []) X [(h0, .inr (10, [v0h0, .ref tl, v2h0, v3h0, v4h0, v5h0, v6h0, v7h0, v8h0, v9h0]))] [(tl, .inr (3, [v0tl, v1tl, v2tl, v3tl, v4tl, v5tl, v6tl, .ref ls])), (ls, .inr (8, [v0ls, v1ls, v2ls, .int 0]))] [0] [1, 2] (c_refuse l g h0 1 v0h0 (.ref tl) v2h0 v3h0 v4h0 v5h0 v6h0 v7h0 v8h0 v9h0) dX10_who_16 mw176 mw177 mw178 mw174 mw179 rfl 10 rfl rfl 0 _ rfl (by unfold yOk; decide) rfl (Nat.le_of_ble_eq_true rfl) (Nat.le_of_ble_eq_true rfl) (Nat.le_of_ble_eq_true rfl) (Nat.le_of_ble_eq_true rfl) (Nat.le_of_ble_eq_true rfl) rfl rfl (by decide) rfl (by decide) (by decide) ?_
  rintro r w ⟨rfl, rfl⟩
  refine k_ws [(tl, .inr (3, [v0tl, v1tl, v2tl, v3tl, v4tl, v5tl, v6tl, .ref ls])), (ls, .inr (8, [v0ls, v1ls, v2ls, .int 0]))] rfl ?_
  exact k_iret X hr dX10_who_19 (Nat.le_of_ble_eq_true rfl) (Nat.le_of_ble_eq_true rfl) [] (by decide) rfl rfl ⟨rfl, rfl⟩

theorem dX10_far_0 : decode cX10_far 0 = .ok (.aload_n 0, 1) := by decide +kernel
theorem dX10_far_1 : decode cX10_far 1 = .ok (.getfield 19, 3) := by decide +kernel
theorem dX10_far_4 : decode cX10_far 4 = .ok (.getfield 256, 3) := by decide +kernel
theorem dX10_far_7 : decode cX10_far 7 = .ok (.iload_n 1, 1) := by decide +kernel
theorem dX10_far_8 : decode cX10_far 8 = .ok (.invokevirtual 127, 3) := by decide +kernel
theorem dX10_far_11 : decode cX10_far 11 = .ok (.ifCond .ne 9, 3) := by decide +kernel
theorem dX10_far_14 : decode cX10_far 14 = .ok (.aload_n 0, 1) := by decide +kernel
theorem dX10_far_15 : decode cX10_far 15 = .ok (.iconst 1, 1) := by decide +kernel
theorem dX10_far_16 : decode cX10_far 16 = .ok (.invokevirtual 83, 3) := by decide +kernel
theorem dX10_far_19 : decode cX10_far 19 = .ok (.ireturn, 1) := by decide +kernel
set_option maxHeartbeats 4000000 in
set_option maxRecDepth 100000 in
theorem m_far (l : Launch) (g : Gx) (h0 : Nat) (p0 : Int32) (v0h0 : Value) (tl : Nat) (v2h0 : Value) (v3h0 : Value) (v4h0 : Value) (v5h0 : Value) (v6h0 : Value) (v7h0 : Value) (v8h0 : Value) (v9h0 : Value) (v0tl : Value) (v1tl : Value) (v2tl : Value) (v3tl : Value) (v4tl : Value) (v5tl : Value) (v6tl : Value) (ls : Nat) (v0ls : Value) (v1ls : Value) (v2ls : Value) : cI l g yX10_far cX10_far 3 (some .int) 1 21 0 0 [.ref h0, .int p0] [(h0, .inr (10, [v0h0, .ref tl, v2h0, v3h0, v4h0, v5h0, v6h0, v7h0, v8h0, v9h0])), (tl, .inr (3, [v0tl, v1tl, v2tl, v3tl, v4tl, v5tl, v6tl, .ref ls])), (ls, .inr (8, [v0ls, v1ls, v2ls, .int 0]))] (fun r w => r = (-1) ∧ w = []) := by
  refine cI.of (by decide) (Nat.le_of_ble_eq_true rfl) ?_
  intro p e s m args below meth c A X hr hi
  refine k_lveq [(0, .ref h0), (1, .int p0)] rfl ?_
  refine k_aload_n X dX10_far_0 0 rfl ?_
  refine k_get (ci := 10) X inlX10 rfl 1 (by decide) dX10_far_1 mw126 0 rfl rfl ?_
  refine k_get (ci := 3) X inlX3 rfl 7 (by decide) dX10_far_4 mw202 1 rfl rfl ?_
  refine k_iload_n X dX10_far_7 1 rfl ?_
  refine k_callVI (n := 1) (As := [.int p0]) (st := []) X [(ls, .inr (8, [v0ls, v1ls, v2ls, .int 0]))] [(h0, .inr (10, [v0h0, .ref tl, v2h0, v3h0, v4h0, v5h0, v6h0, v7h0, v8h0, v9h0])), (tl, .inr (3, [v0tl, v1tl, v2tl, v3tl, v4tl, v5tl, v6tl, .ref ls]))] [2] [0, 1] (c_T_has l g ls p0 v0ls v1ls v2ls) dX10_far_8 mw170 mw30 mw31 mw15 mw32 rfl 8 rfl rfl 0 _ rfl (by unfold yOk; decide) rfl (Nat.le_of_ble_eq_true rfl) (Nat.le_of_ble_eq_true rfl) (Nat.le_of_ble_eq_true rfl) (Nat.le_of_ble_eq_true rfl) (Nat.le_of_ble_eq_true rfl) rfl rfl (by decide) rfl (by decide) (by decide) ?_
  rintro r w ⟨rfl, rfl⟩
  refine k_ws [(h0, .inr (10, [v0h0, .ref tl, v2h0, v3h0, v4h0, v5h0, v6h0, v7h0, v8h0, v9h0])), (tl, .inr (3, [v0tl, v1tl, v2tl, v3tl, v4tl, v5tl, v6tl, .ref ls])), (ls, .inr (8, [v0ls, v1ls, v2ls, .int 0]))] rfl ?_
  refine k_if_ne 20 X dX10_far_11 (by decide) (fun h_1 => absurd h_1 (by decide)) (fun _ => ?_)
  refine k_aload_n X dX10_far_14 0 rfl ?_
  refine k_iconst (v := 1) X dX10_far_15 (by decide) ?_
  refine k_callVI (n := 1) (As := [.int 1]) (st := []) X [(h0, .inr (10, [v0h0, .ref tl, v2h0, v3h0, v4h0, v5h0, v6h0, v7h0, v8h0, v9h0]))] [(tl, .inr (3, [v0tl, v1tl, v2tl, v3tl, v4tl, v5tl, v6tl, .ref ls])), (ls, .inr (8, [v0ls, v1ls, v2ls, .int 0]))] [0] [1, 2] (c_refuse l g h0 1 v0h0 (.ref tl) v2h0 v3h0 v4h0 v5h0 v6h0 v7h0 v8h0 v9h0) dX10_far_16 mw176 mw177 mw178 mw174 mw179 rfl 10 rfl rfl 0 _ rfl (by unfold yOk; decide) rfl (Nat.le_of_ble_eq_true rfl) (Nat.le_of_ble_eq_true rfl) (Nat.le_of_ble_eq_true rfl) (Nat.le_of_ble_eq_true rfl) (Nat.le_of_ble_eq_true rfl) rfl rfl (by decide) rfl (by decide) (by decide) ?_
  rintro r w ⟨rfl, rfl⟩
  refine k_ws [(tl, .inr (3, [v0tl, v1tl, v2tl, v3tl, v4tl, v5tl, v6tl, .ref ls])), (ls, .inr (8, [v0ls, v1ls, v2ls, .int 0]))] rfl ?_
  exact k_iret X hr dX10_far_19 (Nat.le_of_ble_eq_true rfl) (Nat.le_of_ble_eq_true rfl) [] (by decide) rfl rfl ⟨rfl, rfl⟩

theorem dX10_holds_0 : decode cX10_holds 0 = .ok (.aload_n 0, 1) := by decide +kernel
theorem dX10_holds_1 : decode cX10_holds 1 = .ok (.getfield 26, 3) := by decide +kernel
theorem dX10_holds_4 : decode cX10_holds 4 = .ok (.iload_n 1, 1) := by decide +kernel
theorem dX10_holds_5 : decode cX10_holds 5 = .ok (.invokevirtual 273, 3) := by decide +kernel
theorem dX10_holds_8 : decode cX10_holds 8 = .ok (.ifCond .ne 10, 3) := by decide +kernel
theorem dX10_holds_11 : decode cX10_holds 11 = .ok (.aload_n 0, 1) := by decide +kernel
theorem dX10_holds_12 : decode cX10_holds 12 = .ok (.iconst 1, 1) := by decide +kernel
theorem dX10_holds_13 : decode cX10_holds 13 = .ok (.invokevirtual 83, 3) := by decide +kernel
theorem dX10_holds_16 : decode cX10_holds 16 = .ok (.i2l, 1) := by decide +kernel
theorem dX10_holds_17 : decode cX10_holds 17 = .ok (.lreturn, 1) := by decide +kernel
set_option maxHeartbeats 4000000 in
set_option maxRecDepth 100000 in
theorem m_holds (l : Launch) (g : Gx) (h0 : Nat) (p0 : Int32) (p1 : Int32) (p2 : Int32) (v0h0 : Value) (v1h0 : Value) (nw : Nat) (v3h0 : Value) (v4h0 : Value) (v5h0 : Value) (v6h0 : Value) (v7h0 : Value) (v8h0 : Value) (v9h0 : Value) (v0nw : Value) (v1nw : Value) (nk : Nat) (v3nw : Value) (v4nw : Value) (v5nw : Value) (v0nk : Value) (v1nk : Value) (v2nk : Value) : cL l g yX10_holds cX10_holds 4 (some .long) 2 42 0 0 [.ref h0, .int p0, .int p1, .int p2] [(h0, .inr (10, [v0h0, v1h0, .ref nw, v3h0, v4h0, v5h0, v6h0, v7h0, v8h0, v9h0])), (nw, .inr (7, [v0nw, v1nw, .ref nk, v3nw, v4nw, v5nw])), (nk, .inr (8, [v0nk, v1nk, v2nk, .int 0]))] (fun r w => r = (-1) ∧ w = []) := by
  refine cL.of (by decide) (Nat.le_of_ble_eq_true rfl) ?_
  intro p e s m args below meth c A X hr hi
  refine k_lveq [(0, .ref h0), (1, .int p0), (2, .int p1), (3, .int p2)] rfl ?_
  refine k_aload_n X dX10_holds_0 0 rfl ?_
  refine k_get (ci := 10) X inlX10 rfl 2 (by decide) dX10_holds_1 mw128 0 rfl rfl ?_
  refine k_iload_n X dX10_holds_4 1 rfl ?_
  refine k_callVI (n := 1) (As := [.int p0]) (st := []) X [(nw, .inr (7, [v0nw, v1nw, .ref nk, v3nw, v4nw, v5nw])), (nk, .inr (8, [v0nk, v1nk, v2nk, .int 0]))] [(h0, .inr (10, [v0h0, v1h0, .ref nw, v3h0, v4h0, v5h0, v6h0, v7h0, v8h0, v9h0]))] [1, 2] [0] (c_S_isWeak l g nw p0 v0nw v1nw nk v3nw v4nw v5nw v0nk v1nk v2nk) dX10_holds_5 mw203 mw204 mw205 mw36 mw206 rfl 7 rfl rfl 0 _ rfl (by unfold yOk; decide) rfl (Nat.le_of_ble_eq_true rfl) (Nat.le_of_ble_eq_true rfl) (Nat.le_of_ble_eq_true rfl) (Nat.le_of_ble_eq_true rfl) (Nat.le_of_ble_eq_true rfl) rfl rfl (by decide) rfl (by decide) (by decide) ?_
  rintro r w ⟨rfl, rfl⟩
  refine k_ws [(h0, .inr (10, [v0h0, v1h0, .ref nw, v3h0, v4h0, v5h0, v6h0, v7h0, v8h0, v9h0])), (nw, .inr (7, [v0nw, v1nw, .ref nk, v3nw, v4nw, v5nw])), (nk, .inr (8, [v0nk, v1nk, v2nk, .int 0]))] rfl ?_
  refine k_if_ne 18 X dX10_holds_8 (by decide) (fun h_1 => absurd h_1 (by decide)) (fun _ => ?_)
  refine k_aload_n X dX10_holds_11 0 rfl ?_
  refine k_iconst (v := 1) X dX10_holds_12 (by decide) ?_
  refine k_callVI (n := 1) (As := [.int 1]) (st := []) X [(h0, .inr (10, [v0h0, v1h0, .ref nw, v3h0, v4h0, v5h0, v6h0, v7h0, v8h0, v9h0]))] [(nw, .inr (7, [v0nw, v1nw, .ref nk, v3nw, v4nw, v5nw])), (nk, .inr (8, [v0nk, v1nk, v2nk, .int 0]))] [0] [1, 2] (c_refuse l g h0 1 v0h0 v1h0 (.ref nw) v3h0 v4h0 v5h0 v6h0 v7h0 v8h0 v9h0) dX10_holds_13 mw176 mw177 mw178 mw174 mw179 rfl 10 rfl rfl 0 _ rfl (by unfold yOk; decide) rfl (Nat.le_of_ble_eq_true rfl) (Nat.le_of_ble_eq_true rfl) (Nat.le_of_ble_eq_true rfl) (Nat.le_of_ble_eq_true rfl) (Nat.le_of_ble_eq_true rfl) rfl rfl (by decide) rfl (by decide) (by decide) ?_
  rintro r w ⟨rfl, rfl⟩
  refine k_ws [(nw, .inr (7, [v0nw, v1nw, .ref nk, v3nw, v4nw, v5nw])), (nk, .inr (8, [v0nk, v1nk, v2nk, .int 0]))] rfl ?_
  refine k_i2l X dX10_holds_16 ?_
  refine k_toL (-1) (by decide) ?_
  exact k_lret X hr dX10_holds_17 (Nat.le_of_ble_eq_true rfl) (Nat.le_of_ble_eq_true rfl) [] (by decide) rfl rfl ⟨rfl, rfl⟩

theorem dX10_pays_0 : decode cX10_pays 0 = .ok (.aload_n 0, 1) := by decide +kernel
theorem dX10_pays_1 : decode cX10_pays 1 = .ok (.getfield 26, 3) := by decide +kernel
theorem dX10_pays_4 : decode cX10_pays 4 = .ok (.iload_n 1, 1) := by decide +kernel
theorem dX10_pays_5 : decode cX10_pays 5 = .ok (.invokevirtual 273, 3) := by decide +kernel
theorem dX10_pays_8 : decode cX10_pays 8 = .ok (.ifCond .ne 9, 3) := by decide +kernel
theorem dX10_pays_11 : decode cX10_pays 11 = .ok (.aload_n 0, 1) := by decide +kernel
theorem dX10_pays_12 : decode cX10_pays 12 = .ok (.iconst 1, 1) := by decide +kernel
theorem dX10_pays_13 : decode cX10_pays 13 = .ok (.invokevirtual 83, 3) := by decide +kernel
theorem dX10_pays_16 : decode cX10_pays 16 = .ok (.ireturn, 1) := by decide +kernel
set_option maxHeartbeats 4000000 in
set_option maxRecDepth 100000 in
theorem m_pays (l : Launch) (g : Gx) (h0 : Nat) (p0 : Int32) (p1 : Int32) (v0h0 : Value) (v1h0 : Value) (nw : Nat) (v3h0 : Value) (v4h0 : Value) (v5h0 : Value) (v6h0 : Value) (v7h0 : Value) (v8h0 : Value) (v9h0 : Value) (v0nw : Value) (v1nw : Value) (nk : Nat) (v3nw : Value) (v4nw : Value) (v5nw : Value) (v0nk : Value) (v1nk : Value) (v2nk : Value) : cI l g yX10_pays cX10_pays 5 (some .int) 2 42 0 0 [.ref h0, .int p0, .int p1] [(h0, .inr (10, [v0h0, v1h0, .ref nw, v3h0, v4h0, v5h0, v6h0, v7h0, v8h0, v9h0])), (nw, .inr (7, [v0nw, v1nw, .ref nk, v3nw, v4nw, v5nw])), (nk, .inr (8, [v0nk, v1nk, v2nk, .int 0]))] (fun r w => r = (-1) ∧ w = []) := by
  refine cI.of (by decide) (Nat.le_of_ble_eq_true rfl) ?_
  intro p e s m args below meth c A X hr hi
  refine k_lveq [(0, .ref h0), (1, .int p0), (2, .int p1)] rfl ?_
  refine k_aload_n X dX10_pays_0 0 rfl ?_
  refine k_get (ci := 10) X inlX10 rfl 2 (by decide) dX10_pays_1 mw128 0 rfl rfl ?_
  refine k_iload_n X dX10_pays_4 1 rfl ?_
  refine k_callVI (n := 1) (As := [.int p0]) (st := []) X [(nw, .inr (7, [v0nw, v1nw, .ref nk, v3nw, v4nw, v5nw])), (nk, .inr (8, [v0nk, v1nk, v2nk, .int 0]))] [(h0, .inr (10, [v0h0, v1h0, .ref nw, v3h0, v4h0, v5h0, v6h0, v7h0, v8h0, v9h0]))] [1, 2] [0] (c_S_isWeak l g nw p0 v0nw v1nw nk v3nw v4nw v5nw v0nk v1nk v2nk) dX10_pays_5 mw203 mw204 mw205 mw36 mw206 rfl 7 rfl rfl 0 _ rfl (by unfold yOk; decide) rfl (Nat.le_of_ble_eq_true rfl) (Nat.le_of_ble_eq_true rfl) (Nat.le_of_ble_eq_true rfl) (Nat.le_of_ble_eq_true rfl) (Nat.le_of_ble_eq_true rfl) rfl rfl (by decide) rfl (by decide) (by decide) ?_
  rintro r w ⟨rfl, rfl⟩
  refine k_ws [(h0, .inr (10, [v0h0, v1h0, .ref nw, v3h0, v4h0, v5h0, v6h0, v7h0, v8h0, v9h0])), (nw, .inr (7, [v0nw, v1nw, .ref nk, v3nw, v4nw, v5nw])), (nk, .inr (8, [v0nk, v1nk, v2nk, .int 0]))] rfl ?_
  refine k_if_ne 17 X dX10_pays_8 (by decide) (fun h_1 => absurd h_1 (by decide)) (fun _ => ?_)
  refine k_aload_n X dX10_pays_11 0 rfl ?_
  refine k_iconst (v := 1) X dX10_pays_12 (by decide) ?_
  refine k_callVI (n := 1) (As := [.int 1]) (st := []) X [(h0, .inr (10, [v0h0, v1h0, .ref nw, v3h0, v4h0, v5h0, v6h0, v7h0, v8h0, v9h0]))] [(nw, .inr (7, [v0nw, v1nw, .ref nk, v3nw, v4nw, v5nw])), (nk, .inr (8, [v0nk, v1nk, v2nk, .int 0]))] [0] [1, 2] (c_refuse l g h0 1 v0h0 v1h0 (.ref nw) v3h0 v4h0 v5h0 v6h0 v7h0 v8h0 v9h0) dX10_pays_13 mw176 mw177 mw178 mw174 mw179 rfl 10 rfl rfl 0 _ rfl (by unfold yOk; decide) rfl (Nat.le_of_ble_eq_true rfl) (Nat.le_of_ble_eq_true rfl) (Nat.le_of_ble_eq_true rfl) (Nat.le_of_ble_eq_true rfl) (Nat.le_of_ble_eq_true rfl) rfl rfl (by decide) rfl (by decide) (by decide) ?_
  rintro r w ⟨rfl, rfl⟩
  refine k_ws [(nw, .inr (7, [v0nw, v1nw, .ref nk, v3nw, v4nw, v5nw])), (nk, .inr (8, [v0nk, v1nk, v2nk, .int 0]))] rfl ?_
  exact k_iret X hr dX10_pays_16 (Nat.le_of_ble_eq_true rfl) (Nat.le_of_ble_eq_true rfl) [] (by decide) rfl rfl ⟨rfl, rfl⟩

theorem dX10_mend_0 : decode cX10_mend 0 = .ok (.aload_n 0, 1) := by decide +kernel
theorem dX10_mend_1 : decode cX10_mend 1 = .ok (.getfield 26, 3) := by decide +kernel
theorem dX10_mend_4 : decode cX10_mend 4 = .ok (.getfield 144, 3) := by decide +kernel
theorem dX10_mend_7 : decode cX10_mend 7 = .ok (.iload_n 1, 1) := by decide +kernel
theorem dX10_mend_8 : decode cX10_mend 8 = .ok (.invokevirtual 127, 3) := by decide +kernel
theorem dX10_mend_11 : decode cX10_mend 11 = .ok (.ifCond .ne 9, 3) := by decide +kernel
theorem dX10_mend_14 : decode cX10_mend 14 = .ok (.aload_n 0, 1) := by decide +kernel
theorem dX10_mend_15 : decode cX10_mend 15 = .ok (.iconst 1, 1) := by decide +kernel
theorem dX10_mend_16 : decode cX10_mend 16 = .ok (.invokevirtual 83, 3) := by decide +kernel
theorem dX10_mend_19 : decode cX10_mend 19 = .ok (.ireturn, 1) := by decide +kernel
set_option maxHeartbeats 4000000 in
set_option maxRecDepth 100000 in
theorem m_mend (l : Launch) (g : Gx) (h0 : Nat) (p0 : Int32) (v0h0 : Value) (v1h0 : Value) (nw : Nat) (v3h0 : Value) (v4h0 : Value) (v5h0 : Value) (v6h0 : Value) (v7h0 : Value) (v8h0 : Value) (v9h0 : Value) (v0nw : Value) (v1nw : Value) (nk : Nat) (v3nw : Value) (v4nw : Value) (v5nw : Value) (v0nk : Value) (v1nk : Value) (v2nk : Value) : cI l g yX10_mend cX10_mend 3 (some .int) 1 21 0 0 [.ref h0, .int p0] [(h0, .inr (10, [v0h0, v1h0, .ref nw, v3h0, v4h0, v5h0, v6h0, v7h0, v8h0, v9h0])), (nw, .inr (7, [v0nw, v1nw, .ref nk, v3nw, v4nw, v5nw])), (nk, .inr (8, [v0nk, v1nk, v2nk, .int 0]))] (fun r w => r = (-1) ∧ w = []) := by
  refine cI.of (by decide) (Nat.le_of_ble_eq_true rfl) ?_
  intro p e s m args below meth c A X hr hi
  refine k_lveq [(0, .ref h0), (1, .int p0)] rfl ?_
  refine k_aload_n X dX10_mend_0 0 rfl ?_
  refine k_get (ci := 10) X inlX10 rfl 2 (by decide) dX10_mend_1 mw128 0 rfl rfl ?_
  refine k_get (ci := 7) X inlX7 rfl 2 (by decide) dX10_mend_4 mw207 1 rfl rfl ?_
  refine k_iload_n X dX10_mend_7 1 rfl ?_
  refine k_callVI (n := 1) (As := [.int p0]) (st := []) X [(nk, .inr (8, [v0nk, v1nk, v2nk, .int 0]))] [(h0, .inr (10, [v0h0, v1h0, .ref nw, v3h0, v4h0, v5h0, v6h0, v7h0, v8h0, v9h0])), (nw, .inr (7, [v0nw, v1nw, .ref nk, v3nw, v4nw, v5nw]))] [2] [0, 1] (c_T_has l g nk p0 v0nk v1nk v2nk) dX10_mend_8 mw170 mw30 mw31 mw15 mw32 rfl 8 rfl rfl 0 _ rfl (by unfold yOk; decide) rfl (Nat.le_of_ble_eq_true rfl) (Nat.le_of_ble_eq_true rfl) (Nat.le_of_ble_eq_true rfl) (Nat.le_of_ble_eq_true rfl) (Nat.le_of_ble_eq_true rfl) rfl rfl (by decide) rfl (by decide) (by decide) ?_
  rintro r w ⟨rfl, rfl⟩
  refine k_ws [(h0, .inr (10, [v0h0, v1h0, .ref nw, v3h0, v4h0, v5h0, v6h0, v7h0, v8h0, v9h0])), (nw, .inr (7, [v0nw, v1nw, .ref nk, v3nw, v4nw, v5nw])), (nk, .inr (8, [v0nk, v1nk, v2nk, .int 0]))] rfl ?_
  refine k_if_ne 20 X dX10_mend_11 (by decide) (fun h_1 => absurd h_1 (by decide)) (fun _ => ?_)
  refine k_aload_n X dX10_mend_14 0 rfl ?_
  refine k_iconst (v := 1) X dX10_mend_15 (by decide) ?_
  refine k_callVI (n := 1) (As := [.int 1]) (st := []) X [(h0, .inr (10, [v0h0, v1h0, .ref nw, v3h0, v4h0, v5h0, v6h0, v7h0, v8h0, v9h0]))] [(nw, .inr (7, [v0nw, v1nw, .ref nk, v3nw, v4nw, v5nw])), (nk, .inr (8, [v0nk, v1nk, v2nk, .int 0]))] [0] [1, 2] (c_refuse l g h0 1 v0h0 v1h0 (.ref nw) v3h0 v4h0 v5h0 v6h0 v7h0 v8h0 v9h0) dX10_mend_16 mw176 mw177 mw178 mw174 mw179 rfl 10 rfl rfl 0 _ rfl (by unfold yOk; decide) rfl (Nat.le_of_ble_eq_true rfl) (Nat.le_of_ble_eq_true rfl) (Nat.le_of_ble_eq_true rfl) (Nat.le_of_ble_eq_true rfl) (Nat.le_of_ble_eq_true rfl) rfl rfl (by decide) rfl (by decide) (by decide) ?_
  rintro r w ⟨rfl, rfl⟩
  refine k_ws [(nw, .inr (7, [v0nw, v1nw, .ref nk, v3nw, v4nw, v5nw])), (nk, .inr (8, [v0nk, v1nk, v2nk, .int 0]))] rfl ?_
  exact k_iret X hr dX10_mend_19 (Nat.le_of_ble_eq_true rfl) (Nat.le_of_ble_eq_true rfl) [] (by decide) rfl rfl ⟨rfl, rfl⟩

theorem dX10_undo_0 : decode cX10_undo 0 = .ok (.aload_n 0, 1) := by decide +kernel
theorem dX10_undo_1 : decode cX10_undo 1 = .ok (.getfield 33, 3) := by decide +kernel
theorem dX10_undo_4 : decode cX10_undo 4 = .ok (.aload_n 0, 1) := by decide +kernel
theorem dX10_undo_5 : decode cX10_undo 5 = .ok (.getfield 26, 3) := by decide +kernel
theorem dX10_undo_8 : decode cX10_undo 8 = .ok (.invokevirtual 352, 3) := by decide +kernel
theorem dX10_undo_11 : decode cX10_undo 11 = .ok (.ifCond .ne 10, 3) := by decide +kernel
theorem dX10_undo_14 : decode cX10_undo 14 = .ok (.aload_n 0, 1) := by decide +kernel
theorem dX10_undo_15 : decode cX10_undo 15 = .ok (.bipush 6, 2) := by decide +kernel
theorem dX10_undo_17 : decode cX10_undo 17 = .ok (.invokevirtual 337, 3) := by decide +kernel
theorem dX10_undo_20 : decode cX10_undo 20 = .ok (.ireturn, 1) := by decide +kernel
set_option maxHeartbeats 4000000 in
set_option maxRecDepth 100000 in
theorem m_undo (l : Launch) (g : Gx) (h0 : Nat) (v0h0 : Value) (v1h0 : Value) (nw : Nat) (kp : Nat) (v4h0 : Value) (v5h0 : Value) (v6h0 : Value) (v7h0 : Value) (v8h0 : Value) (v9h0 : Value) (v0kp : Value) (v1kp : Value) (v3kp : Value) (v4kp : Value) : cI l g yX10_undo cX10_undo 1 (some .boolean) 1 21 0 0 [.ref h0] [(h0, .inr (10, [v0h0, v1h0, .ref nw, .ref kp, v4h0, v5h0, v6h0, v7h0, v8h0, v9h0])), (kp, .inr (4, [v0kp, v1kp, .int 0, v3kp, v4kp]))] (fun r w => r = 0 ∧ w = []) := by
  refine cI.of (by decide) (Nat.le_of_ble_eq_true rfl) ?_
  intro p e s m args below meth c A X hr hi
  refine k_lveq [(0, .ref h0)] rfl ?_
  refine k_aload_n X dX10_undo_0 0 rfl ?_
  refine k_get (ci := 10) X inlX10 rfl 3 (by decide) dX10_undo_1 mw135 0 rfl rfl ?_
  refine k_aload_n X dX10_undo_4 0 rfl ?_
  refine k_get (ci := 10) X inlX10 rfl 2 (by decide) dX10_undo_5 mw128 0 rfl rfl ?_
  refine k_callVI (n := 1) (As := [.ref nw]) (st := []) X [(kp, .inr (4, [v0kp, v1kp, .int 0, v3kp, v4kp]))] [(h0, .inr (10, [v0h0, v1h0, .ref nw, .ref kp, v4h0, v5h0, v6h0, v7h0, v8h0, v9h0]))] [1] [0] (c_takeBack l g kp nw v0kp v1kp v3kp v4kp) dX10_undo_8 mw208 mw209 mw210 mw131 mw211 rfl 4 rfl rfl 0 _ rfl (by unfold yOk; decide) rfl (Nat.le_of_ble_eq_true rfl) (Nat.le_of_ble_eq_true rfl) (Nat.le_of_ble_eq_true rfl) (Nat.le_of_ble_eq_true rfl) (Nat.le_of_ble_eq_true rfl) rfl rfl (by decide) rfl (by decide) (by decide) ?_
  rintro r w ⟨rfl, rfl⟩
  refine k_ws [(h0, .inr (10, [v0h0, v1h0, .ref nw, .ref kp, v4h0, v5h0, v6h0, v7h0, v8h0, v9h0]))] rfl ?_
  refine k_if_ne 21 X dX10_undo_11 (by decide) (fun h_1 => absurd h_1 (by decide)) (fun _ => ?_)
  refine k_aload_n X dX10_undo_14 0 rfl ?_
  refine k_bipush (v := 6) X dX10_undo_15 (by decide) ?_
  refine k_callVI (n := 1) (As := [.int 6]) (st := []) X [(h0, .inr (10, [v0h0, v1h0, .ref nw, .ref kp, v4h0, v5h0, v6h0, v7h0, v8h0, v9h0]))] [] [0] [] (c_refuseAct l g h0 6 v0h0 v1h0 (.ref nw) (.ref kp) v4h0 v5h0 v6h0 v7h0 v8h0 v9h0) dX10_undo_17 mw194 mw195 mw196 mw174 mw197 rfl 10 rfl rfl 0 _ rfl (by unfold yOk; decide) rfl (Nat.le_of_ble_eq_true rfl) (Nat.le_of_ble_eq_true rfl) (Nat.le_of_ble_eq_true rfl) (Nat.le_of_ble_eq_true rfl) (Nat.le_of_ble_eq_true rfl) rfl rfl (by decide) rfl (by decide) (by decide) ?_
  rintro r w ⟨rfl, rfl⟩
  refine k_ws [] rfl ?_
  exact k_zret X hr rfl dX10_undo_20 (Nat.le_of_ble_eq_true rfl) (Nat.le_of_ble_eq_true rfl) [] (by decide) rfl rfl ⟨rfl, rfl⟩

theorem dX10_back_0 : decode cX10_back 0 = .ok (.aload_n 0, 1) := by decide +kernel
theorem dX10_back_1 : decode cX10_back 1 = .ok (.getfield 33, 3) := by decide +kernel
theorem dX10_back_4 : decode cX10_back 4 = .ok (.iload_n 1, 1) := by decide +kernel
theorem dX10_back_5 : decode cX10_back 5 = .ok (.aload_n 0, 1) := by decide +kernel
theorem dX10_back_6 : decode cX10_back 6 = .ok (.getfield 26, 3) := by decide +kernel
theorem dX10_back_9 : decode cX10_back 9 = .ok (.invokevirtual 359, 3) := by decide +kernel
theorem dX10_back_12 : decode cX10_back 12 = .ok (.ifCond .ne 9, 3) := by decide +kernel
theorem dX10_back_15 : decode cX10_back 15 = .ok (.aload_n 0, 1) := by decide +kernel
theorem dX10_back_16 : decode cX10_back 16 = .ok (.iconst 1, 1) := by decide +kernel
theorem dX10_back_17 : decode cX10_back 17 = .ok (.invokevirtual 337, 3) := by decide +kernel
theorem dX10_back_20 : decode cX10_back 20 = .ok (.ireturn, 1) := by decide +kernel
set_option maxHeartbeats 4000000 in
set_option maxRecDepth 100000 in
theorem m_back (l : Launch) (g : Gx) (h0 : Nat) (p0 : Int32) (v0h0 : Value) (v1h0 : Value) (nw : Nat) (kp : Nat) (v4h0 : Value) (v5h0 : Value) (v6h0 : Value) (v7h0 : Value) (v8h0 : Value) (v9h0 : Value) (v0kp : Value) (v1kp : Value) (v2kp : Value) (v3kp : Value) : cI l g yX10_back cX10_back 2 (some .boolean) 1 22 0 0 [.ref h0, .int p0] [(h0, .inr (10, [v0h0, v1h0, .ref nw, .ref kp, v4h0, v5h0, v6h0, v7h0, v8h0, v9h0])), (kp, .inr (4, [v0kp, v1kp, v2kp, v3kp, .int 0]))] (fun r w => r = 0 ∧ w = []) := by
  refine cI.of (by decide) (Nat.le_of_ble_eq_true rfl) ?_
  intro p e s m args below meth c A X hr hi
  refine k_lveq [(0, .ref h0), (1, .int p0)] rfl ?_
  refine k_aload_n X dX10_back_0 0 rfl ?_
  refine k_get (ci := 10) X inlX10 rfl 3 (by decide) dX10_back_1 mw135 0 rfl rfl ?_
  refine k_iload_n X dX10_back_4 1 rfl ?_
  refine k_aload_n X dX10_back_5 0 rfl ?_
  refine k_get (ci := 10) X inlX10 rfl 2 (by decide) dX10_back_6 mw128 0 rfl rfl ?_
  refine k_callVI (n := 2) (As := [.int p0, .ref nw]) (st := []) X [(kp, .inr (4, [v0kp, v1kp, v2kp, v3kp, .int 0]))] [(h0, .inr (10, [v0h0, v1h0, .ref nw, .ref kp, v4h0, v5h0, v6h0, v7h0, v8h0, v9h0]))] [1] [0] (c_goBack l g kp p0 nw v0kp v1kp v2kp v3kp) dX10_back_9 mw212 mw213 mw214 mw131 mw215 rfl 4 rfl rfl 0 _ rfl (by unfold yOk; decide) rfl (Nat.le_of_ble_eq_true rfl) (Nat.le_of_ble_eq_true rfl) (Nat.le_of_ble_eq_true rfl) (Nat.le_of_ble_eq_true rfl) (Nat.le_of_ble_eq_true rfl) rfl rfl (by decide) rfl (by decide) (by decide) ?_
  rintro r w ⟨rfl, rfl⟩
  refine k_ws [(h0, .inr (10, [v0h0, v1h0, .ref nw, .ref kp, v4h0, v5h0, v6h0, v7h0, v8h0, v9h0]))] rfl ?_
  refine k_if_ne 21 X dX10_back_12 (by decide) (fun h_1 => absurd h_1 (by decide)) (fun _ => ?_)
  refine k_aload_n X dX10_back_15 0 rfl ?_
  refine k_iconst (v := 1) X dX10_back_16 (by decide) ?_
  refine k_callVI (n := 1) (As := [.int 1]) (st := []) X [(h0, .inr (10, [v0h0, v1h0, .ref nw, .ref kp, v4h0, v5h0, v6h0, v7h0, v8h0, v9h0]))] [] [0] [] (c_refuseAct l g h0 1 v0h0 v1h0 (.ref nw) (.ref kp) v4h0 v5h0 v6h0 v7h0 v8h0 v9h0) dX10_back_17 mw194 mw195 mw196 mw174 mw197 rfl 10 rfl rfl 0 _ rfl (by unfold yOk; decide) rfl (Nat.le_of_ble_eq_true rfl) (Nat.le_of_ble_eq_true rfl) (Nat.le_of_ble_eq_true rfl) (Nat.le_of_ble_eq_true rfl) (Nat.le_of_ble_eq_true rfl) rfl rfl (by decide) rfl (by decide) (by decide) ?_
  rintro r w ⟨rfl, rfl⟩
  refine k_ws [] rfl ?_
  exact k_zret X hr rfl dX10_back_20 (Nat.le_of_ble_eq_true rfl) (Nat.le_of_ble_eq_true rfl) [] (by decide) rfl rfl ⟨rfl, rfl⟩

theorem dX10_trouble_0 : decode cX10_trouble 0 = .ok (.aload_n 0, 1) := by decide +kernel
theorem dX10_trouble_1 : decode cX10_trouble 1 = .ok (.getfield 72, 3) := by decide +kernel
theorem dX10_trouble_4 : decode cX10_trouble 4 = .ok (.ireturn, 1) := by decide +kernel
set_option maxHeartbeats 4000000 in
set_option maxRecDepth 100000 in
theorem m_trouble (l : Launch) (g : Gx) (h0 : Nat) (v0h0 : Value) (v1h0 : Value) (v2h0 : Value) (v3h0 : Value) (v4h0 : Value) (v5h0 : Value) (v6h0 : Value) (v7h0 : Value) (v8h0 : Value) : cI l g yX10_trouble cX10_trouble 1 (some .int) 0 0 0 0 [.ref h0] [(h0, .inr (10, [v0h0, v1h0, v2h0, v3h0, v4h0, v5h0, v6h0, v7h0, v8h0, .int 0]))] (fun r w => r = 0 ∧ w = []) := by
  refine cI.of (by decide) (Nat.le_of_ble_eq_true rfl) ?_
  intro p e s m args below meth c A X hr hi
  refine k_lveq [(0, .ref h0)] rfl ?_
  refine k_aload_n X dX10_trouble_0 0 rfl ?_
  refine k_get (ci := 10) X inlX10 rfl 9 (by decide) dX10_trouble_1 mw166 0 rfl rfl ?_
  exact k_iret X hr dX10_trouble_4 (Nat.le_of_ble_eq_true rfl) (Nat.le_of_ble_eq_true rfl) [] (by decide) rfl rfl ⟨rfl, rfl⟩
