theorem dX2_set_0 : decode cX2_set 0 = .ok (.aload_n 0, 1) := dk_42 rfl
theorem dX2_set_1 : decode cX2_set 1 = .ok (.lload_n 1, 1) := dk_31 rfl
theorem dX2_set_2 : decode cX2_set 2 = .ok (.putfield 7, 3) := dk_181 rfl rfl rfl rfl
theorem dX2_set_5 : decode cX2_set 5 = .ok (.aload_n 0, 1) := dk_42 rfl
theorem dX2_set_6 : decode cX2_set 6 = .ok (.lload_n 3, 1) := dk_33 rfl
theorem dX2_set_7 : decode cX2_set 7 = .ok (.putfield 13, 3) := dk_181 rfl rfl rfl rfl
theorem dX2_set_10 : decode cX2_set 10 = .ok (.return_, 1) := dk_177 rfl
set_option maxHeartbeats 4000000 in
set_option maxRecDepth 100000 in
theorem f_set (l : Launch) (g : Gx) (h0 : Nat) (p0 : Int64) (p1 : Int64) (xu : Int64) (xv : Int64) : cV l g yX2_set cX2_set 5 0 0 0 0 [.ref h0, .long p0, .long p1] [(cO2_ll h0 xu xv)] (fun w => ∃ (xu2 : Int64) (xv2 : Int64), w = [(cO2_ll h0 xu2 xv2)]) := by
  refine cV.of (by decide) (Nat.le_of_ble_eq_true rfl) ?_
  intro p e s m args below meth c A X hr hi
  refine k_lveq [(0, .ref h0), (1, .long p0), (3, .long p1)] rfl ?_
  refine k_aload_n X dX2_set_0 0 rfl ?_
  refine k_lload_n X dX2_set_1 1 rfl ?_
  refine k_put (ci := 2) [(cO2_ll h0 p0 xv)] X inlX2 rfl tyX2_ok nmX2 0 (by decide) rfl dX2_set_2 mw161 0 rfl rfl rfl (Nat.le_of_ble_eq_true rfl) rfl ?_
  refine k_aload_n X dX2_set_5 0 rfl ?_
  refine k_lload_n X dX2_set_6 2 rfl ?_
  refine k_put (ci := 2) [(cO2_ll h0 p0 p1)] X inlX2 rfl tyX2_ok nmX2 1 (by decide) rfl dX2_set_7 mw162 0 rfl rfl rfl (Nat.le_of_ble_eq_true rfl) rfl ?_
  exact k_vret X hr dX2_set_10 (Nat.le_of_ble_eq_true rfl) (Nat.le_of_ble_eq_true rfl) [0] (by decide) rfl rfl ⟨p0, p1, rfl⟩

theorem dX2_setPower_0 : decode cX2_setPower 0 = .ok (.aload_n 0, 1) := dk_42 rfl
theorem dX2_setPower_1 : decode cX2_setPower 1 = .ok (.lconst 1, 1) := dk_10 rfl
theorem dX2_setPower_2 : decode cX2_setPower 2 = .ok (.putfield 7, 3) := dk_181 rfl rfl rfl rfl
theorem dX2_setPower_5 : decode cX2_setPower 5 = .ok (.aload_n 0, 1) := dk_42 rfl
theorem dX2_setPower_6 : decode cX2_setPower 6 = .ok (.lconst 1, 1) := dk_10 rfl
theorem dX2_setPower_7 : decode cX2_setPower 7 = .ok (.putfield 13, 3) := dk_181 rfl rfl rfl rfl
theorem dX2_setPower_10 : decode cX2_setPower 10 = .ok (.iconst 0, 1) := dk_3 rfl
theorem dX2_setPower_11 : decode cX2_setPower 11 = .ok (.istore 4, 2) := dk_54 rfl rfl rfl
theorem dX2_setPower_13 : decode cX2_setPower 13 = .ok (.iload 4, 2) := dk_21 rfl rfl rfl
theorem dX2_setPower_15 : decode cX2_setPower 15 = .ok (.iload_n 3, 1) := dk_29 rfl
theorem dX2_setPower_16 : decode cX2_setPower 16 = .ok (.if_icmp .ge 31, 3) := dk_162 rfl rfl rfl (by decide)
theorem dX2_setPower_19 : decode cX2_setPower 19 = .ok (.aload_n 0, 1) := dk_42 rfl
theorem dX2_setPower_20 : decode cX2_setPower 20 = .ok (.dup, 1) := dk_89 rfl
theorem dX2_setPower_21 : decode cX2_setPower 21 = .ok (.getfield 7, 3) := dk_180 rfl rfl rfl rfl
theorem dX2_setPower_24 : decode cX2_setPower 24 = .ok (.iload_n 1, 1) := dk_27 rfl
theorem dX2_setPower_25 : decode cX2_setPower 25 = .ok (.i2l, 1) := dk_133 rfl
theorem dX2_setPower_26 : decode cX2_setPower 26 = .ok (.lmul, 1) := dk_105 rfl
theorem dX2_setPower_27 : decode cX2_setPower 27 = .ok (.putfield 7, 3) := dk_181 rfl rfl rfl rfl
theorem dX2_setPower_30 : decode cX2_setPower 30 = .ok (.aload_n 0, 1) := dk_42 rfl
theorem dX2_setPower_31 : decode cX2_setPower 31 = .ok (.dup, 1) := dk_89 rfl
theorem dX2_setPower_32 : decode cX2_setPower 32 = .ok (.getfield 13, 3) := dk_180 rfl rfl rfl rfl
theorem dX2_setPower_35 : decode cX2_setPower 35 = .ok (.iload_n 2, 1) := dk_28 rfl
theorem dX2_setPower_36 : decode cX2_setPower 36 = .ok (.i2l, 1) := dk_133 rfl
theorem dX2_setPower_37 : decode cX2_setPower 37 = .ok (.lmul, 1) := dk_105 rfl
theorem dX2_setPower_38 : decode cX2_setPower 38 = .ok (.putfield 13, 3) := dk_181 rfl rfl rfl rfl
theorem dX2_setPower_41 : decode cX2_setPower 41 = .ok (.iinc 4 1, 3) := dk_132 rfl rfl rfl rfl (by decide)
theorem dX2_setPower_44 : decode cX2_setPower 44 = .ok (.goto (-31), 3) := dk_167 rfl rfl rfl (by decide)
theorem dX2_setPower_47 : decode cX2_setPower 47 = .ok (.return_, 1) := dk_177 rfl
set_option maxHeartbeats 4000000 in
set_option maxRecDepth 100000 in
theorem f_setPower (l : Launch) (g : Gx) (h0 : Nat) (p0 : Int32) (p1 : Int32) (p2 : Int32) (xu : Int64) (xv : Int64) : cV l g yX2_setPower cX2_setPower 5 0 0 0 0 [.ref h0, .int p0, .int p1, .int p2] [(cO2_ll h0 xu xv)] (fun w => ∃ (xu2 : Int64) (xv2 : Int64), w = [(cO2_ll h0 xu2 xv2)]) := by
  refine cV.of (by decide) (Nat.le_of_ble_eq_true rfl) ?_
  intro p e s m args below meth c A X hr hi
  refine k_lveq [(0, .ref h0), (1, .int p0), (2, .int p1), (3, .int p2)] rfl ?_
  refine k_aload_n X dX2_setPower_0 0 rfl ?_
  refine k_lconst (v := 1) X dX2_setPower_1 (by decide) ?_
  refine k_put (ci := 2) [(cO2_ll h0 1 xv)] X inlX2 rfl tyX2_ok nmX2 0 (by decide) rfl dX2_setPower_2 mw161 0 rfl rfl rfl (Nat.le_of_ble_eq_true rfl) rfl ?_
  refine k_aload_n X dX2_setPower_5 0 rfl ?_
  refine k_lconst (v := 1) X dX2_setPower_6 (by decide) ?_
  refine k_put (ci := 2) [(cO2_ll h0 1 1)] X inlX2 rfl tyX2_ok nmX2 1 (by decide) rfl dX2_setPower_7 mw162 0 rfl rfl rfl (Nat.le_of_ble_eq_true rfl) rfl ?_
  refine k_iconst (v := 0) X dX2_setPower_10 (by decide) ?_
  refine k_istore [(4, .int 0), (0, .ref h0), (1, .int p0), (2, .int p1), (3, .int p2)] X dX2_setPower_11 (by decide) rfl ?_
  refine (fun hL : ∀ (nn_4 : Nat) (u_1 : Int32) (u_2 : Int64) (u_3 : Int64), (p2.toInt - u_1.toInt).toNat = nn_4 → Wk p l e _ s m args below meth c _ A g _ _ _ [(cO2_ll h0 u_2 u_3)] [(4, .int u_1), (0, .ref h0), (1, .int p0), (2, .int p1), (3, .int p2)] 13 [] => hL _ 0 1 1 rfl ) ?_
  refine fun nn_4 => Nat.strongRecOn nn_4 (fun nn_4 ih_6 => ?_)
  intro u_1 u_2 u_3 hm_5 
  refine k_iload X dX2_setPower_13 0 rfl ?_
  refine k_iload_n X dX2_setPower_15 4 rfl ?_
  refine k_ic_ge 47 X dX2_setPower_16 (by decide) (fun h_7 => ?_) (fun h_7 => ?_)
  · skip
    exact k_vret X hr dX2_setPower_47 (Nat.le_of_ble_eq_true rfl) (Nat.le_of_ble_eq_true rfl) [0] (by decide) rfl rfl ⟨u_2, u_3, rfl⟩
  · skip
    refine k_aload_n X dX2_setPower_19 1 rfl ?_
    refine k_dup X dX2_setPower_20 rfl ?_
    refine k_get (ci := 2) X inlX2 rfl 0 (by decide) dX2_setPower_21 mw161 0 rfl rfl ?_
    refine k_iload_n X dX2_setPower_24 2 rfl ?_
    refine k_i2l X dX2_setPower_25 ?_
    refine k_nmL (fun y_8 ey_8 => ?_)
    refine k_lmul X dX2_setPower_26 ?_
    refine k_nmL (fun y_9 ey_9 => ?_)
    refine k_put (ci := 2) [(cO2_ll h0 y_9 u_3)] X inlX2 rfl tyX2_ok nmX2 0 (by decide) rfl dX2_setPower_27 mw161 0 rfl rfl rfl (Nat.le_of_ble_eq_true rfl) rfl ?_
    refine k_aload_n X dX2_setPower_30 1 rfl ?_
    refine k_dup X dX2_setPower_31 rfl ?_
    refine k_get (ci := 2) X inlX2 rfl 1 (by decide) dX2_setPower_32 mw162 0 rfl rfl ?_
    refine k_iload_n X dX2_setPower_35 3 rfl ?_
    refine k_i2l X dX2_setPower_36 ?_
    refine k_nmL (fun y_10 ey_10 => ?_)
    refine k_lmul X dX2_setPower_37 ?_
    refine k_nmL (fun y_11 ey_11 => ?_)
    refine k_put (ci := 2) [(cO2_ll h0 y_9 y_11)] X inlX2 rfl tyX2_ok nmX2 1 (by decide) rfl dX2_setPower_38 mw162 0 rfl rfl rfl (Nat.le_of_ble_eq_true rfl) rfl ?_
    obtain ⟨z_12, ez_12⟩ : ∃ y : Int32, u_1 + Int32.ofInt 1 = y := ⟨_, rfl⟩
    refine k_iinc z_12 [(4, .int z_12), (0, .ref h0), (1, .int p0), (2, .int p1), (3, .int p2)] 0 X dX2_setPower_41 rfl ez_12 (by decide) rfl ?_
    refine k_goto 13 X dX2_setPower_44 (by decide) ?_
    exact ih_6 _ (by rw [← hm_5]; exact mu_lt (by assumption) (by assumption)) z_12 y_9 y_11 rfl 

theorem dX2_reduce_0 : decode cX2_reduce 0 = .ok (.aload_n 0, 1) := dk_42 rfl
theorem dX2_reduce_1 : decode cX2_reduce 1 = .ok (.getfield 7, 3) := dk_180 rfl rfl rfl rfl
theorem dX2_reduce_4 : decode cX2_reduce 4 = .ok (.lstore_n 1, 1) := dk_64 rfl
theorem dX2_reduce_5 : decode cX2_reduce 5 = .ok (.aload_n 0, 1) := dk_42 rfl
theorem dX2_reduce_6 : decode cX2_reduce 6 = .ok (.getfield 13, 3) := dk_180 rfl rfl rfl rfl
theorem dX2_reduce_9 : decode cX2_reduce 9 = .ok (.lstore_n 3, 1) := dk_66 rfl
theorem dX2_reduce_10 : decode cX2_reduce 10 = .ok (.iconst 0, 1) := dk_3 rfl
theorem dX2_reduce_11 : decode cX2_reduce 11 = .ok (.istore 5, 2) := dk_54 rfl rfl rfl
theorem dX2_reduce_13 : decode cX2_reduce 13 = .ok (.iload 5, 2) := dk_21 rfl rfl rfl
theorem dX2_reduce_15 : decode cX2_reduce 15 = .ok (.sipush 200, 3) := dk_17 rfl rfl rfl (by decide)
theorem dX2_reduce_18 : decode cX2_reduce 18 = .ok (.if_icmp .ge 25, 3) := dk_162 rfl rfl rfl (by decide)
theorem dX2_reduce_21 : decode cX2_reduce 21 = .ok (.lload_n 3, 1) := dk_33 rfl
theorem dX2_reduce_22 : decode cX2_reduce 22 = .ok (.lconst 0, 1) := dk_9 rfl
theorem dX2_reduce_23 : decode cX2_reduce 23 = .ok (.lcmp, 1) := dk_148 rfl
theorem dX2_reduce_24 : decode cX2_reduce 24 = .ok (.ifCond .le 19, 3) := dk_158 rfl rfl rfl (by decide)
theorem dX2_reduce_27 : decode cX2_reduce 27 = .ok (.lload_n 1, 1) := dk_31 rfl
theorem dX2_reduce_28 : decode cX2_reduce 28 = .ok (.lload_n 3, 1) := dk_33 rfl
theorem dX2_reduce_29 : decode cX2_reduce 29 = .ok (.lrem, 1) := dk_113 rfl
theorem dX2_reduce_30 : decode cX2_reduce 30 = .ok (.lstore 6, 2) := dk_55 rfl rfl rfl
theorem dX2_reduce_32 : decode cX2_reduce 32 = .ok (.lload_n 3, 1) := dk_33 rfl
theorem dX2_reduce_33 : decode cX2_reduce 33 = .ok (.lstore_n 1, 1) := dk_64 rfl
theorem dX2_reduce_34 : decode cX2_reduce 34 = .ok (.lload 6, 2) := dk_22 rfl rfl rfl
theorem dX2_reduce_36 : decode cX2_reduce 36 = .ok (.lstore_n 3, 1) := dk_66 rfl
theorem dX2_reduce_37 : decode cX2_reduce 37 = .ok (.iinc 5 1, 3) := dk_132 rfl rfl rfl rfl (by decide)
theorem dX2_reduce_40 : decode cX2_reduce 40 = .ok (.goto (-27), 3) := dk_167 rfl rfl rfl (by decide)
theorem dX2_reduce_43 : decode cX2_reduce 43 = .ok (.lload_n 1, 1) := dk_31 rfl
theorem dX2_reduce_44 : decode cX2_reduce 44 = .ok (.lconst 1, 1) := dk_10 rfl
theorem dX2_reduce_45 : decode cX2_reduce 45 = .ok (.lcmp, 1) := dk_148 rfl
theorem dX2_reduce_46 : decode cX2_reduce 46 = .ok (.ifCond .le 23, 3) := dk_158 rfl rfl rfl (by decide)
theorem dX2_reduce_49 : decode cX2_reduce 49 = .ok (.aload_n 0, 1) := dk_42 rfl
theorem dX2_reduce_50 : decode cX2_reduce 50 = .ok (.dup, 1) := dk_89 rfl
theorem dX2_reduce_51 : decode cX2_reduce 51 = .ok (.getfield 7, 3) := dk_180 rfl rfl rfl rfl
theorem dX2_reduce_54 : decode cX2_reduce 54 = .ok (.lload_n 1, 1) := dk_31 rfl
theorem dX2_reduce_55 : decode cX2_reduce 55 = .ok (.ldiv, 1) := dk_109 rfl
theorem dX2_reduce_56 : decode cX2_reduce 56 = .ok (.putfield 7, 3) := dk_181 rfl rfl rfl rfl
theorem dX2_reduce_59 : decode cX2_reduce 59 = .ok (.aload_n 0, 1) := dk_42 rfl
theorem dX2_reduce_60 : decode cX2_reduce 60 = .ok (.dup, 1) := dk_89 rfl
theorem dX2_reduce_61 : decode cX2_reduce 61 = .ok (.getfield 13, 3) := dk_180 rfl rfl rfl rfl
theorem dX2_reduce_64 : decode cX2_reduce 64 = .ok (.lload_n 1, 1) := dk_31 rfl
theorem dX2_reduce_65 : decode cX2_reduce 65 = .ok (.ldiv, 1) := dk_109 rfl
theorem dX2_reduce_66 : decode cX2_reduce 66 = .ok (.putfield 13, 3) := dk_181 rfl rfl rfl rfl
theorem dX2_reduce_69 : decode cX2_reduce 69 = .ok (.return_, 1) := dk_177 rfl
set_option maxHeartbeats 4000000 in
set_option maxRecDepth 100000 in
theorem f_reduce (l : Launch) (g : Gx) (h0 : Nat) (xu : Int64) (xv : Int64) : cV l g yX2_reduce cX2_reduce 8 0 0 0 0 [.ref h0] [(cO2_ll h0 xu xv)] (fun w => ∃ (xu2 : Int64) (xv2 : Int64), w = [(cO2_ll h0 xu2 xv2)]) := by
  refine cV.of (by decide) (Nat.le_of_ble_eq_true rfl) ?_
  intro p e s m args below meth c A X hr hi
  refine k_lveq [(0, .ref h0)] rfl ?_
  refine k_aload_n X dX2_reduce_0 0 rfl ?_
  refine k_get (ci := 2) X inlX2 rfl 0 (by decide) dX2_reduce_1 mw161 0 rfl rfl ?_
  refine k_lstore_n [(1, .long xu), (0, .ref h0)] X dX2_reduce_4 (by decide) rfl ?_
  refine k_aload_n X dX2_reduce_5 1 rfl ?_
  refine k_get (ci := 2) X inlX2 rfl 1 (by decide) dX2_reduce_6 mw162 0 rfl rfl ?_
  refine k_lstore_n [(3, .long xv), (1, .long xu), (0, .ref h0)] X dX2_reduce_9 (by decide) rfl ?_
  refine k_iconst (v := 0) X dX2_reduce_10 (by decide) ?_
  refine k_istore [(5, .int 0), (3, .long xv), (1, .long xu), (0, .ref h0)] X dX2_reduce_11 (by decide) rfl ?_
  refine (fun hL : ∀ (nn_4 : Nat) (u_1 : Int32) (u_2 : Int64) (u_3 : Int64), ((200 : Int32).toInt - u_1.toInt).toNat = nn_4 → Wk p l e _ s m args below meth c _ A g _ _ _ [(cO2_ll h0 xu xv)] [(5, .int u_1), (3, .long u_2), (1, .long u_3), (0, .ref h0)] 13 [] => hL _ 0 xv xu rfl ) ?_
  refine fun nn_4 => Nat.strongRecOn nn_4 (fun nn_4 ih_6 => ?_)
  intro u_1 u_2 u_3 hm_5 
  refine k_iload X dX2_reduce_13 0 rfl ?_
  refine k_sipush (v := 200) X dX2_reduce_15 (by decide) ?_
  refine k_ic_ge 43 X dX2_reduce_18 (by decide) (fun h_7 => ?_) (fun h_7 => ?_)
  · skip
    refine k_lload_n X dX2_reduce_43 2 rfl ?_
    refine k_lconst (v := 1) X dX2_reduce_44 (by decide) ?_
    refine k_lcmp X dX2_reduce_45 ?_
    refine k_nm (fun z_8 ez_8 => ?_)
    refine k_if_le 69 X dX2_reduce_46 (by decide) (fun h_9 => ?_) (fun h_9 => ?_)
    · skip
      exact k_vret X hr dX2_reduce_69 (Nat.le_of_ble_eq_true rfl) (Nat.le_of_ble_eq_true rfl) [0] (by decide) rfl rfl ⟨xu, xv, rfl⟩
    · skip
      refine k_aload_n X dX2_reduce_49 3 rfl ?_
      refine k_dup X dX2_reduce_50 rfl ?_
      refine k_get (ci := 2) X inlX2 rfl 0 (by decide) dX2_reduce_51 mw161 0 rfl rfl ?_
      refine k_lload_n X dX2_reduce_54 2 rfl ?_
      refine k_ldiv X dX2_reduce_55 (lgnz1 (by assumption) (by assumption)) ?_
      refine k_nmL (fun y_10 ey_10 => ?_)
      refine k_put (ci := 2) [(cO2_ll h0 y_10 xv)] X inlX2 rfl tyX2_ok nmX2 0 (by decide) rfl dX2_reduce_56 mw161 0 rfl rfl rfl (Nat.le_of_ble_eq_true rfl) rfl ?_
      refine k_aload_n X dX2_reduce_59 3 rfl ?_
      refine k_dup X dX2_reduce_60 rfl ?_
      refine k_get (ci := 2) X inlX2 rfl 1 (by decide) dX2_reduce_61 mw162 0 rfl rfl ?_
      refine k_lload_n X dX2_reduce_64 2 rfl ?_
      refine k_ldiv X dX2_reduce_65 (lgnz1 (by assumption) (by assumption)) ?_
      refine k_nmL (fun y_11 ey_11 => ?_)
      refine k_put (ci := 2) [(cO2_ll h0 y_10 y_11)] X inlX2 rfl tyX2_ok nmX2 1 (by decide) rfl dX2_reduce_66 mw162 0 rfl rfl rfl (Nat.le_of_ble_eq_true rfl) rfl ?_
      exact k_vret X hr dX2_reduce_69 (Nat.le_of_ble_eq_true rfl) (Nat.le_of_ble_eq_true rfl) [0] (by decide) rfl rfl ⟨y_10, y_11, rfl⟩
  · skip
    refine k_lload_n X dX2_reduce_21 1 rfl ?_
    refine k_lconst (v := 0) X dX2_reduce_22 (by decide) ?_
    refine k_lcmp X dX2_reduce_23 ?_
    refine k_nm (fun z_12 ez_12 => ?_)
    refine k_if_le 43 X dX2_reduce_24 (by decide) (fun h_13 => ?_) (fun h_13 => ?_)
    · skip
      refine k_lload_n X dX2_reduce_43 2 rfl ?_
      refine k_lconst (v := 1) X dX2_reduce_44 (by decide) ?_
      refine k_lcmp X dX2_reduce_45 ?_
      refine k_nm (fun z_14 ez_14 => ?_)
      refine k_if_le 69 X dX2_reduce_46 (by decide) (fun h_15 => ?_) (fun h_15 => ?_)
      · skip
        exact k_vret X hr dX2_reduce_69 (Nat.le_of_ble_eq_true rfl) (Nat.le_of_ble_eq_true rfl) [0] (by decide) rfl rfl ⟨xu, xv, rfl⟩
      · skip
        refine k_aload_n X dX2_reduce_49 3 rfl ?_
        refine k_dup X dX2_reduce_50 rfl ?_
        refine k_get (ci := 2) X inlX2 rfl 0 (by decide) dX2_reduce_51 mw161 0 rfl rfl ?_
        refine k_lload_n X dX2_reduce_54 2 rfl ?_
        refine k_ldiv X dX2_reduce_55 (lgnz1 (by assumption) (by assumption)) ?_
        refine k_nmL (fun y_16 ey_16 => ?_)
        refine k_put (ci := 2) [(cO2_ll h0 y_16 xv)] X inlX2 rfl tyX2_ok nmX2 0 (by decide) rfl dX2_reduce_56 mw161 0 rfl rfl rfl (Nat.le_of_ble_eq_true rfl) rfl ?_
        refine k_aload_n X dX2_reduce_59 3 rfl ?_
        refine k_dup X dX2_reduce_60 rfl ?_
        refine k_get (ci := 2) X inlX2 rfl 1 (by decide) dX2_reduce_61 mw162 0 rfl rfl ?_
        refine k_lload_n X dX2_reduce_64 2 rfl ?_
        refine k_ldiv X dX2_reduce_65 (lgnz1 (by assumption) (by assumption)) ?_
        refine k_nmL (fun y_17 ey_17 => ?_)
        refine k_put (ci := 2) [(cO2_ll h0 y_16 y_17)] X inlX2 rfl tyX2_ok nmX2 1 (by decide) rfl dX2_reduce_66 mw162 0 rfl rfl rfl (Nat.le_of_ble_eq_true rfl) rfl ?_
        exact k_vret X hr dX2_reduce_69 (Nat.le_of_ble_eq_true rfl) (Nat.le_of_ble_eq_true rfl) [0] (by decide) rfl rfl ⟨y_16, y_17, rfl⟩
    · skip
      refine k_lload_n X dX2_reduce_27 2 rfl ?_
      refine k_lload_n X dX2_reduce_28 1 rfl ?_
      refine k_lrem X dX2_reduce_29 (lgnz0 (by assumption) (by assumption)) ?_
      refine k_nmL (fun y_18 ey_18 => ?_)
      refine k_lstore [(6, .long y_18), (5, .int u_1), (3, .long u_2), (1, .long u_3), (0, .ref h0)] X dX2_reduce_30 (by decide) rfl ?_
      refine k_lload_n X dX2_reduce_32 2 rfl ?_
      refine k_lstore_n [(1, .long u_2), (6, .long y_18), (5, .int u_1), (3, .long u_2), (0, .ref h0)] X dX2_reduce_33 (by decide) rfl ?_
      refine k_lload X dX2_reduce_34 1 rfl ?_
      refine k_lstore_n [(3, .long y_18), (1, .long u_2), (6, .long y_18), (5, .int u_1), (0, .ref h0)] X dX2_reduce_36 (by decide) rfl ?_
      obtain ⟨z_19, ez_19⟩ : ∃ y : Int32, u_1 + Int32.ofInt 1 = y := ⟨_, rfl⟩
      refine k_iinc z_19 [(5, .int z_19), (3, .long y_18), (1, .long u_2), (6, .long y_18), (0, .ref h0)] 3 X dX2_reduce_37 rfl ez_19 (by decide) rfl ?_
      refine k_goto 13 X dX2_reduce_40 (by decide) ?_
      refine k_lv [(5, .int z_19), (3, .long y_18), (1, .long u_2), (0, .ref h0)] [0, 1, 2, 4] rfl ?_
      exact ih_6 _ (by rw [← hm_5]; exact mu_lt (by assumption) (by assumption)) z_19 y_18 u_2 rfl 

theorem dJ6_bitCount_0f7a4_0 : decode cJ6_bitCount_0f7a4 0 = .ok (.iload_n 0, 1) := dk_26 rfl
theorem dJ6_bitCount_0f7a4_1 : decode cJ6_bitCount_0f7a4 1 = .ok (.iload_n 0, 1) := dk_26 rfl
theorem dJ6_bitCount_0f7a4_2 : decode cJ6_bitCount_0f7a4 2 = .ok (.iconst 1, 1) := dk_4 rfl
theorem dJ6_bitCount_0f7a4_3 : decode cJ6_bitCount_0f7a4 3 = .ok (.iushr, 1) := dk_124 rfl
theorem dJ6_bitCount_0f7a4_4 : decode cJ6_bitCount_0f7a4 4 = .ok (.ldc_w 265, 3) := dk_19 rfl rfl rfl rfl
theorem dJ6_bitCount_0f7a4_7 : decode cJ6_bitCount_0f7a4 7 = .ok (.iand, 1) := dk_126 rfl
theorem dJ6_bitCount_0f7a4_8 : decode cJ6_bitCount_0f7a4 8 = .ok (.isub, 1) := dk_100 rfl
theorem dJ6_bitCount_0f7a4_9 : decode cJ6_bitCount_0f7a4 9 = .ok (.istore_n 0, 1) := dk_59 rfl
theorem dJ6_bitCount_0f7a4_10 : decode cJ6_bitCount_0f7a4 10 = .ok (.iload_n 0, 1) := dk_26 rfl
theorem dJ6_bitCount_0f7a4_11 : decode cJ6_bitCount_0f7a4 11 = .ok (.ldc_w 266, 3) := dk_19 rfl rfl rfl rfl
theorem dJ6_bitCount_0f7a4_14 : decode cJ6_bitCount_0f7a4 14 = .ok (.iand, 1) := dk_126 rfl
theorem dJ6_bitCount_0f7a4_15 : decode cJ6_bitCount_0f7a4 15 = .ok (.iload_n 0, 1) := dk_26 rfl
theorem dJ6_bitCount_0f7a4_16 : decode cJ6_bitCount_0f7a4 16 = .ok (.iconst 2, 1) := dk_5 rfl
theorem dJ6_bitCount_0f7a4_17 : decode cJ6_bitCount_0f7a4 17 = .ok (.iushr, 1) := dk_124 rfl
theorem dJ6_bitCount_0f7a4_18 : decode cJ6_bitCount_0f7a4 18 = .ok (.ldc_w 266, 3) := dk_19 rfl rfl rfl rfl
theorem dJ6_bitCount_0f7a4_21 : decode cJ6_bitCount_0f7a4 21 = .ok (.iand, 1) := dk_126 rfl
theorem dJ6_bitCount_0f7a4_22 : decode cJ6_bitCount_0f7a4 22 = .ok (.iadd, 1) := dk_96 rfl
theorem dJ6_bitCount_0f7a4_23 : decode cJ6_bitCount_0f7a4 23 = .ok (.istore_n 0, 1) := dk_59 rfl
theorem dJ6_bitCount_0f7a4_24 : decode cJ6_bitCount_0f7a4 24 = .ok (.iload_n 0, 1) := dk_26 rfl
theorem dJ6_bitCount_0f7a4_25 : decode cJ6_bitCount_0f7a4 25 = .ok (.iload_n 0, 1) := dk_26 rfl
theorem dJ6_bitCount_0f7a4_26 : decode cJ6_bitCount_0f7a4 26 = .ok (.iconst 4, 1) := dk_7 rfl
theorem dJ6_bitCount_0f7a4_27 : decode cJ6_bitCount_0f7a4 27 = .ok (.iushr, 1) := dk_124 rfl
theorem dJ6_bitCount_0f7a4_28 : decode cJ6_bitCount_0f7a4 28 = .ok (.iadd, 1) := dk_96 rfl
theorem dJ6_bitCount_0f7a4_29 : decode cJ6_bitCount_0f7a4 29 = .ok (.ldc_w 267, 3) := dk_19 rfl rfl rfl rfl
theorem dJ6_bitCount_0f7a4_32 : decode cJ6_bitCount_0f7a4 32 = .ok (.iand, 1) := dk_126 rfl
theorem dJ6_bitCount_0f7a4_33 : decode cJ6_bitCount_0f7a4 33 = .ok (.istore_n 0, 1) := dk_59 rfl
theorem dJ6_bitCount_0f7a4_34 : decode cJ6_bitCount_0f7a4 34 = .ok (.iload_n 0, 1) := dk_26 rfl
theorem dJ6_bitCount_0f7a4_35 : decode cJ6_bitCount_0f7a4 35 = .ok (.iload_n 0, 1) := dk_26 rfl
theorem dJ6_bitCount_0f7a4_36 : decode cJ6_bitCount_0f7a4 36 = .ok (.bipush 8, 2) := dk_16 rfl rfl (by decide)
theorem dJ6_bitCount_0f7a4_38 : decode cJ6_bitCount_0f7a4 38 = .ok (.iushr, 1) := dk_124 rfl
theorem dJ6_bitCount_0f7a4_39 : decode cJ6_bitCount_0f7a4 39 = .ok (.iadd, 1) := dk_96 rfl
theorem dJ6_bitCount_0f7a4_40 : decode cJ6_bitCount_0f7a4 40 = .ok (.istore_n 0, 1) := dk_59 rfl
theorem dJ6_bitCount_0f7a4_41 : decode cJ6_bitCount_0f7a4 41 = .ok (.iload_n 0, 1) := dk_26 rfl
theorem dJ6_bitCount_0f7a4_42 : decode cJ6_bitCount_0f7a4 42 = .ok (.iload_n 0, 1) := dk_26 rfl
theorem dJ6_bitCount_0f7a4_43 : decode cJ6_bitCount_0f7a4 43 = .ok (.bipush 16, 2) := dk_16 rfl rfl (by decide)
theorem dJ6_bitCount_0f7a4_45 : decode cJ6_bitCount_0f7a4 45 = .ok (.iushr, 1) := dk_124 rfl
theorem dJ6_bitCount_0f7a4_46 : decode cJ6_bitCount_0f7a4 46 = .ok (.iadd, 1) := dk_96 rfl
theorem dJ6_bitCount_0f7a4_47 : decode cJ6_bitCount_0f7a4 47 = .ok (.istore_n 0, 1) := dk_59 rfl
theorem dJ6_bitCount_0f7a4_48 : decode cJ6_bitCount_0f7a4 48 = .ok (.iload_n 0, 1) := dk_26 rfl
theorem dJ6_bitCount_0f7a4_49 : decode cJ6_bitCount_0f7a4 49 = .ok (.bipush 63, 2) := dk_16 rfl rfl (by decide)
theorem dJ6_bitCount_0f7a4_51 : decode cJ6_bitCount_0f7a4 51 = .ok (.iand, 1) := dk_126 rfl
theorem dJ6_bitCount_0f7a4_52 : decode cJ6_bitCount_0f7a4 52 = .ok (.ireturn, 1) := dk_172 rfl
set_option maxHeartbeats 4000000 in
set_option maxRecDepth 100000 in
theorem j_bitCount (l : Launch) (g : Gx) (p0 : Int32) : cI l g yJ6_bitCount_0f7a4 cJ6_bitCount_0f7a4 1 (some .int) 0 0 0 0 [.int p0] [] (fun r w => w = []) := by
  refine cI.of (by decide) (Nat.le_of_ble_eq_true rfl) ?_
  intro p e s m args below meth c A X hr hi
  refine k_lveq [(0, .int p0)] rfl ?_
  refine k_iload_n X dJ6_bitCount_0f7a4_0 0 rfl ?_
  refine k_iload_n X dJ6_bitCount_0f7a4_1 0 rfl ?_
  refine k_iconst (v := 1) X dJ6_bitCount_0f7a4_2 (by decide) ?_
  refine k_iushr X dJ6_bitCount_0f7a4_3 ?_
  refine k_nm (fun z_1 ez_1 => ?_)
  refine k_ldcw (v := 1431655765) X dJ6_bitCount_0f7a4_4 mw1102 ?_
  refine k_iand X dJ6_bitCount_0f7a4_7 ?_
  refine k_nm (fun z_2 ez_2 => ?_)
  refine k_isub X dJ6_bitCount_0f7a4_8 ?_
  refine k_nm (fun z_3 ez_3 => ?_)
  refine k_istore_n [(0, .int z_3)] X dJ6_bitCount_0f7a4_9 (by decide) rfl ?_
  refine k_iload_n X dJ6_bitCount_0f7a4_10 0 rfl ?_
  refine k_ldcw (v := 858993459) X dJ6_bitCount_0f7a4_11 mw1103 ?_
  refine k_iand X dJ6_bitCount_0f7a4_14 ?_
  refine k_nm (fun z_4 ez_4 => ?_)
  refine k_iload_n X dJ6_bitCount_0f7a4_15 0 rfl ?_
  refine k_iconst (v := 2) X dJ6_bitCount_0f7a4_16 (by decide) ?_
  refine k_iushr X dJ6_bitCount_0f7a4_17 ?_
  refine k_nm (fun z_5 ez_5 => ?_)
  refine k_ldcw (v := 858993459) X dJ6_bitCount_0f7a4_18 mw1103 ?_
  refine k_iand X dJ6_bitCount_0f7a4_21 ?_
  refine k_nm (fun z_6 ez_6 => ?_)
  refine k_iadd X dJ6_bitCount_0f7a4_22 ?_
  refine k_nm (fun z_7 ez_7 => ?_)
  refine k_istore_n [(0, .int z_7)] X dJ6_bitCount_0f7a4_23 (by decide) rfl ?_
  refine k_iload_n X dJ6_bitCount_0f7a4_24 0 rfl ?_
  refine k_iload_n X dJ6_bitCount_0f7a4_25 0 rfl ?_
  refine k_iconst (v := 4) X dJ6_bitCount_0f7a4_26 (by decide) ?_
  refine k_iushr X dJ6_bitCount_0f7a4_27 ?_
  refine k_nm (fun z_8 ez_8 => ?_)
  refine k_iadd X dJ6_bitCount_0f7a4_28 ?_
  refine k_nm (fun z_9 ez_9 => ?_)
  refine k_ldcw (v := 252645135) X dJ6_bitCount_0f7a4_29 mw1104 ?_
  refine k_iand X dJ6_bitCount_0f7a4_32 ?_
  refine k_nm (fun z_10 ez_10 => ?_)
  refine k_istore_n [(0, .int z_10)] X dJ6_bitCount_0f7a4_33 (by decide) rfl ?_
  refine k_iload_n X dJ6_bitCount_0f7a4_34 0 rfl ?_
  refine k_iload_n X dJ6_bitCount_0f7a4_35 0 rfl ?_
  refine k_bipush (v := 8) X dJ6_bitCount_0f7a4_36 (by decide) ?_
  refine k_iushr X dJ6_bitCount_0f7a4_38 ?_
  refine k_nm (fun z_11 ez_11 => ?_)
  refine k_iadd X dJ6_bitCount_0f7a4_39 ?_
  refine k_nm (fun z_12 ez_12 => ?_)
  refine k_istore_n [(0, .int z_12)] X dJ6_bitCount_0f7a4_40 (by decide) rfl ?_
  refine k_iload_n X dJ6_bitCount_0f7a4_41 0 rfl ?_
  refine k_iload_n X dJ6_bitCount_0f7a4_42 0 rfl ?_
  refine k_bipush (v := 16) X dJ6_bitCount_0f7a4_43 (by decide) ?_
  refine k_iushr X dJ6_bitCount_0f7a4_45 ?_
  refine k_nm (fun z_13 ez_13 => ?_)
  refine k_iadd X dJ6_bitCount_0f7a4_46 ?_
  refine k_nm (fun z_14 ez_14 => ?_)
  refine k_istore_n [(0, .int z_14)] X dJ6_bitCount_0f7a4_47 (by decide) rfl ?_
  refine k_iload_n X dJ6_bitCount_0f7a4_48 0 rfl ?_
  refine k_bipush (v := 63) X dJ6_bitCount_0f7a4_49 (by decide) ?_
  refine k_iand X dJ6_bitCount_0f7a4_51 ?_
  refine k_nm (fun z_15 ez_15 => ?_)
  exact k_iret X hr dJ6_bitCount_0f7a4_52 (Nat.le_of_ble_eq_true rfl) (Nat.le_of_ble_eq_true rfl) [] (by decide) rfl rfl rfl

theorem dX0_fewestTrims_0 : decode cX0_fewestTrims 0 = .ok (.bipush (-2), 2) := dk_16 rfl rfl (by decide)
theorem dX0_fewestTrims_2 : decode cX0_fewestTrims 2 = .ok (.istore_n 3, 1) := dk_62 rfl
theorem dX0_fewestTrims_3 : decode cX0_fewestTrims 3 = .ok (.ldc 57, 2) := dk_18 rfl rfl rfl
theorem dX0_fewestTrims_5 : decode cX0_fewestTrims 5 = .ok (.istore 4, 2) := dk_54 rfl rfl rfl
theorem dX0_fewestTrims_7 : decode cX0_fewestTrims 7 = .ok (.iconst 0, 1) := dk_3 rfl
theorem dX0_fewestTrims_8 : decode cX0_fewestTrims 8 = .ok (.istore 5, 2) := dk_54 rfl rfl rfl
theorem dX0_fewestTrims_10 : decode cX0_fewestTrims 10 = .ok (.iload 5, 2) := dk_21 rfl rfl rfl
theorem dX0_fewestTrims_12 : decode cX0_fewestTrims 12 = .ok (.iconst 1, 1) := dk_4 rfl
theorem dX0_fewestTrims_13 : decode cX0_fewestTrims 13 = .ok (.aload_n 2, 1) := dk_44 rfl
theorem dX0_fewestTrims_14 : decode cX0_fewestTrims 14 = .ok (.getfield 30, 3) := dk_180 rfl rfl rfl rfl
theorem dX0_fewestTrims_17 : decode cX0_fewestTrims 17 = .ok (.getfield 35, 3) := dk_180 rfl rfl rfl rfl
theorem dX0_fewestTrims_20 : decode cX0_fewestTrims 20 = .ok (.ishl, 1) := dk_120 rfl
theorem dX0_fewestTrims_21 : decode cX0_fewestTrims 21 = .ok (.if_icmp .ge 44, 3) := dk_162 rfl rfl rfl (by decide)
theorem dX0_fewestTrims_24 : decode cX0_fewestTrims 24 = .ok (.iload 5, 2) := dk_21 rfl rfl rfl
theorem dX0_fewestTrims_26 : decode cX0_fewestTrims 26 = .ok (.invokestatic 58, 3) := dk_184 rfl rfl rfl rfl
theorem dX0_fewestTrims_29 : decode cX0_fewestTrims 29 = .ok (.iload 4, 2) := dk_21 rfl rfl rfl
theorem dX0_fewestTrims_31 : decode cX0_fewestTrims 31 = .ok (.if_icmp .ge 28, 3) := dk_162 rfl rfl rfl (by decide)
theorem dX0_fewestTrims_34 : decode cX0_fewestTrims 34 = .ok (.aload_n 0, 1) := dk_42 rfl
theorem dX0_fewestTrims_35 : decode cX0_fewestTrims 35 = .ok (.aload_n 1, 1) := dk_43 rfl
theorem dX0_fewestTrims_36 : decode cX0_fewestTrims 36 = .ok (.aload_n 2, 1) := dk_44 rfl
theorem dX0_fewestTrims_37 : decode cX0_fewestTrims 37 = .ok (.iload 5, 2) := dk_21 rfl rfl rfl
theorem dX0_fewestTrims_39 : decode cX0_fewestTrims 39 = .ok (.invokevirtual 61, 3) := dk_182 rfl rfl rfl rfl
theorem dX0_fewestTrims_42 : decode cX0_fewestTrims 42 = .ok (.aload_n 0, 1) := dk_42 rfl
theorem dX0_fewestTrims_43 : decode cX0_fewestTrims 43 = .ok (.getfield 20, 3) := dk_180 rfl rfl rfl rfl
theorem dX0_fewestTrims_46 : decode cX0_fewestTrims 46 = .ok (.ifCond .ne 13, 3) := dk_154 rfl rfl rfl (by decide)
theorem dX0_fewestTrims_49 : decode cX0_fewestTrims 49 = .ok (.iload 5, 2) := dk_21 rfl rfl rfl
theorem dX0_fewestTrims_51 : decode cX0_fewestTrims 51 = .ok (.istore_n 3, 1) := dk_62 rfl
theorem dX0_fewestTrims_52 : decode cX0_fewestTrims 52 = .ok (.iload 5, 2) := dk_21 rfl rfl rfl
theorem dX0_fewestTrims_54 : decode cX0_fewestTrims 54 = .ok (.invokestatic 58, 3) := dk_184 rfl rfl rfl rfl
theorem dX0_fewestTrims_57 : decode cX0_fewestTrims 57 = .ok (.istore 4, 2) := dk_54 rfl rfl rfl
theorem dX0_fewestTrims_59 : decode cX0_fewestTrims 59 = .ok (.iinc 5 4, 3) := dk_132 rfl rfl rfl rfl (by decide)
theorem dX0_fewestTrims_62 : decode cX0_fewestTrims 62 = .ok (.goto (-52), 3) := dk_167 rfl rfl rfl (by decide)
theorem dX0_fewestTrims_65 : decode cX0_fewestTrims 65 = .ok (.iload_n 3, 1) := dk_29 rfl
theorem dX0_fewestTrims_66 : decode cX0_fewestTrims 66 = .ok (.ireturn, 1) := dk_172 rfl
set_option maxHeartbeats 4000000 in
set_option maxRecDepth 100000 in
theorem a_fewest (l : Launch) (g : Gx) (h0 : Nat) (hh : Nat) (nn : Nat) (al : Nat) (xd : Int32) (alc : Nat) (aln : Int32) (alf : Nat → Int32) (v0hh : Value) (yhn : Nat) (v2hh : Value) (v3hh : Value) (v4hh : Value) (v5hh : Value) (v6hh : Value) (v7hh : Value) (yhnc : Nat) (yhnn : Int32) (yhnf : Nat → Int32) (nr : Nat) (xsnapped : Int32) (xmostSlip : Int32) (xslip : Int32) (xisDrawn : Int32) (xseed : Int32) (xtick : Int32) (xmotorTick : Int32) (xahead : Int32) (nrc : Nat) (nrn : Int32) (nrf : Nat → Int32) : cI l g yX0_fewestTrims cX0_fewestTrims 6 (some .int) 3 71 0 0 [.ref h0, .ref hh, .ref nn] [(cO0_ri h0 al xd), (cO8_iiri al 8 1 alc aln), (cAI g alc 8 alf), (cO3_vrvvvvvv hh v0hh yhn v2hh v3hh v4hh v5hh v6hh v7hh), (cO8_iiri yhn 1 6 yhnc yhnn), (cAI g yhnc 6 yhnf), (cO5_riiiiiiii nn nr xsnapped xmostSlip xslip xisDrawn xseed xtick xmotorTick xahead), (cO8_iiri nr 8 10 nrc nrn), (cAI g nrc 80 nrf)] (fun r w => ∃ (xd2 : Int32) (alg : Nat → Int32), w = [(cO0_ri h0 al xd2), (cO8_iiri al 8 1 alc aln), (cAI g alc 8 alg), (cO3_vrvvvvvv hh v0hh yhn v2hh v3hh v4hh v5hh v6hh v7hh), (cO8_iiri yhn 1 6 yhnc yhnn), (cAI g yhnc 6 yhnf), (cO5_riiiiiiii nn nr xsnapped xmostSlip xslip xisDrawn xseed xtick xmotorTick xahead), (cO8_iiri nr 8 10 nrc nrn), (cAI g nrc 80 nrf)]) := by
  refine cI.of (by decide) (Nat.le_of_ble_eq_true rfl) ?_
  intro p e s m args below meth c A X hr hi
  refine k_lveq [(0, .ref h0), (1, .ref hh), (2, .ref nn)] rfl ?_
  refine k_bipush (v := -2) X dX0_fewestTrims_0 (by decide) ?_
  refine k_istore_n [(3, .int (-2)), (0, .ref h0), (1, .ref hh), (2, .ref nn)] X dX0_fewestTrims_2 (by decide) rfl ?_
  refine k_ldc (v := 2147483647) X dX0_fewestTrims_3 mw1097 ?_
  refine k_istore [(4, .int 2147483647), (3, .int (-2)), (0, .ref h0), (1, .ref hh), (2, .ref nn)] X dX0_fewestTrims_5 (by decide) rfl ?_
  refine k_iconst (v := 0) X dX0_fewestTrims_7 (by decide) ?_
  refine k_istore [(5, .int 0), (4, .int 2147483647), (3, .int (-2)), (0, .ref h0), (1, .ref hh), (2, .ref nn)] X dX0_fewestTrims_8 (by decide) rfl ?_
  refine (fun hL : ∀ (nn_6 : Nat) (u_1 : Int32) (u_2 : Int32) (u_3 : Int32) (uf_4 : Nat → Int32) (u_5 : Int32), (((1 : Int32) <<< (nrn &&& 31)).toInt - u_1.toInt).toNat = nn_6 → Wk p l e _ s m args below meth c _ A g _ _ _ [(cO0_ri h0 al u_5), (cO8_iiri al 8 1 alc aln), (cAI g alc 8 uf_4), (cO3_vrvvvvvv hh v0hh yhn v2hh v3hh v4hh v5hh v6hh v7hh), (cO8_iiri yhn 1 6 yhnc yhnn), (cAI g yhnc 6 yhnf), (cO5_riiiiiiii nn nr xsnapped xmostSlip xslip xisDrawn xseed xtick xmotorTick xahead), (cO8_iiri nr 8 10 nrc nrn), (cAI g nrc 80 nrf)] [(5, .int u_1), (4, .int u_2), (3, .int u_3), (0, .ref h0), (1, .ref hh), (2, .ref nn)] 10 [] => hL _ 0 2147483647 ((-2)) alf xd rfl ) ?_
  refine fun nn_6 => Nat.strongRecOn nn_6 (fun nn_6 ih_8 => ?_)
  intro u_1 u_2 u_3 uf_4 u_5 hm_7 
  refine k_iload X dX0_fewestTrims_10 0 rfl ?_
  refine k_iconst (v := 1) X dX0_fewestTrims_12 (by decide) ?_
  refine k_aload_n X dX0_fewestTrims_13 5 rfl ?_
  refine k_get (ci := 5) X inlX5 rfl 0 (by decide) dX0_fewestTrims_14 mw1036 6 rfl rfl ?_
  refine k_get (ci := 8) X inlX8 rfl 3 (by decide) dX0_fewestTrims_17 mw1037 7 rfl rfl ?_
  refine k_ishl X dX0_fewestTrims_20 ?_
  refine k_nm (fun z_9 ez_9 => ?_)
  refine k_ic_ge 65 X dX0_fewestTrims_21 (by decide) (fun h_10 => ?_) (fun h_10 => ?_)
  · skip
    refine k_iload_n X dX0_fewestTrims_65 2 rfl ?_
    exact k_iret X hr dX0_fewestTrims_66 (Nat.le_of_ble_eq_true rfl) (Nat.le_of_ble_eq_true rfl) [0, 1, 2, 3, 4, 5, 6, 7, 8] (by decide) rfl rfl ⟨u_5, uf_4, rfl⟩
  · skip
    refine k_iload X dX0_fewestTrims_24 0 rfl ?_
    refine k_callSI (n := 1) (As := [.int u_1]) (st := []) X [] [(cO0_ri h0 al u_5), (cO8_iiri al 8 1 alc aln), (cAI g alc 8 uf_4), (cO3_vrvvvvvv hh v0hh yhn v2hh v3hh v4hh v5hh v6hh v7hh), (cO8_iiri yhn 1 6 yhnc yhnn), (cAI g yhnc 6 yhnf), (cO5_riiiiiiii nn nr xsnapped xmostSlip xslip xisDrawn xseed xtick xmotorTick xahead), (cO8_iiri nr 8 10 nrc nrn), (cAI g nrc 80 nrf)] [] [0, 1, 2, 3, 4, 5, 6, 7, 8] (j_bitCount l g u_1) dX0_fewestTrims_26 mw1098 mw1099 mw1100 mw1101 yk_yJ6_bitCount_0f7a4_1 rfl (Nat.le_of_ble_eq_true rfl) (Nat.le_of_ble_eq_true rfl) (Nat.le_of_ble_eq_true rfl) (Nat.le_of_ble_eq_true rfl) (Nat.le_of_ble_eq_true rfl) rfl rfl (by decide) rfl (by decide) (by decide) ?_
    rintro r_11 w rfl
    refine k_ws [(cO0_ri h0 al u_5), (cO8_iiri al 8 1 alc aln), (cAI g alc 8 uf_4), (cO3_vrvvvvvv hh v0hh yhn v2hh v3hh v4hh v5hh v6hh v7hh), (cO8_iiri yhn 1 6 yhnc yhnn), (cAI g yhnc 6 yhnf), (cO5_riiiiiiii nn nr xsnapped xmostSlip xslip xisDrawn xseed xtick xmotorTick xahead), (cO8_iiri nr 8 10 nrc nrn), (cAI g nrc 80 nrf)] rfl ?_
    refine k_iload X dX0_fewestTrims_29 1 rfl ?_
    refine k_ic_ge 59 X dX0_fewestTrims_31 (by decide) (fun h_13 => ?_) (fun h_13 => ?_)
    · skip
      obtain ⟨z_14, ez_14⟩ : ∃ y : Int32, u_1 + Int32.ofInt 4 = y := ⟨_, rfl⟩
      refine k_iinc z_14 [(5, .int z_14), (4, .int u_2), (3, .int u_3), (0, .ref h0), (1, .ref hh), (2, .ref nn)] 0 X dX0_fewestTrims_59 rfl ez_14 (by decide) rfl ?_
      refine k_goto 10 X dX0_fewestTrims_62 (by decide) ?_
      exact ih_8 _ (by rw [← hm_7]; exact mu_4 (by assumption) (by assumption) (by assumption)) z_14 u_2 u_3 uf_4 u_5 rfl 
    · skip
      refine k_aload_n X dX0_fewestTrims_34 3 rfl ?_
      refine k_aload_n X dX0_fewestTrims_35 4 rfl ?_
      refine k_aload_n X dX0_fewestTrims_36 5 rfl ?_
      refine k_iload X dX0_fewestTrims_37 0 rfl ?_
      refine k_callVV (n := 3) (As := [.ref hh, .ref nn, .int u_1]) (st := []) X [(cO0_ri h0 al u_5), (cO8_iiri al 8 1 alc aln), (cAI g alc 8 uf_4), (cO3_vrvvvvvv hh v0hh yhn v2hh v3hh v4hh v5hh v6hh v7hh), (cO8_iiri yhn 1 6 yhnc yhnn), (cAI g yhnc 6 yhnf), (cO5_riiiiiiii nn nr xsnapped xmostSlip xslip xisDrawn xseed xtick xmotorTick xahead), (cO8_iiri nr 8 10 nrc nrn), (cAI g nrc 80 nrf)] [] [0, 1, 2, 3, 4, 5, 6, 7, 8] [] (a_burn l g h0 hh nn u_1 al u_5 alc aln uf_4 v0hh yhn v2hh v3hh v4hh v5hh v6hh v7hh yhnc yhnn yhnf nr xsnapped xmostSlip xslip xisDrawn xseed xtick xmotorTick xahead nrc nrn nrf) dX0_fewestTrims_39 mw1105 mw1033 mw1034 mw35 mw1035 rfl 0 rfl rfl 0 _ rfl yk_yX0_burn_3 rfl (Nat.le_of_ble_eq_true rfl) (Nat.le_of_ble_eq_true rfl) (Nat.le_of_ble_eq_true rfl) (Nat.le_of_ble_eq_true rfl) (Nat.le_of_ble_eq_true rfl) rfl rfl (by decide) rfl (by decide) (by decide) ?_
      rintro w ⟨xd2_15, alg_16, rfl⟩
      refine k_ws [(cO0_ri h0 al xd2_15), (cO8_iiri al 8 1 alc aln), (cAI g alc 8 alg_16), (cO3_vrvvvvvv hh v0hh yhn v2hh v3hh v4hh v5hh v6hh v7hh), (cO8_iiri yhn 1 6 yhnc yhnn), (cAI g yhnc 6 yhnf), (cO5_riiiiiiii nn nr xsnapped xmostSlip xslip xisDrawn xseed xtick xmotorTick xahead), (cO8_iiri nr 8 10 nrc nrn), (cAI g nrc 80 nrf)] rfl ?_
      refine k_aload_n X dX0_fewestTrims_42 3 rfl ?_
      refine k_get (ci := 0) X inlX0 rfl 1 (by decide) dX0_fewestTrims_43 mw140 0 rfl rfl ?_
      refine k_if_ne 59 X dX0_fewestTrims_46 (by decide) (fun h_19 => ?_) (fun h_19 => ?_)
      · skip
        obtain ⟨z_20, ez_20⟩ : ∃ y : Int32, u_1 + Int32.ofInt 4 = y := ⟨_, rfl⟩
        refine k_iinc z_20 [(5, .int z_20), (4, .int u_2), (3, .int u_3), (0, .ref h0), (1, .ref hh), (2, .ref nn)] 0 X dX0_fewestTrims_59 rfl ez_20 (by decide) rfl ?_
        refine k_goto 10 X dX0_fewestTrims_62 (by decide) ?_
        exact ih_8 _ (by rw [← hm_7]; exact mu_4 (by assumption) (by assumption) (by assumption)) z_20 u_2 u_3 alg_16 xd2_15 rfl 
      · skip
        refine k_iload X dX0_fewestTrims_49 0 rfl ?_
        refine k_istore_n [(3, .int u_1), (5, .int u_1), (4, .int u_2), (0, .ref h0), (1, .ref hh), (2, .ref nn)] X dX0_fewestTrims_51 (by decide) rfl ?_
        refine k_iload X dX0_fewestTrims_52 1 rfl ?_
        refine k_callSI (n := 1) (As := [.int u_1]) (st := []) X [] [(cO0_ri h0 al xd2_15), (cO8_iiri al 8 1 alc aln), (cAI g alc 8 alg_16), (cO3_vrvvvvvv hh v0hh yhn v2hh v3hh v4hh v5hh v6hh v7hh), (cO8_iiri yhn 1 6 yhnc yhnn), (cAI g yhnc 6 yhnf), (cO5_riiiiiiii nn nr xsnapped xmostSlip xslip xisDrawn xseed xtick xmotorTick xahead), (cO8_iiri nr 8 10 nrc nrn), (cAI g nrc 80 nrf)] [] [0, 1, 2, 3, 4, 5, 6, 7, 8] (j_bitCount l g u_1) dX0_fewestTrims_54 mw1098 mw1099 mw1100 mw1101 yk_yJ6_bitCount_0f7a4_1 rfl (Nat.le_of_ble_eq_true rfl) (Nat.le_of_ble_eq_true rfl) (Nat.le_of_ble_eq_true rfl) (Nat.le_of_ble_eq_true rfl) (Nat.le_of_ble_eq_true rfl) rfl rfl (by decide) rfl (by decide) (by decide) ?_
        rintro r_21 w rfl
        refine k_ws [(cO0_ri h0 al xd2_15), (cO8_iiri al 8 1 alc aln), (cAI g alc 8 alg_16), (cO3_vrvvvvvv hh v0hh yhn v2hh v3hh v4hh v5hh v6hh v7hh), (cO8_iiri yhn 1 6 yhnc yhnn), (cAI g yhnc 6 yhnf), (cO5_riiiiiiii nn nr xsnapped xmostSlip xslip xisDrawn xseed xtick xmotorTick xahead), (cO8_iiri nr 8 10 nrc nrn), (cAI g nrc 80 nrf)] rfl ?_
        refine k_istore [(4, .int r_21), (3, .int u_1), (5, .int u_1), (0, .ref h0), (1, .ref hh), (2, .ref nn)] X dX0_fewestTrims_57 (by decide) rfl ?_
        obtain ⟨z_23, ez_23⟩ : ∃ y : Int32, u_1 + Int32.ofInt 4 = y := ⟨_, rfl⟩
        refine k_iinc z_23 [(5, .int z_23), (4, .int r_21), (3, .int u_1), (0, .ref h0), (1, .ref hh), (2, .ref nn)] 2 X dX0_fewestTrims_59 rfl ez_23 (by decide) rfl ?_
        refine k_goto 10 X dX0_fewestTrims_62 (by decide) ?_
        exact ih_8 _ (by rw [← hm_7]; exact mu_4 (by assumption) (by assumption) (by assumption)) z_23 r_21 u_1 alg_16 xd2_15 rfl 

theorem dX1_unit_0 : decode cX1_unit 0 = .ok (.lconst 1, 1) := dk_10 rfl
theorem dX1_unit_1 : decode cX1_unit 1 = .ok (.iconst 5, 1) := dk_8 rfl
theorem dX1_unit_2 : decode cX1_unit 2 = .ok (.iload_n 0, 1) := dk_26 rfl
theorem dX1_unit_3 : decode cX1_unit 3 = .ok (.imul, 1) := dk_104 rfl
theorem dX1_unit_4 : decode cX1_unit 4 = .ok (.lshl, 1) := dk_121 rfl
theorem dX1_unit_5 : decode cX1_unit 5 = .ok (.lreturn, 1) := dk_173 rfl
set_option maxHeartbeats 4000000 in
set_option maxRecDepth 100000 in
theorem e_unit (l : Launch) (g : Gx) (p0 : Int32) : cL l g yX1_unit cX1_unit 1 (some .long) 0 0 0 0 [.int p0] [] (fun r w => w = []) := by
  refine cL.of (by decide) (Nat.le_of_ble_eq_true rfl) ?_
  intro p e s m args below meth c A X hr hi
  refine k_lveq [(0, .int p0)] rfl ?_
  refine k_lconst (v := 1) X dX1_unit_0 (by decide) ?_
  refine k_iconst (v := 5) X dX1_unit_1 (by decide) ?_
  refine k_iload_n X dX1_unit_2 0 rfl ?_
  refine k_imul X dX1_unit_3 ?_
  refine k_nm (fun z_1 ez_1 => ?_)
  refine k_lshl X dX1_unit_4 ?_
  refine k_nmL (fun y_2 ey_2 => ?_)
  exact k_lret X hr dX1_unit_5 (Nat.le_of_ble_eq_true rfl) (Nat.le_of_ble_eq_true rfl) [] (by decide) rfl rfl rfl

theorem dX1_wrongPlaces_0 : decode cX1_wrongPlaces 0 = .ok (.iconst 0, 1) := dk_3 rfl
theorem dX1_wrongPlaces_1 : decode cX1_wrongPlaces 1 = .ok (.istore_n 2, 1) := dk_61 rfl
theorem dX1_wrongPlaces_2 : decode cX1_wrongPlaces 2 = .ok (.iconst 1, 1) := dk_4 rfl
theorem dX1_wrongPlaces_3 : decode cX1_wrongPlaces 3 = .ok (.istore_n 3, 1) := dk_62 rfl
theorem dX1_wrongPlaces_4 : decode cX1_wrongPlaces 4 = .ok (.iload_n 3, 1) := dk_29 rfl
theorem dX1_wrongPlaces_5 : decode cX1_wrongPlaces 5 = .ok (.aload_n 1, 1) := dk_43 rfl
theorem dX1_wrongPlaces_6 : decode cX1_wrongPlaces 6 = .ok (.getfield 27, 3) := dk_180 rfl rfl rfl rfl
theorem dX1_wrongPlaces_9 : decode cX1_wrongPlaces 9 = .ok (.getfield 32, 3) := dk_180 rfl rfl rfl rfl
theorem dX1_wrongPlaces_12 : decode cX1_wrongPlaces 12 = .ok (.if_icmp .ge 44, 3) := dk_162 rfl rfl rfl (by decide)
theorem dX1_wrongPlaces_15 : decode cX1_wrongPlaces 15 = .ok (.iconst 0, 1) := dk_3 rfl
theorem dX1_wrongPlaces_16 : decode cX1_wrongPlaces 16 = .ok (.istore 4, 2) := dk_54 rfl rfl rfl
theorem dX1_wrongPlaces_18 : decode cX1_wrongPlaces 18 = .ok (.iload 4, 2) := dk_21 rfl rfl rfl
theorem dX1_wrongPlaces_20 : decode cX1_wrongPlaces 20 = .ok (.iload_n 3, 1) := dk_29 rfl
theorem dX1_wrongPlaces_21 : decode cX1_wrongPlaces 21 = .ok (.if_icmp .ge 29, 3) := dk_162 rfl rfl rfl (by decide)
theorem dX1_wrongPlaces_24 : decode cX1_wrongPlaces 24 = .ok (.aload_n 1, 1) := dk_43 rfl
theorem dX1_wrongPlaces_25 : decode cX1_wrongPlaces 25 = .ok (.iload 4, 2) := dk_21 rfl rfl rfl
theorem dX1_wrongPlaces_27 : decode cX1_wrongPlaces 27 = .ok (.invokevirtual 36, 3) := dk_182 rfl rfl rfl rfl
theorem dX1_wrongPlaces_30 : decode cX1_wrongPlaces 30 = .ok (.aload_n 1, 1) := dk_43 rfl
theorem dX1_wrongPlaces_31 : decode cX1_wrongPlaces 31 = .ok (.iload_n 3, 1) := dk_29 rfl
theorem dX1_wrongPlaces_32 : decode cX1_wrongPlaces 32 = .ok (.invokevirtual 36, 3) := dk_182 rfl rfl rfl rfl
theorem dX1_wrongPlaces_35 : decode cX1_wrongPlaces 35 = .ok (.if_icmp .lt 9, 3) := dk_161 rfl rfl rfl (by decide)
theorem dX1_wrongPlaces_38 : decode cX1_wrongPlaces 38 = .ok (.iload_n 2, 1) := dk_28 rfl
theorem dX1_wrongPlaces_39 : decode cX1_wrongPlaces 39 = .ok (.iconst 1, 1) := dk_4 rfl
theorem dX1_wrongPlaces_40 : decode cX1_wrongPlaces 40 = .ok (.iload_n 3, 1) := dk_29 rfl
theorem dX1_wrongPlaces_41 : decode cX1_wrongPlaces 41 = .ok (.ishl, 1) := dk_120 rfl
theorem dX1_wrongPlaces_42 : decode cX1_wrongPlaces 42 = .ok (.ior, 1) := dk_128 rfl
theorem dX1_wrongPlaces_43 : decode cX1_wrongPlaces 43 = .ok (.istore_n 2, 1) := dk_61 rfl
theorem dX1_wrongPlaces_44 : decode cX1_wrongPlaces 44 = .ok (.iinc 4 1, 3) := dk_132 rfl rfl rfl rfl (by decide)
theorem dX1_wrongPlaces_47 : decode cX1_wrongPlaces 47 = .ok (.goto (-29), 3) := dk_167 rfl rfl rfl (by decide)
theorem dX1_wrongPlaces_50 : decode cX1_wrongPlaces 50 = .ok (.iinc 3 1, 3) := dk_132 rfl rfl rfl rfl (by decide)
theorem dX1_wrongPlaces_53 : decode cX1_wrongPlaces 53 = .ok (.goto (-49), 3) := dk_167 rfl rfl rfl (by decide)
theorem dX1_wrongPlaces_56 : decode cX1_wrongPlaces 56 = .ok (.iload_n 2, 1) := dk_28 rfl
theorem dX1_wrongPlaces_57 : decode cX1_wrongPlaces 57 = .ok (.ireturn, 1) := dk_172 rfl
set_option maxHeartbeats 4000000 in
set_option maxRecDepth 100000 in
theorem e_wrong (l : Launch) (g : Gx) (h0 : Nat) (hs : Nat) (v0h0 : Value) (v1h0 : Value) (v2h0 : Value) (v0hs : Value) (v1hs : Value) (v2hs : Value) (zp : Nat) (zmd : Int32) (ztr : Int32) (zpc : Nat) (zpn : Int32) (zpf : Nat → Int32) : cI l g yX1_wrongPlaces cX1_wrongPlaces 5 (some .int) 2 43 0 0 [.ref h0, .ref hs] [(cO1_vvv h0 v0h0 v1h0 v2h0), (cO7_vvvrii hs v0hs v1hs v2hs zp zmd ztr), (cO8_iiri zp 8 2 zpc zpn), (cAI g zpc 16 zpf)] (fun r w => w = [(cO1_vvv h0 v0h0 v1h0 v2h0), (cO7_vvvrii hs v0hs v1hs v2hs zp zmd ztr), (cO8_iiri zp 8 2 zpc zpn), (cAI g zpc 16 zpf)]) := by
  refine cI.of (by decide) (Nat.le_of_ble_eq_true rfl) ?_
  intro p e s m args below meth c A X hr hi
  refine k_lveq [(0, .ref h0), (1, .ref hs)] rfl ?_
  refine k_iconst (v := 0) X dX1_wrongPlaces_0 (by decide) ?_
  refine k_istore_n [(2, .int 0), (0, .ref h0), (1, .ref hs)] X dX1_wrongPlaces_1 (by decide) rfl ?_
  refine k_iconst (v := 1) X dX1_wrongPlaces_2 (by decide) ?_
  refine k_istore_n [(3, .int 1), (2, .int 0), (0, .ref h0), (1, .ref hs)] X dX1_wrongPlaces_3 (by decide) rfl ?_
  refine (fun hL : ∀ (nn_3 : Nat) (u_1 : Int32) (u_2 : Int32), (zpn.toInt - u_1.toInt).toNat = nn_3 → Wk p l e _ s m args below meth c _ A g _ _ _ [(cO1_vvv h0 v0h0 v1h0 v2h0), (cO7_vvvrii hs v0hs v1hs v2hs zp zmd ztr), (cO8_iiri zp 8 2 zpc zpn), (cAI g zpc 16 zpf)] [(3, .int u_1), (2, .int u_2), (0, .ref h0), (1, .ref hs)] 4 [] => hL _ 1 0 rfl ) ?_
  refine fun nn_3 => Nat.strongRecOn nn_3 (fun nn_3 ih_5 => ?_)
  intro u_1 u_2 hm_4 
  refine k_iload_n X dX1_wrongPlaces_4 0 rfl ?_
  refine k_aload_n X dX1_wrongPlaces_5 3 rfl ?_
  refine k_get (ci := 7) X inlX7 rfl 3 (by decide) dX1_wrongPlaces_6 mw1360 1 rfl rfl ?_
  refine k_get (ci := 8) X inlX8 rfl 3 (by decide) dX1_wrongPlaces_9 mw1361 2 rfl rfl ?_
  refine k_ic_ge 56 X dX1_wrongPlaces_12 (by decide) (fun h_6 => ?_) (fun h_6 => ?_)
  · skip
    refine k_iload_n X dX1_wrongPlaces_56 1 rfl ?_
    exact k_iret X hr dX1_wrongPlaces_57 (Nat.le_of_ble_eq_true rfl) (Nat.le_of_ble_eq_true rfl) [0, 1, 2, 3] (by decide) rfl rfl rfl
  · skip
    refine k_iconst (v := 0) X dX1_wrongPlaces_15 (by decide) ?_
    refine k_istore [(4, .int 0), (3, .int u_1), (2, .int u_2), (0, .ref h0), (1, .ref hs)] X dX1_wrongPlaces_16 (by decide) rfl ?_
    refine (fun hL : ∀ (nn_9 : Nat) (u_7 : Int32) (u_8 : Int32), (u_1.toInt - u_7.toInt).toNat = nn_9 → Wk p l e _ s m args below meth c _ A g _ _ _ [(cO1_vvv h0 v0h0 v1h0 v2h0), (cO7_vvvrii hs v0hs v1hs v2hs zp zmd ztr), (cO8_iiri zp 8 2 zpc zpn), (cAI g zpc 16 zpf)] [(4, .int u_7), (3, .int u_1), (2, .int u_8), (0, .ref h0), (1, .ref hs)] 18 [] => hL _ 0 u_2 rfl ) ?_
    refine fun nn_9 => Nat.strongRecOn nn_9 (fun nn_9 ih_11 => ?_)
    intro u_7 u_8 hm_10 
    refine k_iload X dX1_wrongPlaces_18 0 rfl ?_
    refine k_iload_n X dX1_wrongPlaces_20 1 rfl ?_
    refine k_ic_ge 50 X dX1_wrongPlaces_21 (by decide) (fun h_12 => ?_) (fun h_12 => ?_)
    · skip
      obtain ⟨z_13, ez_13⟩ : ∃ y : Int32, u_1 + Int32.ofInt 1 = y := ⟨_, rfl⟩
      refine k_iinc z_13 [(3, .int z_13), (4, .int u_7), (2, .int u_8), (0, .ref h0), (1, .ref hs)] 1 X dX1_wrongPlaces_50 rfl ez_13 (by decide) rfl ?_
      refine k_goto 4 X dX1_wrongPlaces_53 (by decide) ?_
      refine k_lv [(3, .int z_13), (2, .int u_8), (0, .ref h0), (1, .ref hs)] [0, 2, 3, 4] rfl ?_
      exact ih_5 _ (by rw [← hm_4]; exact mu_lt (by assumption) (by assumption)) z_13 u_8 rfl 
    · skip
      refine k_aload_n X dX1_wrongPlaces_24 4 rfl ?_
      refine k_iload X dX1_wrongPlaces_25 0 rfl ?_
      refine k_callVI (n := 1) (As := [.int u_7]) (st := []) X [(cO7_vvvrii hs v0hs v1hs v2hs zp zmd ztr), (cO8_iiri zp 8 2 zpc zpn), (cAI g zpc 16 zpf)] [(cO1_vvv h0 v0h0 v1h0 v2h0)] [1, 2, 3] [0] (s_reelAt l g hs u_7 v0hs v1hs v2hs zp zmd ztr zpc zpn zpf) dX1_wrongPlaces_27 mw1362 mw759 mw760 mw23 mw761 rfl 7 rfl rfl 0 _ rfl yk_yX7_reelAt_1 rfl (Nat.le_of_ble_eq_true rfl) (Nat.le_of_ble_eq_true rfl) (Nat.le_of_ble_eq_true rfl) (Nat.le_of_ble_eq_true rfl) (Nat.le_of_ble_eq_true rfl) rfl rfl (by decide) rfl (by decide) (by decide) ?_
      rintro r_14 w rfl
      refine k_ws [(cO1_vvv h0 v0h0 v1h0 v2h0), (cO7_vvvrii hs v0hs v1hs v2hs zp zmd ztr), (cO8_iiri zp 8 2 zpc zpn), (cAI g zpc 16 zpf)] rfl ?_
      refine k_aload_n X dX1_wrongPlaces_30 4 rfl ?_
      refine k_iload_n X dX1_wrongPlaces_31 1 rfl ?_
      refine k_callVI (n := 1) (As := [.int u_1]) (st := [.int r_14]) X [(cO7_vvvrii hs v0hs v1hs v2hs zp zmd ztr), (cO8_iiri zp 8 2 zpc zpn), (cAI g zpc 16 zpf)] [(cO1_vvv h0 v0h0 v1h0 v2h0)] [1, 2, 3] [0] (s_reelAt l g hs u_1 v0hs v1hs v2hs zp zmd ztr zpc zpn zpf) dX1_wrongPlaces_32 mw1362 mw759 mw760 mw23 mw761 rfl 7 rfl rfl 0 _ rfl yk_yX7_reelAt_1 rfl (Nat.le_of_ble_eq_true rfl) (Nat.le_of_ble_eq_true rfl) (Nat.le_of_ble_eq_true rfl) (Nat.le_of_ble_eq_true rfl) (Nat.le_of_ble_eq_true rfl) rfl rfl (by decide) rfl (by decide) (by decide) ?_
      rintro r_16 w rfl
      refine k_ws [(cO1_vvv h0 v0h0 v1h0 v2h0), (cO7_vvvrii hs v0hs v1hs v2hs zp zmd ztr), (cO8_iiri zp 8 2 zpc zpn), (cAI g zpc 16 zpf)] rfl ?_
      refine k_ic_lt 44 X dX1_wrongPlaces_35 (by decide) (fun h_18 => ?_) (fun h_18 => ?_)
      · skip
        obtain ⟨z_19, ez_19⟩ : ∃ y : Int32, u_7 + Int32.ofInt 1 = y := ⟨_, rfl⟩
        refine k_iinc z_19 [(4, .int z_19), (3, .int u_1), (2, .int u_8), (0, .ref h0), (1, .ref hs)] 0 X dX1_wrongPlaces_44 rfl ez_19 (by decide) rfl ?_
        refine k_goto 18 X dX1_wrongPlaces_47 (by decide) ?_
        exact ih_11 _ (by rw [← hm_10]; exact mu_lt (by assumption) (by assumption)) z_19 u_8 rfl 
      · skip
        refine k_iload_n X dX1_wrongPlaces_38 2 rfl ?_
        refine k_iconst (v := 1) X dX1_wrongPlaces_39 (by decide) ?_
        refine k_iload_n X dX1_wrongPlaces_40 1 rfl ?_
        refine k_ishl X dX1_wrongPlaces_41 ?_
        refine k_nm (fun z_20 ez_20 => ?_)
        refine k_ior X dX1_wrongPlaces_42 ?_
        refine k_nm (fun z_21 ez_21 => ?_)
        refine k_istore_n [(2, .int z_21), (4, .int u_7), (3, .int u_1), (0, .ref h0), (1, .ref hs)] X dX1_wrongPlaces_43 (by decide) rfl ?_
        obtain ⟨z_22, ez_22⟩ : ∃ y : Int32, u_7 + Int32.ofInt 1 = y := ⟨_, rfl⟩
        refine k_iinc z_22 [(4, .int z_22), (2, .int z_21), (3, .int u_1), (0, .ref h0), (1, .ref hs)] 1 X dX1_wrongPlaces_44 rfl ez_22 (by decide) rfl ?_
        refine k_goto 18 X dX1_wrongPlaces_47 (by decide) ?_
        refine k_lv [(4, .int z_22), (3, .int u_1), (2, .int z_21), (0, .ref h0), (1, .ref hs)] [0, 2, 1, 3, 4] rfl ?_
        exact ih_11 _ (by rw [← hm_10]; exact mu_lt (by assumption) (by assumption)) z_22 z_21 rfl 

theorem dX1_sort_0 : decode cX1_sort 0 = .ok (.aload_n 0, 1) := dk_42 rfl
theorem dX1_sort_1 : decode cX1_sort 1 = .ok (.getfield 16, 3) := dk_180 rfl rfl rfl rfl
theorem dX1_sort_4 : decode cX1_sort 4 = .ok (.invokevirtual 63, 3) := dk_182 rfl rfl rfl rfl
theorem dX1_sort_7 : decode cX1_sort 7 = .ok (.iconst 0, 1) := dk_3 rfl
theorem dX1_sort_8 : decode cX1_sort 8 = .ok (.istore_n 2, 1) := dk_61 rfl
theorem dX1_sort_9 : decode cX1_sort 9 = .ok (.iload_n 2, 1) := dk_28 rfl
theorem dX1_sort_10 : decode cX1_sort 10 = .ok (.aload_n 1, 1) := dk_43 rfl
theorem dX1_sort_11 : decode cX1_sort 11 = .ok (.getfield 66, 3) := dk_180 rfl rfl rfl rfl
theorem dX1_sort_14 : decode cX1_sort 14 = .ok (.getfield 32, 3) := dk_180 rfl rfl rfl rfl
theorem dX1_sort_17 : decode cX1_sort 17 = .ok (.if_icmp .ge 39, 3) := dk_162 rfl rfl rfl (by decide)
theorem dX1_sort_20 : decode cX1_sort 20 = .ok (.aload_n 1, 1) := dk_43 rfl
theorem dX1_sort_21 : decode cX1_sort 21 = .ok (.getfield 27, 3) := dk_180 rfl rfl rfl rfl
theorem dX1_sort_24 : decode cX1_sort 24 = .ok (.iconst 0, 1) := dk_3 rfl
theorem dX1_sort_25 : decode cX1_sort 25 = .ok (.iload_n 2, 1) := dk_28 rfl
theorem dX1_sort_26 : decode cX1_sort 26 = .ok (.invokevirtual 69, 3) := dk_182 rfl rfl rfl rfl
theorem dX1_sort_29 : decode cX1_sort 29 = .ok (.istore_n 3, 1) := dk_62 rfl
theorem dX1_sort_30 : decode cX1_sort 30 = .ok (.iload_n 3, 1) := dk_29 rfl
theorem dX1_sort_31 : decode cX1_sort 31 = .ok (.ifCond .le 19, 3) := dk_158 rfl rfl rfl (by decide)
theorem dX1_sort_34 : decode cX1_sort 34 = .ok (.aload_n 0, 1) := dk_42 rfl
theorem dX1_sort_35 : decode cX1_sort 35 = .ok (.getfield 16, 3) := dk_180 rfl rfl rfl rfl
theorem dX1_sort_38 : decode cX1_sort 38 = .ok (.iload_n 2, 1) := dk_28 rfl
theorem dX1_sort_39 : decode cX1_sort 39 = .ok (.iconst 0, 1) := dk_3 rfl
theorem dX1_sort_40 : decode cX1_sort 40 = .ok (.iconst 0, 1) := dk_3 rfl
theorem dX1_sort_41 : decode cX1_sort 41 = .ok (.invokevirtual 72, 3) := dk_182 rfl rfl rfl rfl
theorem dX1_sort_44 : decode cX1_sort 44 = .ok (.iinc 3 (-1), 3) := dk_132 rfl rfl rfl rfl (by decide)
theorem dX1_sort_47 : decode cX1_sort 47 = .ok (.goto (-17), 3) := dk_167 rfl rfl rfl (by decide)
theorem dX1_sort_50 : decode cX1_sort 50 = .ok (.iinc 2 1, 3) := dk_132 rfl rfl rfl rfl (by decide)
theorem dX1_sort_53 : decode cX1_sort 53 = .ok (.goto (-44), 3) := dk_167 rfl rfl rfl (by decide)
theorem dX1_sort_56 : decode cX1_sort 56 = .ok (.return_, 1) := dk_177 rfl
set_option maxHeartbeats 4000000 in
set_option maxRecDepth 100000 in
theorem e_sort (l : Launch) (g : Gx) (h0 : Nat) (hs : Nat) (eo : Nat) (ep : Nat) (es : Nat) (eoc : Nat) (eon : Int32) (eof : Nat → Int32) (epc : Nat) (epn : Int32) (epf : Nat → Int32) (es_f : Nat → Int64) (zr : Nat) (v1hs : Value) (v2hs : Value) (zp : Nat) (zmd : Int32) (ztr : Int32) (zrc : Nat) (zrn : Int32) (zrf : Nat → Int32) (zpc : Nat) (zpn : Int32) (zpf : Nat → Int32) : cV l g yX1_sort cX1_sort 4 2 46 0 0 [.ref h0, .ref hs] [(cO1_rrr h0 eo ep es), (cO8_iiri eo 8 1 eoc eon), (cAI g eoc 8 eof), (cO8_iiri ep 256 1 epc epn), (cAI g epc 256 epf), (cAJ g es 8 es_f), (cO7_rvvrii hs zr v1hs v2hs zp zmd ztr), (cO8_iiri zr 8 3 zrc zrn), (cAI g zrc 24 zrf), (cO8_iiri zp 8 2 zpc zpn), (cAI g zpc 16 zpf)] (fun w => ∃ (eog : Nat → Int32) (eok : Int32), w = [(cO1_rrr h0 eo ep es), (cO8_iiri eo 8 1 eoc eok), (cAI g eoc 8 eog), (cO8_iiri ep 256 1 epc epn), (cAI g epc 256 epf), (cAJ g es 8 es_f), (cO7_rvvrii hs zr v1hs v2hs zp zmd ztr), (cO8_iiri zr 8 3 zrc zrn), (cAI g zrc 24 zrf), (cO8_iiri zp 8 2 zpc zpn), (cAI g zpc 16 zpf)]) := by
  refine cV.of (by decide) (Nat.le_of_ble_eq_true rfl) ?_
  intro p e s m args below meth c A X hr hi
  refine k_lveq [(0, .ref h0), (1, .ref hs)] rfl ?_
  refine k_aload_n X dX1_sort_0 0 rfl ?_
  refine k_get (ci := 1) X inlX1 rfl 0 (by decide) dX1_sort_1 mw154 0 rfl rfl ?_
  refine k_callVV (n := 0) (As := []) (st := []) X [(cO8_iiri eo 8 1 eoc eon)] [(cO1_rrr h0 eo ep es), (cAI g eoc 8 eof), (cO8_iiri ep 256 1 epc epn), (cAI g epc 256 epf), (cAJ g es 8 es_f), (cO7_rvvrii hs zr v1hs v2hs zp zmd ztr), (cO8_iiri zr 8 3 zrc zrn), (cAI g zrc 24 zrf), (cO8_iiri zp 8 2 zpc zpn), (cAI g zpc 16 zpf)] [1] [0, 2, 3, 4, 5, 6, 7, 8, 9, 10] (t_clear l g eo (.int 8) (.int 1) (.ref eoc) eon) dX1_sort_4 mw1382 mw232 mw233 mw64 mw234 rfl 8 rfl rfl 0 _ rfl yk_yX8_clear_0 rfl (Nat.le_of_ble_eq_true rfl) (Nat.le_of_ble_eq_true rfl) (Nat.le_of_ble_eq_true rfl) (Nat.le_of_ble_eq_true rfl) (Nat.le_of_ble_eq_true rfl) rfl rfl (by decide) rfl (by decide) (by decide) ?_
  rintro w rfl
  refine k_ws [(cO1_rrr h0 eo ep es), (cAI g eoc 8 eof), (cO8_iiri ep 256 1 epc epn), (cAI g epc 256 epf), (cAJ g es 8 es_f), (cO7_rvvrii hs zr v1hs v2hs zp zmd ztr), (cO8_iiri zr 8 3 zrc zrn), (cAI g zrc 24 zrf), (cO8_iiri zp 8 2 zpc zpn), (cAI g zpc 16 zpf), (cO8_iiri eo 8 1 eoc 0)] rfl ?_
  refine k_iconst (v := 0) X dX1_sort_7 (by decide) ?_
  refine k_istore_n [(2, .int 0), (0, .ref h0), (1, .ref hs)] X dX1_sort_8 (by decide) rfl ?_
  refine (fun hL : ∀ (nn_6 : Nat) (u_3 : Int32) (uf_4 : Nat → Int32) (u_5 : Int32), (zrn.toInt - u_3.toInt).toNat = nn_6 → Wk p l e _ s m args below meth c _ A g _ _ _ [(cO1_rrr h0 eo ep es), (cAI g eoc 8 uf_4), (cO8_iiri ep 256 1 epc epn), (cAI g epc 256 epf), (cAJ g es 8 es_f), (cO7_rvvrii hs zr v1hs v2hs zp zmd ztr), (cO8_iiri zr 8 3 zrc zrn), (cAI g zrc 24 zrf), (cO8_iiri zp 8 2 zpc zpn), (cAI g zpc 16 zpf), (cO8_iiri eo 8 1 eoc u_5)] [(2, .int u_3), (0, .ref h0), (1, .ref hs)] 9 [] => hL _ 0 eof 0 rfl ) ?_
  refine fun nn_6 => Nat.strongRecOn nn_6 (fun nn_6 ih_8 => ?_)
  intro u_3 uf_4 u_5 hm_7 
  refine k_iload_n X dX1_sort_9 0 rfl ?_
  refine k_aload_n X dX1_sort_10 2 rfl ?_
  refine k_get (ci := 7) X inlX7 rfl 0 (by decide) dX1_sort_11 mw1381 5 rfl rfl ?_
  refine k_get (ci := 8) X inlX8 rfl 3 (by decide) dX1_sort_14 mw1361 6 rfl rfl ?_
  refine k_ic_ge 56 X dX1_sort_17 (by decide) (fun h_9 => ?_) (fun h_9 => ?_)
  · skip
    exact k_vret X hr dX1_sort_56 (Nat.le_of_ble_eq_true rfl) (Nat.le_of_ble_eq_true rfl) [0, 10, 1, 2, 3, 4, 5, 6, 7, 8, 9] (by decide) rfl rfl ⟨uf_4, u_5, rfl⟩
  · skip
    refine k_aload_n X dX1_sort_20 2 rfl ?_
    refine k_get (ci := 7) X inlX7 rfl 3 (by decide) dX1_sort_21 mw1360 5 rfl rfl ?_
    refine k_iconst (v := 0) X dX1_sort_24 (by decide) ?_
    refine k_iload_n X dX1_sort_25 0 rfl ?_
    refine k_callVI (n := 2) (As := [.int 0, .int u_3]) (st := []) X [(cO8_iiri zp 8 2 zpc zpn), (cAI g zpc 16 zpf)] [(cO1_rrr h0 eo ep es), (cAI g eoc 8 uf_4), (cO8_iiri ep 256 1 epc epn), (cAI g epc 256 epf), (cAJ g es 8 es_f), (cO7_rvvrii hs zr v1hs v2hs zp zmd ztr), (cO8_iiri zr 8 3 zrc zrn), (cAI g zrc 24 zrf), (cO8_iiri eo 8 1 eoc u_5)] [8, 9] [0, 1, 2, 3, 4, 5, 6, 7, 10] (t_howMany l g zp 0 u_3 8 2 zpc zpn 16 zpf (tbk_8_2)) dX1_sort_26 mw1383 mw652 mw653 mw64 mw654 rfl 8 rfl rfl 0 _ rfl yk_yX8_howMany_2 rfl (Nat.le_of_ble_eq_true rfl) (Nat.le_of_ble_eq_true rfl) (Nat.le_of_ble_eq_true rfl) (Nat.le_of_ble_eq_true rfl) (Nat.le_of_ble_eq_true rfl) rfl rfl (by decide) rfl (by decide) (by decide) ?_
    rintro r_10 w rfl
    refine k_ws [(cO1_rrr h0 eo ep es), (cAI g eoc 8 uf_4), (cO8_iiri ep 256 1 epc epn), (cAI g epc 256 epf), (cAJ g es 8 es_f), (cO7_rvvrii hs zr v1hs v2hs zp zmd ztr), (cO8_iiri zr 8 3 zrc zrn), (cAI g zrc 24 zrf), (cO8_iiri eo 8 1 eoc u_5), (cO8_iiri zp 8 2 zpc zpn), (cAI g zpc 16 zpf)] rfl ?_
    refine k_istore_n [(3, .int r_10), (2, .int u_3), (0, .ref h0), (1, .ref hs)] X dX1_sort_29 (by decide) rfl ?_
    refine (fun hL : ∀ (nn_15 : Nat) (u_12 : Int32) (uf_13 : Nat → Int32) (u_14 : Int32), u_12.toInt.toNat = nn_15 → Wk p l e _ s m args below meth c _ A g _ _ _ [(cO1_rrr h0 eo ep es), (cAI g eoc 8 uf_13), (cO8_iiri ep 256 1 epc epn), (cAI g epc 256 epf), (cAJ g es 8 es_f), (cO7_rvvrii hs zr v1hs v2hs zp zmd ztr), (cO8_iiri zr 8 3 zrc zrn), (cAI g zrc 24 zrf), (cO8_iiri eo 8 1 eoc u_14), (cO8_iiri zp 8 2 zpc zpn), (cAI g zpc 16 zpf)] [(3, .int u_12), (2, .int u_3), (0, .ref h0), (1, .ref hs)] 30 [] => hL _ r_10 uf_4 u_5 rfl ) ?_
    refine fun nn_15 => Nat.strongRecOn nn_15 (fun nn_15 ih_17 => ?_)
    intro u_12 uf_13 u_14 hm_16 
    refine k_iload_n X dX1_sort_30 0 rfl ?_
    refine k_if_le 50 X dX1_sort_31 (by decide) (fun h_18 => ?_) (fun h_18 => ?_)
    · skip
      obtain ⟨z_19, ez_19⟩ : ∃ y : Int32, u_3 + Int32.ofInt 1 = y := ⟨_, rfl⟩
      refine k_iinc z_19 [(2, .int z_19), (3, .int u_12), (0, .ref h0), (1, .ref hs)] 1 X dX1_sort_50 rfl ez_19 (by decide) rfl ?_
      refine k_goto 9 X dX1_sort_53 (by decide) ?_
      refine k_lv [(2, .int z_19), (0, .ref h0), (1, .ref hs)] [0, 2, 3] rfl ?_
      refine k_sub [(cO1_rrr h0 eo ep es), (cAI g eoc 8 uf_13), (cO8_iiri ep 256 1 epc epn), (cAI g epc 256 epf), (cAJ g es 8 es_f), (cO7_rvvrii hs zr v1hs v2hs zp zmd ztr), (cO8_iiri zr 8 3 zrc zrn), (cAI g zrc 24 zrf), (cO8_iiri zp 8 2 zpc zpn), (cAI g zpc 16 zpf), (cO8_iiri eo 8 1 eoc u_14)] [0, 1, 2, 3, 4, 5, 6, 7, 9, 10, 8] rfl (by decide) rfl ?_
      exact ih_8 _ (by rw [← hm_7]; exact mu_lt (by assumption) (by assumption)) z_19 uf_13 u_14 rfl 
    · skip
      refine k_aload_n X dX1_sort_34 2 rfl ?_
      refine k_get (ci := 1) X inlX1 rfl 0 (by decide) dX1_sort_35 mw154 0 rfl rfl ?_
      refine k_iload_n X dX1_sort_38 1 rfl ?_
      refine k_iconst (v := 0) X dX1_sort_39 (by decide) ?_
      refine k_iconst (v := 0) X dX1_sort_40 (by decide) ?_
      refine k_callVV (n := 3) (As := [.int u_3, .int 0, .int 0]) (st := []) X [(cO8_iiri eo 8 1 eoc u_14), (cAI g eoc 8 uf_13)] [(cO1_rrr h0 eo ep es), (cO8_iiri ep 256 1 epc epn), (cAI g epc 256 epf), (cAJ g es 8 es_f), (cO7_rvvrii hs zr v1hs v2hs zp zmd ztr), (cO8_iiri zr 8 3 zrc zrn), (cAI g zrc 24 zrf), (cO8_iiri zp 8 2 zpc zpn), (cAI g zpc 16 zpf)] [8, 1] [0, 2, 3, 4, 5, 6, 7, 9, 10] (t_add l g eo u_3 0 0 8 1 eoc u_14 8 uf_13 (tbk_8_1)) dX1_sort_41 mw1384 mw356 mw357 mw64 mw358 rfl 8 rfl rfl 0 _ rfl yk_yX8_add_3 rfl (Nat.le_of_ble_eq_true rfl) (Nat.le_of_ble_eq_true rfl) (Nat.le_of_ble_eq_true rfl) (Nat.le_of_ble_eq_true rfl) (Nat.le_of_ble_eq_true rfl) rfl rfl (by decide) rfl (by decide) (by decide) ?_
      rintro w ⟨fa_20, cm_21, rfl⟩
      refine k_ws [(cO1_rrr h0 eo ep es), (cO8_iiri ep 256 1 epc epn), (cAI g epc 256 epf), (cAJ g es 8 es_f), (cO7_rvvrii hs zr v1hs v2hs zp zmd ztr), (cO8_iiri zr 8 3 zrc zrn), (cAI g zrc 24 zrf), (cO8_iiri zp 8 2 zpc zpn), (cAI g zpc 16 zpf), (cO8_iiri eo 8 1 eoc cm_21), (cAI g eoc 8 fa_20)] rfl ?_
      obtain ⟨z_24, ez_24⟩ : ∃ y : Int32, u_12 + Int32.ofInt (-1) = y := ⟨_, rfl⟩
      refine k_iinc z_24 [(3, .int z_24), (2, .int u_3), (0, .ref h0), (1, .ref hs)] 0 X dX1_sort_44 rfl ez_24 (by decide) rfl ?_
      refine k_goto 30 X dX1_sort_47 (by decide) ?_
      refine k_sub [(cO1_rrr h0 eo ep es), (cAI g eoc 8 fa_20), (cO8_iiri ep 256 1 epc epn), (cAI g epc 256 epf), (cAJ g es 8 es_f), (cO7_rvvrii hs zr v1hs v2hs zp zmd ztr), (cO8_iiri zr 8 3 zrc zrn), (cAI g zrc 24 zrf), (cO8_iiri eo 8 1 eoc cm_21), (cO8_iiri zp 8 2 zpc zpn), (cAI g zpc 16 zpf)] [0, 10, 1, 2, 3, 4, 5, 6, 9, 7, 8] rfl (by decide) rfl ?_
      exact ih_17 _ (by rw [← hm_16]; exact mu_dn (by assumption) (by assumption)) z_24 fa_20 cm_21 rfl 

theorem dX1_weigh_0 : decode cX1_weigh 0 = .ok (.iconst 0, 1) := dk_3 rfl
theorem dX1_weigh_1 : decode cX1_weigh 1 = .ok (.istore_n 2, 1) := dk_61 rfl
theorem dX1_weigh_2 : decode cX1_weigh 2 = .ok (.iload_n 2, 1) := dk_28 rfl
theorem dX1_weigh_3 : decode cX1_weigh 3 = .ok (.aload_n 0, 1) := dk_42 rfl
theorem dX1_weigh_4 : decode cX1_weigh 4 = .ok (.getfield 23, 3) := dk_180 rfl rfl rfl rfl
theorem dX1_weigh_7 : decode cX1_weigh 7 = .ok (.arraylength, 1) := dk_190 rfl
theorem dX1_weigh_8 : decode cX1_weigh 8 = .ok (.if_icmp .ge 36, 3) := dk_162 rfl rfl rfl (by decide)
theorem dX1_weigh_11 : decode cX1_weigh 11 = .ok (.aload_n 0, 1) := dk_42 rfl
theorem dX1_weigh_12 : decode cX1_weigh 12 = .ok (.getfield 23, 3) := dk_180 rfl rfl rfl rfl
theorem dX1_weigh_15 : decode cX1_weigh 15 = .ok (.iload_n 2, 1) := dk_28 rfl
theorem dX1_weigh_16 : decode cX1_weigh 16 = .ok (.aload_n 1, 1) := dk_43 rfl
theorem dX1_weigh_17 : decode cX1_weigh 17 = .ok (.iload_n 2, 1) := dk_28 rfl
theorem dX1_weigh_18 : decode cX1_weigh 18 = .ok (.invokevirtual 36, 3) := dk_182 rfl rfl rfl rfl
theorem dX1_weigh_21 : decode cX1_weigh 21 = .ok (.invokestatic 75, 3) := dk_184 rfl rfl rfl rfl
theorem dX1_weigh_24 : decode cX1_weigh 24 = .ok (.aload_n 0, 1) := dk_42 rfl
theorem dX1_weigh_25 : decode cX1_weigh 25 = .ok (.getfield 16, 3) := dk_180 rfl rfl rfl rfl
theorem dX1_weigh_28 : decode cX1_weigh 28 = .ok (.iload_n 2, 1) := dk_28 rfl
theorem dX1_weigh_29 : decode cX1_weigh 29 = .ok (.iconst 0, 1) := dk_3 rfl
theorem dX1_weigh_30 : decode cX1_weigh 30 = .ok (.invokevirtual 53, 3) := dk_182 rfl rfl rfl rfl
theorem dX1_weigh_33 : decode cX1_weigh 33 = .ok (.invokestatic 75, 3) := dk_184 rfl rfl rfl rfl
theorem dX1_weigh_36 : decode cX1_weigh 36 = .ok (.lsub, 1) := dk_101 rfl
theorem dX1_weigh_37 : decode cX1_weigh 37 = .ok (.lastore, 1) := dk_80 rfl
theorem dX1_weigh_38 : decode cX1_weigh 38 = .ok (.iinc 2 1, 3) := dk_132 rfl rfl rfl rfl (by decide)
theorem dX1_weigh_41 : decode cX1_weigh 41 = .ok (.goto (-39), 3) := dk_167 rfl rfl rfl (by decide)
theorem dX1_weigh_44 : decode cX1_weigh 44 = .ok (.return_, 1) := dk_177 rfl
set_option maxHeartbeats 4000000 in
set_option maxRecDepth 100000 in
theorem e_weigh (l : Launch) (g : Gx) (h0 : Nat) (hs : Nat) (eo : Nat) (ep : Nat) (es : Nat) (eoc : Nat) (eon : Int32) (eof : Nat → Int32) (epc : Nat) (epn : Int32) (epf : Nat → Int32) (es_f : Nat → Int64) (v0hs : Value) (v1hs : Value) (v2hs : Value) (zp : Nat) (zmd : Int32) (ztr : Int32) (zpc : Nat) (zpn : Int32) (zpf : Nat → Int32) : cV l g yX1_weigh cX1_weigh 3 2 43 0 0 [.ref h0, .ref hs] [(cO1_rrr h0 eo ep es), (cO8_iiri eo 8 1 eoc eon), (cAI g eoc 8 eof), (cO8_iiri ep 256 1 epc epn), (cAI g epc 256 epf), (cAJ g es 8 es_f), (cO7_vvvrii hs v0hs v1hs v2hs zp zmd ztr), (cO8_iiri zp 8 2 zpc zpn), (cAI g zpc 16 zpf)] (fun w => ∃ (es_g : Nat → Int64), w = [(cO1_rrr h0 eo ep es), (cO8_iiri eo 8 1 eoc eon), (cAI g eoc 8 eof), (cO8_iiri ep 256 1 epc epn), (cAI g epc 256 epf), (cAJ g es 8 es_g), (cO7_vvvrii hs v0hs v1hs v2hs zp zmd ztr), (cO8_iiri zp 8 2 zpc zpn), (cAI g zpc 16 zpf)]) := by
  refine cV.of (by decide) (Nat.le_of_ble_eq_true rfl) ?_
  intro p e s m args below meth c A X hr hi
  refine k_lveq [(0, .ref h0), (1, .ref hs)] rfl ?_
  refine k_iconst (v := 0) X dX1_weigh_0 (by decide) ?_
  refine k_istore_n [(2, .int 0), (0, .ref h0), (1, .ref hs)] X dX1_weigh_1 (by decide) rfl ?_
  refine (fun hL : ∀ (nn_4 : Nat) (u_1 : Int32) (uf_2 : Nat → Int64), ((8 : Int32).toInt - u_1.toInt).toNat = nn_4 → (¬ u_1 < 0) → Wk p l e _ s m args below meth c _ A g _ _ _ [(cO1_rrr h0 eo ep es), (cO8_iiri eo 8 1 eoc eon), (cAI g eoc 8 eof), (cO8_iiri ep 256 1 epc epn), (cAI g epc 256 epf), (cAJ g es 8 uf_2), (cO7_vvvrii hs v0hs v1hs v2hs zp zmd ztr), (cO8_iiri zp 8 2 zpc zpn), (cAI g zpc 16 zpf)] [(2, .int u_1), (0, .ref h0), (1, .ref hs)] 2 [] => hL _ 0 es_f rfl (by decide)) ?_
  refine fun nn_4 => Nat.strongRecOn nn_4 (fun nn_4 ih_6 => ?_)
  intro u_1 uf_2 hm_5 hp_3
  refine k_iload_n X dX1_weigh_2 0 rfl ?_
  refine k_aload_n X dX1_weigh_3 1 rfl ?_
  refine k_get (ci := 1) X inlX1 rfl 2 (by decide) dX1_weigh_4 mw156 0 rfl rfl ?_
  refine k_alen 8 2 X dX1_weigh_7 5 rfl rfl (by show Int32.ofNat 8 = 8; decide) ?_
  refine k_ic_ge 44 X dX1_weigh_8 (by decide) (fun h_7 => ?_) (fun h_7 => ?_)
  · skip
    exact k_vret X hr dX1_weigh_44 (Nat.le_of_ble_eq_true rfl) (Nat.le_of_ble_eq_true rfl) [0, 1, 2, 3, 4, 5, 6, 7, 8] (by decide) rfl rfl ⟨uf_2, rfl⟩
  · skip
    refine k_aload_n X dX1_weigh_11 1 rfl ?_
    refine k_get (ci := 1) X inlX1 rfl 2 (by decide) dX1_weigh_12 mw156 0 rfl rfl ?_
    refine k_iload_n X dX1_weigh_15 0 rfl ?_
    refine k_aload_n X dX1_weigh_16 2 rfl ?_
    refine k_iload_n X dX1_weigh_17 0 rfl ?_
    refine k_callVI (n := 1) (As := [.int u_1]) (st := [.int u_1, .ref es]) X [(cO7_vvvrii hs v0hs v1hs v2hs zp zmd ztr), (cO8_iiri zp 8 2 zpc zpn), (cAI g zpc 16 zpf)] [(cO1_rrr h0 eo ep es), (cO8_iiri eo 8 1 eoc eon), (cAI g eoc 8 eof), (cO8_iiri ep 256 1 epc epn), (cAI g epc 256 epf), (cAJ g es 8 uf_2)] [6, 7, 8] [0, 1, 2, 3, 4, 5] (s_reelAt l g hs u_1 v0hs v1hs v2hs zp zmd ztr zpc zpn zpf) dX1_weigh_18 mw1362 mw759 mw760 mw23 mw761 rfl 7 rfl rfl 0 _ rfl yk_yX7_reelAt_1 rfl (Nat.le_of_ble_eq_true rfl) (Nat.le_of_ble_eq_true rfl) (Nat.le_of_ble_eq_true rfl) (Nat.le_of_ble_eq_true rfl) (Nat.le_of_ble_eq_true rfl) rfl rfl (by decide) rfl (by decide) (by decide) ?_
    rintro r_8 w rfl
    refine k_ws [(cO1_rrr h0 eo ep es), (cO8_iiri eo 8 1 eoc eon), (cAI g eoc 8 eof), (cO8_iiri ep 256 1 epc epn), (cAI g epc 256 epf), (cAJ g es 8 uf_2), (cO7_vvvrii hs v0hs v1hs v2hs zp zmd ztr), (cO8_iiri zp 8 2 zpc zpn), (cAI g zpc 16 zpf)] rfl ?_
    refine k_callSL (n := 1) (As := [.int r_8]) (st := [.int u_1, .ref es]) X [] [(cO1_rrr h0 eo ep es), (cO8_iiri eo 8 1 eoc eon), (cAI g eoc 8 eof), (cO8_iiri ep 256 1 epc epn), (cAI g epc 256 epf), (cAJ g es 8 uf_2), (cO7_vvvrii hs v0hs v1hs v2hs zp zmd ztr), (cO8_iiri zp 8 2 zpc zpn), (cAI g zpc 16 zpf)] [] [0, 1, 2, 3, 4, 5, 6, 7, 8] (e_unit l g r_8) dX1_weigh_21 mw1389 mw1390 mw43 mw1391 yk_yX1_unit_1 rfl (Nat.le_of_ble_eq_true rfl) (Nat.le_of_ble_eq_true rfl) (Nat.le_of_ble_eq_true rfl) (Nat.le_of_ble_eq_true rfl) (Nat.le_of_ble_eq_true rfl) rfl rfl (by decide) rfl (by decide) (by decide) ?_
    rintro r_10 w rfl
    refine k_ws [(cO1_rrr h0 eo ep es), (cO8_iiri eo 8 1 eoc eon), (cAI g eoc 8 eof), (cO8_iiri ep 256 1 epc epn), (cAI g epc 256 epf), (cAJ g es 8 uf_2), (cO7_vvvrii hs v0hs v1hs v2hs zp zmd ztr), (cO8_iiri zp 8 2 zpc zpn), (cAI g zpc 16 zpf)] rfl ?_
    refine k_aload_n X dX1_weigh_24 1 rfl ?_
    refine k_get (ci := 1) X inlX1 rfl 0 (by decide) dX1_weigh_25 mw154 0 rfl rfl ?_
    refine k_iload_n X dX1_weigh_28 0 rfl ?_
    refine k_iconst (v := 0) X dX1_weigh_29 (by decide) ?_
    refine k_callVI (n := 2) (As := [.int u_1, .int 0]) (st := [.long r_10, .int u_1, .ref es]) X [(cO8_iiri eo 8 1 eoc eon), (cAI g eoc 8 eof)] [(cO1_rrr h0 eo ep es), (cO8_iiri ep 256 1 epc epn), (cAI g epc 256 epf), (cAJ g es 8 uf_2), (cO7_vvvrii hs v0hs v1hs v2hs zp zmd ztr), (cO8_iiri zp 8 2 zpc zpn), (cAI g zpc 16 zpf)] [1, 2] [0, 3, 4, 5, 6, 7, 8] (t_at l g eo u_1 0 8 1 eoc eon 8 eof (tbk_8_1)) dX1_weigh_30 mw1392 mw376 mw377 mw64 mw378 rfl 8 rfl rfl 0 _ rfl yk_yX8_at_2 rfl (Nat.le_of_ble_eq_true rfl) (Nat.le_of_ble_eq_true rfl) (Nat.le_of_ble_eq_true rfl) (Nat.le_of_ble_eq_true rfl) (Nat.le_of_ble_eq_true rfl) rfl rfl (by decide) rfl (by decide) (by decide) ?_
    rintro r_12 w ⟨hr_13, rfl⟩
    refine k_ws [(cO1_rrr h0 eo ep es), (cO8_iiri ep 256 1 epc epn), (cAI g epc 256 epf), (cAJ g es 8 uf_2), (cO7_vvvrii hs v0hs v1hs v2hs zp zmd ztr), (cO8_iiri zp 8 2 zpc zpn), (cAI g zpc 16 zpf), (cO8_iiri eo 8 1 eoc eon), (cAI g eoc 8 eof)] rfl ?_
    refine k_callSL (n := 1) (As := [.int r_12]) (st := [.long r_10, .int u_1, .ref es]) X [] [(cO1_rrr h0 eo ep es), (cO8_iiri ep 256 1 epc epn), (cAI g epc 256 epf), (cAJ g es 8 uf_2), (cO7_vvvrii hs v0hs v1hs v2hs zp zmd ztr), (cO8_iiri zp 8 2 zpc zpn), (cAI g zpc 16 zpf), (cO8_iiri eo 8 1 eoc eon), (cAI g eoc 8 eof)] [] [0, 1, 2, 3, 4, 5, 6, 7, 8] (e_unit l g r_12) dX1_weigh_33 mw1389 mw1390 mw43 mw1391 yk_yX1_unit_1 rfl (Nat.le_of_ble_eq_true rfl) (Nat.le_of_ble_eq_true rfl) (Nat.le_of_ble_eq_true rfl) (Nat.le_of_ble_eq_true rfl) (Nat.le_of_ble_eq_true rfl) rfl rfl (by decide) rfl (by decide) (by decide) ?_
    rintro r_14 w rfl
    refine k_ws [(cO1_rrr h0 eo ep es), (cO8_iiri ep 256 1 epc epn), (cAI g epc 256 epf), (cAJ g es 8 uf_2), (cO7_vvvrii hs v0hs v1hs v2hs zp zmd ztr), (cO8_iiri zp 8 2 zpc zpn), (cAI g zpc 16 zpf), (cO8_iiri eo 8 1 eoc eon), (cAI g eoc 8 eof)] rfl ?_
    refine k_lsub X dX1_weigh_36 ?_
    refine k_nmL (fun y_16 ey_16 => ?_)
    refine k_last [(cO1_rrr h0 eo ep es), (cO8_iiri ep 256 1 epc epn), (cAI g epc 256 epf), (cAJ g es 8 (vp_updL uf_2 (u_1 : Int32).toNatClampNeg y_16)), (cO7_vvvrii hs v0hs v1hs v2hs zp zmd ztr), (cO8_iiri zp 8 2 zpc zpn), (cAI g zpc 16 zpf), (cO8_iiri eo 8 1 eoc eon), (cAI g eoc 8 eof)] X dX1_weigh_37 3 rfl (in8 (by assumption) (by assumption)) rfl ?_
    refine (fun hg : ∀ fl_17 : Nat → Int64, Wk p l e _ s m args below meth c _ A g _ _ _ [(cO1_rrr h0 eo ep es), (cO8_iiri ep 256 1 epc epn), (cAI g epc 256 epf), (cAJ g es 8 fl_17), (cO7_vvvrii hs v0hs v1hs v2hs zp zmd ztr), (cO8_iiri zp 8 2 zpc zpn), (cAI g zpc 16 zpf), (cO8_iiri eo 8 1 eoc eon), (cAI g eoc 8 eof)] _ _ _ => hg _) (fun fl_17 => ?_)
    obtain ⟨z_18, ez_18⟩ : ∃ y : Int32, u_1 + Int32.ofInt 1 = y := ⟨_, rfl⟩
    refine k_iinc z_18 [(2, .int z_18), (0, .ref h0), (1, .ref hs)] 0 X dX1_weigh_38 rfl ez_18 (by decide) rfl ?_
    refine k_goto 2 X dX1_weigh_41 (by decide) ?_
    refine k_sub [(cO1_rrr h0 eo ep es), (cO8_iiri eo 8 1 eoc eon), (cAI g eoc 8 eof), (cO8_iiri ep 256 1 epc epn), (cAI g epc 256 epf), (cAJ g es 8 fl_17), (cO7_vvvrii hs v0hs v1hs v2hs zp zmd ztr), (cO8_iiri zp 8 2 zpc zpn), (cAI g zpc 16 zpf)] [0, 7, 8, 1, 2, 3, 4, 5, 6] rfl (by decide) rfl ?_
    exact ih_6 _ (by rw [← hm_5]; exact mu_lt (by assumption) (by assumption)) z_18 fl_17 rfl (up0 (by assumption) (by assumption) (by assumption))

theorem dX1_fewest_0 : decode cX1_fewest 0 = .ok (.aload_n 1, 1) := dk_43 rfl
theorem dX1_fewest_1 : decode cX1_fewest 1 = .ok (.getfield 27, 3) := dk_180 rfl rfl rfl rfl
theorem dX1_fewest_4 : decode cX1_fewest 4 = .ok (.getfield 32, 3) := dk_180 rfl rfl rfl rfl
theorem dX1_fewest_7 : decode cX1_fewest 7 = .ok (.bipush 8, 2) := dk_16 rfl rfl (by decide)
theorem dX1_fewest_9 : decode cX1_fewest 9 = .ok (.invokestatic 40, 3) := dk_184 rfl rfl rfl rfl
theorem dX1_fewest_12 : decode cX1_fewest 12 = .ok (.istore_n 2, 1) := dk_61 rfl
theorem dX1_fewest_13 : decode cX1_fewest 13 = .ok (.aload_n 0, 1) := dk_42 rfl
theorem dX1_fewest_14 : decode cX1_fewest 14 = .ok (.aload_n 1, 1) := dk_43 rfl
theorem dX1_fewest_15 : decode cX1_fewest 15 = .ok (.invokevirtual 46, 3) := dk_182 rfl rfl rfl rfl
theorem dX1_fewest_18 : decode cX1_fewest 18 = .ok (.aload_n 0, 1) := dk_42 rfl
theorem dX1_fewest_19 : decode cX1_fewest 19 = .ok (.aload_n 1, 1) := dk_43 rfl
theorem dX1_fewest_20 : decode cX1_fewest 20 = .ok (.invokevirtual 50, 3) := dk_182 rfl rfl rfl rfl
theorem dX1_fewest_23 : decode cX1_fewest 23 = .ok (.iconst 1, 1) := dk_4 rfl
theorem dX1_fewest_24 : decode cX1_fewest 24 = .ok (.istore_n 3, 1) := dk_62 rfl
theorem dX1_fewest_25 : decode cX1_fewest 25 = .ok (.iload_n 3, 1) := dk_29 rfl
theorem dX1_fewest_26 : decode cX1_fewest 26 = .ok (.iconst 1, 1) := dk_4 rfl
theorem dX1_fewest_27 : decode cX1_fewest 27 = .ok (.iload_n 2, 1) := dk_28 rfl
theorem dX1_fewest_28 : decode cX1_fewest 28 = .ok (.ishl, 1) := dk_120 rfl
theorem dX1_fewest_29 : decode cX1_fewest 29 = .ok (.if_icmp .ge 102, 3) := dk_162 rfl rfl rfl (by decide)
theorem dX1_fewest_32 : decode cX1_fewest 32 = .ok (.iconst 0, 1) := dk_3 rfl
theorem dX1_fewest_33 : decode cX1_fewest 33 = .ok (.istore 4, 2) := dk_54 rfl rfl rfl
theorem dX1_fewest_35 : decode cX1_fewest 35 = .ok (.lconst 0, 1) := dk_9 rfl
theorem dX1_fewest_36 : decode cX1_fewest 36 = .ok (.lstore 5, 2) := dk_55 rfl rfl rfl
theorem dX1_fewest_38 : decode cX1_fewest 38 = .ok (.iconst 0, 1) := dk_3 rfl
theorem dX1_fewest_39 : decode cX1_fewest 39 = .ok (.istore 7, 2) := dk_54 rfl rfl rfl
theorem dX1_fewest_41 : decode cX1_fewest 41 = .ok (.iload 7, 2) := dk_21 rfl rfl rfl
theorem dX1_fewest_43 : decode cX1_fewest 43 = .ok (.aload_n 0, 1) := dk_42 rfl
theorem dX1_fewest_44 : decode cX1_fewest 44 = .ok (.getfield 23, 3) := dk_180 rfl rfl rfl rfl
theorem dX1_fewest_47 : decode cX1_fewest 47 = .ok (.arraylength, 1) := dk_190 rfl
theorem dX1_fewest_48 : decode cX1_fewest 48 = .ok (.if_icmp .ge 52, 3) := dk_162 rfl rfl rfl (by decide)
theorem dX1_fewest_51 : decode cX1_fewest 51 = .ok (.iload_n 3, 1) := dk_29 rfl
theorem dX1_fewest_52 : decode cX1_fewest 52 = .ok (.iload 7, 2) := dk_21 rfl rfl rfl
theorem dX1_fewest_54 : decode cX1_fewest 54 = .ok (.ishr, 1) := dk_122 rfl
theorem dX1_fewest_55 : decode cX1_fewest 55 = .ok (.iconst 1, 1) := dk_4 rfl
theorem dX1_fewest_56 : decode cX1_fewest 56 = .ok (.iand, 1) := dk_126 rfl
theorem dX1_fewest_57 : decode cX1_fewest 57 = .ok (.iconst 1, 1) := dk_4 rfl
theorem dX1_fewest_58 : decode cX1_fewest 58 = .ok (.if_icmp .ne 36, 3) := dk_160 rfl rfl rfl (by decide)
theorem dX1_fewest_61 : decode cX1_fewest 61 = .ok (.iload 4, 2) := dk_21 rfl rfl rfl
theorem dX1_fewest_63 : decode cX1_fewest 63 = .ok (.aload_n 0, 1) := dk_42 rfl
theorem dX1_fewest_64 : decode cX1_fewest 64 = .ok (.getfield 20, 3) := dk_180 rfl rfl rfl rfl
theorem dX1_fewest_67 : decode cX1_fewest 67 = .ok (.iload_n 3, 1) := dk_29 rfl
theorem dX1_fewest_68 : decode cX1_fewest 68 = .ok (.iconst 1, 1) := dk_4 rfl
theorem dX1_fewest_69 : decode cX1_fewest 69 = .ok (.iload 7, 2) := dk_21 rfl rfl rfl
theorem dX1_fewest_71 : decode cX1_fewest 71 = .ok (.ishl, 1) := dk_120 rfl
theorem dX1_fewest_72 : decode cX1_fewest 72 = .ok (.ixor, 1) := dk_130 rfl
theorem dX1_fewest_73 : decode cX1_fewest 73 = .ok (.iconst 0, 1) := dk_3 rfl
theorem dX1_fewest_74 : decode cX1_fewest 74 = .ok (.invokevirtual 53, 3) := dk_182 rfl rfl rfl rfl
theorem dX1_fewest_77 : decode cX1_fewest 77 = .ok (.invokestatic 56, 3) := dk_184 rfl rfl rfl rfl
theorem dX1_fewest_80 : decode cX1_fewest 80 = .ok (.istore 4, 2) := dk_54 rfl rfl rfl
theorem dX1_fewest_82 : decode cX1_fewest 82 = .ok (.lload 5, 2) := dk_22 rfl rfl rfl
theorem dX1_fewest_84 : decode cX1_fewest 84 = .ok (.aload_n 0, 1) := dk_42 rfl
theorem dX1_fewest_85 : decode cX1_fewest 85 = .ok (.getfield 23, 3) := dk_180 rfl rfl rfl rfl
theorem dX1_fewest_88 : decode cX1_fewest 88 = .ok (.iload 7, 2) := dk_21 rfl rfl rfl
theorem dX1_fewest_90 : decode cX1_fewest 90 = .ok (.laload, 1) := dk_47 rfl
theorem dX1_fewest_91 : decode cX1_fewest 91 = .ok (.ladd, 1) := dk_97 rfl
theorem dX1_fewest_92 : decode cX1_fewest 92 = .ok (.lstore 5, 2) := dk_55 rfl rfl rfl
theorem dX1_fewest_94 : decode cX1_fewest 94 = .ok (.iinc 7 1, 3) := dk_132 rfl rfl rfl rfl (by decide)
theorem dX1_fewest_97 : decode cX1_fewest 97 = .ok (.goto (-56), 3) := by decide +kernel
theorem dX1_fewest_100 : decode cX1_fewest 100 = .ok (.aload_n 0, 1) := by decide +kernel
theorem dX1_fewest_101 : decode cX1_fewest 101 = .ok (.getfield 20, 3) := by decide +kernel
theorem dX1_fewest_104 : decode cX1_fewest 104 = .ok (.iload_n 3, 1) := by decide +kernel
theorem dX1_fewest_105 : decode cX1_fewest 105 = .ok (.iconst 0, 1) := by decide +kernel
theorem dX1_fewest_106 : decode cX1_fewest 106 = .ok (.lload 5, 2) := by decide +kernel
theorem dX1_fewest_108 : decode cX1_fewest 108 = .ok (.lconst 0, 1) := by decide +kernel
theorem dX1_fewest_109 : decode cX1_fewest 109 = .ok (.lcmp, 1) := by decide +kernel
theorem dX1_fewest_110 : decode cX1_fewest 110 = .ok (.ifCond .ne 10, 3) := by decide +kernel
theorem dX1_fewest_113 : decode cX1_fewest 113 = .ok (.iload 4, 2) := by decide +kernel
theorem dX1_fewest_115 : decode cX1_fewest 115 = .ok (.iconst 1, 1) := by decide +kernel
theorem dX1_fewest_116 : decode cX1_fewest 116 = .ok (.iadd, 1) := by decide +kernel
theorem dX1_fewest_117 : decode cX1_fewest 117 = .ok (.goto 5, 3) := by decide +kernel
theorem dX1_fewest_120 : decode cX1_fewest 120 = .ok (.iload 4, 2) := by decide +kernel
theorem dX1_fewest_122 : decode cX1_fewest 122 = .ok (.invokevirtual 59, 3) := by decide +kernel
theorem dX1_fewest_125 : decode cX1_fewest 125 = .ok (.iinc 3 1, 3) := by decide +kernel
theorem dX1_fewest_128 : decode cX1_fewest 128 = .ok (.goto (-103), 3) := by decide +kernel
theorem dX1_fewest_131 : decode cX1_fewest 131 = .ok (.iload_n 2, 1) := by decide +kernel
theorem dX1_fewest_132 : decode cX1_fewest 132 = .ok (.aload_n 0, 1) := by decide +kernel
theorem dX1_fewest_133 : decode cX1_fewest 133 = .ok (.getfield 20, 3) := by decide +kernel
theorem dX1_fewest_136 : decode cX1_fewest 136 = .ok (.iconst 1, 1) := by decide +kernel
theorem dX1_fewest_137 : decode cX1_fewest 137 = .ok (.iload_n 2, 1) := by decide +kernel
theorem dX1_fewest_138 : decode cX1_fewest 138 = .ok (.ishl, 1) := by decide +kernel
theorem dX1_fewest_139 : decode cX1_fewest 139 = .ok (.iconst 1, 1) := by decide +kernel
theorem dX1_fewest_140 : decode cX1_fewest 140 = .ok (.isub, 1) := by decide +kernel
theorem dX1_fewest_141 : decode cX1_fewest 141 = .ok (.iconst 0, 1) := by decide +kernel
theorem dX1_fewest_142 : decode cX1_fewest 142 = .ok (.invokevirtual 53, 3) := by decide +kernel
theorem dX1_fewest_145 : decode cX1_fewest 145 = .ok (.isub, 1) := by decide +kernel
theorem dX1_fewest_146 : decode cX1_fewest 146 = .ok (.ireturn, 1) := by decide +kernel
set_option maxHeartbeats 4000000 in
set_option maxRecDepth 100000 in
theorem e_fewest (l : Launch) (g : Gx) (h0 : Nat) (hs : Nat) (eo : Nat) (ep : Nat) (es : Nat) (eoc : Nat) (eon : Int32) (eof : Nat → Int32) (epc : Nat) (epn : Int32) (epf : Nat → Int32) (es_f : Nat → Int64) (zr : Nat) (v1hs : Value) (v2hs : Value) (zp : Nat) (zmd : Int32) (ztr : Int32) (zrc : Nat) (zrn : Int32) (zrf : Nat → Int32) (zpc : Nat) (zpn : Int32) (zpf : Nat → Int32) : cI l g yX1_fewest cX1_fewest 8 (some .int) 3 69 0 0 [.ref h0, .ref hs] [(cO1_rrr h0 eo ep es), (cO8_iiri eo 8 1 eoc eon), (cAI g eoc 8 eof), (cO8_iiri ep 256 1 epc epn), (cAI g epc 256 epf), (cAJ g es 8 es_f), (cO7_rvvrii hs zr v1hs v2hs zp zmd ztr), (cO8_iiri zr 8 3 zrc zrn), (cAI g zrc 24 zrf), (cO8_iiri zp 8 2 zpc zpn), (cAI g zpc 16 zpf)] (fun r w => ∃ (eog : Nat → Int32) (eok : Int32) (epg : Nat → Int32) (es_g : Nat → Int64), w = [(cO1_rrr h0 eo ep es), (cO8_iiri eo 8 1 eoc eok), (cAI g eoc 8 eog), (cO8_iiri ep 256 1 epc epn), (cAI g epc 256 epg), (cAJ g es 8 es_g), (cO7_rvvrii hs zr v1hs v2hs zp zmd ztr), (cO8_iiri zr 8 3 zrc zrn), (cAI g zrc 24 zrf), (cO8_iiri zp 8 2 zpc zpn), (cAI g zpc 16 zpf)]) := by
  refine cI.of (by decide) (Nat.le_of_ble_eq_true rfl) ?_
  intro p e s m args below meth c A X hr hi
  refine k_lveq [(0, .ref h0), (1, .ref hs)] rfl ?_
  refine k_aload_n X dX1_fewest_0 1 rfl ?_
  refine k_get (ci := 7) X inlX7 rfl 3 (by decide) dX1_fewest_1 mw1360 6 rfl rfl ?_
  refine k_get (ci := 8) X inlX8 rfl 3 (by decide) dX1_fewest_4 mw1361 9 rfl rfl ?_
  refine k_bipush (v := 8) X dX1_fewest_7 (by decide) ?_
  refine k_mmin X dX1_fewest_9 mw1375 mw785 mw103 mw786 (Nat.le_of_ble_eq_true rfl) (Nat.le_of_ble_eq_true rfl) (Nat.zero_le _) (Nat.zero_le _) ?_
  refine k_nm (fun z_1 ez_1 => ?_)
  refine k_istore_n [(2, .int z_1), (0, .ref h0), (1, .ref hs)] X dX1_fewest_12 (by decide) rfl ?_
  refine k_aload_n X dX1_fewest_13 1 rfl ?_
  refine k_aload_n X dX1_fewest_14 2 rfl ?_
  refine k_callVV (n := 1) (As := [.ref hs]) (st := []) X [(cO1_rrr h0 eo ep es), (cO8_iiri eo 8 1 eoc eon), (cAI g eoc 8 eof), (cO8_iiri ep 256 1 epc epn), (cAI g epc 256 epf), (cAJ g es 8 es_f), (cO7_rvvrii hs zr v1hs v2hs zp zmd ztr), (cO8_iiri zr 8 3 zrc zrn), (cAI g zrc 24 zrf), (cO8_iiri zp 8 2 zpc zpn), (cAI g zpc 16 zpf)] [] [0, 1, 2, 3, 4, 5, 6, 7, 8, 9, 10] [] (e_sort l g h0 hs eo ep es eoc eon eof epc epn epf es_f zr v1hs v2hs zp zmd ztr zrc zrn zrf zpc zpn zpf) dX1_fewest_15 mw1377 mw1378 mw1379 mw43 mw1380 rfl 1 rfl rfl 0 _ rfl yk_yX1_sort_1 rfl (Nat.le_of_ble_eq_true rfl) (Nat.le_of_ble_eq_true rfl) (Nat.le_of_ble_eq_true rfl) (Nat.le_of_ble_eq_true rfl) (Nat.le_of_ble_eq_true rfl) rfl rfl (by decide +kernel) rfl (by decide +kernel) (by decide +kernel) ?_
  rintro w ⟨eog_2, eok_3, rfl⟩
  refine k_ws [(cO1_rrr h0 eo ep es), (cO8_iiri eo 8 1 eoc eok_3), (cAI g eoc 8 eog_2), (cO8_iiri ep 256 1 epc epn), (cAI g epc 256 epf), (cAJ g es 8 es_f), (cO7_rvvrii hs zr v1hs v2hs zp zmd ztr), (cO8_iiri zr 8 3 zrc zrn), (cAI g zrc 24 zrf), (cO8_iiri zp 8 2 zpc zpn), (cAI g zpc 16 zpf)] rfl ?_
  refine k_aload_n X dX1_fewest_18 1 rfl ?_
  refine k_aload_n X dX1_fewest_19 2 rfl ?_
  refine k_callVV (n := 1) (As := [.ref hs]) (st := []) X [(cO1_rrr h0 eo ep es), (cO8_iiri eo 8 1 eoc eok_3), (cAI g eoc 8 eog_2), (cO8_iiri ep 256 1 epc epn), (cAI g epc 256 epf), (cAJ g es 8 es_f), (cO7_rvvrii hs zr v1hs v2hs zp zmd ztr), (cO8_iiri zp 8 2 zpc zpn), (cAI g zpc 16 zpf)] [(cO8_iiri zr 8 3 zrc zrn), (cAI g zrc 24 zrf)] [0, 1, 2, 3, 4, 5, 6, 9, 10] [7, 8] (e_weigh l g h0 hs eo ep es eoc eok_3 eog_2 epc epn epf es_f (.ref zr) v1hs v2hs zp zmd ztr zpc zpn zpf) dX1_fewest_20 mw1385 mw1386 mw1387 mw43 mw1388 rfl 1 rfl rfl 0 _ rfl yk_yX1_weigh_1 rfl (Nat.le_of_ble_eq_true rfl) (Nat.le_of_ble_eq_true rfl) (Nat.le_of_ble_eq_true rfl) (Nat.le_of_ble_eq_true rfl) (Nat.le_of_ble_eq_true rfl) rfl rfl (by decide) rfl (by decide) (by decide) ?_
  rintro w ⟨es_g_6, rfl⟩
  refine k_ws [(cO8_iiri zr 8 3 zrc zrn), (cAI g zrc 24 zrf), (cO1_rrr h0 eo ep es), (cO8_iiri eo 8 1 eoc eok_3), (cAI g eoc 8 eog_2), (cO8_iiri ep 256 1 epc epn), (cAI g epc 256 epf), (cAJ g es 8 es_g_6), (cO7_rvvrii hs zr v1hs v2hs zp zmd ztr), (cO8_iiri zp 8 2 zpc zpn), (cAI g zpc 16 zpf)] rfl ?_
  refine k_iconst (v := 1) X dX1_fewest_23 (by decide) ?_
  refine k_istore_n [(3, .int 1), (2, .int z_1), (0, .ref h0), (1, .ref hs)] X dX1_fewest_24 (by decide) rfl ?_
  refine (fun hL : ∀ (nn_11 : Nat) (u_9 : Int32) (uf_10 : Nat → Int32), (((1 : Int32) <<< (z_1 &&& 31)).toInt - u_9.toInt).toNat = nn_11 → Wk p l e _ s m args below meth c _ A g _ _ _ [(cO8_iiri zr 8 3 zrc zrn), (cAI g zrc 24 zrf), (cO1_rrr h0 eo ep es), (cO8_iiri eo 8 1 eoc eok_3), (cAI g eoc 8 eog_2), (cO8_iiri ep 256 1 epc epn), (cAI g epc 256 uf_10), (cAJ g es 8 es_g_6), (cO7_rvvrii hs zr v1hs v2hs zp zmd ztr), (cO8_iiri zp 8 2 zpc zpn), (cAI g zpc 16 zpf)] [(3, .int u_9), (2, .int z_1), (0, .ref h0), (1, .ref hs)] 25 [] => hL _ 1 epf rfl ) ?_
  refine fun nn_11 => Nat.strongRecOn nn_11 (fun nn_11 ih_13 => ?_)
  intro u_9 uf_10 hm_12 
  refine k_iload_n X dX1_fewest_25 0 rfl ?_
  refine k_iconst (v := 1) X dX1_fewest_26 (by decide) ?_
  refine k_iload_n X dX1_fewest_27 1 rfl ?_
  refine k_ishl X dX1_fewest_28 ?_
  refine k_nm (fun z_14 ez_14 => ?_)
  refine k_ic_ge 131 X dX1_fewest_29 (by decide) (fun h_15 => ?_) (fun h_15 => ?_)
  · skip
    refine k_iload_n X dX1_fewest_131 1 rfl ?_
    refine k_aload_n X dX1_fewest_132 2 rfl ?_
    refine k_get (ci := 1) X inlX1 rfl 1 (by decide) dX1_fewest_133 mw155 2 rfl rfl ?_
    refine k_iconst (v := 1) X dX1_fewest_136 (by decide) ?_
    refine k_iload_n X dX1_fewest_137 1 rfl ?_
    refine k_ishl X dX1_fewest_138 ?_
    refine k_nm (fun z_16 ez_16 => ?_)
    refine k_iconst (v := 1) X dX1_fewest_139 (by decide) ?_
    refine k_isub X dX1_fewest_140 ?_
    refine k_nm (fun z_17 ez_17 => ?_)
    refine k_iconst (v := 0) X dX1_fewest_141 (by decide) ?_
    refine k_callVI (n := 2) (As := [.int z_17, .int 0]) (st := [.int z_1]) X [(cO8_iiri ep 256 1 epc epn), (cAI g epc 256 uf_10)] [(cO8_iiri zr 8 3 zrc zrn), (cAI g zrc 24 zrf), (cO1_rrr h0 eo ep es), (cO8_iiri eo 8 1 eoc eok_3), (cAI g eoc 8 eog_2), (cAJ g es 8 es_g_6), (cO7_rvvrii hs zr v1hs v2hs zp zmd ztr), (cO8_iiri zp 8 2 zpc zpn), (cAI g zpc 16 zpf)] [5, 6] [0, 1, 2, 3, 4, 7, 8, 9, 10] (t_at l g ep z_17 0 256 1 epc epn 256 uf_10 (tbk_256_1)) dX1_fewest_142 mw1392 mw376 mw377 mw64 mw378 rfl 8 rfl rfl 0 _ rfl yk_yX8_at_2 rfl (Nat.le_of_ble_eq_true rfl) (Nat.le_of_ble_eq_true rfl) (Nat.le_of_ble_eq_true rfl) (Nat.le_of_ble_eq_true rfl) (Nat.le_of_ble_eq_true rfl) rfl rfl (by decide) rfl (by decide) (by decide) ?_
    rintro r_18 w ⟨hr_19, rfl⟩
    refine k_ws [(cO8_iiri zr 8 3 zrc zrn), (cAI g zrc 24 zrf), (cO1_rrr h0 eo ep es), (cO8_iiri eo 8 1 eoc eok_3), (cAI g eoc 8 eog_2), (cAJ g es 8 es_g_6), (cO7_rvvrii hs zr v1hs v2hs zp zmd ztr), (cO8_iiri zp 8 2 zpc zpn), (cAI g zpc 16 zpf), (cO8_iiri ep 256 1 epc epn), (cAI g epc 256 uf_10)] rfl ?_
    refine k_isub X dX1_fewest_145 ?_
    refine k_nm (fun z_20 ez_20 => ?_)
    exact k_iret X hr dX1_fewest_146 (Nat.le_of_ble_eq_true rfl) (Nat.le_of_ble_eq_true rfl) [2, 3, 4, 9, 10, 5, 6, 0, 1, 7, 8] (by decide) rfl rfl ⟨eog_2, eok_3, uf_10, es_g_6, rfl⟩
  · skip
    refine k_iconst (v := 0) X dX1_fewest_32 (by decide) ?_
    refine k_istore [(4, .int 0), (3, .int u_9), (2, .int z_1), (0, .ref h0), (1, .ref hs)] X dX1_fewest_33 (by decide) rfl ?_
    refine k_lconst (v := 0) X dX1_fewest_35 (by decide) ?_
    refine k_lstore [(5, .long 0), (4, .int 0), (3, .int u_9), (2, .int z_1), (0, .ref h0), (1, .ref hs)] X dX1_fewest_36 (by decide) rfl ?_
    refine k_iconst (v := 0) X dX1_fewest_38 (by decide) ?_
    refine k_istore [(7, .int 0), (5, .long 0), (4, .int 0), (3, .int u_9), (2, .int z_1), (0, .ref h0), (1, .ref hs)] X dX1_fewest_39 (by decide) rfl ?_
    refine (fun hL : ∀ (nn_25 : Nat) (u_21 : Int32) (u_22 : Int64) (u_23 : Int32), ((8 : Int32).toInt - u_21.toInt).toNat = nn_25 → (¬ u_21 < 0) → Wk p l e _ s m args below meth c _ A g _ _ _ [(cO8_iiri zr 8 3 zrc zrn), (cAI g zrc 24 zrf), (cO1_rrr h0 eo ep es), (cO8_iiri eo 8 1 eoc eok_3), (cAI g eoc 8 eog_2), (cO8_iiri ep 256 1 epc epn), (cAI g epc 256 uf_10), (cAJ g es 8 es_g_6), (cO7_rvvrii hs zr v1hs v2hs zp zmd ztr), (cO8_iiri zp 8 2 zpc zpn), (cAI g zpc 16 zpf)] [(7, .int u_21), (5, .long u_22), (4, .int u_23), (3, .int u_9), (2, .int z_1), (0, .ref h0), (1, .ref hs)] 41 [] => hL _ 0 0 0 rfl (by decide)) ?_
    refine fun nn_25 => Nat.strongRecOn nn_25 (fun nn_25 ih_27 => ?_)
    intro u_21 u_22 u_23 hm_26 hp_24
    refine k_iload X dX1_fewest_41 0 rfl ?_
    refine k_aload_n X dX1_fewest_43 5 rfl ?_
    refine k_get (ci := 1) X inlX1 rfl 2 (by decide) dX1_fewest_44 mw156 2 rfl rfl ?_
    refine k_alen 8 2 X dX1_fewest_47 7 rfl rfl (by show Int32.ofNat 8 = 8; decide) ?_
    refine k_ic_ge 100 X dX1_fewest_48 (by decide) (fun h_28 => ?_) (fun h_28 => ?_)
    · skip
      refine k_aload_n X dX1_fewest_100 5 rfl ?_
      refine k_get (ci := 1) X inlX1 rfl 1 (by decide) dX1_fewest_101 mw155 2 rfl rfl ?_
      refine k_iload_n X dX1_fewest_104 3 rfl ?_
      refine k_iconst (v := 0) X dX1_fewest_105 (by decide) ?_
      refine k_lload X dX1_fewest_106 1 rfl ?_
      refine k_lconst (v := 0) X dX1_fewest_108 (by decide) ?_
      refine k_lcmp X dX1_fewest_109 ?_
      refine k_nm (fun z_29 ez_29 => ?_)
      refine k_if_ne 120 X dX1_fewest_110 (by decide) (fun h_30 => ?_) (fun h_30 => ?_)
      · skip
        refine k_iload X dX1_fewest_120 2 rfl ?_
        refine k_callVV (n := 3) (As := [.int u_9, .int 0, .int u_23]) (st := []) X [(cO8_iiri ep 256 1 epc epn), (cAI g epc 256 uf_10)] [(cO8_iiri zr 8 3 zrc zrn), (cAI g zrc 24 zrf), (cO1_rrr h0 eo ep es), (cO8_iiri eo 8 1 eoc eok_3), (cAI g eoc 8 eog_2), (cAJ g es 8 es_g_6), (cO7_rvvrii hs zr v1hs v2hs zp zmd ztr), (cO8_iiri zp 8 2 zpc zpn), (cAI g zpc 16 zpf)] [5, 6] [0, 1, 2, 3, 4, 7, 8, 9, 10] (t_put l g ep u_9 0 u_23 256 1 epc epn 256 uf_10 (tbk_256_1)) dX1_fewest_122 mw1393 mw326 mw327 mw64 mw328 rfl 8 rfl rfl 0 _ rfl yk_yX8_put_3 rfl (Nat.le_of_ble_eq_true rfl) (Nat.le_of_ble_eq_true rfl) (Nat.le_of_ble_eq_true rfl) (Nat.le_of_ble_eq_true rfl) (Nat.le_of_ble_eq_true rfl) rfl rfl (by decide) rfl (by decide) (by decide) ?_
        rintro w ⟨fa_31, hr_33, rfl⟩
        refine k_ws [(cO8_iiri zr 8 3 zrc zrn), (cAI g zrc 24 zrf), (cO1_rrr h0 eo ep es), (cO8_iiri eo 8 1 eoc eok_3), (cAI g eoc 8 eog_2), (cAJ g es 8 es_g_6), (cO7_rvvrii hs zr v1hs v2hs zp zmd ztr), (cO8_iiri zp 8 2 zpc zpn), (cAI g zpc 16 zpf), (cO8_iiri ep 256 1 epc epn), (cAI g epc 256 fa_31)] rfl ?_
        obtain ⟨z_34, ez_34⟩ : ∃ y : Int32, u_9 + Int32.ofInt 1 = y := ⟨_, rfl⟩
        refine k_iinc z_34 [(3, .int z_34), (7, .int u_21), (5, .long u_22), (4, .int u_23), (2, .int z_1), (0, .ref h0), (1, .ref hs)] 3 X dX1_fewest_125 rfl ez_34 (by decide) rfl ?_
        refine k_goto 25 X dX1_fewest_128 (by decide) ?_
        refine k_lv [(3, .int z_34), (2, .int z_1), (0, .ref h0), (1, .ref hs)] [0, 4, 5, 6] rfl ?_
        refine k_sub [(cO8_iiri zr 8 3 zrc zrn), (cAI g zrc 24 zrf), (cO1_rrr h0 eo ep es), (cO8_iiri eo 8 1 eoc eok_3), (cAI g eoc 8 eog_2), (cO8_iiri ep 256 1 epc epn), (cAI g epc 256 fa_31), (cAJ g es 8 es_g_6), (cO7_rvvrii hs zr v1hs v2hs zp zmd ztr), (cO8_iiri zp 8 2 zpc zpn), (cAI g zpc 16 zpf)] [0, 1, 2, 3, 4, 9, 10, 5, 6, 7, 8] rfl (by decide) rfl ?_
        exact ih_13 _ (by rw [← hm_12]; exact mu_ltE (by assumption) (by assumption) (by assumption)) z_34 fa_31 rfl 
      · skip
        refine k_iload X dX1_fewest_113 2 rfl ?_
        refine k_iconst (v := 1) X dX1_fewest_115 (by decide) ?_
        refine k_iadd X dX1_fewest_116 ?_
        refine k_nm (fun z_35 ez_35 => ?_)
        refine k_goto 122 X dX1_fewest_117 (by decide) ?_
        refine k_callVV (n := 3) (As := [.int u_9, .int 0, .int z_35]) (st := []) X [(cO8_iiri ep 256 1 epc epn), (cAI g epc 256 uf_10)] [(cO8_iiri zr 8 3 zrc zrn), (cAI g zrc 24 zrf), (cO1_rrr h0 eo ep es), (cO8_iiri eo 8 1 eoc eok_3), (cAI g eoc 8 eog_2), (cAJ g es 8 es_g_6), (cO7_rvvrii hs zr v1hs v2hs zp zmd ztr), (cO8_iiri zp 8 2 zpc zpn), (cAI g zpc 16 zpf)] [5, 6] [0, 1, 2, 3, 4, 7, 8, 9, 10] (t_put l g ep u_9 0 z_35 256 1 epc epn 256 uf_10 (tbk_256_1)) dX1_fewest_122 mw1393 mw326 mw327 mw64 mw328 rfl 8 rfl rfl 0 _ rfl yk_yX8_put_3 rfl (Nat.le_of_ble_eq_true rfl) (Nat.le_of_ble_eq_true rfl) (Nat.le_of_ble_eq_true rfl) (Nat.le_of_ble_eq_true rfl) (Nat.le_of_ble_eq_true rfl) rfl rfl (by decide) rfl (by decide) (by decide) ?_
        rintro w ⟨fa_36, hr_38, rfl⟩
        refine k_ws [(cO8_iiri zr 8 3 zrc zrn), (cAI g zrc 24 zrf), (cO1_rrr h0 eo ep es), (cO8_iiri eo 8 1 eoc eok_3), (cAI g eoc 8 eog_2), (cAJ g es 8 es_g_6), (cO7_rvvrii hs zr v1hs v2hs zp zmd ztr), (cO8_iiri zp 8 2 zpc zpn), (cAI g zpc 16 zpf), (cO8_iiri ep 256 1 epc epn), (cAI g epc 256 fa_36)] rfl ?_
        obtain ⟨z_39, ez_39⟩ : ∃ y : Int32, u_9 + Int32.ofInt 1 = y := ⟨_, rfl⟩
        refine k_iinc z_39 [(3, .int z_39), (7, .int u_21), (5, .long u_22), (4, .int u_23), (2, .int z_1), (0, .ref h0), (1, .ref hs)] 3 X dX1_fewest_125 rfl ez_39 (by decide) rfl ?_
        refine k_goto 25 X dX1_fewest_128 (by decide) ?_
        refine k_lv [(3, .int z_39), (2, .int z_1), (0, .ref h0), (1, .ref hs)] [0, 4, 5, 6] rfl ?_
        refine k_sub [(cO8_iiri zr 8 3 zrc zrn), (cAI g zrc 24 zrf), (cO1_rrr h0 eo ep es), (cO8_iiri eo 8 1 eoc eok_3), (cAI g eoc 8 eog_2), (cO8_iiri ep 256 1 epc epn), (cAI g epc 256 fa_36), (cAJ g es 8 es_g_6), (cO7_rvvrii hs zr v1hs v2hs zp zmd ztr), (cO8_iiri zp 8 2 zpc zpn), (cAI g zpc 16 zpf)] [0, 1, 2, 3, 4, 9, 10, 5, 6, 7, 8] rfl (by decide) rfl ?_
        exact ih_13 _ (by rw [← hm_12]; exact mu_ltE (by assumption) (by assumption) (by assumption)) z_39 fa_36 rfl 
    · skip
      refine k_iload_n X dX1_fewest_51 3 rfl ?_
      refine k_iload X dX1_fewest_52 0 rfl ?_
      refine k_ishr X dX1_fewest_54 ?_
      refine k_nm (fun z_40 ez_40 => ?_)
      refine k_iconst (v := 1) X dX1_fewest_55 (by decide) ?_
      refine k_iand X dX1_fewest_56 ?_
      refine k_nm (fun z_41 ez_41 => ?_)
      refine k_iconst (v := 1) X dX1_fewest_57 (by decide) ?_
      refine k_ic_ne 94 X dX1_fewest_58 (by decide) (fun h_42 => ?_) (fun h_42 => ?_)
      · skip
        obtain ⟨z_43, ez_43⟩ : ∃ y : Int32, u_21 + Int32.ofInt 1 = y := ⟨_, rfl⟩
        refine k_iinc z_43 [(7, .int z_43), (5, .long u_22), (4, .int u_23), (3, .int u_9), (2, .int z_1), (0, .ref h0), (1, .ref hs)] 0 X dX1_fewest_94 rfl ez_43 (by decide) rfl ?_
        refine k_goto 41 X dX1_fewest_97 (by decide) ?_
        exact ih_27 _ (by rw [← hm_26]; exact mu_lt (by assumption) (by assumption)) z_43 u_22 u_23 rfl (up0 (by assumption) (by assumption) (by assumption))
      · skip
        refine k_iload X dX1_fewest_61 2 rfl ?_
        refine k_aload_n X dX1_fewest_63 5 rfl ?_
        refine k_get (ci := 1) X inlX1 rfl 1 (by decide) dX1_fewest_64 mw155 2 rfl rfl ?_
        refine k_iload_n X dX1_fewest_67 3 rfl ?_
        refine k_iconst (v := 1) X dX1_fewest_68 (by decide) ?_
        refine k_iload X dX1_fewest_69 0 rfl ?_
        refine k_ishl X dX1_fewest_71 ?_
        refine k_nm (fun z_44 ez_44 => ?_)
        refine k_ixor X dX1_fewest_72 ?_
        refine k_nm (fun z_45 ez_45 => ?_)
        refine k_iconst (v := 0) X dX1_fewest_73 (by decide) ?_
        refine k_callVI (n := 2) (As := [.int z_45, .int 0]) (st := [.int u_23]) X [(cO8_iiri ep 256 1 epc epn), (cAI g epc 256 uf_10)] [(cO8_iiri zr 8 3 zrc zrn), (cAI g zrc 24 zrf), (cO1_rrr h0 eo ep es), (cO8_iiri eo 8 1 eoc eok_3), (cAI g eoc 8 eog_2), (cAJ g es 8 es_g_6), (cO7_rvvrii hs zr v1hs v2hs zp zmd ztr), (cO8_iiri zp 8 2 zpc zpn), (cAI g zpc 16 zpf)] [5, 6] [0, 1, 2, 3, 4, 7, 8, 9, 10] (t_at l g ep z_45 0 256 1 epc epn 256 uf_10 (tbk_256_1)) dX1_fewest_74 mw1392 mw376 mw377 mw64 mw378 rfl 8 rfl rfl 0 _ rfl yk_yX8_at_2 rfl (Nat.le_of_ble_eq_true rfl) (Nat.le_of_ble_eq_true rfl) (Nat.le_of_ble_eq_true rfl) (Nat.le_of_ble_eq_true rfl) (Nat.le_of_ble_eq_true rfl) rfl rfl (by decide) rfl (by decide) (by decide) ?_
        rintro r_46 w ⟨hr_47, rfl⟩
        refine k_ws [(cO8_iiri zr 8 3 zrc zrn), (cAI g zrc 24 zrf), (cO1_rrr h0 eo ep es), (cO8_iiri eo 8 1 eoc eok_3), (cAI g eoc 8 eog_2), (cAJ g es 8 es_g_6), (cO7_rvvrii hs zr v1hs v2hs zp zmd ztr), (cO8_iiri zp 8 2 zpc zpn), (cAI g zpc 16 zpf), (cO8_iiri ep 256 1 epc epn), (cAI g epc 256 uf_10)] rfl ?_
        refine k_mmax X dX1_fewest_77 mw1376 mw102 mw103 mw104 (Nat.le_of_ble_eq_true rfl) (Nat.le_of_ble_eq_true rfl) (Nat.zero_le _) (Nat.zero_le _) ?_
        refine k_nm (fun z_48 ez_48 => ?_)
        refine k_istore [(4, .int z_48), (7, .int u_21), (5, .long u_22), (3, .int u_9), (2, .int z_1), (0, .ref h0), (1, .ref hs)] X dX1_fewest_80 (by decide) rfl ?_
        refine k_lload X dX1_fewest_82 2 rfl ?_
        refine k_aload_n X dX1_fewest_84 5 rfl ?_
        refine k_get (ci := 1) X inlX1 rfl 2 (by decide) dX1_fewest_85 mw156 2 rfl rfl ?_
        refine k_iload X dX1_fewest_88 1 rfl ?_
        refine k_lald X dX1_fewest_90 5 rfl (in8 (by assumption) (by assumption)) ?_
        refine k_nmL (fun y_49 ey_49 => ?_)
        refine k_ladd X dX1_fewest_91 ?_
        refine k_nmL (fun y_50 ey_50 => ?_)
        refine k_lstore [(5, .long y_50), (4, .int z_48), (7, .int u_21), (3, .int u_9), (2, .int z_1), (0, .ref h0), (1, .ref hs)] X dX1_fewest_92 (by decide) rfl ?_
        obtain ⟨z_51, ez_51⟩ : ∃ y : Int32, u_21 + Int32.ofInt 1 = y := ⟨_, rfl⟩
        refine k_iinc z_51 [(7, .int z_51), (5, .long y_50), (4, .int z_48), (3, .int u_9), (2, .int z_1), (0, .ref h0), (1, .ref hs)] 2 X dX1_fewest_94 rfl ez_51 (by decide) rfl ?_
        refine k_goto 41 X dX1_fewest_97 (by decide) ?_
        refine k_sub [(cO8_iiri zr 8 3 zrc zrn), (cAI g zrc 24 zrf), (cO1_rrr h0 eo ep es), (cO8_iiri eo 8 1 eoc eok_3), (cAI g eoc 8 eog_2), (cO8_iiri ep 256 1 epc epn), (cAI g epc 256 uf_10), (cAJ g es 8 es_g_6), (cO7_rvvrii hs zr v1hs v2hs zp zmd ztr), (cO8_iiri zp 8 2 zpc zpn), (cAI g zpc 16 zpf)] [0, 1, 2, 3, 4, 9, 10, 5, 6, 7, 8] rfl (by decide) rfl ?_
        exact ih_27 _ (by rw [← hm_26]; exact mu_lt (by assumption) (by assumption)) z_51 y_50 z_48 rfl (up0 (by assumption) (by assumption) (by assumption))
