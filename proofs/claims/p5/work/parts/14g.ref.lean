theorem dX11_copy_0 : decode cX11_copy 0 = .ok (.iconst 0, 1) := by decide +kernel
theorem dX11_copy_1 : decode cX11_copy 1 = .ok (.istore 5, 2) := by decide +kernel
theorem dX11_copy_3 : decode cX11_copy 3 = .ok (.iload 5, 2) := by decide +kernel
theorem dX11_copy_5 : decode cX11_copy 5 = .ok (.iload 4, 2) := by decide +kernel
theorem dX11_copy_7 : decode cX11_copy 7 = .ok (.if_icmp .ge 21, 3) := by decide +kernel
theorem dX11_copy_10 : decode cX11_copy 10 = .ok (.aload_n 2, 1) := by decide +kernel
theorem dX11_copy_11 : decode cX11_copy 11 = .ok (.iload_n 3, 1) := by decide +kernel
theorem dX11_copy_12 : decode cX11_copy 12 = .ok (.iload 5, 2) := by decide +kernel
theorem dX11_copy_14 : decode cX11_copy 14 = .ok (.iadd, 1) := by decide +kernel
theorem dX11_copy_15 : decode cX11_copy 15 = .ok (.aload_n 0, 1) := by decide +kernel
theorem dX11_copy_16 : decode cX11_copy 16 = .ok (.iload_n 1, 1) := by decide +kernel
theorem dX11_copy_17 : decode cX11_copy 17 = .ok (.iload 5, 2) := by decide +kernel
theorem dX11_copy_19 : decode cX11_copy 19 = .ok (.iadd, 1) := by decide +kernel
theorem dX11_copy_20 : decode cX11_copy 20 = .ok (.iaload, 1) := by decide +kernel
theorem dX11_copy_21 : decode cX11_copy 21 = .ok (.iastore, 1) := by decide +kernel
theorem dX11_copy_22 : decode cX11_copy 22 = .ok (.iinc 5 1, 3) := by decide +kernel
theorem dX11_copy_25 : decode cX11_copy 25 = .ok (.goto (-22), 3) := by decide +kernel
theorem dX11_copy_28 : decode cX11_copy 28 = .ok (.return_, 1) := by decide +kernel
set_option maxHeartbeats 4000000 in
set_option maxRecDepth 100000 in
theorem m_copyA (l : Launch) (g : Gx) (fa : Nat) (ta : Nat) (p3 : Int32) (f1 : Nat → Int32) (f2 : Nat → Int32) (hv_p3 : IV p3 0 484) : cV l g yX11_copy cX11_copy 6 0 0 0 0 [.ref fa, .int 0, .ref ta, .int p3, .int 44] [(fa, .inl (g.2.2.1, 44, .inl f1)), (ta, .inl (g.2.2.1, 528, .inl f2))] (fun w => ∃ (f3 : Nat → Int32), w = [(fa, .inl (g.2.2.1, 44, .inl f1)), (ta, .inl (g.2.2.1, 528, .inl f3))]) := by
  refine cV.of (by decide) (Nat.le_of_ble_eq_true rfl) ?_
  intro p e s m args below meth c A X hr hi
  refine k_lveq [(0, .ref fa), (1, .int 0), (2, .ref ta), (3, .int p3), (4, .int 44)] rfl ?_
  refine k_iconst (v := 0) X dX11_copy_0 (by decide) ?_
  refine k_istore [(5, .int 0), (0, .ref fa), (1, .int 0), (2, .ref ta), (3, .int p3), (4, .int 44)] X dX11_copy_1 (by decide) rfl ?_
  refine (fun hL : ∀ (nn_4 : Nat) (uf_1 : Nat → Int32) (u_2 : Int32), (44 - u_2.toInt).toNat = nn_4 → (IV u_2 0 255) → Wk p l e _ s m args below meth c _ A g _ _ _ [(fa, .inl (g.2.2.1, 44, .inl f1)), (ta, .inl (g.2.2.1, 528, .inl uf_1))] [(5, .int u_2), (0, .ref fa), (1, .int 0), (2, .ref ta), (3, .int p3), (4, .int 44)] 3 [] => hL _ f2 0 rfl (iv_w (show IV 0 0 0 from (by decide)) (by decide) (by decide))) ?_
  refine fun nn_4 => Nat.strongRecOn nn_4 (fun nn_4 ih_6 => ?_)
  intro uf_1 u_2 hm_5 hv_3
  refine k_iload X dX11_copy_3 0 rfl ?_
  refine k_iload X dX11_copy_5 5 rfl ?_
  refine k_ic_ge 28 X dX11_copy_7 (by decide) (fun h_7 => ?_) (fun h_7 => ?_)
  · skip
    have j_8 : 44 ≤ u_2.toInt := iv_le h_7
    have iv_9 : IV u_2 44 255 := iv_leR (iv_le h_7) (show IV 44 44 44 from (by decide)) hv_3 (by decide)
    exact k_vret X hr dX11_copy_28 (Nat.le_of_ble_eq_true rfl) (Nat.le_of_ble_eq_true rfl) [0, 1] (by decide) rfl rfl ⟨uf_1, rfl⟩
  · skip
    have j_10 : u_2.toInt < 44 := iv_nle h_7
    have iv_11 : IV u_2 0 43 := iv_ltL (iv_nle h_7) hv_3 (show IV 44 44 44 from (by decide)) (by decide)
    refine k_aload_n X dX11_copy_10 3 rfl ?_
    refine k_iload_n X dX11_copy_11 4 rfl ?_
    refine k_iload X dX11_copy_12 0 rfl ?_
    refine k_iadd X dX11_copy_14 ?_
    refine k_nm (fun z_12 ez_12 => ?_)
    have i_13 : z_12.toInt = p3.toInt + u_2.toInt := in_add ez_12 hv_p3 iv_11 (by decide) (by decide)
    have iv_14 : IV z_12 0 527 := by have := hv_p3; have := iv_11; rw [IV, i_13]; omega
    refine k_aload_n X dX11_copy_15 1 rfl ?_
    refine k_iload_n X dX11_copy_16 2 rfl ?_
    refine k_iload X dX11_copy_17 0 rfl ?_
    refine k_iadd X dX11_copy_19 ?_
    refine k_nm (fun z_15 ez_15 => ?_)
    have i_16 : z_15.toInt = 0 + u_2.toInt := in_add ez_15 (show IV 0 0 0 from (by decide)) iv_11 (by decide) (by decide)
    have iv_17 : IV z_15 0 43 := by have := (show IV 0 0 0 from (by decide)); have := iv_11; rw [IV, i_16]; omega
    refine k_iald X dX11_copy_20 0 rfl (iv_in iv_17 (by decide) (by decide)) ?_
    refine k_nm (fun z_18 ez_18 => ?_)
    refine k_iast [(fa, .inl (g.2.2.1, 44, .inl f1)), (ta, .inl (g.2.2.1, 528, .inl (upd uf_1 (z_12 : Int32).toNatClampNeg z_18)))] X dX11_copy_21 1 rfl (iv_in iv_14 (by decide) (by decide)) rfl ?_
    refine (fun hg : ∀ fa_19 : Nat → Int32, Wk p l e _ s m args below meth c _ A g _ _ _ [(fa, .inl (g.2.2.1, 44, .inl f1)), (ta, .inl (g.2.2.1, 528, .inl fa_19))] _ _ _ => hg _) (fun fa_19 => ?_)
    obtain ⟨z_20, ez_20⟩ : ∃ y : Int32, u_2 + Int32.ofInt 1 = y := ⟨_, rfl⟩
    refine k_iinc z_20 [(5, .int z_20), (0, .ref fa), (1, .int 0), (2, .ref ta), (3, .int p3), (4, .int 44)] 0 X dX11_copy_22 rfl ez_20 (by decide) rfl ?_
    have i_21 : z_20.toInt = u_2.toInt + 1 := in_inc ez_20 (by decide) iv_11 (by decide) (by decide)
    have iv_22 : IV z_20 1 44 := by have := iv_11; rw [IV, i_21]; omega
    refine k_goto 3 X dX11_copy_25 (by decide) ?_
    exact ih_6 _ (by omega) fa_19 z_20 rfl (iv_w iv_22 (by decide) (by decide))


set_option maxHeartbeats 4000000 in
set_option maxRecDepth 100000 in
theorem m_copyB (l : Launch) (g : Gx) (fa : Nat) (p1 : Int32) (ta : Nat) (f1 : Nat → Int32) (f2 : Nat → Int32) (hv_p1 : IV p1 0 484) : cV l g yX11_copy cX11_copy 6 0 0 0 0 [.ref fa, .int p1, .ref ta, .int 0, .int 44] [(fa, .inl (g.2.2.1, 528, .inl f1)), (ta, .inl (g.2.2.1, 44, .inl f2))] (fun w => ∃ (f3 : Nat → Int32), w = [(fa, .inl (g.2.2.1, 528, .inl f1)), (ta, .inl (g.2.2.1, 44, .inl f3))]) := by
  refine cV.of (by decide) (Nat.le_of_ble_eq_true rfl) ?_
  intro p e s m args below meth c A X hr hi
  refine k_lveq [(0, .ref fa), (1, .int p1), (2, .ref ta), (3, .int 0), (4, .int 44)] rfl ?_
  refine k_iconst (v := 0) X dX11_copy_0 (by decide) ?_
  refine k_istore [(5, .int 0), (0, .ref fa), (1, .int p1), (2, .ref ta), (3, .int 0), (4, .int 44)] X dX11_copy_1 (by decide) rfl ?_
  refine (fun hL : ∀ (nn_4 : Nat) (uf_1 : Nat → Int32) (u_2 : Int32), (44 - u_2.toInt).toNat = nn_4 → (IV u_2 0 255) → Wk p l e _ s m args below meth c _ A g _ _ _ [(fa, .inl (g.2.2.1, 528, .inl f1)), (ta, .inl (g.2.2.1, 44, .inl uf_1))] [(5, .int u_2), (0, .ref fa), (1, .int p1), (2, .ref ta), (3, .int 0), (4, .int 44)] 3 [] => hL _ f2 0 rfl (iv_w (show IV 0 0 0 from (by decide)) (by decide) (by decide))) ?_
  refine fun nn_4 => Nat.strongRecOn nn_4 (fun nn_4 ih_6 => ?_)
  intro uf_1 u_2 hm_5 hv_3
  refine k_iload X dX11_copy_3 0 rfl ?_
  refine k_iload X dX11_copy_5 5 rfl ?_
  refine k_ic_ge 28 X dX11_copy_7 (by decide) (fun h_7 => ?_) (fun h_7 => ?_)
  · skip
    have j_8 : 44 ≤ u_2.toInt := iv_le h_7
    have iv_9 : IV u_2 44 255 := iv_leR (iv_le h_7) (show IV 44 44 44 from (by decide)) hv_3 (by decide)
    exact k_vret X hr dX11_copy_28 (Nat.le_of_ble_eq_true rfl) (Nat.le_of_ble_eq_true rfl) [0, 1] (by decide) rfl rfl ⟨uf_1, rfl⟩
  · skip
    have j_10 : u_2.toInt < 44 := iv_nle h_7
    have iv_11 : IV u_2 0 43 := iv_ltL (iv_nle h_7) hv_3 (show IV 44 44 44 from (by decide)) (by decide)
    refine k_aload_n X dX11_copy_10 3 rfl ?_
    refine k_iload_n X dX11_copy_11 4 rfl ?_
    refine k_iload X dX11_copy_12 0 rfl ?_
    refine k_iadd X dX11_copy_14 ?_
    refine k_nm (fun z_12 ez_12 => ?_)
    have i_13 : z_12.toInt = 0 + u_2.toInt := in_add ez_12 (show IV 0 0 0 from (by decide)) iv_11 (by decide) (by decide)
    have iv_14 : IV z_12 0 43 := by have := (show IV 0 0 0 from (by decide)); have := iv_11; rw [IV, i_13]; omega
    refine k_aload_n X dX11_copy_15 1 rfl ?_
    refine k_iload_n X dX11_copy_16 2 rfl ?_
    refine k_iload X dX11_copy_17 0 rfl ?_
    refine k_iadd X dX11_copy_19 ?_
    refine k_nm (fun z_15 ez_15 => ?_)
    have i_16 : z_15.toInt = p1.toInt + u_2.toInt := in_add ez_15 hv_p1 iv_11 (by decide) (by decide)
    have iv_17 : IV z_15 0 527 := by have := hv_p1; have := iv_11; rw [IV, i_16]; omega
    refine k_iald X dX11_copy_20 0 rfl (iv_in iv_17 (by decide) (by decide)) ?_
    refine k_nm (fun z_18 ez_18 => ?_)
    refine k_iast [(fa, .inl (g.2.2.1, 528, .inl f1)), (ta, .inl (g.2.2.1, 44, .inl (upd uf_1 (z_12 : Int32).toNatClampNeg z_18)))] X dX11_copy_21 1 rfl (iv_in iv_14 (by decide) (by decide)) rfl ?_
    refine (fun hg : ∀ fa_19 : Nat → Int32, Wk p l e _ s m args below meth c _ A g _ _ _ [(fa, .inl (g.2.2.1, 528, .inl f1)), (ta, .inl (g.2.2.1, 44, .inl fa_19))] _ _ _ => hg _) (fun fa_19 => ?_)
    obtain ⟨z_20, ez_20⟩ : ∃ y : Int32, u_2 + Int32.ofInt 1 = y := ⟨_, rfl⟩
    refine k_iinc z_20 [(5, .int z_20), (0, .ref fa), (1, .int p1), (2, .ref ta), (3, .int 0), (4, .int 44)] 0 X dX11_copy_22 rfl ez_20 (by decide) rfl ?_
    have i_21 : z_20.toInt = u_2.toInt + 1 := in_inc ez_20 (by decide) iv_11 (by decide) (by decide)
    have iv_22 : IV z_20 1 44 := by have := iv_11; rw [IV, i_21]; omega
    refine k_goto 3 X dX11_copy_25 (by decide) ?_
    exact ih_6 _ (by omega) fa_19 z_20 rfl (iv_w iv_22 (by decide) (by decide))


set_option maxHeartbeats 4000000 in
set_option maxRecDepth 100000 in
theorem m_copyC (l : Launch) (g : Gx) (fa : Nat) (ta : Nat) (p3 : Int32) (f1 : Nat → Int32) (f2 : Nat → Int32) (hv_p3 : IV p3 0 88) : cV l g yX11_copy cX11_copy 6 0 0 0 0 [.ref fa, .int 0, .ref ta, .int p3, .int 44] [(fa, .inl (g.2.2.1, 44, .inl f1)), (ta, .inl (g.2.2.1, 132, .inl f2))] (fun w => ∃ (f3 : Nat → Int32), w = [(fa, .inl (g.2.2.1, 44, .inl f1)), (ta, .inl (g.2.2.1, 132, .inl f3))]) := by
  refine cV.of (by decide) (Nat.le_of_ble_eq_true rfl) ?_
  intro p e s m args below meth c A X hr hi
  refine k_lveq [(0, .ref fa), (1, .int 0), (2, .ref ta), (3, .int p3), (4, .int 44)] rfl ?_
  refine k_iconst (v := 0) X dX11_copy_0 (by decide) ?_
  refine k_istore [(5, .int 0), (0, .ref fa), (1, .int 0), (2, .ref ta), (3, .int p3), (4, .int 44)] X dX11_copy_1 (by decide) rfl ?_
  refine (fun hL : ∀ (nn_4 : Nat) (uf_1 : Nat → Int32) (u_2 : Int32), (44 - u_2.toInt).toNat = nn_4 → (IV u_2 0 255) → Wk p l e _ s m args below meth c _ A g _ _ _ [(fa, .inl (g.2.2.1, 44, .inl f1)), (ta, .inl (g.2.2.1, 132, .inl uf_1))] [(5, .int u_2), (0, .ref fa), (1, .int 0), (2, .ref ta), (3, .int p3), (4, .int 44)] 3 [] => hL _ f2 0 rfl (iv_w (show IV 0 0 0 from (by decide)) (by decide) (by decide))) ?_
  refine fun nn_4 => Nat.strongRecOn nn_4 (fun nn_4 ih_6 => ?_)
  intro uf_1 u_2 hm_5 hv_3
  refine k_iload X dX11_copy_3 0 rfl ?_
  refine k_iload X dX11_copy_5 5 rfl ?_
  refine k_ic_ge 28 X dX11_copy_7 (by decide) (fun h_7 => ?_) (fun h_7 => ?_)
  · skip
    have j_8 : 44 ≤ u_2.toInt := iv_le h_7
    have iv_9 : IV u_2 44 255 := iv_leR (iv_le h_7) (show IV 44 44 44 from (by decide)) hv_3 (by decide)
    exact k_vret X hr dX11_copy_28 (Nat.le_of_ble_eq_true rfl) (Nat.le_of_ble_eq_true rfl) [0, 1] (by decide) rfl rfl ⟨uf_1, rfl⟩
  · skip
    have j_10 : u_2.toInt < 44 := iv_nle h_7
    have iv_11 : IV u_2 0 43 := iv_ltL (iv_nle h_7) hv_3 (show IV 44 44 44 from (by decide)) (by decide)
    refine k_aload_n X dX11_copy_10 3 rfl ?_
    refine k_iload_n X dX11_copy_11 4 rfl ?_
    refine k_iload X dX11_copy_12 0 rfl ?_
    refine k_iadd X dX11_copy_14 ?_
    refine k_nm (fun z_12 ez_12 => ?_)
    have i_13 : z_12.toInt = p3.toInt + u_2.toInt := in_add ez_12 hv_p3 iv_11 (by decide) (by decide)
    have iv_14 : IV z_12 0 131 := by have := hv_p3; have := iv_11; rw [IV, i_13]; omega
    refine k_aload_n X dX11_copy_15 1 rfl ?_
    refine k_iload_n X dX11_copy_16 2 rfl ?_
    refine k_iload X dX11_copy_17 0 rfl ?_
    refine k_iadd X dX11_copy_19 ?_
    refine k_nm (fun z_15 ez_15 => ?_)
    have i_16 : z_15.toInt = 0 + u_2.toInt := in_add ez_15 (show IV 0 0 0 from (by decide)) iv_11 (by decide) (by decide)
    have iv_17 : IV z_15 0 43 := by have := (show IV 0 0 0 from (by decide)); have := iv_11; rw [IV, i_16]; omega
    refine k_iald X dX11_copy_20 0 rfl (iv_in iv_17 (by decide) (by decide)) ?_
    refine k_nm (fun z_18 ez_18 => ?_)
    refine k_iast [(fa, .inl (g.2.2.1, 44, .inl f1)), (ta, .inl (g.2.2.1, 132, .inl (upd uf_1 (z_12 : Int32).toNatClampNeg z_18)))] X dX11_copy_21 1 rfl (iv_in iv_14 (by decide) (by decide)) rfl ?_
    refine (fun hg : ∀ fa_19 : Nat → Int32, Wk p l e _ s m args below meth c _ A g _ _ _ [(fa, .inl (g.2.2.1, 44, .inl f1)), (ta, .inl (g.2.2.1, 132, .inl fa_19))] _ _ _ => hg _) (fun fa_19 => ?_)
    obtain ⟨z_20, ez_20⟩ : ∃ y : Int32, u_2 + Int32.ofInt 1 = y := ⟨_, rfl⟩
    refine k_iinc z_20 [(5, .int z_20), (0, .ref fa), (1, .int 0), (2, .ref ta), (3, .int p3), (4, .int 44)] 0 X dX11_copy_22 rfl ez_20 (by decide) rfl ?_
    have i_21 : z_20.toInt = u_2.toInt + 1 := in_inc ez_20 (by decide) iv_11 (by decide) (by decide)
    have iv_22 : IV z_20 1 44 := by have := iv_11; rw [IV, i_21]; omega
    refine k_goto 3 X dX11_copy_25 (by decide) ?_
    exact ih_6 _ (by omega) fa_19 z_20 rfl (iv_w iv_22 (by decide) (by decide))


set_option maxHeartbeats 4000000 in
set_option maxRecDepth 100000 in
theorem m_copyD (l : Launch) (g : Gx) (fa : Nat) (p1 : Int32) (ta : Nat) (f1 : Nat → Int32) (f2 : Nat → Int32) (hv_p1 : IV p1 0 88) : cV l g yX11_copy cX11_copy 6 0 0 0 0 [.ref fa, .int p1, .ref ta, .int 0, .int 44] [(fa, .inl (g.2.2.1, 132, .inl f1)), (ta, .inl (g.2.2.1, 44, .inl f2))] (fun w => ∃ (f3 : Nat → Int32), w = [(fa, .inl (g.2.2.1, 132, .inl f1)), (ta, .inl (g.2.2.1, 44, .inl f3))]) := by
  refine cV.of (by decide) (Nat.le_of_ble_eq_true rfl) ?_
  intro p e s m args below meth c A X hr hi
  refine k_lveq [(0, .ref fa), (1, .int p1), (2, .ref ta), (3, .int 0), (4, .int 44)] rfl ?_
  refine k_iconst (v := 0) X dX11_copy_0 (by decide) ?_
  refine k_istore [(5, .int 0), (0, .ref fa), (1, .int p1), (2, .ref ta), (3, .int 0), (4, .int 44)] X dX11_copy_1 (by decide) rfl ?_
  refine (fun hL : ∀ (nn_4 : Nat) (uf_1 : Nat → Int32) (u_2 : Int32), (44 - u_2.toInt).toNat = nn_4 → (IV u_2 0 255) → Wk p l e _ s m args below meth c _ A g _ _ _ [(fa, .inl (g.2.2.1, 132, .inl f1)), (ta, .inl (g.2.2.1, 44, .inl uf_1))] [(5, .int u_2), (0, .ref fa), (1, .int p1), (2, .ref ta), (3, .int 0), (4, .int 44)] 3 [] => hL _ f2 0 rfl (iv_w (show IV 0 0 0 from (by decide)) (by decide) (by decide))) ?_
  refine fun nn_4 => Nat.strongRecOn nn_4 (fun nn_4 ih_6 => ?_)
  intro uf_1 u_2 hm_5 hv_3
  refine k_iload X dX11_copy_3 0 rfl ?_
  refine k_iload X dX11_copy_5 5 rfl ?_
  refine k_ic_ge 28 X dX11_copy_7 (by decide) (fun h_7 => ?_) (fun h_7 => ?_)
  · skip
    have j_8 : 44 ≤ u_2.toInt := iv_le h_7
    have iv_9 : IV u_2 44 255 := iv_leR (iv_le h_7) (show IV 44 44 44 from (by decide)) hv_3 (by decide)
    exact k_vret X hr dX11_copy_28 (Nat.le_of_ble_eq_true rfl) (Nat.le_of_ble_eq_true rfl) [0, 1] (by decide) rfl rfl ⟨uf_1, rfl⟩
  · skip
    have j_10 : u_2.toInt < 44 := iv_nle h_7
    have iv_11 : IV u_2 0 43 := iv_ltL (iv_nle h_7) hv_3 (show IV 44 44 44 from (by decide)) (by decide)
    refine k_aload_n X dX11_copy_10 3 rfl ?_
    refine k_iload_n X dX11_copy_11 4 rfl ?_
    refine k_iload X dX11_copy_12 0 rfl ?_
    refine k_iadd X dX11_copy_14 ?_
    refine k_nm (fun z_12 ez_12 => ?_)
    have i_13 : z_12.toInt = 0 + u_2.toInt := in_add ez_12 (show IV 0 0 0 from (by decide)) iv_11 (by decide) (by decide)
    have iv_14 : IV z_12 0 43 := by have := (show IV 0 0 0 from (by decide)); have := iv_11; rw [IV, i_13]; omega
    refine k_aload_n X dX11_copy_15 1 rfl ?_
    refine k_iload_n X dX11_copy_16 2 rfl ?_
    refine k_iload X dX11_copy_17 0 rfl ?_
    refine k_iadd X dX11_copy_19 ?_
    refine k_nm (fun z_15 ez_15 => ?_)
    have i_16 : z_15.toInt = p1.toInt + u_2.toInt := in_add ez_15 hv_p1 iv_11 (by decide) (by decide)
    have iv_17 : IV z_15 0 131 := by have := hv_p1; have := iv_11; rw [IV, i_16]; omega
    refine k_iald X dX11_copy_20 0 rfl (iv_in iv_17 (by decide) (by decide)) ?_
    refine k_nm (fun z_18 ez_18 => ?_)
    refine k_iast [(fa, .inl (g.2.2.1, 132, .inl f1)), (ta, .inl (g.2.2.1, 44, .inl (upd uf_1 (z_12 : Int32).toNatClampNeg z_18)))] X dX11_copy_21 1 rfl (iv_in iv_14 (by decide) (by decide)) rfl ?_
    refine (fun hg : ∀ fa_19 : Nat → Int32, Wk p l e _ s m args below meth c _ A g _ _ _ [(fa, .inl (g.2.2.1, 132, .inl f1)), (ta, .inl (g.2.2.1, 44, .inl fa_19))] _ _ _ => hg _) (fun fa_19 => ?_)
    obtain ⟨z_20, ez_20⟩ : ∃ y : Int32, u_2 + Int32.ofInt 1 = y := ⟨_, rfl⟩
    refine k_iinc z_20 [(5, .int z_20), (0, .ref fa), (1, .int p1), (2, .ref ta), (3, .int 0), (4, .int 44)] 0 X dX11_copy_22 rfl ez_20 (by decide) rfl ?_
    have i_21 : z_20.toInt = u_2.toInt + 1 := in_inc ez_20 (by decide) iv_11 (by decide) (by decide)
    have iv_22 : IV z_20 1 44 := by have := iv_11; rw [IV, i_21]; omega
    refine k_goto 3 X dX11_copy_25 (by decide) ?_
    exact ih_6 _ (by omega) fa_19 z_20 rfl (iv_w iv_22 (by decide) (by decide))

theorem dX11_note_0 : decode cX11_note 0 = .ok (.aload_n 0, 1) := by decide +kernel
theorem dX11_note_1 : decode cX11_note 1 = .ok (.getfield 216, 3) := by decide +kernel
theorem dX11_note_4 : decode cX11_note 4 = .ok (.bipush 12, 2) := by decide +kernel
theorem dX11_note_6 : decode cX11_note 6 = .ok (.if_icmp .ne 43, 3) := by decide +kernel
theorem dX11_note_9 : decode cX11_note 9 = .ok (.iconst 0, 1) := by decide +kernel
theorem dX11_note_10 : decode cX11_note 10 = .ok (.istore_n 1, 1) := by decide +kernel
theorem dX11_note_11 : decode cX11_note 11 = .ok (.iload_n 1, 1) := by decide +kernel
theorem dX11_note_12 : decode cX11_note 12 = .ok (.sipush 484, 3) := by decide +kernel
theorem dX11_note_15 : decode cX11_note 15 = .ok (.if_icmp .ge 24, 3) := by decide +kernel
theorem dX11_note_18 : decode cX11_note 18 = .ok (.aload_n 0, 1) := by decide +kernel
theorem dX11_note_19 : decode cX11_note 19 = .ok (.getfield 29, 3) := by decide +kernel
theorem dX11_note_22 : decode cX11_note 22 = .ok (.iload_n 1, 1) := by decide +kernel
theorem dX11_note_23 : decode cX11_note 23 = .ok (.aload_n 0, 1) := by decide +kernel
theorem dX11_note_24 : decode cX11_note 24 = .ok (.getfield 29, 3) := by decide +kernel
theorem dX11_note_27 : decode cX11_note 27 = .ok (.iload_n 1, 1) := by decide +kernel
theorem dX11_note_28 : decode cX11_note 28 = .ok (.bipush 44, 2) := by decide +kernel
theorem dX11_note_30 : decode cX11_note 30 = .ok (.iadd, 1) := by decide +kernel
theorem dX11_note_31 : decode cX11_note 31 = .ok (.iaload, 1) := by decide +kernel
theorem dX11_note_32 : decode cX11_note 32 = .ok (.iastore, 1) := by decide +kernel
theorem dX11_note_33 : decode cX11_note 33 = .ok (.iinc 1 1, 3) := by decide +kernel
theorem dX11_note_36 : decode cX11_note 36 = .ok (.goto (-25), 3) := by decide +kernel
theorem dX11_note_39 : decode cX11_note 39 = .ok (.aload_n 0, 1) := by decide +kernel
theorem dX11_note_40 : decode cX11_note 40 = .ok (.dup, 1) := by decide +kernel
theorem dX11_note_41 : decode cX11_note 41 = .ok (.getfield 216, 3) := by decide +kernel
theorem dX11_note_44 : decode cX11_note 44 = .ok (.iconst 1, 1) := by decide +kernel
theorem dX11_note_45 : decode cX11_note 45 = .ok (.isub, 1) := by decide +kernel
theorem dX11_note_46 : decode cX11_note 46 = .ok (.putfield 216, 3) := by decide +kernel
theorem dX11_note_49 : decode cX11_note 49 = .ok (.aload_n 0, 1) := by decide +kernel
theorem dX11_note_50 : decode cX11_note 50 = .ok (.getfield 26, 3) := by decide +kernel
theorem dX11_note_53 : decode cX11_note 53 = .ok (.iconst 0, 1) := by decide +kernel
theorem dX11_note_54 : decode cX11_note 54 = .ok (.aload_n 0, 1) := by decide +kernel
theorem dX11_note_55 : decode cX11_note 55 = .ok (.getfield 29, 3) := by decide +kernel
theorem dX11_note_58 : decode cX11_note 58 = .ok (.bipush 44, 2) := by decide +kernel
theorem dX11_note_60 : decode cX11_note 60 = .ok (.aload_n 0, 1) := by decide +kernel
theorem dX11_note_61 : decode cX11_note 61 = .ok (.getfield 216, 3) := by decide +kernel
theorem dX11_note_64 : decode cX11_note 64 = .ok (.imul, 1) := by decide +kernel
theorem dX11_note_65 : decode cX11_note 65 = .ok (.bipush 44, 2) := by decide +kernel
theorem dX11_note_67 : decode cX11_note 67 = .ok (.invokestatic 209, 3) := by decide +kernel
theorem dX11_note_70 : decode cX11_note 70 = .ok (.aload_n 0, 1) := by decide +kernel
theorem dX11_note_71 : decode cX11_note 71 = .ok (.dup, 1) := by decide +kernel
theorem dX11_note_72 : decode cX11_note 72 = .ok (.getfield 216, 3) := by decide +kernel
theorem dX11_note_75 : decode cX11_note 75 = .ok (.iconst 1, 1) := by decide +kernel
theorem dX11_note_76 : decode cX11_note 76 = .ok (.iadd, 1) := by decide +kernel
theorem dX11_note_77 : decode cX11_note 77 = .ok (.putfield 216, 3) := by decide +kernel
theorem dX11_note_80 : decode cX11_note 80 = .ok (.return_, 1) := by decide +kernel
set_option maxHeartbeats 4000000 in
set_option maxRecDepth 100000 in
theorem m_note (l : Launch) (g : Gx) (h0 : Nat) (m_thrown : Int32) (a_tape : Nat) (m_taped : Int32) (m_size : Int32) (m_at : Int32) (m_end : Int32) (m_token : Int32) (m_whole : Int32) (m_nameSize : Int32) (m_fault : Int32) (m_place : Int32) (m_trouble : Int32) (a_letters : Nat) (m_failed : Int32) (m_hasHouse : Int32) (a_r : Nat) (a_fresh : Nat) (a_st : Nat) (a_undone : Nat) (a_kept : Nat) (m_undos : Int32) (m_images : Int32) (a_from : Nat) (a_begin : Nat) (a_motor : Nat) (a_change : Nat) (a_startFrame : Nat) (a_changeFrame : Nat) (a_lostAt : Nat) (a_blackAt : Nat) (a_slips : Nat) (a_leftArc : Nat) (a_died : Nat) (a_arcs : Nat) (m_bestSum : Int32) (m_nearest : Int32) (m_nearestTown : Int32) (a_there : Nat) (a_backAt : Nat) (a_sorted : Nat) (a_parts : Nat) (m_seed1 : Int32) (m_darkNow : Int32) (d_st : Nat → Int32) (d_undone : Nat → Int32) (hv_m_undos : IV m_undos 0 12) : cV l g yX11_note cX11_note 2 1 25 0 0 [.ref h0] [(h0, .inr (11, [.int m_thrown, .ref a_tape, .int m_taped, .int m_size, .int m_at, .int m_end, .int m_token, .int m_whole, .int m_nameSize, .int m_fault, .int m_place, .int m_trouble, .ref a_letters, .int m_failed, .int m_hasHouse, .ref a_r, .ref a_fresh, .ref a_st, .ref a_undone, .ref a_kept, .int m_undos, .int m_images, .ref a_from, .ref a_begin, .ref a_motor, .ref a_change, .ref a_startFrame, .ref a_changeFrame, .ref a_lostAt, .ref a_blackAt, .ref a_slips, .ref a_leftArc, .ref a_died, .ref a_arcs, .int m_bestSum, .int m_nearest, .int m_nearestTown, .ref a_there, .ref a_backAt, .ref a_sorted, .ref a_parts, .int m_seed1, .int m_darkNow])), (a_st, .inl (g.2.2.1, 44, .inl d_st)), (a_undone, .inl (g.2.2.1, 528, .inl d_undone))] (fun w => ∃ (d_undone2 : Nat → Int32) (m_undos2 : Int32), IV m_undos2 0 12 ∧ w = [(h0, .inr (11, [.int m_thrown, .ref a_tape, .int m_taped, .int m_size, .int m_at, .int m_end, .int m_token, .int m_whole, .int m_nameSize, .int m_fault, .int m_place, .int m_trouble, .ref a_letters, .int m_failed, .int m_hasHouse, .ref a_r, .ref a_fresh, .ref a_st, .ref a_undone, .ref a_kept, .int m_undos2, .int m_images, .ref a_from, .ref a_begin, .ref a_motor, .ref a_change, .ref a_startFrame, .ref a_changeFrame, .ref a_lostAt, .ref a_blackAt, .ref a_slips, .ref a_leftArc, .ref a_died, .ref a_arcs, .int m_bestSum, .int m_nearest, .int m_nearestTown, .ref a_there, .ref a_backAt, .ref a_sorted, .ref a_parts, .int m_seed1, .int m_darkNow])), (a_st, .inl (g.2.2.1, 44, .inl d_st)), (a_undone, .inl (g.2.2.1, 528, .inl d_undone2))]) := by
  refine cV.of (by decide) (Nat.le_of_ble_eq_true rfl) ?_
  intro p e s m args below meth c A X hr hi
  refine k_lveq [(0, .ref h0)] rfl ?_
  refine k_aload_n X dX11_note_0 0 rfl ?_
  refine k_get (ci := 11) X inlX11 rfl 20 (by decide) dX11_note_1 mw475 0 rfl rfl ?_
  refine k_bipush (v := 12) X dX11_note_4 (by decide) ?_
  refine k_ic_ne 49 X dX11_note_6 (by decide) (fun h_1 => ?_) (fun h_1 => ?_)
  · skip
    have iv_2 : IV m_undos 0 11 := iv_neH h_1 hv_m_undos (show IV 12 12 12 from (by decide)) (by decide)
    refine k_aload_n X dX11_note_49 0 rfl ?_
    refine k_get (ci := 11) X inlX11 rfl 17 (by decide) dX11_note_50 mw172 0 rfl rfl ?_
    refine k_iconst (v := 0) X dX11_note_53 (by decide) ?_
    refine k_aload_n X dX11_note_54 0 rfl ?_
    refine k_get (ci := 11) X inlX11 rfl 18 (by decide) dX11_note_55 mw173 0 rfl rfl ?_
    refine k_bipush (v := 44) X dX11_note_58 (by decide) ?_
    refine k_aload_n X dX11_note_60 0 rfl ?_
    refine k_get (ci := 11) X inlX11 rfl 20 (by decide) dX11_note_61 mw475 0 rfl rfl ?_
    refine k_imul X dX11_note_64 ?_
    refine k_nm (fun z_3 ez_3 => ?_)
    have i_4 : z_3.toInt = 44 * m_undos.toInt := in_mul ez_3 (by decide) (by decide) iv_2 (by decide) (by decide)
    have iv_5 : IV z_3 0 484 := by have := (show IV 44 44 44 from (by decide)); have := iv_2; rw [IV, i_4]; omega
    refine k_bipush (v := 44) X dX11_note_65 (by decide) ?_
    refine k_callSV (n := 5) (As := [.ref a_st, .int 0, .ref a_undone, .int z_3, .int 44]) (st := []) X [(a_st, .inl (g.2.2.1, 44, .inl d_st)), (a_undone, .inl (g.2.2.1, 528, .inl d_undone))] [(h0, .inr (11, [.int m_thrown, .ref a_tape, .int m_taped, .int m_size, .int m_at, .int m_end, .int m_token, .int m_whole, .int m_nameSize, .int m_fault, .int m_place, .int m_trouble, .ref a_letters, .int m_failed, .int m_hasHouse, .ref a_r, .ref a_fresh, .ref a_st, .ref a_undone, .ref a_kept, .int m_undos, .int m_images, .ref a_from, .ref a_begin, .ref a_motor, .ref a_change, .ref a_startFrame, .ref a_changeFrame, .ref a_lostAt, .ref a_blackAt, .ref a_slips, .ref a_leftArc, .ref a_died, .ref a_arcs, .int m_bestSum, .int m_nearest, .int m_nearestTown, .ref a_there, .ref a_backAt, .ref a_sorted, .ref a_parts, .int m_seed1, .int m_darkNow]))] [1, 2] [0] (m_copyA l g a_st a_undone z_3 d_st d_undone (iv_w iv_5 (by decide) (by decide))) dX11_note_67 mw619 mw620 mw5 mw621 (by unfold yOk; decide) rfl (Nat.le_of_ble_eq_true rfl) (Nat.le_of_ble_eq_true rfl) (Nat.le_of_ble_eq_true rfl) (Nat.le_of_ble_eq_true rfl) (Nat.le_of_ble_eq_true rfl) rfl rfl (by decide) rfl (by decide) (by decide) ?_
    rintro w ⟨f3_6, rfl⟩
    refine k_ws [(h0, .inr (11, [.int m_thrown, .ref a_tape, .int m_taped, .int m_size, .int m_at, .int m_end, .int m_token, .int m_whole, .int m_nameSize, .int m_fault, .int m_place, .int m_trouble, .ref a_letters, .int m_failed, .int m_hasHouse, .ref a_r, .ref a_fresh, .ref a_st, .ref a_undone, .ref a_kept, .int m_undos, .int m_images, .ref a_from, .ref a_begin, .ref a_motor, .ref a_change, .ref a_startFrame, .ref a_changeFrame, .ref a_lostAt, .ref a_blackAt, .ref a_slips, .ref a_leftArc, .ref a_died, .ref a_arcs, .int m_bestSum, .int m_nearest, .int m_nearestTown, .ref a_there, .ref a_backAt, .ref a_sorted, .ref a_parts, .int m_seed1, .int m_darkNow])), (a_st, .inl (g.2.2.1, 44, .inl d_st)), (a_undone, .inl (g.2.2.1, 528, .inl f3_6))] rfl ?_
    refine k_aload_n X dX11_note_70 0 rfl ?_
    refine k_dup X dX11_note_71 rfl ?_
    refine k_get (ci := 11) X inlX11 rfl 20 (by decide) dX11_note_72 mw475 0 rfl rfl ?_
    refine k_iconst (v := 1) X dX11_note_75 (by decide) ?_
    refine k_iadd X dX11_note_76 ?_
    refine k_nm (fun z_8 ez_8 => ?_)
    have i_9 : z_8.toInt = m_undos.toInt + 1 := in_add ez_8 iv_2 (show IV 1 1 1 from (by decide)) (by decide) (by decide)
    have iv_10 : IV z_8 1 12 := by have := iv_2; have := (show IV 1 1 1 from (by decide)); rw [IV, i_9]; omega
    refine k_put (ci := 11) [(h0, .inr (11, [.int m_thrown, .ref a_tape, .int m_taped, .int m_size, .int m_at, .int m_end, .int m_token, .int m_whole, .int m_nameSize, .int m_fault, .int m_place, .int m_trouble, .ref a_letters, .int m_failed, .int m_hasHouse, .ref a_r, .ref a_fresh, .ref a_st, .ref a_undone, .ref a_kept, .int z_8, .int m_images, .ref a_from, .ref a_begin, .ref a_motor, .ref a_change, .ref a_startFrame, .ref a_changeFrame, .ref a_lostAt, .ref a_blackAt, .ref a_slips, .ref a_leftArc, .ref a_died, .ref a_arcs, .int m_bestSum, .int m_nearest, .int m_nearestTown, .ref a_there, .ref a_backAt, .ref a_sorted, .ref a_parts, .int m_seed1, .int m_darkNow])), (a_st, .inl (g.2.2.1, 44, .inl d_st)), (a_undone, .inl (g.2.2.1, 528, .inl f3_6))] X inlX11 rfl tyX11_ok nmX11 20 (by decide) rfl dX11_note_77 mw475 0 rfl rfl rfl (Nat.le_of_ble_eq_true rfl) rfl ?_
    exact k_vret X hr dX11_note_80 (Nat.le_of_ble_eq_true rfl) (Nat.le_of_ble_eq_true rfl) [0, 1, 2] (by decide) rfl rfl ⟨f3_6, z_8, (iv_w iv_10 (by decide) (by decide)), rfl⟩
  · skip
    have iv_11 : IV m_undos 12 12 := iv_meet hv_m_undos (iv_e h_1 (show IV 12 12 12 from (by decide))) (by decide) (by decide)
    refine k_iconst (v := 0) X dX11_note_9 (by decide) ?_
    refine k_istore_n [(1, .int 0), (0, .ref h0)] X dX11_note_10 (by decide) rfl ?_
    refine (fun hL : ∀ (nn_15 : Nat) (uf_12 : Nat → Int32) (u_13 : Int32), (484 - u_13.toInt).toNat = nn_15 → (IV u_13 0 900) → Wk p l e _ s m args below meth c _ A g _ _ _ [(h0, .inr (11, [.int m_thrown, .ref a_tape, .int m_taped, .int m_size, .int m_at, .int m_end, .int m_token, .int m_whole, .int m_nameSize, .int m_fault, .int m_place, .int m_trouble, .ref a_letters, .int m_failed, .int m_hasHouse, .ref a_r, .ref a_fresh, .ref a_st, .ref a_undone, .ref a_kept, .int m_undos, .int m_images, .ref a_from, .ref a_begin, .ref a_motor, .ref a_change, .ref a_startFrame, .ref a_changeFrame, .ref a_lostAt, .ref a_blackAt, .ref a_slips, .ref a_leftArc, .ref a_died, .ref a_arcs, .int m_bestSum, .int m_nearest, .int m_nearestTown, .ref a_there, .ref a_backAt, .ref a_sorted, .ref a_parts, .int m_seed1, .int m_darkNow])), (a_st, .inl (g.2.2.1, 44, .inl d_st)), (a_undone, .inl (g.2.2.1, 528, .inl uf_12))] [(1, .int u_13), (0, .ref h0)] 11 [] => hL _ d_undone 0 rfl (iv_w (show IV 0 0 0 from (by decide)) (by decide) (by decide))) ?_
    refine fun nn_15 => Nat.strongRecOn nn_15 (fun nn_15 ih_17 => ?_)
    intro uf_12 u_13 hm_16 hv_14
    refine k_iload_n X dX11_note_11 0 rfl ?_
    refine k_sipush (v := 484) X dX11_note_12 (by decide) ?_
    refine k_ic_ge 39 X dX11_note_15 (by decide) (fun h_18 => ?_) (fun h_18 => ?_)
    · skip
      have j_19 : 484 ≤ u_13.toInt := iv_le h_18
      have iv_20 : IV u_13 484 900 := iv_leR (iv_le h_18) (show IV 484 484 484 from (by decide)) hv_14 (by decide)
      refine k_aload_n X dX11_note_39 1 rfl ?_
      refine k_dup X dX11_note_40 rfl ?_
      refine k_get (ci := 11) X inlX11 rfl 20 (by decide) dX11_note_41 mw475 0 rfl rfl ?_
      refine k_iconst (v := 1) X dX11_note_44 (by decide) ?_
      refine k_isub X dX11_note_45 ?_
      refine k_nm (fun z_21 ez_21 => ?_)
      have i_22 : z_21.toInt = m_undos.toInt - 1 := in_sub ez_21 iv_11 (show IV 1 1 1 from (by decide)) (by decide) (by decide)
      have iv_23 : IV z_21 11 11 := by have := iv_11; have := (show IV 1 1 1 from (by decide)); rw [IV, i_22]; omega
      refine k_put (ci := 11) [(h0, .inr (11, [.int m_thrown, .ref a_tape, .int m_taped, .int m_size, .int m_at, .int m_end, .int m_token, .int m_whole, .int m_nameSize, .int m_fault, .int m_place, .int m_trouble, .ref a_letters, .int m_failed, .int m_hasHouse, .ref a_r, .ref a_fresh, .ref a_st, .ref a_undone, .ref a_kept, .int z_21, .int m_images, .ref a_from, .ref a_begin, .ref a_motor, .ref a_change, .ref a_startFrame, .ref a_changeFrame, .ref a_lostAt, .ref a_blackAt, .ref a_slips, .ref a_leftArc, .ref a_died, .ref a_arcs, .int m_bestSum, .int m_nearest, .int m_nearestTown, .ref a_there, .ref a_backAt, .ref a_sorted, .ref a_parts, .int m_seed1, .int m_darkNow])), (a_st, .inl (g.2.2.1, 44, .inl d_st)), (a_undone, .inl (g.2.2.1, 528, .inl uf_12))] X inlX11 rfl tyX11_ok nmX11 20 (by decide) rfl dX11_note_46 mw475 0 rfl rfl rfl (Nat.le_of_ble_eq_true rfl) rfl ?_
      refine k_aload_n X dX11_note_49 1 rfl ?_
      refine k_get (ci := 11) X inlX11 rfl 17 (by decide) dX11_note_50 mw172 0 rfl rfl ?_
      refine k_iconst (v := 0) X dX11_note_53 (by decide) ?_
      refine k_aload_n X dX11_note_54 1 rfl ?_
      refine k_get (ci := 11) X inlX11 rfl 18 (by decide) dX11_note_55 mw173 0 rfl rfl ?_
      refine k_bipush (v := 44) X dX11_note_58 (by decide) ?_
      refine k_aload_n X dX11_note_60 1 rfl ?_
      refine k_get (ci := 11) X inlX11 rfl 20 (by decide) dX11_note_61 mw475 0 rfl rfl ?_
      refine k_imul X dX11_note_64 ?_
      refine k_nm (fun z_24 ez_24 => ?_)
      have i_25 : z_24.toInt = 44 * z_21.toInt := in_mul ez_24 (by decide) (by decide) iv_23 (by decide) (by decide)
      have iv_26 : IV z_24 484 484 := by have := (show IV 44 44 44 from (by decide)); have := iv_23; rw [IV, i_25]; omega
      refine k_bipush (v := 44) X dX11_note_65 (by decide) ?_
      refine k_callSV (n := 5) (As := [.ref a_st, .int 0, .ref a_undone, .int z_24, .int 44]) (st := []) X [(a_st, .inl (g.2.2.1, 44, .inl d_st)), (a_undone, .inl (g.2.2.1, 528, .inl uf_12))] [(h0, .inr (11, [.int m_thrown, .ref a_tape, .int m_taped, .int m_size, .int m_at, .int m_end, .int m_token, .int m_whole, .int m_nameSize, .int m_fault, .int m_place, .int m_trouble, .ref a_letters, .int m_failed, .int m_hasHouse, .ref a_r, .ref a_fresh, .ref a_st, .ref a_undone, .ref a_kept, .int z_21, .int m_images, .ref a_from, .ref a_begin, .ref a_motor, .ref a_change, .ref a_startFrame, .ref a_changeFrame, .ref a_lostAt, .ref a_blackAt, .ref a_slips, .ref a_leftArc, .ref a_died, .ref a_arcs, .int m_bestSum, .int m_nearest, .int m_nearestTown, .ref a_there, .ref a_backAt, .ref a_sorted, .ref a_parts, .int m_seed1, .int m_darkNow]))] [1, 2] [0] (m_copyA l g a_st a_undone z_24 d_st uf_12 (iv_w iv_26 (by decide) (by decide))) dX11_note_67 mw619 mw620 mw5 mw621 (by unfold yOk; decide) rfl (Nat.le_of_ble_eq_true rfl) (Nat.le_of_ble_eq_true rfl) (Nat.le_of_ble_eq_true rfl) (Nat.le_of_ble_eq_true rfl) (Nat.le_of_ble_eq_true rfl) rfl rfl (by decide) rfl (by decide) (by decide) ?_
      rintro w ⟨f3_27, rfl⟩
      refine k_ws [(h0, .inr (11, [.int m_thrown, .ref a_tape, .int m_taped, .int m_size, .int m_at, .int m_end, .int m_token, .int m_whole, .int m_nameSize, .int m_fault, .int m_place, .int m_trouble, .ref a_letters, .int m_failed, .int m_hasHouse, .ref a_r, .ref a_fresh, .ref a_st, .ref a_undone, .ref a_kept, .int z_21, .int m_images, .ref a_from, .ref a_begin, .ref a_motor, .ref a_change, .ref a_startFrame, .ref a_changeFrame, .ref a_lostAt, .ref a_blackAt, .ref a_slips, .ref a_leftArc, .ref a_died, .ref a_arcs, .int m_bestSum, .int m_nearest, .int m_nearestTown, .ref a_there, .ref a_backAt, .ref a_sorted, .ref a_parts, .int m_seed1, .int m_darkNow])), (a_st, .inl (g.2.2.1, 44, .inl d_st)), (a_undone, .inl (g.2.2.1, 528, .inl f3_27))] rfl ?_
      refine k_aload_n X dX11_note_70 1 rfl ?_
      refine k_dup X dX11_note_71 rfl ?_
      refine k_get (ci := 11) X inlX11 rfl 20 (by decide) dX11_note_72 mw475 0 rfl rfl ?_
      refine k_iconst (v := 1) X dX11_note_75 (by decide) ?_
      refine k_iadd X dX11_note_76 ?_
      refine k_nm (fun z_29 ez_29 => ?_)
      have i_30 : z_29.toInt = z_21.toInt + 1 := in_add ez_29 iv_23 (show IV 1 1 1 from (by decide)) (by decide) (by decide)
      have iv_31 : IV z_29 12 12 := by have := iv_23; have := (show IV 1 1 1 from (by decide)); rw [IV, i_30]; omega
      refine k_put (ci := 11) [(h0, .inr (11, [.int m_thrown, .ref a_tape, .int m_taped, .int m_size, .int m_at, .int m_end, .int m_token, .int m_whole, .int m_nameSize, .int m_fault, .int m_place, .int m_trouble, .ref a_letters, .int m_failed, .int m_hasHouse, .ref a_r, .ref a_fresh, .ref a_st, .ref a_undone, .ref a_kept, .int z_29, .int m_images, .ref a_from, .ref a_begin, .ref a_motor, .ref a_change, .ref a_startFrame, .ref a_changeFrame, .ref a_lostAt, .ref a_blackAt, .ref a_slips, .ref a_leftArc, .ref a_died, .ref a_arcs, .int m_bestSum, .int m_nearest, .int m_nearestTown, .ref a_there, .ref a_backAt, .ref a_sorted, .ref a_parts, .int m_seed1, .int m_darkNow])), (a_st, .inl (g.2.2.1, 44, .inl d_st)), (a_undone, .inl (g.2.2.1, 528, .inl f3_27))] X inlX11 rfl tyX11_ok nmX11 20 (by decide) rfl dX11_note_77 mw475 0 rfl rfl rfl (Nat.le_of_ble_eq_true rfl) rfl ?_
      exact k_vret X hr dX11_note_80 (Nat.le_of_ble_eq_true rfl) (Nat.le_of_ble_eq_true rfl) [0, 1, 2] (by decide) rfl rfl ⟨f3_27, z_29, (iv_w iv_31 (by decide) (by decide)), rfl⟩
    · skip
      have j_32 : u_13.toInt < 484 := iv_nle h_18
      have iv_33 : IV u_13 0 483 := iv_ltL (iv_nle h_18) hv_14 (show IV 484 484 484 from (by decide)) (by decide)
      refine k_aload_n X dX11_note_18 1 rfl ?_
      refine k_get (ci := 11) X inlX11 rfl 18 (by decide) dX11_note_19 mw173 0 rfl rfl ?_
      refine k_iload_n X dX11_note_22 0 rfl ?_
      refine k_aload_n X dX11_note_23 1 rfl ?_
      refine k_get (ci := 11) X inlX11 rfl 18 (by decide) dX11_note_24 mw173 0 rfl rfl ?_
      refine k_iload_n X dX11_note_27 0 rfl ?_
      refine k_bipush (v := 44) X dX11_note_28 (by decide) ?_
      refine k_iadd X dX11_note_30 ?_
      refine k_nm (fun z_34 ez_34 => ?_)
      have i_35 : z_34.toInt = u_13.toInt + 44 := in_add ez_34 iv_33 (show IV 44 44 44 from (by decide)) (by decide) (by decide)
      have iv_36 : IV z_34 44 527 := by have := iv_33; have := (show IV 44 44 44 from (by decide)); rw [IV, i_35]; omega
      refine k_iald X dX11_note_31 2 rfl (iv_in iv_36 (by decide) (by decide)) ?_
      refine k_nm (fun z_37 ez_37 => ?_)
      refine k_iast [(h0, .inr (11, [.int m_thrown, .ref a_tape, .int m_taped, .int m_size, .int m_at, .int m_end, .int m_token, .int m_whole, .int m_nameSize, .int m_fault, .int m_place, .int m_trouble, .ref a_letters, .int m_failed, .int m_hasHouse, .ref a_r, .ref a_fresh, .ref a_st, .ref a_undone, .ref a_kept, .int m_undos, .int m_images, .ref a_from, .ref a_begin, .ref a_motor, .ref a_change, .ref a_startFrame, .ref a_changeFrame, .ref a_lostAt, .ref a_blackAt, .ref a_slips, .ref a_leftArc, .ref a_died, .ref a_arcs, .int m_bestSum, .int m_nearest, .int m_nearestTown, .ref a_there, .ref a_backAt, .ref a_sorted, .ref a_parts, .int m_seed1, .int m_darkNow])), (a_st, .inl (g.2.2.1, 44, .inl d_st)), (a_undone, .inl (g.2.2.1, 528, .inl (upd uf_12 (u_13 : Int32).toNatClampNeg z_37)))] X dX11_note_32 2 rfl (iv_in iv_33 (by decide) (by decide)) rfl ?_
      refine (fun hg : ∀ fa_38 : Nat → Int32, Wk p l e _ s m args below meth c _ A g _ _ _ [(h0, .inr (11, [.int m_thrown, .ref a_tape, .int m_taped, .int m_size, .int m_at, .int m_end, .int m_token, .int m_whole, .int m_nameSize, .int m_fault, .int m_place, .int m_trouble, .ref a_letters, .int m_failed, .int m_hasHouse, .ref a_r, .ref a_fresh, .ref a_st, .ref a_undone, .ref a_kept, .int m_undos, .int m_images, .ref a_from, .ref a_begin, .ref a_motor, .ref a_change, .ref a_startFrame, .ref a_changeFrame, .ref a_lostAt, .ref a_blackAt, .ref a_slips, .ref a_leftArc, .ref a_died, .ref a_arcs, .int m_bestSum, .int m_nearest, .int m_nearestTown, .ref a_there, .ref a_backAt, .ref a_sorted, .ref a_parts, .int m_seed1, .int m_darkNow])), (a_st, .inl (g.2.2.1, 44, .inl d_st)), (a_undone, .inl (g.2.2.1, 528, .inl fa_38))] _ _ _ => hg _) (fun fa_38 => ?_)
      obtain ⟨z_39, ez_39⟩ : ∃ y : Int32, u_13 + Int32.ofInt 1 = y := ⟨_, rfl⟩
      refine k_iinc z_39 [(1, .int z_39), (0, .ref h0)] 0 X dX11_note_33 rfl ez_39 (by decide) rfl ?_
      have i_40 : z_39.toInt = u_13.toInt + 1 := in_inc ez_39 (by decide) iv_33 (by decide) (by decide)
      have iv_41 : IV z_39 1 484 := by have := iv_33; rw [IV, i_40]; omega
      refine k_goto 11 X dX11_note_36 (by decide) ?_
      exact ih_17 _ (by omega) fa_38 z_39 rfl (iv_w iv_41 (by decide) (by decide))

theorem dX11_threads_0 : decode cX11_threads 0 = .ok (.aload_n 0, 1) := by decide +kernel
theorem dX11_threads_1 : decode cX11_threads 1 = .ok (.invokevirtual 200, 3) := by decide +kernel
theorem dX11_threads_4 : decode cX11_threads 4 = .ok (.aload_n 0, 1) := by decide +kernel
theorem dX11_threads_5 : decode cX11_threads 5 = .ok (.iload_n 1, 1) := by decide +kernel
theorem dX11_threads_6 : decode cX11_threads 6 = .ok (.invokevirtual 345, 3) := by decide +kernel
theorem dX11_threads_9 : decode cX11_threads 9 = .ok (.ifCond .ne 9, 3) := by decide +kernel
theorem dX11_threads_12 : decode cX11_threads 12 = .ok (.aload_n 0, 1) := by decide +kernel
theorem dX11_threads_13 : decode cX11_threads 13 = .ok (.iconst 1, 1) := by decide +kernel
theorem dX11_threads_14 : decode cX11_threads 14 = .ok (.invokevirtual 473, 3) := by decide +kernel
theorem dX11_threads_17 : decode cX11_threads 17 = .ok (.ireturn, 1) := by decide +kernel
theorem dX11_threads_18 : decode cX11_threads 18 = .ok (.iload_n 2, 1) := by decide +kernel
theorem dX11_threads_19 : decode cX11_threads 19 = .ok (.iconst 0, 1) := by decide +kernel
theorem dX11_threads_20 : decode cX11_threads 20 = .ok (.sipush 199, 3) := by decide +kernel
theorem dX11_threads_23 : decode cX11_threads 23 = .ok (.invokestatic 182, 3) := by decide +kernel
theorem dX11_threads_26 : decode cX11_threads 26 = .ok (.ifCond .ne 9, 3) := by decide +kernel
theorem dX11_threads_29 : decode cX11_threads 29 = .ok (.aload_n 0, 1) := by decide +kernel
theorem dX11_threads_30 : decode cX11_threads 30 = .ok (.iconst 2, 1) := by decide +kernel
theorem dX11_threads_31 : decode cX11_threads 31 = .ok (.invokevirtual 473, 3) := by decide +kernel
theorem dX11_threads_34 : decode cX11_threads 34 = .ok (.ireturn, 1) := by decide +kernel
theorem dX11_threads_35 : decode cX11_threads 35 = .ok (.aload_n 0, 1) := by decide +kernel
theorem dX11_threads_36 : decode cX11_threads 36 = .ok (.getfield 26, 3) := by decide +kernel
theorem dX11_threads_39 : decode cX11_threads 39 = .ok (.bipush 34, 2) := by decide +kernel
theorem dX11_threads_41 : decode cX11_threads 41 = .ok (.iload_n 1, 1) := by decide +kernel
theorem dX11_threads_42 : decode cX11_threads 42 = .ok (.iadd, 1) := by decide +kernel
theorem dX11_threads_43 : decode cX11_threads 43 = .ok (.iaload, 1) := by decide +kernel
theorem dX11_threads_44 : decode cX11_threads 44 = .ok (.iload_n 2, 1) := by decide +kernel
theorem dX11_threads_45 : decode cX11_threads 45 = .ok (.if_icmp .ne 9, 3) := by decide +kernel
theorem dX11_threads_48 : decode cX11_threads 48 = .ok (.aload_n 0, 1) := by decide +kernel
theorem dX11_threads_49 : decode cX11_threads 49 = .ok (.iconst 5, 1) := by decide +kernel
theorem dX11_threads_50 : decode cX11_threads 50 = .ok (.invokevirtual 473, 3) := by decide +kernel
theorem dX11_threads_53 : decode cX11_threads 53 = .ok (.ireturn, 1) := by decide +kernel
theorem dX11_threads_54 : decode cX11_threads 54 = .ok (.aload_n 0, 1) := by decide +kernel
theorem dX11_threads_55 : decode cX11_threads 55 = .ok (.invokevirtual 476, 3) := by decide +kernel
theorem dX11_threads_58 : decode cX11_threads 58 = .ok (.aload_n 0, 1) := by decide +kernel
theorem dX11_threads_59 : decode cX11_threads 59 = .ok (.getfield 26, 3) := by decide +kernel
theorem dX11_threads_62 : decode cX11_threads 62 = .ok (.bipush 34, 2) := by decide +kernel
theorem dX11_threads_64 : decode cX11_threads 64 = .ok (.iload_n 1, 1) := by decide +kernel
theorem dX11_threads_65 : decode cX11_threads 65 = .ok (.iadd, 1) := by decide +kernel
theorem dX11_threads_66 : decode cX11_threads 66 = .ok (.iload_n 2, 1) := by decide +kernel
theorem dX11_threads_67 : decode cX11_threads 67 = .ok (.iastore, 1) := by decide +kernel
theorem dX11_threads_68 : decode cX11_threads 68 = .ok (.iconst 1, 1) := by decide +kernel
theorem dX11_threads_69 : decode cX11_threads 69 = .ok (.ireturn, 1) := by decide +kernel
set_option maxHeartbeats 4000000 in
set_option maxRecDepth 100000 in
theorem m_threads (l : Launch) (g : Gx) (h0 : Nat) (p0 : Int32) (p1 : Int32) (m_thrown : Int32) (a_tape : Nat) (m_taped : Int32) (m_size : Int32) (m_at : Int32) (m_end : Int32) (m_token : Int32) (m_whole : Int32) (m_nameSize : Int32) (m_fault : Int32) (m_place : Int32) (m_trouble : Int32) (a_letters : Nat) (m_failed : Int32) (m_hasHouse : Int32) (a_r : Nat) (a_fresh : Nat) (a_st : Nat) (a_undone : Nat) (a_kept : Nat) (m_undos : Int32) (m_images : Int32) (a_from : Nat) (a_begin : Nat) (a_motor : Nat) (a_change : Nat) (a_startFrame : Nat) (a_changeFrame : Nat) (a_lostAt : Nat) (a_blackAt : Nat) (a_slips : Nat) (a_leftArc : Nat) (a_died : Nat) (a_arcs : Nat) (m_bestSum : Int32) (m_nearest : Int32) (m_nearestTown : Int32) (a_there : Nat) (a_backAt : Nat) (a_sorted : Nat) (a_parts : Nat) (m_seed1 : Int32) (m_darkNow : Int32) (d_r : Nat → Int32) (d_st : Nat → Int32) (d_undone : Nat → Int32) (hv_m_hasHouse : IV m_hasHouse 0 1) (hv_m_undos : IV m_undos 0 12) (hp_d_r : RInv d_r) : cI l g yX11_threads cX11_threads 3 (some .boolean) 2 46 0 0 [.ref h0, .int p0, .int p1] [(h0, .inr (11, [.int m_thrown, .ref a_tape, .int m_taped, .int m_size, .int m_at, .int m_end, .int m_token, .int m_whole, .int m_nameSize, .int m_fault, .int m_place, .int m_trouble, .ref a_letters, .int m_failed, .int m_hasHouse, .ref a_r, .ref a_fresh, .ref a_st, .ref a_undone, .ref a_kept, .int m_undos, .int m_images, .ref a_from, .ref a_begin, .ref a_motor, .ref a_change, .ref a_startFrame, .ref a_changeFrame, .ref a_lostAt, .ref a_blackAt, .ref a_slips, .ref a_leftArc, .ref a_died, .ref a_arcs, .int m_bestSum, .int m_nearest, .int m_nearestTown, .ref a_there, .ref a_backAt, .ref a_sorted, .ref a_parts, .int m_seed1, .int m_darkNow])), (a_r, .inl (g.2.2.1, 311, .inl d_r)), (a_st, .inl (g.2.2.1, 44, .inl d_st)), (a_undone, .inl (g.2.2.1, 528, .inl d_undone))] (fun r w => ∃ (d_st2 : Nat → Int32) (m_thrown2 : Int32) (m_trouble2 : Int32) (d_undone2 : Nat → Int32) (m_undos2 : Int32), IV m_undos2 0 12 ∧ IV r 0 1 ∧ (m_trouble2 ≠ 4) ∧ w = [(h0, .inr (11, [.int m_thrown2, .ref a_tape, .int m_taped, .int m_size, .int m_at, .int m_end, .int m_token, .int m_whole, .int m_nameSize, .int m_fault, .int m_place, .int m_trouble2, .ref a_letters, .int m_failed, .int m_hasHouse, .ref a_r, .ref a_fresh, .ref a_st, .ref a_undone, .ref a_kept, .int m_undos2, .int m_images, .ref a_from, .ref a_begin, .ref a_motor, .ref a_change, .ref a_startFrame, .ref a_changeFrame, .ref a_lostAt, .ref a_blackAt, .ref a_slips, .ref a_leftArc, .ref a_died, .ref a_arcs, .int m_bestSum, .int m_nearest, .int m_nearestTown, .ref a_there, .ref a_backAt, .ref a_sorted, .ref a_parts, .int m_seed1, .int m_darkNow])), (a_r, .inl (g.2.2.1, 311, .inl d_r)), (a_st, .inl (g.2.2.1, 44, .inl d_st2)), (a_undone, .inl (g.2.2.1, 528, .inl d_undone2))]) := by
  refine cI.of (by decide) (Nat.le_of_ble_eq_true rfl) ?_
  intro p e s m args below meth c A X hr hi
  refine k_lveq [(0, .ref h0), (1, .int p0), (2, .int p1)] rfl ?_
  refine k_aload_n X dX11_threads_0 0 rfl ?_
  refine k_callVV (n := 0) (As := []) (st := []) X [(h0, .inr (11, [.int m_thrown, .ref a_tape, .int m_taped, .int m_size, .int m_at, .int m_end, .int m_token, .int m_whole, .int m_nameSize, .int m_fault, .int m_place, .int m_trouble, .ref a_letters, .int m_failed, .int m_hasHouse, .ref a_r, .ref a_fresh, .ref a_st, .ref a_undone, .ref a_kept, .int m_undos, .int m_images, .ref a_from, .ref a_begin, .ref a_motor, .ref a_change, .ref a_startFrame, .ref a_changeFrame, .ref a_lostAt, .ref a_blackAt, .ref a_slips, .ref a_leftArc, .ref a_died, .ref a_arcs, .int m_bestSum, .int m_nearest, .int m_nearestTown, .ref a_there, .ref a_backAt, .ref a_sorted, .ref a_parts, .int m_seed1, .int m_darkNow]))] [(a_r, .inl (g.2.2.1, 311, .inl d_r)), (a_st, .inl (g.2.2.1, 44, .inl d_st)), (a_undone, .inl (g.2.2.1, 528, .inl d_undone))] [0] [1, 2, 3] (m_good l g h0 m_thrown a_tape m_taped m_size m_at m_end m_token m_whole m_nameSize m_fault m_place m_trouble a_letters m_failed m_hasHouse a_r a_fresh a_st a_undone a_kept m_undos m_images a_from a_begin a_motor a_change a_startFrame a_changeFrame a_lostAt a_blackAt a_slips a_leftArc a_died a_arcs m_bestSum m_nearest m_nearestTown a_there a_backAt a_sorted a_parts m_seed1 m_darkNow) dX11_threads_1 mw477 mw478 mw479 mw5 mw480 rfl 11 rfl rfl 0 _ rfl (by unfold yOk; decide) rfl (Nat.le_of_ble_eq_true rfl) (Nat.le_of_ble_eq_true rfl) (Nat.le_of_ble_eq_true rfl) (Nat.le_of_ble_eq_true rfl) (Nat.le_of_ble_eq_true rfl) rfl rfl (by decide) rfl (by decide) (by decide) ?_
  rintro w ⟨m_thrown2_1, m_trouble2_2, hq_4, rfl⟩
  refine k_ws [(a_r, .inl (g.2.2.1, 311, .inl d_r)), (a_st, .inl (g.2.2.1, 44, .inl d_st)), (a_undone, .inl (g.2.2.1, 528, .inl d_undone)), (h0, .inr (11, [.int m_thrown2_1, .ref a_tape, .int m_taped, .int m_size, .int m_at, .int m_end, .int m_token, .int m_whole, .int m_nameSize, .int m_fault, .int m_place, .int m_trouble2_2, .ref a_letters, .int m_failed, .int m_hasHouse, .ref a_r, .ref a_fresh, .ref a_st, .ref a_undone, .ref a_kept, .int m_undos, .int m_images, .ref a_from, .ref a_begin, .ref a_motor, .ref a_change, .ref a_startFrame, .ref a_changeFrame, .ref a_lostAt, .ref a_blackAt, .ref a_slips, .ref a_leftArc, .ref a_died, .ref a_arcs, .int m_bestSum, .int m_nearest, .int m_nearestTown, .ref a_there, .ref a_backAt, .ref a_sorted, .ref a_parts, .int m_seed1, .int m_darkNow]))] rfl ?_
  refine k_aload_n X dX11_threads_4 0 rfl ?_
  refine k_iload_n X dX11_threads_5 1 rfl ?_
  refine k_callVI (n := 1) (As := [.int p0]) (st := []) X [(h0, .inr (11, [.int m_thrown2_1, .ref a_tape, .int m_taped, .int m_size, .int m_at, .int m_end, .int m_token, .int m_whole, .int m_nameSize, .int m_fault, .int m_place, .int m_trouble2_2, .ref a_letters, .int m_failed, .int m_hasHouse, .ref a_r, .ref a_fresh, .ref a_st, .ref a_undone, .ref a_kept, .int m_undos, .int m_images, .ref a_from, .ref a_begin, .ref a_motor, .ref a_change, .ref a_startFrame, .ref a_changeFrame, .ref a_lostAt, .ref a_blackAt, .ref a_slips, .ref a_leftArc, .ref a_died, .ref a_arcs, .int m_bestSum, .int m_nearest, .int m_nearestTown, .ref a_there, .ref a_backAt, .ref a_sorted, .ref a_parts, .int m_seed1, .int m_darkNow])), (a_r, .inl (g.2.2.1, 311, .inl d_r))] [(a_st, .inl (g.2.2.1, 44, .inl d_st)), (a_undone, .inl (g.2.2.1, 528, .inl d_undone))] [3, 0] [1, 2] (m_isPlace l g h0 p0 m_thrown2_1 a_tape m_taped m_size m_at m_end m_token m_whole m_nameSize m_fault m_place m_trouble2_2 a_letters m_failed m_hasHouse a_r a_fresh a_st a_undone a_kept m_undos m_images a_from a_begin a_motor a_change a_startFrame a_changeFrame a_lostAt a_blackAt a_slips a_leftArc a_died a_arcs m_bestSum m_nearest m_nearestTown a_there a_backAt a_sorted a_parts m_seed1 m_darkNow d_r (iv_w hv_m_hasHouse (by decide) (by decide)) hp_d_r) dX11_threads_6 mw719 mw720 mw721 mw5 mw722 rfl 11 rfl rfl 0 _ rfl (by unfold yOk; decide) rfl (Nat.le_of_ble_eq_true rfl) (Nat.le_of_ble_eq_true rfl) (Nat.le_of_ble_eq_true rfl) (Nat.le_of_ble_eq_true rfl) (Nat.le_of_ble_eq_true rfl) rfl rfl (by decide) rfl (by decide) (by decide) ?_
  rintro r_5 w ⟨iv_6, hk_7, rfl⟩
  refine k_ws [(a_st, .inl (g.2.2.1, 44, .inl d_st)), (a_undone, .inl (g.2.2.1, 528, .inl d_undone)), (h0, .inr (11, [.int m_thrown2_1, .ref a_tape, .int m_taped, .int m_size, .int m_at, .int m_end, .int m_token, .int m_whole, .int m_nameSize, .int m_fault, .int m_place, .int m_trouble2_2, .ref a_letters, .int m_failed, .int m_hasHouse, .ref a_r, .ref a_fresh, .ref a_st, .ref a_undone, .ref a_kept, .int m_undos, .int m_images, .ref a_from, .ref a_begin, .ref a_motor, .ref a_change, .ref a_startFrame, .ref a_changeFrame, .ref a_lostAt, .ref a_blackAt, .ref a_slips, .ref a_leftArc, .ref a_died, .ref a_arcs, .int m_bestSum, .int m_nearest, .int m_nearestTown, .ref a_there, .ref a_backAt, .ref a_sorted, .ref a_parts, .int m_seed1, .int m_darkNow])), (a_r, .inl (g.2.2.1, 311, .inl d_r))] rfl ?_
  refine k_if_ne 18 X dX11_threads_9 (by decide) (fun h_8 => ?_) (fun h_8 => ?_)
  · skip
    have hc_9 := hk_7.resolve_left h_8
    have iv_10 : IV p0 0 7 := iv_meet (iv_any p0) hc_9.1 (by decide) (by decide)
    have j_11 : p0.toInt < (d_r 12).toInt := hc_9.2
    have iv_12 : IV r_5 1 1 := iv_neL h_8 iv_6 (show IV 0 0 0 from (by decide)) (by decide)
    refine k_iload_n X dX11_threads_18 2 rfl ?_
    refine k_iconst (v := 0) X dX11_threads_19 (by decide) ?_
    refine k_sipush (v := 199) X dX11_threads_20 (by decide) ?_
    refine k_callSI (n := 3) (As := [.int p1, .int 0, .int 199]) (st := []) X [] [(a_st, .inl (g.2.2.1, 44, .inl d_st)), (a_undone, .inl (g.2.2.1, 528, .inl d_undone)), (h0, .inr (11, [.int m_thrown2_1, .ref a_tape, .int m_taped, .int m_size, .int m_at, .int m_end, .int m_token, .int m_whole, .int m_nameSize, .int m_fault, .int m_place, .int m_trouble2_2, .ref a_letters, .int m_failed, .int m_hasHouse, .ref a_r, .ref a_fresh, .ref a_st, .ref a_undone, .ref a_kept, .int m_undos, .int m_images, .ref a_from, .ref a_begin, .ref a_motor, .ref a_change, .ref a_startFrame, .ref a_changeFrame, .ref a_lostAt, .ref a_blackAt, .ref a_slips, .ref a_leftArc, .ref a_died, .ref a_arcs, .int m_bestSum, .int m_nearest, .int m_nearestTown, .ref a_there, .ref a_backAt, .ref a_sorted, .ref a_parts, .int m_seed1, .int m_darkNow])), (a_r, .inl (g.2.2.1, 311, .inl d_r))] [] [0, 1, 2, 3] (m_in l g p1 0 199) dX11_threads_23 mw482 mw483 mw5 mw484 (by unfold yOk; decide) rfl (Nat.le_of_ble_eq_true rfl) (Nat.le_of_ble_eq_true rfl) (Nat.le_of_ble_eq_true rfl) (Nat.le_of_ble_eq_true rfl) (Nat.le_of_ble_eq_true rfl) rfl rfl (by decide) rfl (by decide) (by decide) ?_
    rintro r_13 w ⟨iv_14, hk_15, hk_16, rfl⟩
    refine k_ws [(a_st, .inl (g.2.2.1, 44, .inl d_st)), (a_undone, .inl (g.2.2.1, 528, .inl d_undone)), (h0, .inr (11, [.int m_thrown2_1, .ref a_tape, .int m_taped, .int m_size, .int m_at, .int m_end, .int m_token, .int m_whole, .int m_nameSize, .int m_fault, .int m_place, .int m_trouble2_2, .ref a_letters, .int m_failed, .int m_hasHouse, .ref a_r, .ref a_fresh, .ref a_st, .ref a_undone, .ref a_kept, .int m_undos, .int m_images, .ref a_from, .ref a_begin, .ref a_motor, .ref a_change, .ref a_startFrame, .ref a_changeFrame, .ref a_lostAt, .ref a_blackAt, .ref a_slips, .ref a_leftArc, .ref a_died, .ref a_arcs, .int m_bestSum, .int m_nearest, .int m_nearestTown, .ref a_there, .ref a_backAt, .ref a_sorted, .ref a_parts, .int m_seed1, .int m_darkNow])), (a_r, .inl (g.2.2.1, 311, .inl d_r))] rfl ?_
    refine k_if_ne 35 X dX11_threads_26 (by decide) (fun h_17 => ?_) (fun h_17 => ?_)
    · skip
      have hc_18 := hk_15.resolve_left h_17
      have j_19 : 0 ≤ p1.toInt := hc_18.1
      have iv_20 : IV p1 0 2147483647 := iv_leR hc_18.1 (show IV 0 0 0 from (by decide)) (iv_any p1) (by decide)
      have j_21 : p1.toInt ≤ 199 := hc_18.2
      have iv_22 : IV p1 0 199 := iv_leL hc_18.2 iv_20 (show IV 199 199 199 from (by decide)) (by decide)
      have iv_23 : IV r_13 1 1 := iv_neL h_17 iv_14 (show IV 0 0 0 from (by decide)) (by decide)
      refine k_aload_n X dX11_threads_35 0 rfl ?_
      refine k_get (ci := 11) X inlX11 rfl 17 (by decide) dX11_threads_36 mw172 2 rfl rfl ?_
      refine k_bipush (v := 34) X dX11_threads_39 (by decide) ?_
      refine k_iload_n X dX11_threads_41 1 rfl ?_
      refine k_iadd X dX11_threads_42 ?_
      refine k_nm (fun z_24 ez_24 => ?_)
      have i_25 : z_24.toInt = 34 + p0.toInt := in_add ez_24 (show IV 34 34 34 from (by decide)) iv_10 (by decide) (by decide)
      have iv_26 : IV z_24 34 41 := by have := (show IV 34 34 34 from (by decide)); have := iv_10; rw [IV, i_25]; omega
      refine k_iald X dX11_threads_43 0 rfl (iv_in iv_26 (by decide) (by decide)) ?_
      refine k_nm (fun z_27 ez_27 => ?_)
      refine k_iload_n X dX11_threads_44 2 rfl ?_
      refine k_ic_ne 54 X dX11_threads_45 (by decide) (fun h_28 => ?_) (fun h_28 => ?_)
      · skip
        refine k_aload_n X dX11_threads_54 0 rfl ?_
        refine k_callVV (n := 0) (As := []) (st := []) X [(h0, .inr (11, [.int m_thrown2_1, .ref a_tape, .int m_taped, .int m_size, .int m_at, .int m_end, .int m_token, .int m_whole, .int m_nameSize, .int m_fault, .int m_place, .int m_trouble2_2, .ref a_letters, .int m_failed, .int m_hasHouse, .ref a_r, .ref a_fresh, .ref a_st, .ref a_undone, .ref a_kept, .int m_undos, .int m_images, .ref a_from, .ref a_begin, .ref a_motor, .ref a_change, .ref a_startFrame, .ref a_changeFrame, .ref a_lostAt, .ref a_blackAt, .ref a_slips, .ref a_leftArc, .ref a_died, .ref a_arcs, .int m_bestSum, .int m_nearest, .int m_nearestTown, .ref a_there, .ref a_backAt, .ref a_sorted, .ref a_parts, .int m_seed1, .int m_darkNow])), (a_st, .inl (g.2.2.1, 44, .inl d_st)), (a_undone, .inl (g.2.2.1, 528, .inl d_undone))] [(a_r, .inl (g.2.2.1, 311, .inl d_r))] [2, 0, 1] [3] (m_note l g h0 m_thrown2_1 a_tape m_taped m_size m_at m_end m_token m_whole m_nameSize m_fault m_place m_trouble2_2 a_letters m_failed m_hasHouse a_r a_fresh a_st a_undone a_kept m_undos m_images a_from a_begin a_motor a_change a_startFrame a_changeFrame a_lostAt a_blackAt a_slips a_leftArc a_died a_arcs m_bestSum m_nearest m_nearestTown a_there a_backAt a_sorted a_parts m_seed1 m_darkNow d_st d_undone (iv_w hv_m_undos (by decide) (by decide))) dX11_threads_55 mw1475 mw1476 mw1477 mw5 mw1478 rfl 11 rfl rfl 0 _ rfl (by unfold yOk; decide) rfl (Nat.le_of_ble_eq_true rfl) (Nat.le_of_ble_eq_true rfl) (Nat.le_of_ble_eq_true rfl) (Nat.le_of_ble_eq_true rfl) (Nat.le_of_ble_eq_true rfl) rfl rfl (by decide) rfl (by decide) (by decide) ?_
        rintro w ⟨d_undone2_29, m_undos2_30, iv_32, rfl⟩
        refine k_ws [(a_r, .inl (g.2.2.1, 311, .inl d_r)), (h0, .inr (11, [.int m_thrown2_1, .ref a_tape, .int m_taped, .int m_size, .int m_at, .int m_end, .int m_token, .int m_whole, .int m_nameSize, .int m_fault, .int m_place, .int m_trouble2_2, .ref a_letters, .int m_failed, .int m_hasHouse, .ref a_r, .ref a_fresh, .ref a_st, .ref a_undone, .ref a_kept, .int m_undos2_30, .int m_images, .ref a_from, .ref a_begin, .ref a_motor, .ref a_change, .ref a_startFrame, .ref a_changeFrame, .ref a_lostAt, .ref a_blackAt, .ref a_slips, .ref a_leftArc, .ref a_died, .ref a_arcs, .int m_bestSum, .int m_nearest, .int m_nearestTown, .ref a_there, .ref a_backAt, .ref a_sorted, .ref a_parts, .int m_seed1, .int m_darkNow])), (a_st, .inl (g.2.2.1, 44, .inl d_st)), (a_undone, .inl (g.2.2.1, 528, .inl d_undone2_29))] rfl ?_
        refine k_aload_n X dX11_threads_58 0 rfl ?_
        refine k_get (ci := 11) X inlX11 rfl 17 (by decide) dX11_threads_59 mw172 1 rfl rfl ?_
        refine k_bipush (v := 34) X dX11_threads_62 (by decide) ?_
        refine k_iload_n X dX11_threads_64 1 rfl ?_
        refine k_iadd X dX11_threads_65 ?_
        refine k_to z_24 ez_24.symm ?_
        refine k_iload_n X dX11_threads_66 2 rfl ?_
        refine k_iast [(a_r, .inl (g.2.2.1, 311, .inl d_r)), (h0, .inr (11, [.int m_thrown2_1, .ref a_tape, .int m_taped, .int m_size, .int m_at, .int m_end, .int m_token, .int m_whole, .int m_nameSize, .int m_fault, .int m_place, .int m_trouble2_2, .ref a_letters, .int m_failed, .int m_hasHouse, .ref a_r, .ref a_fresh, .ref a_st, .ref a_undone, .ref a_kept, .int m_undos2_30, .int m_images, .ref a_from, .ref a_begin, .ref a_motor, .ref a_change, .ref a_startFrame, .ref a_changeFrame, .ref a_lostAt, .ref a_blackAt, .ref a_slips, .ref a_leftArc, .ref a_died, .ref a_arcs, .int m_bestSum, .int m_nearest, .int m_nearestTown, .ref a_there, .ref a_backAt, .ref a_sorted, .ref a_parts, .int m_seed1, .int m_darkNow])), (a_st, .inl (g.2.2.1, 44, .inl (upd d_st (z_24 : Int32).toNatClampNeg p1))), (a_undone, .inl (g.2.2.1, 528, .inl d_undone2_29))] X dX11_threads_67 2 rfl (iv_in iv_26 (by decide) (by decide)) rfl ?_
        refine (fun hg : ∀ fa_33 : Nat → Int32, Wk p l e _ s m args below meth c _ A g _ _ _ [(a_r, .inl (g.2.2.1, 311, .inl d_r)), (h0, .inr (11, [.int m_thrown2_1, .ref a_tape, .int m_taped, .int m_size, .int m_at, .int m_end, .int m_token, .int m_whole, .int m_nameSize, .int m_fault, .int m_place, .int m_trouble2_2, .ref a_letters, .int m_failed, .int m_hasHouse, .ref a_r, .ref a_fresh, .ref a_st, .ref a_undone, .ref a_kept, .int m_undos2_30, .int m_images, .ref a_from, .ref a_begin, .ref a_motor, .ref a_change, .ref a_startFrame, .ref a_changeFrame, .ref a_lostAt, .ref a_blackAt, .ref a_slips, .ref a_leftArc, .ref a_died, .ref a_arcs, .int m_bestSum, .int m_nearest, .int m_nearestTown, .ref a_there, .ref a_backAt, .ref a_sorted, .ref a_parts, .int m_seed1, .int m_darkNow])), (a_st, .inl (g.2.2.1, 44, .inl fa_33)), (a_undone, .inl (g.2.2.1, 528, .inl d_undone2_29))] _ _ _ => hg _) (fun fa_33 => ?_)
        refine k_iconst (v := 1) X dX11_threads_68 (by decide) ?_
        exact k_zret X hr (by first | rfl | decide) dX11_threads_69 (Nat.le_of_ble_eq_true rfl) (Nat.le_of_ble_eq_true rfl) [1, 0, 2, 3] (by decide) rfl rfl ⟨fa_33, m_thrown2_1, m_trouble2_2, d_undone2_29, m_undos2_30, (iv_w iv_32 (by decide) (by decide)), (iv_w (show IV 1 1 1 from (by decide)) (by decide) (by decide)), (by assumption), rfl⟩
      · skip
        have iv_34 : IV z_27 0 199 := iv_meet (iv_any z_27) (iv_e h_28 iv_22) (by decide) (by decide)
        refine k_aload_n X dX11_threads_48 0 rfl ?_
        refine k_iconst (v := 5) X dX11_threads_49 (by decide) ?_
        refine k_callVI (n := 1) (As := [.int 5]) (st := []) X [(h0, .inr (11, [.int m_thrown2_1, .ref a_tape, .int m_taped, .int m_size, .int m_at, .int m_end, .int m_token, .int m_whole, .int m_nameSize, .int m_fault, .int m_place, .int m_trouble2_2, .ref a_letters, .int m_failed, .int m_hasHouse, .ref a_r, .ref a_fresh, .ref a_st, .ref a_undone, .ref a_kept, .int m_undos, .int m_images, .ref a_from, .ref a_begin, .ref a_motor, .ref a_change, .ref a_startFrame, .ref a_changeFrame, .ref a_lostAt, .ref a_blackAt, .ref a_slips, .ref a_leftArc, .ref a_died, .ref a_arcs, .int m_bestSum, .int m_nearest, .int m_nearestTown, .ref a_there, .ref a_backAt, .ref a_sorted, .ref a_parts, .int m_seed1, .int m_darkNow]))] [(a_st, .inl (g.2.2.1, 44, .inl d_st)), (a_undone, .inl (g.2.2.1, 528, .inl d_undone)), (a_r, .inl (g.2.2.1, 311, .inl d_r))] [2] [0, 1, 3] (m_isNotF l g h0 5 m_thrown2_1 a_tape m_taped m_size m_at m_end m_token m_whole m_nameSize m_fault m_place m_trouble2_2 a_letters m_failed m_hasHouse a_r a_fresh a_st a_undone a_kept m_undos m_images a_from a_begin a_motor a_change a_startFrame a_changeFrame a_lostAt a_blackAt a_slips a_leftArc a_died a_arcs m_bestSum m_nearest m_nearestTown a_there a_backAt a_sorted a_parts m_seed1 m_darkNow (by decide)) dX11_threads_50 mw1471 mw1472 mw1473 mw5 mw1474 rfl 11 rfl rfl 0 _ rfl (by unfold yOk; decide) rfl (Nat.le_of_ble_eq_true rfl) (Nat.le_of_ble_eq_true rfl) (Nat.le_of_ble_eq_true rfl) (Nat.le_of_ble_eq_true rfl) (Nat.le_of_ble_eq_true rfl) rfl rfl (by decide) rfl (by decide) (by decide) ?_
        rintro r_36 w ⟨m_trouble2_35, iv_37, hq_38, rfl⟩
        refine k_ws [(a_st, .inl (g.2.2.1, 44, .inl d_st)), (a_undone, .inl (g.2.2.1, 528, .inl d_undone)), (a_r, .inl (g.2.2.1, 311, .inl d_r)), (h0, .inr (11, [.int m_thrown2_1, .ref a_tape, .int m_taped, .int m_size, .int m_at, .int m_end, .int m_token, .int m_whole, .int m_nameSize, .int m_fault, .int m_place, .int m_trouble2_35, .ref a_letters, .int m_failed, .int m_hasHouse, .ref a_r, .ref a_fresh, .ref a_st, .ref a_undone, .ref a_kept, .int m_undos, .int m_images, .ref a_from, .ref a_begin, .ref a_motor, .ref a_change, .ref a_startFrame, .ref a_changeFrame, .ref a_lostAt, .ref a_blackAt, .ref a_slips, .ref a_leftArc, .ref a_died, .ref a_arcs, .int m_bestSum, .int m_nearest, .int m_nearestTown, .ref a_there, .ref a_backAt, .ref a_sorted, .ref a_parts, .int m_seed1, .int m_darkNow]))] rfl ?_
        exact k_zret X hr (zn_b (iv_w iv_37 (by decide) (by decide))) dX11_threads_53 (Nat.le_of_ble_eq_true rfl) (Nat.le_of_ble_eq_true rfl) [3, 2, 0, 1] (by decide) rfl rfl ⟨d_st, m_thrown2_1, m_trouble2_35, d_undone, m_undos, (iv_w hv_m_undos (by decide) (by decide)), (iv_w iv_37 (by decide) (by decide)), (by assumption), rfl⟩
    · skip
      have iv_39 : IV r_13 0 0 := iv_meet iv_14 (iv_e h_17 (show IV 0 0 0 from (by decide))) (by decide) (by decide)
      have hc_40 := hk_16 (iv_eq iv_39 (show IV 0 0 0 from (by decide)))
      have j_41 : p1.toInt < 0 ∨ 199 < p1.toInt := hc_40
      refine k_aload_n X dX11_threads_29 0 rfl ?_
      refine k_iconst (v := 2) X dX11_threads_30 (by decide) ?_
      refine k_callVI (n := 1) (As := [.int 2]) (st := []) X [(h0, .inr (11, [.int m_thrown2_1, .ref a_tape, .int m_taped, .int m_size, .int m_at, .int m_end, .int m_token, .int m_whole, .int m_nameSize, .int m_fault, .int m_place, .int m_trouble2_2, .ref a_letters, .int m_failed, .int m_hasHouse, .ref a_r, .ref a_fresh, .ref a_st, .ref a_undone, .ref a_kept, .int m_undos, .int m_images, .ref a_from, .ref a_begin, .ref a_motor, .ref a_change, .ref a_startFrame, .ref a_changeFrame, .ref a_lostAt, .ref a_blackAt, .ref a_slips, .ref a_leftArc, .ref a_died, .ref a_arcs, .int m_bestSum, .int m_nearest, .int m_nearestTown, .ref a_there, .ref a_backAt, .ref a_sorted, .ref a_parts, .int m_seed1, .int m_darkNow]))] [(a_st, .inl (g.2.2.1, 44, .inl d_st)), (a_undone, .inl (g.2.2.1, 528, .inl d_undone)), (a_r, .inl (g.2.2.1, 311, .inl d_r))] [2] [0, 1, 3] (m_isNotF l g h0 2 m_thrown2_1 a_tape m_taped m_size m_at m_end m_token m_whole m_nameSize m_fault m_place m_trouble2_2 a_letters m_failed m_hasHouse a_r a_fresh a_st a_undone a_kept m_undos m_images a_from a_begin a_motor a_change a_startFrame a_changeFrame a_lostAt a_blackAt a_slips a_leftArc a_died a_arcs m_bestSum m_nearest m_nearestTown a_there a_backAt a_sorted a_parts m_seed1 m_darkNow (by decide)) dX11_threads_31 mw1471 mw1472 mw1473 mw5 mw1474 rfl 11 rfl rfl 0 _ rfl (by unfold yOk; decide) rfl (Nat.le_of_ble_eq_true rfl) (Nat.le_of_ble_eq_true rfl) (Nat.le_of_ble_eq_true rfl) (Nat.le_of_ble_eq_true rfl) (Nat.le_of_ble_eq_true rfl) rfl rfl (by decide) rfl (by decide) (by decide) ?_
      rintro r_43 w ⟨m_trouble2_42, iv_44, hq_45, rfl⟩
      refine k_ws [(a_st, .inl (g.2.2.1, 44, .inl d_st)), (a_undone, .inl (g.2.2.1, 528, .inl d_undone)), (a_r, .inl (g.2.2.1, 311, .inl d_r)), (h0, .inr (11, [.int m_thrown2_1, .ref a_tape, .int m_taped, .int m_size, .int m_at, .int m_end, .int m_token, .int m_whole, .int m_nameSize, .int m_fault, .int m_place, .int m_trouble2_42, .ref a_letters, .int m_failed, .int m_hasHouse, .ref a_r, .ref a_fresh, .ref a_st, .ref a_undone, .ref a_kept, .int m_undos, .int m_images, .ref a_from, .ref a_begin, .ref a_motor, .ref a_change, .ref a_startFrame, .ref a_changeFrame, .ref a_lostAt, .ref a_blackAt, .ref a_slips, .ref a_leftArc, .ref a_died, .ref a_arcs, .int m_bestSum, .int m_nearest, .int m_nearestTown, .ref a_there, .ref a_backAt, .ref a_sorted, .ref a_parts, .int m_seed1, .int m_darkNow]))] rfl ?_
      exact k_zret X hr (zn_b (iv_w iv_44 (by decide) (by decide))) dX11_threads_34 (Nat.le_of_ble_eq_true rfl) (Nat.le_of_ble_eq_true rfl) [3, 2, 0, 1] (by decide) rfl rfl ⟨d_st, m_thrown2_1, m_trouble2_42, d_undone, m_undos, (iv_w hv_m_undos (by decide) (by decide)), (iv_w iv_44 (by decide) (by decide)), (by assumption), rfl⟩
  · skip
    have iv_46 : IV r_5 0 0 := iv_meet iv_6 (iv_e h_8 (show IV 0 0 0 from (by decide))) (by decide) (by decide)
    refine k_aload_n X dX11_threads_12 0 rfl ?_
    refine k_iconst (v := 1) X dX11_threads_13 (by decide) ?_
    refine k_callVI (n := 1) (As := [.int 1]) (st := []) X [(h0, .inr (11, [.int m_thrown2_1, .ref a_tape, .int m_taped, .int m_size, .int m_at, .int m_end, .int m_token, .int m_whole, .int m_nameSize, .int m_fault, .int m_place, .int m_trouble2_2, .ref a_letters, .int m_failed, .int m_hasHouse, .ref a_r, .ref a_fresh, .ref a_st, .ref a_undone, .ref a_kept, .int m_undos, .int m_images, .ref a_from, .ref a_begin, .ref a_motor, .ref a_change, .ref a_startFrame, .ref a_changeFrame, .ref a_lostAt, .ref a_blackAt, .ref a_slips, .ref a_leftArc, .ref a_died, .ref a_arcs, .int m_bestSum, .int m_nearest, .int m_nearestTown, .ref a_there, .ref a_backAt, .ref a_sorted, .ref a_parts, .int m_seed1, .int m_darkNow]))] [(a_st, .inl (g.2.2.1, 44, .inl d_st)), (a_undone, .inl (g.2.2.1, 528, .inl d_undone)), (a_r, .inl (g.2.2.1, 311, .inl d_r))] [2] [0, 1, 3] (m_isNotF l g h0 1 m_thrown2_1 a_tape m_taped m_size m_at m_end m_token m_whole m_nameSize m_fault m_place m_trouble2_2 a_letters m_failed m_hasHouse a_r a_fresh a_st a_undone a_kept m_undos m_images a_from a_begin a_motor a_change a_startFrame a_changeFrame a_lostAt a_blackAt a_slips a_leftArc a_died a_arcs m_bestSum m_nearest m_nearestTown a_there a_backAt a_sorted a_parts m_seed1 m_darkNow (by decide)) dX11_threads_14 mw1471 mw1472 mw1473 mw5 mw1474 rfl 11 rfl rfl 0 _ rfl (by unfold yOk; decide) rfl (Nat.le_of_ble_eq_true rfl) (Nat.le_of_ble_eq_true rfl) (Nat.le_of_ble_eq_true rfl) (Nat.le_of_ble_eq_true rfl) (Nat.le_of_ble_eq_true rfl) rfl rfl (by decide) rfl (by decide) (by decide) ?_
    rintro r_48 w ⟨m_trouble2_47, iv_49, hq_50, rfl⟩
    refine k_ws [(a_st, .inl (g.2.2.1, 44, .inl d_st)), (a_undone, .inl (g.2.2.1, 528, .inl d_undone)), (a_r, .inl (g.2.2.1, 311, .inl d_r)), (h0, .inr (11, [.int m_thrown2_1, .ref a_tape, .int m_taped, .int m_size, .int m_at, .int m_end, .int m_token, .int m_whole, .int m_nameSize, .int m_fault, .int m_place, .int m_trouble2_47, .ref a_letters, .int m_failed, .int m_hasHouse, .ref a_r, .ref a_fresh, .ref a_st, .ref a_undone, .ref a_kept, .int m_undos, .int m_images, .ref a_from, .ref a_begin, .ref a_motor, .ref a_change, .ref a_startFrame, .ref a_changeFrame, .ref a_lostAt, .ref a_blackAt, .ref a_slips, .ref a_leftArc, .ref a_died, .ref a_arcs, .int m_bestSum, .int m_nearest, .int m_nearestTown, .ref a_there, .ref a_backAt, .ref a_sorted, .ref a_parts, .int m_seed1, .int m_darkNow]))] rfl ?_
    exact k_zret X hr (zn_b (iv_w iv_49 (by decide) (by decide))) dX11_threads_17 (Nat.le_of_ble_eq_true rfl) (Nat.le_of_ble_eq_true rfl) [3, 2, 0, 1] (by decide) rfl rfl ⟨d_st, m_thrown2_1, m_trouble2_47, d_undone, m_undos, (iv_w hv_m_undos (by decide) (by decide)), (iv_w iv_49 (by decide) (by decide)), (by assumption), rfl⟩

theorem dX11_trim_0 : decode cX11_trim 0 = .ok (.aload_n 0, 1) := by decide +kernel
theorem dX11_trim_1 : decode cX11_trim 1 = .ok (.invokevirtual 200, 3) := by decide +kernel
theorem dX11_trim_4 : decode cX11_trim 4 = .ok (.aload_n 0, 1) := by decide +kernel
theorem dX11_trim_5 : decode cX11_trim 5 = .ok (.iload_n 1, 1) := by decide +kernel
theorem dX11_trim_6 : decode cX11_trim 6 = .ok (.invokevirtual 345, 3) := by decide +kernel
theorem dX11_trim_9 : decode cX11_trim 9 = .ok (.ifCond .ne 9, 3) := by decide +kernel
theorem dX11_trim_12 : decode cX11_trim 12 = .ok (.aload_n 0, 1) := by decide +kernel
theorem dX11_trim_13 : decode cX11_trim 13 = .ok (.iconst 1, 1) := by decide +kernel
theorem dX11_trim_14 : decode cX11_trim 14 = .ok (.invokevirtual 473, 3) := by decide +kernel
theorem dX11_trim_17 : decode cX11_trim 17 = .ok (.ireturn, 1) := by decide +kernel
theorem dX11_trim_18 : decode cX11_trim 18 = .ok (.aload_n 0, 1) := by decide +kernel
theorem dX11_trim_19 : decode cX11_trim 19 = .ok (.getfield 26, 3) := by decide +kernel
theorem dX11_trim_22 : decode cX11_trim 22 = .ok (.bipush 42, 2) := by decide +kernel
theorem dX11_trim_24 : decode cX11_trim 24 = .ok (.iaload, 1) := by decide +kernel
theorem dX11_trim_25 : decode cX11_trim 25 = .ok (.iload_n 1, 1) := by decide +kernel
theorem dX11_trim_26 : decode cX11_trim 26 = .ok (.invokestatic 320, 3) := by decide +kernel
theorem dX11_trim_29 : decode cX11_trim 29 = .ok (.iload_n 2, 1) := by decide +kernel
theorem dX11_trim_30 : decode cX11_trim 30 = .ok (.if_icmp .ne 9, 3) := by decide +kernel
theorem dX11_trim_33 : decode cX11_trim 33 = .ok (.aload_n 0, 1) := by decide +kernel
theorem dX11_trim_34 : decode cX11_trim 34 = .ok (.iconst 5, 1) := by decide +kernel
theorem dX11_trim_35 : decode cX11_trim 35 = .ok (.invokevirtual 473, 3) := by decide +kernel
theorem dX11_trim_38 : decode cX11_trim 38 = .ok (.ireturn, 1) := by decide +kernel
theorem dX11_trim_39 : decode cX11_trim 39 = .ok (.aload_n 0, 1) := by decide +kernel
theorem dX11_trim_40 : decode cX11_trim 40 = .ok (.invokevirtual 476, 3) := by decide +kernel
theorem dX11_trim_43 : decode cX11_trim 43 = .ok (.aload_n 0, 1) := by decide +kernel
theorem dX11_trim_44 : decode cX11_trim 44 = .ok (.getfield 26, 3) := by decide +kernel
theorem dX11_trim_47 : decode cX11_trim 47 = .ok (.bipush 42, 2) := by decide +kernel
theorem dX11_trim_49 : decode cX11_trim 49 = .ok (.dup2, 1) := by decide +kernel
theorem dX11_trim_50 : decode cX11_trim 50 = .ok (.iaload, 1) := by decide +kernel
theorem dX11_trim_51 : decode cX11_trim 51 = .ok (.iconst 1, 1) := by decide +kernel
theorem dX11_trim_52 : decode cX11_trim 52 = .ok (.iload_n 1, 1) := by decide +kernel
theorem dX11_trim_53 : decode cX11_trim 53 = .ok (.ishl, 1) := by decide +kernel
theorem dX11_trim_54 : decode cX11_trim 54 = .ok (.ixor, 1) := by decide +kernel
theorem dX11_trim_55 : decode cX11_trim 55 = .ok (.iastore, 1) := by decide +kernel
theorem dX11_trim_56 : decode cX11_trim 56 = .ok (.iconst 1, 1) := by decide +kernel
theorem dX11_trim_57 : decode cX11_trim 57 = .ok (.ireturn, 1) := by decide +kernel
set_option maxHeartbeats 4000000 in
set_option maxRecDepth 100000 in
theorem m_trim (l : Launch) (g : Gx) (h0 : Nat) (p0 : Int32) (p1 : Int32) (m_thrown : Int32) (a_tape : Nat) (m_taped : Int32) (m_size : Int32) (m_at : Int32) (m_end : Int32) (m_token : Int32) (m_whole : Int32) (m_nameSize : Int32) (m_fault : Int32) (m_place : Int32) (m_trouble : Int32) (a_letters : Nat) (m_failed : Int32) (m_hasHouse : Int32) (a_r : Nat) (a_fresh : Nat) (a_st : Nat) (a_undone : Nat) (a_kept : Nat) (m_undos : Int32) (m_images : Int32) (a_from : Nat) (a_begin : Nat) (a_motor : Nat) (a_change : Nat) (a_startFrame : Nat) (a_changeFrame : Nat) (a_lostAt : Nat) (a_blackAt : Nat) (a_slips : Nat) (a_leftArc : Nat) (a_died : Nat) (a_arcs : Nat) (m_bestSum : Int32) (m_nearest : Int32) (m_nearestTown : Int32) (a_there : Nat) (a_backAt : Nat) (a_sorted : Nat) (a_parts : Nat) (m_seed1 : Int32) (m_darkNow : Int32) (d_r : Nat → Int32) (d_st : Nat → Int32) (d_undone : Nat → Int32) (hv_m_hasHouse : IV m_hasHouse 0 1) (hv_m_undos : IV m_undos 0 12) (hp_d_r : RInv d_r) : cI l g yX11_trim cX11_trim 3 (some .boolean) 2 46 0 0 [.ref h0, .int p0, .int p1] [(h0, .inr (11, [.int m_thrown, .ref a_tape, .int m_taped, .int m_size, .int m_at, .int m_end, .int m_token, .int m_whole, .int m_nameSize, .int m_fault, .int m_place, .int m_trouble, .ref a_letters, .int m_failed, .int m_hasHouse, .ref a_r, .ref a_fresh, .ref a_st, .ref a_undone, .ref a_kept, .int m_undos, .int m_images, .ref a_from, .ref a_begin, .ref a_motor, .ref a_change, .ref a_startFrame, .ref a_changeFrame, .ref a_lostAt, .ref a_blackAt, .ref a_slips, .ref a_leftArc, .ref a_died, .ref a_arcs, .int m_bestSum, .int m_nearest, .int m_nearestTown, .ref a_there, .ref a_backAt, .ref a_sorted, .ref a_parts, .int m_seed1, .int m_darkNow])), (a_r, .inl (g.2.2.1, 311, .inl d_r)), (a_st, .inl (g.2.2.1, 44, .inl d_st)), (a_undone, .inl (g.2.2.1, 528, .inl d_undone))] (fun r w => ∃ (d_st2 : Nat → Int32) (m_thrown2 : Int32) (m_trouble2 : Int32) (d_undone2 : Nat → Int32) (m_undos2 : Int32), IV m_undos2 0 12 ∧ IV r 0 1 ∧ (m_trouble2 ≠ 4) ∧ w = [(h0, .inr (11, [.int m_thrown2, .ref a_tape, .int m_taped, .int m_size, .int m_at, .int m_end, .int m_token, .int m_whole, .int m_nameSize, .int m_fault, .int m_place, .int m_trouble2, .ref a_letters, .int m_failed, .int m_hasHouse, .ref a_r, .ref a_fresh, .ref a_st, .ref a_undone, .ref a_kept, .int m_undos2, .int m_images, .ref a_from, .ref a_begin, .ref a_motor, .ref a_change, .ref a_startFrame, .ref a_changeFrame, .ref a_lostAt, .ref a_blackAt, .ref a_slips, .ref a_leftArc, .ref a_died, .ref a_arcs, .int m_bestSum, .int m_nearest, .int m_nearestTown, .ref a_there, .ref a_backAt, .ref a_sorted, .ref a_parts, .int m_seed1, .int m_darkNow])), (a_r, .inl (g.2.2.1, 311, .inl d_r)), (a_st, .inl (g.2.2.1, 44, .inl d_st2)), (a_undone, .inl (g.2.2.1, 528, .inl d_undone2))]) := by
  refine cI.of (by decide) (Nat.le_of_ble_eq_true rfl) ?_
  intro p e s m args below meth c A X hr hi
  refine k_lveq [(0, .ref h0), (1, .int p0), (2, .int p1)] rfl ?_
  refine k_aload_n X dX11_trim_0 0 rfl ?_
  refine k_callVV (n := 0) (As := []) (st := []) X [(h0, .inr (11, [.int m_thrown, .ref a_tape, .int m_taped, .int m_size, .int m_at, .int m_end, .int m_token, .int m_whole, .int m_nameSize, .int m_fault, .int m_place, .int m_trouble, .ref a_letters, .int m_failed, .int m_hasHouse, .ref a_r, .ref a_fresh, .ref a_st, .ref a_undone, .ref a_kept, .int m_undos, .int m_images, .ref a_from, .ref a_begin, .ref a_motor, .ref a_change, .ref a_startFrame, .ref a_changeFrame, .ref a_lostAt, .ref a_blackAt, .ref a_slips, .ref a_leftArc, .ref a_died, .ref a_arcs, .int m_bestSum, .int m_nearest, .int m_nearestTown, .ref a_there, .ref a_backAt, .ref a_sorted, .ref a_parts, .int m_seed1, .int m_darkNow]))] [(a_r, .inl (g.2.2.1, 311, .inl d_r)), (a_st, .inl (g.2.2.1, 44, .inl d_st)), (a_undone, .inl (g.2.2.1, 528, .inl d_undone))] [0] [1, 2, 3] (m_good l g h0 m_thrown a_tape m_taped m_size m_at m_end m_token m_whole m_nameSize m_fault m_place m_trouble a_letters m_failed m_hasHouse a_r a_fresh a_st a_undone a_kept m_undos m_images a_from a_begin a_motor a_change a_startFrame a_changeFrame a_lostAt a_blackAt a_slips a_leftArc a_died a_arcs m_bestSum m_nearest m_nearestTown a_there a_backAt a_sorted a_parts m_seed1 m_darkNow) dX11_trim_1 mw477 mw478 mw479 mw5 mw480 rfl 11 rfl rfl 0 _ rfl (by unfold yOk; decide) rfl (Nat.le_of_ble_eq_true rfl) (Nat.le_of_ble_eq_true rfl) (Nat.le_of_ble_eq_true rfl) (Nat.le_of_ble_eq_true rfl) (Nat.le_of_ble_eq_true rfl) rfl rfl (by decide) rfl (by decide) (by decide) ?_
  rintro w ⟨m_thrown2_1, m_trouble2_2, hq_4, rfl⟩
  refine k_ws [(a_r, .inl (g.2.2.1, 311, .inl d_r)), (a_st, .inl (g.2.2.1, 44, .inl d_st)), (a_undone, .inl (g.2.2.1, 528, .inl d_undone)), (h0, .inr (11, [.int m_thrown2_1, .ref a_tape, .int m_taped, .int m_size, .int m_at, .int m_end, .int m_token, .int m_whole, .int m_nameSize, .int m_fault, .int m_place, .int m_trouble2_2, .ref a_letters, .int m_failed, .int m_hasHouse, .ref a_r, .ref a_fresh, .ref a_st, .ref a_undone, .ref a_kept, .int m_undos, .int m_images, .ref a_from, .ref a_begin, .ref a_motor, .ref a_change, .ref a_startFrame, .ref a_changeFrame, .ref a_lostAt, .ref a_blackAt, .ref a_slips, .ref a_leftArc, .ref a_died, .ref a_arcs, .int m_bestSum, .int m_nearest, .int m_nearestTown, .ref a_there, .ref a_backAt, .ref a_sorted, .ref a_parts, .int m_seed1, .int m_darkNow]))] rfl ?_
  refine k_aload_n X dX11_trim_4 0 rfl ?_
  refine k_iload_n X dX11_trim_5 1 rfl ?_
  refine k_callVI (n := 1) (As := [.int p0]) (st := []) X [(h0, .inr (11, [.int m_thrown2_1, .ref a_tape, .int m_taped, .int m_size, .int m_at, .int m_end, .int m_token, .int m_whole, .int m_nameSize, .int m_fault, .int m_place, .int m_trouble2_2, .ref a_letters, .int m_failed, .int m_hasHouse, .ref a_r, .ref a_fresh, .ref a_st, .ref a_undone, .ref a_kept, .int m_undos, .int m_images, .ref a_from, .ref a_begin, .ref a_motor, .ref a_change, .ref a_startFrame, .ref a_changeFrame, .ref a_lostAt, .ref a_blackAt, .ref a_slips, .ref a_leftArc, .ref a_died, .ref a_arcs, .int m_bestSum, .int m_nearest, .int m_nearestTown, .ref a_there, .ref a_backAt, .ref a_sorted, .ref a_parts, .int m_seed1, .int m_darkNow])), (a_r, .inl (g.2.2.1, 311, .inl d_r))] [(a_st, .inl (g.2.2.1, 44, .inl d_st)), (a_undone, .inl (g.2.2.1, 528, .inl d_undone))] [3, 0] [1, 2] (m_isPlace l g h0 p0 m_thrown2_1 a_tape m_taped m_size m_at m_end m_token m_whole m_nameSize m_fault m_place m_trouble2_2 a_letters m_failed m_hasHouse a_r a_fresh a_st a_undone a_kept m_undos m_images a_from a_begin a_motor a_change a_startFrame a_changeFrame a_lostAt a_blackAt a_slips a_leftArc a_died a_arcs m_bestSum m_nearest m_nearestTown a_there a_backAt a_sorted a_parts m_seed1 m_darkNow d_r (iv_w hv_m_hasHouse (by decide) (by decide)) hp_d_r) dX11_trim_6 mw719 mw720 mw721 mw5 mw722 rfl 11 rfl rfl 0 _ rfl (by unfold yOk; decide) rfl (Nat.le_of_ble_eq_true rfl) (Nat.le_of_ble_eq_true rfl) (Nat.le_of_ble_eq_true rfl) (Nat.le_of_ble_eq_true rfl) (Nat.le_of_ble_eq_true rfl) rfl rfl (by decide) rfl (by decide) (by decide) ?_
  rintro r_5 w ⟨iv_6, hk_7, rfl⟩
  refine k_ws [(a_st, .inl (g.2.2.1, 44, .inl d_st)), (a_undone, .inl (g.2.2.1, 528, .inl d_undone)), (h0, .inr (11, [.int m_thrown2_1, .ref a_tape, .int m_taped, .int m_size, .int m_at, .int m_end, .int m_token, .int m_whole, .int m_nameSize, .int m_fault, .int m_place, .int m_trouble2_2, .ref a_letters, .int m_failed, .int m_hasHouse, .ref a_r, .ref a_fresh, .ref a_st, .ref a_undone, .ref a_kept, .int m_undos, .int m_images, .ref a_from, .ref a_begin, .ref a_motor, .ref a_change, .ref a_startFrame, .ref a_changeFrame, .ref a_lostAt, .ref a_blackAt, .ref a_slips, .ref a_leftArc, .ref a_died, .ref a_arcs, .int m_bestSum, .int m_nearest, .int m_nearestTown, .ref a_there, .ref a_backAt, .ref a_sorted, .ref a_parts, .int m_seed1, .int m_darkNow])), (a_r, .inl (g.2.2.1, 311, .inl d_r))] rfl ?_
  refine k_if_ne 18 X dX11_trim_9 (by decide) (fun h_8 => ?_) (fun h_8 => ?_)
  · skip
    have hc_9 := hk_7.resolve_left h_8
    have iv_10 : IV p0 0 7 := iv_meet (iv_any p0) hc_9.1 (by decide) (by decide)
    have j_11 : p0.toInt < (d_r 12).toInt := hc_9.2
    have iv_12 : IV r_5 1 1 := iv_neL h_8 iv_6 (show IV 0 0 0 from (by decide)) (by decide)
    refine k_aload_n X dX11_trim_18 0 rfl ?_
    refine k_get (ci := 11) X inlX11 rfl 17 (by decide) dX11_trim_19 mw172 2 rfl rfl ?_
    refine k_bipush (v := 42) X dX11_trim_22 (by decide) ?_
    refine k_iald X dX11_trim_24 0 rfl (by unfold vp_in; decide) ?_
    refine k_nm (fun z_13 ez_13 => ?_)
    refine k_iload_n X dX11_trim_25 1 rfl ?_
    refine k_callSI (n := 2) (As := [.int z_13, .int p0]) (st := []) X [] [(a_st, .inl (g.2.2.1, 44, .inl d_st)), (a_undone, .inl (g.2.2.1, 528, .inl d_undone)), (h0, .inr (11, [.int m_thrown2_1, .ref a_tape, .int m_taped, .int m_size, .int m_at, .int m_end, .int m_token, .int m_whole, .int m_nameSize, .int m_fault, .int m_place, .int m_trouble2_2, .ref a_letters, .int m_failed, .int m_hasHouse, .ref a_r, .ref a_fresh, .ref a_st, .ref a_undone, .ref a_kept, .int m_undos, .int m_images, .ref a_from, .ref a_begin, .ref a_motor, .ref a_change, .ref a_startFrame, .ref a_changeFrame, .ref a_lostAt, .ref a_blackAt, .ref a_slips, .ref a_leftArc, .ref a_died, .ref a_arcs, .int m_bestSum, .int m_nearest, .int m_nearestTown, .ref a_there, .ref a_backAt, .ref a_sorted, .ref a_parts, .int m_seed1, .int m_darkNow])), (a_r, .inl (g.2.2.1, 311, .inl d_r))] [] [0, 1, 2, 3] (m_hasBit l g z_13 p0) dX11_trim_26 mw686 mw687 mw5 mw688 (by unfold yOk; decide) rfl (Nat.le_of_ble_eq_true rfl) (Nat.le_of_ble_eq_true rfl) (Nat.le_of_ble_eq_true rfl) (Nat.le_of_ble_eq_true rfl) (Nat.le_of_ble_eq_true rfl) rfl rfl (by decide) rfl (by decide) (by decide) ?_
    rintro r_14 w ⟨iv_15, rfl⟩
    refine k_ws [(a_st, .inl (g.2.2.1, 44, .inl d_st)), (a_undone, .inl (g.2.2.1, 528, .inl d_undone)), (h0, .inr (11, [.int m_thrown2_1, .ref a_tape, .int m_taped, .int m_size, .int m_at, .int m_end, .int m_token, .int m_whole, .int m_nameSize, .int m_fault, .int m_place, .int m_trouble2_2, .ref a_letters, .int m_failed, .int m_hasHouse, .ref a_r, .ref a_fresh, .ref a_st, .ref a_undone, .ref a_kept, .int m_undos, .int m_images, .ref a_from, .ref a_begin, .ref a_motor, .ref a_change, .ref a_startFrame, .ref a_changeFrame, .ref a_lostAt, .ref a_blackAt, .ref a_slips, .ref a_leftArc, .ref a_died, .ref a_arcs, .int m_bestSum, .int m_nearest, .int m_nearestTown, .ref a_there, .ref a_backAt, .ref a_sorted, .ref a_parts, .int m_seed1, .int m_darkNow])), (a_r, .inl (g.2.2.1, 311, .inl d_r))] rfl ?_
    refine k_iload_n X dX11_trim_29 2 rfl ?_
    refine k_ic_ne 39 X dX11_trim_30 (by decide) (fun h_16 => ?_) (fun h_16 => ?_)
    · skip
      refine k_aload_n X dX11_trim_39 0 rfl ?_
      refine k_callVV (n := 0) (As := []) (st := []) X [(h0, .inr (11, [.int m_thrown2_1, .ref a_tape, .int m_taped, .int m_size, .int m_at, .int m_end, .int m_token, .int m_whole, .int m_nameSize, .int m_fault, .int m_place, .int m_trouble2_2, .ref a_letters, .int m_failed, .int m_hasHouse, .ref a_r, .ref a_fresh, .ref a_st, .ref a_undone, .ref a_kept, .int m_undos, .int m_images, .ref a_from, .ref a_begin, .ref a_motor, .ref a_change, .ref a_startFrame, .ref a_changeFrame, .ref a_lostAt, .ref a_blackAt, .ref a_slips, .ref a_leftArc, .ref a_died, .ref a_arcs, .int m_bestSum, .int m_nearest, .int m_nearestTown, .ref a_there, .ref a_backAt, .ref a_sorted, .ref a_parts, .int m_seed1, .int m_darkNow])), (a_st, .inl (g.2.2.1, 44, .inl d_st)), (a_undone, .inl (g.2.2.1, 528, .inl d_undone))] [(a_r, .inl (g.2.2.1, 311, .inl d_r))] [2, 0, 1] [3] (m_note l g h0 m_thrown2_1 a_tape m_taped m_size m_at m_end m_token m_whole m_nameSize m_fault m_place m_trouble2_2 a_letters m_failed m_hasHouse a_r a_fresh a_st a_undone a_kept m_undos m_images a_from a_begin a_motor a_change a_startFrame a_changeFrame a_lostAt a_blackAt a_slips a_leftArc a_died a_arcs m_bestSum m_nearest m_nearestTown a_there a_backAt a_sorted a_parts m_seed1 m_darkNow d_st d_undone (iv_w hv_m_undos (by decide) (by decide))) dX11_trim_40 mw1475 mw1476 mw1477 mw5 mw1478 rfl 11 rfl rfl 0 _ rfl (by unfold yOk; decide) rfl (Nat.le_of_ble_eq_true rfl) (Nat.le_of_ble_eq_true rfl) (Nat.le_of_ble_eq_true rfl) (Nat.le_of_ble_eq_true rfl) (Nat.le_of_ble_eq_true rfl) rfl rfl (by decide) rfl (by decide) (by decide) ?_
      rintro w ⟨d_undone2_17, m_undos2_18, iv_20, rfl⟩
      refine k_ws [(a_r, .inl (g.2.2.1, 311, .inl d_r)), (h0, .inr (11, [.int m_thrown2_1, .ref a_tape, .int m_taped, .int m_size, .int m_at, .int m_end, .int m_token, .int m_whole, .int m_nameSize, .int m_fault, .int m_place, .int m_trouble2_2, .ref a_letters, .int m_failed, .int m_hasHouse, .ref a_r, .ref a_fresh, .ref a_st, .ref a_undone, .ref a_kept, .int m_undos2_18, .int m_images, .ref a_from, .ref a_begin, .ref a_motor, .ref a_change, .ref a_startFrame, .ref a_changeFrame, .ref a_lostAt, .ref a_blackAt, .ref a_slips, .ref a_leftArc, .ref a_died, .ref a_arcs, .int m_bestSum, .int m_nearest, .int m_nearestTown, .ref a_there, .ref a_backAt, .ref a_sorted, .ref a_parts, .int m_seed1, .int m_darkNow])), (a_st, .inl (g.2.2.1, 44, .inl d_st)), (a_undone, .inl (g.2.2.1, 528, .inl d_undone2_17))] rfl ?_
      refine k_aload_n X dX11_trim_43 0 rfl ?_
      refine k_get (ci := 11) X inlX11 rfl 17 (by decide) dX11_trim_44 mw172 1 rfl rfl ?_
      refine k_bipush (v := 42) X dX11_trim_47 (by decide) ?_
      refine k_dup2 X dX11_trim_49 rfl rfl ?_
      refine k_iald X dX11_trim_50 2 rfl (by unfold vp_in; decide) ?_
      refine k_to z_13 ez_13.symm ?_
      refine k_iconst (v := 1) X dX11_trim_51 (by decide) ?_
      refine k_iload_n X dX11_trim_52 1 rfl ?_
      refine k_ishl X dX11_trim_53 ?_
      refine k_nm (fun z_21 ez_21 => ?_)
      have iv_22 : IV z_21 1 256 := iv_shl ez_21 (iv_w iv_10 (by decide) (by decide))
      refine k_ixor X dX11_trim_54 ?_
      refine k_nm (fun z_23 ez_23 => ?_)
      refine k_iast [(a_r, .inl (g.2.2.1, 311, .inl d_r)), (h0, .inr (11, [.int m_thrown2_1, .ref a_tape, .int m_taped, .int m_size, .int m_at, .int m_end, .int m_token, .int m_whole, .int m_nameSize, .int m_fault, .int m_place, .int m_trouble2_2, .ref a_letters, .int m_failed, .int m_hasHouse, .ref a_r, .ref a_fresh, .ref a_st, .ref a_undone, .ref a_kept, .int m_undos2_18, .int m_images, .ref a_from, .ref a_begin, .ref a_motor, .ref a_change, .ref a_startFrame, .ref a_changeFrame, .ref a_lostAt, .ref a_blackAt, .ref a_slips, .ref a_leftArc, .ref a_died, .ref a_arcs, .int m_bestSum, .int m_nearest, .int m_nearestTown, .ref a_there, .ref a_backAt, .ref a_sorted, .ref a_parts, .int m_seed1, .int m_darkNow])), (a_st, .inl (g.2.2.1, 44, .inl (upd d_st (42 : Int32).toNatClampNeg z_23))), (a_undone, .inl (g.2.2.1, 528, .inl d_undone2_17))] X dX11_trim_55 2 rfl (by unfold vp_in; decide) rfl ?_
      refine (fun hg : ∀ fa_24 : Nat → Int32, Wk p l e _ s m args below meth c _ A g _ _ _ [(a_r, .inl (g.2.2.1, 311, .inl d_r)), (h0, .inr (11, [.int m_thrown2_1, .ref a_tape, .int m_taped, .int m_size, .int m_at, .int m_end, .int m_token, .int m_whole, .int m_nameSize, .int m_fault, .int m_place, .int m_trouble2_2, .ref a_letters, .int m_failed, .int m_hasHouse, .ref a_r, .ref a_fresh, .ref a_st, .ref a_undone, .ref a_kept, .int m_undos2_18, .int m_images, .ref a_from, .ref a_begin, .ref a_motor, .ref a_change, .ref a_startFrame, .ref a_changeFrame, .ref a_lostAt, .ref a_blackAt, .ref a_slips, .ref a_leftArc, .ref a_died, .ref a_arcs, .int m_bestSum, .int m_nearest, .int m_nearestTown, .ref a_there, .ref a_backAt, .ref a_sorted, .ref a_parts, .int m_seed1, .int m_darkNow])), (a_st, .inl (g.2.2.1, 44, .inl fa_24)), (a_undone, .inl (g.2.2.1, 528, .inl d_undone2_17))] _ _ _ => hg _) (fun fa_24 => ?_)
      refine k_iconst (v := 1) X dX11_trim_56 (by decide) ?_
      exact k_zret X hr (by first | rfl | decide) dX11_trim_57 (Nat.le_of_ble_eq_true rfl) (Nat.le_of_ble_eq_true rfl) [1, 0, 2, 3] (by decide) rfl rfl ⟨fa_24, m_thrown2_1, m_trouble2_2, d_undone2_17, m_undos2_18, (iv_w iv_20 (by decide) (by decide)), (iv_w (show IV 1 1 1 from (by decide)) (by decide) (by decide)), (by assumption), rfl⟩
    · skip
      have iv_25 : IV p1 0 1 := iv_meet (iv_any p1) (iv_e h_16.symm iv_15) (by decide) (by decide)
      refine k_aload_n X dX11_trim_33 0 rfl ?_
      refine k_iconst (v := 5) X dX11_trim_34 (by decide) ?_
      refine k_callVI (n := 1) (As := [.int 5]) (st := []) X [(h0, .inr (11, [.int m_thrown2_1, .ref a_tape, .int m_taped, .int m_size, .int m_at, .int m_end, .int m_token, .int m_whole, .int m_nameSize, .int m_fault, .int m_place, .int m_trouble2_2, .ref a_letters, .int m_failed, .int m_hasHouse, .ref a_r, .ref a_fresh, .ref a_st, .ref a_undone, .ref a_kept, .int m_undos, .int m_images, .ref a_from, .ref a_begin, .ref a_motor, .ref a_change, .ref a_startFrame, .ref a_changeFrame, .ref a_lostAt, .ref a_blackAt, .ref a_slips, .ref a_leftArc, .ref a_died, .ref a_arcs, .int m_bestSum, .int m_nearest, .int m_nearestTown, .ref a_there, .ref a_backAt, .ref a_sorted, .ref a_parts, .int m_seed1, .int m_darkNow]))] [(a_st, .inl (g.2.2.1, 44, .inl d_st)), (a_undone, .inl (g.2.2.1, 528, .inl d_undone)), (a_r, .inl (g.2.2.1, 311, .inl d_r))] [2] [0, 1, 3] (m_isNotF l g h0 5 m_thrown2_1 a_tape m_taped m_size m_at m_end m_token m_whole m_nameSize m_fault m_place m_trouble2_2 a_letters m_failed m_hasHouse a_r a_fresh a_st a_undone a_kept m_undos m_images a_from a_begin a_motor a_change a_startFrame a_changeFrame a_lostAt a_blackAt a_slips a_leftArc a_died a_arcs m_bestSum m_nearest m_nearestTown a_there a_backAt a_sorted a_parts m_seed1 m_darkNow (by decide)) dX11_trim_35 mw1471 mw1472 mw1473 mw5 mw1474 rfl 11 rfl rfl 0 _ rfl (by unfold yOk; decide) rfl (Nat.le_of_ble_eq_true rfl) (Nat.le_of_ble_eq_true rfl) (Nat.le_of_ble_eq_true rfl) (Nat.le_of_ble_eq_true rfl) (Nat.le_of_ble_eq_true rfl) rfl rfl (by decide) rfl (by decide) (by decide) ?_
      rintro r_27 w ⟨m_trouble2_26, iv_28, hq_29, rfl⟩
      refine k_ws [(a_st, .inl (g.2.2.1, 44, .inl d_st)), (a_undone, .inl (g.2.2.1, 528, .inl d_undone)), (a_r, .inl (g.2.2.1, 311, .inl d_r)), (h0, .inr (11, [.int m_thrown2_1, .ref a_tape, .int m_taped, .int m_size, .int m_at, .int m_end, .int m_token, .int m_whole, .int m_nameSize, .int m_fault, .int m_place, .int m_trouble2_26, .ref a_letters, .int m_failed, .int m_hasHouse, .ref a_r, .ref a_fresh, .ref a_st, .ref a_undone, .ref a_kept, .int m_undos, .int m_images, .ref a_from, .ref a_begin, .ref a_motor, .ref a_change, .ref a_startFrame, .ref a_changeFrame, .ref a_lostAt, .ref a_blackAt, .ref a_slips, .ref a_leftArc, .ref a_died, .ref a_arcs, .int m_bestSum, .int m_nearest, .int m_nearestTown, .ref a_there, .ref a_backAt, .ref a_sorted, .ref a_parts, .int m_seed1, .int m_darkNow]))] rfl ?_
      exact k_zret X hr (zn_b (iv_w iv_28 (by decide) (by decide))) dX11_trim_38 (Nat.le_of_ble_eq_true rfl) (Nat.le_of_ble_eq_true rfl) [3, 2, 0, 1] (by decide) rfl rfl ⟨d_st, m_thrown2_1, m_trouble2_26, d_undone, m_undos, (iv_w hv_m_undos (by decide) (by decide)), (iv_w iv_28 (by decide) (by decide)), (by assumption), rfl⟩
  · skip
    have iv_30 : IV r_5 0 0 := iv_meet iv_6 (iv_e h_8 (show IV 0 0 0 from (by decide))) (by decide) (by decide)
    refine k_aload_n X dX11_trim_12 0 rfl ?_
    refine k_iconst (v := 1) X dX11_trim_13 (by decide) ?_
    refine k_callVI (n := 1) (As := [.int 1]) (st := []) X [(h0, .inr (11, [.int m_thrown2_1, .ref a_tape, .int m_taped, .int m_size, .int m_at, .int m_end, .int m_token, .int m_whole, .int m_nameSize, .int m_fault, .int m_place, .int m_trouble2_2, .ref a_letters, .int m_failed, .int m_hasHouse, .ref a_r, .ref a_fresh, .ref a_st, .ref a_undone, .ref a_kept, .int m_undos, .int m_images, .ref a_from, .ref a_begin, .ref a_motor, .ref a_change, .ref a_startFrame, .ref a_changeFrame, .ref a_lostAt, .ref a_blackAt, .ref a_slips, .ref a_leftArc, .ref a_died, .ref a_arcs, .int m_bestSum, .int m_nearest, .int m_nearestTown, .ref a_there, .ref a_backAt, .ref a_sorted, .ref a_parts, .int m_seed1, .int m_darkNow]))] [(a_st, .inl (g.2.2.1, 44, .inl d_st)), (a_undone, .inl (g.2.2.1, 528, .inl d_undone)), (a_r, .inl (g.2.2.1, 311, .inl d_r))] [2] [0, 1, 3] (m_isNotF l g h0 1 m_thrown2_1 a_tape m_taped m_size m_at m_end m_token m_whole m_nameSize m_fault m_place m_trouble2_2 a_letters m_failed m_hasHouse a_r a_fresh a_st a_undone a_kept m_undos m_images a_from a_begin a_motor a_change a_startFrame a_changeFrame a_lostAt a_blackAt a_slips a_leftArc a_died a_arcs m_bestSum m_nearest m_nearestTown a_there a_backAt a_sorted a_parts m_seed1 m_darkNow (by decide)) dX11_trim_14 mw1471 mw1472 mw1473 mw5 mw1474 rfl 11 rfl rfl 0 _ rfl (by unfold yOk; decide) rfl (Nat.le_of_ble_eq_true rfl) (Nat.le_of_ble_eq_true rfl) (Nat.le_of_ble_eq_true rfl) (Nat.le_of_ble_eq_true rfl) (Nat.le_of_ble_eq_true rfl) rfl rfl (by decide) rfl (by decide) (by decide) ?_
    rintro r_32 w ⟨m_trouble2_31, iv_33, hq_34, rfl⟩
    refine k_ws [(a_st, .inl (g.2.2.1, 44, .inl d_st)), (a_undone, .inl (g.2.2.1, 528, .inl d_undone)), (a_r, .inl (g.2.2.1, 311, .inl d_r)), (h0, .inr (11, [.int m_thrown2_1, .ref a_tape, .int m_taped, .int m_size, .int m_at, .int m_end, .int m_token, .int m_whole, .int m_nameSize, .int m_fault, .int m_place, .int m_trouble2_31, .ref a_letters, .int m_failed, .int m_hasHouse, .ref a_r, .ref a_fresh, .ref a_st, .ref a_undone, .ref a_kept, .int m_undos, .int m_images, .ref a_from, .ref a_begin, .ref a_motor, .ref a_change, .ref a_startFrame, .ref a_changeFrame, .ref a_lostAt, .ref a_blackAt, .ref a_slips, .ref a_leftArc, .ref a_died, .ref a_arcs, .int m_bestSum, .int m_nearest, .int m_nearestTown, .ref a_there, .ref a_backAt, .ref a_sorted, .ref a_parts, .int m_seed1, .int m_darkNow]))] rfl ?_
    exact k_zret X hr (zn_b (iv_w iv_33 (by decide) (by decide))) dX11_trim_17 (Nat.le_of_ble_eq_true rfl) (Nat.le_of_ble_eq_true rfl) [3, 2, 0, 1] (by decide) rfl rfl ⟨d_st, m_thrown2_1, m_trouble2_31, d_undone, m_undos, (iv_w hv_m_undos (by decide) (by decide)), (iv_w iv_33 (by decide) (by decide)), (by assumption), rfl⟩

theorem dX11_mend_0 : decode cX11_mend 0 = .ok (.aload_n 0, 1) := by decide +kernel
theorem dX11_mend_1 : decode cX11_mend 1 = .ok (.invokevirtual 200, 3) := by decide +kernel
theorem dX11_mend_4 : decode cX11_mend 4 = .ok (.aload_n 0, 1) := by decide +kernel
theorem dX11_mend_5 : decode cX11_mend 5 = .ok (.iload_n 1, 1) := by decide +kernel
theorem dX11_mend_6 : decode cX11_mend 6 = .ok (.invokevirtual 412, 3) := by decide +kernel
theorem dX11_mend_9 : decode cX11_mend 9 = .ok (.ifCond .ne 9, 3) := by decide +kernel
theorem dX11_mend_12 : decode cX11_mend 12 = .ok (.aload_n 0, 1) := by decide +kernel
theorem dX11_mend_13 : decode cX11_mend 13 = .ok (.iconst 1, 1) := by decide +kernel
theorem dX11_mend_14 : decode cX11_mend 14 = .ok (.invokevirtual 203, 3) := by decide +kernel
theorem dX11_mend_17 : decode cX11_mend 17 = .ok (.ireturn, 1) := by decide +kernel
theorem dX11_mend_18 : decode cX11_mend 18 = .ok (.aload_n 0, 1) := by decide +kernel
theorem dX11_mend_19 : decode cX11_mend 19 = .ok (.getfield 20, 3) := by decide +kernel
theorem dX11_mend_22 : decode cX11_mend 22 = .ok (.bipush 96, 2) := by decide +kernel
theorem dX11_mend_24 : decode cX11_mend 24 = .ok (.iconst 3, 1) := by decide +kernel
theorem dX11_mend_25 : decode cX11_mend 25 = .ok (.iload_n 1, 1) := by decide +kernel
theorem dX11_mend_26 : decode cX11_mend 26 = .ok (.imul, 1) := by decide +kernel
theorem dX11_mend_27 : decode cX11_mend 27 = .ok (.iadd, 1) := by decide +kernel
theorem dX11_mend_28 : decode cX11_mend 28 = .ok (.iaload, 1) := by decide +kernel
theorem dX11_mend_29 : decode cX11_mend 29 = .ok (.istore_n 2, 1) := by decide +kernel
theorem dX11_mend_30 : decode cX11_mend 30 = .ok (.aload_n 0, 1) := by decide +kernel
theorem dX11_mend_31 : decode cX11_mend 31 = .ok (.iload_n 1, 1) := by decide +kernel
theorem dX11_mend_32 : decode cX11_mend 32 = .ok (.invokevirtual 339, 3) := by decide +kernel
theorem dX11_mend_35 : decode cX11_mend 35 = .ok (.ifCond .ne 16, 3) := by decide +kernel
theorem dX11_mend_38 : decode cX11_mend 38 = .ok (.aload_n 0, 1) := by decide +kernel
theorem dX11_mend_39 : decode cX11_mend 39 = .ok (.getfield 26, 3) := by decide +kernel
theorem dX11_mend_42 : decode cX11_mend 42 = .ok (.iconst 0, 1) := by decide +kernel
theorem dX11_mend_43 : decode cX11_mend 43 = .ok (.iload_n 2, 1) := by decide +kernel
theorem dX11_mend_44 : decode cX11_mend 44 = .ok (.iadd, 1) := by decide +kernel
theorem dX11_mend_45 : decode cX11_mend 45 = .ok (.iaload, 1) := by decide +kernel
theorem dX11_mend_46 : decode cX11_mend 46 = .ok (.bipush 6, 2) := by decide +kernel
theorem dX11_mend_48 : decode cX11_mend 48 = .ok (.if_icmp .ge 9, 3) := by decide +kernel
theorem dX11_mend_51 : decode cX11_mend 51 = .ok (.aload_n 0, 1) := by decide +kernel
theorem dX11_mend_52 : decode cX11_mend 52 = .ok (.iconst 5, 1) := by decide +kernel
theorem dX11_mend_53 : decode cX11_mend 53 = .ok (.invokevirtual 203, 3) := by decide +kernel
theorem dX11_mend_56 : decode cX11_mend 56 = .ok (.ireturn, 1) := by decide +kernel
theorem dX11_mend_57 : decode cX11_mend 57 = .ok (.aload_n 0, 1) := by decide +kernel
theorem dX11_mend_58 : decode cX11_mend 58 = .ok (.invokevirtual 476, 3) := by decide +kernel
theorem dX11_mend_61 : decode cX11_mend 61 = .ok (.aload_n 0, 1) := by decide +kernel
theorem dX11_mend_62 : decode cX11_mend 62 = .ok (.getfield 26, 3) := by decide +kernel
theorem dX11_mend_65 : decode cX11_mend 65 = .ok (.bipush 28, 2) := by decide +kernel
theorem dX11_mend_67 : decode cX11_mend 67 = .ok (.iload_n 1, 1) := by decide +kernel
theorem dX11_mend_68 : decode cX11_mend 68 = .ok (.iadd, 1) := by decide +kernel
theorem dX11_mend_69 : decode cX11_mend 69 = .ok (.iaload, 1) := by decide +kernel
theorem dX11_mend_70 : decode cX11_mend 70 = .ok (.istore_n 3, 1) := by decide +kernel
theorem dX11_mend_71 : decode cX11_mend 71 = .ok (.aload_n 0, 1) := by decide +kernel
theorem dX11_mend_72 : decode cX11_mend 72 = .ok (.getfield 26, 3) := by decide +kernel
theorem dX11_mend_75 : decode cX11_mend 75 = .ok (.iconst 0, 1) := by decide +kernel
theorem dX11_mend_76 : decode cX11_mend 76 = .ok (.iload_n 2, 1) := by decide +kernel
theorem dX11_mend_77 : decode cX11_mend 77 = .ok (.iadd, 1) := by decide +kernel
theorem dX11_mend_78 : decode cX11_mend 78 = .ok (.dup2, 1) := by decide +kernel
theorem dX11_mend_79 : decode cX11_mend 79 = .ok (.iaload, 1) := by decide +kernel
theorem dX11_mend_80 : decode cX11_mend 80 = .ok (.iconst 2, 1) := by decide +kernel
theorem dX11_mend_81 : decode cX11_mend 81 = .ok (.isub, 1) := by decide +kernel
theorem dX11_mend_82 : decode cX11_mend 82 = .ok (.iastore, 1) := by decide +kernel
theorem dX11_mend_83 : decode cX11_mend 83 = .ok (.aload_n 0, 1) := by decide +kernel
theorem dX11_mend_84 : decode cX11_mend 84 = .ok (.getfield 26, 3) := by decide +kernel
theorem dX11_mend_87 : decode cX11_mend 87 = .ok (.iconst 0, 1) := by decide +kernel
theorem dX11_mend_88 : decode cX11_mend 88 = .ok (.iload_n 2, 1) := by decide +kernel
theorem dX11_mend_89 : decode cX11_mend 89 = .ok (.iadd, 1) := by decide +kernel
theorem dX11_mend_90 : decode cX11_mend 90 = .ok (.iaload, 1) := by decide +kernel
theorem dX11_mend_91 : decode cX11_mend 91 = .ok (.istore 4, 2) := by decide +kernel
theorem dX11_mend_93 : decode cX11_mend 93 = .ok (.aload_n 0, 1) := by decide +kernel
theorem dX11_mend_94 : decode cX11_mend 94 = .ok (.getfield 26, 3) := by decide +kernel
theorem dX11_mend_97 : decode cX11_mend 97 = .ok (.bipush 8, 2) := by decide +kernel
theorem dX11_mend_99 : decode cX11_mend 99 = .ok (.iload_n 2, 1) := by decide +kernel
theorem dX11_mend_100 : decode cX11_mend 100 = .ok (.iadd, 1) := by decide +kernel
theorem dX11_mend_101 : decode cX11_mend 101 = .ok (.aload_n 0, 1) := by decide +kernel
theorem dX11_mend_102 : decode cX11_mend 102 = .ok (.getfield 26, 3) := by decide +kernel
theorem dX11_mend_105 : decode cX11_mend 105 = .ok (.bipush 8, 2) := by decide +kernel
theorem dX11_mend_107 : decode cX11_mend 107 = .ok (.iload_n 2, 1) := by decide +kernel
theorem dX11_mend_108 : decode cX11_mend 108 = .ok (.iadd, 1) := by decide +kernel
theorem dX11_mend_109 : decode cX11_mend 109 = .ok (.iaload, 1) := by decide +kernel
theorem dX11_mend_110 : decode cX11_mend 110 = .ok (.iload_n 3, 1) := by decide +kernel
theorem dX11_mend_111 : decode cX11_mend 111 = .ok (.iload 4, 2) := by decide +kernel
theorem dX11_mend_113 : decode cX11_mend 113 = .ok (.invokestatic 479, 3) := by decide +kernel
theorem dX11_mend_116 : decode cX11_mend 116 = .ok (.iastore, 1) := by decide +kernel
theorem dX11_mend_117 : decode cX11_mend 117 = .ok (.iconst 0, 1) := by decide +kernel
theorem dX11_mend_118 : decode cX11_mend 118 = .ok (.istore 5, 2) := by decide +kernel
theorem dX11_mend_120 : decode cX11_mend 120 = .ok (.iload 5, 2) := by decide +kernel
theorem dX11_mend_122 : decode cX11_mend 122 = .ok (.aload_n 0, 1) := by decide +kernel
theorem dX11_mend_123 : decode cX11_mend 123 = .ok (.getfield 20, 3) := by decide +kernel
theorem dX11_mend_126 : decode cX11_mend 126 = .ok (.bipush 8, 2) := by decide +kernel
theorem dX11_mend_128 : decode cX11_mend 128 = .ok (.iaload, 1) := by decide +kernel
theorem dX11_mend_129 : decode cX11_mend 129 = .ok (.if_icmp .ge 51, 3) := by decide +kernel
theorem dX11_mend_132 : decode cX11_mend 132 = .ok (.aload_n 0, 1) := by decide +kernel
theorem dX11_mend_133 : decode cX11_mend 133 = .ok (.getfield 20, 3) := by decide +kernel
theorem dX11_mend_136 : decode cX11_mend 136 = .ok (.bipush 44, 2) := by decide +kernel
theorem dX11_mend_138 : decode cX11_mend 138 = .ok (.iconst 3, 1) := by decide +kernel
theorem dX11_mend_139 : decode cX11_mend 139 = .ok (.iload 5, 2) := by decide +kernel
theorem dX11_mend_141 : decode cX11_mend 141 = .ok (.imul, 1) := by decide +kernel
theorem dX11_mend_142 : decode cX11_mend 142 = .ok (.iadd, 1) := by decide +kernel
theorem dX11_mend_143 : decode cX11_mend 143 = .ok (.iaload, 1) := by decide +kernel
theorem dX11_mend_144 : decode cX11_mend 144 = .ok (.iload_n 2, 1) := by decide +kernel
theorem dX11_mend_145 : decode cX11_mend 145 = .ok (.if_icmp .ne 29, 3) := by decide +kernel
theorem dX11_mend_148 : decode cX11_mend 148 = .ok (.aload_n 0, 1) := by decide +kernel
theorem dX11_mend_149 : decode cX11_mend 149 = .ok (.getfield 26, 3) := by decide +kernel
theorem dX11_mend_152 : decode cX11_mend 152 = .ok (.bipush 16, 2) := by decide +kernel
theorem dX11_mend_154 : decode cX11_mend 154 = .ok (.iload 5, 2) := by decide +kernel
theorem dX11_mend_156 : decode cX11_mend 156 = .ok (.iadd, 1) := by decide +kernel
theorem dX11_mend_157 : decode cX11_mend 157 = .ok (.aload_n 0, 1) := by decide +kernel
theorem dX11_mend_158 : decode cX11_mend 158 = .ok (.getfield 26, 3) := by decide +kernel
theorem dX11_mend_161 : decode cX11_mend 161 = .ok (.bipush 16, 2) := by decide +kernel
theorem dX11_mend_163 : decode cX11_mend 163 = .ok (.iload 5, 2) := by decide +kernel
theorem dX11_mend_165 : decode cX11_mend 165 = .ok (.iadd, 1) := by decide +kernel
theorem dX11_mend_166 : decode cX11_mend 166 = .ok (.iaload, 1) := by decide +kernel
theorem dX11_mend_167 : decode cX11_mend 167 = .ok (.iload_n 3, 1) := by decide +kernel
theorem dX11_mend_168 : decode cX11_mend 168 = .ok (.iload 4, 2) := by decide +kernel
theorem dX11_mend_170 : decode cX11_mend 170 = .ok (.invokestatic 479, 3) := by decide +kernel
theorem dX11_mend_173 : decode cX11_mend 173 = .ok (.iastore, 1) := by decide +kernel
theorem dX11_mend_174 : decode cX11_mend 174 = .ok (.iinc 5 1, 3) := by decide +kernel
theorem dX11_mend_177 : decode cX11_mend 177 = .ok (.goto (-57), 3) := by decide +kernel
theorem dX11_mend_180 : decode cX11_mend 180 = .ok (.iconst 0, 1) := by decide +kernel
theorem dX11_mend_181 : decode cX11_mend 181 = .ok (.istore 5, 2) := by decide +kernel
theorem dX11_mend_183 : decode cX11_mend 183 = .ok (.iload 5, 2) := by decide +kernel
theorem dX11_mend_185 : decode cX11_mend 185 = .ok (.aload_n 0, 1) := by decide +kernel
theorem dX11_mend_186 : decode cX11_mend 186 = .ok (.getfield 20, 3) := by decide +kernel
theorem dX11_mend_189 : decode cX11_mend 189 = .ok (.bipush 10, 2) := by decide +kernel
theorem dX11_mend_191 : decode cX11_mend 191 = .ok (.iaload, 1) := by decide +kernel
theorem dX11_mend_192 : decode cX11_mend 192 = .ok (.if_icmp .ge 51, 3) := by decide +kernel
theorem dX11_mend_195 : decode cX11_mend 195 = .ok (.aload_n 0, 1) := by decide +kernel
theorem dX11_mend_196 : decode cX11_mend 196 = .ok (.getfield 20, 3) := by decide +kernel
theorem dX11_mend_199 : decode cX11_mend 199 = .ok (.bipush 96, 2) := by decide +kernel
theorem dX11_mend_201 : decode cX11_mend 201 = .ok (.iconst 3, 1) := by decide +kernel
theorem dX11_mend_202 : decode cX11_mend 202 = .ok (.iload 5, 2) := by decide +kernel
theorem dX11_mend_204 : decode cX11_mend 204 = .ok (.imul, 1) := by decide +kernel
theorem dX11_mend_205 : decode cX11_mend 205 = .ok (.iadd, 1) := by decide +kernel
theorem dX11_mend_206 : decode cX11_mend 206 = .ok (.iaload, 1) := by decide +kernel
theorem dX11_mend_207 : decode cX11_mend 207 = .ok (.iload_n 2, 1) := by decide +kernel
theorem dX11_mend_208 : decode cX11_mend 208 = .ok (.if_icmp .ne 29, 3) := by decide +kernel
theorem dX11_mend_211 : decode cX11_mend 211 = .ok (.aload_n 0, 1) := by decide +kernel
theorem dX11_mend_212 : decode cX11_mend 212 = .ok (.getfield 26, 3) := by decide +kernel
theorem dX11_mend_215 : decode cX11_mend 215 = .ok (.bipush 28, 2) := by decide +kernel
theorem dX11_mend_217 : decode cX11_mend 217 = .ok (.iload 5, 2) := by decide +kernel
theorem dX11_mend_219 : decode cX11_mend 219 = .ok (.iadd, 1) := by decide +kernel
theorem dX11_mend_220 : decode cX11_mend 220 = .ok (.aload_n 0, 1) := by decide +kernel
theorem dX11_mend_221 : decode cX11_mend 221 = .ok (.getfield 26, 3) := by decide +kernel
theorem dX11_mend_224 : decode cX11_mend 224 = .ok (.bipush 28, 2) := by decide +kernel
theorem dX11_mend_226 : decode cX11_mend 226 = .ok (.iload 5, 2) := by decide +kernel
theorem dX11_mend_228 : decode cX11_mend 228 = .ok (.iadd, 1) := by decide +kernel
theorem dX11_mend_229 : decode cX11_mend 229 = .ok (.iaload, 1) := by decide +kernel
theorem dX11_mend_230 : decode cX11_mend 230 = .ok (.iload_n 3, 1) := by decide +kernel
theorem dX11_mend_231 : decode cX11_mend 231 = .ok (.iload 4, 2) := by decide +kernel
theorem dX11_mend_233 : decode cX11_mend 233 = .ok (.invokestatic 479, 3) := by decide +kernel
theorem dX11_mend_236 : decode cX11_mend 236 = .ok (.iastore, 1) := by decide +kernel
theorem dX11_mend_237 : decode cX11_mend 237 = .ok (.iinc 5 1, 3) := by decide +kernel
theorem dX11_mend_240 : decode cX11_mend 240 = .ok (.goto (-57), 3) := by decide +kernel
theorem dX11_mend_243 : decode cX11_mend 243 = .ok (.aload_n 0, 1) := by decide +kernel
theorem dX11_mend_244 : decode cX11_mend 244 = .ok (.getfield 26, 3) := by decide +kernel
theorem dX11_mend_247 : decode cX11_mend 247 = .ok (.bipush 43, 2) := by decide +kernel
theorem dX11_mend_249 : decode cX11_mend 249 = .ok (.dup2, 1) := by decide +kernel
theorem dX11_mend_250 : decode cX11_mend 250 = .ok (.iaload, 1) := by decide +kernel
theorem dX11_mend_251 : decode cX11_mend 251 = .ok (.iconst 1, 1) := by decide +kernel
theorem dX11_mend_252 : decode cX11_mend 252 = .ok (.iload_n 1, 1) := by decide +kernel
theorem dX11_mend_253 : decode cX11_mend 253 = .ok (.ishl, 1) := by decide +kernel
theorem dX11_mend_254 : decode cX11_mend 254 = .ok (.ior, 1) := by decide +kernel
theorem dX11_mend_255 : decode cX11_mend 255 = .ok (.iastore, 1) := by decide +kernel
theorem dX11_mend_256 : decode cX11_mend 256 = .ok (.iload 4, 2) := by decide +kernel
theorem dX11_mend_258 : decode cX11_mend 258 = .ok (.ireturn, 1) := by decide +kernel
set_option maxHeartbeats 4000000 in
set_option maxRecDepth 100000 in
theorem m_mend (l : Launch) (g : Gx) (h0 : Nat) (p0 : Int32) (m_thrown : Int32) (a_tape : Nat) (m_taped : Int32) (m_size : Int32) (m_at : Int32) (m_end : Int32) (m_token : Int32) (m_whole : Int32) (m_nameSize : Int32) (m_fault : Int32) (m_place : Int32) (m_trouble : Int32) (a_letters : Nat) (m_failed : Int32) (m_hasHouse : Int32) (a_r : Nat) (a_fresh : Nat) (a_st : Nat) (a_undone : Nat) (a_kept : Nat) (m_undos : Int32) (m_images : Int32) (a_from : Nat) (a_begin : Nat) (a_motor : Nat) (a_change : Nat) (a_startFrame : Nat) (a_changeFrame : Nat) (a_lostAt : Nat) (a_blackAt : Nat) (a_slips : Nat) (a_leftArc : Nat) (a_died : Nat) (a_arcs : Nat) (m_bestSum : Int32) (m_nearest : Int32) (m_nearestTown : Int32) (a_there : Nat) (a_backAt : Nat) (a_sorted : Nat) (a_parts : Nat) (m_seed1 : Int32) (m_darkNow : Int32) (d_r : Nat → Int32) (d_st : Nat → Int32) (d_undone : Nat → Int32) (hv_m_hasHouse : IV m_hasHouse 0 1) (hv_m_undos : IV m_undos 0 12) (hp_d_r : RInv d_r) : cI l g yX11_mend cX11_mend 6 (some .int) 2 46 0 0 [.ref h0, .int p0] [(h0, .inr (11, [.int m_thrown, .ref a_tape, .int m_taped, .int m_size, .int m_at, .int m_end, .int m_token, .int m_whole, .int m_nameSize, .int m_fault, .int m_place, .int m_trouble, .ref a_letters, .int m_failed, .int m_hasHouse, .ref a_r, .ref a_fresh, .ref a_st, .ref a_undone, .ref a_kept, .int m_undos, .int m_images, .ref a_from, .ref a_begin, .ref a_motor, .ref a_change, .ref a_startFrame, .ref a_changeFrame, .ref a_lostAt, .ref a_blackAt, .ref a_slips, .ref a_leftArc, .ref a_died, .ref a_arcs, .int m_bestSum, .int m_nearest, .int m_nearestTown, .ref a_there, .ref a_backAt, .ref a_sorted, .ref a_parts, .int m_seed1, .int m_darkNow])), (a_r, .inl (g.2.2.1, 311, .inl d_r)), (a_st, .inl (g.2.2.1, 44, .inl d_st)), (a_undone, .inl (g.2.2.1, 528, .inl d_undone))] (fun r w => ∃ (d_st2 : Nat → Int32) (m_thrown2 : Int32) (m_trouble2 : Int32) (d_undone2 : Nat → Int32) (m_undos2 : Int32), IV m_undos2 0 12 ∧ (m_trouble2 ≠ 4) ∧ w = [(h0, .inr (11, [.int m_thrown2, .ref a_tape, .int m_taped, .int m_size, .int m_at, .int m_end, .int m_token, .int m_whole, .int m_nameSize, .int m_fault, .int m_place, .int m_trouble2, .ref a_letters, .int m_failed, .int m_hasHouse, .ref a_r, .ref a_fresh, .ref a_st, .ref a_undone, .ref a_kept, .int m_undos2, .int m_images, .ref a_from, .ref a_begin, .ref a_motor, .ref a_change, .ref a_startFrame, .ref a_changeFrame, .ref a_lostAt, .ref a_blackAt, .ref a_slips, .ref a_leftArc, .ref a_died, .ref a_arcs, .int m_bestSum, .int m_nearest, .int m_nearestTown, .ref a_there, .ref a_backAt, .ref a_sorted, .ref a_parts, .int m_seed1, .int m_darkNow])), (a_r, .inl (g.2.2.1, 311, .inl d_r)), (a_st, .inl (g.2.2.1, 44, .inl d_st2)), (a_undone, .inl (g.2.2.1, 528, .inl d_undone2))]) := by
  refine cI.of (by decide) (Nat.le_of_ble_eq_true rfl) ?_
  intro p e s m args below meth c A X hr hi
  refine k_lveq [(0, .ref h0), (1, .int p0)] rfl ?_
  refine k_aload_n X dX11_mend_0 0 rfl ?_
  refine k_callVV (n := 0) (As := []) (st := []) X [(h0, .inr (11, [.int m_thrown, .ref a_tape, .int m_taped, .int m_size, .int m_at, .int m_end, .int m_token, .int m_whole, .int m_nameSize, .int m_fault, .int m_place, .int m_trouble, .ref a_letters, .int m_failed, .int m_hasHouse, .ref a_r, .ref a_fresh, .ref a_st, .ref a_undone, .ref a_kept, .int m_undos, .int m_images, .ref a_from, .ref a_begin, .ref a_motor, .ref a_change, .ref a_startFrame, .ref a_changeFrame, .ref a_lostAt, .ref a_blackAt, .ref a_slips, .ref a_leftArc, .ref a_died, .ref a_arcs, .int m_bestSum, .int m_nearest, .int m_nearestTown, .ref a_there, .ref a_backAt, .ref a_sorted, .ref a_parts, .int m_seed1, .int m_darkNow]))] [(a_r, .inl (g.2.2.1, 311, .inl d_r)), (a_st, .inl (g.2.2.1, 44, .inl d_st)), (a_undone, .inl (g.2.2.1, 528, .inl d_undone))] [0] [1, 2, 3] (m_good l g h0 m_thrown a_tape m_taped m_size m_at m_end m_token m_whole m_nameSize m_fault m_place m_trouble a_letters m_failed m_hasHouse a_r a_fresh a_st a_undone a_kept m_undos m_images a_from a_begin a_motor a_change a_startFrame a_changeFrame a_lostAt a_blackAt a_slips a_leftArc a_died a_arcs m_bestSum m_nearest m_nearestTown a_there a_backAt a_sorted a_parts m_seed1 m_darkNow) dX11_mend_1 mw477 mw478 mw479 mw5 mw480 rfl 11 rfl rfl 0 _ rfl (by unfold yOk; decide) rfl (Nat.le_of_ble_eq_true rfl) (Nat.le_of_ble_eq_true rfl) (Nat.le_of_ble_eq_true rfl) (Nat.le_of_ble_eq_true rfl) (Nat.le_of_ble_eq_true rfl) rfl rfl (by decide) rfl (by decide) (by decide) ?_
  rintro w ⟨m_thrown2_1, m_trouble2_2, hq_4, rfl⟩
  refine k_ws [(a_r, .inl (g.2.2.1, 311, .inl d_r)), (a_st, .inl (g.2.2.1, 44, .inl d_st)), (a_undone, .inl (g.2.2.1, 528, .inl d_undone)), (h0, .inr (11, [.int m_thrown2_1, .ref a_tape, .int m_taped, .int m_size, .int m_at, .int m_end, .int m_token, .int m_whole, .int m_nameSize, .int m_fault, .int m_place, .int m_trouble2_2, .ref a_letters, .int m_failed, .int m_hasHouse, .ref a_r, .ref a_fresh, .ref a_st, .ref a_undone, .ref a_kept, .int m_undos, .int m_images, .ref a_from, .ref a_begin, .ref a_motor, .ref a_change, .ref a_startFrame, .ref a_changeFrame, .ref a_lostAt, .ref a_blackAt, .ref a_slips, .ref a_leftArc, .ref a_died, .ref a_arcs, .int m_bestSum, .int m_nearest, .int m_nearestTown, .ref a_there, .ref a_backAt, .ref a_sorted, .ref a_parts, .int m_seed1, .int m_darkNow]))] rfl ?_
  refine k_aload_n X dX11_mend_4 0 rfl ?_
  refine k_iload_n X dX11_mend_5 1 rfl ?_
  refine k_callVI (n := 1) (As := [.int p0]) (st := []) X [(h0, .inr (11, [.int m_thrown2_1, .ref a_tape, .int m_taped, .int m_size, .int m_at, .int m_end, .int m_token, .int m_whole, .int m_nameSize, .int m_fault, .int m_place, .int m_trouble2_2, .ref a_letters, .int m_failed, .int m_hasHouse, .ref a_r, .ref a_fresh, .ref a_st, .ref a_undone, .ref a_kept, .int m_undos, .int m_images, .ref a_from, .ref a_begin, .ref a_motor, .ref a_change, .ref a_startFrame, .ref a_changeFrame, .ref a_lostAt, .ref a_blackAt, .ref a_slips, .ref a_leftArc, .ref a_died, .ref a_arcs, .int m_bestSum, .int m_nearest, .int m_nearestTown, .ref a_there, .ref a_backAt, .ref a_sorted, .ref a_parts, .int m_seed1, .int m_darkNow])), (a_r, .inl (g.2.2.1, 311, .inl d_r))] [(a_st, .inl (g.2.2.1, 44, .inl d_st)), (a_undone, .inl (g.2.2.1, 528, .inl d_undone))] [3, 0] [1, 2] (m_isWeak l g h0 p0 m_thrown2_1 a_tape m_taped m_size m_at m_end m_token m_whole m_nameSize m_fault m_place m_trouble2_2 a_letters m_failed m_hasHouse a_r a_fresh a_st a_undone a_kept m_undos m_images a_from a_begin a_motor a_change a_startFrame a_changeFrame a_lostAt a_blackAt a_slips a_leftArc a_died a_arcs m_bestSum m_nearest m_nearestTown a_there a_backAt a_sorted a_parts m_seed1 m_darkNow d_r (iv_w hv_m_hasHouse (by decide) (by decide)) hp_d_r) dX11_mend_6 mw1252 mw1253 mw1254 mw5 mw1255 rfl 11 rfl rfl 0 _ rfl (by unfold yOk; decide) rfl (Nat.le_of_ble_eq_true rfl) (Nat.le_of_ble_eq_true rfl) (Nat.le_of_ble_eq_true rfl) (Nat.le_of_ble_eq_true rfl) (Nat.le_of_ble_eq_true rfl) rfl rfl (by decide) rfl (by decide) (by decide) ?_
  rintro r_5 w ⟨iv_6, hk_7, rfl⟩
  refine k_ws [(a_st, .inl (g.2.2.1, 44, .inl d_st)), (a_undone, .inl (g.2.2.1, 528, .inl d_undone)), (h0, .inr (11, [.int m_thrown2_1, .ref a_tape, .int m_taped, .int m_size, .int m_at, .int m_end, .int m_token, .int m_whole, .int m_nameSize, .int m_fault, .int m_place, .int m_trouble2_2, .ref a_letters, .int m_failed, .int m_hasHouse, .ref a_r, .ref a_fresh, .ref a_st, .ref a_undone, .ref a_kept, .int m_undos, .int m_images, .ref a_from, .ref a_begin, .ref a_motor, .ref a_change, .ref a_startFrame, .ref a_changeFrame, .ref a_lostAt, .ref a_blackAt, .ref a_slips, .ref a_leftArc, .ref a_died, .ref a_arcs, .int m_bestSum, .int m_nearest, .int m_nearestTown, .ref a_there, .ref a_backAt, .ref a_sorted, .ref a_parts, .int m_seed1, .int m_darkNow])), (a_r, .inl (g.2.2.1, 311, .inl d_r))] rfl ?_
  refine k_if_ne 18 X dX11_mend_9 (by decide) (fun h_8 => ?_) (fun h_8 => ?_)
  · skip
    have hc_9 := hk_7.resolve_left h_8
    have iv_10 : IV p0 0 5 := iv_meet (iv_any p0) hc_9 (by decide) (by decide)
    have iv_11 : IV r_5 1 1 := iv_neL h_8 iv_6 (show IV 0 0 0 from (by decide)) (by decide)
    refine k_aload_n X dX11_mend_18 0 rfl ?_
    refine k_get (ci := 11) X inlX11 rfl 15 (by decide) dX11_mend_19 mw170 2 rfl rfl ?_
    refine k_bipush (v := 96) X dX11_mend_22 (by decide) ?_
    refine k_iconst (v := 3) X dX11_mend_24 (by decide) ?_
    refine k_iload_n X dX11_mend_25 1 rfl ?_
    refine k_imul X dX11_mend_26 ?_
    refine k_nm (fun z_12 ez_12 => ?_)
    have i_13 : z_12.toInt = 3 * p0.toInt := in_mul ez_12 (by decide) (by decide) iv_10 (by decide) (by decide)
    have iv_14 : IV z_12 0 15 := by have := (show IV 3 3 3 from (by decide)); have := iv_10; rw [IV, i_13]; omega
    refine k_iadd X dX11_mend_27 ?_
    refine k_nm (fun z_15 ez_15 => ?_)
    have i_16 : z_15.toInt = 96 + z_12.toInt := in_add ez_15 (show IV 96 96 96 from (by decide)) iv_14 (by decide) (by decide)
    have iv_17 : IV z_15 96 111 := by have := (show IV 96 96 96 from (by decide)); have := iv_14; rw [IV, i_16]; omega
    refine k_iald X dX11_mend_28 3 rfl (iv_in iv_17 (by decide) (by decide)) ?_
    refine k_nm (fun z_18 ez_18 => ?_)
    have i_19 : z_15.toInt = 96 + 3 * p0.toInt := by omega
    have iv_20 : IV z_18 0 7 := rb_96_3 ez_18 hp_d_r i_19 (iv_w iv_10 (by decide) (by decide))
    refine k_istore_n [(2, .int z_18), (0, .ref h0), (1, .int p0)] X dX11_mend_29 (by decide) rfl ?_
    refine k_aload_n X dX11_mend_30 1 rfl ?_
    refine k_iload_n X dX11_mend_31 2 rfl ?_
    refine k_callVI (n := 1) (As := [.int p0]) (st := []) X [(h0, .inr (11, [.int m_thrown2_1, .ref a_tape, .int m_taped, .int m_size, .int m_at, .int m_end, .int m_token, .int m_whole, .int m_nameSize, .int m_fault, .int m_place, .int m_trouble2_2, .ref a_letters, .int m_failed, .int m_hasHouse, .ref a_r, .ref a_fresh, .ref a_st, .ref a_undone, .ref a_kept, .int m_undos, .int m_images, .ref a_from, .ref a_begin, .ref a_motor, .ref a_change, .ref a_startFrame, .ref a_changeFrame, .ref a_lostAt, .ref a_blackAt, .ref a_slips, .ref a_leftArc, .ref a_died, .ref a_arcs, .int m_bestSum, .int m_nearest, .int m_nearestTown, .ref a_there, .ref a_backAt, .ref a_sorted, .ref a_parts, .int m_seed1, .int m_darkNow])), (a_st, .inl (g.2.2.1, 44, .inl d_st))] [(a_undone, .inl (g.2.2.1, 528, .inl d_undone)), (a_r, .inl (g.2.2.1, 311, .inl d_r))] [2, 0] [1, 3] (m_isMended l g h0 p0 m_thrown2_1 a_tape m_taped m_size m_at m_end m_token m_whole m_nameSize m_fault m_place m_trouble2_2 a_letters m_failed m_hasHouse a_r a_fresh a_st a_undone a_kept m_undos m_images a_from a_begin a_motor a_change a_startFrame a_changeFrame a_lostAt a_blackAt a_slips a_leftArc a_died a_arcs m_bestSum m_nearest m_nearestTown a_there a_backAt a_sorted a_parts m_seed1 m_darkNow d_st) dX11_mend_32 mw682 mw683 mw684 mw5 mw685 rfl 11 rfl rfl 0 _ rfl (by unfold yOk; decide) rfl (Nat.le_of_ble_eq_true rfl) (Nat.le_of_ble_eq_true rfl) (Nat.le_of_ble_eq_true rfl) (Nat.le_of_ble_eq_true rfl) (Nat.le_of_ble_eq_true rfl) rfl rfl (by decide) rfl (by decide) (by decide) ?_
    rintro r_21 w ⟨iv_22, rfl⟩
    refine k_ws [(a_undone, .inl (g.2.2.1, 528, .inl d_undone)), (a_r, .inl (g.2.2.1, 311, .inl d_r)), (h0, .inr (11, [.int m_thrown2_1, .ref a_tape, .int m_taped, .int m_size, .int m_at, .int m_end, .int m_token, .int m_whole, .int m_nameSize, .int m_fault, .int m_place, .int m_trouble2_2, .ref a_letters, .int m_failed, .int m_hasHouse, .ref a_r, .ref a_fresh, .ref a_st, .ref a_undone, .ref a_kept, .int m_undos, .int m_images, .ref a_from, .ref a_begin, .ref a_motor, .ref a_change, .ref a_startFrame, .ref a_changeFrame, .ref a_lostAt, .ref a_blackAt, .ref a_slips, .ref a_leftArc, .ref a_died, .ref a_arcs, .int m_bestSum, .int m_nearest, .int m_nearestTown, .ref a_there, .ref a_backAt, .ref a_sorted, .ref a_parts, .int m_seed1, .int m_darkNow])), (a_st, .inl (g.2.2.1, 44, .inl d_st))] rfl ?_
    refine k_if_ne 51 X dX11_mend_35 (by decide) (fun h_23 => ?_) (fun h_23 => ?_)
    · skip
      have iv_24 : IV r_21 1 1 := iv_neL h_23 iv_22 (show IV 0 0 0 from (by decide)) (by decide)
      refine k_aload_n X dX11_mend_51 1 rfl ?_
      refine k_iconst (v := 5) X dX11_mend_52 (by decide) ?_
      refine k_callVI (n := 1) (As := [.int 5]) (st := []) X [(h0, .inr (11, [.int m_thrown2_1, .ref a_tape, .int m_taped, .int m_size, .int m_at, .int m_end, .int m_token, .int m_whole, .int m_nameSize, .int m_fault, .int m_place, .int m_trouble2_2, .ref a_letters, .int m_failed, .int m_hasHouse, .ref a_r, .ref a_fresh, .ref a_st, .ref a_undone, .ref a_kept, .int m_undos, .int m_images, .ref a_from, .ref a_begin, .ref a_motor, .ref a_change, .ref a_startFrame, .ref a_changeFrame, .ref a_lostAt, .ref a_blackAt, .ref a_slips, .ref a_leftArc, .ref a_died, .ref a_arcs, .int m_bestSum, .int m_nearest, .int m_nearestTown, .ref a_there, .ref a_backAt, .ref a_sorted, .ref a_parts, .int m_seed1, .int m_darkNow]))] [(a_undone, .inl (g.2.2.1, 528, .inl d_undone)), (a_r, .inl (g.2.2.1, 311, .inl d_r)), (a_st, .inl (g.2.2.1, 44, .inl d_st))] [2] [0, 1, 3] (m_noF l g h0 5 m_thrown2_1 a_tape m_taped m_size m_at m_end m_token m_whole m_nameSize m_fault m_place m_trouble2_2 a_letters m_failed m_hasHouse a_r a_fresh a_st a_undone a_kept m_undos m_images a_from a_begin a_motor a_change a_startFrame a_changeFrame a_lostAt a_blackAt a_slips a_leftArc a_died a_arcs m_bestSum m_nearest m_nearestTown a_there a_backAt a_sorted a_parts m_seed1 m_darkNow (by decide)) dX11_mend_53 mw485 mw486 mw487 mw5 mw488 rfl 11 rfl rfl 0 _ rfl (by unfold yOk; decide) rfl (Nat.le_of_ble_eq_true rfl) (Nat.le_of_ble_eq_true rfl) (Nat.le_of_ble_eq_true rfl) (Nat.le_of_ble_eq_true rfl) (Nat.le_of_ble_eq_true rfl) rfl rfl (by decide) rfl (by decide) (by decide) ?_
      rintro r_26 w ⟨m_trouble2_25, iv_27, hq_28, rfl⟩
      refine k_ws [(a_undone, .inl (g.2.2.1, 528, .inl d_undone)), (a_r, .inl (g.2.2.1, 311, .inl d_r)), (a_st, .inl (g.2.2.1, 44, .inl d_st)), (h0, .inr (11, [.int m_thrown2_1, .ref a_tape, .int m_taped, .int m_size, .int m_at, .int m_end, .int m_token, .int m_whole, .int m_nameSize, .int m_fault, .int m_place, .int m_trouble2_25, .ref a_letters, .int m_failed, .int m_hasHouse, .ref a_r, .ref a_fresh, .ref a_st, .ref a_undone, .ref a_kept, .int m_undos, .int m_images, .ref a_from, .ref a_begin, .ref a_motor, .ref a_change, .ref a_startFrame, .ref a_changeFrame, .ref a_lostAt, .ref a_blackAt, .ref a_slips, .ref a_leftArc, .ref a_died, .ref a_arcs, .int m_bestSum, .int m_nearest, .int m_nearestTown, .ref a_there, .ref a_backAt, .ref a_sorted, .ref a_parts, .int m_seed1, .int m_darkNow]))] rfl ?_
      exact k_iret X hr dX11_mend_56 (Nat.le_of_ble_eq_true rfl) (Nat.le_of_ble_eq_true rfl) [3, 1, 2, 0] (by decide) rfl rfl ⟨d_st, m_thrown2_1, m_trouble2_25, d_undone, m_undos, (iv_w hv_m_undos (by decide) (by decide)), (by assumption), rfl⟩
    · skip
      have iv_29 : IV r_21 0 0 := iv_meet iv_22 (iv_e h_23 (show IV 0 0 0 from (by decide))) (by decide) (by decide)
      refine k_aload_n X dX11_mend_38 1 rfl ?_
      refine k_get (ci := 11) X inlX11 rfl 17 (by decide) dX11_mend_39 mw172 2 rfl rfl ?_
      refine k_iconst (v := 0) X dX11_mend_42 (by decide) ?_
      refine k_iload_n X dX11_mend_43 0 rfl ?_
      refine k_iadd X dX11_mend_44 ?_
      refine k_nm (fun z_30 ez_30 => ?_)
      have i_31 : z_30.toInt = 0 + z_18.toInt := in_add ez_30 (show IV 0 0 0 from (by decide)) iv_20 (by decide) (by decide)
      have iv_32 : IV z_30 0 7 := by have := (show IV 0 0 0 from (by decide)); have := iv_20; rw [IV, i_31]; omega
      refine k_iald X dX11_mend_45 3 rfl (iv_in iv_32 (by decide) (by decide)) ?_
      refine k_nm (fun z_33 ez_33 => ?_)
      refine k_bipush (v := 6) X dX11_mend_46 (by decide) ?_
      refine k_ic_ge 57 X dX11_mend_48 (by decide) (fun h_34 => ?_) (fun h_34 => ?_)
      · skip
        have j_35 : 6 ≤ z_33.toInt := iv_le h_34
        have iv_36 : IV z_33 6 2147483647 := iv_leR (iv_le h_34) (show IV 6 6 6 from (by decide)) (iv_any z_33) (by decide)
        refine k_aload_n X dX11_mend_57 1 rfl ?_
        refine k_callVV (n := 0) (As := []) (st := []) X [(h0, .inr (11, [.int m_thrown2_1, .ref a_tape, .int m_taped, .int m_size, .int m_at, .int m_end, .int m_token, .int m_whole, .int m_nameSize, .int m_fault, .int m_place, .int m_trouble2_2, .ref a_letters, .int m_failed, .int m_hasHouse, .ref a_r, .ref a_fresh, .ref a_st, .ref a_undone, .ref a_kept, .int m_undos, .int m_images, .ref a_from, .ref a_begin, .ref a_motor, .ref a_change, .ref a_startFrame, .ref a_changeFrame, .ref a_lostAt, .ref a_blackAt, .ref a_slips, .ref a_leftArc, .ref a_died, .ref a_arcs, .int m_bestSum, .int m_nearest, .int m_nearestTown, .ref a_there, .ref a_backAt, .ref a_sorted, .ref a_parts, .int m_seed1, .int m_darkNow])), (a_st, .inl (g.2.2.1, 44, .inl d_st)), (a_undone, .inl (g.2.2.1, 528, .inl d_undone))] [(a_r, .inl (g.2.2.1, 311, .inl d_r))] [2, 3, 0] [1] (m_note l g h0 m_thrown2_1 a_tape m_taped m_size m_at m_end m_token m_whole m_nameSize m_fault m_place m_trouble2_2 a_letters m_failed m_hasHouse a_r a_fresh a_st a_undone a_kept m_undos m_images a_from a_begin a_motor a_change a_startFrame a_changeFrame a_lostAt a_blackAt a_slips a_leftArc a_died a_arcs m_bestSum m_nearest m_nearestTown a_there a_backAt a_sorted a_parts m_seed1 m_darkNow d_st d_undone (iv_w hv_m_undos (by decide) (by decide))) dX11_mend_58 mw1475 mw1476 mw1477 mw5 mw1478 rfl 11 rfl rfl 0 _ rfl (by unfold yOk; decide) rfl (Nat.le_of_ble_eq_true rfl) (Nat.le_of_ble_eq_true rfl) (Nat.le_of_ble_eq_true rfl) (Nat.le_of_ble_eq_true rfl) (Nat.le_of_ble_eq_true rfl) rfl rfl (by decide) rfl (by decide) (by decide) ?_
        rintro w ⟨d_undone2_37, m_undos2_38, iv_40, rfl⟩
        refine k_ws [(a_r, .inl (g.2.2.1, 311, .inl d_r)), (h0, .inr (11, [.int m_thrown2_1, .ref a_tape, .int m_taped, .int m_size, .int m_at, .int m_end, .int m_token, .int m_whole, .int m_nameSize, .int m_fault, .int m_place, .int m_trouble2_2, .ref a_letters, .int m_failed, .int m_hasHouse, .ref a_r, .ref a_fresh, .ref a_st, .ref a_undone, .ref a_kept, .int m_undos2_38, .int m_images, .ref a_from, .ref a_begin, .ref a_motor, .ref a_change, .ref a_startFrame, .ref a_changeFrame, .ref a_lostAt, .ref a_blackAt, .ref a_slips, .ref a_leftArc, .ref a_died, .ref a_arcs, .int m_bestSum, .int m_nearest, .int m_nearestTown, .ref a_there, .ref a_backAt, .ref a_sorted, .ref a_parts, .int m_seed1, .int m_darkNow])), (a_st, .inl (g.2.2.1, 44, .inl d_st)), (a_undone, .inl (g.2.2.1, 528, .inl d_undone2_37))] rfl ?_
        refine k_aload_n X dX11_mend_61 1 rfl ?_
        refine k_get (ci := 11) X inlX11 rfl 17 (by decide) dX11_mend_62 mw172 1 rfl rfl ?_
        refine k_bipush (v := 28) X dX11_mend_65 (by decide) ?_
        refine k_iload_n X dX11_mend_67 2 rfl ?_
        refine k_iadd X dX11_mend_68 ?_
        refine k_nm (fun z_41 ez_41 => ?_)
        have i_42 : z_41.toInt = 28 + p0.toInt := in_add ez_41 (show IV 28 28 28 from (by decide)) iv_10 (by decide) (by decide)
        have iv_43 : IV z_41 28 33 := by have := (show IV 28 28 28 from (by decide)); have := iv_10; rw [IV, i_42]; omega
        refine k_iald X dX11_mend_69 2 rfl (iv_in iv_43 (by decide) (by decide)) ?_
        refine k_nm (fun z_44 ez_44 => ?_)
        refine k_istore_n [(3, .int z_44), (2, .int z_18), (0, .ref h0), (1, .int p0)] X dX11_mend_70 (by decide) rfl ?_
        refine k_aload_n X dX11_mend_71 2 rfl ?_
        refine k_get (ci := 11) X inlX11 rfl 17 (by decide) dX11_mend_72 mw172 1 rfl rfl ?_
        refine k_iconst (v := 0) X dX11_mend_75 (by decide) ?_
        refine k_iload_n X dX11_mend_76 1 rfl ?_
        refine k_iadd X dX11_mend_77 ?_
        refine k_to z_30 ez_30.symm ?_
        refine k_dup2 X dX11_mend_78 rfl rfl ?_
        refine k_iald X dX11_mend_79 2 rfl (iv_in iv_32 (by decide) (by decide)) ?_
        refine k_to z_33 ez_33.symm ?_
        refine k_iconst (v := 2) X dX11_mend_80 (by decide) ?_
        refine k_isub X dX11_mend_81 ?_
        refine k_nm (fun z_45 ez_45 => ?_)
        have i_46 : z_45.toInt = z_33.toInt - 2 := in_sub ez_45 iv_36 (show IV 2 2 2 from (by decide)) (by decide) (by decide)
        have iv_47 : IV z_45 4 2147483645 := by have := iv_36; have := (show IV 2 2 2 from (by decide)); rw [IV, i_46]; omega
        refine k_iast [(a_r, .inl (g.2.2.1, 311, .inl d_r)), (h0, .inr (11, [.int m_thrown2_1, .ref a_tape, .int m_taped, .int m_size, .int m_at, .int m_end, .int m_token, .int m_whole, .int m_nameSize, .int m_fault, .int m_place, .int m_trouble2_2, .ref a_letters, .int m_failed, .int m_hasHouse, .ref a_r, .ref a_fresh, .ref a_st, .ref a_undone, .ref a_kept, .int m_undos2_38, .int m_images, .ref a_from, .ref a_begin, .ref a_motor, .ref a_change, .ref a_startFrame, .ref a_changeFrame, .ref a_lostAt, .ref a_blackAt, .ref a_slips, .ref a_leftArc, .ref a_died, .ref a_arcs, .int m_bestSum, .int m_nearest, .int m_nearestTown, .ref a_there, .ref a_backAt, .ref a_sorted, .ref a_parts, .int m_seed1, .int m_darkNow])), (a_st, .inl (g.2.2.1, 44, .inl (upd d_st (z_30 : Int32).toNatClampNeg z_45))), (a_undone, .inl (g.2.2.1, 528, .inl d_undone2_37))] X dX11_mend_82 2 rfl (iv_in iv_32 (by decide) (by decide)) rfl ?_
        refine (fun hg : ∀ fa_48 : Nat → Int32, Wk p l e _ s m args below meth c _ A g _ _ _ [(a_r, .inl (g.2.2.1, 311, .inl d_r)), (h0, .inr (11, [.int m_thrown2_1, .ref a_tape, .int m_taped, .int m_size, .int m_at, .int m_end, .int m_token, .int m_whole, .int m_nameSize, .int m_fault, .int m_place, .int m_trouble2_2, .ref a_letters, .int m_failed, .int m_hasHouse, .ref a_r, .ref a_fresh, .ref a_st, .ref a_undone, .ref a_kept, .int m_undos2_38, .int m_images, .ref a_from, .ref a_begin, .ref a_motor, .ref a_change, .ref a_startFrame, .ref a_changeFrame, .ref a_lostAt, .ref a_blackAt, .ref a_slips, .ref a_leftArc, .ref a_died, .ref a_arcs, .int m_bestSum, .int m_nearest, .int m_nearestTown, .ref a_there, .ref a_backAt, .ref a_sorted, .ref a_parts, .int m_seed1, .int m_darkNow])), (a_st, .inl (g.2.2.1, 44, .inl fa_48)), (a_undone, .inl (g.2.2.1, 528, .inl d_undone2_37))] _ _ _ => hg _) (fun fa_48 => ?_)
        refine k_aload_n X dX11_mend_83 2 rfl ?_
        refine k_get (ci := 11) X inlX11 rfl 17 (by decide) dX11_mend_84 mw172 1 rfl rfl ?_
        refine k_iconst (v := 0) X dX11_mend_87 (by decide) ?_
        refine k_iload_n X dX11_mend_88 1 rfl ?_
        refine k_iadd X dX11_mend_89 ?_
        refine k_to z_30 ez_30.symm ?_
        refine k_iald X dX11_mend_90 2 rfl (iv_in iv_32 (by decide) (by decide)) ?_
        refine k_nm (fun z_49 ez_49 => ?_)
        refine k_istore [(4, .int z_49), (3, .int z_44), (2, .int z_18), (0, .ref h0), (1, .int p0)] X dX11_mend_91 (by decide) rfl ?_
        refine k_aload_n X dX11_mend_93 3 rfl ?_
        refine k_get (ci := 11) X inlX11 rfl 17 (by decide) dX11_mend_94 mw172 1 rfl rfl ?_
        refine k_bipush (v := 8) X dX11_mend_97 (by decide) ?_
        refine k_iload_n X dX11_mend_99 2 rfl ?_
        refine k_iadd X dX11_mend_100 ?_
        refine k_nm (fun z_50 ez_50 => ?_)
        have i_51 : z_50.toInt = 8 + z_18.toInt := in_add ez_50 (show IV 8 8 8 from (by decide)) iv_20 (by decide) (by decide)
        have iv_52 : IV z_50 8 15 := by have := (show IV 8 8 8 from (by decide)); have := iv_20; rw [IV, i_51]; omega
        refine k_aload_n X dX11_mend_101 3 rfl ?_
        refine k_get (ci := 11) X inlX11 rfl 17 (by decide) dX11_mend_102 mw172 1 rfl rfl ?_
        refine k_bipush (v := 8) X dX11_mend_105 (by decide) ?_
        refine k_iload_n X dX11_mend_107 2 rfl ?_
        refine k_iadd X dX11_mend_108 ?_
        refine k_to z_50 ez_50.symm ?_
        refine k_iald X dX11_mend_109 2 rfl (iv_in iv_52 (by decide) (by decide)) ?_
        refine k_nm (fun z_53 ez_53 => ?_)
        refine k_iload_n X dX11_mend_110 1 rfl ?_
        refine k_iload X dX11_mend_111 0 rfl ?_
        refine k_callSI (n := 3) (As := [.int z_53, .int z_44, .int z_49]) (st := [.int z_50, .ref a_st]) X [] [(a_r, .inl (g.2.2.1, 311, .inl d_r)), (h0, .inr (11, [.int m_thrown2_1, .ref a_tape, .int m_taped, .int m_size, .int m_at, .int m_end, .int m_token, .int m_whole, .int m_nameSize, .int m_fault, .int m_place, .int m_trouble2_2, .ref a_letters, .int m_failed, .int m_hasHouse, .ref a_r, .ref a_fresh, .ref a_st, .ref a_undone, .ref a_kept, .int m_undos2_38, .int m_images, .ref a_from, .ref a_begin, .ref a_motor, .ref a_change, .ref a_startFrame, .ref a_changeFrame, .ref a_lostAt, .ref a_blackAt, .ref a_slips, .ref a_leftArc, .ref a_died, .ref a_arcs, .int m_bestSum, .int m_nearest, .int m_nearestTown, .ref a_there, .ref a_backAt, .ref a_sorted, .ref a_parts, .int m_seed1, .int m_darkNow])), (a_st, .inl (g.2.2.1, 44, .inl fa_48)), (a_undone, .inl (g.2.2.1, 528, .inl d_undone2_37))] [] [0, 1, 2, 3] (m_shifted l g z_53 z_44 z_49) dX11_mend_113 mw1508 mw1509 mw5 mw1510 (by unfold yOk; decide) rfl (Nat.le_of_ble_eq_true rfl) (Nat.le_of_ble_eq_true rfl) (Nat.le_of_ble_eq_true rfl) (Nat.le_of_ble_eq_true rfl) (Nat.le_of_ble_eq_true rfl) rfl rfl (by decide) rfl (by decide) (by decide) ?_
        rintro r_54 w rfl
        refine k_ws [(a_r, .inl (g.2.2.1, 311, .inl d_r)), (h0, .inr (11, [.int m_thrown2_1, .ref a_tape, .int m_taped, .int m_size, .int m_at, .int m_end, .int m_token, .int m_whole, .int m_nameSize, .int m_fault, .int m_place, .int m_trouble2_2, .ref a_letters, .int m_failed, .int m_hasHouse, .ref a_r, .ref a_fresh, .ref a_st, .ref a_undone, .ref a_kept, .int m_undos2_38, .int m_images, .ref a_from, .ref a_begin, .ref a_motor, .ref a_change, .ref a_startFrame, .ref a_changeFrame, .ref a_lostAt, .ref a_blackAt, .ref a_slips, .ref a_leftArc, .ref a_died, .ref a_arcs, .int m_bestSum, .int m_nearest, .int m_nearestTown, .ref a_there, .ref a_backAt, .ref a_sorted, .ref a_parts, .int m_seed1, .int m_darkNow])), (a_st, .inl (g.2.2.1, 44, .inl fa_48)), (a_undone, .inl (g.2.2.1, 528, .inl d_undone2_37))] rfl ?_
        refine k_iast [(a_r, .inl (g.2.2.1, 311, .inl d_r)), (h0, .inr (11, [.int m_thrown2_1, .ref a_tape, .int m_taped, .int m_size, .int m_at, .int m_end, .int m_token, .int m_whole, .int m_nameSize, .int m_fault, .int m_place, .int m_trouble2_2, .ref a_letters, .int m_failed, .int m_hasHouse, .ref a_r, .ref a_fresh, .ref a_st, .ref a_undone, .ref a_kept, .int m_undos2_38, .int m_images, .ref a_from, .ref a_begin, .ref a_motor, .ref a_change, .ref a_startFrame, .ref a_changeFrame, .ref a_lostAt, .ref a_blackAt, .ref a_slips, .ref a_leftArc, .ref a_died, .ref a_arcs, .int m_bestSum, .int m_nearest, .int m_nearestTown, .ref a_there, .ref a_backAt, .ref a_sorted, .ref a_parts, .int m_seed1, .int m_darkNow])), (a_st, .inl (g.2.2.1, 44, .inl (upd fa_48 (z_50 : Int32).toNatClampNeg r_54))), (a_undone, .inl (g.2.2.1, 528, .inl d_undone2_37))] X dX11_mend_116 2 rfl (iv_in iv_52 (by decide) (by decide)) rfl ?_
        refine (fun hg : ∀ fa_55 : Nat → Int32, Wk p l e _ s m args below meth c _ A g _ _ _ [(a_r, .inl (g.2.2.1, 311, .inl d_r)), (h0, .inr (11, [.int m_thrown2_1, .ref a_tape, .int m_taped, .int m_size, .int m_at, .int m_end, .int m_token, .int m_whole, .int m_nameSize, .int m_fault, .int m_place, .int m_trouble2_2, .ref a_letters, .int m_failed, .int m_hasHouse, .ref a_r, .ref a_fresh, .ref a_st, .ref a_undone, .ref a_kept, .int m_undos2_38, .int m_images, .ref a_from, .ref a_begin, .ref a_motor, .ref a_change, .ref a_startFrame, .ref a_changeFrame, .ref a_lostAt, .ref a_blackAt, .ref a_slips, .ref a_leftArc, .ref a_died, .ref a_arcs, .int m_bestSum, .int m_nearest, .int m_nearestTown, .ref a_there, .ref a_backAt, .ref a_sorted, .ref a_parts, .int m_seed1, .int m_darkNow])), (a_st, .inl (g.2.2.1, 44, .inl fa_55)), (a_undone, .inl (g.2.2.1, 528, .inl d_undone2_37))] _ _ _ => hg _) (fun fa_55 => ?_)
        refine k_iconst (v := 0) X dX11_mend_117 (by decide) ?_
        refine k_istore [(5, .int 0), (4, .int z_49), (3, .int z_44), (2, .int z_18), (0, .ref h0), (1, .int p0)] X dX11_mend_118 (by decide) rfl ?_
        refine (fun hL : ∀ (nn_59 : Nat) (uf_56 : Nat → Int32) (u_57 : Int32), (2147483647 - u_57.toInt).toNat = nn_59 → (IV u_57 0 255) → Wk p l e _ s m args below meth c _ A g _ _ _ [(a_r, .inl (g.2.2.1, 311, .inl d_r)), (h0, .inr (11, [.int m_thrown2_1, .ref a_tape, .int m_taped, .int m_size, .int m_at, .int m_end, .int m_token, .int m_whole, .int m_nameSize, .int m_fault, .int m_place, .int m_trouble2_2, .ref a_letters, .int m_failed, .int m_hasHouse, .ref a_r, .ref a_fresh, .ref a_st, .ref a_undone, .ref a_kept, .int m_undos2_38, .int m_images, .ref a_from, .ref a_begin, .ref a_motor, .ref a_change, .ref a_startFrame, .ref a_changeFrame, .ref a_lostAt, .ref a_blackAt, .ref a_slips, .ref a_leftArc, .ref a_died, .ref a_arcs, .int m_bestSum, .int m_nearest, .int m_nearestTown, .ref a_there, .ref a_backAt, .ref a_sorted, .ref a_parts, .int m_seed1, .int m_darkNow])), (a_st, .inl (g.2.2.1, 44, .inl uf_56)), (a_undone, .inl (g.2.2.1, 528, .inl d_undone2_37))] [(5, .int u_57), (4, .int z_49), (3, .int z_44), (2, .int z_18), (0, .ref h0), (1, .int p0)] 120 [] => hL _ fa_55 0 rfl (iv_w (show IV 0 0 0 from (by decide)) (by decide) (by decide))) ?_
        refine fun nn_59 => Nat.strongRecOn nn_59 (fun nn_59 ih_61 => ?_)
        intro uf_56 u_57 hm_60 hv_58
        refine k_iload X dX11_mend_120 0 rfl ?_
        refine k_aload_n X dX11_mend_122 4 rfl ?_
        refine k_get (ci := 11) X inlX11 rfl 15 (by decide) dX11_mend_123 mw170 1 rfl rfl ?_
        refine k_bipush (v := 8) X dX11_mend_126 (by decide) ?_
        refine k_iald X dX11_mend_128 0 rfl (by unfold vp_in; decide) ?_
        refine k_nm (fun z_62 ez_62 => ?_)
        have i_63 : z_62.toInt = (d_r 8).toInt := by rw [ez_62]; rfl
        have iv_64 : IV z_62 0 12 := rb_8 ez_62 hp_d_r
        refine k_ic_ge 180 X dX11_mend_129 (by decide) (fun h_65 => ?_) (fun h_65 => ?_)
        · skip
          have j_66 : z_62.toInt ≤ u_57.toInt := iv_le h_65
          refine k_iconst (v := 0) X dX11_mend_180 (by decide) ?_
          refine k_istore [(5, .int 0), (4, .int z_49), (3, .int z_44), (2, .int z_18), (0, .ref h0), (1, .int p0)] X dX11_mend_181 (by decide) rfl ?_
          refine (fun hL : ∀ (nn_70 : Nat) (uf_67 : Nat → Int32) (u_68 : Int32), (2147483647 - u_68.toInt).toNat = nn_70 → (IV u_68 0 8) → Wk p l e _ s m args below meth c _ A g _ _ _ [(a_r, .inl (g.2.2.1, 311, .inl d_r)), (h0, .inr (11, [.int m_thrown2_1, .ref a_tape, .int m_taped, .int m_size, .int m_at, .int m_end, .int m_token, .int m_whole, .int m_nameSize, .int m_fault, .int m_place, .int m_trouble2_2, .ref a_letters, .int m_failed, .int m_hasHouse, .ref a_r, .ref a_fresh, .ref a_st, .ref a_undone, .ref a_kept, .int m_undos2_38, .int m_images, .ref a_from, .ref a_begin, .ref a_motor, .ref a_change, .ref a_startFrame, .ref a_changeFrame, .ref a_lostAt, .ref a_blackAt, .ref a_slips, .ref a_leftArc, .ref a_died, .ref a_arcs, .int m_bestSum, .int m_nearest, .int m_nearestTown, .ref a_there, .ref a_backAt, .ref a_sorted, .ref a_parts, .int m_seed1, .int m_darkNow])), (a_st, .inl (g.2.2.1, 44, .inl uf_67)), (a_undone, .inl (g.2.2.1, 528, .inl d_undone2_37))] [(5, .int u_68), (4, .int z_49), (3, .int z_44), (2, .int z_18), (0, .ref h0), (1, .int p0)] 183 [] => hL _ uf_56 0 rfl (iv_w (show IV 0 0 0 from (by decide)) (by decide) (by decide))) ?_
          refine fun nn_70 => Nat.strongRecOn nn_70 (fun nn_70 ih_72 => ?_)
          intro uf_67 u_68 hm_71 hv_69
          refine k_iload X dX11_mend_183 0 rfl ?_
          refine k_aload_n X dX11_mend_185 4 rfl ?_
          refine k_get (ci := 11) X inlX11 rfl 15 (by decide) dX11_mend_186 mw170 1 rfl rfl ?_
          refine k_bipush (v := 10) X dX11_mend_189 (by decide) ?_
          refine k_iald X dX11_mend_191 0 rfl (by unfold vp_in; decide) ?_
          refine k_nm (fun z_73 ez_73 => ?_)
          have i_74 : z_73.toInt = (d_r 10).toInt := by rw [ez_73]; rfl
          have iv_75 : IV z_73 0 6 := rb_10 ez_73 hp_d_r
          refine k_ic_ge 243 X dX11_mend_192 (by decide) (fun h_76 => ?_) (fun h_76 => ?_)
          · skip
            have j_77 : z_73.toInt ≤ u_68.toInt := iv_le h_76
            refine k_aload_n X dX11_mend_243 4 rfl ?_
            refine k_get (ci := 11) X inlX11 rfl 17 (by decide) dX11_mend_244 mw172 1 rfl rfl ?_
            refine k_bipush (v := 43) X dX11_mend_247 (by decide) ?_
            refine k_dup2 X dX11_mend_249 rfl rfl ?_
            refine k_iald X dX11_mend_250 2 rfl (by unfold vp_in; decide) ?_
            refine k_nm (fun z_78 ez_78 => ?_)
            refine k_iconst (v := 1) X dX11_mend_251 (by decide) ?_
            refine k_iload_n X dX11_mend_252 5 rfl ?_
            refine k_ishl X dX11_mend_253 ?_
            refine k_nm (fun z_79 ez_79 => ?_)
            have iv_80 : IV z_79 1 256 := iv_shl ez_79 (iv_w iv_10 (by decide) (by decide))
            refine k_ior X dX11_mend_254 ?_
            refine k_nm (fun z_81 ez_81 => ?_)
            refine k_iast [(a_r, .inl (g.2.2.1, 311, .inl d_r)), (h0, .inr (11, [.int m_thrown2_1, .ref a_tape, .int m_taped, .int m_size, .int m_at, .int m_end, .int m_token, .int m_whole, .int m_nameSize, .int m_fault, .int m_place, .int m_trouble2_2, .ref a_letters, .int m_failed, .int m_hasHouse, .ref a_r, .ref a_fresh, .ref a_st, .ref a_undone, .ref a_kept, .int m_undos2_38, .int m_images, .ref a_from, .ref a_begin, .ref a_motor, .ref a_change, .ref a_startFrame, .ref a_changeFrame, .ref a_lostAt, .ref a_blackAt, .ref a_slips, .ref a_leftArc, .ref a_died, .ref a_arcs, .int m_bestSum, .int m_nearest, .int m_nearestTown, .ref a_there, .ref a_backAt, .ref a_sorted, .ref a_parts, .int m_seed1, .int m_darkNow])), (a_st, .inl (g.2.2.1, 44, .inl (upd uf_67 (43 : Int32).toNatClampNeg z_81))), (a_undone, .inl (g.2.2.1, 528, .inl d_undone2_37))] X dX11_mend_255 2 rfl (by unfold vp_in; decide) rfl ?_
            refine (fun hg : ∀ fa_82 : Nat → Int32, Wk p l e _ s m args below meth c _ A g _ _ _ [(a_r, .inl (g.2.2.1, 311, .inl d_r)), (h0, .inr (11, [.int m_thrown2_1, .ref a_tape, .int m_taped, .int m_size, .int m_at, .int m_end, .int m_token, .int m_whole, .int m_nameSize, .int m_fault, .int m_place, .int m_trouble2_2, .ref a_letters, .int m_failed, .int m_hasHouse, .ref a_r, .ref a_fresh, .ref a_st, .ref a_undone, .ref a_kept, .int m_undos2_38, .int m_images, .ref a_from, .ref a_begin, .ref a_motor, .ref a_change, .ref a_startFrame, .ref a_changeFrame, .ref a_lostAt, .ref a_blackAt, .ref a_slips, .ref a_leftArc, .ref a_died, .ref a_arcs, .int m_bestSum, .int m_nearest, .int m_nearestTown, .ref a_there, .ref a_backAt, .ref a_sorted, .ref a_parts, .int m_seed1, .int m_darkNow])), (a_st, .inl (g.2.2.1, 44, .inl fa_82)), (a_undone, .inl (g.2.2.1, 528, .inl d_undone2_37))] _ _ _ => hg _) (fun fa_82 => ?_)
            refine k_iload X dX11_mend_256 1 rfl ?_
            exact k_iret X hr dX11_mend_258 (Nat.le_of_ble_eq_true rfl) (Nat.le_of_ble_eq_true rfl) [1, 0, 2, 3] (by decide) rfl rfl ⟨fa_82, m_thrown2_1, m_trouble2_2, d_undone2_37, m_undos2_38, (iv_w iv_40 (by decide) (by decide)), (by assumption), rfl⟩
          · skip
            have j_83 : u_68.toInt < z_73.toInt := iv_nle h_76
            have iv_84 : IV u_68 0 5 := iv_ltL (iv_nle h_76) hv_69 iv_75 (by decide)
            have iv_85 : IV z_73 1 6 := iv_ltR (iv_nle h_76) hv_69 iv_75 (by decide)
            refine k_aload_n X dX11_mend_195 4 rfl ?_
            refine k_get (ci := 11) X inlX11 rfl 15 (by decide) dX11_mend_196 mw170 1 rfl rfl ?_
            refine k_bipush (v := 96) X dX11_mend_199 (by decide) ?_
            refine k_iconst (v := 3) X dX11_mend_201 (by decide) ?_
            refine k_iload X dX11_mend_202 0 rfl ?_
            refine k_imul X dX11_mend_204 ?_
            refine k_nm (fun z_86 ez_86 => ?_)
            have i_87 : z_86.toInt = 3 * u_68.toInt := in_mul ez_86 (by decide) (by decide) iv_84 (by decide) (by decide)
            have iv_88 : IV z_86 0 15 := by have := (show IV 3 3 3 from (by decide)); have := iv_84; rw [IV, i_87]; omega
            refine k_iadd X dX11_mend_205 ?_
            refine k_nm (fun z_89 ez_89 => ?_)
            have i_90 : z_89.toInt = 96 + z_86.toInt := in_add ez_89 (show IV 96 96 96 from (by decide)) iv_88 (by decide) (by decide)
            have iv_91 : IV z_89 96 111 := by have := (show IV 96 96 96 from (by decide)); have := iv_88; rw [IV, i_90]; omega
            refine k_iald X dX11_mend_206 0 rfl (iv_in iv_91 (by decide) (by decide)) ?_
            refine k_nm (fun z_92 ez_92 => ?_)
            have i_93 : z_89.toInt = 96 + 3 * u_68.toInt := by omega
            have iv_94 : IV z_92 0 7 := rb_96_3 ez_92 hp_d_r i_93 (iv_w iv_84 (by decide) (by decide))
            refine k_iload_n X dX11_mend_207 3 rfl ?_
            refine k_ic_ne 237 X dX11_mend_208 (by decide) (fun h_95 => ?_) (fun h_95 => ?_)
            · skip
              obtain ⟨z_96, ez_96⟩ : ∃ y : Int32, u_68 + Int32.ofInt 1 = y := ⟨_, rfl⟩
              refine k_iinc z_96 [(5, .int z_96), (4, .int z_49), (3, .int z_44), (2, .int z_18), (0, .ref h0), (1, .int p0)] 0 X dX11_mend_237 rfl ez_96 (by decide) rfl ?_
              have i_97 : z_96.toInt = u_68.toInt + 1 := in_inc ez_96 (by decide) iv_84 (by decide) (by decide)
              have iv_98 : IV z_96 1 6 := by have := iv_84; rw [IV, i_97]; omega
              refine k_goto 183 X dX11_mend_240 (by decide) ?_
              exact ih_72 _ (by omega) uf_67 z_96 rfl (iv_w iv_98 (by decide) (by decide))
            · skip
              refine k_aload_n X dX11_mend_211 4 rfl ?_
              refine k_get (ci := 11) X inlX11 rfl 17 (by decide) dX11_mend_212 mw172 1 rfl rfl ?_
              refine k_bipush (v := 28) X dX11_mend_215 (by decide) ?_
              refine k_iload X dX11_mend_217 0 rfl ?_
              refine k_iadd X dX11_mend_219 ?_
              refine k_nm (fun z_99 ez_99 => ?_)
              have i_100 : z_99.toInt = 28 + u_68.toInt := in_add ez_99 (show IV 28 28 28 from (by decide)) iv_84 (by decide) (by decide)
              have iv_101 : IV z_99 28 33 := by have := (show IV 28 28 28 from (by decide)); have := iv_84; rw [IV, i_100]; omega
              refine k_aload_n X dX11_mend_220 4 rfl ?_
              refine k_get (ci := 11) X inlX11 rfl 17 (by decide) dX11_mend_221 mw172 1 rfl rfl ?_
              refine k_bipush (v := 28) X dX11_mend_224 (by decide) ?_
              refine k_iload X dX11_mend_226 0 rfl ?_
              refine k_iadd X dX11_mend_228 ?_
              refine k_to z_99 ez_99.symm ?_
              refine k_iald X dX11_mend_229 2 rfl (iv_in iv_101 (by decide) (by decide)) ?_
              refine k_nm (fun z_102 ez_102 => ?_)
              refine k_iload_n X dX11_mend_230 2 rfl ?_
              refine k_iload X dX11_mend_231 1 rfl ?_
              refine k_callSI (n := 3) (As := [.int z_102, .int z_44, .int z_49]) (st := [.int z_99, .ref a_st]) X [] [(a_r, .inl (g.2.2.1, 311, .inl d_r)), (h0, .inr (11, [.int m_thrown2_1, .ref a_tape, .int m_taped, .int m_size, .int m_at, .int m_end, .int m_token, .int m_whole, .int m_nameSize, .int m_fault, .int m_place, .int m_trouble2_2, .ref a_letters, .int m_failed, .int m_hasHouse, .ref a_r, .ref a_fresh, .ref a_st, .ref a_undone, .ref a_kept, .int m_undos2_38, .int m_images, .ref a_from, .ref a_begin, .ref a_motor, .ref a_change, .ref a_startFrame, .ref a_changeFrame, .ref a_lostAt, .ref a_blackAt, .ref a_slips, .ref a_leftArc, .ref a_died, .ref a_arcs, .int m_bestSum, .int m_nearest, .int m_nearestTown, .ref a_there, .ref a_backAt, .ref a_sorted, .ref a_parts, .int m_seed1, .int m_darkNow])), (a_st, .inl (g.2.2.1, 44, .inl uf_67)), (a_undone, .inl (g.2.2.1, 528, .inl d_undone2_37))] [] [0, 1, 2, 3] (m_shifted l g z_102 z_44 z_49) dX11_mend_233 mw1508 mw1509 mw5 mw1510 (by unfold yOk; decide) rfl (Nat.le_of_ble_eq_true rfl) (Nat.le_of_ble_eq_true rfl) (Nat.le_of_ble_eq_true rfl) (Nat.le_of_ble_eq_true rfl) (Nat.le_of_ble_eq_true rfl) rfl rfl (by decide) rfl (by decide) (by decide) ?_
              rintro r_103 w rfl
              refine k_ws [(a_r, .inl (g.2.2.1, 311, .inl d_r)), (h0, .inr (11, [.int m_thrown2_1, .ref a_tape, .int m_taped, .int m_size, .int m_at, .int m_end, .int m_token, .int m_whole, .int m_nameSize, .int m_fault, .int m_place, .int m_trouble2_2, .ref a_letters, .int m_failed, .int m_hasHouse, .ref a_r, .ref a_fresh, .ref a_st, .ref a_undone, .ref a_kept, .int m_undos2_38, .int m_images, .ref a_from, .ref a_begin, .ref a_motor, .ref a_change, .ref a_startFrame, .ref a_changeFrame, .ref a_lostAt, .ref a_blackAt, .ref a_slips, .ref a_leftArc, .ref a_died, .ref a_arcs, .int m_bestSum, .int m_nearest, .int m_nearestTown, .ref a_there, .ref a_backAt, .ref a_sorted, .ref a_parts, .int m_seed1, .int m_darkNow])), (a_st, .inl (g.2.2.1, 44, .inl uf_67)), (a_undone, .inl (g.2.2.1, 528, .inl d_undone2_37))] rfl ?_
              refine k_iast [(a_r, .inl (g.2.2.1, 311, .inl d_r)), (h0, .inr (11, [.int m_thrown2_1, .ref a_tape, .int m_taped, .int m_size, .int m_at, .int m_end, .int m_token, .int m_whole, .int m_nameSize, .int m_fault, .int m_place, .int m_trouble2_2, .ref a_letters, .int m_failed, .int m_hasHouse, .ref a_r, .ref a_fresh, .ref a_st, .ref a_undone, .ref a_kept, .int m_undos2_38, .int m_images, .ref a_from, .ref a_begin, .ref a_motor, .ref a_change, .ref a_startFrame, .ref a_changeFrame, .ref a_lostAt, .ref a_blackAt, .ref a_slips, .ref a_leftArc, .ref a_died, .ref a_arcs, .int m_bestSum, .int m_nearest, .int m_nearestTown, .ref a_there, .ref a_backAt, .ref a_sorted, .ref a_parts, .int m_seed1, .int m_darkNow])), (a_st, .inl (g.2.2.1, 44, .inl (upd uf_67 (z_99 : Int32).toNatClampNeg r_103))), (a_undone, .inl (g.2.2.1, 528, .inl d_undone2_37))] X dX11_mend_236 2 rfl (iv_in iv_101 (by decide) (by decide)) rfl ?_
              refine (fun hg : ∀ fa_104 : Nat → Int32, Wk p l e _ s m args below meth c _ A g _ _ _ [(a_r, .inl (g.2.2.1, 311, .inl d_r)), (h0, .inr (11, [.int m_thrown2_1, .ref a_tape, .int m_taped, .int m_size, .int m_at, .int m_end, .int m_token, .int m_whole, .int m_nameSize, .int m_fault, .int m_place, .int m_trouble2_2, .ref a_letters, .int m_failed, .int m_hasHouse, .ref a_r, .ref a_fresh, .ref a_st, .ref a_undone, .ref a_kept, .int m_undos2_38, .int m_images, .ref a_from, .ref a_begin, .ref a_motor, .ref a_change, .ref a_startFrame, .ref a_changeFrame, .ref a_lostAt, .ref a_blackAt, .ref a_slips, .ref a_leftArc, .ref a_died, .ref a_arcs, .int m_bestSum, .int m_nearest, .int m_nearestTown, .ref a_there, .ref a_backAt, .ref a_sorted, .ref a_parts, .int m_seed1, .int m_darkNow])), (a_st, .inl (g.2.2.1, 44, .inl fa_104)), (a_undone, .inl (g.2.2.1, 528, .inl d_undone2_37))] _ _ _ => hg _) (fun fa_104 => ?_)
              obtain ⟨z_105, ez_105⟩ : ∃ y : Int32, u_68 + Int32.ofInt 1 = y := ⟨_, rfl⟩
              refine k_iinc z_105 [(5, .int z_105), (4, .int z_49), (3, .int z_44), (2, .int z_18), (0, .ref h0), (1, .int p0)] 0 X dX11_mend_237 rfl ez_105 (by decide) rfl ?_
              have i_106 : z_105.toInt = u_68.toInt + 1 := in_inc ez_105 (by decide) iv_84 (by decide) (by decide)
              have iv_107 : IV z_105 1 6 := by have := iv_84; rw [IV, i_106]; omega
              refine k_goto 183 X dX11_mend_240 (by decide) ?_
              exact ih_72 _ (by omega) fa_104 z_105 rfl (iv_w iv_107 (by decide) (by decide))
        · skip
          have j_108 : u_57.toInt < z_62.toInt := iv_nle h_65
          have iv_109 : IV u_57 0 11 := iv_ltL (iv_nle h_65) hv_58 iv_64 (by decide)
          have iv_110 : IV z_62 1 12 := iv_ltR (iv_nle h_65) hv_58 iv_64 (by decide)
          refine k_aload_n X dX11_mend_132 4 rfl ?_
          refine k_get (ci := 11) X inlX11 rfl 15 (by decide) dX11_mend_133 mw170 1 rfl rfl ?_
          refine k_bipush (v := 44) X dX11_mend_136 (by decide) ?_
          refine k_iconst (v := 3) X dX11_mend_138 (by decide) ?_
          refine k_iload X dX11_mend_139 0 rfl ?_
          refine k_imul X dX11_mend_141 ?_
          refine k_nm (fun z_111 ez_111 => ?_)
          have i_112 : z_111.toInt = 3 * u_57.toInt := in_mul ez_111 (by decide) (by decide) iv_109 (by decide) (by decide)
          have iv_113 : IV z_111 0 33 := by have := (show IV 3 3 3 from (by decide)); have := iv_109; rw [IV, i_112]; omega
          refine k_iadd X dX11_mend_142 ?_
          refine k_nm (fun z_114 ez_114 => ?_)
          have i_115 : z_114.toInt = 44 + z_111.toInt := in_add ez_114 (show IV 44 44 44 from (by decide)) iv_113 (by decide) (by decide)
          have iv_116 : IV z_114 44 77 := by have := (show IV 44 44 44 from (by decide)); have := iv_113; rw [IV, i_115]; omega
          refine k_iald X dX11_mend_143 0 rfl (iv_in iv_116 (by decide) (by decide)) ?_
          refine k_nm (fun z_117 ez_117 => ?_)
          have i_118 : z_114.toInt = 44 + 3 * u_57.toInt := by omega
          have iv_119 : IV z_117 0 7 := rb_44_3 ez_117 hp_d_r i_118 (iv_w iv_109 (by decide) (by decide))
          refine k_iload_n X dX11_mend_144 3 rfl ?_
          refine k_ic_ne 174 X dX11_mend_145 (by decide) (fun h_120 => ?_) (fun h_120 => ?_)
          · skip
            obtain ⟨z_121, ez_121⟩ : ∃ y : Int32, u_57 + Int32.ofInt 1 = y := ⟨_, rfl⟩
            refine k_iinc z_121 [(5, .int z_121), (4, .int z_49), (3, .int z_44), (2, .int z_18), (0, .ref h0), (1, .int p0)] 0 X dX11_mend_174 rfl ez_121 (by decide) rfl ?_
            have i_122 : z_121.toInt = u_57.toInt + 1 := in_inc ez_121 (by decide) iv_109 (by decide) (by decide)
            have iv_123 : IV z_121 1 12 := by have := iv_109; rw [IV, i_122]; omega
            refine k_goto 120 X dX11_mend_177 (by decide) ?_
            exact ih_61 _ (by omega) uf_56 z_121 rfl (iv_w iv_123 (by decide) (by decide))
          · skip
            refine k_aload_n X dX11_mend_148 4 rfl ?_
            refine k_get (ci := 11) X inlX11 rfl 17 (by decide) dX11_mend_149 mw172 1 rfl rfl ?_
            refine k_bipush (v := 16) X dX11_mend_152 (by decide) ?_
            refine k_iload X dX11_mend_154 0 rfl ?_
            refine k_iadd X dX11_mend_156 ?_
            refine k_nm (fun z_124 ez_124 => ?_)
            have i_125 : z_124.toInt = 16 + u_57.toInt := in_add ez_124 (show IV 16 16 16 from (by decide)) iv_109 (by decide) (by decide)
            have iv_126 : IV z_124 16 27 := by have := (show IV 16 16 16 from (by decide)); have := iv_109; rw [IV, i_125]; omega
            refine k_aload_n X dX11_mend_157 4 rfl ?_
            refine k_get (ci := 11) X inlX11 rfl 17 (by decide) dX11_mend_158 mw172 1 rfl rfl ?_
            refine k_bipush (v := 16) X dX11_mend_161 (by decide) ?_
            refine k_iload X dX11_mend_163 0 rfl ?_
            refine k_iadd X dX11_mend_165 ?_
            refine k_to z_124 ez_124.symm ?_
            refine k_iald X dX11_mend_166 2 rfl (iv_in iv_126 (by decide) (by decide)) ?_
            refine k_nm (fun z_127 ez_127 => ?_)
            refine k_iload_n X dX11_mend_167 2 rfl ?_
            refine k_iload X dX11_mend_168 1 rfl ?_
            refine k_callSI (n := 3) (As := [.int z_127, .int z_44, .int z_49]) (st := [.int z_124, .ref a_st]) X [] [(a_r, .inl (g.2.2.1, 311, .inl d_r)), (h0, .inr (11, [.int m_thrown2_1, .ref a_tape, .int m_taped, .int m_size, .int m_at, .int m_end, .int m_token, .int m_whole, .int m_nameSize, .int m_fault, .int m_place, .int m_trouble2_2, .ref a_letters, .int m_failed, .int m_hasHouse, .ref a_r, .ref a_fresh, .ref a_st, .ref a_undone, .ref a_kept, .int m_undos2_38, .int m_images, .ref a_from, .ref a_begin, .ref a_motor, .ref a_change, .ref a_startFrame, .ref a_changeFrame, .ref a_lostAt, .ref a_blackAt, .ref a_slips, .ref a_leftArc, .ref a_died, .ref a_arcs, .int m_bestSum, .int m_nearest, .int m_nearestTown, .ref a_there, .ref a_backAt, .ref a_sorted, .ref a_parts, .int m_seed1, .int m_darkNow])), (a_st, .inl (g.2.2.1, 44, .inl uf_56)), (a_undone, .inl (g.2.2.1, 528, .inl d_undone2_37))] [] [0, 1, 2, 3] (m_shifted l g z_127 z_44 z_49) dX11_mend_170 mw1508 mw1509 mw5 mw1510 (by unfold yOk; decide) rfl (Nat.le_of_ble_eq_true rfl) (Nat.le_of_ble_eq_true rfl) (Nat.le_of_ble_eq_true rfl) (Nat.le_of_ble_eq_true rfl) (Nat.le_of_ble_eq_true rfl) rfl rfl (by decide) rfl (by decide) (by decide) ?_
            rintro r_128 w rfl
            refine k_ws [(a_r, .inl (g.2.2.1, 311, .inl d_r)), (h0, .inr (11, [.int m_thrown2_1, .ref a_tape, .int m_taped, .int m_size, .int m_at, .int m_end, .int m_token, .int m_whole, .int m_nameSize, .int m_fault, .int m_place, .int m_trouble2_2, .ref a_letters, .int m_failed, .int m_hasHouse, .ref a_r, .ref a_fresh, .ref a_st, .ref a_undone, .ref a_kept, .int m_undos2_38, .int m_images, .ref a_from, .ref a_begin, .ref a_motor, .ref a_change, .ref a_startFrame, .ref a_changeFrame, .ref a_lostAt, .ref a_blackAt, .ref a_slips, .ref a_leftArc, .ref a_died, .ref a_arcs, .int m_bestSum, .int m_nearest, .int m_nearestTown, .ref a_there, .ref a_backAt, .ref a_sorted, .ref a_parts, .int m_seed1, .int m_darkNow])), (a_st, .inl (g.2.2.1, 44, .inl uf_56)), (a_undone, .inl (g.2.2.1, 528, .inl d_undone2_37))] rfl ?_
            refine k_iast [(a_r, .inl (g.2.2.1, 311, .inl d_r)), (h0, .inr (11, [.int m_thrown2_1, .ref a_tape, .int m_taped, .int m_size, .int m_at, .int m_end, .int m_token, .int m_whole, .int m_nameSize, .int m_fault, .int m_place, .int m_trouble2_2, .ref a_letters, .int m_failed, .int m_hasHouse, .ref a_r, .ref a_fresh, .ref a_st, .ref a_undone, .ref a_kept, .int m_undos2_38, .int m_images, .ref a_from, .ref a_begin, .ref a_motor, .ref a_change, .ref a_startFrame, .ref a_changeFrame, .ref a_lostAt, .ref a_blackAt, .ref a_slips, .ref a_leftArc, .ref a_died, .ref a_arcs, .int m_bestSum, .int m_nearest, .int m_nearestTown, .ref a_there, .ref a_backAt, .ref a_sorted, .ref a_parts, .int m_seed1, .int m_darkNow])), (a_st, .inl (g.2.2.1, 44, .inl (upd uf_56 (z_124 : Int32).toNatClampNeg r_128))), (a_undone, .inl (g.2.2.1, 528, .inl d_undone2_37))] X dX11_mend_173 2 rfl (iv_in iv_126 (by decide) (by decide)) rfl ?_
            refine (fun hg : ∀ fa_129 : Nat → Int32, Wk p l e _ s m args below meth c _ A g _ _ _ [(a_r, .inl (g.2.2.1, 311, .inl d_r)), (h0, .inr (11, [.int m_thrown2_1, .ref a_tape, .int m_taped, .int m_size, .int m_at, .int m_end, .int m_token, .int m_whole, .int m_nameSize, .int m_fault, .int m_place, .int m_trouble2_2, .ref a_letters, .int m_failed, .int m_hasHouse, .ref a_r, .ref a_fresh, .ref a_st, .ref a_undone, .ref a_kept, .int m_undos2_38, .int m_images, .ref a_from, .ref a_begin, .ref a_motor, .ref a_change, .ref a_startFrame, .ref a_changeFrame, .ref a_lostAt, .ref a_blackAt, .ref a_slips, .ref a_leftArc, .ref a_died, .ref a_arcs, .int m_bestSum, .int m_nearest, .int m_nearestTown, .ref a_there, .ref a_backAt, .ref a_sorted, .ref a_parts, .int m_seed1, .int m_darkNow])), (a_st, .inl (g.2.2.1, 44, .inl fa_129)), (a_undone, .inl (g.2.2.1, 528, .inl d_undone2_37))] _ _ _ => hg _) (fun fa_129 => ?_)
            obtain ⟨z_130, ez_130⟩ : ∃ y : Int32, u_57 + Int32.ofInt 1 = y := ⟨_, rfl⟩
            refine k_iinc z_130 [(5, .int z_130), (4, .int z_49), (3, .int z_44), (2, .int z_18), (0, .ref h0), (1, .int p0)] 0 X dX11_mend_174 rfl ez_130 (by decide) rfl ?_
            have i_131 : z_130.toInt = u_57.toInt + 1 := in_inc ez_130 (by decide) iv_109 (by decide) (by decide)
            have iv_132 : IV z_130 1 12 := by have := iv_109; rw [IV, i_131]; omega
            refine k_goto 120 X dX11_mend_177 (by decide) ?_
            exact ih_61 _ (by omega) fa_129 z_130 rfl (iv_w iv_132 (by decide) (by decide))
      · skip
        have j_133 : z_33.toInt < 6 := iv_nle h_34
        have iv_134 : IV z_33 (-2147483648) 5 := iv_ltL (iv_nle h_34) (iv_any z_33) (show IV 6 6 6 from (by decide)) (by decide)
        refine k_aload_n X dX11_mend_51 1 rfl ?_
        refine k_iconst (v := 5) X dX11_mend_52 (by decide) ?_
        refine k_callVI (n := 1) (As := [.int 5]) (st := []) X [(h0, .inr (11, [.int m_thrown2_1, .ref a_tape, .int m_taped, .int m_size, .int m_at, .int m_end, .int m_token, .int m_whole, .int m_nameSize, .int m_fault, .int m_place, .int m_trouble2_2, .ref a_letters, .int m_failed, .int m_hasHouse, .ref a_r, .ref a_fresh, .ref a_st, .ref a_undone, .ref a_kept, .int m_undos, .int m_images, .ref a_from, .ref a_begin, .ref a_motor, .ref a_change, .ref a_startFrame, .ref a_changeFrame, .ref a_lostAt, .ref a_blackAt, .ref a_slips, .ref a_leftArc, .ref a_died, .ref a_arcs, .int m_bestSum, .int m_nearest, .int m_nearestTown, .ref a_there, .ref a_backAt, .ref a_sorted, .ref a_parts, .int m_seed1, .int m_darkNow]))] [(a_undone, .inl (g.2.2.1, 528, .inl d_undone)), (a_r, .inl (g.2.2.1, 311, .inl d_r)), (a_st, .inl (g.2.2.1, 44, .inl d_st))] [2] [0, 1, 3] (m_noF l g h0 5 m_thrown2_1 a_tape m_taped m_size m_at m_end m_token m_whole m_nameSize m_fault m_place m_trouble2_2 a_letters m_failed m_hasHouse a_r a_fresh a_st a_undone a_kept m_undos m_images a_from a_begin a_motor a_change a_startFrame a_changeFrame a_lostAt a_blackAt a_slips a_leftArc a_died a_arcs m_bestSum m_nearest m_nearestTown a_there a_backAt a_sorted a_parts m_seed1 m_darkNow (by decide)) dX11_mend_53 mw485 mw486 mw487 mw5 mw488 rfl 11 rfl rfl 0 _ rfl (by unfold yOk; decide) rfl (Nat.le_of_ble_eq_true rfl) (Nat.le_of_ble_eq_true rfl) (Nat.le_of_ble_eq_true rfl) (Nat.le_of_ble_eq_true rfl) (Nat.le_of_ble_eq_true rfl) rfl rfl (by decide) rfl (by decide) (by decide) ?_
        rintro r_136 w ⟨m_trouble2_135, iv_137, hq_138, rfl⟩
        refine k_ws [(a_undone, .inl (g.2.2.1, 528, .inl d_undone)), (a_r, .inl (g.2.2.1, 311, .inl d_r)), (a_st, .inl (g.2.2.1, 44, .inl d_st)), (h0, .inr (11, [.int m_thrown2_1, .ref a_tape, .int m_taped, .int m_size, .int m_at, .int m_end, .int m_token, .int m_whole, .int m_nameSize, .int m_fault, .int m_place, .int m_trouble2_135, .ref a_letters, .int m_failed, .int m_hasHouse, .ref a_r, .ref a_fresh, .ref a_st, .ref a_undone, .ref a_kept, .int m_undos, .int m_images, .ref a_from, .ref a_begin, .ref a_motor, .ref a_change, .ref a_startFrame, .ref a_changeFrame, .ref a_lostAt, .ref a_blackAt, .ref a_slips, .ref a_leftArc, .ref a_died, .ref a_arcs, .int m_bestSum, .int m_nearest, .int m_nearestTown, .ref a_there, .ref a_backAt, .ref a_sorted, .ref a_parts, .int m_seed1, .int m_darkNow]))] rfl ?_
        exact k_iret X hr dX11_mend_56 (Nat.le_of_ble_eq_true rfl) (Nat.le_of_ble_eq_true rfl) [3, 1, 2, 0] (by decide) rfl rfl ⟨d_st, m_thrown2_1, m_trouble2_135, d_undone, m_undos, (iv_w hv_m_undos (by decide) (by decide)), (by assumption), rfl⟩
  · skip
    have iv_139 : IV r_5 0 0 := iv_meet iv_6 (iv_e h_8 (show IV 0 0 0 from (by decide))) (by decide) (by decide)
    refine k_aload_n X dX11_mend_12 0 rfl ?_
    refine k_iconst (v := 1) X dX11_mend_13 (by decide) ?_
    refine k_callVI (n := 1) (As := [.int 1]) (st := []) X [(h0, .inr (11, [.int m_thrown2_1, .ref a_tape, .int m_taped, .int m_size, .int m_at, .int m_end, .int m_token, .int m_whole, .int m_nameSize, .int m_fault, .int m_place, .int m_trouble2_2, .ref a_letters, .int m_failed, .int m_hasHouse, .ref a_r, .ref a_fresh, .ref a_st, .ref a_undone, .ref a_kept, .int m_undos, .int m_images, .ref a_from, .ref a_begin, .ref a_motor, .ref a_change, .ref a_startFrame, .ref a_changeFrame, .ref a_lostAt, .ref a_blackAt, .ref a_slips, .ref a_leftArc, .ref a_died, .ref a_arcs, .int m_bestSum, .int m_nearest, .int m_nearestTown, .ref a_there, .ref a_backAt, .ref a_sorted, .ref a_parts, .int m_seed1, .int m_darkNow]))] [(a_st, .inl (g.2.2.1, 44, .inl d_st)), (a_undone, .inl (g.2.2.1, 528, .inl d_undone)), (a_r, .inl (g.2.2.1, 311, .inl d_r))] [2] [0, 1, 3] (m_noF l g h0 1 m_thrown2_1 a_tape m_taped m_size m_at m_end m_token m_whole m_nameSize m_fault m_place m_trouble2_2 a_letters m_failed m_hasHouse a_r a_fresh a_st a_undone a_kept m_undos m_images a_from a_begin a_motor a_change a_startFrame a_changeFrame a_lostAt a_blackAt a_slips a_leftArc a_died a_arcs m_bestSum m_nearest m_nearestTown a_there a_backAt a_sorted a_parts m_seed1 m_darkNow (by decide)) dX11_mend_14 mw485 mw486 mw487 mw5 mw488 rfl 11 rfl rfl 0 _ rfl (by unfold yOk; decide) rfl (Nat.le_of_ble_eq_true rfl) (Nat.le_of_ble_eq_true rfl) (Nat.le_of_ble_eq_true rfl) (Nat.le_of_ble_eq_true rfl) (Nat.le_of_ble_eq_true rfl) rfl rfl (by decide) rfl (by decide) (by decide) ?_
    rintro r_141 w ⟨m_trouble2_140, iv_142, hq_143, rfl⟩
    refine k_ws [(a_st, .inl (g.2.2.1, 44, .inl d_st)), (a_undone, .inl (g.2.2.1, 528, .inl d_undone)), (a_r, .inl (g.2.2.1, 311, .inl d_r)), (h0, .inr (11, [.int m_thrown2_1, .ref a_tape, .int m_taped, .int m_size, .int m_at, .int m_end, .int m_token, .int m_whole, .int m_nameSize, .int m_fault, .int m_place, .int m_trouble2_140, .ref a_letters, .int m_failed, .int m_hasHouse, .ref a_r, .ref a_fresh, .ref a_st, .ref a_undone, .ref a_kept, .int m_undos, .int m_images, .ref a_from, .ref a_begin, .ref a_motor, .ref a_change, .ref a_startFrame, .ref a_changeFrame, .ref a_lostAt, .ref a_blackAt, .ref a_slips, .ref a_leftArc, .ref a_died, .ref a_arcs, .int m_bestSum, .int m_nearest, .int m_nearestTown, .ref a_there, .ref a_backAt, .ref a_sorted, .ref a_parts, .int m_seed1, .int m_darkNow]))] rfl ?_
    exact k_iret X hr dX11_mend_17 (Nat.le_of_ble_eq_true rfl) (Nat.le_of_ble_eq_true rfl) [3, 2, 0, 1] (by decide) rfl rfl ⟨d_st, m_thrown2_1, m_trouble2_140, d_undone, m_undos, (iv_w hv_m_undos (by decide) (by decide)), (by assumption), rfl⟩

theorem dX11_undo_0 : decode cX11_undo 0 = .ok (.aload_n 0, 1) := by decide +kernel
theorem dX11_undo_1 : decode cX11_undo 1 = .ok (.invokevirtual 200, 3) := by decide +kernel
theorem dX11_undo_4 : decode cX11_undo 4 = .ok (.aload_n 0, 1) := by decide +kernel
theorem dX11_undo_5 : decode cX11_undo 5 = .ok (.getfield 216, 3) := by decide +kernel
theorem dX11_undo_8 : decode cX11_undo 8 = .ok (.ifCond .ne 10, 3) := by decide +kernel
theorem dX11_undo_11 : decode cX11_undo 11 = .ok (.aload_n 0, 1) := by decide +kernel
theorem dX11_undo_12 : decode cX11_undo 12 = .ok (.bipush 6, 2) := by decide +kernel
theorem dX11_undo_14 : decode cX11_undo 14 = .ok (.invokevirtual 473, 3) := by decide +kernel
theorem dX11_undo_17 : decode cX11_undo 17 = .ok (.ireturn, 1) := by decide +kernel
theorem dX11_undo_18 : decode cX11_undo 18 = .ok (.aload_n 0, 1) := by decide +kernel
theorem dX11_undo_19 : decode cX11_undo 19 = .ok (.dup, 1) := by decide +kernel
theorem dX11_undo_20 : decode cX11_undo 20 = .ok (.getfield 216, 3) := by decide +kernel
theorem dX11_undo_23 : decode cX11_undo 23 = .ok (.iconst 1, 1) := by decide +kernel
theorem dX11_undo_24 : decode cX11_undo 24 = .ok (.isub, 1) := by decide +kernel
theorem dX11_undo_25 : decode cX11_undo 25 = .ok (.putfield 216, 3) := by decide +kernel
theorem dX11_undo_28 : decode cX11_undo 28 = .ok (.aload_n 0, 1) := by decide +kernel
theorem dX11_undo_29 : decode cX11_undo 29 = .ok (.getfield 29, 3) := by decide +kernel
theorem dX11_undo_32 : decode cX11_undo 32 = .ok (.bipush 44, 2) := by decide +kernel
theorem dX11_undo_34 : decode cX11_undo 34 = .ok (.aload_n 0, 1) := by decide +kernel
theorem dX11_undo_35 : decode cX11_undo 35 = .ok (.getfield 216, 3) := by decide +kernel
theorem dX11_undo_38 : decode cX11_undo 38 = .ok (.imul, 1) := by decide +kernel
theorem dX11_undo_39 : decode cX11_undo 39 = .ok (.aload_n 0, 1) := by decide +kernel
theorem dX11_undo_40 : decode cX11_undo 40 = .ok (.getfield 26, 3) := by decide +kernel
theorem dX11_undo_43 : decode cX11_undo 43 = .ok (.iconst 0, 1) := by decide +kernel
theorem dX11_undo_44 : decode cX11_undo 44 = .ok (.bipush 44, 2) := by decide +kernel
theorem dX11_undo_46 : decode cX11_undo 46 = .ok (.invokestatic 209, 3) := by decide +kernel
theorem dX11_undo_49 : decode cX11_undo 49 = .ok (.iconst 1, 1) := by decide +kernel
theorem dX11_undo_50 : decode cX11_undo 50 = .ok (.ireturn, 1) := by decide +kernel
set_option maxHeartbeats 4000000 in
set_option maxRecDepth 100000 in
theorem m_undo (l : Launch) (g : Gx) (h0 : Nat) (m_thrown : Int32) (a_tape : Nat) (m_taped : Int32) (m_size : Int32) (m_at : Int32) (m_end : Int32) (m_token : Int32) (m_whole : Int32) (m_nameSize : Int32) (m_fault : Int32) (m_place : Int32) (m_trouble : Int32) (a_letters : Nat) (m_failed : Int32) (m_hasHouse : Int32) (a_r : Nat) (a_fresh : Nat) (a_st : Nat) (a_undone : Nat) (a_kept : Nat) (m_undos : Int32) (m_images : Int32) (a_from : Nat) (a_begin : Nat) (a_motor : Nat) (a_change : Nat) (a_startFrame : Nat) (a_changeFrame : Nat) (a_lostAt : Nat) (a_blackAt : Nat) (a_slips : Nat) (a_leftArc : Nat) (a_died : Nat) (a_arcs : Nat) (m_bestSum : Int32) (m_nearest : Int32) (m_nearestTown : Int32) (a_there : Nat) (a_backAt : Nat) (a_sorted : Nat) (a_parts : Nat) (m_seed1 : Int32) (m_darkNow : Int32) (d_st : Nat → Int32) (d_undone : Nat → Int32) (hv_m_undos : IV m_undos 0 12) : cI l g yX11_undo cX11_undo 1 (some .boolean) 1 25 0 0 [.ref h0] [(h0, .inr (11, [.int m_thrown, .ref a_tape, .int m_taped, .int m_size, .int m_at, .int m_end, .int m_token, .int m_whole, .int m_nameSize, .int m_fault, .int m_place, .int m_trouble, .ref a_letters, .int m_failed, .int m_hasHouse, .ref a_r, .ref a_fresh, .ref a_st, .ref a_undone, .ref a_kept, .int m_undos, .int m_images, .ref a_from, .ref a_begin, .ref a_motor, .ref a_change, .ref a_startFrame, .ref a_changeFrame, .ref a_lostAt, .ref a_blackAt, .ref a_slips, .ref a_leftArc, .ref a_died, .ref a_arcs, .int m_bestSum, .int m_nearest, .int m_nearestTown, .ref a_there, .ref a_backAt, .ref a_sorted, .ref a_parts, .int m_seed1, .int m_darkNow])), (a_st, .inl (g.2.2.1, 44, .inl d_st)), (a_undone, .inl (g.2.2.1, 528, .inl d_undone))] (fun r w => ∃ (d_st2 : Nat → Int32) (m_thrown2 : Int32) (m_trouble2 : Int32) (m_undos2 : Int32), IV m_undos2 0 12 ∧ IV r 0 1 ∧ (m_trouble2 ≠ 4) ∧ w = [(h0, .inr (11, [.int m_thrown2, .ref a_tape, .int m_taped, .int m_size, .int m_at, .int m_end, .int m_token, .int m_whole, .int m_nameSize, .int m_fault, .int m_place, .int m_trouble2, .ref a_letters, .int m_failed, .int m_hasHouse, .ref a_r, .ref a_fresh, .ref a_st, .ref a_undone, .ref a_kept, .int m_undos2, .int m_images, .ref a_from, .ref a_begin, .ref a_motor, .ref a_change, .ref a_startFrame, .ref a_changeFrame, .ref a_lostAt, .ref a_blackAt, .ref a_slips, .ref a_leftArc, .ref a_died, .ref a_arcs, .int m_bestSum, .int m_nearest, .int m_nearestTown, .ref a_there, .ref a_backAt, .ref a_sorted, .ref a_parts, .int m_seed1, .int m_darkNow])), (a_st, .inl (g.2.2.1, 44, .inl d_st2)), (a_undone, .inl (g.2.2.1, 528, .inl d_undone))]) := by
  refine cI.of (by decide) (Nat.le_of_ble_eq_true rfl) ?_
  intro p e s m args below meth c A X hr hi
  refine k_lveq [(0, .ref h0)] rfl ?_
  refine k_aload_n X dX11_undo_0 0 rfl ?_
  refine k_callVV (n := 0) (As := []) (st := []) X [(h0, .inr (11, [.int m_thrown, .ref a_tape, .int m_taped, .int m_size, .int m_at, .int m_end, .int m_token, .int m_whole, .int m_nameSize, .int m_fault, .int m_place, .int m_trouble, .ref a_letters, .int m_failed, .int m_hasHouse, .ref a_r, .ref a_fresh, .ref a_st, .ref a_undone, .ref a_kept, .int m_undos, .int m_images, .ref a_from, .ref a_begin, .ref a_motor, .ref a_change, .ref a_startFrame, .ref a_changeFrame, .ref a_lostAt, .ref a_blackAt, .ref a_slips, .ref a_leftArc, .ref a_died, .ref a_arcs, .int m_bestSum, .int m_nearest, .int m_nearestTown, .ref a_there, .ref a_backAt, .ref a_sorted, .ref a_parts, .int m_seed1, .int m_darkNow]))] [(a_st, .inl (g.2.2.1, 44, .inl d_st)), (a_undone, .inl (g.2.2.1, 528, .inl d_undone))] [0] [1, 2] (m_good l g h0 m_thrown a_tape m_taped m_size m_at m_end m_token m_whole m_nameSize m_fault m_place m_trouble a_letters m_failed m_hasHouse a_r a_fresh a_st a_undone a_kept m_undos m_images a_from a_begin a_motor a_change a_startFrame a_changeFrame a_lostAt a_blackAt a_slips a_leftArc a_died a_arcs m_bestSum m_nearest m_nearestTown a_there a_backAt a_sorted a_parts m_seed1 m_darkNow) dX11_undo_1 mw477 mw478 mw479 mw5 mw480 rfl 11 rfl rfl 0 _ rfl (by unfold yOk; decide) rfl (Nat.le_of_ble_eq_true rfl) (Nat.le_of_ble_eq_true rfl) (Nat.le_of_ble_eq_true rfl) (Nat.le_of_ble_eq_true rfl) (Nat.le_of_ble_eq_true rfl) rfl rfl (by decide) rfl (by decide) (by decide) ?_
  rintro w ⟨m_thrown2_1, m_trouble2_2, hq_4, rfl⟩
  refine k_ws [(a_st, .inl (g.2.2.1, 44, .inl d_st)), (a_undone, .inl (g.2.2.1, 528, .inl d_undone)), (h0, .inr (11, [.int m_thrown2_1, .ref a_tape, .int m_taped, .int m_size, .int m_at, .int m_end, .int m_token, .int m_whole, .int m_nameSize, .int m_fault, .int m_place, .int m_trouble2_2, .ref a_letters, .int m_failed, .int m_hasHouse, .ref a_r, .ref a_fresh, .ref a_st, .ref a_undone, .ref a_kept, .int m_undos, .int m_images, .ref a_from, .ref a_begin, .ref a_motor, .ref a_change, .ref a_startFrame, .ref a_changeFrame, .ref a_lostAt, .ref a_blackAt, .ref a_slips, .ref a_leftArc, .ref a_died, .ref a_arcs, .int m_bestSum, .int m_nearest, .int m_nearestTown, .ref a_there, .ref a_backAt, .ref a_sorted, .ref a_parts, .int m_seed1, .int m_darkNow]))] rfl ?_
  refine k_aload_n X dX11_undo_4 0 rfl ?_
  refine k_get (ci := 11) X inlX11 rfl 20 (by decide) dX11_undo_5 mw475 2 rfl rfl ?_
  refine k_if_ne 18 X dX11_undo_8 (by decide) (fun h_5 => ?_) (fun h_5 => ?_)
  · skip
    have iv_6 : IV m_undos 1 12 := iv_neL h_5 hv_m_undos (show IV 0 0 0 from (by decide)) (by decide)
    refine k_aload_n X dX11_undo_18 0 rfl ?_
    refine k_dup X dX11_undo_19 rfl ?_
    refine k_get (ci := 11) X inlX11 rfl 20 (by decide) dX11_undo_20 mw475 2 rfl rfl ?_
    refine k_iconst (v := 1) X dX11_undo_23 (by decide) ?_
    refine k_isub X dX11_undo_24 ?_
    refine k_nm (fun z_7 ez_7 => ?_)
    have i_8 : z_7.toInt = m_undos.toInt - 1 := in_sub ez_7 iv_6 (show IV 1 1 1 from (by decide)) (by decide) (by decide)
    have iv_9 : IV z_7 0 11 := by have := iv_6; have := (show IV 1 1 1 from (by decide)); rw [IV, i_8]; omega
    refine k_put (ci := 11) [(a_st, .inl (g.2.2.1, 44, .inl d_st)), (a_undone, .inl (g.2.2.1, 528, .inl d_undone)), (h0, .inr (11, [.int m_thrown2_1, .ref a_tape, .int m_taped, .int m_size, .int m_at, .int m_end, .int m_token, .int m_whole, .int m_nameSize, .int m_fault, .int m_place, .int m_trouble2_2, .ref a_letters, .int m_failed, .int m_hasHouse, .ref a_r, .ref a_fresh, .ref a_st, .ref a_undone, .ref a_kept, .int z_7, .int m_images, .ref a_from, .ref a_begin, .ref a_motor, .ref a_change, .ref a_startFrame, .ref a_changeFrame, .ref a_lostAt, .ref a_blackAt, .ref a_slips, .ref a_leftArc, .ref a_died, .ref a_arcs, .int m_bestSum, .int m_nearest, .int m_nearestTown, .ref a_there, .ref a_backAt, .ref a_sorted, .ref a_parts, .int m_seed1, .int m_darkNow]))] X inlX11 rfl tyX11_ok nmX11 20 (by decide) rfl dX11_undo_25 mw475 2 rfl rfl rfl (Nat.le_of_ble_eq_true rfl) rfl ?_
    refine k_aload_n X dX11_undo_28 0 rfl ?_
    refine k_get (ci := 11) X inlX11 rfl 18 (by decide) dX11_undo_29 mw173 2 rfl rfl ?_
    refine k_bipush (v := 44) X dX11_undo_32 (by decide) ?_
    refine k_aload_n X dX11_undo_34 0 rfl ?_
    refine k_get (ci := 11) X inlX11 rfl 20 (by decide) dX11_undo_35 mw475 2 rfl rfl ?_
    refine k_imul X dX11_undo_38 ?_
    refine k_nm (fun z_10 ez_10 => ?_)
    have i_11 : z_10.toInt = 44 * z_7.toInt := in_mul ez_10 (by decide) (by decide) iv_9 (by decide) (by decide)
    have iv_12 : IV z_10 0 484 := by have := (show IV 44 44 44 from (by decide)); have := iv_9; rw [IV, i_11]; omega
    refine k_aload_n X dX11_undo_39 0 rfl ?_
    refine k_get (ci := 11) X inlX11 rfl 17 (by decide) dX11_undo_40 mw172 2 rfl rfl ?_
    refine k_iconst (v := 0) X dX11_undo_43 (by decide) ?_
    refine k_bipush (v := 44) X dX11_undo_44 (by decide) ?_
    refine k_callSV (n := 5) (As := [.ref a_undone, .int z_10, .ref a_st, .int 0, .int 44]) (st := []) X [(a_undone, .inl (g.2.2.1, 528, .inl d_undone)), (a_st, .inl (g.2.2.1, 44, .inl d_st))] [(h0, .inr (11, [.int m_thrown2_1, .ref a_tape, .int m_taped, .int m_size, .int m_at, .int m_end, .int m_token, .int m_whole, .int m_nameSize, .int m_fault, .int m_place, .int m_trouble2_2, .ref a_letters, .int m_failed, .int m_hasHouse, .ref a_r, .ref a_fresh, .ref a_st, .ref a_undone, .ref a_kept, .int z_7, .int m_images, .ref a_from, .ref a_begin, .ref a_motor, .ref a_change, .ref a_startFrame, .ref a_changeFrame, .ref a_lostAt, .ref a_blackAt, .ref a_slips, .ref a_leftArc, .ref a_died, .ref a_arcs, .int m_bestSum, .int m_nearest, .int m_nearestTown, .ref a_there, .ref a_backAt, .ref a_sorted, .ref a_parts, .int m_seed1, .int m_darkNow]))] [1, 0] [2] (m_copyB l g a_undone z_10 a_st d_undone d_st (iv_w iv_12 (by decide) (by decide))) dX11_undo_46 mw619 mw620 mw5 mw621 (by unfold yOk; decide) rfl (Nat.le_of_ble_eq_true rfl) (Nat.le_of_ble_eq_true rfl) (Nat.le_of_ble_eq_true rfl) (Nat.le_of_ble_eq_true rfl) (Nat.le_of_ble_eq_true rfl) rfl rfl (by decide) rfl (by decide) (by decide) ?_
    rintro w ⟨f3_13, rfl⟩
    refine k_ws [(h0, .inr (11, [.int m_thrown2_1, .ref a_tape, .int m_taped, .int m_size, .int m_at, .int m_end, .int m_token, .int m_whole, .int m_nameSize, .int m_fault, .int m_place, .int m_trouble2_2, .ref a_letters, .int m_failed, .int m_hasHouse, .ref a_r, .ref a_fresh, .ref a_st, .ref a_undone, .ref a_kept, .int z_7, .int m_images, .ref a_from, .ref a_begin, .ref a_motor, .ref a_change, .ref a_startFrame, .ref a_changeFrame, .ref a_lostAt, .ref a_blackAt, .ref a_slips, .ref a_leftArc, .ref a_died, .ref a_arcs, .int m_bestSum, .int m_nearest, .int m_nearestTown, .ref a_there, .ref a_backAt, .ref a_sorted, .ref a_parts, .int m_seed1, .int m_darkNow])), (a_undone, .inl (g.2.2.1, 528, .inl d_undone)), (a_st, .inl (g.2.2.1, 44, .inl f3_13))] rfl ?_
    refine k_iconst (v := 1) X dX11_undo_49 (by decide) ?_
    exact k_zret X hr (by first | rfl | decide) dX11_undo_50 (Nat.le_of_ble_eq_true rfl) (Nat.le_of_ble_eq_true rfl) [0, 2, 1] (by decide) rfl rfl ⟨f3_13, m_thrown2_1, m_trouble2_2, z_7, (iv_w iv_9 (by decide) (by decide)), (iv_w (show IV 1 1 1 from (by decide)) (by decide) (by decide)), (by assumption), rfl⟩
  · skip
    have iv_15 : IV m_undos 0 0 := iv_meet hv_m_undos (iv_e h_5 (show IV 0 0 0 from (by decide))) (by decide) (by decide)
    refine k_aload_n X dX11_undo_11 0 rfl ?_
    refine k_bipush (v := 6) X dX11_undo_12 (by decide) ?_
    refine k_callVI (n := 1) (As := [.int 6]) (st := []) X [(h0, .inr (11, [.int m_thrown2_1, .ref a_tape, .int m_taped, .int m_size, .int m_at, .int m_end, .int m_token, .int m_whole, .int m_nameSize, .int m_fault, .int m_place, .int m_trouble2_2, .ref a_letters, .int m_failed, .int m_hasHouse, .ref a_r, .ref a_fresh, .ref a_st, .ref a_undone, .ref a_kept, .int m_undos, .int m_images, .ref a_from, .ref a_begin, .ref a_motor, .ref a_change, .ref a_startFrame, .ref a_changeFrame, .ref a_lostAt, .ref a_blackAt, .ref a_slips, .ref a_leftArc, .ref a_died, .ref a_arcs, .int m_bestSum, .int m_nearest, .int m_nearestTown, .ref a_there, .ref a_backAt, .ref a_sorted, .ref a_parts, .int m_seed1, .int m_darkNow]))] [(a_st, .inl (g.2.2.1, 44, .inl d_st)), (a_undone, .inl (g.2.2.1, 528, .inl d_undone))] [2] [0, 1] (m_isNotF l g h0 6 m_thrown2_1 a_tape m_taped m_size m_at m_end m_token m_whole m_nameSize m_fault m_place m_trouble2_2 a_letters m_failed m_hasHouse a_r a_fresh a_st a_undone a_kept m_undos m_images a_from a_begin a_motor a_change a_startFrame a_changeFrame a_lostAt a_blackAt a_slips a_leftArc a_died a_arcs m_bestSum m_nearest m_nearestTown a_there a_backAt a_sorted a_parts m_seed1 m_darkNow (by decide)) dX11_undo_14 mw1471 mw1472 mw1473 mw5 mw1474 rfl 11 rfl rfl 0 _ rfl (by unfold yOk; decide) rfl (Nat.le_of_ble_eq_true rfl) (Nat.le_of_ble_eq_true rfl) (Nat.le_of_ble_eq_true rfl) (Nat.le_of_ble_eq_true rfl) (Nat.le_of_ble_eq_true rfl) rfl rfl (by decide) rfl (by decide) (by decide) ?_
    rintro r_17 w ⟨m_trouble2_16, iv_18, hq_19, rfl⟩
    refine k_ws [(a_st, .inl (g.2.2.1, 44, .inl d_st)), (a_undone, .inl (g.2.2.1, 528, .inl d_undone)), (h0, .inr (11, [.int m_thrown2_1, .ref a_tape, .int m_taped, .int m_size, .int m_at, .int m_end, .int m_token, .int m_whole, .int m_nameSize, .int m_fault, .int m_place, .int m_trouble2_16, .ref a_letters, .int m_failed, .int m_hasHouse, .ref a_r, .ref a_fresh, .ref a_st, .ref a_undone, .ref a_kept, .int m_undos, .int m_images, .ref a_from, .ref a_begin, .ref a_motor, .ref a_change, .ref a_startFrame, .ref a_changeFrame, .ref a_lostAt, .ref a_blackAt, .ref a_slips, .ref a_leftArc, .ref a_died, .ref a_arcs, .int m_bestSum, .int m_nearest, .int m_nearestTown, .ref a_there, .ref a_backAt, .ref a_sorted, .ref a_parts, .int m_seed1, .int m_darkNow]))] rfl ?_
    exact k_zret X hr (zn_b (iv_w iv_18 (by decide) (by decide))) dX11_undo_17 (Nat.le_of_ble_eq_true rfl) (Nat.le_of_ble_eq_true rfl) [2, 0, 1] (by decide) rfl rfl ⟨d_st, m_thrown2_1, m_trouble2_16, m_undos, (iv_w iv_15 (by decide) (by decide)), (iv_w iv_18 (by decide) (by decide)), (by assumption), rfl⟩

theorem dX11_image_0 : decode cX11_image 0 = .ok (.aload_n 0, 1) := by decide +kernel
theorem dX11_image_1 : decode cX11_image 1 = .ok (.invokevirtual 200, 3) := by decide +kernel
theorem dX11_image_4 : decode cX11_image 4 = .ok (.aload_n 0, 1) := by decide +kernel
theorem dX11_image_5 : decode cX11_image 5 = .ok (.getfield 213, 3) := by decide +kernel
theorem dX11_image_8 : decode cX11_image 8 = .ok (.ifCond .ne 9, 3) := by decide +kernel
theorem dX11_image_11 : decode cX11_image 11 = .ok (.aload_n 0, 1) := by decide +kernel
theorem dX11_image_12 : decode cX11_image 12 = .ok (.iconst 1, 1) := by decide +kernel
theorem dX11_image_13 : decode cX11_image 13 = .ok (.invokevirtual 203, 3) := by decide +kernel
theorem dX11_image_16 : decode cX11_image 16 = .ok (.ireturn, 1) := by decide +kernel
theorem dX11_image_17 : decode cX11_image 17 = .ok (.aload_n 0, 1) := by decide +kernel
theorem dX11_image_18 : decode cX11_image 18 = .ok (.getfield 219, 3) := by decide +kernel
theorem dX11_image_21 : decode cX11_image 21 = .ok (.iconst 3, 1) := by decide +kernel
theorem dX11_image_22 : decode cX11_image 22 = .ok (.if_icmp .ne 9, 3) := by decide +kernel
theorem dX11_image_25 : decode cX11_image 25 = .ok (.aload_n 0, 1) := by decide +kernel
theorem dX11_image_26 : decode cX11_image 26 = .ok (.iconst 3, 1) := by decide +kernel
theorem dX11_image_27 : decode cX11_image 27 = .ok (.invokevirtual 203, 3) := by decide +kernel
theorem dX11_image_30 : decode cX11_image 30 = .ok (.ireturn, 1) := by decide +kernel
theorem dX11_image_31 : decode cX11_image 31 = .ok (.aload_n 0, 1) := by decide +kernel
theorem dX11_image_32 : decode cX11_image 32 = .ok (.getfield 26, 3) := by decide +kernel
theorem dX11_image_35 : decode cX11_image 35 = .ok (.iconst 0, 1) := by decide +kernel
theorem dX11_image_36 : decode cX11_image 36 = .ok (.aload_n 0, 1) := by decide +kernel
theorem dX11_image_37 : decode cX11_image 37 = .ok (.getfield 32, 3) := by decide +kernel
theorem dX11_image_40 : decode cX11_image 40 = .ok (.bipush 44, 2) := by decide +kernel
theorem dX11_image_42 : decode cX11_image 42 = .ok (.aload_n 0, 1) := by decide +kernel
theorem dX11_image_43 : decode cX11_image 43 = .ok (.getfield 219, 3) := by decide +kernel
theorem dX11_image_46 : decode cX11_image 46 = .ok (.imul, 1) := by decide +kernel
theorem dX11_image_47 : decode cX11_image 47 = .ok (.bipush 44, 2) := by decide +kernel
theorem dX11_image_49 : decode cX11_image 49 = .ok (.invokestatic 209, 3) := by decide +kernel
theorem dX11_image_52 : decode cX11_image 52 = .ok (.aload_n 0, 1) := by decide +kernel
theorem dX11_image_53 : decode cX11_image 53 = .ok (.dup, 1) := by decide +kernel
theorem dX11_image_54 : decode cX11_image 54 = .ok (.getfield 219, 3) := by decide +kernel
theorem dX11_image_57 : decode cX11_image 57 = .ok (.iconst 1, 1) := by decide +kernel
theorem dX11_image_58 : decode cX11_image 58 = .ok (.iadd, 1) := by decide +kernel
theorem dX11_image_59 : decode cX11_image 59 = .ok (.putfield 219, 3) := by decide +kernel
theorem dX11_image_62 : decode cX11_image 62 = .ok (.aload_n 0, 1) := by decide +kernel
theorem dX11_image_63 : decode cX11_image 63 = .ok (.getfield 219, 3) := by decide +kernel
theorem dX11_image_66 : decode cX11_image 66 = .ok (.iconst 1, 1) := by decide +kernel
theorem dX11_image_67 : decode cX11_image 67 = .ok (.isub, 1) := by decide +kernel
theorem dX11_image_68 : decode cX11_image 68 = .ok (.ireturn, 1) := by decide +kernel
set_option maxHeartbeats 4000000 in
set_option maxRecDepth 100000 in
theorem m_image (l : Launch) (g : Gx) (h0 : Nat) (m_thrown : Int32) (a_tape : Nat) (m_taped : Int32) (m_size : Int32) (m_at : Int32) (m_end : Int32) (m_token : Int32) (m_whole : Int32) (m_nameSize : Int32) (m_fault : Int32) (m_place : Int32) (m_trouble : Int32) (a_letters : Nat) (m_failed : Int32) (m_hasHouse : Int32) (a_r : Nat) (a_fresh : Nat) (a_st : Nat) (a_undone : Nat) (a_kept : Nat) (m_undos : Int32) (m_images : Int32) (a_from : Nat) (a_begin : Nat) (a_motor : Nat) (a_change : Nat) (a_startFrame : Nat) (a_changeFrame : Nat) (a_lostAt : Nat) (a_blackAt : Nat) (a_slips : Nat) (a_leftArc : Nat) (a_died : Nat) (a_arcs : Nat) (m_bestSum : Int32) (m_nearest : Int32) (m_nearestTown : Int32) (a_there : Nat) (a_backAt : Nat) (a_sorted : Nat) (a_parts : Nat) (m_seed1 : Int32) (m_darkNow : Int32) (d_st : Nat → Int32) (d_kept : Nat → Int32) (hv_m_hasHouse : IV m_hasHouse 0 1) (hv_m_images : IV m_images 0 3) : cI l g yX11_image cX11_image 1 (some .int) 1 25 0 0 [.ref h0] [(h0, .inr (11, [.int m_thrown, .ref a_tape, .int m_taped, .int m_size, .int m_at, .int m_end, .int m_token, .int m_whole, .int m_nameSize, .int m_fault, .int m_place, .int m_trouble, .ref a_letters, .int m_failed, .int m_hasHouse, .ref a_r, .ref a_fresh, .ref a_st, .ref a_undone, .ref a_kept, .int m_undos, .int m_images, .ref a_from, .ref a_begin, .ref a_motor, .ref a_change, .ref a_startFrame, .ref a_changeFrame, .ref a_lostAt, .ref a_blackAt, .ref a_slips, .ref a_leftArc, .ref a_died, .ref a_arcs, .int m_bestSum, .int m_nearest, .int m_nearestTown, .ref a_there, .ref a_backAt, .ref a_sorted, .ref a_parts, .int m_seed1, .int m_darkNow])), (a_st, .inl (g.2.2.1, 44, .inl d_st)), (a_kept, .inl (g.2.2.1, 132, .inl d_kept))] (fun r w => ∃ (m_images2 : Int32) (d_kept2 : Nat → Int32) (m_thrown2 : Int32) (m_trouble2 : Int32), IV m_images2 0 3 ∧ (m_trouble2 ≠ 4) ∧ w = [(h0, .inr (11, [.int m_thrown2, .ref a_tape, .int m_taped, .int m_size, .int m_at, .int m_end, .int m_token, .int m_whole, .int m_nameSize, .int m_fault, .int m_place, .int m_trouble2, .ref a_letters, .int m_failed, .int m_hasHouse, .ref a_r, .ref a_fresh, .ref a_st, .ref a_undone, .ref a_kept, .int m_undos, .int m_images2, .ref a_from, .ref a_begin, .ref a_motor, .ref a_change, .ref a_startFrame, .ref a_changeFrame, .ref a_lostAt, .ref a_blackAt, .ref a_slips, .ref a_leftArc, .ref a_died, .ref a_arcs, .int m_bestSum, .int m_nearest, .int m_nearestTown, .ref a_there, .ref a_backAt, .ref a_sorted, .ref a_parts, .int m_seed1, .int m_darkNow])), (a_st, .inl (g.2.2.1, 44, .inl d_st)), (a_kept, .inl (g.2.2.1, 132, .inl d_kept2))]) := by
  refine cI.of (by decide) (Nat.le_of_ble_eq_true rfl) ?_
  intro p e s m args below meth c A X hr hi
  refine k_lveq [(0, .ref h0)] rfl ?_
  refine k_aload_n X dX11_image_0 0 rfl ?_
  refine k_callVV (n := 0) (As := []) (st := []) X [(h0, .inr (11, [.int m_thrown, .ref a_tape, .int m_taped, .int m_size, .int m_at, .int m_end, .int m_token, .int m_whole, .int m_nameSize, .int m_fault, .int m_place, .int m_trouble, .ref a_letters, .int m_failed, .int m_hasHouse, .ref a_r, .ref a_fresh, .ref a_st, .ref a_undone, .ref a_kept, .int m_undos, .int m_images, .ref a_from, .ref a_begin, .ref a_motor, .ref a_change, .ref a_startFrame, .ref a_changeFrame, .ref a_lostAt, .ref a_blackAt, .ref a_slips, .ref a_leftArc, .ref a_died, .ref a_arcs, .int m_bestSum, .int m_nearest, .int m_nearestTown, .ref a_there, .ref a_backAt, .ref a_sorted, .ref a_parts, .int m_seed1, .int m_darkNow]))] [(a_st, .inl (g.2.2.1, 44, .inl d_st)), (a_kept, .inl (g.2.2.1, 132, .inl d_kept))] [0] [1, 2] (m_good l g h0 m_thrown a_tape m_taped m_size m_at m_end m_token m_whole m_nameSize m_fault m_place m_trouble a_letters m_failed m_hasHouse a_r a_fresh a_st a_undone a_kept m_undos m_images a_from a_begin a_motor a_change a_startFrame a_changeFrame a_lostAt a_blackAt a_slips a_leftArc a_died a_arcs m_bestSum m_nearest m_nearestTown a_there a_backAt a_sorted a_parts m_seed1 m_darkNow) dX11_image_1 mw477 mw478 mw479 mw5 mw480 rfl 11 rfl rfl 0 _ rfl (by unfold yOk; decide) rfl (Nat.le_of_ble_eq_true rfl) (Nat.le_of_ble_eq_true rfl) (Nat.le_of_ble_eq_true rfl) (Nat.le_of_ble_eq_true rfl) (Nat.le_of_ble_eq_true rfl) rfl rfl (by decide) rfl (by decide) (by decide) ?_
  rintro w ⟨m_thrown2_1, m_trouble2_2, hq_4, rfl⟩
  refine k_ws [(a_st, .inl (g.2.2.1, 44, .inl d_st)), (a_kept, .inl (g.2.2.1, 132, .inl d_kept)), (h0, .inr (11, [.int m_thrown2_1, .ref a_tape, .int m_taped, .int m_size, .int m_at, .int m_end, .int m_token, .int m_whole, .int m_nameSize, .int m_fault, .int m_place, .int m_trouble2_2, .ref a_letters, .int m_failed, .int m_hasHouse, .ref a_r, .ref a_fresh, .ref a_st, .ref a_undone, .ref a_kept, .int m_undos, .int m_images, .ref a_from, .ref a_begin, .ref a_motor, .ref a_change, .ref a_startFrame, .ref a_changeFrame, .ref a_lostAt, .ref a_blackAt, .ref a_slips, .ref a_leftArc, .ref a_died, .ref a_arcs, .int m_bestSum, .int m_nearest, .int m_nearestTown, .ref a_there, .ref a_backAt, .ref a_sorted, .ref a_parts, .int m_seed1, .int m_darkNow]))] rfl ?_
  refine k_aload_n X dX11_image_4 0 rfl ?_
  refine k_get (ci := 11) X inlX11 rfl 14 (by decide) dX11_image_5 mw474 2 rfl rfl ?_
  refine k_if_ne 17 X dX11_image_8 (by decide) (fun h_5 => ?_) (fun h_5 => ?_)
  · skip
    have iv_6 : IV m_hasHouse 1 1 := iv_neL h_5 hv_m_hasHouse (show IV 0 0 0 from (by decide)) (by decide)
    refine k_aload_n X dX11_image_17 0 rfl ?_
    refine k_get (ci := 11) X inlX11 rfl 21 (by decide) dX11_image_18 mw476 2 rfl rfl ?_
    refine k_iconst (v := 3) X dX11_image_21 (by decide) ?_
    refine k_ic_ne 31 X dX11_image_22 (by decide) (fun h_7 => ?_) (fun h_7 => ?_)
    · skip
      have iv_8 : IV m_images 0 2 := iv_neH h_7 hv_m_images (show IV 3 3 3 from (by decide)) (by decide)
      refine k_aload_n X dX11_image_31 0 rfl ?_
      refine k_get (ci := 11) X inlX11 rfl 17 (by decide) dX11_image_32 mw172 2 rfl rfl ?_
      refine k_iconst (v := 0) X dX11_image_35 (by decide) ?_
      refine k_aload_n X dX11_image_36 0 rfl ?_
      refine k_get (ci := 11) X inlX11 rfl 19 (by decide) dX11_image_37 mw174 2 rfl rfl ?_
      refine k_bipush (v := 44) X dX11_image_40 (by decide) ?_
      refine k_aload_n X dX11_image_42 0 rfl ?_
      refine k_get (ci := 11) X inlX11 rfl 21 (by decide) dX11_image_43 mw476 2 rfl rfl ?_
      refine k_imul X dX11_image_46 ?_
      refine k_nm (fun z_9 ez_9 => ?_)
      have i_10 : z_9.toInt = 44 * m_images.toInt := in_mul ez_9 (by decide) (by decide) iv_8 (by decide) (by decide)
      have iv_11 : IV z_9 0 88 := by have := (show IV 44 44 44 from (by decide)); have := iv_8; rw [IV, i_10]; omega
      refine k_bipush (v := 44) X dX11_image_47 (by decide) ?_
      refine k_callSV (n := 5) (As := [.ref a_st, .int 0, .ref a_kept, .int z_9, .int 44]) (st := []) X [(a_st, .inl (g.2.2.1, 44, .inl d_st)), (a_kept, .inl (g.2.2.1, 132, .inl d_kept))] [(h0, .inr (11, [.int m_thrown2_1, .ref a_tape, .int m_taped, .int m_size, .int m_at, .int m_end, .int m_token, .int m_whole, .int m_nameSize, .int m_fault, .int m_place, .int m_trouble2_2, .ref a_letters, .int m_failed, .int m_hasHouse, .ref a_r, .ref a_fresh, .ref a_st, .ref a_undone, .ref a_kept, .int m_undos, .int m_images, .ref a_from, .ref a_begin, .ref a_motor, .ref a_change, .ref a_startFrame, .ref a_changeFrame, .ref a_lostAt, .ref a_blackAt, .ref a_slips, .ref a_leftArc, .ref a_died, .ref a_arcs, .int m_bestSum, .int m_nearest, .int m_nearestTown, .ref a_there, .ref a_backAt, .ref a_sorted, .ref a_parts, .int m_seed1, .int m_darkNow]))] [0, 1] [2] (m_copyC l g a_st a_kept z_9 d_st d_kept (iv_w iv_11 (by decide) (by decide))) dX11_image_49 mw619 mw620 mw5 mw621 (by unfold yOk; decide) rfl (Nat.le_of_ble_eq_true rfl) (Nat.le_of_ble_eq_true rfl) (Nat.le_of_ble_eq_true rfl) (Nat.le_of_ble_eq_true rfl) (Nat.le_of_ble_eq_true rfl) rfl rfl (by decide) rfl (by decide) (by decide) ?_
      rintro w ⟨f3_12, rfl⟩
      refine k_ws [(h0, .inr (11, [.int m_thrown2_1, .ref a_tape, .int m_taped, .int m_size, .int m_at, .int m_end, .int m_token, .int m_whole, .int m_nameSize, .int m_fault, .int m_place, .int m_trouble2_2, .ref a_letters, .int m_failed, .int m_hasHouse, .ref a_r, .ref a_fresh, .ref a_st, .ref a_undone, .ref a_kept, .int m_undos, .int m_images, .ref a_from, .ref a_begin, .ref a_motor, .ref a_change, .ref a_startFrame, .ref a_changeFrame, .ref a_lostAt, .ref a_blackAt, .ref a_slips, .ref a_leftArc, .ref a_died, .ref a_arcs, .int m_bestSum, .int m_nearest, .int m_nearestTown, .ref a_there, .ref a_backAt, .ref a_sorted, .ref a_parts, .int m_seed1, .int m_darkNow])), (a_st, .inl (g.2.2.1, 44, .inl d_st)), (a_kept, .inl (g.2.2.1, 132, .inl f3_12))] rfl ?_
      refine k_aload_n X dX11_image_52 0 rfl ?_
      refine k_dup X dX11_image_53 rfl ?_
      refine k_get (ci := 11) X inlX11 rfl 21 (by decide) dX11_image_54 mw476 0 rfl rfl ?_
      refine k_iconst (v := 1) X dX11_image_57 (by decide) ?_
      refine k_iadd X dX11_image_58 ?_
      refine k_nm (fun z_14 ez_14 => ?_)
      have i_15 : z_14.toInt = m_images.toInt + 1 := in_add ez_14 iv_8 (show IV 1 1 1 from (by decide)) (by decide) (by decide)
      have iv_16 : IV z_14 1 3 := by have := iv_8; have := (show IV 1 1 1 from (by decide)); rw [IV, i_15]; omega
      refine k_put (ci := 11) [(h0, .inr (11, [.int m_thrown2_1, .ref a_tape, .int m_taped, .int m_size, .int m_at, .int m_end, .int m_token, .int m_whole, .int m_nameSize, .int m_fault, .int m_place, .int m_trouble2_2, .ref a_letters, .int m_failed, .int m_hasHouse, .ref a_r, .ref a_fresh, .ref a_st, .ref a_undone, .ref a_kept, .int m_undos, .int z_14, .ref a_from, .ref a_begin, .ref a_motor, .ref a_change, .ref a_startFrame, .ref a_changeFrame, .ref a_lostAt, .ref a_blackAt, .ref a_slips, .ref a_leftArc, .ref a_died, .ref a_arcs, .int m_bestSum, .int m_nearest, .int m_nearestTown, .ref a_there, .ref a_backAt, .ref a_sorted, .ref a_parts, .int m_seed1, .int m_darkNow])), (a_st, .inl (g.2.2.1, 44, .inl d_st)), (a_kept, .inl (g.2.2.1, 132, .inl f3_12))] X inlX11 rfl tyX11_ok nmX11 21 (by decide) rfl dX11_image_59 mw476 0 rfl rfl rfl (Nat.le_of_ble_eq_true rfl) rfl ?_
      refine k_aload_n X dX11_image_62 0 rfl ?_
      refine k_get (ci := 11) X inlX11 rfl 21 (by decide) dX11_image_63 mw476 0 rfl rfl ?_
      refine k_iconst (v := 1) X dX11_image_66 (by decide) ?_
      refine k_isub X dX11_image_67 ?_
      refine k_nm (fun z_17 ez_17 => ?_)
      have i_18 : z_17.toInt = z_14.toInt - 1 := in_sub ez_17 iv_16 (show IV 1 1 1 from (by decide)) (by decide) (by decide)
      have iv_19 : IV z_17 0 2 := by have := iv_16; have := (show IV 1 1 1 from (by decide)); rw [IV, i_18]; omega
      exact k_iret X hr dX11_image_68 (Nat.le_of_ble_eq_true rfl) (Nat.le_of_ble_eq_true rfl) [0, 1, 2] (by decide) rfl rfl ⟨z_14, f3_12, m_thrown2_1, m_trouble2_2, (iv_w iv_16 (by decide) (by decide)), (by assumption), rfl⟩
    · skip
      have iv_20 : IV m_images 3 3 := iv_meet hv_m_images (iv_e h_7 (show IV 3 3 3 from (by decide))) (by decide) (by decide)
      refine k_aload_n X dX11_image_25 0 rfl ?_
      refine k_iconst (v := 3) X dX11_image_26 (by decide) ?_
      refine k_callVI (n := 1) (As := [.int 3]) (st := []) X [(h0, .inr (11, [.int m_thrown2_1, .ref a_tape, .int m_taped, .int m_size, .int m_at, .int m_end, .int m_token, .int m_whole, .int m_nameSize, .int m_fault, .int m_place, .int m_trouble2_2, .ref a_letters, .int m_failed, .int m_hasHouse, .ref a_r, .ref a_fresh, .ref a_st, .ref a_undone, .ref a_kept, .int m_undos, .int m_images, .ref a_from, .ref a_begin, .ref a_motor, .ref a_change, .ref a_startFrame, .ref a_changeFrame, .ref a_lostAt, .ref a_blackAt, .ref a_slips, .ref a_leftArc, .ref a_died, .ref a_arcs, .int m_bestSum, .int m_nearest, .int m_nearestTown, .ref a_there, .ref a_backAt, .ref a_sorted, .ref a_parts, .int m_seed1, .int m_darkNow]))] [(a_st, .inl (g.2.2.1, 44, .inl d_st)), (a_kept, .inl (g.2.2.1, 132, .inl d_kept))] [2] [0, 1] (m_noF l g h0 3 m_thrown2_1 a_tape m_taped m_size m_at m_end m_token m_whole m_nameSize m_fault m_place m_trouble2_2 a_letters m_failed m_hasHouse a_r a_fresh a_st a_undone a_kept m_undos m_images a_from a_begin a_motor a_change a_startFrame a_changeFrame a_lostAt a_blackAt a_slips a_leftArc a_died a_arcs m_bestSum m_nearest m_nearestTown a_there a_backAt a_sorted a_parts m_seed1 m_darkNow (by decide)) dX11_image_27 mw485 mw486 mw487 mw5 mw488 rfl 11 rfl rfl 0 _ rfl (by unfold yOk; decide) rfl (Nat.le_of_ble_eq_true rfl) (Nat.le_of_ble_eq_true rfl) (Nat.le_of_ble_eq_true rfl) (Nat.le_of_ble_eq_true rfl) (Nat.le_of_ble_eq_true rfl) rfl rfl (by decide) rfl (by decide) (by decide) ?_
      rintro r_22 w ⟨m_trouble2_21, iv_23, hq_24, rfl⟩
      refine k_ws [(a_st, .inl (g.2.2.1, 44, .inl d_st)), (a_kept, .inl (g.2.2.1, 132, .inl d_kept)), (h0, .inr (11, [.int m_thrown2_1, .ref a_tape, .int m_taped, .int m_size, .int m_at, .int m_end, .int m_token, .int m_whole, .int m_nameSize, .int m_fault, .int m_place, .int m_trouble2_21, .ref a_letters, .int m_failed, .int m_hasHouse, .ref a_r, .ref a_fresh, .ref a_st, .ref a_undone, .ref a_kept, .int m_undos, .int m_images, .ref a_from, .ref a_begin, .ref a_motor, .ref a_change, .ref a_startFrame, .ref a_changeFrame, .ref a_lostAt, .ref a_blackAt, .ref a_slips, .ref a_leftArc, .ref a_died, .ref a_arcs, .int m_bestSum, .int m_nearest, .int m_nearestTown, .ref a_there, .ref a_backAt, .ref a_sorted, .ref a_parts, .int m_seed1, .int m_darkNow]))] rfl ?_
      exact k_iret X hr dX11_image_30 (Nat.le_of_ble_eq_true rfl) (Nat.le_of_ble_eq_true rfl) [2, 0, 1] (by decide) rfl rfl ⟨m_images, d_kept, m_thrown2_1, m_trouble2_21, (iv_w iv_20 (by decide) (by decide)), (by assumption), rfl⟩
  · skip
    have iv_25 : IV m_hasHouse 0 0 := iv_meet hv_m_hasHouse (iv_e h_5 (show IV 0 0 0 from (by decide))) (by decide) (by decide)
    refine k_aload_n X dX11_image_11 0 rfl ?_
    refine k_iconst (v := 1) X dX11_image_12 (by decide) ?_
    refine k_callVI (n := 1) (As := [.int 1]) (st := []) X [(h0, .inr (11, [.int m_thrown2_1, .ref a_tape, .int m_taped, .int m_size, .int m_at, .int m_end, .int m_token, .int m_whole, .int m_nameSize, .int m_fault, .int m_place, .int m_trouble2_2, .ref a_letters, .int m_failed, .int m_hasHouse, .ref a_r, .ref a_fresh, .ref a_st, .ref a_undone, .ref a_kept, .int m_undos, .int m_images, .ref a_from, .ref a_begin, .ref a_motor, .ref a_change, .ref a_startFrame, .ref a_changeFrame, .ref a_lostAt, .ref a_blackAt, .ref a_slips, .ref a_leftArc, .ref a_died, .ref a_arcs, .int m_bestSum, .int m_nearest, .int m_nearestTown, .ref a_there, .ref a_backAt, .ref a_sorted, .ref a_parts, .int m_seed1, .int m_darkNow]))] [(a_st, .inl (g.2.2.1, 44, .inl d_st)), (a_kept, .inl (g.2.2.1, 132, .inl d_kept))] [2] [0, 1] (m_noF l g h0 1 m_thrown2_1 a_tape m_taped m_size m_at m_end m_token m_whole m_nameSize m_fault m_place m_trouble2_2 a_letters m_failed m_hasHouse a_r a_fresh a_st a_undone a_kept m_undos m_images a_from a_begin a_motor a_change a_startFrame a_changeFrame a_lostAt a_blackAt a_slips a_leftArc a_died a_arcs m_bestSum m_nearest m_nearestTown a_there a_backAt a_sorted a_parts m_seed1 m_darkNow (by decide)) dX11_image_13 mw485 mw486 mw487 mw5 mw488 rfl 11 rfl rfl 0 _ rfl (by unfold yOk; decide) rfl (Nat.le_of_ble_eq_true rfl) (Nat.le_of_ble_eq_true rfl) (Nat.le_of_ble_eq_true rfl) (Nat.le_of_ble_eq_true rfl) (Nat.le_of_ble_eq_true rfl) rfl rfl (by decide) rfl (by decide) (by decide) ?_
    rintro r_27 w ⟨m_trouble2_26, iv_28, hq_29, rfl⟩
    refine k_ws [(a_st, .inl (g.2.2.1, 44, .inl d_st)), (a_kept, .inl (g.2.2.1, 132, .inl d_kept)), (h0, .inr (11, [.int m_thrown2_1, .ref a_tape, .int m_taped, .int m_size, .int m_at, .int m_end, .int m_token, .int m_whole, .int m_nameSize, .int m_fault, .int m_place, .int m_trouble2_26, .ref a_letters, .int m_failed, .int m_hasHouse, .ref a_r, .ref a_fresh, .ref a_st, .ref a_undone, .ref a_kept, .int m_undos, .int m_images, .ref a_from, .ref a_begin, .ref a_motor, .ref a_change, .ref a_startFrame, .ref a_changeFrame, .ref a_lostAt, .ref a_blackAt, .ref a_slips, .ref a_leftArc, .ref a_died, .ref a_arcs, .int m_bestSum, .int m_nearest, .int m_nearestTown, .ref a_there, .ref a_backAt, .ref a_sorted, .ref a_parts, .int m_seed1, .int m_darkNow]))] rfl ?_
    exact k_iret X hr dX11_image_16 (Nat.le_of_ble_eq_true rfl) (Nat.le_of_ble_eq_true rfl) [2, 0, 1] (by decide) rfl rfl ⟨m_images, d_kept, m_thrown2_1, m_trouble2_26, (iv_w hv_m_images (by decide) (by decide)), (by assumption), rfl⟩

theorem dX11_back_0 : decode cX11_back 0 = .ok (.aload_n 0, 1) := by decide +kernel
theorem dX11_back_1 : decode cX11_back 1 = .ok (.invokevirtual 200, 3) := by decide +kernel
theorem dX11_back_4 : decode cX11_back 4 = .ok (.iload_n 1, 1) := by decide +kernel
theorem dX11_back_5 : decode cX11_back 5 = .ok (.iconst 0, 1) := by decide +kernel
theorem dX11_back_6 : decode cX11_back 6 = .ok (.aload_n 0, 1) := by decide +kernel
theorem dX11_back_7 : decode cX11_back 7 = .ok (.getfield 219, 3) := by decide +kernel
theorem dX11_back_10 : decode cX11_back 10 = .ok (.iconst 1, 1) := by decide +kernel
theorem dX11_back_11 : decode cX11_back 11 = .ok (.isub, 1) := by decide +kernel
theorem dX11_back_12 : decode cX11_back 12 = .ok (.invokestatic 182, 3) := by decide +kernel
theorem dX11_back_15 : decode cX11_back 15 = .ok (.ifCond .ne 9, 3) := by decide +kernel
theorem dX11_back_18 : decode cX11_back 18 = .ok (.aload_n 0, 1) := by decide +kernel
theorem dX11_back_19 : decode cX11_back 19 = .ok (.iconst 1, 1) := by decide +kernel
theorem dX11_back_20 : decode cX11_back 20 = .ok (.invokevirtual 473, 3) := by decide +kernel
theorem dX11_back_23 : decode cX11_back 23 = .ok (.ireturn, 1) := by decide +kernel
theorem dX11_back_24 : decode cX11_back 24 = .ok (.aload_n 0, 1) := by decide +kernel
theorem dX11_back_25 : decode cX11_back 25 = .ok (.getfield 32, 3) := by decide +kernel
theorem dX11_back_28 : decode cX11_back 28 = .ok (.bipush 44, 2) := by decide +kernel
theorem dX11_back_30 : decode cX11_back 30 = .ok (.iload_n 1, 1) := by decide +kernel
theorem dX11_back_31 : decode cX11_back 31 = .ok (.imul, 1) := by decide +kernel
theorem dX11_back_32 : decode cX11_back 32 = .ok (.aload_n 0, 1) := by decide +kernel
theorem dX11_back_33 : decode cX11_back 33 = .ok (.getfield 26, 3) := by decide +kernel
theorem dX11_back_36 : decode cX11_back 36 = .ok (.iconst 0, 1) := by decide +kernel
theorem dX11_back_37 : decode cX11_back 37 = .ok (.bipush 44, 2) := by decide +kernel
theorem dX11_back_39 : decode cX11_back 39 = .ok (.invokestatic 209, 3) := by decide +kernel
theorem dX11_back_42 : decode cX11_back 42 = .ok (.aload_n 0, 1) := by decide +kernel
theorem dX11_back_43 : decode cX11_back 43 = .ok (.iconst 0, 1) := by decide +kernel
theorem dX11_back_44 : decode cX11_back 44 = .ok (.putfield 216, 3) := by decide +kernel
theorem dX11_back_47 : decode cX11_back 47 = .ok (.iconst 1, 1) := by decide +kernel
theorem dX11_back_48 : decode cX11_back 48 = .ok (.ireturn, 1) := by decide +kernel
set_option maxHeartbeats 4000000 in
set_option maxRecDepth 100000 in
theorem m_back (l : Launch) (g : Gx) (h0 : Nat) (p0 : Int32) (m_thrown : Int32) (a_tape : Nat) (m_taped : Int32) (m_size : Int32) (m_at : Int32) (m_end : Int32) (m_token : Int32) (m_whole : Int32) (m_nameSize : Int32) (m_fault : Int32) (m_place : Int32) (m_trouble : Int32) (a_letters : Nat) (m_failed : Int32) (m_hasHouse : Int32) (a_r : Nat) (a_fresh : Nat) (a_st : Nat) (a_undone : Nat) (a_kept : Nat) (m_undos : Int32) (m_images : Int32) (a_from : Nat) (a_begin : Nat) (a_motor : Nat) (a_change : Nat) (a_startFrame : Nat) (a_changeFrame : Nat) (a_lostAt : Nat) (a_blackAt : Nat) (a_slips : Nat) (a_leftArc : Nat) (a_died : Nat) (a_arcs : Nat) (m_bestSum : Int32) (m_nearest : Int32) (m_nearestTown : Int32) (a_there : Nat) (a_backAt : Nat) (a_sorted : Nat) (a_parts : Nat) (m_seed1 : Int32) (m_darkNow : Int32) (d_st : Nat → Int32) (d_kept : Nat → Int32) (hv_m_undos : IV m_undos 0 12) (hv_m_images : IV m_images 0 3) : cI l g yX11_back cX11_back 2 (some .boolean) 1 25 0 0 [.ref h0, .int p0] [(h0, .inr (11, [.int m_thrown, .ref a_tape, .int m_taped, .int m_size, .int m_at, .int m_end, .int m_token, .int m_whole, .int m_nameSize, .int m_fault, .int m_place, .int m_trouble, .ref a_letters, .int m_failed, .int m_hasHouse, .ref a_r, .ref a_fresh, .ref a_st, .ref a_undone, .ref a_kept, .int m_undos, .int m_images, .ref a_from, .ref a_begin, .ref a_motor, .ref a_change, .ref a_startFrame, .ref a_changeFrame, .ref a_lostAt, .ref a_blackAt, .ref a_slips, .ref a_leftArc, .ref a_died, .ref a_arcs, .int m_bestSum, .int m_nearest, .int m_nearestTown, .ref a_there, .ref a_backAt, .ref a_sorted, .ref a_parts, .int m_seed1, .int m_darkNow])), (a_st, .inl (g.2.2.1, 44, .inl d_st)), (a_kept, .inl (g.2.2.1, 132, .inl d_kept))] (fun r w => ∃ (d_st2 : Nat → Int32) (m_thrown2 : Int32) (m_trouble2 : Int32) (m_undos2 : Int32), IV m_undos2 0 12 ∧ IV r 0 1 ∧ (m_trouble2 ≠ 4) ∧ w = [(h0, .inr (11, [.int m_thrown2, .ref a_tape, .int m_taped, .int m_size, .int m_at, .int m_end, .int m_token, .int m_whole, .int m_nameSize, .int m_fault, .int m_place, .int m_trouble2, .ref a_letters, .int m_failed, .int m_hasHouse, .ref a_r, .ref a_fresh, .ref a_st, .ref a_undone, .ref a_kept, .int m_undos2, .int m_images, .ref a_from, .ref a_begin, .ref a_motor, .ref a_change, .ref a_startFrame, .ref a_changeFrame, .ref a_lostAt, .ref a_blackAt, .ref a_slips, .ref a_leftArc, .ref a_died, .ref a_arcs, .int m_bestSum, .int m_nearest, .int m_nearestTown, .ref a_there, .ref a_backAt, .ref a_sorted, .ref a_parts, .int m_seed1, .int m_darkNow])), (a_st, .inl (g.2.2.1, 44, .inl d_st2)), (a_kept, .inl (g.2.2.1, 132, .inl d_kept))]) := by
  refine cI.of (by decide) (Nat.le_of_ble_eq_true rfl) ?_
  intro p e s m args below meth c A X hr hi
  refine k_lveq [(0, .ref h0), (1, .int p0)] rfl ?_
  refine k_aload_n X dX11_back_0 0 rfl ?_
  refine k_callVV (n := 0) (As := []) (st := []) X [(h0, .inr (11, [.int m_thrown, .ref a_tape, .int m_taped, .int m_size, .int m_at, .int m_end, .int m_token, .int m_whole, .int m_nameSize, .int m_fault, .int m_place, .int m_trouble, .ref a_letters, .int m_failed, .int m_hasHouse, .ref a_r, .ref a_fresh, .ref a_st, .ref a_undone, .ref a_kept, .int m_undos, .int m_images, .ref a_from, .ref a_begin, .ref a_motor, .ref a_change, .ref a_startFrame, .ref a_changeFrame, .ref a_lostAt, .ref a_blackAt, .ref a_slips, .ref a_leftArc, .ref a_died, .ref a_arcs, .int m_bestSum, .int m_nearest, .int m_nearestTown, .ref a_there, .ref a_backAt, .ref a_sorted, .ref a_parts, .int m_seed1, .int m_darkNow]))] [(a_st, .inl (g.2.2.1, 44, .inl d_st)), (a_kept, .inl (g.2.2.1, 132, .inl d_kept))] [0] [1, 2] (m_good l g h0 m_thrown a_tape m_taped m_size m_at m_end m_token m_whole m_nameSize m_fault m_place m_trouble a_letters m_failed m_hasHouse a_r a_fresh a_st a_undone a_kept m_undos m_images a_from a_begin a_motor a_change a_startFrame a_changeFrame a_lostAt a_blackAt a_slips a_leftArc a_died a_arcs m_bestSum m_nearest m_nearestTown a_there a_backAt a_sorted a_parts m_seed1 m_darkNow) dX11_back_1 mw477 mw478 mw479 mw5 mw480 rfl 11 rfl rfl 0 _ rfl (by unfold yOk; decide) rfl (Nat.le_of_ble_eq_true rfl) (Nat.le_of_ble_eq_true rfl) (Nat.le_of_ble_eq_true rfl) (Nat.le_of_ble_eq_true rfl) (Nat.le_of_ble_eq_true rfl) rfl rfl (by decide) rfl (by decide) (by decide) ?_
  rintro w ⟨m_thrown2_1, m_trouble2_2, hq_4, rfl⟩
  refine k_ws [(a_st, .inl (g.2.2.1, 44, .inl d_st)), (a_kept, .inl (g.2.2.1, 132, .inl d_kept)), (h0, .inr (11, [.int m_thrown2_1, .ref a_tape, .int m_taped, .int m_size, .int m_at, .int m_end, .int m_token, .int m_whole, .int m_nameSize, .int m_fault, .int m_place, .int m_trouble2_2, .ref a_letters, .int m_failed, .int m_hasHouse, .ref a_r, .ref a_fresh, .ref a_st, .ref a_undone, .ref a_kept, .int m_undos, .int m_images, .ref a_from, .ref a_begin, .ref a_motor, .ref a_change, .ref a_startFrame, .ref a_changeFrame, .ref a_lostAt, .ref a_blackAt, .ref a_slips, .ref a_leftArc, .ref a_died, .ref a_arcs, .int m_bestSum, .int m_nearest, .int m_nearestTown, .ref a_there, .ref a_backAt, .ref a_sorted, .ref a_parts, .int m_seed1, .int m_darkNow]))] rfl ?_
  refine k_iload_n X dX11_back_4 1 rfl ?_
  refine k_iconst (v := 0) X dX11_back_5 (by decide) ?_
  refine k_aload_n X dX11_back_6 0 rfl ?_
  refine k_get (ci := 11) X inlX11 rfl 21 (by decide) dX11_back_7 mw476 2 rfl rfl ?_
  refine k_iconst (v := 1) X dX11_back_10 (by decide) ?_
  refine k_isub X dX11_back_11 ?_
  refine k_nm (fun z_5 ez_5 => ?_)
  have i_6 : z_5.toInt = m_images.toInt - 1 := in_sub ez_5 hv_m_images (show IV 1 1 1 from (by decide)) (by decide) (by decide)
  have iv_7 : IV z_5 (-1) 2 := by have := hv_m_images; have := (show IV 1 1 1 from (by decide)); rw [IV, i_6]; omega
  refine k_callSI (n := 3) (As := [.int p0, .int 0, .int z_5]) (st := []) X [] [(a_st, .inl (g.2.2.1, 44, .inl d_st)), (a_kept, .inl (g.2.2.1, 132, .inl d_kept)), (h0, .inr (11, [.int m_thrown2_1, .ref a_tape, .int m_taped, .int m_size, .int m_at, .int m_end, .int m_token, .int m_whole, .int m_nameSize, .int m_fault, .int m_place, .int m_trouble2_2, .ref a_letters, .int m_failed, .int m_hasHouse, .ref a_r, .ref a_fresh, .ref a_st, .ref a_undone, .ref a_kept, .int m_undos, .int m_images, .ref a_from, .ref a_begin, .ref a_motor, .ref a_change, .ref a_startFrame, .ref a_changeFrame, .ref a_lostAt, .ref a_blackAt, .ref a_slips, .ref a_leftArc, .ref a_died, .ref a_arcs, .int m_bestSum, .int m_nearest, .int m_nearestTown, .ref a_there, .ref a_backAt, .ref a_sorted, .ref a_parts, .int m_seed1, .int m_darkNow]))] [] [0, 1, 2] (m_in l g p0 0 z_5) dX11_back_12 mw482 mw483 mw5 mw484 (by unfold yOk; decide) rfl (Nat.le_of_ble_eq_true rfl) (Nat.le_of_ble_eq_true rfl) (Nat.le_of_ble_eq_true rfl) (Nat.le_of_ble_eq_true rfl) (Nat.le_of_ble_eq_true rfl) rfl rfl (by decide) rfl (by decide) (by decide) ?_
  rintro r_8 w ⟨iv_9, hk_10, hk_11, rfl⟩
  refine k_ws [(a_st, .inl (g.2.2.1, 44, .inl d_st)), (a_kept, .inl (g.2.2.1, 132, .inl d_kept)), (h0, .inr (11, [.int m_thrown2_1, .ref a_tape, .int m_taped, .int m_size, .int m_at, .int m_end, .int m_token, .int m_whole, .int m_nameSize, .int m_fault, .int m_place, .int m_trouble2_2, .ref a_letters, .int m_failed, .int m_hasHouse, .ref a_r, .ref a_fresh, .ref a_st, .ref a_undone, .ref a_kept, .int m_undos, .int m_images, .ref a_from, .ref a_begin, .ref a_motor, .ref a_change, .ref a_startFrame, .ref a_changeFrame, .ref a_lostAt, .ref a_blackAt, .ref a_slips, .ref a_leftArc, .ref a_died, .ref a_arcs, .int m_bestSum, .int m_nearest, .int m_nearestTown, .ref a_there, .ref a_backAt, .ref a_sorted, .ref a_parts, .int m_seed1, .int m_darkNow]))] rfl ?_
  refine k_if_ne 24 X dX11_back_15 (by decide) (fun h_12 => ?_) (fun h_12 => ?_)
  · skip
    have hc_13 := hk_10.resolve_left h_12
    have j_14 : 0 ≤ p0.toInt := hc_13.1
    have iv_15 : IV p0 0 2147483647 := iv_leR hc_13.1 (show IV 0 0 0 from (by decide)) (iv_any p0) (by decide)
    have j_16 : p0.toInt ≤ z_5.toInt := hc_13.2
    have iv_17 : IV p0 0 2 := iv_leL hc_13.2 iv_15 iv_7 (by decide)
    have iv_18 : IV z_5 0 2 := iv_leR hc_13.2 iv_17 iv_7 (by decide)
    have iv_19 : IV m_images 1 3 := by have := hv_m_images; have := iv_18; rw [IV]; omega
    have iv_20 : IV r_8 1 1 := iv_neL h_12 iv_9 (show IV 0 0 0 from (by decide)) (by decide)
    refine k_aload_n X dX11_back_24 0 rfl ?_
    refine k_get (ci := 11) X inlX11 rfl 19 (by decide) dX11_back_25 mw174 2 rfl rfl ?_
    refine k_bipush (v := 44) X dX11_back_28 (by decide) ?_
    refine k_iload_n X dX11_back_30 1 rfl ?_
    refine k_imul X dX11_back_31 ?_
    refine k_nm (fun z_21 ez_21 => ?_)
    have i_22 : z_21.toInt = 44 * p0.toInt := in_mul ez_21 (by decide) (by decide) iv_17 (by decide) (by decide)
    have iv_23 : IV z_21 0 88 := by have := (show IV 44 44 44 from (by decide)); have := iv_17; rw [IV, i_22]; omega
    refine k_aload_n X dX11_back_32 0 rfl ?_
    refine k_get (ci := 11) X inlX11 rfl 17 (by decide) dX11_back_33 mw172 2 rfl rfl ?_
    refine k_iconst (v := 0) X dX11_back_36 (by decide) ?_
    refine k_bipush (v := 44) X dX11_back_37 (by decide) ?_
    refine k_callSV (n := 5) (As := [.ref a_kept, .int z_21, .ref a_st, .int 0, .int 44]) (st := []) X [(a_kept, .inl (g.2.2.1, 132, .inl d_kept)), (a_st, .inl (g.2.2.1, 44, .inl d_st))] [(h0, .inr (11, [.int m_thrown2_1, .ref a_tape, .int m_taped, .int m_size, .int m_at, .int m_end, .int m_token, .int m_whole, .int m_nameSize, .int m_fault, .int m_place, .int m_trouble2_2, .ref a_letters, .int m_failed, .int m_hasHouse, .ref a_r, .ref a_fresh, .ref a_st, .ref a_undone, .ref a_kept, .int m_undos, .int m_images, .ref a_from, .ref a_begin, .ref a_motor, .ref a_change, .ref a_startFrame, .ref a_changeFrame, .ref a_lostAt, .ref a_blackAt, .ref a_slips, .ref a_leftArc, .ref a_died, .ref a_arcs, .int m_bestSum, .int m_nearest, .int m_nearestTown, .ref a_there, .ref a_backAt, .ref a_sorted, .ref a_parts, .int m_seed1, .int m_darkNow]))] [1, 0] [2] (m_copyD l g a_kept z_21 a_st d_kept d_st (iv_w iv_23 (by decide) (by decide))) dX11_back_39 mw619 mw620 mw5 mw621 (by unfold yOk; decide) rfl (Nat.le_of_ble_eq_true rfl) (Nat.le_of_ble_eq_true rfl) (Nat.le_of_ble_eq_true rfl) (Nat.le_of_ble_eq_true rfl) (Nat.le_of_ble_eq_true rfl) rfl rfl (by decide) rfl (by decide) (by decide) ?_
    rintro w ⟨f3_24, rfl⟩
    refine k_ws [(h0, .inr (11, [.int m_thrown2_1, .ref a_tape, .int m_taped, .int m_size, .int m_at, .int m_end, .int m_token, .int m_whole, .int m_nameSize, .int m_fault, .int m_place, .int m_trouble2_2, .ref a_letters, .int m_failed, .int m_hasHouse, .ref a_r, .ref a_fresh, .ref a_st, .ref a_undone, .ref a_kept, .int m_undos, .int m_images, .ref a_from, .ref a_begin, .ref a_motor, .ref a_change, .ref a_startFrame, .ref a_changeFrame, .ref a_lostAt, .ref a_blackAt, .ref a_slips, .ref a_leftArc, .ref a_died, .ref a_arcs, .int m_bestSum, .int m_nearest, .int m_nearestTown, .ref a_there, .ref a_backAt, .ref a_sorted, .ref a_parts, .int m_seed1, .int m_darkNow])), (a_kept, .inl (g.2.2.1, 132, .inl d_kept)), (a_st, .inl (g.2.2.1, 44, .inl f3_24))] rfl ?_
    refine k_aload_n X dX11_back_42 0 rfl ?_
    refine k_iconst (v := 0) X dX11_back_43 (by decide) ?_
    refine k_put (ci := 11) [(h0, .inr (11, [.int m_thrown2_1, .ref a_tape, .int m_taped, .int m_size, .int m_at, .int m_end, .int m_token, .int m_whole, .int m_nameSize, .int m_fault, .int m_place, .int m_trouble2_2, .ref a_letters, .int m_failed, .int m_hasHouse, .ref a_r, .ref a_fresh, .ref a_st, .ref a_undone, .ref a_kept, .int 0, .int m_images, .ref a_from, .ref a_begin, .ref a_motor, .ref a_change, .ref a_startFrame, .ref a_changeFrame, .ref a_lostAt, .ref a_blackAt, .ref a_slips, .ref a_leftArc, .ref a_died, .ref a_arcs, .int m_bestSum, .int m_nearest, .int m_nearestTown, .ref a_there, .ref a_backAt, .ref a_sorted, .ref a_parts, .int m_seed1, .int m_darkNow])), (a_kept, .inl (g.2.2.1, 132, .inl d_kept)), (a_st, .inl (g.2.2.1, 44, .inl f3_24))] X inlX11 rfl tyX11_ok nmX11 20 (by decide) rfl dX11_back_44 mw475 0 rfl rfl rfl (Nat.le_of_ble_eq_true rfl) rfl ?_
    refine k_iconst (v := 1) X dX11_back_47 (by decide) ?_
    exact k_zret X hr (by first | rfl | decide) dX11_back_48 (Nat.le_of_ble_eq_true rfl) (Nat.le_of_ble_eq_true rfl) [0, 2, 1] (by decide) rfl rfl ⟨f3_24, m_thrown2_1, m_trouble2_2, 0, (iv_w (show IV 0 0 0 from (by decide)) (by decide) (by decide)), (iv_w (show IV 1 1 1 from (by decide)) (by decide) (by decide)), (by assumption), rfl⟩
  · skip
    have iv_26 : IV r_8 0 0 := iv_meet iv_9 (iv_e h_12 (show IV 0 0 0 from (by decide))) (by decide) (by decide)
    have hc_27 := hk_11 (iv_eq iv_26 (show IV 0 0 0 from (by decide)))
    have j_28 : p0.toInt < 0 ∨ z_5.toInt < p0.toInt := hc_27
    refine k_aload_n X dX11_back_18 0 rfl ?_
    refine k_iconst (v := 1) X dX11_back_19 (by decide) ?_
    refine k_callVI (n := 1) (As := [.int 1]) (st := []) X [(h0, .inr (11, [.int m_thrown2_1, .ref a_tape, .int m_taped, .int m_size, .int m_at, .int m_end, .int m_token, .int m_whole, .int m_nameSize, .int m_fault, .int m_place, .int m_trouble2_2, .ref a_letters, .int m_failed, .int m_hasHouse, .ref a_r, .ref a_fresh, .ref a_st, .ref a_undone, .ref a_kept, .int m_undos, .int m_images, .ref a_from, .ref a_begin, .ref a_motor, .ref a_change, .ref a_startFrame, .ref a_changeFrame, .ref a_lostAt, .ref a_blackAt, .ref a_slips, .ref a_leftArc, .ref a_died, .ref a_arcs, .int m_bestSum, .int m_nearest, .int m_nearestTown, .ref a_there, .ref a_backAt, .ref a_sorted, .ref a_parts, .int m_seed1, .int m_darkNow]))] [(a_st, .inl (g.2.2.1, 44, .inl d_st)), (a_kept, .inl (g.2.2.1, 132, .inl d_kept))] [2] [0, 1] (m_isNotF l g h0 1 m_thrown2_1 a_tape m_taped m_size m_at m_end m_token m_whole m_nameSize m_fault m_place m_trouble2_2 a_letters m_failed m_hasHouse a_r a_fresh a_st a_undone a_kept m_undos m_images a_from a_begin a_motor a_change a_startFrame a_changeFrame a_lostAt a_blackAt a_slips a_leftArc a_died a_arcs m_bestSum m_nearest m_nearestTown a_there a_backAt a_sorted a_parts m_seed1 m_darkNow (by decide)) dX11_back_20 mw1471 mw1472 mw1473 mw5 mw1474 rfl 11 rfl rfl 0 _ rfl (by unfold yOk; decide) rfl (Nat.le_of_ble_eq_true rfl) (Nat.le_of_ble_eq_true rfl) (Nat.le_of_ble_eq_true rfl) (Nat.le_of_ble_eq_true rfl) (Nat.le_of_ble_eq_true rfl) rfl rfl (by decide) rfl (by decide) (by decide) ?_
    rintro r_30 w ⟨m_trouble2_29, iv_31, hq_32, rfl⟩
    refine k_ws [(a_st, .inl (g.2.2.1, 44, .inl d_st)), (a_kept, .inl (g.2.2.1, 132, .inl d_kept)), (h0, .inr (11, [.int m_thrown2_1, .ref a_tape, .int m_taped, .int m_size, .int m_at, .int m_end, .int m_token, .int m_whole, .int m_nameSize, .int m_fault, .int m_place, .int m_trouble2_29, .ref a_letters, .int m_failed, .int m_hasHouse, .ref a_r, .ref a_fresh, .ref a_st, .ref a_undone, .ref a_kept, .int m_undos, .int m_images, .ref a_from, .ref a_begin, .ref a_motor, .ref a_change, .ref a_startFrame, .ref a_changeFrame, .ref a_lostAt, .ref a_blackAt, .ref a_slips, .ref a_leftArc, .ref a_died, .ref a_arcs, .int m_bestSum, .int m_nearest, .int m_nearestTown, .ref a_there, .ref a_backAt, .ref a_sorted, .ref a_parts, .int m_seed1, .int m_darkNow]))] rfl ?_
    exact k_zret X hr (zn_b (iv_w iv_31 (by decide) (by decide))) dX11_back_23 (Nat.le_of_ble_eq_true rfl) (Nat.le_of_ble_eq_true rfl) [2, 0, 1] (by decide) rfl rfl ⟨d_st, m_thrown2_1, m_trouble2_29, m_undos, (iv_w hv_m_undos (by decide) (by decide)), (iv_w iv_31 (by decide) (by decide)), (by assumption), rfl⟩

theorem dX11_led_0 : decode cX11_led 0 = .ok (.iconst 0, 1) := by decide +kernel
theorem dX11_led_1 : decode cX11_led 1 = .ok (.istore_n 2, 1) := by decide +kernel
theorem dX11_led_2 : decode cX11_led 2 = .ok (.iconst 0, 1) := by decide +kernel
theorem dX11_led_3 : decode cX11_led 3 = .ok (.istore_n 3, 1) := by decide +kernel
theorem dX11_led_4 : decode cX11_led 4 = .ok (.aload_n 0, 1) := by decide +kernel
theorem dX11_led_5 : decode cX11_led 5 = .ok (.getfield 213, 3) := by decide +kernel
theorem dX11_led_8 : decode cX11_led 8 = .ok (.ifCond .eq 46, 3) := by decide +kernel
theorem dX11_led_11 : decode cX11_led 11 = .ok (.iload_n 3, 1) := by decide +kernel
theorem dX11_led_12 : decode cX11_led 12 = .ok (.aload_n 0, 1) := by decide +kernel
theorem dX11_led_13 : decode cX11_led 13 = .ok (.getfield 20, 3) := by decide +kernel
theorem dX11_led_16 : decode cX11_led 16 = .ok (.bipush 10, 2) := by decide +kernel
theorem dX11_led_18 : decode cX11_led 18 = .ok (.iaload, 1) := by decide +kernel
theorem dX11_led_19 : decode cX11_led 19 = .ok (.if_icmp .ge 35, 3) := by decide +kernel
theorem dX11_led_22 : decode cX11_led 22 = .ok (.aload_n 0, 1) := by decide +kernel
theorem dX11_led_23 : decode cX11_led 23 = .ok (.iload_n 3, 1) := by decide +kernel
theorem dX11_led_24 : decode cX11_led 24 = .ok (.invokevirtual 339, 3) := by decide +kernel
theorem dX11_led_27 : decode cX11_led 27 = .ok (.ifCond .eq 6, 3) := by decide +kernel
theorem dX11_led_30 : decode cX11_led 30 = .ok (.goto 18, 3) := by decide +kernel
theorem dX11_led_33 : decode cX11_led 33 = .ok (.iload_n 2, 1) := by decide +kernel
theorem dX11_led_34 : decode cX11_led 34 = .ok (.iload_n 1, 1) := by decide +kernel
theorem dX11_led_35 : decode cX11_led 35 = .ok (.if_icmp .ne 10, 3) := by decide +kernel
theorem dX11_led_38 : decode cX11_led 38 = .ok (.aload_n 0, 1) := by decide +kernel
theorem dX11_led_39 : decode cX11_led 39 = .ok (.iconst 0, 1) := by decide +kernel
theorem dX11_led_40 : decode cX11_led 40 = .ok (.putfield 83, 3) := by decide +kernel
theorem dX11_led_43 : decode cX11_led 43 = .ok (.iload_n 3, 1) := by decide +kernel
theorem dX11_led_44 : decode cX11_led 44 = .ok (.ireturn, 1) := by decide +kernel
theorem dX11_led_45 : decode cX11_led 45 = .ok (.iinc 2 1, 3) := by decide +kernel
theorem dX11_led_48 : decode cX11_led 48 = .ok (.iinc 3 1, 3) := by decide +kernel
theorem dX11_led_51 : decode cX11_led 51 = .ok (.goto (-47), 3) := by decide +kernel
theorem dX11_led_54 : decode cX11_led 54 = .ok (.aload_n 0, 1) := by decide +kernel
theorem dX11_led_55 : decode cX11_led 55 = .ok (.iconst 1, 1) := by decide +kernel
theorem dX11_led_56 : decode cX11_led 56 = .ok (.putfield 83, 3) := by decide +kernel
theorem dX11_led_59 : decode cX11_led 59 = .ok (.iconst 0, 1) := by decide +kernel
theorem dX11_led_60 : decode cX11_led 60 = .ok (.ireturn, 1) := by decide +kernel
set_option maxHeartbeats 4000000 in
set_option maxRecDepth 100000 in
theorem m_led (l : Launch) (g : Gx) (h0 : Nat) (p0 : Int32) (m_thrown : Int32) (a_tape : Nat) (m_taped : Int32) (m_size : Int32) (m_at : Int32) (m_end : Int32) (m_token : Int32) (m_whole : Int32) (m_nameSize : Int32) (m_fault : Int32) (m_place : Int32) (m_trouble : Int32) (a_letters : Nat) (m_failed : Int32) (m_hasHouse : Int32) (a_r : Nat) (a_fresh : Nat) (a_st : Nat) (a_undone : Nat) (a_kept : Nat) (m_undos : Int32) (m_images : Int32) (a_from : Nat) (a_begin : Nat) (a_motor : Nat) (a_change : Nat) (a_startFrame : Nat) (a_changeFrame : Nat) (a_lostAt : Nat) (a_blackAt : Nat) (a_slips : Nat) (a_leftArc : Nat) (a_died : Nat) (a_arcs : Nat) (m_bestSum : Int32) (m_nearest : Int32) (m_nearestTown : Int32) (a_there : Nat) (a_backAt : Nat) (a_sorted : Nat) (a_parts : Nat) (m_seed1 : Int32) (m_darkNow : Int32) (d_r : Nat → Int32) (d_st : Nat → Int32) (hv_m_hasHouse : IV m_hasHouse 0 1) (hp_d_r : RInv d_r) : cI l g yX11_led cX11_led 4 (some .int) 2 42 0 0 [.ref h0, .int p0] [(h0, .inr (11, [.int m_thrown, .ref a_tape, .int m_taped, .int m_size, .int m_at, .int m_end, .int m_token, .int m_whole, .int m_nameSize, .int m_fault, .int m_place, .int m_trouble, .ref a_letters, .int m_failed, .int m_hasHouse, .ref a_r, .ref a_fresh, .ref a_st, .ref a_undone, .ref a_kept, .int m_undos, .int m_images, .ref a_from, .ref a_begin, .ref a_motor, .ref a_change, .ref a_startFrame, .ref a_changeFrame, .ref a_lostAt, .ref a_blackAt, .ref a_slips, .ref a_leftArc, .ref a_died, .ref a_arcs, .int m_bestSum, .int m_nearest, .int m_nearestTown, .ref a_there, .ref a_backAt, .ref a_sorted, .ref a_parts, .int m_seed1, .int m_darkNow])), (a_r, .inl (g.2.2.1, 311, .inl d_r)), (a_st, .inl (g.2.2.1, 44, .inl d_st))] (fun r w => ∃ (m_thrown2 : Int32), w = [(h0, .inr (11, [.int m_thrown2, .ref a_tape, .int m_taped, .int m_size, .int m_at, .int m_end, .int m_token, .int m_whole, .int m_nameSize, .int m_fault, .int m_place, .int m_trouble, .ref a_letters, .int m_failed, .int m_hasHouse, .ref a_r, .ref a_fresh, .ref a_st, .ref a_undone, .ref a_kept, .int m_undos, .int m_images, .ref a_from, .ref a_begin, .ref a_motor, .ref a_change, .ref a_startFrame, .ref a_changeFrame, .ref a_lostAt, .ref a_blackAt, .ref a_slips, .ref a_leftArc, .ref a_died, .ref a_arcs, .int m_bestSum, .int m_nearest, .int m_nearestTown, .ref a_there, .ref a_backAt, .ref a_sorted, .ref a_parts, .int m_seed1, .int m_darkNow])), (a_r, .inl (g.2.2.1, 311, .inl d_r)), (a_st, .inl (g.2.2.1, 44, .inl d_st))]) := by
  refine cI.of (by decide) (Nat.le_of_ble_eq_true rfl) ?_
  intro p e s m args below meth c A X hr hi
  refine k_lveq [(0, .ref h0), (1, .int p0)] rfl ?_
  refine k_iconst (v := 0) X dX11_led_0 (by decide) ?_
  refine k_istore_n [(2, .int 0), (0, .ref h0), (1, .int p0)] X dX11_led_1 (by decide) rfl ?_
  refine k_iconst (v := 0) X dX11_led_2 (by decide) ?_
  refine k_istore_n [(3, .int 0), (2, .int 0), (0, .ref h0), (1, .int p0)] X dX11_led_3 (by decide) rfl ?_
  refine (fun hL : ∀ (nn_4 : Nat) (u_1 : Int32) (u_2 : Int32), (2147483647 - u_2.toInt).toNat = nn_4 → (IV u_2 0 8) → Wk p l e _ s m args below meth c _ A g _ _ _ [(h0, .inr (11, [.int m_thrown, .ref a_tape, .int m_taped, .int m_size, .int m_at, .int m_end, .int m_token, .int m_whole, .int m_nameSize, .int m_fault, .int m_place, .int m_trouble, .ref a_letters, .int m_failed, .int m_hasHouse, .ref a_r, .ref a_fresh, .ref a_st, .ref a_undone, .ref a_kept, .int m_undos, .int m_images, .ref a_from, .ref a_begin, .ref a_motor, .ref a_change, .ref a_startFrame, .ref a_changeFrame, .ref a_lostAt, .ref a_blackAt, .ref a_slips, .ref a_leftArc, .ref a_died, .ref a_arcs, .int m_bestSum, .int m_nearest, .int m_nearestTown, .ref a_there, .ref a_backAt, .ref a_sorted, .ref a_parts, .int m_seed1, .int m_darkNow])), (a_r, .inl (g.2.2.1, 311, .inl d_r)), (a_st, .inl (g.2.2.1, 44, .inl d_st))] [(3, .int u_2), (2, .int u_1), (0, .ref h0), (1, .int p0)] 4 [] => hL _ 0 0 rfl (iv_w (show IV 0 0 0 from (by decide)) (by decide) (by decide))) ?_
  refine fun nn_4 => Nat.strongRecOn nn_4 (fun nn_4 ih_6 => ?_)
  intro u_1 u_2 hm_5 hv_3
  refine k_aload_n X dX11_led_4 2 rfl ?_
  refine k_get (ci := 11) X inlX11 rfl 14 (by decide) dX11_led_5 mw474 0 rfl rfl ?_
  refine k_if_eq 54 X dX11_led_8 (by decide) (fun h_7 => ?_) (fun h_7 => ?_)
  · skip
    have iv_8 : IV m_hasHouse 0 0 := iv_meet hv_m_hasHouse (iv_e h_7 (show IV 0 0 0 from (by decide))) (by decide) (by decide)
    refine k_aload_n X dX11_led_54 2 rfl ?_
    refine k_iconst (v := 1) X dX11_led_55 (by decide) ?_
    refine k_put (ci := 11) [(h0, .inr (11, [.int 1, .ref a_tape, .int m_taped, .int m_size, .int m_at, .int m_end, .int m_token, .int m_whole, .int m_nameSize, .int m_fault, .int m_place, .int m_trouble, .ref a_letters, .int m_failed, .int m_hasHouse, .ref a_r, .ref a_fresh, .ref a_st, .ref a_undone, .ref a_kept, .int m_undos, .int m_images, .ref a_from, .ref a_begin, .ref a_motor, .ref a_change, .ref a_startFrame, .ref a_changeFrame, .ref a_lostAt, .ref a_blackAt, .ref a_slips, .ref a_leftArc, .ref a_died, .ref a_arcs, .int m_bestSum, .int m_nearest, .int m_nearestTown, .ref a_there, .ref a_backAt, .ref a_sorted, .ref a_parts, .int m_seed1, .int m_darkNow])), (a_r, .inl (g.2.2.1, 311, .inl d_r)), (a_st, .inl (g.2.2.1, 44, .inl d_st))] X inlX11 rfl tyX11_ok nmX11 0 (by decide) rfl dX11_led_56 mw204 0 rfl rfl rfl (Nat.le_of_ble_eq_true rfl) rfl ?_
    refine k_iconst (v := 0) X dX11_led_59 (by decide) ?_
    exact k_iret X hr dX11_led_60 (Nat.le_of_ble_eq_true rfl) (Nat.le_of_ble_eq_true rfl) [0, 1, 2] (by decide) rfl rfl ⟨1, rfl⟩
  · skip
    have iv_9 : IV m_hasHouse 1 1 := iv_neL h_7 hv_m_hasHouse (show IV 0 0 0 from (by decide)) (by decide)
    refine k_iload_n X dX11_led_11 0 rfl ?_
    refine k_aload_n X dX11_led_12 2 rfl ?_
    refine k_get (ci := 11) X inlX11 rfl 15 (by decide) dX11_led_13 mw170 0 rfl rfl ?_
    refine k_bipush (v := 10) X dX11_led_16 (by decide) ?_
    refine k_iald X dX11_led_18 1 rfl (by unfold vp_in; decide) ?_
    refine k_nm (fun z_10 ez_10 => ?_)
    have i_11 : z_10.toInt = (d_r 10).toInt := by rw [ez_10]; rfl
    have iv_12 : IV z_10 0 6 := rb_10 ez_10 hp_d_r
    refine k_ic_ge 54 X dX11_led_19 (by decide) (fun h_13 => ?_) (fun h_13 => ?_)
    · skip
      have j_14 : z_10.toInt ≤ u_2.toInt := iv_le h_13
      refine k_aload_n X dX11_led_54 2 rfl ?_
      refine k_iconst (v := 1) X dX11_led_55 (by decide) ?_
      refine k_put (ci := 11) [(h0, .inr (11, [.int 1, .ref a_tape, .int m_taped, .int m_size, .int m_at, .int m_end, .int m_token, .int m_whole, .int m_nameSize, .int m_fault, .int m_place, .int m_trouble, .ref a_letters, .int m_failed, .int m_hasHouse, .ref a_r, .ref a_fresh, .ref a_st, .ref a_undone, .ref a_kept, .int m_undos, .int m_images, .ref a_from, .ref a_begin, .ref a_motor, .ref a_change, .ref a_startFrame, .ref a_changeFrame, .ref a_lostAt, .ref a_blackAt, .ref a_slips, .ref a_leftArc, .ref a_died, .ref a_arcs, .int m_bestSum, .int m_nearest, .int m_nearestTown, .ref a_there, .ref a_backAt, .ref a_sorted, .ref a_parts, .int m_seed1, .int m_darkNow])), (a_r, .inl (g.2.2.1, 311, .inl d_r)), (a_st, .inl (g.2.2.1, 44, .inl d_st))] X inlX11 rfl tyX11_ok nmX11 0 (by decide) rfl dX11_led_56 mw204 0 rfl rfl rfl (Nat.le_of_ble_eq_true rfl) rfl ?_
      refine k_iconst (v := 0) X dX11_led_59 (by decide) ?_
      exact k_iret X hr dX11_led_60 (Nat.le_of_ble_eq_true rfl) (Nat.le_of_ble_eq_true rfl) [0, 1, 2] (by decide) rfl rfl ⟨1, rfl⟩
    · skip
      have j_15 : u_2.toInt < z_10.toInt := iv_nle h_13
      have iv_16 : IV u_2 0 5 := iv_ltL (iv_nle h_13) hv_3 iv_12 (by decide)
      have iv_17 : IV z_10 1 6 := iv_ltR (iv_nle h_13) hv_3 iv_12 (by decide)
      refine k_aload_n X dX11_led_22 2 rfl ?_
      refine k_iload_n X dX11_led_23 0 rfl ?_
      refine k_callVI (n := 1) (As := [.int u_2]) (st := []) X [(h0, .inr (11, [.int m_thrown, .ref a_tape, .int m_taped, .int m_size, .int m_at, .int m_end, .int m_token, .int m_whole, .int m_nameSize, .int m_fault, .int m_place, .int m_trouble, .ref a_letters, .int m_failed, .int m_hasHouse, .ref a_r, .ref a_fresh, .ref a_st, .ref a_undone, .ref a_kept, .int m_undos, .int m_images, .ref a_from, .ref a_begin, .ref a_motor, .ref a_change, .ref a_startFrame, .ref a_changeFrame, .ref a_lostAt, .ref a_blackAt, .ref a_slips, .ref a_leftArc, .ref a_died, .ref a_arcs, .int m_bestSum, .int m_nearest, .int m_nearestTown, .ref a_there, .ref a_backAt, .ref a_sorted, .ref a_parts, .int m_seed1, .int m_darkNow])), (a_st, .inl (g.2.2.1, 44, .inl d_st))] [(a_r, .inl (g.2.2.1, 311, .inl d_r))] [0, 2] [1] (m_isMended l g h0 u_2 m_thrown a_tape m_taped m_size m_at m_end m_token m_whole m_nameSize m_fault m_place m_trouble a_letters m_failed m_hasHouse a_r a_fresh a_st a_undone a_kept m_undos m_images a_from a_begin a_motor a_change a_startFrame a_changeFrame a_lostAt a_blackAt a_slips a_leftArc a_died a_arcs m_bestSum m_nearest m_nearestTown a_there a_backAt a_sorted a_parts m_seed1 m_darkNow d_st) dX11_led_24 mw682 mw683 mw684 mw5 mw685 rfl 11 rfl rfl 0 _ rfl (by unfold yOk; decide) rfl (Nat.le_of_ble_eq_true rfl) (Nat.le_of_ble_eq_true rfl) (Nat.le_of_ble_eq_true rfl) (Nat.le_of_ble_eq_true rfl) (Nat.le_of_ble_eq_true rfl) rfl rfl (by decide) rfl (by decide) (by decide) ?_
      rintro r_18 w ⟨iv_19, rfl⟩
      refine k_ws [(a_r, .inl (g.2.2.1, 311, .inl d_r)), (h0, .inr (11, [.int m_thrown, .ref a_tape, .int m_taped, .int m_size, .int m_at, .int m_end, .int m_token, .int m_whole, .int m_nameSize, .int m_fault, .int m_place, .int m_trouble, .ref a_letters, .int m_failed, .int m_hasHouse, .ref a_r, .ref a_fresh, .ref a_st, .ref a_undone, .ref a_kept, .int m_undos, .int m_images, .ref a_from, .ref a_begin, .ref a_motor, .ref a_change, .ref a_startFrame, .ref a_changeFrame, .ref a_lostAt, .ref a_blackAt, .ref a_slips, .ref a_leftArc, .ref a_died, .ref a_arcs, .int m_bestSum, .int m_nearest, .int m_nearestTown, .ref a_there, .ref a_backAt, .ref a_sorted, .ref a_parts, .int m_seed1, .int m_darkNow])), (a_st, .inl (g.2.2.1, 44, .inl d_st))] rfl ?_
      refine k_if_eq 33 X dX11_led_27 (by decide) (fun h_20 => ?_) (fun h_20 => ?_)
      · skip
        have iv_21 : IV r_18 0 0 := iv_meet iv_19 (iv_e h_20 (show IV 0 0 0 from (by decide))) (by decide) (by decide)
        refine k_iload_n X dX11_led_33 1 rfl ?_
        refine k_iload_n X dX11_led_34 3 rfl ?_
        refine k_ic_ne 45 X dX11_led_35 (by decide) (fun h_22 => ?_) (fun h_22 => ?_)
        · skip
          obtain ⟨z_23, ez_23⟩ : ∃ y : Int32, u_1 + Int32.ofInt 1 = y := ⟨_, rfl⟩
          refine k_iinc z_23 [(2, .int z_23), (3, .int u_2), (0, .ref h0), (1, .int p0)] 1 X dX11_led_45 rfl ez_23 (by decide) rfl ?_
          obtain ⟨z_24, ez_24⟩ : ∃ y : Int32, u_2 + Int32.ofInt 1 = y := ⟨_, rfl⟩
          refine k_iinc z_24 [(3, .int z_24), (2, .int z_23), (0, .ref h0), (1, .int p0)] 1 X dX11_led_48 rfl ez_24 (by decide) rfl ?_
          have i_25 : z_24.toInt = u_2.toInt + 1 := in_inc ez_24 (by decide) iv_16 (by decide) (by decide)
          have iv_26 : IV z_24 1 6 := by have := iv_16; rw [IV, i_25]; omega
          refine k_goto 4 X dX11_led_51 (by decide) ?_
          refine k_sub [(h0, .inr (11, [.int m_thrown, .ref a_tape, .int m_taped, .int m_size, .int m_at, .int m_end, .int m_token, .int m_whole, .int m_nameSize, .int m_fault, .int m_place, .int m_trouble, .ref a_letters, .int m_failed, .int m_hasHouse, .ref a_r, .ref a_fresh, .ref a_st, .ref a_undone, .ref a_kept, .int m_undos, .int m_images, .ref a_from, .ref a_begin, .ref a_motor, .ref a_change, .ref a_startFrame, .ref a_changeFrame, .ref a_lostAt, .ref a_blackAt, .ref a_slips, .ref a_leftArc, .ref a_died, .ref a_arcs, .int m_bestSum, .int m_nearest, .int m_nearestTown, .ref a_there, .ref a_backAt, .ref a_sorted, .ref a_parts, .int m_seed1, .int m_darkNow])), (a_r, .inl (g.2.2.1, 311, .inl d_r)), (a_st, .inl (g.2.2.1, 44, .inl d_st))] [1, 0, 2] rfl (by decide) rfl ?_
          exact ih_6 _ (by omega) z_23 z_24 rfl (iv_w iv_26 (by decide) (by decide))
        · skip
          refine k_aload_n X dX11_led_38 2 rfl ?_
          refine k_iconst (v := 0) X dX11_led_39 (by decide) ?_
          refine k_put (ci := 11) [(a_r, .inl (g.2.2.1, 311, .inl d_r)), (h0, .inr (11, [.int 0, .ref a_tape, .int m_taped, .int m_size, .int m_at, .int m_end, .int m_token, .int m_whole, .int m_nameSize, .int m_fault, .int m_place, .int m_trouble, .ref a_letters, .int m_failed, .int m_hasHouse, .ref a_r, .ref a_fresh, .ref a_st, .ref a_undone, .ref a_kept, .int m_undos, .int m_images, .ref a_from, .ref a_begin, .ref a_motor, .ref a_change, .ref a_startFrame, .ref a_changeFrame, .ref a_lostAt, .ref a_blackAt, .ref a_slips, .ref a_leftArc, .ref a_died, .ref a_arcs, .int m_bestSum, .int m_nearest, .int m_nearestTown, .ref a_there, .ref a_backAt, .ref a_sorted, .ref a_parts, .int m_seed1, .int m_darkNow])), (a_st, .inl (g.2.2.1, 44, .inl d_st))] X inlX11 rfl tyX11_ok nmX11 0 (by decide) rfl dX11_led_40 mw204 1 rfl rfl rfl (Nat.le_of_ble_eq_true rfl) rfl ?_
          refine k_iload_n X dX11_led_43 0 rfl ?_
          exact k_iret X hr dX11_led_44 (Nat.le_of_ble_eq_true rfl) (Nat.le_of_ble_eq_true rfl) [1, 0, 2] (by decide) rfl rfl ⟨0, rfl⟩
      · skip
        have iv_27 : IV r_18 1 1 := iv_neL h_20 iv_19 (show IV 0 0 0 from (by decide)) (by decide)
        refine k_goto 48 X dX11_led_30 (by decide) ?_
        obtain ⟨z_28, ez_28⟩ : ∃ y : Int32, u_2 + Int32.ofInt 1 = y := ⟨_, rfl⟩
        refine k_iinc z_28 [(3, .int z_28), (2, .int u_1), (0, .ref h0), (1, .int p0)] 0 X dX11_led_48 rfl ez_28 (by decide) rfl ?_
        have i_29 : z_28.toInt = u_2.toInt + 1 := in_inc ez_28 (by decide) iv_16 (by decide) (by decide)
        have iv_30 : IV z_28 1 6 := by have := iv_16; rw [IV, i_29]; omega
        refine k_goto 4 X dX11_led_51 (by decide) ?_
        refine k_sub [(h0, .inr (11, [.int m_thrown, .ref a_tape, .int m_taped, .int m_size, .int m_at, .int m_end, .int m_token, .int m_whole, .int m_nameSize, .int m_fault, .int m_place, .int m_trouble, .ref a_letters, .int m_failed, .int m_hasHouse, .ref a_r, .ref a_fresh, .ref a_st, .ref a_undone, .ref a_kept, .int m_undos, .int m_images, .ref a_from, .ref a_begin, .ref a_motor, .ref a_change, .ref a_startFrame, .ref a_changeFrame, .ref a_lostAt, .ref a_blackAt, .ref a_slips, .ref a_leftArc, .ref a_died, .ref a_arcs, .int m_bestSum, .int m_nearest, .int m_nearestTown, .ref a_there, .ref a_backAt, .ref a_sorted, .ref a_parts, .int m_seed1, .int m_darkNow])), (a_r, .inl (g.2.2.1, 311, .inl d_r)), (a_st, .inl (g.2.2.1, 44, .inl d_st))] [1, 0, 2] rfl (by decide) rfl ?_
        exact ih_6 _ (by omega) u_1 z_28 rfl (iv_w iv_30 (by decide) (by decide))

theorem dX11_size_0 : decode cX11_size 0 = .ok (.aload_n 0, 1) := by decide +kernel
theorem dX11_size_1 : decode cX11_size 1 = .ok (.iconst 0, 1) := by decide +kernel
theorem dX11_size_2 : decode cX11_size 2 = .ok (.putfield 83, 3) := by decide +kernel
theorem dX11_size_5 : decode cX11_size 5 = .ok (.iload_n 1, 1) := by decide +kernel
theorem dX11_size_6 : decode cX11_size 6 = .ok (.bipush 17, 2) := by decide +kernel
theorem dX11_size_8 : decode cX11_size 8 = .ok (.if_icmp .ne 8, 3) := by decide +kernel
theorem dX11_size_11 : decode cX11_size 11 = .ok (.aload_n 0, 1) := by decide +kernel
theorem dX11_size_12 : decode cX11_size 12 = .ok (.getfield 89, 3) := by decide +kernel
theorem dX11_size_15 : decode cX11_size 15 = .ok (.ireturn, 1) := by decide +kernel
theorem dX11_size_16 : decode cX11_size 16 = .ok (.aload_n 0, 1) := by decide +kernel
theorem dX11_size_17 : decode cX11_size 17 = .ok (.getfield 213, 3) := by decide +kernel
theorem dX11_size_20 : decode cX11_size 20 = .ok (.ifCond .ne 19, 3) := by decide +kernel
theorem dX11_size_23 : decode cX11_size 23 = .ok (.iload_n 1, 1) := by decide +kernel
theorem dX11_size_24 : decode cX11_size 24 = .ok (.iconst 0, 1) := by decide +kernel
theorem dX11_size_25 : decode cX11_size 25 = .ok (.bipush 16, 2) := by decide +kernel
theorem dX11_size_27 : decode cX11_size 27 = .ok (.invokestatic 182, 3) := by decide +kernel
theorem dX11_size_30 : decode cX11_size 30 = .ok (.ifCond .eq 7, 3) := by decide +kernel
theorem dX11_size_33 : decode cX11_size 33 = .ok (.iconst 0, 1) := by decide +kernel
theorem dX11_size_34 : decode cX11_size 34 = .ok (.goto 4, 3) := by decide +kernel
theorem dX11_size_37 : decode cX11_size 37 = .ok (.iconst (-1), 1) := by decide +kernel
theorem dX11_size_38 : decode cX11_size 38 = .ok (.ireturn, 1) := by decide +kernel
theorem dX11_size_39 : decode cX11_size 39 = .ok (.iload_n 1, 1) := by decide +kernel
theorem dX11_size_40 : decode cX11_size 40 = .ok (.bipush 9, 2) := by decide +kernel
theorem dX11_size_42 : decode cX11_size 42 = .ok (.if_icmp .ne 22, 3) := by decide +kernel
theorem dX11_size_45 : decode cX11_size 45 = .ok (.aload_n 0, 1) := by decide +kernel
theorem dX11_size_46 : decode cX11_size 46 = .ok (.getfield 20, 3) := by decide +kernel
theorem dX11_size_49 : decode cX11_size 49 = .ok (.bipush 9, 2) := by decide +kernel
theorem dX11_size_51 : decode cX11_size 51 = .ok (.iaload, 1) := by decide +kernel
theorem dX11_size_52 : decode cX11_size 52 = .ok (.aload_n 0, 1) := by decide +kernel
theorem dX11_size_53 : decode cX11_size 53 = .ok (.getfield 26, 3) := by decide +kernel
theorem dX11_size_56 : decode cX11_size 56 = .ok (.bipush 43, 2) := by decide +kernel
theorem dX11_size_58 : decode cX11_size 58 = .ok (.iaload, 1) := by decide +kernel
theorem dX11_size_59 : decode cX11_size 59 = .ok (.invokestatic 394, 3) := by decide +kernel
theorem dX11_size_62 : decode cX11_size 62 = .ok (.iadd, 1) := by decide +kernel
theorem dX11_size_63 : decode cX11_size 63 = .ok (.ireturn, 1) := by decide +kernel
theorem dX11_size_64 : decode cX11_size 64 = .ok (.iload_n 1, 1) := by decide +kernel
theorem dX11_size_65 : decode cX11_size 65 = .ok (.iconst 0, 1) := by decide +kernel
theorem dX11_size_66 : decode cX11_size 66 = .ok (.bipush 14, 2) := by decide +kernel
theorem dX11_size_68 : decode cX11_size 68 = .ok (.invokestatic 182, 3) := by decide +kernel
theorem dX11_size_71 : decode cX11_size 71 = .ok (.ifCond .eq 10, 3) := by decide +kernel
theorem dX11_size_74 : decode cX11_size 74 = .ok (.aload_n 0, 1) := by decide +kernel
theorem dX11_size_75 : decode cX11_size 75 = .ok (.getfield 20, 3) := by decide +kernel
theorem dX11_size_78 : decode cX11_size 78 = .ok (.iload_n 1, 1) := by decide +kernel
theorem dX11_size_79 : decode cX11_size 79 = .ok (.iaload, 1) := by decide +kernel
theorem dX11_size_80 : decode cX11_size 80 = .ok (.ireturn, 1) := by decide +kernel
theorem dX11_size_81 : decode cX11_size 81 = .ok (.iload_n 1, 1) := by decide +kernel
theorem dX11_size_82 : decode cX11_size 82 = .ok (.bipush 15, 2) := by decide +kernel
theorem dX11_size_84 : decode cX11_size 84 = .ok (.if_icmp .ne 10, 3) := by decide +kernel
theorem dX11_size_87 : decode cX11_size 87 = .ok (.aload_n 0, 1) := by decide +kernel
theorem dX11_size_88 : decode cX11_size 88 = .ok (.getfield 216, 3) := by decide +kernel
theorem dX11_size_91 : decode cX11_size 91 = .ok (.goto 17, 3) := by decide +kernel
theorem dX11_size_94 : decode cX11_size 94 = .ok (.iload_n 1, 1) := by decide +kernel
theorem dX11_size_95 : decode cX11_size 95 = .ok (.bipush 16, 2) := by decide +kernel
theorem dX11_size_97 : decode cX11_size 97 = .ok (.if_icmp .ne 10, 3) := by decide +kernel
theorem dX11_size_100 : decode cX11_size 100 = .ok (.aload_n 0, 1) := by decide +kernel
theorem dX11_size_101 : decode cX11_size 101 = .ok (.getfield 219, 3) := by decide +kernel
theorem dX11_size_104 : decode cX11_size 104 = .ok (.goto 4, 3) := by decide +kernel
theorem dX11_size_107 : decode cX11_size 107 = .ok (.iconst (-1), 1) := by decide +kernel
theorem dX11_size_108 : decode cX11_size 108 = .ok (.ireturn, 1) := by decide +kernel
set_option maxHeartbeats 4000000 in
set_option maxRecDepth 100000 in
theorem m_size (l : Launch) (g : Gx) (h0 : Nat) (p0 : Int32) (m_thrown : Int32) (a_tape : Nat) (m_taped : Int32) (m_size : Int32) (m_at : Int32) (m_end : Int32) (m_token : Int32) (m_whole : Int32) (m_nameSize : Int32) (m_fault : Int32) (m_place : Int32) (m_trouble : Int32) (a_letters : Nat) (m_failed : Int32) (m_hasHouse : Int32) (a_r : Nat) (a_fresh : Nat) (a_st : Nat) (a_undone : Nat) (a_kept : Nat) (m_undos : Int32) (m_images : Int32) (a_from : Nat) (a_begin : Nat) (a_motor : Nat) (a_change : Nat) (a_startFrame : Nat) (a_changeFrame : Nat) (a_lostAt : Nat) (a_blackAt : Nat) (a_slips : Nat) (a_leftArc : Nat) (a_died : Nat) (a_arcs : Nat) (m_bestSum : Int32) (m_nearest : Int32) (m_nearestTown : Int32) (a_there : Nat) (a_backAt : Nat) (a_sorted : Nat) (a_parts : Nat) (m_seed1 : Int32) (m_darkNow : Int32) (d_r : Nat → Int32) (d_st : Nat → Int32) (hv_m_hasHouse : IV m_hasHouse 0 1) (hv_m_undos : IV m_undos 0 12) (hv_m_images : IV m_images 0 3) (hv_m_taped : IV m_taped 0 900) (hp_d_r : RInv d_r) : cI l g yX11_size cX11_size 2 (some .int) 1 22 0 0 [.ref h0, .int p0] [(h0, .inr (11, [.int m_thrown, .ref a_tape, .int m_taped, .int m_size, .int m_at, .int m_end, .int m_token, .int m_whole, .int m_nameSize, .int m_fault, .int m_place, .int m_trouble, .ref a_letters, .int m_failed, .int m_hasHouse, .ref a_r, .ref a_fresh, .ref a_st, .ref a_undone, .ref a_kept, .int m_undos, .int m_images, .ref a_from, .ref a_begin, .ref a_motor, .ref a_change, .ref a_startFrame, .ref a_changeFrame, .ref a_lostAt, .ref a_blackAt, .ref a_slips, .ref a_leftArc, .ref a_died, .ref a_arcs, .int m_bestSum, .int m_nearest, .int m_nearestTown, .ref a_there, .ref a_backAt, .ref a_sorted, .ref a_parts, .int m_seed1, .int m_darkNow])), (a_r, .inl (g.2.2.1, 311, .inl d_r)), (a_st, .inl (g.2.2.1, 44, .inl d_st))] (fun r w => ∃ (m_thrown2 : Int32), w = [(h0, .inr (11, [.int m_thrown2, .ref a_tape, .int m_taped, .int m_size, .int m_at, .int m_end, .int m_token, .int m_whole, .int m_nameSize, .int m_fault, .int m_place, .int m_trouble, .ref a_letters, .int m_failed, .int m_hasHouse, .ref a_r, .ref a_fresh, .ref a_st, .ref a_undone, .ref a_kept, .int m_undos, .int m_images, .ref a_from, .ref a_begin, .ref a_motor, .ref a_change, .ref a_startFrame, .ref a_changeFrame, .ref a_lostAt, .ref a_blackAt, .ref a_slips, .ref a_leftArc, .ref a_died, .ref a_arcs, .int m_bestSum, .int m_nearest, .int m_nearestTown, .ref a_there, .ref a_backAt, .ref a_sorted, .ref a_parts, .int m_seed1, .int m_darkNow])), (a_r, .inl (g.2.2.1, 311, .inl d_r)), (a_st, .inl (g.2.2.1, 44, .inl d_st))]) := by
  refine cI.of (by decide) (Nat.le_of_ble_eq_true rfl) ?_
  intro p e s m args below meth c A X hr hi
  refine k_lveq [(0, .ref h0), (1, .int p0)] rfl ?_
  refine k_aload_n X dX11_size_0 0 rfl ?_
  refine k_iconst (v := 0) X dX11_size_1 (by decide) ?_
  refine k_put (ci := 11) [(h0, .inr (11, [.int 0, .ref a_tape, .int m_taped, .int m_size, .int m_at, .int m_end, .int m_token, .int m_whole, .int m_nameSize, .int m_fault, .int m_place, .int m_trouble, .ref a_letters, .int m_failed, .int m_hasHouse, .ref a_r, .ref a_fresh, .ref a_st, .ref a_undone, .ref a_kept, .int m_undos, .int m_images, .ref a_from, .ref a_begin, .ref a_motor, .ref a_change, .ref a_startFrame, .ref a_changeFrame, .ref a_lostAt, .ref a_blackAt, .ref a_slips, .ref a_leftArc, .ref a_died, .ref a_arcs, .int m_bestSum, .int m_nearest, .int m_nearestTown, .ref a_there, .ref a_backAt, .ref a_sorted, .ref a_parts, .int m_seed1, .int m_darkNow])), (a_r, .inl (g.2.2.1, 311, .inl d_r)), (a_st, .inl (g.2.2.1, 44, .inl d_st))] X inlX11 rfl tyX11_ok nmX11 0 (by decide) rfl dX11_size_2 mw204 0 rfl rfl rfl (Nat.le_of_ble_eq_true rfl) rfl ?_
  refine k_iload_n X dX11_size_5 1 rfl ?_
  refine k_bipush (v := 17) X dX11_size_6 (by decide) ?_
  refine k_ic_ne 16 X dX11_size_8 (by decide) (fun h_1 => ?_) (fun h_1 => ?_)
  · skip
    refine k_aload_n X dX11_size_16 0 rfl ?_
    refine k_get (ci := 11) X inlX11 rfl 14 (by decide) dX11_size_17 mw474 0 rfl rfl ?_
    refine k_if_ne 39 X dX11_size_20 (by decide) (fun h_2 => ?_) (fun h_2 => ?_)
    · skip
      have iv_3 : IV m_hasHouse 1 1 := iv_neL h_2 hv_m_hasHouse (show IV 0 0 0 from (by decide)) (by decide)
      refine k_iload_n X dX11_size_39 1 rfl ?_
      refine k_bipush (v := 9) X dX11_size_40 (by decide) ?_
      refine k_ic_ne 64 X dX11_size_42 (by decide) (fun h_4 => ?_) (fun h_4 => ?_)
      · skip
        refine k_iload_n X dX11_size_64 1 rfl ?_
        refine k_iconst (v := 0) X dX11_size_65 (by decide) ?_
        refine k_bipush (v := 14) X dX11_size_66 (by decide) ?_
        refine k_callSI (n := 3) (As := [.int p0, .int 0, .int 14]) (st := []) X [] [(h0, .inr (11, [.int 0, .ref a_tape, .int m_taped, .int m_size, .int m_at, .int m_end, .int m_token, .int m_whole, .int m_nameSize, .int m_fault, .int m_place, .int m_trouble, .ref a_letters, .int m_failed, .int m_hasHouse, .ref a_r, .ref a_fresh, .ref a_st, .ref a_undone, .ref a_kept, .int m_undos, .int m_images, .ref a_from, .ref a_begin, .ref a_motor, .ref a_change, .ref a_startFrame, .ref a_changeFrame, .ref a_lostAt, .ref a_blackAt, .ref a_slips, .ref a_leftArc, .ref a_died, .ref a_arcs, .int m_bestSum, .int m_nearest, .int m_nearestTown, .ref a_there, .ref a_backAt, .ref a_sorted, .ref a_parts, .int m_seed1, .int m_darkNow])), (a_r, .inl (g.2.2.1, 311, .inl d_r)), (a_st, .inl (g.2.2.1, 44, .inl d_st))] [] [0, 1, 2] (m_in l g p0 0 14) dX11_size_68 mw482 mw483 mw5 mw484 (by unfold yOk; decide) rfl (Nat.le_of_ble_eq_true rfl) (Nat.le_of_ble_eq_true rfl) (Nat.le_of_ble_eq_true rfl) (Nat.le_of_ble_eq_true rfl) (Nat.le_of_ble_eq_true rfl) rfl rfl (by decide) rfl (by decide) (by decide) ?_
        rintro r_5 w ⟨iv_6, hk_7, hk_8, rfl⟩
        refine k_ws [(h0, .inr (11, [.int 0, .ref a_tape, .int m_taped, .int m_size, .int m_at, .int m_end, .int m_token, .int m_whole, .int m_nameSize, .int m_fault, .int m_place, .int m_trouble, .ref a_letters, .int m_failed, .int m_hasHouse, .ref a_r, .ref a_fresh, .ref a_st, .ref a_undone, .ref a_kept, .int m_undos, .int m_images, .ref a_from, .ref a_begin, .ref a_motor, .ref a_change, .ref a_startFrame, .ref a_changeFrame, .ref a_lostAt, .ref a_blackAt, .ref a_slips, .ref a_leftArc, .ref a_died, .ref a_arcs, .int m_bestSum, .int m_nearest, .int m_nearestTown, .ref a_there, .ref a_backAt, .ref a_sorted, .ref a_parts, .int m_seed1, .int m_darkNow])), (a_r, .inl (g.2.2.1, 311, .inl d_r)), (a_st, .inl (g.2.2.1, 44, .inl d_st))] rfl ?_
        refine k_if_eq 81 X dX11_size_71 (by decide) (fun h_9 => ?_) (fun h_9 => ?_)
        · skip
          have iv_10 : IV r_5 0 0 := iv_meet iv_6 (iv_e h_9 (show IV 0 0 0 from (by decide))) (by decide) (by decide)
          have hc_11 := hk_8 (iv_eq iv_10 (show IV 0 0 0 from (by decide)))
          have j_12 : p0.toInt < 0 ∨ 14 < p0.toInt := hc_11
          refine k_iload_n X dX11_size_81 1 rfl ?_
          refine k_bipush (v := 15) X dX11_size_82 (by decide) ?_
          refine k_ic_ne 94 X dX11_size_84 (by decide) (fun h_13 => ?_) (fun h_13 => ?_)
          · skip
            refine k_iload_n X dX11_size_94 1 rfl ?_
            refine k_bipush (v := 16) X dX11_size_95 (by decide) ?_
            refine k_ic_ne 107 X dX11_size_97 (by decide) (fun h_14 => ?_) (fun h_14 => ?_)
            · skip
              refine k_iconst (v := -1) X dX11_size_107 (by decide) ?_
              exact k_iret X hr dX11_size_108 (Nat.le_of_ble_eq_true rfl) (Nat.le_of_ble_eq_true rfl) [0, 1, 2] (by decide) rfl rfl ⟨0, rfl⟩
            · skip
              have iv_15 : IV p0 16 16 := iv_meet (iv_any p0) (iv_e h_14 (show IV 16 16 16 from (by decide))) (by decide) (by decide)
              refine k_aload_n X dX11_size_100 0 rfl ?_
              refine k_get (ci := 11) X inlX11 rfl 21 (by decide) dX11_size_101 mw476 0 rfl rfl ?_
              refine k_goto 108 X dX11_size_104 (by decide) ?_
              exact k_iret X hr dX11_size_108 (Nat.le_of_ble_eq_true rfl) (Nat.le_of_ble_eq_true rfl) [0, 1, 2] (by decide) rfl rfl ⟨0, rfl⟩
          · skip
            have iv_16 : IV p0 15 15 := iv_meet (iv_any p0) (iv_e h_13 (show IV 15 15 15 from (by decide))) (by decide) (by decide)
            refine k_aload_n X dX11_size_87 0 rfl ?_
            refine k_get (ci := 11) X inlX11 rfl 20 (by decide) dX11_size_88 mw475 0 rfl rfl ?_
            refine k_goto 108 X dX11_size_91 (by decide) ?_
            exact k_iret X hr dX11_size_108 (Nat.le_of_ble_eq_true rfl) (Nat.le_of_ble_eq_true rfl) [0, 1, 2] (by decide) rfl rfl ⟨0, rfl⟩
        · skip
          have hc_17 := hk_7.resolve_left h_9
          have j_18 : 0 ≤ p0.toInt := hc_17.1
          have iv_19 : IV p0 0 2147483647 := iv_leR hc_17.1 (show IV 0 0 0 from (by decide)) (iv_any p0) (by decide)
          have j_20 : p0.toInt ≤ 14 := hc_17.2
          have iv_21 : IV p0 0 14 := iv_leL hc_17.2 iv_19 (show IV 14 14 14 from (by decide)) (by decide)
          have iv_22 : IV r_5 1 1 := iv_neL h_9 iv_6 (show IV 0 0 0 from (by decide)) (by decide)
          refine k_aload_n X dX11_size_74 0 rfl ?_
          refine k_get (ci := 11) X inlX11 rfl 15 (by decide) dX11_size_75 mw170 0 rfl rfl ?_
          refine k_iload_n X dX11_size_78 1 rfl ?_
          refine k_iald X dX11_size_79 1 rfl (iv_in iv_21 (by decide) (by decide)) ?_
          refine k_nm (fun z_23 ez_23 => ?_)
          exact k_iret X hr dX11_size_80 (Nat.le_of_ble_eq_true rfl) (Nat.le_of_ble_eq_true rfl) [0, 1, 2] (by decide) rfl rfl ⟨0, rfl⟩
      · skip
        have iv_24 : IV p0 9 9 := iv_meet (iv_any p0) (iv_e h_4 (show IV 9 9 9 from (by decide))) (by decide) (by decide)
        refine k_aload_n X dX11_size_45 0 rfl ?_
        refine k_get (ci := 11) X inlX11 rfl 15 (by decide) dX11_size_46 mw170 0 rfl rfl ?_
        refine k_bipush (v := 9) X dX11_size_49 (by decide) ?_
        refine k_iald X dX11_size_51 1 rfl (by unfold vp_in; decide) ?_
        refine k_nm (fun z_25 ez_25 => ?_)
        have i_26 : z_25.toInt = (d_r 9).toInt := by rw [ez_25]; rfl
        have iv_27 : IV z_25 0 8 := rb_9 ez_25 hp_d_r
        refine k_aload_n X dX11_size_52 0 rfl ?_
        refine k_get (ci := 11) X inlX11 rfl 17 (by decide) dX11_size_53 mw172 0 rfl rfl ?_
        refine k_bipush (v := 43) X dX11_size_56 (by decide) ?_
        refine k_iald X dX11_size_58 2 rfl (by unfold vp_in; decide) ?_
        refine k_nm (fun z_28 ez_28 => ?_)
        refine k_callSI (n := 1) (As := [.int z_28]) (st := [.int z_25]) X [] [(h0, .inr (11, [.int 0, .ref a_tape, .int m_taped, .int m_size, .int m_at, .int m_end, .int m_token, .int m_whole, .int m_nameSize, .int m_fault, .int m_place, .int m_trouble, .ref a_letters, .int m_failed, .int m_hasHouse, .ref a_r, .ref a_fresh, .ref a_st, .ref a_undone, .ref a_kept, .int m_undos, .int m_images, .ref a_from, .ref a_begin, .ref a_motor, .ref a_change, .ref a_startFrame, .ref a_changeFrame, .ref a_lostAt, .ref a_blackAt, .ref a_slips, .ref a_leftArc, .ref a_died, .ref a_arcs, .int m_bestSum, .int m_nearest, .int m_nearestTown, .ref a_there, .ref a_backAt, .ref a_sorted, .ref a_parts, .int m_seed1, .int m_darkNow])), (a_r, .inl (g.2.2.1, 311, .inl d_r)), (a_st, .inl (g.2.2.1, 44, .inl d_st))] [] [0, 1, 2] (m_ones l g z_28) dX11_size_59 mw1110 mw1111 mw5 mw1112 (by unfold yOk; decide) rfl (Nat.le_of_ble_eq_true rfl) (Nat.le_of_ble_eq_true rfl) (Nat.le_of_ble_eq_true rfl) (Nat.le_of_ble_eq_true rfl) (Nat.le_of_ble_eq_true rfl) rfl rfl (by decide) rfl (by decide) (by decide) ?_
        rintro r_29 w rfl
        refine k_ws [(h0, .inr (11, [.int 0, .ref a_tape, .int m_taped, .int m_size, .int m_at, .int m_end, .int m_token, .int m_whole, .int m_nameSize, .int m_fault, .int m_place, .int m_trouble, .ref a_letters, .int m_failed, .int m_hasHouse, .ref a_r, .ref a_fresh, .ref a_st, .ref a_undone, .ref a_kept, .int m_undos, .int m_images, .ref a_from, .ref a_begin, .ref a_motor, .ref a_change, .ref a_startFrame, .ref a_changeFrame, .ref a_lostAt, .ref a_blackAt, .ref a_slips, .ref a_leftArc, .ref a_died, .ref a_arcs, .int m_bestSum, .int m_nearest, .int m_nearestTown, .ref a_there, .ref a_backAt, .ref a_sorted, .ref a_parts, .int m_seed1, .int m_darkNow])), (a_r, .inl (g.2.2.1, 311, .inl d_r)), (a_st, .inl (g.2.2.1, 44, .inl d_st))] rfl ?_
        refine k_iadd X dX11_size_62 ?_
        refine k_nm (fun z_30 ez_30 => ?_)
        exact k_iret X hr dX11_size_63 (Nat.le_of_ble_eq_true rfl) (Nat.le_of_ble_eq_true rfl) [0, 1, 2] (by decide) rfl rfl ⟨0, rfl⟩
    · skip
      have iv_32 : IV m_hasHouse 0 0 := iv_meet hv_m_hasHouse (iv_e h_2 (show IV 0 0 0 from (by decide))) (by decide) (by decide)
      refine k_iload_n X dX11_size_23 1 rfl ?_
      refine k_iconst (v := 0) X dX11_size_24 (by decide) ?_
      refine k_bipush (v := 16) X dX11_size_25 (by decide) ?_
      refine k_callSI (n := 3) (As := [.int p0, .int 0, .int 16]) (st := []) X [] [(h0, .inr (11, [.int 0, .ref a_tape, .int m_taped, .int m_size, .int m_at, .int m_end, .int m_token, .int m_whole, .int m_nameSize, .int m_fault, .int m_place, .int m_trouble, .ref a_letters, .int m_failed, .int m_hasHouse, .ref a_r, .ref a_fresh, .ref a_st, .ref a_undone, .ref a_kept, .int m_undos, .int m_images, .ref a_from, .ref a_begin, .ref a_motor, .ref a_change, .ref a_startFrame, .ref a_changeFrame, .ref a_lostAt, .ref a_blackAt, .ref a_slips, .ref a_leftArc, .ref a_died, .ref a_arcs, .int m_bestSum, .int m_nearest, .int m_nearestTown, .ref a_there, .ref a_backAt, .ref a_sorted, .ref a_parts, .int m_seed1, .int m_darkNow])), (a_r, .inl (g.2.2.1, 311, .inl d_r)), (a_st, .inl (g.2.2.1, 44, .inl d_st))] [] [0, 1, 2] (m_in l g p0 0 16) dX11_size_27 mw482 mw483 mw5 mw484 (by unfold yOk; decide) rfl (Nat.le_of_ble_eq_true rfl) (Nat.le_of_ble_eq_true rfl) (Nat.le_of_ble_eq_true rfl) (Nat.le_of_ble_eq_true rfl) (Nat.le_of_ble_eq_true rfl) rfl rfl (by decide) rfl (by decide) (by decide) ?_
      rintro r_33 w ⟨iv_34, hk_35, hk_36, rfl⟩
      refine k_ws [(h0, .inr (11, [.int 0, .ref a_tape, .int m_taped, .int m_size, .int m_at, .int m_end, .int m_token, .int m_whole, .int m_nameSize, .int m_fault, .int m_place, .int m_trouble, .ref a_letters, .int m_failed, .int m_hasHouse, .ref a_r, .ref a_fresh, .ref a_st, .ref a_undone, .ref a_kept, .int m_undos, .int m_images, .ref a_from, .ref a_begin, .ref a_motor, .ref a_change, .ref a_startFrame, .ref a_changeFrame, .ref a_lostAt, .ref a_blackAt, .ref a_slips, .ref a_leftArc, .ref a_died, .ref a_arcs, .int m_bestSum, .int m_nearest, .int m_nearestTown, .ref a_there, .ref a_backAt, .ref a_sorted, .ref a_parts, .int m_seed1, .int m_darkNow])), (a_r, .inl (g.2.2.1, 311, .inl d_r)), (a_st, .inl (g.2.2.1, 44, .inl d_st))] rfl ?_
      refine k_if_eq 37 X dX11_size_30 (by decide) (fun h_37 => ?_) (fun h_37 => ?_)
      · skip
        have iv_38 : IV r_33 0 0 := iv_meet iv_34 (iv_e h_37 (show IV 0 0 0 from (by decide))) (by decide) (by decide)
        have hc_39 := hk_36 (iv_eq iv_38 (show IV 0 0 0 from (by decide)))
        have j_40 : p0.toInt < 0 ∨ 16 < p0.toInt := hc_39
        refine k_iconst (v := -1) X dX11_size_37 (by decide) ?_
        exact k_iret X hr dX11_size_38 (Nat.le_of_ble_eq_true rfl) (Nat.le_of_ble_eq_true rfl) [0, 1, 2] (by decide) rfl rfl ⟨0, rfl⟩
      · skip
        have hc_41 := hk_35.resolve_left h_37
        have j_42 : 0 ≤ p0.toInt := hc_41.1
        have iv_43 : IV p0 0 2147483647 := iv_leR hc_41.1 (show IV 0 0 0 from (by decide)) (iv_any p0) (by decide)
        have j_44 : p0.toInt ≤ 16 := hc_41.2
        have iv_45 : IV p0 0 16 := iv_leL hc_41.2 iv_43 (show IV 16 16 16 from (by decide)) (by decide)
        have iv_46 : IV r_33 1 1 := iv_neL h_37 iv_34 (show IV 0 0 0 from (by decide)) (by decide)
        refine k_iconst (v := 0) X dX11_size_33 (by decide) ?_
        refine k_goto 38 X dX11_size_34 (by decide) ?_
        exact k_iret X hr dX11_size_38 (Nat.le_of_ble_eq_true rfl) (Nat.le_of_ble_eq_true rfl) [0, 1, 2] (by decide) rfl rfl ⟨0, rfl⟩
  · skip
    have iv_47 : IV p0 17 17 := iv_meet (iv_any p0) (iv_e h_1 (show IV 17 17 17 from (by decide))) (by decide) (by decide)
    refine k_aload_n X dX11_size_11 0 rfl ?_
    refine k_get (ci := 11) X inlX11 rfl 2 (by decide) dX11_size_12 mw205 0 rfl rfl ?_
    exact k_iret X hr dX11_size_15 (Nat.le_of_ble_eq_true rfl) (Nat.le_of_ble_eq_true rfl) [0, 1, 2] (by decide) rfl rfl ⟨0, rfl⟩

theorem dX11_trouble_0 : decode cX11_trouble 0 = .ok (.aload_n 0, 1) := by decide +kernel
theorem dX11_trouble_1 : decode cX11_trouble 1 = .ok (.iconst 0, 1) := by decide +kernel
theorem dX11_trouble_2 : decode cX11_trouble 2 = .ok (.putfield 83, 3) := by decide +kernel
theorem dX11_trouble_5 : decode cX11_trouble 5 = .ok (.aload_n 0, 1) := by decide +kernel
theorem dX11_trouble_6 : decode cX11_trouble 6 = .ok (.getfield 86, 3) := by decide +kernel
theorem dX11_trouble_9 : decode cX11_trouble 9 = .ok (.ireturn, 1) := by decide +kernel
set_option maxHeartbeats 4000000 in
set_option maxRecDepth 100000 in
theorem m_trouble (l : Launch) (g : Gx) (h0 : Nat) (m_thrown : Int32) (a_tape : Nat) (m_taped : Int32) (m_size : Int32) (m_at : Int32) (m_end : Int32) (m_token : Int32) (m_whole : Int32) (m_nameSize : Int32) (m_fault : Int32) (m_place : Int32) (m_trouble : Int32) (a_letters : Nat) (m_failed : Int32) (m_hasHouse : Int32) (a_r : Nat) (a_fresh : Nat) (a_st : Nat) (a_undone : Nat) (a_kept : Nat) (m_undos : Int32) (m_images : Int32) (a_from : Nat) (a_begin : Nat) (a_motor : Nat) (a_change : Nat) (a_startFrame : Nat) (a_changeFrame : Nat) (a_lostAt : Nat) (a_blackAt : Nat) (a_slips : Nat) (a_leftArc : Nat) (a_died : Nat) (a_arcs : Nat) (m_bestSum : Int32) (m_nearest : Int32) (m_nearestTown : Int32) (a_there : Nat) (a_backAt : Nat) (a_sorted : Nat) (a_parts : Nat) (m_seed1 : Int32) (m_darkNow : Int32) : cI l g yX11_trouble cX11_trouble 1 (some .int) 0 0 0 0 [.ref h0] [(h0, .inr (11, [.int m_thrown, .ref a_tape, .int m_taped, .int m_size, .int m_at, .int m_end, .int m_token, .int m_whole, .int m_nameSize, .int m_fault, .int m_place, .int m_trouble, .ref a_letters, .int m_failed, .int m_hasHouse, .ref a_r, .ref a_fresh, .ref a_st, .ref a_undone, .ref a_kept, .int m_undos, .int m_images, .ref a_from, .ref a_begin, .ref a_motor, .ref a_change, .ref a_startFrame, .ref a_changeFrame, .ref a_lostAt, .ref a_blackAt, .ref a_slips, .ref a_leftArc, .ref a_died, .ref a_arcs, .int m_bestSum, .int m_nearest, .int m_nearestTown, .ref a_there, .ref a_backAt, .ref a_sorted, .ref a_parts, .int m_seed1, .int m_darkNow]))] (fun r w => ∃ (m_thrown2 : Int32), w = [(h0, .inr (11, [.int m_thrown2, .ref a_tape, .int m_taped, .int m_size, .int m_at, .int m_end, .int m_token, .int m_whole, .int m_nameSize, .int m_fault, .int m_place, .int m_trouble, .ref a_letters, .int m_failed, .int m_hasHouse, .ref a_r, .ref a_fresh, .ref a_st, .ref a_undone, .ref a_kept, .int m_undos, .int m_images, .ref a_from, .ref a_begin, .ref a_motor, .ref a_change, .ref a_startFrame, .ref a_changeFrame, .ref a_lostAt, .ref a_blackAt, .ref a_slips, .ref a_leftArc, .ref a_died, .ref a_arcs, .int m_bestSum, .int m_nearest, .int m_nearestTown, .ref a_there, .ref a_backAt, .ref a_sorted, .ref a_parts, .int m_seed1, .int m_darkNow]))]) := by
  refine cI.of (by decide) (Nat.le_of_ble_eq_true rfl) ?_
  intro p e s m args below meth c A X hr hi
  refine k_lveq [(0, .ref h0)] rfl ?_
  refine k_aload_n X dX11_trouble_0 0 rfl ?_
  refine k_iconst (v := 0) X dX11_trouble_1 (by decide) ?_
  refine k_put (ci := 11) [(h0, .inr (11, [.int 0, .ref a_tape, .int m_taped, .int m_size, .int m_at, .int m_end, .int m_token, .int m_whole, .int m_nameSize, .int m_fault, .int m_place, .int m_trouble, .ref a_letters, .int m_failed, .int m_hasHouse, .ref a_r, .ref a_fresh, .ref a_st, .ref a_undone, .ref a_kept, .int m_undos, .int m_images, .ref a_from, .ref a_begin, .ref a_motor, .ref a_change, .ref a_startFrame, .ref a_changeFrame, .ref a_lostAt, .ref a_blackAt, .ref a_slips, .ref a_leftArc, .ref a_died, .ref a_arcs, .int m_bestSum, .int m_nearest, .int m_nearestTown, .ref a_there, .ref a_backAt, .ref a_sorted, .ref a_parts, .int m_seed1, .int m_darkNow]))] X inlX11 rfl tyX11_ok nmX11 0 (by decide) rfl dX11_trouble_2 mw204 0 rfl rfl rfl (Nat.le_of_ble_eq_true rfl) rfl ?_
  refine k_aload_n X dX11_trouble_5 0 rfl ?_
  refine k_get (ci := 11) X inlX11 rfl 11 (by decide) dX11_trouble_6 mw481 0 rfl rfl ?_
  exact k_iret X hr dX11_trouble_9 (Nat.le_of_ble_eq_true rfl) (Nat.le_of_ble_eq_true rfl) [0] (by decide) rfl rfl ⟨0, rfl⟩

theorem dX11_fault_0 : decode cX11_fault 0 = .ok (.aload_n 0, 1) := by decide +kernel
theorem dX11_fault_1 : decode cX11_fault 1 = .ok (.iconst 0, 1) := by decide +kernel
theorem dX11_fault_2 : decode cX11_fault 2 = .ok (.putfield 83, 3) := by decide +kernel
theorem dX11_fault_5 : decode cX11_fault 5 = .ok (.aload_n 0, 1) := by decide +kernel
theorem dX11_fault_6 : decode cX11_fault 6 = .ok (.getfield 125, 3) := by decide +kernel
theorem dX11_fault_9 : decode cX11_fault 9 = .ok (.ireturn, 1) := by decide +kernel
set_option maxHeartbeats 4000000 in
set_option maxRecDepth 100000 in
theorem m_fault (l : Launch) (g : Gx) (h0 : Nat) (m_thrown : Int32) (a_tape : Nat) (m_taped : Int32) (m_size : Int32) (m_at : Int32) (m_end : Int32) (m_token : Int32) (m_whole : Int32) (m_nameSize : Int32) (m_fault : Int32) (m_place : Int32) (m_trouble : Int32) (a_letters : Nat) (m_failed : Int32) (m_hasHouse : Int32) (a_r : Nat) (a_fresh : Nat) (a_st : Nat) (a_undone : Nat) (a_kept : Nat) (m_undos : Int32) (m_images : Int32) (a_from : Nat) (a_begin : Nat) (a_motor : Nat) (a_change : Nat) (a_startFrame : Nat) (a_changeFrame : Nat) (a_lostAt : Nat) (a_blackAt : Nat) (a_slips : Nat) (a_leftArc : Nat) (a_died : Nat) (a_arcs : Nat) (m_bestSum : Int32) (m_nearest : Int32) (m_nearestTown : Int32) (a_there : Nat) (a_backAt : Nat) (a_sorted : Nat) (a_parts : Nat) (m_seed1 : Int32) (m_darkNow : Int32) : cI l g yX11_fault cX11_fault 1 (some .int) 0 0 0 0 [.ref h0] [(h0, .inr (11, [.int m_thrown, .ref a_tape, .int m_taped, .int m_size, .int m_at, .int m_end, .int m_token, .int m_whole, .int m_nameSize, .int m_fault, .int m_place, .int m_trouble, .ref a_letters, .int m_failed, .int m_hasHouse, .ref a_r, .ref a_fresh, .ref a_st, .ref a_undone, .ref a_kept, .int m_undos, .int m_images, .ref a_from, .ref a_begin, .ref a_motor, .ref a_change, .ref a_startFrame, .ref a_changeFrame, .ref a_lostAt, .ref a_blackAt, .ref a_slips, .ref a_leftArc, .ref a_died, .ref a_arcs, .int m_bestSum, .int m_nearest, .int m_nearestTown, .ref a_there, .ref a_backAt, .ref a_sorted, .ref a_parts, .int m_seed1, .int m_darkNow]))] (fun r w => ∃ (m_thrown2 : Int32), w = [(h0, .inr (11, [.int m_thrown2, .ref a_tape, .int m_taped, .int m_size, .int m_at, .int m_end, .int m_token, .int m_whole, .int m_nameSize, .int m_fault, .int m_place, .int m_trouble, .ref a_letters, .int m_failed, .int m_hasHouse, .ref a_r, .ref a_fresh, .ref a_st, .ref a_undone, .ref a_kept, .int m_undos, .int m_images, .ref a_from, .ref a_begin, .ref a_motor, .ref a_change, .ref a_startFrame, .ref a_changeFrame, .ref a_lostAt, .ref a_blackAt, .ref a_slips, .ref a_leftArc, .ref a_died, .ref a_arcs, .int m_bestSum, .int m_nearest, .int m_nearestTown, .ref a_there, .ref a_backAt, .ref a_sorted, .ref a_parts, .int m_seed1, .int m_darkNow]))]) := by
  refine cI.of (by decide) (Nat.le_of_ble_eq_true rfl) ?_
  intro p e s m args below meth c A X hr hi
  refine k_lveq [(0, .ref h0)] rfl ?_
  refine k_aload_n X dX11_fault_0 0 rfl ?_
  refine k_iconst (v := 0) X dX11_fault_1 (by decide) ?_
  refine k_put (ci := 11) [(h0, .inr (11, [.int 0, .ref a_tape, .int m_taped, .int m_size, .int m_at, .int m_end, .int m_token, .int m_whole, .int m_nameSize, .int m_fault, .int m_place, .int m_trouble, .ref a_letters, .int m_failed, .int m_hasHouse, .ref a_r, .ref a_fresh, .ref a_st, .ref a_undone, .ref a_kept, .int m_undos, .int m_images, .ref a_from, .ref a_begin, .ref a_motor, .ref a_change, .ref a_startFrame, .ref a_changeFrame, .ref a_lostAt, .ref a_blackAt, .ref a_slips, .ref a_leftArc, .ref a_died, .ref a_arcs, .int m_bestSum, .int m_nearest, .int m_nearestTown, .ref a_there, .ref a_backAt, .ref a_sorted, .ref a_parts, .int m_seed1, .int m_darkNow]))] X inlX11 rfl tyX11_ok nmX11 0 (by decide) rfl dX11_fault_2 mw204 0 rfl rfl rfl (Nat.le_of_ble_eq_true rfl) rfl ?_
  refine k_aload_n X dX11_fault_5 0 rfl ?_
  refine k_get (ci := 11) X inlX11 rfl 9 (by decide) dX11_fault_6 mw468 0 rfl rfl ?_
  exact k_iret X hr dX11_fault_9 (Nat.le_of_ble_eq_true rfl) (Nat.le_of_ble_eq_true rfl) [0] (by decide) rfl rfl ⟨0, rfl⟩

theorem dX11_where_0 : decode cX11_where 0 = .ok (.aload_n 0, 1) := by decide +kernel
theorem dX11_where_1 : decode cX11_where 1 = .ok (.iconst 0, 1) := by decide +kernel
theorem dX11_where_2 : decode cX11_where 2 = .ok (.putfield 83, 3) := by decide +kernel
theorem dX11_where_5 : decode cX11_where 5 = .ok (.aload_n 0, 1) := by decide +kernel
theorem dX11_where_6 : decode cX11_where 6 = .ok (.getfield 86, 3) := by decide +kernel
theorem dX11_where_9 : decode cX11_where 9 = .ok (.iconst 4, 1) := by decide +kernel
theorem dX11_where_10 : decode cX11_where 10 = .ok (.if_icmp .ne 10, 3) := by decide +kernel
theorem dX11_where_13 : decode cX11_where 13 = .ok (.aload_n 0, 1) := by decide +kernel
theorem dX11_where_14 : decode cX11_where 14 = .ok (.getfield 13, 3) := by decide +kernel
theorem dX11_where_17 : decode cX11_where 17 = .ok (.goto 4, 3) := by decide +kernel
theorem dX11_where_20 : decode cX11_where 20 = .ok (.iconst (-1), 1) := by decide +kernel
theorem dX11_where_21 : decode cX11_where 21 = .ok (.ireturn, 1) := by decide +kernel
theorem dX11_feed_0 : decode cX11_feed 0 = .ok (.aload_n 0, 1) := by decide +kernel
theorem dX11_feed_1 : decode cX11_feed 1 = .ok (.iconst 0, 1) := by decide +kernel
theorem dX11_feed_2 : decode cX11_feed 2 = .ok (.putfield 83, 3) := by decide +kernel
theorem dX11_feed_5 : decode cX11_feed 5 = .ok (.aload_n 0, 1) := by decide +kernel
theorem dX11_feed_6 : decode cX11_feed 6 = .ok (.getfield 89, 3) := by decide +kernel
theorem dX11_feed_9 : decode cX11_feed 9 = .ok (.bipush 20, 2) := by decide +kernel
theorem dX11_feed_11 : decode cX11_feed 11 = .ok (.iadd, 1) := by decide +kernel
theorem dX11_feed_12 : decode cX11_feed 12 = .ok (.sipush 900, 3) := by decide +kernel
theorem dX11_feed_15 : decode cX11_feed 15 = .ok (.if_icmp .le 5, 3) := by decide +kernel
theorem dX11_feed_18 : decode cX11_feed 18 = .ok (.iconst (-1), 1) := by decide +kernel
theorem dX11_feed_19 : decode cX11_feed 19 = .ok (.ireturn, 1) := by decide +kernel
theorem dX11_feed_20 : decode cX11_feed 20 = .ok (.iconst 0, 1) := by decide +kernel
theorem dX11_feed_21 : decode cX11_feed 21 = .ok (.istore 6, 2) := by decide +kernel
theorem dX11_feed_23 : decode cX11_feed 23 = .ok (.iload 6, 2) := by decide +kernel
theorem dX11_feed_25 : decode cX11_feed 25 = .ok (.bipush 20, 2) := by decide +kernel
theorem dX11_feed_27 : decode cX11_feed 27 = .ok (.if_icmp .ge 93, 3) := by decide +kernel
theorem dX11_feed_30 : decode cX11_feed 30 = .ok (.iload 6, 2) := by decide +kernel
theorem dX11_feed_32 : decode cX11_feed 32 = .ok (.iconst 4, 1) := by decide +kernel
theorem dX11_feed_33 : decode cX11_feed 33 = .ok (.if_icmp .ge 7, 3) := by decide +kernel
theorem dX11_feed_36 : decode cX11_feed 36 = .ok (.iload_n 1, 1) := by decide +kernel
theorem dX11_feed_37 : decode cX11_feed 37 = .ok (.goto 39, 3) := by decide +kernel
theorem dX11_feed_40 : decode cX11_feed 40 = .ok (.iload 6, 2) := by decide +kernel
theorem dX11_feed_42 : decode cX11_feed 42 = .ok (.bipush 8, 2) := by decide +kernel
theorem dX11_feed_44 : decode cX11_feed 44 = .ok (.if_icmp .ge 7, 3) := by decide +kernel
theorem dX11_feed_47 : decode cX11_feed 47 = .ok (.iload_n 2, 1) := by decide +kernel
theorem dX11_feed_48 : decode cX11_feed 48 = .ok (.goto 28, 3) := by decide +kernel
theorem dX11_feed_51 : decode cX11_feed 51 = .ok (.iload 6, 2) := by decide +kernel
theorem dX11_feed_53 : decode cX11_feed 53 = .ok (.bipush 12, 2) := by decide +kernel
theorem dX11_feed_55 : decode cX11_feed 55 = .ok (.if_icmp .ge 7, 3) := by decide +kernel
theorem dX11_feed_58 : decode cX11_feed 58 = .ok (.iload_n 3, 1) := by decide +kernel
theorem dX11_feed_59 : decode cX11_feed 59 = .ok (.goto 17, 3) := by decide +kernel
theorem dX11_feed_62 : decode cX11_feed 62 = .ok (.iload 6, 2) := by decide +kernel
theorem dX11_feed_64 : decode cX11_feed 64 = .ok (.bipush 16, 2) := by decide +kernel
theorem dX11_feed_66 : decode cX11_feed 66 = .ok (.if_icmp .ge 8, 3) := by decide +kernel
theorem dX11_feed_69 : decode cX11_feed 69 = .ok (.iload 4, 2) := by decide +kernel
theorem dX11_feed_71 : decode cX11_feed 71 = .ok (.goto 5, 3) := by decide +kernel
theorem dX11_feed_74 : decode cX11_feed 74 = .ok (.iload 5, 2) := by decide +kernel
theorem dX11_feed_76 : decode cX11_feed 76 = .ok (.istore 7, 2) := by decide +kernel
theorem dX11_feed_78 : decode cX11_feed 78 = .ok (.aload_n 0, 1) := by decide +kernel
theorem dX11_feed_79 : decode cX11_feed 79 = .ok (.getfield 7, 3) := by decide +kernel
theorem dX11_feed_82 : decode cX11_feed 82 = .ok (.aload_n 0, 1) := by decide +kernel
theorem dX11_feed_83 : decode cX11_feed 83 = .ok (.getfield 89, 3) := by decide +kernel
theorem dX11_feed_86 : decode cX11_feed 86 = .ok (.iload 7, 2) := by decide +kernel
theorem dX11_feed_88 : decode cX11_feed 88 = .ok (.bipush 24, 2) := by decide +kernel
theorem dX11_feed_90 : decode cX11_feed 90 = .ok (.bipush 8, 2) := by decide +kernel
theorem dX11_feed_92 : decode cX11_feed 92 = .ok (.iload 6, 2) := by decide +kernel
theorem dX11_feed_94 : decode cX11_feed 94 = .ok (.iconst 4, 1) := by decide +kernel
theorem dX11_feed_95 : decode cX11_feed 95 = .ok (.irem, 1) := by decide +kernel
theorem dX11_feed_96 : decode cX11_feed 96 = .ok (.imul, 1) := by decide +kernel
theorem dX11_feed_97 : decode cX11_feed 97 = .ok (.isub, 1) := by decide +kernel
theorem dX11_feed_98 : decode cX11_feed 98 = .ok (.ishr, 1) := by decide +kernel
theorem dX11_feed_99 : decode cX11_feed 99 = .ok (.sipush 255, 3) := by decide +kernel
theorem dX11_feed_102 : decode cX11_feed 102 = .ok (.iand, 1) := by decide +kernel
theorem dX11_feed_103 : decode cX11_feed 103 = .ok (.iastore, 1) := by decide +kernel
theorem dX11_feed_104 : decode cX11_feed 104 = .ok (.aload_n 0, 1) := by decide +kernel
theorem dX11_feed_105 : decode cX11_feed 105 = .ok (.dup, 1) := by decide +kernel
theorem dX11_feed_106 : decode cX11_feed 106 = .ok (.getfield 89, 3) := by decide +kernel
theorem dX11_feed_109 : decode cX11_feed 109 = .ok (.iconst 1, 1) := by decide +kernel
theorem dX11_feed_110 : decode cX11_feed 110 = .ok (.iadd, 1) := by decide +kernel
theorem dX11_feed_111 : decode cX11_feed 111 = .ok (.putfield 89, 3) := by decide +kernel
theorem dX11_feed_114 : decode cX11_feed 114 = .ok (.iinc 6 1, 3) := by decide +kernel
theorem dX11_feed_117 : decode cX11_feed 117 = .ok (.goto (-94), 3) := by decide +kernel
theorem dX11_feed_120 : decode cX11_feed 120 = .ok (.aload_n 0, 1) := by decide +kernel
theorem dX11_feed_121 : decode cX11_feed 121 = .ok (.getfield 89, 3) := by decide +kernel
theorem dX11_feed_124 : decode cX11_feed 124 = .ok (.ireturn, 1) := by decide +kernel
