
set_option maxHeartbeats 4000000 in
set_option maxRecDepth 100000 in
theorem s_reelAtX (l : Launch) (g : Gx) (h0 : Nat) (p0 : Int32) (v0h0 : Value) (v1h0 : Value) (v2h0 : Value) (xp : Nat) (xmd : Int32) (xtr : Int32) (xpc : Nat) (xpn : Int32) (xpf : Nat → Int32) : cI l g yX7_reelAt cX7_reelAt 2 (some .int) 1 22 0 0 [.ref h0, .int p0] [(h0, .inr (7, [v0h0, v1h0, v2h0, .ref xp, .int xmd, .int xtr])), (xp, .inr (8, [.int 8, .int 2, .ref xpc, .int xpn])), (xpc, .inl (g.2.2.1, 16, .inl xpf))] (fun r w => (R_s_reelAtX p0 xpf r) ∧ w = [(h0, .inr (7, [v0h0, v1h0, v2h0, .ref xp, .int xmd, .int xtr])), (xp, .inr (8, [.int 8, .int 2, .ref xpc, .int xpn])), (xpc, .inl (g.2.2.1, 16, .inl xpf))]) := by
  refine cI.of (by decide) (Nat.le_of_ble_eq_true rfl) ?_
  intro p e s m args below meth c A X hr hi
  refine k_lveq [(0, .ref h0), (1, .int p0)] rfl ?_
  refine k_aload_n X dX7_reelAt_0 0 rfl ?_
  refine k_get (ci := 7) X inlX7 rfl 3 (by decide) dX7_reelAt_1 mw93 0 rfl rfl ?_
  refine k_iload_n X dX7_reelAt_4 1 rfl ?_
  refine k_iconst (v := 0) X dX7_reelAt_5 (by decide) ?_
  refine k_callVI (n := 2) (As := [.int p0, .int 0]) (st := []) X [(xp, .inr (8, [.int 8, .int 2, .ref xpc, .int xpn])), (xpc, .inl (g.2.2.1, 16, .inl xpf))] [(h0, .inr (7, [v0h0, v1h0, v2h0, .ref xp, .int xmd, .int xtr]))] [1, 2] [0] (t_at l g xp p0 0 8 2 xpc xpn 16 xpf (tbk_8_2)) dX7_reelAt_6 mw388 mw376 mw377 mw64 mw378 rfl 8 rfl rfl 0 _ rfl yk_yX8_at_2 rfl (Nat.le_of_ble_eq_true rfl) (Nat.le_of_ble_eq_true rfl) (Nat.le_of_ble_eq_true rfl) (Nat.le_of_ble_eq_true rfl) (Nat.le_of_ble_eq_true rfl) rfl rfl (by decide) rfl (by decide) (by decide) ?_
  rintro r_1 w ⟨hr_2, rfl⟩
  refine k_ws [(h0, .inr (7, [v0h0, v1h0, v2h0, .ref xp, .int xmd, .int xtr])), (xp, .inr (8, [.int 8, .int 2, .ref xpc, .int xpn])), (xpc, .inl (g.2.2.1, 16, .inl xpf))] rfl ?_
  exact k_iret X hr dX7_reelAt_9 (Nat.le_of_ble_eq_true rfl) (Nat.le_of_ble_eq_true rfl) [0, 1, 2] (by decide) rfl rfl ⟨⟨r_1, hr_2, rfl⟩, rfl⟩


set_option maxHeartbeats 4000000 in
set_option maxRecDepth 100000 in
theorem s_believedByX (l : Launch) (g : Gx) (h0 : Nat) (mn : Nat) (p0 : Int32) (p1 : Int32) (xr : Nat) (xm : Nat) (v2h0 : Value) (v3h0 : Value) (xmd : Int32) (xtr : Int32) (xrc : Nat) (xrn : Int32) (xrf : Nat → Int32) (xmc : Nat) (xmn : Int32) (xmf : Nat → Int32) (mnc : Nat) (mnn : Int32) (mnf : Nat → Int32) : cI l g yX7_believedBy cX7_believedBy 8 (some .int) 1 22 0 0 [.ref h0, .ref mn, .int p0, .int p1] [(h0, .inr (7, [.ref xr, .ref xm, v2h0, v3h0, .int xmd, .int xtr])), (xr, .inr (8, [.int 8, .int 3, .ref xrc, .int xrn])), (xrc, .inl (g.2.2.1, 24, .inl xrf)), (xm, .inr (8, [.int 12, .int 3, .ref xmc, .int xmn])), (xmc, .inl (g.2.2.1, 36, .inl xmf)), (mn, .inr (8, [.int 4, .int 3, .ref mnc, .int mnn])), (mnc, .inl (g.2.2.1, 12, .inl mnf))] (fun r w => (R_s_believedByX p0 p1 xrf xmn xmf mnf r) ∧ w = [(h0, .inr (7, [.ref xr, .ref xm, v2h0, v3h0, .int xmd, .int xtr])), (xr, .inr (8, [.int 8, .int 3, .ref xrc, .int xrn])), (xrc, .inl (g.2.2.1, 24, .inl xrf)), (xm, .inr (8, [.int 12, .int 3, .ref xmc, .int xmn])), (xmc, .inl (g.2.2.1, 36, .inl xmf)), (mn, .inr (8, [.int 4, .int 3, .ref mnc, .int mnn])), (mnc, .inl (g.2.2.1, 12, .inl mnf))]) := by
  refine cI.of (by decide) (Nat.le_of_ble_eq_true rfl) ?_
  intro p e s m args below meth c A X hr hi
  refine k_lveq [(0, .ref h0), (1, .ref mn), (2, .int p0), (3, .int p1)] rfl ?_
  refine k_aload_n X dX7_believedBy_0 1 rfl ?_
  refine k_iload_n X dX7_believedBy_1 2 rfl ?_
  refine k_iconst (v := 0) X dX7_believedBy_2 (by decide) ?_
  refine k_callVI (n := 2) (As := [.int p0, .int 0]) (st := []) X [(mn, .inr (8, [.int 4, .int 3, .ref mnc, .int mnn])), (mnc, .inl (g.2.2.1, 12, .inl mnf))] [(h0, .inr (7, [.ref xr, .ref xm, v2h0, v3h0, .int xmd, .int xtr])), (xr, .inr (8, [.int 8, .int 3, .ref xrc, .int xrn])), (xrc, .inl (g.2.2.1, 24, .inl xrf)), (xm, .inr (8, [.int 12, .int 3, .ref xmc, .int xmn])), (xmc, .inl (g.2.2.1, 36, .inl xmf))] [5, 6] [0, 1, 2, 3, 4] (t_at l g mn p0 0 4 3 mnc mnn 12 mnf (tbk_4_3)) dX7_believedBy_3 mw388 mw376 mw377 mw64 mw378 rfl 8 rfl rfl 0 _ rfl yk_yX8_at_2 rfl (Nat.le_of_ble_eq_true rfl) (Nat.le_of_ble_eq_true rfl) (Nat.le_of_ble_eq_true rfl) (Nat.le_of_ble_eq_true rfl) (Nat.le_of_ble_eq_true rfl) rfl rfl (by decide) rfl (by decide) (by decide) ?_
  rintro r_1 w ⟨hr_2, rfl⟩
  refine k_ws [(h0, .inr (7, [.ref xr, .ref xm, v2h0, v3h0, .int xmd, .int xtr])), (xr, .inr (8, [.int 8, .int 3, .ref xrc, .int xrn])), (xrc, .inl (g.2.2.1, 24, .inl xrf)), (xm, .inr (8, [.int 12, .int 3, .ref xmc, .int xmn])), (xmc, .inl (g.2.2.1, 36, .inl xmf)), (mn, .inr (8, [.int 4, .int 3, .ref mnc, .int mnn])), (mnc, .inl (g.2.2.1, 12, .inl mnf))] rfl ?_
  refine k_istore [(4, .int r_1), (0, .ref h0), (1, .ref mn), (2, .int p0), (3, .int p1)] X dX7_believedBy_6 (by decide) rfl ?_
  refine k_aload_n X dX7_believedBy_8 1 rfl ?_
  refine k_get (ci := 7) X inlX7 rfl 0 (by decide) dX7_believedBy_9 mw90 0 rfl rfl ?_
  refine k_iload_n X dX7_believedBy_12 4 rfl ?_
  refine k_iconst (v := 1) X dX7_believedBy_13 (by decide) ?_
  refine k_callVI (n := 2) (As := [.int p1, .int 1]) (st := []) X [(xr, .inr (8, [.int 8, .int 3, .ref xrc, .int xrn])), (xrc, .inl (g.2.2.1, 24, .inl xrf))] [(h0, .inr (7, [.ref xr, .ref xm, v2h0, v3h0, .int xmd, .int xtr])), (xm, .inr (8, [.int 12, .int 3, .ref xmc, .int xmn])), (xmc, .inl (g.2.2.1, 36, .inl xmf)), (mn, .inr (8, [.int 4, .int 3, .ref mnc, .int mnn])), (mnc, .inl (g.2.2.1, 12, .inl mnf))] [1, 2] [0, 3, 4, 5, 6] (t_at l g xr p1 1 8 3 xrc xrn 24 xrf (tbk_8_3)) dX7_believedBy_14 mw388 mw376 mw377 mw64 mw378 rfl 8 rfl rfl 0 _ rfl yk_yX8_at_2 rfl (Nat.le_of_ble_eq_true rfl) (Nat.le_of_ble_eq_true rfl) (Nat.le_of_ble_eq_true rfl) (Nat.le_of_ble_eq_true rfl) (Nat.le_of_ble_eq_true rfl) rfl rfl (by decide) rfl (by decide) (by decide) ?_
  rintro r_3 w ⟨hr_4, rfl⟩
  refine k_ws [(h0, .inr (7, [.ref xr, .ref xm, v2h0, v3h0, .int xmd, .int xtr])), (xm, .inr (8, [.int 12, .int 3, .ref xmc, .int xmn])), (xmc, .inl (g.2.2.1, 36, .inl xmf)), (mn, .inr (8, [.int 4, .int 3, .ref mnc, .int mnn])), (mnc, .inl (g.2.2.1, 12, .inl mnf)), (xr, .inr (8, [.int 8, .int 3, .ref xrc, .int xrn])), (xrc, .inl (g.2.2.1, 24, .inl xrf))] rfl ?_
  refine k_istore [(5, .int r_3), (4, .int r_1), (0, .ref h0), (1, .ref mn), (2, .int p0), (3, .int p1)] X dX7_believedBy_17 (by decide) rfl ?_
  refine k_iconst (v := 0) X dX7_believedBy_19 (by decide) ?_
  refine k_istore [(6, .int 0), (5, .int r_3), (4, .int r_1), (0, .ref h0), (1, .ref mn), (2, .int p0), (3, .int p1)] X dX7_believedBy_20 (by decide) rfl ?_
  refine (fun hL : ∀ (nn_8 : Nat) (u_5 : Int32) (u_6 : Int32), (xmn.toInt - u_6.toInt).toNat = nn_8 → (IV u_6 0 2147483647) → (∀ (r : Int32), (∃ n_0 : Nat, R_s_believedByX_L0 p0 p1 xmn xmf mnf r_1 (fun (u_5 : Int32) => r = u_5) n_0 u_5 u_6) → R_s_believedByX p0 p1 xrf xmn xmf mnf r) → Wk p l e _ s m args below meth c _ A g _ _ _ [(h0, .inr (7, [.ref xr, .ref xm, v2h0, v3h0, .int xmd, .int xtr])), (xm, .inr (8, [.int 12, .int 3, .ref xmc, .int xmn])), (xmc, .inl (g.2.2.1, 36, .inl xmf)), (mn, .inr (8, [.int 4, .int 3, .ref mnc, .int mnn])), (mnc, .inl (g.2.2.1, 12, .inl mnf)), (xr, .inr (8, [.int 8, .int 3, .ref xrc, .int xrn])), (xrc, .inl (g.2.2.1, 24, .inl xrf))] [(6, .int u_6), (5, .int u_5), (4, .int r_1), (0, .ref h0), (1, .ref mn), (2, .int p0), (3, .int p1)] 22 [] => hL _ r_3 0 rfl (iv_w (show IV 0 0 0 from (by decide)) (by decide) (by decide)) (fun r h => ⟨r_1, hr_2, ⟨r_3, hr_4, h⟩⟩)) ?_
  refine fun nn_8 => Nat.strongRecOn nn_8 (fun nn_8 ih_10 => ?_)
  intro u_5 u_6 hm_9 hv_7 KH_0
  refine k_iload X dX7_believedBy_22 0 rfl ?_
  refine k_aload_n X dX7_believedBy_24 3 rfl ?_
  refine k_get (ci := 7) X inlX7 rfl 1 (by decide) dX7_believedBy_25 mw91 0 rfl rfl ?_
  refine k_get (ci := 8) X inlX8 rfl 3 (by decide) dX7_believedBy_28 mw387 1 rfl rfl ?_
  refine k_ic_ge 121 X dX7_believedBy_31 (by decide) (fun h_11 => ?_) (fun h_11 => ?_)
  · skip
    have j_12 : xmn.toInt ≤ u_6.toInt := iv_le h_11
    refine k_iload X dX7_believedBy_121 1 rfl ?_
    exact k_iret X hr dX7_believedBy_123 (Nat.le_of_ble_eq_true rfl) (Nat.le_of_ble_eq_true rfl) [0, 5, 6, 1, 2, 3, 4] (by decide) rfl rfl ⟨(KH_0 _ ⟨0 + 1, (Or.inl ⟨h_11, rfl⟩)⟩), rfl⟩
  · skip
    have j_13 : u_6.toInt < xmn.toInt := iv_nle h_11
    have iv_14 : IV u_6 0 2147483646 := iv_ltL (iv_nle h_11) hv_7 (iv_any xmn) (by decide)
    have iv_15 : IV xmn 1 2147483647 := iv_ltR (iv_nle h_11) hv_7 (iv_any xmn) (by decide)
    refine k_aload_n X dX7_believedBy_34 3 rfl ?_
    refine k_get (ci := 7) X inlX7 rfl 1 (by decide) dX7_believedBy_35 mw91 0 rfl rfl ?_
    refine k_iload X dX7_believedBy_38 0 rfl ?_
    refine k_iconst (v := 0) X dX7_believedBy_40 (by decide) ?_
    refine k_callVI (n := 2) (As := [.int u_6, .int 0]) (st := []) X [(xm, .inr (8, [.int 12, .int 3, .ref xmc, .int xmn])), (xmc, .inl (g.2.2.1, 36, .inl xmf))] [(h0, .inr (7, [.ref xr, .ref xm, v2h0, v3h0, .int xmd, .int xtr])), (mn, .inr (8, [.int 4, .int 3, .ref mnc, .int mnn])), (mnc, .inl (g.2.2.1, 12, .inl mnf)), (xr, .inr (8, [.int 8, .int 3, .ref xrc, .int xrn])), (xrc, .inl (g.2.2.1, 24, .inl xrf))] [1, 2] [0, 3, 4, 5, 6] (t_at l g xm u_6 0 12 3 xmc xmn 36 xmf (tbk_12_3)) dX7_believedBy_41 mw388 mw376 mw377 mw64 mw378 rfl 8 rfl rfl 0 _ rfl yk_yX8_at_2 rfl (Nat.le_of_ble_eq_true rfl) (Nat.le_of_ble_eq_true rfl) (Nat.le_of_ble_eq_true rfl) (Nat.le_of_ble_eq_true rfl) (Nat.le_of_ble_eq_true rfl) rfl rfl (by decide) rfl (by decide) (by decide) ?_
    rintro r_16 w ⟨hr_17, rfl⟩
    refine k_ws [(h0, .inr (7, [.ref xr, .ref xm, v2h0, v3h0, .int xmd, .int xtr])), (mn, .inr (8, [.int 4, .int 3, .ref mnc, .int mnn])), (mnc, .inl (g.2.2.1, 12, .inl mnf)), (xr, .inr (8, [.int 8, .int 3, .ref xrc, .int xrn])), (xrc, .inl (g.2.2.1, 24, .inl xrf)), (xm, .inr (8, [.int 12, .int 3, .ref xmc, .int xmn])), (xmc, .inl (g.2.2.1, 36, .inl xmf))] rfl ?_
    refine k_iload_n X dX7_believedBy_44 6 rfl ?_
    refine k_ic_ne 115 X dX7_believedBy_45 (by decide) (fun h_18 => ?_) (fun h_18 => ?_)
    · skip
      obtain ⟨z_19, ez_19⟩ : ∃ y : Int32, u_6 + Int32.ofInt 1 = y := ⟨_, rfl⟩
      refine k_iinc z_19 [(6, .int z_19), (5, .int u_5), (4, .int r_1), (0, .ref h0), (1, .ref mn), (2, .int p0), (3, .int p1)] 0 X dX7_believedBy_115 rfl ez_19 (by decide) rfl ?_
      have i_20 : z_19.toInt = u_6.toInt + 1 := in_inc ez_19 (by decide) iv_14 (by decide) (by decide)
      have iv_21 : IV z_19 1 2147483647 := iz1 i_20 iv_14 (by decide) (by decide)
      refine k_goto 22 X dX7_believedBy_118 (by decide) ?_
      refine k_sub [(h0, .inr (7, [.ref xr, .ref xm, v2h0, v3h0, .int xmd, .int xtr])), (xm, .inr (8, [.int 12, .int 3, .ref xmc, .int xmn])), (xmc, .inl (g.2.2.1, 36, .inl xmf)), (mn, .inr (8, [.int 4, .int 3, .ref mnc, .int mnn])), (mnc, .inl (g.2.2.1, 12, .inl mnf)), (xr, .inr (8, [.int 8, .int 3, .ref xrc, .int xrn])), (xrc, .inl (g.2.2.1, 24, .inl xrf))] [0, 5, 6, 1, 2, 3, 4] rfl (by decide) rfl ?_
      exact ih_10 _ (by omega) u_5 z_19 rfl (iv_w iv_21 (by decide) (by decide)) (fun r h => h.elim (fun n_0 q => (KH_0 _ ⟨n_0 + 1, (Or.inr ⟨h_11, ⟨r_16, hr_17, (Or.inl ⟨h_18, ⟨z_19, ez_19, q⟩⟩)⟩⟩)⟩)))
    · skip
      refine k_aload_n X dX7_believedBy_48 3 rfl ?_
      refine k_get (ci := 7) X inlX7 rfl 1 (by decide) dX7_believedBy_49 mw91 0 rfl rfl ?_
      refine k_iload X dX7_believedBy_52 0 rfl ?_
      refine k_iconst (v := 1) X dX7_believedBy_54 (by decide) ?_
      refine k_callVI (n := 2) (As := [.int u_6, .int 1]) (st := []) X [(xm, .inr (8, [.int 12, .int 3, .ref xmc, .int xmn])), (xmc, .inl (g.2.2.1, 36, .inl xmf))] [(h0, .inr (7, [.ref xr, .ref xm, v2h0, v3h0, .int xmd, .int xtr])), (mn, .inr (8, [.int 4, .int 3, .ref mnc, .int mnn])), (mnc, .inl (g.2.2.1, 12, .inl mnf)), (xr, .inr (8, [.int 8, .int 3, .ref xrc, .int xrn])), (xrc, .inl (g.2.2.1, 24, .inl xrf))] [5, 6] [0, 1, 2, 3, 4] (t_at l g xm u_6 1 12 3 xmc xmn 36 xmf (tbk_12_3)) dX7_believedBy_55 mw388 mw376 mw377 mw64 mw378 rfl 8 rfl rfl 0 _ rfl yk_yX8_at_2 rfl (Nat.le_of_ble_eq_true rfl) (Nat.le_of_ble_eq_true rfl) (Nat.le_of_ble_eq_true rfl) (Nat.le_of_ble_eq_true rfl) (Nat.le_of_ble_eq_true rfl) rfl rfl (by decide) rfl (by decide) (by decide) ?_
      rintro r_22 w ⟨hr_23, rfl⟩
      refine k_ws [(h0, .inr (7, [.ref xr, .ref xm, v2h0, v3h0, .int xmd, .int xtr])), (mn, .inr (8, [.int 4, .int 3, .ref mnc, .int mnn])), (mnc, .inl (g.2.2.1, 12, .inl mnf)), (xr, .inr (8, [.int 8, .int 3, .ref xrc, .int xrn])), (xrc, .inl (g.2.2.1, 24, .inl xrf)), (xm, .inr (8, [.int 12, .int 3, .ref xmc, .int xmn])), (xmc, .inl (g.2.2.1, 36, .inl xmf))] rfl ?_
      refine k_istore [(7, .int r_22), (6, .int u_6), (5, .int u_5), (4, .int r_1), (0, .ref h0), (1, .ref mn), (2, .int p0), (3, .int p1)] X dX7_believedBy_58 (by decide) rfl ?_
      refine k_iload X dX7_believedBy_60 3 rfl ?_
      refine k_iconst (v := 1) X dX7_believedBy_62 (by decide) ?_
      refine k_ic_ne 73 X dX7_believedBy_63 (by decide) (fun h_24 => ?_) (fun h_24 => ?_)
      · skip
        refine k_iload X dX7_believedBy_73 3 rfl ?_
        refine k_iconst (v := 2) X dX7_believedBy_75 (by decide) ?_
        refine k_ic_ne 86 X dX7_believedBy_76 (by decide) (fun h_25 => ?_) (fun h_25 => ?_)
        · skip
          refine k_iload X dX7_believedBy_86 3 rfl ?_
          refine k_iconst (v := 3) X dX7_believedBy_88 (by decide) ?_
          refine k_ic_ne 115 X dX7_believedBy_89 (by decide) (fun h_26 => ?_) (fun h_26 => ?_)
          · skip
            obtain ⟨z_27, ez_27⟩ : ∃ y : Int32, u_6 + Int32.ofInt 1 = y := ⟨_, rfl⟩
            refine k_iinc z_27 [(6, .int z_27), (7, .int r_22), (5, .int u_5), (4, .int r_1), (0, .ref h0), (1, .ref mn), (2, .int p0), (3, .int p1)] 1 X dX7_believedBy_115 rfl ez_27 (by decide) rfl ?_
            have i_28 : z_27.toInt = u_6.toInt + 1 := in_inc ez_27 (by decide) iv_14 (by decide) (by decide)
            have iv_29 : IV z_27 1 2147483647 := iz1 i_28 iv_14 (by decide) (by decide)
            refine k_goto 22 X dX7_believedBy_118 (by decide) ?_
            refine k_lv [(6, .int z_27), (5, .int u_5), (4, .int r_1), (0, .ref h0), (1, .ref mn), (2, .int p0), (3, .int p1)] [0, 2, 3, 4, 5, 6, 7] rfl ?_
            refine k_sub [(h0, .inr (7, [.ref xr, .ref xm, v2h0, v3h0, .int xmd, .int xtr])), (xm, .inr (8, [.int 12, .int 3, .ref xmc, .int xmn])), (xmc, .inl (g.2.2.1, 36, .inl xmf)), (mn, .inr (8, [.int 4, .int 3, .ref mnc, .int mnn])), (mnc, .inl (g.2.2.1, 12, .inl mnf)), (xr, .inr (8, [.int 8, .int 3, .ref xrc, .int xrn])), (xrc, .inl (g.2.2.1, 24, .inl xrf))] [0, 5, 6, 1, 2, 3, 4] rfl (by decide) rfl ?_
            exact ih_10 _ (by omega) u_5 z_27 rfl (iv_w iv_29 (by decide) (by decide)) (fun r h => h.elim (fun n_0 q => (KH_0 _ ⟨n_0 + 1, (Or.inr ⟨h_11, ⟨r_16, hr_17, (Or.inr ⟨h_18, ⟨r_22, hr_23, (Or.inl ⟨h_24, (Or.inl ⟨h_25, (Or.inl ⟨h_26, ⟨z_27, ez_27, q⟩⟩)⟩)⟩)⟩⟩)⟩⟩)⟩)))
          · skip
            have iv_30 : IV r_1 3 3 := iv_meet (iv_any r_1) (iv_e h_26 (show IV 3 3 3 from (by decide))) (by decide) (by decide)
            refine k_aload_n X dX7_believedBy_92 4 rfl ?_
            refine k_get (ci := 7) X inlX7 rfl 1 (by decide) dX7_believedBy_93 mw91 0 rfl rfl ?_
            refine k_iload X dX7_believedBy_96 1 rfl ?_
            refine k_iconst (v := 2) X dX7_believedBy_98 (by decide) ?_
            refine k_callVI (n := 2) (As := [.int u_6, .int 2]) (st := []) X [(xm, .inr (8, [.int 12, .int 3, .ref xmc, .int xmn])), (xmc, .inl (g.2.2.1, 36, .inl xmf))] [(h0, .inr (7, [.ref xr, .ref xm, v2h0, v3h0, .int xmd, .int xtr])), (mn, .inr (8, [.int 4, .int 3, .ref mnc, .int mnn])), (mnc, .inl (g.2.2.1, 12, .inl mnf)), (xr, .inr (8, [.int 8, .int 3, .ref xrc, .int xrn])), (xrc, .inl (g.2.2.1, 24, .inl xrf))] [5, 6] [0, 1, 2, 3, 4] (t_at l g xm u_6 2 12 3 xmc xmn 36 xmf (tbk_12_3)) dX7_believedBy_99 mw388 mw376 mw377 mw64 mw378 rfl 8 rfl rfl 0 _ rfl yk_yX8_at_2 rfl (Nat.le_of_ble_eq_true rfl) (Nat.le_of_ble_eq_true rfl) (Nat.le_of_ble_eq_true rfl) (Nat.le_of_ble_eq_true rfl) (Nat.le_of_ble_eq_true rfl) rfl rfl (by decide) rfl (by decide) (by decide) ?_
            rintro r_31 w ⟨hr_32, rfl⟩
            refine k_ws [(h0, .inr (7, [.ref xr, .ref xm, v2h0, v3h0, .int xmd, .int xtr])), (mn, .inr (8, [.int 4, .int 3, .ref mnc, .int mnn])), (mnc, .inl (g.2.2.1, 12, .inl mnf)), (xr, .inr (8, [.int 8, .int 3, .ref xrc, .int xrn])), (xrc, .inl (g.2.2.1, 24, .inl xrf)), (xm, .inr (8, [.int 12, .int 3, .ref xmc, .int xmn])), (xmc, .inl (g.2.2.1, 36, .inl xmf))] rfl ?_
            refine k_aload_n X dX7_believedBy_102 5 rfl ?_
            refine k_iload_n X dX7_believedBy_103 6 rfl ?_
            refine k_iconst (v := 1) X dX7_believedBy_104 (by decide) ?_
            refine k_callVI (n := 2) (As := [.int p0, .int 1]) (st := [.int r_31]) X [(mn, .inr (8, [.int 4, .int 3, .ref mnc, .int mnn])), (mnc, .inl (g.2.2.1, 12, .inl mnf))] [(h0, .inr (7, [.ref xr, .ref xm, v2h0, v3h0, .int xmd, .int xtr])), (xr, .inr (8, [.int 8, .int 3, .ref xrc, .int xrn])), (xrc, .inl (g.2.2.1, 24, .inl xrf)), (xm, .inr (8, [.int 12, .int 3, .ref xmc, .int xmn])), (xmc, .inl (g.2.2.1, 36, .inl xmf))] [1, 2] [0, 3, 4, 5, 6] (t_at l g mn p0 1 4 3 mnc mnn 12 mnf (tbk_4_3)) dX7_believedBy_105 mw388 mw376 mw377 mw64 mw378 rfl 8 rfl rfl 0 _ rfl yk_yX8_at_2 rfl (Nat.le_of_ble_eq_true rfl) (Nat.le_of_ble_eq_true rfl) (Nat.le_of_ble_eq_true rfl) (Nat.le_of_ble_eq_true rfl) (Nat.le_of_ble_eq_true rfl) rfl rfl (by decide) rfl (by decide) (by decide) ?_
            rintro r_33 w ⟨hr_34, rfl⟩
            refine k_ws [(h0, .inr (7, [.ref xr, .ref xm, v2h0, v3h0, .int xmd, .int xtr])), (xr, .inr (8, [.int 8, .int 3, .ref xrc, .int xrn])), (xrc, .inl (g.2.2.1, 24, .inl xrf)), (xm, .inr (8, [.int 12, .int 3, .ref xmc, .int xmn])), (xmc, .inl (g.2.2.1, 36, .inl xmf)), (mn, .inr (8, [.int 4, .int 3, .ref mnc, .int mnn])), (mnc, .inl (g.2.2.1, 12, .inl mnf))] rfl ?_
            refine k_ic_ne 115 X dX7_believedBy_108 (by decide) (fun h_35 => ?_) (fun h_35 => ?_)
            · skip
              obtain ⟨z_36, ez_36⟩ : ∃ y : Int32, u_6 + Int32.ofInt 1 = y := ⟨_, rfl⟩
              refine k_iinc z_36 [(6, .int z_36), (7, .int r_22), (5, .int u_5), (4, .int r_1), (0, .ref h0), (1, .ref mn), (2, .int p0), (3, .int p1)] 1 X dX7_believedBy_115 rfl ez_36 (by decide) rfl ?_
              have i_37 : z_36.toInt = u_6.toInt + 1 := in_inc ez_36 (by decide) iv_14 (by decide) (by decide)
              have iv_38 : IV z_36 1 2147483647 := iz1 i_37 iv_14 (by decide) (by decide)
              refine k_goto 22 X dX7_believedBy_118 (by decide) ?_
              refine k_lv [(6, .int z_36), (5, .int u_5), (4, .int r_1), (0, .ref h0), (1, .ref mn), (2, .int p0), (3, .int p1)] [0, 2, 3, 4, 5, 6, 7] rfl ?_
              refine k_sub [(h0, .inr (7, [.ref xr, .ref xm, v2h0, v3h0, .int xmd, .int xtr])), (xm, .inr (8, [.int 12, .int 3, .ref xmc, .int xmn])), (xmc, .inl (g.2.2.1, 36, .inl xmf)), (mn, .inr (8, [.int 4, .int 3, .ref mnc, .int mnn])), (mnc, .inl (g.2.2.1, 12, .inl mnf)), (xr, .inr (8, [.int 8, .int 3, .ref xrc, .int xrn])), (xrc, .inl (g.2.2.1, 24, .inl xrf))] [0, 3, 4, 5, 6, 1, 2] rfl (by decide) rfl ?_
              exact ih_10 _ (by omega) u_5 z_36 rfl (iv_w iv_38 (by decide) (by decide)) (fun r h => h.elim (fun n_0 q => (KH_0 _ ⟨n_0 + 1, (Or.inr ⟨h_11, ⟨r_16, hr_17, (Or.inr ⟨h_18, ⟨r_22, hr_23, (Or.inl ⟨h_24, (Or.inl ⟨h_25, (Or.inr ⟨h_26, ⟨r_31, hr_32, ⟨r_33, hr_34, (Or.inl ⟨h_35, ⟨z_36, ez_36, q⟩⟩)⟩⟩⟩)⟩)⟩)⟩⟩)⟩⟩)⟩)))
            · skip
              refine k_iload X dX7_believedBy_111 0 rfl ?_
              refine k_istore [(5, .int r_22), (7, .int r_22), (6, .int u_6), (4, .int r_1), (0, .ref h0), (1, .ref mn), (2, .int p0), (3, .int p1)] X dX7_believedBy_113 (by decide) rfl ?_
              obtain ⟨z_39, ez_39⟩ : ∃ y : Int32, u_6 + Int32.ofInt 1 = y := ⟨_, rfl⟩
              refine k_iinc z_39 [(6, .int z_39), (5, .int r_22), (7, .int r_22), (4, .int r_1), (0, .ref h0), (1, .ref mn), (2, .int p0), (3, .int p1)] 2 X dX7_believedBy_115 rfl ez_39 (by decide) rfl ?_
              have i_40 : z_39.toInt = u_6.toInt + 1 := in_inc ez_39 (by decide) iv_14 (by decide) (by decide)
              have iv_41 : IV z_39 1 2147483647 := iz1 i_40 iv_14 (by decide) (by decide)
              refine k_goto 22 X dX7_believedBy_118 (by decide) ?_
              refine k_lv [(6, .int z_39), (5, .int r_22), (4, .int r_1), (0, .ref h0), (1, .ref mn), (2, .int p0), (3, .int p1)] [0, 1, 3, 4, 5, 6, 7] rfl ?_
              refine k_sub [(h0, .inr (7, [.ref xr, .ref xm, v2h0, v3h0, .int xmd, .int xtr])), (xm, .inr (8, [.int 12, .int 3, .ref xmc, .int xmn])), (xmc, .inl (g.2.2.1, 36, .inl xmf)), (mn, .inr (8, [.int 4, .int 3, .ref mnc, .int mnn])), (mnc, .inl (g.2.2.1, 12, .inl mnf)), (xr, .inr (8, [.int 8, .int 3, .ref xrc, .int xrn])), (xrc, .inl (g.2.2.1, 24, .inl xrf))] [0, 3, 4, 5, 6, 1, 2] rfl (by decide) rfl ?_
              exact ih_10 _ (by omega) r_22 z_39 rfl (iv_w iv_41 (by decide) (by decide)) (fun r h => h.elim (fun n_0 q => (KH_0 _ ⟨n_0 + 1, (Or.inr ⟨h_11, ⟨r_16, hr_17, (Or.inr ⟨h_18, ⟨r_22, hr_23, (Or.inl ⟨h_24, (Or.inl ⟨h_25, (Or.inr ⟨h_26, ⟨r_31, hr_32, ⟨r_33, hr_34, (Or.inr ⟨h_35, ⟨z_39, ez_39, q⟩⟩)⟩⟩⟩)⟩)⟩)⟩⟩)⟩⟩)⟩)))
        · skip
          have iv_42 : IV r_1 2 2 := iv_meet (iv_any r_1) (iv_e h_25 (show IV 2 2 2 from (by decide))) (by decide) (by decide)
          refine k_iload X dX7_believedBy_79 0 rfl ?_
          refine k_iload X dX7_believedBy_81 2 rfl ?_
          refine k_ic_gt 111 X dX7_believedBy_83 (by decide) (fun h_43 => ?_) (fun h_43 => ?_)
          · skip
            have j_44 : u_5.toInt < r_22.toInt := iv_lt h_43
            have iv_45 : IV u_5 (-2147483648) 2147483646 := iv_ltL (iv_lt h_43) (iv_any u_5) (iv_any r_22) (by decide)
            have iv_46 : IV r_22 (-2147483647) 2147483647 := iv_ltR (iv_lt h_43) (iv_any u_5) (iv_any r_22) (by decide)
            refine k_iload X dX7_believedBy_111 0 rfl ?_
            refine k_istore [(5, .int r_22), (7, .int r_22), (6, .int u_6), (4, .int r_1), (0, .ref h0), (1, .ref mn), (2, .int p0), (3, .int p1)] X dX7_believedBy_113 (by decide) rfl ?_
            obtain ⟨z_47, ez_47⟩ : ∃ y : Int32, u_6 + Int32.ofInt 1 = y := ⟨_, rfl⟩
            refine k_iinc z_47 [(6, .int z_47), (5, .int r_22), (7, .int r_22), (4, .int r_1), (0, .ref h0), (1, .ref mn), (2, .int p0), (3, .int p1)] 2 X dX7_believedBy_115 rfl ez_47 (by decide) rfl ?_
            have i_48 : z_47.toInt = u_6.toInt + 1 := in_inc ez_47 (by decide) iv_14 (by decide) (by decide)
            have iv_49 : IV z_47 1 2147483647 := iz1 i_48 iv_14 (by decide) (by decide)
            refine k_goto 22 X dX7_believedBy_118 (by decide) ?_
            refine k_lv [(6, .int z_47), (5, .int r_22), (4, .int r_1), (0, .ref h0), (1, .ref mn), (2, .int p0), (3, .int p1)] [0, 1, 3, 4, 5, 6, 7] rfl ?_
            refine k_sub [(h0, .inr (7, [.ref xr, .ref xm, v2h0, v3h0, .int xmd, .int xtr])), (xm, .inr (8, [.int 12, .int 3, .ref xmc, .int xmn])), (xmc, .inl (g.2.2.1, 36, .inl xmf)), (mn, .inr (8, [.int 4, .int 3, .ref mnc, .int mnn])), (mnc, .inl (g.2.2.1, 12, .inl mnf)), (xr, .inr (8, [.int 8, .int 3, .ref xrc, .int xrn])), (xrc, .inl (g.2.2.1, 24, .inl xrf))] [0, 5, 6, 1, 2, 3, 4] rfl (by decide) rfl ?_
            exact ih_10 _ (by omega) r_22 z_47 rfl (iv_w iv_49 (by decide) (by decide)) (fun r h => h.elim (fun n_0 q => (KH_0 _ ⟨n_0 + 1, (Or.inr ⟨h_11, ⟨r_16, hr_17, (Or.inr ⟨h_18, ⟨r_22, hr_23, (Or.inl ⟨h_24, (Or.inr ⟨h_25, (Or.inl ⟨h_43, ⟨z_47, ez_47, q⟩⟩)⟩)⟩)⟩⟩)⟩⟩)⟩)))
          · skip
            have j_50 : r_22.toInt ≤ u_5.toInt := iv_nlt h_43
            refine k_iload X dX7_believedBy_86 3 rfl ?_
            refine k_iconst (v := 3) X dX7_believedBy_88 (by decide) ?_
            refine k_ic_ne 115 X dX7_believedBy_89 (by decide) (fun h_51 => ?_) (fun h_51 => (iv_eqN h_51 iv_42 (show IV 3 3 3 from (by decide)) (by decide)).elim)
            obtain ⟨z_52, ez_52⟩ : ∃ y : Int32, u_6 + Int32.ofInt 1 = y := ⟨_, rfl⟩
            refine k_iinc z_52 [(6, .int z_52), (7, .int r_22), (5, .int u_5), (4, .int r_1), (0, .ref h0), (1, .ref mn), (2, .int p0), (3, .int p1)] 1 X dX7_believedBy_115 rfl ez_52 (by decide) rfl ?_
            have i_53 : z_52.toInt = u_6.toInt + 1 := in_inc ez_52 (by decide) iv_14 (by decide) (by decide)
            have iv_54 : IV z_52 1 2147483647 := iz1 i_53 iv_14 (by decide) (by decide)
            refine k_goto 22 X dX7_believedBy_118 (by decide) ?_
            refine k_lv [(6, .int z_52), (5, .int u_5), (4, .int r_1), (0, .ref h0), (1, .ref mn), (2, .int p0), (3, .int p1)] [0, 2, 3, 4, 5, 6, 7] rfl ?_
            refine k_sub [(h0, .inr (7, [.ref xr, .ref xm, v2h0, v3h0, .int xmd, .int xtr])), (xm, .inr (8, [.int 12, .int 3, .ref xmc, .int xmn])), (xmc, .inl (g.2.2.1, 36, .inl xmf)), (mn, .inr (8, [.int 4, .int 3, .ref mnc, .int mnn])), (mnc, .inl (g.2.2.1, 12, .inl mnf)), (xr, .inr (8, [.int 8, .int 3, .ref xrc, .int xrn])), (xrc, .inl (g.2.2.1, 24, .inl xrf))] [0, 5, 6, 1, 2, 3, 4] rfl (by decide) rfl ?_
            exact ih_10 _ (by omega) u_5 z_52 rfl (iv_w iv_54 (by decide) (by decide)) (fun r h => h.elim (fun n_0 q => (KH_0 _ ⟨n_0 + 1, (Or.inr ⟨h_11, ⟨r_16, hr_17, (Or.inr ⟨h_18, ⟨r_22, hr_23, (Or.inl ⟨h_24, (Or.inr ⟨h_25, (Or.inr ⟨h_43, ⟨z_52, ez_52, q⟩⟩)⟩)⟩)⟩⟩)⟩⟩)⟩)))
      · skip
        have iv_55 : IV r_1 1 1 := iv_meet (iv_any r_1) (iv_e h_24 (show IV 1 1 1 from (by decide))) (by decide) (by decide)
        refine k_iload X dX7_believedBy_66 0 rfl ?_
        refine k_iload X dX7_believedBy_68 2 rfl ?_
        refine k_ic_lt 111 X dX7_believedBy_70 (by decide) (fun h_56 => ?_) (fun h_56 => ?_)
        · skip
          have j_57 : r_22.toInt < u_5.toInt := iv_lt h_56
          have iv_58 : IV r_22 (-2147483648) 2147483646 := iv_ltL (iv_lt h_56) (iv_any r_22) (iv_any u_5) (by decide)
          have iv_59 : IV u_5 (-2147483647) 2147483647 := iv_ltR (iv_lt h_56) (iv_any r_22) (iv_any u_5) (by decide)
          refine k_iload X dX7_believedBy_111 0 rfl ?_
          refine k_istore [(5, .int r_22), (7, .int r_22), (6, .int u_6), (4, .int r_1), (0, .ref h0), (1, .ref mn), (2, .int p0), (3, .int p1)] X dX7_believedBy_113 (by decide) rfl ?_
          obtain ⟨z_60, ez_60⟩ : ∃ y : Int32, u_6 + Int32.ofInt 1 = y := ⟨_, rfl⟩
          refine k_iinc z_60 [(6, .int z_60), (5, .int r_22), (7, .int r_22), (4, .int r_1), (0, .ref h0), (1, .ref mn), (2, .int p0), (3, .int p1)] 2 X dX7_believedBy_115 rfl ez_60 (by decide) rfl ?_
          have i_61 : z_60.toInt = u_6.toInt + 1 := in_inc ez_60 (by decide) iv_14 (by decide) (by decide)
          have iv_62 : IV z_60 1 2147483647 := iz1 i_61 iv_14 (by decide) (by decide)
          refine k_goto 22 X dX7_believedBy_118 (by decide) ?_
          refine k_lv [(6, .int z_60), (5, .int r_22), (4, .int r_1), (0, .ref h0), (1, .ref mn), (2, .int p0), (3, .int p1)] [0, 1, 3, 4, 5, 6, 7] rfl ?_
          refine k_sub [(h0, .inr (7, [.ref xr, .ref xm, v2h0, v3h0, .int xmd, .int xtr])), (xm, .inr (8, [.int 12, .int 3, .ref xmc, .int xmn])), (xmc, .inl (g.2.2.1, 36, .inl xmf)), (mn, .inr (8, [.int 4, .int 3, .ref mnc, .int mnn])), (mnc, .inl (g.2.2.1, 12, .inl mnf)), (xr, .inr (8, [.int 8, .int 3, .ref xrc, .int xrn])), (xrc, .inl (g.2.2.1, 24, .inl xrf))] [0, 5, 6, 1, 2, 3, 4] rfl (by decide) rfl ?_
          exact ih_10 _ (by omega) r_22 z_60 rfl (iv_w iv_62 (by decide) (by decide)) (fun r h => h.elim (fun n_0 q => (KH_0 _ ⟨n_0 + 1, (Or.inr ⟨h_11, ⟨r_16, hr_17, (Or.inr ⟨h_18, ⟨r_22, hr_23, (Or.inr ⟨h_24, (Or.inl ⟨h_56, ⟨z_60, ez_60, q⟩⟩)⟩)⟩⟩)⟩⟩)⟩)))
        · skip
          have j_63 : u_5.toInt ≤ r_22.toInt := iv_nlt h_56
          refine k_iload X dX7_believedBy_73 3 rfl ?_
          refine k_iconst (v := 2) X dX7_believedBy_75 (by decide) ?_
          refine k_ic_ne 86 X dX7_believedBy_76 (by decide) (fun h_64 => ?_) (fun h_64 => (iv_eqN h_64 iv_55 (show IV 2 2 2 from (by decide)) (by decide)).elim)
          refine k_iload X dX7_believedBy_86 3 rfl ?_
          refine k_iconst (v := 3) X dX7_believedBy_88 (by decide) ?_
          refine k_ic_ne 115 X dX7_believedBy_89 (by decide) (fun h_65 => ?_) (fun h_65 => (iv_eqN h_65 iv_55 (show IV 3 3 3 from (by decide)) (by decide)).elim)
          obtain ⟨z_66, ez_66⟩ : ∃ y : Int32, u_6 + Int32.ofInt 1 = y := ⟨_, rfl⟩
          refine k_iinc z_66 [(6, .int z_66), (7, .int r_22), (5, .int u_5), (4, .int r_1), (0, .ref h0), (1, .ref mn), (2, .int p0), (3, .int p1)] 1 X dX7_believedBy_115 rfl ez_66 (by decide) rfl ?_
          have i_67 : z_66.toInt = u_6.toInt + 1 := in_inc ez_66 (by decide) iv_14 (by decide) (by decide)
          have iv_68 : IV z_66 1 2147483647 := iz1 i_67 iv_14 (by decide) (by decide)
          refine k_goto 22 X dX7_believedBy_118 (by decide) ?_
          refine k_lv [(6, .int z_66), (5, .int u_5), (4, .int r_1), (0, .ref h0), (1, .ref mn), (2, .int p0), (3, .int p1)] [0, 2, 3, 4, 5, 6, 7] rfl ?_
          refine k_sub [(h0, .inr (7, [.ref xr, .ref xm, v2h0, v3h0, .int xmd, .int xtr])), (xm, .inr (8, [.int 12, .int 3, .ref xmc, .int xmn])), (xmc, .inl (g.2.2.1, 36, .inl xmf)), (mn, .inr (8, [.int 4, .int 3, .ref mnc, .int mnn])), (mnc, .inl (g.2.2.1, 12, .inl mnf)), (xr, .inr (8, [.int 8, .int 3, .ref xrc, .int xrn])), (xrc, .inl (g.2.2.1, 24, .inl xrf))] [0, 5, 6, 1, 2, 3, 4] rfl (by decide) rfl ?_
          exact ih_10 _ (by omega) u_5 z_66 rfl (iv_w iv_68 (by decide) (by decide)) (fun r h => h.elim (fun n_0 q => (KH_0 _ ⟨n_0 + 1, (Or.inr ⟨h_11, ⟨r_16, hr_17, (Or.inr ⟨h_18, ⟨r_22, hr_23, (Or.inr ⟨h_24, (Or.inr ⟨h_56, ⟨z_66, ez_66, q⟩⟩)⟩)⟩⟩)⟩⟩)⟩)))


set_option maxHeartbeats 4000000 in
set_option maxRecDepth 100000 in
theorem n_slipByX (l : Launch) (g : Gx) (h0 : Nat) (p0 : Int32) (nr : Nat) (xsnapped : Int32) (xmostSlip : Int32) (xslip : Int32) (xisDrawn : Int32) (xseed : Int32) (xtick : Int32) (xmotorTick : Int32) (xahead : Int32) : cV l g yX5_slipBy cX5_slipBy 2 0 0 0 0 [.ref h0, .int p0] [(h0, .inr (5, [.ref nr, .int xsnapped, .int xmostSlip, .int xslip, .int xisDrawn, .int xseed, .int xtick, .int xmotorTick, .int xahead]))] (fun w => ∃ (xisDrawn2 : Int32) (xslip2 : Int32), (R_n_slipByX p0 xisDrawn2 xslip2) ∧ w = [(h0, .inr (5, [.ref nr, .int xsnapped, .int xmostSlip, .int xslip2, .int xisDrawn2, .int xseed, .int xtick, .int xmotorTick, .int xahead]))]) := by
  refine cV.of (by decide) (Nat.le_of_ble_eq_true rfl) ?_
  intro p e s m args below meth c A X hr hi
  refine k_lveq [(0, .ref h0), (1, .int p0)] rfl ?_
  refine k_aload_n X dX5_slipBy_0 0 rfl ?_
  refine k_iconst (v := 0) X dX5_slipBy_1 (by decide) ?_
  refine k_put (ci := 5) [(h0, .inr (5, [.ref nr, .int xsnapped, .int xmostSlip, .int xslip, .int 0, .int xseed, .int xtick, .int xmotorTick, .int xahead]))] X inlX5 rfl tyX5_ok nmX5 4 (by decide) rfl dX5_slipBy_2 mw129 0 rfl (by decide) (by decide) (Nat.le_of_ble_eq_true rfl) rfl ?_
  refine k_aload_n X dX5_slipBy_5 0 rfl ?_
  refine k_iload_n X dX5_slipBy_6 1 rfl ?_
  refine k_put (ci := 5) [(h0, .inr (5, [.ref nr, .int xsnapped, .int xmostSlip, .int p0, .int 0, .int xseed, .int xtick, .int xmotorTick, .int xahead]))] X inlX5 rfl tyX5_ok nmX5 3 (by decide) rfl dX5_slipBy_7 mw128 0 rfl rfl rfl (Nat.le_of_ble_eq_true rfl) rfl ?_
  exact k_vret X hr dX5_slipBy_10 (Nat.le_of_ble_eq_true rfl) (Nat.le_of_ble_eq_true rfl) [0] (by decide) rfl rfl ⟨0, p0, ⟨rfl, rfl⟩, rfl⟩


set_option maxHeartbeats 4000000 in
set_option maxRecDepth 100000 in
theorem n_drawX (l : Launch) (g : Gx) (h0 : Nat) (nr : Nat) (xsnapped : Int32) (xmostSlip : Int32) (xslip : Int32) (xisDrawn : Int32) (xseed : Int32) (xtick : Int32) (xmotorTick : Int32) (xahead : Int32) : cI l g yX5_draw cX5_draw 1 (some .int) 0 0 0 0 [.ref h0] [(h0, .inr (5, [.ref nr, .int xsnapped, .int xmostSlip, .int xslip, .int xisDrawn, .int xseed, .int xtick, .int xmotorTick, .int xahead]))] (fun r w => ∃ (xseed2 : Int32), (R_n_drawX xseed xseed2 r) ∧ w = [(h0, .inr (5, [.ref nr, .int xsnapped, .int xmostSlip, .int xslip, .int xisDrawn, .int xseed2, .int xtick, .int xmotorTick, .int xahead]))]) := by
  refine cI.of (by decide) (Nat.le_of_ble_eq_true rfl) ?_
  intro p e s m args below meth c A X hr hi
  refine k_lveq [(0, .ref h0)] rfl ?_
  refine k_aload_n X dX5_draw_0 0 rfl ?_
  refine k_bipush (v := 75) X dX5_draw_1 (by decide) ?_
  refine k_aload_n X dX5_draw_3 0 rfl ?_
  refine k_get (ci := 5) X inlX5 rfl 5 (by decide) dX5_draw_4 mw130 0 rfl rfl ?_
  refine k_imul X dX5_draw_7 ?_
  refine k_nm (fun z_1 ez_1 => ?_)
  refine k_bipush (v := 74) X dX5_draw_8 (by decide) ?_
  refine k_iadd X dX5_draw_10 ?_
  refine k_nm (fun z_3 ez_3 => ?_)
  refine k_ldc (v := 65537) X dX5_draw_11 mw795 ?_
  refine k_irem X dX5_draw_13 (by decide) ?_
  refine k_nm (fun z_5 ez_5 => ?_)
  refine k_put (ci := 5) [(h0, .inr (5, [.ref nr, .int xsnapped, .int xmostSlip, .int xslip, .int xisDrawn, .int z_5, .int xtick, .int xmotorTick, .int xahead]))] X inlX5 rfl tyX5_ok nmX5 5 (by decide) rfl dX5_draw_14 mw130 0 rfl rfl rfl (Nat.le_of_ble_eq_true rfl) rfl ?_
  refine k_aload_n X dX5_draw_17 0 rfl ?_
  refine k_get (ci := 5) X inlX5 rfl 5 (by decide) dX5_draw_18 mw130 0 rfl rfl ?_
  exact k_iret X hr dX5_draw_21 (Nat.le_of_ble_eq_true rfl) (Nat.le_of_ble_eq_true rfl) [0] (by decide) rfl rfl ⟨z_5, ⟨z_1, ez_1, ⟨z_3, ez_3, ⟨z_5, ez_5, ⟨rfl, rfl⟩⟩⟩⟩, rfl⟩


set_option maxHeartbeats 4000000 in
set_option maxRecDepth 100000 in
theorem n_goByX (l : Launch) (g : Gx) (h0 : Nat) (p0 : Int32) (p1 : Int32) (nr : Nat) (xsnapped : Int32) (xmostSlip : Int32) (xslip : Int32) (xisDrawn : Int32) (xseed : Int32) (xtick : Int32) (xmotorTick : Int32) (xahead : Int32) (nrc : Nat) (nrn : Int32) (nrf : Nat → Int32) : cV l g yX5_goBy cX5_goBy 3 1 23 0 0 [.ref h0, .int p0, .int p1] [(h0, .inr (5, [.ref nr, .int xsnapped, .int xmostSlip, .int xslip, .int xisDrawn, .int xseed, .int xtick, .int xmotorTick, .int xahead])), (nr, .inr (8, [.int 8, .int 10, .ref nrc, .int nrn])), (nrc, .inl (g.2.2.1, 80, .inl nrf))] (fun w => ∃ (xmotorTick2 : Int32) (xahead2 : Int32) (nrg : Nat → Int32), (R_n_goByX p0 p1 xtick nrf xmotorTick2 xahead2 nrg) ∧ w = [(h0, .inr (5, [.ref nr, .int xsnapped, .int xmostSlip, .int xslip, .int xisDrawn, .int xseed, .int xtick, .int xmotorTick2, .int xahead2])), (nr, .inr (8, [.int 8, .int 10, .ref nrc, .int nrn])), (nrc, .inl (g.2.2.1, 80, .inl nrg))]) := by
  refine cV.of (by decide) (Nat.le_of_ble_eq_true rfl) ?_
  intro p e s m args below meth c A X hr hi
  refine k_lveq [(0, .ref h0), (1, .int p0), (2, .int p1)] rfl ?_
  refine k_aload_n X dX5_goBy_0 0 rfl ?_
  refine k_get (ci := 5) X inlX5 rfl 0 (by decide) dX5_goBy_1 mw125 0 rfl rfl ?_
  refine k_iload_n X dX5_goBy_4 1 rfl ?_
  refine k_iconst (v := 0) X dX5_goBy_5 (by decide) ?_
  refine k_iload_n X dX5_goBy_6 2 rfl ?_
  refine k_callVV (n := 3) (As := [.int p0, .int 0, .int p1]) (st := []) X [(nr, .inr (8, [.int 8, .int 10, .ref nrc, .int nrn])), (nrc, .inl (g.2.2.1, 80, .inl nrf))] [(h0, .inr (5, [.ref nr, .int xsnapped, .int xmostSlip, .int xslip, .int xisDrawn, .int xseed, .int xtick, .int xmotorTick, .int xahead]))] [1, 2] [0] (t_put l g nr p0 0 p1 8 10 nrc nrn 80 nrf (tbk_8_10)) dX5_goBy_7 mw766 mw326 mw327 mw64 mw328 rfl 8 rfl rfl 0 _ rfl yk_yX8_put_3 rfl (Nat.le_of_ble_eq_true rfl) (Nat.le_of_ble_eq_true rfl) (Nat.le_of_ble_eq_true rfl) (Nat.le_of_ble_eq_true rfl) (Nat.le_of_ble_eq_true rfl) rfl rfl (by decide) rfl (by decide) (by decide) ?_
  rintro w ⟨fa_1, hr_3, rfl⟩
  refine k_ws [(h0, .inr (5, [.ref nr, .int xsnapped, .int xmostSlip, .int xslip, .int xisDrawn, .int xseed, .int xtick, .int xmotorTick, .int xahead])), (nr, .inr (8, [.int 8, .int 10, .ref nrc, .int nrn])), (nrc, .inl (g.2.2.1, 80, .inl fa_1))] rfl ?_
  refine k_aload_n X dX5_goBy_10 0 rfl ?_
  refine k_get (ci := 5) X inlX5 rfl 0 (by decide) dX5_goBy_11 mw125 0 rfl rfl ?_
  refine k_iload_n X dX5_goBy_14 1 rfl ?_
  refine k_iconst (v := 1) X dX5_goBy_15 (by decide) ?_
  refine k_iconst (v := 0) X dX5_goBy_16 (by decide) ?_
  refine k_callVV (n := 3) (As := [.int p0, .int 1, .int 0]) (st := []) X [(nr, .inr (8, [.int 8, .int 10, .ref nrc, .int nrn])), (nrc, .inl (g.2.2.1, 80, .inl fa_1))] [(h0, .inr (5, [.ref nr, .int xsnapped, .int xmostSlip, .int xslip, .int xisDrawn, .int xseed, .int xtick, .int xmotorTick, .int xahead]))] [1, 2] [0] (t_put l g nr p0 1 0 8 10 nrc nrn 80 fa_1 (tbk_8_10)) dX5_goBy_17 mw766 mw326 mw327 mw64 mw328 rfl 8 rfl rfl 0 _ rfl yk_yX8_put_3 rfl (Nat.le_of_ble_eq_true rfl) (Nat.le_of_ble_eq_true rfl) (Nat.le_of_ble_eq_true rfl) (Nat.le_of_ble_eq_true rfl) (Nat.le_of_ble_eq_true rfl) rfl rfl (by decide) rfl (by decide) (by decide) ?_
  rintro w ⟨fa_4, hr_6, rfl⟩
  refine k_ws [(h0, .inr (5, [.ref nr, .int xsnapped, .int xmostSlip, .int xslip, .int xisDrawn, .int xseed, .int xtick, .int xmotorTick, .int xahead])), (nr, .inr (8, [.int 8, .int 10, .ref nrc, .int nrn])), (nrc, .inl (g.2.2.1, 80, .inl fa_4))] rfl ?_
  refine k_aload_n X dX5_goBy_20 0 rfl ?_
  refine k_get (ci := 5) X inlX5 rfl 0 (by decide) dX5_goBy_21 mw125 0 rfl rfl ?_
  refine k_iload_n X dX5_goBy_24 1 rfl ?_
  refine k_iconst (v := 2) X dX5_goBy_25 (by decide) ?_
  refine k_iconst (v := 0) X dX5_goBy_26 (by decide) ?_
  refine k_callVV (n := 3) (As := [.int p0, .int 2, .int 0]) (st := []) X [(nr, .inr (8, [.int 8, .int 10, .ref nrc, .int nrn])), (nrc, .inl (g.2.2.1, 80, .inl fa_4))] [(h0, .inr (5, [.ref nr, .int xsnapped, .int xmostSlip, .int xslip, .int xisDrawn, .int xseed, .int xtick, .int xmotorTick, .int xahead]))] [1, 2] [0] (t_put l g nr p0 2 0 8 10 nrc nrn 80 fa_4 (tbk_8_10)) dX5_goBy_27 mw766 mw326 mw327 mw64 mw328 rfl 8 rfl rfl 0 _ rfl yk_yX8_put_3 rfl (Nat.le_of_ble_eq_true rfl) (Nat.le_of_ble_eq_true rfl) (Nat.le_of_ble_eq_true rfl) (Nat.le_of_ble_eq_true rfl) (Nat.le_of_ble_eq_true rfl) rfl rfl (by decide) rfl (by decide) (by decide) ?_
  rintro w ⟨fa_7, hr_9, rfl⟩
  refine k_ws [(h0, .inr (5, [.ref nr, .int xsnapped, .int xmostSlip, .int xslip, .int xisDrawn, .int xseed, .int xtick, .int xmotorTick, .int xahead])), (nr, .inr (8, [.int 8, .int 10, .ref nrc, .int nrn])), (nrc, .inl (g.2.2.1, 80, .inl fa_7))] rfl ?_
  refine k_aload_n X dX5_goBy_30 0 rfl ?_
  refine k_get (ci := 5) X inlX5 rfl 0 (by decide) dX5_goBy_31 mw125 0 rfl rfl ?_
  refine k_iload_n X dX5_goBy_34 1 rfl ?_
  refine k_iconst (v := 3) X dX5_goBy_35 (by decide) ?_
  refine k_iconst (v := 1) X dX5_goBy_36 (by decide) ?_
  refine k_callVV (n := 3) (As := [.int p0, .int 3, .int 1]) (st := []) X [(nr, .inr (8, [.int 8, .int 10, .ref nrc, .int nrn])), (nrc, .inl (g.2.2.1, 80, .inl fa_7))] [(h0, .inr (5, [.ref nr, .int xsnapped, .int xmostSlip, .int xslip, .int xisDrawn, .int xseed, .int xtick, .int xmotorTick, .int xahead]))] [1, 2] [0] (t_put l g nr p0 3 1 8 10 nrc nrn 80 fa_7 (tbk_8_10)) dX5_goBy_37 mw766 mw326 mw327 mw64 mw328 rfl 8 rfl rfl 0 _ rfl yk_yX8_put_3 rfl (Nat.le_of_ble_eq_true rfl) (Nat.le_of_ble_eq_true rfl) (Nat.le_of_ble_eq_true rfl) (Nat.le_of_ble_eq_true rfl) (Nat.le_of_ble_eq_true rfl) rfl rfl (by decide) rfl (by decide) (by decide) ?_
  rintro w ⟨fa_10, hr_12, rfl⟩
  refine k_ws [(h0, .inr (5, [.ref nr, .int xsnapped, .int xmostSlip, .int xslip, .int xisDrawn, .int xseed, .int xtick, .int xmotorTick, .int xahead])), (nr, .inr (8, [.int 8, .int 10, .ref nrc, .int nrn])), (nrc, .inl (g.2.2.1, 80, .inl fa_10))] rfl ?_
  refine k_aload_n X dX5_goBy_40 0 rfl ?_
  refine k_get (ci := 5) X inlX5 rfl 0 (by decide) dX5_goBy_41 mw125 0 rfl rfl ?_
  refine k_iload_n X dX5_goBy_44 1 rfl ?_
  refine k_iconst (v := 4) X dX5_goBy_45 (by decide) ?_
  refine k_bipush (v := -2) X dX5_goBy_46 (by decide) ?_
  refine k_callVV (n := 3) (As := [.int p0, .int 4, .int (-2)]) (st := []) X [(nr, .inr (8, [.int 8, .int 10, .ref nrc, .int nrn])), (nrc, .inl (g.2.2.1, 80, .inl fa_10))] [(h0, .inr (5, [.ref nr, .int xsnapped, .int xmostSlip, .int xslip, .int xisDrawn, .int xseed, .int xtick, .int xmotorTick, .int xahead]))] [1, 2] [0] (t_put l g nr p0 4 ((-2)) 8 10 nrc nrn 80 fa_10 (tbk_8_10)) dX5_goBy_48 mw766 mw326 mw327 mw64 mw328 rfl 8 rfl rfl 0 _ rfl yk_yX8_put_3 rfl (Nat.le_of_ble_eq_true rfl) (Nat.le_of_ble_eq_true rfl) (Nat.le_of_ble_eq_true rfl) (Nat.le_of_ble_eq_true rfl) (Nat.le_of_ble_eq_true rfl) rfl rfl (by decide) rfl (by decide) (by decide) ?_
  rintro w ⟨fa_13, hr_15, rfl⟩
  refine k_ws [(h0, .inr (5, [.ref nr, .int xsnapped, .int xmostSlip, .int xslip, .int xisDrawn, .int xseed, .int xtick, .int xmotorTick, .int xahead])), (nr, .inr (8, [.int 8, .int 10, .ref nrc, .int nrn])), (nrc, .inl (g.2.2.1, 80, .inl fa_13))] rfl ?_
  refine k_aload_n X dX5_goBy_51 0 rfl ?_
  refine k_get (ci := 5) X inlX5 rfl 0 (by decide) dX5_goBy_52 mw125 0 rfl rfl ?_
  refine k_iload_n X dX5_goBy_55 1 rfl ?_
  refine k_iconst (v := 5) X dX5_goBy_56 (by decide) ?_
  refine k_iconst (v := 0) X dX5_goBy_57 (by decide) ?_
  refine k_callVV (n := 3) (As := [.int p0, .int 5, .int 0]) (st := []) X [(nr, .inr (8, [.int 8, .int 10, .ref nrc, .int nrn])), (nrc, .inl (g.2.2.1, 80, .inl fa_13))] [(h0, .inr (5, [.ref nr, .int xsnapped, .int xmostSlip, .int xslip, .int xisDrawn, .int xseed, .int xtick, .int xmotorTick, .int xahead]))] [1, 2] [0] (t_put l g nr p0 5 0 8 10 nrc nrn 80 fa_13 (tbk_8_10)) dX5_goBy_58 mw766 mw326 mw327 mw64 mw328 rfl 8 rfl rfl 0 _ rfl yk_yX8_put_3 rfl (Nat.le_of_ble_eq_true rfl) (Nat.le_of_ble_eq_true rfl) (Nat.le_of_ble_eq_true rfl) (Nat.le_of_ble_eq_true rfl) (Nat.le_of_ble_eq_true rfl) rfl rfl (by decide) rfl (by decide) (by decide) ?_
  rintro w ⟨fa_16, hr_18, rfl⟩
  refine k_ws [(h0, .inr (5, [.ref nr, .int xsnapped, .int xmostSlip, .int xslip, .int xisDrawn, .int xseed, .int xtick, .int xmotorTick, .int xahead])), (nr, .inr (8, [.int 8, .int 10, .ref nrc, .int nrn])), (nrc, .inl (g.2.2.1, 80, .inl fa_16))] rfl ?_
  refine k_aload_n X dX5_goBy_61 0 rfl ?_
  refine k_get (ci := 5) X inlX5 rfl 0 (by decide) dX5_goBy_62 mw125 0 rfl rfl ?_
  refine k_iload_n X dX5_goBy_65 1 rfl ?_
  refine k_bipush (v := 6) X dX5_goBy_66 (by decide) ?_
  refine k_aload_n X dX5_goBy_68 0 rfl ?_
  refine k_get (ci := 5) X inlX5 rfl 6 (by decide) dX5_goBy_69 mw131 0 rfl rfl ?_
  refine k_callVV (n := 3) (As := [.int p0, .int 6, .int xtick]) (st := []) X [(nr, .inr (8, [.int 8, .int 10, .ref nrc, .int nrn])), (nrc, .inl (g.2.2.1, 80, .inl fa_16))] [(h0, .inr (5, [.ref nr, .int xsnapped, .int xmostSlip, .int xslip, .int xisDrawn, .int xseed, .int xtick, .int xmotorTick, .int xahead]))] [1, 2] [0] (t_put l g nr p0 6 xtick 8 10 nrc nrn 80 fa_16 (tbk_8_10)) dX5_goBy_72 mw766 mw326 mw327 mw64 mw328 rfl 8 rfl rfl 0 _ rfl yk_yX8_put_3 rfl (Nat.le_of_ble_eq_true rfl) (Nat.le_of_ble_eq_true rfl) (Nat.le_of_ble_eq_true rfl) (Nat.le_of_ble_eq_true rfl) (Nat.le_of_ble_eq_true rfl) rfl rfl (by decide) rfl (by decide) (by decide) ?_
  rintro w ⟨fa_19, hr_21, rfl⟩
  refine k_ws [(h0, .inr (5, [.ref nr, .int xsnapped, .int xmostSlip, .int xslip, .int xisDrawn, .int xseed, .int xtick, .int xmotorTick, .int xahead])), (nr, .inr (8, [.int 8, .int 10, .ref nrc, .int nrn])), (nrc, .inl (g.2.2.1, 80, .inl fa_19))] rfl ?_
  refine k_aload_n X dX5_goBy_75 0 rfl ?_
  refine k_get (ci := 5) X inlX5 rfl 0 (by decide) dX5_goBy_76 mw125 0 rfl rfl ?_
  refine k_iload_n X dX5_goBy_79 1 rfl ?_
  refine k_bipush (v := 7) X dX5_goBy_80 (by decide) ?_
  refine k_aload_n X dX5_goBy_82 0 rfl ?_
  refine k_get (ci := 5) X inlX5 rfl 6 (by decide) dX5_goBy_83 mw131 0 rfl rfl ?_
  refine k_callVV (n := 3) (As := [.int p0, .int 7, .int xtick]) (st := []) X [(nr, .inr (8, [.int 8, .int 10, .ref nrc, .int nrn])), (nrc, .inl (g.2.2.1, 80, .inl fa_19))] [(h0, .inr (5, [.ref nr, .int xsnapped, .int xmostSlip, .int xslip, .int xisDrawn, .int xseed, .int xtick, .int xmotorTick, .int xahead]))] [1, 2] [0] (t_put l g nr p0 7 xtick 8 10 nrc nrn 80 fa_19 (tbk_8_10)) dX5_goBy_86 mw766 mw326 mw327 mw64 mw328 rfl 8 rfl rfl 0 _ rfl yk_yX8_put_3 rfl (Nat.le_of_ble_eq_true rfl) (Nat.le_of_ble_eq_true rfl) (Nat.le_of_ble_eq_true rfl) (Nat.le_of_ble_eq_true rfl) (Nat.le_of_ble_eq_true rfl) rfl rfl (by decide) rfl (by decide) (by decide) ?_
  rintro w ⟨fa_22, hr_24, rfl⟩
  refine k_ws [(h0, .inr (5, [.ref nr, .int xsnapped, .int xmostSlip, .int xslip, .int xisDrawn, .int xseed, .int xtick, .int xmotorTick, .int xahead])), (nr, .inr (8, [.int 8, .int 10, .ref nrc, .int nrn])), (nrc, .inl (g.2.2.1, 80, .inl fa_22))] rfl ?_
  refine k_aload_n X dX5_goBy_89 0 rfl ?_
  refine k_aload_n X dX5_goBy_90 0 rfl ?_
  refine k_get (ci := 5) X inlX5 rfl 6 (by decide) dX5_goBy_91 mw131 0 rfl rfl ?_
  refine k_put (ci := 5) [(h0, .inr (5, [.ref nr, .int xsnapped, .int xmostSlip, .int xslip, .int xisDrawn, .int xseed, .int xtick, .int xtick, .int xahead])), (nr, .inr (8, [.int 8, .int 10, .ref nrc, .int nrn])), (nrc, .inl (g.2.2.1, 80, .inl fa_22))] X inlX5 rfl tyX5_ok nmX5 7 (by decide) rfl dX5_goBy_94 mw132 0 rfl rfl rfl (Nat.le_of_ble_eq_true rfl) rfl ?_
  refine k_aload_n X dX5_goBy_97 0 rfl ?_
  refine k_iconst (v := 0) X dX5_goBy_98 (by decide) ?_
  refine k_put (ci := 5) [(h0, .inr (5, [.ref nr, .int xsnapped, .int xmostSlip, .int xslip, .int xisDrawn, .int xseed, .int xtick, .int xtick, .int 0])), (nr, .inr (8, [.int 8, .int 10, .ref nrc, .int nrn])), (nrc, .inl (g.2.2.1, 80, .inl fa_22))] X inlX5 rfl tyX5_ok nmX5 8 (by decide) rfl dX5_goBy_99 mw133 0 rfl rfl rfl (Nat.le_of_ble_eq_true rfl) rfl ?_
  exact k_vret X hr dX5_goBy_102 (Nat.le_of_ble_eq_true rfl) (Nat.le_of_ble_eq_true rfl) [0, 1, 2] (by decide) rfl rfl ⟨xtick, 0, fa_22, ⟨fa_1, hr_3, ⟨fa_4, hr_6, ⟨fa_7, hr_9, ⟨fa_10, hr_12, ⟨fa_13, hr_15, ⟨fa_16, hr_18, ⟨fa_19, hr_21, ⟨fa_22, hr_24, ⟨rfl, rfl, rfl⟩⟩⟩⟩⟩⟩⟩⟩⟩, rfl⟩


set_option maxHeartbeats 4000000 in
set_option maxRecDepth 100000 in
theorem n_slipNowX (l : Launch) (g : Gx) (h0 : Nat) (nr : Nat) (xsnapped : Int32) (xmostSlip : Int32) (xslip : Int32) (xisDrawn : Int32) (xseed : Int32) (xtick : Int32) (xmotorTick : Int32) (xahead : Int32) (hr_0 : ¬ xmostSlip < 0) : cI l g yX5_slipNow cX5_slipNow 1 (some .int) 1 20 0 0 [.ref h0] [(h0, .inr (5, [.ref nr, .int xsnapped, .int xmostSlip, .int xslip, .int xisDrawn, .int xseed, .int xtick, .int xmotorTick, .int xahead]))] (fun r w => ∃ (xseed2 : Int32), (R_n_slipNowX xmostSlip xslip xisDrawn xseed xseed2 r) ∧ w = [(h0, .inr (5, [.ref nr, .int xsnapped, .int xmostSlip, .int xslip, .int xisDrawn, .int xseed2, .int xtick, .int xmotorTick, .int xahead]))]) := by
  refine cI.of (by decide) (Nat.le_of_ble_eq_true rfl) ?_
  intro p e s m args below meth c A X hr hi
  refine k_lveq [(0, .ref h0)] rfl ?_
  refine k_aload_n X dX5_slipNow_0 0 rfl ?_
  refine k_get (ci := 5) X inlX5 rfl 4 (by decide) dX5_slipNow_1 mw129 0 rfl rfl ?_
  refine k_if_eq 21 X dX5_slipNow_4 (by decide) (fun h_1 => ?_) (fun h_1 => ?_)
  · skip
    have iv_2 : IV xisDrawn 0 0 := iv_meet (iv_any xisDrawn) (iv_e h_1 (show IV 0 0 0 from (by decide))) (by decide) (by decide)
    refine k_aload_n X dX5_slipNow_21 0 rfl ?_
    refine k_get (ci := 5) X inlX5 rfl 3 (by decide) dX5_slipNow_22 mw128 0 rfl rfl ?_
    exact k_iret X hr dX5_slipNow_25 (Nat.le_of_ble_eq_true rfl) (Nat.le_of_ble_eq_true rfl) [0] (by decide) rfl rfl ⟨xseed, (Or.inl ⟨h_1, ⟨rfl, rfl⟩⟩), rfl⟩
  · skip
    refine k_aload_n X dX5_slipNow_7 0 rfl ?_
    refine k_callVI (n := 0) (As := []) (st := []) X [(h0, .inr (5, [.ref nr, .int xsnapped, .int xmostSlip, .int xslip, .int xisDrawn, .int xseed, .int xtick, .int xmotorTick, .int xahead]))] [] [0] [] (n_drawX l g h0 nr xsnapped xmostSlip xslip xisDrawn xseed xtick xmotorTick xahead) dX5_slipNow_8 mw791 mw792 mw793 mw31 mw794 rfl 5 rfl rfl 0 _ rfl yk_yX5_draw_0 rfl (Nat.le_of_ble_eq_true rfl) (Nat.le_of_ble_eq_true rfl) (Nat.le_of_ble_eq_true rfl) (Nat.le_of_ble_eq_true rfl) (Nat.le_of_ble_eq_true rfl) rfl rfl (by decide) rfl (by decide) (by decide) ?_
    rintro r_4 w ⟨xseed2_3, hq_5, rfl⟩
    refine k_ws [(h0, .inr (5, [.ref nr, .int xsnapped, .int xmostSlip, .int xslip, .int xisDrawn, .int xseed2_3, .int xtick, .int xmotorTick, .int xahead]))] rfl ?_
    refine k_aload_n X dX5_slipNow_11 0 rfl ?_
    refine k_get (ci := 5) X inlX5 rfl 2 (by decide) dX5_slipNow_12 mw127 0 rfl rfl ?_
    refine k_iconst (v := 1) X dX5_slipNow_15 (by decide) ?_
    refine k_iadd X dX5_slipNow_16 ?_
    refine k_nm (fun z_6 ez_6 => ?_)
    refine k_irem X dX5_slipNow_17 (nz_ms hr_0 (by assumption)) ?_
    refine k_nm (fun z_8 ez_8 => ?_)
    refine k_goto 25 X dX5_slipNow_18 (by decide) ?_
    exact k_iret X hr dX5_slipNow_25 (Nat.le_of_ble_eq_true rfl) (Nat.le_of_ble_eq_true rfl) [0] (by decide) rfl rfl ⟨xseed2_3, (Or.inr ⟨h_1, ⟨xseed2_3, r_4, hq_5, ⟨z_6, ez_6, ⟨z_8, ez_8, ⟨rfl, rfl⟩⟩⟩⟩⟩), rfl⟩


set_option maxHeartbeats 4000000 in
set_option maxRecDepth 100000 in
theorem n_showReelX (l : Launch) (g : Gx) (h0 : Nat) (hh : Nat) (hs : Nat) (p0 : Int32) (p1 : Int32) (nr : Nat) (xsnapped : Int32) (xmostSlip : Int32) (xslip : Int32) (xisDrawn : Int32) (xseed : Int32) (xtick : Int32) (xmotorTick : Int32) (xahead : Int32) (nrc : Nat) (nrn : Int32) (nrf : Nat → Int32) (v0hh : Value) (yhn : Nat) (v2hh : Value) (v3hh : Value) (v4hh : Value) (v5hh : Value) (v6hh : Value) (v7hh : Value) (yhnc : Nat) (yhnn : Int32) (yhnf : Nat → Int32) (v0hs : Value) (v1hs : Value) (v2hs : Value) (zp : Nat) (zmd : Int32) (ztr : Int32) (zpc : Nat) (zpn : Int32) (zpf : Nat → Int32) (hr_0 : ¬ xmostSlip < 0) : cV l g yX5_showReel cX5_showReel 11 2 43 0 0 [.ref h0, .ref hh, .ref hs, .int p0, .int p1] [(h0, .inr (5, [.ref nr, .int xsnapped, .int xmostSlip, .int xslip, .int xisDrawn, .int xseed, .int xtick, .int xmotorTick, .int xahead])), (nr, .inr (8, [.int 8, .int 10, .ref nrc, .int nrn])), (nrc, .inl (g.2.2.1, 80, .inl nrf)), (hh, .inr (3, [v0hh, .ref yhn, v2hh, v3hh, v4hh, v5hh, v6hh, v7hh])), (yhn, .inr (8, [.int 1, .int 6, .ref yhnc, .int yhnn])), (yhnc, .inl (g.2.2.1, 6, .inl yhnf)), (hs, .inr (7, [v0hs, v1hs, v2hs, .ref zp, .int zmd, .int ztr])), (zp, .inr (8, [.int 8, .int 2, .ref zpc, .int zpn])), (zpc, .inl (g.2.2.1, 16, .inl zpf))] (fun w => ∃ (xseed2 : Int32) (xtick2 : Int32) (xmotorTick2 : Int32) (xahead2 : Int32) (nrg : Nat → Int32), (R_n_showReelX p0 p1 xmostSlip xslip xisDrawn xseed xtick xmotorTick xahead nrn nrf yhnf zpf xseed2 xtick2 xmotorTick2 xahead2 nrg) ∧ w = [(h0, .inr (5, [.ref nr, .int xsnapped, .int xmostSlip, .int xslip, .int xisDrawn, .int xseed2, .int xtick2, .int xmotorTick2, .int xahead2])), (nr, .inr (8, [.int 8, .int 10, .ref nrc, .int nrn])), (nrc, .inl (g.2.2.1, 80, .inl nrg)), (hh, .inr (3, [v0hh, .ref yhn, v2hh, v3hh, v4hh, v5hh, v6hh, v7hh])), (yhn, .inr (8, [.int 1, .int 6, .ref yhnc, .int yhnn])), (yhnc, .inl (g.2.2.1, 6, .inl yhnf)), (hs, .inr (7, [v0hs, v1hs, v2hs, .ref zp, .int zmd, .int ztr])), (zp, .inr (8, [.int 8, .int 2, .ref zpc, .int zpn])), (zpc, .inl (g.2.2.1, 16, .inl zpf))]) := by
  refine cV.of (by decide) (Nat.le_of_ble_eq_true rfl) ?_
  intro p e s m args below meth c A X hr hi
  refine k_lveq [(0, .ref h0), (1, .ref hh), (2, .ref hs), (3, .int p0), (4, .int p1)] rfl ?_
  refine k_aload_n X dX5_showReel_0 0 rfl ?_
  refine k_get (ci := 5) X inlX5 rfl 8 (by decide) dX5_showReel_1 mw133 0 rfl rfl ?_
  refine k_iconst (v := 0) X dX5_showReel_4 (by decide) ?_
  refine k_mmax X dX5_showReel_5 mw756 mw102 mw103 mw104 (Nat.le_of_ble_eq_true rfl) (Nat.le_of_ble_eq_true rfl) (Nat.zero_le _) (Nat.zero_le _) ?_
  refine k_nm (fun z_1 ez_1 => ?_)
  refine k_istore [(5, .int z_1), (0, .ref h0), (1, .ref hh), (2, .ref hs), (3, .int p0), (4, .int p1)] X dX5_showReel_8 (by decide) rfl ?_
  refine k_aload_n X dX5_showReel_10 1 rfl ?_
  refine k_get (ci := 5) X inlX5 rfl 8 (by decide) dX5_showReel_11 mw133 0 rfl rfl ?_
  refine k_ineg X dX5_showReel_14 ?_
  refine k_nm (fun z_2 ez_2 => ?_)
  refine k_iconst (v := 0) X dX5_showReel_15 (by decide) ?_
  refine k_mmax X dX5_showReel_16 mw756 mw102 mw103 mw104 (Nat.le_of_ble_eq_true rfl) (Nat.le_of_ble_eq_true rfl) (Nat.zero_le _) (Nat.zero_le _) ?_
  refine k_nm (fun z_3 ez_3 => ?_)
  refine k_istore [(6, .int z_3), (5, .int z_1), (0, .ref h0), (1, .ref hh), (2, .ref hs), (3, .int p0), (4, .int p1)] X dX5_showReel_19 (by decide) rfl ?_
  refine k_aload_n X dX5_showReel_21 2 rfl ?_
  refine k_get (ci := 5) X inlX5 rfl 6 (by decide) dX5_showReel_22 mw131 0 rfl rfl ?_
  refine k_iload X dX5_showReel_25 0 rfl ?_
  refine k_iadd X dX5_showReel_27 ?_
  refine k_nm (fun z_4 ez_4 => ?_)
  refine k_istore [(7, .int z_4), (6, .int z_3), (5, .int z_1), (0, .ref h0), (1, .ref hh), (2, .ref hs), (3, .int p0), (4, .int p1)] X dX5_showReel_28 (by decide) rfl ?_
  refine k_bipush (v := -2) X dX5_showReel_30 (by decide) ?_
  refine k_istore [(8, .int (-2)), (7, .int z_4), (6, .int z_3), (5, .int z_1), (0, .ref h0), (1, .ref hh), (2, .ref hs), (3, .int p0), (4, .int p1)] X dX5_showReel_32 (by decide) rfl ?_
  refine k_iload X dX5_showReel_34 8 rfl ?_
  refine k_istore [(9, .int p1), (8, .int (-2)), (7, .int z_4), (6, .int z_3), (5, .int z_1), (0, .ref h0), (1, .ref hh), (2, .ref hs), (3, .int p0), (4, .int p1)] X dX5_showReel_36 (by decide) rfl ?_
  refine k_iload_n X dX5_showReel_38 8 rfl ?_
  refine k_aload_n X dX5_showReel_39 5 rfl ?_
  refine k_get (ci := 5) X inlX5 rfl 0 (by decide) dX5_showReel_40 mw125 0 rfl rfl ?_
  refine k_get (ci := 8) X inlX8 rfl 3 (by decide) dX5_showReel_43 mw754 1 rfl rfl ?_
  refine k_iconst (v := 1) X dX5_showReel_46 (by decide) ?_
  refine k_isub X dX5_showReel_47 ?_
  refine k_nm (fun z_6 ez_6 => ?_)
  refine k_ic_ge 138 X dX5_showReel_48 (by decide) (fun h_8 => ?_) (fun h_8 => ?_)
  · skip
    have j_9 : z_6.toInt ≤ p0.toInt := iv_le h_8
    refine k_aload_n X dX5_showReel_138 5 rfl ?_
    refine k_iload X dX5_showReel_139 2 rfl ?_
    refine k_iload X dX5_showReel_141 0 rfl ?_
    refine k_iadd X dX5_showReel_143 ?_
    refine k_nm (fun z_10 ez_10 => ?_)
    refine k_iload X dX5_showReel_144 4 rfl ?_
    refine k_isub X dX5_showReel_146 ?_
    refine k_nm (fun z_12 ez_12 => ?_)
    refine k_put (ci := 5) [(h0, .inr (5, [.ref nr, .int xsnapped, .int xmostSlip, .int xslip, .int xisDrawn, .int xseed, .int z_12, .int xmotorTick, .int xahead])), (nr, .inr (8, [.int 8, .int 10, .ref nrc, .int nrn])), (nrc, .inl (g.2.2.1, 80, .inl nrf)), (hh, .inr (3, [v0hh, .ref yhn, v2hh, v3hh, v4hh, v5hh, v6hh, v7hh])), (yhn, .inr (8, [.int 1, .int 6, .ref yhnc, .int yhnn])), (yhnc, .inl (g.2.2.1, 6, .inl yhnf)), (hs, .inr (7, [v0hs, v1hs, v2hs, .ref zp, .int zmd, .int ztr])), (zp, .inr (8, [.int 8, .int 2, .ref zpc, .int zpn])), (zpc, .inl (g.2.2.1, 16, .inl zpf))] X inlX5 rfl tyX5_ok nmX5 6 (by decide) rfl dX5_showReel_147 mw131 0 rfl rfl rfl (Nat.le_of_ble_eq_true rfl) rfl ?_
    refine k_aload_n X dX5_showReel_150 5 rfl ?_
    refine k_get (ci := 5) X inlX5 rfl 0 (by decide) dX5_showReel_151 mw125 0 rfl rfl ?_
    refine k_iload_n X dX5_showReel_154 8 rfl ?_
    refine k_iconst (v := 0) X dX5_showReel_155 (by decide) ?_
    refine k_iload X dX5_showReel_156 4 rfl ?_
    refine k_callVV (n := 3) (As := [.int p0, .int 0, .int z_1]) (st := []) X [(nr, .inr (8, [.int 8, .int 10, .ref nrc, .int nrn])), (nrc, .inl (g.2.2.1, 80, .inl nrf))] [(h0, .inr (5, [.ref nr, .int xsnapped, .int xmostSlip, .int xslip, .int xisDrawn, .int xseed, .int z_12, .int xmotorTick, .int xahead])), (hh, .inr (3, [v0hh, .ref yhn, v2hh, v3hh, v4hh, v5hh, v6hh, v7hh])), (yhn, .inr (8, [.int 1, .int 6, .ref yhnc, .int yhnn])), (yhnc, .inl (g.2.2.1, 6, .inl yhnf)), (hs, .inr (7, [v0hs, v1hs, v2hs, .ref zp, .int zmd, .int ztr])), (zp, .inr (8, [.int 8, .int 2, .ref zpc, .int zpn])), (zpc, .inl (g.2.2.1, 16, .inl zpf))] [1, 2] [0, 3, 4, 5, 6, 7, 8] (t_put l g nr p0 0 z_1 8 10 nrc nrn 80 nrf (tbk_8_10)) dX5_showReel_158 mw766 mw326 mw327 mw64 mw328 rfl 8 rfl rfl 0 _ rfl yk_yX8_put_3 rfl (Nat.le_of_ble_eq_true rfl) (Nat.le_of_ble_eq_true rfl) (Nat.le_of_ble_eq_true rfl) (Nat.le_of_ble_eq_true rfl) (Nat.le_of_ble_eq_true rfl) rfl rfl (by decide) rfl (by decide) (by decide) ?_
    rintro w ⟨fa_14, hr_16, rfl⟩
    refine k_ws [(h0, .inr (5, [.ref nr, .int xsnapped, .int xmostSlip, .int xslip, .int xisDrawn, .int xseed, .int z_12, .int xmotorTick, .int xahead])), (hh, .inr (3, [v0hh, .ref yhn, v2hh, v3hh, v4hh, v5hh, v6hh, v7hh])), (yhn, .inr (8, [.int 1, .int 6, .ref yhnc, .int yhnn])), (yhnc, .inl (g.2.2.1, 6, .inl yhnf)), (hs, .inr (7, [v0hs, v1hs, v2hs, .ref zp, .int zmd, .int ztr])), (zp, .inr (8, [.int 8, .int 2, .ref zpc, .int zpn])), (zpc, .inl (g.2.2.1, 16, .inl zpf)), (nr, .inr (8, [.int 8, .int 10, .ref nrc, .int nrn])), (nrc, .inl (g.2.2.1, 80, .inl fa_14))] rfl ?_
    refine k_aload_n X dX5_showReel_161 5 rfl ?_
    refine k_get (ci := 5) X inlX5 rfl 0 (by decide) dX5_showReel_162 mw125 0 rfl rfl ?_
    refine k_iload_n X dX5_showReel_165 8 rfl ?_
    refine k_iconst (v := 1) X dX5_showReel_166 (by decide) ?_
    refine k_iload X dX5_showReel_167 3 rfl ?_
    refine k_callVV (n := 3) (As := [.int p0, .int 1, .int z_3]) (st := []) X [(nr, .inr (8, [.int 8, .int 10, .ref nrc, .int nrn])), (nrc, .inl (g.2.2.1, 80, .inl fa_14))] [(h0, .inr (5, [.ref nr, .int xsnapped, .int xmostSlip, .int xslip, .int xisDrawn, .int xseed, .int z_12, .int xmotorTick, .int xahead])), (hh, .inr (3, [v0hh, .ref yhn, v2hh, v3hh, v4hh, v5hh, v6hh, v7hh])), (yhn, .inr (8, [.int 1, .int 6, .ref yhnc, .int yhnn])), (yhnc, .inl (g.2.2.1, 6, .inl yhnf)), (hs, .inr (7, [v0hs, v1hs, v2hs, .ref zp, .int zmd, .int ztr])), (zp, .inr (8, [.int 8, .int 2, .ref zpc, .int zpn])), (zpc, .inl (g.2.2.1, 16, .inl zpf))] [7, 8] [0, 1, 2, 3, 4, 5, 6] (t_put l g nr p0 1 z_3 8 10 nrc nrn 80 fa_14 (tbk_8_10)) dX5_showReel_169 mw766 mw326 mw327 mw64 mw328 rfl 8 rfl rfl 0 _ rfl yk_yX8_put_3 rfl (Nat.le_of_ble_eq_true rfl) (Nat.le_of_ble_eq_true rfl) (Nat.le_of_ble_eq_true rfl) (Nat.le_of_ble_eq_true rfl) (Nat.le_of_ble_eq_true rfl) rfl rfl (by decide) rfl (by decide) (by decide) ?_
    rintro w ⟨fa_17, hr_19, rfl⟩
    refine k_ws [(h0, .inr (5, [.ref nr, .int xsnapped, .int xmostSlip, .int xslip, .int xisDrawn, .int xseed, .int z_12, .int xmotorTick, .int xahead])), (hh, .inr (3, [v0hh, .ref yhn, v2hh, v3hh, v4hh, v5hh, v6hh, v7hh])), (yhn, .inr (8, [.int 1, .int 6, .ref yhnc, .int yhnn])), (yhnc, .inl (g.2.2.1, 6, .inl yhnf)), (hs, .inr (7, [v0hs, v1hs, v2hs, .ref zp, .int zmd, .int ztr])), (zp, .inr (8, [.int 8, .int 2, .ref zpc, .int zpn])), (zpc, .inl (g.2.2.1, 16, .inl zpf)), (nr, .inr (8, [.int 8, .int 10, .ref nrc, .int nrn])), (nrc, .inl (g.2.2.1, 80, .inl fa_17))] rfl ?_
    refine k_aload_n X dX5_showReel_172 5 rfl ?_
    refine k_get (ci := 5) X inlX5 rfl 0 (by decide) dX5_showReel_173 mw125 0 rfl rfl ?_
    refine k_iload_n X dX5_showReel_176 8 rfl ?_
    refine k_iconst (v := 2) X dX5_showReel_177 (by decide) ?_
    refine k_iload X dX5_showReel_178 9 rfl ?_
    refine k_iload X dX5_showReel_180 0 rfl ?_
    refine k_isub X dX5_showReel_182 ?_
    refine k_nm (fun z_20 ez_20 => ?_)
    refine k_callVV (n := 3) (As := [.int p0, .int 2, .int z_20]) (st := []) X [(nr, .inr (8, [.int 8, .int 10, .ref nrc, .int nrn])), (nrc, .inl (g.2.2.1, 80, .inl fa_17))] [(h0, .inr (5, [.ref nr, .int xsnapped, .int xmostSlip, .int xslip, .int xisDrawn, .int xseed, .int z_12, .int xmotorTick, .int xahead])), (hh, .inr (3, [v0hh, .ref yhn, v2hh, v3hh, v4hh, v5hh, v6hh, v7hh])), (yhn, .inr (8, [.int 1, .int 6, .ref yhnc, .int yhnn])), (yhnc, .inl (g.2.2.1, 6, .inl yhnf)), (hs, .inr (7, [v0hs, v1hs, v2hs, .ref zp, .int zmd, .int ztr])), (zp, .inr (8, [.int 8, .int 2, .ref zpc, .int zpn])), (zpc, .inl (g.2.2.1, 16, .inl zpf))] [7, 8] [0, 1, 2, 3, 4, 5, 6] (t_put l g nr p0 2 z_20 8 10 nrc nrn 80 fa_17 (tbk_8_10)) dX5_showReel_183 mw766 mw326 mw327 mw64 mw328 rfl 8 rfl rfl 0 _ rfl yk_yX8_put_3 rfl (Nat.le_of_ble_eq_true rfl) (Nat.le_of_ble_eq_true rfl) (Nat.le_of_ble_eq_true rfl) (Nat.le_of_ble_eq_true rfl) (Nat.le_of_ble_eq_true rfl) rfl rfl (by decide) rfl (by decide) (by decide) ?_
    rintro w ⟨fa_22, hr_24, rfl⟩
    refine k_ws [(h0, .inr (5, [.ref nr, .int xsnapped, .int xmostSlip, .int xslip, .int xisDrawn, .int xseed, .int z_12, .int xmotorTick, .int xahead])), (hh, .inr (3, [v0hh, .ref yhn, v2hh, v3hh, v4hh, v5hh, v6hh, v7hh])), (yhn, .inr (8, [.int 1, .int 6, .ref yhnc, .int yhnn])), (yhnc, .inl (g.2.2.1, 6, .inl yhnf)), (hs, .inr (7, [v0hs, v1hs, v2hs, .ref zp, .int zmd, .int ztr])), (zp, .inr (8, [.int 8, .int 2, .ref zpc, .int zpn])), (zpc, .inl (g.2.2.1, 16, .inl zpf)), (nr, .inr (8, [.int 8, .int 10, .ref nrc, .int nrn])), (nrc, .inl (g.2.2.1, 80, .inl fa_22))] rfl ?_
    refine k_aload_n X dX5_showReel_186 5 rfl ?_
    refine k_get (ci := 5) X inlX5 rfl 0 (by decide) dX5_showReel_187 mw125 0 rfl rfl ?_
    refine k_iload_n X dX5_showReel_190 8 rfl ?_
    refine k_iconst (v := 3) X dX5_showReel_191 (by decide) ?_
    refine k_iconst (v := 0) X dX5_showReel_192 (by decide) ?_
    refine k_callVV (n := 3) (As := [.int p0, .int 3, .int 0]) (st := []) X [(nr, .inr (8, [.int 8, .int 10, .ref nrc, .int nrn])), (nrc, .inl (g.2.2.1, 80, .inl fa_22))] [(h0, .inr (5, [.ref nr, .int xsnapped, .int xmostSlip, .int xslip, .int xisDrawn, .int xseed, .int z_12, .int xmotorTick, .int xahead])), (hh, .inr (3, [v0hh, .ref yhn, v2hh, v3hh, v4hh, v5hh, v6hh, v7hh])), (yhn, .inr (8, [.int 1, .int 6, .ref yhnc, .int yhnn])), (yhnc, .inl (g.2.2.1, 6, .inl yhnf)), (hs, .inr (7, [v0hs, v1hs, v2hs, .ref zp, .int zmd, .int ztr])), (zp, .inr (8, [.int 8, .int 2, .ref zpc, .int zpn])), (zpc, .inl (g.2.2.1, 16, .inl zpf))] [7, 8] [0, 1, 2, 3, 4, 5, 6] (t_put l g nr p0 3 0 8 10 nrc nrn 80 fa_22 (tbk_8_10)) dX5_showReel_193 mw766 mw326 mw327 mw64 mw328 rfl 8 rfl rfl 0 _ rfl yk_yX8_put_3 rfl (Nat.le_of_ble_eq_true rfl) (Nat.le_of_ble_eq_true rfl) (Nat.le_of_ble_eq_true rfl) (Nat.le_of_ble_eq_true rfl) (Nat.le_of_ble_eq_true rfl) rfl rfl (by decide) rfl (by decide) (by decide) ?_
    rintro w ⟨fa_25, hr_27, rfl⟩
    refine k_ws [(h0, .inr (5, [.ref nr, .int xsnapped, .int xmostSlip, .int xslip, .int xisDrawn, .int xseed, .int z_12, .int xmotorTick, .int xahead])), (hh, .inr (3, [v0hh, .ref yhn, v2hh, v3hh, v4hh, v5hh, v6hh, v7hh])), (yhn, .inr (8, [.int 1, .int 6, .ref yhnc, .int yhnn])), (yhnc, .inl (g.2.2.1, 6, .inl yhnf)), (hs, .inr (7, [v0hs, v1hs, v2hs, .ref zp, .int zmd, .int ztr])), (zp, .inr (8, [.int 8, .int 2, .ref zpc, .int zpn])), (zpc, .inl (g.2.2.1, 16, .inl zpf)), (nr, .inr (8, [.int 8, .int 10, .ref nrc, .int nrn])), (nrc, .inl (g.2.2.1, 80, .inl fa_25))] rfl ?_
    refine k_aload_n X dX5_showReel_196 5 rfl ?_
    refine k_get (ci := 5) X inlX5 rfl 0 (by decide) dX5_showReel_197 mw125 0 rfl rfl ?_
    refine k_iload_n X dX5_showReel_200 8 rfl ?_
    refine k_iconst (v := 4) X dX5_showReel_201 (by decide) ?_
    refine k_iload X dX5_showReel_202 1 rfl ?_
    refine k_callVV (n := 3) (As := [.int p0, .int 4, .int (-2)]) (st := []) X [(nr, .inr (8, [.int 8, .int 10, .ref nrc, .int nrn])), (nrc, .inl (g.2.2.1, 80, .inl fa_25))] [(h0, .inr (5, [.ref nr, .int xsnapped, .int xmostSlip, .int xslip, .int xisDrawn, .int xseed, .int z_12, .int xmotorTick, .int xahead])), (hh, .inr (3, [v0hh, .ref yhn, v2hh, v3hh, v4hh, v5hh, v6hh, v7hh])), (yhn, .inr (8, [.int 1, .int 6, .ref yhnc, .int yhnn])), (yhnc, .inl (g.2.2.1, 6, .inl yhnf)), (hs, .inr (7, [v0hs, v1hs, v2hs, .ref zp, .int zmd, .int ztr])), (zp, .inr (8, [.int 8, .int 2, .ref zpc, .int zpn])), (zpc, .inl (g.2.2.1, 16, .inl zpf))] [7, 8] [0, 1, 2, 3, 4, 5, 6] (t_put l g nr p0 4 ((-2)) 8 10 nrc nrn 80 fa_25 (tbk_8_10)) dX5_showReel_204 mw766 mw326 mw327 mw64 mw328 rfl 8 rfl rfl 0 _ rfl yk_yX8_put_3 rfl (Nat.le_of_ble_eq_true rfl) (Nat.le_of_ble_eq_true rfl) (Nat.le_of_ble_eq_true rfl) (Nat.le_of_ble_eq_true rfl) (Nat.le_of_ble_eq_true rfl) rfl rfl (by decide) rfl (by decide) (by decide) ?_
    rintro w ⟨fa_28, hr_30, rfl⟩
    refine k_ws [(h0, .inr (5, [.ref nr, .int xsnapped, .int xmostSlip, .int xslip, .int xisDrawn, .int xseed, .int z_12, .int xmotorTick, .int xahead])), (hh, .inr (3, [v0hh, .ref yhn, v2hh, v3hh, v4hh, v5hh, v6hh, v7hh])), (yhn, .inr (8, [.int 1, .int 6, .ref yhnc, .int yhnn])), (yhnc, .inl (g.2.2.1, 6, .inl yhnf)), (hs, .inr (7, [v0hs, v1hs, v2hs, .ref zp, .int zmd, .int ztr])), (zp, .inr (8, [.int 8, .int 2, .ref zpc, .int zpn])), (zpc, .inl (g.2.2.1, 16, .inl zpf)), (nr, .inr (8, [.int 8, .int 10, .ref nrc, .int nrn])), (nrc, .inl (g.2.2.1, 80, .inl fa_28))] rfl ?_
    refine k_aload_n X dX5_showReel_207 5 rfl ?_
    refine k_get (ci := 5) X inlX5 rfl 0 (by decide) dX5_showReel_208 mw125 0 rfl rfl ?_
    refine k_iload_n X dX5_showReel_211 8 rfl ?_
    refine k_iconst (v := 5) X dX5_showReel_212 (by decide) ?_
    refine k_iload X dX5_showReel_213 0 rfl ?_
    refine k_callVV (n := 3) (As := [.int p0, .int 5, .int p1]) (st := []) X [(nr, .inr (8, [.int 8, .int 10, .ref nrc, .int nrn])), (nrc, .inl (g.2.2.1, 80, .inl fa_28))] [(h0, .inr (5, [.ref nr, .int xsnapped, .int xmostSlip, .int xslip, .int xisDrawn, .int xseed, .int z_12, .int xmotorTick, .int xahead])), (hh, .inr (3, [v0hh, .ref yhn, v2hh, v3hh, v4hh, v5hh, v6hh, v7hh])), (yhn, .inr (8, [.int 1, .int 6, .ref yhnc, .int yhnn])), (yhnc, .inl (g.2.2.1, 6, .inl yhnf)), (hs, .inr (7, [v0hs, v1hs, v2hs, .ref zp, .int zmd, .int ztr])), (zp, .inr (8, [.int 8, .int 2, .ref zpc, .int zpn])), (zpc, .inl (g.2.2.1, 16, .inl zpf))] [7, 8] [0, 1, 2, 3, 4, 5, 6] (t_put l g nr p0 5 p1 8 10 nrc nrn 80 fa_28 (tbk_8_10)) dX5_showReel_215 mw766 mw326 mw327 mw64 mw328 rfl 8 rfl rfl 0 _ rfl yk_yX8_put_3 rfl (Nat.le_of_ble_eq_true rfl) (Nat.le_of_ble_eq_true rfl) (Nat.le_of_ble_eq_true rfl) (Nat.le_of_ble_eq_true rfl) (Nat.le_of_ble_eq_true rfl) rfl rfl (by decide) rfl (by decide) (by decide) ?_
    rintro w ⟨fa_31, hr_33, rfl⟩
    refine k_ws [(h0, .inr (5, [.ref nr, .int xsnapped, .int xmostSlip, .int xslip, .int xisDrawn, .int xseed, .int z_12, .int xmotorTick, .int xahead])), (hh, .inr (3, [v0hh, .ref yhn, v2hh, v3hh, v4hh, v5hh, v6hh, v7hh])), (yhn, .inr (8, [.int 1, .int 6, .ref yhnc, .int yhnn])), (yhnc, .inl (g.2.2.1, 6, .inl yhnf)), (hs, .inr (7, [v0hs, v1hs, v2hs, .ref zp, .int zmd, .int ztr])), (zp, .inr (8, [.int 8, .int 2, .ref zpc, .int zpn])), (zpc, .inl (g.2.2.1, 16, .inl zpf)), (nr, .inr (8, [.int 8, .int 10, .ref nrc, .int nrn])), (nrc, .inl (g.2.2.1, 80, .inl fa_31))] rfl ?_
    refine k_aload_n X dX5_showReel_218 5 rfl ?_
    refine k_get (ci := 5) X inlX5 rfl 0 (by decide) dX5_showReel_219 mw125 0 rfl rfl ?_
    refine k_iload_n X dX5_showReel_222 8 rfl ?_
    refine k_bipush (v := 6) X dX5_showReel_223 (by decide) ?_
    refine k_iload X dX5_showReel_225 2 rfl ?_
    refine k_callVV (n := 3) (As := [.int p0, .int 6, .int z_4]) (st := []) X [(nr, .inr (8, [.int 8, .int 10, .ref nrc, .int nrn])), (nrc, .inl (g.2.2.1, 80, .inl fa_31))] [(h0, .inr (5, [.ref nr, .int xsnapped, .int xmostSlip, .int xslip, .int xisDrawn, .int xseed, .int z_12, .int xmotorTick, .int xahead])), (hh, .inr (3, [v0hh, .ref yhn, v2hh, v3hh, v4hh, v5hh, v6hh, v7hh])), (yhn, .inr (8, [.int 1, .int 6, .ref yhnc, .int yhnn])), (yhnc, .inl (g.2.2.1, 6, .inl yhnf)), (hs, .inr (7, [v0hs, v1hs, v2hs, .ref zp, .int zmd, .int ztr])), (zp, .inr (8, [.int 8, .int 2, .ref zpc, .int zpn])), (zpc, .inl (g.2.2.1, 16, .inl zpf))] [7, 8] [0, 1, 2, 3, 4, 5, 6] (t_put l g nr p0 6 z_4 8 10 nrc nrn 80 fa_31 (tbk_8_10)) dX5_showReel_227 mw766 mw326 mw327 mw64 mw328 rfl 8 rfl rfl 0 _ rfl yk_yX8_put_3 rfl (Nat.le_of_ble_eq_true rfl) (Nat.le_of_ble_eq_true rfl) (Nat.le_of_ble_eq_true rfl) (Nat.le_of_ble_eq_true rfl) (Nat.le_of_ble_eq_true rfl) rfl rfl (by decide) rfl (by decide) (by decide) ?_
    rintro w ⟨fa_34, hr_36, rfl⟩
    refine k_ws [(h0, .inr (5, [.ref nr, .int xsnapped, .int xmostSlip, .int xslip, .int xisDrawn, .int xseed, .int z_12, .int xmotorTick, .int xahead])), (hh, .inr (3, [v0hh, .ref yhn, v2hh, v3hh, v4hh, v5hh, v6hh, v7hh])), (yhn, .inr (8, [.int 1, .int 6, .ref yhnc, .int yhnn])), (yhnc, .inl (g.2.2.1, 6, .inl yhnf)), (hs, .inr (7, [v0hs, v1hs, v2hs, .ref zp, .int zmd, .int ztr])), (zp, .inr (8, [.int 8, .int 2, .ref zpc, .int zpn])), (zpc, .inl (g.2.2.1, 16, .inl zpf)), (nr, .inr (8, [.int 8, .int 10, .ref nrc, .int nrn])), (nrc, .inl (g.2.2.1, 80, .inl fa_34))] rfl ?_
    refine k_aload_n X dX5_showReel_230 5 rfl ?_
    refine k_get (ci := 5) X inlX5 rfl 0 (by decide) dX5_showReel_231 mw125 0 rfl rfl ?_
    refine k_iload_n X dX5_showReel_234 8 rfl ?_
    refine k_bipush (v := 7) X dX5_showReel_235 (by decide) ?_
    refine k_aload_n X dX5_showReel_237 5 rfl ?_
    refine k_get (ci := 5) X inlX5 rfl 6 (by decide) dX5_showReel_238 mw131 0 rfl rfl ?_
    refine k_callVV (n := 3) (As := [.int p0, .int 7, .int z_12]) (st := []) X [(nr, .inr (8, [.int 8, .int 10, .ref nrc, .int nrn])), (nrc, .inl (g.2.2.1, 80, .inl fa_34))] [(h0, .inr (5, [.ref nr, .int xsnapped, .int xmostSlip, .int xslip, .int xisDrawn, .int xseed, .int z_12, .int xmotorTick, .int xahead])), (hh, .inr (3, [v0hh, .ref yhn, v2hh, v3hh, v4hh, v5hh, v6hh, v7hh])), (yhn, .inr (8, [.int 1, .int 6, .ref yhnc, .int yhnn])), (yhnc, .inl (g.2.2.1, 6, .inl yhnf)), (hs, .inr (7, [v0hs, v1hs, v2hs, .ref zp, .int zmd, .int ztr])), (zp, .inr (8, [.int 8, .int 2, .ref zpc, .int zpn])), (zpc, .inl (g.2.2.1, 16, .inl zpf))] [7, 8] [0, 1, 2, 3, 4, 5, 6] (t_put l g nr p0 7 z_12 8 10 nrc nrn 80 fa_34 (tbk_8_10)) dX5_showReel_241 mw766 mw326 mw327 mw64 mw328 rfl 8 rfl rfl 0 _ rfl yk_yX8_put_3 rfl (Nat.le_of_ble_eq_true rfl) (Nat.le_of_ble_eq_true rfl) (Nat.le_of_ble_eq_true rfl) (Nat.le_of_ble_eq_true rfl) (Nat.le_of_ble_eq_true rfl) rfl rfl (by decide) rfl (by decide) (by decide) ?_
    rintro w ⟨fa_37, hr_39, rfl⟩
    refine k_ws [(h0, .inr (5, [.ref nr, .int xsnapped, .int xmostSlip, .int xslip, .int xisDrawn, .int xseed, .int z_12, .int xmotorTick, .int xahead])), (hh, .inr (3, [v0hh, .ref yhn, v2hh, v3hh, v4hh, v5hh, v6hh, v7hh])), (yhn, .inr (8, [.int 1, .int 6, .ref yhnc, .int yhnn])), (yhnc, .inl (g.2.2.1, 6, .inl yhnf)), (hs, .inr (7, [v0hs, v1hs, v2hs, .ref zp, .int zmd, .int ztr])), (zp, .inr (8, [.int 8, .int 2, .ref zpc, .int zpn])), (zpc, .inl (g.2.2.1, 16, .inl zpf)), (nr, .inr (8, [.int 8, .int 10, .ref nrc, .int nrn])), (nrc, .inl (g.2.2.1, 80, .inl fa_37))] rfl ?_
    exact k_vret X hr dX5_showReel_244 (Nat.le_of_ble_eq_true rfl) (Nat.le_of_ble_eq_true rfl) [0, 7, 8, 1, 2, 3, 4, 5, 6] (by decide) rfl rfl ⟨xseed, z_12, xmotorTick, xahead, fa_37, ⟨z_1, ez_1, ⟨z_2, ez_2, ⟨z_3, ez_3, ⟨z_4, ez_4, ⟨z_6, ez_6, (Or.inl ⟨h_8, ⟨z_10, ez_10, ⟨z_12, ez_12, ⟨fa_14, hr_16, ⟨fa_17, hr_19, ⟨z_20, ez_20, ⟨fa_22, hr_24, ⟨fa_25, hr_27, ⟨fa_28, hr_30, ⟨fa_31, hr_33, ⟨fa_34, hr_36, ⟨fa_37, hr_39, ⟨rfl, rfl, rfl, rfl, rfl⟩⟩⟩⟩⟩⟩⟩⟩⟩⟩⟩⟩⟩)⟩⟩⟩⟩⟩, rfl⟩
  · skip
    have j_40 : p0.toInt < z_6.toInt := iv_nle h_8
    have iv_41 : IV p0 (-2147483648) 2147483646 := iv_ltL (iv_nle h_8) (iv_any p0) (iv_any z_6) (by decide)
    have iv_42 : IV z_6 (-2147483647) 2147483647 := iv_ltR (iv_nle h_8) (iv_any p0) (iv_any z_6) (by decide)
    refine k_aload_n X dX5_showReel_51 5 rfl ?_
    refine k_get (ci := 5) X inlX5 rfl 0 (by decide) dX5_showReel_52 mw125 0 rfl rfl ?_
    refine k_iload_n X dX5_showReel_55 8 rfl ?_
    refine k_bipush (v := 9) X dX5_showReel_56 (by decide) ?_
    refine k_callVI (n := 2) (As := [.int p0, .int 9]) (st := []) X [(nr, .inr (8, [.int 8, .int 10, .ref nrc, .int nrn])), (nrc, .inl (g.2.2.1, 80, .inl nrf))] [(h0, .inr (5, [.ref nr, .int xsnapped, .int xmostSlip, .int xslip, .int xisDrawn, .int xseed, .int xtick, .int xmotorTick, .int xahead])), (hh, .inr (3, [v0hh, .ref yhn, v2hh, v3hh, v4hh, v5hh, v6hh, v7hh])), (yhn, .inr (8, [.int 1, .int 6, .ref yhnc, .int yhnn])), (yhnc, .inl (g.2.2.1, 6, .inl yhnf)), (hs, .inr (7, [v0hs, v1hs, v2hs, .ref zp, .int zmd, .int ztr])), (zp, .inr (8, [.int 8, .int 2, .ref zpc, .int zpn])), (zpc, .inl (g.2.2.1, 16, .inl zpf))] [1, 2] [0, 3, 4, 5, 6, 7, 8] (t_at l g nr p0 9 8 10 nrc nrn 80 nrf (tbk_8_10)) dX5_showReel_58 mw757 mw376 mw377 mw64 mw378 rfl 8 rfl rfl 0 _ rfl yk_yX8_at_2 rfl (Nat.le_of_ble_eq_true rfl) (Nat.le_of_ble_eq_true rfl) (Nat.le_of_ble_eq_true rfl) (Nat.le_of_ble_eq_true rfl) (Nat.le_of_ble_eq_true rfl) rfl rfl (by decide) rfl (by decide) (by decide) ?_
    rintro r_43 w ⟨hr_44, rfl⟩
    refine k_ws [(h0, .inr (5, [.ref nr, .int xsnapped, .int xmostSlip, .int xslip, .int xisDrawn, .int xseed, .int xtick, .int xmotorTick, .int xahead])), (hh, .inr (3, [v0hh, .ref yhn, v2hh, v3hh, v4hh, v5hh, v6hh, v7hh])), (yhn, .inr (8, [.int 1, .int 6, .ref yhnc, .int yhnn])), (yhnc, .inl (g.2.2.1, 6, .inl yhnf)), (hs, .inr (7, [v0hs, v1hs, v2hs, .ref zp, .int zmd, .int ztr])), (zp, .inr (8, [.int 8, .int 2, .ref zpc, .int zpn])), (zpc, .inl (g.2.2.1, 16, .inl zpf)), (nr, .inr (8, [.int 8, .int 10, .ref nrc, .int nrn])), (nrc, .inl (g.2.2.1, 80, .inl nrf))] rfl ?_
    refine k_aload_n X dX5_showReel_61 5 rfl ?_
    refine k_callVI (n := 0) (As := []) (st := [.int r_43]) X [(h0, .inr (5, [.ref nr, .int xsnapped, .int xmostSlip, .int xslip, .int xisDrawn, .int xseed, .int xtick, .int xmotorTick, .int xahead]))] [(hh, .inr (3, [v0hh, .ref yhn, v2hh, v3hh, v4hh, v5hh, v6hh, v7hh])), (yhn, .inr (8, [.int 1, .int 6, .ref yhnc, .int yhnn])), (yhnc, .inl (g.2.2.1, 6, .inl yhnf)), (hs, .inr (7, [v0hs, v1hs, v2hs, .ref zp, .int zmd, .int ztr])), (zp, .inr (8, [.int 8, .int 2, .ref zpc, .int zpn])), (zpc, .inl (g.2.2.1, 16, .inl zpf)), (nr, .inr (8, [.int 8, .int 10, .ref nrc, .int nrn])), (nrc, .inl (g.2.2.1, 80, .inl nrf))] [0] [1, 2, 3, 4, 5, 6, 7, 8] (n_slipNowX l g h0 nr xsnapped xmostSlip xslip xisDrawn xseed xtick xmotorTick xahead (by assumption)) dX5_showReel_62 mw787 mw788 mw789 mw31 mw790 rfl 5 rfl rfl 0 _ rfl yk_yX5_slipNow_0 rfl (Nat.le_of_ble_eq_true rfl) (Nat.le_of_ble_eq_true rfl) (Nat.le_of_ble_eq_true rfl) (Nat.le_of_ble_eq_true rfl) (Nat.le_of_ble_eq_true rfl) rfl rfl (by decide) rfl (by decide) (by decide) ?_
    rintro r_46 w ⟨xseed2_45, hq_47, rfl⟩
    refine k_ws [(hh, .inr (3, [v0hh, .ref yhn, v2hh, v3hh, v4hh, v5hh, v6hh, v7hh])), (yhn, .inr (8, [.int 1, .int 6, .ref yhnc, .int yhnn])), (yhnc, .inl (g.2.2.1, 6, .inl yhnf)), (hs, .inr (7, [v0hs, v1hs, v2hs, .ref zp, .int zmd, .int ztr])), (zp, .inr (8, [.int 8, .int 2, .ref zpc, .int zpn])), (zpc, .inl (g.2.2.1, 16, .inl zpf)), (nr, .inr (8, [.int 8, .int 10, .ref nrc, .int nrn])), (nrc, .inl (g.2.2.1, 80, .inl nrf)), (h0, .inr (5, [.ref nr, .int xsnapped, .int xmostSlip, .int xslip, .int xisDrawn, .int xseed2_45, .int xtick, .int xmotorTick, .int xahead]))] rfl ?_
    refine k_iadd X dX5_showReel_65 ?_
    refine k_nm (fun z_48 ez_48 => ?_)
    refine k_istore [(10, .int z_48), (9, .int p1), (8, .int (-2)), (7, .int z_4), (6, .int z_3), (5, .int z_1), (0, .ref h0), (1, .ref hh), (2, .ref hs), (3, .int p0), (4, .int p1)] X dX5_showReel_66 (by decide) rfl ?_
    refine k_iload X dX5_showReel_68 5 rfl ?_
    refine k_iload X dX5_showReel_70 0 rfl ?_
    refine k_iload X dX5_showReel_72 10 rfl ?_
    refine k_iconst (v := 1) X dX5_showReel_74 (by decide) ?_
    refine k_isub X dX5_showReel_75 ?_
    refine k_nm (fun z_50 ez_50 => ?_)
    refine k_mmin X dX5_showReel_76 mw784 mw785 mw103 mw786 (Nat.le_of_ble_eq_true rfl) (Nat.le_of_ble_eq_true rfl) (Nat.zero_le _) (Nat.zero_le _) ?_
    refine k_nm (fun z_52 ez_52 => ?_)
    refine k_mmax X dX5_showReel_79 mw756 mw102 mw103 mw104 (Nat.le_of_ble_eq_true rfl) (Nat.le_of_ble_eq_true rfl) (Nat.zero_le _) (Nat.zero_le _) ?_
    refine k_nm (fun z_53 ez_53 => ?_)
    refine k_istore [(8, .int z_53), (10, .int z_48), (9, .int p1), (7, .int z_4), (6, .int z_3), (5, .int z_1), (0, .ref h0), (1, .ref hh), (2, .ref hs), (3, .int p0), (4, .int p1)] X dX5_showReel_82 (by decide) rfl ?_
    refine k_iload X dX5_showReel_84 0 rfl ?_
    refine k_aload_n X dX5_showReel_86 7 rfl ?_
    refine k_iconst (v := 0) X dX5_showReel_87 (by decide) ?_
    refine k_callVI (n := 1) (As := [.int 0]) (st := [.int z_53]) X [(hh, .inr (3, [v0hh, .ref yhn, v2hh, v3hh, v4hh, v5hh, v6hh, v7hh])), (yhn, .inr (8, [.int 1, .int 6, .ref yhnc, .int yhnn])), (yhnc, .inl (g.2.2.1, 6, .inl yhnf))] [(hs, .inr (7, [v0hs, v1hs, v2hs, .ref zp, .int zmd, .int ztr])), (zp, .inr (8, [.int 8, .int 2, .ref zpc, .int zpn])), (zpc, .inl (g.2.2.1, 16, .inl zpf)), (nr, .inr (8, [.int 8, .int 10, .ref nrc, .int nrn])), (nrc, .inl (g.2.2.1, 80, .inl nrf)), (h0, .inr (5, [.ref nr, .int xsnapped, .int xmostSlip, .int xslip, .int xisDrawn, .int xseed2_45, .int xtick, .int xmotorTick, .int xahead]))] [0, 1, 2] [3, 4, 5, 6, 7, 8] (h_numberX l g hh 0 v0hh yhn v2hh v3hh v4hh v5hh v6hh v7hh yhnc yhnn yhnf) dX5_showReel_88 mw796 mw415 mw416 mw19 mw417 rfl 3 rfl rfl 0 _ rfl yk_yX3_number_1 rfl (Nat.le_of_ble_eq_true rfl) (Nat.le_of_ble_eq_true rfl) (Nat.le_of_ble_eq_true rfl) (Nat.le_of_ble_eq_true rfl) (Nat.le_of_ble_eq_true rfl) rfl rfl (by decide) rfl (by decide) (by decide) ?_
    rintro r_54 w ⟨hq_55, rfl⟩
    refine k_ws [(hs, .inr (7, [v0hs, v1hs, v2hs, .ref zp, .int zmd, .int ztr])), (zp, .inr (8, [.int 8, .int 2, .ref zpc, .int zpn])), (zpc, .inl (g.2.2.1, 16, .inl zpf)), (nr, .inr (8, [.int 8, .int 10, .ref nrc, .int nrn])), (nrc, .inl (g.2.2.1, 80, .inl nrf)), (h0, .inr (5, [.ref nr, .int xsnapped, .int xmostSlip, .int xslip, .int xisDrawn, .int xseed2_45, .int xtick, .int xmotorTick, .int xahead])), (hh, .inr (3, [v0hh, .ref yhn, v2hh, v3hh, v4hh, v5hh, v6hh, v7hh])), (yhn, .inr (8, [.int 1, .int 6, .ref yhnc, .int yhnn])), (yhnc, .inl (g.2.2.1, 6, .inl yhnf))] rfl ?_
    refine k_iadd X dX5_showReel_91 ?_
    refine k_nm (fun z_56 ez_56 => ?_)
    refine k_iload X dX5_showReel_92 10 rfl ?_
    refine k_mmin X dX5_showReel_94 mw784 mw785 mw103 mw786 (Nat.le_of_ble_eq_true rfl) (Nat.le_of_ble_eq_true rfl) (Nat.zero_le _) (Nat.zero_le _) ?_
    refine k_nm (fun z_58 ez_58 => ?_)
    refine k_istore [(9, .int z_58), (8, .int z_53), (10, .int z_48), (7, .int z_4), (6, .int z_3), (5, .int z_1), (0, .ref h0), (1, .ref hh), (2, .ref hs), (3, .int p0), (4, .int p1)] X dX5_showReel_97 (by decide) rfl ?_
    refine k_aload_n X dX5_showReel_99 6 rfl ?_
    refine k_iload X dX5_showReel_100 3 rfl ?_
    refine k_iload X dX5_showReel_102 1 rfl ?_
    refine k_iadd X dX5_showReel_104 ?_
    refine k_nm (fun z_59 ez_59 => ?_)
    refine k_iload X dX5_showReel_105 5 rfl ?_
    refine k_isub X dX5_showReel_107 ?_
    refine k_nm (fun z_61 ez_61 => ?_)
    refine k_put (ci := 5) [(hs, .inr (7, [v0hs, v1hs, v2hs, .ref zp, .int zmd, .int ztr])), (zp, .inr (8, [.int 8, .int 2, .ref zpc, .int zpn])), (zpc, .inl (g.2.2.1, 16, .inl zpf)), (nr, .inr (8, [.int 8, .int 10, .ref nrc, .int nrn])), (nrc, .inl (g.2.2.1, 80, .inl nrf)), (h0, .inr (5, [.ref nr, .int xsnapped, .int xmostSlip, .int xslip, .int xisDrawn, .int xseed2_45, .int xtick, .int z_61, .int xahead])), (hh, .inr (3, [v0hh, .ref yhn, v2hh, v3hh, v4hh, v5hh, v6hh, v7hh])), (yhn, .inr (8, [.int 1, .int 6, .ref yhnc, .int yhnn])), (yhnc, .inl (g.2.2.1, 6, .inl yhnf))] X inlX5 rfl tyX5_ok nmX5 7 (by decide) rfl dX5_showReel_108 mw132 5 rfl rfl rfl (Nat.le_of_ble_eq_true rfl) rfl ?_
    refine k_aload_n X dX5_showReel_111 6 rfl ?_
    refine k_iload X dX5_showReel_112 0 rfl ?_
    refine k_iload X dX5_showReel_114 1 rfl ?_
    refine k_isub X dX5_showReel_116 ?_
    refine k_nm (fun z_63 ez_63 => ?_)
    refine k_aload_n X dX5_showReel_117 7 rfl ?_
    refine k_iconst (v := 1) X dX5_showReel_118 (by decide) ?_
    refine k_callVI (n := 1) (As := [.int 1]) (st := [.int z_63, .ref h0]) X [(hh, .inr (3, [v0hh, .ref yhn, v2hh, v3hh, v4hh, v5hh, v6hh, v7hh])), (yhn, .inr (8, [.int 1, .int 6, .ref yhnc, .int yhnn])), (yhnc, .inl (g.2.2.1, 6, .inl yhnf))] [(hs, .inr (7, [v0hs, v1hs, v2hs, .ref zp, .int zmd, .int ztr])), (zp, .inr (8, [.int 8, .int 2, .ref zpc, .int zpn])), (zpc, .inl (g.2.2.1, 16, .inl zpf)), (nr, .inr (8, [.int 8, .int 10, .ref nrc, .int nrn])), (nrc, .inl (g.2.2.1, 80, .inl nrf)), (h0, .inr (5, [.ref nr, .int xsnapped, .int xmostSlip, .int xslip, .int xisDrawn, .int xseed2_45, .int xtick, .int z_61, .int xahead]))] [6, 7, 8] [0, 1, 2, 3, 4, 5] (h_numberX l g hh 1 v0hh yhn v2hh v3hh v4hh v5hh v6hh v7hh yhnc yhnn yhnf) dX5_showReel_119 mw796 mw415 mw416 mw19 mw417 rfl 3 rfl rfl 0 _ rfl yk_yX3_number_1 rfl (Nat.le_of_ble_eq_true rfl) (Nat.le_of_ble_eq_true rfl) (Nat.le_of_ble_eq_true rfl) (Nat.le_of_ble_eq_true rfl) (Nat.le_of_ble_eq_true rfl) rfl rfl (by decide) rfl (by decide) (by decide) ?_
    rintro r_65 w ⟨hq_66, rfl⟩
    refine k_ws [(hs, .inr (7, [v0hs, v1hs, v2hs, .ref zp, .int zmd, .int ztr])), (zp, .inr (8, [.int 8, .int 2, .ref zpc, .int zpn])), (zpc, .inl (g.2.2.1, 16, .inl zpf)), (nr, .inr (8, [.int 8, .int 10, .ref nrc, .int nrn])), (nrc, .inl (g.2.2.1, 80, .inl nrf)), (h0, .inr (5, [.ref nr, .int xsnapped, .int xmostSlip, .int xslip, .int xisDrawn, .int xseed2_45, .int xtick, .int z_61, .int xahead])), (hh, .inr (3, [v0hh, .ref yhn, v2hh, v3hh, v4hh, v5hh, v6hh, v7hh])), (yhn, .inr (8, [.int 1, .int 6, .ref yhnc, .int yhnn])), (yhnc, .inl (g.2.2.1, 6, .inl yhnf))] rfl ?_
    refine k_isub X dX5_showReel_122 ?_
    refine k_nm (fun z_67 ez_67 => ?_)
    refine k_aload_n X dX5_showReel_123 8 rfl ?_
    refine k_get (ci := 7) X inlX7 rfl 3 (by decide) dX5_showReel_124 mw753 0 rfl rfl ?_
    refine k_iload_n X dX5_showReel_127 9 rfl ?_
    refine k_iconst (v := 1) X dX5_showReel_128 (by decide) ?_
    refine k_iadd X dX5_showReel_129 ?_
    refine k_nm (fun z_69 ez_69 => ?_)
    have i_70 : z_69.toInt = p0.toInt + 1 := in_add ez_69 iv_41 (show IV 1 1 1 from (by decide)) (by decide) (by decide)
    have iv_71 : IV z_69 (-2147483647) 2147483647 := iz1 i_70 iv_41 (by decide) (by decide)
    refine k_iconst (v := 1) X dX5_showReel_130 (by decide) ?_
    refine k_callVI (n := 2) (As := [.int z_69, .int 1]) (st := [.int z_67, .ref h0]) X [(zp, .inr (8, [.int 8, .int 2, .ref zpc, .int zpn])), (zpc, .inl (g.2.2.1, 16, .inl zpf))] [(hs, .inr (7, [v0hs, v1hs, v2hs, .ref zp, .int zmd, .int ztr])), (nr, .inr (8, [.int 8, .int 10, .ref nrc, .int nrn])), (nrc, .inl (g.2.2.1, 80, .inl nrf)), (h0, .inr (5, [.ref nr, .int xsnapped, .int xmostSlip, .int xslip, .int xisDrawn, .int xseed2_45, .int xtick, .int z_61, .int xahead])), (hh, .inr (3, [v0hh, .ref yhn, v2hh, v3hh, v4hh, v5hh, v6hh, v7hh])), (yhn, .inr (8, [.int 1, .int 6, .ref yhnc, .int yhnn])), (yhnc, .inl (g.2.2.1, 6, .inl yhnf))] [1, 2] [0, 3, 4, 5, 6, 7, 8] (t_at l g zp z_69 1 8 2 zpc zpn 16 zpf (tbk_8_2)) dX5_showReel_131 mw757 mw376 mw377 mw64 mw378 rfl 8 rfl rfl 0 _ rfl yk_yX8_at_2 rfl (Nat.le_of_ble_eq_true rfl) (Nat.le_of_ble_eq_true rfl) (Nat.le_of_ble_eq_true rfl) (Nat.le_of_ble_eq_true rfl) (Nat.le_of_ble_eq_true rfl) rfl rfl (by decide) rfl (by decide) (by decide) ?_
    rintro r_72 w ⟨hr_73, rfl⟩
    refine k_ws [(hs, .inr (7, [v0hs, v1hs, v2hs, .ref zp, .int zmd, .int ztr])), (nr, .inr (8, [.int 8, .int 10, .ref nrc, .int nrn])), (nrc, .inl (g.2.2.1, 80, .inl nrf)), (h0, .inr (5, [.ref nr, .int xsnapped, .int xmostSlip, .int xslip, .int xisDrawn, .int xseed2_45, .int xtick, .int z_61, .int xahead])), (hh, .inr (3, [v0hh, .ref yhn, v2hh, v3hh, v4hh, v5hh, v6hh, v7hh])), (yhn, .inr (8, [.int 1, .int 6, .ref yhnc, .int yhnn])), (yhnc, .inl (g.2.2.1, 6, .inl yhnf)), (zp, .inr (8, [.int 8, .int 2, .ref zpc, .int zpn])), (zpc, .inl (g.2.2.1, 16, .inl zpf))] rfl ?_
    refine k_isub X dX5_showReel_134 ?_
    refine k_nm (fun z_74 ez_74 => ?_)
    refine k_put (ci := 5) [(hs, .inr (7, [v0hs, v1hs, v2hs, .ref zp, .int zmd, .int ztr])), (nr, .inr (8, [.int 8, .int 10, .ref nrc, .int nrn])), (nrc, .inl (g.2.2.1, 80, .inl nrf)), (h0, .inr (5, [.ref nr, .int xsnapped, .int xmostSlip, .int xslip, .int xisDrawn, .int xseed2_45, .int xtick, .int z_61, .int z_74])), (hh, .inr (3, [v0hh, .ref yhn, v2hh, v3hh, v4hh, v5hh, v6hh, v7hh])), (yhn, .inr (8, [.int 1, .int 6, .ref yhnc, .int yhnn])), (yhnc, .inl (g.2.2.1, 6, .inl yhnf)), (zp, .inr (8, [.int 8, .int 2, .ref zpc, .int zpn])), (zpc, .inl (g.2.2.1, 16, .inl zpf))] X inlX5 rfl tyX5_ok nmX5 8 (by decide) rfl dX5_showReel_135 mw133 3 rfl rfl rfl (Nat.le_of_ble_eq_true rfl) rfl ?_
    refine k_aload_n X dX5_showReel_138 6 rfl ?_
    refine k_iload X dX5_showReel_139 3 rfl ?_
    refine k_iload X dX5_showReel_141 0 rfl ?_
    refine k_iadd X dX5_showReel_143 ?_
    refine k_nm (fun z_76 ez_76 => ?_)
    refine k_iload X dX5_showReel_144 5 rfl ?_
    refine k_isub X dX5_showReel_146 ?_
    refine k_nm (fun z_78 ez_78 => ?_)
    refine k_put (ci := 5) [(hs, .inr (7, [v0hs, v1hs, v2hs, .ref zp, .int zmd, .int ztr])), (nr, .inr (8, [.int 8, .int 10, .ref nrc, .int nrn])), (nrc, .inl (g.2.2.1, 80, .inl nrf)), (h0, .inr (5, [.ref nr, .int xsnapped, .int xmostSlip, .int xslip, .int xisDrawn, .int xseed2_45, .int z_78, .int z_61, .int z_74])), (hh, .inr (3, [v0hh, .ref yhn, v2hh, v3hh, v4hh, v5hh, v6hh, v7hh])), (yhn, .inr (8, [.int 1, .int 6, .ref yhnc, .int yhnn])), (yhnc, .inl (g.2.2.1, 6, .inl yhnf)), (zp, .inr (8, [.int 8, .int 2, .ref zpc, .int zpn])), (zpc, .inl (g.2.2.1, 16, .inl zpf))] X inlX5 rfl tyX5_ok nmX5 6 (by decide) rfl dX5_showReel_147 mw131 3 rfl rfl rfl (Nat.le_of_ble_eq_true rfl) rfl ?_
    refine k_aload_n X dX5_showReel_150 6 rfl ?_
    refine k_get (ci := 5) X inlX5 rfl 0 (by decide) dX5_showReel_151 mw125 3 rfl rfl ?_
    refine k_iload_n X dX5_showReel_154 9 rfl ?_
    refine k_iconst (v := 0) X dX5_showReel_155 (by decide) ?_
    refine k_iload X dX5_showReel_156 5 rfl ?_
    refine k_callVV (n := 3) (As := [.int p0, .int 0, .int z_1]) (st := []) X [(nr, .inr (8, [.int 8, .int 10, .ref nrc, .int nrn])), (nrc, .inl (g.2.2.1, 80, .inl nrf))] [(hs, .inr (7, [v0hs, v1hs, v2hs, .ref zp, .int zmd, .int ztr])), (h0, .inr (5, [.ref nr, .int xsnapped, .int xmostSlip, .int xslip, .int xisDrawn, .int xseed2_45, .int z_78, .int z_61, .int z_74])), (hh, .inr (3, [v0hh, .ref yhn, v2hh, v3hh, v4hh, v5hh, v6hh, v7hh])), (yhn, .inr (8, [.int 1, .int 6, .ref yhnc, .int yhnn])), (yhnc, .inl (g.2.2.1, 6, .inl yhnf)), (zp, .inr (8, [.int 8, .int 2, .ref zpc, .int zpn])), (zpc, .inl (g.2.2.1, 16, .inl zpf))] [1, 2] [0, 3, 4, 5, 6, 7, 8] (t_put l g nr p0 0 z_1 8 10 nrc nrn 80 nrf (tbk_8_10)) dX5_showReel_158 mw766 mw326 mw327 mw64 mw328 rfl 8 rfl rfl 0 _ rfl yk_yX8_put_3 rfl (Nat.le_of_ble_eq_true rfl) (Nat.le_of_ble_eq_true rfl) (Nat.le_of_ble_eq_true rfl) (Nat.le_of_ble_eq_true rfl) (Nat.le_of_ble_eq_true rfl) rfl rfl (by decide) rfl (by decide) (by decide) ?_
    rintro w ⟨fa_80, hr_82, rfl⟩
    refine k_ws [(hs, .inr (7, [v0hs, v1hs, v2hs, .ref zp, .int zmd, .int ztr])), (h0, .inr (5, [.ref nr, .int xsnapped, .int xmostSlip, .int xslip, .int xisDrawn, .int xseed2_45, .int z_78, .int z_61, .int z_74])), (hh, .inr (3, [v0hh, .ref yhn, v2hh, v3hh, v4hh, v5hh, v6hh, v7hh])), (yhn, .inr (8, [.int 1, .int 6, .ref yhnc, .int yhnn])), (yhnc, .inl (g.2.2.1, 6, .inl yhnf)), (zp, .inr (8, [.int 8, .int 2, .ref zpc, .int zpn])), (zpc, .inl (g.2.2.1, 16, .inl zpf)), (nr, .inr (8, [.int 8, .int 10, .ref nrc, .int nrn])), (nrc, .inl (g.2.2.1, 80, .inl fa_80))] rfl ?_
    refine k_aload_n X dX5_showReel_161 6 rfl ?_
    refine k_get (ci := 5) X inlX5 rfl 0 (by decide) dX5_showReel_162 mw125 1 rfl rfl ?_
    refine k_iload_n X dX5_showReel_165 9 rfl ?_
    refine k_iconst (v := 1) X dX5_showReel_166 (by decide) ?_
    refine k_iload X dX5_showReel_167 4 rfl ?_
    refine k_callVV (n := 3) (As := [.int p0, .int 1, .int z_3]) (st := []) X [(nr, .inr (8, [.int 8, .int 10, .ref nrc, .int nrn])), (nrc, .inl (g.2.2.1, 80, .inl fa_80))] [(hs, .inr (7, [v0hs, v1hs, v2hs, .ref zp, .int zmd, .int ztr])), (h0, .inr (5, [.ref nr, .int xsnapped, .int xmostSlip, .int xslip, .int xisDrawn, .int xseed2_45, .int z_78, .int z_61, .int z_74])), (hh, .inr (3, [v0hh, .ref yhn, v2hh, v3hh, v4hh, v5hh, v6hh, v7hh])), (yhn, .inr (8, [.int 1, .int 6, .ref yhnc, .int yhnn])), (yhnc, .inl (g.2.2.1, 6, .inl yhnf)), (zp, .inr (8, [.int 8, .int 2, .ref zpc, .int zpn])), (zpc, .inl (g.2.2.1, 16, .inl zpf))] [7, 8] [0, 1, 2, 3, 4, 5, 6] (t_put l g nr p0 1 z_3 8 10 nrc nrn 80 fa_80 (tbk_8_10)) dX5_showReel_169 mw766 mw326 mw327 mw64 mw328 rfl 8 rfl rfl 0 _ rfl yk_yX8_put_3 rfl (Nat.le_of_ble_eq_true rfl) (Nat.le_of_ble_eq_true rfl) (Nat.le_of_ble_eq_true rfl) (Nat.le_of_ble_eq_true rfl) (Nat.le_of_ble_eq_true rfl) rfl rfl (by decide) rfl (by decide) (by decide) ?_
    rintro w ⟨fa_83, hr_85, rfl⟩
    refine k_ws [(hs, .inr (7, [v0hs, v1hs, v2hs, .ref zp, .int zmd, .int ztr])), (h0, .inr (5, [.ref nr, .int xsnapped, .int xmostSlip, .int xslip, .int xisDrawn, .int xseed2_45, .int z_78, .int z_61, .int z_74])), (hh, .inr (3, [v0hh, .ref yhn, v2hh, v3hh, v4hh, v5hh, v6hh, v7hh])), (yhn, .inr (8, [.int 1, .int 6, .ref yhnc, .int yhnn])), (yhnc, .inl (g.2.2.1, 6, .inl yhnf)), (zp, .inr (8, [.int 8, .int 2, .ref zpc, .int zpn])), (zpc, .inl (g.2.2.1, 16, .inl zpf)), (nr, .inr (8, [.int 8, .int 10, .ref nrc, .int nrn])), (nrc, .inl (g.2.2.1, 80, .inl fa_83))] rfl ?_
    refine k_aload_n X dX5_showReel_172 6 rfl ?_
    refine k_get (ci := 5) X inlX5 rfl 0 (by decide) dX5_showReel_173 mw125 1 rfl rfl ?_
    refine k_iload_n X dX5_showReel_176 9 rfl ?_
    refine k_iconst (v := 2) X dX5_showReel_177 (by decide) ?_
    refine k_iload X dX5_showReel_178 10 rfl ?_
    refine k_iload X dX5_showReel_180 0 rfl ?_
    refine k_isub X dX5_showReel_182 ?_
    refine k_nm (fun z_86 ez_86 => ?_)
    refine k_callVV (n := 3) (As := [.int p0, .int 2, .int z_86]) (st := []) X [(nr, .inr (8, [.int 8, .int 10, .ref nrc, .int nrn])), (nrc, .inl (g.2.2.1, 80, .inl fa_83))] [(hs, .inr (7, [v0hs, v1hs, v2hs, .ref zp, .int zmd, .int ztr])), (h0, .inr (5, [.ref nr, .int xsnapped, .int xmostSlip, .int xslip, .int xisDrawn, .int xseed2_45, .int z_78, .int z_61, .int z_74])), (hh, .inr (3, [v0hh, .ref yhn, v2hh, v3hh, v4hh, v5hh, v6hh, v7hh])), (yhn, .inr (8, [.int 1, .int 6, .ref yhnc, .int yhnn])), (yhnc, .inl (g.2.2.1, 6, .inl yhnf)), (zp, .inr (8, [.int 8, .int 2, .ref zpc, .int zpn])), (zpc, .inl (g.2.2.1, 16, .inl zpf))] [7, 8] [0, 1, 2, 3, 4, 5, 6] (t_put l g nr p0 2 z_86 8 10 nrc nrn 80 fa_83 (tbk_8_10)) dX5_showReel_183 mw766 mw326 mw327 mw64 mw328 rfl 8 rfl rfl 0 _ rfl yk_yX8_put_3 rfl (Nat.le_of_ble_eq_true rfl) (Nat.le_of_ble_eq_true rfl) (Nat.le_of_ble_eq_true rfl) (Nat.le_of_ble_eq_true rfl) (Nat.le_of_ble_eq_true rfl) rfl rfl (by decide) rfl (by decide) (by decide) ?_
    rintro w ⟨fa_88, hr_90, rfl⟩
    refine k_ws [(hs, .inr (7, [v0hs, v1hs, v2hs, .ref zp, .int zmd, .int ztr])), (h0, .inr (5, [.ref nr, .int xsnapped, .int xmostSlip, .int xslip, .int xisDrawn, .int xseed2_45, .int z_78, .int z_61, .int z_74])), (hh, .inr (3, [v0hh, .ref yhn, v2hh, v3hh, v4hh, v5hh, v6hh, v7hh])), (yhn, .inr (8, [.int 1, .int 6, .ref yhnc, .int yhnn])), (yhnc, .inl (g.2.2.1, 6, .inl yhnf)), (zp, .inr (8, [.int 8, .int 2, .ref zpc, .int zpn])), (zpc, .inl (g.2.2.1, 16, .inl zpf)), (nr, .inr (8, [.int 8, .int 10, .ref nrc, .int nrn])), (nrc, .inl (g.2.2.1, 80, .inl fa_88))] rfl ?_
    refine k_aload_n X dX5_showReel_186 6 rfl ?_
    refine k_get (ci := 5) X inlX5 rfl 0 (by decide) dX5_showReel_187 mw125 1 rfl rfl ?_
    refine k_iload_n X dX5_showReel_190 9 rfl ?_
    refine k_iconst (v := 3) X dX5_showReel_191 (by decide) ?_
    refine k_iconst (v := 0) X dX5_showReel_192 (by decide) ?_
    refine k_callVV (n := 3) (As := [.int p0, .int 3, .int 0]) (st := []) X [(nr, .inr (8, [.int 8, .int 10, .ref nrc, .int nrn])), (nrc, .inl (g.2.2.1, 80, .inl fa_88))] [(hs, .inr (7, [v0hs, v1hs, v2hs, .ref zp, .int zmd, .int ztr])), (h0, .inr (5, [.ref nr, .int xsnapped, .int xmostSlip, .int xslip, .int xisDrawn, .int xseed2_45, .int z_78, .int z_61, .int z_74])), (hh, .inr (3, [v0hh, .ref yhn, v2hh, v3hh, v4hh, v5hh, v6hh, v7hh])), (yhn, .inr (8, [.int 1, .int 6, .ref yhnc, .int yhnn])), (yhnc, .inl (g.2.2.1, 6, .inl yhnf)), (zp, .inr (8, [.int 8, .int 2, .ref zpc, .int zpn])), (zpc, .inl (g.2.2.1, 16, .inl zpf))] [7, 8] [0, 1, 2, 3, 4, 5, 6] (t_put l g nr p0 3 0 8 10 nrc nrn 80 fa_88 (tbk_8_10)) dX5_showReel_193 mw766 mw326 mw327 mw64 mw328 rfl 8 rfl rfl 0 _ rfl yk_yX8_put_3 rfl (Nat.le_of_ble_eq_true rfl) (Nat.le_of_ble_eq_true rfl) (Nat.le_of_ble_eq_true rfl) (Nat.le_of_ble_eq_true rfl) (Nat.le_of_ble_eq_true rfl) rfl rfl (by decide) rfl (by decide) (by decide) ?_
    rintro w ⟨fa_91, hr_93, rfl⟩
    refine k_ws [(hs, .inr (7, [v0hs, v1hs, v2hs, .ref zp, .int zmd, .int ztr])), (h0, .inr (5, [.ref nr, .int xsnapped, .int xmostSlip, .int xslip, .int xisDrawn, .int xseed2_45, .int z_78, .int z_61, .int z_74])), (hh, .inr (3, [v0hh, .ref yhn, v2hh, v3hh, v4hh, v5hh, v6hh, v7hh])), (yhn, .inr (8, [.int 1, .int 6, .ref yhnc, .int yhnn])), (yhnc, .inl (g.2.2.1, 6, .inl yhnf)), (zp, .inr (8, [.int 8, .int 2, .ref zpc, .int zpn])), (zpc, .inl (g.2.2.1, 16, .inl zpf)), (nr, .inr (8, [.int 8, .int 10, .ref nrc, .int nrn])), (nrc, .inl (g.2.2.1, 80, .inl fa_91))] rfl ?_
    refine k_aload_n X dX5_showReel_196 6 rfl ?_
    refine k_get (ci := 5) X inlX5 rfl 0 (by decide) dX5_showReel_197 mw125 1 rfl rfl ?_
    refine k_iload_n X dX5_showReel_200 9 rfl ?_
    refine k_iconst (v := 4) X dX5_showReel_201 (by decide) ?_
    refine k_iload X dX5_showReel_202 1 rfl ?_
    refine k_callVV (n := 3) (As := [.int p0, .int 4, .int z_53]) (st := []) X [(nr, .inr (8, [.int 8, .int 10, .ref nrc, .int nrn])), (nrc, .inl (g.2.2.1, 80, .inl fa_91))] [(hs, .inr (7, [v0hs, v1hs, v2hs, .ref zp, .int zmd, .int ztr])), (h0, .inr (5, [.ref nr, .int xsnapped, .int xmostSlip, .int xslip, .int xisDrawn, .int xseed2_45, .int z_78, .int z_61, .int z_74])), (hh, .inr (3, [v0hh, .ref yhn, v2hh, v3hh, v4hh, v5hh, v6hh, v7hh])), (yhn, .inr (8, [.int 1, .int 6, .ref yhnc, .int yhnn])), (yhnc, .inl (g.2.2.1, 6, .inl yhnf)), (zp, .inr (8, [.int 8, .int 2, .ref zpc, .int zpn])), (zpc, .inl (g.2.2.1, 16, .inl zpf))] [7, 8] [0, 1, 2, 3, 4, 5, 6] (t_put l g nr p0 4 z_53 8 10 nrc nrn 80 fa_91 (tbk_8_10)) dX5_showReel_204 mw766 mw326 mw327 mw64 mw328 rfl 8 rfl rfl 0 _ rfl yk_yX8_put_3 rfl (Nat.le_of_ble_eq_true rfl) (Nat.le_of_ble_eq_true rfl) (Nat.le_of_ble_eq_true rfl) (Nat.le_of_ble_eq_true rfl) (Nat.le_of_ble_eq_true rfl) rfl rfl (by decide) rfl (by decide) (by decide) ?_
    rintro w ⟨fa_94, hr_96, rfl⟩
    refine k_ws [(hs, .inr (7, [v0hs, v1hs, v2hs, .ref zp, .int zmd, .int ztr])), (h0, .inr (5, [.ref nr, .int xsnapped, .int xmostSlip, .int xslip, .int xisDrawn, .int xseed2_45, .int z_78, .int z_61, .int z_74])), (hh, .inr (3, [v0hh, .ref yhn, v2hh, v3hh, v4hh, v5hh, v6hh, v7hh])), (yhn, .inr (8, [.int 1, .int 6, .ref yhnc, .int yhnn])), (yhnc, .inl (g.2.2.1, 6, .inl yhnf)), (zp, .inr (8, [.int 8, .int 2, .ref zpc, .int zpn])), (zpc, .inl (g.2.2.1, 16, .inl zpf)), (nr, .inr (8, [.int 8, .int 10, .ref nrc, .int nrn])), (nrc, .inl (g.2.2.1, 80, .inl fa_94))] rfl ?_
    refine k_aload_n X dX5_showReel_207 6 rfl ?_
    refine k_get (ci := 5) X inlX5 rfl 0 (by decide) dX5_showReel_208 mw125 1 rfl rfl ?_
    refine k_iload_n X dX5_showReel_211 9 rfl ?_
    refine k_iconst (v := 5) X dX5_showReel_212 (by decide) ?_
    refine k_iload X dX5_showReel_213 0 rfl ?_
    refine k_callVV (n := 3) (As := [.int p0, .int 5, .int z_58]) (st := []) X [(nr, .inr (8, [.int 8, .int 10, .ref nrc, .int nrn])), (nrc, .inl (g.2.2.1, 80, .inl fa_94))] [(hs, .inr (7, [v0hs, v1hs, v2hs, .ref zp, .int zmd, .int ztr])), (h0, .inr (5, [.ref nr, .int xsnapped, .int xmostSlip, .int xslip, .int xisDrawn, .int xseed2_45, .int z_78, .int z_61, .int z_74])), (hh, .inr (3, [v0hh, .ref yhn, v2hh, v3hh, v4hh, v5hh, v6hh, v7hh])), (yhn, .inr (8, [.int 1, .int 6, .ref yhnc, .int yhnn])), (yhnc, .inl (g.2.2.1, 6, .inl yhnf)), (zp, .inr (8, [.int 8, .int 2, .ref zpc, .int zpn])), (zpc, .inl (g.2.2.1, 16, .inl zpf))] [7, 8] [0, 1, 2, 3, 4, 5, 6] (t_put l g nr p0 5 z_58 8 10 nrc nrn 80 fa_94 (tbk_8_10)) dX5_showReel_215 mw766 mw326 mw327 mw64 mw328 rfl 8 rfl rfl 0 _ rfl yk_yX8_put_3 rfl (Nat.le_of_ble_eq_true rfl) (Nat.le_of_ble_eq_true rfl) (Nat.le_of_ble_eq_true rfl) (Nat.le_of_ble_eq_true rfl) (Nat.le_of_ble_eq_true rfl) rfl rfl (by decide) rfl (by decide) (by decide) ?_
    rintro w ⟨fa_97, hr_99, rfl⟩
    refine k_ws [(hs, .inr (7, [v0hs, v1hs, v2hs, .ref zp, .int zmd, .int ztr])), (h0, .inr (5, [.ref nr, .int xsnapped, .int xmostSlip, .int xslip, .int xisDrawn, .int xseed2_45, .int z_78, .int z_61, .int z_74])), (hh, .inr (3, [v0hh, .ref yhn, v2hh, v3hh, v4hh, v5hh, v6hh, v7hh])), (yhn, .inr (8, [.int 1, .int 6, .ref yhnc, .int yhnn])), (yhnc, .inl (g.2.2.1, 6, .inl yhnf)), (zp, .inr (8, [.int 8, .int 2, .ref zpc, .int zpn])), (zpc, .inl (g.2.2.1, 16, .inl zpf)), (nr, .inr (8, [.int 8, .int 10, .ref nrc, .int nrn])), (nrc, .inl (g.2.2.1, 80, .inl fa_97))] rfl ?_
    refine k_aload_n X dX5_showReel_218 6 rfl ?_
    refine k_get (ci := 5) X inlX5 rfl 0 (by decide) dX5_showReel_219 mw125 1 rfl rfl ?_
    refine k_iload_n X dX5_showReel_222 9 rfl ?_
    refine k_bipush (v := 6) X dX5_showReel_223 (by decide) ?_
    refine k_iload X dX5_showReel_225 3 rfl ?_
    refine k_callVV (n := 3) (As := [.int p0, .int 6, .int z_4]) (st := []) X [(nr, .inr (8, [.int 8, .int 10, .ref nrc, .int nrn])), (nrc, .inl (g.2.2.1, 80, .inl fa_97))] [(hs, .inr (7, [v0hs, v1hs, v2hs, .ref zp, .int zmd, .int ztr])), (h0, .inr (5, [.ref nr, .int xsnapped, .int xmostSlip, .int xslip, .int xisDrawn, .int xseed2_45, .int z_78, .int z_61, .int z_74])), (hh, .inr (3, [v0hh, .ref yhn, v2hh, v3hh, v4hh, v5hh, v6hh, v7hh])), (yhn, .inr (8, [.int 1, .int 6, .ref yhnc, .int yhnn])), (yhnc, .inl (g.2.2.1, 6, .inl yhnf)), (zp, .inr (8, [.int 8, .int 2, .ref zpc, .int zpn])), (zpc, .inl (g.2.2.1, 16, .inl zpf))] [7, 8] [0, 1, 2, 3, 4, 5, 6] (t_put l g nr p0 6 z_4 8 10 nrc nrn 80 fa_97 (tbk_8_10)) dX5_showReel_227 mw766 mw326 mw327 mw64 mw328 rfl 8 rfl rfl 0 _ rfl yk_yX8_put_3 rfl (Nat.le_of_ble_eq_true rfl) (Nat.le_of_ble_eq_true rfl) (Nat.le_of_ble_eq_true rfl) (Nat.le_of_ble_eq_true rfl) (Nat.le_of_ble_eq_true rfl) rfl rfl (by decide) rfl (by decide) (by decide) ?_
    rintro w ⟨fa_100, hr_102, rfl⟩
    refine k_ws [(hs, .inr (7, [v0hs, v1hs, v2hs, .ref zp, .int zmd, .int ztr])), (h0, .inr (5, [.ref nr, .int xsnapped, .int xmostSlip, .int xslip, .int xisDrawn, .int xseed2_45, .int z_78, .int z_61, .int z_74])), (hh, .inr (3, [v0hh, .ref yhn, v2hh, v3hh, v4hh, v5hh, v6hh, v7hh])), (yhn, .inr (8, [.int 1, .int 6, .ref yhnc, .int yhnn])), (yhnc, .inl (g.2.2.1, 6, .inl yhnf)), (zp, .inr (8, [.int 8, .int 2, .ref zpc, .int zpn])), (zpc, .inl (g.2.2.1, 16, .inl zpf)), (nr, .inr (8, [.int 8, .int 10, .ref nrc, .int nrn])), (nrc, .inl (g.2.2.1, 80, .inl fa_100))] rfl ?_
    refine k_aload_n X dX5_showReel_230 6 rfl ?_
    refine k_get (ci := 5) X inlX5 rfl 0 (by decide) dX5_showReel_231 mw125 1 rfl rfl ?_
    refine k_iload_n X dX5_showReel_234 9 rfl ?_
    refine k_bipush (v := 7) X dX5_showReel_235 (by decide) ?_
    refine k_aload_n X dX5_showReel_237 6 rfl ?_
    refine k_get (ci := 5) X inlX5 rfl 6 (by decide) dX5_showReel_238 mw131 1 rfl rfl ?_
    refine k_callVV (n := 3) (As := [.int p0, .int 7, .int z_78]) (st := []) X [(nr, .inr (8, [.int 8, .int 10, .ref nrc, .int nrn])), (nrc, .inl (g.2.2.1, 80, .inl fa_100))] [(hs, .inr (7, [v0hs, v1hs, v2hs, .ref zp, .int zmd, .int ztr])), (h0, .inr (5, [.ref nr, .int xsnapped, .int xmostSlip, .int xslip, .int xisDrawn, .int xseed2_45, .int z_78, .int z_61, .int z_74])), (hh, .inr (3, [v0hh, .ref yhn, v2hh, v3hh, v4hh, v5hh, v6hh, v7hh])), (yhn, .inr (8, [.int 1, .int 6, .ref yhnc, .int yhnn])), (yhnc, .inl (g.2.2.1, 6, .inl yhnf)), (zp, .inr (8, [.int 8, .int 2, .ref zpc, .int zpn])), (zpc, .inl (g.2.2.1, 16, .inl zpf))] [7, 8] [0, 1, 2, 3, 4, 5, 6] (t_put l g nr p0 7 z_78 8 10 nrc nrn 80 fa_100 (tbk_8_10)) dX5_showReel_241 mw766 mw326 mw327 mw64 mw328 rfl 8 rfl rfl 0 _ rfl yk_yX8_put_3 rfl (Nat.le_of_ble_eq_true rfl) (Nat.le_of_ble_eq_true rfl) (Nat.le_of_ble_eq_true rfl) (Nat.le_of_ble_eq_true rfl) (Nat.le_of_ble_eq_true rfl) rfl rfl (by decide) rfl (by decide) (by decide) ?_
    rintro w ⟨fa_103, hr_105, rfl⟩
    refine k_ws [(hs, .inr (7, [v0hs, v1hs, v2hs, .ref zp, .int zmd, .int ztr])), (h0, .inr (5, [.ref nr, .int xsnapped, .int xmostSlip, .int xslip, .int xisDrawn, .int xseed2_45, .int z_78, .int z_61, .int z_74])), (hh, .inr (3, [v0hh, .ref yhn, v2hh, v3hh, v4hh, v5hh, v6hh, v7hh])), (yhn, .inr (8, [.int 1, .int 6, .ref yhnc, .int yhnn])), (yhnc, .inl (g.2.2.1, 6, .inl yhnf)), (zp, .inr (8, [.int 8, .int 2, .ref zpc, .int zpn])), (zpc, .inl (g.2.2.1, 16, .inl zpf)), (nr, .inr (8, [.int 8, .int 10, .ref nrc, .int nrn])), (nrc, .inl (g.2.2.1, 80, .inl fa_103))] rfl ?_
    exact k_vret X hr dX5_showReel_244 (Nat.le_of_ble_eq_true rfl) (Nat.le_of_ble_eq_true rfl) [1, 7, 8, 2, 3, 4, 0, 5, 6] (by decide) rfl rfl ⟨xseed2_45, z_78, z_61, z_74, fa_103, ⟨z_1, ez_1, ⟨z_2, ez_2, ⟨z_3, ez_3, ⟨z_4, ez_4, ⟨z_6, ez_6, (Or.inr ⟨h_8, ⟨r_43, hr_44, ⟨xseed2_45, r_46, hq_47, ⟨z_48, ez_48, ⟨z_50, ez_50, ⟨z_52, ez_52, ⟨z_53, ez_53, ⟨r_54, hq_55, ⟨z_56, ez_56, ⟨z_58, ez_58, ⟨z_59, ez_59, ⟨z_61, ez_61, ⟨z_63, ez_63, ⟨r_65, hq_66, ⟨z_67, ez_67, ⟨z_69, ez_69, ⟨r_72, hr_73, ⟨z_74, ez_74, ⟨z_76, ez_76, ⟨z_78, ez_78, ⟨fa_80, hr_82, ⟨fa_83, hr_85, ⟨z_86, ez_86, ⟨fa_88, hr_90, ⟨fa_91, hr_93, ⟨fa_94, hr_96, ⟨fa_97, hr_99, ⟨fa_100, hr_102, ⟨fa_103, hr_105, ⟨rfl, rfl, rfl, rfl, rfl⟩⟩⟩⟩⟩⟩⟩⟩⟩⟩⟩⟩⟩⟩⟩⟩⟩⟩⟩⟩⟩⟩⟩⟩⟩⟩⟩⟩⟩⟩)⟩⟩⟩⟩⟩, rfl⟩


set_option maxHeartbeats 4000000 in
set_option maxRecDepth 100000 in
theorem n_snapWeakPlacesX (l : Launch) (g : Gx) (h0 : Nat) (hh : Nat) (hs : Nat) (p0 : Int32) (nr : Nat) (xsnapped : Int32) (xmostSlip : Int32) (xslip : Int32) (xisDrawn : Int32) (xseed : Int32) (xtick : Int32) (xmotorTick : Int32) (xahead : Int32) (v0hh : Value) (yhn : Nat) (v2hh : Value) (v3hh : Value) (v4hh : Value) (v5hh : Value) (v6hh : Value) (v7hh : Value) (yhnc : Nat) (yhnn : Int32) (yhnf : Nat → Int32) (v0hs : Value) (v1hs : Value) (zw : Nat) (v3hs : Value) (zmd : Int32) (ztr : Int32) (zwc : Nat) (zwn : Int32) (zwf : Nat → Int32) : cV l g yX5_snapWeakPlaces cX5_snapWeakPlaces 5 2 43 0 0 [.ref h0, .ref hh, .ref hs, .int p0] [(h0, .inr (5, [.ref nr, .int xsnapped, .int xmostSlip, .int xslip, .int xisDrawn, .int xseed, .int xtick, .int xmotorTick, .int xahead])), (hh, .inr (3, [v0hh, .ref yhn, v2hh, v3hh, v4hh, v5hh, v6hh, v7hh])), (yhn, .inr (8, [.int 1, .int 6, .ref yhnc, .int yhnn])), (yhnc, .inl (g.2.2.1, 6, .inl yhnf)), (hs, .inr (7, [v0hs, v1hs, .ref zw, v3hs, .int zmd, .int ztr])), (zw, .inr (8, [.int 6, .int 3, .ref zwc, .int zwn])), (zwc, .inl (g.2.2.1, 18, .inl zwf))] (fun w => ∃ (xseed2 : Int32) (xsnapped2 : Int32), (R_n_snapWeakPlacesX p0 xsnapped xisDrawn xseed yhnf zmd zwn zwf xseed2 xsnapped2) ∧ w = [(h0, .inr (5, [.ref nr, .int xsnapped2, .int xmostSlip, .int xslip, .int xisDrawn, .int xseed2, .int xtick, .int xmotorTick, .int xahead])), (hh, .inr (3, [v0hh, .ref yhn, v2hh, v3hh, v4hh, v5hh, v6hh, v7hh])), (yhn, .inr (8, [.int 1, .int 6, .ref yhnc, .int yhnn])), (yhnc, .inl (g.2.2.1, 6, .inl yhnf)), (hs, .inr (7, [v0hs, v1hs, .ref zw, v3hs, .int zmd, .int ztr])), (zw, .inr (8, [.int 6, .int 3, .ref zwc, .int zwn])), (zwc, .inl (g.2.2.1, 18, .inl zwf))]) := by
  refine cV.of (by decide) (Nat.le_of_ble_eq_true rfl) ?_
  intro p e s m args below meth c A X hr hi
  refine k_lveq [(0, .ref h0), (1, .ref hh), (2, .ref hs), (3, .int p0)] rfl ?_
  refine k_iconst (v := 0) X dX5_snapWeakPlaces_0 (by decide) ?_
  refine k_istore [(4, .int 0), (0, .ref h0), (1, .ref hh), (2, .ref hs), (3, .int p0)] X dX5_snapWeakPlaces_1 (by decide) rfl ?_
  refine (fun hL : ∀ (nn_5 : Nat) (u_1 : Int32) (u_3 : Int32) (u_4 : Int32), (zwn.toInt - u_1.toInt).toNat = nn_5 → (IV u_1 0 2147483647) → (∀ (xseed2 : Int32) (xsnapped2 : Int32), (∃ n_0 : Nat, R_n_snapWeakPlacesX_L0 p0 xisDrawn yhnf zmd zwn zwf (fun (u_4 : Int32) (u_3 : Int32) => xseed2 = u_4 ∧ xsnapped2 = u_3) (fun (u_4 : Int32) (u_3 : Int32) => xseed2 = u_4 ∧ xsnapped2 = u_3) n_0 u_1 u_3 u_4) → R_n_snapWeakPlacesX p0 xsnapped xisDrawn xseed yhnf zmd zwn zwf xseed2 xsnapped2) → Wk p l e _ s m args below meth c _ A g _ _ _ [(h0, .inr (5, [.ref nr, .int u_3, .int xmostSlip, .int xslip, .int xisDrawn, .int u_4, .int xtick, .int xmotorTick, .int xahead])), (hh, .inr (3, [v0hh, .ref yhn, v2hh, v3hh, v4hh, v5hh, v6hh, v7hh])), (yhn, .inr (8, [.int 1, .int 6, .ref yhnc, .int yhnn])), (yhnc, .inl (g.2.2.1, 6, .inl yhnf)), (hs, .inr (7, [v0hs, v1hs, .ref zw, v3hs, .int zmd, .int ztr])), (zw, .inr (8, [.int 6, .int 3, .ref zwc, .int zwn])), (zwc, .inl (g.2.2.1, 18, .inl zwf))] [(4, .int u_1), (0, .ref h0), (1, .ref hh), (2, .ref hs), (3, .int p0)] 3 [] => hL _ 0 xsnapped xseed rfl (iv_w (show IV 0 0 0 from (by decide)) (by decide) (by decide)) (fun xseed2 xsnapped2 h => h)) ?_
  refine fun nn_5 => Nat.strongRecOn nn_5 (fun nn_5 ih_7 => ?_)
  intro u_1 u_3 u_4 hm_6 hv_2 KH_0
  refine k_aload_n X dX5_snapWeakPlaces_3 1 rfl ?_
  refine k_get (ci := 5) X inlX5 rfl 4 (by decide) dX5_snapWeakPlaces_4 mw129 0 rfl rfl ?_
  refine k_if_eq 85 X dX5_snapWeakPlaces_7 (by decide) (fun h_8 => ?_) (fun h_8 => ?_)
  · skip
    have iv_9 : IV xisDrawn 0 0 := iv_meet (iv_any xisDrawn) (iv_e h_8 (show IV 0 0 0 from (by decide))) (by decide) (by decide)
    exact k_vret X hr dX5_snapWeakPlaces_85 (Nat.le_of_ble_eq_true rfl) (Nat.le_of_ble_eq_true rfl) [0, 1, 2, 3, 4, 5, 6] (by decide) rfl rfl ⟨u_4, u_3, (KH_0 _ _ ⟨0 + 1, (Or.inl ⟨h_8, ⟨rfl, rfl⟩⟩)⟩), rfl⟩
  · skip
    refine k_iload X dX5_snapWeakPlaces_10 0 rfl ?_
    refine k_aload_n X dX5_snapWeakPlaces_12 3 rfl ?_
    refine k_get (ci := 7) X inlX7 rfl 2 (by decide) dX5_snapWeakPlaces_13 mw801 4 rfl rfl ?_
    refine k_get (ci := 8) X inlX8 rfl 3 (by decide) dX5_snapWeakPlaces_16 mw754 5 rfl rfl ?_
    refine k_ic_ge 85 X dX5_snapWeakPlaces_19 (by decide) (fun h_10 => ?_) (fun h_10 => ?_)
    · skip
      have j_11 : zwn.toInt ≤ u_1.toInt := iv_le h_10
      exact k_vret X hr dX5_snapWeakPlaces_85 (Nat.le_of_ble_eq_true rfl) (Nat.le_of_ble_eq_true rfl) [0, 1, 2, 3, 4, 5, 6] (by decide) rfl rfl ⟨u_4, u_3, (KH_0 _ _ ⟨0 + 1, (Or.inr ⟨h_8, (Or.inl ⟨h_10, ⟨rfl, rfl⟩⟩)⟩)⟩), rfl⟩
    · skip
      have j_12 : u_1.toInt < zwn.toInt := iv_nle h_10
      have iv_13 : IV u_1 0 2147483646 := iv_ltL (iv_nle h_10) hv_2 (iv_any zwn) (by decide)
      have iv_14 : IV zwn 1 2147483647 := iv_ltR (iv_nle h_10) hv_2 (iv_any zwn) (by decide)
      refine k_aload_n X dX5_snapWeakPlaces_22 3 rfl ?_
      refine k_iload X dX5_snapWeakPlaces_23 0 rfl ?_
      refine k_callVI (n := 1) (As := [.int u_1]) (st := []) X [(hs, .inr (7, [v0hs, v1hs, .ref zw, v3hs, .int zmd, .int ztr])), (zw, .inr (8, [.int 6, .int 3, .ref zwc, .int zwn])), (zwc, .inl (g.2.2.1, 18, .inl zwf))] [(h0, .inr (5, [.ref nr, .int u_3, .int xmostSlip, .int xslip, .int xisDrawn, .int u_4, .int xtick, .int xmotorTick, .int xahead])), (hh, .inr (3, [v0hh, .ref yhn, v2hh, v3hh, v4hh, v5hh, v6hh, v7hh])), (yhn, .inr (8, [.int 1, .int 6, .ref yhnc, .int yhnn])), (yhnc, .inl (g.2.2.1, 6, .inl yhnf))] [4, 5, 6] [0, 1, 2, 3] (s_isWeakX l g hs u_1 v0hs v1hs zw v3hs zmd ztr zwc zwn zwf) dX5_snapWeakPlaces_25 mw802 mw661 mw662 mw23 mw663 rfl 7 rfl rfl 0 _ rfl yk_yX7_isWeak_1 rfl (Nat.le_of_ble_eq_true rfl) (Nat.le_of_ble_eq_true rfl) (Nat.le_of_ble_eq_true rfl) (Nat.le_of_ble_eq_true rfl) (Nat.le_of_ble_eq_true rfl) rfl rfl (by decide) rfl (by decide) (by decide) ?_
      rintro r_15 w ⟨hq_16, rfl⟩
      refine k_ws [(h0, .inr (5, [.ref nr, .int u_3, .int xmostSlip, .int xslip, .int xisDrawn, .int u_4, .int xtick, .int xmotorTick, .int xahead])), (hh, .inr (3, [v0hh, .ref yhn, v2hh, v3hh, v4hh, v5hh, v6hh, v7hh])), (yhn, .inr (8, [.int 1, .int 6, .ref yhnc, .int yhnn])), (yhnc, .inl (g.2.2.1, 6, .inl yhnf)), (hs, .inr (7, [v0hs, v1hs, .ref zw, v3hs, .int zmd, .int ztr])), (zw, .inr (8, [.int 6, .int 3, .ref zwc, .int zwn])), (zwc, .inl (g.2.2.1, 18, .inl zwf))] rfl ?_
      refine k_if_eq 79 X dX5_snapWeakPlaces_28 (by decide) (fun h_17 => ?_) (fun h_17 => ?_)
      · skip
        have iv_18 : IV r_15 0 0 := iv_meet (iv_any r_15) (iv_e h_17 (show IV 0 0 0 from (by decide))) (by decide) (by decide)
        obtain ⟨z_19, ez_19⟩ : ∃ y : Int32, u_1 + Int32.ofInt 1 = y := ⟨_, rfl⟩
        refine k_iinc z_19 [(4, .int z_19), (0, .ref h0), (1, .ref hh), (2, .ref hs), (3, .int p0)] 0 X dX5_snapWeakPlaces_79 rfl ez_19 (by decide) rfl ?_
        have i_20 : z_19.toInt = u_1.toInt + 1 := in_inc ez_19 (by decide) iv_13 (by decide) (by decide)
        have iv_21 : IV z_19 1 2147483647 := iz1 i_20 iv_13 (by decide) (by decide)
        refine k_goto 3 X dX5_snapWeakPlaces_82 (by decide) ?_
        exact ih_7 _ (by omega) z_19 u_3 u_4 rfl (iv_w iv_21 (by decide) (by decide)) (fun xseed2 xsnapped2 h => h.elim (fun n_0 q => (KH_0 _ _ ⟨n_0 + 1, (Or.inr ⟨h_8, (Or.inr ⟨h_10, ⟨r_15, hq_16, (Or.inl ⟨h_17, ⟨z_19, ez_19, q⟩⟩)⟩⟩)⟩)⟩)))
      · skip
        refine k_aload_n X dX5_snapWeakPlaces_31 3 rfl ?_
        refine k_get (ci := 7) X inlX7 rfl 2 (by decide) dX5_snapWeakPlaces_32 mw801 4 rfl rfl ?_
        refine k_iload X dX5_snapWeakPlaces_35 0 rfl ?_
        refine k_iconst (v := 0) X dX5_snapWeakPlaces_37 (by decide) ?_
        refine k_callVI (n := 2) (As := [.int u_1, .int 0]) (st := []) X [(zw, .inr (8, [.int 6, .int 3, .ref zwc, .int zwn])), (zwc, .inl (g.2.2.1, 18, .inl zwf))] [(h0, .inr (5, [.ref nr, .int u_3, .int xmostSlip, .int xslip, .int xisDrawn, .int u_4, .int xtick, .int xmotorTick, .int xahead])), (hh, .inr (3, [v0hh, .ref yhn, v2hh, v3hh, v4hh, v5hh, v6hh, v7hh])), (yhn, .inr (8, [.int 1, .int 6, .ref yhnc, .int yhnn])), (yhnc, .inl (g.2.2.1, 6, .inl yhnf)), (hs, .inr (7, [v0hs, v1hs, .ref zw, v3hs, .int zmd, .int ztr]))] [5, 6] [0, 1, 2, 3, 4] (t_at l g zw u_1 0 6 3 zwc zwn 18 zwf (tbk_6_3)) dX5_snapWeakPlaces_38 mw757 mw376 mw377 mw64 mw378 rfl 8 rfl rfl 0 _ rfl yk_yX8_at_2 rfl (Nat.le_of_ble_eq_true rfl) (Nat.le_of_ble_eq_true rfl) (Nat.le_of_ble_eq_true rfl) (Nat.le_of_ble_eq_true rfl) (Nat.le_of_ble_eq_true rfl) rfl rfl (by decide) rfl (by decide) (by decide) ?_
        rintro r_22 w ⟨hr_23, rfl⟩
        refine k_ws [(h0, .inr (5, [.ref nr, .int u_3, .int xmostSlip, .int xslip, .int xisDrawn, .int u_4, .int xtick, .int xmotorTick, .int xahead])), (hh, .inr (3, [v0hh, .ref yhn, v2hh, v3hh, v4hh, v5hh, v6hh, v7hh])), (yhn, .inr (8, [.int 1, .int 6, .ref yhnc, .int yhnn])), (yhnc, .inl (g.2.2.1, 6, .inl yhnf)), (hs, .inr (7, [v0hs, v1hs, .ref zw, v3hs, .int zmd, .int ztr])), (zw, .inr (8, [.int 6, .int 3, .ref zwc, .int zwn])), (zwc, .inl (g.2.2.1, 18, .inl zwf))] rfl ?_
        refine k_iload_n X dX5_snapWeakPlaces_41 4 rfl ?_
        refine k_ic_ne 79 X dX5_snapWeakPlaces_42 (by decide) (fun h_24 => ?_) (fun h_24 => ?_)
        · skip
          obtain ⟨z_25, ez_25⟩ : ∃ y : Int32, u_1 + Int32.ofInt 1 = y := ⟨_, rfl⟩
          refine k_iinc z_25 [(4, .int z_25), (0, .ref h0), (1, .ref hh), (2, .ref hs), (3, .int p0)] 0 X dX5_snapWeakPlaces_79 rfl ez_25 (by decide) rfl ?_
          have i_26 : z_25.toInt = u_1.toInt + 1 := in_inc ez_25 (by decide) iv_13 (by decide) (by decide)
          have iv_27 : IV z_25 1 2147483647 := iz1 i_26 iv_13 (by decide) (by decide)
          refine k_goto 3 X dX5_snapWeakPlaces_82 (by decide) ?_
          exact ih_7 _ (by omega) z_25 u_3 u_4 rfl (iv_w iv_27 (by decide) (by decide)) (fun xseed2 xsnapped2 h => h.elim (fun n_0 q => (KH_0 _ _ ⟨n_0 + 1, (Or.inr ⟨h_8, (Or.inr ⟨h_10, ⟨r_15, hq_16, (Or.inr ⟨h_17, ⟨r_22, hr_23, (Or.inl ⟨h_24, ⟨z_25, ez_25, q⟩⟩)⟩⟩)⟩⟩)⟩)⟩)))
        · skip
          refine k_aload_n X dX5_snapWeakPlaces_45 1 rfl ?_
          refine k_callVI (n := 0) (As := []) (st := []) X [(h0, .inr (5, [.ref nr, .int u_3, .int xmostSlip, .int xslip, .int xisDrawn, .int u_4, .int xtick, .int xmotorTick, .int xahead]))] [(hh, .inr (3, [v0hh, .ref yhn, v2hh, v3hh, v4hh, v5hh, v6hh, v7hh])), (yhn, .inr (8, [.int 1, .int 6, .ref yhnc, .int yhnn])), (yhnc, .inl (g.2.2.1, 6, .inl yhnf)), (hs, .inr (7, [v0hs, v1hs, .ref zw, v3hs, .int zmd, .int ztr])), (zw, .inr (8, [.int 6, .int 3, .ref zwc, .int zwn])), (zwc, .inl (g.2.2.1, 18, .inl zwf))] [0] [1, 2, 3, 4, 5, 6] (n_drawX l g h0 nr u_3 xmostSlip xslip xisDrawn u_4 xtick xmotorTick xahead) dX5_snapWeakPlaces_46 mw791 mw792 mw793 mw31 mw794 rfl 5 rfl rfl 0 _ rfl yk_yX5_draw_0 rfl (Nat.le_of_ble_eq_true rfl) (Nat.le_of_ble_eq_true rfl) (Nat.le_of_ble_eq_true rfl) (Nat.le_of_ble_eq_true rfl) (Nat.le_of_ble_eq_true rfl) rfl rfl (by decide) rfl (by decide) (by decide) ?_
          rintro r_29 w ⟨xseed2_28, hq_30, rfl⟩
          refine k_ws [(hh, .inr (3, [v0hh, .ref yhn, v2hh, v3hh, v4hh, v5hh, v6hh, v7hh])), (yhn, .inr (8, [.int 1, .int 6, .ref yhnc, .int yhnn])), (yhnc, .inl (g.2.2.1, 6, .inl yhnf)), (hs, .inr (7, [v0hs, v1hs, .ref zw, v3hs, .int zmd, .int ztr])), (zw, .inr (8, [.int 6, .int 3, .ref zwc, .int zwn])), (zwc, .inl (g.2.2.1, 18, .inl zwf)), (h0, .inr (5, [.ref nr, .int u_3, .int xmostSlip, .int xslip, .int xisDrawn, .int xseed2_28, .int xtick, .int xmotorTick, .int xahead]))] rfl ?_
          refine k_bipush (v := 100) X dX5_snapWeakPlaces_49 (by decide) ?_
          refine k_irem X dX5_snapWeakPlaces_51 (by decide) ?_
          refine k_nm (fun z_31 ez_31 => ?_)
          refine k_aload_n X dX5_snapWeakPlaces_52 3 rfl ?_
          refine k_get (ci := 7) X inlX7 rfl 2 (by decide) dX5_snapWeakPlaces_53 mw801 3 rfl rfl ?_
          refine k_iload X dX5_snapWeakPlaces_56 0 rfl ?_
          refine k_iconst (v := 2) X dX5_snapWeakPlaces_58 (by decide) ?_
          refine k_callVI (n := 2) (As := [.int u_1, .int 2]) (st := [.int z_31]) X [(zw, .inr (8, [.int 6, .int 3, .ref zwc, .int zwn])), (zwc, .inl (g.2.2.1, 18, .inl zwf))] [(hh, .inr (3, [v0hh, .ref yhn, v2hh, v3hh, v4hh, v5hh, v6hh, v7hh])), (yhn, .inr (8, [.int 1, .int 6, .ref yhnc, .int yhnn])), (yhnc, .inl (g.2.2.1, 6, .inl yhnf)), (hs, .inr (7, [v0hs, v1hs, .ref zw, v3hs, .int zmd, .int ztr])), (h0, .inr (5, [.ref nr, .int u_3, .int xmostSlip, .int xslip, .int xisDrawn, .int xseed2_28, .int xtick, .int xmotorTick, .int xahead]))] [4, 5] [0, 1, 2, 3, 6] (t_at l g zw u_1 2 6 3 zwc zwn 18 zwf (tbk_6_3)) dX5_snapWeakPlaces_59 mw757 mw376 mw377 mw64 mw378 rfl 8 rfl rfl 0 _ rfl yk_yX8_at_2 rfl (Nat.le_of_ble_eq_true rfl) (Nat.le_of_ble_eq_true rfl) (Nat.le_of_ble_eq_true rfl) (Nat.le_of_ble_eq_true rfl) (Nat.le_of_ble_eq_true rfl) rfl rfl (by decide) rfl (by decide) (by decide) ?_
          rintro r_32 w ⟨hr_33, rfl⟩
          refine k_ws [(hh, .inr (3, [v0hh, .ref yhn, v2hh, v3hh, v4hh, v5hh, v6hh, v7hh])), (yhn, .inr (8, [.int 1, .int 6, .ref yhnc, .int yhnn])), (yhnc, .inl (g.2.2.1, 6, .inl yhnf)), (hs, .inr (7, [v0hs, v1hs, .ref zw, v3hs, .int zmd, .int ztr])), (h0, .inr (5, [.ref nr, .int u_3, .int xmostSlip, .int xslip, .int xisDrawn, .int xseed2_28, .int xtick, .int xmotorTick, .int xahead])), (zw, .inr (8, [.int 6, .int 3, .ref zwc, .int zwn])), (zwc, .inl (g.2.2.1, 18, .inl zwf))] rfl ?_
          refine k_ic_ge 79 X dX5_snapWeakPlaces_62 (by decide) (fun h_34 => ?_) (fun h_34 => ?_)
          · skip
            have j_35 : r_32.toInt ≤ z_31.toInt := iv_le h_34
            obtain ⟨z_36, ez_36⟩ : ∃ y : Int32, u_1 + Int32.ofInt 1 = y := ⟨_, rfl⟩
            refine k_iinc z_36 [(4, .int z_36), (0, .ref h0), (1, .ref hh), (2, .ref hs), (3, .int p0)] 0 X dX5_snapWeakPlaces_79 rfl ez_36 (by decide) rfl ?_
            have i_37 : z_36.toInt = u_1.toInt + 1 := in_inc ez_36 (by decide) iv_13 (by decide) (by decide)
            have iv_38 : IV z_36 1 2147483647 := iz1 i_37 iv_13 (by decide) (by decide)
            refine k_goto 3 X dX5_snapWeakPlaces_82 (by decide) ?_
            refine k_sub [(h0, .inr (5, [.ref nr, .int u_3, .int xmostSlip, .int xslip, .int xisDrawn, .int xseed2_28, .int xtick, .int xmotorTick, .int xahead])), (hh, .inr (3, [v0hh, .ref yhn, v2hh, v3hh, v4hh, v5hh, v6hh, v7hh])), (yhn, .inr (8, [.int 1, .int 6, .ref yhnc, .int yhnn])), (yhnc, .inl (g.2.2.1, 6, .inl yhnf)), (hs, .inr (7, [v0hs, v1hs, .ref zw, v3hs, .int zmd, .int ztr])), (zw, .inr (8, [.int 6, .int 3, .ref zwc, .int zwn])), (zwc, .inl (g.2.2.1, 18, .inl zwf))] [4, 0, 1, 2, 3, 5, 6] rfl (by decide) rfl ?_
            exact ih_7 _ (by omega) z_36 u_3 xseed2_28 rfl (iv_w iv_38 (by decide) (by decide)) (fun xseed2 xsnapped2 h => h.elim (fun n_0 q => (KH_0 _ _ ⟨n_0 + 1, (Or.inr ⟨h_8, (Or.inr ⟨h_10, ⟨r_15, hq_16, (Or.inr ⟨h_17, ⟨r_22, hr_23, (Or.inr ⟨h_24, ⟨xseed2_28, r_29, hq_30, ⟨z_31, ez_31, ⟨r_32, hr_33, (Or.inl ⟨h_34, ⟨z_36, ez_36, q⟩⟩)⟩⟩⟩⟩)⟩⟩)⟩⟩)⟩)⟩)))
          · skip
            have j_39 : z_31.toInt < r_32.toInt := iv_nle h_34
            have iv_40 : IV z_31 (-2147483648) 2147483646 := iv_ltL (iv_nle h_34) (iv_any z_31) (iv_any r_32) (by decide)
            have iv_41 : IV r_32 (-2147483647) 2147483647 := iv_ltR (iv_nle h_34) (iv_any z_31) (iv_any r_32) (by decide)
            refine k_aload_n X dX5_snapWeakPlaces_65 1 rfl ?_
            refine k_dup X dX5_snapWeakPlaces_66 rfl ?_
            refine k_get (ci := 5) X inlX5 rfl 1 (by decide) dX5_snapWeakPlaces_67 mw126 4 rfl rfl ?_
            refine k_aload_n X dX5_snapWeakPlaces_70 2 rfl ?_
            refine k_iconst (v := 5) X dX5_snapWeakPlaces_71 (by decide) ?_
            refine k_callVI (n := 1) (As := [.int 5]) (st := [.int u_3, .ref h0]) X [(hh, .inr (3, [v0hh, .ref yhn, v2hh, v3hh, v4hh, v5hh, v6hh, v7hh])), (yhn, .inr (8, [.int 1, .int 6, .ref yhnc, .int yhnn])), (yhnc, .inl (g.2.2.1, 6, .inl yhnf))] [(hs, .inr (7, [v0hs, v1hs, .ref zw, v3hs, .int zmd, .int ztr])), (h0, .inr (5, [.ref nr, .int u_3, .int xmostSlip, .int xslip, .int xisDrawn, .int xseed2_28, .int xtick, .int xmotorTick, .int xahead])), (zw, .inr (8, [.int 6, .int 3, .ref zwc, .int zwn])), (zwc, .inl (g.2.2.1, 18, .inl zwf))] [0, 1, 2] [3, 4, 5, 6] (h_numberX l g hh 5 v0hh yhn v2hh v3hh v4hh v5hh v6hh v7hh yhnc yhnn yhnf) dX5_snapWeakPlaces_72 mw796 mw415 mw416 mw19 mw417 rfl 3 rfl rfl 0 _ rfl yk_yX3_number_1 rfl (Nat.le_of_ble_eq_true rfl) (Nat.le_of_ble_eq_true rfl) (Nat.le_of_ble_eq_true rfl) (Nat.le_of_ble_eq_true rfl) (Nat.le_of_ble_eq_true rfl) rfl rfl (by decide) rfl (by decide) (by decide) ?_
            rintro r_42 w ⟨hq_43, rfl⟩
            refine k_ws [(hs, .inr (7, [v0hs, v1hs, .ref zw, v3hs, .int zmd, .int ztr])), (h0, .inr (5, [.ref nr, .int u_3, .int xmostSlip, .int xslip, .int xisDrawn, .int xseed2_28, .int xtick, .int xmotorTick, .int xahead])), (zw, .inr (8, [.int 6, .int 3, .ref zwc, .int zwn])), (zwc, .inl (g.2.2.1, 18, .inl zwf)), (hh, .inr (3, [v0hh, .ref yhn, v2hh, v3hh, v4hh, v5hh, v6hh, v7hh])), (yhn, .inr (8, [.int 1, .int 6, .ref yhnc, .int yhnn])), (yhnc, .inl (g.2.2.1, 6, .inl yhnf))] rfl ?_
            refine k_iadd X dX5_snapWeakPlaces_75 ?_
            refine k_nm (fun z_44 ez_44 => ?_)
            refine k_put (ci := 5) [(hs, .inr (7, [v0hs, v1hs, .ref zw, v3hs, .int zmd, .int ztr])), (h0, .inr (5, [.ref nr, .int z_44, .int xmostSlip, .int xslip, .int xisDrawn, .int xseed2_28, .int xtick, .int xmotorTick, .int xahead])), (zw, .inr (8, [.int 6, .int 3, .ref zwc, .int zwn])), (zwc, .inl (g.2.2.1, 18, .inl zwf)), (hh, .inr (3, [v0hh, .ref yhn, v2hh, v3hh, v4hh, v5hh, v6hh, v7hh])), (yhn, .inr (8, [.int 1, .int 6, .ref yhnc, .int yhnn])), (yhnc, .inl (g.2.2.1, 6, .inl yhnf))] X inlX5 rfl tyX5_ok nmX5 1 (by decide) rfl dX5_snapWeakPlaces_76 mw126 1 rfl rfl rfl (Nat.le_of_ble_eq_true rfl) rfl ?_
            obtain ⟨z_46, ez_46⟩ : ∃ y : Int32, u_1 + Int32.ofInt 1 = y := ⟨_, rfl⟩
            refine k_iinc z_46 [(4, .int z_46), (0, .ref h0), (1, .ref hh), (2, .ref hs), (3, .int p0)] 0 X dX5_snapWeakPlaces_79 rfl ez_46 (by decide) rfl ?_
            have i_47 : z_46.toInt = u_1.toInt + 1 := in_inc ez_46 (by decide) iv_13 (by decide) (by decide)
            have iv_48 : IV z_46 1 2147483647 := iz1 i_47 iv_13 (by decide) (by decide)
            refine k_goto 3 X dX5_snapWeakPlaces_82 (by decide) ?_
            refine k_sub [(h0, .inr (5, [.ref nr, .int z_44, .int xmostSlip, .int xslip, .int xisDrawn, .int xseed2_28, .int xtick, .int xmotorTick, .int xahead])), (hh, .inr (3, [v0hh, .ref yhn, v2hh, v3hh, v4hh, v5hh, v6hh, v7hh])), (yhn, .inr (8, [.int 1, .int 6, .ref yhnc, .int yhnn])), (yhnc, .inl (g.2.2.1, 6, .inl yhnf)), (hs, .inr (7, [v0hs, v1hs, .ref zw, v3hs, .int zmd, .int ztr])), (zw, .inr (8, [.int 6, .int 3, .ref zwc, .int zwn])), (zwc, .inl (g.2.2.1, 18, .inl zwf))] [1, 4, 5, 6, 0, 2, 3] rfl (by decide) rfl ?_
            exact ih_7 _ (by omega) z_46 z_44 xseed2_28 rfl (iv_w iv_48 (by decide) (by decide)) (fun xseed2 xsnapped2 h => h.elim (fun n_0 q => (KH_0 _ _ ⟨n_0 + 1, (Or.inr ⟨h_8, (Or.inr ⟨h_10, ⟨r_15, hq_16, (Or.inr ⟨h_17, ⟨r_22, hr_23, (Or.inr ⟨h_24, ⟨xseed2_28, r_29, hq_30, ⟨z_31, ez_31, ⟨r_32, hr_33, (Or.inr ⟨h_34, ⟨r_42, hq_43, ⟨z_44, ez_44, ⟨z_46, ez_46, q⟩⟩⟩⟩)⟩⟩⟩⟩)⟩⟩)⟩⟩)⟩)⟩)))


set_option maxHeartbeats 4000000 in
set_option maxRecDepth 100000 in
theorem n_runX (l : Launch) (g : Gx) (h0 : Nat) (hh : Nat) (hs : Nat) (nr : Nat) (xsnapped : Int32) (xmostSlip : Int32) (xslip : Int32) (xisDrawn : Int32) (xseed : Int32) (xtick : Int32) (xmotorTick : Int32) (xahead : Int32) (nrc : Nat) (nrn : Int32) (nrf : Nat → Int32) (v0hh : Value) (yhn : Nat) (v2hh : Value) (v3hh : Value) (v4hh : Value) (v5hh : Value) (v6hh : Value) (v7hh : Value) (yhnc : Nat) (yhnn : Int32) (yhnf : Nat → Int32) (zr : Nat) (v1hs : Value) (zw : Nat) (zp : Nat) (zmd : Int32) (ztr : Int32) (zrc : Nat) (zrn : Int32) (zrf : Nat → Int32) (zpc : Nat) (zpn : Int32) (zpf : Nat → Int32) (zwc : Nat) (zwn : Int32) (zwf : Nat → Int32) (hr_0 : ¬ xmostSlip < 0) : cV l g yX5_run cX5_run 5 3 73 0 0 [.ref h0, .ref hh, .ref hs] [(h0, .inr (5, [.ref nr, .int xsnapped, .int xmostSlip, .int xslip, .int xisDrawn, .int xseed, .int xtick, .int xmotorTick, .int xahead])), (nr, .inr (8, [.int 8, .int 10, .ref nrc, .int nrn])), (nrc, .inl (g.2.2.1, 80, .inl nrf)), (hh, .inr (3, [v0hh, .ref yhn, v2hh, v3hh, v4hh, v5hh, v6hh, v7hh])), (yhn, .inr (8, [.int 1, .int 6, .ref yhnc, .int yhnn])), (yhnc, .inl (g.2.2.1, 6, .inl yhnf)), (hs, .inr (7, [.ref zr, v1hs, .ref zw, .ref zp, .int zmd, .int ztr])), (zr, .inr (8, [.int 8, .int 3, .ref zrc, .int zrn])), (zrc, .inl (g.2.2.1, 24, .inl zrf)), (zp, .inr (8, [.int 8, .int 2, .ref zpc, .int zpn])), (zpc, .inl (g.2.2.1, 16, .inl zpf)), (zw, .inr (8, [.int 6, .int 3, .ref zwc, .int zwn])), (zwc, .inl (g.2.2.1, 18, .inl zwf))] (fun w => ∃ (xsnapped2 : Int32) (xseed2 : Int32) (xtick2 : Int32) (xmotorTick2 : Int32) (xahead2 : Int32) (nrg : Nat → Int32), (R_n_runX xmostSlip xslip xisDrawn xseed nrn nrf yhnf zmd zrf zpf zwn zwf xsnapped2 xseed2 xtick2 xmotorTick2 xahead2 nrg) ∧ w = [(h0, .inr (5, [.ref nr, .int xsnapped2, .int xmostSlip, .int xslip, .int xisDrawn, .int xseed2, .int xtick2, .int xmotorTick2, .int xahead2])), (nr, .inr (8, [.int 8, .int 10, .ref nrc, .int nrn])), (nrc, .inl (g.2.2.1, 80, .inl nrg)), (hh, .inr (3, [v0hh, .ref yhn, v2hh, v3hh, v4hh, v5hh, v6hh, v7hh])), (yhn, .inr (8, [.int 1, .int 6, .ref yhnc, .int yhnn])), (yhnc, .inl (g.2.2.1, 6, .inl yhnf)), (hs, .inr (7, [.ref zr, v1hs, .ref zw, .ref zp, .int zmd, .int ztr])), (zr, .inr (8, [.int 8, .int 3, .ref zrc, .int zrn])), (zrc, .inl (g.2.2.1, 24, .inl zrf)), (zp, .inr (8, [.int 8, .int 2, .ref zpc, .int zpn])), (zpc, .inl (g.2.2.1, 16, .inl zpf)), (zw, .inr (8, [.int 6, .int 3, .ref zwc, .int zwn])), (zwc, .inl (g.2.2.1, 18, .inl zwf))]) := by
  refine cV.of (by decide) (Nat.le_of_ble_eq_true rfl) ?_
  intro p e s m args below meth c A X hr hi
  refine k_lveq [(0, .ref h0), (1, .ref hh), (2, .ref hs)] rfl ?_
  refine k_aload_n X dX5_run_0 0 rfl ?_
  refine k_iconst (v := 0) X dX5_run_1 (by decide) ?_
  refine k_put (ci := 5) [(h0, .inr (5, [.ref nr, .int 0, .int xmostSlip, .int xslip, .int xisDrawn, .int xseed, .int xtick, .int xmotorTick, .int xahead])), (nr, .inr (8, [.int 8, .int 10, .ref nrc, .int nrn])), (nrc, .inl (g.2.2.1, 80, .inl nrf)), (hh, .inr (3, [v0hh, .ref yhn, v2hh, v3hh, v4hh, v5hh, v6hh, v7hh])), (yhn, .inr (8, [.int 1, .int 6, .ref yhnc, .int yhnn])), (yhnc, .inl (g.2.2.1, 6, .inl yhnf)), (hs, .inr (7, [.ref zr, v1hs, .ref zw, .ref zp, .int zmd, .int ztr])), (zr, .inr (8, [.int 8, .int 3, .ref zrc, .int zrn])), (zrc, .inl (g.2.2.1, 24, .inl zrf)), (zp, .inr (8, [.int 8, .int 2, .ref zpc, .int zpn])), (zpc, .inl (g.2.2.1, 16, .inl zpf)), (zw, .inr (8, [.int 6, .int 3, .ref zwc, .int zwn])), (zwc, .inl (g.2.2.1, 18, .inl zwf))] X inlX5 rfl tyX5_ok nmX5 1 (by decide) rfl dX5_run_2 mw126 0 rfl rfl rfl (Nat.le_of_ble_eq_true rfl) rfl ?_
  refine k_aload_n X dX5_run_5 0 rfl ?_
  refine k_iconst (v := 0) X dX5_run_6 (by decide) ?_
  refine k_put (ci := 5) [(h0, .inr (5, [.ref nr, .int 0, .int xmostSlip, .int xslip, .int xisDrawn, .int xseed, .int 0, .int xmotorTick, .int xahead])), (nr, .inr (8, [.int 8, .int 10, .ref nrc, .int nrn])), (nrc, .inl (g.2.2.1, 80, .inl nrf)), (hh, .inr (3, [v0hh, .ref yhn, v2hh, v3hh, v4hh, v5hh, v6hh, v7hh])), (yhn, .inr (8, [.int 1, .int 6, .ref yhnc, .int yhnn])), (yhnc, .inl (g.2.2.1, 6, .inl yhnf)), (hs, .inr (7, [.ref zr, v1hs, .ref zw, .ref zp, .int zmd, .int ztr])), (zr, .inr (8, [.int 8, .int 3, .ref zrc, .int zrn])), (zrc, .inl (g.2.2.1, 24, .inl zrf)), (zp, .inr (8, [.int 8, .int 2, .ref zpc, .int zpn])), (zpc, .inl (g.2.2.1, 16, .inl zpf)), (zw, .inr (8, [.int 6, .int 3, .ref zwc, .int zwn])), (zwc, .inl (g.2.2.1, 18, .inl zwf))] X inlX5 rfl tyX5_ok nmX5 6 (by decide) rfl dX5_run_7 mw131 0 rfl rfl rfl (Nat.le_of_ble_eq_true rfl) rfl ?_
  refine k_aload_n X dX5_run_10 0 rfl ?_
  refine k_iconst (v := 0) X dX5_run_11 (by decide) ?_
  refine k_put (ci := 5) [(h0, .inr (5, [.ref nr, .int 0, .int xmostSlip, .int xslip, .int xisDrawn, .int xseed, .int 0, .int 0, .int xahead])), (nr, .inr (8, [.int 8, .int 10, .ref nrc, .int nrn])), (nrc, .inl (g.2.2.1, 80, .inl nrf)), (hh, .inr (3, [v0hh, .ref yhn, v2hh, v3hh, v4hh, v5hh, v6hh, v7hh])), (yhn, .inr (8, [.int 1, .int 6, .ref yhnc, .int yhnn])), (yhnc, .inl (g.2.2.1, 6, .inl yhnf)), (hs, .inr (7, [.ref zr, v1hs, .ref zw, .ref zp, .int zmd, .int ztr])), (zr, .inr (8, [.int 8, .int 3, .ref zrc, .int zrn])), (zrc, .inl (g.2.2.1, 24, .inl zrf)), (zp, .inr (8, [.int 8, .int 2, .ref zpc, .int zpn])), (zpc, .inl (g.2.2.1, 16, .inl zpf)), (zw, .inr (8, [.int 6, .int 3, .ref zwc, .int zwn])), (zwc, .inl (g.2.2.1, 18, .inl zwf))] X inlX5 rfl tyX5_ok nmX5 7 (by decide) rfl dX5_run_12 mw132 0 rfl rfl rfl (Nat.le_of_ble_eq_true rfl) rfl ?_
  refine k_aload_n X dX5_run_15 0 rfl ?_
  refine k_iconst (v := 0) X dX5_run_16 (by decide) ?_
  refine k_put (ci := 5) [(h0, .inr (5, [.ref nr, .int 0, .int xmostSlip, .int xslip, .int xisDrawn, .int xseed, .int 0, .int 0, .int 0])), (nr, .inr (8, [.int 8, .int 10, .ref nrc, .int nrn])), (nrc, .inl (g.2.2.1, 80, .inl nrf)), (hh, .inr (3, [v0hh, .ref yhn, v2hh, v3hh, v4hh, v5hh, v6hh, v7hh])), (yhn, .inr (8, [.int 1, .int 6, .ref yhnc, .int yhnn])), (yhnc, .inl (g.2.2.1, 6, .inl yhnf)), (hs, .inr (7, [.ref zr, v1hs, .ref zw, .ref zp, .int zmd, .int ztr])), (zr, .inr (8, [.int 8, .int 3, .ref zrc, .int zrn])), (zrc, .inl (g.2.2.1, 24, .inl zrf)), (zp, .inr (8, [.int 8, .int 2, .ref zpc, .int zpn])), (zpc, .inl (g.2.2.1, 16, .inl zpf)), (zw, .inr (8, [.int 6, .int 3, .ref zwc, .int zwn])), (zwc, .inl (g.2.2.1, 18, .inl zwf))] X inlX5 rfl tyX5_ok nmX5 8 (by decide) rfl dX5_run_17 mw133 0 rfl rfl rfl (Nat.le_of_ble_eq_true rfl) rfl ?_
  refine k_iconst (v := 0) X dX5_run_20 (by decide) ?_
  refine k_istore_n [(3, .int 0), (0, .ref h0), (1, .ref hh), (2, .ref hs)] X dX5_run_21 (by decide) rfl ?_
  refine (fun hL : ∀ (nn_9 : Nat) (uf_1 : Nat → Int32) (u_2 : Int32) (u_4 : Int32) (u_5 : Int32) (u_6 : Int32) (u_7 : Int32) (u_8 : Int32), (nrn.toInt - u_2.toInt).toNat = nn_9 → (IV u_2 0 2147483647) → (∀ (xsnapped2 : Int32) (xseed2 : Int32) (xtick2 : Int32) (xmotorTick2 : Int32) (xahead2 : Int32) (nrg : Nat → Int32), (∃ n_0 : Nat, R_n_runX_L0 xmostSlip xslip xisDrawn nrn yhnf zmd zrf zpf zwn zwf (fun (u_4 : Int32) (u_5 : Int32) (u_6 : Int32) (u_7 : Int32) (u_8 : Int32) (uf_1 : Nat → Int32) => xsnapped2 = u_4 ∧ xseed2 = u_5 ∧ xtick2 = u_6 ∧ xmotorTick2 = u_7 ∧ xahead2 = u_8 ∧ nrg = uf_1) n_0 uf_1 u_2 u_4 u_5 u_6 u_7 u_8) → R_n_runX xmostSlip xslip xisDrawn xseed nrn nrf yhnf zmd zrf zpf zwn zwf xsnapped2 xseed2 xtick2 xmotorTick2 xahead2 nrg) → Wk p l e _ s m args below meth c _ A g _ _ _ [(h0, .inr (5, [.ref nr, .int u_4, .int xmostSlip, .int xslip, .int xisDrawn, .int u_5, .int u_6, .int u_7, .int u_8])), (nr, .inr (8, [.int 8, .int 10, .ref nrc, .int nrn])), (nrc, .inl (g.2.2.1, 80, .inl uf_1)), (hh, .inr (3, [v0hh, .ref yhn, v2hh, v3hh, v4hh, v5hh, v6hh, v7hh])), (yhn, .inr (8, [.int 1, .int 6, .ref yhnc, .int yhnn])), (yhnc, .inl (g.2.2.1, 6, .inl yhnf)), (hs, .inr (7, [.ref zr, v1hs, .ref zw, .ref zp, .int zmd, .int ztr])), (zr, .inr (8, [.int 8, .int 3, .ref zrc, .int zrn])), (zrc, .inl (g.2.2.1, 24, .inl zrf)), (zp, .inr (8, [.int 8, .int 2, .ref zpc, .int zpn])), (zpc, .inl (g.2.2.1, 16, .inl zpf)), (zw, .inr (8, [.int 6, .int 3, .ref zwc, .int zwn])), (zwc, .inl (g.2.2.1, 18, .inl zwf))] [(3, .int u_2), (0, .ref h0), (1, .ref hh), (2, .ref hs)] 22 [] => hL _ nrf 0 0 xseed 0 0 0 rfl (iv_w (show IV 0 0 0 from (by decide)) (by decide) (by decide)) (fun xsnapped2 xseed2 xtick2 xmotorTick2 xahead2 nrg h => h)) ?_
  refine fun nn_9 => Nat.strongRecOn nn_9 (fun nn_9 ih_11 => ?_)
  intro uf_1 u_2 u_4 u_5 u_6 u_7 u_8 hm_10 hv_3 KH_0
  refine k_iload_n X dX5_run_22 0 rfl ?_
  refine k_aload_n X dX5_run_23 1 rfl ?_
  refine k_get (ci := 5) X inlX5 rfl 0 (by decide) dX5_run_24 mw125 0 rfl rfl ?_
  refine k_get (ci := 8) X inlX8 rfl 3 (by decide) dX5_run_27 mw754 1 rfl rfl ?_
  refine k_ic_ge 107 X dX5_run_30 (by decide) (fun h_12 => ?_) (fun h_12 => ?_)
  · skip
    have j_13 : nrn.toInt ≤ u_2.toInt := iv_le h_12
    exact k_vret X hr dX5_run_107 (Nat.le_of_ble_eq_true rfl) (Nat.le_of_ble_eq_true rfl) [0, 1, 2, 3, 4, 5, 6, 7, 8, 9, 10, 11, 12] (by decide) rfl rfl ⟨u_4, u_5, u_6, u_7, u_8, uf_1, (KH_0 _ _ _ _ _ _ ⟨0 + 1, (Or.inl ⟨h_12, ⟨rfl, rfl, rfl, rfl, rfl, rfl⟩⟩)⟩), rfl⟩
  · skip
    have j_14 : u_2.toInt < nrn.toInt := iv_nle h_12
    have iv_15 : IV u_2 0 2147483646 := iv_ltL (iv_nle h_12) hv_3 (iv_any nrn) (by decide)
    have iv_16 : IV nrn 1 2147483647 := iv_ltR (iv_nle h_12) hv_3 (iv_any nrn) (by decide)
    refine k_aload_n X dX5_run_33 1 rfl ?_
    refine k_get (ci := 5) X inlX5 rfl 0 (by decide) dX5_run_34 mw125 0 rfl rfl ?_
    refine k_iload_n X dX5_run_37 0 rfl ?_
    refine k_bipush (v := 8) X dX5_run_38 (by decide) ?_
    refine k_aload_n X dX5_run_40 1 rfl ?_
    refine k_get (ci := 5) X inlX5 rfl 7 (by decide) dX5_run_41 mw132 0 rfl rfl ?_
    refine k_callVV (n := 3) (As := [.int u_2, .int 8, .int u_7]) (st := []) X [(nr, .inr (8, [.int 8, .int 10, .ref nrc, .int nrn])), (nrc, .inl (g.2.2.1, 80, .inl uf_1))] [(h0, .inr (5, [.ref nr, .int u_4, .int xmostSlip, .int xslip, .int xisDrawn, .int u_5, .int u_6, .int u_7, .int u_8])), (hh, .inr (3, [v0hh, .ref yhn, v2hh, v3hh, v4hh, v5hh, v6hh, v7hh])), (yhn, .inr (8, [.int 1, .int 6, .ref yhnc, .int yhnn])), (yhnc, .inl (g.2.2.1, 6, .inl yhnf)), (hs, .inr (7, [.ref zr, v1hs, .ref zw, .ref zp, .int zmd, .int ztr])), (zr, .inr (8, [.int 8, .int 3, .ref zrc, .int zrn])), (zrc, .inl (g.2.2.1, 24, .inl zrf)), (zp, .inr (8, [.int 8, .int 2, .ref zpc, .int zpn])), (zpc, .inl (g.2.2.1, 16, .inl zpf)), (zw, .inr (8, [.int 6, .int 3, .ref zwc, .int zwn])), (zwc, .inl (g.2.2.1, 18, .inl zwf))] [1, 2] [0, 3, 4, 5, 6, 7, 8, 9, 10, 11, 12] (t_put l g nr u_2 8 u_7 8 10 nrc nrn 80 uf_1 (tbk_8_10)) dX5_run_44 mw766 mw326 mw327 mw64 mw328 rfl 8 rfl rfl 0 _ rfl yk_yX8_put_3 rfl (Nat.le_of_ble_eq_true rfl) (Nat.le_of_ble_eq_true rfl) (Nat.le_of_ble_eq_true rfl) (Nat.le_of_ble_eq_true rfl) (Nat.le_of_ble_eq_true rfl) rfl rfl (by decide +kernel) rfl (by decide +kernel) (by decide +kernel) ?_
    rintro w ⟨fa_17, hr_19, rfl⟩
    refine k_ws [(h0, .inr (5, [.ref nr, .int u_4, .int xmostSlip, .int xslip, .int xisDrawn, .int u_5, .int u_6, .int u_7, .int u_8])), (hh, .inr (3, [v0hh, .ref yhn, v2hh, v3hh, v4hh, v5hh, v6hh, v7hh])), (yhn, .inr (8, [.int 1, .int 6, .ref yhnc, .int yhnn])), (yhnc, .inl (g.2.2.1, 6, .inl yhnf)), (hs, .inr (7, [.ref zr, v1hs, .ref zw, .ref zp, .int zmd, .int ztr])), (zr, .inr (8, [.int 8, .int 3, .ref zrc, .int zrn])), (zrc, .inl (g.2.2.1, 24, .inl zrf)), (zp, .inr (8, [.int 8, .int 2, .ref zpc, .int zpn])), (zpc, .inl (g.2.2.1, 16, .inl zpf)), (zw, .inr (8, [.int 6, .int 3, .ref zwc, .int zwn])), (zwc, .inl (g.2.2.1, 18, .inl zwf)), (nr, .inr (8, [.int 8, .int 10, .ref nrc, .int nrn])), (nrc, .inl (g.2.2.1, 80, .inl fa_17))] rfl ?_
    refine k_aload_n X dX5_run_47 3 rfl ?_
    refine k_get (ci := 7) X inlX7 rfl 0 (by decide) dX5_run_48 mw775 4 rfl rfl ?_
    refine k_aload_n X dX5_run_51 3 rfl ?_
    refine k_iload_n X dX5_run_52 0 rfl ?_
    refine k_callVI (n := 1) (As := [.int u_2]) (st := [.ref zr]) X [(hs, .inr (7, [.ref zr, v1hs, .ref zw, .ref zp, .int zmd, .int ztr])), (zp, .inr (8, [.int 8, .int 2, .ref zpc, .int zpn])), (zpc, .inl (g.2.2.1, 16, .inl zpf))] [(h0, .inr (5, [.ref nr, .int u_4, .int xmostSlip, .int xslip, .int xisDrawn, .int u_5, .int u_6, .int u_7, .int u_8])), (hh, .inr (3, [v0hh, .ref yhn, v2hh, v3hh, v4hh, v5hh, v6hh, v7hh])), (yhn, .inr (8, [.int 1, .int 6, .ref yhnc, .int yhnn])), (yhnc, .inl (g.2.2.1, 6, .inl yhnf)), (zr, .inr (8, [.int 8, .int 3, .ref zrc, .int zrn])), (zrc, .inl (g.2.2.1, 24, .inl zrf)), (zw, .inr (8, [.int 6, .int 3, .ref zwc, .int zwn])), (zwc, .inl (g.2.2.1, 18, .inl zwf)), (nr, .inr (8, [.int 8, .int 10, .ref nrc, .int nrn])), (nrc, .inl (g.2.2.1, 80, .inl fa_17))] [4, 7, 8] [0, 1, 2, 3, 5, 6, 9, 10, 11, 12] (s_reelAtX l g hs u_2 (.ref zr) v1hs (.ref zw) zp zmd ztr zpc zpn zpf) dX5_run_53 mw758 mw759 mw760 mw23 mw761 rfl 7 rfl rfl 0 _ rfl yk_yX7_reelAt_1 rfl (Nat.le_of_ble_eq_true rfl) (Nat.le_of_ble_eq_true rfl) (Nat.le_of_ble_eq_true rfl) (Nat.le_of_ble_eq_true rfl) (Nat.le_of_ble_eq_true rfl) rfl rfl (by decide +kernel) rfl (by decide +kernel) (by decide +kernel) ?_
    rintro r_20 w ⟨hq_21, rfl⟩
    refine k_ws [(h0, .inr (5, [.ref nr, .int u_4, .int xmostSlip, .int xslip, .int xisDrawn, .int u_5, .int u_6, .int u_7, .int u_8])), (hh, .inr (3, [v0hh, .ref yhn, v2hh, v3hh, v4hh, v5hh, v6hh, v7hh])), (yhn, .inr (8, [.int 1, .int 6, .ref yhnc, .int yhnn])), (yhnc, .inl (g.2.2.1, 6, .inl yhnf)), (zr, .inr (8, [.int 8, .int 3, .ref zrc, .int zrn])), (zrc, .inl (g.2.2.1, 24, .inl zrf)), (zw, .inr (8, [.int 6, .int 3, .ref zwc, .int zwn])), (zwc, .inl (g.2.2.1, 18, .inl zwf)), (nr, .inr (8, [.int 8, .int 10, .ref nrc, .int nrn])), (nrc, .inl (g.2.2.1, 80, .inl fa_17)), (hs, .inr (7, [.ref zr, v1hs, .ref zw, .ref zp, .int zmd, .int ztr])), (zp, .inr (8, [.int 8, .int 2, .ref zpc, .int zpn])), (zpc, .inl (g.2.2.1, 16, .inl zpf))] rfl ?_
    refine k_iconst (v := 0) X dX5_run_56 (by decide) ?_
    refine k_callVI (n := 2) (As := [.int r_20, .int 0]) (st := []) X [(zr, .inr (8, [.int 8, .int 3, .ref zrc, .int zrn])), (zrc, .inl (g.2.2.1, 24, .inl zrf))] [(h0, .inr (5, [.ref nr, .int u_4, .int xmostSlip, .int xslip, .int xisDrawn, .int u_5, .int u_6, .int u_7, .int u_8])), (hh, .inr (3, [v0hh, .ref yhn, v2hh, v3hh, v4hh, v5hh, v6hh, v7hh])), (yhn, .inr (8, [.int 1, .int 6, .ref yhnc, .int yhnn])), (yhnc, .inl (g.2.2.1, 6, .inl yhnf)), (zw, .inr (8, [.int 6, .int 3, .ref zwc, .int zwn])), (zwc, .inl (g.2.2.1, 18, .inl zwf)), (nr, .inr (8, [.int 8, .int 10, .ref nrc, .int nrn])), (nrc, .inl (g.2.2.1, 80, .inl fa_17)), (hs, .inr (7, [.ref zr, v1hs, .ref zw, .ref zp, .int zmd, .int ztr])), (zp, .inr (8, [.int 8, .int 2, .ref zpc, .int zpn])), (zpc, .inl (g.2.2.1, 16, .inl zpf))] [4, 5] [0, 1, 2, 3, 6, 7, 8, 9, 10, 11, 12] (t_at l g zr r_20 0 8 3 zrc zrn 24 zrf (tbk_8_3)) dX5_run_57 mw757 mw376 mw377 mw64 mw378 rfl 8 rfl rfl 0 _ rfl yk_yX8_at_2 rfl (Nat.le_of_ble_eq_true rfl) (Nat.le_of_ble_eq_true rfl) (Nat.le_of_ble_eq_true rfl) (Nat.le_of_ble_eq_true rfl) (Nat.le_of_ble_eq_true rfl) rfl rfl (by decide +kernel) rfl (by decide +kernel) (by decide +kernel) ?_
    rintro r_22 w ⟨hr_23, rfl⟩
    refine k_ws [(h0, .inr (5, [.ref nr, .int u_4, .int xmostSlip, .int xslip, .int xisDrawn, .int u_5, .int u_6, .int u_7, .int u_8])), (hh, .inr (3, [v0hh, .ref yhn, v2hh, v3hh, v4hh, v5hh, v6hh, v7hh])), (yhn, .inr (8, [.int 1, .int 6, .ref yhnc, .int yhnn])), (yhnc, .inl (g.2.2.1, 6, .inl yhnf)), (zw, .inr (8, [.int 6, .int 3, .ref zwc, .int zwn])), (zwc, .inl (g.2.2.1, 18, .inl zwf)), (nr, .inr (8, [.int 8, .int 10, .ref nrc, .int nrn])), (nrc, .inl (g.2.2.1, 80, .inl fa_17)), (hs, .inr (7, [.ref zr, v1hs, .ref zw, .ref zp, .int zmd, .int ztr])), (zp, .inr (8, [.int 8, .int 2, .ref zpc, .int zpn])), (zpc, .inl (g.2.2.1, 16, .inl zpf)), (zr, .inr (8, [.int 8, .int 3, .ref zrc, .int zrn])), (zrc, .inl (g.2.2.1, 24, .inl zrf))] rfl ?_
    refine k_istore [(4, .int r_22), (3, .int u_2), (0, .ref h0), (1, .ref hh), (2, .ref hs)] X dX5_run_60 (by decide) rfl ?_
    refine k_aload_n X dX5_run_62 2 rfl ?_
    refine k_get (ci := 5) X inlX5 rfl 8 (by decide) dX5_run_63 mw133 0 rfl rfl ?_
    refine k_iload X dX5_run_66 0 rfl ?_
    refine k_ic_lt 81 X dX5_run_68 (by decide) (fun h_24 => ?_) (fun h_24 => ?_)
    · skip
      have j_25 : u_8.toInt < r_22.toInt := iv_lt h_24
      have iv_26 : IV u_8 (-2147483648) 2147483646 := iv_ltL (iv_lt h_24) (iv_any u_8) (iv_any r_22) (by decide)
      have iv_27 : IV r_22 (-2147483647) 2147483647 := iv_ltR (iv_lt h_24) (iv_any u_8) (iv_any r_22) (by decide)
      refine k_aload_n X dX5_run_81 2 rfl ?_
      refine k_aload_n X dX5_run_82 3 rfl ?_
      refine k_aload_n X dX5_run_83 4 rfl ?_
      refine k_iload_n X dX5_run_84 1 rfl ?_
      refine k_iload X dX5_run_85 0 rfl ?_
      refine k_callVV (n := 4) (As := [.ref hh, .ref hs, .int u_2, .int r_22]) (st := []) X [(h0, .inr (5, [.ref nr, .int u_4, .int xmostSlip, .int xslip, .int xisDrawn, .int u_5, .int u_6, .int u_7, .int u_8])), (nr, .inr (8, [.int 8, .int 10, .ref nrc, .int nrn])), (nrc, .inl (g.2.2.1, 80, .inl fa_17)), (hh, .inr (3, [v0hh, .ref yhn, v2hh, v3hh, v4hh, v5hh, v6hh, v7hh])), (yhn, .inr (8, [.int 1, .int 6, .ref yhnc, .int yhnn])), (yhnc, .inl (g.2.2.1, 6, .inl yhnf)), (hs, .inr (7, [.ref zr, v1hs, .ref zw, .ref zp, .int zmd, .int ztr])), (zp, .inr (8, [.int 8, .int 2, .ref zpc, .int zpn])), (zpc, .inl (g.2.2.1, 16, .inl zpf))] [(zw, .inr (8, [.int 6, .int 3, .ref zwc, .int zwn])), (zwc, .inl (g.2.2.1, 18, .inl zwf)), (zr, .inr (8, [.int 8, .int 3, .ref zrc, .int zrn])), (zrc, .inl (g.2.2.1, 24, .inl zrf))] [0, 6, 7, 1, 2, 3, 8, 9, 10] [4, 5, 11, 12] (n_showReelX l g h0 hh hs u_2 r_22 nr u_4 xmostSlip xslip xisDrawn u_5 u_6 u_7 u_8 nrc nrn fa_17 v0hh yhn v2hh v3hh v4hh v5hh v6hh v7hh yhnc yhnn yhnf (.ref zr) v1hs (.ref zw) zp zmd ztr zpc zpn zpf (by assumption)) dX5_run_87 mw780 mw781 mw782 mw31 mw783 rfl 5 rfl rfl 0 _ rfl yk_yX5_showReel_4 rfl (Nat.le_of_ble_eq_true rfl) (Nat.le_of_ble_eq_true rfl) (Nat.le_of_ble_eq_true rfl) (Nat.le_of_ble_eq_true rfl) (Nat.le_of_ble_eq_true rfl) rfl rfl (by decide +kernel) rfl (by decide +kernel) (by decide +kernel) ?_
      rintro w ⟨xseed2_28, xtick2_29, xmotorTick2_30, xahead2_31, nrg_32, hq_34, rfl⟩
      refine k_ws [(zw, .inr (8, [.int 6, .int 3, .ref zwc, .int zwn])), (zwc, .inl (g.2.2.1, 18, .inl zwf)), (zr, .inr (8, [.int 8, .int 3, .ref zrc, .int zrn])), (zrc, .inl (g.2.2.1, 24, .inl zrf)), (h0, .inr (5, [.ref nr, .int u_4, .int xmostSlip, .int xslip, .int xisDrawn, .int xseed2_28, .int xtick2_29, .int xmotorTick2_30, .int xahead2_31])), (nr, .inr (8, [.int 8, .int 10, .ref nrc, .int nrn])), (nrc, .inl (g.2.2.1, 80, .inl nrg_32)), (hh, .inr (3, [v0hh, .ref yhn, v2hh, v3hh, v4hh, v5hh, v6hh, v7hh])), (yhn, .inr (8, [.int 1, .int 6, .ref yhnc, .int yhnn])), (yhnc, .inl (g.2.2.1, 6, .inl yhnf)), (hs, .inr (7, [.ref zr, v1hs, .ref zw, .ref zp, .int zmd, .int ztr])), (zp, .inr (8, [.int 8, .int 2, .ref zpc, .int zpn])), (zpc, .inl (g.2.2.1, 16, .inl zpf))] rfl ?_
      refine k_aload_n X dX5_run_90 2 rfl ?_
      refine k_aload_n X dX5_run_91 3 rfl ?_
      refine k_aload_n X dX5_run_92 4 rfl ?_
      refine k_aload_n X dX5_run_93 4 rfl ?_
      refine k_iload_n X dX5_run_94 1 rfl ?_
      refine k_callVI (n := 1) (As := [.int u_2]) (st := [.ref hs, .ref hh, .ref h0]) X [(hs, .inr (7, [.ref zr, v1hs, .ref zw, .ref zp, .int zmd, .int ztr])), (zp, .inr (8, [.int 8, .int 2, .ref zpc, .int zpn])), (zpc, .inl (g.2.2.1, 16, .inl zpf))] [(zw, .inr (8, [.int 6, .int 3, .ref zwc, .int zwn])), (zwc, .inl (g.2.2.1, 18, .inl zwf)), (zr, .inr (8, [.int 8, .int 3, .ref zrc, .int zrn])), (zrc, .inl (g.2.2.1, 24, .inl zrf)), (h0, .inr (5, [.ref nr, .int u_4, .int xmostSlip, .int xslip, .int xisDrawn, .int xseed2_28, .int xtick2_29, .int xmotorTick2_30, .int xahead2_31])), (nr, .inr (8, [.int 8, .int 10, .ref nrc, .int nrn])), (nrc, .inl (g.2.2.1, 80, .inl nrg_32)), (hh, .inr (3, [v0hh, .ref yhn, v2hh, v3hh, v4hh, v5hh, v6hh, v7hh])), (yhn, .inr (8, [.int 1, .int 6, .ref yhnc, .int yhnn])), (yhnc, .inl (g.2.2.1, 6, .inl yhnf))] [10, 11, 12] [0, 1, 2, 3, 4, 5, 6, 7, 8, 9] (s_reelAtX l g hs u_2 (.ref zr) v1hs (.ref zw) zp zmd ztr zpc zpn zpf) dX5_run_95 mw758 mw759 mw760 mw23 mw761 rfl 7 rfl rfl 0 _ rfl yk_yX7_reelAt_1 rfl (Nat.le_of_ble_eq_true rfl) (Nat.le_of_ble_eq_true rfl) (Nat.le_of_ble_eq_true rfl) (Nat.le_of_ble_eq_true rfl) (Nat.le_of_ble_eq_true rfl) rfl rfl (by decide +kernel) rfl (by decide +kernel) (by decide +kernel) ?_
      rintro r_35 w ⟨hq_36, rfl⟩
      refine k_ws [(zw, .inr (8, [.int 6, .int 3, .ref zwc, .int zwn])), (zwc, .inl (g.2.2.1, 18, .inl zwf)), (zr, .inr (8, [.int 8, .int 3, .ref zrc, .int zrn])), (zrc, .inl (g.2.2.1, 24, .inl zrf)), (h0, .inr (5, [.ref nr, .int u_4, .int xmostSlip, .int xslip, .int xisDrawn, .int xseed2_28, .int xtick2_29, .int xmotorTick2_30, .int xahead2_31])), (nr, .inr (8, [.int 8, .int 10, .ref nrc, .int nrn])), (nrc, .inl (g.2.2.1, 80, .inl nrg_32)), (hh, .inr (3, [v0hh, .ref yhn, v2hh, v3hh, v4hh, v5hh, v6hh, v7hh])), (yhn, .inr (8, [.int 1, .int 6, .ref yhnc, .int yhnn])), (yhnc, .inl (g.2.2.1, 6, .inl yhnf)), (hs, .inr (7, [.ref zr, v1hs, .ref zw, .ref zp, .int zmd, .int ztr])), (zp, .inr (8, [.int 8, .int 2, .ref zpc, .int zpn])), (zpc, .inl (g.2.2.1, 16, .inl zpf))] rfl ?_
      refine k_callVV (n := 3) (As := [.ref hh, .ref hs, .int r_35]) (st := []) X [(h0, .inr (5, [.ref nr, .int u_4, .int xmostSlip, .int xslip, .int xisDrawn, .int xseed2_28, .int xtick2_29, .int xmotorTick2_30, .int xahead2_31])), (hh, .inr (3, [v0hh, .ref yhn, v2hh, v3hh, v4hh, v5hh, v6hh, v7hh])), (yhn, .inr (8, [.int 1, .int 6, .ref yhnc, .int yhnn])), (yhnc, .inl (g.2.2.1, 6, .inl yhnf)), (hs, .inr (7, [.ref zr, v1hs, .ref zw, .ref zp, .int zmd, .int ztr])), (zw, .inr (8, [.int 6, .int 3, .ref zwc, .int zwn])), (zwc, .inl (g.2.2.1, 18, .inl zwf))] [(zr, .inr (8, [.int 8, .int 3, .ref zrc, .int zrn])), (zrc, .inl (g.2.2.1, 24, .inl zrf)), (nr, .inr (8, [.int 8, .int 10, .ref nrc, .int nrn])), (nrc, .inl (g.2.2.1, 80, .inl nrg_32)), (zp, .inr (8, [.int 8, .int 2, .ref zpc, .int zpn])), (zpc, .inl (g.2.2.1, 16, .inl zpf))] [4, 7, 8, 9, 10, 0, 1] [2, 3, 5, 6, 11, 12] (n_snapWeakPlacesX l g h0 hh hs r_35 nr u_4 xmostSlip xslip xisDrawn xseed2_28 xtick2_29 xmotorTick2_30 xahead2_31 v0hh yhn v2hh v3hh v4hh v5hh v6hh v7hh yhnc yhnn yhnf (.ref zr) v1hs zw (.ref zp) zmd ztr zwc zwn zwf) dX5_run_98 mw797 mw798 mw799 mw31 mw800 rfl 5 rfl rfl 0 _ rfl yk_yX5_snapWeakPlaces_3 rfl (Nat.le_of_ble_eq_true rfl) (Nat.le_of_ble_eq_true rfl) (Nat.le_of_ble_eq_true rfl) (Nat.le_of_ble_eq_true rfl) (Nat.le_of_ble_eq_true rfl) rfl rfl (by decide +kernel) rfl (by decide +kernel) (by decide +kernel) ?_
      rintro w ⟨xseed2_37, xsnapped2_38, hq_40, rfl⟩
      refine k_ws [(zr, .inr (8, [.int 8, .int 3, .ref zrc, .int zrn])), (zrc, .inl (g.2.2.1, 24, .inl zrf)), (nr, .inr (8, [.int 8, .int 10, .ref nrc, .int nrn])), (nrc, .inl (g.2.2.1, 80, .inl nrg_32)), (zp, .inr (8, [.int 8, .int 2, .ref zpc, .int zpn])), (zpc, .inl (g.2.2.1, 16, .inl zpf)), (h0, .inr (5, [.ref nr, .int xsnapped2_38, .int xmostSlip, .int xslip, .int xisDrawn, .int xseed2_37, .int xtick2_29, .int xmotorTick2_30, .int xahead2_31])), (hh, .inr (3, [v0hh, .ref yhn, v2hh, v3hh, v4hh, v5hh, v6hh, v7hh])), (yhn, .inr (8, [.int 1, .int 6, .ref yhnc, .int yhnn])), (yhnc, .inl (g.2.2.1, 6, .inl yhnf)), (hs, .inr (7, [.ref zr, v1hs, .ref zw, .ref zp, .int zmd, .int ztr])), (zw, .inr (8, [.int 6, .int 3, .ref zwc, .int zwn])), (zwc, .inl (g.2.2.1, 18, .inl zwf))] rfl ?_
      obtain ⟨z_41, ez_41⟩ : ∃ y : Int32, u_2 + Int32.ofInt 1 = y := ⟨_, rfl⟩
      refine k_iinc z_41 [(3, .int z_41), (4, .int r_22), (0, .ref h0), (1, .ref hh), (2, .ref hs)] 1 X dX5_run_101 rfl ez_41 (by decide) rfl ?_
      have i_42 : z_41.toInt = u_2.toInt + 1 := in_inc ez_41 (by decide) iv_15 (by decide) (by decide)
      have iv_43 : IV z_41 1 2147483647 := iz1 i_42 iv_15 (by decide) (by decide)
      refine k_goto 22 X dX5_run_104 (by decide) ?_
      refine k_lv [(3, .int z_41), (0, .ref h0), (1, .ref hh), (2, .ref hs)] [0, 2, 3, 4] rfl ?_
      refine k_sub [(h0, .inr (5, [.ref nr, .int xsnapped2_38, .int xmostSlip, .int xslip, .int xisDrawn, .int xseed2_37, .int xtick2_29, .int xmotorTick2_30, .int xahead2_31])), (nr, .inr (8, [.int 8, .int 10, .ref nrc, .int nrn])), (nrc, .inl (g.2.2.1, 80, .inl nrg_32)), (hh, .inr (3, [v0hh, .ref yhn, v2hh, v3hh, v4hh, v5hh, v6hh, v7hh])), (yhn, .inr (8, [.int 1, .int 6, .ref yhnc, .int yhnn])), (yhnc, .inl (g.2.2.1, 6, .inl yhnf)), (hs, .inr (7, [.ref zr, v1hs, .ref zw, .ref zp, .int zmd, .int ztr])), (zr, .inr (8, [.int 8, .int 3, .ref zrc, .int zrn])), (zrc, .inl (g.2.2.1, 24, .inl zrf)), (zp, .inr (8, [.int 8, .int 2, .ref zpc, .int zpn])), (zpc, .inl (g.2.2.1, 16, .inl zpf)), (zw, .inr (8, [.int 6, .int 3, .ref zwc, .int zwn])), (zwc, .inl (g.2.2.1, 18, .inl zwf))] [6, 2, 3, 7, 8, 9, 10, 0, 1, 4, 5, 11, 12] rfl (by decide) rfl ?_
      exact ih_11 _ (by omega) nrg_32 z_41 xsnapped2_38 xseed2_37 xtick2_29 xmotorTick2_30 xahead2_31 rfl (iv_w iv_43 (by decide) (by decide)) (fun xsnapped2 xseed2 xtick2 xmotorTick2 xahead2 nrg h => h.elim (fun n_0 q => (KH_0 _ _ _ _ _ _ ⟨n_0 + 1, (Or.inr ⟨h_12, ⟨fa_17, hr_19, ⟨r_20, hq_21, ⟨r_22, hr_23, (Or.inl ⟨h_24, ⟨xseed2_28, xtick2_29, xmotorTick2_30, xahead2_31, nrg_32, hq_34, ⟨r_35, hq_36, ⟨xseed2_37, xsnapped2_38, hq_40, ⟨z_41, ez_41, q⟩⟩⟩⟩⟩)⟩⟩⟩⟩)⟩)))
    · skip
      have j_44 : r_22.toInt ≤ u_8.toInt := iv_nlt h_24
      refine k_aload_n X dX5_run_71 2 rfl ?_
      refine k_iload_n X dX5_run_72 1 rfl ?_
      refine k_iload X dX5_run_73 0 rfl ?_
      refine k_callVV (n := 2) (As := [.int u_2, .int r_22]) (st := []) X [(h0, .inr (5, [.ref nr, .int u_4, .int xmostSlip, .int xslip, .int xisDrawn, .int u_5, .int u_6, .int u_7, .int u_8])), (nr, .inr (8, [.int 8, .int 10, .ref nrc, .int nrn])), (nrc, .inl (g.2.2.1, 80, .inl fa_17))] [(hh, .inr (3, [v0hh, .ref yhn, v2hh, v3hh, v4hh, v5hh, v6hh, v7hh])), (yhn, .inr (8, [.int 1, .int 6, .ref yhnc, .int yhnn])), (yhnc, .inl (g.2.2.1, 6, .inl yhnf)), (zw, .inr (8, [.int 6, .int 3, .ref zwc, .int zwn])), (zwc, .inl (g.2.2.1, 18, .inl zwf)), (hs, .inr (7, [.ref zr, v1hs, .ref zw, .ref zp, .int zmd, .int ztr])), (zp, .inr (8, [.int 8, .int 2, .ref zpc, .int zpn])), (zpc, .inl (g.2.2.1, 16, .inl zpf)), (zr, .inr (8, [.int 8, .int 3, .ref zrc, .int zrn])), (zrc, .inl (g.2.2.1, 24, .inl zrf))] [0, 6, 7] [1, 2, 3, 4, 5, 8, 9, 10, 11, 12] (n_goByX l g h0 u_2 r_22 nr u_4 xmostSlip xslip xisDrawn u_5 u_6 u_7 u_8 nrc nrn fa_17) dX5_run_75 mw776 mw777 mw778 mw31 mw779 rfl 5 rfl rfl 0 _ rfl yk_yX5_goBy_2 rfl (Nat.le_of_ble_eq_true rfl) (Nat.le_of_ble_eq_true rfl) (Nat.le_of_ble_eq_true rfl) (Nat.le_of_ble_eq_true rfl) (Nat.le_of_ble_eq_true rfl) rfl rfl (by decide +kernel) rfl (by decide +kernel) (by decide +kernel) ?_
      rintro w ⟨xmotorTick2_45, xahead2_46, nrg_47, hq_49, rfl⟩
      refine k_ws [(hh, .inr (3, [v0hh, .ref yhn, v2hh, v3hh, v4hh, v5hh, v6hh, v7hh])), (yhn, .inr (8, [.int 1, .int 6, .ref yhnc, .int yhnn])), (yhnc, .inl (g.2.2.1, 6, .inl yhnf)), (zw, .inr (8, [.int 6, .int 3, .ref zwc, .int zwn])), (zwc, .inl (g.2.2.1, 18, .inl zwf)), (hs, .inr (7, [.ref zr, v1hs, .ref zw, .ref zp, .int zmd, .int ztr])), (zp, .inr (8, [.int 8, .int 2, .ref zpc, .int zpn])), (zpc, .inl (g.2.2.1, 16, .inl zpf)), (zr, .inr (8, [.int 8, .int 3, .ref zrc, .int zrn])), (zrc, .inl (g.2.2.1, 24, .inl zrf)), (h0, .inr (5, [.ref nr, .int u_4, .int xmostSlip, .int xslip, .int xisDrawn, .int u_5, .int u_6, .int xmotorTick2_45, .int xahead2_46])), (nr, .inr (8, [.int 8, .int 10, .ref nrc, .int nrn])), (nrc, .inl (g.2.2.1, 80, .inl nrg_47))] rfl ?_
      refine k_goto 101 X dX5_run_78 (by decide) ?_
      obtain ⟨z_50, ez_50⟩ : ∃ y : Int32, u_2 + Int32.ofInt 1 = y := ⟨_, rfl⟩
      refine k_iinc z_50 [(3, .int z_50), (4, .int r_22), (0, .ref h0), (1, .ref hh), (2, .ref hs)] 1 X dX5_run_101 rfl ez_50 (by decide) rfl ?_
      have i_51 : z_50.toInt = u_2.toInt + 1 := in_inc ez_50 (by decide) iv_15 (by decide) (by decide)
      have iv_52 : IV z_50 1 2147483647 := iz1 i_51 iv_15 (by decide) (by decide)
      refine k_goto 22 X dX5_run_104 (by decide) ?_
      refine k_lv [(3, .int z_50), (0, .ref h0), (1, .ref hh), (2, .ref hs)] [0, 2, 3, 4] rfl ?_
      refine k_sub [(h0, .inr (5, [.ref nr, .int u_4, .int xmostSlip, .int xslip, .int xisDrawn, .int u_5, .int u_6, .int xmotorTick2_45, .int xahead2_46])), (nr, .inr (8, [.int 8, .int 10, .ref nrc, .int nrn])), (nrc, .inl (g.2.2.1, 80, .inl nrg_47)), (hh, .inr (3, [v0hh, .ref yhn, v2hh, v3hh, v4hh, v5hh, v6hh, v7hh])), (yhn, .inr (8, [.int 1, .int 6, .ref yhnc, .int yhnn])), (yhnc, .inl (g.2.2.1, 6, .inl yhnf)), (hs, .inr (7, [.ref zr, v1hs, .ref zw, .ref zp, .int zmd, .int ztr])), (zr, .inr (8, [.int 8, .int 3, .ref zrc, .int zrn])), (zrc, .inl (g.2.2.1, 24, .inl zrf)), (zp, .inr (8, [.int 8, .int 2, .ref zpc, .int zpn])), (zpc, .inl (g.2.2.1, 16, .inl zpf)), (zw, .inr (8, [.int 6, .int 3, .ref zwc, .int zwn])), (zwc, .inl (g.2.2.1, 18, .inl zwf))] [10, 11, 12, 0, 1, 2, 5, 8, 9, 6, 7, 3, 4] rfl (by decide) rfl ?_
      exact ih_11 _ (by omega) nrg_47 z_50 u_4 u_5 u_6 xmotorTick2_45 xahead2_46 rfl (iv_w iv_52 (by decide) (by decide)) (fun xsnapped2 xseed2 xtick2 xmotorTick2 xahead2 nrg h => h.elim (fun n_0 q => (KH_0 _ _ _ _ _ _ ⟨n_0 + 1, (Or.inr ⟨h_12, ⟨fa_17, hr_19, ⟨r_20, hq_21, ⟨r_22, hr_23, (Or.inr ⟨h_24, ⟨xmotorTick2_45, xahead2_46, nrg_47, hq_49, ⟨z_50, ez_50, q⟩⟩⟩)⟩⟩⟩⟩)⟩)))


set_option maxHeartbeats 4000000 in
set_option maxRecDepth 100000 in
theorem n_meetX (l : Launch) (g : Gx) (h0 : Nat) (hh : Nat) (hs : Nat) (p0 : Int32) (nr : Nat) (xsnapped : Int32) (xmostSlip : Int32) (xslip : Int32) (xisDrawn : Int32) (xseed : Int32) (xtick : Int32) (xmotorTick : Int32) (xahead : Int32) (nrc : Nat) (nrn : Int32) (nrf : Nat → Int32) (v0hh : Value) (v1hh : Value) (v2hh : Value) (v3hh : Value) (yhm : Nat) (v5hh : Value) (v6hh : Value) (v7hh : Value) (yhmc : Nat) (yhmn : Int32) (yhmf : Nat → Int32) (zr : Nat) (zm : Nat) (v2hs : Value) (zp : Nat) (zmd : Int32) (ztr : Int32) (zrc : Nat) (zrn : Int32) (zrf : Nat → Int32) (zmc : Nat) (zmn : Int32) (zmf : Nat → Int32) (zpc : Nat) (zpn : Int32) (zpf : Nat → Int32) : cV l g yX5_meet cX5_meet 5 2 49 0 0 [.ref h0, .ref hh, .ref hs, .int p0] [(h0, .inr (5, [.ref nr, .int xsnapped, .int xmostSlip, .int xslip, .int xisDrawn, .int xseed, .int xtick, .int xmotorTick, .int xahead])), (nr, .inr (8, [.int 8, .int 10, .ref nrc, .int nrn])), (nrc, .inl (g.2.2.1, 80, .inl nrf)), (hh, .inr (3, [v0hh, v1hh, v2hh, v3hh, .ref yhm, v5hh, v6hh, v7hh])), (yhm, .inr (8, [.int 4, .int 3, .ref yhmc, .int yhmn])), (yhmc, .inl (g.2.2.1, 12, .inl yhmf)), (hs, .inr (7, [.ref zr, .ref zm, v2hs, .ref zp, .int zmd, .int ztr])), (zr, .inr (8, [.int 8, .int 3, .ref zrc, .int zrn])), (zrc, .inl (g.2.2.1, 24, .inl zrf)), (zm, .inr (8, [.int 12, .int 3, .ref zmc, .int zmn])), (zmc, .inl (g.2.2.1, 36, .inl zmf)), (zp, .inr (8, [.int 8, .int 2, .ref zpc, .int zpn])), (zpc, .inl (g.2.2.1, 16, .inl zpf))] (fun w => ∃ (xmostSlip2 : Int32) (nrg : Nat → Int32) (nrk : Int32), (¬ xmostSlip2 < 0) ∧ (R_n_meetX p0 nrf yhmf zrf zmn zmf zpn zpf xmostSlip2 nrg nrk) ∧ w = [(h0, .inr (5, [.ref nr, .int xsnapped, .int xmostSlip2, .int xslip, .int xisDrawn, .int xseed, .int xtick, .int xmotorTick, .int xahead])), (nr, .inr (8, [.int 8, .int 10, .ref nrc, .int nrk])), (nrc, .inl (g.2.2.1, 80, .inl nrg)), (hh, .inr (3, [v0hh, v1hh, v2hh, v3hh, .ref yhm, v5hh, v6hh, v7hh])), (yhm, .inr (8, [.int 4, .int 3, .ref yhmc, .int yhmn])), (yhmc, .inl (g.2.2.1, 12, .inl yhmf)), (hs, .inr (7, [.ref zr, .ref zm, v2hs, .ref zp, .int zmd, .int ztr])), (zr, .inr (8, [.int 8, .int 3, .ref zrc, .int zrn])), (zrc, .inl (g.2.2.1, 24, .inl zrf)), (zm, .inr (8, [.int 12, .int 3, .ref zmc, .int zmn])), (zmc, .inl (g.2.2.1, 36, .inl zmf)), (zp, .inr (8, [.int 8, .int 2, .ref zpc, .int zpn])), (zpc, .inl (g.2.2.1, 16, .inl zpf))]) := by
  refine cV.of (by decide) (Nat.le_of_ble_eq_true rfl) ?_
  intro p e s m args below meth c A X hr hi
  refine k_lveq [(0, .ref h0), (1, .ref hh), (2, .ref hs), (3, .int p0)] rfl ?_
  refine k_aload_n X dX5_meet_0 0 rfl ?_
  refine k_get (ci := 5) X inlX5 rfl 0 (by decide) dX5_meet_1 mw125 0 rfl rfl ?_
  refine k_aload_n X dX5_meet_4 2 rfl ?_
  refine k_get (ci := 7) X inlX7 rfl 3 (by decide) dX5_meet_5 mw753 6 rfl rfl ?_
  refine k_get (ci := 8) X inlX8 rfl 3 (by decide) dX5_meet_8 mw754 11 rfl rfl ?_
  refine k_put (ci := 8) [(h0, .inr (5, [.ref nr, .int xsnapped, .int xmostSlip, .int xslip, .int xisDrawn, .int xseed, .int xtick, .int xmotorTick, .int xahead])), (nr, .inr (8, [.int 8, .int 10, .ref nrc, .int zpn])), (nrc, .inl (g.2.2.1, 80, .inl nrf)), (hh, .inr (3, [v0hh, v1hh, v2hh, v3hh, .ref yhm, v5hh, v6hh, v7hh])), (yhm, .inr (8, [.int 4, .int 3, .ref yhmc, .int yhmn])), (yhmc, .inl (g.2.2.1, 12, .inl yhmf)), (hs, .inr (7, [.ref zr, .ref zm, v2hs, .ref zp, .int zmd, .int ztr])), (zr, .inr (8, [.int 8, .int 3, .ref zrc, .int zrn])), (zrc, .inl (g.2.2.1, 24, .inl zrf)), (zm, .inr (8, [.int 12, .int 3, .ref zmc, .int zmn])), (zmc, .inl (g.2.2.1, 36, .inl zmf)), (zp, .inr (8, [.int 8, .int 2, .ref zpc, .int zpn])), (zpc, .inl (g.2.2.1, 16, .inl zpf))] X inlX8 rfl tyX8_ok nmX8 3 (by decide) rfl dX5_meet_11 mw754 1 rfl rfl rfl (Nat.le_of_ble_eq_true rfl) rfl ?_
  refine k_aload_n X dX5_meet_14 0 rfl ?_
  refine k_iconst (v := 0) X dX5_meet_15 (by decide) ?_
  refine k_aload_n X dX5_meet_16 1 rfl ?_
  refine k_get (ci := 3) X inlX3 rfl 4 (by decide) dX5_meet_17 mw755 3 rfl rfl ?_
  refine k_iload_n X dX5_meet_20 3 rfl ?_
  refine k_iconst (v := 2) X dX5_meet_21 (by decide) ?_
  refine k_callVI (n := 2) (As := [.int p0, .int 2]) (st := [.int 0, .ref h0]) X [(yhm, .inr (8, [.int 4, .int 3, .ref yhmc, .int yhmn])), (yhmc, .inl (g.2.2.1, 12, .inl yhmf))] [(h0, .inr (5, [.ref nr, .int xsnapped, .int xmostSlip, .int xslip, .int xisDrawn, .int xseed, .int xtick, .int xmotorTick, .int xahead])), (nr, .inr (8, [.int 8, .int 10, .ref nrc, .int zpn])), (nrc, .inl (g.2.2.1, 80, .inl nrf)), (hh, .inr (3, [v0hh, v1hh, v2hh, v3hh, .ref yhm, v5hh, v6hh, v7hh])), (hs, .inr (7, [.ref zr, .ref zm, v2hs, .ref zp, .int zmd, .int ztr])), (zr, .inr (8, [.int 8, .int 3, .ref zrc, .int zrn])), (zrc, .inl (g.2.2.1, 24, .inl zrf)), (zm, .inr (8, [.int 12, .int 3, .ref zmc, .int zmn])), (zmc, .inl (g.2.2.1, 36, .inl zmf)), (zp, .inr (8, [.int 8, .int 2, .ref zpc, .int zpn])), (zpc, .inl (g.2.2.1, 16, .inl zpf))] [4, 5] [0, 1, 2, 3, 6, 7, 8, 9, 10, 11, 12] (t_at l g yhm p0 2 4 3 yhmc yhmn 12 yhmf (tbk_4_3)) dX5_meet_22 mw757 mw376 mw377 mw64 mw378 rfl 8 rfl rfl 0 _ rfl yk_yX8_at_2 rfl (Nat.le_of_ble_eq_true rfl) (Nat.le_of_ble_eq_true rfl) (Nat.le_of_ble_eq_true rfl) (Nat.le_of_ble_eq_true rfl) (Nat.le_of_ble_eq_true rfl) rfl rfl (by decide +kernel) rfl (by decide +kernel) (by decide +kernel) ?_
  rintro r_1 w ⟨hr_2, rfl⟩
  refine k_ws [(h0, .inr (5, [.ref nr, .int xsnapped, .int xmostSlip, .int xslip, .int xisDrawn, .int xseed, .int xtick, .int xmotorTick, .int xahead])), (nr, .inr (8, [.int 8, .int 10, .ref nrc, .int zpn])), (nrc, .inl (g.2.2.1, 80, .inl nrf)), (hh, .inr (3, [v0hh, v1hh, v2hh, v3hh, .ref yhm, v5hh, v6hh, v7hh])), (hs, .inr (7, [.ref zr, .ref zm, v2hs, .ref zp, .int zmd, .int ztr])), (zr, .inr (8, [.int 8, .int 3, .ref zrc, .int zrn])), (zrc, .inl (g.2.2.1, 24, .inl zrf)), (zm, .inr (8, [.int 12, .int 3, .ref zmc, .int zmn])), (zmc, .inl (g.2.2.1, 36, .inl zmf)), (zp, .inr (8, [.int 8, .int 2, .ref zpc, .int zpn])), (zpc, .inl (g.2.2.1, 16, .inl zpf)), (yhm, .inr (8, [.int 4, .int 3, .ref yhmc, .int yhmn])), (yhmc, .inl (g.2.2.1, 12, .inl yhmf))] rfl ?_
  refine k_mmax X dX5_meet_25 mw756 mw102 mw103 mw104 (Nat.le_of_ble_eq_true rfl) (Nat.le_of_ble_eq_true rfl) (Nat.zero_le _) (Nat.zero_le _) ?_
  refine k_nm (fun z_3 ez_3 => ?_)
  refine k_put (ci := 5) [(h0, .inr (5, [.ref nr, .int xsnapped, .int z_3, .int xslip, .int xisDrawn, .int xseed, .int xtick, .int xmotorTick, .int xahead])), (nr, .inr (8, [.int 8, .int 10, .ref nrc, .int zpn])), (nrc, .inl (g.2.2.1, 80, .inl nrf)), (hh, .inr (3, [v0hh, v1hh, v2hh, v3hh, .ref yhm, v5hh, v6hh, v7hh])), (hs, .inr (7, [.ref zr, .ref zm, v2hs, .ref zp, .int zmd, .int ztr])), (zr, .inr (8, [.int 8, .int 3, .ref zrc, .int zrn])), (zrc, .inl (g.2.2.1, 24, .inl zrf)), (zm, .inr (8, [.int 12, .int 3, .ref zmc, .int zmn])), (zmc, .inl (g.2.2.1, 36, .inl zmf)), (zp, .inr (8, [.int 8, .int 2, .ref zpc, .int zpn])), (zpc, .inl (g.2.2.1, 16, .inl zpf)), (yhm, .inr (8, [.int 4, .int 3, .ref yhmc, .int yhmn])), (yhmc, .inl (g.2.2.1, 12, .inl yhmf))] X inlX5 rfl tyX5_ok nmX5 2 (by decide) rfl dX5_meet_28 mw127 0 rfl rfl rfl (Nat.le_of_ble_eq_true rfl) rfl ?_
  refine k_iconst (v := 0) X dX5_meet_31 (by decide) ?_
  refine k_istore [(4, .int 0), (0, .ref h0), (1, .ref hh), (2, .ref hs), (3, .int p0)] X dX5_meet_32 (by decide) rfl ?_
  refine (fun hL : ∀ (nn_7 : Nat) (uf_4 : Nat → Int32) (u_5 : Int32), (zpn.toInt - u_5.toInt).toNat = nn_7 → (IV u_5 0 2147483647) → (∀ (xmostSlip2 : Int32) (nrg : Nat → Int32) (nrk : Int32), (∃ n_0 : Nat, R_n_meetX_L0 p0 yhmf zrf zmn zmf zpn zpf (fun (uf_4 : Nat → Int32) => xmostSlip2 = z_3 ∧ nrg = uf_4 ∧ nrk = zpn) n_0 uf_4 u_5) → R_n_meetX p0 nrf yhmf zrf zmn zmf zpn zpf xmostSlip2 nrg nrk) → Wk p l e _ s m args below meth c _ A g _ _ _ [(h0, .inr (5, [.ref nr, .int xsnapped, .int z_3, .int xslip, .int xisDrawn, .int xseed, .int xtick, .int xmotorTick, .int xahead])), (nr, .inr (8, [.int 8, .int 10, .ref nrc, .int zpn])), (nrc, .inl (g.2.2.1, 80, .inl uf_4)), (hh, .inr (3, [v0hh, v1hh, v2hh, v3hh, .ref yhm, v5hh, v6hh, v7hh])), (hs, .inr (7, [.ref zr, .ref zm, v2hs, .ref zp, .int zmd, .int ztr])), (zr, .inr (8, [.int 8, .int 3, .ref zrc, .int zrn])), (zrc, .inl (g.2.2.1, 24, .inl zrf)), (zm, .inr (8, [.int 12, .int 3, .ref zmc, .int zmn])), (zmc, .inl (g.2.2.1, 36, .inl zmf)), (zp, .inr (8, [.int 8, .int 2, .ref zpc, .int zpn])), (zpc, .inl (g.2.2.1, 16, .inl zpf)), (yhm, .inr (8, [.int 4, .int 3, .ref yhmc, .int yhmn])), (yhmc, .inl (g.2.2.1, 12, .inl yhmf))] [(4, .int u_5), (0, .ref h0), (1, .ref hh), (2, .ref hs), (3, .int p0)] 34 [] => hL _ nrf 0 rfl (iv_w (show IV 0 0 0 from (by decide)) (by decide) (by decide)) (fun xmostSlip2 nrg nrk h => ⟨r_1, hr_2, ⟨z_3, ez_3, h⟩⟩)) ?_
  refine fun nn_7 => Nat.strongRecOn nn_7 (fun nn_7 ih_9 => ?_)
  intro uf_4 u_5 hm_8 hv_6 KH_0
  refine k_iload X dX5_meet_34 0 rfl ?_
  refine k_aload_n X dX5_meet_36 1 rfl ?_
  refine k_get (ci := 5) X inlX5 rfl 0 (by decide) dX5_meet_37 mw125 0 rfl rfl ?_
  refine k_get (ci := 8) X inlX8 rfl 3 (by decide) dX5_meet_40 mw754 1 rfl rfl ?_
  refine k_ic_ge 78 X dX5_meet_43 (by decide) (fun h_10 => ?_) (fun h_10 => ?_)
  · skip
    have j_11 : zpn.toInt ≤ u_5.toInt := iv_le h_10
    exact k_vret X hr dX5_meet_78 (Nat.le_of_ble_eq_true rfl) (Nat.le_of_ble_eq_true rfl) [0, 1, 2, 3, 11, 12, 4, 5, 6, 7, 8, 9, 10] (by decide) rfl rfl ⟨z_3, uf_4, zpn, (mx0 (by assumption)), (KH_0 _ _ _ ⟨0 + 1, (Or.inl ⟨h_10, ⟨rfl, rfl, rfl⟩⟩)⟩), rfl⟩
  · skip
    have j_12 : u_5.toInt < zpn.toInt := iv_nle h_10
    have iv_13 : IV u_5 0 2147483646 := iv_ltL (iv_nle h_10) hv_6 (iv_any zpn) (by decide)
    have iv_14 : IV zpn 1 2147483647 := iv_ltR (iv_nle h_10) hv_6 (iv_any zpn) (by decide)
    refine k_aload_n X dX5_meet_46 1 rfl ?_
    refine k_get (ci := 5) X inlX5 rfl 0 (by decide) dX5_meet_47 mw125 0 rfl rfl ?_
    refine k_iload X dX5_meet_50 0 rfl ?_
    refine k_bipush (v := 9) X dX5_meet_52 (by decide) ?_
    refine k_aload_n X dX5_meet_54 3 rfl ?_
    refine k_aload_n X dX5_meet_55 2 rfl ?_
    refine k_get (ci := 3) X inlX3 rfl 4 (by decide) dX5_meet_56 mw755 3 rfl rfl ?_
    refine k_iload_n X dX5_meet_59 4 rfl ?_
    refine k_aload_n X dX5_meet_60 3 rfl ?_
    refine k_iload X dX5_meet_61 0 rfl ?_
    refine k_callVI (n := 1) (As := [.int u_5]) (st := [.int p0, .ref yhm, .ref hs, .int 9, .int u_5, .ref nr]) X [(hs, .inr (7, [.ref zr, .ref zm, v2hs, .ref zp, .int zmd, .int ztr])), (zp, .inr (8, [.int 8, .int 2, .ref zpc, .int zpn])), (zpc, .inl (g.2.2.1, 16, .inl zpf))] [(h0, .inr (5, [.ref nr, .int xsnapped, .int z_3, .int xslip, .int xisDrawn, .int xseed, .int xtick, .int xmotorTick, .int xahead])), (nr, .inr (8, [.int 8, .int 10, .ref nrc, .int zpn])), (nrc, .inl (g.2.2.1, 80, .inl uf_4)), (hh, .inr (3, [v0hh, v1hh, v2hh, v3hh, .ref yhm, v5hh, v6hh, v7hh])), (zr, .inr (8, [.int 8, .int 3, .ref zrc, .int zrn])), (zrc, .inl (g.2.2.1, 24, .inl zrf)), (zm, .inr (8, [.int 12, .int 3, .ref zmc, .int zmn])), (zmc, .inl (g.2.2.1, 36, .inl zmf)), (yhm, .inr (8, [.int 4, .int 3, .ref yhmc, .int yhmn])), (yhmc, .inl (g.2.2.1, 12, .inl yhmf))] [4, 9, 10] [0, 1, 2, 3, 5, 6, 7, 8, 11, 12] (s_reelAtX l g hs u_5 (.ref zr) (.ref zm) v2hs zp zmd ztr zpc zpn zpf) dX5_meet_63 mw758 mw759 mw760 mw23 mw761 rfl 7 rfl rfl 0 _ rfl yk_yX7_reelAt_1 rfl (Nat.le_of_ble_eq_true rfl) (Nat.le_of_ble_eq_true rfl) (Nat.le_of_ble_eq_true rfl) (Nat.le_of_ble_eq_true rfl) (Nat.le_of_ble_eq_true rfl) rfl rfl (by decide +kernel) rfl (by decide +kernel) (by decide +kernel) ?_
    rintro r_15 w ⟨hq_16, rfl⟩
    refine k_ws [(h0, .inr (5, [.ref nr, .int xsnapped, .int z_3, .int xslip, .int xisDrawn, .int xseed, .int xtick, .int xmotorTick, .int xahead])), (nr, .inr (8, [.int 8, .int 10, .ref nrc, .int zpn])), (nrc, .inl (g.2.2.1, 80, .inl uf_4)), (hh, .inr (3, [v0hh, v1hh, v2hh, v3hh, .ref yhm, v5hh, v6hh, v7hh])), (zr, .inr (8, [.int 8, .int 3, .ref zrc, .int zrn])), (zrc, .inl (g.2.2.1, 24, .inl zrf)), (zm, .inr (8, [.int 12, .int 3, .ref zmc, .int zmn])), (zmc, .inl (g.2.2.1, 36, .inl zmf)), (yhm, .inr (8, [.int 4, .int 3, .ref yhmc, .int yhmn])), (yhmc, .inl (g.2.2.1, 12, .inl yhmf)), (hs, .inr (7, [.ref zr, .ref zm, v2hs, .ref zp, .int zmd, .int ztr])), (zp, .inr (8, [.int 8, .int 2, .ref zpc, .int zpn])), (zpc, .inl (g.2.2.1, 16, .inl zpf))] rfl ?_
    refine k_callVI (n := 3) (As := [.ref yhm, .int p0, .int r_15]) (st := [.int 9, .int u_5, .ref nr]) X [(hs, .inr (7, [.ref zr, .ref zm, v2hs, .ref zp, .int zmd, .int ztr])), (zr, .inr (8, [.int 8, .int 3, .ref zrc, .int zrn])), (zrc, .inl (g.2.2.1, 24, .inl zrf)), (zm, .inr (8, [.int 12, .int 3, .ref zmc, .int zmn])), (zmc, .inl (g.2.2.1, 36, .inl zmf)), (yhm, .inr (8, [.int 4, .int 3, .ref yhmc, .int yhmn])), (yhmc, .inl (g.2.2.1, 12, .inl yhmf))] [(h0, .inr (5, [.ref nr, .int xsnapped, .int z_3, .int xslip, .int xisDrawn, .int xseed, .int xtick, .int xmotorTick, .int xahead])), (nr, .inr (8, [.int 8, .int 10, .ref nrc, .int zpn])), (nrc, .inl (g.2.2.1, 80, .inl uf_4)), (hh, .inr (3, [v0hh, v1hh, v2hh, v3hh, .ref yhm, v5hh, v6hh, v7hh])), (zp, .inr (8, [.int 8, .int 2, .ref zpc, .int zpn])), (zpc, .inl (g.2.2.1, 16, .inl zpf))] [10, 4, 5, 6, 7, 8, 9] [0, 1, 2, 3, 11, 12] (s_believedByX l g hs yhm p0 r_15 zr zm v2hs (.ref zp) zmd ztr zrc zrn zrf zmc zmn zmf yhmc yhmn yhmf) dX5_meet_66 mw762 mw763 mw764 mw23 mw765 rfl 7 rfl rfl 0 _ rfl yk_yX7_believedBy_3 rfl (Nat.le_of_ble_eq_true rfl) (Nat.le_of_ble_eq_true rfl) (Nat.le_of_ble_eq_true rfl) (Nat.le_of_ble_eq_true rfl) (Nat.le_of_ble_eq_true rfl) rfl rfl (by decide +kernel) rfl (by decide +kernel) (by decide +kernel) ?_
    rintro r_17 w ⟨hq_18, rfl⟩
    refine k_ws [(h0, .inr (5, [.ref nr, .int xsnapped, .int z_3, .int xslip, .int xisDrawn, .int xseed, .int xtick, .int xmotorTick, .int xahead])), (nr, .inr (8, [.int 8, .int 10, .ref nrc, .int zpn])), (nrc, .inl (g.2.2.1, 80, .inl uf_4)), (hh, .inr (3, [v0hh, v1hh, v2hh, v3hh, .ref yhm, v5hh, v6hh, v7hh])), (zp, .inr (8, [.int 8, .int 2, .ref zpc, .int zpn])), (zpc, .inl (g.2.2.1, 16, .inl zpf)), (hs, .inr (7, [.ref zr, .ref zm, v2hs, .ref zp, .int zmd, .int ztr])), (zr, .inr (8, [.int 8, .int 3, .ref zrc, .int zrn])), (zrc, .inl (g.2.2.1, 24, .inl zrf)), (zm, .inr (8, [.int 12, .int 3, .ref zmc, .int zmn])), (zmc, .inl (g.2.2.1, 36, .inl zmf)), (yhm, .inr (8, [.int 4, .int 3, .ref yhmc, .int yhmn])), (yhmc, .inl (g.2.2.1, 12, .inl yhmf))] rfl ?_
    refine k_callVV (n := 3) (As := [.int u_5, .int 9, .int r_17]) (st := []) X [(nr, .inr (8, [.int 8, .int 10, .ref nrc, .int zpn])), (nrc, .inl (g.2.2.1, 80, .inl uf_4))] [(h0, .inr (5, [.ref nr, .int xsnapped, .int z_3, .int xslip, .int xisDrawn, .int xseed, .int xtick, .int xmotorTick, .int xahead])), (hh, .inr (3, [v0hh, v1hh, v2hh, v3hh, .ref yhm, v5hh, v6hh, v7hh])), (zp, .inr (8, [.int 8, .int 2, .ref zpc, .int zpn])), (zpc, .inl (g.2.2.1, 16, .inl zpf)), (hs, .inr (7, [.ref zr, .ref zm, v2hs, .ref zp, .int zmd, .int ztr])), (zr, .inr (8, [.int 8, .int 3, .ref zrc, .int zrn])), (zrc, .inl (g.2.2.1, 24, .inl zrf)), (zm, .inr (8, [.int 12, .int 3, .ref zmc, .int zmn])), (zmc, .inl (g.2.2.1, 36, .inl zmf)), (yhm, .inr (8, [.int 4, .int 3, .ref yhmc, .int yhmn])), (yhmc, .inl (g.2.2.1, 12, .inl yhmf))] [1, 2] [0, 3, 4, 5, 6, 7, 8, 9, 10, 11, 12] (t_put l g nr u_5 9 r_17 8 10 nrc zpn 80 uf_4 (tbk_8_10)) dX5_meet_69 mw766 mw326 mw327 mw64 mw328 rfl 8 rfl rfl 0 _ rfl yk_yX8_put_3 rfl (Nat.le_of_ble_eq_true rfl) (Nat.le_of_ble_eq_true rfl) (Nat.le_of_ble_eq_true rfl) (Nat.le_of_ble_eq_true rfl) (Nat.le_of_ble_eq_true rfl) rfl rfl (by decide +kernel) rfl (by decide +kernel) (by decide +kernel) ?_
    rintro w ⟨fa_19, hr_21, rfl⟩
    refine k_ws [(h0, .inr (5, [.ref nr, .int xsnapped, .int z_3, .int xslip, .int xisDrawn, .int xseed, .int xtick, .int xmotorTick, .int xahead])), (hh, .inr (3, [v0hh, v1hh, v2hh, v3hh, .ref yhm, v5hh, v6hh, v7hh])), (zp, .inr (8, [.int 8, .int 2, .ref zpc, .int zpn])), (zpc, .inl (g.2.2.1, 16, .inl zpf)), (hs, .inr (7, [.ref zr, .ref zm, v2hs, .ref zp, .int zmd, .int ztr])), (zr, .inr (8, [.int 8, .int 3, .ref zrc, .int zrn])), (zrc, .inl (g.2.2.1, 24, .inl zrf)), (zm, .inr (8, [.int 12, .int 3, .ref zmc, .int zmn])), (zmc, .inl (g.2.2.1, 36, .inl zmf)), (yhm, .inr (8, [.int 4, .int 3, .ref yhmc, .int yhmn])), (yhmc, .inl (g.2.2.1, 12, .inl yhmf)), (nr, .inr (8, [.int 8, .int 10, .ref nrc, .int zpn])), (nrc, .inl (g.2.2.1, 80, .inl fa_19))] rfl ?_
    obtain ⟨z_22, ez_22⟩ : ∃ y : Int32, u_5 + Int32.ofInt 1 = y := ⟨_, rfl⟩
    refine k_iinc z_22 [(4, .int z_22), (0, .ref h0), (1, .ref hh), (2, .ref hs), (3, .int p0)] 0 X dX5_meet_72 rfl ez_22 (by decide) rfl ?_
    have i_23 : z_22.toInt = u_5.toInt + 1 := in_inc ez_22 (by decide) iv_13 (by decide) (by decide)
    have iv_24 : IV z_22 1 2147483647 := iz1 i_23 iv_13 (by decide) (by decide)
    refine k_goto 34 X dX5_meet_75 (by decide) ?_
    refine k_sub [(h0, .inr (5, [.ref nr, .int xsnapped, .int z_3, .int xslip, .int xisDrawn, .int xseed, .int xtick, .int xmotorTick, .int xahead])), (nr, .inr (8, [.int 8, .int 10, .ref nrc, .int zpn])), (nrc, .inl (g.2.2.1, 80, .inl fa_19)), (hh, .inr (3, [v0hh, v1hh, v2hh, v3hh, .ref yhm, v5hh, v6hh, v7hh])), (hs, .inr (7, [.ref zr, .ref zm, v2hs, .ref zp, .int zmd, .int ztr])), (zr, .inr (8, [.int 8, .int 3, .ref zrc, .int zrn])), (zrc, .inl (g.2.2.1, 24, .inl zrf)), (zm, .inr (8, [.int 12, .int 3, .ref zmc, .int zmn])), (zmc, .inl (g.2.2.1, 36, .inl zmf)), (zp, .inr (8, [.int 8, .int 2, .ref zpc, .int zpn])), (zpc, .inl (g.2.2.1, 16, .inl zpf)), (yhm, .inr (8, [.int 4, .int 3, .ref yhmc, .int yhmn])), (yhmc, .inl (g.2.2.1, 12, .inl yhmf))] [0, 11, 12, 1, 4, 5, 6, 7, 8, 2, 3, 9, 10] rfl (by decide) rfl ?_
    exact ih_9 _ (by omega) fa_19 z_22 rfl (iv_w iv_24 (by decide) (by decide)) (fun xmostSlip2 nrg nrk h => h.elim (fun n_0 q => (KH_0 _ _ _ ⟨n_0 + 1, (Or.inr ⟨h_10, ⟨r_15, hq_16, ⟨r_17, hq_18, ⟨fa_19, hr_21, ⟨z_22, ez_22, q⟩⟩⟩⟩⟩)⟩)))
