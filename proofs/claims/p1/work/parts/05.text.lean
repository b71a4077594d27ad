theorem dX9_write_0 : decode cX9_write 0 = .ok (.bipush 24, 2) := by decide +kernel
theorem dX9_write_2 : decode cX9_write 2 = .ok (.istore_n 2, 1) := by decide +kernel
theorem dX9_write_3 : decode cX9_write 3 = .ok (.iload_n 2, 1) := by decide +kernel
theorem dX9_write_4 : decode cX9_write 4 = .ok (.ifCond .lt 51, 3) := by decide +kernel
theorem dX9_write_7 : decode cX9_write 7 = .ok (.aload_n 0, 1) := by decide +kernel
theorem dX9_write_8 : decode cX9_write 8 = .ok (.getfield 9, 3) := by decide +kernel
theorem dX9_write_11 : decode cX9_write 11 = .ok (.ifCond .lt 38, 3) := by decide +kernel
theorem dX9_write_14 : decode cX9_write 14 = .ok (.aload_n 0, 1) := by decide +kernel
theorem dX9_write_15 : decode cX9_write 15 = .ok (.getfield 9, 3) := by decide +kernel
theorem dX9_write_18 : decode cX9_write 18 = .ok (.aload_n 0, 1) := by decide +kernel
theorem dX9_write_19 : decode cX9_write 19 = .ok (.getfield 28, 3) := by decide +kernel
theorem dX9_write_22 : decode cX9_write 22 = .ok (.arraylength, 1) := by decide +kernel
theorem dX9_write_23 : decode cX9_write 23 = .ok (.if_icmp .ge 26, 3) := by decide +kernel
theorem dX9_write_26 : decode cX9_write 26 = .ok (.aload_n 0, 1) := by decide +kernel
theorem dX9_write_27 : decode cX9_write 27 = .ok (.getfield 28, 3) := by decide +kernel
theorem dX9_write_30 : decode cX9_write 30 = .ok (.aload_n 0, 1) := by decide +kernel
theorem dX9_write_31 : decode cX9_write 31 = .ok (.getfield 9, 3) := by decide +kernel
theorem dX9_write_34 : decode cX9_write 34 = .ok (.iload_n 1, 1) := by decide +kernel
theorem dX9_write_35 : decode cX9_write 35 = .ok (.iload_n 2, 1) := by decide +kernel
theorem dX9_write_36 : decode cX9_write 36 = .ok (.ishr, 1) := by decide +kernel
theorem dX9_write_37 : decode cX9_write 37 = .ok (.i2b, 1) := by decide +kernel
theorem dX9_write_38 : decode cX9_write 38 = .ok (.bastore, 1) := by decide +kernel
theorem dX9_write_39 : decode cX9_write 39 = .ok (.aload_n 0, 1) := by decide +kernel
theorem dX9_write_40 : decode cX9_write 40 = .ok (.dup, 1) := by decide +kernel
theorem dX9_write_41 : decode cX9_write 41 = .ok (.getfield 9, 3) := by decide +kernel
theorem dX9_write_44 : decode cX9_write 44 = .ok (.iconst 1, 1) := by decide +kernel
theorem dX9_write_45 : decode cX9_write 45 = .ok (.iadd, 1) := by decide +kernel
theorem dX9_write_46 : decode cX9_write 46 = .ok (.putfield 9, 3) := by decide +kernel
theorem dX9_write_49 : decode cX9_write 49 = .ok (.iinc 2 (-8), 3) := by decide +kernel
theorem dX9_write_52 : decode cX9_write 52 = .ok (.goto (-49), 3) := by decide +kernel
theorem dX9_write_55 : decode cX9_write 55 = .ok (.return_, 1) := by decide +kernel
set_option maxHeartbeats 4000000 in
set_option maxRecDepth 100000 in
theorem c_write0 (l : Launch) (g : Gx) (h0 : Nat) (p0 : Int32) (v1h0 : Value) (v2h0 : Value) (v3h0 : Value) (ta : Nat) (v5h0 : Value) (v6h0 : Value) (v7h0 : Value) (v8h0 : Value) (v9h0 : Value) (v10h0 : Value) (v11h0 : Value) (v12h0 : Value) (v13h0 : Value) (v14h0 : Value) (fb : Nat → Int32) : cV l g yX9_write cX9_write 3 0 0 0 0 [.ref h0, .int p0] [(h0, .inr (9, [.int 0, v1h0, v2h0, v3h0, .ref ta, v5h0, v6h0, v7h0, v8h0, v9h0, v10h0, v11h0, v12h0, v13h0, v14h0])), (ta, .inl (g.2.1, 900, .inl fb))] (fun w => ∃ fc, w = [(h0, .inr (9, [.int 4, v1h0, v2h0, v3h0, .ref ta, v5h0, v6h0, v7h0, v8h0, v9h0, v10h0, v11h0, v12h0, v13h0, v14h0])), (ta, .inl (g.2.1, 900, .inl fc))]) := by
  refine cV.of (by decide) (Nat.le_of_ble_eq_true rfl) ?_
  intro p e s m args below meth c A X hr hi
  refine k_lveq [(0, .ref h0), (1, .int p0)] rfl ?_
  refine k_bipush (v := 24) X dX9_write_0 (by decide) ?_
  refine k_istore_n [(2, .int 24), (0, .ref h0), (1, .int p0)] X dX9_write_2 (by decide) rfl ?_
  refine k_iload_n X dX9_write_3 0 rfl ?_
  refine k_if_lt 55 X dX9_write_4 (by decide) (fun h_1 => absurd h_1 (by decide)) (fun _ => ?_)
  refine k_aload_n X dX9_write_7 1 rfl ?_
  refine k_get (ci := 9) X inlX9 rfl 0 (by decide) dX9_write_8 mw95 0 rfl rfl ?_
  refine k_if_lt 49 X dX9_write_11 (by decide) (fun h_2 => absurd h_2 (by decide)) (fun _ => ?_)
  refine k_aload_n X dX9_write_14 1 rfl ?_
  refine k_get (ci := 9) X inlX9 rfl 0 (by decide) dX9_write_15 mw95 0 rfl rfl ?_
  refine k_aload_n X dX9_write_18 1 rfl ?_
  refine k_get (ci := 9) X inlX9 rfl 4 (by decide) dX9_write_19 mw105 0 rfl rfl ?_
  refine k_alen 900 0 X dX9_write_22 1 rfl rfl (by show Int32.ofNat 900 = 900; decide) ?_
  refine k_ic_ge 49 X dX9_write_23 (by decide) (fun h_3 => absurd h_3 (by decide)) (fun _ => ?_)
  refine k_aload_n X dX9_write_26 1 rfl ?_
  refine k_get (ci := 9) X inlX9 rfl 4 (by decide) dX9_write_27 mw105 0 rfl rfl ?_
  refine k_aload_n X dX9_write_30 1 rfl ?_
  refine k_get (ci := 9) X inlX9 rfl 0 (by decide) dX9_write_31 mw95 0 rfl rfl ?_
  refine k_iload_n X dX9_write_34 2 rfl ?_
  refine k_iload_n X dX9_write_35 0 rfl ?_
  refine k_ishr X dX9_write_36 ?_
  refine k_nm (fun z_4 ez_4 => ?_)
  refine k_i2b X dX9_write_37 ?_
  refine k_nm (fun z_5 ez_5 => ?_)
  refine k_bast [(h0, .inr (9, [.int 0, v1h0, v2h0, v3h0, .ref ta, v5h0, v6h0, v7h0, v8h0, v9h0, v10h0, v11h0, v12h0, v13h0, v14h0])), (ta, .inl (g.2.1, 900, .inl (upd fb (0 : Int32).toNatClampNeg (vp_nar .byte z_5))))] X dX9_write_38 1 rfl (by unfold vp_in; decide) rfl ?_
  refine (fun hg : ∀ fa_6 : Nat → Int32, Wk p l e _ s m args below meth c _ A g _ _ _ [(h0, .inr (9, [.int 0, v1h0, v2h0, v3h0, .ref ta, v5h0, v6h0, v7h0, v8h0, v9h0, v10h0, v11h0, v12h0, v13h0, v14h0])), (ta, .inl (g.2.1, 900, .inl fa_6))] _ _ _ => hg _) (fun fa_6 => ?_)
  refine k_aload_n X dX9_write_39 1 rfl ?_
  refine k_dup X dX9_write_40 rfl ?_
  refine k_get (ci := 9) X inlX9 rfl 0 (by decide) dX9_write_41 mw95 0 rfl rfl ?_
  refine k_iconst (v := 1) X dX9_write_44 (by decide) ?_
  refine k_iadd X dX9_write_45 ?_
  refine k_to (1) (by decide) ?_
  refine k_put (ci := 9) [(h0, .inr (9, [.int 1, v1h0, v2h0, v3h0, .ref ta, v5h0, v6h0, v7h0, v8h0, v9h0, v10h0, v11h0, v12h0, v13h0, v14h0])), (ta, .inl (g.2.1, 900, .inl fa_6))] X inlX9 rfl tyX9_ok nmX9 0 (by decide) rfl dX9_write_46 mw95 0 rfl rfl rfl (Nat.le_of_ble_eq_true rfl) rfl ?_
  refine k_iinc (16) [(2, .int 16), (0, .ref h0), (1, .int p0)] 0 X dX9_write_49 rfl (by decide) (by decide) rfl ?_
  refine k_goto 3 X dX9_write_52 (by decide) ?_
  refine k_iload_n X dX9_write_3 0 rfl ?_
  refine k_if_lt 55 X dX9_write_4 (by decide) (fun h_7 => absurd h_7 (by decide)) (fun _ => ?_)
  refine k_aload_n X dX9_write_7 1 rfl ?_
  refine k_get (ci := 9) X inlX9 rfl 0 (by decide) dX9_write_8 mw95 0 rfl rfl ?_
  refine k_if_lt 49 X dX9_write_11 (by decide) (fun h_8 => absurd h_8 (by decide)) (fun _ => ?_)
  refine k_aload_n X dX9_write_14 1 rfl ?_
  refine k_get (ci := 9) X inlX9 rfl 0 (by decide) dX9_write_15 mw95 0 rfl rfl ?_
  refine k_aload_n X dX9_write_18 1 rfl ?_
  refine k_get (ci := 9) X inlX9 rfl 4 (by decide) dX9_write_19 mw105 0 rfl rfl ?_
  refine k_alen 900 0 X dX9_write_22 1 rfl rfl (by show Int32.ofNat 900 = 900; decide) ?_
  refine k_ic_ge 49 X dX9_write_23 (by decide) (fun h_9 => absurd h_9 (by decide)) (fun _ => ?_)
  refine k_aload_n X dX9_write_26 1 rfl ?_
  refine k_get (ci := 9) X inlX9 rfl 4 (by decide) dX9_write_27 mw105 0 rfl rfl ?_
  refine k_aload_n X dX9_write_30 1 rfl ?_
  refine k_get (ci := 9) X inlX9 rfl 0 (by decide) dX9_write_31 mw95 0 rfl rfl ?_
  refine k_iload_n X dX9_write_34 2 rfl ?_
  refine k_iload_n X dX9_write_35 0 rfl ?_
  refine k_ishr X dX9_write_36 ?_
  refine k_nm (fun z_10 ez_10 => ?_)
  refine k_i2b X dX9_write_37 ?_
  refine k_nm (fun z_11 ez_11 => ?_)
  refine k_bast [(h0, .inr (9, [.int 1, v1h0, v2h0, v3h0, .ref ta, v5h0, v6h0, v7h0, v8h0, v9h0, v10h0, v11h0, v12h0, v13h0, v14h0])), (ta, .inl (g.2.1, 900, .inl (upd fa_6 (1 : Int32).toNatClampNeg (vp_nar .byte z_11))))] X dX9_write_38 1 rfl (by unfold vp_in; decide) rfl ?_
  refine (fun hg : ∀ fa_12 : Nat → Int32, Wk p l e _ s m args below meth c _ A g _ _ _ [(h0, .inr (9, [.int 1, v1h0, v2h0, v3h0, .ref ta, v5h0, v6h0, v7h0, v8h0, v9h0, v10h0, v11h0, v12h0, v13h0, v14h0])), (ta, .inl (g.2.1, 900, .inl fa_12))] _ _ _ => hg _) (fun fa_12 => ?_)
  refine k_aload_n X dX9_write_39 1 rfl ?_
  refine k_dup X dX9_write_40 rfl ?_
  refine k_get (ci := 9) X inlX9 rfl 0 (by decide) dX9_write_41 mw95 0 rfl rfl ?_
  refine k_iconst (v := 1) X dX9_write_44 (by decide) ?_
  refine k_iadd X dX9_write_45 ?_
  refine k_to (2) (by decide) ?_
  refine k_put (ci := 9) [(h0, .inr (9, [.int 2, v1h0, v2h0, v3h0, .ref ta, v5h0, v6h0, v7h0, v8h0, v9h0, v10h0, v11h0, v12h0, v13h0, v14h0])), (ta, .inl (g.2.1, 900, .inl fa_12))] X inlX9 rfl tyX9_ok nmX9 0 (by decide) rfl dX9_write_46 mw95 0 rfl rfl rfl (Nat.le_of_ble_eq_true rfl) rfl ?_
  refine k_iinc (8) [(2, .int 8), (0, .ref h0), (1, .int p0)] 0 X dX9_write_49 rfl (by decide) (by decide) rfl ?_
  refine k_goto 3 X dX9_write_52 (by decide) ?_
  refine k_iload_n X dX9_write_3 0 rfl ?_
  refine k_if_lt 55 X dX9_write_4 (by decide) (fun h_13 => absurd h_13 (by decide)) (fun _ => ?_)
  refine k_aload_n X dX9_write_7 1 rfl ?_
  refine k_get (ci := 9) X inlX9 rfl 0 (by decide) dX9_write_8 mw95 0 rfl rfl ?_
  refine k_if_lt 49 X dX9_write_11 (by decide) (fun h_14 => absurd h_14 (by decide)) (fun _ => ?_)
  refine k_aload_n X dX9_write_14 1 rfl ?_
  refine k_get (ci := 9) X inlX9 rfl 0 (by decide) dX9_write_15 mw95 0 rfl rfl ?_
  refine k_aload_n X dX9_write_18 1 rfl ?_
  refine k_get (ci := 9) X inlX9 rfl 4 (by decide) dX9_write_19 mw105 0 rfl rfl ?_
  refine k_alen 900 0 X dX9_write_22 1 rfl rfl (by show Int32.ofNat 900 = 900; decide) ?_
  refine k_ic_ge 49 X dX9_write_23 (by decide) (fun h_15 => absurd h_15 (by decide)) (fun _ => ?_)
  refine k_aload_n X dX9_write_26 1 rfl ?_
  refine k_get (ci := 9) X inlX9 rfl 4 (by decide) dX9_write_27 mw105 0 rfl rfl ?_
  refine k_aload_n X dX9_write_30 1 rfl ?_
  refine k_get (ci := 9) X inlX9 rfl 0 (by decide) dX9_write_31 mw95 0 rfl rfl ?_
  refine k_iload_n X dX9_write_34 2 rfl ?_
  refine k_iload_n X dX9_write_35 0 rfl ?_
  refine k_ishr X dX9_write_36 ?_
  refine k_nm (fun z_16 ez_16 => ?_)
  refine k_i2b X dX9_write_37 ?_
  refine k_nm (fun z_17 ez_17 => ?_)
  refine k_bast [(h0, .inr (9, [.int 2, v1h0, v2h0, v3h0, .ref ta, v5h0, v6h0, v7h0, v8h0, v9h0, v10h0, v11h0, v12h0, v13h0, v14h0])), (ta, .inl (g.2.1, 900, .inl (upd fa_12 (2 : Int32).toNatClampNeg (vp_nar .byte z_17))))] X dX9_write_38 1 rfl (by unfold vp_in; decide) rfl ?_
  refine (fun hg : ∀ fa_18 : Nat → Int32, Wk p l e _ s m args below meth c _ A g _ _ _ [(h0, .inr (9, [.int 2, v1h0, v2h0, v3h0, .ref ta, v5h0, v6h0, v7h0, v8h0, v9h0, v10h0, v11h0, v12h0, v13h0, v14h0])), (ta, .inl (g.2.1, 900, .inl fa_18))] _ _ _ => hg _) (fun fa_18 => ?_)
  refine k_aload_n X dX9_write_39 1 rfl ?_
  refine k_dup X dX9_write_40 rfl ?_
  refine k_get (ci := 9) X inlX9 rfl 0 (by decide) dX9_write_41 mw95 0 rfl rfl ?_
  refine k_iconst (v := 1) X dX9_write_44 (by decide) ?_
  refine k_iadd X dX9_write_45 ?_
  refine k_to (3) (by decide) ?_
  refine k_put (ci := 9) [(h0, .inr (9, [.int 3, v1h0, v2h0, v3h0, .ref ta, v5h0, v6h0, v7h0, v8h0, v9h0, v10h0, v11h0, v12h0, v13h0, v14h0])), (ta, .inl (g.2.1, 900, .inl fa_18))] X inlX9 rfl tyX9_ok nmX9 0 (by decide) rfl dX9_write_46 mw95 0 rfl rfl rfl (Nat.le_of_ble_eq_true rfl) rfl ?_
  refine k_iinc (0) [(2, .int 0), (0, .ref h0), (1, .int p0)] 0 X dX9_write_49 rfl (by decide) (by decide) rfl ?_
  refine k_goto 3 X dX9_write_52 (by decide) ?_
  refine k_iload_n X dX9_write_3 0 rfl ?_
  refine k_if_lt 55 X dX9_write_4 (by decide) (fun h_19 => absurd h_19 (by decide)) (fun _ => ?_)
  refine k_aload_n X dX9_write_7 1 rfl ?_
  refine k_get (ci := 9) X inlX9 rfl 0 (by decide) dX9_write_8 mw95 0 rfl rfl ?_
  refine k_if_lt 49 X dX9_write_11 (by decide) (fun h_20 => absurd h_20 (by decide)) (fun _ => ?_)
  refine k_aload_n X dX9_write_14 1 rfl ?_
  refine k_get (ci := 9) X inlX9 rfl 0 (by decide) dX9_write_15 mw95 0 rfl rfl ?_
  refine k_aload_n X dX9_write_18 1 rfl ?_
  refine k_get (ci := 9) X inlX9 rfl 4 (by decide) dX9_write_19 mw105 0 rfl rfl ?_
  refine k_alen 900 0 X dX9_write_22 1 rfl rfl (by show Int32.ofNat 900 = 900; decide) ?_
  refine k_ic_ge 49 X dX9_write_23 (by decide) (fun h_21 => absurd h_21 (by decide)) (fun _ => ?_)
  refine k_aload_n X dX9_write_26 1 rfl ?_
  refine k_get (ci := 9) X inlX9 rfl 4 (by decide) dX9_write_27 mw105 0 rfl rfl ?_
  refine k_aload_n X dX9_write_30 1 rfl ?_
  refine k_get (ci := 9) X inlX9 rfl 0 (by decide) dX9_write_31 mw95 0 rfl rfl ?_
  refine k_iload_n X dX9_write_34 2 rfl ?_
  refine k_iload_n X dX9_write_35 0 rfl ?_
  refine k_ishr X dX9_write_36 ?_
  refine k_nm (fun z_22 ez_22 => ?_)
  refine k_i2b X dX9_write_37 ?_
  refine k_nm (fun z_23 ez_23 => ?_)
  refine k_bast [(h0, .inr (9, [.int 3, v1h0, v2h0, v3h0, .ref ta, v5h0, v6h0, v7h0, v8h0, v9h0, v10h0, v11h0, v12h0, v13h0, v14h0])), (ta, .inl (g.2.1, 900, .inl (upd fa_18 (3 : Int32).toNatClampNeg (vp_nar .byte z_23))))] X dX9_write_38 1 rfl (by unfold vp_in; decide) rfl ?_
  refine (fun hg : ∀ fa_24 : Nat → Int32, Wk p l e _ s m args below meth c _ A g _ _ _ [(h0, .inr (9, [.int 3, v1h0, v2h0, v3h0, .ref ta, v5h0, v6h0, v7h0, v8h0, v9h0, v10h0, v11h0, v12h0, v13h0, v14h0])), (ta, .inl (g.2.1, 900, .inl fa_24))] _ _ _ => hg _) (fun fa_24 => ?_)
  refine k_aload_n X dX9_write_39 1 rfl ?_
  refine k_dup X dX9_write_40 rfl ?_
  refine k_get (ci := 9) X inlX9 rfl 0 (by decide) dX9_write_41 mw95 0 rfl rfl ?_
  refine k_iconst (v := 1) X dX9_write_44 (by decide) ?_
  refine k_iadd X dX9_write_45 ?_
  refine k_to (4) (by decide) ?_
  refine k_put (ci := 9) [(h0, .inr (9, [.int 4, v1h0, v2h0, v3h0, .ref ta, v5h0, v6h0, v7h0, v8h0, v9h0, v10h0, v11h0, v12h0, v13h0, v14h0])), (ta, .inl (g.2.1, 900, .inl fa_24))] X inlX9 rfl tyX9_ok nmX9 0 (by decide) rfl dX9_write_46 mw95 0 rfl rfl rfl (Nat.le_of_ble_eq_true rfl) rfl ?_
  refine k_iinc (-8) [(2, .int (-8)), (0, .ref h0), (1, .int p0)] 0 X dX9_write_49 rfl (by decide) (by decide) rfl ?_
  refine k_goto 3 X dX9_write_52 (by decide) ?_
  refine k_iload_n X dX9_write_3 0 rfl ?_
  refine k_if_lt 55 X dX9_write_4 (by decide) (fun _ => ?_) (fun h_25 => absurd (by decide) h_25)
  exact k_vret X hr dX9_write_55 (Nat.le_of_ble_eq_true rfl) (Nat.le_of_ble_eq_true rfl) [0, 1] (by decide) rfl rfl ⟨fa_24, rfl⟩


set_option maxHeartbeats 4000000 in
set_option maxRecDepth 100000 in
theorem c_write4 (l : Launch) (g : Gx) (h0 : Nat) (p0 : Int32) (v1h0 : Value) (v2h0 : Value) (v3h0 : Value) (ta : Nat) (v5h0 : Value) (v6h0 : Value) (v7h0 : Value) (v8h0 : Value) (v9h0 : Value) (v10h0 : Value) (v11h0 : Value) (v12h0 : Value) (v13h0 : Value) (v14h0 : Value) (fb : Nat → Int32) : cV l g yX9_write cX9_write 3 0 0 0 0 [.ref h0, .int p0] [(h0, .inr (9, [.int 4, v1h0, v2h0, v3h0, .ref ta, v5h0, v6h0, v7h0, v8h0, v9h0, v10h0, v11h0, v12h0, v13h0, v14h0])), (ta, .inl (g.2.1, 900, .inl fb))] (fun w => ∃ fc, w = [(h0, .inr (9, [.int 8, v1h0, v2h0, v3h0, .ref ta, v5h0, v6h0, v7h0, v8h0, v9h0, v10h0, v11h0, v12h0, v13h0, v14h0])), (ta, .inl (g.2.1, 900, .inl fc))]) := by
  refine cV.of (by decide) (Nat.le_of_ble_eq_true rfl) ?_
  intro p e s m args below meth c A X hr hi
  refine k_lveq [(0, .ref h0), (1, .int p0)] rfl ?_
  refine k_bipush (v := 24) X dX9_write_0 (by decide) ?_
  refine k_istore_n [(2, .int 24), (0, .ref h0), (1, .int p0)] X dX9_write_2 (by decide) rfl ?_
  refine k_iload_n X dX9_write_3 0 rfl ?_
  refine k_if_lt 55 X dX9_write_4 (by decide) (fun h_1 => absurd h_1 (by decide)) (fun _ => ?_)
  refine k_aload_n X dX9_write_7 1 rfl ?_
  refine k_get (ci := 9) X inlX9 rfl 0 (by decide) dX9_write_8 mw95 0 rfl rfl ?_
  refine k_if_lt 49 X dX9_write_11 (by decide) (fun h_2 => absurd h_2 (by decide)) (fun _ => ?_)
  refine k_aload_n X dX9_write_14 1 rfl ?_
  refine k_get (ci := 9) X inlX9 rfl 0 (by decide) dX9_write_15 mw95 0 rfl rfl ?_
  refine k_aload_n X dX9_write_18 1 rfl ?_
  refine k_get (ci := 9) X inlX9 rfl 4 (by decide) dX9_write_19 mw105 0 rfl rfl ?_
  refine k_alen 900 0 X dX9_write_22 1 rfl rfl (by show Int32.ofNat 900 = 900; decide) ?_
  refine k_ic_ge 49 X dX9_write_23 (by decide) (fun h_3 => absurd h_3 (by decide)) (fun _ => ?_)
  refine k_aload_n X dX9_write_26 1 rfl ?_
  refine k_get (ci := 9) X inlX9 rfl 4 (by decide) dX9_write_27 mw105 0 rfl rfl ?_
  refine k_aload_n X dX9_write_30 1 rfl ?_
  refine k_get (ci := 9) X inlX9 rfl 0 (by decide) dX9_write_31 mw95 0 rfl rfl ?_
  refine k_iload_n X dX9_write_34 2 rfl ?_
  refine k_iload_n X dX9_write_35 0 rfl ?_
  refine k_ishr X dX9_write_36 ?_
  refine k_nm (fun z_4 ez_4 => ?_)
  refine k_i2b X dX9_write_37 ?_
  refine k_nm (fun z_5 ez_5 => ?_)
  refine k_bast [(h0, .inr (9, [.int 4, v1h0, v2h0, v3h0, .ref ta, v5h0, v6h0, v7h0, v8h0, v9h0, v10h0, v11h0, v12h0, v13h0, v14h0])), (ta, .inl (g.2.1, 900, .inl (upd fb (4 : Int32).toNatClampNeg (vp_nar .byte z_5))))] X dX9_write_38 1 rfl (by unfold vp_in; decide) rfl ?_
  refine (fun hg : ∀ fa_6 : Nat → Int32, Wk p l e _ s m args below meth c _ A g _ _ _ [(h0, .inr (9, [.int 4, v1h0, v2h0, v3h0, .ref ta, v5h0, v6h0, v7h0, v8h0, v9h0, v10h0, v11h0, v12h0, v13h0, v14h0])), (ta, .inl (g.2.1, 900, .inl fa_6))] _ _ _ => hg _) (fun fa_6 => ?_)
  refine k_aload_n X dX9_write_39 1 rfl ?_
  refine k_dup X dX9_write_40 rfl ?_
  refine k_get (ci := 9) X inlX9 rfl 0 (by decide) dX9_write_41 mw95 0 rfl rfl ?_
  refine k_iconst (v := 1) X dX9_write_44 (by decide) ?_
  refine k_iadd X dX9_write_45 ?_
  refine k_to (5) (by decide) ?_
  refine k_put (ci := 9) [(h0, .inr (9, [.int 5, v1h0, v2h0, v3h0, .ref ta, v5h0, v6h0, v7h0, v8h0, v9h0, v10h0, v11h0, v12h0, v13h0, v14h0])), (ta, .inl (g.2.1, 900, .inl fa_6))] X inlX9 rfl tyX9_ok nmX9 0 (by decide) rfl dX9_write_46 mw95 0 rfl rfl rfl (Nat.le_of_ble_eq_true rfl) rfl ?_
  refine k_iinc (16) [(2, .int 16), (0, .ref h0), (1, .int p0)] 0 X dX9_write_49 rfl (by decide) (by decide) rfl ?_
  refine k_goto 3 X dX9_write_52 (by decide) ?_
  refine k_iload_n X dX9_write_3 0 rfl ?_
  refine k_if_lt 55 X dX9_write_4 (by decide) (fun h_7 => absurd h_7 (by decide)) (fun _ => ?_)
  refine k_aload_n X dX9_write_7 1 rfl ?_
  refine k_get (ci := 9) X inlX9 rfl 0 (by decide) dX9_write_8 mw95 0 rfl rfl ?_
  refine k_if_lt 49 X dX9_write_11 (by decide) (fun h_8 => absurd h_8 (by decide)) (fun _ => ?_)
  refine k_aload_n X dX9_write_14 1 rfl ?_
  refine k_get (ci := 9) X inlX9 rfl 0 (by decide) dX9_write_15 mw95 0 rfl rfl ?_
  refine k_aload_n X dX9_write_18 1 rfl ?_
  refine k_get (ci := 9) X inlX9 rfl 4 (by decide) dX9_write_19 mw105 0 rfl rfl ?_
  refine k_alen 900 0 X dX9_write_22 1 rfl rfl (by show Int32.ofNat 900 = 900; decide) ?_
  refine k_ic_ge 49 X dX9_write_23 (by decide) (fun h_9 => absurd h_9 (by decide)) (fun _ => ?_)
  refine k_aload_n X dX9_write_26 1 rfl ?_
  refine k_get (ci := 9) X inlX9 rfl 4 (by decide) dX9_write_27 mw105 0 rfl rfl ?_
  refine k_aload_n X dX9_write_30 1 rfl ?_
  refine k_get (ci := 9) X inlX9 rfl 0 (by decide) dX9_write_31 mw95 0 rfl rfl ?_
  refine k_iload_n X dX9_write_34 2 rfl ?_
  refine k_iload_n X dX9_write_35 0 rfl ?_
  refine k_ishr X dX9_write_36 ?_
  refine k_nm (fun z_10 ez_10 => ?_)
  refine k_i2b X dX9_write_37 ?_
  refine k_nm (fun z_11 ez_11 => ?_)
  refine k_bast [(h0, .inr (9, [.int 5, v1h0, v2h0, v3h0, .ref ta, v5h0, v6h0, v7h0, v8h0, v9h0, v10h0, v11h0, v12h0, v13h0, v14h0])), (ta, .inl (g.2.1, 900, .inl (upd fa_6 (5 : Int32).toNatClampNeg (vp_nar .byte z_11))))] X dX9_write_38 1 rfl (by unfold vp_in; decide) rfl ?_
  refine (fun hg : ∀ fa_12 : Nat → Int32, Wk p l e _ s m args below meth c _ A g _ _ _ [(h0, .inr (9, [.int 5, v1h0, v2h0, v3h0, .ref ta, v5h0, v6h0, v7h0, v8h0, v9h0, v10h0, v11h0, v12h0, v13h0, v14h0])), (ta, .inl (g.2.1, 900, .inl fa_12))] _ _ _ => hg _) (fun fa_12 => ?_)
  refine k_aload_n X dX9_write_39 1 rfl ?_
  refine k_dup X dX9_write_40 rfl ?_
  refine k_get (ci := 9) X inlX9 rfl 0 (by decide) dX9_write_41 mw95 0 rfl rfl ?_
  refine k_iconst (v := 1) X dX9_write_44 (by decide) ?_
  refine k_iadd X dX9_write_45 ?_
  refine k_to (6) (by decide) ?_
  refine k_put (ci := 9) [(h0, .inr (9, [.int 6, v1h0, v2h0, v3h0, .ref ta, v5h0, v6h0, v7h0, v8h0, v9h0, v10h0, v11h0, v12h0, v13h0, v14h0])), (ta, .inl (g.2.1, 900, .inl fa_12))] X inlX9 rfl tyX9_ok nmX9 0 (by decide) rfl dX9_write_46 mw95 0 rfl rfl rfl (Nat.le_of_ble_eq_true rfl) rfl ?_
  refine k_iinc (8) [(2, .int 8), (0, .ref h0), (1, .int p0)] 0 X dX9_write_49 rfl (by decide) (by decide) rfl ?_
  refine k_goto 3 X dX9_write_52 (by decide) ?_
  refine k_iload_n X dX9_write_3 0 rfl ?_
  refine k_if_lt 55 X dX9_write_4 (by decide) (fun h_13 => absurd h_13 (by decide)) (fun _ => ?_)
  refine k_aload_n X dX9_write_7 1 rfl ?_
  refine k_get (ci := 9) X inlX9 rfl 0 (by decide) dX9_write_8 mw95 0 rfl rfl ?_
  refine k_if_lt 49 X dX9_write_11 (by decide) (fun h_14 => absurd h_14 (by decide)) (fun _ => ?_)
  refine k_aload_n X dX9_write_14 1 rfl ?_
  refine k_get (ci := 9) X inlX9 rfl 0 (by decide) dX9_write_15 mw95 0 rfl rfl ?_
  refine k_aload_n X dX9_write_18 1 rfl ?_
  refine k_get (ci := 9) X inlX9 rfl 4 (by decide) dX9_write_19 mw105 0 rfl rfl ?_
  refine k_alen 900 0 X dX9_write_22 1 rfl rfl (by show Int32.ofNat 900 = 900; decide) ?_
  refine k_ic_ge 49 X dX9_write_23 (by decide) (fun h_15 => absurd h_15 (by decide)) (fun _ => ?_)
  refine k_aload_n X dX9_write_26 1 rfl ?_
  refine k_get (ci := 9) X inlX9 rfl 4 (by decide) dX9_write_27 mw105 0 rfl rfl ?_
  refine k_aload_n X dX9_write_30 1 rfl ?_
  refine k_get (ci := 9) X inlX9 rfl 0 (by decide) dX9_write_31 mw95 0 rfl rfl ?_
  refine k_iload_n X dX9_write_34 2 rfl ?_
  refine k_iload_n X dX9_write_35 0 rfl ?_
  refine k_ishr X dX9_write_36 ?_
  refine k_nm (fun z_16 ez_16 => ?_)
  refine k_i2b X dX9_write_37 ?_
  refine k_nm (fun z_17 ez_17 => ?_)
  refine k_bast [(h0, .inr (9, [.int 6, v1h0, v2h0, v3h0, .ref ta, v5h0, v6h0, v7h0, v8h0, v9h0, v10h0, v11h0, v12h0, v13h0, v14h0])), (ta, .inl (g.2.1, 900, .inl (upd fa_12 (6 : Int32).toNatClampNeg (vp_nar .byte z_17))))] X dX9_write_38 1 rfl (by unfold vp_in; decide) rfl ?_
  refine (fun hg : ∀ fa_18 : Nat → Int32, Wk p l e _ s m args below meth c _ A g _ _ _ [(h0, .inr (9, [.int 6, v1h0, v2h0, v3h0, .ref ta, v5h0, v6h0, v7h0, v8h0, v9h0, v10h0, v11h0, v12h0, v13h0, v14h0])), (ta, .inl (g.2.1, 900, .inl fa_18))] _ _ _ => hg _) (fun fa_18 => ?_)
  refine k_aload_n X dX9_write_39 1 rfl ?_
  refine k_dup X dX9_write_40 rfl ?_
  refine k_get (ci := 9) X inlX9 rfl 0 (by decide) dX9_write_41 mw95 0 rfl rfl ?_
  refine k_iconst (v := 1) X dX9_write_44 (by decide) ?_
  refine k_iadd X dX9_write_45 ?_
  refine k_to (7) (by decide) ?_
  refine k_put (ci := 9) [(h0, .inr (9, [.int 7, v1h0, v2h0, v3h0, .ref ta, v5h0, v6h0, v7h0, v8h0, v9h0, v10h0, v11h0, v12h0, v13h0, v14h0])), (ta, .inl (g.2.1, 900, .inl fa_18))] X inlX9 rfl tyX9_ok nmX9 0 (by decide) rfl dX9_write_46 mw95 0 rfl rfl rfl (Nat.le_of_ble_eq_true rfl) rfl ?_
  refine k_iinc (0) [(2, .int 0), (0, .ref h0), (1, .int p0)] 0 X dX9_write_49 rfl (by decide) (by decide) rfl ?_
  refine k_goto 3 X dX9_write_52 (by decide) ?_
  refine k_iload_n X dX9_write_3 0 rfl ?_
  refine k_if_lt 55 X dX9_write_4 (by decide) (fun h_19 => absurd h_19 (by decide)) (fun _ => ?_)
  refine k_aload_n X dX9_write_7 1 rfl ?_
  refine k_get (ci := 9) X inlX9 rfl 0 (by decide) dX9_write_8 mw95 0 rfl rfl ?_
  refine k_if_lt 49 X dX9_write_11 (by decide) (fun h_20 => absurd h_20 (by decide)) (fun _ => ?_)
  refine k_aload_n X dX9_write_14 1 rfl ?_
  refine k_get (ci := 9) X inlX9 rfl 0 (by decide) dX9_write_15 mw95 0 rfl rfl ?_
  refine k_aload_n X dX9_write_18 1 rfl ?_
  refine k_get (ci := 9) X inlX9 rfl 4 (by decide) dX9_write_19 mw105 0 rfl rfl ?_
  refine k_alen 900 0 X dX9_write_22 1 rfl rfl (by show Int32.ofNat 900 = 900; decide) ?_
  refine k_ic_ge 49 X dX9_write_23 (by decide) (fun h_21 => absurd h_21 (by decide)) (fun _ => ?_)
  refine k_aload_n X dX9_write_26 1 rfl ?_
  refine k_get (ci := 9) X inlX9 rfl 4 (by decide) dX9_write_27 mw105 0 rfl rfl ?_
  refine k_aload_n X dX9_write_30 1 rfl ?_
  refine k_get (ci := 9) X inlX9 rfl 0 (by decide) dX9_write_31 mw95 0 rfl rfl ?_
  refine k_iload_n X dX9_write_34 2 rfl ?_
  refine k_iload_n X dX9_write_35 0 rfl ?_
  refine k_ishr X dX9_write_36 ?_
  refine k_nm (fun z_22 ez_22 => ?_)
  refine k_i2b X dX9_write_37 ?_
  refine k_nm (fun z_23 ez_23 => ?_)
  refine k_bast [(h0, .inr (9, [.int 7, v1h0, v2h0, v3h0, .ref ta, v5h0, v6h0, v7h0, v8h0, v9h0, v10h0, v11h0, v12h0, v13h0, v14h0])), (ta, .inl (g.2.1, 900, .inl (upd fa_18 (7 : Int32).toNatClampNeg (vp_nar .byte z_23))))] X dX9_write_38 1 rfl (by unfold vp_in; decide) rfl ?_
  refine (fun hg : ∀ fa_24 : Nat → Int32, Wk p l e _ s m args below meth c _ A g _ _ _ [(h0, .inr (9, [.int 7, v1h0, v2h0, v3h0, .ref ta, v5h0, v6h0, v7h0, v8h0, v9h0, v10h0, v11h0, v12h0, v13h0, v14h0])), (ta, .inl (g.2.1, 900, .inl fa_24))] _ _ _ => hg _) (fun fa_24 => ?_)
  refine k_aload_n X dX9_write_39 1 rfl ?_
  refine k_dup X dX9_write_40 rfl ?_
  refine k_get (ci := 9) X inlX9 rfl 0 (by decide) dX9_write_41 mw95 0 rfl rfl ?_
  refine k_iconst (v := 1) X dX9_write_44 (by decide) ?_
  refine k_iadd X dX9_write_45 ?_
  refine k_to (8) (by decide) ?_
  refine k_put (ci := 9) [(h0, .inr (9, [.int 8, v1h0, v2h0, v3h0, .ref ta, v5h0, v6h0, v7h0, v8h0, v9h0, v10h0, v11h0, v12h0, v13h0, v14h0])), (ta, .inl (g.2.1, 900, .inl fa_24))] X inlX9 rfl tyX9_ok nmX9 0 (by decide) rfl dX9_write_46 mw95 0 rfl rfl rfl (Nat.le_of_ble_eq_true rfl) rfl ?_
  refine k_iinc (-8) [(2, .int (-8)), (0, .ref h0), (1, .int p0)] 0 X dX9_write_49 rfl (by decide) (by decide) rfl ?_
  refine k_goto 3 X dX9_write_52 (by decide) ?_
  refine k_iload_n X dX9_write_3 0 rfl ?_
  refine k_if_lt 55 X dX9_write_4 (by decide) (fun _ => ?_) (fun h_25 => absurd (by decide) h_25)
  exact k_vret X hr dX9_write_55 (Nat.le_of_ble_eq_true rfl) (Nat.le_of_ble_eq_true rfl) [0, 1] (by decide) rfl rfl ⟨fa_24, rfl⟩


set_option maxHeartbeats 4000000 in
set_option maxRecDepth 100000 in
theorem c_write8 (l : Launch) (g : Gx) (h0 : Nat) (p0 : Int32) (v1h0 : Value) (v2h0 : Value) (v3h0 : Value) (ta : Nat) (v5h0 : Value) (v6h0 : Value) (v7h0 : Value) (v8h0 : Value) (v9h0 : Value) (v10h0 : Value) (v11h0 : Value) (v12h0 : Value) (v13h0 : Value) (v14h0 : Value) (fb : Nat → Int32) : cV l g yX9_write cX9_write 3 0 0 0 0 [.ref h0, .int p0] [(h0, .inr (9, [.int 8, v1h0, v2h0, v3h0, .ref ta, v5h0, v6h0, v7h0, v8h0, v9h0, v10h0, v11h0, v12h0, v13h0, v14h0])), (ta, .inl (g.2.1, 900, .inl fb))] (fun w => ∃ fc, w = [(h0, .inr (9, [.int 12, v1h0, v2h0, v3h0, .ref ta, v5h0, v6h0, v7h0, v8h0, v9h0, v10h0, v11h0, v12h0, v13h0, v14h0])), (ta, .inl (g.2.1, 900, .inl fc))]) := by
  refine cV.of (by decide) (Nat.le_of_ble_eq_true rfl) ?_
  intro p e s m args below meth c A X hr hi
  refine k_lveq [(0, .ref h0), (1, .int p0)] rfl ?_
  refine k_bipush (v := 24) X dX9_write_0 (by decide) ?_
  refine k_istore_n [(2, .int 24), (0, .ref h0), (1, .int p0)] X dX9_write_2 (by decide) rfl ?_
  refine k_iload_n X dX9_write_3 0 rfl ?_
  refine k_if_lt 55 X dX9_write_4 (by decide) (fun h_1 => absurd h_1 (by decide)) (fun _ => ?_)
  refine k_aload_n X dX9_write_7 1 rfl ?_
  refine k_get (ci := 9) X inlX9 rfl 0 (by decide) dX9_write_8 mw95 0 rfl rfl ?_
  refine k_if_lt 49 X dX9_write_11 (by decide) (fun h_2 => absurd h_2 (by decide)) (fun _ => ?_)
  refine k_aload_n X dX9_write_14 1 rfl ?_
  refine k_get (ci := 9) X inlX9 rfl 0 (by decide) dX9_write_15 mw95 0 rfl rfl ?_
  refine k_aload_n X dX9_write_18 1 rfl ?_
  refine k_get (ci := 9) X inlX9 rfl 4 (by decide) dX9_write_19 mw105 0 rfl rfl ?_
  refine k_alen 900 0 X dX9_write_22 1 rfl rfl (by show Int32.ofNat 900 = 900; decide) ?_
  refine k_ic_ge 49 X dX9_write_23 (by decide) (fun h_3 => absurd h_3 (by decide)) (fun _ => ?_)
  refine k_aload_n X dX9_write_26 1 rfl ?_
  refine k_get (ci := 9) X inlX9 rfl 4 (by decide) dX9_write_27 mw105 0 rfl rfl ?_
  refine k_aload_n X dX9_write_30 1 rfl ?_
  refine k_get (ci := 9) X inlX9 rfl 0 (by decide) dX9_write_31 mw95 0 rfl rfl ?_
  refine k_iload_n X dX9_write_34 2 rfl ?_
  refine k_iload_n X dX9_write_35 0 rfl ?_
  refine k_ishr X dX9_write_36 ?_
  refine k_nm (fun z_4 ez_4 => ?_)
  refine k_i2b X dX9_write_37 ?_
  refine k_nm (fun z_5 ez_5 => ?_)
  refine k_bast [(h0, .inr (9, [.int 8, v1h0, v2h0, v3h0, .ref ta, v5h0, v6h0, v7h0, v8h0, v9h0, v10h0, v11h0, v12h0, v13h0, v14h0])), (ta, .inl (g.2.1, 900, .inl (upd fb (8 : Int32).toNatClampNeg (vp_nar .byte z_5))))] X dX9_write_38 1 rfl (by unfold vp_in; decide) rfl ?_
  refine (fun hg : ∀ fa_6 : Nat → Int32, Wk p l e _ s m args below meth c _ A g _ _ _ [(h0, .inr (9, [.int 8, v1h0, v2h0, v3h0, .ref ta, v5h0, v6h0, v7h0, v8h0, v9h0, v10h0, v11h0, v12h0, v13h0, v14h0])), (ta, .inl (g.2.1, 900, .inl fa_6))] _ _ _ => hg _) (fun fa_6 => ?_)
  refine k_aload_n X dX9_write_39 1 rfl ?_
  refine k_dup X dX9_write_40 rfl ?_
  refine k_get (ci := 9) X inlX9 rfl 0 (by decide) dX9_write_41 mw95 0 rfl rfl ?_
  refine k_iconst (v := 1) X dX9_write_44 (by decide) ?_
  refine k_iadd X dX9_write_45 ?_
  refine k_to (9) (by decide) ?_
  refine k_put (ci := 9) [(h0, .inr (9, [.int 9, v1h0, v2h0, v3h0, .ref ta, v5h0, v6h0, v7h0, v8h0, v9h0, v10h0, v11h0, v12h0, v13h0, v14h0])), (ta, .inl (g.2.1, 900, .inl fa_6))] X inlX9 rfl tyX9_ok nmX9 0 (by decide) rfl dX9_write_46 mw95 0 rfl rfl rfl (Nat.le_of_ble_eq_true rfl) rfl ?_
  refine k_iinc (16) [(2, .int 16), (0, .ref h0), (1, .int p0)] 0 X dX9_write_49 rfl (by decide) (by decide) rfl ?_
  refine k_goto 3 X dX9_write_52 (by decide) ?_
  refine k_iload_n X dX9_write_3 0 rfl ?_
  refine k_if_lt 55 X dX9_write_4 (by decide) (fun h_7 => absurd h_7 (by decide)) (fun _ => ?_)
  refine k_aload_n X dX9_write_7 1 rfl ?_
  refine k_get (ci := 9) X inlX9 rfl 0 (by decide) dX9_write_8 mw95 0 rfl rfl ?_
  refine k_if_lt 49 X dX9_write_11 (by decide) (fun h_8 => absurd h_8 (by decide)) (fun _ => ?_)
  refine k_aload_n X dX9_write_14 1 rfl ?_
  refine k_get (ci := 9) X inlX9 rfl 0 (by decide) dX9_write_15 mw95 0 rfl rfl ?_
  refine k_aload_n X dX9_write_18 1 rfl ?_
  refine k_get (ci := 9) X inlX9 rfl 4 (by decide) dX9_write_19 mw105 0 rfl rfl ?_
  refine k_alen 900 0 X dX9_write_22 1 rfl rfl (by show Int32.ofNat 900 = 900; decide) ?_
  refine k_ic_ge 49 X dX9_write_23 (by decide) (fun h_9 => absurd h_9 (by decide)) (fun _ => ?_)
  refine k_aload_n X dX9_write_26 1 rfl ?_
  refine k_get (ci := 9) X inlX9 rfl 4 (by decide) dX9_write_27 mw105 0 rfl rfl ?_
  refine k_aload_n X dX9_write_30 1 rfl ?_
  refine k_get (ci := 9) X inlX9 rfl 0 (by decide) dX9_write_31 mw95 0 rfl rfl ?_
  refine k_iload_n X dX9_write_34 2 rfl ?_
  refine k_iload_n X dX9_write_35 0 rfl ?_
  refine k_ishr X dX9_write_36 ?_
  refine k_nm (fun z_10 ez_10 => ?_)
  refine k_i2b X dX9_write_37 ?_
  refine k_nm (fun z_11 ez_11 => ?_)
  refine k_bast [(h0, .inr (9, [.int 9, v1h0, v2h0, v3h0, .ref ta, v5h0, v6h0, v7h0, v8h0, v9h0, v10h0, v11h0, v12h0, v13h0, v14h0])), (ta, .inl (g.2.1, 900, .inl (upd fa_6 (9 : Int32).toNatClampNeg (vp_nar .byte z_11))))] X dX9_write_38 1 rfl (by unfold vp_in; decide) rfl ?_
  refine (fun hg : ∀ fa_12 : Nat → Int32, Wk p l e _ s m args below meth c _ A g _ _ _ [(h0, .inr (9, [.int 9, v1h0, v2h0, v3h0, .ref ta, v5h0, v6h0, v7h0, v8h0, v9h0, v10h0, v11h0, v12h0, v13h0, v14h0])), (ta, .inl (g.2.1, 900, .inl fa_12))] _ _ _ => hg _) (fun fa_12 => ?_)
  refine k_aload_n X dX9_write_39 1 rfl ?_
  refine k_dup X dX9_write_40 rfl ?_
  refine k_get (ci := 9) X inlX9 rfl 0 (by decide) dX9_write_41 mw95 0 rfl rfl ?_
  refine k_iconst (v := 1) X dX9_write_44 (by decide) ?_
  refine k_iadd X dX9_write_45 ?_
  refine k_to (10) (by decide) ?_
  refine k_put (ci := 9) [(h0, .inr (9, [.int 10, v1h0, v2h0, v3h0, .ref ta, v5h0, v6h0, v7h0, v8h0, v9h0, v10h0, v11h0, v12h0, v13h0, v14h0])), (ta, .inl (g.2.1, 900, .inl fa_12))] X inlX9 rfl tyX9_ok nmX9 0 (by decide) rfl dX9_write_46 mw95 0 rfl rfl rfl (Nat.le_of_ble_eq_true rfl) rfl ?_
  refine k_iinc (8) [(2, .int 8), (0, .ref h0), (1, .int p0)] 0 X dX9_write_49 rfl (by decide) (by decide) rfl ?_
  refine k_goto 3 X dX9_write_52 (by decide) ?_
  refine k_iload_n X dX9_write_3 0 rfl ?_
  refine k_if_lt 55 X dX9_write_4 (by decide) (fun h_13 => absurd h_13 (by decide)) (fun _ => ?_)
  refine k_aload_n X dX9_write_7 1 rfl ?_
  refine k_get (ci := 9) X inlX9 rfl 0 (by decide) dX9_write_8 mw95 0 rfl rfl ?_
  refine k_if_lt 49 X dX9_write_11 (by decide) (fun h_14 => absurd h_14 (by decide)) (fun _ => ?_)
  refine k_aload_n X dX9_write_14 1 rfl ?_
  refine k_get (ci := 9) X inlX9 rfl 0 (by decide) dX9_write_15 mw95 0 rfl rfl ?_
  refine k_aload_n X dX9_write_18 1 rfl ?_
  refine k_get (ci := 9) X inlX9 rfl 4 (by decide) dX9_write_19 mw105 0 rfl rfl ?_
  refine k_alen 900 0 X dX9_write_22 1 rfl rfl (by show Int32.ofNat 900 = 900; decide) ?_
  refine k_ic_ge 49 X dX9_write_23 (by decide) (fun h_15 => absurd h_15 (by decide)) (fun _ => ?_)
  refine k_aload_n X dX9_write_26 1 rfl ?_
  refine k_get (ci := 9) X inlX9 rfl 4 (by decide) dX9_write_27 mw105 0 rfl rfl ?_
  refine k_aload_n X dX9_write_30 1 rfl ?_
  refine k_get (ci := 9) X inlX9 rfl 0 (by decide) dX9_write_31 mw95 0 rfl rfl ?_
  refine k_iload_n X dX9_write_34 2 rfl ?_
  refine k_iload_n X dX9_write_35 0 rfl ?_
  refine k_ishr X dX9_write_36 ?_
  refine k_nm (fun z_16 ez_16 => ?_)
  refine k_i2b X dX9_write_37 ?_
  refine k_nm (fun z_17 ez_17 => ?_)
  refine k_bast [(h0, .inr (9, [.int 10, v1h0, v2h0, v3h0, .ref ta, v5h0, v6h0, v7h0, v8h0, v9h0, v10h0, v11h0, v12h0, v13h0, v14h0])), (ta, .inl (g.2.1, 900, .inl (upd fa_12 (10 : Int32).toNatClampNeg (vp_nar .byte z_17))))] X dX9_write_38 1 rfl (by unfold vp_in; decide) rfl ?_
  refine (fun hg : ∀ fa_18 : Nat → Int32, Wk p l e _ s m args below meth c _ A g _ _ _ [(h0, .inr (9, [.int 10, v1h0, v2h0, v3h0, .ref ta, v5h0, v6h0, v7h0, v8h0, v9h0, v10h0, v11h0, v12h0, v13h0, v14h0])), (ta, .inl (g.2.1, 900, .inl fa_18))] _ _ _ => hg _) (fun fa_18 => ?_)
  refine k_aload_n X dX9_write_39 1 rfl ?_
  refine k_dup X dX9_write_40 rfl ?_
  refine k_get (ci := 9) X inlX9 rfl 0 (by decide) dX9_write_41 mw95 0 rfl rfl ?_
  refine k_iconst (v := 1) X dX9_write_44 (by decide) ?_
  refine k_iadd X dX9_write_45 ?_
  refine k_to (11) (by decide) ?_
  refine k_put (ci := 9) [(h0, .inr (9, [.int 11, v1h0, v2h0, v3h0, .ref ta, v5h0, v6h0, v7h0, v8h0, v9h0, v10h0, v11h0, v12h0, v13h0, v14h0])), (ta, .inl (g.2.1, 900, .inl fa_18))] X inlX9 rfl tyX9_ok nmX9 0 (by decide) rfl dX9_write_46 mw95 0 rfl rfl rfl (Nat.le_of_ble_eq_true rfl) rfl ?_
  refine k_iinc (0) [(2, .int 0), (0, .ref h0), (1, .int p0)] 0 X dX9_write_49 rfl (by decide) (by decide) rfl ?_
  refine k_goto 3 X dX9_write_52 (by decide) ?_
  refine k_iload_n X dX9_write_3 0 rfl ?_
  refine k_if_lt 55 X dX9_write_4 (by decide) (fun h_19 => absurd h_19 (by decide)) (fun _ => ?_)
  refine k_aload_n X dX9_write_7 1 rfl ?_
  refine k_get (ci := 9) X inlX9 rfl 0 (by decide) dX9_write_8 mw95 0 rfl rfl ?_
  refine k_if_lt 49 X dX9_write_11 (by decide) (fun h_20 => absurd h_20 (by decide)) (fun _ => ?_)
  refine k_aload_n X dX9_write_14 1 rfl ?_
  refine k_get (ci := 9) X inlX9 rfl 0 (by decide) dX9_write_15 mw95 0 rfl rfl ?_
  refine k_aload_n X dX9_write_18 1 rfl ?_
  refine k_get (ci := 9) X inlX9 rfl 4 (by decide) dX9_write_19 mw105 0 rfl rfl ?_
  refine k_alen 900 0 X dX9_write_22 1 rfl rfl (by show Int32.ofNat 900 = 900; decide) ?_
  refine k_ic_ge 49 X dX9_write_23 (by decide) (fun h_21 => absurd h_21 (by decide)) (fun _ => ?_)
  refine k_aload_n X dX9_write_26 1 rfl ?_
  refine k_get (ci := 9) X inlX9 rfl 4 (by decide) dX9_write_27 mw105 0 rfl rfl ?_
  refine k_aload_n X dX9_write_30 1 rfl ?_
  refine k_get (ci := 9) X inlX9 rfl 0 (by decide) dX9_write_31 mw95 0 rfl rfl ?_
  refine k_iload_n X dX9_write_34 2 rfl ?_
  refine k_iload_n X dX9_write_35 0 rfl ?_
  refine k_ishr X dX9_write_36 ?_
  refine k_nm (fun z_22 ez_22 => ?_)
  refine k_i2b X dX9_write_37 ?_
  refine k_nm (fun z_23 ez_23 => ?_)
  refine k_bast [(h0, .inr (9, [.int 11, v1h0, v2h0, v3h0, .ref ta, v5h0, v6h0, v7h0, v8h0, v9h0, v10h0, v11h0, v12h0, v13h0, v14h0])), (ta, .inl (g.2.1, 900, .inl (upd fa_18 (11 : Int32).toNatClampNeg (vp_nar .byte z_23))))] X dX9_write_38 1 rfl (by unfold vp_in; decide) rfl ?_
  refine (fun hg : ∀ fa_24 : Nat → Int32, Wk p l e _ s m args below meth c _ A g _ _ _ [(h0, .inr (9, [.int 11, v1h0, v2h0, v3h0, .ref ta, v5h0, v6h0, v7h0, v8h0, v9h0, v10h0, v11h0, v12h0, v13h0, v14h0])), (ta, .inl (g.2.1, 900, .inl fa_24))] _ _ _ => hg _) (fun fa_24 => ?_)
  refine k_aload_n X dX9_write_39 1 rfl ?_
  refine k_dup X dX9_write_40 rfl ?_
  refine k_get (ci := 9) X inlX9 rfl 0 (by decide) dX9_write_41 mw95 0 rfl rfl ?_
  refine k_iconst (v := 1) X dX9_write_44 (by decide) ?_
  refine k_iadd X dX9_write_45 ?_
  refine k_to (12) (by decide) ?_
  refine k_put (ci := 9) [(h0, .inr (9, [.int 12, v1h0, v2h0, v3h0, .ref ta, v5h0, v6h0, v7h0, v8h0, v9h0, v10h0, v11h0, v12h0, v13h0, v14h0])), (ta, .inl (g.2.1, 900, .inl fa_24))] X inlX9 rfl tyX9_ok nmX9 0 (by decide) rfl dX9_write_46 mw95 0 rfl rfl rfl (Nat.le_of_ble_eq_true rfl) rfl ?_
  refine k_iinc (-8) [(2, .int (-8)), (0, .ref h0), (1, .int p0)] 0 X dX9_write_49 rfl (by decide) (by decide) rfl ?_
  refine k_goto 3 X dX9_write_52 (by decide) ?_
  refine k_iload_n X dX9_write_3 0 rfl ?_
  refine k_if_lt 55 X dX9_write_4 (by decide) (fun _ => ?_) (fun h_25 => absurd (by decide) h_25)
  exact k_vret X hr dX9_write_55 (Nat.le_of_ble_eq_true rfl) (Nat.le_of_ble_eq_true rfl) [0, 1] (by decide) rfl rfl ⟨fa_24, rfl⟩


set_option maxHeartbeats 4000000 in
set_option maxRecDepth 100000 in
theorem c_write12 (l : Launch) (g : Gx) (h0 : Nat) (p0 : Int32) (v1h0 : Value) (v2h0 : Value) (v3h0 : Value) (ta : Nat) (v5h0 : Value) (v6h0 : Value) (v7h0 : Value) (v8h0 : Value) (v9h0 : Value) (v10h0 : Value) (v11h0 : Value) (v12h0 : Value) (v13h0 : Value) (v14h0 : Value) (fb : Nat → Int32) : cV l g yX9_write cX9_write 3 0 0 0 0 [.ref h0, .int p0] [(h0, .inr (9, [.int 12, v1h0, v2h0, v3h0, .ref ta, v5h0, v6h0, v7h0, v8h0, v9h0, v10h0, v11h0, v12h0, v13h0, v14h0])), (ta, .inl (g.2.1, 900, .inl fb))] (fun w => ∃ fc, w = [(h0, .inr (9, [.int 16, v1h0, v2h0, v3h0, .ref ta, v5h0, v6h0, v7h0, v8h0, v9h0, v10h0, v11h0, v12h0, v13h0, v14h0])), (ta, .inl (g.2.1, 900, .inl fc))]) := by
  refine cV.of (by decide) (Nat.le_of_ble_eq_true rfl) ?_
  intro p e s m args below meth c A X hr hi
  refine k_lveq [(0, .ref h0), (1, .int p0)] rfl ?_
  refine k_bipush (v := 24) X dX9_write_0 (by decide) ?_
  refine k_istore_n [(2, .int 24), (0, .ref h0), (1, .int p0)] X dX9_write_2 (by decide) rfl ?_
  refine k_iload_n X dX9_write_3 0 rfl ?_
  refine k_if_lt 55 X dX9_write_4 (by decide) (fun h_1 => absurd h_1 (by decide)) (fun _ => ?_)
  refine k_aload_n X dX9_write_7 1 rfl ?_
  refine k_get (ci := 9) X inlX9 rfl 0 (by decide) dX9_write_8 mw95 0 rfl rfl ?_
  refine k_if_lt 49 X dX9_write_11 (by decide) (fun h_2 => absurd h_2 (by decide)) (fun _ => ?_)
  refine k_aload_n X dX9_write_14 1 rfl ?_
  refine k_get (ci := 9) X inlX9 rfl 0 (by decide) dX9_write_15 mw95 0 rfl rfl ?_
  refine k_aload_n X dX9_write_18 1 rfl ?_
  refine k_get (ci := 9) X inlX9 rfl 4 (by decide) dX9_write_19 mw105 0 rfl rfl ?_
  refine k_alen 900 0 X dX9_write_22 1 rfl rfl (by show Int32.ofNat 900 = 900; decide) ?_
  refine k_ic_ge 49 X dX9_write_23 (by decide) (fun h_3 => absurd h_3 (by decide)) (fun _ => ?_)
  refine k_aload_n X dX9_write_26 1 rfl ?_
  refine k_get (ci := 9) X inlX9 rfl 4 (by decide) dX9_write_27 mw105 0 rfl rfl ?_
  refine k_aload_n X dX9_write_30 1 rfl ?_
  refine k_get (ci := 9) X inlX9 rfl 0 (by decide) dX9_write_31 mw95 0 rfl rfl ?_
  refine k_iload_n X dX9_write_34 2 rfl ?_
  refine k_iload_n X dX9_write_35 0 rfl ?_
  refine k_ishr X dX9_write_36 ?_
  refine k_nm (fun z_4 ez_4 => ?_)
  refine k_i2b X dX9_write_37 ?_
  refine k_nm (fun z_5 ez_5 => ?_)
  refine k_bast [(h0, .inr (9, [.int 12, v1h0, v2h0, v3h0, .ref ta, v5h0, v6h0, v7h0, v8h0, v9h0, v10h0, v11h0, v12h0, v13h0, v14h0])), (ta, .inl (g.2.1, 900, .inl (upd fb (12 : Int32).toNatClampNeg (vp_nar .byte z_5))))] X dX9_write_38 1 rfl (by unfold vp_in; decide) rfl ?_
  refine (fun hg : ∀ fa_6 : Nat → Int32, Wk p l e _ s m args below meth c _ A g _ _ _ [(h0, .inr (9, [.int 12, v1h0, v2h0, v3h0, .ref ta, v5h0, v6h0, v7h0, v8h0, v9h0, v10h0, v11h0, v12h0, v13h0, v14h0])), (ta, .inl (g.2.1, 900, .inl fa_6))] _ _ _ => hg _) (fun fa_6 => ?_)
  refine k_aload_n X dX9_write_39 1 rfl ?_
  refine k_dup X dX9_write_40 rfl ?_
  refine k_get (ci := 9) X inlX9 rfl 0 (by decide) dX9_write_41 mw95 0 rfl rfl ?_
  refine k_iconst (v := 1) X dX9_write_44 (by decide) ?_
  refine k_iadd X dX9_write_45 ?_
  refine k_to (13) (by decide) ?_
  refine k_put (ci := 9) [(h0, .inr (9, [.int 13, v1h0, v2h0, v3h0, .ref ta, v5h0, v6h0, v7h0, v8h0, v9h0, v10h0, v11h0, v12h0, v13h0, v14h0])), (ta, .inl (g.2.1, 900, .inl fa_6))] X inlX9 rfl tyX9_ok nmX9 0 (by decide) rfl dX9_write_46 mw95 0 rfl rfl rfl (Nat.le_of_ble_eq_true rfl) rfl ?_
  refine k_iinc (16) [(2, .int 16), (0, .ref h0), (1, .int p0)] 0 X dX9_write_49 rfl (by decide) (by decide) rfl ?_
  refine k_goto 3 X dX9_write_52 (by decide) ?_
  refine k_iload_n X dX9_write_3 0 rfl ?_
  refine k_if_lt 55 X dX9_write_4 (by decide) (fun h_7 => absurd h_7 (by decide)) (fun _ => ?_)
  refine k_aload_n X dX9_write_7 1 rfl ?_
  refine k_get (ci := 9) X inlX9 rfl 0 (by decide) dX9_write_8 mw95 0 rfl rfl ?_
  refine k_if_lt 49 X dX9_write_11 (by decide) (fun h_8 => absurd h_8 (by decide)) (fun _ => ?_)
  refine k_aload_n X dX9_write_14 1 rfl ?_
  refine k_get (ci := 9) X inlX9 rfl 0 (by decide) dX9_write_15 mw95 0 rfl rfl ?_
  refine k_aload_n X dX9_write_18 1 rfl ?_
  refine k_get (ci := 9) X inlX9 rfl 4 (by decide) dX9_write_19 mw105 0 rfl rfl ?_
  refine k_alen 900 0 X dX9_write_22 1 rfl rfl (by show Int32.ofNat 900 = 900; decide) ?_
  refine k_ic_ge 49 X dX9_write_23 (by decide) (fun h_9 => absurd h_9 (by decide)) (fun _ => ?_)
  refine k_aload_n X dX9_write_26 1 rfl ?_
  refine k_get (ci := 9) X inlX9 rfl 4 (by decide) dX9_write_27 mw105 0 rfl rfl ?_
  refine k_aload_n X dX9_write_30 1 rfl ?_
  refine k_get (ci := 9) X inlX9 rfl 0 (by decide) dX9_write_31 mw95 0 rfl rfl ?_
  refine k_iload_n X dX9_write_34 2 rfl ?_
  refine k_iload_n X dX9_write_35 0 rfl ?_
  refine k_ishr X dX9_write_36 ?_
  refine k_nm (fun z_10 ez_10 => ?_)
  refine k_i2b X dX9_write_37 ?_
  refine k_nm (fun z_11 ez_11 => ?_)
  refine k_bast [(h0, .inr (9, [.int 13, v1h0, v2h0, v3h0, .ref ta, v5h0, v6h0, v7h0, v8h0, v9h0, v10h0, v11h0, v12h0, v13h0, v14h0])), (ta, .inl (g.2.1, 900, .inl (upd fa_6 (13 : Int32).toNatClampNeg (vp_nar .byte z_11))))] X dX9_write_38 1 rfl (by unfold vp_in; decide) rfl ?_
  refine (fun hg : ∀ fa_12 : Nat → Int32, Wk p l e _ s m args below meth c _ A g _ _ _ [(h0, .inr (9, [.int 13, v1h0, v2h0, v3h0, .ref ta, v5h0, v6h0, v7h0, v8h0, v9h0, v10h0, v11h0, v12h0, v13h0, v14h0])), (ta, .inl (g.2.1, 900, .inl fa_12))] _ _ _ => hg _) (fun fa_12 => ?_)
  refine k_aload_n X dX9_write_39 1 rfl ?_
  refine k_dup X dX9_write_40 rfl ?_
  refine k_get (ci := 9) X inlX9 rfl 0 (by decide) dX9_write_41 mw95 0 rfl rfl ?_
  refine k_iconst (v := 1) X dX9_write_44 (by decide) ?_
  refine k_iadd X dX9_write_45 ?_
  refine k_to (14) (by decide) ?_
  refine k_put (ci := 9) [(h0, .inr (9, [.int 14, v1h0, v2h0, v3h0, .ref ta, v5h0, v6h0, v7h0, v8h0, v9h0, v10h0, v11h0, v12h0, v13h0, v14h0])), (ta, .inl (g.2.1, 900, .inl fa_12))] X inlX9 rfl tyX9_ok nmX9 0 (by decide) rfl dX9_write_46 mw95 0 rfl rfl rfl (Nat.le_of_ble_eq_true rfl) rfl ?_
  refine k_iinc (8) [(2, .int 8), (0, .ref h0), (1, .int p0)] 0 X dX9_write_49 rfl (by decide) (by decide) rfl ?_
  refine k_goto 3 X dX9_write_52 (by decide) ?_
  refine k_iload_n X dX9_write_3 0 rfl ?_
  refine k_if_lt 55 X dX9_write_4 (by decide) (fun h_13 => absurd h_13 (by decide)) (fun _ => ?_)
  refine k_aload_n X dX9_write_7 1 rfl ?_
  refine k_get (ci := 9) X inlX9 rfl 0 (by decide) dX9_write_8 mw95 0 rfl rfl ?_
  refine k_if_lt 49 X dX9_write_11 (by decide) (fun h_14 => absurd h_14 (by decide)) (fun _ => ?_)
  refine k_aload_n X dX9_write_14 1 rfl ?_
  refine k_get (ci := 9) X inlX9 rfl 0 (by decide) dX9_write_15 mw95 0 rfl rfl ?_
  refine k_aload_n X dX9_write_18 1 rfl ?_
  refine k_get (ci := 9) X inlX9 rfl 4 (by decide) dX9_write_19 mw105 0 rfl rfl ?_
  refine k_alen 900 0 X dX9_write_22 1 rfl rfl (by show Int32.ofNat 900 = 900; decide) ?_
  refine k_ic_ge 49 X dX9_write_23 (by decide) (fun h_15 => absurd h_15 (by decide)) (fun _ => ?_)
  refine k_aload_n X dX9_write_26 1 rfl ?_
  refine k_get (ci := 9) X inlX9 rfl 4 (by decide) dX9_write_27 mw105 0 rfl rfl ?_
  refine k_aload_n X dX9_write_30 1 rfl ?_
  refine k_get (ci := 9) X inlX9 rfl 0 (by decide) dX9_write_31 mw95 0 rfl rfl ?_
  refine k_iload_n X dX9_write_34 2 rfl ?_
  refine k_iload_n X dX9_write_35 0 rfl ?_
  refine k_ishr X dX9_write_36 ?_
  refine k_nm (fun z_16 ez_16 => ?_)
  refine k_i2b X dX9_write_37 ?_
  refine k_nm (fun z_17 ez_17 => ?_)
  refine k_bast [(h0, .inr (9, [.int 14, v1h0, v2h0, v3h0, .ref ta, v5h0, v6h0, v7h0, v8h0, v9h0, v10h0, v11h0, v12h0, v13h0, v14h0])), (ta, .inl (g.2.1, 900, .inl (upd fa_12 (14 : Int32).toNatClampNeg (vp_nar .byte z_17))))] X dX9_write_38 1 rfl (by unfold vp_in; decide) rfl ?_
  refine (fun hg : ∀ fa_18 : Nat → Int32, Wk p l e _ s m args below meth c _ A g _ _ _ [(h0, .inr (9, [.int 14, v1h0, v2h0, v3h0, .ref ta, v5h0, v6h0, v7h0, v8h0, v9h0, v10h0, v11h0, v12h0, v13h0, v14h0])), (ta, .inl (g.2.1, 900, .inl fa_18))] _ _ _ => hg _) (fun fa_18 => ?_)
  refine k_aload_n X dX9_write_39 1 rfl ?_
  refine k_dup X dX9_write_40 rfl ?_
  refine k_get (ci := 9) X inlX9 rfl 0 (by decide) dX9_write_41 mw95 0 rfl rfl ?_
  refine k_iconst (v := 1) X dX9_write_44 (by decide) ?_
  refine k_iadd X dX9_write_45 ?_
  refine k_to (15) (by decide) ?_
  refine k_put (ci := 9) [(h0, .inr (9, [.int 15, v1h0, v2h0, v3h0, .ref ta, v5h0, v6h0, v7h0, v8h0, v9h0, v10h0, v11h0, v12h0, v13h0, v14h0])), (ta, .inl (g.2.1, 900, .inl fa_18))] X inlX9 rfl tyX9_ok nmX9 0 (by decide) rfl dX9_write_46 mw95 0 rfl rfl rfl (Nat.le_of_ble_eq_true rfl) rfl ?_
  refine k_iinc (0) [(2, .int 0), (0, .ref h0), (1, .int p0)] 0 X dX9_write_49 rfl (by decide) (by decide) rfl ?_
  refine k_goto 3 X dX9_write_52 (by decide) ?_
  refine k_iload_n X dX9_write_3 0 rfl ?_
  refine k_if_lt 55 X dX9_write_4 (by decide) (fun h_19 => absurd h_19 (by decide)) (fun _ => ?_)
  refine k_aload_n X dX9_write_7 1 rfl ?_
  refine k_get (ci := 9) X inlX9 rfl 0 (by decide) dX9_write_8 mw95 0 rfl rfl ?_
  refine k_if_lt 49 X dX9_write_11 (by decide) (fun h_20 => absurd h_20 (by decide)) (fun _ => ?_)
  refine k_aload_n X dX9_write_14 1 rfl ?_
  refine k_get (ci := 9) X inlX9 rfl 0 (by decide) dX9_write_15 mw95 0 rfl rfl ?_
  refine k_aload_n X dX9_write_18 1 rfl ?_
  refine k_get (ci := 9) X inlX9 rfl 4 (by decide) dX9_write_19 mw105 0 rfl rfl ?_
  refine k_alen 900 0 X dX9_write_22 1 rfl rfl (by show Int32.ofNat 900 = 900; decide) ?_
  refine k_ic_ge 49 X dX9_write_23 (by decide) (fun h_21 => absurd h_21 (by decide)) (fun _ => ?_)
  refine k_aload_n X dX9_write_26 1 rfl ?_
  refine k_get (ci := 9) X inlX9 rfl 4 (by decide) dX9_write_27 mw105 0 rfl rfl ?_
  refine k_aload_n X dX9_write_30 1 rfl ?_
  refine k_get (ci := 9) X inlX9 rfl 0 (by decide) dX9_write_31 mw95 0 rfl rfl ?_
  refine k_iload_n X dX9_write_34 2 rfl ?_
  refine k_iload_n X dX9_write_35 0 rfl ?_
  refine k_ishr X dX9_write_36 ?_
  refine k_nm (fun z_22 ez_22 => ?_)
  refine k_i2b X dX9_write_37 ?_
  refine k_nm (fun z_23 ez_23 => ?_)
  refine k_bast [(h0, .inr (9, [.int 15, v1h0, v2h0, v3h0, .ref ta, v5h0, v6h0, v7h0, v8h0, v9h0, v10h0, v11h0, v12h0, v13h0, v14h0])), (ta, .inl (g.2.1, 900, .inl (upd fa_18 (15 : Int32).toNatClampNeg (vp_nar .byte z_23))))] X dX9_write_38 1 rfl (by unfold vp_in; decide) rfl ?_
  refine (fun hg : ∀ fa_24 : Nat → Int32, Wk p l e _ s m args below meth c _ A g _ _ _ [(h0, .inr (9, [.int 15, v1h0, v2h0, v3h0, .ref ta, v5h0, v6h0, v7h0, v8h0, v9h0, v10h0, v11h0, v12h0, v13h0, v14h0])), (ta, .inl (g.2.1, 900, .inl fa_24))] _ _ _ => hg _) (fun fa_24 => ?_)
  refine k_aload_n X dX9_write_39 1 rfl ?_
  refine k_dup X dX9_write_40 rfl ?_
  refine k_get (ci := 9) X inlX9 rfl 0 (by decide) dX9_write_41 mw95 0 rfl rfl ?_
  refine k_iconst (v := 1) X dX9_write_44 (by decide) ?_
  refine k_iadd X dX9_write_45 ?_
  refine k_to (16) (by decide) ?_
  refine k_put (ci := 9) [(h0, .inr (9, [.int 16, v1h0, v2h0, v3h0, .ref ta, v5h0, v6h0, v7h0, v8h0, v9h0, v10h0, v11h0, v12h0, v13h0, v14h0])), (ta, .inl (g.2.1, 900, .inl fa_24))] X inlX9 rfl tyX9_ok nmX9 0 (by decide) rfl dX9_write_46 mw95 0 rfl rfl rfl (Nat.le_of_ble_eq_true rfl) rfl ?_
  refine k_iinc (-8) [(2, .int (-8)), (0, .ref h0), (1, .int p0)] 0 X dX9_write_49 rfl (by decide) (by decide) rfl ?_
  refine k_goto 3 X dX9_write_52 (by decide) ?_
  refine k_iload_n X dX9_write_3 0 rfl ?_
  refine k_if_lt 55 X dX9_write_4 (by decide) (fun _ => ?_) (fun h_25 => absurd (by decide) h_25)
  exact k_vret X hr dX9_write_55 (Nat.le_of_ble_eq_true rfl) (Nat.le_of_ble_eq_true rfl) [0, 1] (by decide) rfl rfl ⟨fa_24, rfl⟩


set_option maxHeartbeats 4000000 in
set_option maxRecDepth 100000 in
theorem c_write16 (l : Launch) (g : Gx) (h0 : Nat) (p0 : Int32) (v1h0 : Value) (v2h0 : Value) (v3h0 : Value) (ta : Nat) (v5h0 : Value) (v6h0 : Value) (v7h0 : Value) (v8h0 : Value) (v9h0 : Value) (v10h0 : Value) (v11h0 : Value) (v12h0 : Value) (v13h0 : Value) (v14h0 : Value) (fb : Nat → Int32) : cV l g yX9_write cX9_write 3 0 0 0 0 [.ref h0, .int p0] [(h0, .inr (9, [.int 16, v1h0, v2h0, v3h0, .ref ta, v5h0, v6h0, v7h0, v8h0, v9h0, v10h0, v11h0, v12h0, v13h0, v14h0])), (ta, .inl (g.2.1, 900, .inl fb))] (fun w => ∃ fc, w = [(h0, .inr (9, [.int 20, v1h0, v2h0, v3h0, .ref ta, v5h0, v6h0, v7h0, v8h0, v9h0, v10h0, v11h0, v12h0, v13h0, v14h0])), (ta, .inl (g.2.1, 900, .inl fc))]) := by
  refine cV.of (by decide) (Nat.le_of_ble_eq_true rfl) ?_
  intro p e s m args below meth c A X hr hi
  refine k_lveq [(0, .ref h0), (1, .int p0)] rfl ?_
  refine k_bipush (v := 24) X dX9_write_0 (by decide) ?_
  refine k_istore_n [(2, .int 24), (0, .ref h0), (1, .int p0)] X dX9_write_2 (by decide) rfl ?_
  refine k_iload_n X dX9_write_3 0 rfl ?_
  refine k_if_lt 55 X dX9_write_4 (by decide) (fun h_1 => absurd h_1 (by decide)) (fun _ => ?_)
  refine k_aload_n X dX9_write_7 1 rfl ?_
  refine k_get (ci := 9) X inlX9 rfl 0 (by decide) dX9_write_8 mw95 0 rfl rfl ?_
  refine k_if_lt 49 X dX9_write_11 (by decide) (fun h_2 => absurd h_2 (by decide)) (fun _ => ?_)
  refine k_aload_n X dX9_write_14 1 rfl ?_
  refine k_get (ci := 9) X inlX9 rfl 0 (by decide) dX9_write_15 mw95 0 rfl rfl ?_
  refine k_aload_n X dX9_write_18 1 rfl ?_
  refine k_get (ci := 9) X inlX9 rfl 4 (by decide) dX9_write_19 mw105 0 rfl rfl ?_
  refine k_alen 900 0 X dX9_write_22 1 rfl rfl (by show Int32.ofNat 900 = 900; decide) ?_
  refine k_ic_ge 49 X dX9_write_23 (by decide) (fun h_3 => absurd h_3 (by decide)) (fun _ => ?_)
  refine k_aload_n X dX9_write_26 1 rfl ?_
  refine k_get (ci := 9) X inlX9 rfl 4 (by decide) dX9_write_27 mw105 0 rfl rfl ?_
  refine k_aload_n X dX9_write_30 1 rfl ?_
  refine k_get (ci := 9) X inlX9 rfl 0 (by decide) dX9_write_31 mw95 0 rfl rfl ?_
  refine k_iload_n X dX9_write_34 2 rfl ?_
  refine k_iload_n X dX9_write_35 0 rfl ?_
  refine k_ishr X dX9_write_36 ?_
  refine k_nm (fun z_4 ez_4 => ?_)
  refine k_i2b X dX9_write_37 ?_
  refine k_nm (fun z_5 ez_5 => ?_)
  refine k_bast [(h0, .inr (9, [.int 16, v1h0, v2h0, v3h0, .ref ta, v5h0, v6h0, v7h0, v8h0, v9h0, v10h0, v11h0, v12h0, v13h0, v14h0])), (ta, .inl (g.2.1, 900, .inl (upd fb (16 : Int32).toNatClampNeg (vp_nar .byte z_5))))] X dX9_write_38 1 rfl (by unfold vp_in; decide) rfl ?_
  refine (fun hg : ∀ fa_6 : Nat → Int32, Wk p l e _ s m args below meth c _ A g _ _ _ [(h0, .inr (9, [.int 16, v1h0, v2h0, v3h0, .ref ta, v5h0, v6h0, v7h0, v8h0, v9h0, v10h0, v11h0, v12h0, v13h0, v14h0])), (ta, .inl (g.2.1, 900, .inl fa_6))] _ _ _ => hg _) (fun fa_6 => ?_)
  refine k_aload_n X dX9_write_39 1 rfl ?_
  refine k_dup X dX9_write_40 rfl ?_
  refine k_get (ci := 9) X inlX9 rfl 0 (by decide) dX9_write_41 mw95 0 rfl rfl ?_
  refine k_iconst (v := 1) X dX9_write_44 (by decide) ?_
  refine k_iadd X dX9_write_45 ?_
  refine k_to (17) (by decide) ?_
  refine k_put (ci := 9) [(h0, .inr (9, [.int 17, v1h0, v2h0, v3h0, .ref ta, v5h0, v6h0, v7h0, v8h0, v9h0, v10h0, v11h0, v12h0, v13h0, v14h0])), (ta, .inl (g.2.1, 900, .inl fa_6))] X inlX9 rfl tyX9_ok nmX9 0 (by decide) rfl dX9_write_46 mw95 0 rfl rfl rfl (Nat.le_of_ble_eq_true rfl) rfl ?_
  refine k_iinc (16) [(2, .int 16), (0, .ref h0), (1, .int p0)] 0 X dX9_write_49 rfl (by decide) (by decide) rfl ?_
  refine k_goto 3 X dX9_write_52 (by decide) ?_
  refine k_iload_n X dX9_write_3 0 rfl ?_
  refine k_if_lt 55 X dX9_write_4 (by decide) (fun h_7 => absurd h_7 (by decide)) (fun _ => ?_)
  refine k_aload_n X dX9_write_7 1 rfl ?_
  refine k_get (ci := 9) X inlX9 rfl 0 (by decide) dX9_write_8 mw95 0 rfl rfl ?_
  refine k_if_lt 49 X dX9_write_11 (by decide) (fun h_8 => absurd h_8 (by decide)) (fun _ => ?_)
  refine k_aload_n X dX9_write_14 1 rfl ?_
  refine k_get (ci := 9) X inlX9 rfl 0 (by decide) dX9_write_15 mw95 0 rfl rfl ?_
  refine k_aload_n X dX9_write_18 1 rfl ?_
  refine k_get (ci := 9) X inlX9 rfl 4 (by decide) dX9_write_19 mw105 0 rfl rfl ?_
  refine k_alen 900 0 X dX9_write_22 1 rfl rfl (by show Int32.ofNat 900 = 900; decide) ?_
  refine k_ic_ge 49 X dX9_write_23 (by decide) (fun h_9 => absurd h_9 (by decide)) (fun _ => ?_)
  refine k_aload_n X dX9_write_26 1 rfl ?_
  refine k_get (ci := 9) X inlX9 rfl 4 (by decide) dX9_write_27 mw105 0 rfl rfl ?_
  refine k_aload_n X dX9_write_30 1 rfl ?_
  refine k_get (ci := 9) X inlX9 rfl 0 (by decide) dX9_write_31 mw95 0 rfl rfl ?_
  refine k_iload_n X dX9_write_34 2 rfl ?_
  refine k_iload_n X dX9_write_35 0 rfl ?_
  refine k_ishr X dX9_write_36 ?_
  refine k_nm (fun z_10 ez_10 => ?_)
  refine k_i2b X dX9_write_37 ?_
  refine k_nm (fun z_11 ez_11 => ?_)
  refine k_bast [(h0, .inr (9, [.int 17, v1h0, v2h0, v3h0, .ref ta, v5h0, v6h0, v7h0, v8h0, v9h0, v10h0, v11h0, v12h0, v13h0, v14h0])), (ta, .inl (g.2.1, 900, .inl (upd fa_6 (17 : Int32).toNatClampNeg (vp_nar .byte z_11))))] X dX9_write_38 1 rfl (by unfold vp_in; decide) rfl ?_
  refine (fun hg : ∀ fa_12 : Nat → Int32, Wk p l e _ s m args below meth c _ A g _ _ _ [(h0, .inr (9, [.int 17, v1h0, v2h0, v3h0, .ref ta, v5h0, v6h0, v7h0, v8h0, v9h0, v10h0, v11h0, v12h0, v13h0, v14h0])), (ta, .inl (g.2.1, 900, .inl fa_12))] _ _ _ => hg _) (fun fa_12 => ?_)
  refine k_aload_n X dX9_write_39 1 rfl ?_
  refine k_dup X dX9_write_40 rfl ?_
  refine k_get (ci := 9) X inlX9 rfl 0 (by decide) dX9_write_41 mw95 0 rfl rfl ?_
  refine k_iconst (v := 1) X dX9_write_44 (by decide) ?_
  refine k_iadd X dX9_write_45 ?_
  refine k_to (18) (by decide) ?_
  refine k_put (ci := 9) [(h0, .inr (9, [.int 18, v1h0, v2h0, v3h0, .ref ta, v5h0, v6h0, v7h0, v8h0, v9h0, v10h0, v11h0, v12h0, v13h0, v14h0])), (ta, .inl (g.2.1, 900, .inl fa_12))] X inlX9 rfl tyX9_ok nmX9 0 (by decide) rfl dX9_write_46 mw95 0 rfl rfl rfl (Nat.le_of_ble_eq_true rfl) rfl ?_
  refine k_iinc (8) [(2, .int 8), (0, .ref h0), (1, .int p0)] 0 X dX9_write_49 rfl (by decide) (by decide) rfl ?_
  refine k_goto 3 X dX9_write_52 (by decide) ?_
  refine k_iload_n X dX9_write_3 0 rfl ?_
  refine k_if_lt 55 X dX9_write_4 (by decide) (fun h_13 => absurd h_13 (by decide)) (fun _ => ?_)
  refine k_aload_n X dX9_write_7 1 rfl ?_
  refine k_get (ci := 9) X inlX9 rfl 0 (by decide) dX9_write_8 mw95 0 rfl rfl ?_
  refine k_if_lt 49 X dX9_write_11 (by decide) (fun h_14 => absurd h_14 (by decide)) (fun _ => ?_)
  refine k_aload_n X dX9_write_14 1 rfl ?_
  refine k_get (ci := 9) X inlX9 rfl 0 (by decide) dX9_write_15 mw95 0 rfl rfl ?_
  refine k_aload_n X dX9_write_18 1 rfl ?_
  refine k_get (ci := 9) X inlX9 rfl 4 (by decide) dX9_write_19 mw105 0 rfl rfl ?_
  refine k_alen 900 0 X dX9_write_22 1 rfl rfl (by show Int32.ofNat 900 = 900; decide) ?_
  refine k_ic_ge 49 X dX9_write_23 (by decide) (fun h_15 => absurd h_15 (by decide)) (fun _ => ?_)
  refine k_aload_n X dX9_write_26 1 rfl ?_
  refine k_get (ci := 9) X inlX9 rfl 4 (by decide) dX9_write_27 mw105 0 rfl rfl ?_
  refine k_aload_n X dX9_write_30 1 rfl ?_
  refine k_get (ci := 9) X inlX9 rfl 0 (by decide) dX9_write_31 mw95 0 rfl rfl ?_
  refine k_iload_n X dX9_write_34 2 rfl ?_
  refine k_iload_n X dX9_write_35 0 rfl ?_
  refine k_ishr X dX9_write_36 ?_
  refine k_nm (fun z_16 ez_16 => ?_)
  refine k_i2b X dX9_write_37 ?_
  refine k_nm (fun z_17 ez_17 => ?_)
  refine k_bast [(h0, .inr (9, [.int 18, v1h0, v2h0, v3h0, .ref ta, v5h0, v6h0, v7h0, v8h0, v9h0, v10h0, v11h0, v12h0, v13h0, v14h0])), (ta, .inl (g.2.1, 900, .inl (upd fa_12 (18 : Int32).toNatClampNeg (vp_nar .byte z_17))))] X dX9_write_38 1 rfl (by unfold vp_in; decide) rfl ?_
  refine (fun hg : ∀ fa_18 : Nat → Int32, Wk p l e _ s m args below meth c _ A g _ _ _ [(h0, .inr (9, [.int 18, v1h0, v2h0, v3h0, .ref ta, v5h0, v6h0, v7h0, v8h0, v9h0, v10h0, v11h0, v12h0, v13h0, v14h0])), (ta, .inl (g.2.1, 900, .inl fa_18))] _ _ _ => hg _) (fun fa_18 => ?_)
  refine k_aload_n X dX9_write_39 1 rfl ?_
  refine k_dup X dX9_write_40 rfl ?_
  refine k_get (ci := 9) X inlX9 rfl 0 (by decide) dX9_write_41 mw95 0 rfl rfl ?_
  refine k_iconst (v := 1) X dX9_write_44 (by decide) ?_
  refine k_iadd X dX9_write_45 ?_
  refine k_to (19) (by decide) ?_
  refine k_put (ci := 9) [(h0, .inr (9, [.int 19, v1h0, v2h0, v3h0, .ref ta, v5h0, v6h0, v7h0, v8h0, v9h0, v10h0, v11h0, v12h0, v13h0, v14h0])), (ta, .inl (g.2.1, 900, .inl fa_18))] X inlX9 rfl tyX9_ok nmX9 0 (by decide) rfl dX9_write_46 mw95 0 rfl rfl rfl (Nat.le_of_ble_eq_true rfl) rfl ?_
  refine k_iinc (0) [(2, .int 0), (0, .ref h0), (1, .int p0)] 0 X dX9_write_49 rfl (by decide) (by decide) rfl ?_
  refine k_goto 3 X dX9_write_52 (by decide) ?_
  refine k_iload_n X dX9_write_3 0 rfl ?_
  refine k_if_lt 55 X dX9_write_4 (by decide) (fun h_19 => absurd h_19 (by decide)) (fun _ => ?_)
  refine k_aload_n X dX9_write_7 1 rfl ?_
  refine k_get (ci := 9) X inlX9 rfl 0 (by decide) dX9_write_8 mw95 0 rfl rfl ?_
  refine k_if_lt 49 X dX9_write_11 (by decide) (fun h_20 => absurd h_20 (by decide)) (fun _ => ?_)
  refine k_aload_n X dX9_write_14 1 rfl ?_
  refine k_get (ci := 9) X inlX9 rfl 0 (by decide) dX9_write_15 mw95 0 rfl rfl ?_
  refine k_aload_n X dX9_write_18 1 rfl ?_
  refine k_get (ci := 9) X inlX9 rfl 4 (by decide) dX9_write_19 mw105 0 rfl rfl ?_
  refine k_alen 900 0 X dX9_write_22 1 rfl rfl (by show Int32.ofNat 900 = 900; decide) ?_
  refine k_ic_ge 49 X dX9_write_23 (by decide) (fun h_21 => absurd h_21 (by decide)) (fun _ => ?_)
  refine k_aload_n X dX9_write_26 1 rfl ?_
  refine k_get (ci := 9) X inlX9 rfl 4 (by decide) dX9_write_27 mw105 0 rfl rfl ?_
  refine k_aload_n X dX9_write_30 1 rfl ?_
  refine k_get (ci := 9) X inlX9 rfl 0 (by decide) dX9_write_31 mw95 0 rfl rfl ?_
  refine k_iload_n X dX9_write_34 2 rfl ?_
  refine k_iload_n X dX9_write_35 0 rfl ?_
  refine k_ishr X dX9_write_36 ?_
  refine k_nm (fun z_22 ez_22 => ?_)
  refine k_i2b X dX9_write_37 ?_
  refine k_nm (fun z_23 ez_23 => ?_)
  refine k_bast [(h0, .inr (9, [.int 19, v1h0, v2h0, v3h0, .ref ta, v5h0, v6h0, v7h0, v8h0, v9h0, v10h0, v11h0, v12h0, v13h0, v14h0])), (ta, .inl (g.2.1, 900, .inl (upd fa_18 (19 : Int32).toNatClampNeg (vp_nar .byte z_23))))] X dX9_write_38 1 rfl (by unfold vp_in; decide) rfl ?_
  refine (fun hg : ∀ fa_24 : Nat → Int32, Wk p l e _ s m args below meth c _ A g _ _ _ [(h0, .inr (9, [.int 19, v1h0, v2h0, v3h0, .ref ta, v5h0, v6h0, v7h0, v8h0, v9h0, v10h0, v11h0, v12h0, v13h0, v14h0])), (ta, .inl (g.2.1, 900, .inl fa_24))] _ _ _ => hg _) (fun fa_24 => ?_)
  refine k_aload_n X dX9_write_39 1 rfl ?_
  refine k_dup X dX9_write_40 rfl ?_
  refine k_get (ci := 9) X inlX9 rfl 0 (by decide) dX9_write_41 mw95 0 rfl rfl ?_
  refine k_iconst (v := 1) X dX9_write_44 (by decide) ?_
  refine k_iadd X dX9_write_45 ?_
  refine k_to (20) (by decide) ?_
  refine k_put (ci := 9) [(h0, .inr (9, [.int 20, v1h0, v2h0, v3h0, .ref ta, v5h0, v6h0, v7h0, v8h0, v9h0, v10h0, v11h0, v12h0, v13h0, v14h0])), (ta, .inl (g.2.1, 900, .inl fa_24))] X inlX9 rfl tyX9_ok nmX9 0 (by decide) rfl dX9_write_46 mw95 0 rfl rfl rfl (Nat.le_of_ble_eq_true rfl) rfl ?_
  refine k_iinc (-8) [(2, .int (-8)), (0, .ref h0), (1, .int p0)] 0 X dX9_write_49 rfl (by decide) (by decide) rfl ?_
  refine k_goto 3 X dX9_write_52 (by decide) ?_
  refine k_iload_n X dX9_write_3 0 rfl ?_
  refine k_if_lt 55 X dX9_write_4 (by decide) (fun _ => ?_) (fun h_25 => absurd (by decide) h_25)
  exact k_vret X hr dX9_write_55 (Nat.le_of_ble_eq_true rfl) (Nat.le_of_ble_eq_true rfl) [0, 1] (by decide) rfl rfl ⟨fa_24, rfl⟩

theorem dX10_feed_0 : decode cX10_feed 0 = .ok (.aload_n 0, 1) := by decide +kernel
theorem dX10_feed_1 : decode cX10_feed 1 = .ok (.getfield 10, 3) := by decide +kernel
theorem dX10_feed_4 : decode cX10_feed 4 = .ok (.getfield 76, 3) := by decide +kernel
theorem dX10_feed_7 : decode cX10_feed 7 = .ok (.bipush 20, 2) := by decide +kernel
theorem dX10_feed_9 : decode cX10_feed 9 = .ok (.iadd, 1) := by decide +kernel
theorem dX10_feed_10 : decode cX10_feed 10 = .ok (.sipush 900, 3) := by decide +kernel
theorem dX10_feed_13 : decode cX10_feed 13 = .ok (.if_icmp .le 5, 3) := by decide +kernel
theorem dX10_feed_18 : decode cX10_feed 18 = .ok (.aload_n 0, 1) := by decide +kernel
theorem dX10_feed_19 : decode cX10_feed 19 = .ok (.getfield 10, 3) := by decide +kernel
theorem dX10_feed_22 : decode cX10_feed 22 = .ok (.iload_n 1, 1) := by decide +kernel
theorem dX10_feed_23 : decode cX10_feed 23 = .ok (.invokevirtual 79, 3) := by decide +kernel
theorem dX10_feed_26 : decode cX10_feed 26 = .ok (.aload_n 0, 1) := by decide +kernel
theorem dX10_feed_27 : decode cX10_feed 27 = .ok (.getfield 10, 3) := by decide +kernel
theorem dX10_feed_30 : decode cX10_feed 30 = .ok (.iload_n 2, 1) := by decide +kernel
theorem dX10_feed_31 : decode cX10_feed 31 = .ok (.invokevirtual 79, 3) := by decide +kernel
theorem dX10_feed_34 : decode cX10_feed 34 = .ok (.aload_n 0, 1) := by decide +kernel
theorem dX10_feed_35 : decode cX10_feed 35 = .ok (.getfield 10, 3) := by decide +kernel
theorem dX10_feed_38 : decode cX10_feed 38 = .ok (.iload_n 3, 1) := by decide +kernel
theorem dX10_feed_39 : decode cX10_feed 39 = .ok (.invokevirtual 79, 3) := by decide +kernel
theorem dX10_feed_42 : decode cX10_feed 42 = .ok (.aload_n 0, 1) := by decide +kernel
theorem dX10_feed_43 : decode cX10_feed 43 = .ok (.getfield 10, 3) := by decide +kernel
theorem dX10_feed_46 : decode cX10_feed 46 = .ok (.iload 4, 2) := by decide +kernel
theorem dX10_feed_48 : decode cX10_feed 48 = .ok (.invokevirtual 79, 3) := by decide +kernel
theorem dX10_feed_51 : decode cX10_feed 51 = .ok (.aload_n 0, 1) := by decide +kernel
theorem dX10_feed_52 : decode cX10_feed 52 = .ok (.getfield 10, 3) := by decide +kernel
theorem dX10_feed_55 : decode cX10_feed 55 = .ok (.iload 5, 2) := by decide +kernel
theorem dX10_feed_57 : decode cX10_feed 57 = .ok (.invokevirtual 79, 3) := by decide +kernel
theorem dX10_feed_60 : decode cX10_feed 60 = .ok (.aload_n 0, 1) := by decide +kernel
theorem dX10_feed_61 : decode cX10_feed 61 = .ok (.getfield 10, 3) := by decide +kernel
theorem dX10_feed_64 : decode cX10_feed 64 = .ok (.getfield 76, 3) := by decide +kernel
theorem dX10_feed_67 : decode cX10_feed 67 = .ok (.ireturn, 1) := by decide +kernel
set_option maxHeartbeats 4000000 in
set_option maxRecDepth 100000 in
theorem m_feed (l : Launch) (g : Gx) (h0 : Nat) (p0 : Int32) (p1 : Int32) (p2 : Int32) (p3 : Int32) (p4 : Int32) (tx : Nat) (v1h0 : Value) (v2h0 : Value) (v3h0 : Value) (v4h0 : Value) (v5h0 : Value) (v6h0 : Value) (v7h0 : Value) (v8h0 : Value) (v9h0 : Value) (v1tx : Value) (v2tx : Value) (v3tx : Value) (ta : Nat) (v5tx : Value) (v6tx : Value) (v7tx : Value) (v8tx : Value) (v9tx : Value) (v10tx : Value) (v11tx : Value) (v12tx : Value) (v13tx : Value) (v14tx : Value) (fb : Nat → Int32) : cI l g yX10_feed cX10_feed 6 (some .int) 1 22 0 0 [.ref h0, .int p0, .int p1, .int p2, .int p3, .int p4] [(h0, .inr (10, [.ref tx, v1h0, v2h0, v3h0, v4h0, v5h0, v6h0, v7h0, v8h0, v9h0])), (tx, .inr (9, [.int 0, v1tx, v2tx, v3tx, .ref ta, v5tx, v6tx, v7tx, v8tx, v9tx, v10tx, v11tx, v12tx, v13tx, v14tx])), (ta, .inl (g.2.1, 900, .inl fb))] (fun r w => r = 20 ∧ w = []) := by
  refine cI.of (by decide) (Nat.le_of_ble_eq_true rfl) ?_
  intro p e s m args below meth c A X hr hi
  refine k_lveq [(0, .ref h0), (1, .int p0), (2, .int p1), (3, .int p2), (4, .int p3), (5, .int p4)] rfl ?_
  refine k_aload_n X dX10_feed_0 0 rfl ?_
  refine k_get (ci := 10) X inlX10 rfl 0 (by decide) dX10_feed_1 mw124 0 rfl rfl ?_
  refine k_get (ci := 9) X inlX9 rfl 0 (by decide) dX10_feed_4 mw216 1 rfl rfl ?_
  refine k_bipush (v := 20) X dX10_feed_7 (by decide) ?_
  refine k_iadd X dX10_feed_9 ?_
  refine k_to (20) (by decide) ?_
  refine k_sipush (v := 900) X dX10_feed_10 (by decide) ?_
  refine k_ic_le 18 X dX10_feed_13 (by decide) (fun _ => ?_) (fun h_1 => absurd (by decide) h_1)
  refine k_aload_n X dX10_feed_18 0 rfl ?_
  refine k_get (ci := 10) X inlX10 rfl 0 (by decide) dX10_feed_19 mw124 0 rfl rfl ?_
  refine k_iload_n X dX10_feed_22 1 rfl ?_
  refine k_callVV (n := 1) (As := [.int p0]) (st := []) X [(tx, .inr (9, [.int 0, v1tx, v2tx, v3tx, .ref ta, v5tx, v6tx, v7tx, v8tx, v9tx, v10tx, v11tx, v12tx, v13tx, v14tx])), (ta, .inl (g.2.1, 900, .inl fb))] [(h0, .inr (10, [.ref tx, v1h0, v2h0, v3h0, v4h0, v5h0, v6h0, v7h0, v8h0, v9h0]))] [1, 2] [0] (c_write0 l g tx p0 v1tx v2tx v3tx ta v5tx v6tx v7tx v8tx v9tx v10tx v11tx v12tx v13tx v14tx fb) dX10_feed_23 mw217 mw218 mw219 mw121 mw220 rfl 9 rfl rfl 0 _ rfl (by unfold yOk; decide) rfl (Nat.le_of_ble_eq_true rfl) (Nat.le_of_ble_eq_true rfl) (Nat.le_of_ble_eq_true rfl) (Nat.le_of_ble_eq_true rfl) (Nat.le_of_ble_eq_true rfl) rfl rfl (by decide) rfl (by decide) (by decide) ?_
  rintro w ⟨fc_2, rfl⟩
  refine k_ws [(h0, .inr (10, [.ref tx, v1h0, v2h0, v3h0, v4h0, v5h0, v6h0, v7h0, v8h0, v9h0])), (tx, .inr (9, [.int 4, v1tx, v2tx, v3tx, .ref ta, v5tx, v6tx, v7tx, v8tx, v9tx, v10tx, v11tx, v12tx, v13tx, v14tx])), (ta, .inl (g.2.1, 900, .inl fc_2))] rfl ?_
  refine k_aload_n X dX10_feed_26 0 rfl ?_
  refine k_get (ci := 10) X inlX10 rfl 0 (by decide) dX10_feed_27 mw124 0 rfl rfl ?_
  refine k_iload_n X dX10_feed_30 2 rfl ?_
  refine k_callVV (n := 1) (As := [.int p1]) (st := []) X [(tx, .inr (9, [.int 4, v1tx, v2tx, v3tx, .ref ta, v5tx, v6tx, v7tx, v8tx, v9tx, v10tx, v11tx, v12tx, v13tx, v14tx])), (ta, .inl (g.2.1, 900, .inl fc_2))] [(h0, .inr (10, [.ref tx, v1h0, v2h0, v3h0, v4h0, v5h0, v6h0, v7h0, v8h0, v9h0]))] [1, 2] [0] (c_write4 l g tx p1 v1tx v2tx v3tx ta v5tx v6tx v7tx v8tx v9tx v10tx v11tx v12tx v13tx v14tx fc_2) dX10_feed_31 mw217 mw218 mw219 mw121 mw220 rfl 9 rfl rfl 0 _ rfl (by unfold yOk; decide) rfl (Nat.le_of_ble_eq_true rfl) (Nat.le_of_ble_eq_true rfl) (Nat.le_of_ble_eq_true rfl) (Nat.le_of_ble_eq_true rfl) (Nat.le_of_ble_eq_true rfl) rfl rfl (by decide) rfl (by decide) (by decide) ?_
  rintro w ⟨fc_3, rfl⟩
  refine k_ws [(h0, .inr (10, [.ref tx, v1h0, v2h0, v3h0, v4h0, v5h0, v6h0, v7h0, v8h0, v9h0])), (tx, .inr (9, [.int 8, v1tx, v2tx, v3tx, .ref ta, v5tx, v6tx, v7tx, v8tx, v9tx, v10tx, v11tx, v12tx, v13tx, v14tx])), (ta, .inl (g.2.1, 900, .inl fc_3))] rfl ?_
  refine k_aload_n X dX10_feed_34 0 rfl ?_
  refine k_get (ci := 10) X inlX10 rfl 0 (by decide) dX10_feed_35 mw124 0 rfl rfl ?_
  refine k_iload_n X dX10_feed_38 3 rfl ?_
  refine k_callVV (n := 1) (As := [.int p2]) (st := []) X [(tx, .inr (9, [.int 8, v1tx, v2tx, v3tx, .ref ta, v5tx, v6tx, v7tx, v8tx, v9tx, v10tx, v11tx, v12tx, v13tx, v14tx])), (ta, .inl (g.2.1, 900, .inl fc_3))] [(h0, .inr (10, [.ref tx, v1h0, v2h0, v3h0, v4h0, v5h0, v6h0, v7h0, v8h0, v9h0]))] [1, 2] [0] (c_write8 l g tx p2 v1tx v2tx v3tx ta v5tx v6tx v7tx v8tx v9tx v10tx v11tx v12tx v13tx v14tx fc_3) dX10_feed_39 mw217 mw218 mw219 mw121 mw220 rfl 9 rfl rfl 0 _ rfl (by unfold yOk; decide) rfl (Nat.le_of_ble_eq_true rfl) (Nat.le_of_ble_eq_true rfl) (Nat.le_of_ble_eq_true rfl) (Nat.le_of_ble_eq_true rfl) (Nat.le_of_ble_eq_true rfl) rfl rfl (by decide) rfl (by decide) (by decide) ?_
  rintro w ⟨fc_4, rfl⟩
  refine k_ws [(h0, .inr (10, [.ref tx, v1h0, v2h0, v3h0, v4h0, v5h0, v6h0, v7h0, v8h0, v9h0])), (tx, .inr (9, [.int 12, v1tx, v2tx, v3tx, .ref ta, v5tx, v6tx, v7tx, v8tx, v9tx, v10tx, v11tx, v12tx, v13tx, v14tx])), (ta, .inl (g.2.1, 900, .inl fc_4))] rfl ?_
  refine k_aload_n X dX10_feed_42 0 rfl ?_
  refine k_get (ci := 10) X inlX10 rfl 0 (by decide) dX10_feed_43 mw124 0 rfl rfl ?_
  refine k_iload X dX10_feed_46 4 rfl ?_
  refine k_callVV (n := 1) (As := [.int p3]) (st := []) X [(tx, .inr (9, [.int 12, v1tx, v2tx, v3tx, .ref ta, v5tx, v6tx, v7tx, v8tx, v9tx, v10tx, v11tx, v12tx, v13tx, v14tx])), (ta, .inl (g.2.1, 900, .inl fc_4))] [(h0, .inr (10, [.ref tx, v1h0, v2h0, v3h0, v4h0, v5h0, v6h0, v7h0, v8h0, v9h0]))] [1, 2] [0] (c_write12 l g tx p3 v1tx v2tx v3tx ta v5tx v6tx v7tx v8tx v9tx v10tx v11tx v12tx v13tx v14tx fc_4) dX10_feed_48 mw217 mw218 mw219 mw121 mw220 rfl 9 rfl rfl 0 _ rfl (by unfold yOk; decide) rfl (Nat.le_of_ble_eq_true rfl) (Nat.le_of_ble_eq_true rfl) (Nat.le_of_ble_eq_true rfl) (Nat.le_of_ble_eq_true rfl) (Nat.le_of_ble_eq_true rfl) rfl rfl (by decide) rfl (by decide) (by decide) ?_
  rintro w ⟨fc_5, rfl⟩
  refine k_ws [(h0, .inr (10, [.ref tx, v1h0, v2h0, v3h0, v4h0, v5h0, v6h0, v7h0, v8h0, v9h0])), (tx, .inr (9, [.int 16, v1tx, v2tx, v3tx, .ref ta, v5tx, v6tx, v7tx, v8tx, v9tx, v10tx, v11tx, v12tx, v13tx, v14tx])), (ta, .inl (g.2.1, 900, .inl fc_5))] rfl ?_
  refine k_aload_n X dX10_feed_51 0 rfl ?_
  refine k_get (ci := 10) X inlX10 rfl 0 (by decide) dX10_feed_52 mw124 0 rfl rfl ?_
  refine k_iload X dX10_feed_55 5 rfl ?_
  refine k_callVV (n := 1) (As := [.int p4]) (st := []) X [(tx, .inr (9, [.int 16, v1tx, v2tx, v3tx, .ref ta, v5tx, v6tx, v7tx, v8tx, v9tx, v10tx, v11tx, v12tx, v13tx, v14tx])), (ta, .inl (g.2.1, 900, .inl fc_5))] [(h0, .inr (10, [.ref tx, v1h0, v2h0, v3h0, v4h0, v5h0, v6h0, v7h0, v8h0, v9h0]))] [1, 2] [0] (c_write16 l g tx p4 v1tx v2tx v3tx ta v5tx v6tx v7tx v8tx v9tx v10tx v11tx v12tx v13tx v14tx fc_5) dX10_feed_57 mw217 mw218 mw219 mw121 mw220 rfl 9 rfl rfl 0 _ rfl (by unfold yOk; decide) rfl (Nat.le_of_ble_eq_true rfl) (Nat.le_of_ble_eq_true rfl) (Nat.le_of_ble_eq_true rfl) (Nat.le_of_ble_eq_true rfl) (Nat.le_of_ble_eq_true rfl) rfl rfl (by decide) rfl (by decide) (by decide) ?_
  rintro w ⟨fc_6, rfl⟩
  refine k_ws [(h0, .inr (10, [.ref tx, v1h0, v2h0, v3h0, v4h0, v5h0, v6h0, v7h0, v8h0, v9h0])), (tx, .inr (9, [.int 20, v1tx, v2tx, v3tx, .ref ta, v5tx, v6tx, v7tx, v8tx, v9tx, v10tx, v11tx, v12tx, v13tx, v14tx])), (ta, .inl (g.2.1, 900, .inl fc_6))] rfl ?_
  refine k_aload_n X dX10_feed_60 0 rfl ?_
  refine k_get (ci := 10) X inlX10 rfl 0 (by decide) dX10_feed_61 mw124 0 rfl rfl ?_
  refine k_get (ci := 9) X inlX9 rfl 0 (by decide) dX10_feed_64 mw216 1 rfl rfl ?_
  exact k_iret X hr dX10_feed_67 (Nat.le_of_ble_eq_true rfl) (Nat.le_of_ble_eq_true rfl) [] (by decide) rfl rfl ⟨rfl, rfl⟩

theorem dX9_is_0 : decode cX9_is 0 = .ok (.aload_n 0, 1) := by decide +kernel
theorem dX9_is_1 : decode cX9_is 1 = .ok (.getfield 48, 3) := by decide +kernel
theorem dX9_is_4 : decode cX9_is 4 = .ok (.iconst 1, 1) := by decide +kernel
theorem dX9_is_5 : decode cX9_is 5 = .ok (.if_icmp .ne 26, 3) := by decide +kernel
theorem dX9_is_31 : decode cX9_is 31 = .ok (.iconst 0, 1) := by decide +kernel
theorem dX9_is_32 : decode cX9_is 32 = .ok (.ireturn, 1) := by decide +kernel
set_option maxHeartbeats 4000000 in
set_option maxRecDepth 100000 in
theorem c_is (l : Launch) (g : Gx) (h0 : Nat) (p0 : Nat) (v0h0 : Value) (v1h0 : Value) (v2h0 : Value) (v3h0 : Value) (v4h0 : Value) (v5h0 : Value) (v6h0 : Value) (v7h0 : Value) (v9h0 : Value) (v10h0 : Value) (v11h0 : Value) (v12h0 : Value) (v13h0 : Value) (v14h0 : Value) : cI l g yX9_is cX9_is 3 (some .boolean) 0 0 0 0 [.ref h0, .ref p0] [(h0, .inr (9, [v0h0, v1h0, v2h0, v3h0, v4h0, v5h0, v6h0, v7h0, .int 0, v9h0, v10h0, v11h0, v12h0, v13h0, v14h0]))] (fun r w => r = 0 ∧ w = [(h0, .inr (9, [v0h0, v1h0, v2h0, v3h0, v4h0, v5h0, v6h0, v7h0, .int 0, v9h0, v10h0, v11h0, v12h0, v13h0, v14h0]))]) := by
  refine cI.of (by decide) (Nat.le_of_ble_eq_true rfl) ?_
  intro p e s m args below meth c A X hr hi
  refine k_lveq [(0, .ref h0), (1, .ref p0)] rfl ?_
  refine k_aload_n X dX9_is_0 0 rfl ?_
  refine k_get (ci := 9) X inlX9 rfl 8 (by decide) dX9_is_1 mw111 0 rfl rfl ?_
  refine k_iconst (v := 1) X dX9_is_4 (by decide) ?_
  refine k_ic_ne 31 X dX9_is_5 (by decide) (fun _ => ?_) (fun h_1 => absurd h_1 (by decide))
  refine k_iconst (v := 0) X dX9_is_31 (by decide) ?_
  exact k_zret X hr rfl dX9_is_32 (Nat.le_of_ble_eq_true rfl) (Nat.le_of_ble_eq_true rfl) [0] (by decide) rfl rfl ⟨rfl, rfl⟩

theorem dX9_isReserved_0 : decode cX9_isReserved 0 = .ok (.aload_n 0, 1) := by decide +kernel
theorem dX9_isReserved_1 : decode cX9_isReserved 1 = .ok (.ldc 103, 2) := by decide +kernel
theorem dX9_isReserved_3 : decode cX9_isReserved 3 = .ok (.invokevirtual 104, 3) := by decide +kernel
theorem dX9_isReserved_6 : decode cX9_isReserved 6 = .ok (.ifCond .ne 103, 3) := by decide +kernel
theorem dX9_isReserved_9 : decode cX9_isReserved 9 = .ok (.aload_n 0, 1) := by decide +kernel
theorem dX9_isReserved_10 : decode cX9_isReserved 10 = .ok (.ldc 119, 2) := by decide +kernel
theorem dX9_isReserved_12 : decode cX9_isReserved 12 = .ok (.invokevirtual 104, 3) := by decide +kernel
theorem dX9_isReserved_15 : decode cX9_isReserved 15 = .ok (.ifCond .ne 94, 3) := by decide +kernel
theorem dX9_isReserved_18 : decode cX9_isReserved 18 = .ok (.aload_n 0, 1) := by decide +kernel
theorem dX9_isReserved_19 : decode cX9_isReserved 19 = .ok (.ldc 124, 2) := by decide +kernel
theorem dX9_isReserved_21 : decode cX9_isReserved 21 = .ok (.invokevirtual 104, 3) := by decide +kernel
theorem dX9_isReserved_24 : decode cX9_isReserved 24 = .ok (.ifCond .ne 85, 3) := by decide +kernel
theorem dX9_isReserved_27 : decode cX9_isReserved 27 = .ok (.aload_n 0, 1) := by decide +kernel
theorem dX9_isReserved_28 : decode cX9_isReserved 28 = .ok (.ldc 129, 2) := by decide +kernel
theorem dX9_isReserved_30 : decode cX9_isReserved 30 = .ok (.invokevirtual 104, 3) := by decide +kernel
theorem dX9_isReserved_33 : decode cX9_isReserved 33 = .ok (.ifCond .ne 76, 3) := by decide +kernel
theorem dX9_isReserved_36 : decode cX9_isReserved 36 = .ok (.aload_n 0, 1) := by decide +kernel
theorem dX9_isReserved_37 : decode cX9_isReserved 37 = .ok (.ldc 134, 2) := by decide +kernel
theorem dX9_isReserved_39 : decode cX9_isReserved 39 = .ok (.invokevirtual 104, 3) := by decide +kernel
theorem dX9_isReserved_42 : decode cX9_isReserved 42 = .ok (.ifCond .ne 67, 3) := by decide +kernel
theorem dX9_isReserved_45 : decode cX9_isReserved 45 = .ok (.aload_n 0, 1) := by decide +kernel
theorem dX9_isReserved_46 : decode cX9_isReserved 46 = .ok (.ldc 139, 2) := by decide +kernel
theorem dX9_isReserved_48 : decode cX9_isReserved 48 = .ok (.invokevirtual 104, 3) := by decide +kernel
theorem dX9_isReserved_51 : decode cX9_isReserved 51 = .ok (.ifCond .ne 58, 3) := by decide +kernel
theorem dX9_isReserved_54 : decode cX9_isReserved 54 = .ok (.aload_n 0, 1) := by decide +kernel
theorem dX9_isReserved_55 : decode cX9_isReserved 55 = .ok (.ldc 144, 2) := by decide +kernel
theorem dX9_isReserved_57 : decode cX9_isReserved 57 = .ok (.invokevirtual 104, 3) := by decide +kernel
theorem dX9_isReserved_60 : decode cX9_isReserved 60 = .ok (.ifCond .ne 49, 3) := by decide +kernel
theorem dX9_isReserved_63 : decode cX9_isReserved 63 = .ok (.aload_n 0, 1) := by decide +kernel
theorem dX9_isReserved_64 : decode cX9_isReserved 64 = .ok (.ldc 149, 2) := by decide +kernel
theorem dX9_isReserved_66 : decode cX9_isReserved 66 = .ok (.invokevirtual 104, 3) := by decide +kernel
theorem dX9_isReserved_69 : decode cX9_isReserved 69 = .ok (.ifCond .ne 40, 3) := by decide +kernel
theorem dX9_isReserved_72 : decode cX9_isReserved 72 = .ok (.aload_n 0, 1) := by decide +kernel
theorem dX9_isReserved_73 : decode cX9_isReserved 73 = .ok (.ldc 154, 2) := by decide +kernel
theorem dX9_isReserved_75 : decode cX9_isReserved 75 = .ok (.invokevirtual 104, 3) := by decide +kernel
theorem dX9_isReserved_78 : decode cX9_isReserved 78 = .ok (.ifCond .ne 31, 3) := by decide +kernel
theorem dX9_isReserved_81 : decode cX9_isReserved 81 = .ok (.aload_n 0, 1) := by decide +kernel
theorem dX9_isReserved_82 : decode cX9_isReserved 82 = .ok (.ldc 111, 2) := by decide +kernel
theorem dX9_isReserved_84 : decode cX9_isReserved 84 = .ok (.invokevirtual 104, 3) := by decide +kernel
theorem dX9_isReserved_87 : decode cX9_isReserved 87 = .ok (.ifCond .ne 22, 3) := by decide +kernel
theorem dX9_isReserved_90 : decode cX9_isReserved 90 = .ok (.aload_n 0, 1) := by decide +kernel
theorem dX9_isReserved_91 : decode cX9_isReserved 91 = .ok (.ldc 159, 2) := by decide +kernel
theorem dX9_isReserved_93 : decode cX9_isReserved 93 = .ok (.invokevirtual 104, 3) := by decide +kernel
theorem dX9_isReserved_96 : decode cX9_isReserved 96 = .ok (.ifCond .ne 13, 3) := by decide +kernel
theorem dX9_isReserved_99 : decode cX9_isReserved 99 = .ok (.aload_n 0, 1) := by decide +kernel
theorem dX9_isReserved_100 : decode cX9_isReserved 100 = .ok (.ldc_w 287, 3) := by decide +kernel
theorem dX9_isReserved_103 : decode cX9_isReserved 103 = .ok (.invokevirtual 104, 3) := by decide +kernel
theorem dX9_isReserved_106 : decode cX9_isReserved 106 = .ok (.ifCond .eq 7, 3) := by decide +kernel
theorem dX9_isReserved_113 : decode cX9_isReserved 113 = .ok (.iconst 0, 1) := by decide +kernel
theorem dX9_isReserved_114 : decode cX9_isReserved 114 = .ok (.ireturn, 1) := by decide +kernel
set_option maxHeartbeats 4000000 in
set_option maxRecDepth 100000 in
theorem c_isReserved (l : Launch) (g : Gx) (h0 : Nat) (v0h0 : Value) (v1h0 : Value) (v2h0 : Value) (v3h0 : Value) (v4h0 : Value) (v5h0 : Value) (v6h0 : Value) (v7h0 : Value) (v9h0 : Value) (v10h0 : Value) (v11h0 : Value) (v12h0 : Value) (v13h0 : Value) (v14h0 : Value) : cI l g yX9_isReserved cX9_isReserved 1 (some .boolean) 1 22 0 0 [.ref h0] [(h0, .inr (9, [v0h0, v1h0, v2h0, v3h0, v4h0, v5h0, v6h0, v7h0, .int 0, v9h0, v10h0, v11h0, v12h0, v13h0, v14h0]))] (fun r w => r = 0 ∧ w = [(h0, .inr (9, [v0h0, v1h0, v2h0, v3h0, v4h0, v5h0, v6h0, v7h0, .int 0, v9h0, v10h0, v11h0, v12h0, v13h0, v14h0]))]) := by
  refine cI.of (by decide) (Nat.le_of_ble_eq_true rfl) ?_
  intro p e s m args below meth c A X hr hi
  refine k_lveq [(0, .ref h0)] rfl ?_
  refine k_aload_n X dX9_isReserved_0 0 rfl ?_
  refine k_ldcS (tx := "house") X dX9_isReserved_1 (by decide +kernel) (fun sr_1 => ?_)
  refine k_callVI (n := 1) (As := [.ref sr_1]) (st := []) X [(h0, .inr (9, [v0h0, v1h0, v2h0, v3h0, v4h0, v5h0, v6h0, v7h0, .int 0, v9h0, v10h0, v11h0, v12h0, v13h0, v14h0]))] [] [0] [] (c_is l g h0 sr_1 v0h0 v1h0 v2h0 v3h0 v4h0 v5h0 v6h0 v7h0 v9h0 v10h0 v11h0 v12h0 v13h0 v14h0) dX9_isReserved_3 mw221 mw222 mw223 mw121 mw224 rfl 9 rfl rfl 0 _ rfl (by unfold yOk; decide) rfl (Nat.le_of_ble_eq_true rfl) (Nat.le_of_ble_eq_true rfl) (Nat.le_of_ble_eq_true rfl) (Nat.le_of_ble_eq_true rfl) (Nat.le_of_ble_eq_true rfl) rfl rfl (by decide) rfl (by decide) (by decide) ?_
  rintro r w ⟨rfl, rfl⟩
  refine k_ws [(h0, .inr (9, [v0h0, v1h0, v2h0, v3h0, v4h0, v5h0, v6h0, v7h0, .int 0, v9h0, v10h0, v11h0, v12h0, v13h0, v14h0]))] rfl ?_
  refine k_if_ne 109 X dX9_isReserved_6 (by decide) (fun h_2 => absurd h_2 (by decide)) (fun _ => ?_)
  refine k_aload_n X dX9_isReserved_9 0 rfl ?_
  refine k_ldcS (tx := "reel") X dX9_isReserved_10 (by decide +kernel) (fun sr_3 => ?_)
  refine k_callVI (n := 1) (As := [.ref sr_3]) (st := []) X [(h0, .inr (9, [v0h0, v1h0, v2h0, v3h0, v4h0, v5h0, v6h0, v7h0, .int 0, v9h0, v10h0, v11h0, v12h0, v13h0, v14h0]))] [] [0] [] (c_is l g h0 sr_3 v0h0 v1h0 v2h0 v3h0 v4h0 v5h0 v6h0 v7h0 v9h0 v10h0 v11h0 v12h0 v13h0 v14h0) dX9_isReserved_12 mw221 mw222 mw223 mw121 mw224 rfl 9 rfl rfl 0 _ rfl (by unfold yOk; decide) rfl (Nat.le_of_ble_eq_true rfl) (Nat.le_of_ble_eq_true rfl) (Nat.le_of_ble_eq_true rfl) (Nat.le_of_ble_eq_true rfl) (Nat.le_of_ble_eq_true rfl) rfl rfl (by decide) rfl (by decide) (by decide) ?_
  rintro r w ⟨rfl, rfl⟩
  refine k_ws [(h0, .inr (9, [v0h0, v1h0, v2h0, v3h0, v4h0, v5h0, v6h0, v7h0, .int 0, v9h0, v10h0, v11h0, v12h0, v13h0, v14h0]))] rfl ?_
  refine k_if_ne 109 X dX9_isReserved_15 (by decide) (fun h_4 => absurd h_4 (by decide)) (fun _ => ?_)
  refine k_aload_n X dX9_isReserved_18 0 rfl ?_
  refine k_ldcS (tx := "town") X dX9_isReserved_19 (by decide +kernel) (fun sr_5 => ?_)
  refine k_callVI (n := 1) (As := [.ref sr_5]) (st := []) X [(h0, .inr (9, [v0h0, v1h0, v2h0, v3h0, v4h0, v5h0, v6h0, v7h0, .int 0, v9h0, v10h0, v11h0, v12h0, v13h0, v14h0]))] [] [0] [] (c_is l g h0 sr_5 v0h0 v1h0 v2h0 v3h0 v4h0 v5h0 v6h0 v7h0 v9h0 v10h0 v11h0 v12h0 v13h0 v14h0) dX9_isReserved_21 mw221 mw222 mw223 mw121 mw224 rfl 9 rfl rfl 0 _ rfl (by unfold yOk; decide) rfl (Nat.le_of_ble_eq_true rfl) (Nat.le_of_ble_eq_true rfl) (Nat.le_of_ble_eq_true rfl) (Nat.le_of_ble_eq_true rfl) (Nat.le_of_ble_eq_true rfl) rfl rfl (by decide) rfl (by decide) (by decide) ?_
  rintro r w ⟨rfl, rfl⟩
  refine k_ws [(h0, .inr (9, [v0h0, v1h0, v2h0, v3h0, v4h0, v5h0, v6h0, v7h0, .int 0, v9h0, v10h0, v11h0, v12h0, v13h0, v14h0]))] rfl ?_
  refine k_if_ne 109 X dX9_isReserved_24 (by decide) (fun h_6 => absurd h_6 (by decide)) (fun _ => ?_)
  refine k_aload_n X dX9_isReserved_27 0 rfl ?_
  refine k_ldcS (tx := "mark") X dX9_isReserved_28 (by decide +kernel) (fun sr_7 => ?_)
  refine k_callVI (n := 1) (As := [.ref sr_7]) (st := []) X [(h0, .inr (9, [v0h0, v1h0, v2h0, v3h0, v4h0, v5h0, v6h0, v7h0, .int 0, v9h0, v10h0, v11h0, v12h0, v13h0, v14h0]))] [] [0] [] (c_is l g h0 sr_7 v0h0 v1h0 v2h0 v3h0 v4h0 v5h0 v6h0 v7h0 v9h0 v10h0 v11h0 v12h0 v13h0 v14h0) dX9_isReserved_30 mw221 mw222 mw223 mw121 mw224 rfl 9 rfl rfl 0 _ rfl (by unfold yOk; decide) rfl (Nat.le_of_ble_eq_true rfl) (Nat.le_of_ble_eq_true rfl) (Nat.le_of_ble_eq_true rfl) (Nat.le_of_ble_eq_true rfl) (Nat.le_of_ble_eq_true rfl) rfl rfl (by decide) rfl (by decide) (by decide) ?_
  rintro r w ⟨rfl, rfl⟩
  refine k_ws [(h0, .inr (9, [v0h0, v1h0, v2h0, v3h0, v4h0, v5h0, v6h0, v7h0, .int 0, v9h0, v10h0, v11h0, v12h0, v13h0, v14h0]))] rfl ?_
  refine k_if_ne 109 X dX9_isReserved_33 (by decide) (fun h_8 => absurd h_8 (by decide)) (fun _ => ?_)
  refine k_aload_n X dX9_isReserved_36 0 rfl ?_
  refine k_ldcS (tx := "join") X dX9_isReserved_37 (by decide +kernel) (fun sr_9 => ?_)
  refine k_callVI (n := 1) (As := [.ref sr_9]) (st := []) X [(h0, .inr (9, [v0h0, v1h0, v2h0, v3h0, v4h0, v5h0, v6h0, v7h0, .int 0, v9h0, v10h0, v11h0, v12h0, v13h0, v14h0]))] [] [0] [] (c_is l g h0 sr_9 v0h0 v1h0 v2h0 v3h0 v4h0 v5h0 v6h0 v7h0 v9h0 v10h0 v11h0 v12h0 v13h0 v14h0) dX9_isReserved_39 mw221 mw222 mw223 mw121 mw224 rfl 9 rfl rfl 0 _ rfl (by unfold yOk; decide) rfl (Nat.le_of_ble_eq_true rfl) (Nat.le_of_ble_eq_true rfl) (Nat.le_of_ble_eq_true rfl) (Nat.le_of_ble_eq_true rfl) (Nat.le_of_ble_eq_true rfl) rfl rfl (by decide) rfl (by decide) (by decide) ?_
  rintro r w ⟨rfl, rfl⟩
  refine k_ws [(h0, .inr (9, [v0h0, v1h0, v2h0, v3h0, v4h0, v5h0, v6h0, v7h0, .int 0, v9h0, v10h0, v11h0, v12h0, v13h0, v14h0]))] rfl ?_
  refine k_if_ne 109 X dX9_isReserved_42 (by decide) (fun h_10 => absurd h_10 (by decide)) (fun _ => ?_)
  refine k_aload_n X dX9_isReserved_45 0 rfl ?_
  refine k_ldcS (tx := "weak") X dX9_isReserved_46 (by decide +kernel) (fun sr_11 => ?_)
  refine k_callVI (n := 1) (As := [.ref sr_11]) (st := []) X [(h0, .inr (9, [v0h0, v1h0, v2h0, v3h0, v4h0, v5h0, v6h0, v7h0, .int 0, v9h0, v10h0, v11h0, v12h0, v13h0, v14h0]))] [] [0] [] (c_is l g h0 sr_11 v0h0 v1h0 v2h0 v3h0 v4h0 v5h0 v6h0 v7h0 v9h0 v10h0 v11h0 v12h0 v13h0 v14h0) dX9_isReserved_48 mw221 mw222 mw223 mw121 mw224 rfl 9 rfl rfl 0 _ rfl (by unfold yOk; decide) rfl (Nat.le_of_ble_eq_true rfl) (Nat.le_of_ble_eq_true rfl) (Nat.le_of_ble_eq_true rfl) (Nat.le_of_ble_eq_true rfl) (Nat.le_of_ble_eq_true rfl) rfl rfl (by decide) rfl (by decide) (by decide) ?_
  rintro r w ⟨rfl, rfl⟩
  refine k_ws [(h0, .inr (9, [v0h0, v1h0, v2h0, v3h0, v4h0, v5h0, v6h0, v7h0, .int 0, v9h0, v10h0, v11h0, v12h0, v13h0, v14h0]))] rfl ?_
  refine k_if_ne 109 X dX9_isReserved_51 (by decide) (fun h_12 => absurd h_12 (by decide)) (fun _ => ?_)
  refine k_aload_n X dX9_isReserved_54 0 rfl ?_
  refine k_ldcS (tx := "man") X dX9_isReserved_55 (by decide +kernel) (fun sr_13 => ?_)
  refine k_callVI (n := 1) (As := [.ref sr_13]) (st := []) X [(h0, .inr (9, [v0h0, v1h0, v2h0, v3h0, v4h0, v5h0, v6h0, v7h0, .int 0, v9h0, v10h0, v11h0, v12h0, v13h0, v14h0]))] [] [0] [] (c_is l g h0 sr_13 v0h0 v1h0 v2h0 v3h0 v4h0 v5h0 v6h0 v7h0 v9h0 v10h0 v11h0 v12h0 v13h0 v14h0) dX9_isReserved_57 mw221 mw222 mw223 mw121 mw224 rfl 9 rfl rfl 0 _ rfl (by unfold yOk; decide) rfl (Nat.le_of_ble_eq_true rfl) (Nat.le_of_ble_eq_true rfl) (Nat.le_of_ble_eq_true rfl) (Nat.le_of_ble_eq_true rfl) (Nat.le_of_ble_eq_true rfl) rfl rfl (by decide) rfl (by decide) (by decide) ?_
  rintro r w ⟨rfl, rfl⟩
  refine k_ws [(h0, .inr (9, [v0h0, v1h0, v2h0, v3h0, v4h0, v5h0, v6h0, v7h0, .int 0, v9h0, v10h0, v11h0, v12h0, v13h0, v14h0]))] rfl ?_
  refine k_if_ne 109 X dX9_isReserved_60 (by decide) (fun h_14 => absurd h_14 (by decide)) (fun _ => ?_)
  refine k_aload_n X dX9_isReserved_63 0 rfl ?_
  refine k_ldcS (tx := "shows") X dX9_isReserved_64 (by decide +kernel) (fun sr_15 => ?_)
  refine k_callVI (n := 1) (As := [.ref sr_15]) (st := []) X [(h0, .inr (9, [v0h0, v1h0, v2h0, v3h0, v4h0, v5h0, v6h0, v7h0, .int 0, v9h0, v10h0, v11h0, v12h0, v13h0, v14h0]))] [] [0] [] (c_is l g h0 sr_15 v0h0 v1h0 v2h0 v3h0 v4h0 v5h0 v6h0 v7h0 v9h0 v10h0 v11h0 v12h0 v13h0 v14h0) dX9_isReserved_66 mw221 mw222 mw223 mw121 mw224 rfl 9 rfl rfl 0 _ rfl (by unfold yOk; decide) rfl (Nat.le_of_ble_eq_true rfl) (Nat.le_of_ble_eq_true rfl) (Nat.le_of_ble_eq_true rfl) (Nat.le_of_ble_eq_true rfl) (Nat.le_of_ble_eq_true rfl) rfl rfl (by decide) rfl (by decide) (by decide) ?_
  rintro r w ⟨rfl, rfl⟩
  refine k_ws [(h0, .inr (9, [v0h0, v1h0, v2h0, v3h0, v4h0, v5h0, v6h0, v7h0, .int 0, v9h0, v10h0, v11h0, v12h0, v13h0, v14h0]))] rfl ?_
  refine k_if_ne 109 X dX9_isReserved_69 (by decide) (fun h_16 => absurd h_16 (by decide)) (fun _ => ?_)
  refine k_aload_n X dX9_isReserved_72 0 rfl ?_
  refine k_ldcS (tx := "boys") X dX9_isReserved_73 (by decide +kernel) (fun sr_17 => ?_)
  refine k_callVI (n := 1) (As := [.ref sr_17]) (st := []) X [(h0, .inr (9, [v0h0, v1h0, v2h0, v3h0, v4h0, v5h0, v6h0, v7h0, .int 0, v9h0, v10h0, v11h0, v12h0, v13h0, v14h0]))] [] [0] [] (c_is l g h0 sr_17 v0h0 v1h0 v2h0 v3h0 v4h0 v5h0 v6h0 v7h0 v9h0 v10h0 v11h0 v12h0 v13h0 v14h0) dX9_isReserved_75 mw221 mw222 mw223 mw121 mw224 rfl 9 rfl rfl 0 _ rfl (by unfold yOk; decide) rfl (Nat.le_of_ble_eq_true rfl) (Nat.le_of_ble_eq_true rfl) (Nat.le_of_ble_eq_true rfl) (Nat.le_of_ble_eq_true rfl) (Nat.le_of_ble_eq_true rfl) rfl rfl (by decide) rfl (by decide) (by decide) ?_
  rintro r w ⟨rfl, rfl⟩
  refine k_ws [(h0, .inr (9, [v0h0, v1h0, v2h0, v3h0, v4h0, v5h0, v6h0, v7h0, .int 0, v9h0, v10h0, v11h0, v12h0, v13h0, v14h0]))] rfl ?_
  refine k_if_ne 109 X dX9_isReserved_78 (by decide) (fun h_18 => absurd h_18 (by decide)) (fun _ => ?_)
  refine k_aload_n X dX9_isReserved_81 0 rfl ?_
  refine k_ldcS (tx := "by") X dX9_isReserved_82 (by decide +kernel) (fun sr_19 => ?_)
  refine k_callVI (n := 1) (As := [.ref sr_19]) (st := []) X [(h0, .inr (9, [v0h0, v1h0, v2h0, v3h0, v4h0, v5h0, v6h0, v7h0, .int 0, v9h0, v10h0, v11h0, v12h0, v13h0, v14h0]))] [] [0] [] (c_is l g h0 sr_19 v0h0 v1h0 v2h0 v3h0 v4h0 v5h0 v6h0 v7h0 v9h0 v10h0 v11h0 v12h0 v13h0 v14h0) dX9_isReserved_84 mw221 mw222 mw223 mw121 mw224 rfl 9 rfl rfl 0 _ rfl (by unfold yOk; decide) rfl (Nat.le_of_ble_eq_true rfl) (Nat.le_of_ble_eq_true rfl) (Nat.le_of_ble_eq_true rfl) (Nat.le_of_ble_eq_true rfl) (Nat.le_of_ble_eq_true rfl) rfl rfl (by decide) rfl (by decide) (by decide) ?_
  rintro r w ⟨rfl, rfl⟩
  refine k_ws [(h0, .inr (9, [v0h0, v1h0, v2h0, v3h0, v4h0, v5h0, v6h0, v7h0, .int 0, v9h0, v10h0, v11h0, v12h0, v13h0, v14h0]))] rfl ?_
  refine k_if_ne 109 X dX9_isReserved_87 (by decide) (fun h_20 => absurd h_20 (by decide)) (fun _ => ?_)
  refine k_aload_n X dX9_isReserved_90 0 rfl ?_
  refine k_ldcS (tx := "seen") X dX9_isReserved_91 (by decide +kernel) (fun sr_21 => ?_)
  refine k_callVI (n := 1) (As := [.ref sr_21]) (st := []) X [(h0, .inr (9, [v0h0, v1h0, v2h0, v3h0, v4h0, v5h0, v6h0, v7h0, .int 0, v9h0, v10h0, v11h0, v12h0, v13h0, v14h0]))] [] [0] [] (c_is l g h0 sr_21 v0h0 v1h0 v2h0 v3h0 v4h0 v5h0 v6h0 v7h0 v9h0 v10h0 v11h0 v12h0 v13h0 v14h0) dX9_isReserved_93 mw221 mw222 mw223 mw121 mw224 rfl 9 rfl rfl 0 _ rfl (by unfold yOk; decide) rfl (Nat.le_of_ble_eq_true rfl) (Nat.le_of_ble_eq_true rfl) (Nat.le_of_ble_eq_true rfl) (Nat.le_of_ble_eq_true rfl) (Nat.le_of_ble_eq_true rfl) rfl rfl (by decide) rfl (by decide) (by decide) ?_
  rintro r w ⟨rfl, rfl⟩
  refine k_ws [(h0, .inr (9, [v0h0, v1h0, v2h0, v3h0, v4h0, v5h0, v6h0, v7h0, .int 0, v9h0, v10h0, v11h0, v12h0, v13h0, v14h0]))] rfl ?_
  refine k_if_ne 109 X dX9_isReserved_96 (by decide) (fun h_22 => absurd h_22 (by decide)) (fun _ => ?_)
  refine k_aload_n X dX9_isReserved_99 0 rfl ?_
  refine k_ldcwS (tx := "scratch") X dX9_isReserved_100 (by decide +kernel) (fun sr_23 => ?_)
  refine k_callVI (n := 1) (As := [.ref sr_23]) (st := []) X [(h0, .inr (9, [v0h0, v1h0, v2h0, v3h0, v4h0, v5h0, v6h0, v7h0, .int 0, v9h0, v10h0, v11h0, v12h0, v13h0, v14h0]))] [] [0] [] (c_is l g h0 sr_23 v0h0 v1h0 v2h0 v3h0 v4h0 v5h0 v6h0 v7h0 v9h0 v10h0 v11h0 v12h0 v13h0 v14h0) dX9_isReserved_103 mw221 mw222 mw223 mw121 mw224 rfl 9 rfl rfl 0 _ rfl (by unfold yOk; decide) rfl (Nat.le_of_ble_eq_true rfl) (Nat.le_of_ble_eq_true rfl) (Nat.le_of_ble_eq_true rfl) (Nat.le_of_ble_eq_true rfl) (Nat.le_of_ble_eq_true rfl) rfl rfl (by decide) rfl (by decide) (by decide) ?_
  rintro r w ⟨rfl, rfl⟩
  refine k_ws [(h0, .inr (9, [v0h0, v1h0, v2h0, v3h0, v4h0, v5h0, v6h0, v7h0, .int 0, v9h0, v10h0, v11h0, v12h0, v13h0, v14h0]))] rfl ?_
  refine k_if_eq 113 X dX9_isReserved_106 (by decide) (fun _ => ?_) (fun h_24 => absurd (by decide) h_24)
  refine k_iconst (v := 0) X dX9_isReserved_113 (by decide) ?_
  exact k_zret X hr rfl dX9_isReserved_114 (Nat.le_of_ble_eq_true rfl) (Nat.le_of_ble_eq_true rfl) [0] (by decide) rfl rfl ⟨rfl, rfl⟩

theorem dX9_refuseAt_0 : decode cX9_refuseAt 0 = .ok (.aload_n 0, 1) := by decide +kernel
theorem dX9_refuseAt_1 : decode cX9_refuseAt 1 = .ok (.iload_n 1, 1) := by decide +kernel
theorem dX9_refuseAt_2 : decode cX9_refuseAt 2 = .ok (.putfield 22, 3) := by decide +kernel
theorem dX9_refuseAt_5 : decode cX9_refuseAt 5 = .ok (.aload_n 0, 1) := by decide +kernel
theorem dX9_refuseAt_6 : decode cX9_refuseAt 6 = .ok (.iload_n 2, 1) := by decide +kernel
theorem dX9_refuseAt_7 : decode cX9_refuseAt 7 = .ok (.putfield 25, 3) := by decide +kernel
theorem dX9_refuseAt_10 : decode cX9_refuseAt 10 = .ok (.iconst 0, 1) := by decide +kernel
theorem dX9_refuseAt_11 : decode cX9_refuseAt 11 = .ok (.ireturn, 1) := by decide +kernel
set_option maxHeartbeats 4000000 in
set_option maxRecDepth 100000 in
theorem c_refuseAt (l : Launch) (g : Gx) (h0 : Nat) (p0 : Int32) (p1 : Int32) (v0h0 : Value) (v1h0 : Value) (v2h0 : Value) (v3h0 : Value) (v4h0 : Value) (v5h0 : Value) (v6h0 : Value) (v7h0 : Value) (v8h0 : Value) (v9h0 : Value) (v10h0 : Value) (v11h0 : Value) (v12h0 : Value) (v13h0 : Value) (v14h0 : Value) : cI l g yX9_refuseAt cX9_refuseAt 3 (some .boolean) 0 0 0 0 [.ref h0, .int p0, .int p1] [(h0, .inr (9, [v0h0, v1h0, v2h0, v3h0, v4h0, v5h0, v6h0, v7h0, v8h0, v9h0, v10h0, v11h0, v12h0, v13h0, v14h0]))] (fun r w => r = 0 ∧ w = [(h0, .inr (9, [v0h0, v1h0, .int p0, .int p1, v4h0, v5h0, v6h0, v7h0, v8h0, v9h0, v10h0, v11h0, v12h0, v13h0, v14h0]))]) := by
  refine cI.of (by decide) (Nat.le_of_ble_eq_true rfl) ?_
  intro p e s m args below meth c A X hr hi
  refine k_lveq [(0, .ref h0), (1, .int p0), (2, .int p1)] rfl ?_
  refine k_aload_n X dX9_refuseAt_0 0 rfl ?_
  refine k_iload_n X dX9_refuseAt_1 1 rfl ?_
  refine k_put (ci := 9) [(h0, .inr (9, [v0h0, v1h0, .int p0, v3h0, v4h0, v5h0, v6h0, v7h0, v8h0, v9h0, v10h0, v11h0, v12h0, v13h0, v14h0]))] X inlX9 rfl tyX9_ok nmX9 2 (by decide) rfl dX9_refuseAt_2 mw102 0 rfl rfl rfl (Nat.le_of_ble_eq_true rfl) rfl ?_
  refine k_aload_n X dX9_refuseAt_5 0 rfl ?_
  refine k_iload_n X dX9_refuseAt_6 2 rfl ?_
  refine k_put (ci := 9) [(h0, .inr (9, [v0h0, v1h0, .int p0, .int p1, v4h0, v5h0, v6h0, v7h0, v8h0, v9h0, v10h0, v11h0, v12h0, v13h0, v14h0]))] X inlX9 rfl tyX9_ok nmX9 3 (by decide) rfl dX9_refuseAt_7 mw103 0 rfl rfl rfl (Nat.le_of_ble_eq_true rfl) rfl ?_
  refine k_iconst (v := 0) X dX9_refuseAt_10 (by decide) ?_
  exact k_zret X hr rfl dX9_refuseAt_11 (Nat.le_of_ble_eq_true rfl) (Nat.le_of_ble_eq_true rfl) [0] (by decide) rfl rfl ⟨rfl, rfl⟩

theorem dX9_kindAt_0 : decode cX9_kindAt 0 = .ok (.iload_n 1, 1) := by decide +kernel
theorem dX9_kindAt_1 : decode cX9_kindAt 1 = .ok (.ifCond .lt 20, 3) := by decide +kernel
theorem dX9_kindAt_4 : decode cX9_kindAt 4 = .ok (.iload_n 1, 1) := by decide +kernel
theorem dX9_kindAt_5 : decode cX9_kindAt 5 = .ok (.aload_n 0, 1) := by decide +kernel
theorem dX9_kindAt_6 : decode cX9_kindAt 6 = .ok (.getfield 32, 3) := by decide +kernel
theorem dX9_kindAt_9 : decode cX9_kindAt 9 = .ok (.if_icmp .ge 12, 3) := by decide +kernel
theorem dX9_kindAt_21 : decode cX9_kindAt 21 = .ok (.iconst 0, 1) := by decide +kernel
theorem dX9_kindAt_22 : decode cX9_kindAt 22 = .ok (.ireturn, 1) := by decide +kernel
set_option maxHeartbeats 4000000 in
set_option maxRecDepth 100000 in
theorem c_kindAt (l : Launch) (g : Gx) (h0 : Nat) (v0h0 : Value) (v1h0 : Value) (v2h0 : Value) (v3h0 : Value) (v4h0 : Value) (v6h0 : Value) (v7h0 : Value) (v8h0 : Value) (v9h0 : Value) (v10h0 : Value) (v11h0 : Value) (v12h0 : Value) (v13h0 : Value) (v14h0 : Value) : cI l g yX9_kindAt cX9_kindAt 3 (some .int) 0 0 0 0 [.ref h0, .int 0] [(h0, .inr (9, [v0h0, v1h0, v2h0, v3h0, v4h0, .int 0, v6h0, v7h0, v8h0, v9h0, v10h0, v11h0, v12h0, v13h0, v14h0]))] (fun r w => r = 0 ∧ w = [(h0, .inr (9, [v0h0, v1h0, v2h0, v3h0, v4h0, .int 0, v6h0, v7h0, v8h0, v9h0, v10h0, v11h0, v12h0, v13h0, v14h0]))]) := by
  refine cI.of (by decide) (Nat.le_of_ble_eq_true rfl) ?_
  intro p e s m args below meth c A X hr hi
  refine k_lveq [(0, .ref h0), (1, .int 0)] rfl ?_
  refine k_iload_n X dX9_kindAt_0 1 rfl ?_
  refine k_if_lt 21 X dX9_kindAt_1 (by decide) (fun h_1 => absurd h_1 (by decide)) (fun _ => ?_)
  refine k_iload_n X dX9_kindAt_4 1 rfl ?_
  refine k_aload_n X dX9_kindAt_5 0 rfl ?_
  refine k_get (ci := 9) X inlX9 rfl 5 (by decide) dX9_kindAt_6 mw106 0 rfl rfl ?_
  refine k_ic_ge 21 X dX9_kindAt_9 (by decide) (fun _ => ?_) (fun h_2 => absurd (by decide) h_2)
  refine k_iconst (v := 0) X dX9_kindAt_21 (by decide) ?_
  exact k_iret X hr dX9_kindAt_22 (Nat.le_of_ble_eq_true rfl) (Nat.le_of_ble_eq_true rfl) [0] (by decide) rfl rfl ⟨rfl, rfl⟩

theorem dX9_next_0 : decode cX9_next 0 = .ok (.aload_n 0, 1) := by decide +kernel
theorem dX9_next_1 : decode cX9_next 1 = .ok (.getfield 54, 3) := by decide +kernel
theorem dX9_next_4 : decode cX9_next 4 = .ok (.aload_n 0, 1) := by decide +kernel
theorem dX9_next_5 : decode cX9_next 5 = .ok (.getfield 32, 3) := by decide +kernel
theorem dX9_next_8 : decode cX9_next 8 = .ok (.if_icmp .ge 28, 3) := by decide +kernel
theorem dX9_next_36 : decode cX9_next 36 = .ok (.aload_n 0, 1) := by decide +kernel
theorem dX9_next_37 : decode cX9_next 37 = .ok (.aload_n 0, 1) := by decide +kernel
theorem dX9_next_38 : decode cX9_next 38 = .ok (.getfield 54, 3) := by decide +kernel
theorem dX9_next_41 : decode cX9_next 41 = .ok (.putfield 51, 3) := by decide +kernel
theorem dX9_next_44 : decode cX9_next 44 = .ok (.aload_n 0, 1) := by decide +kernel
theorem dX9_next_45 : decode cX9_next 45 = .ok (.aload_n 0, 1) := by decide +kernel
theorem dX9_next_46 : decode cX9_next 46 = .ok (.aload_n 0, 1) := by decide +kernel
theorem dX9_next_47 : decode cX9_next 47 = .ok (.getfield 51, 3) := by decide +kernel
theorem dX9_next_50 : decode cX9_next 50 = .ok (.invokevirtual 298, 3) := by decide +kernel
theorem dX9_next_53 : decode cX9_next 53 = .ok (.putfield 48, 3) := by decide +kernel
theorem dX9_next_56 : decode cX9_next 56 = .ok (.aload_n 0, 1) := by decide +kernel
theorem dX9_next_57 : decode cX9_next 57 = .ok (.lconst 0, 1) := by decide +kernel
theorem dX9_next_58 : decode cX9_next 58 = .ok (.putfield 60, 3) := by decide +kernel
theorem dX9_next_61 : decode cX9_next 61 = .ok (.aload_n 0, 1) := by decide +kernel
theorem dX9_next_62 : decode cX9_next 62 = .ok (.iconst 0, 1) := by decide +kernel
theorem dX9_next_63 : decode cX9_next 63 = .ok (.putfield 57, 3) := by decide +kernel
theorem dX9_next_66 : decode cX9_next 66 = .ok (.aload_n 0, 1) := by decide +kernel
theorem dX9_next_67 : decode cX9_next 67 = .ok (.getfield 48, 3) := by decide +kernel
theorem dX9_next_70 : decode cX9_next 70 = .ok (.iconst 1, 1) := by decide +kernel
theorem dX9_next_71 : decode cX9_next 71 = .ok (.if_icmp .eq 11, 3) := by decide +kernel
theorem dX9_next_74 : decode cX9_next 74 = .ok (.aload_n 0, 1) := by decide +kernel
theorem dX9_next_75 : decode cX9_next 75 = .ok (.getfield 48, 3) := by decide +kernel
theorem dX9_next_78 : decode cX9_next 78 = .ok (.iconst 2, 1) := by decide +kernel
theorem dX9_next_79 : decode cX9_next 79 = .ok (.if_icmp .ne 113, 3) := by decide +kernel
theorem dX9_next_192 : decode cX9_next 192 = .ok (.aload_n 0, 1) := by decide +kernel
theorem dX9_next_193 : decode cX9_next 193 = .ok (.getfield 48, 3) := by decide +kernel
theorem dX9_next_196 : decode cX9_next 196 = .ok (.ifCond .eq 13, 3) := by decide +kernel
theorem dX9_next_209 : decode cX9_next 209 = .ok (.aload_n 0, 1) := by decide +kernel
theorem dX9_next_210 : decode cX9_next 210 = .ok (.getfield 54, 3) := by decide +kernel
theorem dX9_next_213 : decode cX9_next 213 = .ok (.aload_n 0, 1) := by decide +kernel
theorem dX9_next_214 : decode cX9_next 214 = .ok (.getfield 51, 3) := by decide +kernel
theorem dX9_next_217 : decode cX9_next 217 = .ok (.isub, 1) := by decide +kernel
theorem dX9_next_218 : decode cX9_next 218 = .ok (.aload_n 0, 1) := by decide +kernel
theorem dX9_next_219 : decode cX9_next 219 = .ok (.getfield 48, 3) := by decide +kernel
theorem dX9_next_222 : decode cX9_next 222 = .ok (.iconst 1, 1) := by decide +kernel
theorem dX9_next_223 : decode cX9_next 223 = .ok (.if_icmp .ne 8, 3) := by decide +kernel
theorem dX9_next_231 : decode cX9_next 231 = .ok (.iconst 4, 1) := by decide +kernel
theorem dX9_next_232 : decode cX9_next 232 = .ok (.if_icmp .le 9, 3) := by decide +kernel
theorem dX9_next_241 : decode cX9_next 241 = .ok (.return_, 1) := by decide +kernel
set_option maxHeartbeats 4000000 in
set_option maxRecDepth 100000 in
theorem c_next (l : Launch) (g : Gx) (h0 : Nat) (v0h0 : Value) (v1h0 : Value) (v2h0 : Value) (v3h0 : Value) (v4h0 : Value) (v6h0 : Value) (v7h0 : Value) (v8h0 : Value) (v9h0 : Value) (v11h0 : Value) (v12h0 : Value) (v13h0 : Value) (v14h0 : Value) : cV l g yX9_next cX9_next 1 1 22 0 0 [.ref h0] [(h0, .inr (9, [v0h0, v1h0, v2h0, v3h0, v4h0, .int 0, v6h0, v7h0, v8h0, v9h0, .int 0, v11h0, v12h0, v13h0, v14h0]))] (fun w => w = [(h0, .inr (9, [v0h0, v1h0, v2h0, v3h0, v4h0, .int 0, v6h0, v7h0, .int 0, .int 0, .int 0, .int 0, .long 0, v13h0, v14h0]))]) := by
  refine cV.of (by decide) (Nat.le_of_ble_eq_true rfl) ?_
  intro p e s m args below meth c A X hr hi
  refine k_lveq [(0, .ref h0)] rfl ?_
  refine k_aload_n X dX9_next_0 0 rfl ?_
  refine k_get (ci := 9) X inlX9 rfl 10 (by decide) dX9_next_1 mw113 0 rfl rfl ?_
  refine k_aload_n X dX9_next_4 0 rfl ?_
  refine k_get (ci := 9) X inlX9 rfl 5 (by decide) dX9_next_5 mw106 0 rfl rfl ?_
  refine k_ic_ge 36 X dX9_next_8 (by decide) (fun _ => ?_) (fun h_1 => absurd (by decide) h_1)
  refine k_aload_n X dX9_next_36 0 rfl ?_
  refine k_aload_n X dX9_next_37 0 rfl ?_
  refine k_get (ci := 9) X inlX9 rfl 10 (by decide) dX9_next_38 mw113 0 rfl rfl ?_
  refine k_put (ci := 9) [(h0, .inr (9, [v0h0, v1h0, v2h0, v3h0, v4h0, .int 0, v6h0, v7h0, v8h0, .int 0, .int 0, v11h0, v12h0, v13h0, v14h0]))] X inlX9 rfl tyX9_ok nmX9 9 (by decide) rfl dX9_next_41 mw112 0 rfl rfl rfl (Nat.le_of_ble_eq_true rfl) rfl ?_
  refine k_aload_n X dX9_next_44 0 rfl ?_
  refine k_aload_n X dX9_next_45 0 rfl ?_
  refine k_aload_n X dX9_next_46 0 rfl ?_
  refine k_get (ci := 9) X inlX9 rfl 9 (by decide) dX9_next_47 mw112 0 rfl rfl ?_
  refine k_callVI (n := 1) (As := [.int 0]) (st := [.ref h0]) X [(h0, .inr (9, [v0h0, v1h0, v2h0, v3h0, v4h0, .int 0, v6h0, v7h0, v8h0, .int 0, .int 0, v11h0, v12h0, v13h0, v14h0]))] [] [0] [] (c_kindAt l g h0 v0h0 v1h0 v2h0 v3h0 v4h0 v6h0 v7h0 v8h0 (.int 0) (.int 0) v11h0 v12h0 v13h0 v14h0) dX9_next_50 mw225 mw226 mw227 mw121 mw228 rfl 9 rfl rfl 0 _ rfl (by unfold yOk; decide) rfl (Nat.le_of_ble_eq_true rfl) (Nat.le_of_ble_eq_true rfl) (Nat.le_of_ble_eq_true rfl) (Nat.le_of_ble_eq_true rfl) (Nat.le_of_ble_eq_true rfl) rfl rfl (by decide) rfl (by decide) (by decide) ?_
  rintro r w ⟨rfl, rfl⟩
  refine k_ws [(h0, .inr (9, [v0h0, v1h0, v2h0, v3h0, v4h0, .int 0, v6h0, v7h0, v8h0, .int 0, .int 0, v11h0, v12h0, v13h0, v14h0]))] rfl ?_
  refine k_put (ci := 9) [(h0, .inr (9, [v0h0, v1h0, v2h0, v3h0, v4h0, .int 0, v6h0, v7h0, .int 0, .int 0, .int 0, v11h0, v12h0, v13h0, v14h0]))] X inlX9 rfl tyX9_ok nmX9 8 (by decide) rfl dX9_next_53 mw111 0 rfl rfl rfl (Nat.le_of_ble_eq_true rfl) rfl ?_
  refine k_aload_n X dX9_next_56 0 rfl ?_
  refine k_lconst (v := 0) X dX9_next_57 (by decide) ?_
  refine k_put (ci := 9) [(h0, .inr (9, [v0h0, v1h0, v2h0, v3h0, v4h0, .int 0, v6h0, v7h0, .int 0, .int 0, .int 0, v11h0, .long 0, v13h0, v14h0]))] X inlX9 rfl tyX9_ok nmX9 12 (by decide) rfl dX9_next_58 mw115 0 rfl rfl rfl (Nat.le_of_ble_eq_true rfl) rfl ?_
  refine k_aload_n X dX9_next_61 0 rfl ?_
  refine k_iconst (v := 0) X dX9_next_62 (by decide) ?_
  refine k_put (ci := 9) [(h0, .inr (9, [v0h0, v1h0, v2h0, v3h0, v4h0, .int 0, v6h0, v7h0, .int 0, .int 0, .int 0, .int 0, .long 0, v13h0, v14h0]))] X inlX9 rfl tyX9_ok nmX9 11 (by decide) rfl dX9_next_63 mw114 0 rfl rfl rfl (Nat.le_of_ble_eq_true rfl) rfl ?_
  refine k_aload_n X dX9_next_66 0 rfl ?_
  refine k_get (ci := 9) X inlX9 rfl 8 (by decide) dX9_next_67 mw111 0 rfl rfl ?_
  refine k_iconst (v := 1) X dX9_next_70 (by decide) ?_
  refine k_ic_eq 82 X dX9_next_71 (by decide) (fun h_2 => absurd h_2 (by decide)) (fun _ => ?_)
  refine k_aload_n X dX9_next_74 0 rfl ?_
  refine k_get (ci := 9) X inlX9 rfl 8 (by decide) dX9_next_75 mw111 0 rfl rfl ?_
  refine k_iconst (v := 2) X dX9_next_78 (by decide) ?_
  refine k_ic_ne 192 X dX9_next_79 (by decide) (fun _ => ?_) (fun h_3 => absurd h_3 (by decide))
  refine k_aload_n X dX9_next_192 0 rfl ?_
  refine k_get (ci := 9) X inlX9 rfl 8 (by decide) dX9_next_193 mw111 0 rfl rfl ?_
  refine k_if_eq 209 X dX9_next_196 (by decide) (fun _ => ?_) (fun h_4 => absurd (by decide) h_4)
  refine k_aload_n X dX9_next_209 0 rfl ?_
  refine k_get (ci := 9) X inlX9 rfl 10 (by decide) dX9_next_210 mw113 0 rfl rfl ?_
  refine k_aload_n X dX9_next_213 0 rfl ?_
  refine k_get (ci := 9) X inlX9 rfl 9 (by decide) dX9_next_214 mw112 0 rfl rfl ?_
  refine k_isub X dX9_next_217 ?_
  refine k_to (0) (by decide) ?_
  refine k_aload_n X dX9_next_218 0 rfl ?_
  refine k_get (ci := 9) X inlX9 rfl 8 (by decide) dX9_next_219 mw111 0 rfl rfl ?_
  refine k_iconst (v := 1) X dX9_next_222 (by decide) ?_
  refine k_ic_ne 231 X dX9_next_223 (by decide) (fun _ => ?_) (fun h_5 => absurd h_5 (by decide))
  refine k_iconst (v := 4) X dX9_next_231 (by decide) ?_
  refine k_ic_le 241 X dX9_next_232 (by decide) (fun _ => ?_) (fun h_6 => absurd (by decide) h_6)
  exact k_vret X hr dX9_next_241 (Nat.le_of_ble_eq_true rfl) (Nat.le_of_ble_eq_true rfl) [0] (by decide) rfl rfl rfl

theorem dX9_isLine_0 : decode cX9_isLine 0 = .ok (.aload_n 0, 1) := by decide +kernel
theorem dX9_isLine_1 : decode cX9_isLine 1 = .ok (.ldc 103, 2) := by decide +kernel
theorem dX9_isLine_3 : decode cX9_isLine 3 = .ok (.invokevirtual 104, 3) := by decide +kernel
theorem dX9_isLine_6 : decode cX9_isLine 6 = .ok (.ifCond .eq 8, 3) := by decide +kernel
theorem dX9_isLine_14 : decode cX9_isLine 14 = .ok (.aload_n 0, 1) := by decide +kernel
theorem dX9_isLine_15 : decode cX9_isLine 15 = .ok (.ldc 111, 2) := by decide +kernel
theorem dX9_isLine_17 : decode cX9_isLine 17 = .ok (.invokevirtual 104, 3) := by decide +kernel
theorem dX9_isLine_20 : decode cX9_isLine 20 = .ok (.ifCond .ne 10, 3) := by decide +kernel
theorem dX9_isLine_23 : decode cX9_isLine 23 = .ok (.aload_n 0, 1) := by decide +kernel
theorem dX9_isLine_24 : decode cX9_isLine 24 = .ok (.invokevirtual 113, 3) := by decide +kernel
theorem dX9_isLine_27 : decode cX9_isLine 27 = .ok (.ifCond .ne 13, 3) := by decide +kernel
theorem dX9_isLine_30 : decode cX9_isLine 30 = .ok (.aload_n 0, 1) := by decide +kernel
theorem dX9_isLine_31 : decode cX9_isLine 31 = .ok (.iconst 1, 1) := by decide +kernel
theorem dX9_isLine_32 : decode cX9_isLine 32 = .ok (.aload_n 0, 1) := by decide +kernel
theorem dX9_isLine_33 : decode cX9_isLine 33 = .ok (.getfield 51, 3) := by decide +kernel
theorem dX9_isLine_36 : decode cX9_isLine 36 = .ok (.invokevirtual 84, 3) := by decide +kernel
theorem dX9_isLine_39 : decode cX9_isLine 39 = .ok (.ireturn, 1) := by decide +kernel
set_option maxHeartbeats 4000000 in
set_option maxRecDepth 100000 in
theorem c_isLine (l : Launch) (g : Gx) (h0 : Nat) (v0h0 : Value) (v1h0 : Value) (v2h0 : Value) (v3h0 : Value) (v4h0 : Value) (v5h0 : Value) (v6h0 : Value) (v7h0 : Value) (v10h0 : Value) (v11h0 : Value) (v12h0 : Value) (v13h0 : Value) (v14h0 : Value) : cI l g yX9_isLine cX9_isLine 1 (some .boolean) 2 42 0 0 [.ref h0] [(h0, .inr (9, [v0h0, v1h0, v2h0, v3h0, v4h0, v5h0, v6h0, v7h0, .int 0, .int 0, v10h0, v11h0, v12h0, v13h0, v14h0]))] (fun r w => r = 0 ∧ w = [(h0, .inr (9, [v0h0, v1h0, .int 1, .int 0, v4h0, v5h0, v6h0, v7h0, .int 0, .int 0, v10h0, v11h0, v12h0, v13h0, v14h0]))]) := by
  refine cI.of (by decide) (Nat.le_of_ble_eq_true rfl) ?_
  intro p e s m args below meth c A X hr hi
  refine k_lveq [(0, .ref h0)] rfl ?_
  refine k_aload_n X dX9_isLine_0 0 rfl ?_
  refine k_ldcS (tx := "house") X dX9_isLine_1 (by decide +kernel) (fun sr_1 => ?_)
  refine k_callVI (n := 1) (As := [.ref sr_1]) (st := []) X [(h0, .inr (9, [v0h0, v1h0, v2h0, v3h0, v4h0, v5h0, v6h0, v7h0, .int 0, .int 0, v10h0, v11h0, v12h0, v13h0, v14h0]))] [] [0] [] (c_is l g h0 sr_1 v0h0 v1h0 v2h0 v3h0 v4h0 v5h0 v6h0 v7h0 (.int 0) v10h0 v11h0 v12h0 v13h0 v14h0) dX9_isLine_3 mw221 mw222 mw223 mw121 mw224 rfl 9 rfl rfl 0 _ rfl (by unfold yOk; decide) rfl (Nat.le_of_ble_eq_true rfl) (Nat.le_of_ble_eq_true rfl) (Nat.le_of_ble_eq_true rfl) (Nat.le_of_ble_eq_true rfl) (Nat.le_of_ble_eq_true rfl) rfl rfl (by decide) rfl (by decide) (by decide) ?_
  rintro r w ⟨rfl, rfl⟩
  refine k_ws [(h0, .inr (9, [v0h0, v1h0, v2h0, v3h0, v4h0, v5h0, v6h0, v7h0, .int 0, .int 0, v10h0, v11h0, v12h0, v13h0, v14h0]))] rfl ?_
  refine k_if_eq 14 X dX9_isLine_6 (by decide) (fun _ => ?_) (fun h_2 => absurd (by decide) h_2)
  refine k_aload_n X dX9_isLine_14 0 rfl ?_
  refine k_ldcS (tx := "by") X dX9_isLine_15 (by decide +kernel) (fun sr_3 => ?_)
  refine k_callVI (n := 1) (As := [.ref sr_3]) (st := []) X [(h0, .inr (9, [v0h0, v1h0, v2h0, v3h0, v4h0, v5h0, v6h0, v7h0, .int 0, .int 0, v10h0, v11h0, v12h0, v13h0, v14h0]))] [] [0] [] (c_is l g h0 sr_3 v0h0 v1h0 v2h0 v3h0 v4h0 v5h0 v6h0 v7h0 (.int 0) v10h0 v11h0 v12h0 v13h0 v14h0) dX9_isLine_17 mw221 mw222 mw223 mw121 mw224 rfl 9 rfl rfl 0 _ rfl (by unfold yOk; decide) rfl (Nat.le_of_ble_eq_true rfl) (Nat.le_of_ble_eq_true rfl) (Nat.le_of_ble_eq_true rfl) (Nat.le_of_ble_eq_true rfl) (Nat.le_of_ble_eq_true rfl) rfl rfl (by decide) rfl (by decide) (by decide) ?_
  rintro r w ⟨rfl, rfl⟩
  refine k_ws [(h0, .inr (9, [v0h0, v1h0, v2h0, v3h0, v4h0, v5h0, v6h0, v7h0, .int 0, .int 0, v10h0, v11h0, v12h0, v13h0, v14h0]))] rfl ?_
  refine k_if_ne 30 X dX9_isLine_20 (by decide) (fun h_4 => absurd h_4 (by decide)) (fun _ => ?_)
  refine k_aload_n X dX9_isLine_23 0 rfl ?_
  refine k_callVI (n := 0) (As := []) (st := []) X [(h0, .inr (9, [v0h0, v1h0, v2h0, v3h0, v4h0, v5h0, v6h0, v7h0, .int 0, .int 0, v10h0, v11h0, v12h0, v13h0, v14h0]))] [] [0] [] (c_isReserved l g h0 v0h0 v1h0 v2h0 v3h0 v4h0 v5h0 v6h0 v7h0 (.int 0) v10h0 v11h0 v12h0 v13h0 v14h0) dX9_isLine_24 mw229 mw230 mw231 mw121 mw232 rfl 9 rfl rfl 0 _ rfl (by unfold yOk; decide) rfl (Nat.le_of_ble_eq_true rfl) (Nat.le_of_ble_eq_true rfl) (Nat.le_of_ble_eq_true rfl) (Nat.le_of_ble_eq_true rfl) (Nat.le_of_ble_eq_true rfl) rfl rfl (by decide) rfl (by decide) (by decide) ?_
  rintro r w ⟨rfl, rfl⟩
  refine k_ws [(h0, .inr (9, [v0h0, v1h0, v2h0, v3h0, v4h0, v5h0, v6h0, v7h0, .int 0, .int 0, v10h0, v11h0, v12h0, v13h0, v14h0]))] rfl ?_
  refine k_if_ne 40 X dX9_isLine_27 (by decide) (fun h_5 => absurd h_5 (by decide)) (fun _ => ?_)
  refine k_aload_n X dX9_isLine_30 0 rfl ?_
  refine k_iconst (v := 1) X dX9_isLine_31 (by decide) ?_
  refine k_aload_n X dX9_isLine_32 0 rfl ?_
  refine k_get (ci := 9) X inlX9 rfl 9 (by decide) dX9_isLine_33 mw112 0 rfl rfl ?_
  refine k_callVI (n := 2) (As := [.int 1, .int 0]) (st := []) X [(h0, .inr (9, [v0h0, v1h0, v2h0, v3h0, v4h0, v5h0, v6h0, v7h0, .int 0, .int 0, v10h0, v11h0, v12h0, v13h0, v14h0]))] [] [0] [] (c_refuseAt l g h0 1 0 v0h0 v1h0 v2h0 v3h0 v4h0 v5h0 v6h0 v7h0 (.int 0) (.int 0) v10h0 v11h0 v12h0 v13h0 v14h0) dX9_isLine_36 mw233 mw234 mw235 mw121 mw236 rfl 9 rfl rfl 0 _ rfl (by unfold yOk; decide) rfl (Nat.le_of_ble_eq_true rfl) (Nat.le_of_ble_eq_true rfl) (Nat.le_of_ble_eq_true rfl) (Nat.le_of_ble_eq_true rfl) (Nat.le_of_ble_eq_true rfl) rfl rfl (by decide) rfl (by decide) (by decide) ?_
  rintro r w ⟨rfl, rfl⟩
  refine k_ws [(h0, .inr (9, [v0h0, v1h0, .int 1, .int 0, v4h0, v5h0, v6h0, v7h0, .int 0, .int 0, v10h0, v11h0, v12h0, v13h0, v14h0]))] rfl ?_
  exact k_zret X hr rfl dX9_isLine_39 (Nat.le_of_ble_eq_true rfl) (Nat.le_of_ble_eq_true rfl) [0] (by decide) rfl rfl ⟨rfl, rfl⟩

theorem dX9_read_0 : decode cX9_read 0 = .ok (.aload_n 0, 1) := by decide +kernel
theorem dX9_read_1 : decode cX9_read 1 = .ok (.iconst 0, 1) := by decide +kernel
theorem dX9_read_2 : decode cX9_read 2 = .ok (.putfield 9, 3) := by decide +kernel
theorem dX9_read_5 : decode cX9_read 5 = .ok (.aload_n 0, 1) := by decide +kernel
theorem dX9_read_6 : decode cX9_read 6 = .ok (.iload_n 1, 1) := by decide +kernel
theorem dX9_read_7 : decode cX9_read 7 = .ok (.putfield 32, 3) := by decide +kernel
theorem dX9_read_10 : decode cX9_read 10 = .ok (.aload_n 0, 1) := by decide +kernel
theorem dX9_read_11 : decode cX9_read 11 = .ok (.iconst 0, 1) := by decide +kernel
theorem dX9_read_12 : decode cX9_read 12 = .ok (.putfield 54, 3) := by decide +kernel
theorem dX9_read_15 : decode cX9_read 15 = .ok (.aload_n 0, 1) := by decide +kernel
theorem dX9_read_16 : decode cX9_read 16 = .ok (.getfield 18, 3) := by decide +kernel
theorem dX9_read_19 : decode cX9_read 19 = .ok (.invokevirtual 70, 3) := by decide +kernel
theorem dX9_read_22 : decode cX9_read 22 = .ok (.aload_n 0, 1) := by decide +kernel
theorem dX9_read_23 : decode cX9_read 23 = .ok (.getfield 44, 3) := by decide +kernel
theorem dX9_read_26 : decode cX9_read 26 = .ok (.invokevirtual 73, 3) := by decide +kernel
theorem dX9_read_29 : decode cX9_read 29 = .ok (.aload_n 0, 1) := by decide +kernel
theorem dX9_read_30 : decode cX9_read 30 = .ok (.iconst 0, 1) := by decide +kernel
theorem dX9_read_31 : decode cX9_read 31 = .ok (.putfield 22, 3) := by decide +kernel
theorem dX9_read_34 : decode cX9_read 34 = .ok (.aload_n 0, 1) := by decide +kernel
theorem dX9_read_35 : decode cX9_read 35 = .ok (.iconst 0, 1) := by decide +kernel
theorem dX9_read_36 : decode cX9_read 36 = .ok (.putfield 25, 3) := by decide +kernel
theorem dX9_read_39 : decode cX9_read 39 = .ok (.aload_n 0, 1) := by decide +kernel
theorem dX9_read_40 : decode cX9_read 40 = .ok (.invokevirtual 74, 3) := by decide +kernel
theorem dX9_read_43 : decode cX9_read 43 = .ok (.iconst 1, 1) := by decide +kernel
theorem dX9_read_44 : decode cX9_read 44 = .ok (.istore_n 2, 1) := by decide +kernel
theorem dX9_read_45 : decode cX9_read 45 = .ok (.iconst 0, 1) := by decide +kernel
theorem dX9_read_46 : decode cX9_read 46 = .ok (.istore_n 3, 1) := by decide +kernel
theorem dX9_read_47 : decode cX9_read 47 = .ok (.iload_n 2, 1) := by decide +kernel
theorem dX9_read_48 : decode cX9_read 48 = .ok (.ifCond .eq 37, 3) := by decide +kernel
theorem dX9_read_51 : decode cX9_read 51 = .ok (.iload_n 3, 1) := by decide +kernel
theorem dX9_read_52 : decode cX9_read 52 = .ok (.aload_n 0, 1) := by decide +kernel
theorem dX9_read_53 : decode cX9_read 53 = .ok (.getfield 32, 3) := by decide +kernel
theorem dX9_read_56 : decode cX9_read 56 = .ok (.if_icmp .gt 29, 3) := by decide +kernel
theorem dX9_read_59 : decode cX9_read 59 = .ok (.aload_n 0, 1) := by decide +kernel
theorem dX9_read_60 : decode cX9_read 60 = .ok (.invokevirtual 77, 3) := by decide +kernel
theorem dX9_read_63 : decode cX9_read 63 = .ok (.ifCond .eq 14, 3) := by decide +kernel
theorem dX9_read_77 : decode cX9_read 77 = .ok (.iconst 0, 1) := by decide +kernel
theorem dX9_read_78 : decode cX9_read 78 = .ok (.istore_n 2, 1) := by decide +kernel
theorem dX9_read_79 : decode cX9_read 79 = .ok (.iinc 3 1, 3) := by decide +kernel
theorem dX9_read_82 : decode cX9_read 82 = .ok (.goto (-35), 3) := by decide +kernel
theorem dX9_read_85 : decode cX9_read 85 = .ok (.return_, 1) := by decide +kernel
set_option maxHeartbeats 4000000 in
set_option maxRecDepth 100000 in
theorem c_read (l : Launch) (g : Gx) (h0 : Nat) (v0h0 : Value) (th : Nat) (v2h0 : Value) (v3h0 : Value) (v4h0 : Value) (v5h0 : Value) (v6h0 : Value) (td : Nat) (v8h0 : Value) (v9h0 : Value) (v10h0 : Value) (v11h0 : Value) (v12h0 : Value) (v13h0 : Value) (v14h0 : Value) (v0td : Value) (v1td : Value) (v2td : Value) (ys : Nat) (yhn : Nat) (yht : Nat) (yhj : Nat) (yhm : Nat) (yhb : Nat) (yhs : Nat) (yhc : Nat) (yr : Nat) (ym : Nat) (yw : Nat) (yp : Nat) (v0yr : Value) (v1yr : Value) (v2yr : Value) (v0ym : Value) (v1ym : Value) (v2ym : Value) (v0yw : Value) (v1yw : Value) (v2yw : Value) (v0yp : Value) (v1yp : Value) (v2yp : Value) (v0yhn : Value) (v1yhn : Value) (v2yhn : Value) (v0yht : Value) (v1yht : Value) (v2yht : Value) (v0yhj : Value) (v1yhj : Value) (v2yhj : Value) (v0yhm : Value) (v1yhm : Value) (v2yhm : Value) (v0yhb : Value) (v1yhb : Value) (v2yhb : Value) (v0yhs : Value) (v1yhs : Value) (v2yhs : Value) (v0yhc : Value) (v1yhc : Value) (v2yhc : Value) : cV l g yX9_read cX9_read 4 3 62 0 0 [.ref h0, .int 0] [(h0, .inr (9, [v0h0, .ref th, v2h0, v3h0, v4h0, v5h0, v6h0, .ref td, v8h0, v9h0, v10h0, v11h0, v12h0, v13h0, v14h0])), (td, .inr (8, [v0td, v1td, v2td, .int 0])), (th, .inr (3, [.ref ys, .ref yhn, .ref yht, .ref yhj, .ref yhm, .ref yhb, .ref yhs, .ref yhc])), (ys, .inr (7, [.ref yr, .ref ym, .ref yw, .ref yp, .int 0, .int 0])), (yr, .inr (8, [v0yr, v1yr, v2yr, .int 0])), (ym, .inr (8, [v0ym, v1ym, v2ym, .int 0])), (yw, .inr (8, [v0yw, v1yw, v2yw, .int 0])), (yp, .inr (8, [v0yp, v1yp, v2yp, .int 0])), (yhn, .inr (8, [v0yhn, v1yhn, v2yhn, .int 0])), (yht, .inr (8, [v0yht, v1yht, v2yht, .int 0])), (yhj, .inr (8, [v0yhj, v1yhj, v2yhj, .int 0])), (yhm, .inr (8, [v0yhm, v1yhm, v2yhm, .int 0])), (yhb, .inr (8, [v0yhb, v1yhb, v2yhb, .int 0])), (yhs, .inr (8, [v0yhs, v1yhs, v2yhs, .int 0])), (yhc, .inr (8, [v0yhc, v1yhc, v2yhc, .int 0]))] (fun w => w = [(h0, .inr (9, [.int 0, .ref th, .int 1, .int 0, v4h0, .int 0, v6h0, .ref td, .int 0, .int 0, .int 0, .int 0, .long 0, v13h0, v14h0]))]) := by
  refine cV.of (by decide) (Nat.le_of_ble_eq_true rfl) ?_
  intro p e s m args below meth c A X hr hi
  refine k_lveq [(0, .ref h0), (1, .int 0)] rfl ?_
  refine k_aload_n X dX9_read_0 0 rfl ?_
  refine k_iconst (v := 0) X dX9_read_1 (by decide) ?_
  refine k_put (ci := 9) [(h0, .inr (9, [.int 0, .ref th, v2h0, v3h0, v4h0, v5h0, v6h0, .ref td, v8h0, v9h0, v10h0, v11h0, v12h0, v13h0, v14h0])), (td, .inr (8, [v0td, v1td, v2td, .int 0])), (th, .inr (3, [.ref ys, .ref yhn, .ref yht, .ref yhj, .ref yhm, .ref yhb, .ref yhs, .ref yhc])), (ys, .inr (7, [.ref yr, .ref ym, .ref yw, .ref yp, .int 0, .int 0])), (yr, .inr (8, [v0yr, v1yr, v2yr, .int 0])), (ym, .inr (8, [v0ym, v1ym, v2ym, .int 0])), (yw, .inr (8, [v0yw, v1yw, v2yw, .int 0])), (yp, .inr (8, [v0yp, v1yp, v2yp, .int 0])), (yhn, .inr (8, [v0yhn, v1yhn, v2yhn, .int 0])), (yht, .inr (8, [v0yht, v1yht, v2yht, .int 0])), (yhj, .inr (8, [v0yhj, v1yhj, v2yhj, .int 0])), (yhm, .inr (8, [v0yhm, v1yhm, v2yhm, .int 0])), (yhb, .inr (8, [v0yhb, v1yhb, v2yhb, .int 0])), (yhs, .inr (8, [v0yhs, v1yhs, v2yhs, .int 0])), (yhc, .inr (8, [v0yhc, v1yhc, v2yhc, .int 0]))] X inlX9 rfl tyX9_ok nmX9 0 (by decide) rfl dX9_read_2 mw95 0 rfl rfl rfl (Nat.le_of_ble_eq_true rfl) rfl ?_
  refine k_aload_n X dX9_read_5 0 rfl ?_
  refine k_iload_n X dX9_read_6 1 rfl ?_
  refine k_put (ci := 9) [(h0, .inr (9, [.int 0, .ref th, v2h0, v3h0, v4h0, .int 0, v6h0, .ref td, v8h0, v9h0, v10h0, v11h0, v12h0, v13h0, v14h0])), (td, .inr (8, [v0td, v1td, v2td, .int 0])), (th, .inr (3, [.ref ys, .ref yhn, .ref yht, .ref yhj, .ref yhm, .ref yhb, .ref yhs, .ref yhc])), (ys, .inr (7, [.ref yr, .ref ym, .ref yw, .ref yp, .int 0, .int 0])), (yr, .inr (8, [v0yr, v1yr, v2yr, .int 0])), (ym, .inr (8, [v0ym, v1ym, v2ym, .int 0])), (yw, .inr (8, [v0yw, v1yw, v2yw, .int 0])), (yp, .inr (8, [v0yp, v1yp, v2yp, .int 0])), (yhn, .inr (8, [v0yhn, v1yhn, v2yhn, .int 0])), (yht, .inr (8, [v0yht, v1yht, v2yht, .int 0])), (yhj, .inr (8, [v0yhj, v1yhj, v2yhj, .int 0])), (yhm, .inr (8, [v0yhm, v1yhm, v2yhm, .int 0])), (yhb, .inr (8, [v0yhb, v1yhb, v2yhb, .int 0])), (yhs, .inr (8, [v0yhs, v1yhs, v2yhs, .int 0])), (yhc, .inr (8, [v0yhc, v1yhc, v2yhc, .int 0]))] X inlX9 rfl tyX9_ok nmX9 5 (by decide) rfl dX9_read_7 mw106 0 rfl rfl rfl (Nat.le_of_ble_eq_true rfl) rfl ?_
  refine k_aload_n X dX9_read_10 0 rfl ?_
  refine k_iconst (v := 0) X dX9_read_11 (by decide) ?_
  refine k_put (ci := 9) [(h0, .inr (9, [.int 0, .ref th, v2h0, v3h0, v4h0, .int 0, v6h0, .ref td, v8h0, v9h0, .int 0, v11h0, v12h0, v13h0, v14h0])), (td, .inr (8, [v0td, v1td, v2td, .int 0])), (th, .inr (3, [.ref ys, .ref yhn, .ref yht, .ref yhj, .ref yhm, .ref yhb, .ref yhs, .ref yhc])), (ys, .inr (7, [.ref yr, .ref ym, .ref yw, .ref yp, .int 0, .int 0])), (yr, .inr (8, [v0yr, v1yr, v2yr, .int 0])), (ym, .inr (8, [v0ym, v1ym, v2ym, .int 0])), (yw, .inr (8, [v0yw, v1yw, v2yw, .int 0])), (yp, .inr (8, [v0yp, v1yp, v2yp, .int 0])), (yhn, .inr (8, [v0yhn, v1yhn, v2yhn, .int 0])), (yht, .inr (8, [v0yht, v1yht, v2yht, .int 0])), (yhj, .inr (8, [v0yhj, v1yhj, v2yhj, .int 0])), (yhm, .inr (8, [v0yhm, v1yhm, v2yhm, .int 0])), (yhb, .inr (8, [v0yhb, v1yhb, v2yhb, .int 0])), (yhs, .inr (8, [v0yhs, v1yhs, v2yhs, .int 0])), (yhc, .inr (8, [v0yhc, v1yhc, v2yhc, .int 0]))] X inlX9 rfl tyX9_ok nmX9 10 (by decide) rfl dX9_read_12 mw113 0 rfl rfl rfl (Nat.le_of_ble_eq_true rfl) rfl ?_
  refine k_aload_n X dX9_read_15 0 rfl ?_
  refine k_get (ci := 9) X inlX9 rfl 1 (by decide) dX9_read_16 mw101 0 rfl rfl ?_
  refine k_callVV (n := 0) (As := []) (st := []) X [(th, .inr (3, [.ref ys, .ref yhn, .ref yht, .ref yhj, .ref yhm, .ref yhb, .ref yhs, .ref yhc])), (ys, .inr (7, [.ref yr, .ref ym, .ref yw, .ref yp, .int 0, .int 0])), (yr, .inr (8, [v0yr, v1yr, v2yr, .int 0])), (ym, .inr (8, [v0ym, v1ym, v2ym, .int 0])), (yw, .inr (8, [v0yw, v1yw, v2yw, .int 0])), (yp, .inr (8, [v0yp, v1yp, v2yp, .int 0])), (yhn, .inr (8, [v0yhn, v1yhn, v2yhn, .int 0])), (yht, .inr (8, [v0yht, v1yht, v2yht, .int 0])), (yhj, .inr (8, [v0yhj, v1yhj, v2yhj, .int 0])), (yhm, .inr (8, [v0yhm, v1yhm, v2yhm, .int 0])), (yhb, .inr (8, [v0yhb, v1yhb, v2yhb, .int 0])), (yhs, .inr (8, [v0yhs, v1yhs, v2yhs, .int 0])), (yhc, .inr (8, [v0yhc, v1yhc, v2yhc, .int 0]))] [(h0, .inr (9, [.int 0, .ref th, v2h0, v3h0, v4h0, .int 0, v6h0, .ref td, v8h0, v9h0, .int 0, v11h0, v12h0, v13h0, v14h0])), (td, .inr (8, [v0td, v1td, v2td, .int 0]))] [2, 3, 4, 5, 6, 7, 8, 9, 10, 11, 12, 13, 14] [0, 1] (c_H_clear l g th ys yhn yht yhj yhm yhb yhs yhc yr ym yw yp v0yr v1yr v2yr v0ym v1ym v2ym v0yw v1yw v2yw v0yp v1yp v2yp v0yhn v1yhn v2yhn v0yht v1yht v2yht v0yhj v1yhj v2yhj v0yhm v1yhm v2yhm v0yhb v1yhb v2yhb v0yhs v1yhs v2yhs v0yhc v1yhc v2yhc) dX9_read_19 mw237 mw238 mw239 mw98 mw240 rfl 3 rfl rfl 0 _ rfl (by unfold yOk; decide) rfl (Nat.le_of_ble_eq_true rfl) (Nat.le_of_ble_eq_true rfl) (Nat.le_of_ble_eq_true rfl) (Nat.le_of_ble_eq_true rfl) (Nat.le_of_ble_eq_true rfl) rfl rfl (by decide) rfl (by decide) (by decide) ?_
  rintro w rfl
  refine k_ws [(h0, .inr (9, [.int 0, .ref th, v2h0, v3h0, v4h0, .int 0, v6h0, .ref td, v8h0, v9h0, .int 0, v11h0, v12h0, v13h0, v14h0])), (td, .inr (8, [v0td, v1td, v2td, .int 0])), (th, .inr (3, [.ref ys, .ref yhn, .ref yht, .ref yhj, .ref yhm, .ref yhb, .ref yhs, .ref yhc])), (ys, .inr (7, [.ref yr, .ref ym, .ref yw, .ref yp, .int 0, .int 0])), (yr, .inr (8, [v0yr, v1yr, v2yr, .int 0])), (ym, .inr (8, [v0ym, v1ym, v2ym, .int 0])), (yw, .inr (8, [v0yw, v1yw, v2yw, .int 0])), (yp, .inr (8, [v0yp, v1yp, v2yp, .int 0])), (yhn, .inr (8, [v0yhn, v1yhn, v2yhn, .int 0])), (yht, .inr (8, [v0yht, v1yht, v2yht, .int 0])), (yhj, .inr (8, [v0yhj, v1yhj, v2yhj, .int 0])), (yhm, .inr (8, [v0yhm, v1yhm, v2yhm, .int 0])), (yhb, .inr (8, [v0yhb, v1yhb, v2yhb, .int 0])), (yhs, .inr (8, [v0yhs, v1yhs, v2yhs, .int 0])), (yhc, .inr (8, [v0yhc, v1yhc, v2yhc, .int 0]))] rfl ?_
  refine k_aload_n X dX9_read_22 0 rfl ?_
  refine k_get (ci := 9) X inlX9 rfl 7 (by decide) dX9_read_23 mw110 0 rfl rfl ?_
  refine k_callVV (n := 0) (As := []) (st := []) X [(td, .inr (8, [v0td, v1td, v2td, .int 0]))] [(h0, .inr (9, [.int 0, .ref th, v2h0, v3h0, v4h0, .int 0, v6h0, .ref td, v8h0, v9h0, .int 0, v11h0, v12h0, v13h0, v14h0])), (th, .inr (3, [.ref ys, .ref yhn, .ref yht, .ref yhj, .ref yhm, .ref yhb, .ref yhs, .ref yhc])), (ys, .inr (7, [.ref yr, .ref ym, .ref yw, .ref yp, .int 0, .int 0])), (yr, .inr (8, [v0yr, v1yr, v2yr, .int 0])), (ym, .inr (8, [v0ym, v1ym, v2ym, .int 0])), (yw, .inr (8, [v0yw, v1yw, v2yw, .int 0])), (yp, .inr (8, [v0yp, v1yp, v2yp, .int 0])), (yhn, .inr (8, [v0yhn, v1yhn, v2yhn, .int 0])), (yht, .inr (8, [v0yht, v1yht, v2yht, .int 0])), (yhj, .inr (8, [v0yhj, v1yhj, v2yhj, .int 0])), (yhm, .inr (8, [v0yhm, v1yhm, v2yhm, .int 0])), (yhb, .inr (8, [v0yhb, v1yhb, v2yhb, .int 0])), (yhs, .inr (8, [v0yhs, v1yhs, v2yhs, .int 0])), (yhc, .inr (8, [v0yhc, v1yhc, v2yhc, .int 0]))] [1] [0, 2, 3, 4, 5, 6, 7, 8, 9, 10, 11, 12, 13, 14] (c_T_clear l g td v0td v1td v2td) dX9_read_26 mw241 mw26 mw27 mw15 mw28 rfl 8 rfl rfl 0 _ rfl (by unfold yOk; decide) rfl (Nat.le_of_ble_eq_true rfl) (Nat.le_of_ble_eq_true rfl) (Nat.le_of_ble_eq_true rfl) (Nat.le_of_ble_eq_true rfl) (Nat.le_of_ble_eq_true rfl) rfl rfl (by decide) rfl (by decide) (by decide) ?_
  rintro w rfl
  refine k_ws [(h0, .inr (9, [.int 0, .ref th, v2h0, v3h0, v4h0, .int 0, v6h0, .ref td, v8h0, v9h0, .int 0, v11h0, v12h0, v13h0, v14h0])), (th, .inr (3, [.ref ys, .ref yhn, .ref yht, .ref yhj, .ref yhm, .ref yhb, .ref yhs, .ref yhc])), (ys, .inr (7, [.ref yr, .ref ym, .ref yw, .ref yp, .int 0, .int 0])), (yr, .inr (8, [v0yr, v1yr, v2yr, .int 0])), (ym, .inr (8, [v0ym, v1ym, v2ym, .int 0])), (yw, .inr (8, [v0yw, v1yw, v2yw, .int 0])), (yp, .inr (8, [v0yp, v1yp, v2yp, .int 0])), (yhn, .inr (8, [v0yhn, v1yhn, v2yhn, .int 0])), (yht, .inr (8, [v0yht, v1yht, v2yht, .int 0])), (yhj, .inr (8, [v0yhj, v1yhj, v2yhj, .int 0])), (yhm, .inr (8, [v0yhm, v1yhm, v2yhm, .int 0])), (yhb, .inr (8, [v0yhb, v1yhb, v2yhb, .int 0])), (yhs, .inr (8, [v0yhs, v1yhs, v2yhs, .int 0])), (yhc, .inr (8, [v0yhc, v1yhc, v2yhc, .int 0])), (td, .inr (8, [v0td, v1td, v2td, .int 0]))] rfl ?_
  refine k_aload_n X dX9_read_29 0 rfl ?_
  refine k_iconst (v := 0) X dX9_read_30 (by decide) ?_
  refine k_put (ci := 9) [(h0, .inr (9, [.int 0, .ref th, .int 0, v3h0, v4h0, .int 0, v6h0, .ref td, v8h0, v9h0, .int 0, v11h0, v12h0, v13h0, v14h0])), (th, .inr (3, [.ref ys, .ref yhn, .ref yht, .ref yhj, .ref yhm, .ref yhb, .ref yhs, .ref yhc])), (ys, .inr (7, [.ref yr, .ref ym, .ref yw, .ref yp, .int 0, .int 0])), (yr, .inr (8, [v0yr, v1yr, v2yr, .int 0])), (ym, .inr (8, [v0ym, v1ym, v2ym, .int 0])), (yw, .inr (8, [v0yw, v1yw, v2yw, .int 0])), (yp, .inr (8, [v0yp, v1yp, v2yp, .int 0])), (yhn, .inr (8, [v0yhn, v1yhn, v2yhn, .int 0])), (yht, .inr (8, [v0yht, v1yht, v2yht, .int 0])), (yhj, .inr (8, [v0yhj, v1yhj, v2yhj, .int 0])), (yhm, .inr (8, [v0yhm, v1yhm, v2yhm, .int 0])), (yhb, .inr (8, [v0yhb, v1yhb, v2yhb, .int 0])), (yhs, .inr (8, [v0yhs, v1yhs, v2yhs, .int 0])), (yhc, .inr (8, [v0yhc, v1yhc, v2yhc, .int 0])), (td, .inr (8, [v0td, v1td, v2td, .int 0]))] X inlX9 rfl tyX9_ok nmX9 2 (by decide) rfl dX9_read_31 mw102 0 rfl rfl rfl (Nat.le_of_ble_eq_true rfl) rfl ?_
  refine k_aload_n X dX9_read_34 0 rfl ?_
  refine k_iconst (v := 0) X dX9_read_35 (by decide) ?_
  refine k_put (ci := 9) [(h0, .inr (9, [.int 0, .ref th, .int 0, .int 0, v4h0, .int 0, v6h0, .ref td, v8h0, v9h0, .int 0, v11h0, v12h0, v13h0, v14h0])), (th, .inr (3, [.ref ys, .ref yhn, .ref yht, .ref yhj, .ref yhm, .ref yhb, .ref yhs, .ref yhc])), (ys, .inr (7, [.ref yr, .ref ym, .ref yw, .ref yp, .int 0, .int 0])), (yr, .inr (8, [v0yr, v1yr, v2yr, .int 0])), (ym, .inr (8, [v0ym, v1ym, v2ym, .int 0])), (yw, .inr (8, [v0yw, v1yw, v2yw, .int 0])), (yp, .inr (8, [v0yp, v1yp, v2yp, .int 0])), (yhn, .inr (8, [v0yhn, v1yhn, v2yhn, .int 0])), (yht, .inr (8, [v0yht, v1yht, v2yht, .int 0])), (yhj, .inr (8, [v0yhj, v1yhj, v2yhj, .int 0])), (yhm, .inr (8, [v0yhm, v1yhm, v2yhm, .int 0])), (yhb, .inr (8, [v0yhb, v1yhb, v2yhb, .int 0])), (yhs, .inr (8, [v0yhs, v1yhs, v2yhs, .int 0])), (yhc, .inr (8, [v0yhc, v1yhc, v2yhc, .int 0])), (td, .inr (8, [v0td, v1td, v2td, .int 0]))] X inlX9 rfl tyX9_ok nmX9 3 (by decide) rfl dX9_read_36 mw103 0 rfl rfl rfl (Nat.le_of_ble_eq_true rfl) rfl ?_
  refine k_aload_n X dX9_read_39 0 rfl ?_
  refine k_callVV (n := 0) (As := []) (st := []) X [(h0, .inr (9, [.int 0, .ref th, .int 0, .int 0, v4h0, .int 0, v6h0, .ref td, v8h0, v9h0, .int 0, v11h0, v12h0, v13h0, v14h0]))] [(th, .inr (3, [.ref ys, .ref yhn, .ref yht, .ref yhj, .ref yhm, .ref yhb, .ref yhs, .ref yhc])), (ys, .inr (7, [.ref yr, .ref ym, .ref yw, .ref yp, .int 0, .int 0])), (yr, .inr (8, [v0yr, v1yr, v2yr, .int 0])), (ym, .inr (8, [v0ym, v1ym, v2ym, .int 0])), (yw, .inr (8, [v0yw, v1yw, v2yw, .int 0])), (yp, .inr (8, [v0yp, v1yp, v2yp, .int 0])), (yhn, .inr (8, [v0yhn, v1yhn, v2yhn, .int 0])), (yht, .inr (8, [v0yht, v1yht, v2yht, .int 0])), (yhj, .inr (8, [v0yhj, v1yhj, v2yhj, .int 0])), (yhm, .inr (8, [v0yhm, v1yhm, v2yhm, .int 0])), (yhb, .inr (8, [v0yhb, v1yhb, v2yhb, .int 0])), (yhs, .inr (8, [v0yhs, v1yhs, v2yhs, .int 0])), (yhc, .inr (8, [v0yhc, v1yhc, v2yhc, .int 0])), (td, .inr (8, [v0td, v1td, v2td, .int 0]))] [0] [1, 2, 3, 4, 5, 6, 7, 8, 9, 10, 11, 12, 13, 14] (c_next l g h0 (.int 0) (.ref th) (.int 0) (.int 0) v4h0 v6h0 (.ref td) v8h0 v9h0 v11h0 v12h0 v13h0 v14h0) dX9_read_40 mw242 mw243 mw244 mw121 mw245 rfl 9 rfl rfl 0 _ rfl (by unfold yOk; decide) rfl (Nat.le_of_ble_eq_true rfl) (Nat.le_of_ble_eq_true rfl) (Nat.le_of_ble_eq_true rfl) (Nat.le_of_ble_eq_true rfl) (Nat.le_of_ble_eq_true rfl) rfl rfl (by decide) rfl (by decide) (by decide) ?_
  rintro w rfl
  refine k_ws [(th, .inr (3, [.ref ys, .ref yhn, .ref yht, .ref yhj, .ref yhm, .ref yhb, .ref yhs, .ref yhc])), (ys, .inr (7, [.ref yr, .ref ym, .ref yw, .ref yp, .int 0, .int 0])), (yr, .inr (8, [v0yr, v1yr, v2yr, .int 0])), (ym, .inr (8, [v0ym, v1ym, v2ym, .int 0])), (yw, .inr (8, [v0yw, v1yw, v2yw, .int 0])), (yp, .inr (8, [v0yp, v1yp, v2yp, .int 0])), (yhn, .inr (8, [v0yhn, v1yhn, v2yhn, .int 0])), (yht, .inr (8, [v0yht, v1yht, v2yht, .int 0])), (yhj, .inr (8, [v0yhj, v1yhj, v2yhj, .int 0])), (yhm, .inr (8, [v0yhm, v1yhm, v2yhm, .int 0])), (yhb, .inr (8, [v0yhb, v1yhb, v2yhb, .int 0])), (yhs, .inr (8, [v0yhs, v1yhs, v2yhs, .int 0])), (yhc, .inr (8, [v0yhc, v1yhc, v2yhc, .int 0])), (td, .inr (8, [v0td, v1td, v2td, .int 0])), (h0, .inr (9, [.int 0, .ref th, .int 0, .int 0, v4h0, .int 0, v6h0, .ref td, .int 0, .int 0, .int 0, .int 0, .long 0, v13h0, v14h0]))] rfl ?_
  refine k_iconst (v := 1) X dX9_read_43 (by decide) ?_
  refine k_istore_n [(2, .int 1), (0, .ref h0), (1, .int 0)] X dX9_read_44 (by decide) rfl ?_
  refine k_iconst (v := 0) X dX9_read_45 (by decide) ?_
  refine k_istore_n [(3, .int 0), (2, .int 1), (0, .ref h0), (1, .int 0)] X dX9_read_46 (by decide) rfl ?_
  refine k_iload_n X dX9_read_47 1 rfl ?_
  refine k_if_eq 85 X dX9_read_48 (by decide) (fun h_1 => absurd h_1 (by decide)) (fun _ => ?_)
  refine k_iload_n X dX9_read_51 0 rfl ?_
  refine k_aload_n X dX9_read_52 2 rfl ?_
  refine k_get (ci := 9) X inlX9 rfl 5 (by decide) dX9_read_53 mw106 14 rfl rfl ?_
  refine k_ic_gt 85 X dX9_read_56 (by decide) (fun h_2 => absurd h_2 (by decide)) (fun _ => ?_)
  refine k_aload_n X dX9_read_59 2 rfl ?_
  refine k_callVI (n := 0) (As := []) (st := []) X [(h0, .inr (9, [.int 0, .ref th, .int 0, .int 0, v4h0, .int 0, v6h0, .ref td, .int 0, .int 0, .int 0, .int 0, .long 0, v13h0, v14h0]))] [(th, .inr (3, [.ref ys, .ref yhn, .ref yht, .ref yhj, .ref yhm, .ref yhb, .ref yhs, .ref yhc])), (ys, .inr (7, [.ref yr, .ref ym, .ref yw, .ref yp, .int 0, .int 0])), (yr, .inr (8, [v0yr, v1yr, v2yr, .int 0])), (ym, .inr (8, [v0ym, v1ym, v2ym, .int 0])), (yw, .inr (8, [v0yw, v1yw, v2yw, .int 0])), (yp, .inr (8, [v0yp, v1yp, v2yp, .int 0])), (yhn, .inr (8, [v0yhn, v1yhn, v2yhn, .int 0])), (yht, .inr (8, [v0yht, v1yht, v2yht, .int 0])), (yhj, .inr (8, [v0yhj, v1yhj, v2yhj, .int 0])), (yhm, .inr (8, [v0yhm, v1yhm, v2yhm, .int 0])), (yhb, .inr (8, [v0yhb, v1yhb, v2yhb, .int 0])), (yhs, .inr (8, [v0yhs, v1yhs, v2yhs, .int 0])), (yhc, .inr (8, [v0yhc, v1yhc, v2yhc, .int 0])), (td, .inr (8, [v0td, v1td, v2td, .int 0]))] [14] [0, 1, 2, 3, 4, 5, 6, 7, 8, 9, 10, 11, 12, 13] (c_isLine l g h0 (.int 0) (.ref th) (.int 0) (.int 0) v4h0 (.int 0) v6h0 (.ref td) (.int 0) (.int 0) (.long 0) v13h0 v14h0) dX9_read_60 mw246 mw247 mw248 mw121 mw249 rfl 9 rfl rfl 0 _ rfl (by unfold yOk; decide) rfl (Nat.le_of_ble_eq_true rfl) (Nat.le_of_ble_eq_true rfl) (Nat.le_of_ble_eq_true rfl) (Nat.le_of_ble_eq_true rfl) (Nat.le_of_ble_eq_true rfl) rfl rfl (by decide) rfl (by decide) (by decide) ?_
  rintro r w ⟨rfl, rfl⟩
  refine k_ws [(th, .inr (3, [.ref ys, .ref yhn, .ref yht, .ref yhj, .ref yhm, .ref yhb, .ref yhs, .ref yhc])), (ys, .inr (7, [.ref yr, .ref ym, .ref yw, .ref yp, .int 0, .int 0])), (yr, .inr (8, [v0yr, v1yr, v2yr, .int 0])), (ym, .inr (8, [v0ym, v1ym, v2ym, .int 0])), (yw, .inr (8, [v0yw, v1yw, v2yw, .int 0])), (yp, .inr (8, [v0yp, v1yp, v2yp, .int 0])), (yhn, .inr (8, [v0yhn, v1yhn, v2yhn, .int 0])), (yht, .inr (8, [v0yht, v1yht, v2yht, .int 0])), (yhj, .inr (8, [v0yhj, v1yhj, v2yhj, .int 0])), (yhm, .inr (8, [v0yhm, v1yhm, v2yhm, .int 0])), (yhb, .inr (8, [v0yhb, v1yhb, v2yhb, .int 0])), (yhs, .inr (8, [v0yhs, v1yhs, v2yhs, .int 0])), (yhc, .inr (8, [v0yhc, v1yhc, v2yhc, .int 0])), (td, .inr (8, [v0td, v1td, v2td, .int 0])), (h0, .inr (9, [.int 0, .ref th, .int 1, .int 0, v4h0, .int 0, v6h0, .ref td, .int 0, .int 0, .int 0, .int 0, .long 0, v13h0, v14h0]))] rfl ?_
  refine k_if_eq 77 X dX9_read_63 (by decide) (fun _ => ?_) (fun h_3 => absurd (by decide) h_3)
  refine k_iconst (v := 0) X dX9_read_77 (by decide) ?_
  refine k_istore_n [(2, .int 0), (3, .int 0), (0, .ref h0), (1, .int 0)] X dX9_read_78 (by decide) rfl ?_
  refine k_iinc (1) [(3, .int 1), (2, .int 0), (0, .ref h0), (1, .int 0)] 1 X dX9_read_79 rfl (by decide) (by decide) rfl ?_
  refine k_goto 47 X dX9_read_82 (by decide) ?_
  refine k_iload_n X dX9_read_47 1 rfl ?_
  refine k_if_eq 85 X dX9_read_48 (by decide) (fun _ => ?_) (fun h_4 => absurd (by decide) h_4)
  exact k_vret X hr dX9_read_85 (Nat.le_of_ble_eq_true rfl) (Nat.le_of_ble_eq_true rfl) [14] (by decide) rfl rfl rfl

theorem dX10_house_0 : decode cX10_house 0 = .ok (.iload_n 1, 1) := by decide +kernel
theorem dX10_house_1 : decode cX10_house 1 = .ok (.ifCond .lt 14, 3) := by decide +kernel
theorem dX10_house_4 : decode cX10_house 4 = .ok (.iload_n 1, 1) := by decide +kernel
theorem dX10_house_5 : decode cX10_house 5 = .ok (.aload_n 0, 1) := by decide +kernel
theorem dX10_house_6 : decode cX10_house 6 = .ok (.getfield 10, 3) := by decide +kernel
theorem dX10_house_9 : decode cX10_house 9 = .ok (.getfield 76, 3) := by decide +kernel
theorem dX10_house_12 : decode cX10_house 12 = .ok (.if_icmp .le 9, 3) := by decide +kernel
theorem dX10_house_15 : decode cX10_house 15 = .ok (.aload_n 0, 1) := by decide +kernel
theorem dX10_house_16 : decode cX10_house 16 = .ok (.iconst 2, 1) := by decide +kernel
theorem dX10_house_17 : decode cX10_house 17 = .ok (.invokevirtual 83, 3) := by decide +kernel
theorem dX10_house_20 : decode cX10_house 20 = .ok (.ireturn, 1) := by decide +kernel
theorem dX10_house_21 : decode cX10_house 21 = .ok (.aload_n 0, 1) := by decide +kernel
theorem dX10_house_22 : decode cX10_house 22 = .ok (.getfield 10, 3) := by decide +kernel
theorem dX10_house_25 : decode cX10_house 25 = .ok (.iload_n 1, 1) := by decide +kernel
theorem dX10_house_26 : decode cX10_house 26 = .ok (.invokevirtual 87, 3) := by decide +kernel
theorem dX10_house_29 : decode cX10_house 29 = .ok (.aload_n 0, 1) := by decide +kernel
theorem dX10_house_30 : decode cX10_house 30 = .ok (.getfield 10, 3) := by decide +kernel
theorem dX10_house_33 : decode cX10_house 33 = .ok (.getfield 90, 3) := by decide +kernel
theorem dX10_house_36 : decode cX10_house 36 = .ok (.ifCond .eq 9, 3) := by decide +kernel
theorem dX10_house_39 : decode cX10_house 39 = .ok (.aload_n 0, 1) := by decide +kernel
theorem dX10_house_40 : decode cX10_house 40 = .ok (.iconst 4, 1) := by decide +kernel
theorem dX10_house_41 : decode cX10_house 41 = .ok (.invokevirtual 83, 3) := by decide +kernel
theorem dX10_house_44 : decode cX10_house 44 = .ok (.ireturn, 1) := by decide +kernel
set_option maxHeartbeats 4000000 in
set_option maxRecDepth 100000 in
theorem m_house (l : Launch) (g : Gx) (h0 : Nat) (p0 : Int32) (tx : Nat) (v1h0 : Value) (v2h0 : Value) (v3h0 : Value) (v4h0 : Value) (v5h0 : Value) (v6h0 : Value) (v7h0 : Value) (v8h0 : Value) (v9h0 : Value) (th : Nat) (v2tx : Value) (v3tx : Value) (v4tx : Value) (v5tx : Value) (v6tx : Value) (td : Nat) (v8tx : Value) (v9tx : Value) (v10tx : Value) (v11tx : Value) (v12tx : Value) (v13tx : Value) (v14tx : Value) (v0td : Value) (v1td : Value) (v2td : Value) (ys : Nat) (yhn : Nat) (yht : Nat) (yhj : Nat) (yhm : Nat) (yhb : Nat) (yhs : Nat) (yhc : Nat) (yr : Nat) (ym : Nat) (yw : Nat) (yp : Nat) (v0yr : Value) (v1yr : Value) (v2yr : Value) (v0ym : Value) (v1ym : Value) (v2ym : Value) (v0yw : Value) (v1yw : Value) (v2yw : Value) (v0yp : Value) (v1yp : Value) (v2yp : Value) (v0yhn : Value) (v1yhn : Value) (v2yhn : Value) (v0yht : Value) (v1yht : Value) (v2yht : Value) (v0yhj : Value) (v1yhj : Value) (v2yhj : Value) (v0yhm : Value) (v1yhm : Value) (v2yhm : Value) (v0yhb : Value) (v1yhb : Value) (v2yhb : Value) (v0yhs : Value) (v1yhs : Value) (v2yhs : Value) (v0yhc : Value) (v1yhc : Value) (v2yhc : Value) : cI l g yX10_house cX10_house 2 (some .int) 4 85 0 0 [.ref h0, .int p0] [(h0, .inr (10, [.ref tx, v1h0, v2h0, v3h0, v4h0, v5h0, v6h0, v7h0, v8h0, v9h0])), (tx, .inr (9, [.int 0, .ref th, v2tx, v3tx, v4tx, v5tx, v6tx, .ref td, v8tx, v9tx, v10tx, v11tx, v12tx, v13tx, v14tx])), (td, .inr (8, [v0td, v1td, v2td, .int 0])), (th, .inr (3, [.ref ys, .ref yhn, .ref yht, .ref yhj, .ref yhm, .ref yhb, .ref yhs, .ref yhc])), (ys, .inr (7, [.ref yr, .ref ym, .ref yw, .ref yp, .int 0, .int 0])), (yr, .inr (8, [v0yr, v1yr, v2yr, .int 0])), (ym, .inr (8, [v0ym, v1ym, v2ym, .int 0])), (yw, .inr (8, [v0yw, v1yw, v2yw, .int 0])), (yp, .inr (8, [v0yp, v1yp, v2yp, .int 0])), (yhn, .inr (8, [v0yhn, v1yhn, v2yhn, .int 0])), (yht, .inr (8, [v0yht, v1yht, v2yht, .int 0])), (yhj, .inr (8, [v0yhj, v1yhj, v2yhj, .int 0])), (yhm, .inr (8, [v0yhm, v1yhm, v2yhm, .int 0])), (yhb, .inr (8, [v0yhb, v1yhb, v2yhb, .int 0])), (yhs, .inr (8, [v0yhs, v1yhs, v2yhs, .int 0])), (yhc, .inr (8, [v0yhc, v1yhc, v2yhc, .int 0]))] (fun r w => r = (-1) ∧ w = []) := by
  refine cI.of (by decide) (Nat.le_of_ble_eq_true rfl) ?_
  intro p e s m args below meth c A X hr hi
  refine k_lveq [(0, .ref h0), (1, .int p0)] rfl ?_
  refine k_iload_n X dX10_house_0 1 rfl ?_
  refine k_if_lt 15 X dX10_house_1 (by decide) (fun h_1 => ?_) (fun h_1 => ?_)
  · skip
    refine k_aload_n X dX10_house_15 0 rfl ?_
    refine k_iconst (v := 2) X dX10_house_16 (by decide) ?_
    refine k_callVI (n := 1) (As := [.int 2]) (st := []) X [(h0, .inr (10, [.ref tx, v1h0, v2h0, v3h0, v4h0, v5h0, v6h0, v7h0, v8h0, v9h0]))] [(tx, .inr (9, [.int 0, .ref th, v2tx, v3tx, v4tx, v5tx, v6tx, .ref td, v8tx, v9tx, v10tx, v11tx, v12tx, v13tx, v14tx])), (td, .inr (8, [v0td, v1td, v2td, .int 0])), (th, .inr (3, [.ref ys, .ref yhn, .ref yht, .ref yhj, .ref yhm, .ref yhb, .ref yhs, .ref yhc])), (ys, .inr (7, [.ref yr, .ref ym, .ref yw, .ref yp, .int 0, .int 0])), (yr, .inr (8, [v0yr, v1yr, v2yr, .int 0])), (ym, .inr (8, [v0ym, v1ym, v2ym, .int 0])), (yw, .inr (8, [v0yw, v1yw, v2yw, .int 0])), (yp, .inr (8, [v0yp, v1yp, v2yp, .int 0])), (yhn, .inr (8, [v0yhn, v1yhn, v2yhn, .int 0])), (yht, .inr (8, [v0yht, v1yht, v2yht, .int 0])), (yhj, .inr (8, [v0yhj, v1yhj, v2yhj, .int 0])), (yhm, .inr (8, [v0yhm, v1yhm, v2yhm, .int 0])), (yhb, .inr (8, [v0yhb, v1yhb, v2yhb, .int 0])), (yhs, .inr (8, [v0yhs, v1yhs, v2yhs, .int 0])), (yhc, .inr (8, [v0yhc, v1yhc, v2yhc, .int 0]))] [0] [1, 2, 3, 4, 5, 6, 7, 8, 9, 10, 11, 12, 13, 14, 15] (c_refuse l g h0 2 (.ref tx) v1h0 v2h0 v3h0 v4h0 v5h0 v6h0 v7h0 v8h0 v9h0) dX10_house_17 mw176 mw177 mw178 mw174 mw179 rfl 10 rfl rfl 0 _ rfl (by unfold yOk; decide) rfl (Nat.le_of_ble_eq_true rfl) (Nat.le_of_ble_eq_true rfl) (Nat.le_of_ble_eq_true rfl) (Nat.le_of_ble_eq_true rfl) (Nat.le_of_ble_eq_true rfl) rfl rfl (by decide) rfl (by decide) (by decide) ?_
    rintro r w ⟨rfl, rfl⟩
    refine k_ws [(tx, .inr (9, [.int 0, .ref th, v2tx, v3tx, v4tx, v5tx, v6tx, .ref td, v8tx, v9tx, v10tx, v11tx, v12tx, v13tx, v14tx])), (td, .inr (8, [v0td, v1td, v2td, .int 0])), (th, .inr (3, [.ref ys, .ref yhn, .ref yht, .ref yhj, .ref yhm, .ref yhb, .ref yhs, .ref yhc])), (ys, .inr (7, [.ref yr, .ref ym, .ref yw, .ref yp, .int 0, .int 0])), (yr, .inr (8, [v0yr, v1yr, v2yr, .int 0])), (ym, .inr (8, [v0ym, v1ym, v2ym, .int 0])), (yw, .inr (8, [v0yw, v1yw, v2yw, .int 0])), (yp, .inr (8, [v0yp, v1yp, v2yp, .int 0])), (yhn, .inr (8, [v0yhn, v1yhn, v2yhn, .int 0])), (yht, .inr (8, [v0yht, v1yht, v2yht, .int 0])), (yhj, .inr (8, [v0yhj, v1yhj, v2yhj, .int 0])), (yhm, .inr (8, [v0yhm, v1yhm, v2yhm, .int 0])), (yhb, .inr (8, [v0yhb, v1yhb, v2yhb, .int 0])), (yhs, .inr (8, [v0yhs, v1yhs, v2yhs, .int 0])), (yhc, .inr (8, [v0yhc, v1yhc, v2yhc, .int 0]))] rfl ?_
    exact k_iret X hr dX10_house_20 (Nat.le_of_ble_eq_true rfl) (Nat.le_of_ble_eq_true rfl) [] (by decide) rfl rfl ⟨rfl, rfl⟩
  · skip
    refine k_iload_n X dX10_house_4 1 rfl ?_
    refine k_aload_n X dX10_house_5 0 rfl ?_
    refine k_get (ci := 10) X inlX10 rfl 0 (by decide) dX10_house_6 mw124 0 rfl rfl ?_
    refine k_get (ci := 9) X inlX9 rfl 0 (by decide) dX10_house_9 mw216 1 rfl rfl ?_
    refine k_ic_le 21 X dX10_house_12 (by decide) (fun h_2 => ?_) (fun h_2 => ?_)
    · skip
      obtain rfl : p0 = 0 := i32_le0 h_1 h_2
      refine k_aload_n X dX10_house_21 0 rfl ?_
      refine k_get (ci := 10) X inlX10 rfl 0 (by decide) dX10_house_22 mw124 0 rfl rfl ?_
      refine k_iload_n X dX10_house_25 1 rfl ?_
      refine k_callVV (n := 1) (As := [.int 0]) (st := []) X [(tx, .inr (9, [.int 0, .ref th, v2tx, v3tx, v4tx, v5tx, v6tx, .ref td, v8tx, v9tx, v10tx, v11tx, v12tx, v13tx, v14tx])), (td, .inr (8, [v0td, v1td, v2td, .int 0])), (th, .inr (3, [.ref ys, .ref yhn, .ref yht, .ref yhj, .ref yhm, .ref yhb, .ref yhs, .ref yhc])), (ys, .inr (7, [.ref yr, .ref ym, .ref yw, .ref yp, .int 0, .int 0])), (yr, .inr (8, [v0yr, v1yr, v2yr, .int 0])), (ym, .inr (8, [v0ym, v1ym, v2ym, .int 0])), (yw, .inr (8, [v0yw, v1yw, v2yw, .int 0])), (yp, .inr (8, [v0yp, v1yp, v2yp, .int 0])), (yhn, .inr (8, [v0yhn, v1yhn, v2yhn, .int 0])), (yht, .inr (8, [v0yht, v1yht, v2yht, .int 0])), (yhj, .inr (8, [v0yhj, v1yhj, v2yhj, .int 0])), (yhm, .inr (8, [v0yhm, v1yhm, v2yhm, .int 0])), (yhb, .inr (8, [v0yhb, v1yhb, v2yhb, .int 0])), (yhs, .inr (8, [v0yhs, v1yhs, v2yhs, .int 0])), (yhc, .inr (8, [v0yhc, v1yhc, v2yhc, .int 0]))] [(h0, .inr (10, [.ref tx, v1h0, v2h0, v3h0, v4h0, v5h0, v6h0, v7h0, v8h0, v9h0]))] [1, 2, 3, 4, 5, 6, 7, 8, 9, 10, 11, 12, 13, 14, 15] [0] (c_read l g tx (.int 0) th v2tx v3tx v4tx v5tx v6tx td v8tx v9tx v10tx v11tx v12tx v13tx v14tx v0td v1td v2td ys yhn yht yhj yhm yhb yhs yhc yr ym yw yp v0yr v1yr v2yr v0ym v1ym v2ym v0yw v1yw v2yw v0yp v1yp v2yp v0yhn v1yhn v2yhn v0yht v1yht v2yht v0yhj v1yhj v2yhj v0yhm v1yhm v2yhm v0yhb v1yhb v2yhb v0yhs v1yhs v2yhs v0yhc v1yhc v2yhc) dX10_house_26 mw250 mw251 mw252 mw121 mw253 rfl 9 rfl rfl 0 _ rfl (by unfold yOk; decide) rfl (Nat.le_of_ble_eq_true rfl) (Nat.le_of_ble_eq_true rfl) (Nat.le_of_ble_eq_true rfl) (Nat.le_of_ble_eq_true rfl) (Nat.le_of_ble_eq_true rfl) rfl rfl (by decide) rfl (by decide) (by decide) ?_
      rintro w rfl
      refine k_ws [(h0, .inr (10, [.ref tx, v1h0, v2h0, v3h0, v4h0, v5h0, v6h0, v7h0, v8h0, v9h0])), (tx, .inr (9, [.int 0, .ref th, .int 1, .int 0, v4tx, .int 0, v6tx, .ref td, .int 0, .int 0, .int 0, .int 0, .long 0, v13tx, v14tx]))] rfl ?_
      refine k_aload_n X dX10_house_29 0 rfl ?_
      refine k_get (ci := 10) X inlX10 rfl 0 (by decide) dX10_house_30 mw124 0 rfl rfl ?_
      refine k_get (ci := 9) X inlX9 rfl 2 (by decide) dX10_house_33 mw180 1 rfl rfl ?_
      refine k_if_eq 45 X dX10_house_36 (by decide) (fun h_3 => absurd h_3 (by decide)) (fun _ => ?_)
      refine k_aload_n X dX10_house_39 0 rfl ?_
      refine k_iconst (v := 4) X dX10_house_40 (by decide) ?_
      refine k_callVI (n := 1) (As := [.int 4]) (st := []) X [(h0, .inr (10, [.ref tx, v1h0, v2h0, v3h0, v4h0, v5h0, v6h0, v7h0, v8h0, v9h0]))] [(tx, .inr (9, [.int 0, .ref th, .int 1, .int 0, v4tx, .int 0, v6tx, .ref td, .int 0, .int 0, .int 0, .int 0, .long 0, v13tx, v14tx]))] [0] [1] (c_refuse l g h0 4 (.ref tx) v1h0 v2h0 v3h0 v4h0 v5h0 v6h0 v7h0 v8h0 v9h0) dX10_house_41 mw176 mw177 mw178 mw174 mw179 rfl 10 rfl rfl 0 _ rfl (by unfold yOk; decide) rfl (Nat.le_of_ble_eq_true rfl) (Nat.le_of_ble_eq_true rfl) (Nat.le_of_ble_eq_true rfl) (Nat.le_of_ble_eq_true rfl) (Nat.le_of_ble_eq_true rfl) rfl rfl (by decide) rfl (by decide) (by decide) ?_
      rintro r w ⟨rfl, rfl⟩
      refine k_ws [(tx, .inr (9, [.int 0, .ref th, .int 1, .int 0, v4tx, .int 0, v6tx, .ref td, .int 0, .int 0, .int 0, .int 0, .long 0, v13tx, v14tx]))] rfl ?_
      exact k_iret X hr dX10_house_44 (Nat.le_of_ble_eq_true rfl) (Nat.le_of_ble_eq_true rfl) [] (by decide) rfl rfl ⟨rfl, rfl⟩
    · skip
      refine k_aload_n X dX10_house_15 0 rfl ?_
      refine k_iconst (v := 2) X dX10_house_16 (by decide) ?_
      refine k_callVI (n := 1) (As := [.int 2]) (st := []) X [(h0, .inr (10, [.ref tx, v1h0, v2h0, v3h0, v4h0, v5h0, v6h0, v7h0, v8h0, v9h0]))] [(tx, .inr (9, [.int 0, .ref th, v2tx, v3tx, v4tx, v5tx, v6tx, .ref td, v8tx, v9tx, v10tx, v11tx, v12tx, v13tx, v14tx])), (td, .inr (8, [v0td, v1td, v2td, .int 0])), (th, .inr (3, [.ref ys, .ref yhn, .ref yht, .ref yhj, .ref yhm, .ref yhb, .ref yhs, .ref yhc])), (ys, .inr (7, [.ref yr, .ref ym, .ref yw, .ref yp, .int 0, .int 0])), (yr, .inr (8, [v0yr, v1yr, v2yr, .int 0])), (ym, .inr (8, [v0ym, v1ym, v2ym, .int 0])), (yw, .inr (8, [v0yw, v1yw, v2yw, .int 0])), (yp, .inr (8, [v0yp, v1yp, v2yp, .int 0])), (yhn, .inr (8, [v0yhn, v1yhn, v2yhn, .int 0])), (yht, .inr (8, [v0yht, v1yht, v2yht, .int 0])), (yhj, .inr (8, [v0yhj, v1yhj, v2yhj, .int 0])), (yhm, .inr (8, [v0yhm, v1yhm, v2yhm, .int 0])), (yhb, .inr (8, [v0yhb, v1yhb, v2yhb, .int 0])), (yhs, .inr (8, [v0yhs, v1yhs, v2yhs, .int 0])), (yhc, .inr (8, [v0yhc, v1yhc, v2yhc, .int 0]))] [0] [1, 2, 3, 4, 5, 6, 7, 8, 9, 10, 11, 12, 13, 14, 15] (c_refuse l g h0 2 (.ref tx) v1h0 v2h0 v3h0 v4h0 v5h0 v6h0 v7h0 v8h0 v9h0) dX10_house_17 mw176 mw177 mw178 mw174 mw179 rfl 10 rfl rfl 0 _ rfl (by unfold yOk; decide) rfl (Nat.le_of_ble_eq_true rfl) (Nat.le_of_ble_eq_true rfl) (Nat.le_of_ble_eq_true rfl) (Nat.le_of_ble_eq_true rfl) (Nat.le_of_ble_eq_true rfl) rfl rfl (by decide) rfl (by decide) (by decide) ?_
      rintro r w ⟨rfl, rfl⟩
      refine k_ws [(tx, .inr (9, [.int 0, .ref th, v2tx, v3tx, v4tx, v5tx, v6tx, .ref td, v8tx, v9tx, v10tx, v11tx, v12tx, v13tx, v14tx])), (td, .inr (8, [v0td, v1td, v2td, .int 0])), (th, .inr (3, [.ref ys, .ref yhn, .ref yht, .ref yhj, .ref yhm, .ref yhb, .ref yhs, .ref yhc])), (ys, .inr (7, [.ref yr, .ref ym, .ref yw, .ref yp, .int 0, .int 0])), (yr, .inr (8, [v0yr, v1yr, v2yr, .int 0])), (ym, .inr (8, [v0ym, v1ym, v2ym, .int 0])), (yw, .inr (8, [v0yw, v1yw, v2yw, .int 0])), (yp, .inr (8, [v0yp, v1yp, v2yp, .int 0])), (yhn, .inr (8, [v0yhn, v1yhn, v2yhn, .int 0])), (yht, .inr (8, [v0yht, v1yht, v2yht, .int 0])), (yhj, .inr (8, [v0yhj, v1yhj, v2yhj, .int 0])), (yhm, .inr (8, [v0yhm, v1yhm, v2yhm, .int 0])), (yhb, .inr (8, [v0yhb, v1yhb, v2yhb, .int 0])), (yhs, .inr (8, [v0yhs, v1yhs, v2yhs, .int 0])), (yhc, .inr (8, [v0yhc, v1yhc, v2yhc, .int 0]))] rfl ?_
      exact k_iret X hr dX10_house_20 (Nat.le_of_ble_eq_true rfl) (Nat.le_of_ble_eq_true rfl) [] (by decide) rfl rfl ⟨rfl, rfl⟩
