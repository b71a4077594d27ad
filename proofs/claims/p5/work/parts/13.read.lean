theorem dX9_write_0 : decode cX9_write 0 = .ok (.bipush 24, 2) := by decide +kernel
theorem dX9_write_2 : decode cX9_write 2 = .ok (.istore_n 2, 1) := by decide +kernel
theorem dX9_write_3 : decode cX9_write 3 = .ok (.iload_n 2, 1) := by decide +kernel
theorem dX9_write_4 : decode cX9_write 4 = .ok (.ifCond .lt 51, 3) := by decide +kernel
theorem dX9_write_7 : decode cX9_write 7 = .ok (.aload_n 0, 1) := by decide +kernel
theorem dX9_write_8 : decode cX9_write 8 = .ok (.getfield 9, 3) := by decide +kernel
theorem dX9_write_11 : decode cX9_write 11 = .ok (.ifCond .lt 38, 3) := by decide +kernel
theorem dX9_write_14 : decode cX9_write 14 = .ok (.aload_n 0, 1) := by decide +kernel
theorem dX9_write_15 : decode cX9_write 15 = .ok (.getfield 9, 3) := by decide +kernel
theorem dX9_write_18 : decode cX9_write 18 = .ok (.aload_n 0, 1) := by decide +kernel
theorem dX9_write_19 : decode cX9_write 19 = .ok (.getfield 28, 3) := by decide +kernel
theorem dX9_write_22 : decode cX9_write 22 = .ok (.arraylength, 1) := by decide +kernel
theorem dX9_write_23 : decode cX9_write 23 = .ok (.if_icmp .ge 26, 3) := by decide +kernel
theorem dX9_write_26 : decode cX9_write 26 = .ok (.aload_n 0, 1) := by decide +kernel
theorem dX9_write_27 : decode cX9_write 27 = .ok (.getfield 28, 3) := by decide +kernel
theorem dX9_write_30 : decode cX9_write 30 = .ok (.aload_n 0, 1) := by decide +kernel
theorem dX9_write_31 : decode cX9_write 31 = .ok (.getfield 9, 3) := by decide +kernel
theorem dX9_write_34 : decode cX9_write 34 = .ok (.iload_n 1, 1) := by decide +kernel
theorem dX9_write_35 : decode cX9_write 35 = .ok (.iload_n 2, 1) := by decide +kernel
theorem dX9_write_36 : decode cX9_write 36 = .ok (.ishr, 1) := by decide +kernel
theorem dX9_write_37 : decode cX9_write 37 = .ok (.i2b, 1) := by decide +kernel
theorem dX9_write_38 : decode cX9_write 38 = .ok (.bastore, 1) := by decide +kernel
theorem dX9_write_39 : decode cX9_write 39 = .ok (.aload_n 0, 1) := by decide +kernel
theorem dX9_write_40 : decode cX9_write 40 = .ok (.dup, 1) := by decide +kernel
theorem dX9_write_41 : decode cX9_write 41 = .ok (.getfield 9, 3) := by decide +kernel
theorem dX9_write_44 : decode cX9_write 44 = .ok (.iconst 1, 1) := by decide +kernel
theorem dX9_write_45 : decode cX9_write 45 = .ok (.iadd, 1) := by decide +kernel
theorem dX9_write_46 : decode cX9_write 46 = .ok (.putfield 9, 3) := by decide +kernel
theorem dX9_write_49 : decode cX9_write 49 = .ok (.iinc 2 (-8), 3) := by decide +kernel
theorem dX9_write_52 : decode cX9_write 52 = .ok (.goto (-49), 3) := by decide +kernel
theorem dX9_write_55 : decode cX9_write 55 = .ok (.return_, 1) := by decide +kernel
set_option maxHeartbeats 4000000 in
set_option maxRecDepth 100000 in
theorem x_write (l : Launch) (g : Gx) (h0 : Nat) (p0 : Int32) (xtpd : Int32) (th : Nat) (xfn : Int32) (xfp : Int32) (tp : Nat) (xen : Int32) (nm : Nat) (nd : Nat) (xkd : Int32) (xsta : Int32) (xpo : Int32) (xva : Int32) (xle : Int64) (xtk : Int32) (xta : Int32) (tpf : Nat → Int32) (hv_xtpd : IV xtpd 0 896) : cV l g yX9_write cX9_write 3 0 0 0 0 [.ref h0, .int p0] [(h0, .inr (9, [.int xtpd, .ref th, .int xfn, .int xfp, .ref tp, .int xen, .ref nm, .ref nd, .int xkd, .int xsta, .int xpo, .int xva, .long xle, .int xtk, .int xta])), (tp, .inl (g.2.1, 900, .inl tpf))] (fun w => ∃ (xtpd2 : Int32) (tpf2 : Nat → Int32), IV xtpd2 4 900 ∧ (xtpd2.toInt = xtpd.toInt + 4) ∧ w = [(h0, .inr (9, [.int xtpd2, .ref th, .int xfn, .int xfp, .ref tp, .int xen, .ref nm, .ref nd, .int xkd, .int xsta, .int xpo, .int xva, .long xle, .int xtk, .int xta])), (tp, .inl (g.2.1, 900, .inl tpf2))]) := by
  refine cV.of (by decide) (Nat.le_of_ble_eq_true rfl) ?_
  intro p e s m args below meth c A X hr hi
  refine k_lveq [(0, .ref h0), (1, .int p0)] rfl ?_
  refine k_bipush (v := 24) X dX9_write_0 (by decide) ?_
  refine k_istore_n [(2, .int 24), (0, .ref h0), (1, .int p0)] X dX9_write_2 (by decide) rfl ?_
  refine k_iload_n X dX9_write_3 0 rfl ?_
  refine k_if_lt 55 X dX9_write_4 (by decide) (fun h_1 => absurd h_1 (by decide)) (fun _ => ?_)
  refine k_aload_n X dX9_write_7 1 rfl ?_
  refine k_get (ci := 9) X inlX9 rfl 0 (by decide) dX9_write_8 mw53 0 rfl rfl ?_
  refine k_if_lt 49 X dX9_write_11 (by decide) (fun h_2 => (iv_ltN (iv_lt h_2) hv_xtpd (show IV 0 0 0 from (by decide)) (by decide)).elim) (fun h_2 => ?_)
  have j_3 : 0 ≤ xtpd.toInt := iv_nlt h_2
  refine k_aload_n X dX9_write_14 1 rfl ?_
  refine k_get (ci := 9) X inlX9 rfl 0 (by decide) dX9_write_15 mw53 0 rfl rfl ?_
  refine k_aload_n X dX9_write_18 1 rfl ?_
  refine k_get (ci := 9) X inlX9 rfl 4 (by decide) dX9_write_19 mw59 0 rfl rfl ?_
  refine k_alen 900 0 X dX9_write_22 1 rfl rfl (by show Int32.ofNat 900 = 900; decide) ?_
  refine k_ic_ge 49 X dX9_write_23 (by decide) (fun h_4 => (iv_leN (iv_le h_4) (show IV 900 900 900 from (by decide)) hv_xtpd (by decide)).elim) (fun h_4 => ?_)
  have j_5 : xtpd.toInt < 900 := iv_nle h_4
  refine k_aload_n X dX9_write_26 1 rfl ?_
  refine k_get (ci := 9) X inlX9 rfl 4 (by decide) dX9_write_27 mw59 0 rfl rfl ?_
  refine k_aload_n X dX9_write_30 1 rfl ?_
  refine k_get (ci := 9) X inlX9 rfl 0 (by decide) dX9_write_31 mw53 0 rfl rfl ?_
  refine k_iload_n X dX9_write_34 2 rfl ?_
  refine k_iload_n X dX9_write_35 0 rfl ?_
  refine k_ishr X dX9_write_36 ?_
  refine k_nm (fun z_6 ez_6 => ?_)
  refine k_i2b X dX9_write_37 ?_
  refine k_nm (fun z_7 ez_7 => ?_)
  refine k_bast [(h0, .inr (9, [.int xtpd, .ref th, .int xfn, .int xfp, .ref tp, .int xen, .ref nm, .ref nd, .int xkd, .int xsta, .int xpo, .int xva, .long xle, .int xtk, .int xta])), (tp, .inl (g.2.1, 900, .inl (upd tpf (xtpd : Int32).toNatClampNeg (vp_nar .byte z_7))))] X dX9_write_38 1 rfl (iv_in hv_xtpd (by decide) (by decide)) rfl ?_
  refine (fun hg : ∀ fa_8 : Nat → Int32, Wk p l e _ s m args below meth c _ A g _ _ _ [(h0, .inr (9, [.int xtpd, .ref th, .int xfn, .int xfp, .ref tp, .int xen, .ref nm, .ref nd, .int xkd, .int xsta, .int xpo, .int xva, .long xle, .int xtk, .int xta])), (tp, .inl (g.2.1, 900, .inl fa_8))] _ _ _ => hg _) (fun fa_8 => ?_)
  refine k_aload_n X dX9_write_39 1 rfl ?_
  refine k_dup X dX9_write_40 rfl ?_
  refine k_get (ci := 9) X inlX9 rfl 0 (by decide) dX9_write_41 mw53 0 rfl rfl ?_
  refine k_iconst (v := 1) X dX9_write_44 (by decide) ?_
  refine k_iadd X dX9_write_45 ?_
  refine k_nm (fun z_9 ez_9 => ?_)
  have i_10 : z_9.toInt = xtpd.toInt + 1 := in_add ez_9 hv_xtpd (show IV 1 1 1 from (by decide)) (by decide) (by decide)
  have iv_11 : IV z_9 1 897 := by have := hv_xtpd; have := (show IV 1 1 1 from (by decide)); rw [IV, i_10]; omega
  refine k_put (ci := 9) [(h0, .inr (9, [.int z_9, .ref th, .int xfn, .int xfp, .ref tp, .int xen, .ref nm, .ref nd, .int xkd, .int xsta, .int xpo, .int xva, .long xle, .int xtk, .int xta])), (tp, .inl (g.2.1, 900, .inl fa_8))] X inlX9 rfl tyX9_ok nmX9 0 (by decide) rfl dX9_write_46 mw53 0 rfl rfl rfl (Nat.le_of_ble_eq_true rfl) rfl ?_
  refine k_iinc (16) [(2, .int 16), (0, .ref h0), (1, .int p0)] 0 X dX9_write_49 rfl (by decide) (by decide) rfl ?_
  refine k_goto 3 X dX9_write_52 (by decide) ?_
  refine k_iload_n X dX9_write_3 0 rfl ?_
  refine k_if_lt 55 X dX9_write_4 (by decide) (fun h_12 => absurd h_12 (by decide)) (fun _ => ?_)
  refine k_aload_n X dX9_write_7 1 rfl ?_
  refine k_get (ci := 9) X inlX9 rfl 0 (by decide) dX9_write_8 mw53 0 rfl rfl ?_
  refine k_if_lt 49 X dX9_write_11 (by decide) (fun h_13 => (iv_ltN (iv_lt h_13) iv_11 (show IV 0 0 0 from (by decide)) (by decide)).elim) (fun h_13 => ?_)
  have j_14 : 0 ≤ z_9.toInt := iv_nlt h_13
  refine k_aload_n X dX9_write_14 1 rfl ?_
  refine k_get (ci := 9) X inlX9 rfl 0 (by decide) dX9_write_15 mw53 0 rfl rfl ?_
  refine k_aload_n X dX9_write_18 1 rfl ?_
  refine k_get (ci := 9) X inlX9 rfl 4 (by decide) dX9_write_19 mw59 0 rfl rfl ?_
  refine k_alen 900 0 X dX9_write_22 1 rfl rfl (by show Int32.ofNat 900 = 900; decide) ?_
  refine k_ic_ge 49 X dX9_write_23 (by decide) (fun h_15 => (iv_leN (iv_le h_15) (show IV 900 900 900 from (by decide)) iv_11 (by decide)).elim) (fun h_15 => ?_)
  have j_16 : z_9.toInt < 900 := iv_nle h_15
  refine k_aload_n X dX9_write_26 1 rfl ?_
  refine k_get (ci := 9) X inlX9 rfl 4 (by decide) dX9_write_27 mw59 0 rfl rfl ?_
  refine k_aload_n X dX9_write_30 1 rfl ?_
  refine k_get (ci := 9) X inlX9 rfl 0 (by decide) dX9_write_31 mw53 0 rfl rfl ?_
  refine k_iload_n X dX9_write_34 2 rfl ?_
  refine k_iload_n X dX9_write_35 0 rfl ?_
  refine k_ishr X dX9_write_36 ?_
  refine k_nm (fun z_17 ez_17 => ?_)
  refine k_i2b X dX9_write_37 ?_
  refine k_nm (fun z_18 ez_18 => ?_)
  refine k_bast [(h0, .inr (9, [.int z_9, .ref th, .int xfn, .int xfp, .ref tp, .int xen, .ref nm, .ref nd, .int xkd, .int xsta, .int xpo, .int xva, .long xle, .int xtk, .int xta])), (tp, .inl (g.2.1, 900, .inl (upd fa_8 (z_9 : Int32).toNatClampNeg (vp_nar .byte z_18))))] X dX9_write_38 1 rfl (iv_in iv_11 (by decide) (by decide)) rfl ?_
  refine (fun hg : ∀ fa_19 : Nat → Int32, Wk p l e _ s m args below meth c _ A g _ _ _ [(h0, .inr (9, [.int z_9, .ref th, .int xfn, .int xfp, .ref tp, .int xen, .ref nm, .ref nd, .int xkd, .int xsta, .int xpo, .int xva, .long xle, .int xtk, .int xta])), (tp, .inl (g.2.1, 900, .inl fa_19))] _ _ _ => hg _) (fun fa_19 => ?_)
  refine k_aload_n X dX9_write_39 1 rfl ?_
  refine k_dup X dX9_write_40 rfl ?_
  refine k_get (ci := 9) X inlX9 rfl 0 (by decide) dX9_write_41 mw53 0 rfl rfl ?_
  refine k_iconst (v := 1) X dX9_write_44 (by decide) ?_
  refine k_iadd X dX9_write_45 ?_
  refine k_nm (fun z_20 ez_20 => ?_)
  have i_21 : z_20.toInt = z_9.toInt + 1 := in_add ez_20 iv_11 (show IV 1 1 1 from (by decide)) (by decide) (by decide)
  have iv_22 : IV z_20 2 898 := by have := iv_11; have := (show IV 1 1 1 from (by decide)); rw [IV, i_21]; omega
  refine k_put (ci := 9) [(h0, .inr (9, [.int z_20, .ref th, .int xfn, .int xfp, .ref tp, .int xen, .ref nm, .ref nd, .int xkd, .int xsta, .int xpo, .int xva, .long xle, .int xtk, .int xta])), (tp, .inl (g.2.1, 900, .inl fa_19))] X inlX9 rfl tyX9_ok nmX9 0 (by decide) rfl dX9_write_46 mw53 0 rfl rfl rfl (Nat.le_of_ble_eq_true rfl) rfl ?_
  refine k_iinc (8) [(2, .int 8), (0, .ref h0), (1, .int p0)] 0 X dX9_write_49 rfl (by decide) (by decide) rfl ?_
  refine k_goto 3 X dX9_write_52 (by decide) ?_
  refine k_iload_n X dX9_write_3 0 rfl ?_
  refine k_if_lt 55 X dX9_write_4 (by decide) (fun h_23 => absurd h_23 (by decide)) (fun _ => ?_)
  refine k_aload_n X dX9_write_7 1 rfl ?_
  refine k_get (ci := 9) X inlX9 rfl 0 (by decide) dX9_write_8 mw53 0 rfl rfl ?_
  refine k_if_lt 49 X dX9_write_11 (by decide) (fun h_24 => (iv_ltN (iv_lt h_24) iv_22 (show IV 0 0 0 from (by decide)) (by decide)).elim) (fun h_24 => ?_)
  have j_25 : 0 ≤ z_20.toInt := iv_nlt h_24
  refine k_aload_n X dX9_write_14 1 rfl ?_
  refine k_get (ci := 9) X inlX9 rfl 0 (by decide) dX9_write_15 mw53 0 rfl rfl ?_
  refine k_aload_n X dX9_write_18 1 rfl ?_
  refine k_get (ci := 9) X inlX9 rfl 4 (by decide) dX9_write_19 mw59 0 rfl rfl ?_
  refine k_alen 900 0 X dX9_write_22 1 rfl rfl (by show Int32.ofNat 900 = 900; decide) ?_
  refine k_ic_ge 49 X dX9_write_23 (by decide) (fun h_26 => (iv_leN (iv_le h_26) (show IV 900 900 900 from (by decide)) iv_22 (by decide)).elim) (fun h_26 => ?_)
  have j_27 : z_20.toInt < 900 := iv_nle h_26
  refine k_aload_n X dX9_write_26 1 rfl ?_
  refine k_get (ci := 9) X inlX9 rfl 4 (by decide) dX9_write_27 mw59 0 rfl rfl ?_
  refine k_aload_n X dX9_write_30 1 rfl ?_
  refine k_get (ci := 9) X inlX9 rfl 0 (by decide) dX9_write_31 mw53 0 rfl rfl ?_
  refine k_iload_n X dX9_write_34 2 rfl ?_
  refine k_iload_n X dX9_write_35 0 rfl ?_
  refine k_ishr X dX9_write_36 ?_
  refine k_nm (fun z_28 ez_28 => ?_)
  refine k_i2b X dX9_write_37 ?_
  refine k_nm (fun z_29 ez_29 => ?_)
  refine k_bast [(h0, .inr (9, [.int z_20, .ref th, .int xfn, .int xfp, .ref tp, .int xen, .ref nm, .ref nd, .int xkd, .int xsta, .int xpo, .int xva, .long xle, .int xtk, .int xta])), (tp, .inl (g.2.1, 900, .inl (upd fa_19 (z_20 : Int32).toNatClampNeg (vp_nar .byte z_29))))] X dX9_write_38 1 rfl (iv_in iv_22 (by decide) (by decide)) rfl ?_
  refine (fun hg : ∀ fa_30 : Nat → Int32, Wk p l e _ s m args below meth c _ A g _ _ _ [(h0, .inr (9, [.int z_20, .ref th, .int xfn, .int xfp, .ref tp, .int xen, .ref nm, .ref nd, .int xkd, .int xsta, .int xpo, .int xva, .long xle, .int xtk, .int xta])), (tp, .inl (g.2.1, 900, .inl fa_30))] _ _ _ => hg _) (fun fa_30 => ?_)
  refine k_aload_n X dX9_write_39 1 rfl ?_
  refine k_dup X dX9_write_40 rfl ?_
  refine k_get (ci := 9) X inlX9 rfl 0 (by decide) dX9_write_41 mw53 0 rfl rfl ?_
  refine k_iconst (v := 1) X dX9_write_44 (by decide) ?_
  refine k_iadd X dX9_write_45 ?_
  refine k_nm (fun z_31 ez_31 => ?_)
  have i_32 : z_31.toInt = z_20.toInt + 1 := in_add ez_31 iv_22 (show IV 1 1 1 from (by decide)) (by decide) (by decide)
  have iv_33 : IV z_31 3 899 := by have := iv_22; have := (show IV 1 1 1 from (by decide)); rw [IV, i_32]; omega
  refine k_put (ci := 9) [(h0, .inr (9, [.int z_31, .ref th, .int xfn, .int xfp, .ref tp, .int xen, .ref nm, .ref nd, .int xkd, .int xsta, .int xpo, .int xva, .long xle, .int xtk, .int xta])), (tp, .inl (g.2.1, 900, .inl fa_30))] X inlX9 rfl tyX9_ok nmX9 0 (by decide) rfl dX9_write_46 mw53 0 rfl rfl rfl (Nat.le_of_ble_eq_true rfl) rfl ?_
  refine k_iinc (0) [(2, .int 0), (0, .ref h0), (1, .int p0)] 0 X dX9_write_49 rfl (by decide) (by decide) rfl ?_
  refine k_goto 3 X dX9_write_52 (by decide) ?_
  refine k_iload_n X dX9_write_3 0 rfl ?_
  refine k_if_lt 55 X dX9_write_4 (by decide) (fun h_34 => absurd h_34 (by decide)) (fun _ => ?_)
  refine k_aload_n X dX9_write_7 1 rfl ?_
  refine k_get (ci := 9) X inlX9 rfl 0 (by decide) dX9_write_8 mw53 0 rfl rfl ?_
  refine k_if_lt 49 X dX9_write_11 (by decide) (fun h_35 => (iv_ltN (iv_lt h_35) iv_33 (show IV 0 0 0 from (by decide)) (by decide)).elim) (fun h_35 => ?_)
  have j_36 : 0 ≤ z_31.toInt := iv_nlt h_35
  refine k_aload_n X dX9_write_14 1 rfl ?_
  refine k_get (ci := 9) X inlX9 rfl 0 (by decide) dX9_write_15 mw53 0 rfl rfl ?_
  refine k_aload_n X dX9_write_18 1 rfl ?_
  refine k_get (ci := 9) X inlX9 rfl 4 (by decide) dX9_write_19 mw59 0 rfl rfl ?_
  refine k_alen 900 0 X dX9_write_22 1 rfl rfl (by show Int32.ofNat 900 = 900; decide) ?_
  refine k_ic_ge 49 X dX9_write_23 (by decide) (fun h_37 => (iv_leN (iv_le h_37) (show IV 900 900 900 from (by decide)) iv_33 (by decide)).elim) (fun h_37 => ?_)
  have j_38 : z_31.toInt < 900 := iv_nle h_37
  refine k_aload_n X dX9_write_26 1 rfl ?_
  refine k_get (ci := 9) X inlX9 rfl 4 (by decide) dX9_write_27 mw59 0 rfl rfl ?_
  refine k_aload_n X dX9_write_30 1 rfl ?_
  refine k_get (ci := 9) X inlX9 rfl 0 (by decide) dX9_write_31 mw53 0 rfl rfl ?_
  refine k_iload_n X dX9_write_34 2 rfl ?_
  refine k_iload_n X dX9_write_35 0 rfl ?_
  refine k_ishr X dX9_write_36 ?_
  refine k_nm (fun z_39 ez_39 => ?_)
  refine k_i2b X dX9_write_37 ?_
  refine k_nm (fun z_40 ez_40 => ?_)
  refine k_bast [(h0, .inr (9, [.int z_31, .ref th, .int xfn, .int xfp, .ref tp, .int xen, .ref nm, .ref nd, .int xkd, .int xsta, .int xpo, .int xva, .long xle, .int xtk, .int xta])), (tp, .inl (g.2.1, 900, .inl (upd fa_30 (z_31 : Int32).toNatClampNeg (vp_nar .byte z_40))))] X dX9_write_38 1 rfl (iv_in iv_33 (by decide) (by decide)) rfl ?_
  refine (fun hg : ∀ fa_41 : Nat → Int32, Wk p l e _ s m args below meth c _ A g _ _ _ [(h0, .inr (9, [.int z_31, .ref th, .int xfn, .int xfp, .ref tp, .int xen, .ref nm, .ref nd, .int xkd, .int xsta, .int xpo, .int xva, .long xle, .int xtk, .int xta])), (tp, .inl (g.2.1, 900, .inl fa_41))] _ _ _ => hg _) (fun fa_41 => ?_)
  refine k_aload_n X dX9_write_39 1 rfl ?_
  refine k_dup X dX9_write_40 rfl ?_
  refine k_get (ci := 9) X inlX9 rfl 0 (by decide) dX9_write_41 mw53 0 rfl rfl ?_
  refine k_iconst (v := 1) X dX9_write_44 (by decide) ?_
  refine k_iadd X dX9_write_45 ?_
  refine k_nm (fun z_42 ez_42 => ?_)
  have i_43 : z_42.toInt = z_31.toInt + 1 := in_add ez_42 iv_33 (show IV 1 1 1 from (by decide)) (by decide) (by decide)
  have iv_44 : IV z_42 4 900 := by have := iv_33; have := (show IV 1 1 1 from (by decide)); rw [IV, i_43]; omega
  refine k_put (ci := 9) [(h0, .inr (9, [.int z_42, .ref th, .int xfn, .int xfp, .ref tp, .int xen, .ref nm, .ref nd, .int xkd, .int xsta, .int xpo, .int xva, .long xle, .int xtk, .int xta])), (tp, .inl (g.2.1, 900, .inl fa_41))] X inlX9 rfl tyX9_ok nmX9 0 (by decide) rfl dX9_write_46 mw53 0 rfl rfl rfl (Nat.le_of_ble_eq_true rfl) rfl ?_
  refine k_iinc (-8) [(2, .int (-8)), (0, .ref h0), (1, .int p0)] 0 X dX9_write_49 rfl (by decide) (by decide) rfl ?_
  refine k_goto 3 X dX9_write_52 (by decide) ?_
  refine k_iload_n X dX9_write_3 0 rfl ?_
  refine k_if_lt 55 X dX9_write_4 (by decide) (fun _ => ?_) (fun h_45 => absurd (by decide) h_45)
  exact k_vret X hr dX9_write_55 (Nat.le_of_ble_eq_true rfl) (Nat.le_of_ble_eq_true rfl) [0, 1] (by decide) rfl rfl ⟨z_42, fa_41, (iv_w iv_44 (by decide) (by decide)), (by omega), rfl⟩

theorem dX10_feed_0 : decode cX10_feed 0 = .ok (.aload_n 0, 1) := by decide +kernel
theorem dX10_feed_1 : decode cX10_feed 1 = .ok (.getfield 10, 3) := by decide +kernel
theorem dX10_feed_4 : decode cX10_feed 4 = .ok (.getfield 76, 3) := by decide +kernel
theorem dX10_feed_7 : decode cX10_feed 7 = .ok (.bipush 20, 2) := by decide +kernel
theorem dX10_feed_9 : decode cX10_feed 9 = .ok (.iadd, 1) := by decide +kernel
theorem dX10_feed_10 : decode cX10_feed 10 = .ok (.sipush 900, 3) := by decide +kernel
theorem dX10_feed_13 : decode cX10_feed 13 = .ok (.if_icmp .le 5, 3) := by decide +kernel
theorem dX10_feed_16 : decode cX10_feed 16 = .ok (.iconst (-1), 1) := by decide +kernel
theorem dX10_feed_17 : decode cX10_feed 17 = .ok (.ireturn, 1) := by decide +kernel
theorem dX10_feed_18 : decode cX10_feed 18 = .ok (.aload_n 0, 1) := by decide +kernel
theorem dX10_feed_19 : decode cX10_feed 19 = .ok (.getfield 10, 3) := by decide +kernel
theorem dX10_feed_22 : decode cX10_feed 22 = .ok (.iload_n 1, 1) := by decide +kernel
theorem dX10_feed_23 : decode cX10_feed 23 = .ok (.invokevirtual 79, 3) := by decide +kernel
theorem dX10_feed_26 : decode cX10_feed 26 = .ok (.aload_n 0, 1) := by decide +kernel
theorem dX10_feed_27 : decode cX10_feed 27 = .ok (.getfield 10, 3) := by decide +kernel
theorem dX10_feed_30 : decode cX10_feed 30 = .ok (.iload_n 2, 1) := by decide +kernel
theorem dX10_feed_31 : decode cX10_feed 31 = .ok (.invokevirtual 79, 3) := by decide +kernel
theorem dX10_feed_34 : decode cX10_feed 34 = .ok (.aload_n 0, 1) := by decide +kernel
theorem dX10_feed_35 : decode cX10_feed 35 = .ok (.getfield 10, 3) := by decide +kernel
theorem dX10_feed_38 : decode cX10_feed 38 = .ok (.iload_n 3, 1) := by decide +kernel
theorem dX10_feed_39 : decode cX10_feed 39 = .ok (.invokevirtual 79, 3) := by decide +kernel
theorem dX10_feed_42 : decode cX10_feed 42 = .ok (.aload_n 0, 1) := by decide +kernel
theorem dX10_feed_43 : decode cX10_feed 43 = .ok (.getfield 10, 3) := by decide +kernel
theorem dX10_feed_46 : decode cX10_feed 46 = .ok (.iload 4, 2) := by decide +kernel
theorem dX10_feed_48 : decode cX10_feed 48 = .ok (.invokevirtual 79, 3) := by decide +kernel
theorem dX10_feed_51 : decode cX10_feed 51 = .ok (.aload_n 0, 1) := by decide +kernel
theorem dX10_feed_52 : decode cX10_feed 52 = .ok (.getfield 10, 3) := by decide +kernel
theorem dX10_feed_55 : decode cX10_feed 55 = .ok (.iload 5, 2) := by decide +kernel
theorem dX10_feed_57 : decode cX10_feed 57 = .ok (.invokevirtual 79, 3) := by decide +kernel
theorem dX10_feed_60 : decode cX10_feed 60 = .ok (.aload_n 0, 1) := by decide +kernel
theorem dX10_feed_61 : decode cX10_feed 61 = .ok (.getfield 10, 3) := by decide +kernel
theorem dX10_feed_64 : decode cX10_feed 64 = .ok (.getfield 76, 3) := by decide +kernel
theorem dX10_feed_67 : decode cX10_feed 67 = .ok (.ireturn, 1) := by decide +kernel
set_option maxHeartbeats 4000000 in
set_option maxRecDepth 100000 in
theorem c_feed (l : Launch) (g : Gx) (h0 : Nat) (p0 : Int32) (p1 : Int32) (p2 : Int32) (p3 : Int32) (p4 : Int32) (tt : Nat) (v1h0 : Value) (v2h0 : Value) (v3h0 : Value) (v4h0 : Value) (v5h0 : Value) (v6h0 : Value) (v7h0 : Value) (v8h0 : Value) (tr : Int32) (xtpd : Int32) (th : Nat) (xfn : Int32) (xfp : Int32) (tp : Nat) (xen : Int32) (nm : Nat) (nd : Nat) (xkd : Int32) (xsta : Int32) (xpo : Int32) (xva : Int32) (xle : Int64) (xtk : Int32) (xta : Int32) (tpf : Nat → Int32) (hv_xtpd : IV xtpd 0 900) : cI l g yX10_feed cX10_feed 6 (some .int) 1 22 0 0 [.ref h0, .int p0, .int p1, .int p2, .int p3, .int p4] [(h0, .inr (10, [.ref tt, v1h0, v2h0, v3h0, v4h0, v5h0, v6h0, v7h0, v8h0, .int tr])), (tt, .inr (9, [.int xtpd, .ref th, .int xfn, .int xfp, .ref tp, .int xen, .ref nm, .ref nd, .int xkd, .int xsta, .int xpo, .int xva, .long xle, .int xtk, .int xta])), (tp, .inl (g.2.1, 900, .inl tpf))] (fun r w => ∃ (xtpd2 : Int32) (tpf2 : Nat → Int32), IV xtpd2 0 900 ∧ ((900 < xtpd.toInt + 20 → r = -1 ∧ xtpd2 = xtpd) ∧ (xtpd.toInt + 20 ≤ 900 → r = xtpd2 ∧ xtpd2.toInt = xtpd.toInt + 20)) ∧ w = [(h0, .inr (10, [.ref tt, v1h0, v2h0, v3h0, v4h0, v5h0, v6h0, v7h0, v8h0, .int tr])), (tt, .inr (9, [.int xtpd2, .ref th, .int xfn, .int xfp, .ref tp, .int xen, .ref nm, .ref nd, .int xkd, .int xsta, .int xpo, .int xva, .long xle, .int xtk, .int xta])), (tp, .inl (g.2.1, 900, .inl tpf2))]) := by
  refine cI.of (by decide) (Nat.le_of_ble_eq_true rfl) ?_
  intro p e s m args below meth c A X hr hi
  refine k_lveq [(0, .ref h0), (1, .int p0), (2, .int p1), (3, .int p2), (4, .int p3), (5, .int p4)] rfl ?_
  refine k_aload_n X dX10_feed_0 0 rfl ?_
  refine k_get (ci := 10) X inlX10 rfl 0 (by decide) dX10_feed_1 mw16 0 rfl rfl ?_
  refine k_get (ci := 9) X inlX9 rfl 0 (by decide) dX10_feed_4 mw195 1 rfl rfl ?_
  refine k_bipush (v := 20) X dX10_feed_7 (by decide) ?_
  refine k_iadd X dX10_feed_9 ?_
  refine k_nm (fun z_1 ez_1 => ?_)
  have i_2 : z_1.toInt = xtpd.toInt + 20 := in_add ez_1 hv_xtpd (show IV 20 20 20 from (by decide)) (by decide) (by decide)
  have iv_3 : IV z_1 20 920 := by have := hv_xtpd; have := (show IV 20 20 20 from (by decide)); rw [IV, i_2]; omega
  refine k_sipush (v := 900) X dX10_feed_10 (by decide) ?_
  refine k_ic_le 18 X dX10_feed_13 (by decide) (fun h_4 => ?_) (fun h_4 => ?_)
  · skip
    have j_5 : z_1.toInt ≤ 900 := iv_le h_4
    have iv_6 : IV z_1 20 900 := iv_leL (iv_le h_4) iv_3 (show IV 900 900 900 from (by decide)) (by decide)
    have iv_7 : IV xtpd 0 880 := by have := hv_xtpd; have := iv_6; rw [IV]; omega
    refine k_aload_n X dX10_feed_18 0 rfl ?_
    refine k_get (ci := 10) X inlX10 rfl 0 (by decide) dX10_feed_19 mw16 0 rfl rfl ?_
    refine k_iload_n X dX10_feed_22 1 rfl ?_
    refine k_callVV (n := 1) (As := [.int p0]) (st := []) X [(tt, .inr (9, [.int xtpd, .ref th, .int xfn, .int xfp, .ref tp, .int xen, .ref nm, .ref nd, .int xkd, .int xsta, .int xpo, .int xva, .long xle, .int xtk, .int xta])), (tp, .inl (g.2.1, 900, .inl tpf))] [(h0, .inr (10, [.ref tt, v1h0, v2h0, v3h0, v4h0, v5h0, v6h0, v7h0, v8h0, .int tr]))] [1, 2] [0] (x_write l g tt p0 xtpd th xfn xfp tp xen nm nd xkd xsta xpo xva xle xtk xta tpf (iv_w iv_7 (by decide) (by decide))) dX10_feed_23 mw196 mw197 mw198 mw15 mw199 rfl 9 rfl rfl 0 _ rfl (by unfold yOk; decide) rfl (Nat.le_of_ble_eq_true rfl) (Nat.le_of_ble_eq_true rfl) (Nat.le_of_ble_eq_true rfl) (Nat.le_of_ble_eq_true rfl) (Nat.le_of_ble_eq_true rfl) rfl rfl (by decide) rfl (by decide) (by decide) ?_
    rintro w ⟨xtpd2_8, tpf2_9, iv_11, hq_12, rfl⟩
    refine k_ws [(h0, .inr (10, [.ref tt, v1h0, v2h0, v3h0, v4h0, v5h0, v6h0, v7h0, v8h0, .int tr])), (tt, .inr (9, [.int xtpd2_8, .ref th, .int xfn, .int xfp, .ref tp, .int xen, .ref nm, .ref nd, .int xkd, .int xsta, .int xpo, .int xva, .long xle, .int xtk, .int xta])), (tp, .inl (g.2.1, 900, .inl tpf2_9))] rfl ?_
    have iv_13 : IV xtpd2_8 4 884 := by have := iv_11; have := hv_xtpd; rw [IV]; omega
    refine k_aload_n X dX10_feed_26 0 rfl ?_
    refine k_get (ci := 10) X inlX10 rfl 0 (by decide) dX10_feed_27 mw16 0 rfl rfl ?_
    refine k_iload_n X dX10_feed_30 2 rfl ?_
    refine k_callVV (n := 1) (As := [.int p1]) (st := []) X [(tt, .inr (9, [.int xtpd2_8, .ref th, .int xfn, .int xfp, .ref tp, .int xen, .ref nm, .ref nd, .int xkd, .int xsta, .int xpo, .int xva, .long xle, .int xtk, .int xta])), (tp, .inl (g.2.1, 900, .inl tpf2_9))] [(h0, .inr (10, [.ref tt, v1h0, v2h0, v3h0, v4h0, v5h0, v6h0, v7h0, v8h0, .int tr]))] [1, 2] [0] (x_write l g tt p1 xtpd2_8 th xfn xfp tp xen nm nd xkd xsta xpo xva xle xtk xta tpf2_9 (iv_w iv_13 (by decide) (by decide))) dX10_feed_31 mw196 mw197 mw198 mw15 mw199 rfl 9 rfl rfl 0 _ rfl (by unfold yOk; decide) rfl (Nat.le_of_ble_eq_true rfl) (Nat.le_of_ble_eq_true rfl) (Nat.le_of_ble_eq_true rfl) (Nat.le_of_ble_eq_true rfl) (Nat.le_of_ble_eq_true rfl) rfl rfl (by decide) rfl (by decide) (by decide) ?_
    rintro w ⟨xtpd2_14, tpf2_15, iv_17, hq_18, rfl⟩
    refine k_ws [(h0, .inr (10, [.ref tt, v1h0, v2h0, v3h0, v4h0, v5h0, v6h0, v7h0, v8h0, .int tr])), (tt, .inr (9, [.int xtpd2_14, .ref th, .int xfn, .int xfp, .ref tp, .int xen, .ref nm, .ref nd, .int xkd, .int xsta, .int xpo, .int xva, .long xle, .int xtk, .int xta])), (tp, .inl (g.2.1, 900, .inl tpf2_15))] rfl ?_
    have iv_19 : IV xtpd2_14 8 888 := by have := iv_17; have := hv_xtpd; rw [IV]; omega
    refine k_aload_n X dX10_feed_34 0 rfl ?_
    refine k_get (ci := 10) X inlX10 rfl 0 (by decide) dX10_feed_35 mw16 0 rfl rfl ?_
    refine k_iload_n X dX10_feed_38 3 rfl ?_
    refine k_callVV (n := 1) (As := [.int p2]) (st := []) X [(tt, .inr (9, [.int xtpd2_14, .ref th, .int xfn, .int xfp, .ref tp, .int xen, .ref nm, .ref nd, .int xkd, .int xsta, .int xpo, .int xva, .long xle, .int xtk, .int xta])), (tp, .inl (g.2.1, 900, .inl tpf2_15))] [(h0, .inr (10, [.ref tt, v1h0, v2h0, v3h0, v4h0, v5h0, v6h0, v7h0, v8h0, .int tr]))] [1, 2] [0] (x_write l g tt p2 xtpd2_14 th xfn xfp tp xen nm nd xkd xsta xpo xva xle xtk xta tpf2_15 (iv_w iv_19 (by decide) (by decide))) dX10_feed_39 mw196 mw197 mw198 mw15 mw199 rfl 9 rfl rfl 0 _ rfl (by unfold yOk; decide) rfl (Nat.le_of_ble_eq_true rfl) (Nat.le_of_ble_eq_true rfl) (Nat.le_of_ble_eq_true rfl) (Nat.le_of_ble_eq_true rfl) (Nat.le_of_ble_eq_true rfl) rfl rfl (by decide) rfl (by decide) (by decide) ?_
    rintro w ⟨xtpd2_20, tpf2_21, iv_23, hq_24, rfl⟩
    refine k_ws [(h0, .inr (10, [.ref tt, v1h0, v2h0, v3h0, v4h0, v5h0, v6h0, v7h0, v8h0, .int tr])), (tt, .inr (9, [.int xtpd2_20, .ref th, .int xfn, .int xfp, .ref tp, .int xen, .ref nm, .ref nd, .int xkd, .int xsta, .int xpo, .int xva, .long xle, .int xtk, .int xta])), (tp, .inl (g.2.1, 900, .inl tpf2_21))] rfl ?_
    have iv_25 : IV xtpd2_20 12 892 := by have := iv_23; have := hv_xtpd; rw [IV]; omega
    refine k_aload_n X dX10_feed_42 0 rfl ?_
    refine k_get (ci := 10) X inlX10 rfl 0 (by decide) dX10_feed_43 mw16 0 rfl rfl ?_
    refine k_iload X dX10_feed_46 4 rfl ?_
    refine k_callVV (n := 1) (As := [.int p3]) (st := []) X [(tt, .inr (9, [.int xtpd2_20, .ref th, .int xfn, .int xfp, .ref tp, .int xen, .ref nm, .ref nd, .int xkd, .int xsta, .int xpo, .int xva, .long xle, .int xtk, .int xta])), (tp, .inl (g.2.1, 900, .inl tpf2_21))] [(h0, .inr (10, [.ref tt, v1h0, v2h0, v3h0, v4h0, v5h0, v6h0, v7h0, v8h0, .int tr]))] [1, 2] [0] (x_write l g tt p3 xtpd2_20 th xfn xfp tp xen nm nd xkd xsta xpo xva xle xtk xta tpf2_21 (iv_w iv_25 (by decide) (by decide))) dX10_feed_48 mw196 mw197 mw198 mw15 mw199 rfl 9 rfl rfl 0 _ rfl (by unfold yOk; decide) rfl (Nat.le_of_ble_eq_true rfl) (Nat.le_of_ble_eq_true rfl) (Nat.le_of_ble_eq_true rfl) (Nat.le_of_ble_eq_true rfl) (Nat.le_of_ble_eq_true rfl) rfl rfl (by decide) rfl (by decide) (by decide) ?_
    rintro w ⟨xtpd2_26, tpf2_27, iv_29, hq_30, rfl⟩
    refine k_ws [(h0, .inr (10, [.ref tt, v1h0, v2h0, v3h0, v4h0, v5h0, v6h0, v7h0, v8h0, .int tr])), (tt, .inr (9, [.int xtpd2_26, .ref th, .int xfn, .int xfp, .ref tp, .int xen, .ref nm, .ref nd, .int xkd, .int xsta, .int xpo, .int xva, .long xle, .int xtk, .int xta])), (tp, .inl (g.2.1, 900, .inl tpf2_27))] rfl ?_
    have iv_31 : IV xtpd2_26 16 896 := by have := iv_29; have := hv_xtpd; rw [IV]; omega
    refine k_aload_n X dX10_feed_51 0 rfl ?_
    refine k_get (ci := 10) X inlX10 rfl 0 (by decide) dX10_feed_52 mw16 0 rfl rfl ?_
    refine k_iload X dX10_feed_55 5 rfl ?_
    refine k_callVV (n := 1) (As := [.int p4]) (st := []) X [(tt, .inr (9, [.int xtpd2_26, .ref th, .int xfn, .int xfp, .ref tp, .int xen, .ref nm, .ref nd, .int xkd, .int xsta, .int xpo, .int xva, .long xle, .int xtk, .int xta])), (tp, .inl (g.2.1, 900, .inl tpf2_27))] [(h0, .inr (10, [.ref tt, v1h0, v2h0, v3h0, v4h0, v5h0, v6h0, v7h0, v8h0, .int tr]))] [1, 2] [0] (x_write l g tt p4 xtpd2_26 th xfn xfp tp xen nm nd xkd xsta xpo xva xle xtk xta tpf2_27 (iv_w iv_31 (by decide) (by decide))) dX10_feed_57 mw196 mw197 mw198 mw15 mw199 rfl 9 rfl rfl 0 _ rfl (by unfold yOk; decide) rfl (Nat.le_of_ble_eq_true rfl) (Nat.le_of_ble_eq_true rfl) (Nat.le_of_ble_eq_true rfl) (Nat.le_of_ble_eq_true rfl) (Nat.le_of_ble_eq_true rfl) rfl rfl (by decide) rfl (by decide) (by decide) ?_
    rintro w ⟨xtpd2_32, tpf2_33, iv_35, hq_36, rfl⟩
    refine k_ws [(h0, .inr (10, [.ref tt, v1h0, v2h0, v3h0, v4h0, v5h0, v6h0, v7h0, v8h0, .int tr])), (tt, .inr (9, [.int xtpd2_32, .ref th, .int xfn, .int xfp, .ref tp, .int xen, .ref nm, .ref nd, .int xkd, .int xsta, .int xpo, .int xva, .long xle, .int xtk, .int xta])), (tp, .inl (g.2.1, 900, .inl tpf2_33))] rfl ?_
    have iv_37 : IV xtpd2_32 20 900 := by have := iv_35; have := hv_xtpd; rw [IV]; omega
    refine k_aload_n X dX10_feed_60 0 rfl ?_
    refine k_get (ci := 10) X inlX10 rfl 0 (by decide) dX10_feed_61 mw16 0 rfl rfl ?_
    refine k_get (ci := 9) X inlX9 rfl 0 (by decide) dX10_feed_64 mw195 1 rfl rfl ?_
    exact k_iret X hr dX10_feed_67 (Nat.le_of_ble_eq_true rfl) (Nat.le_of_ble_eq_true rfl) [0, 1, 2] (by decide) rfl rfl ⟨xtpd2_32, tpf2_33, (iv_w iv_37 (by decide) (by decide)), (by refine ⟨fun q => ?_, fun q => ?_⟩ <;> first | exact ⟨rfl, rfl⟩ | exact ⟨rfl, by omega⟩ | (exfalso; omega)), rfl⟩
  · skip
    have j_38 : 900 < z_1.toInt := iv_nle h_4
    have iv_39 : IV z_1 901 920 := iv_ltR (iv_nle h_4) (show IV 900 900 900 from (by decide)) iv_3 (by decide)
    have iv_40 : IV xtpd 881 900 := by have := hv_xtpd; have := iv_39; rw [IV]; omega
    refine k_iconst (v := -1) X dX10_feed_16 (by decide) ?_
    exact k_iret X hr dX10_feed_17 (Nat.le_of_ble_eq_true rfl) (Nat.le_of_ble_eq_true rfl) [0, 1, 2] (by decide) rfl rfl ⟨xtpd, tpf, (iv_w iv_40 (by decide) (by decide)), (by refine ⟨fun q => ?_, fun q => ?_⟩ <;> first | exact ⟨rfl, rfl⟩ | exact ⟨rfl, by omega⟩ | (exfalso; omega)), rfl⟩

theorem dX9_read_0 : decode cX9_read 0 = .ok (.aload_n 0, 1) := by decide +kernel
theorem dX9_read_1 : decode cX9_read 1 = .ok (.iconst 0, 1) := by decide +kernel
theorem dX9_read_2 : decode cX9_read 2 = .ok (.putfield 9, 3) := by decide +kernel
theorem dX9_read_5 : decode cX9_read 5 = .ok (.aload_n 0, 1) := by decide +kernel
theorem dX9_read_6 : decode cX9_read 6 = .ok (.iload_n 1, 1) := by decide +kernel
theorem dX9_read_7 : decode cX9_read 7 = .ok (.putfield 32, 3) := by decide +kernel
theorem dX9_read_10 : decode cX9_read 10 = .ok (.aload_n 0, 1) := by decide +kernel
theorem dX9_read_11 : decode cX9_read 11 = .ok (.iconst 0, 1) := by decide +kernel
theorem dX9_read_12 : decode cX9_read 12 = .ok (.putfield 54, 3) := by decide +kernel
theorem dX9_read_15 : decode cX9_read 15 = .ok (.aload_n 0, 1) := by decide +kernel
theorem dX9_read_16 : decode cX9_read 16 = .ok (.getfield 18, 3) := by decide +kernel
theorem dX9_read_19 : decode cX9_read 19 = .ok (.invokevirtual 70, 3) := by decide +kernel
theorem dX9_read_22 : decode cX9_read 22 = .ok (.aload_n 0, 1) := by decide +kernel
theorem dX9_read_23 : decode cX9_read 23 = .ok (.getfield 44, 3) := by decide +kernel
theorem dX9_read_26 : decode cX9_read 26 = .ok (.invokevirtual 73, 3) := by decide +kernel
theorem dX9_read_29 : decode cX9_read 29 = .ok (.aload_n 0, 1) := by decide +kernel
theorem dX9_read_30 : decode cX9_read 30 = .ok (.iconst 0, 1) := by decide +kernel
theorem dX9_read_31 : decode cX9_read 31 = .ok (.putfield 22, 3) := by decide +kernel
theorem dX9_read_34 : decode cX9_read 34 = .ok (.aload_n 0, 1) := by decide +kernel
theorem dX9_read_35 : decode cX9_read 35 = .ok (.iconst 0, 1) := by decide +kernel
theorem dX9_read_36 : decode cX9_read 36 = .ok (.putfield 25, 3) := by decide +kernel
theorem dX9_read_39 : decode cX9_read 39 = .ok (.aload_n 0, 1) := by decide +kernel
theorem dX9_read_40 : decode cX9_read 40 = .ok (.invokevirtual 74, 3) := by decide +kernel
theorem dX9_read_43 : decode cX9_read 43 = .ok (.iconst 1, 1) := by decide +kernel
theorem dX9_read_44 : decode cX9_read 44 = .ok (.istore_n 2, 1) := by decide +kernel
theorem dX9_read_45 : decode cX9_read 45 = .ok (.iconst 0, 1) := by decide +kernel
theorem dX9_read_46 : decode cX9_read 46 = .ok (.istore_n 3, 1) := by decide +kernel
theorem dX9_read_47 : decode cX9_read 47 = .ok (.iload_n 2, 1) := by decide +kernel
theorem dX9_read_48 : decode cX9_read 48 = .ok (.ifCond .eq 37, 3) := by decide +kernel
theorem dX9_read_51 : decode cX9_read 51 = .ok (.iload_n 3, 1) := by decide +kernel
theorem dX9_read_52 : decode cX9_read 52 = .ok (.aload_n 0, 1) := by decide +kernel
theorem dX9_read_53 : decode cX9_read 53 = .ok (.getfield 32, 3) := by decide +kernel
theorem dX9_read_56 : decode cX9_read 56 = .ok (.if_icmp .gt 29, 3) := by decide +kernel
theorem dX9_read_59 : decode cX9_read 59 = .ok (.aload_n 0, 1) := by decide +kernel
theorem dX9_read_60 : decode cX9_read 60 = .ok (.invokevirtual 77, 3) := by decide +kernel
theorem dX9_read_63 : decode cX9_read 63 = .ok (.ifCond .eq 14, 3) := by decide +kernel
theorem dX9_read_66 : decode cX9_read 66 = .ok (.aload_n 0, 1) := by decide +kernel
theorem dX9_read_67 : decode cX9_read 67 = .ok (.invokevirtual 81, 3) := by decide +kernel
theorem dX9_read_70 : decode cX9_read 70 = .ok (.ifCond .eq 7, 3) := by decide +kernel
theorem dX9_read_73 : decode cX9_read 73 = .ok (.iconst 1, 1) := by decide +kernel
theorem dX9_read_74 : decode cX9_read 74 = .ok (.goto 4, 3) := by decide +kernel
theorem dX9_read_77 : decode cX9_read 77 = .ok (.iconst 0, 1) := by decide +kernel
theorem dX9_read_78 : decode cX9_read 78 = .ok (.istore_n 2, 1) := by decide +kernel
theorem dX9_read_79 : decode cX9_read 79 = .ok (.iinc 3 1, 3) := by decide +kernel
theorem dX9_read_82 : decode cX9_read 82 = .ok (.goto (-35), 3) := by decide +kernel
theorem dX9_read_85 : decode cX9_read 85 = .ok (.return_, 1) := by decide +kernel
set_option maxHeartbeats 4000000 in
set_option maxRecDepth 100000 in
theorem x_read (l : Launch) (g : Gx) (h0 : Nat) (p0 : Int32) (xtpd : Int32) (th : Nat) (xfn : Int32) (xfp : Int32) (tp : Nat) (xen : Int32) (nm : Nat) (nd : Nat) (xkd : Int32) (xsta : Int32) (xpo : Int32) (xva : Int32) (xle : Int64) (xtk : Int32) (xta : Int32) (tpf : Nat → Int32) (nmf : Nat → Int64) (ndc : Nat) (ndn : Int32) (ndf : Nat → Int32) (qs : Nat) (qhn : Nat) (qht : Nat) (qhj : Nat) (qhm : Nat) (qhb : Nat) (qhs : Nat) (qhc : Nat) (qr : Nat) (qm : Nat) (qw : Nat) (qp : Nat) (qmd : Int32) (qtr : Int32) (qrc : Nat) (qrn : Int32) (qrf : Nat → Int32) (qmc : Nat) (qmn : Int32) (qmf : Nat → Int32) (qwc : Nat) (qwn : Int32) (qwf : Nat → Int32) (qpc : Nat) (qpn : Int32) (qpf : Nat → Int32) (qhnc : Nat) (qhnn : Int32) (qhnf : Nat → Int32) (qhtc : Nat) (qhtn : Int32) (qhtf : Nat → Int32) (qhjc : Nat) (qhjn : Int32) (qhjf : Nat → Int32) (qhmc : Nat) (qhmn : Int32) (qhmf : Nat → Int32) (qhbc : Nat) (qhbn : Int32) (qhbf : Nat → Int32) (qhsc : Nat) (qhsn : Int32) (qhsf : Nat → Int32) (qhcc : Nat) (qhcn : Int32) (qhcf : Nat → Int32) (hv_p0 : IV p0 0 900) : cV l g yX9_read cX9_read 4 9 193 0 0 [.ref h0, .int p0] [(h0, .inr (9, [.int xtpd, .ref th, .int xfn, .int xfp, .ref tp, .int xen, .ref nm, .ref nd, .int xkd, .int xsta, .int xpo, .int xva, .long xle, .int xtk, .int xta])), (tp, .inl (g.2.1, 900, .inl tpf)), (nm, .inl (g.2.2.2.1, 16, .inr (.inl nmf))), (nd, .inr (8, [.int 16, .int 2, .ref ndc, .int ndn])), (ndc, .inl (g.2.2.1, 32, .inl ndf)), (th, .inr (3, [.ref qs, .ref qhn, .ref qht, .ref qhj, .ref qhm, .ref qhb, .ref qhs, .ref qhc])), (qs, .inr (7, [.ref qr, .ref qm, .ref qw, .ref qp, .int qmd, .int qtr])), (qr, .inr (8, [.int 8, .int 3, .ref qrc, .int qrn])), (qrc, .inl (g.2.2.1, 24, .inl qrf)), (qm, .inr (8, [.int 12, .int 3, .ref qmc, .int qmn])), (qmc, .inl (g.2.2.1, 36, .inl qmf)), (qw, .inr (8, [.int 6, .int 3, .ref qwc, .int qwn])), (qwc, .inl (g.2.2.1, 18, .inl qwf)), (qp, .inr (8, [.int 8, .int 2, .ref qpc, .int qpn])), (qpc, .inl (g.2.2.1, 16, .inl qpf)), (qhn, .inr (8, [.int 1, .int 6, .ref qhnc, .int qhnn])), (qhnc, .inl (g.2.2.1, 6, .inl qhnf)), (qht, .inr (8, [.int 4, .int 1, .ref qhtc, .int qhtn])), (qhtc, .inl (g.2.2.1, 4, .inl qhtf)), (qhj, .inr (8, [.int 8, .int 2, .ref qhjc, .int qhjn])), (qhjc, .inl (g.2.2.1, 16, .inl qhjf)), (qhm, .inr (8, [.int 4, .int 3, .ref qhmc, .int qhmn])), (qhmc, .inl (g.2.2.1, 12, .inl qhmf)), (qhb, .inr (8, [.int 1, .int 3, .ref qhbc, .int qhbn])), (qhbc, .inl (g.2.2.1, 3, .inl qhbf)), (qhs, .inr (8, [.int 6, .int 3, .ref qhsc, .int qhsn])), (qhsc, .inl (g.2.2.1, 18, .inl qhsf)), (qhc, .inr (8, [.int 6, .int 2, .ref qhcc, .int qhcn])), (qhcc, .inl (g.2.2.1, 12, .inl qhcf))] (fun w => ∃ (xfn2 : Int32) (xfp2 : Int32) (xkd2 : Int32) (xsta2 : Int32) (xpo2 : Int32) (xva2 : Int32) (xle2 : Int64) (xtk2 : Int32) (xta2 : Int32) (nmfg : Nat → Int64) (ndfg : Nat → Int32) (ndnk : Int32) (qrg : Nat → Int32) (qmg : Nat → Int32) (qwg : Nat → Int32) (qpg : Nat → Int32) (qrk : Int32) (qmk : Int32) (qwk : Int32) (qpk : Int32) (qmd2 : Int32) (qtr2 : Int32) (qhng : Nat → Int32) (qhtg : Nat → Int32) (qhjg : Nat → Int32) (qhmg : Nat → Int32) (qhbg : Nat → Int32) (qhsg : Nat → Int32) (qhcg : Nat → Int32) (qhnk : Int32) (qhtk : Int32) (qhjk : Int32) (qhmk : Int32) (qhbk : Int32) (qhsk : Int32) (qhck : Int32), IV xsta2 0 900 ∧ IV xpo2 0 900 ∧ w = [(h0, .inr (9, [.int 0, .ref th, .int xfn2, .int xfp2, .ref tp, .int p0, .ref nm, .ref nd, .int xkd2, .int xsta2, .int xpo2, .int xva2, .long xle2, .int xtk2, .int xta2])), (tp, .inl (g.2.1, 900, .inl tpf)), (nm, .inl (g.2.2.2.1, 16, .inr (.inl nmfg))), (nd, .inr (8, [.int 16, .int 2, .ref ndc, .int ndnk])), (ndc, .inl (g.2.2.1, 32, .inl ndfg)), (th, .inr (3, [.ref qs, .ref qhn, .ref qht, .ref qhj, .ref qhm, .ref qhb, .ref qhs, .ref qhc])), (qs, .inr (7, [.ref qr, .ref qm, .ref qw, .ref qp, .int qmd2, .int qtr2])), (qr, .inr (8, [.int 8, .int 3, .ref qrc, .int qrk])), (qrc, .inl (g.2.2.1, 24, .inl qrg)), (qm, .inr (8, [.int 12, .int 3, .ref qmc, .int qmk])), (qmc, .inl (g.2.2.1, 36, .inl qmg)), (qw, .inr (8, [.int 6, .int 3, .ref qwc, .int qwk])), (qwc, .inl (g.2.2.1, 18, .inl qwg)), (qp, .inr (8, [.int 8, .int 2, .ref qpc, .int qpk])), (qpc, .inl (g.2.2.1, 16, .inl qpg)), (qhn, .inr (8, [.int 1, .int 6, .ref qhnc, .int qhnk])), (qhnc, .inl (g.2.2.1, 6, .inl qhng)), (qht, .inr (8, [.int 4, .int 1, .ref qhtc, .int qhtk])), (qhtc, .inl (g.2.2.1, 4, .inl qhtg)), (qhj, .inr (8, [.int 8, .int 2, .ref qhjc, .int qhjk])), (qhjc, .inl (g.2.2.1, 16, .inl qhjg)), (qhm, .inr (8, [.int 4, .int 3, .ref qhmc, .int qhmk])), (qhmc, .inl (g.2.2.1, 12, .inl qhmg)), (qhb, .inr (8, [.int 1, .int 3, .ref qhbc, .int qhbk])), (qhbc, .inl (g.2.2.1, 3, .inl qhbg)), (qhs, .inr (8, [.int 6, .int 3, .ref qhsc, .int qhsk])), (qhsc, .inl (g.2.2.1, 18, .inl qhsg)), (qhc, .inr (8, [.int 6, .int 2, .ref qhcc, .int qhck])), (qhcc, .inl (g.2.2.1, 12, .inl qhcg))]) := by
  refine cV.of (by decide) (Nat.le_of_ble_eq_true rfl) ?_
  intro p e s m args below meth c A X hr hi
  refine k_lveq [(0, .ref h0), (1, .int p0)] rfl ?_
  refine k_aload_n X dX9_read_0 0 rfl ?_
  refine k_iconst (v := 0) X dX9_read_1 (by decide) ?_
  refine k_put (ci := 9) [(h0, .inr (9, [.int 0, .ref th, .int xfn, .int xfp, .ref tp, .int xen, .ref nm, .ref nd, .int xkd, .int xsta, .int xpo, .int xva, .long xle, .int xtk, .int xta])), (tp, .inl (g.2.1, 900, .inl tpf)), (nm, .inl (g.2.2.2.1, 16, .inr (.inl nmf))), (nd, .inr (8, [.int 16, .int 2, .ref ndc, .int ndn])), (ndc, .inl (g.2.2.1, 32, .inl ndf)), (th, .inr (3, [.ref qs, .ref qhn, .ref qht, .ref qhj, .ref qhm, .ref qhb, .ref qhs, .ref qhc])), (qs, .inr (7, [.ref qr, .ref qm, .ref qw, .ref qp, .int qmd, .int qtr])), (qr, .inr (8, [.int 8, .int 3, .ref qrc, .int qrn])), (qrc, .inl (g.2.2.1, 24, .inl qrf)), (qm, .inr (8, [.int 12, .int 3, .ref qmc, .int qmn])), (qmc, .inl (g.2.2.1, 36, .inl qmf)), (qw, .inr (8, [.int 6, .int 3, .ref qwc, .int qwn])), (qwc, .inl (g.2.2.1, 18, .inl qwf)), (qp, .inr (8, [.int 8, .int 2, .ref qpc, .int qpn])), (qpc, .inl (g.2.2.1, 16, .inl qpf)), (qhn, .inr (8, [.int 1, .int 6, .ref qhnc, .int qhnn])), (qhnc, .inl (g.2.2.1, 6, .inl qhnf)), (qht, .inr (8, [.int 4, .int 1, .ref qhtc, .int qhtn])), (qhtc, .inl (g.2.2.1, 4, .inl qhtf)), (qhj, .inr (8, [.int 8, .int 2, .ref qhjc, .int qhjn])), (qhjc, .inl (g.2.2.1, 16, .inl qhjf)), (qhm, .inr (8, [.int 4, .int 3, .ref qhmc, .int qhmn])), (qhmc, .inl (g.2.2.1, 12, .inl qhmf)), (qhb, .inr (8, [.int 1, .int 3, .ref qhbc, .int qhbn])), (qhbc, .inl (g.2.2.1, 3, .inl qhbf)), (qhs, .inr (8, [.int 6, .int 3, .ref qhsc, .int qhsn])), (qhsc, .inl (g.2.2.1, 18, .inl qhsf)), (qhc, .inr (8, [.int 6, .int 2, .ref qhcc, .int qhcn])), (qhcc, .inl (g.2.2.1, 12, .inl qhcf))] X inlX9 rfl tyX9_ok nmX9 0 (by decide) rfl dX9_read_2 mw53 0 rfl rfl rfl (Nat.le_of_ble_eq_true rfl) rfl ?_
  refine k_aload_n X dX9_read_5 0 rfl ?_
  refine k_iload_n X dX9_read_6 1 rfl ?_
  refine k_put (ci := 9) [(h0, .inr (9, [.int 0, .ref th, .int xfn, .int xfp, .ref tp, .int p0, .ref nm, .ref nd, .int xkd, .int xsta, .int xpo, .int xva, .long xle, .int xtk, .int xta])), (tp, .inl (g.2.1, 900, .inl tpf)), (nm, .inl (g.2.2.2.1, 16, .inr (.inl nmf))), (nd, .inr (8, [.int 16, .int 2, .ref ndc, .int ndn])), (ndc, .inl (g.2.2.1, 32, .inl ndf)), (th, .inr (3, [.ref qs, .ref qhn, .ref qht, .ref qhj, .ref qhm, .ref qhb, .ref qhs, .ref qhc])), (qs, .inr (7, [.ref qr, .ref qm, .ref qw, .ref qp, .int qmd, .int qtr])), (qr, .inr (8, [.int 8, .int 3, .ref qrc, .int qrn])), (qrc, .inl (g.2.2.1, 24, .inl qrf)), (qm, .inr (8, [.int 12, .int 3, .ref qmc, .int qmn])), (qmc, .inl (g.2.2.1, 36, .inl qmf)), (qw, .inr (8, [.int 6, .int 3, .ref qwc, .int qwn])), (qwc, .inl (g.2.2.1, 18, .inl qwf)), (qp, .inr (8, [.int 8, .int 2, .ref qpc, .int qpn])), (qpc, .inl (g.2.2.1, 16, .inl qpf)), (qhn, .inr (8, [.int 1, .int 6, .ref qhnc, .int qhnn])), (qhnc, .inl (g.2.2.1, 6, .inl qhnf)), (qht, .inr (8, [.int 4, .int 1, .ref qhtc, .int qhtn])), (qhtc, .inl (g.2.2.1, 4, .inl qhtf)), (qhj, .inr (8, [.int 8, .int 2, .ref qhjc, .int qhjn])), (qhjc, .inl (g.2.2.1, 16, .inl qhjf)), (qhm, .inr (8, [.int 4, .int 3, .ref qhmc, .int qhmn])), (qhmc, .inl (g.2.2.1, 12, .inl qhmf)), (qhb, .inr (8, [.int 1, .int 3, .ref qhbc, .int qhbn])), (qhbc, .inl (g.2.2.1, 3, .inl qhbf)), (qhs, .inr (8, [.int 6, .int 3, .ref qhsc, .int qhsn])), (qhsc, .inl (g.2.2.1, 18, .inl qhsf)), (qhc, .inr (8, [.int 6, .int 2, .ref qhcc, .int qhcn])), (qhcc, .inl (g.2.2.1, 12, .inl qhcf))] X inlX9 rfl tyX9_ok nmX9 5 (by decide) rfl dX9_read_7 mw60 0 rfl rfl rfl (Nat.le_of_ble_eq_true rfl) rfl ?_
  refine k_aload_n X dX9_read_10 0 rfl ?_
  refine k_iconst (v := 0) X dX9_read_11 (by decide) ?_
  refine k_put (ci := 9) [(h0, .inr (9, [.int 0, .ref th, .int xfn, .int xfp, .ref tp, .int p0, .ref nm, .ref nd, .int xkd, .int xsta, .int 0, .int xva, .long xle, .int xtk, .int xta])), (tp, .inl (g.2.1, 900, .inl tpf)), (nm, .inl (g.2.2.2.1, 16, .inr (.inl nmf))), (nd, .inr (8, [.int 16, .int 2, .ref ndc, .int ndn])), (ndc, .inl (g.2.2.1, 32, .inl ndf)), (th, .inr (3, [.ref qs, .ref qhn, .ref qht, .ref qhj, .ref qhm, .ref qhb, .ref qhs, .ref qhc])), (qs, .inr (7, [.ref qr, .ref qm, .ref qw, .ref qp, .int qmd, .int qtr])), (qr, .inr (8, [.int 8, .int 3, .ref qrc, .int qrn])), (qrc, .inl (g.2.2.1, 24, .inl qrf)), (qm, .inr (8, [.int 12, .int 3, .ref qmc, .int qmn])), (qmc, .inl (g.2.2.1, 36, .inl qmf)), (qw, .inr (8, [.int 6, .int 3, .ref qwc, .int qwn])), (qwc, .inl (g.2.2.1, 18, .inl qwf)), (qp, .inr (8, [.int 8, .int 2, .ref qpc, .int qpn])), (qpc, .inl (g.2.2.1, 16, .inl qpf)), (qhn, .inr (8, [.int 1, .int 6, .ref qhnc, .int qhnn])), (qhnc, .inl (g.2.2.1, 6, .inl qhnf)), (qht, .inr (8, [.int 4, .int 1, .ref qhtc, .int qhtn])), (qhtc, .inl (g.2.2.1, 4, .inl qhtf)), (qhj, .inr (8, [.int 8, .int 2, .ref qhjc, .int qhjn])), (qhjc, .inl (g.2.2.1, 16, .inl qhjf)), (qhm, .inr (8, [.int 4, .int 3, .ref qhmc, .int qhmn])), (qhmc, .inl (g.2.2.1, 12, .inl qhmf)), (qhb, .inr (8, [.int 1, .int 3, .ref qhbc, .int qhbn])), (qhbc, .inl (g.2.2.1, 3, .inl qhbf)), (qhs, .inr (8, [.int 6, .int 3, .ref qhsc, .int qhsn])), (qhsc, .inl (g.2.2.1, 18, .inl qhsf)), (qhc, .inr (8, [.int 6, .int 2, .ref qhcc, .int qhcn])), (qhcc, .inl (g.2.2.1, 12, .inl qhcf))] X inlX9 rfl tyX9_ok nmX9 10 (by decide) rfl dX9_read_12 mw68 0 rfl rfl rfl (Nat.le_of_ble_eq_true rfl) rfl ?_
  refine k_aload_n X dX9_read_15 0 rfl ?_
  refine k_get (ci := 9) X inlX9 rfl 1 (by decide) dX9_read_16 mw55 0 rfl rfl ?_
  refine k_callVV (n := 0) (As := []) (st := []) X [(th, .inr (3, [.ref qs, .ref qhn, .ref qht, .ref qhj, .ref qhm, .ref qhb, .ref qhs, .ref qhc])), (qs, .inr (7, [.ref qr, .ref qm, .ref qw, .ref qp, .int qmd, .int qtr])), (qr, .inr (8, [.int 8, .int 3, .ref qrc, .int qrn])), (qrc, .inl (g.2.2.1, 24, .inl qrf)), (qm, .inr (8, [.int 12, .int 3, .ref qmc, .int qmn])), (qmc, .inl (g.2.2.1, 36, .inl qmf)), (qw, .inr (8, [.int 6, .int 3, .ref qwc, .int qwn])), (qwc, .inl (g.2.2.1, 18, .inl qwf)), (qp, .inr (8, [.int 8, .int 2, .ref qpc, .int qpn])), (qpc, .inl (g.2.2.1, 16, .inl qpf)), (qhn, .inr (8, [.int 1, .int 6, .ref qhnc, .int qhnn])), (qhnc, .inl (g.2.2.1, 6, .inl qhnf)), (qht, .inr (8, [.int 4, .int 1, .ref qhtc, .int qhtn])), (qhtc, .inl (g.2.2.1, 4, .inl qhtf)), (qhj, .inr (8, [.int 8, .int 2, .ref qhjc, .int qhjn])), (qhjc, .inl (g.2.2.1, 16, .inl qhjf)), (qhm, .inr (8, [.int 4, .int 3, .ref qhmc, .int qhmn])), (qhmc, .inl (g.2.2.1, 12, .inl qhmf)), (qhb, .inr (8, [.int 1, .int 3, .ref qhbc, .int qhbn])), (qhbc, .inl (g.2.2.1, 3, .inl qhbf)), (qhs, .inr (8, [.int 6, .int 3, .ref qhsc, .int qhsn])), (qhsc, .inl (g.2.2.1, 18, .inl qhsf)), (qhc, .inr (8, [.int 6, .int 2, .ref qhcc, .int qhcn])), (qhcc, .inl (g.2.2.1, 12, .inl qhcf))] [(h0, .inr (9, [.int 0, .ref th, .int xfn, .int xfp, .ref tp, .int p0, .ref nm, .ref nd, .int xkd, .int xsta, .int 0, .int xva, .long xle, .int xtk, .int xta])), (tp, .inl (g.2.1, 900, .inl tpf)), (nm, .inl (g.2.2.2.1, 16, .inr (.inl nmf))), (nd, .inr (8, [.int 16, .int 2, .ref ndc, .int ndn])), (ndc, .inl (g.2.2.1, 32, .inl ndf))] [5, 6, 7, 8, 9, 10, 11, 12, 13, 14, 15, 16, 17, 18, 19, 20, 21, 22, 23, 24, 25, 26, 27, 28] [0, 1, 2, 3, 4] (h_clear l g th qs qhn qht qhj qhm qhb qhs qhc qr qm qw qp qmd qtr qrc qrn qrf qmc qmn qmf qwc qwn qwf qpc qpn qpf qhnc qhnn qhnf qhtc qhtn qhtf qhjc qhjn qhjf qhmc qhmn qhmf qhbc qhbn qhbf qhsc qhsn qhsf qhcc qhcn qhcf) dX9_read_19 mw223 mw224 mw225 mw19 mw226 rfl 3 rfl rfl 0 _ rfl (by unfold yOk; decide) rfl (Nat.le_of_ble_eq_true rfl) (Nat.le_of_ble_eq_true rfl) (Nat.le_of_ble_eq_true rfl) (Nat.le_of_ble_eq_true rfl) (Nat.le_of_ble_eq_true rfl) rfl rfl (by decide) rfl (by decide) (by decide) ?_
  rintro w ⟨xrg_1, xmg_2, xwg_3, xpg_4, xrk_5, xmk_6, xwk_7, xpk_8, xmd2_9, xtr2_10, xhng_11, xhtg_12, xhjg_13, xhmg_14, xhbg_15, xhsg_16, xhcg_17, xhnk_18, xhtk_19, xhjk_20, xhmk_21, xhbk_22, xhsk_23, xhck_24, rfl⟩
  refine k_ws [(h0, .inr (9, [.int 0, .ref th, .int xfn, .int xfp, .ref tp, .int p0, .ref nm, .ref nd, .int xkd, .int xsta, .int 0, .int xva, .long xle, .int xtk, .int xta])), (tp, .inl (g.2.1, 900, .inl tpf)), (nm, .inl (g.2.2.2.1, 16, .inr (.inl nmf))), (nd, .inr (8, [.int 16, .int 2, .ref ndc, .int ndn])), (ndc, .inl (g.2.2.1, 32, .inl ndf)), (th, .inr (3, [.ref qs, .ref qhn, .ref qht, .ref qhj, .ref qhm, .ref qhb, .ref qhs, .ref qhc])), (qs, .inr (7, [.ref qr, .ref qm, .ref qw, .ref qp, .int xmd2_9, .int xtr2_10])), (qr, .inr (8, [.int 8, .int 3, .ref qrc, .int xrk_5])), (qrc, .inl (g.2.2.1, 24, .inl xrg_1)), (qm, .inr (8, [.int 12, .int 3, .ref qmc, .int xmk_6])), (qmc, .inl (g.2.2.1, 36, .inl xmg_2)), (qw, .inr (8, [.int 6, .int 3, .ref qwc, .int xwk_7])), (qwc, .inl (g.2.2.1, 18, .inl xwg_3)), (qp, .inr (8, [.int 8, .int 2, .ref qpc, .int xpk_8])), (qpc, .inl (g.2.2.1, 16, .inl xpg_4)), (qhn, .inr (8, [.int 1, .int 6, .ref qhnc, .int xhnk_18])), (qhnc, .inl (g.2.2.1, 6, .inl xhng_11)), (qht, .inr (8, [.int 4, .int 1, .ref qhtc, .int xhtk_19])), (qhtc, .inl (g.2.2.1, 4, .inl xhtg_12)), (qhj, .inr (8, [.int 8, .int 2, .ref qhjc, .int xhjk_20])), (qhjc, .inl (g.2.2.1, 16, .inl xhjg_13)), (qhm, .inr (8, [.int 4, .int 3, .ref qhmc, .int xhmk_21])), (qhmc, .inl (g.2.2.1, 12, .inl xhmg_14)), (qhb, .inr (8, [.int 1, .int 3, .ref qhbc, .int xhbk_22])), (qhbc, .inl (g.2.2.1, 3, .inl xhbg_15)), (qhs, .inr (8, [.int 6, .int 3, .ref qhsc, .int xhsk_23])), (qhsc, .inl (g.2.2.1, 18, .inl xhsg_16)), (qhc, .inr (8, [.int 6, .int 2, .ref qhcc, .int xhck_24])), (qhcc, .inl (g.2.2.1, 12, .inl xhcg_17))] rfl ?_
  refine k_aload_n X dX9_read_22 0 rfl ?_
  refine k_get (ci := 9) X inlX9 rfl 7 (by decide) dX9_read_23 mw65 0 rfl rfl ?_
  refine k_callVV (n := 0) (As := []) (st := []) X [(nd, .inr (8, [.int 16, .int 2, .ref ndc, .int ndn]))] [(h0, .inr (9, [.int 0, .ref th, .int xfn, .int xfp, .ref tp, .int p0, .ref nm, .ref nd, .int xkd, .int xsta, .int 0, .int xva, .long xle, .int xtk, .int xta])), (tp, .inl (g.2.1, 900, .inl tpf)), (nm, .inl (g.2.2.2.1, 16, .inr (.inl nmf))), (ndc, .inl (g.2.2.1, 32, .inl ndf)), (th, .inr (3, [.ref qs, .ref qhn, .ref qht, .ref qhj, .ref qhm, .ref qhb, .ref qhs, .ref qhc])), (qs, .inr (7, [.ref qr, .ref qm, .ref qw, .ref qp, .int xmd2_9, .int xtr2_10])), (qr, .inr (8, [.int 8, .int 3, .ref qrc, .int xrk_5])), (qrc, .inl (g.2.2.1, 24, .inl xrg_1)), (qm, .inr (8, [.int 12, .int 3, .ref qmc, .int xmk_6])), (qmc, .inl (g.2.2.1, 36, .inl xmg_2)), (qw, .inr (8, [.int 6, .int 3, .ref qwc, .int xwk_7])), (qwc, .inl (g.2.2.1, 18, .inl xwg_3)), (qp, .inr (8, [.int 8, .int 2, .ref qpc, .int xpk_8])), (qpc, .inl (g.2.2.1, 16, .inl xpg_4)), (qhn, .inr (8, [.int 1, .int 6, .ref qhnc, .int xhnk_18])), (qhnc, .inl (g.2.2.1, 6, .inl xhng_11)), (qht, .inr (8, [.int 4, .int 1, .ref qhtc, .int xhtk_19])), (qhtc, .inl (g.2.2.1, 4, .inl xhtg_12)), (qhj, .inr (8, [.int 8, .int 2, .ref qhjc, .int xhjk_20])), (qhjc, .inl (g.2.2.1, 16, .inl xhjg_13)), (qhm, .inr (8, [.int 4, .int 3, .ref qhmc, .int xhmk_21])), (qhmc, .inl (g.2.2.1, 12, .inl xhmg_14)), (qhb, .inr (8, [.int 1, .int 3, .ref qhbc, .int xhbk_22])), (qhbc, .inl (g.2.2.1, 3, .inl xhbg_15)), (qhs, .inr (8, [.int 6, .int 3, .ref qhsc, .int xhsk_23])), (qhsc, .inl (g.2.2.1, 18, .inl xhsg_16)), (qhc, .inr (8, [.int 6, .int 2, .ref qhcc, .int xhck_24])), (qhcc, .inl (g.2.2.1, 12, .inl xhcg_17))] [3] [0, 1, 2, 4, 5, 6, 7, 8, 9, 10, 11, 12, 13, 14, 15, 16, 17, 18, 19, 20, 21, 22, 23, 24, 25, 26, 27, 28] (t_clear l g nd (.int 16) (.int 2) (.ref ndc) ndn) dX9_read_26 mw236 mw232 mw233 mw64 mw234 rfl 8 rfl rfl 0 _ rfl (by unfold yOk; decide) rfl (Nat.le_of_ble_eq_true rfl) (Nat.le_of_ble_eq_true rfl) (Nat.le_of_ble_eq_true rfl) (Nat.le_of_ble_eq_true rfl) (Nat.le_of_ble_eq_true rfl) rfl rfl (by decide) rfl (by decide) (by decide) ?_
  rintro w rfl
  refine k_ws [(h0, .inr (9, [.int 0, .ref th, .int xfn, .int xfp, .ref tp, .int p0, .ref nm, .ref nd, .int xkd, .int xsta, .int 0, .int xva, .long xle, .int xtk, .int xta])), (tp, .inl (g.2.1, 900, .inl tpf)), (nm, .inl (g.2.2.2.1, 16, .inr (.inl nmf))), (ndc, .inl (g.2.2.1, 32, .inl ndf)), (th, .inr (3, [.ref qs, .ref qhn, .ref qht, .ref qhj, .ref qhm, .ref qhb, .ref qhs, .ref qhc])), (qs, .inr (7, [.ref qr, .ref qm, .ref qw, .ref qp, .int xmd2_9, .int xtr2_10])), (qr, .inr (8, [.int 8, .int 3, .ref qrc, .int xrk_5])), (qrc, .inl (g.2.2.1, 24, .inl xrg_1)), (qm, .inr (8, [.int 12, .int 3, .ref qmc, .int xmk_6])), (qmc, .inl (g.2.2.1, 36, .inl xmg_2)), (qw, .inr (8, [.int 6, .int 3, .ref qwc, .int xwk_7])), (qwc, .inl (g.2.2.1, 18, .inl xwg_3)), (qp, .inr (8, [.int 8, .int 2, .ref qpc, .int xpk_8])), (qpc, .inl (g.2.2.1, 16, .inl xpg_4)), (qhn, .inr (8, [.int 1, .int 6, .ref qhnc, .int xhnk_18])), (qhnc, .inl (g.2.2.1, 6, .inl xhng_11)), (qht, .inr (8, [.int 4, .int 1, .ref qhtc, .int xhtk_19])), (qhtc, .inl (g.2.2.1, 4, .inl xhtg_12)), (qhj, .inr (8, [.int 8, .int 2, .ref qhjc, .int xhjk_20])), (qhjc, .inl (g.2.2.1, 16, .inl xhjg_13)), (qhm, .inr (8, [.int 4, .int 3, .ref qhmc, .int xhmk_21])), (qhmc, .inl (g.2.2.1, 12, .inl xhmg_14)), (qhb, .inr (8, [.int 1, .int 3, .ref qhbc, .int xhbk_22])), (qhbc, .inl (g.2.2.1, 3, .inl xhbg_15)), (qhs, .inr (8, [.int 6, .int 3, .ref qhsc, .int xhsk_23])), (qhsc, .inl (g.2.2.1, 18, .inl xhsg_16)), (qhc, .inr (8, [.int 6, .int 2, .ref qhcc, .int xhck_24])), (qhcc, .inl (g.2.2.1, 12, .inl xhcg_17)), (nd, .inr (8, [.int 16, .int 2, .ref ndc, .int 0]))] rfl ?_
  refine k_aload_n X dX9_read_29 0 rfl ?_
  refine k_iconst (v := 0) X dX9_read_30 (by decide) ?_
  refine k_put (ci := 9) [(h0, .inr (9, [.int 0, .ref th, .int 0, .int xfp, .ref tp, .int p0, .ref nm, .ref nd, .int xkd, .int xsta, .int 0, .int xva, .long xle, .int xtk, .int xta])), (tp, .inl (g.2.1, 900, .inl tpf)), (nm, .inl (g.2.2.2.1, 16, .inr (.inl nmf))), (ndc, .inl (g.2.2.1, 32, .inl ndf)), (th, .inr (3, [.ref qs, .ref qhn, .ref qht, .ref qhj, .ref qhm, .ref qhb, .ref qhs, .ref qhc])), (qs, .inr (7, [.ref qr, .ref qm, .ref qw, .ref qp, .int xmd2_9, .int xtr2_10])), (qr, .inr (8, [.int 8, .int 3, .ref qrc, .int xrk_5])), (qrc, .inl (g.2.2.1, 24, .inl xrg_1)), (qm, .inr (8, [.int 12, .int 3, .ref qmc, .int xmk_6])), (qmc, .inl (g.2.2.1, 36, .inl xmg_2)), (qw, .inr (8, [.int 6, .int 3, .ref qwc, .int xwk_7])), (qwc, .inl (g.2.2.1, 18, .inl xwg_3)), (qp, .inr (8, [.int 8, .int 2, .ref qpc, .int xpk_8])), (qpc, .inl (g.2.2.1, 16, .inl xpg_4)), (qhn, .inr (8, [.int 1, .int 6, .ref qhnc, .int xhnk_18])), (qhnc, .inl (g.2.2.1, 6, .inl xhng_11)), (qht, .inr (8, [.int 4, .int 1, .ref qhtc, .int xhtk_19])), (qhtc, .inl (g.2.2.1, 4, .inl xhtg_12)), (qhj, .inr (8, [.int 8, .int 2, .ref qhjc, .int xhjk_20])), (qhjc, .inl (g.2.2.1, 16, .inl xhjg_13)), (qhm, .inr (8, [.int 4, .int 3, .ref qhmc, .int xhmk_21])), (qhmc, .inl (g.2.2.1, 12, .inl xhmg_14)), (qhb, .inr (8, [.int 1, .int 3, .ref qhbc, .int xhbk_22])), (qhbc, .inl (g.2.2.1, 3, .inl xhbg_15)), (qhs, .inr (8, [.int 6, .int 3, .ref qhsc, .int xhsk_23])), (qhsc, .inl (g.2.2.1, 18, .inl xhsg_16)), (qhc, .inr (8, [.int 6, .int 2, .ref qhcc, .int xhck_24])), (qhcc, .inl (g.2.2.1, 12, .inl xhcg_17)), (nd, .inr (8, [.int 16, .int 2, .ref ndc, .int 0]))] X inlX9 rfl tyX9_ok nmX9 2 (by decide) rfl dX9_read_31 mw56 0 rfl rfl rfl (Nat.le_of_ble_eq_true rfl) rfl ?_
  refine k_aload_n X dX9_read_34 0 rfl ?_
  refine k_iconst (v := 0) X dX9_read_35 (by decide) ?_
  refine k_put (ci := 9) [(h0, .inr (9, [.int 0, .ref th, .int 0, .int 0, .ref tp, .int p0, .ref nm, .ref nd, .int xkd, .int xsta, .int 0, .int xva, .long xle, .int xtk, .int xta])), (tp, .inl (g.2.1, 900, .inl tpf)), (nm, .inl (g.2.2.2.1, 16, .inr (.inl nmf))), (ndc, .inl (g.2.2.1, 32, .inl ndf)), (th, .inr (3, [.ref qs, .ref qhn, .ref qht, .ref qhj, .ref qhm, .ref qhb, .ref qhs, .ref qhc])), (qs, .inr (7, [.ref qr, .ref qm, .ref qw, .ref qp, .int xmd2_9, .int xtr2_10])), (qr, .inr (8, [.int 8, .int 3, .ref qrc, .int xrk_5])), (qrc, .inl (g.2.2.1, 24, .inl xrg_1)), (qm, .inr (8, [.int 12, .int 3, .ref qmc, .int xmk_6])), (qmc, .inl (g.2.2.1, 36, .inl xmg_2)), (qw, .inr (8, [.int 6, .int 3, .ref qwc, .int xwk_7])), (qwc, .inl (g.2.2.1, 18, .inl xwg_3)), (qp, .inr (8, [.int 8, .int 2, .ref qpc, .int xpk_8])), (qpc, .inl (g.2.2.1, 16, .inl xpg_4)), (qhn, .inr (8, [.int 1, .int 6, .ref qhnc, .int xhnk_18])), (qhnc, .inl (g.2.2.1, 6, .inl xhng_11)), (qht, .inr (8, [.int 4, .int 1, .ref qhtc, .int xhtk_19])), (qhtc, .inl (g.2.2.1, 4, .inl xhtg_12)), (qhj, .inr (8, [.int 8, .int 2, .ref qhjc, .int xhjk_20])), (qhjc, .inl (g.2.2.1, 16, .inl xhjg_13)), (qhm, .inr (8, [.int 4, .int 3, .ref qhmc, .int xhmk_21])), (qhmc, .inl (g.2.2.1, 12, .inl xhmg_14)), (qhb, .inr (8, [.int 1, .int 3, .ref qhbc, .int xhbk_22])), (qhbc, .inl (g.2.2.1, 3, .inl xhbg_15)), (qhs, .inr (8, [.int 6, .int 3, .ref qhsc, .int xhsk_23])), (qhsc, .inl (g.2.2.1, 18, .inl xhsg_16)), (qhc, .inr (8, [.int 6, .int 2, .ref qhcc, .int xhck_24])), (qhcc, .inl (g.2.2.1, 12, .inl xhcg_17)), (nd, .inr (8, [.int 16, .int 2, .ref ndc, .int 0]))] X inlX9 rfl tyX9_ok nmX9 3 (by decide) rfl dX9_read_36 mw57 0 rfl rfl rfl (Nat.le_of_ble_eq_true rfl) rfl ?_
  refine k_aload_n X dX9_read_39 0 rfl ?_
  refine k_callVV (n := 0) (As := []) (st := []) X [(h0, .inr (9, [.int 0, .ref th, .int 0, .int 0, .ref tp, .int p0, .ref nm, .ref nd, .int xkd, .int xsta, .int 0, .int xva, .long xle, .int xtk, .int xta])), (tp, .inl (g.2.1, 900, .inl tpf))] [(nm, .inl (g.2.2.2.1, 16, .inr (.inl nmf))), (ndc, .inl (g.2.2.1, 32, .inl ndf)), (th, .inr (3, [.ref qs, .ref qhn, .ref qht, .ref qhj, .ref qhm, .ref qhb, .ref qhs, .ref qhc])), (qs, .inr (7, [.ref qr, .ref qm, .ref qw, .ref qp, .int xmd2_9, .int xtr2_10])), (qr, .inr (8, [.int 8, .int 3, .ref qrc, .int xrk_5])), (qrc, .inl (g.2.2.1, 24, .inl xrg_1)), (qm, .inr (8, [.int 12, .int 3, .ref qmc, .int xmk_6])), (qmc, .inl (g.2.2.1, 36, .inl xmg_2)), (qw, .inr (8, [.int 6, .int 3, .ref qwc, .int xwk_7])), (qwc, .inl (g.2.2.1, 18, .inl xwg_3)), (qp, .inr (8, [.int 8, .int 2, .ref qpc, .int xpk_8])), (qpc, .inl (g.2.2.1, 16, .inl xpg_4)), (qhn, .inr (8, [.int 1, .int 6, .ref qhnc, .int xhnk_18])), (qhnc, .inl (g.2.2.1, 6, .inl xhng_11)), (qht, .inr (8, [.int 4, .int 1, .ref qhtc, .int xhtk_19])), (qhtc, .inl (g.2.2.1, 4, .inl xhtg_12)), (qhj, .inr (8, [.int 8, .int 2, .ref qhjc, .int xhjk_20])), (qhjc, .inl (g.2.2.1, 16, .inl xhjg_13)), (qhm, .inr (8, [.int 4, .int 3, .ref qhmc, .int xhmk_21])), (qhmc, .inl (g.2.2.1, 12, .inl xhmg_14)), (qhb, .inr (8, [.int 1, .int 3, .ref qhbc, .int xhbk_22])), (qhbc, .inl (g.2.2.1, 3, .inl xhbg_15)), (qhs, .inr (8, [.int 6, .int 3, .ref qhsc, .int xhsk_23])), (qhsc, .inl (g.2.2.1, 18, .inl xhsg_16)), (qhc, .inr (8, [.int 6, .int 2, .ref qhcc, .int xhck_24])), (qhcc, .inl (g.2.2.1, 12, .inl xhcg_17)), (nd, .inr (8, [.int 16, .int 2, .ref ndc, .int 0]))] [0, 1] [2, 3, 4, 5, 6, 7, 8, 9, 10, 11, 12, 13, 14, 15, 16, 17, 18, 19, 20, 21, 22, 23, 24, 25, 26, 27, 28] (x_next l g h0 0 th 0 0 tp p0 nm nd xkd xsta 0 xva xle xtk xta tpf (iv_w hv_p0 (by decide) (by decide)) (iv_w (show IV 0 0 0 from (by decide)) (by decide) (by decide))) dX9_read_40 mw237 mw238 mw239 mw15 mw240 rfl 9 rfl rfl 0 _ rfl (by unfold yOk; decide) rfl (Nat.le_of_ble_eq_true rfl) (Nat.le_of_ble_eq_true rfl) (Nat.le_of_ble_eq_true rfl) (Nat.le_of_ble_eq_true rfl) (Nat.le_of_ble_eq_true rfl) rfl rfl (by decide) rfl (by decide) (by decide) ?_
  rintro w ⟨xkd2_29, xsta2_30, xpo2_31, xva2_32, xle2_33, iv_35, iv_36, iv_37, rfl⟩
  refine k_ws [(nm, .inl (g.2.2.2.1, 16, .inr (.inl nmf))), (ndc, .inl (g.2.2.1, 32, .inl ndf)), (th, .inr (3, [.ref qs, .ref qhn, .ref qht, .ref qhj, .ref qhm, .ref qhb, .ref qhs, .ref qhc])), (qs, .inr (7, [.ref qr, .ref qm, .ref qw, .ref qp, .int xmd2_9, .int xtr2_10])), (qr, .inr (8, [.int 8, .int 3, .ref qrc, .int xrk_5])), (qrc, .inl (g.2.2.1, 24, .inl xrg_1)), (qm, .inr (8, [.int 12, .int 3, .ref qmc, .int xmk_6])), (qmc, .inl (g.2.2.1, 36, .inl xmg_2)), (qw, .inr (8, [.int 6, .int 3, .ref qwc, .int xwk_7])), (qwc, .inl (g.2.2.1, 18, .inl xwg_3)), (qp, .inr (8, [.int 8, .int 2, .ref qpc, .int xpk_8])), (qpc, .inl (g.2.2.1, 16, .inl xpg_4)), (qhn, .inr (8, [.int 1, .int 6, .ref qhnc, .int xhnk_18])), (qhnc, .inl (g.2.2.1, 6, .inl xhng_11)), (qht, .inr (8, [.int 4, .int 1, .ref qhtc, .int xhtk_19])), (qhtc, .inl (g.2.2.1, 4, .inl xhtg_12)), (qhj, .inr (8, [.int 8, .int 2, .ref qhjc, .int xhjk_20])), (qhjc, .inl (g.2.2.1, 16, .inl xhjg_13)), (qhm, .inr (8, [.int 4, .int 3, .ref qhmc, .int xhmk_21])), (qhmc, .inl (g.2.2.1, 12, .inl xhmg_14)), (qhb, .inr (8, [.int 1, .int 3, .ref qhbc, .int xhbk_22])), (qhbc, .inl (g.2.2.1, 3, .inl xhbg_15)), (qhs, .inr (8, [.int 6, .int 3, .ref qhsc, .int xhsk_23])), (qhsc, .inl (g.2.2.1, 18, .inl xhsg_16)), (qhc, .inr (8, [.int 6, .int 2, .ref qhcc, .int xhck_24])), (qhcc, .inl (g.2.2.1, 12, .inl xhcg_17)), (nd, .inr (8, [.int 16, .int 2, .ref ndc, .int 0])), (h0, .inr (9, [.int 0, .ref th, .int 0, .int 0, .ref tp, .int p0, .ref nm, .ref nd, .int xkd2_29, .int xsta2_30, .int xpo2_31, .int xva2_32, .long xle2_33, .int xtk, .int xta])), (tp, .inl (g.2.1, 900, .inl tpf))] rfl ?_
  refine k_iconst (v := 1) X dX9_read_43 (by decide) ?_
  refine k_istore_n [(2, .int 1), (0, .ref h0), (1, .int p0)] X dX9_read_44 (by decide) rfl ?_
  refine k_iconst (v := 0) X dX9_read_45 (by decide) ?_
  refine k_istore_n [(3, .int 0), (2, .int 1), (0, .ref h0), (1, .int p0)] X dX9_read_46 (by decide) rfl ?_
  refine (fun hL : ∀ (nn_80 : Nat) (uf_38 : Nat → Int32) (uf_39 : Nat → Int64) (uf_40 : Nat → Int32) (uf_41 : Nat → Int32) (uf_42 : Nat → Int32) (uf_43 : Nat → Int32) (uf_44 : Nat → Int32) (uf_45 : Nat → Int32) (uf_46 : Nat → Int32) (uf_47 : Nat → Int32) (uf_48 : Nat → Int32) (uf_49 : Nat → Int32) (uf_50 : Nat → Int32) (u_51 : Int32) (u_53 : Int32) (u_55 : Int32) (u_57 : Int32) (u_58 : Int64) (u_59 : Int32) (u_60 : Int32) (u_61 : Int32) (u_62 : Int32) (u_63 : Int32) (u_64 : Int32) (u_66 : Int32) (u_67 : Int32) (u_68 : Int32) (u_69 : Int32) (u_70 : Int32) (u_71 : Int32) (u_72 : Int32) (u_73 : Int32) (u_74 : Int32) (u_75 : Int32) (u_76 : Int32) (u_77 : Int32) (u_78 : Int32) (u_79 : Int32), (p0.toInt + 1 - u_53.toInt).toNat = nn_80 → (IV u_51 0 1) → (IV u_53 0 2147483647) → (IV u_55 0 900) → (IV u_64 0 900) → Wk p l e _ s m args below meth c _ A g _ _ _ [(nm, .inl (g.2.2.2.1, 16, .inr (.inl uf_39))), (ndc, .inl (g.2.2.1, 32, .inl uf_38)), (th, .inr (3, [.ref qs, .ref qhn, .ref qht, .ref qhj, .ref qhm, .ref qhb, .ref qhs, .ref qhc])), (qs, .inr (7, [.ref qr, .ref qm, .ref qw, .ref qp, .int u_77, .int u_78])), (qr, .inr (8, [.int 8, .int 3, .ref qrc, .int u_76])), (qrc, .inl (g.2.2.1, 24, .inl uf_49)), (qm, .inr (8, [.int 12, .int 3, .ref qmc, .int u_74])), (qmc, .inl (g.2.2.1, 36, .inl uf_47)), (qw, .inr (8, [.int 6, .int 3, .ref qwc, .int u_79])), (qwc, .inl (g.2.2.1, 18, .inl uf_50)), (qp, .inr (8, [.int 8, .int 2, .ref qpc, .int u_75])), (qpc, .inl (g.2.2.1, 16, .inl uf_48)), (qhn, .inr (8, [.int 1, .int 6, .ref qhnc, .int u_71])), (qhnc, .inl (g.2.2.1, 6, .inl uf_44)), (qht, .inr (8, [.int 4, .int 1, .ref qhtc, .int u_73])), (qhtc, .inl (g.2.2.1, 4, .inl uf_46)), (qhj, .inr (8, [.int 8, .int 2, .ref qhjc, .int u_69])), (qhjc, .inl (g.2.2.1, 16, .inl uf_42)), (qhm, .inr (8, [.int 4, .int 3, .ref qhmc, .int u_70])), (qhmc, .inl (g.2.2.1, 12, .inl uf_43)), (qhb, .inr (8, [.int 1, .int 3, .ref qhbc, .int u_67])), (qhbc, .inl (g.2.2.1, 3, .inl uf_40)), (qhs, .inr (8, [.int 6, .int 3, .ref qhsc, .int u_72])), (qhsc, .inl (g.2.2.1, 18, .inl uf_45)), (qhc, .inr (8, [.int 6, .int 2, .ref qhcc, .int u_68])), (qhcc, .inl (g.2.2.1, 12, .inl uf_41)), (nd, .inr (8, [.int 16, .int 2, .ref ndc, .int u_66])), (h0, .inr (9, [.int 0, .ref th, .int u_61, .int u_62, .ref tp, .int p0, .ref nm, .ref nd, .int u_63, .int u_64, .int u_55, .int u_57, .long u_58, .int u_59, .int u_60])), (tp, .inl (g.2.1, 900, .inl tpf))] [(3, .int u_53), (2, .int u_51), (0, .ref h0), (1, .int p0)] 47 [] => hL _ ndf nmf xhbg_15 xhcg_17 xhjg_13 xhmg_14 xhng_11 xhsg_16 xhtg_12 xmg_2 xpg_4 xrg_1 xwg_3 1 0 xpo2_31 xva2_32 xle2_33 xtk xta 0 0 xkd2_29 xsta2_30 0 xhbk_22 xhck_24 xhjk_20 xhmk_21 xhnk_18 xhsk_23 xhtk_19 xmk_6 xpk_8 xrk_5 xmd2_9 xtr2_10 xwk_7 rfl (iv_w (show IV 1 1 1 from (by decide)) (by decide) (by decide)) (iv_w (show IV 0 0 0 from (by decide)) (by decide) (by decide)) (iv_w iv_36 (by decide) (by decide)) (iv_w iv_35 (by decide) (by decide))) ?_
  refine fun nn_80 => Nat.strongRecOn nn_80 (fun nn_80 ih_82 => ?_)
  intro uf_38 uf_39 uf_40 uf_41 uf_42 uf_43 uf_44 uf_45 uf_46 uf_47 uf_48 uf_49 uf_50 u_51 u_53 u_55 u_57 u_58 u_59 u_60 u_61 u_62 u_63 u_64 u_66 u_67 u_68 u_69 u_70 u_71 u_72 u_73 u_74 u_75 u_76 u_77 u_78 u_79 hm_81 hv_52 hv_54 hv_56 hv_65
  refine k_iload_n X dX9_read_47 1 rfl ?_
  refine k_if_eq 85 X dX9_read_48 (by decide) (fun h_83 => ?_) (fun h_83 => ?_)
  · skip
    have iv_84 : IV u_51 0 0 := iv_meet hv_52 (iv_e h_83 (show IV 0 0 0 from (by decide))) (by decide) (by decide)
    exact k_vret X hr dX9_read_85 (Nat.le_of_ble_eq_true rfl) (Nat.le_of_ble_eq_true rfl) [27, 28, 0, 26, 1, 2, 3, 4, 5, 6, 7, 8, 9, 10, 11, 12, 13, 14, 15, 16, 17, 18, 19, 20, 21, 22, 23, 24, 25] (by decide) rfl rfl ⟨u_61, u_62, u_63, u_64, u_55, u_57, u_58, u_59, u_60, uf_39, uf_38, u_66, uf_49, uf_47, uf_50, uf_48, u_76, u_74, u_79, u_75, u_77, u_78, uf_44, uf_46, uf_42, uf_43, uf_40, uf_45, uf_41, u_71, u_73, u_69, u_70, u_67, u_72, u_68, (iv_w hv_65 (by decide) (by decide)), (iv_w hv_56 (by decide) (by decide)), rfl⟩
  · skip
    have iv_85 : IV u_51 1 1 := iv_neL h_83 hv_52 (show IV 0 0 0 from (by decide)) (by decide)
    refine k_iload_n X dX9_read_51 0 rfl ?_
    refine k_aload_n X dX9_read_52 2 rfl ?_
    refine k_get (ci := 9) X inlX9 rfl 5 (by decide) dX9_read_53 mw60 27 rfl rfl ?_
    refine k_ic_gt 85 X dX9_read_56 (by decide) (fun h_86 => ?_) (fun h_86 => ?_)
    · skip
      have j_87 : p0.toInt < u_53.toInt := iv_lt h_86
      have iv_88 : IV u_53 1 2147483647 := iv_ltR (iv_lt h_86) hv_p0 hv_54 (by decide)
      exact k_vret X hr dX9_read_85 (Nat.le_of_ble_eq_true rfl) (Nat.le_of_ble_eq_true rfl) [27, 28, 0, 26, 1, 2, 3, 4, 5, 6, 7, 8, 9, 10, 11, 12, 13, 14, 15, 16, 17, 18, 19, 20, 21, 22, 23, 24, 25] (by decide) rfl rfl ⟨u_61, u_62, u_63, u_64, u_55, u_57, u_58, u_59, u_60, uf_39, uf_38, u_66, uf_49, uf_47, uf_50, uf_48, u_76, u_74, u_79, u_75, u_77, u_78, uf_44, uf_46, uf_42, uf_43, uf_40, uf_45, uf_41, u_71, u_73, u_69, u_70, u_67, u_72, u_68, (iv_w hv_65 (by decide) (by decide)), (iv_w hv_56 (by decide) (by decide)), rfl⟩
    · skip
      have j_89 : u_53.toInt ≤ p0.toInt := iv_nlt h_86
      have iv_90 : IV u_53 0 900 := iv_leL (iv_nlt h_86) hv_54 hv_p0 (by decide)
      refine k_aload_n X dX9_read_59 2 rfl ?_
      refine k_callVI (n := 0) (As := []) (st := []) X [(h0, .inr (9, [.int 0, .ref th, .int u_61, .int u_62, .ref tp, .int p0, .ref nm, .ref nd, .int u_63, .int u_64, .int u_55, .int u_57, .long u_58, .int u_59, .int u_60])), (tp, .inl (g.2.1, 900, .inl tpf)), (nm, .inl (g.2.2.2.1, 16, .inr (.inl uf_39))), (nd, .inr (8, [.int 16, .int 2, .ref ndc, .int u_66])), (ndc, .inl (g.2.2.1, 32, .inl uf_38)), (th, .inr (3, [.ref qs, .ref qhn, .ref qht, .ref qhj, .ref qhm, .ref qhb, .ref qhs, .ref qhc])), (qs, .inr (7, [.ref qr, .ref qm, .ref qw, .ref qp, .int u_77, .int u_78])), (qr, .inr (8, [.int 8, .int 3, .ref qrc, .int u_76])), (qrc, .inl (g.2.2.1, 24, .inl uf_49)), (qm, .inr (8, [.int 12, .int 3, .ref qmc, .int u_74])), (qmc, .inl (g.2.2.1, 36, .inl uf_47)), (qw, .inr (8, [.int 6, .int 3, .ref qwc, .int u_79])), (qwc, .inl (g.2.2.1, 18, .inl uf_50)), (qp, .inr (8, [.int 8, .int 2, .ref qpc, .int u_75])), (qpc, .inl (g.2.2.1, 16, .inl uf_48)), (qhn, .inr (8, [.int 1, .int 6, .ref qhnc, .int u_71])), (qhnc, .inl (g.2.2.1, 6, .inl uf_44)), (qht, .inr (8, [.int 4, .int 1, .ref qhtc, .int u_73])), (qhtc, .inl (g.2.2.1, 4, .inl uf_46)), (qhj, .inr (8, [.int 8, .int 2, .ref qhjc, .int u_69])), (qhjc, .inl (g.2.2.1, 16, .inl uf_42)), (qhm, .inr (8, [.int 4, .int 3, .ref qhmc, .int u_70])), (qhmc, .inl (g.2.2.1, 12, .inl uf_43)), (qhb, .inr (8, [.int 1, .int 3, .ref qhbc, .int u_67])), (qhbc, .inl (g.2.2.1, 3, .inl uf_40)), (qhs, .inr (8, [.int 6, .int 3, .ref qhsc, .int u_72])), (qhsc, .inl (g.2.2.1, 18, .inl uf_45)), (qhc, .inr (8, [.int 6, .int 2, .ref qhcc, .int u_68])), (qhcc, .inl (g.2.2.1, 12, .inl uf_41))] [] [27, 28, 0, 26, 1, 2, 3, 4, 5, 6, 7, 8, 9, 10, 11, 12, 13, 14, 15, 16, 17, 18, 19, 20, 21, 22, 23, 24, 25] [] (x_isLine l g h0 0 th u_61 u_62 tp p0 nm nd u_63 u_64 u_55 u_57 u_58 u_59 u_60 tpf uf_39 ndc u_66 uf_38 qs qhn qht qhj qhm qhb qhs qhc qr qm qw qp u_77 u_78 qrc u_76 uf_49 qmc u_74 uf_47 qwc u_79 uf_50 qpc u_75 uf_48 qhnc u_71 uf_44 qhtc u_73 uf_46 qhjc u_69 uf_42 qhmc u_70 uf_43 qhbc u_67 uf_40 qhsc u_72 uf_45 qhcc u_68 uf_41 (iv_w hv_p0 (by decide) (by decide)) (iv_w hv_65 (by decide) (by decide)) (iv_w hv_56 (by decide) (by decide))) dX9_read_60 mw246 mw247 mw248 mw15 mw249 rfl 9 rfl rfl 0 _ rfl (by unfold yOk; decide) rfl (Nat.le_of_ble_eq_true rfl) (Nat.le_of_ble_eq_true rfl) (Nat.le_of_ble_eq_true rfl) (Nat.le_of_ble_eq_true rfl) (Nat.le_of_ble_eq_true rfl) rfl rfl (by decide) rfl (by decide) (by decide) ?_
      rintro r_127 w ⟨xfn2_91, xfp2_92, xkd2_93, xsta2_94, xpo2_95, xva2_96, xle2_97, xtk2_98, xta2_99, nmfg_100, ndfg_101, ndnk_102, qrg_103, qmg_104, qwg_105, qpg_106, qrk_107, qmk_108, qwk_109, qpk_110, qmd2_111, qtr2_112, qhng_113, qhtg_114, qhjg_115, qhmg_116, qhbg_117, qhsg_118, qhcg_119, qhnk_120, qhtk_121, qhjk_122, qhmk_123, qhbk_124, qhsk_125, qhck_126, iv_128, iv_129, iv_130, rfl⟩
      refine k_ws [(h0, .inr (9, [.int 0, .ref th, .int xfn2_91, .int xfp2_92, .ref tp, .int p0, .ref nm, .ref nd, .int xkd2_93, .int xsta2_94, .int xpo2_95, .int xva2_96, .long xle2_97, .int xtk2_98, .int xta2_99])), (tp, .inl (g.2.1, 900, .inl tpf)), (nm, .inl (g.2.2.2.1, 16, .inr (.inl nmfg_100))), (nd, .inr (8, [.int 16, .int 2, .ref ndc, .int ndnk_102])), (ndc, .inl (g.2.2.1, 32, .inl ndfg_101)), (th, .inr (3, [.ref qs, .ref qhn, .ref qht, .ref qhj, .ref qhm, .ref qhb, .ref qhs, .ref qhc])), (qs, .inr (7, [.ref qr, .ref qm, .ref qw, .ref qp, .int qmd2_111, .int qtr2_112])), (qr, .inr (8, [.int 8, .int 3, .ref qrc, .int qrk_107])), (qrc, .inl (g.2.2.1, 24, .inl qrg_103)), (qm, .inr (8, [.int 12, .int 3, .ref qmc, .int qmk_108])), (qmc, .inl (g.2.2.1, 36, .inl qmg_104)), (qw, .inr (8, [.int 6, .int 3, .ref qwc, .int qwk_109])), (qwc, .inl (g.2.2.1, 18, .inl qwg_105)), (qp, .inr (8, [.int 8, .int 2, .ref qpc, .int qpk_110])), (qpc, .inl (g.2.2.1, 16, .inl qpg_106)), (qhn, .inr (8, [.int 1, .int 6, .ref qhnc, .int qhnk_120])), (qhnc, .inl (g.2.2.1, 6, .inl qhng_113)), (qht, .inr (8, [.int 4, .int 1, .ref qhtc, .int qhtk_121])), (qhtc, .inl (g.2.2.1, 4, .inl qhtg_114)), (qhj, .inr (8, [.int 8, .int 2, .ref qhjc, .int qhjk_122])), (qhjc, .inl (g.2.2.1, 16, .inl qhjg_115)), (qhm, .inr (8, [.int 4, .int 3, .ref qhmc, .int qhmk_123])), (qhmc, .inl (g.2.2.1, 12, .inl qhmg_116)), (qhb, .inr (8, [.int 1, .int 3, .ref qhbc, .int qhbk_124])), (qhbc, .inl (g.2.2.1, 3, .inl qhbg_117)), (qhs, .inr (8, [.int 6, .int 3, .ref qhsc, .int qhsk_125])), (qhsc, .inl (g.2.2.1, 18, .inl qhsg_118)), (qhc, .inr (8, [.int 6, .int 2, .ref qhcc, .int qhck_126])), (qhcc, .inl (g.2.2.1, 12, .inl qhcg_119))] rfl ?_
      refine k_if_eq 77 X dX9_read_63 (by decide) (fun h_131 => ?_) (fun h_131 => ?_)
      · skip
        have iv_132 : IV r_127 0 0 := iv_meet iv_130 (iv_e h_131 (show IV 0 0 0 from (by decide))) (by decide) (by decide)
        refine k_iconst (v := 0) X dX9_read_77 (by decide) ?_
        refine k_istore_n [(2, .int 0), (3, .int u_53), (0, .ref h0), (1, .int p0)] X dX9_read_78 (by decide) rfl ?_
        obtain ⟨z_133, ez_133⟩ : ∃ y : Int32, u_53 + Int32.ofInt 1 = y := ⟨_, rfl⟩
        refine k_iinc z_133 [(3, .int z_133), (2, .int 0), (0, .ref h0), (1, .int p0)] 1 X dX9_read_79 rfl ez_133 (by decide) rfl ?_
        have i_134 : z_133.toInt = u_53.toInt + 1 := in_inc ez_133 (by decide) iv_90 (by decide) (by decide)
        have iv_135 : IV z_133 1 901 := by have := iv_90; rw [IV, i_134]; omega
        refine k_goto 47 X dX9_read_82 (by decide) ?_
        refine k_sub [(nm, .inl (g.2.2.2.1, 16, .inr (.inl nmfg_100))), (ndc, .inl (g.2.2.1, 32, .inl ndfg_101)), (th, .inr (3, [.ref qs, .ref qhn, .ref qht, .ref qhj, .ref qhm, .ref qhb, .ref qhs, .ref qhc])), (qs, .inr (7, [.ref qr, .ref qm, .ref qw, .ref qp, .int qmd2_111, .int qtr2_112])), (qr, .inr (8, [.int 8, .int 3, .ref qrc, .int qrk_107])), (qrc, .inl (g.2.2.1, 24, .inl qrg_103)), (qm, .inr (8, [.int 12, .int 3, .ref qmc, .int qmk_108])), (qmc, .inl (g.2.2.1, 36, .inl qmg_104)), (qw, .inr (8, [.int 6, .int 3, .ref qwc, .int qwk_109])), (qwc, .inl (g.2.2.1, 18, .inl qwg_105)), (qp, .inr (8, [.int 8, .int 2, .ref qpc, .int qpk_110])), (qpc, .inl (g.2.2.1, 16, .inl qpg_106)), (qhn, .inr (8, [.int 1, .int 6, .ref qhnc, .int qhnk_120])), (qhnc, .inl (g.2.2.1, 6, .inl qhng_113)), (qht, .inr (8, [.int 4, .int 1, .ref qhtc, .int qhtk_121])), (qhtc, .inl (g.2.2.1, 4, .inl qhtg_114)), (qhj, .inr (8, [.int 8, .int 2, .ref qhjc, .int qhjk_122])), (qhjc, .inl (g.2.2.1, 16, .inl qhjg_115)), (qhm, .inr (8, [.int 4, .int 3, .ref qhmc, .int qhmk_123])), (qhmc, .inl (g.2.2.1, 12, .inl qhmg_116)), (qhb, .inr (8, [.int 1, .int 3, .ref qhbc, .int qhbk_124])), (qhbc, .inl (g.2.2.1, 3, .inl qhbg_117)), (qhs, .inr (8, [.int 6, .int 3, .ref qhsc, .int qhsk_125])), (qhsc, .inl (g.2.2.1, 18, .inl qhsg_118)), (qhc, .inr (8, [.int 6, .int 2, .ref qhcc, .int qhck_126])), (qhcc, .inl (g.2.2.1, 12, .inl qhcg_119)), (nd, .inr (8, [.int 16, .int 2, .ref ndc, .int ndnk_102])), (h0, .inr (9, [.int 0, .ref th, .int xfn2_91, .int xfp2_92, .ref tp, .int p0, .ref nm, .ref nd, .int xkd2_93, .int xsta2_94, .int xpo2_95, .int xva2_96, .long xle2_97, .int xtk2_98, .int xta2_99])), (tp, .inl (g.2.1, 900, .inl tpf))] [2, 4, 5, 6, 7, 8, 9, 10, 11, 12, 13, 14, 15, 16, 17, 18, 19, 20, 21, 22, 23, 24, 25, 26, 27, 28, 3, 0, 1] rfl (by decide) rfl ?_
        exact ih_82 _ (by omega) ndfg_101 nmfg_100 qhbg_117 qhcg_119 qhjg_115 qhmg_116 qhng_113 qhsg_118 qhtg_114 qmg_104 qpg_106 qrg_103 qwg_105 0 z_133 xpo2_95 xva2_96 xle2_97 xtk2_98 xta2_99 xfn2_91 xfp2_92 xkd2_93 xsta2_94 ndnk_102 qhbk_124 qhck_126 qhjk_122 qhmk_123 qhnk_120 qhsk_125 qhtk_121 qmk_108 qpk_110 qrk_107 qmd2_111 qtr2_112 qwk_109 rfl (iv_w (show IV 0 0 0 from (by decide)) (by decide) (by decide)) (iv_w iv_135 (by decide) (by decide)) (iv_w iv_129 (by decide) (by decide)) (iv_w iv_128 (by decide) (by decide))
      · skip
        have iv_136 : IV r_127 1 1 := iv_neL h_131 iv_130 (show IV 0 0 0 from (by decide)) (by decide)
        refine k_aload_n X dX9_read_66 2 rfl ?_
        refine k_callVI (n := 0) (As := []) (st := []) X [(h0, .inr (9, [.int 0, .ref th, .int xfn2_91, .int xfp2_92, .ref tp, .int p0, .ref nm, .ref nd, .int xkd2_93, .int xsta2_94, .int xpo2_95, .int xva2_96, .long xle2_97, .int xtk2_98, .int xta2_99])), (tp, .inl (g.2.1, 900, .inl tpf)), (nm, .inl (g.2.2.2.1, 16, .inr (.inl nmfg_100))), (nd, .inr (8, [.int 16, .int 2, .ref ndc, .int ndnk_102])), (ndc, .inl (g.2.2.1, 32, .inl ndfg_101)), (th, .inr (3, [.ref qs, .ref qhn, .ref qht, .ref qhj, .ref qhm, .ref qhb, .ref qhs, .ref qhc])), (qs, .inr (7, [.ref qr, .ref qm, .ref qw, .ref qp, .int qmd2_111, .int qtr2_112])), (qr, .inr (8, [.int 8, .int 3, .ref qrc, .int qrk_107])), (qrc, .inl (g.2.2.1, 24, .inl qrg_103)), (qm, .inr (8, [.int 12, .int 3, .ref qmc, .int qmk_108])), (qmc, .inl (g.2.2.1, 36, .inl qmg_104)), (qw, .inr (8, [.int 6, .int 3, .ref qwc, .int qwk_109])), (qwc, .inl (g.2.2.1, 18, .inl qwg_105)), (qp, .inr (8, [.int 8, .int 2, .ref qpc, .int qpk_110])), (qpc, .inl (g.2.2.1, 16, .inl qpg_106)), (qhn, .inr (8, [.int 1, .int 6, .ref qhnc, .int qhnk_120])), (qhnc, .inl (g.2.2.1, 6, .inl qhng_113)), (qht, .inr (8, [.int 4, .int 1, .ref qhtc, .int qhtk_121])), (qhtc, .inl (g.2.2.1, 4, .inl qhtg_114)), (qhj, .inr (8, [.int 8, .int 2, .ref qhjc, .int qhjk_122])), (qhjc, .inl (g.2.2.1, 16, .inl qhjg_115)), (qhm, .inr (8, [.int 4, .int 3, .ref qhmc, .int qhmk_123])), (qhmc, .inl (g.2.2.1, 12, .inl qhmg_116)), (qhb, .inr (8, [.int 1, .int 3, .ref qhbc, .int qhbk_124])), (qhbc, .inl (g.2.2.1, 3, .inl qhbg_117)), (qhs, .inr (8, [.int 6, .int 3, .ref qhsc, .int qhsk_125])), (qhsc, .inl (g.2.2.1, 18, .inl qhsg_118)), (qhc, .inr (8, [.int 6, .int 2, .ref qhcc, .int qhck_126])), (qhcc, .inl (g.2.2.1, 12, .inl qhcg_119))] [] [0, 1, 2, 3, 4, 5, 6, 7, 8, 9, 10, 11, 12, 13, 14, 15, 16, 17, 18, 19, 20, 21, 22, 23, 24, 25, 26, 27, 28] [] (x_isFollowed l g h0 0 th xfn2_91 xfp2_92 tp p0 nm nd xkd2_93 xsta2_94 xpo2_95 xva2_96 xle2_97 xtk2_98 xta2_99 tpf nmfg_100 ndc ndnk_102 ndfg_101 qs qhn qht qhj qhm qhb qhs qhc qr qm qw qp qmd2_111 qtr2_112 qrc qrk_107 qrg_103 qmc qmk_108 qmg_104 qwc qwk_109 qwg_105 qpc qpk_110 qpg_106 qhnc qhnk_120 qhng_113 qhtc qhtk_121 qhtg_114 qhjc qhjk_122 qhjg_115 qhmc qhmk_123 qhmg_116 qhbc qhbk_124 qhbg_117 qhsc qhsk_125 qhsg_118 qhcc qhck_126 qhcg_119 (iv_w hv_p0 (by decide) (by decide)) (iv_w iv_128 (by decide) (by decide)) (iv_w iv_129 (by decide) (by decide))) dX9_read_67 mw434 mw435 mw436 mw15 mw437 rfl 9 rfl rfl 0 _ rfl (by unfold yOk; decide) rfl (Nat.le_of_ble_eq_true rfl) (Nat.le_of_ble_eq_true rfl) (Nat.le_of_ble_eq_true rfl) (Nat.le_of_ble_eq_true rfl) (Nat.le_of_ble_eq_true rfl) rfl rfl (by decide) rfl (by decide) (by decide) ?_
        rintro r_173 w ⟨xfn2_137, xfp2_138, xkd2_139, xsta2_140, xpo2_141, xva2_142, xle2_143, xtk2_144, xta2_145, nmfg_146, ndfg_147, ndnk_148, qrg_149, qmg_150, qwg_151, qpg_152, qrk_153, qmk_154, qwk_155, qpk_156, qmd2_157, qtr2_158, qhng_159, qhtg_160, qhjg_161, qhmg_162, qhbg_163, qhsg_164, qhcg_165, qhnk_166, qhtk_167, qhjk_168, qhmk_169, qhbk_170, qhsk_171, qhck_172, iv_174, iv_175, iv_176, rfl⟩
        refine k_ws [(h0, .inr (9, [.int 0, .ref th, .int xfn2_137, .int xfp2_138, .ref tp, .int p0, .ref nm, .ref nd, .int xkd2_139, .int xsta2_140, .int xpo2_141, .int xva2_142, .long xle2_143, .int xtk2_144, .int xta2_145])), (tp, .inl (g.2.1, 900, .inl tpf)), (nm, .inl (g.2.2.2.1, 16, .inr (.inl nmfg_146))), (nd, .inr (8, [.int 16, .int 2, .ref ndc, .int ndnk_148])), (ndc, .inl (g.2.2.1, 32, .inl ndfg_147)), (th, .inr (3, [.ref qs, .ref qhn, .ref qht, .ref qhj, .ref qhm, .ref qhb, .ref qhs, .ref qhc])), (qs, .inr (7, [.ref qr, .ref qm, .ref qw, .ref qp, .int qmd2_157, .int qtr2_158])), (qr, .inr (8, [.int 8, .int 3, .ref qrc, .int qrk_153])), (qrc, .inl (g.2.2.1, 24, .inl qrg_149)), (qm, .inr (8, [.int 12, .int 3, .ref qmc, .int qmk_154])), (qmc, .inl (g.2.2.1, 36, .inl qmg_150)), (qw, .inr (8, [.int 6, .int 3, .ref qwc, .int qwk_155])), (qwc, .inl (g.2.2.1, 18, .inl qwg_151)), (qp, .inr (8, [.int 8, .int 2, .ref qpc, .int qpk_156])), (qpc, .inl (g.2.2.1, 16, .inl qpg_152)), (qhn, .inr (8, [.int 1, .int 6, .ref qhnc, .int qhnk_166])), (qhnc, .inl (g.2.2.1, 6, .inl qhng_159)), (qht, .inr (8, [.int 4, .int 1, .ref qhtc, .int qhtk_167])), (qhtc, .inl (g.2.2.1, 4, .inl qhtg_160)), (qhj, .inr (8, [.int 8, .int 2, .ref qhjc, .int qhjk_168])), (qhjc, .inl (g.2.2.1, 16, .inl qhjg_161)), (qhm, .inr (8, [.int 4, .int 3, .ref qhmc, .int qhmk_169])), (qhmc, .inl (g.2.2.1, 12, .inl qhmg_162)), (qhb, .inr (8, [.int 1, .int 3, .ref qhbc, .int qhbk_170])), (qhbc, .inl (g.2.2.1, 3, .inl qhbg_163)), (qhs, .inr (8, [.int 6, .int 3, .ref qhsc, .int qhsk_171])), (qhsc, .inl (g.2.2.1, 18, .inl qhsg_164)), (qhc, .inr (8, [.int 6, .int 2, .ref qhcc, .int qhck_172])), (qhcc, .inl (g.2.2.1, 12, .inl qhcg_165))] rfl ?_
        refine k_if_eq 77 X dX9_read_70 (by decide) (fun h_177 => ?_) (fun h_177 => ?_)
        · skip
          have iv_178 : IV r_173 0 0 := iv_meet iv_176 (iv_e h_177 (show IV 0 0 0 from (by decide))) (by decide) (by decide)
          refine k_iconst (v := 0) X dX9_read_77 (by decide) ?_
          refine k_istore_n [(2, .int 0), (3, .int u_53), (0, .ref h0), (1, .int p0)] X dX9_read_78 (by decide) rfl ?_
          obtain ⟨z_179, ez_179⟩ : ∃ y : Int32, u_53 + Int32.ofInt 1 = y := ⟨_, rfl⟩
          refine k_iinc z_179 [(3, .int z_179), (2, .int 0), (0, .ref h0), (1, .int p0)] 1 X dX9_read_79 rfl ez_179 (by decide) rfl ?_
          have i_180 : z_179.toInt = u_53.toInt + 1 := in_inc ez_179 (by decide) iv_90 (by decide) (by decide)
          have iv_181 : IV z_179 1 901 := by have := iv_90; rw [IV, i_180]; omega
          refine k_goto 47 X dX9_read_82 (by decide) ?_
          refine k_sub [(nm, .inl (g.2.2.2.1, 16, .inr (.inl nmfg_146))), (ndc, .inl (g.2.2.1, 32, .inl ndfg_147)), (th, .inr (3, [.ref qs, .ref qhn, .ref qht, .ref qhj, .ref qhm, .ref qhb, .ref qhs, .ref qhc])), (qs, .inr (7, [.ref qr, .ref qm, .ref qw, .ref qp, .int qmd2_157, .int qtr2_158])), (qr, .inr (8, [.int 8, .int 3, .ref qrc, .int qrk_153])), (qrc, .inl (g.2.2.1, 24, .inl qrg_149)), (qm, .inr (8, [.int 12, .int 3, .ref qmc, .int qmk_154])), (qmc, .inl (g.2.2.1, 36, .inl qmg_150)), (qw, .inr (8, [.int 6, .int 3, .ref qwc, .int qwk_155])), (qwc, .inl (g.2.2.1, 18, .inl qwg_151)), (qp, .inr (8, [.int 8, .int 2, .ref qpc, .int qpk_156])), (qpc, .inl (g.2.2.1, 16, .inl qpg_152)), (qhn, .inr (8, [.int 1, .int 6, .ref qhnc, .int qhnk_166])), (qhnc, .inl (g.2.2.1, 6, .inl qhng_159)), (qht, .inr (8, [.int 4, .int 1, .ref qhtc, .int qhtk_167])), (qhtc, .inl (g.2.2.1, 4, .inl qhtg_160)), (qhj, .inr (8, [.int 8, .int 2, .ref qhjc, .int qhjk_168])), (qhjc, .inl (g.2.2.1, 16, .inl qhjg_161)), (qhm, .inr (8, [.int 4, .int 3, .ref qhmc, .int qhmk_169])), (qhmc, .inl (g.2.2.1, 12, .inl qhmg_162)), (qhb, .inr (8, [.int 1, .int 3, .ref qhbc, .int qhbk_170])), (qhbc, .inl (g.2.2.1, 3, .inl qhbg_163)), (qhs, .inr (8, [.int 6, .int 3, .ref qhsc, .int qhsk_171])), (qhsc, .inl (g.2.2.1, 18, .inl qhsg_164)), (qhc, .inr (8, [.int 6, .int 2, .ref qhcc, .int qhck_172])), (qhcc, .inl (g.2.2.1, 12, .inl qhcg_165)), (nd, .inr (8, [.int 16, .int 2, .ref ndc, .int ndnk_148])), (h0, .inr (9, [.int 0, .ref th, .int xfn2_137, .int xfp2_138, .ref tp, .int p0, .ref nm, .ref nd, .int xkd2_139, .int xsta2_140, .int xpo2_141, .int xva2_142, .long xle2_143, .int xtk2_144, .int xta2_145])), (tp, .inl (g.2.1, 900, .inl tpf))] [2, 4, 5, 6, 7, 8, 9, 10, 11, 12, 13, 14, 15, 16, 17, 18, 19, 20, 21, 22, 23, 24, 25, 26, 27, 28, 3, 0, 1] rfl (by decide) rfl ?_
          exact ih_82 _ (by omega) ndfg_147 nmfg_146 qhbg_163 qhcg_165 qhjg_161 qhmg_162 qhng_159 qhsg_164 qhtg_160 qmg_150 qpg_152 qrg_149 qwg_151 0 z_179 xpo2_141 xva2_142 xle2_143 xtk2_144 xta2_145 xfn2_137 xfp2_138 xkd2_139 xsta2_140 ndnk_148 qhbk_170 qhck_172 qhjk_168 qhmk_169 qhnk_166 qhsk_171 qhtk_167 qmk_154 qpk_156 qrk_153 qmd2_157 qtr2_158 qwk_155 rfl (iv_w (show IV 0 0 0 from (by decide)) (by decide) (by decide)) (iv_w iv_181 (by decide) (by decide)) (iv_w iv_175 (by decide) (by decide)) (iv_w iv_174 (by decide) (by decide))
        · skip
          have iv_182 : IV r_173 1 1 := iv_neL h_177 iv_176 (show IV 0 0 0 from (by decide)) (by decide)
          refine k_iconst (v := 1) X dX9_read_73 (by decide) ?_
          refine k_goto 78 X dX9_read_74 (by decide) ?_
          refine k_istore_n [(2, .int 1), (3, .int u_53), (0, .ref h0), (1, .int p0)] X dX9_read_78 (by decide) rfl ?_
          obtain ⟨z_183, ez_183⟩ : ∃ y : Int32, u_53 + Int32.ofInt 1 = y := ⟨_, rfl⟩
          refine k_iinc z_183 [(3, .int z_183), (2, .int 1), (0, .ref h0), (1, .int p0)] 1 X dX9_read_79 rfl ez_183 (by decide) rfl ?_
          have i_184 : z_183.toInt = u_53.toInt + 1 := in_inc ez_183 (by decide) iv_90 (by decide) (by decide)
          have iv_185 : IV z_183 1 901 := by have := iv_90; rw [IV, i_184]; omega
          refine k_goto 47 X dX9_read_82 (by decide) ?_
          refine k_sub [(nm, .inl (g.2.2.2.1, 16, .inr (.inl nmfg_146))), (ndc, .inl (g.2.2.1, 32, .inl ndfg_147)), (th, .inr (3, [.ref qs, .ref qhn, .ref qht, .ref qhj, .ref qhm, .ref qhb, .ref qhs, .ref qhc])), (qs, .inr (7, [.ref qr, .ref qm, .ref qw, .ref qp, .int qmd2_157, .int qtr2_158])), (qr, .inr (8, [.int 8, .int 3, .ref qrc, .int qrk_153])), (qrc, .inl (g.2.2.1, 24, .inl qrg_149)), (qm, .inr (8, [.int 12, .int 3, .ref qmc, .int qmk_154])), (qmc, .inl (g.2.2.1, 36, .inl qmg_150)), (qw, .inr (8, [.int 6, .int 3, .ref qwc, .int qwk_155])), (qwc, .inl (g.2.2.1, 18, .inl qwg_151)), (qp, .inr (8, [.int 8, .int 2, .ref qpc, .int qpk_156])), (qpc, .inl (g.2.2.1, 16, .inl qpg_152)), (qhn, .inr (8, [.int 1, .int 6, .ref qhnc, .int qhnk_166])), (qhnc, .inl (g.2.2.1, 6, .inl qhng_159)), (qht, .inr (8, [.int 4, .int 1, .ref qhtc, .int qhtk_167])), (qhtc, .inl (g.2.2.1, 4, .inl qhtg_160)), (qhj, .inr (8, [.int 8, .int 2, .ref qhjc, .int qhjk_168])), (qhjc, .inl (g.2.2.1, 16, .inl qhjg_161)), (qhm, .inr (8, [.int 4, .int 3, .ref qhmc, .int qhmk_169])), (qhmc, .inl (g.2.2.1, 12, .inl qhmg_162)), (qhb, .inr (8, [.int 1, .int 3, .ref qhbc, .int qhbk_170])), (qhbc, .inl (g.2.2.1, 3, .inl qhbg_163)), (qhs, .inr (8, [.int 6, .int 3, .ref qhsc, .int qhsk_171])), (qhsc, .inl (g.2.2.1, 18, .inl qhsg_164)), (qhc, .inr (8, [.int 6, .int 2, .ref qhcc, .int qhck_172])), (qhcc, .inl (g.2.2.1, 12, .inl qhcg_165)), (nd, .inr (8, [.int 16, .int 2, .ref ndc, .int ndnk_148])), (h0, .inr (9, [.int 0, .ref th, .int xfn2_137, .int xfp2_138, .ref tp, .int p0, .ref nm, .ref nd, .int xkd2_139, .int xsta2_140, .int xpo2_141, .int xva2_142, .long xle2_143, .int xtk2_144, .int xta2_145])), (tp, .inl (g.2.1, 900, .inl tpf))] [2, 4, 5, 6, 7, 8, 9, 10, 11, 12, 13, 14, 15, 16, 17, 18, 19, 20, 21, 22, 23, 24, 25, 26, 27, 28, 3, 0, 1] rfl (by decide) rfl ?_
          exact ih_82 _ (by omega) ndfg_147 nmfg_146 qhbg_163 qhcg_165 qhjg_161 qhmg_162 qhng_159 qhsg_164 qhtg_160 qmg_150 qpg_152 qrg_149 qwg_151 1 z_183 xpo2_141 xva2_142 xle2_143 xtk2_144 xta2_145 xfn2_137 xfp2_138 xkd2_139 xsta2_140 ndnk_148 qhbk_170 qhck_172 qhjk_168 qhmk_169 qhnk_166 qhsk_171 qhtk_167 qmk_154 qpk_156 qrk_153 qmd2_157 qtr2_158 qwk_155 rfl (iv_w (show IV 1 1 1 from (by decide)) (by decide) (by decide)) (iv_w iv_185 (by decide) (by decide)) (iv_w iv_175 (by decide) (by decide)) (iv_w iv_174 (by decide) (by decide))

theorem dX4_forget_0 : decode cX4_forget 0 = .ok (.aload_n 0, 1) := by decide +kernel
theorem dX4_forget_1 : decode cX4_forget 1 = .ok (.iconst 0, 1) := by decide +kernel
theorem dX4_forget_2 : decode cX4_forget 2 = .ok (.putfield 20, 3) := by decide +kernel
theorem dX4_forget_5 : decode cX4_forget 5 = .ok (.aload_n 0, 1) := by decide +kernel
theorem dX4_forget_6 : decode cX4_forget 6 = .ok (.iconst 0, 1) := by decide +kernel
theorem dX4_forget_7 : decode cX4_forget 7 = .ok (.putfield 27, 3) := by decide +kernel
theorem dX4_forget_10 : decode cX4_forget 10 = .ok (.return_, 1) := by decide +kernel
set_option maxHeartbeats 4000000 in
set_option maxRecDepth 100000 in
theorem g_forget (l : Launch) (g : Gx) (kk : Nat) (kah : Nat) (kig : Nat) (kac : Int32) (knx : Int32) (kim : Int32) : cV l g yX4_forget cX4_forget 1 0 0 0 0 [.ref kk] [(kk, .inr (4, [.ref kah, .ref kig, .int kac, .int knx, .int kim]))] (fun w => ∃ (kac2 : Int32) (kim2 : Int32), IV kac2 0 0 ∧ IV kim2 0 0 ∧ w = [(kk, .inr (4, [.ref kah, .ref kig, .int kac2, .int knx, .int kim2]))]) := by
  refine cV.of (by decide) (Nat.le_of_ble_eq_true rfl) ?_
  intro p e s m args below meth c A X hr hi
  refine k_lveq [(0, .ref kk)] rfl ?_
  refine k_aload_n X dX4_forget_0 0 rfl ?_
  refine k_iconst (v := 0) X dX4_forget_1 (by decide) ?_
  refine k_put (ci := 4) [(kk, .inr (4, [.ref kah, .ref kig, .int 0, .int knx, .int kim]))] X inlX4 rfl tyX4_ok nmX4 2 (by decide) rfl dX4_forget_2 mw118 0 rfl rfl rfl (Nat.le_of_ble_eq_true rfl) rfl ?_
  refine k_aload_n X dX4_forget_5 0 rfl ?_
  refine k_iconst (v := 0) X dX4_forget_6 (by decide) ?_
  refine k_put (ci := 4) [(kk, .inr (4, [.ref kah, .ref kig, .int 0, .int knx, .int 0]))] X inlX4 rfl tyX4_ok nmX4 4 (by decide) rfl dX4_forget_7 mw120 0 rfl rfl rfl (Nat.le_of_ble_eq_true rfl) rfl ?_
  exact k_vret X hr dX4_forget_10 (Nat.le_of_ble_eq_true rfl) (Nat.le_of_ble_eq_true rfl) [0] (by decide) rfl rfl ⟨0, 0, (iv_w (show IV 0 0 0 from (by decide)) (by decide) (by decide)), (iv_w (show IV 0 0 0 from (by decide)) (by decide) (by decide)), rfl⟩

theorem dX10_fault_0 : decode cX10_fault 0 = .ok (.aload_n 0, 1) := by decide +kernel
theorem dX10_fault_1 : decode cX10_fault 1 = .ok (.getfield 10, 3) := by decide +kernel
theorem dX10_fault_4 : decode cX10_fault 4 = .ok (.getfield 90, 3) := by decide +kernel
theorem dX10_fault_7 : decode cX10_fault 7 = .ok (.ireturn, 1) := by decide +kernel
set_option maxHeartbeats 4000000 in
set_option maxRecDepth 100000 in
theorem c_fault (l : Launch) (g : Gx) (h0 : Nat) (tt : Nat) (v1h0 : Value) (v2h0 : Value) (v3h0 : Value) (v4h0 : Value) (v5h0 : Value) (v6h0 : Value) (v7h0 : Value) (v8h0 : Value) (tr : Int32) (xtpd : Int32) (th : Nat) (xfn : Int32) (xfp : Int32) (tp : Nat) (xen : Int32) (nm : Nat) (nd : Nat) (xkd : Int32) (xsta : Int32) (xpo : Int32) (xva : Int32) (xle : Int64) (xtk : Int32) (xta : Int32) (tpf : Nat → Int32) : cI l g yX10_fault cX10_fault 1 (some .int) 0 0 0 0 [.ref h0] [(h0, .inr (10, [.ref tt, v1h0, v2h0, v3h0, v4h0, v5h0, v6h0, v7h0, v8h0, .int tr])), (tt, .inr (9, [.int xtpd, .ref th, .int xfn, .int xfp, .ref tp, .int xen, .ref nm, .ref nd, .int xkd, .int xsta, .int xpo, .int xva, .long xle, .int xtk, .int xta])), (tp, .inl (g.2.1, 900, .inl tpf))] (fun r w => w = [(h0, .inr (10, [.ref tt, v1h0, v2h0, v3h0, v4h0, v5h0, v6h0, v7h0, v8h0, .int tr])), (tt, .inr (9, [.int xtpd, .ref th, .int xfn, .int xfp, .ref tp, .int xen, .ref nm, .ref nd, .int xkd, .int xsta, .int xpo, .int xva, .long xle, .int xtk, .int xta])), (tp, .inl (g.2.1, 900, .inl tpf))]) := by
  refine cI.of (by decide) (Nat.le_of_ble_eq_true rfl) ?_
  intro p e s m args below meth c A X hr hi
  refine k_lveq [(0, .ref h0)] rfl ?_
  refine k_aload_n X dX10_fault_0 0 rfl ?_
  refine k_get (ci := 10) X inlX10 rfl 0 (by decide) dX10_fault_1 mw16 0 rfl rfl ?_
  refine k_get (ci := 9) X inlX9 rfl 2 (by decide) dX10_fault_4 mw210 1 rfl rfl ?_
  exact k_iret X hr dX10_fault_7 (Nat.le_of_ble_eq_true rfl) (Nat.le_of_ble_eq_true rfl) [0, 1, 2] (by decide) rfl rfl rfl

theorem dX10_where_0 : decode cX10_where 0 = .ok (.aload_n 0, 1) := by decide +kernel
theorem dX10_where_1 : decode cX10_where 1 = .ok (.getfield 72, 3) := by decide +kernel
theorem dX10_where_4 : decode cX10_where 4 = .ok (.iconst 4, 1) := by decide +kernel
theorem dX10_where_5 : decode cX10_where 5 = .ok (.if_icmp .ne 13, 3) := by decide +kernel
theorem dX10_where_8 : decode cX10_where 8 = .ok (.aload_n 0, 1) := by decide +kernel
theorem dX10_where_9 : decode cX10_where 9 = .ok (.getfield 10, 3) := by decide +kernel
theorem dX10_where_12 : decode cX10_where 12 = .ok (.getfield 121, 3) := by decide +kernel
theorem dX10_where_15 : decode cX10_where 15 = .ok (.goto 4, 3) := by decide +kernel
theorem dX10_where_18 : decode cX10_where 18 = .ok (.iconst (-1), 1) := by decide +kernel
theorem dX10_where_19 : decode cX10_where 19 = .ok (.ireturn, 1) := by decide +kernel
set_option maxHeartbeats 4000000 in
set_option maxRecDepth 100000 in
theorem c_where (l : Launch) (g : Gx) (h0 : Nat) (tt : Nat) (v1h0 : Value) (v2h0 : Value) (v3h0 : Value) (v4h0 : Value) (v5h0 : Value) (v6h0 : Value) (v7h0 : Value) (v8h0 : Value) (tr : Int32) (xtpd : Int32) (th : Nat) (xfn : Int32) (xfp : Int32) (tp : Nat) (xen : Int32) (nm : Nat) (nd : Nat) (xkd : Int32) (xsta : Int32) (xpo : Int32) (xva : Int32) (xle : Int64) (xtk : Int32) (xta : Int32) (tpf : Nat → Int32) : cI l g yX10_where cX10_where 1 (some .int) 0 0 0 0 [.ref h0] [(h0, .inr (10, [.ref tt, v1h0, v2h0, v3h0, v4h0, v5h0, v6h0, v7h0, v8h0, .int tr])), (tt, .inr (9, [.int xtpd, .ref th, .int xfn, .int xfp, .ref tp, .int xen, .ref nm, .ref nd, .int xkd, .int xsta, .int xpo, .int xva, .long xle, .int xtk, .int xta])), (tp, .inl (g.2.1, 900, .inl tpf))] (fun r w => w = [(h0, .inr (10, [.ref tt, v1h0, v2h0, v3h0, v4h0, v5h0, v6h0, v7h0, v8h0, .int tr])), (tt, .inr (9, [.int xtpd, .ref th, .int xfn, .int xfp, .ref tp, .int xen, .ref nm, .ref nd, .int xkd, .int xsta, .int xpo, .int xva, .long xle, .int xtk, .int xta])), (tp, .inl (g.2.1, 900, .inl tpf))]) := by
  refine cI.of (by decide) (Nat.le_of_ble_eq_true rfl) ?_
  intro p e s m args below meth c A X hr hi
  refine k_lveq [(0, .ref h0)] rfl ?_
  refine k_aload_n X dX10_where_0 0 rfl ?_
  refine k_get (ci := 10) X inlX10 rfl 9 (by decide) dX10_where_1 mw49 0 rfl rfl ?_
  refine k_iconst (v := 4) X dX10_where_4 (by decide) ?_
  refine k_ic_ne 18 X dX10_where_5 (by decide) (fun h_1 => ?_) (fun h_1 => ?_)
  · skip
    refine k_iconst (v := -1) X dX10_where_18 (by decide) ?_
    exact k_iret X hr dX10_where_19 (Nat.le_of_ble_eq_true rfl) (Nat.le_of_ble_eq_true rfl) [0, 1, 2] (by decide) rfl rfl rfl
  · skip
    have iv_2 : IV tr 4 4 := iv_meet (iv_any tr) (iv_e h_1 (show IV 4 4 4 from (by decide))) (by decide) (by decide)
    refine k_aload_n X dX10_where_8 0 rfl ?_
    refine k_get (ci := 10) X inlX10 rfl 0 (by decide) dX10_where_9 mw16 0 rfl rfl ?_
    refine k_get (ci := 9) X inlX9 rfl 3 (by decide) dX10_where_12 mw634 1 rfl rfl ?_
    refine k_goto 19 X dX10_where_15 (by decide) ?_
    exact k_iret X hr dX10_where_19 (Nat.le_of_ble_eq_true rfl) (Nat.le_of_ble_eq_true rfl) [0, 1, 2] (by decide) rfl rfl rfl

theorem dX10_trouble_0 : decode cX10_trouble 0 = .ok (.aload_n 0, 1) := by decide +kernel
theorem dX10_trouble_1 : decode cX10_trouble 1 = .ok (.getfield 72, 3) := by decide +kernel
theorem dX10_trouble_4 : decode cX10_trouble 4 = .ok (.ireturn, 1) := by decide +kernel
set_option maxHeartbeats 4000000 in
set_option maxRecDepth 100000 in
theorem c_trouble (l : Launch) (g : Gx) (h0 : Nat) (v0h0 : Value) (v1h0 : Value) (v2h0 : Value) (v3h0 : Value) (v4h0 : Value) (v5h0 : Value) (v6h0 : Value) (v7h0 : Value) (v8h0 : Value) (tr : Int32) : cI l g yX10_trouble cX10_trouble 1 (some .int) 0 0 0 0 [.ref h0] [(h0, .inr (10, [v0h0, v1h0, v2h0, v3h0, v4h0, v5h0, v6h0, v7h0, v8h0, .int tr]))] (fun r w => w = [(h0, .inr (10, [v0h0, v1h0, v2h0, v3h0, v4h0, v5h0, v6h0, v7h0, v8h0, .int tr]))]) := by
  refine cI.of (by decide) (Nat.le_of_ble_eq_true rfl) ?_
  intro p e s m args below meth c A X hr hi
  refine k_lveq [(0, .ref h0)] rfl ?_
  refine k_aload_n X dX10_trouble_0 0 rfl ?_
  refine k_get (ci := 10) X inlX10 rfl 9 (by decide) dX10_trouble_1 mw49 0 rfl rfl ?_
  exact k_iret X hr dX10_trouble_4 (Nat.le_of_ble_eq_true rfl) (Nat.le_of_ble_eq_true rfl) [0] (by decide) rfl rfl rfl

theorem dX10_size_0 : decode cX10_size 0 = .ok (.iload_n 1, 1) := by decide +kernel
theorem dX10_size_1 : decode cX10_size 1 = .ok (.ifCond .lt 17, 3) := by decide +kernel
theorem dX10_size_4 : decode cX10_size 4 = .ok (.iload_n 1, 1) := by decide +kernel
theorem dX10_size_5 : decode cX10_size 5 = .ok (.iconst 5, 1) := by decide +kernel
theorem dX10_size_6 : decode cX10_size 6 = .ok (.if_icmp .gt 12, 3) := by decide +kernel
theorem dX10_size_9 : decode cX10_size 9 = .ok (.aload_n 0, 1) := by decide +kernel
theorem dX10_size_10 : decode cX10_size 10 = .ok (.getfield 19, 3) := by decide +kernel
theorem dX10_size_13 : decode cX10_size 13 = .ok (.iload_n 1, 1) := by decide +kernel
theorem dX10_size_14 : decode cX10_size 14 = .ok (.invokevirtual 287, 3) := by decide +kernel
theorem dX10_size_17 : decode cX10_size 17 = .ok (.ireturn, 1) := by decide +kernel
theorem dX10_size_18 : decode cX10_size 18 = .ok (.iload_n 1, 1) := by decide +kernel
theorem dX10_size_19 : decode cX10_size 19 = .ok (.tableswitch 195 6 17 #[61, 72, 83, 94, 116, 127, 138, 149, 160, 171, 179, 187], 61) := by decide +kernel
theorem dX10_size_80 : decode cX10_size 80 = .ok (.aload_n 0, 1) := by decide +kernel
theorem dX10_size_81 : decode cX10_size 81 = .ok (.getfield 26, 3) := by decide +kernel
theorem dX10_size_84 : decode cX10_size 84 = .ok (.getfield 124, 3) := by decide +kernel
theorem dX10_size_87 : decode cX10_size 87 = .ok (.getfield 113, 3) := by decide +kernel
theorem dX10_size_90 : decode cX10_size 90 = .ok (.ireturn, 1) := by decide +kernel
theorem dX10_size_91 : decode cX10_size 91 = .ok (.aload_n 0, 1) := by decide +kernel
theorem dX10_size_92 : decode cX10_size 92 = .ok (.getfield 19, 3) := by decide +kernel
theorem dX10_size_95 : decode cX10_size 95 = .ok (.getfield 150, 3) := by decide +kernel
theorem dX10_size_98 : decode cX10_size 98 = .ok (.getfield 113, 3) := by decide +kernel
theorem dX10_size_101 : decode cX10_size 101 = .ok (.ireturn, 1) := by decide +kernel
theorem dX10_size_102 : decode cX10_size 102 = .ok (.aload_n 0, 1) := by decide +kernel
theorem dX10_size_103 : decode cX10_size 103 = .ok (.getfield 26, 3) := by decide +kernel
theorem dX10_size_106 : decode cX10_size 106 = .ok (.getfield 131, 3) := by decide +kernel
theorem dX10_size_109 : decode cX10_size 109 = .ok (.getfield 113, 3) := by decide +kernel
theorem dX10_size_112 : decode cX10_size 112 = .ok (.ireturn, 1) := by decide +kernel
theorem dX10_size_113 : decode cX10_size 113 = .ok (.aload_n 0, 1) := by decide +kernel
theorem dX10_size_114 : decode cX10_size 114 = .ok (.getfield 19, 3) := by decide +kernel
theorem dX10_size_117 : decode cX10_size 117 = .ok (.getfield 138, 3) := by decide +kernel
theorem dX10_size_120 : decode cX10_size 120 = .ok (.getfield 113, 3) := by decide +kernel
theorem dX10_size_123 : decode cX10_size 123 = .ok (.aload_n 0, 1) := by decide +kernel
theorem dX10_size_124 : decode cX10_size 124 = .ok (.getfield 26, 3) := by decide +kernel
theorem dX10_size_127 : decode cX10_size 127 = .ok (.getfield 366, 3) := by decide +kernel
theorem dX10_size_130 : decode cX10_size 130 = .ok (.invokestatic 369, 3) := by decide +kernel
theorem dX10_size_133 : decode cX10_size 133 = .ok (.iadd, 1) := by decide +kernel
theorem dX10_size_134 : decode cX10_size 134 = .ok (.ireturn, 1) := by decide +kernel
theorem dX10_size_135 : decode cX10_size 135 = .ok (.aload_n 0, 1) := by decide +kernel
theorem dX10_size_136 : decode cX10_size 136 = .ok (.getfield 26, 3) := by decide +kernel
theorem dX10_size_139 : decode cX10_size 139 = .ok (.getfield 144, 3) := by decide +kernel
theorem dX10_size_142 : decode cX10_size 142 = .ok (.getfield 113, 3) := by decide +kernel
theorem dX10_size_145 : decode cX10_size 145 = .ok (.ireturn, 1) := by decide +kernel
theorem dX10_size_146 : decode cX10_size 146 = .ok (.aload_n 0, 1) := by decide +kernel
theorem dX10_size_147 : decode cX10_size 147 = .ok (.getfield 19, 3) := by decide +kernel
theorem dX10_size_150 : decode cX10_size 150 = .ok (.getfield 191, 3) := by decide +kernel
theorem dX10_size_153 : decode cX10_size 153 = .ok (.getfield 113, 3) := by decide +kernel
theorem dX10_size_156 : decode cX10_size 156 = .ok (.ireturn, 1) := by decide +kernel
theorem dX10_size_157 : decode cX10_size 157 = .ok (.aload_n 0, 1) := by decide +kernel
theorem dX10_size_158 : decode cX10_size 158 = .ok (.getfield 26, 3) := by decide +kernel
theorem dX10_size_161 : decode cX10_size 161 = .ok (.getfield 109, 3) := by decide +kernel
theorem dX10_size_164 : decode cX10_size 164 = .ok (.getfield 113, 3) := by decide +kernel
theorem dX10_size_167 : decode cX10_size 167 = .ok (.ireturn, 1) := by decide +kernel
theorem dX10_size_168 : decode cX10_size 168 = .ok (.aload_n 0, 1) := by decide +kernel
theorem dX10_size_169 : decode cX10_size 169 = .ok (.getfield 19, 3) := by decide +kernel
theorem dX10_size_172 : decode cX10_size 172 = .ok (.getfield 188, 3) := by decide +kernel
theorem dX10_size_175 : decode cX10_size 175 = .ok (.getfield 113, 3) := by decide +kernel
theorem dX10_size_178 : decode cX10_size 178 = .ok (.ireturn, 1) := by decide +kernel
theorem dX10_size_179 : decode cX10_size 179 = .ok (.aload_n 0, 1) := by decide +kernel
theorem dX10_size_180 : decode cX10_size 180 = .ok (.getfield 19, 3) := by decide +kernel
theorem dX10_size_183 : decode cX10_size 183 = .ok (.getfield 256, 3) := by decide +kernel
theorem dX10_size_186 : decode cX10_size 186 = .ok (.getfield 113, 3) := by decide +kernel
theorem dX10_size_189 : decode cX10_size 189 = .ok (.ireturn, 1) := by decide +kernel
theorem dX10_size_190 : decode cX10_size 190 = .ok (.aload_n 0, 1) := by decide +kernel
theorem dX10_size_191 : decode cX10_size 191 = .ok (.getfield 33, 3) := by decide +kernel
theorem dX10_size_194 : decode cX10_size 194 = .ok (.getfield 372, 3) := by decide +kernel
theorem dX10_size_197 : decode cX10_size 197 = .ok (.ireturn, 1) := by decide +kernel
theorem dX10_size_198 : decode cX10_size 198 = .ok (.aload_n 0, 1) := by decide +kernel
theorem dX10_size_199 : decode cX10_size 199 = .ok (.getfield 33, 3) := by decide +kernel
theorem dX10_size_202 : decode cX10_size 202 = .ok (.getfield 375, 3) := by decide +kernel
theorem dX10_size_205 : decode cX10_size 205 = .ok (.ireturn, 1) := by decide +kernel
theorem dX10_size_206 : decode cX10_size 206 = .ok (.aload_n 0, 1) := by decide +kernel
theorem dX10_size_207 : decode cX10_size 207 = .ok (.getfield 10, 3) := by decide +kernel
theorem dX10_size_210 : decode cX10_size 210 = .ok (.getfield 76, 3) := by decide +kernel
theorem dX10_size_213 : decode cX10_size 213 = .ok (.ireturn, 1) := by decide +kernel
theorem dX10_size_214 : decode cX10_size 214 = .ok (.iconst (-1), 1) := by decide +kernel
theorem dX10_size_215 : decode cX10_size 215 = .ok (.ireturn, 1) := by decide +kernel
set_option maxHeartbeats 4000000 in
set_option maxRecDepth 100000 in
theorem c_size (l : Launch) (g : Gx) (h0 : Nat) (p0 : Int32) (tt : Nat) (tl : Nat) (nw : Nat) (kk : Nat) (v4h0 : Value) (v5h0 : Value) (v6h0 : Value) (v7h0 : Value) (v8h0 : Value) (tr : Int32) (xtpd : Int32) (th : Nat) (xfn : Int32) (xfp : Int32) (tp : Nat) (xen : Int32) (nm : Nat) (nd : Nat) (xkd : Int32) (xsta : Int32) (xpo : Int32) (xva : Int32) (xle : Int64) (xtk : Int32) (xta : Int32) (tpf : Nat → Int32) (ys : Nat) (yhn : Nat) (yht : Nat) (yhj : Nat) (yhm : Nat) (yhb : Nat) (yhs : Nat) (yhc : Nat) (yr : Nat) (ym : Nat) (yw : Nat) (yp : Nat) (ymd : Int32) (ytr : Int32) (yrc : Nat) (yrn : Int32) (yrf : Nat → Int32) (ymc : Nat) (ymn : Int32) (ymf : Nat → Int32) (ywc : Nat) (ywn : Int32) (ywf : Nat → Int32) (ypc : Nat) (ypn : Int32) (ypf : Nat → Int32) (yhnc : Nat) (yhnn : Int32) (yhnf : Nat → Int32) (yhtc : Nat) (yhtn : Int32) (yhtf : Nat → Int32) (yhjc : Nat) (yhjn : Int32) (yhjf : Nat → Int32) (yhmc : Nat) (yhmn : Int32) (yhmf : Nat → Int32) (yhbc : Nat) (yhbn : Int32) (yhbf : Nat → Int32) (yhsc : Nat) (yhsn : Int32) (yhsf : Nat → Int32) (yhcc : Nat) (yhcn : Int32) (yhcf : Nat → Int32) (zr : Nat) (zm : Nat) (zw : Nat) (zp : Nat) (zmd : Int32) (ztr : Int32) (zrc : Nat) (zrn : Int32) (zrf : Nat → Int32) (zmc : Nat) (zmn : Int32) (zmf : Nat → Int32) (zwc : Nat) (zwn : Int32) (zwf : Nat → Int32) (zpc : Nat) (zpn : Int32) (zpf : Nat → Int32) (kah : Nat) (kig : Nat) (kac : Int32) (knx : Int32) (kim : Int32) : cI l g yX10_size cX10_size 2 (some .int) 2 43 0 0 [.ref h0, .int p0] [(h0, .inr (10, [.ref tt, .ref tl, .ref nw, .ref kk, v4h0, v5h0, v6h0, v7h0, v8h0, .int tr])), (tt, .inr (9, [.int xtpd, .ref th, .int xfn, .int xfp, .ref tp, .int xen, .ref nm, .ref nd, .int xkd, .int xsta, .int xpo, .int xva, .long xle, .int xtk, .int xta])), (tp, .inl (g.2.1, 900, .inl tpf)), (tl, .inr (3, [.ref ys, .ref yhn, .ref yht, .ref yhj, .ref yhm, .ref yhb, .ref yhs, .ref yhc])), (ys, .inr (7, [.ref yr, .ref ym, .ref yw, .ref yp, .int ymd, .int ytr])), (yr, .inr (8, [.int 8, .int 3, .ref yrc, .int yrn])), (yrc, .inl (g.2.2.1, 24, .inl yrf)), (ym, .inr (8, [.int 12, .int 3, .ref ymc, .int ymn])), (ymc, .inl (g.2.2.1, 36, .inl ymf)), (yw, .inr (8, [.int 6, .int 3, .ref ywc, .int ywn])), (ywc, .inl (g.2.2.1, 18, .inl ywf)), (yp, .inr (8, [.int 8, .int 2, .ref ypc, .int ypn])), (ypc, .inl (g.2.2.1, 16, .inl ypf)), (yhn, .inr (8, [.int 1, .int 6, .ref yhnc, .int yhnn])), (yhnc, .inl (g.2.2.1, 6, .inl yhnf)), (yht, .inr (8, [.int 4, .int 1, .ref yhtc, .int yhtn])), (yhtc, .inl (g.2.2.1, 4, .inl yhtf)), (yhj, .inr (8, [.int 8, .int 2, .ref yhjc, .int yhjn])), (yhjc, .inl (g.2.2.1, 16, .inl yhjf)), (yhm, .inr (8, [.int 4, .int 3, .ref yhmc, .int yhmn])), (yhmc, .inl (g.2.2.1, 12, .inl yhmf)), (yhb, .inr (8, [.int 1, .int 3, .ref yhbc, .int yhbn])), (yhbc, .inl (g.2.2.1, 3, .inl yhbf)), (yhs, .inr (8, [.int 6, .int 3, .ref yhsc, .int yhsn])), (yhsc, .inl (g.2.2.1, 18, .inl yhsf)), (yhc, .inr (8, [.int 6, .int 2, .ref yhcc, .int yhcn])), (yhcc, .inl (g.2.2.1, 12, .inl yhcf)), (nw, .inr (7, [.ref zr, .ref zm, .ref zw, .ref zp, .int zmd, .int ztr])), (zr, .inr (8, [.int 8, .int 3, .ref zrc, .int zrn])), (zrc, .inl (g.2.2.1, 24, .inl zrf)), (zm, .inr (8, [.int 12, .int 3, .ref zmc, .int zmn])), (zmc, .inl (g.2.2.1, 36, .inl zmf)), (zw, .inr (8, [.int 6, .int 3, .ref zwc, .int zwn])), (zwc, .inl (g.2.2.1, 18, .inl zwf)), (zp, .inr (8, [.int 8, .int 2, .ref zpc, .int zpn])), (zpc, .inl (g.2.2.1, 16, .inl zpf)), (kk, .inr (4, [.ref kah, .ref kig, .int kac, .int knx, .int kim]))] (fun r w => w = [(h0, .inr (10, [.ref tt, .ref tl, .ref nw, .ref kk, v4h0, v5h0, v6h0, v7h0, v8h0, .int tr])), (tt, .inr (9, [.int xtpd, .ref th, .int xfn, .int xfp, .ref tp, .int xen, .ref nm, .ref nd, .int xkd, .int xsta, .int xpo, .int xva, .long xle, .int xtk, .int xta])), (tp, .inl (g.2.1, 900, .inl tpf)), (tl, .inr (3, [.ref ys, .ref yhn, .ref yht, .ref yhj, .ref yhm, .ref yhb, .ref yhs, .ref yhc])), (ys, .inr (7, [.ref yr, .ref ym, .ref yw, .ref yp, .int ymd, .int ytr])), (yr, .inr (8, [.int 8, .int 3, .ref yrc, .int yrn])), (yrc, .inl (g.2.2.1, 24, .inl yrf)), (ym, .inr (8, [.int 12, .int 3, .ref ymc, .int ymn])), (ymc, .inl (g.2.2.1, 36, .inl ymf)), (yw, .inr (8, [.int 6, .int 3, .ref ywc, .int ywn])), (ywc, .inl (g.2.2.1, 18, .inl ywf)), (yp, .inr (8, [.int 8, .int 2, .ref ypc, .int ypn])), (ypc, .inl (g.2.2.1, 16, .inl ypf)), (yhn, .inr (8, [.int 1, .int 6, .ref yhnc, .int yhnn])), (yhnc, .inl (g.2.2.1, 6, .inl yhnf)), (yht, .inr (8, [.int 4, .int 1, .ref yhtc, .int yhtn])), (yhtc, .inl (g.2.2.1, 4, .inl yhtf)), (yhj, .inr (8, [.int 8, .int 2, .ref yhjc, .int yhjn])), (yhjc, .inl (g.2.2.1, 16, .inl yhjf)), (yhm, .inr (8, [.int 4, .int 3, .ref yhmc, .int yhmn])), (yhmc, .inl (g.2.2.1, 12, .inl yhmf)), (yhb, .inr (8, [.int 1, .int 3, .ref yhbc, .int yhbn])), (yhbc, .inl (g.2.2.1, 3, .inl yhbf)), (yhs, .inr (8, [.int 6, .int 3, .ref yhsc, .int yhsn])), (yhsc, .inl (g.2.2.1, 18, .inl yhsf)), (yhc, .inr (8, [.int 6, .int 2, .ref yhcc, .int yhcn])), (yhcc, .inl (g.2.2.1, 12, .inl yhcf)), (nw, .inr (7, [.ref zr, .ref zm, .ref zw, .ref zp, .int zmd, .int ztr])), (zr, .inr (8, [.int 8, .int 3, .ref zrc, .int zrn])), (zrc, .inl (g.2.2.1, 24, .inl zrf)), (zm, .inr (8, [.int 12, .int 3, .ref zmc, .int zmn])), (zmc, .inl (g.2.2.1, 36, .inl zmf)), (zw, .inr (8, [.int 6, .int 3, .ref zwc, .int zwn])), (zwc, .inl (g.2.2.1, 18, .inl zwf)), (zp, .inr (8, [.int 8, .int 2, .ref zpc, .int zpn])), (zpc, .inl (g.2.2.1, 16, .inl zpf)), (kk, .inr (4, [.ref kah, .ref kig, .int kac, .int knx, .int kim]))]) := by
  refine cI.of (by decide) (Nat.le_of_ble_eq_true rfl) ?_
  intro p e s m args below meth c A X hr hi
  refine k_lveq [(0, .ref h0), (1, .int p0)] rfl ?_
  refine k_iload_n X dX10_size_0 1 rfl ?_
  refine k_if_lt 18 X dX10_size_1 (by decide) (fun h_1 => ?_) (fun h_1 => ?_)
  · skip
    have j_2 : p0.toInt < 0 := iv_lt h_1
    have iv_3 : IV p0 (-2147483648) (-1) := iv_ltL (iv_lt h_1) (iv_any p0) (show IV 0 0 0 from (by decide)) (by decide)
    refine k_iload_n X dX10_size_18 1 rfl ?_
    by_cases h_4 : p0 = 6
    · skip
      refine k_tableIn 80 X dX10_size_19 (by rw [h_4]; decide) (by rw [h_4]; decide) (off := 61) (by rw [h_4]; rfl) (by decide) ?_
      refine k_aload_n X dX10_size_80 0 rfl ?_
      refine k_get (ci := 10) X inlX10 rfl 2 (by decide) dX10_size_81 mw24 0 rfl rfl ?_
      refine k_get (ci := 7) X inlX7 rfl 0 (by decide) dX10_size_84 mw643 27 rfl rfl ?_
      refine k_get (ci := 8) X inlX8 rfl 3 (by decide) dX10_size_87 mw214 28 rfl rfl ?_
      exact k_iret X hr dX10_size_90 (Nat.le_of_ble_eq_true rfl) (Nat.le_of_ble_eq_true rfl) [0, 1, 2, 3, 4, 5, 6, 7, 8, 9, 10, 11, 12, 13, 14, 15, 16, 17, 18, 19, 20, 21, 22, 23, 24, 25, 26, 27, 28, 29, 30, 31, 32, 33, 34, 35, 36] (by decide) rfl rfl rfl
    by_cases h_5 : p0 = 7
    · skip
      refine k_tableIn 91 X dX10_size_19 (by rw [h_5]; decide) (by rw [h_5]; decide) (off := 72) (by rw [h_5]; rfl) (by decide) ?_
      refine k_aload_n X dX10_size_91 0 rfl ?_
      refine k_get (ci := 10) X inlX10 rfl 1 (by decide) dX10_size_92 mw20 0 rfl rfl ?_
      refine k_get (ci := 3) X inlX3 rfl 2 (by decide) dX10_size_95 mw697 3 rfl rfl ?_
      refine k_get (ci := 8) X inlX8 rfl 3 (by decide) dX10_size_98 mw214 15 rfl rfl ?_
      exact k_iret X hr dX10_size_101 (Nat.le_of_ble_eq_true rfl) (Nat.le_of_ble_eq_true rfl) [0, 1, 2, 3, 4, 5, 6, 7, 8, 9, 10, 11, 12, 13, 14, 15, 16, 17, 18, 19, 20, 21, 22, 23, 24, 25, 26, 27, 28, 29, 30, 31, 32, 33, 34, 35, 36] (by decide) rfl rfl rfl
    by_cases h_6 : p0 = 8
    · skip
      refine k_tableIn 102 X dX10_size_19 (by rw [h_6]; decide) (by rw [h_6]; decide) (off := 83) (by rw [h_6]; rfl) (by decide) ?_
      refine k_aload_n X dX10_size_102 0 rfl ?_
      refine k_get (ci := 10) X inlX10 rfl 2 (by decide) dX10_size_103 mw24 0 rfl rfl ?_
      refine k_get (ci := 7) X inlX7 rfl 1 (by decide) dX10_size_106 mw644 27 rfl rfl ?_
      refine k_get (ci := 8) X inlX8 rfl 3 (by decide) dX10_size_109 mw214 30 rfl rfl ?_
      exact k_iret X hr dX10_size_112 (Nat.le_of_ble_eq_true rfl) (Nat.le_of_ble_eq_true rfl) [0, 1, 2, 3, 4, 5, 6, 7, 8, 9, 10, 11, 12, 13, 14, 15, 16, 17, 18, 19, 20, 21, 22, 23, 24, 25, 26, 27, 28, 29, 30, 31, 32, 33, 34, 35, 36] (by decide) rfl rfl rfl
    by_cases h_7 : p0 = 9
    · skip
      refine k_tableIn 113 X dX10_size_19 (by rw [h_7]; decide) (by rw [h_7]; decide) (off := 94) (by rw [h_7]; rfl) (by decide) ?_
      refine k_aload_n X dX10_size_113 0 rfl ?_
      refine k_get (ci := 10) X inlX10 rfl 1 (by decide) dX10_size_114 mw20 0 rfl rfl ?_
      refine k_get (ci := 3) X inlX3 rfl 3 (by decide) dX10_size_117 mw645 3 rfl rfl ?_
      refine k_get (ci := 8) X inlX8 rfl 3 (by decide) dX10_size_120 mw214 17 rfl rfl ?_
      refine k_aload_n X dX10_size_123 0 rfl ?_
      refine k_get (ci := 10) X inlX10 rfl 2 (by decide) dX10_size_124 mw24 0 rfl rfl ?_
      refine k_get (ci := 7) X inlX7 rfl 4 (by decide) dX10_size_127 mw1566 27 rfl rfl ?_
      refine k_callSI (n := 1) (As := [.int zmd]) (st := [.int yhjn]) X [] [(h0, .inr (10, [.ref tt, .ref tl, .ref nw, .ref kk, v4h0, v5h0, v6h0, v7h0, v8h0, .int tr])), (tt, .inr (9, [.int xtpd, .ref th, .int xfn, .int xfp, .ref tp, .int xen, .ref nm, .ref nd, .int xkd, .int xsta, .int xpo, .int xva, .long xle, .int xtk, .int xta])), (tp, .inl (g.2.1, 900, .inl tpf)), (tl, .inr (3, [.ref ys, .ref yhn, .ref yht, .ref yhj, .ref yhm, .ref yhb, .ref yhs, .ref yhc])), (ys, .inr (7, [.ref yr, .ref ym, .ref yw, .ref yp, .int ymd, .int ytr])), (yr, .inr (8, [.int 8, .int 3, .ref yrc, .int yrn])), (yrc, .inl (g.2.2.1, 24, .inl yrf)), (ym, .inr (8, [.int 12, .int 3, .ref ymc, .int ymn])), (ymc, .inl (g.2.2.1, 36, .inl ymf)), (yw, .inr (8, [.int 6, .int 3, .ref ywc, .int ywn])), (ywc, .inl (g.2.2.1, 18, .inl ywf)), (yp, .inr (8, [.int 8, .int 2, .ref ypc, .int ypn])), (ypc, .inl (g.2.2.1, 16, .inl ypf)), (yhn, .inr (8, [.int 1, .int 6, .ref yhnc, .int yhnn])), (yhnc, .inl (g.2.2.1, 6, .inl yhnf)), (yht, .inr (8, [.int 4, .int 1, .ref yhtc, .int yhtn])), (yhtc, .inl (g.2.2.1, 4, .inl yhtf)), (yhj, .inr (8, [.int 8, .int 2, .ref yhjc, .int yhjn])), (yhjc, .inl (g.2.2.1, 16, .inl yhjf)), (yhm, .inr (8, [.int 4, .int 3, .ref yhmc, .int yhmn])), (yhmc, .inl (g.2.2.1, 12, .inl yhmf)), (yhb, .inr (8, [.int 1, .int 3, .ref yhbc, .int yhbn])), (yhbc, .inl (g.2.2.1, 3, .inl yhbf)), (yhs, .inr (8, [.int 6, .int 3, .ref yhsc, .int yhsn])), (yhsc, .inl (g.2.2.1, 18, .inl yhsf)), (yhc, .inr (8, [.int 6, .int 2, .ref yhcc, .int yhcn])), (yhcc, .inl (g.2.2.1, 12, .inl yhcf)), (nw, .inr (7, [.ref zr, .ref zm, .ref zw, .ref zp, .int zmd, .int ztr])), (zr, .inr (8, [.int 8, .int 3, .ref zrc, .int zrn])), (zrc, .inl (g.2.2.1, 24, .inl zrf)), (zm, .inr (8, [.int 12, .int 3, .ref zmc, .int zmn])), (zmc, .inl (g.2.2.1, 36, .inl zmf)), (zw, .inr (8, [.int 6, .int 3, .ref zwc, .int zwn])), (zwc, .inl (g.2.2.1, 18, .inl zwf)), (zp, .inr (8, [.int 8, .int 2, .ref zpc, .int zpn])), (zpc, .inl (g.2.2.1, 16, .inl zpf)), (kk, .inr (4, [.ref kah, .ref kig, .int kac, .int knx, .int kim]))] [] [0, 1, 2, 3, 4, 5, 6, 7, 8, 9, 10, 11, 12, 13, 14, 15, 16, 17, 18, 19, 20, 21, 22, 23, 24, 25, 26, 27, 28, 29, 30, 31, 32, 33, 34, 35, 36] (j_bitCount l g zmd) dX10_size_130 mw1569 mw1099 mw1100 mw1101 (by unfold yOk; decide) rfl (Nat.le_of_ble_eq_true rfl) (Nat.le_of_ble_eq_true rfl) (Nat.le_of_ble_eq_true rfl) (Nat.le_of_ble_eq_true rfl) (Nat.le_of_ble_eq_true rfl) rfl rfl (by decide) rfl (by decide) (by decide) ?_
      rintro r_8 w rfl
      refine k_ws [(h0, .inr (10, [.ref tt, .ref tl, .ref nw, .ref kk, v4h0, v5h0, v6h0, v7h0, v8h0, .int tr])), (tt, .inr (9, [.int xtpd, .ref th, .int xfn, .int xfp, .ref tp, .int xen, .ref nm, .ref nd, .int xkd, .int xsta, .int xpo, .int xva, .long xle, .int xtk, .int xta])), (tp, .inl (g.2.1, 900, .inl tpf)), (tl, .inr (3, [.ref ys, .ref yhn, .ref yht, .ref yhj, .ref yhm, .ref yhb, .ref yhs, .ref yhc])), (ys, .inr (7, [.ref yr, .ref ym, .ref yw, .ref yp, .int ymd, .int ytr])), (yr, .inr (8, [.int 8, .int 3, .ref yrc, .int yrn])), (yrc, .inl (g.2.2.1, 24, .inl yrf)), (ym, .inr (8, [.int 12, .int 3, .ref ymc, .int ymn])), (ymc, .inl (g.2.2.1, 36, .inl ymf)), (yw, .inr (8, [.int 6, .int 3, .ref ywc, .int ywn])), (ywc, .inl (g.2.2.1, 18, .inl ywf)), (yp, .inr (8, [.int 8, .int 2, .ref ypc, .int ypn])), (ypc, .inl (g.2.2.1, 16, .inl ypf)), (yhn, .inr (8, [.int 1, .int 6, .ref yhnc, .int yhnn])), (yhnc, .inl (g.2.2.1, 6, .inl yhnf)), (yht, .inr (8, [.int 4, .int 1, .ref yhtc, .int yhtn])), (yhtc, .inl (g.2.2.1, 4, .inl yhtf)), (yhj, .inr (8, [.int 8, .int 2, .ref yhjc, .int yhjn])), (yhjc, .inl (g.2.2.1, 16, .inl yhjf)), (yhm, .inr (8, [.int 4, .int 3, .ref yhmc, .int yhmn])), (yhmc, .inl (g.2.2.1, 12, .inl yhmf)), (yhb, .inr (8, [.int 1, .int 3, .ref yhbc, .int yhbn])), (yhbc, .inl (g.2.2.1, 3, .inl yhbf)), (yhs, .inr (8, [.int 6, .int 3, .ref yhsc, .int yhsn])), (yhsc, .inl (g.2.2.1, 18, .inl yhsf)), (yhc, .inr (8, [.int 6, .int 2, .ref yhcc, .int yhcn])), (yhcc, .inl (g.2.2.1, 12, .inl yhcf)), (nw, .inr (7, [.ref zr, .ref zm, .ref zw, .ref zp, .int zmd, .int ztr])), (zr, .inr (8, [.int 8, .int 3, .ref zrc, .int zrn])), (zrc, .inl (g.2.2.1, 24, .inl zrf)), (zm, .inr (8, [.int 12, .int 3, .ref zmc, .int zmn])), (zmc, .inl (g.2.2.1, 36, .inl zmf)), (zw, .inr (8, [.int 6, .int 3, .ref zwc, .int zwn])), (zwc, .inl (g.2.2.1, 18, .inl zwf)), (zp, .inr (8, [.int 8, .int 2, .ref zpc, .int zpn])), (zpc, .inl (g.2.2.1, 16, .inl zpf)), (kk, .inr (4, [.ref kah, .ref kig, .int kac, .int knx, .int kim]))] rfl ?_
      refine k_iadd X dX10_size_133 ?_
      refine k_nm (fun z_10 ez_10 => ?_)
      exact k_iret X hr dX10_size_134 (Nat.le_of_ble_eq_true rfl) (Nat.le_of_ble_eq_true rfl) [0, 1, 2, 3, 4, 5, 6, 7, 8, 9, 10, 11, 12, 13, 14, 15, 16, 17, 18, 19, 20, 21, 22, 23, 24, 25, 26, 27, 28, 29, 30, 31, 32, 33, 34, 35, 36] (by decide) rfl rfl rfl
    by_cases h_12 : p0 = 10
    · skip
      refine k_tableIn 135 X dX10_size_19 (by rw [h_12]; decide) (by rw [h_12]; decide) (off := 116) (by rw [h_12]; rfl) (by decide) ?_
      refine k_aload_n X dX10_size_135 0 rfl ?_
      refine k_get (ci := 10) X inlX10 rfl 2 (by decide) dX10_size_136 mw24 0 rfl rfl ?_
      refine k_get (ci := 7) X inlX7 rfl 2 (by decide) dX10_size_139 mw646 27 rfl rfl ?_
      refine k_get (ci := 8) X inlX8 rfl 3 (by decide) dX10_size_142 mw214 32 rfl rfl ?_
      exact k_iret X hr dX10_size_145 (Nat.le_of_ble_eq_true rfl) (Nat.le_of_ble_eq_true rfl) [0, 1, 2, 3, 4, 5, 6, 7, 8, 9, 10, 11, 12, 13, 14, 15, 16, 17, 18, 19, 20, 21, 22, 23, 24, 25, 26, 27, 28, 29, 30, 31, 32, 33, 34, 35, 36] (by decide) rfl rfl rfl
    by_cases h_13 : p0 = 11
    · skip
      refine k_tableIn 146 X dX10_size_19 (by rw [h_13]; decide) (by rw [h_13]; decide) (off := 127) (by rw [h_13]; rfl) (by decide) ?_
      refine k_aload_n X dX10_size_146 0 rfl ?_
      refine k_get (ci := 10) X inlX10 rfl 1 (by decide) dX10_size_147 mw20 0 rfl rfl ?_
      refine k_get (ci := 3) X inlX3 rfl 4 (by decide) dX10_size_150 mw748 3 rfl rfl ?_
      refine k_get (ci := 8) X inlX8 rfl 3 (by decide) dX10_size_153 mw214 19 rfl rfl ?_
      exact k_iret X hr dX10_size_156 (Nat.le_of_ble_eq_true rfl) (Nat.le_of_ble_eq_true rfl) [0, 1, 2, 3, 4, 5, 6, 7, 8, 9, 10, 11, 12, 13, 14, 15, 16, 17, 18, 19, 20, 21, 22, 23, 24, 25, 26, 27, 28, 29, 30, 31, 32, 33, 34, 35, 36] (by decide) rfl rfl rfl
    by_cases h_14 : p0 = 12
    · skip
      refine k_tableIn 157 X dX10_size_19 (by rw [h_14]; decide) (by rw [h_14]; decide) (off := 138) (by rw [h_14]; rfl) (by decide) ?_
      refine k_aload_n X dX10_size_157 0 rfl ?_
      refine k_get (ci := 10) X inlX10 rfl 2 (by decide) dX10_size_158 mw24 0 rfl rfl ?_
      refine k_get (ci := 7) X inlX7 rfl 3 (by decide) dX10_size_161 mw213 27 rfl rfl ?_
      refine k_get (ci := 8) X inlX8 rfl 3 (by decide) dX10_size_164 mw214 34 rfl rfl ?_
      exact k_iret X hr dX10_size_167 (Nat.le_of_ble_eq_true rfl) (Nat.le_of_ble_eq_true rfl) [0, 1, 2, 3, 4, 5, 6, 7, 8, 9, 10, 11, 12, 13, 14, 15, 16, 17, 18, 19, 20, 21, 22, 23, 24, 25, 26, 27, 28, 29, 30, 31, 32, 33, 34, 35, 36] (by decide) rfl rfl rfl
    by_cases h_15 : p0 = 13
    · skip
      refine k_tableIn 168 X dX10_size_19 (by rw [h_15]; decide) (by rw [h_15]; decide) (off := 149) (by rw [h_15]; rfl) (by decide) ?_
      refine k_aload_n X dX10_size_168 0 rfl ?_
      refine k_get (ci := 10) X inlX10 rfl 1 (by decide) dX10_size_169 mw20 0 rfl rfl ?_
      refine k_get (ci := 3) X inlX3 rfl 6 (by decide) dX10_size_172 mw970 3 rfl rfl ?_
      refine k_get (ci := 8) X inlX8 rfl 3 (by decide) dX10_size_175 mw214 23 rfl rfl ?_
      exact k_iret X hr dX10_size_178 (Nat.le_of_ble_eq_true rfl) (Nat.le_of_ble_eq_true rfl) [0, 1, 2, 3, 4, 5, 6, 7, 8, 9, 10, 11, 12, 13, 14, 15, 16, 17, 18, 19, 20, 21, 22, 23, 24, 25, 26, 27, 28, 29, 30, 31, 32, 33, 34, 35, 36] (by decide) rfl rfl rfl
    by_cases h_16 : p0 = 14
    · skip
      refine k_tableIn 179 X dX10_size_19 (by rw [h_16]; decide) (by rw [h_16]; decide) (off := 160) (by rw [h_16]; rfl) (by decide) ?_
      refine k_aload_n X dX10_size_179 0 rfl ?_
      refine k_get (ci := 10) X inlX10 rfl 1 (by decide) dX10_size_180 mw20 0 rfl rfl ?_
      refine k_get (ci := 3) X inlX3 rfl 7 (by decide) dX10_size_183 mw1186 3 rfl rfl ?_
      refine k_get (ci := 8) X inlX8 rfl 3 (by decide) dX10_size_186 mw214 25 rfl rfl ?_
      exact k_iret X hr dX10_size_189 (Nat.le_of_ble_eq_true rfl) (Nat.le_of_ble_eq_true rfl) [0, 1, 2, 3, 4, 5, 6, 7, 8, 9, 10, 11, 12, 13, 14, 15, 16, 17, 18, 19, 20, 21, 22, 23, 24, 25, 26, 27, 28, 29, 30, 31, 32, 33, 34, 35, 36] (by decide) rfl rfl rfl
    by_cases h_17 : p0 = 15
    · skip
      refine k_tableIn 190 X dX10_size_19 (by rw [h_17]; decide) (by rw [h_17]; decide) (off := 171) (by rw [h_17]; rfl) (by decide) ?_
      refine k_aload_n X dX10_size_190 0 rfl ?_
      refine k_get (ci := 10) X inlX10 rfl 3 (by decide) dX10_size_191 mw28 0 rfl rfl ?_
      refine k_get (ci := 4) X inlX4 rfl 2 (by decide) dX10_size_194 mw1567 36 rfl rfl ?_
      exact k_iret X hr dX10_size_197 (Nat.le_of_ble_eq_true rfl) (Nat.le_of_ble_eq_true rfl) [0, 1, 2, 3, 4, 5, 6, 7, 8, 9, 10, 11, 12, 13, 14, 15, 16, 17, 18, 19, 20, 21, 22, 23, 24, 25, 26, 27, 28, 29, 30, 31, 32, 33, 34, 35, 36] (by decide) rfl rfl rfl
    by_cases h_18 : p0 = 16
    · skip
      refine k_tableIn 198 X dX10_size_19 (by rw [h_18]; decide) (by rw [h_18]; decide) (off := 179) (by rw [h_18]; rfl) (by decide) ?_
      refine k_aload_n X dX10_size_198 0 rfl ?_
      refine k_get (ci := 10) X inlX10 rfl 3 (by decide) dX10_size_199 mw28 0 rfl rfl ?_
      refine k_get (ci := 4) X inlX4 rfl 4 (by decide) dX10_size_202 mw1568 36 rfl rfl ?_
      exact k_iret X hr dX10_size_205 (Nat.le_of_ble_eq_true rfl) (Nat.le_of_ble_eq_true rfl) [0, 1, 2, 3, 4, 5, 6, 7, 8, 9, 10, 11, 12, 13, 14, 15, 16, 17, 18, 19, 20, 21, 22, 23, 24, 25, 26, 27, 28, 29, 30, 31, 32, 33, 34, 35, 36] (by decide) rfl rfl rfl
    by_cases h_19 : p0 = 17
    · skip
      refine k_tableIn 206 X dX10_size_19 (by rw [h_19]; decide) (by rw [h_19]; decide) (off := 187) (by rw [h_19]; rfl) (by decide) ?_
      refine k_aload_n X dX10_size_206 0 rfl ?_
      refine k_get (ci := 10) X inlX10 rfl 0 (by decide) dX10_size_207 mw16 0 rfl rfl ?_
      refine k_get (ci := 9) X inlX9 rfl 0 (by decide) dX10_size_210 mw195 1 rfl rfl ?_
      exact k_iret X hr dX10_size_213 (Nat.le_of_ble_eq_true rfl) (Nat.le_of_ble_eq_true rfl) [0, 1, 2, 3, 4, 5, 6, 7, 8, 9, 10, 11, 12, 13, 14, 15, 16, 17, 18, 19, 20, 21, 22, 23, 24, 25, 26, 27, 28, 29, 30, 31, 32, 33, 34, 35, 36] (by decide) rfl rfl rfl
    refine k_tableOut 214 X dX10_size_19 (by have eh_4 : p0.toInt ≠ 6 := fun q => h_4 (Int32.toInt_inj.mp (q.trans (by decide))); have eh_5 : p0.toInt ≠ 7 := fun q => h_5 (Int32.toInt_inj.mp (q.trans (by decide))); have eh_6 : p0.toInt ≠ 8 := fun q => h_6 (Int32.toInt_inj.mp (q.trans (by decide))); have eh_7 : p0.toInt ≠ 9 := fun q => h_7 (Int32.toInt_inj.mp (q.trans (by decide))); have eh_12 : p0.toInt ≠ 10 := fun q => h_12 (Int32.toInt_inj.mp (q.trans (by decide))); have eh_13 : p0.toInt ≠ 11 := fun q => h_13 (Int32.toInt_inj.mp (q.trans (by decide))); have eh_14 : p0.toInt ≠ 12 := fun q => h_14 (Int32.toInt_inj.mp (q.trans (by decide))); have eh_15 : p0.toInt ≠ 13 := fun q => h_15 (Int32.toInt_inj.mp (q.trans (by decide))); have eh_16 : p0.toInt ≠ 14 := fun q => h_16 (Int32.toInt_inj.mp (q.trans (by decide))); have eh_17 : p0.toInt ≠ 15 := fun q => h_17 (Int32.toInt_inj.mp (q.trans (by decide))); have eh_18 : p0.toInt ≠ 16 := fun q => h_18 (Int32.toInt_inj.mp (q.trans (by decide))); have eh_19 : p0.toInt ≠ 17 := fun q => h_19 (Int32.toInt_inj.mp (q.trans (by decide))); omega) (by decide) ?_
    refine k_iconst (v := -1) X dX10_size_214 (by decide) ?_
    exact k_iret X hr dX10_size_215 (Nat.le_of_ble_eq_true rfl) (Nat.le_of_ble_eq_true rfl) [0, 1, 2, 3, 4, 5, 6, 7, 8, 9, 10, 11, 12, 13, 14, 15, 16, 17, 18, 19, 20, 21, 22, 23, 24, 25, 26, 27, 28, 29, 30, 31, 32, 33, 34, 35, 36] (by decide) rfl rfl rfl
  · skip
    have j_20 : 0 ≤ p0.toInt := iv_nlt h_1
    have iv_21 : IV p0 0 2147483647 := iv_leR (iv_nlt h_1) (show IV 0 0 0 from (by decide)) (iv_any p0) (by decide)
    refine k_iload_n X dX10_size_4 1 rfl ?_
    refine k_iconst (v := 5) X dX10_size_5 (by decide) ?_
    refine k_ic_gt 18 X dX10_size_6 (by decide) (fun h_22 => ?_) (fun h_22 => ?_)
    · skip
      have j_23 : 5 < p0.toInt := iv_lt h_22
      have iv_24 : IV p0 6 2147483647 := iv_ltR (iv_lt h_22) (show IV 5 5 5 from (by decide)) iv_21 (by decide)
      refine k_iload_n X dX10_size_18 1 rfl ?_
      by_cases h_25 : p0 = 6
      · skip
        refine k_tableIn 80 X dX10_size_19 (by rw [h_25]; decide) (by rw [h_25]; decide) (off := 61) (by rw [h_25]; rfl) (by decide) ?_
        refine k_aload_n X dX10_size_80 0 rfl ?_
        refine k_get (ci := 10) X inlX10 rfl 2 (by decide) dX10_size_81 mw24 0 rfl rfl ?_
        refine k_get (ci := 7) X inlX7 rfl 0 (by decide) dX10_size_84 mw643 27 rfl rfl ?_
        refine k_get (ci := 8) X inlX8 rfl 3 (by decide) dX10_size_87 mw214 28 rfl rfl ?_
        exact k_iret X hr dX10_size_90 (Nat.le_of_ble_eq_true rfl) (Nat.le_of_ble_eq_true rfl) [0, 1, 2, 3, 4, 5, 6, 7, 8, 9, 10, 11, 12, 13, 14, 15, 16, 17, 18, 19, 20, 21, 22, 23, 24, 25, 26, 27, 28, 29, 30, 31, 32, 33, 34, 35, 36] (by decide) rfl rfl rfl
      by_cases h_26 : p0 = 7
      · skip
        refine k_tableIn 91 X dX10_size_19 (by rw [h_26]; decide) (by rw [h_26]; decide) (off := 72) (by rw [h_26]; rfl) (by decide) ?_
        refine k_aload_n X dX10_size_91 0 rfl ?_
        refine k_get (ci := 10) X inlX10 rfl 1 (by decide) dX10_size_92 mw20 0 rfl rfl ?_
        refine k_get (ci := 3) X inlX3 rfl 2 (by decide) dX10_size_95 mw697 3 rfl rfl ?_
        refine k_get (ci := 8) X inlX8 rfl 3 (by decide) dX10_size_98 mw214 15 rfl rfl ?_
        exact k_iret X hr dX10_size_101 (Nat.le_of_ble_eq_true rfl) (Nat.le_of_ble_eq_true rfl) [0, 1, 2, 3, 4, 5, 6, 7, 8, 9, 10, 11, 12, 13, 14, 15, 16, 17, 18, 19, 20, 21, 22, 23, 24, 25, 26, 27, 28, 29, 30, 31, 32, 33, 34, 35, 36] (by decide) rfl rfl rfl
      by_cases h_27 : p0 = 8
      · skip
        refine k_tableIn 102 X dX10_size_19 (by rw [h_27]; decide) (by rw [h_27]; decide) (off := 83) (by rw [h_27]; rfl) (by decide) ?_
        refine k_aload_n X dX10_size_102 0 rfl ?_
        refine k_get (ci := 10) X inlX10 rfl 2 (by decide) dX10_size_103 mw24 0 rfl rfl ?_
        refine k_get (ci := 7) X inlX7 rfl 1 (by decide) dX10_size_106 mw644 27 rfl rfl ?_
        refine k_get (ci := 8) X inlX8 rfl 3 (by decide) dX10_size_109 mw214 30 rfl rfl ?_
        exact k_iret X hr dX10_size_112 (Nat.le_of_ble_eq_true rfl) (Nat.le_of_ble_eq_true rfl) [0, 1, 2, 3, 4, 5, 6, 7, 8, 9, 10, 11, 12, 13, 14, 15, 16, 17, 18, 19, 20, 21, 22, 23, 24, 25, 26, 27, 28, 29, 30, 31, 32, 33, 34, 35, 36] (by decide) rfl rfl rfl
      by_cases h_28 : p0 = 9
      · skip
        refine k_tableIn 113 X dX10_size_19 (by rw [h_28]; decide) (by rw [h_28]; decide) (off := 94) (by rw [h_28]; rfl) (by decide) ?_
        refine k_aload_n X dX10_size_113 0 rfl ?_
        refine k_get (ci := 10) X inlX10 rfl 1 (by decide) dX10_size_114 mw20 0 rfl rfl ?_
        refine k_get (ci := 3) X inlX3 rfl 3 (by decide) dX10_size_117 mw645 3 rfl rfl ?_
        refine k_get (ci := 8) X inlX8 rfl 3 (by decide) dX10_size_120 mw214 17 rfl rfl ?_
        refine k_aload_n X dX10_size_123 0 rfl ?_
        refine k_get (ci := 10) X inlX10 rfl 2 (by decide) dX10_size_124 mw24 0 rfl rfl ?_
        refine k_get (ci := 7) X inlX7 rfl 4 (by decide) dX10_size_127 mw1566 27 rfl rfl ?_
        refine k_callSI (n := 1) (As := [.int zmd]) (st := [.int yhjn]) X [] [(h0, .inr (10, [.ref tt, .ref tl, .ref nw, .ref kk, v4h0, v5h0, v6h0, v7h0, v8h0, .int tr])), (tt, .inr (9, [.int xtpd, .ref th, .int xfn, .int xfp, .ref tp, .int xen, .ref nm, .ref nd, .int xkd, .int xsta, .int xpo, .int xva, .long xle, .int xtk, .int xta])), (tp, .inl (g.2.1, 900, .inl tpf)), (tl, .inr (3, [.ref ys, .ref yhn, .ref yht, .ref yhj, .ref yhm, .ref yhb, .ref yhs, .ref yhc])), (ys, .inr (7, [.ref yr, .ref ym, .ref yw, .ref yp, .int ymd, .int ytr])), (yr, .inr (8, [.int 8, .int 3, .ref yrc, .int yrn])), (yrc, .inl (g.2.2.1, 24, .inl yrf)), (ym, .inr (8, [.int 12, .int 3, .ref ymc, .int ymn])), (ymc, .inl (g.2.2.1, 36, .inl ymf)), (yw, .inr (8, [.int 6, .int 3, .ref ywc, .int ywn])), (ywc, .inl (g.2.2.1, 18, .inl ywf)), (yp, .inr (8, [.int 8, .int 2, .ref ypc, .int ypn])), (ypc, .inl (g.2.2.1, 16, .inl ypf)), (yhn, .inr (8, [.int 1, .int 6, .ref yhnc, .int yhnn])), (yhnc, .inl (g.2.2.1, 6, .inl yhnf)), (yht, .inr (8, [.int 4, .int 1, .ref yhtc, .int yhtn])), (yhtc, .inl (g.2.2.1, 4, .inl yhtf)), (yhj, .inr (8, [.int 8, .int 2, .ref yhjc, .int yhjn])), (yhjc, .inl (g.2.2.1, 16, .inl yhjf)), (yhm, .inr (8, [.int 4, .int 3, .ref yhmc, .int yhmn])), (yhmc, .inl (g.2.2.1, 12, .inl yhmf)), (yhb, .inr (8, [.int 1, .int 3, .ref yhbc, .int yhbn])), (yhbc, .inl (g.2.2.1, 3, .inl yhbf)), (yhs, .inr (8, [.int 6, .int 3, .ref yhsc, .int yhsn])), (yhsc, .inl (g.2.2.1, 18, .inl yhsf)), (yhc, .inr (8, [.int 6, .int 2, .ref yhcc, .int yhcn])), (yhcc, .inl (g.2.2.1, 12, .inl yhcf)), (nw, .inr (7, [.ref zr, .ref zm, .ref zw, .ref zp, .int zmd, .int ztr])), (zr, .inr (8, [.int 8, .int 3, .ref zrc, .int zrn])), (zrc, .inl (g.2.2.1, 24, .inl zrf)), (zm, .inr (8, [.int 12, .int 3, .ref zmc, .int zmn])), (zmc, .inl (g.2.2.1, 36, .inl zmf)), (zw, .inr (8, [.int 6, .int 3, .ref zwc, .int zwn])), (zwc, .inl (g.2.2.1, 18, .inl zwf)), (zp, .inr (8, [.int 8, .int 2, .ref zpc, .int zpn])), (zpc, .inl (g.2.2.1, 16, .inl zpf)), (kk, .inr (4, [.ref kah, .ref kig, .int kac, .int knx, .int kim]))] [] [0, 1, 2, 3, 4, 5, 6, 7, 8, 9, 10, 11, 12, 13, 14, 15, 16, 17, 18, 19, 20, 21, 22, 23, 24, 25, 26, 27, 28, 29, 30, 31, 32, 33, 34, 35, 36] (j_bitCount l g zmd) dX10_size_130 mw1569 mw1099 mw1100 mw1101 (by unfold yOk; decide) rfl (Nat.le_of_ble_eq_true rfl) (Nat.le_of_ble_eq_true rfl) (Nat.le_of_ble_eq_true rfl) (Nat.le_of_ble_eq_true rfl) (Nat.le_of_ble_eq_true rfl) rfl rfl (by decide) rfl (by decide) (by decide) ?_
        rintro r_29 w rfl
        refine k_ws [(h0, .inr (10, [.ref tt, .ref tl, .ref nw, .ref kk, v4h0, v5h0, v6h0, v7h0, v8h0, .int tr])), (tt, .inr (9, [.int xtpd, .ref th, .int xfn, .int xfp, .ref tp, .int xen, .ref nm, .ref nd, .int xkd, .int xsta, .int xpo, .int xva, .long xle, .int xtk, .int xta])), (tp, .inl (g.2.1, 900, .inl tpf)), (tl, .inr (3, [.ref ys, .ref yhn, .ref yht, .ref yhj, .ref yhm, .ref yhb, .ref yhs, .ref yhc])), (ys, .inr (7, [.ref yr, .ref ym, .ref yw, .ref yp, .int ymd, .int ytr])), (yr, .inr (8, [.int 8, .int 3, .ref yrc, .int yrn])), (yrc, .inl (g.2.2.1, 24, .inl yrf)), (ym, .inr (8, [.int 12, .int 3, .ref ymc, .int ymn])), (ymc, .inl (g.2.2.1, 36, .inl ymf)), (yw, .inr (8, [.int 6, .int 3, .ref ywc, .int ywn])), (ywc, .inl (g.2.2.1, 18, .inl ywf)), (yp, .inr (8, [.int 8, .int 2, .ref ypc, .int ypn])), (ypc, .inl (g.2.2.1, 16, .inl ypf)), (yhn, .inr (8, [.int 1, .int 6, .ref yhnc, .int yhnn])), (yhnc, .inl (g.2.2.1, 6, .inl yhnf)), (yht, .inr (8, [.int 4, .int 1, .ref yhtc, .int yhtn])), (yhtc, .inl (g.2.2.1, 4, .inl yhtf)), (yhj, .inr (8, [.int 8, .int 2, .ref yhjc, .int yhjn])), (yhjc, .inl (g.2.2.1, 16, .inl yhjf)), (yhm, .inr (8, [.int 4, .int 3, .ref yhmc, .int yhmn])), (yhmc, .inl (g.2.2.1, 12, .inl yhmf)), (yhb, .inr (8, [.int 1, .int 3, .ref yhbc, .int yhbn])), (yhbc, .inl (g.2.2.1, 3, .inl yhbf)), (yhs, .inr (8, [.int 6, .int 3, .ref yhsc, .int yhsn])), (yhsc, .inl (g.2.2.1, 18, .inl yhsf)), (yhc, .inr (8, [.int 6, .int 2, .ref yhcc, .int yhcn])), (yhcc, .inl (g.2.2.1, 12, .inl yhcf)), (nw, .inr (7, [.ref zr, .ref zm, .ref zw, .ref zp, .int zmd, .int ztr])), (zr, .inr (8, [.int 8, .int 3, .ref zrc, .int zrn])), (zrc, .inl (g.2.2.1, 24, .inl zrf)), (zm, .inr (8, [.int 12, .int 3, .ref zmc, .int zmn])), (zmc, .inl (g.2.2.1, 36, .inl zmf)), (zw, .inr (8, [.int 6, .int 3, .ref zwc, .int zwn])), (zwc, .inl (g.2.2.1, 18, .inl zwf)), (zp, .inr (8, [.int 8, .int 2, .ref zpc, .int zpn])), (zpc, .inl (g.2.2.1, 16, .inl zpf)), (kk, .inr (4, [.ref kah, .ref kig, .int kac, .int knx, .int kim]))] rfl ?_
        refine k_iadd X dX10_size_133 ?_
        refine k_nm (fun z_31 ez_31 => ?_)
        exact k_iret X hr dX10_size_134 (Nat.le_of_ble_eq_true rfl) (Nat.le_of_ble_eq_true rfl) [0, 1, 2, 3, 4, 5, 6, 7, 8, 9, 10, 11, 12, 13, 14, 15, 16, 17, 18, 19, 20, 21, 22, 23, 24, 25, 26, 27, 28, 29, 30, 31, 32, 33, 34, 35, 36] (by decide) rfl rfl rfl
      by_cases h_33 : p0 = 10
      · skip
        refine k_tableIn 135 X dX10_size_19 (by rw [h_33]; decide) (by rw [h_33]; decide) (off := 116) (by rw [h_33]; rfl) (by decide) ?_
        refine k_aload_n X dX10_size_135 0 rfl ?_
        refine k_get (ci := 10) X inlX10 rfl 2 (by decide) dX10_size_136 mw24 0 rfl rfl ?_
        refine k_get (ci := 7) X inlX7 rfl 2 (by decide) dX10_size_139 mw646 27 rfl rfl ?_
        refine k_get (ci := 8) X inlX8 rfl 3 (by decide) dX10_size_142 mw214 32 rfl rfl ?_
        exact k_iret X hr dX10_size_145 (Nat.le_of_ble_eq_true rfl) (Nat.le_of_ble_eq_true rfl) [0, 1, 2, 3, 4, 5, 6, 7, 8, 9, 10, 11, 12, 13, 14, 15, 16, 17, 18, 19, 20, 21, 22, 23, 24, 25, 26, 27, 28, 29, 30, 31, 32, 33, 34, 35, 36] (by decide) rfl rfl rfl
      by_cases h_34 : p0 = 11
      · skip
        refine k_tableIn 146 X dX10_size_19 (by rw [h_34]; decide) (by rw [h_34]; decide) (off := 127) (by rw [h_34]; rfl) (by decide) ?_
        refine k_aload_n X dX10_size_146 0 rfl ?_
        refine k_get (ci := 10) X inlX10 rfl 1 (by decide) dX10_size_147 mw20 0 rfl rfl ?_
        refine k_get (ci := 3) X inlX3 rfl 4 (by decide) dX10_size_150 mw748 3 rfl rfl ?_
        refine k_get (ci := 8) X inlX8 rfl 3 (by decide) dX10_size_153 mw214 19 rfl rfl ?_
        exact k_iret X hr dX10_size_156 (Nat.le_of_ble_eq_true rfl) (Nat.le_of_ble_eq_true rfl) [0, 1, 2, 3, 4, 5, 6, 7, 8, 9, 10, 11, 12, 13, 14, 15, 16, 17, 18, 19, 20, 21, 22, 23, 24, 25, 26, 27, 28, 29, 30, 31, 32, 33, 34, 35, 36] (by decide) rfl rfl rfl
      by_cases h_35 : p0 = 12
      · skip
        refine k_tableIn 157 X dX10_size_19 (by rw [h_35]; decide) (by rw [h_35]; decide) (off := 138) (by rw [h_35]; rfl) (by decide) ?_
        refine k_aload_n X dX10_size_157 0 rfl ?_
        refine k_get (ci := 10) X inlX10 rfl 2 (by decide) dX10_size_158 mw24 0 rfl rfl ?_
        refine k_get (ci := 7) X inlX7 rfl 3 (by decide) dX10_size_161 mw213 27 rfl rfl ?_
        refine k_get (ci := 8) X inlX8 rfl 3 (by decide) dX10_size_164 mw214 34 rfl rfl ?_
        exact k_iret X hr dX10_size_167 (Nat.le_of_ble_eq_true rfl) (Nat.le_of_ble_eq_true rfl) [0, 1, 2, 3, 4, 5, 6, 7, 8, 9, 10, 11, 12, 13, 14, 15, 16, 17, 18, 19, 20, 21, 22, 23, 24, 25, 26, 27, 28, 29, 30, 31, 32, 33, 34, 35, 36] (by decide) rfl rfl rfl
      by_cases h_36 : p0 = 13
      · skip
        refine k_tableIn 168 X dX10_size_19 (by rw [h_36]; decide) (by rw [h_36]; decide) (off := 149) (by rw [h_36]; rfl) (by decide) ?_
        refine k_aload_n X dX10_size_168 0 rfl ?_
        refine k_get (ci := 10) X inlX10 rfl 1 (by decide) dX10_size_169 mw20 0 rfl rfl ?_
        refine k_get (ci := 3) X inlX3 rfl 6 (by decide) dX10_size_172 mw970 3 rfl rfl ?_
        refine k_get (ci := 8) X inlX8 rfl 3 (by decide) dX10_size_175 mw214 23 rfl rfl ?_
        exact k_iret X hr dX10_size_178 (Nat.le_of_ble_eq_true rfl) (Nat.le_of_ble_eq_true rfl) [0, 1, 2, 3, 4, 5, 6, 7, 8, 9, 10, 11, 12, 13, 14, 15, 16, 17, 18, 19, 20, 21, 22, 23, 24, 25, 26, 27, 28, 29, 30, 31, 32, 33, 34, 35, 36] (by decide) rfl rfl rfl
      by_cases h_37 : p0 = 14
      · skip
        refine k_tableIn 179 X dX10_size_19 (by rw [h_37]; decide) (by rw [h_37]; decide) (off := 160) (by rw [h_37]; rfl) (by decide) ?_
        refine k_aload_n X dX10_size_179 0 rfl ?_
        refine k_get (ci := 10) X inlX10 rfl 1 (by decide) dX10_size_180 mw20 0 rfl rfl ?_
        refine k_get (ci := 3) X inlX3 rfl 7 (by decide) dX10_size_183 mw1186 3 rfl rfl ?_
        refine k_get (ci := 8) X inlX8 rfl 3 (by decide) dX10_size_186 mw214 25 rfl rfl ?_
        exact k_iret X hr dX10_size_189 (Nat.le_of_ble_eq_true rfl) (Nat.le_of_ble_eq_true rfl) [0, 1, 2, 3, 4, 5, 6, 7, 8, 9, 10, 11, 12, 13, 14, 15, 16, 17, 18, 19, 20, 21, 22, 23, 24, 25, 26, 27, 28, 29, 30, 31, 32, 33, 34, 35, 36] (by decide) rfl rfl rfl
      by_cases h_38 : p0 = 15
      · skip
        refine k_tableIn 190 X dX10_size_19 (by rw [h_38]; decide) (by rw [h_38]; decide) (off := 171) (by rw [h_38]; rfl) (by decide) ?_
        refine k_aload_n X dX10_size_190 0 rfl ?_
        refine k_get (ci := 10) X inlX10 rfl 3 (by decide) dX10_size_191 mw28 0 rfl rfl ?_
        refine k_get (ci := 4) X inlX4 rfl 2 (by decide) dX10_size_194 mw1567 36 rfl rfl ?_
        exact k_iret X hr dX10_size_197 (Nat.le_of_ble_eq_true rfl) (Nat.le_of_ble_eq_true rfl) [0, 1, 2, 3, 4, 5, 6, 7, 8, 9, 10, 11, 12, 13, 14, 15, 16, 17, 18, 19, 20, 21, 22, 23, 24, 25, 26, 27, 28, 29, 30, 31, 32, 33, 34, 35, 36] (by decide) rfl rfl rfl
      by_cases h_39 : p0 = 16
      · skip
        refine k_tableIn 198 X dX10_size_19 (by rw [h_39]; decide) (by rw [h_39]; decide) (off := 179) (by rw [h_39]; rfl) (by decide) ?_
        refine k_aload_n X dX10_size_198 0 rfl ?_
        refine k_get (ci := 10) X inlX10 rfl 3 (by decide) dX10_size_199 mw28 0 rfl rfl ?_
        refine k_get (ci := 4) X inlX4 rfl 4 (by decide) dX10_size_202 mw1568 36 rfl rfl ?_
        exact k_iret X hr dX10_size_205 (Nat.le_of_ble_eq_true rfl) (Nat.le_of_ble_eq_true rfl) [0, 1, 2, 3, 4, 5, 6, 7, 8, 9, 10, 11, 12, 13, 14, 15, 16, 17, 18, 19, 20, 21, 22, 23, 24, 25, 26, 27, 28, 29, 30, 31, 32, 33, 34, 35, 36] (by decide) rfl rfl rfl
      by_cases h_40 : p0 = 17
      · skip
        refine k_tableIn 206 X dX10_size_19 (by rw [h_40]; decide) (by rw [h_40]; decide) (off := 187) (by rw [h_40]; rfl) (by decide) ?_
        refine k_aload_n X dX10_size_206 0 rfl ?_
        refine k_get (ci := 10) X inlX10 rfl 0 (by decide) dX10_size_207 mw16 0 rfl rfl ?_
        refine k_get (ci := 9) X inlX9 rfl 0 (by decide) dX10_size_210 mw195 1 rfl rfl ?_
        exact k_iret X hr dX10_size_213 (Nat.le_of_ble_eq_true rfl) (Nat.le_of_ble_eq_true rfl) [0, 1, 2, 3, 4, 5, 6, 7, 8, 9, 10, 11, 12, 13, 14, 15, 16, 17, 18, 19, 20, 21, 22, 23, 24, 25, 26, 27, 28, 29, 30, 31, 32, 33, 34, 35, 36] (by decide) rfl rfl rfl
      refine k_tableOut 214 X dX10_size_19 (by have eh_25 : p0.toInt ≠ 6 := fun q => h_25 (Int32.toInt_inj.mp (q.trans (by decide))); have eh_26 : p0.toInt ≠ 7 := fun q => h_26 (Int32.toInt_inj.mp (q.trans (by decide))); have eh_27 : p0.toInt ≠ 8 := fun q => h_27 (Int32.toInt_inj.mp (q.trans (by decide))); have eh_28 : p0.toInt ≠ 9 := fun q => h_28 (Int32.toInt_inj.mp (q.trans (by decide))); have eh_33 : p0.toInt ≠ 10 := fun q => h_33 (Int32.toInt_inj.mp (q.trans (by decide))); have eh_34 : p0.toInt ≠ 11 := fun q => h_34 (Int32.toInt_inj.mp (q.trans (by decide))); have eh_35 : p0.toInt ≠ 12 := fun q => h_35 (Int32.toInt_inj.mp (q.trans (by decide))); have eh_36 : p0.toInt ≠ 13 := fun q => h_36 (Int32.toInt_inj.mp (q.trans (by decide))); have eh_37 : p0.toInt ≠ 14 := fun q => h_37 (Int32.toInt_inj.mp (q.trans (by decide))); have eh_38 : p0.toInt ≠ 15 := fun q => h_38 (Int32.toInt_inj.mp (q.trans (by decide))); have eh_39 : p0.toInt ≠ 16 := fun q => h_39 (Int32.toInt_inj.mp (q.trans (by decide))); have eh_40 : p0.toInt ≠ 17 := fun q => h_40 (Int32.toInt_inj.mp (q.trans (by decide))); omega) (by decide) ?_
      refine k_iconst (v := -1) X dX10_size_214 (by decide) ?_
      exact k_iret X hr dX10_size_215 (Nat.le_of_ble_eq_true rfl) (Nat.le_of_ble_eq_true rfl) [0, 1, 2, 3, 4, 5, 6, 7, 8, 9, 10, 11, 12, 13, 14, 15, 16, 17, 18, 19, 20, 21, 22, 23, 24, 25, 26, 27, 28, 29, 30, 31, 32, 33, 34, 35, 36] (by decide) rfl rfl rfl
    · skip
      have j_41 : p0.toInt ≤ 5 := iv_nlt h_22
      have iv_42 : IV p0 0 5 := iv_leL (iv_nlt h_22) iv_21 (show IV 5 5 5 from (by decide)) (by decide)
      refine k_aload_n X dX10_size_9 0 rfl ?_
      refine k_get (ci := 10) X inlX10 rfl 1 (by decide) dX10_size_10 mw20 0 rfl rfl ?_
      refine k_iload_n X dX10_size_13 1 rfl ?_
      refine k_callVI (n := 1) (As := [.int p0]) (st := []) X [(tl, .inr (3, [.ref ys, .ref yhn, .ref yht, .ref yhj, .ref yhm, .ref yhb, .ref yhs, .ref yhc])), (yhn, .inr (8, [.int 1, .int 6, .ref yhnc, .int yhnn])), (yhnc, .inl (g.2.2.1, 6, .inl yhnf))] [(h0, .inr (10, [.ref tt, .ref tl, .ref nw, .ref kk, v4h0, v5h0, v6h0, v7h0, v8h0, .int tr])), (tt, .inr (9, [.int xtpd, .ref th, .int xfn, .int xfp, .ref tp, .int xen, .ref nm, .ref nd, .int xkd, .int xsta, .int xpo, .int xva, .long xle, .int xtk, .int xta])), (tp, .inl (g.2.1, 900, .inl tpf)), (ys, .inr (7, [.ref yr, .ref ym, .ref yw, .ref yp, .int ymd, .int ytr])), (yr, .inr (8, [.int 8, .int 3, .ref yrc, .int yrn])), (yrc, .inl (g.2.2.1, 24, .inl yrf)), (ym, .inr (8, [.int 12, .int 3, .ref ymc, .int ymn])), (ymc, .inl (g.2.2.1, 36, .inl ymf)), (yw, .inr (8, [.int 6, .int 3, .ref ywc, .int ywn])), (ywc, .inl (g.2.2.1, 18, .inl ywf)), (yp, .inr (8, [.int 8, .int 2, .ref ypc, .int ypn])), (ypc, .inl (g.2.2.1, 16, .inl ypf)), (yht, .inr (8, [.int 4, .int 1, .ref yhtc, .int yhtn])), (yhtc, .inl (g.2.2.1, 4, .inl yhtf)), (yhj, .inr (8, [.int 8, .int 2, .ref yhjc, .int yhjn])), (yhjc, .inl (g.2.2.1, 16, .inl yhjf)), (yhm, .inr (8, [.int 4, .int 3, .ref yhmc, .int yhmn])), (yhmc, .inl (g.2.2.1, 12, .inl yhmf)), (yhb, .inr (8, [.int 1, .int 3, .ref yhbc, .int yhbn])), (yhbc, .inl (g.2.2.1, 3, .inl yhbf)), (yhs, .inr (8, [.int 6, .int 3, .ref yhsc, .int yhsn])), (yhsc, .inl (g.2.2.1, 18, .inl yhsf)), (yhc, .inr (8, [.int 6, .int 2, .ref yhcc, .int yhcn])), (yhcc, .inl (g.2.2.1, 12, .inl yhcf)), (nw, .inr (7, [.ref zr, .ref zm, .ref zw, .ref zp, .int zmd, .int ztr])), (zr, .inr (8, [.int 8, .int 3, .ref zrc, .int zrn])), (zrc, .inl (g.2.2.1, 24, .inl zrf)), (zm, .inr (8, [.int 12, .int 3, .ref zmc, .int zmn])), (zmc, .inl (g.2.2.1, 36, .inl zmf)), (zw, .inr (8, [.int 6, .int 3, .ref zwc, .int zwn])), (zwc, .inl (g.2.2.1, 18, .inl zwf)), (zp, .inr (8, [.int 8, .int 2, .ref zpc, .int zpn])), (zpc, .inl (g.2.2.1, 16, .inl zpf)), (kk, .inr (4, [.ref kah, .ref kig, .int kac, .int knx, .int kim]))] [3, 13, 14] [0, 1, 2, 4, 5, 6, 7, 8, 9, 10, 11, 12, 15, 16, 17, 18, 19, 20, 21, 22, 23, 24, 25, 26, 27, 28, 29, 30, 31, 32, 33, 34, 35, 36] (h_number l g tl p0 (.ref ys) yhn (.ref yht) (.ref yhj) (.ref yhm) (.ref yhb) (.ref yhs) (.ref yhc) yhnc yhnn yhnf) dX10_size_14 mw1264 mw415 mw416 mw19 mw417 rfl 3 rfl rfl 0 _ rfl (by unfold yOk; decide) rfl (Nat.le_of_ble_eq_true rfl) (Nat.le_of_ble_eq_true rfl) (Nat.le_of_ble_eq_true rfl) (Nat.le_of_ble_eq_true rfl) (Nat.le_of_ble_eq_true rfl) rfl rfl (by decide) rfl (by decide) (by decide) ?_
      rintro r_43 w rfl
      refine k_ws [(h0, .inr (10, [.ref tt, .ref tl, .ref nw, .ref kk, v4h0, v5h0, v6h0, v7h0, v8h0, .int tr])), (tt, .inr (9, [.int xtpd, .ref th, .int xfn, .int xfp, .ref tp, .int xen, .ref nm, .ref nd, .int xkd, .int xsta, .int xpo, .int xva, .long xle, .int xtk, .int xta])), (tp, .inl (g.2.1, 900, .inl tpf)), (ys, .inr (7, [.ref yr, .ref ym, .ref yw, .ref yp, .int ymd, .int ytr])), (yr, .inr (8, [.int 8, .int 3, .ref yrc, .int yrn])), (yrc, .inl (g.2.2.1, 24, .inl yrf)), (ym, .inr (8, [.int 12, .int 3, .ref ymc, .int ymn])), (ymc, .inl (g.2.2.1, 36, .inl ymf)), (yw, .inr (8, [.int 6, .int 3, .ref ywc, .int ywn])), (ywc, .inl (g.2.2.1, 18, .inl ywf)), (yp, .inr (8, [.int 8, .int 2, .ref ypc, .int ypn])), (ypc, .inl (g.2.2.1, 16, .inl ypf)), (yht, .inr (8, [.int 4, .int 1, .ref yhtc, .int yhtn])), (yhtc, .inl (g.2.2.1, 4, .inl yhtf)), (yhj, .inr (8, [.int 8, .int 2, .ref yhjc, .int yhjn])), (yhjc, .inl (g.2.2.1, 16, .inl yhjf)), (yhm, .inr (8, [.int 4, .int 3, .ref yhmc, .int yhmn])), (yhmc, .inl (g.2.2.1, 12, .inl yhmf)), (yhb, .inr (8, [.int 1, .int 3, .ref yhbc, .int yhbn])), (yhbc, .inl (g.2.2.1, 3, .inl yhbf)), (yhs, .inr (8, [.int 6, .int 3, .ref yhsc, .int yhsn])), (yhsc, .inl (g.2.2.1, 18, .inl yhsf)), (yhc, .inr (8, [.int 6, .int 2, .ref yhcc, .int yhcn])), (yhcc, .inl (g.2.2.1, 12, .inl yhcf)), (nw, .inr (7, [.ref zr, .ref zm, .ref zw, .ref zp, .int zmd, .int ztr])), (zr, .inr (8, [.int 8, .int 3, .ref zrc, .int zrn])), (zrc, .inl (g.2.2.1, 24, .inl zrf)), (zm, .inr (8, [.int 12, .int 3, .ref zmc, .int zmn])), (zmc, .inl (g.2.2.1, 36, .inl zmf)), (zw, .inr (8, [.int 6, .int 3, .ref zwc, .int zwn])), (zwc, .inl (g.2.2.1, 18, .inl zwf)), (zp, .inr (8, [.int 8, .int 2, .ref zpc, .int zpn])), (zpc, .inl (g.2.2.1, 16, .inl zpf)), (kk, .inr (4, [.ref kah, .ref kig, .int kac, .int knx, .int kim])), (tl, .inr (3, [.ref ys, .ref yhn, .ref yht, .ref yhj, .ref yhm, .ref yhb, .ref yhs, .ref yhc])), (yhn, .inr (8, [.int 1, .int 6, .ref yhnc, .int yhnn])), (yhnc, .inl (g.2.2.1, 6, .inl yhnf))] rfl ?_
      exact k_iret X hr dX10_size_17 (Nat.le_of_ble_eq_true rfl) (Nat.le_of_ble_eq_true rfl) [0, 1, 2, 34, 3, 4, 5, 6, 7, 8, 9, 10, 11, 35, 36, 12, 13, 14, 15, 16, 17, 18, 19, 20, 21, 22, 23, 24, 25, 26, 27, 28, 29, 30, 31, 32, 33] (by decide) rfl rfl rfl

theorem dX10_wrong_0 : decode cX10_wrong 0 = .ok (.aload_n 0, 1) := by decide +kernel
theorem dX10_wrong_1 : decode cX10_wrong 1 = .ok (.invokevirtual 184, 3) := by decide +kernel
theorem dX10_wrong_4 : decode cX10_wrong 4 = .ok (.ifCond .eq 21, 3) := by decide +kernel
theorem dX10_wrong_7 : decode cX10_wrong 7 = .ok (.aload_n 0, 1) := by decide +kernel
theorem dX10_wrong_8 : decode cX10_wrong 8 = .ok (.aload_n 0, 1) := by decide +kernel
theorem dX10_wrong_9 : decode cX10_wrong 9 = .ok (.getfield 61, 3) := by decide +kernel
theorem dX10_wrong_12 : decode cX10_wrong 12 = .ok (.aload_n 0, 1) := by decide +kernel
theorem dX10_wrong_13 : decode cX10_wrong 13 = .ok (.getfield 26, 3) := by decide +kernel
theorem dX10_wrong_16 : decode cX10_wrong 16 = .ok (.invokevirtual 313, 3) := by decide +kernel
theorem dX10_wrong_19 : decode cX10_wrong 19 = .ok (.invokevirtual 118, 3) := by decide +kernel
theorem dX10_wrong_22 : decode cX10_wrong 22 = .ok (.goto 8, 3) := by decide +kernel
theorem dX10_wrong_25 : decode cX10_wrong 25 = .ok (.aload_n 0, 1) := by decide +kernel
theorem dX10_wrong_26 : decode cX10_wrong 26 = .ok (.iconst 1, 1) := by decide +kernel
theorem dX10_wrong_27 : decode cX10_wrong 27 = .ok (.invokevirtual 83, 3) := by decide +kernel
theorem dX10_wrong_30 : decode cX10_wrong 30 = .ok (.ireturn, 1) := by decide +kernel
set_option maxHeartbeats 4000000 in
set_option maxRecDepth 100000 in
theorem c_wrong (l : Launch) (g : Gx) (h0 : Nat) (v0h0 : Value) (v1h0 : Value) (nw : Nat) (v3h0 : Value) (v4h0 : Value) (v5h0 : Value) (v6h0 : Value) (xc : Nat) (v8h0 : Value) (tr : Int32) (zr : Nat) (zm : Nat) (zw : Nat) (zp : Nat) (zmd : Int32) (ztr : Int32) (zrc : Nat) (zrn : Int32) (zrf : Nat → Int32) (zmc : Nat) (zmn : Int32) (zmf : Nat → Int32) (zwc : Nat) (zwn : Int32) (zwf : Nat → Int32) (zpc : Nat) (zpn : Int32) (zpf : Nat → Int32) (eo : Nat) (ep : Nat) (es : Nat) (eoc : Nat) (eon : Int32) (eof : Nat → Int32) (epc : Nat) (epn : Int32) (epf : Nat → Int32) (es_f : Nat → Int64) : cI l g yX10_wrong cX10_wrong 1 (some .int) 3 67 0 0 [.ref h0] [(h0, .inr (10, [v0h0, v1h0, .ref nw, v3h0, v4h0, v5h0, v6h0, .ref xc, v8h0, .int tr])), (nw, .inr (7, [.ref zr, .ref zm, .ref zw, .ref zp, .int zmd, .int ztr])), (zr, .inr (8, [.int 8, .int 3, .ref zrc, .int zrn])), (zrc, .inl (g.2.2.1, 24, .inl zrf)), (zm, .inr (8, [.int 12, .int 3, .ref zmc, .int zmn])), (zmc, .inl (g.2.2.1, 36, .inl zmf)), (zw, .inr (8, [.int 6, .int 3, .ref zwc, .int zwn])), (zwc, .inl (g.2.2.1, 18, .inl zwf)), (zp, .inr (8, [.int 8, .int 2, .ref zpc, .int zpn])), (zpc, .inl (g.2.2.1, 16, .inl zpf)), (xc, .inr (1, [.ref eo, .ref ep, .ref es])), (eo, .inr (8, [.int 8, .int 1, .ref eoc, .int eon])), (eoc, .inl (g.2.2.1, 8, .inl eof)), (ep, .inr (8, [.int 256, .int 1, .ref epc, .int epn])), (epc, .inl (g.2.2.1, 256, .inl epf)), (es, .inl (g.2.2.2.1, 8, .inr (.inl es_f)))] (fun r w => ∃ (tr2 : Int32), (tr2 ≠ 4) ∧ w = [(h0, .inr (10, [v0h0, v1h0, .ref nw, v3h0, v4h0, v5h0, v6h0, .ref xc, v8h0, .int tr2])), (nw, .inr (7, [.ref zr, .ref zm, .ref zw, .ref zp, .int zmd, .int ztr])), (zr, .inr (8, [.int 8, .int 3, .ref zrc, .int zrn])), (zrc, .inl (g.2.2.1, 24, .inl zrf)), (zm, .inr (8, [.int 12, .int 3, .ref zmc, .int zmn])), (zmc, .inl (g.2.2.1, 36, .inl zmf)), (zw, .inr (8, [.int 6, .int 3, .ref zwc, .int zwn])), (zwc, .inl (g.2.2.1, 18, .inl zwf)), (zp, .inr (8, [.int 8, .int 2, .ref zpc, .int zpn])), (zpc, .inl (g.2.2.1, 16, .inl zpf)), (xc, .inr (1, [.ref eo, .ref ep, .ref es])), (eo, .inr (8, [.int 8, .int 1, .ref eoc, .int eon])), (eoc, .inl (g.2.2.1, 8, .inl eof)), (ep, .inr (8, [.int 256, .int 1, .ref epc, .int epn])), (epc, .inl (g.2.2.1, 256, .inl epf)), (es, .inl (g.2.2.2.1, 8, .inr (.inl es_f)))]) := by
  refine cI.of (by decide) (Nat.le_of_ble_eq_true rfl) ?_
  intro p e s m args below meth c A X hr hi
  refine k_lveq [(0, .ref h0)] rfl ?_
  refine k_aload_n X dX10_wrong_0 0 rfl ?_
  refine k_callVI (n := 0) (As := []) (st := []) X [(h0, .inr (10, [v0h0, v1h0, .ref nw, v3h0, v4h0, v5h0, v6h0, .ref xc, v8h0, .int tr])), (nw, .inr (7, [.ref zr, .ref zm, .ref zw, .ref zp, .int zmd, .int ztr])), (zp, .inr (8, [.int 8, .int 2, .ref zpc, .int zpn])), (zpc, .inl (g.2.2.1, 16, .inl zpf))] [(zr, .inr (8, [.int 8, .int 3, .ref zrc, .int zrn])), (zrc, .inl (g.2.2.1, 24, .inl zrf)), (zm, .inr (8, [.int 12, .int 3, .ref zmc, .int zmn])), (zmc, .inl (g.2.2.1, 36, .inl zmf)), (zw, .inr (8, [.int 6, .int 3, .ref zwc, .int zwn])), (zwc, .inl (g.2.2.1, 18, .inl zwf)), (xc, .inr (1, [.ref eo, .ref ep, .ref es])), (eo, .inr (8, [.int 8, .int 1, .ref eoc, .int eon])), (eoc, .inl (g.2.2.1, 8, .inl eof)), (ep, .inr (8, [.int 256, .int 1, .ref epc, .int epn])), (epc, .inl (g.2.2.1, 256, .inl epf)), (es, .inl (g.2.2.2.1, 8, .inr (.inl es_f)))] [0, 1, 8, 9] [2, 3, 4, 5, 6, 7, 10, 11, 12, 13, 14, 15] (c_isOpen l g h0 v0h0 v1h0 nw v3h0 v4h0 v5h0 v6h0 (.ref xc) v8h0 tr (.ref zr) (.ref zm) (.ref zw) zp zmd ztr zpc zpn zpf) dX10_wrong_1 mw971 mw972 mw973 mw2 mw974 rfl 10 rfl rfl 0 _ rfl (by unfold yOk; decide) rfl (Nat.le_of_ble_eq_true rfl) (Nat.le_of_ble_eq_true rfl) (Nat.le_of_ble_eq_true rfl) (Nat.le_of_ble_eq_true rfl) (Nat.le_of_ble_eq_true rfl) rfl rfl (by decide) rfl (by decide) (by decide) ?_
  rintro r_2 w ⟨tr2_1, rfl⟩
  refine k_ws [(zr, .inr (8, [.int 8, .int 3, .ref zrc, .int zrn])), (zrc, .inl (g.2.2.1, 24, .inl zrf)), (zm, .inr (8, [.int 12, .int 3, .ref zmc, .int zmn])), (zmc, .inl (g.2.2.1, 36, .inl zmf)), (zw, .inr (8, [.int 6, .int 3, .ref zwc, .int zwn])), (zwc, .inl (g.2.2.1, 18, .inl zwf)), (xc, .inr (1, [.ref eo, .ref ep, .ref es])), (eo, .inr (8, [.int 8, .int 1, .ref eoc, .int eon])), (eoc, .inl (g.2.2.1, 8, .inl eof)), (ep, .inr (8, [.int 256, .int 1, .ref epc, .int epn])), (epc, .inl (g.2.2.1, 256, .inl epf)), (es, .inl (g.2.2.2.1, 8, .inr (.inl es_f))), (h0, .inr (10, [v0h0, v1h0, .ref nw, v3h0, v4h0, v5h0, v6h0, .ref xc, v8h0, .int tr2_1])), (nw, .inr (7, [.ref zr, .ref zm, .ref zw, .ref zp, .int zmd, .int ztr])), (zp, .inr (8, [.int 8, .int 2, .ref zpc, .int zpn])), (zpc, .inl (g.2.2.1, 16, .inl zpf))] rfl ?_
  refine k_if_eq 25 X dX10_wrong_4 (by decide) (fun h_4 => ?_) (fun h_4 => ?_)
  · skip
    refine k_aload_n X dX10_wrong_25 0 rfl ?_
    refine k_iconst (v := 1) X dX10_wrong_26 (by decide) ?_
    refine k_callVI (n := 1) (As := [.int 1]) (st := []) X [(h0, .inr (10, [v0h0, v1h0, .ref nw, v3h0, v4h0, v5h0, v6h0, .ref xc, v8h0, .int tr2_1]))] [(zr, .inr (8, [.int 8, .int 3, .ref zrc, .int zrn])), (zrc, .inl (g.2.2.1, 24, .inl zrf)), (zm, .inr (8, [.int 12, .int 3, .ref zmc, .int zmn])), (zmc, .inl (g.2.2.1, 36, .inl zmf)), (zw, .inr (8, [.int 6, .int 3, .ref zwc, .int zwn])), (zwc, .inl (g.2.2.1, 18, .inl zwf)), (xc, .inr (1, [.ref eo, .ref ep, .ref es])), (eo, .inr (8, [.int 8, .int 1, .ref eoc, .int eon])), (eoc, .inl (g.2.2.1, 8, .inl eof)), (ep, .inr (8, [.int 256, .int 1, .ref epc, .int epn])), (epc, .inl (g.2.2.1, 256, .inl epf)), (es, .inl (g.2.2.2.1, 8, .inr (.inl es_f))), (nw, .inr (7, [.ref zr, .ref zm, .ref zw, .ref zp, .int zmd, .int ztr])), (zp, .inr (8, [.int 8, .int 2, .ref zpc, .int zpn])), (zpc, .inl (g.2.2.1, 16, .inl zpf))] [12] [0, 1, 2, 3, 4, 5, 6, 7, 8, 9, 10, 11, 13, 14, 15] (c_refuse l g h0 1 v0h0 v1h0 (.ref nw) v3h0 v4h0 v5h0 v6h0 (.ref xc) v8h0 tr2_1 (by decide)) dX10_wrong_27 mw215 mw216 mw217 mw2 mw218 rfl 10 rfl rfl 0 _ rfl (by unfold yOk; decide) rfl (Nat.le_of_ble_eq_true rfl) (Nat.le_of_ble_eq_true rfl) (Nat.le_of_ble_eq_true rfl) (Nat.le_of_ble_eq_true rfl) (Nat.le_of_ble_eq_true rfl) rfl rfl (by decide) rfl (by decide) (by decide) ?_
    rintro r_6 w ⟨tr2_5, hr_7, rfl⟩
    refine k_ws [(zr, .inr (8, [.int 8, .int 3, .ref zrc, .int zrn])), (zrc, .inl (g.2.2.1, 24, .inl zrf)), (zm, .inr (8, [.int 12, .int 3, .ref zmc, .int zmn])), (zmc, .inl (g.2.2.1, 36, .inl zmf)), (zw, .inr (8, [.int 6, .int 3, .ref zwc, .int zwn])), (zwc, .inl (g.2.2.1, 18, .inl zwf)), (xc, .inr (1, [.ref eo, .ref ep, .ref es])), (eo, .inr (8, [.int 8, .int 1, .ref eoc, .int eon])), (eoc, .inl (g.2.2.1, 8, .inl eof)), (ep, .inr (8, [.int 256, .int 1, .ref epc, .int epn])), (epc, .inl (g.2.2.1, 256, .inl epf)), (es, .inl (g.2.2.2.1, 8, .inr (.inl es_f))), (nw, .inr (7, [.ref zr, .ref zm, .ref zw, .ref zp, .int zmd, .int ztr])), (zp, .inr (8, [.int 8, .int 2, .ref zpc, .int zpn])), (zpc, .inl (g.2.2.1, 16, .inl zpf)), (h0, .inr (10, [v0h0, v1h0, .ref nw, v3h0, v4h0, v5h0, v6h0, .ref xc, v8h0, .int tr2_5]))] rfl ?_
    exact k_iret X hr dX10_wrong_30 (Nat.le_of_ble_eq_true rfl) (Nat.le_of_ble_eq_true rfl) [15, 12, 0, 1, 2, 3, 4, 5, 13, 14, 6, 7, 8, 9, 10, 11] (by decide) rfl rfl ⟨tr2_5, (by first | assumption | decide), rfl⟩
  · skip
    refine k_aload_n X dX10_wrong_7 0 rfl ?_
    refine k_aload_n X dX10_wrong_8 0 rfl ?_
    refine k_get (ci := 10) X inlX10 rfl 7 (by decide) dX10_wrong_9 mw44 12 rfl rfl ?_
    refine k_aload_n X dX10_wrong_12 0 rfl ?_
    refine k_get (ci := 10) X inlX10 rfl 2 (by decide) dX10_wrong_13 mw24 12 rfl rfl ?_
    refine k_callVI (n := 1) (As := [.ref nw]) (st := [.ref h0]) X [(xc, .inr (1, [.ref eo, .ref ep, .ref es])), (nw, .inr (7, [.ref zr, .ref zm, .ref zw, .ref zp, .int zmd, .int ztr])), (zp, .inr (8, [.int 8, .int 2, .ref zpc, .int zpn])), (zpc, .inl (g.2.2.1, 16, .inl zpf))] [(zr, .inr (8, [.int 8, .int 3, .ref zrc, .int zrn])), (zrc, .inl (g.2.2.1, 24, .inl zrf)), (zm, .inr (8, [.int 12, .int 3, .ref zmc, .int zmn])), (zmc, .inl (g.2.2.1, 36, .inl zmf)), (zw, .inr (8, [.int 6, .int 3, .ref zwc, .int zwn])), (zwc, .inl (g.2.2.1, 18, .inl zwf)), (eo, .inr (8, [.int 8, .int 1, .ref eoc, .int eon])), (eoc, .inl (g.2.2.1, 8, .inl eof)), (ep, .inr (8, [.int 256, .int 1, .ref epc, .int epn])), (epc, .inl (g.2.2.1, 256, .inl epf)), (es, .inl (g.2.2.2.1, 8, .inr (.inl es_f))), (h0, .inr (10, [v0h0, v1h0, .ref nw, v3h0, v4h0, v5h0, v6h0, .ref xc, v8h0, .int tr2_1]))] [6, 13, 14, 15] [0, 1, 2, 3, 4, 5, 7, 8, 9, 10, 11, 12] (e_wrong l g xc nw (.ref eo) (.ref ep) (.ref es) (.ref zr) (.ref zm) (.ref zw) zp zmd ztr zpc zpn zpf) dX10_wrong_16 mw1356 mw1357 mw1358 mw43 mw1359 rfl 1 rfl rfl 0 _ rfl (by unfold yOk; decide) rfl (Nat.le_of_ble_eq_true rfl) (Nat.le_of_ble_eq_true rfl) (Nat.le_of_ble_eq_true rfl) (Nat.le_of_ble_eq_true rfl) (Nat.le_of_ble_eq_true rfl) rfl rfl (by decide) rfl (by decide) (by decide) ?_
    rintro r_8 w rfl
    refine k_ws [(zr, .inr (8, [.int 8, .int 3, .ref zrc, .int zrn])), (zrc, .inl (g.2.2.1, 24, .inl zrf)), (zm, .inr (8, [.int 12, .int 3, .ref zmc, .int zmn])), (zmc, .inl (g.2.2.1, 36, .inl zmf)), (zw, .inr (8, [.int 6, .int 3, .ref zwc, .int zwn])), (zwc, .inl (g.2.2.1, 18, .inl zwf)), (eo, .inr (8, [.int 8, .int 1, .ref eoc, .int eon])), (eoc, .inl (g.2.2.1, 8, .inl eof)), (ep, .inr (8, [.int 256, .int 1, .ref epc, .int epn])), (epc, .inl (g.2.2.1, 256, .inl epf)), (es, .inl (g.2.2.2.1, 8, .inr (.inl es_f))), (h0, .inr (10, [v0h0, v1h0, .ref nw, v3h0, v4h0, v5h0, v6h0, .ref xc, v8h0, .int tr2_1])), (xc, .inr (1, [.ref eo, .ref ep, .ref es])), (nw, .inr (7, [.ref zr, .ref zm, .ref zw, .ref zp, .int zmd, .int ztr])), (zp, .inr (8, [.int 8, .int 2, .ref zpc, .int zpn])), (zpc, .inl (g.2.2.1, 16, .inl zpf))] rfl ?_
    refine k_callVI (n := 1) (As := [.int r_8]) (st := []) X [(h0, .inr (10, [v0h0, v1h0, .ref nw, v3h0, v4h0, v5h0, v6h0, .ref xc, v8h0, .int tr2_1]))] [(zr, .inr (8, [.int 8, .int 3, .ref zrc, .int zrn])), (zrc, .inl (g.2.2.1, 24, .inl zrf)), (zm, .inr (8, [.int 12, .int 3, .ref zmc, .int zmn])), (zmc, .inl (g.2.2.1, 36, .inl zmf)), (zw, .inr (8, [.int 6, .int 3, .ref zwc, .int zwn])), (zwc, .inl (g.2.2.1, 18, .inl zwf)), (eo, .inr (8, [.int 8, .int 1, .ref eoc, .int eon])), (eoc, .inl (g.2.2.1, 8, .inl eof)), (ep, .inr (8, [.int 256, .int 1, .ref epc, .int epn])), (epc, .inl (g.2.2.1, 256, .inl epf)), (es, .inl (g.2.2.2.1, 8, .inr (.inl es_f))), (xc, .inr (1, [.ref eo, .ref ep, .ref es])), (nw, .inr (7, [.ref zr, .ref zm, .ref zw, .ref zp, .int zmd, .int ztr])), (zp, .inr (8, [.int 8, .int 2, .ref zpc, .int zpn])), (zpc, .inl (g.2.2.1, 16, .inl zpf))] [11] [0, 1, 2, 3, 4, 5, 6, 7, 8, 9, 10, 12, 13, 14, 15] (c_tell l g h0 r_8 v0h0 v1h0 (.ref nw) v3h0 v4h0 v5h0 v6h0 (.ref xc) v8h0 tr2_1) dX10_wrong_19 mw460 mw461 mw462 mw2 mw463 rfl 10 rfl rfl 0 _ rfl (by unfold yOk; decide) rfl (Nat.le_of_ble_eq_true rfl) (Nat.le_of_ble_eq_true rfl) (Nat.le_of_ble_eq_true rfl) (Nat.le_of_ble_eq_true rfl) (Nat.le_of_ble_eq_true rfl) rfl rfl (by decide) rfl (by decide) (by decide) ?_
    rintro r_11 w ⟨tr2_10, hr_12, rfl⟩
    refine k_ws [(zr, .inr (8, [.int 8, .int 3, .ref zrc, .int zrn])), (zrc, .inl (g.2.2.1, 24, .inl zrf)), (zm, .inr (8, [.int 12, .int 3, .ref zmc, .int zmn])), (zmc, .inl (g.2.2.1, 36, .inl zmf)), (zw, .inr (8, [.int 6, .int 3, .ref zwc, .int zwn])), (zwc, .inl (g.2.2.1, 18, .inl zwf)), (eo, .inr (8, [.int 8, .int 1, .ref eoc, .int eon])), (eoc, .inl (g.2.2.1, 8, .inl eof)), (ep, .inr (8, [.int 256, .int 1, .ref epc, .int epn])), (epc, .inl (g.2.2.1, 256, .inl epf)), (es, .inl (g.2.2.2.1, 8, .inr (.inl es_f))), (xc, .inr (1, [.ref eo, .ref ep, .ref es])), (nw, .inr (7, [.ref zr, .ref zm, .ref zw, .ref zp, .int zmd, .int ztr])), (zp, .inr (8, [.int 8, .int 2, .ref zpc, .int zpn])), (zpc, .inl (g.2.2.1, 16, .inl zpf)), (h0, .inr (10, [v0h0, v1h0, .ref nw, v3h0, v4h0, v5h0, v6h0, .ref xc, v8h0, .int tr2_10]))] rfl ?_
    refine k_goto 30 X dX10_wrong_22 (by decide) ?_
    exact k_iret X hr dX10_wrong_30 (Nat.le_of_ble_eq_true rfl) (Nat.le_of_ble_eq_true rfl) [15, 12, 0, 1, 2, 3, 4, 5, 13, 14, 11, 6, 7, 8, 9, 10] (by decide) rfl rfl ⟨tr2_10, (by first | assumption | decide), rfl⟩

theorem dX10_exchanges_0 : decode cX10_exchanges 0 = .ok (.aload_n 0, 1) := by decide +kernel
theorem dX10_exchanges_1 : decode cX10_exchanges 1 = .ok (.invokevirtual 184, 3) := by decide +kernel
theorem dX10_exchanges_4 : decode cX10_exchanges 4 = .ok (.ifCond .eq 21, 3) := by decide +kernel
theorem dX10_exchanges_7 : decode cX10_exchanges 7 = .ok (.aload_n 0, 1) := by decide +kernel
theorem dX10_exchanges_8 : decode cX10_exchanges 8 = .ok (.aload_n 0, 1) := by decide +kernel
theorem dX10_exchanges_9 : decode cX10_exchanges 9 = .ok (.getfield 61, 3) := by decide +kernel
theorem dX10_exchanges_12 : decode cX10_exchanges 12 = .ok (.aload_n 0, 1) := by decide +kernel
theorem dX10_exchanges_13 : decode cX10_exchanges 13 = .ok (.getfield 26, 3) := by decide +kernel
theorem dX10_exchanges_16 : decode cX10_exchanges 16 = .ok (.invokevirtual 317, 3) := by decide +kernel
theorem dX10_exchanges_19 : decode cX10_exchanges 19 = .ok (.invokevirtual 118, 3) := by decide +kernel
theorem dX10_exchanges_22 : decode cX10_exchanges 22 = .ok (.goto 8, 3) := by decide +kernel
theorem dX10_exchanges_25 : decode cX10_exchanges 25 = .ok (.aload_n 0, 1) := by decide +kernel
theorem dX10_exchanges_26 : decode cX10_exchanges 26 = .ok (.iconst 1, 1) := by decide +kernel
theorem dX10_exchanges_27 : decode cX10_exchanges 27 = .ok (.invokevirtual 83, 3) := by decide +kernel
theorem dX10_exchanges_30 : decode cX10_exchanges 30 = .ok (.ireturn, 1) := by decide +kernel
set_option maxHeartbeats 4000000 in
set_option maxRecDepth 100000 in
theorem c_exchanges (l : Launch) (g : Gx) (h0 : Nat) (v0h0 : Value) (v1h0 : Value) (nw : Nat) (v3h0 : Value) (v4h0 : Value) (v5h0 : Value) (v6h0 : Value) (xc : Nat) (v8h0 : Value) (tr : Int32) (zr : Nat) (zm : Nat) (zw : Nat) (zp : Nat) (zmd : Int32) (ztr : Int32) (zrc : Nat) (zrn : Int32) (zrf : Nat → Int32) (zmc : Nat) (zmn : Int32) (zmf : Nat → Int32) (zwc : Nat) (zwn : Int32) (zwf : Nat → Int32) (zpc : Nat) (zpn : Int32) (zpf : Nat → Int32) (eo : Nat) (ep : Nat) (es : Nat) (eoc : Nat) (eon : Int32) (eof : Nat → Int32) (epc : Nat) (epn : Int32) (epf : Nat → Int32) (es_f : Nat → Int64) : cI l g yX10_exchanges cX10_exchanges 1 (some .int) 4 96 0 0 [.ref h0] [(h0, .inr (10, [v0h0, v1h0, .ref nw, v3h0, v4h0, v5h0, v6h0, .ref xc, v8h0, .int tr])), (nw, .inr (7, [.ref zr, .ref zm, .ref zw, .ref zp, .int zmd, .int ztr])), (zr, .inr (8, [.int 8, .int 3, .ref zrc, .int zrn])), (zrc, .inl (g.2.2.1, 24, .inl zrf)), (zm, .inr (8, [.int 12, .int 3, .ref zmc, .int zmn])), (zmc, .inl (g.2.2.1, 36, .inl zmf)), (zw, .inr (8, [.int 6, .int 3, .ref zwc, .int zwn])), (zwc, .inl (g.2.2.1, 18, .inl zwf)), (zp, .inr (8, [.int 8, .int 2, .ref zpc, .int zpn])), (zpc, .inl (g.2.2.1, 16, .inl zpf)), (xc, .inr (1, [.ref eo, .ref ep, .ref es])), (eo, .inr (8, [.int 8, .int 1, .ref eoc, .int eon])), (eoc, .inl (g.2.2.1, 8, .inl eof)), (ep, .inr (8, [.int 256, .int 1, .ref epc, .int epn])), (epc, .inl (g.2.2.1, 256, .inl epf)), (es, .inl (g.2.2.2.1, 8, .inr (.inl es_f)))] (fun r w => ∃ (tr2 : Int32) (eog : Nat → Int32) (eok : Int32) (epg : Nat → Int32) (es_g : Nat → Int64), (tr2 ≠ 4) ∧ w = [(h0, .inr (10, [v0h0, v1h0, .ref nw, v3h0, v4h0, v5h0, v6h0, .ref xc, v8h0, .int tr2])), (nw, .inr (7, [.ref zr, .ref zm, .ref zw, .ref zp, .int zmd, .int ztr])), (zr, .inr (8, [.int 8, .int 3, .ref zrc, .int zrn])), (zrc, .inl (g.2.2.1, 24, .inl zrf)), (zm, .inr (8, [.int 12, .int 3, .ref zmc, .int zmn])), (zmc, .inl (g.2.2.1, 36, .inl zmf)), (zw, .inr (8, [.int 6, .int 3, .ref zwc, .int zwn])), (zwc, .inl (g.2.2.1, 18, .inl zwf)), (zp, .inr (8, [.int 8, .int 2, .ref zpc, .int zpn])), (zpc, .inl (g.2.2.1, 16, .inl zpf)), (xc, .inr (1, [.ref eo, .ref ep, .ref es])), (eo, .inr (8, [.int 8, .int 1, .ref eoc, .int eok])), (eoc, .inl (g.2.2.1, 8, .inl eog)), (ep, .inr (8, [.int 256, .int 1, .ref epc, .int epn])), (epc, .inl (g.2.2.1, 256, .inl epg)), (es, .inl (g.2.2.2.1, 8, .inr (.inl es_g)))]) := by
  refine cI.of (by decide) (Nat.le_of_ble_eq_true rfl) ?_
  intro p e s m args below meth c A X hr hi
  refine k_lveq [(0, .ref h0)] rfl ?_
  refine k_aload_n X dX10_exchanges_0 0 rfl ?_
  refine k_callVI (n := 0) (As := []) (st := []) X [(h0, .inr (10, [v0h0, v1h0, .ref nw, v3h0, v4h0, v5h0, v6h0, .ref xc, v8h0, .int tr])), (nw, .inr (7, [.ref zr, .ref zm, .ref zw, .ref zp, .int zmd, .int ztr])), (zp, .inr (8, [.int 8, .int 2, .ref zpc, .int zpn])), (zpc, .inl (g.2.2.1, 16, .inl zpf))] [(zr, .inr (8, [.int 8, .int 3, .ref zrc, .int zrn])), (zrc, .inl (g.2.2.1, 24, .inl zrf)), (zm, .inr (8, [.int 12, .int 3, .ref zmc, .int zmn])), (zmc, .inl (g.2.2.1, 36, .inl zmf)), (zw, .inr (8, [.int 6, .int 3, .ref zwc, .int zwn])), (zwc, .inl (g.2.2.1, 18, .inl zwf)), (xc, .inr (1, [.ref eo, .ref ep, .ref es])), (eo, .inr (8, [.int 8, .int 1, .ref eoc, .int eon])), (eoc, .inl (g.2.2.1, 8, .inl eof)), (ep, .inr (8, [.int 256, .int 1, .ref epc, .int epn])), (epc, .inl (g.2.2.1, 256, .inl epf)), (es, .inl (g.2.2.2.1, 8, .inr (.inl es_f)))] [0, 1, 8, 9] [2, 3, 4, 5, 6, 7, 10, 11, 12, 13, 14, 15] (c_isOpen l g h0 v0h0 v1h0 nw v3h0 v4h0 v5h0 v6h0 (.ref xc) v8h0 tr (.ref zr) (.ref zm) (.ref zw) zp zmd ztr zpc zpn zpf) dX10_exchanges_1 mw971 mw972 mw973 mw2 mw974 rfl 10 rfl rfl 0 _ rfl (by unfold yOk; decide) rfl (Nat.le_of_ble_eq_true rfl) (Nat.le_of_ble_eq_true rfl) (Nat.le_of_ble_eq_true rfl) (Nat.le_of_ble_eq_true rfl) (Nat.le_of_ble_eq_true rfl) rfl rfl (by decide) rfl (by decide) (by decide) ?_
  rintro r_2 w ⟨tr2_1, rfl⟩
  refine k_ws [(zr, .inr (8, [.int 8, .int 3, .ref zrc, .int zrn])), (zrc, .inl (g.2.2.1, 24, .inl zrf)), (zm, .inr (8, [.int 12, .int 3, .ref zmc, .int zmn])), (zmc, .inl (g.2.2.1, 36, .inl zmf)), (zw, .inr (8, [.int 6, .int 3, .ref zwc, .int zwn])), (zwc, .inl (g.2.2.1, 18, .inl zwf)), (xc, .inr (1, [.ref eo, .ref ep, .ref es])), (eo, .inr (8, [.int 8, .int 1, .ref eoc, .int eon])), (eoc, .inl (g.2.2.1, 8, .inl eof)), (ep, .inr (8, [.int 256, .int 1, .ref epc, .int epn])), (epc, .inl (g.2.2.1, 256, .inl epf)), (es, .inl (g.2.2.2.1, 8, .inr (.inl es_f))), (h0, .inr (10, [v0h0, v1h0, .ref nw, v3h0, v4h0, v5h0, v6h0, .ref xc, v8h0, .int tr2_1])), (nw, .inr (7, [.ref zr, .ref zm, .ref zw, .ref zp, .int zmd, .int ztr])), (zp, .inr (8, [.int 8, .int 2, .ref zpc, .int zpn])), (zpc, .inl (g.2.2.1, 16, .inl zpf))] rfl ?_
  refine k_if_eq 25 X dX10_exchanges_4 (by decide) (fun h_4 => ?_) (fun h_4 => ?_)
  · skip
    refine k_aload_n X dX10_exchanges_25 0 rfl ?_
    refine k_iconst (v := 1) X dX10_exchanges_26 (by decide) ?_
    refine k_callVI (n := 1) (As := [.int 1]) (st := []) X [(h0, .inr (10, [v0h0, v1h0, .ref nw, v3h0, v4h0, v5h0, v6h0, .ref xc, v8h0, .int tr2_1]))] [(zr, .inr (8, [.int 8, .int 3, .ref zrc, .int zrn])), (zrc, .inl (g.2.2.1, 24, .inl zrf)), (zm, .inr (8, [.int 12, .int 3, .ref zmc, .int zmn])), (zmc, .inl (g.2.2.1, 36, .inl zmf)), (zw, .inr (8, [.int 6, .int 3, .ref zwc, .int zwn])), (zwc, .inl (g.2.2.1, 18, .inl zwf)), (xc, .inr (1, [.ref eo, .ref ep, .ref es])), (eo, .inr (8, [.int 8, .int 1, .ref eoc, .int eon])), (eoc, .inl (g.2.2.1, 8, .inl eof)), (ep, .inr (8, [.int 256, .int 1, .ref epc, .int epn])), (epc, .inl (g.2.2.1, 256, .inl epf)), (es, .inl (g.2.2.2.1, 8, .inr (.inl es_f))), (nw, .inr (7, [.ref zr, .ref zm, .ref zw, .ref zp, .int zmd, .int ztr])), (zp, .inr (8, [.int 8, .int 2, .ref zpc, .int zpn])), (zpc, .inl (g.2.2.1, 16, .inl zpf))] [12] [0, 1, 2, 3, 4, 5, 6, 7, 8, 9, 10, 11, 13, 14, 15] (c_refuse l g h0 1 v0h0 v1h0 (.ref nw) v3h0 v4h0 v5h0 v6h0 (.ref xc) v8h0 tr2_1 (by decide)) dX10_exchanges_27 mw215 mw216 mw217 mw2 mw218 rfl 10 rfl rfl 0 _ rfl (by unfold yOk; decide) rfl (Nat.le_of_ble_eq_true rfl) (Nat.le_of_ble_eq_true rfl) (Nat.le_of_ble_eq_true rfl) (Nat.le_of_ble_eq_true rfl) (Nat.le_of_ble_eq_true rfl) rfl rfl (by decide) rfl (by decide) (by decide) ?_
    rintro r_6 w ⟨tr2_5, hr_7, rfl⟩
    refine k_ws [(zr, .inr (8, [.int 8, .int 3, .ref zrc, .int zrn])), (zrc, .inl (g.2.2.1, 24, .inl zrf)), (zm, .inr (8, [.int 12, .int 3, .ref zmc, .int zmn])), (zmc, .inl (g.2.2.1, 36, .inl zmf)), (zw, .inr (8, [.int 6, .int 3, .ref zwc, .int zwn])), (zwc, .inl (g.2.2.1, 18, .inl zwf)), (xc, .inr (1, [.ref eo, .ref ep, .ref es])), (eo, .inr (8, [.int 8, .int 1, .ref eoc, .int eon])), (eoc, .inl (g.2.2.1, 8, .inl eof)), (ep, .inr (8, [.int 256, .int 1, .ref epc, .int epn])), (epc, .inl (g.2.2.1, 256, .inl epf)), (es, .inl (g.2.2.2.1, 8, .inr (.inl es_f))), (nw, .inr (7, [.ref zr, .ref zm, .ref zw, .ref zp, .int zmd, .int ztr])), (zp, .inr (8, [.int 8, .int 2, .ref zpc, .int zpn])), (zpc, .inl (g.2.2.1, 16, .inl zpf)), (h0, .inr (10, [v0h0, v1h0, .ref nw, v3h0, v4h0, v5h0, v6h0, .ref xc, v8h0, .int tr2_5]))] rfl ?_
    exact k_iret X hr dX10_exchanges_30 (Nat.le_of_ble_eq_true rfl) (Nat.le_of_ble_eq_true rfl) [15, 12, 0, 1, 2, 3, 4, 5, 13, 14, 6, 7, 8, 9, 10, 11] (by decide) rfl rfl ⟨tr2_5, eof, eon, epf, es_f, (by first | assumption | decide), rfl⟩
  · skip
    refine k_aload_n X dX10_exchanges_7 0 rfl ?_
    refine k_aload_n X dX10_exchanges_8 0 rfl ?_
    refine k_get (ci := 10) X inlX10 rfl 7 (by decide) dX10_exchanges_9 mw44 12 rfl rfl ?_
    refine k_aload_n X dX10_exchanges_12 0 rfl ?_
    refine k_get (ci := 10) X inlX10 rfl 2 (by decide) dX10_exchanges_13 mw24 12 rfl rfl ?_
    refine k_callVI (n := 1) (As := [.ref nw]) (st := [.ref h0]) X [(xc, .inr (1, [.ref eo, .ref ep, .ref es])), (eo, .inr (8, [.int 8, .int 1, .ref eoc, .int eon])), (eoc, .inl (g.2.2.1, 8, .inl eof)), (ep, .inr (8, [.int 256, .int 1, .ref epc, .int epn])), (epc, .inl (g.2.2.1, 256, .inl epf)), (es, .inl (g.2.2.2.1, 8, .inr (.inl es_f))), (nw, .inr (7, [.ref zr, .ref zm, .ref zw, .ref zp, .int zmd, .int ztr])), (zr, .inr (8, [.int 8, .int 3, .ref zrc, .int zrn])), (zrc, .inl (g.2.2.1, 24, .inl zrf)), (zp, .inr (8, [.int 8, .int 2, .ref zpc, .int zpn])), (zpc, .inl (g.2.2.1, 16, .inl zpf))] [(zm, .inr (8, [.int 12, .int 3, .ref zmc, .int zmn])), (zmc, .inl (g.2.2.1, 36, .inl zmf)), (zw, .inr (8, [.int 6, .int 3, .ref zwc, .int zwn])), (zwc, .inl (g.2.2.1, 18, .inl zwf)), (h0, .inr (10, [v0h0, v1h0, .ref nw, v3h0, v4h0, v5h0, v6h0, .ref xc, v8h0, .int tr2_1]))] [6, 7, 8, 9, 10, 11, 13, 0, 1, 14, 15] [2, 3, 4, 5, 12] (e_fewest l g xc nw eo ep es eoc eon eof epc epn epf es_f zr (.ref zm) (.ref zw) zp zmd ztr zrc zrn zrf zpc zpn zpf) dX10_exchanges_16 mw1371 mw1372 mw1373 mw43 mw1374 rfl 1 rfl rfl 0 _ rfl (by unfold yOk; decide) rfl (Nat.le_of_ble_eq_true rfl) (Nat.le_of_ble_eq_true rfl) (Nat.le_of_ble_eq_true rfl) (Nat.le_of_ble_eq_true rfl) (Nat.le_of_ble_eq_true rfl) rfl rfl (by decide) rfl (by decide) (by decide) ?_
    rintro r_12 w ⟨eog_8, eok_9, epg_10, es_g_11, rfl⟩
    refine k_ws [(zm, .inr (8, [.int 12, .int 3, .ref zmc, .int zmn])), (zmc, .inl (g.2.2.1, 36, .inl zmf)), (zw, .inr (8, [.int 6, .int 3, .ref zwc, .int zwn])), (zwc, .inl (g.2.2.1, 18, .inl zwf)), (h0, .inr (10, [v0h0, v1h0, .ref nw, v3h0, v4h0, v5h0, v6h0, .ref xc, v8h0, .int tr2_1])), (xc, .inr (1, [.ref eo, .ref ep, .ref es])), (eo, .inr (8, [.int 8, .int 1, .ref eoc, .int eok_9])), (eoc, .inl (g.2.2.1, 8, .inl eog_8)), (ep, .inr (8, [.int 256, .int 1, .ref epc, .int epn])), (epc, .inl (g.2.2.1, 256, .inl epg_10)), (es, .inl (g.2.2.2.1, 8, .inr (.inl es_g_11))), (nw, .inr (7, [.ref zr, .ref zm, .ref zw, .ref zp, .int zmd, .int ztr])), (zr, .inr (8, [.int 8, .int 3, .ref zrc, .int zrn])), (zrc, .inl (g.2.2.1, 24, .inl zrf)), (zp, .inr (8, [.int 8, .int 2, .ref zpc, .int zpn])), (zpc, .inl (g.2.2.1, 16, .inl zpf))] rfl ?_
    refine k_callVI (n := 1) (As := [.int r_12]) (st := []) X [(h0, .inr (10, [v0h0, v1h0, .ref nw, v3h0, v4h0, v5h0, v6h0, .ref xc, v8h0, .int tr2_1]))] [(zm, .inr (8, [.int 12, .int 3, .ref zmc, .int zmn])), (zmc, .inl (g.2.2.1, 36, .inl zmf)), (zw, .inr (8, [.int 6, .int 3, .ref zwc, .int zwn])), (zwc, .inl (g.2.2.1, 18, .inl zwf)), (xc, .inr (1, [.ref eo, .ref ep, .ref es])), (eo, .inr (8, [.int 8, .int 1, .ref eoc, .int eok_9])), (eoc, .inl (g.2.2.1, 8, .inl eog_8)), (ep, .inr (8, [.int 256, .int 1, .ref epc, .int epn])), (epc, .inl (g.2.2.1, 256, .inl epg_10)), (es, .inl (g.2.2.2.1, 8, .inr (.inl es_g_11))), (nw, .inr (7, [.ref zr, .ref zm, .ref zw, .ref zp, .int zmd, .int ztr])), (zr, .inr (8, [.int 8, .int 3, .ref zrc, .int zrn])), (zrc, .inl (g.2.2.1, 24, .inl zrf)), (zp, .inr (8, [.int 8, .int 2, .ref zpc, .int zpn])), (zpc, .inl (g.2.2.1, 16, .inl zpf))] [4] [0, 1, 2, 3, 5, 6, 7, 8, 9, 10, 11, 12, 13, 14, 15] (c_tell l g h0 r_12 v0h0 v1h0 (.ref nw) v3h0 v4h0 v5h0 v6h0 (.ref xc) v8h0 tr2_1) dX10_exchanges_19 mw460 mw461 mw462 mw2 mw463 rfl 10 rfl rfl 0 _ rfl (by unfold yOk; decide) rfl (Nat.le_of_ble_eq_true rfl) (Nat.le_of_ble_eq_true rfl) (Nat.le_of_ble_eq_true rfl) (Nat.le_of_ble_eq_true rfl) (Nat.le_of_ble_eq_true rfl) rfl rfl (by decide) rfl (by decide) (by decide) ?_
    rintro r_15 w ⟨tr2_14, hr_16, rfl⟩
    refine k_ws [(zm, .inr (8, [.int 12, .int 3, .ref zmc, .int zmn])), (zmc, .inl (g.2.2.1, 36, .inl zmf)), (zw, .inr (8, [.int 6, .int 3, .ref zwc, .int zwn])), (zwc, .inl (g.2.2.1, 18, .inl zwf)), (xc, .inr (1, [.ref eo, .ref ep, .ref es])), (eo, .inr (8, [.int 8, .int 1, .ref eoc, .int eok_9])), (eoc, .inl (g.2.2.1, 8, .inl eog_8)), (ep, .inr (8, [.int 256, .int 1, .ref epc, .int epn])), (epc, .inl (g.2.2.1, 256, .inl epg_10)), (es, .inl (g.2.2.2.1, 8, .inr (.inl es_g_11))), (nw, .inr (7, [.ref zr, .ref zm, .ref zw, .ref zp, .int zmd, .int ztr])), (zr, .inr (8, [.int 8, .int 3, .ref zrc, .int zrn])), (zrc, .inl (g.2.2.1, 24, .inl zrf)), (zp, .inr (8, [.int 8, .int 2, .ref zpc, .int zpn])), (zpc, .inl (g.2.2.1, 16, .inl zpf)), (h0, .inr (10, [v0h0, v1h0, .ref nw, v3h0, v4h0, v5h0, v6h0, .ref xc, v8h0, .int tr2_14]))] rfl ?_
    refine k_goto 30 X dX10_exchanges_22 (by decide) ?_
    exact k_iret X hr dX10_exchanges_30 (Nat.le_of_ble_eq_true rfl) (Nat.le_of_ble_eq_true rfl) [15, 10, 11, 12, 0, 1, 2, 3, 13, 14, 4, 5, 6, 7, 8, 9] (by decide) rfl rfl ⟨tr2_14, eog_8, eok_9, epg_10, es_g_11, (by first | assumption | decide), rfl⟩
