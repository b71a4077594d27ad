theorem dX11_feed_0 : decode cX11_feed 0 = .ok (.aload_n 0, 1) := by decide +kernel
theorem dX11_feed_1 : decode cX11_feed 1 = .ok (.iconst 0, 1) := by decide +kernel
theorem dX11_feed_2 : decode cX11_feed 2 = .ok (.putfield 83, 3) := by decide +kernel
theorem dX11_feed_5 : decode cX11_feed 5 = .ok (.aload_n 0, 1) := by decide +kernel
theorem dX11_feed_6 : decode cX11_feed 6 = .ok (.getfield 89, 3) := by decide +kernel
theorem dX11_feed_9 : decode cX11_feed 9 = .ok (.bipush 20, 2) := by decide +kernel
theorem dX11_feed_11 : decode cX11_feed 11 = .ok (.iadd, 1) := by decide +kernel
theorem dX11_feed_12 : decode cX11_feed 12 = .ok (.sipush 900, 3) := by decide +kernel
theorem dX11_feed_15 : decode cX11_feed 15 = .ok (.if_icmp .le 5, 3) := by decide +kernel
theorem dX11_feed_20 : decode cX11_feed 20 = .ok (.iconst 0, 1) := by decide +kernel
theorem dX11_feed_21 : decode cX11_feed 21 = .ok (.istore 6, 2) := by decide +kernel
theorem dX11_feed_23 : decode cX11_feed 23 = .ok (.iload 6, 2) := by decide +kernel
theorem dX11_feed_25 : decode cX11_feed 25 = .ok (.bipush 20, 2) := by decide +kernel
theorem dX11_feed_27 : decode cX11_feed 27 = .ok (.if_icmp .ge 93, 3) := by decide +kernel
theorem dX11_feed_30 : decode cX11_feed 30 = .ok (.iload 6, 2) := by decide +kernel
theorem dX11_feed_32 : decode cX11_feed 32 = .ok (.iconst 4, 1) := by decide +kernel
theorem dX11_feed_33 : decode cX11_feed 33 = .ok (.if_icmp .ge 7, 3) := by decide +kernel
theorem dX11_feed_36 : decode cX11_feed 36 = .ok (.iload_n 1, 1) := by decide +kernel
theorem dX11_feed_37 : decode cX11_feed 37 = .ok (.goto 39, 3) := by decide +kernel
theorem dX11_feed_40 : decode cX11_feed 40 = .ok (.iload 6, 2) := by decide +kernel
theorem dX11_feed_42 : decode cX11_feed 42 = .ok (.bipush 8, 2) := by decide +kernel
theorem dX11_feed_44 : decode cX11_feed 44 = .ok (.if_icmp .ge 7, 3) := by decide +kernel
theorem dX11_feed_47 : decode cX11_feed 47 = .ok (.iload_n 2, 1) := by decide +kernel
theorem dX11_feed_48 : decode cX11_feed 48 = .ok (.goto 28, 3) := by decide +kernel
theorem dX11_feed_51 : decode cX11_feed 51 = .ok (.iload 6, 2) := by decide +kernel
theorem dX11_feed_53 : decode cX11_feed 53 = .ok (.bipush 12, 2) := by decide +kernel
theorem dX11_feed_55 : decode cX11_feed 55 = .ok (.if_icmp .ge 7, 3) := by decide +kernel
theorem dX11_feed_58 : decode cX11_feed 58 = .ok (.iload_n 3, 1) := by decide +kernel
theorem dX11_feed_59 : decode cX11_feed 59 = .ok (.goto 17, 3) := by decide +kernel
theorem dX11_feed_62 : decode cX11_feed 62 = .ok (.iload 6, 2) := by decide +kernel
theorem dX11_feed_64 : decode cX11_feed 64 = .ok (.bipush 16, 2) := by decide +kernel
theorem dX11_feed_66 : decode cX11_feed 66 = .ok (.if_icmp .ge 8, 3) := by decide +kernel
theorem dX11_feed_69 : decode cX11_feed 69 = .ok (.iload 4, 2) := by decide +kernel
theorem dX11_feed_71 : decode cX11_feed 71 = .ok (.goto 5, 3) := by decide +kernel
theorem dX11_feed_74 : decode cX11_feed 74 = .ok (.iload 5, 2) := by decide +kernel
theorem dX11_feed_76 : decode cX11_feed 76 = .ok (.istore 7, 2) := by decide +kernel
theorem dX11_feed_78 : decode cX11_feed 78 = .ok (.aload_n 0, 1) := by decide +kernel
theorem dX11_feed_79 : decode cX11_feed 79 = .ok (.getfield 7, 3) := by decide +kernel
theorem dX11_feed_82 : decode cX11_feed 82 = .ok (.aload_n 0, 1) := by decide +kernel
theorem dX11_feed_83 : decode cX11_feed 83 = .ok (.getfield 89, 3) := by decide +kernel
theorem dX11_feed_86 : decode cX11_feed 86 = .ok (.iload 7, 2) := by decide +kernel
theorem dX11_feed_88 : decode cX11_feed 88 = .ok (.bipush 24, 2) := by decide +kernel
theorem dX11_feed_90 : decode cX11_feed 90 = .ok (.bipush 8, 2) := by decide +kernel
theorem dX11_feed_92 : decode cX11_feed 92 = .ok (.iload 6, 2) := by decide +kernel
theorem dX11_feed_94 : decode cX11_feed 94 = .ok (.iconst 4, 1) := by decide +kernel
theorem dX11_feed_95 : decode cX11_feed 95 = .ok (.irem, 1) := by decide +kernel
theorem dX11_feed_96 : decode cX11_feed 96 = .ok (.imul, 1) := by decide +kernel
theorem dX11_feed_97 : decode cX11_feed 97 = .ok (.isub, 1) := by decide +kernel
theorem dX11_feed_98 : decode cX11_feed 98 = .ok (.ishr, 1) := by decide +kernel
theorem dX11_feed_99 : decode cX11_feed 99 = .ok (.sipush 255, 3) := by decide +kernel
theorem dX11_feed_102 : decode cX11_feed 102 = .ok (.iand, 1) := by decide +kernel
theorem dX11_feed_103 : decode cX11_feed 103 = .ok (.iastore, 1) := by decide +kernel
theorem dX11_feed_104 : decode cX11_feed 104 = .ok (.aload_n 0, 1) := by decide +kernel
theorem dX11_feed_105 : decode cX11_feed 105 = .ok (.dup, 1) := by decide +kernel
theorem dX11_feed_106 : decode cX11_feed 106 = .ok (.getfield 89, 3) := by decide +kernel
theorem dX11_feed_109 : decode cX11_feed 109 = .ok (.iconst 1, 1) := by decide +kernel
theorem dX11_feed_110 : decode cX11_feed 110 = .ok (.iadd, 1) := by decide +kernel
theorem dX11_feed_111 : decode cX11_feed 111 = .ok (.putfield 89, 3) := by decide +kernel
theorem dX11_feed_114 : decode cX11_feed 114 = .ok (.iinc 6 1, 3) := by decide +kernel
theorem dX11_feed_117 : decode cX11_feed 117 = .ok (.goto (-94), 3) := by decide +kernel
theorem dX11_feed_120 : decode cX11_feed 120 = .ok (.aload_n 0, 1) := by decide +kernel
theorem dX11_feed_121 : decode cX11_feed 121 = .ok (.getfield 89, 3) := by decide +kernel
theorem dX11_feed_124 : decode cX11_feed 124 = .ok (.ireturn, 1) := by decide +kernel
set_option maxHeartbeats 4000000 in
set_option maxRecDepth 100000 in
theorem r_feed (l : Launch) (g : Gx) (h0 : Nat) (p0 : Int32) (p1 : Int32) (p2 : Int32) (p3 : Int32) (p4 : Int32) (v0h0 : Value) (mt : Nat) (v3h0 : Value) (v4h0 : Value) (v5h0 : Value) (v6h0 : Value) (v7h0 : Value) (v8h0 : Value) (v9h0 : Value) (v10h0 : Value) (v11h0 : Value) (v12h0 : Value) (v13h0 : Value) (v14h0 : Value) (v15h0 : Value) (v16h0 : Value) (v17h0 : Value) (v18h0 : Value) (v19h0 : Value) (v20h0 : Value) (v21h0 : Value) (v22h0 : Value) (v23h0 : Value) (v24h0 : Value) (v25h0 : Value) (v26h0 : Value) (v27h0 : Value) (v28h0 : Value) (v29h0 : Value) (v30h0 : Value) (v31h0 : Value) (v32h0 : Value) (v33h0 : Value) (v34h0 : Value) (v35h0 : Value) (v36h0 : Value) (v37h0 : Value) (v38h0 : Value) (v39h0 : Value) (v40h0 : Value) (v41h0 : Value) (v42h0 : Value) (fm : Nat → Int32) : cI l g yX11_feed cX11_feed 8 (some .int) 0 0 0 0 [.ref h0, .int p0, .int p1, .int p2, .int p3, .int p4] [(h0, .inr (11, [v0h0, .ref mt, .int 0, v3h0, v4h0, v5h0, v6h0, v7h0, v8h0, v9h0, v10h0, v11h0, v12h0, v13h0, v14h0, v15h0, v16h0, v17h0, v18h0, v19h0, v20h0, v21h0, v22h0, v23h0, v24h0, v25h0, v26h0, v27h0, v28h0, v29h0, v30h0, v31h0, v32h0, v33h0, v34h0, v35h0, v36h0, v37h0, v38h0, v39h0, v40h0, v41h0, v42h0])), (mt, .inl (g.2.2.1, 900, .inl fm))] (fun r w => r = 20 ∧ w = []) := by
  refine cI.of (by decide) (Nat.le_of_ble_eq_true rfl) ?_
  intro p e s m args below meth c A X hr hi
  refine k_lveq [(0, .ref h0), (1, .int p0), (2, .int p1), (3, .int p2), (4, .int p3), (5, .int p4)] rfl ?_
  refine k_aload_n X dX11_feed_0 0 rfl ?_
  refine k_iconst (v := 0) X dX11_feed_1 (by decide) ?_
  refine k_put (ci := 11) [(h0, .inr (11, [.int 0, .ref mt, .int 0, v3h0, v4h0, v5h0, v6h0, v7h0, v8h0, v9h0, v10h0, v11h0, v12h0, v13h0, v14h0, v15h0, v16h0, v17h0, v18h0, v19h0, v20h0, v21h0, v22h0, v23h0, v24h0, v25h0, v26h0, v27h0, v28h0, v29h0, v30h0, v31h0, v32h0, v33h0, v34h0, v35h0, v36h0, v37h0, v38h0, v39h0, v40h0, v41h0, v42h0])), (mt, .inl (g.2.2.1, 900, .inl fm))] X inlX11 rfl tyX11_ok nmX11 0 (by decide) rfl dX11_feed_2 mw279 0 rfl rfl rfl (Nat.le_of_ble_eq_true rfl) rfl ?_
  refine k_aload_n X dX11_feed_5 0 rfl ?_
  refine k_get (ci := 11) X inlX11 rfl 2 (by decide) dX11_feed_6 mw329 0 rfl rfl ?_
  refine k_bipush (v := 20) X dX11_feed_9 (by decide) ?_
  refine k_iadd X dX11_feed_11 ?_
  refine k_to (20) (by decide) ?_
  refine k_sipush (v := 900) X dX11_feed_12 (by decide) ?_
  refine k_ic_le 20 X dX11_feed_15 (by decide) (fun _ => ?_) (fun h_1 => absurd (by decide) h_1)
  refine k_iconst (v := 0) X dX11_feed_20 (by decide) ?_
  refine k_istore [(6, .int 0), (0, .ref h0), (1, .int p0), (2, .int p1), (3, .int p2), (4, .int p3), (5, .int p4)] X dX11_feed_21 (by decide) rfl ?_
  refine k_iload X dX11_feed_23 0 rfl ?_
  refine k_bipush (v := 20) X dX11_feed_25 (by decide) ?_
  refine k_ic_ge 120 X dX11_feed_27 (by decide) (fun h_2 => absurd h_2 (by decide)) (fun _ => ?_)
  refine k_iload X dX11_feed_30 0 rfl ?_
  refine k_iconst (v := 4) X dX11_feed_32 (by decide) ?_
  refine k_ic_ge 40 X dX11_feed_33 (by decide) (fun h_3 => absurd h_3 (by decide)) (fun _ => ?_)
  refine k_iload_n X dX11_feed_36 2 rfl ?_
  refine k_goto 76 X dX11_feed_37 (by decide) ?_
  refine k_istore [(7, .int p0), (6, .int 0), (0, .ref h0), (1, .int p0), (2, .int p1), (3, .int p2), (4, .int p3), (5, .int p4)] X dX11_feed_76 (by decide) rfl ?_
  refine k_aload_n X dX11_feed_78 2 rfl ?_
  refine k_get (ci := 11) X inlX11 rfl 1 (by decide) dX11_feed_79 mw255 0 rfl rfl ?_
  refine k_aload_n X dX11_feed_82 2 rfl ?_
  refine k_get (ci := 11) X inlX11 rfl 2 (by decide) dX11_feed_83 mw329 0 rfl rfl ?_
  refine k_iload X dX11_feed_86 0 rfl ?_
  refine k_bipush (v := 24) X dX11_feed_88 (by decide) ?_
  refine k_bipush (v := 8) X dX11_feed_90 (by decide) ?_
  refine k_iload X dX11_feed_92 1 rfl ?_
  refine k_iconst (v := 4) X dX11_feed_94 (by decide) ?_
  refine k_irem X dX11_feed_95 (by decide) ?_
  refine k_to (0) (by decide) ?_
  refine k_imul X dX11_feed_96 ?_
  refine k_to (0) (by decide) ?_
  refine k_isub X dX11_feed_97 ?_
  refine k_to (24) (by decide) ?_
  refine k_ishr X dX11_feed_98 ?_
  refine k_nm (fun z_4 ez_4 => ?_)
  refine k_sipush (v := 255) X dX11_feed_99 (by decide) ?_
  refine k_iand X dX11_feed_102 ?_
  refine k_nm (fun z_5 ez_5 => ?_)
  refine k_iast [(h0, .inr (11, [.int 0, .ref mt, .int 0, v3h0, v4h0, v5h0, v6h0, v7h0, v8h0, v9h0, v10h0, v11h0, v12h0, v13h0, v14h0, v15h0, v16h0, v17h0, v18h0, v19h0, v20h0, v21h0, v22h0, v23h0, v24h0, v25h0, v26h0, v27h0, v28h0, v29h0, v30h0, v31h0, v32h0, v33h0, v34h0, v35h0, v36h0, v37h0, v38h0, v39h0, v40h0, v41h0, v42h0])), (mt, .inl (g.2.2.1, 900, .inl (upd fm (0 : Int32).toNatClampNeg z_5)))] X dX11_feed_103 1 rfl (by unfold vp_in; decide) rfl ?_
  refine (fun hg : ∀ fa_6 : Nat → Int32, Wk p l e _ s m args below meth c _ A g _ _ _ [(h0, .inr (11, [.int 0, .ref mt, .int 0, v3h0, v4h0, v5h0, v6h0, v7h0, v8h0, v9h0, v10h0, v11h0, v12h0, v13h0, v14h0, v15h0, v16h0, v17h0, v18h0, v19h0, v20h0, v21h0, v22h0, v23h0, v24h0, v25h0, v26h0, v27h0, v28h0, v29h0, v30h0, v31h0, v32h0, v33h0, v34h0, v35h0, v36h0, v37h0, v38h0, v39h0, v40h0, v41h0, v42h0])), (mt, .inl (g.2.2.1, 900, .inl fa_6))] _ _ _ => hg _) (fun fa_6 => ?_)
  refine k_aload_n X dX11_feed_104 2 rfl ?_
  refine k_dup X dX11_feed_105 rfl ?_
  refine k_get (ci := 11) X inlX11 rfl 2 (by decide) dX11_feed_106 mw329 0 rfl rfl ?_
  refine k_iconst (v := 1) X dX11_feed_109 (by decide) ?_
  refine k_iadd X dX11_feed_110 ?_
  refine k_to (1) (by decide) ?_
  refine k_put (ci := 11) [(h0, .inr (11, [.int 0, .ref mt, .int 1, v3h0, v4h0, v5h0, v6h0, v7h0, v8h0, v9h0, v10h0, v11h0, v12h0, v13h0, v14h0, v15h0, v16h0, v17h0, v18h0, v19h0, v20h0, v21h0, v22h0, v23h0, v24h0, v25h0, v26h0, v27h0, v28h0, v29h0, v30h0, v31h0, v32h0, v33h0, v34h0, v35h0, v36h0, v37h0, v38h0, v39h0, v40h0, v41h0, v42h0])), (mt, .inl (g.2.2.1, 900, .inl fa_6))] X inlX11 rfl tyX11_ok nmX11 2 (by decide) rfl dX11_feed_111 mw329 0 rfl rfl rfl (Nat.le_of_ble_eq_true rfl) rfl ?_
  refine k_iinc (1) [(6, .int 1), (7, .int p0), (0, .ref h0), (1, .int p0), (2, .int p1), (3, .int p2), (4, .int p3), (5, .int p4)] 1 X dX11_feed_114 rfl (by decide) (by decide) rfl ?_
  refine k_goto 23 X dX11_feed_117 (by decide) ?_
  refine k_iload X dX11_feed_23 0 rfl ?_
  refine k_bipush (v := 20) X dX11_feed_25 (by decide) ?_
  refine k_ic_ge 120 X dX11_feed_27 (by decide) (fun h_7 => absurd h_7 (by decide)) (fun _ => ?_)
  refine k_iload X dX11_feed_30 0 rfl ?_
  refine k_iconst (v := 4) X dX11_feed_32 (by decide) ?_
  refine k_ic_ge 40 X dX11_feed_33 (by decide) (fun h_8 => absurd h_8 (by decide)) (fun _ => ?_)
  refine k_iload_n X dX11_feed_36 3 rfl ?_
  refine k_goto 76 X dX11_feed_37 (by decide) ?_
  refine k_istore [(7, .int p0), (6, .int 1), (0, .ref h0), (1, .int p0), (2, .int p1), (3, .int p2), (4, .int p3), (5, .int p4)] X dX11_feed_76 (by decide) rfl ?_
  refine k_aload_n X dX11_feed_78 2 rfl ?_
  refine k_get (ci := 11) X inlX11 rfl 1 (by decide) dX11_feed_79 mw255 0 rfl rfl ?_
  refine k_aload_n X dX11_feed_82 2 rfl ?_
  refine k_get (ci := 11) X inlX11 rfl 2 (by decide) dX11_feed_83 mw329 0 rfl rfl ?_
  refine k_iload X dX11_feed_86 0 rfl ?_
  refine k_bipush (v := 24) X dX11_feed_88 (by decide) ?_
  refine k_bipush (v := 8) X dX11_feed_90 (by decide) ?_
  refine k_iload X dX11_feed_92 1 rfl ?_
  refine k_iconst (v := 4) X dX11_feed_94 (by decide) ?_
  refine k_irem X dX11_feed_95 (by decide) ?_
  refine k_to (1) (by decide) ?_
  refine k_imul X dX11_feed_96 ?_
  refine k_to (8) (by decide) ?_
  refine k_isub X dX11_feed_97 ?_
  refine k_to (16) (by decide) ?_
  refine k_ishr X dX11_feed_98 ?_
  refine k_nm (fun z_9 ez_9 => ?_)
  refine k_sipush (v := 255) X dX11_feed_99 (by decide) ?_
  refine k_iand X dX11_feed_102 ?_
  refine k_nm (fun z_10 ez_10 => ?_)
  refine k_iast [(h0, .inr (11, [.int 0, .ref mt, .int 1, v3h0, v4h0, v5h0, v6h0, v7h0, v8h0, v9h0, v10h0, v11h0, v12h0, v13h0, v14h0, v15h0, v16h0, v17h0, v18h0, v19h0, v20h0, v21h0, v22h0, v23h0, v24h0, v25h0, v26h0, v27h0, v28h0, v29h0, v30h0, v31h0, v32h0, v33h0, v34h0, v35h0, v36h0, v37h0, v38h0, v39h0, v40h0, v41h0, v42h0])), (mt, .inl (g.2.2.1, 900, .inl (upd fa_6 (1 : Int32).toNatClampNeg z_10)))] X dX11_feed_103 1 rfl (by unfold vp_in; decide) rfl ?_
  refine (fun hg : ∀ fa_11 : Nat → Int32, Wk p l e _ s m args below meth c _ A g _ _ _ [(h0, .inr (11, [.int 0, .ref mt, .int 1, v3h0, v4h0, v5h0, v6h0, v7h0, v8h0, v9h0, v10h0, v11h0, v12h0, v13h0, v14h0, v15h0, v16h0, v17h0, v18h0, v19h0, v20h0, v21h0, v22h0, v23h0, v24h0, v25h0, v26h0, v27h0, v28h0, v29h0, v30h0, v31h0, v32h0, v33h0, v34h0, v35h0, v36h0, v37h0, v38h0, v39h0, v40h0, v41h0, v42h0])), (mt, .inl (g.2.2.1, 900, .inl fa_11))] _ _ _ => hg _) (fun fa_11 => ?_)
  refine k_aload_n X dX11_feed_104 2 rfl ?_
  refine k_dup X dX11_feed_105 rfl ?_
  refine k_get (ci := 11) X inlX11 rfl 2 (by decide) dX11_feed_106 mw329 0 rfl rfl ?_
  refine k_iconst (v := 1) X dX11_feed_109 (by decide) ?_
  refine k_iadd X dX11_feed_110 ?_
  refine k_to (2) (by decide) ?_
  refine k_put (ci := 11) [(h0, .inr (11, [.int 0, .ref mt, .int 2, v3h0, v4h0, v5h0, v6h0, v7h0, v8h0, v9h0, v10h0, v11h0, v12h0, v13h0, v14h0, v15h0, v16h0, v17h0, v18h0, v19h0, v20h0, v21h0, v22h0, v23h0, v24h0, v25h0, v26h0, v27h0, v28h0, v29h0, v30h0, v31h0, v32h0, v33h0, v34h0, v35h0, v36h0, v37h0, v38h0, v39h0, v40h0, v41h0, v42h0])), (mt, .inl (g.2.2.1, 900, .inl fa_11))] X inlX11 rfl tyX11_ok nmX11 2 (by decide) rfl dX11_feed_111 mw329 0 rfl rfl rfl (Nat.le_of_ble_eq_true rfl) rfl ?_
  refine k_iinc (2) [(6, .int 2), (7, .int p0), (0, .ref h0), (1, .int p0), (2, .int p1), (3, .int p2), (4, .int p3), (5, .int p4)] 1 X dX11_feed_114 rfl (by decide) (by decide) rfl ?_
  refine k_goto 23 X dX11_feed_117 (by decide) ?_
  refine k_iload X dX11_feed_23 0 rfl ?_
  refine k_bipush (v := 20) X dX11_feed_25 (by decide) ?_
  refine k_ic_ge 120 X dX11_feed_27 (by decide) (fun h_12 => absurd h_12 (by decide)) (fun _ => ?_)
  refine k_iload X dX11_feed_30 0 rfl ?_
  refine k_iconst (v := 4) X dX11_feed_32 (by decide) ?_
  refine k_ic_ge 40 X dX11_feed_33 (by decide) (fun h_13 => absurd h_13 (by decide)) (fun _ => ?_)
  refine k_iload_n X dX11_feed_36 3 rfl ?_
  refine k_goto 76 X dX11_feed_37 (by decide) ?_
  refine k_istore [(7, .int p0), (6, .int 2), (0, .ref h0), (1, .int p0), (2, .int p1), (3, .int p2), (4, .int p3), (5, .int p4)] X dX11_feed_76 (by decide) rfl ?_
  refine k_aload_n X dX11_feed_78 2 rfl ?_
  refine k_get (ci := 11) X inlX11 rfl 1 (by decide) dX11_feed_79 mw255 0 rfl rfl ?_
  refine k_aload_n X dX11_feed_82 2 rfl ?_
  refine k_get (ci := 11) X inlX11 rfl 2 (by decide) dX11_feed_83 mw329 0 rfl rfl ?_
  refine k_iload X dX11_feed_86 0 rfl ?_
  refine k_bipush (v := 24) X dX11_feed_88 (by decide) ?_
  refine k_bipush (v := 8) X dX11_feed_90 (by decide) ?_
  refine k_iload X dX11_feed_92 1 rfl ?_
  refine k_iconst (v := 4) X dX11_feed_94 (by decide) ?_
  refine k_irem X dX11_feed_95 (by decide) ?_
  refine k_to (2) (by decide) ?_
  refine k_imul X dX11_feed_96 ?_
  refine k_to (16) (by decide) ?_
  refine k_isub X dX11_feed_97 ?_
  refine k_to (8) (by decide) ?_
  refine k_ishr X dX11_feed_98 ?_
  refine k_nm (fun z_14 ez_14 => ?_)
  refine k_sipush (v := 255) X dX11_feed_99 (by decide) ?_
  refine k_iand X dX11_feed_102 ?_
  refine k_nm (fun z_15 ez_15 => ?_)
  refine k_iast [(h0, .inr (11, [.int 0, .ref mt, .int 2, v3h0, v4h0, v5h0, v6h0, v7h0, v8h0, v9h0, v10h0, v11h0, v12h0, v13h0, v14h0, v15h0, v16h0, v17h0, v18h0, v19h0, v20h0, v21h0, v22h0, v23h0, v24h0, v25h0, v26h0, v27h0, v28h0, v29h0, v30h0, v31h0, v32h0, v33h0, v34h0, v35h0, v36h0, v37h0, v38h0, v39h0, v40h0, v41h0, v42h0])), (mt, .inl (g.2.2.1, 900, .inl (upd fa_11 (2 : Int32).toNatClampNeg z_15)))] X dX11_feed_103 1 rfl (by unfold vp_in; decide) rfl ?_
  refine (fun hg : ∀ fa_16 : Nat → Int32, Wk p l e _ s m args below meth c _ A g _ _ _ [(h0, .inr (11, [.int 0, .ref mt, .int 2, v3h0, v4h0, v5h0, v6h0, v7h0, v8h0, v9h0, v10h0, v11h0, v12h0, v13h0, v14h0, v15h0, v16h0, v17h0, v18h0, v19h0, v20h0, v21h0, v22h0, v23h0, v24h0, v25h0, v26h0, v27h0, v28h0, v29h0, v30h0, v31h0, v32h0, v33h0, v34h0, v35h0, v36h0, v37h0, v38h0, v39h0, v40h0, v41h0, v42h0])), (mt, .inl (g.2.2.1, 900, .inl fa_16))] _ _ _ => hg _) (fun fa_16 => ?_)
  refine k_aload_n X dX11_feed_104 2 rfl ?_
  refine k_dup X dX11_feed_105 rfl ?_
  refine k_get (ci := 11) X inlX11 rfl 2 (by decide) dX11_feed_106 mw329 0 rfl rfl ?_
  refine k_iconst (v := 1) X dX11_feed_109 (by decide) ?_
  refine k_iadd X dX11_feed_110 ?_
  refine k_to (3) (by decide) ?_
  refine k_put (ci := 11) [(h0, .inr (11, [.int 0, .ref mt, .int 3, v3h0, v4h0, v5h0, v6h0, v7h0, v8h0, v9h0, v10h0, v11h0, v12h0, v13h0, v14h0, v15h0, v16h0, v17h0, v18h0, v19h0, v20h0, v21h0, v22h0, v23h0, v24h0, v25h0, v26h0, v27h0, v28h0, v29h0, v30h0, v31h0, v32h0, v33h0, v34h0, v35h0, v36h0, v37h0, v38h0, v39h0, v40h0, v41h0, v42h0])), (mt, .inl (g.2.2.1, 900, .inl fa_16))] X inlX11 rfl tyX11_ok nmX11 2 (by decide) rfl dX11_feed_111 mw329 0 rfl rfl rfl (Nat.le_of_ble_eq_true rfl) rfl ?_
  refine k_iinc (3) [(6, .int 3), (7, .int p0), (0, .ref h0), (1, .int p0), (2, .int p1), (3, .int p2), (4, .int p3), (5, .int p4)] 1 X dX11_feed_114 rfl (by decide) (by decide) rfl ?_
  refine k_goto 23 X dX11_feed_117 (by decide) ?_
  refine k_iload X dX11_feed_23 0 rfl ?_
  refine k_bipush (v := 20) X dX11_feed_25 (by decide) ?_
  refine k_ic_ge 120 X dX11_feed_27 (by decide) (fun h_17 => absurd h_17 (by decide)) (fun _ => ?_)
  refine k_iload X dX11_feed_30 0 rfl ?_
  refine k_iconst (v := 4) X dX11_feed_32 (by decide) ?_
  refine k_ic_ge 40 X dX11_feed_33 (by decide) (fun h_18 => absurd h_18 (by decide)) (fun _ => ?_)
  refine k_iload_n X dX11_feed_36 3 rfl ?_
  refine k_goto 76 X dX11_feed_37 (by decide) ?_
  refine k_istore [(7, .int p0), (6, .int 3), (0, .ref h0), (1, .int p0), (2, .int p1), (3, .int p2), (4, .int p3), (5, .int p4)] X dX11_feed_76 (by decide) rfl ?_
  refine k_aload_n X dX11_feed_78 2 rfl ?_
  refine k_get (ci := 11) X inlX11 rfl 1 (by decide) dX11_feed_79 mw255 0 rfl rfl ?_
  refine k_aload_n X dX11_feed_82 2 rfl ?_
  refine k_get (ci := 11) X inlX11 rfl 2 (by decide) dX11_feed_83 mw329 0 rfl rfl ?_
  refine k_iload X dX11_feed_86 0 rfl ?_
  refine k_bipush (v := 24) X dX11_feed_88 (by decide) ?_
  refine k_bipush (v := 8) X dX11_feed_90 (by decide) ?_
  refine k_iload X dX11_feed_92 1 rfl ?_
  refine k_iconst (v := 4) X dX11_feed_94 (by decide) ?_
  refine k_irem X dX11_feed_95 (by decide) ?_
  refine k_to (3) (by decide) ?_
  refine k_imul X dX11_feed_96 ?_
  refine k_to (24) (by decide) ?_
  refine k_isub X dX11_feed_97 ?_
  refine k_to (0) (by decide) ?_
  refine k_ishr X dX11_feed_98 ?_
  refine k_nm (fun z_19 ez_19 => ?_)
  refine k_sipush (v := 255) X dX11_feed_99 (by decide) ?_
  refine k_iand X dX11_feed_102 ?_
  refine k_nm (fun z_20 ez_20 => ?_)
  refine k_iast [(h0, .inr (11, [.int 0, .ref mt, .int 3, v3h0, v4h0, v5h0, v6h0, v7h0, v8h0, v9h0, v10h0, v11h0, v12h0, v13h0, v14h0, v15h0, v16h0, v17h0, v18h0, v19h0, v20h0, v21h0, v22h0, v23h0, v24h0, v25h0, v26h0, v27h0, v28h0, v29h0, v30h0, v31h0, v32h0, v33h0, v34h0, v35h0, v36h0, v37h0, v38h0, v39h0, v40h0, v41h0, v42h0])), (mt, .inl (g.2.2.1, 900, .inl (upd fa_16 (3 : Int32).toNatClampNeg z_20)))] X dX11_feed_103 1 rfl (by unfold vp_in; decide) rfl ?_
  refine (fun hg : ∀ fa_21 : Nat → Int32, Wk p l e _ s m args below meth c _ A g _ _ _ [(h0, .inr (11, [.int 0, .ref mt, .int 3, v3h0, v4h0, v5h0, v6h0, v7h0, v8h0, v9h0, v10h0, v11h0, v12h0, v13h0, v14h0, v15h0, v16h0, v17h0, v18h0, v19h0, v20h0, v21h0, v22h0, v23h0, v24h0, v25h0, v26h0, v27h0, v28h0, v29h0, v30h0, v31h0, v32h0, v33h0, v34h0, v35h0, v36h0, v37h0, v38h0, v39h0, v40h0, v41h0, v42h0])), (mt, .inl (g.2.2.1, 900, .inl fa_21))] _ _ _ => hg _) (fun fa_21 => ?_)
  refine k_aload_n X dX11_feed_104 2 rfl ?_
  refine k_dup X dX11_feed_105 rfl ?_
  refine k_get (ci := 11) X inlX11 rfl 2 (by decide) dX11_feed_106 mw329 0 rfl rfl ?_
  refine k_iconst (v := 1) X dX11_feed_109 (by decide) ?_
  refine k_iadd X dX11_feed_110 ?_
  refine k_to (4) (by decide) ?_
  refine k_put (ci := 11) [(h0, .inr (11, [.int 0, .ref mt, .int 4, v3h0, v4h0, v5h0, v6h0, v7h0, v8h0, v9h0, v10h0, v11h0, v12h0, v13h0, v14h0, v15h0, v16h0, v17h0, v18h0, v19h0, v20h0, v21h0, v22h0, v23h0, v24h0, v25h0, v26h0, v27h0, v28h0, v29h0, v30h0, v31h0, v32h0, v33h0, v34h0, v35h0, v36h0, v37h0, v38h0, v39h0, v40h0, v41h0, v42h0])), (mt, .inl (g.2.2.1, 900, .inl fa_21))] X inlX11 rfl tyX11_ok nmX11 2 (by decide) rfl dX11_feed_111 mw329 0 rfl rfl rfl (Nat.le_of_ble_eq_true rfl) rfl ?_
  refine k_iinc (4) [(6, .int 4), (7, .int p0), (0, .ref h0), (1, .int p0), (2, .int p1), (3, .int p2), (4, .int p3), (5, .int p4)] 1 X dX11_feed_114 rfl (by decide) (by decide) rfl ?_
  refine k_goto 23 X dX11_feed_117 (by decide) ?_
  refine k_iload X dX11_feed_23 0 rfl ?_
  refine k_bipush (v := 20) X dX11_feed_25 (by decide) ?_
  refine k_ic_ge 120 X dX11_feed_27 (by decide) (fun h_22 => absurd h_22 (by decide)) (fun _ => ?_)
  refine k_iload X dX11_feed_30 0 rfl ?_
  refine k_iconst (v := 4) X dX11_feed_32 (by decide) ?_
  refine k_ic_ge 40 X dX11_feed_33 (by decide) (fun _ => ?_) (fun h_23 => absurd (by decide) h_23)
  refine k_iload X dX11_feed_40 0 rfl ?_
  refine k_bipush (v := 8) X dX11_feed_42 (by decide) ?_
  refine k_ic_ge 51 X dX11_feed_44 (by decide) (fun h_24 => absurd h_24 (by decide)) (fun _ => ?_)
  refine k_iload_n X dX11_feed_47 4 rfl ?_
  refine k_goto 76 X dX11_feed_48 (by decide) ?_
  refine k_istore [(7, .int p1), (6, .int 4), (0, .ref h0), (1, .int p0), (2, .int p1), (3, .int p2), (4, .int p3), (5, .int p4)] X dX11_feed_76 (by decide) rfl ?_
  refine k_aload_n X dX11_feed_78 2 rfl ?_
  refine k_get (ci := 11) X inlX11 rfl 1 (by decide) dX11_feed_79 mw255 0 rfl rfl ?_
  refine k_aload_n X dX11_feed_82 2 rfl ?_
  refine k_get (ci := 11) X inlX11 rfl 2 (by decide) dX11_feed_83 mw329 0 rfl rfl ?_
  refine k_iload X dX11_feed_86 0 rfl ?_
  refine k_bipush (v := 24) X dX11_feed_88 (by decide) ?_
  refine k_bipush (v := 8) X dX11_feed_90 (by decide) ?_
  refine k_iload X dX11_feed_92 1 rfl ?_
  refine k_iconst (v := 4) X dX11_feed_94 (by decide) ?_
  refine k_irem X dX11_feed_95 (by decide) ?_
  refine k_to (0) (by decide) ?_
  refine k_imul X dX11_feed_96 ?_
  refine k_to (0) (by decide) ?_
  refine k_isub X dX11_feed_97 ?_
  refine k_to (24) (by decide) ?_
  refine k_ishr X dX11_feed_98 ?_
  refine k_nm (fun z_25 ez_25 => ?_)
  refine k_sipush (v := 255) X dX11_feed_99 (by decide) ?_
  refine k_iand X dX11_feed_102 ?_
  refine k_nm (fun z_26 ez_26 => ?_)
  refine k_iast [(h0, .inr (11, [.int 0, .ref mt, .int 4, v3h0, v4h0, v5h0, v6h0, v7h0, v8h0, v9h0, v10h0, v11h0, v12h0, v13h0, v14h0, v15h0, v16h0, v17h0, v18h0, v19h0, v20h0, v21h0, v22h0, v23h0, v24h0, v25h0, v26h0, v27h0, v28h0, v29h0, v30h0, v31h0, v32h0, v33h0, v34h0, v35h0, v36h0, v37h0, v38h0, v39h0, v40h0, v41h0, v42h0])), (mt, .inl (g.2.2.1, 900, .inl (upd fa_21 (4 : Int32).toNatClampNeg z_26)))] X dX11_feed_103 1 rfl (by unfold vp_in; decide) rfl ?_
  refine (fun hg : ∀ fa_27 : Nat → Int32, Wk p l e _ s m args below meth c _ A g _ _ _ [(h0, .inr (11, [.int 0, .ref mt, .int 4, v3h0, v4h0, v5h0, v6h0, v7h0, v8h0, v9h0, v10h0, v11h0, v12h0, v13h0, v14h0, v15h0, v16h0, v17h0, v18h0, v19h0, v20h0, v21h0, v22h0, v23h0, v24h0, v25h0, v26h0, v27h0, v28h0, v29h0, v30h0, v31h0, v32h0, v33h0, v34h0, v35h0, v36h0, v37h0, v38h0, v39h0, v40h0, v41h0, v42h0])), (mt, .inl (g.2.2.1, 900, .inl fa_27))] _ _ _ => hg _) (fun fa_27 => ?_)
  refine k_aload_n X dX11_feed_104 2 rfl ?_
  refine k_dup X dX11_feed_105 rfl ?_
  refine k_get (ci := 11) X inlX11 rfl 2 (by decide) dX11_feed_106 mw329 0 rfl rfl ?_
  refine k_iconst (v := 1) X dX11_feed_109 (by decide) ?_
  refine k_iadd X dX11_feed_110 ?_
  refine k_to (5) (by decide) ?_
  refine k_put (ci := 11) [(h0, .inr (11, [.int 0, .ref mt, .int 5, v3h0, v4h0, v5h0, v6h0, v7h0, v8h0, v9h0, v10h0, v11h0, v12h0, v13h0, v14h0, v15h0, v16h0, v17h0, v18h0, v19h0, v20h0, v21h0, v22h0, v23h0, v24h0, v25h0, v26h0, v27h0, v28h0, v29h0, v30h0, v31h0, v32h0, v33h0, v34h0, v35h0, v36h0, v37h0, v38h0, v39h0, v40h0, v41h0, v42h0])), (mt, .inl (g.2.2.1, 900, .inl fa_27))] X inlX11 rfl tyX11_ok nmX11 2 (by decide) rfl dX11_feed_111 mw329 0 rfl rfl rfl (Nat.le_of_ble_eq_true rfl) rfl ?_
  refine k_iinc (5) [(6, .int 5), (7, .int p1), (0, .ref h0), (1, .int p0), (2, .int p1), (3, .int p2), (4, .int p3), (5, .int p4)] 1 X dX11_feed_114 rfl (by decide) (by decide) rfl ?_
  refine k_goto 23 X dX11_feed_117 (by decide) ?_
  refine k_iload X dX11_feed_23 0 rfl ?_
  refine k_bipush (v := 20) X dX11_feed_25 (by decide) ?_
  refine k_ic_ge 120 X dX11_feed_27 (by decide) (fun h_28 => absurd h_28 (by decide)) (fun _ => ?_)
  refine k_iload X dX11_feed_30 0 rfl ?_
  refine k_iconst (v := 4) X dX11_feed_32 (by decide) ?_
  refine k_ic_ge 40 X dX11_feed_33 (by decide) (fun _ => ?_) (fun h_29 => absurd (by decide) h_29)
  refine k_iload X dX11_feed_40 0 rfl ?_
  refine k_bipush (v := 8) X dX11_feed_42 (by decide) ?_
  refine k_ic_ge 51 X dX11_feed_44 (by decide) (fun h_30 => absurd h_30 (by decide)) (fun _ => ?_)
  refine k_iload_n X dX11_feed_47 4 rfl ?_
  refine k_goto 76 X dX11_feed_48 (by decide) ?_
  refine k_istore [(7, .int p1), (6, .int 5), (0, .ref h0), (1, .int p0), (2, .int p1), (3, .int p2), (4, .int p3), (5, .int p4)] X dX11_feed_76 (by decide) rfl ?_
  refine k_aload_n X dX11_feed_78 2 rfl ?_
  refine k_get (ci := 11) X inlX11 rfl 1 (by decide) dX11_feed_79 mw255 0 rfl rfl ?_
  refine k_aload_n X dX11_feed_82 2 rfl ?_
  refine k_get (ci := 11) X inlX11 rfl 2 (by decide) dX11_feed_83 mw329 0 rfl rfl ?_
  refine k_iload X dX11_feed_86 0 rfl ?_
  refine k_bipush (v := 24) X dX11_feed_88 (by decide) ?_
  refine k_bipush (v := 8) X dX11_feed_90 (by decide) ?_
  refine k_iload X dX11_feed_92 1 rfl ?_
  refine k_iconst (v := 4) X dX11_feed_94 (by decide) ?_
  refine k_irem X dX11_feed_95 (by decide) ?_
  refine k_to (1) (by decide) ?_
  refine k_imul X dX11_feed_96 ?_
  refine k_to (8) (by decide) ?_
  refine k_isub X dX11_feed_97 ?_
  refine k_to (16) (by decide) ?_
  refine k_ishr X dX11_feed_98 ?_
  refine k_nm (fun z_31 ez_31 => ?_)
  refine k_sipush (v := 255) X dX11_feed_99 (by decide) ?_
  refine k_iand X dX11_feed_102 ?_
  refine k_nm (fun z_32 ez_32 => ?_)
  refine k_iast [(h0, .inr (11, [.int 0, .ref mt, .int 5, v3h0, v4h0, v5h0, v6h0, v7h0, v8h0, v9h0, v10h0, v11h0, v12h0, v13h0, v14h0, v15h0, v16h0, v17h0, v18h0, v19h0, v20h0, v21h0, v22h0, v23h0, v24h0, v25h0, v26h0, v27h0, v28h0, v29h0, v30h0, v31h0, v32h0, v33h0, v34h0, v35h0, v36h0, v37h0, v38h0, v39h0, v40h0, v41h0, v42h0])), (mt, .inl (g.2.2.1, 900, .inl (upd fa_27 (5 : Int32).toNatClampNeg z_32)))] X dX11_feed_103 1 rfl (by unfold vp_in; decide) rfl ?_
  refine (fun hg : ∀ fa_33 : Nat → Int32, Wk p l e _ s m args below meth c _ A g _ _ _ [(h0, .inr (11, [.int 0, .ref mt, .int 5, v3h0, v4h0, v5h0, v6h0, v7h0, v8h0, v9h0, v10h0, v11h0, v12h0, v13h0, v14h0, v15h0, v16h0, v17h0, v18h0, v19h0, v20h0, v21h0, v22h0, v23h0, v24h0, v25h0, v26h0, v27h0, v28h0, v29h0, v30h0, v31h0, v32h0, v33h0, v34h0, v35h0, v36h0, v37h0, v38h0, v39h0, v40h0, v41h0, v42h0])), (mt, .inl (g.2.2.1, 900, .inl fa_33))] _ _ _ => hg _) (fun fa_33 => ?_)
  refine k_aload_n X dX11_feed_104 2 rfl ?_
  refine k_dup X dX11_feed_105 rfl ?_
  refine k_get (ci := 11) X inlX11 rfl 2 (by decide) dX11_feed_106 mw329 0 rfl rfl ?_
  refine k_iconst (v := 1) X dX11_feed_109 (by decide) ?_
  refine k_iadd X dX11_feed_110 ?_
  refine k_to (6) (by decide) ?_
  refine k_put (ci := 11) [(h0, .inr (11, [.int 0, .ref mt, .int 6, v3h0, v4h0, v5h0, v6h0, v7h0, v8h0, v9h0, v10h0, v11h0, v12h0, v13h0, v14h0, v15h0, v16h0, v17h0, v18h0, v19h0, v20h0, v21h0, v22h0, v23h0, v24h0, v25h0, v26h0, v27h0, v28h0, v29h0, v30h0, v31h0, v32h0, v33h0, v34h0, v35h0, v36h0, v37h0, v38h0, v39h0, v40h0, v41h0, v42h0])), (mt, .inl (g.2.2.1, 900, .inl fa_33))] X inlX11 rfl tyX11_ok nmX11 2 (by decide) rfl dX11_feed_111 mw329 0 rfl rfl rfl (Nat.le_of_ble_eq_true rfl) rfl ?_
  refine k_iinc (6) [(6, .int 6), (7, .int p1), (0, .ref h0), (1, .int p0), (2, .int p1), (3, .int p2), (4, .int p3), (5, .int p4)] 1 X dX11_feed_114 rfl (by decide) (by decide) rfl ?_
  refine k_goto 23 X dX11_feed_117 (by decide) ?_
  refine k_iload X dX11_feed_23 0 rfl ?_
  refine k_bipush (v := 20) X dX11_feed_25 (by decide) ?_
  refine k_ic_ge 120 X dX11_feed_27 (by decide) (fun h_34 => absurd h_34 (by decide)) (fun _ => ?_)
  refine k_iload X dX11_feed_30 0 rfl ?_
  refine k_iconst (v := 4) X dX11_feed_32 (by decide) ?_
  refine k_ic_ge 40 X dX11_feed_33 (by decide) (fun _ => ?_) (fun h_35 => absurd (by decide) h_35)
  refine k_iload X dX11_feed_40 0 rfl ?_
  refine k_bipush (v := 8) X dX11_feed_42 (by decide) ?_
  refine k_ic_ge 51 X dX11_feed_44 (by decide) (fun h_36 => absurd h_36 (by decide)) (fun _ => ?_)
  refine k_iload_n X dX11_feed_47 4 rfl ?_
  refine k_goto 76 X dX11_feed_48 (by decide) ?_
  refine k_istore [(7, .int p1), (6, .int 6), (0, .ref h0), (1, .int p0), (2, .int p1), (3, .int p2), (4, .int p3), (5, .int p4)] X dX11_feed_76 (by decide) rfl ?_
  refine k_aload_n X dX11_feed_78 2 rfl ?_
  refine k_get (ci := 11) X inlX11 rfl 1 (by decide) dX11_feed_79 mw255 0 rfl rfl ?_
  refine k_aload_n X dX11_feed_82 2 rfl ?_
  refine k_get (ci := 11) X inlX11 rfl 2 (by decide) dX11_feed_83 mw329 0 rfl rfl ?_
  refine k_iload X dX11_feed_86 0 rfl ?_
  refine k_bipush (v := 24) X dX11_feed_88 (by decide) ?_
  refine k_bipush (v := 8) X dX11_feed_90 (by decide) ?_
  refine k_iload X dX11_feed_92 1 rfl ?_
  refine k_iconst (v := 4) X dX11_feed_94 (by decide) ?_
  refine k_irem X dX11_feed_95 (by decide) ?_
  refine k_to (2) (by decide) ?_
  refine k_imul X dX11_feed_96 ?_
  refine k_to (16) (by decide) ?_
  refine k_isub X dX11_feed_97 ?_
  refine k_to (8) (by decide) ?_
  refine k_ishr X dX11_feed_98 ?_
  refine k_nm (fun z_37 ez_37 => ?_)
  refine k_sipush (v := 255) X dX11_feed_99 (by decide) ?_
  refine k_iand X dX11_feed_102 ?_
  refine k_nm (fun z_38 ez_38 => ?_)
  refine k_iast [(h0, .inr (11, [.int 0, .ref mt, .int 6, v3h0, v4h0, v5h0, v6h0, v7h0, v8h0, v9h0, v10h0, v11h0, v12h0, v13h0, v14h0, v15h0, v16h0, v17h0, v18h0, v19h0, v20h0, v21h0, v22h0, v23h0, v24h0, v25h0, v26h0, v27h0, v28h0, v29h0, v30h0, v31h0, v32h0, v33h0, v34h0, v35h0, v36h0, v37h0, v38h0, v39h0, v40h0, v41h0, v42h0])), (mt, .inl (g.2.2.1, 900, .inl (upd fa_33 (6 : Int32).toNatClampNeg z_38)))] X dX11_feed_103 1 rfl (by unfold vp_in; decide) rfl ?_
  refine (fun hg : ∀ fa_39 : Nat → Int32, Wk p l e _ s m args below meth c _ A g _ _ _ [(h0, .inr (11, [.int 0, .ref mt, .int 6, v3h0, v4h0, v5h0, v6h0, v7h0, v8h0, v9h0, v10h0, v11h0, v12h0, v13h0, v14h0, v15h0, v16h0, v17h0, v18h0, v19h0, v20h0, v21h0, v22h0, v23h0, v24h0, v25h0, v26h0, v27h0, v28h0, v29h0, v30h0, v31h0, v32h0, v33h0, v34h0, v35h0, v36h0, v37h0, v38h0, v39h0, v40h0, v41h0, v42h0])), (mt, .inl (g.2.2.1, 900, .inl fa_39))] _ _ _ => hg _) (fun fa_39 => ?_)
  refine k_aload_n X dX11_feed_104 2 rfl ?_
  refine k_dup X dX11_feed_105 rfl ?_
  refine k_get (ci := 11) X inlX11 rfl 2 (by decide) dX11_feed_106 mw329 0 rfl rfl ?_
  refine k_iconst (v := 1) X dX11_feed_109 (by decide) ?_
  refine k_iadd X dX11_feed_110 ?_
  refine k_to (7) (by decide) ?_
  refine k_put (ci := 11) [(h0, .inr (11, [.int 0, .ref mt, .int 7, v3h0, v4h0, v5h0, v6h0, v7h0, v8h0, v9h0, v10h0, v11h0, v12h0, v13h0, v14h0, v15h0, v16h0, v17h0, v18h0, v19h0, v20h0, v21h0, v22h0, v23h0, v24h0, v25h0, v26h0, v27h0, v28h0, v29h0, v30h0, v31h0, v32h0, v33h0, v34h0, v35h0, v36h0, v37h0, v38h0, v39h0, v40h0, v41h0, v42h0])), (mt, .inl (g.2.2.1, 900, .inl fa_39))] X inlX11 rfl tyX11_ok nmX11 2 (by decide) rfl dX11_feed_111 mw329 0 rfl rfl rfl (Nat.le_of_ble_eq_true rfl) rfl ?_
  refine k_iinc (7) [(6, .int 7), (7, .int p1), (0, .ref h0), (1, .int p0), (2, .int p1), (3, .int p2), (4, .int p3), (5, .int p4)] 1 X dX11_feed_114 rfl (by decide) (by decide) rfl ?_
  refine k_goto 23 X dX11_feed_117 (by decide) ?_
  refine k_iload X dX11_feed_23 0 rfl ?_
  refine k_bipush (v := 20) X dX11_feed_25 (by decide) ?_
  refine k_ic_ge 120 X dX11_feed_27 (by decide) (fun h_40 => absurd h_40 (by decide)) (fun _ => ?_)
  refine k_iload X dX11_feed_30 0 rfl ?_
  refine k_iconst (v := 4) X dX11_feed_32 (by decide) ?_
  refine k_ic_ge 40 X dX11_feed_33 (by decide) (fun _ => ?_) (fun h_41 => absurd (by decide) h_41)
  refine k_iload X dX11_feed_40 0 rfl ?_
  refine k_bipush (v := 8) X dX11_feed_42 (by decide) ?_
  refine k_ic_ge 51 X dX11_feed_44 (by decide) (fun h_42 => absurd h_42 (by decide)) (fun _ => ?_)
  refine k_iload_n X dX11_feed_47 4 rfl ?_
  refine k_goto 76 X dX11_feed_48 (by decide) ?_
  refine k_istore [(7, .int p1), (6, .int 7), (0, .ref h0), (1, .int p0), (2, .int p1), (3, .int p2), (4, .int p3), (5, .int p4)] X dX11_feed_76 (by decide) rfl ?_
  refine k_aload_n X dX11_feed_78 2 rfl ?_
  refine k_get (ci := 11) X inlX11 rfl 1 (by decide) dX11_feed_79 mw255 0 rfl rfl ?_
  refine k_aload_n X dX11_feed_82 2 rfl ?_
  refine k_get (ci := 11) X inlX11 rfl 2 (by decide) dX11_feed_83 mw329 0 rfl rfl ?_
  refine k_iload X dX11_feed_86 0 rfl ?_
  refine k_bipush (v := 24) X dX11_feed_88 (by decide) ?_
  refine k_bipush (v := 8) X dX11_feed_90 (by decide) ?_
  refine k_iload X dX11_feed_92 1 rfl ?_
  refine k_iconst (v := 4) X dX11_feed_94 (by decide) ?_
  refine k_irem X dX11_feed_95 (by decide) ?_
  refine k_to (3) (by decide) ?_
  refine k_imul X dX11_feed_96 ?_
  refine k_to (24) (by decide) ?_
  refine k_isub X dX11_feed_97 ?_
  refine k_to (0) (by decide) ?_
  refine k_ishr X dX11_feed_98 ?_
  refine k_nm (fun z_43 ez_43 => ?_)
  refine k_sipush (v := 255) X dX11_feed_99 (by decide) ?_
  refine k_iand X dX11_feed_102 ?_
  refine k_nm (fun z_44 ez_44 => ?_)
  refine k_iast [(h0, .inr (11, [.int 0, .ref mt, .int 7, v3h0, v4h0, v5h0, v6h0, v7h0, v8h0, v9h0, v10h0, v11h0, v12h0, v13h0, v14h0, v15h0, v16h0, v17h0, v18h0, v19h0, v20h0, v21h0, v22h0, v23h0, v24h0, v25h0, v26h0, v27h0, v28h0, v29h0, v30h0, v31h0, v32h0, v33h0, v34h0, v35h0, v36h0, v37h0, v38h0, v39h0, v40h0, v41h0, v42h0])), (mt, .inl (g.2.2.1, 900, .inl (upd fa_39 (7 : Int32).toNatClampNeg z_44)))] X dX11_feed_103 1 rfl (by unfold vp_in; decide) rfl ?_
  refine (fun hg : ∀ fa_45 : Nat → Int32, Wk p l e _ s m args below meth c _ A g _ _ _ [(h0, .inr (11, [.int 0, .ref mt, .int 7, v3h0, v4h0, v5h0, v6h0, v7h0, v8h0, v9h0, v10h0, v11h0, v12h0, v13h0, v14h0, v15h0, v16h0, v17h0, v18h0, v19h0, v20h0, v21h0, v22h0, v23h0, v24h0, v25h0, v26h0, v27h0, v28h0, v29h0, v30h0, v31h0, v32h0, v33h0, v34h0, v35h0, v36h0, v37h0, v38h0, v39h0, v40h0, v41h0, v42h0])), (mt, .inl (g.2.2.1, 900, .inl fa_45))] _ _ _ => hg _) (fun fa_45 => ?_)
  refine k_aload_n X dX11_feed_104 2 rfl ?_
  refine k_dup X dX11_feed_105 rfl ?_
  refine k_get (ci := 11) X inlX11 rfl 2 (by decide) dX11_feed_106 mw329 0 rfl rfl ?_
  refine k_iconst (v := 1) X dX11_feed_109 (by decide) ?_
  refine k_iadd X dX11_feed_110 ?_
  refine k_to (8) (by decide) ?_
  refine k_put (ci := 11) [(h0, .inr (11, [.int 0, .ref mt, .int 8, v3h0, v4h0, v5h0, v6h0, v7h0, v8h0, v9h0, v10h0, v11h0, v12h0, v13h0, v14h0, v15h0, v16h0, v17h0, v18h0, v19h0, v20h0, v21h0, v22h0, v23h0, v24h0, v25h0, v26h0, v27h0, v28h0, v29h0, v30h0, v31h0, v32h0, v33h0, v34h0, v35h0, v36h0, v37h0, v38h0, v39h0, v40h0, v41h0, v42h0])), (mt, .inl (g.2.2.1, 900, .inl fa_45))] X inlX11 rfl tyX11_ok nmX11 2 (by decide) rfl dX11_feed_111 mw329 0 rfl rfl rfl (Nat.le_of_ble_eq_true rfl) rfl ?_
  refine k_iinc (8) [(6, .int 8), (7, .int p1), (0, .ref h0), (1, .int p0), (2, .int p1), (3, .int p2), (4, .int p3), (5, .int p4)] 1 X dX11_feed_114 rfl (by decide) (by decide) rfl ?_
  refine k_goto 23 X dX11_feed_117 (by decide) ?_
  refine k_iload X dX11_feed_23 0 rfl ?_
  refine k_bipush (v := 20) X dX11_feed_25 (by decide) ?_
  refine k_ic_ge 120 X dX11_feed_27 (by decide) (fun h_46 => absurd h_46 (by decide)) (fun _ => ?_)
  refine k_iload X dX11_feed_30 0 rfl ?_
  refine k_iconst (v := 4) X dX11_feed_32 (by decide) ?_
  refine k_ic_ge 40 X dX11_feed_33 (by decide) (fun _ => ?_) (fun h_47 => absurd (by decide) h_47)
  refine k_iload X dX11_feed_40 0 rfl ?_
  refine k_bipush (v := 8) X dX11_feed_42 (by decide) ?_
  refine k_ic_ge 51 X dX11_feed_44 (by decide) (fun _ => ?_) (fun h_48 => absurd (by decide) h_48)
  refine k_iload X dX11_feed_51 0 rfl ?_
  refine k_bipush (v := 12) X dX11_feed_53 (by decide) ?_
  refine k_ic_ge 62 X dX11_feed_55 (by decide) (fun h_49 => absurd h_49 (by decide)) (fun _ => ?_)
  refine k_iload_n X dX11_feed_58 5 rfl ?_
  refine k_goto 76 X dX11_feed_59 (by decide) ?_
  refine k_istore [(7, .int p2), (6, .int 8), (0, .ref h0), (1, .int p0), (2, .int p1), (3, .int p2), (4, .int p3), (5, .int p4)] X dX11_feed_76 (by decide) rfl ?_
  refine k_aload_n X dX11_feed_78 2 rfl ?_
  refine k_get (ci := 11) X inlX11 rfl 1 (by decide) dX11_feed_79 mw255 0 rfl rfl ?_
  refine k_aload_n X dX11_feed_82 2 rfl ?_
  refine k_get (ci := 11) X inlX11 rfl 2 (by decide) dX11_feed_83 mw329 0 rfl rfl ?_
  refine k_iload X dX11_feed_86 0 rfl ?_
  refine k_bipush (v := 24) X dX11_feed_88 (by decide) ?_
  refine k_bipush (v := 8) X dX11_feed_90 (by decide) ?_
  refine k_iload X dX11_feed_92 1 rfl ?_
  refine k_iconst (v := 4) X dX11_feed_94 (by decide) ?_
  refine k_irem X dX11_feed_95 (by decide) ?_
  refine k_to (0) (by decide) ?_
  refine k_imul X dX11_feed_96 ?_
  refine k_to (0) (by decide) ?_
  refine k_isub X dX11_feed_97 ?_
  refine k_to (24) (by decide) ?_
  refine k_ishr X dX11_feed_98 ?_
  refine k_nm (fun z_50 ez_50 => ?_)
  refine k_sipush (v := 255) X dX11_feed_99 (by decide) ?_
  refine k_iand X dX11_feed_102 ?_
  refine k_nm (fun z_51 ez_51 => ?_)
  refine k_iast [(h0, .inr (11, [.int 0, .ref mt, .int 8, v3h0, v4h0, v5h0, v6h0, v7h0, v8h0, v9h0, v10h0, v11h0, v12h0, v13h0, v14h0, v15h0, v16h0, v17h0, v18h0, v19h0, v20h0, v21h0, v22h0, v23h0, v24h0, v25h0, v26h0, v27h0, v28h0, v29h0, v30h0, v31h0, v32h0, v33h0, v34h0, v35h0, v36h0, v37h0, v38h0, v39h0, v40h0, v41h0, v42h0])), (mt, .inl (g.2.2.1, 900, .inl (upd fa_45 (8 : Int32).toNatClampNeg z_51)))] X dX11_feed_103 1 rfl (by unfold vp_in; decide) rfl ?_
  refine (fun hg : ∀ fa_52 : Nat → Int32, Wk p l e _ s m args below meth c _ A g _ _ _ [(h0, .inr (11, [.int 0, .ref mt, .int 8, v3h0, v4h0, v5h0, v6h0, v7h0, v8h0, v9h0, v10h0, v11h0, v12h0, v13h0, v14h0, v15h0, v16h0, v17h0, v18h0, v19h0, v20h0, v21h0, v22h0, v23h0, v24h0, v25h0, v26h0, v27h0, v28h0, v29h0, v30h0, v31h0, v32h0, v33h0, v34h0, v35h0, v36h0, v37h0, v38h0, v39h0, v40h0, v41h0, v42h0])), (mt, .inl (g.2.2.1, 900, .inl fa_52))] _ _ _ => hg _) (fun fa_52 => ?_)
  refine k_aload_n X dX11_feed_104 2 rfl ?_
  refine k_dup X dX11_feed_105 rfl ?_
  refine k_get (ci := 11) X inlX11 rfl 2 (by decide) dX11_feed_106 mw329 0 rfl rfl ?_
  refine k_iconst (v := 1) X dX11_feed_109 (by decide) ?_
  refine k_iadd X dX11_feed_110 ?_
  refine k_to (9) (by decide) ?_
  refine k_put (ci := 11) [(h0, .inr (11, [.int 0, .ref mt, .int 9, v3h0, v4h0, v5h0, v6h0, v7h0, v8h0, v9h0, v10h0, v11h0, v12h0, v13h0, v14h0, v15h0, v16h0, v17h0, v18h0, v19h0, v20h0, v21h0, v22h0, v23h0, v24h0, v25h0, v26h0, v27h0, v28h0, v29h0, v30h0, v31h0, v32h0, v33h0, v34h0, v35h0, v36h0, v37h0, v38h0, v39h0, v40h0, v41h0, v42h0])), (mt, .inl (g.2.2.1, 900, .inl fa_52))] X inlX11 rfl tyX11_ok nmX11 2 (by decide) rfl dX11_feed_111 mw329 0 rfl rfl rfl (Nat.le_of_ble_eq_true rfl) rfl ?_
  refine k_iinc (9) [(6, .int 9), (7, .int p2), (0, .ref h0), (1, .int p0), (2, .int p1), (3, .int p2), (4, .int p3), (5, .int p4)] 1 X dX11_feed_114 rfl (by decide) (by decide) rfl ?_
  refine k_goto 23 X dX11_feed_117 (by decide) ?_
  refine k_iload X dX11_feed_23 0 rfl ?_
  refine k_bipush (v := 20) X dX11_feed_25 (by decide) ?_
  refine k_ic_ge 120 X dX11_feed_27 (by decide) (fun h_53 => absurd h_53 (by decide)) (fun _ => ?_)
  refine k_iload X dX11_feed_30 0 rfl ?_
  refine k_iconst (v := 4) X dX11_feed_32 (by decide) ?_
  refine k_ic_ge 40 X dX11_feed_33 (by decide) (fun _ => ?_) (fun h_54 => absurd (by decide) h_54)
  refine k_iload X dX11_feed_40 0 rfl ?_
  refine k_bipush (v := 8) X dX11_feed_42 (by decide) ?_
  refine k_ic_ge 51 X dX11_feed_44 (by decide) (fun _ => ?_) (fun h_55 => absurd (by decide) h_55)
  refine k_iload X dX11_feed_51 0 rfl ?_
  refine k_bipush (v := 12) X dX11_feed_53 (by decide) ?_
  refine k_ic_ge 62 X dX11_feed_55 (by decide) (fun h_56 => absurd h_56 (by decide)) (fun _ => ?_)
  refine k_iload_n X dX11_feed_58 5 rfl ?_
  refine k_goto 76 X dX11_feed_59 (by decide) ?_
  refine k_istore [(7, .int p2), (6, .int 9), (0, .ref h0), (1, .int p0), (2, .int p1), (3, .int p2), (4, .int p3), (5, .int p4)] X dX11_feed_76 (by decide) rfl ?_
  refine k_aload_n X dX11_feed_78 2 rfl ?_
  refine k_get (ci := 11) X inlX11 rfl 1 (by decide) dX11_feed_79 mw255 0 rfl rfl ?_
  refine k_aload_n X dX11_feed_82 2 rfl ?_
  refine k_get (ci := 11) X inlX11 rfl 2 (by decide) dX11_feed_83 mw329 0 rfl rfl ?_
  refine k_iload X dX11_feed_86 0 rfl ?_
  refine k_bipush (v := 24) X dX11_feed_88 (by decide) ?_
  refine k_bipush (v := 8) X dX11_feed_90 (by decide) ?_
  refine k_iload X dX11_feed_92 1 rfl ?_
  refine k_iconst (v := 4) X dX11_feed_94 (by decide) ?_
  refine k_irem X dX11_feed_95 (by decide) ?_
  refine k_to (1) (by decide) ?_
  refine k_imul X dX11_feed_96 ?_
  refine k_to (8) (by decide) ?_
  refine k_isub X dX11_feed_97 ?_
  refine k_to (16) (by decide) ?_
  refine k_ishr X dX11_feed_98 ?_
  refine k_nm (fun z_57 ez_57 => ?_)
  refine k_sipush (v := 255) X dX11_feed_99 (by decide) ?_
  refine k_iand X dX11_feed_102 ?_
  refine k_nm (fun z_58 ez_58 => ?_)
  refine k_iast [(h0, .inr (11, [.int 0, .ref mt, .int 9, v3h0, v4h0, v5h0, v6h0, v7h0, v8h0, v9h0, v10h0, v11h0, v12h0, v13h0, v14h0, v15h0, v16h0, v17h0, v18h0, v19h0, v20h0, v21h0, v22h0, v23h0, v24h0, v25h0, v26h0, v27h0, v28h0, v29h0, v30h0, v31h0, v32h0, v33h0, v34h0, v35h0, v36h0, v37h0, v38h0, v39h0, v40h0, v41h0, v42h0])), (mt, .inl (g.2.2.1, 900, .inl (upd fa_52 (9 : Int32).toNatClampNeg z_58)))] X dX11_feed_103 1 rfl (by unfold vp_in; decide) rfl ?_
  refine (fun hg : ∀ fa_59 : Nat → Int32, Wk p l e _ s m args below meth c _ A g _ _ _ [(h0, .inr (11, [.int 0, .ref mt, .int 9, v3h0, v4h0, v5h0, v6h0, v7h0, v8h0, v9h0, v10h0, v11h0, v12h0, v13h0, v14h0, v15h0, v16h0, v17h0, v18h0, v19h0, v20h0, v21h0, v22h0, v23h0, v24h0, v25h0, v26h0, v27h0, v28h0, v29h0, v30h0, v31h0, v32h0, v33h0, v34h0, v35h0, v36h0, v37h0, v38h0, v39h0, v40h0, v41h0, v42h0])), (mt, .inl (g.2.2.1, 900, .inl fa_59))] _ _ _ => hg _) (fun fa_59 => ?_)
  refine k_aload_n X dX11_feed_104 2 rfl ?_
  refine k_dup X dX11_feed_105 rfl ?_
  refine k_get (ci := 11) X inlX11 rfl 2 (by decide) dX11_feed_106 mw329 0 rfl rfl ?_
  refine k_iconst (v := 1) X dX11_feed_109 (by decide) ?_
  refine k_iadd X dX11_feed_110 ?_
  refine k_to (10) (by decide) ?_
  refine k_put (ci := 11) [(h0, .inr (11, [.int 0, .ref mt, .int 10, v3h0, v4h0, v5h0, v6h0, v7h0, v8h0, v9h0, v10h0, v11h0, v12h0, v13h0, v14h0, v15h0, v16h0, v17h0, v18h0, v19h0, v20h0, v21h0, v22h0, v23h0, v24h0, v25h0, v26h0, v27h0, v28h0, v29h0, v30h0, v31h0, v32h0, v33h0, v34h0, v35h0, v36h0, v37h0, v38h0, v39h0, v40h0, v41h0, v42h0])), (mt, .inl (g.2.2.1, 900, .inl fa_59))] X inlX11 rfl tyX11_ok nmX11 2 (by decide) rfl dX11_feed_111 mw329 0 rfl rfl rfl (Nat.le_of_ble_eq_true rfl) rfl ?_
  refine k_iinc (10) [(6, .int 10), (7, .int p2), (0, .ref h0), (1, .int p0), (2, .int p1), (3, .int p2), (4, .int p3), (5, .int p4)] 1 X dX11_feed_114 rfl (by decide) (by decide) rfl ?_
  refine k_goto 23 X dX11_feed_117 (by decide) ?_
  refine k_iload X dX11_feed_23 0 rfl ?_
  refine k_bipush (v := 20) X dX11_feed_25 (by decide) ?_
  refine k_ic_ge 120 X dX11_feed_27 (by decide) (fun h_60 => absurd h_60 (by decide)) (fun _ => ?_)
  refine k_iload X dX11_feed_30 0 rfl ?_
  refine k_iconst (v := 4) X dX11_feed_32 (by decide) ?_
  refine k_ic_ge 40 X dX11_feed_33 (by decide) (fun _ => ?_) (fun h_61 => absurd (by decide) h_61)
  refine k_iload X dX11_feed_40 0 rfl ?_
  refine k_bipush (v := 8) X dX11_feed_42 (by decide) ?_
  refine k_ic_ge 51 X dX11_feed_44 (by decide) (fun _ => ?_) (fun h_62 => absurd (by decide) h_62)
  refine k_iload X dX11_feed_51 0 rfl ?_
  refine k_bipush (v := 12) X dX11_feed_53 (by decide) ?_
  refine k_ic_ge 62 X dX11_feed_55 (by decide) (fun h_63 => absurd h_63 (by decide)) (fun _ => ?_)
  refine k_iload_n X dX11_feed_58 5 rfl ?_
  refine k_goto 76 X dX11_feed_59 (by decide) ?_
  refine k_istore [(7, .int p2), (6, .int 10), (0, .ref h0), (1, .int p0), (2, .int p1), (3, .int p2), (4, .int p3), (5, .int p4)] X dX11_feed_76 (by decide) rfl ?_
  refine k_aload_n X dX11_feed_78 2 rfl ?_
  refine k_get (ci := 11) X inlX11 rfl 1 (by decide) dX11_feed_79 mw255 0 rfl rfl ?_
  refine k_aload_n X dX11_feed_82 2 rfl ?_
  refine k_get (ci := 11) X inlX11 rfl 2 (by decide) dX11_feed_83 mw329 0 rfl rfl ?_
  refine k_iload X dX11_feed_86 0 rfl ?_
  refine k_bipush (v := 24) X dX11_feed_88 (by decide) ?_
  refine k_bipush (v := 8) X dX11_feed_90 (by decide) ?_
  refine k_iload X dX11_feed_92 1 rfl ?_
  refine k_iconst (v := 4) X dX11_feed_94 (by decide) ?_
  refine k_irem X dX11_feed_95 (by decide) ?_
  refine k_to (2) (by decide) ?_
  refine k_imul X dX11_feed_96 ?_
  refine k_to (16) (by decide) ?_
  refine k_isub X dX11_feed_97 ?_
  refine k_to (8) (by decide) ?_
  refine k_ishr X dX11_feed_98 ?_
  refine k_nm (fun z_64 ez_64 => ?_)
  refine k_sipush (v := 255) X dX11_feed_99 (by decide) ?_
  refine k_iand X dX11_feed_102 ?_
  refine k_nm (fun z_65 ez_65 => ?_)
  refine k_iast [(h0, .inr (11, [.int 0, .ref mt, .int 10, v3h0, v4h0, v5h0, v6h0, v7h0, v8h0, v9h0, v10h0, v11h0, v12h0, v13h0, v14h0, v15h0, v16h0, v17h0, v18h0, v19h0, v20h0, v21h0, v22h0, v23h0, v24h0, v25h0, v26h0, v27h0, v28h0, v29h0, v30h0, v31h0, v32h0, v33h0, v34h0, v35h0, v36h0, v37h0, v38h0, v39h0, v40h0, v41h0, v42h0])), (mt, .inl (g.2.2.1, 900, .inl (upd fa_59 (10 : Int32).toNatClampNeg z_65)))] X dX11_feed_103 1 rfl (by unfold vp_in; decide) rfl ?_
  refine (fun hg : ∀ fa_66 : Nat → Int32, Wk p l e _ s m args below meth c _ A g _ _ _ [(h0, .inr (11, [.int 0, .ref mt, .int 10, v3h0, v4h0, v5h0, v6h0, v7h0, v8h0, v9h0, v10h0, v11h0, v12h0, v13h0, v14h0, v15h0, v16h0, v17h0, v18h0, v19h0, v20h0, v21h0, v22h0, v23h0, v24h0, v25h0, v26h0, v27h0, v28h0, v29h0, v30h0, v31h0, v32h0, v33h0, v34h0, v35h0, v36h0, v37h0, v38h0, v39h0, v40h0, v41h0, v42h0])), (mt, .inl (g.2.2.1, 900, .inl fa_66))] _ _ _ => hg _) (fun fa_66 => ?_)
  refine k_aload_n X dX11_feed_104 2 rfl ?_
  refine k_dup X dX11_feed_105 rfl ?_
  refine k_get (ci := 11) X inlX11 rfl 2 (by decide) dX11_feed_106 mw329 0 rfl rfl ?_
  refine k_iconst (v := 1) X dX11_feed_109 (by decide) ?_
  refine k_iadd X dX11_feed_110 ?_
  refine k_to (11) (by decide) ?_
  refine k_put (ci := 11) [(h0, .inr (11, [.int 0, .ref mt, .int 11, v3h0, v4h0, v5h0, v6h0, v7h0, v8h0, v9h0, v10h0, v11h0, v12h0, v13h0, v14h0, v15h0, v16h0, v17h0, v18h0, v19h0, v20h0, v21h0, v22h0, v23h0, v24h0, v25h0, v26h0, v27h0, v28h0, v29h0, v30h0, v31h0, v32h0, v33h0, v34h0, v35h0, v36h0, v37h0, v38h0, v39h0, v40h0, v41h0, v42h0])), (mt, .inl (g.2.2.1, 900, .inl fa_66))] X inlX11 rfl tyX11_ok nmX11 2 (by decide) rfl dX11_feed_111 mw329 0 rfl rfl rfl (Nat.le_of_ble_eq_true rfl) rfl ?_
  refine k_iinc (11) [(6, .int 11), (7, .int p2), (0, .ref h0), (1, .int p0), (2, .int p1), (3, .int p2), (4, .int p3), (5, .int p4)] 1 X dX11_feed_114 rfl (by decide) (by decide) rfl ?_
  refine k_goto 23 X dX11_feed_117 (by decide) ?_
  refine k_iload X dX11_feed_23 0 rfl ?_
  refine k_bipush (v := 20) X dX11_feed_25 (by decide) ?_
  refine k_ic_ge 120 X dX11_feed_27 (by decide) (fun h_67 => absurd h_67 (by decide)) (fun _ => ?_)
  refine k_iload X dX11_feed_30 0 rfl ?_
  refine k_iconst (v := 4) X dX11_feed_32 (by decide) ?_
  refine k_ic_ge 40 X dX11_feed_33 (by decide) (fun _ => ?_) (fun h_68 => absurd (by decide) h_68)
  refine k_iload X dX11_feed_40 0 rfl ?_
  refine k_bipush (v := 8) X dX11_feed_42 (by decide) ?_
  refine k_ic_ge 51 X dX11_feed_44 (by decide) (fun _ => ?_) (fun h_69 => absurd (by decide) h_69)
  refine k_iload X dX11_feed_51 0 rfl ?_
  refine k_bipush (v := 12) X dX11_feed_53 (by decide) ?_
  refine k_ic_ge 62 X dX11_feed_55 (by decide) (fun h_70 => absurd h_70 (by decide)) (fun _ => ?_)
  refine k_iload_n X dX11_feed_58 5 rfl ?_
  refine k_goto 76 X dX11_feed_59 (by decide) ?_
  refine k_istore [(7, .int p2), (6, .int 11), (0, .ref h0), (1, .int p0), (2, .int p1), (3, .int p2), (4, .int p3), (5, .int p4)] X dX11_feed_76 (by decide) rfl ?_
  refine k_aload_n X dX11_feed_78 2 rfl ?_
  refine k_get (ci := 11) X inlX11 rfl 1 (by decide) dX11_feed_79 mw255 0 rfl rfl ?_
  refine k_aload_n X dX11_feed_82 2 rfl ?_
  refine k_get (ci := 11) X inlX11 rfl 2 (by decide) dX11_feed_83 mw329 0 rfl rfl ?_
  refine k_iload X dX11_feed_86 0 rfl ?_
  refine k_bipush (v := 24) X dX11_feed_88 (by decide) ?_
  refine k_bipush (v := 8) X dX11_feed_90 (by decide) ?_
  refine k_iload X dX11_feed_92 1 rfl ?_
  refine k_iconst (v := 4) X dX11_feed_94 (by decide) ?_
  refine k_irem X dX11_feed_95 (by decide) ?_
  refine k_to (3) (by decide) ?_
  refine k_imul X dX11_feed_96 ?_
  refine k_to (24) (by decide) ?_
  refine k_isub X dX11_feed_97 ?_
  refine k_to (0) (by decide) ?_
  refine k_ishr X dX11_feed_98 ?_
  refine k_nm (fun z_71 ez_71 => ?_)
  refine k_sipush (v := 255) X dX11_feed_99 (by decide) ?_
  refine k_iand X dX11_feed_102 ?_
  refine k_nm (fun z_72 ez_72 => ?_)
  refine k_iast [(h0, .inr (11, [.int 0, .ref mt, .int 11, v3h0, v4h0, v5h0, v6h0, v7h0, v8h0, v9h0, v10h0, v11h0, v12h0, v13h0, v14h0, v15h0, v16h0, v17h0, v18h0, v19h0, v20h0, v21h0, v22h0, v23h0, v24h0, v25h0, v26h0, v27h0, v28h0, v29h0, v30h0, v31h0, v32h0, v33h0, v34h0, v35h0, v36h0, v37h0, v38h0, v39h0, v40h0, v41h0, v42h0])), (mt, .inl (g.2.2.1, 900, .inl (upd fa_66 (11 : Int32).toNatClampNeg z_72)))] X dX11_feed_103 1 rfl (by unfold vp_in; decide) rfl ?_
  refine (fun hg : ∀ fa_73 : Nat → Int32, Wk p l e _ s m args below meth c _ A g _ _ _ [(h0, .inr (11, [.int 0, .ref mt, .int 11, v3h0, v4h0, v5h0, v6h0, v7h0, v8h0, v9h0, v10h0, v11h0, v12h0, v13h0, v14h0, v15h0, v16h0, v17h0, v18h0, v19h0, v20h0, v21h0, v22h0, v23h0, v24h0, v25h0, v26h0, v27h0, v28h0, v29h0, v30h0, v31h0, v32h0, v33h0, v34h0, v35h0, v36h0, v37h0, v38h0, v39h0, v40h0, v41h0, v42h0])), (mt, .inl (g.2.2.1, 900, .inl fa_73))] _ _ _ => hg _) (fun fa_73 => ?_)
  refine k_aload_n X dX11_feed_104 2 rfl ?_
  refine k_dup X dX11_feed_105 rfl ?_
  refine k_get (ci := 11) X inlX11 rfl 2 (by decide) dX11_feed_106 mw329 0 rfl rfl ?_
  refine k_iconst (v := 1) X dX11_feed_109 (by decide) ?_
  refine k_iadd X dX11_feed_110 ?_
  refine k_to (12) (by decide) ?_
  refine k_put (ci := 11) [(h0, .inr (11, [.int 0, .ref mt, .int 12, v3h0, v4h0, v5h0, v6h0, v7h0, v8h0, v9h0, v10h0, v11h0, v12h0, v13h0, v14h0, v15h0, v16h0, v17h0, v18h0, v19h0, v20h0, v21h0, v22h0, v23h0, v24h0, v25h0, v26h0, v27h0, v28h0, v29h0, v30h0, v31h0, v32h0, v33h0, v34h0, v35h0, v36h0, v37h0, v38h0, v39h0, v40h0, v41h0, v42h0])), (mt, .inl (g.2.2.1, 900, .inl fa_73))] X inlX11 rfl tyX11_ok nmX11 2 (by decide) rfl dX11_feed_111 mw329 0 rfl rfl rfl (Nat.le_of_ble_eq_true rfl) rfl ?_
  refine k_iinc (12) [(6, .int 12), (7, .int p2), (0, .ref h0), (1, .int p0), (2, .int p1), (3, .int p2), (4, .int p3), (5, .int p4)] 1 X dX11_feed_114 rfl (by decide) (by decide) rfl ?_
  refine k_goto 23 X dX11_feed_117 (by decide) ?_
  refine k_iload X dX11_feed_23 0 rfl ?_
  refine k_bipush (v := 20) X dX11_feed_25 (by decide) ?_
  refine k_ic_ge 120 X dX11_feed_27 (by decide) (fun h_74 => absurd h_74 (by decide)) (fun _ => ?_)
  refine k_iload X dX11_feed_30 0 rfl ?_
  refine k_iconst (v := 4) X dX11_feed_32 (by decide) ?_
  refine k_ic_ge 40 X dX11_feed_33 (by decide) (fun _ => ?_) (fun h_75 => absurd (by decide) h_75)
  refine k_iload X dX11_feed_40 0 rfl ?_
  refine k_bipush (v := 8) X dX11_feed_42 (by decide) ?_
  refine k_ic_ge 51 X dX11_feed_44 (by decide) (fun _ => ?_) (fun h_76 => absurd (by decide) h_76)
  refine k_iload X dX11_feed_51 0 rfl ?_
  refine k_bipush (v := 12) X dX11_feed_53 (by decide) ?_
  refine k_ic_ge 62 X dX11_feed_55 (by decide) (fun _ => ?_) (fun h_77 => absurd (by decide) h_77)
  refine k_iload X dX11_feed_62 0 rfl ?_
  refine k_bipush (v := 16) X dX11_feed_64 (by decide) ?_
  refine k_ic_ge 74 X dX11_feed_66 (by decide) (fun h_78 => absurd h_78 (by decide)) (fun _ => ?_)
  refine k_iload X dX11_feed_69 6 rfl ?_
  refine k_goto 76 X dX11_feed_71 (by decide) ?_
  refine k_istore [(7, .int p3), (6, .int 12), (0, .ref h0), (1, .int p0), (2, .int p1), (3, .int p2), (4, .int p3), (5, .int p4)] X dX11_feed_76 (by decide) rfl ?_
  refine k_aload_n X dX11_feed_78 2 rfl ?_
  refine k_get (ci := 11) X inlX11 rfl 1 (by decide) dX11_feed_79 mw255 0 rfl rfl ?_
  refine k_aload_n X dX11_feed_82 2 rfl ?_
  refine k_get (ci := 11) X inlX11 rfl 2 (by decide) dX11_feed_83 mw329 0 rfl rfl ?_
  refine k_iload X dX11_feed_86 0 rfl ?_
  refine k_bipush (v := 24) X dX11_feed_88 (by decide) ?_
  refine k_bipush (v := 8) X dX11_feed_90 (by decide) ?_
  refine k_iload X dX11_feed_92 1 rfl ?_
  refine k_iconst (v := 4) X dX11_feed_94 (by decide) ?_
  refine k_irem X dX11_feed_95 (by decide) ?_
  refine k_to (0) (by decide) ?_
  refine k_imul X dX11_feed_96 ?_
  refine k_to (0) (by decide) ?_
  refine k_isub X dX11_feed_97 ?_
  refine k_to (24) (by decide) ?_
  refine k_ishr X dX11_feed_98 ?_
  refine k_nm (fun z_79 ez_79 => ?_)
  refine k_sipush (v := 255) X dX11_feed_99 (by decide) ?_
  refine k_iand X dX11_feed_102 ?_
  refine k_nm (fun z_80 ez_80 => ?_)
  refine k_iast [(h0, .inr (11, [.int 0, .ref mt, .int 12, v3h0, v4h0, v5h0, v6h0, v7h0, v8h0, v9h0, v10h0, v11h0, v12h0, v13h0, v14h0, v15h0, v16h0, v17h0, v18h0, v19h0, v20h0, v21h0, v22h0, v23h0, v24h0, v25h0, v26h0, v27h0, v28h0, v29h0, v30h0, v31h0, v32h0, v33h0, v34h0, v35h0, v36h0, v37h0, v38h0, v39h0, v40h0, v41h0, v42h0])), (mt, .inl (g.2.2.1, 900, .inl (upd fa_73 (12 : Int32).toNatClampNeg z_80)))] X dX11_feed_103 1 rfl (by unfold vp_in; decide) rfl ?_
  refine (fun hg : ∀ fa_81 : Nat → Int32, Wk p l e _ s m args below meth c _ A g _ _ _ [(h0, .inr (11, [.int 0, .ref mt, .int 12, v3h0, v4h0, v5h0, v6h0, v7h0, v8h0, v9h0, v10h0, v11h0, v12h0, v13h0, v14h0, v15h0, v16h0, v17h0, v18h0, v19h0, v20h0, v21h0, v22h0, v23h0, v24h0, v25h0, v26h0, v27h0, v28h0, v29h0, v30h0, v31h0, v32h0, v33h0, v34h0, v35h0, v36h0, v37h0, v38h0, v39h0, v40h0, v41h0, v42h0])), (mt, .inl (g.2.2.1, 900, .inl fa_81))] _ _ _ => hg _) (fun fa_81 => ?_)
  refine k_aload_n X dX11_feed_104 2 rfl ?_
  refine k_dup X dX11_feed_105 rfl ?_
  refine k_get (ci := 11) X inlX11 rfl 2 (by decide) dX11_feed_106 mw329 0 rfl rfl ?_
  refine k_iconst (v := 1) X dX11_feed_109 (by decide) ?_
  refine k_iadd X dX11_feed_110 ?_
  refine k_to (13) (by decide) ?_
  refine k_put (ci := 11) [(h0, .inr (11, [.int 0, .ref mt, .int 13, v3h0, v4h0, v5h0, v6h0, v7h0, v8h0, v9h0, v10h0, v11h0, v12h0, v13h0, v14h0, v15h0, v16h0, v17h0, v18h0, v19h0, v20h0, v21h0, v22h0, v23h0, v24h0, v25h0, v26h0, v27h0, v28h0, v29h0, v30h0, v31h0, v32h0, v33h0, v34h0, v35h0, v36h0, v37h0, v38h0, v39h0, v40h0, v41h0, v42h0])), (mt, .inl (g.2.2.1, 900, .inl fa_81))] X inlX11 rfl tyX11_ok nmX11 2 (by decide) rfl dX11_feed_111 mw329 0 rfl rfl rfl (Nat.le_of_ble_eq_true rfl) rfl ?_
  refine k_iinc (13) [(6, .int 13), (7, .int p3), (0, .ref h0), (1, .int p0), (2, .int p1), (3, .int p2), (4, .int p3), (5, .int p4)] 1 X dX11_feed_114 rfl (by decide) (by decide) rfl ?_
  refine k_goto 23 X dX11_feed_117 (by decide) ?_
  refine k_iload X dX11_feed_23 0 rfl ?_
  refine k_bipush (v := 20) X dX11_feed_25 (by decide) ?_
  refine k_ic_ge 120 X dX11_feed_27 (by decide) (fun h_82 => absurd h_82 (by decide)) (fun _ => ?_)
  refine k_iload X dX11_feed_30 0 rfl ?_
  refine k_iconst (v := 4) X dX11_feed_32 (by decide) ?_
  refine k_ic_ge 40 X dX11_feed_33 (by decide) (fun _ => ?_) (fun h_83 => absurd (by decide) h_83)
  refine k_iload X dX11_feed_40 0 rfl ?_
  refine k_bipush (v := 8) X dX11_feed_42 (by decide) ?_
  refine k_ic_ge 51 X dX11_feed_44 (by decide) (fun _ => ?_) (fun h_84 => absurd (by decide) h_84)
  refine k_iload X dX11_feed_51 0 rfl ?_
  refine k_bipush (v := 12) X dX11_feed_53 (by decide) ?_
  refine k_ic_ge 62 X dX11_feed_55 (by decide) (fun _ => ?_) (fun h_85 => absurd (by decide) h_85)
  refine k_iload X dX11_feed_62 0 rfl ?_
  refine k_bipush (v := 16) X dX11_feed_64 (by decide) ?_
  refine k_ic_ge 74 X dX11_feed_66 (by decide) (fun h_86 => absurd h_86 (by decide)) (fun _ => ?_)
  refine k_iload X dX11_feed_69 6 rfl ?_
  refine k_goto 76 X dX11_feed_71 (by decide) ?_
  refine k_istore [(7, .int p3), (6, .int 13), (0, .ref h0), (1, .int p0), (2, .int p1), (3, .int p2), (4, .int p3), (5, .int p4)] X dX11_feed_76 (by decide) rfl ?_
  refine k_aload_n X dX11_feed_78 2 rfl ?_
  refine k_get (ci := 11) X inlX11 rfl 1 (by decide) dX11_feed_79 mw255 0 rfl rfl ?_
  refine k_aload_n X dX11_feed_82 2 rfl ?_
  refine k_get (ci := 11) X inlX11 rfl 2 (by decide) dX11_feed_83 mw329 0 rfl rfl ?_
  refine k_iload X dX11_feed_86 0 rfl ?_
  refine k_bipush (v := 24) X dX11_feed_88 (by decide) ?_
  refine k_bipush (v := 8) X dX11_feed_90 (by decide) ?_
  refine k_iload X dX11_feed_92 1 rfl ?_
  refine k_iconst (v := 4) X dX11_feed_94 (by decide) ?_
  refine k_irem X dX11_feed_95 (by decide) ?_
  refine k_to (1) (by decide) ?_
  refine k_imul X dX11_feed_96 ?_
  refine k_to (8) (by decide) ?_
  refine k_isub X dX11_feed_97 ?_
  refine k_to (16) (by decide) ?_
  refine k_ishr X dX11_feed_98 ?_
  refine k_nm (fun z_87 ez_87 => ?_)
  refine k_sipush (v := 255) X dX11_feed_99 (by decide) ?_
  refine k_iand X dX11_feed_102 ?_
  refine k_nm (fun z_88 ez_88 => ?_)
  refine k_iast [(h0, .inr (11, [.int 0, .ref mt, .int 13, v3h0, v4h0, v5h0, v6h0, v7h0, v8h0, v9h0, v10h0, v11h0, v12h0, v13h0, v14h0, v15h0, v16h0, v17h0, v18h0, v19h0, v20h0, v21h0, v22h0, v23h0, v24h0, v25h0, v26h0, v27h0, v28h0, v29h0, v30h0, v31h0, v32h0, v33h0, v34h0, v35h0, v36h0, v37h0, v38h0, v39h0, v40h0, v41h0, v42h0])), (mt, .inl (g.2.2.1, 900, .inl (upd fa_81 (13 : Int32).toNatClampNeg z_88)))] X dX11_feed_103 1 rfl (by unfold vp_in; decide) rfl ?_
  refine (fun hg : ∀ fa_89 : Nat → Int32, Wk p l e _ s m args below meth c _ A g _ _ _ [(h0, .inr (11, [.int 0, .ref mt, .int 13, v3h0, v4h0, v5h0, v6h0, v7h0, v8h0, v9h0, v10h0, v11h0, v12h0, v13h0, v14h0, v15h0, v16h0, v17h0, v18h0, v19h0, v20h0, v21h0, v22h0, v23h0, v24h0, v25h0, v26h0, v27h0, v28h0, v29h0, v30h0, v31h0, v32h0, v33h0, v34h0, v35h0, v36h0, v37h0, v38h0, v39h0, v40h0, v41h0, v42h0])), (mt, .inl (g.2.2.1, 900, .inl fa_89))] _ _ _ => hg _) (fun fa_89 => ?_)
  refine k_aload_n X dX11_feed_104 2 rfl ?_
  refine k_dup X dX11_feed_105 rfl ?_
  refine k_get (ci := 11) X inlX11 rfl 2 (by decide) dX11_feed_106 mw329 0 rfl rfl ?_
  refine k_iconst (v := 1) X dX11_feed_109 (by decide) ?_
  refine k_iadd X dX11_feed_110 ?_
  refine k_to (14) (by decide) ?_
  refine k_put (ci := 11) [(h0, .inr (11, [.int 0, .ref mt, .int 14, v3h0, v4h0, v5h0, v6h0, v7h0, v8h0, v9h0, v10h0, v11h0, v12h0, v13h0, v14h0, v15h0, v16h0, v17h0, v18h0, v19h0, v20h0, v21h0, v22h0, v23h0, v24h0, v25h0, v26h0, v27h0, v28h0, v29h0, v30h0, v31h0, v32h0, v33h0, v34h0, v35h0, v36h0, v37h0, v38h0, v39h0, v40h0, v41h0, v42h0])), (mt, .inl (g.2.2.1, 900, .inl fa_89))] X inlX11 rfl tyX11_ok nmX11 2 (by decide) rfl dX11_feed_111 mw329 0 rfl rfl rfl (Nat.le_of_ble_eq_true rfl) rfl ?_
  refine k_iinc (14) [(6, .int 14), (7, .int p3), (0, .ref h0), (1, .int p0), (2, .int p1), (3, .int p2), (4, .int p3), (5, .int p4)] 1 X dX11_feed_114 rfl (by decide) (by decide) rfl ?_
  refine k_goto 23 X dX11_feed_117 (by decide) ?_
  refine k_iload X dX11_feed_23 0 rfl ?_
  refine k_bipush (v := 20) X dX11_feed_25 (by decide) ?_
  refine k_ic_ge 120 X dX11_feed_27 (by decide) (fun h_90 => absurd h_90 (by decide)) (fun _ => ?_)
  refine k_iload X dX11_feed_30 0 rfl ?_
  refine k_iconst (v := 4) X dX11_feed_32 (by decide) ?_
  refine k_ic_ge 40 X dX11_feed_33 (by decide) (fun _ => ?_) (fun h_91 => absurd (by decide) h_91)
  refine k_iload X dX11_feed_40 0 rfl ?_
  refine k_bipush (v := 8) X dX11_feed_42 (by decide) ?_
  refine k_ic_ge 51 X dX11_feed_44 (by decide) (fun _ => ?_) (fun h_92 => absurd (by decide) h_92)
  refine k_iload X dX11_feed_51 0 rfl ?_
  refine k_bipush (v := 12) X dX11_feed_53 (by decide) ?_
  refine k_ic_ge 62 X dX11_feed_55 (by decide) (fun _ => ?_) (fun h_93 => absurd (by decide) h_93)
  refine k_iload X dX11_feed_62 0 rfl ?_
  refine k_bipush (v := 16) X dX11_feed_64 (by decide) ?_
  refine k_ic_ge 74 X dX11_feed_66 (by decide) (fun h_94 => absurd h_94 (by decide)) (fun _ => ?_)
  refine k_iload X dX11_feed_69 6 rfl ?_
  refine k_goto 76 X dX11_feed_71 (by decide) ?_
  refine k_istore [(7, .int p3), (6, .int 14), (0, .ref h0), (1, .int p0), (2, .int p1), (3, .int p2), (4, .int p3), (5, .int p4)] X dX11_feed_76 (by decide) rfl ?_
  refine k_aload_n X dX11_feed_78 2 rfl ?_
  refine k_get (ci := 11) X inlX11 rfl 1 (by decide) dX11_feed_79 mw255 0 rfl rfl ?_
  refine k_aload_n X dX11_feed_82 2 rfl ?_
  refine k_get (ci := 11) X inlX11 rfl 2 (by decide) dX11_feed_83 mw329 0 rfl rfl ?_
  refine k_iload X dX11_feed_86 0 rfl ?_
  refine k_bipush (v := 24) X dX11_feed_88 (by decide) ?_
  refine k_bipush (v := 8) X dX11_feed_90 (by decide) ?_
  refine k_iload X dX11_feed_92 1 rfl ?_
  refine k_iconst (v := 4) X dX11_feed_94 (by decide) ?_
  refine k_irem X dX11_feed_95 (by decide) ?_
  refine k_to (2) (by decide) ?_
  refine k_imul X dX11_feed_96 ?_
  refine k_to (16) (by decide) ?_
  refine k_isub X dX11_feed_97 ?_
  refine k_to (8) (by decide) ?_
  refine k_ishr X dX11_feed_98 ?_
  refine k_nm (fun z_95 ez_95 => ?_)
  refine k_sipush (v := 255) X dX11_feed_99 (by decide) ?_
  refine k_iand X dX11_feed_102 ?_
  refine k_nm (fun z_96 ez_96 => ?_)
  refine k_iast [(h0, .inr (11, [.int 0, .ref mt, .int 14, v3h0, v4h0, v5h0, v6h0, v7h0, v8h0, v9h0, v10h0, v11h0, v12h0, v13h0, v14h0, v15h0, v16h0, v17h0, v18h0, v19h0, v20h0, v21h0, v22h0, v23h0, v24h0, v25h0, v26h0, v27h0, v28h0, v29h0, v30h0, v31h0, v32h0, v33h0, v34h0, v35h0, v36h0, v37h0, v38h0, v39h0, v40h0, v41h0, v42h0])), (mt, .inl (g.2.2.1, 900, .inl (upd fa_89 (14 : Int32).toNatClampNeg z_96)))] X dX11_feed_103 1 rfl (by unfold vp_in; decide) rfl ?_
  refine (fun hg : ∀ fa_97 : Nat → Int32, Wk p l e _ s m args below meth c _ A g _ _ _ [(h0, .inr (11, [.int 0, .ref mt, .int 14, v3h0, v4h0, v5h0, v6h0, v7h0, v8h0, v9h0, v10h0, v11h0, v12h0, v13h0, v14h0, v15h0, v16h0, v17h0, v18h0, v19h0, v20h0, v21h0, v22h0, v23h0, v24h0, v25h0, v26h0, v27h0, v28h0, v29h0, v30h0, v31h0, v32h0, v33h0, v34h0, v35h0, v36h0, v37h0, v38h0, v39h0, v40h0, v41h0, v42h0])), (mt, .inl (g.2.2.1, 900, .inl fa_97))] _ _ _ => hg _) (fun fa_97 => ?_)
  refine k_aload_n X dX11_feed_104 2 rfl ?_
  refine k_dup X dX11_feed_105 rfl ?_
  refine k_get (ci := 11) X inlX11 rfl 2 (by decide) dX11_feed_106 mw329 0 rfl rfl ?_
  refine k_iconst (v := 1) X dX11_feed_109 (by decide) ?_
  refine k_iadd X dX11_feed_110 ?_
  refine k_to (15) (by decide) ?_
  refine k_put (ci := 11) [(h0, .inr (11, [.int 0, .ref mt, .int 15, v3h0, v4h0, v5h0, v6h0, v7h0, v8h0, v9h0, v10h0, v11h0, v12h0, v13h0, v14h0, v15h0, v16h0, v17h0, v18h0, v19h0, v20h0, v21h0, v22h0, v23h0, v24h0, v25h0, v26h0, v27h0, v28h0, v29h0, v30h0, v31h0, v32h0, v33h0, v34h0, v35h0, v36h0, v37h0, v38h0, v39h0, v40h0, v41h0, v42h0])), (mt, .inl (g.2.2.1, 900, .inl fa_97))] X inlX11 rfl tyX11_ok nmX11 2 (by decide) rfl dX11_feed_111 mw329 0 rfl rfl rfl (Nat.le_of_ble_eq_true rfl) rfl ?_
  refine k_iinc (15) [(6, .int 15), (7, .int p3), (0, .ref h0), (1, .int p0), (2, .int p1), (3, .int p2), (4, .int p3), (5, .int p4)] 1 X dX11_feed_114 rfl (by decide) (by decide) rfl ?_
  refine k_goto 23 X dX11_feed_117 (by decide) ?_
  refine k_iload X dX11_feed_23 0 rfl ?_
  refine k_bipush (v := 20) X dX11_feed_25 (by decide) ?_
  refine k_ic_ge 120 X dX11_feed_27 (by decide) (fun h_98 => absurd h_98 (by decide)) (fun _ => ?_)
  refine k_iload X dX11_feed_30 0 rfl ?_
  refine k_iconst (v := 4) X dX11_feed_32 (by decide) ?_
  refine k_ic_ge 40 X dX11_feed_33 (by decide) (fun _ => ?_) (fun h_99 => absurd (by decide) h_99)
  refine k_iload X dX11_feed_40 0 rfl ?_
  refine k_bipush (v := 8) X dX11_feed_42 (by decide) ?_
  refine k_ic_ge 51 X dX11_feed_44 (by decide) (fun _ => ?_) (fun h_100 => absurd (by decide) h_100)
  refine k_iload X dX11_feed_51 0 rfl ?_
  refine k_bipush (v := 12) X dX11_feed_53 (by decide) ?_
  refine k_ic_ge 62 X dX11_feed_55 (by decide) (fun _ => ?_) (fun h_101 => absurd (by decide) h_101)
  refine k_iload X dX11_feed_62 0 rfl ?_
  refine k_bipush (v := 16) X dX11_feed_64 (by decide) ?_
  refine k_ic_ge 74 X dX11_feed_66 (by decide) (fun h_102 => absurd h_102 (by decide)) (fun _ => ?_)
  refine k_iload X dX11_feed_69 6 rfl ?_
  refine k_goto 76 X dX11_feed_71 (by decide) ?_
  refine k_istore [(7, .int p3), (6, .int 15), (0, .ref h0), (1, .int p0), (2, .int p1), (3, .int p2), (4, .int p3), (5, .int p4)] X dX11_feed_76 (by decide) rfl ?_
  refine k_aload_n X dX11_feed_78 2 rfl ?_
  refine k_get (ci := 11) X inlX11 rfl 1 (by decide) dX11_feed_79 mw255 0 rfl rfl ?_
  refine k_aload_n X dX11_feed_82 2 rfl ?_
  refine k_get (ci := 11) X inlX11 rfl 2 (by decide) dX11_feed_83 mw329 0 rfl rfl ?_
  refine k_iload X dX11_feed_86 0 rfl ?_
  refine k_bipush (v := 24) X dX11_feed_88 (by decide) ?_
  refine k_bipush (v := 8) X dX11_feed_90 (by decide) ?_
  refine k_iload X dX11_feed_92 1 rfl ?_
  refine k_iconst (v := 4) X dX11_feed_94 (by decide) ?_
  refine k_irem X dX11_feed_95 (by decide) ?_
  refine k_to (3) (by decide) ?_
  refine k_imul X dX11_feed_96 ?_
  refine k_to (24) (by decide) ?_
  refine k_isub X dX11_feed_97 ?_
  refine k_to (0) (by decide) ?_
  refine k_ishr X dX11_feed_98 ?_
  refine k_nm (fun z_103 ez_103 => ?_)
  refine k_sipush (v := 255) X dX11_feed_99 (by decide) ?_
  refine k_iand X dX11_feed_102 ?_
  refine k_nm (fun z_104 ez_104 => ?_)
  refine k_iast [(h0, .inr (11, [.int 0, .ref mt, .int 15, v3h0, v4h0, v5h0, v6h0, v7h0, v8h0, v9h0, v10h0, v11h0, v12h0, v13h0, v14h0, v15h0, v16h0, v17h0, v18h0, v19h0, v20h0, v21h0, v22h0, v23h0, v24h0, v25h0, v26h0, v27h0, v28h0, v29h0, v30h0, v31h0, v32h0, v33h0, v34h0, v35h0, v36h0, v37h0, v38h0, v39h0, v40h0, v41h0, v42h0])), (mt, .inl (g.2.2.1, 900, .inl (upd fa_97 (15 : Int32).toNatClampNeg z_104)))] X dX11_feed_103 1 rfl (by unfold vp_in; decide) rfl ?_
  refine (fun hg : ∀ fa_105 : Nat → Int32, Wk p l e _ s m args below meth c _ A g _ _ _ [(h0, .inr (11, [.int 0, .ref mt, .int 15, v3h0, v4h0, v5h0, v6h0, v7h0, v8h0, v9h0, v10h0, v11h0, v12h0, v13h0, v14h0, v15h0, v16h0, v17h0, v18h0, v19h0, v20h0, v21h0, v22h0, v23h0, v24h0, v25h0, v26h0, v27h0, v28h0, v29h0, v30h0, v31h0, v32h0, v33h0, v34h0, v35h0, v36h0, v37h0, v38h0, v39h0, v40h0, v41h0, v42h0])), (mt, .inl (g.2.2.1, 900, .inl fa_105))] _ _ _ => hg _) (fun fa_105 => ?_)
  refine k_aload_n X dX11_feed_104 2 rfl ?_
  refine k_dup X dX11_feed_105 rfl ?_
  refine k_get (ci := 11) X inlX11 rfl 2 (by decide) dX11_feed_106 mw329 0 rfl rfl ?_
  refine k_iconst (v := 1) X dX11_feed_109 (by decide) ?_
  refine k_iadd X dX11_feed_110 ?_
  refine k_to (16) (by decide) ?_
  refine k_put (ci := 11) [(h0, .inr (11, [.int 0, .ref mt, .int 16, v3h0, v4h0, v5h0, v6h0, v7h0, v8h0, v9h0, v10h0, v11h0, v12h0, v13h0, v14h0, v15h0, v16h0, v17h0, v18h0, v19h0, v20h0, v21h0, v22h0, v23h0, v24h0, v25h0, v26h0, v27h0, v28h0, v29h0, v30h0, v31h0, v32h0, v33h0, v34h0, v35h0, v36h0, v37h0, v38h0, v39h0, v40h0, v41h0, v42h0])), (mt, .inl (g.2.2.1, 900, .inl fa_105))] X inlX11 rfl tyX11_ok nmX11 2 (by decide) rfl dX11_feed_111 mw329 0 rfl rfl rfl (Nat.le_of_ble_eq_true rfl) rfl ?_
  refine k_iinc (16) [(6, .int 16), (7, .int p3), (0, .ref h0), (1, .int p0), (2, .int p1), (3, .int p2), (4, .int p3), (5, .int p4)] 1 X dX11_feed_114 rfl (by decide) (by decide) rfl ?_
  refine k_goto 23 X dX11_feed_117 (by decide) ?_
  refine k_iload X dX11_feed_23 0 rfl ?_
  refine k_bipush (v := 20) X dX11_feed_25 (by decide) ?_
  refine k_ic_ge 120 X dX11_feed_27 (by decide) (fun h_106 => absurd h_106 (by decide)) (fun _ => ?_)
  refine k_iload X dX11_feed_30 0 rfl ?_
  refine k_iconst (v := 4) X dX11_feed_32 (by decide) ?_
  refine k_ic_ge 40 X dX11_feed_33 (by decide) (fun _ => ?_) (fun h_107 => absurd (by decide) h_107)
  refine k_iload X dX11_feed_40 0 rfl ?_
  refine k_bipush (v := 8) X dX11_feed_42 (by decide) ?_
  refine k_ic_ge 51 X dX11_feed_44 (by decide) (fun _ => ?_) (fun h_108 => absurd (by decide) h_108)
  refine k_iload X dX11_feed_51 0 rfl ?_
  refine k_bipush (v := 12) X dX11_feed_53 (by decide) ?_
  refine k_ic_ge 62 X dX11_feed_55 (by decide) (fun _ => ?_) (fun h_109 => absurd (by decide) h_109)
  refine k_iload X dX11_feed_62 0 rfl ?_
  refine k_bipush (v := 16) X dX11_feed_64 (by decide) ?_
  refine k_ic_ge 74 X dX11_feed_66 (by decide) (fun _ => ?_) (fun h_110 => absurd (by decide) h_110)
  refine k_iload X dX11_feed_74 7 rfl ?_
  refine k_istore [(7, .int p4), (6, .int 16), (0, .ref h0), (1, .int p0), (2, .int p1), (3, .int p2), (4, .int p3), (5, .int p4)] X dX11_feed_76 (by decide) rfl ?_
  refine k_aload_n X dX11_feed_78 2 rfl ?_
  refine k_get (ci := 11) X inlX11 rfl 1 (by decide) dX11_feed_79 mw255 0 rfl rfl ?_
  refine k_aload_n X dX11_feed_82 2 rfl ?_
  refine k_get (ci := 11) X inlX11 rfl 2 (by decide) dX11_feed_83 mw329 0 rfl rfl ?_
  refine k_iload X dX11_feed_86 0 rfl ?_
  refine k_bipush (v := 24) X dX11_feed_88 (by decide) ?_
  refine k_bipush (v := 8) X dX11_feed_90 (by decide) ?_
  refine k_iload X dX11_feed_92 1 rfl ?_
  refine k_iconst (v := 4) X dX11_feed_94 (by decide) ?_
  refine k_irem X dX11_feed_95 (by decide) ?_
  refine k_to (0) (by decide) ?_
  refine k_imul X dX11_feed_96 ?_
  refine k_to (0) (by decide) ?_
  refine k_isub X dX11_feed_97 ?_
  refine k_to (24) (by decide) ?_
  refine k_ishr X dX11_feed_98 ?_
  refine k_nm (fun z_111 ez_111 => ?_)
  refine k_sipush (v := 255) X dX11_feed_99 (by decide) ?_
  refine k_iand X dX11_feed_102 ?_
  refine k_nm (fun z_112 ez_112 => ?_)
  refine k_iast [(h0, .inr (11, [.int 0, .ref mt, .int 16, v3h0, v4h0, v5h0, v6h0, v7h0, v8h0, v9h0, v10h0, v11h0, v12h0, v13h0, v14h0, v15h0, v16h0, v17h0, v18h0, v19h0, v20h0, v21h0, v22h0, v23h0, v24h0, v25h0, v26h0, v27h0, v28h0, v29h0, v30h0, v31h0, v32h0, v33h0, v34h0, v35h0, v36h0, v37h0, v38h0, v39h0, v40h0, v41h0, v42h0])), (mt, .inl (g.2.2.1, 900, .inl (upd fa_105 (16 : Int32).toNatClampNeg z_112)))] X dX11_feed_103 1 rfl (by unfold vp_in; decide) rfl ?_
  refine (fun hg : ∀ fa_113 : Nat → Int32, Wk p l e _ s m args below meth c _ A g _ _ _ [(h0, .inr (11, [.int 0, .ref mt, .int 16, v3h0, v4h0, v5h0, v6h0, v7h0, v8h0, v9h0, v10h0, v11h0, v12h0, v13h0, v14h0, v15h0, v16h0, v17h0, v18h0, v19h0, v20h0, v21h0, v22h0, v23h0, v24h0, v25h0, v26h0, v27h0, v28h0, v29h0, v30h0, v31h0, v32h0, v33h0, v34h0, v35h0, v36h0, v37h0, v38h0, v39h0, v40h0, v41h0, v42h0])), (mt, .inl (g.2.2.1, 900, .inl fa_113))] _ _ _ => hg _) (fun fa_113 => ?_)
  refine k_aload_n X dX11_feed_104 2 rfl ?_
  refine k_dup X dX11_feed_105 rfl ?_
  refine k_get (ci := 11) X inlX11 rfl 2 (by decide) dX11_feed_106 mw329 0 rfl rfl ?_
  refine k_iconst (v := 1) X dX11_feed_109 (by decide) ?_
  refine k_iadd X dX11_feed_110 ?_
  refine k_to (17) (by decide) ?_
  refine k_put (ci := 11) [(h0, .inr (11, [.int 0, .ref mt, .int 17, v3h0, v4h0, v5h0, v6h0, v7h0, v8h0, v9h0, v10h0, v11h0, v12h0, v13h0, v14h0, v15h0, v16h0, v17h0, v18h0, v19h0, v20h0, v21h0, v22h0, v23h0, v24h0, v25h0, v26h0, v27h0, v28h0, v29h0, v30h0, v31h0, v32h0, v33h0, v34h0, v35h0, v36h0, v37h0, v38h0, v39h0, v40h0, v41h0, v42h0])), (mt, .inl (g.2.2.1, 900, .inl fa_113))] X inlX11 rfl tyX11_ok nmX11 2 (by decide) rfl dX11_feed_111 mw329 0 rfl rfl rfl (Nat.le_of_ble_eq_true rfl) rfl ?_
  refine k_iinc (17) [(6, .int 17), (7, .int p4), (0, .ref h0), (1, .int p0), (2, .int p1), (3, .int p2), (4, .int p3), (5, .int p4)] 1 X dX11_feed_114 rfl (by decide) (by decide) rfl ?_
  refine k_goto 23 X dX11_feed_117 (by decide) ?_
  refine k_iload X dX11_feed_23 0 rfl ?_
  refine k_bipush (v := 20) X dX11_feed_25 (by decide) ?_
  refine k_ic_ge 120 X dX11_feed_27 (by decide) (fun h_114 => absurd h_114 (by decide)) (fun _ => ?_)
  refine k_iload X dX11_feed_30 0 rfl ?_
  refine k_iconst (v := 4) X dX11_feed_32 (by decide) ?_
  refine k_ic_ge 40 X dX11_feed_33 (by decide) (fun _ => ?_) (fun h_115 => absurd (by decide) h_115)
  refine k_iload X dX11_feed_40 0 rfl ?_
  refine k_bipush (v := 8) X dX11_feed_42 (by decide) ?_
  refine k_ic_ge 51 X dX11_feed_44 (by decide) (fun _ => ?_) (fun h_116 => absurd (by decide) h_116)
  refine k_iload X dX11_feed_51 0 rfl ?_
  refine k_bipush (v := 12) X dX11_feed_53 (by decide) ?_
  refine k_ic_ge 62 X dX11_feed_55 (by decide) (fun _ => ?_) (fun h_117 => absurd (by decide) h_117)
  refine k_iload X dX11_feed_62 0 rfl ?_
  refine k_bipush (v := 16) X dX11_feed_64 (by decide) ?_
  refine k_ic_ge 74 X dX11_feed_66 (by decide) (fun _ => ?_) (fun h_118 => absurd (by decide) h_118)
  refine k_iload X dX11_feed_74 7 rfl ?_
  refine k_istore [(7, .int p4), (6, .int 17), (0, .ref h0), (1, .int p0), (2, .int p1), (3, .int p2), (4, .int p3), (5, .int p4)] X dX11_feed_76 (by decide) rfl ?_
  refine k_aload_n X dX11_feed_78 2 rfl ?_
  refine k_get (ci := 11) X inlX11 rfl 1 (by decide) dX11_feed_79 mw255 0 rfl rfl ?_
  refine k_aload_n X dX11_feed_82 2 rfl ?_
  refine k_get (ci := 11) X inlX11 rfl 2 (by decide) dX11_feed_83 mw329 0 rfl rfl ?_
  refine k_iload X dX11_feed_86 0 rfl ?_
  refine k_bipush (v := 24) X dX11_feed_88 (by decide) ?_
  refine k_bipush (v := 8) X dX11_feed_90 (by decide) ?_
  refine k_iload X dX11_feed_92 1 rfl ?_
  refine k_iconst (v := 4) X dX11_feed_94 (by decide) ?_
  refine k_irem X dX11_feed_95 (by decide) ?_
  refine k_to (1) (by decide) ?_
  refine k_imul X dX11_feed_96 ?_
  refine k_to (8) (by decide) ?_
  refine k_isub X dX11_feed_97 ?_
  refine k_to (16) (by decide) ?_
  refine k_ishr X dX11_feed_98 ?_
  refine k_nm (fun z_119 ez_119 => ?_)
  refine k_sipush (v := 255) X dX11_feed_99 (by decide) ?_
  refine k_iand X dX11_feed_102 ?_
  refine k_nm (fun z_120 ez_120 => ?_)
  refine k_iast [(h0, .inr (11, [.int 0, .ref mt, .int 17, v3h0, v4h0, v5h0, v6h0, v7h0, v8h0, v9h0, v10h0, v11h0, v12h0, v13h0, v14h0, v15h0, v16h0, v17h0, v18h0, v19h0, v20h0, v21h0, v22h0, v23h0, v24h0, v25h0, v26h0, v27h0, v28h0, v29h0, v30h0, v31h0, v32h0, v33h0, v34h0, v35h0, v36h0, v37h0, v38h0, v39h0, v40h0, v41h0, v42h0])), (mt, .inl (g.2.2.1, 900, .inl (upd fa_113 (17 : Int32).toNatClampNeg z_120)))] X dX11_feed_103 1 rfl (by unfold vp_in; decide) rfl ?_
  refine (fun hg : ∀ fa_121 : Nat → Int32, Wk p l e _ s m args below meth c _ A g _ _ _ [(h0, .inr (11, [.int 0, .ref mt, .int 17, v3h0, v4h0, v5h0, v6h0, v7h0, v8h0, v9h0, v10h0, v11h0, v12h0, v13h0, v14h0, v15h0, v16h0, v17h0, v18h0, v19h0, v20h0, v21h0, v22h0, v23h0, v24h0, v25h0, v26h0, v27h0, v28h0, v29h0, v30h0, v31h0, v32h0, v33h0, v34h0, v35h0, v36h0, v37h0, v38h0, v39h0, v40h0, v41h0, v42h0])), (mt, .inl (g.2.2.1, 900, .inl fa_121))] _ _ _ => hg _) (fun fa_121 => ?_)
  refine k_aload_n X dX11_feed_104 2 rfl ?_
  refine k_dup X dX11_feed_105 rfl ?_
  refine k_get (ci := 11) X inlX11 rfl 2 (by decide) dX11_feed_106 mw329 0 rfl rfl ?_
  refine k_iconst (v := 1) X dX11_feed_109 (by decide) ?_
  refine k_iadd X dX11_feed_110 ?_
  refine k_to (18) (by decide) ?_
  refine k_put (ci := 11) [(h0, .inr (11, [.int 0, .ref mt, .int 18, v3h0, v4h0, v5h0, v6h0, v7h0, v8h0, v9h0, v10h0, v11h0, v12h0, v13h0, v14h0, v15h0, v16h0, v17h0, v18h0, v19h0, v20h0, v21h0, v22h0, v23h0, v24h0, v25h0, v26h0, v27h0, v28h0, v29h0, v30h0, v31h0, v32h0, v33h0, v34h0, v35h0, v36h0, v37h0, v38h0, v39h0, v40h0, v41h0, v42h0])), (mt, .inl (g.2.2.1, 900, .inl fa_121))] X inlX11 rfl tyX11_ok nmX11 2 (by decide) rfl dX11_feed_111 mw329 0 rfl rfl rfl (Nat.le_of_ble_eq_true rfl) rfl ?_
  refine k_iinc (18) [(6, .int 18), (7, .int p4), (0, .ref h0), (1, .int p0), (2, .int p1), (3, .int p2), (4, .int p3), (5, .int p4)] 1 X dX11_feed_114 rfl (by decide) (by decide) rfl ?_
  refine k_goto 23 X dX11_feed_117 (by decide) ?_
  refine k_iload X dX11_feed_23 0 rfl ?_
  refine k_bipush (v := 20) X dX11_feed_25 (by decide) ?_
  refine k_ic_ge 120 X dX11_feed_27 (by decide) (fun h_122 => absurd h_122 (by decide)) (fun _ => ?_)
  refine k_iload X dX11_feed_30 0 rfl ?_
  refine k_iconst (v := 4) X dX11_feed_32 (by decide) ?_
  refine k_ic_ge 40 X dX11_feed_33 (by decide) (fun _ => ?_) (fun h_123 => absurd (by decide) h_123)
  refine k_iload X dX11_feed_40 0 rfl ?_
  refine k_bipush (v := 8) X dX11_feed_42 (by decide) ?_
  refine k_ic_ge 51 X dX11_feed_44 (by decide) (fun _ => ?_) (fun h_124 => absurd (by decide) h_124)
  refine k_iload X dX11_feed_51 0 rfl ?_
  refine k_bipush (v := 12) X dX11_feed_53 (by decide) ?_
  refine k_ic_ge 62 X dX11_feed_55 (by decide) (fun _ => ?_) (fun h_125 => absurd (by decide) h_125)
  refine k_iload X dX11_feed_62 0 rfl ?_
  refine k_bipush (v := 16) X dX11_feed_64 (by decide) ?_
  refine k_ic_ge 74 X dX11_feed_66 (by decide) (fun _ => ?_) (fun h_126 => absurd (by decide) h_126)
  refine k_iload X dX11_feed_74 7 rfl ?_
  refine k_istore [(7, .int p4), (6, .int 18), (0, .ref h0), (1, .int p0), (2, .int p1), (3, .int p2), (4, .int p3), (5, .int p4)] X dX11_feed_76 (by decide) rfl ?_
  refine k_aload_n X dX11_feed_78 2 rfl ?_
  refine k_get (ci := 11) X inlX11 rfl 1 (by decide) dX11_feed_79 mw255 0 rfl rfl ?_
  refine k_aload_n X dX11_feed_82 2 rfl ?_
  refine k_get (ci := 11) X inlX11 rfl 2 (by decide) dX11_feed_83 mw329 0 rfl rfl ?_
  refine k_iload X dX11_feed_86 0 rfl ?_
  refine k_bipush (v := 24) X dX11_feed_88 (by decide) ?_
  refine k_bipush (v := 8) X dX11_feed_90 (by decide) ?_
  refine k_iload X dX11_feed_92 1 rfl ?_
  refine k_iconst (v := 4) X dX11_feed_94 (by decide) ?_
  refine k_irem X dX11_feed_95 (by decide) ?_
  refine k_to (2) (by decide) ?_
  refine k_imul X dX11_feed_96 ?_
  refine k_to (16) (by decide) ?_
  refine k_isub X dX11_feed_97 ?_
  refine k_to (8) (by decide) ?_
  refine k_ishr X dX11_feed_98 ?_
  refine k_nm (fun z_127 ez_127 => ?_)
  refine k_sipush (v := 255) X dX11_feed_99 (by decide) ?_
  refine k_iand X dX11_feed_102 ?_
  refine k_nm (fun z_128 ez_128 => ?_)
  refine k_iast [(h0, .inr (11, [.int 0, .ref mt, .int 18, v3h0, v4h0, v5h0, v6h0, v7h0, v8h0, v9h0, v10h0, v11h0, v12h0, v13h0, v14h0, v15h0, v16h0, v17h0, v18h0, v19h0, v20h0, v21h0, v22h0, v23h0, v24h0, v25h0, v26h0, v27h0, v28h0, v29h0, v30h0, v31h0, v32h0, v33h0, v34h0, v35h0, v36h0, v37h0, v38h0, v39h0, v40h0, v41h0, v42h0])), (mt, .inl (g.2.2.1, 900, .inl (upd fa_121 (18 : Int32).toNatClampNeg z_128)))] X dX11_feed_103 1 rfl (by unfold vp_in; decide) rfl ?_
  refine (fun hg : ∀ fa_129 : Nat → Int32, Wk p l e _ s m args below meth c _ A g _ _ _ [(h0, .inr (11, [.int 0, .ref mt, .int 18, v3h0, v4h0, v5h0, v6h0, v7h0, v8h0, v9h0, v10h0, v11h0, v12h0, v13h0, v14h0, v15h0, v16h0, v17h0, v18h0, v19h0, v20h0, v21h0, v22h0, v23h0, v24h0, v25h0, v26h0, v27h0, v28h0, v29h0, v30h0, v31h0, v32h0, v33h0, v34h0, v35h0, v36h0, v37h0, v38h0, v39h0, v40h0, v41h0, v42h0])), (mt, .inl (g.2.2.1, 900, .inl fa_129))] _ _ _ => hg _) (fun fa_129 => ?_)
  refine k_aload_n X dX11_feed_104 2 rfl ?_
  refine k_dup X dX11_feed_105 rfl ?_
  refine k_get (ci := 11) X inlX11 rfl 2 (by decide) dX11_feed_106 mw329 0 rfl rfl ?_
  refine k_iconst (v := 1) X dX11_feed_109 (by decide) ?_
  refine k_iadd X dX11_feed_110 ?_
  refine k_to (19) (by decide) ?_
  refine k_put (ci := 11) [(h0, .inr (11, [.int 0, .ref mt, .int 19, v3h0, v4h0, v5h0, v6h0, v7h0, v8h0, v9h0, v10h0, v11h0, v12h0, v13h0, v14h0, v15h0, v16h0, v17h0, v18h0, v19h0, v20h0, v21h0, v22h0, v23h0, v24h0, v25h0, v26h0, v27h0, v28h0, v29h0, v30h0, v31h0, v32h0, v33h0, v34h0, v35h0, v36h0, v37h0, v38h0, v39h0, v40h0, v41h0, v42h0])), (mt, .inl (g.2.2.1, 900, .inl fa_129))] X inlX11 rfl tyX11_ok nmX11 2 (by decide) rfl dX11_feed_111 mw329 0 rfl rfl rfl (Nat.le_of_ble_eq_true rfl) rfl ?_
  refine k_iinc (19) [(6, .int 19), (7, .int p4), (0, .ref h0), (1, .int p0), (2, .int p1), (3, .int p2), (4, .int p3), (5, .int p4)] 1 X dX11_feed_114 rfl (by decide) (by decide) rfl ?_
  refine k_goto 23 X dX11_feed_117 (by decide) ?_
  refine k_iload X dX11_feed_23 0 rfl ?_
  refine k_bipush (v := 20) X dX11_feed_25 (by decide) ?_
  refine k_ic_ge 120 X dX11_feed_27 (by decide) (fun h_130 => absurd h_130 (by decide)) (fun _ => ?_)
  refine k_iload X dX11_feed_30 0 rfl ?_
  refine k_iconst (v := 4) X dX11_feed_32 (by decide) ?_
  refine k_ic_ge 40 X dX11_feed_33 (by decide) (fun _ => ?_) (fun h_131 => absurd (by decide) h_131)
  refine k_iload X dX11_feed_40 0 rfl ?_
  refine k_bipush (v := 8) X dX11_feed_42 (by decide) ?_
  refine k_ic_ge 51 X dX11_feed_44 (by decide) (fun _ => ?_) (fun h_132 => absurd (by decide) h_132)
  refine k_iload X dX11_feed_51 0 rfl ?_
  refine k_bipush (v := 12) X dX11_feed_53 (by decide) ?_
  refine k_ic_ge 62 X dX11_feed_55 (by decide) (fun _ => ?_) (fun h_133 => absurd (by decide) h_133)
  refine k_iload X dX11_feed_62 0 rfl ?_
  refine k_bipush (v := 16) X dX11_feed_64 (by decide) ?_
  refine k_ic_ge 74 X dX11_feed_66 (by decide) (fun _ => ?_) (fun h_134 => absurd (by decide) h_134)
  refine k_iload X dX11_feed_74 7 rfl ?_
  refine k_istore [(7, .int p4), (6, .int 19), (0, .ref h0), (1, .int p0), (2, .int p1), (3, .int p2), (4, .int p3), (5, .int p4)] X dX11_feed_76 (by decide) rfl ?_
  refine k_aload_n X dX11_feed_78 2 rfl ?_
  refine k_get (ci := 11) X inlX11 rfl 1 (by decide) dX11_feed_79 mw255 0 rfl rfl ?_
  refine k_aload_n X dX11_feed_82 2 rfl ?_
  refine k_get (ci := 11) X inlX11 rfl 2 (by decide) dX11_feed_83 mw329 0 rfl rfl ?_
  refine k_iload X dX11_feed_86 0 rfl ?_
  refine k_bipush (v := 24) X dX11_feed_88 (by decide) ?_
  refine k_bipush (v := 8) X dX11_feed_90 (by decide) ?_
  refine k_iload X dX11_feed_92 1 rfl ?_
  refine k_iconst (v := 4) X dX11_feed_94 (by decide) ?_
  refine k_irem X dX11_feed_95 (by decide) ?_
  refine k_to (3) (by decide) ?_
  refine k_imul X dX11_feed_96 ?_
  refine k_to (24) (by decide) ?_
  refine k_isub X dX11_feed_97 ?_
  refine k_to (0) (by decide) ?_
  refine k_ishr X dX11_feed_98 ?_
  refine k_nm (fun z_135 ez_135 => ?_)
  refine k_sipush (v := 255) X dX11_feed_99 (by decide) ?_
  refine k_iand X dX11_feed_102 ?_
  refine k_nm (fun z_136 ez_136 => ?_)
  refine k_iast [(h0, .inr (11, [.int 0, .ref mt, .int 19, v3h0, v4h0, v5h0, v6h0, v7h0, v8h0, v9h0, v10h0, v11h0, v12h0, v13h0, v14h0, v15h0, v16h0, v17h0, v18h0, v19h0, v20h0, v21h0, v22h0, v23h0, v24h0, v25h0, v26h0, v27h0, v28h0, v29h0, v30h0, v31h0, v32h0, v33h0, v34h0, v35h0, v36h0, v37h0, v38h0, v39h0, v40h0, v41h0, v42h0])), (mt, .inl (g.2.2.1, 900, .inl (upd fa_129 (19 : Int32).toNatClampNeg z_136)))] X dX11_feed_103 1 rfl (by unfold vp_in; decide) rfl ?_
  refine (fun hg : ∀ fa_137 : Nat → Int32, Wk p l e _ s m args below meth c _ A g _ _ _ [(h0, .inr (11, [.int 0, .ref mt, .int 19, v3h0, v4h0, v5h0, v6h0, v7h0, v8h0, v9h0, v10h0, v11h0, v12h0, v13h0, v14h0, v15h0, v16h0, v17h0, v18h0, v19h0, v20h0, v21h0, v22h0, v23h0, v24h0, v25h0, v26h0, v27h0, v28h0, v29h0, v30h0, v31h0, v32h0, v33h0, v34h0, v35h0, v36h0, v37h0, v38h0, v39h0, v40h0, v41h0, v42h0])), (mt, .inl (g.2.2.1, 900, .inl fa_137))] _ _ _ => hg _) (fun fa_137 => ?_)
  refine k_aload_n X dX11_feed_104 2 rfl ?_
  refine k_dup X dX11_feed_105 rfl ?_
  refine k_get (ci := 11) X inlX11 rfl 2 (by decide) dX11_feed_106 mw329 0 rfl rfl ?_
  refine k_iconst (v := 1) X dX11_feed_109 (by decide) ?_
  refine k_iadd X dX11_feed_110 ?_
  refine k_to (20) (by decide) ?_
  refine k_put (ci := 11) [(h0, .inr (11, [.int 0, .ref mt, .int 20, v3h0, v4h0, v5h0, v6h0, v7h0, v8h0, v9h0, v10h0, v11h0, v12h0, v13h0, v14h0, v15h0, v16h0, v17h0, v18h0, v19h0, v20h0, v21h0, v22h0, v23h0, v24h0, v25h0, v26h0, v27h0, v28h0, v29h0, v30h0, v31h0, v32h0, v33h0, v34h0, v35h0, v36h0, v37h0, v38h0, v39h0, v40h0, v41h0, v42h0])), (mt, .inl (g.2.2.1, 900, .inl fa_137))] X inlX11 rfl tyX11_ok nmX11 2 (by decide) rfl dX11_feed_111 mw329 0 rfl rfl rfl (Nat.le_of_ble_eq_true rfl) rfl ?_
  refine k_iinc (20) [(6, .int 20), (7, .int p4), (0, .ref h0), (1, .int p0), (2, .int p1), (3, .int p2), (4, .int p3), (5, .int p4)] 1 X dX11_feed_114 rfl (by decide) (by decide) rfl ?_
  refine k_goto 23 X dX11_feed_117 (by decide) ?_
  refine k_iload X dX11_feed_23 0 rfl ?_
  refine k_bipush (v := 20) X dX11_feed_25 (by decide) ?_
  refine k_ic_ge 120 X dX11_feed_27 (by decide) (fun _ => ?_) (fun h_138 => absurd (by decide) h_138)
  refine k_aload_n X dX11_feed_120 2 rfl ?_
  refine k_get (ci := 11) X inlX11 rfl 2 (by decide) dX11_feed_121 mw329 0 rfl rfl ?_
  exact k_iret X hr dX11_feed_124 (Nat.le_of_ble_eq_true rfl) (Nat.le_of_ble_eq_true rfl) [] (by decide) rfl rfl ⟨rfl, rfl⟩

theorem dX11_isWord_0 : decode cX11_isWord 0 = .ok (.aload_n 0, 1) := by decide +kernel
theorem dX11_isWord_1 : decode cX11_isWord 1 = .ok (.getfield 121, 3) := by decide +kernel
theorem dX11_isWord_4 : decode cX11_isWord 4 = .ok (.ifCond .ne 22, 3) := by decide +kernel
theorem dX11_isWord_7 : decode cX11_isWord 7 = .ok (.aload_n 0, 1) := by decide +kernel
theorem dX11_isWord_8 : decode cX11_isWord 8 = .ok (.getfield 111, 3) := by decide +kernel
theorem dX11_isWord_11 : decode cX11_isWord 11 = .ok (.iconst 2, 1) := by decide +kernel
theorem dX11_isWord_12 : decode cX11_isWord 12 = .ok (.if_icmp .ne 14, 3) := by decide +kernel
theorem dX11_isWord_26 : decode cX11_isWord 26 = .ok (.iconst 0, 1) := by decide +kernel
theorem dX11_isWord_27 : decode cX11_isWord 27 = .ok (.ireturn, 1) := by decide +kernel
set_option maxHeartbeats 4000000 in
set_option maxRecDepth 100000 in
theorem r_isWord (l : Launch) (g : Gx) (h0 : Nat) (p0 : Nat) (v0h0 : Value) (v1h0 : Value) (v2h0 : Value) (v3h0 : Value) (v4h0 : Value) (v5h0 : Value) (v7h0 : Value) (v8h0 : Value) (v9h0 : Value) (v10h0 : Value) (v11h0 : Value) (v12h0 : Value) (v14h0 : Value) (v15h0 : Value) (v16h0 : Value) (v17h0 : Value) (v18h0 : Value) (v19h0 : Value) (v20h0 : Value) (v21h0 : Value) (v22h0 : Value) (v23h0 : Value) (v24h0 : Value) (v25h0 : Value) (v26h0 : Value) (v27h0 : Value) (v28h0 : Value) (v29h0 : Value) (v30h0 : Value) (v31h0 : Value) (v32h0 : Value) (v33h0 : Value) (v34h0 : Value) (v35h0 : Value) (v36h0 : Value) (v37h0 : Value) (v38h0 : Value) (v39h0 : Value) (v40h0 : Value) (v41h0 : Value) (v42h0 : Value) : cI l g yX11_isWord cX11_isWord 4 (some .boolean) 0 0 0 0 [.ref h0, .ref p0] [(h0, .inr (11, [v0h0, v1h0, v2h0, v3h0, v4h0, v5h0, .int 0, v7h0, v8h0, v9h0, v10h0, v11h0, v12h0, .int 0, v14h0, v15h0, v16h0, v17h0, v18h0, v19h0, v20h0, v21h0, v22h0, v23h0, v24h0, v25h0, v26h0, v27h0, v28h0, v29h0, v30h0, v31h0, v32h0, v33h0, v34h0, v35h0, v36h0, v37h0, v38h0, v39h0, v40h0, v41h0, v42h0]))] (fun r w => r = 0 ∧ w = [(h0, .inr (11, [v0h0, v1h0, v2h0, v3h0, v4h0, v5h0, .int 0, v7h0, v8h0, v9h0, v10h0, v11h0, v12h0, .int 0, v14h0, v15h0, v16h0, v17h0, v18h0, v19h0, v20h0, v21h0, v22h0, v23h0, v24h0, v25h0, v26h0, v27h0, v28h0, v29h0, v30h0, v31h0, v32h0, v33h0, v34h0, v35h0, v36h0, v37h0, v38h0, v39h0, v40h0, v41h0, v42h0]))]) := by
  refine cI.of (by decide) (Nat.le_of_ble_eq_true rfl) ?_
  intro p e s m args below meth c A X hr hi
  refine k_lveq [(0, .ref h0), (1, .ref p0)] rfl ?_
  refine k_aload_n X dX11_isWord_0 0 rfl ?_
  refine k_get (ci := 11) X inlX11 rfl 13 (by decide) dX11_isWord_1 mw330 0 rfl rfl ?_
  refine k_if_ne 26 X dX11_isWord_4 (by decide) (fun h_1 => absurd h_1 (by decide)) (fun _ => ?_)
  refine k_aload_n X dX11_isWord_7 0 rfl ?_
  refine k_get (ci := 11) X inlX11 rfl 6 (by decide) dX11_isWord_8 mw331 0 rfl rfl ?_
  refine k_iconst (v := 2) X dX11_isWord_11 (by decide) ?_
  refine k_ic_ne 26 X dX11_isWord_12 (by decide) (fun _ => ?_) (fun h_2 => absurd h_2 (by decide))
  refine k_iconst (v := 0) X dX11_isWord_26 (by decide) ?_
  exact k_zret X hr rfl dX11_isWord_27 (Nat.le_of_ble_eq_true rfl) (Nat.le_of_ble_eq_true rfl) [0] (by decide) rfl rfl ⟨rfl, rfl⟩

theorem dX11_opens_0 : decode cX11_opens 0 = .ok (.aload_n 0, 1) := by decide +kernel
theorem dX11_opens_1 : decode cX11_opens 1 = .ok (.aload_n 1, 1) := by decide +kernel
theorem dX11_opens_2 : decode cX11_opens 2 = .ok (.invokevirtual 138, 3) := by decide +kernel
theorem dX11_opens_5 : decode cX11_opens 5 = .ok (.ifCond .ne 5, 3) := by decide +kernel
theorem dX11_opens_8 : decode cX11_opens 8 = .ok (.iconst 0, 1) := by decide +kernel
theorem dX11_opens_9 : decode cX11_opens 9 = .ok (.ireturn, 1) := by decide +kernel
set_option maxHeartbeats 4000000 in
set_option maxRecDepth 100000 in
theorem r_opens (l : Launch) (g : Gx) (h0 : Nat) (p0 : Nat) (p1 : Int32) (v0h0 : Value) (v1h0 : Value) (v2h0 : Value) (v3h0 : Value) (v4h0 : Value) (v5h0 : Value) (v7h0 : Value) (v8h0 : Value) (v9h0 : Value) (v10h0 : Value) (v11h0 : Value) (v12h0 : Value) (v14h0 : Value) (v15h0 : Value) (v16h0 : Value) (v17h0 : Value) (v18h0 : Value) (v19h0 : Value) (v20h0 : Value) (v21h0 : Value) (v22h0 : Value) (v23h0 : Value) (v24h0 : Value) (v25h0 : Value) (v26h0 : Value) (v27h0 : Value) (v28h0 : Value) (v29h0 : Value) (v30h0 : Value) (v31h0 : Value) (v32h0 : Value) (v33h0 : Value) (v34h0 : Value) (v35h0 : Value) (v36h0 : Value) (v37h0 : Value) (v38h0 : Value) (v39h0 : Value) (v40h0 : Value) (v41h0 : Value) (v42h0 : Value) : cI l g yX11_opens cX11_opens 3 (some .boolean) 1 23 0 0 [.ref h0, .ref p0, .int p1] [(h0, .inr (11, [v0h0, v1h0, v2h0, v3h0, v4h0, v5h0, .int 0, v7h0, v8h0, v9h0, v10h0, v11h0, v12h0, .int 0, v14h0, v15h0, v16h0, v17h0, v18h0, v19h0, v20h0, v21h0, v22h0, v23h0, v24h0, v25h0, v26h0, v27h0, v28h0, v29h0, v30h0, v31h0, v32h0, v33h0, v34h0, v35h0, v36h0, v37h0, v38h0, v39h0, v40h0, v41h0, v42h0]))] (fun r w => r = 0 ∧ w = [(h0, .inr (11, [v0h0, v1h0, v2h0, v3h0, v4h0, v5h0, .int 0, v7h0, v8h0, v9h0, v10h0, v11h0, v12h0, .int 0, v14h0, v15h0, v16h0, v17h0, v18h0, v19h0, v20h0, v21h0, v22h0, v23h0, v24h0, v25h0, v26h0, v27h0, v28h0, v29h0, v30h0, v31h0, v32h0, v33h0, v34h0, v35h0, v36h0, v37h0, v38h0, v39h0, v40h0, v41h0, v42h0]))]) := by
  refine cI.of (by decide) (Nat.le_of_ble_eq_true rfl) ?_
  intro p e s m args below meth c A X hr hi
  refine k_lveq [(0, .ref h0), (1, .ref p0), (2, .int p1)] rfl ?_
  refine k_aload_n X dX11_opens_0 0 rfl ?_
  refine k_aload_n X dX11_opens_1 1 rfl ?_
  refine k_callVI (n := 1) (As := [.ref p0]) (st := []) X [(h0, .inr (11, [v0h0, v1h0, v2h0, v3h0, v4h0, v5h0, .int 0, v7h0, v8h0, v9h0, v10h0, v11h0, v12h0, .int 0, v14h0, v15h0, v16h0, v17h0, v18h0, v19h0, v20h0, v21h0, v22h0, v23h0, v24h0, v25h0, v26h0, v27h0, v28h0, v29h0, v30h0, v31h0, v32h0, v33h0, v34h0, v35h0, v36h0, v37h0, v38h0, v39h0, v40h0, v41h0, v42h0]))] [] [0] [] (r_isWord l g h0 p0 v0h0 v1h0 v2h0 v3h0 v4h0 v5h0 v7h0 v8h0 v9h0 v10h0 v11h0 v12h0 v14h0 v15h0 v16h0 v17h0 v18h0 v19h0 v20h0 v21h0 v22h0 v23h0 v24h0 v25h0 v26h0 v27h0 v28h0 v29h0 v30h0 v31h0 v32h0 v33h0 v34h0 v35h0 v36h0 v37h0 v38h0 v39h0 v40h0 v41h0 v42h0) dX11_opens_2 mw332 mw333 mw334 mw285 mw335 rfl 11 rfl rfl 0 _ rfl (by unfold yOk; decide) rfl (Nat.le_of_ble_eq_true rfl) (Nat.le_of_ble_eq_true rfl) (Nat.le_of_ble_eq_true rfl) (Nat.le_of_ble_eq_true rfl) (Nat.le_of_ble_eq_true rfl) rfl rfl (by decide) rfl (by decide) (by decide) ?_
  rintro r w ⟨rfl, rfl⟩
  refine k_ws [(h0, .inr (11, [v0h0, v1h0, v2h0, v3h0, v4h0, v5h0, .int 0, v7h0, v8h0, v9h0, v10h0, v11h0, v12h0, .int 0, v14h0, v15h0, v16h0, v17h0, v18h0, v19h0, v20h0, v21h0, v22h0, v23h0, v24h0, v25h0, v26h0, v27h0, v28h0, v29h0, v30h0, v31h0, v32h0, v33h0, v34h0, v35h0, v36h0, v37h0, v38h0, v39h0, v40h0, v41h0, v42h0]))] rfl ?_
  refine k_if_ne 10 X dX11_opens_5 (by decide) (fun h_1 => absurd h_1 (by decide)) (fun _ => ?_)
  refine k_iconst (v := 0) X dX11_opens_8 (by decide) ?_
  exact k_zret X hr rfl dX11_opens_9 (Nat.le_of_ble_eq_true rfl) (Nat.le_of_ble_eq_true rfl) [0] (by decide) rfl rfl ⟨rfl, rfl⟩

theorem dX11_opensOnce_0 : decode cX11_opensOnce 0 = .ok (.aload_n 0, 1) := by decide +kernel
theorem dX11_opensOnce_1 : decode cX11_opensOnce 1 = .ok (.aload_n 1, 1) := by decide +kernel
theorem dX11_opensOnce_2 : decode cX11_opensOnce 2 = .ok (.invokevirtual 138, 3) := by decide +kernel
theorem dX11_opensOnce_5 : decode cX11_opensOnce 5 = .ok (.ifCond .ne 5, 3) := by decide +kernel
theorem dX11_opensOnce_8 : decode cX11_opensOnce 8 = .ok (.iconst 0, 1) := by decide +kernel
theorem dX11_opensOnce_9 : decode cX11_opensOnce 9 = .ok (.ireturn, 1) := by decide +kernel
set_option maxHeartbeats 4000000 in
set_option maxRecDepth 100000 in
theorem r_opensOnce (l : Launch) (g : Gx) (h0 : Nat) (p0 : Nat) (p1 : Int32) (v0h0 : Value) (v1h0 : Value) (v2h0 : Value) (v3h0 : Value) (v4h0 : Value) (v5h0 : Value) (v7h0 : Value) (v8h0 : Value) (v9h0 : Value) (v10h0 : Value) (v11h0 : Value) (v12h0 : Value) (v14h0 : Value) (v15h0 : Value) (v16h0 : Value) (v17h0 : Value) (v18h0 : Value) (v19h0 : Value) (v20h0 : Value) (v21h0 : Value) (v22h0 : Value) (v23h0 : Value) (v24h0 : Value) (v25h0 : Value) (v26h0 : Value) (v27h0 : Value) (v28h0 : Value) (v29h0 : Value) (v30h0 : Value) (v31h0 : Value) (v32h0 : Value) (v33h0 : Value) (v34h0 : Value) (v35h0 : Value) (v36h0 : Value) (v37h0 : Value) (v38h0 : Value) (v39h0 : Value) (v40h0 : Value) (v41h0 : Value) (v42h0 : Value) : cI l g yX11_opensOnce cX11_opensOnce 3 (some .boolean) 1 23 0 0 [.ref h0, .ref p0, .int p1] [(h0, .inr (11, [v0h0, v1h0, v2h0, v3h0, v4h0, v5h0, .int 0, v7h0, v8h0, v9h0, v10h0, v11h0, v12h0, .int 0, v14h0, v15h0, v16h0, v17h0, v18h0, v19h0, v20h0, v21h0, v22h0, v23h0, v24h0, v25h0, v26h0, v27h0, v28h0, v29h0, v30h0, v31h0, v32h0, v33h0, v34h0, v35h0, v36h0, v37h0, v38h0, v39h0, v40h0, v41h0, v42h0]))] (fun r w => r = 0 ∧ w = [(h0, .inr (11, [v0h0, v1h0, v2h0, v3h0, v4h0, v5h0, .int 0, v7h0, v8h0, v9h0, v10h0, v11h0, v12h0, .int 0, v14h0, v15h0, v16h0, v17h0, v18h0, v19h0, v20h0, v21h0, v22h0, v23h0, v24h0, v25h0, v26h0, v27h0, v28h0, v29h0, v30h0, v31h0, v32h0, v33h0, v34h0, v35h0, v36h0, v37h0, v38h0, v39h0, v40h0, v41h0, v42h0]))]) := by
  refine cI.of (by decide) (Nat.le_of_ble_eq_true rfl) ?_
  intro p e s m args below meth c A X hr hi
  refine k_lveq [(0, .ref h0), (1, .ref p0), (2, .int p1)] rfl ?_
  refine k_aload_n X dX11_opensOnce_0 0 rfl ?_
  refine k_aload_n X dX11_opensOnce_1 1 rfl ?_
  refine k_callVI (n := 1) (As := [.ref p0]) (st := []) X [(h0, .inr (11, [v0h0, v1h0, v2h0, v3h0, v4h0, v5h0, .int 0, v7h0, v8h0, v9h0, v10h0, v11h0, v12h0, .int 0, v14h0, v15h0, v16h0, v17h0, v18h0, v19h0, v20h0, v21h0, v22h0, v23h0, v24h0, v25h0, v26h0, v27h0, v28h0, v29h0, v30h0, v31h0, v32h0, v33h0, v34h0, v35h0, v36h0, v37h0, v38h0, v39h0, v40h0, v41h0, v42h0]))] [] [0] [] (r_isWord l g h0 p0 v0h0 v1h0 v2h0 v3h0 v4h0 v5h0 v7h0 v8h0 v9h0 v10h0 v11h0 v12h0 v14h0 v15h0 v16h0 v17h0 v18h0 v19h0 v20h0 v21h0 v22h0 v23h0 v24h0 v25h0 v26h0 v27h0 v28h0 v29h0 v30h0 v31h0 v32h0 v33h0 v34h0 v35h0 v36h0 v37h0 v38h0 v39h0 v40h0 v41h0 v42h0) dX11_opensOnce_2 mw332 mw333 mw334 mw285 mw335 rfl 11 rfl rfl 0 _ rfl (by unfold yOk; decide) rfl (Nat.le_of_ble_eq_true rfl) (Nat.le_of_ble_eq_true rfl) (Nat.le_of_ble_eq_true rfl) (Nat.le_of_ble_eq_true rfl) (Nat.le_of_ble_eq_true rfl) rfl rfl (by decide) rfl (by decide) (by decide) ?_
  rintro r w ⟨rfl, rfl⟩
  refine k_ws [(h0, .inr (11, [v0h0, v1h0, v2h0, v3h0, v4h0, v5h0, .int 0, v7h0, v8h0, v9h0, v10h0, v11h0, v12h0, .int 0, v14h0, v15h0, v16h0, v17h0, v18h0, v19h0, v20h0, v21h0, v22h0, v23h0, v24h0, v25h0, v26h0, v27h0, v28h0, v29h0, v30h0, v31h0, v32h0, v33h0, v34h0, v35h0, v36h0, v37h0, v38h0, v39h0, v40h0, v41h0, v42h0]))] rfl ?_
  refine k_if_ne 10 X dX11_opensOnce_5 (by decide) (fun h_1 => absurd h_1 (by decide)) (fun _ => ?_)
  refine k_iconst (v := 0) X dX11_opensOnce_8 (by decide) ?_
  exact k_zret X hr rfl dX11_opensOnce_9 (Nat.le_of_ble_eq_true rfl) (Nat.le_of_ble_eq_true rfl) [0] (by decide) rfl rfl ⟨rfl, rfl⟩

theorem dX11_bad_0 : decode cX11_bad 0 = .ok (.aload_n 0, 1) := by decide +kernel
theorem dX11_bad_1 : decode cX11_bad 1 = .ok (.getfield 121, 3) := by decide +kernel
theorem dX11_bad_4 : decode cX11_bad 4 = .ok (.ifCond .eq 4, 3) := by decide +kernel
theorem dX11_bad_8 : decode cX11_bad 8 = .ok (.aload_n 0, 1) := by decide +kernel
theorem dX11_bad_9 : decode cX11_bad 9 = .ok (.iconst 1, 1) := by decide +kernel
theorem dX11_bad_10 : decode cX11_bad 10 = .ok (.putfield 121, 3) := by decide +kernel
theorem dX11_bad_13 : decode cX11_bad 13 = .ok (.aload_n 0, 1) := by decide +kernel
theorem dX11_bad_14 : decode cX11_bad 14 = .ok (.iload_n 1, 1) := by decide +kernel
theorem dX11_bad_15 : decode cX11_bad 15 = .ok (.putfield 125, 3) := by decide +kernel
theorem dX11_bad_18 : decode cX11_bad 18 = .ok (.aload_n 0, 1) := by decide +kernel
theorem dX11_bad_19 : decode cX11_bad 19 = .ok (.iload_n 2, 1) := by decide +kernel
theorem dX11_bad_20 : decode cX11_bad 20 = .ok (.putfield 13, 3) := by decide +kernel
theorem dX11_bad_23 : decode cX11_bad 23 = .ok (.return_, 1) := by decide +kernel
set_option maxHeartbeats 4000000 in
set_option maxRecDepth 100000 in
theorem r_bad (l : Launch) (g : Gx) (h0 : Nat) (p0 : Int32) (p1 : Int32) (v0h0 : Value) (v1h0 : Value) (v2h0 : Value) (v3h0 : Value) (v4h0 : Value) (v5h0 : Value) (v6h0 : Value) (v7h0 : Value) (v8h0 : Value) (v9h0 : Value) (v10h0 : Value) (v11h0 : Value) (v12h0 : Value) (v14h0 : Value) (v15h0 : Value) (v16h0 : Value) (v17h0 : Value) (v18h0 : Value) (v19h0 : Value) (v20h0 : Value) (v21h0 : Value) (v22h0 : Value) (v23h0 : Value) (v24h0 : Value) (v25h0 : Value) (v26h0 : Value) (v27h0 : Value) (v28h0 : Value) (v29h0 : Value) (v30h0 : Value) (v31h0 : Value) (v32h0 : Value) (v33h0 : Value) (v34h0 : Value) (v35h0 : Value) (v36h0 : Value) (v37h0 : Value) (v38h0 : Value) (v39h0 : Value) (v40h0 : Value) (v41h0 : Value) (v42h0 : Value) : cV l g yX11_bad cX11_bad 3 0 0 0 0 [.ref h0, .int p0, .int p1] [(h0, .inr (11, [v0h0, v1h0, v2h0, v3h0, v4h0, v5h0, v6h0, v7h0, v8h0, v9h0, v10h0, v11h0, v12h0, .int 0, v14h0, v15h0, v16h0, v17h0, v18h0, v19h0, v20h0, v21h0, v22h0, v23h0, v24h0, v25h0, v26h0, v27h0, v28h0, v29h0, v30h0, v31h0, v32h0, v33h0, v34h0, v35h0, v36h0, v37h0, v38h0, v39h0, v40h0, v41h0, v42h0]))] (fun w => w = [(h0, .inr (11, [v0h0, v1h0, v2h0, v3h0, v4h0, v5h0, v6h0, v7h0, v8h0, .int p0, .int p1, v11h0, v12h0, .int 1, v14h0, v15h0, v16h0, v17h0, v18h0, v19h0, v20h0, v21h0, v22h0, v23h0, v24h0, v25h0, v26h0, v27h0, v28h0, v29h0, v30h0, v31h0, v32h0, v33h0, v34h0, v35h0, v36h0, v37h0, v38h0, v39h0, v40h0, v41h0, v42h0]))]) := by
  refine cV.of (by decide) (Nat.le_of_ble_eq_true rfl) ?_
  intro p e s m args below meth c A X hr hi
  refine k_lveq [(0, .ref h0), (1, .int p0), (2, .int p1)] rfl ?_
  refine k_aload_n X dX11_bad_0 0 rfl ?_
  refine k_get (ci := 11) X inlX11 rfl 13 (by decide) dX11_bad_1 mw330 0 rfl rfl ?_
  refine k_if_eq 8 X dX11_bad_4 (by decide) (fun _ => ?_) (fun h_1 => absurd (by decide) h_1)
  refine k_aload_n X dX11_bad_8 0 rfl ?_
  refine k_iconst (v := 1) X dX11_bad_9 (by decide) ?_
  refine k_put (ci := 11) [(h0, .inr (11, [v0h0, v1h0, v2h0, v3h0, v4h0, v5h0, v6h0, v7h0, v8h0, v9h0, v10h0, v11h0, v12h0, .int 1, v14h0, v15h0, v16h0, v17h0, v18h0, v19h0, v20h0, v21h0, v22h0, v23h0, v24h0, v25h0, v26h0, v27h0, v28h0, v29h0, v30h0, v31h0, v32h0, v33h0, v34h0, v35h0, v36h0, v37h0, v38h0, v39h0, v40h0, v41h0, v42h0]))] X inlX11 rfl tyX11_ok nmX11 13 (by decide) rfl dX11_bad_10 mw330 0 rfl (by decide) (by decide) (Nat.le_of_ble_eq_true rfl) rfl ?_
  refine k_aload_n X dX11_bad_13 0 rfl ?_
  refine k_iload_n X dX11_bad_14 1 rfl ?_
  refine k_put (ci := 11) [(h0, .inr (11, [v0h0, v1h0, v2h0, v3h0, v4h0, v5h0, v6h0, v7h0, v8h0, .int p0, v10h0, v11h0, v12h0, .int 1, v14h0, v15h0, v16h0, v17h0, v18h0, v19h0, v20h0, v21h0, v22h0, v23h0, v24h0, v25h0, v26h0, v27h0, v28h0, v29h0, v30h0, v31h0, v32h0, v33h0, v34h0, v35h0, v36h0, v37h0, v38h0, v39h0, v40h0, v41h0, v42h0]))] X inlX11 rfl tyX11_ok nmX11 9 (by decide) rfl dX11_bad_15 mw287 0 rfl rfl rfl (Nat.le_of_ble_eq_true rfl) rfl ?_
  refine k_aload_n X dX11_bad_18 0 rfl ?_
  refine k_iload_n X dX11_bad_19 2 rfl ?_
  refine k_put (ci := 11) [(h0, .inr (11, [v0h0, v1h0, v2h0, v3h0, v4h0, v5h0, v6h0, v7h0, v8h0, .int p0, .int p1, v11h0, v12h0, .int 1, v14h0, v15h0, v16h0, v17h0, v18h0, v19h0, v20h0, v21h0, v22h0, v23h0, v24h0, v25h0, v26h0, v27h0, v28h0, v29h0, v30h0, v31h0, v32h0, v33h0, v34h0, v35h0, v36h0, v37h0, v38h0, v39h0, v40h0, v41h0, v42h0]))] X inlX11 rfl tyX11_ok nmX11 10 (by decide) rfl dX11_bad_20 mw256 0 rfl rfl rfl (Nat.le_of_ble_eq_true rfl) rfl ?_
  exact k_vret X hr dX11_bad_23 (Nat.le_of_ble_eq_true rfl) (Nat.le_of_ble_eq_true rfl) [0] (by decide) rfl rfl rfl

theorem dX11_look_0 : decode cX11_look 0 = .ok (.iload_n 1, 1) := by decide +kernel
theorem dX11_look_1 : decode cX11_look 1 = .ok (.aload_n 0, 1) := by decide +kernel
theorem dX11_look_2 : decode cX11_look 2 = .ok (.getfield 92, 3) := by decide +kernel
theorem dX11_look_5 : decode cX11_look 5 = .ok (.if_icmp .ge 12, 3) := by decide +kernel
theorem dX11_look_17 : decode cX11_look 17 = .ok (.iconst (-1), 1) := by decide +kernel
theorem dX11_look_18 : decode cX11_look 18 = .ok (.ireturn, 1) := by decide +kernel
set_option maxHeartbeats 4000000 in
set_option maxRecDepth 100000 in
theorem r_look (l : Launch) (g : Gx) (h0 : Nat) (v0h0 : Value) (v1h0 : Value) (v2h0 : Value) (v4h0 : Value) (v5h0 : Value) (v6h0 : Value) (v7h0 : Value) (v8h0 : Value) (v9h0 : Value) (v10h0 : Value) (v11h0 : Value) (v12h0 : Value) (v13h0 : Value) (v14h0 : Value) (v15h0 : Value) (v16h0 : Value) (v17h0 : Value) (v18h0 : Value) (v19h0 : Value) (v20h0 : Value) (v21h0 : Value) (v22h0 : Value) (v23h0 : Value) (v24h0 : Value) (v25h0 : Value) (v26h0 : Value) (v27h0 : Value) (v28h0 : Value) (v29h0 : Value) (v30h0 : Value) (v31h0 : Value) (v32h0 : Value) (v33h0 : Value) (v34h0 : Value) (v35h0 : Value) (v36h0 : Value) (v37h0 : Value) (v38h0 : Value) (v39h0 : Value) (v40h0 : Value) (v41h0 : Value) (v42h0 : Value) : cI l g yX11_look cX11_look 2 (some .int) 0 0 0 0 [.ref h0, .int 0] [(h0, .inr (11, [v0h0, v1h0, v2h0, .int 0, v4h0, v5h0, v6h0, v7h0, v8h0, v9h0, v10h0, v11h0, v12h0, v13h0, v14h0, v15h0, v16h0, v17h0, v18h0, v19h0, v20h0, v21h0, v22h0, v23h0, v24h0, v25h0, v26h0, v27h0, v28h0, v29h0, v30h0, v31h0, v32h0, v33h0, v34h0, v35h0, v36h0, v37h0, v38h0, v39h0, v40h0, v41h0, v42h0]))] (fun r w => r = (-1) ∧ w = [(h0, .inr (11, [v0h0, v1h0, v2h0, .int 0, v4h0, v5h0, v6h0, v7h0, v8h0, v9h0, v10h0, v11h0, v12h0, v13h0, v14h0, v15h0, v16h0, v17h0, v18h0, v19h0, v20h0, v21h0, v22h0, v23h0, v24h0, v25h0, v26h0, v27h0, v28h0, v29h0, v30h0, v31h0, v32h0, v33h0, v34h0, v35h0, v36h0, v37h0, v38h0, v39h0, v40h0, v41h0, v42h0]))]) := by
  refine cI.of (by decide) (Nat.le_of_ble_eq_true rfl) ?_
  intro p e s m args below meth c A X hr hi
  refine k_lveq [(0, .ref h0), (1, .int 0)] rfl ?_
  refine k_iload_n X dX11_look_0 1 rfl ?_
  refine k_aload_n X dX11_look_1 0 rfl ?_
  refine k_get (ci := 11) X inlX11 rfl 3 (by decide) dX11_look_2 mw336 0 rfl rfl ?_
  refine k_ic_ge 17 X dX11_look_5 (by decide) (fun _ => ?_) (fun h_1 => absurd (by decide) h_1)
  refine k_iconst (v := -1) X dX11_look_17 (by decide) ?_
  exact k_iret X hr dX11_look_18 (Nat.le_of_ble_eq_true rfl) (Nat.le_of_ble_eq_true rfl) [0] (by decide) rfl rfl ⟨rfl, rfl⟩

theorem dX11_next_0 : decode cX11_next 0 = .ok (.aload_n 0, 1) := by decide +kernel
theorem dX11_next_1 : decode cX11_next 1 = .ok (.getfield 95, 3) := by decide +kernel
theorem dX11_next_4 : decode cX11_next 4 = .ok (.istore_n 1, 1) := by decide +kernel
theorem dX11_next_5 : decode cX11_next 5 = .ok (.aload_n 0, 1) := by decide +kernel
theorem dX11_next_6 : decode cX11_next 6 = .ok (.iload_n 1, 1) := by decide +kernel
theorem dX11_next_7 : decode cX11_next 7 = .ok (.invokevirtual 98, 3) := by decide +kernel
theorem dX11_next_10 : decode cX11_next 10 = .ok (.bipush 32, 2) := by decide +kernel
theorem dX11_next_12 : decode cX11_next 12 = .ok (.if_icmp .ne 9, 3) := by decide +kernel
theorem dX11_next_21 : decode cX11_next 21 = .ok (.aload_n 0, 1) := by decide +kernel
theorem dX11_next_22 : decode cX11_next 22 = .ok (.iload_n 1, 1) := by decide +kernel
theorem dX11_next_23 : decode cX11_next 23 = .ok (.putfield 102, 3) := by decide +kernel
theorem dX11_next_26 : decode cX11_next 26 = .ok (.aload_n 0, 1) := by decide +kernel
theorem dX11_next_27 : decode cX11_next 27 = .ok (.iload_n 1, 1) := by decide +kernel
theorem dX11_next_28 : decode cX11_next 28 = .ok (.invokevirtual 98, 3) := by decide +kernel
theorem dX11_next_31 : decode cX11_next 31 = .ok (.istore_n 2, 1) := by decide +kernel
theorem dX11_next_32 : decode cX11_next 32 = .ok (.aload_n 0, 1) := by decide +kernel
theorem dX11_next_33 : decode cX11_next 33 = .ok (.iconst 0, 1) := by decide +kernel
theorem dX11_next_34 : decode cX11_next 34 = .ok (.putfield 105, 3) := by decide +kernel
theorem dX11_next_37 : decode cX11_next 37 = .ok (.aload_n 0, 1) := by decide +kernel
theorem dX11_next_38 : decode cX11_next 38 = .ok (.iconst 0, 1) := by decide +kernel
theorem dX11_next_39 : decode cX11_next 39 = .ok (.putfield 108, 3) := by decide +kernel
theorem dX11_next_42 : decode cX11_next 42 = .ok (.iload_n 2, 1) := by decide +kernel
theorem dX11_next_43 : decode cX11_next 43 = .ok (.iconst (-1), 1) := by decide +kernel
theorem dX11_next_44 : decode cX11_next 44 = .ok (.if_icmp .ne 16, 3) := by decide +kernel
theorem dX11_next_47 : decode cX11_next 47 = .ok (.aload_n 0, 1) := by decide +kernel
theorem dX11_next_48 : decode cX11_next 48 = .ok (.iconst 0, 1) := by decide +kernel
theorem dX11_next_49 : decode cX11_next 49 = .ok (.putfield 111, 3) := by decide +kernel
theorem dX11_next_52 : decode cX11_next 52 = .ok (.aload_n 0, 1) := by decide +kernel
theorem dX11_next_53 : decode cX11_next 53 = .ok (.iload_n 1, 1) := by decide +kernel
theorem dX11_next_54 : decode cX11_next 54 = .ok (.putfield 95, 3) := by decide +kernel
theorem dX11_next_57 : decode cX11_next 57 = .ok (.goto 190, 3) := by decide +kernel
theorem dX11_next_247 : decode cX11_next 247 = .ok (.return_, 1) := by decide +kernel
set_option maxHeartbeats 4000000 in
set_option maxRecDepth 100000 in
theorem r_next (l : Launch) (g : Gx) (h0 : Nat) (v0h0 : Value) (v1h0 : Value) (v2h0 : Value) (v4h0 : Value) (v6h0 : Value) (v7h0 : Value) (v8h0 : Value) (v9h0 : Value) (v10h0 : Value) (v11h0 : Value) (v12h0 : Value) (v13h0 : Value) (v14h0 : Value) (v15h0 : Value) (v16h0 : Value) (v17h0 : Value) (v18h0 : Value) (v19h0 : Value) (v20h0 : Value) (v21h0 : Value) (v22h0 : Value) (v23h0 : Value) (v24h0 : Value) (v25h0 : Value) (v26h0 : Value) (v27h0 : Value) (v28h0 : Value) (v29h0 : Value) (v30h0 : Value) (v31h0 : Value) (v32h0 : Value) (v33h0 : Value) (v34h0 : Value) (v35h0 : Value) (v36h0 : Value) (v37h0 : Value) (v38h0 : Value) (v39h0 : Value) (v40h0 : Value) (v41h0 : Value) (v42h0 : Value) : cV l g yX11_next cX11_next 4 1 21 0 0 [.ref h0] [(h0, .inr (11, [v0h0, v1h0, v2h0, .int 0, v4h0, .int 0, v6h0, v7h0, v8h0, v9h0, v10h0, v11h0, v12h0, v13h0, v14h0, v15h0, v16h0, v17h0, v18h0, v19h0, v20h0, v21h0, v22h0, v23h0, v24h0, v25h0, v26h0, v27h0, v28h0, v29h0, v30h0, v31h0, v32h0, v33h0, v34h0, v35h0, v36h0, v37h0, v38h0, v39h0, v40h0, v41h0, v42h0]))] (fun w => w = [(h0, .inr (11, [v0h0, v1h0, v2h0, .int 0, .int 0, .int 0, .int 0, .int 0, .int 0, v9h0, v10h0, v11h0, v12h0, v13h0, v14h0, v15h0, v16h0, v17h0, v18h0, v19h0, v20h0, v21h0, v22h0, v23h0, v24h0, v25h0, v26h0, v27h0, v28h0, v29h0, v30h0, v31h0, v32h0, v33h0, v34h0, v35h0, v36h0, v37h0, v38h0, v39h0, v40h0, v41h0, v42h0]))]) := by
  refine cV.of (by decide) (Nat.le_of_ble_eq_true rfl) ?_
  intro p e s m args below meth c A X hr hi
  refine k_lveq [(0, .ref h0)] rfl ?_
  refine k_aload_n X dX11_next_0 0 rfl ?_
  refine k_get (ci := 11) X inlX11 rfl 5 (by decide) dX11_next_1 mw337 0 rfl rfl ?_
  refine k_istore_n [(1, .int 0), (0, .ref h0)] X dX11_next_4 (by decide) rfl ?_
  refine k_aload_n X dX11_next_5 1 rfl ?_
  refine k_iload_n X dX11_next_6 0 rfl ?_
  refine k_callVI (n := 1) (As := [.int 0]) (st := []) X [(h0, .inr (11, [v0h0, v1h0, v2h0, .int 0, v4h0, .int 0, v6h0, v7h0, v8h0, v9h0, v10h0, v11h0, v12h0, v13h0, v14h0, v15h0, v16h0, v17h0, v18h0, v19h0, v20h0, v21h0, v22h0, v23h0, v24h0, v25h0, v26h0, v27h0, v28h0, v29h0, v30h0, v31h0, v32h0, v33h0, v34h0, v35h0, v36h0, v37h0, v38h0, v39h0, v40h0, v41h0, v42h0]))] [] [0] [] (r_look l g h0 v0h0 v1h0 v2h0 v4h0 (.int 0) v6h0 v7h0 v8h0 v9h0 v10h0 v11h0 v12h0 v13h0 v14h0 v15h0 v16h0 v17h0 v18h0 v19h0 v20h0 v21h0 v22h0 v23h0 v24h0 v25h0 v26h0 v27h0 v28h0 v29h0 v30h0 v31h0 v32h0 v33h0 v34h0 v35h0 v36h0 v37h0 v38h0 v39h0 v40h0 v41h0 v42h0) dX11_next_7 mw338 mw339 mw340 mw285 mw341 rfl 11 rfl rfl 0 _ rfl (by unfold yOk; decide) rfl (Nat.le_of_ble_eq_true rfl) (Nat.le_of_ble_eq_true rfl) (Nat.le_of_ble_eq_true rfl) (Nat.le_of_ble_eq_true rfl) (Nat.le_of_ble_eq_true rfl) rfl rfl (by decide) rfl (by decide) (by decide) ?_
  rintro r w ⟨rfl, rfl⟩
  refine k_ws [(h0, .inr (11, [v0h0, v1h0, v2h0, .int 0, v4h0, .int 0, v6h0, v7h0, v8h0, v9h0, v10h0, v11h0, v12h0, v13h0, v14h0, v15h0, v16h0, v17h0, v18h0, v19h0, v20h0, v21h0, v22h0, v23h0, v24h0, v25h0, v26h0, v27h0, v28h0, v29h0, v30h0, v31h0, v32h0, v33h0, v34h0, v35h0, v36h0, v37h0, v38h0, v39h0, v40h0, v41h0, v42h0]))] rfl ?_
  refine k_bipush (v := 32) X dX11_next_10 (by decide) ?_
  refine k_ic_ne 21 X dX11_next_12 (by decide) (fun _ => ?_) (fun h_1 => absurd h_1 (by decide))
  refine k_aload_n X dX11_next_21 1 rfl ?_
  refine k_iload_n X dX11_next_22 0 rfl ?_
  refine k_put (ci := 11) [(h0, .inr (11, [v0h0, v1h0, v2h0, .int 0, .int 0, .int 0, v6h0, v7h0, v8h0, v9h0, v10h0, v11h0, v12h0, v13h0, v14h0, v15h0, v16h0, v17h0, v18h0, v19h0, v20h0, v21h0, v22h0, v23h0, v24h0, v25h0, v26h0, v27h0, v28h0, v29h0, v30h0, v31h0, v32h0, v33h0, v34h0, v35h0, v36h0, v37h0, v38h0, v39h0, v40h0, v41h0, v42h0]))] X inlX11 rfl tyX11_ok nmX11 4 (by decide) rfl dX11_next_23 mw342 0 rfl rfl rfl (Nat.le_of_ble_eq_true rfl) rfl ?_
  refine k_aload_n X dX11_next_26 1 rfl ?_
  refine k_iload_n X dX11_next_27 0 rfl ?_
  refine k_callVI (n := 1) (As := [.int 0]) (st := []) X [(h0, .inr (11, [v0h0, v1h0, v2h0, .int 0, .int 0, .int 0, v6h0, v7h0, v8h0, v9h0, v10h0, v11h0, v12h0, v13h0, v14h0, v15h0, v16h0, v17h0, v18h0, v19h0, v20h0, v21h0, v22h0, v23h0, v24h0, v25h0, v26h0, v27h0, v28h0, v29h0, v30h0, v31h0, v32h0, v33h0, v34h0, v35h0, v36h0, v37h0, v38h0, v39h0, v40h0, v41h0, v42h0]))] [] [0] [] (r_look l g h0 v0h0 v1h0 v2h0 (.int 0) (.int 0) v6h0 v7h0 v8h0 v9h0 v10h0 v11h0 v12h0 v13h0 v14h0 v15h0 v16h0 v17h0 v18h0 v19h0 v20h0 v21h0 v22h0 v23h0 v24h0 v25h0 v26h0 v27h0 v28h0 v29h0 v30h0 v31h0 v32h0 v33h0 v34h0 v35h0 v36h0 v37h0 v38h0 v39h0 v40h0 v41h0 v42h0) dX11_next_28 mw338 mw339 mw340 mw285 mw341 rfl 11 rfl rfl 0 _ rfl (by unfold yOk; decide) rfl (Nat.le_of_ble_eq_true rfl) (Nat.le_of_ble_eq_true rfl) (Nat.le_of_ble_eq_true rfl) (Nat.le_of_ble_eq_true rfl) (Nat.le_of_ble_eq_true rfl) rfl rfl (by decide) rfl (by decide) (by decide) ?_
  rintro r w ⟨rfl, rfl⟩
  refine k_ws [(h0, .inr (11, [v0h0, v1h0, v2h0, .int 0, .int 0, .int 0, v6h0, v7h0, v8h0, v9h0, v10h0, v11h0, v12h0, v13h0, v14h0, v15h0, v16h0, v17h0, v18h0, v19h0, v20h0, v21h0, v22h0, v23h0, v24h0, v25h0, v26h0, v27h0, v28h0, v29h0, v30h0, v31h0, v32h0, v33h0, v34h0, v35h0, v36h0, v37h0, v38h0, v39h0, v40h0, v41h0, v42h0]))] rfl ?_
  refine k_istore_n [(2, .int (-1)), (1, .int 0), (0, .ref h0)] X dX11_next_31 (by decide) rfl ?_
  refine k_aload_n X dX11_next_32 2 rfl ?_
  refine k_iconst (v := 0) X dX11_next_33 (by decide) ?_
  refine k_put (ci := 11) [(h0, .inr (11, [v0h0, v1h0, v2h0, .int 0, .int 0, .int 0, v6h0, v7h0, .int 0, v9h0, v10h0, v11h0, v12h0, v13h0, v14h0, v15h0, v16h0, v17h0, v18h0, v19h0, v20h0, v21h0, v22h0, v23h0, v24h0, v25h0, v26h0, v27h0, v28h0, v29h0, v30h0, v31h0, v32h0, v33h0, v34h0, v35h0, v36h0, v37h0, v38h0, v39h0, v40h0, v41h0, v42h0]))] X inlX11 rfl tyX11_ok nmX11 8 (by decide) rfl dX11_next_34 mw343 0 rfl rfl rfl (Nat.le_of_ble_eq_true rfl) rfl ?_
  refine k_aload_n X dX11_next_37 2 rfl ?_
  refine k_iconst (v := 0) X dX11_next_38 (by decide) ?_
  refine k_put (ci := 11) [(h0, .inr (11, [v0h0, v1h0, v2h0, .int 0, .int 0, .int 0, v6h0, .int 0, .int 0, v9h0, v10h0, v11h0, v12h0, v13h0, v14h0, v15h0, v16h0, v17h0, v18h0, v19h0, v20h0, v21h0, v22h0, v23h0, v24h0, v25h0, v26h0, v27h0, v28h0, v29h0, v30h0, v31h0, v32h0, v33h0, v34h0, v35h0, v36h0, v37h0, v38h0, v39h0, v40h0, v41h0, v42h0]))] X inlX11 rfl tyX11_ok nmX11 7 (by decide) rfl dX11_next_39 mw344 0 rfl rfl rfl (Nat.le_of_ble_eq_true rfl) rfl ?_
  refine k_iload_n X dX11_next_42 0 rfl ?_
  refine k_iconst (v := -1) X dX11_next_43 (by decide) ?_
  refine k_ic_ne 60 X dX11_next_44 (by decide) (fun h_2 => absurd h_2 (by decide)) (fun _ => ?_)
  refine k_aload_n X dX11_next_47 2 rfl ?_
  refine k_iconst (v := 0) X dX11_next_48 (by decide) ?_
  refine k_put (ci := 11) [(h0, .inr (11, [v0h0, v1h0, v2h0, .int 0, .int 0, .int 0, .int 0, .int 0, .int 0, v9h0, v10h0, v11h0, v12h0, v13h0, v14h0, v15h0, v16h0, v17h0, v18h0, v19h0, v20h0, v21h0, v22h0, v23h0, v24h0, v25h0, v26h0, v27h0, v28h0, v29h0, v30h0, v31h0, v32h0, v33h0, v34h0, v35h0, v36h0, v37h0, v38h0, v39h0, v40h0, v41h0, v42h0]))] X inlX11 rfl tyX11_ok nmX11 6 (by decide) rfl dX11_next_49 mw331 0 rfl rfl rfl (Nat.le_of_ble_eq_true rfl) rfl ?_
  refine k_aload_n X dX11_next_52 2 rfl ?_
  refine k_iload_n X dX11_next_53 1 rfl ?_
  refine k_put (ci := 11) [(h0, .inr (11, [v0h0, v1h0, v2h0, .int 0, .int 0, .int 0, .int 0, .int 0, .int 0, v9h0, v10h0, v11h0, v12h0, v13h0, v14h0, v15h0, v16h0, v17h0, v18h0, v19h0, v20h0, v21h0, v22h0, v23h0, v24h0, v25h0, v26h0, v27h0, v28h0, v29h0, v30h0, v31h0, v32h0, v33h0, v34h0, v35h0, v36h0, v37h0, v38h0, v39h0, v40h0, v41h0, v42h0]))] X inlX11 rfl tyX11_ok nmX11 5 (by decide) rfl dX11_next_54 mw337 0 rfl rfl rfl (Nat.le_of_ble_eq_true rfl) rfl ?_
  refine k_goto 247 X dX11_next_57 (by decide) ?_
  exact k_vret X hr dX11_next_247 (Nat.le_of_ble_eq_true rfl) (Nat.le_of_ble_eq_true rfl) [0] (by decide) rfl rfl rfl

theorem dX11_readLine_0 : decode cX11_readLine 0 = .ok (.aload_n 0, 1) := by decide +kernel
theorem dX11_readLine_1 : decode cX11_readLine 1 = .ok (.ldc 152, 2) := by decide +kernel
theorem dX11_readLine_3 : decode cX11_readLine 3 = .ok (.invokevirtual 138, 3) := by decide +kernel
theorem dX11_readLine_6 : decode cX11_readLine 6 = .ok (.ifCond .eq 10, 3) := by decide +kernel
theorem dX11_readLine_16 : decode cX11_readLine 16 = .ok (.aload_n 0, 1) := by decide +kernel
theorem dX11_readLine_17 : decode cX11_readLine 17 = .ok (.ldc 154, 2) := by decide +kernel
theorem dX11_readLine_19 : decode cX11_readLine 19 = .ok (.aload_n 0, 1) := by decide +kernel
theorem dX11_readLine_20 : decode cX11_readLine 20 = .ok (.getfield 23, 3) := by decide +kernel
theorem dX11_readLine_23 : decode cX11_readLine 23 = .ok (.bipush 6, 2) := by decide +kernel
theorem dX11_readLine_25 : decode cX11_readLine 25 = .ok (.iaload, 1) := by decide +kernel
theorem dX11_readLine_26 : decode cX11_readLine 26 = .ok (.bipush 8, 2) := by decide +kernel
theorem dX11_readLine_28 : decode cX11_readLine 28 = .ok (.if_icmp .ge 7, 3) := by decide +kernel
theorem dX11_readLine_31 : decode cX11_readLine 31 = .ok (.iconst 1, 1) := by decide +kernel
theorem dX11_readLine_32 : decode cX11_readLine 32 = .ok (.goto 4, 3) := by decide +kernel
theorem dX11_readLine_36 : decode cX11_readLine 36 = .ok (.invokevirtual 225, 3) := by decide +kernel
theorem dX11_readLine_39 : decode cX11_readLine 39 = .ok (.ifCond .eq 10, 3) := by decide +kernel
theorem dX11_readLine_49 : decode cX11_readLine 49 = .ok (.aload_n 0, 1) := by decide +kernel
theorem dX11_readLine_50 : decode cX11_readLine 50 = .ok (.ldc 156, 2) := by decide +kernel
theorem dX11_readLine_52 : decode cX11_readLine 52 = .ok (.aload_n 0, 1) := by decide +kernel
theorem dX11_readLine_53 : decode cX11_readLine 53 = .ok (.getfield 23, 3) := by decide +kernel
theorem dX11_readLine_56 : decode cX11_readLine 56 = .ok (.bipush 7, 2) := by decide +kernel
theorem dX11_readLine_58 : decode cX11_readLine 58 = .ok (.iaload, 1) := by decide +kernel
theorem dX11_readLine_59 : decode cX11_readLine 59 = .ok (.iconst 4, 1) := by decide +kernel
theorem dX11_readLine_60 : decode cX11_readLine 60 = .ok (.if_icmp .ge 7, 3) := by decide +kernel
theorem dX11_readLine_63 : decode cX11_readLine 63 = .ok (.iconst 1, 1) := by decide +kernel
theorem dX11_readLine_64 : decode cX11_readLine 64 = .ok (.goto 4, 3) := by decide +kernel
theorem dX11_readLine_68 : decode cX11_readLine 68 = .ok (.invokevirtual 225, 3) := by decide +kernel
theorem dX11_readLine_71 : decode cX11_readLine 71 = .ok (.ifCond .eq 10, 3) := by decide +kernel
theorem dX11_readLine_81 : decode cX11_readLine 81 = .ok (.aload_n 0, 1) := by decide +kernel
theorem dX11_readLine_82 : decode cX11_readLine 82 = .ok (.ldc 158, 2) := by decide +kernel
theorem dX11_readLine_84 : decode cX11_readLine 84 = .ok (.aload_n 0, 1) := by decide +kernel
theorem dX11_readLine_85 : decode cX11_readLine 85 = .ok (.getfield 23, 3) := by decide +kernel
theorem dX11_readLine_88 : decode cX11_readLine 88 = .ok (.bipush 8, 2) := by decide +kernel
theorem dX11_readLine_90 : decode cX11_readLine 90 = .ok (.iaload, 1) := by decide +kernel
theorem dX11_readLine_91 : decode cX11_readLine 91 = .ok (.bipush 12, 2) := by decide +kernel
theorem dX11_readLine_93 : decode cX11_readLine 93 = .ok (.if_icmp .ge 7, 3) := by decide +kernel
theorem dX11_readLine_96 : decode cX11_readLine 96 = .ok (.iconst 1, 1) := by decide +kernel
theorem dX11_readLine_97 : decode cX11_readLine 97 = .ok (.goto 4, 3) := by decide +kernel
theorem dX11_readLine_101 : decode cX11_readLine 101 = .ok (.invokevirtual 225, 3) := by decide +kernel
theorem dX11_readLine_104 : decode cX11_readLine 104 = .ok (.ifCond .eq 10, 3) := by decide +kernel
theorem dX11_readLine_114 : decode cX11_readLine 114 = .ok (.aload_n 0, 1) := by decide +kernel
theorem dX11_readLine_115 : decode cX11_readLine 115 = .ok (.ldc 160, 2) := by decide +kernel
theorem dX11_readLine_117 : decode cX11_readLine 117 = .ok (.aload_n 0, 1) := by decide +kernel
theorem dX11_readLine_118 : decode cX11_readLine 118 = .ok (.getfield 23, 3) := by decide +kernel
theorem dX11_readLine_121 : decode cX11_readLine 121 = .ok (.bipush 9, 2) := by decide +kernel
theorem dX11_readLine_123 : decode cX11_readLine 123 = .ok (.iaload, 1) := by decide +kernel
theorem dX11_readLine_124 : decode cX11_readLine 124 = .ok (.bipush 8, 2) := by decide +kernel
theorem dX11_readLine_126 : decode cX11_readLine 126 = .ok (.if_icmp .ge 7, 3) := by decide +kernel
theorem dX11_readLine_129 : decode cX11_readLine 129 = .ok (.iconst 1, 1) := by decide +kernel
theorem dX11_readLine_130 : decode cX11_readLine 130 = .ok (.goto 4, 3) := by decide +kernel
theorem dX11_readLine_134 : decode cX11_readLine 134 = .ok (.invokevirtual 225, 3) := by decide +kernel
theorem dX11_readLine_137 : decode cX11_readLine 137 = .ok (.ifCond .eq 10, 3) := by decide +kernel
theorem dX11_readLine_147 : decode cX11_readLine 147 = .ok (.aload_n 0, 1) := by decide +kernel
theorem dX11_readLine_148 : decode cX11_readLine 148 = .ok (.ldc 162, 2) := by decide +kernel
theorem dX11_readLine_150 : decode cX11_readLine 150 = .ok (.aload_n 0, 1) := by decide +kernel
theorem dX11_readLine_151 : decode cX11_readLine 151 = .ok (.getfield 23, 3) := by decide +kernel
theorem dX11_readLine_154 : decode cX11_readLine 154 = .ok (.bipush 10, 2) := by decide +kernel
theorem dX11_readLine_156 : decode cX11_readLine 156 = .ok (.iaload, 1) := by decide +kernel
theorem dX11_readLine_157 : decode cX11_readLine 157 = .ok (.bipush 6, 2) := by decide +kernel
theorem dX11_readLine_159 : decode cX11_readLine 159 = .ok (.if_icmp .ge 7, 3) := by decide +kernel
theorem dX11_readLine_162 : decode cX11_readLine 162 = .ok (.iconst 1, 1) := by decide +kernel
theorem dX11_readLine_163 : decode cX11_readLine 163 = .ok (.goto 4, 3) := by decide +kernel
theorem dX11_readLine_167 : decode cX11_readLine 167 = .ok (.invokevirtual 225, 3) := by decide +kernel
theorem dX11_readLine_170 : decode cX11_readLine 170 = .ok (.ifCond .eq 10, 3) := by decide +kernel
theorem dX11_readLine_180 : decode cX11_readLine 180 = .ok (.aload_n 0, 1) := by decide +kernel
theorem dX11_readLine_181 : decode cX11_readLine 181 = .ok (.ldc 164, 2) := by decide +kernel
theorem dX11_readLine_183 : decode cX11_readLine 183 = .ok (.aload_n 0, 1) := by decide +kernel
theorem dX11_readLine_184 : decode cX11_readLine 184 = .ok (.getfield 23, 3) := by decide +kernel
theorem dX11_readLine_187 : decode cX11_readLine 187 = .ok (.bipush 11, 2) := by decide +kernel
theorem dX11_readLine_189 : decode cX11_readLine 189 = .ok (.iaload, 1) := by decide +kernel
theorem dX11_readLine_190 : decode cX11_readLine 190 = .ok (.iconst 4, 1) := by decide +kernel
theorem dX11_readLine_191 : decode cX11_readLine 191 = .ok (.if_icmp .ge 7, 3) := by decide +kernel
theorem dX11_readLine_194 : decode cX11_readLine 194 = .ok (.iconst 1, 1) := by decide +kernel
theorem dX11_readLine_195 : decode cX11_readLine 195 = .ok (.goto 4, 3) := by decide +kernel
theorem dX11_readLine_199 : decode cX11_readLine 199 = .ok (.invokevirtual 225, 3) := by decide +kernel
theorem dX11_readLine_202 : decode cX11_readLine 202 = .ok (.ifCond .eq 10, 3) := by decide +kernel
theorem dX11_readLine_212 : decode cX11_readLine 212 = .ok (.aload_n 0, 1) := by decide +kernel
theorem dX11_readLine_213 : decode cX11_readLine 213 = .ok (.ldc 166, 2) := by decide +kernel
theorem dX11_readLine_215 : decode cX11_readLine 215 = .ok (.aload_n 0, 1) := by decide +kernel
theorem dX11_readLine_216 : decode cX11_readLine 216 = .ok (.getfield 23, 3) := by decide +kernel
theorem dX11_readLine_219 : decode cX11_readLine 219 = .ok (.bipush 12, 2) := by decide +kernel
theorem dX11_readLine_221 : decode cX11_readLine 221 = .ok (.iaload, 1) := by decide +kernel
theorem dX11_readLine_222 : decode cX11_readLine 222 = .ok (.ifCond .le 7, 3) := by decide +kernel
theorem dX11_readLine_229 : decode cX11_readLine 229 = .ok (.iconst 0, 1) := by decide +kernel
theorem dX11_readLine_230 : decode cX11_readLine 230 = .ok (.invokevirtual 247, 3) := by decide +kernel
theorem dX11_readLine_233 : decode cX11_readLine 233 = .ok (.ifCond .eq 10, 3) := by decide +kernel
theorem dX11_readLine_243 : decode cX11_readLine 243 = .ok (.aload_n 0, 1) := by decide +kernel
theorem dX11_readLine_244 : decode cX11_readLine 244 = .ok (.ldc 168, 2) := by decide +kernel
theorem dX11_readLine_246 : decode cX11_readLine 246 = .ok (.aload_n 0, 1) := by decide +kernel
theorem dX11_readLine_247 : decode cX11_readLine 247 = .ok (.getfield 23, 3) := by decide +kernel
theorem dX11_readLine_250 : decode cX11_readLine 250 = .ok (.sipush 134, 3) := by decide +kernel
theorem dX11_readLine_253 : decode cX11_readLine 253 = .ok (.iaload, 1) := by decide +kernel
theorem dX11_readLine_254 : decode cX11_readLine 254 = .ok (.ifCond .le 7, 3) := by decide +kernel
theorem dX11_readLine_261 : decode cX11_readLine 261 = .ok (.iconst 0, 1) := by decide +kernel
theorem dX11_readLine_262 : decode cX11_readLine 262 = .ok (.invokevirtual 247, 3) := by decide +kernel
theorem dX11_readLine_265 : decode cX11_readLine 265 = .ok (.ifCond .eq 10, 3) := by decide +kernel
theorem dX11_readLine_275 : decode cX11_readLine 275 = .ok (.aload_n 0, 1) := by decide +kernel
theorem dX11_readLine_276 : decode cX11_readLine 276 = .ok (.ldc 172, 2) := by decide +kernel
theorem dX11_readLine_278 : decode cX11_readLine 278 = .ok (.invokevirtual 138, 3) := by decide +kernel
theorem dX11_readLine_281 : decode cX11_readLine 281 = .ok (.ifCond .eq 10, 3) := by decide +kernel
theorem dX11_readLine_291 : decode cX11_readLine 291 = .ok (.aload_n 0, 1) := by decide +kernel
theorem dX11_readLine_292 : decode cX11_readLine 292 = .ok (.ldc 174, 2) := by decide +kernel
theorem dX11_readLine_294 : decode cX11_readLine 294 = .ok (.aload_n 0, 1) := by decide +kernel
theorem dX11_readLine_295 : decode cX11_readLine 295 = .ok (.getfield 23, 3) := by decide +kernel
theorem dX11_readLine_298 : decode cX11_readLine 298 = .ok (.bipush 14, 2) := by decide +kernel
theorem dX11_readLine_300 : decode cX11_readLine 300 = .ok (.iaload, 1) := by decide +kernel
theorem dX11_readLine_301 : decode cX11_readLine 301 = .ok (.bipush 6, 2) := by decide +kernel
theorem dX11_readLine_303 : decode cX11_readLine 303 = .ok (.if_icmp .ge 7, 3) := by decide +kernel
theorem dX11_readLine_306 : decode cX11_readLine 306 = .ok (.iconst 1, 1) := by decide +kernel
theorem dX11_readLine_307 : decode cX11_readLine 307 = .ok (.goto 4, 3) := by decide +kernel
theorem dX11_readLine_311 : decode cX11_readLine 311 = .ok (.invokevirtual 225, 3) := by decide +kernel
theorem dX11_readLine_314 : decode cX11_readLine 314 = .ok (.ifCond .eq 10, 3) := by decide +kernel
theorem dX11_readLine_324 : decode cX11_readLine 324 = .ok (.aload_n 0, 1) := by decide +kernel
theorem dX11_readLine_325 : decode cX11_readLine 325 = .ok (.iconst 1, 1) := by decide +kernel
theorem dX11_readLine_326 : decode cX11_readLine 326 = .ok (.aload_n 0, 1) := by decide +kernel
theorem dX11_readLine_327 : decode cX11_readLine 327 = .ok (.getfield 102, 3) := by decide +kernel
theorem dX11_readLine_330 : decode cX11_readLine 330 = .ok (.invokevirtual 148, 3) := by decide +kernel
theorem dX11_readLine_333 : decode cX11_readLine 333 = .ok (.return_, 1) := by decide +kernel
set_option maxHeartbeats 4000000 in
set_option maxRecDepth 100000 in
theorem r_readLine (l : Launch) (g : Gx) (h0 : Nat) (v0h0 : Value) (v1h0 : Value) (v2h0 : Value) (v3h0 : Value) (v5h0 : Value) (v7h0 : Value) (v8h0 : Value) (v9h0 : Value) (v10h0 : Value) (v11h0 : Value) (v12h0 : Value) (v14h0 : Value) (v15h0 : Value) (mf : Nat) (v17h0 : Value) (v18h0 : Value) (v19h0 : Value) (v20h0 : Value) (v21h0 : Value) (v22h0 : Value) (v23h0 : Value) (v24h0 : Value) (v25h0 : Value) (v26h0 : Value) (v27h0 : Value) (v28h0 : Value) (v29h0 : Value) (v30h0 : Value) (v31h0 : Value) (v32h0 : Value) (v33h0 : Value) (v34h0 : Value) (v35h0 : Value) (v36h0 : Value) (v37h0 : Value) (v38h0 : Value) (v39h0 : Value) (v40h0 : Value) (v41h0 : Value) (v42h0 : Value) : cV l g yX11_readLine cX11_readLine 1 2 45 0 0 [.ref h0] [(h0, .inr (11, [v0h0, v1h0, v2h0, v3h0, .int 0, v5h0, .int 0, v7h0, v8h0, v9h0, v10h0, v11h0, v12h0, .int 0, v14h0, v15h0, .ref mf, v17h0, v18h0, v19h0, v20h0, v21h0, v22h0, v23h0, v24h0, v25h0, v26h0, v27h0, v28h0, v29h0, v30h0, v31h0, v32h0, v33h0, v34h0, v35h0, v36h0, v37h0, v38h0, v39h0, v40h0, v41h0, v42h0])), (mf, .inl (g.2.2.1, 311, .inl (fun _ => 0)))] (fun w => w = [(h0, .inr (11, [v0h0, v1h0, v2h0, v3h0, .int 0, v5h0, .int 0, v7h0, v8h0, .int 1, .int 0, v11h0, v12h0, .int 1, v14h0, v15h0, .ref mf, v17h0, v18h0, v19h0, v20h0, v21h0, v22h0, v23h0, v24h0, v25h0, v26h0, v27h0, v28h0, v29h0, v30h0, v31h0, v32h0, v33h0, v34h0, v35h0, v36h0, v37h0, v38h0, v39h0, v40h0, v41h0, v42h0])), (mf, .inl (g.2.2.1, 311, .inl (fun _ => 0)))]) := by
  refine cV.of (by decide) (Nat.le_of_ble_eq_true rfl) ?_
  intro p e s m args below meth c A X hr hi
  refine k_lveq [(0, .ref h0)] rfl ?_
  refine k_aload_n X dX11_readLine_0 0 rfl ?_
  refine k_ldcS (tx := "house") X dX11_readLine_1 (by decide +kernel) (fun sr_1 => ?_)
  refine k_callVI (n := 1) (As := [.ref sr_1]) (st := []) X [(h0, .inr (11, [v0h0, v1h0, v2h0, v3h0, .int 0, v5h0, .int 0, v7h0, v8h0, v9h0, v10h0, v11h0, v12h0, .int 0, v14h0, v15h0, .ref mf, v17h0, v18h0, v19h0, v20h0, v21h0, v22h0, v23h0, v24h0, v25h0, v26h0, v27h0, v28h0, v29h0, v30h0, v31h0, v32h0, v33h0, v34h0, v35h0, v36h0, v37h0, v38h0, v39h0, v40h0, v41h0, v42h0]))] [(mf, .inl (g.2.2.1, 311, .inl (fun _ => 0)))] [0] [1] (r_isWord l g h0 sr_1 v0h0 v1h0 v2h0 v3h0 (.int 0) v5h0 v7h0 v8h0 v9h0 v10h0 v11h0 v12h0 v14h0 v15h0 (.ref mf) v17h0 v18h0 v19h0 v20h0 v21h0 v22h0 v23h0 v24h0 v25h0 v26h0 v27h0 v28h0 v29h0 v30h0 v31h0 v32h0 v33h0 v34h0 v35h0 v36h0 v37h0 v38h0 v39h0 v40h0 v41h0 v42h0) dX11_readLine_3 mw332 mw333 mw334 mw285 mw335 rfl 11 rfl rfl 0 _ rfl (by unfold yOk; decide) rfl (Nat.le_of_ble_eq_true rfl) (Nat.le_of_ble_eq_true rfl) (Nat.le_of_ble_eq_true rfl) (Nat.le_of_ble_eq_true rfl) (Nat.le_of_ble_eq_true rfl) rfl rfl (by decide) rfl (by decide) (by decide) ?_
  rintro r w ⟨rfl, rfl⟩
  refine k_ws [(mf, .inl (g.2.2.1, 311, .inl (fun _ => 0))), (h0, .inr (11, [v0h0, v1h0, v2h0, v3h0, .int 0, v5h0, .int 0, v7h0, v8h0, v9h0, v10h0, v11h0, v12h0, .int 0, v14h0, v15h0, .ref mf, v17h0, v18h0, v19h0, v20h0, v21h0, v22h0, v23h0, v24h0, v25h0, v26h0, v27h0, v28h0, v29h0, v30h0, v31h0, v32h0, v33h0, v34h0, v35h0, v36h0, v37h0, v38h0, v39h0, v40h0, v41h0, v42h0]))] rfl ?_
  refine k_if_eq 16 X dX11_readLine_6 (by decide) (fun _ => ?_) (fun h_2 => absurd (by decide) h_2)
  refine k_aload_n X dX11_readLine_16 0 rfl ?_
  refine k_ldcS (tx := "reel") X dX11_readLine_17 (by decide +kernel) (fun sr_3 => ?_)
  refine k_aload_n X dX11_readLine_19 0 rfl ?_
  refine k_get (ci := 11) X inlX11 rfl 16 (by decide) dX11_readLine_20 mw259 1 rfl rfl ?_
  refine k_bipush (v := 6) X dX11_readLine_23 (by decide) ?_
  refine k_iald X dX11_readLine_25 0 rfl (by unfold vp_in; decide) ?_
  refine k_to 0 rfl ?_
  refine k_bipush (v := 8) X dX11_readLine_26 (by decide) ?_
  refine k_ic_ge 35 X dX11_readLine_28 (by decide) (fun h_4 => absurd h_4 (by decide)) (fun _ => ?_)
  refine k_iconst (v := 1) X dX11_readLine_31 (by decide) ?_
  refine k_goto 36 X dX11_readLine_32 (by decide) ?_
  refine k_callVI (n := 2) (As := [.ref sr_3, .int 1]) (st := []) X [(h0, .inr (11, [v0h0, v1h0, v2h0, v3h0, .int 0, v5h0, .int 0, v7h0, v8h0, v9h0, v10h0, v11h0, v12h0, .int 0, v14h0, v15h0, .ref mf, v17h0, v18h0, v19h0, v20h0, v21h0, v22h0, v23h0, v24h0, v25h0, v26h0, v27h0, v28h0, v29h0, v30h0, v31h0, v32h0, v33h0, v34h0, v35h0, v36h0, v37h0, v38h0, v39h0, v40h0, v41h0, v42h0]))] [(mf, .inl (g.2.2.1, 311, .inl (fun _ => 0)))] [1] [0] (r_opens l g h0 sr_3 1 v0h0 v1h0 v2h0 v3h0 (.int 0) v5h0 v7h0 v8h0 v9h0 v10h0 v11h0 v12h0 v14h0 v15h0 (.ref mf) v17h0 v18h0 v19h0 v20h0 v21h0 v22h0 v23h0 v24h0 v25h0 v26h0 v27h0 v28h0 v29h0 v30h0 v31h0 v32h0 v33h0 v34h0 v35h0 v36h0 v37h0 v38h0 v39h0 v40h0 v41h0 v42h0) dX11_readLine_36 mw345 mw346 mw347 mw285 mw348 rfl 11 rfl rfl 0 _ rfl (by unfold yOk; decide) rfl (Nat.le_of_ble_eq_true rfl) (Nat.le_of_ble_eq_true rfl) (Nat.le_of_ble_eq_true rfl) (Nat.le_of_ble_eq_true rfl) (Nat.le_of_ble_eq_true rfl) rfl rfl (by decide) rfl (by decide) (by decide) ?_
  rintro r w ⟨rfl, rfl⟩
  refine k_ws [(mf, .inl (g.2.2.1, 311, .inl (fun _ => 0))), (h0, .inr (11, [v0h0, v1h0, v2h0, v3h0, .int 0, v5h0, .int 0, v7h0, v8h0, v9h0, v10h0, v11h0, v12h0, .int 0, v14h0, v15h0, .ref mf, v17h0, v18h0, v19h0, v20h0, v21h0, v22h0, v23h0, v24h0, v25h0, v26h0, v27h0, v28h0, v29h0, v30h0, v31h0, v32h0, v33h0, v34h0, v35h0, v36h0, v37h0, v38h0, v39h0, v40h0, v41h0, v42h0]))] rfl ?_
  refine k_if_eq 49 X dX11_readLine_39 (by decide) (fun _ => ?_) (fun h_5 => absurd (by decide) h_5)
  refine k_aload_n X dX11_readLine_49 0 rfl ?_
  refine k_ldcS (tx := "town") X dX11_readLine_50 (by decide +kernel) (fun sr_6 => ?_)
  refine k_aload_n X dX11_readLine_52 0 rfl ?_
  refine k_get (ci := 11) X inlX11 rfl 16 (by decide) dX11_readLine_53 mw259 1 rfl rfl ?_
  refine k_bipush (v := 7) X dX11_readLine_56 (by decide) ?_
  refine k_iald X dX11_readLine_58 0 rfl (by unfold vp_in; decide) ?_
  refine k_to 0 rfl ?_
  refine k_iconst (v := 4) X dX11_readLine_59 (by decide) ?_
  refine k_ic_ge 67 X dX11_readLine_60 (by decide) (fun h_7 => absurd h_7 (by decide)) (fun _ => ?_)
  refine k_iconst (v := 1) X dX11_readLine_63 (by decide) ?_
  refine k_goto 68 X dX11_readLine_64 (by decide) ?_
  refine k_callVI (n := 2) (As := [.ref sr_6, .int 1]) (st := []) X [(h0, .inr (11, [v0h0, v1h0, v2h0, v3h0, .int 0, v5h0, .int 0, v7h0, v8h0, v9h0, v10h0, v11h0, v12h0, .int 0, v14h0, v15h0, .ref mf, v17h0, v18h0, v19h0, v20h0, v21h0, v22h0, v23h0, v24h0, v25h0, v26h0, v27h0, v28h0, v29h0, v30h0, v31h0, v32h0, v33h0, v34h0, v35h0, v36h0, v37h0, v38h0, v39h0, v40h0, v41h0, v42h0]))] [(mf, .inl (g.2.2.1, 311, .inl (fun _ => 0)))] [1] [0] (r_opens l g h0 sr_6 1 v0h0 v1h0 v2h0 v3h0 (.int 0) v5h0 v7h0 v8h0 v9h0 v10h0 v11h0 v12h0 v14h0 v15h0 (.ref mf) v17h0 v18h0 v19h0 v20h0 v21h0 v22h0 v23h0 v24h0 v25h0 v26h0 v27h0 v28h0 v29h0 v30h0 v31h0 v32h0 v33h0 v34h0 v35h0 v36h0 v37h0 v38h0 v39h0 v40h0 v41h0 v42h0) dX11_readLine_68 mw345 mw346 mw347 mw285 mw348 rfl 11 rfl rfl 0 _ rfl (by unfold yOk; decide) rfl (Nat.le_of_ble_eq_true rfl) (Nat.le_of_ble_eq_true rfl) (Nat.le_of_ble_eq_true rfl) (Nat.le_of_ble_eq_true rfl) (Nat.le_of_ble_eq_true rfl) rfl rfl (by decide) rfl (by decide) (by decide) ?_
  rintro r w ⟨rfl, rfl⟩
  refine k_ws [(mf, .inl (g.2.2.1, 311, .inl (fun _ => 0))), (h0, .inr (11, [v0h0, v1h0, v2h0, v3h0, .int 0, v5h0, .int 0, v7h0, v8h0, v9h0, v10h0, v11h0, v12h0, .int 0, v14h0, v15h0, .ref mf, v17h0, v18h0, v19h0, v20h0, v21h0, v22h0, v23h0, v24h0, v25h0, v26h0, v27h0, v28h0, v29h0, v30h0, v31h0, v32h0, v33h0, v34h0, v35h0, v36h0, v37h0, v38h0, v39h0, v40h0, v41h0, v42h0]))] rfl ?_
  refine k_if_eq 81 X dX11_readLine_71 (by decide) (fun _ => ?_) (fun h_8 => absurd (by decide) h_8)
  refine k_aload_n X dX11_readLine_81 0 rfl ?_
  refine k_ldcS (tx := "mark") X dX11_readLine_82 (by decide +kernel) (fun sr_9 => ?_)
  refine k_aload_n X dX11_readLine_84 0 rfl ?_
  refine k_get (ci := 11) X inlX11 rfl 16 (by decide) dX11_readLine_85 mw259 1 rfl rfl ?_
  refine k_bipush (v := 8) X dX11_readLine_88 (by decide) ?_
  refine k_iald X dX11_readLine_90 0 rfl (by unfold vp_in; decide) ?_
  refine k_to 0 rfl ?_
  refine k_bipush (v := 12) X dX11_readLine_91 (by decide) ?_
  refine k_ic_ge 100 X dX11_readLine_93 (by decide) (fun h_10 => absurd h_10 (by decide)) (fun _ => ?_)
  refine k_iconst (v := 1) X dX11_readLine_96 (by decide) ?_
  refine k_goto 101 X dX11_readLine_97 (by decide) ?_
  refine k_callVI (n := 2) (As := [.ref sr_9, .int 1]) (st := []) X [(h0, .inr (11, [v0h0, v1h0, v2h0, v3h0, .int 0, v5h0, .int 0, v7h0, v8h0, v9h0, v10h0, v11h0, v12h0, .int 0, v14h0, v15h0, .ref mf, v17h0, v18h0, v19h0, v20h0, v21h0, v22h0, v23h0, v24h0, v25h0, v26h0, v27h0, v28h0, v29h0, v30h0, v31h0, v32h0, v33h0, v34h0, v35h0, v36h0, v37h0, v38h0, v39h0, v40h0, v41h0, v42h0]))] [(mf, .inl (g.2.2.1, 311, .inl (fun _ => 0)))] [1] [0] (r_opens l g h0 sr_9 1 v0h0 v1h0 v2h0 v3h0 (.int 0) v5h0 v7h0 v8h0 v9h0 v10h0 v11h0 v12h0 v14h0 v15h0 (.ref mf) v17h0 v18h0 v19h0 v20h0 v21h0 v22h0 v23h0 v24h0 v25h0 v26h0 v27h0 v28h0 v29h0 v30h0 v31h0 v32h0 v33h0 v34h0 v35h0 v36h0 v37h0 v38h0 v39h0 v40h0 v41h0 v42h0) dX11_readLine_101 mw345 mw346 mw347 mw285 mw348 rfl 11 rfl rfl 0 _ rfl (by unfold yOk; decide) rfl (Nat.le_of_ble_eq_true rfl) (Nat.le_of_ble_eq_true rfl) (Nat.le_of_ble_eq_true rfl) (Nat.le_of_ble_eq_true rfl) (Nat.le_of_ble_eq_true rfl) rfl rfl (by decide) rfl (by decide) (by decide) ?_
  rintro r w ⟨rfl, rfl⟩
  refine k_ws [(mf, .inl (g.2.2.1, 311, .inl (fun _ => 0))), (h0, .inr (11, [v0h0, v1h0, v2h0, v3h0, .int 0, v5h0, .int 0, v7h0, v8h0, v9h0, v10h0, v11h0, v12h0, .int 0, v14h0, v15h0, .ref mf, v17h0, v18h0, v19h0, v20h0, v21h0, v22h0, v23h0, v24h0, v25h0, v26h0, v27h0, v28h0, v29h0, v30h0, v31h0, v32h0, v33h0, v34h0, v35h0, v36h0, v37h0, v38h0, v39h0, v40h0, v41h0, v42h0]))] rfl ?_
  refine k_if_eq 114 X dX11_readLine_104 (by decide) (fun _ => ?_) (fun h_11 => absurd (by decide) h_11)
  refine k_aload_n X dX11_readLine_114 0 rfl ?_
  refine k_ldcS (tx := "join") X dX11_readLine_115 (by decide +kernel) (fun sr_12 => ?_)
  refine k_aload_n X dX11_readLine_117 0 rfl ?_
  refine k_get (ci := 11) X inlX11 rfl 16 (by decide) dX11_readLine_118 mw259 1 rfl rfl ?_
  refine k_bipush (v := 9) X dX11_readLine_121 (by decide) ?_
  refine k_iald X dX11_readLine_123 0 rfl (by unfold vp_in; decide) ?_
  refine k_to 0 rfl ?_
  refine k_bipush (v := 8) X dX11_readLine_124 (by decide) ?_
  refine k_ic_ge 133 X dX11_readLine_126 (by decide) (fun h_13 => absurd h_13 (by decide)) (fun _ => ?_)
  refine k_iconst (v := 1) X dX11_readLine_129 (by decide) ?_
  refine k_goto 134 X dX11_readLine_130 (by decide) ?_
  refine k_callVI (n := 2) (As := [.ref sr_12, .int 1]) (st := []) X [(h0, .inr (11, [v0h0, v1h0, v2h0, v3h0, .int 0, v5h0, .int 0, v7h0, v8h0, v9h0, v10h0, v11h0, v12h0, .int 0, v14h0, v15h0, .ref mf, v17h0, v18h0, v19h0, v20h0, v21h0, v22h0, v23h0, v24h0, v25h0, v26h0, v27h0, v28h0, v29h0, v30h0, v31h0, v32h0, v33h0, v34h0, v35h0, v36h0, v37h0, v38h0, v39h0, v40h0, v41h0, v42h0]))] [(mf, .inl (g.2.2.1, 311, .inl (fun _ => 0)))] [1] [0] (r_opens l g h0 sr_12 1 v0h0 v1h0 v2h0 v3h0 (.int 0) v5h0 v7h0 v8h0 v9h0 v10h0 v11h0 v12h0 v14h0 v15h0 (.ref mf) v17h0 v18h0 v19h0 v20h0 v21h0 v22h0 v23h0 v24h0 v25h0 v26h0 v27h0 v28h0 v29h0 v30h0 v31h0 v32h0 v33h0 v34h0 v35h0 v36h0 v37h0 v38h0 v39h0 v40h0 v41h0 v42h0) dX11_readLine_134 mw345 mw346 mw347 mw285 mw348 rfl 11 rfl rfl 0 _ rfl (by unfold yOk; decide) rfl (Nat.le_of_ble_eq_true rfl) (Nat.le_of_ble_eq_true rfl) (Nat.le_of_ble_eq_true rfl) (Nat.le_of_ble_eq_true rfl) (Nat.le_of_ble_eq_true rfl) rfl rfl (by decide) rfl (by decide) (by decide) ?_
  rintro r w ⟨rfl, rfl⟩
  refine k_ws [(mf, .inl (g.2.2.1, 311, .inl (fun _ => 0))), (h0, .inr (11, [v0h0, v1h0, v2h0, v3h0, .int 0, v5h0, .int 0, v7h0, v8h0, v9h0, v10h0, v11h0, v12h0, .int 0, v14h0, v15h0, .ref mf, v17h0, v18h0, v19h0, v20h0, v21h0, v22h0, v23h0, v24h0, v25h0, v26h0, v27h0, v28h0, v29h0, v30h0, v31h0, v32h0, v33h0, v34h0, v35h0, v36h0, v37h0, v38h0, v39h0, v40h0, v41h0, v42h0]))] rfl ?_
  refine k_if_eq 147 X dX11_readLine_137 (by decide) (fun _ => ?_) (fun h_14 => absurd (by decide) h_14)
  refine k_aload_n X dX11_readLine_147 0 rfl ?_
  refine k_ldcS (tx := "weak") X dX11_readLine_148 (by decide +kernel) (fun sr_15 => ?_)
  refine k_aload_n X dX11_readLine_150 0 rfl ?_
  refine k_get (ci := 11) X inlX11 rfl 16 (by decide) dX11_readLine_151 mw259 1 rfl rfl ?_
  refine k_bipush (v := 10) X dX11_readLine_154 (by decide) ?_
  refine k_iald X dX11_readLine_156 0 rfl (by unfold vp_in; decide) ?_
  refine k_to 0 rfl ?_
  refine k_bipush (v := 6) X dX11_readLine_157 (by decide) ?_
  refine k_ic_ge 166 X dX11_readLine_159 (by decide) (fun h_16 => absurd h_16 (by decide)) (fun _ => ?_)
  refine k_iconst (v := 1) X dX11_readLine_162 (by decide) ?_
  refine k_goto 167 X dX11_readLine_163 (by decide) ?_
  refine k_callVI (n := 2) (As := [.ref sr_15, .int 1]) (st := []) X [(h0, .inr (11, [v0h0, v1h0, v2h0, v3h0, .int 0, v5h0, .int 0, v7h0, v8h0, v9h0, v10h0, v11h0, v12h0, .int 0, v14h0, v15h0, .ref mf, v17h0, v18h0, v19h0, v20h0, v21h0, v22h0, v23h0, v24h0, v25h0, v26h0, v27h0, v28h0, v29h0, v30h0, v31h0, v32h0, v33h0, v34h0, v35h0, v36h0, v37h0, v38h0, v39h0, v40h0, v41h0, v42h0]))] [(mf, .inl (g.2.2.1, 311, .inl (fun _ => 0)))] [1] [0] (r_opens l g h0 sr_15 1 v0h0 v1h0 v2h0 v3h0 (.int 0) v5h0 v7h0 v8h0 v9h0 v10h0 v11h0 v12h0 v14h0 v15h0 (.ref mf) v17h0 v18h0 v19h0 v20h0 v21h0 v22h0 v23h0 v24h0 v25h0 v26h0 v27h0 v28h0 v29h0 v30h0 v31h0 v32h0 v33h0 v34h0 v35h0 v36h0 v37h0 v38h0 v39h0 v40h0 v41h0 v42h0) dX11_readLine_167 mw345 mw346 mw347 mw285 mw348 rfl 11 rfl rfl 0 _ rfl (by unfold yOk; decide) rfl (Nat.le_of_ble_eq_true rfl) (Nat.le_of_ble_eq_true rfl) (Nat.le_of_ble_eq_true rfl) (Nat.le_of_ble_eq_true rfl) (Nat.le_of_ble_eq_true rfl) rfl rfl (by decide) rfl (by decide) (by decide) ?_
  rintro r w ⟨rfl, rfl⟩
  refine k_ws [(mf, .inl (g.2.2.1, 311, .inl (fun _ => 0))), (h0, .inr (11, [v0h0, v1h0, v2h0, v3h0, .int 0, v5h0, .int 0, v7h0, v8h0, v9h0, v10h0, v11h0, v12h0, .int 0, v14h0, v15h0, .ref mf, v17h0, v18h0, v19h0, v20h0, v21h0, v22h0, v23h0, v24h0, v25h0, v26h0, v27h0, v28h0, v29h0, v30h0, v31h0, v32h0, v33h0, v34h0, v35h0, v36h0, v37h0, v38h0, v39h0, v40h0, v41h0, v42h0]))] rfl ?_
  refine k_if_eq 180 X dX11_readLine_170 (by decide) (fun _ => ?_) (fun h_17 => absurd (by decide) h_17)
  refine k_aload_n X dX11_readLine_180 0 rfl ?_
  refine k_ldcS (tx := "man") X dX11_readLine_181 (by decide +kernel) (fun sr_18 => ?_)
  refine k_aload_n X dX11_readLine_183 0 rfl ?_
  refine k_get (ci := 11) X inlX11 rfl 16 (by decide) dX11_readLine_184 mw259 1 rfl rfl ?_
  refine k_bipush (v := 11) X dX11_readLine_187 (by decide) ?_
  refine k_iald X dX11_readLine_189 0 rfl (by unfold vp_in; decide) ?_
  refine k_to 0 rfl ?_
  refine k_iconst (v := 4) X dX11_readLine_190 (by decide) ?_
  refine k_ic_ge 198 X dX11_readLine_191 (by decide) (fun h_19 => absurd h_19 (by decide)) (fun _ => ?_)
  refine k_iconst (v := 1) X dX11_readLine_194 (by decide) ?_
  refine k_goto 199 X dX11_readLine_195 (by decide) ?_
  refine k_callVI (n := 2) (As := [.ref sr_18, .int 1]) (st := []) X [(h0, .inr (11, [v0h0, v1h0, v2h0, v3h0, .int 0, v5h0, .int 0, v7h0, v8h0, v9h0, v10h0, v11h0, v12h0, .int 0, v14h0, v15h0, .ref mf, v17h0, v18h0, v19h0, v20h0, v21h0, v22h0, v23h0, v24h0, v25h0, v26h0, v27h0, v28h0, v29h0, v30h0, v31h0, v32h0, v33h0, v34h0, v35h0, v36h0, v37h0, v38h0, v39h0, v40h0, v41h0, v42h0]))] [(mf, .inl (g.2.2.1, 311, .inl (fun _ => 0)))] [1] [0] (r_opens l g h0 sr_18 1 v0h0 v1h0 v2h0 v3h0 (.int 0) v5h0 v7h0 v8h0 v9h0 v10h0 v11h0 v12h0 v14h0 v15h0 (.ref mf) v17h0 v18h0 v19h0 v20h0 v21h0 v22h0 v23h0 v24h0 v25h0 v26h0 v27h0 v28h0 v29h0 v30h0 v31h0 v32h0 v33h0 v34h0 v35h0 v36h0 v37h0 v38h0 v39h0 v40h0 v41h0 v42h0) dX11_readLine_199 mw345 mw346 mw347 mw285 mw348 rfl 11 rfl rfl 0 _ rfl (by unfold yOk; decide) rfl (Nat.le_of_ble_eq_true rfl) (Nat.le_of_ble_eq_true rfl) (Nat.le_of_ble_eq_true rfl) (Nat.le_of_ble_eq_true rfl) (Nat.le_of_ble_eq_true rfl) rfl rfl (by decide) rfl (by decide) (by decide) ?_
  rintro r w ⟨rfl, rfl⟩
  refine k_ws [(mf, .inl (g.2.2.1, 311, .inl (fun _ => 0))), (h0, .inr (11, [v0h0, v1h0, v2h0, v3h0, .int 0, v5h0, .int 0, v7h0, v8h0, v9h0, v10h0, v11h0, v12h0, .int 0, v14h0, v15h0, .ref mf, v17h0, v18h0, v19h0, v20h0, v21h0, v22h0, v23h0, v24h0, v25h0, v26h0, v27h0, v28h0, v29h0, v30h0, v31h0, v32h0, v33h0, v34h0, v35h0, v36h0, v37h0, v38h0, v39h0, v40h0, v41h0, v42h0]))] rfl ?_
  refine k_if_eq 212 X dX11_readLine_202 (by decide) (fun _ => ?_) (fun h_20 => absurd (by decide) h_20)
  refine k_aload_n X dX11_readLine_212 0 rfl ?_
  refine k_ldcS (tx := "shows") X dX11_readLine_213 (by decide +kernel) (fun sr_21 => ?_)
  refine k_aload_n X dX11_readLine_215 0 rfl ?_
  refine k_get (ci := 11) X inlX11 rfl 16 (by decide) dX11_readLine_216 mw259 1 rfl rfl ?_
  refine k_bipush (v := 12) X dX11_readLine_219 (by decide) ?_
  refine k_iald X dX11_readLine_221 0 rfl (by unfold vp_in; decide) ?_
  refine k_to 0 rfl ?_
  refine k_if_le 229 X dX11_readLine_222 (by decide) (fun _ => ?_) (fun h_22 => absurd (by decide) h_22)
  refine k_iconst (v := 0) X dX11_readLine_229 (by decide) ?_
  refine k_callVI (n := 2) (As := [.ref sr_21, .int 0]) (st := []) X [(h0, .inr (11, [v0h0, v1h0, v2h0, v3h0, .int 0, v5h0, .int 0, v7h0, v8h0, v9h0, v10h0, v11h0, v12h0, .int 0, v14h0, v15h0, .ref mf, v17h0, v18h0, v19h0, v20h0, v21h0, v22h0, v23h0, v24h0, v25h0, v26h0, v27h0, v28h0, v29h0, v30h0, v31h0, v32h0, v33h0, v34h0, v35h0, v36h0, v37h0, v38h0, v39h0, v40h0, v41h0, v42h0]))] [(mf, .inl (g.2.2.1, 311, .inl (fun _ => 0)))] [1] [0] (r_opensOnce l g h0 sr_21 0 v0h0 v1h0 v2h0 v3h0 (.int 0) v5h0 v7h0 v8h0 v9h0 v10h0 v11h0 v12h0 v14h0 v15h0 (.ref mf) v17h0 v18h0 v19h0 v20h0 v21h0 v22h0 v23h0 v24h0 v25h0 v26h0 v27h0 v28h0 v29h0 v30h0 v31h0 v32h0 v33h0 v34h0 v35h0 v36h0 v37h0 v38h0 v39h0 v40h0 v41h0 v42h0) dX11_readLine_230 mw349 mw350 mw351 mw285 mw352 rfl 11 rfl rfl 0 _ rfl (by unfold yOk; decide) rfl (Nat.le_of_ble_eq_true rfl) (Nat.le_of_ble_eq_true rfl) (Nat.le_of_ble_eq_true rfl) (Nat.le_of_ble_eq_true rfl) (Nat.le_of_ble_eq_true rfl) rfl rfl (by decide) rfl (by decide) (by decide) ?_
  rintro r w ⟨rfl, rfl⟩
  refine k_ws [(mf, .inl (g.2.2.1, 311, .inl (fun _ => 0))), (h0, .inr (11, [v0h0, v1h0, v2h0, v3h0, .int 0, v5h0, .int 0, v7h0, v8h0, v9h0, v10h0, v11h0, v12h0, .int 0, v14h0, v15h0, .ref mf, v17h0, v18h0, v19h0, v20h0, v21h0, v22h0, v23h0, v24h0, v25h0, v26h0, v27h0, v28h0, v29h0, v30h0, v31h0, v32h0, v33h0, v34h0, v35h0, v36h0, v37h0, v38h0, v39h0, v40h0, v41h0, v42h0]))] rfl ?_
  refine k_if_eq 243 X dX11_readLine_233 (by decide) (fun _ => ?_) (fun h_23 => absurd (by decide) h_23)
  refine k_aload_n X dX11_readLine_243 0 rfl ?_
  refine k_ldcS (tx := "boys") X dX11_readLine_244 (by decide +kernel) (fun sr_24 => ?_)
  refine k_aload_n X dX11_readLine_246 0 rfl ?_
  refine k_get (ci := 11) X inlX11 rfl 16 (by decide) dX11_readLine_247 mw259 1 rfl rfl ?_
  refine k_sipush (v := 134) X dX11_readLine_250 (by decide) ?_
  refine k_iald X dX11_readLine_253 0 rfl (by unfold vp_in; decide) ?_
  refine k_to 0 rfl ?_
  refine k_if_le 261 X dX11_readLine_254 (by decide) (fun _ => ?_) (fun h_25 => absurd (by decide) h_25)
  refine k_iconst (v := 0) X dX11_readLine_261 (by decide) ?_
  refine k_callVI (n := 2) (As := [.ref sr_24, .int 0]) (st := []) X [(h0, .inr (11, [v0h0, v1h0, v2h0, v3h0, .int 0, v5h0, .int 0, v7h0, v8h0, v9h0, v10h0, v11h0, v12h0, .int 0, v14h0, v15h0, .ref mf, v17h0, v18h0, v19h0, v20h0, v21h0, v22h0, v23h0, v24h0, v25h0, v26h0, v27h0, v28h0, v29h0, v30h0, v31h0, v32h0, v33h0, v34h0, v35h0, v36h0, v37h0, v38h0, v39h0, v40h0, v41h0, v42h0]))] [(mf, .inl (g.2.2.1, 311, .inl (fun _ => 0)))] [1] [0] (r_opensOnce l g h0 sr_24 0 v0h0 v1h0 v2h0 v3h0 (.int 0) v5h0 v7h0 v8h0 v9h0 v10h0 v11h0 v12h0 v14h0 v15h0 (.ref mf) v17h0 v18h0 v19h0 v20h0 v21h0 v22h0 v23h0 v24h0 v25h0 v26h0 v27h0 v28h0 v29h0 v30h0 v31h0 v32h0 v33h0 v34h0 v35h0 v36h0 v37h0 v38h0 v39h0 v40h0 v41h0 v42h0) dX11_readLine_262 mw349 mw350 mw351 mw285 mw352 rfl 11 rfl rfl 0 _ rfl (by unfold yOk; decide) rfl (Nat.le_of_ble_eq_true rfl) (Nat.le_of_ble_eq_true rfl) (Nat.le_of_ble_eq_true rfl) (Nat.le_of_ble_eq_true rfl) (Nat.le_of_ble_eq_true rfl) rfl rfl (by decide) rfl (by decide) (by decide) ?_
  rintro r w ⟨rfl, rfl⟩
  refine k_ws [(mf, .inl (g.2.2.1, 311, .inl (fun _ => 0))), (h0, .inr (11, [v0h0, v1h0, v2h0, v3h0, .int 0, v5h0, .int 0, v7h0, v8h0, v9h0, v10h0, v11h0, v12h0, .int 0, v14h0, v15h0, .ref mf, v17h0, v18h0, v19h0, v20h0, v21h0, v22h0, v23h0, v24h0, v25h0, v26h0, v27h0, v28h0, v29h0, v30h0, v31h0, v32h0, v33h0, v34h0, v35h0, v36h0, v37h0, v38h0, v39h0, v40h0, v41h0, v42h0]))] rfl ?_
  refine k_if_eq 275 X dX11_readLine_265 (by decide) (fun _ => ?_) (fun h_26 => absurd (by decide) h_26)
  refine k_aload_n X dX11_readLine_275 0 rfl ?_
  refine k_ldcS (tx := "seen") X dX11_readLine_276 (by decide +kernel) (fun sr_27 => ?_)
  refine k_callVI (n := 1) (As := [.ref sr_27]) (st := []) X [(h0, .inr (11, [v0h0, v1h0, v2h0, v3h0, .int 0, v5h0, .int 0, v7h0, v8h0, v9h0, v10h0, v11h0, v12h0, .int 0, v14h0, v15h0, .ref mf, v17h0, v18h0, v19h0, v20h0, v21h0, v22h0, v23h0, v24h0, v25h0, v26h0, v27h0, v28h0, v29h0, v30h0, v31h0, v32h0, v33h0, v34h0, v35h0, v36h0, v37h0, v38h0, v39h0, v40h0, v41h0, v42h0]))] [(mf, .inl (g.2.2.1, 311, .inl (fun _ => 0)))] [1] [0] (r_isWord l g h0 sr_27 v0h0 v1h0 v2h0 v3h0 (.int 0) v5h0 v7h0 v8h0 v9h0 v10h0 v11h0 v12h0 v14h0 v15h0 (.ref mf) v17h0 v18h0 v19h0 v20h0 v21h0 v22h0 v23h0 v24h0 v25h0 v26h0 v27h0 v28h0 v29h0 v30h0 v31h0 v32h0 v33h0 v34h0 v35h0 v36h0 v37h0 v38h0 v39h0 v40h0 v41h0 v42h0) dX11_readLine_278 mw332 mw333 mw334 mw285 mw335 rfl 11 rfl rfl 0 _ rfl (by unfold yOk; decide) rfl (Nat.le_of_ble_eq_true rfl) (Nat.le_of_ble_eq_true rfl) (Nat.le_of_ble_eq_true rfl) (Nat.le_of_ble_eq_true rfl) (Nat.le_of_ble_eq_true rfl) rfl rfl (by decide) rfl (by decide) (by decide) ?_
  rintro r w ⟨rfl, rfl⟩
  refine k_ws [(mf, .inl (g.2.2.1, 311, .inl (fun _ => 0))), (h0, .inr (11, [v0h0, v1h0, v2h0, v3h0, .int 0, v5h0, .int 0, v7h0, v8h0, v9h0, v10h0, v11h0, v12h0, .int 0, v14h0, v15h0, .ref mf, v17h0, v18h0, v19h0, v20h0, v21h0, v22h0, v23h0, v24h0, v25h0, v26h0, v27h0, v28h0, v29h0, v30h0, v31h0, v32h0, v33h0, v34h0, v35h0, v36h0, v37h0, v38h0, v39h0, v40h0, v41h0, v42h0]))] rfl ?_
  refine k_if_eq 291 X dX11_readLine_281 (by decide) (fun _ => ?_) (fun h_28 => absurd (by decide) h_28)
  refine k_aload_n X dX11_readLine_291 0 rfl ?_
  refine k_ldcS (tx := "scratch") X dX11_readLine_292 (by decide +kernel) (fun sr_29 => ?_)
  refine k_aload_n X dX11_readLine_294 0 rfl ?_
  refine k_get (ci := 11) X inlX11 rfl 16 (by decide) dX11_readLine_295 mw259 1 rfl rfl ?_
  refine k_bipush (v := 14) X dX11_readLine_298 (by decide) ?_
  refine k_iald X dX11_readLine_300 0 rfl (by unfold vp_in; decide) ?_
  refine k_to 0 rfl ?_
  refine k_bipush (v := 6) X dX11_readLine_301 (by decide) ?_
  refine k_ic_ge 310 X dX11_readLine_303 (by decide) (fun h_30 => absurd h_30 (by decide)) (fun _ => ?_)
  refine k_iconst (v := 1) X dX11_readLine_306 (by decide) ?_
  refine k_goto 311 X dX11_readLine_307 (by decide) ?_
  refine k_callVI (n := 2) (As := [.ref sr_29, .int 1]) (st := []) X [(h0, .inr (11, [v0h0, v1h0, v2h0, v3h0, .int 0, v5h0, .int 0, v7h0, v8h0, v9h0, v10h0, v11h0, v12h0, .int 0, v14h0, v15h0, .ref mf, v17h0, v18h0, v19h0, v20h0, v21h0, v22h0, v23h0, v24h0, v25h0, v26h0, v27h0, v28h0, v29h0, v30h0, v31h0, v32h0, v33h0, v34h0, v35h0, v36h0, v37h0, v38h0, v39h0, v40h0, v41h0, v42h0]))] [(mf, .inl (g.2.2.1, 311, .inl (fun _ => 0)))] [1] [0] (r_opens l g h0 sr_29 1 v0h0 v1h0 v2h0 v3h0 (.int 0) v5h0 v7h0 v8h0 v9h0 v10h0 v11h0 v12h0 v14h0 v15h0 (.ref mf) v17h0 v18h0 v19h0 v20h0 v21h0 v22h0 v23h0 v24h0 v25h0 v26h0 v27h0 v28h0 v29h0 v30h0 v31h0 v32h0 v33h0 v34h0 v35h0 v36h0 v37h0 v38h0 v39h0 v40h0 v41h0 v42h0) dX11_readLine_311 mw345 mw346 mw347 mw285 mw348 rfl 11 rfl rfl 0 _ rfl (by unfold yOk; decide) rfl (Nat.le_of_ble_eq_true rfl) (Nat.le_of_ble_eq_true rfl) (Nat.le_of_ble_eq_true rfl) (Nat.le_of_ble_eq_true rfl) (Nat.le_of_ble_eq_true rfl) rfl rfl (by decide) rfl (by decide) (by decide) ?_
  rintro r w ⟨rfl, rfl⟩
  refine k_ws [(mf, .inl (g.2.2.1, 311, .inl (fun _ => 0))), (h0, .inr (11, [v0h0, v1h0, v2h0, v3h0, .int 0, v5h0, .int 0, v7h0, v8h0, v9h0, v10h0, v11h0, v12h0, .int 0, v14h0, v15h0, .ref mf, v17h0, v18h0, v19h0, v20h0, v21h0, v22h0, v23h0, v24h0, v25h0, v26h0, v27h0, v28h0, v29h0, v30h0, v31h0, v32h0, v33h0, v34h0, v35h0, v36h0, v37h0, v38h0, v39h0, v40h0, v41h0, v42h0]))] rfl ?_
  refine k_if_eq 324 X dX11_readLine_314 (by decide) (fun _ => ?_) (fun h_31 => absurd (by decide) h_31)
  refine k_aload_n X dX11_readLine_324 0 rfl ?_
  refine k_iconst (v := 1) X dX11_readLine_325 (by decide) ?_
  refine k_aload_n X dX11_readLine_326 0 rfl ?_
  refine k_get (ci := 11) X inlX11 rfl 4 (by decide) dX11_readLine_327 mw342 1 rfl rfl ?_
  refine k_callVV (n := 2) (As := [.int 1, .int 0]) (st := []) X [(h0, .inr (11, [v0h0, v1h0, v2h0, v3h0, .int 0, v5h0, .int 0, v7h0, v8h0, v9h0, v10h0, v11h0, v12h0, .int 0, v14h0, v15h0, .ref mf, v17h0, v18h0, v19h0, v20h0, v21h0, v22h0, v23h0, v24h0, v25h0, v26h0, v27h0, v28h0, v29h0, v30h0, v31h0, v32h0, v33h0, v34h0, v35h0, v36h0, v37h0, v38h0, v39h0, v40h0, v41h0, v42h0]))] [(mf, .inl (g.2.2.1, 311, .inl (fun _ => 0)))] [1] [0] (r_bad l g h0 1 0 v0h0 v1h0 v2h0 v3h0 (.int 0) v5h0 (.int 0) v7h0 v8h0 v9h0 v10h0 v11h0 v12h0 v14h0 v15h0 (.ref mf) v17h0 v18h0 v19h0 v20h0 v21h0 v22h0 v23h0 v24h0 v25h0 v26h0 v27h0 v28h0 v29h0 v30h0 v31h0 v32h0 v33h0 v34h0 v35h0 v36h0 v37h0 v38h0 v39h0 v40h0 v41h0 v42h0) dX11_readLine_330 mw353 mw354 mw355 mw285 mw356 rfl 11 rfl rfl 0 _ rfl (by unfold yOk; decide) rfl (Nat.le_of_ble_eq_true rfl) (Nat.le_of_ble_eq_true rfl) (Nat.le_of_ble_eq_true rfl) (Nat.le_of_ble_eq_true rfl) (Nat.le_of_ble_eq_true rfl) rfl rfl (by decide) rfl (by decide) (by decide) ?_
  rintro w rfl
  refine k_ws [(mf, .inl (g.2.2.1, 311, .inl (fun _ => 0))), (h0, .inr (11, [v0h0, v1h0, v2h0, v3h0, .int 0, v5h0, .int 0, v7h0, v8h0, .int 1, .int 0, v11h0, v12h0, .int 1, v14h0, v15h0, .ref mf, v17h0, v18h0, v19h0, v20h0, v21h0, v22h0, v23h0, v24h0, v25h0, v26h0, v27h0, v28h0, v29h0, v30h0, v31h0, v32h0, v33h0, v34h0, v35h0, v36h0, v37h0, v38h0, v39h0, v40h0, v41h0, v42h0]))] rfl ?_
  exact k_vret X hr dX11_readLine_333 (Nat.le_of_ble_eq_true rfl) (Nat.le_of_ble_eq_true rfl) [1, 0] (by decide) rfl rfl rfl

theorem dX11_house_39 : decode cX11_house 39 = .ok (.iload_n 2, 1) := by decide +kernel
theorem dX11_house_40 : decode cX11_house 40 = .ok (.sipush 311, 3) := by decide +kernel
theorem dX11_house_43 : decode cX11_house 43 = .ok (.if_icmp .ge 16, 3) := by decide +kernel
theorem dX11_house_46 : decode cX11_house 46 = .ok (.aload_n 0, 1) := by decide +kernel
theorem dX11_house_47 : decode cX11_house 47 = .ok (.getfield 23, 3) := by decide +kernel
theorem dX11_house_50 : decode cX11_house 50 = .ok (.iload_n 2, 1) := by decide +kernel
theorem dX11_house_51 : decode cX11_house 51 = .ok (.iconst 0, 1) := by decide +kernel
theorem dX11_house_52 : decode cX11_house 52 = .ok (.iastore, 1) := by decide +kernel
theorem dX11_house_53 : decode cX11_house 53 = .ok (.iinc 2 1, 3) := by decide +kernel
theorem dX11_house_56 : decode cX11_house 56 = .ok (.goto (-17), 3) := by decide +kernel
set_option maxHeartbeats 4000000 in
set_option maxRecDepth 100000 in
theorem house_loop {p : Program} {l : Launch} {e : Env} {R : Room} {s : State} {m : MethodId} {args : Array Value} {below : List Frame} {meth : Method} {c : Code} {Q : State → Prop} {A : Nat → Prop} {n1 n2 : Nat} (g : Gx) (h0 : Nat) (p0 : Int32) (v1h0 : Value) (v3h0 : Value) (v4h0 : Value) (v5h0 : Value) (v6h0 : Value) (v7h0 : Value) (v8h0 : Value) (v10h0 : Value) (v12h0 : Value) (v14h0 : Value) (v15h0 : Value) (mf : Nat) (v17h0 : Value) (v18h0 : Value) (v19h0 : Value) (v20h0 : Value) (v21h0 : Value) (v22h0 : Value) (v23h0 : Value) (v24h0 : Value) (v25h0 : Value) (v26h0 : Value) (v27h0 : Value) (v28h0 : Value) (v29h0 : Value) (v30h0 : Value) (v31h0 : Value) (v32h0 : Value) (v33h0 : Value) (v34h0 : Value) (v35h0 : Value) (v36h0 : Value) (v37h0 : Value) (v38h0 : Value) (v39h0 : Value) (v40h0 : Value) (v41h0 : Value) (v42h0 : Value) (X : Cx p s m meth c args cX11_house 3 RX11 A g) (kk : Wk p l e R s m args below meth c Q A g 3 n1 n2 [(h0, .inr (11, [.int 0, v1h0, .int 0, v3h0, v4h0, v5h0, v6h0, v7h0, v8h0, .int 0, v10h0, .int 0, v12h0, .int 0, v14h0, v15h0, .ref mf, v17h0, v18h0, v19h0, v20h0, v21h0, v22h0, v23h0, v24h0, v25h0, v26h0, v27h0, v28h0, v29h0, v30h0, v31h0, v32h0, v33h0, v34h0, v35h0, v36h0, v37h0, v38h0, v39h0, v40h0, v41h0, v42h0])), (mf, .inl (g.2.2.1, 311, .inl (fun _ => 0)))] [(2, .int 311), (0, .ref h0), (1, .int p0)] 39 []) : ∀ (n i : Nat), i ≤ 311 → 311 ≤ i + n → Wk p l e R s m args below meth c Q A g 3 n1 n2 [(h0, .inr (11, [.int 0, v1h0, .int 0, v3h0, v4h0, v5h0, v6h0, v7h0, v8h0, .int 0, v10h0, .int 0, v12h0, .int 0, v14h0, v15h0, .ref mf, v17h0, v18h0, v19h0, v20h0, v21h0, v22h0, v23h0, v24h0, v25h0, v26h0, v27h0, v28h0, v29h0, v30h0, v31h0, v32h0, v33h0, v34h0, v35h0, v36h0, v37h0, v38h0, v39h0, v40h0, v41h0, v42h0])), (mf, .inl (g.2.2.1, 311, .inl (fun _ => 0)))] [(2, .int (nI i)), (0, .ref h0), (1, .int p0)] 39 [] := by
  intro n
  induction n with
  | zero => intro i h1 h2; obtain rfl : i = 311 := by omega
            exact kk
  | succ n ih =>
    intro i h1 h2
    rcases Nat.lt_or_ge i 311 with hi | hi
    · skip
      refine k_iload_n X dX11_house_39 0 rfl ?_
      refine k_sipush (v := 311) X dX11_house_40 (by decide) ?_
      refine k_ic_ge 59 X dX11_house_43 (by decide) (fun h_1 => absurd h_1 (nI_ge hi (by decide))) (fun h_1 => ?_)
      refine k_aload_n X dX11_house_46 1 rfl ?_
      refine k_get (ci := 11) X inlX11 rfl 16 (by decide) dX11_house_47 mw259 0 rfl rfl ?_
      refine k_iload_n X dX11_house_50 0 rfl ?_
      refine k_iconst (v := 0) X dX11_house_51 (by decide) ?_
      refine k_iast [(h0, .inr (11, [.int 0, v1h0, .int 0, v3h0, v4h0, v5h0, v6h0, v7h0, v8h0, .int 0, v10h0, .int 0, v12h0, .int 0, v14h0, v15h0, .ref mf, v17h0, v18h0, v19h0, v20h0, v21h0, v22h0, v23h0, v24h0, v25h0, v26h0, v27h0, v28h0, v29h0, v30h0, v31h0, v32h0, v33h0, v34h0, v35h0, v36h0, v37h0, v38h0, v39h0, v40h0, v41h0, v42h0])), (mf, .inl (g.2.2.1, 311, .inl (fun _ => 0)))] X dX11_house_52 1 rfl (vp_in_nI hi (by decide)) (by rw [upd0]; rfl) ?_
      refine k_iinc (nI (i + 1)) [(2, .int (nI (i + 1))), (0, .ref h0), (1, .int p0)] 0 X dX11_house_53 rfl (by rw [show Int32.ofInt 1 = 1 from by decide]; exact nI_1 i) (by decide) rfl ?_
      refine k_goto 39 X dX11_house_56 (by decide) ?_
      exact ih (i + 1) hi (by omega)
    · obtain rfl : i = 311 := by omega
      exact kk

theorem dX11_house_0 : decode cX11_house 0 = .ok (.aload_n 0, 1) := by decide +kernel
theorem dX11_house_1 : decode cX11_house 1 = .ok (.invokevirtual 200, 3) := by decide +kernel
theorem dX11_house_4 : decode cX11_house 4 = .ok (.iload_n 1, 1) := by decide +kernel
theorem dX11_house_5 : decode cX11_house 5 = .ok (.iconst 0, 1) := by decide +kernel
theorem dX11_house_6 : decode cX11_house 6 = .ok (.aload_n 0, 1) := by decide +kernel
theorem dX11_house_7 : decode cX11_house 7 = .ok (.getfield 89, 3) := by decide +kernel
theorem dX11_house_10 : decode cX11_house 10 = .ok (.invokestatic 182, 3) := by decide +kernel
theorem dX11_house_13 : decode cX11_house 13 = .ok (.ifCond .ne 9, 3) := by decide +kernel
theorem dX11_house_16 : decode cX11_house 16 = .ok (.aload_n 0, 1) := by decide +kernel
theorem dX11_house_17 : decode cX11_house 17 = .ok (.iconst 2, 1) := by decide +kernel
theorem dX11_house_18 : decode cX11_house 18 = .ok (.invokevirtual 203, 3) := by decide +kernel
theorem dX11_house_21 : decode cX11_house 21 = .ok (.ireturn, 1) := by decide +kernel
theorem dX11_house_22 : decode cX11_house 22 = .ok (.aload_n 0, 1) := by decide +kernel
theorem dX11_house_23 : decode cX11_house 23 = .ok (.iconst 0, 1) := by decide +kernel
theorem dX11_house_24 : decode cX11_house 24 = .ok (.putfield 89, 3) := by decide +kernel
theorem dX11_house_27 : decode cX11_house 27 = .ok (.aload_n 0, 1) := by decide +kernel
theorem dX11_house_28 : decode cX11_house 28 = .ok (.iconst 0, 1) := by decide +kernel
theorem dX11_house_29 : decode cX11_house 29 = .ok (.putfield 125, 3) := by decide +kernel
theorem dX11_house_32 : decode cX11_house 32 = .ok (.aload_n 0, 1) := by decide +kernel
theorem dX11_house_33 : decode cX11_house 33 = .ok (.iconst 0, 1) := by decide +kernel
theorem dX11_house_34 : decode cX11_house 34 = .ok (.putfield 121, 3) := by decide +kernel
theorem dX11_house_37 : decode cX11_house 37 = .ok (.iconst 0, 1) := by decide +kernel
theorem dX11_house_38 : decode cX11_house 38 = .ok (.istore_n 2, 1) := by decide +kernel
theorem dX11_house_59 : decode cX11_house 59 = .ok (.aload_n 0, 1) := by decide +kernel
theorem dX11_house_60 : decode cX11_house 60 = .ok (.iload_n 1, 1) := by decide +kernel
theorem dX11_house_61 : decode cX11_house 61 = .ok (.putfield 92, 3) := by decide +kernel
theorem dX11_house_64 : decode cX11_house 64 = .ok (.aload_n 0, 1) := by decide +kernel
theorem dX11_house_65 : decode cX11_house 65 = .ok (.iconst 0, 1) := by decide +kernel
theorem dX11_house_66 : decode cX11_house 66 = .ok (.putfield 95, 3) := by decide +kernel
theorem dX11_house_69 : decode cX11_house 69 = .ok (.aload_n 0, 1) := by decide +kernel
theorem dX11_house_70 : decode cX11_house 70 = .ok (.invokevirtual 142, 3) := by decide +kernel
theorem dX11_house_73 : decode cX11_house 73 = .ok (.aload_n 0, 1) := by decide +kernel
theorem dX11_house_74 : decode cX11_house 74 = .ok (.invokevirtual 206, 3) := by decide +kernel
theorem dX11_house_77 : decode cX11_house 77 = .ok (.aload_n 0, 1) := by decide +kernel
theorem dX11_house_78 : decode cX11_house 78 = .ok (.getfield 121, 3) := by decide +kernel
theorem dX11_house_81 : decode cX11_house 81 = .ok (.ifCond .ne 23, 3) := by decide +kernel
theorem dX11_house_104 : decode cX11_house 104 = .ok (.aload_n 0, 1) := by decide +kernel
theorem dX11_house_105 : decode cX11_house 105 = .ok (.getfield 121, 3) := by decide +kernel
theorem dX11_house_108 : decode cX11_house 108 = .ok (.ifCond .ne 19, 3) := by decide +kernel
theorem dX11_house_127 : decode cX11_house 127 = .ok (.aload_n 0, 1) := by decide +kernel
theorem dX11_house_128 : decode cX11_house 128 = .ok (.getfield 121, 3) := by decide +kernel
theorem dX11_house_131 : decode cX11_house 131 = .ok (.ifCond .ne 43, 3) := by decide +kernel
theorem dX11_house_174 : decode cX11_house 174 = .ok (.aload_n 0, 1) := by decide +kernel
theorem dX11_house_175 : decode cX11_house 175 = .ok (.getfield 121, 3) := by decide +kernel
theorem dX11_house_178 : decode cX11_house 178 = .ok (.ifCond .eq 9, 3) := by decide +kernel
theorem dX11_house_181 : decode cX11_house 181 = .ok (.aload_n 0, 1) := by decide +kernel
theorem dX11_house_182 : decode cX11_house 182 = .ok (.iconst 4, 1) := by decide +kernel
theorem dX11_house_183 : decode cX11_house 183 = .ok (.invokevirtual 203, 3) := by decide +kernel
theorem dX11_house_186 : decode cX11_house 186 = .ok (.ireturn, 1) := by decide +kernel
set_option maxHeartbeats 4000000 in
set_option maxRecDepth 100000 in
theorem r_house (l : Launch) (g : Gx) (h0 : Nat) (p0 : Int32) (v0h0 : Value) (v1h0 : Value) (v3h0 : Value) (v4h0 : Value) (v5h0 : Value) (v6h0 : Value) (v7h0 : Value) (v8h0 : Value) (v9h0 : Value) (v10h0 : Value) (v11h0 : Value) (v12h0 : Value) (v13h0 : Value) (v14h0 : Value) (v15h0 : Value) (mf : Nat) (v17h0 : Value) (v18h0 : Value) (v19h0 : Value) (v20h0 : Value) (v21h0 : Value) (v22h0 : Value) (v23h0 : Value) (v24h0 : Value) (v25h0 : Value) (v26h0 : Value) (v27h0 : Value) (v28h0 : Value) (v29h0 : Value) (v30h0 : Value) (v31h0 : Value) (v32h0 : Value) (v33h0 : Value) (v34h0 : Value) (v35h0 : Value) (v36h0 : Value) (v37h0 : Value) (v38h0 : Value) (v39h0 : Value) (v40h0 : Value) (v41h0 : Value) (v42h0 : Value) : cI l g yX11_house cX11_house 3 (some .int) 3 65 0 0 [.ref h0, .int p0] [(h0, .inr (11, [v0h0, v1h0, .int 0, v3h0, v4h0, v5h0, v6h0, v7h0, v8h0, v9h0, v10h0, v11h0, v12h0, v13h0, v14h0, v15h0, .ref mf, v17h0, v18h0, v19h0, v20h0, v21h0, v22h0, v23h0, v24h0, v25h0, v26h0, v27h0, v28h0, v29h0, v30h0, v31h0, v32h0, v33h0, v34h0, v35h0, v36h0, v37h0, v38h0, v39h0, v40h0, v41h0, v42h0])), (mf, .inl (g.2.2.1, 311, .inl (fun _ => 0)))] (fun r w => r = (-1) ∧ w = []) := by
  refine cI.of (by decide) (Nat.le_of_ble_eq_true rfl) ?_
  intro p e s m args below meth c A X hr hi
  refine k_lveq [(0, .ref h0), (1, .int p0)] rfl ?_
  refine k_aload_n X dX11_house_0 0 rfl ?_
  refine k_callVV (n := 0) (As := []) (st := []) X [(h0, .inr (11, [v0h0, v1h0, .int 0, v3h0, v4h0, v5h0, v6h0, v7h0, v8h0, v9h0, v10h0, v11h0, v12h0, v13h0, v14h0, v15h0, .ref mf, v17h0, v18h0, v19h0, v20h0, v21h0, v22h0, v23h0, v24h0, v25h0, v26h0, v27h0, v28h0, v29h0, v30h0, v31h0, v32h0, v33h0, v34h0, v35h0, v36h0, v37h0, v38h0, v39h0, v40h0, v41h0, v42h0]))] [(mf, .inl (g.2.2.1, 311, .inl (fun _ => 0)))] [0] [1] (r_good l g h0 v0h0 v1h0 (.int 0) v3h0 v4h0 v5h0 v6h0 v7h0 v8h0 v9h0 v10h0 v11h0 v12h0 v13h0 v14h0 v15h0 (.ref mf) v17h0 v18h0 v19h0 v20h0 v21h0 v22h0 v23h0 v24h0 v25h0 v26h0 v27h0 v28h0 v29h0 v30h0 v31h0 v32h0 v33h0 v34h0 v35h0 v36h0 v37h0 v38h0 v39h0 v40h0 v41h0 v42h0) dX11_house_1 mw288 mw289 mw290 mw285 mw291 rfl 11 rfl rfl 0 _ rfl (by unfold yOk; decide) rfl (Nat.le_of_ble_eq_true rfl) (Nat.le_of_ble_eq_true rfl) (Nat.le_of_ble_eq_true rfl) (Nat.le_of_ble_eq_true rfl) (Nat.le_of_ble_eq_true rfl) rfl rfl (by decide) rfl (by decide) (by decide) ?_
  rintro w rfl
  refine k_ws [(mf, .inl (g.2.2.1, 311, .inl (fun _ => 0))), (h0, .inr (11, [.int 0, v1h0, .int 0, v3h0, v4h0, v5h0, v6h0, v7h0, v8h0, v9h0, v10h0, .int 0, v12h0, v13h0, v14h0, v15h0, .ref mf, v17h0, v18h0, v19h0, v20h0, v21h0, v22h0, v23h0, v24h0, v25h0, v26h0, v27h0, v28h0, v29h0, v30h0, v31h0, v32h0, v33h0, v34h0, v35h0, v36h0, v37h0, v38h0, v39h0, v40h0, v41h0, v42h0]))] rfl ?_
  refine k_iload_n X dX11_house_4 1 rfl ?_
  refine k_iconst (v := 0) X dX11_house_5 (by decide) ?_
  refine k_aload_n X dX11_house_6 0 rfl ?_
  refine k_get (ci := 11) X inlX11 rfl 2 (by decide) dX11_house_7 mw329 1 rfl rfl ?_
  refine k_callSI (n := 3) (As := [.int p0, .int 0, .int 0]) (st := []) X [] [(mf, .inl (g.2.2.1, 311, .inl (fun _ => 0))), (h0, .inr (11, [.int 0, v1h0, .int 0, v3h0, v4h0, v5h0, v6h0, v7h0, v8h0, v9h0, v10h0, .int 0, v12h0, v13h0, v14h0, v15h0, .ref mf, v17h0, v18h0, v19h0, v20h0, v21h0, v22h0, v23h0, v24h0, v25h0, v26h0, v27h0, v28h0, v29h0, v30h0, v31h0, v32h0, v33h0, v34h0, v35h0, v36h0, v37h0, v38h0, v39h0, v40h0, v41h0, v42h0]))] [] [0, 1] (r_in l g p0 0 0) dX11_house_10 mw308 mw309 mw285 mw310 (by unfold yOk; decide) rfl (Nat.le_of_ble_eq_true rfl) (Nat.le_of_ble_eq_true rfl) (Nat.le_of_ble_eq_true rfl) (Nat.le_of_ble_eq_true rfl) (Nat.le_of_ble_eq_true rfl) rfl rfl (by decide) rfl (by decide) (by decide) ?_
  rintro r w (⟨rfl, k_1, k_2, rfl⟩ | ⟨rfl, k_3, rfl⟩)
  · skip
    refine k_ws [(mf, .inl (g.2.2.1, 311, .inl (fun _ => 0))), (h0, .inr (11, [.int 0, v1h0, .int 0, v3h0, v4h0, v5h0, v6h0, v7h0, v8h0, v9h0, v10h0, .int 0, v12h0, v13h0, v14h0, v15h0, .ref mf, v17h0, v18h0, v19h0, v20h0, v21h0, v22h0, v23h0, v24h0, v25h0, v26h0, v27h0, v28h0, v29h0, v30h0, v31h0, v32h0, v33h0, v34h0, v35h0, v36h0, v37h0, v38h0, v39h0, v40h0, v41h0, v42h0]))] rfl ?_
    refine k_if_ne 22 X dX11_house_13 (by decide) (fun _ => ?_) (fun h_4 => absurd h_4 (by decide))
    obtain rfl : p0 = 0 := i32_eq0 k_1 k_2
    refine k_aload_n X dX11_house_22 0 rfl ?_
    refine k_iconst (v := 0) X dX11_house_23 (by decide) ?_
    refine k_put (ci := 11) [(mf, .inl (g.2.2.1, 311, .inl (fun _ => 0))), (h0, .inr (11, [.int 0, v1h0, .int 0, v3h0, v4h0, v5h0, v6h0, v7h0, v8h0, v9h0, v10h0, .int 0, v12h0, v13h0, v14h0, v15h0, .ref mf, v17h0, v18h0, v19h0, v20h0, v21h0, v22h0, v23h0, v24h0, v25h0, v26h0, v27h0, v28h0, v29h0, v30h0, v31h0, v32h0, v33h0, v34h0, v35h0, v36h0, v37h0, v38h0, v39h0, v40h0, v41h0, v42h0]))] X inlX11 rfl tyX11_ok nmX11 2 (by decide) rfl dX11_house_24 mw329 1 rfl rfl rfl (Nat.le_of_ble_eq_true rfl) rfl ?_
    refine k_aload_n X dX11_house_27 0 rfl ?_
    refine k_iconst (v := 0) X dX11_house_28 (by decide) ?_
    refine k_put (ci := 11) [(mf, .inl (g.2.2.1, 311, .inl (fun _ => 0))), (h0, .inr (11, [.int 0, v1h0, .int 0, v3h0, v4h0, v5h0, v6h0, v7h0, v8h0, .int 0, v10h0, .int 0, v12h0, v13h0, v14h0, v15h0, .ref mf, v17h0, v18h0, v19h0, v20h0, v21h0, v22h0, v23h0, v24h0, v25h0, v26h0, v27h0, v28h0, v29h0, v30h0, v31h0, v32h0, v33h0, v34h0, v35h0, v36h0, v37h0, v38h0, v39h0, v40h0, v41h0, v42h0]))] X inlX11 rfl tyX11_ok nmX11 9 (by decide) rfl dX11_house_29 mw287 1 rfl rfl rfl (Nat.le_of_ble_eq_true rfl) rfl ?_
    refine k_aload_n X dX11_house_32 0 rfl ?_
    refine k_iconst (v := 0) X dX11_house_33 (by decide) ?_
    refine k_put (ci := 11) [(mf, .inl (g.2.2.1, 311, .inl (fun _ => 0))), (h0, .inr (11, [.int 0, v1h0, .int 0, v3h0, v4h0, v5h0, v6h0, v7h0, v8h0, .int 0, v10h0, .int 0, v12h0, .int 0, v14h0, v15h0, .ref mf, v17h0, v18h0, v19h0, v20h0, v21h0, v22h0, v23h0, v24h0, v25h0, v26h0, v27h0, v28h0, v29h0, v30h0, v31h0, v32h0, v33h0, v34h0, v35h0, v36h0, v37h0, v38h0, v39h0, v40h0, v41h0, v42h0]))] X inlX11 rfl tyX11_ok nmX11 13 (by decide) rfl dX11_house_34 mw330 1 rfl (by decide) (by decide) (Nat.le_of_ble_eq_true rfl) rfl ?_
    refine k_iconst (v := 0) X dX11_house_37 (by decide) ?_
    refine k_istore_n [(2, .int 0), (0, .ref h0), (1, .int 0)] X dX11_house_38 (by decide) rfl ?_
    refine k_sub [(h0, .inr (11, [.int 0, v1h0, .int 0, v3h0, v4h0, v5h0, v6h0, v7h0, v8h0, .int 0, v10h0, .int 0, v12h0, .int 0, v14h0, v15h0, .ref mf, v17h0, v18h0, v19h0, v20h0, v21h0, v22h0, v23h0, v24h0, v25h0, v26h0, v27h0, v28h0, v29h0, v30h0, v31h0, v32h0, v33h0, v34h0, v35h0, v36h0, v37h0, v38h0, v39h0, v40h0, v41h0, v42h0])), (mf, .inl (g.2.2.1, 311, .inl (fun _ => 0)))] [1, 0] rfl (by decide) rfl ?_
    refine house_loop g h0 0 v1h0 v3h0 v4h0 v5h0 v6h0 v7h0 v8h0 v10h0 v12h0 v14h0 v15h0 mf v17h0 v18h0 v19h0 v20h0 v21h0 v22h0 v23h0 v24h0 v25h0 v26h0 v27h0 v28h0 v29h0 v30h0 v31h0 v32h0 v33h0 v34h0 v35h0 v36h0 v37h0 v38h0 v39h0 v40h0 v41h0 v42h0 X ?_ 311 0 (by decide) (by decide)
    refine k_iload_n X dX11_house_39 0 rfl ?_
    refine k_sipush (v := 311) X dX11_house_40 (by decide) ?_
    refine k_ic_ge 59 X dX11_house_43 (by decide) (fun _ => ?_) (fun h_5 => absurd (by decide) h_5)
    refine k_aload_n X dX11_house_59 1 rfl ?_
    refine k_iload_n X dX11_house_60 2 rfl ?_
    refine k_put (ci := 11) [(h0, .inr (11, [.int 0, v1h0, .int 0, .int 0, v4h0, v5h0, v6h0, v7h0, v8h0, .int 0, v10h0, .int 0, v12h0, .int 0, v14h0, v15h0, .ref mf, v17h0, v18h0, v19h0, v20h0, v21h0, v22h0, v23h0, v24h0, v25h0, v26h0, v27h0, v28h0, v29h0, v30h0, v31h0, v32h0, v33h0, v34h0, v35h0, v36h0, v37h0, v38h0, v39h0, v40h0, v41h0, v42h0])), (mf, .inl (g.2.2.1, 311, .inl (fun _ => 0)))] X inlX11 rfl tyX11_ok nmX11 3 (by decide) rfl dX11_house_61 mw336 0 rfl rfl rfl (Nat.le_of_ble_eq_true rfl) rfl ?_
    refine k_aload_n X dX11_house_64 1 rfl ?_
    refine k_iconst (v := 0) X dX11_house_65 (by decide) ?_
    refine k_put (ci := 11) [(h0, .inr (11, [.int 0, v1h0, .int 0, .int 0, v4h0, .int 0, v6h0, v7h0, v8h0, .int 0, v10h0, .int 0, v12h0, .int 0, v14h0, v15h0, .ref mf, v17h0, v18h0, v19h0, v20h0, v21h0, v22h0, v23h0, v24h0, v25h0, v26h0, v27h0, v28h0, v29h0, v30h0, v31h0, v32h0, v33h0, v34h0, v35h0, v36h0, v37h0, v38h0, v39h0, v40h0, v41h0, v42h0])), (mf, .inl (g.2.2.1, 311, .inl (fun _ => 0)))] X inlX11 rfl tyX11_ok nmX11 5 (by decide) rfl dX11_house_66 mw337 0 rfl rfl rfl (Nat.le_of_ble_eq_true rfl) rfl ?_
    refine k_aload_n X dX11_house_69 1 rfl ?_
    refine k_callVV (n := 0) (As := []) (st := []) X [(h0, .inr (11, [.int 0, v1h0, .int 0, .int 0, v4h0, .int 0, v6h0, v7h0, v8h0, .int 0, v10h0, .int 0, v12h0, .int 0, v14h0, v15h0, .ref mf, v17h0, v18h0, v19h0, v20h0, v21h0, v22h0, v23h0, v24h0, v25h0, v26h0, v27h0, v28h0, v29h0, v30h0, v31h0, v32h0, v33h0, v34h0, v35h0, v36h0, v37h0, v38h0, v39h0, v40h0, v41h0, v42h0]))] [(mf, .inl (g.2.2.1, 311, .inl (fun _ => 0)))] [0] [1] (r_next l g h0 (.int 0) v1h0 (.int 0) v4h0 v6h0 v7h0 v8h0 (.int 0) v10h0 (.int 0) v12h0 (.int 0) v14h0 v15h0 (.ref mf) v17h0 v18h0 v19h0 v20h0 v21h0 v22h0 v23h0 v24h0 v25h0 v26h0 v27h0 v28h0 v29h0 v30h0 v31h0 v32h0 v33h0 v34h0 v35h0 v36h0 v37h0 v38h0 v39h0 v40h0 v41h0 v42h0) dX11_house_70 mw357 mw358 mw359 mw285 mw360 rfl 11 rfl rfl 0 _ rfl (by unfold yOk; decide) rfl (Nat.le_of_ble_eq_true rfl) (Nat.le_of_ble_eq_true rfl) (Nat.le_of_ble_eq_true rfl) (Nat.le_of_ble_eq_true rfl) (Nat.le_of_ble_eq_true rfl) rfl rfl (by decide) rfl (by decide) (by decide) ?_
    rintro w rfl
    refine k_ws [(mf, .inl (g.2.2.1, 311, .inl (fun _ => 0))), (h0, .inr (11, [.int 0, v1h0, .int 0, .int 0, .int 0, .int 0, .int 0, .int 0, .int 0, .int 0, v10h0, .int 0, v12h0, .int 0, v14h0, v15h0, .ref mf, v17h0, v18h0, v19h0, v20h0, v21h0, v22h0, v23h0, v24h0, v25h0, v26h0, v27h0, v28h0, v29h0, v30h0, v31h0, v32h0, v33h0, v34h0, v35h0, v36h0, v37h0, v38h0, v39h0, v40h0, v41h0, v42h0]))] rfl ?_
    refine k_aload_n X dX11_house_73 1 rfl ?_
    refine k_callVV (n := 0) (As := []) (st := []) X [(h0, .inr (11, [.int 0, v1h0, .int 0, .int 0, .int 0, .int 0, .int 0, .int 0, .int 0, .int 0, v10h0, .int 0, v12h0, .int 0, v14h0, v15h0, .ref mf, v17h0, v18h0, v19h0, v20h0, v21h0, v22h0, v23h0, v24h0, v25h0, v26h0, v27h0, v28h0, v29h0, v30h0, v31h0, v32h0, v33h0, v34h0, v35h0, v36h0, v37h0, v38h0, v39h0, v40h0, v41h0, v42h0])), (mf, .inl (g.2.2.1, 311, .inl (fun _ => 0)))] [] [1, 0] [] (r_readLine l g h0 (.int 0) v1h0 (.int 0) (.int 0) (.int 0) (.int 0) (.int 0) (.int 0) v10h0 (.int 0) v12h0 v14h0 v15h0 mf v17h0 v18h0 v19h0 v20h0 v21h0 v22h0 v23h0 v24h0 v25h0 v26h0 v27h0 v28h0 v29h0 v30h0 v31h0 v32h0 v33h0 v34h0 v35h0 v36h0 v37h0 v38h0 v39h0 v40h0 v41h0 v42h0) dX11_house_74 mw361 mw362 mw363 mw285 mw364 rfl 11 rfl rfl 0 _ rfl (by unfold yOk; decide) rfl (Nat.le_of_ble_eq_true rfl) (Nat.le_of_ble_eq_true rfl) (Nat.le_of_ble_eq_true rfl) (Nat.le_of_ble_eq_true rfl) (Nat.le_of_ble_eq_true rfl) rfl rfl (by decide) rfl (by decide) (by decide) ?_
    rintro w rfl
    refine k_ws [(h0, .inr (11, [.int 0, v1h0, .int 0, .int 0, .int 0, .int 0, .int 0, .int 0, .int 0, .int 1, .int 0, .int 0, v12h0, .int 1, v14h0, v15h0, .ref mf, v17h0, v18h0, v19h0, v20h0, v21h0, v22h0, v23h0, v24h0, v25h0, v26h0, v27h0, v28h0, v29h0, v30h0, v31h0, v32h0, v33h0, v34h0, v35h0, v36h0, v37h0, v38h0, v39h0, v40h0, v41h0, v42h0])), (mf, .inl (g.2.2.1, 311, .inl (fun _ => 0)))] rfl ?_
    refine k_aload_n X dX11_house_77 1 rfl ?_
    refine k_get (ci := 11) X inlX11 rfl 13 (by decide) dX11_house_78 mw330 0 rfl rfl ?_
    refine k_if_ne 104 X dX11_house_81 (by decide) (fun _ => ?_) (fun h_6 => absurd h_6 (by decide))
    refine k_aload_n X dX11_house_104 1 rfl ?_
    refine k_get (ci := 11) X inlX11 rfl 13 (by decide) dX11_house_105 mw330 0 rfl rfl ?_
    refine k_if_ne 127 X dX11_house_108 (by decide) (fun _ => ?_) (fun h_7 => absurd h_7 (by decide))
    refine k_aload_n X dX11_house_127 1 rfl ?_
    refine k_get (ci := 11) X inlX11 rfl 13 (by decide) dX11_house_128 mw330 0 rfl rfl ?_
    refine k_if_ne 174 X dX11_house_131 (by decide) (fun _ => ?_) (fun h_8 => absurd h_8 (by decide))
    refine k_aload_n X dX11_house_174 1 rfl ?_
    refine k_get (ci := 11) X inlX11 rfl 13 (by decide) dX11_house_175 mw330 0 rfl rfl ?_
    refine k_if_eq 187 X dX11_house_178 (by decide) (fun h_9 => absurd h_9 (by decide)) (fun _ => ?_)
    refine k_aload_n X dX11_house_181 1 rfl ?_
    refine k_iconst (v := 4) X dX11_house_182 (by decide) ?_
    refine k_callVI (n := 1) (As := [.int 4]) (st := []) X [(h0, .inr (11, [.int 0, v1h0, .int 0, .int 0, .int 0, .int 0, .int 0, .int 0, .int 0, .int 1, .int 0, .int 0, v12h0, .int 1, v14h0, v15h0, .ref mf, v17h0, v18h0, v19h0, v20h0, v21h0, v22h0, v23h0, v24h0, v25h0, v26h0, v27h0, v28h0, v29h0, v30h0, v31h0, v32h0, v33h0, v34h0, v35h0, v36h0, v37h0, v38h0, v39h0, v40h0, v41h0, v42h0]))] [(mf, .inl (g.2.2.1, 311, .inl (fun _ => 0)))] [0] [1] (r_no l g h0 4 (.int 0) v1h0 (.int 0) (.int 0) (.int 0) (.int 0) (.int 0) (.int 0) (.int 0) (.int 1) (.int 0) (.int 0) v12h0 (.int 1) v14h0 v15h0 (.ref mf) v17h0 v18h0 v19h0 v20h0 v21h0 v22h0 v23h0 v24h0 v25h0 v26h0 v27h0 v28h0 v29h0 v30h0 v31h0 v32h0 v33h0 v34h0 v35h0 v36h0 v37h0 v38h0 v39h0 v40h0 v41h0 v42h0) dX11_house_183 mw296 mw297 mw298 mw285 mw299 rfl 11 rfl rfl 0 _ rfl (by unfold yOk; decide) rfl (Nat.le_of_ble_eq_true rfl) (Nat.le_of_ble_eq_true rfl) (Nat.le_of_ble_eq_true rfl) (Nat.le_of_ble_eq_true rfl) (Nat.le_of_ble_eq_true rfl) rfl rfl (by decide) rfl (by decide) (by decide) ?_
    rintro r w ⟨rfl, rfl⟩
    refine k_ws [(mf, .inl (g.2.2.1, 311, .inl (fun _ => 0)))] rfl ?_
    exact k_iret X hr dX11_house_186 (Nat.le_of_ble_eq_true rfl) (Nat.le_of_ble_eq_true rfl) [] (by decide) rfl rfl ⟨rfl, rfl⟩
  · skip
    refine k_ws [(mf, .inl (g.2.2.1, 311, .inl (fun _ => 0))), (h0, .inr (11, [.int 0, v1h0, .int 0, v3h0, v4h0, v5h0, v6h0, v7h0, v8h0, v9h0, v10h0, .int 0, v12h0, v13h0, v14h0, v15h0, .ref mf, v17h0, v18h0, v19h0, v20h0, v21h0, v22h0, v23h0, v24h0, v25h0, v26h0, v27h0, v28h0, v29h0, v30h0, v31h0, v32h0, v33h0, v34h0, v35h0, v36h0, v37h0, v38h0, v39h0, v40h0, v41h0, v42h0]))] rfl ?_
    refine k_if_ne 22 X dX11_house_13 (by decide) (fun h_10 => absurd h_10 (by decide)) (fun _ => ?_)
    refine k_aload_n X dX11_house_16 0 rfl ?_
    refine k_iconst (v := 2) X dX11_house_17 (by decide) ?_
    refine k_callVI (n := 1) (As := [.int 2]) (st := []) X [(h0, .inr (11, [.int 0, v1h0, .int 0, v3h0, v4h0, v5h0, v6h0, v7h0, v8h0, v9h0, v10h0, .int 0, v12h0, v13h0, v14h0, v15h0, .ref mf, v17h0, v18h0, v19h0, v20h0, v21h0, v22h0, v23h0, v24h0, v25h0, v26h0, v27h0, v28h0, v29h0, v30h0, v31h0, v32h0, v33h0, v34h0, v35h0, v36h0, v37h0, v38h0, v39h0, v40h0, v41h0, v42h0]))] [(mf, .inl (g.2.2.1, 311, .inl (fun _ => 0)))] [1] [0] (r_no l g h0 2 (.int 0) v1h0 (.int 0) v3h0 v4h0 v5h0 v6h0 v7h0 v8h0 v9h0 v10h0 (.int 0) v12h0 v13h0 v14h0 v15h0 (.ref mf) v17h0 v18h0 v19h0 v20h0 v21h0 v22h0 v23h0 v24h0 v25h0 v26h0 v27h0 v28h0 v29h0 v30h0 v31h0 v32h0 v33h0 v34h0 v35h0 v36h0 v37h0 v38h0 v39h0 v40h0 v41h0 v42h0) dX11_house_18 mw296 mw297 mw298 mw285 mw299 rfl 11 rfl rfl 0 _ rfl (by unfold yOk; decide) rfl (Nat.le_of_ble_eq_true rfl) (Nat.le_of_ble_eq_true rfl) (Nat.le_of_ble_eq_true rfl) (Nat.le_of_ble_eq_true rfl) (Nat.le_of_ble_eq_true rfl) rfl rfl (by decide) rfl (by decide) (by decide) ?_
    rintro r w ⟨rfl, rfl⟩
    refine k_ws [(mf, .inl (g.2.2.1, 311, .inl (fun _ => 0)))] rfl ?_
    exact k_iret X hr dX11_house_21 (Nat.le_of_ble_eq_true rfl) (Nat.le_of_ble_eq_true rfl) [] (by decide) rfl rfl ⟨rfl, rfl⟩

theorem dX8_at_0 : decode cX8_at 0 = .ok (.iload_n 1, 1) := by decide +kernel
theorem dX8_at_1 : decode cX8_at 1 = .ok (.ifCond .lt 23, 3) := by decide +kernel
theorem dX8_at_4 : decode cX8_at 4 = .ok (.iload_n 1, 1) := by decide +kernel
theorem dX8_at_5 : decode cX8_at 5 = .ok (.aload_n 0, 1) := by decide +kernel
theorem dX8_at_6 : decode cX8_at 6 = .ok (.getfield 19, 3) := by decide +kernel
theorem dX8_at_9 : decode cX8_at 9 = .ok (.if_icmp .ge 15, 3) := by decide +kernel
theorem dX8_at_12 : decode cX8_at 12 = .ok (.iload_n 2, 1) := by decide +kernel
theorem dX8_at_13 : decode cX8_at 13 = .ok (.ifCond .lt 11, 3) := by decide +kernel
theorem dX8_at_16 : decode cX8_at 16 = .ok (.iload_n 2, 1) := by decide +kernel
theorem dX8_at_17 : decode cX8_at 17 = .ok (.aload_n 0, 1) := by decide +kernel
theorem dX8_at_18 : decode cX8_at 18 = .ok (.getfield 22, 3) := by decide +kernel
theorem dX8_at_21 : decode cX8_at 21 = .ok (.if_icmp .lt 5, 3) := by decide +kernel
theorem dX8_at_26 : decode cX8_at 26 = .ok (.aload_n 0, 1) := by decide +kernel
theorem dX8_at_27 : decode cX8_at 27 = .ok (.getfield 25, 3) := by decide +kernel
theorem dX8_at_30 : decode cX8_at 30 = .ok (.iload_n 1, 1) := by decide +kernel
theorem dX8_at_31 : decode cX8_at 31 = .ok (.aload_n 0, 1) := by decide +kernel
theorem dX8_at_32 : decode cX8_at 32 = .ok (.getfield 22, 3) := by decide +kernel
theorem dX8_at_35 : decode cX8_at 35 = .ok (.imul, 1) := by decide +kernel
theorem dX8_at_36 : decode cX8_at 36 = .ok (.iload_n 2, 1) := by decide +kernel
theorem dX8_at_37 : decode cX8_at 37 = .ok (.iadd, 1) := by decide +kernel
theorem dX8_at_38 : decode cX8_at 38 = .ok (.iaload, 1) := by decide +kernel
theorem dX8_at_39 : decode cX8_at 39 = .ok (.ireturn, 1) := by decide +kernel
set_option maxHeartbeats 4000000 in
set_option maxRecDepth 100000 in
theorem c_at0 (l : Launch) (g : Gx) (h0 : Nat) (p1 : Int32) (qc : Nat) (v3h0 : Value) (hp : ¬ p1 < 0 ∧ ¬ 5 < p1) : cI l g yX8_at cX8_at 3 (some .int) 0 0 0 0 [.ref h0, .int 0, .int p1] [(h0, .inr (8, [.int 1, .int 6, .ref qc, v3h0])), (qc, .inl (g.2.2.1, 6, .inl (fun _ => 0)))] (fun r w => r = 0 ∧ w = []) := by
  refine cI.of (by decide) (Nat.le_of_ble_eq_true rfl) ?_
  intro p e s m args below meth c A X hr hi
  refine k_lveq [(0, .ref h0), (1, .int 0), (2, .int p1)] rfl ?_
  refine k_iload_n X dX8_at_0 1 rfl ?_
  refine k_if_lt 24 X dX8_at_1 (by decide) (fun h_1 => absurd h_1 (by decide)) (fun _ => ?_)
  refine k_iload_n X dX8_at_4 1 rfl ?_
  refine k_aload_n X dX8_at_5 0 rfl ?_
  refine k_get (ci := 8) X inlX8 rfl 0 (by decide) dX8_at_6 mw8 0 rfl rfl ?_
  refine k_ic_ge 24 X dX8_at_9 (by decide) (fun h_2 => absurd h_2 (by decide)) (fun _ => ?_)
  refine k_iload_n X dX8_at_12 2 rfl ?_
  refine k_if_lt 24 X dX8_at_13 (by decide) (fun h_3 => absurd h_3 hp.1) (fun h_3 => ?_)
  refine k_iload_n X dX8_at_16 2 rfl ?_
  refine k_aload_n X dX8_at_17 0 rfl ?_
  refine k_get (ci := 8) X inlX8 rfl 1 (by decide) dX8_at_18 mw9 0 rfl rfl ?_
  refine k_ic_lt 26 X dX8_at_21 (by decide) (fun h_4 => ?_) (fun h_4 => absurd (i32_5 hp.2) h_4)
  refine k_aload_n X dX8_at_26 0 rfl ?_
  refine k_get (ci := 8) X inlX8 rfl 2 (by decide) dX8_at_27 mw11 0 rfl rfl ?_
  refine k_iload_n X dX8_at_30 1 rfl ?_
  refine k_aload_n X dX8_at_31 0 rfl ?_
  refine k_get (ci := 8) X inlX8 rfl 1 (by decide) dX8_at_32 mw9 0 rfl rfl ?_
  refine k_imul X dX8_at_35 ?_
  refine k_to (0) (by decide) ?_
  refine k_iload_n X dX8_at_36 2 rfl ?_
  refine k_iadd X dX8_at_37 ?_
  refine k_nm (fun z_5 ez_5 => ?_)
  refine k_iald X dX8_at_38 1 rfl (i32_in6 hp.1 (i32_5 hp.2) (by assumption)) ?_
  refine k_to 0 rfl ?_
  exact k_iret X hr dX8_at_39 (Nat.le_of_ble_eq_true rfl) (Nat.le_of_ble_eq_true rfl) [] (by decide) rfl rfl ⟨rfl, rfl⟩

theorem dX3_number_0 : decode cX3_number 0 = .ok (.aload_n 0, 1) := by decide +kernel
theorem dX3_number_1 : decode cX3_number 1 = .ok (.getfield 21, 3) := by decide +kernel
theorem dX3_number_4 : decode cX3_number 4 = .ok (.iconst 0, 1) := by decide +kernel
theorem dX3_number_5 : decode cX3_number 5 = .ok (.iload_n 1, 1) := by decide +kernel
theorem dX3_number_6 : decode cX3_number 6 = .ok (.invokevirtual 43, 3) := by decide +kernel
theorem dX3_number_9 : decode cX3_number 9 = .ok (.ireturn, 1) := by decide +kernel
set_option maxHeartbeats 4000000 in
set_option maxRecDepth 100000 in
theorem c_number (l : Launch) (g : Gx) (h0 : Nat) (p0 : Int32) (v0h0 : Value) (nu : Nat) (v2h0 : Value) (v3h0 : Value) (v4h0 : Value) (v5h0 : Value) (v6h0 : Value) (v7h0 : Value) (qc : Nat) (v3nu : Value) (hp : ¬ p0 < 0 ∧ ¬ 5 < p0) : cI l g yX3_number cX3_number 2 (some .int) 1 22 0 0 [.ref h0, .int p0] [(h0, .inr (3, [v0h0, .ref nu, v2h0, v3h0, v4h0, v5h0, v6h0, v7h0])), (nu, .inr (8, [.int 1, .int 6, .ref qc, v3nu])), (qc, .inl (g.2.2.1, 6, .inl (fun _ => 0)))] (fun r w => r = 0 ∧ w = []) := by
  refine cI.of (by decide) (Nat.le_of_ble_eq_true rfl) ?_
  intro p e s m args below meth c A X hr hi
  refine k_lveq [(0, .ref h0), (1, .int p0)] rfl ?_
  refine k_aload_n X dX3_number_0 0 rfl ?_
  refine k_get (ci := 3) X inlX3 rfl 1 (by decide) dX3_number_1 mw42 0 rfl rfl ?_
  refine k_iconst (v := 0) X dX3_number_4 (by decide) ?_
  refine k_iload_n X dX3_number_5 1 rfl ?_
  refine k_callVI (n := 2) (As := [.int 0, .int p0]) (st := []) X [(nu, .inr (8, [.int 1, .int 6, .ref qc, v3nu])), (qc, .inl (g.2.2.1, 6, .inl (fun _ => 0)))] [(h0, .inr (3, [v0h0, .ref nu, v2h0, v3h0, v4h0, v5h0, v6h0, v7h0]))] [1, 2] [0] (c_at0 l g nu p0 qc v3nu hp) dX3_number_6 mw365 mw366 mw367 mw15 mw368 rfl 8 rfl rfl 0 _ rfl (by unfold yOk; decide) rfl (Nat.le_of_ble_eq_true rfl) (Nat.le_of_ble_eq_true rfl) (Nat.le_of_ble_eq_true rfl) (Nat.le_of_ble_eq_true rfl) (Nat.le_of_ble_eq_true rfl) rfl rfl (by decide) rfl (by decide) (by decide) ?_
  rintro r w ⟨rfl, rfl⟩
  refine k_ws [(h0, .inr (3, [v0h0, .ref nu, v2h0, v3h0, v4h0, v5h0, v6h0, v7h0]))] rfl ?_
  exact k_iret X hr dX3_number_9 (Nat.le_of_ble_eq_true rfl) (Nat.le_of_ble_eq_true rfl) [] (by decide) rfl rfl ⟨rfl, rfl⟩

theorem dJ6_bitCount_0f7a4_0 : decode cJ6_bitCount_0f7a4 0 = .ok (.iload_n 0, 1) := by decide +kernel
theorem dJ6_bitCount_0f7a4_1 : decode cJ6_bitCount_0f7a4 1 = .ok (.iload_n 0, 1) := by decide +kernel
theorem dJ6_bitCount_0f7a4_2 : decode cJ6_bitCount_0f7a4 2 = .ok (.iconst 1, 1) := by decide +kernel
theorem dJ6_bitCount_0f7a4_3 : decode cJ6_bitCount_0f7a4 3 = .ok (.iushr, 1) := by decide +kernel
theorem dJ6_bitCount_0f7a4_4 : decode cJ6_bitCount_0f7a4 4 = .ok (.ldc_w 265, 3) := by decide +kernel
theorem dJ6_bitCount_0f7a4_7 : decode cJ6_bitCount_0f7a4 7 = .ok (.iand, 1) := by decide +kernel
theorem dJ6_bitCount_0f7a4_8 : decode cJ6_bitCount_0f7a4 8 = .ok (.isub, 1) := by decide +kernel
theorem dJ6_bitCount_0f7a4_9 : decode cJ6_bitCount_0f7a4 9 = .ok (.istore_n 0, 1) := by decide +kernel
theorem dJ6_bitCount_0f7a4_10 : decode cJ6_bitCount_0f7a4 10 = .ok (.iload_n 0, 1) := by decide +kernel
theorem dJ6_bitCount_0f7a4_11 : decode cJ6_bitCount_0f7a4 11 = .ok (.ldc_w 266, 3) := by decide +kernel
theorem dJ6_bitCount_0f7a4_14 : decode cJ6_bitCount_0f7a4 14 = .ok (.iand, 1) := by decide +kernel
theorem dJ6_bitCount_0f7a4_15 : decode cJ6_bitCount_0f7a4 15 = .ok (.iload_n 0, 1) := by decide +kernel
theorem dJ6_bitCount_0f7a4_16 : decode cJ6_bitCount_0f7a4 16 = .ok (.iconst 2, 1) := by decide +kernel
theorem dJ6_bitCount_0f7a4_17 : decode cJ6_bitCount_0f7a4 17 = .ok (.iushr, 1) := by decide +kernel
theorem dJ6_bitCount_0f7a4_18 : decode cJ6_bitCount_0f7a4 18 = .ok (.ldc_w 266, 3) := by decide +kernel
theorem dJ6_bitCount_0f7a4_21 : decode cJ6_bitCount_0f7a4 21 = .ok (.iand, 1) := by decide +kernel
theorem dJ6_bitCount_0f7a4_22 : decode cJ6_bitCount_0f7a4 22 = .ok (.iadd, 1) := by decide +kernel
theorem dJ6_bitCount_0f7a4_23 : decode cJ6_bitCount_0f7a4 23 = .ok (.istore_n 0, 1) := by decide +kernel
theorem dJ6_bitCount_0f7a4_24 : decode cJ6_bitCount_0f7a4 24 = .ok (.iload_n 0, 1) := by decide +kernel
theorem dJ6_bitCount_0f7a4_25 : decode cJ6_bitCount_0f7a4 25 = .ok (.iload_n 0, 1) := by decide +kernel
theorem dJ6_bitCount_0f7a4_26 : decode cJ6_bitCount_0f7a4 26 = .ok (.iconst 4, 1) := by decide +kernel
theorem dJ6_bitCount_0f7a4_27 : decode cJ6_bitCount_0f7a4 27 = .ok (.iushr, 1) := by decide +kernel
theorem dJ6_bitCount_0f7a4_28 : decode cJ6_bitCount_0f7a4 28 = .ok (.iadd, 1) := by decide +kernel
theorem dJ6_bitCount_0f7a4_29 : decode cJ6_bitCount_0f7a4 29 = .ok (.ldc_w 267, 3) := by decide +kernel
theorem dJ6_bitCount_0f7a4_32 : decode cJ6_bitCount_0f7a4 32 = .ok (.iand, 1) := by decide +kernel
theorem dJ6_bitCount_0f7a4_33 : decode cJ6_bitCount_0f7a4 33 = .ok (.istore_n 0, 1) := by decide +kernel
theorem dJ6_bitCount_0f7a4_34 : decode cJ6_bitCount_0f7a4 34 = .ok (.iload_n 0, 1) := by decide +kernel
theorem dJ6_bitCount_0f7a4_35 : decode cJ6_bitCount_0f7a4 35 = .ok (.iload_n 0, 1) := by decide +kernel
theorem dJ6_bitCount_0f7a4_36 : decode cJ6_bitCount_0f7a4 36 = .ok (.bipush 8, 2) := by decide +kernel
theorem dJ6_bitCount_0f7a4_38 : decode cJ6_bitCount_0f7a4 38 = .ok (.iushr, 1) := by decide +kernel
theorem dJ6_bitCount_0f7a4_39 : decode cJ6_bitCount_0f7a4 39 = .ok (.iadd, 1) := by decide +kernel
theorem dJ6_bitCount_0f7a4_40 : decode cJ6_bitCount_0f7a4 40 = .ok (.istore_n 0, 1) := by decide +kernel
theorem dJ6_bitCount_0f7a4_41 : decode cJ6_bitCount_0f7a4 41 = .ok (.iload_n 0, 1) := by decide +kernel
theorem dJ6_bitCount_0f7a4_42 : decode cJ6_bitCount_0f7a4 42 = .ok (.iload_n 0, 1) := by decide +kernel
theorem dJ6_bitCount_0f7a4_43 : decode cJ6_bitCount_0f7a4 43 = .ok (.bipush 16, 2) := by decide +kernel
theorem dJ6_bitCount_0f7a4_45 : decode cJ6_bitCount_0f7a4 45 = .ok (.iushr, 1) := by decide +kernel
theorem dJ6_bitCount_0f7a4_46 : decode cJ6_bitCount_0f7a4 46 = .ok (.iadd, 1) := by decide +kernel
theorem dJ6_bitCount_0f7a4_47 : decode cJ6_bitCount_0f7a4 47 = .ok (.istore_n 0, 1) := by decide +kernel
theorem dJ6_bitCount_0f7a4_48 : decode cJ6_bitCount_0f7a4 48 = .ok (.iload_n 0, 1) := by decide +kernel
theorem dJ6_bitCount_0f7a4_49 : decode cJ6_bitCount_0f7a4 49 = .ok (.bipush 63, 2) := by decide +kernel
theorem dJ6_bitCount_0f7a4_51 : decode cJ6_bitCount_0f7a4 51 = .ok (.iand, 1) := by decide +kernel
theorem dJ6_bitCount_0f7a4_52 : decode cJ6_bitCount_0f7a4 52 = .ok (.ireturn, 1) := by decide +kernel
set_option maxHeartbeats 4000000 in
set_option maxRecDepth 100000 in
theorem j_bitCount (l : Launch) (g : Gx) : cI l g yJ6_bitCount_0f7a4 cJ6_bitCount_0f7a4 1 (some .int) 0 0 0 0 [.int 0] [] (fun r w => r = 0 ∧ w = []) := by
  refine cI.of (by decide) (Nat.le_of_ble_eq_true rfl) ?_
  intro p e s m args below meth c A X hr hi
  refine k_lveq [(0, .int 0)] rfl ?_
  refine k_iload_n X dJ6_bitCount_0f7a4_0 0 rfl ?_
  refine k_iload_n X dJ6_bitCount_0f7a4_1 0 rfl ?_
  refine k_iconst (v := 1) X dJ6_bitCount_0f7a4_2 (by decide) ?_
  refine k_iushr X dJ6_bitCount_0f7a4_3 ?_
  refine k_to (0) (by decide) ?_
  refine k_ldcw (v := 1431655765) X dJ6_bitCount_0f7a4_4 mw369 ?_
  refine k_iand X dJ6_bitCount_0f7a4_7 ?_
  refine k_to (0) (by decide) ?_
  refine k_isub X dJ6_bitCount_0f7a4_8 ?_
  refine k_to (0) (by decide) ?_
  refine k_istore_n [(0, .int 0)] X dJ6_bitCount_0f7a4_9 (by decide) rfl ?_
  refine k_iload_n X dJ6_bitCount_0f7a4_10 0 rfl ?_
  refine k_ldcw (v := 858993459) X dJ6_bitCount_0f7a4_11 mw370 ?_
  refine k_iand X dJ6_bitCount_0f7a4_14 ?_
  refine k_to (0) (by decide) ?_
  refine k_iload_n X dJ6_bitCount_0f7a4_15 0 rfl ?_
  refine k_iconst (v := 2) X dJ6_bitCount_0f7a4_16 (by decide) ?_
  refine k_iushr X dJ6_bitCount_0f7a4_17 ?_
  refine k_to (0) (by decide) ?_
  refine k_ldcw (v := 858993459) X dJ6_bitCount_0f7a4_18 mw370 ?_
  refine k_iand X dJ6_bitCount_0f7a4_21 ?_
  refine k_to (0) (by decide) ?_
  refine k_iadd X dJ6_bitCount_0f7a4_22 ?_
  refine k_to (0) (by decide) ?_
  refine k_istore_n [(0, .int 0)] X dJ6_bitCount_0f7a4_23 (by decide) rfl ?_
  refine k_iload_n X dJ6_bitCount_0f7a4_24 0 rfl ?_
  refine k_iload_n X dJ6_bitCount_0f7a4_25 0 rfl ?_
  refine k_iconst (v := 4) X dJ6_bitCount_0f7a4_26 (by decide) ?_
  refine k_iushr X dJ6_bitCount_0f7a4_27 ?_
  refine k_to (0) (by decide) ?_
  refine k_iadd X dJ6_bitCount_0f7a4_28 ?_
  refine k_to (0) (by decide) ?_
  refine k_ldcw (v := 252645135) X dJ6_bitCount_0f7a4_29 mw371 ?_
  refine k_iand X dJ6_bitCount_0f7a4_32 ?_
  refine k_to (0) (by decide) ?_
  refine k_istore_n [(0, .int 0)] X dJ6_bitCount_0f7a4_33 (by decide) rfl ?_
  refine k_iload_n X dJ6_bitCount_0f7a4_34 0 rfl ?_
  refine k_iload_n X dJ6_bitCount_0f7a4_35 0 rfl ?_
  refine k_bipush (v := 8) X dJ6_bitCount_0f7a4_36 (by decide) ?_
  refine k_iushr X dJ6_bitCount_0f7a4_38 ?_
  refine k_to (0) (by decide) ?_
  refine k_iadd X dJ6_bitCount_0f7a4_39 ?_
  refine k_to (0) (by decide) ?_
  refine k_istore_n [(0, .int 0)] X dJ6_bitCount_0f7a4_40 (by decide) rfl ?_
  refine k_iload_n X dJ6_bitCount_0f7a4_41 0 rfl ?_
  refine k_iload_n X dJ6_bitCount_0f7a4_42 0 rfl ?_
  refine k_bipush (v := 16) X dJ6_bitCount_0f7a4_43 (by decide) ?_
  refine k_iushr X dJ6_bitCount_0f7a4_45 ?_
  refine k_to (0) (by decide) ?_
  refine k_iadd X dJ6_bitCount_0f7a4_46 ?_
  refine k_to (0) (by decide) ?_
  refine k_istore_n [(0, .int 0)] X dJ6_bitCount_0f7a4_47 (by decide) rfl ?_
  refine k_iload_n X dJ6_bitCount_0f7a4_48 0 rfl ?_
  refine k_bipush (v := 63) X dJ6_bitCount_0f7a4_49 (by decide) ?_
  refine k_iand X dJ6_bitCount_0f7a4_51 ?_
  refine k_to (0) (by decide) ?_
  exact k_iret X hr dJ6_bitCount_0f7a4_52 (Nat.le_of_ble_eq_true rfl) (Nat.le_of_ble_eq_true rfl) [] (by decide) rfl rfl ⟨rfl, rfl⟩

theorem dX10_size_0 : decode cX10_size 0 = .ok (.iload_n 1, 1) := by decide +kernel
theorem dX10_size_1 : decode cX10_size 1 = .ok (.ifCond .lt 17, 3) := by decide +kernel
theorem dX10_size_4 : decode cX10_size 4 = .ok (.iload_n 1, 1) := by decide +kernel
theorem dX10_size_5 : decode cX10_size 5 = .ok (.iconst 5, 1) := by decide +kernel
theorem dX10_size_6 : decode cX10_size 6 = .ok (.if_icmp .gt 12, 3) := by decide +kernel
theorem dX10_size_9 : decode cX10_size 9 = .ok (.aload_n 0, 1) := by decide +kernel
theorem dX10_size_10 : decode cX10_size 10 = .ok (.getfield 19, 3) := by decide +kernel
theorem dX10_size_13 : decode cX10_size 13 = .ok (.iload_n 1, 1) := by decide +kernel
theorem dX10_size_14 : decode cX10_size 14 = .ok (.invokevirtual 287, 3) := by decide +kernel
theorem dX10_size_17 : decode cX10_size 17 = .ok (.ireturn, 1) := by decide +kernel
theorem dX10_size_18 : decode cX10_size 18 = .ok (.iload_n 1, 1) := by decide +kernel
theorem dX10_size_19 : decode cX10_size 19 = .ok (.tableswitch 195 6 17 #[61, 72, 83, 94, 116, 127, 138, 149, 160, 171, 179, 187], 61) := by decide +kernel
theorem dX10_size_80 : decode cX10_size 80 = .ok (.aload_n 0, 1) := by decide +kernel
theorem dX10_size_81 : decode cX10_size 81 = .ok (.getfield 26, 3) := by decide +kernel
theorem dX10_size_84 : decode cX10_size 84 = .ok (.getfield 124, 3) := by decide +kernel
theorem dX10_size_87 : decode cX10_size 87 = .ok (.getfield 113, 3) := by decide +kernel
theorem dX10_size_90 : decode cX10_size 90 = .ok (.ireturn, 1) := by decide +kernel
theorem dX10_size_91 : decode cX10_size 91 = .ok (.aload_n 0, 1) := by decide +kernel
theorem dX10_size_92 : decode cX10_size 92 = .ok (.getfield 19, 3) := by decide +kernel
theorem dX10_size_95 : decode cX10_size 95 = .ok (.getfield 150, 3) := by decide +kernel
theorem dX10_size_98 : decode cX10_size 98 = .ok (.getfield 113, 3) := by decide +kernel
theorem dX10_size_101 : decode cX10_size 101 = .ok (.ireturn, 1) := by decide +kernel
theorem dX10_size_102 : decode cX10_size 102 = .ok (.aload_n 0, 1) := by decide +kernel
theorem dX10_size_103 : decode cX10_size 103 = .ok (.getfield 26, 3) := by decide +kernel
theorem dX10_size_106 : decode cX10_size 106 = .ok (.getfield 131, 3) := by decide +kernel
theorem dX10_size_109 : decode cX10_size 109 = .ok (.getfield 113, 3) := by decide +kernel
theorem dX10_size_112 : decode cX10_size 112 = .ok (.ireturn, 1) := by decide +kernel
theorem dX10_size_113 : decode cX10_size 113 = .ok (.aload_n 0, 1) := by decide +kernel
theorem dX10_size_114 : decode cX10_size 114 = .ok (.getfield 19, 3) := by decide +kernel
theorem dX10_size_117 : decode cX10_size 117 = .ok (.getfield 138, 3) := by decide +kernel
theorem dX10_size_120 : decode cX10_size 120 = .ok (.getfield 113, 3) := by decide +kernel
theorem dX10_size_123 : decode cX10_size 123 = .ok (.aload_n 0, 1) := by decide +kernel
theorem dX10_size_124 : decode cX10_size 124 = .ok (.getfield 26, 3) := by decide +kernel
theorem dX10_size_127 : decode cX10_size 127 = .ok (.getfield 366, 3) := by decide +kernel
theorem dX10_size_130 : decode cX10_size 130 = .ok (.invokestatic 369, 3) := by decide +kernel
theorem dX10_size_133 : decode cX10_size 133 = .ok (.iadd, 1) := by decide +kernel
theorem dX10_size_134 : decode cX10_size 134 = .ok (.ireturn, 1) := by decide +kernel
theorem dX10_size_135 : decode cX10_size 135 = .ok (.aload_n 0, 1) := by decide +kernel
theorem dX10_size_136 : decode cX10_size 136 = .ok (.getfield 26, 3) := by decide +kernel
theorem dX10_size_139 : decode cX10_size 139 = .ok (.getfield 144, 3) := by decide +kernel
theorem dX10_size_142 : decode cX10_size 142 = .ok (.getfield 113, 3) := by decide +kernel
theorem dX10_size_145 : decode cX10_size 145 = .ok (.ireturn, 1) := by decide +kernel
theorem dX10_size_146 : decode cX10_size 146 = .ok (.aload_n 0, 1) := by decide +kernel
theorem dX10_size_147 : decode cX10_size 147 = .ok (.getfield 19, 3) := by decide +kernel
theorem dX10_size_150 : decode cX10_size 150 = .ok (.getfield 191, 3) := by decide +kernel
theorem dX10_size_153 : decode cX10_size 153 = .ok (.getfield 113, 3) := by decide +kernel
theorem dX10_size_156 : decode cX10_size 156 = .ok (.ireturn, 1) := by decide +kernel
theorem dX10_size_157 : decode cX10_size 157 = .ok (.aload_n 0, 1) := by decide +kernel
theorem dX10_size_158 : decode cX10_size 158 = .ok (.getfield 26, 3) := by decide +kernel
theorem dX10_size_161 : decode cX10_size 161 = .ok (.getfield 109, 3) := by decide +kernel
theorem dX10_size_164 : decode cX10_size 164 = .ok (.getfield 113, 3) := by decide +kernel
theorem dX10_size_167 : decode cX10_size 167 = .ok (.ireturn, 1) := by decide +kernel
theorem dX10_size_168 : decode cX10_size 168 = .ok (.aload_n 0, 1) := by decide +kernel
theorem dX10_size_169 : decode cX10_size 169 = .ok (.getfield 19, 3) := by decide +kernel
theorem dX10_size_172 : decode cX10_size 172 = .ok (.getfield 188, 3) := by decide +kernel
theorem dX10_size_175 : decode cX10_size 175 = .ok (.getfield 113, 3) := by decide +kernel
theorem dX10_size_178 : decode cX10_size 178 = .ok (.ireturn, 1) := by decide +kernel
theorem dX10_size_179 : decode cX10_size 179 = .ok (.aload_n 0, 1) := by decide +kernel
theorem dX10_size_180 : decode cX10_size 180 = .ok (.getfield 19, 3) := by decide +kernel
theorem dX10_size_183 : decode cX10_size 183 = .ok (.getfield 256, 3) := by decide +kernel
theorem dX10_size_186 : decode cX10_size 186 = .ok (.getfield 113, 3) := by decide +kernel
theorem dX10_size_189 : decode cX10_size 189 = .ok (.ireturn, 1) := by decide +kernel
theorem dX10_size_190 : decode cX10_size 190 = .ok (.aload_n 0, 1) := by decide +kernel
theorem dX10_size_191 : decode cX10_size 191 = .ok (.getfield 33, 3) := by decide +kernel
theorem dX10_size_194 : decode cX10_size 194 = .ok (.getfield 372, 3) := by decide +kernel
theorem dX10_size_197 : decode cX10_size 197 = .ok (.ireturn, 1) := by decide +kernel
theorem dX10_size_198 : decode cX10_size 198 = .ok (.aload_n 0, 1) := by decide +kernel
theorem dX10_size_199 : decode cX10_size 199 = .ok (.getfield 33, 3) := by decide +kernel
theorem dX10_size_202 : decode cX10_size 202 = .ok (.getfield 375, 3) := by decide +kernel
theorem dX10_size_205 : decode cX10_size 205 = .ok (.ireturn, 1) := by decide +kernel
theorem dX10_size_206 : decode cX10_size 206 = .ok (.aload_n 0, 1) := by decide +kernel
theorem dX10_size_207 : decode cX10_size 207 = .ok (.getfield 10, 3) := by decide +kernel
theorem dX10_size_210 : decode cX10_size 210 = .ok (.getfield 76, 3) := by decide +kernel
theorem dX10_size_213 : decode cX10_size 213 = .ok (.ireturn, 1) := by decide +kernel
theorem dX10_size_214 : decode cX10_size 214 = .ok (.iconst (-1), 1) := by decide +kernel
theorem dX10_size_215 : decode cX10_size 215 = .ok (.ireturn, 1) := by decide +kernel
set_option maxHeartbeats 4000000 in
set_option maxRecDepth 100000 in
theorem m_size (l : Launch) (g : Gx) (h0 : Nat) (p0 : Int32) (tx : Nat) (tl : Nat) (nw : Nat) (kp : Nat) (v4h0 : Value) (v5h0 : Value) (v6h0 : Value) (v7h0 : Value) (v8h0 : Value) (v9h0 : Value) (v1tx : Value) (v2tx : Value) (v3tx : Value) (v4tx : Value) (v5tx : Value) (v6tx : Value) (v7tx : Value) (v8tx : Value) (v9tx : Value) (v10tx : Value) (v11tx : Value) (v12tx : Value) (v13tx : Value) (v14tx : Value) (xs : Nat) (xhn : Nat) (xht : Nat) (xhj : Nat) (xhm : Nat) (xhb : Nat) (xhs : Nat) (xhc : Nat) (xhnc : Nat) (v0xht : Value) (v1xht : Value) (v2xht : Value) (v0xhj : Value) (v1xhj : Value) (v2xhj : Value) (v0xhm : Value) (v1xhm : Value) (v2xhm : Value) (v0xhb : Value) (v1xhb : Value) (v2xhb : Value) (v0xhs : Value) (v1xhs : Value) (v2xhs : Value) (v0xhc : Value) (v1xhc : Value) (v2xhc : Value) (ur : Nat) (um : Nat) (uw : Nat) (up : Nat) (v0ur : Value) (v1ur : Value) (v2ur : Value) (v0um : Value) (v1um : Value) (v2um : Value) (v0uw : Value) (v1uw : Value) (v2uw : Value) (v0up : Value) (v1up : Value) (v2up : Value) (v0kp : Value) (v1kp : Value) (v3kp : Value) : cI l g yX10_size cX10_size 2 (some .int) 2 43 0 0 [.ref h0, .int p0] [(h0, .inr (10, [.ref tx, .ref tl, .ref nw, .ref kp, v4h0, v5h0, v6h0, v7h0, v8h0, v9h0])), (tx, .inr (9, [.int 0, v1tx, v2tx, v3tx, v4tx, v5tx, v6tx, v7tx, v8tx, v9tx, v10tx, v11tx, v12tx, v13tx, v14tx])), (tl, .inr (3, [.ref xs, .ref xhn, .ref xht, .ref xhj, .ref xhm, .ref xhb, .ref xhs, .ref xhc])), (xhn, .inr (8, [.int 1, .int 6, .ref xhnc, .int 0])), (xhnc, .inl (g.2.2.1, 6, .inl (fun _ => 0))), (xht, .inr (8, [v0xht, v1xht, v2xht, .int 0])), (xhj, .inr (8, [v0xhj, v1xhj, v2xhj, .int 0])), (xhm, .inr (8, [v0xhm, v1xhm, v2xhm, .int 0])), (xhb, .inr (8, [v0xhb, v1xhb, v2xhb, .int 0])), (xhs, .inr (8, [v0xhs, v1xhs, v2xhs, .int 0])), (xhc, .inr (8, [v0xhc, v1xhc, v2xhc, .int 0])), (nw, .inr (7, [.ref ur, .ref um, .ref uw, .ref up, .int 0, .int 0])), (ur, .inr (8, [v0ur, v1ur, v2ur, .int 0])), (um, .inr (8, [v0um, v1um, v2um, .int 0])), (uw, .inr (8, [v0uw, v1uw, v2uw, .int 0])), (up, .inr (8, [v0up, v1up, v2up, .int 0])), (kp, .inr (4, [v0kp, v1kp, .int 0, v3kp, .int 0]))] (fun r w => (r = 0 ∧ (¬ p0 < 0 ∧ ¬ 17 < p0) ∧ w = []) ∨ (r = (-1) ∧ (p0 < 0 ∨ 17 < p0) ∧ w = [])) := by
  refine cI.of (by decide) (Nat.le_of_ble_eq_true rfl) ?_
  intro p e s m args below meth c A X hr hi
  refine k_lveq [(0, .ref h0), (1, .int p0)] rfl ?_
  refine k_iload_n X dX10_size_0 1 rfl ?_
  refine k_if_lt 18 X dX10_size_1 (by decide) (fun h_1 => ?_) (fun h_1 => ?_)
  · skip
    refine k_iload_n X dX10_size_18 1 rfl ?_
    refine k_tableOut 214 X dX10_size_19 (i32_tOut (Or.inl h_1)) (by decide) ?_
    refine k_iconst (v := -1) X dX10_size_214 (by decide) ?_
    exact k_iret X hr dX10_size_215 (Nat.le_of_ble_eq_true rfl) (Nat.le_of_ble_eq_true rfl) [] (by decide) rfl rfl (Or.inr ⟨rfl, (by first | exact Or.inl (by assumption) | exact Or.inr (by assumption)), rfl⟩)
  · skip
    refine k_iload_n X dX10_size_4 1 rfl ?_
    refine k_iconst (v := 5) X dX10_size_5 (by decide) ?_
    refine k_ic_gt 18 X dX10_size_6 (by decide) (fun h_2 => ?_) (fun h_2 => ?_)
    · skip
      refine k_iload_n X dX10_size_18 1 rfl ?_
      rcases i32_sz h_2 with rfl | rfl | rfl | rfl | rfl | rfl | rfl | rfl | rfl | rfl | rfl | rfl | h17
      · skip
        refine k_tableIn 80 X dX10_size_19 (by decide) (by decide) rfl (by decide) ?_
        refine k_aload_n X dX10_size_80 0 rfl ?_
        refine k_get (ci := 10) X inlX10 rfl 2 (by decide) dX10_size_81 mw128 0 rfl rfl ?_
        refine k_get (ci := 7) X inlX7 rfl 0 (by decide) dX10_size_84 mw181 11 rfl rfl ?_
        refine k_get (ci := 8) X inlX8 rfl 3 (by decide) dX10_size_87 mw168 12 rfl rfl ?_
        exact k_iret X hr dX10_size_90 (Nat.le_of_ble_eq_true rfl) (Nat.le_of_ble_eq_true rfl) [] (by decide) rfl rfl (Or.inl ⟨rfl, (by first | decide | exact ⟨by assumption, i32_517 (by assumption)⟩ | exact ⟨by assumption, by assumption⟩), rfl⟩)
      · skip
        refine k_tableIn 91 X dX10_size_19 (by decide) (by decide) rfl (by decide) ?_
        refine k_aload_n X dX10_size_91 0 rfl ?_
        refine k_get (ci := 10) X inlX10 rfl 1 (by decide) dX10_size_92 mw126 0 rfl rfl ?_
        refine k_get (ci := 3) X inlX3 rfl 2 (by decide) dX10_size_95 mw372 2 rfl rfl ?_
        refine k_get (ci := 8) X inlX8 rfl 3 (by decide) dX10_size_98 mw168 5 rfl rfl ?_
        exact k_iret X hr dX10_size_101 (Nat.le_of_ble_eq_true rfl) (Nat.le_of_ble_eq_true rfl) [] (by decide) rfl rfl (Or.inl ⟨rfl, (by first | decide | exact ⟨by assumption, i32_517 (by assumption)⟩ | exact ⟨by assumption, by assumption⟩), rfl⟩)
      · skip
        refine k_tableIn 102 X dX10_size_19 (by decide) (by decide) rfl (by decide) ?_
        refine k_aload_n X dX10_size_102 0 rfl ?_
        refine k_get (ci := 10) X inlX10 rfl 2 (by decide) dX10_size_103 mw128 0 rfl rfl ?_
        refine k_get (ci := 7) X inlX7 rfl 1 (by decide) dX10_size_106 mw373 11 rfl rfl ?_
        refine k_get (ci := 8) X inlX8 rfl 3 (by decide) dX10_size_109 mw168 13 rfl rfl ?_
        exact k_iret X hr dX10_size_112 (Nat.le_of_ble_eq_true rfl) (Nat.le_of_ble_eq_true rfl) [] (by decide) rfl rfl (Or.inl ⟨rfl, (by first | decide | exact ⟨by assumption, i32_517 (by assumption)⟩ | exact ⟨by assumption, by assumption⟩), rfl⟩)
      · skip
        refine k_tableIn 113 X dX10_size_19 (by decide) (by decide) rfl (by decide) ?_
        refine k_aload_n X dX10_size_113 0 rfl ?_
        refine k_get (ci := 10) X inlX10 rfl 1 (by decide) dX10_size_114 mw126 0 rfl rfl ?_
        refine k_get (ci := 3) X inlX3 rfl 3 (by decide) dX10_size_117 mw374 2 rfl rfl ?_
        refine k_get (ci := 8) X inlX8 rfl 3 (by decide) dX10_size_120 mw168 6 rfl rfl ?_
        refine k_aload_n X dX10_size_123 0 rfl ?_
        refine k_get (ci := 10) X inlX10 rfl 2 (by decide) dX10_size_124 mw128 0 rfl rfl ?_
        refine k_get (ci := 7) X inlX7 rfl 4 (by decide) dX10_size_127 mw375 11 rfl rfl ?_
        refine k_callSI (n := 1) (As := [.int 0]) (st := [.int 0]) X [] [(h0, .inr (10, [.ref tx, .ref tl, .ref nw, .ref kp, v4h0, v5h0, v6h0, v7h0, v8h0, v9h0])), (tx, .inr (9, [.int 0, v1tx, v2tx, v3tx, v4tx, v5tx, v6tx, v7tx, v8tx, v9tx, v10tx, v11tx, v12tx, v13tx, v14tx])), (tl, .inr (3, [.ref xs, .ref xhn, .ref xht, .ref xhj, .ref xhm, .ref xhb, .ref xhs, .ref xhc])), (xhn, .inr (8, [.int 1, .int 6, .ref xhnc, .int 0])), (xhnc, .inl (g.2.2.1, 6, .inl (fun _ => 0))), (xht, .inr (8, [v0xht, v1xht, v2xht, .int 0])), (xhj, .inr (8, [v0xhj, v1xhj, v2xhj, .int 0])), (xhm, .inr (8, [v0xhm, v1xhm, v2xhm, .int 0])), (xhb, .inr (8, [v0xhb, v1xhb, v2xhb, .int 0])), (xhs, .inr (8, [v0xhs, v1xhs, v2xhs, .int 0])), (xhc, .inr (8, [v0xhc, v1xhc, v2xhc, .int 0])), (nw, .inr (7, [.ref ur, .ref um, .ref uw, .ref up, .int 0, .int 0])), (ur, .inr (8, [v0ur, v1ur, v2ur, .int 0])), (um, .inr (8, [v0um, v1um, v2um, .int 0])), (uw, .inr (8, [v0uw, v1uw, v2uw, .int 0])), (up, .inr (8, [v0up, v1up, v2up, .int 0])), (kp, .inr (4, [v0kp, v1kp, .int 0, v3kp, .int 0]))] [] [0, 1, 2, 3, 4, 5, 6, 7, 8, 9, 10, 11, 12, 13, 14, 15, 16] (j_bitCount l g ) dX10_size_130 mw376 mw377 mw378 mw379 (by unfold yOk; decide) rfl (Nat.le_of_ble_eq_true rfl) (Nat.le_of_ble_eq_true rfl) (Nat.le_of_ble_eq_true rfl) (Nat.le_of_ble_eq_true rfl) (Nat.le_of_ble_eq_true rfl) rfl rfl (by decide) rfl (by decide) (by decide) ?_
        rintro r w ⟨rfl, rfl⟩
        refine k_ws [(h0, .inr (10, [.ref tx, .ref tl, .ref nw, .ref kp, v4h0, v5h0, v6h0, v7h0, v8h0, v9h0])), (tx, .inr (9, [.int 0, v1tx, v2tx, v3tx, v4tx, v5tx, v6tx, v7tx, v8tx, v9tx, v10tx, v11tx, v12tx, v13tx, v14tx])), (tl, .inr (3, [.ref xs, .ref xhn, .ref xht, .ref xhj, .ref xhm, .ref xhb, .ref xhs, .ref xhc])), (xhn, .inr (8, [.int 1, .int 6, .ref xhnc, .int 0])), (xhnc, .inl (g.2.2.1, 6, .inl (fun _ => 0))), (xht, .inr (8, [v0xht, v1xht, v2xht, .int 0])), (xhj, .inr (8, [v0xhj, v1xhj, v2xhj, .int 0])), (xhm, .inr (8, [v0xhm, v1xhm, v2xhm, .int 0])), (xhb, .inr (8, [v0xhb, v1xhb, v2xhb, .int 0])), (xhs, .inr (8, [v0xhs, v1xhs, v2xhs, .int 0])), (xhc, .inr (8, [v0xhc, v1xhc, v2xhc, .int 0])), (nw, .inr (7, [.ref ur, .ref um, .ref uw, .ref up, .int 0, .int 0])), (ur, .inr (8, [v0ur, v1ur, v2ur, .int 0])), (um, .inr (8, [v0um, v1um, v2um, .int 0])), (uw, .inr (8, [v0uw, v1uw, v2uw, .int 0])), (up, .inr (8, [v0up, v1up, v2up, .int 0])), (kp, .inr (4, [v0kp, v1kp, .int 0, v3kp, .int 0]))] rfl ?_
        refine k_iadd X dX10_size_133 ?_
        refine k_to (0) (by decide) ?_
        exact k_iret X hr dX10_size_134 (Nat.le_of_ble_eq_true rfl) (Nat.le_of_ble_eq_true rfl) [] (by decide) rfl rfl (Or.inl ⟨rfl, (by first | decide | exact ⟨by assumption, i32_517 (by assumption)⟩ | exact ⟨by assumption, by assumption⟩), rfl⟩)
      · skip
        refine k_tableIn 135 X dX10_size_19 (by decide) (by decide) rfl (by decide) ?_
        refine k_aload_n X dX10_size_135 0 rfl ?_
        refine k_get (ci := 10) X inlX10 rfl 2 (by decide) dX10_size_136 mw128 0 rfl rfl ?_
        refine k_get (ci := 7) X inlX7 rfl 2 (by decide) dX10_size_139 mw207 11 rfl rfl ?_
        refine k_get (ci := 8) X inlX8 rfl 3 (by decide) dX10_size_142 mw168 14 rfl rfl ?_
        exact k_iret X hr dX10_size_145 (Nat.le_of_ble_eq_true rfl) (Nat.le_of_ble_eq_true rfl) [] (by decide) rfl rfl (Or.inl ⟨rfl, (by first | decide | exact ⟨by assumption, i32_517 (by assumption)⟩ | exact ⟨by assumption, by assumption⟩), rfl⟩)
      · skip
        refine k_tableIn 146 X dX10_size_19 (by decide) (by decide) rfl (by decide) ?_
        refine k_aload_n X dX10_size_146 0 rfl ?_
        refine k_get (ci := 10) X inlX10 rfl 1 (by decide) dX10_size_147 mw126 0 rfl rfl ?_
        refine k_get (ci := 3) X inlX3 rfl 4 (by decide) dX10_size_150 mw169 2 rfl rfl ?_
        refine k_get (ci := 8) X inlX8 rfl 3 (by decide) dX10_size_153 mw168 7 rfl rfl ?_
        exact k_iret X hr dX10_size_156 (Nat.le_of_ble_eq_true rfl) (Nat.le_of_ble_eq_true rfl) [] (by decide) rfl rfl (Or.inl ⟨rfl, (by first | decide | exact ⟨by assumption, i32_517 (by assumption)⟩ | exact ⟨by assumption, by assumption⟩), rfl⟩)
      · skip
        refine k_tableIn 157 X dX10_size_19 (by decide) (by decide) rfl (by decide) ?_
        refine k_aload_n X dX10_size_157 0 rfl ?_
        refine k_get (ci := 10) X inlX10 rfl 2 (by decide) dX10_size_158 mw128 0 rfl rfl ?_
        refine k_get (ci := 7) X inlX7 rfl 3 (by decide) dX10_size_161 mw167 11 rfl rfl ?_
        refine k_get (ci := 8) X inlX8 rfl 3 (by decide) dX10_size_164 mw168 15 rfl rfl ?_
        exact k_iret X hr dX10_size_167 (Nat.le_of_ble_eq_true rfl) (Nat.le_of_ble_eq_true rfl) [] (by decide) rfl rfl (Or.inl ⟨rfl, (by first | decide | exact ⟨by assumption, i32_517 (by assumption)⟩ | exact ⟨by assumption, by assumption⟩), rfl⟩)
      · skip
        refine k_tableIn 168 X dX10_size_19 (by decide) (by decide) rfl (by decide) ?_
        refine k_aload_n X dX10_size_168 0 rfl ?_
        refine k_get (ci := 10) X inlX10 rfl 1 (by decide) dX10_size_169 mw126 0 rfl rfl ?_
        refine k_get (ci := 3) X inlX3 rfl 6 (by decide) dX10_size_172 mw380 2 rfl rfl ?_
        refine k_get (ci := 8) X inlX8 rfl 3 (by decide) dX10_size_175 mw168 9 rfl rfl ?_
        exact k_iret X hr dX10_size_178 (Nat.le_of_ble_eq_true rfl) (Nat.le_of_ble_eq_true rfl) [] (by decide) rfl rfl (Or.inl ⟨rfl, (by first | decide | exact ⟨by assumption, i32_517 (by assumption)⟩ | exact ⟨by assumption, by assumption⟩), rfl⟩)
      · skip
        refine k_tableIn 179 X dX10_size_19 (by decide) (by decide) rfl (by decide) ?_
        refine k_aload_n X dX10_size_179 0 rfl ?_
        refine k_get (ci := 10) X inlX10 rfl 1 (by decide) dX10_size_180 mw126 0 rfl rfl ?_
        refine k_get (ci := 3) X inlX3 rfl 7 (by decide) dX10_size_183 mw202 2 rfl rfl ?_
        refine k_get (ci := 8) X inlX8 rfl 3 (by decide) dX10_size_186 mw168 10 rfl rfl ?_
        exact k_iret X hr dX10_size_189 (Nat.le_of_ble_eq_true rfl) (Nat.le_of_ble_eq_true rfl) [] (by decide) rfl rfl (Or.inl ⟨rfl, (by first | decide | exact ⟨by assumption, i32_517 (by assumption)⟩ | exact ⟨by assumption, by assumption⟩), rfl⟩)
      · skip
        refine k_tableIn 190 X dX10_size_19 (by decide) (by decide) rfl (by decide) ?_
        refine k_aload_n X dX10_size_190 0 rfl ?_
        refine k_get (ci := 10) X inlX10 rfl 3 (by decide) dX10_size_191 mw135 0 rfl rfl ?_
        refine k_get (ci := 4) X inlX4 rfl 2 (by decide) dX10_size_194 mw381 16 rfl rfl ?_
        exact k_iret X hr dX10_size_197 (Nat.le_of_ble_eq_true rfl) (Nat.le_of_ble_eq_true rfl) [] (by decide) rfl rfl (Or.inl ⟨rfl, (by first | decide | exact ⟨by assumption, i32_517 (by assumption)⟩ | exact ⟨by assumption, by assumption⟩), rfl⟩)
      · skip
        refine k_tableIn 198 X dX10_size_19 (by decide) (by decide) rfl (by decide) ?_
        refine k_aload_n X dX10_size_198 0 rfl ?_
        refine k_get (ci := 10) X inlX10 rfl 3 (by decide) dX10_size_199 mw135 0 rfl rfl ?_
        refine k_get (ci := 4) X inlX4 rfl 4 (by decide) dX10_size_202 mw382 16 rfl rfl ?_
        exact k_iret X hr dX10_size_205 (Nat.le_of_ble_eq_true rfl) (Nat.le_of_ble_eq_true rfl) [] (by decide) rfl rfl (Or.inl ⟨rfl, (by first | decide | exact ⟨by assumption, i32_517 (by assumption)⟩ | exact ⟨by assumption, by assumption⟩), rfl⟩)
      · skip
        refine k_tableIn 206 X dX10_size_19 (by decide) (by decide) rfl (by decide) ?_
        refine k_aload_n X dX10_size_206 0 rfl ?_
        refine k_get (ci := 10) X inlX10 rfl 0 (by decide) dX10_size_207 mw124 0 rfl rfl ?_
        refine k_get (ci := 9) X inlX9 rfl 0 (by decide) dX10_size_210 mw216 1 rfl rfl ?_
        exact k_iret X hr dX10_size_213 (Nat.le_of_ble_eq_true rfl) (Nat.le_of_ble_eq_true rfl) [] (by decide) rfl rfl (Or.inl ⟨rfl, (by first | decide | exact ⟨by assumption, i32_517 (by assumption)⟩ | exact ⟨by assumption, by assumption⟩), rfl⟩)
      · skip
        refine k_tableOut 214 X dX10_size_19 (i32_tOut (Or.inr h17)) (by decide) ?_
        refine k_iconst (v := -1) X dX10_size_214 (by decide) ?_
        exact k_iret X hr dX10_size_215 (Nat.le_of_ble_eq_true rfl) (Nat.le_of_ble_eq_true rfl) [] (by decide) rfl rfl (Or.inr ⟨rfl, (by first | exact Or.inl (by assumption) | exact Or.inr (by assumption)), rfl⟩)
    · skip
      refine k_aload_n X dX10_size_9 0 rfl ?_
      refine k_get (ci := 10) X inlX10 rfl 1 (by decide) dX10_size_10 mw126 0 rfl rfl ?_
      refine k_iload_n X dX10_size_13 1 rfl ?_
      refine k_callVI (n := 1) (As := [.int p0]) (st := []) X [(tl, .inr (3, [.ref xs, .ref xhn, .ref xht, .ref xhj, .ref xhm, .ref xhb, .ref xhs, .ref xhc])), (xhn, .inr (8, [.int 1, .int 6, .ref xhnc, .int 0])), (xhnc, .inl (g.2.2.1, 6, .inl (fun _ => 0)))] [(h0, .inr (10, [.ref tx, .ref tl, .ref nw, .ref kp, v4h0, v5h0, v6h0, v7h0, v8h0, v9h0])), (tx, .inr (9, [.int 0, v1tx, v2tx, v3tx, v4tx, v5tx, v6tx, v7tx, v8tx, v9tx, v10tx, v11tx, v12tx, v13tx, v14tx])), (xht, .inr (8, [v0xht, v1xht, v2xht, .int 0])), (xhj, .inr (8, [v0xhj, v1xhj, v2xhj, .int 0])), (xhm, .inr (8, [v0xhm, v1xhm, v2xhm, .int 0])), (xhb, .inr (8, [v0xhb, v1xhb, v2xhb, .int 0])), (xhs, .inr (8, [v0xhs, v1xhs, v2xhs, .int 0])), (xhc, .inr (8, [v0xhc, v1xhc, v2xhc, .int 0])), (nw, .inr (7, [.ref ur, .ref um, .ref uw, .ref up, .int 0, .int 0])), (ur, .inr (8, [v0ur, v1ur, v2ur, .int 0])), (um, .inr (8, [v0um, v1um, v2um, .int 0])), (uw, .inr (8, [v0uw, v1uw, v2uw, .int 0])), (up, .inr (8, [v0up, v1up, v2up, .int 0])), (kp, .inr (4, [v0kp, v1kp, .int 0, v3kp, .int 0]))] [2, 3, 4] [0, 1, 5, 6, 7, 8, 9, 10, 11, 12, 13, 14, 15, 16] (c_number l g tl p0 (.ref xs) xhn (.ref xht) (.ref xhj) (.ref xhm) (.ref xhb) (.ref xhs) (.ref xhc) xhnc (.int 0) ⟨by assumption, by assumption⟩) dX10_size_14 mw383 mw384 mw385 mw98 mw386 rfl 3 rfl rfl 0 _ rfl (by unfold yOk; decide) rfl (Nat.le_of_ble_eq_true rfl) (Nat.le_of_ble_eq_true rfl) (Nat.le_of_ble_eq_true rfl) (Nat.le_of_ble_eq_true rfl) (Nat.le_of_ble_eq_true rfl) rfl rfl (by decide) rfl (by decide) (by decide) ?_
      rintro r w ⟨rfl, rfl⟩
      refine k_ws [(h0, .inr (10, [.ref tx, .ref tl, .ref nw, .ref kp, v4h0, v5h0, v6h0, v7h0, v8h0, v9h0])), (tx, .inr (9, [.int 0, v1tx, v2tx, v3tx, v4tx, v5tx, v6tx, v7tx, v8tx, v9tx, v10tx, v11tx, v12tx, v13tx, v14tx])), (xht, .inr (8, [v0xht, v1xht, v2xht, .int 0])), (xhj, .inr (8, [v0xhj, v1xhj, v2xhj, .int 0])), (xhm, .inr (8, [v0xhm, v1xhm, v2xhm, .int 0])), (xhb, .inr (8, [v0xhb, v1xhb, v2xhb, .int 0])), (xhs, .inr (8, [v0xhs, v1xhs, v2xhs, .int 0])), (xhc, .inr (8, [v0xhc, v1xhc, v2xhc, .int 0])), (nw, .inr (7, [.ref ur, .ref um, .ref uw, .ref up, .int 0, .int 0])), (ur, .inr (8, [v0ur, v1ur, v2ur, .int 0])), (um, .inr (8, [v0um, v1um, v2um, .int 0])), (uw, .inr (8, [v0uw, v1uw, v2uw, .int 0])), (up, .inr (8, [v0up, v1up, v2up, .int 0])), (kp, .inr (4, [v0kp, v1kp, .int 0, v3kp, .int 0]))] rfl ?_
      exact k_iret X hr dX10_size_17 (Nat.le_of_ble_eq_true rfl) (Nat.le_of_ble_eq_true rfl) [] (by decide) rfl rfl (Or.inl ⟨rfl, (by first | decide | exact ⟨by assumption, i32_517 (by assumption)⟩ | exact ⟨by assumption, by assumption⟩), rfl⟩)

theorem dX11_size_0 : decode cX11_size 0 = .ok (.aload_n 0, 1) := by decide +kernel
theorem dX11_size_1 : decode cX11_size 1 = .ok (.iconst 0, 1) := by decide +kernel
theorem dX11_size_2 : decode cX11_size 2 = .ok (.putfield 83, 3) := by decide +kernel
theorem dX11_size_5 : decode cX11_size 5 = .ok (.iload_n 1, 1) := by decide +kernel
theorem dX11_size_6 : decode cX11_size 6 = .ok (.bipush 17, 2) := by decide +kernel
theorem dX11_size_8 : decode cX11_size 8 = .ok (.if_icmp .ne 8, 3) := by decide +kernel
theorem dX11_size_11 : decode cX11_size 11 = .ok (.aload_n 0, 1) := by decide +kernel
theorem dX11_size_12 : decode cX11_size 12 = .ok (.getfield 89, 3) := by decide +kernel
theorem dX11_size_15 : decode cX11_size 15 = .ok (.ireturn, 1) := by decide +kernel
theorem dX11_size_16 : decode cX11_size 16 = .ok (.aload_n 0, 1) := by decide +kernel
theorem dX11_size_17 : decode cX11_size 17 = .ok (.getfield 213, 3) := by decide +kernel
theorem dX11_size_20 : decode cX11_size 20 = .ok (.ifCond .ne 19, 3) := by decide +kernel
theorem dX11_size_23 : decode cX11_size 23 = .ok (.iload_n 1, 1) := by decide +kernel
theorem dX11_size_24 : decode cX11_size 24 = .ok (.iconst 0, 1) := by decide +kernel
theorem dX11_size_25 : decode cX11_size 25 = .ok (.bipush 16, 2) := by decide +kernel
theorem dX11_size_27 : decode cX11_size 27 = .ok (.invokestatic 182, 3) := by decide +kernel
theorem dX11_size_30 : decode cX11_size 30 = .ok (.ifCond .eq 7, 3) := by decide +kernel
theorem dX11_size_33 : decode cX11_size 33 = .ok (.iconst 0, 1) := by decide +kernel
theorem dX11_size_34 : decode cX11_size 34 = .ok (.goto 4, 3) := by decide +kernel
theorem dX11_size_37 : decode cX11_size 37 = .ok (.iconst (-1), 1) := by decide +kernel
theorem dX11_size_38 : decode cX11_size 38 = .ok (.ireturn, 1) := by decide +kernel
set_option maxHeartbeats 4000000 in
set_option maxRecDepth 100000 in
theorem r_size (l : Launch) (g : Gx) (h0 : Nat) (p0 : Int32) (v0h0 : Value) (v1h0 : Value) (v3h0 : Value) (v4h0 : Value) (v5h0 : Value) (v6h0 : Value) (v7h0 : Value) (v8h0 : Value) (v9h0 : Value) (v10h0 : Value) (v11h0 : Value) (v12h0 : Value) (v13h0 : Value) (v15h0 : Value) (v16h0 : Value) (v17h0 : Value) (v18h0 : Value) (v19h0 : Value) (v20h0 : Value) (v21h0 : Value) (v22h0 : Value) (v23h0 : Value) (v24h0 : Value) (v25h0 : Value) (v26h0 : Value) (v27h0 : Value) (v28h0 : Value) (v29h0 : Value) (v30h0 : Value) (v31h0 : Value) (v32h0 : Value) (v33h0 : Value) (v34h0 : Value) (v35h0 : Value) (v36h0 : Value) (v37h0 : Value) (v38h0 : Value) (v39h0 : Value) (v40h0 : Value) (v41h0 : Value) (v42h0 : Value) : cI l g yX11_size cX11_size 2 (some .int) 1 22 0 0 [.ref h0, .int p0] [(h0, .inr (11, [v0h0, v1h0, .int 0, v3h0, v4h0, v5h0, v6h0, v7h0, v8h0, v9h0, v10h0, v11h0, v12h0, v13h0, .int 0, v15h0, v16h0, v17h0, v18h0, v19h0, v20h0, v21h0, v22h0, v23h0, v24h0, v25h0, v26h0, v27h0, v28h0, v29h0, v30h0, v31h0, v32h0, v33h0, v34h0, v35h0, v36h0, v37h0, v38h0, v39h0, v40h0, v41h0, v42h0]))] (fun r w => (r = 0 ∧ (¬ p0 < 0 ∧ ¬ 17 < p0) ∧ w = []) ∨ (r = (-1) ∧ (p0 < 0 ∨ 17 < p0) ∧ w = [])) := by
  refine cI.of (by decide) (Nat.le_of_ble_eq_true rfl) ?_
  intro p e s m args below meth c A X hr hi
  refine k_lveq [(0, .ref h0), (1, .int p0)] rfl ?_
  refine k_aload_n X dX11_size_0 0 rfl ?_
  refine k_iconst (v := 0) X dX11_size_1 (by decide) ?_
  refine k_put (ci := 11) [(h0, .inr (11, [.int 0, v1h0, .int 0, v3h0, v4h0, v5h0, v6h0, v7h0, v8h0, v9h0, v10h0, v11h0, v12h0, v13h0, .int 0, v15h0, v16h0, v17h0, v18h0, v19h0, v20h0, v21h0, v22h0, v23h0, v24h0, v25h0, v26h0, v27h0, v28h0, v29h0, v30h0, v31h0, v32h0, v33h0, v34h0, v35h0, v36h0, v37h0, v38h0, v39h0, v40h0, v41h0, v42h0]))] X inlX11 rfl tyX11_ok nmX11 0 (by decide) rfl dX11_size_2 mw279 0 rfl rfl rfl (Nat.le_of_ble_eq_true rfl) rfl ?_
  refine k_iload_n X dX11_size_5 1 rfl ?_
  refine k_bipush (v := 17) X dX11_size_6 (by decide) ?_
  refine k_ic_ne 16 X dX11_size_8 (by decide) (fun h_1 => ?_) (fun h_1 => ?_)
  · skip
    refine k_aload_n X dX11_size_16 0 rfl ?_
    refine k_get (ci := 11) X inlX11 rfl 14 (by decide) dX11_size_17 mw281 0 rfl rfl ?_
    refine k_if_ne 39 X dX11_size_20 (by decide) (fun h_2 => absurd h_2 (by decide)) (fun _ => ?_)
    refine k_iload_n X dX11_size_23 1 rfl ?_
    refine k_iconst (v := 0) X dX11_size_24 (by decide) ?_
    refine k_bipush (v := 16) X dX11_size_25 (by decide) ?_
    refine k_callSI (n := 3) (As := [.int p0, .int 0, .int 16]) (st := []) X [] [(h0, .inr (11, [.int 0, v1h0, .int 0, v3h0, v4h0, v5h0, v6h0, v7h0, v8h0, v9h0, v10h0, v11h0, v12h0, v13h0, .int 0, v15h0, v16h0, v17h0, v18h0, v19h0, v20h0, v21h0, v22h0, v23h0, v24h0, v25h0, v26h0, v27h0, v28h0, v29h0, v30h0, v31h0, v32h0, v33h0, v34h0, v35h0, v36h0, v37h0, v38h0, v39h0, v40h0, v41h0, v42h0]))] [] [0] (r_in l g p0 0 16) dX11_size_27 mw308 mw309 mw285 mw310 (by unfold yOk; decide) rfl (Nat.le_of_ble_eq_true rfl) (Nat.le_of_ble_eq_true rfl) (Nat.le_of_ble_eq_true rfl) (Nat.le_of_ble_eq_true rfl) (Nat.le_of_ble_eq_true rfl) rfl rfl (by decide) rfl (by decide) (by decide) ?_
    rintro r w (⟨rfl, k_3, k_4, rfl⟩ | ⟨rfl, k_5, rfl⟩)
    · skip
      refine k_ws [(h0, .inr (11, [.int 0, v1h0, .int 0, v3h0, v4h0, v5h0, v6h0, v7h0, v8h0, v9h0, v10h0, v11h0, v12h0, v13h0, .int 0, v15h0, v16h0, v17h0, v18h0, v19h0, v20h0, v21h0, v22h0, v23h0, v24h0, v25h0, v26h0, v27h0, v28h0, v29h0, v30h0, v31h0, v32h0, v33h0, v34h0, v35h0, v36h0, v37h0, v38h0, v39h0, v40h0, v41h0, v42h0]))] rfl ?_
      refine k_if_eq 37 X dX11_size_30 (by decide) (fun h_6 => absurd h_6 (by decide)) (fun _ => ?_)
      refine k_iconst (v := 0) X dX11_size_33 (by decide) ?_
      refine k_goto 38 X dX11_size_34 (by decide) ?_
      exact k_iret X hr dX11_size_38 (Nat.le_of_ble_eq_true rfl) (Nat.le_of_ble_eq_true rfl) [] (by decide) rfl rfl (Or.inl ⟨rfl, (by first | exact sz_a (by assumption) | exact sz_b (by assumption) (by assumption)), rfl⟩)
    · skip
      refine k_ws [(h0, .inr (11, [.int 0, v1h0, .int 0, v3h0, v4h0, v5h0, v6h0, v7h0, v8h0, v9h0, v10h0, v11h0, v12h0, v13h0, .int 0, v15h0, v16h0, v17h0, v18h0, v19h0, v20h0, v21h0, v22h0, v23h0, v24h0, v25h0, v26h0, v27h0, v28h0, v29h0, v30h0, v31h0, v32h0, v33h0, v34h0, v35h0, v36h0, v37h0, v38h0, v39h0, v40h0, v41h0, v42h0]))] rfl ?_
      refine k_if_eq 37 X dX11_size_30 (by decide) (fun _ => ?_) (fun h_7 => absurd (by decide) h_7)
      refine k_iconst (v := -1) X dX11_size_37 (by decide) ?_
      exact k_iret X hr dX11_size_38 (Nat.le_of_ble_eq_true rfl) (Nat.le_of_ble_eq_true rfl) [] (by decide) rfl rfl (Or.inr ⟨rfl, (sz_c (by assumption) (by assumption)), rfl⟩)
  · skip
    refine k_aload_n X dX11_size_11 0 rfl ?_
    refine k_get (ci := 11) X inlX11 rfl 2 (by decide) dX11_size_12 mw329 0 rfl rfl ?_
    exact k_iret X hr dX11_size_15 (Nat.le_of_ble_eq_true rfl) (Nat.le_of_ble_eq_true rfl) [] (by decide) rfl rfl (Or.inl ⟨rfl, (by first | exact sz_a (by assumption) | exact sz_b (by assumption) (by assumption)), rfl⟩)
