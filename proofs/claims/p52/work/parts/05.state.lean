theorem dX7_reelAt_0 : decode cX7_reelAt 0 = .ok (.aload_n 0, 1) := dk_42 rfl
theorem dX7_reelAt_1 : decode cX7_reelAt 1 = .ok (.getfield 26, 3) := dk_180 rfl rfl rfl rfl
theorem dX7_reelAt_4 : decode cX7_reelAt 4 = .ok (.iload_n 1, 1) := dk_27 rfl
theorem dX7_reelAt_5 : decode cX7_reelAt 5 = .ok (.iconst 0, 1) := dk_3 rfl
theorem dX7_reelAt_6 : decode cX7_reelAt 6 = .ok (.invokevirtual 43, 3) := dk_182 rfl rfl rfl rfl
theorem dX7_reelAt_9 : decode cX7_reelAt 9 = .ok (.ireturn, 1) := dk_172 rfl
set_option maxHeartbeats 4000000 in
set_option maxRecDepth 100000 in
theorem s_reelAt (l : Launch) (g : Gx) (h0 : Nat) (p0 : Int32) (v0h0 : Value) (v1h0 : Value) (v2h0 : Value) (xp : Nat) (xmd : Int32) (xtr : Int32) (xpc : Nat) (xpn : Int32) (xpf : Nat → Int32) : cI l g yX7_reelAt cX7_reelAt 2 (some .int) 1 22 0 0 [.ref h0, .int p0] [(cO7_vvvrii h0 v0h0 v1h0 v2h0 xp xmd xtr), (cO8_iiri xp 8 2 xpc xpn), (cAI g xpc 16 xpf)] (fun r w => w = [(cO7_vvvrii h0 v0h0 v1h0 v2h0 xp xmd xtr), (cO8_iiri xp 8 2 xpc xpn), (cAI g xpc 16 xpf)]) := by
  refine cI.of (by decide) (Nat.le_of_ble_eq_true rfl) ?_
  intro p e s m args below meth c A X hr hi
  refine k_lveq [(0, .ref h0), (1, .int p0)] rfl ?_
  refine k_aload_n X dX7_reelAt_0 0 rfl ?_
  refine k_get (ci := 7) X inlX7 rfl 3 (by decide) dX7_reelAt_1 mw93 0 rfl rfl ?_
  refine k_iload_n X dX7_reelAt_4 1 rfl ?_
  refine k_iconst (v := 0) X dX7_reelAt_5 (by decide) ?_
  refine k_callVI (n := 2) (As := [.int p0, .int 0]) (st := []) X [(cO8_iiri xp 8 2 xpc xpn), (cAI g xpc 16 xpf)] [(cO7_vvvrii h0 v0h0 v1h0 v2h0 xp xmd xtr)] [1, 2] [0] (t_at l g xp p0 0 8 2 xpc xpn 16 xpf (tbk_8_2)) dX7_reelAt_6 mw388 mw376 mw377 mw64 mw378 rfl 8 rfl rfl 0 _ rfl yk_yX8_at_2 rfl (Nat.le_of_ble_eq_true rfl) (Nat.le_of_ble_eq_true rfl) (Nat.le_of_ble_eq_true rfl) (Nat.le_of_ble_eq_true rfl) (Nat.le_of_ble_eq_true rfl) rfl rfl (by decide) rfl (by decide) (by decide) ?_
  rintro r_1 w ⟨hr_2, rfl⟩
  refine k_ws [(cO7_vvvrii h0 v0h0 v1h0 v2h0 xp xmd xtr), (cO8_iiri xp 8 2 xpc xpn), (cAI g xpc 16 xpf)] rfl ?_
  exact k_iret X hr dX7_reelAt_9 (Nat.le_of_ble_eq_true rfl) (Nat.le_of_ble_eq_true rfl) [0, 1, 2] (by decide) rfl rfl rfl

theorem dX7_isWeak_0 : decode cX7_isWeak 0 = .ok (.aload_n 0, 1) := dk_42 rfl
theorem dX7_isWeak_1 : decode cX7_isWeak 1 = .ok (.getfield 23, 3) := dk_180 rfl rfl rfl rfl
theorem dX7_isWeak_4 : decode cX7_isWeak 4 = .ok (.iload_n 1, 1) := dk_27 rfl
theorem dX7_isWeak_5 : decode cX7_isWeak 5 = .ok (.invokevirtual 47, 3) := dk_182 rfl rfl rfl rfl
theorem dX7_isWeak_8 : decode cX7_isWeak 8 = .ok (.ifCond .eq 18, 3) := dk_153 rfl rfl rfl (by decide)
theorem dX7_isWeak_11 : decode cX7_isWeak 11 = .ok (.aload_n 0, 1) := dk_42 rfl
theorem dX7_isWeak_12 : decode cX7_isWeak 12 = .ok (.getfield 29, 3) := dk_180 rfl rfl rfl rfl
theorem dX7_isWeak_15 : decode cX7_isWeak 15 = .ok (.iload_n 1, 1) := dk_27 rfl
theorem dX7_isWeak_16 : decode cX7_isWeak 16 = .ok (.ishr, 1) := dk_122 rfl
theorem dX7_isWeak_17 : decode cX7_isWeak 17 = .ok (.iconst 1, 1) := dk_4 rfl
theorem dX7_isWeak_18 : decode cX7_isWeak 18 = .ok (.iand, 1) := dk_126 rfl
theorem dX7_isWeak_19 : decode cX7_isWeak 19 = .ok (.ifCond .ne 7, 3) := dk_154 rfl rfl rfl (by decide)
theorem dX7_isWeak_22 : decode cX7_isWeak 22 = .ok (.iconst 1, 1) := dk_4 rfl
theorem dX7_isWeak_23 : decode cX7_isWeak 23 = .ok (.goto 4, 3) := dk_167 rfl rfl rfl (by decide)
theorem dX7_isWeak_26 : decode cX7_isWeak 26 = .ok (.iconst 0, 1) := dk_3 rfl
theorem dX7_isWeak_27 : decode cX7_isWeak 27 = .ok (.ireturn, 1) := dk_172 rfl
set_option maxHeartbeats 4000000 in
set_option maxRecDepth 100000 in
theorem s_isWeak (l : Launch) (g : Gx) (h0 : Nat) (p0 : Int32) (v0h0 : Value) (v1h0 : Value) (xw : Nat) (v3h0 : Value) (xmd : Int32) (xtr : Int32) (xwc : Nat) (xwn : Int32) (xwf : Nat → Int32) : cI l g yX7_isWeak cX7_isWeak 2 (some .boolean) 1 21 0 0 [.ref h0, .int p0] [(cO7_vvrvii h0 v0h0 v1h0 xw v3h0 xmd xtr), (cO8_iiri xw 6 3 xwc xwn), (cAI g xwc 18 xwf)] (fun r w => w = [(cO7_vvrvii h0 v0h0 v1h0 xw v3h0 xmd xtr), (cO8_iiri xw 6 3 xwc xwn), (cAI g xwc 18 xwf)]) := by
  refine cI.of (by decide) (Nat.le_of_ble_eq_true rfl) ?_
  intro p e s m args below meth c A X hr hi
  refine k_lveq [(0, .ref h0), (1, .int p0)] rfl ?_
  refine k_aload_n X dX7_isWeak_0 0 rfl ?_
  refine k_get (ci := 7) X inlX7 rfl 2 (by decide) dX7_isWeak_1 mw92 0 rfl rfl ?_
  refine k_iload_n X dX7_isWeak_4 1 rfl ?_
  refine k_callVI (n := 1) (As := [.int p0]) (st := []) X [(cO8_iiri xw 6 3 xwc xwn)] [(cO7_vvrvii h0 v0h0 v1h0 xw v3h0 xmd xtr), (cAI g xwc 18 xwf)] [1] [0, 2] (t_has l g xw p0 (.int 6) (.int 3) (.ref xwc) xwn) dX7_isWeak_5 mw664 mw648 mw649 mw64 mw650 rfl 8 rfl rfl 0 _ rfl yk_yX8_has_1 rfl (Nat.le_of_ble_eq_true rfl) (Nat.le_of_ble_eq_true rfl) (Nat.le_of_ble_eq_true rfl) (Nat.le_of_ble_eq_true rfl) (Nat.le_of_ble_eq_true rfl) rfl rfl (by decide) rfl (by decide) (by decide) ?_
  rintro r_1 w ⟨hr_2, rfl⟩
  refine k_ws [(cO7_vvrvii h0 v0h0 v1h0 xw v3h0 xmd xtr), (cAI g xwc 18 xwf), (cO8_iiri xw 6 3 xwc xwn)] rfl ?_
  refine k_if_eq 26 X dX7_isWeak_8 (by decide) (fun h_3 => ?_) (fun h_3 => ?_)
  · skip
    refine k_iconst (v := 0) X dX7_isWeak_26 (by decide) ?_
    exact k_zret X hr (by first | rfl | decide) dX7_isWeak_27 (Nat.le_of_ble_eq_true rfl) (Nat.le_of_ble_eq_true rfl) [0, 2, 1] (by decide) rfl rfl rfl
  · skip
    refine k_aload_n X dX7_isWeak_11 0 rfl ?_
    refine k_get (ci := 7) X inlX7 rfl 4 (by decide) dX7_isWeak_12 mw94 0 rfl rfl ?_
    refine k_iload_n X dX7_isWeak_15 1 rfl ?_
    refine k_ishr X dX7_isWeak_16 ?_
    refine k_nm (fun z_4 ez_4 => ?_)
    refine k_iconst (v := 1) X dX7_isWeak_17 (by decide) ?_
    refine k_iand X dX7_isWeak_18 ?_
    refine k_nm (fun z_5 ez_5 => ?_)
    refine k_if_ne 26 X dX7_isWeak_19 (by decide) (fun h_6 => ?_) (fun h_6 => ?_)
    · skip
      refine k_iconst (v := 0) X dX7_isWeak_26 (by decide) ?_
      exact k_zret X hr (by first | rfl | decide) dX7_isWeak_27 (Nat.le_of_ble_eq_true rfl) (Nat.le_of_ble_eq_true rfl) [0, 2, 1] (by decide) rfl rfl rfl
    · skip
      refine k_iconst (v := 1) X dX7_isWeak_22 (by decide) ?_
      refine k_goto 27 X dX7_isWeak_23 (by decide) ?_
      exact k_zret X hr (by first | rfl | decide) dX7_isWeak_27 (Nat.le_of_ble_eq_true rfl) (Nat.le_of_ble_eq_true rfl) [0, 2, 1] (by decide) rfl rfl rfl

theorem dX7_mendedOn_0 : decode cX7_mendedOn 0 = .ok (.iconst 0, 1) := dk_3 rfl
theorem dX7_mendedOn_1 : decode cX7_mendedOn 1 = .ok (.istore_n 2, 1) := dk_61 rfl
theorem dX7_mendedOn_2 : decode cX7_mendedOn 2 = .ok (.iconst 0, 1) := dk_3 rfl
theorem dX7_mendedOn_3 : decode cX7_mendedOn 3 = .ok (.istore_n 3, 1) := dk_62 rfl
theorem dX7_mendedOn_4 : decode cX7_mendedOn 4 = .ok (.iload_n 3, 1) := dk_29 rfl
theorem dX7_mendedOn_5 : decode cX7_mendedOn 5 = .ok (.aload_n 0, 1) := dk_42 rfl
theorem dX7_mendedOn_6 : decode cX7_mendedOn 6 = .ok (.getfield 23, 3) := dk_180 rfl rfl rfl rfl
theorem dX7_mendedOn_9 : decode cX7_mendedOn 9 = .ok (.getfield 51, 3) := dk_180 rfl rfl rfl rfl
theorem dX7_mendedOn_12 : decode cX7_mendedOn 12 = .ok (.if_icmp .ge 33, 3) := dk_162 rfl rfl rfl (by decide)
theorem dX7_mendedOn_15 : decode cX7_mendedOn 15 = .ok (.aload_n 0, 1) := dk_42 rfl
theorem dX7_mendedOn_16 : decode cX7_mendedOn 16 = .ok (.iload_n 3, 1) := dk_29 rfl
theorem dX7_mendedOn_17 : decode cX7_mendedOn 17 = .ok (.invokevirtual 54, 3) := dk_182 rfl rfl rfl rfl
theorem dX7_mendedOn_20 : decode cX7_mendedOn 20 = .ok (.ifCond .ne 19, 3) := dk_154 rfl rfl rfl (by decide)
theorem dX7_mendedOn_23 : decode cX7_mendedOn 23 = .ok (.aload_n 0, 1) := dk_42 rfl
theorem dX7_mendedOn_24 : decode cX7_mendedOn 24 = .ok (.getfield 23, 3) := dk_180 rfl rfl rfl rfl
theorem dX7_mendedOn_27 : decode cX7_mendedOn 27 = .ok (.iload_n 3, 1) := dk_29 rfl
theorem dX7_mendedOn_28 : decode cX7_mendedOn 28 = .ok (.iconst 0, 1) := dk_3 rfl
theorem dX7_mendedOn_29 : decode cX7_mendedOn 29 = .ok (.invokevirtual 43, 3) := dk_182 rfl rfl rfl rfl
theorem dX7_mendedOn_32 : decode cX7_mendedOn 32 = .ok (.iload_n 1, 1) := dk_27 rfl
theorem dX7_mendedOn_33 : decode cX7_mendedOn 33 = .ok (.if_icmp .ne 6, 3) := dk_160 rfl rfl rfl (by decide)
theorem dX7_mendedOn_36 : decode cX7_mendedOn 36 = .ok (.iinc 2 1, 3) := dk_132 rfl rfl rfl rfl (by decide)
theorem dX7_mendedOn_39 : decode cX7_mendedOn 39 = .ok (.iinc 3 1, 3) := dk_132 rfl rfl rfl rfl (by decide)
theorem dX7_mendedOn_42 : decode cX7_mendedOn 42 = .ok (.goto (-38), 3) := dk_167 rfl rfl rfl (by decide)
theorem dX7_mendedOn_45 : decode cX7_mendedOn 45 = .ok (.iload_n 2, 1) := dk_28 rfl
theorem dX7_mendedOn_46 : decode cX7_mendedOn 46 = .ok (.ireturn, 1) := dk_172 rfl
set_option maxHeartbeats 4000000 in
set_option maxRecDepth 100000 in
theorem s_mendedOn (l : Launch) (g : Gx) (h0 : Nat) (p0 : Int32) (v0h0 : Value) (v1h0 : Value) (xw : Nat) (v3h0 : Value) (xmd : Int32) (xtr : Int32) (xwc : Nat) (xwn : Int32) (xwf : Nat → Int32) : cI l g yX7_mendedOn cX7_mendedOn 4 (some .int) 2 42 0 0 [.ref h0, .int p0] [(cO7_vvrvii h0 v0h0 v1h0 xw v3h0 xmd xtr), (cO8_iiri xw 6 3 xwc xwn), (cAI g xwc 18 xwf)] (fun r w => w = [(cO7_vvrvii h0 v0h0 v1h0 xw v3h0 xmd xtr), (cO8_iiri xw 6 3 xwc xwn), (cAI g xwc 18 xwf)]) := by
  refine cI.of (by decide) (Nat.le_of_ble_eq_true rfl) ?_
  intro p e s m args below meth c A X hr hi
  refine k_lveq [(0, .ref h0), (1, .int p0)] rfl ?_
  refine k_iconst (v := 0) X dX7_mendedOn_0 (by decide) ?_
  refine k_istore_n [(2, .int 0), (0, .ref h0), (1, .int p0)] X dX7_mendedOn_1 (by decide) rfl ?_
  refine k_iconst (v := 0) X dX7_mendedOn_2 (by decide) ?_
  refine k_istore_n [(3, .int 0), (2, .int 0), (0, .ref h0), (1, .int p0)] X dX7_mendedOn_3 (by decide) rfl ?_
  refine (fun hL : ∀ (nn_3 : Nat) (u_1 : Int32) (u_2 : Int32), (xwn.toInt - u_1.toInt).toNat = nn_3 → Wk p l e _ s m args below meth c _ A g _ _ _ [(cO7_vvrvii h0 v0h0 v1h0 xw v3h0 xmd xtr), (cO8_iiri xw 6 3 xwc xwn), (cAI g xwc 18 xwf)] [(3, .int u_1), (2, .int u_2), (0, .ref h0), (1, .int p0)] 4 [] => hL _ 0 0 rfl ) ?_
  refine fun nn_3 => Nat.strongRecOn nn_3 (fun nn_3 ih_5 => ?_)
  intro u_1 u_2 hm_4 
  refine k_iload_n X dX7_mendedOn_4 0 rfl ?_
  refine k_aload_n X dX7_mendedOn_5 2 rfl ?_
  refine k_get (ci := 7) X inlX7 rfl 2 (by decide) dX7_mendedOn_6 mw92 0 rfl rfl ?_
  refine k_get (ci := 8) X inlX8 rfl 3 (by decide) dX7_mendedOn_9 mw387 1 rfl rfl ?_
  refine k_ic_ge 45 X dX7_mendedOn_12 (by decide) (fun h_6 => ?_) (fun h_6 => ?_)
  · skip
    refine k_iload_n X dX7_mendedOn_45 1 rfl ?_
    exact k_iret X hr dX7_mendedOn_46 (Nat.le_of_ble_eq_true rfl) (Nat.le_of_ble_eq_true rfl) [0, 1, 2] (by decide) rfl rfl rfl
  · skip
    refine k_aload_n X dX7_mendedOn_15 2 rfl ?_
    refine k_iload_n X dX7_mendedOn_16 0 rfl ?_
    refine k_callVI (n := 1) (As := [.int u_1]) (st := []) X [(cO7_vvrvii h0 v0h0 v1h0 xw v3h0 xmd xtr), (cO8_iiri xw 6 3 xwc xwn), (cAI g xwc 18 xwf)] [] [0, 1, 2] [] (s_isWeak l g h0 u_1 v0h0 v1h0 xw v3h0 xmd xtr xwc xwn xwf) dX7_mendedOn_17 mw660 mw661 mw662 mw23 mw663 rfl 7 rfl rfl 0 _ rfl yk_yX7_isWeak_1 rfl (Nat.le_of_ble_eq_true rfl) (Nat.le_of_ble_eq_true rfl) (Nat.le_of_ble_eq_true rfl) (Nat.le_of_ble_eq_true rfl) (Nat.le_of_ble_eq_true rfl) rfl rfl (by decide) rfl (by decide) (by decide) ?_
    rintro r_7 w rfl
    refine k_ws [(cO7_vvrvii h0 v0h0 v1h0 xw v3h0 xmd xtr), (cO8_iiri xw 6 3 xwc xwn), (cAI g xwc 18 xwf)] rfl ?_
    refine k_if_ne 39 X dX7_mendedOn_20 (by decide) (fun h_9 => ?_) (fun h_9 => ?_)
    · skip
      obtain ⟨z_10, ez_10⟩ : ∃ y : Int32, u_1 + Int32.ofInt 1 = y := ⟨_, rfl⟩
      refine k_iinc z_10 [(3, .int z_10), (2, .int u_2), (0, .ref h0), (1, .int p0)] 0 X dX7_mendedOn_39 rfl ez_10 (by decide) rfl ?_
      refine k_goto 4 X dX7_mendedOn_42 (by decide) ?_
      exact ih_5 _ (by rw [← hm_4]; exact mu_lt (by assumption) (by assumption)) z_10 u_2 rfl 
    · skip
      refine k_aload_n X dX7_mendedOn_23 2 rfl ?_
      refine k_get (ci := 7) X inlX7 rfl 2 (by decide) dX7_mendedOn_24 mw92 0 rfl rfl ?_
      refine k_iload_n X dX7_mendedOn_27 0 rfl ?_
      refine k_iconst (v := 0) X dX7_mendedOn_28 (by decide) ?_
      refine k_callVI (n := 2) (As := [.int u_1, .int 0]) (st := []) X [(cO8_iiri xw 6 3 xwc xwn), (cAI g xwc 18 xwf)] [(cO7_vvrvii h0 v0h0 v1h0 xw v3h0 xmd xtr)] [1, 2] [0] (t_at l g xw u_1 0 6 3 xwc xwn 18 xwf (tbk_6_3)) dX7_mendedOn_29 mw388 mw376 mw377 mw64 mw378 rfl 8 rfl rfl 0 _ rfl yk_yX8_at_2 rfl (Nat.le_of_ble_eq_true rfl) (Nat.le_of_ble_eq_true rfl) (Nat.le_of_ble_eq_true rfl) (Nat.le_of_ble_eq_true rfl) (Nat.le_of_ble_eq_true rfl) rfl rfl (by decide) rfl (by decide) (by decide) ?_
      rintro r_11 w ⟨hr_12, rfl⟩
      refine k_ws [(cO7_vvrvii h0 v0h0 v1h0 xw v3h0 xmd xtr), (cO8_iiri xw 6 3 xwc xwn), (cAI g xwc 18 xwf)] rfl ?_
      refine k_iload_n X dX7_mendedOn_32 3 rfl ?_
      refine k_ic_ne 39 X dX7_mendedOn_33 (by decide) (fun h_13 => ?_) (fun h_13 => ?_)
      · skip
        obtain ⟨z_14, ez_14⟩ : ∃ y : Int32, u_1 + Int32.ofInt 1 = y := ⟨_, rfl⟩
        refine k_iinc z_14 [(3, .int z_14), (2, .int u_2), (0, .ref h0), (1, .int p0)] 0 X dX7_mendedOn_39 rfl ez_14 (by decide) rfl ?_
        refine k_goto 4 X dX7_mendedOn_42 (by decide) ?_
        exact ih_5 _ (by rw [← hm_4]; exact mu_lt (by assumption) (by assumption)) z_14 u_2 rfl 
      · skip
        obtain ⟨z_15, ez_15⟩ : ∃ y : Int32, u_2 + Int32.ofInt 1 = y := ⟨_, rfl⟩
        refine k_iinc z_15 [(2, .int z_15), (3, .int u_1), (0, .ref h0), (1, .int p0)] 1 X dX7_mendedOn_36 rfl ez_15 (by decide) rfl ?_
        obtain ⟨z_16, ez_16⟩ : ∃ y : Int32, u_1 + Int32.ofInt 1 = y := ⟨_, rfl⟩
        refine k_iinc z_16 [(3, .int z_16), (2, .int z_15), (0, .ref h0), (1, .int p0)] 1 X dX7_mendedOn_39 rfl ez_16 (by decide) rfl ?_
        refine k_goto 4 X dX7_mendedOn_42 (by decide) ?_
        exact ih_5 _ (by rw [← hm_4]; exact mu_lt (by assumption) (by assumption)) z_16 z_15 rfl 

theorem dX7_markBy_0 : decode cX7_markBy 0 = .ok (.iconst 0, 1) := dk_3 rfl
theorem dX7_markBy_1 : decode cX7_markBy 1 = .ok (.istore_n 3, 1) := dk_62 rfl
theorem dX7_markBy_2 : decode cX7_markBy 2 = .ok (.iload_n 3, 1) := dk_29 rfl
theorem dX7_markBy_3 : decode cX7_markBy 3 = .ok (.aload_n 0, 1) := dk_42 rfl
theorem dX7_markBy_4 : decode cX7_markBy 4 = .ok (.getfield 20, 3) := dk_180 rfl rfl rfl rfl
theorem dX7_markBy_7 : decode cX7_markBy 7 = .ok (.getfield 51, 3) := dk_180 rfl rfl rfl rfl
theorem dX7_markBy_10 : decode cX7_markBy 10 = .ok (.if_icmp .ge 45, 3) := dk_162 rfl rfl rfl (by decide)
theorem dX7_markBy_13 : decode cX7_markBy 13 = .ok (.aload_n 0, 1) := dk_42 rfl
theorem dX7_markBy_14 : decode cX7_markBy 14 = .ok (.getfield 20, 3) := dk_180 rfl rfl rfl rfl
theorem dX7_markBy_17 : decode cX7_markBy 17 = .ok (.iload_n 3, 1) := dk_29 rfl
theorem dX7_markBy_18 : decode cX7_markBy 18 = .ok (.iconst 0, 1) := dk_3 rfl
theorem dX7_markBy_19 : decode cX7_markBy 19 = .ok (.invokevirtual 43, 3) := dk_182 rfl rfl rfl rfl
theorem dX7_markBy_22 : decode cX7_markBy 22 = .ok (.iload_n 1, 1) := dk_27 rfl
theorem dX7_markBy_23 : decode cX7_markBy 23 = .ok (.if_icmp .ne 26, 3) := dk_160 rfl rfl rfl (by decide)
theorem dX7_markBy_26 : decode cX7_markBy 26 = .ok (.aload_n 0, 1) := dk_42 rfl
theorem dX7_markBy_27 : decode cX7_markBy 27 = .ok (.getfield 20, 3) := dk_180 rfl rfl rfl rfl
theorem dX7_markBy_30 : decode cX7_markBy 30 = .ok (.iload_n 3, 1) := dk_29 rfl
theorem dX7_markBy_31 : decode cX7_markBy 31 = .ok (.iconst 2, 1) := dk_5 rfl
theorem dX7_markBy_32 : decode cX7_markBy 32 = .ok (.invokevirtual 43, 3) := dk_182 rfl rfl rfl rfl
theorem dX7_markBy_35 : decode cX7_markBy 35 = .ok (.iload_n 2, 1) := dk_28 rfl
theorem dX7_markBy_36 : decode cX7_markBy 36 = .ok (.if_icmp .ne 13, 3) := dk_160 rfl rfl rfl (by decide)
theorem dX7_markBy_39 : decode cX7_markBy 39 = .ok (.aload_n 0, 1) := dk_42 rfl
theorem dX7_markBy_40 : decode cX7_markBy 40 = .ok (.getfield 20, 3) := dk_180 rfl rfl rfl rfl
theorem dX7_markBy_43 : decode cX7_markBy 43 = .ok (.iload_n 3, 1) := dk_29 rfl
theorem dX7_markBy_44 : decode cX7_markBy 44 = .ok (.iconst 1, 1) := dk_4 rfl
theorem dX7_markBy_45 : decode cX7_markBy 45 = .ok (.invokevirtual 43, 3) := dk_182 rfl rfl rfl rfl
theorem dX7_markBy_48 : decode cX7_markBy 48 = .ok (.ireturn, 1) := dk_172 rfl
theorem dX7_markBy_49 : decode cX7_markBy 49 = .ok (.iinc 3 1, 3) := dk_132 rfl rfl rfl rfl (by decide)
theorem dX7_markBy_52 : decode cX7_markBy 52 = .ok (.goto (-50), 3) := dk_167 rfl rfl rfl (by decide)
theorem dX7_markBy_55 : decode cX7_markBy 55 = .ok (.bipush (-2), 2) := dk_16 rfl rfl (by decide)
theorem dX7_markBy_57 : decode cX7_markBy 57 = .ok (.ireturn, 1) := dk_172 rfl
set_option maxHeartbeats 4000000 in
set_option maxRecDepth 100000 in
theorem s_markBy (l : Launch) (g : Gx) (h0 : Nat) (p0 : Int32) (p1 : Int32) (v0h0 : Value) (xm : Nat) (v2h0 : Value) (v3h0 : Value) (xmd : Int32) (xtr : Int32) (xmc : Nat) (xmn : Int32) (xmf : Nat → Int32) : cI l g yX7_markBy cX7_markBy 4 (some .int) 1 22 0 0 [.ref h0, .int p0, .int p1] [(cO7_vrvvii h0 v0h0 xm v2h0 v3h0 xmd xtr), (cO8_iiri xm 12 3 xmc xmn), (cAI g xmc 36 xmf)] (fun r w => w = [(cO7_vrvvii h0 v0h0 xm v2h0 v3h0 xmd xtr), (cO8_iiri xm 12 3 xmc xmn), (cAI g xmc 36 xmf)]) := by
  refine cI.of (by decide) (Nat.le_of_ble_eq_true rfl) ?_
  intro p e s m args below meth c A X hr hi
  refine k_lveq [(0, .ref h0), (1, .int p0), (2, .int p1)] rfl ?_
  refine k_iconst (v := 0) X dX7_markBy_0 (by decide) ?_
  refine k_istore_n [(3, .int 0), (0, .ref h0), (1, .int p0), (2, .int p1)] X dX7_markBy_1 (by decide) rfl ?_
  refine (fun hL : ∀ (nn_2 : Nat) (u_1 : Int32), (xmn.toInt - u_1.toInt).toNat = nn_2 → Wk p l e _ s m args below meth c _ A g _ _ _ [(cO7_vrvvii h0 v0h0 xm v2h0 v3h0 xmd xtr), (cO8_iiri xm 12 3 xmc xmn), (cAI g xmc 36 xmf)] [(3, .int u_1), (0, .ref h0), (1, .int p0), (2, .int p1)] 2 [] => hL _ 0 rfl ) ?_
  refine fun nn_2 => Nat.strongRecOn nn_2 (fun nn_2 ih_4 => ?_)
  intro u_1 hm_3 
  refine k_iload_n X dX7_markBy_2 0 rfl ?_
  refine k_aload_n X dX7_markBy_3 1 rfl ?_
  refine k_get (ci := 7) X inlX7 rfl 1 (by decide) dX7_markBy_4 mw91 0 rfl rfl ?_
  refine k_get (ci := 8) X inlX8 rfl 3 (by decide) dX7_markBy_7 mw387 1 rfl rfl ?_
  refine k_ic_ge 55 X dX7_markBy_10 (by decide) (fun h_5 => ?_) (fun h_5 => ?_)
  · skip
    refine k_bipush (v := -2) X dX7_markBy_55 (by decide) ?_
    exact k_iret X hr dX7_markBy_57 (Nat.le_of_ble_eq_true rfl) (Nat.le_of_ble_eq_true rfl) [0, 1, 2] (by decide) rfl rfl rfl
  · skip
    refine k_aload_n X dX7_markBy_13 1 rfl ?_
    refine k_get (ci := 7) X inlX7 rfl 1 (by decide) dX7_markBy_14 mw91 0 rfl rfl ?_
    refine k_iload_n X dX7_markBy_17 0 rfl ?_
    refine k_iconst (v := 0) X dX7_markBy_18 (by decide) ?_
    refine k_callVI (n := 2) (As := [.int u_1, .int 0]) (st := []) X [(cO8_iiri xm 12 3 xmc xmn), (cAI g xmc 36 xmf)] [(cO7_vrvvii h0 v0h0 xm v2h0 v3h0 xmd xtr)] [1, 2] [0] (t_at l g xm u_1 0 12 3 xmc xmn 36 xmf (tbk_12_3)) dX7_markBy_19 mw388 mw376 mw377 mw64 mw378 rfl 8 rfl rfl 0 _ rfl yk_yX8_at_2 rfl (Nat.le_of_ble_eq_true rfl) (Nat.le_of_ble_eq_true rfl) (Nat.le_of_ble_eq_true rfl) (Nat.le_of_ble_eq_true rfl) (Nat.le_of_ble_eq_true rfl) rfl rfl (by decide) rfl (by decide) (by decide) ?_
    rintro r_6 w ⟨hr_7, rfl⟩
    refine k_ws [(cO7_vrvvii h0 v0h0 xm v2h0 v3h0 xmd xtr), (cO8_iiri xm 12 3 xmc xmn), (cAI g xmc 36 xmf)] rfl ?_
    refine k_iload_n X dX7_markBy_22 2 rfl ?_
    refine k_ic_ne 49 X dX7_markBy_23 (by decide) (fun h_8 => ?_) (fun h_8 => ?_)
    · skip
      obtain ⟨z_9, ez_9⟩ : ∃ y : Int32, u_1 + Int32.ofInt 1 = y := ⟨_, rfl⟩
      refine k_iinc z_9 [(3, .int z_9), (0, .ref h0), (1, .int p0), (2, .int p1)] 0 X dX7_markBy_49 rfl ez_9 (by decide) rfl ?_
      refine k_goto 2 X dX7_markBy_52 (by decide) ?_
      exact ih_4 _ (by rw [← hm_3]; exact mu_lt (by assumption) (by assumption)) z_9 rfl 
    · skip
      refine k_aload_n X dX7_markBy_26 1 rfl ?_
      refine k_get (ci := 7) X inlX7 rfl 1 (by decide) dX7_markBy_27 mw91 0 rfl rfl ?_
      refine k_iload_n X dX7_markBy_30 0 rfl ?_
      refine k_iconst (v := 2) X dX7_markBy_31 (by decide) ?_
      refine k_callVI (n := 2) (As := [.int u_1, .int 2]) (st := []) X [(cO8_iiri xm 12 3 xmc xmn), (cAI g xmc 36 xmf)] [(cO7_vrvvii h0 v0h0 xm v2h0 v3h0 xmd xtr)] [1, 2] [0] (t_at l g xm u_1 2 12 3 xmc xmn 36 xmf (tbk_12_3)) dX7_markBy_32 mw388 mw376 mw377 mw64 mw378 rfl 8 rfl rfl 0 _ rfl yk_yX8_at_2 rfl (Nat.le_of_ble_eq_true rfl) (Nat.le_of_ble_eq_true rfl) (Nat.le_of_ble_eq_true rfl) (Nat.le_of_ble_eq_true rfl) (Nat.le_of_ble_eq_true rfl) rfl rfl (by decide) rfl (by decide) (by decide) ?_
      rintro r_10 w ⟨hr_11, rfl⟩
      refine k_ws [(cO7_vrvvii h0 v0h0 xm v2h0 v3h0 xmd xtr), (cO8_iiri xm 12 3 xmc xmn), (cAI g xmc 36 xmf)] rfl ?_
      refine k_iload_n X dX7_markBy_35 3 rfl ?_
      refine k_ic_ne 49 X dX7_markBy_36 (by decide) (fun h_12 => ?_) (fun h_12 => ?_)
      · skip
        obtain ⟨z_13, ez_13⟩ : ∃ y : Int32, u_1 + Int32.ofInt 1 = y := ⟨_, rfl⟩
        refine k_iinc z_13 [(3, .int z_13), (0, .ref h0), (1, .int p0), (2, .int p1)] 0 X dX7_markBy_49 rfl ez_13 (by decide) rfl ?_
        refine k_goto 2 X dX7_markBy_52 (by decide) ?_
        exact ih_4 _ (by rw [← hm_3]; exact mu_lt (by assumption) (by assumption)) z_13 rfl 
      · skip
        refine k_aload_n X dX7_markBy_39 1 rfl ?_
        refine k_get (ci := 7) X inlX7 rfl 1 (by decide) dX7_markBy_40 mw91 0 rfl rfl ?_
        refine k_iload_n X dX7_markBy_43 0 rfl ?_
        refine k_iconst (v := 1) X dX7_markBy_44 (by decide) ?_
        refine k_callVI (n := 2) (As := [.int u_1, .int 1]) (st := []) X [(cO8_iiri xm 12 3 xmc xmn), (cAI g xmc 36 xmf)] [(cO7_vrvvii h0 v0h0 xm v2h0 v3h0 xmd xtr)] [1, 2] [0] (t_at l g xm u_1 1 12 3 xmc xmn 36 xmf (tbk_12_3)) dX7_markBy_45 mw388 mw376 mw377 mw64 mw378 rfl 8 rfl rfl 0 _ rfl yk_yX8_at_2 rfl (Nat.le_of_ble_eq_true rfl) (Nat.le_of_ble_eq_true rfl) (Nat.le_of_ble_eq_true rfl) (Nat.le_of_ble_eq_true rfl) (Nat.le_of_ble_eq_true rfl) rfl rfl (by decide) rfl (by decide) (by decide) ?_
        rintro r_14 w ⟨hr_15, rfl⟩
        refine k_ws [(cO7_vrvvii h0 v0h0 xm v2h0 v3h0 xmd xtr), (cO8_iiri xm 12 3 xmc xmn), (cAI g xmc 36 xmf)] rfl ?_
        exact k_iret X hr dX7_markBy_48 (Nat.le_of_ble_eq_true rfl) (Nat.le_of_ble_eq_true rfl) [0, 1, 2] (by decide) rfl rfl rfl

theorem dX7_isMarked_0 : decode cX7_isMarked 0 = .ok (.iconst 0, 1) := dk_3 rfl
theorem dX7_isMarked_1 : decode cX7_isMarked 1 = .ok (.istore 4, 2) := dk_54 rfl rfl rfl
theorem dX7_isMarked_3 : decode cX7_isMarked 3 = .ok (.iload 4, 2) := dk_21 rfl rfl rfl
theorem dX7_isMarked_5 : decode cX7_isMarked 5 = .ok (.iload_n 3, 1) := dk_29 rfl
theorem dX7_isMarked_6 : decode cX7_isMarked 6 = .ok (.if_icmp .ge 39, 3) := dk_162 rfl rfl rfl (by decide)
theorem dX7_isMarked_9 : decode cX7_isMarked 9 = .ok (.aload_n 0, 1) := dk_42 rfl
theorem dX7_isMarked_10 : decode cX7_isMarked 10 = .ok (.getfield 20, 3) := dk_180 rfl rfl rfl rfl
theorem dX7_isMarked_13 : decode cX7_isMarked 13 = .ok (.iload 4, 2) := dk_21 rfl rfl rfl
theorem dX7_isMarked_15 : decode cX7_isMarked 15 = .ok (.iconst 0, 1) := dk_3 rfl
theorem dX7_isMarked_16 : decode cX7_isMarked 16 = .ok (.invokevirtual 43, 3) := dk_182 rfl rfl rfl rfl
theorem dX7_isMarked_19 : decode cX7_isMarked 19 = .ok (.iload_n 1, 1) := dk_27 rfl
theorem dX7_isMarked_20 : decode cX7_isMarked 20 = .ok (.if_icmp .ne 19, 3) := dk_160 rfl rfl rfl (by decide)
theorem dX7_isMarked_23 : decode cX7_isMarked 23 = .ok (.aload_n 0, 1) := dk_42 rfl
theorem dX7_isMarked_24 : decode cX7_isMarked 24 = .ok (.getfield 20, 3) := dk_180 rfl rfl rfl rfl
theorem dX7_isMarked_27 : decode cX7_isMarked 27 = .ok (.iload 4, 2) := dk_21 rfl rfl rfl
theorem dX7_isMarked_29 : decode cX7_isMarked 29 = .ok (.iconst 1, 1) := dk_4 rfl
theorem dX7_isMarked_30 : decode cX7_isMarked 30 = .ok (.invokevirtual 43, 3) := dk_182 rfl rfl rfl rfl
theorem dX7_isMarked_33 : decode cX7_isMarked 33 = .ok (.iload_n 2, 1) := dk_28 rfl
theorem dX7_isMarked_34 : decode cX7_isMarked 34 = .ok (.if_icmp .ne 5, 3) := dk_160 rfl rfl rfl (by decide)
theorem dX7_isMarked_37 : decode cX7_isMarked 37 = .ok (.iconst 1, 1) := dk_4 rfl
theorem dX7_isMarked_38 : decode cX7_isMarked 38 = .ok (.ireturn, 1) := dk_172 rfl
theorem dX7_isMarked_39 : decode cX7_isMarked 39 = .ok (.iinc 4 1, 3) := dk_132 rfl rfl rfl rfl (by decide)
theorem dX7_isMarked_42 : decode cX7_isMarked 42 = .ok (.goto (-39), 3) := dk_167 rfl rfl rfl (by decide)
theorem dX7_isMarked_45 : decode cX7_isMarked 45 = .ok (.iconst 0, 1) := dk_3 rfl
theorem dX7_isMarked_46 : decode cX7_isMarked 46 = .ok (.ireturn, 1) := dk_172 rfl
set_option maxHeartbeats 4000000 in
set_option maxRecDepth 100000 in
theorem s_isMarked (l : Launch) (g : Gx) (h0 : Nat) (p0 : Int32) (p1 : Int32) (p2 : Int32) (v0h0 : Value) (xm : Nat) (v2h0 : Value) (v3h0 : Value) (xmd : Int32) (xtr : Int32) (xmc : Nat) (xmn : Int32) (xmf : Nat → Int32) : cI l g yX7_isMarked cX7_isMarked 5 (some .boolean) 1 22 0 0 [.ref h0, .int p0, .int p1, .int p2] [(cO7_vrvvii h0 v0h0 xm v2h0 v3h0 xmd xtr), (cO8_iiri xm 12 3 xmc xmn), (cAI g xmc 36 xmf)] (fun r w => w = [(cO7_vrvvii h0 v0h0 xm v2h0 v3h0 xmd xtr), (cO8_iiri xm 12 3 xmc xmn), (cAI g xmc 36 xmf)]) := by
  refine cI.of (by decide) (Nat.le_of_ble_eq_true rfl) ?_
  intro p e s m args below meth c A X hr hi
  refine k_lveq [(0, .ref h0), (1, .int p0), (2, .int p1), (3, .int p2)] rfl ?_
  refine k_iconst (v := 0) X dX7_isMarked_0 (by decide) ?_
  refine k_istore [(4, .int 0), (0, .ref h0), (1, .int p0), (2, .int p1), (3, .int p2)] X dX7_isMarked_1 (by decide) rfl ?_
  refine (fun hL : ∀ (nn_2 : Nat) (u_1 : Int32), (p2.toInt - u_1.toInt).toNat = nn_2 → Wk p l e _ s m args below meth c _ A g _ _ _ [(cO7_vrvvii h0 v0h0 xm v2h0 v3h0 xmd xtr), (cO8_iiri xm 12 3 xmc xmn), (cAI g xmc 36 xmf)] [(4, .int u_1), (0, .ref h0), (1, .int p0), (2, .int p1), (3, .int p2)] 3 [] => hL _ 0 rfl ) ?_
  refine fun nn_2 => Nat.strongRecOn nn_2 (fun nn_2 ih_4 => ?_)
  intro u_1 hm_3 
  refine k_iload X dX7_isMarked_3 0 rfl ?_
  refine k_iload_n X dX7_isMarked_5 4 rfl ?_
  refine k_ic_ge 45 X dX7_isMarked_6 (by decide) (fun h_5 => ?_) (fun h_5 => ?_)
  · skip
    refine k_iconst (v := 0) X dX7_isMarked_45 (by decide) ?_
    exact k_zret X hr (by first | rfl | decide) dX7_isMarked_46 (Nat.le_of_ble_eq_true rfl) (Nat.le_of_ble_eq_true rfl) [0, 1, 2] (by decide) rfl rfl rfl
  · skip
    refine k_aload_n X dX7_isMarked_9 1 rfl ?_
    refine k_get (ci := 7) X inlX7 rfl 1 (by decide) dX7_isMarked_10 mw91 0 rfl rfl ?_
    refine k_iload X dX7_isMarked_13 0 rfl ?_
    refine k_iconst (v := 0) X dX7_isMarked_15 (by decide) ?_
    refine k_callVI (n := 2) (As := [.int u_1, .int 0]) (st := []) X [(cO8_iiri xm 12 3 xmc xmn), (cAI g xmc 36 xmf)] [(cO7_vrvvii h0 v0h0 xm v2h0 v3h0 xmd xtr)] [1, 2] [0] (t_at l g xm u_1 0 12 3 xmc xmn 36 xmf (tbk_12_3)) dX7_isMarked_16 mw388 mw376 mw377 mw64 mw378 rfl 8 rfl rfl 0 _ rfl yk_yX8_at_2 rfl (Nat.le_of_ble_eq_true rfl) (Nat.le_of_ble_eq_true rfl) (Nat.le_of_ble_eq_true rfl) (Nat.le_of_ble_eq_true rfl) (Nat.le_of_ble_eq_true rfl) rfl rfl (by decide) rfl (by decide) (by decide) ?_
    rintro r_6 w ⟨hr_7, rfl⟩
    refine k_ws [(cO7_vrvvii h0 v0h0 xm v2h0 v3h0 xmd xtr), (cO8_iiri xm 12 3 xmc xmn), (cAI g xmc 36 xmf)] rfl ?_
    refine k_iload_n X dX7_isMarked_19 2 rfl ?_
    refine k_ic_ne 39 X dX7_isMarked_20 (by decide) (fun h_8 => ?_) (fun h_8 => ?_)
    · skip
      obtain ⟨z_9, ez_9⟩ : ∃ y : Int32, u_1 + Int32.ofInt 1 = y := ⟨_, rfl⟩
      refine k_iinc z_9 [(4, .int z_9), (0, .ref h0), (1, .int p0), (2, .int p1), (3, .int p2)] 0 X dX7_isMarked_39 rfl ez_9 (by decide) rfl ?_
      refine k_goto 3 X dX7_isMarked_42 (by decide) ?_
      exact ih_4 _ (by rw [← hm_3]; exact mu_lt (by assumption) (by assumption)) z_9 rfl 
    · skip
      refine k_aload_n X dX7_isMarked_23 1 rfl ?_
      refine k_get (ci := 7) X inlX7 rfl 1 (by decide) dX7_isMarked_24 mw91 0 rfl rfl ?_
      refine k_iload X dX7_isMarked_27 0 rfl ?_
      refine k_iconst (v := 1) X dX7_isMarked_29 (by decide) ?_
      refine k_callVI (n := 2) (As := [.int u_1, .int 1]) (st := []) X [(cO8_iiri xm 12 3 xmc xmn), (cAI g xmc 36 xmf)] [(cO7_vrvvii h0 v0h0 xm v2h0 v3h0 xmd xtr)] [1, 2] [0] (t_at l g xm u_1 1 12 3 xmc xmn 36 xmf (tbk_12_3)) dX7_isMarked_30 mw388 mw376 mw377 mw64 mw378 rfl 8 rfl rfl 0 _ rfl yk_yX8_at_2 rfl (Nat.le_of_ble_eq_true rfl) (Nat.le_of_ble_eq_true rfl) (Nat.le_of_ble_eq_true rfl) (Nat.le_of_ble_eq_true rfl) (Nat.le_of_ble_eq_true rfl) rfl rfl (by decide) rfl (by decide) (by decide) ?_
      rintro r_10 w ⟨hr_11, rfl⟩
      refine k_ws [(cO7_vrvvii h0 v0h0 xm v2h0 v3h0 xmd xtr), (cO8_iiri xm 12 3 xmc xmn), (cAI g xmc 36 xmf)] rfl ?_
      refine k_iload_n X dX7_isMarked_33 3 rfl ?_
      refine k_ic_ne 39 X dX7_isMarked_34 (by decide) (fun h_12 => ?_) (fun h_12 => ?_)
      · skip
        obtain ⟨z_13, ez_13⟩ : ∃ y : Int32, u_1 + Int32.ofInt 1 = y := ⟨_, rfl⟩
        refine k_iinc z_13 [(4, .int z_13), (0, .ref h0), (1, .int p0), (2, .int p1), (3, .int p2)] 0 X dX7_isMarked_39 rfl ez_13 (by decide) rfl ?_
        refine k_goto 3 X dX7_isMarked_42 (by decide) ?_
        exact ih_4 _ (by rw [← hm_3]; exact mu_lt (by assumption) (by assumption)) z_13 rfl 
      · skip
        refine k_iconst (v := 1) X dX7_isMarked_37 (by decide) ?_
        exact k_zret X hr (by first | rfl | decide) dX7_isMarked_38 (Nat.le_of_ble_eq_true rfl) (Nat.le_of_ble_eq_true rfl) [0, 1, 2] (by decide) rfl rfl rfl

theorem dX7_isMeantPerhaps_0 : decode cX7_isMeantPerhaps 0 = .ok (.aload_n 0, 1) := dk_42 rfl
theorem dX7_isMeantPerhaps_1 : decode cX7_isMeantPerhaps 1 = .ok (.getfield 14, 3) := dk_180 rfl rfl rfl rfl
theorem dX7_isMeantPerhaps_4 : decode cX7_isMeantPerhaps 4 = .ok (.iload_n 1, 1) := dk_27 rfl
theorem dX7_isMeantPerhaps_5 : decode cX7_isMeantPerhaps 5 = .ok (.iconst 1, 1) := dk_4 rfl
theorem dX7_isMeantPerhaps_6 : decode cX7_isMeantPerhaps 6 = .ok (.invokevirtual 43, 3) := dk_182 rfl rfl rfl rfl
theorem dX7_isMeantPerhaps_9 : decode cX7_isMeantPerhaps 9 = .ok (.iload_n 2, 1) := dk_28 rfl
theorem dX7_isMeantPerhaps_10 : decode cX7_isMeantPerhaps 10 = .ok (.if_icmp .eq 19, 3) := dk_159 rfl rfl rfl (by decide)
theorem dX7_isMeantPerhaps_13 : decode cX7_isMeantPerhaps 13 = .ok (.aload_n 0, 1) := dk_42 rfl
theorem dX7_isMeantPerhaps_14 : decode cX7_isMeantPerhaps 14 = .ok (.iload_n 1, 1) := dk_27 rfl
theorem dX7_isMeantPerhaps_15 : decode cX7_isMeantPerhaps 15 = .ok (.iload_n 2, 1) := dk_28 rfl
theorem dX7_isMeantPerhaps_16 : decode cX7_isMeantPerhaps 16 = .ok (.aload_n 0, 1) := dk_42 rfl
theorem dX7_isMeantPerhaps_17 : decode cX7_isMeantPerhaps 17 = .ok (.getfield 20, 3) := dk_180 rfl rfl rfl rfl
theorem dX7_isMeantPerhaps_20 : decode cX7_isMeantPerhaps 20 = .ok (.getfield 51, 3) := dk_180 rfl rfl rfl rfl
theorem dX7_isMeantPerhaps_23 : decode cX7_isMeantPerhaps 23 = .ok (.invokevirtual 57, 3) := dk_182 rfl rfl rfl rfl
theorem dX7_isMeantPerhaps_26 : decode cX7_isMeantPerhaps 26 = .ok (.ifCond .eq 7, 3) := dk_153 rfl rfl rfl (by decide)
theorem dX7_isMeantPerhaps_29 : decode cX7_isMeantPerhaps 29 = .ok (.iconst 1, 1) := dk_4 rfl
theorem dX7_isMeantPerhaps_30 : decode cX7_isMeantPerhaps 30 = .ok (.goto 4, 3) := dk_167 rfl rfl rfl (by decide)
theorem dX7_isMeantPerhaps_33 : decode cX7_isMeantPerhaps 33 = .ok (.iconst 0, 1) := dk_3 rfl
theorem dX7_isMeantPerhaps_34 : decode cX7_isMeantPerhaps 34 = .ok (.ireturn, 1) := dk_172 rfl
set_option maxHeartbeats 4000000 in
set_option maxRecDepth 100000 in
theorem s_isMeantPerhaps (l : Launch) (g : Gx) (h0 : Nat) (p0 : Int32) (p1 : Int32) (xr : Nat) (xm : Nat) (v2h0 : Value) (v3h0 : Value) (xmd : Int32) (xtr : Int32) (xrc : Nat) (xrn : Int32) (xrf : Nat → Int32) (xmc : Nat) (xmn : Int32) (xmf : Nat → Int32) : cI l g yX7_isMeantPerhaps cX7_isMeantPerhaps 3 (some .boolean) 2 46 0 0 [.ref h0, .int p0, .int p1] [(cO7_rrvvii h0 xr xm v2h0 v3h0 xmd xtr), (cO8_iiri xr 8 3 xrc xrn), (cAI g xrc 24 xrf), (cO8_iiri xm 12 3 xmc xmn), (cAI g xmc 36 xmf)] (fun r w => w = [(cO7_rrvvii h0 xr xm v2h0 v3h0 xmd xtr), (cO8_iiri xr 8 3 xrc xrn), (cAI g xrc 24 xrf), (cO8_iiri xm 12 3 xmc xmn), (cAI g xmc 36 xmf)]) := by
  refine cI.of (by decide) (Nat.le_of_ble_eq_true rfl) ?_
  intro p e s m args below meth c A X hr hi
  refine k_lveq [(0, .ref h0), (1, .int p0), (2, .int p1)] rfl ?_
  refine k_aload_n X dX7_isMeantPerhaps_0 0 rfl ?_
  refine k_get (ci := 7) X inlX7 rfl 0 (by decide) dX7_isMeantPerhaps_1 mw90 0 rfl rfl ?_
  refine k_iload_n X dX7_isMeantPerhaps_4 1 rfl ?_
  refine k_iconst (v := 1) X dX7_isMeantPerhaps_5 (by decide) ?_
  refine k_callVI (n := 2) (As := [.int p0, .int 1]) (st := []) X [(cO8_iiri xr 8 3 xrc xrn), (cAI g xrc 24 xrf)] [(cO7_rrvvii h0 xr xm v2h0 v3h0 xmd xtr), (cO8_iiri xm 12 3 xmc xmn), (cAI g xmc 36 xmf)] [1, 2] [0, 3, 4] (t_at l g xr p0 1 8 3 xrc xrn 24 xrf (tbk_8_3)) dX7_isMeantPerhaps_6 mw388 mw376 mw377 mw64 mw378 rfl 8 rfl rfl 0 _ rfl yk_yX8_at_2 rfl (Nat.le_of_ble_eq_true rfl) (Nat.le_of_ble_eq_true rfl) (Nat.le_of_ble_eq_true rfl) (Nat.le_of_ble_eq_true rfl) (Nat.le_of_ble_eq_true rfl) rfl rfl (by decide) rfl (by decide) (by decide) ?_
  rintro r_1 w ⟨hr_2, rfl⟩
  refine k_ws [(cO7_rrvvii h0 xr xm v2h0 v3h0 xmd xtr), (cO8_iiri xm 12 3 xmc xmn), (cAI g xmc 36 xmf), (cO8_iiri xr 8 3 xrc xrn), (cAI g xrc 24 xrf)] rfl ?_
  refine k_iload_n X dX7_isMeantPerhaps_9 2 rfl ?_
  refine k_ic_eq 29 X dX7_isMeantPerhaps_10 (by decide) (fun h_3 => ?_) (fun h_3 => ?_)
  · skip
    refine k_iconst (v := 1) X dX7_isMeantPerhaps_29 (by decide) ?_
    refine k_goto 34 X dX7_isMeantPerhaps_30 (by decide) ?_
    exact k_zret X hr (by first | rfl | decide) dX7_isMeantPerhaps_34 (Nat.le_of_ble_eq_true rfl) (Nat.le_of_ble_eq_true rfl) [0, 3, 4, 1, 2] (by decide) rfl rfl rfl
  · skip
    refine k_aload_n X dX7_isMeantPerhaps_13 0 rfl ?_
    refine k_iload_n X dX7_isMeantPerhaps_14 1 rfl ?_
    refine k_iload_n X dX7_isMeantPerhaps_15 2 rfl ?_
    refine k_aload_n X dX7_isMeantPerhaps_16 0 rfl ?_
    refine k_get (ci := 7) X inlX7 rfl 1 (by decide) dX7_isMeantPerhaps_17 mw91 0 rfl rfl ?_
    refine k_get (ci := 8) X inlX8 rfl 3 (by decide) dX7_isMeantPerhaps_20 mw387 1 rfl rfl ?_
    refine k_callVI (n := 3) (As := [.int p0, .int p1, .int xmn]) (st := []) X [(cO7_rrvvii h0 xr xm v2h0 v3h0 xmd xtr), (cO8_iiri xm 12 3 xmc xmn), (cAI g xmc 36 xmf)] [(cO8_iiri xr 8 3 xrc xrn), (cAI g xrc 24 xrf)] [0, 1, 2] [3, 4] (s_isMarked l g h0 p0 p1 xmn (.ref xr) xm v2h0 v3h0 xmd xtr xmc xmn xmf) dX7_isMeantPerhaps_23 mw1121 mw1122 mw1123 mw23 mw1124 rfl 7 rfl rfl 0 _ rfl yk_yX7_isMarked_3 rfl (Nat.le_of_ble_eq_true rfl) (Nat.le_of_ble_eq_true rfl) (Nat.le_of_ble_eq_true rfl) (Nat.le_of_ble_eq_true rfl) (Nat.le_of_ble_eq_true rfl) rfl rfl (by decide) rfl (by decide) (by decide) ?_
    rintro r_4 w rfl
    refine k_ws [(cO8_iiri xr 8 3 xrc xrn), (cAI g xrc 24 xrf), (cO7_rrvvii h0 xr xm v2h0 v3h0 xmd xtr), (cO8_iiri xm 12 3 xmc xmn), (cAI g xmc 36 xmf)] rfl ?_
    refine k_if_eq 33 X dX7_isMeantPerhaps_26 (by decide) (fun h_6 => ?_) (fun h_6 => ?_)
    · skip
      refine k_iconst (v := 0) X dX7_isMeantPerhaps_33 (by decide) ?_
      exact k_zret X hr (by first | rfl | decide) dX7_isMeantPerhaps_34 (Nat.le_of_ble_eq_true rfl) (Nat.le_of_ble_eq_true rfl) [2, 0, 1, 3, 4] (by decide) rfl rfl rfl
    · skip
      refine k_iconst (v := 1) X dX7_isMeantPerhaps_29 (by decide) ?_
      refine k_goto 34 X dX7_isMeantPerhaps_30 (by decide) ?_
      exact k_zret X hr (by first | rfl | decide) dX7_isMeantPerhaps_34 (Nat.le_of_ble_eq_true rfl) (Nat.le_of_ble_eq_true rfl) [2, 0, 1, 3, 4] (by decide) rfl rfl rfl

theorem dX7_believedBy_0 : decode cX7_believedBy 0 = .ok (.aload_n 1, 1) := dk_43 rfl
theorem dX7_believedBy_1 : decode cX7_believedBy 1 = .ok (.iload_n 2, 1) := dk_28 rfl
theorem dX7_believedBy_2 : decode cX7_believedBy 2 = .ok (.iconst 0, 1) := dk_3 rfl
theorem dX7_believedBy_3 : decode cX7_believedBy 3 = .ok (.invokevirtual 43, 3) := dk_182 rfl rfl rfl rfl
theorem dX7_believedBy_6 : decode cX7_believedBy 6 = .ok (.istore 4, 2) := dk_54 rfl rfl rfl
theorem dX7_believedBy_8 : decode cX7_believedBy 8 = .ok (.aload_n 0, 1) := dk_42 rfl
theorem dX7_believedBy_9 : decode cX7_believedBy 9 = .ok (.getfield 14, 3) := dk_180 rfl rfl rfl rfl
theorem dX7_believedBy_12 : decode cX7_believedBy 12 = .ok (.iload_n 3, 1) := dk_29 rfl
theorem dX7_believedBy_13 : decode cX7_believedBy 13 = .ok (.iconst 1, 1) := dk_4 rfl
theorem dX7_believedBy_14 : decode cX7_believedBy 14 = .ok (.invokevirtual 43, 3) := dk_182 rfl rfl rfl rfl
theorem dX7_believedBy_17 : decode cX7_believedBy 17 = .ok (.istore 5, 2) := dk_54 rfl rfl rfl
theorem dX7_believedBy_19 : decode cX7_believedBy 19 = .ok (.iconst 0, 1) := dk_3 rfl
theorem dX7_believedBy_20 : decode cX7_believedBy 20 = .ok (.istore 6, 2) := dk_54 rfl rfl rfl
theorem dX7_believedBy_22 : decode cX7_believedBy 22 = .ok (.iload 6, 2) := dk_21 rfl rfl rfl
theorem dX7_believedBy_24 : decode cX7_believedBy 24 = .ok (.aload_n 0, 1) := dk_42 rfl
theorem dX7_believedBy_25 : decode cX7_believedBy 25 = .ok (.getfield 20, 3) := dk_180 rfl rfl rfl rfl
theorem dX7_believedBy_28 : decode cX7_believedBy 28 = .ok (.getfield 51, 3) := dk_180 rfl rfl rfl rfl
theorem dX7_believedBy_31 : decode cX7_believedBy 31 = .ok (.if_icmp .ge 90, 3) := dk_162 rfl rfl rfl (by decide)
theorem dX7_believedBy_34 : decode cX7_believedBy 34 = .ok (.aload_n 0, 1) := dk_42 rfl
theorem dX7_believedBy_35 : decode cX7_believedBy 35 = .ok (.getfield 20, 3) := dk_180 rfl rfl rfl rfl
theorem dX7_believedBy_38 : decode cX7_believedBy 38 = .ok (.iload 6, 2) := dk_21 rfl rfl rfl
theorem dX7_believedBy_40 : decode cX7_believedBy 40 = .ok (.iconst 0, 1) := dk_3 rfl
theorem dX7_believedBy_41 : decode cX7_believedBy 41 = .ok (.invokevirtual 43, 3) := dk_182 rfl rfl rfl rfl
theorem dX7_believedBy_44 : decode cX7_believedBy 44 = .ok (.iload_n 3, 1) := dk_29 rfl
theorem dX7_believedBy_45 : decode cX7_believedBy 45 = .ok (.if_icmp .ne 70, 3) := dk_160 rfl rfl rfl (by decide)
theorem dX7_believedBy_48 : decode cX7_believedBy 48 = .ok (.aload_n 0, 1) := dk_42 rfl
theorem dX7_believedBy_49 : decode cX7_believedBy 49 = .ok (.getfield 20, 3) := dk_180 rfl rfl rfl rfl
theorem dX7_believedBy_52 : decode cX7_believedBy 52 = .ok (.iload 6, 2) := dk_21 rfl rfl rfl
theorem dX7_believedBy_54 : decode cX7_believedBy 54 = .ok (.iconst 1, 1) := dk_4 rfl
theorem dX7_believedBy_55 : decode cX7_believedBy 55 = .ok (.invokevirtual 43, 3) := dk_182 rfl rfl rfl rfl
theorem dX7_believedBy_58 : decode cX7_believedBy 58 = .ok (.istore 7, 2) := dk_54 rfl rfl rfl
theorem dX7_believedBy_60 : decode cX7_believedBy 60 = .ok (.iload 4, 2) := dk_21 rfl rfl rfl
theorem dX7_believedBy_62 : decode cX7_believedBy 62 = .ok (.iconst 1, 1) := dk_4 rfl
theorem dX7_believedBy_63 : decode cX7_believedBy 63 = .ok (.if_icmp .ne 10, 3) := dk_160 rfl rfl rfl (by decide)
theorem dX7_believedBy_66 : decode cX7_believedBy 66 = .ok (.iload 7, 2) := dk_21 rfl rfl rfl
theorem dX7_believedBy_68 : decode cX7_believedBy 68 = .ok (.iload 5, 2) := dk_21 rfl rfl rfl
theorem dX7_believedBy_70 : decode cX7_believedBy 70 = .ok (.if_icmp .lt 41, 3) := dk_161 rfl rfl rfl (by decide)
theorem dX7_believedBy_73 : decode cX7_believedBy 73 = .ok (.iload 4, 2) := dk_21 rfl rfl rfl
theorem dX7_believedBy_75 : decode cX7_believedBy 75 = .ok (.iconst 2, 1) := dk_5 rfl
theorem dX7_believedBy_76 : decode cX7_believedBy 76 = .ok (.if_icmp .ne 10, 3) := dk_160 rfl rfl rfl (by decide)
theorem dX7_believedBy_79 : decode cX7_believedBy 79 = .ok (.iload 7, 2) := dk_21 rfl rfl rfl
theorem dX7_believedBy_81 : decode cX7_believedBy 81 = .ok (.iload 5, 2) := dk_21 rfl rfl rfl
theorem dX7_believedBy_83 : decode cX7_believedBy 83 = .ok (.if_icmp .gt 28, 3) := dk_163 rfl rfl rfl (by decide)
theorem dX7_believedBy_86 : decode cX7_believedBy 86 = .ok (.iload 4, 2) := dk_21 rfl rfl rfl
theorem dX7_believedBy_88 : decode cX7_believedBy 88 = .ok (.iconst 3, 1) := dk_6 rfl
theorem dX7_believedBy_89 : decode cX7_believedBy 89 = .ok (.if_icmp .ne 26, 3) := dk_160 rfl rfl rfl (by decide)
theorem dX7_believedBy_92 : decode cX7_believedBy 92 = .ok (.aload_n 0, 1) := dk_42 rfl
theorem dX7_believedBy_93 : decode cX7_believedBy 93 = .ok (.getfield 20, 3) := dk_180 rfl rfl rfl rfl
theorem dX7_believedBy_96 : decode cX7_believedBy 96 = .ok (.iload 6, 2) := dk_21 rfl rfl rfl
theorem dX7_believedBy_98 : decode cX7_believedBy 98 = .ok (.iconst 2, 1) := by decide +kernel
theorem dX7_believedBy_99 : decode cX7_believedBy 99 = .ok (.invokevirtual 43, 3) := by decide +kernel
theorem dX7_believedBy_102 : decode cX7_believedBy 102 = .ok (.aload_n 1, 1) := by decide +kernel
theorem dX7_believedBy_103 : decode cX7_believedBy 103 = .ok (.iload_n 2, 1) := by decide +kernel
theorem dX7_believedBy_104 : decode cX7_believedBy 104 = .ok (.iconst 1, 1) := by decide +kernel
theorem dX7_believedBy_105 : decode cX7_believedBy 105 = .ok (.invokevirtual 43, 3) := by decide +kernel
theorem dX7_believedBy_108 : decode cX7_believedBy 108 = .ok (.if_icmp .ne 7, 3) := by decide +kernel
theorem dX7_believedBy_111 : decode cX7_believedBy 111 = .ok (.iload 7, 2) := by decide +kernel
theorem dX7_believedBy_113 : decode cX7_believedBy 113 = .ok (.istore 5, 2) := by decide +kernel
theorem dX7_believedBy_115 : decode cX7_believedBy 115 = .ok (.iinc 6 1, 3) := by decide +kernel
theorem dX7_believedBy_118 : decode cX7_believedBy 118 = .ok (.goto (-96), 3) := by decide +kernel
theorem dX7_believedBy_121 : decode cX7_believedBy 121 = .ok (.iload 5, 2) := by decide +kernel
theorem dX7_believedBy_123 : decode cX7_believedBy 123 = .ok (.ireturn, 1) := by decide +kernel
set_option maxHeartbeats 4000000 in
set_option maxRecDepth 100000 in
theorem s_believedBy (l : Launch) (g : Gx) (h0 : Nat) (mn : Nat) (p0 : Int32) (p1 : Int32) (xr : Nat) (xm : Nat) (v2h0 : Value) (v3h0 : Value) (xmd : Int32) (xtr : Int32) (xrc : Nat) (xrn : Int32) (xrf : Nat → Int32) (xmc : Nat) (xmn : Int32) (xmf : Nat → Int32) (mnc : Nat) (mnn : Int32) (mnf : Nat → Int32) : cI l g yX7_believedBy cX7_believedBy 8 (some .int) 1 22 0 0 [.ref h0, .ref mn, .int p0, .int p1] [(cO7_rrvvii h0 xr xm v2h0 v3h0 xmd xtr), (cO8_iiri xr 8 3 xrc xrn), (cAI g xrc 24 xrf), (cO8_iiri xm 12 3 xmc xmn), (cAI g xmc 36 xmf), (cO8_iiri mn 4 3 mnc mnn), (cAI g mnc 12 mnf)] (fun r w => w = [(cO7_rrvvii h0 xr xm v2h0 v3h0 xmd xtr), (cO8_iiri xr 8 3 xrc xrn), (cAI g xrc 24 xrf), (cO8_iiri xm 12 3 xmc xmn), (cAI g xmc 36 xmf), (cO8_iiri mn 4 3 mnc mnn), (cAI g mnc 12 mnf)]) := by
  refine cI.of (by decide) (Nat.le_of_ble_eq_true rfl) ?_
  intro p e s m args below meth c A X hr hi
  refine k_lveq [(0, .ref h0), (1, .ref mn), (2, .int p0), (3, .int p1)] rfl ?_
  refine k_aload_n X dX7_believedBy_0 1 rfl ?_
  refine k_iload_n X dX7_believedBy_1 2 rfl ?_
  refine k_iconst (v := 0) X dX7_believedBy_2 (by decide) ?_
  refine k_callVI (n := 2) (As := [.int p0, .int 0]) (st := []) X [(cO8_iiri mn 4 3 mnc mnn), (cAI g mnc 12 mnf)] [(cO7_rrvvii h0 xr xm v2h0 v3h0 xmd xtr), (cO8_iiri xr 8 3 xrc xrn), (cAI g xrc 24 xrf), (cO8_iiri xm 12 3 xmc xmn), (cAI g xmc 36 xmf)] [5, 6] [0, 1, 2, 3, 4] (t_at l g mn p0 0 4 3 mnc mnn 12 mnf (tbk_4_3)) dX7_believedBy_3 mw388 mw376 mw377 mw64 mw378 rfl 8 rfl rfl 0 _ rfl yk_yX8_at_2 rfl (Nat.le_of_ble_eq_true rfl) (Nat.le_of_ble_eq_true rfl) (Nat.le_of_ble_eq_true rfl) (Nat.le_of_ble_eq_true rfl) (Nat.le_of_ble_eq_true rfl) rfl rfl (by decide) rfl (by decide) (by decide) ?_
  rintro r_1 w ⟨hr_2, rfl⟩
  refine k_ws [(cO7_rrvvii h0 xr xm v2h0 v3h0 xmd xtr), (cO8_iiri xr 8 3 xrc xrn), (cAI g xrc 24 xrf), (cO8_iiri xm 12 3 xmc xmn), (cAI g xmc 36 xmf), (cO8_iiri mn 4 3 mnc mnn), (cAI g mnc 12 mnf)] rfl ?_
  refine k_istore [(4, .int r_1), (0, .ref h0), (1, .ref mn), (2, .int p0), (3, .int p1)] X dX7_believedBy_6 (by decide) rfl ?_
  refine k_aload_n X dX7_believedBy_8 1 rfl ?_
  refine k_get (ci := 7) X inlX7 rfl 0 (by decide) dX7_believedBy_9 mw90 0 rfl rfl ?_
  refine k_iload_n X dX7_believedBy_12 4 rfl ?_
  refine k_iconst (v := 1) X dX7_believedBy_13 (by decide) ?_
  refine k_callVI (n := 2) (As := [.int p1, .int 1]) (st := []) X [(cO8_iiri xr 8 3 xrc xrn), (cAI g xrc 24 xrf)] [(cO7_rrvvii h0 xr xm v2h0 v3h0 xmd xtr), (cO8_iiri xm 12 3 xmc xmn), (cAI g xmc 36 xmf), (cO8_iiri mn 4 3 mnc mnn), (cAI g mnc 12 mnf)] [1, 2] [0, 3, 4, 5, 6] (t_at l g xr p1 1 8 3 xrc xrn 24 xrf (tbk_8_3)) dX7_believedBy_14 mw388 mw376 mw377 mw64 mw378 rfl 8 rfl rfl 0 _ rfl yk_yX8_at_2 rfl (Nat.le_of_ble_eq_true rfl) (Nat.le_of_ble_eq_true rfl) (Nat.le_of_ble_eq_true rfl) (Nat.le_of_ble_eq_true rfl) (Nat.le_of_ble_eq_true rfl) rfl rfl (by decide) rfl (by decide) (by decide) ?_
  rintro r_3 w ⟨hr_4, rfl⟩
  refine k_ws [(cO7_rrvvii h0 xr xm v2h0 v3h0 xmd xtr), (cO8_iiri xm 12 3 xmc xmn), (cAI g xmc 36 xmf), (cO8_iiri mn 4 3 mnc mnn), (cAI g mnc 12 mnf), (cO8_iiri xr 8 3 xrc xrn), (cAI g xrc 24 xrf)] rfl ?_
  refine k_istore [(5, .int r_3), (4, .int r_1), (0, .ref h0), (1, .ref mn), (2, .int p0), (3, .int p1)] X dX7_believedBy_17 (by decide) rfl ?_
  refine k_iconst (v := 0) X dX7_believedBy_19 (by decide) ?_
  refine k_istore [(6, .int 0), (5, .int r_3), (4, .int r_1), (0, .ref h0), (1, .ref mn), (2, .int p0), (3, .int p1)] X dX7_believedBy_20 (by decide) rfl ?_
  refine (fun hL : ∀ (nn_7 : Nat) (u_5 : Int32) (u_6 : Int32), (xmn.toInt - u_5.toInt).toNat = nn_7 → Wk p l e _ s m args below meth c _ A g _ _ _ [(cO7_rrvvii h0 xr xm v2h0 v3h0 xmd xtr), (cO8_iiri xm 12 3 xmc xmn), (cAI g xmc 36 xmf), (cO8_iiri mn 4 3 mnc mnn), (cAI g mnc 12 mnf), (cO8_iiri xr 8 3 xrc xrn), (cAI g xrc 24 xrf)] [(6, .int u_5), (5, .int u_6), (4, .int r_1), (0, .ref h0), (1, .ref mn), (2, .int p0), (3, .int p1)] 22 [] => hL _ 0 r_3 rfl ) ?_
  refine fun nn_7 => Nat.strongRecOn nn_7 (fun nn_7 ih_9 => ?_)
  intro u_5 u_6 hm_8 
  refine k_iload X dX7_believedBy_22 0 rfl ?_
  refine k_aload_n X dX7_believedBy_24 3 rfl ?_
  refine k_get (ci := 7) X inlX7 rfl 1 (by decide) dX7_believedBy_25 mw91 0 rfl rfl ?_
  refine k_get (ci := 8) X inlX8 rfl 3 (by decide) dX7_believedBy_28 mw387 1 rfl rfl ?_
  refine k_ic_ge 121 X dX7_believedBy_31 (by decide) (fun h_10 => ?_) (fun h_10 => ?_)
  · skip
    refine k_iload X dX7_believedBy_121 1 rfl ?_
    exact k_iret X hr dX7_believedBy_123 (Nat.le_of_ble_eq_true rfl) (Nat.le_of_ble_eq_true rfl) [0, 5, 6, 1, 2, 3, 4] (by decide) rfl rfl rfl
  · skip
    refine k_aload_n X dX7_believedBy_34 3 rfl ?_
    refine k_get (ci := 7) X inlX7 rfl 1 (by decide) dX7_believedBy_35 mw91 0 rfl rfl ?_
    refine k_iload X dX7_believedBy_38 0 rfl ?_
    refine k_iconst (v := 0) X dX7_believedBy_40 (by decide) ?_
    refine k_callVI (n := 2) (As := [.int u_5, .int 0]) (st := []) X [(cO8_iiri xm 12 3 xmc xmn), (cAI g xmc 36 xmf)] [(cO7_rrvvii h0 xr xm v2h0 v3h0 xmd xtr), (cO8_iiri mn 4 3 mnc mnn), (cAI g mnc 12 mnf), (cO8_iiri xr 8 3 xrc xrn), (cAI g xrc 24 xrf)] [1, 2] [0, 3, 4, 5, 6] (t_at l g xm u_5 0 12 3 xmc xmn 36 xmf (tbk_12_3)) dX7_believedBy_41 mw388 mw376 mw377 mw64 mw378 rfl 8 rfl rfl 0 _ rfl yk_yX8_at_2 rfl (Nat.le_of_ble_eq_true rfl) (Nat.le_of_ble_eq_true rfl) (Nat.le_of_ble_eq_true rfl) (Nat.le_of_ble_eq_true rfl) (Nat.le_of_ble_eq_true rfl) rfl rfl (by decide) rfl (by decide) (by decide) ?_
    rintro r_11 w ⟨hr_12, rfl⟩
    refine k_ws [(cO7_rrvvii h0 xr xm v2h0 v3h0 xmd xtr), (cO8_iiri mn 4 3 mnc mnn), (cAI g mnc 12 mnf), (cO8_iiri xr 8 3 xrc xrn), (cAI g xrc 24 xrf), (cO8_iiri xm 12 3 xmc xmn), (cAI g xmc 36 xmf)] rfl ?_
    refine k_iload_n X dX7_believedBy_44 6 rfl ?_
    refine k_ic_ne 115 X dX7_believedBy_45 (by decide) (fun h_13 => ?_) (fun h_13 => ?_)
    · skip
      obtain ⟨z_14, ez_14⟩ : ∃ y : Int32, u_5 + Int32.ofInt 1 = y := ⟨_, rfl⟩
      refine k_iinc z_14 [(6, .int z_14), (5, .int u_6), (4, .int r_1), (0, .ref h0), (1, .ref mn), (2, .int p0), (3, .int p1)] 0 X dX7_believedBy_115 rfl ez_14 (by decide) rfl ?_
      refine k_goto 22 X dX7_believedBy_118 (by decide) ?_
      refine k_sub [(cO7_rrvvii h0 xr xm v2h0 v3h0 xmd xtr), (cO8_iiri xm 12 3 xmc xmn), (cAI g xmc 36 xmf), (cO8_iiri mn 4 3 mnc mnn), (cAI g mnc 12 mnf), (cO8_iiri xr 8 3 xrc xrn), (cAI g xrc 24 xrf)] [0, 5, 6, 1, 2, 3, 4] rfl (by decide) rfl ?_
      exact ih_9 _ (by rw [← hm_8]; exact mu_lt (by assumption) (by assumption)) z_14 u_6 rfl 
    · skip
      refine k_aload_n X dX7_believedBy_48 3 rfl ?_
      refine k_get (ci := 7) X inlX7 rfl 1 (by decide) dX7_believedBy_49 mw91 0 rfl rfl ?_
      refine k_iload X dX7_believedBy_52 0 rfl ?_
      refine k_iconst (v := 1) X dX7_believedBy_54 (by decide) ?_
      refine k_callVI (n := 2) (As := [.int u_5, .int 1]) (st := []) X [(cO8_iiri xm 12 3 xmc xmn), (cAI g xmc 36 xmf)] [(cO7_rrvvii h0 xr xm v2h0 v3h0 xmd xtr), (cO8_iiri mn 4 3 mnc mnn), (cAI g mnc 12 mnf), (cO8_iiri xr 8 3 xrc xrn), (cAI g xrc 24 xrf)] [5, 6] [0, 1, 2, 3, 4] (t_at l g xm u_5 1 12 3 xmc xmn 36 xmf (tbk_12_3)) dX7_believedBy_55 mw388 mw376 mw377 mw64 mw378 rfl 8 rfl rfl 0 _ rfl yk_yX8_at_2 rfl (Nat.le_of_ble_eq_true rfl) (Nat.le_of_ble_eq_true rfl) (Nat.le_of_ble_eq_true rfl) (Nat.le_of_ble_eq_true rfl) (Nat.le_of_ble_eq_true rfl) rfl rfl (by decide) rfl (by decide) (by decide) ?_
      rintro r_15 w ⟨hr_16, rfl⟩
      refine k_ws [(cO7_rrvvii h0 xr xm v2h0 v3h0 xmd xtr), (cO8_iiri mn 4 3 mnc mnn), (cAI g mnc 12 mnf), (cO8_iiri xr 8 3 xrc xrn), (cAI g xrc 24 xrf), (cO8_iiri xm 12 3 xmc xmn), (cAI g xmc 36 xmf)] rfl ?_
      refine k_istore [(7, .int r_15), (6, .int u_5), (5, .int u_6), (4, .int r_1), (0, .ref h0), (1, .ref mn), (2, .int p0), (3, .int p1)] X dX7_believedBy_58 (by decide) rfl ?_
      refine k_iload X dX7_believedBy_60 3 rfl ?_
      refine k_iconst (v := 1) X dX7_believedBy_62 (by decide) ?_
      refine k_ic_ne 73 X dX7_believedBy_63 (by decide) (fun h_17 => ?_) (fun h_17 => ?_)
      · skip
        refine k_iload X dX7_believedBy_73 3 rfl ?_
        refine k_iconst (v := 2) X dX7_believedBy_75 (by decide) ?_
        refine k_ic_ne 86 X dX7_believedBy_76 (by decide) (fun h_18 => ?_) (fun h_18 => ?_)
        · skip
          refine k_iload X dX7_believedBy_86 3 rfl ?_
          refine k_iconst (v := 3) X dX7_believedBy_88 (by decide) ?_
          refine k_ic_ne 115 X dX7_believedBy_89 (by decide) (fun h_19 => ?_) (fun h_19 => ?_)
          · skip
            obtain ⟨z_20, ez_20⟩ : ∃ y : Int32, u_5 + Int32.ofInt 1 = y := ⟨_, rfl⟩
            refine k_iinc z_20 [(6, .int z_20), (7, .int r_15), (5, .int u_6), (4, .int r_1), (0, .ref h0), (1, .ref mn), (2, .int p0), (3, .int p1)] 1 X dX7_believedBy_115 rfl ez_20 (by decide) rfl ?_
            refine k_goto 22 X dX7_believedBy_118 (by decide) ?_
            refine k_lv [(6, .int z_20), (5, .int u_6), (4, .int r_1), (0, .ref h0), (1, .ref mn), (2, .int p0), (3, .int p1)] [0, 2, 3, 4, 5, 6, 7] rfl ?_
            refine k_sub [(cO7_rrvvii h0 xr xm v2h0 v3h0 xmd xtr), (cO8_iiri xm 12 3 xmc xmn), (cAI g xmc 36 xmf), (cO8_iiri mn 4 3 mnc mnn), (cAI g mnc 12 mnf), (cO8_iiri xr 8 3 xrc xrn), (cAI g xrc 24 xrf)] [0, 5, 6, 1, 2, 3, 4] rfl (by decide) rfl ?_
            exact ih_9 _ (by rw [← hm_8]; exact mu_lt (by assumption) (by assumption)) z_20 u_6 rfl 
          · skip
            refine k_aload_n X dX7_believedBy_92 4 rfl ?_
            refine k_get (ci := 7) X inlX7 rfl 1 (by decide) dX7_believedBy_93 mw91 0 rfl rfl ?_
            refine k_iload X dX7_believedBy_96 1 rfl ?_
            refine k_iconst (v := 2) X dX7_believedBy_98 (by decide) ?_
            refine k_callVI (n := 2) (As := [.int u_5, .int 2]) (st := []) X [(cO8_iiri xm 12 3 xmc xmn), (cAI g xmc 36 xmf)] [(cO7_rrvvii h0 xr xm v2h0 v3h0 xmd xtr), (cO8_iiri mn 4 3 mnc mnn), (cAI g mnc 12 mnf), (cO8_iiri xr 8 3 xrc xrn), (cAI g xrc 24 xrf)] [5, 6] [0, 1, 2, 3, 4] (t_at l g xm u_5 2 12 3 xmc xmn 36 xmf (tbk_12_3)) dX7_believedBy_99 mw388 mw376 mw377 mw64 mw378 rfl 8 rfl rfl 0 _ rfl yk_yX8_at_2 rfl (Nat.le_of_ble_eq_true rfl) (Nat.le_of_ble_eq_true rfl) (Nat.le_of_ble_eq_true rfl) (Nat.le_of_ble_eq_true rfl) (Nat.le_of_ble_eq_true rfl) rfl rfl (by decide) rfl (by decide) (by decide) ?_
            rintro r_21 w ⟨hr_22, rfl⟩
            refine k_ws [(cO7_rrvvii h0 xr xm v2h0 v3h0 xmd xtr), (cO8_iiri mn 4 3 mnc mnn), (cAI g mnc 12 mnf), (cO8_iiri xr 8 3 xrc xrn), (cAI g xrc 24 xrf), (cO8_iiri xm 12 3 xmc xmn), (cAI g xmc 36 xmf)] rfl ?_
            refine k_aload_n X dX7_believedBy_102 5 rfl ?_
            refine k_iload_n X dX7_believedBy_103 6 rfl ?_
            refine k_iconst (v := 1) X dX7_believedBy_104 (by decide) ?_
            refine k_callVI (n := 2) (As := [.int p0, .int 1]) (st := [.int r_21]) X [(cO8_iiri mn 4 3 mnc mnn), (cAI g mnc 12 mnf)] [(cO7_rrvvii h0 xr xm v2h0 v3h0 xmd xtr), (cO8_iiri xr 8 3 xrc xrn), (cAI g xrc 24 xrf), (cO8_iiri xm 12 3 xmc xmn), (cAI g xmc 36 xmf)] [1, 2] [0, 3, 4, 5, 6] (t_at l g mn p0 1 4 3 mnc mnn 12 mnf (tbk_4_3)) dX7_believedBy_105 mw388 mw376 mw377 mw64 mw378 rfl 8 rfl rfl 0 _ rfl yk_yX8_at_2 rfl (Nat.le_of_ble_eq_true rfl) (Nat.le_of_ble_eq_true rfl) (Nat.le_of_ble_eq_true rfl) (Nat.le_of_ble_eq_true rfl) (Nat.le_of_ble_eq_true rfl) rfl rfl (by decide) rfl (by decide) (by decide) ?_
            rintro r_23 w ⟨hr_24, rfl⟩
            refine k_ws [(cO7_rrvvii h0 xr xm v2h0 v3h0 xmd xtr), (cO8_iiri xr 8 3 xrc xrn), (cAI g xrc 24 xrf), (cO8_iiri xm 12 3 xmc xmn), (cAI g xmc 36 xmf), (cO8_iiri mn 4 3 mnc mnn), (cAI g mnc 12 mnf)] rfl ?_
            refine k_ic_ne 115 X dX7_believedBy_108 (by decide) (fun h_25 => ?_) (fun h_25 => ?_)
            · skip
              obtain ⟨z_26, ez_26⟩ : ∃ y : Int32, u_5 + Int32.ofInt 1 = y := ⟨_, rfl⟩
              refine k_iinc z_26 [(6, .int z_26), (7, .int r_15), (5, .int u_6), (4, .int r_1), (0, .ref h0), (1, .ref mn), (2, .int p0), (3, .int p1)] 1 X dX7_believedBy_115 rfl ez_26 (by decide) rfl ?_
              refine k_goto 22 X dX7_believedBy_118 (by decide) ?_
              refine k_lv [(6, .int z_26), (5, .int u_6), (4, .int r_1), (0, .ref h0), (1, .ref mn), (2, .int p0), (3, .int p1)] [0, 2, 3, 4, 5, 6, 7] rfl ?_
              refine k_sub [(cO7_rrvvii h0 xr xm v2h0 v3h0 xmd xtr), (cO8_iiri xm 12 3 xmc xmn), (cAI g xmc 36 xmf), (cO8_iiri mn 4 3 mnc mnn), (cAI g mnc 12 mnf), (cO8_iiri xr 8 3 xrc xrn), (cAI g xrc 24 xrf)] [0, 3, 4, 5, 6, 1, 2] rfl (by decide) rfl ?_
              exact ih_9 _ (by rw [← hm_8]; exact mu_lt (by assumption) (by assumption)) z_26 u_6 rfl 
            · skip
              refine k_iload X dX7_believedBy_111 0 rfl ?_
              refine k_istore [(5, .int r_15), (7, .int r_15), (6, .int u_5), (4, .int r_1), (0, .ref h0), (1, .ref mn), (2, .int p0), (3, .int p1)] X dX7_believedBy_113 (by decide) rfl ?_
              obtain ⟨z_27, ez_27⟩ : ∃ y : Int32, u_5 + Int32.ofInt 1 = y := ⟨_, rfl⟩
              refine k_iinc z_27 [(6, .int z_27), (5, .int r_15), (7, .int r_15), (4, .int r_1), (0, .ref h0), (1, .ref mn), (2, .int p0), (3, .int p1)] 2 X dX7_believedBy_115 rfl ez_27 (by decide) rfl ?_
              refine k_goto 22 X dX7_believedBy_118 (by decide) ?_
              refine k_lv [(6, .int z_27), (5, .int r_15), (4, .int r_1), (0, .ref h0), (1, .ref mn), (2, .int p0), (3, .int p1)] [0, 1, 3, 4, 5, 6, 7] rfl ?_
              refine k_sub [(cO7_rrvvii h0 xr xm v2h0 v3h0 xmd xtr), (cO8_iiri xm 12 3 xmc xmn), (cAI g xmc 36 xmf), (cO8_iiri mn 4 3 mnc mnn), (cAI g mnc 12 mnf), (cO8_iiri xr 8 3 xrc xrn), (cAI g xrc 24 xrf)] [0, 3, 4, 5, 6, 1, 2] rfl (by decide) rfl ?_
              exact ih_9 _ (by rw [← hm_8]; exact mu_lt (by assumption) (by assumption)) z_27 r_15 rfl 
        · skip
          refine k_iload X dX7_believedBy_79 0 rfl ?_
          refine k_iload X dX7_believedBy_81 2 rfl ?_
          refine k_ic_gt 111 X dX7_believedBy_83 (by decide) (fun h_28 => ?_) (fun h_28 => ?_)
          · skip
            refine k_iload X dX7_believedBy_111 0 rfl ?_
            refine k_istore [(5, .int r_15), (7, .int r_15), (6, .int u_5), (4, .int r_1), (0, .ref h0), (1, .ref mn), (2, .int p0), (3, .int p1)] X dX7_believedBy_113 (by decide) rfl ?_
            obtain ⟨z_29, ez_29⟩ : ∃ y : Int32, u_5 + Int32.ofInt 1 = y := ⟨_, rfl⟩
            refine k_iinc z_29 [(6, .int z_29), (5, .int r_15), (7, .int r_15), (4, .int r_1), (0, .ref h0), (1, .ref mn), (2, .int p0), (3, .int p1)] 2 X dX7_believedBy_115 rfl ez_29 (by decide) rfl ?_
            refine k_goto 22 X dX7_believedBy_118 (by decide) ?_
            refine k_lv [(6, .int z_29), (5, .int r_15), (4, .int r_1), (0, .ref h0), (1, .ref mn), (2, .int p0), (3, .int p1)] [0, 1, 3, 4, 5, 6, 7] rfl ?_
            refine k_sub [(cO7_rrvvii h0 xr xm v2h0 v3h0 xmd xtr), (cO8_iiri xm 12 3 xmc xmn), (cAI g xmc 36 xmf), (cO8_iiri mn 4 3 mnc mnn), (cAI g mnc 12 mnf), (cO8_iiri xr 8 3 xrc xrn), (cAI g xrc 24 xrf)] [0, 5, 6, 1, 2, 3, 4] rfl (by decide) rfl ?_
            exact ih_9 _ (by rw [← hm_8]; exact mu_lt (by assumption) (by assumption)) z_29 r_15 rfl 
          · skip
            refine k_iload X dX7_believedBy_86 3 rfl ?_
            refine k_iconst (v := 3) X dX7_believedBy_88 (by decide) ?_
            refine k_ic_ne 115 X dX7_believedBy_89 (by decide) (fun h_30 => ?_) (fun h_30 => ?_)
            · skip
              obtain ⟨z_31, ez_31⟩ : ∃ y : Int32, u_5 + Int32.ofInt 1 = y := ⟨_, rfl⟩
              refine k_iinc z_31 [(6, .int z_31), (7, .int r_15), (5, .int u_6), (4, .int r_1), (0, .ref h0), (1, .ref mn), (2, .int p0), (3, .int p1)] 1 X dX7_believedBy_115 rfl ez_31 (by decide) rfl ?_
              refine k_goto 22 X dX7_believedBy_118 (by decide) ?_
              refine k_lv [(6, .int z_31), (5, .int u_6), (4, .int r_1), (0, .ref h0), (1, .ref mn), (2, .int p0), (3, .int p1)] [0, 2, 3, 4, 5, 6, 7] rfl ?_
              refine k_sub [(cO7_rrvvii h0 xr xm v2h0 v3h0 xmd xtr), (cO8_iiri xm 12 3 xmc xmn), (cAI g xmc 36 xmf), (cO8_iiri mn 4 3 mnc mnn), (cAI g mnc 12 mnf), (cO8_iiri xr 8 3 xrc xrn), (cAI g xrc 24 xrf)] [0, 5, 6, 1, 2, 3, 4] rfl (by decide) rfl ?_
              exact ih_9 _ (by rw [← hm_8]; exact mu_lt (by assumption) (by assumption)) z_31 u_6 rfl 
            · skip
              refine k_aload_n X dX7_believedBy_92 4 rfl ?_
              refine k_get (ci := 7) X inlX7 rfl 1 (by decide) dX7_believedBy_93 mw91 0 rfl rfl ?_
              refine k_iload X dX7_believedBy_96 1 rfl ?_
              refine k_iconst (v := 2) X dX7_believedBy_98 (by decide) ?_
              refine k_callVI (n := 2) (As := [.int u_5, .int 2]) (st := []) X [(cO8_iiri xm 12 3 xmc xmn), (cAI g xmc 36 xmf)] [(cO7_rrvvii h0 xr xm v2h0 v3h0 xmd xtr), (cO8_iiri mn 4 3 mnc mnn), (cAI g mnc 12 mnf), (cO8_iiri xr 8 3 xrc xrn), (cAI g xrc 24 xrf)] [5, 6] [0, 1, 2, 3, 4] (t_at l g xm u_5 2 12 3 xmc xmn 36 xmf (tbk_12_3)) dX7_believedBy_99 mw388 mw376 mw377 mw64 mw378 rfl 8 rfl rfl 0 _ rfl yk_yX8_at_2 rfl (Nat.le_of_ble_eq_true rfl) (Nat.le_of_ble_eq_true rfl) (Nat.le_of_ble_eq_true rfl) (Nat.le_of_ble_eq_true rfl) (Nat.le_of_ble_eq_true rfl) rfl rfl (by decide) rfl (by decide) (by decide) ?_
              rintro r_32 w ⟨hr_33, rfl⟩
              refine k_ws [(cO7_rrvvii h0 xr xm v2h0 v3h0 xmd xtr), (cO8_iiri mn 4 3 mnc mnn), (cAI g mnc 12 mnf), (cO8_iiri xr 8 3 xrc xrn), (cAI g xrc 24 xrf), (cO8_iiri xm 12 3 xmc xmn), (cAI g xmc 36 xmf)] rfl ?_
              refine k_aload_n X dX7_believedBy_102 5 rfl ?_
              refine k_iload_n X dX7_believedBy_103 6 rfl ?_
              refine k_iconst (v := 1) X dX7_believedBy_104 (by decide) ?_
              refine k_callVI (n := 2) (As := [.int p0, .int 1]) (st := [.int r_32]) X [(cO8_iiri mn 4 3 mnc mnn), (cAI g mnc 12 mnf)] [(cO7_rrvvii h0 xr xm v2h0 v3h0 xmd xtr), (cO8_iiri xr 8 3 xrc xrn), (cAI g xrc 24 xrf), (cO8_iiri xm 12 3 xmc xmn), (cAI g xmc 36 xmf)] [1, 2] [0, 3, 4, 5, 6] (t_at l g mn p0 1 4 3 mnc mnn 12 mnf (tbk_4_3)) dX7_believedBy_105 mw388 mw376 mw377 mw64 mw378 rfl 8 rfl rfl 0 _ rfl yk_yX8_at_2 rfl (Nat.le_of_ble_eq_true rfl) (Nat.le_of_ble_eq_true rfl) (Nat.le_of_ble_eq_true rfl) (Nat.le_of_ble_eq_true rfl) (Nat.le_of_ble_eq_true rfl) rfl rfl (by decide) rfl (by decide) (by decide) ?_
              rintro r_34 w ⟨hr_35, rfl⟩
              refine k_ws [(cO7_rrvvii h0 xr xm v2h0 v3h0 xmd xtr), (cO8_iiri xr 8 3 xrc xrn), (cAI g xrc 24 xrf), (cO8_iiri xm 12 3 xmc xmn), (cAI g xmc 36 xmf), (cO8_iiri mn 4 3 mnc mnn), (cAI g mnc 12 mnf)] rfl ?_
              refine k_ic_ne 115 X dX7_believedBy_108 (by decide) (fun h_36 => ?_) (fun h_36 => ?_)
              · skip
                obtain ⟨z_37, ez_37⟩ : ∃ y : Int32, u_5 + Int32.ofInt 1 = y := ⟨_, rfl⟩
                refine k_iinc z_37 [(6, .int z_37), (7, .int r_15), (5, .int u_6), (4, .int r_1), (0, .ref h0), (1, .ref mn), (2, .int p0), (3, .int p1)] 1 X dX7_believedBy_115 rfl ez_37 (by decide) rfl ?_
                refine k_goto 22 X dX7_believedBy_118 (by decide) ?_
                refine k_lv [(6, .int z_37), (5, .int u_6), (4, .int r_1), (0, .ref h0), (1, .ref mn), (2, .int p0), (3, .int p1)] [0, 2, 3, 4, 5, 6, 7] rfl ?_
                refine k_sub [(cO7_rrvvii h0 xr xm v2h0 v3h0 xmd xtr), (cO8_iiri xm 12 3 xmc xmn), (cAI g xmc 36 xmf), (cO8_iiri mn 4 3 mnc mnn), (cAI g mnc 12 mnf), (cO8_iiri xr 8 3 xrc xrn), (cAI g xrc 24 xrf)] [0, 3, 4, 5, 6, 1, 2] rfl (by decide) rfl ?_
                exact ih_9 _ (by rw [← hm_8]; exact mu_lt (by assumption) (by assumption)) z_37 u_6 rfl 
              · skip
                refine k_iload X dX7_believedBy_111 0 rfl ?_
                refine k_istore [(5, .int r_15), (7, .int r_15), (6, .int u_5), (4, .int r_1), (0, .ref h0), (1, .ref mn), (2, .int p0), (3, .int p1)] X dX7_believedBy_113 (by decide) rfl ?_
                obtain ⟨z_38, ez_38⟩ : ∃ y : Int32, u_5 + Int32.ofInt 1 = y := ⟨_, rfl⟩
                refine k_iinc z_38 [(6, .int z_38), (5, .int r_15), (7, .int r_15), (4, .int r_1), (0, .ref h0), (1, .ref mn), (2, .int p0), (3, .int p1)] 2 X dX7_believedBy_115 rfl ez_38 (by decide) rfl ?_
                refine k_goto 22 X dX7_believedBy_118 (by decide) ?_
                refine k_lv [(6, .int z_38), (5, .int r_15), (4, .int r_1), (0, .ref h0), (1, .ref mn), (2, .int p0), (3, .int p1)] [0, 1, 3, 4, 5, 6, 7] rfl ?_
                refine k_sub [(cO7_rrvvii h0 xr xm v2h0 v3h0 xmd xtr), (cO8_iiri xm 12 3 xmc xmn), (cAI g xmc 36 xmf), (cO8_iiri mn 4 3 mnc mnn), (cAI g mnc 12 mnf), (cO8_iiri xr 8 3 xrc xrn), (cAI g xrc 24 xrf)] [0, 3, 4, 5, 6, 1, 2] rfl (by decide) rfl ?_
                exact ih_9 _ (by rw [← hm_8]; exact mu_lt (by assumption) (by assumption)) z_38 r_15 rfl 
      · skip
        refine k_iload X dX7_believedBy_66 0 rfl ?_
        refine k_iload X dX7_believedBy_68 2 rfl ?_
        refine k_ic_lt 111 X dX7_believedBy_70 (by decide) (fun h_39 => ?_) (fun h_39 => ?_)
        · skip
          refine k_iload X dX7_believedBy_111 0 rfl ?_
          refine k_istore [(5, .int r_15), (7, .int r_15), (6, .int u_5), (4, .int r_1), (0, .ref h0), (1, .ref mn), (2, .int p0), (3, .int p1)] X dX7_believedBy_113 (by decide) rfl ?_
          obtain ⟨z_40, ez_40⟩ : ∃ y : Int32, u_5 + Int32.ofInt 1 = y := ⟨_, rfl⟩
          refine k_iinc z_40 [(6, .int z_40), (5, .int r_15), (7, .int r_15), (4, .int r_1), (0, .ref h0), (1, .ref mn), (2, .int p0), (3, .int p1)] 2 X dX7_believedBy_115 rfl ez_40 (by decide) rfl ?_
          refine k_goto 22 X dX7_believedBy_118 (by decide) ?_
          refine k_lv [(6, .int z_40), (5, .int r_15), (4, .int r_1), (0, .ref h0), (1, .ref mn), (2, .int p0), (3, .int p1)] [0, 1, 3, 4, 5, 6, 7] rfl ?_
          refine k_sub [(cO7_rrvvii h0 xr xm v2h0 v3h0 xmd xtr), (cO8_iiri xm 12 3 xmc xmn), (cAI g xmc 36 xmf), (cO8_iiri mn 4 3 mnc mnn), (cAI g mnc 12 mnf), (cO8_iiri xr 8 3 xrc xrn), (cAI g xrc 24 xrf)] [0, 5, 6, 1, 2, 3, 4] rfl (by decide) rfl ?_
          exact ih_9 _ (by rw [← hm_8]; exact mu_lt (by assumption) (by assumption)) z_40 r_15 rfl 
        · skip
          refine k_iload X dX7_believedBy_73 3 rfl ?_
          refine k_iconst (v := 2) X dX7_believedBy_75 (by decide) ?_
          refine k_ic_ne 86 X dX7_believedBy_76 (by decide) (fun h_41 => ?_) (fun h_41 => ?_)
          · skip
            refine k_iload X dX7_believedBy_86 3 rfl ?_
            refine k_iconst (v := 3) X dX7_believedBy_88 (by decide) ?_
            refine k_ic_ne 115 X dX7_believedBy_89 (by decide) (fun h_42 => ?_) (fun h_42 => ?_)
            · skip
              obtain ⟨z_43, ez_43⟩ : ∃ y : Int32, u_5 + Int32.ofInt 1 = y := ⟨_, rfl⟩
              refine k_iinc z_43 [(6, .int z_43), (7, .int r_15), (5, .int u_6), (4, .int r_1), (0, .ref h0), (1, .ref mn), (2, .int p0), (3, .int p1)] 1 X dX7_believedBy_115 rfl ez_43 (by decide) rfl ?_
              refine k_goto 22 X dX7_believedBy_118 (by decide) ?_
              refine k_lv [(6, .int z_43), (5, .int u_6), (4, .int r_1), (0, .ref h0), (1, .ref mn), (2, .int p0), (3, .int p1)] [0, 2, 3, 4, 5, 6, 7] rfl ?_
              refine k_sub [(cO7_rrvvii h0 xr xm v2h0 v3h0 xmd xtr), (cO8_iiri xm 12 3 xmc xmn), (cAI g xmc 36 xmf), (cO8_iiri mn 4 3 mnc mnn), (cAI g mnc 12 mnf), (cO8_iiri xr 8 3 xrc xrn), (cAI g xrc 24 xrf)] [0, 5, 6, 1, 2, 3, 4] rfl (by decide) rfl ?_
              exact ih_9 _ (by rw [← hm_8]; exact mu_lt (by assumption) (by assumption)) z_43 u_6 rfl 
            · skip
              refine k_aload_n X dX7_believedBy_92 4 rfl ?_
              refine k_get (ci := 7) X inlX7 rfl 1 (by decide) dX7_believedBy_93 mw91 0 rfl rfl ?_
              refine k_iload X dX7_believedBy_96 1 rfl ?_
              refine k_iconst (v := 2) X dX7_believedBy_98 (by decide) ?_
              refine k_callVI (n := 2) (As := [.int u_5, .int 2]) (st := []) X [(cO8_iiri xm 12 3 xmc xmn), (cAI g xmc 36 xmf)] [(cO7_rrvvii h0 xr xm v2h0 v3h0 xmd xtr), (cO8_iiri mn 4 3 mnc mnn), (cAI g mnc 12 mnf), (cO8_iiri xr 8 3 xrc xrn), (cAI g xrc 24 xrf)] [5, 6] [0, 1, 2, 3, 4] (t_at l g xm u_5 2 12 3 xmc xmn 36 xmf (tbk_12_3)) dX7_believedBy_99 mw388 mw376 mw377 mw64 mw378 rfl 8 rfl rfl 0 _ rfl yk_yX8_at_2 rfl (Nat.le_of_ble_eq_true rfl) (Nat.le_of_ble_eq_true rfl) (Nat.le_of_ble_eq_true rfl) (Nat.le_of_ble_eq_true rfl) (Nat.le_of_ble_eq_true rfl) rfl rfl (by decide) rfl (by decide) (by decide) ?_
              rintro r_44 w ⟨hr_45, rfl⟩
              refine k_ws [(cO7_rrvvii h0 xr xm v2h0 v3h0 xmd xtr), (cO8_iiri mn 4 3 mnc mnn), (cAI g mnc 12 mnf), (cO8_iiri xr 8 3 xrc xrn), (cAI g xrc 24 xrf), (cO8_iiri xm 12 3 xmc xmn), (cAI g xmc 36 xmf)] rfl ?_
              refine k_aload_n X dX7_believedBy_102 5 rfl ?_
              refine k_iload_n X dX7_believedBy_103 6 rfl ?_
              refine k_iconst (v := 1) X dX7_believedBy_104 (by decide) ?_
              refine k_callVI (n := 2) (As := [.int p0, .int 1]) (st := [.int r_44]) X [(cO8_iiri mn 4 3 mnc mnn), (cAI g mnc 12 mnf)] [(cO7_rrvvii h0 xr xm v2h0 v3h0 xmd xtr), (cO8_iiri xr 8 3 xrc xrn), (cAI g xrc 24 xrf), (cO8_iiri xm 12 3 xmc xmn), (cAI g xmc 36 xmf)] [1, 2] [0, 3, 4, 5, 6] (t_at l g mn p0 1 4 3 mnc mnn 12 mnf (tbk_4_3)) dX7_believedBy_105 mw388 mw376 mw377 mw64 mw378 rfl 8 rfl rfl 0 _ rfl yk_yX8_at_2 rfl (Nat.le_of_ble_eq_true rfl) (Nat.le_of_ble_eq_true rfl) (Nat.le_of_ble_eq_true rfl) (Nat.le_of_ble_eq_true rfl) (Nat.le_of_ble_eq_true rfl) rfl rfl (by decide) rfl (by decide) (by decide) ?_
              rintro r_46 w ⟨hr_47, rfl⟩
              refine k_ws [(cO7_rrvvii h0 xr xm v2h0 v3h0 xmd xtr), (cO8_iiri xr 8 3 xrc xrn), (cAI g xrc 24 xrf), (cO8_iiri xm 12 3 xmc xmn), (cAI g xmc 36 xmf), (cO8_iiri mn 4 3 mnc mnn), (cAI g mnc 12 mnf)] rfl ?_
              refine k_ic_ne 115 X dX7_believedBy_108 (by decide) (fun h_48 => ?_) (fun h_48 => ?_)
              · skip
                obtain ⟨z_49, ez_49⟩ : ∃ y : Int32, u_5 + Int32.ofInt 1 = y := ⟨_, rfl⟩
                refine k_iinc z_49 [(6, .int z_49), (7, .int r_15), (5, .int u_6), (4, .int r_1), (0, .ref h0), (1, .ref mn), (2, .int p0), (3, .int p1)] 1 X dX7_believedBy_115 rfl ez_49 (by decide) rfl ?_
                refine k_goto 22 X dX7_believedBy_118 (by decide) ?_
                refine k_lv [(6, .int z_49), (5, .int u_6), (4, .int r_1), (0, .ref h0), (1, .ref mn), (2, .int p0), (3, .int p1)] [0, 2, 3, 4, 5, 6, 7] rfl ?_
                refine k_sub [(cO7_rrvvii h0 xr xm v2h0 v3h0 xmd xtr), (cO8_iiri xm 12 3 xmc xmn), (cAI g xmc 36 xmf), (cO8_iiri mn 4 3 mnc mnn), (cAI g mnc 12 mnf), (cO8_iiri xr 8 3 xrc xrn), (cAI g xrc 24 xrf)] [0, 3, 4, 5, 6, 1, 2] rfl (by decide) rfl ?_
                exact ih_9 _ (by rw [← hm_8]; exact mu_lt (by assumption) (by assumption)) z_49 u_6 rfl 
              · skip
                refine k_iload X dX7_believedBy_111 0 rfl ?_
                refine k_istore [(5, .int r_15), (7, .int r_15), (6, .int u_5), (4, .int r_1), (0, .ref h0), (1, .ref mn), (2, .int p0), (3, .int p1)] X dX7_believedBy_113 (by decide) rfl ?_
                obtain ⟨z_50, ez_50⟩ : ∃ y : Int32, u_5 + Int32.ofInt 1 = y := ⟨_, rfl⟩
                refine k_iinc z_50 [(6, .int z_50), (5, .int r_15), (7, .int r_15), (4, .int r_1), (0, .ref h0), (1, .ref mn), (2, .int p0), (3, .int p1)] 2 X dX7_believedBy_115 rfl ez_50 (by decide) rfl ?_
                refine k_goto 22 X dX7_believedBy_118 (by decide) ?_
                refine k_lv [(6, .int z_50), (5, .int r_15), (4, .int r_1), (0, .ref h0), (1, .ref mn), (2, .int p0), (3, .int p1)] [0, 1, 3, 4, 5, 6, 7] rfl ?_
                refine k_sub [(cO7_rrvvii h0 xr xm v2h0 v3h0 xmd xtr), (cO8_iiri xm 12 3 xmc xmn), (cAI g xmc 36 xmf), (cO8_iiri mn 4 3 mnc mnn), (cAI g mnc 12 mnf), (cO8_iiri xr 8 3 xrc xrn), (cAI g xrc 24 xrf)] [0, 3, 4, 5, 6, 1, 2] rfl (by decide) rfl ?_
                exact ih_9 _ (by rw [← hm_8]; exact mu_lt (by assumption) (by assumption)) z_50 r_15 rfl 
          · skip
            refine k_iload X dX7_believedBy_79 0 rfl ?_
            refine k_iload X dX7_believedBy_81 2 rfl ?_
            refine k_ic_gt 111 X dX7_believedBy_83 (by decide) (fun h_51 => ?_) (fun h_51 => ?_)
            · skip
              refine k_iload X dX7_believedBy_111 0 rfl ?_
              refine k_istore [(5, .int r_15), (7, .int r_15), (6, .int u_5), (4, .int r_1), (0, .ref h0), (1, .ref mn), (2, .int p0), (3, .int p1)] X dX7_believedBy_113 (by decide) rfl ?_
              obtain ⟨z_52, ez_52⟩ : ∃ y : Int32, u_5 + Int32.ofInt 1 = y := ⟨_, rfl⟩
              refine k_iinc z_52 [(6, .int z_52), (5, .int r_15), (7, .int r_15), (4, .int r_1), (0, .ref h0), (1, .ref mn), (2, .int p0), (3, .int p1)] 2 X dX7_believedBy_115 rfl ez_52 (by decide) rfl ?_
              refine k_goto 22 X dX7_believedBy_118 (by decide) ?_
              refine k_lv [(6, .int z_52), (5, .int r_15), (4, .int r_1), (0, .ref h0), (1, .ref mn), (2, .int p0), (3, .int p1)] [0, 1, 3, 4, 5, 6, 7] rfl ?_
              refine k_sub [(cO7_rrvvii h0 xr xm v2h0 v3h0 xmd xtr), (cO8_iiri xm 12 3 xmc xmn), (cAI g xmc 36 xmf), (cO8_iiri mn 4 3 mnc mnn), (cAI g mnc 12 mnf), (cO8_iiri xr 8 3 xrc xrn), (cAI g xrc 24 xrf)] [0, 5, 6, 1, 2, 3, 4] rfl (by decide) rfl ?_
              exact ih_9 _ (by rw [← hm_8]; exact mu_lt (by assumption) (by assumption)) z_52 r_15 rfl 
            · skip
              refine k_iload X dX7_believedBy_86 3 rfl ?_
              refine k_iconst (v := 3) X dX7_believedBy_88 (by decide) ?_
              refine k_ic_ne 115 X dX7_believedBy_89 (by decide) (fun h_53 => ?_) (fun h_53 => ?_)
              · skip
                obtain ⟨z_54, ez_54⟩ : ∃ y : Int32, u_5 + Int32.ofInt 1 = y := ⟨_, rfl⟩
                refine k_iinc z_54 [(6, .int z_54), (7, .int r_15), (5, .int u_6), (4, .int r_1), (0, .ref h0), (1, .ref mn), (2, .int p0), (3, .int p1)] 1 X dX7_believedBy_115 rfl ez_54 (by decide) rfl ?_
                refine k_goto 22 X dX7_believedBy_118 (by decide) ?_
                refine k_lv [(6, .int z_54), (5, .int u_6), (4, .int r_1), (0, .ref h0), (1, .ref mn), (2, .int p0), (3, .int p1)] [0, 2, 3, 4, 5, 6, 7] rfl ?_
                refine k_sub [(cO7_rrvvii h0 xr xm v2h0 v3h0 xmd xtr), (cO8_iiri xm 12 3 xmc xmn), (cAI g xmc 36 xmf), (cO8_iiri mn 4 3 mnc mnn), (cAI g mnc 12 mnf), (cO8_iiri xr 8 3 xrc xrn), (cAI g xrc 24 xrf)] [0, 5, 6, 1, 2, 3, 4] rfl (by decide) rfl ?_
                exact ih_9 _ (by rw [← hm_8]; exact mu_lt (by assumption) (by assumption)) z_54 u_6 rfl 
              · skip
                refine k_aload_n X dX7_believedBy_92 4 rfl ?_
                refine k_get (ci := 7) X inlX7 rfl 1 (by decide) dX7_believedBy_93 mw91 0 rfl rfl ?_
                refine k_iload X dX7_believedBy_96 1 rfl ?_
                refine k_iconst (v := 2) X dX7_believedBy_98 (by decide) ?_
                refine k_callVI (n := 2) (As := [.int u_5, .int 2]) (st := []) X [(cO8_iiri xm 12 3 xmc xmn), (cAI g xmc 36 xmf)] [(cO7_rrvvii h0 xr xm v2h0 v3h0 xmd xtr), (cO8_iiri mn 4 3 mnc mnn), (cAI g mnc 12 mnf), (cO8_iiri xr 8 3 xrc xrn), (cAI g xrc 24 xrf)] [5, 6] [0, 1, 2, 3, 4] (t_at l g xm u_5 2 12 3 xmc xmn 36 xmf (tbk_12_3)) dX7_believedBy_99 mw388 mw376 mw377 mw64 mw378 rfl 8 rfl rfl 0 _ rfl yk_yX8_at_2 rfl (Nat.le_of_ble_eq_true rfl) (Nat.le_of_ble_eq_true rfl) (Nat.le_of_ble_eq_true rfl) (Nat.le_of_ble_eq_true rfl) (Nat.le_of_ble_eq_true rfl) rfl rfl (by decide) rfl (by decide) (by decide) ?_
                rintro r_55 w ⟨hr_56, rfl⟩
                refine k_ws [(cO7_rrvvii h0 xr xm v2h0 v3h0 xmd xtr), (cO8_iiri mn 4 3 mnc mnn), (cAI g mnc 12 mnf), (cO8_iiri xr 8 3 xrc xrn), (cAI g xrc 24 xrf), (cO8_iiri xm 12 3 xmc xmn), (cAI g xmc 36 xmf)] rfl ?_
                refine k_aload_n X dX7_believedBy_102 5 rfl ?_
                refine k_iload_n X dX7_believedBy_103 6 rfl ?_
                refine k_iconst (v := 1) X dX7_believedBy_104 (by decide) ?_
                refine k_callVI (n := 2) (As := [.int p0, .int 1]) (st := [.int r_55]) X [(cO8_iiri mn 4 3 mnc mnn), (cAI g mnc 12 mnf)] [(cO7_rrvvii h0 xr xm v2h0 v3h0 xmd xtr), (cO8_iiri xr 8 3 xrc xrn), (cAI g xrc 24 xrf), (cO8_iiri xm 12 3 xmc xmn), (cAI g xmc 36 xmf)] [1, 2] [0, 3, 4, 5, 6] (t_at l g mn p0 1 4 3 mnc mnn 12 mnf (tbk_4_3)) dX7_believedBy_105 mw388 mw376 mw377 mw64 mw378 rfl 8 rfl rfl 0 _ rfl yk_yX8_at_2 rfl (Nat.le_of_ble_eq_true rfl) (Nat.le_of_ble_eq_true rfl) (Nat.le_of_ble_eq_true rfl) (Nat.le_of_ble_eq_true rfl) (Nat.le_of_ble_eq_true rfl) rfl rfl (by decide) rfl (by decide) (by decide) ?_
                rintro r_57 w ⟨hr_58, rfl⟩
                refine k_ws [(cO7_rrvvii h0 xr xm v2h0 v3h0 xmd xtr), (cO8_iiri xr 8 3 xrc xrn), (cAI g xrc 24 xrf), (cO8_iiri xm 12 3 xmc xmn), (cAI g xmc 36 xmf), (cO8_iiri mn 4 3 mnc mnn), (cAI g mnc 12 mnf)] rfl ?_
                refine k_ic_ne 115 X dX7_believedBy_108 (by decide) (fun h_59 => ?_) (fun h_59 => ?_)
                · skip
                  obtain ⟨z_60, ez_60⟩ : ∃ y : Int32, u_5 + Int32.ofInt 1 = y := ⟨_, rfl⟩
                  refine k_iinc z_60 [(6, .int z_60), (7, .int r_15), (5, .int u_6), (4, .int r_1), (0, .ref h0), (1, .ref mn), (2, .int p0), (3, .int p1)] 1 X dX7_believedBy_115 rfl ez_60 (by decide) rfl ?_
                  refine k_goto 22 X dX7_believedBy_118 (by decide) ?_
                  refine k_lv [(6, .int z_60), (5, .int u_6), (4, .int r_1), (0, .ref h0), (1, .ref mn), (2, .int p0), (3, .int p1)] [0, 2, 3, 4, 5, 6, 7] rfl ?_
                  refine k_sub [(cO7_rrvvii h0 xr xm v2h0 v3h0 xmd xtr), (cO8_iiri xm 12 3 xmc xmn), (cAI g xmc 36 xmf), (cO8_iiri mn 4 3 mnc mnn), (cAI g mnc 12 mnf), (cO8_iiri xr 8 3 xrc xrn), (cAI g xrc 24 xrf)] [0, 3, 4, 5, 6, 1, 2] rfl (by decide) rfl ?_
                  exact ih_9 _ (by rw [← hm_8]; exact mu_lt (by assumption) (by assumption)) z_60 u_6 rfl 
                · skip
                  refine k_iload X dX7_believedBy_111 0 rfl ?_
                  refine k_istore [(5, .int r_15), (7, .int r_15), (6, .int u_5), (4, .int r_1), (0, .ref h0), (1, .ref mn), (2, .int p0), (3, .int p1)] X dX7_believedBy_113 (by decide) rfl ?_
                  obtain ⟨z_61, ez_61⟩ : ∃ y : Int32, u_5 + Int32.ofInt 1 = y := ⟨_, rfl⟩
                  refine k_iinc z_61 [(6, .int z_61), (5, .int r_15), (7, .int r_15), (4, .int r_1), (0, .ref h0), (1, .ref mn), (2, .int p0), (3, .int p1)] 2 X dX7_believedBy_115 rfl ez_61 (by decide) rfl ?_
                  refine k_goto 22 X dX7_believedBy_118 (by decide) ?_
                  refine k_lv [(6, .int z_61), (5, .int r_15), (4, .int r_1), (0, .ref h0), (1, .ref mn), (2, .int p0), (3, .int p1)] [0, 1, 3, 4, 5, 6, 7] rfl ?_
                  refine k_sub [(cO7_rrvvii h0 xr xm v2h0 v3h0 xmd xtr), (cO8_iiri xm 12 3 xmc xmn), (cAI g xmc 36 xmf), (cO8_iiri mn 4 3 mnc mnn), (cAI g mnc 12 mnf), (cO8_iiri xr 8 3 xrc xrn), (cAI g xrc 24 xrf)] [0, 3, 4, 5, 6, 1, 2] rfl (by decide) rfl ?_
                  exact ih_9 _ (by rw [← hm_8]; exact mu_lt (by assumption) (by assumption)) z_61 r_15 rfl 

theorem dX7_weight_0 : decode cX7_weight 0 = .ok (.iconst 1, 1) := dk_4 rfl
theorem dX7_weight_1 : decode cX7_weight 1 = .ok (.istore 4, 2) := dk_54 rfl rfl rfl
theorem dX7_weight_3 : decode cX7_weight 3 = .ok (.iconst 0, 1) := dk_3 rfl
theorem dX7_weight_4 : decode cX7_weight 4 = .ok (.istore 5, 2) := dk_54 rfl rfl rfl
theorem dX7_weight_6 : decode cX7_weight 6 = .ok (.iload 5, 2) := dk_21 rfl rfl rfl
theorem dX7_weight_8 : decode cX7_weight 8 = .ok (.aload_n 0, 1) := dk_42 rfl
theorem dX7_weight_9 : decode cX7_weight 9 = .ok (.getfield 20, 3) := dk_180 rfl rfl rfl rfl
theorem dX7_weight_12 : decode cX7_weight 12 = .ok (.getfield 51, 3) := dk_180 rfl rfl rfl rfl
theorem dX7_weight_15 : decode cX7_weight 15 = .ok (.if_icmp .ge 74, 3) := dk_162 rfl rfl rfl (by decide)
theorem dX7_weight_18 : decode cX7_weight 18 = .ok (.aload_n 0, 1) := dk_42 rfl
theorem dX7_weight_19 : decode cX7_weight 19 = .ok (.getfield 20, 3) := dk_180 rfl rfl rfl rfl
theorem dX7_weight_22 : decode cX7_weight 22 = .ok (.iload 5, 2) := dk_21 rfl rfl rfl
theorem dX7_weight_24 : decode cX7_weight 24 = .ok (.iconst 0, 1) := dk_3 rfl
theorem dX7_weight_25 : decode cX7_weight 25 = .ok (.invokevirtual 43, 3) := dk_182 rfl rfl rfl rfl
theorem dX7_weight_28 : decode cX7_weight 28 = .ok (.iload_n 2, 1) := dk_28 rfl
theorem dX7_weight_29 : decode cX7_weight 29 = .ok (.if_icmp .ne 54, 3) := dk_160 rfl rfl rfl (by decide)
theorem dX7_weight_32 : decode cX7_weight 32 = .ok (.aload_n 1, 1) := dk_43 rfl
theorem dX7_weight_33 : decode cX7_weight 33 = .ok (.aload_n 0, 1) := dk_42 rfl
theorem dX7_weight_34 : decode cX7_weight 34 = .ok (.getfield 20, 3) := dk_180 rfl rfl rfl rfl
theorem dX7_weight_37 : decode cX7_weight 37 = .ok (.iload 5, 2) := dk_21 rfl rfl rfl
theorem dX7_weight_39 : decode cX7_weight 39 = .ok (.iconst 2, 1) := dk_5 rfl
theorem dX7_weight_40 : decode cX7_weight 40 = .ok (.invokevirtual 43, 3) := dk_182 rfl rfl rfl rfl
theorem dX7_weight_43 : decode cX7_weight 43 = .ok (.iconst 0, 1) := dk_3 rfl
theorem dX7_weight_44 : decode cX7_weight 44 = .ok (.invokevirtual 43, 3) := dk_182 rfl rfl rfl rfl
theorem dX7_weight_47 : decode cX7_weight 47 = .ok (.istore 6, 2) := dk_54 rfl rfl rfl
theorem dX7_weight_49 : decode cX7_weight 49 = .ok (.iload 4, 2) := dk_21 rfl rfl rfl
theorem dX7_weight_51 : decode cX7_weight 51 = .ok (.aload_n 0, 1) := dk_42 rfl
theorem dX7_weight_52 : decode cX7_weight 52 = .ok (.getfield 20, 3) := dk_180 rfl rfl rfl rfl
theorem dX7_weight_55 : decode cX7_weight 55 = .ok (.iload 5, 2) := dk_21 rfl rfl rfl
theorem dX7_weight_57 : decode cX7_weight 57 = .ok (.iconst 1, 1) := dk_4 rfl
theorem dX7_weight_58 : decode cX7_weight 58 = .ok (.invokevirtual 43, 3) := dk_182 rfl rfl rfl rfl
theorem dX7_weight_61 : decode cX7_weight 61 = .ok (.iload_n 3, 1) := dk_29 rfl
theorem dX7_weight_62 : decode cX7_weight 62 = .ok (.isub, 1) := dk_100 rfl
theorem dX7_weight_63 : decode cX7_weight 63 = .ok (.invokestatic 61, 3) := dk_184 rfl rfl rfl rfl
theorem dX7_weight_66 : decode cX7_weight 66 = .ok (.iconst 2, 1) := dk_5 rfl
theorem dX7_weight_67 : decode cX7_weight 67 = .ok (.if_icmp .gt 8, 3) := dk_163 rfl rfl rfl (by decide)
theorem dX7_weight_70 : decode cX7_weight 70 = .ok (.iload 6, 2) := dk_21 rfl rfl rfl
theorem dX7_weight_72 : decode cX7_weight 72 = .ok (.goto 8, 3) := dk_167 rfl rfl rfl (by decide)
theorem dX7_weight_75 : decode cX7_weight 75 = .ok (.bipush 10, 2) := dk_16 rfl rfl (by decide)
theorem dX7_weight_77 : decode cX7_weight 77 = .ok (.iload 6, 2) := dk_21 rfl rfl rfl
theorem dX7_weight_79 : decode cX7_weight 79 = .ok (.isub, 1) := dk_100 rfl
theorem dX7_weight_80 : decode cX7_weight 80 = .ok (.imul, 1) := dk_104 rfl
theorem dX7_weight_81 : decode cX7_weight 81 = .ok (.istore 4, 2) := dk_54 rfl rfl rfl
theorem dX7_weight_83 : decode cX7_weight 83 = .ok (.iinc 5 1, 3) := dk_132 rfl rfl rfl rfl (by decide)
theorem dX7_weight_86 : decode cX7_weight 86 = .ok (.goto (-80), 3) := dk_167 rfl rfl rfl (by decide)
theorem dX7_weight_89 : decode cX7_weight 89 = .ok (.iload 4, 2) := dk_21 rfl rfl rfl
theorem dX7_weight_91 : decode cX7_weight 91 = .ok (.ireturn, 1) := dk_172 rfl
set_option maxHeartbeats 4000000 in
set_option maxRecDepth 100000 in
theorem s_weight (l : Launch) (g : Gx) (h0 : Nat) (tw : Nat) (p0 : Int32) (p1 : Int32) (v0h0 : Value) (xm : Nat) (v2h0 : Value) (v3h0 : Value) (xmd : Int32) (xtr : Int32) (xmc : Nat) (xmn : Int32) (xmf : Nat → Int32) (twc : Nat) (twn : Int32) (twf : Nat → Int32) : cI l g yX7_weight cX7_weight 7 (some .int) 1 22 0 0 [.ref h0, .ref tw, .int p0, .int p1] [(cO7_vrvvii h0 v0h0 xm v2h0 v3h0 xmd xtr), (cO8_iiri xm 12 3 xmc xmn), (cAI g xmc 36 xmf), (cO8_iiri tw 4 1 twc twn), (cAI g twc 4 twf)] (fun r w => w = [(cO7_vrvvii h0 v0h0 xm v2h0 v3h0 xmd xtr), (cO8_iiri xm 12 3 xmc xmn), (cAI g xmc 36 xmf), (cO8_iiri tw 4 1 twc twn), (cAI g twc 4 twf)]) := by
  refine cI.of (by decide) (Nat.le_of_ble_eq_true rfl) ?_
  intro p e s m args below meth c A X hr hi
  refine k_lveq [(0, .ref h0), (1, .ref tw), (2, .int p0), (3, .int p1)] rfl ?_
  refine k_iconst (v := 1) X dX7_weight_0 (by decide) ?_
  refine k_istore [(4, .int 1), (0, .ref h0), (1, .ref tw), (2, .int p0), (3, .int p1)] X dX7_weight_1 (by decide) rfl ?_
  refine k_iconst (v := 0) X dX7_weight_3 (by decide) ?_
  refine k_istore [(5, .int 0), (4, .int 1), (0, .ref h0), (1, .ref tw), (2, .int p0), (3, .int p1)] X dX7_weight_4 (by decide) rfl ?_
  refine (fun hL : ∀ (nn_3 : Nat) (u_1 : Int32) (u_2 : Int32), (xmn.toInt - u_1.toInt).toNat = nn_3 → Wk p l e _ s m args below meth c _ A g _ _ _ [(cO7_vrvvii h0 v0h0 xm v2h0 v3h0 xmd xtr), (cO8_iiri xm 12 3 xmc xmn), (cAI g xmc 36 xmf), (cO8_iiri tw 4 1 twc twn), (cAI g twc 4 twf)] [(5, .int u_1), (4, .int u_2), (0, .ref h0), (1, .ref tw), (2, .int p0), (3, .int p1)] 6 [] => hL _ 0 1 rfl ) ?_
  refine fun nn_3 => Nat.strongRecOn nn_3 (fun nn_3 ih_5 => ?_)
  intro u_1 u_2 hm_4 
  refine k_iload X dX7_weight_6 0 rfl ?_
  refine k_aload_n X dX7_weight_8 2 rfl ?_
  refine k_get (ci := 7) X inlX7 rfl 1 (by decide) dX7_weight_9 mw91 0 rfl rfl ?_
  refine k_get (ci := 8) X inlX8 rfl 3 (by decide) dX7_weight_12 mw387 1 rfl rfl ?_
  refine k_ic_ge 89 X dX7_weight_15 (by decide) (fun h_6 => ?_) (fun h_6 => ?_)
  · skip
    refine k_iload X dX7_weight_89 1 rfl ?_
    exact k_iret X hr dX7_weight_91 (Nat.le_of_ble_eq_true rfl) (Nat.le_of_ble_eq_true rfl) [0, 1, 2, 3, 4] (by decide) rfl rfl rfl
  · skip
    refine k_aload_n X dX7_weight_18 2 rfl ?_
    refine k_get (ci := 7) X inlX7 rfl 1 (by decide) dX7_weight_19 mw91 0 rfl rfl ?_
    refine k_iload X dX7_weight_22 0 rfl ?_
    refine k_iconst (v := 0) X dX7_weight_24 (by decide) ?_
    refine k_callVI (n := 2) (As := [.int u_1, .int 0]) (st := []) X [(cO8_iiri xm 12 3 xmc xmn), (cAI g xmc 36 xmf)] [(cO7_vrvvii h0 v0h0 xm v2h0 v3h0 xmd xtr), (cO8_iiri tw 4 1 twc twn), (cAI g twc 4 twf)] [1, 2] [0, 3, 4] (t_at l g xm u_1 0 12 3 xmc xmn 36 xmf (tbk_12_3)) dX7_weight_25 mw388 mw376 mw377 mw64 mw378 rfl 8 rfl rfl 0 _ rfl yk_yX8_at_2 rfl (Nat.le_of_ble_eq_true rfl) (Nat.le_of_ble_eq_true rfl) (Nat.le_of_ble_eq_true rfl) (Nat.le_of_ble_eq_true rfl) (Nat.le_of_ble_eq_true rfl) rfl rfl (by decide) rfl (by decide) (by decide) ?_
    rintro r_7 w ⟨hr_8, rfl⟩
    refine k_ws [(cO7_vrvvii h0 v0h0 xm v2h0 v3h0 xmd xtr), (cO8_iiri tw 4 1 twc twn), (cAI g twc 4 twf), (cO8_iiri xm 12 3 xmc xmn), (cAI g xmc 36 xmf)] rfl ?_
    refine k_iload_n X dX7_weight_28 4 rfl ?_
    refine k_ic_ne 83 X dX7_weight_29 (by decide) (fun h_9 => ?_) (fun h_9 => ?_)
    · skip
      obtain ⟨z_10, ez_10⟩ : ∃ y : Int32, u_1 + Int32.ofInt 1 = y := ⟨_, rfl⟩
      refine k_iinc z_10 [(5, .int z_10), (4, .int u_2), (0, .ref h0), (1, .ref tw), (2, .int p0), (3, .int p1)] 0 X dX7_weight_83 rfl ez_10 (by decide) rfl ?_
      refine k_goto 6 X dX7_weight_86 (by decide) ?_
      refine k_sub [(cO7_vrvvii h0 v0h0 xm v2h0 v3h0 xmd xtr), (cO8_iiri xm 12 3 xmc xmn), (cAI g xmc 36 xmf), (cO8_iiri tw 4 1 twc twn), (cAI g twc 4 twf)] [0, 3, 4, 1, 2] rfl (by decide) rfl ?_
      exact ih_5 _ (by rw [← hm_4]; exact mu_lt (by assumption) (by assumption)) z_10 u_2 rfl 
    · skip
      refine k_aload_n X dX7_weight_32 3 rfl ?_
      refine k_aload_n X dX7_weight_33 2 rfl ?_
      refine k_get (ci := 7) X inlX7 rfl 1 (by decide) dX7_weight_34 mw91 0 rfl rfl ?_
      refine k_iload X dX7_weight_37 0 rfl ?_
      refine k_iconst (v := 2) X dX7_weight_39 (by decide) ?_
      refine k_callVI (n := 2) (As := [.int u_1, .int 2]) (st := [.ref tw]) X [(cO8_iiri xm 12 3 xmc xmn), (cAI g xmc 36 xmf)] [(cO7_vrvvii h0 v0h0 xm v2h0 v3h0 xmd xtr), (cO8_iiri tw 4 1 twc twn), (cAI g twc 4 twf)] [3, 4] [0, 1, 2] (t_at l g xm u_1 2 12 3 xmc xmn 36 xmf (tbk_12_3)) dX7_weight_40 mw388 mw376 mw377 mw64 mw378 rfl 8 rfl rfl 0 _ rfl yk_yX8_at_2 rfl (Nat.le_of_ble_eq_true rfl) (Nat.le_of_ble_eq_true rfl) (Nat.le_of_ble_eq_true rfl) (Nat.le_of_ble_eq_true rfl) (Nat.le_of_ble_eq_true rfl) rfl rfl (by decide) rfl (by decide) (by decide) ?_
      rintro r_11 w ⟨hr_12, rfl⟩
      refine k_ws [(cO7_vrvvii h0 v0h0 xm v2h0 v3h0 xmd xtr), (cO8_iiri tw 4 1 twc twn), (cAI g twc 4 twf), (cO8_iiri xm 12 3 xmc xmn), (cAI g xmc 36 xmf)] rfl ?_
      refine k_iconst (v := 0) X dX7_weight_43 (by decide) ?_
      refine k_callVI (n := 2) (As := [.int r_11, .int 0]) (st := []) X [(cO8_iiri tw 4 1 twc twn), (cAI g twc 4 twf)] [(cO7_vrvvii h0 v0h0 xm v2h0 v3h0 xmd xtr), (cO8_iiri xm 12 3 xmc xmn), (cAI g xmc 36 xmf)] [1, 2] [0, 3, 4] (t_at l g tw r_11 0 4 1 twc twn 4 twf (tbk_4_1)) dX7_weight_44 mw388 mw376 mw377 mw64 mw378 rfl 8 rfl rfl 0 _ rfl yk_yX8_at_2 rfl (Nat.le_of_ble_eq_true rfl) (Nat.le_of_ble_eq_true rfl) (Nat.le_of_ble_eq_true rfl) (Nat.le_of_ble_eq_true rfl) (Nat.le_of_ble_eq_true rfl) rfl rfl (by decide) rfl (by decide) (by decide) ?_
      rintro r_13 w ⟨hr_14, rfl⟩
      refine k_ws [(cO7_vrvvii h0 v0h0 xm v2h0 v3h0 xmd xtr), (cO8_iiri xm 12 3 xmc xmn), (cAI g xmc 36 xmf), (cO8_iiri tw 4 1 twc twn), (cAI g twc 4 twf)] rfl ?_
      refine k_istore [(6, .int r_13), (5, .int u_1), (4, .int u_2), (0, .ref h0), (1, .ref tw), (2, .int p0), (3, .int p1)] X dX7_weight_47 (by decide) rfl ?_
      refine k_iload X dX7_weight_49 2 rfl ?_
      refine k_aload_n X dX7_weight_51 3 rfl ?_
      refine k_get (ci := 7) X inlX7 rfl 1 (by decide) dX7_weight_52 mw91 0 rfl rfl ?_
      refine k_iload X dX7_weight_55 1 rfl ?_
      refine k_iconst (v := 1) X dX7_weight_57 (by decide) ?_
      refine k_callVI (n := 2) (As := [.int u_1, .int 1]) (st := [.int u_2]) X [(cO8_iiri xm 12 3 xmc xmn), (cAI g xmc 36 xmf)] [(cO7_vrvvii h0 v0h0 xm v2h0 v3h0 xmd xtr), (cO8_iiri tw 4 1 twc twn), (cAI g twc 4 twf)] [1, 2] [0, 3, 4] (t_at l g xm u_1 1 12 3 xmc xmn 36 xmf (tbk_12_3)) dX7_weight_58 mw388 mw376 mw377 mw64 mw378 rfl 8 rfl rfl 0 _ rfl yk_yX8_at_2 rfl (Nat.le_of_ble_eq_true rfl) (Nat.le_of_ble_eq_true rfl) (Nat.le_of_ble_eq_true rfl) (Nat.le_of_ble_eq_true rfl) (Nat.le_of_ble_eq_true rfl) rfl rfl (by decide) rfl (by decide) (by decide) ?_
      rintro r_15 w ⟨hr_16, rfl⟩
      refine k_ws [(cO7_vrvvii h0 v0h0 xm v2h0 v3h0 xmd xtr), (cO8_iiri tw 4 1 twc twn), (cAI g twc 4 twf), (cO8_iiri xm 12 3 xmc xmn), (cAI g xmc 36 xmf)] rfl ?_
      refine k_iload_n X dX7_weight_61 6 rfl ?_
      refine k_isub X dX7_weight_62 ?_
      refine k_nm (fun z_17 ez_17 => ?_)
      refine k_mabs X dX7_weight_63 mw1129 mw1130 mw103 mw1131 (Nat.le_of_ble_eq_true rfl) (Nat.le_of_ble_eq_true rfl) (Nat.zero_le _) (Nat.zero_le _) ?_
      refine k_nm (fun z_18 ez_18 => ?_)
      refine k_iconst (v := 2) X dX7_weight_66 (by decide) ?_
      refine k_ic_gt 75 X dX7_weight_67 (by decide) (fun h_19 => ?_) (fun h_19 => ?_)
      · skip
        refine k_bipush (v := 10) X dX7_weight_75 (by decide) ?_
        refine k_iload X dX7_weight_77 0 rfl ?_
        refine k_isub X dX7_weight_79 ?_
        refine k_nm (fun z_20 ez_20 => ?_)
        refine k_imul X dX7_weight_80 ?_
        refine k_nm (fun z_21 ez_21 => ?_)
        refine k_istore [(4, .int z_21), (6, .int r_13), (5, .int u_1), (0, .ref h0), (1, .ref tw), (2, .int p0), (3, .int p1)] X dX7_weight_81 (by decide) rfl ?_
        obtain ⟨z_22, ez_22⟩ : ∃ y : Int32, u_1 + Int32.ofInt 1 = y := ⟨_, rfl⟩
        refine k_iinc z_22 [(5, .int z_22), (4, .int z_21), (6, .int r_13), (0, .ref h0), (1, .ref tw), (2, .int p0), (3, .int p1)] 2 X dX7_weight_83 rfl ez_22 (by decide) rfl ?_
        refine k_goto 6 X dX7_weight_86 (by decide) ?_
        refine k_lv [(5, .int z_22), (4, .int z_21), (0, .ref h0), (1, .ref tw), (2, .int p0), (3, .int p1)] [0, 1, 3, 4, 5, 6] rfl ?_
        refine k_sub [(cO7_vrvvii h0 v0h0 xm v2h0 v3h0 xmd xtr), (cO8_iiri xm 12 3 xmc xmn), (cAI g xmc 36 xmf), (cO8_iiri tw 4 1 twc twn), (cAI g twc 4 twf)] [0, 3, 4, 1, 2] rfl (by decide) rfl ?_
        exact ih_5 _ (by rw [← hm_4]; exact mu_lt (by assumption) (by assumption)) z_22 z_21 rfl 
      · skip
        refine k_iload X dX7_weight_70 0 rfl ?_
        refine k_goto 80 X dX7_weight_72 (by decide) ?_
        refine k_imul X dX7_weight_80 ?_
        refine k_nm (fun z_23 ez_23 => ?_)
        refine k_istore [(4, .int z_23), (6, .int r_13), (5, .int u_1), (0, .ref h0), (1, .ref tw), (2, .int p0), (3, .int p1)] X dX7_weight_81 (by decide) rfl ?_
        obtain ⟨z_24, ez_24⟩ : ∃ y : Int32, u_1 + Int32.ofInt 1 = y := ⟨_, rfl⟩
        refine k_iinc z_24 [(5, .int z_24), (4, .int z_23), (6, .int r_13), (0, .ref h0), (1, .ref tw), (2, .int p0), (3, .int p1)] 2 X dX7_weight_83 rfl ez_24 (by decide) rfl ?_
        refine k_goto 6 X dX7_weight_86 (by decide) ?_
        refine k_lv [(5, .int z_24), (4, .int z_23), (0, .ref h0), (1, .ref tw), (2, .int p0), (3, .int p1)] [0, 1, 3, 4, 5, 6] rfl ?_
        refine k_sub [(cO7_vrvvii h0 v0h0 xm v2h0 v3h0 xmd xtr), (cO8_iiri xm 12 3 xmc xmn), (cAI g xmc 36 xmf), (cO8_iiri tw 4 1 twc twn), (cAI g twc 4 twf)] [0, 3, 4, 1, 2] rfl (by decide) rfl ?_
        exact ih_5 _ (by rw [← hm_4]; exact mu_lt (by assumption) (by assumption)) z_24 z_23 rfl 

theorem dX7_allWeights_0 : decode cX7_allWeights 0 = .ok (.aload_n 0, 1) := dk_42 rfl
theorem dX7_allWeights_1 : decode cX7_allWeights 1 = .ok (.aload_n 1, 1) := dk_43 rfl
theorem dX7_allWeights_2 : decode cX7_allWeights 2 = .ok (.iload_n 2, 1) := dk_28 rfl
theorem dX7_allWeights_3 : decode cX7_allWeights 3 = .ok (.aload_n 0, 1) := dk_42 rfl
theorem dX7_allWeights_4 : decode cX7_allWeights 4 = .ok (.getfield 14, 3) := dk_180 rfl rfl rfl rfl
theorem dX7_allWeights_7 : decode cX7_allWeights 7 = .ok (.iload_n 2, 1) := dk_28 rfl
theorem dX7_allWeights_8 : decode cX7_allWeights 8 = .ok (.iconst 1, 1) := dk_4 rfl
theorem dX7_allWeights_9 : decode cX7_allWeights 9 = .ok (.invokevirtual 43, 3) := dk_182 rfl rfl rfl rfl
theorem dX7_allWeights_12 : decode cX7_allWeights 12 = .ok (.invokevirtual 67, 3) := dk_182 rfl rfl rfl rfl
theorem dX7_allWeights_15 : decode cX7_allWeights 15 = .ok (.istore_n 3, 1) := dk_62 rfl
theorem dX7_allWeights_16 : decode cX7_allWeights 16 = .ok (.iconst 0, 1) := dk_3 rfl
theorem dX7_allWeights_17 : decode cX7_allWeights 17 = .ok (.istore 4, 2) := dk_54 rfl rfl rfl
theorem dX7_allWeights_19 : decode cX7_allWeights 19 = .ok (.iload 4, 2) := dk_21 rfl rfl rfl
theorem dX7_allWeights_21 : decode cX7_allWeights 21 = .ok (.aload_n 0, 1) := dk_42 rfl
theorem dX7_allWeights_22 : decode cX7_allWeights 22 = .ok (.getfield 20, 3) := dk_180 rfl rfl rfl rfl
theorem dX7_allWeights_25 : decode cX7_allWeights 25 = .ok (.getfield 51, 3) := dk_180 rfl rfl rfl rfl
theorem dX7_allWeights_28 : decode cX7_allWeights 28 = .ok (.if_icmp .ge 72, 3) := dk_162 rfl rfl rfl (by decide)
theorem dX7_allWeights_31 : decode cX7_allWeights 31 = .ok (.aload_n 0, 1) := dk_42 rfl
theorem dX7_allWeights_32 : decode cX7_allWeights 32 = .ok (.getfield 20, 3) := dk_180 rfl rfl rfl rfl
theorem dX7_allWeights_35 : decode cX7_allWeights 35 = .ok (.iload 4, 2) := dk_21 rfl rfl rfl
theorem dX7_allWeights_37 : decode cX7_allWeights 37 = .ok (.iconst 1, 1) := dk_4 rfl
theorem dX7_allWeights_38 : decode cX7_allWeights 38 = .ok (.invokevirtual 43, 3) := dk_182 rfl rfl rfl rfl
theorem dX7_allWeights_41 : decode cX7_allWeights 41 = .ok (.istore 5, 2) := dk_54 rfl rfl rfl
theorem dX7_allWeights_43 : decode cX7_allWeights 43 = .ok (.aload_n 0, 1) := dk_42 rfl
theorem dX7_allWeights_44 : decode cX7_allWeights 44 = .ok (.getfield 20, 3) := dk_180 rfl rfl rfl rfl
theorem dX7_allWeights_47 : decode cX7_allWeights 47 = .ok (.iload 4, 2) := dk_21 rfl rfl rfl
theorem dX7_allWeights_49 : decode cX7_allWeights 49 = .ok (.iconst 0, 1) := dk_3 rfl
theorem dX7_allWeights_50 : decode cX7_allWeights 50 = .ok (.invokevirtual 43, 3) := dk_182 rfl rfl rfl rfl
theorem dX7_allWeights_53 : decode cX7_allWeights 53 = .ok (.iload_n 2, 1) := dk_28 rfl
theorem dX7_allWeights_54 : decode cX7_allWeights 54 = .ok (.if_icmp .ne 40, 3) := dk_160 rfl rfl rfl (by decide)
theorem dX7_allWeights_57 : decode cX7_allWeights 57 = .ok (.iload 5, 2) := dk_21 rfl rfl rfl
theorem dX7_allWeights_59 : decode cX7_allWeights 59 = .ok (.aload_n 0, 1) := dk_42 rfl
theorem dX7_allWeights_60 : decode cX7_allWeights 60 = .ok (.getfield 14, 3) := dk_180 rfl rfl rfl rfl
theorem dX7_allWeights_63 : decode cX7_allWeights 63 = .ok (.iload_n 2, 1) := dk_28 rfl
theorem dX7_allWeights_64 : decode cX7_allWeights 64 = .ok (.iconst 1, 1) := dk_4 rfl
theorem dX7_allWeights_65 : decode cX7_allWeights 65 = .ok (.invokevirtual 43, 3) := dk_182 rfl rfl rfl rfl
theorem dX7_allWeights_68 : decode cX7_allWeights 68 = .ok (.if_icmp .eq 26, 3) := dk_159 rfl rfl rfl (by decide)
theorem dX7_allWeights_71 : decode cX7_allWeights 71 = .ok (.aload_n 0, 1) := dk_42 rfl
theorem dX7_allWeights_72 : decode cX7_allWeights 72 = .ok (.iload_n 2, 1) := dk_28 rfl
theorem dX7_allWeights_73 : decode cX7_allWeights 73 = .ok (.iload 5, 2) := dk_21 rfl rfl rfl
theorem dX7_allWeights_75 : decode cX7_allWeights 75 = .ok (.iload 4, 2) := dk_21 rfl rfl rfl
theorem dX7_allWeights_77 : decode cX7_allWeights 77 = .ok (.invokevirtual 57, 3) := dk_182 rfl rfl rfl rfl
theorem dX7_allWeights_80 : decode cX7_allWeights 80 = .ok (.ifCond .ne 14, 3) := dk_154 rfl rfl rfl (by decide)
theorem dX7_allWeights_83 : decode cX7_allWeights 83 = .ok (.iload_n 3, 1) := dk_29 rfl
theorem dX7_allWeights_84 : decode cX7_allWeights 84 = .ok (.aload_n 0, 1) := dk_42 rfl
theorem dX7_allWeights_85 : decode cX7_allWeights 85 = .ok (.aload_n 1, 1) := dk_43 rfl
theorem dX7_allWeights_86 : decode cX7_allWeights 86 = .ok (.iload_n 2, 1) := dk_28 rfl
theorem dX7_allWeights_87 : decode cX7_allWeights 87 = .ok (.iload 5, 2) := dk_21 rfl rfl rfl
theorem dX7_allWeights_89 : decode cX7_allWeights 89 = .ok (.invokevirtual 67, 3) := dk_182 rfl rfl rfl rfl
theorem dX7_allWeights_92 : decode cX7_allWeights 92 = .ok (.iadd, 1) := dk_96 rfl
theorem dX7_allWeights_93 : decode cX7_allWeights 93 = .ok (.istore_n 3, 1) := dk_62 rfl
theorem dX7_allWeights_94 : decode cX7_allWeights 94 = .ok (.iinc 4 1, 3) := dk_132 rfl rfl rfl rfl (by decide)
theorem dX7_allWeights_97 : decode cX7_allWeights 97 = .ok (.goto (-78), 3) := by decide +kernel
theorem dX7_allWeights_100 : decode cX7_allWeights 100 = .ok (.iload_n 3, 1) := by decide +kernel
theorem dX7_allWeights_101 : decode cX7_allWeights 101 = .ok (.ireturn, 1) := by decide +kernel
set_option maxHeartbeats 4000000 in
set_option maxRecDepth 100000 in
theorem s_allWeights (l : Launch) (g : Gx) (h0 : Nat) (tw : Nat) (p0 : Int32) (xr : Nat) (xm : Nat) (v2h0 : Value) (v3h0 : Value) (xmd : Int32) (xtr : Int32) (xrc : Nat) (xrn : Int32) (xrf : Nat → Int32) (xmc : Nat) (xmn : Int32) (xmf : Nat → Int32) (twc : Nat) (twn : Int32) (twf : Nat → Int32) : cI l g yX7_allWeights cX7_allWeights 6 (some .int) 2 48 0 0 [.ref h0, .ref tw, .int p0] [(cO7_rrvvii h0 xr xm v2h0 v3h0 xmd xtr), (cO8_iiri xr 8 3 xrc xrn), (cAI g xrc 24 xrf), (cO8_iiri xm 12 3 xmc xmn), (cAI g xmc 36 xmf), (cO8_iiri tw 4 1 twc twn), (cAI g twc 4 twf)] (fun r w => w = [(cO7_rrvvii h0 xr xm v2h0 v3h0 xmd xtr), (cO8_iiri xr 8 3 xrc xrn), (cAI g xrc 24 xrf), (cO8_iiri xm 12 3 xmc xmn), (cAI g xmc 36 xmf), (cO8_iiri tw 4 1 twc twn), (cAI g twc 4 twf)]) := by
  refine cI.of (by decide) (Nat.le_of_ble_eq_true rfl) ?_
  intro p e s m args below meth c A X hr hi
  refine k_lveq [(0, .ref h0), (1, .ref tw), (2, .int p0)] rfl ?_
  refine k_aload_n X dX7_allWeights_0 0 rfl ?_
  refine k_aload_n X dX7_allWeights_1 1 rfl ?_
  refine k_iload_n X dX7_allWeights_2 2 rfl ?_
  refine k_aload_n X dX7_allWeights_3 0 rfl ?_
  refine k_get (ci := 7) X inlX7 rfl 0 (by decide) dX7_allWeights_4 mw90 0 rfl rfl ?_
  refine k_iload_n X dX7_allWeights_7 2 rfl ?_
  refine k_iconst (v := 1) X dX7_allWeights_8 (by decide) ?_
  refine k_callVI (n := 2) (As := [.int p0, .int 1]) (st := [.int p0, .ref tw, .ref h0]) X [(cO8_iiri xr 8 3 xrc xrn), (cAI g xrc 24 xrf)] [(cO7_rrvvii h0 xr xm v2h0 v3h0 xmd xtr), (cO8_iiri xm 12 3 xmc xmn), (cAI g xmc 36 xmf), (cO8_iiri tw 4 1 twc twn), (cAI g twc 4 twf)] [1, 2] [0, 3, 4, 5, 6] (t_at l g xr p0 1 8 3 xrc xrn 24 xrf (tbk_8_3)) dX7_allWeights_9 mw388 mw376 mw377 mw64 mw378 rfl 8 rfl rfl 0 _ rfl yk_yX8_at_2 rfl (Nat.le_of_ble_eq_true rfl) (Nat.le_of_ble_eq_true rfl) (Nat.le_of_ble_eq_true rfl) (Nat.le_of_ble_eq_true rfl) (Nat.le_of_ble_eq_true rfl) rfl rfl (by decide) rfl (by decide) (by decide) ?_
  rintro r_1 w ⟨hr_2, rfl⟩
  refine k_ws [(cO7_rrvvii h0 xr xm v2h0 v3h0 xmd xtr), (cO8_iiri xm 12 3 xmc xmn), (cAI g xmc 36 xmf), (cO8_iiri tw 4 1 twc twn), (cAI g twc 4 twf), (cO8_iiri xr 8 3 xrc xrn), (cAI g xrc 24 xrf)] rfl ?_
  refine k_callVI (n := 3) (As := [.ref tw, .int p0, .int r_1]) (st := []) X [(cO7_rrvvii h0 xr xm v2h0 v3h0 xmd xtr), (cO8_iiri xm 12 3 xmc xmn), (cAI g xmc 36 xmf), (cO8_iiri tw 4 1 twc twn), (cAI g twc 4 twf)] [(cO8_iiri xr 8 3 xrc xrn), (cAI g xrc 24 xrf)] [0, 1, 2, 3, 4] [5, 6] (s_weight l g h0 tw p0 r_1 (.ref xr) xm v2h0 v3h0 xmd xtr xmc xmn xmf twc twn twf) dX7_allWeights_12 mw1136 mw1126 mw1127 mw23 mw1128 rfl 7 rfl rfl 0 _ rfl yk_yX7_weight_3 rfl (Nat.le_of_ble_eq_true rfl) (Nat.le_of_ble_eq_true rfl) (Nat.le_of_ble_eq_true rfl) (Nat.le_of_ble_eq_true rfl) (Nat.le_of_ble_eq_true rfl) rfl rfl (by decide) rfl (by decide) (by decide) ?_
  rintro r_3 w rfl
  refine k_ws [(cO8_iiri xr 8 3 xrc xrn), (cAI g xrc 24 xrf), (cO7_rrvvii h0 xr xm v2h0 v3h0 xmd xtr), (cO8_iiri xm 12 3 xmc xmn), (cAI g xmc 36 xmf), (cO8_iiri tw 4 1 twc twn), (cAI g twc 4 twf)] rfl ?_
  refine k_istore_n [(3, .int r_3), (0, .ref h0), (1, .ref tw), (2, .int p0)] X dX7_allWeights_15 (by decide) rfl ?_
  refine k_iconst (v := 0) X dX7_allWeights_16 (by decide) ?_
  refine k_istore [(4, .int 0), (3, .int r_3), (0, .ref h0), (1, .ref tw), (2, .int p0)] X dX7_allWeights_17 (by decide) rfl ?_
  refine (fun hL : ∀ (nn_7 : Nat) (u_5 : Int32) (u_6 : Int32), (xmn.toInt - u_5.toInt).toNat = nn_7 → Wk p l e _ s m args below meth c _ A g _ _ _ [(cO8_iiri xr 8 3 xrc xrn), (cAI g xrc 24 xrf), (cO7_rrvvii h0 xr xm v2h0 v3h0 xmd xtr), (cO8_iiri xm 12 3 xmc xmn), (cAI g xmc 36 xmf), (cO8_iiri tw 4 1 twc twn), (cAI g twc 4 twf)] [(4, .int u_5), (3, .int u_6), (0, .ref h0), (1, .ref tw), (2, .int p0)] 19 [] => hL _ 0 r_3 rfl ) ?_
  refine fun nn_7 => Nat.strongRecOn nn_7 (fun nn_7 ih_9 => ?_)
  intro u_5 u_6 hm_8 
  refine k_iload X dX7_allWeights_19 0 rfl ?_
  refine k_aload_n X dX7_allWeights_21 2 rfl ?_
  refine k_get (ci := 7) X inlX7 rfl 1 (by decide) dX7_allWeights_22 mw91 2 rfl rfl ?_
  refine k_get (ci := 8) X inlX8 rfl 3 (by decide) dX7_allWeights_25 mw387 3 rfl rfl ?_
  refine k_ic_ge 100 X dX7_allWeights_28 (by decide) (fun h_10 => ?_) (fun h_10 => ?_)
  · skip
    refine k_iload_n X dX7_allWeights_100 1 rfl ?_
    exact k_iret X hr dX7_allWeights_101 (Nat.le_of_ble_eq_true rfl) (Nat.le_of_ble_eq_true rfl) [2, 0, 1, 3, 4, 5, 6] (by decide) rfl rfl rfl
  · skip
    refine k_aload_n X dX7_allWeights_31 2 rfl ?_
    refine k_get (ci := 7) X inlX7 rfl 1 (by decide) dX7_allWeights_32 mw91 2 rfl rfl ?_
    refine k_iload X dX7_allWeights_35 0 rfl ?_
    refine k_iconst (v := 1) X dX7_allWeights_37 (by decide) ?_
    refine k_callVI (n := 2) (As := [.int u_5, .int 1]) (st := []) X [(cO8_iiri xm 12 3 xmc xmn), (cAI g xmc 36 xmf)] [(cO8_iiri xr 8 3 xrc xrn), (cAI g xrc 24 xrf), (cO7_rrvvii h0 xr xm v2h0 v3h0 xmd xtr), (cO8_iiri tw 4 1 twc twn), (cAI g twc 4 twf)] [3, 4] [0, 1, 2, 5, 6] (t_at l g xm u_5 1 12 3 xmc xmn 36 xmf (tbk_12_3)) dX7_allWeights_38 mw388 mw376 mw377 mw64 mw378 rfl 8 rfl rfl 0 _ rfl yk_yX8_at_2 rfl (Nat.le_of_ble_eq_true rfl) (Nat.le_of_ble_eq_true rfl) (Nat.le_of_ble_eq_true rfl) (Nat.le_of_ble_eq_true rfl) (Nat.le_of_ble_eq_true rfl) rfl rfl (by decide) rfl (by decide) (by decide) ?_
    rintro r_11 w ⟨hr_12, rfl⟩
    refine k_ws [(cO8_iiri xr 8 3 xrc xrn), (cAI g xrc 24 xrf), (cO7_rrvvii h0 xr xm v2h0 v3h0 xmd xtr), (cO8_iiri tw 4 1 twc twn), (cAI g twc 4 twf), (cO8_iiri xm 12 3 xmc xmn), (cAI g xmc 36 xmf)] rfl ?_
    refine k_istore [(5, .int r_11), (4, .int u_5), (3, .int u_6), (0, .ref h0), (1, .ref tw), (2, .int p0)] X dX7_allWeights_41 (by decide) rfl ?_
    refine k_aload_n X dX7_allWeights_43 3 rfl ?_
    refine k_get (ci := 7) X inlX7 rfl 1 (by decide) dX7_allWeights_44 mw91 2 rfl rfl ?_
    refine k_iload X dX7_allWeights_47 1 rfl ?_
    refine k_iconst (v := 0) X dX7_allWeights_49 (by decide) ?_
    refine k_callVI (n := 2) (As := [.int u_5, .int 0]) (st := []) X [(cO8_iiri xm 12 3 xmc xmn), (cAI g xmc 36 xmf)] [(cO8_iiri xr 8 3 xrc xrn), (cAI g xrc 24 xrf), (cO7_rrvvii h0 xr xm v2h0 v3h0 xmd xtr), (cO8_iiri tw 4 1 twc twn), (cAI g twc 4 twf)] [5, 6] [0, 1, 2, 3, 4] (t_at l g xm u_5 0 12 3 xmc xmn 36 xmf (tbk_12_3)) dX7_allWeights_50 mw388 mw376 mw377 mw64 mw378 rfl 8 rfl rfl 0 _ rfl yk_yX8_at_2 rfl (Nat.le_of_ble_eq_true rfl) (Nat.le_of_ble_eq_true rfl) (Nat.le_of_ble_eq_true rfl) (Nat.le_of_ble_eq_true rfl) (Nat.le_of_ble_eq_true rfl) rfl rfl (by decide) rfl (by decide) (by decide) ?_
    rintro r_13 w ⟨hr_14, rfl⟩
    refine k_ws [(cO8_iiri xr 8 3 xrc xrn), (cAI g xrc 24 xrf), (cO7_rrvvii h0 xr xm v2h0 v3h0 xmd xtr), (cO8_iiri tw 4 1 twc twn), (cAI g twc 4 twf), (cO8_iiri xm 12 3 xmc xmn), (cAI g xmc 36 xmf)] rfl ?_
    refine k_iload_n X dX7_allWeights_53 5 rfl ?_
    refine k_ic_ne 94 X dX7_allWeights_54 (by decide) (fun h_15 => ?_) (fun h_15 => ?_)
    · skip
      obtain ⟨z_16, ez_16⟩ : ∃ y : Int32, u_5 + Int32.ofInt 1 = y := ⟨_, rfl⟩
      refine k_iinc z_16 [(4, .int z_16), (5, .int r_11), (3, .int u_6), (0, .ref h0), (1, .ref tw), (2, .int p0)] 1 X dX7_allWeights_94 rfl ez_16 (by decide) rfl ?_
      refine k_goto 19 X dX7_allWeights_97 (by decide) ?_
      refine k_lv [(4, .int z_16), (3, .int u_6), (0, .ref h0), (1, .ref tw), (2, .int p0)] [0, 2, 3, 4, 5] rfl ?_
      refine k_sub [(cO8_iiri xr 8 3 xrc xrn), (cAI g xrc 24 xrf), (cO7_rrvvii h0 xr xm v2h0 v3h0 xmd xtr), (cO8_iiri xm 12 3 xmc xmn), (cAI g xmc 36 xmf), (cO8_iiri tw 4 1 twc twn), (cAI g twc 4 twf)] [0, 1, 2, 5, 6, 3, 4] rfl (by decide) rfl ?_
      exact ih_9 _ (by rw [← hm_8]; exact mu_lt (by assumption) (by assumption)) z_16 u_6 rfl 
    · skip
      refine k_iload X dX7_allWeights_57 0 rfl ?_
      refine k_aload_n X dX7_allWeights_59 3 rfl ?_
      refine k_get (ci := 7) X inlX7 rfl 0 (by decide) dX7_allWeights_60 mw90 2 rfl rfl ?_
      refine k_iload_n X dX7_allWeights_63 5 rfl ?_
      refine k_iconst (v := 1) X dX7_allWeights_64 (by decide) ?_
      refine k_callVI (n := 2) (As := [.int p0, .int 1]) (st := [.int r_11]) X [(cO8_iiri xr 8 3 xrc xrn), (cAI g xrc 24 xrf)] [(cO7_rrvvii h0 xr xm v2h0 v3h0 xmd xtr), (cO8_iiri tw 4 1 twc twn), (cAI g twc 4 twf), (cO8_iiri xm 12 3 xmc xmn), (cAI g xmc 36 xmf)] [0, 1] [2, 3, 4, 5, 6] (t_at l g xr p0 1 8 3 xrc xrn 24 xrf (tbk_8_3)) dX7_allWeights_65 mw388 mw376 mw377 mw64 mw378 rfl 8 rfl rfl 0 _ rfl yk_yX8_at_2 rfl (Nat.le_of_ble_eq_true rfl) (Nat.le_of_ble_eq_true rfl) (Nat.le_of_ble_eq_true rfl) (Nat.le_of_ble_eq_true rfl) (Nat.le_of_ble_eq_true rfl) rfl rfl (by decide) rfl (by decide) (by decide) ?_
      rintro r_17 w ⟨hr_18, rfl⟩
      refine k_ws [(cO7_rrvvii h0 xr xm v2h0 v3h0 xmd xtr), (cO8_iiri tw 4 1 twc twn), (cAI g twc 4 twf), (cO8_iiri xm 12 3 xmc xmn), (cAI g xmc 36 xmf), (cO8_iiri xr 8 3 xrc xrn), (cAI g xrc 24 xrf)] rfl ?_
      refine k_ic_eq 94 X dX7_allWeights_68 (by decide) (fun h_19 => ?_) (fun h_19 => ?_)
      · skip
        obtain ⟨z_20, ez_20⟩ : ∃ y : Int32, u_5 + Int32.ofInt 1 = y := ⟨_, rfl⟩
        refine k_iinc z_20 [(4, .int z_20), (5, .int r_11), (3, .int u_6), (0, .ref h0), (1, .ref tw), (2, .int p0)] 1 X dX7_allWeights_94 rfl ez_20 (by decide) rfl ?_
        refine k_goto 19 X dX7_allWeights_97 (by decide) ?_
        refine k_lv [(4, .int z_20), (3, .int u_6), (0, .ref h0), (1, .ref tw), (2, .int p0)] [0, 2, 3, 4, 5] rfl ?_
        refine k_sub [(cO8_iiri xr 8 3 xrc xrn), (cAI g xrc 24 xrf), (cO7_rrvvii h0 xr xm v2h0 v3h0 xmd xtr), (cO8_iiri xm 12 3 xmc xmn), (cAI g xmc 36 xmf), (cO8_iiri tw 4 1 twc twn), (cAI g twc 4 twf)] [5, 6, 0, 3, 4, 1, 2] rfl (by decide) rfl ?_
        exact ih_9 _ (by rw [← hm_8]; exact mu_lt (by assumption) (by assumption)) z_20 u_6 rfl 
      · skip
        refine k_aload_n X dX7_allWeights_71 3 rfl ?_
        refine k_iload_n X dX7_allWeights_72 5 rfl ?_
        refine k_iload X dX7_allWeights_73 0 rfl ?_
        refine k_iload X dX7_allWeights_75 1 rfl ?_
        refine k_callVI (n := 3) (As := [.int p0, .int r_11, .int u_5]) (st := []) X [(cO7_rrvvii h0 xr xm v2h0 v3h0 xmd xtr), (cO8_iiri xm 12 3 xmc xmn), (cAI g xmc 36 xmf)] [(cO8_iiri tw 4 1 twc twn), (cAI g twc 4 twf), (cO8_iiri xr 8 3 xrc xrn), (cAI g xrc 24 xrf)] [0, 3, 4] [1, 2, 5, 6] (s_isMarked l g h0 p0 r_11 u_5 (.ref xr) xm v2h0 v3h0 xmd xtr xmc xmn xmf) dX7_allWeights_77 mw1121 mw1122 mw1123 mw23 mw1124 rfl 7 rfl rfl 0 _ rfl yk_yX7_isMarked_3 rfl (Nat.le_of_ble_eq_true rfl) (Nat.le_of_ble_eq_true rfl) (Nat.le_of_ble_eq_true rfl) (Nat.le_of_ble_eq_true rfl) (Nat.le_of_ble_eq_true rfl) rfl rfl (by decide) rfl (by decide) (by decide) ?_
        rintro r_21 w rfl
        refine k_ws [(cO8_iiri tw 4 1 twc twn), (cAI g twc 4 twf), (cO8_iiri xr 8 3 xrc xrn), (cAI g xrc 24 xrf), (cO7_rrvvii h0 xr xm v2h0 v3h0 xmd xtr), (cO8_iiri xm 12 3 xmc xmn), (cAI g xmc 36 xmf)] rfl ?_
        refine k_if_ne 94 X dX7_allWeights_80 (by decide) (fun h_23 => ?_) (fun h_23 => ?_)
        · skip
          obtain ⟨z_24, ez_24⟩ : ∃ y : Int32, u_5 + Int32.ofInt 1 = y := ⟨_, rfl⟩
          refine k_iinc z_24 [(4, .int z_24), (5, .int r_11), (3, .int u_6), (0, .ref h0), (1, .ref tw), (2, .int p0)] 1 X dX7_allWeights_94 rfl ez_24 (by decide) rfl ?_
          refine k_goto 19 X dX7_allWeights_97 (by decide) ?_
          refine k_lv [(4, .int z_24), (3, .int u_6), (0, .ref h0), (1, .ref tw), (2, .int p0)] [0, 2, 3, 4, 5] rfl ?_
          refine k_sub [(cO8_iiri xr 8 3 xrc xrn), (cAI g xrc 24 xrf), (cO7_rrvvii h0 xr xm v2h0 v3h0 xmd xtr), (cO8_iiri xm 12 3 xmc xmn), (cAI g xmc 36 xmf), (cO8_iiri tw 4 1 twc twn), (cAI g twc 4 twf)] [2, 3, 4, 5, 6, 0, 1] rfl (by decide) rfl ?_
          exact ih_9 _ (by rw [← hm_8]; exact mu_lt (by assumption) (by assumption)) z_24 u_6 rfl 
        · skip
          refine k_iload_n X dX7_allWeights_83 2 rfl ?_
          refine k_aload_n X dX7_allWeights_84 3 rfl ?_
          refine k_aload_n X dX7_allWeights_85 4 rfl ?_
          refine k_iload_n X dX7_allWeights_86 5 rfl ?_
          refine k_iload X dX7_allWeights_87 0 rfl ?_
          refine k_callVI (n := 3) (As := [.ref tw, .int p0, .int r_11]) (st := [.int u_6]) X [(cO7_rrvvii h0 xr xm v2h0 v3h0 xmd xtr), (cO8_iiri xm 12 3 xmc xmn), (cAI g xmc 36 xmf), (cO8_iiri tw 4 1 twc twn), (cAI g twc 4 twf)] [(cO8_iiri xr 8 3 xrc xrn), (cAI g xrc 24 xrf)] [4, 5, 6, 0, 1] [2, 3] (s_weight l g h0 tw p0 r_11 (.ref xr) xm v2h0 v3h0 xmd xtr xmc xmn xmf twc twn twf) dX7_allWeights_89 mw1136 mw1126 mw1127 mw23 mw1128 rfl 7 rfl rfl 0 _ rfl yk_yX7_weight_3 rfl (Nat.le_of_ble_eq_true rfl) (Nat.le_of_ble_eq_true rfl) (Nat.le_of_ble_eq_true rfl) (Nat.le_of_ble_eq_true rfl) (Nat.le_of_ble_eq_true rfl) rfl rfl (by decide) rfl (by decide) (by decide) ?_
          rintro r_25 w rfl
          refine k_ws [(cO8_iiri xr 8 3 xrc xrn), (cAI g xrc 24 xrf), (cO7_rrvvii h0 xr xm v2h0 v3h0 xmd xtr), (cO8_iiri xm 12 3 xmc xmn), (cAI g xmc 36 xmf), (cO8_iiri tw 4 1 twc twn), (cAI g twc 4 twf)] rfl ?_
          refine k_iadd X dX7_allWeights_92 ?_
          refine k_nm (fun z_27 ez_27 => ?_)
          refine k_istore_n [(3, .int z_27), (5, .int r_11), (4, .int u_5), (0, .ref h0), (1, .ref tw), (2, .int p0)] X dX7_allWeights_93 (by decide) rfl ?_
          obtain ⟨z_28, ez_28⟩ : ∃ y : Int32, u_5 + Int32.ofInt 1 = y := ⟨_, rfl⟩
          refine k_iinc z_28 [(4, .int z_28), (3, .int z_27), (5, .int r_11), (0, .ref h0), (1, .ref tw), (2, .int p0)] 2 X dX7_allWeights_94 rfl ez_28 (by decide) rfl ?_
          refine k_goto 19 X dX7_allWeights_97 (by decide) ?_
          refine k_lv [(4, .int z_28), (3, .int z_27), (0, .ref h0), (1, .ref tw), (2, .int p0)] [0, 1, 3, 4, 5] rfl ?_
          exact ih_9 _ (by rw [← hm_8]; exact mu_lt (by assumption) (by assumption)) z_28 z_27 rfl 

theorem dX7_likeliestFrame_0 : decode cX7_likeliestFrame 0 = .ok (.aload_n 0, 1) := dk_42 rfl
theorem dX7_likeliestFrame_1 : decode cX7_likeliestFrame 1 = .ok (.getfield 14, 3) := dk_180 rfl rfl rfl rfl
theorem dX7_likeliestFrame_4 : decode cX7_likeliestFrame 4 = .ok (.iload_n 2, 1) := dk_28 rfl
theorem dX7_likeliestFrame_5 : decode cX7_likeliestFrame 5 = .ok (.iconst 1, 1) := dk_4 rfl
theorem dX7_likeliestFrame_6 : decode cX7_likeliestFrame 6 = .ok (.invokevirtual 43, 3) := dk_182 rfl rfl rfl rfl
theorem dX7_likeliestFrame_9 : decode cX7_likeliestFrame 9 = .ok (.istore_n 3, 1) := dk_62 rfl
theorem dX7_likeliestFrame_10 : decode cX7_likeliestFrame 10 = .ok (.aload_n 0, 1) := dk_42 rfl
theorem dX7_likeliestFrame_11 : decode cX7_likeliestFrame 11 = .ok (.aload_n 1, 1) := dk_43 rfl
theorem dX7_likeliestFrame_12 : decode cX7_likeliestFrame 12 = .ok (.iload_n 2, 1) := dk_28 rfl
theorem dX7_likeliestFrame_13 : decode cX7_likeliestFrame 13 = .ok (.iload_n 3, 1) := dk_29 rfl
theorem dX7_likeliestFrame_14 : decode cX7_likeliestFrame 14 = .ok (.invokevirtual 67, 3) := dk_182 rfl rfl rfl rfl
theorem dX7_likeliestFrame_17 : decode cX7_likeliestFrame 17 = .ok (.istore 4, 2) := dk_54 rfl rfl rfl
theorem dX7_likeliestFrame_19 : decode cX7_likeliestFrame 19 = .ok (.iconst 0, 1) := dk_3 rfl
theorem dX7_likeliestFrame_20 : decode cX7_likeliestFrame 20 = .ok (.istore 5, 2) := dk_54 rfl rfl rfl
theorem dX7_likeliestFrame_22 : decode cX7_likeliestFrame 22 = .ok (.iload 5, 2) := dk_21 rfl rfl rfl
theorem dX7_likeliestFrame_24 : decode cX7_likeliestFrame 24 = .ok (.aload_n 0, 1) := dk_42 rfl
theorem dX7_likeliestFrame_25 : decode cX7_likeliestFrame 25 = .ok (.getfield 20, 3) := dk_180 rfl rfl rfl rfl
theorem dX7_likeliestFrame_28 : decode cX7_likeliestFrame 28 = .ok (.getfield 51, 3) := dk_180 rfl rfl rfl rfl
theorem dX7_likeliestFrame_31 : decode cX7_likeliestFrame 31 = .ok (.if_icmp .ge 72, 3) := dk_162 rfl rfl rfl (by decide)
theorem dX7_likeliestFrame_34 : decode cX7_likeliestFrame 34 = .ok (.aload_n 0, 1) := dk_42 rfl
theorem dX7_likeliestFrame_35 : decode cX7_likeliestFrame 35 = .ok (.getfield 20, 3) := dk_180 rfl rfl rfl rfl
theorem dX7_likeliestFrame_38 : decode cX7_likeliestFrame 38 = .ok (.iload 5, 2) := dk_21 rfl rfl rfl
theorem dX7_likeliestFrame_40 : decode cX7_likeliestFrame 40 = .ok (.iconst 0, 1) := dk_3 rfl
theorem dX7_likeliestFrame_41 : decode cX7_likeliestFrame 41 = .ok (.invokevirtual 43, 3) := dk_182 rfl rfl rfl rfl
theorem dX7_likeliestFrame_44 : decode cX7_likeliestFrame 44 = .ok (.iload_n 2, 1) := dk_28 rfl
theorem dX7_likeliestFrame_45 : decode cX7_likeliestFrame 45 = .ok (.if_icmp .ne 52, 3) := dk_160 rfl rfl rfl (by decide)
theorem dX7_likeliestFrame_48 : decode cX7_likeliestFrame 48 = .ok (.aload_n 0, 1) := dk_42 rfl
theorem dX7_likeliestFrame_49 : decode cX7_likeliestFrame 49 = .ok (.getfield 20, 3) := dk_180 rfl rfl rfl rfl
theorem dX7_likeliestFrame_52 : decode cX7_likeliestFrame 52 = .ok (.iload 5, 2) := dk_21 rfl rfl rfl
theorem dX7_likeliestFrame_54 : decode cX7_likeliestFrame 54 = .ok (.iconst 1, 1) := dk_4 rfl
theorem dX7_likeliestFrame_55 : decode cX7_likeliestFrame 55 = .ok (.invokevirtual 43, 3) := dk_182 rfl rfl rfl rfl
theorem dX7_likeliestFrame_58 : decode cX7_likeliestFrame 58 = .ok (.istore 6, 2) := dk_54 rfl rfl rfl
theorem dX7_likeliestFrame_60 : decode cX7_likeliestFrame 60 = .ok (.aload_n 0, 1) := dk_42 rfl
theorem dX7_likeliestFrame_61 : decode cX7_likeliestFrame 61 = .ok (.aload_n 1, 1) := dk_43 rfl
theorem dX7_likeliestFrame_62 : decode cX7_likeliestFrame 62 = .ok (.iload_n 2, 1) := dk_28 rfl
theorem dX7_likeliestFrame_63 : decode cX7_likeliestFrame 63 = .ok (.iload 6, 2) := dk_21 rfl rfl rfl
theorem dX7_likeliestFrame_65 : decode cX7_likeliestFrame 65 = .ok (.invokevirtual 67, 3) := dk_182 rfl rfl rfl rfl
theorem dX7_likeliestFrame_68 : decode cX7_likeliestFrame 68 = .ok (.istore 7, 2) := dk_54 rfl rfl rfl
theorem dX7_likeliestFrame_70 : decode cX7_likeliestFrame 70 = .ok (.iload 7, 2) := dk_21 rfl rfl rfl
theorem dX7_likeliestFrame_72 : decode cX7_likeliestFrame 72 = .ok (.iload 4, 2) := dk_21 rfl rfl rfl
theorem dX7_likeliestFrame_74 : decode cX7_likeliestFrame 74 = .ok (.if_icmp .gt 16, 3) := dk_163 rfl rfl rfl (by decide)
theorem dX7_likeliestFrame_77 : decode cX7_likeliestFrame 77 = .ok (.iload 7, 2) := dk_21 rfl rfl rfl
theorem dX7_likeliestFrame_79 : decode cX7_likeliestFrame 79 = .ok (.iload 4, 2) := dk_21 rfl rfl rfl
theorem dX7_likeliestFrame_81 : decode cX7_likeliestFrame 81 = .ok (.if_icmp .ne 16, 3) := dk_160 rfl rfl rfl (by decide)
theorem dX7_likeliestFrame_84 : decode cX7_likeliestFrame 84 = .ok (.iload 6, 2) := dk_21 rfl rfl rfl
theorem dX7_likeliestFrame_86 : decode cX7_likeliestFrame 86 = .ok (.iload_n 3, 1) := dk_29 rfl
theorem dX7_likeliestFrame_87 : decode cX7_likeliestFrame 87 = .ok (.if_icmp .ge 10, 3) := dk_162 rfl rfl rfl (by decide)
theorem dX7_likeliestFrame_90 : decode cX7_likeliestFrame 90 = .ok (.iload 7, 2) := dk_21 rfl rfl rfl
theorem dX7_likeliestFrame_92 : decode cX7_likeliestFrame 92 = .ok (.istore 4, 2) := dk_54 rfl rfl rfl
theorem dX7_likeliestFrame_94 : decode cX7_likeliestFrame 94 = .ok (.iload 6, 2) := dk_21 rfl rfl rfl
theorem dX7_likeliestFrame_96 : decode cX7_likeliestFrame 96 = .ok (.istore_n 3, 1) := dk_62 rfl
theorem dX7_likeliestFrame_97 : decode cX7_likeliestFrame 97 = .ok (.iinc 5 1, 3) := by decide +kernel
theorem dX7_likeliestFrame_100 : decode cX7_likeliestFrame 100 = .ok (.goto (-78), 3) := by decide +kernel
theorem dX7_likeliestFrame_103 : decode cX7_likeliestFrame 103 = .ok (.iload_n 3, 1) := by decide +kernel
theorem dX7_likeliestFrame_104 : decode cX7_likeliestFrame 104 = .ok (.ireturn, 1) := by decide +kernel
set_option maxHeartbeats 4000000 in
set_option maxRecDepth 100000 in
theorem s_likeliest (l : Launch) (g : Gx) (h0 : Nat) (tw : Nat) (p0 : Int32) (xr : Nat) (xm : Nat) (v2h0 : Value) (v3h0 : Value) (xmd : Int32) (xtr : Int32) (xrc : Nat) (xrn : Int32) (xrf : Nat → Int32) (xmc : Nat) (xmn : Int32) (xmf : Nat → Int32) (twc : Nat) (twn : Int32) (twf : Nat → Int32) : cI l g yX7_likeliestFrame cX7_likeliestFrame 8 (some .int) 2 48 0 0 [.ref h0, .ref tw, .int p0] [(cO7_rrvvii h0 xr xm v2h0 v3h0 xmd xtr), (cO8_iiri xr 8 3 xrc xrn), (cAI g xrc 24 xrf), (cO8_iiri xm 12 3 xmc xmn), (cAI g xmc 36 xmf), (cO8_iiri tw 4 1 twc twn), (cAI g twc 4 twf)] (fun r w => w = [(cO7_rrvvii h0 xr xm v2h0 v3h0 xmd xtr), (cO8_iiri xr 8 3 xrc xrn), (cAI g xrc 24 xrf), (cO8_iiri xm 12 3 xmc xmn), (cAI g xmc 36 xmf), (cO8_iiri tw 4 1 twc twn), (cAI g twc 4 twf)]) := by
  refine cI.of (by decide) (Nat.le_of_ble_eq_true rfl) ?_
  intro p e s m args below meth c A X hr hi
  refine k_lveq [(0, .ref h0), (1, .ref tw), (2, .int p0)] rfl ?_
  refine k_aload_n X dX7_likeliestFrame_0 0 rfl ?_
  refine k_get (ci := 7) X inlX7 rfl 0 (by decide) dX7_likeliestFrame_1 mw90 0 rfl rfl ?_
  refine k_iload_n X dX7_likeliestFrame_4 2 rfl ?_
  refine k_iconst (v := 1) X dX7_likeliestFrame_5 (by decide) ?_
  refine k_callVI (n := 2) (As := [.int p0, .int 1]) (st := []) X [(cO8_iiri xr 8 3 xrc xrn), (cAI g xrc 24 xrf)] [(cO7_rrvvii h0 xr xm v2h0 v3h0 xmd xtr), (cO8_iiri xm 12 3 xmc xmn), (cAI g xmc 36 xmf), (cO8_iiri tw 4 1 twc twn), (cAI g twc 4 twf)] [1, 2] [0, 3, 4, 5, 6] (t_at l g xr p0 1 8 3 xrc xrn 24 xrf (tbk_8_3)) dX7_likeliestFrame_6 mw388 mw376 mw377 mw64 mw378 rfl 8 rfl rfl 0 _ rfl yk_yX8_at_2 rfl (Nat.le_of_ble_eq_true rfl) (Nat.le_of_ble_eq_true rfl) (Nat.le_of_ble_eq_true rfl) (Nat.le_of_ble_eq_true rfl) (Nat.le_of_ble_eq_true rfl) rfl rfl (by decide) rfl (by decide) (by decide) ?_
  rintro r_1 w ⟨hr_2, rfl⟩
  refine k_ws [(cO7_rrvvii h0 xr xm v2h0 v3h0 xmd xtr), (cO8_iiri xm 12 3 xmc xmn), (cAI g xmc 36 xmf), (cO8_iiri tw 4 1 twc twn), (cAI g twc 4 twf), (cO8_iiri xr 8 3 xrc xrn), (cAI g xrc 24 xrf)] rfl ?_
  refine k_istore_n [(3, .int r_1), (0, .ref h0), (1, .ref tw), (2, .int p0)] X dX7_likeliestFrame_9 (by decide) rfl ?_
  refine k_aload_n X dX7_likeliestFrame_10 1 rfl ?_
  refine k_aload_n X dX7_likeliestFrame_11 2 rfl ?_
  refine k_iload_n X dX7_likeliestFrame_12 3 rfl ?_
  refine k_iload_n X dX7_likeliestFrame_13 0 rfl ?_
  refine k_callVI (n := 3) (As := [.ref tw, .int p0, .int r_1]) (st := []) X [(cO7_rrvvii h0 xr xm v2h0 v3h0 xmd xtr), (cO8_iiri xm 12 3 xmc xmn), (cAI g xmc 36 xmf), (cO8_iiri tw 4 1 twc twn), (cAI g twc 4 twf)] [(cO8_iiri xr 8 3 xrc xrn), (cAI g xrc 24 xrf)] [0, 1, 2, 3, 4] [5, 6] (s_weight l g h0 tw p0 r_1 (.ref xr) xm v2h0 v3h0 xmd xtr xmc xmn xmf twc twn twf) dX7_likeliestFrame_14 mw1136 mw1126 mw1127 mw23 mw1128 rfl 7 rfl rfl 0 _ rfl yk_yX7_weight_3 rfl (Nat.le_of_ble_eq_true rfl) (Nat.le_of_ble_eq_true rfl) (Nat.le_of_ble_eq_true rfl) (Nat.le_of_ble_eq_true rfl) (Nat.le_of_ble_eq_true rfl) rfl rfl (by decide) rfl (by decide) (by decide) ?_
  rintro r_3 w rfl
  refine k_ws [(cO8_iiri xr 8 3 xrc xrn), (cAI g xrc 24 xrf), (cO7_rrvvii h0 xr xm v2h0 v3h0 xmd xtr), (cO8_iiri xm 12 3 xmc xmn), (cAI g xmc 36 xmf), (cO8_iiri tw 4 1 twc twn), (cAI g twc 4 twf)] rfl ?_
  refine k_istore [(4, .int r_3), (3, .int r_1), (0, .ref h0), (1, .ref tw), (2, .int p0)] X dX7_likeliestFrame_17 (by decide) rfl ?_
  refine k_iconst (v := 0) X dX7_likeliestFrame_19 (by decide) ?_
  refine k_istore [(5, .int 0), (4, .int r_3), (3, .int r_1), (0, .ref h0), (1, .ref tw), (2, .int p0)] X dX7_likeliestFrame_20 (by decide) rfl ?_
  refine (fun hL : ∀ (nn_8 : Nat) (u_5 : Int32) (u_6 : Int32) (u_7 : Int32), (xmn.toInt - u_5.toInt).toNat = nn_8 → Wk p l e _ s m args below meth c _ A g _ _ _ [(cO8_iiri xr 8 3 xrc xrn), (cAI g xrc 24 xrf), (cO7_rrvvii h0 xr xm v2h0 v3h0 xmd xtr), (cO8_iiri xm 12 3 xmc xmn), (cAI g xmc 36 xmf), (cO8_iiri tw 4 1 twc twn), (cAI g twc 4 twf)] [(5, .int u_5), (4, .int u_6), (3, .int u_7), (0, .ref h0), (1, .ref tw), (2, .int p0)] 22 [] => hL _ 0 r_3 r_1 rfl ) ?_
  refine fun nn_8 => Nat.strongRecOn nn_8 (fun nn_8 ih_10 => ?_)
  intro u_5 u_6 u_7 hm_9 
  refine k_iload X dX7_likeliestFrame_22 0 rfl ?_
  refine k_aload_n X dX7_likeliestFrame_24 3 rfl ?_
  refine k_get (ci := 7) X inlX7 rfl 1 (by decide) dX7_likeliestFrame_25 mw91 2 rfl rfl ?_
  refine k_get (ci := 8) X inlX8 rfl 3 (by decide) dX7_likeliestFrame_28 mw387 3 rfl rfl ?_
  refine k_ic_ge 103 X dX7_likeliestFrame_31 (by decide) (fun h_11 => ?_) (fun h_11 => ?_)
  · skip
    refine k_iload_n X dX7_likeliestFrame_103 2 rfl ?_
    exact k_iret X hr dX7_likeliestFrame_104 (Nat.le_of_ble_eq_true rfl) (Nat.le_of_ble_eq_true rfl) [2, 0, 1, 3, 4, 5, 6] (by decide) rfl rfl rfl
  · skip
    refine k_aload_n X dX7_likeliestFrame_34 3 rfl ?_
    refine k_get (ci := 7) X inlX7 rfl 1 (by decide) dX7_likeliestFrame_35 mw91 2 rfl rfl ?_
    refine k_iload X dX7_likeliestFrame_38 0 rfl ?_
    refine k_iconst (v := 0) X dX7_likeliestFrame_40 (by decide) ?_
    refine k_callVI (n := 2) (As := [.int u_5, .int 0]) (st := []) X [(cO8_iiri xm 12 3 xmc xmn), (cAI g xmc 36 xmf)] [(cO8_iiri xr 8 3 xrc xrn), (cAI g xrc 24 xrf), (cO7_rrvvii h0 xr xm v2h0 v3h0 xmd xtr), (cO8_iiri tw 4 1 twc twn), (cAI g twc 4 twf)] [3, 4] [0, 1, 2, 5, 6] (t_at l g xm u_5 0 12 3 xmc xmn 36 xmf (tbk_12_3)) dX7_likeliestFrame_41 mw388 mw376 mw377 mw64 mw378 rfl 8 rfl rfl 0 _ rfl yk_yX8_at_2 rfl (Nat.le_of_ble_eq_true rfl) (Nat.le_of_ble_eq_true rfl) (Nat.le_of_ble_eq_true rfl) (Nat.le_of_ble_eq_true rfl) (Nat.le_of_ble_eq_true rfl) rfl rfl (by decide) rfl (by decide) (by decide) ?_
    rintro r_12 w ⟨hr_13, rfl⟩
    refine k_ws [(cO8_iiri xr 8 3 xrc xrn), (cAI g xrc 24 xrf), (cO7_rrvvii h0 xr xm v2h0 v3h0 xmd xtr), (cO8_iiri tw 4 1 twc twn), (cAI g twc 4 twf), (cO8_iiri xm 12 3 xmc xmn), (cAI g xmc 36 xmf)] rfl ?_
    refine k_iload_n X dX7_likeliestFrame_44 5 rfl ?_
    refine k_ic_ne 97 X dX7_likeliestFrame_45 (by decide) (fun h_14 => ?_) (fun h_14 => ?_)
    · skip
      obtain ⟨z_15, ez_15⟩ : ∃ y : Int32, u_5 + Int32.ofInt 1 = y := ⟨_, rfl⟩
      refine k_iinc z_15 [(5, .int z_15), (4, .int u_6), (3, .int u_7), (0, .ref h0), (1, .ref tw), (2, .int p0)] 0 X dX7_likeliestFrame_97 rfl ez_15 (by decide) rfl ?_
      refine k_goto 22 X dX7_likeliestFrame_100 (by decide) ?_
      refine k_sub [(cO8_iiri xr 8 3 xrc xrn), (cAI g xrc 24 xrf), (cO7_rrvvii h0 xr xm v2h0 v3h0 xmd xtr), (cO8_iiri xm 12 3 xmc xmn), (cAI g xmc 36 xmf), (cO8_iiri tw 4 1 twc twn), (cAI g twc 4 twf)] [0, 1, 2, 5, 6, 3, 4] rfl (by decide) rfl ?_
      exact ih_10 _ (by rw [← hm_9]; exact mu_lt (by assumption) (by assumption)) z_15 u_6 u_7 rfl 
    · skip
      refine k_aload_n X dX7_likeliestFrame_48 3 rfl ?_
      refine k_get (ci := 7) X inlX7 rfl 1 (by decide) dX7_likeliestFrame_49 mw91 2 rfl rfl ?_
      refine k_iload X dX7_likeliestFrame_52 0 rfl ?_
      refine k_iconst (v := 1) X dX7_likeliestFrame_54 (by decide) ?_
      refine k_callVI (n := 2) (As := [.int u_5, .int 1]) (st := []) X [(cO8_iiri xm 12 3 xmc xmn), (cAI g xmc 36 xmf)] [(cO8_iiri xr 8 3 xrc xrn), (cAI g xrc 24 xrf), (cO7_rrvvii h0 xr xm v2h0 v3h0 xmd xtr), (cO8_iiri tw 4 1 twc twn), (cAI g twc 4 twf)] [5, 6] [0, 1, 2, 3, 4] (t_at l g xm u_5 1 12 3 xmc xmn 36 xmf (tbk_12_3)) dX7_likeliestFrame_55 mw388 mw376 mw377 mw64 mw378 rfl 8 rfl rfl 0 _ rfl yk_yX8_at_2 rfl (Nat.le_of_ble_eq_true rfl) (Nat.le_of_ble_eq_true rfl) (Nat.le_of_ble_eq_true rfl) (Nat.le_of_ble_eq_true rfl) (Nat.le_of_ble_eq_true rfl) rfl rfl (by decide) rfl (by decide) (by decide) ?_
      rintro r_16 w ⟨hr_17, rfl⟩
      refine k_ws [(cO8_iiri xr 8 3 xrc xrn), (cAI g xrc 24 xrf), (cO7_rrvvii h0 xr xm v2h0 v3h0 xmd xtr), (cO8_iiri tw 4 1 twc twn), (cAI g twc 4 twf), (cO8_iiri xm 12 3 xmc xmn), (cAI g xmc 36 xmf)] rfl ?_
      refine k_istore [(6, .int r_16), (5, .int u_5), (4, .int u_6), (3, .int u_7), (0, .ref h0), (1, .ref tw), (2, .int p0)] X dX7_likeliestFrame_58 (by decide) rfl ?_
      refine k_aload_n X dX7_likeliestFrame_60 4 rfl ?_
      refine k_aload_n X dX7_likeliestFrame_61 5 rfl ?_
      refine k_iload_n X dX7_likeliestFrame_62 6 rfl ?_
      refine k_iload X dX7_likeliestFrame_63 0 rfl ?_
      refine k_callVI (n := 3) (As := [.ref tw, .int p0, .int r_16]) (st := []) X [(cO7_rrvvii h0 xr xm v2h0 v3h0 xmd xtr), (cO8_iiri xm 12 3 xmc xmn), (cAI g xmc 36 xmf), (cO8_iiri tw 4 1 twc twn), (cAI g twc 4 twf)] [(cO8_iiri xr 8 3 xrc xrn), (cAI g xrc 24 xrf)] [2, 5, 6, 3, 4] [0, 1] (s_weight l g h0 tw p0 r_16 (.ref xr) xm v2h0 v3h0 xmd xtr xmc xmn xmf twc twn twf) dX7_likeliestFrame_65 mw1136 mw1126 mw1127 mw23 mw1128 rfl 7 rfl rfl 0 _ rfl yk_yX7_weight_3 rfl (Nat.le_of_ble_eq_true rfl) (Nat.le_of_ble_eq_true rfl) (Nat.le_of_ble_eq_true rfl) (Nat.le_of_ble_eq_true rfl) (Nat.le_of_ble_eq_true rfl) rfl rfl (by decide) rfl (by decide) (by decide) ?_
      rintro r_18 w rfl
      refine k_ws [(cO8_iiri xr 8 3 xrc xrn), (cAI g xrc 24 xrf), (cO7_rrvvii h0 xr xm v2h0 v3h0 xmd xtr), (cO8_iiri xm 12 3 xmc xmn), (cAI g xmc 36 xmf), (cO8_iiri tw 4 1 twc twn), (cAI g twc 4 twf)] rfl ?_
      refine k_istore [(7, .int r_18), (6, .int r_16), (5, .int u_5), (4, .int u_6), (3, .int u_7), (0, .ref h0), (1, .ref tw), (2, .int p0)] X dX7_likeliestFrame_68 (by decide) rfl ?_
      refine k_iload X dX7_likeliestFrame_70 0 rfl ?_
      refine k_iload X dX7_likeliestFrame_72 3 rfl ?_
      refine k_ic_gt 90 X dX7_likeliestFrame_74 (by decide) (fun h_20 => ?_) (fun h_20 => ?_)
      · skip
        refine k_iload X dX7_likeliestFrame_90 0 rfl ?_
        refine k_istore [(4, .int r_18), (7, .int r_18), (6, .int r_16), (5, .int u_5), (3, .int u_7), (0, .ref h0), (1, .ref tw), (2, .int p0)] X dX7_likeliestFrame_92 (by decide) rfl ?_
        refine k_iload X dX7_likeliestFrame_94 2 rfl ?_
        refine k_istore_n [(3, .int r_16), (4, .int r_18), (7, .int r_18), (6, .int r_16), (5, .int u_5), (0, .ref h0), (1, .ref tw), (2, .int p0)] X dX7_likeliestFrame_96 (by decide) rfl ?_
        obtain ⟨z_21, ez_21⟩ : ∃ y : Int32, u_5 + Int32.ofInt 1 = y := ⟨_, rfl⟩
        refine k_iinc z_21 [(5, .int z_21), (3, .int r_16), (4, .int r_18), (7, .int r_18), (6, .int r_16), (0, .ref h0), (1, .ref tw), (2, .int p0)] 4 X dX7_likeliestFrame_97 rfl ez_21 (by decide) rfl ?_
        refine k_goto 22 X dX7_likeliestFrame_100 (by decide) ?_
        refine k_lv [(5, .int z_21), (4, .int r_18), (3, .int r_16), (0, .ref h0), (1, .ref tw), (2, .int p0)] [0, 2, 1, 5, 6, 7] rfl ?_
        exact ih_10 _ (by rw [← hm_9]; exact mu_lt (by assumption) (by assumption)) z_21 r_18 r_16 rfl 
      · skip
        refine k_iload X dX7_likeliestFrame_77 0 rfl ?_
        refine k_iload X dX7_likeliestFrame_79 3 rfl ?_
        refine k_ic_ne 97 X dX7_likeliestFrame_81 (by decide) (fun h_22 => ?_) (fun h_22 => ?_)
        · skip
          obtain ⟨z_23, ez_23⟩ : ∃ y : Int32, u_5 + Int32.ofInt 1 = y := ⟨_, rfl⟩
          refine k_iinc z_23 [(5, .int z_23), (7, .int r_18), (6, .int r_16), (4, .int u_6), (3, .int u_7), (0, .ref h0), (1, .ref tw), (2, .int p0)] 2 X dX7_likeliestFrame_97 rfl ez_23 (by decide) rfl ?_
          refine k_goto 22 X dX7_likeliestFrame_100 (by decide) ?_
          refine k_lv [(5, .int z_23), (4, .int u_6), (3, .int u_7), (0, .ref h0), (1, .ref tw), (2, .int p0)] [0, 3, 4, 5, 6, 7] rfl ?_
          exact ih_10 _ (by rw [← hm_9]; exact mu_lt (by assumption) (by assumption)) z_23 u_6 u_7 rfl 
        · skip
          refine k_iload X dX7_likeliestFrame_84 1 rfl ?_
          refine k_iload_n X dX7_likeliestFrame_86 4 rfl ?_
          refine k_ic_ge 97 X dX7_likeliestFrame_87 (by decide) (fun h_24 => ?_) (fun h_24 => ?_)
          · skip
            obtain ⟨z_25, ez_25⟩ : ∃ y : Int32, u_5 + Int32.ofInt 1 = y := ⟨_, rfl⟩
            refine k_iinc z_25 [(5, .int z_25), (7, .int r_18), (6, .int r_16), (4, .int u_6), (3, .int u_7), (0, .ref h0), (1, .ref tw), (2, .int p0)] 2 X dX7_likeliestFrame_97 rfl ez_25 (by decide) rfl ?_
            refine k_goto 22 X dX7_likeliestFrame_100 (by decide) ?_
            refine k_lv [(5, .int z_25), (4, .int u_6), (3, .int u_7), (0, .ref h0), (1, .ref tw), (2, .int p0)] [0, 3, 4, 5, 6, 7] rfl ?_
            exact ih_10 _ (by rw [← hm_9]; exact mu_lt (by assumption) (by assumption)) z_25 u_6 u_7 rfl 
          · skip
            refine k_iload X dX7_likeliestFrame_90 0 rfl ?_
            refine k_istore [(4, .int r_18), (7, .int r_18), (6, .int r_16), (5, .int u_5), (3, .int u_7), (0, .ref h0), (1, .ref tw), (2, .int p0)] X dX7_likeliestFrame_92 (by decide) rfl ?_
            refine k_iload X dX7_likeliestFrame_94 2 rfl ?_
            refine k_istore_n [(3, .int r_16), (4, .int r_18), (7, .int r_18), (6, .int r_16), (5, .int u_5), (0, .ref h0), (1, .ref tw), (2, .int p0)] X dX7_likeliestFrame_96 (by decide) rfl ?_
            obtain ⟨z_26, ez_26⟩ : ∃ y : Int32, u_5 + Int32.ofInt 1 = y := ⟨_, rfl⟩
            refine k_iinc z_26 [(5, .int z_26), (3, .int r_16), (4, .int r_18), (7, .int r_18), (6, .int r_16), (0, .ref h0), (1, .ref tw), (2, .int p0)] 4 X dX7_likeliestFrame_97 rfl ez_26 (by decide) rfl ?_
            refine k_goto 22 X dX7_likeliestFrame_100 (by decide) ?_
            refine k_lv [(5, .int z_26), (4, .int r_18), (3, .int r_16), (0, .ref h0), (1, .ref tw), (2, .int p0)] [0, 2, 1, 5, 6, 7] rfl ?_
            exact ih_10 _ (by rw [← hm_9]; exact mu_lt (by assumption) (by assumption)) z_26 r_18 r_16 rfl 

theorem dX7_sooner_0 : decode cX7_sooner 0 = .ok (.iload_n 0, 1) := dk_26 rfl
theorem dX7_sooner_1 : decode cX7_sooner 1 = .ok (.iload_n 1, 1) := dk_27 rfl
theorem dX7_sooner_2 : decode cX7_sooner 2 = .ok (.if_icmp .lt 13, 3) := dk_161 rfl rfl rfl (by decide)
theorem dX7_sooner_5 : decode cX7_sooner 5 = .ok (.iconst 0, 1) := dk_3 rfl
theorem dX7_sooner_6 : decode cX7_sooner 6 = .ok (.iload_n 0, 1) := dk_26 rfl
theorem dX7_sooner_7 : decode cX7_sooner 7 = .ok (.iconst 2, 1) := dk_5 rfl
theorem dX7_sooner_8 : decode cX7_sooner 8 = .ok (.isub, 1) := dk_100 rfl
theorem dX7_sooner_9 : decode cX7_sooner 9 = .ok (.invokestatic 83, 3) := dk_184 rfl rfl rfl rfl
theorem dX7_sooner_12 : decode cX7_sooner 12 = .ok (.goto 4, 3) := dk_167 rfl rfl rfl (by decide)
theorem dX7_sooner_15 : decode cX7_sooner 15 = .ok (.iload_n 0, 1) := dk_26 rfl
theorem dX7_sooner_16 : decode cX7_sooner 16 = .ok (.istore_n 3, 1) := dk_62 rfl
theorem dX7_sooner_17 : decode cX7_sooner 17 = .ok (.iload_n 3, 1) := dk_29 rfl
theorem dX7_sooner_18 : decode cX7_sooner 18 = .ok (.iload_n 2, 1) := dk_28 rfl
theorem dX7_sooner_19 : decode cX7_sooner 19 = .ok (.invokestatic 86, 3) := dk_184 rfl rfl rfl rfl
theorem dX7_sooner_22 : decode cX7_sooner 22 = .ok (.ireturn, 1) := dk_172 rfl
theorem dX7_pull_0 : decode cX7_pull 0 = .ok (.iconst 0, 1) := dk_3 rfl
theorem dX7_pull_1 : decode cX7_pull 1 = .ok (.istore 4, 2) := dk_54 rfl rfl rfl
theorem dX7_pull_3 : decode cX7_pull 3 = .ok (.iload 4, 2) := dk_21 rfl rfl rfl
theorem dX7_pull_5 : decode cX7_pull 5 = .ok (.aload_n 0, 1) := dk_42 rfl
theorem dX7_pull_6 : decode cX7_pull 6 = .ok (.getfield 51, 3) := dk_180 rfl rfl rfl rfl
theorem dX7_pull_9 : decode cX7_pull 9 = .ok (.if_icmp .ge 39, 3) := dk_162 rfl rfl rfl (by decide)
theorem dX7_pull_12 : decode cX7_pull 12 = .ok (.aload_n 0, 1) := dk_42 rfl
theorem dX7_pull_13 : decode cX7_pull 13 = .ok (.iload 4, 2) := dk_21 rfl rfl rfl
theorem dX7_pull_15 : decode cX7_pull 15 = .ok (.iconst 0, 1) := dk_3 rfl
theorem dX7_pull_16 : decode cX7_pull 16 = .ok (.invokevirtual 43, 3) := dk_182 rfl rfl rfl rfl
theorem dX7_pull_19 : decode cX7_pull 19 = .ok (.iload_n 1, 1) := dk_27 rfl
theorem dX7_pull_20 : decode cX7_pull 20 = .ok (.if_icmp .ne 22, 3) := dk_160 rfl rfl rfl (by decide)
theorem dX7_pull_23 : decode cX7_pull 23 = .ok (.aload_n 0, 1) := dk_42 rfl
theorem dX7_pull_24 : decode cX7_pull 24 = .ok (.iload 4, 2) := dk_21 rfl rfl rfl
theorem dX7_pull_26 : decode cX7_pull 26 = .ok (.iconst 1, 1) := dk_4 rfl
theorem dX7_pull_27 : decode cX7_pull 27 = .ok (.aload_n 0, 1) := dk_42 rfl
theorem dX7_pull_28 : decode cX7_pull 28 = .ok (.iload 4, 2) := dk_21 rfl rfl rfl
theorem dX7_pull_30 : decode cX7_pull 30 = .ok (.iconst 1, 1) := dk_4 rfl
theorem dX7_pull_31 : decode cX7_pull 31 = .ok (.invokevirtual 43, 3) := dk_182 rfl rfl rfl rfl
theorem dX7_pull_34 : decode cX7_pull 34 = .ok (.iload_n 2, 1) := dk_28 rfl
theorem dX7_pull_35 : decode cX7_pull 35 = .ok (.iload_n 3, 1) := dk_29 rfl
theorem dX7_pull_36 : decode cX7_pull 36 = .ok (.invokestatic 75, 3) := dk_184 rfl rfl rfl rfl
theorem dX7_pull_39 : decode cX7_pull 39 = .ok (.invokevirtual 71, 3) := dk_182 rfl rfl rfl rfl
theorem dX7_pull_42 : decode cX7_pull 42 = .ok (.iinc 4 1, 3) := dk_132 rfl rfl rfl rfl (by decide)
theorem dX7_pull_45 : decode cX7_pull 45 = .ok (.goto (-42), 3) := dk_167 rfl rfl rfl (by decide)
theorem dX7_pull_48 : decode cX7_pull 48 = .ok (.return_, 1) := dk_177 rfl
theorem dX7_cutOut_0 : decode cX7_cutOut 0 = .ok (.aload_n 0, 1) := dk_42 rfl
theorem dX7_cutOut_1 : decode cX7_cutOut 1 = .ok (.getfield 23, 3) := dk_180 rfl rfl rfl rfl
theorem dX7_cutOut_4 : decode cX7_cutOut 4 = .ok (.iload_n 1, 1) := dk_27 rfl
theorem dX7_cutOut_5 : decode cX7_cutOut 5 = .ok (.iconst 0, 1) := dk_3 rfl
theorem dX7_cutOut_6 : decode cX7_cutOut 6 = .ok (.invokevirtual 43, 3) := dk_182 rfl rfl rfl rfl
theorem dX7_cutOut_9 : decode cX7_cutOut 9 = .ok (.istore_n 2, 1) := dk_61 rfl
theorem dX7_cutOut_10 : decode cX7_cutOut 10 = .ok (.aload_n 0, 1) := dk_42 rfl
theorem dX7_cutOut_11 : decode cX7_cutOut 11 = .ok (.getfield 23, 3) := dk_180 rfl rfl rfl rfl
theorem dX7_cutOut_14 : decode cX7_cutOut 14 = .ok (.iload_n 1, 1) := dk_27 rfl
theorem dX7_cutOut_15 : decode cX7_cutOut 15 = .ok (.iconst 1, 1) := dk_4 rfl
theorem dX7_cutOut_16 : decode cX7_cutOut 16 = .ok (.invokevirtual 43, 3) := dk_182 rfl rfl rfl rfl
theorem dX7_cutOut_19 : decode cX7_cutOut 19 = .ok (.istore_n 3, 1) := dk_62 rfl
theorem dX7_cutOut_20 : decode cX7_cutOut 20 = .ok (.aload_n 0, 1) := dk_42 rfl
theorem dX7_cutOut_21 : decode cX7_cutOut 21 = .ok (.getfield 14, 3) := dk_180 rfl rfl rfl rfl
theorem dX7_cutOut_24 : decode cX7_cutOut 24 = .ok (.iload_n 2, 1) := dk_28 rfl
theorem dX7_cutOut_25 : decode cX7_cutOut 25 = .ok (.iconst 0, 1) := dk_3 rfl
theorem dX7_cutOut_26 : decode cX7_cutOut 26 = .ok (.invokevirtual 43, 3) := dk_182 rfl rfl rfl rfl
theorem dX7_cutOut_29 : decode cX7_cutOut 29 = .ok (.iconst 2, 1) := dk_5 rfl
theorem dX7_cutOut_30 : decode cX7_cutOut 30 = .ok (.isub, 1) := dk_100 rfl
theorem dX7_cutOut_31 : decode cX7_cutOut 31 = .ok (.iconst 1, 1) := dk_4 rfl
theorem dX7_cutOut_32 : decode cX7_cutOut 32 = .ok (.isub, 1) := dk_100 rfl
theorem dX7_cutOut_33 : decode cX7_cutOut 33 = .ok (.istore 4, 2) := dk_54 rfl rfl rfl
theorem dX7_cutOut_35 : decode cX7_cutOut 35 = .ok (.aload_n 0, 1) := dk_42 rfl
theorem dX7_cutOut_36 : decode cX7_cutOut 36 = .ok (.getfield 14, 3) := dk_180 rfl rfl rfl rfl
theorem dX7_cutOut_39 : decode cX7_cutOut 39 = .ok (.iload_n 2, 1) := dk_28 rfl
theorem dX7_cutOut_40 : decode cX7_cutOut 40 = .ok (.iconst 0, 1) := dk_3 rfl
theorem dX7_cutOut_41 : decode cX7_cutOut 41 = .ok (.iload 4, 2) := dk_21 rfl rfl rfl
theorem dX7_cutOut_43 : decode cX7_cutOut 43 = .ok (.iconst 1, 1) := dk_4 rfl
theorem dX7_cutOut_44 : decode cX7_cutOut 44 = .ok (.iadd, 1) := dk_96 rfl
theorem dX7_cutOut_45 : decode cX7_cutOut 45 = .ok (.invokevirtual 71, 3) := dk_182 rfl rfl rfl rfl
theorem dX7_cutOut_48 : decode cX7_cutOut 48 = .ok (.aload_n 0, 1) := dk_42 rfl
theorem dX7_cutOut_49 : decode cX7_cutOut 49 = .ok (.getfield 14, 3) := dk_180 rfl rfl rfl rfl
theorem dX7_cutOut_52 : decode cX7_cutOut 52 = .ok (.iload_n 2, 1) := dk_28 rfl
theorem dX7_cutOut_53 : decode cX7_cutOut 53 = .ok (.iconst 1, 1) := dk_4 rfl
theorem dX7_cutOut_54 : decode cX7_cutOut 54 = .ok (.aload_n 0, 1) := dk_42 rfl
theorem dX7_cutOut_55 : decode cX7_cutOut 55 = .ok (.getfield 14, 3) := dk_180 rfl rfl rfl rfl
theorem dX7_cutOut_58 : decode cX7_cutOut 58 = .ok (.iload_n 2, 1) := dk_28 rfl
theorem dX7_cutOut_59 : decode cX7_cutOut 59 = .ok (.iconst 1, 1) := dk_4 rfl
theorem dX7_cutOut_60 : decode cX7_cutOut 60 = .ok (.invokevirtual 43, 3) := dk_182 rfl rfl rfl rfl
theorem dX7_cutOut_63 : decode cX7_cutOut 63 = .ok (.iload_n 3, 1) := dk_29 rfl
theorem dX7_cutOut_64 : decode cX7_cutOut 64 = .ok (.iload 4, 2) := dk_21 rfl rfl rfl
theorem dX7_cutOut_66 : decode cX7_cutOut 66 = .ok (.invokestatic 75, 3) := dk_184 rfl rfl rfl rfl
theorem dX7_cutOut_69 : decode cX7_cutOut 69 = .ok (.invokevirtual 71, 3) := dk_182 rfl rfl rfl rfl
theorem dX7_cutOut_72 : decode cX7_cutOut 72 = .ok (.aload_n 0, 1) := dk_42 rfl
theorem dX7_cutOut_73 : decode cX7_cutOut 73 = .ok (.getfield 20, 3) := dk_180 rfl rfl rfl rfl
theorem dX7_cutOut_76 : decode cX7_cutOut 76 = .ok (.iload_n 2, 1) := dk_28 rfl
theorem dX7_cutOut_77 : decode cX7_cutOut 77 = .ok (.iload_n 3, 1) := dk_29 rfl
theorem dX7_cutOut_78 : decode cX7_cutOut 78 = .ok (.iload 4, 2) := dk_21 rfl rfl rfl
theorem dX7_cutOut_80 : decode cX7_cutOut 80 = .ok (.invokestatic 79, 3) := dk_184 rfl rfl rfl rfl
theorem dX7_cutOut_83 : decode cX7_cutOut 83 = .ok (.aload_n 0, 1) := dk_42 rfl
theorem dX7_cutOut_84 : decode cX7_cutOut 84 = .ok (.getfield 23, 3) := dk_180 rfl rfl rfl rfl
theorem dX7_cutOut_87 : decode cX7_cutOut 87 = .ok (.iload_n 2, 1) := dk_28 rfl
theorem dX7_cutOut_88 : decode cX7_cutOut 88 = .ok (.iload_n 3, 1) := dk_29 rfl
theorem dX7_cutOut_89 : decode cX7_cutOut 89 = .ok (.iload 4, 2) := dk_21 rfl rfl rfl
theorem dX7_cutOut_91 : decode cX7_cutOut 91 = .ok (.invokestatic 79, 3) := dk_184 rfl rfl rfl rfl
theorem dX7_cutOut_94 : decode cX7_cutOut 94 = .ok (.aload_n 0, 1) := dk_42 rfl
theorem dX7_cutOut_95 : decode cX7_cutOut 95 = .ok (.dup, 1) := dk_89 rfl
theorem dX7_cutOut_96 : decode cX7_cutOut 96 = .ok (.getfield 29, 3) := dk_180 rfl rfl rfl rfl
theorem dX7_cutOut_99 : decode cX7_cutOut 99 = .ok (.iconst 1, 1) := by decide +kernel
theorem dX7_cutOut_100 : decode cX7_cutOut 100 = .ok (.iload_n 1, 1) := by decide +kernel
theorem dX7_cutOut_101 : decode cX7_cutOut 101 = .ok (.ishl, 1) := by decide +kernel
theorem dX7_cutOut_102 : decode cX7_cutOut 102 = .ok (.ior, 1) := by decide +kernel
theorem dX7_cutOut_103 : decode cX7_cutOut 103 = .ok (.putfield 29, 3) := by decide +kernel
theorem dX7_cutOut_106 : decode cX7_cutOut 106 = .ok (.return_, 1) := by decide +kernel
theorem dX7_clear_0 : decode cX7_clear 0 = .ok (.aload_n 0, 1) := dk_42 rfl
theorem dX7_clear_1 : decode cX7_clear 1 = .ok (.getfield 14, 3) := dk_180 rfl rfl rfl rfl
theorem dX7_clear_4 : decode cX7_clear 4 = .ok (.invokevirtual 36, 3) := dk_182 rfl rfl rfl rfl
theorem dX7_clear_7 : decode cX7_clear 7 = .ok (.aload_n 0, 1) := dk_42 rfl
theorem dX7_clear_8 : decode cX7_clear 8 = .ok (.getfield 20, 3) := dk_180 rfl rfl rfl rfl
theorem dX7_clear_11 : decode cX7_clear 11 = .ok (.invokevirtual 36, 3) := dk_182 rfl rfl rfl rfl
theorem dX7_clear_14 : decode cX7_clear 14 = .ok (.aload_n 0, 1) := dk_42 rfl
theorem dX7_clear_15 : decode cX7_clear 15 = .ok (.getfield 23, 3) := dk_180 rfl rfl rfl rfl
theorem dX7_clear_18 : decode cX7_clear 18 = .ok (.invokevirtual 36, 3) := dk_182 rfl rfl rfl rfl
theorem dX7_clear_21 : decode cX7_clear 21 = .ok (.aload_n 0, 1) := dk_42 rfl
theorem dX7_clear_22 : decode cX7_clear 22 = .ok (.getfield 26, 3) := dk_180 rfl rfl rfl rfl
theorem dX7_clear_25 : decode cX7_clear 25 = .ok (.invokevirtual 36, 3) := dk_182 rfl rfl rfl rfl
theorem dX7_clear_28 : decode cX7_clear 28 = .ok (.aload_n 0, 1) := dk_42 rfl
theorem dX7_clear_29 : decode cX7_clear 29 = .ok (.iconst 0, 1) := dk_3 rfl
theorem dX7_clear_30 : decode cX7_clear 30 = .ok (.putfield 29, 3) := dk_181 rfl rfl rfl rfl
theorem dX7_clear_33 : decode cX7_clear 33 = .ok (.aload_n 0, 1) := dk_42 rfl
theorem dX7_clear_34 : decode cX7_clear 34 = .ok (.iconst 0, 1) := dk_3 rfl
theorem dX7_clear_35 : decode cX7_clear 35 = .ok (.putfield 33, 3) := dk_181 rfl rfl rfl rfl
theorem dX7_clear_38 : decode cX7_clear 38 = .ok (.return_, 1) := dk_177 rfl
theorem dX7_copyFrom_0 : decode cX7_copyFrom 0 = .ok (.aload_n 1, 1) := dk_43 rfl
theorem dX7_copyFrom_1 : decode cX7_copyFrom 1 = .ok (.ifnonnull 4, 3) := dk_199 rfl rfl rfl (by decide)
theorem dX7_copyFrom_5 : decode cX7_copyFrom 5 = .ok (.aload_n 0, 1) := dk_42 rfl
theorem dX7_copyFrom_6 : decode cX7_copyFrom 6 = .ok (.getfield 14, 3) := dk_180 rfl rfl rfl rfl
theorem dX7_copyFrom_9 : decode cX7_copyFrom 9 = .ok (.aload_n 1, 1) := dk_43 rfl
theorem dX7_copyFrom_10 : decode cX7_copyFrom 10 = .ok (.getfield 14, 3) := dk_180 rfl rfl rfl rfl
theorem dX7_copyFrom_13 : decode cX7_copyFrom 13 = .ok (.invokevirtual 39, 3) := dk_182 rfl rfl rfl rfl
theorem dX7_copyFrom_16 : decode cX7_copyFrom 16 = .ok (.aload_n 0, 1) := dk_42 rfl
theorem dX7_copyFrom_17 : decode cX7_copyFrom 17 = .ok (.getfield 20, 3) := dk_180 rfl rfl rfl rfl
theorem dX7_copyFrom_20 : decode cX7_copyFrom 20 = .ok (.aload_n 1, 1) := dk_43 rfl
theorem dX7_copyFrom_21 : decode cX7_copyFrom 21 = .ok (.getfield 20, 3) := dk_180 rfl rfl rfl rfl
theorem dX7_copyFrom_24 : decode cX7_copyFrom 24 = .ok (.invokevirtual 39, 3) := dk_182 rfl rfl rfl rfl
theorem dX7_copyFrom_27 : decode cX7_copyFrom 27 = .ok (.aload_n 0, 1) := dk_42 rfl
theorem dX7_copyFrom_28 : decode cX7_copyFrom 28 = .ok (.getfield 23, 3) := dk_180 rfl rfl rfl rfl
theorem dX7_copyFrom_31 : decode cX7_copyFrom 31 = .ok (.aload_n 1, 1) := dk_43 rfl
theorem dX7_copyFrom_32 : decode cX7_copyFrom 32 = .ok (.getfield 23, 3) := dk_180 rfl rfl rfl rfl
theorem dX7_copyFrom_35 : decode cX7_copyFrom 35 = .ok (.invokevirtual 39, 3) := dk_182 rfl rfl rfl rfl
theorem dX7_copyFrom_38 : decode cX7_copyFrom 38 = .ok (.aload_n 0, 1) := dk_42 rfl
theorem dX7_copyFrom_39 : decode cX7_copyFrom 39 = .ok (.getfield 26, 3) := dk_180 rfl rfl rfl rfl
theorem dX7_copyFrom_42 : decode cX7_copyFrom 42 = .ok (.aload_n 1, 1) := dk_43 rfl
theorem dX7_copyFrom_43 : decode cX7_copyFrom 43 = .ok (.getfield 26, 3) := dk_180 rfl rfl rfl rfl
theorem dX7_copyFrom_46 : decode cX7_copyFrom 46 = .ok (.invokevirtual 39, 3) := dk_182 rfl rfl rfl rfl
theorem dX7_copyFrom_49 : decode cX7_copyFrom 49 = .ok (.aload_n 0, 1) := dk_42 rfl
theorem dX7_copyFrom_50 : decode cX7_copyFrom 50 = .ok (.aload_n 1, 1) := dk_43 rfl
theorem dX7_copyFrom_51 : decode cX7_copyFrom 51 = .ok (.getfield 29, 3) := dk_180 rfl rfl rfl rfl
theorem dX7_copyFrom_54 : decode cX7_copyFrom 54 = .ok (.putfield 29, 3) := dk_181 rfl rfl rfl rfl
theorem dX7_copyFrom_57 : decode cX7_copyFrom 57 = .ok (.aload_n 0, 1) := dk_42 rfl
theorem dX7_copyFrom_58 : decode cX7_copyFrom 58 = .ok (.aload_n 1, 1) := dk_43 rfl
theorem dX7_copyFrom_59 : decode cX7_copyFrom 59 = .ok (.getfield 33, 3) := dk_180 rfl rfl rfl rfl
theorem dX7_copyFrom_62 : decode cX7_copyFrom 62 = .ok (.putfield 33, 3) := dk_181 rfl rfl rfl rfl
theorem dX7_copyFrom_65 : decode cX7_copyFrom 65 = .ok (.return_, 1) := dk_177 rfl
