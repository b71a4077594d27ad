theorem dX10_all_0 : decode cX10_all 0 = .ok (.iload_n 2, 1) := dk_28 rfl
theorem dX10_all_1 : decode cX10_all 1 = .ok (.ifCond .lt 16, 3) := dk_155 rfl rfl rfl (by decide)
theorem dX10_all_4 : decode cX10_all 4 = .ok (.iload_n 2, 1) := dk_28 rfl
theorem dX10_all_5 : decode cX10_all 5 = .ok (.iconst 3, 1) := dk_6 rfl
theorem dX10_all_6 : decode cX10_all 6 = .ok (.if_icmp .gt 11, 3) := dk_163 rfl rfl rfl (by decide)
theorem dX10_all_9 : decode cX10_all 9 = .ok (.aload_n 0, 1) := dk_42 rfl
theorem dX10_all_10 : decode cX10_all 10 = .ok (.iload_n 1, 1) := dk_27 rfl
theorem dX10_all_11 : decode cX10_all 11 = .ok (.invokevirtual 163, 3) := dk_182 rfl rfl rfl rfl
theorem dX10_all_14 : decode cX10_all 14 = .ok (.ifCond .ne 9, 3) := dk_154 rfl rfl rfl (by decide)
theorem dX10_all_17 : decode cX10_all 17 = .ok (.aload_n 0, 1) := dk_42 rfl
theorem dX10_all_18 : decode cX10_all 18 = .ok (.iconst 1, 1) := dk_4 rfl
theorem dX10_all_19 : decode cX10_all 19 = .ok (.invokevirtual 83, 3) := dk_182 rfl rfl rfl rfl
theorem dX10_all_22 : decode cX10_all 22 = .ok (.ireturn, 1) := dk_172 rfl
theorem dX10_all_23 : decode cX10_all 23 = .ok (.iload_n 2, 1) := dk_28 rfl
theorem dX10_all_24 : decode cX10_all 24 = .ok (.tableswitch 67 0 2 #[28, 41, 54], 28) := by decide +kernel
theorem dX10_all_52 : decode cX10_all 52 = .ok (.aload_n 0, 1) := dk_42 rfl
theorem dX10_all_53 : decode cX10_all 53 = .ok (.aload_n 0, 1) := dk_42 rfl
theorem dX10_all_54 : decode cX10_all 54 = .ok (.getfield 40, 3) := dk_180 rfl rfl rfl rfl
theorem dX10_all_57 : decode cX10_all 57 = .ok (.iconst 0, 1) := dk_3 rfl
theorem dX10_all_58 : decode cX10_all 58 = .ok (.invokevirtual 170, 3) := dk_182 rfl rfl rfl rfl
theorem dX10_all_61 : decode cX10_all 61 = .ok (.invokevirtual 118, 3) := dk_182 rfl rfl rfl rfl
theorem dX10_all_64 : decode cX10_all 64 = .ok (.ireturn, 1) := dk_172 rfl
theorem dX10_all_65 : decode cX10_all 65 = .ok (.aload_n 0, 1) := dk_42 rfl
theorem dX10_all_66 : decode cX10_all 66 = .ok (.aload_n 0, 1) := dk_42 rfl
theorem dX10_all_67 : decode cX10_all 67 = .ok (.getfield 40, 3) := dk_180 rfl rfl rfl rfl
theorem dX10_all_70 : decode cX10_all 70 = .ok (.iconst 1, 1) := dk_4 rfl
theorem dX10_all_71 : decode cX10_all 71 = .ok (.invokevirtual 170, 3) := dk_182 rfl rfl rfl rfl
theorem dX10_all_74 : decode cX10_all 74 = .ok (.invokevirtual 118, 3) := dk_182 rfl rfl rfl rfl
theorem dX10_all_77 : decode cX10_all 77 = .ok (.ireturn, 1) := dk_172 rfl
theorem dX10_all_78 : decode cX10_all 78 = .ok (.aload_n 0, 1) := dk_42 rfl
theorem dX10_all_79 : decode cX10_all 79 = .ok (.aload_n 0, 1) := dk_42 rfl
theorem dX10_all_80 : decode cX10_all 80 = .ok (.getfield 40, 3) := dk_180 rfl rfl rfl rfl
theorem dX10_all_83 : decode cX10_all 83 = .ok (.iconst 2, 1) := dk_5 rfl
theorem dX10_all_84 : decode cX10_all 84 = .ok (.invokevirtual 170, 3) := dk_182 rfl rfl rfl rfl
theorem dX10_all_87 : decode cX10_all 87 = .ok (.invokevirtual 118, 3) := dk_182 rfl rfl rfl rfl
theorem dX10_all_90 : decode cX10_all 90 = .ok (.ireturn, 1) := dk_172 rfl
theorem dX10_all_91 : decode cX10_all 91 = .ok (.aload_n 0, 1) := dk_42 rfl
theorem dX10_all_92 : decode cX10_all 92 = .ok (.aload_n 0, 1) := dk_42 rfl
theorem dX10_all_93 : decode cX10_all 93 = .ok (.getfield 40, 3) := dk_180 rfl rfl rfl rfl
theorem dX10_all_96 : decode cX10_all 96 = .ok (.iconst 3, 1) := dk_6 rfl
theorem dX10_all_97 : decode cX10_all 97 = .ok (.invokevirtual 170, 3) := by decide +kernel
theorem dX10_all_100 : decode cX10_all 100 = .ok (.invokevirtual 118, 3) := by decide +kernel
theorem dX10_all_103 : decode cX10_all 103 = .ok (.ireturn, 1) := by decide +kernel
set_option maxHeartbeats 4000000 in
set_option maxRecDepth 100000 in
theorem c_all (l : Launch) (g : Gx) (h0 : Nat) (p0 : Int32) (p1 : Int32) (v0h0 : Value) (tl : Nat) (nw : Nat) (v3h0 : Value) (nn : Nat) (v5h0 : Value) (v6h0 : Value) (v7h0 : Value) (v8h0 : Value) (tr : Int32) (nr : Nat) (xsnapped : Int32) (xmostSlip : Int32) (xslip : Int32) (xisDrawn : Int32) (xseed : Int32) (xtick : Int32) (xmotorTick : Int32) (xahead : Int32) (nrc : Nat) (nrn : Int32) (nrf : Nat → Int32) (v0tl : Value) (yhn : Nat) (v2tl : Value) (v3tl : Value) (yhm : Nat) (v5tl : Value) (v6tl : Value) (v7tl : Value) (yhnc : Nat) (yhnn : Int32) (yhnf : Nat → Int32) (yhmc : Nat) (yhmn : Int32) (yhmf : Nat → Int32) (zr : Nat) (zm : Nat) (zw : Nat) (zp : Nat) (zmd : Int32) (ztr : Int32) (zrc : Nat) (zrn : Int32) (zrf : Nat → Int32) (zmc : Nat) (zmn : Int32) (zmf : Nat → Int32) (zwc : Nat) (zwn : Int32) (zwf : Nat → Int32) (zpc : Nat) (zpn : Int32) (zpf : Nat → Int32) (hms : ¬ xmostSlip < 0) : cI l g yX10_all cX10_all 3 (some .int) 5 118 0 0 [.ref h0, .int p0, .int p1] [(cO10_vrrvrvvvvi h0 v0h0 tl nw v3h0 nn v5h0 v6h0 v7h0 v8h0 tr), (cO5_riiiiiiii nn nr xsnapped xmostSlip xslip xisDrawn xseed xtick xmotorTick xahead), (cO8_iiri nr 8 10 nrc nrn), (cAI g nrc 80 nrf), (cO3_vrvvrvvv tl v0tl yhn v2tl v3tl yhm v5tl v6tl v7tl), (cO8_iiri yhn 1 6 yhnc yhnn), (cAI g yhnc 6 yhnf), (cO8_iiri yhm 4 3 yhmc yhmn), (cAI g yhmc 12 yhmf), (cO7_rrrrii nw zr zm zw zp zmd ztr), (cO8_iiri zr 8 3 zrc zrn), (cAI g zrc 24 zrf), (cO8_iiri zm 12 3 zmc zmn), (cAI g zmc 36 zmf), (cO8_iiri zw 6 3 zwc zwn), (cAI g zwc 18 zwf), (cO8_iiri zp 8 2 zpc zpn), (cAI g zpc 16 zpf)] (fun r w => ∃ (tr2 : Int32) (xsnapped2 : Int32) (xmostSlip2 : Int32) (xslip2 : Int32) (xisDrawn2 : Int32) (xseed2 : Int32) (xtick2 : Int32) (xmotorTick2 : Int32) (xahead2 : Int32) (nrg : Nat → Int32) (nrk : Int32), (¬ xmostSlip2 < 0) ∧ w = [(cO10_vrrvrvvvvi h0 v0h0 tl nw v3h0 nn v5h0 v6h0 v7h0 v8h0 tr2), (cO5_riiiiiiii nn nr xsnapped2 xmostSlip2 xslip2 xisDrawn2 xseed2 xtick2 xmotorTick2 xahead2), (cO8_iiri nr 8 10 nrc nrk), (cAI g nrc 80 nrg), (cO3_vrvvrvvv tl v0tl yhn v2tl v3tl yhm v5tl v6tl v7tl), (cO8_iiri yhn 1 6 yhnc yhnn), (cAI g yhnc 6 yhnf), (cO8_iiri yhm 4 3 yhmc yhmn), (cAI g yhmc 12 yhmf), (cO7_rrrrii nw zr zm zw zp zmd ztr), (cO8_iiri zr 8 3 zrc zrn), (cAI g zrc 24 zrf), (cO8_iiri zm 12 3 zmc zmn), (cAI g zmc 36 zmf), (cO8_iiri zw 6 3 zwc zwn), (cAI g zwc 18 zwf), (cO8_iiri zp 8 2 zpc zpn), (cAI g zpc 16 zpf)]) := by
  refine cI.of (by decide) (Nat.le_of_ble_eq_true rfl) ?_
  intro p e s m args below meth c A X hr hi
  refine k_lveq [(0, .ref h0), (1, .int p0), (2, .int p1)] rfl ?_
  refine k_iload_n X dX10_all_0 2 rfl ?_
  refine k_if_lt 17 X dX10_all_1 (by decide) (fun h_1 => ?_) (fun h_1 => ?_)
  · skip
    refine k_aload_n X dX10_all_17 0 rfl ?_
    refine k_iconst (v := 1) X dX10_all_18 (by decide) ?_
    refine k_callVI (n := 1) (As := [.int 1]) (st := []) X [(cO10_vrrvrvvvvi h0 v0h0 tl nw v3h0 nn v5h0 v6h0 v7h0 v8h0 tr)] [(cO5_riiiiiiii nn nr xsnapped xmostSlip xslip xisDrawn xseed xtick xmotorTick xahead), (cO8_iiri nr 8 10 nrc nrn), (cAI g nrc 80 nrf), (cO3_vrvvrvvv tl v0tl yhn v2tl v3tl yhm v5tl v6tl v7tl), (cO8_iiri yhn 1 6 yhnc yhnn), (cAI g yhnc 6 yhnf), (cO8_iiri yhm 4 3 yhmc yhmn), (cAI g yhmc 12 yhmf), (cO7_rrrrii nw zr zm zw zp zmd ztr), (cO8_iiri zr 8 3 zrc zrn), (cAI g zrc 24 zrf), (cO8_iiri zm 12 3 zmc zmn), (cAI g zmc 36 zmf), (cO8_iiri zw 6 3 zwc zwn), (cAI g zwc 18 zwf), (cO8_iiri zp 8 2 zpc zpn), (cAI g zpc 16 zpf)] [0] [1, 2, 3, 4, 5, 6, 7, 8, 9, 10, 11, 12, 13, 14, 15, 16, 17] (c_refuse l g h0 1 v0h0 (.ref tl) (.ref nw) v3h0 (.ref nn) v5h0 v6h0 v7h0 v8h0 tr) dX10_all_19 mw215 mw216 mw217 mw2 mw218 rfl 10 rfl rfl 0 _ rfl yk_yX10_refuse_1 rfl (Nat.le_of_ble_eq_true rfl) (Nat.le_of_ble_eq_true rfl) (Nat.le_of_ble_eq_true rfl) (Nat.le_of_ble_eq_true rfl) (Nat.le_of_ble_eq_true rfl) rfl rfl (by decide +kernel) rfl (by decide +kernel) (by decide +kernel) ?_
    rintro r_3 w ⟨tr2_2, rfl⟩
    refine k_ws [(cO5_riiiiiiii nn nr xsnapped xmostSlip xslip xisDrawn xseed xtick xmotorTick xahead), (cO8_iiri nr 8 10 nrc nrn), (cAI g nrc 80 nrf), (cO3_vrvvrvvv tl v0tl yhn v2tl v3tl yhm v5tl v6tl v7tl), (cO8_iiri yhn 1 6 yhnc yhnn), (cAI g yhnc 6 yhnf), (cO8_iiri yhm 4 3 yhmc yhmn), (cAI g yhmc 12 yhmf), (cO7_rrrrii nw zr zm zw zp zmd ztr), (cO8_iiri zr 8 3 zrc zrn), (cAI g zrc 24 zrf), (cO8_iiri zm 12 3 zmc zmn), (cAI g zmc 36 zmf), (cO8_iiri zw 6 3 zwc zwn), (cAI g zwc 18 zwf), (cO8_iiri zp 8 2 zpc zpn), (cAI g zpc 16 zpf), (cO10_vrrvrvvvvi h0 v0h0 tl nw v3h0 nn v5h0 v6h0 v7h0 v8h0 tr2_2)] rfl ?_
    exact k_iret X hr dX10_all_22 (Nat.le_of_ble_eq_true rfl) (Nat.le_of_ble_eq_true rfl) [17, 0, 1, 2, 3, 4, 5, 6, 7, 8, 9, 10, 11, 12, 13, 14, 15, 16] (by decide) rfl rfl ⟨tr2_2, xsnapped, xmostSlip, xslip, xisDrawn, xseed, xtick, xmotorTick, xahead, nrf, nrn, (by assumption), rfl⟩
  · skip
    refine k_iload_n X dX10_all_4 2 rfl ?_
    refine k_iconst (v := 3) X dX10_all_5 (by decide) ?_
    refine k_ic_gt 17 X dX10_all_6 (by decide) (fun h_5 => ?_) (fun h_5 => ?_)
    · skip
      refine k_aload_n X dX10_all_17 0 rfl ?_
      refine k_iconst (v := 1) X dX10_all_18 (by decide) ?_
      refine k_callVI (n := 1) (As := [.int 1]) (st := []) X [(cO10_vrrvrvvvvi h0 v0h0 tl nw v3h0 nn v5h0 v6h0 v7h0 v8h0 tr)] [(cO5_riiiiiiii nn nr xsnapped xmostSlip xslip xisDrawn xseed xtick xmotorTick xahead), (cO8_iiri nr 8 10 nrc nrn), (cAI g nrc 80 nrf), (cO3_vrvvrvvv tl v0tl yhn v2tl v3tl yhm v5tl v6tl v7tl), (cO8_iiri yhn 1 6 yhnc yhnn), (cAI g yhnc 6 yhnf), (cO8_iiri yhm 4 3 yhmc yhmn), (cAI g yhmc 12 yhmf), (cO7_rrrrii nw zr zm zw zp zmd ztr), (cO8_iiri zr 8 3 zrc zrn), (cAI g zrc 24 zrf), (cO8_iiri zm 12 3 zmc zmn), (cAI g zmc 36 zmf), (cO8_iiri zw 6 3 zwc zwn), (cAI g zwc 18 zwf), (cO8_iiri zp 8 2 zpc zpn), (cAI g zpc 16 zpf)] [0] [1, 2, 3, 4, 5, 6, 7, 8, 9, 10, 11, 12, 13, 14, 15, 16, 17] (c_refuse l g h0 1 v0h0 (.ref tl) (.ref nw) v3h0 (.ref nn) v5h0 v6h0 v7h0 v8h0 tr) dX10_all_19 mw215 mw216 mw217 mw2 mw218 rfl 10 rfl rfl 0 _ rfl yk_yX10_refuse_1 rfl (Nat.le_of_ble_eq_true rfl) (Nat.le_of_ble_eq_true rfl) (Nat.le_of_ble_eq_true rfl) (Nat.le_of_ble_eq_true rfl) (Nat.le_of_ble_eq_true rfl) rfl rfl (by decide +kernel) rfl (by decide +kernel) (by decide +kernel) ?_
      rintro r_7 w ⟨tr2_6, rfl⟩
      refine k_ws [(cO5_riiiiiiii nn nr xsnapped xmostSlip xslip xisDrawn xseed xtick xmotorTick xahead), (cO8_iiri nr 8 10 nrc nrn), (cAI g nrc 80 nrf), (cO3_vrvvrvvv tl v0tl yhn v2tl v3tl yhm v5tl v6tl v7tl), (cO8_iiri yhn 1 6 yhnc yhnn), (cAI g yhnc 6 yhnf), (cO8_iiri yhm 4 3 yhmc yhmn), (cAI g yhmc 12 yhmf), (cO7_rrrrii nw zr zm zw zp zmd ztr), (cO8_iiri zr 8 3 zrc zrn), (cAI g zrc 24 zrf), (cO8_iiri zm 12 3 zmc zmn), (cAI g zmc 36 zmf), (cO8_iiri zw 6 3 zwc zwn), (cAI g zwc 18 zwf), (cO8_iiri zp 8 2 zpc zpn), (cAI g zpc 16 zpf), (cO10_vrrvrvvvvi h0 v0h0 tl nw v3h0 nn v5h0 v6h0 v7h0 v8h0 tr2_6)] rfl ?_
      exact k_iret X hr dX10_all_22 (Nat.le_of_ble_eq_true rfl) (Nat.le_of_ble_eq_true rfl) [17, 0, 1, 2, 3, 4, 5, 6, 7, 8, 9, 10, 11, 12, 13, 14, 15, 16] (by decide) rfl rfl ⟨tr2_6, xsnapped, xmostSlip, xslip, xisDrawn, xseed, xtick, xmotorTick, xahead, nrf, nrn, (by assumption), rfl⟩
    · skip
      refine k_aload_n X dX10_all_9 0 rfl ?_
      refine k_iload_n X dX10_all_10 1 rfl ?_
      refine k_callVI (n := 1) (As := [.int p0]) (st := []) X [(cO10_vrrvrvvvvi h0 v0h0 tl nw v3h0 nn v5h0 v6h0 v7h0 v8h0 tr), (cO5_riiiiiiii nn nr xsnapped xmostSlip xslip xisDrawn xseed xtick xmotorTick xahead), (cO8_iiri nr 8 10 nrc nrn), (cAI g nrc 80 nrf), (cO3_vrvvrvvv tl v0tl yhn v2tl v3tl yhm v5tl v6tl v7tl), (cO8_iiri yhn 1 6 yhnc yhnn), (cAI g yhnc 6 yhnf), (cO8_iiri yhm 4 3 yhmc yhmn), (cAI g yhmc 12 yhmf), (cO7_rrrrii nw zr zm zw zp zmd ztr), (cO8_iiri zr 8 3 zrc zrn), (cAI g zrc 24 zrf), (cO8_iiri zm 12 3 zmc zmn), (cAI g zmc 36 zmf), (cO8_iiri zw 6 3 zwc zwn), (cAI g zwc 18 zwf), (cO8_iiri zp 8 2 zpc zpn), (cAI g zpc 16 zpf)] [] [0, 1, 2, 3, 4, 5, 6, 7, 8, 9, 10, 11, 12, 13, 14, 15, 16, 17] [] (c_runNight l g h0 p0 v0h0 tl nw v3h0 nn v5h0 v6h0 v7h0 v8h0 tr nr xsnapped xmostSlip xslip xisDrawn xseed xtick xmotorTick xahead nrc nrn nrf v0tl yhn v2tl v3tl yhm v5tl v6tl v7tl yhnc yhnn yhnf yhmc yhmn yhmf zr zm zw zp zmd ztr zrc zrn zrf zmc zmn zmf zwc zwn zwf zpc zpn zpf (by assumption)) dX10_all_11 mw744 mw745 mw746 mw2 mw747 rfl 10 rfl rfl 0 _ rfl yk_yX10_runNight_1 rfl (Nat.le_of_ble_eq_true rfl) (Nat.le_of_ble_eq_true rfl) (Nat.le_of_ble_eq_true rfl) (Nat.le_of_ble_eq_true rfl) (Nat.le_of_ble_eq_true rfl) rfl rfl (by decide +kernel) rfl (by decide +kernel) (by decide +kernel) ?_
      intro r_20 w zq
      refine exE11 zq ?_
      clear zq
      intro tr2_9 xsnapped2_10 xmostSlip2_11 xslip2_12 xisDrawn2_13 xseed2_14 xtick2_15 xmotorTick2_16 xahead2_17 nrg_18 nrk_19 hr_21 zq
      subst zq
      refine k_ws [(cO10_vrrvrvvvvi h0 v0h0 tl nw v3h0 nn v5h0 v6h0 v7h0 v8h0 tr2_9), (cO5_riiiiiiii nn nr xsnapped2_10 xmostSlip2_11 xslip2_12 xisDrawn2_13 xseed2_14 xtick2_15 xmotorTick2_16 xahead2_17), (cO8_iiri nr 8 10 nrc nrk_19), (cAI g nrc 80 nrg_18), (cO3_vrvvrvvv tl v0tl yhn v2tl v3tl yhm v5tl v6tl v7tl), (cO8_iiri yhn 1 6 yhnc yhnn), (cAI g yhnc 6 yhnf), (cO8_iiri yhm 4 3 yhmc yhmn), (cAI g yhmc 12 yhmf), (cO7_rrrrii nw zr zm zw zp zmd ztr), (cO8_iiri zr 8 3 zrc zrn), (cAI g zrc 24 zrf), (cO8_iiri zm 12 3 zmc zmn), (cAI g zmc 36 zmf), (cO8_iiri zw 6 3 zwc zwn), (cAI g zwc 18 zwf), (cO8_iiri zp 8 2 zpc zpn), (cAI g zpc 16 zpf)] rfl ?_
      refine k_if_ne 23 X dX10_all_14 (by decide) (fun h_22 => ?_) (fun h_22 => ?_)
      · skip
        refine k_iload_n X dX10_all_23 2 rfl ?_
        by_cases h_23 : p1 = 0
        · skip
          refine k_tableIn 52 X dX10_all_24 (by rw [h_23]; decide) (by rw [h_23]; decide) (off := 28) (by rw [h_23]; rfl) (by decide) ?_
          refine k_aload_n X dX10_all_52 0 rfl ?_
          refine k_aload_n X dX10_all_53 0 rfl ?_
          refine k_get (ci := 10) X inlX10 rfl 4 (by decide) dX10_all_54 mw32 0 rfl rfl ?_
          refine k_iconst (v := 0) X dX10_all_57 (by decide) ?_
          refine k_callVI (n := 1) (As := [.int 0]) (st := [.ref h0]) X [(cO5_riiiiiiii nn nr xsnapped2_10 xmostSlip2_11 xslip2_12 xisDrawn2_13 xseed2_14 xtick2_15 xmotorTick2_16 xahead2_17), (cO8_iiri nr 8 10 nrc nrk_19), (cAI g nrc 80 nrg_18)] [(cO10_vrrvrvvvvi h0 v0h0 tl nw v3h0 nn v5h0 v6h0 v7h0 v8h0 tr2_9), (cO3_vrvvrvvv tl v0tl yhn v2tl v3tl yhm v5tl v6tl v7tl), (cO8_iiri yhn 1 6 yhnc yhnn), (cAI g yhnc 6 yhnf), (cO8_iiri yhm 4 3 yhmc yhmn), (cAI g yhmc 12 yhmf), (cO7_rrrrii nw zr zm zw zp zmd ztr), (cO8_iiri zr 8 3 zrc zrn), (cAI g zrc 24 zrf), (cO8_iiri zm 12 3 zmc zmn), (cAI g zmc 36 zmf), (cO8_iiri zw 6 3 zwc zwn), (cAI g zwc 18 zwf), (cO8_iiri zp 8 2 zpc zpn), (cAI g zpc 16 zpf)] [1, 2, 3] [0, 4, 5, 6, 7, 8, 9, 10, 11, 12, 13, 14, 15, 16, 17] (n_sum l g nn 0 nr xsnapped2_10 xmostSlip2_11 xslip2_12 xisDrawn2_13 xseed2_14 xtick2_15 xmotorTick2_16 xahead2_17 nrc nrk_19 nrg_18) dX10_all_58 mw913 mw914 mw915 mw31 mw916 rfl 5 rfl rfl 0 _ rfl yk_yX5_sum_1 rfl (Nat.le_of_ble_eq_true rfl) (Nat.le_of_ble_eq_true rfl) (Nat.le_of_ble_eq_true rfl) (Nat.le_of_ble_eq_true rfl) (Nat.le_of_ble_eq_true rfl) rfl rfl (by decide +kernel) rfl (by decide +kernel) (by decide +kernel) ?_
          rintro r_24 w rfl
          refine k_ws [(cO10_vrrvrvvvvi h0 v0h0 tl nw v3h0 nn v5h0 v6h0 v7h0 v8h0 tr2_9), (cO3_vrvvrvvv tl v0tl yhn v2tl v3tl yhm v5tl v6tl v7tl), (cO8_iiri yhn 1 6 yhnc yhnn), (cAI g yhnc 6 yhnf), (cO8_iiri yhm 4 3 yhmc yhmn), (cAI g yhmc 12 yhmf), (cO7_rrrrii nw zr zm zw zp zmd ztr), (cO8_iiri zr 8 3 zrc zrn), (cAI g zrc 24 zrf), (cO8_iiri zm 12 3 zmc zmn), (cAI g zmc 36 zmf), (cO8_iiri zw 6 3 zwc zwn), (cAI g zwc 18 zwf), (cO8_iiri zp 8 2 zpc zpn), (cAI g zpc 16 zpf), (cO5_riiiiiiii nn nr xsnapped2_10 xmostSlip2_11 xslip2_12 xisDrawn2_13 xseed2_14 xtick2_15 xmotorTick2_16 xahead2_17), (cO8_iiri nr 8 10 nrc nrk_19), (cAI g nrc 80 nrg_18)] rfl ?_
          refine k_callVI (n := 1) (As := [.int r_24]) (st := []) X [(cO10_vrrvrvvvvi h0 v0h0 tl nw v3h0 nn v5h0 v6h0 v7h0 v8h0 tr2_9)] [(cO3_vrvvrvvv tl v0tl yhn v2tl v3tl yhm v5tl v6tl v7tl), (cO8_iiri yhn 1 6 yhnc yhnn), (cAI g yhnc 6 yhnf), (cO8_iiri yhm 4 3 yhmc yhmn), (cAI g yhmc 12 yhmf), (cO7_rrrrii nw zr zm zw zp zmd ztr), (cO8_iiri zr 8 3 zrc zrn), (cAI g zrc 24 zrf), (cO8_iiri zm 12 3 zmc zmn), (cAI g zmc 36 zmf), (cO8_iiri zw 6 3 zwc zwn), (cAI g zwc 18 zwf), (cO8_iiri zp 8 2 zpc zpn), (cAI g zpc 16 zpf), (cO5_riiiiiiii nn nr xsnapped2_10 xmostSlip2_11 xslip2_12 xisDrawn2_13 xseed2_14 xtick2_15 xmotorTick2_16 xahead2_17), (cO8_iiri nr 8 10 nrc nrk_19), (cAI g nrc 80 nrg_18)] [0] [1, 2, 3, 4, 5, 6, 7, 8, 9, 10, 11, 12, 13, 14, 15, 16, 17] (c_tell l g h0 r_24 v0h0 (.ref tl) (.ref nw) v3h0 (.ref nn) v5h0 v6h0 v7h0 v8h0 tr2_9) dX10_all_61 mw460 mw461 mw462 mw2 mw463 rfl 10 rfl rfl 0 _ rfl yk_yX10_tell_1 rfl (Nat.le_of_ble_eq_true rfl) (Nat.le_of_ble_eq_true rfl) (Nat.le_of_ble_eq_true rfl) (Nat.le_of_ble_eq_true rfl) (Nat.le_of_ble_eq_true rfl) rfl rfl (by decide +kernel) rfl (by decide +kernel) (by decide +kernel) ?_
          rintro r_27 w ⟨tr2_26, rfl⟩
          refine k_ws [(cO3_vrvvrvvv tl v0tl yhn v2tl v3tl yhm v5tl v6tl v7tl), (cO8_iiri yhn 1 6 yhnc yhnn), (cAI g yhnc 6 yhnf), (cO8_iiri yhm 4 3 yhmc yhmn), (cAI g yhmc 12 yhmf), (cO7_rrrrii nw zr zm zw zp zmd ztr), (cO8_iiri zr 8 3 zrc zrn), (cAI g zrc 24 zrf), (cO8_iiri zm 12 3 zmc zmn), (cAI g zmc 36 zmf), (cO8_iiri zw 6 3 zwc zwn), (cAI g zwc 18 zwf), (cO8_iiri zp 8 2 zpc zpn), (cAI g zpc 16 zpf), (cO5_riiiiiiii nn nr xsnapped2_10 xmostSlip2_11 xslip2_12 xisDrawn2_13 xseed2_14 xtick2_15 xmotorTick2_16 xahead2_17), (cO8_iiri nr 8 10 nrc nrk_19), (cAI g nrc 80 nrg_18), (cO10_vrrvrvvvvi h0 v0h0 tl nw v3h0 nn v5h0 v6h0 v7h0 v8h0 tr2_26)] rfl ?_
          exact k_iret X hr dX10_all_64 (Nat.le_of_ble_eq_true rfl) (Nat.le_of_ble_eq_true rfl) [17, 14, 15, 16, 0, 1, 2, 3, 4, 5, 6, 7, 8, 9, 10, 11, 12, 13] (by decide) rfl rfl ⟨tr2_26, xsnapped2_10, xmostSlip2_11, xslip2_12, xisDrawn2_13, xseed2_14, xtick2_15, xmotorTick2_16, xahead2_17, nrg_18, nrk_19, (by assumption), rfl⟩
        by_cases h_29 : p1 = 1
        · skip
          refine k_tableIn 65 X dX10_all_24 (by rw [h_29]; decide) (by rw [h_29]; decide) (off := 41) (by rw [h_29]; rfl) (by decide) ?_
          refine k_aload_n X dX10_all_65 0 rfl ?_
          refine k_aload_n X dX10_all_66 0 rfl ?_
          refine k_get (ci := 10) X inlX10 rfl 4 (by decide) dX10_all_67 mw32 0 rfl rfl ?_
          refine k_iconst (v := 1) X dX10_all_70 (by decide) ?_
          refine k_callVI (n := 1) (As := [.int 1]) (st := [.ref h0]) X [(cO5_riiiiiiii nn nr xsnapped2_10 xmostSlip2_11 xslip2_12 xisDrawn2_13 xseed2_14 xtick2_15 xmotorTick2_16 xahead2_17), (cO8_iiri nr 8 10 nrc nrk_19), (cAI g nrc 80 nrg_18)] [(cO10_vrrvrvvvvi h0 v0h0 tl nw v3h0 nn v5h0 v6h0 v7h0 v8h0 tr2_9), (cO3_vrvvrvvv tl v0tl yhn v2tl v3tl yhm v5tl v6tl v7tl), (cO8_iiri yhn 1 6 yhnc yhnn), (cAI g yhnc 6 yhnf), (cO8_iiri yhm 4 3 yhmc yhmn), (cAI g yhmc 12 yhmf), (cO7_rrrrii nw zr zm zw zp zmd ztr), (cO8_iiri zr 8 3 zrc zrn), (cAI g zrc 24 zrf), (cO8_iiri zm 12 3 zmc zmn), (cAI g zmc 36 zmf), (cO8_iiri zw 6 3 zwc zwn), (cAI g zwc 18 zwf), (cO8_iiri zp 8 2 zpc zpn), (cAI g zpc 16 zpf)] [1, 2, 3] [0, 4, 5, 6, 7, 8, 9, 10, 11, 12, 13, 14, 15, 16, 17] (n_sum l g nn 1 nr xsnapped2_10 xmostSlip2_11 xslip2_12 xisDrawn2_13 xseed2_14 xtick2_15 xmotorTick2_16 xahead2_17 nrc nrk_19 nrg_18) dX10_all_71 mw913 mw914 mw915 mw31 mw916 rfl 5 rfl rfl 0 _ rfl yk_yX5_sum_1 rfl (Nat.le_of_ble_eq_true rfl) (Nat.le_of_ble_eq_true rfl) (Nat.le_of_ble_eq_true rfl) (Nat.le_of_ble_eq_true rfl) (Nat.le_of_ble_eq_true rfl) rfl rfl (by decide +kernel) rfl (by decide +kernel) (by decide +kernel) ?_
          rintro r_30 w rfl
          refine k_ws [(cO10_vrrvrvvvvi h0 v0h0 tl nw v3h0 nn v5h0 v6h0 v7h0 v8h0 tr2_9), (cO3_vrvvrvvv tl v0tl yhn v2tl v3tl yhm v5tl v6tl v7tl), (cO8_iiri yhn 1 6 yhnc yhnn), (cAI g yhnc 6 yhnf), (cO8_iiri yhm 4 3 yhmc yhmn), (cAI g yhmc 12 yhmf), (cO7_rrrrii nw zr zm zw zp zmd ztr), (cO8_iiri zr 8 3 zrc zrn), (cAI g zrc 24 zrf), (cO8_iiri zm 12 3 zmc zmn), (cAI g zmc 36 zmf), (cO8_iiri zw 6 3 zwc zwn), (cAI g zwc 18 zwf), (cO8_iiri zp 8 2 zpc zpn), (cAI g zpc 16 zpf), (cO5_riiiiiiii nn nr xsnapped2_10 xmostSlip2_11 xslip2_12 xisDrawn2_13 xseed2_14 xtick2_15 xmotorTick2_16 xahead2_17), (cO8_iiri nr 8 10 nrc nrk_19), (cAI g nrc 80 nrg_18)] rfl ?_
          refine k_callVI (n := 1) (As := [.int r_30]) (st := []) X [(cO10_vrrvrvvvvi h0 v0h0 tl nw v3h0 nn v5h0 v6h0 v7h0 v8h0 tr2_9)] [(cO3_vrvvrvvv tl v0tl yhn v2tl v3tl yhm v5tl v6tl v7tl), (cO8_iiri yhn 1 6 yhnc yhnn), (cAI g yhnc 6 yhnf), (cO8_iiri yhm 4 3 yhmc yhmn), (cAI g yhmc 12 yhmf), (cO7_rrrrii nw zr zm zw zp zmd ztr), (cO8_iiri zr 8 3 zrc zrn), (cAI g zrc 24 zrf), (cO8_iiri zm 12 3 zmc zmn), (cAI g zmc 36 zmf), (cO8_iiri zw 6 3 zwc zwn), (cAI g zwc 18 zwf), (cO8_iiri zp 8 2 zpc zpn), (cAI g zpc 16 zpf), (cO5_riiiiiiii nn nr xsnapped2_10 xmostSlip2_11 xslip2_12 xisDrawn2_13 xseed2_14 xtick2_15 xmotorTick2_16 xahead2_17), (cO8_iiri nr 8 10 nrc nrk_19), (cAI g nrc 80 nrg_18)] [0] [1, 2, 3, 4, 5, 6, 7, 8, 9, 10, 11, 12, 13, 14, 15, 16, 17] (c_tell l g h0 r_30 v0h0 (.ref tl) (.ref nw) v3h0 (.ref nn) v5h0 v6h0 v7h0 v8h0 tr2_9) dX10_all_74 mw460 mw461 mw462 mw2 mw463 rfl 10 rfl rfl 0 _ rfl yk_yX10_tell_1 rfl (Nat.le_of_ble_eq_true rfl) (Nat.le_of_ble_eq_true rfl) (Nat.le_of_ble_eq_true rfl) (Nat.le_of_ble_eq_true rfl) (Nat.le_of_ble_eq_true rfl) rfl rfl (by decide +kernel) rfl (by decide +kernel) (by decide +kernel) ?_
          rintro r_33 w ⟨tr2_32, rfl⟩
          refine k_ws [(cO3_vrvvrvvv tl v0tl yhn v2tl v3tl yhm v5tl v6tl v7tl), (cO8_iiri yhn 1 6 yhnc yhnn), (cAI g yhnc 6 yhnf), (cO8_iiri yhm 4 3 yhmc yhmn), (cAI g yhmc 12 yhmf), (cO7_rrrrii nw zr zm zw zp zmd ztr), (cO8_iiri zr 8 3 zrc zrn), (cAI g zrc 24 zrf), (cO8_iiri zm 12 3 zmc zmn), (cAI g zmc 36 zmf), (cO8_iiri zw 6 3 zwc zwn), (cAI g zwc 18 zwf), (cO8_iiri zp 8 2 zpc zpn), (cAI g zpc 16 zpf), (cO5_riiiiiiii nn nr xsnapped2_10 xmostSlip2_11 xslip2_12 xisDrawn2_13 xseed2_14 xtick2_15 xmotorTick2_16 xahead2_17), (cO8_iiri nr 8 10 nrc nrk_19), (cAI g nrc 80 nrg_18), (cO10_vrrvrvvvvi h0 v0h0 tl nw v3h0 nn v5h0 v6h0 v7h0 v8h0 tr2_32)] rfl ?_
          exact k_iret X hr dX10_all_77 (Nat.le_of_ble_eq_true rfl) (Nat.le_of_ble_eq_true rfl) [17, 14, 15, 16, 0, 1, 2, 3, 4, 5, 6, 7, 8, 9, 10, 11, 12, 13] (by decide) rfl rfl ⟨tr2_32, xsnapped2_10, xmostSlip2_11, xslip2_12, xisDrawn2_13, xseed2_14, xtick2_15, xmotorTick2_16, xahead2_17, nrg_18, nrk_19, (by assumption), rfl⟩
        by_cases h_35 : p1 = 2
        · skip
          refine k_tableIn 78 X dX10_all_24 (by rw [h_35]; decide) (by rw [h_35]; decide) (off := 54) (by rw [h_35]; rfl) (by decide) ?_
          refine k_aload_n X dX10_all_78 0 rfl ?_
          refine k_aload_n X dX10_all_79 0 rfl ?_
          refine k_get (ci := 10) X inlX10 rfl 4 (by decide) dX10_all_80 mw32 0 rfl rfl ?_
          refine k_iconst (v := 2) X dX10_all_83 (by decide) ?_
          refine k_callVI (n := 1) (As := [.int 2]) (st := [.ref h0]) X [(cO5_riiiiiiii nn nr xsnapped2_10 xmostSlip2_11 xslip2_12 xisDrawn2_13 xseed2_14 xtick2_15 xmotorTick2_16 xahead2_17), (cO8_iiri nr 8 10 nrc nrk_19), (cAI g nrc 80 nrg_18)] [(cO10_vrrvrvvvvi h0 v0h0 tl nw v3h0 nn v5h0 v6h0 v7h0 v8h0 tr2_9), (cO3_vrvvrvvv tl v0tl yhn v2tl v3tl yhm v5tl v6tl v7tl), (cO8_iiri yhn 1 6 yhnc yhnn), (cAI g yhnc 6 yhnf), (cO8_iiri yhm 4 3 yhmc yhmn), (cAI g yhmc 12 yhmf), (cO7_rrrrii nw zr zm zw zp zmd ztr), (cO8_iiri zr 8 3 zrc zrn), (cAI g zrc 24 zrf), (cO8_iiri zm 12 3 zmc zmn), (cAI g zmc 36 zmf), (cO8_iiri zw 6 3 zwc zwn), (cAI g zwc 18 zwf), (cO8_iiri zp 8 2 zpc zpn), (cAI g zpc 16 zpf)] [1, 2, 3] [0, 4, 5, 6, 7, 8, 9, 10, 11, 12, 13, 14, 15, 16, 17] (n_sum l g nn 2 nr xsnapped2_10 xmostSlip2_11 xslip2_12 xisDrawn2_13 xseed2_14 xtick2_15 xmotorTick2_16 xahead2_17 nrc nrk_19 nrg_18) dX10_all_84 mw913 mw914 mw915 mw31 mw916 rfl 5 rfl rfl 0 _ rfl yk_yX5_sum_1 rfl (Nat.le_of_ble_eq_true rfl) (Nat.le_of_ble_eq_true rfl) (Nat.le_of_ble_eq_true rfl) (Nat.le_of_ble_eq_true rfl) (Nat.le_of_ble_eq_true rfl) rfl rfl (by decide +kernel) rfl (by decide +kernel) (by decide +kernel) ?_
          rintro r_36 w rfl
          refine k_ws [(cO10_vrrvrvvvvi h0 v0h0 tl nw v3h0 nn v5h0 v6h0 v7h0 v8h0 tr2_9), (cO3_vrvvrvvv tl v0tl yhn v2tl v3tl yhm v5tl v6tl v7tl), (cO8_iiri yhn 1 6 yhnc yhnn), (cAI g yhnc 6 yhnf), (cO8_iiri yhm 4 3 yhmc yhmn), (cAI g yhmc 12 yhmf), (cO7_rrrrii nw zr zm zw zp zmd ztr), (cO8_iiri zr 8 3 zrc zrn), (cAI g zrc 24 zrf), (cO8_iiri zm 12 3 zmc zmn), (cAI g zmc 36 zmf), (cO8_iiri zw 6 3 zwc zwn), (cAI g zwc 18 zwf), (cO8_iiri zp 8 2 zpc zpn), (cAI g zpc 16 zpf), (cO5_riiiiiiii nn nr xsnapped2_10 xmostSlip2_11 xslip2_12 xisDrawn2_13 xseed2_14 xtick2_15 xmotorTick2_16 xahead2_17), (cO8_iiri nr 8 10 nrc nrk_19), (cAI g nrc 80 nrg_18)] rfl ?_
          refine k_callVI (n := 1) (As := [.int r_36]) (st := []) X [(cO10_vrrvrvvvvi h0 v0h0 tl nw v3h0 nn v5h0 v6h0 v7h0 v8h0 tr2_9)] [(cO3_vrvvrvvv tl v0tl yhn v2tl v3tl yhm v5tl v6tl v7tl), (cO8_iiri yhn 1 6 yhnc yhnn), (cAI g yhnc 6 yhnf), (cO8_iiri yhm 4 3 yhmc yhmn), (cAI g yhmc 12 yhmf), (cO7_rrrrii nw zr zm zw zp zmd ztr), (cO8_iiri zr 8 3 zrc zrn), (cAI g zrc 24 zrf), (cO8_iiri zm 12 3 zmc zmn), (cAI g zmc 36 zmf), (cO8_iiri zw 6 3 zwc zwn), (cAI g zwc 18 zwf), (cO8_iiri zp 8 2 zpc zpn), (cAI g zpc 16 zpf), (cO5_riiiiiiii nn nr xsnapped2_10 xmostSlip2_11 xslip2_12 xisDrawn2_13 xseed2_14 xtick2_15 xmotorTick2_16 xahead2_17), (cO8_iiri nr 8 10 nrc nrk_19), (cAI g nrc 80 nrg_18)] [0] [1, 2, 3, 4, 5, 6, 7, 8, 9, 10, 11, 12, 13, 14, 15, 16, 17] (c_tell l g h0 r_36 v0h0 (.ref tl) (.ref nw) v3h0 (.ref nn) v5h0 v6h0 v7h0 v8h0 tr2_9) dX10_all_87 mw460 mw461 mw462 mw2 mw463 rfl 10 rfl rfl 0 _ rfl yk_yX10_tell_1 rfl (Nat.le_of_ble_eq_true rfl) (Nat.le_of_ble_eq_true rfl) (Nat.le_of_ble_eq_true rfl) (Nat.le_of_ble_eq_true rfl) (Nat.le_of_ble_eq_true rfl) rfl rfl (by decide +kernel) rfl (by decide +kernel) (by decide +kernel) ?_
          rintro r_39 w ⟨tr2_38, rfl⟩
          refine k_ws [(cO3_vrvvrvvv tl v0tl yhn v2tl v3tl yhm v5tl v6tl v7tl), (cO8_iiri yhn 1 6 yhnc yhnn), (cAI g yhnc 6 yhnf), (cO8_iiri yhm 4 3 yhmc yhmn), (cAI g yhmc 12 yhmf), (cO7_rrrrii nw zr zm zw zp zmd ztr), (cO8_iiri zr 8 3 zrc zrn), (cAI g zrc 24 zrf), (cO8_iiri zm 12 3 zmc zmn), (cAI g zmc 36 zmf), (cO8_iiri zw 6 3 zwc zwn), (cAI g zwc 18 zwf), (cO8_iiri zp 8 2 zpc zpn), (cAI g zpc 16 zpf), (cO5_riiiiiiii nn nr xsnapped2_10 xmostSlip2_11 xslip2_12 xisDrawn2_13 xseed2_14 xtick2_15 xmotorTick2_16 xahead2_17), (cO8_iiri nr 8 10 nrc nrk_19), (cAI g nrc 80 nrg_18), (cO10_vrrvrvvvvi h0 v0h0 tl nw v3h0 nn v5h0 v6h0 v7h0 v8h0 tr2_38)] rfl ?_
          exact k_iret X hr dX10_all_90 (Nat.le_of_ble_eq_true rfl) (Nat.le_of_ble_eq_true rfl) [17, 14, 15, 16, 0, 1, 2, 3, 4, 5, 6, 7, 8, 9, 10, 11, 12, 13] (by decide) rfl rfl ⟨tr2_38, xsnapped2_10, xmostSlip2_11, xslip2_12, xisDrawn2_13, xseed2_14, xtick2_15, xmotorTick2_16, xahead2_17, nrg_18, nrk_19, (by assumption), rfl⟩
        refine k_tableOut 91 X dX10_all_24 (by have eh_23 : p1.toInt ≠ 0 := fun q => h_23 (Int32.toInt_inj.mp (q.trans (by decide))); have eh_29 : p1.toInt ≠ 1 := fun q => h_29 (Int32.toInt_inj.mp (q.trans (by decide))); have eh_35 : p1.toInt ≠ 2 := fun q => h_35 (Int32.toInt_inj.mp (q.trans (by decide))); omega) (by decide) ?_
        refine k_aload_n X dX10_all_91 0 rfl ?_
        refine k_aload_n X dX10_all_92 0 rfl ?_
        refine k_get (ci := 10) X inlX10 rfl 4 (by decide) dX10_all_93 mw32 0 rfl rfl ?_
        refine k_iconst (v := 3) X dX10_all_96 (by decide) ?_
        refine k_callVI (n := 1) (As := [.int 3]) (st := [.ref h0]) X [(cO5_riiiiiiii nn nr xsnapped2_10 xmostSlip2_11 xslip2_12 xisDrawn2_13 xseed2_14 xtick2_15 xmotorTick2_16 xahead2_17), (cO8_iiri nr 8 10 nrc nrk_19), (cAI g nrc 80 nrg_18)] [(cO10_vrrvrvvvvi h0 v0h0 tl nw v3h0 nn v5h0 v6h0 v7h0 v8h0 tr2_9), (cO3_vrvvrvvv tl v0tl yhn v2tl v3tl yhm v5tl v6tl v7tl), (cO8_iiri yhn 1 6 yhnc yhnn), (cAI g yhnc 6 yhnf), (cO8_iiri yhm 4 3 yhmc yhmn), (cAI g yhmc 12 yhmf), (cO7_rrrrii nw zr zm zw zp zmd ztr), (cO8_iiri zr 8 3 zrc zrn), (cAI g zrc 24 zrf), (cO8_iiri zm 12 3 zmc zmn), (cAI g zmc 36 zmf), (cO8_iiri zw 6 3 zwc zwn), (cAI g zwc 18 zwf), (cO8_iiri zp 8 2 zpc zpn), (cAI g zpc 16 zpf)] [1, 2, 3] [0, 4, 5, 6, 7, 8, 9, 10, 11, 12, 13, 14, 15, 16, 17] (n_sum l g nn 3 nr xsnapped2_10 xmostSlip2_11 xslip2_12 xisDrawn2_13 xseed2_14 xtick2_15 xmotorTick2_16 xahead2_17 nrc nrk_19 nrg_18) dX10_all_97 mw913 mw914 mw915 mw31 mw916 rfl 5 rfl rfl 0 _ rfl yk_yX5_sum_1 rfl (Nat.le_of_ble_eq_true rfl) (Nat.le_of_ble_eq_true rfl) (Nat.le_of_ble_eq_true rfl) (Nat.le_of_ble_eq_true rfl) (Nat.le_of_ble_eq_true rfl) rfl rfl (by decide +kernel) rfl (by decide +kernel) (by decide +kernel) ?_
        rintro r_41 w rfl
        refine k_ws [(cO10_vrrvrvvvvi h0 v0h0 tl nw v3h0 nn v5h0 v6h0 v7h0 v8h0 tr2_9), (cO3_vrvvrvvv tl v0tl yhn v2tl v3tl yhm v5tl v6tl v7tl), (cO8_iiri yhn 1 6 yhnc yhnn), (cAI g yhnc 6 yhnf), (cO8_iiri yhm 4 3 yhmc yhmn), (cAI g yhmc 12 yhmf), (cO7_rrrrii nw zr zm zw zp zmd ztr), (cO8_iiri zr 8 3 zrc zrn), (cAI g zrc 24 zrf), (cO8_iiri zm 12 3 zmc zmn), (cAI g zmc 36 zmf), (cO8_iiri zw 6 3 zwc zwn), (cAI g zwc 18 zwf), (cO8_iiri zp 8 2 zpc zpn), (cAI g zpc 16 zpf), (cO5_riiiiiiii nn nr xsnapped2_10 xmostSlip2_11 xslip2_12 xisDrawn2_13 xseed2_14 xtick2_15 xmotorTick2_16 xahead2_17), (cO8_iiri nr 8 10 nrc nrk_19), (cAI g nrc 80 nrg_18)] rfl ?_
        refine k_callVI (n := 1) (As := [.int r_41]) (st := []) X [(cO10_vrrvrvvvvi h0 v0h0 tl nw v3h0 nn v5h0 v6h0 v7h0 v8h0 tr2_9)] [(cO3_vrvvrvvv tl v0tl yhn v2tl v3tl yhm v5tl v6tl v7tl), (cO8_iiri yhn 1 6 yhnc yhnn), (cAI g yhnc 6 yhnf), (cO8_iiri yhm 4 3 yhmc yhmn), (cAI g yhmc 12 yhmf), (cO7_rrrrii nw zr zm zw zp zmd ztr), (cO8_iiri zr 8 3 zrc zrn), (cAI g zrc 24 zrf), (cO8_iiri zm 12 3 zmc zmn), (cAI g zmc 36 zmf), (cO8_iiri zw 6 3 zwc zwn), (cAI g zwc 18 zwf), (cO8_iiri zp 8 2 zpc zpn), (cAI g zpc 16 zpf), (cO5_riiiiiiii nn nr xsnapped2_10 xmostSlip2_11 xslip2_12 xisDrawn2_13 xseed2_14 xtick2_15 xmotorTick2_16 xahead2_17), (cO8_iiri nr 8 10 nrc nrk_19), (cAI g nrc 80 nrg_18)] [0] [1, 2, 3, 4, 5, 6, 7, 8, 9, 10, 11, 12, 13, 14, 15, 16, 17] (c_tell l g h0 r_41 v0h0 (.ref tl) (.ref nw) v3h0 (.ref nn) v5h0 v6h0 v7h0 v8h0 tr2_9) dX10_all_100 mw460 mw461 mw462 mw2 mw463 rfl 10 rfl rfl 0 _ rfl yk_yX10_tell_1 rfl (Nat.le_of_ble_eq_true rfl) (Nat.le_of_ble_eq_true rfl) (Nat.le_of_ble_eq_true rfl) (Nat.le_of_ble_eq_true rfl) (Nat.le_of_ble_eq_true rfl) rfl rfl (by decide +kernel) rfl (by decide +kernel) (by decide +kernel) ?_
        rintro r_44 w ⟨tr2_43, rfl⟩
        refine k_ws [(cO3_vrvvrvvv tl v0tl yhn v2tl v3tl yhm v5tl v6tl v7tl), (cO8_iiri yhn 1 6 yhnc yhnn), (cAI g yhnc 6 yhnf), (cO8_iiri yhm 4 3 yhmc yhmn), (cAI g yhmc 12 yhmf), (cO7_rrrrii nw zr zm zw zp zmd ztr), (cO8_iiri zr 8 3 zrc zrn), (cAI g zrc 24 zrf), (cO8_iiri zm 12 3 zmc zmn), (cAI g zmc 36 zmf), (cO8_iiri zw 6 3 zwc zwn), (cAI g zwc 18 zwf), (cO8_iiri zp 8 2 zpc zpn), (cAI g zpc 16 zpf), (cO5_riiiiiiii nn nr xsnapped2_10 xmostSlip2_11 xslip2_12 xisDrawn2_13 xseed2_14 xtick2_15 xmotorTick2_16 xahead2_17), (cO8_iiri nr 8 10 nrc nrk_19), (cAI g nrc 80 nrg_18), (cO10_vrrvrvvvvi h0 v0h0 tl nw v3h0 nn v5h0 v6h0 v7h0 v8h0 tr2_43)] rfl ?_
        exact k_iret X hr dX10_all_103 (Nat.le_of_ble_eq_true rfl) (Nat.le_of_ble_eq_true rfl) [17, 14, 15, 16, 0, 1, 2, 3, 4, 5, 6, 7, 8, 9, 10, 11, 12, 13] (by decide) rfl rfl ⟨tr2_43, xsnapped2_10, xmostSlip2_11, xslip2_12, xisDrawn2_13, xseed2_14, xtick2_15, xmotorTick2_16, xahead2_17, nrg_18, nrk_19, (by assumption), rfl⟩
      · skip
        refine k_aload_n X dX10_all_17 0 rfl ?_
        refine k_iconst (v := 1) X dX10_all_18 (by decide) ?_
        refine k_callVI (n := 1) (As := [.int 1]) (st := []) X [(cO10_vrrvrvvvvi h0 v0h0 tl nw v3h0 nn v5h0 v6h0 v7h0 v8h0 tr2_9)] [(cO5_riiiiiiii nn nr xsnapped2_10 xmostSlip2_11 xslip2_12 xisDrawn2_13 xseed2_14 xtick2_15 xmotorTick2_16 xahead2_17), (cO8_iiri nr 8 10 nrc nrk_19), (cAI g nrc 80 nrg_18), (cO3_vrvvrvvv tl v0tl yhn v2tl v3tl yhm v5tl v6tl v7tl), (cO8_iiri yhn 1 6 yhnc yhnn), (cAI g yhnc 6 yhnf), (cO8_iiri yhm 4 3 yhmc yhmn), (cAI g yhmc 12 yhmf), (cO7_rrrrii nw zr zm zw zp zmd ztr), (cO8_iiri zr 8 3 zrc zrn), (cAI g zrc 24 zrf), (cO8_iiri zm 12 3 zmc zmn), (cAI g zmc 36 zmf), (cO8_iiri zw 6 3 zwc zwn), (cAI g zwc 18 zwf), (cO8_iiri zp 8 2 zpc zpn), (cAI g zpc 16 zpf)] [0] [1, 2, 3, 4, 5, 6, 7, 8, 9, 10, 11, 12, 13, 14, 15, 16, 17] (c_refuse l g h0 1 v0h0 (.ref tl) (.ref nw) v3h0 (.ref nn) v5h0 v6h0 v7h0 v8h0 tr2_9) dX10_all_19 mw215 mw216 mw217 mw2 mw218 rfl 10 rfl rfl 0 _ rfl yk_yX10_refuse_1 rfl (Nat.le_of_ble_eq_true rfl) (Nat.le_of_ble_eq_true rfl) (Nat.le_of_ble_eq_true rfl) (Nat.le_of_ble_eq_true rfl) (Nat.le_of_ble_eq_true rfl) rfl rfl (by decide +kernel) rfl (by decide +kernel) (by decide +kernel) ?_
        rintro r_47 w ⟨tr2_46, rfl⟩
        refine k_ws [(cO5_riiiiiiii nn nr xsnapped2_10 xmostSlip2_11 xslip2_12 xisDrawn2_13 xseed2_14 xtick2_15 xmotorTick2_16 xahead2_17), (cO8_iiri nr 8 10 nrc nrk_19), (cAI g nrc 80 nrg_18), (cO3_vrvvrvvv tl v0tl yhn v2tl v3tl yhm v5tl v6tl v7tl), (cO8_iiri yhn 1 6 yhnc yhnn), (cAI g yhnc 6 yhnf), (cO8_iiri yhm 4 3 yhmc yhmn), (cAI g yhmc 12 yhmf), (cO7_rrrrii nw zr zm zw zp zmd ztr), (cO8_iiri zr 8 3 zrc zrn), (cAI g zrc 24 zrf), (cO8_iiri zm 12 3 zmc zmn), (cAI g zmc 36 zmf), (cO8_iiri zw 6 3 zwc zwn), (cAI g zwc 18 zwf), (cO8_iiri zp 8 2 zpc zpn), (cAI g zpc 16 zpf), (cO10_vrrvrvvvvi h0 v0h0 tl nw v3h0 nn v5h0 v6h0 v7h0 v8h0 tr2_46)] rfl ?_
        exact k_iret X hr dX10_all_22 (Nat.le_of_ble_eq_true rfl) (Nat.le_of_ble_eq_true rfl) [17, 0, 1, 2, 3, 4, 5, 6, 7, 8, 9, 10, 11, 12, 13, 14, 15, 16] (by decide) rfl rfl ⟨tr2_46, xsnapped2_10, xmostSlip2_11, xslip2_12, xisDrawn2_13, xseed2_14, xtick2_15, xmotorTick2_16, xahead2_17, nrg_18, nrk_19, (by assumption), rfl⟩

theorem dX10_reel_0 : decode cX10_reel 0 = .ok (.aload_n 0, 1) := dk_42 rfl
theorem dX10_reel_1 : decode cX10_reel 1 = .ok (.getfield 26, 3) := dk_180 rfl rfl rfl rfl
theorem dX10_reel_4 : decode cX10_reel 4 = .ok (.getfield 124, 3) := dk_180 rfl rfl rfl rfl
theorem dX10_reel_7 : decode cX10_reel 7 = .ok (.iload_n 1, 1) := dk_27 rfl
theorem dX10_reel_8 : decode cX10_reel 8 = .ok (.invokevirtual 127, 3) := dk_182 rfl rfl rfl rfl
theorem dX10_reel_11 : decode cX10_reel 11 = .ok (.ifCond .eq 12, 3) := dk_153 rfl rfl rfl (by decide)
theorem dX10_reel_14 : decode cX10_reel 14 = .ok (.iload_n 2, 1) := dk_28 rfl
theorem dX10_reel_15 : decode cX10_reel 15 = .ok (.ifCond .lt 8, 3) := dk_155 rfl rfl rfl (by decide)
theorem dX10_reel_18 : decode cX10_reel 18 = .ok (.iload_n 2, 1) := dk_28 rfl
theorem dX10_reel_19 : decode cX10_reel 19 = .ok (.iconst 5, 1) := dk_8 rfl
theorem dX10_reel_20 : decode cX10_reel 20 = .ok (.if_icmp .le 9, 3) := dk_164 rfl rfl rfl (by decide)
theorem dX10_reel_23 : decode cX10_reel 23 = .ok (.aload_n 0, 1) := dk_42 rfl
theorem dX10_reel_24 : decode cX10_reel 24 = .ok (.iconst 1, 1) := dk_4 rfl
theorem dX10_reel_25 : decode cX10_reel 25 = .ok (.invokevirtual 83, 3) := dk_182 rfl rfl rfl rfl
theorem dX10_reel_28 : decode cX10_reel 28 = .ok (.ireturn, 1) := dk_172 rfl
theorem dX10_reel_29 : decode cX10_reel 29 = .ok (.iload_n 2, 1) := dk_28 rfl
theorem dX10_reel_30 : decode cX10_reel 30 = .ok (.tableswitch 95 3 5 #[26, 43, 69], 26) := by decide +kernel
theorem dX10_reel_56 : decode cX10_reel 56 = .ok (.aload_n 0, 1) := dk_42 rfl
theorem dX10_reel_57 : decode cX10_reel 57 = .ok (.aload_n 0, 1) := dk_42 rfl
theorem dX10_reel_58 : decode cX10_reel 58 = .ok (.getfield 26, 3) := dk_180 rfl rfl rfl rfl
theorem dX10_reel_61 : decode cX10_reel 61 = .ok (.getfield 131, 3) := dk_180 rfl rfl rfl rfl
theorem dX10_reel_64 : decode cX10_reel 64 = .ok (.iconst 0, 1) := dk_3 rfl
theorem dX10_reel_65 : decode cX10_reel 65 = .ok (.iload_n 1, 1) := dk_27 rfl
theorem dX10_reel_66 : decode cX10_reel 66 = .ok (.invokevirtual 134, 3) := dk_182 rfl rfl rfl rfl
theorem dX10_reel_69 : decode cX10_reel 69 = .ok (.invokevirtual 118, 3) := dk_182 rfl rfl rfl rfl
theorem dX10_reel_72 : decode cX10_reel 72 = .ok (.ireturn, 1) := dk_172 rfl
theorem dX10_reel_73 : decode cX10_reel 73 = .ok (.aload_n 0, 1) := dk_42 rfl
theorem dX10_reel_74 : decode cX10_reel 74 = .ok (.aload_n 0, 1) := dk_42 rfl
theorem dX10_reel_75 : decode cX10_reel 75 = .ok (.getfield 19, 3) := dk_180 rfl rfl rfl rfl
theorem dX10_reel_78 : decode cX10_reel 78 = .ok (.getfield 138, 3) := dk_180 rfl rfl rfl rfl
theorem dX10_reel_81 : decode cX10_reel 81 = .ok (.iconst 0, 1) := dk_3 rfl
theorem dX10_reel_82 : decode cX10_reel 82 = .ok (.iload_n 1, 1) := dk_27 rfl
theorem dX10_reel_83 : decode cX10_reel 83 = .ok (.invokevirtual 134, 3) := dk_182 rfl rfl rfl rfl
theorem dX10_reel_86 : decode cX10_reel 86 = .ok (.aload_n 0, 1) := dk_42 rfl
theorem dX10_reel_87 : decode cX10_reel 87 = .ok (.getfield 26, 3) := dk_180 rfl rfl rfl rfl
theorem dX10_reel_90 : decode cX10_reel 90 = .ok (.iload_n 1, 1) := dk_27 rfl
theorem dX10_reel_91 : decode cX10_reel 91 = .ok (.invokevirtual 141, 3) := dk_182 rfl rfl rfl rfl
theorem dX10_reel_94 : decode cX10_reel 94 = .ok (.iadd, 1) := dk_96 rfl
theorem dX10_reel_95 : decode cX10_reel 95 = .ok (.invokevirtual 118, 3) := dk_182 rfl rfl rfl rfl
theorem dX10_reel_98 : decode cX10_reel 98 = .ok (.ireturn, 1) := by decide +kernel
theorem dX10_reel_99 : decode cX10_reel 99 = .ok (.aload_n 0, 1) := by decide +kernel
theorem dX10_reel_100 : decode cX10_reel 100 = .ok (.aload_n 0, 1) := by decide +kernel
theorem dX10_reel_101 : decode cX10_reel 101 = .ok (.getfield 26, 3) := by decide +kernel
theorem dX10_reel_104 : decode cX10_reel 104 = .ok (.getfield 144, 3) := by decide +kernel
theorem dX10_reel_107 : decode cX10_reel 107 = .ok (.iconst 0, 1) := by decide +kernel
theorem dX10_reel_108 : decode cX10_reel 108 = .ok (.iload_n 1, 1) := by decide +kernel
theorem dX10_reel_109 : decode cX10_reel 109 = .ok (.invokevirtual 134, 3) := by decide +kernel
theorem dX10_reel_112 : decode cX10_reel 112 = .ok (.aload_n 0, 1) := by decide +kernel
theorem dX10_reel_113 : decode cX10_reel 113 = .ok (.getfield 26, 3) := by decide +kernel
theorem dX10_reel_116 : decode cX10_reel 116 = .ok (.iload_n 1, 1) := by decide +kernel
theorem dX10_reel_117 : decode cX10_reel 117 = .ok (.invokevirtual 141, 3) := by decide +kernel
theorem dX10_reel_120 : decode cX10_reel 120 = .ok (.isub, 1) := by decide +kernel
theorem dX10_reel_121 : decode cX10_reel 121 = .ok (.invokevirtual 118, 3) := by decide +kernel
theorem dX10_reel_124 : decode cX10_reel 124 = .ok (.ireturn, 1) := by decide +kernel
theorem dX10_reel_125 : decode cX10_reel 125 = .ok (.aload_n 0, 1) := by decide +kernel
theorem dX10_reel_126 : decode cX10_reel 126 = .ok (.aload_n 0, 1) := by decide +kernel
theorem dX10_reel_127 : decode cX10_reel 127 = .ok (.getfield 26, 3) := by decide +kernel
theorem dX10_reel_130 : decode cX10_reel 130 = .ok (.getfield 124, 3) := by decide +kernel
theorem dX10_reel_133 : decode cX10_reel 133 = .ok (.iload_n 1, 1) := by decide +kernel
theorem dX10_reel_134 : decode cX10_reel 134 = .ok (.iload_n 2, 1) := by decide +kernel
theorem dX10_reel_135 : decode cX10_reel 135 = .ok (.invokevirtual 147, 3) := by decide +kernel
theorem dX10_reel_138 : decode cX10_reel 138 = .ok (.invokevirtual 118, 3) := by decide +kernel
theorem dX10_reel_141 : decode cX10_reel 141 = .ok (.ireturn, 1) := by decide +kernel
set_option maxHeartbeats 4000000 in
set_option maxRecDepth 100000 in
theorem c_reel (l : Launch) (g : Gx) (h0 : Nat) (p0 : Int32) (p1 : Int32) (v0h0 : Value) (tl : Nat) (nw : Nat) (v3h0 : Value) (v4h0 : Value) (v5h0 : Value) (v6h0 : Value) (v7h0 : Value) (v8h0 : Value) (tr : Int32) (v0tl : Value) (v1tl : Value) (v2tl : Value) (yhj : Nat) (v4tl : Value) (v5tl : Value) (v6tl : Value) (v7tl : Value) (yhjc : Nat) (yhjn : Int32) (yhjf : Nat → Int32) (zr : Nat) (zm : Nat) (zw : Nat) (zp : Nat) (zmd : Int32) (ztr : Int32) (zrc : Nat) (zrn : Int32) (zrf : Nat → Int32) (zmc : Nat) (zmn : Int32) (zmf : Nat → Int32) (zwc : Nat) (zwn : Int32) (zwf : Nat → Int32) (zpc : Nat) (zpn : Int32) (zpf : Nat → Int32) : cI l g yX10_reel cX10_reel 3 (some .int) 3 65 0 0 [.ref h0, .int p0, .int p1] [(cO10_vrrvvvvvvi h0 v0h0 tl nw v3h0 v4h0 v5h0 v6h0 v7h0 v8h0 tr), (cO3_vvvrvvvv tl v0tl v1tl v2tl yhj v4tl v5tl v6tl v7tl), (cO8_iiri yhj 8 2 yhjc yhjn), (cAI g yhjc 16 yhjf), (cO7_rrrrii nw zr zm zw zp zmd ztr), (cO8_iiri zr 8 3 zrc zrn), (cAI g zrc 24 zrf), (cO8_iiri zm 12 3 zmc zmn), (cAI g zmc 36 zmf), (cO8_iiri zw 6 3 zwc zwn), (cAI g zwc 18 zwf), (cO8_iiri zp 8 2 zpc zpn), (cAI g zpc 16 zpf)] (fun r w => ∃ (tr2 : Int32), w = [(cO10_vrrvvvvvvi h0 v0h0 tl nw v3h0 v4h0 v5h0 v6h0 v7h0 v8h0 tr2), (cO3_vvvrvvvv tl v0tl v1tl v2tl yhj v4tl v5tl v6tl v7tl), (cO8_iiri yhj 8 2 yhjc yhjn), (cAI g yhjc 16 yhjf), (cO7_rrrrii nw zr zm zw zp zmd ztr), (cO8_iiri zr 8 3 zrc zrn), (cAI g zrc 24 zrf), (cO8_iiri zm 12 3 zmc zmn), (cAI g zmc 36 zmf), (cO8_iiri zw 6 3 zwc zwn), (cAI g zwc 18 zwf), (cO8_iiri zp 8 2 zpc zpn), (cAI g zpc 16 zpf)]) := by
  refine cI.of (by decide) (Nat.le_of_ble_eq_true rfl) ?_
  intro p e s m args below meth c A X hr hi
  refine k_lveq [(0, .ref h0), (1, .int p0), (2, .int p1)] rfl ?_
  refine k_aload_n X dX10_reel_0 0 rfl ?_
  refine k_get (ci := 10) X inlX10 rfl 2 (by decide) dX10_reel_1 mw24 0 rfl rfl ?_
  refine k_get (ci := 7) X inlX7 rfl 0 (by decide) dX10_reel_4 mw643 4 rfl rfl ?_
  refine k_iload_n X dX10_reel_7 1 rfl ?_
  refine k_callVI (n := 1) (As := [.int p0]) (st := []) X [(cO8_iiri zr 8 3 zrc zrn)] [(cO10_vrrvvvvvvi h0 v0h0 tl nw v3h0 v4h0 v5h0 v6h0 v7h0 v8h0 tr), (cO3_vvvrvvvv tl v0tl v1tl v2tl yhj v4tl v5tl v6tl v7tl), (cO8_iiri yhj 8 2 yhjc yhjn), (cAI g yhjc 16 yhjf), (cO7_rrrrii nw zr zm zw zp zmd ztr), (cAI g zrc 24 zrf), (cO8_iiri zm 12 3 zmc zmn), (cAI g zmc 36 zmf), (cO8_iiri zw 6 3 zwc zwn), (cAI g zwc 18 zwf), (cO8_iiri zp 8 2 zpc zpn), (cAI g zpc 16 zpf)] [5] [0, 1, 2, 3, 4, 6, 7, 8, 9, 10, 11, 12] (t_has l g zr p0 (.int 8) (.int 3) (.ref zrc) zrn) dX10_reel_8 mw647 mw648 mw649 mw64 mw650 rfl 8 rfl rfl 0 _ rfl yk_yX8_has_1 rfl (Nat.le_of_ble_eq_true rfl) (Nat.le_of_ble_eq_true rfl) (Nat.le_of_ble_eq_true rfl) (Nat.le_of_ble_eq_true rfl) (Nat.le_of_ble_eq_true rfl) rfl rfl (by decide +kernel) rfl (by decide +kernel) (by decide +kernel) ?_
  rintro r_1 w ⟨hr_2, rfl⟩
  refine k_ws [(cO10_vrrvvvvvvi h0 v0h0 tl nw v3h0 v4h0 v5h0 v6h0 v7h0 v8h0 tr), (cO3_vvvrvvvv tl v0tl v1tl v2tl yhj v4tl v5tl v6tl v7tl), (cO8_iiri yhj 8 2 yhjc yhjn), (cAI g yhjc 16 yhjf), (cO7_rrrrii nw zr zm zw zp zmd ztr), (cAI g zrc 24 zrf), (cO8_iiri zm 12 3 zmc zmn), (cAI g zmc 36 zmf), (cO8_iiri zw 6 3 zwc zwn), (cAI g zwc 18 zwf), (cO8_iiri zp 8 2 zpc zpn), (cAI g zpc 16 zpf), (cO8_iiri zr 8 3 zrc zrn)] rfl ?_
  refine k_if_eq 23 X dX10_reel_11 (by decide) (fun h_3 => ?_) (fun h_3 => ?_)
  · skip
    refine k_aload_n X dX10_reel_23 0 rfl ?_
    refine k_iconst (v := 1) X dX10_reel_24 (by decide) ?_
    refine k_callVI (n := 1) (As := [.int 1]) (st := []) X [(cO10_vrrvvvvvvi h0 v0h0 tl nw v3h0 v4h0 v5h0 v6h0 v7h0 v8h0 tr)] [(cO3_vvvrvvvv tl v0tl v1tl v2tl yhj v4tl v5tl v6tl v7tl), (cO8_iiri yhj 8 2 yhjc yhjn), (cAI g yhjc 16 yhjf), (cO7_rrrrii nw zr zm zw zp zmd ztr), (cAI g zrc 24 zrf), (cO8_iiri zm 12 3 zmc zmn), (cAI g zmc 36 zmf), (cO8_iiri zw 6 3 zwc zwn), (cAI g zwc 18 zwf), (cO8_iiri zp 8 2 zpc zpn), (cAI g zpc 16 zpf), (cO8_iiri zr 8 3 zrc zrn)] [0] [1, 2, 3, 4, 5, 6, 7, 8, 9, 10, 11, 12] (c_refuse l g h0 1 v0h0 (.ref tl) (.ref nw) v3h0 v4h0 v5h0 v6h0 v7h0 v8h0 tr) dX10_reel_25 mw215 mw216 mw217 mw2 mw218 rfl 10 rfl rfl 0 _ rfl yk_yX10_refuse_1 rfl (Nat.le_of_ble_eq_true rfl) (Nat.le_of_ble_eq_true rfl) (Nat.le_of_ble_eq_true rfl) (Nat.le_of_ble_eq_true rfl) (Nat.le_of_ble_eq_true rfl) rfl rfl (by decide +kernel) rfl (by decide +kernel) (by decide +kernel) ?_
    rintro r_5 w ⟨tr2_4, rfl⟩
    refine k_ws [(cO3_vvvrvvvv tl v0tl v1tl v2tl yhj v4tl v5tl v6tl v7tl), (cO8_iiri yhj 8 2 yhjc yhjn), (cAI g yhjc 16 yhjf), (cO7_rrrrii nw zr zm zw zp zmd ztr), (cAI g zrc 24 zrf), (cO8_iiri zm 12 3 zmc zmn), (cAI g zmc 36 zmf), (cO8_iiri zw 6 3 zwc zwn), (cAI g zwc 18 zwf), (cO8_iiri zp 8 2 zpc zpn), (cAI g zpc 16 zpf), (cO8_iiri zr 8 3 zrc zrn), (cO10_vrrvvvvvvi h0 v0h0 tl nw v3h0 v4h0 v5h0 v6h0 v7h0 v8h0 tr2_4)] rfl ?_
    exact k_iret X hr dX10_reel_28 (Nat.le_of_ble_eq_true rfl) (Nat.le_of_ble_eq_true rfl) [12, 0, 1, 2, 3, 11, 4, 5, 6, 7, 8, 9, 10] (by decide) rfl rfl ⟨tr2_4, rfl⟩
  · skip
    refine k_iload_n X dX10_reel_14 2 rfl ?_
    refine k_if_lt 23 X dX10_reel_15 (by decide) (fun h_7 => ?_) (fun h_7 => ?_)
    · skip
      refine k_aload_n X dX10_reel_23 0 rfl ?_
      refine k_iconst (v := 1) X dX10_reel_24 (by decide) ?_
      refine k_callVI (n := 1) (As := [.int 1]) (st := []) X [(cO10_vrrvvvvvvi h0 v0h0 tl nw v3h0 v4h0 v5h0 v6h0 v7h0 v8h0 tr)] [(cO3_vvvrvvvv tl v0tl v1tl v2tl yhj v4tl v5tl v6tl v7tl), (cO8_iiri yhj 8 2 yhjc yhjn), (cAI g yhjc 16 yhjf), (cO7_rrrrii nw zr zm zw zp zmd ztr), (cAI g zrc 24 zrf), (cO8_iiri zm 12 3 zmc zmn), (cAI g zmc 36 zmf), (cO8_iiri zw 6 3 zwc zwn), (cAI g zwc 18 zwf), (cO8_iiri zp 8 2 zpc zpn), (cAI g zpc 16 zpf), (cO8_iiri zr 8 3 zrc zrn)] [0] [1, 2, 3, 4, 5, 6, 7, 8, 9, 10, 11, 12] (c_refuse l g h0 1 v0h0 (.ref tl) (.ref nw) v3h0 v4h0 v5h0 v6h0 v7h0 v8h0 tr) dX10_reel_25 mw215 mw216 mw217 mw2 mw218 rfl 10 rfl rfl 0 _ rfl yk_yX10_refuse_1 rfl (Nat.le_of_ble_eq_true rfl) (Nat.le_of_ble_eq_true rfl) (Nat.le_of_ble_eq_true rfl) (Nat.le_of_ble_eq_true rfl) (Nat.le_of_ble_eq_true rfl) rfl rfl (by decide +kernel) rfl (by decide +kernel) (by decide +kernel) ?_
      rintro r_9 w ⟨tr2_8, rfl⟩
      refine k_ws [(cO3_vvvrvvvv tl v0tl v1tl v2tl yhj v4tl v5tl v6tl v7tl), (cO8_iiri yhj 8 2 yhjc yhjn), (cAI g yhjc 16 yhjf), (cO7_rrrrii nw zr zm zw zp zmd ztr), (cAI g zrc 24 zrf), (cO8_iiri zm 12 3 zmc zmn), (cAI g zmc 36 zmf), (cO8_iiri zw 6 3 zwc zwn), (cAI g zwc 18 zwf), (cO8_iiri zp 8 2 zpc zpn), (cAI g zpc 16 zpf), (cO8_iiri zr 8 3 zrc zrn), (cO10_vrrvvvvvvi h0 v0h0 tl nw v3h0 v4h0 v5h0 v6h0 v7h0 v8h0 tr2_8)] rfl ?_
      exact k_iret X hr dX10_reel_28 (Nat.le_of_ble_eq_true rfl) (Nat.le_of_ble_eq_true rfl) [12, 0, 1, 2, 3, 11, 4, 5, 6, 7, 8, 9, 10] (by decide) rfl rfl ⟨tr2_8, rfl⟩
    · skip
      refine k_iload_n X dX10_reel_18 2 rfl ?_
      refine k_iconst (v := 5) X dX10_reel_19 (by decide) ?_
      refine k_ic_le 29 X dX10_reel_20 (by decide) (fun h_11 => ?_) (fun h_11 => ?_)
      · skip
        refine k_iload_n X dX10_reel_29 2 rfl ?_
        by_cases h_12 : p1 = 3
        · skip
          refine k_tableIn 56 X dX10_reel_30 (by rw [h_12]; decide) (by rw [h_12]; decide) (off := 26) (by rw [h_12]; rfl) (by decide) ?_
          refine k_aload_n X dX10_reel_56 0 rfl ?_
          refine k_aload_n X dX10_reel_57 0 rfl ?_
          refine k_get (ci := 10) X inlX10 rfl 2 (by decide) dX10_reel_58 mw24 0 rfl rfl ?_
          refine k_get (ci := 7) X inlX7 rfl 1 (by decide) dX10_reel_61 mw644 4 rfl rfl ?_
          refine k_iconst (v := 0) X dX10_reel_64 (by decide) ?_
          refine k_iload_n X dX10_reel_65 1 rfl ?_
          refine k_callVI (n := 2) (As := [.int 0, .int p0]) (st := [.ref h0]) X [(cO8_iiri zm 12 3 zmc zmn), (cAI g zmc 36 zmf)] [(cO10_vrrvvvvvvi h0 v0h0 tl nw v3h0 v4h0 v5h0 v6h0 v7h0 v8h0 tr), (cO3_vvvrvvvv tl v0tl v1tl v2tl yhj v4tl v5tl v6tl v7tl), (cO8_iiri yhj 8 2 yhjc yhjn), (cAI g yhjc 16 yhjf), (cO7_rrrrii nw zr zm zw zp zmd ztr), (cAI g zrc 24 zrf), (cO8_iiri zw 6 3 zwc zwn), (cAI g zwc 18 zwf), (cO8_iiri zp 8 2 zpc zpn), (cAI g zpc 16 zpf), (cO8_iiri zr 8 3 zrc zrn)] [6, 7] [0, 1, 2, 3, 4, 5, 8, 9, 10, 11, 12] (t_howMany l g zm 0 p0 12 3 zmc zmn 36 zmf (tbk_12_3)) dX10_reel_66 mw651 mw652 mw653 mw64 mw654 rfl 8 rfl rfl 0 _ rfl yk_yX8_howMany_2 rfl (Nat.le_of_ble_eq_true rfl) (Nat.le_of_ble_eq_true rfl) (Nat.le_of_ble_eq_true rfl) (Nat.le_of_ble_eq_true rfl) (Nat.le_of_ble_eq_true rfl) rfl rfl (by decide +kernel) rfl (by decide +kernel) (by decide +kernel) ?_
          rintro r_13 w rfl
          refine k_ws [(cO10_vrrvvvvvvi h0 v0h0 tl nw v3h0 v4h0 v5h0 v6h0 v7h0 v8h0 tr), (cO3_vvvrvvvv tl v0tl v1tl v2tl yhj v4tl v5tl v6tl v7tl), (cO8_iiri yhj 8 2 yhjc yhjn), (cAI g yhjc 16 yhjf), (cO7_rrrrii nw zr zm zw zp zmd ztr), (cAI g zrc 24 zrf), (cO8_iiri zw 6 3 zwc zwn), (cAI g zwc 18 zwf), (cO8_iiri zp 8 2 zpc zpn), (cAI g zpc 16 zpf), (cO8_iiri zr 8 3 zrc zrn), (cO8_iiri zm 12 3 zmc zmn), (cAI g zmc 36 zmf)] rfl ?_
          refine k_callVI (n := 1) (As := [.int r_13]) (st := []) X [(cO10_vrrvvvvvvi h0 v0h0 tl nw v3h0 v4h0 v5h0 v6h0 v7h0 v8h0 tr)] [(cO3_vvvrvvvv tl v0tl v1tl v2tl yhj v4tl v5tl v6tl v7tl), (cO8_iiri yhj 8 2 yhjc yhjn), (cAI g yhjc 16 yhjf), (cO7_rrrrii nw zr zm zw zp zmd ztr), (cAI g zrc 24 zrf), (cO8_iiri zw 6 3 zwc zwn), (cAI g zwc 18 zwf), (cO8_iiri zp 8 2 zpc zpn), (cAI g zpc 16 zpf), (cO8_iiri zr 8 3 zrc zrn), (cO8_iiri zm 12 3 zmc zmn), (cAI g zmc 36 zmf)] [0] [1, 2, 3, 4, 5, 6, 7, 8, 9, 10, 11, 12] (c_tell l g h0 r_13 v0h0 (.ref tl) (.ref nw) v3h0 v4h0 v5h0 v6h0 v7h0 v8h0 tr) dX10_reel_69 mw460 mw461 mw462 mw2 mw463 rfl 10 rfl rfl 0 _ rfl yk_yX10_tell_1 rfl (Nat.le_of_ble_eq_true rfl) (Nat.le_of_ble_eq_true rfl) (Nat.le_of_ble_eq_true rfl) (Nat.le_of_ble_eq_true rfl) (Nat.le_of_ble_eq_true rfl) rfl rfl (by decide +kernel) rfl (by decide +kernel) (by decide +kernel) ?_
          rintro r_16 w ⟨tr2_15, rfl⟩
          refine k_ws [(cO3_vvvrvvvv tl v0tl v1tl v2tl yhj v4tl v5tl v6tl v7tl), (cO8_iiri yhj 8 2 yhjc yhjn), (cAI g yhjc 16 yhjf), (cO7_rrrrii nw zr zm zw zp zmd ztr), (cAI g zrc 24 zrf), (cO8_iiri zw 6 3 zwc zwn), (cAI g zwc 18 zwf), (cO8_iiri zp 8 2 zpc zpn), (cAI g zpc 16 zpf), (cO8_iiri zr 8 3 zrc zrn), (cO8_iiri zm 12 3 zmc zmn), (cAI g zmc 36 zmf), (cO10_vrrvvvvvvi h0 v0h0 tl nw v3h0 v4h0 v5h0 v6h0 v7h0 v8h0 tr2_15)] rfl ?_
          exact k_iret X hr dX10_reel_72 (Nat.le_of_ble_eq_true rfl) (Nat.le_of_ble_eq_true rfl) [12, 0, 1, 2, 3, 9, 4, 10, 11, 5, 6, 7, 8] (by decide) rfl rfl ⟨tr2_15, rfl⟩
        by_cases h_18 : p1 = 4
        · skip
          refine k_tableIn 73 X dX10_reel_30 (by rw [h_18]; decide) (by rw [h_18]; decide) (off := 43) (by rw [h_18]; rfl) (by decide) ?_
          refine k_aload_n X dX10_reel_73 0 rfl ?_
          refine k_aload_n X dX10_reel_74 0 rfl ?_
          refine k_get (ci := 10) X inlX10 rfl 1 (by decide) dX10_reel_75 mw20 0 rfl rfl ?_
          refine k_get (ci := 3) X inlX3 rfl 3 (by decide) dX10_reel_78 mw645 1 rfl rfl ?_
          refine k_iconst (v := 0) X dX10_reel_81 (by decide) ?_
          refine k_iload_n X dX10_reel_82 1 rfl ?_
          refine k_callVI (n := 2) (As := [.int 0, .int p0]) (st := [.ref h0]) X [(cO8_iiri yhj 8 2 yhjc yhjn), (cAI g yhjc 16 yhjf)] [(cO10_vrrvvvvvvi h0 v0h0 tl nw v3h0 v4h0 v5h0 v6h0 v7h0 v8h0 tr), (cO3_vvvrvvvv tl v0tl v1tl v2tl yhj v4tl v5tl v6tl v7tl), (cO7_rrrrii nw zr zm zw zp zmd ztr), (cAI g zrc 24 zrf), (cO8_iiri zm 12 3 zmc zmn), (cAI g zmc 36 zmf), (cO8_iiri zw 6 3 zwc zwn), (cAI g zwc 18 zwf), (cO8_iiri zp 8 2 zpc zpn), (cAI g zpc 16 zpf), (cO8_iiri zr 8 3 zrc zrn)] [2, 3] [0, 1, 4, 5, 6, 7, 8, 9, 10, 11, 12] (t_howMany l g yhj 0 p0 8 2 yhjc yhjn 16 yhjf (tbk_8_2)) dX10_reel_83 mw651 mw652 mw653 mw64 mw654 rfl 8 rfl rfl 0 _ rfl yk_yX8_howMany_2 rfl (Nat.le_of_ble_eq_true rfl) (Nat.le_of_ble_eq_true rfl) (Nat.le_of_ble_eq_true rfl) (Nat.le_of_ble_eq_true rfl) (Nat.le_of_ble_eq_true rfl) rfl rfl (by decide +kernel) rfl (by decide +kernel) (by decide +kernel) ?_
          rintro r_19 w rfl
          refine k_ws [(cO10_vrrvvvvvvi h0 v0h0 tl nw v3h0 v4h0 v5h0 v6h0 v7h0 v8h0 tr), (cO3_vvvrvvvv tl v0tl v1tl v2tl yhj v4tl v5tl v6tl v7tl), (cO7_rrrrii nw zr zm zw zp zmd ztr), (cAI g zrc 24 zrf), (cO8_iiri zm 12 3 zmc zmn), (cAI g zmc 36 zmf), (cO8_iiri zw 6 3 zwc zwn), (cAI g zwc 18 zwf), (cO8_iiri zp 8 2 zpc zpn), (cAI g zpc 16 zpf), (cO8_iiri zr 8 3 zrc zrn), (cO8_iiri yhj 8 2 yhjc yhjn), (cAI g yhjc 16 yhjf)] rfl ?_
          refine k_aload_n X dX10_reel_86 0 rfl ?_
          refine k_get (ci := 10) X inlX10 rfl 2 (by decide) dX10_reel_87 mw24 0 rfl rfl ?_
          refine k_iload_n X dX10_reel_90 1 rfl ?_
          refine k_callVI (n := 1) (As := [.int p0]) (st := [.int r_19, .ref h0]) X [(cO7_rrrrii nw zr zm zw zp zmd ztr), (cO8_iiri zw 6 3 zwc zwn), (cAI g zwc 18 zwf)] [(cO10_vrrvvvvvvi h0 v0h0 tl nw v3h0 v4h0 v5h0 v6h0 v7h0 v8h0 tr), (cO3_vvvrvvvv tl v0tl v1tl v2tl yhj v4tl v5tl v6tl v7tl), (cAI g zrc 24 zrf), (cO8_iiri zm 12 3 zmc zmn), (cAI g zmc 36 zmf), (cO8_iiri zp 8 2 zpc zpn), (cAI g zpc 16 zpf), (cO8_iiri zr 8 3 zrc zrn), (cO8_iiri yhj 8 2 yhjc yhjn), (cAI g yhjc 16 yhjf)] [2, 6, 7] [0, 1, 3, 4, 5, 8, 9, 10, 11, 12] (s_mendedOn l g nw p0 (.ref zr) (.ref zm) zw (.ref zp) zmd ztr zwc zwn zwf) dX10_reel_91 mw656 mw657 mw658 mw23 mw659 rfl 7 rfl rfl 0 _ rfl yk_yX7_mendedOn_1 rfl (Nat.le_of_ble_eq_true rfl) (Nat.le_of_ble_eq_true rfl) (Nat.le_of_ble_eq_true rfl) (Nat.le_of_ble_eq_true rfl) (Nat.le_of_ble_eq_true rfl) rfl rfl (by decide +kernel) rfl (by decide +kernel) (by decide +kernel) ?_
          rintro r_21 w rfl
          refine k_ws [(cO10_vrrvvvvvvi h0 v0h0 tl nw v3h0 v4h0 v5h0 v6h0 v7h0 v8h0 tr), (cO3_vvvrvvvv tl v0tl v1tl v2tl yhj v4tl v5tl v6tl v7tl), (cAI g zrc 24 zrf), (cO8_iiri zm 12 3 zmc zmn), (cAI g zmc 36 zmf), (cO8_iiri zp 8 2 zpc zpn), (cAI g zpc 16 zpf), (cO8_iiri zr 8 3 zrc zrn), (cO8_iiri yhj 8 2 yhjc yhjn), (cAI g yhjc 16 yhjf), (cO7_rrrrii nw zr zm zw zp zmd ztr), (cO8_iiri zw 6 3 zwc zwn), (cAI g zwc 18 zwf)] rfl ?_
          refine k_iadd X dX10_reel_94 ?_
          refine k_nm (fun z_23 ez_23 => ?_)
          refine k_callVI (n := 1) (As := [.int z_23]) (st := []) X [(cO10_vrrvvvvvvi h0 v0h0 tl nw v3h0 v4h0 v5h0 v6h0 v7h0 v8h0 tr)] [(cO3_vvvrvvvv tl v0tl v1tl v2tl yhj v4tl v5tl v6tl v7tl), (cAI g zrc 24 zrf), (cO8_iiri zm 12 3 zmc zmn), (cAI g zmc 36 zmf), (cO8_iiri zp 8 2 zpc zpn), (cAI g zpc 16 zpf), (cO8_iiri zr 8 3 zrc zrn), (cO8_iiri yhj 8 2 yhjc yhjn), (cAI g yhjc 16 yhjf), (cO7_rrrrii nw zr zm zw zp zmd ztr), (cO8_iiri zw 6 3 zwc zwn), (cAI g zwc 18 zwf)] [0] [1, 2, 3, 4, 5, 6, 7, 8, 9, 10, 11, 12] (c_tell l g h0 z_23 v0h0 (.ref tl) (.ref nw) v3h0 v4h0 v5h0 v6h0 v7h0 v8h0 tr) dX10_reel_95 mw460 mw461 mw462 mw2 mw463 rfl 10 rfl rfl 0 _ rfl yk_yX10_tell_1 rfl (Nat.le_of_ble_eq_true rfl) (Nat.le_of_ble_eq_true rfl) (Nat.le_of_ble_eq_true rfl) (Nat.le_of_ble_eq_true rfl) (Nat.le_of_ble_eq_true rfl) rfl rfl (by decide +kernel) rfl (by decide +kernel) (by decide +kernel) ?_
          rintro r_25 w ⟨tr2_24, rfl⟩
          refine k_ws [(cO3_vvvrvvvv tl v0tl v1tl v2tl yhj v4tl v5tl v6tl v7tl), (cAI g zrc 24 zrf), (cO8_iiri zm 12 3 zmc zmn), (cAI g zmc 36 zmf), (cO8_iiri zp 8 2 zpc zpn), (cAI g zpc 16 zpf), (cO8_iiri zr 8 3 zrc zrn), (cO8_iiri yhj 8 2 yhjc yhjn), (cAI g yhjc 16 yhjf), (cO7_rrrrii nw zr zm zw zp zmd ztr), (cO8_iiri zw 6 3 zwc zwn), (cAI g zwc 18 zwf), (cO10_vrrvvvvvvi h0 v0h0 tl nw v3h0 v4h0 v5h0 v6h0 v7h0 v8h0 tr2_24)] rfl ?_
          exact k_iret X hr dX10_reel_98 (Nat.le_of_ble_eq_true rfl) (Nat.le_of_ble_eq_true rfl) [12, 0, 7, 8, 9, 6, 1, 2, 3, 10, 11, 4, 5] (by decide) rfl rfl ⟨tr2_24, rfl⟩
        by_cases h_27 : p1 = 5
        · skip
          refine k_tableIn 99 X dX10_reel_30 (by rw [h_27]; decide) (by rw [h_27]; decide) (off := 69) (by rw [h_27]; rfl) (by decide) ?_
          refine k_aload_n X dX10_reel_99 0 rfl ?_
          refine k_aload_n X dX10_reel_100 0 rfl ?_
          refine k_get (ci := 10) X inlX10 rfl 2 (by decide) dX10_reel_101 mw24 0 rfl rfl ?_
          refine k_get (ci := 7) X inlX7 rfl 2 (by decide) dX10_reel_104 mw646 4 rfl rfl ?_
          refine k_iconst (v := 0) X dX10_reel_107 (by decide) ?_
          refine k_iload_n X dX10_reel_108 1 rfl ?_
          refine k_callVI (n := 2) (As := [.int 0, .int p0]) (st := [.ref h0]) X [(cO8_iiri zw 6 3 zwc zwn), (cAI g zwc 18 zwf)] [(cO10_vrrvvvvvvi h0 v0h0 tl nw v3h0 v4h0 v5h0 v6h0 v7h0 v8h0 tr), (cO3_vvvrvvvv tl v0tl v1tl v2tl yhj v4tl v5tl v6tl v7tl), (cO8_iiri yhj 8 2 yhjc yhjn), (cAI g yhjc 16 yhjf), (cO7_rrrrii nw zr zm zw zp zmd ztr), (cAI g zrc 24 zrf), (cO8_iiri zm 12 3 zmc zmn), (cAI g zmc 36 zmf), (cO8_iiri zp 8 2 zpc zpn), (cAI g zpc 16 zpf), (cO8_iiri zr 8 3 zrc zrn)] [8, 9] [0, 1, 2, 3, 4, 5, 6, 7, 10, 11, 12] (t_howMany l g zw 0 p0 6 3 zwc zwn 18 zwf (tbk_6_3)) dX10_reel_109 mw651 mw652 mw653 mw64 mw654 rfl 8 rfl rfl 0 _ rfl yk_yX8_howMany_2 rfl (Nat.le_of_ble_eq_true rfl) (Nat.le_of_ble_eq_true rfl) (Nat.le_of_ble_eq_true rfl) (Nat.le_of_ble_eq_true rfl) (Nat.le_of_ble_eq_true rfl) rfl rfl (by decide +kernel) rfl (by decide +kernel) (by decide +kernel) ?_
          rintro r_28 w rfl
          refine k_ws [(cO10_vrrvvvvvvi h0 v0h0 tl nw v3h0 v4h0 v5h0 v6h0 v7h0 v8h0 tr), (cO3_vvvrvvvv tl v0tl v1tl v2tl yhj v4tl v5tl v6tl v7tl), (cO8_iiri yhj 8 2 yhjc yhjn), (cAI g yhjc 16 yhjf), (cO7_rrrrii nw zr zm zw zp zmd ztr), (cAI g zrc 24 zrf), (cO8_iiri zm 12 3 zmc zmn), (cAI g zmc 36 zmf), (cO8_iiri zp 8 2 zpc zpn), (cAI g zpc 16 zpf), (cO8_iiri zr 8 3 zrc zrn), (cO8_iiri zw 6 3 zwc zwn), (cAI g zwc 18 zwf)] rfl ?_
          refine k_aload_n X dX10_reel_112 0 rfl ?_
          refine k_get (ci := 10) X inlX10 rfl 2 (by decide) dX10_reel_113 mw24 0 rfl rfl ?_
          refine k_iload_n X dX10_reel_116 1 rfl ?_
          refine k_callVI (n := 1) (As := [.int p0]) (st := [.int r_28, .ref h0]) X [(cO7_rrrrii nw zr zm zw zp zmd ztr), (cO8_iiri zw 6 3 zwc zwn), (cAI g zwc 18 zwf)] [(cO10_vrrvvvvvvi h0 v0h0 tl nw v3h0 v4h0 v5h0 v6h0 v7h0 v8h0 tr), (cO3_vvvrvvvv tl v0tl v1tl v2tl yhj v4tl v5tl v6tl v7tl), (cO8_iiri yhj 8 2 yhjc yhjn), (cAI g yhjc 16 yhjf), (cAI g zrc 24 zrf), (cO8_iiri zm 12 3 zmc zmn), (cAI g zmc 36 zmf), (cO8_iiri zp 8 2 zpc zpn), (cAI g zpc 16 zpf), (cO8_iiri zr 8 3 zrc zrn)] [4, 11, 12] [0, 1, 2, 3, 5, 6, 7, 8, 9, 10] (s_mendedOn l g nw p0 (.ref zr) (.ref zm) zw (.ref zp) zmd ztr zwc zwn zwf) dX10_reel_117 mw656 mw657 mw658 mw23 mw659 rfl 7 rfl rfl 0 _ rfl yk_yX7_mendedOn_1 rfl (Nat.le_of_ble_eq_true rfl) (Nat.le_of_ble_eq_true rfl) (Nat.le_of_ble_eq_true rfl) (Nat.le_of_ble_eq_true rfl) (Nat.le_of_ble_eq_true rfl) rfl rfl (by decide +kernel) rfl (by decide +kernel) (by decide +kernel) ?_
          rintro r_30 w rfl
          refine k_ws [(cO10_vrrvvvvvvi h0 v0h0 tl nw v3h0 v4h0 v5h0 v6h0 v7h0 v8h0 tr), (cO3_vvvrvvvv tl v0tl v1tl v2tl yhj v4tl v5tl v6tl v7tl), (cO8_iiri yhj 8 2 yhjc yhjn), (cAI g yhjc 16 yhjf), (cAI g zrc 24 zrf), (cO8_iiri zm 12 3 zmc zmn), (cAI g zmc 36 zmf), (cO8_iiri zp 8 2 zpc zpn), (cAI g zpc 16 zpf), (cO8_iiri zr 8 3 zrc zrn), (cO7_rrrrii nw zr zm zw zp zmd ztr), (cO8_iiri zw 6 3 zwc zwn), (cAI g zwc 18 zwf)] rfl ?_
          refine k_isub X dX10_reel_120 ?_
          refine k_nm (fun z_32 ez_32 => ?_)
          refine k_callVI (n := 1) (As := [.int z_32]) (st := []) X [(cO10_vrrvvvvvvi h0 v0h0 tl nw v3h0 v4h0 v5h0 v6h0 v7h0 v8h0 tr)] [(cO3_vvvrvvvv tl v0tl v1tl v2tl yhj v4tl v5tl v6tl v7tl), (cO8_iiri yhj 8 2 yhjc yhjn), (cAI g yhjc 16 yhjf), (cAI g zrc 24 zrf), (cO8_iiri zm 12 3 zmc zmn), (cAI g zmc 36 zmf), (cO8_iiri zp 8 2 zpc zpn), (cAI g zpc 16 zpf), (cO8_iiri zr 8 3 zrc zrn), (cO7_rrrrii nw zr zm zw zp zmd ztr), (cO8_iiri zw 6 3 zwc zwn), (cAI g zwc 18 zwf)] [0] [1, 2, 3, 4, 5, 6, 7, 8, 9, 10, 11, 12] (c_tell l g h0 z_32 v0h0 (.ref tl) (.ref nw) v3h0 v4h0 v5h0 v6h0 v7h0 v8h0 tr) dX10_reel_121 mw460 mw461 mw462 mw2 mw463 rfl 10 rfl rfl 0 _ rfl yk_yX10_tell_1 rfl (Nat.le_of_ble_eq_true rfl) (Nat.le_of_ble_eq_true rfl) (Nat.le_of_ble_eq_true rfl) (Nat.le_of_ble_eq_true rfl) (Nat.le_of_ble_eq_true rfl) rfl rfl (by decide +kernel) rfl (by decide +kernel) (by decide +kernel) ?_
          rintro r_34 w ⟨tr2_33, rfl⟩
          refine k_ws [(cO3_vvvrvvvv tl v0tl v1tl v2tl yhj v4tl v5tl v6tl v7tl), (cO8_iiri yhj 8 2 yhjc yhjn), (cAI g yhjc 16 yhjf), (cAI g zrc 24 zrf), (cO8_iiri zm 12 3 zmc zmn), (cAI g zmc 36 zmf), (cO8_iiri zp 8 2 zpc zpn), (cAI g zpc 16 zpf), (cO8_iiri zr 8 3 zrc zrn), (cO7_rrrrii nw zr zm zw zp zmd ztr), (cO8_iiri zw 6 3 zwc zwn), (cAI g zwc 18 zwf), (cO10_vrrvvvvvvi h0 v0h0 tl nw v3h0 v4h0 v5h0 v6h0 v7h0 v8h0 tr2_33)] rfl ?_
          exact k_iret X hr dX10_reel_124 (Nat.le_of_ble_eq_true rfl) (Nat.le_of_ble_eq_true rfl) [12, 0, 1, 2, 9, 8, 3, 4, 5, 10, 11, 6, 7] (by decide) rfl rfl ⟨tr2_33, rfl⟩
        refine k_tableOut 125 X dX10_reel_30 (by have eh_12 : p1.toInt ≠ 3 := fun q => h_12 (Int32.toInt_inj.mp (q.trans (by decide))); have eh_18 : p1.toInt ≠ 4 := fun q => h_18 (Int32.toInt_inj.mp (q.trans (by decide))); have eh_27 : p1.toInt ≠ 5 := fun q => h_27 (Int32.toInt_inj.mp (q.trans (by decide))); omega) (by decide) ?_
        refine k_aload_n X dX10_reel_125 0 rfl ?_
        refine k_aload_n X dX10_reel_126 0 rfl ?_
        refine k_get (ci := 10) X inlX10 rfl 2 (by decide) dX10_reel_127 mw24 0 rfl rfl ?_
        refine k_get (ci := 7) X inlX7 rfl 0 (by decide) dX10_reel_130 mw643 4 rfl rfl ?_
        refine k_iload_n X dX10_reel_133 1 rfl ?_
        refine k_iload_n X dX10_reel_134 2 rfl ?_
        refine k_callVI (n := 2) (As := [.int p0, .int p1]) (st := [.ref h0]) X [(cO8_iiri zr 8 3 zrc zrn), (cAI g zrc 24 zrf)] [(cO10_vrrvvvvvvi h0 v0h0 tl nw v3h0 v4h0 v5h0 v6h0 v7h0 v8h0 tr), (cO3_vvvrvvvv tl v0tl v1tl v2tl yhj v4tl v5tl v6tl v7tl), (cO8_iiri yhj 8 2 yhjc yhjn), (cAI g yhjc 16 yhjf), (cO7_rrrrii nw zr zm zw zp zmd ztr), (cO8_iiri zm 12 3 zmc zmn), (cAI g zmc 36 zmf), (cO8_iiri zw 6 3 zwc zwn), (cAI g zwc 18 zwf), (cO8_iiri zp 8 2 zpc zpn), (cAI g zpc 16 zpf)] [12, 5] [0, 1, 2, 3, 4, 6, 7, 8, 9, 10, 11] (t_at l g zr p0 p1 8 3 zrc zrn 24 zrf (tbk_8_3)) dX10_reel_135 mw665 mw376 mw377 mw64 mw378 rfl 8 rfl rfl 0 _ rfl yk_yX8_at_2 rfl (Nat.le_of_ble_eq_true rfl) (Nat.le_of_ble_eq_true rfl) (Nat.le_of_ble_eq_true rfl) (Nat.le_of_ble_eq_true rfl) (Nat.le_of_ble_eq_true rfl) rfl rfl (by decide +kernel) rfl (by decide +kernel) (by decide +kernel) ?_
        rintro r_36 w ⟨hr_37, rfl⟩
        refine k_ws [(cO10_vrrvvvvvvi h0 v0h0 tl nw v3h0 v4h0 v5h0 v6h0 v7h0 v8h0 tr), (cO3_vvvrvvvv tl v0tl v1tl v2tl yhj v4tl v5tl v6tl v7tl), (cO8_iiri yhj 8 2 yhjc yhjn), (cAI g yhjc 16 yhjf), (cO7_rrrrii nw zr zm zw zp zmd ztr), (cO8_iiri zm 12 3 zmc zmn), (cAI g zmc 36 zmf), (cO8_iiri zw 6 3 zwc zwn), (cAI g zwc 18 zwf), (cO8_iiri zp 8 2 zpc zpn), (cAI g zpc 16 zpf), (cO8_iiri zr 8 3 zrc zrn), (cAI g zrc 24 zrf)] rfl ?_
        refine k_callVI (n := 1) (As := [.int r_36]) (st := []) X [(cO10_vrrvvvvvvi h0 v0h0 tl nw v3h0 v4h0 v5h0 v6h0 v7h0 v8h0 tr)] [(cO3_vvvrvvvv tl v0tl v1tl v2tl yhj v4tl v5tl v6tl v7tl), (cO8_iiri yhj 8 2 yhjc yhjn), (cAI g yhjc 16 yhjf), (cO7_rrrrii nw zr zm zw zp zmd ztr), (cO8_iiri zm 12 3 zmc zmn), (cAI g zmc 36 zmf), (cO8_iiri zw 6 3 zwc zwn), (cAI g zwc 18 zwf), (cO8_iiri zp 8 2 zpc zpn), (cAI g zpc 16 zpf), (cO8_iiri zr 8 3 zrc zrn), (cAI g zrc 24 zrf)] [0] [1, 2, 3, 4, 5, 6, 7, 8, 9, 10, 11, 12] (c_tell l g h0 r_36 v0h0 (.ref tl) (.ref nw) v3h0 v4h0 v5h0 v6h0 v7h0 v8h0 tr) dX10_reel_138 mw460 mw461 mw462 mw2 mw463 rfl 10 rfl rfl 0 _ rfl yk_yX10_tell_1 rfl (Nat.le_of_ble_eq_true rfl) (Nat.le_of_ble_eq_true rfl) (Nat.le_of_ble_eq_true rfl) (Nat.le_of_ble_eq_true rfl) (Nat.le_of_ble_eq_true rfl) rfl rfl (by decide +kernel) rfl (by decide +kernel) (by decide +kernel) ?_
        rintro r_39 w ⟨tr2_38, rfl⟩
        refine k_ws [(cO3_vvvrvvvv tl v0tl v1tl v2tl yhj v4tl v5tl v6tl v7tl), (cO8_iiri yhj 8 2 yhjc yhjn), (cAI g yhjc 16 yhjf), (cO7_rrrrii nw zr zm zw zp zmd ztr), (cO8_iiri zm 12 3 zmc zmn), (cAI g zmc 36 zmf), (cO8_iiri zw 6 3 zwc zwn), (cAI g zwc 18 zwf), (cO8_iiri zp 8 2 zpc zpn), (cAI g zpc 16 zpf), (cO8_iiri zr 8 3 zrc zrn), (cAI g zrc 24 zrf), (cO10_vrrvvvvvvi h0 v0h0 tl nw v3h0 v4h0 v5h0 v6h0 v7h0 v8h0 tr2_38)] rfl ?_
        exact k_iret X hr dX10_reel_141 (Nat.le_of_ble_eq_true rfl) (Nat.le_of_ble_eq_true rfl) [12, 0, 1, 2, 3, 10, 11, 4, 5, 6, 7, 8, 9] (by decide) rfl rfl ⟨tr2_38, rfl⟩
      · skip
        refine k_aload_n X dX10_reel_23 0 rfl ?_
        refine k_iconst (v := 1) X dX10_reel_24 (by decide) ?_
        refine k_callVI (n := 1) (As := [.int 1]) (st := []) X [(cO10_vrrvvvvvvi h0 v0h0 tl nw v3h0 v4h0 v5h0 v6h0 v7h0 v8h0 tr)] [(cO3_vvvrvvvv tl v0tl v1tl v2tl yhj v4tl v5tl v6tl v7tl), (cO8_iiri yhj 8 2 yhjc yhjn), (cAI g yhjc 16 yhjf), (cO7_rrrrii nw zr zm zw zp zmd ztr), (cAI g zrc 24 zrf), (cO8_iiri zm 12 3 zmc zmn), (cAI g zmc 36 zmf), (cO8_iiri zw 6 3 zwc zwn), (cAI g zwc 18 zwf), (cO8_iiri zp 8 2 zpc zpn), (cAI g zpc 16 zpf), (cO8_iiri zr 8 3 zrc zrn)] [0] [1, 2, 3, 4, 5, 6, 7, 8, 9, 10, 11, 12] (c_refuse l g h0 1 v0h0 (.ref tl) (.ref nw) v3h0 v4h0 v5h0 v6h0 v7h0 v8h0 tr) dX10_reel_25 mw215 mw216 mw217 mw2 mw218 rfl 10 rfl rfl 0 _ rfl yk_yX10_refuse_1 rfl (Nat.le_of_ble_eq_true rfl) (Nat.le_of_ble_eq_true rfl) (Nat.le_of_ble_eq_true rfl) (Nat.le_of_ble_eq_true rfl) (Nat.le_of_ble_eq_true rfl) rfl rfl (by decide +kernel) rfl (by decide +kernel) (by decide +kernel) ?_
        rintro r_42 w ⟨tr2_41, rfl⟩
        refine k_ws [(cO3_vvvrvvvv tl v0tl v1tl v2tl yhj v4tl v5tl v6tl v7tl), (cO8_iiri yhj 8 2 yhjc yhjn), (cAI g yhjc 16 yhjf), (cO7_rrrrii nw zr zm zw zp zmd ztr), (cAI g zrc 24 zrf), (cO8_iiri zm 12 3 zmc zmn), (cAI g zmc 36 zmf), (cO8_iiri zw 6 3 zwc zwn), (cAI g zwc 18 zwf), (cO8_iiri zp 8 2 zpc zpn), (cAI g zpc 16 zpf), (cO8_iiri zr 8 3 zrc zrn), (cO10_vrrvvvvvvi h0 v0h0 tl nw v3h0 v4h0 v5h0 v6h0 v7h0 v8h0 tr2_41)] rfl ?_
        exact k_iret X hr dX10_reel_28 (Nat.le_of_ble_eq_true rfl) (Nat.le_of_ble_eq_true rfl) [12, 0, 1, 2, 3, 11, 4, 5, 6, 7, 8, 9, 10] (by decide) rfl rfl ⟨tr2_41, rfl⟩
