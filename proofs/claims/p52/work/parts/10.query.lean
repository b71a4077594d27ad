theorem dX10_dies_0 : decode cX10_dies 0 = .ok (.aload_n 0, 1) := dk_42 rfl
theorem dX10_dies_1 : decode cX10_dies 1 = .ok (.getfield 26, 3) := dk_180 rfl rfl rfl rfl
theorem dX10_dies_4 : decode cX10_dies 4 = .ok (.getfield 109, 3) := dk_180 rfl rfl rfl rfl
theorem dX10_dies_7 : decode cX10_dies 7 = .ok (.iload_n 2, 1) := dk_28 rfl
theorem dX10_dies_8 : decode cX10_dies 8 = .ok (.invokevirtual 127, 3) := dk_182 rfl rfl rfl rfl
theorem dX10_dies_11 : decode cX10_dies 11 = .ok (.ifCond .eq 11, 3) := dk_153 rfl rfl rfl (by decide)
theorem dX10_dies_14 : decode cX10_dies 14 = .ok (.aload_n 0, 1) := dk_42 rfl
theorem dX10_dies_15 : decode cX10_dies 15 = .ok (.iload_n 1, 1) := dk_27 rfl
theorem dX10_dies_16 : decode cX10_dies 16 = .ok (.invokevirtual 163, 3) := dk_182 rfl rfl rfl rfl
theorem dX10_dies_19 : decode cX10_dies 19 = .ok (.ifCond .ne 9, 3) := dk_154 rfl rfl rfl (by decide)
theorem dX10_dies_22 : decode cX10_dies 22 = .ok (.aload_n 0, 1) := dk_42 rfl
theorem dX10_dies_23 : decode cX10_dies 23 = .ok (.iconst 1, 1) := dk_4 rfl
theorem dX10_dies_24 : decode cX10_dies 24 = .ok (.invokevirtual 83, 3) := dk_182 rfl rfl rfl rfl
theorem dX10_dies_27 : decode cX10_dies 27 = .ok (.ireturn, 1) := dk_172 rfl
theorem dX10_dies_28 : decode cX10_dies 28 = .ok (.aload_n 0, 1) := dk_42 rfl
theorem dX10_dies_29 : decode cX10_dies 29 = .ok (.getfield 47, 3) := dk_180 rfl rfl rfl rfl
theorem dX10_dies_32 : decode cX10_dies 32 = .ok (.aload_n 0, 1) := dk_42 rfl
theorem dX10_dies_33 : decode cX10_dies 33 = .ok (.getfield 19, 3) := dk_180 rfl rfl rfl rfl
theorem dX10_dies_36 : decode cX10_dies 36 = .ok (.aload_n 0, 1) := dk_42 rfl
theorem dX10_dies_37 : decode cX10_dies 37 = .ok (.getfield 40, 3) := dk_180 rfl rfl rfl rfl
theorem dX10_dies_40 : decode cX10_dies 40 = .ok (.aload_n 0, 1) := dk_42 rfl
theorem dX10_dies_41 : decode cX10_dies 41 = .ok (.getfield 26, 3) := dk_180 rfl rfl rfl rfl
theorem dX10_dies_44 : decode cX10_dies 44 = .ok (.getfield 210, 3) := dk_180 rfl rfl rfl rfl
theorem dX10_dies_47 : decode cX10_dies 47 = .ok (.invokevirtual 213, 3) := dk_182 rfl rfl rfl rfl
theorem dX10_dies_50 : decode cX10_dies 50 = .ok (.aload_n 0, 1) := dk_42 rfl
theorem dX10_dies_51 : decode cX10_dies 51 = .ok (.aload_n 0, 1) := dk_42 rfl
theorem dX10_dies_52 : decode cX10_dies 52 = .ok (.getfield 47, 3) := dk_180 rfl rfl rfl rfl
theorem dX10_dies_55 : decode cX10_dies 55 = .ok (.getfield 217, 3) := dk_180 rfl rfl rfl rfl
theorem dX10_dies_58 : decode cX10_dies 58 = .ok (.iload_n 2, 1) := dk_28 rfl
theorem dX10_dies_59 : decode cX10_dies 59 = .ok (.ishr, 1) := dk_122 rfl
theorem dX10_dies_60 : decode cX10_dies 60 = .ok (.iconst 1, 1) := dk_4 rfl
theorem dX10_dies_61 : decode cX10_dies 61 = .ok (.iand, 1) := dk_126 rfl
theorem dX10_dies_62 : decode cX10_dies 62 = .ok (.invokevirtual 118, 3) := dk_182 rfl rfl rfl rfl
theorem dX10_dies_65 : decode cX10_dies 65 = .ok (.ireturn, 1) := dk_172 rfl
set_option maxHeartbeats 4000000 in
set_option maxRecDepth 100000 in
theorem c_dies (l : Launch) (g : Gx) (h0 : Nat) (p0 : Int32) (p1 : Int32) (v0h0 : Value) (tl : Nat) (nw : Nat) (v3h0 : Value) (nn : Nat) (ac : Nat) (v6h0 : Value) (v7h0 : Value) (v8h0 : Value) (tr : Int32) (nr : Nat) (xsnapped : Int32) (xmostSlip : Int32) (xslip : Int32) (xisDrawn : Int32) (xseed : Int32) (xtick : Int32) (xmotorTick : Int32) (xahead : Int32) (nrc : Nat) (nrn : Int32) (nrf : Nat → Int32) (v0tl : Value) (yhn : Nat) (v2tl : Value) (v3tl : Value) (yhm : Nat) (v5tl : Value) (v6tl : Value) (v7tl : Value) (yhnc : Nat) (yhnn : Int32) (yhnf : Nat → Int32) (yhmc : Nat) (yhmn : Int32) (yhmf : Nat → Int32) (zr : Nat) (zm : Nat) (zw : Nat) (zp : Nat) (zmd : Int32) (ztr : Int32) (zrc : Nat) (zrn : Int32) (zrf : Nat → Int32) (zmc : Nat) (zmn : Int32) (zmf : Nat → Int32) (zwc : Nat) (zwn : Int32) (zwf : Nat → Int32) (zpc : Nat) (zpn : Int32) (zpf : Nat → Int32) (al : Nat) (xd : Int32) (alc : Nat) (aln : Int32) (alf : Nat → Int32) (hms : ¬ xmostSlip < 0) : cI l g yX10_dies cX10_dies 3 (some .int) 5 118 0 0 [.ref h0, .int p0, .int p1] [(cO10_vrrvrrvvvi h0 v0h0 tl nw v3h0 nn ac v6h0 v7h0 v8h0 tr), (cO5_riiiiiiii nn nr xsnapped xmostSlip xslip xisDrawn xseed xtick xmotorTick xahead), (cO8_iiri nr 8 10 nrc nrn), (cAI g nrc 80 nrf), (cO3_vrvvrvvv tl v0tl yhn v2tl v3tl yhm v5tl v6tl v7tl), (cO8_iiri yhn 1 6 yhnc yhnn), (cAI g yhnc 6 yhnf), (cO8_iiri yhm 4 3 yhmc yhmn), (cAI g yhmc 12 yhmf), (cO7_rrrrii nw zr zm zw zp zmd ztr), (cO8_iiri zr 8 3 zrc zrn), (cAI g zrc 24 zrf), (cO8_iiri zm 12 3 zmc zmn), (cAI g zmc 36 zmf), (cO8_iiri zw 6 3 zwc zwn), (cAI g zwc 18 zwf), (cO8_iiri zp 8 2 zpc zpn), (cAI g zpc 16 zpf), (cO0_ri ac al xd), (cO8_iiri al 8 1 alc aln), (cAI g alc 8 alf)] (fun r w => ∃ (tr2 : Int32) (xsnapped2 : Int32) (xmostSlip2 : Int32) (xslip2 : Int32) (xisDrawn2 : Int32) (xseed2 : Int32) (xtick2 : Int32) (xmotorTick2 : Int32) (xahead2 : Int32) (nrg : Nat → Int32) (nrk : Int32) (xd2 : Int32) (alg : Nat → Int32), (¬ xmostSlip2 < 0) ∧ w = [(cO10_vrrvrrvvvi h0 v0h0 tl nw v3h0 nn ac v6h0 v7h0 v8h0 tr2), (cO5_riiiiiiii nn nr xsnapped2 xmostSlip2 xslip2 xisDrawn2 xseed2 xtick2 xmotorTick2 xahead2), (cO8_iiri nr 8 10 nrc nrk), (cAI g nrc 80 nrg), (cO3_vrvvrvvv tl v0tl yhn v2tl v3tl yhm v5tl v6tl v7tl), (cO8_iiri yhn 1 6 yhnc yhnn), (cAI g yhnc 6 yhnf), (cO8_iiri yhm 4 3 yhmc yhmn), (cAI g yhmc 12 yhmf), (cO7_rrrrii nw zr zm zw zp zmd ztr), (cO8_iiri zr 8 3 zrc zrn), (cAI g zrc 24 zrf), (cO8_iiri zm 12 3 zmc zmn), (cAI g zmc 36 zmf), (cO8_iiri zw 6 3 zwc zwn), (cAI g zwc 18 zwf), (cO8_iiri zp 8 2 zpc zpn), (cAI g zpc 16 zpf), (cO0_ri ac al xd2), (cO8_iiri al 8 1 alc aln), (cAI g alc 8 alg)]) := by
  refine cI.of (by decide) (Nat.le_of_ble_eq_true rfl) ?_
  intro p e s m args below meth c A X hr hi
  refine k_lveq [(0, .ref h0), (1, .int p0), (2, .int p1)] rfl ?_
  refine k_aload_n X dX10_dies_0 0 rfl ?_
  refine k_get (ci := 10) X inlX10 rfl 2 (by decide) dX10_dies_1 mw24 0 rfl rfl ?_
  refine k_get (ci := 7) X inlX7 rfl 3 (by decide) dX10_dies_4 mw213 9 rfl rfl ?_
  refine k_iload_n X dX10_dies_7 2 rfl ?_
  refine k_callVI (n := 1) (As := [.int p1]) (st := []) X [(cO8_iiri zp 8 2 zpc zpn)] [(cO10_vrrvrrvvvi h0 v0h0 tl nw v3h0 nn ac v6h0 v7h0 v8h0 tr), (cO5_riiiiiiii nn nr xsnapped xmostSlip xslip xisDrawn xseed xtick xmotorTick xahead), (cO8_iiri nr 8 10 nrc nrn), (cAI g nrc 80 nrf), (cO3_vrvvrvvv tl v0tl yhn v2tl v3tl yhm v5tl v6tl v7tl), (cO8_iiri yhn 1 6 yhnc yhnn), (cAI g yhnc 6 yhnf), (cO8_iiri yhm 4 3 yhmc yhmn), (cAI g yhmc 12 yhmf), (cO7_rrrrii nw zr zm zw zp zmd ztr), (cO8_iiri zr 8 3 zrc zrn), (cAI g zrc 24 zrf), (cO8_iiri zm 12 3 zmc zmn), (cAI g zmc 36 zmf), (cO8_iiri zw 6 3 zwc zwn), (cAI g zwc 18 zwf), (cAI g zpc 16 zpf), (cO0_ri ac al xd), (cO8_iiri al 8 1 alc aln), (cAI g alc 8 alf)] [16] [0, 1, 2, 3, 4, 5, 6, 7, 8, 9, 10, 11, 12, 13, 14, 15, 17, 18, 19, 20] (t_has l g zp p1 (.int 8) (.int 2) (.ref zpc) zpn) dX10_dies_8 mw647 mw648 mw649 mw64 mw650 rfl 8 rfl rfl 0 _ rfl yk_yX8_has_1 rfl (Nat.le_of_ble_eq_true rfl) (Nat.le_of_ble_eq_true rfl) (Nat.le_of_ble_eq_true rfl) (Nat.le_of_ble_eq_true rfl) (Nat.le_of_ble_eq_true rfl) rfl rfl (by decide +kernel) rfl (by decide +kernel) (by decide +kernel) ?_
  rintro r_1 w ⟨hr_2, rfl⟩
  refine k_ws [(cO10_vrrvrrvvvi h0 v0h0 tl nw v3h0 nn ac v6h0 v7h0 v8h0 tr), (cO5_riiiiiiii nn nr xsnapped xmostSlip xslip xisDrawn xseed xtick xmotorTick xahead), (cO8_iiri nr 8 10 nrc nrn), (cAI g nrc 80 nrf), (cO3_vrvvrvvv tl v0tl yhn v2tl v3tl yhm v5tl v6tl v7tl), (cO8_iiri yhn 1 6 yhnc yhnn), (cAI g yhnc 6 yhnf), (cO8_iiri yhm 4 3 yhmc yhmn), (cAI g yhmc 12 yhmf), (cO7_rrrrii nw zr zm zw zp zmd ztr), (cO8_iiri zr 8 3 zrc zrn), (cAI g zrc 24 zrf), (cO8_iiri zm 12 3 zmc zmn), (cAI g zmc 36 zmf), (cO8_iiri zw 6 3 zwc zwn), (cAI g zwc 18 zwf), (cAI g zpc 16 zpf), (cO0_ri ac al xd), (cO8_iiri al 8 1 alc aln), (cAI g alc 8 alf), (cO8_iiri zp 8 2 zpc zpn)] rfl ?_
  refine k_if_eq 22 X dX10_dies_11 (by decide) (fun h_3 => ?_) (fun h_3 => ?_)
  · skip
    refine k_aload_n X dX10_dies_22 0 rfl ?_
    refine k_iconst (v := 1) X dX10_dies_23 (by decide) ?_
    refine k_callVI (n := 1) (As := [.int 1]) (st := []) X [(cO10_vrrvrrvvvi h0 v0h0 tl nw v3h0 nn ac v6h0 v7h0 v8h0 tr)] [(cO5_riiiiiiii nn nr xsnapped xmostSlip xslip xisDrawn xseed xtick xmotorTick xahead), (cO8_iiri nr 8 10 nrc nrn), (cAI g nrc 80 nrf), (cO3_vrvvrvvv tl v0tl yhn v2tl v3tl yhm v5tl v6tl v7tl), (cO8_iiri yhn 1 6 yhnc yhnn), (cAI g yhnc 6 yhnf), (cO8_iiri yhm 4 3 yhmc yhmn), (cAI g yhmc 12 yhmf), (cO7_rrrrii nw zr zm zw zp zmd ztr), (cO8_iiri zr 8 3 zrc zrn), (cAI g zrc 24 zrf), (cO8_iiri zm 12 3 zmc zmn), (cAI g zmc 36 zmf), (cO8_iiri zw 6 3 zwc zwn), (cAI g zwc 18 zwf), (cAI g zpc 16 zpf), (cO0_ri ac al xd), (cO8_iiri al 8 1 alc aln), (cAI g alc 8 alf), (cO8_iiri zp 8 2 zpc zpn)] [0] [1, 2, 3, 4, 5, 6, 7, 8, 9, 10, 11, 12, 13, 14, 15, 16, 17, 18, 19, 20] (c_refuse l g h0 1 v0h0 (.ref tl) (.ref nw) v3h0 (.ref nn) (.ref ac) v6h0 v7h0 v8h0 tr) dX10_dies_24 mw215 mw216 mw217 mw2 mw218 rfl 10 rfl rfl 0 _ rfl yk_yX10_refuse_1 rfl (Nat.le_of_ble_eq_true rfl) (Nat.le_of_ble_eq_true rfl) (Nat.le_of_ble_eq_true rfl) (Nat.le_of_ble_eq_true rfl) (Nat.le_of_ble_eq_true rfl) rfl rfl (by decide +kernel) rfl (by decide +kernel) (by decide +kernel) ?_
    rintro r_5 w ⟨tr2_4, rfl⟩
    refine k_ws [(cO5_riiiiiiii nn nr xsnapped xmostSlip xslip xisDrawn xseed xtick xmotorTick xahead), (cO8_iiri nr 8 10 nrc nrn), (cAI g nrc 80 nrf), (cO3_vrvvrvvv tl v0tl yhn v2tl v3tl yhm v5tl v6tl v7tl), (cO8_iiri yhn 1 6 yhnc yhnn), (cAI g yhnc 6 yhnf), (cO8_iiri yhm 4 3 yhmc yhmn), (cAI g yhmc 12 yhmf), (cO7_rrrrii nw zr zm zw zp zmd ztr), (cO8_iiri zr 8 3 zrc zrn), (cAI g zrc 24 zrf), (cO8_iiri zm 12 3 zmc zmn), (cAI g zmc 36 zmf), (cO8_iiri zw 6 3 zwc zwn), (cAI g zwc 18 zwf), (cAI g zpc 16 zpf), (cO0_ri ac al xd), (cO8_iiri al 8 1 alc aln), (cAI g alc 8 alf), (cO8_iiri zp 8 2 zpc zpn), (cO10_vrrvrrvvvi h0 v0h0 tl nw v3h0 nn ac v6h0 v7h0 v8h0 tr2_4)] rfl ?_
    exact k_iret X hr dX10_dies_27 (Nat.le_of_ble_eq_true rfl) (Nat.le_of_ble_eq_true rfl) [20, 0, 1, 2, 3, 4, 5, 6, 7, 8, 9, 10, 11, 12, 13, 14, 19, 15, 16, 17, 18] (by decide) rfl rfl ⟨tr2_4, xsnapped, xmostSlip, xslip, xisDrawn, xseed, xtick, xmotorTick, xahead, nrf, nrn, xd, alf, (by assumption), rfl⟩
  · skip
    refine k_aload_n X dX10_dies_14 0 rfl ?_
    refine k_iload_n X dX10_dies_15 1 rfl ?_
    refine k_callVI (n := 1) (As := [.int p0]) (st := []) X [(cO10_vrrvrrvvvi h0 v0h0 tl nw v3h0 nn ac v6h0 v7h0 v8h0 tr), (cO5_riiiiiiii nn nr xsnapped xmostSlip xslip xisDrawn xseed xtick xmotorTick xahead), (cO8_iiri nr 8 10 nrc nrn), (cAI g nrc 80 nrf), (cO3_vrvvrvvv tl v0tl yhn v2tl v3tl yhm v5tl v6tl v7tl), (cO8_iiri yhn 1 6 yhnc yhnn), (cAI g yhnc 6 yhnf), (cO8_iiri yhm 4 3 yhmc yhmn), (cAI g yhmc 12 yhmf), (cO7_rrrrii nw zr zm zw zp zmd ztr), (cO8_iiri zr 8 3 zrc zrn), (cAI g zrc 24 zrf), (cO8_iiri zm 12 3 zmc zmn), (cAI g zmc 36 zmf), (cO8_iiri zw 6 3 zwc zwn), (cAI g zwc 18 zwf), (cO8_iiri zp 8 2 zpc zpn), (cAI g zpc 16 zpf)] [(cO0_ri ac al xd), (cO8_iiri al 8 1 alc aln), (cAI g alc 8 alf)] [0, 1, 2, 3, 4, 5, 6, 7, 8, 9, 10, 11, 12, 13, 14, 15, 20, 16] [17, 18, 19] (c_runNight l g h0 p0 v0h0 tl nw v3h0 nn (.ref ac) v6h0 v7h0 v8h0 tr nr xsnapped xmostSlip xslip xisDrawn xseed xtick xmotorTick xahead nrc nrn nrf v0tl yhn v2tl v3tl yhm v5tl v6tl v7tl yhnc yhnn yhnf yhmc yhmn yhmf zr zm zw zp zmd ztr zrc zrn zrf zmc zmn zmf zwc zwn zwf zpc zpn zpf (by assumption)) dX10_dies_16 mw744 mw745 mw746 mw2 mw747 rfl 10 rfl rfl 0 _ rfl yk_yX10_runNight_1 rfl (Nat.le_of_ble_eq_true rfl) (Nat.le_of_ble_eq_true rfl) (Nat.le_of_ble_eq_true rfl) (Nat.le_of_ble_eq_true rfl) (Nat.le_of_ble_eq_true rfl) rfl rfl (by decide +kernel) rfl (by decide +kernel) (by decide +kernel) ?_
    intro r_18 w zq
    refine exE11 zq ?_
    clear zq
    intro tr2_7 xsnapped2_8 xmostSlip2_9 xslip2_10 xisDrawn2_11 xseed2_12 xtick2_13 xmotorTick2_14 xahead2_15 nrg_16 nrk_17 hr_19 zq
    subst zq
    refine k_ws [(cO0_ri ac al xd), (cO8_iiri al 8 1 alc aln), (cAI g alc 8 alf), (cO10_vrrvrrvvvi h0 v0h0 tl nw v3h0 nn ac v6h0 v7h0 v8h0 tr2_7), (cO5_riiiiiiii nn nr xsnapped2_8 xmostSlip2_9 xslip2_10 xisDrawn2_11 xseed2_12 xtick2_13 xmotorTick2_14 xahead2_15), (cO8_iiri nr 8 10 nrc nrk_17), (cAI g nrc 80 nrg_16), (cO3_vrvvrvvv tl v0tl yhn v2tl v3tl yhm v5tl v6tl v7tl), (cO8_iiri yhn 1 6 yhnc yhnn), (cAI g yhnc 6 yhnf), (cO8_iiri yhm 4 3 yhmc yhmn), (cAI g yhmc 12 yhmf), (cO7_rrrrii nw zr zm zw zp zmd ztr), (cO8_iiri zr 8 3 zrc zrn), (cAI g zrc 24 zrf), (cO8_iiri zm 12 3 zmc zmn), (cAI g zmc 36 zmf), (cO8_iiri zw 6 3 zwc zwn), (cAI g zwc 18 zwf), (cO8_iiri zp 8 2 zpc zpn), (cAI g zpc 16 zpf)] rfl ?_
    refine k_if_ne 28 X dX10_dies_19 (by decide) (fun h_20 => ?_) (fun h_20 => ?_)
    · skip
      refine k_aload_n X dX10_dies_28 0 rfl ?_
      refine k_get (ci := 10) X inlX10 rfl 5 (by decide) dX10_dies_29 mw36 3 rfl rfl ?_
      refine k_aload_n X dX10_dies_32 0 rfl ?_
      refine k_get (ci := 10) X inlX10 rfl 1 (by decide) dX10_dies_33 mw20 3 rfl rfl ?_
      refine k_aload_n X dX10_dies_36 0 rfl ?_
      refine k_get (ci := 10) X inlX10 rfl 4 (by decide) dX10_dies_37 mw32 3 rfl rfl ?_
      refine k_aload_n X dX10_dies_40 0 rfl ?_
      refine k_get (ci := 10) X inlX10 rfl 2 (by decide) dX10_dies_41 mw24 3 rfl rfl ?_
      refine k_get (ci := 7) X inlX7 rfl 5 (by decide) dX10_dies_44 mw1030 12 rfl rfl ?_
      refine k_callVV (n := 3) (As := [.ref tl, .ref nn, .int ztr]) (st := []) X [(cO0_ri ac al xd), (cO8_iiri al 8 1 alc aln), (cAI g alc 8 alf), (cO3_vrvvrvvv tl v0tl yhn v2tl v3tl yhm v5tl v6tl v7tl), (cO8_iiri yhn 1 6 yhnc yhnn), (cAI g yhnc 6 yhnf), (cO5_riiiiiiii nn nr xsnapped2_8 xmostSlip2_9 xslip2_10 xisDrawn2_11 xseed2_12 xtick2_13 xmotorTick2_14 xahead2_15), (cO8_iiri nr 8 10 nrc nrk_17), (cAI g nrc 80 nrg_16)] [(cO10_vrrvrrvvvi h0 v0h0 tl nw v3h0 nn ac v6h0 v7h0 v8h0 tr2_7), (cO8_iiri yhm 4 3 yhmc yhmn), (cAI g yhmc 12 yhmf), (cO7_rrrrii nw zr zm zw zp zmd ztr), (cO8_iiri zr 8 3 zrc zrn), (cAI g zrc 24 zrf), (cO8_iiri zm 12 3 zmc zmn), (cAI g zmc 36 zmf), (cO8_iiri zw 6 3 zwc zwn), (cAI g zwc 18 zwf), (cO8_iiri zp 8 2 zpc zpn), (cAI g zpc 16 zpf)] [0, 1, 2, 7, 8, 9, 4, 5, 6] [3, 10, 11, 12, 13, 14, 15, 16, 17, 18, 19, 20] (a_burn l g ac tl nn ztr al xd alc aln alf v0tl yhn v2tl v3tl (.ref yhm) v5tl v6tl v7tl yhnc yhnn yhnf nr xsnapped2_8 xmostSlip2_9 xslip2_10 xisDrawn2_11 xseed2_12 xtick2_13 xmotorTick2_14 xahead2_15 nrc nrk_17 nrg_16) dX10_dies_47 mw1032 mw1033 mw1034 mw35 mw1035 rfl 0 rfl rfl 0 _ rfl yk_yX0_burn_3 rfl (Nat.le_of_ble_eq_true rfl) (Nat.le_of_ble_eq_true rfl) (Nat.le_of_ble_eq_true rfl) (Nat.le_of_ble_eq_true rfl) (Nat.le_of_ble_eq_true rfl) rfl rfl (by decide +kernel) rfl (by decide +kernel) (by decide +kernel) ?_
      rintro w ⟨xd2_21, alg_22, rfl⟩
      refine k_ws [(cO10_vrrvrrvvvi h0 v0h0 tl nw v3h0 nn ac v6h0 v7h0 v8h0 tr2_7), (cO8_iiri yhm 4 3 yhmc yhmn), (cAI g yhmc 12 yhmf), (cO7_rrrrii nw zr zm zw zp zmd ztr), (cO8_iiri zr 8 3 zrc zrn), (cAI g zrc 24 zrf), (cO8_iiri zm 12 3 zmc zmn), (cAI g zmc 36 zmf), (cO8_iiri zw 6 3 zwc zwn), (cAI g zwc 18 zwf), (cO8_iiri zp 8 2 zpc zpn), (cAI g zpc 16 zpf), (cO0_ri ac al xd2_21), (cO8_iiri al 8 1 alc aln), (cAI g alc 8 alg_22), (cO3_vrvvrvvv tl v0tl yhn v2tl v3tl yhm v5tl v6tl v7tl), (cO8_iiri yhn 1 6 yhnc yhnn), (cAI g yhnc 6 yhnf), (cO5_riiiiiiii nn nr xsnapped2_8 xmostSlip2_9 xslip2_10 xisDrawn2_11 xseed2_12 xtick2_13 xmotorTick2_14 xahead2_15), (cO8_iiri nr 8 10 nrc nrk_17), (cAI g nrc 80 nrg_16)] rfl ?_
      refine k_aload_n X dX10_dies_50 0 rfl ?_
      refine k_aload_n X dX10_dies_51 0 rfl ?_
      refine k_get (ci := 10) X inlX10 rfl 5 (by decide) dX10_dies_52 mw36 0 rfl rfl ?_
      refine k_get (ci := 0) X inlX0 rfl 1 (by decide) dX10_dies_55 mw1031 12 rfl rfl ?_
      refine k_iload_n X dX10_dies_58 2 rfl ?_
      refine k_ishr X dX10_dies_59 ?_
      refine k_nm (fun z_25 ez_25 => ?_)
      refine k_iconst (v := 1) X dX10_dies_60 (by decide) ?_
      refine k_iand X dX10_dies_61 ?_
      refine k_nm (fun z_26 ez_26 => ?_)
      refine k_callVI (n := 1) (As := [.int z_26]) (st := []) X [(cO10_vrrvrrvvvi h0 v0h0 tl nw v3h0 nn ac v6h0 v7h0 v8h0 tr2_7)] [(cO8_iiri yhm 4 3 yhmc yhmn), (cAI g yhmc 12 yhmf), (cO7_rrrrii nw zr zm zw zp zmd ztr), (cO8_iiri zr 8 3 zrc zrn), (cAI g zrc 24 zrf), (cO8_iiri zm 12 3 zmc zmn), (cAI g zmc 36 zmf), (cO8_iiri zw 6 3 zwc zwn), (cAI g zwc 18 zwf), (cO8_iiri zp 8 2 zpc zpn), (cAI g zpc 16 zpf), (cO0_ri ac al xd2_21), (cO8_iiri al 8 1 alc aln), (cAI g alc 8 alg_22), (cO3_vrvvrvvv tl v0tl yhn v2tl v3tl yhm v5tl v6tl v7tl), (cO8_iiri yhn 1 6 yhnc yhnn), (cAI g yhnc 6 yhnf), (cO5_riiiiiiii nn nr xsnapped2_8 xmostSlip2_9 xslip2_10 xisDrawn2_11 xseed2_12 xtick2_13 xmotorTick2_14 xahead2_15), (cO8_iiri nr 8 10 nrc nrk_17), (cAI g nrc 80 nrg_16)] [0] [1, 2, 3, 4, 5, 6, 7, 8, 9, 10, 11, 12, 13, 14, 15, 16, 17, 18, 19, 20] (c_tell l g h0 z_26 v0h0 (.ref tl) (.ref nw) v3h0 (.ref nn) (.ref ac) v6h0 v7h0 v8h0 tr2_7) dX10_dies_62 mw460 mw461 mw462 mw2 mw463 rfl 10 rfl rfl 0 _ rfl yk_yX10_tell_1 rfl (Nat.le_of_ble_eq_true rfl) (Nat.le_of_ble_eq_true rfl) (Nat.le_of_ble_eq_true rfl) (Nat.le_of_ble_eq_true rfl) (Nat.le_of_ble_eq_true rfl) rfl rfl (by decide +kernel) rfl (by decide +kernel) (by decide +kernel) ?_
      rintro r_28 w ⟨tr2_27, rfl⟩
      refine k_ws [(cO8_iiri yhm 4 3 yhmc yhmn), (cAI g yhmc 12 yhmf), (cO7_rrrrii nw zr zm zw zp zmd ztr), (cO8_iiri zr 8 3 zrc zrn), (cAI g zrc 24 zrf), (cO8_iiri zm 12 3 zmc zmn), (cAI g zmc 36 zmf), (cO8_iiri zw 6 3 zwc zwn), (cAI g zwc 18 zwf), (cO8_iiri zp 8 2 zpc zpn), (cAI g zpc 16 zpf), (cO0_ri ac al xd2_21), (cO8_iiri al 8 1 alc aln), (cAI g alc 8 alg_22), (cO3_vrvvrvvv tl v0tl yhn v2tl v3tl yhm v5tl v6tl v7tl), (cO8_iiri yhn 1 6 yhnc yhnn), (cAI g yhnc 6 yhnf), (cO5_riiiiiiii nn nr xsnapped2_8 xmostSlip2_9 xslip2_10 xisDrawn2_11 xseed2_12 xtick2_13 xmotorTick2_14 xahead2_15), (cO8_iiri nr 8 10 nrc nrk_17), (cAI g nrc 80 nrg_16), (cO10_vrrvrrvvvi h0 v0h0 tl nw v3h0 nn ac v6h0 v7h0 v8h0 tr2_27)] rfl ?_
      exact k_iret X hr dX10_dies_65 (Nat.le_of_ble_eq_true rfl) (Nat.le_of_ble_eq_true rfl) [20, 17, 18, 19, 14, 15, 16, 0, 1, 2, 3, 4, 5, 6, 7, 8, 9, 10, 11, 12, 13] (by decide) rfl rfl ⟨tr2_27, xsnapped2_8, xmostSlip2_9, xslip2_10, xisDrawn2_11, xseed2_12, xtick2_13, xmotorTick2_14, xahead2_15, nrg_16, nrk_17, xd2_21, alg_22, (by assumption), rfl⟩
    · skip
      refine k_aload_n X dX10_dies_22 0 rfl ?_
      refine k_iconst (v := 1) X dX10_dies_23 (by decide) ?_
      refine k_callVI (n := 1) (As := [.int 1]) (st := []) X [(cO10_vrrvrrvvvi h0 v0h0 tl nw v3h0 nn ac v6h0 v7h0 v8h0 tr2_7)] [(cO0_ri ac al xd), (cO8_iiri al 8 1 alc aln), (cAI g alc 8 alf), (cO5_riiiiiiii nn nr xsnapped2_8 xmostSlip2_9 xslip2_10 xisDrawn2_11 xseed2_12 xtick2_13 xmotorTick2_14 xahead2_15), (cO8_iiri nr 8 10 nrc nrk_17), (cAI g nrc 80 nrg_16), (cO3_vrvvrvvv tl v0tl yhn v2tl v3tl yhm v5tl v6tl v7tl), (cO8_iiri yhn 1 6 yhnc yhnn), (cAI g yhnc 6 yhnf), (cO8_iiri yhm 4 3 yhmc yhmn), (cAI g yhmc 12 yhmf), (cO7_rrrrii nw zr zm zw zp zmd ztr), (cO8_iiri zr 8 3 zrc zrn), (cAI g zrc 24 zrf), (cO8_iiri zm 12 3 zmc zmn), (cAI g zmc 36 zmf), (cO8_iiri zw 6 3 zwc zwn), (cAI g zwc 18 zwf), (cO8_iiri zp 8 2 zpc zpn), (cAI g zpc 16 zpf)] [3] [0, 1, 2, 4, 5, 6, 7, 8, 9, 10, 11, 12, 13, 14, 15, 16, 17, 18, 19, 20] (c_refuse l g h0 1 v0h0 (.ref tl) (.ref nw) v3h0 (.ref nn) (.ref ac) v6h0 v7h0 v8h0 tr2_7) dX10_dies_24 mw215 mw216 mw217 mw2 mw218 rfl 10 rfl rfl 0 _ rfl yk_yX10_refuse_1 rfl (Nat.le_of_ble_eq_true rfl) (Nat.le_of_ble_eq_true rfl) (Nat.le_of_ble_eq_true rfl) (Nat.le_of_ble_eq_true rfl) (Nat.le_of_ble_eq_true rfl) rfl rfl (by decide +kernel) rfl (by decide +kernel) (by decide +kernel) ?_
      rintro r_31 w ⟨tr2_30, rfl⟩
      refine k_ws [(cO0_ri ac al xd), (cO8_iiri al 8 1 alc aln), (cAI g alc 8 alf), (cO5_riiiiiiii nn nr xsnapped2_8 xmostSlip2_9 xslip2_10 xisDrawn2_11 xseed2_12 xtick2_13 xmotorTick2_14 xahead2_15), (cO8_iiri nr 8 10 nrc nrk_17), (cAI g nrc 80 nrg_16), (cO3_vrvvrvvv tl v0tl yhn v2tl v3tl yhm v5tl v6tl v7tl), (cO8_iiri yhn 1 6 yhnc yhnn), (cAI g yhnc 6 yhnf), (cO8_iiri yhm 4 3 yhmc yhmn), (cAI g yhmc 12 yhmf), (cO7_rrrrii nw zr zm zw zp zmd ztr), (cO8_iiri zr 8 3 zrc zrn), (cAI g zrc 24 zrf), (cO8_iiri zm 12 3 zmc zmn), (cAI g zmc 36 zmf), (cO8_iiri zw 6 3 zwc zwn), (cAI g zwc 18 zwf), (cO8_iiri zp 8 2 zpc zpn), (cAI g zpc 16 zpf), (cO10_vrrvrrvvvi h0 v0h0 tl nw v3h0 nn ac v6h0 v7h0 v8h0 tr2_30)] rfl ?_
      exact k_iret X hr dX10_dies_27 (Nat.le_of_ble_eq_true rfl) (Nat.le_of_ble_eq_true rfl) [20, 3, 4, 5, 6, 7, 8, 9, 10, 11, 12, 13, 14, 15, 16, 17, 18, 19, 0, 1, 2] (by decide) rfl rfl ⟨tr2_30, xsnapped2_8, xmostSlip2_9, xslip2_10, xisDrawn2_11, xseed2_12, xtick2_13, xmotorTick2_14, xahead2_15, nrg_16, nrk_17, xd, alf, (by assumption), rfl⟩

theorem dX10_firstDies_0 : decode cX10_firstDies 0 = .ok (.aload_n 0, 1) := dk_42 rfl
theorem dX10_firstDies_1 : decode cX10_firstDies 1 = .ok (.iload_n 1, 1) := dk_27 rfl
theorem dX10_firstDies_2 : decode cX10_firstDies 2 = .ok (.invokevirtual 163, 3) := dk_182 rfl rfl rfl rfl
theorem dX10_firstDies_5 : decode cX10_firstDies 5 = .ok (.ifCond .ne 9, 3) := dk_154 rfl rfl rfl (by decide)
theorem dX10_firstDies_8 : decode cX10_firstDies 8 = .ok (.aload_n 0, 1) := dk_42 rfl
theorem dX10_firstDies_9 : decode cX10_firstDies 9 = .ok (.iconst 1, 1) := dk_4 rfl
theorem dX10_firstDies_10 : decode cX10_firstDies 10 = .ok (.invokevirtual 83, 3) := dk_182 rfl rfl rfl rfl
theorem dX10_firstDies_13 : decode cX10_firstDies 13 = .ok (.ireturn, 1) := dk_172 rfl
theorem dX10_firstDies_14 : decode cX10_firstDies 14 = .ok (.aload_n 0, 1) := dk_42 rfl
theorem dX10_firstDies_15 : decode cX10_firstDies 15 = .ok (.getfield 47, 3) := dk_180 rfl rfl rfl rfl
theorem dX10_firstDies_18 : decode cX10_firstDies 18 = .ok (.aload_n 0, 1) := dk_42 rfl
theorem dX10_firstDies_19 : decode cX10_firstDies 19 = .ok (.getfield 19, 3) := dk_180 rfl rfl rfl rfl
theorem dX10_firstDies_22 : decode cX10_firstDies 22 = .ok (.aload_n 0, 1) := dk_42 rfl
theorem dX10_firstDies_23 : decode cX10_firstDies 23 = .ok (.getfield 40, 3) := dk_180 rfl rfl rfl rfl
theorem dX10_firstDies_26 : decode cX10_firstDies 26 = .ok (.aload_n 0, 1) := dk_42 rfl
theorem dX10_firstDies_27 : decode cX10_firstDies 27 = .ok (.getfield 26, 3) := dk_180 rfl rfl rfl rfl
theorem dX10_firstDies_30 : decode cX10_firstDies 30 = .ok (.getfield 210, 3) := dk_180 rfl rfl rfl rfl
theorem dX10_firstDies_33 : decode cX10_firstDies 33 = .ok (.invokevirtual 213, 3) := dk_182 rfl rfl rfl rfl
theorem dX10_firstDies_36 : decode cX10_firstDies 36 = .ok (.aload_n 0, 1) := dk_42 rfl
theorem dX10_firstDies_37 : decode cX10_firstDies 37 = .ok (.aload_n 0, 1) := dk_42 rfl
theorem dX10_firstDies_38 : decode cX10_firstDies 38 = .ok (.getfield 47, 3) := dk_180 rfl rfl rfl rfl
theorem dX10_firstDies_41 : decode cX10_firstDies 41 = .ok (.invokevirtual 220, 3) := dk_182 rfl rfl rfl rfl
theorem dX10_firstDies_44 : decode cX10_firstDies 44 = .ok (.invokevirtual 118, 3) := dk_182 rfl rfl rfl rfl
theorem dX10_firstDies_47 : decode cX10_firstDies 47 = .ok (.ireturn, 1) := dk_172 rfl
set_option maxHeartbeats 4000000 in
set_option maxRecDepth 100000 in
theorem c_firstDies (l : Launch) (g : Gx) (h0 : Nat) (p0 : Int32) (v0h0 : Value) (tl : Nat) (nw : Nat) (v3h0 : Value) (nn : Nat) (ac : Nat) (v6h0 : Value) (v7h0 : Value) (v8h0 : Value) (tr : Int32) (nr : Nat) (xsnapped : Int32) (xmostSlip : Int32) (xslip : Int32) (xisDrawn : Int32) (xseed : Int32) (xtick : Int32) (xmotorTick : Int32) (xahead : Int32) (nrc : Nat) (nrn : Int32) (nrf : Nat → Int32) (v0tl : Value) (yhn : Nat) (v2tl : Value) (v3tl : Value) (yhm : Nat) (v5tl : Value) (v6tl : Value) (v7tl : Value) (yhnc : Nat) (yhnn : Int32) (yhnf : Nat → Int32) (yhmc : Nat) (yhmn : Int32) (yhmf : Nat → Int32) (zr : Nat) (zm : Nat) (zw : Nat) (zp : Nat) (zmd : Int32) (ztr : Int32) (zrc : Nat) (zrn : Int32) (zrf : Nat → Int32) (zmc : Nat) (zmn : Int32) (zmf : Nat → Int32) (zwc : Nat) (zwn : Int32) (zwf : Nat → Int32) (zpc : Nat) (zpn : Int32) (zpf : Nat → Int32) (al : Nat) (xd : Int32) (alc : Nat) (aln : Int32) (alf : Nat → Int32) (hms : ¬ xmostSlip < 0) : cI l g yX10_firstDies cX10_firstDies 2 (some .int) 5 118 0 0 [.ref h0, .int p0] [(cO10_vrrvrrvvvi h0 v0h0 tl nw v3h0 nn ac v6h0 v7h0 v8h0 tr), (cO5_riiiiiiii nn nr xsnapped xmostSlip xslip xisDrawn xseed xtick xmotorTick xahead), (cO8_iiri nr 8 10 nrc nrn), (cAI g nrc 80 nrf), (cO3_vrvvrvvv tl v0tl yhn v2tl v3tl yhm v5tl v6tl v7tl), (cO8_iiri yhn 1 6 yhnc yhnn), (cAI g yhnc 6 yhnf), (cO8_iiri yhm 4 3 yhmc yhmn), (cAI g yhmc 12 yhmf), (cO7_rrrrii nw zr zm zw zp zmd ztr), (cO8_iiri zr 8 3 zrc zrn), (cAI g zrc 24 zrf), (cO8_iiri zm 12 3 zmc zmn), (cAI g zmc 36 zmf), (cO8_iiri zw 6 3 zwc zwn), (cAI g zwc 18 zwf), (cO8_iiri zp 8 2 zpc zpn), (cAI g zpc 16 zpf), (cO0_ri ac al xd), (cO8_iiri al 8 1 alc aln), (cAI g alc 8 alf)] (fun r w => ∃ (tr2 : Int32) (xsnapped2 : Int32) (xmostSlip2 : Int32) (xslip2 : Int32) (xisDrawn2 : Int32) (xseed2 : Int32) (xtick2 : Int32) (xmotorTick2 : Int32) (xahead2 : Int32) (nrg : Nat → Int32) (nrk : Int32) (xd2 : Int32) (alg : Nat → Int32), (¬ xmostSlip2 < 0) ∧ w = [(cO10_vrrvrrvvvi h0 v0h0 tl nw v3h0 nn ac v6h0 v7h0 v8h0 tr2), (cO5_riiiiiiii nn nr xsnapped2 xmostSlip2 xslip2 xisDrawn2 xseed2 xtick2 xmotorTick2 xahead2), (cO8_iiri nr 8 10 nrc nrk), (cAI g nrc 80 nrg), (cO3_vrvvrvvv tl v0tl yhn v2tl v3tl yhm v5tl v6tl v7tl), (cO8_iiri yhn 1 6 yhnc yhnn), (cAI g yhnc 6 yhnf), (cO8_iiri yhm 4 3 yhmc yhmn), (cAI g yhmc 12 yhmf), (cO7_rrrrii nw zr zm zw zp zmd ztr), (cO8_iiri zr 8 3 zrc zrn), (cAI g zrc 24 zrf), (cO8_iiri zm 12 3 zmc zmn), (cAI g zmc 36 zmf), (cO8_iiri zw 6 3 zwc zwn), (cAI g zwc 18 zwf), (cO8_iiri zp 8 2 zpc zpn), (cAI g zpc 16 zpf), (cO0_ri ac al xd2), (cO8_iiri al 8 1 alc aln), (cAI g alc 8 alg)]) := by
  refine cI.of (by decide) (Nat.le_of_ble_eq_true rfl) ?_
  intro p e s m args below meth c A X hr hi
  refine k_lveq [(0, .ref h0), (1, .int p0)] rfl ?_
  refine k_aload_n X dX10_firstDies_0 0 rfl ?_
  refine k_iload_n X dX10_firstDies_1 1 rfl ?_
  refine k_callVI (n := 1) (As := [.int p0]) (st := []) X [(cO10_vrrvrrvvvi h0 v0h0 tl nw v3h0 nn ac v6h0 v7h0 v8h0 tr), (cO5_riiiiiiii nn nr xsnapped xmostSlip xslip xisDrawn xseed xtick xmotorTick xahead), (cO8_iiri nr 8 10 nrc nrn), (cAI g nrc 80 nrf), (cO3_vrvvrvvv tl v0tl yhn v2tl v3tl yhm v5tl v6tl v7tl), (cO8_iiri yhn 1 6 yhnc yhnn), (cAI g yhnc 6 yhnf), (cO8_iiri yhm 4 3 yhmc yhmn), (cAI g yhmc 12 yhmf), (cO7_rrrrii nw zr zm zw zp zmd ztr), (cO8_iiri zr 8 3 zrc zrn), (cAI g zrc 24 zrf), (cO8_iiri zm 12 3 zmc zmn), (cAI g zmc 36 zmf), (cO8_iiri zw 6 3 zwc zwn), (cAI g zwc 18 zwf), (cO8_iiri zp 8 2 zpc zpn), (cAI g zpc 16 zpf)] [(cO0_ri ac al xd), (cO8_iiri al 8 1 alc aln), (cAI g alc 8 alf)] [0, 1, 2, 3, 4, 5, 6, 7, 8, 9, 10, 11, 12, 13, 14, 15, 16, 17] [18, 19, 20] (c_runNight l g h0 p0 v0h0 tl nw v3h0 nn (.ref ac) v6h0 v7h0 v8h0 tr nr xsnapped xmostSlip xslip xisDrawn xseed xtick xmotorTick xahead nrc nrn nrf v0tl yhn v2tl v3tl yhm v5tl v6tl v7tl yhnc yhnn yhnf yhmc yhmn yhmf zr zm zw zp zmd ztr zrc zrn zrf zmc zmn zmf zwc zwn zwf zpc zpn zpf (by assumption)) dX10_firstDies_2 mw744 mw745 mw746 mw2 mw747 rfl 10 rfl rfl 0 _ rfl yk_yX10_runNight_1 rfl (Nat.le_of_ble_eq_true rfl) (Nat.le_of_ble_eq_true rfl) (Nat.le_of_ble_eq_true rfl) (Nat.le_of_ble_eq_true rfl) (Nat.le_of_ble_eq_true rfl) rfl rfl (by decide +kernel) rfl (by decide +kernel) (by decide +kernel) ?_
  intro r_12 w zq
  refine exE11 zq ?_
  clear zq
  intro tr2_1 xsnapped2_2 xmostSlip2_3 xslip2_4 xisDrawn2_5 xseed2_6 xtick2_7 xmotorTick2_8 xahead2_9 nrg_10 nrk_11 hr_13 zq
  subst zq
  refine k_ws [(cO0_ri ac al xd), (cO8_iiri al 8 1 alc aln), (cAI g alc 8 alf), (cO10_vrrvrrvvvi h0 v0h0 tl nw v3h0 nn ac v6h0 v7h0 v8h0 tr2_1), (cO5_riiiiiiii nn nr xsnapped2_2 xmostSlip2_3 xslip2_4 xisDrawn2_5 xseed2_6 xtick2_7 xmotorTick2_8 xahead2_9), (cO8_iiri nr 8 10 nrc nrk_11), (cAI g nrc 80 nrg_10), (cO3_vrvvrvvv tl v0tl yhn v2tl v3tl yhm v5tl v6tl v7tl), (cO8_iiri yhn 1 6 yhnc yhnn), (cAI g yhnc 6 yhnf), (cO8_iiri yhm 4 3 yhmc yhmn), (cAI g yhmc 12 yhmf), (cO7_rrrrii nw zr zm zw zp zmd ztr), (cO8_iiri zr 8 3 zrc zrn), (cAI g zrc 24 zrf), (cO8_iiri zm 12 3 zmc zmn), (cAI g zmc 36 zmf), (cO8_iiri zw 6 3 zwc zwn), (cAI g zwc 18 zwf), (cO8_iiri zp 8 2 zpc zpn), (cAI g zpc 16 zpf)] rfl ?_
  refine k_if_ne 14 X dX10_firstDies_5 (by decide) (fun h_14 => ?_) (fun h_14 => ?_)
  · skip
    refine k_aload_n X dX10_firstDies_14 0 rfl ?_
    refine k_get (ci := 10) X inlX10 rfl 5 (by decide) dX10_firstDies_15 mw36 3 rfl rfl ?_
    refine k_aload_n X dX10_firstDies_18 0 rfl ?_
    refine k_get (ci := 10) X inlX10 rfl 1 (by decide) dX10_firstDies_19 mw20 3 rfl rfl ?_
    refine k_aload_n X dX10_firstDies_22 0 rfl ?_
    refine k_get (ci := 10) X inlX10 rfl 4 (by decide) dX10_firstDies_23 mw32 3 rfl rfl ?_
    refine k_aload_n X dX10_firstDies_26 0 rfl ?_
    refine k_get (ci := 10) X inlX10 rfl 2 (by decide) dX10_firstDies_27 mw24 3 rfl rfl ?_
    refine k_get (ci := 7) X inlX7 rfl 5 (by decide) dX10_firstDies_30 mw1030 12 rfl rfl ?_
    refine k_callVV (n := 3) (As := [.ref tl, .ref nn, .int ztr]) (st := []) X [(cO0_ri ac al xd), (cO8_iiri al 8 1 alc aln), (cAI g alc 8 alf), (cO3_vrvvrvvv tl v0tl yhn v2tl v3tl yhm v5tl v6tl v7tl), (cO8_iiri yhn 1 6 yhnc yhnn), (cAI g yhnc 6 yhnf), (cO5_riiiiiiii nn nr xsnapped2_2 xmostSlip2_3 xslip2_4 xisDrawn2_5 xseed2_6 xtick2_7 xmotorTick2_8 xahead2_9), (cO8_iiri nr 8 10 nrc nrk_11), (cAI g nrc 80 nrg_10)] [(cO10_vrrvrrvvvi h0 v0h0 tl nw v3h0 nn ac v6h0 v7h0 v8h0 tr2_1), (cO8_iiri yhm 4 3 yhmc yhmn), (cAI g yhmc 12 yhmf), (cO7_rrrrii nw zr zm zw zp zmd ztr), (cO8_iiri zr 8 3 zrc zrn), (cAI g zrc 24 zrf), (cO8_iiri zm 12 3 zmc zmn), (cAI g zmc 36 zmf), (cO8_iiri zw 6 3 zwc zwn), (cAI g zwc 18 zwf), (cO8_iiri zp 8 2 zpc zpn), (cAI g zpc 16 zpf)] [0, 1, 2, 7, 8, 9, 4, 5, 6] [3, 10, 11, 12, 13, 14, 15, 16, 17, 18, 19, 20] (a_burn l g ac tl nn ztr al xd alc aln alf v0tl yhn v2tl v3tl (.ref yhm) v5tl v6tl v7tl yhnc yhnn yhnf nr xsnapped2_2 xmostSlip2_3 xslip2_4 xisDrawn2_5 xseed2_6 xtick2_7 xmotorTick2_8 xahead2_9 nrc nrk_11 nrg_10) dX10_firstDies_33 mw1032 mw1033 mw1034 mw35 mw1035 rfl 0 rfl rfl 0 _ rfl yk_yX0_burn_3 rfl (Nat.le_of_ble_eq_true rfl) (Nat.le_of_ble_eq_true rfl) (Nat.le_of_ble_eq_true rfl) (Nat.le_of_ble_eq_true rfl) (Nat.le_of_ble_eq_true rfl) rfl rfl (by decide +kernel) rfl (by decide +kernel) (by decide +kernel) ?_
    rintro w ⟨xd2_15, alg_16, rfl⟩
    refine k_ws [(cO10_vrrvrrvvvi h0 v0h0 tl nw v3h0 nn ac v6h0 v7h0 v8h0 tr2_1), (cO8_iiri yhm 4 3 yhmc yhmn), (cAI g yhmc 12 yhmf), (cO7_rrrrii nw zr zm zw zp zmd ztr), (cO8_iiri zr 8 3 zrc zrn), (cAI g zrc 24 zrf), (cO8_iiri zm 12 3 zmc zmn), (cAI g zmc 36 zmf), (cO8_iiri zw 6 3 zwc zwn), (cAI g zwc 18 zwf), (cO8_iiri zp 8 2 zpc zpn), (cAI g zpc 16 zpf), (cO0_ri ac al xd2_15), (cO8_iiri al 8 1 alc aln), (cAI g alc 8 alg_16), (cO3_vrvvrvvv tl v0tl yhn v2tl v3tl yhm v5tl v6tl v7tl), (cO8_iiri yhn 1 6 yhnc yhnn), (cAI g yhnc 6 yhnf), (cO5_riiiiiiii nn nr xsnapped2_2 xmostSlip2_3 xslip2_4 xisDrawn2_5 xseed2_6 xtick2_7 xmotorTick2_8 xahead2_9), (cO8_iiri nr 8 10 nrc nrk_11), (cAI g nrc 80 nrg_10)] rfl ?_
    refine k_aload_n X dX10_firstDies_36 0 rfl ?_
    refine k_aload_n X dX10_firstDies_37 0 rfl ?_
    refine k_get (ci := 10) X inlX10 rfl 5 (by decide) dX10_firstDies_38 mw36 0 rfl rfl ?_
    refine k_callVI (n := 0) (As := []) (st := [.ref h0]) X [(cO0_ri ac al xd2_15), (cO8_iiri al 8 1 alc aln), (cAI g alc 8 alg_16)] [(cO10_vrrvrrvvvi h0 v0h0 tl nw v3h0 nn ac v6h0 v7h0 v8h0 tr2_1), (cO8_iiri yhm 4 3 yhmc yhmn), (cAI g yhmc 12 yhmf), (cO7_rrrrii nw zr zm zw zp zmd ztr), (cO8_iiri zr 8 3 zrc zrn), (cAI g zrc 24 zrf), (cO8_iiri zm 12 3 zmc zmn), (cAI g zmc 36 zmf), (cO8_iiri zw 6 3 zwc zwn), (cAI g zwc 18 zwf), (cO8_iiri zp 8 2 zpc zpn), (cAI g zpc 16 zpf), (cO3_vrvvrvvv tl v0tl yhn v2tl v3tl yhm v5tl v6tl v7tl), (cO8_iiri yhn 1 6 yhnc yhnn), (cAI g yhnc 6 yhnf), (cO5_riiiiiiii nn nr xsnapped2_2 xmostSlip2_3 xslip2_4 xisDrawn2_5 xseed2_6 xtick2_7 xmotorTick2_8 xahead2_9), (cO8_iiri nr 8 10 nrc nrk_11), (cAI g nrc 80 nrg_10)] [12, 13, 14] [0, 1, 2, 3, 4, 5, 6, 7, 8, 9, 10, 11, 15, 16, 17, 18, 19, 20] (a_firstDying l g ac al xd2_15 alc aln alg_16) dX10_firstDies_41 mw1062 mw1063 mw1064 mw35 mw1065 rfl 0 rfl rfl 0 _ rfl yk_yX0_firstDying_0 rfl (Nat.le_of_ble_eq_true rfl) (Nat.le_of_ble_eq_true rfl) (Nat.le_of_ble_eq_true rfl) (Nat.le_of_ble_eq_true rfl) (Nat.le_of_ble_eq_true rfl) rfl rfl (by decide +kernel) rfl (by decide +kernel) (by decide +kernel) ?_
    rintro r_19 w rfl
    refine k_ws [(cO10_vrrvrrvvvi h0 v0h0 tl nw v3h0 nn ac v6h0 v7h0 v8h0 tr2_1), (cO8_iiri yhm 4 3 yhmc yhmn), (cAI g yhmc 12 yhmf), (cO7_rrrrii nw zr zm zw zp zmd ztr), (cO8_iiri zr 8 3 zrc zrn), (cAI g zrc 24 zrf), (cO8_iiri zm 12 3 zmc zmn), (cAI g zmc 36 zmf), (cO8_iiri zw 6 3 zwc zwn), (cAI g zwc 18 zwf), (cO8_iiri zp 8 2 zpc zpn), (cAI g zpc 16 zpf), (cO3_vrvvrvvv tl v0tl yhn v2tl v3tl yhm v5tl v6tl v7tl), (cO8_iiri yhn 1 6 yhnc yhnn), (cAI g yhnc 6 yhnf), (cO5_riiiiiiii nn nr xsnapped2_2 xmostSlip2_3 xslip2_4 xisDrawn2_5 xseed2_6 xtick2_7 xmotorTick2_8 xahead2_9), (cO8_iiri nr 8 10 nrc nrk_11), (cAI g nrc 80 nrg_10), (cO0_ri ac al xd2_15), (cO8_iiri al 8 1 alc aln), (cAI g alc 8 alg_16)] rfl ?_
    refine k_callVI (n := 1) (As := [.int r_19]) (st := []) X [(cO10_vrrvrrvvvi h0 v0h0 tl nw v3h0 nn ac v6h0 v7h0 v8h0 tr2_1)] [(cO8_iiri yhm 4 3 yhmc yhmn), (cAI g yhmc 12 yhmf), (cO7_rrrrii nw zr zm zw zp zmd ztr), (cO8_iiri zr 8 3 zrc zrn), (cAI g zrc 24 zrf), (cO8_iiri zm 12 3 zmc zmn), (cAI g zmc 36 zmf), (cO8_iiri zw 6 3 zwc zwn), (cAI g zwc 18 zwf), (cO8_iiri zp 8 2 zpc zpn), (cAI g zpc 16 zpf), (cO3_vrvvrvvv tl v0tl yhn v2tl v3tl yhm v5tl v6tl v7tl), (cO8_iiri yhn 1 6 yhnc yhnn), (cAI g yhnc 6 yhnf), (cO5_riiiiiiii nn nr xsnapped2_2 xmostSlip2_3 xslip2_4 xisDrawn2_5 xseed2_6 xtick2_7 xmotorTick2_8 xahead2_9), (cO8_iiri nr 8 10 nrc nrk_11), (cAI g nrc 80 nrg_10), (cO0_ri ac al xd2_15), (cO8_iiri al 8 1 alc aln), (cAI g alc 8 alg_16)] [0] [1, 2, 3, 4, 5, 6, 7, 8, 9, 10, 11, 12, 13, 14, 15, 16, 17, 18, 19, 20] (c_tell l g h0 r_19 v0h0 (.ref tl) (.ref nw) v3h0 (.ref nn) (.ref ac) v6h0 v7h0 v8h0 tr2_1) dX10_firstDies_44 mw460 mw461 mw462 mw2 mw463 rfl 10 rfl rfl 0 _ rfl yk_yX10_tell_1 rfl (Nat.le_of_ble_eq_true rfl) (Nat.le_of_ble_eq_true rfl) (Nat.le_of_ble_eq_true rfl) (Nat.le_of_ble_eq_true rfl) (Nat.le_of_ble_eq_true rfl) rfl rfl (by decide +kernel) rfl (by decide +kernel) (by decide +kernel) ?_
    rintro r_22 w ⟨tr2_21, rfl⟩
    refine k_ws [(cO8_iiri yhm 4 3 yhmc yhmn), (cAI g yhmc 12 yhmf), (cO7_rrrrii nw zr zm zw zp zmd ztr), (cO8_iiri zr 8 3 zrc zrn), (cAI g zrc 24 zrf), (cO8_iiri zm 12 3 zmc zmn), (cAI g zmc 36 zmf), (cO8_iiri zw 6 3 zwc zwn), (cAI g zwc 18 zwf), (cO8_iiri zp 8 2 zpc zpn), (cAI g zpc 16 zpf), (cO3_vrvvrvvv tl v0tl yhn v2tl v3tl yhm v5tl v6tl v7tl), (cO8_iiri yhn 1 6 yhnc yhnn), (cAI g yhnc 6 yhnf), (cO5_riiiiiiii nn nr xsnapped2_2 xmostSlip2_3 xslip2_4 xisDrawn2_5 xseed2_6 xtick2_7 xmotorTick2_8 xahead2_9), (cO8_iiri nr 8 10 nrc nrk_11), (cAI g nrc 80 nrg_10), (cO0_ri ac al xd2_15), (cO8_iiri al 8 1 alc aln), (cAI g alc 8 alg_16), (cO10_vrrvrrvvvi h0 v0h0 tl nw v3h0 nn ac v6h0 v7h0 v8h0 tr2_21)] rfl ?_
    exact k_iret X hr dX10_firstDies_47 (Nat.le_of_ble_eq_true rfl) (Nat.le_of_ble_eq_true rfl) [20, 14, 15, 16, 11, 12, 13, 0, 1, 2, 3, 4, 5, 6, 7, 8, 9, 10, 17, 18, 19] (by decide) rfl rfl ⟨tr2_21, xsnapped2_2, xmostSlip2_3, xslip2_4, xisDrawn2_5, xseed2_6, xtick2_7, xmotorTick2_8, xahead2_9, nrg_10, nrk_11, xd2_15, alg_16, (by assumption), rfl⟩
  · skip
    refine k_aload_n X dX10_firstDies_8 0 rfl ?_
    refine k_iconst (v := 1) X dX10_firstDies_9 (by decide) ?_
    refine k_callVI (n := 1) (As := [.int 1]) (st := []) X [(cO10_vrrvrrvvvi h0 v0h0 tl nw v3h0 nn ac v6h0 v7h0 v8h0 tr2_1)] [(cO0_ri ac al xd), (cO8_iiri al 8 1 alc aln), (cAI g alc 8 alf), (cO5_riiiiiiii nn nr xsnapped2_2 xmostSlip2_3 xslip2_4 xisDrawn2_5 xseed2_6 xtick2_7 xmotorTick2_8 xahead2_9), (cO8_iiri nr 8 10 nrc nrk_11), (cAI g nrc 80 nrg_10), (cO3_vrvvrvvv tl v0tl yhn v2tl v3tl yhm v5tl v6tl v7tl), (cO8_iiri yhn 1 6 yhnc yhnn), (cAI g yhnc 6 yhnf), (cO8_iiri yhm 4 3 yhmc yhmn), (cAI g yhmc 12 yhmf), (cO7_rrrrii nw zr zm zw zp zmd ztr), (cO8_iiri zr 8 3 zrc zrn), (cAI g zrc 24 zrf), (cO8_iiri zm 12 3 zmc zmn), (cAI g zmc 36 zmf), (cO8_iiri zw 6 3 zwc zwn), (cAI g zwc 18 zwf), (cO8_iiri zp 8 2 zpc zpn), (cAI g zpc 16 zpf)] [3] [0, 1, 2, 4, 5, 6, 7, 8, 9, 10, 11, 12, 13, 14, 15, 16, 17, 18, 19, 20] (c_refuse l g h0 1 v0h0 (.ref tl) (.ref nw) v3h0 (.ref nn) (.ref ac) v6h0 v7h0 v8h0 tr2_1) dX10_firstDies_10 mw215 mw216 mw217 mw2 mw218 rfl 10 rfl rfl 0 _ rfl yk_yX10_refuse_1 rfl (Nat.le_of_ble_eq_true rfl) (Nat.le_of_ble_eq_true rfl) (Nat.le_of_ble_eq_true rfl) (Nat.le_of_ble_eq_true rfl) (Nat.le_of_ble_eq_true rfl) rfl rfl (by decide +kernel) rfl (by decide +kernel) (by decide +kernel) ?_
    rintro r_25 w ⟨tr2_24, rfl⟩
    refine k_ws [(cO0_ri ac al xd), (cO8_iiri al 8 1 alc aln), (cAI g alc 8 alf), (cO5_riiiiiiii nn nr xsnapped2_2 xmostSlip2_3 xslip2_4 xisDrawn2_5 xseed2_6 xtick2_7 xmotorTick2_8 xahead2_9), (cO8_iiri nr 8 10 nrc nrk_11), (cAI g nrc 80 nrg_10), (cO3_vrvvrvvv tl v0tl yhn v2tl v3tl yhm v5tl v6tl v7tl), (cO8_iiri yhn 1 6 yhnc yhnn), (cAI g yhnc 6 yhnf), (cO8_iiri yhm 4 3 yhmc yhmn), (cAI g yhmc 12 yhmf), (cO7_rrrrii nw zr zm zw zp zmd ztr), (cO8_iiri zr 8 3 zrc zrn), (cAI g zrc 24 zrf), (cO8_iiri zm 12 3 zmc zmn), (cAI g zmc 36 zmf), (cO8_iiri zw 6 3 zwc zwn), (cAI g zwc 18 zwf), (cO8_iiri zp 8 2 zpc zpn), (cAI g zpc 16 zpf), (cO10_vrrvrrvvvi h0 v0h0 tl nw v3h0 nn ac v6h0 v7h0 v8h0 tr2_24)] rfl ?_
    exact k_iret X hr dX10_firstDies_13 (Nat.le_of_ble_eq_true rfl) (Nat.le_of_ble_eq_true rfl) [20, 3, 4, 5, 6, 7, 8, 9, 10, 11, 12, 13, 14, 15, 16, 17, 18, 19, 0, 1, 2] (by decide) rfl rfl ⟨tr2_24, xsnapped2_2, xmostSlip2_3, xslip2_4, xisDrawn2_5, xseed2_6, xtick2_7, xmotorTick2_8, xahead2_9, nrg_10, nrk_11, xd, alf, (by assumption), rfl⟩

theorem dX10_arc_0 : decode cX10_arc 0 = .ok (.aload_n 0, 1) := dk_42 rfl
theorem dX10_arc_1 : decode cX10_arc 1 = .ok (.getfield 26, 3) := dk_180 rfl rfl rfl rfl
theorem dX10_arc_4 : decode cX10_arc 4 = .ok (.getfield 109, 3) := dk_180 rfl rfl rfl rfl
theorem dX10_arc_7 : decode cX10_arc 7 = .ok (.iload_n 2, 1) := dk_28 rfl
theorem dX10_arc_8 : decode cX10_arc 8 = .ok (.invokevirtual 127, 3) := dk_182 rfl rfl rfl rfl
theorem dX10_arc_11 : decode cX10_arc 11 = .ok (.ifCond .eq 11, 3) := dk_153 rfl rfl rfl (by decide)
theorem dX10_arc_14 : decode cX10_arc 14 = .ok (.aload_n 0, 1) := dk_42 rfl
theorem dX10_arc_15 : decode cX10_arc 15 = .ok (.iload_n 1, 1) := dk_27 rfl
theorem dX10_arc_16 : decode cX10_arc 16 = .ok (.invokevirtual 163, 3) := dk_182 rfl rfl rfl rfl
theorem dX10_arc_19 : decode cX10_arc 19 = .ok (.ifCond .ne 9, 3) := dk_154 rfl rfl rfl (by decide)
theorem dX10_arc_22 : decode cX10_arc 22 = .ok (.aload_n 0, 1) := dk_42 rfl
theorem dX10_arc_23 : decode cX10_arc 23 = .ok (.iconst 1, 1) := dk_4 rfl
theorem dX10_arc_24 : decode cX10_arc 24 = .ok (.invokevirtual 83, 3) := dk_182 rfl rfl rfl rfl
theorem dX10_arc_27 : decode cX10_arc 27 = .ok (.ireturn, 1) := dk_172 rfl
theorem dX10_arc_28 : decode cX10_arc 28 = .ok (.aload_n 0, 1) := dk_42 rfl
theorem dX10_arc_29 : decode cX10_arc 29 = .ok (.getfield 47, 3) := dk_180 rfl rfl rfl rfl
theorem dX10_arc_32 : decode cX10_arc 32 = .ok (.aload_n 0, 1) := dk_42 rfl
theorem dX10_arc_33 : decode cX10_arc 33 = .ok (.getfield 19, 3) := dk_180 rfl rfl rfl rfl
theorem dX10_arc_36 : decode cX10_arc 36 = .ok (.aload_n 0, 1) := dk_42 rfl
theorem dX10_arc_37 : decode cX10_arc 37 = .ok (.getfield 40, 3) := dk_180 rfl rfl rfl rfl
theorem dX10_arc_40 : decode cX10_arc 40 = .ok (.aload_n 0, 1) := dk_42 rfl
theorem dX10_arc_41 : decode cX10_arc 41 = .ok (.getfield 26, 3) := dk_180 rfl rfl rfl rfl
theorem dX10_arc_44 : decode cX10_arc 44 = .ok (.getfield 210, 3) := dk_180 rfl rfl rfl rfl
theorem dX10_arc_47 : decode cX10_arc 47 = .ok (.invokevirtual 213, 3) := dk_182 rfl rfl rfl rfl
theorem dX10_arc_50 : decode cX10_arc 50 = .ok (.aload_n 0, 1) := dk_42 rfl
theorem dX10_arc_51 : decode cX10_arc 51 = .ok (.aload_n 0, 1) := dk_42 rfl
theorem dX10_arc_52 : decode cX10_arc 52 = .ok (.getfield 47, 3) := dk_180 rfl rfl rfl rfl
theorem dX10_arc_55 : decode cX10_arc 55 = .ok (.getfield 226, 3) := dk_180 rfl rfl rfl rfl
theorem dX10_arc_58 : decode cX10_arc 58 = .ok (.iload_n 2, 1) := dk_28 rfl
theorem dX10_arc_59 : decode cX10_arc 59 = .ok (.iconst 0, 1) := dk_3 rfl
theorem dX10_arc_60 : decode cX10_arc 60 = .ok (.invokevirtual 147, 3) := dk_182 rfl rfl rfl rfl
theorem dX10_arc_63 : decode cX10_arc 63 = .ok (.invokevirtual 118, 3) := dk_182 rfl rfl rfl rfl
theorem dX10_arc_66 : decode cX10_arc 66 = .ok (.ireturn, 1) := dk_172 rfl
set_option maxHeartbeats 4000000 in
set_option maxRecDepth 100000 in
theorem c_arc (l : Launch) (g : Gx) (h0 : Nat) (p0 : Int32) (p1 : Int32) (v0h0 : Value) (tl : Nat) (nw : Nat) (v3h0 : Value) (nn : Nat) (ac : Nat) (v6h0 : Value) (v7h0 : Value) (v8h0 : Value) (tr : Int32) (nr : Nat) (xsnapped : Int32) (xmostSlip : Int32) (xslip : Int32) (xisDrawn : Int32) (xseed : Int32) (xtick : Int32) (xmotorTick : Int32) (xahead : Int32) (nrc : Nat) (nrn : Int32) (nrf : Nat → Int32) (v0tl : Value) (yhn : Nat) (v2tl : Value) (v3tl : Value) (yhm : Nat) (v5tl : Value) (v6tl : Value) (v7tl : Value) (yhnc : Nat) (yhnn : Int32) (yhnf : Nat → Int32) (yhmc : Nat) (yhmn : Int32) (yhmf : Nat → Int32) (zr : Nat) (zm : Nat) (zw : Nat) (zp : Nat) (zmd : Int32) (ztr : Int32) (zrc : Nat) (zrn : Int32) (zrf : Nat → Int32) (zmc : Nat) (zmn : Int32) (zmf : Nat → Int32) (zwc : Nat) (zwn : Int32) (zwf : Nat → Int32) (zpc : Nat) (zpn : Int32) (zpf : Nat → Int32) (al : Nat) (xd : Int32) (alc : Nat) (aln : Int32) (alf : Nat → Int32) (hms : ¬ xmostSlip < 0) : cI l g yX10_arc cX10_arc 3 (some .int) 5 118 0 0 [.ref h0, .int p0, .int p1] [(cO10_vrrvrrvvvi h0 v0h0 tl nw v3h0 nn ac v6h0 v7h0 v8h0 tr), (cO5_riiiiiiii nn nr xsnapped xmostSlip xslip xisDrawn xseed xtick xmotorTick xahead), (cO8_iiri nr 8 10 nrc nrn), (cAI g nrc 80 nrf), (cO3_vrvvrvvv tl v0tl yhn v2tl v3tl yhm v5tl v6tl v7tl), (cO8_iiri yhn 1 6 yhnc yhnn), (cAI g yhnc 6 yhnf), (cO8_iiri yhm 4 3 yhmc yhmn), (cAI g yhmc 12 yhmf), (cO7_rrrrii nw zr zm zw zp zmd ztr), (cO8_iiri zr 8 3 zrc zrn), (cAI g zrc 24 zrf), (cO8_iiri zm 12 3 zmc zmn), (cAI g zmc 36 zmf), (cO8_iiri zw 6 3 zwc zwn), (cAI g zwc 18 zwf), (cO8_iiri zp 8 2 zpc zpn), (cAI g zpc 16 zpf), (cO0_ri ac al xd), (cO8_iiri al 8 1 alc aln), (cAI g alc 8 alf)] (fun r w => ∃ (tr2 : Int32) (xsnapped2 : Int32) (xmostSlip2 : Int32) (xslip2 : Int32) (xisDrawn2 : Int32) (xseed2 : Int32) (xtick2 : Int32) (xmotorTick2 : Int32) (xahead2 : Int32) (nrg : Nat → Int32) (nrk : Int32) (xd2 : Int32) (alg : Nat → Int32), (¬ xmostSlip2 < 0) ∧ w = [(cO10_vrrvrrvvvi h0 v0h0 tl nw v3h0 nn ac v6h0 v7h0 v8h0 tr2), (cO5_riiiiiiii nn nr xsnapped2 xmostSlip2 xslip2 xisDrawn2 xseed2 xtick2 xmotorTick2 xahead2), (cO8_iiri nr 8 10 nrc nrk), (cAI g nrc 80 nrg), (cO3_vrvvrvvv tl v0tl yhn v2tl v3tl yhm v5tl v6tl v7tl), (cO8_iiri yhn 1 6 yhnc yhnn), (cAI g yhnc 6 yhnf), (cO8_iiri yhm 4 3 yhmc yhmn), (cAI g yhmc 12 yhmf), (cO7_rrrrii nw zr zm zw zp zmd ztr), (cO8_iiri zr 8 3 zrc zrn), (cAI g zrc 24 zrf), (cO8_iiri zm 12 3 zmc zmn), (cAI g zmc 36 zmf), (cO8_iiri zw 6 3 zwc zwn), (cAI g zwc 18 zwf), (cO8_iiri zp 8 2 zpc zpn), (cAI g zpc 16 zpf), (cO0_ri ac al xd2), (cO8_iiri al 8 1 alc aln), (cAI g alc 8 alg)]) := by
  refine cI.of (by decide) (Nat.le_of_ble_eq_true rfl) ?_
  intro p e s m args below meth c A X hr hi
  refine k_lveq [(0, .ref h0), (1, .int p0), (2, .int p1)] rfl ?_
  refine k_aload_n X dX10_arc_0 0 rfl ?_
  refine k_get (ci := 10) X inlX10 rfl 2 (by decide) dX10_arc_1 mw24 0 rfl rfl ?_
  refine k_get (ci := 7) X inlX7 rfl 3 (by decide) dX10_arc_4 mw213 9 rfl rfl ?_
  refine k_iload_n X dX10_arc_7 2 rfl ?_
  refine k_callVI (n := 1) (As := [.int p1]) (st := []) X [(cO8_iiri zp 8 2 zpc zpn)] [(cO10_vrrvrrvvvi h0 v0h0 tl nw v3h0 nn ac v6h0 v7h0 v8h0 tr), (cO5_riiiiiiii nn nr xsnapped xmostSlip xslip xisDrawn xseed xtick xmotorTick xahead), (cO8_iiri nr 8 10 nrc nrn), (cAI g nrc 80 nrf), (cO3_vrvvrvvv tl v0tl yhn v2tl v3tl yhm v5tl v6tl v7tl), (cO8_iiri yhn 1 6 yhnc yhnn), (cAI g yhnc 6 yhnf), (cO8_iiri yhm 4 3 yhmc yhmn), (cAI g yhmc 12 yhmf), (cO7_rrrrii nw zr zm zw zp zmd ztr), (cO8_iiri zr 8 3 zrc zrn), (cAI g zrc 24 zrf), (cO8_iiri zm 12 3 zmc zmn), (cAI g zmc 36 zmf), (cO8_iiri zw 6 3 zwc zwn), (cAI g zwc 18 zwf), (cAI g zpc 16 zpf), (cO0_ri ac al xd), (cO8_iiri al 8 1 alc aln), (cAI g alc 8 alf)] [16] [0, 1, 2, 3, 4, 5, 6, 7, 8, 9, 10, 11, 12, 13, 14, 15, 17, 18, 19, 20] (t_has l g zp p1 (.int 8) (.int 2) (.ref zpc) zpn) dX10_arc_8 mw647 mw648 mw649 mw64 mw650 rfl 8 rfl rfl 0 _ rfl yk_yX8_has_1 rfl (Nat.le_of_ble_eq_true rfl) (Nat.le_of_ble_eq_true rfl) (Nat.le_of_ble_eq_true rfl) (Nat.le_of_ble_eq_true rfl) (Nat.le_of_ble_eq_true rfl) rfl rfl (by decide +kernel) rfl (by decide +kernel) (by decide +kernel) ?_
  rintro r_1 w ⟨hr_2, rfl⟩
  refine k_ws [(cO10_vrrvrrvvvi h0 v0h0 tl nw v3h0 nn ac v6h0 v7h0 v8h0 tr), (cO5_riiiiiiii nn nr xsnapped xmostSlip xslip xisDrawn xseed xtick xmotorTick xahead), (cO8_iiri nr 8 10 nrc nrn), (cAI g nrc 80 nrf), (cO3_vrvvrvvv tl v0tl yhn v2tl v3tl yhm v5tl v6tl v7tl), (cO8_iiri yhn 1 6 yhnc yhnn), (cAI g yhnc 6 yhnf), (cO8_iiri yhm 4 3 yhmc yhmn), (cAI g yhmc 12 yhmf), (cO7_rrrrii nw zr zm zw zp zmd ztr), (cO8_iiri zr 8 3 zrc zrn), (cAI g zrc 24 zrf), (cO8_iiri zm 12 3 zmc zmn), (cAI g zmc 36 zmf), (cO8_iiri zw 6 3 zwc zwn), (cAI g zwc 18 zwf), (cAI g zpc 16 zpf), (cO0_ri ac al xd), (cO8_iiri al 8 1 alc aln), (cAI g alc 8 alf), (cO8_iiri zp 8 2 zpc zpn)] rfl ?_
  refine k_if_eq 22 X dX10_arc_11 (by decide) (fun h_3 => ?_) (fun h_3 => ?_)
  · skip
    refine k_aload_n X dX10_arc_22 0 rfl ?_
    refine k_iconst (v := 1) X dX10_arc_23 (by decide) ?_
    refine k_callVI (n := 1) (As := [.int 1]) (st := []) X [(cO10_vrrvrrvvvi h0 v0h0 tl nw v3h0 nn ac v6h0 v7h0 v8h0 tr)] [(cO5_riiiiiiii nn nr xsnapped xmostSlip xslip xisDrawn xseed xtick xmotorTick xahead), (cO8_iiri nr 8 10 nrc nrn), (cAI g nrc 80 nrf), (cO3_vrvvrvvv tl v0tl yhn v2tl v3tl yhm v5tl v6tl v7tl), (cO8_iiri yhn 1 6 yhnc yhnn), (cAI g yhnc 6 yhnf), (cO8_iiri yhm 4 3 yhmc yhmn), (cAI g yhmc 12 yhmf), (cO7_rrrrii nw zr zm zw zp zmd ztr), (cO8_iiri zr 8 3 zrc zrn), (cAI g zrc 24 zrf), (cO8_iiri zm 12 3 zmc zmn), (cAI g zmc 36 zmf), (cO8_iiri zw 6 3 zwc zwn), (cAI g zwc 18 zwf), (cAI g zpc 16 zpf), (cO0_ri ac al xd), (cO8_iiri al 8 1 alc aln), (cAI g alc 8 alf), (cO8_iiri zp 8 2 zpc zpn)] [0] [1, 2, 3, 4, 5, 6, 7, 8, 9, 10, 11, 12, 13, 14, 15, 16, 17, 18, 19, 20] (c_refuse l g h0 1 v0h0 (.ref tl) (.ref nw) v3h0 (.ref nn) (.ref ac) v6h0 v7h0 v8h0 tr) dX10_arc_24 mw215 mw216 mw217 mw2 mw218 rfl 10 rfl rfl 0 _ rfl yk_yX10_refuse_1 rfl (Nat.le_of_ble_eq_true rfl) (Nat.le_of_ble_eq_true rfl) (Nat.le_of_ble_eq_true rfl) (Nat.le_of_ble_eq_true rfl) (Nat.le_of_ble_eq_true rfl) rfl rfl (by decide +kernel) rfl (by decide +kernel) (by decide +kernel) ?_
    rintro r_5 w ⟨tr2_4, rfl⟩
    refine k_ws [(cO5_riiiiiiii nn nr xsnapped xmostSlip xslip xisDrawn xseed xtick xmotorTick xahead), (cO8_iiri nr 8 10 nrc nrn), (cAI g nrc 80 nrf), (cO3_vrvvrvvv tl v0tl yhn v2tl v3tl yhm v5tl v6tl v7tl), (cO8_iiri yhn 1 6 yhnc yhnn), (cAI g yhnc 6 yhnf), (cO8_iiri yhm 4 3 yhmc yhmn), (cAI g yhmc 12 yhmf), (cO7_rrrrii nw zr zm zw zp zmd ztr), (cO8_iiri zr 8 3 zrc zrn), (cAI g zrc 24 zrf), (cO8_iiri zm 12 3 zmc zmn), (cAI g zmc 36 zmf), (cO8_iiri zw 6 3 zwc zwn), (cAI g zwc 18 zwf), (cAI g zpc 16 zpf), (cO0_ri ac al xd), (cO8_iiri al 8 1 alc aln), (cAI g alc 8 alf), (cO8_iiri zp 8 2 zpc zpn), (cO10_vrrvrrvvvi h0 v0h0 tl nw v3h0 nn ac v6h0 v7h0 v8h0 tr2_4)] rfl ?_
    exact k_iret X hr dX10_arc_27 (Nat.le_of_ble_eq_true rfl) (Nat.le_of_ble_eq_true rfl) [20, 0, 1, 2, 3, 4, 5, 6, 7, 8, 9, 10, 11, 12, 13, 14, 19, 15, 16, 17, 18] (by decide) rfl rfl ⟨tr2_4, xsnapped, xmostSlip, xslip, xisDrawn, xseed, xtick, xmotorTick, xahead, nrf, nrn, xd, alf, (by assumption), rfl⟩
  · skip
    refine k_aload_n X dX10_arc_14 0 rfl ?_
    refine k_iload_n X dX10_arc_15 1 rfl ?_
    refine k_callVI (n := 1) (As := [.int p0]) (st := []) X [(cO10_vrrvrrvvvi h0 v0h0 tl nw v3h0 nn ac v6h0 v7h0 v8h0 tr), (cO5_riiiiiiii nn nr xsnapped xmostSlip xslip xisDrawn xseed xtick xmotorTick xahead), (cO8_iiri nr 8 10 nrc nrn), (cAI g nrc 80 nrf), (cO3_vrvvrvvv tl v0tl yhn v2tl v3tl yhm v5tl v6tl v7tl), (cO8_iiri yhn 1 6 yhnc yhnn), (cAI g yhnc 6 yhnf), (cO8_iiri yhm 4 3 yhmc yhmn), (cAI g yhmc 12 yhmf), (cO7_rrrrii nw zr zm zw zp zmd ztr), (cO8_iiri zr 8 3 zrc zrn), (cAI g zrc 24 zrf), (cO8_iiri zm 12 3 zmc zmn), (cAI g zmc 36 zmf), (cO8_iiri zw 6 3 zwc zwn), (cAI g zwc 18 zwf), (cO8_iiri zp 8 2 zpc zpn), (cAI g zpc 16 zpf)] [(cO0_ri ac al xd), (cO8_iiri al 8 1 alc aln), (cAI g alc 8 alf)] [0, 1, 2, 3, 4, 5, 6, 7, 8, 9, 10, 11, 12, 13, 14, 15, 20, 16] [17, 18, 19] (c_runNight l g h0 p0 v0h0 tl nw v3h0 nn (.ref ac) v6h0 v7h0 v8h0 tr nr xsnapped xmostSlip xslip xisDrawn xseed xtick xmotorTick xahead nrc nrn nrf v0tl yhn v2tl v3tl yhm v5tl v6tl v7tl yhnc yhnn yhnf yhmc yhmn yhmf zr zm zw zp zmd ztr zrc zrn zrf zmc zmn zmf zwc zwn zwf zpc zpn zpf (by assumption)) dX10_arc_16 mw744 mw745 mw746 mw2 mw747 rfl 10 rfl rfl 0 _ rfl yk_yX10_runNight_1 rfl (Nat.le_of_ble_eq_true rfl) (Nat.le_of_ble_eq_true rfl) (Nat.le_of_ble_eq_true rfl) (Nat.le_of_ble_eq_true rfl) (Nat.le_of_ble_eq_true rfl) rfl rfl (by decide +kernel) rfl (by decide +kernel) (by decide +kernel) ?_
    intro r_18 w zq
    refine exE11 zq ?_
    clear zq
    intro tr2_7 xsnapped2_8 xmostSlip2_9 xslip2_10 xisDrawn2_11 xseed2_12 xtick2_13 xmotorTick2_14 xahead2_15 nrg_16 nrk_17 hr_19 zq
    subst zq
    refine k_ws [(cO0_ri ac al xd), (cO8_iiri al 8 1 alc aln), (cAI g alc 8 alf), (cO10_vrrvrrvvvi h0 v0h0 tl nw v3h0 nn ac v6h0 v7h0 v8h0 tr2_7), (cO5_riiiiiiii nn nr xsnapped2_8 xmostSlip2_9 xslip2_10 xisDrawn2_11 xseed2_12 xtick2_13 xmotorTick2_14 xahead2_15), (cO8_iiri nr 8 10 nrc nrk_17), (cAI g nrc 80 nrg_16), (cO3_vrvvrvvv tl v0tl yhn v2tl v3tl yhm v5tl v6tl v7tl), (cO8_iiri yhn 1 6 yhnc yhnn), (cAI g yhnc 6 yhnf), (cO8_iiri yhm 4 3 yhmc yhmn), (cAI g yhmc 12 yhmf), (cO7_rrrrii nw zr zm zw zp zmd ztr), (cO8_iiri zr 8 3 zrc zrn), (cAI g zrc 24 zrf), (cO8_iiri zm 12 3 zmc zmn), (cAI g zmc 36 zmf), (cO8_iiri zw 6 3 zwc zwn), (cAI g zwc 18 zwf), (cO8_iiri zp 8 2 zpc zpn), (cAI g zpc 16 zpf)] rfl ?_
    refine k_if_ne 28 X dX10_arc_19 (by decide) (fun h_20 => ?_) (fun h_20 => ?_)
    · skip
      refine k_aload_n X dX10_arc_28 0 rfl ?_
      refine k_get (ci := 10) X inlX10 rfl 5 (by decide) dX10_arc_29 mw36 3 rfl rfl ?_
      refine k_aload_n X dX10_arc_32 0 rfl ?_
      refine k_get (ci := 10) X inlX10 rfl 1 (by decide) dX10_arc_33 mw20 3 rfl rfl ?_
      refine k_aload_n X dX10_arc_36 0 rfl ?_
      refine k_get (ci := 10) X inlX10 rfl 4 (by decide) dX10_arc_37 mw32 3 rfl rfl ?_
      refine k_aload_n X dX10_arc_40 0 rfl ?_
      refine k_get (ci := 10) X inlX10 rfl 2 (by decide) dX10_arc_41 mw24 3 rfl rfl ?_
      refine k_get (ci := 7) X inlX7 rfl 5 (by decide) dX10_arc_44 mw1030 12 rfl rfl ?_
      refine k_callVV (n := 3) (As := [.ref tl, .ref nn, .int ztr]) (st := []) X [(cO0_ri ac al xd), (cO8_iiri al 8 1 alc aln), (cAI g alc 8 alf), (cO3_vrvvrvvv tl v0tl yhn v2tl v3tl yhm v5tl v6tl v7tl), (cO8_iiri yhn 1 6 yhnc yhnn), (cAI g yhnc 6 yhnf), (cO5_riiiiiiii nn nr xsnapped2_8 xmostSlip2_9 xslip2_10 xisDrawn2_11 xseed2_12 xtick2_13 xmotorTick2_14 xahead2_15), (cO8_iiri nr 8 10 nrc nrk_17), (cAI g nrc 80 nrg_16)] [(cO10_vrrvrrvvvi h0 v0h0 tl nw v3h0 nn ac v6h0 v7h0 v8h0 tr2_7), (cO8_iiri yhm 4 3 yhmc yhmn), (cAI g yhmc 12 yhmf), (cO7_rrrrii nw zr zm zw zp zmd ztr), (cO8_iiri zr 8 3 zrc zrn), (cAI g zrc 24 zrf), (cO8_iiri zm 12 3 zmc zmn), (cAI g zmc 36 zmf), (cO8_iiri zw 6 3 zwc zwn), (cAI g zwc 18 zwf), (cO8_iiri zp 8 2 zpc zpn), (cAI g zpc 16 zpf)] [0, 1, 2, 7, 8, 9, 4, 5, 6] [3, 10, 11, 12, 13, 14, 15, 16, 17, 18, 19, 20] (a_burn l g ac tl nn ztr al xd alc aln alf v0tl yhn v2tl v3tl (.ref yhm) v5tl v6tl v7tl yhnc yhnn yhnf nr xsnapped2_8 xmostSlip2_9 xslip2_10 xisDrawn2_11 xseed2_12 xtick2_13 xmotorTick2_14 xahead2_15 nrc nrk_17 nrg_16) dX10_arc_47 mw1032 mw1033 mw1034 mw35 mw1035 rfl 0 rfl rfl 0 _ rfl yk_yX0_burn_3 rfl (Nat.le_of_ble_eq_true rfl) (Nat.le_of_ble_eq_true rfl) (Nat.le_of_ble_eq_true rfl) (Nat.le_of_ble_eq_true rfl) (Nat.le_of_ble_eq_true rfl) rfl rfl (by decide +kernel) rfl (by decide +kernel) (by decide +kernel) ?_
      rintro w ⟨xd2_21, alg_22, rfl⟩
      refine k_ws [(cO10_vrrvrrvvvi h0 v0h0 tl nw v3h0 nn ac v6h0 v7h0 v8h0 tr2_7), (cO8_iiri yhm 4 3 yhmc yhmn), (cAI g yhmc 12 yhmf), (cO7_rrrrii nw zr zm zw zp zmd ztr), (cO8_iiri zr 8 3 zrc zrn), (cAI g zrc 24 zrf), (cO8_iiri zm 12 3 zmc zmn), (cAI g zmc 36 zmf), (cO8_iiri zw 6 3 zwc zwn), (cAI g zwc 18 zwf), (cO8_iiri zp 8 2 zpc zpn), (cAI g zpc 16 zpf), (cO0_ri ac al xd2_21), (cO8_iiri al 8 1 alc aln), (cAI g alc 8 alg_22), (cO3_vrvvrvvv tl v0tl yhn v2tl v3tl yhm v5tl v6tl v7tl), (cO8_iiri yhn 1 6 yhnc yhnn), (cAI g yhnc 6 yhnf), (cO5_riiiiiiii nn nr xsnapped2_8 xmostSlip2_9 xslip2_10 xisDrawn2_11 xseed2_12 xtick2_13 xmotorTick2_14 xahead2_15), (cO8_iiri nr 8 10 nrc nrk_17), (cAI g nrc 80 nrg_16)] rfl ?_
      refine k_aload_n X dX10_arc_50 0 rfl ?_
      refine k_aload_n X dX10_arc_51 0 rfl ?_
      refine k_get (ci := 10) X inlX10 rfl 5 (by decide) dX10_arc_52 mw36 0 rfl rfl ?_
      refine k_get (ci := 0) X inlX0 rfl 0 (by decide) dX10_arc_55 mw1084 12 rfl rfl ?_
      refine k_iload_n X dX10_arc_58 2 rfl ?_
      refine k_iconst (v := 0) X dX10_arc_59 (by decide) ?_
      refine k_callVI (n := 2) (As := [.int p1, .int 0]) (st := [.ref h0]) X [(cO8_iiri al 8 1 alc aln), (cAI g alc 8 alg_22)] [(cO10_vrrvrrvvvi h0 v0h0 tl nw v3h0 nn ac v6h0 v7h0 v8h0 tr2_7), (cO8_iiri yhm 4 3 yhmc yhmn), (cAI g yhmc 12 yhmf), (cO7_rrrrii nw zr zm zw zp zmd ztr), (cO8_iiri zr 8 3 zrc zrn), (cAI g zrc 24 zrf), (cO8_iiri zm 12 3 zmc zmn), (cAI g zmc 36 zmf), (cO8_iiri zw 6 3 zwc zwn), (cAI g zwc 18 zwf), (cO8_iiri zp 8 2 zpc zpn), (cAI g zpc 16 zpf), (cO0_ri ac al xd2_21), (cO3_vrvvrvvv tl v0tl yhn v2tl v3tl yhm v5tl v6tl v7tl), (cO8_iiri yhn 1 6 yhnc yhnn), (cAI g yhnc 6 yhnf), (cO5_riiiiiiii nn nr xsnapped2_8 xmostSlip2_9 xslip2_10 xisDrawn2_11 xseed2_12 xtick2_13 xmotorTick2_14 xahead2_15), (cO8_iiri nr 8 10 nrc nrk_17), (cAI g nrc 80 nrg_16)] [13, 14] [0, 1, 2, 3, 4, 5, 6, 7, 8, 9, 10, 11, 12, 15, 16, 17, 18, 19, 20] (t_at l g al p1 0 8 1 alc aln 8 alg_22 (tbk_8_1)) dX10_arc_60 mw665 mw376 mw377 mw64 mw378 rfl 8 rfl rfl 0 _ rfl yk_yX8_at_2 rfl (Nat.le_of_ble_eq_true rfl) (Nat.le_of_ble_eq_true rfl) (Nat.le_of_ble_eq_true rfl) (Nat.le_of_ble_eq_true rfl) (Nat.le_of_ble_eq_true rfl) rfl rfl (by decide +kernel) rfl (by decide +kernel) (by decide +kernel) ?_
      rintro r_25 w ⟨hr_26, rfl⟩
      refine k_ws [(cO10_vrrvrrvvvi h0 v0h0 tl nw v3h0 nn ac v6h0 v7h0 v8h0 tr2_7), (cO8_iiri yhm 4 3 yhmc yhmn), (cAI g yhmc 12 yhmf), (cO7_rrrrii nw zr zm zw zp zmd ztr), (cO8_iiri zr 8 3 zrc zrn), (cAI g zrc 24 zrf), (cO8_iiri zm 12 3 zmc zmn), (cAI g zmc 36 zmf), (cO8_iiri zw 6 3 zwc zwn), (cAI g zwc 18 zwf), (cO8_iiri zp 8 2 zpc zpn), (cAI g zpc 16 zpf), (cO0_ri ac al xd2_21), (cO3_vrvvrvvv tl v0tl yhn v2tl v3tl yhm v5tl v6tl v7tl), (cO8_iiri yhn 1 6 yhnc yhnn), (cAI g yhnc 6 yhnf), (cO5_riiiiiiii nn nr xsnapped2_8 xmostSlip2_9 xslip2_10 xisDrawn2_11 xseed2_12 xtick2_13 xmotorTick2_14 xahead2_15), (cO8_iiri nr 8 10 nrc nrk_17), (cAI g nrc 80 nrg_16), (cO8_iiri al 8 1 alc aln), (cAI g alc 8 alg_22)] rfl ?_
      refine k_callVI (n := 1) (As := [.int r_25]) (st := []) X [(cO10_vrrvrrvvvi h0 v0h0 tl nw v3h0 nn ac v6h0 v7h0 v8h0 tr2_7)] [(cO8_iiri yhm 4 3 yhmc yhmn), (cAI g yhmc 12 yhmf), (cO7_rrrrii nw zr zm zw zp zmd ztr), (cO8_iiri zr 8 3 zrc zrn), (cAI g zrc 24 zrf), (cO8_iiri zm 12 3 zmc zmn), (cAI g zmc 36 zmf), (cO8_iiri zw 6 3 zwc zwn), (cAI g zwc 18 zwf), (cO8_iiri zp 8 2 zpc zpn), (cAI g zpc 16 zpf), (cO0_ri ac al xd2_21), (cO3_vrvvrvvv tl v0tl yhn v2tl v3tl yhm v5tl v6tl v7tl), (cO8_iiri yhn 1 6 yhnc yhnn), (cAI g yhnc 6 yhnf), (cO5_riiiiiiii nn nr xsnapped2_8 xmostSlip2_9 xslip2_10 xisDrawn2_11 xseed2_12 xtick2_13 xmotorTick2_14 xahead2_15), (cO8_iiri nr 8 10 nrc nrk_17), (cAI g nrc 80 nrg_16), (cO8_iiri al 8 1 alc aln), (cAI g alc 8 alg_22)] [0] [1, 2, 3, 4, 5, 6, 7, 8, 9, 10, 11, 12, 13, 14, 15, 16, 17, 18, 19, 20] (c_tell l g h0 r_25 v0h0 (.ref tl) (.ref nw) v3h0 (.ref nn) (.ref ac) v6h0 v7h0 v8h0 tr2_7) dX10_arc_63 mw460 mw461 mw462 mw2 mw463 rfl 10 rfl rfl 0 _ rfl yk_yX10_tell_1 rfl (Nat.le_of_ble_eq_true rfl) (Nat.le_of_ble_eq_true rfl) (Nat.le_of_ble_eq_true rfl) (Nat.le_of_ble_eq_true rfl) (Nat.le_of_ble_eq_true rfl) rfl rfl (by decide +kernel) rfl (by decide +kernel) (by decide +kernel) ?_
      rintro r_28 w ⟨tr2_27, rfl⟩
      refine k_ws [(cO8_iiri yhm 4 3 yhmc yhmn), (cAI g yhmc 12 yhmf), (cO7_rrrrii nw zr zm zw zp zmd ztr), (cO8_iiri zr 8 3 zrc zrn), (cAI g zrc 24 zrf), (cO8_iiri zm 12 3 zmc zmn), (cAI g zmc 36 zmf), (cO8_iiri zw 6 3 zwc zwn), (cAI g zwc 18 zwf), (cO8_iiri zp 8 2 zpc zpn), (cAI g zpc 16 zpf), (cO0_ri ac al xd2_21), (cO3_vrvvrvvv tl v0tl yhn v2tl v3tl yhm v5tl v6tl v7tl), (cO8_iiri yhn 1 6 yhnc yhnn), (cAI g yhnc 6 yhnf), (cO5_riiiiiiii nn nr xsnapped2_8 xmostSlip2_9 xslip2_10 xisDrawn2_11 xseed2_12 xtick2_13 xmotorTick2_14 xahead2_15), (cO8_iiri nr 8 10 nrc nrk_17), (cAI g nrc 80 nrg_16), (cO8_iiri al 8 1 alc aln), (cAI g alc 8 alg_22), (cO10_vrrvrrvvvi h0 v0h0 tl nw v3h0 nn ac v6h0 v7h0 v8h0 tr2_27)] rfl ?_
      exact k_iret X hr dX10_arc_66 (Nat.le_of_ble_eq_true rfl) (Nat.le_of_ble_eq_true rfl) [20, 15, 16, 17, 12, 13, 14, 0, 1, 2, 3, 4, 5, 6, 7, 8, 9, 10, 11, 18, 19] (by decide) rfl rfl ⟨tr2_27, xsnapped2_8, xmostSlip2_9, xslip2_10, xisDrawn2_11, xseed2_12, xtick2_13, xmotorTick2_14, xahead2_15, nrg_16, nrk_17, xd2_21, alg_22, (by assumption), rfl⟩
    · skip
      refine k_aload_n X dX10_arc_22 0 rfl ?_
      refine k_iconst (v := 1) X dX10_arc_23 (by decide) ?_
      refine k_callVI (n := 1) (As := [.int 1]) (st := []) X [(cO10_vrrvrrvvvi h0 v0h0 tl nw v3h0 nn ac v6h0 v7h0 v8h0 tr2_7)] [(cO0_ri ac al xd), (cO8_iiri al 8 1 alc aln), (cAI g alc 8 alf), (cO5_riiiiiiii nn nr xsnapped2_8 xmostSlip2_9 xslip2_10 xisDrawn2_11 xseed2_12 xtick2_13 xmotorTick2_14 xahead2_15), (cO8_iiri nr 8 10 nrc nrk_17), (cAI g nrc 80 nrg_16), (cO3_vrvvrvvv tl v0tl yhn v2tl v3tl yhm v5tl v6tl v7tl), (cO8_iiri yhn 1 6 yhnc yhnn), (cAI g yhnc 6 yhnf), (cO8_iiri yhm 4 3 yhmc yhmn), (cAI g yhmc 12 yhmf), (cO7_rrrrii nw zr zm zw zp zmd ztr), (cO8_iiri zr 8 3 zrc zrn), (cAI g zrc 24 zrf), (cO8_iiri zm 12 3 zmc zmn), (cAI g zmc 36 zmf), (cO8_iiri zw 6 3 zwc zwn), (cAI g zwc 18 zwf), (cO8_iiri zp 8 2 zpc zpn), (cAI g zpc 16 zpf)] [3] [0, 1, 2, 4, 5, 6, 7, 8, 9, 10, 11, 12, 13, 14, 15, 16, 17, 18, 19, 20] (c_refuse l g h0 1 v0h0 (.ref tl) (.ref nw) v3h0 (.ref nn) (.ref ac) v6h0 v7h0 v8h0 tr2_7) dX10_arc_24 mw215 mw216 mw217 mw2 mw218 rfl 10 rfl rfl 0 _ rfl yk_yX10_refuse_1 rfl (Nat.le_of_ble_eq_true rfl) (Nat.le_of_ble_eq_true rfl) (Nat.le_of_ble_eq_true rfl) (Nat.le_of_ble_eq_true rfl) (Nat.le_of_ble_eq_true rfl) rfl rfl (by decide +kernel) rfl (by decide +kernel) (by decide +kernel) ?_
      rintro r_31 w ⟨tr2_30, rfl⟩
      refine k_ws [(cO0_ri ac al xd), (cO8_iiri al 8 1 alc aln), (cAI g alc 8 alf), (cO5_riiiiiiii nn nr xsnapped2_8 xmostSlip2_9 xslip2_10 xisDrawn2_11 xseed2_12 xtick2_13 xmotorTick2_14 xahead2_15), (cO8_iiri nr 8 10 nrc nrk_17), (cAI g nrc 80 nrg_16), (cO3_vrvvrvvv tl v0tl yhn v2tl v3tl yhm v5tl v6tl v7tl), (cO8_iiri yhn 1 6 yhnc yhnn), (cAI g yhnc 6 yhnf), (cO8_iiri yhm 4 3 yhmc yhmn), (cAI g yhmc 12 yhmf), (cO7_rrrrii nw zr zm zw zp zmd ztr), (cO8_iiri zr 8 3 zrc zrn), (cAI g zrc 24 zrf), (cO8_iiri zm 12 3 zmc zmn), (cAI g zmc 36 zmf), (cO8_iiri zw 6 3 zwc zwn), (cAI g zwc 18 zwf), (cO8_iiri zp 8 2 zpc zpn), (cAI g zpc 16 zpf), (cO10_vrrvrrvvvi h0 v0h0 tl nw v3h0 nn ac v6h0 v7h0 v8h0 tr2_30)] rfl ?_
      exact k_iret X hr dX10_arc_27 (Nat.le_of_ble_eq_true rfl) (Nat.le_of_ble_eq_true rfl) [20, 3, 4, 5, 6, 7, 8, 9, 10, 11, 12, 13, 14, 15, 16, 17, 18, 19, 0, 1, 2] (by decide) rfl rfl ⟨tr2_30, xsnapped2_8, xmostSlip2_9, xslip2_10, xisDrawn2_11, xseed2_12, xtick2_13, xmotorTick2_14, xahead2_15, nrg_16, nrk_17, xd, alf, (by assumption), rfl⟩

theorem dX10_never_0 : decode cX10_never 0 = .ok (.aload_n 0, 1) := dk_42 rfl
theorem dX10_never_1 : decode cX10_never 1 = .ok (.iload_n 1, 1) := dk_27 rfl
theorem dX10_never_2 : decode cX10_never 2 = .ok (.invokevirtual 163, 3) := dk_182 rfl rfl rfl rfl
theorem dX10_never_5 : decode cX10_never 5 = .ok (.ifCond .eq 25, 3) := dk_153 rfl rfl rfl (by decide)
theorem dX10_never_8 : decode cX10_never 8 = .ok (.aload_n 0, 1) := dk_42 rfl
theorem dX10_never_9 : decode cX10_never 9 = .ok (.aload_n 0, 1) := dk_42 rfl
theorem dX10_never_10 : decode cX10_never 10 = .ok (.getfield 47, 3) := dk_180 rfl rfl rfl rfl
theorem dX10_never_13 : decode cX10_never 13 = .ok (.aload_n 0, 1) := dk_42 rfl
theorem dX10_never_14 : decode cX10_never 14 = .ok (.getfield 19, 3) := dk_180 rfl rfl rfl rfl
theorem dX10_never_17 : decode cX10_never 17 = .ok (.aload_n 0, 1) := dk_42 rfl
theorem dX10_never_18 : decode cX10_never 18 = .ok (.getfield 40, 3) := dk_180 rfl rfl rfl rfl
theorem dX10_never_21 : decode cX10_never 21 = .ok (.invokevirtual 229, 3) := dk_182 rfl rfl rfl rfl
theorem dX10_never_24 : decode cX10_never 24 = .ok (.invokevirtual 118, 3) := dk_182 rfl rfl rfl rfl
theorem dX10_never_27 : decode cX10_never 27 = .ok (.goto 8, 3) := dk_167 rfl rfl rfl (by decide)
theorem dX10_never_30 : decode cX10_never 30 = .ok (.aload_n 0, 1) := dk_42 rfl
theorem dX10_never_31 : decode cX10_never 31 = .ok (.iconst 1, 1) := dk_4 rfl
theorem dX10_never_32 : decode cX10_never 32 = .ok (.invokevirtual 83, 3) := dk_182 rfl rfl rfl rfl
theorem dX10_never_35 : decode cX10_never 35 = .ok (.ireturn, 1) := dk_172 rfl
set_option maxHeartbeats 4000000 in
set_option maxRecDepth 100000 in
theorem c_never (l : Launch) (g : Gx) (h0 : Nat) (p0 : Int32) (v0h0 : Value) (tl : Nat) (nw : Nat) (v3h0 : Value) (nn : Nat) (ac : Nat) (v6h0 : Value) (v7h0 : Value) (v8h0 : Value) (tr : Int32) (nr : Nat) (xsnapped : Int32) (xmostSlip : Int32) (xslip : Int32) (xisDrawn : Int32) (xseed : Int32) (xtick : Int32) (xmotorTick : Int32) (xahead : Int32) (nrc : Nat) (nrn : Int32) (nrf : Nat → Int32) (v0tl : Value) (yhn : Nat) (v2tl : Value) (v3tl : Value) (yhm : Nat) (v5tl : Value) (v6tl : Value) (v7tl : Value) (yhnc : Nat) (yhnn : Int32) (yhnf : Nat → Int32) (yhmc : Nat) (yhmn : Int32) (yhmf : Nat → Int32) (zr : Nat) (zm : Nat) (zw : Nat) (zp : Nat) (zmd : Int32) (ztr : Int32) (zrc : Nat) (zrn : Int32) (zrf : Nat → Int32) (zmc : Nat) (zmn : Int32) (zmf : Nat → Int32) (zwc : Nat) (zwn : Int32) (zwf : Nat → Int32) (zpc : Nat) (zpn : Int32) (zpf : Nat → Int32) (al : Nat) (xd : Int32) (alc : Nat) (aln : Int32) (alf : Nat → Int32) (hms : ¬ xmostSlip < 0) : cI l g yX10_never cX10_never 2 (some .int) 5 118 0 0 [.ref h0, .int p0] [(cO10_vrrvrrvvvi h0 v0h0 tl nw v3h0 nn ac v6h0 v7h0 v8h0 tr), (cO5_riiiiiiii nn nr xsnapped xmostSlip xslip xisDrawn xseed xtick xmotorTick xahead), (cO8_iiri nr 8 10 nrc nrn), (cAI g nrc 80 nrf), (cO3_vrvvrvvv tl v0tl yhn v2tl v3tl yhm v5tl v6tl v7tl), (cO8_iiri yhn 1 6 yhnc yhnn), (cAI g yhnc 6 yhnf), (cO8_iiri yhm 4 3 yhmc yhmn), (cAI g yhmc 12 yhmf), (cO7_rrrrii nw zr zm zw zp zmd ztr), (cO8_iiri zr 8 3 zrc zrn), (cAI g zrc 24 zrf), (cO8_iiri zm 12 3 zmc zmn), (cAI g zmc 36 zmf), (cO8_iiri zw 6 3 zwc zwn), (cAI g zwc 18 zwf), (cO8_iiri zp 8 2 zpc zpn), (cAI g zpc 16 zpf), (cO0_ri ac al xd), (cO8_iiri al 8 1 alc aln), (cAI g alc 8 alf)] (fun r w => ∃ (tr2 : Int32) (xsnapped2 : Int32) (xmostSlip2 : Int32) (xslip2 : Int32) (xisDrawn2 : Int32) (xseed2 : Int32) (xtick2 : Int32) (xmotorTick2 : Int32) (xahead2 : Int32) (nrg : Nat → Int32) (nrk : Int32) (xd2 : Int32) (alg : Nat → Int32), (¬ xmostSlip2 < 0) ∧ w = [(cO10_vrrvrrvvvi h0 v0h0 tl nw v3h0 nn ac v6h0 v7h0 v8h0 tr2), (cO5_riiiiiiii nn nr xsnapped2 xmostSlip2 xslip2 xisDrawn2 xseed2 xtick2 xmotorTick2 xahead2), (cO8_iiri nr 8 10 nrc nrk), (cAI g nrc 80 nrg), (cO3_vrvvrvvv tl v0tl yhn v2tl v3tl yhm v5tl v6tl v7tl), (cO8_iiri yhn 1 6 yhnc yhnn), (cAI g yhnc 6 yhnf), (cO8_iiri yhm 4 3 yhmc yhmn), (cAI g yhmc 12 yhmf), (cO7_rrrrii nw zr zm zw zp zmd ztr), (cO8_iiri zr 8 3 zrc zrn), (cAI g zrc 24 zrf), (cO8_iiri zm 12 3 zmc zmn), (cAI g zmc 36 zmf), (cO8_iiri zw 6 3 zwc zwn), (cAI g zwc 18 zwf), (cO8_iiri zp 8 2 zpc zpn), (cAI g zpc 16 zpf), (cO0_ri ac al xd2), (cO8_iiri al 8 1 alc aln), (cAI g alc 8 alg)]) := by
  refine cI.of (by decide) (Nat.le_of_ble_eq_true rfl) ?_
  intro p e s m args below meth c A X hr hi
  refine k_lveq [(0, .ref h0), (1, .int p0)] rfl ?_
  refine k_aload_n X dX10_never_0 0 rfl ?_
  refine k_iload_n X dX10_never_1 1 rfl ?_
  refine k_callVI (n := 1) (As := [.int p0]) (st := []) X [(cO10_vrrvrrvvvi h0 v0h0 tl nw v3h0 nn ac v6h0 v7h0 v8h0 tr), (cO5_riiiiiiii nn nr xsnapped xmostSlip xslip xisDrawn xseed xtick xmotorTick xahead), (cO8_iiri nr 8 10 nrc nrn), (cAI g nrc 80 nrf), (cO3_vrvvrvvv tl v0tl yhn v2tl v3tl yhm v5tl v6tl v7tl), (cO8_iiri yhn 1 6 yhnc yhnn), (cAI g yhnc 6 yhnf), (cO8_iiri yhm 4 3 yhmc yhmn), (cAI g yhmc 12 yhmf), (cO7_rrrrii nw zr zm zw zp zmd ztr), (cO8_iiri zr 8 3 zrc zrn), (cAI g zrc 24 zrf), (cO8_iiri zm 12 3 zmc zmn), (cAI g zmc 36 zmf), (cO8_iiri zw 6 3 zwc zwn), (cAI g zwc 18 zwf), (cO8_iiri zp 8 2 zpc zpn), (cAI g zpc 16 zpf)] [(cO0_ri ac al xd), (cO8_iiri al 8 1 alc aln), (cAI g alc 8 alf)] [0, 1, 2, 3, 4, 5, 6, 7, 8, 9, 10, 11, 12, 13, 14, 15, 16, 17] [18, 19, 20] (c_runNight l g h0 p0 v0h0 tl nw v3h0 nn (.ref ac) v6h0 v7h0 v8h0 tr nr xsnapped xmostSlip xslip xisDrawn xseed xtick xmotorTick xahead nrc nrn nrf v0tl yhn v2tl v3tl yhm v5tl v6tl v7tl yhnc yhnn yhnf yhmc yhmn yhmf zr zm zw zp zmd ztr zrc zrn zrf zmc zmn zmf zwc zwn zwf zpc zpn zpf (by assumption)) dX10_never_2 mw744 mw745 mw746 mw2 mw747 rfl 10 rfl rfl 0 _ rfl yk_yX10_runNight_1 rfl (Nat.le_of_ble_eq_true rfl) (Nat.le_of_ble_eq_true rfl) (Nat.le_of_ble_eq_true rfl) (Nat.le_of_ble_eq_true rfl) (Nat.le_of_ble_eq_true rfl) rfl rfl (by decide +kernel) rfl (by decide +kernel) (by decide +kernel) ?_
  intro r_12 w zq
  refine exE11 zq ?_
  clear zq
  intro tr2_1 xsnapped2_2 xmostSlip2_3 xslip2_4 xisDrawn2_5 xseed2_6 xtick2_7 xmotorTick2_8 xahead2_9 nrg_10 nrk_11 hr_13 zq
  subst zq
  refine k_ws [(cO0_ri ac al xd), (cO8_iiri al 8 1 alc aln), (cAI g alc 8 alf), (cO10_vrrvrrvvvi h0 v0h0 tl nw v3h0 nn ac v6h0 v7h0 v8h0 tr2_1), (cO5_riiiiiiii nn nr xsnapped2_2 xmostSlip2_3 xslip2_4 xisDrawn2_5 xseed2_6 xtick2_7 xmotorTick2_8 xahead2_9), (cO8_iiri nr 8 10 nrc nrk_11), (cAI g nrc 80 nrg_10), (cO3_vrvvrvvv tl v0tl yhn v2tl v3tl yhm v5tl v6tl v7tl), (cO8_iiri yhn 1 6 yhnc yhnn), (cAI g yhnc 6 yhnf), (cO8_iiri yhm 4 3 yhmc yhmn), (cAI g yhmc 12 yhmf), (cO7_rrrrii nw zr zm zw zp zmd ztr), (cO8_iiri zr 8 3 zrc zrn), (cAI g zrc 24 zrf), (cO8_iiri zm 12 3 zmc zmn), (cAI g zmc 36 zmf), (cO8_iiri zw 6 3 zwc zwn), (cAI g zwc 18 zwf), (cO8_iiri zp 8 2 zpc zpn), (cAI g zpc 16 zpf)] rfl ?_
  refine k_if_eq 30 X dX10_never_5 (by decide) (fun h_14 => ?_) (fun h_14 => ?_)
  · skip
    refine k_aload_n X dX10_never_30 0 rfl ?_
    refine k_iconst (v := 1) X dX10_never_31 (by decide) ?_
    refine k_callVI (n := 1) (As := [.int 1]) (st := []) X [(cO10_vrrvrrvvvi h0 v0h0 tl nw v3h0 nn ac v6h0 v7h0 v8h0 tr2_1)] [(cO0_ri ac al xd), (cO8_iiri al 8 1 alc aln), (cAI g alc 8 alf), (cO5_riiiiiiii nn nr xsnapped2_2 xmostSlip2_3 xslip2_4 xisDrawn2_5 xseed2_6 xtick2_7 xmotorTick2_8 xahead2_9), (cO8_iiri nr 8 10 nrc nrk_11), (cAI g nrc 80 nrg_10), (cO3_vrvvrvvv tl v0tl yhn v2tl v3tl yhm v5tl v6tl v7tl), (cO8_iiri yhn 1 6 yhnc yhnn), (cAI g yhnc 6 yhnf), (cO8_iiri yhm 4 3 yhmc yhmn), (cAI g yhmc 12 yhmf), (cO7_rrrrii nw zr zm zw zp zmd ztr), (cO8_iiri zr 8 3 zrc zrn), (cAI g zrc 24 zrf), (cO8_iiri zm 12 3 zmc zmn), (cAI g zmc 36 zmf), (cO8_iiri zw 6 3 zwc zwn), (cAI g zwc 18 zwf), (cO8_iiri zp 8 2 zpc zpn), (cAI g zpc 16 zpf)] [3] [0, 1, 2, 4, 5, 6, 7, 8, 9, 10, 11, 12, 13, 14, 15, 16, 17, 18, 19, 20] (c_refuse l g h0 1 v0h0 (.ref tl) (.ref nw) v3h0 (.ref nn) (.ref ac) v6h0 v7h0 v8h0 tr2_1) dX10_never_32 mw215 mw216 mw217 mw2 mw218 rfl 10 rfl rfl 0 _ rfl yk_yX10_refuse_1 rfl (Nat.le_of_ble_eq_true rfl) (Nat.le_of_ble_eq_true rfl) (Nat.le_of_ble_eq_true rfl) (Nat.le_of_ble_eq_true rfl) (Nat.le_of_ble_eq_true rfl) rfl rfl (by decide +kernel) rfl (by decide +kernel) (by decide +kernel) ?_
    rintro r_16 w ⟨tr2_15, rfl⟩
    refine k_ws [(cO0_ri ac al xd), (cO8_iiri al 8 1 alc aln), (cAI g alc 8 alf), (cO5_riiiiiiii nn nr xsnapped2_2 xmostSlip2_3 xslip2_4 xisDrawn2_5 xseed2_6 xtick2_7 xmotorTick2_8 xahead2_9), (cO8_iiri nr 8 10 nrc nrk_11), (cAI g nrc 80 nrg_10), (cO3_vrvvrvvv tl v0tl yhn v2tl v3tl yhm v5tl v6tl v7tl), (cO8_iiri yhn 1 6 yhnc yhnn), (cAI g yhnc 6 yhnf), (cO8_iiri yhm 4 3 yhmc yhmn), (cAI g yhmc 12 yhmf), (cO7_rrrrii nw zr zm zw zp zmd ztr), (cO8_iiri zr 8 3 zrc zrn), (cAI g zrc 24 zrf), (cO8_iiri zm 12 3 zmc zmn), (cAI g zmc 36 zmf), (cO8_iiri zw 6 3 zwc zwn), (cAI g zwc 18 zwf), (cO8_iiri zp 8 2 zpc zpn), (cAI g zpc 16 zpf), (cO10_vrrvrrvvvi h0 v0h0 tl nw v3h0 nn ac v6h0 v7h0 v8h0 tr2_15)] rfl ?_
    exact k_iret X hr dX10_never_35 (Nat.le_of_ble_eq_true rfl) (Nat.le_of_ble_eq_true rfl) [20, 3, 4, 5, 6, 7, 8, 9, 10, 11, 12, 13, 14, 15, 16, 17, 18, 19, 0, 1, 2] (by decide) rfl rfl ⟨tr2_15, xsnapped2_2, xmostSlip2_3, xslip2_4, xisDrawn2_5, xseed2_6, xtick2_7, xmotorTick2_8, xahead2_9, nrg_10, nrk_11, xd, alf, (by assumption), rfl⟩
  · skip
    refine k_aload_n X dX10_never_8 0 rfl ?_
    refine k_aload_n X dX10_never_9 0 rfl ?_
    refine k_get (ci := 10) X inlX10 rfl 5 (by decide) dX10_never_10 mw36 3 rfl rfl ?_
    refine k_aload_n X dX10_never_13 0 rfl ?_
    refine k_get (ci := 10) X inlX10 rfl 1 (by decide) dX10_never_14 mw20 3 rfl rfl ?_
    refine k_aload_n X dX10_never_17 0 rfl ?_
    refine k_get (ci := 10) X inlX10 rfl 4 (by decide) dX10_never_18 mw32 3 rfl rfl ?_
    refine k_callVI (n := 2) (As := [.ref tl, .ref nn]) (st := [.ref h0]) X [(cO0_ri ac al xd), (cO8_iiri al 8 1 alc aln), (cAI g alc 8 alf), (cO3_vrvvrvvv tl v0tl yhn v2tl v3tl yhm v5tl v6tl v7tl), (cO8_iiri yhn 1 6 yhnc yhnn), (cAI g yhnc 6 yhnf), (cO5_riiiiiiii nn nr xsnapped2_2 xmostSlip2_3 xslip2_4 xisDrawn2_5 xseed2_6 xtick2_7 xmotorTick2_8 xahead2_9), (cO8_iiri nr 8 10 nrc nrk_11), (cAI g nrc 80 nrg_10)] [(cO10_vrrvrrvvvi h0 v0h0 tl nw v3h0 nn ac v6h0 v7h0 v8h0 tr2_1), (cO8_iiri yhm 4 3 yhmc yhmn), (cAI g yhmc 12 yhmf), (cO7_rrrrii nw zr zm zw zp zmd ztr), (cO8_iiri zr 8 3 zrc zrn), (cAI g zrc 24 zrf), (cO8_iiri zm 12 3 zmc zmn), (cAI g zmc 36 zmf), (cO8_iiri zw 6 3 zwc zwn), (cAI g zwc 18 zwf), (cO8_iiri zp 8 2 zpc zpn), (cAI g zpc 16 zpf)] [0, 1, 2, 7, 8, 9, 4, 5, 6] [3, 10, 11, 12, 13, 14, 15, 16, 17, 18, 19, 20] (a_fewest l g ac tl nn al xd alc aln alf v0tl yhn v2tl v3tl (.ref yhm) v5tl v6tl v7tl yhnc yhnn yhnf nr xsnapped2_2 xmostSlip2_3 xslip2_4 xisDrawn2_5 xseed2_6 xtick2_7 xmotorTick2_8 xahead2_9 nrc nrk_11 nrg_10) dX10_never_21 mw1093 mw1094 mw1095 mw35 mw1096 rfl 0 rfl rfl 0 _ rfl yk_yX0_fewestTrims_2 rfl (Nat.le_of_ble_eq_true rfl) (Nat.le_of_ble_eq_true rfl) (Nat.le_of_ble_eq_true rfl) (Nat.le_of_ble_eq_true rfl) (Nat.le_of_ble_eq_true rfl) rfl rfl (by decide +kernel) rfl (by decide +kernel) (by decide +kernel) ?_
    rintro r_20 w ⟨xd2_18, alg_19, rfl⟩
    refine k_ws [(cO10_vrrvrrvvvi h0 v0h0 tl nw v3h0 nn ac v6h0 v7h0 v8h0 tr2_1), (cO8_iiri yhm 4 3 yhmc yhmn), (cAI g yhmc 12 yhmf), (cO7_rrrrii nw zr zm zw zp zmd ztr), (cO8_iiri zr 8 3 zrc zrn), (cAI g zrc 24 zrf), (cO8_iiri zm 12 3 zmc zmn), (cAI g zmc 36 zmf), (cO8_iiri zw 6 3 zwc zwn), (cAI g zwc 18 zwf), (cO8_iiri zp 8 2 zpc zpn), (cAI g zpc 16 zpf), (cO0_ri ac al xd2_18), (cO8_iiri al 8 1 alc aln), (cAI g alc 8 alg_19), (cO3_vrvvrvvv tl v0tl yhn v2tl v3tl yhm v5tl v6tl v7tl), (cO8_iiri yhn 1 6 yhnc yhnn), (cAI g yhnc 6 yhnf), (cO5_riiiiiiii nn nr xsnapped2_2 xmostSlip2_3 xslip2_4 xisDrawn2_5 xseed2_6 xtick2_7 xmotorTick2_8 xahead2_9), (cO8_iiri nr 8 10 nrc nrk_11), (cAI g nrc 80 nrg_10)] rfl ?_
    refine k_callVI (n := 1) (As := [.int r_20]) (st := []) X [(cO10_vrrvrrvvvi h0 v0h0 tl nw v3h0 nn ac v6h0 v7h0 v8h0 tr2_1)] [(cO8_iiri yhm 4 3 yhmc yhmn), (cAI g yhmc 12 yhmf), (cO7_rrrrii nw zr zm zw zp zmd ztr), (cO8_iiri zr 8 3 zrc zrn), (cAI g zrc 24 zrf), (cO8_iiri zm 12 3 zmc zmn), (cAI g zmc 36 zmf), (cO8_iiri zw 6 3 zwc zwn), (cAI g zwc 18 zwf), (cO8_iiri zp 8 2 zpc zpn), (cAI g zpc 16 zpf), (cO0_ri ac al xd2_18), (cO8_iiri al 8 1 alc aln), (cAI g alc 8 alg_19), (cO3_vrvvrvvv tl v0tl yhn v2tl v3tl yhm v5tl v6tl v7tl), (cO8_iiri yhn 1 6 yhnc yhnn), (cAI g yhnc 6 yhnf), (cO5_riiiiiiii nn nr xsnapped2_2 xmostSlip2_3 xslip2_4 xisDrawn2_5 xseed2_6 xtick2_7 xmotorTick2_8 xahead2_9), (cO8_iiri nr 8 10 nrc nrk_11), (cAI g nrc 80 nrg_10)] [0] [1, 2, 3, 4, 5, 6, 7, 8, 9, 10, 11, 12, 13, 14, 15, 16, 17, 18, 19, 20] (c_tell l g h0 r_20 v0h0 (.ref tl) (.ref nw) v3h0 (.ref nn) (.ref ac) v6h0 v7h0 v8h0 tr2_1) dX10_never_24 mw460 mw461 mw462 mw2 mw463 rfl 10 rfl rfl 0 _ rfl yk_yX10_tell_1 rfl (Nat.le_of_ble_eq_true rfl) (Nat.le_of_ble_eq_true rfl) (Nat.le_of_ble_eq_true rfl) (Nat.le_of_ble_eq_true rfl) (Nat.le_of_ble_eq_true rfl) rfl rfl (by decide +kernel) rfl (by decide +kernel) (by decide +kernel) ?_
    rintro r_23 w ⟨tr2_22, rfl⟩
    refine k_ws [(cO8_iiri yhm 4 3 yhmc yhmn), (cAI g yhmc 12 yhmf), (cO7_rrrrii nw zr zm zw zp zmd ztr), (cO8_iiri zr 8 3 zrc zrn), (cAI g zrc 24 zrf), (cO8_iiri zm 12 3 zmc zmn), (cAI g zmc 36 zmf), (cO8_iiri zw 6 3 zwc zwn), (cAI g zwc 18 zwf), (cO8_iiri zp 8 2 zpc zpn), (cAI g zpc 16 zpf), (cO0_ri ac al xd2_18), (cO8_iiri al 8 1 alc aln), (cAI g alc 8 alg_19), (cO3_vrvvrvvv tl v0tl yhn v2tl v3tl yhm v5tl v6tl v7tl), (cO8_iiri yhn 1 6 yhnc yhnn), (cAI g yhnc 6 yhnf), (cO5_riiiiiiii nn nr xsnapped2_2 xmostSlip2_3 xslip2_4 xisDrawn2_5 xseed2_6 xtick2_7 xmotorTick2_8 xahead2_9), (cO8_iiri nr 8 10 nrc nrk_11), (cAI g nrc 80 nrg_10), (cO10_vrrvrrvvvi h0 v0h0 tl nw v3h0 nn ac v6h0 v7h0 v8h0 tr2_22)] rfl ?_
    refine k_goto 35 X dX10_never_27 (by decide) ?_
    exact k_iret X hr dX10_never_35 (Nat.le_of_ble_eq_true rfl) (Nat.le_of_ble_eq_true rfl) [20, 17, 18, 19, 14, 15, 16, 0, 1, 2, 3, 4, 5, 6, 7, 8, 9, 10, 11, 12, 13] (by decide) rfl rfl ⟨tr2_22, xsnapped2_2, xmostSlip2_3, xslip2_4, xisDrawn2_5, xseed2_6, xtick2_7, xmotorTick2_8, xahead2_9, nrg_10, nrk_11, xd2_18, alg_19, (by assumption), rfl⟩

theorem dX10_signs_0 : decode cX10_signs 0 = .ok (.aload_n 0, 1) := dk_42 rfl
theorem dX10_signs_1 : decode cX10_signs 1 = .ok (.iload_n 1, 1) := dk_27 rfl
theorem dX10_signs_2 : decode cX10_signs 2 = .ok (.invokevirtual 163, 3) := dk_182 rfl rfl rfl rfl
theorem dX10_signs_5 : decode cX10_signs 5 = .ok (.ifCond .eq 21, 3) := dk_153 rfl rfl rfl (by decide)
theorem dX10_signs_8 : decode cX10_signs 8 = .ok (.aload_n 0, 1) := dk_42 rfl
theorem dX10_signs_9 : decode cX10_signs 9 = .ok (.aload_n 0, 1) := dk_42 rfl
theorem dX10_signs_10 : decode cX10_signs 10 = .ok (.getfield 40, 3) := dk_180 rfl rfl rfl rfl
theorem dX10_signs_13 : decode cX10_signs 13 = .ok (.aload_n 0, 1) := dk_42 rfl
theorem dX10_signs_14 : decode cX10_signs 14 = .ok (.getfield 19, 3) := dk_180 rfl rfl rfl rfl
theorem dX10_signs_17 : decode cX10_signs 17 = .ok (.invokevirtual 180, 3) := dk_182 rfl rfl rfl rfl
theorem dX10_signs_20 : decode cX10_signs 20 = .ok (.invokevirtual 118, 3) := dk_182 rfl rfl rfl rfl
theorem dX10_signs_23 : decode cX10_signs 23 = .ok (.goto 8, 3) := dk_167 rfl rfl rfl (by decide)
theorem dX10_signs_26 : decode cX10_signs 26 = .ok (.aload_n 0, 1) := dk_42 rfl
theorem dX10_signs_27 : decode cX10_signs 27 = .ok (.iconst 1, 1) := dk_4 rfl
theorem dX10_signs_28 : decode cX10_signs 28 = .ok (.invokevirtual 83, 3) := dk_182 rfl rfl rfl rfl
theorem dX10_signs_31 : decode cX10_signs 31 = .ok (.ireturn, 1) := dk_172 rfl
set_option maxHeartbeats 4000000 in
set_option maxRecDepth 100000 in
theorem c_signs (l : Launch) (g : Gx) (h0 : Nat) (p0 : Int32) (v0h0 : Value) (tl : Nat) (nw : Nat) (v3h0 : Value) (nn : Nat) (v5h0 : Value) (v6h0 : Value) (v7h0 : Value) (v8h0 : Value) (tr : Int32) (nr : Nat) (xsnapped : Int32) (xmostSlip : Int32) (xslip : Int32) (xisDrawn : Int32) (xseed : Int32) (xtick : Int32) (xmotorTick : Int32) (xahead : Int32) (nrc : Nat) (nrn : Int32) (nrf : Nat → Int32) (v0tl : Value) (yhn : Nat) (v2tl : Value) (v3tl : Value) (yhm : Nat) (v5tl : Value) (yhs : Nat) (v7tl : Value) (yhnc : Nat) (yhnn : Int32) (yhnf : Nat → Int32) (yhmc : Nat) (yhmn : Int32) (yhmf : Nat → Int32) (yhsc : Nat) (yhsn : Int32) (yhsf : Nat → Int32) (zr : Nat) (zm : Nat) (zw : Nat) (zp : Nat) (zmd : Int32) (ztr : Int32) (zrc : Nat) (zrn : Int32) (zrf : Nat → Int32) (zmc : Nat) (zmn : Int32) (zmf : Nat → Int32) (zwc : Nat) (zwn : Int32) (zwf : Nat → Int32) (zpc : Nat) (zpn : Int32) (zpf : Nat → Int32) (hms : ¬ xmostSlip < 0) : cI l g yX10_signs cX10_signs 2 (some .int) 5 118 0 0 [.ref h0, .int p0] [(cO10_vrrvrvvvvi h0 v0h0 tl nw v3h0 nn v5h0 v6h0 v7h0 v8h0 tr), (cO5_riiiiiiii nn nr xsnapped xmostSlip xslip xisDrawn xseed xtick xmotorTick xahead), (cO8_iiri nr 8 10 nrc nrn), (cAI g nrc 80 nrf), (cO3_vrvvrvrv tl v0tl yhn v2tl v3tl yhm v5tl yhs v7tl), (cO8_iiri yhn 1 6 yhnc yhnn), (cAI g yhnc 6 yhnf), (cO8_iiri yhm 4 3 yhmc yhmn), (cAI g yhmc 12 yhmf), (cO8_iiri yhs 6 3 yhsc yhsn), (cAI g yhsc 18 yhsf), (cO7_rrrrii nw zr zm zw zp zmd ztr), (cO8_iiri zr 8 3 zrc zrn), (cAI g zrc 24 zrf), (cO8_iiri zm 12 3 zmc zmn), (cAI g zmc 36 zmf), (cO8_iiri zw 6 3 zwc zwn), (cAI g zwc 18 zwf), (cO8_iiri zp 8 2 zpc zpn), (cAI g zpc 16 zpf)] (fun r w => ∃ (tr2 : Int32) (xsnapped2 : Int32) (xmostSlip2 : Int32) (xslip2 : Int32) (xisDrawn2 : Int32) (xseed2 : Int32) (xtick2 : Int32) (xmotorTick2 : Int32) (xahead2 : Int32) (nrg : Nat → Int32) (nrk : Int32), (¬ xmostSlip2 < 0) ∧ w = [(cO10_vrrvrvvvvi h0 v0h0 tl nw v3h0 nn v5h0 v6h0 v7h0 v8h0 tr2), (cO5_riiiiiiii nn nr xsnapped2 xmostSlip2 xslip2 xisDrawn2 xseed2 xtick2 xmotorTick2 xahead2), (cO8_iiri nr 8 10 nrc nrk), (cAI g nrc 80 nrg), (cO3_vrvvrvrv tl v0tl yhn v2tl v3tl yhm v5tl yhs v7tl), (cO8_iiri yhn 1 6 yhnc yhnn), (cAI g yhnc 6 yhnf), (cO8_iiri yhm 4 3 yhmc yhmn), (cAI g yhmc 12 yhmf), (cO8_iiri yhs 6 3 yhsc yhsn), (cAI g yhsc 18 yhsf), (cO7_rrrrii nw zr zm zw zp zmd ztr), (cO8_iiri zr 8 3 zrc zrn), (cAI g zrc 24 zrf), (cO8_iiri zm 12 3 zmc zmn), (cAI g zmc 36 zmf), (cO8_iiri zw 6 3 zwc zwn), (cAI g zwc 18 zwf), (cO8_iiri zp 8 2 zpc zpn), (cAI g zpc 16 zpf)]) := by
  refine cI.of (by decide) (Nat.le_of_ble_eq_true rfl) ?_
  intro p e s m args below meth c A X hr hi
  refine k_lveq [(0, .ref h0), (1, .int p0)] rfl ?_
  refine k_aload_n X dX10_signs_0 0 rfl ?_
  refine k_iload_n X dX10_signs_1 1 rfl ?_
  refine k_callVI (n := 1) (As := [.int p0]) (st := []) X [(cO10_vrrvrvvvvi h0 v0h0 tl nw v3h0 nn v5h0 v6h0 v7h0 v8h0 tr), (cO5_riiiiiiii nn nr xsnapped xmostSlip xslip xisDrawn xseed xtick xmotorTick xahead), (cO8_iiri nr 8 10 nrc nrn), (cAI g nrc 80 nrf), (cO3_vrvvrvrv tl v0tl yhn v2tl v3tl yhm v5tl yhs v7tl), (cO8_iiri yhn 1 6 yhnc yhnn), (cAI g yhnc 6 yhnf), (cO8_iiri yhm 4 3 yhmc yhmn), (cAI g yhmc 12 yhmf), (cO7_rrrrii nw zr zm zw zp zmd ztr), (cO8_iiri zr 8 3 zrc zrn), (cAI g zrc 24 zrf), (cO8_iiri zm 12 3 zmc zmn), (cAI g zmc 36 zmf), (cO8_iiri zw 6 3 zwc zwn), (cAI g zwc 18 zwf), (cO8_iiri zp 8 2 zpc zpn), (cAI g zpc 16 zpf)] [(cO8_iiri yhs 6 3 yhsc yhsn), (cAI g yhsc 18 yhsf)] [0, 1, 2, 3, 4, 5, 6, 7, 8, 11, 12, 13, 14, 15, 16, 17, 18, 19] [9, 10] (c_runNight l g h0 p0 v0h0 tl nw v3h0 nn v5h0 v6h0 v7h0 v8h0 tr nr xsnapped xmostSlip xslip xisDrawn xseed xtick xmotorTick xahead nrc nrn nrf v0tl yhn v2tl v3tl yhm v5tl (.ref yhs) v7tl yhnc yhnn yhnf yhmc yhmn yhmf zr zm zw zp zmd ztr zrc zrn zrf zmc zmn zmf zwc zwn zwf zpc zpn zpf (by assumption)) dX10_signs_2 mw744 mw745 mw746 mw2 mw747 rfl 10 rfl rfl 0 _ rfl yk_yX10_runNight_1 rfl (Nat.le_of_ble_eq_true rfl) (Nat.le_of_ble_eq_true rfl) (Nat.le_of_ble_eq_true rfl) (Nat.le_of_ble_eq_true rfl) (Nat.le_of_ble_eq_true rfl) rfl rfl (by decide +kernel) rfl (by decide +kernel) (by decide +kernel) ?_
  intro r_12 w zq
  refine exE11 zq ?_
  clear zq
  intro tr2_1 xsnapped2_2 xmostSlip2_3 xslip2_4 xisDrawn2_5 xseed2_6 xtick2_7 xmotorTick2_8 xahead2_9 nrg_10 nrk_11 hr_13 zq
  subst zq
  refine k_ws [(cO8_iiri yhs 6 3 yhsc yhsn), (cAI g yhsc 18 yhsf), (cO10_vrrvrvvvvi h0 v0h0 tl nw v3h0 nn v5h0 v6h0 v7h0 v8h0 tr2_1), (cO5_riiiiiiii nn nr xsnapped2_2 xmostSlip2_3 xslip2_4 xisDrawn2_5 xseed2_6 xtick2_7 xmotorTick2_8 xahead2_9), (cO8_iiri nr 8 10 nrc nrk_11), (cAI g nrc 80 nrg_10), (cO3_vrvvrvrv tl v0tl yhn v2tl v3tl yhm v5tl yhs v7tl), (cO8_iiri yhn 1 6 yhnc yhnn), (cAI g yhnc 6 yhnf), (cO8_iiri yhm 4 3 yhmc yhmn), (cAI g yhmc 12 yhmf), (cO7_rrrrii nw zr zm zw zp zmd ztr), (cO8_iiri zr 8 3 zrc zrn), (cAI g zrc 24 zrf), (cO8_iiri zm 12 3 zmc zmn), (cAI g zmc 36 zmf), (cO8_iiri zw 6 3 zwc zwn), (cAI g zwc 18 zwf), (cO8_iiri zp 8 2 zpc zpn), (cAI g zpc 16 zpf)] rfl ?_
  refine k_if_eq 26 X dX10_signs_5 (by decide) (fun h_14 => ?_) (fun h_14 => ?_)
  · skip
    refine k_aload_n X dX10_signs_26 0 rfl ?_
    refine k_iconst (v := 1) X dX10_signs_27 (by decide) ?_
    refine k_callVI (n := 1) (As := [.int 1]) (st := []) X [(cO10_vrrvrvvvvi h0 v0h0 tl nw v3h0 nn v5h0 v6h0 v7h0 v8h0 tr2_1)] [(cO8_iiri yhs 6 3 yhsc yhsn), (cAI g yhsc 18 yhsf), (cO5_riiiiiiii nn nr xsnapped2_2 xmostSlip2_3 xslip2_4 xisDrawn2_5 xseed2_6 xtick2_7 xmotorTick2_8 xahead2_9), (cO8_iiri nr 8 10 nrc nrk_11), (cAI g nrc 80 nrg_10), (cO3_vrvvrvrv tl v0tl yhn v2tl v3tl yhm v5tl yhs v7tl), (cO8_iiri yhn 1 6 yhnc yhnn), (cAI g yhnc 6 yhnf), (cO8_iiri yhm 4 3 yhmc yhmn), (cAI g yhmc 12 yhmf), (cO7_rrrrii nw zr zm zw zp zmd ztr), (cO8_iiri zr 8 3 zrc zrn), (cAI g zrc 24 zrf), (cO8_iiri zm 12 3 zmc zmn), (cAI g zmc 36 zmf), (cO8_iiri zw 6 3 zwc zwn), (cAI g zwc 18 zwf), (cO8_iiri zp 8 2 zpc zpn), (cAI g zpc 16 zpf)] [2] [0, 1, 3, 4, 5, 6, 7, 8, 9, 10, 11, 12, 13, 14, 15, 16, 17, 18, 19] (c_refuse l g h0 1 v0h0 (.ref tl) (.ref nw) v3h0 (.ref nn) v5h0 v6h0 v7h0 v8h0 tr2_1) dX10_signs_28 mw215 mw216 mw217 mw2 mw218 rfl 10 rfl rfl 0 _ rfl yk_yX10_refuse_1 rfl (Nat.le_of_ble_eq_true rfl) (Nat.le_of_ble_eq_true rfl) (Nat.le_of_ble_eq_true rfl) (Nat.le_of_ble_eq_true rfl) (Nat.le_of_ble_eq_true rfl) rfl rfl (by decide +kernel) rfl (by decide +kernel) (by decide +kernel) ?_
    rintro r_16 w ⟨tr2_15, rfl⟩
    refine k_ws [(cO8_iiri yhs 6 3 yhsc yhsn), (cAI g yhsc 18 yhsf), (cO5_riiiiiiii nn nr xsnapped2_2 xmostSlip2_3 xslip2_4 xisDrawn2_5 xseed2_6 xtick2_7 xmotorTick2_8 xahead2_9), (cO8_iiri nr 8 10 nrc nrk_11), (cAI g nrc 80 nrg_10), (cO3_vrvvrvrv tl v0tl yhn v2tl v3tl yhm v5tl yhs v7tl), (cO8_iiri yhn 1 6 yhnc yhnn), (cAI g yhnc 6 yhnf), (cO8_iiri yhm 4 3 yhmc yhmn), (cAI g yhmc 12 yhmf), (cO7_rrrrii nw zr zm zw zp zmd ztr), (cO8_iiri zr 8 3 zrc zrn), (cAI g zrc 24 zrf), (cO8_iiri zm 12 3 zmc zmn), (cAI g zmc 36 zmf), (cO8_iiri zw 6 3 zwc zwn), (cAI g zwc 18 zwf), (cO8_iiri zp 8 2 zpc zpn), (cAI g zpc 16 zpf), (cO10_vrrvrvvvvi h0 v0h0 tl nw v3h0 nn v5h0 v6h0 v7h0 v8h0 tr2_15)] rfl ?_
    exact k_iret X hr dX10_signs_31 (Nat.le_of_ble_eq_true rfl) (Nat.le_of_ble_eq_true rfl) [19, 2, 3, 4, 5, 6, 7, 8, 9, 0, 1, 10, 11, 12, 13, 14, 15, 16, 17, 18] (by decide) rfl rfl ⟨tr2_15, xsnapped2_2, xmostSlip2_3, xslip2_4, xisDrawn2_5, xseed2_6, xtick2_7, xmotorTick2_8, xahead2_9, nrg_10, nrk_11, (by assumption), rfl⟩
  · skip
    refine k_aload_n X dX10_signs_8 0 rfl ?_
    refine k_aload_n X dX10_signs_9 0 rfl ?_
    refine k_get (ci := 10) X inlX10 rfl 4 (by decide) dX10_signs_10 mw32 2 rfl rfl ?_
    refine k_aload_n X dX10_signs_13 0 rfl ?_
    refine k_get (ci := 10) X inlX10 rfl 1 (by decide) dX10_signs_14 mw20 2 rfl rfl ?_
    refine k_callVI (n := 1) (As := [.ref tl]) (st := [.ref h0]) X [(cO5_riiiiiiii nn nr xsnapped2_2 xmostSlip2_3 xslip2_4 xisDrawn2_5 xseed2_6 xtick2_7 xmotorTick2_8 xahead2_9), (cO8_iiri nr 8 10 nrc nrk_11), (cAI g nrc 80 nrg_10), (cO3_vrvvrvrv tl v0tl yhn v2tl v3tl yhm v5tl yhs v7tl), (cO8_iiri yhs 6 3 yhsc yhsn), (cAI g yhsc 18 yhsf)] [(cO10_vrrvrvvvvi h0 v0h0 tl nw v3h0 nn v5h0 v6h0 v7h0 v8h0 tr2_1), (cO8_iiri yhn 1 6 yhnc yhnn), (cAI g yhnc 6 yhnf), (cO8_iiri yhm 4 3 yhmc yhmn), (cAI g yhmc 12 yhmf), (cO7_rrrrii nw zr zm zw zp zmd ztr), (cO8_iiri zr 8 3 zrc zrn), (cAI g zrc 24 zrf), (cO8_iiri zm 12 3 zmc zmn), (cAI g zmc 36 zmf), (cO8_iiri zw 6 3 zwc zwn), (cAI g zwc 18 zwf), (cO8_iiri zp 8 2 zpc zpn), (cAI g zpc 16 zpf)] [3, 4, 5, 6, 0, 1] [2, 7, 8, 9, 10, 11, 12, 13, 14, 15, 16, 17, 18, 19] (n_signsSo l g nn tl nr xsnapped2_2 xmostSlip2_3 xslip2_4 xisDrawn2_5 xseed2_6 xtick2_7 xmotorTick2_8 xahead2_9 nrc nrk_11 nrg_10 v0tl (.ref yhn) v2tl v3tl (.ref yhm) v5tl yhs v7tl yhsc yhsn yhsf) dX10_signs_17 mw953 mw954 mw955 mw31 mw956 rfl 5 rfl rfl 0 _ rfl yk_yX5_signsSo_1 rfl (Nat.le_of_ble_eq_true rfl) (Nat.le_of_ble_eq_true rfl) (Nat.le_of_ble_eq_true rfl) (Nat.le_of_ble_eq_true rfl) (Nat.le_of_ble_eq_true rfl) rfl rfl (by decide +kernel) rfl (by decide +kernel) (by decide +kernel) ?_
    rintro r_18 w rfl
    refine k_ws [(cO10_vrrvrvvvvi h0 v0h0 tl nw v3h0 nn v5h0 v6h0 v7h0 v8h0 tr2_1), (cO8_iiri yhn 1 6 yhnc yhnn), (cAI g yhnc 6 yhnf), (cO8_iiri yhm 4 3 yhmc yhmn), (cAI g yhmc 12 yhmf), (cO7_rrrrii nw zr zm zw zp zmd ztr), (cO8_iiri zr 8 3 zrc zrn), (cAI g zrc 24 zrf), (cO8_iiri zm 12 3 zmc zmn), (cAI g zmc 36 zmf), (cO8_iiri zw 6 3 zwc zwn), (cAI g zwc 18 zwf), (cO8_iiri zp 8 2 zpc zpn), (cAI g zpc 16 zpf), (cO5_riiiiiiii nn nr xsnapped2_2 xmostSlip2_3 xslip2_4 xisDrawn2_5 xseed2_6 xtick2_7 xmotorTick2_8 xahead2_9), (cO8_iiri nr 8 10 nrc nrk_11), (cAI g nrc 80 nrg_10), (cO3_vrvvrvrv tl v0tl yhn v2tl v3tl yhm v5tl yhs v7tl), (cO8_iiri yhs 6 3 yhsc yhsn), (cAI g yhsc 18 yhsf)] rfl ?_
    refine k_callVI (n := 1) (As := [.int r_18]) (st := []) X [(cO10_vrrvrvvvvi h0 v0h0 tl nw v3h0 nn v5h0 v6h0 v7h0 v8h0 tr2_1)] [(cO8_iiri yhn 1 6 yhnc yhnn), (cAI g yhnc 6 yhnf), (cO8_iiri yhm 4 3 yhmc yhmn), (cAI g yhmc 12 yhmf), (cO7_rrrrii nw zr zm zw zp zmd ztr), (cO8_iiri zr 8 3 zrc zrn), (cAI g zrc 24 zrf), (cO8_iiri zm 12 3 zmc zmn), (cAI g zmc 36 zmf), (cO8_iiri zw 6 3 zwc zwn), (cAI g zwc 18 zwf), (cO8_iiri zp 8 2 zpc zpn), (cAI g zpc 16 zpf), (cO5_riiiiiiii nn nr xsnapped2_2 xmostSlip2_3 xslip2_4 xisDrawn2_5 xseed2_6 xtick2_7 xmotorTick2_8 xahead2_9), (cO8_iiri nr 8 10 nrc nrk_11), (cAI g nrc 80 nrg_10), (cO3_vrvvrvrv tl v0tl yhn v2tl v3tl yhm v5tl yhs v7tl), (cO8_iiri yhs 6 3 yhsc yhsn), (cAI g yhsc 18 yhsf)] [0] [1, 2, 3, 4, 5, 6, 7, 8, 9, 10, 11, 12, 13, 14, 15, 16, 17, 18, 19] (c_tell l g h0 r_18 v0h0 (.ref tl) (.ref nw) v3h0 (.ref nn) v5h0 v6h0 v7h0 v8h0 tr2_1) dX10_signs_20 mw460 mw461 mw462 mw2 mw463 rfl 10 rfl rfl 0 _ rfl yk_yX10_tell_1 rfl (Nat.le_of_ble_eq_true rfl) (Nat.le_of_ble_eq_true rfl) (Nat.le_of_ble_eq_true rfl) (Nat.le_of_ble_eq_true rfl) (Nat.le_of_ble_eq_true rfl) rfl rfl (by decide +kernel) rfl (by decide +kernel) (by decide +kernel) ?_
    rintro r_21 w ⟨tr2_20, rfl⟩
    refine k_ws [(cO8_iiri yhn 1 6 yhnc yhnn), (cAI g yhnc 6 yhnf), (cO8_iiri yhm 4 3 yhmc yhmn), (cAI g yhmc 12 yhmf), (cO7_rrrrii nw zr zm zw zp zmd ztr), (cO8_iiri zr 8 3 zrc zrn), (cAI g zrc 24 zrf), (cO8_iiri zm 12 3 zmc zmn), (cAI g zmc 36 zmf), (cO8_iiri zw 6 3 zwc zwn), (cAI g zwc 18 zwf), (cO8_iiri zp 8 2 zpc zpn), (cAI g zpc 16 zpf), (cO5_riiiiiiii nn nr xsnapped2_2 xmostSlip2_3 xslip2_4 xisDrawn2_5 xseed2_6 xtick2_7 xmotorTick2_8 xahead2_9), (cO8_iiri nr 8 10 nrc nrk_11), (cAI g nrc 80 nrg_10), (cO3_vrvvrvrv tl v0tl yhn v2tl v3tl yhm v5tl yhs v7tl), (cO8_iiri yhs 6 3 yhsc yhsn), (cAI g yhsc 18 yhsf), (cO10_vrrvrvvvvi h0 v0h0 tl nw v3h0 nn v5h0 v6h0 v7h0 v8h0 tr2_20)] rfl ?_
    refine k_goto 31 X dX10_signs_23 (by decide) ?_
    exact k_iret X hr dX10_signs_31 (Nat.le_of_ble_eq_true rfl) (Nat.le_of_ble_eq_true rfl) [19, 13, 14, 15, 16, 0, 1, 2, 3, 17, 18, 4, 5, 6, 7, 8, 9, 10, 11, 12] (by decide) rfl rfl ⟨tr2_20, xsnapped2_2, xmostSlip2_3, xslip2_4, xisDrawn2_5, xseed2_6, xtick2_7, xmotorTick2_8, xahead2_9, nrg_10, nrk_11, (by assumption), rfl⟩

theorem dX10_fits_0 : decode cX10_fits 0 = .ok (.aload_n 0, 1) := dk_42 rfl
theorem dX10_fits_1 : decode cX10_fits 1 = .ok (.invokevirtual 184, 3) := dk_182 rfl rfl rfl rfl
theorem dX10_fits_4 : decode cX10_fits 4 = .ok (.ifCond .ne 9, 3) := dk_154 rfl rfl rfl (by decide)
theorem dX10_fits_7 : decode cX10_fits 7 = .ok (.aload_n 0, 1) := dk_42 rfl
theorem dX10_fits_8 : decode cX10_fits 8 = .ok (.iconst 1, 1) := dk_4 rfl
theorem dX10_fits_9 : decode cX10_fits 9 = .ok (.invokevirtual 83, 3) := dk_182 rfl rfl rfl rfl
theorem dX10_fits_12 : decode cX10_fits 12 = .ok (.ireturn, 1) := dk_172 rfl
theorem dX10_fits_13 : decode cX10_fits 13 = .ok (.iconst 1, 1) := dk_4 rfl
theorem dX10_fits_14 : decode cX10_fits 14 = .ok (.aload_n 0, 1) := dk_42 rfl
theorem dX10_fits_15 : decode cX10_fits 15 = .ok (.getfield 19, 3) := dk_180 rfl rfl rfl rfl
theorem dX10_fits_18 : decode cX10_fits 18 = .ok (.getfield 188, 3) := dk_180 rfl rfl rfl rfl
theorem dX10_fits_21 : decode cX10_fits 21 = .ok (.getfield 113, 3) := dk_180 rfl rfl rfl rfl
theorem dX10_fits_24 : decode cX10_fits 24 = .ok (.ishl, 1) := dk_120 rfl
theorem dX10_fits_25 : decode cX10_fits 25 = .ok (.iconst 1, 1) := dk_4 rfl
theorem dX10_fits_26 : decode cX10_fits 26 = .ok (.isub, 1) := dk_100 rfl
theorem dX10_fits_27 : decode cX10_fits 27 = .ok (.istore_n 1, 1) := dk_60 rfl
theorem dX10_fits_28 : decode cX10_fits 28 = .ok (.iconst 0, 1) := dk_3 rfl
theorem dX10_fits_29 : decode cX10_fits 29 = .ok (.istore_n 2, 1) := dk_61 rfl
theorem dX10_fits_30 : decode cX10_fits 30 = .ok (.iconst 0, 1) := dk_3 rfl
theorem dX10_fits_31 : decode cX10_fits 31 = .ok (.istore_n 3, 1) := dk_62 rfl
theorem dX10_fits_32 : decode cX10_fits 32 = .ok (.iload_n 3, 1) := dk_29 rfl
theorem dX10_fits_33 : decode cX10_fits 33 = .ok (.aload_n 0, 1) := dk_42 rfl
theorem dX10_fits_34 : decode cX10_fits 34 = .ok (.getfield 19, 3) := dk_180 rfl rfl rfl rfl
theorem dX10_fits_37 : decode cX10_fits 37 = .ok (.getfield 191, 3) := dk_180 rfl rfl rfl rfl
theorem dX10_fits_40 : decode cX10_fits 40 = .ok (.getfield 113, 3) := dk_180 rfl rfl rfl rfl
theorem dX10_fits_43 : decode cX10_fits 43 = .ok (.if_icmp .ge 38, 3) := dk_162 rfl rfl rfl (by decide)
theorem dX10_fits_46 : decode cX10_fits 46 = .ok (.aload_n 0, 1) := dk_42 rfl
theorem dX10_fits_47 : decode cX10_fits 47 = .ok (.iload_n 3, 1) := dk_29 rfl
theorem dX10_fits_48 : decode cX10_fits 48 = .ok (.invokevirtual 163, 3) := dk_182 rfl rfl rfl rfl
theorem dX10_fits_51 : decode cX10_fits 51 = .ok (.ifCond .eq 24, 3) := dk_153 rfl rfl rfl (by decide)
theorem dX10_fits_54 : decode cX10_fits 54 = .ok (.aload_n 0, 1) := dk_42 rfl
theorem dX10_fits_55 : decode cX10_fits 55 = .ok (.getfield 40, 3) := dk_180 rfl rfl rfl rfl
theorem dX10_fits_58 : decode cX10_fits 58 = .ok (.aload_n 0, 1) := dk_42 rfl
theorem dX10_fits_59 : decode cX10_fits 59 = .ok (.getfield 19, 3) := dk_180 rfl rfl rfl rfl
theorem dX10_fits_62 : decode cX10_fits 62 = .ok (.invokevirtual 180, 3) := dk_182 rfl rfl rfl rfl
theorem dX10_fits_65 : decode cX10_fits 65 = .ok (.iload_n 1, 1) := dk_27 rfl
theorem dX10_fits_66 : decode cX10_fits 66 = .ok (.if_icmp .ne 9, 3) := dk_160 rfl rfl rfl (by decide)
theorem dX10_fits_69 : decode cX10_fits 69 = .ok (.iload_n 2, 1) := dk_28 rfl
theorem dX10_fits_70 : decode cX10_fits 70 = .ok (.iconst 1, 1) := dk_4 rfl
theorem dX10_fits_71 : decode cX10_fits 71 = .ok (.iload_n 3, 1) := dk_29 rfl
theorem dX10_fits_72 : decode cX10_fits 72 = .ok (.ishl, 1) := dk_120 rfl
theorem dX10_fits_73 : decode cX10_fits 73 = .ok (.ior, 1) := dk_128 rfl
theorem dX10_fits_74 : decode cX10_fits 74 = .ok (.istore_n 2, 1) := dk_61 rfl
theorem dX10_fits_75 : decode cX10_fits 75 = .ok (.iinc 3 1, 3) := dk_132 rfl rfl rfl rfl (by decide)
theorem dX10_fits_78 : decode cX10_fits 78 = .ok (.goto (-46), 3) := dk_167 rfl rfl rfl (by decide)
theorem dX10_fits_81 : decode cX10_fits 81 = .ok (.aload_n 0, 1) := dk_42 rfl
theorem dX10_fits_82 : decode cX10_fits 82 = .ok (.iload_n 2, 1) := dk_28 rfl
theorem dX10_fits_83 : decode cX10_fits 83 = .ok (.invokevirtual 118, 3) := dk_182 rfl rfl rfl rfl
theorem dX10_fits_86 : decode cX10_fits 86 = .ok (.ireturn, 1) := dk_172 rfl
set_option maxHeartbeats 4000000 in
set_option maxRecDepth 100000 in
theorem c_fits (l : Launch) (g : Gx) (h0 : Nat) (v0h0 : Value) (tl : Nat) (nw : Nat) (v3h0 : Value) (nn : Nat) (v5h0 : Value) (v6h0 : Value) (v7h0 : Value) (v8h0 : Value) (tr : Int32) (nr : Nat) (xsnapped : Int32) (xmostSlip : Int32) (xslip : Int32) (xisDrawn : Int32) (xseed : Int32) (xtick : Int32) (xmotorTick : Int32) (xahead : Int32) (nrc : Nat) (nrn : Int32) (nrf : Nat → Int32) (v0tl : Value) (yhn : Nat) (v2tl : Value) (v3tl : Value) (yhm : Nat) (v5tl : Value) (yhs : Nat) (v7tl : Value) (yhnc : Nat) (yhnn : Int32) (yhnf : Nat → Int32) (yhmc : Nat) (yhmn : Int32) (yhmf : Nat → Int32) (yhsc : Nat) (yhsn : Int32) (yhsf : Nat → Int32) (zr : Nat) (zm : Nat) (zw : Nat) (zp : Nat) (zmd : Int32) (ztr : Int32) (zrc : Nat) (zrn : Int32) (zrf : Nat → Int32) (zmc : Nat) (zmn : Int32) (zmf : Nat → Int32) (zwc : Nat) (zwn : Int32) (zwf : Nat → Int32) (zpc : Nat) (zpn : Int32) (zpf : Nat → Int32) (hms : ¬ xmostSlip < 0) : cI l g yX10_fits cX10_fits 4 (some .int) 5 118 0 0 [.ref h0] [(cO10_vrrvrvvvvi h0 v0h0 tl nw v3h0 nn v5h0 v6h0 v7h0 v8h0 tr), (cO5_riiiiiiii nn nr xsnapped xmostSlip xslip xisDrawn xseed xtick xmotorTick xahead), (cO8_iiri nr 8 10 nrc nrn), (cAI g nrc 80 nrf), (cO3_vrvvrvrv tl v0tl yhn v2tl v3tl yhm v5tl yhs v7tl), (cO8_iiri yhn 1 6 yhnc yhnn), (cAI g yhnc 6 yhnf), (cO8_iiri yhm 4 3 yhmc yhmn), (cAI g yhmc 12 yhmf), (cO8_iiri yhs 6 3 yhsc yhsn), (cAI g yhsc 18 yhsf), (cO7_rrrrii nw zr zm zw zp zmd ztr), (cO8_iiri zr 8 3 zrc zrn), (cAI g zrc 24 zrf), (cO8_iiri zm 12 3 zmc zmn), (cAI g zmc 36 zmf), (cO8_iiri zw 6 3 zwc zwn), (cAI g zwc 18 zwf), (cO8_iiri zp 8 2 zpc zpn), (cAI g zpc 16 zpf)] (fun r w => ∃ (tr2 : Int32) (xsnapped2 : Int32) (xmostSlip2 : Int32) (xslip2 : Int32) (xisDrawn2 : Int32) (xseed2 : Int32) (xtick2 : Int32) (xmotorTick2 : Int32) (xahead2 : Int32) (nrg : Nat → Int32) (nrk : Int32), (¬ xmostSlip2 < 0) ∧ w = [(cO10_vrrvrvvvvi h0 v0h0 tl nw v3h0 nn v5h0 v6h0 v7h0 v8h0 tr2), (cO5_riiiiiiii nn nr xsnapped2 xmostSlip2 xslip2 xisDrawn2 xseed2 xtick2 xmotorTick2 xahead2), (cO8_iiri nr 8 10 nrc nrk), (cAI g nrc 80 nrg), (cO3_vrvvrvrv tl v0tl yhn v2tl v3tl yhm v5tl yhs v7tl), (cO8_iiri yhn 1 6 yhnc yhnn), (cAI g yhnc 6 yhnf), (cO8_iiri yhm 4 3 yhmc yhmn), (cAI g yhmc 12 yhmf), (cO8_iiri yhs 6 3 yhsc yhsn), (cAI g yhsc 18 yhsf), (cO7_rrrrii nw zr zm zw zp zmd ztr), (cO8_iiri zr 8 3 zrc zrn), (cAI g zrc 24 zrf), (cO8_iiri zm 12 3 zmc zmn), (cAI g zmc 36 zmf), (cO8_iiri zw 6 3 zwc zwn), (cAI g zwc 18 zwf), (cO8_iiri zp 8 2 zpc zpn), (cAI g zpc 16 zpf)]) := by
  refine cI.of (by decide) (Nat.le_of_ble_eq_true rfl) ?_
  intro p e s m args below meth c A X hr hi
  refine k_lveq [(0, .ref h0)] rfl ?_
  refine k_aload_n X dX10_fits_0 0 rfl ?_
  refine k_callVI (n := 0) (As := []) (st := []) X [(cO10_vrrvrvvvvi h0 v0h0 tl nw v3h0 nn v5h0 v6h0 v7h0 v8h0 tr), (cO7_rrrrii nw zr zm zw zp zmd ztr), (cO8_iiri zp 8 2 zpc zpn), (cAI g zpc 16 zpf)] [(cO5_riiiiiiii nn nr xsnapped xmostSlip xslip xisDrawn xseed xtick xmotorTick xahead), (cO8_iiri nr 8 10 nrc nrn), (cAI g nrc 80 nrf), (cO3_vrvvrvrv tl v0tl yhn v2tl v3tl yhm v5tl yhs v7tl), (cO8_iiri yhn 1 6 yhnc yhnn), (cAI g yhnc 6 yhnf), (cO8_iiri yhm 4 3 yhmc yhmn), (cAI g yhmc 12 yhmf), (cO8_iiri yhs 6 3 yhsc yhsn), (cAI g yhsc 18 yhsf), (cO8_iiri zr 8 3 zrc zrn), (cAI g zrc 24 zrf), (cO8_iiri zm 12 3 zmc zmn), (cAI g zmc 36 zmf), (cO8_iiri zw 6 3 zwc zwn), (cAI g zwc 18 zwf)] [0, 11, 18, 19] [1, 2, 3, 4, 5, 6, 7, 8, 9, 10, 12, 13, 14, 15, 16, 17] (c_isOpen l g h0 v0h0 (.ref tl) nw v3h0 (.ref nn) v5h0 v6h0 v7h0 v8h0 tr (.ref zr) (.ref zm) (.ref zw) zp zmd ztr zpc zpn zpf) dX10_fits_1 mw971 mw972 mw973 mw2 mw974 rfl 10 rfl rfl 0 _ rfl yk_yX10_isOpen_0 rfl (Nat.le_of_ble_eq_true rfl) (Nat.le_of_ble_eq_true rfl) (Nat.le_of_ble_eq_true rfl) (Nat.le_of_ble_eq_true rfl) (Nat.le_of_ble_eq_true rfl) rfl rfl (by decide +kernel) rfl (by decide +kernel) (by decide +kernel) ?_
  rintro r_2 w ⟨tr2_1, rfl⟩
  refine k_ws [(cO5_riiiiiiii nn nr xsnapped xmostSlip xslip xisDrawn xseed xtick xmotorTick xahead), (cO8_iiri nr 8 10 nrc nrn), (cAI g nrc 80 nrf), (cO3_vrvvrvrv tl v0tl yhn v2tl v3tl yhm v5tl yhs v7tl), (cO8_iiri yhn 1 6 yhnc yhnn), (cAI g yhnc 6 yhnf), (cO8_iiri yhm 4 3 yhmc yhmn), (cAI g yhmc 12 yhmf), (cO8_iiri yhs 6 3 yhsc yhsn), (cAI g yhsc 18 yhsf), (cO8_iiri zr 8 3 zrc zrn), (cAI g zrc 24 zrf), (cO8_iiri zm 12 3 zmc zmn), (cAI g zmc 36 zmf), (cO8_iiri zw 6 3 zwc zwn), (cAI g zwc 18 zwf), (cO10_vrrvrvvvvi h0 v0h0 tl nw v3h0 nn v5h0 v6h0 v7h0 v8h0 tr2_1), (cO7_rrrrii nw zr zm zw zp zmd ztr), (cO8_iiri zp 8 2 zpc zpn), (cAI g zpc 16 zpf)] rfl ?_
  refine k_if_ne 13 X dX10_fits_4 (by decide) (fun h_4 => ?_) (fun h_4 => ?_)
  · skip
    refine k_iconst (v := 1) X dX10_fits_13 (by decide) ?_
    refine k_aload_n X dX10_fits_14 0 rfl ?_
    refine k_get (ci := 10) X inlX10 rfl 1 (by decide) dX10_fits_15 mw20 16 rfl rfl ?_
    refine k_get (ci := 3) X inlX3 rfl 6 (by decide) dX10_fits_18 mw970 3 rfl rfl ?_
    refine k_get (ci := 8) X inlX8 rfl 3 (by decide) dX10_fits_21 mw214 8 rfl rfl ?_
    refine k_ishl X dX10_fits_24 ?_
    refine k_nm (fun z_5 ez_5 => ?_)
    refine k_iconst (v := 1) X dX10_fits_25 (by decide) ?_
    refine k_isub X dX10_fits_26 ?_
    refine k_nm (fun z_6 ez_6 => ?_)
    refine k_istore_n [(1, .int z_6), (0, .ref h0)] X dX10_fits_27 (by decide) rfl ?_
    refine k_iconst (v := 0) X dX10_fits_28 (by decide) ?_
    refine k_istore_n [(2, .int 0), (1, .int z_6), (0, .ref h0)] X dX10_fits_29 (by decide) rfl ?_
    refine k_iconst (v := 0) X dX10_fits_30 (by decide) ?_
    refine k_istore_n [(3, .int 0), (2, .int 0), (1, .int z_6), (0, .ref h0)] X dX10_fits_31 (by decide) rfl ?_
    refine (fun hL : ∀ (nn_21 : Nat) (u_7 : Int32) (u_8 : Int32) (uf_9 : Nat → Int32) (u_10 : Int32) (u_11 : Int32) (u_12 : Int32) (u_13 : Int32) (u_14 : Int32) (u_15 : Int32) (u_16 : Int32) (u_17 : Int32) (u_18 : Int32) (u_19 : Int32), (yhmn.toInt - u_7.toInt).toNat = nn_21 → (¬ u_12 < 0) → Wk p l e _ s m args below meth c _ A g _ _ _ [(cO5_riiiiiiii nn nr u_11 u_12 u_13 u_14 u_15 u_16 u_17 u_18), (cO8_iiri nr 8 10 nrc u_19), (cAI g nrc 80 uf_9), (cO3_vrvvrvrv tl v0tl yhn v2tl v3tl yhm v5tl yhs v7tl), (cO8_iiri yhn 1 6 yhnc yhnn), (cAI g yhnc 6 yhnf), (cO8_iiri yhm 4 3 yhmc yhmn), (cAI g yhmc 12 yhmf), (cO8_iiri yhs 6 3 yhsc yhsn), (cAI g yhsc 18 yhsf), (cO8_iiri zr 8 3 zrc zrn), (cAI g zrc 24 zrf), (cO8_iiri zm 12 3 zmc zmn), (cAI g zmc 36 zmf), (cO8_iiri zw 6 3 zwc zwn), (cAI g zwc 18 zwf), (cO10_vrrvrvvvvi h0 v0h0 tl nw v3h0 nn v5h0 v6h0 v7h0 v8h0 u_10), (cO7_rrrrii nw zr zm zw zp zmd ztr), (cO8_iiri zp 8 2 zpc zpn), (cAI g zpc 16 zpf)] [(3, .int u_7), (2, .int u_8), (1, .int z_6), (0, .ref h0)] 32 [] => hL _ 0 0 nrf tr2_1 xsnapped xmostSlip xslip xisDrawn xseed xtick xmotorTick xahead nrn rfl (by assumption)) ?_
    refine fun nn_21 => Nat.strongRecOn nn_21 (fun nn_21 ih_23 => ?_)
    intro u_7 u_8 uf_9 u_10 u_11 u_12 u_13 u_14 u_15 u_16 u_17 u_18 u_19 hm_22 hp_20
    refine k_iload_n X dX10_fits_32 0 rfl ?_
    refine k_aload_n X dX10_fits_33 3 rfl ?_
    refine k_get (ci := 10) X inlX10 rfl 1 (by decide) dX10_fits_34 mw20 16 rfl rfl ?_
    refine k_get (ci := 3) X inlX3 rfl 4 (by decide) dX10_fits_37 mw748 3 rfl rfl ?_
    refine k_get (ci := 8) X inlX8 rfl 3 (by decide) dX10_fits_40 mw214 6 rfl rfl ?_
    refine k_ic_ge 81 X dX10_fits_43 (by decide) (fun h_24 => ?_) (fun h_24 => ?_)
    · skip
      refine k_aload_n X dX10_fits_81 3 rfl ?_
      refine k_iload_n X dX10_fits_82 1 rfl ?_
      refine k_callVI (n := 1) (As := [.int u_8]) (st := []) X [(cO10_vrrvrvvvvi h0 v0h0 tl nw v3h0 nn v5h0 v6h0 v7h0 v8h0 u_10)] [(cO5_riiiiiiii nn nr u_11 u_12 u_13 u_14 u_15 u_16 u_17 u_18), (cO8_iiri nr 8 10 nrc u_19), (cAI g nrc 80 uf_9), (cO3_vrvvrvrv tl v0tl yhn v2tl v3tl yhm v5tl yhs v7tl), (cO8_iiri yhn 1 6 yhnc yhnn), (cAI g yhnc 6 yhnf), (cO8_iiri yhm 4 3 yhmc yhmn), (cAI g yhmc 12 yhmf), (cO8_iiri yhs 6 3 yhsc yhsn), (cAI g yhsc 18 yhsf), (cO8_iiri zr 8 3 zrc zrn), (cAI g zrc 24 zrf), (cO8_iiri zm 12 3 zmc zmn), (cAI g zmc 36 zmf), (cO8_iiri zw 6 3 zwc zwn), (cAI g zwc 18 zwf), (cO7_rrrrii nw zr zm zw zp zmd ztr), (cO8_iiri zp 8 2 zpc zpn), (cAI g zpc 16 zpf)] [16] [0, 1, 2, 3, 4, 5, 6, 7, 8, 9, 10, 11, 12, 13, 14, 15, 17, 18, 19] (c_tell l g h0 u_8 v0h0 (.ref tl) (.ref nw) v3h0 (.ref nn) v5h0 v6h0 v7h0 v8h0 u_10) dX10_fits_83 mw460 mw461 mw462 mw2 mw463 rfl 10 rfl rfl 0 _ rfl yk_yX10_tell_1 rfl (Nat.le_of_ble_eq_true rfl) (Nat.le_of_ble_eq_true rfl) (Nat.le_of_ble_eq_true rfl) (Nat.le_of_ble_eq_true rfl) (Nat.le_of_ble_eq_true rfl) rfl rfl (by decide +kernel) rfl (by decide +kernel) (by decide +kernel) ?_
      rintro r_26 w ⟨tr2_25, rfl⟩
      refine k_ws [(cO5_riiiiiiii nn nr u_11 u_12 u_13 u_14 u_15 u_16 u_17 u_18), (cO8_iiri nr 8 10 nrc u_19), (cAI g nrc 80 uf_9), (cO3_vrvvrvrv tl v0tl yhn v2tl v3tl yhm v5tl yhs v7tl), (cO8_iiri yhn 1 6 yhnc yhnn), (cAI g yhnc 6 yhnf), (cO8_iiri yhm 4 3 yhmc yhmn), (cAI g yhmc 12 yhmf), (cO8_iiri yhs 6 3 yhsc yhsn), (cAI g yhsc 18 yhsf), (cO8_iiri zr 8 3 zrc zrn), (cAI g zrc 24 zrf), (cO8_iiri zm 12 3 zmc zmn), (cAI g zmc 36 zmf), (cO8_iiri zw 6 3 zwc zwn), (cAI g zwc 18 zwf), (cO7_rrrrii nw zr zm zw zp zmd ztr), (cO8_iiri zp 8 2 zpc zpn), (cAI g zpc 16 zpf), (cO10_vrrvrvvvvi h0 v0h0 tl nw v3h0 nn v5h0 v6h0 v7h0 v8h0 tr2_25)] rfl ?_
      exact k_iret X hr dX10_fits_86 (Nat.le_of_ble_eq_true rfl) (Nat.le_of_ble_eq_true rfl) [19, 0, 1, 2, 3, 4, 5, 6, 7, 8, 9, 16, 10, 11, 12, 13, 14, 15, 17, 18] (by decide) rfl rfl ⟨tr2_25, u_11, u_12, u_13, u_14, u_15, u_16, u_17, u_18, uf_9, u_19, (by assumption), rfl⟩
    · skip
      refine k_aload_n X dX10_fits_46 3 rfl ?_
      refine k_iload_n X dX10_fits_47 0 rfl ?_
      refine k_callVI (n := 1) (As := [.int u_7]) (st := []) X [(cO10_vrrvrvvvvi h0 v0h0 tl nw v3h0 nn v5h0 v6h0 v7h0 v8h0 u_10), (cO5_riiiiiiii nn nr u_11 u_12 u_13 u_14 u_15 u_16 u_17 u_18), (cO8_iiri nr 8 10 nrc u_19), (cAI g nrc 80 uf_9), (cO3_vrvvrvrv tl v0tl yhn v2tl v3tl yhm v5tl yhs v7tl), (cO8_iiri yhn 1 6 yhnc yhnn), (cAI g yhnc 6 yhnf), (cO8_iiri yhm 4 3 yhmc yhmn), (cAI g yhmc 12 yhmf), (cO7_rrrrii nw zr zm zw zp zmd ztr), (cO8_iiri zr 8 3 zrc zrn), (cAI g zrc 24 zrf), (cO8_iiri zm 12 3 zmc zmn), (cAI g zmc 36 zmf), (cO8_iiri zw 6 3 zwc zwn), (cAI g zwc 18 zwf), (cO8_iiri zp 8 2 zpc zpn), (cAI g zpc 16 zpf)] [(cO8_iiri yhs 6 3 yhsc yhsn), (cAI g yhsc 18 yhsf)] [16, 0, 1, 2, 3, 4, 5, 6, 7, 17, 10, 11, 12, 13, 14, 15, 18, 19] [8, 9] (c_runNight l g h0 u_7 v0h0 tl nw v3h0 nn v5h0 v6h0 v7h0 v8h0 u_10 nr u_11 u_12 u_13 u_14 u_15 u_16 u_17 u_18 nrc u_19 uf_9 v0tl yhn v2tl v3tl yhm v5tl (.ref yhs) v7tl yhnc yhnn yhnf yhmc yhmn yhmf zr zm zw zp zmd ztr zrc zrn zrf zmc zmn zmf zwc zwn zwf zpc zpn zpf (by assumption)) dX10_fits_48 mw744 mw745 mw746 mw2 mw747 rfl 10 rfl rfl 0 _ rfl yk_yX10_runNight_1 rfl (Nat.le_of_ble_eq_true rfl) (Nat.le_of_ble_eq_true rfl) (Nat.le_of_ble_eq_true rfl) (Nat.le_of_ble_eq_true rfl) (Nat.le_of_ble_eq_true rfl) rfl rfl (by decide +kernel) rfl (by decide +kernel) (by decide +kernel) ?_
      intro r_39 w zq
      refine exE11 zq ?_
      clear zq
      intro tr2_28 xsnapped2_29 xmostSlip2_30 xslip2_31 xisDrawn2_32 xseed2_33 xtick2_34 xmotorTick2_35 xahead2_36 nrg_37 nrk_38 hr_40 zq
      subst zq
      refine k_ws [(cO8_iiri yhs 6 3 yhsc yhsn), (cAI g yhsc 18 yhsf), (cO10_vrrvrvvvvi h0 v0h0 tl nw v3h0 nn v5h0 v6h0 v7h0 v8h0 tr2_28), (cO5_riiiiiiii nn nr xsnapped2_29 xmostSlip2_30 xslip2_31 xisDrawn2_32 xseed2_33 xtick2_34 xmotorTick2_35 xahead2_36), (cO8_iiri nr 8 10 nrc nrk_38), (cAI g nrc 80 nrg_37), (cO3_vrvvrvrv tl v0tl yhn v2tl v3tl yhm v5tl yhs v7tl), (cO8_iiri yhn 1 6 yhnc yhnn), (cAI g yhnc 6 yhnf), (cO8_iiri yhm 4 3 yhmc yhmn), (cAI g yhmc 12 yhmf), (cO7_rrrrii nw zr zm zw zp zmd ztr), (cO8_iiri zr 8 3 zrc zrn), (cAI g zrc 24 zrf), (cO8_iiri zm 12 3 zmc zmn), (cAI g zmc 36 zmf), (cO8_iiri zw 6 3 zwc zwn), (cAI g zwc 18 zwf), (cO8_iiri zp 8 2 zpc zpn), (cAI g zpc 16 zpf)] rfl ?_
      refine k_if_eq 75 X dX10_fits_51 (by decide) (fun h_41 => ?_) (fun h_41 => ?_)
      · skip
        obtain ⟨z_42, ez_42⟩ : ∃ y : Int32, u_7 + Int32.ofInt 1 = y := ⟨_, rfl⟩
        refine k_iinc z_42 [(3, .int z_42), (2, .int u_8), (1, .int z_6), (0, .ref h0)] 0 X dX10_fits_75 rfl ez_42 (by decide) rfl ?_
        refine k_goto 32 X dX10_fits_78 (by decide) ?_
        refine k_sub [(cO5_riiiiiiii nn nr xsnapped2_29 xmostSlip2_30 xslip2_31 xisDrawn2_32 xseed2_33 xtick2_34 xmotorTick2_35 xahead2_36), (cO8_iiri nr 8 10 nrc nrk_38), (cAI g nrc 80 nrg_37), (cO3_vrvvrvrv tl v0tl yhn v2tl v3tl yhm v5tl yhs v7tl), (cO8_iiri yhn 1 6 yhnc yhnn), (cAI g yhnc 6 yhnf), (cO8_iiri yhm 4 3 yhmc yhmn), (cAI g yhmc 12 yhmf), (cO8_iiri yhs 6 3 yhsc yhsn), (cAI g yhsc 18 yhsf), (cO8_iiri zr 8 3 zrc zrn), (cAI g zrc 24 zrf), (cO8_iiri zm 12 3 zmc zmn), (cAI g zmc 36 zmf), (cO8_iiri zw 6 3 zwc zwn), (cAI g zwc 18 zwf), (cO10_vrrvrvvvvi h0 v0h0 tl nw v3h0 nn v5h0 v6h0 v7h0 v8h0 tr2_28), (cO7_rrrrii nw zr zm zw zp zmd ztr), (cO8_iiri zp 8 2 zpc zpn), (cAI g zpc 16 zpf)] [3, 4, 5, 6, 7, 8, 9, 10, 0, 1, 12, 13, 14, 15, 16, 17, 2, 11, 18, 19] rfl (by decide) rfl ?_
        exact ih_23 _ (by rw [← hm_22]; exact mu_lt (by assumption) (by assumption)) z_42 u_8 nrg_37 tr2_28 xsnapped2_29 xmostSlip2_30 xslip2_31 xisDrawn2_32 xseed2_33 xtick2_34 xmotorTick2_35 xahead2_36 nrk_38 rfl (by assumption)
      · skip
        refine k_aload_n X dX10_fits_54 3 rfl ?_
        refine k_get (ci := 10) X inlX10 rfl 4 (by decide) dX10_fits_55 mw32 2 rfl rfl ?_
        refine k_aload_n X dX10_fits_58 3 rfl ?_
        refine k_get (ci := 10) X inlX10 rfl 1 (by decide) dX10_fits_59 mw20 2 rfl rfl ?_
        refine k_callVI (n := 1) (As := [.ref tl]) (st := []) X [(cO5_riiiiiiii nn nr xsnapped2_29 xmostSlip2_30 xslip2_31 xisDrawn2_32 xseed2_33 xtick2_34 xmotorTick2_35 xahead2_36), (cO8_iiri nr 8 10 nrc nrk_38), (cAI g nrc 80 nrg_37), (cO3_vrvvrvrv tl v0tl yhn v2tl v3tl yhm v5tl yhs v7tl), (cO8_iiri yhs 6 3 yhsc yhsn), (cAI g yhsc 18 yhsf)] [(cO10_vrrvrvvvvi h0 v0h0 tl nw v3h0 nn v5h0 v6h0 v7h0 v8h0 tr2_28), (cO8_iiri yhn 1 6 yhnc yhnn), (cAI g yhnc 6 yhnf), (cO8_iiri yhm 4 3 yhmc yhmn), (cAI g yhmc 12 yhmf), (cO7_rrrrii nw zr zm zw zp zmd ztr), (cO8_iiri zr 8 3 zrc zrn), (cAI g zrc 24 zrf), (cO8_iiri zm 12 3 zmc zmn), (cAI g zmc 36 zmf), (cO8_iiri zw 6 3 zwc zwn), (cAI g zwc 18 zwf), (cO8_iiri zp 8 2 zpc zpn), (cAI g zpc 16 zpf)] [3, 4, 5, 6, 0, 1] [2, 7, 8, 9, 10, 11, 12, 13, 14, 15, 16, 17, 18, 19] (n_signsSo l g nn tl nr xsnapped2_29 xmostSlip2_30 xslip2_31 xisDrawn2_32 xseed2_33 xtick2_34 xmotorTick2_35 xahead2_36 nrc nrk_38 nrg_37 v0tl (.ref yhn) v2tl v3tl (.ref yhm) v5tl yhs v7tl yhsc yhsn yhsf) dX10_fits_62 mw953 mw954 mw955 mw31 mw956 rfl 5 rfl rfl 0 _ rfl yk_yX5_signsSo_1 rfl (Nat.le_of_ble_eq_true rfl) (Nat.le_of_ble_eq_true rfl) (Nat.le_of_ble_eq_true rfl) (Nat.le_of_ble_eq_true rfl) (Nat.le_of_ble_eq_true rfl) rfl rfl (by decide +kernel) rfl (by decide +kernel) (by decide +kernel) ?_
        rintro r_43 w rfl
        refine k_ws [(cO10_vrrvrvvvvi h0 v0h0 tl nw v3h0 nn v5h0 v6h0 v7h0 v8h0 tr2_28), (cO8_iiri yhn 1 6 yhnc yhnn), (cAI g yhnc 6 yhnf), (cO8_iiri yhm 4 3 yhmc yhmn), (cAI g yhmc 12 yhmf), (cO7_rrrrii nw zr zm zw zp zmd ztr), (cO8_iiri zr 8 3 zrc zrn), (cAI g zrc 24 zrf), (cO8_iiri zm 12 3 zmc zmn), (cAI g zmc 36 zmf), (cO8_iiri zw 6 3 zwc zwn), (cAI g zwc 18 zwf), (cO8_iiri zp 8 2 zpc zpn), (cAI g zpc 16 zpf), (cO5_riiiiiiii nn nr xsnapped2_29 xmostSlip2_30 xslip2_31 xisDrawn2_32 xseed2_33 xtick2_34 xmotorTick2_35 xahead2_36), (cO8_iiri nr 8 10 nrc nrk_38), (cAI g nrc 80 nrg_37), (cO3_vrvvrvrv tl v0tl yhn v2tl v3tl yhm v5tl yhs v7tl), (cO8_iiri yhs 6 3 yhsc yhsn), (cAI g yhsc 18 yhsf)] rfl ?_
        refine k_iload_n X dX10_fits_65 2 rfl ?_
        refine k_ic_ne 75 X dX10_fits_66 (by decide) (fun h_45 => ?_) (fun h_45 => ?_)
        · skip
          obtain ⟨z_46, ez_46⟩ : ∃ y : Int32, u_7 + Int32.ofInt 1 = y := ⟨_, rfl⟩
          refine k_iinc z_46 [(3, .int z_46), (2, .int u_8), (1, .int z_6), (0, .ref h0)] 0 X dX10_fits_75 rfl ez_46 (by decide) rfl ?_
          refine k_goto 32 X dX10_fits_78 (by decide) ?_
          refine k_sub [(cO5_riiiiiiii nn nr xsnapped2_29 xmostSlip2_30 xslip2_31 xisDrawn2_32 xseed2_33 xtick2_34 xmotorTick2_35 xahead2_36), (cO8_iiri nr 8 10 nrc nrk_38), (cAI g nrc 80 nrg_37), (cO3_vrvvrvrv tl v0tl yhn v2tl v3tl yhm v5tl yhs v7tl), (cO8_iiri yhn 1 6 yhnc yhnn), (cAI g yhnc 6 yhnf), (cO8_iiri yhm 4 3 yhmc yhmn), (cAI g yhmc 12 yhmf), (cO8_iiri yhs 6 3 yhsc yhsn), (cAI g yhsc 18 yhsf), (cO8_iiri zr 8 3 zrc zrn), (cAI g zrc 24 zrf), (cO8_iiri zm 12 3 zmc zmn), (cAI g zmc 36 zmf), (cO8_iiri zw 6 3 zwc zwn), (cAI g zwc 18 zwf), (cO10_vrrvrvvvvi h0 v0h0 tl nw v3h0 nn v5h0 v6h0 v7h0 v8h0 tr2_28), (cO7_rrrrii nw zr zm zw zp zmd ztr), (cO8_iiri zp 8 2 zpc zpn), (cAI g zpc 16 zpf)] [14, 15, 16, 17, 1, 2, 3, 4, 18, 19, 6, 7, 8, 9, 10, 11, 0, 5, 12, 13] rfl (by decide) rfl ?_
          exact ih_23 _ (by rw [← hm_22]; exact mu_lt (by assumption) (by assumption)) z_46 u_8 nrg_37 tr2_28 xsnapped2_29 xmostSlip2_30 xslip2_31 xisDrawn2_32 xseed2_33 xtick2_34 xmotorTick2_35 xahead2_36 nrk_38 rfl (by assumption)
        · skip
          refine k_iload_n X dX10_fits_69 1 rfl ?_
          refine k_iconst (v := 1) X dX10_fits_70 (by decide) ?_
          refine k_iload_n X dX10_fits_71 0 rfl ?_
          refine k_ishl X dX10_fits_72 ?_
          refine k_nm (fun z_47 ez_47 => ?_)
          refine k_ior X dX10_fits_73 ?_
          refine k_nm (fun z_48 ez_48 => ?_)
          refine k_istore_n [(2, .int z_48), (3, .int u_7), (1, .int z_6), (0, .ref h0)] X dX10_fits_74 (by decide) rfl ?_
          obtain ⟨z_49, ez_49⟩ : ∃ y : Int32, u_7 + Int32.ofInt 1 = y := ⟨_, rfl⟩
          refine k_iinc z_49 [(3, .int z_49), (2, .int z_48), (1, .int z_6), (0, .ref h0)] 1 X dX10_fits_75 rfl ez_49 (by decide) rfl ?_
          refine k_goto 32 X dX10_fits_78 (by decide) ?_
          refine k_sub [(cO5_riiiiiiii nn nr xsnapped2_29 xmostSlip2_30 xslip2_31 xisDrawn2_32 xseed2_33 xtick2_34 xmotorTick2_35 xahead2_36), (cO8_iiri nr 8 10 nrc nrk_38), (cAI g nrc 80 nrg_37), (cO3_vrvvrvrv tl v0tl yhn v2tl v3tl yhm v5tl yhs v7tl), (cO8_iiri yhn 1 6 yhnc yhnn), (cAI g yhnc 6 yhnf), (cO8_iiri yhm 4 3 yhmc yhmn), (cAI g yhmc 12 yhmf), (cO8_iiri yhs 6 3 yhsc yhsn), (cAI g yhsc 18 yhsf), (cO8_iiri zr 8 3 zrc zrn), (cAI g zrc 24 zrf), (cO8_iiri zm 12 3 zmc zmn), (cAI g zmc 36 zmf), (cO8_iiri zw 6 3 zwc zwn), (cAI g zwc 18 zwf), (cO10_vrrvrvvvvi h0 v0h0 tl nw v3h0 nn v5h0 v6h0 v7h0 v8h0 tr2_28), (cO7_rrrrii nw zr zm zw zp zmd ztr), (cO8_iiri zp 8 2 zpc zpn), (cAI g zpc 16 zpf)] [14, 15, 16, 17, 1, 2, 3, 4, 18, 19, 6, 7, 8, 9, 10, 11, 0, 5, 12, 13] rfl (by decide) rfl ?_
          exact ih_23 _ (by rw [← hm_22]; exact mu_lt (by assumption) (by assumption)) z_49 z_48 nrg_37 tr2_28 xsnapped2_29 xmostSlip2_30 xslip2_31 xisDrawn2_32 xseed2_33 xtick2_34 xmotorTick2_35 xahead2_36 nrk_38 rfl (by assumption)
  · skip
    refine k_aload_n X dX10_fits_7 0 rfl ?_
    refine k_iconst (v := 1) X dX10_fits_8 (by decide) ?_
    refine k_callVI (n := 1) (As := [.int 1]) (st := []) X [(cO10_vrrvrvvvvi h0 v0h0 tl nw v3h0 nn v5h0 v6h0 v7h0 v8h0 tr2_1)] [(cO5_riiiiiiii nn nr xsnapped xmostSlip xslip xisDrawn xseed xtick xmotorTick xahead), (cO8_iiri nr 8 10 nrc nrn), (cAI g nrc 80 nrf), (cO3_vrvvrvrv tl v0tl yhn v2tl v3tl yhm v5tl yhs v7tl), (cO8_iiri yhn 1 6 yhnc yhnn), (cAI g yhnc 6 yhnf), (cO8_iiri yhm 4 3 yhmc yhmn), (cAI g yhmc 12 yhmf), (cO8_iiri yhs 6 3 yhsc yhsn), (cAI g yhsc 18 yhsf), (cO8_iiri zr 8 3 zrc zrn), (cAI g zrc 24 zrf), (cO8_iiri zm 12 3 zmc zmn), (cAI g zmc 36 zmf), (cO8_iiri zw 6 3 zwc zwn), (cAI g zwc 18 zwf), (cO7_rrrrii nw zr zm zw zp zmd ztr), (cO8_iiri zp 8 2 zpc zpn), (cAI g zpc 16 zpf)] [16] [0, 1, 2, 3, 4, 5, 6, 7, 8, 9, 10, 11, 12, 13, 14, 15, 17, 18, 19] (c_refuse l g h0 1 v0h0 (.ref tl) (.ref nw) v3h0 (.ref nn) v5h0 v6h0 v7h0 v8h0 tr2_1) dX10_fits_9 mw215 mw216 mw217 mw2 mw218 rfl 10 rfl rfl 0 _ rfl yk_yX10_refuse_1 rfl (Nat.le_of_ble_eq_true rfl) (Nat.le_of_ble_eq_true rfl) (Nat.le_of_ble_eq_true rfl) (Nat.le_of_ble_eq_true rfl) (Nat.le_of_ble_eq_true rfl) rfl rfl (by decide +kernel) rfl (by decide +kernel) (by decide +kernel) ?_
    rintro r_51 w ⟨tr2_50, rfl⟩
    refine k_ws [(cO5_riiiiiiii nn nr xsnapped xmostSlip xslip xisDrawn xseed xtick xmotorTick xahead), (cO8_iiri nr 8 10 nrc nrn), (cAI g nrc 80 nrf), (cO3_vrvvrvrv tl v0tl yhn v2tl v3tl yhm v5tl yhs v7tl), (cO8_iiri yhn 1 6 yhnc yhnn), (cAI g yhnc 6 yhnf), (cO8_iiri yhm 4 3 yhmc yhmn), (cAI g yhmc 12 yhmf), (cO8_iiri yhs 6 3 yhsc yhsn), (cAI g yhsc 18 yhsf), (cO8_iiri zr 8 3 zrc zrn), (cAI g zrc 24 zrf), (cO8_iiri zm 12 3 zmc zmn), (cAI g zmc 36 zmf), (cO8_iiri zw 6 3 zwc zwn), (cAI g zwc 18 zwf), (cO7_rrrrii nw zr zm zw zp zmd ztr), (cO8_iiri zp 8 2 zpc zpn), (cAI g zpc 16 zpf), (cO10_vrrvrvvvvi h0 v0h0 tl nw v3h0 nn v5h0 v6h0 v7h0 v8h0 tr2_50)] rfl ?_
    exact k_iret X hr dX10_fits_12 (Nat.le_of_ble_eq_true rfl) (Nat.le_of_ble_eq_true rfl) [19, 0, 1, 2, 3, 4, 5, 6, 7, 8, 9, 16, 10, 11, 12, 13, 14, 15, 17, 18] (by decide) rfl rfl ⟨tr2_50, xsnapped, xmostSlip, xslip, xisDrawn, xseed, xtick, xmotorTick, xahead, nrf, nrn, (by assumption), rfl⟩

theorem dX10_dark_0 : decode cX10_dark 0 = .ok (.aload_n 0, 1) := dk_42 rfl
theorem dX10_dark_1 : decode cX10_dark 1 = .ok (.getfield 19, 3) := dk_180 rfl rfl rfl rfl
theorem dX10_dark_4 : decode cX10_dark 4 = .ok (.getfield 191, 3) := dk_180 rfl rfl rfl rfl
theorem dX10_dark_7 : decode cX10_dark 7 = .ok (.iload_n 1, 1) := dk_27 rfl
theorem dX10_dark_8 : decode cX10_dark 8 = .ok (.invokevirtual 127, 3) := dk_182 rfl rfl rfl rfl
theorem dX10_dark_11 : decode cX10_dark 11 = .ok (.ifCond .ne 9, 3) := dk_154 rfl rfl rfl (by decide)
theorem dX10_dark_14 : decode cX10_dark 14 = .ok (.aload_n 0, 1) := dk_42 rfl
theorem dX10_dark_15 : decode cX10_dark 15 = .ok (.iconst 1, 1) := dk_4 rfl
theorem dX10_dark_16 : decode cX10_dark 16 = .ok (.invokevirtual 83, 3) := dk_182 rfl rfl rfl rfl
theorem dX10_dark_19 : decode cX10_dark 19 = .ok (.ireturn, 1) := dk_172 rfl
theorem dX10_dark_20 : decode cX10_dark 20 = .ok (.iload_n 2, 1) := dk_28 rfl
theorem dX10_dark_21 : decode cX10_dark 21 = .ok (.ifCond .lt 10, 3) := dk_155 rfl rfl rfl (by decide)
theorem dX10_dark_24 : decode cX10_dark 24 = .ok (.iload_n 2, 1) := dk_28 rfl
theorem dX10_dark_25 : decode cX10_dark 25 = .ok (.ldc_w 320, 3) := dk_19 rfl rfl rfl rfl
theorem dX10_dark_28 : decode cX10_dark 28 = .ok (.if_icmp .le 9, 3) := dk_164 rfl rfl rfl (by decide)
theorem dX10_dark_31 : decode cX10_dark 31 = .ok (.aload_n 0, 1) := dk_42 rfl
theorem dX10_dark_32 : decode cX10_dark 32 = .ok (.iconst 2, 1) := dk_5 rfl
theorem dX10_dark_33 : decode cX10_dark 33 = .ok (.invokevirtual 83, 3) := dk_182 rfl rfl rfl rfl
theorem dX10_dark_36 : decode cX10_dark 36 = .ok (.ireturn, 1) := dk_172 rfl
theorem dX10_dark_37 : decode cX10_dark 37 = .ok (.aload_n 0, 1) := dk_42 rfl
theorem dX10_dark_38 : decode cX10_dark 38 = .ok (.getfield 40, 3) := dk_180 rfl rfl rfl rfl
theorem dX10_dark_41 : decode cX10_dark 41 = .ok (.aload_n 0, 1) := dk_42 rfl
theorem dX10_dark_42 : decode cX10_dark 42 = .ok (.getfield 19, 3) := dk_180 rfl rfl rfl rfl
theorem dX10_dark_45 : decode cX10_dark 45 = .ok (.aload_n 0, 1) := dk_42 rfl
theorem dX10_dark_46 : decode cX10_dark 46 = .ok (.getfield 26, 3) := dk_180 rfl rfl rfl rfl
theorem dX10_dark_49 : decode cX10_dark 49 = .ok (.iload_n 1, 1) := dk_27 rfl
theorem dX10_dark_50 : decode cX10_dark 50 = .ok (.invokevirtual 321, 3) := dk_182 rfl rfl rfl rfl
theorem dX10_dark_53 : decode cX10_dark 53 = .ok (.aload_n 0, 1) := dk_42 rfl
theorem dX10_dark_54 : decode cX10_dark 54 = .ok (.getfield 40, 3) := dk_180 rfl rfl rfl rfl
theorem dX10_dark_57 : decode cX10_dark 57 = .ok (.iload_n 2, 1) := dk_28 rfl
theorem dX10_dark_58 : decode cX10_dark 58 = .ok (.invokevirtual 325, 3) := dk_182 rfl rfl rfl rfl
theorem dX10_dark_61 : decode cX10_dark 61 = .ok (.aload_n 0, 1) := dk_42 rfl
theorem dX10_dark_62 : decode cX10_dark 62 = .ok (.getfield 40, 3) := dk_180 rfl rfl rfl rfl
theorem dX10_dark_65 : decode cX10_dark 65 = .ok (.aload_n 0, 1) := dk_42 rfl
theorem dX10_dark_66 : decode cX10_dark 66 = .ok (.getfield 19, 3) := dk_180 rfl rfl rfl rfl
theorem dX10_dark_69 : decode cX10_dark 69 = .ok (.aload_n 0, 1) := dk_42 rfl
theorem dX10_dark_70 : decode cX10_dark 70 = .ok (.getfield 26, 3) := dk_180 rfl rfl rfl rfl
theorem dX10_dark_73 : decode cX10_dark 73 = .ok (.invokevirtual 200, 3) := dk_182 rfl rfl rfl rfl
theorem dX10_dark_76 : decode cX10_dark 76 = .ok (.aload_n 0, 1) := dk_42 rfl
theorem dX10_dark_77 : decode cX10_dark 77 = .ok (.aload_n 0, 1) := dk_42 rfl
theorem dX10_dark_78 : decode cX10_dark 78 = .ok (.getfield 40, 3) := dk_180 rfl rfl rfl rfl
theorem dX10_dark_81 : decode cX10_dark 81 = .ok (.iconst 1, 1) := dk_4 rfl
theorem dX10_dark_82 : decode cX10_dark 82 = .ok (.invokevirtual 170, 3) := dk_182 rfl rfl rfl rfl
theorem dX10_dark_85 : decode cX10_dark 85 = .ok (.aload_n 0, 1) := dk_42 rfl
theorem dX10_dark_86 : decode cX10_dark 86 = .ok (.getfield 40, 3) := dk_180 rfl rfl rfl rfl
theorem dX10_dark_89 : decode cX10_dark 89 = .ok (.getfield 328, 3) := dk_180 rfl rfl rfl rfl
theorem dX10_dark_92 : decode cX10_dark 92 = .ok (.iadd, 1) := dk_96 rfl
theorem dX10_dark_93 : decode cX10_dark 93 = .ok (.invokevirtual 118, 3) := dk_182 rfl rfl rfl rfl
theorem dX10_dark_96 : decode cX10_dark 96 = .ok (.ireturn, 1) := dk_172 rfl
set_option maxHeartbeats 4000000 in
set_option maxRecDepth 100000 in
theorem c_dark (l : Launch) (g : Gx) (h0 : Nat) (p0 : Int32) (p1 : Int32) (v0h0 : Value) (tl : Nat) (nw : Nat) (v3h0 : Value) (nn : Nat) (v5h0 : Value) (v6h0 : Value) (v7h0 : Value) (v8h0 : Value) (tr : Int32) (nr : Nat) (xsnapped : Int32) (xmostSlip : Int32) (xslip : Int32) (xisDrawn : Int32) (xseed : Int32) (xtick : Int32) (xmotorTick : Int32) (xahead : Int32) (nrc : Nat) (nrn : Int32) (nrf : Nat → Int32) (v0tl : Value) (yhn : Nat) (v2tl : Value) (v3tl : Value) (yhm : Nat) (v5tl : Value) (v6tl : Value) (v7tl : Value) (yhnc : Nat) (yhnn : Int32) (yhnf : Nat → Int32) (yhmc : Nat) (yhmn : Int32) (yhmf : Nat → Int32) (zr : Nat) (zm : Nat) (zw : Nat) (zp : Nat) (zmd : Int32) (ztr : Int32) (zrc : Nat) (zrn : Int32) (zrf : Nat → Int32) (zmc : Nat) (zmn : Int32) (zmf : Nat → Int32) (zwc : Nat) (zwn : Int32) (zwf : Nat → Int32) (zpc : Nat) (zpn : Int32) (zpf : Nat → Int32) (hms : ¬ xmostSlip < 0) : cI l g yX10_dark cX10_dark 3 (some .int) 4 97 0 0 [.ref h0, .int p0, .int p1] [(cO10_vrrvrvvvvi h0 v0h0 tl nw v3h0 nn v5h0 v6h0 v7h0 v8h0 tr), (cO5_riiiiiiii nn nr xsnapped xmostSlip xslip xisDrawn xseed xtick xmotorTick xahead), (cO8_iiri nr 8 10 nrc nrn), (cAI g nrc 80 nrf), (cO3_vrvvrvvv tl v0tl yhn v2tl v3tl yhm v5tl v6tl v7tl), (cO8_iiri yhn 1 6 yhnc yhnn), (cAI g yhnc 6 yhnf), (cO8_iiri yhm 4 3 yhmc yhmn), (cAI g yhmc 12 yhmf), (cO7_rrrrii nw zr zm zw zp zmd ztr), (cO8_iiri zr 8 3 zrc zrn), (cAI g zrc 24 zrf), (cO8_iiri zm 12 3 zmc zmn), (cAI g zmc 36 zmf), (cO8_iiri zw 6 3 zwc zwn), (cAI g zwc 18 zwf), (cO8_iiri zp 8 2 zpc zpn), (cAI g zpc 16 zpf)] (fun r w => ∃ (tr2 : Int32) (xsnapped2 : Int32) (xmostSlip2 : Int32) (xslip2 : Int32) (xisDrawn2 : Int32) (xseed2 : Int32) (xtick2 : Int32) (xmotorTick2 : Int32) (xahead2 : Int32) (nrg : Nat → Int32) (nrk : Int32), (¬ xmostSlip2 < 0) ∧ w = [(cO10_vrrvrvvvvi h0 v0h0 tl nw v3h0 nn v5h0 v6h0 v7h0 v8h0 tr2), (cO5_riiiiiiii nn nr xsnapped2 xmostSlip2 xslip2 xisDrawn2 xseed2 xtick2 xmotorTick2 xahead2), (cO8_iiri nr 8 10 nrc nrk), (cAI g nrc 80 nrg), (cO3_vrvvrvvv tl v0tl yhn v2tl v3tl yhm v5tl v6tl v7tl), (cO8_iiri yhn 1 6 yhnc yhnn), (cAI g yhnc 6 yhnf), (cO8_iiri yhm 4 3 yhmc yhmn), (cAI g yhmc 12 yhmf), (cO7_rrrrii nw zr zm zw zp zmd ztr), (cO8_iiri zr 8 3 zrc zrn), (cAI g zrc 24 zrf), (cO8_iiri zm 12 3 zmc zmn), (cAI g zmc 36 zmf), (cO8_iiri zw 6 3 zwc zwn), (cAI g zwc 18 zwf), (cO8_iiri zp 8 2 zpc zpn), (cAI g zpc 16 zpf)]) := by
  refine cI.of (by decide) (Nat.le_of_ble_eq_true rfl) ?_
  intro p e s m args below meth c A X hr hi
  refine k_lveq [(0, .ref h0), (1, .int p0), (2, .int p1)] rfl ?_
  refine k_aload_n X dX10_dark_0 0 rfl ?_
  refine k_get (ci := 10) X inlX10 rfl 1 (by decide) dX10_dark_1 mw20 0 rfl rfl ?_
  refine k_get (ci := 3) X inlX3 rfl 4 (by decide) dX10_dark_4 mw748 4 rfl rfl ?_
  refine k_iload_n X dX10_dark_7 1 rfl ?_
  refine k_callVI (n := 1) (As := [.int p0]) (st := []) X [(cO8_iiri yhm 4 3 yhmc yhmn)] [(cO10_vrrvrvvvvi h0 v0h0 tl nw v3h0 nn v5h0 v6h0 v7h0 v8h0 tr), (cO5_riiiiiiii nn nr xsnapped xmostSlip xslip xisDrawn xseed xtick xmotorTick xahead), (cO8_iiri nr 8 10 nrc nrn), (cAI g nrc 80 nrf), (cO3_vrvvrvvv tl v0tl yhn v2tl v3tl yhm v5tl v6tl v7tl), (cO8_iiri yhn 1 6 yhnc yhnn), (cAI g yhnc 6 yhnf), (cAI g yhmc 12 yhmf), (cO7_rrrrii nw zr zm zw zp zmd ztr), (cO8_iiri zr 8 3 zrc zrn), (cAI g zrc 24 zrf), (cO8_iiri zm 12 3 zmc zmn), (cAI g zmc 36 zmf), (cO8_iiri zw 6 3 zwc zwn), (cAI g zwc 18 zwf), (cO8_iiri zp 8 2 zpc zpn), (cAI g zpc 16 zpf)] [7] [0, 1, 2, 3, 4, 5, 6, 8, 9, 10, 11, 12, 13, 14, 15, 16, 17] (t_has l g yhm p0 (.int 4) (.int 3) (.ref yhmc) yhmn) dX10_dark_8 mw647 mw648 mw649 mw64 mw650 rfl 8 rfl rfl 0 _ rfl yk_yX8_has_1 rfl (Nat.le_of_ble_eq_true rfl) (Nat.le_of_ble_eq_true rfl) (Nat.le_of_ble_eq_true rfl) (Nat.le_of_ble_eq_true rfl) (Nat.le_of_ble_eq_true rfl) rfl rfl (by decide +kernel) rfl (by decide +kernel) (by decide +kernel) ?_
  rintro r_1 w ⟨hr_2, rfl⟩
  refine k_ws [(cO10_vrrvrvvvvi h0 v0h0 tl nw v3h0 nn v5h0 v6h0 v7h0 v8h0 tr), (cO5_riiiiiiii nn nr xsnapped xmostSlip xslip xisDrawn xseed xtick xmotorTick xahead), (cO8_iiri nr 8 10 nrc nrn), (cAI g nrc 80 nrf), (cO3_vrvvrvvv tl v0tl yhn v2tl v3tl yhm v5tl v6tl v7tl), (cO8_iiri yhn 1 6 yhnc yhnn), (cAI g yhnc 6 yhnf), (cAI g yhmc 12 yhmf), (cO7_rrrrii nw zr zm zw zp zmd ztr), (cO8_iiri zr 8 3 zrc zrn), (cAI g zrc 24 zrf), (cO8_iiri zm 12 3 zmc zmn), (cAI g zmc 36 zmf), (cO8_iiri zw 6 3 zwc zwn), (cAI g zwc 18 zwf), (cO8_iiri zp 8 2 zpc zpn), (cAI g zpc 16 zpf), (cO8_iiri yhm 4 3 yhmc yhmn)] rfl ?_
  refine k_if_ne 20 X dX10_dark_11 (by decide) (fun h_3 => ?_) (fun h_3 => ?_)
  · skip
    refine k_iload_n X dX10_dark_20 2 rfl ?_
    refine k_if_lt 31 X dX10_dark_21 (by decide) (fun h_4 => ?_) (fun h_4 => ?_)
    · skip
      refine k_aload_n X dX10_dark_31 0 rfl ?_
      refine k_iconst (v := 2) X dX10_dark_32 (by decide) ?_
      refine k_callVI (n := 1) (As := [.int 2]) (st := []) X [(cO10_vrrvrvvvvi h0 v0h0 tl nw v3h0 nn v5h0 v6h0 v7h0 v8h0 tr)] [(cO5_riiiiiiii nn nr xsnapped xmostSlip xslip xisDrawn xseed xtick xmotorTick xahead), (cO8_iiri nr 8 10 nrc nrn), (cAI g nrc 80 nrf), (cO3_vrvvrvvv tl v0tl yhn v2tl v3tl yhm v5tl v6tl v7tl), (cO8_iiri yhn 1 6 yhnc yhnn), (cAI g yhnc 6 yhnf), (cAI g yhmc 12 yhmf), (cO7_rrrrii nw zr zm zw zp zmd ztr), (cO8_iiri zr 8 3 zrc zrn), (cAI g zrc 24 zrf), (cO8_iiri zm 12 3 zmc zmn), (cAI g zmc 36 zmf), (cO8_iiri zw 6 3 zwc zwn), (cAI g zwc 18 zwf), (cO8_iiri zp 8 2 zpc zpn), (cAI g zpc 16 zpf), (cO8_iiri yhm 4 3 yhmc yhmn)] [0] [1, 2, 3, 4, 5, 6, 7, 8, 9, 10, 11, 12, 13, 14, 15, 16, 17] (c_refuse l g h0 2 v0h0 (.ref tl) (.ref nw) v3h0 (.ref nn) v5h0 v6h0 v7h0 v8h0 tr) dX10_dark_33 mw215 mw216 mw217 mw2 mw218 rfl 10 rfl rfl 0 _ rfl yk_yX10_refuse_1 rfl (Nat.le_of_ble_eq_true rfl) (Nat.le_of_ble_eq_true rfl) (Nat.le_of_ble_eq_true rfl) (Nat.le_of_ble_eq_true rfl) (Nat.le_of_ble_eq_true rfl) rfl rfl (by decide +kernel) rfl (by decide +kernel) (by decide +kernel) ?_
      rintro r_6 w ⟨tr2_5, rfl⟩
      refine k_ws [(cO5_riiiiiiii nn nr xsnapped xmostSlip xslip xisDrawn xseed xtick xmotorTick xahead), (cO8_iiri nr 8 10 nrc nrn), (cAI g nrc 80 nrf), (cO3_vrvvrvvv tl v0tl yhn v2tl v3tl yhm v5tl v6tl v7tl), (cO8_iiri yhn 1 6 yhnc yhnn), (cAI g yhnc 6 yhnf), (cAI g yhmc 12 yhmf), (cO7_rrrrii nw zr zm zw zp zmd ztr), (cO8_iiri zr 8 3 zrc zrn), (cAI g zrc 24 zrf), (cO8_iiri zm 12 3 zmc zmn), (cAI g zmc 36 zmf), (cO8_iiri zw 6 3 zwc zwn), (cAI g zwc 18 zwf), (cO8_iiri zp 8 2 zpc zpn), (cAI g zpc 16 zpf), (cO8_iiri yhm 4 3 yhmc yhmn), (cO10_vrrvrvvvvi h0 v0h0 tl nw v3h0 nn v5h0 v6h0 v7h0 v8h0 tr2_5)] rfl ?_
      exact k_iret X hr dX10_dark_36 (Nat.le_of_ble_eq_true rfl) (Nat.le_of_ble_eq_true rfl) [17, 0, 1, 2, 3, 4, 5, 16, 6, 7, 8, 9, 10, 11, 12, 13, 14, 15] (by decide) rfl rfl ⟨tr2_5, xsnapped, xmostSlip, xslip, xisDrawn, xseed, xtick, xmotorTick, xahead, nrf, nrn, (by assumption), rfl⟩
    · skip
      refine k_iload_n X dX10_dark_24 2 rfl ?_
      refine k_ldcw (v := 65536) X dX10_dark_25 mw1410 ?_
      refine k_ic_le 37 X dX10_dark_28 (by decide) (fun h_8 => ?_) (fun h_8 => ?_)
      · skip
        refine k_aload_n X dX10_dark_37 0 rfl ?_
        refine k_get (ci := 10) X inlX10 rfl 4 (by decide) dX10_dark_38 mw32 0 rfl rfl ?_
        refine k_aload_n X dX10_dark_41 0 rfl ?_
        refine k_get (ci := 10) X inlX10 rfl 1 (by decide) dX10_dark_42 mw20 0 rfl rfl ?_
        refine k_aload_n X dX10_dark_45 0 rfl ?_
        refine k_get (ci := 10) X inlX10 rfl 2 (by decide) dX10_dark_46 mw24 0 rfl rfl ?_
        refine k_iload_n X dX10_dark_49 1 rfl ?_
        refine k_callVV (n := 3) (As := [.ref tl, .ref nw, .int p0]) (st := []) X [(cO5_riiiiiiii nn nr xsnapped xmostSlip xslip xisDrawn xseed xtick xmotorTick xahead), (cO8_iiri nr 8 10 nrc nrn), (cAI g nrc 80 nrf), (cO3_vrvvrvvv tl v0tl yhn v2tl v3tl yhm v5tl v6tl v7tl), (cO8_iiri yhm 4 3 yhmc yhmn), (cAI g yhmc 12 yhmf), (cO7_rrrrii nw zr zm zw zp zmd ztr), (cO8_iiri zr 8 3 zrc zrn), (cAI g zrc 24 zrf), (cO8_iiri zm 12 3 zmc zmn), (cAI g zmc 36 zmf), (cO8_iiri zp 8 2 zpc zpn), (cAI g zpc 16 zpf)] [(cO10_vrrvrvvvvi h0 v0h0 tl nw v3h0 nn v5h0 v6h0 v7h0 v8h0 tr), (cO8_iiri yhn 1 6 yhnc yhnn), (cAI g yhnc 6 yhnf), (cO8_iiri zw 6 3 zwc zwn), (cAI g zwc 18 zwf)] [1, 2, 3, 4, 17, 7, 8, 9, 10, 11, 12, 15, 16] [0, 5, 6, 13, 14] (n_meet l g nn tl nw p0 nr xsnapped xmostSlip xslip xisDrawn xseed xtick xmotorTick xahead nrc nrn nrf v0tl (.ref yhn) v2tl v3tl yhm v5tl v6tl v7tl yhmc yhmn yhmf zr zm (.ref zw) zp zmd ztr zrc zrn zrf zmc zmn zmf zpc zpn zpf) dX10_dark_50 mw749 mw750 mw751 mw31 mw752 rfl 5 rfl rfl 0 _ rfl yk_yX5_meet_3 rfl (Nat.le_of_ble_eq_true rfl) (Nat.le_of_ble_eq_true rfl) (Nat.le_of_ble_eq_true rfl) (Nat.le_of_ble_eq_true rfl) (Nat.le_of_ble_eq_true rfl) rfl rfl (by decide +kernel) rfl (by decide +kernel) (by decide +kernel) ?_
        rintro w ⟨xmostSlip2_9, nrg_10, nrk_11, hr_13, rfl⟩
        refine k_ws [(cO10_vrrvrvvvvi h0 v0h0 tl nw v3h0 nn v5h0 v6h0 v7h0 v8h0 tr), (cO8_iiri yhn 1 6 yhnc yhnn), (cAI g yhnc 6 yhnf), (cO8_iiri zw 6 3 zwc zwn), (cAI g zwc 18 zwf), (cO5_riiiiiiii nn nr xsnapped xmostSlip2_9 xslip xisDrawn xseed xtick xmotorTick xahead), (cO8_iiri nr 8 10 nrc nrk_11), (cAI g nrc 80 nrg_10), (cO3_vrvvrvvv tl v0tl yhn v2tl v3tl yhm v5tl v6tl v7tl), (cO8_iiri yhm 4 3 yhmc yhmn), (cAI g yhmc 12 yhmf), (cO7_rrrrii nw zr zm zw zp zmd ztr), (cO8_iiri zr 8 3 zrc zrn), (cAI g zrc 24 zrf), (cO8_iiri zm 12 3 zmc zmn), (cAI g zmc 36 zmf), (cO8_iiri zp 8 2 zpc zpn), (cAI g zpc 16 zpf)] rfl ?_
        refine k_aload_n X dX10_dark_53 0 rfl ?_
        refine k_get (ci := 10) X inlX10 rfl 4 (by decide) dX10_dark_54 mw32 0 rfl rfl ?_
        refine k_iload_n X dX10_dark_57 2 rfl ?_
        refine k_callVV (n := 1) (As := [.int p1]) (st := []) X [(cO5_riiiiiiii nn nr xsnapped xmostSlip2_9 xslip xisDrawn xseed xtick xmotorTick xahead)] [(cO10_vrrvrvvvvi h0 v0h0 tl nw v3h0 nn v5h0 v6h0 v7h0 v8h0 tr), (cO8_iiri yhn 1 6 yhnc yhnn), (cAI g yhnc 6 yhnf), (cO8_iiri zw 6 3 zwc zwn), (cAI g zwc 18 zwf), (cO8_iiri nr 8 10 nrc nrk_11), (cAI g nrc 80 nrg_10), (cO3_vrvvrvvv tl v0tl yhn v2tl v3tl yhm v5tl v6tl v7tl), (cO8_iiri yhm 4 3 yhmc yhmn), (cAI g yhmc 12 yhmf), (cO7_rrrrii nw zr zm zw zp zmd ztr), (cO8_iiri zr 8 3 zrc zrn), (cAI g zrc 24 zrf), (cO8_iiri zm 12 3 zmc zmn), (cAI g zmc 36 zmf), (cO8_iiri zp 8 2 zpc zpn), (cAI g zpc 16 zpf)] [5] [0, 1, 2, 3, 4, 6, 7, 8, 9, 10, 11, 12, 13, 14, 15, 16, 17] (n_drawBy l g nn p1 nr xsnapped xmostSlip2_9 xslip xisDrawn xseed xtick xmotorTick xahead) dX10_dark_58 mw1412 mw1413 mw1414 mw31 mw1415 rfl 5 rfl rfl 0 _ rfl yk_yX5_drawBy_1 rfl (Nat.le_of_ble_eq_true rfl) (Nat.le_of_ble_eq_true rfl) (Nat.le_of_ble_eq_true rfl) (Nat.le_of_ble_eq_true rfl) (Nat.le_of_ble_eq_true rfl) rfl rfl (by decide +kernel) rfl (by decide +kernel) (by decide +kernel) ?_
        rintro w ⟨xisDrawn2_14, xseed2_15, rfl⟩
        refine k_ws [(cO10_vrrvrvvvvi h0 v0h0 tl nw v3h0 nn v5h0 v6h0 v7h0 v8h0 tr), (cO8_iiri yhn 1 6 yhnc yhnn), (cAI g yhnc 6 yhnf), (cO8_iiri zw 6 3 zwc zwn), (cAI g zwc 18 zwf), (cO8_iiri nr 8 10 nrc nrk_11), (cAI g nrc 80 nrg_10), (cO3_vrvvrvvv tl v0tl yhn v2tl v3tl yhm v5tl v6tl v7tl), (cO8_iiri yhm 4 3 yhmc yhmn), (cAI g yhmc 12 yhmf), (cO7_rrrrii nw zr zm zw zp zmd ztr), (cO8_iiri zr 8 3 zrc zrn), (cAI g zrc 24 zrf), (cO8_iiri zm 12 3 zmc zmn), (cAI g zmc 36 zmf), (cO8_iiri zp 8 2 zpc zpn), (cAI g zpc 16 zpf), (cO5_riiiiiiii nn nr xsnapped xmostSlip2_9 xslip xisDrawn2_14 xseed2_15 xtick xmotorTick xahead)] rfl ?_
        refine k_aload_n X dX10_dark_61 0 rfl ?_
        refine k_get (ci := 10) X inlX10 rfl 4 (by decide) dX10_dark_62 mw32 0 rfl rfl ?_
        refine k_aload_n X dX10_dark_65 0 rfl ?_
        refine k_get (ci := 10) X inlX10 rfl 1 (by decide) dX10_dark_66 mw20 0 rfl rfl ?_
        refine k_aload_n X dX10_dark_69 0 rfl ?_
        refine k_get (ci := 10) X inlX10 rfl 2 (by decide) dX10_dark_70 mw24 0 rfl rfl ?_
        refine k_callVV (n := 2) (As := [.ref tl, .ref nw]) (st := []) X [(cO5_riiiiiiii nn nr xsnapped xmostSlip2_9 xslip xisDrawn2_14 xseed2_15 xtick xmotorTick xahead), (cO8_iiri nr 8 10 nrc nrk_11), (cAI g nrc 80 nrg_10), (cO3_vrvvrvvv tl v0tl yhn v2tl v3tl yhm v5tl v6tl v7tl), (cO8_iiri yhn 1 6 yhnc yhnn), (cAI g yhnc 6 yhnf), (cO7_rrrrii nw zr zm zw zp zmd ztr), (cO8_iiri zr 8 3 zrc zrn), (cAI g zrc 24 zrf), (cO8_iiri zp 8 2 zpc zpn), (cAI g zpc 16 zpf), (cO8_iiri zw 6 3 zwc zwn), (cAI g zwc 18 zwf)] [(cO10_vrrvrvvvvi h0 v0h0 tl nw v3h0 nn v5h0 v6h0 v7h0 v8h0 tr), (cO8_iiri yhm 4 3 yhmc yhmn), (cAI g yhmc 12 yhmf), (cO8_iiri zm 12 3 zmc zmn), (cAI g zmc 36 zmf)] [17, 5, 6, 7, 1, 2, 10, 11, 12, 15, 16, 3, 4] [0, 8, 9, 13, 14] (n_run l g nn tl nw nr xsnapped xmostSlip2_9 xslip xisDrawn2_14 xseed2_15 xtick xmotorTick xahead nrc nrk_11 nrg_10 v0tl yhn v2tl v3tl (.ref yhm) v5tl v6tl v7tl yhnc yhnn yhnf zr (.ref zm) zw zp zmd ztr zrc zrn zrf zpc zpn zpf zwc zwn zwf (by assumption)) dX10_dark_73 mw771 mw772 mw773 mw31 mw774 rfl 5 rfl rfl 0 _ rfl yk_yX5_run_2 rfl (Nat.le_of_ble_eq_true rfl) (Nat.le_of_ble_eq_true rfl) (Nat.le_of_ble_eq_true rfl) (Nat.le_of_ble_eq_true rfl) (Nat.le_of_ble_eq_true rfl) rfl rfl (by decide +kernel) rfl (by decide +kernel) (by decide +kernel) ?_
        rintro w ⟨xsnapped2_18, xseed2_19, xtick2_20, xmotorTick2_21, xahead2_22, nrg_23, rfl⟩
        refine k_ws [(cO10_vrrvrvvvvi h0 v0h0 tl nw v3h0 nn v5h0 v6h0 v7h0 v8h0 tr), (cO8_iiri yhm 4 3 yhmc yhmn), (cAI g yhmc 12 yhmf), (cO8_iiri zm 12 3 zmc zmn), (cAI g zmc 36 zmf), (cO5_riiiiiiii nn nr xsnapped2_18 xmostSlip2_9 xslip xisDrawn2_14 xseed2_19 xtick2_20 xmotorTick2_21 xahead2_22), (cO8_iiri nr 8 10 nrc nrk_11), (cAI g nrc 80 nrg_23), (cO3_vrvvrvvv tl v0tl yhn v2tl v3tl yhm v5tl v6tl v7tl), (cO8_iiri yhn 1 6 yhnc yhnn), (cAI g yhnc 6 yhnf), (cO7_rrrrii nw zr zm zw zp zmd ztr), (cO8_iiri zr 8 3 zrc zrn), (cAI g zrc 24 zrf), (cO8_iiri zp 8 2 zpc zpn), (cAI g zpc 16 zpf), (cO8_iiri zw 6 3 zwc zwn), (cAI g zwc 18 zwf)] rfl ?_
        refine k_aload_n X dX10_dark_76 0 rfl ?_
        refine k_aload_n X dX10_dark_77 0 rfl ?_
        refine k_get (ci := 10) X inlX10 rfl 4 (by decide) dX10_dark_78 mw32 0 rfl rfl ?_
        refine k_iconst (v := 1) X dX10_dark_81 (by decide) ?_
        refine k_callVI (n := 1) (As := [.int 1]) (st := [.ref h0]) X [(cO5_riiiiiiii nn nr xsnapped2_18 xmostSlip2_9 xslip xisDrawn2_14 xseed2_19 xtick2_20 xmotorTick2_21 xahead2_22), (cO8_iiri nr 8 10 nrc nrk_11), (cAI g nrc 80 nrg_23)] [(cO10_vrrvrvvvvi h0 v0h0 tl nw v3h0 nn v5h0 v6h0 v7h0 v8h0 tr), (cO8_iiri yhm 4 3 yhmc yhmn), (cAI g yhmc 12 yhmf), (cO8_iiri zm 12 3 zmc zmn), (cAI g zmc 36 zmf), (cO3_vrvvrvvv tl v0tl yhn v2tl v3tl yhm v5tl v6tl v7tl), (cO8_iiri yhn 1 6 yhnc yhnn), (cAI g yhnc 6 yhnf), (cO7_rrrrii nw zr zm zw zp zmd ztr), (cO8_iiri zr 8 3 zrc zrn), (cAI g zrc 24 zrf), (cO8_iiri zp 8 2 zpc zpn), (cAI g zpc 16 zpf), (cO8_iiri zw 6 3 zwc zwn), (cAI g zwc 18 zwf)] [5, 6, 7] [0, 1, 2, 3, 4, 8, 9, 10, 11, 12, 13, 14, 15, 16, 17] (n_sum l g nn 1 nr xsnapped2_18 xmostSlip2_9 xslip xisDrawn2_14 xseed2_19 xtick2_20 xmotorTick2_21 xahead2_22 nrc nrk_11 nrg_23) dX10_dark_82 mw913 mw914 mw915 mw31 mw916 rfl 5 rfl rfl 0 _ rfl yk_yX5_sum_1 rfl (Nat.le_of_ble_eq_true rfl) (Nat.le_of_ble_eq_true rfl) (Nat.le_of_ble_eq_true rfl) (Nat.le_of_ble_eq_true rfl) (Nat.le_of_ble_eq_true rfl) rfl rfl (by decide +kernel) rfl (by decide +kernel) (by decide +kernel) ?_
        rintro r_26 w rfl
        refine k_ws [(cO10_vrrvrvvvvi h0 v0h0 tl nw v3h0 nn v5h0 v6h0 v7h0 v8h0 tr), (cO8_iiri yhm 4 3 yhmc yhmn), (cAI g yhmc 12 yhmf), (cO8_iiri zm 12 3 zmc zmn), (cAI g zmc 36 zmf), (cO3_vrvvrvvv tl v0tl yhn v2tl v3tl yhm v5tl v6tl v7tl), (cO8_iiri yhn 1 6 yhnc yhnn), (cAI g yhnc 6 yhnf), (cO7_rrrrii nw zr zm zw zp zmd ztr), (cO8_iiri zr 8 3 zrc zrn), (cAI g zrc 24 zrf), (cO8_iiri zp 8 2 zpc zpn), (cAI g zpc 16 zpf), (cO8_iiri zw 6 3 zwc zwn), (cAI g zwc 18 zwf), (cO5_riiiiiiii nn nr xsnapped2_18 xmostSlip2_9 xslip xisDrawn2_14 xseed2_19 xtick2_20 xmotorTick2_21 xahead2_22), (cO8_iiri nr 8 10 nrc nrk_11), (cAI g nrc 80 nrg_23)] rfl ?_
        refine k_aload_n X dX10_dark_85 0 rfl ?_
        refine k_get (ci := 10) X inlX10 rfl 4 (by decide) dX10_dark_86 mw32 0 rfl rfl ?_
        refine k_get (ci := 5) X inlX5 rfl 1 (by decide) dX10_dark_89 mw1411 15 rfl rfl ?_
        refine k_iadd X dX10_dark_92 ?_
        refine k_nm (fun z_28 ez_28 => ?_)
        refine k_callVI (n := 1) (As := [.int z_28]) (st := []) X [(cO10_vrrvrvvvvi h0 v0h0 tl nw v3h0 nn v5h0 v6h0 v7h0 v8h0 tr)] [(cO8_iiri yhm 4 3 yhmc yhmn), (cAI g yhmc 12 yhmf), (cO8_iiri zm 12 3 zmc zmn), (cAI g zmc 36 zmf), (cO3_vrvvrvvv tl v0tl yhn v2tl v3tl yhm v5tl v6tl v7tl), (cO8_iiri yhn 1 6 yhnc yhnn), (cAI g yhnc 6 yhnf), (cO7_rrrrii nw zr zm zw zp zmd ztr), (cO8_iiri zr 8 3 zrc zrn), (cAI g zrc 24 zrf), (cO8_iiri zp 8 2 zpc zpn), (cAI g zpc 16 zpf), (cO8_iiri zw 6 3 zwc zwn), (cAI g zwc 18 zwf), (cO5_riiiiiiii nn nr xsnapped2_18 xmostSlip2_9 xslip xisDrawn2_14 xseed2_19 xtick2_20 xmotorTick2_21 xahead2_22), (cO8_iiri nr 8 10 nrc nrk_11), (cAI g nrc 80 nrg_23)] [0] [1, 2, 3, 4, 5, 6, 7, 8, 9, 10, 11, 12, 13, 14, 15, 16, 17] (c_tell l g h0 z_28 v0h0 (.ref tl) (.ref nw) v3h0 (.ref nn) v5h0 v6h0 v7h0 v8h0 tr) dX10_dark_93 mw460 mw461 mw462 mw2 mw463 rfl 10 rfl rfl 0 _ rfl yk_yX10_tell_1 rfl (Nat.le_of_ble_eq_true rfl) (Nat.le_of_ble_eq_true rfl) (Nat.le_of_ble_eq_true rfl) (Nat.le_of_ble_eq_true rfl) (Nat.le_of_ble_eq_true rfl) rfl rfl (by decide +kernel) rfl (by decide +kernel) (by decide +kernel) ?_
        rintro r_30 w ⟨tr2_29, rfl⟩
        refine k_ws [(cO8_iiri yhm 4 3 yhmc yhmn), (cAI g yhmc 12 yhmf), (cO8_iiri zm 12 3 zmc zmn), (cAI g zmc 36 zmf), (cO3_vrvvrvvv tl v0tl yhn v2tl v3tl yhm v5tl v6tl v7tl), (cO8_iiri yhn 1 6 yhnc yhnn), (cAI g yhnc 6 yhnf), (cO7_rrrrii nw zr zm zw zp zmd ztr), (cO8_iiri zr 8 3 zrc zrn), (cAI g zrc 24 zrf), (cO8_iiri zp 8 2 zpc zpn), (cAI g zpc 16 zpf), (cO8_iiri zw 6 3 zwc zwn), (cAI g zwc 18 zwf), (cO5_riiiiiiii nn nr xsnapped2_18 xmostSlip2_9 xslip xisDrawn2_14 xseed2_19 xtick2_20 xmotorTick2_21 xahead2_22), (cO8_iiri nr 8 10 nrc nrk_11), (cAI g nrc 80 nrg_23), (cO10_vrrvrvvvvi h0 v0h0 tl nw v3h0 nn v5h0 v6h0 v7h0 v8h0 tr2_29)] rfl ?_
        exact k_iret X hr dX10_dark_96 (Nat.le_of_ble_eq_true rfl) (Nat.le_of_ble_eq_true rfl) [17, 14, 15, 16, 4, 5, 6, 0, 1, 7, 8, 9, 2, 3, 12, 13, 10, 11] (by decide) rfl rfl ⟨tr2_29, xsnapped2_18, xmostSlip2_9, xslip, xisDrawn2_14, xseed2_19, xtick2_20, xmotorTick2_21, xahead2_22, nrg_23, nrk_11, (by assumption), rfl⟩
      · skip
        refine k_aload_n X dX10_dark_31 0 rfl ?_
        refine k_iconst (v := 2) X dX10_dark_32 (by decide) ?_
        refine k_callVI (n := 1) (As := [.int 2]) (st := []) X [(cO10_vrrvrvvvvi h0 v0h0 tl nw v3h0 nn v5h0 v6h0 v7h0 v8h0 tr)] [(cO5_riiiiiiii nn nr xsnapped xmostSlip xslip xisDrawn xseed xtick xmotorTick xahead), (cO8_iiri nr 8 10 nrc nrn), (cAI g nrc 80 nrf), (cO3_vrvvrvvv tl v0tl yhn v2tl v3tl yhm v5tl v6tl v7tl), (cO8_iiri yhn 1 6 yhnc yhnn), (cAI g yhnc 6 yhnf), (cAI g yhmc 12 yhmf), (cO7_rrrrii nw zr zm zw zp zmd ztr), (cO8_iiri zr 8 3 zrc zrn), (cAI g zrc 24 zrf), (cO8_iiri zm 12 3 zmc zmn), (cAI g zmc 36 zmf), (cO8_iiri zw 6 3 zwc zwn), (cAI g zwc 18 zwf), (cO8_iiri zp 8 2 zpc zpn), (cAI g zpc 16 zpf), (cO8_iiri yhm 4 3 yhmc yhmn)] [0] [1, 2, 3, 4, 5, 6, 7, 8, 9, 10, 11, 12, 13, 14, 15, 16, 17] (c_refuse l g h0 2 v0h0 (.ref tl) (.ref nw) v3h0 (.ref nn) v5h0 v6h0 v7h0 v8h0 tr) dX10_dark_33 mw215 mw216 mw217 mw2 mw218 rfl 10 rfl rfl 0 _ rfl yk_yX10_refuse_1 rfl (Nat.le_of_ble_eq_true rfl) (Nat.le_of_ble_eq_true rfl) (Nat.le_of_ble_eq_true rfl) (Nat.le_of_ble_eq_true rfl) (Nat.le_of_ble_eq_true rfl) rfl rfl (by decide +kernel) rfl (by decide +kernel) (by decide +kernel) ?_
        rintro r_33 w ⟨tr2_32, rfl⟩
        refine k_ws [(cO5_riiiiiiii nn nr xsnapped xmostSlip xslip xisDrawn xseed xtick xmotorTick xahead), (cO8_iiri nr 8 10 nrc nrn), (cAI g nrc 80 nrf), (cO3_vrvvrvvv tl v0tl yhn v2tl v3tl yhm v5tl v6tl v7tl), (cO8_iiri yhn 1 6 yhnc yhnn), (cAI g yhnc 6 yhnf), (cAI g yhmc 12 yhmf), (cO7_rrrrii nw zr zm zw zp zmd ztr), (cO8_iiri zr 8 3 zrc zrn), (cAI g zrc 24 zrf), (cO8_iiri zm 12 3 zmc zmn), (cAI g zmc 36 zmf), (cO8_iiri zw 6 3 zwc zwn), (cAI g zwc 18 zwf), (cO8_iiri zp 8 2 zpc zpn), (cAI g zpc 16 zpf), (cO8_iiri yhm 4 3 yhmc yhmn), (cO10_vrrvrvvvvi h0 v0h0 tl nw v3h0 nn v5h0 v6h0 v7h0 v8h0 tr2_32)] rfl ?_
        exact k_iret X hr dX10_dark_36 (Nat.le_of_ble_eq_true rfl) (Nat.le_of_ble_eq_true rfl) [17, 0, 1, 2, 3, 4, 5, 16, 6, 7, 8, 9, 10, 11, 12, 13, 14, 15] (by decide) rfl rfl ⟨tr2_32, xsnapped, xmostSlip, xslip, xisDrawn, xseed, xtick, xmotorTick, xahead, nrf, nrn, (by assumption), rfl⟩
  · skip
    refine k_aload_n X dX10_dark_14 0 rfl ?_
    refine k_iconst (v := 1) X dX10_dark_15 (by decide) ?_
    refine k_callVI (n := 1) (As := [.int 1]) (st := []) X [(cO10_vrrvrvvvvi h0 v0h0 tl nw v3h0 nn v5h0 v6h0 v7h0 v8h0 tr)] [(cO5_riiiiiiii nn nr xsnapped xmostSlip xslip xisDrawn xseed xtick xmotorTick xahead), (cO8_iiri nr 8 10 nrc nrn), (cAI g nrc 80 nrf), (cO3_vrvvrvvv tl v0tl yhn v2tl v3tl yhm v5tl v6tl v7tl), (cO8_iiri yhn 1 6 yhnc yhnn), (cAI g yhnc 6 yhnf), (cAI g yhmc 12 yhmf), (cO7_rrrrii nw zr zm zw zp zmd ztr), (cO8_iiri zr 8 3 zrc zrn), (cAI g zrc 24 zrf), (cO8_iiri zm 12 3 zmc zmn), (cAI g zmc 36 zmf), (cO8_iiri zw 6 3 zwc zwn), (cAI g zwc 18 zwf), (cO8_iiri zp 8 2 zpc zpn), (cAI g zpc 16 zpf), (cO8_iiri yhm 4 3 yhmc yhmn)] [0] [1, 2, 3, 4, 5, 6, 7, 8, 9, 10, 11, 12, 13, 14, 15, 16, 17] (c_refuse l g h0 1 v0h0 (.ref tl) (.ref nw) v3h0 (.ref nn) v5h0 v6h0 v7h0 v8h0 tr) dX10_dark_16 mw215 mw216 mw217 mw2 mw218 rfl 10 rfl rfl 0 _ rfl yk_yX10_refuse_1 rfl (Nat.le_of_ble_eq_true rfl) (Nat.le_of_ble_eq_true rfl) (Nat.le_of_ble_eq_true rfl) (Nat.le_of_ble_eq_true rfl) (Nat.le_of_ble_eq_true rfl) rfl rfl (by decide +kernel) rfl (by decide +kernel) (by decide +kernel) ?_
    rintro r_36 w ⟨tr2_35, rfl⟩
    refine k_ws [(cO5_riiiiiiii nn nr xsnapped xmostSlip xslip xisDrawn xseed xtick xmotorTick xahead), (cO8_iiri nr 8 10 nrc nrn), (cAI g nrc 80 nrf), (cO3_vrvvrvvv tl v0tl yhn v2tl v3tl yhm v5tl v6tl v7tl), (cO8_iiri yhn 1 6 yhnc yhnn), (cAI g yhnc 6 yhnf), (cAI g yhmc 12 yhmf), (cO7_rrrrii nw zr zm zw zp zmd ztr), (cO8_iiri zr 8 3 zrc zrn), (cAI g zrc 24 zrf), (cO8_iiri zm 12 3 zmc zmn), (cAI g zmc 36 zmf), (cO8_iiri zw 6 3 zwc zwn), (cAI g zwc 18 zwf), (cO8_iiri zp 8 2 zpc zpn), (cAI g zpc 16 zpf), (cO8_iiri yhm 4 3 yhmc yhmn), (cO10_vrrvrvvvvi h0 v0h0 tl nw v3h0 nn v5h0 v6h0 v7h0 v8h0 tr2_35)] rfl ?_
    exact k_iret X hr dX10_dark_19 (Nat.le_of_ble_eq_true rfl) (Nat.le_of_ble_eq_true rfl) [17, 0, 1, 2, 3, 4, 5, 16, 6, 7, 8, 9, 10, 11, 12, 13, 14, 15] (by decide) rfl rfl ⟨tr2_35, xsnapped, xmostSlip, xslip, xisDrawn, xseed, xtick, xmotorTick, xahead, nrf, nrn, (by assumption), rfl⟩

theorem dX10_wasteByDraws_0 : decode cX10_wasteByDraws 0 = .ok (.iconst 0, 1) := dk_3 rfl
theorem dX10_wasteByDraws_1 : decode cX10_wasteByDraws 1 = .ok (.istore 4, 2) := dk_54 rfl rfl rfl
theorem dX10_wasteByDraws_3 : decode cX10_wasteByDraws 3 = .ok (.aload_n 0, 1) := dk_42 rfl
theorem dX10_wasteByDraws_4 : decode cX10_wasteByDraws 4 = .ok (.getfield 40, 3) := dk_180 rfl rfl rfl rfl
theorem dX10_wasteByDraws_7 : decode cX10_wasteByDraws 7 = .ok (.aload_n 0, 1) := dk_42 rfl
theorem dX10_wasteByDraws_8 : decode cX10_wasteByDraws 8 = .ok (.getfield 19, 3) := dk_180 rfl rfl rfl rfl
theorem dX10_wasteByDraws_11 : decode cX10_wasteByDraws 11 = .ok (.aload_n 0, 1) := dk_42 rfl
theorem dX10_wasteByDraws_12 : decode cX10_wasteByDraws 12 = .ok (.getfield 26, 3) := dk_180 rfl rfl rfl rfl
theorem dX10_wasteByDraws_15 : decode cX10_wasteByDraws 15 = .ok (.iload_n 1, 1) := dk_27 rfl
theorem dX10_wasteByDraws_16 : decode cX10_wasteByDraws 16 = .ok (.invokevirtual 321, 3) := dk_182 rfl rfl rfl rfl
theorem dX10_wasteByDraws_19 : decode cX10_wasteByDraws 19 = .ok (.aload_n 0, 1) := dk_42 rfl
theorem dX10_wasteByDraws_20 : decode cX10_wasteByDraws 20 = .ok (.getfield 40, 3) := dk_180 rfl rfl rfl rfl
theorem dX10_wasteByDraws_23 : decode cX10_wasteByDraws 23 = .ok (.iload_n 2, 1) := dk_28 rfl
theorem dX10_wasteByDraws_24 : decode cX10_wasteByDraws 24 = .ok (.invokevirtual 325, 3) := dk_182 rfl rfl rfl rfl
theorem dX10_wasteByDraws_27 : decode cX10_wasteByDraws 27 = .ok (.iconst 0, 1) := dk_3 rfl
theorem dX10_wasteByDraws_28 : decode cX10_wasteByDraws 28 = .ok (.istore 5, 2) := dk_54 rfl rfl rfl
theorem dX10_wasteByDraws_30 : decode cX10_wasteByDraws 30 = .ok (.iload 5, 2) := dk_21 rfl rfl rfl
theorem dX10_wasteByDraws_32 : decode cX10_wasteByDraws 32 = .ok (.iload_n 3, 1) := dk_29 rfl
theorem dX10_wasteByDraws_33 : decode cX10_wasteByDraws 33 = .ok (.if_icmp .ge 44, 3) := dk_162 rfl rfl rfl (by decide)
theorem dX10_wasteByDraws_36 : decode cX10_wasteByDraws 36 = .ok (.aload_n 0, 1) := dk_42 rfl
theorem dX10_wasteByDraws_37 : decode cX10_wasteByDraws 37 = .ok (.getfield 40, 3) := dk_180 rfl rfl rfl rfl
theorem dX10_wasteByDraws_40 : decode cX10_wasteByDraws 40 = .ok (.aload_n 0, 1) := dk_42 rfl
theorem dX10_wasteByDraws_41 : decode cX10_wasteByDraws 41 = .ok (.getfield 19, 3) := dk_180 rfl rfl rfl rfl
theorem dX10_wasteByDraws_44 : decode cX10_wasteByDraws 44 = .ok (.aload_n 0, 1) := dk_42 rfl
theorem dX10_wasteByDraws_45 : decode cX10_wasteByDraws 45 = .ok (.getfield 26, 3) := dk_180 rfl rfl rfl rfl
theorem dX10_wasteByDraws_48 : decode cX10_wasteByDraws 48 = .ok (.invokevirtual 200, 3) := dk_182 rfl rfl rfl rfl
theorem dX10_wasteByDraws_51 : decode cX10_wasteByDraws 51 = .ok (.iload 4, 2) := dk_21 rfl rfl rfl
theorem dX10_wasteByDraws_53 : decode cX10_wasteByDraws 53 = .ok (.aload_n 0, 1) := dk_42 rfl
theorem dX10_wasteByDraws_54 : decode cX10_wasteByDraws 54 = .ok (.getfield 40, 3) := dk_180 rfl rfl rfl rfl
theorem dX10_wasteByDraws_57 : decode cX10_wasteByDraws 57 = .ok (.invokevirtual 204, 3) := dk_182 rfl rfl rfl rfl
theorem dX10_wasteByDraws_60 : decode cX10_wasteByDraws 60 = .ok (.aload_n 0, 1) := dk_42 rfl
theorem dX10_wasteByDraws_61 : decode cX10_wasteByDraws 61 = .ok (.getfield 40, 3) := dk_180 rfl rfl rfl rfl
theorem dX10_wasteByDraws_64 : decode cX10_wasteByDraws 64 = .ok (.getfield 328, 3) := dk_180 rfl rfl rfl rfl
theorem dX10_wasteByDraws_67 : decode cX10_wasteByDraws 67 = .ok (.iadd, 1) := dk_96 rfl
theorem dX10_wasteByDraws_68 : decode cX10_wasteByDraws 68 = .ok (.iadd, 1) := dk_96 rfl
theorem dX10_wasteByDraws_69 : decode cX10_wasteByDraws 69 = .ok (.istore 4, 2) := dk_54 rfl rfl rfl
theorem dX10_wasteByDraws_71 : decode cX10_wasteByDraws 71 = .ok (.iinc 5 1, 3) := dk_132 rfl rfl rfl rfl (by decide)
theorem dX10_wasteByDraws_74 : decode cX10_wasteByDraws 74 = .ok (.goto (-44), 3) := dk_167 rfl rfl rfl (by decide)
theorem dX10_wasteByDraws_77 : decode cX10_wasteByDraws 77 = .ok (.iload 4, 2) := dk_21 rfl rfl rfl
theorem dX10_wasteByDraws_79 : decode cX10_wasteByDraws 79 = .ok (.ireturn, 1) := dk_172 rfl
set_option maxHeartbeats 4000000 in
set_option maxRecDepth 100000 in
theorem c_wasteByDraws (l : Launch) (g : Gx) (h0 : Nat) (p0 : Int32) (p1 : Int32) (p2 : Int32) (v0h0 : Value) (tl : Nat) (nw : Nat) (v3h0 : Value) (nn : Nat) (v5h0 : Value) (v6h0 : Value) (v7h0 : Value) (v8h0 : Value) (tr : Int32) (nr : Nat) (xsnapped : Int32) (xmostSlip : Int32) (xslip : Int32) (xisDrawn : Int32) (xseed : Int32) (xtick : Int32) (xmotorTick : Int32) (xahead : Int32) (nrc : Nat) (nrn : Int32) (nrf : Nat → Int32) (v0tl : Value) (yhn : Nat) (v2tl : Value) (v3tl : Value) (yhm : Nat) (v5tl : Value) (v6tl : Value) (v7tl : Value) (yhnc : Nat) (yhnn : Int32) (yhnf : Nat → Int32) (yhmc : Nat) (yhmn : Int32) (yhmf : Nat → Int32) (zr : Nat) (zm : Nat) (zw : Nat) (zp : Nat) (zmd : Int32) (ztr : Int32) (zrc : Nat) (zrn : Int32) (zrf : Nat → Int32) (zmc : Nat) (zmn : Int32) (zmf : Nat → Int32) (zwc : Nat) (zwn : Int32) (zwf : Nat → Int32) (zpc : Nat) (zpn : Int32) (zpf : Nat → Int32) (hms : ¬ xmostSlip < 0) : cI l g yX10_wasteByDraws cX10_wasteByDraws 6 (some .int) 4 97 0 0 [.ref h0, .int p0, .int p1, .int p2] [(cO10_vrrvrvvvvi h0 v0h0 tl nw v3h0 nn v5h0 v6h0 v7h0 v8h0 tr), (cO5_riiiiiiii nn nr xsnapped xmostSlip xslip xisDrawn xseed xtick xmotorTick xahead), (cO8_iiri nr 8 10 nrc nrn), (cAI g nrc 80 nrf), (cO3_vrvvrvvv tl v0tl yhn v2tl v3tl yhm v5tl v6tl v7tl), (cO8_iiri yhn 1 6 yhnc yhnn), (cAI g yhnc 6 yhnf), (cO8_iiri yhm 4 3 yhmc yhmn), (cAI g yhmc 12 yhmf), (cO7_rrrrii nw zr zm zw zp zmd ztr), (cO8_iiri zr 8 3 zrc zrn), (cAI g zrc 24 zrf), (cO8_iiri zm 12 3 zmc zmn), (cAI g zmc 36 zmf), (cO8_iiri zw 6 3 zwc zwn), (cAI g zwc 18 zwf), (cO8_iiri zp 8 2 zpc zpn), (cAI g zpc 16 zpf)] (fun r w => ∃ (tr2 : Int32) (xsnapped2 : Int32) (xmostSlip2 : Int32) (xslip2 : Int32) (xisDrawn2 : Int32) (xseed2 : Int32) (xtick2 : Int32) (xmotorTick2 : Int32) (xahead2 : Int32) (nrg : Nat → Int32) (nrk : Int32), (¬ xmostSlip2 < 0) ∧ w = [(cO10_vrrvrvvvvi h0 v0h0 tl nw v3h0 nn v5h0 v6h0 v7h0 v8h0 tr2), (cO5_riiiiiiii nn nr xsnapped2 xmostSlip2 xslip2 xisDrawn2 xseed2 xtick2 xmotorTick2 xahead2), (cO8_iiri nr 8 10 nrc nrk), (cAI g nrc 80 nrg), (cO3_vrvvrvvv tl v0tl yhn v2tl v3tl yhm v5tl v6tl v7tl), (cO8_iiri yhn 1 6 yhnc yhnn), (cAI g yhnc 6 yhnf), (cO8_iiri yhm 4 3 yhmc yhmn), (cAI g yhmc 12 yhmf), (cO7_rrrrii nw zr zm zw zp zmd ztr), (cO8_iiri zr 8 3 zrc zrn), (cAI g zrc 24 zrf), (cO8_iiri zm 12 3 zmc zmn), (cAI g zmc 36 zmf), (cO8_iiri zw 6 3 zwc zwn), (cAI g zwc 18 zwf), (cO8_iiri zp 8 2 zpc zpn), (cAI g zpc 16 zpf)]) := by
  refine cI.of (by decide) (Nat.le_of_ble_eq_true rfl) ?_
  intro p e s m args below meth c A X hr hi
  refine k_lveq [(0, .ref h0), (1, .int p0), (2, .int p1), (3, .int p2)] rfl ?_
  refine k_iconst (v := 0) X dX10_wasteByDraws_0 (by decide) ?_
  refine k_istore [(4, .int 0), (0, .ref h0), (1, .int p0), (2, .int p1), (3, .int p2)] X dX10_wasteByDraws_1 (by decide) rfl ?_
  refine k_aload_n X dX10_wasteByDraws_3 1 rfl ?_
  refine k_get (ci := 10) X inlX10 rfl 4 (by decide) dX10_wasteByDraws_4 mw32 0 rfl rfl ?_
  refine k_aload_n X dX10_wasteByDraws_7 1 rfl ?_
  refine k_get (ci := 10) X inlX10 rfl 1 (by decide) dX10_wasteByDraws_8 mw20 0 rfl rfl ?_
  refine k_aload_n X dX10_wasteByDraws_11 1 rfl ?_
  refine k_get (ci := 10) X inlX10 rfl 2 (by decide) dX10_wasteByDraws_12 mw24 0 rfl rfl ?_
  refine k_iload_n X dX10_wasteByDraws_15 2 rfl ?_
  refine k_callVV (n := 3) (As := [.ref tl, .ref nw, .int p0]) (st := []) X [(cO5_riiiiiiii nn nr xsnapped xmostSlip xslip xisDrawn xseed xtick xmotorTick xahead), (cO8_iiri nr 8 10 nrc nrn), (cAI g nrc 80 nrf), (cO3_vrvvrvvv tl v0tl yhn v2tl v3tl yhm v5tl v6tl v7tl), (cO8_iiri yhm 4 3 yhmc yhmn), (cAI g yhmc 12 yhmf), (cO7_rrrrii nw zr zm zw zp zmd ztr), (cO8_iiri zr 8 3 zrc zrn), (cAI g zrc 24 zrf), (cO8_iiri zm 12 3 zmc zmn), (cAI g zmc 36 zmf), (cO8_iiri zp 8 2 zpc zpn), (cAI g zpc 16 zpf)] [(cO10_vrrvrvvvvi h0 v0h0 tl nw v3h0 nn v5h0 v6h0 v7h0 v8h0 tr), (cO8_iiri yhn 1 6 yhnc yhnn), (cAI g yhnc 6 yhnf), (cO8_iiri zw 6 3 zwc zwn), (cAI g zwc 18 zwf)] [1, 2, 3, 4, 7, 8, 9, 10, 11, 12, 13, 16, 17] [0, 5, 6, 14, 15] (n_meet l g nn tl nw p0 nr xsnapped xmostSlip xslip xisDrawn xseed xtick xmotorTick xahead nrc nrn nrf v0tl (.ref yhn) v2tl v3tl yhm v5tl v6tl v7tl yhmc yhmn yhmf zr zm (.ref zw) zp zmd ztr zrc zrn zrf zmc zmn zmf zpc zpn zpf) dX10_wasteByDraws_16 mw749 mw750 mw751 mw31 mw752 rfl 5 rfl rfl 0 _ rfl yk_yX5_meet_3 rfl (Nat.le_of_ble_eq_true rfl) (Nat.le_of_ble_eq_true rfl) (Nat.le_of_ble_eq_true rfl) (Nat.le_of_ble_eq_true rfl) (Nat.le_of_ble_eq_true rfl) rfl rfl (by decide +kernel) rfl (by decide +kernel) (by decide +kernel) ?_
  rintro w ⟨xmostSlip2_1, nrg_2, nrk_3, hr_5, rfl⟩
  refine k_ws [(cO10_vrrvrvvvvi h0 v0h0 tl nw v3h0 nn v5h0 v6h0 v7h0 v8h0 tr), (cO8_iiri yhn 1 6 yhnc yhnn), (cAI g yhnc 6 yhnf), (cO8_iiri zw 6 3 zwc zwn), (cAI g zwc 18 zwf), (cO5_riiiiiiii nn nr xsnapped xmostSlip2_1 xslip xisDrawn xseed xtick xmotorTick xahead), (cO8_iiri nr 8 10 nrc nrk_3), (cAI g nrc 80 nrg_2), (cO3_vrvvrvvv tl v0tl yhn v2tl v3tl yhm v5tl v6tl v7tl), (cO8_iiri yhm 4 3 yhmc yhmn), (cAI g yhmc 12 yhmf), (cO7_rrrrii nw zr zm zw zp zmd ztr), (cO8_iiri zr 8 3 zrc zrn), (cAI g zrc 24 zrf), (cO8_iiri zm 12 3 zmc zmn), (cAI g zmc 36 zmf), (cO8_iiri zp 8 2 zpc zpn), (cAI g zpc 16 zpf)] rfl ?_
  refine k_aload_n X dX10_wasteByDraws_19 1 rfl ?_
  refine k_get (ci := 10) X inlX10 rfl 4 (by decide) dX10_wasteByDraws_20 mw32 0 rfl rfl ?_
  refine k_iload_n X dX10_wasteByDraws_23 3 rfl ?_
  refine k_callVV (n := 1) (As := [.int p1]) (st := []) X [(cO5_riiiiiiii nn nr xsnapped xmostSlip2_1 xslip xisDrawn xseed xtick xmotorTick xahead)] [(cO10_vrrvrvvvvi h0 v0h0 tl nw v3h0 nn v5h0 v6h0 v7h0 v8h0 tr), (cO8_iiri yhn 1 6 yhnc yhnn), (cAI g yhnc 6 yhnf), (cO8_iiri zw 6 3 zwc zwn), (cAI g zwc 18 zwf), (cO8_iiri nr 8 10 nrc nrk_3), (cAI g nrc 80 nrg_2), (cO3_vrvvrvvv tl v0tl yhn v2tl v3tl yhm v5tl v6tl v7tl), (cO8_iiri yhm 4 3 yhmc yhmn), (cAI g yhmc 12 yhmf), (cO7_rrrrii nw zr zm zw zp zmd ztr), (cO8_iiri zr 8 3 zrc zrn), (cAI g zrc 24 zrf), (cO8_iiri zm 12 3 zmc zmn), (cAI g zmc 36 zmf), (cO8_iiri zp 8 2 zpc zpn), (cAI g zpc 16 zpf)] [5] [0, 1, 2, 3, 4, 6, 7, 8, 9, 10, 11, 12, 13, 14, 15, 16, 17] (n_drawBy l g nn p1 nr xsnapped xmostSlip2_1 xslip xisDrawn xseed xtick xmotorTick xahead) dX10_wasteByDraws_24 mw1412 mw1413 mw1414 mw31 mw1415 rfl 5 rfl rfl 0 _ rfl yk_yX5_drawBy_1 rfl (Nat.le_of_ble_eq_true rfl) (Nat.le_of_ble_eq_true rfl) (Nat.le_of_ble_eq_true rfl) (Nat.le_of_ble_eq_true rfl) (Nat.le_of_ble_eq_true rfl) rfl rfl (by decide +kernel) rfl (by decide +kernel) (by decide +kernel) ?_
  rintro w ⟨xisDrawn2_6, xseed2_7, rfl⟩
  refine k_ws [(cO10_vrrvrvvvvi h0 v0h0 tl nw v3h0 nn v5h0 v6h0 v7h0 v8h0 tr), (cO8_iiri yhn 1 6 yhnc yhnn), (cAI g yhnc 6 yhnf), (cO8_iiri zw 6 3 zwc zwn), (cAI g zwc 18 zwf), (cO8_iiri nr 8 10 nrc nrk_3), (cAI g nrc 80 nrg_2), (cO3_vrvvrvvv tl v0tl yhn v2tl v3tl yhm v5tl v6tl v7tl), (cO8_iiri yhm 4 3 yhmc yhmn), (cAI g yhmc 12 yhmf), (cO7_rrrrii nw zr zm zw zp zmd ztr), (cO8_iiri zr 8 3 zrc zrn), (cAI g zrc 24 zrf), (cO8_iiri zm 12 3 zmc zmn), (cAI g zmc 36 zmf), (cO8_iiri zp 8 2 zpc zpn), (cAI g zpc 16 zpf), (cO5_riiiiiiii nn nr xsnapped xmostSlip2_1 xslip xisDrawn2_6 xseed2_7 xtick xmotorTick xahead)] rfl ?_
  refine k_iconst (v := 0) X dX10_wasteByDraws_27 (by decide) ?_
  refine k_istore [(5, .int 0), (4, .int 0), (0, .ref h0), (1, .int p0), (2, .int p1), (3, .int p2)] X dX10_wasteByDraws_28 (by decide) rfl ?_
  refine (fun hL : ∀ (nn_18 : Nat) (u_10 : Int32) (u_11 : Int32) (uf_12 : Nat → Int32) (u_13 : Int32) (u_14 : Int32) (u_15 : Int32) (u_16 : Int32) (u_17 : Int32), (p2.toInt - u_10.toInt).toNat = nn_18 → Wk p l e _ s m args below meth c _ A g _ _ _ [(cO10_vrrvrvvvvi h0 v0h0 tl nw v3h0 nn v5h0 v6h0 v7h0 v8h0 tr), (cO8_iiri yhn 1 6 yhnc yhnn), (cAI g yhnc 6 yhnf), (cO8_iiri zw 6 3 zwc zwn), (cAI g zwc 18 zwf), (cO8_iiri nr 8 10 nrc nrk_3), (cAI g nrc 80 uf_12), (cO3_vrvvrvvv tl v0tl yhn v2tl v3tl yhm v5tl v6tl v7tl), (cO8_iiri yhm 4 3 yhmc yhmn), (cAI g yhmc 12 yhmf), (cO7_rrrrii nw zr zm zw zp zmd ztr), (cO8_iiri zr 8 3 zrc zrn), (cAI g zrc 24 zrf), (cO8_iiri zm 12 3 zmc zmn), (cAI g zmc 36 zmf), (cO8_iiri zp 8 2 zpc zpn), (cAI g zpc 16 zpf), (cO5_riiiiiiii nn nr u_13 xmostSlip2_1 xslip xisDrawn2_6 u_14 u_15 u_16 u_17)] [(5, .int u_10), (4, .int u_11), (0, .ref h0), (1, .int p0), (2, .int p1), (3, .int p2)] 30 [] => hL _ 0 0 nrg_2 xsnapped xseed2_7 xtick xmotorTick xahead rfl ) ?_
  refine fun nn_18 => Nat.strongRecOn nn_18 (fun nn_18 ih_20 => ?_)
  intro u_10 u_11 uf_12 u_13 u_14 u_15 u_16 u_17 hm_19 
  refine k_iload X dX10_wasteByDraws_30 0 rfl ?_
  refine k_iload_n X dX10_wasteByDraws_32 5 rfl ?_
  refine k_ic_ge 77 X dX10_wasteByDraws_33 (by decide) (fun h_21 => ?_) (fun h_21 => ?_)
  · skip
    refine k_iload X dX10_wasteByDraws_77 1 rfl ?_
    exact k_iret X hr dX10_wasteByDraws_79 (Nat.le_of_ble_eq_true rfl) (Nat.le_of_ble_eq_true rfl) [0, 17, 5, 6, 7, 1, 2, 8, 9, 10, 11, 12, 13, 14, 3, 4, 15, 16] (by decide) rfl rfl ⟨tr, u_13, xmostSlip2_1, xslip, xisDrawn2_6, u_14, u_15, u_16, u_17, uf_12, nrk_3, (by assumption), rfl⟩
  · skip
    refine k_aload_n X dX10_wasteByDraws_36 2 rfl ?_
    refine k_get (ci := 10) X inlX10 rfl 4 (by decide) dX10_wasteByDraws_37 mw32 0 rfl rfl ?_
    refine k_aload_n X dX10_wasteByDraws_40 2 rfl ?_
    refine k_get (ci := 10) X inlX10 rfl 1 (by decide) dX10_wasteByDraws_41 mw20 0 rfl rfl ?_
    refine k_aload_n X dX10_wasteByDraws_44 2 rfl ?_
    refine k_get (ci := 10) X inlX10 rfl 2 (by decide) dX10_wasteByDraws_45 mw24 0 rfl rfl ?_
    refine k_callVV (n := 2) (As := [.ref tl, .ref nw]) (st := []) X [(cO5_riiiiiiii nn nr u_13 xmostSlip2_1 xslip xisDrawn2_6 u_14 u_15 u_16 u_17), (cO8_iiri nr 8 10 nrc nrk_3), (cAI g nrc 80 uf_12), (cO3_vrvvrvvv tl v0tl yhn v2tl v3tl yhm v5tl v6tl v7tl), (cO8_iiri yhn 1 6 yhnc yhnn), (cAI g yhnc 6 yhnf), (cO7_rrrrii nw zr zm zw zp zmd ztr), (cO8_iiri zr 8 3 zrc zrn), (cAI g zrc 24 zrf), (cO8_iiri zp 8 2 zpc zpn), (cAI g zpc 16 zpf), (cO8_iiri zw 6 3 zwc zwn), (cAI g zwc 18 zwf)] [(cO10_vrrvrvvvvi h0 v0h0 tl nw v3h0 nn v5h0 v6h0 v7h0 v8h0 tr), (cO8_iiri yhm 4 3 yhmc yhmn), (cAI g yhmc 12 yhmf), (cO8_iiri zm 12 3 zmc zmn), (cAI g zmc 36 zmf)] [17, 5, 6, 7, 1, 2, 10, 11, 12, 15, 16, 3, 4] [0, 8, 9, 13, 14] (n_run l g nn tl nw nr u_13 xmostSlip2_1 xslip xisDrawn2_6 u_14 u_15 u_16 u_17 nrc nrk_3 uf_12 v0tl yhn v2tl v3tl (.ref yhm) v5tl v6tl v7tl yhnc yhnn yhnf zr (.ref zm) zw zp zmd ztr zrc zrn zrf zpc zpn zpf zwc zwn zwf (by assumption)) dX10_wasteByDraws_48 mw771 mw772 mw773 mw31 mw774 rfl 5 rfl rfl 0 _ rfl yk_yX5_run_2 rfl (Nat.le_of_ble_eq_true rfl) (Nat.le_of_ble_eq_true rfl) (Nat.le_of_ble_eq_true rfl) (Nat.le_of_ble_eq_true rfl) (Nat.le_of_ble_eq_true rfl) rfl rfl (by decide +kernel) rfl (by decide +kernel) (by decide +kernel) ?_
    rintro w ⟨xsnapped2_22, xseed2_23, xtick2_24, xmotorTick2_25, xahead2_26, nrg_27, rfl⟩
    refine k_ws [(cO10_vrrvrvvvvi h0 v0h0 tl nw v3h0 nn v5h0 v6h0 v7h0 v8h0 tr), (cO8_iiri yhm 4 3 yhmc yhmn), (cAI g yhmc 12 yhmf), (cO8_iiri zm 12 3 zmc zmn), (cAI g zmc 36 zmf), (cO5_riiiiiiii nn nr xsnapped2_22 xmostSlip2_1 xslip xisDrawn2_6 xseed2_23 xtick2_24 xmotorTick2_25 xahead2_26), (cO8_iiri nr 8 10 nrc nrk_3), (cAI g nrc 80 nrg_27), (cO3_vrvvrvvv tl v0tl yhn v2tl v3tl yhm v5tl v6tl v7tl), (cO8_iiri yhn 1 6 yhnc yhnn), (cAI g yhnc 6 yhnf), (cO7_rrrrii nw zr zm zw zp zmd ztr), (cO8_iiri zr 8 3 zrc zrn), (cAI g zrc 24 zrf), (cO8_iiri zp 8 2 zpc zpn), (cAI g zpc 16 zpf), (cO8_iiri zw 6 3 zwc zwn), (cAI g zwc 18 zwf)] rfl ?_
    refine k_iload X dX10_wasteByDraws_51 1 rfl ?_
    refine k_aload_n X dX10_wasteByDraws_53 2 rfl ?_
    refine k_get (ci := 10) X inlX10 rfl 4 (by decide) dX10_wasteByDraws_54 mw32 0 rfl rfl ?_
    refine k_callVI (n := 0) (As := []) (st := [.int u_11]) X [(cO5_riiiiiiii nn nr xsnapped2_22 xmostSlip2_1 xslip xisDrawn2_6 xseed2_23 xtick2_24 xmotorTick2_25 xahead2_26), (cO8_iiri nr 8 10 nrc nrk_3), (cAI g nrc 80 nrg_27)] [(cO10_vrrvrvvvvi h0 v0h0 tl nw v3h0 nn v5h0 v6h0 v7h0 v8h0 tr), (cO8_iiri yhm 4 3 yhmc yhmn), (cAI g yhmc 12 yhmf), (cO8_iiri zm 12 3 zmc zmn), (cAI g zmc 36 zmf), (cO3_vrvvrvvv tl v0tl yhn v2tl v3tl yhm v5tl v6tl v7tl), (cO8_iiri yhn 1 6 yhnc yhnn), (cAI g yhnc 6 yhnf), (cO7_rrrrii nw zr zm zw zp zmd ztr), (cO8_iiri zr 8 3 zrc zrn), (cAI g zrc 24 zrf), (cO8_iiri zp 8 2 zpc zpn), (cAI g zpc 16 zpf), (cO8_iiri zw 6 3 zwc zwn), (cAI g zwc 18 zwf)] [5, 6, 7] [0, 1, 2, 3, 4, 8, 9, 10, 11, 12, 13, 14, 15, 16, 17] (n_waste l g nn nr xsnapped2_22 xmostSlip2_1 xslip xisDrawn2_6 xseed2_23 xtick2_24 xmotorTick2_25 xahead2_26 nrc nrk_3 nrg_27) dX10_wasteByDraws_57 mw988 mw989 mw990 mw31 mw991 rfl 5 rfl rfl 0 _ rfl yk_yX5_waste_0 rfl (Nat.le_of_ble_eq_true rfl) (Nat.le_of_ble_eq_true rfl) (Nat.le_of_ble_eq_true rfl) (Nat.le_of_ble_eq_true rfl) (Nat.le_of_ble_eq_true rfl) rfl rfl (by decide +kernel) rfl (by decide +kernel) (by decide +kernel) ?_
    rintro r_30 w rfl
    refine k_ws [(cO10_vrrvrvvvvi h0 v0h0 tl nw v3h0 nn v5h0 v6h0 v7h0 v8h0 tr), (cO8_iiri yhm 4 3 yhmc yhmn), (cAI g yhmc 12 yhmf), (cO8_iiri zm 12 3 zmc zmn), (cAI g zmc 36 zmf), (cO3_vrvvrvvv tl v0tl yhn v2tl v3tl yhm v5tl v6tl v7tl), (cO8_iiri yhn 1 6 yhnc yhnn), (cAI g yhnc 6 yhnf), (cO7_rrrrii nw zr zm zw zp zmd ztr), (cO8_iiri zr 8 3 zrc zrn), (cAI g zrc 24 zrf), (cO8_iiri zp 8 2 zpc zpn), (cAI g zpc 16 zpf), (cO8_iiri zw 6 3 zwc zwn), (cAI g zwc 18 zwf), (cO5_riiiiiiii nn nr xsnapped2_22 xmostSlip2_1 xslip xisDrawn2_6 xseed2_23 xtick2_24 xmotorTick2_25 xahead2_26), (cO8_iiri nr 8 10 nrc nrk_3), (cAI g nrc 80 nrg_27)] rfl ?_
    refine k_aload_n X dX10_wasteByDraws_60 2 rfl ?_
    refine k_get (ci := 10) X inlX10 rfl 4 (by decide) dX10_wasteByDraws_61 mw32 0 rfl rfl ?_
    refine k_get (ci := 5) X inlX5 rfl 1 (by decide) dX10_wasteByDraws_64 mw1411 15 rfl rfl ?_
    refine k_iadd X dX10_wasteByDraws_67 ?_
    refine k_nm (fun z_32 ez_32 => ?_)
    refine k_iadd X dX10_wasteByDraws_68 ?_
    refine k_nm (fun z_33 ez_33 => ?_)
    refine k_istore [(4, .int z_33), (5, .int u_10), (0, .ref h0), (1, .int p0), (2, .int p1), (3, .int p2)] X dX10_wasteByDraws_69 (by decide) rfl ?_
    obtain ⟨z_34, ez_34⟩ : ∃ y : Int32, u_10 + Int32.ofInt 1 = y := ⟨_, rfl⟩
    refine k_iinc z_34 [(5, .int z_34), (4, .int z_33), (0, .ref h0), (1, .int p0), (2, .int p1), (3, .int p2)] 1 X dX10_wasteByDraws_71 rfl ez_34 (by decide) rfl ?_
    refine k_goto 30 X dX10_wasteByDraws_74 (by decide) ?_
    refine k_sub [(cO10_vrrvrvvvvi h0 v0h0 tl nw v3h0 nn v5h0 v6h0 v7h0 v8h0 tr), (cO8_iiri yhn 1 6 yhnc yhnn), (cAI g yhnc 6 yhnf), (cO8_iiri zw 6 3 zwc zwn), (cAI g zwc 18 zwf), (cO8_iiri nr 8 10 nrc nrk_3), (cAI g nrc 80 nrg_27), (cO3_vrvvrvvv tl v0tl yhn v2tl v3tl yhm v5tl v6tl v7tl), (cO8_iiri yhm 4 3 yhmc yhmn), (cAI g yhmc 12 yhmf), (cO7_rrrrii nw zr zm zw zp zmd ztr), (cO8_iiri zr 8 3 zrc zrn), (cAI g zrc 24 zrf), (cO8_iiri zm 12 3 zmc zmn), (cAI g zmc 36 zmf), (cO8_iiri zp 8 2 zpc zpn), (cAI g zpc 16 zpf), (cO5_riiiiiiii nn nr xsnapped2_22 xmostSlip2_1 xslip xisDrawn2_6 xseed2_23 xtick2_24 xmotorTick2_25 xahead2_26)] [0, 6, 7, 13, 14, 16, 17, 5, 1, 2, 8, 9, 10, 3, 4, 11, 12, 15] rfl (by decide) rfl ?_
    exact ih_20 _ (by rw [← hm_19]; exact mu_lt (by assumption) (by assumption)) z_34 z_33 nrg_27 xsnapped2_22 xseed2_23 xtick2_24 xmotorTick2_25 xahead2_26 rfl 

theorem dX10_bestMan_0 : decode cX10_bestMan 0 = .ok (.aload_n 0, 1) := dk_42 rfl
theorem dX10_bestMan_1 : decode cX10_bestMan 1 = .ok (.invokevirtual 184, 3) := dk_182 rfl rfl rfl rfl
theorem dX10_bestMan_4 : decode cX10_bestMan 4 = .ok (.ifCond .ne 9, 3) := dk_154 rfl rfl rfl (by decide)
theorem dX10_bestMan_7 : decode cX10_bestMan 7 = .ok (.aload_n 0, 1) := dk_42 rfl
theorem dX10_bestMan_8 : decode cX10_bestMan 8 = .ok (.iconst 1, 1) := dk_4 rfl
theorem dX10_bestMan_9 : decode cX10_bestMan 9 = .ok (.invokevirtual 83, 3) := dk_182 rfl rfl rfl rfl
theorem dX10_bestMan_12 : decode cX10_bestMan 12 = .ok (.ireturn, 1) := dk_172 rfl
theorem dX10_bestMan_13 : decode cX10_bestMan 13 = .ok (.iload_n 1, 1) := dk_27 rfl
theorem dX10_bestMan_14 : decode cX10_bestMan 14 = .ok (.ifCond .lt 21, 3) := dk_155 rfl rfl rfl (by decide)
theorem dX10_bestMan_17 : decode cX10_bestMan 17 = .ok (.iload_n 1, 1) := dk_27 rfl
theorem dX10_bestMan_18 : decode cX10_bestMan 18 = .ok (.ldc_w 320, 3) := dk_19 rfl rfl rfl rfl
theorem dX10_bestMan_21 : decode cX10_bestMan 21 = .ok (.if_icmp .gt 14, 3) := dk_163 rfl rfl rfl (by decide)
theorem dX10_bestMan_24 : decode cX10_bestMan 24 = .ok (.iload_n 2, 1) := dk_28 rfl
theorem dX10_bestMan_25 : decode cX10_bestMan 25 = .ok (.iconst 1, 1) := dk_4 rfl
theorem dX10_bestMan_26 : decode cX10_bestMan 26 = .ok (.if_icmp .lt 9, 3) := dk_161 rfl rfl rfl (by decide)
theorem dX10_bestMan_29 : decode cX10_bestMan 29 = .ok (.iload_n 2, 1) := dk_28 rfl
theorem dX10_bestMan_30 : decode cX10_bestMan 30 = .ok (.bipush 20, 2) := dk_16 rfl rfl (by decide)
theorem dX10_bestMan_32 : decode cX10_bestMan 32 = .ok (.if_icmp .le 9, 3) := dk_164 rfl rfl rfl (by decide)
theorem dX10_bestMan_35 : decode cX10_bestMan 35 = .ok (.aload_n 0, 1) := dk_42 rfl
theorem dX10_bestMan_36 : decode cX10_bestMan 36 = .ok (.iconst 2, 1) := dk_5 rfl
theorem dX10_bestMan_37 : decode cX10_bestMan 37 = .ok (.invokevirtual 83, 3) := dk_182 rfl rfl rfl rfl
theorem dX10_bestMan_40 : decode cX10_bestMan 40 = .ok (.ireturn, 1) := dk_172 rfl
theorem dX10_bestMan_41 : decode cX10_bestMan 41 = .ok (.iconst 0, 1) := dk_3 rfl
theorem dX10_bestMan_42 : decode cX10_bestMan 42 = .ok (.istore_n 3, 1) := dk_62 rfl
theorem dX10_bestMan_43 : decode cX10_bestMan 43 = .ok (.ldc_w 333, 3) := dk_19 rfl rfl rfl rfl
theorem dX10_bestMan_46 : decode cX10_bestMan 46 = .ok (.istore 4, 2) := dk_54 rfl rfl rfl
theorem dX10_bestMan_48 : decode cX10_bestMan 48 = .ok (.iconst 0, 1) := dk_3 rfl
theorem dX10_bestMan_49 : decode cX10_bestMan 49 = .ok (.istore 5, 2) := dk_54 rfl rfl rfl
theorem dX10_bestMan_51 : decode cX10_bestMan 51 = .ok (.iload 5, 2) := dk_21 rfl rfl rfl
theorem dX10_bestMan_53 : decode cX10_bestMan 53 = .ok (.aload_n 0, 1) := dk_42 rfl
theorem dX10_bestMan_54 : decode cX10_bestMan 54 = .ok (.getfield 19, 3) := dk_180 rfl rfl rfl rfl
theorem dX10_bestMan_57 : decode cX10_bestMan 57 = .ok (.getfield 191, 3) := dk_180 rfl rfl rfl rfl
theorem dX10_bestMan_60 : decode cX10_bestMan 60 = .ok (.getfield 113, 3) := dk_180 rfl rfl rfl rfl
theorem dX10_bestMan_63 : decode cX10_bestMan 63 = .ok (.if_icmp .ge 33, 3) := dk_162 rfl rfl rfl (by decide)
theorem dX10_bestMan_66 : decode cX10_bestMan 66 = .ok (.aload_n 0, 1) := dk_42 rfl
theorem dX10_bestMan_67 : decode cX10_bestMan 67 = .ok (.iload 5, 2) := dk_21 rfl rfl rfl
theorem dX10_bestMan_69 : decode cX10_bestMan 69 = .ok (.iload_n 1, 1) := dk_27 rfl
theorem dX10_bestMan_70 : decode cX10_bestMan 70 = .ok (.iload_n 2, 1) := dk_28 rfl
theorem dX10_bestMan_71 : decode cX10_bestMan 71 = .ok (.invokevirtual 334, 3) := dk_182 rfl rfl rfl rfl
theorem dX10_bestMan_74 : decode cX10_bestMan 74 = .ok (.istore 6, 2) := dk_54 rfl rfl rfl
theorem dX10_bestMan_76 : decode cX10_bestMan 76 = .ok (.iload 6, 2) := dk_21 rfl rfl rfl
theorem dX10_bestMan_78 : decode cX10_bestMan 78 = .ok (.iload 4, 2) := dk_21 rfl rfl rfl
theorem dX10_bestMan_80 : decode cX10_bestMan 80 = .ok (.if_icmp .ge 10, 3) := dk_162 rfl rfl rfl (by decide)
theorem dX10_bestMan_83 : decode cX10_bestMan 83 = .ok (.iload 6, 2) := dk_21 rfl rfl rfl
theorem dX10_bestMan_85 : decode cX10_bestMan 85 = .ok (.istore 4, 2) := dk_54 rfl rfl rfl
theorem dX10_bestMan_87 : decode cX10_bestMan 87 = .ok (.iload 5, 2) := dk_21 rfl rfl rfl
theorem dX10_bestMan_89 : decode cX10_bestMan 89 = .ok (.istore_n 3, 1) := dk_62 rfl
theorem dX10_bestMan_90 : decode cX10_bestMan 90 = .ok (.iinc 5 1, 3) := dk_132 rfl rfl rfl rfl (by decide)
theorem dX10_bestMan_93 : decode cX10_bestMan 93 = .ok (.goto (-42), 3) := dk_167 rfl rfl rfl (by decide)
theorem dX10_bestMan_96 : decode cX10_bestMan 96 = .ok (.aload_n 0, 1) := dk_42 rfl
theorem dX10_bestMan_97 : decode cX10_bestMan 97 = .ok (.iload_n 3, 1) := by decide +kernel
theorem dX10_bestMan_98 : decode cX10_bestMan 98 = .ok (.invokevirtual 118, 3) := by decide +kernel
theorem dX10_bestMan_101 : decode cX10_bestMan 101 = .ok (.ireturn, 1) := by decide +kernel
set_option maxHeartbeats 4000000 in
set_option maxRecDepth 100000 in
theorem c_bestMan (l : Launch) (g : Gx) (h0 : Nat) (p0 : Int32) (p1 : Int32) (v0h0 : Value) (tl : Nat) (nw : Nat) (v3h0 : Value) (nn : Nat) (v5h0 : Value) (v6h0 : Value) (v7h0 : Value) (v8h0 : Value) (tr : Int32) (nr : Nat) (xsnapped : Int32) (xmostSlip : Int32) (xslip : Int32) (xisDrawn : Int32) (xseed : Int32) (xtick : Int32) (xmotorTick : Int32) (xahead : Int32) (nrc : Nat) (nrn : Int32) (nrf : Nat → Int32) (v0tl : Value) (yhn : Nat) (v2tl : Value) (v3tl : Value) (yhm : Nat) (v5tl : Value) (v6tl : Value) (v7tl : Value) (yhnc : Nat) (yhnn : Int32) (yhnf : Nat → Int32) (yhmc : Nat) (yhmn : Int32) (yhmf : Nat → Int32) (zr : Nat) (zm : Nat) (zw : Nat) (zp : Nat) (zmd : Int32) (ztr : Int32) (zrc : Nat) (zrn : Int32) (zrf : Nat → Int32) (zmc : Nat) (zmn : Int32) (zmf : Nat → Int32) (zwc : Nat) (zwn : Int32) (zwf : Nat → Int32) (zpc : Nat) (zpn : Int32) (zpf : Nat → Int32) (hms : ¬ xmostSlip < 0) : cI l g yX10_bestMan cX10_bestMan 7 (some .int) 5 122 0 0 [.ref h0, .int p0, .int p1] [(cO10_vrrvrvvvvi h0 v0h0 tl nw v3h0 nn v5h0 v6h0 v7h0 v8h0 tr), (cO5_riiiiiiii nn nr xsnapped xmostSlip xslip xisDrawn xseed xtick xmotorTick xahead), (cO8_iiri nr 8 10 nrc nrn), (cAI g nrc 80 nrf), (cO3_vrvvrvvv tl v0tl yhn v2tl v3tl yhm v5tl v6tl v7tl), (cO8_iiri yhn 1 6 yhnc yhnn), (cAI g yhnc 6 yhnf), (cO8_iiri yhm 4 3 yhmc yhmn), (cAI g yhmc 12 yhmf), (cO7_rrrrii nw zr zm zw zp zmd ztr), (cO8_iiri zr 8 3 zrc zrn), (cAI g zrc 24 zrf), (cO8_iiri zm 12 3 zmc zmn), (cAI g zmc 36 zmf), (cO8_iiri zw 6 3 zwc zwn), (cAI g zwc 18 zwf), (cO8_iiri zp 8 2 zpc zpn), (cAI g zpc 16 zpf)] (fun r w => ∃ (tr2 : Int32) (xsnapped2 : Int32) (xmostSlip2 : Int32) (xslip2 : Int32) (xisDrawn2 : Int32) (xseed2 : Int32) (xtick2 : Int32) (xmotorTick2 : Int32) (xahead2 : Int32) (nrg : Nat → Int32) (nrk : Int32), (¬ xmostSlip2 < 0) ∧ w = [(cO10_vrrvrvvvvi h0 v0h0 tl nw v3h0 nn v5h0 v6h0 v7h0 v8h0 tr2), (cO5_riiiiiiii nn nr xsnapped2 xmostSlip2 xslip2 xisDrawn2 xseed2 xtick2 xmotorTick2 xahead2), (cO8_iiri nr 8 10 nrc nrk), (cAI g nrc 80 nrg), (cO3_vrvvrvvv tl v0tl yhn v2tl v3tl yhm v5tl v6tl v7tl), (cO8_iiri yhn 1 6 yhnc yhnn), (cAI g yhnc 6 yhnf), (cO8_iiri yhm 4 3 yhmc yhmn), (cAI g yhmc 12 yhmf), (cO7_rrrrii nw zr zm zw zp zmd ztr), (cO8_iiri zr 8 3 zrc zrn), (cAI g zrc 24 zrf), (cO8_iiri zm 12 3 zmc zmn), (cAI g zmc 36 zmf), (cO8_iiri zw 6 3 zwc zwn), (cAI g zwc 18 zwf), (cO8_iiri zp 8 2 zpc zpn), (cAI g zpc 16 zpf)]) := by
  refine cI.of (by decide) (Nat.le_of_ble_eq_true rfl) ?_
  intro p e s m args below meth c A X hr hi
  refine k_lveq [(0, .ref h0), (1, .int p0), (2, .int p1)] rfl ?_
  refine k_aload_n X dX10_bestMan_0 0 rfl ?_
  refine k_callVI (n := 0) (As := []) (st := []) X [(cO10_vrrvrvvvvi h0 v0h0 tl nw v3h0 nn v5h0 v6h0 v7h0 v8h0 tr), (cO7_rrrrii nw zr zm zw zp zmd ztr), (cO8_iiri zp 8 2 zpc zpn), (cAI g zpc 16 zpf)] [(cO5_riiiiiiii nn nr xsnapped xmostSlip xslip xisDrawn xseed xtick xmotorTick xahead), (cO8_iiri nr 8 10 nrc nrn), (cAI g nrc 80 nrf), (cO3_vrvvrvvv tl v0tl yhn v2tl v3tl yhm v5tl v6tl v7tl), (cO8_iiri yhn 1 6 yhnc yhnn), (cAI g yhnc 6 yhnf), (cO8_iiri yhm 4 3 yhmc yhmn), (cAI g yhmc 12 yhmf), (cO8_iiri zr 8 3 zrc zrn), (cAI g zrc 24 zrf), (cO8_iiri zm 12 3 zmc zmn), (cAI g zmc 36 zmf), (cO8_iiri zw 6 3 zwc zwn), (cAI g zwc 18 zwf)] [0, 9, 16, 17] [1, 2, 3, 4, 5, 6, 7, 8, 10, 11, 12, 13, 14, 15] (c_isOpen l g h0 v0h0 (.ref tl) nw v3h0 (.ref nn) v5h0 v6h0 v7h0 v8h0 tr (.ref zr) (.ref zm) (.ref zw) zp zmd ztr zpc zpn zpf) dX10_bestMan_1 mw971 mw972 mw973 mw2 mw974 rfl 10 rfl rfl 0 _ rfl yk_yX10_isOpen_0 rfl (Nat.le_of_ble_eq_true rfl) (Nat.le_of_ble_eq_true rfl) (Nat.le_of_ble_eq_true rfl) (Nat.le_of_ble_eq_true rfl) (Nat.le_of_ble_eq_true rfl) rfl rfl (by decide +kernel) rfl (by decide +kernel) (by decide +kernel) ?_
  rintro r_2 w ⟨tr2_1, rfl⟩
  refine k_ws [(cO5_riiiiiiii nn nr xsnapped xmostSlip xslip xisDrawn xseed xtick xmotorTick xahead), (cO8_iiri nr 8 10 nrc nrn), (cAI g nrc 80 nrf), (cO3_vrvvrvvv tl v0tl yhn v2tl v3tl yhm v5tl v6tl v7tl), (cO8_iiri yhn 1 6 yhnc yhnn), (cAI g yhnc 6 yhnf), (cO8_iiri yhm 4 3 yhmc yhmn), (cAI g yhmc 12 yhmf), (cO8_iiri zr 8 3 zrc zrn), (cAI g zrc 24 zrf), (cO8_iiri zm 12 3 zmc zmn), (cAI g zmc 36 zmf), (cO8_iiri zw 6 3 zwc zwn), (cAI g zwc 18 zwf), (cO10_vrrvrvvvvi h0 v0h0 tl nw v3h0 nn v5h0 v6h0 v7h0 v8h0 tr2_1), (cO7_rrrrii nw zr zm zw zp zmd ztr), (cO8_iiri zp 8 2 zpc zpn), (cAI g zpc 16 zpf)] rfl ?_
  refine k_if_ne 13 X dX10_bestMan_4 (by decide) (fun h_4 => ?_) (fun h_4 => ?_)
  · skip
    refine k_iload_n X dX10_bestMan_13 1 rfl ?_
    refine k_if_lt 35 X dX10_bestMan_14 (by decide) (fun h_5 => ?_) (fun h_5 => ?_)
    · skip
      refine k_aload_n X dX10_bestMan_35 0 rfl ?_
      refine k_iconst (v := 2) X dX10_bestMan_36 (by decide) ?_
      refine k_callVI (n := 1) (As := [.int 2]) (st := []) X [(cO10_vrrvrvvvvi h0 v0h0 tl nw v3h0 nn v5h0 v6h0 v7h0 v8h0 tr2_1)] [(cO5_riiiiiiii nn nr xsnapped xmostSlip xslip xisDrawn xseed xtick xmotorTick xahead), (cO8_iiri nr 8 10 nrc nrn), (cAI g nrc 80 nrf), (cO3_vrvvrvvv tl v0tl yhn v2tl v3tl yhm v5tl v6tl v7tl), (cO8_iiri yhn 1 6 yhnc yhnn), (cAI g yhnc 6 yhnf), (cO8_iiri yhm 4 3 yhmc yhmn), (cAI g yhmc 12 yhmf), (cO8_iiri zr 8 3 zrc zrn), (cAI g zrc 24 zrf), (cO8_iiri zm 12 3 zmc zmn), (cAI g zmc 36 zmf), (cO8_iiri zw 6 3 zwc zwn), (cAI g zwc 18 zwf), (cO7_rrrrii nw zr zm zw zp zmd ztr), (cO8_iiri zp 8 2 zpc zpn), (cAI g zpc 16 zpf)] [14] [0, 1, 2, 3, 4, 5, 6, 7, 8, 9, 10, 11, 12, 13, 15, 16, 17] (c_refuse l g h0 2 v0h0 (.ref tl) (.ref nw) v3h0 (.ref nn) v5h0 v6h0 v7h0 v8h0 tr2_1) dX10_bestMan_37 mw215 mw216 mw217 mw2 mw218 rfl 10 rfl rfl 0 _ rfl yk_yX10_refuse_1 rfl (Nat.le_of_ble_eq_true rfl) (Nat.le_of_ble_eq_true rfl) (Nat.le_of_ble_eq_true rfl) (Nat.le_of_ble_eq_true rfl) (Nat.le_of_ble_eq_true rfl) rfl rfl (by decide +kernel) rfl (by decide +kernel) (by decide +kernel) ?_
      rintro r_7 w ⟨tr2_6, rfl⟩
      refine k_ws [(cO5_riiiiiiii nn nr xsnapped xmostSlip xslip xisDrawn xseed xtick xmotorTick xahead), (cO8_iiri nr 8 10 nrc nrn), (cAI g nrc 80 nrf), (cO3_vrvvrvvv tl v0tl yhn v2tl v3tl yhm v5tl v6tl v7tl), (cO8_iiri yhn 1 6 yhnc yhnn), (cAI g yhnc 6 yhnf), (cO8_iiri yhm 4 3 yhmc yhmn), (cAI g yhmc 12 yhmf), (cO8_iiri zr 8 3 zrc zrn), (cAI g zrc 24 zrf), (cO8_iiri zm 12 3 zmc zmn), (cAI g zmc 36 zmf), (cO8_iiri zw 6 3 zwc zwn), (cAI g zwc 18 zwf), (cO7_rrrrii nw zr zm zw zp zmd ztr), (cO8_iiri zp 8 2 zpc zpn), (cAI g zpc 16 zpf), (cO10_vrrvrvvvvi h0 v0h0 tl nw v3h0 nn v5h0 v6h0 v7h0 v8h0 tr2_6)] rfl ?_
      exact k_iret X hr dX10_bestMan_40 (Nat.le_of_ble_eq_true rfl) (Nat.le_of_ble_eq_true rfl) [17, 0, 1, 2, 3, 4, 5, 6, 7, 14, 8, 9, 10, 11, 12, 13, 15, 16] (by decide) rfl rfl ⟨tr2_6, xsnapped, xmostSlip, xslip, xisDrawn, xseed, xtick, xmotorTick, xahead, nrf, nrn, (by assumption), rfl⟩
    · skip
      refine k_iload_n X dX10_bestMan_17 1 rfl ?_
      refine k_ldcw (v := 65536) X dX10_bestMan_18 mw1410 ?_
      refine k_ic_gt 35 X dX10_bestMan_21 (by decide) (fun h_9 => ?_) (fun h_9 => ?_)
      · skip
        refine k_aload_n X dX10_bestMan_35 0 rfl ?_
        refine k_iconst (v := 2) X dX10_bestMan_36 (by decide) ?_
        refine k_callVI (n := 1) (As := [.int 2]) (st := []) X [(cO10_vrrvrvvvvi h0 v0h0 tl nw v3h0 nn v5h0 v6h0 v7h0 v8h0 tr2_1)] [(cO5_riiiiiiii nn nr xsnapped xmostSlip xslip xisDrawn xseed xtick xmotorTick xahead), (cO8_iiri nr 8 10 nrc nrn), (cAI g nrc 80 nrf), (cO3_vrvvrvvv tl v0tl yhn v2tl v3tl yhm v5tl v6tl v7tl), (cO8_iiri yhn 1 6 yhnc yhnn), (cAI g yhnc 6 yhnf), (cO8_iiri yhm 4 3 yhmc yhmn), (cAI g yhmc 12 yhmf), (cO8_iiri zr 8 3 zrc zrn), (cAI g zrc 24 zrf), (cO8_iiri zm 12 3 zmc zmn), (cAI g zmc 36 zmf), (cO8_iiri zw 6 3 zwc zwn), (cAI g zwc 18 zwf), (cO7_rrrrii nw zr zm zw zp zmd ztr), (cO8_iiri zp 8 2 zpc zpn), (cAI g zpc 16 zpf)] [14] [0, 1, 2, 3, 4, 5, 6, 7, 8, 9, 10, 11, 12, 13, 15, 16, 17] (c_refuse l g h0 2 v0h0 (.ref tl) (.ref nw) v3h0 (.ref nn) v5h0 v6h0 v7h0 v8h0 tr2_1) dX10_bestMan_37 mw215 mw216 mw217 mw2 mw218 rfl 10 rfl rfl 0 _ rfl yk_yX10_refuse_1 rfl (Nat.le_of_ble_eq_true rfl) (Nat.le_of_ble_eq_true rfl) (Nat.le_of_ble_eq_true rfl) (Nat.le_of_ble_eq_true rfl) (Nat.le_of_ble_eq_true rfl) rfl rfl (by decide +kernel) rfl (by decide +kernel) (by decide +kernel) ?_
        rintro r_11 w ⟨tr2_10, rfl⟩
        refine k_ws [(cO5_riiiiiiii nn nr xsnapped xmostSlip xslip xisDrawn xseed xtick xmotorTick xahead), (cO8_iiri nr 8 10 nrc nrn), (cAI g nrc 80 nrf), (cO3_vrvvrvvv tl v0tl yhn v2tl v3tl yhm v5tl v6tl v7tl), (cO8_iiri yhn 1 6 yhnc yhnn), (cAI g yhnc 6 yhnf), (cO8_iiri yhm 4 3 yhmc yhmn), (cAI g yhmc 12 yhmf), (cO8_iiri zr 8 3 zrc zrn), (cAI g zrc 24 zrf), (cO8_iiri zm 12 3 zmc zmn), (cAI g zmc 36 zmf), (cO8_iiri zw 6 3 zwc zwn), (cAI g zwc 18 zwf), (cO7_rrrrii nw zr zm zw zp zmd ztr), (cO8_iiri zp 8 2 zpc zpn), (cAI g zpc 16 zpf), (cO10_vrrvrvvvvi h0 v0h0 tl nw v3h0 nn v5h0 v6h0 v7h0 v8h0 tr2_10)] rfl ?_
        exact k_iret X hr dX10_bestMan_40 (Nat.le_of_ble_eq_true rfl) (Nat.le_of_ble_eq_true rfl) [17, 0, 1, 2, 3, 4, 5, 6, 7, 14, 8, 9, 10, 11, 12, 13, 15, 16] (by decide) rfl rfl ⟨tr2_10, xsnapped, xmostSlip, xslip, xisDrawn, xseed, xtick, xmotorTick, xahead, nrf, nrn, (by assumption), rfl⟩
      · skip
        refine k_iload_n X dX10_bestMan_24 2 rfl ?_
        refine k_iconst (v := 1) X dX10_bestMan_25 (by decide) ?_
        refine k_ic_lt 35 X dX10_bestMan_26 (by decide) (fun h_13 => ?_) (fun h_13 => ?_)
        · skip
          refine k_aload_n X dX10_bestMan_35 0 rfl ?_
          refine k_iconst (v := 2) X dX10_bestMan_36 (by decide) ?_
          refine k_callVI (n := 1) (As := [.int 2]) (st := []) X [(cO10_vrrvrvvvvi h0 v0h0 tl nw v3h0 nn v5h0 v6h0 v7h0 v8h0 tr2_1)] [(cO5_riiiiiiii nn nr xsnapped xmostSlip xslip xisDrawn xseed xtick xmotorTick xahead), (cO8_iiri nr 8 10 nrc nrn), (cAI g nrc 80 nrf), (cO3_vrvvrvvv tl v0tl yhn v2tl v3tl yhm v5tl v6tl v7tl), (cO8_iiri yhn 1 6 yhnc yhnn), (cAI g yhnc 6 yhnf), (cO8_iiri yhm 4 3 yhmc yhmn), (cAI g yhmc 12 yhmf), (cO8_iiri zr 8 3 zrc zrn), (cAI g zrc 24 zrf), (cO8_iiri zm 12 3 zmc zmn), (cAI g zmc 36 zmf), (cO8_iiri zw 6 3 zwc zwn), (cAI g zwc 18 zwf), (cO7_rrrrii nw zr zm zw zp zmd ztr), (cO8_iiri zp 8 2 zpc zpn), (cAI g zpc 16 zpf)] [14] [0, 1, 2, 3, 4, 5, 6, 7, 8, 9, 10, 11, 12, 13, 15, 16, 17] (c_refuse l g h0 2 v0h0 (.ref tl) (.ref nw) v3h0 (.ref nn) v5h0 v6h0 v7h0 v8h0 tr2_1) dX10_bestMan_37 mw215 mw216 mw217 mw2 mw218 rfl 10 rfl rfl 0 _ rfl yk_yX10_refuse_1 rfl (Nat.le_of_ble_eq_true rfl) (Nat.le_of_ble_eq_true rfl) (Nat.le_of_ble_eq_true rfl) (Nat.le_of_ble_eq_true rfl) (Nat.le_of_ble_eq_true rfl) rfl rfl (by decide +kernel) rfl (by decide +kernel) (by decide +kernel) ?_
          rintro r_15 w ⟨tr2_14, rfl⟩
          refine k_ws [(cO5_riiiiiiii nn nr xsnapped xmostSlip xslip xisDrawn xseed xtick xmotorTick xahead), (cO8_iiri nr 8 10 nrc nrn), (cAI g nrc 80 nrf), (cO3_vrvvrvvv tl v0tl yhn v2tl v3tl yhm v5tl v6tl v7tl), (cO8_iiri yhn 1 6 yhnc yhnn), (cAI g yhnc 6 yhnf), (cO8_iiri yhm 4 3 yhmc yhmn), (cAI g yhmc 12 yhmf), (cO8_iiri zr 8 3 zrc zrn), (cAI g zrc 24 zrf), (cO8_iiri zm 12 3 zmc zmn), (cAI g zmc 36 zmf), (cO8_iiri zw 6 3 zwc zwn), (cAI g zwc 18 zwf), (cO7_rrrrii nw zr zm zw zp zmd ztr), (cO8_iiri zp 8 2 zpc zpn), (cAI g zpc 16 zpf), (cO10_vrrvrvvvvi h0 v0h0 tl nw v3h0 nn v5h0 v6h0 v7h0 v8h0 tr2_14)] rfl ?_
          exact k_iret X hr dX10_bestMan_40 (Nat.le_of_ble_eq_true rfl) (Nat.le_of_ble_eq_true rfl) [17, 0, 1, 2, 3, 4, 5, 6, 7, 14, 8, 9, 10, 11, 12, 13, 15, 16] (by decide) rfl rfl ⟨tr2_14, xsnapped, xmostSlip, xslip, xisDrawn, xseed, xtick, xmotorTick, xahead, nrf, nrn, (by assumption), rfl⟩
        · skip
          refine k_iload_n X dX10_bestMan_29 2 rfl ?_
          refine k_bipush (v := 20) X dX10_bestMan_30 (by decide) ?_
          refine k_ic_le 41 X dX10_bestMan_32 (by decide) (fun h_17 => ?_) (fun h_17 => ?_)
          · skip
            refine k_iconst (v := 0) X dX10_bestMan_41 (by decide) ?_
            refine k_istore_n [(3, .int 0), (0, .ref h0), (1, .int p0), (2, .int p1)] X dX10_bestMan_42 (by decide) rfl ?_
            refine k_ldcw (v := 2147483647) X dX10_bestMan_43 mw987 ?_
            refine k_istore [(4, .int 2147483647), (3, .int 0), (0, .ref h0), (1, .int p0), (2, .int p1)] X dX10_bestMan_46 (by decide) rfl ?_
            refine k_iconst (v := 0) X dX10_bestMan_48 (by decide) ?_
            refine k_istore [(5, .int 0), (4, .int 2147483647), (3, .int 0), (0, .ref h0), (1, .int p0), (2, .int p1)] X dX10_bestMan_49 (by decide) rfl ?_
            refine (fun hL : ∀ (nn_33 : Nat) (u_18 : Int32) (u_19 : Int32) (u_20 : Int32) (uf_21 : Nat → Int32) (u_22 : Int32) (u_23 : Int32) (u_24 : Int32) (u_25 : Int32) (u_26 : Int32) (u_27 : Int32) (u_28 : Int32) (u_29 : Int32) (u_30 : Int32) (u_31 : Int32), (yhmn.toInt - u_18.toInt).toNat = nn_33 → (¬ u_24 < 0) → Wk p l e _ s m args below meth c _ A g _ _ _ [(cO5_riiiiiiii nn nr u_23 u_24 u_25 u_26 u_27 u_28 u_29 u_30), (cO8_iiri nr 8 10 nrc u_31), (cAI g nrc 80 uf_21), (cO3_vrvvrvvv tl v0tl yhn v2tl v3tl yhm v5tl v6tl v7tl), (cO8_iiri yhn 1 6 yhnc yhnn), (cAI g yhnc 6 yhnf), (cO8_iiri yhm 4 3 yhmc yhmn), (cAI g yhmc 12 yhmf), (cO8_iiri zr 8 3 zrc zrn), (cAI g zrc 24 zrf), (cO8_iiri zm 12 3 zmc zmn), (cAI g zmc 36 zmf), (cO8_iiri zw 6 3 zwc zwn), (cAI g zwc 18 zwf), (cO10_vrrvrvvvvi h0 v0h0 tl nw v3h0 nn v5h0 v6h0 v7h0 v8h0 u_22), (cO7_rrrrii nw zr zm zw zp zmd ztr), (cO8_iiri zp 8 2 zpc zpn), (cAI g zpc 16 zpf)] [(5, .int u_18), (4, .int u_19), (3, .int u_20), (0, .ref h0), (1, .int p0), (2, .int p1)] 51 [] => hL _ 0 2147483647 0 nrf tr2_1 xsnapped xmostSlip xslip xisDrawn xseed xtick xmotorTick xahead nrn rfl (by assumption)) ?_
            refine fun nn_33 => Nat.strongRecOn nn_33 (fun nn_33 ih_35 => ?_)
            intro u_18 u_19 u_20 uf_21 u_22 u_23 u_24 u_25 u_26 u_27 u_28 u_29 u_30 u_31 hm_34 hp_32
            refine k_iload X dX10_bestMan_51 0 rfl ?_
            refine k_aload_n X dX10_bestMan_53 3 rfl ?_
            refine k_get (ci := 10) X inlX10 rfl 1 (by decide) dX10_bestMan_54 mw20 14 rfl rfl ?_
            refine k_get (ci := 3) X inlX3 rfl 4 (by decide) dX10_bestMan_57 mw748 3 rfl rfl ?_
            refine k_get (ci := 8) X inlX8 rfl 3 (by decide) dX10_bestMan_60 mw214 6 rfl rfl ?_
            refine k_ic_ge 96 X dX10_bestMan_63 (by decide) (fun h_36 => ?_) (fun h_36 => ?_)
            · skip
              refine k_aload_n X dX10_bestMan_96 3 rfl ?_
              refine k_iload_n X dX10_bestMan_97 2 rfl ?_
              refine k_callVI (n := 1) (As := [.int u_20]) (st := []) X [(cO10_vrrvrvvvvi h0 v0h0 tl nw v3h0 nn v5h0 v6h0 v7h0 v8h0 u_22)] [(cO5_riiiiiiii nn nr u_23 u_24 u_25 u_26 u_27 u_28 u_29 u_30), (cO8_iiri nr 8 10 nrc u_31), (cAI g nrc 80 uf_21), (cO3_vrvvrvvv tl v0tl yhn v2tl v3tl yhm v5tl v6tl v7tl), (cO8_iiri yhn 1 6 yhnc yhnn), (cAI g yhnc 6 yhnf), (cO8_iiri yhm 4 3 yhmc yhmn), (cAI g yhmc 12 yhmf), (cO8_iiri zr 8 3 zrc zrn), (cAI g zrc 24 zrf), (cO8_iiri zm 12 3 zmc zmn), (cAI g zmc 36 zmf), (cO8_iiri zw 6 3 zwc zwn), (cAI g zwc 18 zwf), (cO7_rrrrii nw zr zm zw zp zmd ztr), (cO8_iiri zp 8 2 zpc zpn), (cAI g zpc 16 zpf)] [14] [0, 1, 2, 3, 4, 5, 6, 7, 8, 9, 10, 11, 12, 13, 15, 16, 17] (c_tell l g h0 u_20 v0h0 (.ref tl) (.ref nw) v3h0 (.ref nn) v5h0 v6h0 v7h0 v8h0 u_22) dX10_bestMan_98 mw460 mw461 mw462 mw2 mw463 rfl 10 rfl rfl 0 _ rfl yk_yX10_tell_1 rfl (Nat.le_of_ble_eq_true rfl) (Nat.le_of_ble_eq_true rfl) (Nat.le_of_ble_eq_true rfl) (Nat.le_of_ble_eq_true rfl) (Nat.le_of_ble_eq_true rfl) rfl rfl (by decide +kernel) rfl (by decide +kernel) (by decide +kernel) ?_
              rintro r_38 w ⟨tr2_37, rfl⟩
              refine k_ws [(cO5_riiiiiiii nn nr u_23 u_24 u_25 u_26 u_27 u_28 u_29 u_30), (cO8_iiri nr 8 10 nrc u_31), (cAI g nrc 80 uf_21), (cO3_vrvvrvvv tl v0tl yhn v2tl v3tl yhm v5tl v6tl v7tl), (cO8_iiri yhn 1 6 yhnc yhnn), (cAI g yhnc 6 yhnf), (cO8_iiri yhm 4 3 yhmc yhmn), (cAI g yhmc 12 yhmf), (cO8_iiri zr 8 3 zrc zrn), (cAI g zrc 24 zrf), (cO8_iiri zm 12 3 zmc zmn), (cAI g zmc 36 zmf), (cO8_iiri zw 6 3 zwc zwn), (cAI g zwc 18 zwf), (cO7_rrrrii nw zr zm zw zp zmd ztr), (cO8_iiri zp 8 2 zpc zpn), (cAI g zpc 16 zpf), (cO10_vrrvrvvvvi h0 v0h0 tl nw v3h0 nn v5h0 v6h0 v7h0 v8h0 tr2_37)] rfl ?_
              exact k_iret X hr dX10_bestMan_101 (Nat.le_of_ble_eq_true rfl) (Nat.le_of_ble_eq_true rfl) [17, 0, 1, 2, 3, 4, 5, 6, 7, 14, 8, 9, 10, 11, 12, 13, 15, 16] (by decide) rfl rfl ⟨tr2_37, u_23, u_24, u_25, u_26, u_27, u_28, u_29, u_30, uf_21, u_31, (by assumption), rfl⟩
            · skip
              refine k_aload_n X dX10_bestMan_66 3 rfl ?_
              refine k_iload X dX10_bestMan_67 0 rfl ?_
              refine k_iload_n X dX10_bestMan_69 4 rfl ?_
              refine k_iload_n X dX10_bestMan_70 5 rfl ?_
              refine k_callVI (n := 3) (As := [.int u_18, .int p0, .int p1]) (st := []) X [(cO10_vrrvrvvvvi h0 v0h0 tl nw v3h0 nn v5h0 v6h0 v7h0 v8h0 u_22), (cO5_riiiiiiii nn nr u_23 u_24 u_25 u_26 u_27 u_28 u_29 u_30), (cO8_iiri nr 8 10 nrc u_31), (cAI g nrc 80 uf_21), (cO3_vrvvrvvv tl v0tl yhn v2tl v3tl yhm v5tl v6tl v7tl), (cO8_iiri yhn 1 6 yhnc yhnn), (cAI g yhnc 6 yhnf), (cO8_iiri yhm 4 3 yhmc yhmn), (cAI g yhmc 12 yhmf), (cO7_rrrrii nw zr zm zw zp zmd ztr), (cO8_iiri zr 8 3 zrc zrn), (cAI g zrc 24 zrf), (cO8_iiri zm 12 3 zmc zmn), (cAI g zmc 36 zmf), (cO8_iiri zw 6 3 zwc zwn), (cAI g zwc 18 zwf), (cO8_iiri zp 8 2 zpc zpn), (cAI g zpc 16 zpf)] [] [14, 0, 1, 2, 3, 4, 5, 6, 7, 15, 8, 9, 10, 11, 12, 13, 16, 17] [] (c_wasteByDraws l g h0 u_18 p0 p1 v0h0 tl nw v3h0 nn v5h0 v6h0 v7h0 v8h0 u_22 nr u_23 u_24 u_25 u_26 u_27 u_28 u_29 u_30 nrc u_31 uf_21 v0tl yhn v2tl v3tl yhm v5tl v6tl v7tl yhnc yhnn yhnf yhmc yhmn yhmf zr zm zw zp zmd ztr zrc zrn zrf zmc zmn zmf zwc zwn zwf zpc zpn zpf (by assumption)) dX10_bestMan_71 mw1436 mw1437 mw1438 mw2 mw1439 rfl 10 rfl rfl 0 _ rfl yk_yX10_wasteByDraws_3 rfl (Nat.le_of_ble_eq_true rfl) (Nat.le_of_ble_eq_true rfl) (Nat.le_of_ble_eq_true rfl) (Nat.le_of_ble_eq_true rfl) (Nat.le_of_ble_eq_true rfl) rfl rfl (by decide +kernel) rfl (by decide +kernel) (by decide +kernel) ?_
              intro r_51 w zq
              refine exE11 zq ?_
              clear zq
              intro tr2_40 xsnapped2_41 xmostSlip2_42 xslip2_43 xisDrawn2_44 xseed2_45 xtick2_46 xmotorTick2_47 xahead2_48 nrg_49 nrk_50 hr_52 zq
              subst zq
              refine k_ws [(cO10_vrrvrvvvvi h0 v0h0 tl nw v3h0 nn v5h0 v6h0 v7h0 v8h0 tr2_40), (cO5_riiiiiiii nn nr xsnapped2_41 xmostSlip2_42 xslip2_43 xisDrawn2_44 xseed2_45 xtick2_46 xmotorTick2_47 xahead2_48), (cO8_iiri nr 8 10 nrc nrk_50), (cAI g nrc 80 nrg_49), (cO3_vrvvrvvv tl v0tl yhn v2tl v3tl yhm v5tl v6tl v7tl), (cO8_iiri yhn 1 6 yhnc yhnn), (cAI g yhnc 6 yhnf), (cO8_iiri yhm 4 3 yhmc yhmn), (cAI g yhmc 12 yhmf), (cO7_rrrrii nw zr zm zw zp zmd ztr), (cO8_iiri zr 8 3 zrc zrn), (cAI g zrc 24 zrf), (cO8_iiri zm 12 3 zmc zmn), (cAI g zmc 36 zmf), (cO8_iiri zw 6 3 zwc zwn), (cAI g zwc 18 zwf), (cO8_iiri zp 8 2 zpc zpn), (cAI g zpc 16 zpf)] rfl ?_
              refine k_istore [(6, .int r_51), (5, .int u_18), (4, .int u_19), (3, .int u_20), (0, .ref h0), (1, .int p0), (2, .int p1)] X dX10_bestMan_74 (by decide) rfl ?_
              refine k_iload X dX10_bestMan_76 0 rfl ?_
              refine k_iload X dX10_bestMan_78 2 rfl ?_
              refine k_ic_ge 90 X dX10_bestMan_80 (by decide) (fun h_53 => ?_) (fun h_53 => ?_)
              · skip
                obtain ⟨z_54, ez_54⟩ : ∃ y : Int32, u_18 + Int32.ofInt 1 = y := ⟨_, rfl⟩
                refine k_iinc z_54 [(5, .int z_54), (6, .int r_51), (4, .int u_19), (3, .int u_20), (0, .ref h0), (1, .int p0), (2, .int p1)] 1 X dX10_bestMan_90 rfl ez_54 (by decide) rfl ?_
                refine k_goto 51 X dX10_bestMan_93 (by decide) ?_
                refine k_lv [(5, .int z_54), (4, .int u_19), (3, .int u_20), (0, .ref h0), (1, .int p0), (2, .int p1)] [0, 2, 3, 4, 5, 6] rfl ?_
                refine k_sub [(cO5_riiiiiiii nn nr xsnapped2_41 xmostSlip2_42 xslip2_43 xisDrawn2_44 xseed2_45 xtick2_46 xmotorTick2_47 xahead2_48), (cO8_iiri nr 8 10 nrc nrk_50), (cAI g nrc 80 nrg_49), (cO3_vrvvrvvv tl v0tl yhn v2tl v3tl yhm v5tl v6tl v7tl), (cO8_iiri yhn 1 6 yhnc yhnn), (cAI g yhnc 6 yhnf), (cO8_iiri yhm 4 3 yhmc yhmn), (cAI g yhmc 12 yhmf), (cO8_iiri zr 8 3 zrc zrn), (cAI g zrc 24 zrf), (cO8_iiri zm 12 3 zmc zmn), (cAI g zmc 36 zmf), (cO8_iiri zw 6 3 zwc zwn), (cAI g zwc 18 zwf), (cO10_vrrvrvvvvi h0 v0h0 tl nw v3h0 nn v5h0 v6h0 v7h0 v8h0 tr2_40), (cO7_rrrrii nw zr zm zw zp zmd ztr), (cO8_iiri zp 8 2 zpc zpn), (cAI g zpc 16 zpf)] [1, 2, 3, 4, 5, 6, 7, 8, 10, 11, 12, 13, 14, 15, 0, 9, 16, 17] rfl (by decide) rfl ?_
                exact ih_35 _ (by rw [← hm_34]; exact mu_lt (by assumption) (by assumption)) z_54 u_19 u_20 nrg_49 tr2_40 xsnapped2_41 xmostSlip2_42 xslip2_43 xisDrawn2_44 xseed2_45 xtick2_46 xmotorTick2_47 xahead2_48 nrk_50 rfl (by assumption)
              · skip
                refine k_iload X dX10_bestMan_83 0 rfl ?_
                refine k_istore [(4, .int r_51), (6, .int r_51), (5, .int u_18), (3, .int u_20), (0, .ref h0), (1, .int p0), (2, .int p1)] X dX10_bestMan_85 (by decide) rfl ?_
                refine k_iload X dX10_bestMan_87 2 rfl ?_
                refine k_istore_n [(3, .int u_18), (4, .int r_51), (6, .int r_51), (5, .int u_18), (0, .ref h0), (1, .int p0), (2, .int p1)] X dX10_bestMan_89 (by decide) rfl ?_
                obtain ⟨z_55, ez_55⟩ : ∃ y : Int32, u_18 + Int32.ofInt 1 = y := ⟨_, rfl⟩
                refine k_iinc z_55 [(5, .int z_55), (3, .int u_18), (4, .int r_51), (6, .int r_51), (0, .ref h0), (1, .int p0), (2, .int p1)] 3 X dX10_bestMan_90 rfl ez_55 (by decide) rfl ?_
                refine k_goto 51 X dX10_bestMan_93 (by decide) ?_
                refine k_lv [(5, .int z_55), (4, .int r_51), (3, .int u_18), (0, .ref h0), (1, .int p0), (2, .int p1)] [0, 2, 1, 4, 5, 6] rfl ?_
                refine k_sub [(cO5_riiiiiiii nn nr xsnapped2_41 xmostSlip2_42 xslip2_43 xisDrawn2_44 xseed2_45 xtick2_46 xmotorTick2_47 xahead2_48), (cO8_iiri nr 8 10 nrc nrk_50), (cAI g nrc 80 nrg_49), (cO3_vrvvrvvv tl v0tl yhn v2tl v3tl yhm v5tl v6tl v7tl), (cO8_iiri yhn 1 6 yhnc yhnn), (cAI g yhnc 6 yhnf), (cO8_iiri yhm 4 3 yhmc yhmn), (cAI g yhmc 12 yhmf), (cO8_iiri zr 8 3 zrc zrn), (cAI g zrc 24 zrf), (cO8_iiri zm 12 3 zmc zmn), (cAI g zmc 36 zmf), (cO8_iiri zw 6 3 zwc zwn), (cAI g zwc 18 zwf), (cO10_vrrvrvvvvi h0 v0h0 tl nw v3h0 nn v5h0 v6h0 v7h0 v8h0 tr2_40), (cO7_rrrrii nw zr zm zw zp zmd ztr), (cO8_iiri zp 8 2 zpc zpn), (cAI g zpc 16 zpf)] [1, 2, 3, 4, 5, 6, 7, 8, 10, 11, 12, 13, 14, 15, 0, 9, 16, 17] rfl (by decide) rfl ?_
                exact ih_35 _ (by rw [← hm_34]; exact mu_lt (by assumption) (by assumption)) z_55 r_51 u_18 nrg_49 tr2_40 xsnapped2_41 xmostSlip2_42 xslip2_43 xisDrawn2_44 xseed2_45 xtick2_46 xmotorTick2_47 xahead2_48 nrk_50 rfl (by assumption)
          · skip
            refine k_aload_n X dX10_bestMan_35 0 rfl ?_
            refine k_iconst (v := 2) X dX10_bestMan_36 (by decide) ?_
            refine k_callVI (n := 1) (As := [.int 2]) (st := []) X [(cO10_vrrvrvvvvi h0 v0h0 tl nw v3h0 nn v5h0 v6h0 v7h0 v8h0 tr2_1)] [(cO5_riiiiiiii nn nr xsnapped xmostSlip xslip xisDrawn xseed xtick xmotorTick xahead), (cO8_iiri nr 8 10 nrc nrn), (cAI g nrc 80 nrf), (cO3_vrvvrvvv tl v0tl yhn v2tl v3tl yhm v5tl v6tl v7tl), (cO8_iiri yhn 1 6 yhnc yhnn), (cAI g yhnc 6 yhnf), (cO8_iiri yhm 4 3 yhmc yhmn), (cAI g yhmc 12 yhmf), (cO8_iiri zr 8 3 zrc zrn), (cAI g zrc 24 zrf), (cO8_iiri zm 12 3 zmc zmn), (cAI g zmc 36 zmf), (cO8_iiri zw 6 3 zwc zwn), (cAI g zwc 18 zwf), (cO7_rrrrii nw zr zm zw zp zmd ztr), (cO8_iiri zp 8 2 zpc zpn), (cAI g zpc 16 zpf)] [14] [0, 1, 2, 3, 4, 5, 6, 7, 8, 9, 10, 11, 12, 13, 15, 16, 17] (c_refuse l g h0 2 v0h0 (.ref tl) (.ref nw) v3h0 (.ref nn) v5h0 v6h0 v7h0 v8h0 tr2_1) dX10_bestMan_37 mw215 mw216 mw217 mw2 mw218 rfl 10 rfl rfl 0 _ rfl yk_yX10_refuse_1 rfl (Nat.le_of_ble_eq_true rfl) (Nat.le_of_ble_eq_true rfl) (Nat.le_of_ble_eq_true rfl) (Nat.le_of_ble_eq_true rfl) (Nat.le_of_ble_eq_true rfl) rfl rfl (by decide +kernel) rfl (by decide +kernel) (by decide +kernel) ?_
            rintro r_57 w ⟨tr2_56, rfl⟩
            refine k_ws [(cO5_riiiiiiii nn nr xsnapped xmostSlip xslip xisDrawn xseed xtick xmotorTick xahead), (cO8_iiri nr 8 10 nrc nrn), (cAI g nrc 80 nrf), (cO3_vrvvrvvv tl v0tl yhn v2tl v3tl yhm v5tl v6tl v7tl), (cO8_iiri yhn 1 6 yhnc yhnn), (cAI g yhnc 6 yhnf), (cO8_iiri yhm 4 3 yhmc yhmn), (cAI g yhmc 12 yhmf), (cO8_iiri zr 8 3 zrc zrn), (cAI g zrc 24 zrf), (cO8_iiri zm 12 3 zmc zmn), (cAI g zmc 36 zmf), (cO8_iiri zw 6 3 zwc zwn), (cAI g zwc 18 zwf), (cO7_rrrrii nw zr zm zw zp zmd ztr), (cO8_iiri zp 8 2 zpc zpn), (cAI g zpc 16 zpf), (cO10_vrrvrvvvvi h0 v0h0 tl nw v3h0 nn v5h0 v6h0 v7h0 v8h0 tr2_56)] rfl ?_
            exact k_iret X hr dX10_bestMan_40 (Nat.le_of_ble_eq_true rfl) (Nat.le_of_ble_eq_true rfl) [17, 0, 1, 2, 3, 4, 5, 6, 7, 14, 8, 9, 10, 11, 12, 13, 15, 16] (by decide) rfl rfl ⟨tr2_56, xsnapped, xmostSlip, xslip, xisDrawn, xseed, xtick, xmotorTick, xahead, nrf, nrn, (by assumption), rfl⟩
  · skip
    refine k_aload_n X dX10_bestMan_7 0 rfl ?_
    refine k_iconst (v := 1) X dX10_bestMan_8 (by decide) ?_
    refine k_callVI (n := 1) (As := [.int 1]) (st := []) X [(cO10_vrrvrvvvvi h0 v0h0 tl nw v3h0 nn v5h0 v6h0 v7h0 v8h0 tr2_1)] [(cO5_riiiiiiii nn nr xsnapped xmostSlip xslip xisDrawn xseed xtick xmotorTick xahead), (cO8_iiri nr 8 10 nrc nrn), (cAI g nrc 80 nrf), (cO3_vrvvrvvv tl v0tl yhn v2tl v3tl yhm v5tl v6tl v7tl), (cO8_iiri yhn 1 6 yhnc yhnn), (cAI g yhnc 6 yhnf), (cO8_iiri yhm 4 3 yhmc yhmn), (cAI g yhmc 12 yhmf), (cO8_iiri zr 8 3 zrc zrn), (cAI g zrc 24 zrf), (cO8_iiri zm 12 3 zmc zmn), (cAI g zmc 36 zmf), (cO8_iiri zw 6 3 zwc zwn), (cAI g zwc 18 zwf), (cO7_rrrrii nw zr zm zw zp zmd ztr), (cO8_iiri zp 8 2 zpc zpn), (cAI g zpc 16 zpf)] [14] [0, 1, 2, 3, 4, 5, 6, 7, 8, 9, 10, 11, 12, 13, 15, 16, 17] (c_refuse l g h0 1 v0h0 (.ref tl) (.ref nw) v3h0 (.ref nn) v5h0 v6h0 v7h0 v8h0 tr2_1) dX10_bestMan_9 mw215 mw216 mw217 mw2 mw218 rfl 10 rfl rfl 0 _ rfl yk_yX10_refuse_1 rfl (Nat.le_of_ble_eq_true rfl) (Nat.le_of_ble_eq_true rfl) (Nat.le_of_ble_eq_true rfl) (Nat.le_of_ble_eq_true rfl) (Nat.le_of_ble_eq_true rfl) rfl rfl (by decide +kernel) rfl (by decide +kernel) (by decide +kernel) ?_
    rintro r_60 w ⟨tr2_59, rfl⟩
    refine k_ws [(cO5_riiiiiiii nn nr xsnapped xmostSlip xslip xisDrawn xseed xtick xmotorTick xahead), (cO8_iiri nr 8 10 nrc nrn), (cAI g nrc 80 nrf), (cO3_vrvvrvvv tl v0tl yhn v2tl v3tl yhm v5tl v6tl v7tl), (cO8_iiri yhn 1 6 yhnc yhnn), (cAI g yhnc 6 yhnf), (cO8_iiri yhm 4 3 yhmc yhmn), (cAI g yhmc 12 yhmf), (cO8_iiri zr 8 3 zrc zrn), (cAI g zrc 24 zrf), (cO8_iiri zm 12 3 zmc zmn), (cAI g zmc 36 zmf), (cO8_iiri zw 6 3 zwc zwn), (cAI g zwc 18 zwf), (cO7_rrrrii nw zr zm zw zp zmd ztr), (cO8_iiri zp 8 2 zpc zpn), (cAI g zpc 16 zpf), (cO10_vrrvrvvvvi h0 v0h0 tl nw v3h0 nn v5h0 v6h0 v7h0 v8h0 tr2_59)] rfl ?_
    exact k_iret X hr dX10_bestMan_12 (Nat.le_of_ble_eq_true rfl) (Nat.le_of_ble_eq_true rfl) [17, 0, 1, 2, 3, 4, 5, 6, 7, 14, 8, 9, 10, 11, 12, 13, 15, 16] (by decide) rfl rfl ⟨tr2_59, xsnapped, xmostSlip, xslip, xisDrawn, xseed, xtick, xmotorTick, xahead, nrf, nrn, (by assumption), rfl⟩

theorem dX10_rideTrouble_0 : decode cX10_rideTrouble 0 = .ok (.aload_n 0, 1) := dk_42 rfl
theorem dX10_rideTrouble_1 : decode cX10_rideTrouble 1 = .ok (.iload_n 1, 1) := dk_27 rfl
theorem dX10_rideTrouble_2 : decode cX10_rideTrouble 2 = .ok (.invokevirtual 163, 3) := dk_182 rfl rfl rfl rfl
theorem dX10_rideTrouble_5 : decode cX10_rideTrouble 5 = .ok (.ifCond .ne 5, 3) := dk_154 rfl rfl rfl (by decide)
theorem dX10_rideTrouble_8 : decode cX10_rideTrouble 8 = .ok (.iconst 1, 1) := dk_4 rfl
theorem dX10_rideTrouble_9 : decode cX10_rideTrouble 9 = .ok (.ireturn, 1) := dk_172 rfl
theorem dX10_rideTrouble_10 : decode cX10_rideTrouble 10 = .ok (.aload_n 0, 1) := dk_42 rfl
theorem dX10_rideTrouble_11 : decode cX10_rideTrouble 11 = .ok (.getfield 19, 3) := dk_180 rfl rfl rfl rfl
theorem dX10_rideTrouble_14 : decode cX10_rideTrouble 14 = .ok (.getfield 303, 3) := dk_180 rfl rfl rfl rfl
theorem dX10_rideTrouble_17 : decode cX10_rideTrouble 17 = .ok (.getfield 113, 3) := dk_180 rfl rfl rfl rfl
theorem dX10_rideTrouble_20 : decode cX10_rideTrouble 20 = .ok (.ifCond .ne 6, 3) := dk_154 rfl rfl rfl (by decide)
theorem dX10_rideTrouble_23 : decode cX10_rideTrouble 23 = .ok (.bipush 6, 2) := dk_16 rfl rfl (by decide)
theorem dX10_rideTrouble_25 : decode cX10_rideTrouble 25 = .ok (.ireturn, 1) := dk_172 rfl
theorem dX10_rideTrouble_26 : decode cX10_rideTrouble 26 = .ok (.iload_n 2, 1) := dk_28 rfl
theorem dX10_rideTrouble_27 : decode cX10_rideTrouble 27 = .ok (.ifCond .lt 19, 3) := dk_155 rfl rfl rfl (by decide)
theorem dX10_rideTrouble_30 : decode cX10_rideTrouble 30 = .ok (.iload_n 2, 1) := dk_28 rfl
theorem dX10_rideTrouble_31 : decode cX10_rideTrouble 31 = .ok (.iconst 4, 1) := dk_7 rfl
theorem dX10_rideTrouble_32 : decode cX10_rideTrouble 32 = .ok (.if_icmp .gt 14, 3) := dk_163 rfl rfl rfl (by decide)
theorem dX10_rideTrouble_35 : decode cX10_rideTrouble 35 = .ok (.iload_n 3, 1) := dk_29 rfl
theorem dX10_rideTrouble_36 : decode cX10_rideTrouble 36 = .ok (.ifCond .lt 10, 3) := dk_155 rfl rfl rfl (by decide)
theorem dX10_rideTrouble_39 : decode cX10_rideTrouble 39 = .ok (.iload_n 3, 1) := dk_29 rfl
theorem dX10_rideTrouble_40 : decode cX10_rideTrouble 40 = .ok (.sipush 9999, 3) := dk_17 rfl rfl rfl (by decide)
theorem dX10_rideTrouble_43 : decode cX10_rideTrouble 43 = .ok (.if_icmp .le 7, 3) := dk_164 rfl rfl rfl (by decide)
theorem dX10_rideTrouble_46 : decode cX10_rideTrouble 46 = .ok (.iconst 2, 1) := dk_5 rfl
theorem dX10_rideTrouble_47 : decode cX10_rideTrouble 47 = .ok (.goto 4, 3) := dk_167 rfl rfl rfl (by decide)
theorem dX10_rideTrouble_50 : decode cX10_rideTrouble 50 = .ok (.iconst 0, 1) := dk_3 rfl
theorem dX10_rideTrouble_51 : decode cX10_rideTrouble 51 = .ok (.ireturn, 1) := dk_172 rfl
set_option maxHeartbeats 4000000 in
set_option maxRecDepth 100000 in
theorem c_rideTrouble (l : Launch) (g : Gx) (h0 : Nat) (p0 : Int32) (p1 : Int32) (p2 : Int32) (v0h0 : Value) (tl : Nat) (nw : Nat) (v3h0 : Value) (nn : Nat) (v5h0 : Value) (v6h0 : Value) (v7h0 : Value) (v8h0 : Value) (tr : Int32) (nr : Nat) (xsnapped : Int32) (xmostSlip : Int32) (xslip : Int32) (xisDrawn : Int32) (xseed : Int32) (xtick : Int32) (xmotorTick : Int32) (xahead : Int32) (nrc : Nat) (nrn : Int32) (nrf : Nat → Int32) (v0tl : Value) (yhn : Nat) (v2tl : Value) (v3tl : Value) (yhm : Nat) (yhb : Nat) (v6tl : Value) (v7tl : Value) (yhnc : Nat) (yhnn : Int32) (yhnf : Nat → Int32) (yhmc : Nat) (yhmn : Int32) (yhmf : Nat → Int32) (yhbc : Nat) (yhbn : Int32) (yhbf : Nat → Int32) (zr : Nat) (zm : Nat) (zw : Nat) (zp : Nat) (zmd : Int32) (ztr : Int32) (zrc : Nat) (zrn : Int32) (zrf : Nat → Int32) (zmc : Nat) (zmn : Int32) (zmf : Nat → Int32) (zwc : Nat) (zwn : Int32) (zwf : Nat → Int32) (zpc : Nat) (zpn : Int32) (zpf : Nat → Int32) (hms : ¬ xmostSlip < 0) : cI l g yX10_rideTrouble cX10_rideTrouble 4 (some .int) 5 118 0 0 [.ref h0, .int p0, .int p1, .int p2] [(cO10_vrrvrvvvvi h0 v0h0 tl nw v3h0 nn v5h0 v6h0 v7h0 v8h0 tr), (cO5_riiiiiiii nn nr xsnapped xmostSlip xslip xisDrawn xseed xtick xmotorTick xahead), (cO8_iiri nr 8 10 nrc nrn), (cAI g nrc 80 nrf), (cO3_vrvvrrvv tl v0tl yhn v2tl v3tl yhm yhb v6tl v7tl), (cO8_iiri yhn 1 6 yhnc yhnn), (cAI g yhnc 6 yhnf), (cO8_iiri yhm 4 3 yhmc yhmn), (cAI g yhmc 12 yhmf), (cO8_iiri yhb 1 3 yhbc yhbn), (cAI g yhbc 3 yhbf), (cO7_rrrrii nw zr zm zw zp zmd ztr), (cO8_iiri zr 8 3 zrc zrn), (cAI g zrc 24 zrf), (cO8_iiri zm 12 3 zmc zmn), (cAI g zmc 36 zmf), (cO8_iiri zw 6 3 zwc zwn), (cAI g zwc 18 zwf), (cO8_iiri zp 8 2 zpc zpn), (cAI g zpc 16 zpf)] (fun r w => ∃ (tr2 : Int32) (xsnapped2 : Int32) (xmostSlip2 : Int32) (xslip2 : Int32) (xisDrawn2 : Int32) (xseed2 : Int32) (xtick2 : Int32) (xmotorTick2 : Int32) (xahead2 : Int32) (nrg : Nat → Int32) (nrk : Int32), (¬ xmostSlip2 < 0) ∧ w = [(cO10_vrrvrvvvvi h0 v0h0 tl nw v3h0 nn v5h0 v6h0 v7h0 v8h0 tr2), (cO5_riiiiiiii nn nr xsnapped2 xmostSlip2 xslip2 xisDrawn2 xseed2 xtick2 xmotorTick2 xahead2), (cO8_iiri nr 8 10 nrc nrk), (cAI g nrc 80 nrg), (cO3_vrvvrrvv tl v0tl yhn v2tl v3tl yhm yhb v6tl v7tl), (cO8_iiri yhn 1 6 yhnc yhnn), (cAI g yhnc 6 yhnf), (cO8_iiri yhm 4 3 yhmc yhmn), (cAI g yhmc 12 yhmf), (cO8_iiri yhb 1 3 yhbc yhbn), (cAI g yhbc 3 yhbf), (cO7_rrrrii nw zr zm zw zp zmd ztr), (cO8_iiri zr 8 3 zrc zrn), (cAI g zrc 24 zrf), (cO8_iiri zm 12 3 zmc zmn), (cAI g zmc 36 zmf), (cO8_iiri zw 6 3 zwc zwn), (cAI g zwc 18 zwf), (cO8_iiri zp 8 2 zpc zpn), (cAI g zpc 16 zpf)]) := by
  refine cI.of (by decide) (Nat.le_of_ble_eq_true rfl) ?_
  intro p e s m args below meth c A X hr hi
  refine k_lveq [(0, .ref h0), (1, .int p0), (2, .int p1), (3, .int p2)] rfl ?_
  refine k_aload_n X dX10_rideTrouble_0 0 rfl ?_
  refine k_iload_n X dX10_rideTrouble_1 1 rfl ?_
  refine k_callVI (n := 1) (As := [.int p0]) (st := []) X [(cO10_vrrvrvvvvi h0 v0h0 tl nw v3h0 nn v5h0 v6h0 v7h0 v8h0 tr), (cO5_riiiiiiii nn nr xsnapped xmostSlip xslip xisDrawn xseed xtick xmotorTick xahead), (cO8_iiri nr 8 10 nrc nrn), (cAI g nrc 80 nrf), (cO3_vrvvrrvv tl v0tl yhn v2tl v3tl yhm yhb v6tl v7tl), (cO8_iiri yhn 1 6 yhnc yhnn), (cAI g yhnc 6 yhnf), (cO8_iiri yhm 4 3 yhmc yhmn), (cAI g yhmc 12 yhmf), (cO7_rrrrii nw zr zm zw zp zmd ztr), (cO8_iiri zr 8 3 zrc zrn), (cAI g zrc 24 zrf), (cO8_iiri zm 12 3 zmc zmn), (cAI g zmc 36 zmf), (cO8_iiri zw 6 3 zwc zwn), (cAI g zwc 18 zwf), (cO8_iiri zp 8 2 zpc zpn), (cAI g zpc 16 zpf)] [(cO8_iiri yhb 1 3 yhbc yhbn), (cAI g yhbc 3 yhbf)] [0, 1, 2, 3, 4, 5, 6, 7, 8, 11, 12, 13, 14, 15, 16, 17, 18, 19] [9, 10] (c_runNight l g h0 p0 v0h0 tl nw v3h0 nn v5h0 v6h0 v7h0 v8h0 tr nr xsnapped xmostSlip xslip xisDrawn xseed xtick xmotorTick xahead nrc nrn nrf v0tl yhn v2tl v3tl yhm (.ref yhb) v6tl v7tl yhnc yhnn yhnf yhmc yhmn yhmf zr zm zw zp zmd ztr zrc zrn zrf zmc zmn zmf zwc zwn zwf zpc zpn zpf (by assumption)) dX10_rideTrouble_2 mw744 mw745 mw746 mw2 mw747 rfl 10 rfl rfl 0 _ rfl yk_yX10_runNight_1 rfl (Nat.le_of_ble_eq_true rfl) (Nat.le_of_ble_eq_true rfl) (Nat.le_of_ble_eq_true rfl) (Nat.le_of_ble_eq_true rfl) (Nat.le_of_ble_eq_true rfl) rfl rfl (by decide +kernel) rfl (by decide +kernel) (by decide +kernel) ?_
  intro r_12 w zq
  refine exE11 zq ?_
  clear zq
  intro tr2_1 xsnapped2_2 xmostSlip2_3 xslip2_4 xisDrawn2_5 xseed2_6 xtick2_7 xmotorTick2_8 xahead2_9 nrg_10 nrk_11 hr_13 zq
  subst zq
  refine k_ws [(cO8_iiri yhb 1 3 yhbc yhbn), (cAI g yhbc 3 yhbf), (cO10_vrrvrvvvvi h0 v0h0 tl nw v3h0 nn v5h0 v6h0 v7h0 v8h0 tr2_1), (cO5_riiiiiiii nn nr xsnapped2_2 xmostSlip2_3 xslip2_4 xisDrawn2_5 xseed2_6 xtick2_7 xmotorTick2_8 xahead2_9), (cO8_iiri nr 8 10 nrc nrk_11), (cAI g nrc 80 nrg_10), (cO3_vrvvrrvv tl v0tl yhn v2tl v3tl yhm yhb v6tl v7tl), (cO8_iiri yhn 1 6 yhnc yhnn), (cAI g yhnc 6 yhnf), (cO8_iiri yhm 4 3 yhmc yhmn), (cAI g yhmc 12 yhmf), (cO7_rrrrii nw zr zm zw zp zmd ztr), (cO8_iiri zr 8 3 zrc zrn), (cAI g zrc 24 zrf), (cO8_iiri zm 12 3 zmc zmn), (cAI g zmc 36 zmf), (cO8_iiri zw 6 3 zwc zwn), (cAI g zwc 18 zwf), (cO8_iiri zp 8 2 zpc zpn), (cAI g zpc 16 zpf)] rfl ?_
  refine k_if_ne 10 X dX10_rideTrouble_5 (by decide) (fun h_14 => ?_) (fun h_14 => ?_)
  · skip
    refine k_aload_n X dX10_rideTrouble_10 0 rfl ?_
    refine k_get (ci := 10) X inlX10 rfl 1 (by decide) dX10_rideTrouble_11 mw20 2 rfl rfl ?_
    refine k_get (ci := 3) X inlX3 rfl 5 (by decide) dX10_rideTrouble_14 mw1288 6 rfl rfl ?_
    refine k_get (ci := 8) X inlX8 rfl 3 (by decide) dX10_rideTrouble_17 mw214 0 rfl rfl ?_
    refine k_if_ne 26 X dX10_rideTrouble_20 (by decide) (fun h_15 => ?_) (fun h_15 => ?_)
    · skip
      refine k_iload_n X dX10_rideTrouble_26 2 rfl ?_
      refine k_if_lt 46 X dX10_rideTrouble_27 (by decide) (fun h_16 => ?_) (fun h_16 => ?_)
      · skip
        refine k_iconst (v := 2) X dX10_rideTrouble_46 (by decide) ?_
        refine k_goto 51 X dX10_rideTrouble_47 (by decide) ?_
        exact k_iret X hr dX10_rideTrouble_51 (Nat.le_of_ble_eq_true rfl) (Nat.le_of_ble_eq_true rfl) [2, 3, 4, 5, 6, 7, 8, 9, 10, 0, 1, 11, 12, 13, 14, 15, 16, 17, 18, 19] (by decide) rfl rfl ⟨tr2_1, xsnapped2_2, xmostSlip2_3, xslip2_4, xisDrawn2_5, xseed2_6, xtick2_7, xmotorTick2_8, xahead2_9, nrg_10, nrk_11, (by assumption), rfl⟩
      · skip
        refine k_iload_n X dX10_rideTrouble_30 2 rfl ?_
        refine k_iconst (v := 4) X dX10_rideTrouble_31 (by decide) ?_
        refine k_ic_gt 46 X dX10_rideTrouble_32 (by decide) (fun h_17 => ?_) (fun h_17 => ?_)
        · skip
          refine k_iconst (v := 2) X dX10_rideTrouble_46 (by decide) ?_
          refine k_goto 51 X dX10_rideTrouble_47 (by decide) ?_
          exact k_iret X hr dX10_rideTrouble_51 (Nat.le_of_ble_eq_true rfl) (Nat.le_of_ble_eq_true rfl) [2, 3, 4, 5, 6, 7, 8, 9, 10, 0, 1, 11, 12, 13, 14, 15, 16, 17, 18, 19] (by decide) rfl rfl ⟨tr2_1, xsnapped2_2, xmostSlip2_3, xslip2_4, xisDrawn2_5, xseed2_6, xtick2_7, xmotorTick2_8, xahead2_9, nrg_10, nrk_11, (by assumption), rfl⟩
        · skip
          refine k_iload_n X dX10_rideTrouble_35 3 rfl ?_
          refine k_if_lt 46 X dX10_rideTrouble_36 (by decide) (fun h_18 => ?_) (fun h_18 => ?_)
          · skip
            refine k_iconst (v := 2) X dX10_rideTrouble_46 (by decide) ?_
            refine k_goto 51 X dX10_rideTrouble_47 (by decide) ?_
            exact k_iret X hr dX10_rideTrouble_51 (Nat.le_of_ble_eq_true rfl) (Nat.le_of_ble_eq_true rfl) [2, 3, 4, 5, 6, 7, 8, 9, 10, 0, 1, 11, 12, 13, 14, 15, 16, 17, 18, 19] (by decide) rfl rfl ⟨tr2_1, xsnapped2_2, xmostSlip2_3, xslip2_4, xisDrawn2_5, xseed2_6, xtick2_7, xmotorTick2_8, xahead2_9, nrg_10, nrk_11, (by assumption), rfl⟩
          · skip
            refine k_iload_n X dX10_rideTrouble_39 3 rfl ?_
            refine k_sipush (v := 9999) X dX10_rideTrouble_40 (by decide) ?_
            refine k_ic_le 50 X dX10_rideTrouble_43 (by decide) (fun h_19 => ?_) (fun h_19 => ?_)
            · skip
              refine k_iconst (v := 0) X dX10_rideTrouble_50 (by decide) ?_
              exact k_iret X hr dX10_rideTrouble_51 (Nat.le_of_ble_eq_true rfl) (Nat.le_of_ble_eq_true rfl) [2, 3, 4, 5, 6, 7, 8, 9, 10, 0, 1, 11, 12, 13, 14, 15, 16, 17, 18, 19] (by decide) rfl rfl ⟨tr2_1, xsnapped2_2, xmostSlip2_3, xslip2_4, xisDrawn2_5, xseed2_6, xtick2_7, xmotorTick2_8, xahead2_9, nrg_10, nrk_11, (by assumption), rfl⟩
            · skip
              refine k_iconst (v := 2) X dX10_rideTrouble_46 (by decide) ?_
              refine k_goto 51 X dX10_rideTrouble_47 (by decide) ?_
              exact k_iret X hr dX10_rideTrouble_51 (Nat.le_of_ble_eq_true rfl) (Nat.le_of_ble_eq_true rfl) [2, 3, 4, 5, 6, 7, 8, 9, 10, 0, 1, 11, 12, 13, 14, 15, 16, 17, 18, 19] (by decide) rfl rfl ⟨tr2_1, xsnapped2_2, xmostSlip2_3, xslip2_4, xisDrawn2_5, xseed2_6, xtick2_7, xmotorTick2_8, xahead2_9, nrg_10, nrk_11, (by assumption), rfl⟩
    · skip
      refine k_bipush (v := 6) X dX10_rideTrouble_23 (by decide) ?_
      exact k_iret X hr dX10_rideTrouble_25 (Nat.le_of_ble_eq_true rfl) (Nat.le_of_ble_eq_true rfl) [2, 3, 4, 5, 6, 7, 8, 9, 10, 0, 1, 11, 12, 13, 14, 15, 16, 17, 18, 19] (by decide) rfl rfl ⟨tr2_1, xsnapped2_2, xmostSlip2_3, xslip2_4, xisDrawn2_5, xseed2_6, xtick2_7, xmotorTick2_8, xahead2_9, nrg_10, nrk_11, (by assumption), rfl⟩
  · skip
    refine k_iconst (v := 1) X dX10_rideTrouble_8 (by decide) ?_
    exact k_iret X hr dX10_rideTrouble_9 (Nat.le_of_ble_eq_true rfl) (Nat.le_of_ble_eq_true rfl) [2, 3, 4, 5, 6, 7, 8, 9, 10, 0, 1, 11, 12, 13, 14, 15, 16, 17, 18, 19] (by decide) rfl rfl ⟨tr2_1, xsnapped2_2, xmostSlip2_3, xslip2_4, xisDrawn2_5, xseed2_6, xtick2_7, xmotorTick2_8, xahead2_9, nrg_10, nrk_11, (by assumption), rfl⟩

theorem dX10_boysMeant_0 : decode cX10_boysMeant 0 = .ok (.iload_n 1, 1) := dk_27 rfl
theorem dX10_boysMeant_1 : decode cX10_boysMeant 1 = .ok (.ifCond .ne 18, 3) := dk_154 rfl rfl rfl (by decide)
theorem dX10_boysMeant_4 : decode cX10_boysMeant 4 = .ok (.aload_n 0, 1) := dk_42 rfl
theorem dX10_boysMeant_5 : decode cX10_boysMeant 5 = .ok (.getfield 19, 3) := dk_180 rfl rfl rfl rfl
theorem dX10_boysMeant_8 : decode cX10_boysMeant 8 = .ok (.getfield 303, 3) := dk_180 rfl rfl rfl rfl
theorem dX10_boysMeant_11 : decode cX10_boysMeant 11 = .ok (.iconst 0, 1) := dk_3 rfl
theorem dX10_boysMeant_12 : decode cX10_boysMeant 12 = .ok (.iconst 0, 1) := dk_3 rfl
theorem dX10_boysMeant_13 : decode cX10_boysMeant 13 = .ok (.invokevirtual 147, 3) := dk_182 rfl rfl rfl rfl
theorem dX10_boysMeant_16 : decode cX10_boysMeant 16 = .ok (.goto 4, 3) := dk_167 rfl rfl rfl (by decide)
theorem dX10_boysMeant_19 : decode cX10_boysMeant 19 = .ok (.iload_n 1, 1) := dk_27 rfl
theorem dX10_boysMeant_20 : decode cX10_boysMeant 20 = .ok (.ireturn, 1) := dk_172 rfl
set_option maxHeartbeats 4000000 in
set_option maxRecDepth 100000 in
theorem c_boysMeant (l : Launch) (g : Gx) (h0 : Nat) (p0 : Int32) (v0h0 : Value) (tl : Nat) (v2h0 : Value) (v3h0 : Value) (v4h0 : Value) (v5h0 : Value) (v6h0 : Value) (v7h0 : Value) (v8h0 : Value) (tr : Int32) (v0tl : Value) (v1tl : Value) (v2tl : Value) (v3tl : Value) (v4tl : Value) (yhb : Nat) (v6tl : Value) (v7tl : Value) (yhbc : Nat) (yhbn : Int32) (yhbf : Nat → Int32) : cI l g yX10_boysMeant cX10_boysMeant 2 (some .int) 1 22 0 0 [.ref h0, .int p0] [(cO10_vrvvvvvvvi h0 v0h0 tl v2h0 v3h0 v4h0 v5h0 v6h0 v7h0 v8h0 tr), (cO3_vvvvvrvv tl v0tl v1tl v2tl v3tl v4tl yhb v6tl v7tl), (cO8_iiri yhb 1 3 yhbc yhbn), (cAI g yhbc 3 yhbf)] (fun r w => ∃ (tr2 : Int32), w = [(cO10_vrvvvvvvvi h0 v0h0 tl v2h0 v3h0 v4h0 v5h0 v6h0 v7h0 v8h0 tr2), (cO3_vvvvvrvv tl v0tl v1tl v2tl v3tl v4tl yhb v6tl v7tl), (cO8_iiri yhb 1 3 yhbc yhbn), (cAI g yhbc 3 yhbf)]) := by
  refine cI.of (by decide) (Nat.le_of_ble_eq_true rfl) ?_
  intro p e s m args below meth c A X hr hi
  refine k_lveq [(0, .ref h0), (1, .int p0)] rfl ?_
  refine k_iload_n X dX10_boysMeant_0 1 rfl ?_
  refine k_if_ne 19 X dX10_boysMeant_1 (by decide) (fun h_1 => ?_) (fun h_1 => ?_)
  · skip
    refine k_iload_n X dX10_boysMeant_19 1 rfl ?_
    exact k_iret X hr dX10_boysMeant_20 (Nat.le_of_ble_eq_true rfl) (Nat.le_of_ble_eq_true rfl) [0, 1, 2, 3] (by decide) rfl rfl ⟨tr, rfl⟩
  · skip
    refine k_aload_n X dX10_boysMeant_4 0 rfl ?_
    refine k_get (ci := 10) X inlX10 rfl 1 (by decide) dX10_boysMeant_5 mw20 0 rfl rfl ?_
    refine k_get (ci := 3) X inlX3 rfl 5 (by decide) dX10_boysMeant_8 mw1288 1 rfl rfl ?_
    refine k_iconst (v := 0) X dX10_boysMeant_11 (by decide) ?_
    refine k_iconst (v := 0) X dX10_boysMeant_12 (by decide) ?_
    refine k_callVI (n := 2) (As := [.int 0, .int 0]) (st := []) X [(cO8_iiri yhb 1 3 yhbc yhbn), (cAI g yhbc 3 yhbf)] [(cO10_vrvvvvvvvi h0 v0h0 tl v2h0 v3h0 v4h0 v5h0 v6h0 v7h0 v8h0 tr), (cO3_vvvvvrvv tl v0tl v1tl v2tl v3tl v4tl yhb v6tl v7tl)] [2, 3] [0, 1] (t_at l g yhb 0 0 1 3 yhbc yhbn 3 yhbf (tbk_1_3)) dX10_boysMeant_13 mw665 mw376 mw377 mw64 mw378 rfl 8 rfl rfl 0 _ rfl yk_yX8_at_2 rfl (Nat.le_of_ble_eq_true rfl) (Nat.le_of_ble_eq_true rfl) (Nat.le_of_ble_eq_true rfl) (Nat.le_of_ble_eq_true rfl) (Nat.le_of_ble_eq_true rfl) rfl rfl (by decide) rfl (by decide) (by decide) ?_
    rintro r_2 w ⟨hr_3, rfl⟩
    refine k_ws [(cO10_vrvvvvvvvi h0 v0h0 tl v2h0 v3h0 v4h0 v5h0 v6h0 v7h0 v8h0 tr), (cO3_vvvvvrvv tl v0tl v1tl v2tl v3tl v4tl yhb v6tl v7tl), (cO8_iiri yhb 1 3 yhbc yhbn), (cAI g yhbc 3 yhbf)] rfl ?_
    refine k_goto 20 X dX10_boysMeant_16 (by decide) ?_
    exact k_iret X hr dX10_boysMeant_20 (Nat.le_of_ble_eq_true rfl) (Nat.le_of_ble_eq_true rfl) [0, 1, 2, 3] (by decide) rfl rfl ⟨tr, rfl⟩

theorem dX10_apartBy_0 : decode cX10_apartBy 0 = .ok (.aload_n 0, 1) := dk_42 rfl
theorem dX10_apartBy_1 : decode cX10_apartBy 1 = .ok (.getfield 54, 3) := dk_180 rfl rfl rfl rfl
theorem dX10_apartBy_4 : decode cX10_apartBy 4 = .ok (.aload_n 0, 1) := dk_42 rfl
theorem dX10_apartBy_5 : decode cX10_apartBy 5 = .ok (.getfield 40, 3) := dk_180 rfl rfl rfl rfl
theorem dX10_apartBy_8 : decode cX10_apartBy 8 = .ok (.iload_n 1, 1) := dk_27 rfl
theorem dX10_apartBy_9 : decode cX10_apartBy 9 = .ok (.aload_n 0, 1) := dk_42 rfl
theorem dX10_apartBy_10 : decode cX10_apartBy 10 = .ok (.getfield 19, 3) := dk_180 rfl rfl rfl rfl
theorem dX10_apartBy_13 : decode cX10_apartBy 13 = .ok (.getfield 303, 3) := dk_180 rfl rfl rfl rfl
theorem dX10_apartBy_16 : decode cX10_apartBy 16 = .ok (.iconst 0, 1) := dk_3 rfl
theorem dX10_apartBy_17 : decode cX10_apartBy 17 = .ok (.iconst 1, 1) := dk_4 rfl
theorem dX10_apartBy_18 : decode cX10_apartBy 18 = .ok (.invokevirtual 147, 3) := dk_182 rfl rfl rfl rfl
theorem dX10_apartBy_21 : decode cX10_apartBy 21 = .ok (.iconst 0, 1) := dk_3 rfl
theorem dX10_apartBy_22 : decode cX10_apartBy 22 = .ok (.invokevirtual 306, 3) := dk_182 rfl rfl rfl rfl
theorem dX10_apartBy_25 : decode cX10_apartBy 25 = .ok (.aload_n 0, 1) := dk_42 rfl
theorem dX10_apartBy_26 : decode cX10_apartBy 26 = .ok (.getfield 54, 3) := dk_180 rfl rfl rfl rfl
theorem dX10_apartBy_29 : decode cX10_apartBy 29 = .ok (.getfield 387, 3) := dk_180 rfl rfl rfl rfl
theorem dX10_apartBy_32 : decode cX10_apartBy 32 = .ok (.ireturn, 1) := dk_172 rfl
set_option maxHeartbeats 4000000 in
set_option maxRecDepth 100000 in
theorem c_apartBy (l : Launch) (g : Gx) (h0 : Nat) (p0 : Int32) (v0h0 : Value) (tl : Nat) (v2h0 : Value) (v3h0 : Value) (nn : Nat) (v5h0 : Value) (rd : Nat) (v7h0 : Value) (v8h0 : Value) (tr : Int32) (nr : Nat) (xsnapped : Int32) (xmostSlip : Int32) (xslip : Int32) (xisDrawn : Int32) (xseed : Int32) (xtick : Int32) (xmotorTick : Int32) (xahead : Int32) (nrc : Nat) (nrn : Int32) (nrf : Nat → Int32) (v0tl : Value) (v1tl : Value) (v2tl : Value) (v3tl : Value) (v4tl : Value) (yhb : Nat) (v6tl : Value) (v7tl : Value) (yhbc : Nat) (yhbn : Int32) (yhbf : Nat → Int32) (rb : Nat) (xa : Int32) (xw : Int32) (rbc : Nat) (rbn : Int32) (rbf : Nat → Int32) : cI l g yX10_apartBy cX10_apartBy 2 (some .int) 3 74 0 0 [.ref h0, .int p0] [(cO10_vrvvrvrvvi h0 v0h0 tl v2h0 v3h0 nn v5h0 rd v7h0 v8h0 tr), (cO5_riiiiiiii nn nr xsnapped xmostSlip xslip xisDrawn xseed xtick xmotorTick xahead), (cO8_iiri nr 8 10 nrc nrn), (cAI g nrc 80 nrf), (cO3_vvvvvrvv tl v0tl v1tl v2tl v3tl v4tl yhb v6tl v7tl), (cO8_iiri yhb 1 3 yhbc yhbn), (cAI g yhbc 3 yhbf), (cO6_rii rd rb xa xw), (cO8_iiri rb 4 1 rbc rbn), (cAI g rbc 4 rbf)] (fun r w => ∃ (tr2 : Int32) (xa2 : Int32) (xw2 : Int32) (rbg : Nat → Int32), w = [(cO10_vrvvrvrvvi h0 v0h0 tl v2h0 v3h0 nn v5h0 rd v7h0 v8h0 tr2), (cO5_riiiiiiii nn nr xsnapped xmostSlip xslip xisDrawn xseed xtick xmotorTick xahead), (cO8_iiri nr 8 10 nrc nrn), (cAI g nrc 80 nrf), (cO3_vvvvvrvv tl v0tl v1tl v2tl v3tl v4tl yhb v6tl v7tl), (cO8_iiri yhb 1 3 yhbc yhbn), (cAI g yhbc 3 yhbf), (cO6_rii rd rb xa2 xw2), (cO8_iiri rb 4 1 rbc rbn), (cAI g rbc 4 rbg)]) := by
  refine cI.of (by decide) (Nat.le_of_ble_eq_true rfl) ?_
  intro p e s m args below meth c A X hr hi
  refine k_lveq [(0, .ref h0), (1, .int p0)] rfl ?_
  refine k_aload_n X dX10_apartBy_0 0 rfl ?_
  refine k_get (ci := 10) X inlX10 rfl 6 (by decide) dX10_apartBy_1 mw40 0 rfl rfl ?_
  refine k_aload_n X dX10_apartBy_4 0 rfl ?_
  refine k_get (ci := 10) X inlX10 rfl 4 (by decide) dX10_apartBy_5 mw32 0 rfl rfl ?_
  refine k_iload_n X dX10_apartBy_8 1 rfl ?_
  refine k_aload_n X dX10_apartBy_9 0 rfl ?_
  refine k_get (ci := 10) X inlX10 rfl 1 (by decide) dX10_apartBy_10 mw20 0 rfl rfl ?_
  refine k_get (ci := 3) X inlX3 rfl 5 (by decide) dX10_apartBy_13 mw1288 4 rfl rfl ?_
  refine k_iconst (v := 0) X dX10_apartBy_16 (by decide) ?_
  refine k_iconst (v := 1) X dX10_apartBy_17 (by decide) ?_
  refine k_callVI (n := 2) (As := [.int 0, .int 1]) (st := [.int p0, .ref nn, .ref rd]) X [(cO8_iiri yhb 1 3 yhbc yhbn), (cAI g yhbc 3 yhbf)] [(cO10_vrvvrvrvvi h0 v0h0 tl v2h0 v3h0 nn v5h0 rd v7h0 v8h0 tr), (cO5_riiiiiiii nn nr xsnapped xmostSlip xslip xisDrawn xseed xtick xmotorTick xahead), (cO8_iiri nr 8 10 nrc nrn), (cAI g nrc 80 nrf), (cO3_vvvvvrvv tl v0tl v1tl v2tl v3tl v4tl yhb v6tl v7tl), (cO6_rii rd rb xa xw), (cO8_iiri rb 4 1 rbc rbn), (cAI g rbc 4 rbf)] [5, 6] [0, 1, 2, 3, 4, 7, 8, 9] (t_at l g yhb 0 1 1 3 yhbc yhbn 3 yhbf (tbk_1_3)) dX10_apartBy_18 mw665 mw376 mw377 mw64 mw378 rfl 8 rfl rfl 0 _ rfl yk_yX8_at_2 rfl (Nat.le_of_ble_eq_true rfl) (Nat.le_of_ble_eq_true rfl) (Nat.le_of_ble_eq_true rfl) (Nat.le_of_ble_eq_true rfl) (Nat.le_of_ble_eq_true rfl) rfl rfl (by decide) rfl (by decide) (by decide) ?_
  rintro r_1 w ⟨hr_2, rfl⟩
  refine k_ws [(cO10_vrvvrvrvvi h0 v0h0 tl v2h0 v3h0 nn v5h0 rd v7h0 v8h0 tr), (cO5_riiiiiiii nn nr xsnapped xmostSlip xslip xisDrawn xseed xtick xmotorTick xahead), (cO8_iiri nr 8 10 nrc nrn), (cAI g nrc 80 nrf), (cO3_vvvvvrvv tl v0tl v1tl v2tl v3tl v4tl yhb v6tl v7tl), (cO6_rii rd rb xa xw), (cO8_iiri rb 4 1 rbc rbn), (cAI g rbc 4 rbf), (cO8_iiri yhb 1 3 yhbc yhbn), (cAI g yhbc 3 yhbf)] rfl ?_
  refine k_iconst (v := 0) X dX10_apartBy_21 (by decide) ?_
  refine k_callVV (n := 4) (As := [.ref nn, .int p0, .int r_1, .int 0]) (st := []) X [(cO6_rii rd rb xa xw), (cO8_iiri rb 4 1 rbc rbn), (cAI g rbc 4 rbf), (cO5_riiiiiiii nn nr xsnapped xmostSlip xslip xisDrawn xseed xtick xmotorTick xahead), (cO8_iiri nr 8 10 nrc nrn), (cAI g nrc 80 nrf)] [(cO10_vrvvrvrvvi h0 v0h0 tl v2h0 v3h0 nn v5h0 rd v7h0 v8h0 tr), (cO3_vvvvvrvv tl v0tl v1tl v2tl v3tl v4tl yhb v6tl v7tl), (cO8_iiri yhb 1 3 yhbc yhbn), (cAI g yhbc 3 yhbf)] [5, 6, 7, 1, 2, 3] [0, 4, 8, 9] (r_carry l g rd nn p0 r_1 0 rb xa xw rbc rbn rbf nr xsnapped xmostSlip xslip xisDrawn xseed xtick xmotorTick xahead nrc nrn nrf) dX10_apartBy_22 mw1298 mw1299 mw1300 mw39 mw1301 rfl 6 rfl rfl 0 _ rfl yk_yX6_carry_4 rfl (Nat.le_of_ble_eq_true rfl) (Nat.le_of_ble_eq_true rfl) (Nat.le_of_ble_eq_true rfl) (Nat.le_of_ble_eq_true rfl) (Nat.le_of_ble_eq_true rfl) rfl rfl (by decide) rfl (by decide) (by decide) ?_
  rintro w ⟨xa2_3, xw2_4, rbg_5, rfl⟩
  refine k_ws [(cO10_vrvvrvrvvi h0 v0h0 tl v2h0 v3h0 nn v5h0 rd v7h0 v8h0 tr), (cO3_vvvvvrvv tl v0tl v1tl v2tl v3tl v4tl yhb v6tl v7tl), (cO8_iiri yhb 1 3 yhbc yhbn), (cAI g yhbc 3 yhbf), (cO6_rii rd rb xa2_3 xw2_4), (cO8_iiri rb 4 1 rbc rbn), (cAI g rbc 4 rbg_5), (cO5_riiiiiiii nn nr xsnapped xmostSlip xslip xisDrawn xseed xtick xmotorTick xahead), (cO8_iiri nr 8 10 nrc nrn), (cAI g nrc 80 nrf)] rfl ?_
  refine k_aload_n X dX10_apartBy_25 0 rfl ?_
  refine k_get (ci := 10) X inlX10 rfl 6 (by decide) dX10_apartBy_26 mw40 0 rfl rfl ?_
  refine k_get (ci := 6) X inlX6 rfl 1 (by decide) dX10_apartBy_29 mw1297 4 rfl rfl ?_
  exact k_iret X hr dX10_apartBy_32 (Nat.le_of_ble_eq_true rfl) (Nat.le_of_ble_eq_true rfl) [0, 7, 8, 9, 1, 2, 3, 4, 5, 6] (by decide) rfl rfl ⟨tr, xa2_3, xw2_4, rbg_5, rfl⟩

theorem dX10_apart_0 : decode cX10_apart 0 = .ok (.aload_n 0, 1) := dk_42 rfl
theorem dX10_apart_1 : decode cX10_apart 1 = .ok (.iload_n 1, 1) := dk_27 rfl
theorem dX10_apart_2 : decode cX10_apart 2 = .ok (.iload_n 2, 1) := dk_28 rfl
theorem dX10_apart_3 : decode cX10_apart 3 = .ok (.iconst 0, 1) := dk_3 rfl
theorem dX10_apart_4 : decode cX10_apart 4 = .ok (.invokevirtual 294, 3) := dk_182 rfl rfl rfl rfl
theorem dX10_apart_7 : decode cX10_apart 7 = .ok (.istore_n 3, 1) := dk_62 rfl
theorem dX10_apart_8 : decode cX10_apart 8 = .ok (.iload_n 3, 1) := dk_29 rfl
theorem dX10_apart_9 : decode cX10_apart 9 = .ok (.ifCond .eq 9, 3) := dk_153 rfl rfl rfl (by decide)
theorem dX10_apart_12 : decode cX10_apart 12 = .ok (.aload_n 0, 1) := dk_42 rfl
theorem dX10_apart_13 : decode cX10_apart 13 = .ok (.iload_n 3, 1) := dk_29 rfl
theorem dX10_apart_14 : decode cX10_apart 14 = .ok (.invokevirtual 83, 3) := dk_182 rfl rfl rfl rfl
theorem dX10_apart_17 : decode cX10_apart 17 = .ok (.ireturn, 1) := dk_172 rfl
theorem dX10_apart_18 : decode cX10_apart 18 = .ok (.aload_n 0, 1) := dk_42 rfl
theorem dX10_apart_19 : decode cX10_apart 19 = .ok (.aload_n 0, 1) := dk_42 rfl
theorem dX10_apart_20 : decode cX10_apart 20 = .ok (.aload_n 0, 1) := dk_42 rfl
theorem dX10_apart_21 : decode cX10_apart 21 = .ok (.iload_n 2, 1) := dk_28 rfl
theorem dX10_apart_22 : decode cX10_apart 22 = .ok (.invokevirtual 297, 3) := dk_182 rfl rfl rfl rfl
theorem dX10_apart_25 : decode cX10_apart 25 = .ok (.invokevirtual 300, 3) := dk_182 rfl rfl rfl rfl
theorem dX10_apart_28 : decode cX10_apart 28 = .ok (.invokevirtual 118, 3) := dk_182 rfl rfl rfl rfl
theorem dX10_apart_31 : decode cX10_apart 31 = .ok (.ireturn, 1) := dk_172 rfl
set_option maxHeartbeats 4000000 in
set_option maxRecDepth 100000 in
theorem c_apart (l : Launch) (g : Gx) (h0 : Nat) (p0 : Int32) (p1 : Int32) (v0h0 : Value) (tl : Nat) (nw : Nat) (v3h0 : Value) (nn : Nat) (v5h0 : Value) (rd : Nat) (v7h0 : Value) (v8h0 : Value) (tr : Int32) (nr : Nat) (xsnapped : Int32) (xmostSlip : Int32) (xslip : Int32) (xisDrawn : Int32) (xseed : Int32) (xtick : Int32) (xmotorTick : Int32) (xahead : Int32) (nrc : Nat) (nrn : Int32) (nrf : Nat → Int32) (v0tl : Value) (yhn : Nat) (v2tl : Value) (v3tl : Value) (yhm : Nat) (yhb : Nat) (v6tl : Value) (v7tl : Value) (yhnc : Nat) (yhnn : Int32) (yhnf : Nat → Int32) (yhmc : Nat) (yhmn : Int32) (yhmf : Nat → Int32) (yhbc : Nat) (yhbn : Int32) (yhbf : Nat → Int32) (zr : Nat) (zm : Nat) (zw : Nat) (zp : Nat) (zmd : Int32) (ztr : Int32) (zrc : Nat) (zrn : Int32) (zrf : Nat → Int32) (zmc : Nat) (zmn : Int32) (zmf : Nat → Int32) (zwc : Nat) (zwn : Int32) (zwf : Nat → Int32) (zpc : Nat) (zpn : Int32) (zpf : Nat → Int32) (rb : Nat) (xa : Int32) (xw : Int32) (rbc : Nat) (rbn : Int32) (rbf : Nat → Int32) (hms : ¬ xmostSlip < 0) : cI l g yX10_apart cX10_apart 4 (some .int) 6 141 0 0 [.ref h0, .int p0, .int p1] [(cO10_vrrvrvrvvi h0 v0h0 tl nw v3h0 nn v5h0 rd v7h0 v8h0 tr), (cO5_riiiiiiii nn nr xsnapped xmostSlip xslip xisDrawn xseed xtick xmotorTick xahead), (cO8_iiri nr 8 10 nrc nrn), (cAI g nrc 80 nrf), (cO3_vrvvrrvv tl v0tl yhn v2tl v3tl yhm yhb v6tl v7tl), (cO8_iiri yhn 1 6 yhnc yhnn), (cAI g yhnc 6 yhnf), (cO8_iiri yhm 4 3 yhmc yhmn), (cAI g yhmc 12 yhmf), (cO8_iiri yhb 1 3 yhbc yhbn), (cAI g yhbc 3 yhbf), (cO7_rrrrii nw zr zm zw zp zmd ztr), (cO8_iiri zr 8 3 zrc zrn), (cAI g zrc 24 zrf), (cO8_iiri zm 12 3 zmc zmn), (cAI g zmc 36 zmf), (cO8_iiri zw 6 3 zwc zwn), (cAI g zwc 18 zwf), (cO8_iiri zp 8 2 zpc zpn), (cAI g zpc 16 zpf), (cO6_rii rd rb xa xw), (cO8_iiri rb 4 1 rbc rbn), (cAI g rbc 4 rbf)] (fun r w => ∃ (tr2 : Int32) (xsnapped2 : Int32) (xmostSlip2 : Int32) (xslip2 : Int32) (xisDrawn2 : Int32) (xseed2 : Int32) (xtick2 : Int32) (xmotorTick2 : Int32) (xahead2 : Int32) (nrg : Nat → Int32) (nrk : Int32) (xa2 : Int32) (xw2 : Int32) (rbg : Nat → Int32), (¬ xmostSlip2 < 0) ∧ w = [(cO10_vrrvrvrvvi h0 v0h0 tl nw v3h0 nn v5h0 rd v7h0 v8h0 tr2), (cO5_riiiiiiii nn nr xsnapped2 xmostSlip2 xslip2 xisDrawn2 xseed2 xtick2 xmotorTick2 xahead2), (cO8_iiri nr 8 10 nrc nrk), (cAI g nrc 80 nrg), (cO3_vrvvrrvv tl v0tl yhn v2tl v3tl yhm yhb v6tl v7tl), (cO8_iiri yhn 1 6 yhnc yhnn), (cAI g yhnc 6 yhnf), (cO8_iiri yhm 4 3 yhmc yhmn), (cAI g yhmc 12 yhmf), (cO8_iiri yhb 1 3 yhbc yhbn), (cAI g yhbc 3 yhbf), (cO7_rrrrii nw zr zm zw zp zmd ztr), (cO8_iiri zr 8 3 zrc zrn), (cAI g zrc 24 zrf), (cO8_iiri zm 12 3 zmc zmn), (cAI g zmc 36 zmf), (cO8_iiri zw 6 3 zwc zwn), (cAI g zwc 18 zwf), (cO8_iiri zp 8 2 zpc zpn), (cAI g zpc 16 zpf), (cO6_rii rd rb xa2 xw2), (cO8_iiri rb 4 1 rbc rbn), (cAI g rbc 4 rbg)]) := by
  refine cI.of (by decide) (Nat.le_of_ble_eq_true rfl) ?_
  intro p e s m args below meth c A X hr hi
  refine k_lveq [(0, .ref h0), (1, .int p0), (2, .int p1)] rfl ?_
  refine k_aload_n X dX10_apart_0 0 rfl ?_
  refine k_iload_n X dX10_apart_1 1 rfl ?_
  refine k_iload_n X dX10_apart_2 2 rfl ?_
  refine k_iconst (v := 0) X dX10_apart_3 (by decide) ?_
  refine k_callVI (n := 3) (As := [.int p0, .int p1, .int 0]) (st := []) X [(cO10_vrrvrvrvvi h0 v0h0 tl nw v3h0 nn v5h0 rd v7h0 v8h0 tr), (cO5_riiiiiiii nn nr xsnapped xmostSlip xslip xisDrawn xseed xtick xmotorTick xahead), (cO8_iiri nr 8 10 nrc nrn), (cAI g nrc 80 nrf), (cO3_vrvvrrvv tl v0tl yhn v2tl v3tl yhm yhb v6tl v7tl), (cO8_iiri yhn 1 6 yhnc yhnn), (cAI g yhnc 6 yhnf), (cO8_iiri yhm 4 3 yhmc yhmn), (cAI g yhmc 12 yhmf), (cO8_iiri yhb 1 3 yhbc yhbn), (cAI g yhbc 3 yhbf), (cO7_rrrrii nw zr zm zw zp zmd ztr), (cO8_iiri zr 8 3 zrc zrn), (cAI g zrc 24 zrf), (cO8_iiri zm 12 3 zmc zmn), (cAI g zmc 36 zmf), (cO8_iiri zw 6 3 zwc zwn), (cAI g zwc 18 zwf), (cO8_iiri zp 8 2 zpc zpn), (cAI g zpc 16 zpf)] [(cO6_rii rd rb xa xw), (cO8_iiri rb 4 1 rbc rbn), (cAI g rbc 4 rbf)] [0, 1, 2, 3, 4, 5, 6, 7, 8, 9, 10, 11, 12, 13, 14, 15, 16, 17, 18, 19] [20, 21, 22] (c_rideTrouble l g h0 p0 p1 0 v0h0 tl nw v3h0 nn v5h0 (.ref rd) v7h0 v8h0 tr nr xsnapped xmostSlip xslip xisDrawn xseed xtick xmotorTick xahead nrc nrn nrf v0tl yhn v2tl v3tl yhm yhb v6tl v7tl yhnc yhnn yhnf yhmc yhmn yhmf yhbc yhbn yhbf zr zm zw zp zmd ztr zrc zrn zrf zmc zmn zmf zwc zwn zwf zpc zpn zpf (by assumption)) dX10_apart_4 mw1284 mw1285 mw1286 mw2 mw1287 rfl 10 rfl rfl 0 _ rfl yk_yX10_rideTrouble_3 rfl (Nat.le_of_ble_eq_true rfl) (Nat.le_of_ble_eq_true rfl) (Nat.le_of_ble_eq_true rfl) (Nat.le_of_ble_eq_true rfl) (Nat.le_of_ble_eq_true rfl) rfl rfl (by decide +kernel) rfl (by decide +kernel) (by decide +kernel) ?_
  intro r_12 w zq
  refine exE11 zq ?_
  clear zq
  intro tr2_1 xsnapped2_2 xmostSlip2_3 xslip2_4 xisDrawn2_5 xseed2_6 xtick2_7 xmotorTick2_8 xahead2_9 nrg_10 nrk_11 hr_13 zq
  subst zq
  refine k_ws [(cO6_rii rd rb xa xw), (cO8_iiri rb 4 1 rbc rbn), (cAI g rbc 4 rbf), (cO10_vrrvrvrvvi h0 v0h0 tl nw v3h0 nn v5h0 rd v7h0 v8h0 tr2_1), (cO5_riiiiiiii nn nr xsnapped2_2 xmostSlip2_3 xslip2_4 xisDrawn2_5 xseed2_6 xtick2_7 xmotorTick2_8 xahead2_9), (cO8_iiri nr 8 10 nrc nrk_11), (cAI g nrc 80 nrg_10), (cO3_vrvvrrvv tl v0tl yhn v2tl v3tl yhm yhb v6tl v7tl), (cO8_iiri yhn 1 6 yhnc yhnn), (cAI g yhnc 6 yhnf), (cO8_iiri yhm 4 3 yhmc yhmn), (cAI g yhmc 12 yhmf), (cO8_iiri yhb 1 3 yhbc yhbn), (cAI g yhbc 3 yhbf), (cO7_rrrrii nw zr zm zw zp zmd ztr), (cO8_iiri zr 8 3 zrc zrn), (cAI g zrc 24 zrf), (cO8_iiri zm 12 3 zmc zmn), (cAI g zmc 36 zmf), (cO8_iiri zw 6 3 zwc zwn), (cAI g zwc 18 zwf), (cO8_iiri zp 8 2 zpc zpn), (cAI g zpc 16 zpf)] rfl ?_
  refine k_istore_n [(3, .int r_12), (0, .ref h0), (1, .int p0), (2, .int p1)] X dX10_apart_7 (by decide) rfl ?_
  refine k_iload_n X dX10_apart_8 0 rfl ?_
  refine k_if_eq 18 X dX10_apart_9 (by decide) (fun h_14 => ?_) (fun h_14 => ?_)
  · skip
    refine k_aload_n X dX10_apart_18 1 rfl ?_
    refine k_aload_n X dX10_apart_19 1 rfl ?_
    refine k_aload_n X dX10_apart_20 1 rfl ?_
    refine k_iload_n X dX10_apart_21 3 rfl ?_
    refine k_callVI (n := 1) (As := [.int p1]) (st := [.ref h0, .ref h0]) X [(cO10_vrrvrvrvvi h0 v0h0 tl nw v3h0 nn v5h0 rd v7h0 v8h0 tr2_1), (cO3_vrvvrrvv tl v0tl yhn v2tl v3tl yhm yhb v6tl v7tl), (cO8_iiri yhb 1 3 yhbc yhbn), (cAI g yhbc 3 yhbf)] [(cO6_rii rd rb xa xw), (cO8_iiri rb 4 1 rbc rbn), (cAI g rbc 4 rbf), (cO5_riiiiiiii nn nr xsnapped2_2 xmostSlip2_3 xslip2_4 xisDrawn2_5 xseed2_6 xtick2_7 xmotorTick2_8 xahead2_9), (cO8_iiri nr 8 10 nrc nrk_11), (cAI g nrc 80 nrg_10), (cO8_iiri yhn 1 6 yhnc yhnn), (cAI g yhnc 6 yhnf), (cO8_iiri yhm 4 3 yhmc yhmn), (cAI g yhmc 12 yhmf), (cO7_rrrrii nw zr zm zw zp zmd ztr), (cO8_iiri zr 8 3 zrc zrn), (cAI g zrc 24 zrf), (cO8_iiri zm 12 3 zmc zmn), (cAI g zmc 36 zmf), (cO8_iiri zw 6 3 zwc zwn), (cAI g zwc 18 zwf), (cO8_iiri zp 8 2 zpc zpn), (cAI g zpc 16 zpf)] [3, 7, 12, 13] [0, 1, 2, 4, 5, 6, 8, 9, 10, 11, 14, 15, 16, 17, 18, 19, 20, 21, 22] (c_boysMeant l g h0 p1 v0h0 tl (.ref nw) v3h0 (.ref nn) v5h0 (.ref rd) v7h0 v8h0 tr2_1 v0tl (.ref yhn) v2tl v3tl (.ref yhm) yhb v6tl v7tl yhbc yhbn yhbf) dX10_apart_22 mw1289 mw1290 mw1291 mw2 mw1292 rfl 10 rfl rfl 0 _ rfl yk_yX10_boysMeant_1 rfl (Nat.le_of_ble_eq_true rfl) (Nat.le_of_ble_eq_true rfl) (Nat.le_of_ble_eq_true rfl) (Nat.le_of_ble_eq_true rfl) (Nat.le_of_ble_eq_true rfl) rfl rfl (by decide +kernel) rfl (by decide +kernel) (by decide +kernel) ?_
    rintro r_16 w ⟨tr2_15, rfl⟩
    refine k_ws [(cO6_rii rd rb xa xw), (cO8_iiri rb 4 1 rbc rbn), (cAI g rbc 4 rbf), (cO5_riiiiiiii nn nr xsnapped2_2 xmostSlip2_3 xslip2_4 xisDrawn2_5 xseed2_6 xtick2_7 xmotorTick2_8 xahead2_9), (cO8_iiri nr 8 10 nrc nrk_11), (cAI g nrc 80 nrg_10), (cO8_iiri yhn 1 6 yhnc yhnn), (cAI g yhnc 6 yhnf), (cO8_iiri yhm 4 3 yhmc yhmn), (cAI g yhmc 12 yhmf), (cO7_rrrrii nw zr zm zw zp zmd ztr), (cO8_iiri zr 8 3 zrc zrn), (cAI g zrc 24 zrf), (cO8_iiri zm 12 3 zmc zmn), (cAI g zmc 36 zmf), (cO8_iiri zw 6 3 zwc zwn), (cAI g zwc 18 zwf), (cO8_iiri zp 8 2 zpc zpn), (cAI g zpc 16 zpf), (cO10_vrrvrvrvvi h0 v0h0 tl nw v3h0 nn v5h0 rd v7h0 v8h0 tr2_15), (cO3_vrvvrrvv tl v0tl yhn v2tl v3tl yhm yhb v6tl v7tl), (cO8_iiri yhb 1 3 yhbc yhbn), (cAI g yhbc 3 yhbf)] rfl ?_
    refine k_callVI (n := 1) (As := [.int r_16]) (st := [.ref h0]) X [(cO10_vrrvrvrvvi h0 v0h0 tl nw v3h0 nn v5h0 rd v7h0 v8h0 tr2_15), (cO5_riiiiiiii nn nr xsnapped2_2 xmostSlip2_3 xslip2_4 xisDrawn2_5 xseed2_6 xtick2_7 xmotorTick2_8 xahead2_9), (cO8_iiri nr 8 10 nrc nrk_11), (cAI g nrc 80 nrg_10), (cO3_vrvvrrvv tl v0tl yhn v2tl v3tl yhm yhb v6tl v7tl), (cO8_iiri yhb 1 3 yhbc yhbn), (cAI g yhbc 3 yhbf), (cO6_rii rd rb xa xw), (cO8_iiri rb 4 1 rbc rbn), (cAI g rbc 4 rbf)] [(cO8_iiri yhn 1 6 yhnc yhnn), (cAI g yhnc 6 yhnf), (cO8_iiri yhm 4 3 yhmc yhmn), (cAI g yhmc 12 yhmf), (cO7_rrrrii nw zr zm zw zp zmd ztr), (cO8_iiri zr 8 3 zrc zrn), (cAI g zrc 24 zrf), (cO8_iiri zm 12 3 zmc zmn), (cAI g zmc 36 zmf), (cO8_iiri zw 6 3 zwc zwn), (cAI g zwc 18 zwf), (cO8_iiri zp 8 2 zpc zpn), (cAI g zpc 16 zpf)] [19, 3, 4, 5, 20, 21, 22, 0, 1, 2] [6, 7, 8, 9, 10, 11, 12, 13, 14, 15, 16, 17, 18] (c_apartBy l g h0 r_16 v0h0 tl (.ref nw) v3h0 nn v5h0 rd v7h0 v8h0 tr2_15 nr xsnapped2_2 xmostSlip2_3 xslip2_4 xisDrawn2_5 xseed2_6 xtick2_7 xmotorTick2_8 xahead2_9 nrc nrk_11 nrg_10 v0tl (.ref yhn) v2tl v3tl (.ref yhm) yhb v6tl v7tl yhbc yhbn yhbf rb xa xw rbc rbn rbf) dX10_apart_25 mw1293 mw1294 mw1295 mw2 mw1296 rfl 10 rfl rfl 0 _ rfl yk_yX10_apartBy_1 rfl (Nat.le_of_ble_eq_true rfl) (Nat.le_of_ble_eq_true rfl) (Nat.le_of_ble_eq_true rfl) (Nat.le_of_ble_eq_true rfl) (Nat.le_of_ble_eq_true rfl) rfl rfl (by decide +kernel) rfl (by decide +kernel) (by decide +kernel) ?_
    rintro r_22 w ⟨tr2_18, xa2_19, xw2_20, rbg_21, rfl⟩
    refine k_ws [(cO8_iiri yhn 1 6 yhnc yhnn), (cAI g yhnc 6 yhnf), (cO8_iiri yhm 4 3 yhmc yhmn), (cAI g yhmc 12 yhmf), (cO7_rrrrii nw zr zm zw zp zmd ztr), (cO8_iiri zr 8 3 zrc zrn), (cAI g zrc 24 zrf), (cO8_iiri zm 12 3 zmc zmn), (cAI g zmc 36 zmf), (cO8_iiri zw 6 3 zwc zwn), (cAI g zwc 18 zwf), (cO8_iiri zp 8 2 zpc zpn), (cAI g zpc 16 zpf), (cO10_vrrvrvrvvi h0 v0h0 tl nw v3h0 nn v5h0 rd v7h0 v8h0 tr2_18), (cO5_riiiiiiii nn nr xsnapped2_2 xmostSlip2_3 xslip2_4 xisDrawn2_5 xseed2_6 xtick2_7 xmotorTick2_8 xahead2_9), (cO8_iiri nr 8 10 nrc nrk_11), (cAI g nrc 80 nrg_10), (cO3_vrvvrrvv tl v0tl yhn v2tl v3tl yhm yhb v6tl v7tl), (cO8_iiri yhb 1 3 yhbc yhbn), (cAI g yhbc 3 yhbf), (cO6_rii rd rb xa2_19 xw2_20), (cO8_iiri rb 4 1 rbc rbn), (cAI g rbc 4 rbg_21)] rfl ?_
    refine k_callVI (n := 1) (As := [.int r_22]) (st := []) X [(cO10_vrrvrvrvvi h0 v0h0 tl nw v3h0 nn v5h0 rd v7h0 v8h0 tr2_18)] [(cO8_iiri yhn 1 6 yhnc yhnn), (cAI g yhnc 6 yhnf), (cO8_iiri yhm 4 3 yhmc yhmn), (cAI g yhmc 12 yhmf), (cO7_rrrrii nw zr zm zw zp zmd ztr), (cO8_iiri zr 8 3 zrc zrn), (cAI g zrc 24 zrf), (cO8_iiri zm 12 3 zmc zmn), (cAI g zmc 36 zmf), (cO8_iiri zw 6 3 zwc zwn), (cAI g zwc 18 zwf), (cO8_iiri zp 8 2 zpc zpn), (cAI g zpc 16 zpf), (cO5_riiiiiiii nn nr xsnapped2_2 xmostSlip2_3 xslip2_4 xisDrawn2_5 xseed2_6 xtick2_7 xmotorTick2_8 xahead2_9), (cO8_iiri nr 8 10 nrc nrk_11), (cAI g nrc 80 nrg_10), (cO3_vrvvrrvv tl v0tl yhn v2tl v3tl yhm yhb v6tl v7tl), (cO8_iiri yhb 1 3 yhbc yhbn), (cAI g yhbc 3 yhbf), (cO6_rii rd rb xa2_19 xw2_20), (cO8_iiri rb 4 1 rbc rbn), (cAI g rbc 4 rbg_21)] [13] [0, 1, 2, 3, 4, 5, 6, 7, 8, 9, 10, 11, 12, 14, 15, 16, 17, 18, 19, 20, 21, 22] (c_tell l g h0 r_22 v0h0 (.ref tl) (.ref nw) v3h0 (.ref nn) v5h0 (.ref rd) v7h0 v8h0 tr2_18) dX10_apart_28 mw460 mw461 mw462 mw2 mw463 rfl 10 rfl rfl 0 _ rfl yk_yX10_tell_1 rfl (Nat.le_of_ble_eq_true rfl) (Nat.le_of_ble_eq_true rfl) (Nat.le_of_ble_eq_true rfl) (Nat.le_of_ble_eq_true rfl) (Nat.le_of_ble_eq_true rfl) rfl rfl (by decide +kernel) rfl (by decide +kernel) (by decide +kernel) ?_
    rintro r_25 w ⟨tr2_24, rfl⟩
    refine k_ws [(cO8_iiri yhn 1 6 yhnc yhnn), (cAI g yhnc 6 yhnf), (cO8_iiri yhm 4 3 yhmc yhmn), (cAI g yhmc 12 yhmf), (cO7_rrrrii nw zr zm zw zp zmd ztr), (cO8_iiri zr 8 3 zrc zrn), (cAI g zrc 24 zrf), (cO8_iiri zm 12 3 zmc zmn), (cAI g zmc 36 zmf), (cO8_iiri zw 6 3 zwc zwn), (cAI g zwc 18 zwf), (cO8_iiri zp 8 2 zpc zpn), (cAI g zpc 16 zpf), (cO5_riiiiiiii nn nr xsnapped2_2 xmostSlip2_3 xslip2_4 xisDrawn2_5 xseed2_6 xtick2_7 xmotorTick2_8 xahead2_9), (cO8_iiri nr 8 10 nrc nrk_11), (cAI g nrc 80 nrg_10), (cO3_vrvvrrvv tl v0tl yhn v2tl v3tl yhm yhb v6tl v7tl), (cO8_iiri yhb 1 3 yhbc yhbn), (cAI g yhbc 3 yhbf), (cO6_rii rd rb xa2_19 xw2_20), (cO8_iiri rb 4 1 rbc rbn), (cAI g rbc 4 rbg_21), (cO10_vrrvrvrvvi h0 v0h0 tl nw v3h0 nn v5h0 rd v7h0 v8h0 tr2_24)] rfl ?_
    exact k_iret X hr dX10_apart_31 (Nat.le_of_ble_eq_true rfl) (Nat.le_of_ble_eq_true rfl) [22, 13, 14, 15, 16, 0, 1, 2, 3, 17, 18, 4, 5, 6, 7, 8, 9, 10, 11, 12, 19, 20, 21] (by decide) rfl rfl ⟨tr2_24, xsnapped2_2, xmostSlip2_3, xslip2_4, xisDrawn2_5, xseed2_6, xtick2_7, xmotorTick2_8, xahead2_9, nrg_10, nrk_11, xa2_19, xw2_20, rbg_21, (by assumption), rfl⟩
  · skip
    refine k_aload_n X dX10_apart_12 1 rfl ?_
    refine k_iload_n X dX10_apart_13 0 rfl ?_
    refine k_callVI (n := 1) (As := [.int r_12]) (st := []) X [(cO10_vrrvrvrvvi h0 v0h0 tl nw v3h0 nn v5h0 rd v7h0 v8h0 tr2_1)] [(cO6_rii rd rb xa xw), (cO8_iiri rb 4 1 rbc rbn), (cAI g rbc 4 rbf), (cO5_riiiiiiii nn nr xsnapped2_2 xmostSlip2_3 xslip2_4 xisDrawn2_5 xseed2_6 xtick2_7 xmotorTick2_8 xahead2_9), (cO8_iiri nr 8 10 nrc nrk_11), (cAI g nrc 80 nrg_10), (cO3_vrvvrrvv tl v0tl yhn v2tl v3tl yhm yhb v6tl v7tl), (cO8_iiri yhn 1 6 yhnc yhnn), (cAI g yhnc 6 yhnf), (cO8_iiri yhm 4 3 yhmc yhmn), (cAI g yhmc 12 yhmf), (cO8_iiri yhb 1 3 yhbc yhbn), (cAI g yhbc 3 yhbf), (cO7_rrrrii nw zr zm zw zp zmd ztr), (cO8_iiri zr 8 3 zrc zrn), (cAI g zrc 24 zrf), (cO8_iiri zm 12 3 zmc zmn), (cAI g zmc 36 zmf), (cO8_iiri zw 6 3 zwc zwn), (cAI g zwc 18 zwf), (cO8_iiri zp 8 2 zpc zpn), (cAI g zpc 16 zpf)] [3] [0, 1, 2, 4, 5, 6, 7, 8, 9, 10, 11, 12, 13, 14, 15, 16, 17, 18, 19, 20, 21, 22] (c_refuse l g h0 r_12 v0h0 (.ref tl) (.ref nw) v3h0 (.ref nn) v5h0 (.ref rd) v7h0 v8h0 tr2_1) dX10_apart_14 mw215 mw216 mw217 mw2 mw218 rfl 10 rfl rfl 0 _ rfl yk_yX10_refuse_1 rfl (Nat.le_of_ble_eq_true rfl) (Nat.le_of_ble_eq_true rfl) (Nat.le_of_ble_eq_true rfl) (Nat.le_of_ble_eq_true rfl) (Nat.le_of_ble_eq_true rfl) rfl rfl (by decide +kernel) rfl (by decide +kernel) (by decide +kernel) ?_
    rintro r_28 w ⟨tr2_27, rfl⟩
    refine k_ws [(cO6_rii rd rb xa xw), (cO8_iiri rb 4 1 rbc rbn), (cAI g rbc 4 rbf), (cO5_riiiiiiii nn nr xsnapped2_2 xmostSlip2_3 xslip2_4 xisDrawn2_5 xseed2_6 xtick2_7 xmotorTick2_8 xahead2_9), (cO8_iiri nr 8 10 nrc nrk_11), (cAI g nrc 80 nrg_10), (cO3_vrvvrrvv tl v0tl yhn v2tl v3tl yhm yhb v6tl v7tl), (cO8_iiri yhn 1 6 yhnc yhnn), (cAI g yhnc 6 yhnf), (cO8_iiri yhm 4 3 yhmc yhmn), (cAI g yhmc 12 yhmf), (cO8_iiri yhb 1 3 yhbc yhbn), (cAI g yhbc 3 yhbf), (cO7_rrrrii nw zr zm zw zp zmd ztr), (cO8_iiri zr 8 3 zrc zrn), (cAI g zrc 24 zrf), (cO8_iiri zm 12 3 zmc zmn), (cAI g zmc 36 zmf), (cO8_iiri zw 6 3 zwc zwn), (cAI g zwc 18 zwf), (cO8_iiri zp 8 2 zpc zpn), (cAI g zpc 16 zpf), (cO10_vrrvrvrvvi h0 v0h0 tl nw v3h0 nn v5h0 rd v7h0 v8h0 tr2_27)] rfl ?_
    exact k_iret X hr dX10_apart_17 (Nat.le_of_ble_eq_true rfl) (Nat.le_of_ble_eq_true rfl) [22, 3, 4, 5, 6, 7, 8, 9, 10, 11, 12, 13, 14, 15, 16, 17, 18, 19, 20, 21, 0, 1, 2] (by decide) rfl rfl ⟨tr2_27, xsnapped2_2, xmostSlip2_3, xslip2_4, xisDrawn2_5, xseed2_6, xtick2_7, xmotorTick2_8, xahead2_9, nrg_10, nrk_11, xa, xw, rbf, (by assumption), rfl⟩

theorem dX10_waits_0 : decode cX10_waits 0 = .ok (.aload_n 0, 1) := dk_42 rfl
theorem dX10_waits_1 : decode cX10_waits 1 = .ok (.iload_n 1, 1) := dk_27 rfl
theorem dX10_waits_2 : decode cX10_waits 2 = .ok (.iload_n 2, 1) := dk_28 rfl
theorem dX10_waits_3 : decode cX10_waits 3 = .ok (.iload_n 3, 1) := dk_29 rfl
theorem dX10_waits_4 : decode cX10_waits 4 = .ok (.invokevirtual 294, 3) := dk_182 rfl rfl rfl rfl
theorem dX10_waits_7 : decode cX10_waits 7 = .ok (.istore 4, 2) := dk_54 rfl rfl rfl
theorem dX10_waits_9 : decode cX10_waits 9 = .ok (.iload 4, 2) := dk_21 rfl rfl rfl
theorem dX10_waits_11 : decode cX10_waits 11 = .ok (.ifCond .eq 10, 3) := dk_153 rfl rfl rfl (by decide)
theorem dX10_waits_14 : decode cX10_waits 14 = .ok (.aload_n 0, 1) := dk_42 rfl
theorem dX10_waits_15 : decode cX10_waits 15 = .ok (.iload 4, 2) := dk_21 rfl rfl rfl
theorem dX10_waits_17 : decode cX10_waits 17 = .ok (.invokevirtual 83, 3) := dk_182 rfl rfl rfl rfl
theorem dX10_waits_20 : decode cX10_waits 20 = .ok (.ireturn, 1) := dk_172 rfl
theorem dX10_waits_21 : decode cX10_waits 21 = .ok (.aload_n 0, 1) := dk_42 rfl
theorem dX10_waits_22 : decode cX10_waits 22 = .ok (.getfield 54, 3) := dk_180 rfl rfl rfl rfl
theorem dX10_waits_25 : decode cX10_waits 25 = .ok (.aload_n 0, 1) := dk_42 rfl
theorem dX10_waits_26 : decode cX10_waits 26 = .ok (.getfield 40, 3) := dk_180 rfl rfl rfl rfl
theorem dX10_waits_29 : decode cX10_waits 29 = .ok (.aload_n 0, 1) := dk_42 rfl
theorem dX10_waits_30 : decode cX10_waits 30 = .ok (.iload_n 2, 1) := dk_28 rfl
theorem dX10_waits_31 : decode cX10_waits 31 = .ok (.invokevirtual 297, 3) := dk_182 rfl rfl rfl rfl
theorem dX10_waits_34 : decode cX10_waits 34 = .ok (.aload_n 0, 1) := dk_42 rfl
theorem dX10_waits_35 : decode cX10_waits 35 = .ok (.getfield 19, 3) := dk_180 rfl rfl rfl rfl
theorem dX10_waits_38 : decode cX10_waits 38 = .ok (.getfield 303, 3) := dk_180 rfl rfl rfl rfl
theorem dX10_waits_41 : decode cX10_waits 41 = .ok (.iconst 0, 1) := dk_3 rfl
theorem dX10_waits_42 : decode cX10_waits 42 = .ok (.iconst 1, 1) := dk_4 rfl
theorem dX10_waits_43 : decode cX10_waits 43 = .ok (.invokevirtual 147, 3) := dk_182 rfl rfl rfl rfl
theorem dX10_waits_46 : decode cX10_waits 46 = .ok (.iload_n 3, 1) := dk_29 rfl
theorem dX10_waits_47 : decode cX10_waits 47 = .ok (.invokevirtual 306, 3) := dk_182 rfl rfl rfl rfl
theorem dX10_waits_50 : decode cX10_waits 50 = .ok (.aload_n 0, 1) := dk_42 rfl
theorem dX10_waits_51 : decode cX10_waits 51 = .ok (.aload_n 0, 1) := dk_42 rfl
theorem dX10_waits_52 : decode cX10_waits 52 = .ok (.getfield 54, 3) := dk_180 rfl rfl rfl rfl
theorem dX10_waits_55 : decode cX10_waits 55 = .ok (.getfield 310, 3) := dk_180 rfl rfl rfl rfl
theorem dX10_waits_58 : decode cX10_waits 58 = .ok (.invokevirtual 118, 3) := dk_182 rfl rfl rfl rfl
theorem dX10_waits_61 : decode cX10_waits 61 = .ok (.ireturn, 1) := dk_172 rfl
set_option maxHeartbeats 4000000 in
set_option maxRecDepth 100000 in
theorem c_waits (l : Launch) (g : Gx) (h0 : Nat) (p0 : Int32) (p1 : Int32) (p2 : Int32) (v0h0 : Value) (tl : Nat) (nw : Nat) (v3h0 : Value) (nn : Nat) (v5h0 : Value) (rd : Nat) (v7h0 : Value) (v8h0 : Value) (tr : Int32) (nr : Nat) (xsnapped : Int32) (xmostSlip : Int32) (xslip : Int32) (xisDrawn : Int32) (xseed : Int32) (xtick : Int32) (xmotorTick : Int32) (xahead : Int32) (nrc : Nat) (nrn : Int32) (nrf : Nat → Int32) (v0tl : Value) (yhn : Nat) (v2tl : Value) (v3tl : Value) (yhm : Nat) (yhb : Nat) (v6tl : Value) (v7tl : Value) (yhnc : Nat) (yhnn : Int32) (yhnf : Nat → Int32) (yhmc : Nat) (yhmn : Int32) (yhmf : Nat → Int32) (yhbc : Nat) (yhbn : Int32) (yhbf : Nat → Int32) (zr : Nat) (zm : Nat) (zw : Nat) (zp : Nat) (zmd : Int32) (ztr : Int32) (zrc : Nat) (zrn : Int32) (zrf : Nat → Int32) (zmc : Nat) (zmn : Int32) (zmf : Nat → Int32) (zwc : Nat) (zwn : Int32) (zwf : Nat → Int32) (zpc : Nat) (zpn : Int32) (zpf : Nat → Int32) (rb : Nat) (xa : Int32) (xw : Int32) (rbc : Nat) (rbn : Int32) (rbf : Nat → Int32) (hms : ¬ xmostSlip < 0) : cI l g yX10_waits cX10_waits 5 (some .int) 6 141 0 0 [.ref h0, .int p0, .int p1, .int p2] [(cO10_vrrvrvrvvi h0 v0h0 tl nw v3h0 nn v5h0 rd v7h0 v8h0 tr), (cO5_riiiiiiii nn nr xsnapped xmostSlip xslip xisDrawn xseed xtick xmotorTick xahead), (cO8_iiri nr 8 10 nrc nrn), (cAI g nrc 80 nrf), (cO3_vrvvrrvv tl v0tl yhn v2tl v3tl yhm yhb v6tl v7tl), (cO8_iiri yhn 1 6 yhnc yhnn), (cAI g yhnc 6 yhnf), (cO8_iiri yhm 4 3 yhmc yhmn), (cAI g yhmc 12 yhmf), (cO8_iiri yhb 1 3 yhbc yhbn), (cAI g yhbc 3 yhbf), (cO7_rrrrii nw zr zm zw zp zmd ztr), (cO8_iiri zr 8 3 zrc zrn), (cAI g zrc 24 zrf), (cO8_iiri zm 12 3 zmc zmn), (cAI g zmc 36 zmf), (cO8_iiri zw 6 3 zwc zwn), (cAI g zwc 18 zwf), (cO8_iiri zp 8 2 zpc zpn), (cAI g zpc 16 zpf), (cO6_rii rd rb xa xw), (cO8_iiri rb 4 1 rbc rbn), (cAI g rbc 4 rbf)] (fun r w => ∃ (tr2 : Int32) (xsnapped2 : Int32) (xmostSlip2 : Int32) (xslip2 : Int32) (xisDrawn2 : Int32) (xseed2 : Int32) (xtick2 : Int32) (xmotorTick2 : Int32) (xahead2 : Int32) (nrg : Nat → Int32) (nrk : Int32) (xa2 : Int32) (xw2 : Int32) (rbg : Nat → Int32), (¬ xmostSlip2 < 0) ∧ w = [(cO10_vrrvrvrvvi h0 v0h0 tl nw v3h0 nn v5h0 rd v7h0 v8h0 tr2), (cO5_riiiiiiii nn nr xsnapped2 xmostSlip2 xslip2 xisDrawn2 xseed2 xtick2 xmotorTick2 xahead2), (cO8_iiri nr 8 10 nrc nrk), (cAI g nrc 80 nrg), (cO3_vrvvrrvv tl v0tl yhn v2tl v3tl yhm yhb v6tl v7tl), (cO8_iiri yhn 1 6 yhnc yhnn), (cAI g yhnc 6 yhnf), (cO8_iiri yhm 4 3 yhmc yhmn), (cAI g yhmc 12 yhmf), (cO8_iiri yhb 1 3 yhbc yhbn), (cAI g yhbc 3 yhbf), (cO7_rrrrii nw zr zm zw zp zmd ztr), (cO8_iiri zr 8 3 zrc zrn), (cAI g zrc 24 zrf), (cO8_iiri zm 12 3 zmc zmn), (cAI g zmc 36 zmf), (cO8_iiri zw 6 3 zwc zwn), (cAI g zwc 18 zwf), (cO8_iiri zp 8 2 zpc zpn), (cAI g zpc 16 zpf), (cO6_rii rd rb xa2 xw2), (cO8_iiri rb 4 1 rbc rbn), (cAI g rbc 4 rbg)]) := by
  refine cI.of (by decide) (Nat.le_of_ble_eq_true rfl) ?_
  intro p e s m args below meth c A X hr hi
  refine k_lveq [(0, .ref h0), (1, .int p0), (2, .int p1), (3, .int p2)] rfl ?_
  refine k_aload_n X dX10_waits_0 0 rfl ?_
  refine k_iload_n X dX10_waits_1 1 rfl ?_
  refine k_iload_n X dX10_waits_2 2 rfl ?_
  refine k_iload_n X dX10_waits_3 3 rfl ?_
  refine k_callVI (n := 3) (As := [.int p0, .int p1, .int p2]) (st := []) X [(cO10_vrrvrvrvvi h0 v0h0 tl nw v3h0 nn v5h0 rd v7h0 v8h0 tr), (cO5_riiiiiiii nn nr xsnapped xmostSlip xslip xisDrawn xseed xtick xmotorTick xahead), (cO8_iiri nr 8 10 nrc nrn), (cAI g nrc 80 nrf), (cO3_vrvvrrvv tl v0tl yhn v2tl v3tl yhm yhb v6tl v7tl), (cO8_iiri yhn 1 6 yhnc yhnn), (cAI g yhnc 6 yhnf), (cO8_iiri yhm 4 3 yhmc yhmn), (cAI g yhmc 12 yhmf), (cO8_iiri yhb 1 3 yhbc yhbn), (cAI g yhbc 3 yhbf), (cO7_rrrrii nw zr zm zw zp zmd ztr), (cO8_iiri zr 8 3 zrc zrn), (cAI g zrc 24 zrf), (cO8_iiri zm 12 3 zmc zmn), (cAI g zmc 36 zmf), (cO8_iiri zw 6 3 zwc zwn), (cAI g zwc 18 zwf), (cO8_iiri zp 8 2 zpc zpn), (cAI g zpc 16 zpf)] [(cO6_rii rd rb xa xw), (cO8_iiri rb 4 1 rbc rbn), (cAI g rbc 4 rbf)] [0, 1, 2, 3, 4, 5, 6, 7, 8, 9, 10, 11, 12, 13, 14, 15, 16, 17, 18, 19] [20, 21, 22] (c_rideTrouble l g h0 p0 p1 p2 v0h0 tl nw v3h0 nn v5h0 (.ref rd) v7h0 v8h0 tr nr xsnapped xmostSlip xslip xisDrawn xseed xtick xmotorTick xahead nrc nrn nrf v0tl yhn v2tl v3tl yhm yhb v6tl v7tl yhnc yhnn yhnf yhmc yhmn yhmf yhbc yhbn yhbf zr zm zw zp zmd ztr zrc zrn zrf zmc zmn zmf zwc zwn zwf zpc zpn zpf (by assumption)) dX10_waits_4 mw1284 mw1285 mw1286 mw2 mw1287 rfl 10 rfl rfl 0 _ rfl yk_yX10_rideTrouble_3 rfl (Nat.le_of_ble_eq_true rfl) (Nat.le_of_ble_eq_true rfl) (Nat.le_of_ble_eq_true rfl) (Nat.le_of_ble_eq_true rfl) (Nat.le_of_ble_eq_true rfl) rfl rfl (by decide +kernel) rfl (by decide +kernel) (by decide +kernel) ?_
  intro r_12 w zq
  refine exE11 zq ?_
  clear zq
  intro tr2_1 xsnapped2_2 xmostSlip2_3 xslip2_4 xisDrawn2_5 xseed2_6 xtick2_7 xmotorTick2_8 xahead2_9 nrg_10 nrk_11 hr_13 zq
  subst zq
  refine k_ws [(cO6_rii rd rb xa xw), (cO8_iiri rb 4 1 rbc rbn), (cAI g rbc 4 rbf), (cO10_vrrvrvrvvi h0 v0h0 tl nw v3h0 nn v5h0 rd v7h0 v8h0 tr2_1), (cO5_riiiiiiii nn nr xsnapped2_2 xmostSlip2_3 xslip2_4 xisDrawn2_5 xseed2_6 xtick2_7 xmotorTick2_8 xahead2_9), (cO8_iiri nr 8 10 nrc nrk_11), (cAI g nrc 80 nrg_10), (cO3_vrvvrrvv tl v0tl yhn v2tl v3tl yhm yhb v6tl v7tl), (cO8_iiri yhn 1 6 yhnc yhnn), (cAI g yhnc 6 yhnf), (cO8_iiri yhm 4 3 yhmc yhmn), (cAI g yhmc 12 yhmf), (cO8_iiri yhb 1 3 yhbc yhbn), (cAI g yhbc 3 yhbf), (cO7_rrrrii nw zr zm zw zp zmd ztr), (cO8_iiri zr 8 3 zrc zrn), (cAI g zrc 24 zrf), (cO8_iiri zm 12 3 zmc zmn), (cAI g zmc 36 zmf), (cO8_iiri zw 6 3 zwc zwn), (cAI g zwc 18 zwf), (cO8_iiri zp 8 2 zpc zpn), (cAI g zpc 16 zpf)] rfl ?_
  refine k_istore [(4, .int r_12), (0, .ref h0), (1, .int p0), (2, .int p1), (3, .int p2)] X dX10_waits_7 (by decide) rfl ?_
  refine k_iload X dX10_waits_9 0 rfl ?_
  refine k_if_eq 21 X dX10_waits_11 (by decide) (fun h_14 => ?_) (fun h_14 => ?_)
  · skip
    refine k_aload_n X dX10_waits_21 1 rfl ?_
    refine k_get (ci := 10) X inlX10 rfl 6 (by decide) dX10_waits_22 mw40 3 rfl rfl ?_
    refine k_aload_n X dX10_waits_25 1 rfl ?_
    refine k_get (ci := 10) X inlX10 rfl 4 (by decide) dX10_waits_26 mw32 3 rfl rfl ?_
    refine k_aload_n X dX10_waits_29 1 rfl ?_
    refine k_iload_n X dX10_waits_30 3 rfl ?_
    refine k_callVI (n := 1) (As := [.int p1]) (st := [.ref nn, .ref rd]) X [(cO10_vrrvrvrvvi h0 v0h0 tl nw v3h0 nn v5h0 rd v7h0 v8h0 tr2_1), (cO3_vrvvrrvv tl v0tl yhn v2tl v3tl yhm yhb v6tl v7tl), (cO8_iiri yhb 1 3 yhbc yhbn), (cAI g yhbc 3 yhbf)] [(cO6_rii rd rb xa xw), (cO8_iiri rb 4 1 rbc rbn), (cAI g rbc 4 rbf), (cO5_riiiiiiii nn nr xsnapped2_2 xmostSlip2_3 xslip2_4 xisDrawn2_5 xseed2_6 xtick2_7 xmotorTick2_8 xahead2_9), (cO8_iiri nr 8 10 nrc nrk_11), (cAI g nrc 80 nrg_10), (cO8_iiri yhn 1 6 yhnc yhnn), (cAI g yhnc 6 yhnf), (cO8_iiri yhm 4 3 yhmc yhmn), (cAI g yhmc 12 yhmf), (cO7_rrrrii nw zr zm zw zp zmd ztr), (cO8_iiri zr 8 3 zrc zrn), (cAI g zrc 24 zrf), (cO8_iiri zm 12 3 zmc zmn), (cAI g zmc 36 zmf), (cO8_iiri zw 6 3 zwc zwn), (cAI g zwc 18 zwf), (cO8_iiri zp 8 2 zpc zpn), (cAI g zpc 16 zpf)] [3, 7, 12, 13] [0, 1, 2, 4, 5, 6, 8, 9, 10, 11, 14, 15, 16, 17, 18, 19, 20, 21, 22] (c_boysMeant l g h0 p1 v0h0 tl (.ref nw) v3h0 (.ref nn) v5h0 (.ref rd) v7h0 v8h0 tr2_1 v0tl (.ref yhn) v2tl v3tl (.ref yhm) yhb v6tl v7tl yhbc yhbn yhbf) dX10_waits_31 mw1289 mw1290 mw1291 mw2 mw1292 rfl 10 rfl rfl 0 _ rfl yk_yX10_boysMeant_1 rfl (Nat.le_of_ble_eq_true rfl) (Nat.le_of_ble_eq_true rfl) (Nat.le_of_ble_eq_true rfl) (Nat.le_of_ble_eq_true rfl) (Nat.le_of_ble_eq_true rfl) rfl rfl (by decide +kernel) rfl (by decide +kernel) (by decide +kernel) ?_
    rintro r_16 w ⟨tr2_15, rfl⟩
    refine k_ws [(cO6_rii rd rb xa xw), (cO8_iiri rb 4 1 rbc rbn), (cAI g rbc 4 rbf), (cO5_riiiiiiii nn nr xsnapped2_2 xmostSlip2_3 xslip2_4 xisDrawn2_5 xseed2_6 xtick2_7 xmotorTick2_8 xahead2_9), (cO8_iiri nr 8 10 nrc nrk_11), (cAI g nrc 80 nrg_10), (cO8_iiri yhn 1 6 yhnc yhnn), (cAI g yhnc 6 yhnf), (cO8_iiri yhm 4 3 yhmc yhmn), (cAI g yhmc 12 yhmf), (cO7_rrrrii nw zr zm zw zp zmd ztr), (cO8_iiri zr 8 3 zrc zrn), (cAI g zrc 24 zrf), (cO8_iiri zm 12 3 zmc zmn), (cAI g zmc 36 zmf), (cO8_iiri zw 6 3 zwc zwn), (cAI g zwc 18 zwf), (cO8_iiri zp 8 2 zpc zpn), (cAI g zpc 16 zpf), (cO10_vrrvrvrvvi h0 v0h0 tl nw v3h0 nn v5h0 rd v7h0 v8h0 tr2_15), (cO3_vrvvrrvv tl v0tl yhn v2tl v3tl yhm yhb v6tl v7tl), (cO8_iiri yhb 1 3 yhbc yhbn), (cAI g yhbc 3 yhbf)] rfl ?_
    refine k_aload_n X dX10_waits_34 1 rfl ?_
    refine k_get (ci := 10) X inlX10 rfl 1 (by decide) dX10_waits_35 mw20 19 rfl rfl ?_
    refine k_get (ci := 3) X inlX3 rfl 5 (by decide) dX10_waits_38 mw1288 20 rfl rfl ?_
    refine k_iconst (v := 0) X dX10_waits_41 (by decide) ?_
    refine k_iconst (v := 1) X dX10_waits_42 (by decide) ?_
    refine k_callVI (n := 2) (As := [.int 0, .int 1]) (st := [.int r_16, .ref nn, .ref rd]) X [(cO8_iiri yhb 1 3 yhbc yhbn), (cAI g yhbc 3 yhbf)] [(cO6_rii rd rb xa xw), (cO8_iiri rb 4 1 rbc rbn), (cAI g rbc 4 rbf), (cO5_riiiiiiii nn nr xsnapped2_2 xmostSlip2_3 xslip2_4 xisDrawn2_5 xseed2_6 xtick2_7 xmotorTick2_8 xahead2_9), (cO8_iiri nr 8 10 nrc nrk_11), (cAI g nrc 80 nrg_10), (cO8_iiri yhn 1 6 yhnc yhnn), (cAI g yhnc 6 yhnf), (cO8_iiri yhm 4 3 yhmc yhmn), (cAI g yhmc 12 yhmf), (cO7_rrrrii nw zr zm zw zp zmd ztr), (cO8_iiri zr 8 3 zrc zrn), (cAI g zrc 24 zrf), (cO8_iiri zm 12 3 zmc zmn), (cAI g zmc 36 zmf), (cO8_iiri zw 6 3 zwc zwn), (cAI g zwc 18 zwf), (cO8_iiri zp 8 2 zpc zpn), (cAI g zpc 16 zpf), (cO10_vrrvrvrvvi h0 v0h0 tl nw v3h0 nn v5h0 rd v7h0 v8h0 tr2_15), (cO3_vrvvrrvv tl v0tl yhn v2tl v3tl yhm yhb v6tl v7tl)] [21, 22] [0, 1, 2, 3, 4, 5, 6, 7, 8, 9, 10, 11, 12, 13, 14, 15, 16, 17, 18, 19, 20] (t_at l g yhb 0 1 1 3 yhbc yhbn 3 yhbf (tbk_1_3)) dX10_waits_43 mw665 mw376 mw377 mw64 mw378 rfl 8 rfl rfl 0 _ rfl yk_yX8_at_2 rfl (Nat.le_of_ble_eq_true rfl) (Nat.le_of_ble_eq_true rfl) (Nat.le_of_ble_eq_true rfl) (Nat.le_of_ble_eq_true rfl) (Nat.le_of_ble_eq_true rfl) rfl rfl (by decide +kernel) rfl (by decide +kernel) (by decide +kernel) ?_
    rintro r_18 w ⟨hr_19, rfl⟩
    refine k_ws [(cO6_rii rd rb xa xw), (cO8_iiri rb 4 1 rbc rbn), (cAI g rbc 4 rbf), (cO5_riiiiiiii nn nr xsnapped2_2 xmostSlip2_3 xslip2_4 xisDrawn2_5 xseed2_6 xtick2_7 xmotorTick2_8 xahead2_9), (cO8_iiri nr 8 10 nrc nrk_11), (cAI g nrc 80 nrg_10), (cO8_iiri yhn 1 6 yhnc yhnn), (cAI g yhnc 6 yhnf), (cO8_iiri yhm 4 3 yhmc yhmn), (cAI g yhmc 12 yhmf), (cO7_rrrrii nw zr zm zw zp zmd ztr), (cO8_iiri zr 8 3 zrc zrn), (cAI g zrc 24 zrf), (cO8_iiri zm 12 3 zmc zmn), (cAI g zmc 36 zmf), (cO8_iiri zw 6 3 zwc zwn), (cAI g zwc 18 zwf), (cO8_iiri zp 8 2 zpc zpn), (cAI g zpc 16 zpf), (cO10_vrrvrvrvvi h0 v0h0 tl nw v3h0 nn v5h0 rd v7h0 v8h0 tr2_15), (cO3_vrvvrrvv tl v0tl yhn v2tl v3tl yhm yhb v6tl v7tl), (cO8_iiri yhb 1 3 yhbc yhbn), (cAI g yhbc 3 yhbf)] rfl ?_
    refine k_iload_n X dX10_waits_46 4 rfl ?_
    refine k_callVV (n := 4) (As := [.ref nn, .int r_16, .int r_18, .int p2]) (st := []) X [(cO6_rii rd rb xa xw), (cO8_iiri rb 4 1 rbc rbn), (cAI g rbc 4 rbf), (cO5_riiiiiiii nn nr xsnapped2_2 xmostSlip2_3 xslip2_4 xisDrawn2_5 xseed2_6 xtick2_7 xmotorTick2_8 xahead2_9), (cO8_iiri nr 8 10 nrc nrk_11), (cAI g nrc 80 nrg_10)] [(cO8_iiri yhn 1 6 yhnc yhnn), (cAI g yhnc 6 yhnf), (cO8_iiri yhm 4 3 yhmc yhmn), (cAI g yhmc 12 yhmf), (cO7_rrrrii nw zr zm zw zp zmd ztr), (cO8_iiri zr 8 3 zrc zrn), (cAI g zrc 24 zrf), (cO8_iiri zm 12 3 zmc zmn), (cAI g zmc 36 zmf), (cO8_iiri zw 6 3 zwc zwn), (cAI g zwc 18 zwf), (cO8_iiri zp 8 2 zpc zpn), (cAI g zpc 16 zpf), (cO10_vrrvrvrvvi h0 v0h0 tl nw v3h0 nn v5h0 rd v7h0 v8h0 tr2_15), (cO3_vrvvrrvv tl v0tl yhn v2tl v3tl yhm yhb v6tl v7tl), (cO8_iiri yhb 1 3 yhbc yhbn), (cAI g yhbc 3 yhbf)] [0, 1, 2, 3, 4, 5] [6, 7, 8, 9, 10, 11, 12, 13, 14, 15, 16, 17, 18, 19, 20, 21, 22] (r_carry l g rd nn r_16 r_18 p2 rb xa xw rbc rbn rbf nr xsnapped2_2 xmostSlip2_3 xslip2_4 xisDrawn2_5 xseed2_6 xtick2_7 xmotorTick2_8 xahead2_9 nrc nrk_11 nrg_10) dX10_waits_47 mw1298 mw1299 mw1300 mw39 mw1301 rfl 6 rfl rfl 0 _ rfl yk_yX6_carry_4 rfl (Nat.le_of_ble_eq_true rfl) (Nat.le_of_ble_eq_true rfl) (Nat.le_of_ble_eq_true rfl) (Nat.le_of_ble_eq_true rfl) (Nat.le_of_ble_eq_true rfl) rfl rfl (by decide +kernel) rfl (by decide +kernel) (by decide +kernel) ?_
    rintro w ⟨xa2_20, xw2_21, rbg_22, rfl⟩
    refine k_ws [(cO8_iiri yhn 1 6 yhnc yhnn), (cAI g yhnc 6 yhnf), (cO8_iiri yhm 4 3 yhmc yhmn), (cAI g yhmc 12 yhmf), (cO7_rrrrii nw zr zm zw zp zmd ztr), (cO8_iiri zr 8 3 zrc zrn), (cAI g zrc 24 zrf), (cO8_iiri zm 12 3 zmc zmn), (cAI g zmc 36 zmf), (cO8_iiri zw 6 3 zwc zwn), (cAI g zwc 18 zwf), (cO8_iiri zp 8 2 zpc zpn), (cAI g zpc 16 zpf), (cO10_vrrvrvrvvi h0 v0h0 tl nw v3h0 nn v5h0 rd v7h0 v8h0 tr2_15), (cO3_vrvvrrvv tl v0tl yhn v2tl v3tl yhm yhb v6tl v7tl), (cO8_iiri yhb 1 3 yhbc yhbn), (cAI g yhbc 3 yhbf), (cO6_rii rd rb xa2_20 xw2_21), (cO8_iiri rb 4 1 rbc rbn), (cAI g rbc 4 rbg_22), (cO5_riiiiiiii nn nr xsnapped2_2 xmostSlip2_3 xslip2_4 xisDrawn2_5 xseed2_6 xtick2_7 xmotorTick2_8 xahead2_9), (cO8_iiri nr 8 10 nrc nrk_11), (cAI g nrc 80 nrg_10)] rfl ?_
    refine k_aload_n X dX10_waits_50 1 rfl ?_
    refine k_aload_n X dX10_waits_51 1 rfl ?_
    refine k_get (ci := 10) X inlX10 rfl 6 (by decide) dX10_waits_52 mw40 13 rfl rfl ?_
    refine k_get (ci := 6) X inlX6 rfl 2 (by decide) dX10_waits_55 mw1331 17 rfl rfl ?_
    refine k_callVI (n := 1) (As := [.int xw2_21]) (st := []) X [(cO10_vrrvrvrvvi h0 v0h0 tl nw v3h0 nn v5h0 rd v7h0 v8h0 tr2_15)] [(cO8_iiri yhn 1 6 yhnc yhnn), (cAI g yhnc 6 yhnf), (cO8_iiri yhm 4 3 yhmc yhmn), (cAI g yhmc 12 yhmf), (cO7_rrrrii nw zr zm zw zp zmd ztr), (cO8_iiri zr 8 3 zrc zrn), (cAI g zrc 24 zrf), (cO8_iiri zm 12 3 zmc zmn), (cAI g zmc 36 zmf), (cO8_iiri zw 6 3 zwc zwn), (cAI g zwc 18 zwf), (cO8_iiri zp 8 2 zpc zpn), (cAI g zpc 16 zpf), (cO3_vrvvrrvv tl v0tl yhn v2tl v3tl yhm yhb v6tl v7tl), (cO8_iiri yhb 1 3 yhbc yhbn), (cAI g yhbc 3 yhbf), (cO6_rii rd rb xa2_20 xw2_21), (cO8_iiri rb 4 1 rbc rbn), (cAI g rbc 4 rbg_22), (cO5_riiiiiiii nn nr xsnapped2_2 xmostSlip2_3 xslip2_4 xisDrawn2_5 xseed2_6 xtick2_7 xmotorTick2_8 xahead2_9), (cO8_iiri nr 8 10 nrc nrk_11), (cAI g nrc 80 nrg_10)] [13] [0, 1, 2, 3, 4, 5, 6, 7, 8, 9, 10, 11, 12, 14, 15, 16, 17, 18, 19, 20, 21, 22] (c_tell l g h0 xw2_21 v0h0 (.ref tl) (.ref nw) v3h0 (.ref nn) v5h0 (.ref rd) v7h0 v8h0 tr2_15) dX10_waits_58 mw460 mw461 mw462 mw2 mw463 rfl 10 rfl rfl 0 _ rfl yk_yX10_tell_1 rfl (Nat.le_of_ble_eq_true rfl) (Nat.le_of_ble_eq_true rfl) (Nat.le_of_ble_eq_true rfl) (Nat.le_of_ble_eq_true rfl) (Nat.le_of_ble_eq_true rfl) rfl rfl (by decide +kernel) rfl (by decide +kernel) (by decide +kernel) ?_
    rintro r_26 w ⟨tr2_25, rfl⟩
    refine k_ws [(cO8_iiri yhn 1 6 yhnc yhnn), (cAI g yhnc 6 yhnf), (cO8_iiri yhm 4 3 yhmc yhmn), (cAI g yhmc 12 yhmf), (cO7_rrrrii nw zr zm zw zp zmd ztr), (cO8_iiri zr 8 3 zrc zrn), (cAI g zrc 24 zrf), (cO8_iiri zm 12 3 zmc zmn), (cAI g zmc 36 zmf), (cO8_iiri zw 6 3 zwc zwn), (cAI g zwc 18 zwf), (cO8_iiri zp 8 2 zpc zpn), (cAI g zpc 16 zpf), (cO3_vrvvrrvv tl v0tl yhn v2tl v3tl yhm yhb v6tl v7tl), (cO8_iiri yhb 1 3 yhbc yhbn), (cAI g yhbc 3 yhbf), (cO6_rii rd rb xa2_20 xw2_21), (cO8_iiri rb 4 1 rbc rbn), (cAI g rbc 4 rbg_22), (cO5_riiiiiiii nn nr xsnapped2_2 xmostSlip2_3 xslip2_4 xisDrawn2_5 xseed2_6 xtick2_7 xmotorTick2_8 xahead2_9), (cO8_iiri nr 8 10 nrc nrk_11), (cAI g nrc 80 nrg_10), (cO10_vrrvrvrvvi h0 v0h0 tl nw v3h0 nn v5h0 rd v7h0 v8h0 tr2_25)] rfl ?_
    exact k_iret X hr dX10_waits_61 (Nat.le_of_ble_eq_true rfl) (Nat.le_of_ble_eq_true rfl) [22, 19, 20, 21, 13, 0, 1, 2, 3, 14, 15, 4, 5, 6, 7, 8, 9, 10, 11, 12, 16, 17, 18] (by decide) rfl rfl ⟨tr2_25, xsnapped2_2, xmostSlip2_3, xslip2_4, xisDrawn2_5, xseed2_6, xtick2_7, xmotorTick2_8, xahead2_9, nrg_10, nrk_11, xa2_20, xw2_21, rbg_22, (by assumption), rfl⟩
  · skip
    refine k_aload_n X dX10_waits_14 1 rfl ?_
    refine k_iload X dX10_waits_15 0 rfl ?_
    refine k_callVI (n := 1) (As := [.int r_12]) (st := []) X [(cO10_vrrvrvrvvi h0 v0h0 tl nw v3h0 nn v5h0 rd v7h0 v8h0 tr2_1)] [(cO6_rii rd rb xa xw), (cO8_iiri rb 4 1 rbc rbn), (cAI g rbc 4 rbf), (cO5_riiiiiiii nn nr xsnapped2_2 xmostSlip2_3 xslip2_4 xisDrawn2_5 xseed2_6 xtick2_7 xmotorTick2_8 xahead2_9), (cO8_iiri nr 8 10 nrc nrk_11), (cAI g nrc 80 nrg_10), (cO3_vrvvrrvv tl v0tl yhn v2tl v3tl yhm yhb v6tl v7tl), (cO8_iiri yhn 1 6 yhnc yhnn), (cAI g yhnc 6 yhnf), (cO8_iiri yhm 4 3 yhmc yhmn), (cAI g yhmc 12 yhmf), (cO8_iiri yhb 1 3 yhbc yhbn), (cAI g yhbc 3 yhbf), (cO7_rrrrii nw zr zm zw zp zmd ztr), (cO8_iiri zr 8 3 zrc zrn), (cAI g zrc 24 zrf), (cO8_iiri zm 12 3 zmc zmn), (cAI g zmc 36 zmf), (cO8_iiri zw 6 3 zwc zwn), (cAI g zwc 18 zwf), (cO8_iiri zp 8 2 zpc zpn), (cAI g zpc 16 zpf)] [3] [0, 1, 2, 4, 5, 6, 7, 8, 9, 10, 11, 12, 13, 14, 15, 16, 17, 18, 19, 20, 21, 22] (c_refuse l g h0 r_12 v0h0 (.ref tl) (.ref nw) v3h0 (.ref nn) v5h0 (.ref rd) v7h0 v8h0 tr2_1) dX10_waits_17 mw215 mw216 mw217 mw2 mw218 rfl 10 rfl rfl 0 _ rfl yk_yX10_refuse_1 rfl (Nat.le_of_ble_eq_true rfl) (Nat.le_of_ble_eq_true rfl) (Nat.le_of_ble_eq_true rfl) (Nat.le_of_ble_eq_true rfl) (Nat.le_of_ble_eq_true rfl) rfl rfl (by decide +kernel) rfl (by decide +kernel) (by decide +kernel) ?_
    rintro r_29 w ⟨tr2_28, rfl⟩
    refine k_ws [(cO6_rii rd rb xa xw), (cO8_iiri rb 4 1 rbc rbn), (cAI g rbc 4 rbf), (cO5_riiiiiiii nn nr xsnapped2_2 xmostSlip2_3 xslip2_4 xisDrawn2_5 xseed2_6 xtick2_7 xmotorTick2_8 xahead2_9), (cO8_iiri nr 8 10 nrc nrk_11), (cAI g nrc 80 nrg_10), (cO3_vrvvrrvv tl v0tl yhn v2tl v3tl yhm yhb v6tl v7tl), (cO8_iiri yhn 1 6 yhnc yhnn), (cAI g yhnc 6 yhnf), (cO8_iiri yhm 4 3 yhmc yhmn), (cAI g yhmc 12 yhmf), (cO8_iiri yhb 1 3 yhbc yhbn), (cAI g yhbc 3 yhbf), (cO7_rrrrii nw zr zm zw zp zmd ztr), (cO8_iiri zr 8 3 zrc zrn), (cAI g zrc 24 zrf), (cO8_iiri zm 12 3 zmc zmn), (cAI g zmc 36 zmf), (cO8_iiri zw 6 3 zwc zwn), (cAI g zwc 18 zwf), (cO8_iiri zp 8 2 zpc zpn), (cAI g zpc 16 zpf), (cO10_vrrvrvrvvi h0 v0h0 tl nw v3h0 nn v5h0 rd v7h0 v8h0 tr2_28)] rfl ?_
    exact k_iret X hr dX10_waits_20 (Nat.le_of_ble_eq_true rfl) (Nat.le_of_ble_eq_true rfl) [22, 3, 4, 5, 6, 7, 8, 9, 10, 11, 12, 13, 14, 15, 16, 17, 18, 19, 20, 21, 0, 1, 2] (by decide) rfl rfl ⟨tr2_28, xsnapped2_2, xmostSlip2_3, xslip2_4, xisDrawn2_5, xseed2_6, xtick2_7, xmotorTick2_8, xahead2_9, nrg_10, nrk_11, xa, xw, rbf, (by assumption), rfl⟩

theorem dX10_boys_0 : decode cX10_boys 0 = .ok (.aload_n 0, 1) := dk_42 rfl
theorem dX10_boys_1 : decode cX10_boys 1 = .ok (.iload_n 1, 1) := dk_27 rfl
theorem dX10_boys_2 : decode cX10_boys 2 = .ok (.iconst 0, 1) := dk_3 rfl
theorem dX10_boys_3 : decode cX10_boys 3 = .ok (.iconst 0, 1) := dk_3 rfl
theorem dX10_boys_4 : decode cX10_boys 4 = .ok (.invokevirtual 294, 3) := dk_182 rfl rfl rfl rfl
theorem dX10_boys_7 : decode cX10_boys 7 = .ok (.istore_n 2, 1) := dk_61 rfl
theorem dX10_boys_8 : decode cX10_boys 8 = .ok (.iload_n 2, 1) := dk_28 rfl
theorem dX10_boys_9 : decode cX10_boys 9 = .ok (.ifCond .eq 9, 3) := dk_153 rfl rfl rfl (by decide)
theorem dX10_boys_12 : decode cX10_boys 12 = .ok (.aload_n 0, 1) := dk_42 rfl
theorem dX10_boys_13 : decode cX10_boys 13 = .ok (.iload_n 2, 1) := dk_28 rfl
theorem dX10_boys_14 : decode cX10_boys 14 = .ok (.invokevirtual 83, 3) := dk_182 rfl rfl rfl rfl
theorem dX10_boys_17 : decode cX10_boys 17 = .ok (.ireturn, 1) := dk_172 rfl
theorem dX10_boys_18 : decode cX10_boys 18 = .ok (.aload_n 0, 1) := dk_42 rfl
theorem dX10_boys_19 : decode cX10_boys 19 = .ok (.iconst 4, 1) := dk_7 rfl
theorem dX10_boys_20 : decode cX10_boys 20 = .ok (.invokevirtual 300, 3) := dk_182 rfl rfl rfl rfl
theorem dX10_boys_23 : decode cX10_boys 23 = .ok (.istore_n 3, 1) := dk_62 rfl
theorem dX10_boys_24 : decode cX10_boys 24 = .ok (.iconst 1, 1) := dk_4 rfl
theorem dX10_boys_25 : decode cX10_boys 25 = .ok (.istore 4, 2) := dk_54 rfl rfl rfl
theorem dX10_boys_27 : decode cX10_boys 27 = .ok (.iload 4, 2) := dk_21 rfl rfl rfl
theorem dX10_boys_29 : decode cX10_boys 29 = .ok (.iconst 4, 1) := dk_7 rfl
theorem dX10_boys_30 : decode cX10_boys 30 = .ok (.if_icmp .ge 19, 3) := dk_162 rfl rfl rfl (by decide)
theorem dX10_boys_33 : decode cX10_boys 33 = .ok (.aload_n 0, 1) := dk_42 rfl
theorem dX10_boys_34 : decode cX10_boys 34 = .ok (.iload 4, 2) := dk_21 rfl rfl rfl
theorem dX10_boys_36 : decode cX10_boys 36 = .ok (.invokevirtual 300, 3) := dk_182 rfl rfl rfl rfl
theorem dX10_boys_39 : decode cX10_boys 39 = .ok (.iload_n 3, 1) := dk_29 rfl
theorem dX10_boys_40 : decode cX10_boys 40 = .ok (.if_icmp .le 9, 3) := dk_164 rfl rfl rfl (by decide)
theorem dX10_boys_43 : decode cX10_boys 43 = .ok (.iinc 4 1, 3) := dk_132 rfl rfl rfl rfl (by decide)
theorem dX10_boys_46 : decode cX10_boys 46 = .ok (.goto (-19), 3) := dk_167 rfl rfl rfl (by decide)
theorem dX10_boys_49 : decode cX10_boys 49 = .ok (.aload_n 0, 1) := dk_42 rfl
theorem dX10_boys_50 : decode cX10_boys 50 = .ok (.iload 4, 2) := dk_21 rfl rfl rfl
theorem dX10_boys_52 : decode cX10_boys 52 = .ok (.invokevirtual 118, 3) := dk_182 rfl rfl rfl rfl
theorem dX10_boys_55 : decode cX10_boys 55 = .ok (.ireturn, 1) := dk_172 rfl
set_option maxHeartbeats 4000000 in
set_option maxRecDepth 100000 in
theorem c_boys (l : Launch) (g : Gx) (h0 : Nat) (p0 : Int32) (v0h0 : Value) (tl : Nat) (nw : Nat) (v3h0 : Value) (nn : Nat) (v5h0 : Value) (rd : Nat) (v7h0 : Value) (v8h0 : Value) (tr : Int32) (nr : Nat) (xsnapped : Int32) (xmostSlip : Int32) (xslip : Int32) (xisDrawn : Int32) (xseed : Int32) (xtick : Int32) (xmotorTick : Int32) (xahead : Int32) (nrc : Nat) (nrn : Int32) (nrf : Nat → Int32) (v0tl : Value) (yhn : Nat) (v2tl : Value) (v3tl : Value) (yhm : Nat) (yhb : Nat) (v6tl : Value) (v7tl : Value) (yhnc : Nat) (yhnn : Int32) (yhnf : Nat → Int32) (yhmc : Nat) (yhmn : Int32) (yhmf : Nat → Int32) (yhbc : Nat) (yhbn : Int32) (yhbf : Nat → Int32) (zr : Nat) (zm : Nat) (zw : Nat) (zp : Nat) (zmd : Int32) (ztr : Int32) (zrc : Nat) (zrn : Int32) (zrf : Nat → Int32) (zmc : Nat) (zmn : Int32) (zmf : Nat → Int32) (zwc : Nat) (zwn : Int32) (zwf : Nat → Int32) (zpc : Nat) (zpn : Int32) (zpf : Nat → Int32) (rb : Nat) (xa : Int32) (xw : Int32) (rbc : Nat) (rbn : Int32) (rbf : Nat → Int32) (hms : ¬ xmostSlip < 0) : cI l g yX10_boys cX10_boys 5 (some .int) 6 141 0 0 [.ref h0, .int p0] [(cO10_vrrvrvrvvi h0 v0h0 tl nw v3h0 nn v5h0 rd v7h0 v8h0 tr), (cO5_riiiiiiii nn nr xsnapped xmostSlip xslip xisDrawn xseed xtick xmotorTick xahead), (cO8_iiri nr 8 10 nrc nrn), (cAI g nrc 80 nrf), (cO3_vrvvrrvv tl v0tl yhn v2tl v3tl yhm yhb v6tl v7tl), (cO8_iiri yhn 1 6 yhnc yhnn), (cAI g yhnc 6 yhnf), (cO8_iiri yhm 4 3 yhmc yhmn), (cAI g yhmc 12 yhmf), (cO8_iiri yhb 1 3 yhbc yhbn), (cAI g yhbc 3 yhbf), (cO7_rrrrii nw zr zm zw zp zmd ztr), (cO8_iiri zr 8 3 zrc zrn), (cAI g zrc 24 zrf), (cO8_iiri zm 12 3 zmc zmn), (cAI g zmc 36 zmf), (cO8_iiri zw 6 3 zwc zwn), (cAI g zwc 18 zwf), (cO8_iiri zp 8 2 zpc zpn), (cAI g zpc 16 zpf), (cO6_rii rd rb xa xw), (cO8_iiri rb 4 1 rbc rbn), (cAI g rbc 4 rbf)] (fun r w => ∃ (tr2 : Int32) (xsnapped2 : Int32) (xmostSlip2 : Int32) (xslip2 : Int32) (xisDrawn2 : Int32) (xseed2 : Int32) (xtick2 : Int32) (xmotorTick2 : Int32) (xahead2 : Int32) (nrg : Nat → Int32) (nrk : Int32) (xa2 : Int32) (xw2 : Int32) (rbg : Nat → Int32), (¬ xmostSlip2 < 0) ∧ w = [(cO10_vrrvrvrvvi h0 v0h0 tl nw v3h0 nn v5h0 rd v7h0 v8h0 tr2), (cO5_riiiiiiii nn nr xsnapped2 xmostSlip2 xslip2 xisDrawn2 xseed2 xtick2 xmotorTick2 xahead2), (cO8_iiri nr 8 10 nrc nrk), (cAI g nrc 80 nrg), (cO3_vrvvrrvv tl v0tl yhn v2tl v3tl yhm yhb v6tl v7tl), (cO8_iiri yhn 1 6 yhnc yhnn), (cAI g yhnc 6 yhnf), (cO8_iiri yhm 4 3 yhmc yhmn), (cAI g yhmc 12 yhmf), (cO8_iiri yhb 1 3 yhbc yhbn), (cAI g yhbc 3 yhbf), (cO7_rrrrii nw zr zm zw zp zmd ztr), (cO8_iiri zr 8 3 zrc zrn), (cAI g zrc 24 zrf), (cO8_iiri zm 12 3 zmc zmn), (cAI g zmc 36 zmf), (cO8_iiri zw 6 3 zwc zwn), (cAI g zwc 18 zwf), (cO8_iiri zp 8 2 zpc zpn), (cAI g zpc 16 zpf), (cO6_rii rd rb xa2 xw2), (cO8_iiri rb 4 1 rbc rbn), (cAI g rbc 4 rbg)]) := by
  refine cI.of (by decide) (Nat.le_of_ble_eq_true rfl) ?_
  intro p e s m args below meth c A X hr hi
  refine k_lveq [(0, .ref h0), (1, .int p0)] rfl ?_
  refine k_aload_n X dX10_boys_0 0 rfl ?_
  refine k_iload_n X dX10_boys_1 1 rfl ?_
  refine k_iconst (v := 0) X dX10_boys_2 (by decide) ?_
  refine k_iconst (v := 0) X dX10_boys_3 (by decide) ?_
  refine k_callVI (n := 3) (As := [.int p0, .int 0, .int 0]) (st := []) X [(cO10_vrrvrvrvvi h0 v0h0 tl nw v3h0 nn v5h0 rd v7h0 v8h0 tr), (cO5_riiiiiiii nn nr xsnapped xmostSlip xslip xisDrawn xseed xtick xmotorTick xahead), (cO8_iiri nr 8 10 nrc nrn), (cAI g nrc 80 nrf), (cO3_vrvvrrvv tl v0tl yhn v2tl v3tl yhm yhb v6tl v7tl), (cO8_iiri yhn 1 6 yhnc yhnn), (cAI g yhnc 6 yhnf), (cO8_iiri yhm 4 3 yhmc yhmn), (cAI g yhmc 12 yhmf), (cO8_iiri yhb 1 3 yhbc yhbn), (cAI g yhbc 3 yhbf), (cO7_rrrrii nw zr zm zw zp zmd ztr), (cO8_iiri zr 8 3 zrc zrn), (cAI g zrc 24 zrf), (cO8_iiri zm 12 3 zmc zmn), (cAI g zmc 36 zmf), (cO8_iiri zw 6 3 zwc zwn), (cAI g zwc 18 zwf), (cO8_iiri zp 8 2 zpc zpn), (cAI g zpc 16 zpf)] [(cO6_rii rd rb xa xw), (cO8_iiri rb 4 1 rbc rbn), (cAI g rbc 4 rbf)] [0, 1, 2, 3, 4, 5, 6, 7, 8, 9, 10, 11, 12, 13, 14, 15, 16, 17, 18, 19] [20, 21, 22] (c_rideTrouble l g h0 p0 0 0 v0h0 tl nw v3h0 nn v5h0 (.ref rd) v7h0 v8h0 tr nr xsnapped xmostSlip xslip xisDrawn xseed xtick xmotorTick xahead nrc nrn nrf v0tl yhn v2tl v3tl yhm yhb v6tl v7tl yhnc yhnn yhnf yhmc yhmn yhmf yhbc yhbn yhbf zr zm zw zp zmd ztr zrc zrn zrf zmc zmn zmf zwc zwn zwf zpc zpn zpf (by assumption)) dX10_boys_4 mw1284 mw1285 mw1286 mw2 mw1287 rfl 10 rfl rfl 0 _ rfl yk_yX10_rideTrouble_3 rfl (Nat.le_of_ble_eq_true rfl) (Nat.le_of_ble_eq_true rfl) (Nat.le_of_ble_eq_true rfl) (Nat.le_of_ble_eq_true rfl) (Nat.le_of_ble_eq_true rfl) rfl rfl (by decide +kernel) rfl (by decide +kernel) (by decide +kernel) ?_
  intro r_12 w zq
  refine exE11 zq ?_
  clear zq
  intro tr2_1 xsnapped2_2 xmostSlip2_3 xslip2_4 xisDrawn2_5 xseed2_6 xtick2_7 xmotorTick2_8 xahead2_9 nrg_10 nrk_11 hr_13 zq
  subst zq
  refine k_ws [(cO6_rii rd rb xa xw), (cO8_iiri rb 4 1 rbc rbn), (cAI g rbc 4 rbf), (cO10_vrrvrvrvvi h0 v0h0 tl nw v3h0 nn v5h0 rd v7h0 v8h0 tr2_1), (cO5_riiiiiiii nn nr xsnapped2_2 xmostSlip2_3 xslip2_4 xisDrawn2_5 xseed2_6 xtick2_7 xmotorTick2_8 xahead2_9), (cO8_iiri nr 8 10 nrc nrk_11), (cAI g nrc 80 nrg_10), (cO3_vrvvrrvv tl v0tl yhn v2tl v3tl yhm yhb v6tl v7tl), (cO8_iiri yhn 1 6 yhnc yhnn), (cAI g yhnc 6 yhnf), (cO8_iiri yhm 4 3 yhmc yhmn), (cAI g yhmc 12 yhmf), (cO8_iiri yhb 1 3 yhbc yhbn), (cAI g yhbc 3 yhbf), (cO7_rrrrii nw zr zm zw zp zmd ztr), (cO8_iiri zr 8 3 zrc zrn), (cAI g zrc 24 zrf), (cO8_iiri zm 12 3 zmc zmn), (cAI g zmc 36 zmf), (cO8_iiri zw 6 3 zwc zwn), (cAI g zwc 18 zwf), (cO8_iiri zp 8 2 zpc zpn), (cAI g zpc 16 zpf)] rfl ?_
  refine k_istore_n [(2, .int r_12), (0, .ref h0), (1, .int p0)] X dX10_boys_7 (by decide) rfl ?_
  refine k_iload_n X dX10_boys_8 0 rfl ?_
  refine k_if_eq 18 X dX10_boys_9 (by decide) (fun h_14 => ?_) (fun h_14 => ?_)
  · skip
    refine k_aload_n X dX10_boys_18 1 rfl ?_
    refine k_iconst (v := 4) X dX10_boys_19 (by decide) ?_
    refine k_callVI (n := 1) (As := [.int 4]) (st := []) X [(cO10_vrrvrvrvvi h0 v0h0 tl nw v3h0 nn v5h0 rd v7h0 v8h0 tr2_1), (cO5_riiiiiiii nn nr xsnapped2_2 xmostSlip2_3 xslip2_4 xisDrawn2_5 xseed2_6 xtick2_7 xmotorTick2_8 xahead2_9), (cO8_iiri nr 8 10 nrc nrk_11), (cAI g nrc 80 nrg_10), (cO3_vrvvrrvv tl v0tl yhn v2tl v3tl yhm yhb v6tl v7tl), (cO8_iiri yhb 1 3 yhbc yhbn), (cAI g yhbc 3 yhbf), (cO6_rii rd rb xa xw), (cO8_iiri rb 4 1 rbc rbn), (cAI g rbc 4 rbf)] [(cO8_iiri yhn 1 6 yhnc yhnn), (cAI g yhnc 6 yhnf), (cO8_iiri yhm 4 3 yhmc yhmn), (cAI g yhmc 12 yhmf), (cO7_rrrrii nw zr zm zw zp zmd ztr), (cO8_iiri zr 8 3 zrc zrn), (cAI g zrc 24 zrf), (cO8_iiri zm 12 3 zmc zmn), (cAI g zmc 36 zmf), (cO8_iiri zw 6 3 zwc zwn), (cAI g zwc 18 zwf), (cO8_iiri zp 8 2 zpc zpn), (cAI g zpc 16 zpf)] [3, 4, 5, 6, 7, 12, 13, 0, 1, 2] [8, 9, 10, 11, 14, 15, 16, 17, 18, 19, 20, 21, 22] (c_apartBy l g h0 4 v0h0 tl (.ref nw) v3h0 nn v5h0 rd v7h0 v8h0 tr2_1 nr xsnapped2_2 xmostSlip2_3 xslip2_4 xisDrawn2_5 xseed2_6 xtick2_7 xmotorTick2_8 xahead2_9 nrc nrk_11 nrg_10 v0tl (.ref yhn) v2tl v3tl (.ref yhm) yhb v6tl v7tl yhbc yhbn yhbf rb xa xw rbc rbn rbf) dX10_boys_20 mw1293 mw1294 mw1295 mw2 mw1296 rfl 10 rfl rfl 0 _ rfl yk_yX10_apartBy_1 rfl (Nat.le_of_ble_eq_true rfl) (Nat.le_of_ble_eq_true rfl) (Nat.le_of_ble_eq_true rfl) (Nat.le_of_ble_eq_true rfl) (Nat.le_of_ble_eq_true rfl) rfl rfl (by decide +kernel) rfl (by decide +kernel) (by decide +kernel) ?_
    rintro r_19 w ⟨tr2_15, xa2_16, xw2_17, rbg_18, rfl⟩
    refine k_ws [(cO8_iiri yhn 1 6 yhnc yhnn), (cAI g yhnc 6 yhnf), (cO8_iiri yhm 4 3 yhmc yhmn), (cAI g yhmc 12 yhmf), (cO7_rrrrii nw zr zm zw zp zmd ztr), (cO8_iiri zr 8 3 zrc zrn), (cAI g zrc 24 zrf), (cO8_iiri zm 12 3 zmc zmn), (cAI g zmc 36 zmf), (cO8_iiri zw 6 3 zwc zwn), (cAI g zwc 18 zwf), (cO8_iiri zp 8 2 zpc zpn), (cAI g zpc 16 zpf), (cO10_vrrvrvrvvi h0 v0h0 tl nw v3h0 nn v5h0 rd v7h0 v8h0 tr2_15), (cO5_riiiiiiii nn nr xsnapped2_2 xmostSlip2_3 xslip2_4 xisDrawn2_5 xseed2_6 xtick2_7 xmotorTick2_8 xahead2_9), (cO8_iiri nr 8 10 nrc nrk_11), (cAI g nrc 80 nrg_10), (cO3_vrvvrrvv tl v0tl yhn v2tl v3tl yhm yhb v6tl v7tl), (cO8_iiri yhb 1 3 yhbc yhbn), (cAI g yhbc 3 yhbf), (cO6_rii rd rb xa2_16 xw2_17), (cO8_iiri rb 4 1 rbc rbn), (cAI g rbc 4 rbg_18)] rfl ?_
    refine k_istore_n [(3, .int r_19), (2, .int r_12), (0, .ref h0), (1, .int p0)] X dX10_boys_23 (by decide) rfl ?_
    refine k_iconst (v := 1) X dX10_boys_24 (by decide) ?_
    refine k_istore [(4, .int 1), (3, .int r_19), (2, .int r_12), (0, .ref h0), (1, .int p0)] X dX10_boys_25 (by decide) rfl ?_
    refine (fun hL : ∀ (nn_26 : Nat) (u_21 : Int32) (uf_22 : Nat → Int32) (u_23 : Int32) (u_24 : Int32) (u_25 : Int32), ((4 : Int32).toInt - u_21.toInt).toNat = nn_26 → Wk p l e _ s m args below meth c _ A g _ _ _ [(cO8_iiri yhn 1 6 yhnc yhnn), (cAI g yhnc 6 yhnf), (cO8_iiri yhm 4 3 yhmc yhmn), (cAI g yhmc 12 yhmf), (cO7_rrrrii nw zr zm zw zp zmd ztr), (cO8_iiri zr 8 3 zrc zrn), (cAI g zrc 24 zrf), (cO8_iiri zm 12 3 zmc zmn), (cAI g zmc 36 zmf), (cO8_iiri zw 6 3 zwc zwn), (cAI g zwc 18 zwf), (cO8_iiri zp 8 2 zpc zpn), (cAI g zpc 16 zpf), (cO10_vrrvrvrvvi h0 v0h0 tl nw v3h0 nn v5h0 rd v7h0 v8h0 u_23), (cO5_riiiiiiii nn nr xsnapped2_2 xmostSlip2_3 xslip2_4 xisDrawn2_5 xseed2_6 xtick2_7 xmotorTick2_8 xahead2_9), (cO8_iiri nr 8 10 nrc nrk_11), (cAI g nrc 80 nrg_10), (cO3_vrvvrrvv tl v0tl yhn v2tl v3tl yhm yhb v6tl v7tl), (cO8_iiri yhb 1 3 yhbc yhbn), (cAI g yhbc 3 yhbf), (cO6_rii rd rb u_24 u_25), (cO8_iiri rb 4 1 rbc rbn), (cAI g rbc 4 uf_22)] [(4, .int u_21), (3, .int r_19), (2, .int r_12), (0, .ref h0), (1, .int p0)] 27 [] => hL _ 1 rbg_18 tr2_15 xa2_16 xw2_17 rfl ) ?_
    refine fun nn_26 => Nat.strongRecOn nn_26 (fun nn_26 ih_28 => ?_)
    intro u_21 uf_22 u_23 u_24 u_25 hm_27 
    refine k_iload X dX10_boys_27 0 rfl ?_
    refine k_iconst (v := 4) X dX10_boys_29 (by decide) ?_
    refine k_ic_ge 49 X dX10_boys_30 (by decide) (fun h_29 => ?_) (fun h_29 => ?_)
    · skip
      refine k_aload_n X dX10_boys_49 3 rfl ?_
      refine k_iload X dX10_boys_50 0 rfl ?_
      refine k_callVI (n := 1) (As := [.int u_21]) (st := []) X [(cO10_vrrvrvrvvi h0 v0h0 tl nw v3h0 nn v5h0 rd v7h0 v8h0 u_23)] [(cO8_iiri yhn 1 6 yhnc yhnn), (cAI g yhnc 6 yhnf), (cO8_iiri yhm 4 3 yhmc yhmn), (cAI g yhmc 12 yhmf), (cO7_rrrrii nw zr zm zw zp zmd ztr), (cO8_iiri zr 8 3 zrc zrn), (cAI g zrc 24 zrf), (cO8_iiri zm 12 3 zmc zmn), (cAI g zmc 36 zmf), (cO8_iiri zw 6 3 zwc zwn), (cAI g zwc 18 zwf), (cO8_iiri zp 8 2 zpc zpn), (cAI g zpc 16 zpf), (cO5_riiiiiiii nn nr xsnapped2_2 xmostSlip2_3 xslip2_4 xisDrawn2_5 xseed2_6 xtick2_7 xmotorTick2_8 xahead2_9), (cO8_iiri nr 8 10 nrc nrk_11), (cAI g nrc 80 nrg_10), (cO3_vrvvrrvv tl v0tl yhn v2tl v3tl yhm yhb v6tl v7tl), (cO8_iiri yhb 1 3 yhbc yhbn), (cAI g yhbc 3 yhbf), (cO6_rii rd rb u_24 u_25), (cO8_iiri rb 4 1 rbc rbn), (cAI g rbc 4 uf_22)] [13] [0, 1, 2, 3, 4, 5, 6, 7, 8, 9, 10, 11, 12, 14, 15, 16, 17, 18, 19, 20, 21, 22] (c_tell l g h0 u_21 v0h0 (.ref tl) (.ref nw) v3h0 (.ref nn) v5h0 (.ref rd) v7h0 v8h0 u_23) dX10_boys_52 mw460 mw461 mw462 mw2 mw463 rfl 10 rfl rfl 0 _ rfl yk_yX10_tell_1 rfl (Nat.le_of_ble_eq_true rfl) (Nat.le_of_ble_eq_true rfl) (Nat.le_of_ble_eq_true rfl) (Nat.le_of_ble_eq_true rfl) (Nat.le_of_ble_eq_true rfl) rfl rfl (by decide +kernel) rfl (by decide +kernel) (by decide +kernel) ?_
      rintro r_31 w ⟨tr2_30, rfl⟩
      refine k_ws [(cO8_iiri yhn 1 6 yhnc yhnn), (cAI g yhnc 6 yhnf), (cO8_iiri yhm 4 3 yhmc yhmn), (cAI g yhmc 12 yhmf), (cO7_rrrrii nw zr zm zw zp zmd ztr), (cO8_iiri zr 8 3 zrc zrn), (cAI g zrc 24 zrf), (cO8_iiri zm 12 3 zmc zmn), (cAI g zmc 36 zmf), (cO8_iiri zw 6 3 zwc zwn), (cAI g zwc 18 zwf), (cO8_iiri zp 8 2 zpc zpn), (cAI g zpc 16 zpf), (cO5_riiiiiiii nn nr xsnapped2_2 xmostSlip2_3 xslip2_4 xisDrawn2_5 xseed2_6 xtick2_7 xmotorTick2_8 xahead2_9), (cO8_iiri nr 8 10 nrc nrk_11), (cAI g nrc 80 nrg_10), (cO3_vrvvrrvv tl v0tl yhn v2tl v3tl yhm yhb v6tl v7tl), (cO8_iiri yhb 1 3 yhbc yhbn), (cAI g yhbc 3 yhbf), (cO6_rii rd rb u_24 u_25), (cO8_iiri rb 4 1 rbc rbn), (cAI g rbc 4 uf_22), (cO10_vrrvrvrvvi h0 v0h0 tl nw v3h0 nn v5h0 rd v7h0 v8h0 tr2_30)] rfl ?_
      exact k_iret X hr dX10_boys_55 (Nat.le_of_ble_eq_true rfl) (Nat.le_of_ble_eq_true rfl) [22, 13, 14, 15, 16, 0, 1, 2, 3, 17, 18, 4, 5, 6, 7, 8, 9, 10, 11, 12, 19, 20, 21] (by decide) rfl rfl ⟨tr2_30, xsnapped2_2, xmostSlip2_3, xslip2_4, xisDrawn2_5, xseed2_6, xtick2_7, xmotorTick2_8, xahead2_9, nrg_10, nrk_11, u_24, u_25, uf_22, (by assumption), rfl⟩
    · skip
      refine k_aload_n X dX10_boys_33 3 rfl ?_
      refine k_iload X dX10_boys_34 0 rfl ?_
      refine k_callVI (n := 1) (As := [.int u_21]) (st := []) X [(cO10_vrrvrvrvvi h0 v0h0 tl nw v3h0 nn v5h0 rd v7h0 v8h0 u_23), (cO5_riiiiiiii nn nr xsnapped2_2 xmostSlip2_3 xslip2_4 xisDrawn2_5 xseed2_6 xtick2_7 xmotorTick2_8 xahead2_9), (cO8_iiri nr 8 10 nrc nrk_11), (cAI g nrc 80 nrg_10), (cO3_vrvvrrvv tl v0tl yhn v2tl v3tl yhm yhb v6tl v7tl), (cO8_iiri yhb 1 3 yhbc yhbn), (cAI g yhbc 3 yhbf), (cO6_rii rd rb u_24 u_25), (cO8_iiri rb 4 1 rbc rbn), (cAI g rbc 4 uf_22)] [(cO8_iiri yhn 1 6 yhnc yhnn), (cAI g yhnc 6 yhnf), (cO8_iiri yhm 4 3 yhmc yhmn), (cAI g yhmc 12 yhmf), (cO7_rrrrii nw zr zm zw zp zmd ztr), (cO8_iiri zr 8 3 zrc zrn), (cAI g zrc 24 zrf), (cO8_iiri zm 12 3 zmc zmn), (cAI g zmc 36 zmf), (cO8_iiri zw 6 3 zwc zwn), (cAI g zwc 18 zwf), (cO8_iiri zp 8 2 zpc zpn), (cAI g zpc 16 zpf)] [13, 14, 15, 16, 17, 18, 19, 20, 21, 22] [0, 1, 2, 3, 4, 5, 6, 7, 8, 9, 10, 11, 12] (c_apartBy l g h0 u_21 v0h0 tl (.ref nw) v3h0 nn v5h0 rd v7h0 v8h0 u_23 nr xsnapped2_2 xmostSlip2_3 xslip2_4 xisDrawn2_5 xseed2_6 xtick2_7 xmotorTick2_8 xahead2_9 nrc nrk_11 nrg_10 v0tl (.ref yhn) v2tl v3tl (.ref yhm) yhb v6tl v7tl yhbc yhbn yhbf rb u_24 u_25 rbc rbn uf_22) dX10_boys_36 mw1293 mw1294 mw1295 mw2 mw1296 rfl 10 rfl rfl 0 _ rfl yk_yX10_apartBy_1 rfl (Nat.le_of_ble_eq_true rfl) (Nat.le_of_ble_eq_true rfl) (Nat.le_of_ble_eq_true rfl) (Nat.le_of_ble_eq_true rfl) (Nat.le_of_ble_eq_true rfl) rfl rfl (by decide +kernel) rfl (by decide +kernel) (by decide +kernel) ?_
      rintro r_37 w ⟨tr2_33, xa2_34, xw2_35, rbg_36, rfl⟩
      refine k_ws [(cO8_iiri yhn 1 6 yhnc yhnn), (cAI g yhnc 6 yhnf), (cO8_iiri yhm 4 3 yhmc yhmn), (cAI g yhmc 12 yhmf), (cO7_rrrrii nw zr zm zw zp zmd ztr), (cO8_iiri zr 8 3 zrc zrn), (cAI g zrc 24 zrf), (cO8_iiri zm 12 3 zmc zmn), (cAI g zmc 36 zmf), (cO8_iiri zw 6 3 zwc zwn), (cAI g zwc 18 zwf), (cO8_iiri zp 8 2 zpc zpn), (cAI g zpc 16 zpf), (cO10_vrrvrvrvvi h0 v0h0 tl nw v3h0 nn v5h0 rd v7h0 v8h0 tr2_33), (cO5_riiiiiiii nn nr xsnapped2_2 xmostSlip2_3 xslip2_4 xisDrawn2_5 xseed2_6 xtick2_7 xmotorTick2_8 xahead2_9), (cO8_iiri nr 8 10 nrc nrk_11), (cAI g nrc 80 nrg_10), (cO3_vrvvrrvv tl v0tl yhn v2tl v3tl yhm yhb v6tl v7tl), (cO8_iiri yhb 1 3 yhbc yhbn), (cAI g yhbc 3 yhbf), (cO6_rii rd rb xa2_34 xw2_35), (cO8_iiri rb 4 1 rbc rbn), (cAI g rbc 4 rbg_36)] rfl ?_
      refine k_iload_n X dX10_boys_39 1 rfl ?_
      refine k_ic_le 49 X dX10_boys_40 (by decide) (fun h_39 => ?_) (fun h_39 => ?_)
      · skip
        refine k_aload_n X dX10_boys_49 3 rfl ?_
        refine k_iload X dX10_boys_50 0 rfl ?_
        refine k_callVI (n := 1) (As := [.int u_21]) (st := []) X [(cO10_vrrvrvrvvi h0 v0h0 tl nw v3h0 nn v5h0 rd v7h0 v8h0 tr2_33)] [(cO8_iiri yhn 1 6 yhnc yhnn), (cAI g yhnc 6 yhnf), (cO8_iiri yhm 4 3 yhmc yhmn), (cAI g yhmc 12 yhmf), (cO7_rrrrii nw zr zm zw zp zmd ztr), (cO8_iiri zr 8 3 zrc zrn), (cAI g zrc 24 zrf), (cO8_iiri zm 12 3 zmc zmn), (cAI g zmc 36 zmf), (cO8_iiri zw 6 3 zwc zwn), (cAI g zwc 18 zwf), (cO8_iiri zp 8 2 zpc zpn), (cAI g zpc 16 zpf), (cO5_riiiiiiii nn nr xsnapped2_2 xmostSlip2_3 xslip2_4 xisDrawn2_5 xseed2_6 xtick2_7 xmotorTick2_8 xahead2_9), (cO8_iiri nr 8 10 nrc nrk_11), (cAI g nrc 80 nrg_10), (cO3_vrvvrrvv tl v0tl yhn v2tl v3tl yhm yhb v6tl v7tl), (cO8_iiri yhb 1 3 yhbc yhbn), (cAI g yhbc 3 yhbf), (cO6_rii rd rb xa2_34 xw2_35), (cO8_iiri rb 4 1 rbc rbn), (cAI g rbc 4 rbg_36)] [13] [0, 1, 2, 3, 4, 5, 6, 7, 8, 9, 10, 11, 12, 14, 15, 16, 17, 18, 19, 20, 21, 22] (c_tell l g h0 u_21 v0h0 (.ref tl) (.ref nw) v3h0 (.ref nn) v5h0 (.ref rd) v7h0 v8h0 tr2_33) dX10_boys_52 mw460 mw461 mw462 mw2 mw463 rfl 10 rfl rfl 0 _ rfl yk_yX10_tell_1 rfl (Nat.le_of_ble_eq_true rfl) (Nat.le_of_ble_eq_true rfl) (Nat.le_of_ble_eq_true rfl) (Nat.le_of_ble_eq_true rfl) (Nat.le_of_ble_eq_true rfl) rfl rfl (by decide +kernel) rfl (by decide +kernel) (by decide +kernel) ?_
        rintro r_41 w ⟨tr2_40, rfl⟩
        refine k_ws [(cO8_iiri yhn 1 6 yhnc yhnn), (cAI g yhnc 6 yhnf), (cO8_iiri yhm 4 3 yhmc yhmn), (cAI g yhmc 12 yhmf), (cO7_rrrrii nw zr zm zw zp zmd ztr), (cO8_iiri zr 8 3 zrc zrn), (cAI g zrc 24 zrf), (cO8_iiri zm 12 3 zmc zmn), (cAI g zmc 36 zmf), (cO8_iiri zw 6 3 zwc zwn), (cAI g zwc 18 zwf), (cO8_iiri zp 8 2 zpc zpn), (cAI g zpc 16 zpf), (cO5_riiiiiiii nn nr xsnapped2_2 xmostSlip2_3 xslip2_4 xisDrawn2_5 xseed2_6 xtick2_7 xmotorTick2_8 xahead2_9), (cO8_iiri nr 8 10 nrc nrk_11), (cAI g nrc 80 nrg_10), (cO3_vrvvrrvv tl v0tl yhn v2tl v3tl yhm yhb v6tl v7tl), (cO8_iiri yhb 1 3 yhbc yhbn), (cAI g yhbc 3 yhbf), (cO6_rii rd rb xa2_34 xw2_35), (cO8_iiri rb 4 1 rbc rbn), (cAI g rbc 4 rbg_36), (cO10_vrrvrvrvvi h0 v0h0 tl nw v3h0 nn v5h0 rd v7h0 v8h0 tr2_40)] rfl ?_
        exact k_iret X hr dX10_boys_55 (Nat.le_of_ble_eq_true rfl) (Nat.le_of_ble_eq_true rfl) [22, 13, 14, 15, 16, 0, 1, 2, 3, 17, 18, 4, 5, 6, 7, 8, 9, 10, 11, 12, 19, 20, 21] (by decide) rfl rfl ⟨tr2_40, xsnapped2_2, xmostSlip2_3, xslip2_4, xisDrawn2_5, xseed2_6, xtick2_7, xmotorTick2_8, xahead2_9, nrg_10, nrk_11, xa2_34, xw2_35, rbg_36, (by assumption), rfl⟩
      · skip
        obtain ⟨z_43, ez_43⟩ : ∃ y : Int32, u_21 + Int32.ofInt 1 = y := ⟨_, rfl⟩
        refine k_iinc z_43 [(4, .int z_43), (3, .int r_19), (2, .int r_12), (0, .ref h0), (1, .int p0)] 0 X dX10_boys_43 rfl ez_43 (by decide) rfl ?_
        refine k_goto 27 X dX10_boys_46 (by decide) ?_
        exact ih_28 _ (by rw [← hm_27]; exact mu_lt (by assumption) (by assumption)) z_43 rbg_36 tr2_33 xa2_34 xw2_35 rfl 
  · skip
    refine k_aload_n X dX10_boys_12 1 rfl ?_
    refine k_iload_n X dX10_boys_13 0 rfl ?_
    refine k_callVI (n := 1) (As := [.int r_12]) (st := []) X [(cO10_vrrvrvrvvi h0 v0h0 tl nw v3h0 nn v5h0 rd v7h0 v8h0 tr2_1)] [(cO6_rii rd rb xa xw), (cO8_iiri rb 4 1 rbc rbn), (cAI g rbc 4 rbf), (cO5_riiiiiiii nn nr xsnapped2_2 xmostSlip2_3 xslip2_4 xisDrawn2_5 xseed2_6 xtick2_7 xmotorTick2_8 xahead2_9), (cO8_iiri nr 8 10 nrc nrk_11), (cAI g nrc 80 nrg_10), (cO3_vrvvrrvv tl v0tl yhn v2tl v3tl yhm yhb v6tl v7tl), (cO8_iiri yhn 1 6 yhnc yhnn), (cAI g yhnc 6 yhnf), (cO8_iiri yhm 4 3 yhmc yhmn), (cAI g yhmc 12 yhmf), (cO8_iiri yhb 1 3 yhbc yhbn), (cAI g yhbc 3 yhbf), (cO7_rrrrii nw zr zm zw zp zmd ztr), (cO8_iiri zr 8 3 zrc zrn), (cAI g zrc 24 zrf), (cO8_iiri zm 12 3 zmc zmn), (cAI g zmc 36 zmf), (cO8_iiri zw 6 3 zwc zwn), (cAI g zwc 18 zwf), (cO8_iiri zp 8 2 zpc zpn), (cAI g zpc 16 zpf)] [3] [0, 1, 2, 4, 5, 6, 7, 8, 9, 10, 11, 12, 13, 14, 15, 16, 17, 18, 19, 20, 21, 22] (c_refuse l g h0 r_12 v0h0 (.ref tl) (.ref nw) v3h0 (.ref nn) v5h0 (.ref rd) v7h0 v8h0 tr2_1) dX10_boys_14 mw215 mw216 mw217 mw2 mw218 rfl 10 rfl rfl 0 _ rfl yk_yX10_refuse_1 rfl (Nat.le_of_ble_eq_true rfl) (Nat.le_of_ble_eq_true rfl) (Nat.le_of_ble_eq_true rfl) (Nat.le_of_ble_eq_true rfl) (Nat.le_of_ble_eq_true rfl) rfl rfl (by decide +kernel) rfl (by decide +kernel) (by decide +kernel) ?_
    rintro r_45 w ⟨tr2_44, rfl⟩
    refine k_ws [(cO6_rii rd rb xa xw), (cO8_iiri rb 4 1 rbc rbn), (cAI g rbc 4 rbf), (cO5_riiiiiiii nn nr xsnapped2_2 xmostSlip2_3 xslip2_4 xisDrawn2_5 xseed2_6 xtick2_7 xmotorTick2_8 xahead2_9), (cO8_iiri nr 8 10 nrc nrk_11), (cAI g nrc 80 nrg_10), (cO3_vrvvrrvv tl v0tl yhn v2tl v3tl yhm yhb v6tl v7tl), (cO8_iiri yhn 1 6 yhnc yhnn), (cAI g yhnc 6 yhnf), (cO8_iiri yhm 4 3 yhmc yhmn), (cAI g yhmc 12 yhmf), (cO8_iiri yhb 1 3 yhbc yhbn), (cAI g yhbc 3 yhbf), (cO7_rrrrii nw zr zm zw zp zmd ztr), (cO8_iiri zr 8 3 zrc zrn), (cAI g zrc 24 zrf), (cO8_iiri zm 12 3 zmc zmn), (cAI g zmc 36 zmf), (cO8_iiri zw 6 3 zwc zwn), (cAI g zwc 18 zwf), (cO8_iiri zp 8 2 zpc zpn), (cAI g zpc 16 zpf), (cO10_vrrvrvrvvi h0 v0h0 tl nw v3h0 nn v5h0 rd v7h0 v8h0 tr2_44)] rfl ?_
    exact k_iret X hr dX10_boys_17 (Nat.le_of_ble_eq_true rfl) (Nat.le_of_ble_eq_true rfl) [22, 3, 4, 5, 6, 7, 8, 9, 10, 11, 12, 13, 14, 15, 16, 17, 18, 19, 20, 21, 0, 1, 2] (by decide) rfl rfl ⟨tr2_44, xsnapped2_2, xmostSlip2_3, xslip2_4, xisDrawn2_5, xseed2_6, xtick2_7, xmotorTick2_8, xahead2_9, nrg_10, nrk_11, xa, xw, rbf, (by assumption), rfl⟩

theorem dX10_tellPart_0 : decode cX10_tellPart 0 = .ok (.aload_n 0, 1) := dk_42 rfl
theorem dX10_tellPart_1 : decode cX10_tellPart 1 = .ok (.iconst 0, 1) := dk_3 rfl
theorem dX10_tellPart_2 : decode cX10_tellPart 2 = .ok (.putfield 72, 3) := dk_181 rfl rfl rfl rfl
theorem dX10_tellPart_5 : decode cX10_tellPart 5 = .ok (.aload_n 0, 1) := dk_42 rfl
theorem dX10_tellPart_6 : decode cX10_tellPart 6 = .ok (.getfield 68, 3) := dk_180 rfl rfl rfl rfl
theorem dX10_tellPart_9 : decode cX10_tellPart 9 = .ok (.invokevirtual 378, 3) := dk_182 rfl rfl rfl rfl
theorem dX10_tellPart_12 : decode cX10_tellPart 12 = .ok (.iload_n 1, 1) := dk_27 rfl
theorem dX10_tellPart_13 : decode cX10_tellPart 13 = .ok (.ifCond .eq 13, 3) := dk_153 rfl rfl rfl (by decide)
theorem dX10_tellPart_16 : decode cX10_tellPart 16 = .ok (.aload_n 0, 1) := dk_42 rfl
theorem dX10_tellPart_17 : decode cX10_tellPart 17 = .ok (.getfield 68, 3) := dk_180 rfl rfl rfl rfl
theorem dX10_tellPart_20 : decode cX10_tellPart 20 = .ok (.getfield 280, 3) := dk_180 rfl rfl rfl rfl
theorem dX10_tellPart_23 : decode cX10_tellPart 23 = .ok (.goto 10, 3) := dk_167 rfl rfl rfl (by decide)
theorem dX10_tellPart_26 : decode cX10_tellPart 26 = .ok (.aload_n 0, 1) := dk_42 rfl
theorem dX10_tellPart_27 : decode cX10_tellPart 27 = .ok (.getfield 68, 3) := dk_180 rfl rfl rfl rfl
theorem dX10_tellPart_30 : decode cX10_tellPart 30 = .ok (.getfield 284, 3) := dk_180 rfl rfl rfl rfl
theorem dX10_tellPart_33 : decode cX10_tellPart 33 = .ok (.lreturn, 1) := dk_173 rfl
set_option maxHeartbeats 4000000 in
set_option maxRecDepth 100000 in
theorem c_tellPart (l : Launch) (g : Gx) (h0 : Nat) (p0 : Int32) (v0h0 : Value) (v1h0 : Value) (v2h0 : Value) (v3h0 : Value) (v4h0 : Value) (v5h0 : Value) (v6h0 : Value) (v7h0 : Value) (fr : Nat) (tr : Int32) (xu : Int64) (xv : Int64) : cL l g yX10_tellPart cX10_tellPart 2 (some .long) 1 27 0 0 [.ref h0, .int p0] [(cO10_vvvvvvvvri h0 v0h0 v1h0 v2h0 v3h0 v4h0 v5h0 v6h0 v7h0 fr tr), (cO2_ll fr xu xv)] (fun r w => ∃ (tr2 : Int32) (xu2 : Int64) (xv2 : Int64), w = [(cO10_vvvvvvvvri h0 v0h0 v1h0 v2h0 v3h0 v4h0 v5h0 v6h0 v7h0 fr tr2), (cO2_ll fr xu2 xv2)]) := by
  refine cL.of (by decide) (Nat.le_of_ble_eq_true rfl) ?_
  intro p e s m args below meth c A X hr hi
  refine k_lveq [(0, .ref h0), (1, .int p0)] rfl ?_
  refine k_aload_n X dX10_tellPart_0 0 rfl ?_
  refine k_iconst (v := 0) X dX10_tellPart_1 (by decide) ?_
  refine k_put (ci := 10) [(cO10_vvvvvvvvri h0 v0h0 v1h0 v2h0 v3h0 v4h0 v5h0 v6h0 v7h0 fr 0), (cO2_ll fr xu xv)] X inlX10 rfl tyX10_ok nmX10 9 (by decide) rfl dX10_tellPart_2 mw49 0 rfl rfl rfl (Nat.le_of_ble_eq_true rfl) rfl ?_
  refine k_aload_n X dX10_tellPart_5 0 rfl ?_
  refine k_get (ci := 10) X inlX10 rfl 8 (by decide) dX10_tellPart_6 mw48 0 rfl rfl ?_
  refine k_callVV (n := 0) (As := []) (st := []) X [(cO2_ll fr xu xv)] [(cO10_vvvvvvvvri h0 v0h0 v1h0 v2h0 v3h0 v4h0 v5h0 v6h0 v7h0 fr 0)] [1] [0] (f_reduce l g fr xu xv) dX10_tellPart_9 mw1147 mw1148 mw1149 mw47 mw1150 rfl 2 rfl rfl 0 _ rfl yk_yX2_reduce_0 rfl (Nat.le_of_ble_eq_true rfl) (Nat.le_of_ble_eq_true rfl) (Nat.le_of_ble_eq_true rfl) (Nat.le_of_ble_eq_true rfl) (Nat.le_of_ble_eq_true rfl) rfl rfl (by decide) rfl (by decide) (by decide) ?_
  rintro w ⟨xu2_1, xv2_2, rfl⟩
  refine k_ws [(cO10_vvvvvvvvri h0 v0h0 v1h0 v2h0 v3h0 v4h0 v5h0 v6h0 v7h0 fr 0), (cO2_ll fr xu2_1 xv2_2)] rfl ?_
  refine k_iload_n X dX10_tellPart_12 1 rfl ?_
  refine k_if_eq 26 X dX10_tellPart_13 (by decide) (fun h_5 => ?_) (fun h_5 => ?_)
  · skip
    refine k_aload_n X dX10_tellPart_26 0 rfl ?_
    refine k_get (ci := 10) X inlX10 rfl 8 (by decide) dX10_tellPart_27 mw48 0 rfl rfl ?_
    refine k_get (ci := 2) X inlX2 rfl 0 (by decide) dX10_tellPart_30 mw1146 1 rfl rfl ?_
    exact k_lret X hr dX10_tellPart_33 (Nat.le_of_ble_eq_true rfl) (Nat.le_of_ble_eq_true rfl) [0, 1] (by decide) rfl rfl ⟨0, xu2_1, xv2_2, rfl⟩
  · skip
    refine k_aload_n X dX10_tellPart_16 0 rfl ?_
    refine k_get (ci := 10) X inlX10 rfl 8 (by decide) dX10_tellPart_17 mw48 0 rfl rfl ?_
    refine k_get (ci := 2) X inlX2 rfl 1 (by decide) dX10_tellPart_20 mw1145 1 rfl rfl ?_
    refine k_goto 33 X dX10_tellPart_23 (by decide) ?_
    exact k_lret X hr dX10_tellPart_33 (Nat.le_of_ble_eq_true rfl) (Nat.le_of_ble_eq_true rfl) [0, 1] (by decide) rfl rfl ⟨0, xu2_1, xv2_2, rfl⟩

theorem dX10_truly_0 : decode cX10_truly 0 = .ok (.aload_n 0, 1) := dk_42 rfl
theorem dX10_truly_1 : decode cX10_truly 1 = .ok (.getfield 26, 3) := dk_180 rfl rfl rfl rfl
theorem dX10_truly_4 : decode cX10_truly 4 = .ok (.getfield 124, 3) := dk_180 rfl rfl rfl rfl
theorem dX10_truly_7 : decode cX10_truly 7 = .ok (.iload_n 1, 1) := dk_27 rfl
theorem dX10_truly_8 : decode cX10_truly 8 = .ok (.invokevirtual 127, 3) := dk_182 rfl rfl rfl rfl
theorem dX10_truly_11 : decode cX10_truly 11 = .ok (.ifCond .eq 15, 3) := dk_153 rfl rfl rfl (by decide)
theorem dX10_truly_14 : decode cX10_truly 14 = .ok (.aload_n 0, 1) := dk_42 rfl
theorem dX10_truly_15 : decode cX10_truly 15 = .ok (.getfield 26, 3) := dk_180 rfl rfl rfl rfl
theorem dX10_truly_18 : decode cX10_truly 18 = .ok (.iload_n 1, 1) := dk_27 rfl
theorem dX10_truly_19 : decode cX10_truly 19 = .ok (.iload_n 2, 1) := dk_28 rfl
theorem dX10_truly_20 : decode cX10_truly 20 = .ok (.invokevirtual 233, 3) := dk_182 rfl rfl rfl rfl
theorem dX10_truly_23 : decode cX10_truly 23 = .ok (.ifCond .ne 10, 3) := dk_154 rfl rfl rfl (by decide)
theorem dX10_truly_26 : decode cX10_truly 26 = .ok (.aload_n 0, 1) := dk_42 rfl
theorem dX10_truly_27 : decode cX10_truly 27 = .ok (.iconst 1, 1) := dk_4 rfl
theorem dX10_truly_28 : decode cX10_truly 28 = .ok (.invokevirtual 83, 3) := dk_182 rfl rfl rfl rfl
theorem dX10_truly_31 : decode cX10_truly 31 = .ok (.i2l, 1) := dk_133 rfl
theorem dX10_truly_32 : decode cX10_truly 32 = .ok (.lreturn, 1) := dk_173 rfl
theorem dX10_truly_33 : decode cX10_truly 33 = .ok (.aload_n 0, 1) := dk_42 rfl
theorem dX10_truly_34 : decode cX10_truly 34 = .ok (.getfield 68, 3) := dk_180 rfl rfl rfl rfl
theorem dX10_truly_37 : decode cX10_truly 37 = .ok (.aload_n 0, 1) := dk_42 rfl
theorem dX10_truly_38 : decode cX10_truly 38 = .ok (.getfield 26, 3) := dk_180 rfl rfl rfl rfl
theorem dX10_truly_41 : decode cX10_truly 41 = .ok (.aload_n 0, 1) := dk_42 rfl
theorem dX10_truly_42 : decode cX10_truly 42 = .ok (.getfield 19, 3) := dk_180 rfl rfl rfl rfl
theorem dX10_truly_45 : decode cX10_truly 45 = .ok (.getfield 150, 3) := dk_180 rfl rfl rfl rfl
theorem dX10_truly_48 : decode cX10_truly 48 = .ok (.iload_n 1, 1) := dk_27 rfl
theorem dX10_truly_49 : decode cX10_truly 49 = .ok (.iload_n 2, 1) := dk_28 rfl
theorem dX10_truly_50 : decode cX10_truly 50 = .ok (.invokevirtual 237, 3) := dk_182 rfl rfl rfl rfl
theorem dX10_truly_53 : decode cX10_truly 53 = .ok (.i2l, 1) := dk_133 rfl
theorem dX10_truly_54 : decode cX10_truly 54 = .ok (.aload_n 0, 1) := dk_42 rfl
theorem dX10_truly_55 : decode cX10_truly 55 = .ok (.getfield 26, 3) := dk_180 rfl rfl rfl rfl
theorem dX10_truly_58 : decode cX10_truly 58 = .ok (.aload_n 0, 1) := dk_42 rfl
theorem dX10_truly_59 : decode cX10_truly 59 = .ok (.getfield 19, 3) := dk_180 rfl rfl rfl rfl
theorem dX10_truly_62 : decode cX10_truly 62 = .ok (.getfield 150, 3) := dk_180 rfl rfl rfl rfl
theorem dX10_truly_65 : decode cX10_truly 65 = .ok (.iload_n 1, 1) := dk_27 rfl
theorem dX10_truly_66 : decode cX10_truly 66 = .ok (.invokevirtual 241, 3) := dk_182 rfl rfl rfl rfl
theorem dX10_truly_69 : decode cX10_truly 69 = .ok (.i2l, 1) := dk_133 rfl
theorem dX10_truly_70 : decode cX10_truly 70 = .ok (.invokevirtual 245, 3) := dk_182 rfl rfl rfl rfl
theorem dX10_truly_73 : decode cX10_truly 73 = .ok (.aload_n 0, 1) := dk_42 rfl
theorem dX10_truly_74 : decode cX10_truly 74 = .ok (.iload_n 3, 1) := dk_29 rfl
theorem dX10_truly_75 : decode cX10_truly 75 = .ok (.invokevirtual 249, 3) := dk_182 rfl rfl rfl rfl
theorem dX10_truly_78 : decode cX10_truly 78 = .ok (.lreturn, 1) := dk_173 rfl
set_option maxHeartbeats 4000000 in
set_option maxRecDepth 100000 in
theorem c_truly (l : Launch) (g : Gx) (h0 : Nat) (p0 : Int32) (p1 : Int32) (p2 : Int32) (v0h0 : Value) (tl : Nat) (nw : Nat) (v3h0 : Value) (v4h0 : Value) (v5h0 : Value) (v6h0 : Value) (v7h0 : Value) (fr : Nat) (tr : Int32) (v0tl : Value) (v1tl : Value) (yht : Nat) (v3tl : Value) (v4tl : Value) (v5tl : Value) (v6tl : Value) (v7tl : Value) (yhtc : Nat) (yhtn : Int32) (yhtf : Nat → Int32) (zr : Nat) (zm : Nat) (zw : Nat) (zp : Nat) (zmd : Int32) (ztr : Int32) (zrc : Nat) (zrn : Int32) (zrf : Nat → Int32) (zmc : Nat) (zmn : Int32) (zmf : Nat → Int32) (zwc : Nat) (zwn : Int32) (zwf : Nat → Int32) (zpc : Nat) (zpn : Int32) (zpf : Nat → Int32) (xu : Int64) (xv : Int64) : cL l g yX10_truly cX10_truly 4 (some .long) 3 73 0 0 [.ref h0, .int p0, .int p1, .int p2] [(cO10_vrrvvvvvri h0 v0h0 tl nw v3h0 v4h0 v5h0 v6h0 v7h0 fr tr), (cO3_vvrvvvvv tl v0tl v1tl yht v3tl v4tl v5tl v6tl v7tl), (cO8_iiri yht 4 1 yhtc yhtn), (cAI g yhtc 4 yhtf), (cO7_rrrrii nw zr zm zw zp zmd ztr), (cO8_iiri zr 8 3 zrc zrn), (cAI g zrc 24 zrf), (cO8_iiri zm 12 3 zmc zmn), (cAI g zmc 36 zmf), (cO8_iiri zw 6 3 zwc zwn), (cAI g zwc 18 zwf), (cO8_iiri zp 8 2 zpc zpn), (cAI g zpc 16 zpf), (cO2_ll fr xu xv)] (fun r w => ∃ (tr2 : Int32) (xu2 : Int64) (xv2 : Int64), w = [(cO10_vrrvvvvvri h0 v0h0 tl nw v3h0 v4h0 v5h0 v6h0 v7h0 fr tr2), (cO3_vvrvvvvv tl v0tl v1tl yht v3tl v4tl v5tl v6tl v7tl), (cO8_iiri yht 4 1 yhtc yhtn), (cAI g yhtc 4 yhtf), (cO7_rrrrii nw zr zm zw zp zmd ztr), (cO8_iiri zr 8 3 zrc zrn), (cAI g zrc 24 zrf), (cO8_iiri zm 12 3 zmc zmn), (cAI g zmc 36 zmf), (cO8_iiri zw 6 3 zwc zwn), (cAI g zwc 18 zwf), (cO8_iiri zp 8 2 zpc zpn), (cAI g zpc 16 zpf), (cO2_ll fr xu2 xv2)]) := by
  refine cL.of (by decide) (Nat.le_of_ble_eq_true rfl) ?_
  intro p e s m args below meth c A X hr hi
  refine k_lveq [(0, .ref h0), (1, .int p0), (2, .int p1), (3, .int p2)] rfl ?_
  refine k_aload_n X dX10_truly_0 0 rfl ?_
  refine k_get (ci := 10) X inlX10 rfl 2 (by decide) dX10_truly_1 mw24 0 rfl rfl ?_
  refine k_get (ci := 7) X inlX7 rfl 0 (by decide) dX10_truly_4 mw643 4 rfl rfl ?_
  refine k_iload_n X dX10_truly_7 1 rfl ?_
  refine k_callVI (n := 1) (As := [.int p0]) (st := []) X [(cO8_iiri zr 8 3 zrc zrn)] [(cO10_vrrvvvvvri h0 v0h0 tl nw v3h0 v4h0 v5h0 v6h0 v7h0 fr tr), (cO3_vvrvvvvv tl v0tl v1tl yht v3tl v4tl v5tl v6tl v7tl), (cO8_iiri yht 4 1 yhtc yhtn), (cAI g yhtc 4 yhtf), (cO7_rrrrii nw zr zm zw zp zmd ztr), (cAI g zrc 24 zrf), (cO8_iiri zm 12 3 zmc zmn), (cAI g zmc 36 zmf), (cO8_iiri zw 6 3 zwc zwn), (cAI g zwc 18 zwf), (cO8_iiri zp 8 2 zpc zpn), (cAI g zpc 16 zpf), (cO2_ll fr xu xv)] [5] [0, 1, 2, 3, 4, 6, 7, 8, 9, 10, 11, 12, 13] (t_has l g zr p0 (.int 8) (.int 3) (.ref zrc) zrn) dX10_truly_8 mw647 mw648 mw649 mw64 mw650 rfl 8 rfl rfl 0 _ rfl yk_yX8_has_1 rfl (Nat.le_of_ble_eq_true rfl) (Nat.le_of_ble_eq_true rfl) (Nat.le_of_ble_eq_true rfl) (Nat.le_of_ble_eq_true rfl) (Nat.le_of_ble_eq_true rfl) rfl rfl (by decide +kernel) rfl (by decide +kernel) (by decide +kernel) ?_
  rintro r_1 w ⟨hr_2, rfl⟩
  refine k_ws [(cO10_vrrvvvvvri h0 v0h0 tl nw v3h0 v4h0 v5h0 v6h0 v7h0 fr tr), (cO3_vvrvvvvv tl v0tl v1tl yht v3tl v4tl v5tl v6tl v7tl), (cO8_iiri yht 4 1 yhtc yhtn), (cAI g yhtc 4 yhtf), (cO7_rrrrii nw zr zm zw zp zmd ztr), (cAI g zrc 24 zrf), (cO8_iiri zm 12 3 zmc zmn), (cAI g zmc 36 zmf), (cO8_iiri zw 6 3 zwc zwn), (cAI g zwc 18 zwf), (cO8_iiri zp 8 2 zpc zpn), (cAI g zpc 16 zpf), (cO2_ll fr xu xv), (cO8_iiri zr 8 3 zrc zrn)] rfl ?_
  refine k_if_eq 26 X dX10_truly_11 (by decide) (fun h_3 => ?_) (fun h_3 => ?_)
  · skip
    refine k_aload_n X dX10_truly_26 0 rfl ?_
    refine k_iconst (v := 1) X dX10_truly_27 (by decide) ?_
    refine k_callVI (n := 1) (As := [.int 1]) (st := []) X [(cO10_vrrvvvvvri h0 v0h0 tl nw v3h0 v4h0 v5h0 v6h0 v7h0 fr tr)] [(cO3_vvrvvvvv tl v0tl v1tl yht v3tl v4tl v5tl v6tl v7tl), (cO8_iiri yht 4 1 yhtc yhtn), (cAI g yhtc 4 yhtf), (cO7_rrrrii nw zr zm zw zp zmd ztr), (cAI g zrc 24 zrf), (cO8_iiri zm 12 3 zmc zmn), (cAI g zmc 36 zmf), (cO8_iiri zw 6 3 zwc zwn), (cAI g zwc 18 zwf), (cO8_iiri zp 8 2 zpc zpn), (cAI g zpc 16 zpf), (cO2_ll fr xu xv), (cO8_iiri zr 8 3 zrc zrn)] [0] [1, 2, 3, 4, 5, 6, 7, 8, 9, 10, 11, 12, 13] (c_refuse l g h0 1 v0h0 (.ref tl) (.ref nw) v3h0 v4h0 v5h0 v6h0 v7h0 (.ref fr) tr) dX10_truly_28 mw215 mw216 mw217 mw2 mw218 rfl 10 rfl rfl 0 _ rfl yk_yX10_refuse_1 rfl (Nat.le_of_ble_eq_true rfl) (Nat.le_of_ble_eq_true rfl) (Nat.le_of_ble_eq_true rfl) (Nat.le_of_ble_eq_true rfl) (Nat.le_of_ble_eq_true rfl) rfl rfl (by decide +kernel) rfl (by decide +kernel) (by decide +kernel) ?_
    rintro r_5 w ⟨tr2_4, rfl⟩
    refine k_ws [(cO3_vvrvvvvv tl v0tl v1tl yht v3tl v4tl v5tl v6tl v7tl), (cO8_iiri yht 4 1 yhtc yhtn), (cAI g yhtc 4 yhtf), (cO7_rrrrii nw zr zm zw zp zmd ztr), (cAI g zrc 24 zrf), (cO8_iiri zm 12 3 zmc zmn), (cAI g zmc 36 zmf), (cO8_iiri zw 6 3 zwc zwn), (cAI g zwc 18 zwf), (cO8_iiri zp 8 2 zpc zpn), (cAI g zpc 16 zpf), (cO2_ll fr xu xv), (cO8_iiri zr 8 3 zrc zrn), (cO10_vrrvvvvvri h0 v0h0 tl nw v3h0 v4h0 v5h0 v6h0 v7h0 fr tr2_4)] rfl ?_
    refine k_i2l X dX10_truly_31 ?_
    refine k_nmL (fun y_7 ey_7 => ?_)
    exact k_lret X hr dX10_truly_32 (Nat.le_of_ble_eq_true rfl) (Nat.le_of_ble_eq_true rfl) [13, 0, 1, 2, 3, 12, 4, 5, 6, 7, 8, 9, 10, 11] (by decide) rfl rfl ⟨tr2_4, xu, xv, rfl⟩
  · skip
    refine k_aload_n X dX10_truly_14 0 rfl ?_
    refine k_get (ci := 10) X inlX10 rfl 2 (by decide) dX10_truly_15 mw24 0 rfl rfl ?_
    refine k_iload_n X dX10_truly_18 1 rfl ?_
    refine k_iload_n X dX10_truly_19 2 rfl ?_
    refine k_callVI (n := 2) (As := [.int p0, .int p1]) (st := []) X [(cO7_rrrrii nw zr zm zw zp zmd ztr), (cO8_iiri zr 8 3 zrc zrn), (cAI g zrc 24 zrf), (cO8_iiri zm 12 3 zmc zmn), (cAI g zmc 36 zmf)] [(cO10_vrrvvvvvri h0 v0h0 tl nw v3h0 v4h0 v5h0 v6h0 v7h0 fr tr), (cO3_vvrvvvvv tl v0tl v1tl yht v3tl v4tl v5tl v6tl v7tl), (cO8_iiri yht 4 1 yhtc yhtn), (cAI g yhtc 4 yhtf), (cO8_iiri zw 6 3 zwc zwn), (cAI g zwc 18 zwf), (cO8_iiri zp 8 2 zpc zpn), (cAI g zpc 16 zpf), (cO2_ll fr xu xv)] [4, 13, 5, 6, 7] [0, 1, 2, 3, 8, 9, 10, 11, 12] (s_isMeantPerhaps l g nw p0 p1 zr zm (.ref zw) (.ref zp) zmd ztr zrc zrn zrf zmc zmn zmf) dX10_truly_20 mw1117 mw1118 mw1119 mw23 mw1120 rfl 7 rfl rfl 0 _ rfl yk_yX7_isMeantPerhaps_2 rfl (Nat.le_of_ble_eq_true rfl) (Nat.le_of_ble_eq_true rfl) (Nat.le_of_ble_eq_true rfl) (Nat.le_of_ble_eq_true rfl) (Nat.le_of_ble_eq_true rfl) rfl rfl (by decide +kernel) rfl (by decide +kernel) (by decide +kernel) ?_
    rintro r_8 w rfl
    refine k_ws [(cO10_vrrvvvvvri h0 v0h0 tl nw v3h0 v4h0 v5h0 v6h0 v7h0 fr tr), (cO3_vvrvvvvv tl v0tl v1tl yht v3tl v4tl v5tl v6tl v7tl), (cO8_iiri yht 4 1 yhtc yhtn), (cAI g yhtc 4 yhtf), (cO8_iiri zw 6 3 zwc zwn), (cAI g zwc 18 zwf), (cO8_iiri zp 8 2 zpc zpn), (cAI g zpc 16 zpf), (cO2_ll fr xu xv), (cO7_rrrrii nw zr zm zw zp zmd ztr), (cO8_iiri zr 8 3 zrc zrn), (cAI g zrc 24 zrf), (cO8_iiri zm 12 3 zmc zmn), (cAI g zmc 36 zmf)] rfl ?_
    refine k_if_ne 33 X dX10_truly_23 (by decide) (fun h_10 => ?_) (fun h_10 => ?_)
    · skip
      refine k_aload_n X dX10_truly_33 0 rfl ?_
      refine k_get (ci := 10) X inlX10 rfl 8 (by decide) dX10_truly_34 mw48 0 rfl rfl ?_
      refine k_aload_n X dX10_truly_37 0 rfl ?_
      refine k_get (ci := 10) X inlX10 rfl 2 (by decide) dX10_truly_38 mw24 0 rfl rfl ?_
      refine k_aload_n X dX10_truly_41 0 rfl ?_
      refine k_get (ci := 10) X inlX10 rfl 1 (by decide) dX10_truly_42 mw20 0 rfl rfl ?_
      refine k_get (ci := 3) X inlX3 rfl 2 (by decide) dX10_truly_45 mw697 1 rfl rfl ?_
      refine k_iload_n X dX10_truly_48 1 rfl ?_
      refine k_iload_n X dX10_truly_49 2 rfl ?_
      refine k_callVI (n := 3) (As := [.ref yht, .int p0, .int p1]) (st := [.ref fr]) X [(cO7_rrrrii nw zr zm zw zp zmd ztr), (cO8_iiri zm 12 3 zmc zmn), (cAI g zmc 36 zmf), (cO8_iiri yht 4 1 yhtc yhtn), (cAI g yhtc 4 yhtf)] [(cO10_vrrvvvvvri h0 v0h0 tl nw v3h0 v4h0 v5h0 v6h0 v7h0 fr tr), (cO3_vvrvvvvv tl v0tl v1tl yht v3tl v4tl v5tl v6tl v7tl), (cO8_iiri zw 6 3 zwc zwn), (cAI g zwc 18 zwf), (cO8_iiri zp 8 2 zpc zpn), (cAI g zpc 16 zpf), (cO2_ll fr xu xv), (cO8_iiri zr 8 3 zrc zrn), (cAI g zrc 24 zrf)] [9, 12, 13, 2, 3] [0, 1, 4, 5, 6, 7, 8, 10, 11] (s_weight l g nw yht p0 p1 (.ref zr) zm (.ref zw) (.ref zp) zmd ztr zmc zmn zmf yhtc yhtn yhtf) dX10_truly_50 mw1125 mw1126 mw1127 mw23 mw1128 rfl 7 rfl rfl 0 _ rfl yk_yX7_weight_3 rfl (Nat.le_of_ble_eq_true rfl) (Nat.le_of_ble_eq_true rfl) (Nat.le_of_ble_eq_true rfl) (Nat.le_of_ble_eq_true rfl) (Nat.le_of_ble_eq_true rfl) rfl rfl (by decide +kernel) rfl (by decide +kernel) (by decide +kernel) ?_
      rintro r_11 w rfl
      refine k_ws [(cO10_vrrvvvvvri h0 v0h0 tl nw v3h0 v4h0 v5h0 v6h0 v7h0 fr tr), (cO3_vvrvvvvv tl v0tl v1tl yht v3tl v4tl v5tl v6tl v7tl), (cO8_iiri zw 6 3 zwc zwn), (cAI g zwc 18 zwf), (cO8_iiri zp 8 2 zpc zpn), (cAI g zpc 16 zpf), (cO2_ll fr xu xv), (cO8_iiri zr 8 3 zrc zrn), (cAI g zrc 24 zrf), (cO7_rrrrii nw zr zm zw zp zmd ztr), (cO8_iiri zm 12 3 zmc zmn), (cAI g zmc 36 zmf), (cO8_iiri yht 4 1 yhtc yhtn), (cAI g yhtc 4 yhtf)] rfl ?_
      refine k_i2l X dX10_truly_53 ?_
      refine k_nmL (fun y_13 ey_13 => ?_)
      refine k_aload_n X dX10_truly_54 0 rfl ?_
      refine k_get (ci := 10) X inlX10 rfl 2 (by decide) dX10_truly_55 mw24 0 rfl rfl ?_
      refine k_aload_n X dX10_truly_58 0 rfl ?_
      refine k_get (ci := 10) X inlX10 rfl 1 (by decide) dX10_truly_59 mw20 0 rfl rfl ?_
      refine k_get (ci := 3) X inlX3 rfl 2 (by decide) dX10_truly_62 mw697 1 rfl rfl ?_
      refine k_iload_n X dX10_truly_65 1 rfl ?_
      refine k_callVI (n := 2) (As := [.ref yht, .int p0]) (st := [.long y_13, .ref fr]) X [(cO7_rrrrii nw zr zm zw zp zmd ztr), (cO8_iiri zr 8 3 zrc zrn), (cAI g zrc 24 zrf), (cO8_iiri zm 12 3 zmc zmn), (cAI g zmc 36 zmf), (cO8_iiri yht 4 1 yhtc yhtn), (cAI g yhtc 4 yhtf)] [(cO10_vrrvvvvvri h0 v0h0 tl nw v3h0 v4h0 v5h0 v6h0 v7h0 fr tr), (cO3_vvrvvvvv tl v0tl v1tl yht v3tl v4tl v5tl v6tl v7tl), (cO8_iiri zw 6 3 zwc zwn), (cAI g zwc 18 zwf), (cO8_iiri zp 8 2 zpc zpn), (cAI g zpc 16 zpf), (cO2_ll fr xu xv)] [9, 7, 8, 10, 11, 12, 13] [0, 1, 2, 3, 4, 5, 6] (s_allWeights l g nw yht p0 zr zm (.ref zw) (.ref zp) zmd ztr zrc zrn zrf zmc zmn zmf yhtc yhtn yhtf) dX10_truly_66 mw1132 mw1133 mw1134 mw23 mw1135 rfl 7 rfl rfl 0 _ rfl yk_yX7_allWeights_2 rfl (Nat.le_of_ble_eq_true rfl) (Nat.le_of_ble_eq_true rfl) (Nat.le_of_ble_eq_true rfl) (Nat.le_of_ble_eq_true rfl) (Nat.le_of_ble_eq_true rfl) rfl rfl (by decide +kernel) rfl (by decide +kernel) (by decide +kernel) ?_
      rintro r_14 w rfl
      refine k_ws [(cO10_vrrvvvvvri h0 v0h0 tl nw v3h0 v4h0 v5h0 v6h0 v7h0 fr tr), (cO3_vvrvvvvv tl v0tl v1tl yht v3tl v4tl v5tl v6tl v7tl), (cO8_iiri zw 6 3 zwc zwn), (cAI g zwc 18 zwf), (cO8_iiri zp 8 2 zpc zpn), (cAI g zpc 16 zpf), (cO2_ll fr xu xv), (cO7_rrrrii nw zr zm zw zp zmd ztr), (cO8_iiri zr 8 3 zrc zrn), (cAI g zrc 24 zrf), (cO8_iiri zm 12 3 zmc zmn), (cAI g zmc 36 zmf), (cO8_iiri yht 4 1 yhtc yhtn), (cAI g yhtc 4 yhtf)] rfl ?_
      refine k_i2l X dX10_truly_69 ?_
      refine k_nmL (fun y_16 ey_16 => ?_)
      refine k_callVV (n := 2) (As := [.long y_13, .long y_16]) (st := []) X [(cO2_ll fr xu xv)] [(cO10_vrrvvvvvri h0 v0h0 tl nw v3h0 v4h0 v5h0 v6h0 v7h0 fr tr), (cO3_vvrvvvvv tl v0tl v1tl yht v3tl v4tl v5tl v6tl v7tl), (cO8_iiri zw 6 3 zwc zwn), (cAI g zwc 18 zwf), (cO8_iiri zp 8 2 zpc zpn), (cAI g zpc 16 zpf), (cO7_rrrrii nw zr zm zw zp zmd ztr), (cO8_iiri zr 8 3 zrc zrn), (cAI g zrc 24 zrf), (cO8_iiri zm 12 3 zmc zmn), (cAI g zmc 36 zmf), (cO8_iiri yht 4 1 yhtc yhtn), (cAI g yhtc 4 yhtf)] [6] [0, 1, 2, 3, 4, 5, 7, 8, 9, 10, 11, 12, 13] (f_set l g fr y_13 y_16 xu xv) dX10_truly_70 mw1137 mw1138 mw1139 mw47 mw1140 rfl 2 rfl rfl 0 _ rfl yk_yX2_set_2 rfl (Nat.le_of_ble_eq_true rfl) (Nat.le_of_ble_eq_true rfl) (Nat.le_of_ble_eq_true rfl) (Nat.le_of_ble_eq_true rfl) (Nat.le_of_ble_eq_true rfl) rfl rfl (by decide +kernel) rfl (by decide +kernel) (by decide +kernel) ?_
      rintro w ⟨xu2_17, xv2_18, rfl⟩
      refine k_ws [(cO10_vrrvvvvvri h0 v0h0 tl nw v3h0 v4h0 v5h0 v6h0 v7h0 fr tr), (cO3_vvrvvvvv tl v0tl v1tl yht v3tl v4tl v5tl v6tl v7tl), (cO8_iiri zw 6 3 zwc zwn), (cAI g zwc 18 zwf), (cO8_iiri zp 8 2 zpc zpn), (cAI g zpc 16 zpf), (cO7_rrrrii nw zr zm zw zp zmd ztr), (cO8_iiri zr 8 3 zrc zrn), (cAI g zrc 24 zrf), (cO8_iiri zm 12 3 zmc zmn), (cAI g zmc 36 zmf), (cO8_iiri yht 4 1 yhtc yhtn), (cAI g yhtc 4 yhtf), (cO2_ll fr xu2_17 xv2_18)] rfl ?_
      refine k_aload_n X dX10_truly_73 0 rfl ?_
      refine k_iload_n X dX10_truly_74 3 rfl ?_
      refine k_callVL (n := 1) (As := [.int p2]) (st := []) X [(cO10_vrrvvvvvri h0 v0h0 tl nw v3h0 v4h0 v5h0 v6h0 v7h0 fr tr), (cO2_ll fr xu2_17 xv2_18)] [(cO3_vvrvvvvv tl v0tl v1tl yht v3tl v4tl v5tl v6tl v7tl), (cO8_iiri zw 6 3 zwc zwn), (cAI g zwc 18 zwf), (cO8_iiri zp 8 2 zpc zpn), (cAI g zpc 16 zpf), (cO7_rrrrii nw zr zm zw zp zmd ztr), (cO8_iiri zr 8 3 zrc zrn), (cAI g zrc 24 zrf), (cO8_iiri zm 12 3 zmc zmn), (cAI g zmc 36 zmf), (cO8_iiri yht 4 1 yhtc yhtn), (cAI g yhtc 4 yhtf)] [0, 13] [1, 2, 3, 4, 5, 6, 7, 8, 9, 10, 11, 12] (c_tellPart l g h0 p2 v0h0 (.ref tl) (.ref nw) v3h0 v4h0 v5h0 v6h0 v7h0 fr tr xu2_17 xv2_18) dX10_truly_75 mw1141 mw1142 mw1143 mw2 mw1144 rfl 10 rfl rfl 0 _ rfl yk_yX10_tellPart_1 rfl (Nat.le_of_ble_eq_true rfl) (Nat.le_of_ble_eq_true rfl) (Nat.le_of_ble_eq_true rfl) (Nat.le_of_ble_eq_true rfl) (Nat.le_of_ble_eq_true rfl) rfl rfl (by decide +kernel) rfl (by decide +kernel) (by decide +kernel) ?_
      rintro r_24 w ⟨tr2_21, xu2_22, xv2_23, rfl⟩
      refine k_ws [(cO3_vvrvvvvv tl v0tl v1tl yht v3tl v4tl v5tl v6tl v7tl), (cO8_iiri zw 6 3 zwc zwn), (cAI g zwc 18 zwf), (cO8_iiri zp 8 2 zpc zpn), (cAI g zpc 16 zpf), (cO7_rrrrii nw zr zm zw zp zmd ztr), (cO8_iiri zr 8 3 zrc zrn), (cAI g zrc 24 zrf), (cO8_iiri zm 12 3 zmc zmn), (cAI g zmc 36 zmf), (cO8_iiri yht 4 1 yhtc yhtn), (cAI g yhtc 4 yhtf), (cO10_vrrvvvvvri h0 v0h0 tl nw v3h0 v4h0 v5h0 v6h0 v7h0 fr tr2_21), (cO2_ll fr xu2_22 xv2_23)] rfl ?_
      exact k_lret X hr dX10_truly_78 (Nat.le_of_ble_eq_true rfl) (Nat.le_of_ble_eq_true rfl) [12, 0, 10, 11, 5, 6, 7, 8, 9, 1, 2, 3, 4, 13] (by decide) rfl rfl ⟨tr2_21, xu2_22, xv2_23, rfl⟩
    · skip
      refine k_aload_n X dX10_truly_26 0 rfl ?_
      refine k_iconst (v := 1) X dX10_truly_27 (by decide) ?_
      refine k_callVI (n := 1) (As := [.int 1]) (st := []) X [(cO10_vrrvvvvvri h0 v0h0 tl nw v3h0 v4h0 v5h0 v6h0 v7h0 fr tr)] [(cO3_vvrvvvvv tl v0tl v1tl yht v3tl v4tl v5tl v6tl v7tl), (cO8_iiri yht 4 1 yhtc yhtn), (cAI g yhtc 4 yhtf), (cO8_iiri zw 6 3 zwc zwn), (cAI g zwc 18 zwf), (cO8_iiri zp 8 2 zpc zpn), (cAI g zpc 16 zpf), (cO2_ll fr xu xv), (cO7_rrrrii nw zr zm zw zp zmd ztr), (cO8_iiri zr 8 3 zrc zrn), (cAI g zrc 24 zrf), (cO8_iiri zm 12 3 zmc zmn), (cAI g zmc 36 zmf)] [0] [1, 2, 3, 4, 5, 6, 7, 8, 9, 10, 11, 12, 13] (c_refuse l g h0 1 v0h0 (.ref tl) (.ref nw) v3h0 v4h0 v5h0 v6h0 v7h0 (.ref fr) tr) dX10_truly_28 mw215 mw216 mw217 mw2 mw218 rfl 10 rfl rfl 0 _ rfl yk_yX10_refuse_1 rfl (Nat.le_of_ble_eq_true rfl) (Nat.le_of_ble_eq_true rfl) (Nat.le_of_ble_eq_true rfl) (Nat.le_of_ble_eq_true rfl) (Nat.le_of_ble_eq_true rfl) rfl rfl (by decide +kernel) rfl (by decide +kernel) (by decide +kernel) ?_
      rintro r_27 w ⟨tr2_26, rfl⟩
      refine k_ws [(cO3_vvrvvvvv tl v0tl v1tl yht v3tl v4tl v5tl v6tl v7tl), (cO8_iiri yht 4 1 yhtc yhtn), (cAI g yhtc 4 yhtf), (cO8_iiri zw 6 3 zwc zwn), (cAI g zwc 18 zwf), (cO8_iiri zp 8 2 zpc zpn), (cAI g zpc 16 zpf), (cO2_ll fr xu xv), (cO7_rrrrii nw zr zm zw zp zmd ztr), (cO8_iiri zr 8 3 zrc zrn), (cAI g zrc 24 zrf), (cO8_iiri zm 12 3 zmc zmn), (cAI g zmc 36 zmf), (cO10_vrrvvvvvri h0 v0h0 tl nw v3h0 v4h0 v5h0 v6h0 v7h0 fr tr2_26)] rfl ?_
      refine k_i2l X dX10_truly_31 ?_
      refine k_nmL (fun y_29 ey_29 => ?_)
      exact k_lret X hr dX10_truly_32 (Nat.le_of_ble_eq_true rfl) (Nat.le_of_ble_eq_true rfl) [13, 0, 1, 2, 8, 9, 10, 11, 12, 3, 4, 5, 6, 7] (by decide) rfl rfl ⟨tr2_26, xu, xv, rfl⟩

theorem dX10_likeliest_0 : decode cX10_likeliest 0 = .ok (.aload_n 0, 1) := dk_42 rfl
theorem dX10_likeliest_1 : decode cX10_likeliest 1 = .ok (.getfield 26, 3) := dk_180 rfl rfl rfl rfl
theorem dX10_likeliest_4 : decode cX10_likeliest 4 = .ok (.getfield 124, 3) := dk_180 rfl rfl rfl rfl
theorem dX10_likeliest_7 : decode cX10_likeliest 7 = .ok (.iload_n 1, 1) := dk_27 rfl
theorem dX10_likeliest_8 : decode cX10_likeliest 8 = .ok (.invokevirtual 127, 3) := dk_182 rfl rfl rfl rfl
theorem dX10_likeliest_11 : decode cX10_likeliest 11 = .ok (.ifCond .eq 25, 3) := dk_153 rfl rfl rfl (by decide)
theorem dX10_likeliest_14 : decode cX10_likeliest 14 = .ok (.aload_n 0, 1) := dk_42 rfl
theorem dX10_likeliest_15 : decode cX10_likeliest 15 = .ok (.aload_n 0, 1) := dk_42 rfl
theorem dX10_likeliest_16 : decode cX10_likeliest 16 = .ok (.getfield 26, 3) := dk_180 rfl rfl rfl rfl
theorem dX10_likeliest_19 : decode cX10_likeliest 19 = .ok (.aload_n 0, 1) := dk_42 rfl
theorem dX10_likeliest_20 : decode cX10_likeliest 20 = .ok (.getfield 19, 3) := dk_180 rfl rfl rfl rfl
theorem dX10_likeliest_23 : decode cX10_likeliest 23 = .ok (.getfield 150, 3) := dk_180 rfl rfl rfl rfl
theorem dX10_likeliest_26 : decode cX10_likeliest 26 = .ok (.iload_n 1, 1) := dk_27 rfl
theorem dX10_likeliest_27 : decode cX10_likeliest 27 = .ok (.invokevirtual 253, 3) := dk_182 rfl rfl rfl rfl
theorem dX10_likeliest_30 : decode cX10_likeliest 30 = .ok (.invokevirtual 118, 3) := dk_182 rfl rfl rfl rfl
theorem dX10_likeliest_33 : decode cX10_likeliest 33 = .ok (.goto 8, 3) := dk_167 rfl rfl rfl (by decide)
theorem dX10_likeliest_36 : decode cX10_likeliest 36 = .ok (.aload_n 0, 1) := dk_42 rfl
theorem dX10_likeliest_37 : decode cX10_likeliest 37 = .ok (.iconst 1, 1) := dk_4 rfl
theorem dX10_likeliest_38 : decode cX10_likeliest 38 = .ok (.invokevirtual 83, 3) := dk_182 rfl rfl rfl rfl
theorem dX10_likeliest_41 : decode cX10_likeliest 41 = .ok (.ireturn, 1) := dk_172 rfl
set_option maxHeartbeats 4000000 in
set_option maxRecDepth 100000 in
theorem c_likeliest (l : Launch) (g : Gx) (h0 : Nat) (p0 : Int32) (v0h0 : Value) (tl : Nat) (nw : Nat) (v3h0 : Value) (v4h0 : Value) (v5h0 : Value) (v6h0 : Value) (v7h0 : Value) (v8h0 : Value) (tr : Int32) (v0tl : Value) (v1tl : Value) (yht : Nat) (v3tl : Value) (v4tl : Value) (v5tl : Value) (v6tl : Value) (v7tl : Value) (yhtc : Nat) (yhtn : Int32) (yhtf : Nat → Int32) (zr : Nat) (zm : Nat) (zw : Nat) (zp : Nat) (zmd : Int32) (ztr : Int32) (zrc : Nat) (zrn : Int32) (zrf : Nat → Int32) (zmc : Nat) (zmn : Int32) (zmf : Nat → Int32) (zwc : Nat) (zwn : Int32) (zwf : Nat → Int32) (zpc : Nat) (zpn : Int32) (zpf : Nat → Int32) : cI l g yX10_likeliest cX10_likeliest 2 (some .int) 3 75 0 0 [.ref h0, .int p0] [(cO10_vrrvvvvvvi h0 v0h0 tl nw v3h0 v4h0 v5h0 v6h0 v7h0 v8h0 tr), (cO3_vvrvvvvv tl v0tl v1tl yht v3tl v4tl v5tl v6tl v7tl), (cO8_iiri yht 4 1 yhtc yhtn), (cAI g yhtc 4 yhtf), (cO7_rrrrii nw zr zm zw zp zmd ztr), (cO8_iiri zr 8 3 zrc zrn), (cAI g zrc 24 zrf), (cO8_iiri zm 12 3 zmc zmn), (cAI g zmc 36 zmf), (cO8_iiri zw 6 3 zwc zwn), (cAI g zwc 18 zwf), (cO8_iiri zp 8 2 zpc zpn), (cAI g zpc 16 zpf)] (fun r w => ∃ (tr2 : Int32), w = [(cO10_vrrvvvvvvi h0 v0h0 tl nw v3h0 v4h0 v5h0 v6h0 v7h0 v8h0 tr2), (cO3_vvrvvvvv tl v0tl v1tl yht v3tl v4tl v5tl v6tl v7tl), (cO8_iiri yht 4 1 yhtc yhtn), (cAI g yhtc 4 yhtf), (cO7_rrrrii nw zr zm zw zp zmd ztr), (cO8_iiri zr 8 3 zrc zrn), (cAI g zrc 24 zrf), (cO8_iiri zm 12 3 zmc zmn), (cAI g zmc 36 zmf), (cO8_iiri zw 6 3 zwc zwn), (cAI g zwc 18 zwf), (cO8_iiri zp 8 2 zpc zpn), (cAI g zpc 16 zpf)]) := by
  refine cI.of (by decide) (Nat.le_of_ble_eq_true rfl) ?_
  intro p e s m args below meth c A X hr hi
  refine k_lveq [(0, .ref h0), (1, .int p0)] rfl ?_
  refine k_aload_n X dX10_likeliest_0 0 rfl ?_
  refine k_get (ci := 10) X inlX10 rfl 2 (by decide) dX10_likeliest_1 mw24 0 rfl rfl ?_
  refine k_get (ci := 7) X inlX7 rfl 0 (by decide) dX10_likeliest_4 mw643 4 rfl rfl ?_
  refine k_iload_n X dX10_likeliest_7 1 rfl ?_
  refine k_callVI (n := 1) (As := [.int p0]) (st := []) X [(cO8_iiri zr 8 3 zrc zrn)] [(cO10_vrrvvvvvvi h0 v0h0 tl nw v3h0 v4h0 v5h0 v6h0 v7h0 v8h0 tr), (cO3_vvrvvvvv tl v0tl v1tl yht v3tl v4tl v5tl v6tl v7tl), (cO8_iiri yht 4 1 yhtc yhtn), (cAI g yhtc 4 yhtf), (cO7_rrrrii nw zr zm zw zp zmd ztr), (cAI g zrc 24 zrf), (cO8_iiri zm 12 3 zmc zmn), (cAI g zmc 36 zmf), (cO8_iiri zw 6 3 zwc zwn), (cAI g zwc 18 zwf), (cO8_iiri zp 8 2 zpc zpn), (cAI g zpc 16 zpf)] [5] [0, 1, 2, 3, 4, 6, 7, 8, 9, 10, 11, 12] (t_has l g zr p0 (.int 8) (.int 3) (.ref zrc) zrn) dX10_likeliest_8 mw647 mw648 mw649 mw64 mw650 rfl 8 rfl rfl 0 _ rfl yk_yX8_has_1 rfl (Nat.le_of_ble_eq_true rfl) (Nat.le_of_ble_eq_true rfl) (Nat.le_of_ble_eq_true rfl) (Nat.le_of_ble_eq_true rfl) (Nat.le_of_ble_eq_true rfl) rfl rfl (by decide +kernel) rfl (by decide +kernel) (by decide +kernel) ?_
  rintro r_1 w ⟨hr_2, rfl⟩
  refine k_ws [(cO10_vrrvvvvvvi h0 v0h0 tl nw v3h0 v4h0 v5h0 v6h0 v7h0 v8h0 tr), (cO3_vvrvvvvv tl v0tl v1tl yht v3tl v4tl v5tl v6tl v7tl), (cO8_iiri yht 4 1 yhtc yhtn), (cAI g yhtc 4 yhtf), (cO7_rrrrii nw zr zm zw zp zmd ztr), (cAI g zrc 24 zrf), (cO8_iiri zm 12 3 zmc zmn), (cAI g zmc 36 zmf), (cO8_iiri zw 6 3 zwc zwn), (cAI g zwc 18 zwf), (cO8_iiri zp 8 2 zpc zpn), (cAI g zpc 16 zpf), (cO8_iiri zr 8 3 zrc zrn)] rfl ?_
  refine k_if_eq 36 X dX10_likeliest_11 (by decide) (fun h_3 => ?_) (fun h_3 => ?_)
  · skip
    refine k_aload_n X dX10_likeliest_36 0 rfl ?_
    refine k_iconst (v := 1) X dX10_likeliest_37 (by decide) ?_
    refine k_callVI (n := 1) (As := [.int 1]) (st := []) X [(cO10_vrrvvvvvvi h0 v0h0 tl nw v3h0 v4h0 v5h0 v6h0 v7h0 v8h0 tr)] [(cO3_vvrvvvvv tl v0tl v1tl yht v3tl v4tl v5tl v6tl v7tl), (cO8_iiri yht 4 1 yhtc yhtn), (cAI g yhtc 4 yhtf), (cO7_rrrrii nw zr zm zw zp zmd ztr), (cAI g zrc 24 zrf), (cO8_iiri zm 12 3 zmc zmn), (cAI g zmc 36 zmf), (cO8_iiri zw 6 3 zwc zwn), (cAI g zwc 18 zwf), (cO8_iiri zp 8 2 zpc zpn), (cAI g zpc 16 zpf), (cO8_iiri zr 8 3 zrc zrn)] [0] [1, 2, 3, 4, 5, 6, 7, 8, 9, 10, 11, 12] (c_refuse l g h0 1 v0h0 (.ref tl) (.ref nw) v3h0 v4h0 v5h0 v6h0 v7h0 v8h0 tr) dX10_likeliest_38 mw215 mw216 mw217 mw2 mw218 rfl 10 rfl rfl 0 _ rfl yk_yX10_refuse_1 rfl (Nat.le_of_ble_eq_true rfl) (Nat.le_of_ble_eq_true rfl) (Nat.le_of_ble_eq_true rfl) (Nat.le_of_ble_eq_true rfl) (Nat.le_of_ble_eq_true rfl) rfl rfl (by decide +kernel) rfl (by decide +kernel) (by decide +kernel) ?_
    rintro r_5 w ⟨tr2_4, rfl⟩
    refine k_ws [(cO3_vvrvvvvv tl v0tl v1tl yht v3tl v4tl v5tl v6tl v7tl), (cO8_iiri yht 4 1 yhtc yhtn), (cAI g yhtc 4 yhtf), (cO7_rrrrii nw zr zm zw zp zmd ztr), (cAI g zrc 24 zrf), (cO8_iiri zm 12 3 zmc zmn), (cAI g zmc 36 zmf), (cO8_iiri zw 6 3 zwc zwn), (cAI g zwc 18 zwf), (cO8_iiri zp 8 2 zpc zpn), (cAI g zpc 16 zpf), (cO8_iiri zr 8 3 zrc zrn), (cO10_vrrvvvvvvi h0 v0h0 tl nw v3h0 v4h0 v5h0 v6h0 v7h0 v8h0 tr2_4)] rfl ?_
    exact k_iret X hr dX10_likeliest_41 (Nat.le_of_ble_eq_true rfl) (Nat.le_of_ble_eq_true rfl) [12, 0, 1, 2, 3, 11, 4, 5, 6, 7, 8, 9, 10] (by decide) rfl rfl ⟨tr2_4, rfl⟩
  · skip
    refine k_aload_n X dX10_likeliest_14 0 rfl ?_
    refine k_aload_n X dX10_likeliest_15 0 rfl ?_
    refine k_get (ci := 10) X inlX10 rfl 2 (by decide) dX10_likeliest_16 mw24 0 rfl rfl ?_
    refine k_aload_n X dX10_likeliest_19 0 rfl ?_
    refine k_get (ci := 10) X inlX10 rfl 1 (by decide) dX10_likeliest_20 mw20 0 rfl rfl ?_
    refine k_get (ci := 3) X inlX3 rfl 2 (by decide) dX10_likeliest_23 mw697 1 rfl rfl ?_
    refine k_iload_n X dX10_likeliest_26 1 rfl ?_
    refine k_callVI (n := 2) (As := [.ref yht, .int p0]) (st := [.ref h0]) X [(cO7_rrrrii nw zr zm zw zp zmd ztr), (cO8_iiri zr 8 3 zrc zrn), (cAI g zrc 24 zrf), (cO8_iiri zm 12 3 zmc zmn), (cAI g zmc 36 zmf), (cO8_iiri yht 4 1 yhtc yhtn), (cAI g yhtc 4 yhtf)] [(cO10_vrrvvvvvvi h0 v0h0 tl nw v3h0 v4h0 v5h0 v6h0 v7h0 v8h0 tr), (cO3_vvrvvvvv tl v0tl v1tl yht v3tl v4tl v5tl v6tl v7tl), (cO8_iiri zw 6 3 zwc zwn), (cAI g zwc 18 zwf), (cO8_iiri zp 8 2 zpc zpn), (cAI g zpc 16 zpf)] [4, 12, 5, 6, 7, 2, 3] [0, 1, 8, 9, 10, 11] (s_likeliest l g nw yht p0 zr zm (.ref zw) (.ref zp) zmd ztr zrc zrn zrf zmc zmn zmf yhtc yhtn yhtf) dX10_likeliest_27 mw1174 mw1175 mw1176 mw23 mw1177 rfl 7 rfl rfl 0 _ rfl yk_yX7_likeliestFrame_2 rfl (Nat.le_of_ble_eq_true rfl) (Nat.le_of_ble_eq_true rfl) (Nat.le_of_ble_eq_true rfl) (Nat.le_of_ble_eq_true rfl) (Nat.le_of_ble_eq_true rfl) rfl rfl (by decide +kernel) rfl (by decide +kernel) (by decide +kernel) ?_
    rintro r_7 w rfl
    refine k_ws [(cO10_vrrvvvvvvi h0 v0h0 tl nw v3h0 v4h0 v5h0 v6h0 v7h0 v8h0 tr), (cO3_vvrvvvvv tl v0tl v1tl yht v3tl v4tl v5tl v6tl v7tl), (cO8_iiri zw 6 3 zwc zwn), (cAI g zwc 18 zwf), (cO8_iiri zp 8 2 zpc zpn), (cAI g zpc 16 zpf), (cO7_rrrrii nw zr zm zw zp zmd ztr), (cO8_iiri zr 8 3 zrc zrn), (cAI g zrc 24 zrf), (cO8_iiri zm 12 3 zmc zmn), (cAI g zmc 36 zmf), (cO8_iiri yht 4 1 yhtc yhtn), (cAI g yhtc 4 yhtf)] rfl ?_
    refine k_callVI (n := 1) (As := [.int r_7]) (st := []) X [(cO10_vrrvvvvvvi h0 v0h0 tl nw v3h0 v4h0 v5h0 v6h0 v7h0 v8h0 tr)] [(cO3_vvrvvvvv tl v0tl v1tl yht v3tl v4tl v5tl v6tl v7tl), (cO8_iiri zw 6 3 zwc zwn), (cAI g zwc 18 zwf), (cO8_iiri zp 8 2 zpc zpn), (cAI g zpc 16 zpf), (cO7_rrrrii nw zr zm zw zp zmd ztr), (cO8_iiri zr 8 3 zrc zrn), (cAI g zrc 24 zrf), (cO8_iiri zm 12 3 zmc zmn), (cAI g zmc 36 zmf), (cO8_iiri yht 4 1 yhtc yhtn), (cAI g yhtc 4 yhtf)] [0] [1, 2, 3, 4, 5, 6, 7, 8, 9, 10, 11, 12] (c_tell l g h0 r_7 v0h0 (.ref tl) (.ref nw) v3h0 v4h0 v5h0 v6h0 v7h0 v8h0 tr) dX10_likeliest_30 mw460 mw461 mw462 mw2 mw463 rfl 10 rfl rfl 0 _ rfl yk_yX10_tell_1 rfl (Nat.le_of_ble_eq_true rfl) (Nat.le_of_ble_eq_true rfl) (Nat.le_of_ble_eq_true rfl) (Nat.le_of_ble_eq_true rfl) (Nat.le_of_ble_eq_true rfl) rfl rfl (by decide +kernel) rfl (by decide +kernel) (by decide +kernel) ?_
    rintro r_10 w ⟨tr2_9, rfl⟩
    refine k_ws [(cO3_vvrvvvvv tl v0tl v1tl yht v3tl v4tl v5tl v6tl v7tl), (cO8_iiri zw 6 3 zwc zwn), (cAI g zwc 18 zwf), (cO8_iiri zp 8 2 zpc zpn), (cAI g zpc 16 zpf), (cO7_rrrrii nw zr zm zw zp zmd ztr), (cO8_iiri zr 8 3 zrc zrn), (cAI g zrc 24 zrf), (cO8_iiri zm 12 3 zmc zmn), (cAI g zmc 36 zmf), (cO8_iiri yht 4 1 yhtc yhtn), (cAI g yhtc 4 yhtf), (cO10_vrrvvvvvvi h0 v0h0 tl nw v3h0 v4h0 v5h0 v6h0 v7h0 v8h0 tr2_9)] rfl ?_
    refine k_goto 41 X dX10_likeliest_33 (by decide) ?_
    exact k_iret X hr dX10_likeliest_41 (Nat.le_of_ble_eq_true rfl) (Nat.le_of_ble_eq_true rfl) [12, 0, 10, 11, 5, 6, 7, 8, 9, 1, 2, 3, 4] (by decide) rfl rfl ⟨tr2_9, rfl⟩

theorem dX10_farFrom_0 : decode cX10_farFrom 0 = .ok (.aload_n 0, 1) := dk_42 rfl
theorem dX10_farFrom_1 : decode cX10_farFrom 1 = .ok (.getfield 26, 3) := dk_180 rfl rfl rfl rfl
theorem dX10_farFrom_4 : decode cX10_farFrom 4 = .ok (.getfield 131, 3) := dk_180 rfl rfl rfl rfl
theorem dX10_farFrom_7 : decode cX10_farFrom 7 = .ok (.iload_n 1, 1) := dk_27 rfl
theorem dX10_farFrom_8 : decode cX10_farFrom 8 = .ok (.iconst 1, 1) := dk_4 rfl
theorem dX10_farFrom_9 : decode cX10_farFrom 9 = .ok (.invokevirtual 147, 3) := dk_182 rfl rfl rfl rfl
theorem dX10_farFrom_12 : decode cX10_farFrom 12 = .ok (.aload_n 0, 1) := dk_42 rfl
theorem dX10_farFrom_13 : decode cX10_farFrom 13 = .ok (.getfield 26, 3) := dk_180 rfl rfl rfl rfl
theorem dX10_farFrom_16 : decode cX10_farFrom 16 = .ok (.getfield 124, 3) := dk_180 rfl rfl rfl rfl
theorem dX10_farFrom_19 : decode cX10_farFrom 19 = .ok (.aload_n 0, 1) := dk_42 rfl
theorem dX10_farFrom_20 : decode cX10_farFrom 20 = .ok (.getfield 26, 3) := dk_180 rfl rfl rfl rfl
theorem dX10_farFrom_23 : decode cX10_farFrom 23 = .ok (.getfield 131, 3) := dk_180 rfl rfl rfl rfl
theorem dX10_farFrom_26 : decode cX10_farFrom 26 = .ok (.iload_n 1, 1) := dk_27 rfl
theorem dX10_farFrom_27 : decode cX10_farFrom 27 = .ok (.iconst 0, 1) := dk_3 rfl
theorem dX10_farFrom_28 : decode cX10_farFrom 28 = .ok (.invokevirtual 147, 3) := dk_182 rfl rfl rfl rfl
theorem dX10_farFrom_31 : decode cX10_farFrom 31 = .ok (.iconst 1, 1) := dk_4 rfl
theorem dX10_farFrom_32 : decode cX10_farFrom 32 = .ok (.invokevirtual 147, 3) := dk_182 rfl rfl rfl rfl
theorem dX10_farFrom_35 : decode cX10_farFrom 35 = .ok (.isub, 1) := dk_100 rfl
theorem dX10_farFrom_36 : decode cX10_farFrom 36 = .ok (.istore_n 3, 1) := dk_62 rfl
theorem dX10_farFrom_37 : decode cX10_farFrom 37 = .ok (.aload_n 0, 1) := dk_42 rfl
theorem dX10_farFrom_38 : decode cX10_farFrom 38 = .ok (.getfield 19, 3) := dk_180 rfl rfl rfl rfl
theorem dX10_farFrom_41 : decode cX10_farFrom 41 = .ok (.getfield 256, 3) := dk_180 rfl rfl rfl rfl
theorem dX10_farFrom_44 : decode cX10_farFrom 44 = .ok (.iload_n 2, 1) := dk_28 rfl
theorem dX10_farFrom_45 : decode cX10_farFrom 45 = .ok (.iconst 1, 1) := dk_4 rfl
theorem dX10_farFrom_46 : decode cX10_farFrom 46 = .ok (.invokevirtual 147, 3) := dk_182 rfl rfl rfl rfl
theorem dX10_farFrom_49 : decode cX10_farFrom 49 = .ok (.aload_n 0, 1) := dk_42 rfl
theorem dX10_farFrom_50 : decode cX10_farFrom 50 = .ok (.getfield 26, 3) := dk_180 rfl rfl rfl rfl
theorem dX10_farFrom_53 : decode cX10_farFrom 53 = .ok (.getfield 124, 3) := dk_180 rfl rfl rfl rfl
theorem dX10_farFrom_56 : decode cX10_farFrom 56 = .ok (.aload_n 0, 1) := dk_42 rfl
theorem dX10_farFrom_57 : decode cX10_farFrom 57 = .ok (.getfield 19, 3) := dk_180 rfl rfl rfl rfl
theorem dX10_farFrom_60 : decode cX10_farFrom 60 = .ok (.getfield 256, 3) := dk_180 rfl rfl rfl rfl
theorem dX10_farFrom_63 : decode cX10_farFrom 63 = .ok (.iload_n 2, 1) := dk_28 rfl
theorem dX10_farFrom_64 : decode cX10_farFrom 64 = .ok (.iconst 0, 1) := dk_3 rfl
theorem dX10_farFrom_65 : decode cX10_farFrom 65 = .ok (.invokevirtual 147, 3) := dk_182 rfl rfl rfl rfl
theorem dX10_farFrom_68 : decode cX10_farFrom 68 = .ok (.iconst 1, 1) := dk_4 rfl
theorem dX10_farFrom_69 : decode cX10_farFrom 69 = .ok (.invokevirtual 147, 3) := dk_182 rfl rfl rfl rfl
theorem dX10_farFrom_72 : decode cX10_farFrom 72 = .ok (.isub, 1) := dk_100 rfl
theorem dX10_farFrom_73 : decode cX10_farFrom 73 = .ok (.istore 4, 2) := dk_54 rfl rfl rfl
theorem dX10_farFrom_75 : decode cX10_farFrom 75 = .ok (.iload_n 3, 1) := dk_29 rfl
theorem dX10_farFrom_76 : decode cX10_farFrom 76 = .ok (.iload 4, 2) := dk_21 rfl rfl rfl
theorem dX10_farFrom_78 : decode cX10_farFrom 78 = .ok (.isub, 1) := dk_100 rfl
theorem dX10_farFrom_79 : decode cX10_farFrom 79 = .ok (.invokestatic 384, 3) := dk_184 rfl rfl rfl rfl
theorem dX10_farFrom_82 : decode cX10_farFrom 82 = .ok (.ireturn, 1) := dk_172 rfl
set_option maxHeartbeats 4000000 in
set_option maxRecDepth 100000 in
theorem c_farFrom (l : Launch) (g : Gx) (h0 : Nat) (p0 : Int32) (p1 : Int32) (v0h0 : Value) (tl : Nat) (nw : Nat) (v3h0 : Value) (v4h0 : Value) (v5h0 : Value) (v6h0 : Value) (v7h0 : Value) (v8h0 : Value) (tr : Int32) (v0tl : Value) (v1tl : Value) (v2tl : Value) (v3tl : Value) (v4tl : Value) (v5tl : Value) (v6tl : Value) (yhc : Nat) (yhcc : Nat) (yhcn : Int32) (yhcf : Nat → Int32) (zr : Nat) (zm : Nat) (zw : Nat) (zp : Nat) (zmd : Int32) (ztr : Int32) (zrc : Nat) (zrn : Int32) (zrf : Nat → Int32) (zmc : Nat) (zmn : Int32) (zmf : Nat → Int32) (zwc : Nat) (zwn : Int32) (zwf : Nat → Int32) (zpc : Nat) (zpn : Int32) (zpf : Nat → Int32) : cI l g yX10_farFrom cX10_farFrom 5 (some .int) 1 22 0 0 [.ref h0, .int p0, .int p1] [(cO10_vrrvvvvvvi h0 v0h0 tl nw v3h0 v4h0 v5h0 v6h0 v7h0 v8h0 tr), (cO3_vvvvvvvr tl v0tl v1tl v2tl v3tl v4tl v5tl v6tl yhc), (cO8_iiri yhc 6 2 yhcc yhcn), (cAI g yhcc 12 yhcf), (cO7_rrrrii nw zr zm zw zp zmd ztr), (cO8_iiri zr 8 3 zrc zrn), (cAI g zrc 24 zrf), (cO8_iiri zm 12 3 zmc zmn), (cAI g zmc 36 zmf), (cO8_iiri zw 6 3 zwc zwn), (cAI g zwc 18 zwf), (cO8_iiri zp 8 2 zpc zpn), (cAI g zpc 16 zpf)] (fun r w => ∃ (tr2 : Int32), w = [(cO10_vrrvvvvvvi h0 v0h0 tl nw v3h0 v4h0 v5h0 v6h0 v7h0 v8h0 tr2), (cO3_vvvvvvvr tl v0tl v1tl v2tl v3tl v4tl v5tl v6tl yhc), (cO8_iiri yhc 6 2 yhcc yhcn), (cAI g yhcc 12 yhcf), (cO7_rrrrii nw zr zm zw zp zmd ztr), (cO8_iiri zr 8 3 zrc zrn), (cAI g zrc 24 zrf), (cO8_iiri zm 12 3 zmc zmn), (cAI g zmc 36 zmf), (cO8_iiri zw 6 3 zwc zwn), (cAI g zwc 18 zwf), (cO8_iiri zp 8 2 zpc zpn), (cAI g zpc 16 zpf)]) := by
  refine cI.of (by decide) (Nat.le_of_ble_eq_true rfl) ?_
  intro p e s m args below meth c A X hr hi
  refine k_lveq [(0, .ref h0), (1, .int p0), (2, .int p1)] rfl ?_
  refine k_aload_n X dX10_farFrom_0 0 rfl ?_
  refine k_get (ci := 10) X inlX10 rfl 2 (by decide) dX10_farFrom_1 mw24 0 rfl rfl ?_
  refine k_get (ci := 7) X inlX7 rfl 1 (by decide) dX10_farFrom_4 mw644 4 rfl rfl ?_
  refine k_iload_n X dX10_farFrom_7 1 rfl ?_
  refine k_iconst (v := 1) X dX10_farFrom_8 (by decide) ?_
  refine k_callVI (n := 2) (As := [.int p0, .int 1]) (st := []) X [(cO8_iiri zm 12 3 zmc zmn), (cAI g zmc 36 zmf)] [(cO10_vrrvvvvvvi h0 v0h0 tl nw v3h0 v4h0 v5h0 v6h0 v7h0 v8h0 tr), (cO3_vvvvvvvr tl v0tl v1tl v2tl v3tl v4tl v5tl v6tl yhc), (cO8_iiri yhc 6 2 yhcc yhcn), (cAI g yhcc 12 yhcf), (cO7_rrrrii nw zr zm zw zp zmd ztr), (cO8_iiri zr 8 3 zrc zrn), (cAI g zrc 24 zrf), (cO8_iiri zw 6 3 zwc zwn), (cAI g zwc 18 zwf), (cO8_iiri zp 8 2 zpc zpn), (cAI g zpc 16 zpf)] [7, 8] [0, 1, 2, 3, 4, 5, 6, 9, 10, 11, 12] (t_at l g zm p0 1 12 3 zmc zmn 36 zmf (tbk_12_3)) dX10_farFrom_9 mw665 mw376 mw377 mw64 mw378 rfl 8 rfl rfl 0 _ rfl yk_yX8_at_2 rfl (Nat.le_of_ble_eq_true rfl) (Nat.le_of_ble_eq_true rfl) (Nat.le_of_ble_eq_true rfl) (Nat.le_of_ble_eq_true rfl) (Nat.le_of_ble_eq_true rfl) rfl rfl (by decide +kernel) rfl (by decide +kernel) (by decide +kernel) ?_
  rintro r_1 w ⟨hr_2, rfl⟩
  refine k_ws [(cO10_vrrvvvvvvi h0 v0h0 tl nw v3h0 v4h0 v5h0 v6h0 v7h0 v8h0 tr), (cO3_vvvvvvvr tl v0tl v1tl v2tl v3tl v4tl v5tl v6tl yhc), (cO8_iiri yhc 6 2 yhcc yhcn), (cAI g yhcc 12 yhcf), (cO7_rrrrii nw zr zm zw zp zmd ztr), (cO8_iiri zr 8 3 zrc zrn), (cAI g zrc 24 zrf), (cO8_iiri zw 6 3 zwc zwn), (cAI g zwc 18 zwf), (cO8_iiri zp 8 2 zpc zpn), (cAI g zpc 16 zpf), (cO8_iiri zm 12 3 zmc zmn), (cAI g zmc 36 zmf)] rfl ?_
  refine k_aload_n X dX10_farFrom_12 0 rfl ?_
  refine k_get (ci := 10) X inlX10 rfl 2 (by decide) dX10_farFrom_13 mw24 0 rfl rfl ?_
  refine k_get (ci := 7) X inlX7 rfl 0 (by decide) dX10_farFrom_16 mw643 4 rfl rfl ?_
  refine k_aload_n X dX10_farFrom_19 0 rfl ?_
  refine k_get (ci := 10) X inlX10 rfl 2 (by decide) dX10_farFrom_20 mw24 0 rfl rfl ?_
  refine k_get (ci := 7) X inlX7 rfl 1 (by decide) dX10_farFrom_23 mw644 4 rfl rfl ?_
  refine k_iload_n X dX10_farFrom_26 1 rfl ?_
  refine k_iconst (v := 0) X dX10_farFrom_27 (by decide) ?_
  refine k_callVI (n := 2) (As := [.int p0, .int 0]) (st := [.ref zr, .int r_1]) X [(cO8_iiri zm 12 3 zmc zmn), (cAI g zmc 36 zmf)] [(cO10_vrrvvvvvvi h0 v0h0 tl nw v3h0 v4h0 v5h0 v6h0 v7h0 v8h0 tr), (cO3_vvvvvvvr tl v0tl v1tl v2tl v3tl v4tl v5tl v6tl yhc), (cO8_iiri yhc 6 2 yhcc yhcn), (cAI g yhcc 12 yhcf), (cO7_rrrrii nw zr zm zw zp zmd ztr), (cO8_iiri zr 8 3 zrc zrn), (cAI g zrc 24 zrf), (cO8_iiri zw 6 3 zwc zwn), (cAI g zwc 18 zwf), (cO8_iiri zp 8 2 zpc zpn), (cAI g zpc 16 zpf)] [11, 12] [0, 1, 2, 3, 4, 5, 6, 7, 8, 9, 10] (t_at l g zm p0 0 12 3 zmc zmn 36 zmf (tbk_12_3)) dX10_farFrom_28 mw665 mw376 mw377 mw64 mw378 rfl 8 rfl rfl 0 _ rfl yk_yX8_at_2 rfl (Nat.le_of_ble_eq_true rfl) (Nat.le_of_ble_eq_true rfl) (Nat.le_of_ble_eq_true rfl) (Nat.le_of_ble_eq_true rfl) (Nat.le_of_ble_eq_true rfl) rfl rfl (by decide +kernel) rfl (by decide +kernel) (by decide +kernel) ?_
  rintro r_3 w ⟨hr_4, rfl⟩
  refine k_ws [(cO10_vrrvvvvvvi h0 v0h0 tl nw v3h0 v4h0 v5h0 v6h0 v7h0 v8h0 tr), (cO3_vvvvvvvr tl v0tl v1tl v2tl v3tl v4tl v5tl v6tl yhc), (cO8_iiri yhc 6 2 yhcc yhcn), (cAI g yhcc 12 yhcf), (cO7_rrrrii nw zr zm zw zp zmd ztr), (cO8_iiri zr 8 3 zrc zrn), (cAI g zrc 24 zrf), (cO8_iiri zw 6 3 zwc zwn), (cAI g zwc 18 zwf), (cO8_iiri zp 8 2 zpc zpn), (cAI g zpc 16 zpf), (cO8_iiri zm 12 3 zmc zmn), (cAI g zmc 36 zmf)] rfl ?_
  refine k_iconst (v := 1) X dX10_farFrom_31 (by decide) ?_
  refine k_callVI (n := 2) (As := [.int r_3, .int 1]) (st := [.int r_1]) X [(cO8_iiri zr 8 3 zrc zrn), (cAI g zrc 24 zrf)] [(cO10_vrrvvvvvvi h0 v0h0 tl nw v3h0 v4h0 v5h0 v6h0 v7h0 v8h0 tr), (cO3_vvvvvvvr tl v0tl v1tl v2tl v3tl v4tl v5tl v6tl yhc), (cO8_iiri yhc 6 2 yhcc yhcn), (cAI g yhcc 12 yhcf), (cO7_rrrrii nw zr zm zw zp zmd ztr), (cO8_iiri zw 6 3 zwc zwn), (cAI g zwc 18 zwf), (cO8_iiri zp 8 2 zpc zpn), (cAI g zpc 16 zpf), (cO8_iiri zm 12 3 zmc zmn), (cAI g zmc 36 zmf)] [5, 6] [0, 1, 2, 3, 4, 7, 8, 9, 10, 11, 12] (t_at l g zr r_3 1 8 3 zrc zrn 24 zrf (tbk_8_3)) dX10_farFrom_32 mw665 mw376 mw377 mw64 mw378 rfl 8 rfl rfl 0 _ rfl yk_yX8_at_2 rfl (Nat.le_of_ble_eq_true rfl) (Nat.le_of_ble_eq_true rfl) (Nat.le_of_ble_eq_true rfl) (Nat.le_of_ble_eq_true rfl) (Nat.le_of_ble_eq_true rfl) rfl rfl (by decide +kernel) rfl (by decide +kernel) (by decide +kernel) ?_
  rintro r_5 w ⟨hr_6, rfl⟩
  refine k_ws [(cO10_vrrvvvvvvi h0 v0h0 tl nw v3h0 v4h0 v5h0 v6h0 v7h0 v8h0 tr), (cO3_vvvvvvvr tl v0tl v1tl v2tl v3tl v4tl v5tl v6tl yhc), (cO8_iiri yhc 6 2 yhcc yhcn), (cAI g yhcc 12 yhcf), (cO7_rrrrii nw zr zm zw zp zmd ztr), (cO8_iiri zw 6 3 zwc zwn), (cAI g zwc 18 zwf), (cO8_iiri zp 8 2 zpc zpn), (cAI g zpc 16 zpf), (cO8_iiri zm 12 3 zmc zmn), (cAI g zmc 36 zmf), (cO8_iiri zr 8 3 zrc zrn), (cAI g zrc 24 zrf)] rfl ?_
  refine k_isub X dX10_farFrom_35 ?_
  refine k_nm (fun z_7 ez_7 => ?_)
  refine k_istore_n [(3, .int z_7), (0, .ref h0), (1, .int p0), (2, .int p1)] X dX10_farFrom_36 (by decide) rfl ?_
  refine k_aload_n X dX10_farFrom_37 1 rfl ?_
  refine k_get (ci := 10) X inlX10 rfl 1 (by decide) dX10_farFrom_38 mw20 0 rfl rfl ?_
  refine k_get (ci := 3) X inlX3 rfl 7 (by decide) dX10_farFrom_41 mw1186 1 rfl rfl ?_
  refine k_iload_n X dX10_farFrom_44 3 rfl ?_
  refine k_iconst (v := 1) X dX10_farFrom_45 (by decide) ?_
  refine k_callVI (n := 2) (As := [.int p1, .int 1]) (st := []) X [(cO8_iiri yhc 6 2 yhcc yhcn), (cAI g yhcc 12 yhcf)] [(cO10_vrrvvvvvvi h0 v0h0 tl nw v3h0 v4h0 v5h0 v6h0 v7h0 v8h0 tr), (cO3_vvvvvvvr tl v0tl v1tl v2tl v3tl v4tl v5tl v6tl yhc), (cO7_rrrrii nw zr zm zw zp zmd ztr), (cO8_iiri zw 6 3 zwc zwn), (cAI g zwc 18 zwf), (cO8_iiri zp 8 2 zpc zpn), (cAI g zpc 16 zpf), (cO8_iiri zm 12 3 zmc zmn), (cAI g zmc 36 zmf), (cO8_iiri zr 8 3 zrc zrn), (cAI g zrc 24 zrf)] [2, 3] [0, 1, 4, 5, 6, 7, 8, 9, 10, 11, 12] (t_at l g yhc p1 1 6 2 yhcc yhcn 12 yhcf (tbk_6_2)) dX10_farFrom_46 mw665 mw376 mw377 mw64 mw378 rfl 8 rfl rfl 0 _ rfl yk_yX8_at_2 rfl (Nat.le_of_ble_eq_true rfl) (Nat.le_of_ble_eq_true rfl) (Nat.le_of_ble_eq_true rfl) (Nat.le_of_ble_eq_true rfl) (Nat.le_of_ble_eq_true rfl) rfl rfl (by decide +kernel) rfl (by decide +kernel) (by decide +kernel) ?_
  rintro r_8 w ⟨hr_9, rfl⟩
  refine k_ws [(cO10_vrrvvvvvvi h0 v0h0 tl nw v3h0 v4h0 v5h0 v6h0 v7h0 v8h0 tr), (cO3_vvvvvvvr tl v0tl v1tl v2tl v3tl v4tl v5tl v6tl yhc), (cO7_rrrrii nw zr zm zw zp zmd ztr), (cO8_iiri zw 6 3 zwc zwn), (cAI g zwc 18 zwf), (cO8_iiri zp 8 2 zpc zpn), (cAI g zpc 16 zpf), (cO8_iiri zm 12 3 zmc zmn), (cAI g zmc 36 zmf), (cO8_iiri zr 8 3 zrc zrn), (cAI g zrc 24 zrf), (cO8_iiri yhc 6 2 yhcc yhcn), (cAI g yhcc 12 yhcf)] rfl ?_
  refine k_aload_n X dX10_farFrom_49 1 rfl ?_
  refine k_get (ci := 10) X inlX10 rfl 2 (by decide) dX10_farFrom_50 mw24 0 rfl rfl ?_
  refine k_get (ci := 7) X inlX7 rfl 0 (by decide) dX10_farFrom_53 mw643 2 rfl rfl ?_
  refine k_aload_n X dX10_farFrom_56 1 rfl ?_
  refine k_get (ci := 10) X inlX10 rfl 1 (by decide) dX10_farFrom_57 mw20 0 rfl rfl ?_
  refine k_get (ci := 3) X inlX3 rfl 7 (by decide) dX10_farFrom_60 mw1186 1 rfl rfl ?_
  refine k_iload_n X dX10_farFrom_63 3 rfl ?_
  refine k_iconst (v := 0) X dX10_farFrom_64 (by decide) ?_
  refine k_callVI (n := 2) (As := [.int p1, .int 0]) (st := [.ref zr, .int r_8]) X [(cO8_iiri yhc 6 2 yhcc yhcn), (cAI g yhcc 12 yhcf)] [(cO10_vrrvvvvvvi h0 v0h0 tl nw v3h0 v4h0 v5h0 v6h0 v7h0 v8h0 tr), (cO3_vvvvvvvr tl v0tl v1tl v2tl v3tl v4tl v5tl v6tl yhc), (cO7_rrrrii nw zr zm zw zp zmd ztr), (cO8_iiri zw 6 3 zwc zwn), (cAI g zwc 18 zwf), (cO8_iiri zp 8 2 zpc zpn), (cAI g zpc 16 zpf), (cO8_iiri zm 12 3 zmc zmn), (cAI g zmc 36 zmf), (cO8_iiri zr 8 3 zrc zrn), (cAI g zrc 24 zrf)] [11, 12] [0, 1, 2, 3, 4, 5, 6, 7, 8, 9, 10] (t_at l g yhc p1 0 6 2 yhcc yhcn 12 yhcf (tbk_6_2)) dX10_farFrom_65 mw665 mw376 mw377 mw64 mw378 rfl 8 rfl rfl 0 _ rfl yk_yX8_at_2 rfl (Nat.le_of_ble_eq_true rfl) (Nat.le_of_ble_eq_true rfl) (Nat.le_of_ble_eq_true rfl) (Nat.le_of_ble_eq_true rfl) (Nat.le_of_ble_eq_true rfl) rfl rfl (by decide +kernel) rfl (by decide +kernel) (by decide +kernel) ?_
  rintro r_10 w ⟨hr_11, rfl⟩
  refine k_ws [(cO10_vrrvvvvvvi h0 v0h0 tl nw v3h0 v4h0 v5h0 v6h0 v7h0 v8h0 tr), (cO3_vvvvvvvr tl v0tl v1tl v2tl v3tl v4tl v5tl v6tl yhc), (cO7_rrrrii nw zr zm zw zp zmd ztr), (cO8_iiri zw 6 3 zwc zwn), (cAI g zwc 18 zwf), (cO8_iiri zp 8 2 zpc zpn), (cAI g zpc 16 zpf), (cO8_iiri zm 12 3 zmc zmn), (cAI g zmc 36 zmf), (cO8_iiri zr 8 3 zrc zrn), (cAI g zrc 24 zrf), (cO8_iiri yhc 6 2 yhcc yhcn), (cAI g yhcc 12 yhcf)] rfl ?_
  refine k_iconst (v := 1) X dX10_farFrom_68 (by decide) ?_
  refine k_callVI (n := 2) (As := [.int r_10, .int 1]) (st := [.int r_8]) X [(cO8_iiri zr 8 3 zrc zrn), (cAI g zrc 24 zrf)] [(cO10_vrrvvvvvvi h0 v0h0 tl nw v3h0 v4h0 v5h0 v6h0 v7h0 v8h0 tr), (cO3_vvvvvvvr tl v0tl v1tl v2tl v3tl v4tl v5tl v6tl yhc), (cO7_rrrrii nw zr zm zw zp zmd ztr), (cO8_iiri zw 6 3 zwc zwn), (cAI g zwc 18 zwf), (cO8_iiri zp 8 2 zpc zpn), (cAI g zpc 16 zpf), (cO8_iiri zm 12 3 zmc zmn), (cAI g zmc 36 zmf), (cO8_iiri yhc 6 2 yhcc yhcn), (cAI g yhcc 12 yhcf)] [9, 10] [0, 1, 2, 3, 4, 5, 6, 7, 8, 11, 12] (t_at l g zr r_10 1 8 3 zrc zrn 24 zrf (tbk_8_3)) dX10_farFrom_69 mw665 mw376 mw377 mw64 mw378 rfl 8 rfl rfl 0 _ rfl yk_yX8_at_2 rfl (Nat.le_of_ble_eq_true rfl) (Nat.le_of_ble_eq_true rfl) (Nat.le_of_ble_eq_true rfl) (Nat.le_of_ble_eq_true rfl) (Nat.le_of_ble_eq_true rfl) rfl rfl (by decide +kernel) rfl (by decide +kernel) (by decide +kernel) ?_
  rintro r_12 w ⟨hr_13, rfl⟩
  refine k_ws [(cO10_vrrvvvvvvi h0 v0h0 tl nw v3h0 v4h0 v5h0 v6h0 v7h0 v8h0 tr), (cO3_vvvvvvvr tl v0tl v1tl v2tl v3tl v4tl v5tl v6tl yhc), (cO7_rrrrii nw zr zm zw zp zmd ztr), (cO8_iiri zw 6 3 zwc zwn), (cAI g zwc 18 zwf), (cO8_iiri zp 8 2 zpc zpn), (cAI g zpc 16 zpf), (cO8_iiri zm 12 3 zmc zmn), (cAI g zmc 36 zmf), (cO8_iiri yhc 6 2 yhcc yhcn), (cAI g yhcc 12 yhcf), (cO8_iiri zr 8 3 zrc zrn), (cAI g zrc 24 zrf)] rfl ?_
  refine k_isub X dX10_farFrom_72 ?_
  refine k_nm (fun z_14 ez_14 => ?_)
  refine k_istore [(4, .int z_14), (3, .int z_7), (0, .ref h0), (1, .int p0), (2, .int p1)] X dX10_farFrom_73 (by decide) rfl ?_
  refine k_iload_n X dX10_farFrom_75 1 rfl ?_
  refine k_iload X dX10_farFrom_76 0 rfl ?_
  refine k_isub X dX10_farFrom_78 ?_
  refine k_nm (fun z_15 ez_15 => ?_)
  refine k_mabs X dX10_farFrom_79 mw1195 mw1130 mw103 mw1131 (Nat.le_of_ble_eq_true rfl) (Nat.le_of_ble_eq_true rfl) (Nat.zero_le _) (Nat.zero_le _) ?_
  refine k_nm (fun z_16 ez_16 => ?_)
  exact k_iret X hr dX10_farFrom_82 (Nat.le_of_ble_eq_true rfl) (Nat.le_of_ble_eq_true rfl) [0, 1, 9, 10, 2, 11, 12, 7, 8, 3, 4, 5, 6] (by decide) rfl rfl ⟨tr, rfl⟩

theorem dX10_nearestMark_0 : decode cX10_nearestMark 0 = .ok (.iconst (-1), 1) := dk_2 rfl
theorem dX10_nearestMark_1 : decode cX10_nearestMark 1 = .ok (.istore_n 2, 1) := dk_61 rfl
theorem dX10_nearestMark_2 : decode cX10_nearestMark 2 = .ok (.iconst 0, 1) := dk_3 rfl
theorem dX10_nearestMark_3 : decode cX10_nearestMark 3 = .ok (.istore_n 3, 1) := dk_62 rfl
theorem dX10_nearestMark_4 : decode cX10_nearestMark 4 = .ok (.iload_n 3, 1) := dk_29 rfl
theorem dX10_nearestMark_5 : decode cX10_nearestMark 5 = .ok (.aload_n 0, 1) := dk_42 rfl
theorem dX10_nearestMark_6 : decode cX10_nearestMark 6 = .ok (.getfield 19, 3) := dk_180 rfl rfl rfl rfl
theorem dX10_nearestMark_9 : decode cX10_nearestMark 9 = .ok (.getfield 150, 3) := dk_180 rfl rfl rfl rfl
theorem dX10_nearestMark_12 : decode cX10_nearestMark 12 = .ok (.getfield 113, 3) := dk_180 rfl rfl rfl rfl
theorem dX10_nearestMark_15 : decode cX10_nearestMark 15 = .ok (.if_icmp .ge 73, 3) := dk_162 rfl rfl rfl (by decide)
theorem dX10_nearestMark_18 : decode cX10_nearestMark 18 = .ok (.iconst 0, 1) := dk_3 rfl
theorem dX10_nearestMark_19 : decode cX10_nearestMark 19 = .ok (.istore 4, 2) := dk_54 rfl rfl rfl
theorem dX10_nearestMark_21 : decode cX10_nearestMark 21 = .ok (.iload 4, 2) := dk_21 rfl rfl rfl
theorem dX10_nearestMark_23 : decode cX10_nearestMark 23 = .ok (.aload_n 0, 1) := dk_42 rfl
theorem dX10_nearestMark_24 : decode cX10_nearestMark 24 = .ok (.getfield 26, 3) := dk_180 rfl rfl rfl rfl
theorem dX10_nearestMark_27 : decode cX10_nearestMark 27 = .ok (.getfield 131, 3) := dk_180 rfl rfl rfl rfl
theorem dX10_nearestMark_30 : decode cX10_nearestMark 30 = .ok (.getfield 113, 3) := dk_180 rfl rfl rfl rfl
theorem dX10_nearestMark_33 : decode cX10_nearestMark 33 = .ok (.if_icmp .ge 49, 3) := dk_162 rfl rfl rfl (by decide)
theorem dX10_nearestMark_36 : decode cX10_nearestMark 36 = .ok (.aload_n 0, 1) := dk_42 rfl
theorem dX10_nearestMark_37 : decode cX10_nearestMark 37 = .ok (.getfield 26, 3) := dk_180 rfl rfl rfl rfl
theorem dX10_nearestMark_40 : decode cX10_nearestMark 40 = .ok (.getfield 131, 3) := dk_180 rfl rfl rfl rfl
theorem dX10_nearestMark_43 : decode cX10_nearestMark 43 = .ok (.iload 4, 2) := dk_21 rfl rfl rfl
theorem dX10_nearestMark_45 : decode cX10_nearestMark 45 = .ok (.iconst 2, 1) := dk_5 rfl
theorem dX10_nearestMark_46 : decode cX10_nearestMark 46 = .ok (.invokevirtual 147, 3) := dk_182 rfl rfl rfl rfl
theorem dX10_nearestMark_49 : decode cX10_nearestMark 49 = .ok (.iload_n 3, 1) := dk_29 rfl
theorem dX10_nearestMark_50 : decode cX10_nearestMark 50 = .ok (.if_icmp .ne 26, 3) := dk_160 rfl rfl rfl (by decide)
theorem dX10_nearestMark_53 : decode cX10_nearestMark 53 = .ok (.iload_n 2, 1) := dk_28 rfl
theorem dX10_nearestMark_54 : decode cX10_nearestMark 54 = .ok (.ifCond .lt 19, 3) := dk_155 rfl rfl rfl (by decide)
theorem dX10_nearestMark_57 : decode cX10_nearestMark 57 = .ok (.aload_n 0, 1) := dk_42 rfl
theorem dX10_nearestMark_58 : decode cX10_nearestMark 58 = .ok (.iload 4, 2) := dk_21 rfl rfl rfl
theorem dX10_nearestMark_60 : decode cX10_nearestMark 60 = .ok (.iload_n 1, 1) := dk_27 rfl
theorem dX10_nearestMark_61 : decode cX10_nearestMark 61 = .ok (.invokevirtual 262, 3) := dk_182 rfl rfl rfl rfl
theorem dX10_nearestMark_64 : decode cX10_nearestMark 64 = .ok (.aload_n 0, 1) := dk_42 rfl
theorem dX10_nearestMark_65 : decode cX10_nearestMark 65 = .ok (.iload_n 2, 1) := dk_28 rfl
theorem dX10_nearestMark_66 : decode cX10_nearestMark 66 = .ok (.iload_n 1, 1) := dk_27 rfl
theorem dX10_nearestMark_67 : decode cX10_nearestMark 67 = .ok (.invokevirtual 262, 3) := dk_182 rfl rfl rfl rfl
theorem dX10_nearestMark_70 : decode cX10_nearestMark 70 = .ok (.if_icmp .ge 6, 3) := dk_162 rfl rfl rfl (by decide)
theorem dX10_nearestMark_73 : decode cX10_nearestMark 73 = .ok (.iload 4, 2) := dk_21 rfl rfl rfl
theorem dX10_nearestMark_75 : decode cX10_nearestMark 75 = .ok (.istore_n 2, 1) := dk_61 rfl
theorem dX10_nearestMark_76 : decode cX10_nearestMark 76 = .ok (.iinc 4 1, 3) := dk_132 rfl rfl rfl rfl (by decide)
theorem dX10_nearestMark_79 : decode cX10_nearestMark 79 = .ok (.goto (-58), 3) := dk_167 rfl rfl rfl (by decide)
theorem dX10_nearestMark_82 : decode cX10_nearestMark 82 = .ok (.iinc 3 1, 3) := dk_132 rfl rfl rfl rfl (by decide)
theorem dX10_nearestMark_85 : decode cX10_nearestMark 85 = .ok (.goto (-81), 3) := dk_167 rfl rfl rfl (by decide)
theorem dX10_nearestMark_88 : decode cX10_nearestMark 88 = .ok (.iload_n 2, 1) := dk_28 rfl
theorem dX10_nearestMark_89 : decode cX10_nearestMark 89 = .ok (.ireturn, 1) := dk_172 rfl
set_option maxHeartbeats 4000000 in
set_option maxRecDepth 100000 in
theorem c_nearestMark (l : Launch) (g : Gx) (h0 : Nat) (p0 : Int32) (v0h0 : Value) (tl : Nat) (nw : Nat) (v3h0 : Value) (v4h0 : Value) (v5h0 : Value) (v6h0 : Value) (v7h0 : Value) (v8h0 : Value) (tr : Int32) (v0tl : Value) (v1tl : Value) (yht : Nat) (v3tl : Value) (v4tl : Value) (v5tl : Value) (v6tl : Value) (yhc : Nat) (yhtc : Nat) (yhtn : Int32) (yhtf : Nat → Int32) (yhcc : Nat) (yhcn : Int32) (yhcf : Nat → Int32) (zr : Nat) (zm : Nat) (zw : Nat) (zp : Nat) (zmd : Int32) (ztr : Int32) (zrc : Nat) (zrn : Int32) (zrf : Nat → Int32) (zmc : Nat) (zmn : Int32) (zmf : Nat → Int32) (zwc : Nat) (zwn : Int32) (zwf : Nat → Int32) (zpc : Nat) (zpn : Int32) (zpf : Nat → Int32) : cI l g yX10_nearestMark cX10_nearestMark 5 (some .int) 2 46 0 0 [.ref h0, .int p0] [(cO10_vrrvvvvvvi h0 v0h0 tl nw v3h0 v4h0 v5h0 v6h0 v7h0 v8h0 tr), (cO3_vvrvvvvr tl v0tl v1tl yht v3tl v4tl v5tl v6tl yhc), (cO8_iiri yht 4 1 yhtc yhtn), (cAI g yhtc 4 yhtf), (cO8_iiri yhc 6 2 yhcc yhcn), (cAI g yhcc 12 yhcf), (cO7_rrrrii nw zr zm zw zp zmd ztr), (cO8_iiri zr 8 3 zrc zrn), (cAI g zrc 24 zrf), (cO8_iiri zm 12 3 zmc zmn), (cAI g zmc 36 zmf), (cO8_iiri zw 6 3 zwc zwn), (cAI g zwc 18 zwf), (cO8_iiri zp 8 2 zpc zpn), (cAI g zpc 16 zpf)] (fun r w => ∃ (tr2 : Int32), w = [(cO10_vrrvvvvvvi h0 v0h0 tl nw v3h0 v4h0 v5h0 v6h0 v7h0 v8h0 tr2), (cO3_vvrvvvvr tl v0tl v1tl yht v3tl v4tl v5tl v6tl yhc), (cO8_iiri yht 4 1 yhtc yhtn), (cAI g yhtc 4 yhtf), (cO8_iiri yhc 6 2 yhcc yhcn), (cAI g yhcc 12 yhcf), (cO7_rrrrii nw zr zm zw zp zmd ztr), (cO8_iiri zr 8 3 zrc zrn), (cAI g zrc 24 zrf), (cO8_iiri zm 12 3 zmc zmn), (cAI g zmc 36 zmf), (cO8_iiri zw 6 3 zwc zwn), (cAI g zwc 18 zwf), (cO8_iiri zp 8 2 zpc zpn), (cAI g zpc 16 zpf)]) := by
  refine cI.of (by decide) (Nat.le_of_ble_eq_true rfl) ?_
  intro p e s m args below meth c A X hr hi
  refine k_lveq [(0, .ref h0), (1, .int p0)] rfl ?_
  refine k_iconst (v := -1) X dX10_nearestMark_0 (by decide) ?_
  refine k_istore_n [(2, .int (-1)), (0, .ref h0), (1, .int p0)] X dX10_nearestMark_1 (by decide) rfl ?_
  refine k_iconst (v := 0) X dX10_nearestMark_2 (by decide) ?_
  refine k_istore_n [(3, .int 0), (2, .int (-1)), (0, .ref h0), (1, .int p0)] X dX10_nearestMark_3 (by decide) rfl ?_
  refine (fun hL : ∀ (nn_4 : Nat) (u_1 : Int32) (u_2 : Int32) (u_3 : Int32), (yhtn.toInt - u_1.toInt).toNat = nn_4 → Wk p l e _ s m args below meth c _ A g _ _ _ [(cO10_vrrvvvvvvi h0 v0h0 tl nw v3h0 v4h0 v5h0 v6h0 v7h0 v8h0 u_3), (cO3_vvrvvvvr tl v0tl v1tl yht v3tl v4tl v5tl v6tl yhc), (cO8_iiri yht 4 1 yhtc yhtn), (cAI g yhtc 4 yhtf), (cO8_iiri yhc 6 2 yhcc yhcn), (cAI g yhcc 12 yhcf), (cO7_rrrrii nw zr zm zw zp zmd ztr), (cO8_iiri zr 8 3 zrc zrn), (cAI g zrc 24 zrf), (cO8_iiri zm 12 3 zmc zmn), (cAI g zmc 36 zmf), (cO8_iiri zw 6 3 zwc zwn), (cAI g zwc 18 zwf), (cO8_iiri zp 8 2 zpc zpn), (cAI g zpc 16 zpf)] [(3, .int u_1), (2, .int u_2), (0, .ref h0), (1, .int p0)] 4 [] => hL _ 0 ((-1)) tr rfl ) ?_
  refine fun nn_4 => Nat.strongRecOn nn_4 (fun nn_4 ih_6 => ?_)
  intro u_1 u_2 u_3 hm_5 
  refine k_iload_n X dX10_nearestMark_4 0 rfl ?_
  refine k_aload_n X dX10_nearestMark_5 2 rfl ?_
  refine k_get (ci := 10) X inlX10 rfl 1 (by decide) dX10_nearestMark_6 mw20 0 rfl rfl ?_
  refine k_get (ci := 3) X inlX3 rfl 2 (by decide) dX10_nearestMark_9 mw697 1 rfl rfl ?_
  refine k_get (ci := 8) X inlX8 rfl 3 (by decide) dX10_nearestMark_12 mw214 2 rfl rfl ?_
  refine k_ic_ge 88 X dX10_nearestMark_15 (by decide) (fun h_7 => ?_) (fun h_7 => ?_)
  · skip
    refine k_iload_n X dX10_nearestMark_88 1 rfl ?_
    exact k_iret X hr dX10_nearestMark_89 (Nat.le_of_ble_eq_true rfl) (Nat.le_of_ble_eq_true rfl) [0, 1, 2, 3, 4, 5, 6, 7, 8, 9, 10, 11, 12, 13, 14] (by decide) rfl rfl ⟨u_3, rfl⟩
  · skip
    refine k_iconst (v := 0) X dX10_nearestMark_18 (by decide) ?_
    refine k_istore [(4, .int 0), (3, .int u_1), (2, .int u_2), (0, .ref h0), (1, .int p0)] X dX10_nearestMark_19 (by decide) rfl ?_
    refine (fun hL : ∀ (nn_11 : Nat) (u_8 : Int32) (u_9 : Int32) (u_10 : Int32), (zmn.toInt - u_8.toInt).toNat = nn_11 → Wk p l e _ s m args below meth c _ A g _ _ _ [(cO10_vrrvvvvvvi h0 v0h0 tl nw v3h0 v4h0 v5h0 v6h0 v7h0 v8h0 u_10), (cO3_vvrvvvvr tl v0tl v1tl yht v3tl v4tl v5tl v6tl yhc), (cO8_iiri yht 4 1 yhtc yhtn), (cAI g yhtc 4 yhtf), (cO8_iiri yhc 6 2 yhcc yhcn), (cAI g yhcc 12 yhcf), (cO7_rrrrii nw zr zm zw zp zmd ztr), (cO8_iiri zr 8 3 zrc zrn), (cAI g zrc 24 zrf), (cO8_iiri zm 12 3 zmc zmn), (cAI g zmc 36 zmf), (cO8_iiri zw 6 3 zwc zwn), (cAI g zwc 18 zwf), (cO8_iiri zp 8 2 zpc zpn), (cAI g zpc 16 zpf)] [(4, .int u_8), (3, .int u_1), (2, .int u_9), (0, .ref h0), (1, .int p0)] 21 [] => hL _ 0 u_2 u_3 rfl ) ?_
    refine fun nn_11 => Nat.strongRecOn nn_11 (fun nn_11 ih_13 => ?_)
    intro u_8 u_9 u_10 hm_12 
    refine k_iload X dX10_nearestMark_21 0 rfl ?_
    refine k_aload_n X dX10_nearestMark_23 3 rfl ?_
    refine k_get (ci := 10) X inlX10 rfl 2 (by decide) dX10_nearestMark_24 mw24 0 rfl rfl ?_
    refine k_get (ci := 7) X inlX7 rfl 1 (by decide) dX10_nearestMark_27 mw644 6 rfl rfl ?_
    refine k_get (ci := 8) X inlX8 rfl 3 (by decide) dX10_nearestMark_30 mw214 9 rfl rfl ?_
    refine k_ic_ge 82 X dX10_nearestMark_33 (by decide) (fun h_14 => ?_) (fun h_14 => ?_)
    · skip
      obtain ⟨z_15, ez_15⟩ : ∃ y : Int32, u_1 + Int32.ofInt 1 = y := ⟨_, rfl⟩
      refine k_iinc z_15 [(3, .int z_15), (4, .int u_8), (2, .int u_9), (0, .ref h0), (1, .int p0)] 1 X dX10_nearestMark_82 rfl ez_15 (by decide) rfl ?_
      refine k_goto 4 X dX10_nearestMark_85 (by decide) ?_
      refine k_lv [(3, .int z_15), (2, .int u_9), (0, .ref h0), (1, .int p0)] [0, 2, 3, 4] rfl ?_
      exact ih_6 _ (by rw [← hm_5]; exact mu_lt (by assumption) (by assumption)) z_15 u_9 u_10 rfl 
    · skip
      refine k_aload_n X dX10_nearestMark_36 3 rfl ?_
      refine k_get (ci := 10) X inlX10 rfl 2 (by decide) dX10_nearestMark_37 mw24 0 rfl rfl ?_
      refine k_get (ci := 7) X inlX7 rfl 1 (by decide) dX10_nearestMark_40 mw644 6 rfl rfl ?_
      refine k_iload X dX10_nearestMark_43 0 rfl ?_
      refine k_iconst (v := 2) X dX10_nearestMark_45 (by decide) ?_
      refine k_callVI (n := 2) (As := [.int u_8, .int 2]) (st := []) X [(cO8_iiri zm 12 3 zmc zmn), (cAI g zmc 36 zmf)] [(cO10_vrrvvvvvvi h0 v0h0 tl nw v3h0 v4h0 v5h0 v6h0 v7h0 v8h0 u_10), (cO3_vvrvvvvr tl v0tl v1tl yht v3tl v4tl v5tl v6tl yhc), (cO8_iiri yht 4 1 yhtc yhtn), (cAI g yhtc 4 yhtf), (cO8_iiri yhc 6 2 yhcc yhcn), (cAI g yhcc 12 yhcf), (cO7_rrrrii nw zr zm zw zp zmd ztr), (cO8_iiri zr 8 3 zrc zrn), (cAI g zrc 24 zrf), (cO8_iiri zw 6 3 zwc zwn), (cAI g zwc 18 zwf), (cO8_iiri zp 8 2 zpc zpn), (cAI g zpc 16 zpf)] [9, 10] [0, 1, 2, 3, 4, 5, 6, 7, 8, 11, 12, 13, 14] (t_at l g zm u_8 2 12 3 zmc zmn 36 zmf (tbk_12_3)) dX10_nearestMark_46 mw665 mw376 mw377 mw64 mw378 rfl 8 rfl rfl 0 _ rfl yk_yX8_at_2 rfl (Nat.le_of_ble_eq_true rfl) (Nat.le_of_ble_eq_true rfl) (Nat.le_of_ble_eq_true rfl) (Nat.le_of_ble_eq_true rfl) (Nat.le_of_ble_eq_true rfl) rfl rfl (by decide +kernel) rfl (by decide +kernel) (by decide +kernel) ?_
      rintro r_16 w ⟨hr_17, rfl⟩
      refine k_ws [(cO10_vrrvvvvvvi h0 v0h0 tl nw v3h0 v4h0 v5h0 v6h0 v7h0 v8h0 u_10), (cO3_vvrvvvvr tl v0tl v1tl yht v3tl v4tl v5tl v6tl yhc), (cO8_iiri yht 4 1 yhtc yhtn), (cAI g yhtc 4 yhtf), (cO8_iiri yhc 6 2 yhcc yhcn), (cAI g yhcc 12 yhcf), (cO7_rrrrii nw zr zm zw zp zmd ztr), (cO8_iiri zr 8 3 zrc zrn), (cAI g zrc 24 zrf), (cO8_iiri zw 6 3 zwc zwn), (cAI g zwc 18 zwf), (cO8_iiri zp 8 2 zpc zpn), (cAI g zpc 16 zpf), (cO8_iiri zm 12 3 zmc zmn), (cAI g zmc 36 zmf)] rfl ?_
      refine k_iload_n X dX10_nearestMark_49 1 rfl ?_
      refine k_ic_ne 76 X dX10_nearestMark_50 (by decide) (fun h_18 => ?_) (fun h_18 => ?_)
      · skip
        obtain ⟨z_19, ez_19⟩ : ∃ y : Int32, u_8 + Int32.ofInt 1 = y := ⟨_, rfl⟩
        refine k_iinc z_19 [(4, .int z_19), (3, .int u_1), (2, .int u_9), (0, .ref h0), (1, .int p0)] 0 X dX10_nearestMark_76 rfl ez_19 (by decide) rfl ?_
        refine k_goto 21 X dX10_nearestMark_79 (by decide) ?_
        refine k_sub [(cO10_vrrvvvvvvi h0 v0h0 tl nw v3h0 v4h0 v5h0 v6h0 v7h0 v8h0 u_10), (cO3_vvrvvvvr tl v0tl v1tl yht v3tl v4tl v5tl v6tl yhc), (cO8_iiri yht 4 1 yhtc yhtn), (cAI g yhtc 4 yhtf), (cO8_iiri yhc 6 2 yhcc yhcn), (cAI g yhcc 12 yhcf), (cO7_rrrrii nw zr zm zw zp zmd ztr), (cO8_iiri zr 8 3 zrc zrn), (cAI g zrc 24 zrf), (cO8_iiri zm 12 3 zmc zmn), (cAI g zmc 36 zmf), (cO8_iiri zw 6 3 zwc zwn), (cAI g zwc 18 zwf), (cO8_iiri zp 8 2 zpc zpn), (cAI g zpc 16 zpf)] [0, 1, 2, 3, 4, 5, 6, 7, 8, 13, 14, 9, 10, 11, 12] rfl (by decide) rfl ?_
        exact ih_13 _ (by rw [← hm_12]; exact mu_lt (by assumption) (by assumption)) z_19 u_9 u_10 rfl 
      · skip
        refine k_iload_n X dX10_nearestMark_53 2 rfl ?_
        refine k_if_lt 73 X dX10_nearestMark_54 (by decide) (fun h_20 => ?_) (fun h_20 => ?_)
        · skip
          refine k_iload X dX10_nearestMark_73 0 rfl ?_
          refine k_istore_n [(2, .int u_8), (4, .int u_8), (3, .int u_1), (0, .ref h0), (1, .int p0)] X dX10_nearestMark_75 (by decide) rfl ?_
          obtain ⟨z_21, ez_21⟩ : ∃ y : Int32, u_8 + Int32.ofInt 1 = y := ⟨_, rfl⟩
          refine k_iinc z_21 [(4, .int z_21), (2, .int u_8), (3, .int u_1), (0, .ref h0), (1, .int p0)] 1 X dX10_nearestMark_76 rfl ez_21 (by decide) rfl ?_
          refine k_goto 21 X dX10_nearestMark_79 (by decide) ?_
          refine k_lv [(4, .int z_21), (3, .int u_1), (2, .int u_8), (0, .ref h0), (1, .int p0)] [0, 2, 1, 3, 4] rfl ?_
          refine k_sub [(cO10_vrrvvvvvvi h0 v0h0 tl nw v3h0 v4h0 v5h0 v6h0 v7h0 v8h0 u_10), (cO3_vvrvvvvr tl v0tl v1tl yht v3tl v4tl v5tl v6tl yhc), (cO8_iiri yht 4 1 yhtc yhtn), (cAI g yhtc 4 yhtf), (cO8_iiri yhc 6 2 yhcc yhcn), (cAI g yhcc 12 yhcf), (cO7_rrrrii nw zr zm zw zp zmd ztr), (cO8_iiri zr 8 3 zrc zrn), (cAI g zrc 24 zrf), (cO8_iiri zm 12 3 zmc zmn), (cAI g zmc 36 zmf), (cO8_iiri zw 6 3 zwc zwn), (cAI g zwc 18 zwf), (cO8_iiri zp 8 2 zpc zpn), (cAI g zpc 16 zpf)] [0, 1, 2, 3, 4, 5, 6, 7, 8, 13, 14, 9, 10, 11, 12] rfl (by decide) rfl ?_
          exact ih_13 _ (by rw [← hm_12]; exact mu_lt (by assumption) (by assumption)) z_21 u_8 u_10 rfl 
        · skip
          refine k_aload_n X dX10_nearestMark_57 3 rfl ?_
          refine k_iload X dX10_nearestMark_58 0 rfl ?_
          refine k_iload_n X dX10_nearestMark_60 4 rfl ?_
          refine k_callVI (n := 2) (As := [.int u_8, .int p0]) (st := []) X [(cO10_vrrvvvvvvi h0 v0h0 tl nw v3h0 v4h0 v5h0 v6h0 v7h0 v8h0 u_10), (cO3_vvrvvvvr tl v0tl v1tl yht v3tl v4tl v5tl v6tl yhc), (cO8_iiri yhc 6 2 yhcc yhcn), (cAI g yhcc 12 yhcf), (cO7_rrrrii nw zr zm zw zp zmd ztr), (cO8_iiri zr 8 3 zrc zrn), (cAI g zrc 24 zrf), (cO8_iiri zm 12 3 zmc zmn), (cAI g zmc 36 zmf), (cO8_iiri zw 6 3 zwc zwn), (cAI g zwc 18 zwf), (cO8_iiri zp 8 2 zpc zpn), (cAI g zpc 16 zpf)] [(cO8_iiri yht 4 1 yhtc yhtn), (cAI g yhtc 4 yhtf)] [0, 1, 4, 5, 6, 7, 8, 13, 14, 9, 10, 11, 12] [2, 3] (c_farFrom l g h0 u_8 p0 v0h0 tl nw v3h0 v4h0 v5h0 v6h0 v7h0 v8h0 u_10 v0tl v1tl (.ref yht) v3tl v4tl v5tl v6tl yhc yhcc yhcn yhcf zr zm zw zp zmd ztr zrc zrn zrf zmc zmn zmf zwc zwn zwf zpc zpn zpf) dX10_nearestMark_61 mw1191 mw1192 mw1193 mw2 mw1194 rfl 10 rfl rfl 0 _ rfl yk_yX10_farFrom_2 rfl (Nat.le_of_ble_eq_true rfl) (Nat.le_of_ble_eq_true rfl) (Nat.le_of_ble_eq_true rfl) (Nat.le_of_ble_eq_true rfl) (Nat.le_of_ble_eq_true rfl) rfl rfl (by decide +kernel) rfl (by decide +kernel) (by decide +kernel) ?_
          rintro r_23 w ⟨tr2_22, rfl⟩
          refine k_ws [(cO8_iiri yht 4 1 yhtc yhtn), (cAI g yhtc 4 yhtf), (cO10_vrrvvvvvvi h0 v0h0 tl nw v3h0 v4h0 v5h0 v6h0 v7h0 v8h0 tr2_22), (cO3_vvrvvvvr tl v0tl v1tl yht v3tl v4tl v5tl v6tl yhc), (cO8_iiri yhc 6 2 yhcc yhcn), (cAI g yhcc 12 yhcf), (cO7_rrrrii nw zr zm zw zp zmd ztr), (cO8_iiri zr 8 3 zrc zrn), (cAI g zrc 24 zrf), (cO8_iiri zm 12 3 zmc zmn), (cAI g zmc 36 zmf), (cO8_iiri zw 6 3 zwc zwn), (cAI g zwc 18 zwf), (cO8_iiri zp 8 2 zpc zpn), (cAI g zpc 16 zpf)] rfl ?_
          refine k_aload_n X dX10_nearestMark_64 3 rfl ?_
          refine k_iload_n X dX10_nearestMark_65 2 rfl ?_
          refine k_iload_n X dX10_nearestMark_66 4 rfl ?_
          refine k_callVI (n := 2) (As := [.int u_9, .int p0]) (st := [.int r_23]) X [(cO10_vrrvvvvvvi h0 v0h0 tl nw v3h0 v4h0 v5h0 v6h0 v7h0 v8h0 tr2_22), (cO3_vvrvvvvr tl v0tl v1tl yht v3tl v4tl v5tl v6tl yhc), (cO8_iiri yhc 6 2 yhcc yhcn), (cAI g yhcc 12 yhcf), (cO7_rrrrii nw zr zm zw zp zmd ztr), (cO8_iiri zr 8 3 zrc zrn), (cAI g zrc 24 zrf), (cO8_iiri zm 12 3 zmc zmn), (cAI g zmc 36 zmf), (cO8_iiri zw 6 3 zwc zwn), (cAI g zwc 18 zwf), (cO8_iiri zp 8 2 zpc zpn), (cAI g zpc 16 zpf)] [(cO8_iiri yht 4 1 yhtc yhtn), (cAI g yhtc 4 yhtf)] [2, 3, 4, 5, 6, 7, 8, 9, 10, 11, 12, 13, 14] [0, 1] (c_farFrom l g h0 u_9 p0 v0h0 tl nw v3h0 v4h0 v5h0 v6h0 v7h0 v8h0 tr2_22 v0tl v1tl (.ref yht) v3tl v4tl v5tl v6tl yhc yhcc yhcn yhcf zr zm zw zp zmd ztr zrc zrn zrf zmc zmn zmf zwc zwn zwf zpc zpn zpf) dX10_nearestMark_67 mw1191 mw1192 mw1193 mw2 mw1194 rfl 10 rfl rfl 0 _ rfl yk_yX10_farFrom_2 rfl (Nat.le_of_ble_eq_true rfl) (Nat.le_of_ble_eq_true rfl) (Nat.le_of_ble_eq_true rfl) (Nat.le_of_ble_eq_true rfl) (Nat.le_of_ble_eq_true rfl) rfl rfl (by decide +kernel) rfl (by decide +kernel) (by decide +kernel) ?_
          rintro r_26 w ⟨tr2_25, rfl⟩
          refine k_ws [(cO8_iiri yht 4 1 yhtc yhtn), (cAI g yhtc 4 yhtf), (cO10_vrrvvvvvvi h0 v0h0 tl nw v3h0 v4h0 v5h0 v6h0 v7h0 v8h0 tr2_25), (cO3_vvrvvvvr tl v0tl v1tl yht v3tl v4tl v5tl v6tl yhc), (cO8_iiri yhc 6 2 yhcc yhcn), (cAI g yhcc 12 yhcf), (cO7_rrrrii nw zr zm zw zp zmd ztr), (cO8_iiri zr 8 3 zrc zrn), (cAI g zrc 24 zrf), (cO8_iiri zm 12 3 zmc zmn), (cAI g zmc 36 zmf), (cO8_iiri zw 6 3 zwc zwn), (cAI g zwc 18 zwf), (cO8_iiri zp 8 2 zpc zpn), (cAI g zpc 16 zpf)] rfl ?_
          refine k_ic_ge 76 X dX10_nearestMark_70 (by decide) (fun h_28 => ?_) (fun h_28 => ?_)
          · skip
            obtain ⟨z_29, ez_29⟩ : ∃ y : Int32, u_8 + Int32.ofInt 1 = y := ⟨_, rfl⟩
            refine k_iinc z_29 [(4, .int z_29), (3, .int u_1), (2, .int u_9), (0, .ref h0), (1, .int p0)] 0 X dX10_nearestMark_76 rfl ez_29 (by decide) rfl ?_
            refine k_goto 21 X dX10_nearestMark_79 (by decide) ?_
            refine k_sub [(cO10_vrrvvvvvvi h0 v0h0 tl nw v3h0 v4h0 v5h0 v6h0 v7h0 v8h0 tr2_25), (cO3_vvrvvvvr tl v0tl v1tl yht v3tl v4tl v5tl v6tl yhc), (cO8_iiri yht 4 1 yhtc yhtn), (cAI g yhtc 4 yhtf), (cO8_iiri yhc 6 2 yhcc yhcn), (cAI g yhcc 12 yhcf), (cO7_rrrrii nw zr zm zw zp zmd ztr), (cO8_iiri zr 8 3 zrc zrn), (cAI g zrc 24 zrf), (cO8_iiri zm 12 3 zmc zmn), (cAI g zmc 36 zmf), (cO8_iiri zw 6 3 zwc zwn), (cAI g zwc 18 zwf), (cO8_iiri zp 8 2 zpc zpn), (cAI g zpc 16 zpf)] [2, 3, 0, 1, 4, 5, 6, 7, 8, 9, 10, 11, 12, 13, 14] rfl (by decide) rfl ?_
            exact ih_13 _ (by rw [← hm_12]; exact mu_lt (by assumption) (by assumption)) z_29 u_9 tr2_25 rfl 
          · skip
            refine k_iload X dX10_nearestMark_73 0 rfl ?_
            refine k_istore_n [(2, .int u_8), (4, .int u_8), (3, .int u_1), (0, .ref h0), (1, .int p0)] X dX10_nearestMark_75 (by decide) rfl ?_
            obtain ⟨z_30, ez_30⟩ : ∃ y : Int32, u_8 + Int32.ofInt 1 = y := ⟨_, rfl⟩
            refine k_iinc z_30 [(4, .int z_30), (2, .int u_8), (3, .int u_1), (0, .ref h0), (1, .int p0)] 1 X dX10_nearestMark_76 rfl ez_30 (by decide) rfl ?_
            refine k_goto 21 X dX10_nearestMark_79 (by decide) ?_
            refine k_lv [(4, .int z_30), (3, .int u_1), (2, .int u_8), (0, .ref h0), (1, .int p0)] [0, 2, 1, 3, 4] rfl ?_
            refine k_sub [(cO10_vrrvvvvvvi h0 v0h0 tl nw v3h0 v4h0 v5h0 v6h0 v7h0 v8h0 tr2_25), (cO3_vvrvvvvr tl v0tl v1tl yht v3tl v4tl v5tl v6tl yhc), (cO8_iiri yht 4 1 yhtc yhtn), (cAI g yhtc 4 yhtf), (cO8_iiri yhc 6 2 yhcc yhcn), (cAI g yhcc 12 yhcf), (cO7_rrrrii nw zr zm zw zp zmd ztr), (cO8_iiri zr 8 3 zrc zrn), (cAI g zrc 24 zrf), (cO8_iiri zm 12 3 zmc zmn), (cAI g zmc 36 zmf), (cO8_iiri zw 6 3 zwc zwn), (cAI g zwc 18 zwf), (cO8_iiri zp 8 2 zpc zpn), (cAI g zpc 16 zpf)] [2, 3, 0, 1, 4, 5, 6, 7, 8, 9, 10, 11, 12, 13, 14] rfl (by decide) rfl ?_
            exact ih_13 _ (by rw [← hm_12]; exact mu_lt (by assumption) (by assumption)) z_30 u_8 tr2_25 rfl 

theorem dX10_who_0 : decode cX10_who 0 = .ok (.aload_n 0, 1) := dk_42 rfl
theorem dX10_who_1 : decode cX10_who 1 = .ok (.getfield 19, 3) := dk_180 rfl rfl rfl rfl
theorem dX10_who_4 : decode cX10_who 4 = .ok (.getfield 256, 3) := dk_180 rfl rfl rfl rfl
theorem dX10_who_7 : decode cX10_who 7 = .ok (.iload_n 1, 1) := dk_27 rfl
theorem dX10_who_8 : decode cX10_who 8 = .ok (.invokevirtual 127, 3) := dk_182 rfl rfl rfl rfl
theorem dX10_who_11 : decode cX10_who 11 = .ok (.ifCond .ne 9, 3) := dk_154 rfl rfl rfl (by decide)
theorem dX10_who_14 : decode cX10_who 14 = .ok (.aload_n 0, 1) := dk_42 rfl
theorem dX10_who_15 : decode cX10_who 15 = .ok (.iconst 1, 1) := dk_4 rfl
theorem dX10_who_16 : decode cX10_who 16 = .ok (.invokevirtual 83, 3) := dk_182 rfl rfl rfl rfl
theorem dX10_who_19 : decode cX10_who 19 = .ok (.ireturn, 1) := dk_172 rfl
theorem dX10_who_20 : decode cX10_who 20 = .ok (.aload_n 0, 1) := dk_42 rfl
theorem dX10_who_21 : decode cX10_who 21 = .ok (.iload_n 1, 1) := dk_27 rfl
theorem dX10_who_22 : decode cX10_who 22 = .ok (.invokevirtual 259, 3) := dk_182 rfl rfl rfl rfl
theorem dX10_who_25 : decode cX10_who 25 = .ok (.istore_n 2, 1) := dk_61 rfl
theorem dX10_who_26 : decode cX10_who 26 = .ok (.aload_n 0, 1) := dk_42 rfl
theorem dX10_who_27 : decode cX10_who 27 = .ok (.iload_n 2, 1) := dk_28 rfl
theorem dX10_who_28 : decode cX10_who 28 = .ok (.ifCond .ge 8, 3) := dk_156 rfl rfl rfl (by decide)
theorem dX10_who_31 : decode cX10_who 31 = .ok (.bipush (-2), 2) := dk_16 rfl rfl (by decide)
theorem dX10_who_33 : decode cX10_who 33 = .ok (.goto 15, 3) := dk_167 rfl rfl rfl (by decide)
theorem dX10_who_36 : decode cX10_who 36 = .ok (.aload_n 0, 1) := dk_42 rfl
theorem dX10_who_37 : decode cX10_who 37 = .ok (.getfield 26, 3) := dk_180 rfl rfl rfl rfl
theorem dX10_who_40 : decode cX10_who 40 = .ok (.getfield 131, 3) := dk_180 rfl rfl rfl rfl
theorem dX10_who_43 : decode cX10_who 43 = .ok (.iload_n 2, 1) := dk_28 rfl
theorem dX10_who_44 : decode cX10_who 44 = .ok (.iconst 2, 1) := dk_5 rfl
theorem dX10_who_45 : decode cX10_who 45 = .ok (.invokevirtual 147, 3) := dk_182 rfl rfl rfl rfl
theorem dX10_who_48 : decode cX10_who 48 = .ok (.invokevirtual 118, 3) := dk_182 rfl rfl rfl rfl
theorem dX10_who_51 : decode cX10_who 51 = .ok (.ireturn, 1) := dk_172 rfl
set_option maxHeartbeats 4000000 in
set_option maxRecDepth 100000 in
theorem c_who (l : Launch) (g : Gx) (h0 : Nat) (p0 : Int32) (v0h0 : Value) (tl : Nat) (nw : Nat) (v3h0 : Value) (v4h0 : Value) (v5h0 : Value) (v6h0 : Value) (v7h0 : Value) (v8h0 : Value) (tr : Int32) (v0tl : Value) (v1tl : Value) (yht : Nat) (v3tl : Value) (v4tl : Value) (v5tl : Value) (v6tl : Value) (yhc : Nat) (yhtc : Nat) (yhtn : Int32) (yhtf : Nat → Int32) (yhcc : Nat) (yhcn : Int32) (yhcf : Nat → Int32) (zr : Nat) (zm : Nat) (zw : Nat) (zp : Nat) (zmd : Int32) (ztr : Int32) (zrc : Nat) (zrn : Int32) (zrf : Nat → Int32) (zmc : Nat) (zmn : Int32) (zmf : Nat → Int32) (zwc : Nat) (zwn : Int32) (zwf : Nat → Int32) (zpc : Nat) (zpn : Int32) (zpf : Nat → Int32) : cI l g yX10_who cX10_who 3 (some .int) 3 70 0 0 [.ref h0, .int p0] [(cO10_vrrvvvvvvi h0 v0h0 tl nw v3h0 v4h0 v5h0 v6h0 v7h0 v8h0 tr), (cO3_vvrvvvvr tl v0tl v1tl yht v3tl v4tl v5tl v6tl yhc), (cO8_iiri yht 4 1 yhtc yhtn), (cAI g yhtc 4 yhtf), (cO8_iiri yhc 6 2 yhcc yhcn), (cAI g yhcc 12 yhcf), (cO7_rrrrii nw zr zm zw zp zmd ztr), (cO8_iiri zr 8 3 zrc zrn), (cAI g zrc 24 zrf), (cO8_iiri zm 12 3 zmc zmn), (cAI g zmc 36 zmf), (cO8_iiri zw 6 3 zwc zwn), (cAI g zwc 18 zwf), (cO8_iiri zp 8 2 zpc zpn), (cAI g zpc 16 zpf)] (fun r w => ∃ (tr2 : Int32), w = [(cO10_vrrvvvvvvi h0 v0h0 tl nw v3h0 v4h0 v5h0 v6h0 v7h0 v8h0 tr2), (cO3_vvrvvvvr tl v0tl v1tl yht v3tl v4tl v5tl v6tl yhc), (cO8_iiri yht 4 1 yhtc yhtn), (cAI g yhtc 4 yhtf), (cO8_iiri yhc 6 2 yhcc yhcn), (cAI g yhcc 12 yhcf), (cO7_rrrrii nw zr zm zw zp zmd ztr), (cO8_iiri zr 8 3 zrc zrn), (cAI g zrc 24 zrf), (cO8_iiri zm 12 3 zmc zmn), (cAI g zmc 36 zmf), (cO8_iiri zw 6 3 zwc zwn), (cAI g zwc 18 zwf), (cO8_iiri zp 8 2 zpc zpn), (cAI g zpc 16 zpf)]) := by
  refine cI.of (by decide) (Nat.le_of_ble_eq_true rfl) ?_
  intro p e s m args below meth c A X hr hi
  refine k_lveq [(0, .ref h0), (1, .int p0)] rfl ?_
  refine k_aload_n X dX10_who_0 0 rfl ?_
  refine k_get (ci := 10) X inlX10 rfl 1 (by decide) dX10_who_1 mw20 0 rfl rfl ?_
  refine k_get (ci := 3) X inlX3 rfl 7 (by decide) dX10_who_4 mw1186 1 rfl rfl ?_
  refine k_iload_n X dX10_who_7 1 rfl ?_
  refine k_callVI (n := 1) (As := [.int p0]) (st := []) X [(cO8_iiri yhc 6 2 yhcc yhcn)] [(cO10_vrrvvvvvvi h0 v0h0 tl nw v3h0 v4h0 v5h0 v6h0 v7h0 v8h0 tr), (cO3_vvrvvvvr tl v0tl v1tl yht v3tl v4tl v5tl v6tl yhc), (cO8_iiri yht 4 1 yhtc yhtn), (cAI g yhtc 4 yhtf), (cAI g yhcc 12 yhcf), (cO7_rrrrii nw zr zm zw zp zmd ztr), (cO8_iiri zr 8 3 zrc zrn), (cAI g zrc 24 zrf), (cO8_iiri zm 12 3 zmc zmn), (cAI g zmc 36 zmf), (cO8_iiri zw 6 3 zwc zwn), (cAI g zwc 18 zwf), (cO8_iiri zp 8 2 zpc zpn), (cAI g zpc 16 zpf)] [4] [0, 1, 2, 3, 5, 6, 7, 8, 9, 10, 11, 12, 13, 14] (t_has l g yhc p0 (.int 6) (.int 2) (.ref yhcc) yhcn) dX10_who_8 mw647 mw648 mw649 mw64 mw650 rfl 8 rfl rfl 0 _ rfl yk_yX8_has_1 rfl (Nat.le_of_ble_eq_true rfl) (Nat.le_of_ble_eq_true rfl) (Nat.le_of_ble_eq_true rfl) (Nat.le_of_ble_eq_true rfl) (Nat.le_of_ble_eq_true rfl) rfl rfl (by decide +kernel) rfl (by decide +kernel) (by decide +kernel) ?_
  rintro r_1 w ⟨hr_2, rfl⟩
  refine k_ws [(cO10_vrrvvvvvvi h0 v0h0 tl nw v3h0 v4h0 v5h0 v6h0 v7h0 v8h0 tr), (cO3_vvrvvvvr tl v0tl v1tl yht v3tl v4tl v5tl v6tl yhc), (cO8_iiri yht 4 1 yhtc yhtn), (cAI g yhtc 4 yhtf), (cAI g yhcc 12 yhcf), (cO7_rrrrii nw zr zm zw zp zmd ztr), (cO8_iiri zr 8 3 zrc zrn), (cAI g zrc 24 zrf), (cO8_iiri zm 12 3 zmc zmn), (cAI g zmc 36 zmf), (cO8_iiri zw 6 3 zwc zwn), (cAI g zwc 18 zwf), (cO8_iiri zp 8 2 zpc zpn), (cAI g zpc 16 zpf), (cO8_iiri yhc 6 2 yhcc yhcn)] rfl ?_
  refine k_if_ne 20 X dX10_who_11 (by decide) (fun h_3 => ?_) (fun h_3 => ?_)
  · skip
    refine k_aload_n X dX10_who_20 0 rfl ?_
    refine k_iload_n X dX10_who_21 1 rfl ?_
    refine k_callVI (n := 1) (As := [.int p0]) (st := []) X [(cO10_vrrvvvvvvi h0 v0h0 tl nw v3h0 v4h0 v5h0 v6h0 v7h0 v8h0 tr), (cO3_vvrvvvvr tl v0tl v1tl yht v3tl v4tl v5tl v6tl yhc), (cO8_iiri yht 4 1 yhtc yhtn), (cAI g yhtc 4 yhtf), (cO8_iiri yhc 6 2 yhcc yhcn), (cAI g yhcc 12 yhcf), (cO7_rrrrii nw zr zm zw zp zmd ztr), (cO8_iiri zr 8 3 zrc zrn), (cAI g zrc 24 zrf), (cO8_iiri zm 12 3 zmc zmn), (cAI g zmc 36 zmf), (cO8_iiri zw 6 3 zwc zwn), (cAI g zwc 18 zwf), (cO8_iiri zp 8 2 zpc zpn), (cAI g zpc 16 zpf)] [] [0, 1, 2, 3, 14, 4, 5, 6, 7, 8, 9, 10, 11, 12, 13] [] (c_nearestMark l g h0 p0 v0h0 tl nw v3h0 v4h0 v5h0 v6h0 v7h0 v8h0 tr v0tl v1tl yht v3tl v4tl v5tl v6tl yhc yhtc yhtn yhtf yhcc yhcn yhcf zr zm zw zp zmd ztr zrc zrn zrf zmc zmn zmf zwc zwn zwf zpc zpn zpf) dX10_who_22 mw1187 mw1188 mw1189 mw2 mw1190 rfl 10 rfl rfl 0 _ rfl yk_yX10_nearestMark_1 rfl (Nat.le_of_ble_eq_true rfl) (Nat.le_of_ble_eq_true rfl) (Nat.le_of_ble_eq_true rfl) (Nat.le_of_ble_eq_true rfl) (Nat.le_of_ble_eq_true rfl) rfl rfl (by decide +kernel) rfl (by decide +kernel) (by decide +kernel) ?_
    rintro r_5 w ⟨tr2_4, rfl⟩
    refine k_ws [(cO10_vrrvvvvvvi h0 v0h0 tl nw v3h0 v4h0 v5h0 v6h0 v7h0 v8h0 tr2_4), (cO3_vvrvvvvr tl v0tl v1tl yht v3tl v4tl v5tl v6tl yhc), (cO8_iiri yht 4 1 yhtc yhtn), (cAI g yhtc 4 yhtf), (cO8_iiri yhc 6 2 yhcc yhcn), (cAI g yhcc 12 yhcf), (cO7_rrrrii nw zr zm zw zp zmd ztr), (cO8_iiri zr 8 3 zrc zrn), (cAI g zrc 24 zrf), (cO8_iiri zm 12 3 zmc zmn), (cAI g zmc 36 zmf), (cO8_iiri zw 6 3 zwc zwn), (cAI g zwc 18 zwf), (cO8_iiri zp 8 2 zpc zpn), (cAI g zpc 16 zpf)] rfl ?_
    refine k_istore_n [(2, .int r_5), (0, .ref h0), (1, .int p0)] X dX10_who_25 (by decide) rfl ?_
    refine k_aload_n X dX10_who_26 1 rfl ?_
    refine k_iload_n X dX10_who_27 0 rfl ?_
    refine k_if_ge 36 X dX10_who_28 (by decide) (fun h_7 => ?_) (fun h_7 => ?_)
    · skip
      refine k_aload_n X dX10_who_36 1 rfl ?_
      refine k_get (ci := 10) X inlX10 rfl 2 (by decide) dX10_who_37 mw24 0 rfl rfl ?_
      refine k_get (ci := 7) X inlX7 rfl 1 (by decide) dX10_who_40 mw644 6 rfl rfl ?_
      refine k_iload_n X dX10_who_43 0 rfl ?_
      refine k_iconst (v := 2) X dX10_who_44 (by decide) ?_
      refine k_callVI (n := 2) (As := [.int r_5, .int 2]) (st := [.ref h0]) X [(cO8_iiri zm 12 3 zmc zmn), (cAI g zmc 36 zmf)] [(cO10_vrrvvvvvvi h0 v0h0 tl nw v3h0 v4h0 v5h0 v6h0 v7h0 v8h0 tr2_4), (cO3_vvrvvvvr tl v0tl v1tl yht v3tl v4tl v5tl v6tl yhc), (cO8_iiri yht 4 1 yhtc yhtn), (cAI g yhtc 4 yhtf), (cO8_iiri yhc 6 2 yhcc yhcn), (cAI g yhcc 12 yhcf), (cO7_rrrrii nw zr zm zw zp zmd ztr), (cO8_iiri zr 8 3 zrc zrn), (cAI g zrc 24 zrf), (cO8_iiri zw 6 3 zwc zwn), (cAI g zwc 18 zwf), (cO8_iiri zp 8 2 zpc zpn), (cAI g zpc 16 zpf)] [9, 10] [0, 1, 2, 3, 4, 5, 6, 7, 8, 11, 12, 13, 14] (t_at l g zm r_5 2 12 3 zmc zmn 36 zmf (tbk_12_3)) dX10_who_45 mw665 mw376 mw377 mw64 mw378 rfl 8 rfl rfl 0 _ rfl yk_yX8_at_2 rfl (Nat.le_of_ble_eq_true rfl) (Nat.le_of_ble_eq_true rfl) (Nat.le_of_ble_eq_true rfl) (Nat.le_of_ble_eq_true rfl) (Nat.le_of_ble_eq_true rfl) rfl rfl (by decide +kernel) rfl (by decide +kernel) (by decide +kernel) ?_
      rintro r_8 w ⟨hr_9, rfl⟩
      refine k_ws [(cO10_vrrvvvvvvi h0 v0h0 tl nw v3h0 v4h0 v5h0 v6h0 v7h0 v8h0 tr2_4), (cO3_vvrvvvvr tl v0tl v1tl yht v3tl v4tl v5tl v6tl yhc), (cO8_iiri yht 4 1 yhtc yhtn), (cAI g yhtc 4 yhtf), (cO8_iiri yhc 6 2 yhcc yhcn), (cAI g yhcc 12 yhcf), (cO7_rrrrii nw zr zm zw zp zmd ztr), (cO8_iiri zr 8 3 zrc zrn), (cAI g zrc 24 zrf), (cO8_iiri zw 6 3 zwc zwn), (cAI g zwc 18 zwf), (cO8_iiri zp 8 2 zpc zpn), (cAI g zpc 16 zpf), (cO8_iiri zm 12 3 zmc zmn), (cAI g zmc 36 zmf)] rfl ?_
      refine k_callVI (n := 1) (As := [.int r_8]) (st := []) X [(cO10_vrrvvvvvvi h0 v0h0 tl nw v3h0 v4h0 v5h0 v6h0 v7h0 v8h0 tr2_4)] [(cO3_vvrvvvvr tl v0tl v1tl yht v3tl v4tl v5tl v6tl yhc), (cO8_iiri yht 4 1 yhtc yhtn), (cAI g yhtc 4 yhtf), (cO8_iiri yhc 6 2 yhcc yhcn), (cAI g yhcc 12 yhcf), (cO7_rrrrii nw zr zm zw zp zmd ztr), (cO8_iiri zr 8 3 zrc zrn), (cAI g zrc 24 zrf), (cO8_iiri zw 6 3 zwc zwn), (cAI g zwc 18 zwf), (cO8_iiri zp 8 2 zpc zpn), (cAI g zpc 16 zpf), (cO8_iiri zm 12 3 zmc zmn), (cAI g zmc 36 zmf)] [0] [1, 2, 3, 4, 5, 6, 7, 8, 9, 10, 11, 12, 13, 14] (c_tell l g h0 r_8 v0h0 (.ref tl) (.ref nw) v3h0 v4h0 v5h0 v6h0 v7h0 v8h0 tr2_4) dX10_who_48 mw460 mw461 mw462 mw2 mw463 rfl 10 rfl rfl 0 _ rfl yk_yX10_tell_1 rfl (Nat.le_of_ble_eq_true rfl) (Nat.le_of_ble_eq_true rfl) (Nat.le_of_ble_eq_true rfl) (Nat.le_of_ble_eq_true rfl) (Nat.le_of_ble_eq_true rfl) rfl rfl (by decide +kernel) rfl (by decide +kernel) (by decide +kernel) ?_
      rintro r_11 w ⟨tr2_10, rfl⟩
      refine k_ws [(cO3_vvrvvvvr tl v0tl v1tl yht v3tl v4tl v5tl v6tl yhc), (cO8_iiri yht 4 1 yhtc yhtn), (cAI g yhtc 4 yhtf), (cO8_iiri yhc 6 2 yhcc yhcn), (cAI g yhcc 12 yhcf), (cO7_rrrrii nw zr zm zw zp zmd ztr), (cO8_iiri zr 8 3 zrc zrn), (cAI g zrc 24 zrf), (cO8_iiri zw 6 3 zwc zwn), (cAI g zwc 18 zwf), (cO8_iiri zp 8 2 zpc zpn), (cAI g zpc 16 zpf), (cO8_iiri zm 12 3 zmc zmn), (cAI g zmc 36 zmf), (cO10_vrrvvvvvvi h0 v0h0 tl nw v3h0 v4h0 v5h0 v6h0 v7h0 v8h0 tr2_10)] rfl ?_
      exact k_iret X hr dX10_who_51 (Nat.le_of_ble_eq_true rfl) (Nat.le_of_ble_eq_true rfl) [14, 0, 1, 2, 3, 4, 5, 6, 7, 12, 13, 8, 9, 10, 11] (by decide) rfl rfl ⟨tr2_10, rfl⟩
    · skip
      refine k_bipush (v := -2) X dX10_who_31 (by decide) ?_
      refine k_goto 48 X dX10_who_33 (by decide) ?_
      refine k_callVI (n := 1) (As := [.int (-2)]) (st := []) X [(cO10_vrrvvvvvvi h0 v0h0 tl nw v3h0 v4h0 v5h0 v6h0 v7h0 v8h0 tr2_4)] [(cO3_vvrvvvvr tl v0tl v1tl yht v3tl v4tl v5tl v6tl yhc), (cO8_iiri yht 4 1 yhtc yhtn), (cAI g yhtc 4 yhtf), (cO8_iiri yhc 6 2 yhcc yhcn), (cAI g yhcc 12 yhcf), (cO7_rrrrii nw zr zm zw zp zmd ztr), (cO8_iiri zr 8 3 zrc zrn), (cAI g zrc 24 zrf), (cO8_iiri zm 12 3 zmc zmn), (cAI g zmc 36 zmf), (cO8_iiri zw 6 3 zwc zwn), (cAI g zwc 18 zwf), (cO8_iiri zp 8 2 zpc zpn), (cAI g zpc 16 zpf)] [0] [1, 2, 3, 4, 5, 6, 7, 8, 9, 10, 11, 12, 13, 14] (c_tell l g h0 ((-2)) v0h0 (.ref tl) (.ref nw) v3h0 v4h0 v5h0 v6h0 v7h0 v8h0 tr2_4) dX10_who_48 mw460 mw461 mw462 mw2 mw463 rfl 10 rfl rfl 0 _ rfl yk_yX10_tell_1 rfl (Nat.le_of_ble_eq_true rfl) (Nat.le_of_ble_eq_true rfl) (Nat.le_of_ble_eq_true rfl) (Nat.le_of_ble_eq_true rfl) (Nat.le_of_ble_eq_true rfl) rfl rfl (by decide +kernel) rfl (by decide +kernel) (by decide +kernel) ?_
      rintro r_14 w ⟨tr2_13, rfl⟩
      refine k_ws [(cO3_vvrvvvvr tl v0tl v1tl yht v3tl v4tl v5tl v6tl yhc), (cO8_iiri yht 4 1 yhtc yhtn), (cAI g yhtc 4 yhtf), (cO8_iiri yhc 6 2 yhcc yhcn), (cAI g yhcc 12 yhcf), (cO7_rrrrii nw zr zm zw zp zmd ztr), (cO8_iiri zr 8 3 zrc zrn), (cAI g zrc 24 zrf), (cO8_iiri zm 12 3 zmc zmn), (cAI g zmc 36 zmf), (cO8_iiri zw 6 3 zwc zwn), (cAI g zwc 18 zwf), (cO8_iiri zp 8 2 zpc zpn), (cAI g zpc 16 zpf), (cO10_vrrvvvvvvi h0 v0h0 tl nw v3h0 v4h0 v5h0 v6h0 v7h0 v8h0 tr2_13)] rfl ?_
      exact k_iret X hr dX10_who_51 (Nat.le_of_ble_eq_true rfl) (Nat.le_of_ble_eq_true rfl) [14, 0, 1, 2, 3, 4, 5, 6, 7, 8, 9, 10, 11, 12, 13] (by decide) rfl rfl ⟨tr2_13, rfl⟩
  · skip
    refine k_aload_n X dX10_who_14 0 rfl ?_
    refine k_iconst (v := 1) X dX10_who_15 (by decide) ?_
    refine k_callVI (n := 1) (As := [.int 1]) (st := []) X [(cO10_vrrvvvvvvi h0 v0h0 tl nw v3h0 v4h0 v5h0 v6h0 v7h0 v8h0 tr)] [(cO3_vvrvvvvr tl v0tl v1tl yht v3tl v4tl v5tl v6tl yhc), (cO8_iiri yht 4 1 yhtc yhtn), (cAI g yhtc 4 yhtf), (cAI g yhcc 12 yhcf), (cO7_rrrrii nw zr zm zw zp zmd ztr), (cO8_iiri zr 8 3 zrc zrn), (cAI g zrc 24 zrf), (cO8_iiri zm 12 3 zmc zmn), (cAI g zmc 36 zmf), (cO8_iiri zw 6 3 zwc zwn), (cAI g zwc 18 zwf), (cO8_iiri zp 8 2 zpc zpn), (cAI g zpc 16 zpf), (cO8_iiri yhc 6 2 yhcc yhcn)] [0] [1, 2, 3, 4, 5, 6, 7, 8, 9, 10, 11, 12, 13, 14] (c_refuse l g h0 1 v0h0 (.ref tl) (.ref nw) v3h0 v4h0 v5h0 v6h0 v7h0 v8h0 tr) dX10_who_16 mw215 mw216 mw217 mw2 mw218 rfl 10 rfl rfl 0 _ rfl yk_yX10_refuse_1 rfl (Nat.le_of_ble_eq_true rfl) (Nat.le_of_ble_eq_true rfl) (Nat.le_of_ble_eq_true rfl) (Nat.le_of_ble_eq_true rfl) (Nat.le_of_ble_eq_true rfl) rfl rfl (by decide +kernel) rfl (by decide +kernel) (by decide +kernel) ?_
    rintro r_17 w ⟨tr2_16, rfl⟩
    refine k_ws [(cO3_vvrvvvvr tl v0tl v1tl yht v3tl v4tl v5tl v6tl yhc), (cO8_iiri yht 4 1 yhtc yhtn), (cAI g yhtc 4 yhtf), (cAI g yhcc 12 yhcf), (cO7_rrrrii nw zr zm zw zp zmd ztr), (cO8_iiri zr 8 3 zrc zrn), (cAI g zrc 24 zrf), (cO8_iiri zm 12 3 zmc zmn), (cAI g zmc 36 zmf), (cO8_iiri zw 6 3 zwc zwn), (cAI g zwc 18 zwf), (cO8_iiri zp 8 2 zpc zpn), (cAI g zpc 16 zpf), (cO8_iiri yhc 6 2 yhcc yhcn), (cO10_vrrvvvvvvi h0 v0h0 tl nw v3h0 v4h0 v5h0 v6h0 v7h0 v8h0 tr2_16)] rfl ?_
    exact k_iret X hr dX10_who_19 (Nat.le_of_ble_eq_true rfl) (Nat.le_of_ble_eq_true rfl) [14, 0, 1, 2, 13, 3, 4, 5, 6, 7, 8, 9, 10, 11, 12] (by decide) rfl rfl ⟨tr2_16, rfl⟩

theorem dX10_far_0 : decode cX10_far 0 = .ok (.aload_n 0, 1) := dk_42 rfl
theorem dX10_far_1 : decode cX10_far 1 = .ok (.getfield 19, 3) := dk_180 rfl rfl rfl rfl
theorem dX10_far_4 : decode cX10_far 4 = .ok (.getfield 256, 3) := dk_180 rfl rfl rfl rfl
theorem dX10_far_7 : decode cX10_far 7 = .ok (.iload_n 1, 1) := dk_27 rfl
theorem dX10_far_8 : decode cX10_far 8 = .ok (.invokevirtual 127, 3) := dk_182 rfl rfl rfl rfl
theorem dX10_far_11 : decode cX10_far 11 = .ok (.ifCond .ne 9, 3) := dk_154 rfl rfl rfl (by decide)
theorem dX10_far_14 : decode cX10_far 14 = .ok (.aload_n 0, 1) := dk_42 rfl
theorem dX10_far_15 : decode cX10_far 15 = .ok (.iconst 1, 1) := dk_4 rfl
theorem dX10_far_16 : decode cX10_far 16 = .ok (.invokevirtual 83, 3) := dk_182 rfl rfl rfl rfl
theorem dX10_far_19 : decode cX10_far 19 = .ok (.ireturn, 1) := dk_172 rfl
theorem dX10_far_20 : decode cX10_far 20 = .ok (.aload_n 0, 1) := dk_42 rfl
theorem dX10_far_21 : decode cX10_far 21 = .ok (.iload_n 1, 1) := dk_27 rfl
theorem dX10_far_22 : decode cX10_far 22 = .ok (.invokevirtual 259, 3) := dk_182 rfl rfl rfl rfl
theorem dX10_far_25 : decode cX10_far 25 = .ok (.istore_n 2, 1) := dk_61 rfl
theorem dX10_far_26 : decode cX10_far 26 = .ok (.aload_n 0, 1) := dk_42 rfl
theorem dX10_far_27 : decode cX10_far 27 = .ok (.iload_n 2, 1) := dk_28 rfl
theorem dX10_far_28 : decode cX10_far 28 = .ok (.ifCond .ge 8, 3) := dk_156 rfl rfl rfl (by decide)
theorem dX10_far_31 : decode cX10_far 31 = .ok (.bipush (-2), 2) := dk_16 rfl rfl (by decide)
theorem dX10_far_33 : decode cX10_far 33 = .ok (.goto 9, 3) := dk_167 rfl rfl rfl (by decide)
theorem dX10_far_36 : decode cX10_far 36 = .ok (.aload_n 0, 1) := dk_42 rfl
theorem dX10_far_37 : decode cX10_far 37 = .ok (.iload_n 2, 1) := dk_28 rfl
theorem dX10_far_38 : decode cX10_far 38 = .ok (.iload_n 1, 1) := dk_27 rfl
theorem dX10_far_39 : decode cX10_far 39 = .ok (.invokevirtual 262, 3) := dk_182 rfl rfl rfl rfl
theorem dX10_far_42 : decode cX10_far 42 = .ok (.invokevirtual 118, 3) := dk_182 rfl rfl rfl rfl
theorem dX10_far_45 : decode cX10_far 45 = .ok (.ireturn, 1) := dk_172 rfl
set_option maxHeartbeats 4000000 in
set_option maxRecDepth 100000 in
theorem c_far (l : Launch) (g : Gx) (h0 : Nat) (p0 : Int32) (v0h0 : Value) (tl : Nat) (nw : Nat) (v3h0 : Value) (v4h0 : Value) (v5h0 : Value) (v6h0 : Value) (v7h0 : Value) (v8h0 : Value) (tr : Int32) (v0tl : Value) (v1tl : Value) (yht : Nat) (v3tl : Value) (v4tl : Value) (v5tl : Value) (v6tl : Value) (yhc : Nat) (yhtc : Nat) (yhtn : Int32) (yhtf : Nat → Int32) (yhcc : Nat) (yhcn : Int32) (yhcf : Nat → Int32) (zr : Nat) (zm : Nat) (zw : Nat) (zp : Nat) (zmd : Int32) (ztr : Int32) (zrc : Nat) (zrn : Int32) (zrf : Nat → Int32) (zmc : Nat) (zmn : Int32) (zmf : Nat → Int32) (zwc : Nat) (zwn : Int32) (zwf : Nat → Int32) (zpc : Nat) (zpn : Int32) (zpf : Nat → Int32) : cI l g yX10_far cX10_far 3 (some .int) 3 70 0 0 [.ref h0, .int p0] [(cO10_vrrvvvvvvi h0 v0h0 tl nw v3h0 v4h0 v5h0 v6h0 v7h0 v8h0 tr), (cO3_vvrvvvvr tl v0tl v1tl yht v3tl v4tl v5tl v6tl yhc), (cO8_iiri yht 4 1 yhtc yhtn), (cAI g yhtc 4 yhtf), (cO8_iiri yhc 6 2 yhcc yhcn), (cAI g yhcc 12 yhcf), (cO7_rrrrii nw zr zm zw zp zmd ztr), (cO8_iiri zr 8 3 zrc zrn), (cAI g zrc 24 zrf), (cO8_iiri zm 12 3 zmc zmn), (cAI g zmc 36 zmf), (cO8_iiri zw 6 3 zwc zwn), (cAI g zwc 18 zwf), (cO8_iiri zp 8 2 zpc zpn), (cAI g zpc 16 zpf)] (fun r w => ∃ (tr2 : Int32), w = [(cO10_vrrvvvvvvi h0 v0h0 tl nw v3h0 v4h0 v5h0 v6h0 v7h0 v8h0 tr2), (cO3_vvrvvvvr tl v0tl v1tl yht v3tl v4tl v5tl v6tl yhc), (cO8_iiri yht 4 1 yhtc yhtn), (cAI g yhtc 4 yhtf), (cO8_iiri yhc 6 2 yhcc yhcn), (cAI g yhcc 12 yhcf), (cO7_rrrrii nw zr zm zw zp zmd ztr), (cO8_iiri zr 8 3 zrc zrn), (cAI g zrc 24 zrf), (cO8_iiri zm 12 3 zmc zmn), (cAI g zmc 36 zmf), (cO8_iiri zw 6 3 zwc zwn), (cAI g zwc 18 zwf), (cO8_iiri zp 8 2 zpc zpn), (cAI g zpc 16 zpf)]) := by
  refine cI.of (by decide) (Nat.le_of_ble_eq_true rfl) ?_
  intro p e s m args below meth c A X hr hi
  refine k_lveq [(0, .ref h0), (1, .int p0)] rfl ?_
  refine k_aload_n X dX10_far_0 0 rfl ?_
  refine k_get (ci := 10) X inlX10 rfl 1 (by decide) dX10_far_1 mw20 0 rfl rfl ?_
  refine k_get (ci := 3) X inlX3 rfl 7 (by decide) dX10_far_4 mw1186 1 rfl rfl ?_
  refine k_iload_n X dX10_far_7 1 rfl ?_
  refine k_callVI (n := 1) (As := [.int p0]) (st := []) X [(cO8_iiri yhc 6 2 yhcc yhcn)] [(cO10_vrrvvvvvvi h0 v0h0 tl nw v3h0 v4h0 v5h0 v6h0 v7h0 v8h0 tr), (cO3_vvrvvvvr tl v0tl v1tl yht v3tl v4tl v5tl v6tl yhc), (cO8_iiri yht 4 1 yhtc yhtn), (cAI g yhtc 4 yhtf), (cAI g yhcc 12 yhcf), (cO7_rrrrii nw zr zm zw zp zmd ztr), (cO8_iiri zr 8 3 zrc zrn), (cAI g zrc 24 zrf), (cO8_iiri zm 12 3 zmc zmn), (cAI g zmc 36 zmf), (cO8_iiri zw 6 3 zwc zwn), (cAI g zwc 18 zwf), (cO8_iiri zp 8 2 zpc zpn), (cAI g zpc 16 zpf)] [4] [0, 1, 2, 3, 5, 6, 7, 8, 9, 10, 11, 12, 13, 14] (t_has l g yhc p0 (.int 6) (.int 2) (.ref yhcc) yhcn) dX10_far_8 mw647 mw648 mw649 mw64 mw650 rfl 8 rfl rfl 0 _ rfl yk_yX8_has_1 rfl (Nat.le_of_ble_eq_true rfl) (Nat.le_of_ble_eq_true rfl) (Nat.le_of_ble_eq_true rfl) (Nat.le_of_ble_eq_true rfl) (Nat.le_of_ble_eq_true rfl) rfl rfl (by decide +kernel) rfl (by decide +kernel) (by decide +kernel) ?_
  rintro r_1 w ⟨hr_2, rfl⟩
  refine k_ws [(cO10_vrrvvvvvvi h0 v0h0 tl nw v3h0 v4h0 v5h0 v6h0 v7h0 v8h0 tr), (cO3_vvrvvvvr tl v0tl v1tl yht v3tl v4tl v5tl v6tl yhc), (cO8_iiri yht 4 1 yhtc yhtn), (cAI g yhtc 4 yhtf), (cAI g yhcc 12 yhcf), (cO7_rrrrii nw zr zm zw zp zmd ztr), (cO8_iiri zr 8 3 zrc zrn), (cAI g zrc 24 zrf), (cO8_iiri zm 12 3 zmc zmn), (cAI g zmc 36 zmf), (cO8_iiri zw 6 3 zwc zwn), (cAI g zwc 18 zwf), (cO8_iiri zp 8 2 zpc zpn), (cAI g zpc 16 zpf), (cO8_iiri yhc 6 2 yhcc yhcn)] rfl ?_
  refine k_if_ne 20 X dX10_far_11 (by decide) (fun h_3 => ?_) (fun h_3 => ?_)
  · skip
    refine k_aload_n X dX10_far_20 0 rfl ?_
    refine k_iload_n X dX10_far_21 1 rfl ?_
    refine k_callVI (n := 1) (As := [.int p0]) (st := []) X [(cO10_vrrvvvvvvi h0 v0h0 tl nw v3h0 v4h0 v5h0 v6h0 v7h0 v8h0 tr), (cO3_vvrvvvvr tl v0tl v1tl yht v3tl v4tl v5tl v6tl yhc), (cO8_iiri yht 4 1 yhtc yhtn), (cAI g yhtc 4 yhtf), (cO8_iiri yhc 6 2 yhcc yhcn), (cAI g yhcc 12 yhcf), (cO7_rrrrii nw zr zm zw zp zmd ztr), (cO8_iiri zr 8 3 zrc zrn), (cAI g zrc 24 zrf), (cO8_iiri zm 12 3 zmc zmn), (cAI g zmc 36 zmf), (cO8_iiri zw 6 3 zwc zwn), (cAI g zwc 18 zwf), (cO8_iiri zp 8 2 zpc zpn), (cAI g zpc 16 zpf)] [] [0, 1, 2, 3, 14, 4, 5, 6, 7, 8, 9, 10, 11, 12, 13] [] (c_nearestMark l g h0 p0 v0h0 tl nw v3h0 v4h0 v5h0 v6h0 v7h0 v8h0 tr v0tl v1tl yht v3tl v4tl v5tl v6tl yhc yhtc yhtn yhtf yhcc yhcn yhcf zr zm zw zp zmd ztr zrc zrn zrf zmc zmn zmf zwc zwn zwf zpc zpn zpf) dX10_far_22 mw1187 mw1188 mw1189 mw2 mw1190 rfl 10 rfl rfl 0 _ rfl yk_yX10_nearestMark_1 rfl (Nat.le_of_ble_eq_true rfl) (Nat.le_of_ble_eq_true rfl) (Nat.le_of_ble_eq_true rfl) (Nat.le_of_ble_eq_true rfl) (Nat.le_of_ble_eq_true rfl) rfl rfl (by decide +kernel) rfl (by decide +kernel) (by decide +kernel) ?_
    rintro r_5 w ⟨tr2_4, rfl⟩
    refine k_ws [(cO10_vrrvvvvvvi h0 v0h0 tl nw v3h0 v4h0 v5h0 v6h0 v7h0 v8h0 tr2_4), (cO3_vvrvvvvr tl v0tl v1tl yht v3tl v4tl v5tl v6tl yhc), (cO8_iiri yht 4 1 yhtc yhtn), (cAI g yhtc 4 yhtf), (cO8_iiri yhc 6 2 yhcc yhcn), (cAI g yhcc 12 yhcf), (cO7_rrrrii nw zr zm zw zp zmd ztr), (cO8_iiri zr 8 3 zrc zrn), (cAI g zrc 24 zrf), (cO8_iiri zm 12 3 zmc zmn), (cAI g zmc 36 zmf), (cO8_iiri zw 6 3 zwc zwn), (cAI g zwc 18 zwf), (cO8_iiri zp 8 2 zpc zpn), (cAI g zpc 16 zpf)] rfl ?_
    refine k_istore_n [(2, .int r_5), (0, .ref h0), (1, .int p0)] X dX10_far_25 (by decide) rfl ?_
    refine k_aload_n X dX10_far_26 1 rfl ?_
    refine k_iload_n X dX10_far_27 0 rfl ?_
    refine k_if_ge 36 X dX10_far_28 (by decide) (fun h_7 => ?_) (fun h_7 => ?_)
    · skip
      refine k_aload_n X dX10_far_36 1 rfl ?_
      refine k_iload_n X dX10_far_37 0 rfl ?_
      refine k_iload_n X dX10_far_38 2 rfl ?_
      refine k_callVI (n := 2) (As := [.int r_5, .int p0]) (st := [.ref h0]) X [(cO10_vrrvvvvvvi h0 v0h0 tl nw v3h0 v4h0 v5h0 v6h0 v7h0 v8h0 tr2_4), (cO3_vvrvvvvr tl v0tl v1tl yht v3tl v4tl v5tl v6tl yhc), (cO8_iiri yhc 6 2 yhcc yhcn), (cAI g yhcc 12 yhcf), (cO7_rrrrii nw zr zm zw zp zmd ztr), (cO8_iiri zr 8 3 zrc zrn), (cAI g zrc 24 zrf), (cO8_iiri zm 12 3 zmc zmn), (cAI g zmc 36 zmf), (cO8_iiri zw 6 3 zwc zwn), (cAI g zwc 18 zwf), (cO8_iiri zp 8 2 zpc zpn), (cAI g zpc 16 zpf)] [(cO8_iiri yht 4 1 yhtc yhtn), (cAI g yhtc 4 yhtf)] [0, 1, 4, 5, 6, 7, 8, 9, 10, 11, 12, 13, 14] [2, 3] (c_farFrom l g h0 r_5 p0 v0h0 tl nw v3h0 v4h0 v5h0 v6h0 v7h0 v8h0 tr2_4 v0tl v1tl (.ref yht) v3tl v4tl v5tl v6tl yhc yhcc yhcn yhcf zr zm zw zp zmd ztr zrc zrn zrf zmc zmn zmf zwc zwn zwf zpc zpn zpf) dX10_far_39 mw1191 mw1192 mw1193 mw2 mw1194 rfl 10 rfl rfl 0 _ rfl yk_yX10_farFrom_2 rfl (Nat.le_of_ble_eq_true rfl) (Nat.le_of_ble_eq_true rfl) (Nat.le_of_ble_eq_true rfl) (Nat.le_of_ble_eq_true rfl) (Nat.le_of_ble_eq_true rfl) rfl rfl (by decide +kernel) rfl (by decide +kernel) (by decide +kernel) ?_
      rintro r_9 w ⟨tr2_8, rfl⟩
      refine k_ws [(cO8_iiri yht 4 1 yhtc yhtn), (cAI g yhtc 4 yhtf), (cO10_vrrvvvvvvi h0 v0h0 tl nw v3h0 v4h0 v5h0 v6h0 v7h0 v8h0 tr2_8), (cO3_vvrvvvvr tl v0tl v1tl yht v3tl v4tl v5tl v6tl yhc), (cO8_iiri yhc 6 2 yhcc yhcn), (cAI g yhcc 12 yhcf), (cO7_rrrrii nw zr zm zw zp zmd ztr), (cO8_iiri zr 8 3 zrc zrn), (cAI g zrc 24 zrf), (cO8_iiri zm 12 3 zmc zmn), (cAI g zmc 36 zmf), (cO8_iiri zw 6 3 zwc zwn), (cAI g zwc 18 zwf), (cO8_iiri zp 8 2 zpc zpn), (cAI g zpc 16 zpf)] rfl ?_
      refine k_callVI (n := 1) (As := [.int r_9]) (st := []) X [(cO10_vrrvvvvvvi h0 v0h0 tl nw v3h0 v4h0 v5h0 v6h0 v7h0 v8h0 tr2_8)] [(cO8_iiri yht 4 1 yhtc yhtn), (cAI g yhtc 4 yhtf), (cO3_vvrvvvvr tl v0tl v1tl yht v3tl v4tl v5tl v6tl yhc), (cO8_iiri yhc 6 2 yhcc yhcn), (cAI g yhcc 12 yhcf), (cO7_rrrrii nw zr zm zw zp zmd ztr), (cO8_iiri zr 8 3 zrc zrn), (cAI g zrc 24 zrf), (cO8_iiri zm 12 3 zmc zmn), (cAI g zmc 36 zmf), (cO8_iiri zw 6 3 zwc zwn), (cAI g zwc 18 zwf), (cO8_iiri zp 8 2 zpc zpn), (cAI g zpc 16 zpf)] [2] [0, 1, 3, 4, 5, 6, 7, 8, 9, 10, 11, 12, 13, 14] (c_tell l g h0 r_9 v0h0 (.ref tl) (.ref nw) v3h0 v4h0 v5h0 v6h0 v7h0 v8h0 tr2_8) dX10_far_42 mw460 mw461 mw462 mw2 mw463 rfl 10 rfl rfl 0 _ rfl yk_yX10_tell_1 rfl (Nat.le_of_ble_eq_true rfl) (Nat.le_of_ble_eq_true rfl) (Nat.le_of_ble_eq_true rfl) (Nat.le_of_ble_eq_true rfl) (Nat.le_of_ble_eq_true rfl) rfl rfl (by decide +kernel) rfl (by decide +kernel) (by decide +kernel) ?_
      rintro r_12 w ⟨tr2_11, rfl⟩
      refine k_ws [(cO8_iiri yht 4 1 yhtc yhtn), (cAI g yhtc 4 yhtf), (cO3_vvrvvvvr tl v0tl v1tl yht v3tl v4tl v5tl v6tl yhc), (cO8_iiri yhc 6 2 yhcc yhcn), (cAI g yhcc 12 yhcf), (cO7_rrrrii nw zr zm zw zp zmd ztr), (cO8_iiri zr 8 3 zrc zrn), (cAI g zrc 24 zrf), (cO8_iiri zm 12 3 zmc zmn), (cAI g zmc 36 zmf), (cO8_iiri zw 6 3 zwc zwn), (cAI g zwc 18 zwf), (cO8_iiri zp 8 2 zpc zpn), (cAI g zpc 16 zpf), (cO10_vrrvvvvvvi h0 v0h0 tl nw v3h0 v4h0 v5h0 v6h0 v7h0 v8h0 tr2_11)] rfl ?_
      exact k_iret X hr dX10_far_45 (Nat.le_of_ble_eq_true rfl) (Nat.le_of_ble_eq_true rfl) [14, 2, 0, 1, 3, 4, 5, 6, 7, 8, 9, 10, 11, 12, 13] (by decide) rfl rfl ⟨tr2_11, rfl⟩
    · skip
      refine k_bipush (v := -2) X dX10_far_31 (by decide) ?_
      refine k_goto 42 X dX10_far_33 (by decide) ?_
      refine k_callVI (n := 1) (As := [.int (-2)]) (st := []) X [(cO10_vrrvvvvvvi h0 v0h0 tl nw v3h0 v4h0 v5h0 v6h0 v7h0 v8h0 tr2_4)] [(cO3_vvrvvvvr tl v0tl v1tl yht v3tl v4tl v5tl v6tl yhc), (cO8_iiri yht 4 1 yhtc yhtn), (cAI g yhtc 4 yhtf), (cO8_iiri yhc 6 2 yhcc yhcn), (cAI g yhcc 12 yhcf), (cO7_rrrrii nw zr zm zw zp zmd ztr), (cO8_iiri zr 8 3 zrc zrn), (cAI g zrc 24 zrf), (cO8_iiri zm 12 3 zmc zmn), (cAI g zmc 36 zmf), (cO8_iiri zw 6 3 zwc zwn), (cAI g zwc 18 zwf), (cO8_iiri zp 8 2 zpc zpn), (cAI g zpc 16 zpf)] [0] [1, 2, 3, 4, 5, 6, 7, 8, 9, 10, 11, 12, 13, 14] (c_tell l g h0 ((-2)) v0h0 (.ref tl) (.ref nw) v3h0 v4h0 v5h0 v6h0 v7h0 v8h0 tr2_4) dX10_far_42 mw460 mw461 mw462 mw2 mw463 rfl 10 rfl rfl 0 _ rfl yk_yX10_tell_1 rfl (Nat.le_of_ble_eq_true rfl) (Nat.le_of_ble_eq_true rfl) (Nat.le_of_ble_eq_true rfl) (Nat.le_of_ble_eq_true rfl) (Nat.le_of_ble_eq_true rfl) rfl rfl (by decide +kernel) rfl (by decide +kernel) (by decide +kernel) ?_
      rintro r_15 w ⟨tr2_14, rfl⟩
      refine k_ws [(cO3_vvrvvvvr tl v0tl v1tl yht v3tl v4tl v5tl v6tl yhc), (cO8_iiri yht 4 1 yhtc yhtn), (cAI g yhtc 4 yhtf), (cO8_iiri yhc 6 2 yhcc yhcn), (cAI g yhcc 12 yhcf), (cO7_rrrrii nw zr zm zw zp zmd ztr), (cO8_iiri zr 8 3 zrc zrn), (cAI g zrc 24 zrf), (cO8_iiri zm 12 3 zmc zmn), (cAI g zmc 36 zmf), (cO8_iiri zw 6 3 zwc zwn), (cAI g zwc 18 zwf), (cO8_iiri zp 8 2 zpc zpn), (cAI g zpc 16 zpf), (cO10_vrrvvvvvvi h0 v0h0 tl nw v3h0 v4h0 v5h0 v6h0 v7h0 v8h0 tr2_14)] rfl ?_
      exact k_iret X hr dX10_far_45 (Nat.le_of_ble_eq_true rfl) (Nat.le_of_ble_eq_true rfl) [14, 0, 1, 2, 3, 4, 5, 6, 7, 8, 9, 10, 11, 12, 13] (by decide) rfl rfl ⟨tr2_14, rfl⟩
  · skip
    refine k_aload_n X dX10_far_14 0 rfl ?_
    refine k_iconst (v := 1) X dX10_far_15 (by decide) ?_
    refine k_callVI (n := 1) (As := [.int 1]) (st := []) X [(cO10_vrrvvvvvvi h0 v0h0 tl nw v3h0 v4h0 v5h0 v6h0 v7h0 v8h0 tr)] [(cO3_vvrvvvvr tl v0tl v1tl yht v3tl v4tl v5tl v6tl yhc), (cO8_iiri yht 4 1 yhtc yhtn), (cAI g yhtc 4 yhtf), (cAI g yhcc 12 yhcf), (cO7_rrrrii nw zr zm zw zp zmd ztr), (cO8_iiri zr 8 3 zrc zrn), (cAI g zrc 24 zrf), (cO8_iiri zm 12 3 zmc zmn), (cAI g zmc 36 zmf), (cO8_iiri zw 6 3 zwc zwn), (cAI g zwc 18 zwf), (cO8_iiri zp 8 2 zpc zpn), (cAI g zpc 16 zpf), (cO8_iiri yhc 6 2 yhcc yhcn)] [0] [1, 2, 3, 4, 5, 6, 7, 8, 9, 10, 11, 12, 13, 14] (c_refuse l g h0 1 v0h0 (.ref tl) (.ref nw) v3h0 v4h0 v5h0 v6h0 v7h0 v8h0 tr) dX10_far_16 mw215 mw216 mw217 mw2 mw218 rfl 10 rfl rfl 0 _ rfl yk_yX10_refuse_1 rfl (Nat.le_of_ble_eq_true rfl) (Nat.le_of_ble_eq_true rfl) (Nat.le_of_ble_eq_true rfl) (Nat.le_of_ble_eq_true rfl) (Nat.le_of_ble_eq_true rfl) rfl rfl (by decide +kernel) rfl (by decide +kernel) (by decide +kernel) ?_
    rintro r_18 w ⟨tr2_17, rfl⟩
    refine k_ws [(cO3_vvrvvvvr tl v0tl v1tl yht v3tl v4tl v5tl v6tl yhc), (cO8_iiri yht 4 1 yhtc yhtn), (cAI g yhtc 4 yhtf), (cAI g yhcc 12 yhcf), (cO7_rrrrii nw zr zm zw zp zmd ztr), (cO8_iiri zr 8 3 zrc zrn), (cAI g zrc 24 zrf), (cO8_iiri zm 12 3 zmc zmn), (cAI g zmc 36 zmf), (cO8_iiri zw 6 3 zwc zwn), (cAI g zwc 18 zwf), (cO8_iiri zp 8 2 zpc zpn), (cAI g zpc 16 zpf), (cO8_iiri yhc 6 2 yhcc yhcn), (cO10_vrrvvvvvvi h0 v0h0 tl nw v3h0 v4h0 v5h0 v6h0 v7h0 v8h0 tr2_17)] rfl ?_
    exact k_iret X hr dX10_far_19 (Nat.le_of_ble_eq_true rfl) (Nat.le_of_ble_eq_true rfl) [14, 0, 1, 2, 13, 3, 4, 5, 6, 7, 8, 9, 10, 11, 12] (by decide) rfl rfl ⟨tr2_17, rfl⟩

theorem dX10_lackedBy_0 : decode cX10_lackedBy 0 = .ok (.iconst 2, 1) := dk_5 rfl
theorem dX10_lackedBy_1 : decode cX10_lackedBy 1 = .ok (.aload_n 0, 1) := dk_42 rfl
theorem dX10_lackedBy_2 : decode cX10_lackedBy 2 = .ok (.getfield 26, 3) := dk_180 rfl rfl rfl rfl
theorem dX10_lackedBy_5 : decode cX10_lackedBy 5 = .ok (.iload_n 1, 1) := dk_27 rfl
theorem dX10_lackedBy_6 : decode cX10_lackedBy 6 = .ok (.invokevirtual 141, 3) := dk_182 rfl rfl rfl rfl
theorem dX10_lackedBy_9 : decode cX10_lackedBy 9 = .ok (.imul, 1) := dk_104 rfl
theorem dX10_lackedBy_10 : decode cX10_lackedBy 10 = .ok (.istore_n 2, 1) := dk_61 rfl
theorem dX10_lackedBy_11 : decode cX10_lackedBy 11 = .ok (.iconst 0, 1) := dk_3 rfl
theorem dX10_lackedBy_12 : decode cX10_lackedBy 12 = .ok (.istore_n 3, 1) := dk_62 rfl
theorem dX10_lackedBy_13 : decode cX10_lackedBy 13 = .ok (.iload_n 3, 1) := dk_29 rfl
theorem dX10_lackedBy_14 : decode cX10_lackedBy 14 = .ok (.aload_n 0, 1) := dk_42 rfl
theorem dX10_lackedBy_15 : decode cX10_lackedBy 15 = .ok (.getfield 19, 3) := dk_180 rfl rfl rfl rfl
theorem dX10_lackedBy_18 : decode cX10_lackedBy 18 = .ok (.getfield 138, 3) := dk_180 rfl rfl rfl rfl
theorem dX10_lackedBy_21 : decode cX10_lackedBy 21 = .ok (.getfield 113, 3) := dk_180 rfl rfl rfl rfl
theorem dX10_lackedBy_24 : decode cX10_lackedBy 24 = .ok (.if_icmp .ge 40, 3) := dk_162 rfl rfl rfl (by decide)
theorem dX10_lackedBy_27 : decode cX10_lackedBy 27 = .ok (.aload_n 0, 1) := dk_42 rfl
theorem dX10_lackedBy_28 : decode cX10_lackedBy 28 = .ok (.getfield 19, 3) := dk_180 rfl rfl rfl rfl
theorem dX10_lackedBy_31 : decode cX10_lackedBy 31 = .ok (.getfield 138, 3) := dk_180 rfl rfl rfl rfl
theorem dX10_lackedBy_34 : decode cX10_lackedBy 34 = .ok (.iload_n 3, 1) := dk_29 rfl
theorem dX10_lackedBy_35 : decode cX10_lackedBy 35 = .ok (.iconst 0, 1) := dk_3 rfl
theorem dX10_lackedBy_36 : decode cX10_lackedBy 36 = .ok (.invokevirtual 147, 3) := dk_182 rfl rfl rfl rfl
theorem dX10_lackedBy_39 : decode cX10_lackedBy 39 = .ok (.iload_n 1, 1) := dk_27 rfl
theorem dX10_lackedBy_40 : decode cX10_lackedBy 40 = .ok (.if_icmp .ne 18, 3) := dk_160 rfl rfl rfl (by decide)
theorem dX10_lackedBy_43 : decode cX10_lackedBy 43 = .ok (.iload_n 2, 1) := dk_28 rfl
theorem dX10_lackedBy_44 : decode cX10_lackedBy 44 = .ok (.aload_n 0, 1) := dk_42 rfl
theorem dX10_lackedBy_45 : decode cX10_lackedBy 45 = .ok (.getfield 19, 3) := dk_180 rfl rfl rfl rfl
theorem dX10_lackedBy_48 : decode cX10_lackedBy 48 = .ok (.getfield 138, 3) := dk_180 rfl rfl rfl rfl
theorem dX10_lackedBy_51 : decode cX10_lackedBy 51 = .ok (.iload_n 3, 1) := dk_29 rfl
theorem dX10_lackedBy_52 : decode cX10_lackedBy 52 = .ok (.iconst 1, 1) := dk_4 rfl
theorem dX10_lackedBy_53 : decode cX10_lackedBy 53 = .ok (.invokevirtual 147, 3) := dk_182 rfl rfl rfl rfl
theorem dX10_lackedBy_56 : decode cX10_lackedBy 56 = .ok (.iadd, 1) := dk_96 rfl
theorem dX10_lackedBy_57 : decode cX10_lackedBy 57 = .ok (.istore_n 2, 1) := dk_61 rfl
theorem dX10_lackedBy_58 : decode cX10_lackedBy 58 = .ok (.iinc 3 1, 3) := dk_132 rfl rfl rfl rfl (by decide)
theorem dX10_lackedBy_61 : decode cX10_lackedBy 61 = .ok (.goto (-48), 3) := dk_167 rfl rfl rfl (by decide)
theorem dX10_lackedBy_64 : decode cX10_lackedBy 64 = .ok (.iload_n 2, 1) := dk_28 rfl
theorem dX10_lackedBy_65 : decode cX10_lackedBy 65 = .ok (.ireturn, 1) := dk_172 rfl
set_option maxHeartbeats 4000000 in
set_option maxRecDepth 100000 in
theorem c_lackedBy (l : Launch) (g : Gx) (h0 : Nat) (p0 : Int32) (v0h0 : Value) (tl : Nat) (nw : Nat) (v3h0 : Value) (v4h0 : Value) (v5h0 : Value) (v6h0 : Value) (v7h0 : Value) (v8h0 : Value) (tr : Int32) (v0tl : Value) (v1tl : Value) (v2tl : Value) (yhj : Nat) (v4tl : Value) (v5tl : Value) (v6tl : Value) (v7tl : Value) (yhjc : Nat) (yhjn : Int32) (yhjf : Nat → Int32) (zr : Nat) (zm : Nat) (zw : Nat) (zp : Nat) (zmd : Int32) (ztr : Int32) (zrc : Nat) (zrn : Int32) (zrf : Nat → Int32) (zmc : Nat) (zmn : Int32) (zmf : Nat → Int32) (zwc : Nat) (zwn : Int32) (zwf : Nat → Int32) (zpc : Nat) (zpn : Int32) (zpf : Nat → Int32) : cI l g yX10_lackedBy cX10_lackedBy 4 (some .int) 3 65 0 0 [.ref h0, .int p0] [(cO10_vrrvvvvvvi h0 v0h0 tl nw v3h0 v4h0 v5h0 v6h0 v7h0 v8h0 tr), (cO3_vvvrvvvv tl v0tl v1tl v2tl yhj v4tl v5tl v6tl v7tl), (cO8_iiri yhj 8 2 yhjc yhjn), (cAI g yhjc 16 yhjf), (cO7_rrrrii nw zr zm zw zp zmd ztr), (cO8_iiri zr 8 3 zrc zrn), (cAI g zrc 24 zrf), (cO8_iiri zm 12 3 zmc zmn), (cAI g zmc 36 zmf), (cO8_iiri zw 6 3 zwc zwn), (cAI g zwc 18 zwf), (cO8_iiri zp 8 2 zpc zpn), (cAI g zpc 16 zpf)] (fun r w => ∃ (tr2 : Int32), w = [(cO10_vrrvvvvvvi h0 v0h0 tl nw v3h0 v4h0 v5h0 v6h0 v7h0 v8h0 tr2), (cO3_vvvrvvvv tl v0tl v1tl v2tl yhj v4tl v5tl v6tl v7tl), (cO8_iiri yhj 8 2 yhjc yhjn), (cAI g yhjc 16 yhjf), (cO7_rrrrii nw zr zm zw zp zmd ztr), (cO8_iiri zr 8 3 zrc zrn), (cAI g zrc 24 zrf), (cO8_iiri zm 12 3 zmc zmn), (cAI g zmc 36 zmf), (cO8_iiri zw 6 3 zwc zwn), (cAI g zwc 18 zwf), (cO8_iiri zp 8 2 zpc zpn), (cAI g zpc 16 zpf)]) := by
  refine cI.of (by decide) (Nat.le_of_ble_eq_true rfl) ?_
  intro p e s m args below meth c A X hr hi
  refine k_lveq [(0, .ref h0), (1, .int p0)] rfl ?_
  refine k_iconst (v := 2) X dX10_lackedBy_0 (by decide) ?_
  refine k_aload_n X dX10_lackedBy_1 0 rfl ?_
  refine k_get (ci := 10) X inlX10 rfl 2 (by decide) dX10_lackedBy_2 mw24 0 rfl rfl ?_
  refine k_iload_n X dX10_lackedBy_5 1 rfl ?_
  refine k_callVI (n := 1) (As := [.int p0]) (st := [.int 2]) X [(cO7_rrrrii nw zr zm zw zp zmd ztr), (cO8_iiri zw 6 3 zwc zwn), (cAI g zwc 18 zwf)] [(cO10_vrrvvvvvvi h0 v0h0 tl nw v3h0 v4h0 v5h0 v6h0 v7h0 v8h0 tr), (cO3_vvvrvvvv tl v0tl v1tl v2tl yhj v4tl v5tl v6tl v7tl), (cO8_iiri yhj 8 2 yhjc yhjn), (cAI g yhjc 16 yhjf), (cO8_iiri zr 8 3 zrc zrn), (cAI g zrc 24 zrf), (cO8_iiri zm 12 3 zmc zmn), (cAI g zmc 36 zmf), (cO8_iiri zp 8 2 zpc zpn), (cAI g zpc 16 zpf)] [4, 9, 10] [0, 1, 2, 3, 5, 6, 7, 8, 11, 12] (s_mendedOn l g nw p0 (.ref zr) (.ref zm) zw (.ref zp) zmd ztr zwc zwn zwf) dX10_lackedBy_6 mw656 mw657 mw658 mw23 mw659 rfl 7 rfl rfl 0 _ rfl yk_yX7_mendedOn_1 rfl (Nat.le_of_ble_eq_true rfl) (Nat.le_of_ble_eq_true rfl) (Nat.le_of_ble_eq_true rfl) (Nat.le_of_ble_eq_true rfl) (Nat.le_of_ble_eq_true rfl) rfl rfl (by decide +kernel) rfl (by decide +kernel) (by decide +kernel) ?_
  rintro r_1 w rfl
  refine k_ws [(cO10_vrrvvvvvvi h0 v0h0 tl nw v3h0 v4h0 v5h0 v6h0 v7h0 v8h0 tr), (cO3_vvvrvvvv tl v0tl v1tl v2tl yhj v4tl v5tl v6tl v7tl), (cO8_iiri yhj 8 2 yhjc yhjn), (cAI g yhjc 16 yhjf), (cO8_iiri zr 8 3 zrc zrn), (cAI g zrc 24 zrf), (cO8_iiri zm 12 3 zmc zmn), (cAI g zmc 36 zmf), (cO8_iiri zp 8 2 zpc zpn), (cAI g zpc 16 zpf), (cO7_rrrrii nw zr zm zw zp zmd ztr), (cO8_iiri zw 6 3 zwc zwn), (cAI g zwc 18 zwf)] rfl ?_
  refine k_imul X dX10_lackedBy_9 ?_
  refine k_nm (fun z_3 ez_3 => ?_)
  refine k_istore_n [(2, .int z_3), (0, .ref h0), (1, .int p0)] X dX10_lackedBy_10 (by decide) rfl ?_
  refine k_iconst (v := 0) X dX10_lackedBy_11 (by decide) ?_
  refine k_istore_n [(3, .int 0), (2, .int z_3), (0, .ref h0), (1, .int p0)] X dX10_lackedBy_12 (by decide) rfl ?_
  refine (fun hL : ∀ (nn_6 : Nat) (u_4 : Int32) (u_5 : Int32), (yhjn.toInt - u_4.toInt).toNat = nn_6 → Wk p l e _ s m args below meth c _ A g _ _ _ [(cO10_vrrvvvvvvi h0 v0h0 tl nw v3h0 v4h0 v5h0 v6h0 v7h0 v8h0 tr), (cO3_vvvrvvvv tl v0tl v1tl v2tl yhj v4tl v5tl v6tl v7tl), (cO8_iiri yhj 8 2 yhjc yhjn), (cAI g yhjc 16 yhjf), (cO8_iiri zr 8 3 zrc zrn), (cAI g zrc 24 zrf), (cO8_iiri zm 12 3 zmc zmn), (cAI g zmc 36 zmf), (cO8_iiri zp 8 2 zpc zpn), (cAI g zpc 16 zpf), (cO7_rrrrii nw zr zm zw zp zmd ztr), (cO8_iiri zw 6 3 zwc zwn), (cAI g zwc 18 zwf)] [(3, .int u_4), (2, .int u_5), (0, .ref h0), (1, .int p0)] 13 [] => hL _ 0 z_3 rfl ) ?_
  refine fun nn_6 => Nat.strongRecOn nn_6 (fun nn_6 ih_8 => ?_)
  intro u_4 u_5 hm_7 
  refine k_iload_n X dX10_lackedBy_13 0 rfl ?_
  refine k_aload_n X dX10_lackedBy_14 2 rfl ?_
  refine k_get (ci := 10) X inlX10 rfl 1 (by decide) dX10_lackedBy_15 mw20 0 rfl rfl ?_
  refine k_get (ci := 3) X inlX3 rfl 3 (by decide) dX10_lackedBy_18 mw645 1 rfl rfl ?_
  refine k_get (ci := 8) X inlX8 rfl 3 (by decide) dX10_lackedBy_21 mw214 2 rfl rfl ?_
  refine k_ic_ge 64 X dX10_lackedBy_24 (by decide) (fun h_9 => ?_) (fun h_9 => ?_)
  · skip
    refine k_iload_n X dX10_lackedBy_64 1 rfl ?_
    exact k_iret X hr dX10_lackedBy_65 (Nat.le_of_ble_eq_true rfl) (Nat.le_of_ble_eq_true rfl) [0, 1, 2, 3, 10, 4, 5, 6, 7, 11, 12, 8, 9] (by decide) rfl rfl ⟨tr, rfl⟩
  · skip
    refine k_aload_n X dX10_lackedBy_27 2 rfl ?_
    refine k_get (ci := 10) X inlX10 rfl 1 (by decide) dX10_lackedBy_28 mw20 0 rfl rfl ?_
    refine k_get (ci := 3) X inlX3 rfl 3 (by decide) dX10_lackedBy_31 mw645 1 rfl rfl ?_
    refine k_iload_n X dX10_lackedBy_34 0 rfl ?_
    refine k_iconst (v := 0) X dX10_lackedBy_35 (by decide) ?_
    refine k_callVI (n := 2) (As := [.int u_4, .int 0]) (st := []) X [(cO8_iiri yhj 8 2 yhjc yhjn), (cAI g yhjc 16 yhjf)] [(cO10_vrrvvvvvvi h0 v0h0 tl nw v3h0 v4h0 v5h0 v6h0 v7h0 v8h0 tr), (cO3_vvvrvvvv tl v0tl v1tl v2tl yhj v4tl v5tl v6tl v7tl), (cO8_iiri zr 8 3 zrc zrn), (cAI g zrc 24 zrf), (cO8_iiri zm 12 3 zmc zmn), (cAI g zmc 36 zmf), (cO8_iiri zp 8 2 zpc zpn), (cAI g zpc 16 zpf), (cO7_rrrrii nw zr zm zw zp zmd ztr), (cO8_iiri zw 6 3 zwc zwn), (cAI g zwc 18 zwf)] [2, 3] [0, 1, 4, 5, 6, 7, 8, 9, 10, 11, 12] (t_at l g yhj u_4 0 8 2 yhjc yhjn 16 yhjf (tbk_8_2)) dX10_lackedBy_36 mw665 mw376 mw377 mw64 mw378 rfl 8 rfl rfl 0 _ rfl yk_yX8_at_2 rfl (Nat.le_of_ble_eq_true rfl) (Nat.le_of_ble_eq_true rfl) (Nat.le_of_ble_eq_true rfl) (Nat.le_of_ble_eq_true rfl) (Nat.le_of_ble_eq_true rfl) rfl rfl (by decide +kernel) rfl (by decide +kernel) (by decide +kernel) ?_
    rintro r_10 w ⟨hr_11, rfl⟩
    refine k_ws [(cO10_vrrvvvvvvi h0 v0h0 tl nw v3h0 v4h0 v5h0 v6h0 v7h0 v8h0 tr), (cO3_vvvrvvvv tl v0tl v1tl v2tl yhj v4tl v5tl v6tl v7tl), (cO8_iiri zr 8 3 zrc zrn), (cAI g zrc 24 zrf), (cO8_iiri zm 12 3 zmc zmn), (cAI g zmc 36 zmf), (cO8_iiri zp 8 2 zpc zpn), (cAI g zpc 16 zpf), (cO7_rrrrii nw zr zm zw zp zmd ztr), (cO8_iiri zw 6 3 zwc zwn), (cAI g zwc 18 zwf), (cO8_iiri yhj 8 2 yhjc yhjn), (cAI g yhjc 16 yhjf)] rfl ?_
    refine k_iload_n X dX10_lackedBy_39 3 rfl ?_
    refine k_ic_ne 58 X dX10_lackedBy_40 (by decide) (fun h_12 => ?_) (fun h_12 => ?_)
    · skip
      obtain ⟨z_13, ez_13⟩ : ∃ y : Int32, u_4 + Int32.ofInt 1 = y := ⟨_, rfl⟩
      refine k_iinc z_13 [(3, .int z_13), (2, .int u_5), (0, .ref h0), (1, .int p0)] 0 X dX10_lackedBy_58 rfl ez_13 (by decide) rfl ?_
      refine k_goto 13 X dX10_lackedBy_61 (by decide) ?_
      refine k_sub [(cO10_vrrvvvvvvi h0 v0h0 tl nw v3h0 v4h0 v5h0 v6h0 v7h0 v8h0 tr), (cO3_vvvrvvvv tl v0tl v1tl v2tl yhj v4tl v5tl v6tl v7tl), (cO8_iiri yhj 8 2 yhjc yhjn), (cAI g yhjc 16 yhjf), (cO8_iiri zr 8 3 zrc zrn), (cAI g zrc 24 zrf), (cO8_iiri zm 12 3 zmc zmn), (cAI g zmc 36 zmf), (cO8_iiri zp 8 2 zpc zpn), (cAI g zpc 16 zpf), (cO7_rrrrii nw zr zm zw zp zmd ztr), (cO8_iiri zw 6 3 zwc zwn), (cAI g zwc 18 zwf)] [0, 1, 11, 12, 2, 3, 4, 5, 6, 7, 8, 9, 10] rfl (by decide) rfl ?_
      exact ih_8 _ (by rw [← hm_7]; exact mu_lt (by assumption) (by assumption)) z_13 u_5 rfl 
    · skip
      refine k_iload_n X dX10_lackedBy_43 1 rfl ?_
      refine k_aload_n X dX10_lackedBy_44 2 rfl ?_
      refine k_get (ci := 10) X inlX10 rfl 1 (by decide) dX10_lackedBy_45 mw20 0 rfl rfl ?_
      refine k_get (ci := 3) X inlX3 rfl 3 (by decide) dX10_lackedBy_48 mw645 1 rfl rfl ?_
      refine k_iload_n X dX10_lackedBy_51 0 rfl ?_
      refine k_iconst (v := 1) X dX10_lackedBy_52 (by decide) ?_
      refine k_callVI (n := 2) (As := [.int u_4, .int 1]) (st := [.int u_5]) X [(cO8_iiri yhj 8 2 yhjc yhjn), (cAI g yhjc 16 yhjf)] [(cO10_vrrvvvvvvi h0 v0h0 tl nw v3h0 v4h0 v5h0 v6h0 v7h0 v8h0 tr), (cO3_vvvrvvvv tl v0tl v1tl v2tl yhj v4tl v5tl v6tl v7tl), (cO8_iiri zr 8 3 zrc zrn), (cAI g zrc 24 zrf), (cO8_iiri zm 12 3 zmc zmn), (cAI g zmc 36 zmf), (cO8_iiri zp 8 2 zpc zpn), (cAI g zpc 16 zpf), (cO7_rrrrii nw zr zm zw zp zmd ztr), (cO8_iiri zw 6 3 zwc zwn), (cAI g zwc 18 zwf)] [11, 12] [0, 1, 2, 3, 4, 5, 6, 7, 8, 9, 10] (t_at l g yhj u_4 1 8 2 yhjc yhjn 16 yhjf (tbk_8_2)) dX10_lackedBy_53 mw665 mw376 mw377 mw64 mw378 rfl 8 rfl rfl 0 _ rfl yk_yX8_at_2 rfl (Nat.le_of_ble_eq_true rfl) (Nat.le_of_ble_eq_true rfl) (Nat.le_of_ble_eq_true rfl) (Nat.le_of_ble_eq_true rfl) (Nat.le_of_ble_eq_true rfl) rfl rfl (by decide +kernel) rfl (by decide +kernel) (by decide +kernel) ?_
      rintro r_14 w ⟨hr_15, rfl⟩
      refine k_ws [(cO10_vrrvvvvvvi h0 v0h0 tl nw v3h0 v4h0 v5h0 v6h0 v7h0 v8h0 tr), (cO3_vvvrvvvv tl v0tl v1tl v2tl yhj v4tl v5tl v6tl v7tl), (cO8_iiri zr 8 3 zrc zrn), (cAI g zrc 24 zrf), (cO8_iiri zm 12 3 zmc zmn), (cAI g zmc 36 zmf), (cO8_iiri zp 8 2 zpc zpn), (cAI g zpc 16 zpf), (cO7_rrrrii nw zr zm zw zp zmd ztr), (cO8_iiri zw 6 3 zwc zwn), (cAI g zwc 18 zwf), (cO8_iiri yhj 8 2 yhjc yhjn), (cAI g yhjc 16 yhjf)] rfl ?_
      refine k_iadd X dX10_lackedBy_56 ?_
      refine k_nm (fun z_16 ez_16 => ?_)
      refine k_istore_n [(2, .int z_16), (3, .int u_4), (0, .ref h0), (1, .int p0)] X dX10_lackedBy_57 (by decide) rfl ?_
      obtain ⟨z_17, ez_17⟩ : ∃ y : Int32, u_4 + Int32.ofInt 1 = y := ⟨_, rfl⟩
      refine k_iinc z_17 [(3, .int z_17), (2, .int z_16), (0, .ref h0), (1, .int p0)] 1 X dX10_lackedBy_58 rfl ez_17 (by decide) rfl ?_
      refine k_goto 13 X dX10_lackedBy_61 (by decide) ?_
      refine k_sub [(cO10_vrrvvvvvvi h0 v0h0 tl nw v3h0 v4h0 v5h0 v6h0 v7h0 v8h0 tr), (cO3_vvvrvvvv tl v0tl v1tl v2tl yhj v4tl v5tl v6tl v7tl), (cO8_iiri yhj 8 2 yhjc yhjn), (cAI g yhjc 16 yhjf), (cO8_iiri zr 8 3 zrc zrn), (cAI g zrc 24 zrf), (cO8_iiri zm 12 3 zmc zmn), (cAI g zmc 36 zmf), (cO8_iiri zp 8 2 zpc zpn), (cAI g zpc 16 zpf), (cO7_rrrrii nw zr zm zw zp zmd ztr), (cO8_iiri zw 6 3 zwc zwn), (cAI g zwc 18 zwf)] [0, 1, 11, 12, 2, 3, 4, 5, 6, 7, 8, 9, 10] rfl (by decide) rfl ?_
      exact ih_8 _ (by rw [← hm_7]; exact mu_lt (by assumption) (by assumption)) z_17 z_16 rfl 

theorem dX10_missing_0 : decode cX10_missing 0 = .ok (.aload_n 0, 1) := dk_42 rfl
theorem dX10_missing_1 : decode cX10_missing 1 = .ok (.getfield 26, 3) := dk_180 rfl rfl rfl rfl
theorem dX10_missing_4 : decode cX10_missing 4 = .ok (.getfield 124, 3) := dk_180 rfl rfl rfl rfl
theorem dX10_missing_7 : decode cX10_missing 7 = .ok (.iload_n 1, 1) := dk_27 rfl
theorem dX10_missing_8 : decode cX10_missing 8 = .ok (.invokevirtual 127, 3) := dk_182 rfl rfl rfl rfl
theorem dX10_missing_11 : decode cX10_missing 11 = .ok (.ifCond .ne 9, 3) := dk_154 rfl rfl rfl (by decide)
theorem dX10_missing_14 : decode cX10_missing 14 = .ok (.aload_n 0, 1) := dk_42 rfl
theorem dX10_missing_15 : decode cX10_missing 15 = .ok (.iconst 1, 1) := dk_4 rfl
theorem dX10_missing_16 : decode cX10_missing 16 = .ok (.invokevirtual 83, 3) := dk_182 rfl rfl rfl rfl
theorem dX10_missing_19 : decode cX10_missing 19 = .ok (.ireturn, 1) := dk_172 rfl
theorem dX10_missing_20 : decode cX10_missing 20 = .ok (.aload_n 0, 1) := dk_42 rfl
theorem dX10_missing_21 : decode cX10_missing 21 = .ok (.getfield 26, 3) := dk_180 rfl rfl rfl rfl
theorem dX10_missing_24 : decode cX10_missing 24 = .ok (.getfield 124, 3) := dk_180 rfl rfl rfl rfl
theorem dX10_missing_27 : decode cX10_missing 27 = .ok (.iload_n 1, 1) := dk_27 rfl
theorem dX10_missing_28 : decode cX10_missing 28 = .ok (.iconst 2, 1) := dk_5 rfl
theorem dX10_missing_29 : decode cX10_missing 29 = .ok (.invokevirtual 147, 3) := dk_182 rfl rfl rfl rfl
theorem dX10_missing_32 : decode cX10_missing 32 = .ok (.aload_n 0, 1) := dk_42 rfl
theorem dX10_missing_33 : decode cX10_missing 33 = .ok (.getfield 26, 3) := dk_180 rfl rfl rfl rfl
theorem dX10_missing_36 : decode cX10_missing 36 = .ok (.getfield 124, 3) := dk_180 rfl rfl rfl rfl
theorem dX10_missing_39 : decode cX10_missing 39 = .ok (.iload_n 1, 1) := dk_27 rfl
theorem dX10_missing_40 : decode cX10_missing 40 = .ok (.iconst 0, 1) := dk_3 rfl
theorem dX10_missing_41 : decode cX10_missing 41 = .ok (.invokevirtual 147, 3) := dk_182 rfl rfl rfl rfl
theorem dX10_missing_44 : decode cX10_missing 44 = .ok (.isub, 1) := dk_100 rfl
theorem dX10_missing_45 : decode cX10_missing 45 = .ok (.istore_n 3, 1) := dk_62 rfl
theorem dX10_missing_46 : decode cX10_missing 46 = .ok (.iload_n 2, 1) := dk_28 rfl
theorem dX10_missing_47 : decode cX10_missing 47 = .ok (.ifCond .eq 15, 3) := dk_153 rfl rfl rfl (by decide)
theorem dX10_missing_50 : decode cX10_missing 50 = .ok (.iconst 0, 1) := dk_3 rfl
theorem dX10_missing_51 : decode cX10_missing 51 = .ok (.iload_n 3, 1) := dk_29 rfl
theorem dX10_missing_52 : decode cX10_missing 52 = .ok (.aload_n 0, 1) := dk_42 rfl
theorem dX10_missing_53 : decode cX10_missing 53 = .ok (.iload_n 1, 1) := dk_27 rfl
theorem dX10_missing_54 : decode cX10_missing 54 = .ok (.invokevirtual 265, 3) := dk_182 rfl rfl rfl rfl
theorem dX10_missing_57 : decode cX10_missing 57 = .ok (.isub, 1) := dk_100 rfl
theorem dX10_missing_58 : decode cX10_missing 58 = .ok (.invokestatic 268, 3) := dk_184 rfl rfl rfl rfl
theorem dX10_missing_61 : decode cX10_missing 61 = .ok (.istore_n 3, 1) := dk_62 rfl
theorem dX10_missing_62 : decode cX10_missing 62 = .ok (.aload_n 0, 1) := dk_42 rfl
theorem dX10_missing_63 : decode cX10_missing 63 = .ok (.iload_n 3, 1) := dk_29 rfl
theorem dX10_missing_64 : decode cX10_missing 64 = .ok (.invokevirtual 118, 3) := dk_182 rfl rfl rfl rfl
theorem dX10_missing_67 : decode cX10_missing 67 = .ok (.ireturn, 1) := dk_172 rfl
set_option maxHeartbeats 4000000 in
set_option maxRecDepth 100000 in
theorem c_missing (l : Launch) (g : Gx) (h0 : Nat) (p0 : Int32) (p1 : Int32) (v0h0 : Value) (tl : Nat) (nw : Nat) (v3h0 : Value) (v4h0 : Value) (v5h0 : Value) (v6h0 : Value) (v7h0 : Value) (v8h0 : Value) (tr : Int32) (v0tl : Value) (v1tl : Value) (v2tl : Value) (yhj : Nat) (v4tl : Value) (v5tl : Value) (v6tl : Value) (v7tl : Value) (yhjc : Nat) (yhjn : Int32) (yhjf : Nat → Int32) (zr : Nat) (zm : Nat) (zw : Nat) (zp : Nat) (zmd : Int32) (ztr : Int32) (zrc : Nat) (zrn : Int32) (zrf : Nat → Int32) (zmc : Nat) (zmn : Int32) (zmf : Nat → Int32) (zwc : Nat) (zwn : Int32) (zwf : Nat → Int32) (zpc : Nat) (zpn : Int32) (zpf : Nat → Int32) : cI l g yX10_missing cX10_missing 4 (some .int) 4 88 0 0 [.ref h0, .int p0, .int p1] [(cO10_vrrvvvvvvi h0 v0h0 tl nw v3h0 v4h0 v5h0 v6h0 v7h0 v8h0 tr), (cO3_vvvrvvvv tl v0tl v1tl v2tl yhj v4tl v5tl v6tl v7tl), (cO8_iiri yhj 8 2 yhjc yhjn), (cAI g yhjc 16 yhjf), (cO7_rrrrii nw zr zm zw zp zmd ztr), (cO8_iiri zr 8 3 zrc zrn), (cAI g zrc 24 zrf), (cO8_iiri zm 12 3 zmc zmn), (cAI g zmc 36 zmf), (cO8_iiri zw 6 3 zwc zwn), (cAI g zwc 18 zwf), (cO8_iiri zp 8 2 zpc zpn), (cAI g zpc 16 zpf)] (fun r w => ∃ (tr2 : Int32), w = [(cO10_vrrvvvvvvi h0 v0h0 tl nw v3h0 v4h0 v5h0 v6h0 v7h0 v8h0 tr2), (cO3_vvvrvvvv tl v0tl v1tl v2tl yhj v4tl v5tl v6tl v7tl), (cO8_iiri yhj 8 2 yhjc yhjn), (cAI g yhjc 16 yhjf), (cO7_rrrrii nw zr zm zw zp zmd ztr), (cO8_iiri zr 8 3 zrc zrn), (cAI g zrc 24 zrf), (cO8_iiri zm 12 3 zmc zmn), (cAI g zmc 36 zmf), (cO8_iiri zw 6 3 zwc zwn), (cAI g zwc 18 zwf), (cO8_iiri zp 8 2 zpc zpn), (cAI g zpc 16 zpf)]) := by
  refine cI.of (by decide) (Nat.le_of_ble_eq_true rfl) ?_
  intro p e s m args below meth c A X hr hi
  refine k_lveq [(0, .ref h0), (1, .int p0), (2, .int p1)] rfl ?_
  refine k_aload_n X dX10_missing_0 0 rfl ?_
  refine k_get (ci := 10) X inlX10 rfl 2 (by decide) dX10_missing_1 mw24 0 rfl rfl ?_
  refine k_get (ci := 7) X inlX7 rfl 0 (by decide) dX10_missing_4 mw643 4 rfl rfl ?_
  refine k_iload_n X dX10_missing_7 1 rfl ?_
  refine k_callVI (n := 1) (As := [.int p0]) (st := []) X [(cO8_iiri zr 8 3 zrc zrn)] [(cO10_vrrvvvvvvi h0 v0h0 tl nw v3h0 v4h0 v5h0 v6h0 v7h0 v8h0 tr), (cO3_vvvrvvvv tl v0tl v1tl v2tl yhj v4tl v5tl v6tl v7tl), (cO8_iiri yhj 8 2 yhjc yhjn), (cAI g yhjc 16 yhjf), (cO7_rrrrii nw zr zm zw zp zmd ztr), (cAI g zrc 24 zrf), (cO8_iiri zm 12 3 zmc zmn), (cAI g zmc 36 zmf), (cO8_iiri zw 6 3 zwc zwn), (cAI g zwc 18 zwf), (cO8_iiri zp 8 2 zpc zpn), (cAI g zpc 16 zpf)] [5] [0, 1, 2, 3, 4, 6, 7, 8, 9, 10, 11, 12] (t_has l g zr p0 (.int 8) (.int 3) (.ref zrc) zrn) dX10_missing_8 mw647 mw648 mw649 mw64 mw650 rfl 8 rfl rfl 0 _ rfl yk_yX8_has_1 rfl (Nat.le_of_ble_eq_true rfl) (Nat.le_of_ble_eq_true rfl) (Nat.le_of_ble_eq_true rfl) (Nat.le_of_ble_eq_true rfl) (Nat.le_of_ble_eq_true rfl) rfl rfl (by decide +kernel) rfl (by decide +kernel) (by decide +kernel) ?_
  rintro r_1 w ⟨hr_2, rfl⟩
  refine k_ws [(cO10_vrrvvvvvvi h0 v0h0 tl nw v3h0 v4h0 v5h0 v6h0 v7h0 v8h0 tr), (cO3_vvvrvvvv tl v0tl v1tl v2tl yhj v4tl v5tl v6tl v7tl), (cO8_iiri yhj 8 2 yhjc yhjn), (cAI g yhjc 16 yhjf), (cO7_rrrrii nw zr zm zw zp zmd ztr), (cAI g zrc 24 zrf), (cO8_iiri zm 12 3 zmc zmn), (cAI g zmc 36 zmf), (cO8_iiri zw 6 3 zwc zwn), (cAI g zwc 18 zwf), (cO8_iiri zp 8 2 zpc zpn), (cAI g zpc 16 zpf), (cO8_iiri zr 8 3 zrc zrn)] rfl ?_
  refine k_if_ne 20 X dX10_missing_11 (by decide) (fun h_3 => ?_) (fun h_3 => ?_)
  · skip
    refine k_aload_n X dX10_missing_20 0 rfl ?_
    refine k_get (ci := 10) X inlX10 rfl 2 (by decide) dX10_missing_21 mw24 0 rfl rfl ?_
    refine k_get (ci := 7) X inlX7 rfl 0 (by decide) dX10_missing_24 mw643 4 rfl rfl ?_
    refine k_iload_n X dX10_missing_27 1 rfl ?_
    refine k_iconst (v := 2) X dX10_missing_28 (by decide) ?_
    refine k_callVI (n := 2) (As := [.int p0, .int 2]) (st := []) X [(cO8_iiri zr 8 3 zrc zrn), (cAI g zrc 24 zrf)] [(cO10_vrrvvvvvvi h0 v0h0 tl nw v3h0 v4h0 v5h0 v6h0 v7h0 v8h0 tr), (cO3_vvvrvvvv tl v0tl v1tl v2tl yhj v4tl v5tl v6tl v7tl), (cO8_iiri yhj 8 2 yhjc yhjn), (cAI g yhjc 16 yhjf), (cO7_rrrrii nw zr zm zw zp zmd ztr), (cO8_iiri zm 12 3 zmc zmn), (cAI g zmc 36 zmf), (cO8_iiri zw 6 3 zwc zwn), (cAI g zwc 18 zwf), (cO8_iiri zp 8 2 zpc zpn), (cAI g zpc 16 zpf)] [12, 5] [0, 1, 2, 3, 4, 6, 7, 8, 9, 10, 11] (t_at l g zr p0 2 8 3 zrc zrn 24 zrf (tbk_8_3)) dX10_missing_29 mw665 mw376 mw377 mw64 mw378 rfl 8 rfl rfl 0 _ rfl yk_yX8_at_2 rfl (Nat.le_of_ble_eq_true rfl) (Nat.le_of_ble_eq_true rfl) (Nat.le_of_ble_eq_true rfl) (Nat.le_of_ble_eq_true rfl) (Nat.le_of_ble_eq_true rfl) rfl rfl (by decide +kernel) rfl (by decide +kernel) (by decide +kernel) ?_
    rintro r_4 w ⟨hr_5, rfl⟩
    refine k_ws [(cO10_vrrvvvvvvi h0 v0h0 tl nw v3h0 v4h0 v5h0 v6h0 v7h0 v8h0 tr), (cO3_vvvrvvvv tl v0tl v1tl v2tl yhj v4tl v5tl v6tl v7tl), (cO8_iiri yhj 8 2 yhjc yhjn), (cAI g yhjc 16 yhjf), (cO7_rrrrii nw zr zm zw zp zmd ztr), (cO8_iiri zm 12 3 zmc zmn), (cAI g zmc 36 zmf), (cO8_iiri zw 6 3 zwc zwn), (cAI g zwc 18 zwf), (cO8_iiri zp 8 2 zpc zpn), (cAI g zpc 16 zpf), (cO8_iiri zr 8 3 zrc zrn), (cAI g zrc 24 zrf)] rfl ?_
    refine k_aload_n X dX10_missing_32 0 rfl ?_
    refine k_get (ci := 10) X inlX10 rfl 2 (by decide) dX10_missing_33 mw24 0 rfl rfl ?_
    refine k_get (ci := 7) X inlX7 rfl 0 (by decide) dX10_missing_36 mw643 4 rfl rfl ?_
    refine k_iload_n X dX10_missing_39 1 rfl ?_
    refine k_iconst (v := 0) X dX10_missing_40 (by decide) ?_
    refine k_callVI (n := 2) (As := [.int p0, .int 0]) (st := [.int r_4]) X [(cO8_iiri zr 8 3 zrc zrn), (cAI g zrc 24 zrf)] [(cO10_vrrvvvvvvi h0 v0h0 tl nw v3h0 v4h0 v5h0 v6h0 v7h0 v8h0 tr), (cO3_vvvrvvvv tl v0tl v1tl v2tl yhj v4tl v5tl v6tl v7tl), (cO8_iiri yhj 8 2 yhjc yhjn), (cAI g yhjc 16 yhjf), (cO7_rrrrii nw zr zm zw zp zmd ztr), (cO8_iiri zm 12 3 zmc zmn), (cAI g zmc 36 zmf), (cO8_iiri zw 6 3 zwc zwn), (cAI g zwc 18 zwf), (cO8_iiri zp 8 2 zpc zpn), (cAI g zpc 16 zpf)] [11, 12] [0, 1, 2, 3, 4, 5, 6, 7, 8, 9, 10] (t_at l g zr p0 0 8 3 zrc zrn 24 zrf (tbk_8_3)) dX10_missing_41 mw665 mw376 mw377 mw64 mw378 rfl 8 rfl rfl 0 _ rfl yk_yX8_at_2 rfl (Nat.le_of_ble_eq_true rfl) (Nat.le_of_ble_eq_true rfl) (Nat.le_of_ble_eq_true rfl) (Nat.le_of_ble_eq_true rfl) (Nat.le_of_ble_eq_true rfl) rfl rfl (by decide +kernel) rfl (by decide +kernel) (by decide +kernel) ?_
    rintro r_6 w ⟨hr_7, rfl⟩
    refine k_ws [(cO10_vrrvvvvvvi h0 v0h0 tl nw v3h0 v4h0 v5h0 v6h0 v7h0 v8h0 tr), (cO3_vvvrvvvv tl v0tl v1tl v2tl yhj v4tl v5tl v6tl v7tl), (cO8_iiri yhj 8 2 yhjc yhjn), (cAI g yhjc 16 yhjf), (cO7_rrrrii nw zr zm zw zp zmd ztr), (cO8_iiri zm 12 3 zmc zmn), (cAI g zmc 36 zmf), (cO8_iiri zw 6 3 zwc zwn), (cAI g zwc 18 zwf), (cO8_iiri zp 8 2 zpc zpn), (cAI g zpc 16 zpf), (cO8_iiri zr 8 3 zrc zrn), (cAI g zrc 24 zrf)] rfl ?_
    refine k_isub X dX10_missing_44 ?_
    refine k_nm (fun z_8 ez_8 => ?_)
    refine k_istore_n [(3, .int z_8), (0, .ref h0), (1, .int p0), (2, .int p1)] X dX10_missing_45 (by decide) rfl ?_
    refine k_iload_n X dX10_missing_46 3 rfl ?_
    refine k_if_eq 62 X dX10_missing_47 (by decide) (fun h_9 => ?_) (fun h_9 => ?_)
    · skip
      refine k_aload_n X dX10_missing_62 1 rfl ?_
      refine k_iload_n X dX10_missing_63 0 rfl ?_
      refine k_callVI (n := 1) (As := [.int z_8]) (st := []) X [(cO10_vrrvvvvvvi h0 v0h0 tl nw v3h0 v4h0 v5h0 v6h0 v7h0 v8h0 tr)] [(cO3_vvvrvvvv tl v0tl v1tl v2tl yhj v4tl v5tl v6tl v7tl), (cO8_iiri yhj 8 2 yhjc yhjn), (cAI g yhjc 16 yhjf), (cO7_rrrrii nw zr zm zw zp zmd ztr), (cO8_iiri zm 12 3 zmc zmn), (cAI g zmc 36 zmf), (cO8_iiri zw 6 3 zwc zwn), (cAI g zwc 18 zwf), (cO8_iiri zp 8 2 zpc zpn), (cAI g zpc 16 zpf), (cO8_iiri zr 8 3 zrc zrn), (cAI g zrc 24 zrf)] [0] [1, 2, 3, 4, 5, 6, 7, 8, 9, 10, 11, 12] (c_tell l g h0 z_8 v0h0 (.ref tl) (.ref nw) v3h0 v4h0 v5h0 v6h0 v7h0 v8h0 tr) dX10_missing_64 mw460 mw461 mw462 mw2 mw463 rfl 10 rfl rfl 0 _ rfl yk_yX10_tell_1 rfl (Nat.le_of_ble_eq_true rfl) (Nat.le_of_ble_eq_true rfl) (Nat.le_of_ble_eq_true rfl) (Nat.le_of_ble_eq_true rfl) (Nat.le_of_ble_eq_true rfl) rfl rfl (by decide +kernel) rfl (by decide +kernel) (by decide +kernel) ?_
      rintro r_11 w ⟨tr2_10, rfl⟩
      refine k_ws [(cO3_vvvrvvvv tl v0tl v1tl v2tl yhj v4tl v5tl v6tl v7tl), (cO8_iiri yhj 8 2 yhjc yhjn), (cAI g yhjc 16 yhjf), (cO7_rrrrii nw zr zm zw zp zmd ztr), (cO8_iiri zm 12 3 zmc zmn), (cAI g zmc 36 zmf), (cO8_iiri zw 6 3 zwc zwn), (cAI g zwc 18 zwf), (cO8_iiri zp 8 2 zpc zpn), (cAI g zpc 16 zpf), (cO8_iiri zr 8 3 zrc zrn), (cAI g zrc 24 zrf), (cO10_vrrvvvvvvi h0 v0h0 tl nw v3h0 v4h0 v5h0 v6h0 v7h0 v8h0 tr2_10)] rfl ?_
      exact k_iret X hr dX10_missing_67 (Nat.le_of_ble_eq_true rfl) (Nat.le_of_ble_eq_true rfl) [12, 0, 1, 2, 3, 10, 11, 4, 5, 6, 7, 8, 9] (by decide) rfl rfl ⟨tr2_10, rfl⟩
    · skip
      refine k_iconst (v := 0) X dX10_missing_50 (by decide) ?_
      refine k_iload_n X dX10_missing_51 0 rfl ?_
      refine k_aload_n X dX10_missing_52 1 rfl ?_
      refine k_iload_n X dX10_missing_53 2 rfl ?_
      refine k_callVI (n := 1) (As := [.int p0]) (st := [.int z_8, .int 0]) X [(cO10_vrrvvvvvvi h0 v0h0 tl nw v3h0 v4h0 v5h0 v6h0 v7h0 v8h0 tr), (cO3_vvvrvvvv tl v0tl v1tl v2tl yhj v4tl v5tl v6tl v7tl), (cO8_iiri yhj 8 2 yhjc yhjn), (cAI g yhjc 16 yhjf), (cO7_rrrrii nw zr zm zw zp zmd ztr), (cO8_iiri zr 8 3 zrc zrn), (cAI g zrc 24 zrf), (cO8_iiri zm 12 3 zmc zmn), (cAI g zmc 36 zmf), (cO8_iiri zw 6 3 zwc zwn), (cAI g zwc 18 zwf), (cO8_iiri zp 8 2 zpc zpn), (cAI g zpc 16 zpf)] [] [0, 1, 2, 3, 4, 11, 12, 5, 6, 7, 8, 9, 10] [] (c_lackedBy l g h0 p0 v0h0 tl nw v3h0 v4h0 v5h0 v6h0 v7h0 v8h0 tr v0tl v1tl v2tl yhj v4tl v5tl v6tl v7tl yhjc yhjn yhjf zr zm zw zp zmd ztr zrc zrn zrf zmc zmn zmf zwc zwn zwf zpc zpn zpf) dX10_missing_54 mw1223 mw1224 mw1225 mw2 mw1226 rfl 10 rfl rfl 0 _ rfl yk_yX10_lackedBy_1 rfl (Nat.le_of_ble_eq_true rfl) (Nat.le_of_ble_eq_true rfl) (Nat.le_of_ble_eq_true rfl) (Nat.le_of_ble_eq_true rfl) (Nat.le_of_ble_eq_true rfl) rfl rfl (by decide +kernel) rfl (by decide +kernel) (by decide +kernel) ?_
      rintro r_14 w ⟨tr2_13, rfl⟩
      refine k_ws [(cO10_vrrvvvvvvi h0 v0h0 tl nw v3h0 v4h0 v5h0 v6h0 v7h0 v8h0 tr2_13), (cO3_vvvrvvvv tl v0tl v1tl v2tl yhj v4tl v5tl v6tl v7tl), (cO8_iiri yhj 8 2 yhjc yhjn), (cAI g yhjc 16 yhjf), (cO7_rrrrii nw zr zm zw zp zmd ztr), (cO8_iiri zr 8 3 zrc zrn), (cAI g zrc 24 zrf), (cO8_iiri zm 12 3 zmc zmn), (cAI g zmc 36 zmf), (cO8_iiri zw 6 3 zwc zwn), (cAI g zwc 18 zwf), (cO8_iiri zp 8 2 zpc zpn), (cAI g zpc 16 zpf)] rfl ?_
      refine k_isub X dX10_missing_57 ?_
      refine k_nm (fun z_16 ez_16 => ?_)
      refine k_mmax X dX10_missing_58 mw1222 mw102 mw103 mw104 (Nat.le_of_ble_eq_true rfl) (Nat.le_of_ble_eq_true rfl) (Nat.zero_le _) (Nat.zero_le _) ?_
      refine k_nm (fun z_17 ez_17 => ?_)
      refine k_istore_n [(3, .int z_17), (0, .ref h0), (1, .int p0), (2, .int p1)] X dX10_missing_61 (by decide) rfl ?_
      refine k_aload_n X dX10_missing_62 1 rfl ?_
      refine k_iload_n X dX10_missing_63 0 rfl ?_
      refine k_callVI (n := 1) (As := [.int z_17]) (st := []) X [(cO10_vrrvvvvvvi h0 v0h0 tl nw v3h0 v4h0 v5h0 v6h0 v7h0 v8h0 tr2_13)] [(cO3_vvvrvvvv tl v0tl v1tl v2tl yhj v4tl v5tl v6tl v7tl), (cO8_iiri yhj 8 2 yhjc yhjn), (cAI g yhjc 16 yhjf), (cO7_rrrrii nw zr zm zw zp zmd ztr), (cO8_iiri zr 8 3 zrc zrn), (cAI g zrc 24 zrf), (cO8_iiri zm 12 3 zmc zmn), (cAI g zmc 36 zmf), (cO8_iiri zw 6 3 zwc zwn), (cAI g zwc 18 zwf), (cO8_iiri zp 8 2 zpc zpn), (cAI g zpc 16 zpf)] [0] [1, 2, 3, 4, 5, 6, 7, 8, 9, 10, 11, 12] (c_tell l g h0 z_17 v0h0 (.ref tl) (.ref nw) v3h0 v4h0 v5h0 v6h0 v7h0 v8h0 tr2_13) dX10_missing_64 mw460 mw461 mw462 mw2 mw463 rfl 10 rfl rfl 0 _ rfl yk_yX10_tell_1 rfl (Nat.le_of_ble_eq_true rfl) (Nat.le_of_ble_eq_true rfl) (Nat.le_of_ble_eq_true rfl) (Nat.le_of_ble_eq_true rfl) (Nat.le_of_ble_eq_true rfl) rfl rfl (by decide +kernel) rfl (by decide +kernel) (by decide +kernel) ?_
      rintro r_19 w ⟨tr2_18, rfl⟩
      refine k_ws [(cO3_vvvrvvvv tl v0tl v1tl v2tl yhj v4tl v5tl v6tl v7tl), (cO8_iiri yhj 8 2 yhjc yhjn), (cAI g yhjc 16 yhjf), (cO7_rrrrii nw zr zm zw zp zmd ztr), (cO8_iiri zr 8 3 zrc zrn), (cAI g zrc 24 zrf), (cO8_iiri zm 12 3 zmc zmn), (cAI g zmc 36 zmf), (cO8_iiri zw 6 3 zwc zwn), (cAI g zwc 18 zwf), (cO8_iiri zp 8 2 zpc zpn), (cAI g zpc 16 zpf), (cO10_vrrvvvvvvi h0 v0h0 tl nw v3h0 v4h0 v5h0 v6h0 v7h0 v8h0 tr2_18)] rfl ?_
      exact k_iret X hr dX10_missing_67 (Nat.le_of_ble_eq_true rfl) (Nat.le_of_ble_eq_true rfl) [12, 0, 1, 2, 3, 4, 5, 6, 7, 8, 9, 10, 11] (by decide) rfl rfl ⟨tr2_18, rfl⟩
  · skip
    refine k_aload_n X dX10_missing_14 0 rfl ?_
    refine k_iconst (v := 1) X dX10_missing_15 (by decide) ?_
    refine k_callVI (n := 1) (As := [.int 1]) (st := []) X [(cO10_vrrvvvvvvi h0 v0h0 tl nw v3h0 v4h0 v5h0 v6h0 v7h0 v8h0 tr)] [(cO3_vvvrvvvv tl v0tl v1tl v2tl yhj v4tl v5tl v6tl v7tl), (cO8_iiri yhj 8 2 yhjc yhjn), (cAI g yhjc 16 yhjf), (cO7_rrrrii nw zr zm zw zp zmd ztr), (cAI g zrc 24 zrf), (cO8_iiri zm 12 3 zmc zmn), (cAI g zmc 36 zmf), (cO8_iiri zw 6 3 zwc zwn), (cAI g zwc 18 zwf), (cO8_iiri zp 8 2 zpc zpn), (cAI g zpc 16 zpf), (cO8_iiri zr 8 3 zrc zrn)] [0] [1, 2, 3, 4, 5, 6, 7, 8, 9, 10, 11, 12] (c_refuse l g h0 1 v0h0 (.ref tl) (.ref nw) v3h0 v4h0 v5h0 v6h0 v7h0 v8h0 tr) dX10_missing_16 mw215 mw216 mw217 mw2 mw218 rfl 10 rfl rfl 0 _ rfl yk_yX10_refuse_1 rfl (Nat.le_of_ble_eq_true rfl) (Nat.le_of_ble_eq_true rfl) (Nat.le_of_ble_eq_true rfl) (Nat.le_of_ble_eq_true rfl) (Nat.le_of_ble_eq_true rfl) rfl rfl (by decide +kernel) rfl (by decide +kernel) (by decide +kernel) ?_
    rintro r_22 w ⟨tr2_21, rfl⟩
    refine k_ws [(cO3_vvvrvvvv tl v0tl v1tl v2tl yhj v4tl v5tl v6tl v7tl), (cO8_iiri yhj 8 2 yhjc yhjn), (cAI g yhjc 16 yhjf), (cO7_rrrrii nw zr zm zw zp zmd ztr), (cAI g zrc 24 zrf), (cO8_iiri zm 12 3 zmc zmn), (cAI g zmc 36 zmf), (cO8_iiri zw 6 3 zwc zwn), (cAI g zwc 18 zwf), (cO8_iiri zp 8 2 zpc zpn), (cAI g zpc 16 zpf), (cO8_iiri zr 8 3 zrc zrn), (cO10_vrrvvvvvvi h0 v0h0 tl nw v3h0 v4h0 v5h0 v6h0 v7h0 v8h0 tr2_21)] rfl ?_
    exact k_iret X hr dX10_missing_19 (Nat.le_of_ble_eq_true rfl) (Nat.le_of_ble_eq_true rfl) [12, 0, 1, 2, 3, 11, 4, 5, 6, 7, 8, 9, 10] (by decide) rfl rfl ⟨tr2_21, rfl⟩

theorem dX10_words_0 : decode cX10_words 0 = .ok (.aload_n 0, 1) := dk_42 rfl
theorem dX10_words_1 : decode cX10_words 1 = .ok (.getfield 26, 3) := dk_180 rfl rfl rfl rfl
theorem dX10_words_4 : decode cX10_words 4 = .ok (.getfield 124, 3) := dk_180 rfl rfl rfl rfl
theorem dX10_words_7 : decode cX10_words 7 = .ok (.iload_n 1, 1) := dk_27 rfl
theorem dX10_words_8 : decode cX10_words 8 = .ok (.invokevirtual 127, 3) := dk_182 rfl rfl rfl rfl
theorem dX10_words_11 : decode cX10_words 11 = .ok (.ifCond .ne 9, 3) := dk_154 rfl rfl rfl (by decide)
theorem dX10_words_14 : decode cX10_words 14 = .ok (.aload_n 0, 1) := dk_42 rfl
theorem dX10_words_15 : decode cX10_words 15 = .ok (.iconst 1, 1) := dk_4 rfl
theorem dX10_words_16 : decode cX10_words 16 = .ok (.invokevirtual 83, 3) := dk_182 rfl rfl rfl rfl
theorem dX10_words_19 : decode cX10_words 19 = .ok (.ireturn, 1) := dk_172 rfl
theorem dX10_words_20 : decode cX10_words 20 = .ok (.iconst 0, 1) := dk_3 rfl
theorem dX10_words_21 : decode cX10_words 21 = .ok (.istore_n 2, 1) := dk_61 rfl
theorem dX10_words_22 : decode cX10_words 22 = .ok (.iconst 0, 1) := dk_3 rfl
theorem dX10_words_23 : decode cX10_words 23 = .ok (.istore_n 3, 1) := dk_62 rfl
theorem dX10_words_24 : decode cX10_words 24 = .ok (.iload_n 3, 1) := dk_29 rfl
theorem dX10_words_25 : decode cX10_words 25 = .ok (.aload_n 0, 1) := dk_42 rfl
theorem dX10_words_26 : decode cX10_words 26 = .ok (.getfield 19, 3) := dk_180 rfl rfl rfl rfl
theorem dX10_words_29 : decode cX10_words 29 = .ok (.getfield 138, 3) := dk_180 rfl rfl rfl rfl
theorem dX10_words_32 : decode cX10_words 32 = .ok (.getfield 113, 3) := dk_180 rfl rfl rfl rfl
theorem dX10_words_35 : decode cX10_words 35 = .ok (.if_icmp .ge 45, 3) := dk_162 rfl rfl rfl (by decide)
theorem dX10_words_38 : decode cX10_words 38 = .ok (.aload_n 0, 1) := dk_42 rfl
theorem dX10_words_39 : decode cX10_words 39 = .ok (.getfield 19, 3) := dk_180 rfl rfl rfl rfl
theorem dX10_words_42 : decode cX10_words 42 = .ok (.getfield 138, 3) := dk_180 rfl rfl rfl rfl
theorem dX10_words_45 : decode cX10_words 45 = .ok (.iload_n 3, 1) := dk_29 rfl
theorem dX10_words_46 : decode cX10_words 46 = .ok (.iconst 0, 1) := dk_3 rfl
theorem dX10_words_47 : decode cX10_words 47 = .ok (.invokevirtual 147, 3) := dk_182 rfl rfl rfl rfl
theorem dX10_words_50 : decode cX10_words 50 = .ok (.iload_n 1, 1) := dk_27 rfl
theorem dX10_words_51 : decode cX10_words 51 = .ok (.if_icmp .ne 23, 3) := dk_160 rfl rfl rfl (by decide)
theorem dX10_words_54 : decode cX10_words 54 = .ok (.aload_n 0, 1) := dk_42 rfl
theorem dX10_words_55 : decode cX10_words 55 = .ok (.getfield 19, 3) := dk_180 rfl rfl rfl rfl
theorem dX10_words_58 : decode cX10_words 58 = .ok (.getfield 138, 3) := dk_180 rfl rfl rfl rfl
theorem dX10_words_61 : decode cX10_words 61 = .ok (.iload_n 3, 1) := dk_29 rfl
theorem dX10_words_62 : decode cX10_words 62 = .ok (.iconst 1, 1) := dk_4 rfl
theorem dX10_words_63 : decode cX10_words 63 = .ok (.invokevirtual 147, 3) := dk_182 rfl rfl rfl rfl
theorem dX10_words_66 : decode cX10_words 66 = .ok (.bipush 24, 2) := dk_16 rfl rfl (by decide)
theorem dX10_words_68 : decode cX10_words 68 = .ok (.if_icmp .lt 6, 3) := dk_161 rfl rfl rfl (by decide)
theorem dX10_words_71 : decode cX10_words 71 = .ok (.iinc 2 1, 3) := dk_132 rfl rfl rfl rfl (by decide)
theorem dX10_words_74 : decode cX10_words 74 = .ok (.iinc 3 1, 3) := dk_132 rfl rfl rfl rfl (by decide)
theorem dX10_words_77 : decode cX10_words 77 = .ok (.goto (-53), 3) := dk_167 rfl rfl rfl (by decide)
theorem dX10_words_80 : decode cX10_words 80 = .ok (.aload_n 0, 1) := dk_42 rfl
theorem dX10_words_81 : decode cX10_words 81 = .ok (.iload_n 2, 1) := dk_28 rfl
theorem dX10_words_82 : decode cX10_words 82 = .ok (.invokevirtual 118, 3) := dk_182 rfl rfl rfl rfl
theorem dX10_words_85 : decode cX10_words 85 = .ok (.ireturn, 1) := dk_172 rfl
set_option maxHeartbeats 4000000 in
set_option maxRecDepth 100000 in
theorem c_words (l : Launch) (g : Gx) (h0 : Nat) (p0 : Int32) (v0h0 : Value) (tl : Nat) (nw : Nat) (v3h0 : Value) (v4h0 : Value) (v5h0 : Value) (v6h0 : Value) (v7h0 : Value) (v8h0 : Value) (tr : Int32) (v0tl : Value) (v1tl : Value) (v2tl : Value) (yhj : Nat) (v4tl : Value) (v5tl : Value) (v6tl : Value) (v7tl : Value) (yhjc : Nat) (yhjn : Int32) (yhjf : Nat → Int32) (zr : Nat) (zm : Nat) (zw : Nat) (zp : Nat) (zmd : Int32) (ztr : Int32) (zrc : Nat) (zrn : Int32) (zrf : Nat → Int32) (zmc : Nat) (zmn : Int32) (zmf : Nat → Int32) (zwc : Nat) (zwn : Int32) (zwf : Nat → Int32) (zpc : Nat) (zpn : Int32) (zpf : Nat → Int32) : cI l g yX10_words cX10_words 4 (some .int) 1 22 0 0 [.ref h0, .int p0] [(cO10_vrrvvvvvvi h0 v0h0 tl nw v3h0 v4h0 v5h0 v6h0 v7h0 v8h0 tr), (cO3_vvvrvvvv tl v0tl v1tl v2tl yhj v4tl v5tl v6tl v7tl), (cO8_iiri yhj 8 2 yhjc yhjn), (cAI g yhjc 16 yhjf), (cO7_rrrrii nw zr zm zw zp zmd ztr), (cO8_iiri zr 8 3 zrc zrn), (cAI g zrc 24 zrf), (cO8_iiri zm 12 3 zmc zmn), (cAI g zmc 36 zmf), (cO8_iiri zw 6 3 zwc zwn), (cAI g zwc 18 zwf), (cO8_iiri zp 8 2 zpc zpn), (cAI g zpc 16 zpf)] (fun r w => ∃ (tr2 : Int32), w = [(cO10_vrrvvvvvvi h0 v0h0 tl nw v3h0 v4h0 v5h0 v6h0 v7h0 v8h0 tr2), (cO3_vvvrvvvv tl v0tl v1tl v2tl yhj v4tl v5tl v6tl v7tl), (cO8_iiri yhj 8 2 yhjc yhjn), (cAI g yhjc 16 yhjf), (cO7_rrrrii nw zr zm zw zp zmd ztr), (cO8_iiri zr 8 3 zrc zrn), (cAI g zrc 24 zrf), (cO8_iiri zm 12 3 zmc zmn), (cAI g zmc 36 zmf), (cO8_iiri zw 6 3 zwc zwn), (cAI g zwc 18 zwf), (cO8_iiri zp 8 2 zpc zpn), (cAI g zpc 16 zpf)]) := by
  refine cI.of (by decide) (Nat.le_of_ble_eq_true rfl) ?_
  intro p e s m args below meth c A X hr hi
  refine k_lveq [(0, .ref h0), (1, .int p0)] rfl ?_
  refine k_aload_n X dX10_words_0 0 rfl ?_
  refine k_get (ci := 10) X inlX10 rfl 2 (by decide) dX10_words_1 mw24 0 rfl rfl ?_
  refine k_get (ci := 7) X inlX7 rfl 0 (by decide) dX10_words_4 mw643 4 rfl rfl ?_
  refine k_iload_n X dX10_words_7 1 rfl ?_
  refine k_callVI (n := 1) (As := [.int p0]) (st := []) X [(cO8_iiri zr 8 3 zrc zrn)] [(cO10_vrrvvvvvvi h0 v0h0 tl nw v3h0 v4h0 v5h0 v6h0 v7h0 v8h0 tr), (cO3_vvvrvvvv tl v0tl v1tl v2tl yhj v4tl v5tl v6tl v7tl), (cO8_iiri yhj 8 2 yhjc yhjn), (cAI g yhjc 16 yhjf), (cO7_rrrrii nw zr zm zw zp zmd ztr), (cAI g zrc 24 zrf), (cO8_iiri zm 12 3 zmc zmn), (cAI g zmc 36 zmf), (cO8_iiri zw 6 3 zwc zwn), (cAI g zwc 18 zwf), (cO8_iiri zp 8 2 zpc zpn), (cAI g zpc 16 zpf)] [5] [0, 1, 2, 3, 4, 6, 7, 8, 9, 10, 11, 12] (t_has l g zr p0 (.int 8) (.int 3) (.ref zrc) zrn) dX10_words_8 mw647 mw648 mw649 mw64 mw650 rfl 8 rfl rfl 0 _ rfl yk_yX8_has_1 rfl (Nat.le_of_ble_eq_true rfl) (Nat.le_of_ble_eq_true rfl) (Nat.le_of_ble_eq_true rfl) (Nat.le_of_ble_eq_true rfl) (Nat.le_of_ble_eq_true rfl) rfl rfl (by decide +kernel) rfl (by decide +kernel) (by decide +kernel) ?_
  rintro r_1 w ⟨hr_2, rfl⟩
  refine k_ws [(cO10_vrrvvvvvvi h0 v0h0 tl nw v3h0 v4h0 v5h0 v6h0 v7h0 v8h0 tr), (cO3_vvvrvvvv tl v0tl v1tl v2tl yhj v4tl v5tl v6tl v7tl), (cO8_iiri yhj 8 2 yhjc yhjn), (cAI g yhjc 16 yhjf), (cO7_rrrrii nw zr zm zw zp zmd ztr), (cAI g zrc 24 zrf), (cO8_iiri zm 12 3 zmc zmn), (cAI g zmc 36 zmf), (cO8_iiri zw 6 3 zwc zwn), (cAI g zwc 18 zwf), (cO8_iiri zp 8 2 zpc zpn), (cAI g zpc 16 zpf), (cO8_iiri zr 8 3 zrc zrn)] rfl ?_
  refine k_if_ne 20 X dX10_words_11 (by decide) (fun h_3 => ?_) (fun h_3 => ?_)
  · skip
    refine k_iconst (v := 0) X dX10_words_20 (by decide) ?_
    refine k_istore_n [(2, .int 0), (0, .ref h0), (1, .int p0)] X dX10_words_21 (by decide) rfl ?_
    refine k_iconst (v := 0) X dX10_words_22 (by decide) ?_
    refine k_istore_n [(3, .int 0), (2, .int 0), (0, .ref h0), (1, .int p0)] X dX10_words_23 (by decide) rfl ?_
    refine (fun hL : ∀ (nn_6 : Nat) (u_4 : Int32) (u_5 : Int32), (yhjn.toInt - u_4.toInt).toNat = nn_6 → Wk p l e _ s m args below meth c _ A g _ _ _ [(cO10_vrrvvvvvvi h0 v0h0 tl nw v3h0 v4h0 v5h0 v6h0 v7h0 v8h0 tr), (cO3_vvvrvvvv tl v0tl v1tl v2tl yhj v4tl v5tl v6tl v7tl), (cO8_iiri yhj 8 2 yhjc yhjn), (cAI g yhjc 16 yhjf), (cO7_rrrrii nw zr zm zw zp zmd ztr), (cAI g zrc 24 zrf), (cO8_iiri zm 12 3 zmc zmn), (cAI g zmc 36 zmf), (cO8_iiri zw 6 3 zwc zwn), (cAI g zwc 18 zwf), (cO8_iiri zp 8 2 zpc zpn), (cAI g zpc 16 zpf), (cO8_iiri zr 8 3 zrc zrn)] [(3, .int u_4), (2, .int u_5), (0, .ref h0), (1, .int p0)] 24 [] => hL _ 0 0 rfl ) ?_
    refine fun nn_6 => Nat.strongRecOn nn_6 (fun nn_6 ih_8 => ?_)
    intro u_4 u_5 hm_7 
    refine k_iload_n X dX10_words_24 0 rfl ?_
    refine k_aload_n X dX10_words_25 2 rfl ?_
    refine k_get (ci := 10) X inlX10 rfl 1 (by decide) dX10_words_26 mw20 0 rfl rfl ?_
    refine k_get (ci := 3) X inlX3 rfl 3 (by decide) dX10_words_29 mw645 1 rfl rfl ?_
    refine k_get (ci := 8) X inlX8 rfl 3 (by decide) dX10_words_32 mw214 2 rfl rfl ?_
    refine k_ic_ge 80 X dX10_words_35 (by decide) (fun h_9 => ?_) (fun h_9 => ?_)
    · skip
      refine k_aload_n X dX10_words_80 2 rfl ?_
      refine k_iload_n X dX10_words_81 1 rfl ?_
      refine k_callVI (n := 1) (As := [.int u_5]) (st := []) X [(cO10_vrrvvvvvvi h0 v0h0 tl nw v3h0 v4h0 v5h0 v6h0 v7h0 v8h0 tr)] [(cO3_vvvrvvvv tl v0tl v1tl v2tl yhj v4tl v5tl v6tl v7tl), (cO8_iiri yhj 8 2 yhjc yhjn), (cAI g yhjc 16 yhjf), (cO7_rrrrii nw zr zm zw zp zmd ztr), (cAI g zrc 24 zrf), (cO8_iiri zm 12 3 zmc zmn), (cAI g zmc 36 zmf), (cO8_iiri zw 6 3 zwc zwn), (cAI g zwc 18 zwf), (cO8_iiri zp 8 2 zpc zpn), (cAI g zpc 16 zpf), (cO8_iiri zr 8 3 zrc zrn)] [0] [1, 2, 3, 4, 5, 6, 7, 8, 9, 10, 11, 12] (c_tell l g h0 u_5 v0h0 (.ref tl) (.ref nw) v3h0 v4h0 v5h0 v6h0 v7h0 v8h0 tr) dX10_words_82 mw460 mw461 mw462 mw2 mw463 rfl 10 rfl rfl 0 _ rfl yk_yX10_tell_1 rfl (Nat.le_of_ble_eq_true rfl) (Nat.le_of_ble_eq_true rfl) (Nat.le_of_ble_eq_true rfl) (Nat.le_of_ble_eq_true rfl) (Nat.le_of_ble_eq_true rfl) rfl rfl (by decide +kernel) rfl (by decide +kernel) (by decide +kernel) ?_
      rintro r_11 w ⟨tr2_10, rfl⟩
      refine k_ws [(cO3_vvvrvvvv tl v0tl v1tl v2tl yhj v4tl v5tl v6tl v7tl), (cO8_iiri yhj 8 2 yhjc yhjn), (cAI g yhjc 16 yhjf), (cO7_rrrrii nw zr zm zw zp zmd ztr), (cAI g zrc 24 zrf), (cO8_iiri zm 12 3 zmc zmn), (cAI g zmc 36 zmf), (cO8_iiri zw 6 3 zwc zwn), (cAI g zwc 18 zwf), (cO8_iiri zp 8 2 zpc zpn), (cAI g zpc 16 zpf), (cO8_iiri zr 8 3 zrc zrn), (cO10_vrrvvvvvvi h0 v0h0 tl nw v3h0 v4h0 v5h0 v6h0 v7h0 v8h0 tr2_10)] rfl ?_
      exact k_iret X hr dX10_words_85 (Nat.le_of_ble_eq_true rfl) (Nat.le_of_ble_eq_true rfl) [12, 0, 1, 2, 3, 11, 4, 5, 6, 7, 8, 9, 10] (by decide) rfl rfl ⟨tr2_10, rfl⟩
    · skip
      refine k_aload_n X dX10_words_38 2 rfl ?_
      refine k_get (ci := 10) X inlX10 rfl 1 (by decide) dX10_words_39 mw20 0 rfl rfl ?_
      refine k_get (ci := 3) X inlX3 rfl 3 (by decide) dX10_words_42 mw645 1 rfl rfl ?_
      refine k_iload_n X dX10_words_45 0 rfl ?_
      refine k_iconst (v := 0) X dX10_words_46 (by decide) ?_
      refine k_callVI (n := 2) (As := [.int u_4, .int 0]) (st := []) X [(cO8_iiri yhj 8 2 yhjc yhjn), (cAI g yhjc 16 yhjf)] [(cO10_vrrvvvvvvi h0 v0h0 tl nw v3h0 v4h0 v5h0 v6h0 v7h0 v8h0 tr), (cO3_vvvrvvvv tl v0tl v1tl v2tl yhj v4tl v5tl v6tl v7tl), (cO7_rrrrii nw zr zm zw zp zmd ztr), (cAI g zrc 24 zrf), (cO8_iiri zm 12 3 zmc zmn), (cAI g zmc 36 zmf), (cO8_iiri zw 6 3 zwc zwn), (cAI g zwc 18 zwf), (cO8_iiri zp 8 2 zpc zpn), (cAI g zpc 16 zpf), (cO8_iiri zr 8 3 zrc zrn)] [2, 3] [0, 1, 4, 5, 6, 7, 8, 9, 10, 11, 12] (t_at l g yhj u_4 0 8 2 yhjc yhjn 16 yhjf (tbk_8_2)) dX10_words_47 mw665 mw376 mw377 mw64 mw378 rfl 8 rfl rfl 0 _ rfl yk_yX8_at_2 rfl (Nat.le_of_ble_eq_true rfl) (Nat.le_of_ble_eq_true rfl) (Nat.le_of_ble_eq_true rfl) (Nat.le_of_ble_eq_true rfl) (Nat.le_of_ble_eq_true rfl) rfl rfl (by decide +kernel) rfl (by decide +kernel) (by decide +kernel) ?_
      rintro r_13 w ⟨hr_14, rfl⟩
      refine k_ws [(cO10_vrrvvvvvvi h0 v0h0 tl nw v3h0 v4h0 v5h0 v6h0 v7h0 v8h0 tr), (cO3_vvvrvvvv tl v0tl v1tl v2tl yhj v4tl v5tl v6tl v7tl), (cO7_rrrrii nw zr zm zw zp zmd ztr), (cAI g zrc 24 zrf), (cO8_iiri zm 12 3 zmc zmn), (cAI g zmc 36 zmf), (cO8_iiri zw 6 3 zwc zwn), (cAI g zwc 18 zwf), (cO8_iiri zp 8 2 zpc zpn), (cAI g zpc 16 zpf), (cO8_iiri zr 8 3 zrc zrn), (cO8_iiri yhj 8 2 yhjc yhjn), (cAI g yhjc 16 yhjf)] rfl ?_
      refine k_iload_n X dX10_words_50 3 rfl ?_
      refine k_ic_ne 74 X dX10_words_51 (by decide) (fun h_15 => ?_) (fun h_15 => ?_)
      · skip
        obtain ⟨z_16, ez_16⟩ : ∃ y : Int32, u_4 + Int32.ofInt 1 = y := ⟨_, rfl⟩
        refine k_iinc z_16 [(3, .int z_16), (2, .int u_5), (0, .ref h0), (1, .int p0)] 0 X dX10_words_74 rfl ez_16 (by decide) rfl ?_
        refine k_goto 24 X dX10_words_77 (by decide) ?_
        refine k_sub [(cO10_vrrvvvvvvi h0 v0h0 tl nw v3h0 v4h0 v5h0 v6h0 v7h0 v8h0 tr), (cO3_vvvrvvvv tl v0tl v1tl v2tl yhj v4tl v5tl v6tl v7tl), (cO8_iiri yhj 8 2 yhjc yhjn), (cAI g yhjc 16 yhjf), (cO7_rrrrii nw zr zm zw zp zmd ztr), (cAI g zrc 24 zrf), (cO8_iiri zm 12 3 zmc zmn), (cAI g zmc 36 zmf), (cO8_iiri zw 6 3 zwc zwn), (cAI g zwc 18 zwf), (cO8_iiri zp 8 2 zpc zpn), (cAI g zpc 16 zpf), (cO8_iiri zr 8 3 zrc zrn)] [0, 1, 11, 12, 2, 3, 4, 5, 6, 7, 8, 9, 10] rfl (by decide) rfl ?_
        exact ih_8 _ (by rw [← hm_7]; exact mu_lt (by assumption) (by assumption)) z_16 u_5 rfl 
      · skip
        refine k_aload_n X dX10_words_54 2 rfl ?_
        refine k_get (ci := 10) X inlX10 rfl 1 (by decide) dX10_words_55 mw20 0 rfl rfl ?_
        refine k_get (ci := 3) X inlX3 rfl 3 (by decide) dX10_words_58 mw645 1 rfl rfl ?_
        refine k_iload_n X dX10_words_61 0 rfl ?_
        refine k_iconst (v := 1) X dX10_words_62 (by decide) ?_
        refine k_callVI (n := 2) (As := [.int u_4, .int 1]) (st := []) X [(cO8_iiri yhj 8 2 yhjc yhjn), (cAI g yhjc 16 yhjf)] [(cO10_vrrvvvvvvi h0 v0h0 tl nw v3h0 v4h0 v5h0 v6h0 v7h0 v8h0 tr), (cO3_vvvrvvvv tl v0tl v1tl v2tl yhj v4tl v5tl v6tl v7tl), (cO7_rrrrii nw zr zm zw zp zmd ztr), (cAI g zrc 24 zrf), (cO8_iiri zm 12 3 zmc zmn), (cAI g zmc 36 zmf), (cO8_iiri zw 6 3 zwc zwn), (cAI g zwc 18 zwf), (cO8_iiri zp 8 2 zpc zpn), (cAI g zpc 16 zpf), (cO8_iiri zr 8 3 zrc zrn)] [11, 12] [0, 1, 2, 3, 4, 5, 6, 7, 8, 9, 10] (t_at l g yhj u_4 1 8 2 yhjc yhjn 16 yhjf (tbk_8_2)) dX10_words_63 mw665 mw376 mw377 mw64 mw378 rfl 8 rfl rfl 0 _ rfl yk_yX8_at_2 rfl (Nat.le_of_ble_eq_true rfl) (Nat.le_of_ble_eq_true rfl) (Nat.le_of_ble_eq_true rfl) (Nat.le_of_ble_eq_true rfl) (Nat.le_of_ble_eq_true rfl) rfl rfl (by decide +kernel) rfl (by decide +kernel) (by decide +kernel) ?_
        rintro r_17 w ⟨hr_18, rfl⟩
        refine k_ws [(cO10_vrrvvvvvvi h0 v0h0 tl nw v3h0 v4h0 v5h0 v6h0 v7h0 v8h0 tr), (cO3_vvvrvvvv tl v0tl v1tl v2tl yhj v4tl v5tl v6tl v7tl), (cO7_rrrrii nw zr zm zw zp zmd ztr), (cAI g zrc 24 zrf), (cO8_iiri zm 12 3 zmc zmn), (cAI g zmc 36 zmf), (cO8_iiri zw 6 3 zwc zwn), (cAI g zwc 18 zwf), (cO8_iiri zp 8 2 zpc zpn), (cAI g zpc 16 zpf), (cO8_iiri zr 8 3 zrc zrn), (cO8_iiri yhj 8 2 yhjc yhjn), (cAI g yhjc 16 yhjf)] rfl ?_
        refine k_bipush (v := 24) X dX10_words_66 (by decide) ?_
        refine k_ic_lt 74 X dX10_words_68 (by decide) (fun h_19 => ?_) (fun h_19 => ?_)
        · skip
          obtain ⟨z_20, ez_20⟩ : ∃ y : Int32, u_4 + Int32.ofInt 1 = y := ⟨_, rfl⟩
          refine k_iinc z_20 [(3, .int z_20), (2, .int u_5), (0, .ref h0), (1, .int p0)] 0 X dX10_words_74 rfl ez_20 (by decide) rfl ?_
          refine k_goto 24 X dX10_words_77 (by decide) ?_
          refine k_sub [(cO10_vrrvvvvvvi h0 v0h0 tl nw v3h0 v4h0 v5h0 v6h0 v7h0 v8h0 tr), (cO3_vvvrvvvv tl v0tl v1tl v2tl yhj v4tl v5tl v6tl v7tl), (cO8_iiri yhj 8 2 yhjc yhjn), (cAI g yhjc 16 yhjf), (cO7_rrrrii nw zr zm zw zp zmd ztr), (cAI g zrc 24 zrf), (cO8_iiri zm 12 3 zmc zmn), (cAI g zmc 36 zmf), (cO8_iiri zw 6 3 zwc zwn), (cAI g zwc 18 zwf), (cO8_iiri zp 8 2 zpc zpn), (cAI g zpc 16 zpf), (cO8_iiri zr 8 3 zrc zrn)] [0, 1, 11, 12, 2, 3, 4, 5, 6, 7, 8, 9, 10] rfl (by decide) rfl ?_
          exact ih_8 _ (by rw [← hm_7]; exact mu_lt (by assumption) (by assumption)) z_20 u_5 rfl 
        · skip
          obtain ⟨z_21, ez_21⟩ : ∃ y : Int32, u_5 + Int32.ofInt 1 = y := ⟨_, rfl⟩
          refine k_iinc z_21 [(2, .int z_21), (3, .int u_4), (0, .ref h0), (1, .int p0)] 1 X dX10_words_71 rfl ez_21 (by decide) rfl ?_
          obtain ⟨z_22, ez_22⟩ : ∃ y : Int32, u_4 + Int32.ofInt 1 = y := ⟨_, rfl⟩
          refine k_iinc z_22 [(3, .int z_22), (2, .int z_21), (0, .ref h0), (1, .int p0)] 1 X dX10_words_74 rfl ez_22 (by decide) rfl ?_
          refine k_goto 24 X dX10_words_77 (by decide) ?_
          refine k_sub [(cO10_vrrvvvvvvi h0 v0h0 tl nw v3h0 v4h0 v5h0 v6h0 v7h0 v8h0 tr), (cO3_vvvrvvvv tl v0tl v1tl v2tl yhj v4tl v5tl v6tl v7tl), (cO8_iiri yhj 8 2 yhjc yhjn), (cAI g yhjc 16 yhjf), (cO7_rrrrii nw zr zm zw zp zmd ztr), (cAI g zrc 24 zrf), (cO8_iiri zm 12 3 zmc zmn), (cAI g zmc 36 zmf), (cO8_iiri zw 6 3 zwc zwn), (cAI g zwc 18 zwf), (cO8_iiri zp 8 2 zpc zpn), (cAI g zpc 16 zpf), (cO8_iiri zr 8 3 zrc zrn)] [0, 1, 11, 12, 2, 3, 4, 5, 6, 7, 8, 9, 10] rfl (by decide) rfl ?_
          exact ih_8 _ (by rw [← hm_7]; exact mu_lt (by assumption) (by assumption)) z_22 z_21 rfl 
  · skip
    refine k_aload_n X dX10_words_14 0 rfl ?_
    refine k_iconst (v := 1) X dX10_words_15 (by decide) ?_
    refine k_callVI (n := 1) (As := [.int 1]) (st := []) X [(cO10_vrrvvvvvvi h0 v0h0 tl nw v3h0 v4h0 v5h0 v6h0 v7h0 v8h0 tr)] [(cO3_vvvrvvvv tl v0tl v1tl v2tl yhj v4tl v5tl v6tl v7tl), (cO8_iiri yhj 8 2 yhjc yhjn), (cAI g yhjc 16 yhjf), (cO7_rrrrii nw zr zm zw zp zmd ztr), (cAI g zrc 24 zrf), (cO8_iiri zm 12 3 zmc zmn), (cAI g zmc 36 zmf), (cO8_iiri zw 6 3 zwc zwn), (cAI g zwc 18 zwf), (cO8_iiri zp 8 2 zpc zpn), (cAI g zpc 16 zpf), (cO8_iiri zr 8 3 zrc zrn)] [0] [1, 2, 3, 4, 5, 6, 7, 8, 9, 10, 11, 12] (c_refuse l g h0 1 v0h0 (.ref tl) (.ref nw) v3h0 v4h0 v5h0 v6h0 v7h0 v8h0 tr) dX10_words_16 mw215 mw216 mw217 mw2 mw218 rfl 10 rfl rfl 0 _ rfl yk_yX10_refuse_1 rfl (Nat.le_of_ble_eq_true rfl) (Nat.le_of_ble_eq_true rfl) (Nat.le_of_ble_eq_true rfl) (Nat.le_of_ble_eq_true rfl) (Nat.le_of_ble_eq_true rfl) rfl rfl (by decide +kernel) rfl (by decide +kernel) (by decide +kernel) ?_
    rintro r_24 w ⟨tr2_23, rfl⟩
    refine k_ws [(cO3_vvvrvvvv tl v0tl v1tl v2tl yhj v4tl v5tl v6tl v7tl), (cO8_iiri yhj 8 2 yhjc yhjn), (cAI g yhjc 16 yhjf), (cO7_rrrrii nw zr zm zw zp zmd ztr), (cAI g zrc 24 zrf), (cO8_iiri zm 12 3 zmc zmn), (cAI g zmc 36 zmf), (cO8_iiri zw 6 3 zwc zwn), (cAI g zwc 18 zwf), (cO8_iiri zp 8 2 zpc zpn), (cAI g zpc 16 zpf), (cO8_iiri zr 8 3 zrc zrn), (cO10_vrrvvvvvvi h0 v0h0 tl nw v3h0 v4h0 v5h0 v6h0 v7h0 v8h0 tr2_23)] rfl ?_
    exact k_iret X hr dX10_words_19 (Nat.le_of_ble_eq_true rfl) (Nat.le_of_ble_eq_true rfl) [12, 0, 1, 2, 3, 11, 4, 5, 6, 7, 8, 9, 10] (by decide) rfl rfl ⟨tr2_23, rfl⟩

theorem dX10_holds_0 : decode cX10_holds 0 = .ok (.aload_n 0, 1) := dk_42 rfl
theorem dX10_holds_1 : decode cX10_holds 1 = .ok (.getfield 26, 3) := dk_180 rfl rfl rfl rfl
theorem dX10_holds_4 : decode cX10_holds 4 = .ok (.iload_n 1, 1) := dk_27 rfl
theorem dX10_holds_5 : decode cX10_holds 5 = .ok (.invokevirtual 273, 3) := dk_182 rfl rfl rfl rfl
theorem dX10_holds_8 : decode cX10_holds 8 = .ok (.ifCond .ne 10, 3) := dk_154 rfl rfl rfl (by decide)
theorem dX10_holds_11 : decode cX10_holds 11 = .ok (.aload_n 0, 1) := dk_42 rfl
theorem dX10_holds_12 : decode cX10_holds 12 = .ok (.iconst 1, 1) := dk_4 rfl
theorem dX10_holds_13 : decode cX10_holds 13 = .ok (.invokevirtual 83, 3) := dk_182 rfl rfl rfl rfl
theorem dX10_holds_16 : decode cX10_holds 16 = .ok (.i2l, 1) := dk_133 rfl
theorem dX10_holds_17 : decode cX10_holds 17 = .ok (.lreturn, 1) := dk_173 rfl
theorem dX10_holds_18 : decode cX10_holds 18 = .ok (.iload_n 2, 1) := dk_28 rfl
theorem dX10_holds_19 : decode cX10_holds 19 = .ok (.ifCond .lt 8, 3) := dk_155 rfl rfl rfl (by decide)
theorem dX10_holds_22 : decode cX10_holds 22 = .ok (.iload_n 2, 1) := dk_28 rfl
theorem dX10_holds_23 : decode cX10_holds 23 = .ok (.iconst 4, 1) := dk_7 rfl
theorem dX10_holds_24 : decode cX10_holds 24 = .ok (.if_icmp .le 10, 3) := dk_164 rfl rfl rfl (by decide)
theorem dX10_holds_27 : decode cX10_holds 27 = .ok (.aload_n 0, 1) := dk_42 rfl
theorem dX10_holds_28 : decode cX10_holds 28 = .ok (.iconst 2, 1) := dk_5 rfl
theorem dX10_holds_29 : decode cX10_holds 29 = .ok (.invokevirtual 83, 3) := dk_182 rfl rfl rfl rfl
theorem dX10_holds_32 : decode cX10_holds 32 = .ok (.i2l, 1) := dk_133 rfl
theorem dX10_holds_33 : decode cX10_holds 33 = .ok (.lreturn, 1) := dk_173 rfl
theorem dX10_holds_34 : decode cX10_holds 34 = .ok (.aload_n 0, 1) := dk_42 rfl
theorem dX10_holds_35 : decode cX10_holds 35 = .ok (.getfield 68, 3) := dk_180 rfl rfl rfl rfl
theorem dX10_holds_38 : decode cX10_holds 38 = .ok (.bipush 100, 2) := dk_16 rfl rfl (by decide)
theorem dX10_holds_40 : decode cX10_holds 40 = .ok (.aload_n 0, 1) := dk_42 rfl
theorem dX10_holds_41 : decode cX10_holds 41 = .ok (.getfield 26, 3) := dk_180 rfl rfl rfl rfl
theorem dX10_holds_44 : decode cX10_holds 44 = .ok (.getfield 144, 3) := dk_180 rfl rfl rfl rfl
theorem dX10_holds_47 : decode cX10_holds 47 = .ok (.iload_n 1, 1) := dk_27 rfl
theorem dX10_holds_48 : decode cX10_holds 48 = .ok (.iconst 2, 1) := dk_5 rfl
theorem dX10_holds_49 : decode cX10_holds 49 = .ok (.invokevirtual 147, 3) := dk_182 rfl rfl rfl rfl
theorem dX10_holds_52 : decode cX10_holds 52 = .ok (.isub, 1) := dk_100 rfl
theorem dX10_holds_53 : decode cX10_holds 53 = .ok (.bipush 100, 2) := dk_16 rfl rfl (by decide)
theorem dX10_holds_55 : decode cX10_holds 55 = .ok (.iload_n 2, 1) := dk_28 rfl
theorem dX10_holds_56 : decode cX10_holds 56 = .ok (.invokevirtual 276, 3) := dk_182 rfl rfl rfl rfl
theorem dX10_holds_59 : decode cX10_holds 59 = .ok (.aload_n 0, 1) := dk_42 rfl
theorem dX10_holds_60 : decode cX10_holds 60 = .ok (.iload_n 3, 1) := dk_29 rfl
theorem dX10_holds_61 : decode cX10_holds 61 = .ok (.invokevirtual 249, 3) := dk_182 rfl rfl rfl rfl
theorem dX10_holds_64 : decode cX10_holds 64 = .ok (.lreturn, 1) := dk_173 rfl
set_option maxHeartbeats 4000000 in
set_option maxRecDepth 100000 in
theorem c_holds (l : Launch) (g : Gx) (h0 : Nat) (p0 : Int32) (p1 : Int32) (p2 : Int32) (v0h0 : Value) (v1h0 : Value) (nw : Nat) (v3h0 : Value) (v4h0 : Value) (v5h0 : Value) (v6h0 : Value) (v7h0 : Value) (fr : Nat) (tr : Int32) (zr : Nat) (zm : Nat) (zw : Nat) (zp : Nat) (zmd : Int32) (ztr : Int32) (zrc : Nat) (zrn : Int32) (zrf : Nat → Int32) (zmc : Nat) (zmn : Int32) (zmf : Nat → Int32) (zwc : Nat) (zwn : Int32) (zwf : Nat → Int32) (zpc : Nat) (zpn : Int32) (zpf : Nat → Int32) (xu : Int64) (xv : Int64) : cL l g yX10_holds cX10_holds 4 (some .long) 2 48 0 0 [.ref h0, .int p0, .int p1, .int p2] [(cO10_vvrvvvvvri h0 v0h0 v1h0 nw v3h0 v4h0 v5h0 v6h0 v7h0 fr tr), (cO7_rrrrii nw zr zm zw zp zmd ztr), (cO8_iiri zr 8 3 zrc zrn), (cAI g zrc 24 zrf), (cO8_iiri zm 12 3 zmc zmn), (cAI g zmc 36 zmf), (cO8_iiri zw 6 3 zwc zwn), (cAI g zwc 18 zwf), (cO8_iiri zp 8 2 zpc zpn), (cAI g zpc 16 zpf), (cO2_ll fr xu xv)] (fun r w => ∃ (tr2 : Int32) (xu2 : Int64) (xv2 : Int64), w = [(cO10_vvrvvvvvri h0 v0h0 v1h0 nw v3h0 v4h0 v5h0 v6h0 v7h0 fr tr2), (cO7_rrrrii nw zr zm zw zp zmd ztr), (cO8_iiri zr 8 3 zrc zrn), (cAI g zrc 24 zrf), (cO8_iiri zm 12 3 zmc zmn), (cAI g zmc 36 zmf), (cO8_iiri zw 6 3 zwc zwn), (cAI g zwc 18 zwf), (cO8_iiri zp 8 2 zpc zpn), (cAI g zpc 16 zpf), (cO2_ll fr xu2 xv2)]) := by
  refine cL.of (by decide) (Nat.le_of_ble_eq_true rfl) ?_
  intro p e s m args below meth c A X hr hi
  refine k_lveq [(0, .ref h0), (1, .int p0), (2, .int p1), (3, .int p2)] rfl ?_
  refine k_aload_n X dX10_holds_0 0 rfl ?_
  refine k_get (ci := 10) X inlX10 rfl 2 (by decide) dX10_holds_1 mw24 0 rfl rfl ?_
  refine k_iload_n X dX10_holds_4 1 rfl ?_
  refine k_callVI (n := 1) (As := [.int p0]) (st := []) X [(cO7_rrrrii nw zr zm zw zp zmd ztr), (cO8_iiri zw 6 3 zwc zwn), (cAI g zwc 18 zwf)] [(cO10_vvrvvvvvri h0 v0h0 v1h0 nw v3h0 v4h0 v5h0 v6h0 v7h0 fr tr), (cO8_iiri zr 8 3 zrc zrn), (cAI g zrc 24 zrf), (cO8_iiri zm 12 3 zmc zmn), (cAI g zmc 36 zmf), (cO8_iiri zp 8 2 zpc zpn), (cAI g zpc 16 zpf), (cO2_ll fr xu xv)] [1, 6, 7] [0, 2, 3, 4, 5, 8, 9, 10] (s_isWeak l g nw p0 (.ref zr) (.ref zm) zw (.ref zp) zmd ztr zwc zwn zwf) dX10_holds_5 mw1243 mw661 mw662 mw23 mw663 rfl 7 rfl rfl 0 _ rfl yk_yX7_isWeak_1 rfl (Nat.le_of_ble_eq_true rfl) (Nat.le_of_ble_eq_true rfl) (Nat.le_of_ble_eq_true rfl) (Nat.le_of_ble_eq_true rfl) (Nat.le_of_ble_eq_true rfl) rfl rfl (by decide) rfl (by decide) (by decide) ?_
  rintro r_1 w rfl
  refine k_ws [(cO10_vvrvvvvvri h0 v0h0 v1h0 nw v3h0 v4h0 v5h0 v6h0 v7h0 fr tr), (cO8_iiri zr 8 3 zrc zrn), (cAI g zrc 24 zrf), (cO8_iiri zm 12 3 zmc zmn), (cAI g zmc 36 zmf), (cO8_iiri zp 8 2 zpc zpn), (cAI g zpc 16 zpf), (cO2_ll fr xu xv), (cO7_rrrrii nw zr zm zw zp zmd ztr), (cO8_iiri zw 6 3 zwc zwn), (cAI g zwc 18 zwf)] rfl ?_
  refine k_if_ne 18 X dX10_holds_8 (by decide) (fun h_3 => ?_) (fun h_3 => ?_)
  · skip
    refine k_iload_n X dX10_holds_18 2 rfl ?_
    refine k_if_lt 27 X dX10_holds_19 (by decide) (fun h_4 => ?_) (fun h_4 => ?_)
    · skip
      refine k_aload_n X dX10_holds_27 0 rfl ?_
      refine k_iconst (v := 2) X dX10_holds_28 (by decide) ?_
      refine k_callVI (n := 1) (As := [.int 2]) (st := []) X [(cO10_vvrvvvvvri h0 v0h0 v1h0 nw v3h0 v4h0 v5h0 v6h0 v7h0 fr tr)] [(cO8_iiri zr 8 3 zrc zrn), (cAI g zrc 24 zrf), (cO8_iiri zm 12 3 zmc zmn), (cAI g zmc 36 zmf), (cO8_iiri zp 8 2 zpc zpn), (cAI g zpc 16 zpf), (cO2_ll fr xu xv), (cO7_rrrrii nw zr zm zw zp zmd ztr), (cO8_iiri zw 6 3 zwc zwn), (cAI g zwc 18 zwf)] [0] [1, 2, 3, 4, 5, 6, 7, 8, 9, 10] (c_refuse l g h0 2 v0h0 v1h0 (.ref nw) v3h0 v4h0 v5h0 v6h0 v7h0 (.ref fr) tr) dX10_holds_29 mw215 mw216 mw217 mw2 mw218 rfl 10 rfl rfl 0 _ rfl yk_yX10_refuse_1 rfl (Nat.le_of_ble_eq_true rfl) (Nat.le_of_ble_eq_true rfl) (Nat.le_of_ble_eq_true rfl) (Nat.le_of_ble_eq_true rfl) (Nat.le_of_ble_eq_true rfl) rfl rfl (by decide) rfl (by decide) (by decide) ?_
      rintro r_6 w ⟨tr2_5, rfl⟩
      refine k_ws [(cO8_iiri zr 8 3 zrc zrn), (cAI g zrc 24 zrf), (cO8_iiri zm 12 3 zmc zmn), (cAI g zmc 36 zmf), (cO8_iiri zp 8 2 zpc zpn), (cAI g zpc 16 zpf), (cO2_ll fr xu xv), (cO7_rrrrii nw zr zm zw zp zmd ztr), (cO8_iiri zw 6 3 zwc zwn), (cAI g zwc 18 zwf), (cO10_vvrvvvvvri h0 v0h0 v1h0 nw v3h0 v4h0 v5h0 v6h0 v7h0 fr tr2_5)] rfl ?_
      refine k_i2l X dX10_holds_32 ?_
      refine k_nmL (fun y_8 ey_8 => ?_)
      exact k_lret X hr dX10_holds_33 (Nat.le_of_ble_eq_true rfl) (Nat.le_of_ble_eq_true rfl) [10, 7, 0, 1, 2, 3, 8, 9, 4, 5, 6] (by decide) rfl rfl ⟨tr2_5, xu, xv, rfl⟩
    · skip
      refine k_iload_n X dX10_holds_22 2 rfl ?_
      refine k_iconst (v := 4) X dX10_holds_23 (by decide) ?_
      refine k_ic_le 34 X dX10_holds_24 (by decide) (fun h_9 => ?_) (fun h_9 => ?_)
      · skip
        refine k_aload_n X dX10_holds_34 0 rfl ?_
        refine k_get (ci := 10) X inlX10 rfl 8 (by decide) dX10_holds_35 mw48 0 rfl rfl ?_
        refine k_bipush (v := 100) X dX10_holds_38 (by decide) ?_
        refine k_aload_n X dX10_holds_40 0 rfl ?_
        refine k_get (ci := 10) X inlX10 rfl 2 (by decide) dX10_holds_41 mw24 0 rfl rfl ?_
        refine k_get (ci := 7) X inlX7 rfl 2 (by decide) dX10_holds_44 mw646 8 rfl rfl ?_
        refine k_iload_n X dX10_holds_47 1 rfl ?_
        refine k_iconst (v := 2) X dX10_holds_48 (by decide) ?_
        refine k_callVI (n := 2) (As := [.int p0, .int 2]) (st := [.int 100, .ref fr]) X [(cO8_iiri zw 6 3 zwc zwn), (cAI g zwc 18 zwf)] [(cO10_vvrvvvvvri h0 v0h0 v1h0 nw v3h0 v4h0 v5h0 v6h0 v7h0 fr tr), (cO8_iiri zr 8 3 zrc zrn), (cAI g zrc 24 zrf), (cO8_iiri zm 12 3 zmc zmn), (cAI g zmc 36 zmf), (cO8_iiri zp 8 2 zpc zpn), (cAI g zpc 16 zpf), (cO2_ll fr xu xv), (cO7_rrrrii nw zr zm zw zp zmd ztr)] [9, 10] [0, 1, 2, 3, 4, 5, 6, 7, 8] (t_at l g zw p0 2 6 3 zwc zwn 18 zwf (tbk_6_3)) dX10_holds_49 mw665 mw376 mw377 mw64 mw378 rfl 8 rfl rfl 0 _ rfl yk_yX8_at_2 rfl (Nat.le_of_ble_eq_true rfl) (Nat.le_of_ble_eq_true rfl) (Nat.le_of_ble_eq_true rfl) (Nat.le_of_ble_eq_true rfl) (Nat.le_of_ble_eq_true rfl) rfl rfl (by decide) rfl (by decide) (by decide) ?_
        rintro r_10 w ⟨hr_11, rfl⟩
        refine k_ws [(cO10_vvrvvvvvri h0 v0h0 v1h0 nw v3h0 v4h0 v5h0 v6h0 v7h0 fr tr), (cO8_iiri zr 8 3 zrc zrn), (cAI g zrc 24 zrf), (cO8_iiri zm 12 3 zmc zmn), (cAI g zmc 36 zmf), (cO8_iiri zp 8 2 zpc zpn), (cAI g zpc 16 zpf), (cO2_ll fr xu xv), (cO7_rrrrii nw zr zm zw zp zmd ztr), (cO8_iiri zw 6 3 zwc zwn), (cAI g zwc 18 zwf)] rfl ?_
        refine k_isub X dX10_holds_52 ?_
        refine k_nm (fun z_12 ez_12 => ?_)
        refine k_bipush (v := 100) X dX10_holds_53 (by decide) ?_
        refine k_iload_n X dX10_holds_55 2 rfl ?_
        refine k_callVV (n := 3) (As := [.int z_12, .int 100, .int p1]) (st := []) X [(cO2_ll fr xu xv)] [(cO10_vvrvvvvvri h0 v0h0 v1h0 nw v3h0 v4h0 v5h0 v6h0 v7h0 fr tr), (cO8_iiri zr 8 3 zrc zrn), (cAI g zrc 24 zrf), (cO8_iiri zm 12 3 zmc zmn), (cAI g zmc 36 zmf), (cO8_iiri zp 8 2 zpc zpn), (cAI g zpc 16 zpf), (cO7_rrrrii nw zr zm zw zp zmd ztr), (cO8_iiri zw 6 3 zwc zwn), (cAI g zwc 18 zwf)] [7] [0, 1, 2, 3, 4, 5, 6, 8, 9, 10] (f_setPower l g fr z_12 100 p1 xu xv) dX10_holds_56 mw1244 mw1245 mw1246 mw47 mw1247 rfl 2 rfl rfl 0 _ rfl yk_yX2_setPower_3 rfl (Nat.le_of_ble_eq_true rfl) (Nat.le_of_ble_eq_true rfl) (Nat.le_of_ble_eq_true rfl) (Nat.le_of_ble_eq_true rfl) (Nat.le_of_ble_eq_true rfl) rfl rfl (by decide) rfl (by decide) (by decide) ?_
        rintro w ⟨xu2_13, xv2_14, rfl⟩
        refine k_ws [(cO10_vvrvvvvvri h0 v0h0 v1h0 nw v3h0 v4h0 v5h0 v6h0 v7h0 fr tr), (cO8_iiri zr 8 3 zrc zrn), (cAI g zrc 24 zrf), (cO8_iiri zm 12 3 zmc zmn), (cAI g zmc 36 zmf), (cO8_iiri zp 8 2 zpc zpn), (cAI g zpc 16 zpf), (cO7_rrrrii nw zr zm zw zp zmd ztr), (cO8_iiri zw 6 3 zwc zwn), (cAI g zwc 18 zwf), (cO2_ll fr xu2_13 xv2_14)] rfl ?_
        refine k_aload_n X dX10_holds_59 0 rfl ?_
        refine k_iload_n X dX10_holds_60 3 rfl ?_
        refine k_callVL (n := 1) (As := [.int p2]) (st := []) X [(cO10_vvrvvvvvri h0 v0h0 v1h0 nw v3h0 v4h0 v5h0 v6h0 v7h0 fr tr), (cO2_ll fr xu2_13 xv2_14)] [(cO8_iiri zr 8 3 zrc zrn), (cAI g zrc 24 zrf), (cO8_iiri zm 12 3 zmc zmn), (cAI g zmc 36 zmf), (cO8_iiri zp 8 2 zpc zpn), (cAI g zpc 16 zpf), (cO7_rrrrii nw zr zm zw zp zmd ztr), (cO8_iiri zw 6 3 zwc zwn), (cAI g zwc 18 zwf)] [0, 10] [1, 2, 3, 4, 5, 6, 7, 8, 9] (c_tellPart l g h0 p2 v0h0 v1h0 (.ref nw) v3h0 v4h0 v5h0 v6h0 v7h0 fr tr xu2_13 xv2_14) dX10_holds_61 mw1141 mw1142 mw1143 mw2 mw1144 rfl 10 rfl rfl 0 _ rfl yk_yX10_tellPart_1 rfl (Nat.le_of_ble_eq_true rfl) (Nat.le_of_ble_eq_true rfl) (Nat.le_of_ble_eq_true rfl) (Nat.le_of_ble_eq_true rfl) (Nat.le_of_ble_eq_true rfl) rfl rfl (by decide) rfl (by decide) (by decide) ?_
        rintro r_20 w ⟨tr2_17, xu2_18, xv2_19, rfl⟩
        refine k_ws [(cO8_iiri zr 8 3 zrc zrn), (cAI g zrc 24 zrf), (cO8_iiri zm 12 3 zmc zmn), (cAI g zmc 36 zmf), (cO8_iiri zp 8 2 zpc zpn), (cAI g zpc 16 zpf), (cO7_rrrrii nw zr zm zw zp zmd ztr), (cO8_iiri zw 6 3 zwc zwn), (cAI g zwc 18 zwf), (cO10_vvrvvvvvri h0 v0h0 v1h0 nw v3h0 v4h0 v5h0 v6h0 v7h0 fr tr2_17), (cO2_ll fr xu2_18 xv2_19)] rfl ?_
        exact k_lret X hr dX10_holds_64 (Nat.le_of_ble_eq_true rfl) (Nat.le_of_ble_eq_true rfl) [9, 6, 0, 1, 2, 3, 7, 8, 4, 5, 10] (by decide) rfl rfl ⟨tr2_17, xu2_18, xv2_19, rfl⟩
      · skip
        refine k_aload_n X dX10_holds_27 0 rfl ?_
        refine k_iconst (v := 2) X dX10_holds_28 (by decide) ?_
        refine k_callVI (n := 1) (As := [.int 2]) (st := []) X [(cO10_vvrvvvvvri h0 v0h0 v1h0 nw v3h0 v4h0 v5h0 v6h0 v7h0 fr tr)] [(cO8_iiri zr 8 3 zrc zrn), (cAI g zrc 24 zrf), (cO8_iiri zm 12 3 zmc zmn), (cAI g zmc 36 zmf), (cO8_iiri zp 8 2 zpc zpn), (cAI g zpc 16 zpf), (cO2_ll fr xu xv), (cO7_rrrrii nw zr zm zw zp zmd ztr), (cO8_iiri zw 6 3 zwc zwn), (cAI g zwc 18 zwf)] [0] [1, 2, 3, 4, 5, 6, 7, 8, 9, 10] (c_refuse l g h0 2 v0h0 v1h0 (.ref nw) v3h0 v4h0 v5h0 v6h0 v7h0 (.ref fr) tr) dX10_holds_29 mw215 mw216 mw217 mw2 mw218 rfl 10 rfl rfl 0 _ rfl yk_yX10_refuse_1 rfl (Nat.le_of_ble_eq_true rfl) (Nat.le_of_ble_eq_true rfl) (Nat.le_of_ble_eq_true rfl) (Nat.le_of_ble_eq_true rfl) (Nat.le_of_ble_eq_true rfl) rfl rfl (by decide) rfl (by decide) (by decide) ?_
        rintro r_23 w ⟨tr2_22, rfl⟩
        refine k_ws [(cO8_iiri zr 8 3 zrc zrn), (cAI g zrc 24 zrf), (cO8_iiri zm 12 3 zmc zmn), (cAI g zmc 36 zmf), (cO8_iiri zp 8 2 zpc zpn), (cAI g zpc 16 zpf), (cO2_ll fr xu xv), (cO7_rrrrii nw zr zm zw zp zmd ztr), (cO8_iiri zw 6 3 zwc zwn), (cAI g zwc 18 zwf), (cO10_vvrvvvvvri h0 v0h0 v1h0 nw v3h0 v4h0 v5h0 v6h0 v7h0 fr tr2_22)] rfl ?_
        refine k_i2l X dX10_holds_32 ?_
        refine k_nmL (fun y_25 ey_25 => ?_)
        exact k_lret X hr dX10_holds_33 (Nat.le_of_ble_eq_true rfl) (Nat.le_of_ble_eq_true rfl) [10, 7, 0, 1, 2, 3, 8, 9, 4, 5, 6] (by decide) rfl rfl ⟨tr2_22, xu, xv, rfl⟩
  · skip
    refine k_aload_n X dX10_holds_11 0 rfl ?_
    refine k_iconst (v := 1) X dX10_holds_12 (by decide) ?_
    refine k_callVI (n := 1) (As := [.int 1]) (st := []) X [(cO10_vvrvvvvvri h0 v0h0 v1h0 nw v3h0 v4h0 v5h0 v6h0 v7h0 fr tr)] [(cO8_iiri zr 8 3 zrc zrn), (cAI g zrc 24 zrf), (cO8_iiri zm 12 3 zmc zmn), (cAI g zmc 36 zmf), (cO8_iiri zp 8 2 zpc zpn), (cAI g zpc 16 zpf), (cO2_ll fr xu xv), (cO7_rrrrii nw zr zm zw zp zmd ztr), (cO8_iiri zw 6 3 zwc zwn), (cAI g zwc 18 zwf)] [0] [1, 2, 3, 4, 5, 6, 7, 8, 9, 10] (c_refuse l g h0 1 v0h0 v1h0 (.ref nw) v3h0 v4h0 v5h0 v6h0 v7h0 (.ref fr) tr) dX10_holds_13 mw215 mw216 mw217 mw2 mw218 rfl 10 rfl rfl 0 _ rfl yk_yX10_refuse_1 rfl (Nat.le_of_ble_eq_true rfl) (Nat.le_of_ble_eq_true rfl) (Nat.le_of_ble_eq_true rfl) (Nat.le_of_ble_eq_true rfl) (Nat.le_of_ble_eq_true rfl) rfl rfl (by decide) rfl (by decide) (by decide) ?_
    rintro r_27 w ⟨tr2_26, rfl⟩
    refine k_ws [(cO8_iiri zr 8 3 zrc zrn), (cAI g zrc 24 zrf), (cO8_iiri zm 12 3 zmc zmn), (cAI g zmc 36 zmf), (cO8_iiri zp 8 2 zpc zpn), (cAI g zpc 16 zpf), (cO2_ll fr xu xv), (cO7_rrrrii nw zr zm zw zp zmd ztr), (cO8_iiri zw 6 3 zwc zwn), (cAI g zwc 18 zwf), (cO10_vvrvvvvvri h0 v0h0 v1h0 nw v3h0 v4h0 v5h0 v6h0 v7h0 fr tr2_26)] rfl ?_
    refine k_i2l X dX10_holds_16 ?_
    refine k_nmL (fun y_29 ey_29 => ?_)
    exact k_lret X hr dX10_holds_17 (Nat.le_of_ble_eq_true rfl) (Nat.le_of_ble_eq_true rfl) [10, 7, 0, 1, 2, 3, 8, 9, 4, 5, 6] (by decide) rfl rfl ⟨tr2_26, xu, xv, rfl⟩

theorem dX10_pays_0 : decode cX10_pays 0 = .ok (.aload_n 0, 1) := dk_42 rfl
theorem dX10_pays_1 : decode cX10_pays 1 = .ok (.getfield 26, 3) := dk_180 rfl rfl rfl rfl
theorem dX10_pays_4 : decode cX10_pays 4 = .ok (.iload_n 1, 1) := dk_27 rfl
theorem dX10_pays_5 : decode cX10_pays 5 = .ok (.invokevirtual 273, 3) := dk_182 rfl rfl rfl rfl
theorem dX10_pays_8 : decode cX10_pays 8 = .ok (.ifCond .ne 9, 3) := dk_154 rfl rfl rfl (by decide)
theorem dX10_pays_11 : decode cX10_pays 11 = .ok (.aload_n 0, 1) := dk_42 rfl
theorem dX10_pays_12 : decode cX10_pays 12 = .ok (.iconst 1, 1) := dk_4 rfl
theorem dX10_pays_13 : decode cX10_pays 13 = .ok (.invokevirtual 83, 3) := dk_182 rfl rfl rfl rfl
theorem dX10_pays_16 : decode cX10_pays 16 = .ok (.ireturn, 1) := dk_172 rfl
theorem dX10_pays_17 : decode cX10_pays 17 = .ok (.iload_n 2, 1) := dk_28 rfl
theorem dX10_pays_18 : decode cX10_pays 18 = .ok (.ifCond .lt 8, 3) := dk_155 rfl rfl rfl (by decide)
theorem dX10_pays_21 : decode cX10_pays 21 = .ok (.iload_n 2, 1) := dk_28 rfl
theorem dX10_pays_22 : decode cX10_pays 22 = .ok (.iconst 4, 1) := dk_7 rfl
theorem dX10_pays_23 : decode cX10_pays 23 = .ok (.if_icmp .le 9, 3) := dk_164 rfl rfl rfl (by decide)
theorem dX10_pays_26 : decode cX10_pays 26 = .ok (.aload_n 0, 1) := dk_42 rfl
theorem dX10_pays_27 : decode cX10_pays 27 = .ok (.iconst 2, 1) := dk_5 rfl
theorem dX10_pays_28 : decode cX10_pays 28 = .ok (.invokevirtual 83, 3) := dk_182 rfl rfl rfl rfl
theorem dX10_pays_31 : decode cX10_pays 31 = .ok (.ireturn, 1) := dk_172 rfl
theorem dX10_pays_32 : decode cX10_pays 32 = .ok (.aload_n 0, 1) := dk_42 rfl
theorem dX10_pays_33 : decode cX10_pays 33 = .ok (.getfield 68, 3) := dk_180 rfl rfl rfl rfl
theorem dX10_pays_36 : decode cX10_pays 36 = .ok (.bipush 100, 2) := dk_16 rfl rfl (by decide)
theorem dX10_pays_38 : decode cX10_pays 38 = .ok (.aload_n 0, 1) := dk_42 rfl
theorem dX10_pays_39 : decode cX10_pays 39 = .ok (.getfield 26, 3) := dk_180 rfl rfl rfl rfl
theorem dX10_pays_42 : decode cX10_pays 42 = .ok (.getfield 144, 3) := dk_180 rfl rfl rfl rfl
theorem dX10_pays_45 : decode cX10_pays 45 = .ok (.iload_n 1, 1) := dk_27 rfl
theorem dX10_pays_46 : decode cX10_pays 46 = .ok (.iconst 2, 1) := dk_5 rfl
theorem dX10_pays_47 : decode cX10_pays 47 = .ok (.invokevirtual 147, 3) := dk_182 rfl rfl rfl rfl
theorem dX10_pays_50 : decode cX10_pays 50 = .ok (.isub, 1) := dk_100 rfl
theorem dX10_pays_51 : decode cX10_pays 51 = .ok (.bipush 100, 2) := dk_16 rfl rfl (by decide)
theorem dX10_pays_53 : decode cX10_pays 53 = .ok (.iload_n 2, 1) := dk_28 rfl
theorem dX10_pays_54 : decode cX10_pays 54 = .ok (.invokevirtual 276, 3) := dk_182 rfl rfl rfl rfl
theorem dX10_pays_57 : decode cX10_pays 57 = .ok (.aload_n 0, 1) := dk_42 rfl
theorem dX10_pays_58 : decode cX10_pays 58 = .ok (.getfield 68, 3) := dk_180 rfl rfl rfl rfl
theorem dX10_pays_61 : decode cX10_pays 61 = .ok (.getfield 280, 3) := dk_180 rfl rfl rfl rfl
theorem dX10_pays_64 : decode cX10_pays 64 = .ok (.aload_n 0, 1) := dk_42 rfl
theorem dX10_pays_65 : decode cX10_pays 65 = .ok (.getfield 68, 3) := dk_180 rfl rfl rfl rfl
theorem dX10_pays_68 : decode cX10_pays 68 = .ok (.getfield 284, 3) := dk_180 rfl rfl rfl rfl
theorem dX10_pays_71 : decode cX10_pays 71 = .ok (.lsub, 1) := dk_101 rfl
theorem dX10_pays_72 : decode cX10_pays 72 = .ok (.lstore_n 3, 1) := dk_66 rfl
theorem dX10_pays_73 : decode cX10_pays 73 = .ok (.aload_n 0, 1) := dk_42 rfl
theorem dX10_pays_74 : decode cX10_pays 74 = .ok (.aload_n 0, 1) := dk_42 rfl
theorem dX10_pays_75 : decode cX10_pays 75 = .ok (.getfield 19, 3) := dk_180 rfl rfl rfl rfl
theorem dX10_pays_78 : decode cX10_pays 78 = .ok (.iconst 5, 1) := dk_8 rfl
theorem dX10_pays_79 : decode cX10_pays 79 = .ok (.invokevirtual 287, 3) := dk_182 rfl rfl rfl rfl
theorem dX10_pays_82 : decode cX10_pays 82 = .ok (.i2l, 1) := dk_133 rfl
theorem dX10_pays_83 : decode cX10_pays 83 = .ok (.lload_n 3, 1) := dk_33 rfl
theorem dX10_pays_84 : decode cX10_pays 84 = .ok (.lmul, 1) := dk_105 rfl
theorem dX10_pays_85 : decode cX10_pays 85 = .ok (.ldc2_w 290, 3) := dk_20 rfl rfl rfl rfl
theorem dX10_pays_88 : decode cX10_pays 88 = .ok (.aload_n 0, 1) := dk_42 rfl
theorem dX10_pays_89 : decode cX10_pays 89 = .ok (.getfield 68, 3) := dk_180 rfl rfl rfl rfl
theorem dX10_pays_92 : decode cX10_pays 92 = .ok (.getfield 280, 3) := dk_180 rfl rfl rfl rfl
theorem dX10_pays_95 : decode cX10_pays 95 = .ok (.lmul, 1) := dk_105 rfl
theorem dX10_pays_96 : decode cX10_pays 96 = .ok (.lcmp, 1) := dk_148 rfl
theorem dX10_pays_97 : decode cX10_pays 97 = .ok (.ifCond .le 7, 3) := by decide +kernel
theorem dX10_pays_100 : decode cX10_pays 100 = .ok (.iconst 1, 1) := by decide +kernel
theorem dX10_pays_101 : decode cX10_pays 101 = .ok (.goto 4, 3) := by decide +kernel
theorem dX10_pays_104 : decode cX10_pays 104 = .ok (.iconst 0, 1) := by decide +kernel
theorem dX10_pays_105 : decode cX10_pays 105 = .ok (.invokevirtual 118, 3) := by decide +kernel
theorem dX10_pays_108 : decode cX10_pays 108 = .ok (.ireturn, 1) := by decide +kernel
set_option maxHeartbeats 4000000 in
set_option maxRecDepth 100000 in
theorem c_pays (l : Launch) (g : Gx) (h0 : Nat) (p0 : Int32) (p1 : Int32) (v0h0 : Value) (tl : Nat) (nw : Nat) (v3h0 : Value) (v4h0 : Value) (v5h0 : Value) (v6h0 : Value) (v7h0 : Value) (fr : Nat) (tr : Int32) (v0tl : Value) (yhn : Nat) (v2tl : Value) (v3tl : Value) (v4tl : Value) (v5tl : Value) (v6tl : Value) (v7tl : Value) (yhnc : Nat) (yhnn : Int32) (yhnf : Nat → Int32) (zr : Nat) (zm : Nat) (zw : Nat) (zp : Nat) (zmd : Int32) (ztr : Int32) (zrc : Nat) (zrn : Int32) (zrf : Nat → Int32) (zmc : Nat) (zmn : Int32) (zmf : Nat → Int32) (zwc : Nat) (zwn : Int32) (zwf : Nat → Int32) (zpc : Nat) (zpn : Int32) (zpf : Nat → Int32) (xu : Int64) (xv : Int64) : cI l g yX10_pays cX10_pays 5 (some .int) 2 43 0 0 [.ref h0, .int p0, .int p1] [(cO10_vrrvvvvvri h0 v0h0 tl nw v3h0 v4h0 v5h0 v6h0 v7h0 fr tr), (cO3_vrvvvvvv tl v0tl yhn v2tl v3tl v4tl v5tl v6tl v7tl), (cO8_iiri yhn 1 6 yhnc yhnn), (cAI g yhnc 6 yhnf), (cO7_rrrrii nw zr zm zw zp zmd ztr), (cO8_iiri zr 8 3 zrc zrn), (cAI g zrc 24 zrf), (cO8_iiri zm 12 3 zmc zmn), (cAI g zmc 36 zmf), (cO8_iiri zw 6 3 zwc zwn), (cAI g zwc 18 zwf), (cO8_iiri zp 8 2 zpc zpn), (cAI g zpc 16 zpf), (cO2_ll fr xu xv)] (fun r w => ∃ (tr2 : Int32) (xu2 : Int64) (xv2 : Int64), w = [(cO10_vrrvvvvvri h0 v0h0 tl nw v3h0 v4h0 v5h0 v6h0 v7h0 fr tr2), (cO3_vrvvvvvv tl v0tl yhn v2tl v3tl v4tl v5tl v6tl v7tl), (cO8_iiri yhn 1 6 yhnc yhnn), (cAI g yhnc 6 yhnf), (cO7_rrrrii nw zr zm zw zp zmd ztr), (cO8_iiri zr 8 3 zrc zrn), (cAI g zrc 24 zrf), (cO8_iiri zm 12 3 zmc zmn), (cAI g zmc 36 zmf), (cO8_iiri zw 6 3 zwc zwn), (cAI g zwc 18 zwf), (cO8_iiri zp 8 2 zpc zpn), (cAI g zpc 16 zpf), (cO2_ll fr xu2 xv2)]) := by
  refine cI.of (by decide) (Nat.le_of_ble_eq_true rfl) ?_
  intro p e s m args below meth c A X hr hi
  refine k_lveq [(0, .ref h0), (1, .int p0), (2, .int p1)] rfl ?_
  refine k_aload_n X dX10_pays_0 0 rfl ?_
  refine k_get (ci := 10) X inlX10 rfl 2 (by decide) dX10_pays_1 mw24 0 rfl rfl ?_
  refine k_iload_n X dX10_pays_4 1 rfl ?_
  refine k_callVI (n := 1) (As := [.int p0]) (st := []) X [(cO7_rrrrii nw zr zm zw zp zmd ztr), (cO8_iiri zw 6 3 zwc zwn), (cAI g zwc 18 zwf)] [(cO10_vrrvvvvvri h0 v0h0 tl nw v3h0 v4h0 v5h0 v6h0 v7h0 fr tr), (cO3_vrvvvvvv tl v0tl yhn v2tl v3tl v4tl v5tl v6tl v7tl), (cO8_iiri yhn 1 6 yhnc yhnn), (cAI g yhnc 6 yhnf), (cO8_iiri zr 8 3 zrc zrn), (cAI g zrc 24 zrf), (cO8_iiri zm 12 3 zmc zmn), (cAI g zmc 36 zmf), (cO8_iiri zp 8 2 zpc zpn), (cAI g zpc 16 zpf), (cO2_ll fr xu xv)] [4, 9, 10] [0, 1, 2, 3, 5, 6, 7, 8, 11, 12, 13] (s_isWeak l g nw p0 (.ref zr) (.ref zm) zw (.ref zp) zmd ztr zwc zwn zwf) dX10_pays_5 mw1243 mw661 mw662 mw23 mw663 rfl 7 rfl rfl 0 _ rfl yk_yX7_isWeak_1 rfl (Nat.le_of_ble_eq_true rfl) (Nat.le_of_ble_eq_true rfl) (Nat.le_of_ble_eq_true rfl) (Nat.le_of_ble_eq_true rfl) (Nat.le_of_ble_eq_true rfl) rfl rfl (by decide +kernel) rfl (by decide +kernel) (by decide +kernel) ?_
  rintro r_1 w rfl
  refine k_ws [(cO10_vrrvvvvvri h0 v0h0 tl nw v3h0 v4h0 v5h0 v6h0 v7h0 fr tr), (cO3_vrvvvvvv tl v0tl yhn v2tl v3tl v4tl v5tl v6tl v7tl), (cO8_iiri yhn 1 6 yhnc yhnn), (cAI g yhnc 6 yhnf), (cO8_iiri zr 8 3 zrc zrn), (cAI g zrc 24 zrf), (cO8_iiri zm 12 3 zmc zmn), (cAI g zmc 36 zmf), (cO8_iiri zp 8 2 zpc zpn), (cAI g zpc 16 zpf), (cO2_ll fr xu xv), (cO7_rrrrii nw zr zm zw zp zmd ztr), (cO8_iiri zw 6 3 zwc zwn), (cAI g zwc 18 zwf)] rfl ?_
  refine k_if_ne 17 X dX10_pays_8 (by decide) (fun h_3 => ?_) (fun h_3 => ?_)
  · skip
    refine k_iload_n X dX10_pays_17 2 rfl ?_
    refine k_if_lt 26 X dX10_pays_18 (by decide) (fun h_4 => ?_) (fun h_4 => ?_)
    · skip
      refine k_aload_n X dX10_pays_26 0 rfl ?_
      refine k_iconst (v := 2) X dX10_pays_27 (by decide) ?_
      refine k_callVI (n := 1) (As := [.int 2]) (st := []) X [(cO10_vrrvvvvvri h0 v0h0 tl nw v3h0 v4h0 v5h0 v6h0 v7h0 fr tr)] [(cO3_vrvvvvvv tl v0tl yhn v2tl v3tl v4tl v5tl v6tl v7tl), (cO8_iiri yhn 1 6 yhnc yhnn), (cAI g yhnc 6 yhnf), (cO8_iiri zr 8 3 zrc zrn), (cAI g zrc 24 zrf), (cO8_iiri zm 12 3 zmc zmn), (cAI g zmc 36 zmf), (cO8_iiri zp 8 2 zpc zpn), (cAI g zpc 16 zpf), (cO2_ll fr xu xv), (cO7_rrrrii nw zr zm zw zp zmd ztr), (cO8_iiri zw 6 3 zwc zwn), (cAI g zwc 18 zwf)] [0] [1, 2, 3, 4, 5, 6, 7, 8, 9, 10, 11, 12, 13] (c_refuse l g h0 2 v0h0 (.ref tl) (.ref nw) v3h0 v4h0 v5h0 v6h0 v7h0 (.ref fr) tr) dX10_pays_28 mw215 mw216 mw217 mw2 mw218 rfl 10 rfl rfl 0 _ rfl yk_yX10_refuse_1 rfl (Nat.le_of_ble_eq_true rfl) (Nat.le_of_ble_eq_true rfl) (Nat.le_of_ble_eq_true rfl) (Nat.le_of_ble_eq_true rfl) (Nat.le_of_ble_eq_true rfl) rfl rfl (by decide +kernel) rfl (by decide +kernel) (by decide +kernel) ?_
      rintro r_6 w ⟨tr2_5, rfl⟩
      refine k_ws [(cO3_vrvvvvvv tl v0tl yhn v2tl v3tl v4tl v5tl v6tl v7tl), (cO8_iiri yhn 1 6 yhnc yhnn), (cAI g yhnc 6 yhnf), (cO8_iiri zr 8 3 zrc zrn), (cAI g zrc 24 zrf), (cO8_iiri zm 12 3 zmc zmn), (cAI g zmc 36 zmf), (cO8_iiri zp 8 2 zpc zpn), (cAI g zpc 16 zpf), (cO2_ll fr xu xv), (cO7_rrrrii nw zr zm zw zp zmd ztr), (cO8_iiri zw 6 3 zwc zwn), (cAI g zwc 18 zwf), (cO10_vrrvvvvvri h0 v0h0 tl nw v3h0 v4h0 v5h0 v6h0 v7h0 fr tr2_5)] rfl ?_
      exact k_iret X hr dX10_pays_31 (Nat.le_of_ble_eq_true rfl) (Nat.le_of_ble_eq_true rfl) [13, 0, 1, 2, 10, 3, 4, 5, 6, 11, 12, 7, 8, 9] (by decide) rfl rfl ⟨tr2_5, xu, xv, rfl⟩
    · skip
      refine k_iload_n X dX10_pays_21 2 rfl ?_
      refine k_iconst (v := 4) X dX10_pays_22 (by decide) ?_
      refine k_ic_le 32 X dX10_pays_23 (by decide) (fun h_8 => ?_) (fun h_8 => ?_)
      · skip
        refine k_aload_n X dX10_pays_32 0 rfl ?_
        refine k_get (ci := 10) X inlX10 rfl 8 (by decide) dX10_pays_33 mw48 0 rfl rfl ?_
        refine k_bipush (v := 100) X dX10_pays_36 (by decide) ?_
        refine k_aload_n X dX10_pays_38 0 rfl ?_
        refine k_get (ci := 10) X inlX10 rfl 2 (by decide) dX10_pays_39 mw24 0 rfl rfl ?_
        refine k_get (ci := 7) X inlX7 rfl 2 (by decide) dX10_pays_42 mw646 11 rfl rfl ?_
        refine k_iload_n X dX10_pays_45 1 rfl ?_
        refine k_iconst (v := 2) X dX10_pays_46 (by decide) ?_
        refine k_callVI (n := 2) (As := [.int p0, .int 2]) (st := [.int 100, .ref fr]) X [(cO8_iiri zw 6 3 zwc zwn), (cAI g zwc 18 zwf)] [(cO10_vrrvvvvvri h0 v0h0 tl nw v3h0 v4h0 v5h0 v6h0 v7h0 fr tr), (cO3_vrvvvvvv tl v0tl yhn v2tl v3tl v4tl v5tl v6tl v7tl), (cO8_iiri yhn 1 6 yhnc yhnn), (cAI g yhnc 6 yhnf), (cO8_iiri zr 8 3 zrc zrn), (cAI g zrc 24 zrf), (cO8_iiri zm 12 3 zmc zmn), (cAI g zmc 36 zmf), (cO8_iiri zp 8 2 zpc zpn), (cAI g zpc 16 zpf), (cO2_ll fr xu xv), (cO7_rrrrii nw zr zm zw zp zmd ztr)] [12, 13] [0, 1, 2, 3, 4, 5, 6, 7, 8, 9, 10, 11] (t_at l g zw p0 2 6 3 zwc zwn 18 zwf (tbk_6_3)) dX10_pays_47 mw665 mw376 mw377 mw64 mw378 rfl 8 rfl rfl 0 _ rfl yk_yX8_at_2 rfl (Nat.le_of_ble_eq_true rfl) (Nat.le_of_ble_eq_true rfl) (Nat.le_of_ble_eq_true rfl) (Nat.le_of_ble_eq_true rfl) (Nat.le_of_ble_eq_true rfl) rfl rfl (by decide +kernel) rfl (by decide +kernel) (by decide +kernel) ?_
        rintro r_9 w ⟨hr_10, rfl⟩
        refine k_ws [(cO10_vrrvvvvvri h0 v0h0 tl nw v3h0 v4h0 v5h0 v6h0 v7h0 fr tr), (cO3_vrvvvvvv tl v0tl yhn v2tl v3tl v4tl v5tl v6tl v7tl), (cO8_iiri yhn 1 6 yhnc yhnn), (cAI g yhnc 6 yhnf), (cO8_iiri zr 8 3 zrc zrn), (cAI g zrc 24 zrf), (cO8_iiri zm 12 3 zmc zmn), (cAI g zmc 36 zmf), (cO8_iiri zp 8 2 zpc zpn), (cAI g zpc 16 zpf), (cO2_ll fr xu xv), (cO7_rrrrii nw zr zm zw zp zmd ztr), (cO8_iiri zw 6 3 zwc zwn), (cAI g zwc 18 zwf)] rfl ?_
        refine k_isub X dX10_pays_50 ?_
        refine k_nm (fun z_11 ez_11 => ?_)
        refine k_bipush (v := 100) X dX10_pays_51 (by decide) ?_
        refine k_iload_n X dX10_pays_53 2 rfl ?_
        refine k_callVV (n := 3) (As := [.int z_11, .int 100, .int p1]) (st := []) X [(cO2_ll fr xu xv)] [(cO10_vrrvvvvvri h0 v0h0 tl nw v3h0 v4h0 v5h0 v6h0 v7h0 fr tr), (cO3_vrvvvvvv tl v0tl yhn v2tl v3tl v4tl v5tl v6tl v7tl), (cO8_iiri yhn 1 6 yhnc yhnn), (cAI g yhnc 6 yhnf), (cO8_iiri zr 8 3 zrc zrn), (cAI g zrc 24 zrf), (cO8_iiri zm 12 3 zmc zmn), (cAI g zmc 36 zmf), (cO8_iiri zp 8 2 zpc zpn), (cAI g zpc 16 zpf), (cO7_rrrrii nw zr zm zw zp zmd ztr), (cO8_iiri zw 6 3 zwc zwn), (cAI g zwc 18 zwf)] [10] [0, 1, 2, 3, 4, 5, 6, 7, 8, 9, 11, 12, 13] (f_setPower l g fr z_11 100 p1 xu xv) dX10_pays_54 mw1244 mw1245 mw1246 mw47 mw1247 rfl 2 rfl rfl 0 _ rfl yk_yX2_setPower_3 rfl (Nat.le_of_ble_eq_true rfl) (Nat.le_of_ble_eq_true rfl) (Nat.le_of_ble_eq_true rfl) (Nat.le_of_ble_eq_true rfl) (Nat.le_of_ble_eq_true rfl) rfl rfl (by decide +kernel) rfl (by decide +kernel) (by decide +kernel) ?_
        rintro w ⟨xu2_12, xv2_13, rfl⟩
        refine k_ws [(cO10_vrrvvvvvri h0 v0h0 tl nw v3h0 v4h0 v5h0 v6h0 v7h0 fr tr), (cO3_vrvvvvvv tl v0tl yhn v2tl v3tl v4tl v5tl v6tl v7tl), (cO8_iiri yhn 1 6 yhnc yhnn), (cAI g yhnc 6 yhnf), (cO8_iiri zr 8 3 zrc zrn), (cAI g zrc 24 zrf), (cO8_iiri zm 12 3 zmc zmn), (cAI g zmc 36 zmf), (cO8_iiri zp 8 2 zpc zpn), (cAI g zpc 16 zpf), (cO7_rrrrii nw zr zm zw zp zmd ztr), (cO8_iiri zw 6 3 zwc zwn), (cAI g zwc 18 zwf), (cO2_ll fr xu2_12 xv2_13)] rfl ?_
        refine k_aload_n X dX10_pays_57 0 rfl ?_
        refine k_get (ci := 10) X inlX10 rfl 8 (by decide) dX10_pays_58 mw48 0 rfl rfl ?_
        refine k_get (ci := 2) X inlX2 rfl 1 (by decide) dX10_pays_61 mw1145 13 rfl rfl ?_
        refine k_aload_n X dX10_pays_64 0 rfl ?_
        refine k_get (ci := 10) X inlX10 rfl 8 (by decide) dX10_pays_65 mw48 0 rfl rfl ?_
        refine k_get (ci := 2) X inlX2 rfl 0 (by decide) dX10_pays_68 mw1146 13 rfl rfl ?_
        refine k_lsub X dX10_pays_71 ?_
        refine k_nmL (fun y_16 ey_16 => ?_)
        refine k_lstore_n [(3, .long y_16), (0, .ref h0), (1, .int p0), (2, .int p1)] X dX10_pays_72 (by decide) rfl ?_
        refine k_aload_n X dX10_pays_73 1 rfl ?_
        refine k_aload_n X dX10_pays_74 1 rfl ?_
        refine k_get (ci := 10) X inlX10 rfl 1 (by decide) dX10_pays_75 mw20 0 rfl rfl ?_
        refine k_iconst (v := 5) X dX10_pays_78 (by decide) ?_
        refine k_callVI (n := 1) (As := [.int 5]) (st := [.ref h0]) X [(cO3_vrvvvvvv tl v0tl yhn v2tl v3tl v4tl v5tl v6tl v7tl), (cO8_iiri yhn 1 6 yhnc yhnn), (cAI g yhnc 6 yhnf)] [(cO10_vrrvvvvvri h0 v0h0 tl nw v3h0 v4h0 v5h0 v6h0 v7h0 fr tr), (cO8_iiri zr 8 3 zrc zrn), (cAI g zrc 24 zrf), (cO8_iiri zm 12 3 zmc zmn), (cAI g zmc 36 zmf), (cO8_iiri zp 8 2 zpc zpn), (cAI g zpc 16 zpf), (cO7_rrrrii nw zr zm zw zp zmd ztr), (cO8_iiri zw 6 3 zwc zwn), (cAI g zwc 18 zwf), (cO2_ll fr xu2_12 xv2_13)] [1, 2, 3] [0, 4, 5, 6, 7, 8, 9, 10, 11, 12, 13] (h_number l g tl 5 v0tl yhn v2tl v3tl v4tl v5tl v6tl v7tl yhnc yhnn yhnf) dX10_pays_79 mw1264 mw415 mw416 mw19 mw417 rfl 3 rfl rfl 0 _ rfl yk_yX3_number_1 rfl (Nat.le_of_ble_eq_true rfl) (Nat.le_of_ble_eq_true rfl) (Nat.le_of_ble_eq_true rfl) (Nat.le_of_ble_eq_true rfl) (Nat.le_of_ble_eq_true rfl) rfl rfl (by decide +kernel) rfl (by decide +kernel) (by decide +kernel) ?_
        rintro r_17 w rfl
        refine k_ws [(cO10_vrrvvvvvri h0 v0h0 tl nw v3h0 v4h0 v5h0 v6h0 v7h0 fr tr), (cO8_iiri zr 8 3 zrc zrn), (cAI g zrc 24 zrf), (cO8_iiri zm 12 3 zmc zmn), (cAI g zmc 36 zmf), (cO8_iiri zp 8 2 zpc zpn), (cAI g zpc 16 zpf), (cO7_rrrrii nw zr zm zw zp zmd ztr), (cO8_iiri zw 6 3 zwc zwn), (cAI g zwc 18 zwf), (cO2_ll fr xu2_12 xv2_13), (cO3_vrvvvvvv tl v0tl yhn v2tl v3tl v4tl v5tl v6tl v7tl), (cO8_iiri yhn 1 6 yhnc yhnn), (cAI g yhnc 6 yhnf)] rfl ?_
        refine k_i2l X dX10_pays_82 ?_
        refine k_nmL (fun y_19 ey_19 => ?_)
        refine k_lload_n X dX10_pays_83 0 rfl ?_
        refine k_lmul X dX10_pays_84 ?_
        refine k_nmL (fun y_20 ey_20 => ?_)
        refine k_ldc2 (v := 2) X dX10_pays_85 mw1263 ?_
        refine k_aload_n X dX10_pays_88 1 rfl ?_
        refine k_get (ci := 10) X inlX10 rfl 8 (by decide) dX10_pays_89 mw48 0 rfl rfl ?_
        refine k_get (ci := 2) X inlX2 rfl 1 (by decide) dX10_pays_92 mw1145 10 rfl rfl ?_
        refine k_lmul X dX10_pays_95 ?_
        refine k_nmL (fun y_21 ey_21 => ?_)
        refine k_lcmp X dX10_pays_96 ?_
        refine k_nm (fun z_22 ez_22 => ?_)
        refine k_if_le 104 X dX10_pays_97 (by decide) (fun h_23 => ?_) (fun h_23 => ?_)
        · skip
          refine k_iconst (v := 0) X dX10_pays_104 (by decide) ?_
          refine k_callVI (n := 1) (As := [.int 0]) (st := []) X [(cO10_vrrvvvvvri h0 v0h0 tl nw v3h0 v4h0 v5h0 v6h0 v7h0 fr tr)] [(cO8_iiri zr 8 3 zrc zrn), (cAI g zrc 24 zrf), (cO8_iiri zm 12 3 zmc zmn), (cAI g zmc 36 zmf), (cO8_iiri zp 8 2 zpc zpn), (cAI g zpc 16 zpf), (cO7_rrrrii nw zr zm zw zp zmd ztr), (cO8_iiri zw 6 3 zwc zwn), (cAI g zwc 18 zwf), (cO2_ll fr xu2_12 xv2_13), (cO3_vrvvvvvv tl v0tl yhn v2tl v3tl v4tl v5tl v6tl v7tl), (cO8_iiri yhn 1 6 yhnc yhnn), (cAI g yhnc 6 yhnf)] [0] [1, 2, 3, 4, 5, 6, 7, 8, 9, 10, 11, 12, 13] (c_tell l g h0 0 v0h0 (.ref tl) (.ref nw) v3h0 v4h0 v5h0 v6h0 v7h0 (.ref fr) tr) dX10_pays_105 mw460 mw461 mw462 mw2 mw463 rfl 10 rfl rfl 0 _ rfl yk_yX10_tell_1 rfl (Nat.le_of_ble_eq_true rfl) (Nat.le_of_ble_eq_true rfl) (Nat.le_of_ble_eq_true rfl) (Nat.le_of_ble_eq_true rfl) (Nat.le_of_ble_eq_true rfl) rfl rfl (by decide +kernel) rfl (by decide +kernel) (by decide +kernel) ?_
          rintro r_25 w ⟨tr2_24, rfl⟩
          refine k_ws [(cO8_iiri zr 8 3 zrc zrn), (cAI g zrc 24 zrf), (cO8_iiri zm 12 3 zmc zmn), (cAI g zmc 36 zmf), (cO8_iiri zp 8 2 zpc zpn), (cAI g zpc 16 zpf), (cO7_rrrrii nw zr zm zw zp zmd ztr), (cO8_iiri zw 6 3 zwc zwn), (cAI g zwc 18 zwf), (cO2_ll fr xu2_12 xv2_13), (cO3_vrvvvvvv tl v0tl yhn v2tl v3tl v4tl v5tl v6tl v7tl), (cO8_iiri yhn 1 6 yhnc yhnn), (cAI g yhnc 6 yhnf), (cO10_vrrvvvvvri h0 v0h0 tl nw v3h0 v4h0 v5h0 v6h0 v7h0 fr tr2_24)] rfl ?_
          exact k_iret X hr dX10_pays_108 (Nat.le_of_ble_eq_true rfl) (Nat.le_of_ble_eq_true rfl) [13, 10, 11, 12, 6, 0, 1, 2, 3, 7, 8, 4, 5, 9] (by decide) rfl rfl ⟨tr2_24, xu2_12, xv2_13, rfl⟩
        · skip
          refine k_iconst (v := 1) X dX10_pays_100 (by decide) ?_
          refine k_goto 105 X dX10_pays_101 (by decide) ?_
          refine k_callVI (n := 1) (As := [.int 1]) (st := []) X [(cO10_vrrvvvvvri h0 v0h0 tl nw v3h0 v4h0 v5h0 v6h0 v7h0 fr tr)] [(cO8_iiri zr 8 3 zrc zrn), (cAI g zrc 24 zrf), (cO8_iiri zm 12 3 zmc zmn), (cAI g zmc 36 zmf), (cO8_iiri zp 8 2 zpc zpn), (cAI g zpc 16 zpf), (cO7_rrrrii nw zr zm zw zp zmd ztr), (cO8_iiri zw 6 3 zwc zwn), (cAI g zwc 18 zwf), (cO2_ll fr xu2_12 xv2_13), (cO3_vrvvvvvv tl v0tl yhn v2tl v3tl v4tl v5tl v6tl v7tl), (cO8_iiri yhn 1 6 yhnc yhnn), (cAI g yhnc 6 yhnf)] [0] [1, 2, 3, 4, 5, 6, 7, 8, 9, 10, 11, 12, 13] (c_tell l g h0 1 v0h0 (.ref tl) (.ref nw) v3h0 v4h0 v5h0 v6h0 v7h0 (.ref fr) tr) dX10_pays_105 mw460 mw461 mw462 mw2 mw463 rfl 10 rfl rfl 0 _ rfl yk_yX10_tell_1 rfl (Nat.le_of_ble_eq_true rfl) (Nat.le_of_ble_eq_true rfl) (Nat.le_of_ble_eq_true rfl) (Nat.le_of_ble_eq_true rfl) (Nat.le_of_ble_eq_true rfl) rfl rfl (by decide +kernel) rfl (by decide +kernel) (by decide +kernel) ?_
          rintro r_28 w ⟨tr2_27, rfl⟩
          refine k_ws [(cO8_iiri zr 8 3 zrc zrn), (cAI g zrc 24 zrf), (cO8_iiri zm 12 3 zmc zmn), (cAI g zmc 36 zmf), (cO8_iiri zp 8 2 zpc zpn), (cAI g zpc 16 zpf), (cO7_rrrrii nw zr zm zw zp zmd ztr), (cO8_iiri zw 6 3 zwc zwn), (cAI g zwc 18 zwf), (cO2_ll fr xu2_12 xv2_13), (cO3_vrvvvvvv tl v0tl yhn v2tl v3tl v4tl v5tl v6tl v7tl), (cO8_iiri yhn 1 6 yhnc yhnn), (cAI g yhnc 6 yhnf), (cO10_vrrvvvvvri h0 v0h0 tl nw v3h0 v4h0 v5h0 v6h0 v7h0 fr tr2_27)] rfl ?_
          exact k_iret X hr dX10_pays_108 (Nat.le_of_ble_eq_true rfl) (Nat.le_of_ble_eq_true rfl) [13, 10, 11, 12, 6, 0, 1, 2, 3, 7, 8, 4, 5, 9] (by decide) rfl rfl ⟨tr2_27, xu2_12, xv2_13, rfl⟩
      · skip
        refine k_aload_n X dX10_pays_26 0 rfl ?_
        refine k_iconst (v := 2) X dX10_pays_27 (by decide) ?_
        refine k_callVI (n := 1) (As := [.int 2]) (st := []) X [(cO10_vrrvvvvvri h0 v0h0 tl nw v3h0 v4h0 v5h0 v6h0 v7h0 fr tr)] [(cO3_vrvvvvvv tl v0tl yhn v2tl v3tl v4tl v5tl v6tl v7tl), (cO8_iiri yhn 1 6 yhnc yhnn), (cAI g yhnc 6 yhnf), (cO8_iiri zr 8 3 zrc zrn), (cAI g zrc 24 zrf), (cO8_iiri zm 12 3 zmc zmn), (cAI g zmc 36 zmf), (cO8_iiri zp 8 2 zpc zpn), (cAI g zpc 16 zpf), (cO2_ll fr xu xv), (cO7_rrrrii nw zr zm zw zp zmd ztr), (cO8_iiri zw 6 3 zwc zwn), (cAI g zwc 18 zwf)] [0] [1, 2, 3, 4, 5, 6, 7, 8, 9, 10, 11, 12, 13] (c_refuse l g h0 2 v0h0 (.ref tl) (.ref nw) v3h0 v4h0 v5h0 v6h0 v7h0 (.ref fr) tr) dX10_pays_28 mw215 mw216 mw217 mw2 mw218 rfl 10 rfl rfl 0 _ rfl yk_yX10_refuse_1 rfl (Nat.le_of_ble_eq_true rfl) (Nat.le_of_ble_eq_true rfl) (Nat.le_of_ble_eq_true rfl) (Nat.le_of_ble_eq_true rfl) (Nat.le_of_ble_eq_true rfl) rfl rfl (by decide +kernel) rfl (by decide +kernel) (by decide +kernel) ?_
        rintro r_31 w ⟨tr2_30, rfl⟩
        refine k_ws [(cO3_vrvvvvvv tl v0tl yhn v2tl v3tl v4tl v5tl v6tl v7tl), (cO8_iiri yhn 1 6 yhnc yhnn), (cAI g yhnc 6 yhnf), (cO8_iiri zr 8 3 zrc zrn), (cAI g zrc 24 zrf), (cO8_iiri zm 12 3 zmc zmn), (cAI g zmc 36 zmf), (cO8_iiri zp 8 2 zpc zpn), (cAI g zpc 16 zpf), (cO2_ll fr xu xv), (cO7_rrrrii nw zr zm zw zp zmd ztr), (cO8_iiri zw 6 3 zwc zwn), (cAI g zwc 18 zwf), (cO10_vrrvvvvvri h0 v0h0 tl nw v3h0 v4h0 v5h0 v6h0 v7h0 fr tr2_30)] rfl ?_
        exact k_iret X hr dX10_pays_31 (Nat.le_of_ble_eq_true rfl) (Nat.le_of_ble_eq_true rfl) [13, 0, 1, 2, 10, 3, 4, 5, 6, 11, 12, 7, 8, 9] (by decide) rfl rfl ⟨tr2_30, xu, xv, rfl⟩
  · skip
    refine k_aload_n X dX10_pays_11 0 rfl ?_
    refine k_iconst (v := 1) X dX10_pays_12 (by decide) ?_
    refine k_callVI (n := 1) (As := [.int 1]) (st := []) X [(cO10_vrrvvvvvri h0 v0h0 tl nw v3h0 v4h0 v5h0 v6h0 v7h0 fr tr)] [(cO3_vrvvvvvv tl v0tl yhn v2tl v3tl v4tl v5tl v6tl v7tl), (cO8_iiri yhn 1 6 yhnc yhnn), (cAI g yhnc 6 yhnf), (cO8_iiri zr 8 3 zrc zrn), (cAI g zrc 24 zrf), (cO8_iiri zm 12 3 zmc zmn), (cAI g zmc 36 zmf), (cO8_iiri zp 8 2 zpc zpn), (cAI g zpc 16 zpf), (cO2_ll fr xu xv), (cO7_rrrrii nw zr zm zw zp zmd ztr), (cO8_iiri zw 6 3 zwc zwn), (cAI g zwc 18 zwf)] [0] [1, 2, 3, 4, 5, 6, 7, 8, 9, 10, 11, 12, 13] (c_refuse l g h0 1 v0h0 (.ref tl) (.ref nw) v3h0 v4h0 v5h0 v6h0 v7h0 (.ref fr) tr) dX10_pays_13 mw215 mw216 mw217 mw2 mw218 rfl 10 rfl rfl 0 _ rfl yk_yX10_refuse_1 rfl (Nat.le_of_ble_eq_true rfl) (Nat.le_of_ble_eq_true rfl) (Nat.le_of_ble_eq_true rfl) (Nat.le_of_ble_eq_true rfl) (Nat.le_of_ble_eq_true rfl) rfl rfl (by decide +kernel) rfl (by decide +kernel) (by decide +kernel) ?_
    rintro r_34 w ⟨tr2_33, rfl⟩
    refine k_ws [(cO3_vrvvvvvv tl v0tl yhn v2tl v3tl v4tl v5tl v6tl v7tl), (cO8_iiri yhn 1 6 yhnc yhnn), (cAI g yhnc 6 yhnf), (cO8_iiri zr 8 3 zrc zrn), (cAI g zrc 24 zrf), (cO8_iiri zm 12 3 zmc zmn), (cAI g zmc 36 zmf), (cO8_iiri zp 8 2 zpc zpn), (cAI g zpc 16 zpf), (cO2_ll fr xu xv), (cO7_rrrrii nw zr zm zw zp zmd ztr), (cO8_iiri zw 6 3 zwc zwn), (cAI g zwc 18 zwf), (cO10_vrrvvvvvri h0 v0h0 tl nw v3h0 v4h0 v5h0 v6h0 v7h0 fr tr2_33)] rfl ?_
    exact k_iret X hr dX10_pays_16 (Nat.le_of_ble_eq_true rfl) (Nat.le_of_ble_eq_true rfl) [13, 0, 1, 2, 10, 3, 4, 5, 6, 11, 12, 7, 8, 9] (by decide) rfl rfl ⟨tr2_33, xu, xv, rfl⟩

theorem dX10_wears_0 : decode cX10_wears 0 = .ok (.aload_n 0, 1) := dk_42 rfl
theorem dX10_wears_1 : decode cX10_wears 1 = .ok (.getfield 26, 3) := dk_180 rfl rfl rfl rfl
theorem dX10_wears_4 : decode cX10_wears 4 = .ok (.getfield 124, 3) := dk_180 rfl rfl rfl rfl
theorem dX10_wears_7 : decode cX10_wears 7 = .ok (.iload_n 1, 1) := dk_27 rfl
theorem dX10_wears_8 : decode cX10_wears 8 = .ok (.invokevirtual 127, 3) := dk_182 rfl rfl rfl rfl
theorem dX10_wears_11 : decode cX10_wears 11 = .ok (.ifCond .ne 10, 3) := dk_154 rfl rfl rfl (by decide)
theorem dX10_wears_14 : decode cX10_wears 14 = .ok (.aload_n 0, 1) := dk_42 rfl
theorem dX10_wears_15 : decode cX10_wears 15 = .ok (.iconst 1, 1) := dk_4 rfl
theorem dX10_wears_16 : decode cX10_wears 16 = .ok (.invokevirtual 83, 3) := dk_182 rfl rfl rfl rfl
theorem dX10_wears_19 : decode cX10_wears 19 = .ok (.i2l, 1) := dk_133 rfl
theorem dX10_wears_20 : decode cX10_wears 20 = .ok (.lreturn, 1) := dk_173 rfl
theorem dX10_wears_21 : decode cX10_wears 21 = .ok (.iload_n 2, 1) := dk_28 rfl
theorem dX10_wears_22 : decode cX10_wears 22 = .ok (.ifCond .lt 9, 3) := dk_155 rfl rfl rfl (by decide)
theorem dX10_wears_25 : decode cX10_wears 25 = .ok (.iload_n 2, 1) := dk_28 rfl
theorem dX10_wears_26 : decode cX10_wears 26 = .ok (.bipush 99, 2) := dk_16 rfl rfl (by decide)
theorem dX10_wears_28 : decode cX10_wears 28 = .ok (.if_icmp .le 10, 3) := dk_164 rfl rfl rfl (by decide)
theorem dX10_wears_31 : decode cX10_wears 31 = .ok (.aload_n 0, 1) := dk_42 rfl
theorem dX10_wears_32 : decode cX10_wears 32 = .ok (.iconst 2, 1) := dk_5 rfl
theorem dX10_wears_33 : decode cX10_wears 33 = .ok (.invokevirtual 83, 3) := dk_182 rfl rfl rfl rfl
theorem dX10_wears_36 : decode cX10_wears 36 = .ok (.i2l, 1) := dk_133 rfl
theorem dX10_wears_37 : decode cX10_wears 37 = .ok (.lreturn, 1) := dk_173 rfl
theorem dX10_wears_38 : decode cX10_wears 38 = .ok (.iconst 0, 1) := dk_3 rfl
theorem dX10_wears_39 : decode cX10_wears 39 = .ok (.istore 4, 2) := dk_54 rfl rfl rfl
theorem dX10_wears_41 : decode cX10_wears 41 = .ok (.iconst 0, 1) := dk_3 rfl
theorem dX10_wears_42 : decode cX10_wears 42 = .ok (.istore 5, 2) := dk_54 rfl rfl rfl
theorem dX10_wears_44 : decode cX10_wears 44 = .ok (.iload 5, 2) := dk_21 rfl rfl rfl
theorem dX10_wears_46 : decode cX10_wears 46 = .ok (.aload_n 0, 1) := dk_42 rfl
theorem dX10_wears_47 : decode cX10_wears 47 = .ok (.getfield 26, 3) := dk_180 rfl rfl rfl rfl
theorem dX10_wears_50 : decode cX10_wears 50 = .ok (.getfield 144, 3) := dk_180 rfl rfl rfl rfl
theorem dX10_wears_53 : decode cX10_wears 53 = .ok (.getfield 113, 3) := dk_180 rfl rfl rfl rfl
theorem dX10_wears_56 : decode cX10_wears 56 = .ok (.if_icmp .ge 56, 3) := dk_162 rfl rfl rfl (by decide)
theorem dX10_wears_59 : decode cX10_wears 59 = .ok (.aload_n 0, 1) := dk_42 rfl
theorem dX10_wears_60 : decode cX10_wears 60 = .ok (.getfield 26, 3) := dk_180 rfl rfl rfl rfl
theorem dX10_wears_63 : decode cX10_wears 63 = .ok (.iload 5, 2) := dk_21 rfl rfl rfl
theorem dX10_wears_65 : decode cX10_wears 65 = .ok (.invokevirtual 273, 3) := dk_182 rfl rfl rfl rfl
theorem dX10_wears_68 : decode cX10_wears 68 = .ok (.ifCond .eq 38, 3) := dk_153 rfl rfl rfl (by decide)
theorem dX10_wears_71 : decode cX10_wears 71 = .ok (.aload_n 0, 1) := dk_42 rfl
theorem dX10_wears_72 : decode cX10_wears 72 = .ok (.getfield 26, 3) := dk_180 rfl rfl rfl rfl
theorem dX10_wears_75 : decode cX10_wears 75 = .ok (.getfield 144, 3) := dk_180 rfl rfl rfl rfl
theorem dX10_wears_78 : decode cX10_wears 78 = .ok (.iload 5, 2) := dk_21 rfl rfl rfl
theorem dX10_wears_80 : decode cX10_wears 80 = .ok (.iconst 0, 1) := dk_3 rfl
theorem dX10_wears_81 : decode cX10_wears 81 = .ok (.invokevirtual 147, 3) := dk_182 rfl rfl rfl rfl
theorem dX10_wears_84 : decode cX10_wears 84 = .ok (.iload_n 1, 1) := dk_27 rfl
theorem dX10_wears_85 : decode cX10_wears 85 = .ok (.if_icmp .ne 21, 3) := dk_160 rfl rfl rfl (by decide)
theorem dX10_wears_88 : decode cX10_wears 88 = .ok (.iload 4, 2) := dk_21 rfl rfl rfl
theorem dX10_wears_90 : decode cX10_wears 90 = .ok (.aload_n 0, 1) := dk_42 rfl
theorem dX10_wears_91 : decode cX10_wears 91 = .ok (.getfield 26, 3) := dk_180 rfl rfl rfl rfl
theorem dX10_wears_94 : decode cX10_wears 94 = .ok (.getfield 144, 3) := dk_180 rfl rfl rfl rfl
theorem dX10_wears_97 : decode cX10_wears 97 = .ok (.iload 5, 2) := by decide +kernel
theorem dX10_wears_99 : decode cX10_wears 99 = .ok (.iconst 2, 1) := by decide +kernel
theorem dX10_wears_100 : decode cX10_wears 100 = .ok (.invokevirtual 147, 3) := by decide +kernel
theorem dX10_wears_103 : decode cX10_wears 103 = .ok (.iadd, 1) := by decide +kernel
theorem dX10_wears_104 : decode cX10_wears 104 = .ok (.istore 4, 2) := by decide +kernel
theorem dX10_wears_106 : decode cX10_wears 106 = .ok (.iinc 5 1, 3) := by decide +kernel
theorem dX10_wears_109 : decode cX10_wears 109 = .ok (.goto (-65), 3) := by decide +kernel
theorem dX10_wears_112 : decode cX10_wears 112 = .ok (.aload_n 0, 1) := by decide +kernel
theorem dX10_wears_113 : decode cX10_wears 113 = .ok (.getfield 68, 3) := by decide +kernel
theorem dX10_wears_116 : decode cX10_wears 116 = .ok (.iconst 2, 1) := by decide +kernel
theorem dX10_wears_117 : decode cX10_wears 117 = .ok (.iload_n 2, 1) := by decide +kernel
theorem dX10_wears_118 : decode cX10_wears 118 = .ok (.imul, 1) := by decide +kernel
theorem dX10_wears_119 : decode cX10_wears 119 = .ok (.iload 4, 2) := by decide +kernel
theorem dX10_wears_121 : decode cX10_wears 121 = .ok (.imul, 1) := by decide +kernel
theorem dX10_wears_122 : decode cX10_wears 122 = .ok (.i2l, 1) := by decide +kernel
theorem dX10_wears_123 : decode cX10_wears 123 = .ok (.ldc2_w 292, 3) := by decide +kernel
theorem dX10_wears_126 : decode cX10_wears 126 = .ok (.invokevirtual 245, 3) := by decide +kernel
theorem dX10_wears_129 : decode cX10_wears 129 = .ok (.aload_n 0, 1) := by decide +kernel
theorem dX10_wears_130 : decode cX10_wears 130 = .ok (.iload_n 3, 1) := by decide +kernel
theorem dX10_wears_131 : decode cX10_wears 131 = .ok (.invokevirtual 249, 3) := by decide +kernel
theorem dX10_wears_134 : decode cX10_wears 134 = .ok (.lreturn, 1) := by decide +kernel
set_option maxHeartbeats 4000000 in
set_option maxRecDepth 100000 in
theorem c_wears (l : Launch) (g : Gx) (h0 : Nat) (p0 : Int32) (p1 : Int32) (p2 : Int32) (v0h0 : Value) (v1h0 : Value) (nw : Nat) (v3h0 : Value) (v4h0 : Value) (v5h0 : Value) (v6h0 : Value) (v7h0 : Value) (fr : Nat) (tr : Int32) (zr : Nat) (zm : Nat) (zw : Nat) (zp : Nat) (zmd : Int32) (ztr : Int32) (zrc : Nat) (zrn : Int32) (zrf : Nat → Int32) (zmc : Nat) (zmn : Int32) (zmf : Nat → Int32) (zwc : Nat) (zwn : Int32) (zwf : Nat → Int32) (zpc : Nat) (zpn : Int32) (zpf : Nat → Int32) (xu : Int64) (xv : Int64) : cL l g yX10_wears cX10_wears 6 (some .long) 2 48 0 0 [.ref h0, .int p0, .int p1, .int p2] [(cO10_vvrvvvvvri h0 v0h0 v1h0 nw v3h0 v4h0 v5h0 v6h0 v7h0 fr tr), (cO7_rrrrii nw zr zm zw zp zmd ztr), (cO8_iiri zr 8 3 zrc zrn), (cAI g zrc 24 zrf), (cO8_iiri zm 12 3 zmc zmn), (cAI g zmc 36 zmf), (cO8_iiri zw 6 3 zwc zwn), (cAI g zwc 18 zwf), (cO8_iiri zp 8 2 zpc zpn), (cAI g zpc 16 zpf), (cO2_ll fr xu xv)] (fun r w => ∃ (tr2 : Int32) (xu2 : Int64) (xv2 : Int64), w = [(cO10_vvrvvvvvri h0 v0h0 v1h0 nw v3h0 v4h0 v5h0 v6h0 v7h0 fr tr2), (cO7_rrrrii nw zr zm zw zp zmd ztr), (cO8_iiri zr 8 3 zrc zrn), (cAI g zrc 24 zrf), (cO8_iiri zm 12 3 zmc zmn), (cAI g zmc 36 zmf), (cO8_iiri zw 6 3 zwc zwn), (cAI g zwc 18 zwf), (cO8_iiri zp 8 2 zpc zpn), (cAI g zpc 16 zpf), (cO2_ll fr xu2 xv2)]) := by
  refine cL.of (by decide) (Nat.le_of_ble_eq_true rfl) ?_
  intro p e s m args below meth c A X hr hi
  refine k_lveq [(0, .ref h0), (1, .int p0), (2, .int p1), (3, .int p2)] rfl ?_
  refine k_aload_n X dX10_wears_0 0 rfl ?_
  refine k_get (ci := 10) X inlX10 rfl 2 (by decide) dX10_wears_1 mw24 0 rfl rfl ?_
  refine k_get (ci := 7) X inlX7 rfl 0 (by decide) dX10_wears_4 mw643 1 rfl rfl ?_
  refine k_iload_n X dX10_wears_7 1 rfl ?_
  refine k_callVI (n := 1) (As := [.int p0]) (st := []) X [(cO8_iiri zr 8 3 zrc zrn)] [(cO10_vvrvvvvvri h0 v0h0 v1h0 nw v3h0 v4h0 v5h0 v6h0 v7h0 fr tr), (cO7_rrrrii nw zr zm zw zp zmd ztr), (cAI g zrc 24 zrf), (cO8_iiri zm 12 3 zmc zmn), (cAI g zmc 36 zmf), (cO8_iiri zw 6 3 zwc zwn), (cAI g zwc 18 zwf), (cO8_iiri zp 8 2 zpc zpn), (cAI g zpc 16 zpf), (cO2_ll fr xu xv)] [2] [0, 1, 3, 4, 5, 6, 7, 8, 9, 10] (t_has l g zr p0 (.int 8) (.int 3) (.ref zrc) zrn) dX10_wears_8 mw647 mw648 mw649 mw64 mw650 rfl 8 rfl rfl 0 _ rfl yk_yX8_has_1 rfl (Nat.le_of_ble_eq_true rfl) (Nat.le_of_ble_eq_true rfl) (Nat.le_of_ble_eq_true rfl) (Nat.le_of_ble_eq_true rfl) (Nat.le_of_ble_eq_true rfl) rfl rfl (by decide) rfl (by decide) (by decide) ?_
  rintro r_1 w ⟨hr_2, rfl⟩
  refine k_ws [(cO10_vvrvvvvvri h0 v0h0 v1h0 nw v3h0 v4h0 v5h0 v6h0 v7h0 fr tr), (cO7_rrrrii nw zr zm zw zp zmd ztr), (cAI g zrc 24 zrf), (cO8_iiri zm 12 3 zmc zmn), (cAI g zmc 36 zmf), (cO8_iiri zw 6 3 zwc zwn), (cAI g zwc 18 zwf), (cO8_iiri zp 8 2 zpc zpn), (cAI g zpc 16 zpf), (cO2_ll fr xu xv), (cO8_iiri zr 8 3 zrc zrn)] rfl ?_
  refine k_if_ne 21 X dX10_wears_11 (by decide) (fun h_3 => ?_) (fun h_3 => ?_)
  · skip
    refine k_iload_n X dX10_wears_21 2 rfl ?_
    refine k_if_lt 31 X dX10_wears_22 (by decide) (fun h_4 => ?_) (fun h_4 => ?_)
    · skip
      refine k_aload_n X dX10_wears_31 0 rfl ?_
      refine k_iconst (v := 2) X dX10_wears_32 (by decide) ?_
      refine k_callVI (n := 1) (As := [.int 2]) (st := []) X [(cO10_vvrvvvvvri h0 v0h0 v1h0 nw v3h0 v4h0 v5h0 v6h0 v7h0 fr tr)] [(cO7_rrrrii nw zr zm zw zp zmd ztr), (cAI g zrc 24 zrf), (cO8_iiri zm 12 3 zmc zmn), (cAI g zmc 36 zmf), (cO8_iiri zw 6 3 zwc zwn), (cAI g zwc 18 zwf), (cO8_iiri zp 8 2 zpc zpn), (cAI g zpc 16 zpf), (cO2_ll fr xu xv), (cO8_iiri zr 8 3 zrc zrn)] [0] [1, 2, 3, 4, 5, 6, 7, 8, 9, 10] (c_refuse l g h0 2 v0h0 v1h0 (.ref nw) v3h0 v4h0 v5h0 v6h0 v7h0 (.ref fr) tr) dX10_wears_33 mw215 mw216 mw217 mw2 mw218 rfl 10 rfl rfl 0 _ rfl yk_yX10_refuse_1 rfl (Nat.le_of_ble_eq_true rfl) (Nat.le_of_ble_eq_true rfl) (Nat.le_of_ble_eq_true rfl) (Nat.le_of_ble_eq_true rfl) (Nat.le_of_ble_eq_true rfl) rfl rfl (by decide) rfl (by decide) (by decide) ?_
      rintro r_6 w ⟨tr2_5, rfl⟩
      refine k_ws [(cO7_rrrrii nw zr zm zw zp zmd ztr), (cAI g zrc 24 zrf), (cO8_iiri zm 12 3 zmc zmn), (cAI g zmc 36 zmf), (cO8_iiri zw 6 3 zwc zwn), (cAI g zwc 18 zwf), (cO8_iiri zp 8 2 zpc zpn), (cAI g zpc 16 zpf), (cO2_ll fr xu xv), (cO8_iiri zr 8 3 zrc zrn), (cO10_vvrvvvvvri h0 v0h0 v1h0 nw v3h0 v4h0 v5h0 v6h0 v7h0 fr tr2_5)] rfl ?_
      refine k_i2l X dX10_wears_36 ?_
      refine k_nmL (fun y_8 ey_8 => ?_)
      exact k_lret X hr dX10_wears_37 (Nat.le_of_ble_eq_true rfl) (Nat.le_of_ble_eq_true rfl) [10, 0, 9, 1, 2, 3, 4, 5, 6, 7, 8] (by decide) rfl rfl ⟨tr2_5, xu, xv, rfl⟩
    · skip
      refine k_iload_n X dX10_wears_25 2 rfl ?_
      refine k_bipush (v := 99) X dX10_wears_26 (by decide) ?_
      refine k_ic_le 38 X dX10_wears_28 (by decide) (fun h_9 => ?_) (fun h_9 => ?_)
      · skip
        refine k_iconst (v := 0) X dX10_wears_38 (by decide) ?_
        refine k_istore [(4, .int 0), (0, .ref h0), (1, .int p0), (2, .int p1), (3, .int p2)] X dX10_wears_39 (by decide) rfl ?_
        refine k_iconst (v := 0) X dX10_wears_41 (by decide) ?_
        refine k_istore [(5, .int 0), (4, .int 0), (0, .ref h0), (1, .int p0), (2, .int p1), (3, .int p2)] X dX10_wears_42 (by decide) rfl ?_
        refine (fun hL : ∀ (nn_12 : Nat) (u_10 : Int32) (u_11 : Int32), (zwn.toInt - u_10.toInt).toNat = nn_12 → Wk p l e _ s m args below meth c _ A g _ _ _ [(cO10_vvrvvvvvri h0 v0h0 v1h0 nw v3h0 v4h0 v5h0 v6h0 v7h0 fr tr), (cO7_rrrrii nw zr zm zw zp zmd ztr), (cAI g zrc 24 zrf), (cO8_iiri zm 12 3 zmc zmn), (cAI g zmc 36 zmf), (cO8_iiri zw 6 3 zwc zwn), (cAI g zwc 18 zwf), (cO8_iiri zp 8 2 zpc zpn), (cAI g zpc 16 zpf), (cO2_ll fr xu xv), (cO8_iiri zr 8 3 zrc zrn)] [(5, .int u_10), (4, .int u_11), (0, .ref h0), (1, .int p0), (2, .int p1), (3, .int p2)] 44 [] => hL _ 0 0 rfl ) ?_
        refine fun nn_12 => Nat.strongRecOn nn_12 (fun nn_12 ih_14 => ?_)
        intro u_10 u_11 hm_13 
        refine k_iload X dX10_wears_44 0 rfl ?_
        refine k_aload_n X dX10_wears_46 2 rfl ?_
        refine k_get (ci := 10) X inlX10 rfl 2 (by decide) dX10_wears_47 mw24 0 rfl rfl ?_
        refine k_get (ci := 7) X inlX7 rfl 2 (by decide) dX10_wears_50 mw646 1 rfl rfl ?_
        refine k_get (ci := 8) X inlX8 rfl 3 (by decide) dX10_wears_53 mw214 5 rfl rfl ?_
        refine k_ic_ge 112 X dX10_wears_56 (by decide) (fun h_15 => ?_) (fun h_15 => ?_)
        · skip
          refine k_aload_n X dX10_wears_112 2 rfl ?_
          refine k_get (ci := 10) X inlX10 rfl 8 (by decide) dX10_wears_113 mw48 0 rfl rfl ?_
          refine k_iconst (v := 2) X dX10_wears_116 (by decide) ?_
          refine k_iload_n X dX10_wears_117 4 rfl ?_
          refine k_imul X dX10_wears_118 ?_
          refine k_nm (fun z_16 ez_16 => ?_)
          refine k_iload X dX10_wears_119 1 rfl ?_
          refine k_imul X dX10_wears_121 ?_
          refine k_nm (fun z_17 ez_17 => ?_)
          refine k_i2l X dX10_wears_122 ?_
          refine k_nmL (fun y_18 ey_18 => ?_)
          refine k_ldc2 (v := 100) X dX10_wears_123 mw1274 ?_
          refine k_callVV (n := 2) (As := [.long y_18, .long 100]) (st := []) X [(cO2_ll fr xu xv)] [(cO10_vvrvvvvvri h0 v0h0 v1h0 nw v3h0 v4h0 v5h0 v6h0 v7h0 fr tr), (cO7_rrrrii nw zr zm zw zp zmd ztr), (cAI g zrc 24 zrf), (cO8_iiri zm 12 3 zmc zmn), (cAI g zmc 36 zmf), (cO8_iiri zw 6 3 zwc zwn), (cAI g zwc 18 zwf), (cO8_iiri zp 8 2 zpc zpn), (cAI g zpc 16 zpf), (cO8_iiri zr 8 3 zrc zrn)] [9] [0, 1, 2, 3, 4, 5, 6, 7, 8, 10] (f_set l g fr y_18 100 xu xv) dX10_wears_126 mw1137 mw1138 mw1139 mw47 mw1140 rfl 2 rfl rfl 0 _ rfl yk_yX2_set_2 rfl (Nat.le_of_ble_eq_true rfl) (Nat.le_of_ble_eq_true rfl) (Nat.le_of_ble_eq_true rfl) (Nat.le_of_ble_eq_true rfl) (Nat.le_of_ble_eq_true rfl) rfl rfl (by decide) rfl (by decide) (by decide) ?_
          rintro w ⟨xu2_19, xv2_20, rfl⟩
          refine k_ws [(cO10_vvrvvvvvri h0 v0h0 v1h0 nw v3h0 v4h0 v5h0 v6h0 v7h0 fr tr), (cO7_rrrrii nw zr zm zw zp zmd ztr), (cAI g zrc 24 zrf), (cO8_iiri zm 12 3 zmc zmn), (cAI g zmc 36 zmf), (cO8_iiri zw 6 3 zwc zwn), (cAI g zwc 18 zwf), (cO8_iiri zp 8 2 zpc zpn), (cAI g zpc 16 zpf), (cO8_iiri zr 8 3 zrc zrn), (cO2_ll fr xu2_19 xv2_20)] rfl ?_
          refine k_aload_n X dX10_wears_129 2 rfl ?_
          refine k_iload_n X dX10_wears_130 5 rfl ?_
          refine k_callVL (n := 1) (As := [.int p2]) (st := []) X [(cO10_vvrvvvvvri h0 v0h0 v1h0 nw v3h0 v4h0 v5h0 v6h0 v7h0 fr tr), (cO2_ll fr xu2_19 xv2_20)] [(cO7_rrrrii nw zr zm zw zp zmd ztr), (cAI g zrc 24 zrf), (cO8_iiri zm 12 3 zmc zmn), (cAI g zmc 36 zmf), (cO8_iiri zw 6 3 zwc zwn), (cAI g zwc 18 zwf), (cO8_iiri zp 8 2 zpc zpn), (cAI g zpc 16 zpf), (cO8_iiri zr 8 3 zrc zrn)] [0, 10] [1, 2, 3, 4, 5, 6, 7, 8, 9] (c_tellPart l g h0 p2 v0h0 v1h0 (.ref nw) v3h0 v4h0 v5h0 v6h0 v7h0 fr tr xu2_19 xv2_20) dX10_wears_131 mw1141 mw1142 mw1143 mw2 mw1144 rfl 10 rfl rfl 0 _ rfl yk_yX10_tellPart_1 rfl (Nat.le_of_ble_eq_true rfl) (Nat.le_of_ble_eq_true rfl) (Nat.le_of_ble_eq_true rfl) (Nat.le_of_ble_eq_true rfl) (Nat.le_of_ble_eq_true rfl) rfl rfl (by decide) rfl (by decide) (by decide) ?_
          rintro r_26 w ⟨tr2_23, xu2_24, xv2_25, rfl⟩
          refine k_ws [(cO7_rrrrii nw zr zm zw zp zmd ztr), (cAI g zrc 24 zrf), (cO8_iiri zm 12 3 zmc zmn), (cAI g zmc 36 zmf), (cO8_iiri zw 6 3 zwc zwn), (cAI g zwc 18 zwf), (cO8_iiri zp 8 2 zpc zpn), (cAI g zpc 16 zpf), (cO8_iiri zr 8 3 zrc zrn), (cO10_vvrvvvvvri h0 v0h0 v1h0 nw v3h0 v4h0 v5h0 v6h0 v7h0 fr tr2_23), (cO2_ll fr xu2_24 xv2_25)] rfl ?_
          exact k_lret X hr dX10_wears_134 (Nat.le_of_ble_eq_true rfl) (Nat.le_of_ble_eq_true rfl) [9, 0, 8, 1, 2, 3, 4, 5, 6, 7, 10] (by decide) rfl rfl ⟨tr2_23, xu2_24, xv2_25, rfl⟩
        · skip
          refine k_aload_n X dX10_wears_59 2 rfl ?_
          refine k_get (ci := 10) X inlX10 rfl 2 (by decide) dX10_wears_60 mw24 0 rfl rfl ?_
          refine k_iload X dX10_wears_63 0 rfl ?_
          refine k_callVI (n := 1) (As := [.int u_10]) (st := []) X [(cO7_rrrrii nw zr zm zw zp zmd ztr), (cO8_iiri zw 6 3 zwc zwn), (cAI g zwc 18 zwf)] [(cO10_vvrvvvvvri h0 v0h0 v1h0 nw v3h0 v4h0 v5h0 v6h0 v7h0 fr tr), (cAI g zrc 24 zrf), (cO8_iiri zm 12 3 zmc zmn), (cAI g zmc 36 zmf), (cO8_iiri zp 8 2 zpc zpn), (cAI g zpc 16 zpf), (cO2_ll fr xu xv), (cO8_iiri zr 8 3 zrc zrn)] [1, 5, 6] [0, 2, 3, 4, 7, 8, 9, 10] (s_isWeak l g nw u_10 (.ref zr) (.ref zm) zw (.ref zp) zmd ztr zwc zwn zwf) dX10_wears_65 mw1243 mw661 mw662 mw23 mw663 rfl 7 rfl rfl 0 _ rfl yk_yX7_isWeak_1 rfl (Nat.le_of_ble_eq_true rfl) (Nat.le_of_ble_eq_true rfl) (Nat.le_of_ble_eq_true rfl) (Nat.le_of_ble_eq_true rfl) (Nat.le_of_ble_eq_true rfl) rfl rfl (by decide) rfl (by decide) (by decide) ?_
          rintro r_28 w rfl
          refine k_ws [(cO10_vvrvvvvvri h0 v0h0 v1h0 nw v3h0 v4h0 v5h0 v6h0 v7h0 fr tr), (cAI g zrc 24 zrf), (cO8_iiri zm 12 3 zmc zmn), (cAI g zmc 36 zmf), (cO8_iiri zp 8 2 zpc zpn), (cAI g zpc 16 zpf), (cO2_ll fr xu xv), (cO8_iiri zr 8 3 zrc zrn), (cO7_rrrrii nw zr zm zw zp zmd ztr), (cO8_iiri zw 6 3 zwc zwn), (cAI g zwc 18 zwf)] rfl ?_
          refine k_if_eq 106 X dX10_wears_68 (by decide) (fun h_30 => ?_) (fun h_30 => ?_)
          · skip
            obtain ⟨z_31, ez_31⟩ : ∃ y : Int32, u_10 + Int32.ofInt 1 = y := ⟨_, rfl⟩
            refine k_iinc z_31 [(5, .int z_31), (4, .int u_11), (0, .ref h0), (1, .int p0), (2, .int p1), (3, .int p2)] 0 X dX10_wears_106 rfl ez_31 (by decide) rfl ?_
            refine k_goto 44 X dX10_wears_109 (by decide) ?_
            refine k_sub [(cO10_vvrvvvvvri h0 v0h0 v1h0 nw v3h0 v4h0 v5h0 v6h0 v7h0 fr tr), (cO7_rrrrii nw zr zm zw zp zmd ztr), (cAI g zrc 24 zrf), (cO8_iiri zm 12 3 zmc zmn), (cAI g zmc 36 zmf), (cO8_iiri zw 6 3 zwc zwn), (cAI g zwc 18 zwf), (cO8_iiri zp 8 2 zpc zpn), (cAI g zpc 16 zpf), (cO2_ll fr xu xv), (cO8_iiri zr 8 3 zrc zrn)] [0, 8, 1, 2, 3, 9, 10, 4, 5, 6, 7] rfl (by decide) rfl ?_
            exact ih_14 _ (by rw [← hm_13]; exact mu_lt (by assumption) (by assumption)) z_31 u_11 rfl 
          · skip
            refine k_aload_n X dX10_wears_71 2 rfl ?_
            refine k_get (ci := 10) X inlX10 rfl 2 (by decide) dX10_wears_72 mw24 0 rfl rfl ?_
            refine k_get (ci := 7) X inlX7 rfl 2 (by decide) dX10_wears_75 mw646 8 rfl rfl ?_
            refine k_iload X dX10_wears_78 0 rfl ?_
            refine k_iconst (v := 0) X dX10_wears_80 (by decide) ?_
            refine k_callVI (n := 2) (As := [.int u_10, .int 0]) (st := []) X [(cO8_iiri zw 6 3 zwc zwn), (cAI g zwc 18 zwf)] [(cO10_vvrvvvvvri h0 v0h0 v1h0 nw v3h0 v4h0 v5h0 v6h0 v7h0 fr tr), (cAI g zrc 24 zrf), (cO8_iiri zm 12 3 zmc zmn), (cAI g zmc 36 zmf), (cO8_iiri zp 8 2 zpc zpn), (cAI g zpc 16 zpf), (cO2_ll fr xu xv), (cO8_iiri zr 8 3 zrc zrn), (cO7_rrrrii nw zr zm zw zp zmd ztr)] [9, 10] [0, 1, 2, 3, 4, 5, 6, 7, 8] (t_at l g zw u_10 0 6 3 zwc zwn 18 zwf (tbk_6_3)) dX10_wears_81 mw665 mw376 mw377 mw64 mw378 rfl 8 rfl rfl 0 _ rfl yk_yX8_at_2 rfl (Nat.le_of_ble_eq_true rfl) (Nat.le_of_ble_eq_true rfl) (Nat.le_of_ble_eq_true rfl) (Nat.le_of_ble_eq_true rfl) (Nat.le_of_ble_eq_true rfl) rfl rfl (by decide) rfl (by decide) (by decide) ?_
            rintro r_32 w ⟨hr_33, rfl⟩
            refine k_ws [(cO10_vvrvvvvvri h0 v0h0 v1h0 nw v3h0 v4h0 v5h0 v6h0 v7h0 fr tr), (cAI g zrc 24 zrf), (cO8_iiri zm 12 3 zmc zmn), (cAI g zmc 36 zmf), (cO8_iiri zp 8 2 zpc zpn), (cAI g zpc 16 zpf), (cO2_ll fr xu xv), (cO8_iiri zr 8 3 zrc zrn), (cO7_rrrrii nw zr zm zw zp zmd ztr), (cO8_iiri zw 6 3 zwc zwn), (cAI g zwc 18 zwf)] rfl ?_
            refine k_iload_n X dX10_wears_84 3 rfl ?_
            refine k_ic_ne 106 X dX10_wears_85 (by decide) (fun h_34 => ?_) (fun h_34 => ?_)
            · skip
              obtain ⟨z_35, ez_35⟩ : ∃ y : Int32, u_10 + Int32.ofInt 1 = y := ⟨_, rfl⟩
              refine k_iinc z_35 [(5, .int z_35), (4, .int u_11), (0, .ref h0), (1, .int p0), (2, .int p1), (3, .int p2)] 0 X dX10_wears_106 rfl ez_35 (by decide) rfl ?_
              refine k_goto 44 X dX10_wears_109 (by decide) ?_
              refine k_sub [(cO10_vvrvvvvvri h0 v0h0 v1h0 nw v3h0 v4h0 v5h0 v6h0 v7h0 fr tr), (cO7_rrrrii nw zr zm zw zp zmd ztr), (cAI g zrc 24 zrf), (cO8_iiri zm 12 3 zmc zmn), (cAI g zmc 36 zmf), (cO8_iiri zw 6 3 zwc zwn), (cAI g zwc 18 zwf), (cO8_iiri zp 8 2 zpc zpn), (cAI g zpc 16 zpf), (cO2_ll fr xu xv), (cO8_iiri zr 8 3 zrc zrn)] [0, 8, 1, 2, 3, 9, 10, 4, 5, 6, 7] rfl (by decide) rfl ?_
              exact ih_14 _ (by rw [← hm_13]; exact mu_lt (by assumption) (by assumption)) z_35 u_11 rfl 
            · skip
              refine k_iload X dX10_wears_88 1 rfl ?_
              refine k_aload_n X dX10_wears_90 2 rfl ?_
              refine k_get (ci := 10) X inlX10 rfl 2 (by decide) dX10_wears_91 mw24 0 rfl rfl ?_
              refine k_get (ci := 7) X inlX7 rfl 2 (by decide) dX10_wears_94 mw646 8 rfl rfl ?_
              refine k_iload X dX10_wears_97 0 rfl ?_
              refine k_iconst (v := 2) X dX10_wears_99 (by decide) ?_
              refine k_callVI (n := 2) (As := [.int u_10, .int 2]) (st := [.int u_11]) X [(cO8_iiri zw 6 3 zwc zwn), (cAI g zwc 18 zwf)] [(cO10_vvrvvvvvri h0 v0h0 v1h0 nw v3h0 v4h0 v5h0 v6h0 v7h0 fr tr), (cAI g zrc 24 zrf), (cO8_iiri zm 12 3 zmc zmn), (cAI g zmc 36 zmf), (cO8_iiri zp 8 2 zpc zpn), (cAI g zpc 16 zpf), (cO2_ll fr xu xv), (cO8_iiri zr 8 3 zrc zrn), (cO7_rrrrii nw zr zm zw zp zmd ztr)] [9, 10] [0, 1, 2, 3, 4, 5, 6, 7, 8] (t_at l g zw u_10 2 6 3 zwc zwn 18 zwf (tbk_6_3)) dX10_wears_100 mw665 mw376 mw377 mw64 mw378 rfl 8 rfl rfl 0 _ rfl yk_yX8_at_2 rfl (Nat.le_of_ble_eq_true rfl) (Nat.le_of_ble_eq_true rfl) (Nat.le_of_ble_eq_true rfl) (Nat.le_of_ble_eq_true rfl) (Nat.le_of_ble_eq_true rfl) rfl rfl (by decide) rfl (by decide) (by decide) ?_
              rintro r_36 w ⟨hr_37, rfl⟩
              refine k_ws [(cO10_vvrvvvvvri h0 v0h0 v1h0 nw v3h0 v4h0 v5h0 v6h0 v7h0 fr tr), (cAI g zrc 24 zrf), (cO8_iiri zm 12 3 zmc zmn), (cAI g zmc 36 zmf), (cO8_iiri zp 8 2 zpc zpn), (cAI g zpc 16 zpf), (cO2_ll fr xu xv), (cO8_iiri zr 8 3 zrc zrn), (cO7_rrrrii nw zr zm zw zp zmd ztr), (cO8_iiri zw 6 3 zwc zwn), (cAI g zwc 18 zwf)] rfl ?_
              refine k_iadd X dX10_wears_103 ?_
              refine k_nm (fun z_38 ez_38 => ?_)
              refine k_istore [(4, .int z_38), (5, .int u_10), (0, .ref h0), (1, .int p0), (2, .int p1), (3, .int p2)] X dX10_wears_104 (by decide) rfl ?_
              obtain ⟨z_39, ez_39⟩ : ∃ y : Int32, u_10 + Int32.ofInt 1 = y := ⟨_, rfl⟩
              refine k_iinc z_39 [(5, .int z_39), (4, .int z_38), (0, .ref h0), (1, .int p0), (2, .int p1), (3, .int p2)] 1 X dX10_wears_106 rfl ez_39 (by decide) rfl ?_
              refine k_goto 44 X dX10_wears_109 (by decide) ?_
              refine k_sub [(cO10_vvrvvvvvri h0 v0h0 v1h0 nw v3h0 v4h0 v5h0 v6h0 v7h0 fr tr), (cO7_rrrrii nw zr zm zw zp zmd ztr), (cAI g zrc 24 zrf), (cO8_iiri zm 12 3 zmc zmn), (cAI g zmc 36 zmf), (cO8_iiri zw 6 3 zwc zwn), (cAI g zwc 18 zwf), (cO8_iiri zp 8 2 zpc zpn), (cAI g zpc 16 zpf), (cO2_ll fr xu xv), (cO8_iiri zr 8 3 zrc zrn)] [0, 8, 1, 2, 3, 9, 10, 4, 5, 6, 7] rfl (by decide) rfl ?_
              exact ih_14 _ (by rw [← hm_13]; exact mu_lt (by assumption) (by assumption)) z_39 z_38 rfl 
      · skip
        refine k_aload_n X dX10_wears_31 0 rfl ?_
        refine k_iconst (v := 2) X dX10_wears_32 (by decide) ?_
        refine k_callVI (n := 1) (As := [.int 2]) (st := []) X [(cO10_vvrvvvvvri h0 v0h0 v1h0 nw v3h0 v4h0 v5h0 v6h0 v7h0 fr tr)] [(cO7_rrrrii nw zr zm zw zp zmd ztr), (cAI g zrc 24 zrf), (cO8_iiri zm 12 3 zmc zmn), (cAI g zmc 36 zmf), (cO8_iiri zw 6 3 zwc zwn), (cAI g zwc 18 zwf), (cO8_iiri zp 8 2 zpc zpn), (cAI g zpc 16 zpf), (cO2_ll fr xu xv), (cO8_iiri zr 8 3 zrc zrn)] [0] [1, 2, 3, 4, 5, 6, 7, 8, 9, 10] (c_refuse l g h0 2 v0h0 v1h0 (.ref nw) v3h0 v4h0 v5h0 v6h0 v7h0 (.ref fr) tr) dX10_wears_33 mw215 mw216 mw217 mw2 mw218 rfl 10 rfl rfl 0 _ rfl yk_yX10_refuse_1 rfl (Nat.le_of_ble_eq_true rfl) (Nat.le_of_ble_eq_true rfl) (Nat.le_of_ble_eq_true rfl) (Nat.le_of_ble_eq_true rfl) (Nat.le_of_ble_eq_true rfl) rfl rfl (by decide) rfl (by decide) (by decide) ?_
        rintro r_41 w ⟨tr2_40, rfl⟩
        refine k_ws [(cO7_rrrrii nw zr zm zw zp zmd ztr), (cAI g zrc 24 zrf), (cO8_iiri zm 12 3 zmc zmn), (cAI g zmc 36 zmf), (cO8_iiri zw 6 3 zwc zwn), (cAI g zwc 18 zwf), (cO8_iiri zp 8 2 zpc zpn), (cAI g zpc 16 zpf), (cO2_ll fr xu xv), (cO8_iiri zr 8 3 zrc zrn), (cO10_vvrvvvvvri h0 v0h0 v1h0 nw v3h0 v4h0 v5h0 v6h0 v7h0 fr tr2_40)] rfl ?_
        refine k_i2l X dX10_wears_36 ?_
        refine k_nmL (fun y_43 ey_43 => ?_)
        exact k_lret X hr dX10_wears_37 (Nat.le_of_ble_eq_true rfl) (Nat.le_of_ble_eq_true rfl) [10, 0, 9, 1, 2, 3, 4, 5, 6, 7, 8] (by decide) rfl rfl ⟨tr2_40, xu, xv, rfl⟩
  · skip
    refine k_aload_n X dX10_wears_14 0 rfl ?_
    refine k_iconst (v := 1) X dX10_wears_15 (by decide) ?_
    refine k_callVI (n := 1) (As := [.int 1]) (st := []) X [(cO10_vvrvvvvvri h0 v0h0 v1h0 nw v3h0 v4h0 v5h0 v6h0 v7h0 fr tr)] [(cO7_rrrrii nw zr zm zw zp zmd ztr), (cAI g zrc 24 zrf), (cO8_iiri zm 12 3 zmc zmn), (cAI g zmc 36 zmf), (cO8_iiri zw 6 3 zwc zwn), (cAI g zwc 18 zwf), (cO8_iiri zp 8 2 zpc zpn), (cAI g zpc 16 zpf), (cO2_ll fr xu xv), (cO8_iiri zr 8 3 zrc zrn)] [0] [1, 2, 3, 4, 5, 6, 7, 8, 9, 10] (c_refuse l g h0 1 v0h0 v1h0 (.ref nw) v3h0 v4h0 v5h0 v6h0 v7h0 (.ref fr) tr) dX10_wears_16 mw215 mw216 mw217 mw2 mw218 rfl 10 rfl rfl 0 _ rfl yk_yX10_refuse_1 rfl (Nat.le_of_ble_eq_true rfl) (Nat.le_of_ble_eq_true rfl) (Nat.le_of_ble_eq_true rfl) (Nat.le_of_ble_eq_true rfl) (Nat.le_of_ble_eq_true rfl) rfl rfl (by decide) rfl (by decide) (by decide) ?_
    rintro r_45 w ⟨tr2_44, rfl⟩
    refine k_ws [(cO7_rrrrii nw zr zm zw zp zmd ztr), (cAI g zrc 24 zrf), (cO8_iiri zm 12 3 zmc zmn), (cAI g zmc 36 zmf), (cO8_iiri zw 6 3 zwc zwn), (cAI g zwc 18 zwf), (cO8_iiri zp 8 2 zpc zpn), (cAI g zpc 16 zpf), (cO2_ll fr xu xv), (cO8_iiri zr 8 3 zrc zrn), (cO10_vvrvvvvvri h0 v0h0 v1h0 nw v3h0 v4h0 v5h0 v6h0 v7h0 fr tr2_44)] rfl ?_
    refine k_i2l X dX10_wears_19 ?_
    refine k_nmL (fun y_47 ey_47 => ?_)
    exact k_lret X hr dX10_wears_20 (Nat.le_of_ble_eq_true rfl) (Nat.le_of_ble_eq_true rfl) [10, 0, 9, 1, 2, 3, 4, 5, 6, 7, 8] (by decide) rfl rfl ⟨tr2_44, xu, xv, rfl⟩

theorem dX10_well_0 : decode cX10_well 0 = .ok (.aload_n 0, 1) := dk_42 rfl
theorem dX10_well_1 : decode cX10_well 1 = .ok (.invokevirtual 184, 3) := dk_182 rfl rfl rfl rfl
theorem dX10_well_4 : decode cX10_well 4 = .ok (.ifCond .ne 10, 3) := dk_154 rfl rfl rfl (by decide)
theorem dX10_well_7 : decode cX10_well 7 = .ok (.aload_n 0, 1) := dk_42 rfl
theorem dX10_well_8 : decode cX10_well 8 = .ok (.iconst 1, 1) := dk_4 rfl
theorem dX10_well_9 : decode cX10_well 9 = .ok (.invokevirtual 83, 3) := dk_182 rfl rfl rfl rfl
theorem dX10_well_12 : decode cX10_well 12 = .ok (.i2l, 1) := dk_133 rfl
theorem dX10_well_13 : decode cX10_well 13 = .ok (.lreturn, 1) := dk_173 rfl
theorem dX10_well_14 : decode cX10_well 14 = .ok (.aload_n 0, 1) := dk_42 rfl
theorem dX10_well_15 : decode cX10_well 15 = .ok (.getfield 19, 3) := dk_180 rfl rfl rfl rfl
theorem dX10_well_18 : decode cX10_well 18 = .ok (.getfield 303, 3) := dk_180 rfl rfl rfl rfl
theorem dX10_well_21 : decode cX10_well 21 = .ok (.getfield 113, 3) := dk_180 rfl rfl rfl rfl
theorem dX10_well_24 : decode cX10_well 24 = .ok (.ifCond .ne 11, 3) := dk_154 rfl rfl rfl (by decide)
theorem dX10_well_27 : decode cX10_well 27 = .ok (.aload_n 0, 1) := dk_42 rfl
theorem dX10_well_28 : decode cX10_well 28 = .ok (.bipush 6, 2) := dk_16 rfl rfl (by decide)
theorem dX10_well_30 : decode cX10_well 30 = .ok (.invokevirtual 83, 3) := dk_182 rfl rfl rfl rfl
theorem dX10_well_33 : decode cX10_well 33 = .ok (.i2l, 1) := dk_133 rfl
theorem dX10_well_34 : decode cX10_well 34 = .ok (.lreturn, 1) := dk_173 rfl
theorem dX10_well_35 : decode cX10_well 35 = .ok (.aload_n 0, 1) := dk_42 rfl
theorem dX10_well_36 : decode cX10_well 36 = .ok (.getfield 68, 3) := dk_180 rfl rfl rfl rfl
theorem dX10_well_39 : decode cX10_well 39 = .ok (.bipush 100, 2) := dk_16 rfl rfl (by decide)
theorem dX10_well_41 : decode cX10_well 41 = .ok (.aload_n 0, 1) := dk_42 rfl
theorem dX10_well_42 : decode cX10_well 42 = .ok (.getfield 19, 3) := dk_180 rfl rfl rfl rfl
theorem dX10_well_45 : decode cX10_well 45 = .ok (.getfield 303, 3) := dk_180 rfl rfl rfl rfl
theorem dX10_well_48 : decode cX10_well 48 = .ok (.iconst 0, 1) := dk_3 rfl
theorem dX10_well_49 : decode cX10_well 49 = .ok (.iconst 2, 1) := dk_5 rfl
theorem dX10_well_50 : decode cX10_well 50 = .ok (.invokevirtual 147, 3) := dk_182 rfl rfl rfl rfl
theorem dX10_well_53 : decode cX10_well 53 = .ok (.isub, 1) := dk_100 rfl
theorem dX10_well_54 : decode cX10_well 54 = .ok (.bipush 100, 2) := dk_16 rfl rfl (by decide)
theorem dX10_well_56 : decode cX10_well 56 = .ok (.aload_n 0, 1) := dk_42 rfl
theorem dX10_well_57 : decode cX10_well 57 = .ok (.getfield 26, 3) := dk_180 rfl rfl rfl rfl
theorem dX10_well_60 : decode cX10_well 60 = .ok (.getfield 109, 3) := dk_180 rfl rfl rfl rfl
theorem dX10_well_63 : decode cX10_well 63 = .ok (.getfield 113, 3) := dk_180 rfl rfl rfl rfl
theorem dX10_well_66 : decode cX10_well 66 = .ok (.invokevirtual 276, 3) := dk_182 rfl rfl rfl rfl
theorem dX10_well_69 : decode cX10_well 69 = .ok (.aload_n 0, 1) := dk_42 rfl
theorem dX10_well_70 : decode cX10_well 70 = .ok (.iload_n 1, 1) := dk_27 rfl
theorem dX10_well_71 : decode cX10_well 71 = .ok (.invokevirtual 249, 3) := dk_182 rfl rfl rfl rfl
theorem dX10_well_74 : decode cX10_well 74 = .ok (.lreturn, 1) := dk_173 rfl
set_option maxHeartbeats 4000000 in
set_option maxRecDepth 100000 in
theorem c_well (l : Launch) (g : Gx) (h0 : Nat) (p0 : Int32) (v0h0 : Value) (tl : Nat) (nw : Nat) (v3h0 : Value) (v4h0 : Value) (v5h0 : Value) (v6h0 : Value) (v7h0 : Value) (fr : Nat) (tr : Int32) (v0tl : Value) (v1tl : Value) (v2tl : Value) (v3tl : Value) (v4tl : Value) (yhb : Nat) (v6tl : Value) (v7tl : Value) (yhbc : Nat) (yhbn : Int32) (yhbf : Nat → Int32) (zr : Nat) (zm : Nat) (zw : Nat) (zp : Nat) (zmd : Int32) (ztr : Int32) (zrc : Nat) (zrn : Int32) (zrf : Nat → Int32) (zmc : Nat) (zmn : Int32) (zmf : Nat → Int32) (zwc : Nat) (zwn : Int32) (zwf : Nat → Int32) (zpc : Nat) (zpn : Int32) (zpf : Nat → Int32) (xu : Int64) (xv : Int64) : cL l g yX10_well cX10_well 2 (some .long) 2 48 0 0 [.ref h0, .int p0] [(cO10_vrrvvvvvri h0 v0h0 tl nw v3h0 v4h0 v5h0 v6h0 v7h0 fr tr), (cO3_vvvvvrvv tl v0tl v1tl v2tl v3tl v4tl yhb v6tl v7tl), (cO8_iiri yhb 1 3 yhbc yhbn), (cAI g yhbc 3 yhbf), (cO7_rrrrii nw zr zm zw zp zmd ztr), (cO8_iiri zr 8 3 zrc zrn), (cAI g zrc 24 zrf), (cO8_iiri zm 12 3 zmc zmn), (cAI g zmc 36 zmf), (cO8_iiri zw 6 3 zwc zwn), (cAI g zwc 18 zwf), (cO8_iiri zp 8 2 zpc zpn), (cAI g zpc 16 zpf), (cO2_ll fr xu xv)] (fun r w => ∃ (tr2 : Int32) (xu2 : Int64) (xv2 : Int64), w = [(cO10_vrrvvvvvri h0 v0h0 tl nw v3h0 v4h0 v5h0 v6h0 v7h0 fr tr2), (cO3_vvvvvrvv tl v0tl v1tl v2tl v3tl v4tl yhb v6tl v7tl), (cO8_iiri yhb 1 3 yhbc yhbn), (cAI g yhbc 3 yhbf), (cO7_rrrrii nw zr zm zw zp zmd ztr), (cO8_iiri zr 8 3 zrc zrn), (cAI g zrc 24 zrf), (cO8_iiri zm 12 3 zmc zmn), (cAI g zmc 36 zmf), (cO8_iiri zw 6 3 zwc zwn), (cAI g zwc 18 zwf), (cO8_iiri zp 8 2 zpc zpn), (cAI g zpc 16 zpf), (cO2_ll fr xu2 xv2)]) := by
  refine cL.of (by decide) (Nat.le_of_ble_eq_true rfl) ?_
  intro p e s m args below meth c A X hr hi
  refine k_lveq [(0, .ref h0), (1, .int p0)] rfl ?_
  refine k_aload_n X dX10_well_0 0 rfl ?_
  refine k_callVI (n := 0) (As := []) (st := []) X [(cO10_vrrvvvvvri h0 v0h0 tl nw v3h0 v4h0 v5h0 v6h0 v7h0 fr tr), (cO7_rrrrii nw zr zm zw zp zmd ztr), (cO8_iiri zp 8 2 zpc zpn), (cAI g zpc 16 zpf)] [(cO3_vvvvvrvv tl v0tl v1tl v2tl v3tl v4tl yhb v6tl v7tl), (cO8_iiri yhb 1 3 yhbc yhbn), (cAI g yhbc 3 yhbf), (cO8_iiri zr 8 3 zrc zrn), (cAI g zrc 24 zrf), (cO8_iiri zm 12 3 zmc zmn), (cAI g zmc 36 zmf), (cO8_iiri zw 6 3 zwc zwn), (cAI g zwc 18 zwf), (cO2_ll fr xu xv)] [0, 4, 11, 12] [1, 2, 3, 5, 6, 7, 8, 9, 10, 13] (c_isOpen l g h0 v0h0 (.ref tl) nw v3h0 v4h0 v5h0 v6h0 v7h0 (.ref fr) tr (.ref zr) (.ref zm) (.ref zw) zp zmd ztr zpc zpn zpf) dX10_well_1 mw971 mw972 mw973 mw2 mw974 rfl 10 rfl rfl 0 _ rfl yk_yX10_isOpen_0 rfl (Nat.le_of_ble_eq_true rfl) (Nat.le_of_ble_eq_true rfl) (Nat.le_of_ble_eq_true rfl) (Nat.le_of_ble_eq_true rfl) (Nat.le_of_ble_eq_true rfl) rfl rfl (by decide +kernel) rfl (by decide +kernel) (by decide +kernel) ?_
  rintro r_2 w ⟨tr2_1, rfl⟩
  refine k_ws [(cO3_vvvvvrvv tl v0tl v1tl v2tl v3tl v4tl yhb v6tl v7tl), (cO8_iiri yhb 1 3 yhbc yhbn), (cAI g yhbc 3 yhbf), (cO8_iiri zr 8 3 zrc zrn), (cAI g zrc 24 zrf), (cO8_iiri zm 12 3 zmc zmn), (cAI g zmc 36 zmf), (cO8_iiri zw 6 3 zwc zwn), (cAI g zwc 18 zwf), (cO2_ll fr xu xv), (cO10_vrrvvvvvri h0 v0h0 tl nw v3h0 v4h0 v5h0 v6h0 v7h0 fr tr2_1), (cO7_rrrrii nw zr zm zw zp zmd ztr), (cO8_iiri zp 8 2 zpc zpn), (cAI g zpc 16 zpf)] rfl ?_
  refine k_if_ne 14 X dX10_well_4 (by decide) (fun h_4 => ?_) (fun h_4 => ?_)
  · skip
    refine k_aload_n X dX10_well_14 0 rfl ?_
    refine k_get (ci := 10) X inlX10 rfl 1 (by decide) dX10_well_15 mw20 10 rfl rfl ?_
    refine k_get (ci := 3) X inlX3 rfl 5 (by decide) dX10_well_18 mw1288 0 rfl rfl ?_
    refine k_get (ci := 8) X inlX8 rfl 3 (by decide) dX10_well_21 mw214 1 rfl rfl ?_
    refine k_if_ne 35 X dX10_well_24 (by decide) (fun h_5 => ?_) (fun h_5 => ?_)
    · skip
      refine k_aload_n X dX10_well_35 0 rfl ?_
      refine k_get (ci := 10) X inlX10 rfl 8 (by decide) dX10_well_36 mw48 10 rfl rfl ?_
      refine k_bipush (v := 100) X dX10_well_39 (by decide) ?_
      refine k_aload_n X dX10_well_41 0 rfl ?_
      refine k_get (ci := 10) X inlX10 rfl 1 (by decide) dX10_well_42 mw20 10 rfl rfl ?_
      refine k_get (ci := 3) X inlX3 rfl 5 (by decide) dX10_well_45 mw1288 0 rfl rfl ?_
      refine k_iconst (v := 0) X dX10_well_48 (by decide) ?_
      refine k_iconst (v := 2) X dX10_well_49 (by decide) ?_
      refine k_callVI (n := 2) (As := [.int 0, .int 2]) (st := [.int 100, .ref fr]) X [(cO8_iiri yhb 1 3 yhbc yhbn), (cAI g yhbc 3 yhbf)] [(cO3_vvvvvrvv tl v0tl v1tl v2tl v3tl v4tl yhb v6tl v7tl), (cO8_iiri zr 8 3 zrc zrn), (cAI g zrc 24 zrf), (cO8_iiri zm 12 3 zmc zmn), (cAI g zmc 36 zmf), (cO8_iiri zw 6 3 zwc zwn), (cAI g zwc 18 zwf), (cO2_ll fr xu xv), (cO10_vrrvvvvvri h0 v0h0 tl nw v3h0 v4h0 v5h0 v6h0 v7h0 fr tr2_1), (cO7_rrrrii nw zr zm zw zp zmd ztr), (cO8_iiri zp 8 2 zpc zpn), (cAI g zpc 16 zpf)] [1, 2] [0, 3, 4, 5, 6, 7, 8, 9, 10, 11, 12, 13] (t_at l g yhb 0 2 1 3 yhbc yhbn 3 yhbf (tbk_1_3)) dX10_well_50 mw665 mw376 mw377 mw64 mw378 rfl 8 rfl rfl 0 _ rfl yk_yX8_at_2 rfl (Nat.le_of_ble_eq_true rfl) (Nat.le_of_ble_eq_true rfl) (Nat.le_of_ble_eq_true rfl) (Nat.le_of_ble_eq_true rfl) (Nat.le_of_ble_eq_true rfl) rfl rfl (by decide +kernel) rfl (by decide +kernel) (by decide +kernel) ?_
      rintro r_6 w ⟨hr_7, rfl⟩
      refine k_ws [(cO3_vvvvvrvv tl v0tl v1tl v2tl v3tl v4tl yhb v6tl v7tl), (cO8_iiri zr 8 3 zrc zrn), (cAI g zrc 24 zrf), (cO8_iiri zm 12 3 zmc zmn), (cAI g zmc 36 zmf), (cO8_iiri zw 6 3 zwc zwn), (cAI g zwc 18 zwf), (cO2_ll fr xu xv), (cO10_vrrvvvvvri h0 v0h0 tl nw v3h0 v4h0 v5h0 v6h0 v7h0 fr tr2_1), (cO7_rrrrii nw zr zm zw zp zmd ztr), (cO8_iiri zp 8 2 zpc zpn), (cAI g zpc 16 zpf), (cO8_iiri yhb 1 3 yhbc yhbn), (cAI g yhbc 3 yhbf)] rfl ?_
      refine k_isub X dX10_well_53 ?_
      refine k_nm (fun z_8 ez_8 => ?_)
      refine k_bipush (v := 100) X dX10_well_54 (by decide) ?_
      refine k_aload_n X dX10_well_56 0 rfl ?_
      refine k_get (ci := 10) X inlX10 rfl 2 (by decide) dX10_well_57 mw24 8 rfl rfl ?_
      refine k_get (ci := 7) X inlX7 rfl 3 (by decide) dX10_well_60 mw213 9 rfl rfl ?_
      refine k_get (ci := 8) X inlX8 rfl 3 (by decide) dX10_well_63 mw214 10 rfl rfl ?_
      refine k_callVV (n := 3) (As := [.int z_8, .int 100, .int zpn]) (st := []) X [(cO2_ll fr xu xv)] [(cO3_vvvvvrvv tl v0tl v1tl v2tl v3tl v4tl yhb v6tl v7tl), (cO8_iiri zr 8 3 zrc zrn), (cAI g zrc 24 zrf), (cO8_iiri zm 12 3 zmc zmn), (cAI g zmc 36 zmf), (cO8_iiri zw 6 3 zwc zwn), (cAI g zwc 18 zwf), (cO10_vrrvvvvvri h0 v0h0 tl nw v3h0 v4h0 v5h0 v6h0 v7h0 fr tr2_1), (cO7_rrrrii nw zr zm zw zp zmd ztr), (cO8_iiri zp 8 2 zpc zpn), (cAI g zpc 16 zpf), (cO8_iiri yhb 1 3 yhbc yhbn), (cAI g yhbc 3 yhbf)] [7] [0, 1, 2, 3, 4, 5, 6, 8, 9, 10, 11, 12, 13] (f_setPower l g fr z_8 100 zpn xu xv) dX10_well_66 mw1244 mw1245 mw1246 mw47 mw1247 rfl 2 rfl rfl 0 _ rfl yk_yX2_setPower_3 rfl (Nat.le_of_ble_eq_true rfl) (Nat.le_of_ble_eq_true rfl) (Nat.le_of_ble_eq_true rfl) (Nat.le_of_ble_eq_true rfl) (Nat.le_of_ble_eq_true rfl) rfl rfl (by decide +kernel) rfl (by decide +kernel) (by decide +kernel) ?_
      rintro w ⟨xu2_9, xv2_10, rfl⟩
      refine k_ws [(cO3_vvvvvrvv tl v0tl v1tl v2tl v3tl v4tl yhb v6tl v7tl), (cO8_iiri zr 8 3 zrc zrn), (cAI g zrc 24 zrf), (cO8_iiri zm 12 3 zmc zmn), (cAI g zmc 36 zmf), (cO8_iiri zw 6 3 zwc zwn), (cAI g zwc 18 zwf), (cO10_vrrvvvvvri h0 v0h0 tl nw v3h0 v4h0 v5h0 v6h0 v7h0 fr tr2_1), (cO7_rrrrii nw zr zm zw zp zmd ztr), (cO8_iiri zp 8 2 zpc zpn), (cAI g zpc 16 zpf), (cO8_iiri yhb 1 3 yhbc yhbn), (cAI g yhbc 3 yhbf), (cO2_ll fr xu2_9 xv2_10)] rfl ?_
      refine k_aload_n X dX10_well_69 0 rfl ?_
      refine k_iload_n X dX10_well_70 1 rfl ?_
      refine k_callVL (n := 1) (As := [.int p0]) (st := []) X [(cO10_vrrvvvvvri h0 v0h0 tl nw v3h0 v4h0 v5h0 v6h0 v7h0 fr tr2_1), (cO2_ll fr xu2_9 xv2_10)] [(cO3_vvvvvrvv tl v0tl v1tl v2tl v3tl v4tl yhb v6tl v7tl), (cO8_iiri zr 8 3 zrc zrn), (cAI g zrc 24 zrf), (cO8_iiri zm 12 3 zmc zmn), (cAI g zmc 36 zmf), (cO8_iiri zw 6 3 zwc zwn), (cAI g zwc 18 zwf), (cO7_rrrrii nw zr zm zw zp zmd ztr), (cO8_iiri zp 8 2 zpc zpn), (cAI g zpc 16 zpf), (cO8_iiri yhb 1 3 yhbc yhbn), (cAI g yhbc 3 yhbf)] [7, 13] [0, 1, 2, 3, 4, 5, 6, 8, 9, 10, 11, 12] (c_tellPart l g h0 p0 v0h0 (.ref tl) (.ref nw) v3h0 v4h0 v5h0 v6h0 v7h0 fr tr2_1 xu2_9 xv2_10) dX10_well_71 mw1141 mw1142 mw1143 mw2 mw1144 rfl 10 rfl rfl 0 _ rfl yk_yX10_tellPart_1 rfl (Nat.le_of_ble_eq_true rfl) (Nat.le_of_ble_eq_true rfl) (Nat.le_of_ble_eq_true rfl) (Nat.le_of_ble_eq_true rfl) (Nat.le_of_ble_eq_true rfl) rfl rfl (by decide +kernel) rfl (by decide +kernel) (by decide +kernel) ?_
      rintro r_16 w ⟨tr2_13, xu2_14, xv2_15, rfl⟩
      refine k_ws [(cO3_vvvvvrvv tl v0tl v1tl v2tl v3tl v4tl yhb v6tl v7tl), (cO8_iiri zr 8 3 zrc zrn), (cAI g zrc 24 zrf), (cO8_iiri zm 12 3 zmc zmn), (cAI g zmc 36 zmf), (cO8_iiri zw 6 3 zwc zwn), (cAI g zwc 18 zwf), (cO7_rrrrii nw zr zm zw zp zmd ztr), (cO8_iiri zp 8 2 zpc zpn), (cAI g zpc 16 zpf), (cO8_iiri yhb 1 3 yhbc yhbn), (cAI g yhbc 3 yhbf), (cO10_vrrvvvvvri h0 v0h0 tl nw v3h0 v4h0 v5h0 v6h0 v7h0 fr tr2_13), (cO2_ll fr xu2_14 xv2_15)] rfl ?_
      exact k_lret X hr dX10_well_74 (Nat.le_of_ble_eq_true rfl) (Nat.le_of_ble_eq_true rfl) [12, 0, 10, 11, 7, 1, 2, 3, 4, 5, 6, 8, 9, 13] (by decide) rfl rfl ⟨tr2_13, xu2_14, xv2_15, rfl⟩
    · skip
      refine k_aload_n X dX10_well_27 0 rfl ?_
      refine k_bipush (v := 6) X dX10_well_28 (by decide) ?_
      refine k_callVI (n := 1) (As := [.int 6]) (st := []) X [(cO10_vrrvvvvvri h0 v0h0 tl nw v3h0 v4h0 v5h0 v6h0 v7h0 fr tr2_1)] [(cO3_vvvvvrvv tl v0tl v1tl v2tl v3tl v4tl yhb v6tl v7tl), (cO8_iiri yhb 1 3 yhbc yhbn), (cAI g yhbc 3 yhbf), (cO8_iiri zr 8 3 zrc zrn), (cAI g zrc 24 zrf), (cO8_iiri zm 12 3 zmc zmn), (cAI g zmc 36 zmf), (cO8_iiri zw 6 3 zwc zwn), (cAI g zwc 18 zwf), (cO2_ll fr xu xv), (cO7_rrrrii nw zr zm zw zp zmd ztr), (cO8_iiri zp 8 2 zpc zpn), (cAI g zpc 16 zpf)] [10] [0, 1, 2, 3, 4, 5, 6, 7, 8, 9, 11, 12, 13] (c_refuse l g h0 6 v0h0 (.ref tl) (.ref nw) v3h0 v4h0 v5h0 v6h0 v7h0 (.ref fr) tr2_1) dX10_well_30 mw215 mw216 mw217 mw2 mw218 rfl 10 rfl rfl 0 _ rfl yk_yX10_refuse_1 rfl (Nat.le_of_ble_eq_true rfl) (Nat.le_of_ble_eq_true rfl) (Nat.le_of_ble_eq_true rfl) (Nat.le_of_ble_eq_true rfl) (Nat.le_of_ble_eq_true rfl) rfl rfl (by decide +kernel) rfl (by decide +kernel) (by decide +kernel) ?_
      rintro r_19 w ⟨tr2_18, rfl⟩
      refine k_ws [(cO3_vvvvvrvv tl v0tl v1tl v2tl v3tl v4tl yhb v6tl v7tl), (cO8_iiri yhb 1 3 yhbc yhbn), (cAI g yhbc 3 yhbf), (cO8_iiri zr 8 3 zrc zrn), (cAI g zrc 24 zrf), (cO8_iiri zm 12 3 zmc zmn), (cAI g zmc 36 zmf), (cO8_iiri zw 6 3 zwc zwn), (cAI g zwc 18 zwf), (cO2_ll fr xu xv), (cO7_rrrrii nw zr zm zw zp zmd ztr), (cO8_iiri zp 8 2 zpc zpn), (cAI g zpc 16 zpf), (cO10_vrrvvvvvri h0 v0h0 tl nw v3h0 v4h0 v5h0 v6h0 v7h0 fr tr2_18)] rfl ?_
      refine k_i2l X dX10_well_33 ?_
      refine k_nmL (fun y_21 ey_21 => ?_)
      exact k_lret X hr dX10_well_34 (Nat.le_of_ble_eq_true rfl) (Nat.le_of_ble_eq_true rfl) [13, 0, 1, 2, 10, 3, 4, 5, 6, 7, 8, 11, 12, 9] (by decide) rfl rfl ⟨tr2_18, xu, xv, rfl⟩
  · skip
    refine k_aload_n X dX10_well_7 0 rfl ?_
    refine k_iconst (v := 1) X dX10_well_8 (by decide) ?_
    refine k_callVI (n := 1) (As := [.int 1]) (st := []) X [(cO10_vrrvvvvvri h0 v0h0 tl nw v3h0 v4h0 v5h0 v6h0 v7h0 fr tr2_1)] [(cO3_vvvvvrvv tl v0tl v1tl v2tl v3tl v4tl yhb v6tl v7tl), (cO8_iiri yhb 1 3 yhbc yhbn), (cAI g yhbc 3 yhbf), (cO8_iiri zr 8 3 zrc zrn), (cAI g zrc 24 zrf), (cO8_iiri zm 12 3 zmc zmn), (cAI g zmc 36 zmf), (cO8_iiri zw 6 3 zwc zwn), (cAI g zwc 18 zwf), (cO2_ll fr xu xv), (cO7_rrrrii nw zr zm zw zp zmd ztr), (cO8_iiri zp 8 2 zpc zpn), (cAI g zpc 16 zpf)] [10] [0, 1, 2, 3, 4, 5, 6, 7, 8, 9, 11, 12, 13] (c_refuse l g h0 1 v0h0 (.ref tl) (.ref nw) v3h0 v4h0 v5h0 v6h0 v7h0 (.ref fr) tr2_1) dX10_well_9 mw215 mw216 mw217 mw2 mw218 rfl 10 rfl rfl 0 _ rfl yk_yX10_refuse_1 rfl (Nat.le_of_ble_eq_true rfl) (Nat.le_of_ble_eq_true rfl) (Nat.le_of_ble_eq_true rfl) (Nat.le_of_ble_eq_true rfl) (Nat.le_of_ble_eq_true rfl) rfl rfl (by decide +kernel) rfl (by decide +kernel) (by decide +kernel) ?_
    rintro r_23 w ⟨tr2_22, rfl⟩
    refine k_ws [(cO3_vvvvvrvv tl v0tl v1tl v2tl v3tl v4tl yhb v6tl v7tl), (cO8_iiri yhb 1 3 yhbc yhbn), (cAI g yhbc 3 yhbf), (cO8_iiri zr 8 3 zrc zrn), (cAI g zrc 24 zrf), (cO8_iiri zm 12 3 zmc zmn), (cAI g zmc 36 zmf), (cO8_iiri zw 6 3 zwc zwn), (cAI g zwc 18 zwf), (cO2_ll fr xu xv), (cO7_rrrrii nw zr zm zw zp zmd ztr), (cO8_iiri zp 8 2 zpc zpn), (cAI g zpc 16 zpf), (cO10_vrrvvvvvri h0 v0h0 tl nw v3h0 v4h0 v5h0 v6h0 v7h0 fr tr2_22)] rfl ?_
    refine k_i2l X dX10_well_12 ?_
    refine k_nmL (fun y_25 ey_25 => ?_)
    exact k_lret X hr dX10_well_13 (Nat.le_of_ble_eq_true rfl) (Nat.le_of_ble_eq_true rfl) [13, 0, 1, 2, 10, 3, 4, 5, 6, 7, 8, 11, 12, 9] (by decide) rfl rfl ⟨tr2_22, xu, xv, rfl⟩

theorem dX10_mark_0 : decode cX10_mark 0 = .ok (.aload_n 0, 1) := dk_42 rfl
theorem dX10_mark_1 : decode cX10_mark 1 = .ok (.getfield 26, 3) := dk_180 rfl rfl rfl rfl
theorem dX10_mark_4 : decode cX10_mark 4 = .ok (.getfield 124, 3) := dk_180 rfl rfl rfl rfl
theorem dX10_mark_7 : decode cX10_mark 7 = .ok (.iload_n 1, 1) := dk_27 rfl
theorem dX10_mark_8 : decode cX10_mark 8 = .ok (.invokevirtual 127, 3) := dk_182 rfl rfl rfl rfl
theorem dX10_mark_11 : decode cX10_mark 11 = .ok (.ifCond .eq 17, 3) := dk_153 rfl rfl rfl (by decide)
theorem dX10_mark_14 : decode cX10_mark 14 = .ok (.aload_n 0, 1) := dk_42 rfl
theorem dX10_mark_15 : decode cX10_mark 15 = .ok (.getfield 19, 3) := dk_180 rfl rfl rfl rfl
theorem dX10_mark_18 : decode cX10_mark 18 = .ok (.getfield 150, 3) := dk_180 rfl rfl rfl rfl
theorem dX10_mark_21 : decode cX10_mark 21 = .ok (.iload_n 2, 1) := dk_28 rfl
theorem dX10_mark_22 : decode cX10_mark 22 = .ok (.invokevirtual 127, 3) := dk_182 rfl rfl rfl rfl
theorem dX10_mark_25 : decode cX10_mark 25 = .ok (.ifCond .ne 9, 3) := dk_154 rfl rfl rfl (by decide)
theorem dX10_mark_28 : decode cX10_mark 28 = .ok (.aload_n 0, 1) := dk_42 rfl
theorem dX10_mark_29 : decode cX10_mark 29 = .ok (.iconst 1, 1) := dk_4 rfl
theorem dX10_mark_30 : decode cX10_mark 30 = .ok (.invokevirtual 83, 3) := dk_182 rfl rfl rfl rfl
theorem dX10_mark_33 : decode cX10_mark 33 = .ok (.ireturn, 1) := dk_172 rfl
theorem dX10_mark_34 : decode cX10_mark 34 = .ok (.aload_n 0, 1) := dk_42 rfl
theorem dX10_mark_35 : decode cX10_mark 35 = .ok (.aload_n 0, 1) := dk_42 rfl
theorem dX10_mark_36 : decode cX10_mark 36 = .ok (.getfield 26, 3) := dk_180 rfl rfl rfl rfl
theorem dX10_mark_39 : decode cX10_mark 39 = .ok (.iload_n 1, 1) := dk_27 rfl
theorem dX10_mark_40 : decode cX10_mark 40 = .ok (.iload_n 2, 1) := dk_28 rfl
theorem dX10_mark_41 : decode cX10_mark 41 = .ok (.invokevirtual 153, 3) := dk_182 rfl rfl rfl rfl
theorem dX10_mark_44 : decode cX10_mark 44 = .ok (.invokevirtual 118, 3) := dk_182 rfl rfl rfl rfl
theorem dX10_mark_47 : decode cX10_mark 47 = .ok (.ireturn, 1) := dk_172 rfl
set_option maxHeartbeats 4000000 in
set_option maxRecDepth 100000 in
theorem c_mark (l : Launch) (g : Gx) (h0 : Nat) (p0 : Int32) (p1 : Int32) (v0h0 : Value) (tl : Nat) (nw : Nat) (v3h0 : Value) (v4h0 : Value) (v5h0 : Value) (v6h0 : Value) (v7h0 : Value) (v8h0 : Value) (tr : Int32) (v0tl : Value) (v1tl : Value) (yht : Nat) (v3tl : Value) (v4tl : Value) (v5tl : Value) (v6tl : Value) (v7tl : Value) (yhtc : Nat) (yhtn : Int32) (yhtf : Nat → Int32) (zr : Nat) (zm : Nat) (zw : Nat) (zp : Nat) (zmd : Int32) (ztr : Int32) (zrc : Nat) (zrn : Int32) (zrf : Nat → Int32) (zmc : Nat) (zmn : Int32) (zmf : Nat → Int32) (zwc : Nat) (zwn : Int32) (zwf : Nat → Int32) (zpc : Nat) (zpn : Int32) (zpf : Nat → Int32) : cI l g yX10_mark cX10_mark 3 (some .int) 2 45 0 0 [.ref h0, .int p0, .int p1] [(cO10_vrrvvvvvvi h0 v0h0 tl nw v3h0 v4h0 v5h0 v6h0 v7h0 v8h0 tr), (cO3_vvrvvvvv tl v0tl v1tl yht v3tl v4tl v5tl v6tl v7tl), (cO8_iiri yht 4 1 yhtc yhtn), (cAI g yhtc 4 yhtf), (cO7_rrrrii nw zr zm zw zp zmd ztr), (cO8_iiri zr 8 3 zrc zrn), (cAI g zrc 24 zrf), (cO8_iiri zm 12 3 zmc zmn), (cAI g zmc 36 zmf), (cO8_iiri zw 6 3 zwc zwn), (cAI g zwc 18 zwf), (cO8_iiri zp 8 2 zpc zpn), (cAI g zpc 16 zpf)] (fun r w => ∃ (tr2 : Int32), w = [(cO10_vrrvvvvvvi h0 v0h0 tl nw v3h0 v4h0 v5h0 v6h0 v7h0 v8h0 tr2), (cO3_vvrvvvvv tl v0tl v1tl yht v3tl v4tl v5tl v6tl v7tl), (cO8_iiri yht 4 1 yhtc yhtn), (cAI g yhtc 4 yhtf), (cO7_rrrrii nw zr zm zw zp zmd ztr), (cO8_iiri zr 8 3 zrc zrn), (cAI g zrc 24 zrf), (cO8_iiri zm 12 3 zmc zmn), (cAI g zmc 36 zmf), (cO8_iiri zw 6 3 zwc zwn), (cAI g zwc 18 zwf), (cO8_iiri zp 8 2 zpc zpn), (cAI g zpc 16 zpf)]) := by
  refine cI.of (by decide) (Nat.le_of_ble_eq_true rfl) ?_
  intro p e s m args below meth c A X hr hi
  refine k_lveq [(0, .ref h0), (1, .int p0), (2, .int p1)] rfl ?_
  refine k_aload_n X dX10_mark_0 0 rfl ?_
  refine k_get (ci := 10) X inlX10 rfl 2 (by decide) dX10_mark_1 mw24 0 rfl rfl ?_
  refine k_get (ci := 7) X inlX7 rfl 0 (by decide) dX10_mark_4 mw643 4 rfl rfl ?_
  refine k_iload_n X dX10_mark_7 1 rfl ?_
  refine k_callVI (n := 1) (As := [.int p0]) (st := []) X [(cO8_iiri zr 8 3 zrc zrn)] [(cO10_vrrvvvvvvi h0 v0h0 tl nw v3h0 v4h0 v5h0 v6h0 v7h0 v8h0 tr), (cO3_vvrvvvvv tl v0tl v1tl yht v3tl v4tl v5tl v6tl v7tl), (cO8_iiri yht 4 1 yhtc yhtn), (cAI g yhtc 4 yhtf), (cO7_rrrrii nw zr zm zw zp zmd ztr), (cAI g zrc 24 zrf), (cO8_iiri zm 12 3 zmc zmn), (cAI g zmc 36 zmf), (cO8_iiri zw 6 3 zwc zwn), (cAI g zwc 18 zwf), (cO8_iiri zp 8 2 zpc zpn), (cAI g zpc 16 zpf)] [5] [0, 1, 2, 3, 4, 6, 7, 8, 9, 10, 11, 12] (t_has l g zr p0 (.int 8) (.int 3) (.ref zrc) zrn) dX10_mark_8 mw647 mw648 mw649 mw64 mw650 rfl 8 rfl rfl 0 _ rfl yk_yX8_has_1 rfl (Nat.le_of_ble_eq_true rfl) (Nat.le_of_ble_eq_true rfl) (Nat.le_of_ble_eq_true rfl) (Nat.le_of_ble_eq_true rfl) (Nat.le_of_ble_eq_true rfl) rfl rfl (by decide +kernel) rfl (by decide +kernel) (by decide +kernel) ?_
  rintro r_1 w ⟨hr_2, rfl⟩
  refine k_ws [(cO10_vrrvvvvvvi h0 v0h0 tl nw v3h0 v4h0 v5h0 v6h0 v7h0 v8h0 tr), (cO3_vvrvvvvv tl v0tl v1tl yht v3tl v4tl v5tl v6tl v7tl), (cO8_iiri yht 4 1 yhtc yhtn), (cAI g yhtc 4 yhtf), (cO7_rrrrii nw zr zm zw zp zmd ztr), (cAI g zrc 24 zrf), (cO8_iiri zm 12 3 zmc zmn), (cAI g zmc 36 zmf), (cO8_iiri zw 6 3 zwc zwn), (cAI g zwc 18 zwf), (cO8_iiri zp 8 2 zpc zpn), (cAI g zpc 16 zpf), (cO8_iiri zr 8 3 zrc zrn)] rfl ?_
  refine k_if_eq 28 X dX10_mark_11 (by decide) (fun h_3 => ?_) (fun h_3 => ?_)
  · skip
    refine k_aload_n X dX10_mark_28 0 rfl ?_
    refine k_iconst (v := 1) X dX10_mark_29 (by decide) ?_
    refine k_callVI (n := 1) (As := [.int 1]) (st := []) X [(cO10_vrrvvvvvvi h0 v0h0 tl nw v3h0 v4h0 v5h0 v6h0 v7h0 v8h0 tr)] [(cO3_vvrvvvvv tl v0tl v1tl yht v3tl v4tl v5tl v6tl v7tl), (cO8_iiri yht 4 1 yhtc yhtn), (cAI g yhtc 4 yhtf), (cO7_rrrrii nw zr zm zw zp zmd ztr), (cAI g zrc 24 zrf), (cO8_iiri zm 12 3 zmc zmn), (cAI g zmc 36 zmf), (cO8_iiri zw 6 3 zwc zwn), (cAI g zwc 18 zwf), (cO8_iiri zp 8 2 zpc zpn), (cAI g zpc 16 zpf), (cO8_iiri zr 8 3 zrc zrn)] [0] [1, 2, 3, 4, 5, 6, 7, 8, 9, 10, 11, 12] (c_refuse l g h0 1 v0h0 (.ref tl) (.ref nw) v3h0 v4h0 v5h0 v6h0 v7h0 v8h0 tr) dX10_mark_30 mw215 mw216 mw217 mw2 mw218 rfl 10 rfl rfl 0 _ rfl yk_yX10_refuse_1 rfl (Nat.le_of_ble_eq_true rfl) (Nat.le_of_ble_eq_true rfl) (Nat.le_of_ble_eq_true rfl) (Nat.le_of_ble_eq_true rfl) (Nat.le_of_ble_eq_true rfl) rfl rfl (by decide +kernel) rfl (by decide +kernel) (by decide +kernel) ?_
    rintro r_5 w ⟨tr2_4, rfl⟩
    refine k_ws [(cO3_vvrvvvvv tl v0tl v1tl yht v3tl v4tl v5tl v6tl v7tl), (cO8_iiri yht 4 1 yhtc yhtn), (cAI g yhtc 4 yhtf), (cO7_rrrrii nw zr zm zw zp zmd ztr), (cAI g zrc 24 zrf), (cO8_iiri zm 12 3 zmc zmn), (cAI g zmc 36 zmf), (cO8_iiri zw 6 3 zwc zwn), (cAI g zwc 18 zwf), (cO8_iiri zp 8 2 zpc zpn), (cAI g zpc 16 zpf), (cO8_iiri zr 8 3 zrc zrn), (cO10_vrrvvvvvvi h0 v0h0 tl nw v3h0 v4h0 v5h0 v6h0 v7h0 v8h0 tr2_4)] rfl ?_
    exact k_iret X hr dX10_mark_33 (Nat.le_of_ble_eq_true rfl) (Nat.le_of_ble_eq_true rfl) [12, 0, 1, 2, 3, 11, 4, 5, 6, 7, 8, 9, 10] (by decide) rfl rfl ⟨tr2_4, rfl⟩
  · skip
    refine k_aload_n X dX10_mark_14 0 rfl ?_
    refine k_get (ci := 10) X inlX10 rfl 1 (by decide) dX10_mark_15 mw20 0 rfl rfl ?_
    refine k_get (ci := 3) X inlX3 rfl 2 (by decide) dX10_mark_18 mw697 1 rfl rfl ?_
    refine k_iload_n X dX10_mark_21 2 rfl ?_
    refine k_callVI (n := 1) (As := [.int p1]) (st := []) X [(cO8_iiri yht 4 1 yhtc yhtn)] [(cO10_vrrvvvvvvi h0 v0h0 tl nw v3h0 v4h0 v5h0 v6h0 v7h0 v8h0 tr), (cO3_vvrvvvvv tl v0tl v1tl yht v3tl v4tl v5tl v6tl v7tl), (cAI g yhtc 4 yhtf), (cO7_rrrrii nw zr zm zw zp zmd ztr), (cAI g zrc 24 zrf), (cO8_iiri zm 12 3 zmc zmn), (cAI g zmc 36 zmf), (cO8_iiri zw 6 3 zwc zwn), (cAI g zwc 18 zwf), (cO8_iiri zp 8 2 zpc zpn), (cAI g zpc 16 zpf), (cO8_iiri zr 8 3 zrc zrn)] [2] [0, 1, 3, 4, 5, 6, 7, 8, 9, 10, 11, 12] (t_has l g yht p1 (.int 4) (.int 1) (.ref yhtc) yhtn) dX10_mark_22 mw647 mw648 mw649 mw64 mw650 rfl 8 rfl rfl 0 _ rfl yk_yX8_has_1 rfl (Nat.le_of_ble_eq_true rfl) (Nat.le_of_ble_eq_true rfl) (Nat.le_of_ble_eq_true rfl) (Nat.le_of_ble_eq_true rfl) (Nat.le_of_ble_eq_true rfl) rfl rfl (by decide +kernel) rfl (by decide +kernel) (by decide +kernel) ?_
    rintro r_7 w ⟨hr_8, rfl⟩
    refine k_ws [(cO10_vrrvvvvvvi h0 v0h0 tl nw v3h0 v4h0 v5h0 v6h0 v7h0 v8h0 tr), (cO3_vvrvvvvv tl v0tl v1tl yht v3tl v4tl v5tl v6tl v7tl), (cAI g yhtc 4 yhtf), (cO7_rrrrii nw zr zm zw zp zmd ztr), (cAI g zrc 24 zrf), (cO8_iiri zm 12 3 zmc zmn), (cAI g zmc 36 zmf), (cO8_iiri zw 6 3 zwc zwn), (cAI g zwc 18 zwf), (cO8_iiri zp 8 2 zpc zpn), (cAI g zpc 16 zpf), (cO8_iiri zr 8 3 zrc zrn), (cO8_iiri yht 4 1 yhtc yhtn)] rfl ?_
    refine k_if_ne 34 X dX10_mark_25 (by decide) (fun h_9 => ?_) (fun h_9 => ?_)
    · skip
      refine k_aload_n X dX10_mark_34 0 rfl ?_
      refine k_aload_n X dX10_mark_35 0 rfl ?_
      refine k_get (ci := 10) X inlX10 rfl 2 (by decide) dX10_mark_36 mw24 0 rfl rfl ?_
      refine k_iload_n X dX10_mark_39 1 rfl ?_
      refine k_iload_n X dX10_mark_40 2 rfl ?_
      refine k_callVI (n := 2) (As := [.int p0, .int p1]) (st := [.ref h0]) X [(cO7_rrrrii nw zr zm zw zp zmd ztr), (cO8_iiri zm 12 3 zmc zmn), (cAI g zmc 36 zmf)] [(cO10_vrrvvvvvvi h0 v0h0 tl nw v3h0 v4h0 v5h0 v6h0 v7h0 v8h0 tr), (cO3_vvrvvvvv tl v0tl v1tl yht v3tl v4tl v5tl v6tl v7tl), (cAI g yhtc 4 yhtf), (cAI g zrc 24 zrf), (cO8_iiri zw 6 3 zwc zwn), (cAI g zwc 18 zwf), (cO8_iiri zp 8 2 zpc zpn), (cAI g zpc 16 zpf), (cO8_iiri zr 8 3 zrc zrn), (cO8_iiri yht 4 1 yhtc yhtn)] [3, 5, 6] [0, 1, 2, 4, 7, 8, 9, 10, 11, 12] (s_markBy l g nw p0 p1 (.ref zr) zm (.ref zw) (.ref zp) zmd ztr zmc zmn zmf) dX10_mark_41 mw698 mw384 mw385 mw23 mw386 rfl 7 rfl rfl 0 _ rfl yk_yX7_markBy_2 rfl (Nat.le_of_ble_eq_true rfl) (Nat.le_of_ble_eq_true rfl) (Nat.le_of_ble_eq_true rfl) (Nat.le_of_ble_eq_true rfl) (Nat.le_of_ble_eq_true rfl) rfl rfl (by decide +kernel) rfl (by decide +kernel) (by decide +kernel) ?_
      rintro r_10 w rfl
      refine k_ws [(cO10_vrrvvvvvvi h0 v0h0 tl nw v3h0 v4h0 v5h0 v6h0 v7h0 v8h0 tr), (cO3_vvrvvvvv tl v0tl v1tl yht v3tl v4tl v5tl v6tl v7tl), (cAI g yhtc 4 yhtf), (cAI g zrc 24 zrf), (cO8_iiri zw 6 3 zwc zwn), (cAI g zwc 18 zwf), (cO8_iiri zp 8 2 zpc zpn), (cAI g zpc 16 zpf), (cO8_iiri zr 8 3 zrc zrn), (cO8_iiri yht 4 1 yhtc yhtn), (cO7_rrrrii nw zr zm zw zp zmd ztr), (cO8_iiri zm 12 3 zmc zmn), (cAI g zmc 36 zmf)] rfl ?_
      refine k_callVI (n := 1) (As := [.int r_10]) (st := []) X [(cO10_vrrvvvvvvi h0 v0h0 tl nw v3h0 v4h0 v5h0 v6h0 v7h0 v8h0 tr)] [(cO3_vvrvvvvv tl v0tl v1tl yht v3tl v4tl v5tl v6tl v7tl), (cAI g yhtc 4 yhtf), (cAI g zrc 24 zrf), (cO8_iiri zw 6 3 zwc zwn), (cAI g zwc 18 zwf), (cO8_iiri zp 8 2 zpc zpn), (cAI g zpc 16 zpf), (cO8_iiri zr 8 3 zrc zrn), (cO8_iiri yht 4 1 yhtc yhtn), (cO7_rrrrii nw zr zm zw zp zmd ztr), (cO8_iiri zm 12 3 zmc zmn), (cAI g zmc 36 zmf)] [0] [1, 2, 3, 4, 5, 6, 7, 8, 9, 10, 11, 12] (c_tell l g h0 r_10 v0h0 (.ref tl) (.ref nw) v3h0 v4h0 v5h0 v6h0 v7h0 v8h0 tr) dX10_mark_44 mw460 mw461 mw462 mw2 mw463 rfl 10 rfl rfl 0 _ rfl yk_yX10_tell_1 rfl (Nat.le_of_ble_eq_true rfl) (Nat.le_of_ble_eq_true rfl) (Nat.le_of_ble_eq_true rfl) (Nat.le_of_ble_eq_true rfl) (Nat.le_of_ble_eq_true rfl) rfl rfl (by decide +kernel) rfl (by decide +kernel) (by decide +kernel) ?_
      rintro r_13 w ⟨tr2_12, rfl⟩
      refine k_ws [(cO3_vvrvvvvv tl v0tl v1tl yht v3tl v4tl v5tl v6tl v7tl), (cAI g yhtc 4 yhtf), (cAI g zrc 24 zrf), (cO8_iiri zw 6 3 zwc zwn), (cAI g zwc 18 zwf), (cO8_iiri zp 8 2 zpc zpn), (cAI g zpc 16 zpf), (cO8_iiri zr 8 3 zrc zrn), (cO8_iiri yht 4 1 yhtc yhtn), (cO7_rrrrii nw zr zm zw zp zmd ztr), (cO8_iiri zm 12 3 zmc zmn), (cAI g zmc 36 zmf), (cO10_vrrvvvvvvi h0 v0h0 tl nw v3h0 v4h0 v5h0 v6h0 v7h0 v8h0 tr2_12)] rfl ?_
      exact k_iret X hr dX10_mark_47 (Nat.le_of_ble_eq_true rfl) (Nat.le_of_ble_eq_true rfl) [12, 0, 8, 1, 9, 7, 2, 10, 11, 3, 4, 5, 6] (by decide) rfl rfl ⟨tr2_12, rfl⟩
    · skip
      refine k_aload_n X dX10_mark_28 0 rfl ?_
      refine k_iconst (v := 1) X dX10_mark_29 (by decide) ?_
      refine k_callVI (n := 1) (As := [.int 1]) (st := []) X [(cO10_vrrvvvvvvi h0 v0h0 tl nw v3h0 v4h0 v5h0 v6h0 v7h0 v8h0 tr)] [(cO3_vvrvvvvv tl v0tl v1tl yht v3tl v4tl v5tl v6tl v7tl), (cAI g yhtc 4 yhtf), (cO7_rrrrii nw zr zm zw zp zmd ztr), (cAI g zrc 24 zrf), (cO8_iiri zm 12 3 zmc zmn), (cAI g zmc 36 zmf), (cO8_iiri zw 6 3 zwc zwn), (cAI g zwc 18 zwf), (cO8_iiri zp 8 2 zpc zpn), (cAI g zpc 16 zpf), (cO8_iiri zr 8 3 zrc zrn), (cO8_iiri yht 4 1 yhtc yhtn)] [0] [1, 2, 3, 4, 5, 6, 7, 8, 9, 10, 11, 12] (c_refuse l g h0 1 v0h0 (.ref tl) (.ref nw) v3h0 v4h0 v5h0 v6h0 v7h0 v8h0 tr) dX10_mark_30 mw215 mw216 mw217 mw2 mw218 rfl 10 rfl rfl 0 _ rfl yk_yX10_refuse_1 rfl (Nat.le_of_ble_eq_true rfl) (Nat.le_of_ble_eq_true rfl) (Nat.le_of_ble_eq_true rfl) (Nat.le_of_ble_eq_true rfl) (Nat.le_of_ble_eq_true rfl) rfl rfl (by decide +kernel) rfl (by decide +kernel) (by decide +kernel) ?_
      rintro r_16 w ⟨tr2_15, rfl⟩
      refine k_ws [(cO3_vvrvvvvv tl v0tl v1tl yht v3tl v4tl v5tl v6tl v7tl), (cAI g yhtc 4 yhtf), (cO7_rrrrii nw zr zm zw zp zmd ztr), (cAI g zrc 24 zrf), (cO8_iiri zm 12 3 zmc zmn), (cAI g zmc 36 zmf), (cO8_iiri zw 6 3 zwc zwn), (cAI g zwc 18 zwf), (cO8_iiri zp 8 2 zpc zpn), (cAI g zpc 16 zpf), (cO8_iiri zr 8 3 zrc zrn), (cO8_iiri yht 4 1 yhtc yhtn), (cO10_vrrvvvvvvi h0 v0h0 tl nw v3h0 v4h0 v5h0 v6h0 v7h0 v8h0 tr2_15)] rfl ?_
      exact k_iret X hr dX10_mark_33 (Nat.le_of_ble_eq_true rfl) (Nat.le_of_ble_eq_true rfl) [12, 0, 11, 1, 2, 10, 3, 4, 5, 6, 7, 8, 9] (by decide) rfl rfl ⟨tr2_15, rfl⟩

theorem dX10_shows_0 : decode cX10_shows 0 = .ok (.aload_n 0, 1) := dk_42 rfl
theorem dX10_shows_1 : decode cX10_shows 1 = .ok (.iload_n 1, 1) := dk_27 rfl
theorem dX10_shows_2 : decode cX10_shows 2 = .ok (.iconst 0, 1) := dk_3 rfl
theorem dX10_shows_3 : decode cX10_shows 3 = .ok (.invokevirtual 156, 3) := dk_182 rfl rfl rfl rfl
theorem dX10_shows_6 : decode cX10_shows 6 = .ok (.ireturn, 1) := dk_172 rfl
set_option maxHeartbeats 4000000 in
set_option maxRecDepth 100000 in
theorem c_shows (l : Launch) (g : Gx) (h0 : Nat) (p0 : Int32) (v0h0 : Value) (v1h0 : Value) (nw : Nat) (v3h0 : Value) (v4h0 : Value) (v5h0 : Value) (v6h0 : Value) (v7h0 : Value) (v8h0 : Value) (tr : Int32) (zr : Nat) (zm : Nat) (zw : Nat) (zp : Nat) (zmd : Int32) (ztr : Int32) (zrc : Nat) (zrn : Int32) (zrf : Nat → Int32) (zmc : Nat) (zmn : Int32) (zmf : Nat → Int32) (zwc : Nat) (zwn : Int32) (zwf : Nat → Int32) (zpc : Nat) (zpn : Int32) (zpf : Nat → Int32) : cI l g yX10_shows cX10_shows 2 (some .int) 2 44 0 0 [.ref h0, .int p0] [(cO10_vvrvvvvvvi h0 v0h0 v1h0 nw v3h0 v4h0 v5h0 v6h0 v7h0 v8h0 tr), (cO7_rrrrii nw zr zm zw zp zmd ztr), (cO8_iiri zr 8 3 zrc zrn), (cAI g zrc 24 zrf), (cO8_iiri zm 12 3 zmc zmn), (cAI g zmc 36 zmf), (cO8_iiri zw 6 3 zwc zwn), (cAI g zwc 18 zwf), (cO8_iiri zp 8 2 zpc zpn), (cAI g zpc 16 zpf)] (fun r w => ∃ (tr2 : Int32), w = [(cO10_vvrvvvvvvi h0 v0h0 v1h0 nw v3h0 v4h0 v5h0 v6h0 v7h0 v8h0 tr2), (cO7_rrrrii nw zr zm zw zp zmd ztr), (cO8_iiri zr 8 3 zrc zrn), (cAI g zrc 24 zrf), (cO8_iiri zm 12 3 zmc zmn), (cAI g zmc 36 zmf), (cO8_iiri zw 6 3 zwc zwn), (cAI g zwc 18 zwf), (cO8_iiri zp 8 2 zpc zpn), (cAI g zpc 16 zpf)]) := by
  refine cI.of (by decide) (Nat.le_of_ble_eq_true rfl) ?_
  intro p e s m args below meth c A X hr hi
  refine k_lveq [(0, .ref h0), (1, .int p0)] rfl ?_
  refine k_aload_n X dX10_shows_0 0 rfl ?_
  refine k_iload_n X dX10_shows_1 1 rfl ?_
  refine k_iconst (v := 0) X dX10_shows_2 (by decide) ?_
  refine k_callVI (n := 2) (As := [.int p0, .int 0]) (st := []) X [(cO10_vvrvvvvvvi h0 v0h0 v1h0 nw v3h0 v4h0 v5h0 v6h0 v7h0 v8h0 tr), (cO7_rrrrii nw zr zm zw zp zmd ztr), (cO8_iiri zp 8 2 zpc zpn), (cAI g zpc 16 zpf)] [(cO8_iiri zr 8 3 zrc zrn), (cAI g zrc 24 zrf), (cO8_iiri zm 12 3 zmc zmn), (cAI g zmc 36 zmf), (cO8_iiri zw 6 3 zwc zwn), (cAI g zwc 18 zwf)] [0, 1, 8, 9] [2, 3, 4, 5, 6, 7] (c_ofPlace l g h0 p0 0 v0h0 v1h0 nw v3h0 v4h0 v5h0 v6h0 v7h0 v8h0 tr (.ref zr) (.ref zm) (.ref zw) zp zmd ztr zpc zpn zpf) dX10_shows_3 mw711 mw712 mw713 mw2 mw714 rfl 10 rfl rfl 0 _ rfl yk_yX10_ofPlace_2 rfl (Nat.le_of_ble_eq_true rfl) (Nat.le_of_ble_eq_true rfl) (Nat.le_of_ble_eq_true rfl) (Nat.le_of_ble_eq_true rfl) (Nat.le_of_ble_eq_true rfl) rfl rfl (by decide) rfl (by decide) (by decide) ?_
  rintro r_2 w ⟨tr2_1, rfl⟩
  refine k_ws [(cO8_iiri zr 8 3 zrc zrn), (cAI g zrc 24 zrf), (cO8_iiri zm 12 3 zmc zmn), (cAI g zmc 36 zmf), (cO8_iiri zw 6 3 zwc zwn), (cAI g zwc 18 zwf), (cO10_vvrvvvvvvi h0 v0h0 v1h0 nw v3h0 v4h0 v5h0 v6h0 v7h0 v8h0 tr2_1), (cO7_rrrrii nw zr zm zw zp zmd ztr), (cO8_iiri zp 8 2 zpc zpn), (cAI g zpc 16 zpf)] rfl ?_
  exact k_iret X hr dX10_shows_6 (Nat.le_of_ble_eq_true rfl) (Nat.le_of_ble_eq_true rfl) [6, 7, 0, 1, 2, 3, 4, 5, 8, 9] (by decide) rfl rfl ⟨tr2_1, rfl⟩

theorem dX10_thread_0 : decode cX10_thread 0 = .ok (.aload_n 0, 1) := dk_42 rfl
theorem dX10_thread_1 : decode cX10_thread 1 = .ok (.iload_n 1, 1) := dk_27 rfl
theorem dX10_thread_2 : decode cX10_thread 2 = .ok (.iconst 1, 1) := dk_4 rfl
theorem dX10_thread_3 : decode cX10_thread 3 = .ok (.invokevirtual 156, 3) := dk_182 rfl rfl rfl rfl
theorem dX10_thread_6 : decode cX10_thread 6 = .ok (.ireturn, 1) := dk_172 rfl
set_option maxHeartbeats 4000000 in
set_option maxRecDepth 100000 in
theorem c_thread (l : Launch) (g : Gx) (h0 : Nat) (p0 : Int32) (v0h0 : Value) (v1h0 : Value) (nw : Nat) (v3h0 : Value) (v4h0 : Value) (v5h0 : Value) (v6h0 : Value) (v7h0 : Value) (v8h0 : Value) (tr : Int32) (zr : Nat) (zm : Nat) (zw : Nat) (zp : Nat) (zmd : Int32) (ztr : Int32) (zrc : Nat) (zrn : Int32) (zrf : Nat → Int32) (zmc : Nat) (zmn : Int32) (zmf : Nat → Int32) (zwc : Nat) (zwn : Int32) (zwf : Nat → Int32) (zpc : Nat) (zpn : Int32) (zpf : Nat → Int32) : cI l g yX10_thread cX10_thread 2 (some .int) 2 44 0 0 [.ref h0, .int p0] [(cO10_vvrvvvvvvi h0 v0h0 v1h0 nw v3h0 v4h0 v5h0 v6h0 v7h0 v8h0 tr), (cO7_rrrrii nw zr zm zw zp zmd ztr), (cO8_iiri zr 8 3 zrc zrn), (cAI g zrc 24 zrf), (cO8_iiri zm 12 3 zmc zmn), (cAI g zmc 36 zmf), (cO8_iiri zw 6 3 zwc zwn), (cAI g zwc 18 zwf), (cO8_iiri zp 8 2 zpc zpn), (cAI g zpc 16 zpf)] (fun r w => ∃ (tr2 : Int32), w = [(cO10_vvrvvvvvvi h0 v0h0 v1h0 nw v3h0 v4h0 v5h0 v6h0 v7h0 v8h0 tr2), (cO7_rrrrii nw zr zm zw zp zmd ztr), (cO8_iiri zr 8 3 zrc zrn), (cAI g zrc 24 zrf), (cO8_iiri zm 12 3 zmc zmn), (cAI g zmc 36 zmf), (cO8_iiri zw 6 3 zwc zwn), (cAI g zwc 18 zwf), (cO8_iiri zp 8 2 zpc zpn), (cAI g zpc 16 zpf)]) := by
  refine cI.of (by decide) (Nat.le_of_ble_eq_true rfl) ?_
  intro p e s m args below meth c A X hr hi
  refine k_lveq [(0, .ref h0), (1, .int p0)] rfl ?_
  refine k_aload_n X dX10_thread_0 0 rfl ?_
  refine k_iload_n X dX10_thread_1 1 rfl ?_
  refine k_iconst (v := 1) X dX10_thread_2 (by decide) ?_
  refine k_callVI (n := 2) (As := [.int p0, .int 1]) (st := []) X [(cO10_vvrvvvvvvi h0 v0h0 v1h0 nw v3h0 v4h0 v5h0 v6h0 v7h0 v8h0 tr), (cO7_rrrrii nw zr zm zw zp zmd ztr), (cO8_iiri zp 8 2 zpc zpn), (cAI g zpc 16 zpf)] [(cO8_iiri zr 8 3 zrc zrn), (cAI g zrc 24 zrf), (cO8_iiri zm 12 3 zmc zmn), (cAI g zmc 36 zmf), (cO8_iiri zw 6 3 zwc zwn), (cAI g zwc 18 zwf)] [0, 1, 8, 9] [2, 3, 4, 5, 6, 7] (c_ofPlace l g h0 p0 1 v0h0 v1h0 nw v3h0 v4h0 v5h0 v6h0 v7h0 v8h0 tr (.ref zr) (.ref zm) (.ref zw) zp zmd ztr zpc zpn zpf) dX10_thread_3 mw711 mw712 mw713 mw2 mw714 rfl 10 rfl rfl 0 _ rfl yk_yX10_ofPlace_2 rfl (Nat.le_of_ble_eq_true rfl) (Nat.le_of_ble_eq_true rfl) (Nat.le_of_ble_eq_true rfl) (Nat.le_of_ble_eq_true rfl) (Nat.le_of_ble_eq_true rfl) rfl rfl (by decide) rfl (by decide) (by decide) ?_
  rintro r_2 w ⟨tr2_1, rfl⟩
  refine k_ws [(cO8_iiri zr 8 3 zrc zrn), (cAI g zrc 24 zrf), (cO8_iiri zm 12 3 zmc zmn), (cAI g zmc 36 zmf), (cO8_iiri zw 6 3 zwc zwn), (cAI g zwc 18 zwf), (cO10_vvrvvvvvvi h0 v0h0 v1h0 nw v3h0 v4h0 v5h0 v6h0 v7h0 v8h0 tr2_1), (cO7_rrrrii nw zr zm zw zp zmd ztr), (cO8_iiri zp 8 2 zpc zpn), (cAI g zpc 16 zpf)] rfl ?_
  exact k_iret X hr dX10_thread_6 (Nat.le_of_ble_eq_true rfl) (Nat.le_of_ble_eq_true rfl) [6, 7, 0, 1, 2, 3, 4, 5, 8, 9] (by decide) rfl rfl ⟨tr2_1, rfl⟩
