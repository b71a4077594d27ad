theorem dX9_write_0 : decode cX9_write 0 = .ok (.bipush 24, 2) := dk_16 rfl rfl (by decide)
theorem dX9_write_2 : decode cX9_write 2 = .ok (.istore_n 2, 1) := dk_61 rfl
theorem dX9_write_3 : decode cX9_write 3 = .ok (.iload_n 2, 1) := dk_28 rfl
theorem dX9_write_4 : decode cX9_write 4 = .ok (.ifCond .lt 51, 3) := dk_155 rfl rfl rfl (by decide)
theorem dX9_write_7 : decode cX9_write 7 = .ok (.aload_n 0, 1) := dk_42 rfl
theorem dX9_write_8 : decode cX9_write 8 = .ok (.getfield 9, 3) := dk_180 rfl rfl rfl rfl
theorem dX9_write_11 : decode cX9_write 11 = .ok (.ifCond .lt 38, 3) := dk_155 rfl rfl rfl (by decide)
theorem dX9_write_14 : decode cX9_write 14 = .ok (.aload_n 0, 1) := dk_42 rfl
theorem dX9_write_15 : decode cX9_write 15 = .ok (.getfield 9, 3) := dk_180 rfl rfl rfl rfl
theorem dX9_write_18 : decode cX9_write 18 = .ok (.aload_n 0, 1) := dk_42 rfl
theorem dX9_write_19 : decode cX9_write 19 = .ok (.getfield 28, 3) := dk_180 rfl rfl rfl rfl
theorem dX9_write_22 : decode cX9_write 22 = .ok (.arraylength, 1) := dk_190 rfl
theorem dX9_write_23 : decode cX9_write 23 = .ok (.if_icmp .ge 26, 3) := dk_162 rfl rfl rfl (by decide)
theorem dX9_write_26 : decode cX9_write 26 = .ok (.aload_n 0, 1) := dk_42 rfl
theorem dX9_write_27 : decode cX9_write 27 = .ok (.getfield 28, 3) := dk_180 rfl rfl rfl rfl
theorem dX9_write_30 : decode cX9_write 30 = .ok (.aload_n 0, 1) := dk_42 rfl
theorem dX9_write_31 : decode cX9_write 31 = .ok (.getfield 9, 3) := dk_180 rfl rfl rfl rfl
theorem dX9_write_34 : decode cX9_write 34 = .ok (.iload_n 1, 1) := dk_27 rfl
theorem dX9_write_35 : decode cX9_write 35 = .ok (.iload_n 2, 1) := dk_28 rfl
theorem dX9_write_36 : decode cX9_write 36 = .ok (.ishr, 1) := dk_122 rfl
theorem dX9_write_37 : decode cX9_write 37 = .ok (.i2b, 1) := dk_145 rfl
theorem dX9_write_38 : decode cX9_write 38 = .ok (.bastore, 1) := dk_84 rfl
theorem dX9_write_39 : decode cX9_write 39 = .ok (.aload_n 0, 1) := dk_42 rfl
theorem dX9_write_40 : decode cX9_write 40 = .ok (.dup, 1) := dk_89 rfl
theorem dX9_write_41 : decode cX9_write 41 = .ok (.getfield 9, 3) := dk_180 rfl rfl rfl rfl
theorem dX9_write_44 : decode cX9_write 44 = .ok (.iconst 1, 1) := dk_4 rfl
theorem dX9_write_45 : decode cX9_write 45 = .ok (.iadd, 1) := dk_96 rfl
theorem dX9_write_46 : decode cX9_write 46 = .ok (.putfield 9, 3) := dk_181 rfl rfl rfl rfl
theorem dX9_write_49 : decode cX9_write 49 = .ok (.iinc 2 (-8), 3) := dk_132 rfl rfl rfl rfl (by decide)
theorem dX9_write_52 : decode cX9_write 52 = .ok (.goto (-49), 3) := dk_167 rfl rfl rfl (by decide)
theorem dX9_write_55 : decode cX9_write 55 = .ok (.return_, 1) := dk_177 rfl
theorem dX10_feed_0 : decode cX10_feed 0 = .ok (.aload_n 0, 1) := dk_42 rfl
theorem dX10_feed_1 : decode cX10_feed 1 = .ok (.getfield 10, 3) := dk_180 rfl rfl rfl rfl
theorem dX10_feed_4 : decode cX10_feed 4 = .ok (.getfield 76, 3) := dk_180 rfl rfl rfl rfl
theorem dX10_feed_7 : decode cX10_feed 7 = .ok (.bipush 20, 2) := dk_16 rfl rfl (by decide)
theorem dX10_feed_9 : decode cX10_feed 9 = .ok (.iadd, 1) := dk_96 rfl
theorem dX10_feed_10 : decode cX10_feed 10 = .ok (.sipush 900, 3) := dk_17 rfl rfl rfl (by decide)
theorem dX10_feed_13 : decode cX10_feed 13 = .ok (.if_icmp .le 5, 3) := dk_164 rfl rfl rfl (by decide)
theorem dX10_feed_16 : decode cX10_feed 16 = .ok (.iconst (-1), 1) := dk_2 rfl
theorem dX10_feed_17 : decode cX10_feed 17 = .ok (.ireturn, 1) := dk_172 rfl
theorem dX10_feed_18 : decode cX10_feed 18 = .ok (.aload_n 0, 1) := dk_42 rfl
theorem dX10_feed_19 : decode cX10_feed 19 = .ok (.getfield 10, 3) := dk_180 rfl rfl rfl rfl
theorem dX10_feed_22 : decode cX10_feed 22 = .ok (.iload_n 1, 1) := dk_27 rfl
theorem dX10_feed_23 : decode cX10_feed 23 = .ok (.invokevirtual 79, 3) := dk_182 rfl rfl rfl rfl
theorem dX10_feed_26 : decode cX10_feed 26 = .ok (.aload_n 0, 1) := dk_42 rfl
theorem dX10_feed_27 : decode cX10_feed 27 = .ok (.getfield 10, 3) := dk_180 rfl rfl rfl rfl
theorem dX10_feed_30 : decode cX10_feed 30 = .ok (.iload_n 2, 1) := dk_28 rfl
theorem dX10_feed_31 : decode cX10_feed 31 = .ok (.invokevirtual 79, 3) := dk_182 rfl rfl rfl rfl
theorem dX10_feed_34 : decode cX10_feed 34 = .ok (.aload_n 0, 1) := dk_42 rfl
theorem dX10_feed_35 : decode cX10_feed 35 = .ok (.getfield 10, 3) := dk_180 rfl rfl rfl rfl
theorem dX10_feed_38 : decode cX10_feed 38 = .ok (.iload_n 3, 1) := dk_29 rfl
theorem dX10_feed_39 : decode cX10_feed 39 = .ok (.invokevirtual 79, 3) := dk_182 rfl rfl rfl rfl
theorem dX10_feed_42 : decode cX10_feed 42 = .ok (.aload_n 0, 1) := dk_42 rfl
theorem dX10_feed_43 : decode cX10_feed 43 = .ok (.getfield 10, 3) := dk_180 rfl rfl rfl rfl
theorem dX10_feed_46 : decode cX10_feed 46 = .ok (.iload 4, 2) := dk_21 rfl rfl rfl
theorem dX10_feed_48 : decode cX10_feed 48 = .ok (.invokevirtual 79, 3) := dk_182 rfl rfl rfl rfl
theorem dX10_feed_51 : decode cX10_feed 51 = .ok (.aload_n 0, 1) := dk_42 rfl
theorem dX10_feed_52 : decode cX10_feed 52 = .ok (.getfield 10, 3) := dk_180 rfl rfl rfl rfl
theorem dX10_feed_55 : decode cX10_feed 55 = .ok (.iload 5, 2) := dk_21 rfl rfl rfl
theorem dX10_feed_57 : decode cX10_feed 57 = .ok (.invokevirtual 79, 3) := dk_182 rfl rfl rfl rfl
theorem dX10_feed_60 : decode cX10_feed 60 = .ok (.aload_n 0, 1) := dk_42 rfl
theorem dX10_feed_61 : decode cX10_feed 61 = .ok (.getfield 10, 3) := dk_180 rfl rfl rfl rfl
theorem dX10_feed_64 : decode cX10_feed 64 = .ok (.getfield 76, 3) := dk_180 rfl rfl rfl rfl
theorem dX10_feed_67 : decode cX10_feed 67 = .ok (.ireturn, 1) := dk_172 rfl
theorem dX9_read_0 : decode cX9_read 0 = .ok (.aload_n 0, 1) := dk_42 rfl
theorem dX9_read_1 : decode cX9_read 1 = .ok (.iconst 0, 1) := dk_3 rfl
theorem dX9_read_2 : decode cX9_read 2 = .ok (.putfield 9, 3) := dk_181 rfl rfl rfl rfl
theorem dX9_read_5 : decode cX9_read 5 = .ok (.aload_n 0, 1) := dk_42 rfl
theorem dX9_read_6 : decode cX9_read 6 = .ok (.iload_n 1, 1) := dk_27 rfl
theorem dX9_read_7 : decode cX9_read 7 = .ok (.putfield 32, 3) := dk_181 rfl rfl rfl rfl
theorem dX9_read_10 : decode cX9_read 10 = .ok (.aload_n 0, 1) := dk_42 rfl
theorem dX9_read_11 : decode cX9_read 11 = .ok (.iconst 0, 1) := dk_3 rfl
theorem dX9_read_12 : decode cX9_read 12 = .ok (.putfield 54, 3) := dk_181 rfl rfl rfl rfl
theorem dX9_read_15 : decode cX9_read 15 = .ok (.aload_n 0, 1) := dk_42 rfl
theorem dX9_read_16 : decode cX9_read 16 = .ok (.getfield 18, 3) := dk_180 rfl rfl rfl rfl
theorem dX9_read_19 : decode cX9_read 19 = .ok (.invokevirtual 70, 3) := dk_182 rfl rfl rfl rfl
theorem dX9_read_22 : decode cX9_read 22 = .ok (.aload_n 0, 1) := dk_42 rfl
theorem dX9_read_23 : decode cX9_read 23 = .ok (.getfield 44, 3) := dk_180 rfl rfl rfl rfl
theorem dX9_read_26 : decode cX9_read 26 = .ok (.invokevirtual 73, 3) := dk_182 rfl rfl rfl rfl
theorem dX9_read_29 : decode cX9_read 29 = .ok (.aload_n 0, 1) := dk_42 rfl
theorem dX9_read_30 : decode cX9_read 30 = .ok (.iconst 0, 1) := dk_3 rfl
theorem dX9_read_31 : decode cX9_read 31 = .ok (.putfield 22, 3) := dk_181 rfl rfl rfl rfl
theorem dX9_read_34 : decode cX9_read 34 = .ok (.aload_n 0, 1) := dk_42 rfl
theorem dX9_read_35 : decode cX9_read 35 = .ok (.iconst 0, 1) := dk_3 rfl
theorem dX9_read_36 : decode cX9_read 36 = .ok (.putfield 25, 3) := dk_181 rfl rfl rfl rfl
theorem dX9_read_39 : decode cX9_read 39 = .ok (.aload_n 0, 1) := dk_42 rfl
theorem dX9_read_40 : decode cX9_read 40 = .ok (.invokevirtual 74, 3) := dk_182 rfl rfl rfl rfl
theorem dX9_read_43 : decode cX9_read 43 = .ok (.iconst 1, 1) := dk_4 rfl
theorem dX9_read_44 : decode cX9_read 44 = .ok (.istore_n 2, 1) := dk_61 rfl
theorem dX9_read_45 : decode cX9_read 45 = .ok (.iconst 0, 1) := dk_3 rfl
theorem dX9_read_46 : decode cX9_read 46 = .ok (.istore_n 3, 1) := dk_62 rfl
theorem dX9_read_47 : decode cX9_read 47 = .ok (.iload_n 2, 1) := dk_28 rfl
theorem dX9_read_48 : decode cX9_read 48 = .ok (.ifCond .eq 37, 3) := dk_153 rfl rfl rfl (by decide)
theorem dX9_read_51 : decode cX9_read 51 = .ok (.iload_n 3, 1) := dk_29 rfl
theorem dX9_read_52 : decode cX9_read 52 = .ok (.aload_n 0, 1) := dk_42 rfl
theorem dX9_read_53 : decode cX9_read 53 = .ok (.getfield 32, 3) := dk_180 rfl rfl rfl rfl
theorem dX9_read_56 : decode cX9_read 56 = .ok (.if_icmp .gt 29, 3) := dk_163 rfl rfl rfl (by decide)
theorem dX9_read_59 : decode cX9_read 59 = .ok (.aload_n 0, 1) := dk_42 rfl
theorem dX9_read_60 : decode cX9_read 60 = .ok (.invokevirtual 77, 3) := dk_182 rfl rfl rfl rfl
theorem dX9_read_63 : decode cX9_read 63 = .ok (.ifCond .eq 14, 3) := dk_153 rfl rfl rfl (by decide)
theorem dX9_read_66 : decode cX9_read 66 = .ok (.aload_n 0, 1) := dk_42 rfl
theorem dX9_read_67 : decode cX9_read 67 = .ok (.invokevirtual 81, 3) := dk_182 rfl rfl rfl rfl
theorem dX9_read_70 : decode cX9_read 70 = .ok (.ifCond .eq 7, 3) := dk_153 rfl rfl rfl (by decide)
theorem dX9_read_73 : decode cX9_read 73 = .ok (.iconst 1, 1) := dk_4 rfl
theorem dX9_read_74 : decode cX9_read 74 = .ok (.goto 4, 3) := dk_167 rfl rfl rfl (by decide)
theorem dX9_read_77 : decode cX9_read 77 = .ok (.iconst 0, 1) := dk_3 rfl
theorem dX9_read_78 : decode cX9_read 78 = .ok (.istore_n 2, 1) := dk_61 rfl
theorem dX9_read_79 : decode cX9_read 79 = .ok (.iinc 3 1, 3) := dk_132 rfl rfl rfl rfl (by decide)
theorem dX9_read_82 : decode cX9_read 82 = .ok (.goto (-35), 3) := dk_167 rfl rfl rfl (by decide)
theorem dX9_read_85 : decode cX9_read 85 = .ok (.return_, 1) := dk_177 rfl
theorem dX4_forget_0 : decode cX4_forget 0 = .ok (.aload_n 0, 1) := dk_42 rfl
theorem dX4_forget_1 : decode cX4_forget 1 = .ok (.iconst 0, 1) := dk_3 rfl
theorem dX4_forget_2 : decode cX4_forget 2 = .ok (.putfield 20, 3) := dk_181 rfl rfl rfl rfl
theorem dX4_forget_5 : decode cX4_forget 5 = .ok (.aload_n 0, 1) := dk_42 rfl
theorem dX4_forget_6 : decode cX4_forget 6 = .ok (.iconst 0, 1) := dk_3 rfl
theorem dX4_forget_7 : decode cX4_forget 7 = .ok (.putfield 27, 3) := dk_181 rfl rfl rfl rfl
theorem dX4_forget_10 : decode cX4_forget 10 = .ok (.return_, 1) := dk_177 rfl
theorem dX10_house_0 : decode cX10_house 0 = .ok (.iload_n 1, 1) := dk_27 rfl
theorem dX10_house_1 : decode cX10_house 1 = .ok (.ifCond .lt 14, 3) := dk_155 rfl rfl rfl (by decide)
theorem dX10_house_4 : decode cX10_house 4 = .ok (.iload_n 1, 1) := dk_27 rfl
theorem dX10_house_5 : decode cX10_house 5 = .ok (.aload_n 0, 1) := dk_42 rfl
theorem dX10_house_6 : decode cX10_house 6 = .ok (.getfield 10, 3) := dk_180 rfl rfl rfl rfl
theorem dX10_house_9 : decode cX10_house 9 = .ok (.getfield 76, 3) := dk_180 rfl rfl rfl rfl
theorem dX10_house_12 : decode cX10_house 12 = .ok (.if_icmp .le 9, 3) := dk_164 rfl rfl rfl (by decide)
theorem dX10_house_15 : decode cX10_house 15 = .ok (.aload_n 0, 1) := dk_42 rfl
theorem dX10_house_16 : decode cX10_house 16 = .ok (.iconst 2, 1) := dk_5 rfl
theorem dX10_house_17 : decode cX10_house 17 = .ok (.invokevirtual 83, 3) := dk_182 rfl rfl rfl rfl
theorem dX10_house_20 : decode cX10_house 20 = .ok (.ireturn, 1) := dk_172 rfl
theorem dX10_house_21 : decode cX10_house 21 = .ok (.aload_n 0, 1) := dk_42 rfl
theorem dX10_house_22 : decode cX10_house 22 = .ok (.getfield 10, 3) := dk_180 rfl rfl rfl rfl
theorem dX10_house_25 : decode cX10_house 25 = .ok (.iload_n 1, 1) := dk_27 rfl
theorem dX10_house_26 : decode cX10_house 26 = .ok (.invokevirtual 87, 3) := dk_182 rfl rfl rfl rfl
theorem dX10_house_29 : decode cX10_house 29 = .ok (.aload_n 0, 1) := dk_42 rfl
theorem dX10_house_30 : decode cX10_house 30 = .ok (.getfield 10, 3) := dk_180 rfl rfl rfl rfl
theorem dX10_house_33 : decode cX10_house 33 = .ok (.getfield 90, 3) := dk_180 rfl rfl rfl rfl
theorem dX10_house_36 : decode cX10_house 36 = .ok (.ifCond .eq 9, 3) := dk_153 rfl rfl rfl (by decide)
theorem dX10_house_39 : decode cX10_house 39 = .ok (.aload_n 0, 1) := dk_42 rfl
theorem dX10_house_40 : decode cX10_house 40 = .ok (.iconst 4, 1) := dk_7 rfl
theorem dX10_house_41 : decode cX10_house 41 = .ok (.invokevirtual 83, 3) := dk_182 rfl rfl rfl rfl
theorem dX10_house_44 : decode cX10_house 44 = .ok (.ireturn, 1) := dk_172 rfl
theorem dX10_house_45 : decode cX10_house 45 = .ok (.aload_n 0, 1) := dk_42 rfl
theorem dX10_house_46 : decode cX10_house 46 = .ok (.getfield 19, 3) := dk_180 rfl rfl rfl rfl
theorem dX10_house_49 : decode cX10_house 49 = .ok (.aload_n 0, 1) := dk_42 rfl
theorem dX10_house_50 : decode cX10_house 50 = .ok (.getfield 10, 3) := dk_180 rfl rfl rfl rfl
theorem dX10_house_53 : decode cX10_house 53 = .ok (.getfield 93, 3) := dk_180 rfl rfl rfl rfl
theorem dX10_house_56 : decode cX10_house 56 = .ok (.invokevirtual 96, 3) := dk_182 rfl rfl rfl rfl
theorem dX10_house_59 : decode cX10_house 59 = .ok (.aload_n 0, 1) := dk_42 rfl
theorem dX10_house_60 : decode cX10_house 60 = .ok (.getfield 26, 3) := dk_180 rfl rfl rfl rfl
theorem dX10_house_63 : decode cX10_house 63 = .ok (.aload_n 0, 1) := dk_42 rfl
theorem dX10_house_64 : decode cX10_house 64 = .ok (.getfield 19, 3) := dk_180 rfl rfl rfl rfl
theorem dX10_house_67 : decode cX10_house 67 = .ok (.getfield 100, 3) := dk_180 rfl rfl rfl rfl
theorem dX10_house_70 : decode cX10_house 70 = .ok (.invokevirtual 103, 3) := dk_182 rfl rfl rfl rfl
theorem dX10_house_73 : decode cX10_house 73 = .ok (.aload_n 0, 1) := dk_42 rfl
theorem dX10_house_74 : decode cX10_house 74 = .ok (.getfield 33, 3) := dk_180 rfl rfl rfl rfl
theorem dX10_house_77 : decode cX10_house 77 = .ok (.invokevirtual 106, 3) := dk_182 rfl rfl rfl rfl
theorem dX10_house_80 : decode cX10_house 80 = .ok (.aload_n 0, 1) := dk_42 rfl
theorem dX10_house_81 : decode cX10_house 81 = .ok (.aload_n 0, 1) := dk_42 rfl
theorem dX10_house_82 : decode cX10_house 82 = .ok (.getfield 26, 3) := dk_180 rfl rfl rfl rfl
theorem dX10_house_85 : decode cX10_house 85 = .ok (.getfield 109, 3) := dk_180 rfl rfl rfl rfl
theorem dX10_house_88 : decode cX10_house 88 = .ok (.getfield 113, 3) := dk_180 rfl rfl rfl rfl
theorem dX10_house_91 : decode cX10_house 91 = .ok (.invokevirtual 118, 3) := dk_182 rfl rfl rfl rfl
theorem dX10_house_94 : decode cX10_house 94 = .ok (.ireturn, 1) := dk_172 rfl
theorem dX10_fault_0 : decode cX10_fault 0 = .ok (.aload_n 0, 1) := dk_42 rfl
theorem dX10_fault_1 : decode cX10_fault 1 = .ok (.getfield 10, 3) := dk_180 rfl rfl rfl rfl
theorem dX10_fault_4 : decode cX10_fault 4 = .ok (.getfield 90, 3) := dk_180 rfl rfl rfl rfl
theorem dX10_fault_7 : decode cX10_fault 7 = .ok (.ireturn, 1) := dk_172 rfl
set_option maxHeartbeats 4000000 in
set_option maxRecDepth 100000 in
theorem c_fault (l : Launch) (g : Gx) (h0 : Nat) (tt : Nat) (v1h0 : Value) (v2h0 : Value) (v3h0 : Value) (v4h0 : Value) (v5h0 : Value) (v6h0 : Value) (v7h0 : Value) (v8h0 : Value) (tr : Int32) (xtpd : Int32) (th : Nat) (xfn : Int32) (xfp : Int32) (tp : Nat) (xen : Int32) (nm : Nat) (nd : Nat) (xkd : Int32) (xsta : Int32) (xpo : Int32) (xva : Int32) (xle : Int64) (xtk : Int32) (xta : Int32) (tpf : Nat → Int32) : cI l g yX10_fault cX10_fault 1 (some .int) 0 0 0 0 [.ref h0] [(cO10_rvvvvvvvvi h0 tt v1h0 v2h0 v3h0 v4h0 v5h0 v6h0 v7h0 v8h0 tr), (cO9_i1r1i2r1i1r2i4l1i2 tt xtpd th xfn xfp tp xen nm nd xkd xsta xpo xva xle xtk xta), (cAB g tp 900 tpf)] (fun r w => w = [(cO10_rvvvvvvvvi h0 tt v1h0 v2h0 v3h0 v4h0 v5h0 v6h0 v7h0 v8h0 tr), (cO9_i1r1i2r1i1r2i4l1i2 tt xtpd th xfn xfp tp xen nm nd xkd xsta xpo xva xle xtk xta), (cAB g tp 900 tpf)]) := by
  refine cI.of (by decide) (Nat.le_of_ble_eq_true rfl) ?_
  intro p e s m args below meth c A X hr hi
  refine k_lveq [(0, .ref h0)] rfl ?_
  refine k_aload_n X dX10_fault_0 0 rfl ?_
  refine k_get (ci := 10) X inlX10 rfl 0 (by decide) dX10_fault_1 mw16 0 rfl rfl ?_
  refine k_get (ci := 9) X inlX9 rfl 2 (by decide) dX10_fault_4 mw210 1 rfl rfl ?_
  exact k_iret X hr dX10_fault_7 (Nat.le_of_ble_eq_true rfl) (Nat.le_of_ble_eq_true rfl) [0, 1, 2] (by decide) rfl rfl rfl

theorem dX10_where_0 : decode cX10_where 0 = .ok (.aload_n 0, 1) := dk_42 rfl
theorem dX10_where_1 : decode cX10_where 1 = .ok (.getfield 72, 3) := dk_180 rfl rfl rfl rfl
theorem dX10_where_4 : decode cX10_where 4 = .ok (.iconst 4, 1) := dk_7 rfl
theorem dX10_where_5 : decode cX10_where 5 = .ok (.if_icmp .ne 13, 3) := dk_160 rfl rfl rfl (by decide)
theorem dX10_where_8 : decode cX10_where 8 = .ok (.aload_n 0, 1) := dk_42 rfl
theorem dX10_where_9 : decode cX10_where 9 = .ok (.getfield 10, 3) := dk_180 rfl rfl rfl rfl
theorem dX10_where_12 : decode cX10_where 12 = .ok (.getfield 121, 3) := dk_180 rfl rfl rfl rfl
theorem dX10_where_15 : decode cX10_where 15 = .ok (.goto 4, 3) := dk_167 rfl rfl rfl (by decide)
theorem dX10_where_18 : decode cX10_where 18 = .ok (.iconst (-1), 1) := dk_2 rfl
theorem dX10_where_19 : decode cX10_where 19 = .ok (.ireturn, 1) := dk_172 rfl
set_option maxHeartbeats 4000000 in
set_option maxRecDepth 100000 in
theorem c_where (l : Launch) (g : Gx) (h0 : Nat) (tt : Nat) (v1h0 : Value) (v2h0 : Value) (v3h0 : Value) (v4h0 : Value) (v5h0 : Value) (v6h0 : Value) (v7h0 : Value) (v8h0 : Value) (tr : Int32) (xtpd : Int32) (th : Nat) (xfn : Int32) (xfp : Int32) (tp : Nat) (xen : Int32) (nm : Nat) (nd : Nat) (xkd : Int32) (xsta : Int32) (xpo : Int32) (xva : Int32) (xle : Int64) (xtk : Int32) (xta : Int32) (tpf : Nat → Int32) : cI l g yX10_where cX10_where 1 (some .int) 0 0 0 0 [.ref h0] [(cO10_rvvvvvvvvi h0 tt v1h0 v2h0 v3h0 v4h0 v5h0 v6h0 v7h0 v8h0 tr), (cO9_i1r1i2r1i1r2i4l1i2 tt xtpd th xfn xfp tp xen nm nd xkd xsta xpo xva xle xtk xta), (cAB g tp 900 tpf)] (fun r w => w = [(cO10_rvvvvvvvvi h0 tt v1h0 v2h0 v3h0 v4h0 v5h0 v6h0 v7h0 v8h0 tr), (cO9_i1r1i2r1i1r2i4l1i2 tt xtpd th xfn xfp tp xen nm nd xkd xsta xpo xva xle xtk xta), (cAB g tp 900 tpf)]) := by
  refine cI.of (by decide) (Nat.le_of_ble_eq_true rfl) ?_
  intro p e s m args below meth c A X hr hi
  refine k_lveq [(0, .ref h0)] rfl ?_
  refine k_aload_n X dX10_where_0 0 rfl ?_
  refine k_get (ci := 10) X inlX10 rfl 9 (by decide) dX10_where_1 mw49 0 rfl rfl ?_
  refine k_iconst (v := 4) X dX10_where_4 (by decide) ?_
  refine k_ic_ne 18 X dX10_where_5 (by decide) (fun h_1 => ?_) (fun h_1 => ?_)
  · skip
    refine k_iconst (v := -1) X dX10_where_18 (by decide) ?_
    exact k_iret X hr dX10_where_19 (Nat.le_of_ble_eq_true rfl) (Nat.le_of_ble_eq_true rfl) [0, 1, 2] (by decide) rfl rfl rfl
  · skip
    have iv_2 : IV tr 4 4 := iv_meet (iv_any tr) (iv_e h_1 (show IV 4 4 4 from (by decide))) (by decide) (by decide)
    refine k_aload_n X dX10_where_8 0 rfl ?_
    refine k_get (ci := 10) X inlX10 rfl 0 (by decide) dX10_where_9 mw16 0 rfl rfl ?_
    refine k_get (ci := 9) X inlX9 rfl 3 (by decide) dX10_where_12 mw634 1 rfl rfl ?_
    refine k_goto 19 X dX10_where_15 (by decide) ?_
    exact k_iret X hr dX10_where_19 (Nat.le_of_ble_eq_true rfl) (Nat.le_of_ble_eq_true rfl) [0, 1, 2] (by decide) rfl rfl rfl

theorem dX10_trouble_0 : decode cX10_trouble 0 = .ok (.aload_n 0, 1) := dk_42 rfl
theorem dX10_trouble_1 : decode cX10_trouble 1 = .ok (.getfield 72, 3) := dk_180 rfl rfl rfl rfl
theorem dX10_trouble_4 : decode cX10_trouble 4 = .ok (.ireturn, 1) := dk_172 rfl
set_option maxHeartbeats 4000000 in
set_option maxRecDepth 100000 in
theorem c_trouble (l : Launch) (g : Gx) (h0 : Nat) (v0h0 : Value) (v1h0 : Value) (v2h0 : Value) (v3h0 : Value) (v4h0 : Value) (v5h0 : Value) (v6h0 : Value) (v7h0 : Value) (v8h0 : Value) (tr : Int32) : cI l g yX10_trouble cX10_trouble 1 (some .int) 0 0 0 0 [.ref h0] [(cO10_vvvvvvvvvi h0 v0h0 v1h0 v2h0 v3h0 v4h0 v5h0 v6h0 v7h0 v8h0 tr)] (fun r w => w = [(cO10_vvvvvvvvvi h0 v0h0 v1h0 v2h0 v3h0 v4h0 v5h0 v6h0 v7h0 v8h0 tr)]) := by
  refine cI.of (by decide) (Nat.le_of_ble_eq_true rfl) ?_
  intro p e s m args below meth c A X hr hi
  refine k_lveq [(0, .ref h0)] rfl ?_
  refine k_aload_n X dX10_trouble_0 0 rfl ?_
  refine k_get (ci := 10) X inlX10 rfl 9 (by decide) dX10_trouble_1 mw49 0 rfl rfl ?_
  exact k_iret X hr dX10_trouble_4 (Nat.le_of_ble_eq_true rfl) (Nat.le_of_ble_eq_true rfl) [0] (by decide) rfl rfl rfl

theorem dX10_size_0 : decode cX10_size 0 = .ok (.iload_n 1, 1) := dk_27 rfl
theorem dX10_size_1 : decode cX10_size 1 = .ok (.ifCond .lt 17, 3) := dk_155 rfl rfl rfl (by decide)
theorem dX10_size_4 : decode cX10_size 4 = .ok (.iload_n 1, 1) := dk_27 rfl
theorem dX10_size_5 : decode cX10_size 5 = .ok (.iconst 5, 1) := dk_8 rfl
theorem dX10_size_6 : decode cX10_size 6 = .ok (.if_icmp .gt 12, 3) := dk_163 rfl rfl rfl (by decide)
theorem dX10_size_9 : decode cX10_size 9 = .ok (.aload_n 0, 1) := dk_42 rfl
theorem dX10_size_10 : decode cX10_size 10 = .ok (.getfield 19, 3) := dk_180 rfl rfl rfl rfl
theorem dX10_size_13 : decode cX10_size 13 = .ok (.iload_n 1, 1) := dk_27 rfl
theorem dX10_size_14 : decode cX10_size 14 = .ok (.invokevirtual 287, 3) := dk_182 rfl rfl rfl rfl
theorem dX10_size_17 : decode cX10_size 17 = .ok (.ireturn, 1) := dk_172 rfl
theorem dX10_size_18 : decode cX10_size 18 = .ok (.iload_n 1, 1) := dk_27 rfl
theorem dX10_size_19 : decode cX10_size 19 = .ok (.tableswitch 195 6 17 #[61, 72, 83, 94, 116, 127, 138, 149, 160, 171, 179, 187], 61) := by decide +kernel
theorem dX10_size_80 : decode cX10_size 80 = .ok (.aload_n 0, 1) := dk_42 rfl
theorem dX10_size_81 : decode cX10_size 81 = .ok (.getfield 26, 3) := dk_180 rfl rfl rfl rfl
theorem dX10_size_84 : decode cX10_size 84 = .ok (.getfield 124, 3) := dk_180 rfl rfl rfl rfl
theorem dX10_size_87 : decode cX10_size 87 = .ok (.getfield 113, 3) := dk_180 rfl rfl rfl rfl
theorem dX10_size_90 : decode cX10_size 90 = .ok (.ireturn, 1) := dk_172 rfl
theorem dX10_size_91 : decode cX10_size 91 = .ok (.aload_n 0, 1) := dk_42 rfl
theorem dX10_size_92 : decode cX10_size 92 = .ok (.getfield 19, 3) := dk_180 rfl rfl rfl rfl
theorem dX10_size_95 : decode cX10_size 95 = .ok (.getfield 150, 3) := dk_180 rfl rfl rfl rfl
theorem dX10_size_98 : decode cX10_size 98 = .ok (.getfield 113, 3) := by decide +kernel
theorem dX10_size_101 : decode cX10_size 101 = .ok (.ireturn, 1) := by decide +kernel
theorem dX10_size_102 : decode cX10_size 102 = .ok (.aload_n 0, 1) := by decide +kernel
theorem dX10_size_103 : decode cX10_size 103 = .ok (.getfield 26, 3) := by decide +kernel
theorem dX10_size_106 : decode cX10_size 106 = .ok (.getfield 131, 3) := by decide +kernel
theorem dX10_size_109 : decode cX10_size 109 = .ok (.getfield 113, 3) := by decide +kernel
theorem dX10_size_112 : decode cX10_size 112 = .ok (.ireturn, 1) := by decide +kernel
theorem dX10_size_113 : decode cX10_size 113 = .ok (.aload_n 0, 1) := by decide +kernel
theorem dX10_size_114 : decode cX10_size 114 = .ok (.getfield 19, 3) := by decide +kernel
theorem dX10_size_117 : decode cX10_size 117 = .ok (.getfield 138, 3) := by decide +kernel
theorem dX10_size_120 : decode cX10_size 120 = .ok (.getfield 113, 3) := by decide +kernel
theorem dX10_size_123 : decode cX10_size 123 = .ok (.aload_n 0, 1) := by decide +kernel
theorem dX10_size_124 : decode cX10_size 124 = .ok (.getfield 26, 3) := by decide +kernel
theorem dX10_size_127 : decode cX10_size 127 = .ok (.getfield 366, 3) := by decide +kernel
theorem dX10_size_130 : decode cX10_size 130 = .ok (.invokestatic 369, 3) := by decide +kernel
theorem dX10_size_133 : decode cX10_size 133 = .ok (.iadd, 1) := by decide +kernel
theorem dX10_size_134 : decode cX10_size 134 = .ok (.ireturn, 1) := by decide +kernel
theorem dX10_size_135 : decode cX10_size 135 = .ok (.aload_n 0, 1) := by decide +kernel
theorem dX10_size_136 : decode cX10_size 136 = .ok (.getfield 26, 3) := by decide +kernel
theorem dX10_size_139 : decode cX10_size 139 = .ok (.getfield 144, 3) := by decide +kernel
theorem dX10_size_142 : decode cX10_size 142 = .ok (.getfield 113, 3) := by decide +kernel
theorem dX10_size_145 : decode cX10_size 145 = .ok (.ireturn, 1) := by decide +kernel
theorem dX10_size_146 : decode cX10_size 146 = .ok (.aload_n 0, 1) := by decide +kernel
theorem dX10_size_147 : decode cX10_size 147 = .ok (.getfield 19, 3) := by decide +kernel
theorem dX10_size_150 : decode cX10_size 150 = .ok (.getfield 191, 3) := by decide +kernel
theorem dX10_size_153 : decode cX10_size 153 = .ok (.getfield 113, 3) := by decide +kernel
theorem dX10_size_156 : decode cX10_size 156 = .ok (.ireturn, 1) := by decide +kernel
theorem dX10_size_157 : decode cX10_size 157 = .ok (.aload_n 0, 1) := by decide +kernel
theorem dX10_size_158 : decode cX10_size 158 = .ok (.getfield 26, 3) := by decide +kernel
theorem dX10_size_161 : decode cX10_size 161 = .ok (.getfield 109, 3) := by decide +kernel
theorem dX10_size_164 : decode cX10_size 164 = .ok (.getfield 113, 3) := by decide +kernel
theorem dX10_size_167 : decode cX10_size 167 = .ok (.ireturn, 1) := by decide +kernel
theorem dX10_size_168 : decode cX10_size 168 = .ok (.aload_n 0, 1) := by decide +kernel
theorem dX10_size_169 : decode cX10_size 169 = .ok (.getfield 19, 3) := by decide +kernel
theorem dX10_size_172 : decode cX10_size 172 = .ok (.getfield 188, 3) := by decide +kernel
theorem dX10_size_175 : decode cX10_size 175 = .ok (.getfield 113, 3) := by decide +kernel
theorem dX10_size_178 : decode cX10_size 178 = .ok (.ireturn, 1) := by decide +kernel
theorem dX10_size_179 : decode cX10_size 179 = .ok (.aload_n 0, 1) := by decide +kernel
theorem dX10_size_180 : decode cX10_size 180 = .ok (.getfield 19, 3) := by decide +kernel
theorem dX10_size_183 : decode cX10_size 183 = .ok (.getfield 256, 3) := by decide +kernel
theorem dX10_size_186 : decode cX10_size 186 = .ok (.getfield 113, 3) := by decide +kernel
theorem dX10_size_189 : decode cX10_size 189 = .ok (.ireturn, 1) := by decide +kernel
theorem dX10_size_190 : decode cX10_size 190 = .ok (.aload_n 0, 1) := by decide +kernel
theorem dX10_size_191 : decode cX10_size 191 = .ok (.getfield 33, 3) := by decide +kernel
theorem dX10_size_194 : decode cX10_size 194 = .ok (.getfield 372, 3) := by decide +kernel
theorem dX10_size_197 : decode cX10_size 197 = .ok (.ireturn, 1) := by decide +kernel
theorem dX10_size_198 : decode cX10_size 198 = .ok (.aload_n 0, 1) := by decide +kernel
theorem dX10_size_199 : decode cX10_size 199 = .ok (.getfield 33, 3) := by decide +kernel
theorem dX10_size_202 : decode cX10_size 202 = .ok (.getfield 375, 3) := by decide +kernel
theorem dX10_size_205 : decode cX10_size 205 = .ok (.ireturn, 1) := by decide +kernel
theorem dX10_size_206 : decode cX10_size 206 = .ok (.aload_n 0, 1) := by decide +kernel
theorem dX10_size_207 : decode cX10_size 207 = .ok (.getfield 10, 3) := by decide +kernel
theorem dX10_size_210 : decode cX10_size 210 = .ok (.getfield 76, 3) := by decide +kernel
theorem dX10_size_213 : decode cX10_size 213 = .ok (.ireturn, 1) := by decide +kernel
theorem dX10_size_214 : decode cX10_size 214 = .ok (.iconst (-1), 1) := by decide +kernel
theorem dX10_size_215 : decode cX10_size 215 = .ok (.ireturn, 1) := by decide +kernel
set_option maxHeartbeats 4000000 in
set_option maxRecDepth 100000 in
theorem c_size (l : Launch) (g : Gx) (h0 : Nat) (p0 : Int32) (tt : Nat) (tl : Nat) (nw : Nat) (kk : Nat) (v4h0 : Value) (v5h0 : Value) (v6h0 : Value) (v7h0 : Value) (v8h0 : Value) (tr : Int32) (xtpd : Int32) (th : Nat) (xfn : Int32) (xfp : Int32) (tp : Nat) (xen : Int32) (nm : Nat) (nd : Nat) (xkd : Int32) (xsta : Int32) (xpo : Int32) (xva : Int32) (xle : Int64) (xtk : Int32) (xta : Int32) (tpf : Nat → Int32) (ys : Nat) (yhn : Nat) (yht : Nat) (yhj : Nat) (yhm : Nat) (yhb : Nat) (yhs : Nat) (yhc : Nat) (yr : Nat) (ym : Nat) (yw : Nat) (yp : Nat) (ymd : Int32) (ytr : Int32) (yrc : Nat) (yrn : Int32) (yrf : Nat → Int32) (ymc : Nat) (ymn : Int32) (ymf : Nat → Int32) (ywc : Nat) (ywn : Int32) (ywf : Nat → Int32) (ypc : Nat) (ypn : Int32) (ypf : Nat → Int32) (yhnc : Nat) (yhnn : Int32) (yhnf : Nat → Int32) (yhtc : Nat) (yhtn : Int32) (yhtf : Nat → Int32) (yhjc : Nat) (yhjn : Int32) (yhjf : Nat → Int32) (yhmc : Nat) (yhmn : Int32) (yhmf : Nat → Int32) (yhbc : Nat) (yhbn : Int32) (yhbf : Nat → Int32) (yhsc : Nat) (yhsn : Int32) (yhsf : Nat → Int32) (yhcc : Nat) (yhcn : Int32) (yhcf : Nat → Int32) (zr : Nat) (zm : Nat) (zw : Nat) (zp : Nat) (zmd : Int32) (ztr : Int32) (zrc : Nat) (zrn : Int32) (zrf : Nat → Int32) (zmc : Nat) (zmn : Int32) (zmf : Nat → Int32) (zwc : Nat) (zwn : Int32) (zwf : Nat → Int32) (zpc : Nat) (zpn : Int32) (zpf : Nat → Int32) (kah : Nat) (kig : Nat) (kac : Int32) (knx : Int32) (kim : Int32) : cI l g yX10_size cX10_size 2 (some .int) 2 43 0 0 [.ref h0, .int p0] [(cO10_rrrrvvvvvi h0 tt tl nw kk v4h0 v5h0 v6h0 v7h0 v8h0 tr), (cO9_i1r1i2r1i1r2i4l1i2 tt xtpd th xfn xfp tp xen nm nd xkd xsta xpo xva xle xtk xta), (cAB g tp 900 tpf), (cO3_rrrrrrrr tl ys yhn yht yhj yhm yhb yhs yhc), (cO7_rrrrii ys yr ym yw yp ymd ytr), (cO8_iiri yr 8 3 yrc yrn), (cAI g yrc 24 yrf), (cO8_iiri ym 12 3 ymc ymn), (cAI g ymc 36 ymf), (cO8_iiri yw 6 3 ywc ywn), (cAI g ywc 18 ywf), (cO8_iiri yp 8 2 ypc ypn), (cAI g ypc 16 ypf), (cO8_iiri yhn 1 6 yhnc yhnn), (cAI g yhnc 6 yhnf), (cO8_iiri yht 4 1 yhtc yhtn), (cAI g yhtc 4 yhtf), (cO8_iiri yhj 8 2 yhjc yhjn), (cAI g yhjc 16 yhjf), (cO8_iiri yhm 4 3 yhmc yhmn), (cAI g yhmc 12 yhmf), (cO8_iiri yhb 1 3 yhbc yhbn), (cAI g yhbc 3 yhbf), (cO8_iiri yhs 6 3 yhsc yhsn), (cAI g yhsc 18 yhsf), (cO8_iiri yhc 6 2 yhcc yhcn), (cAI g yhcc 12 yhcf), (cO7_rrrrii nw zr zm zw zp zmd ztr), (cO8_iiri zr 8 3 zrc zrn), (cAI g zrc 24 zrf), (cO8_iiri zm 12 3 zmc zmn), (cAI g zmc 36 zmf), (cO8_iiri zw 6 3 zwc zwn), (cAI g zwc 18 zwf), (cO8_iiri zp 8 2 zpc zpn), (cAI g zpc 16 zpf), (cO4_rriii kk kah kig kac knx kim)] (fun r w => w = [(cO10_rrrrvvvvvi h0 tt tl nw kk v4h0 v5h0 v6h0 v7h0 v8h0 tr), (cO9_i1r1i2r1i1r2i4l1i2 tt xtpd th xfn xfp tp xen nm nd xkd xsta xpo xva xle xtk xta), (cAB g tp 900 tpf), (cO3_rrrrrrrr tl ys yhn yht yhj yhm yhb yhs yhc), (cO7_rrrrii ys yr ym yw yp ymd ytr), (cO8_iiri yr 8 3 yrc yrn), (cAI g yrc 24 yrf), (cO8_iiri ym 12 3 ymc ymn), (cAI g ymc 36 ymf), (cO8_iiri yw 6 3 ywc ywn), (cAI g ywc 18 ywf), (cO8_iiri yp 8 2 ypc ypn), (cAI g ypc 16 ypf), (cO8_iiri yhn 1 6 yhnc yhnn), (cAI g yhnc 6 yhnf), (cO8_iiri yht 4 1 yhtc yhtn), (cAI g yhtc 4 yhtf), (cO8_iiri yhj 8 2 yhjc yhjn), (cAI g yhjc 16 yhjf), (cO8_iiri yhm 4 3 yhmc yhmn), (cAI g yhmc 12 yhmf), (cO8_iiri yhb 1 3 yhbc yhbn), (cAI g yhbc 3 yhbf), (cO8_iiri yhs 6 3 yhsc yhsn), (cAI g yhsc 18 yhsf), (cO8_iiri yhc 6 2 yhcc yhcn), (cAI g yhcc 12 yhcf), (cO7_rrrrii nw zr zm zw zp zmd ztr), (cO8_iiri zr 8 3 zrc zrn), (cAI g zrc 24 zrf), (cO8_iiri zm 12 3 zmc zmn), (cAI g zmc 36 zmf), (cO8_iiri zw 6 3 zwc zwn), (cAI g zwc 18 zwf), (cO8_iiri zp 8 2 zpc zpn), (cAI g zpc 16 zpf), (cO4_rriii kk kah kig kac knx kim)]) := by
  refine cI.of (by decide) (Nat.le_of_ble_eq_true rfl) ?_
  intro p e s m args below meth c A X hr hi
  refine k_lveq [(0, .ref h0), (1, .int p0)] rfl ?_
  refine k_iload_n X dX10_size_0 1 rfl ?_
  refine k_if_lt 18 X dX10_size_1 (by decide) (fun h_1 => ?_) (fun h_1 => ?_)
  · skip
    have j_2 : p0.toInt < 0 := iv_lt h_1
    have iv_3 : IV p0 (-2147483648) (-1) := iv_ltL (iv_lt h_1) (iv_any p0) (show IV 0 0 0 from (by decide)) (by decide)
    refine k_iload_n X dX10_size_18 1 rfl ?_
    by_cases h_4 : p0 = 6
    · skip
      refine k_tableIn 80 X dX10_size_19 (by rw [h_4]; decide) (by rw [h_4]; decide) (off := 61) (by rw [h_4]; rfl) (by decide) ?_
      refine k_aload_n X dX10_size_80 0 rfl ?_
      refine k_get (ci := 10) X inlX10 rfl 2 (by decide) dX10_size_81 mw24 0 rfl rfl ?_
      refine k_get (ci := 7) X inlX7 rfl 0 (by decide) dX10_size_84 mw643 27 rfl rfl ?_
      refine k_get (ci := 8) X inlX8 rfl 3 (by decide) dX10_size_87 mw214 28 rfl rfl ?_
      exact k_iret X hr dX10_size_90 (Nat.le_of_ble_eq_true rfl) (Nat.le_of_ble_eq_true rfl) [0, 1, 2, 3, 4, 5, 6, 7, 8, 9, 10, 11, 12, 13, 14, 15, 16, 17, 18, 19, 20, 21, 22, 23, 24, 25, 26, 27, 28, 29, 30, 31, 32, 33, 34, 35, 36] (by decide) rfl rfl rfl
    by_cases h_5 : p0 = 7
    · skip
      refine k_tableIn 91 X dX10_size_19 (by rw [h_5]; decide) (by rw [h_5]; decide) (off := 72) (by rw [h_5]; rfl) (by decide) ?_
      refine k_aload_n X dX10_size_91 0 rfl ?_
      refine k_get (ci := 10) X inlX10 rfl 1 (by decide) dX10_size_92 mw20 0 rfl rfl ?_
      refine k_get (ci := 3) X inlX3 rfl 2 (by decide) dX10_size_95 mw697 3 rfl rfl ?_
      refine k_get (ci := 8) X inlX8 rfl 3 (by decide) dX10_size_98 mw214 15 rfl rfl ?_
      exact k_iret X hr dX10_size_101 (Nat.le_of_ble_eq_true rfl) (Nat.le_of_ble_eq_true rfl) [0, 1, 2, 3, 4, 5, 6, 7, 8, 9, 10, 11, 12, 13, 14, 15, 16, 17, 18, 19, 20, 21, 22, 23, 24, 25, 26, 27, 28, 29, 30, 31, 32, 33, 34, 35, 36] (by decide) rfl rfl rfl
    by_cases h_6 : p0 = 8
    · skip
      refine k_tableIn 102 X dX10_size_19 (by rw [h_6]; decide) (by rw [h_6]; decide) (off := 83) (by rw [h_6]; rfl) (by decide) ?_
      refine k_aload_n X dX10_size_102 0 rfl ?_
      refine k_get (ci := 10) X inlX10 rfl 2 (by decide) dX10_size_103 mw24 0 rfl rfl ?_
      refine k_get (ci := 7) X inlX7 rfl 1 (by decide) dX10_size_106 mw644 27 rfl rfl ?_
      refine k_get (ci := 8) X inlX8 rfl 3 (by decide) dX10_size_109 mw214 30 rfl rfl ?_
      exact k_iret X hr dX10_size_112 (Nat.le_of_ble_eq_true rfl) (Nat.le_of_ble_eq_true rfl) [0, 1, 2, 3, 4, 5, 6, 7, 8, 9, 10, 11, 12, 13, 14, 15, 16, 17, 18, 19, 20, 21, 22, 23, 24, 25, 26, 27, 28, 29, 30, 31, 32, 33, 34, 35, 36] (by decide) rfl rfl rfl
    by_cases h_7 : p0 = 9
    · skip
      refine k_tableIn 113 X dX10_size_19 (by rw [h_7]; decide) (by rw [h_7]; decide) (off := 94) (by rw [h_7]; rfl) (by decide) ?_
      refine k_aload_n X dX10_size_113 0 rfl ?_
      refine k_get (ci := 10) X inlX10 rfl 1 (by decide) dX10_size_114 mw20 0 rfl rfl ?_
      refine k_get (ci := 3) X inlX3 rfl 3 (by decide) dX10_size_117 mw645 3 rfl rfl ?_
      refine k_get (ci := 8) X inlX8 rfl 3 (by decide) dX10_size_120 mw214 17 rfl rfl ?_
      refine k_aload_n X dX10_size_123 0 rfl ?_
      refine k_get (ci := 10) X inlX10 rfl 2 (by decide) dX10_size_124 mw24 0 rfl rfl ?_
      refine k_get (ci := 7) X inlX7 rfl 4 (by decide) dX10_size_127 mw1566 27 rfl rfl ?_
      refine k_callSI (n := 1) (As := [.int zmd]) (st := [.int yhjn]) X [] [(cO10_rrrrvvvvvi h0 tt tl nw kk v4h0 v5h0 v6h0 v7h0 v8h0 tr), (cO9_i1r1i2r1i1r2i4l1i2 tt xtpd th xfn xfp tp xen nm nd xkd xsta xpo xva xle xtk xta), (cAB g tp 900 tpf), (cO3_rrrrrrrr tl ys yhn yht yhj yhm yhb yhs yhc), (cO7_rrrrii ys yr ym yw yp ymd ytr), (cO8_iiri yr 8 3 yrc yrn), (cAI g yrc 24 yrf), (cO8_iiri ym 12 3 ymc ymn), (cAI g ymc 36 ymf), (cO8_iiri yw 6 3 ywc ywn), (cAI g ywc 18 ywf), (cO8_iiri yp 8 2 ypc ypn), (cAI g ypc 16 ypf), (cO8_iiri yhn 1 6 yhnc yhnn), (cAI g yhnc 6 yhnf), (cO8_iiri yht 4 1 yhtc yhtn), (cAI g yhtc 4 yhtf), (cO8_iiri yhj 8 2 yhjc yhjn), (cAI g yhjc 16 yhjf), (cO8_iiri yhm 4 3 yhmc yhmn), (cAI g yhmc 12 yhmf), (cO8_iiri yhb 1 3 yhbc yhbn), (cAI g yhbc 3 yhbf), (cO8_iiri yhs 6 3 yhsc yhsn), (cAI g yhsc 18 yhsf), (cO8_iiri yhc 6 2 yhcc yhcn), (cAI g yhcc 12 yhcf), (cO7_rrrrii nw zr zm zw zp zmd ztr), (cO8_iiri zr 8 3 zrc zrn), (cAI g zrc 24 zrf), (cO8_iiri zm 12 3 zmc zmn), (cAI g zmc 36 zmf), (cO8_iiri zw 6 3 zwc zwn), (cAI g zwc 18 zwf), (cO8_iiri zp 8 2 zpc zpn), (cAI g zpc 16 zpf), (cO4_rriii kk kah kig kac knx kim)] [] [0, 1, 2, 3, 4, 5, 6, 7, 8, 9, 10, 11, 12, 13, 14, 15, 16, 17, 18, 19, 20, 21, 22, 23, 24, 25, 26, 27, 28, 29, 30, 31, 32, 33, 34, 35, 36] (j_bitCount l g zmd) dX10_size_130 mw1569 mw1099 mw1100 mw1101 yk_yJ6_bitCount_0f7a4_1 rfl (Nat.le_of_ble_eq_true rfl) (Nat.le_of_ble_eq_true rfl) (Nat.le_of_ble_eq_true rfl) (Nat.le_of_ble_eq_true rfl) (Nat.le_of_ble_eq_true rfl) rfl rfl (by decide +kernel) rfl (by decide +kernel) (by decide +kernel) ?_
      rintro r_8 w rfl
      refine k_ws [(cO10_rrrrvvvvvi h0 tt tl nw kk v4h0 v5h0 v6h0 v7h0 v8h0 tr), (cO9_i1r1i2r1i1r2i4l1i2 tt xtpd th xfn xfp tp xen nm nd xkd xsta xpo xva xle xtk xta), (cAB g tp 900 tpf), (cO3_rrrrrrrr tl ys yhn yht yhj yhm yhb yhs yhc), (cO7_rrrrii ys yr ym yw yp ymd ytr), (cO8_iiri yr 8 3 yrc yrn), (cAI g yrc 24 yrf), (cO8_iiri ym 12 3 ymc ymn), (cAI g ymc 36 ymf), (cO8_iiri yw 6 3 ywc ywn), (cAI g ywc 18 ywf), (cO8_iiri yp 8 2 ypc ypn), (cAI g ypc 16 ypf), (cO8_iiri yhn 1 6 yhnc yhnn), (cAI g yhnc 6 yhnf), (cO8_iiri yht 4 1 yhtc yhtn), (cAI g yhtc 4 yhtf), (cO8_iiri yhj 8 2 yhjc yhjn), (cAI g yhjc 16 yhjf), (cO8_iiri yhm 4 3 yhmc yhmn), (cAI g yhmc 12 yhmf), (cO8_iiri yhb 1 3 yhbc yhbn), (cAI g yhbc 3 yhbf), (cO8_iiri yhs 6 3 yhsc yhsn), (cAI g yhsc 18 yhsf), (cO8_iiri yhc 6 2 yhcc yhcn), (cAI g yhcc 12 yhcf), (cO7_rrrrii nw zr zm zw zp zmd ztr), (cO8_iiri zr 8 3 zrc zrn), (cAI g zrc 24 zrf), (cO8_iiri zm 12 3 zmc zmn), (cAI g zmc 36 zmf), (cO8_iiri zw 6 3 zwc zwn), (cAI g zwc 18 zwf), (cO8_iiri zp 8 2 zpc zpn), (cAI g zpc 16 zpf), (cO4_rriii kk kah kig kac knx kim)] rfl ?_
      refine k_iadd X dX10_size_133 ?_
      refine k_nm (fun z_10 ez_10 => ?_)
      exact k_iret X hr dX10_size_134 (Nat.le_of_ble_eq_true rfl) (Nat.le_of_ble_eq_true rfl) [0, 1, 2, 3, 4, 5, 6, 7, 8, 9, 10, 11, 12, 13, 14, 15, 16, 17, 18, 19, 20, 21, 22, 23, 24, 25, 26, 27, 28, 29, 30, 31, 32, 33, 34, 35, 36] (by decide) rfl rfl rfl
    by_cases h_12 : p0 = 10
    · skip
      refine k_tableIn 135 X dX10_size_19 (by rw [h_12]; decide) (by rw [h_12]; decide) (off := 116) (by rw [h_12]; rfl) (by decide) ?_
      refine k_aload_n X dX10_size_135 0 rfl ?_
      refine k_get (ci := 10) X inlX10 rfl 2 (by decide) dX10_size_136 mw24 0 rfl rfl ?_
      refine k_get (ci := 7) X inlX7 rfl 2 (by decide) dX10_size_139 mw646 27 rfl rfl ?_
      refine k_get (ci := 8) X inlX8 rfl 3 (by decide) dX10_size_142 mw214 32 rfl rfl ?_
      exact k_iret X hr dX10_size_145 (Nat.le_of_ble_eq_true rfl) (Nat.le_of_ble_eq_true rfl) [0, 1, 2, 3, 4, 5, 6, 7, 8, 9, 10, 11, 12, 13, 14, 15, 16, 17, 18, 19, 20, 21, 22, 23, 24, 25, 26, 27, 28, 29, 30, 31, 32, 33, 34, 35, 36] (by decide) rfl rfl rfl
    by_cases h_13 : p0 = 11
    · skip
      refine k_tableIn 146 X dX10_size_19 (by rw [h_13]; decide) (by rw [h_13]; decide) (off := 127) (by rw [h_13]; rfl) (by decide) ?_
      refine k_aload_n X dX10_size_146 0 rfl ?_
      refine k_get (ci := 10) X inlX10 rfl 1 (by decide) dX10_size_147 mw20 0 rfl rfl ?_
      refine k_get (ci := 3) X inlX3 rfl 4 (by decide) dX10_size_150 mw748 3 rfl rfl ?_
      refine k_get (ci := 8) X inlX8 rfl 3 (by decide) dX10_size_153 mw214 19 rfl rfl ?_
      exact k_iret X hr dX10_size_156 (Nat.le_of_ble_eq_true rfl) (Nat.le_of_ble_eq_true rfl) [0, 1, 2, 3, 4, 5, 6, 7, 8, 9, 10, 11, 12, 13, 14, 15, 16, 17, 18, 19, 20, 21, 22, 23, 24, 25, 26, 27, 28, 29, 30, 31, 32, 33, 34, 35, 36] (by decide) rfl rfl rfl
    by_cases h_14 : p0 = 12
    · skip
      refine k_tableIn 157 X dX10_size_19 (by rw [h_14]; decide) (by rw [h_14]; decide) (off := 138) (by rw [h_14]; rfl) (by decide) ?_
      refine k_aload_n X dX10_size_157 0 rfl ?_
      refine k_get (ci := 10) X inlX10 rfl 2 (by decide) dX10_size_158 mw24 0 rfl rfl ?_
      refine k_get (ci := 7) X inlX7 rfl 3 (by decide) dX10_size_161 mw213 27 rfl rfl ?_
      refine k_get (ci := 8) X inlX8 rfl 3 (by decide) dX10_size_164 mw214 34 rfl rfl ?_
      exact k_iret X hr dX10_size_167 (Nat.le_of_ble_eq_true rfl) (Nat.le_of_ble_eq_true rfl) [0, 1, 2, 3, 4, 5, 6, 7, 8, 9, 10, 11, 12, 13, 14, 15, 16, 17, 18, 19, 20, 21, 22, 23, 24, 25, 26, 27, 28, 29, 30, 31, 32, 33, 34, 35, 36] (by decide) rfl rfl rfl
    by_cases h_15 : p0 = 13
    · skip
      refine k_tableIn 168 X dX10_size_19 (by rw [h_15]; decide) (by rw [h_15]; decide) (off := 149) (by rw [h_15]; rfl) (by decide) ?_
      refine k_aload_n X dX10_size_168 0 rfl ?_
      refine k_get (ci := 10) X inlX10 rfl 1 (by decide) dX10_size_169 mw20 0 rfl rfl ?_
      refine k_get (ci := 3) X inlX3 rfl 6 (by decide) dX10_size_172 mw970 3 rfl rfl ?_
      refine k_get (ci := 8) X inlX8 rfl 3 (by decide) dX10_size_175 mw214 23 rfl rfl ?_
      exact k_iret X hr dX10_size_178 (Nat.le_of_ble_eq_true rfl) (Nat.le_of_ble_eq_true rfl) [0, 1, 2, 3, 4, 5, 6, 7, 8, 9, 10, 11, 12, 13, 14, 15, 16, 17, 18, 19, 20, 21, 22, 23, 24, 25, 26, 27, 28, 29, 30, 31, 32, 33, 34, 35, 36] (by decide) rfl rfl rfl
    by_cases h_16 : p0 = 14
    · skip
      refine k_tableIn 179 X dX10_size_19 (by rw [h_16]; decide) (by rw [h_16]; decide) (off := 160) (by rw [h_16]; rfl) (by decide) ?_
      refine k_aload_n X dX10_size_179 0 rfl ?_
      refine k_get (ci := 10) X inlX10 rfl 1 (by decide) dX10_size_180 mw20 0 rfl rfl ?_
      refine k_get (ci := 3) X inlX3 rfl 7 (by decide) dX10_size_183 mw1186 3 rfl rfl ?_
      refine k_get (ci := 8) X inlX8 rfl 3 (by decide) dX10_size_186 mw214 25 rfl rfl ?_
      exact k_iret X hr dX10_size_189 (Nat.le_of_ble_eq_true rfl) (Nat.le_of_ble_eq_true rfl) [0, 1, 2, 3, 4, 5, 6, 7, 8, 9, 10, 11, 12, 13, 14, 15, 16, 17, 18, 19, 20, 21, 22, 23, 24, 25, 26, 27, 28, 29, 30, 31, 32, 33, 34, 35, 36] (by decide) rfl rfl rfl
    by_cases h_17 : p0 = 15
    · skip
      refine k_tableIn 190 X dX10_size_19 (by rw [h_17]; decide) (by rw [h_17]; decide) (off := 171) (by rw [h_17]; rfl) (by decide) ?_
      refine k_aload_n X dX10_size_190 0 rfl ?_
      refine k_get (ci := 10) X inlX10 rfl 3 (by decide) dX10_size_191 mw28 0 rfl rfl ?_
      refine k_get (ci := 4) X inlX4 rfl 2 (by decide) dX10_size_194 mw1567 36 rfl rfl ?_
      exact k_iret X hr dX10_size_197 (Nat.le_of_ble_eq_true rfl) (Nat.le_of_ble_eq_true rfl) [0, 1, 2, 3, 4, 5, 6, 7, 8, 9, 10, 11, 12, 13, 14, 15, 16, 17, 18, 19, 20, 21, 22, 23, 24, 25, 26, 27, 28, 29, 30, 31, 32, 33, 34, 35, 36] (by decide) rfl rfl rfl
    by_cases h_18 : p0 = 16
    · skip
      refine k_tableIn 198 X dX10_size_19 (by rw [h_18]; decide) (by rw [h_18]; decide) (off := 179) (by rw [h_18]; rfl) (by decide) ?_
      refine k_aload_n X dX10_size_198 0 rfl ?_
      refine k_get (ci := 10) X inlX10 rfl 3 (by decide) dX10_size_199 mw28 0 rfl rfl ?_
      refine k_get (ci := 4) X inlX4 rfl 4 (by decide) dX10_size_202 mw1568 36 rfl rfl ?_
      exact k_iret X hr dX10_size_205 (Nat.le_of_ble_eq_true rfl) (Nat.le_of_ble_eq_true rfl) [0, 1, 2, 3, 4, 5, 6, 7, 8, 9, 10, 11, 12, 13, 14, 15, 16, 17, 18, 19, 20, 21, 22, 23, 24, 25, 26, 27, 28, 29, 30, 31, 32, 33, 34, 35, 36] (by decide) rfl rfl rfl
    by_cases h_19 : p0 = 17
    · skip
      refine k_tableIn 206 X dX10_size_19 (by rw [h_19]; decide) (by rw [h_19]; decide) (off := 187) (by rw [h_19]; rfl) (by decide) ?_
      refine k_aload_n X dX10_size_206 0 rfl ?_
      refine k_get (ci := 10) X inlX10 rfl 0 (by decide) dX10_size_207 mw16 0 rfl rfl ?_
      refine k_get (ci := 9) X inlX9 rfl 0 (by decide) dX10_size_210 mw195 1 rfl rfl ?_
      exact k_iret X hr dX10_size_213 (Nat.le_of_ble_eq_true rfl) (Nat.le_of_ble_eq_true rfl) [0, 1, 2, 3, 4, 5, 6, 7, 8, 9, 10, 11, 12, 13, 14, 15, 16, 17, 18, 19, 20, 21, 22, 23, 24, 25, 26, 27, 28, 29, 30, 31, 32, 33, 34, 35, 36] (by decide) rfl rfl rfl
    refine k_tableOut 214 X dX10_size_19 (by have eh_4 : p0.toInt ≠ 6 := fun q => h_4 (Int32.toInt_inj.mp (q.trans (by decide))); have eh_5 : p0.toInt ≠ 7 := fun q => h_5 (Int32.toInt_inj.mp (q.trans (by decide))); have eh_6 : p0.toInt ≠ 8 := fun q => h_6 (Int32.toInt_inj.mp (q.trans (by decide))); have eh_7 : p0.toInt ≠ 9 := fun q => h_7 (Int32.toInt_inj.mp (q.trans (by decide))); have eh_12 : p0.toInt ≠ 10 := fun q => h_12 (Int32.toInt_inj.mp (q.trans (by decide))); have eh_13 : p0.toInt ≠ 11 := fun q => h_13 (Int32.toInt_inj.mp (q.trans (by decide))); have eh_14 : p0.toInt ≠ 12 := fun q => h_14 (Int32.toInt_inj.mp (q.trans (by decide))); have eh_15 : p0.toInt ≠ 13 := fun q => h_15 (Int32.toInt_inj.mp (q.trans (by decide))); have eh_16 : p0.toInt ≠ 14 := fun q => h_16 (Int32.toInt_inj.mp (q.trans (by decide))); have eh_17 : p0.toInt ≠ 15 := fun q => h_17 (Int32.toInt_inj.mp (q.trans (by decide))); have eh_18 : p0.toInt ≠ 16 := fun q => h_18 (Int32.toInt_inj.mp (q.trans (by decide))); have eh_19 : p0.toInt ≠ 17 := fun q => h_19 (Int32.toInt_inj.mp (q.trans (by decide))); omega) (by decide) ?_
    refine k_iconst (v := -1) X dX10_size_214 (by decide) ?_
    exact k_iret X hr dX10_size_215 (Nat.le_of_ble_eq_true rfl) (Nat.le_of_ble_eq_true rfl) [0, 1, 2, 3, 4, 5, 6, 7, 8, 9, 10, 11, 12, 13, 14, 15, 16, 17, 18, 19, 20, 21, 22, 23, 24, 25, 26, 27, 28, 29, 30, 31, 32, 33, 34, 35, 36] (by decide) rfl rfl rfl
  · skip
    have j_20 : 0 ≤ p0.toInt := iv_nlt h_1
    have iv_21 : IV p0 0 2147483647 := iv_leR (iv_nlt h_1) (show IV 0 0 0 from (by decide)) (iv_any p0) (by decide)
    refine k_iload_n X dX10_size_4 1 rfl ?_
    refine k_iconst (v := 5) X dX10_size_5 (by decide) ?_
    refine k_ic_gt 18 X dX10_size_6 (by decide) (fun h_22 => ?_) (fun h_22 => ?_)
    · skip
      have j_23 : 5 < p0.toInt := iv_lt h_22
      have iv_24 : IV p0 6 2147483647 := iv_ltR (iv_lt h_22) (show IV 5 5 5 from (by decide)) iv_21 (by decide)
      refine k_iload_n X dX10_size_18 1 rfl ?_
      by_cases h_25 : p0 = 6
      · skip
        refine k_tableIn 80 X dX10_size_19 (by rw [h_25]; decide) (by rw [h_25]; decide) (off := 61) (by rw [h_25]; rfl) (by decide) ?_
        refine k_aload_n X dX10_size_80 0 rfl ?_
        refine k_get (ci := 10) X inlX10 rfl 2 (by decide) dX10_size_81 mw24 0 rfl rfl ?_
        refine k_get (ci := 7) X inlX7 rfl 0 (by decide) dX10_size_84 mw643 27 rfl rfl ?_
        refine k_get (ci := 8) X inlX8 rfl 3 (by decide) dX10_size_87 mw214 28 rfl rfl ?_
        exact k_iret X hr dX10_size_90 (Nat.le_of_ble_eq_true rfl) (Nat.le_of_ble_eq_true rfl) [0, 1, 2, 3, 4, 5, 6, 7, 8, 9, 10, 11, 12, 13, 14, 15, 16, 17, 18, 19, 20, 21, 22, 23, 24, 25, 26, 27, 28, 29, 30, 31, 32, 33, 34, 35, 36] (by decide) rfl rfl rfl
      by_cases h_26 : p0 = 7
      · skip
        refine k_tableIn 91 X dX10_size_19 (by rw [h_26]; decide) (by rw [h_26]; decide) (off := 72) (by rw [h_26]; rfl) (by decide) ?_
        refine k_aload_n X dX10_size_91 0 rfl ?_
        refine k_get (ci := 10) X inlX10 rfl 1 (by decide) dX10_size_92 mw20 0 rfl rfl ?_
        refine k_get (ci := 3) X inlX3 rfl 2 (by decide) dX10_size_95 mw697 3 rfl rfl ?_
        refine k_get (ci := 8) X inlX8 rfl 3 (by decide) dX10_size_98 mw214 15 rfl rfl ?_
        exact k_iret X hr dX10_size_101 (Nat.le_of_ble_eq_true rfl) (Nat.le_of_ble_eq_true rfl) [0, 1, 2, 3, 4, 5, 6, 7, 8, 9, 10, 11, 12, 13, 14, 15, 16, 17, 18, 19, 20, 21, 22, 23, 24, 25, 26, 27, 28, 29, 30, 31, 32, 33, 34, 35, 36] (by decide) rfl rfl rfl
      by_cases h_27 : p0 = 8
      · skip
        refine k_tableIn 102 X dX10_size_19 (by rw [h_27]; decide) (by rw [h_27]; decide) (off := 83) (by rw [h_27]; rfl) (by decide) ?_
        refine k_aload_n X dX10_size_102 0 rfl ?_
        refine k_get (ci := 10) X inlX10 rfl 2 (by decide) dX10_size_103 mw24 0 rfl rfl ?_
        refine k_get (ci := 7) X inlX7 rfl 1 (by decide) dX10_size_106 mw644 27 rfl rfl ?_
        refine k_get (ci := 8) X inlX8 rfl 3 (by decide) dX10_size_109 mw214 30 rfl rfl ?_
        exact k_iret X hr dX10_size_112 (Nat.le_of_ble_eq_true rfl) (Nat.le_of_ble_eq_true rfl) [0, 1, 2, 3, 4, 5, 6, 7, 8, 9, 10, 11, 12, 13, 14, 15, 16, 17, 18, 19, 20, 21, 22, 23, 24, 25, 26, 27, 28, 29, 30, 31, 32, 33, 34, 35, 36] (by decide) rfl rfl rfl
      by_cases h_28 : p0 = 9
      · skip
        refine k_tableIn 113 X dX10_size_19 (by rw [h_28]; decide) (by rw [h_28]; decide) (off := 94) (by rw [h_28]; rfl) (by decide) ?_
        refine k_aload_n X dX10_size_113 0 rfl ?_
        refine k_get (ci := 10) X inlX10 rfl 1 (by decide) dX10_size_114 mw20 0 rfl rfl ?_
        refine k_get (ci := 3) X inlX3 rfl 3 (by decide) dX10_size_117 mw645 3 rfl rfl ?_
        refine k_get (ci := 8) X inlX8 rfl 3 (by decide) dX10_size_120 mw214 17 rfl rfl ?_
        refine k_aload_n X dX10_size_123 0 rfl ?_
        refine k_get (ci := 10) X inlX10 rfl 2 (by decide) dX10_size_124 mw24 0 rfl rfl ?_
        refine k_get (ci := 7) X inlX7 rfl 4 (by decide) dX10_size_127 mw1566 27 rfl rfl ?_
        refine k_callSI (n := 1) (As := [.int zmd]) (st := [.int yhjn]) X [] [(cO10_rrrrvvvvvi h0 tt tl nw kk v4h0 v5h0 v6h0 v7h0 v8h0 tr), (cO9_i1r1i2r1i1r2i4l1i2 tt xtpd th xfn xfp tp xen nm nd xkd xsta xpo xva xle xtk xta), (cAB g tp 900 tpf), (cO3_rrrrrrrr tl ys yhn yht yhj yhm yhb yhs yhc), (cO7_rrrrii ys yr ym yw yp ymd ytr), (cO8_iiri yr 8 3 yrc yrn), (cAI g yrc 24 yrf), (cO8_iiri ym 12 3 ymc ymn), (cAI g ymc 36 ymf), (cO8_iiri yw 6 3 ywc ywn), (cAI g ywc 18 ywf), (cO8_iiri yp 8 2 ypc ypn), (cAI g ypc 16 ypf), (cO8_iiri yhn 1 6 yhnc yhnn), (cAI g yhnc 6 yhnf), (cO8_iiri yht 4 1 yhtc yhtn), (cAI g yhtc 4 yhtf), (cO8_iiri yhj 8 2 yhjc yhjn), (cAI g yhjc 16 yhjf), (cO8_iiri yhm 4 3 yhmc yhmn), (cAI g yhmc 12 yhmf), (cO8_iiri yhb 1 3 yhbc yhbn), (cAI g yhbc 3 yhbf), (cO8_iiri yhs 6 3 yhsc yhsn), (cAI g yhsc 18 yhsf), (cO8_iiri yhc 6 2 yhcc yhcn), (cAI g yhcc 12 yhcf), (cO7_rrrrii nw zr zm zw zp zmd ztr), (cO8_iiri zr 8 3 zrc zrn), (cAI g zrc 24 zrf), (cO8_iiri zm 12 3 zmc zmn), (cAI g zmc 36 zmf), (cO8_iiri zw 6 3 zwc zwn), (cAI g zwc 18 zwf), (cO8_iiri zp 8 2 zpc zpn), (cAI g zpc 16 zpf), (cO4_rriii kk kah kig kac knx kim)] [] [0, 1, 2, 3, 4, 5, 6, 7, 8, 9, 10, 11, 12, 13, 14, 15, 16, 17, 18, 19, 20, 21, 22, 23, 24, 25, 26, 27, 28, 29, 30, 31, 32, 33, 34, 35, 36] (j_bitCount l g zmd) dX10_size_130 mw1569 mw1099 mw1100 mw1101 yk_yJ6_bitCount_0f7a4_1 rfl (Nat.le_of_ble_eq_true rfl) (Nat.le_of_ble_eq_true rfl) (Nat.le_of_ble_eq_true rfl) (Nat.le_of_ble_eq_true rfl) (Nat.le_of_ble_eq_true rfl) rfl rfl (by decide +kernel) rfl (by decide +kernel) (by decide +kernel) ?_
        rintro r_29 w rfl
        refine k_ws [(cO10_rrrrvvvvvi h0 tt tl nw kk v4h0 v5h0 v6h0 v7h0 v8h0 tr), (cO9_i1r1i2r1i1r2i4l1i2 tt xtpd th xfn xfp tp xen nm nd xkd xsta xpo xva xle xtk xta), (cAB g tp 900 tpf), (cO3_rrrrrrrr tl ys yhn yht yhj yhm yhb yhs yhc), (cO7_rrrrii ys yr ym yw yp ymd ytr), (cO8_iiri yr 8 3 yrc yrn), (cAI g yrc 24 yrf), (cO8_iiri ym 12 3 ymc ymn), (cAI g ymc 36 ymf), (cO8_iiri yw 6 3 ywc ywn), (cAI g ywc 18 ywf), (cO8_iiri yp 8 2 ypc ypn), (cAI g ypc 16 ypf), (cO8_iiri yhn 1 6 yhnc yhnn), (cAI g yhnc 6 yhnf), (cO8_iiri yht 4 1 yhtc yhtn), (cAI g yhtc 4 yhtf), (cO8_iiri yhj 8 2 yhjc yhjn), (cAI g yhjc 16 yhjf), (cO8_iiri yhm 4 3 yhmc yhmn), (cAI g yhmc 12 yhmf), (cO8_iiri yhb 1 3 yhbc yhbn), (cAI g yhbc 3 yhbf), (cO8_iiri yhs 6 3 yhsc yhsn), (cAI g yhsc 18 yhsf), (cO8_iiri yhc 6 2 yhcc yhcn), (cAI g yhcc 12 yhcf), (cO7_rrrrii nw zr zm zw zp zmd ztr), (cO8_iiri zr 8 3 zrc zrn), (cAI g zrc 24 zrf), (cO8_iiri zm 12 3 zmc zmn), (cAI g zmc 36 zmf), (cO8_iiri zw 6 3 zwc zwn), (cAI g zwc 18 zwf), (cO8_iiri zp 8 2 zpc zpn), (cAI g zpc 16 zpf), (cO4_rriii kk kah kig kac knx kim)] rfl ?_
        refine k_iadd X dX10_size_133 ?_
        refine k_nm (fun z_31 ez_31 => ?_)
        exact k_iret X hr dX10_size_134 (Nat.le_of_ble_eq_true rfl) (Nat.le_of_ble_eq_true rfl) [0, 1, 2, 3, 4, 5, 6, 7, 8, 9, 10, 11, 12, 13, 14, 15, 16, 17, 18, 19, 20, 21, 22, 23, 24, 25, 26, 27, 28, 29, 30, 31, 32, 33, 34, 35, 36] (by decide) rfl rfl rfl
      by_cases h_33 : p0 = 10
      · skip
        refine k_tableIn 135 X dX10_size_19 (by rw [h_33]; decide) (by rw [h_33]; decide) (off := 116) (by rw [h_33]; rfl) (by decide) ?_
        refine k_aload_n X dX10_size_135 0 rfl ?_
        refine k_get (ci := 10) X inlX10 rfl 2 (by decide) dX10_size_136 mw24 0 rfl rfl ?_
        refine k_get (ci := 7) X inlX7 rfl 2 (by decide) dX10_size_139 mw646 27 rfl rfl ?_
        refine k_get (ci := 8) X inlX8 rfl 3 (by decide) dX10_size_142 mw214 32 rfl rfl ?_
        exact k_iret X hr dX10_size_145 (Nat.le_of_ble_eq_true rfl) (Nat.le_of_ble_eq_true rfl) [0, 1, 2, 3, 4, 5, 6, 7, 8, 9, 10, 11, 12, 13, 14, 15, 16, 17, 18, 19, 20, 21, 22, 23, 24, 25, 26, 27, 28, 29, 30, 31, 32, 33, 34, 35, 36] (by decide) rfl rfl rfl
      by_cases h_34 : p0 = 11
      · skip
        refine k_tableIn 146 X dX10_size_19 (by rw [h_34]; decide) (by rw [h_34]; decide) (off := 127) (by rw [h_34]; rfl) (by decide) ?_
        refine k_aload_n X dX10_size_146 0 rfl ?_
        refine k_get (ci := 10) X inlX10 rfl 1 (by decide) dX10_size_147 mw20 0 rfl rfl ?_
        refine k_get (ci := 3) X inlX3 rfl 4 (by decide) dX10_size_150 mw748 3 rfl rfl ?_
        refine k_get (ci := 8) X inlX8 rfl 3 (by decide) dX10_size_153 mw214 19 rfl rfl ?_
        exact k_iret X hr dX10_size_156 (Nat.le_of_ble_eq_true rfl) (Nat.le_of_ble_eq_true rfl) [0, 1, 2, 3, 4, 5, 6, 7, 8, 9, 10, 11, 12, 13, 14, 15, 16, 17, 18, 19, 20, 21, 22, 23, 24, 25, 26, 27, 28, 29, 30, 31, 32, 33, 34, 35, 36] (by decide) rfl rfl rfl
      by_cases h_35 : p0 = 12
      · skip
        refine k_tableIn 157 X dX10_size_19 (by rw [h_35]; decide) (by rw [h_35]; decide) (off := 138) (by rw [h_35]; rfl) (by decide) ?_
        refine k_aload_n X dX10_size_157 0 rfl ?_
        refine k_get (ci := 10) X inlX10 rfl 2 (by decide) dX10_size_158 mw24 0 rfl rfl ?_
        refine k_get (ci := 7) X inlX7 rfl 3 (by decide) dX10_size_161 mw213 27 rfl rfl ?_
        refine k_get (ci := 8) X inlX8 rfl 3 (by decide) dX10_size_164 mw214 34 rfl rfl ?_
        exact k_iret X hr dX10_size_167 (Nat.le_of_ble_eq_true rfl) (Nat.le_of_ble_eq_true rfl) [0, 1, 2, 3, 4, 5, 6, 7, 8, 9, 10, 11, 12, 13, 14, 15, 16, 17, 18, 19, 20, 21, 22, 23, 24, 25, 26, 27, 28, 29, 30, 31, 32, 33, 34, 35, 36] (by decide) rfl rfl rfl
      by_cases h_36 : p0 = 13
      · skip
        refine k_tableIn 168 X dX10_size_19 (by rw [h_36]; decide) (by rw [h_36]; decide) (off := 149) (by rw [h_36]; rfl) (by decide) ?_
        refine k_aload_n X dX10_size_168 0 rfl ?_
        refine k_get (ci := 10) X inlX10 rfl 1 (by decide) dX10_size_169 mw20 0 rfl rfl ?_
        refine k_get (ci := 3) X inlX3 rfl 6 (by decide) dX10_size_172 mw970 3 rfl rfl ?_
        refine k_get (ci := 8) X inlX8 rfl 3 (by decide) dX10_size_175 mw214 23 rfl rfl ?_
        exact k_iret X hr dX10_size_178 (Nat.le_of_ble_eq_true rfl) (Nat.le_of_ble_eq_true rfl) [0, 1, 2, 3, 4, 5, 6, 7, 8, 9, 10, 11, 12, 13, 14, 15, 16, 17, 18, 19, 20, 21, 22, 23, 24, 25, 26, 27, 28, 29, 30, 31, 32, 33, 34, 35, 36] (by decide) rfl rfl rfl
      by_cases h_37 : p0 = 14
      · skip
        refine k_tableIn 179 X dX10_size_19 (by rw [h_37]; decide) (by rw [h_37]; decide) (off := 160) (by rw [h_37]; rfl) (by decide) ?_
        refine k_aload_n X dX10_size_179 0 rfl ?_
        refine k_get (ci := 10) X inlX10 rfl 1 (by decide) dX10_size_180 mw20 0 rfl rfl ?_
        refine k_get (ci := 3) X inlX3 rfl 7 (by decide) dX10_size_183 mw1186 3 rfl rfl ?_
        refine k_get (ci := 8) X inlX8 rfl 3 (by decide) dX10_size_186 mw214 25 rfl rfl ?_
        exact k_iret X hr dX10_size_189 (Nat.le_of_ble_eq_true rfl) (Nat.le_of_ble_eq_true rfl) [0, 1, 2, 3, 4, 5, 6, 7, 8, 9, 10, 11, 12, 13, 14, 15, 16, 17, 18, 19, 20, 21, 22, 23, 24, 25, 26, 27, 28, 29, 30, 31, 32, 33, 34, 35, 36] (by decide) rfl rfl rfl
      by_cases h_38 : p0 = 15
      · skip
        refine k_tableIn 190 X dX10_size_19 (by rw [h_38]; decide) (by rw [h_38]; decide) (off := 171) (by rw [h_38]; rfl) (by decide) ?_
        refine k_aload_n X dX10_size_190 0 rfl ?_
        refine k_get (ci := 10) X inlX10 rfl 3 (by decide) dX10_size_191 mw28 0 rfl rfl ?_
        refine k_get (ci := 4) X inlX4 rfl 2 (by decide) dX10_size_194 mw1567 36 rfl rfl ?_
        exact k_iret X hr dX10_size_197 (Nat.le_of_ble_eq_true rfl) (Nat.le_of_ble_eq_true rfl) [0, 1, 2, 3, 4, 5, 6, 7, 8, 9, 10, 11, 12, 13, 14, 15, 16, 17, 18, 19, 20, 21, 22, 23, 24, 25, 26, 27, 28, 29, 30, 31, 32, 33, 34, 35, 36] (by decide) rfl rfl rfl
      by_cases h_39 : p0 = 16
      · skip
        refine k_tableIn 198 X dX10_size_19 (by rw [h_39]; decide) (by rw [h_39]; decide) (off := 179) (by rw [h_39]; rfl) (by decide) ?_
        refine k_aload_n X dX10_size_198 0 rfl ?_
        refine k_get (ci := 10) X inlX10 rfl 3 (by decide) dX10_size_199 mw28 0 rfl rfl ?_
        refine k_get (ci := 4) X inlX4 rfl 4 (by decide) dX10_size_202 mw1568 36 rfl rfl ?_
        exact k_iret X hr dX10_size_205 (Nat.le_of_ble_eq_true rfl) (Nat.le_of_ble_eq_true rfl) [0, 1, 2, 3, 4, 5, 6, 7, 8, 9, 10, 11, 12, 13, 14, 15, 16, 17, 18, 19, 20, 21, 22, 23, 24, 25, 26, 27, 28, 29, 30, 31, 32, 33, 34, 35, 36] (by decide) rfl rfl rfl
      by_cases h_40 : p0 = 17
      · skip
        refine k_tableIn 206 X dX10_size_19 (by rw [h_40]; decide) (by rw [h_40]; decide) (off := 187) (by rw [h_40]; rfl) (by decide) ?_
        refine k_aload_n X dX10_size_206 0 rfl ?_
        refine k_get (ci := 10) X inlX10 rfl 0 (by decide) dX10_size_207 mw16 0 rfl rfl ?_
        refine k_get (ci := 9) X inlX9 rfl 0 (by decide) dX10_size_210 mw195 1 rfl rfl ?_
        exact k_iret X hr dX10_size_213 (Nat.le_of_ble_eq_true rfl) (Nat.le_of_ble_eq_true rfl) [0, 1, 2, 3, 4, 5, 6, 7, 8, 9, 10, 11, 12, 13, 14, 15, 16, 17, 18, 19, 20, 21, 22, 23, 24, 25, 26, 27, 28, 29, 30, 31, 32, 33, 34, 35, 36] (by decide) rfl rfl rfl
      refine k_tableOut 214 X dX10_size_19 (by have eh_25 : p0.toInt ≠ 6 := fun q => h_25 (Int32.toInt_inj.mp (q.trans (by decide))); have eh_26 : p0.toInt ≠ 7 := fun q => h_26 (Int32.toInt_inj.mp (q.trans (by decide))); have eh_27 : p0.toInt ≠ 8 := fun q => h_27 (Int32.toInt_inj.mp (q.trans (by decide))); have eh_28 : p0.toInt ≠ 9 := fun q => h_28 (Int32.toInt_inj.mp (q.trans (by decide))); have eh_33 : p0.toInt ≠ 10 := fun q => h_33 (Int32.toInt_inj.mp (q.trans (by decide))); have eh_34 : p0.toInt ≠ 11 := fun q => h_34 (Int32.toInt_inj.mp (q.trans (by decide))); have eh_35 : p0.toInt ≠ 12 := fun q => h_35 (Int32.toInt_inj.mp (q.trans (by decide))); have eh_36 : p0.toInt ≠ 13 := fun q => h_36 (Int32.toInt_inj.mp (q.trans (by decide))); have eh_37 : p0.toInt ≠ 14 := fun q => h_37 (Int32.toInt_inj.mp (q.trans (by decide))); have eh_38 : p0.toInt ≠ 15 := fun q => h_38 (Int32.toInt_inj.mp (q.trans (by decide))); have eh_39 : p0.toInt ≠ 16 := fun q => h_39 (Int32.toInt_inj.mp (q.trans (by decide))); have eh_40 : p0.toInt ≠ 17 := fun q => h_40 (Int32.toInt_inj.mp (q.trans (by decide))); omega) (by decide) ?_
      refine k_iconst (v := -1) X dX10_size_214 (by decide) ?_
      exact k_iret X hr dX10_size_215 (Nat.le_of_ble_eq_true rfl) (Nat.le_of_ble_eq_true rfl) [0, 1, 2, 3, 4, 5, 6, 7, 8, 9, 10, 11, 12, 13, 14, 15, 16, 17, 18, 19, 20, 21, 22, 23, 24, 25, 26, 27, 28, 29, 30, 31, 32, 33, 34, 35, 36] (by decide) rfl rfl rfl
    · skip
      have j_41 : p0.toInt ≤ 5 := iv_nlt h_22
      have iv_42 : IV p0 0 5 := iv_leL (iv_nlt h_22) iv_21 (show IV 5 5 5 from (by decide)) (by decide)
      refine k_aload_n X dX10_size_9 0 rfl ?_
      refine k_get (ci := 10) X inlX10 rfl 1 (by decide) dX10_size_10 mw20 0 rfl rfl ?_
      refine k_iload_n X dX10_size_13 1 rfl ?_
      refine k_callVI (n := 1) (As := [.int p0]) (st := []) X [(cO3_rrrrrrrr tl ys yhn yht yhj yhm yhb yhs yhc), (cO8_iiri yhn 1 6 yhnc yhnn), (cAI g yhnc 6 yhnf)] [(cO10_rrrrvvvvvi h0 tt tl nw kk v4h0 v5h0 v6h0 v7h0 v8h0 tr), (cO9_i1r1i2r1i1r2i4l1i2 tt xtpd th xfn xfp tp xen nm nd xkd xsta xpo xva xle xtk xta), (cAB g tp 900 tpf), (cO7_rrrrii ys yr ym yw yp ymd ytr), (cO8_iiri yr 8 3 yrc yrn), (cAI g yrc 24 yrf), (cO8_iiri ym 12 3 ymc ymn), (cAI g ymc 36 ymf), (cO8_iiri yw 6 3 ywc ywn), (cAI g ywc 18 ywf), (cO8_iiri yp 8 2 ypc ypn), (cAI g ypc 16 ypf), (cO8_iiri yht 4 1 yhtc yhtn), (cAI g yhtc 4 yhtf), (cO8_iiri yhj 8 2 yhjc yhjn), (cAI g yhjc 16 yhjf), (cO8_iiri yhm 4 3 yhmc yhmn), (cAI g yhmc 12 yhmf), (cO8_iiri yhb 1 3 yhbc yhbn), (cAI g yhbc 3 yhbf), (cO8_iiri yhs 6 3 yhsc yhsn), (cAI g yhsc 18 yhsf), (cO8_iiri yhc 6 2 yhcc yhcn), (cAI g yhcc 12 yhcf), (cO7_rrrrii nw zr zm zw zp zmd ztr), (cO8_iiri zr 8 3 zrc zrn), (cAI g zrc 24 zrf), (cO8_iiri zm 12 3 zmc zmn), (cAI g zmc 36 zmf), (cO8_iiri zw 6 3 zwc zwn), (cAI g zwc 18 zwf), (cO8_iiri zp 8 2 zpc zpn), (cAI g zpc 16 zpf), (cO4_rriii kk kah kig kac knx kim)] [3, 13, 14] [0, 1, 2, 4, 5, 6, 7, 8, 9, 10, 11, 12, 15, 16, 17, 18, 19, 20, 21, 22, 23, 24, 25, 26, 27, 28, 29, 30, 31, 32, 33, 34, 35, 36] (h_number l g tl p0 (.ref ys) yhn (.ref yht) (.ref yhj) (.ref yhm) (.ref yhb) (.ref yhs) (.ref yhc) yhnc yhnn yhnf) dX10_size_14 mw1264 mw415 mw416 mw19 mw417 rfl 3 rfl rfl 0 _ rfl yk_yX3_number_1 rfl (Nat.le_of_ble_eq_true rfl) (Nat.le_of_ble_eq_true rfl) (Nat.le_of_ble_eq_true rfl) (Nat.le_of_ble_eq_true rfl) (Nat.le_of_ble_eq_true rfl) rfl rfl (by decide +kernel) rfl (by decide +kernel) (by decide +kernel) ?_
      rintro r_43 w rfl
      refine k_ws [(cO10_rrrrvvvvvi h0 tt tl nw kk v4h0 v5h0 v6h0 v7h0 v8h0 tr), (cO9_i1r1i2r1i1r2i4l1i2 tt xtpd th xfn xfp tp xen nm nd xkd xsta xpo xva xle xtk xta), (cAB g tp 900 tpf), (cO7_rrrrii ys yr ym yw yp ymd ytr), (cO8_iiri yr 8 3 yrc yrn), (cAI g yrc 24 yrf), (cO8_iiri ym 12 3 ymc ymn), (cAI g ymc 36 ymf), (cO8_iiri yw 6 3 ywc ywn), (cAI g ywc 18 ywf), (cO8_iiri yp 8 2 ypc ypn), (cAI g ypc 16 ypf), (cO8_iiri yht 4 1 yhtc yhtn), (cAI g yhtc 4 yhtf), (cO8_iiri yhj 8 2 yhjc yhjn), (cAI g yhjc 16 yhjf), (cO8_iiri yhm 4 3 yhmc yhmn), (cAI g yhmc 12 yhmf), (cO8_iiri yhb 1 3 yhbc yhbn), (cAI g yhbc 3 yhbf), (cO8_iiri yhs 6 3 yhsc yhsn), (cAI g yhsc 18 yhsf), (cO8_iiri yhc 6 2 yhcc yhcn), (cAI g yhcc 12 yhcf), (cO7_rrrrii nw zr zm zw zp zmd ztr), (cO8_iiri zr 8 3 zrc zrn), (cAI g zrc 24 zrf), (cO8_iiri zm 12 3 zmc zmn), (cAI g zmc 36 zmf), (cO8_iiri zw 6 3 zwc zwn), (cAI g zwc 18 zwf), (cO8_iiri zp 8 2 zpc zpn), (cAI g zpc 16 zpf), (cO4_rriii kk kah kig kac knx kim), (cO3_rrrrrrrr tl ys yhn yht yhj yhm yhb yhs yhc), (cO8_iiri yhn 1 6 yhnc yhnn), (cAI g yhnc 6 yhnf)] rfl ?_
      exact k_iret X hr dX10_size_17 (Nat.le_of_ble_eq_true rfl) (Nat.le_of_ble_eq_true rfl) [0, 1, 2, 34, 3, 4, 5, 6, 7, 8, 9, 10, 11, 35, 36, 12, 13, 14, 15, 16, 17, 18, 19, 20, 21, 22, 23, 24, 25, 26, 27, 28, 29, 30, 31, 32, 33] (by decide) rfl rfl rfl

theorem dX10_wrong_0 : decode cX10_wrong 0 = .ok (.aload_n 0, 1) := dk_42 rfl
theorem dX10_wrong_1 : decode cX10_wrong 1 = .ok (.invokevirtual 184, 3) := dk_182 rfl rfl rfl rfl
theorem dX10_wrong_4 : decode cX10_wrong 4 = .ok (.ifCond .eq 21, 3) := dk_153 rfl rfl rfl (by decide)
theorem dX10_wrong_7 : decode cX10_wrong 7 = .ok (.aload_n 0, 1) := dk_42 rfl
theorem dX10_wrong_8 : decode cX10_wrong 8 = .ok (.aload_n 0, 1) := dk_42 rfl
theorem dX10_wrong_9 : decode cX10_wrong 9 = .ok (.getfield 61, 3) := dk_180 rfl rfl rfl rfl
theorem dX10_wrong_12 : decode cX10_wrong 12 = .ok (.aload_n 0, 1) := dk_42 rfl
theorem dX10_wrong_13 : decode cX10_wrong 13 = .ok (.getfield 26, 3) := dk_180 rfl rfl rfl rfl
theorem dX10_wrong_16 : decode cX10_wrong 16 = .ok (.invokevirtual 313, 3) := dk_182 rfl rfl rfl rfl
theorem dX10_wrong_19 : decode cX10_wrong 19 = .ok (.invokevirtual 118, 3) := dk_182 rfl rfl rfl rfl
theorem dX10_wrong_22 : decode cX10_wrong 22 = .ok (.goto 8, 3) := dk_167 rfl rfl rfl (by decide)
theorem dX10_wrong_25 : decode cX10_wrong 25 = .ok (.aload_n 0, 1) := dk_42 rfl
theorem dX10_wrong_26 : decode cX10_wrong 26 = .ok (.iconst 1, 1) := dk_4 rfl
theorem dX10_wrong_27 : decode cX10_wrong 27 = .ok (.invokevirtual 83, 3) := dk_182 rfl rfl rfl rfl
theorem dX10_wrong_30 : decode cX10_wrong 30 = .ok (.ireturn, 1) := dk_172 rfl
set_option maxHeartbeats 4000000 in
set_option maxRecDepth 100000 in
theorem c_wrong (l : Launch) (g : Gx) (h0 : Nat) (v0h0 : Value) (v1h0 : Value) (nw : Nat) (v3h0 : Value) (v4h0 : Value) (v5h0 : Value) (v6h0 : Value) (xc : Nat) (v8h0 : Value) (tr : Int32) (zr : Nat) (zm : Nat) (zw : Nat) (zp : Nat) (zmd : Int32) (ztr : Int32) (zrc : Nat) (zrn : Int32) (zrf : Nat → Int32) (zmc : Nat) (zmn : Int32) (zmf : Nat → Int32) (zwc : Nat) (zwn : Int32) (zwf : Nat → Int32) (zpc : Nat) (zpn : Int32) (zpf : Nat → Int32) (eo : Nat) (ep : Nat) (es : Nat) (eoc : Nat) (eon : Int32) (eof : Nat → Int32) (epc : Nat) (epn : Int32) (epf : Nat → Int32) (es_f : Nat → Int64) : cI l g yX10_wrong cX10_wrong 1 (some .int) 3 67 0 0 [.ref h0] [(cO10_vvrvvvvrvi h0 v0h0 v1h0 nw v3h0 v4h0 v5h0 v6h0 xc v8h0 tr), (cO7_rrrrii nw zr zm zw zp zmd ztr), (cO8_iiri zr 8 3 zrc zrn), (cAI g zrc 24 zrf), (cO8_iiri zm 12 3 zmc zmn), (cAI g zmc 36 zmf), (cO8_iiri zw 6 3 zwc zwn), (cAI g zwc 18 zwf), (cO8_iiri zp 8 2 zpc zpn), (cAI g zpc 16 zpf), (cO1_rrr xc eo ep es), (cO8_iiri eo 8 1 eoc eon), (cAI g eoc 8 eof), (cO8_iiri ep 256 1 epc epn), (cAI g epc 256 epf), (cAJ g es 8 es_f)] (fun r w => ∃ (tr2 : Int32), w = [(cO10_vvrvvvvrvi h0 v0h0 v1h0 nw v3h0 v4h0 v5h0 v6h0 xc v8h0 tr2), (cO7_rrrrii nw zr zm zw zp zmd ztr), (cO8_iiri zr 8 3 zrc zrn), (cAI g zrc 24 zrf), (cO8_iiri zm 12 3 zmc zmn), (cAI g zmc 36 zmf), (cO8_iiri zw 6 3 zwc zwn), (cAI g zwc 18 zwf), (cO8_iiri zp 8 2 zpc zpn), (cAI g zpc 16 zpf), (cO1_rrr xc eo ep es), (cO8_iiri eo 8 1 eoc eon), (cAI g eoc 8 eof), (cO8_iiri ep 256 1 epc epn), (cAI g epc 256 epf), (cAJ g es 8 es_f)]) := by
  refine cI.of (by decide) (Nat.le_of_ble_eq_true rfl) ?_
  intro p e s m args below meth c A X hr hi
  refine k_lveq [(0, .ref h0)] rfl ?_
  refine k_aload_n X dX10_wrong_0 0 rfl ?_
  refine k_callVI (n := 0) (As := []) (st := []) X [(cO10_vvrvvvvrvi h0 v0h0 v1h0 nw v3h0 v4h0 v5h0 v6h0 xc v8h0 tr), (cO7_rrrrii nw zr zm zw zp zmd ztr), (cO8_iiri zp 8 2 zpc zpn), (cAI g zpc 16 zpf)] [(cO8_iiri zr 8 3 zrc zrn), (cAI g zrc 24 zrf), (cO8_iiri zm 12 3 zmc zmn), (cAI g zmc 36 zmf), (cO8_iiri zw 6 3 zwc zwn), (cAI g zwc 18 zwf), (cO1_rrr xc eo ep es), (cO8_iiri eo 8 1 eoc eon), (cAI g eoc 8 eof), (cO8_iiri ep 256 1 epc epn), (cAI g epc 256 epf), (cAJ g es 8 es_f)] [0, 1, 8, 9] [2, 3, 4, 5, 6, 7, 10, 11, 12, 13, 14, 15] (c_isOpen l g h0 v0h0 v1h0 nw v3h0 v4h0 v5h0 v6h0 (.ref xc) v8h0 tr (.ref zr) (.ref zm) (.ref zw) zp zmd ztr zpc zpn zpf) dX10_wrong_1 mw971 mw972 mw973 mw2 mw974 rfl 10 rfl rfl 0 _ rfl yk_yX10_isOpen_0 rfl (Nat.le_of_ble_eq_true rfl) (Nat.le_of_ble_eq_true rfl) (Nat.le_of_ble_eq_true rfl) (Nat.le_of_ble_eq_true rfl) (Nat.le_of_ble_eq_true rfl) rfl rfl (by decide +kernel) rfl (by decide +kernel) (by decide +kernel) ?_
  rintro r_2 w ⟨tr2_1, rfl⟩
  refine k_ws [(cO8_iiri zr 8 3 zrc zrn), (cAI g zrc 24 zrf), (cO8_iiri zm 12 3 zmc zmn), (cAI g zmc 36 zmf), (cO8_iiri zw 6 3 zwc zwn), (cAI g zwc 18 zwf), (cO1_rrr xc eo ep es), (cO8_iiri eo 8 1 eoc eon), (cAI g eoc 8 eof), (cO8_iiri ep 256 1 epc epn), (cAI g epc 256 epf), (cAJ g es 8 es_f), (cO10_vvrvvvvrvi h0 v0h0 v1h0 nw v3h0 v4h0 v5h0 v6h0 xc v8h0 tr2_1), (cO7_rrrrii nw zr zm zw zp zmd ztr), (cO8_iiri zp 8 2 zpc zpn), (cAI g zpc 16 zpf)] rfl ?_
  refine k_if_eq 25 X dX10_wrong_4 (by decide) (fun h_4 => ?_) (fun h_4 => ?_)
  · skip
    refine k_aload_n X dX10_wrong_25 0 rfl ?_
    refine k_iconst (v := 1) X dX10_wrong_26 (by decide) ?_
    refine k_callVI (n := 1) (As := [.int 1]) (st := []) X [(cO10_vvrvvvvrvi h0 v0h0 v1h0 nw v3h0 v4h0 v5h0 v6h0 xc v8h0 tr2_1)] [(cO8_iiri zr 8 3 zrc zrn), (cAI g zrc 24 zrf), (cO8_iiri zm 12 3 zmc zmn), (cAI g zmc 36 zmf), (cO8_iiri zw 6 3 zwc zwn), (cAI g zwc 18 zwf), (cO1_rrr xc eo ep es), (cO8_iiri eo 8 1 eoc eon), (cAI g eoc 8 eof), (cO8_iiri ep 256 1 epc epn), (cAI g epc 256 epf), (cAJ g es 8 es_f), (cO7_rrrrii nw zr zm zw zp zmd ztr), (cO8_iiri zp 8 2 zpc zpn), (cAI g zpc 16 zpf)] [12] [0, 1, 2, 3, 4, 5, 6, 7, 8, 9, 10, 11, 13, 14, 15] (c_refuse l g h0 1 v0h0 v1h0 (.ref nw) v3h0 v4h0 v5h0 v6h0 (.ref xc) v8h0 tr2_1) dX10_wrong_27 mw215 mw216 mw217 mw2 mw218 rfl 10 rfl rfl 0 _ rfl yk_yX10_refuse_1 rfl (Nat.le_of_ble_eq_true rfl) (Nat.le_of_ble_eq_true rfl) (Nat.le_of_ble_eq_true rfl) (Nat.le_of_ble_eq_true rfl) (Nat.le_of_ble_eq_true rfl) rfl rfl (by decide +kernel) rfl (by decide +kernel) (by decide +kernel) ?_
    rintro r_6 w ⟨tr2_5, rfl⟩
    refine k_ws [(cO8_iiri zr 8 3 zrc zrn), (cAI g zrc 24 zrf), (cO8_iiri zm 12 3 zmc zmn), (cAI g zmc 36 zmf), (cO8_iiri zw 6 3 zwc zwn), (cAI g zwc 18 zwf), (cO1_rrr xc eo ep es), (cO8_iiri eo 8 1 eoc eon), (cAI g eoc 8 eof), (cO8_iiri ep 256 1 epc epn), (cAI g epc 256 epf), (cAJ g es 8 es_f), (cO7_rrrrii nw zr zm zw zp zmd ztr), (cO8_iiri zp 8 2 zpc zpn), (cAI g zpc 16 zpf), (cO10_vvrvvvvrvi h0 v0h0 v1h0 nw v3h0 v4h0 v5h0 v6h0 xc v8h0 tr2_5)] rfl ?_
    exact k_iret X hr dX10_wrong_30 (Nat.le_of_ble_eq_true rfl) (Nat.le_of_ble_eq_true rfl) [15, 12, 0, 1, 2, 3, 4, 5, 13, 14, 6, 7, 8, 9, 10, 11] (by decide) rfl rfl ⟨tr2_5, rfl⟩
  · skip
    refine k_aload_n X dX10_wrong_7 0 rfl ?_
    refine k_aload_n X dX10_wrong_8 0 rfl ?_
    refine k_get (ci := 10) X inlX10 rfl 7 (by decide) dX10_wrong_9 mw44 12 rfl rfl ?_
    refine k_aload_n X dX10_wrong_12 0 rfl ?_
    refine k_get (ci := 10) X inlX10 rfl 2 (by decide) dX10_wrong_13 mw24 12 rfl rfl ?_
    refine k_callVI (n := 1) (As := [.ref nw]) (st := [.ref h0]) X [(cO1_rrr xc eo ep es), (cO7_rrrrii nw zr zm zw zp zmd ztr), (cO8_iiri zp 8 2 zpc zpn), (cAI g zpc 16 zpf)] [(cO8_iiri zr 8 3 zrc zrn), (cAI g zrc 24 zrf), (cO8_iiri zm 12 3 zmc zmn), (cAI g zmc 36 zmf), (cO8_iiri zw 6 3 zwc zwn), (cAI g zwc 18 zwf), (cO8_iiri eo 8 1 eoc eon), (cAI g eoc 8 eof), (cO8_iiri ep 256 1 epc epn), (cAI g epc 256 epf), (cAJ g es 8 es_f), (cO10_vvrvvvvrvi h0 v0h0 v1h0 nw v3h0 v4h0 v5h0 v6h0 xc v8h0 tr2_1)] [6, 13, 14, 15] [0, 1, 2, 3, 4, 5, 7, 8, 9, 10, 11, 12] (e_wrong l g xc nw (.ref eo) (.ref ep) (.ref es) (.ref zr) (.ref zm) (.ref zw) zp zmd ztr zpc zpn zpf) dX10_wrong_16 mw1356 mw1357 mw1358 mw43 mw1359 rfl 1 rfl rfl 0 _ rfl yk_yX1_wrongPlaces_1 rfl (Nat.le_of_ble_eq_true rfl) (Nat.le_of_ble_eq_true rfl) (Nat.le_of_ble_eq_true rfl) (Nat.le_of_ble_eq_true rfl) (Nat.le_of_ble_eq_true rfl) rfl rfl (by decide +kernel) rfl (by decide +kernel) (by decide +kernel) ?_
    rintro r_8 w rfl
    refine k_ws [(cO8_iiri zr 8 3 zrc zrn), (cAI g zrc 24 zrf), (cO8_iiri zm 12 3 zmc zmn), (cAI g zmc 36 zmf), (cO8_iiri zw 6 3 zwc zwn), (cAI g zwc 18 zwf), (cO8_iiri eo 8 1 eoc eon), (cAI g eoc 8 eof), (cO8_iiri ep 256 1 epc epn), (cAI g epc 256 epf), (cAJ g es 8 es_f), (cO10_vvrvvvvrvi h0 v0h0 v1h0 nw v3h0 v4h0 v5h0 v6h0 xc v8h0 tr2_1), (cO1_rrr xc eo ep es), (cO7_rrrrii nw zr zm zw zp zmd ztr), (cO8_iiri zp 8 2 zpc zpn), (cAI g zpc 16 zpf)] rfl ?_
    refine k_callVI (n := 1) (As := [.int r_8]) (st := []) X [(cO10_vvrvvvvrvi h0 v0h0 v1h0 nw v3h0 v4h0 v5h0 v6h0 xc v8h0 tr2_1)] [(cO8_iiri zr 8 3 zrc zrn), (cAI g zrc 24 zrf), (cO8_iiri zm 12 3 zmc zmn), (cAI g zmc 36 zmf), (cO8_iiri zw 6 3 zwc zwn), (cAI g zwc 18 zwf), (cO8_iiri eo 8 1 eoc eon), (cAI g eoc 8 eof), (cO8_iiri ep 256 1 epc epn), (cAI g epc 256 epf), (cAJ g es 8 es_f), (cO1_rrr xc eo ep es), (cO7_rrrrii nw zr zm zw zp zmd ztr), (cO8_iiri zp 8 2 zpc zpn), (cAI g zpc 16 zpf)] [11] [0, 1, 2, 3, 4, 5, 6, 7, 8, 9, 10, 12, 13, 14, 15] (c_tell l g h0 r_8 v0h0 v1h0 (.ref nw) v3h0 v4h0 v5h0 v6h0 (.ref xc) v8h0 tr2_1) dX10_wrong_19 mw460 mw461 mw462 mw2 mw463 rfl 10 rfl rfl 0 _ rfl yk_yX10_tell_1 rfl (Nat.le_of_ble_eq_true rfl) (Nat.le_of_ble_eq_true rfl) (Nat.le_of_ble_eq_true rfl) (Nat.le_of_ble_eq_true rfl) (Nat.le_of_ble_eq_true rfl) rfl rfl (by decide +kernel) rfl (by decide +kernel) (by decide +kernel) ?_
    rintro r_11 w ⟨tr2_10, rfl⟩
    refine k_ws [(cO8_iiri zr 8 3 zrc zrn), (cAI g zrc 24 zrf), (cO8_iiri zm 12 3 zmc zmn), (cAI g zmc 36 zmf), (cO8_iiri zw 6 3 zwc zwn), (cAI g zwc 18 zwf), (cO8_iiri eo 8 1 eoc eon), (cAI g eoc 8 eof), (cO8_iiri ep 256 1 epc epn), (cAI g epc 256 epf), (cAJ g es 8 es_f), (cO1_rrr xc eo ep es), (cO7_rrrrii nw zr zm zw zp zmd ztr), (cO8_iiri zp 8 2 zpc zpn), (cAI g zpc 16 zpf), (cO10_vvrvvvvrvi h0 v0h0 v1h0 nw v3h0 v4h0 v5h0 v6h0 xc v8h0 tr2_10)] rfl ?_
    refine k_goto 30 X dX10_wrong_22 (by decide) ?_
    exact k_iret X hr dX10_wrong_30 (Nat.le_of_ble_eq_true rfl) (Nat.le_of_ble_eq_true rfl) [15, 12, 0, 1, 2, 3, 4, 5, 13, 14, 11, 6, 7, 8, 9, 10] (by decide) rfl rfl ⟨tr2_10, rfl⟩

theorem dX10_exchanges_0 : decode cX10_exchanges 0 = .ok (.aload_n 0, 1) := dk_42 rfl
theorem dX10_exchanges_1 : decode cX10_exchanges 1 = .ok (.invokevirtual 184, 3) := dk_182 rfl rfl rfl rfl
theorem dX10_exchanges_4 : decode cX10_exchanges 4 = .ok (.ifCond .eq 21, 3) := dk_153 rfl rfl rfl (by decide)
theorem dX10_exchanges_7 : decode cX10_exchanges 7 = .ok (.aload_n 0, 1) := dk_42 rfl
theorem dX10_exchanges_8 : decode cX10_exchanges 8 = .ok (.aload_n 0, 1) := dk_42 rfl
theorem dX10_exchanges_9 : decode cX10_exchanges 9 = .ok (.getfield 61, 3) := dk_180 rfl rfl rfl rfl
theorem dX10_exchanges_12 : decode cX10_exchanges 12 = .ok (.aload_n 0, 1) := dk_42 rfl
theorem dX10_exchanges_13 : decode cX10_exchanges 13 = .ok (.getfield 26, 3) := dk_180 rfl rfl rfl rfl
theorem dX10_exchanges_16 : decode cX10_exchanges 16 = .ok (.invokevirtual 317, 3) := dk_182 rfl rfl rfl rfl
theorem dX10_exchanges_19 : decode cX10_exchanges 19 = .ok (.invokevirtual 118, 3) := dk_182 rfl rfl rfl rfl
theorem dX10_exchanges_22 : decode cX10_exchanges 22 = .ok (.goto 8, 3) := dk_167 rfl rfl rfl (by decide)
theorem dX10_exchanges_25 : decode cX10_exchanges 25 = .ok (.aload_n 0, 1) := dk_42 rfl
theorem dX10_exchanges_26 : decode cX10_exchanges 26 = .ok (.iconst 1, 1) := dk_4 rfl
theorem dX10_exchanges_27 : decode cX10_exchanges 27 = .ok (.invokevirtual 83, 3) := dk_182 rfl rfl rfl rfl
theorem dX10_exchanges_30 : decode cX10_exchanges 30 = .ok (.ireturn, 1) := dk_172 rfl
set_option maxHeartbeats 4000000 in
set_option maxRecDepth 100000 in
theorem c_exchanges (l : Launch) (g : Gx) (h0 : Nat) (v0h0 : Value) (v1h0 : Value) (nw : Nat) (v3h0 : Value) (v4h0 : Value) (v5h0 : Value) (v6h0 : Value) (xc : Nat) (v8h0 : Value) (tr : Int32) (zr : Nat) (zm : Nat) (zw : Nat) (zp : Nat) (zmd : Int32) (ztr : Int32) (zrc : Nat) (zrn : Int32) (zrf : Nat → Int32) (zmc : Nat) (zmn : Int32) (zmf : Nat → Int32) (zwc : Nat) (zwn : Int32) (zwf : Nat → Int32) (zpc : Nat) (zpn : Int32) (zpf : Nat → Int32) (eo : Nat) (ep : Nat) (es : Nat) (eoc : Nat) (eon : Int32) (eof : Nat → Int32) (epc : Nat) (epn : Int32) (epf : Nat → Int32) (es_f : Nat → Int64) : cI l g yX10_exchanges cX10_exchanges 1 (some .int) 4 96 0 0 [.ref h0] [(cO10_vvrvvvvrvi h0 v0h0 v1h0 nw v3h0 v4h0 v5h0 v6h0 xc v8h0 tr), (cO7_rrrrii nw zr zm zw zp zmd ztr), (cO8_iiri zr 8 3 zrc zrn), (cAI g zrc 24 zrf), (cO8_iiri zm 12 3 zmc zmn), (cAI g zmc 36 zmf), (cO8_iiri zw 6 3 zwc zwn), (cAI g zwc 18 zwf), (cO8_iiri zp 8 2 zpc zpn), (cAI g zpc 16 zpf), (cO1_rrr xc eo ep es), (cO8_iiri eo 8 1 eoc eon), (cAI g eoc 8 eof), (cO8_iiri ep 256 1 epc epn), (cAI g epc 256 epf), (cAJ g es 8 es_f)] (fun r w => ∃ (tr2 : Int32) (eog : Nat → Int32) (eok : Int32) (epg : Nat → Int32) (es_g : Nat → Int64), w = [(cO10_vvrvvvvrvi h0 v0h0 v1h0 nw v3h0 v4h0 v5h0 v6h0 xc v8h0 tr2), (cO7_rrrrii nw zr zm zw zp zmd ztr), (cO8_iiri zr 8 3 zrc zrn), (cAI g zrc 24 zrf), (cO8_iiri zm 12 3 zmc zmn), (cAI g zmc 36 zmf), (cO8_iiri zw 6 3 zwc zwn), (cAI g zwc 18 zwf), (cO8_iiri zp 8 2 zpc zpn), (cAI g zpc 16 zpf), (cO1_rrr xc eo ep es), (cO8_iiri eo 8 1 eoc eok), (cAI g eoc 8 eog), (cO8_iiri ep 256 1 epc epn), (cAI g epc 256 epg), (cAJ g es 8 es_g)]) := by
  refine cI.of (by decide) (Nat.le_of_ble_eq_true rfl) ?_
  intro p e s m args below meth c A X hr hi
  refine k_lveq [(0, .ref h0)] rfl ?_
  refine k_aload_n X dX10_exchanges_0 0 rfl ?_
  refine k_callVI (n := 0) (As := []) (st := []) X [(cO10_vvrvvvvrvi h0 v0h0 v1h0 nw v3h0 v4h0 v5h0 v6h0 xc v8h0 tr), (cO7_rrrrii nw zr zm zw zp zmd ztr), (cO8_iiri zp 8 2 zpc zpn), (cAI g zpc 16 zpf)] [(cO8_iiri zr 8 3 zrc zrn), (cAI g zrc 24 zrf), (cO8_iiri zm 12 3 zmc zmn), (cAI g zmc 36 zmf), (cO8_iiri zw 6 3 zwc zwn), (cAI g zwc 18 zwf), (cO1_rrr xc eo ep es), (cO8_iiri eo 8 1 eoc eon), (cAI g eoc 8 eof), (cO8_iiri ep 256 1 epc epn), (cAI g epc 256 epf), (cAJ g es 8 es_f)] [0, 1, 8, 9] [2, 3, 4, 5, 6, 7, 10, 11, 12, 13, 14, 15] (c_isOpen l g h0 v0h0 v1h0 nw v3h0 v4h0 v5h0 v6h0 (.ref xc) v8h0 tr (.ref zr) (.ref zm) (.ref zw) zp zmd ztr zpc zpn zpf) dX10_exchanges_1 mw971 mw972 mw973 mw2 mw974 rfl 10 rfl rfl 0 _ rfl yk_yX10_isOpen_0 rfl (Nat.le_of_ble_eq_true rfl) (Nat.le_of_ble_eq_true rfl) (Nat.le_of_ble_eq_true rfl) (Nat.le_of_ble_eq_true rfl) (Nat.le_of_ble_eq_true rfl) rfl rfl (by decide +kernel) rfl (by decide +kernel) (by decide +kernel) ?_
  rintro r_2 w ⟨tr2_1, rfl⟩
  refine k_ws [(cO8_iiri zr 8 3 zrc zrn), (cAI g zrc 24 zrf), (cO8_iiri zm 12 3 zmc zmn), (cAI g zmc 36 zmf), (cO8_iiri zw 6 3 zwc zwn), (cAI g zwc 18 zwf), (cO1_rrr xc eo ep es), (cO8_iiri eo 8 1 eoc eon), (cAI g eoc 8 eof), (cO8_iiri ep 256 1 epc epn), (cAI g epc 256 epf), (cAJ g es 8 es_f), (cO10_vvrvvvvrvi h0 v0h0 v1h0 nw v3h0 v4h0 v5h0 v6h0 xc v8h0 tr2_1), (cO7_rrrrii nw zr zm zw zp zmd ztr), (cO8_iiri zp 8 2 zpc zpn), (cAI g zpc 16 zpf)] rfl ?_
  refine k_if_eq 25 X dX10_exchanges_4 (by decide) (fun h_4 => ?_) (fun h_4 => ?_)
  · skip
    refine k_aload_n X dX10_exchanges_25 0 rfl ?_
    refine k_iconst (v := 1) X dX10_exchanges_26 (by decide) ?_
    refine k_callVI (n := 1) (As := [.int 1]) (st := []) X [(cO10_vvrvvvvrvi h0 v0h0 v1h0 nw v3h0 v4h0 v5h0 v6h0 xc v8h0 tr2_1)] [(cO8_iiri zr 8 3 zrc zrn), (cAI g zrc 24 zrf), (cO8_iiri zm 12 3 zmc zmn), (cAI g zmc 36 zmf), (cO8_iiri zw 6 3 zwc zwn), (cAI g zwc 18 zwf), (cO1_rrr xc eo ep es), (cO8_iiri eo 8 1 eoc eon), (cAI g eoc 8 eof), (cO8_iiri ep 256 1 epc epn), (cAI g epc 256 epf), (cAJ g es 8 es_f), (cO7_rrrrii nw zr zm zw zp zmd ztr), (cO8_iiri zp 8 2 zpc zpn), (cAI g zpc 16 zpf)] [12] [0, 1, 2, 3, 4, 5, 6, 7, 8, 9, 10, 11, 13, 14, 15] (c_refuse l g h0 1 v0h0 v1h0 (.ref nw) v3h0 v4h0 v5h0 v6h0 (.ref xc) v8h0 tr2_1) dX10_exchanges_27 mw215 mw216 mw217 mw2 mw218 rfl 10 rfl rfl 0 _ rfl yk_yX10_refuse_1 rfl (Nat.le_of_ble_eq_true rfl) (Nat.le_of_ble_eq_true rfl) (Nat.le_of_ble_eq_true rfl) (Nat.le_of_ble_eq_true rfl) (Nat.le_of_ble_eq_true rfl) rfl rfl (by decide +kernel) rfl (by decide +kernel) (by decide +kernel) ?_
    rintro r_6 w ⟨tr2_5, rfl⟩
    refine k_ws [(cO8_iiri zr 8 3 zrc zrn), (cAI g zrc 24 zrf), (cO8_iiri zm 12 3 zmc zmn), (cAI g zmc 36 zmf), (cO8_iiri zw 6 3 zwc zwn), (cAI g zwc 18 zwf), (cO1_rrr xc eo ep es), (cO8_iiri eo 8 1 eoc eon), (cAI g eoc 8 eof), (cO8_iiri ep 256 1 epc epn), (cAI g epc 256 epf), (cAJ g es 8 es_f), (cO7_rrrrii nw zr zm zw zp zmd ztr), (cO8_iiri zp 8 2 zpc zpn), (cAI g zpc 16 zpf), (cO10_vvrvvvvrvi h0 v0h0 v1h0 nw v3h0 v4h0 v5h0 v6h0 xc v8h0 tr2_5)] rfl ?_
    exact k_iret X hr dX10_exchanges_30 (Nat.le_of_ble_eq_true rfl) (Nat.le_of_ble_eq_true rfl) [15, 12, 0, 1, 2, 3, 4, 5, 13, 14, 6, 7, 8, 9, 10, 11] (by decide) rfl rfl ⟨tr2_5, eof, eon, epf, es_f, rfl⟩
  · skip
    refine k_aload_n X dX10_exchanges_7 0 rfl ?_
    refine k_aload_n X dX10_exchanges_8 0 rfl ?_
    refine k_get (ci := 10) X inlX10 rfl 7 (by decide) dX10_exchanges_9 mw44 12 rfl rfl ?_
    refine k_aload_n X dX10_exchanges_12 0 rfl ?_
    refine k_get (ci := 10) X inlX10 rfl 2 (by decide) dX10_exchanges_13 mw24 12 rfl rfl ?_
    refine k_callVI (n := 1) (As := [.ref nw]) (st := [.ref h0]) X [(cO1_rrr xc eo ep es), (cO8_iiri eo 8 1 eoc eon), (cAI g eoc 8 eof), (cO8_iiri ep 256 1 epc epn), (cAI g epc 256 epf), (cAJ g es 8 es_f), (cO7_rrrrii nw zr zm zw zp zmd ztr), (cO8_iiri zr 8 3 zrc zrn), (cAI g zrc 24 zrf), (cO8_iiri zp 8 2 zpc zpn), (cAI g zpc 16 zpf)] [(cO8_iiri zm 12 3 zmc zmn), (cAI g zmc 36 zmf), (cO8_iiri zw 6 3 zwc zwn), (cAI g zwc 18 zwf), (cO10_vvrvvvvrvi h0 v0h0 v1h0 nw v3h0 v4h0 v5h0 v6h0 xc v8h0 tr2_1)] [6, 7, 8, 9, 10, 11, 13, 0, 1, 14, 15] [2, 3, 4, 5, 12] (e_fewest l g xc nw eo ep es eoc eon eof epc epn epf es_f zr (.ref zm) (.ref zw) zp zmd ztr zrc zrn zrf zpc zpn zpf) dX10_exchanges_16 mw1371 mw1372 mw1373 mw43 mw1374 rfl 1 rfl rfl 0 _ rfl yk_yX1_fewest_1 rfl (Nat.le_of_ble_eq_true rfl) (Nat.le_of_ble_eq_true rfl) (Nat.le_of_ble_eq_true rfl) (Nat.le_of_ble_eq_true rfl) (Nat.le_of_ble_eq_true rfl) rfl rfl (by decide +kernel) rfl (by decide +kernel) (by decide +kernel) ?_
    rintro r_12 w ⟨eog_8, eok_9, epg_10, es_g_11, rfl⟩
    refine k_ws [(cO8_iiri zm 12 3 zmc zmn), (cAI g zmc 36 zmf), (cO8_iiri zw 6 3 zwc zwn), (cAI g zwc 18 zwf), (cO10_vvrvvvvrvi h0 v0h0 v1h0 nw v3h0 v4h0 v5h0 v6h0 xc v8h0 tr2_1), (cO1_rrr xc eo ep es), (cO8_iiri eo 8 1 eoc eok_9), (cAI g eoc 8 eog_8), (cO8_iiri ep 256 1 epc epn), (cAI g epc 256 epg_10), (cAJ g es 8 es_g_11), (cO7_rrrrii nw zr zm zw zp zmd ztr), (cO8_iiri zr 8 3 zrc zrn), (cAI g zrc 24 zrf), (cO8_iiri zp 8 2 zpc zpn), (cAI g zpc 16 zpf)] rfl ?_
    refine k_callVI (n := 1) (As := [.int r_12]) (st := []) X [(cO10_vvrvvvvrvi h0 v0h0 v1h0 nw v3h0 v4h0 v5h0 v6h0 xc v8h0 tr2_1)] [(cO8_iiri zm 12 3 zmc zmn), (cAI g zmc 36 zmf), (cO8_iiri zw 6 3 zwc zwn), (cAI g zwc 18 zwf), (cO1_rrr xc eo ep es), (cO8_iiri eo 8 1 eoc eok_9), (cAI g eoc 8 eog_8), (cO8_iiri ep 256 1 epc epn), (cAI g epc 256 epg_10), (cAJ g es 8 es_g_11), (cO7_rrrrii nw zr zm zw zp zmd ztr), (cO8_iiri zr 8 3 zrc zrn), (cAI g zrc 24 zrf), (cO8_iiri zp 8 2 zpc zpn), (cAI g zpc 16 zpf)] [4] [0, 1, 2, 3, 5, 6, 7, 8, 9, 10, 11, 12, 13, 14, 15] (c_tell l g h0 r_12 v0h0 v1h0 (.ref nw) v3h0 v4h0 v5h0 v6h0 (.ref xc) v8h0 tr2_1) dX10_exchanges_19 mw460 mw461 mw462 mw2 mw463 rfl 10 rfl rfl 0 _ rfl yk_yX10_tell_1 rfl (Nat.le_of_ble_eq_true rfl) (Nat.le_of_ble_eq_true rfl) (Nat.le_of_ble_eq_true rfl) (Nat.le_of_ble_eq_true rfl) (Nat.le_of_ble_eq_true rfl) rfl rfl (by decide +kernel) rfl (by decide +kernel) (by decide +kernel) ?_
    rintro r_15 w ⟨tr2_14, rfl⟩
    refine k_ws [(cO8_iiri zm 12 3 zmc zmn), (cAI g zmc 36 zmf), (cO8_iiri zw 6 3 zwc zwn), (cAI g zwc 18 zwf), (cO1_rrr xc eo ep es), (cO8_iiri eo 8 1 eoc eok_9), (cAI g eoc 8 eog_8), (cO8_iiri ep 256 1 epc epn), (cAI g epc 256 epg_10), (cAJ g es 8 es_g_11), (cO7_rrrrii nw zr zm zw zp zmd ztr), (cO8_iiri zr 8 3 zrc zrn), (cAI g zrc 24 zrf), (cO8_iiri zp 8 2 zpc zpn), (cAI g zpc 16 zpf), (cO10_vvrvvvvrvi h0 v0h0 v1h0 nw v3h0 v4h0 v5h0 v6h0 xc v8h0 tr2_14)] rfl ?_
    refine k_goto 30 X dX10_exchanges_22 (by decide) ?_
    exact k_iret X hr dX10_exchanges_30 (Nat.le_of_ble_eq_true rfl) (Nat.le_of_ble_eq_true rfl) [15, 10, 11, 12, 0, 1, 2, 3, 13, 14, 4, 5, 6, 7, 8, 9] (by decide) rfl rfl ⟨tr2_14, eog_8, eok_9, epg_10, es_g_11, rfl⟩
