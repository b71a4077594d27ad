theorem dX5_slipNow_0 : decode cX5_slipNow 0 = .ok (.aload_n 0, 1) := dk_42 rfl
theorem dX5_slipNow_1 : decode cX5_slipNow 1 = .ok (.getfield 30, 3) := dk_180 rfl rfl rfl rfl
theorem dX5_slipNow_4 : decode cX5_slipNow 4 = .ok (.ifCond .eq 17, 3) := dk_153 rfl rfl rfl (by decide)
theorem dX5_slipNow_7 : decode cX5_slipNow 7 = .ok (.aload_n 0, 1) := dk_42 rfl
theorem dX5_slipNow_8 : decode cX5_slipNow 8 = .ok (.invokevirtual 104, 3) := dk_182 rfl rfl rfl rfl
theorem dX5_slipNow_11 : decode cX5_slipNow 11 = .ok (.aload_n 0, 1) := dk_42 rfl
theorem dX5_slipNow_12 : decode cX5_slipNow 12 = .ok (.getfield 24, 3) := dk_180 rfl rfl rfl rfl
theorem dX5_slipNow_15 : decode cX5_slipNow 15 = .ok (.iconst 1, 1) := dk_4 rfl
theorem dX5_slipNow_16 : decode cX5_slipNow 16 = .ok (.iadd, 1) := dk_96 rfl
theorem dX5_slipNow_17 : decode cX5_slipNow 17 = .ok (.irem, 1) := dk_112 rfl
theorem dX5_slipNow_18 : decode cX5_slipNow 18 = .ok (.goto 7, 3) := dk_167 rfl rfl rfl (by decide)
theorem dX5_slipNow_21 : decode cX5_slipNow 21 = .ok (.aload_n 0, 1) := dk_42 rfl
theorem dX5_slipNow_22 : decode cX5_slipNow 22 = .ok (.getfield 27, 3) := dk_180 rfl rfl rfl rfl
theorem dX5_slipNow_25 : decode cX5_slipNow 25 = .ok (.ireturn, 1) := dk_172 rfl
set_option maxHeartbeats 4000000 in
set_option maxRecDepth 100000 in
theorem n_slipNow (l : Launch) (g : Gx) (h0 : Nat) (nr : Nat) (xsnapped : Int32) (xmostSlip : Int32) (xslip : Int32) (xisDrawn : Int32) (xseed : Int32) (xtick : Int32) (xmotorTick : Int32) (xahead : Int32) (hms : ¬ xmostSlip < 0) : cI l g yX5_slipNow cX5_slipNow 1 (some .int) 1 20 0 0 [.ref h0] [(cO5_riiiiiiii h0 nr xsnapped xmostSlip xslip xisDrawn xseed xtick xmotorTick xahead)] (fun r w => ∃ (xseed2 : Int32), w = [(cO5_riiiiiiii h0 nr xsnapped xmostSlip xslip xisDrawn xseed2 xtick xmotorTick xahead)]) := by
  refine cI.of (by decide) (Nat.le_of_ble_eq_true rfl) ?_
  intro p e s m args below meth c A X hr hi
  refine k_lveq [(0, .ref h0)] rfl ?_
  refine k_aload_n X dX5_slipNow_0 0 rfl ?_
  refine k_get (ci := 5) X inlX5 rfl 4 (by decide) dX5_slipNow_1 mw129 0 rfl rfl ?_
  refine k_if_eq 21 X dX5_slipNow_4 (by decide) (fun h_1 => ?_) (fun h_1 => ?_)
  · skip
    refine k_aload_n X dX5_slipNow_21 0 rfl ?_
    refine k_get (ci := 5) X inlX5 rfl 3 (by decide) dX5_slipNow_22 mw128 0 rfl rfl ?_
    exact k_iret X hr dX5_slipNow_25 (Nat.le_of_ble_eq_true rfl) (Nat.le_of_ble_eq_true rfl) [0] (by decide) rfl rfl ⟨xseed, rfl⟩
  · skip
    refine k_aload_n X dX5_slipNow_7 0 rfl ?_
    refine k_callVI (n := 0) (As := []) (st := []) X [(cO5_riiiiiiii h0 nr xsnapped xmostSlip xslip xisDrawn xseed xtick xmotorTick xahead)] [] [0] [] (n_draw l g h0 nr xsnapped xmostSlip xslip xisDrawn xseed xtick xmotorTick xahead) dX5_slipNow_8 mw791 mw792 mw793 mw31 mw794 rfl 5 rfl rfl 0 _ rfl yk_yX5_draw_0 rfl (Nat.le_of_ble_eq_true rfl) (Nat.le_of_ble_eq_true rfl) (Nat.le_of_ble_eq_true rfl) (Nat.le_of_ble_eq_true rfl) (Nat.le_of_ble_eq_true rfl) rfl rfl (by decide) rfl (by decide) (by decide) ?_
    rintro r_3 w ⟨xseed2_2, rfl⟩
    refine k_ws [(cO5_riiiiiiii h0 nr xsnapped xmostSlip xslip xisDrawn xseed2_2 xtick xmotorTick xahead)] rfl ?_
    refine k_aload_n X dX5_slipNow_11 0 rfl ?_
    refine k_get (ci := 5) X inlX5 rfl 2 (by decide) dX5_slipNow_12 mw127 0 rfl rfl ?_
    refine k_iconst (v := 1) X dX5_slipNow_15 (by decide) ?_
    refine k_iadd X dX5_slipNow_16 ?_
    refine k_nm (fun z_5 ez_5 => ?_)
    refine k_irem X dX5_slipNow_17 (nz_ms hms (by assumption)) ?_
    refine k_nm (fun z_6 ez_6 => ?_)
    refine k_goto 25 X dX5_slipNow_18 (by decide) ?_
    exact k_iret X hr dX5_slipNow_25 (Nat.le_of_ble_eq_true rfl) (Nat.le_of_ble_eq_true rfl) [0] (by decide) rfl rfl ⟨xseed2_2, rfl⟩

theorem dX5_showReel_0 : decode cX5_showReel 0 = .ok (.aload_n 0, 1) := dk_42 rfl
theorem dX5_showReel_1 : decode cX5_showReel 1 = .ok (.getfield 43, 3) := dk_180 rfl rfl rfl rfl
theorem dX5_showReel_4 : decode cX5_showReel 4 = .ok (.iconst 0, 1) := dk_3 rfl
theorem dX5_showReel_5 : decode cX5_showReel 5 = .ok (.invokestatic 63, 3) := dk_184 rfl rfl rfl rfl
theorem dX5_showReel_8 : decode cX5_showReel 8 = .ok (.istore 5, 2) := dk_54 rfl rfl rfl
theorem dX5_showReel_10 : decode cX5_showReel 10 = .ok (.aload_n 0, 1) := dk_42 rfl
theorem dX5_showReel_11 : decode cX5_showReel 11 = .ok (.getfield 43, 3) := dk_180 rfl rfl rfl rfl
theorem dX5_showReel_14 : decode cX5_showReel 14 = .ok (.ineg, 1) := dk_116 rfl
theorem dX5_showReel_15 : decode cX5_showReel 15 = .ok (.iconst 0, 1) := dk_3 rfl
theorem dX5_showReel_16 : decode cX5_showReel 16 = .ok (.invokestatic 63, 3) := dk_184 rfl rfl rfl rfl
theorem dX5_showReel_19 : decode cX5_showReel 19 = .ok (.istore 6, 2) := dk_54 rfl rfl rfl
theorem dX5_showReel_21 : decode cX5_showReel 21 = .ok (.aload_n 0, 1) := dk_42 rfl
theorem dX5_showReel_22 : decode cX5_showReel 22 = .ok (.getfield 37, 3) := dk_180 rfl rfl rfl rfl
theorem dX5_showReel_25 : decode cX5_showReel 25 = .ok (.iload 6, 2) := dk_21 rfl rfl rfl
theorem dX5_showReel_27 : decode cX5_showReel 27 = .ok (.iadd, 1) := dk_96 rfl
theorem dX5_showReel_28 : decode cX5_showReel 28 = .ok (.istore 7, 2) := dk_54 rfl rfl rfl
theorem dX5_showReel_30 : decode cX5_showReel 30 = .ok (.bipush (-2), 2) := dk_16 rfl rfl (by decide)
theorem dX5_showReel_32 : decode cX5_showReel 32 = .ok (.istore 8, 2) := dk_54 rfl rfl rfl
theorem dX5_showReel_34 : decode cX5_showReel 34 = .ok (.iload 4, 2) := dk_21 rfl rfl rfl
theorem dX5_showReel_36 : decode cX5_showReel 36 = .ok (.istore 9, 2) := dk_54 rfl rfl rfl
theorem dX5_showReel_38 : decode cX5_showReel 38 = .ok (.iload_n 3, 1) := dk_29 rfl
theorem dX5_showReel_39 : decode cX5_showReel 39 = .ok (.aload_n 0, 1) := dk_42 rfl
theorem dX5_showReel_40 : decode cX5_showReel 40 = .ok (.getfield 14, 3) := dk_180 rfl rfl rfl rfl
theorem dX5_showReel_43 : decode cX5_showReel 43 = .ok (.getfield 51, 3) := dk_180 rfl rfl rfl rfl
theorem dX5_showReel_46 : decode cX5_showReel 46 = .ok (.iconst 1, 1) := dk_4 rfl
theorem dX5_showReel_47 : decode cX5_showReel 47 = .ok (.isub, 1) := dk_100 rfl
theorem dX5_showReel_48 : decode cX5_showReel 48 = .ok (.if_icmp .ge 90, 3) := dk_162 rfl rfl rfl (by decide)
theorem dX5_showReel_51 : decode cX5_showReel 51 = .ok (.aload_n 0, 1) := dk_42 rfl
theorem dX5_showReel_52 : decode cX5_showReel 52 = .ok (.getfield 14, 3) := dk_180 rfl rfl rfl rfl
theorem dX5_showReel_55 : decode cX5_showReel 55 = .ok (.iload_n 3, 1) := dk_29 rfl
theorem dX5_showReel_56 : decode cX5_showReel 56 = .ok (.bipush 9, 2) := dk_16 rfl rfl (by decide)
theorem dX5_showReel_58 : decode cX5_showReel 58 = .ok (.invokevirtual 59, 3) := dk_182 rfl rfl rfl rfl
theorem dX5_showReel_61 : decode cX5_showReel 61 = .ok (.aload_n 0, 1) := dk_42 rfl
theorem dX5_showReel_62 : decode cX5_showReel 62 = .ok (.invokevirtual 94, 3) := dk_182 rfl rfl rfl rfl
theorem dX5_showReel_65 : decode cX5_showReel 65 = .ok (.iadd, 1) := dk_96 rfl
theorem dX5_showReel_66 : decode cX5_showReel 66 = .ok (.istore 10, 2) := dk_54 rfl rfl rfl
theorem dX5_showReel_68 : decode cX5_showReel 68 = .ok (.iload 5, 2) := dk_21 rfl rfl rfl
theorem dX5_showReel_70 : decode cX5_showReel 70 = .ok (.iload 10, 2) := dk_21 rfl rfl rfl
theorem dX5_showReel_72 : decode cX5_showReel 72 = .ok (.iload 4, 2) := dk_21 rfl rfl rfl
theorem dX5_showReel_74 : decode cX5_showReel 74 = .ok (.iconst 1, 1) := dk_4 rfl
theorem dX5_showReel_75 : decode cX5_showReel 75 = .ok (.isub, 1) := dk_100 rfl
theorem dX5_showReel_76 : decode cX5_showReel 76 = .ok (.invokestatic 98, 3) := dk_184 rfl rfl rfl rfl
theorem dX5_showReel_79 : decode cX5_showReel 79 = .ok (.invokestatic 63, 3) := dk_184 rfl rfl rfl rfl
theorem dX5_showReel_82 : decode cX5_showReel 82 = .ok (.istore 8, 2) := dk_54 rfl rfl rfl
theorem dX5_showReel_84 : decode cX5_showReel 84 = .ok (.iload 8, 2) := dk_21 rfl rfl rfl
theorem dX5_showReel_86 : decode cX5_showReel 86 = .ok (.aload_n 1, 1) := dk_43 rfl
theorem dX5_showReel_87 : decode cX5_showReel 87 = .ok (.iconst 0, 1) := dk_3 rfl
theorem dX5_showReel_88 : decode cX5_showReel 88 = .ok (.invokevirtual 101, 3) := dk_182 rfl rfl rfl rfl
theorem dX5_showReel_91 : decode cX5_showReel 91 = .ok (.iadd, 1) := dk_96 rfl
theorem dX5_showReel_92 : decode cX5_showReel 92 = .ok (.iload 4, 2) := dk_21 rfl rfl rfl
theorem dX5_showReel_94 : decode cX5_showReel 94 = .ok (.invokestatic 98, 3) := dk_184 rfl rfl rfl rfl
theorem dX5_showReel_97 : decode cX5_showReel 97 = .ok (.istore 9, 2) := by decide +kernel
theorem dX5_showReel_99 : decode cX5_showReel 99 = .ok (.aload_n 0, 1) := by decide +kernel
theorem dX5_showReel_100 : decode cX5_showReel 100 = .ok (.iload 7, 2) := by decide +kernel
theorem dX5_showReel_102 : decode cX5_showReel 102 = .ok (.iload 8, 2) := by decide +kernel
theorem dX5_showReel_104 : decode cX5_showReel 104 = .ok (.iadd, 1) := by decide +kernel
theorem dX5_showReel_105 : decode cX5_showReel 105 = .ok (.iload 5, 2) := by decide +kernel
theorem dX5_showReel_107 : decode cX5_showReel 107 = .ok (.isub, 1) := by decide +kernel
theorem dX5_showReel_108 : decode cX5_showReel 108 = .ok (.putfield 40, 3) := by decide +kernel
theorem dX5_showReel_111 : decode cX5_showReel 111 = .ok (.aload_n 0, 1) := by decide +kernel
theorem dX5_showReel_112 : decode cX5_showReel 112 = .ok (.iload 9, 2) := by decide +kernel
theorem dX5_showReel_114 : decode cX5_showReel 114 = .ok (.iload 8, 2) := by decide +kernel
theorem dX5_showReel_116 : decode cX5_showReel 116 = .ok (.isub, 1) := by decide +kernel
theorem dX5_showReel_117 : decode cX5_showReel 117 = .ok (.aload_n 1, 1) := by decide +kernel
theorem dX5_showReel_118 : decode cX5_showReel 118 = .ok (.iconst 1, 1) := by decide +kernel
theorem dX5_showReel_119 : decode cX5_showReel 119 = .ok (.invokevirtual 101, 3) := by decide +kernel
theorem dX5_showReel_122 : decode cX5_showReel 122 = .ok (.isub, 1) := by decide +kernel
theorem dX5_showReel_123 : decode cX5_showReel 123 = .ok (.aload_n 2, 1) := by decide +kernel
theorem dX5_showReel_124 : decode cX5_showReel 124 = .ok (.getfield 46, 3) := by decide +kernel
theorem dX5_showReel_127 : decode cX5_showReel 127 = .ok (.iload_n 3, 1) := by decide +kernel
theorem dX5_showReel_128 : decode cX5_showReel 128 = .ok (.iconst 1, 1) := by decide +kernel
theorem dX5_showReel_129 : decode cX5_showReel 129 = .ok (.iadd, 1) := by decide +kernel
theorem dX5_showReel_130 : decode cX5_showReel 130 = .ok (.iconst 1, 1) := by decide +kernel
theorem dX5_showReel_131 : decode cX5_showReel 131 = .ok (.invokevirtual 59, 3) := by decide +kernel
theorem dX5_showReel_134 : decode cX5_showReel 134 = .ok (.isub, 1) := by decide +kernel
theorem dX5_showReel_135 : decode cX5_showReel 135 = .ok (.putfield 43, 3) := by decide +kernel
theorem dX5_showReel_138 : decode cX5_showReel 138 = .ok (.aload_n 0, 1) := by decide +kernel
theorem dX5_showReel_139 : decode cX5_showReel 139 = .ok (.iload 7, 2) := by decide +kernel
theorem dX5_showReel_141 : decode cX5_showReel 141 = .ok (.iload 9, 2) := by decide +kernel
theorem dX5_showReel_143 : decode cX5_showReel 143 = .ok (.iadd, 1) := by decide +kernel
theorem dX5_showReel_144 : decode cX5_showReel 144 = .ok (.iload 5, 2) := by decide +kernel
theorem dX5_showReel_146 : decode cX5_showReel 146 = .ok (.isub, 1) := by decide +kernel
theorem dX5_showReel_147 : decode cX5_showReel 147 = .ok (.putfield 37, 3) := by decide +kernel
theorem dX5_showReel_150 : decode cX5_showReel 150 = .ok (.aload_n 0, 1) := by decide +kernel
theorem dX5_showReel_151 : decode cX5_showReel 151 = .ok (.getfield 14, 3) := by decide +kernel
theorem dX5_showReel_154 : decode cX5_showReel 154 = .ok (.iload_n 3, 1) := by decide +kernel
theorem dX5_showReel_155 : decode cX5_showReel 155 = .ok (.iconst 0, 1) := by decide +kernel
theorem dX5_showReel_156 : decode cX5_showReel 156 = .ok (.iload 5, 2) := by decide +kernel
theorem dX5_showReel_158 : decode cX5_showReel 158 = .ok (.invokevirtual 76, 3) := by decide +kernel
theorem dX5_showReel_161 : decode cX5_showReel 161 = .ok (.aload_n 0, 1) := by decide +kernel
theorem dX5_showReel_162 : decode cX5_showReel 162 = .ok (.getfield 14, 3) := by decide +kernel
theorem dX5_showReel_165 : decode cX5_showReel 165 = .ok (.iload_n 3, 1) := by decide +kernel
theorem dX5_showReel_166 : decode cX5_showReel 166 = .ok (.iconst 1, 1) := by decide +kernel
theorem dX5_showReel_167 : decode cX5_showReel 167 = .ok (.iload 6, 2) := by decide +kernel
theorem dX5_showReel_169 : decode cX5_showReel 169 = .ok (.invokevirtual 76, 3) := by decide +kernel
theorem dX5_showReel_172 : decode cX5_showReel 172 = .ok (.aload_n 0, 1) := by decide +kernel
theorem dX5_showReel_173 : decode cX5_showReel 173 = .ok (.getfield 14, 3) := by decide +kernel
theorem dX5_showReel_176 : decode cX5_showReel 176 = .ok (.iload_n 3, 1) := by decide +kernel
theorem dX5_showReel_177 : decode cX5_showReel 177 = .ok (.iconst 2, 1) := by decide +kernel
theorem dX5_showReel_178 : decode cX5_showReel 178 = .ok (.iload 4, 2) := by decide +kernel
theorem dX5_showReel_180 : decode cX5_showReel 180 = .ok (.iload 9, 2) := by decide +kernel
theorem dX5_showReel_182 : decode cX5_showReel 182 = .ok (.isub, 1) := by decide +kernel
theorem dX5_showReel_183 : decode cX5_showReel 183 = .ok (.invokevirtual 76, 3) := by decide +kernel
theorem dX5_showReel_186 : decode cX5_showReel 186 = .ok (.aload_n 0, 1) := by decide +kernel
theorem dX5_showReel_187 : decode cX5_showReel 187 = .ok (.getfield 14, 3) := by decide +kernel
theorem dX5_showReel_190 : decode cX5_showReel 190 = .ok (.iload_n 3, 1) := by decide +kernel
theorem dX5_showReel_191 : decode cX5_showReel 191 = .ok (.iconst 3, 1) := by decide +kernel
theorem dX5_showReel_192 : decode cX5_showReel 192 = .ok (.iconst 0, 1) := by decide +kernel
theorem dX5_showReel_193 : decode cX5_showReel 193 = .ok (.invokevirtual 76, 3) := by decide +kernel
theorem dX5_showReel_196 : decode cX5_showReel 196 = .ok (.aload_n 0, 1) := by decide +kernel
theorem dX5_showReel_197 : decode cX5_showReel 197 = .ok (.getfield 14, 3) := by decide +kernel
theorem dX5_showReel_200 : decode cX5_showReel 200 = .ok (.iload_n 3, 1) := by decide +kernel
theorem dX5_showReel_201 : decode cX5_showReel 201 = .ok (.iconst 4, 1) := by decide +kernel
theorem dX5_showReel_202 : decode cX5_showReel 202 = .ok (.iload 8, 2) := by decide +kernel
theorem dX5_showReel_204 : decode cX5_showReel 204 = .ok (.invokevirtual 76, 3) := by decide +kernel
theorem dX5_showReel_207 : decode cX5_showReel 207 = .ok (.aload_n 0, 1) := by decide +kernel
theorem dX5_showReel_208 : decode cX5_showReel 208 = .ok (.getfield 14, 3) := by decide +kernel
theorem dX5_showReel_211 : decode cX5_showReel 211 = .ok (.iload_n 3, 1) := by decide +kernel
theorem dX5_showReel_212 : decode cX5_showReel 212 = .ok (.iconst 5, 1) := by decide +kernel
theorem dX5_showReel_213 : decode cX5_showReel 213 = .ok (.iload 9, 2) := by decide +kernel
theorem dX5_showReel_215 : decode cX5_showReel 215 = .ok (.invokevirtual 76, 3) := by decide +kernel
theorem dX5_showReel_218 : decode cX5_showReel 218 = .ok (.aload_n 0, 1) := by decide +kernel
theorem dX5_showReel_219 : decode cX5_showReel 219 = .ok (.getfield 14, 3) := by decide +kernel
theorem dX5_showReel_222 : decode cX5_showReel 222 = .ok (.iload_n 3, 1) := by decide +kernel
theorem dX5_showReel_223 : decode cX5_showReel 223 = .ok (.bipush 6, 2) := by decide +kernel
theorem dX5_showReel_225 : decode cX5_showReel 225 = .ok (.iload 7, 2) := by decide +kernel
theorem dX5_showReel_227 : decode cX5_showReel 227 = .ok (.invokevirtual 76, 3) := by decide +kernel
theorem dX5_showReel_230 : decode cX5_showReel 230 = .ok (.aload_n 0, 1) := by decide +kernel
theorem dX5_showReel_231 : decode cX5_showReel 231 = .ok (.getfield 14, 3) := by decide +kernel
theorem dX5_showReel_234 : decode cX5_showReel 234 = .ok (.iload_n 3, 1) := by decide +kernel
theorem dX5_showReel_235 : decode cX5_showReel 235 = .ok (.bipush 7, 2) := by decide +kernel
theorem dX5_showReel_237 : decode cX5_showReel 237 = .ok (.aload_n 0, 1) := by decide +kernel
theorem dX5_showReel_238 : decode cX5_showReel 238 = .ok (.getfield 37, 3) := by decide +kernel
theorem dX5_showReel_241 : decode cX5_showReel 241 = .ok (.invokevirtual 76, 3) := by decide +kernel
theorem dX5_showReel_244 : decode cX5_showReel 244 = .ok (.return_, 1) := by decide +kernel
set_option maxHeartbeats 4000000 in
set_option maxRecDepth 100000 in
theorem n_showReel (l : Launch) (g : Gx) (h0 : Nat) (hh : Nat) (hs : Nat) (p0 : Int32) (p1 : Int32) (nr : Nat) (xsnapped : Int32) (xmostSlip : Int32) (xslip : Int32) (xisDrawn : Int32) (xseed : Int32) (xtick : Int32) (xmotorTick : Int32) (xahead : Int32) (nrc : Nat) (nrn : Int32) (nrf : Nat → Int32) (v0hh : Value) (yhn : Nat) (v2hh : Value) (v3hh : Value) (v4hh : Value) (v5hh : Value) (v6hh : Value) (v7hh : Value) (yhnc : Nat) (yhnn : Int32) (yhnf : Nat → Int32) (v0hs : Value) (v1hs : Value) (v2hs : Value) (zp : Nat) (zmd : Int32) (ztr : Int32) (zpc : Nat) (zpn : Int32) (zpf : Nat → Int32) (hms : ¬ xmostSlip < 0) : cV l g yX5_showReel cX5_showReel 11 2 43 0 0 [.ref h0, .ref hh, .ref hs, .int p0, .int p1] [(cO5_riiiiiiii h0 nr xsnapped xmostSlip xslip xisDrawn xseed xtick xmotorTick xahead), (cO8_iiri nr 8 10 nrc nrn), (cAI g nrc 80 nrf), (cO3_vrvvvvvv hh v0hh yhn v2hh v3hh v4hh v5hh v6hh v7hh), (cO8_iiri yhn 1 6 yhnc yhnn), (cAI g yhnc 6 yhnf), (cO7_vvvrii hs v0hs v1hs v2hs zp zmd ztr), (cO8_iiri zp 8 2 zpc zpn), (cAI g zpc 16 zpf)] (fun w => ∃ (xseed2 : Int32) (xtick2 : Int32) (xmotorTick2 : Int32) (xahead2 : Int32) (nrg : Nat → Int32), w = [(cO5_riiiiiiii h0 nr xsnapped xmostSlip xslip xisDrawn xseed2 xtick2 xmotorTick2 xahead2), (cO8_iiri nr 8 10 nrc nrn), (cAI g nrc 80 nrg), (cO3_vrvvvvvv hh v0hh yhn v2hh v3hh v4hh v5hh v6hh v7hh), (cO8_iiri yhn 1 6 yhnc yhnn), (cAI g yhnc 6 yhnf), (cO7_vvvrii hs v0hs v1hs v2hs zp zmd ztr), (cO8_iiri zp 8 2 zpc zpn), (cAI g zpc 16 zpf)]) := by
  refine cV.of (by decide) (Nat.le_of_ble_eq_true rfl) ?_
  intro p e s m args below meth c A X hr hi
  refine k_lveq [(0, .ref h0), (1, .ref hh), (2, .ref hs), (3, .int p0), (4, .int p1)] rfl ?_
  refine k_aload_n X dX5_showReel_0 0 rfl ?_
  refine k_get (ci := 5) X inlX5 rfl 8 (by decide) dX5_showReel_1 mw133 0 rfl rfl ?_
  refine k_iconst (v := 0) X dX5_showReel_4 (by decide) ?_
  refine k_mmax X dX5_showReel_5 mw756 mw102 mw103 mw104 (Nat.le_of_ble_eq_true rfl) (Nat.le_of_ble_eq_true rfl) (Nat.zero_le _) (Nat.zero_le _) ?_
  refine k_nm (fun z_1 ez_1 => ?_)
  refine k_istore [(5, .int z_1), (0, .ref h0), (1, .ref hh), (2, .ref hs), (3, .int p0), (4, .int p1)] X dX5_showReel_8 (by decide) rfl ?_
  refine k_aload_n X dX5_showReel_10 1 rfl ?_
  refine k_get (ci := 5) X inlX5 rfl 8 (by decide) dX5_showReel_11 mw133 0 rfl rfl ?_
  refine k_ineg X dX5_showReel_14 ?_
  refine k_nm (fun z_2 ez_2 => ?_)
  refine k_iconst (v := 0) X dX5_showReel_15 (by decide) ?_
  refine k_mmax X dX5_showReel_16 mw756 mw102 mw103 mw104 (Nat.le_of_ble_eq_true rfl) (Nat.le_of_ble_eq_true rfl) (Nat.zero_le _) (Nat.zero_le _) ?_
  refine k_nm (fun z_3 ez_3 => ?_)
  refine k_istore [(6, .int z_3), (5, .int z_1), (0, .ref h0), (1, .ref hh), (2, .ref hs), (3, .int p0), (4, .int p1)] X dX5_showReel_19 (by decide) rfl ?_
  refine k_aload_n X dX5_showReel_21 2 rfl ?_
  refine k_get (ci := 5) X inlX5 rfl 6 (by decide) dX5_showReel_22 mw131 0 rfl rfl ?_
  refine k_iload X dX5_showReel_25 0 rfl ?_
  refine k_iadd X dX5_showReel_27 ?_
  refine k_nm (fun z_4 ez_4 => ?_)
  refine k_istore [(7, .int z_4), (6, .int z_3), (5, .int z_1), (0, .ref h0), (1, .ref hh), (2, .ref hs), (3, .int p0), (4, .int p1)] X dX5_showReel_28 (by decide) rfl ?_
  refine k_bipush (v := -2) X dX5_showReel_30 (by decide) ?_
  refine k_istore [(8, .int (-2)), (7, .int z_4), (6, .int z_3), (5, .int z_1), (0, .ref h0), (1, .ref hh), (2, .ref hs), (3, .int p0), (4, .int p1)] X dX5_showReel_32 (by decide) rfl ?_
  refine k_iload X dX5_showReel_34 8 rfl ?_
  refine k_istore [(9, .int p1), (8, .int (-2)), (7, .int z_4), (6, .int z_3), (5, .int z_1), (0, .ref h0), (1, .ref hh), (2, .ref hs), (3, .int p0), (4, .int p1)] X dX5_showReel_36 (by decide) rfl ?_
  refine k_iload_n X dX5_showReel_38 8 rfl ?_
  refine k_aload_n X dX5_showReel_39 5 rfl ?_
  refine k_get (ci := 5) X inlX5 rfl 0 (by decide) dX5_showReel_40 mw125 0 rfl rfl ?_
  refine k_get (ci := 8) X inlX8 rfl 3 (by decide) dX5_showReel_43 mw754 1 rfl rfl ?_
  refine k_iconst (v := 1) X dX5_showReel_46 (by decide) ?_
  refine k_isub X dX5_showReel_47 ?_
  refine k_nm (fun z_5 ez_5 => ?_)
  refine k_ic_ge 138 X dX5_showReel_48 (by decide) (fun h_6 => ?_) (fun h_6 => ?_)
  · skip
    refine k_aload_n X dX5_showReel_138 5 rfl ?_
    refine k_iload X dX5_showReel_139 2 rfl ?_
    refine k_iload X dX5_showReel_141 0 rfl ?_
    refine k_iadd X dX5_showReel_143 ?_
    refine k_nm (fun z_7 ez_7 => ?_)
    refine k_iload X dX5_showReel_144 4 rfl ?_
    refine k_isub X dX5_showReel_146 ?_
    refine k_nm (fun z_8 ez_8 => ?_)
    refine k_put (ci := 5) [(cO5_riiiiiiii h0 nr xsnapped xmostSlip xslip xisDrawn xseed z_8 xmotorTick xahead), (cO8_iiri nr 8 10 nrc nrn), (cAI g nrc 80 nrf), (cO3_vrvvvvvv hh v0hh yhn v2hh v3hh v4hh v5hh v6hh v7hh), (cO8_iiri yhn 1 6 yhnc yhnn), (cAI g yhnc 6 yhnf), (cO7_vvvrii hs v0hs v1hs v2hs zp zmd ztr), (cO8_iiri zp 8 2 zpc zpn), (cAI g zpc 16 zpf)] X inlX5 rfl tyX5_ok nmX5 6 (by decide) rfl dX5_showReel_147 mw131 0 rfl rfl rfl (Nat.le_of_ble_eq_true rfl) rfl ?_
    refine k_aload_n X dX5_showReel_150 5 rfl ?_
    refine k_get (ci := 5) X inlX5 rfl 0 (by decide) dX5_showReel_151 mw125 0 rfl rfl ?_
    refine k_iload_n X dX5_showReel_154 8 rfl ?_
    refine k_iconst (v := 0) X dX5_showReel_155 (by decide) ?_
    refine k_iload X dX5_showReel_156 4 rfl ?_
    refine k_callVV (n := 3) (As := [.int p0, .int 0, .int z_1]) (st := []) X [(cO8_iiri nr 8 10 nrc nrn), (cAI g nrc 80 nrf)] [(cO5_riiiiiiii h0 nr xsnapped xmostSlip xslip xisDrawn xseed z_8 xmotorTick xahead), (cO3_vrvvvvvv hh v0hh yhn v2hh v3hh v4hh v5hh v6hh v7hh), (cO8_iiri yhn 1 6 yhnc yhnn), (cAI g yhnc 6 yhnf), (cO7_vvvrii hs v0hs v1hs v2hs zp zmd ztr), (cO8_iiri zp 8 2 zpc zpn), (cAI g zpc 16 zpf)] [1, 2] [0, 3, 4, 5, 6, 7, 8] (t_put l g nr p0 0 z_1 8 10 nrc nrn 80 nrf (tbk_8_10)) dX5_showReel_158 mw766 mw326 mw327 mw64 mw328 rfl 8 rfl rfl 0 _ rfl yk_yX8_put_3 rfl (Nat.le_of_ble_eq_true rfl) (Nat.le_of_ble_eq_true rfl) (Nat.le_of_ble_eq_true rfl) (Nat.le_of_ble_eq_true rfl) (Nat.le_of_ble_eq_true rfl) rfl rfl (by decide) rfl (by decide) (by decide) ?_
    rintro w ⟨fa_9, hr_11, rfl⟩
    refine k_ws [(cO5_riiiiiiii h0 nr xsnapped xmostSlip xslip xisDrawn xseed z_8 xmotorTick xahead), (cO3_vrvvvvvv hh v0hh yhn v2hh v3hh v4hh v5hh v6hh v7hh), (cO8_iiri yhn 1 6 yhnc yhnn), (cAI g yhnc 6 yhnf), (cO7_vvvrii hs v0hs v1hs v2hs zp zmd ztr), (cO8_iiri zp 8 2 zpc zpn), (cAI g zpc 16 zpf), (cO8_iiri nr 8 10 nrc nrn), (cAI g nrc 80 fa_9)] rfl ?_
    refine k_aload_n X dX5_showReel_161 5 rfl ?_
    refine k_get (ci := 5) X inlX5 rfl 0 (by decide) dX5_showReel_162 mw125 0 rfl rfl ?_
    refine k_iload_n X dX5_showReel_165 8 rfl ?_
    refine k_iconst (v := 1) X dX5_showReel_166 (by decide) ?_
    refine k_iload X dX5_showReel_167 3 rfl ?_
    refine k_callVV (n := 3) (As := [.int p0, .int 1, .int z_3]) (st := []) X [(cO8_iiri nr 8 10 nrc nrn), (cAI g nrc 80 fa_9)] [(cO5_riiiiiiii h0 nr xsnapped xmostSlip xslip xisDrawn xseed z_8 xmotorTick xahead), (cO3_vrvvvvvv hh v0hh yhn v2hh v3hh v4hh v5hh v6hh v7hh), (cO8_iiri yhn 1 6 yhnc yhnn), (cAI g yhnc 6 yhnf), (cO7_vvvrii hs v0hs v1hs v2hs zp zmd ztr), (cO8_iiri zp 8 2 zpc zpn), (cAI g zpc 16 zpf)] [7, 8] [0, 1, 2, 3, 4, 5, 6] (t_put l g nr p0 1 z_3 8 10 nrc nrn 80 fa_9 (tbk_8_10)) dX5_showReel_169 mw766 mw326 mw327 mw64 mw328 rfl 8 rfl rfl 0 _ rfl yk_yX8_put_3 rfl (Nat.le_of_ble_eq_true rfl) (Nat.le_of_ble_eq_true rfl) (Nat.le_of_ble_eq_true rfl) (Nat.le_of_ble_eq_true rfl) (Nat.le_of_ble_eq_true rfl) rfl rfl (by decide) rfl (by decide) (by decide) ?_
    rintro w ⟨fa_12, hr_14, rfl⟩
    refine k_ws [(cO5_riiiiiiii h0 nr xsnapped xmostSlip xslip xisDrawn xseed z_8 xmotorTick xahead), (cO3_vrvvvvvv hh v0hh yhn v2hh v3hh v4hh v5hh v6hh v7hh), (cO8_iiri yhn 1 6 yhnc yhnn), (cAI g yhnc 6 yhnf), (cO7_vvvrii hs v0hs v1hs v2hs zp zmd ztr), (cO8_iiri zp 8 2 zpc zpn), (cAI g zpc 16 zpf), (cO8_iiri nr 8 10 nrc nrn), (cAI g nrc 80 fa_12)] rfl ?_
    refine k_aload_n X dX5_showReel_172 5 rfl ?_
    refine k_get (ci := 5) X inlX5 rfl 0 (by decide) dX5_showReel_173 mw125 0 rfl rfl ?_
    refine k_iload_n X dX5_showReel_176 8 rfl ?_
    refine k_iconst (v := 2) X dX5_showReel_177 (by decide) ?_
    refine k_iload X dX5_showReel_178 9 rfl ?_
    refine k_iload X dX5_showReel_180 0 rfl ?_
    refine k_isub X dX5_showReel_182 ?_
    refine k_nm (fun z_15 ez_15 => ?_)
    refine k_callVV (n := 3) (As := [.int p0, .int 2, .int z_15]) (st := []) X [(cO8_iiri nr 8 10 nrc nrn), (cAI g nrc 80 fa_12)] [(cO5_riiiiiiii h0 nr xsnapped xmostSlip xslip xisDrawn xseed z_8 xmotorTick xahead), (cO3_vrvvvvvv hh v0hh yhn v2hh v3hh v4hh v5hh v6hh v7hh), (cO8_iiri yhn 1 6 yhnc yhnn), (cAI g yhnc 6 yhnf), (cO7_vvvrii hs v0hs v1hs v2hs zp zmd ztr), (cO8_iiri zp 8 2 zpc zpn), (cAI g zpc 16 zpf)] [7, 8] [0, 1, 2, 3, 4, 5, 6] (t_put l g nr p0 2 z_15 8 10 nrc nrn 80 fa_12 (tbk_8_10)) dX5_showReel_183 mw766 mw326 mw327 mw64 mw328 rfl 8 rfl rfl 0 _ rfl yk_yX8_put_3 rfl (Nat.le_of_ble_eq_true rfl) (Nat.le_of_ble_eq_true rfl) (Nat.le_of_ble_eq_true rfl) (Nat.le_of_ble_eq_true rfl) (Nat.le_of_ble_eq_true rfl) rfl rfl (by decide) rfl (by decide) (by decide) ?_
    rintro w ⟨fa_16, hr_18, rfl⟩
    refine k_ws [(cO5_riiiiiiii h0 nr xsnapped xmostSlip xslip xisDrawn xseed z_8 xmotorTick xahead), (cO3_vrvvvvvv hh v0hh yhn v2hh v3hh v4hh v5hh v6hh v7hh), (cO8_iiri yhn 1 6 yhnc yhnn), (cAI g yhnc 6 yhnf), (cO7_vvvrii hs v0hs v1hs v2hs zp zmd ztr), (cO8_iiri zp 8 2 zpc zpn), (cAI g zpc 16 zpf), (cO8_iiri nr 8 10 nrc nrn), (cAI g nrc 80 fa_16)] rfl ?_
    refine k_aload_n X dX5_showReel_186 5 rfl ?_
    refine k_get (ci := 5) X inlX5 rfl 0 (by decide) dX5_showReel_187 mw125 0 rfl rfl ?_
    refine k_iload_n X dX5_showReel_190 8 rfl ?_
    refine k_iconst (v := 3) X dX5_showReel_191 (by decide) ?_
    refine k_iconst (v := 0) X dX5_showReel_192 (by decide) ?_
    refine k_callVV (n := 3) (As := [.int p0, .int 3, .int 0]) (st := []) X [(cO8_iiri nr 8 10 nrc nrn), (cAI g nrc 80 fa_16)] [(cO5_riiiiiiii h0 nr xsnapped xmostSlip xslip xisDrawn xseed z_8 xmotorTick xahead), (cO3_vrvvvvvv hh v0hh yhn v2hh v3hh v4hh v5hh v6hh v7hh), (cO8_iiri yhn 1 6 yhnc yhnn), (cAI g yhnc 6 yhnf), (cO7_vvvrii hs v0hs v1hs v2hs zp zmd ztr), (cO8_iiri zp 8 2 zpc zpn), (cAI g zpc 16 zpf)] [7, 8] [0, 1, 2, 3, 4, 5, 6] (t_put l g nr p0 3 0 8 10 nrc nrn 80 fa_16 (tbk_8_10)) dX5_showReel_193 mw766 mw326 mw327 mw64 mw328 rfl 8 rfl rfl 0 _ rfl yk_yX8_put_3 rfl (Nat.le_of_ble_eq_true rfl) (Nat.le_of_ble_eq_true rfl) (Nat.le_of_ble_eq_true rfl) (Nat.le_of_ble_eq_true rfl) (Nat.le_of_ble_eq_true rfl) rfl rfl (by decide) rfl (by decide) (by decide) ?_
    rintro w ⟨fa_19, hr_21, rfl⟩
    refine k_ws [(cO5_riiiiiiii h0 nr xsnapped xmostSlip xslip xisDrawn xseed z_8 xmotorTick xahead), (cO3_vrvvvvvv hh v0hh yhn v2hh v3hh v4hh v5hh v6hh v7hh), (cO8_iiri yhn 1 6 yhnc yhnn), (cAI g yhnc 6 yhnf), (cO7_vvvrii hs v0hs v1hs v2hs zp zmd ztr), (cO8_iiri zp 8 2 zpc zpn), (cAI g zpc 16 zpf), (cO8_iiri nr 8 10 nrc nrn), (cAI g nrc 80 fa_19)] rfl ?_
    refine k_aload_n X dX5_showReel_196 5 rfl ?_
    refine k_get (ci := 5) X inlX5 rfl 0 (by decide) dX5_showReel_197 mw125 0 rfl rfl ?_
    refine k_iload_n X dX5_showReel_200 8 rfl ?_
    refine k_iconst (v := 4) X dX5_showReel_201 (by decide) ?_
    refine k_iload X dX5_showReel_202 1 rfl ?_
    refine k_callVV (n := 3) (As := [.int p0, .int 4, .int (-2)]) (st := []) X [(cO8_iiri nr 8 10 nrc nrn), (cAI g nrc 80 fa_19)] [(cO5_riiiiiiii h0 nr xsnapped xmostSlip xslip xisDrawn xseed z_8 xmotorTick xahead), (cO3_vrvvvvvv hh v0hh yhn v2hh v3hh v4hh v5hh v6hh v7hh), (cO8_iiri yhn 1 6 yhnc yhnn), (cAI g yhnc 6 yhnf), (cO7_vvvrii hs v0hs v1hs v2hs zp zmd ztr), (cO8_iiri zp 8 2 zpc zpn), (cAI g zpc 16 zpf)] [7, 8] [0, 1, 2, 3, 4, 5, 6] (t_put l g nr p0 4 ((-2)) 8 10 nrc nrn 80 fa_19 (tbk_8_10)) dX5_showReel_204 mw766 mw326 mw327 mw64 mw328 rfl 8 rfl rfl 0 _ rfl yk_yX8_put_3 rfl (Nat.le_of_ble_eq_true rfl) (Nat.le_of_ble_eq_true rfl) (Nat.le_of_ble_eq_true rfl) (Nat.le_of_ble_eq_true rfl) (Nat.le_of_ble_eq_true rfl) rfl rfl (by decide) rfl (by decide) (by decide) ?_
    rintro w ⟨fa_22, hr_24, rfl⟩
    refine k_ws [(cO5_riiiiiiii h0 nr xsnapped xmostSlip xslip xisDrawn xseed z_8 xmotorTick xahead), (cO3_vrvvvvvv hh v0hh yhn v2hh v3hh v4hh v5hh v6hh v7hh), (cO8_iiri yhn 1 6 yhnc yhnn), (cAI g yhnc 6 yhnf), (cO7_vvvrii hs v0hs v1hs v2hs zp zmd ztr), (cO8_iiri zp 8 2 zpc zpn), (cAI g zpc 16 zpf), (cO8_iiri nr 8 10 nrc nrn), (cAI g nrc 80 fa_22)] rfl ?_
    refine k_aload_n X dX5_showReel_207 5 rfl ?_
    refine k_get (ci := 5) X inlX5 rfl 0 (by decide) dX5_showReel_208 mw125 0 rfl rfl ?_
    refine k_iload_n X dX5_showReel_211 8 rfl ?_
    refine k_iconst (v := 5) X dX5_showReel_212 (by decide) ?_
    refine k_iload X dX5_showReel_213 0 rfl ?_
    refine k_callVV (n := 3) (As := [.int p0, .int 5, .int p1]) (st := []) X [(cO8_iiri nr 8 10 nrc nrn), (cAI g nrc 80 fa_22)] [(cO5_riiiiiiii h0 nr xsnapped xmostSlip xslip xisDrawn xseed z_8 xmotorTick xahead), (cO3_vrvvvvvv hh v0hh yhn v2hh v3hh v4hh v5hh v6hh v7hh), (cO8_iiri yhn 1 6 yhnc yhnn), (cAI g yhnc 6 yhnf), (cO7_vvvrii hs v0hs v1hs v2hs zp zmd ztr), (cO8_iiri zp 8 2 zpc zpn), (cAI g zpc 16 zpf)] [7, 8] [0, 1, 2, 3, 4, 5, 6] (t_put l g nr p0 5 p1 8 10 nrc nrn 80 fa_22 (tbk_8_10)) dX5_showReel_215 mw766 mw326 mw327 mw64 mw328 rfl 8 rfl rfl 0 _ rfl yk_yX8_put_3 rfl (Nat.le_of_ble_eq_true rfl) (Nat.le_of_ble_eq_true rfl) (Nat.le_of_ble_eq_true rfl) (Nat.le_of_ble_eq_true rfl) (Nat.le_of_ble_eq_true rfl) rfl rfl (by decide) rfl (by decide) (by decide) ?_
    rintro w ⟨fa_25, hr_27, rfl⟩
    refine k_ws [(cO5_riiiiiiii h0 nr xsnapped xmostSlip xslip xisDrawn xseed z_8 xmotorTick xahead), (cO3_vrvvvvvv hh v0hh yhn v2hh v3hh v4hh v5hh v6hh v7hh), (cO8_iiri yhn 1 6 yhnc yhnn), (cAI g yhnc 6 yhnf), (cO7_vvvrii hs v0hs v1hs v2hs zp zmd ztr), (cO8_iiri zp 8 2 zpc zpn), (cAI g zpc 16 zpf), (cO8_iiri nr 8 10 nrc nrn), (cAI g nrc 80 fa_25)] rfl ?_
    refine k_aload_n X dX5_showReel_218 5 rfl ?_
    refine k_get (ci := 5) X inlX5 rfl 0 (by decide) dX5_showReel_219 mw125 0 rfl rfl ?_
    refine k_iload_n X dX5_showReel_222 8 rfl ?_
    refine k_bipush (v := 6) X dX5_showReel_223 (by decide) ?_
    refine k_iload X dX5_showReel_225 2 rfl ?_
    refine k_callVV (n := 3) (As := [.int p0, .int 6, .int z_4]) (st := []) X [(cO8_iiri nr 8 10 nrc nrn), (cAI g nrc 80 fa_25)] [(cO5_riiiiiiii h0 nr xsnapped xmostSlip xslip xisDrawn xseed z_8 xmotorTick xahead), (cO3_vrvvvvvv hh v0hh yhn v2hh v3hh v4hh v5hh v6hh v7hh), (cO8_iiri yhn 1 6 yhnc yhnn), (cAI g yhnc 6 yhnf), (cO7_vvvrii hs v0hs v1hs v2hs zp zmd ztr), (cO8_iiri zp 8 2 zpc zpn), (cAI g zpc 16 zpf)] [7, 8] [0, 1, 2, 3, 4, 5, 6] (t_put l g nr p0 6 z_4 8 10 nrc nrn 80 fa_25 (tbk_8_10)) dX5_showReel_227 mw766 mw326 mw327 mw64 mw328 rfl 8 rfl rfl 0 _ rfl yk_yX8_put_3 rfl (Nat.le_of_ble_eq_true rfl) (Nat.le_of_ble_eq_true rfl) (Nat.le_of_ble_eq_true rfl) (Nat.le_of_ble_eq_true rfl) (Nat.le_of_ble_eq_true rfl) rfl rfl (by decide) rfl (by decide) (by decide) ?_
    rintro w ⟨fa_28, hr_30, rfl⟩
    refine k_ws [(cO5_riiiiiiii h0 nr xsnapped xmostSlip xslip xisDrawn xseed z_8 xmotorTick xahead), (cO3_vrvvvvvv hh v0hh yhn v2hh v3hh v4hh v5hh v6hh v7hh), (cO8_iiri yhn 1 6 yhnc yhnn), (cAI g yhnc 6 yhnf), (cO7_vvvrii hs v0hs v1hs v2hs zp zmd ztr), (cO8_iiri zp 8 2 zpc zpn), (cAI g zpc 16 zpf), (cO8_iiri nr 8 10 nrc nrn), (cAI g nrc 80 fa_28)] rfl ?_
    refine k_aload_n X dX5_showReel_230 5 rfl ?_
    refine k_get (ci := 5) X inlX5 rfl 0 (by decide) dX5_showReel_231 mw125 0 rfl rfl ?_
    refine k_iload_n X dX5_showReel_234 8 rfl ?_
    refine k_bipush (v := 7) X dX5_showReel_235 (by decide) ?_
    refine k_aload_n X dX5_showReel_237 5 rfl ?_
    refine k_get (ci := 5) X inlX5 rfl 6 (by decide) dX5_showReel_238 mw131 0 rfl rfl ?_
    refine k_callVV (n := 3) (As := [.int p0, .int 7, .int z_8]) (st := []) X [(cO8_iiri nr 8 10 nrc nrn), (cAI g nrc 80 fa_28)] [(cO5_riiiiiiii h0 nr xsnapped xmostSlip xslip xisDrawn xseed z_8 xmotorTick xahead), (cO3_vrvvvvvv hh v0hh yhn v2hh v3hh v4hh v5hh v6hh v7hh), (cO8_iiri yhn 1 6 yhnc yhnn), (cAI g yhnc 6 yhnf), (cO7_vvvrii hs v0hs v1hs v2hs zp zmd ztr), (cO8_iiri zp 8 2 zpc zpn), (cAI g zpc 16 zpf)] [7, 8] [0, 1, 2, 3, 4, 5, 6] (t_put l g nr p0 7 z_8 8 10 nrc nrn 80 fa_28 (tbk_8_10)) dX5_showReel_241 mw766 mw326 mw327 mw64 mw328 rfl 8 rfl rfl 0 _ rfl yk_yX8_put_3 rfl (Nat.le_of_ble_eq_true rfl) (Nat.le_of_ble_eq_true rfl) (Nat.le_of_ble_eq_true rfl) (Nat.le_of_ble_eq_true rfl) (Nat.le_of_ble_eq_true rfl) rfl rfl (by decide) rfl (by decide) (by decide) ?_
    rintro w ⟨fa_31, hr_33, rfl⟩
    refine k_ws [(cO5_riiiiiiii h0 nr xsnapped xmostSlip xslip xisDrawn xseed z_8 xmotorTick xahead), (cO3_vrvvvvvv hh v0hh yhn v2hh v3hh v4hh v5hh v6hh v7hh), (cO8_iiri yhn 1 6 yhnc yhnn), (cAI g yhnc 6 yhnf), (cO7_vvvrii hs v0hs v1hs v2hs zp zmd ztr), (cO8_iiri zp 8 2 zpc zpn), (cAI g zpc 16 zpf), (cO8_iiri nr 8 10 nrc nrn), (cAI g nrc 80 fa_31)] rfl ?_
    exact k_vret X hr dX5_showReel_244 (Nat.le_of_ble_eq_true rfl) (Nat.le_of_ble_eq_true rfl) [0, 7, 8, 1, 2, 3, 4, 5, 6] (by decide) rfl rfl ⟨xseed, z_8, xmotorTick, xahead, fa_31, rfl⟩
  · skip
    refine k_aload_n X dX5_showReel_51 5 rfl ?_
    refine k_get (ci := 5) X inlX5 rfl 0 (by decide) dX5_showReel_52 mw125 0 rfl rfl ?_
    refine k_iload_n X dX5_showReel_55 8 rfl ?_
    refine k_bipush (v := 9) X dX5_showReel_56 (by decide) ?_
    refine k_callVI (n := 2) (As := [.int p0, .int 9]) (st := []) X [(cO8_iiri nr 8 10 nrc nrn), (cAI g nrc 80 nrf)] [(cO5_riiiiiiii h0 nr xsnapped xmostSlip xslip xisDrawn xseed xtick xmotorTick xahead), (cO3_vrvvvvvv hh v0hh yhn v2hh v3hh v4hh v5hh v6hh v7hh), (cO8_iiri yhn 1 6 yhnc yhnn), (cAI g yhnc 6 yhnf), (cO7_vvvrii hs v0hs v1hs v2hs zp zmd ztr), (cO8_iiri zp 8 2 zpc zpn), (cAI g zpc 16 zpf)] [1, 2] [0, 3, 4, 5, 6, 7, 8] (t_at l g nr p0 9 8 10 nrc nrn 80 nrf (tbk_8_10)) dX5_showReel_58 mw757 mw376 mw377 mw64 mw378 rfl 8 rfl rfl 0 _ rfl yk_yX8_at_2 rfl (Nat.le_of_ble_eq_true rfl) (Nat.le_of_ble_eq_true rfl) (Nat.le_of_ble_eq_true rfl) (Nat.le_of_ble_eq_true rfl) (Nat.le_of_ble_eq_true rfl) rfl rfl (by decide) rfl (by decide) (by decide) ?_
    rintro r_34 w ⟨hr_35, rfl⟩
    refine k_ws [(cO5_riiiiiiii h0 nr xsnapped xmostSlip xslip xisDrawn xseed xtick xmotorTick xahead), (cO3_vrvvvvvv hh v0hh yhn v2hh v3hh v4hh v5hh v6hh v7hh), (cO8_iiri yhn 1 6 yhnc yhnn), (cAI g yhnc 6 yhnf), (cO7_vvvrii hs v0hs v1hs v2hs zp zmd ztr), (cO8_iiri zp 8 2 zpc zpn), (cAI g zpc 16 zpf), (cO8_iiri nr 8 10 nrc nrn), (cAI g nrc 80 nrf)] rfl ?_
    refine k_aload_n X dX5_showReel_61 5 rfl ?_
    refine k_callVI (n := 0) (As := []) (st := [.int r_34]) X [(cO5_riiiiiiii h0 nr xsnapped xmostSlip xslip xisDrawn xseed xtick xmotorTick xahead)] [(cO3_vrvvvvvv hh v0hh yhn v2hh v3hh v4hh v5hh v6hh v7hh), (cO8_iiri yhn 1 6 yhnc yhnn), (cAI g yhnc 6 yhnf), (cO7_vvvrii hs v0hs v1hs v2hs zp zmd ztr), (cO8_iiri zp 8 2 zpc zpn), (cAI g zpc 16 zpf), (cO8_iiri nr 8 10 nrc nrn), (cAI g nrc 80 nrf)] [0] [1, 2, 3, 4, 5, 6, 7, 8] (n_slipNow l g h0 nr xsnapped xmostSlip xslip xisDrawn xseed xtick xmotorTick xahead (by assumption)) dX5_showReel_62 mw787 mw788 mw789 mw31 mw790 rfl 5 rfl rfl 0 _ rfl yk_yX5_slipNow_0 rfl (Nat.le_of_ble_eq_true rfl) (Nat.le_of_ble_eq_true rfl) (Nat.le_of_ble_eq_true rfl) (Nat.le_of_ble_eq_true rfl) (Nat.le_of_ble_eq_true rfl) rfl rfl (by decide) rfl (by decide) (by decide) ?_
    rintro r_37 w ⟨xseed2_36, rfl⟩
    refine k_ws [(cO3_vrvvvvvv hh v0hh yhn v2hh v3hh v4hh v5hh v6hh v7hh), (cO8_iiri yhn 1 6 yhnc yhnn), (cAI g yhnc 6 yhnf), (cO7_vvvrii hs v0hs v1hs v2hs zp zmd ztr), (cO8_iiri zp 8 2 zpc zpn), (cAI g zpc 16 zpf), (cO8_iiri nr 8 10 nrc nrn), (cAI g nrc 80 nrf), (cO5_riiiiiiii h0 nr xsnapped xmostSlip xslip xisDrawn xseed2_36 xtick xmotorTick xahead)] rfl ?_
    refine k_iadd X dX5_showReel_65 ?_
    refine k_nm (fun z_39 ez_39 => ?_)
    refine k_istore [(10, .int z_39), (9, .int p1), (8, .int (-2)), (7, .int z_4), (6, .int z_3), (5, .int z_1), (0, .ref h0), (1, .ref hh), (2, .ref hs), (3, .int p0), (4, .int p1)] X dX5_showReel_66 (by decide) rfl ?_
    refine k_iload X dX5_showReel_68 5 rfl ?_
    refine k_iload X dX5_showReel_70 0 rfl ?_
    refine k_iload X dX5_showReel_72 10 rfl ?_
    refine k_iconst (v := 1) X dX5_showReel_74 (by decide) ?_
    refine k_isub X dX5_showReel_75 ?_
    refine k_nm (fun z_40 ez_40 => ?_)
    refine k_mmin X dX5_showReel_76 mw784 mw785 mw103 mw786 (Nat.le_of_ble_eq_true rfl) (Nat.le_of_ble_eq_true rfl) (Nat.zero_le _) (Nat.zero_le _) ?_
    refine k_nm (fun z_41 ez_41 => ?_)
    refine k_mmax X dX5_showReel_79 mw756 mw102 mw103 mw104 (Nat.le_of_ble_eq_true rfl) (Nat.le_of_ble_eq_true rfl) (Nat.zero_le _) (Nat.zero_le _) ?_
    refine k_nm (fun z_42 ez_42 => ?_)
    refine k_istore [(8, .int z_42), (10, .int z_39), (9, .int p1), (7, .int z_4), (6, .int z_3), (5, .int z_1), (0, .ref h0), (1, .ref hh), (2, .ref hs), (3, .int p0), (4, .int p1)] X dX5_showReel_82 (by decide) rfl ?_
    refine k_iload X dX5_showReel_84 0 rfl ?_
    refine k_aload_n X dX5_showReel_86 7 rfl ?_
    refine k_iconst (v := 0) X dX5_showReel_87 (by decide) ?_
    refine k_callVI (n := 1) (As := [.int 0]) (st := [.int z_42]) X [(cO3_vrvvvvvv hh v0hh yhn v2hh v3hh v4hh v5hh v6hh v7hh), (cO8_iiri yhn 1 6 yhnc yhnn), (cAI g yhnc 6 yhnf)] [(cO7_vvvrii hs v0hs v1hs v2hs zp zmd ztr), (cO8_iiri zp 8 2 zpc zpn), (cAI g zpc 16 zpf), (cO8_iiri nr 8 10 nrc nrn), (cAI g nrc 80 nrf), (cO5_riiiiiiii h0 nr xsnapped xmostSlip xslip xisDrawn xseed2_36 xtick xmotorTick xahead)] [0, 1, 2] [3, 4, 5, 6, 7, 8] (h_number l g hh 0 v0hh yhn v2hh v3hh v4hh v5hh v6hh v7hh yhnc yhnn yhnf) dX5_showReel_88 mw796 mw415 mw416 mw19 mw417 rfl 3 rfl rfl 0 _ rfl yk_yX3_number_1 rfl (Nat.le_of_ble_eq_true rfl) (Nat.le_of_ble_eq_true rfl) (Nat.le_of_ble_eq_true rfl) (Nat.le_of_ble_eq_true rfl) (Nat.le_of_ble_eq_true rfl) rfl rfl (by decide) rfl (by decide) (by decide) ?_
    rintro r_43 w rfl
    refine k_ws [(cO7_vvvrii hs v0hs v1hs v2hs zp zmd ztr), (cO8_iiri zp 8 2 zpc zpn), (cAI g zpc 16 zpf), (cO8_iiri nr 8 10 nrc nrn), (cAI g nrc 80 nrf), (cO5_riiiiiiii h0 nr xsnapped xmostSlip xslip xisDrawn xseed2_36 xtick xmotorTick xahead), (cO3_vrvvvvvv hh v0hh yhn v2hh v3hh v4hh v5hh v6hh v7hh), (cO8_iiri yhn 1 6 yhnc yhnn), (cAI g yhnc 6 yhnf)] rfl ?_
    refine k_iadd X dX5_showReel_91 ?_
    refine k_nm (fun z_45 ez_45 => ?_)
    refine k_iload X dX5_showReel_92 10 rfl ?_
    refine k_mmin X dX5_showReel_94 mw784 mw785 mw103 mw786 (Nat.le_of_ble_eq_true rfl) (Nat.le_of_ble_eq_true rfl) (Nat.zero_le _) (Nat.zero_le _) ?_
    refine k_nm (fun z_46 ez_46 => ?_)
    refine k_istore [(9, .int z_46), (8, .int z_42), (10, .int z_39), (7, .int z_4), (6, .int z_3), (5, .int z_1), (0, .ref h0), (1, .ref hh), (2, .ref hs), (3, .int p0), (4, .int p1)] X dX5_showReel_97 (by decide) rfl ?_
    refine k_aload_n X dX5_showReel_99 6 rfl ?_
    refine k_iload X dX5_showReel_100 3 rfl ?_
    refine k_iload X dX5_showReel_102 1 rfl ?_
    refine k_iadd X dX5_showReel_104 ?_
    refine k_nm (fun z_47 ez_47 => ?_)
    refine k_iload X dX5_showReel_105 5 rfl ?_
    refine k_isub X dX5_showReel_107 ?_
    refine k_nm (fun z_48 ez_48 => ?_)
    refine k_put (ci := 5) [(cO7_vvvrii hs v0hs v1hs v2hs zp zmd ztr), (cO8_iiri zp 8 2 zpc zpn), (cAI g zpc 16 zpf), (cO8_iiri nr 8 10 nrc nrn), (cAI g nrc 80 nrf), (cO5_riiiiiiii h0 nr xsnapped xmostSlip xslip xisDrawn xseed2_36 xtick z_48 xahead), (cO3_vrvvvvvv hh v0hh yhn v2hh v3hh v4hh v5hh v6hh v7hh), (cO8_iiri yhn 1 6 yhnc yhnn), (cAI g yhnc 6 yhnf)] X inlX5 rfl tyX5_ok nmX5 7 (by decide) rfl dX5_showReel_108 mw132 5 rfl rfl rfl (Nat.le_of_ble_eq_true rfl) rfl ?_
    refine k_aload_n X dX5_showReel_111 6 rfl ?_
    refine k_iload X dX5_showReel_112 0 rfl ?_
    refine k_iload X dX5_showReel_114 1 rfl ?_
    refine k_isub X dX5_showReel_116 ?_
    refine k_nm (fun z_49 ez_49 => ?_)
    refine k_aload_n X dX5_showReel_117 7 rfl ?_
    refine k_iconst (v := 1) X dX5_showReel_118 (by decide) ?_
    refine k_callVI (n := 1) (As := [.int 1]) (st := [.int z_49, .ref h0]) X [(cO3_vrvvvvvv hh v0hh yhn v2hh v3hh v4hh v5hh v6hh v7hh), (cO8_iiri yhn 1 6 yhnc yhnn), (cAI g yhnc 6 yhnf)] [(cO7_vvvrii hs v0hs v1hs v2hs zp zmd ztr), (cO8_iiri zp 8 2 zpc zpn), (cAI g zpc 16 zpf), (cO8_iiri nr 8 10 nrc nrn), (cAI g nrc 80 nrf), (cO5_riiiiiiii h0 nr xsnapped xmostSlip xslip xisDrawn xseed2_36 xtick z_48 xahead)] [6, 7, 8] [0, 1, 2, 3, 4, 5] (h_number l g hh 1 v0hh yhn v2hh v3hh v4hh v5hh v6hh v7hh yhnc yhnn yhnf) dX5_showReel_119 mw796 mw415 mw416 mw19 mw417 rfl 3 rfl rfl 0 _ rfl yk_yX3_number_1 rfl (Nat.le_of_ble_eq_true rfl) (Nat.le_of_ble_eq_true rfl) (Nat.le_of_ble_eq_true rfl) (Nat.le_of_ble_eq_true rfl) (Nat.le_of_ble_eq_true rfl) rfl rfl (by decide) rfl (by decide) (by decide) ?_
    rintro r_50 w rfl
    refine k_ws [(cO7_vvvrii hs v0hs v1hs v2hs zp zmd ztr), (cO8_iiri zp 8 2 zpc zpn), (cAI g zpc 16 zpf), (cO8_iiri nr 8 10 nrc nrn), (cAI g nrc 80 nrf), (cO5_riiiiiiii h0 nr xsnapped xmostSlip xslip xisDrawn xseed2_36 xtick z_48 xahead), (cO3_vrvvvvvv hh v0hh yhn v2hh v3hh v4hh v5hh v6hh v7hh), (cO8_iiri yhn 1 6 yhnc yhnn), (cAI g yhnc 6 yhnf)] rfl ?_
    refine k_isub X dX5_showReel_122 ?_
    refine k_nm (fun z_52 ez_52 => ?_)
    refine k_aload_n X dX5_showReel_123 8 rfl ?_
    refine k_get (ci := 7) X inlX7 rfl 3 (by decide) dX5_showReel_124 mw753 0 rfl rfl ?_
    refine k_iload_n X dX5_showReel_127 9 rfl ?_
    refine k_iconst (v := 1) X dX5_showReel_128 (by decide) ?_
    refine k_iadd X dX5_showReel_129 ?_
    refine k_nm (fun z_53 ez_53 => ?_)
    refine k_iconst (v := 1) X dX5_showReel_130 (by decide) ?_
    refine k_callVI (n := 2) (As := [.int z_53, .int 1]) (st := [.int z_52, .ref h0]) X [(cO8_iiri zp 8 2 zpc zpn), (cAI g zpc 16 zpf)] [(cO7_vvvrii hs v0hs v1hs v2hs zp zmd ztr), (cO8_iiri nr 8 10 nrc nrn), (cAI g nrc 80 nrf), (cO5_riiiiiiii h0 nr xsnapped xmostSlip xslip xisDrawn xseed2_36 xtick z_48 xahead), (cO3_vrvvvvvv hh v0hh yhn v2hh v3hh v4hh v5hh v6hh v7hh), (cO8_iiri yhn 1 6 yhnc yhnn), (cAI g yhnc 6 yhnf)] [1, 2] [0, 3, 4, 5, 6, 7, 8] (t_at l g zp z_53 1 8 2 zpc zpn 16 zpf (tbk_8_2)) dX5_showReel_131 mw757 mw376 mw377 mw64 mw378 rfl 8 rfl rfl 0 _ rfl yk_yX8_at_2 rfl (Nat.le_of_ble_eq_true rfl) (Nat.le_of_ble_eq_true rfl) (Nat.le_of_ble_eq_true rfl) (Nat.le_of_ble_eq_true rfl) (Nat.le_of_ble_eq_true rfl) rfl rfl (by decide) rfl (by decide) (by decide) ?_
    rintro r_54 w ⟨hr_55, rfl⟩
    refine k_ws [(cO7_vvvrii hs v0hs v1hs v2hs zp zmd ztr), (cO8_iiri nr 8 10 nrc nrn), (cAI g nrc 80 nrf), (cO5_riiiiiiii h0 nr xsnapped xmostSlip xslip xisDrawn xseed2_36 xtick z_48 xahead), (cO3_vrvvvvvv hh v0hh yhn v2hh v3hh v4hh v5hh v6hh v7hh), (cO8_iiri yhn 1 6 yhnc yhnn), (cAI g yhnc 6 yhnf), (cO8_iiri zp 8 2 zpc zpn), (cAI g zpc 16 zpf)] rfl ?_
    refine k_isub X dX5_showReel_134 ?_
    refine k_nm (fun z_56 ez_56 => ?_)
    refine k_put (ci := 5) [(cO7_vvvrii hs v0hs v1hs v2hs zp zmd ztr), (cO8_iiri nr 8 10 nrc nrn), (cAI g nrc 80 nrf), (cO5_riiiiiiii h0 nr xsnapped xmostSlip xslip xisDrawn xseed2_36 xtick z_48 z_56), (cO3_vrvvvvvv hh v0hh yhn v2hh v3hh v4hh v5hh v6hh v7hh), (cO8_iiri yhn 1 6 yhnc yhnn), (cAI g yhnc 6 yhnf), (cO8_iiri zp 8 2 zpc zpn), (cAI g zpc 16 zpf)] X inlX5 rfl tyX5_ok nmX5 8 (by decide) rfl dX5_showReel_135 mw133 3 rfl rfl rfl (Nat.le_of_ble_eq_true rfl) rfl ?_
    refine k_aload_n X dX5_showReel_138 6 rfl ?_
    refine k_iload X dX5_showReel_139 3 rfl ?_
    refine k_iload X dX5_showReel_141 0 rfl ?_
    refine k_iadd X dX5_showReel_143 ?_
    refine k_nm (fun z_57 ez_57 => ?_)
    refine k_iload X dX5_showReel_144 5 rfl ?_
    refine k_isub X dX5_showReel_146 ?_
    refine k_nm (fun z_58 ez_58 => ?_)
    refine k_put (ci := 5) [(cO7_vvvrii hs v0hs v1hs v2hs zp zmd ztr), (cO8_iiri nr 8 10 nrc nrn), (cAI g nrc 80 nrf), (cO5_riiiiiiii h0 nr xsnapped xmostSlip xslip xisDrawn xseed2_36 z_58 z_48 z_56), (cO3_vrvvvvvv hh v0hh yhn v2hh v3hh v4hh v5hh v6hh v7hh), (cO8_iiri yhn 1 6 yhnc yhnn), (cAI g yhnc 6 yhnf), (cO8_iiri zp 8 2 zpc zpn), (cAI g zpc 16 zpf)] X inlX5 rfl tyX5_ok nmX5 6 (by decide) rfl dX5_showReel_147 mw131 3 rfl rfl rfl (Nat.le_of_ble_eq_true rfl) rfl ?_
    refine k_aload_n X dX5_showReel_150 6 rfl ?_
    refine k_get (ci := 5) X inlX5 rfl 0 (by decide) dX5_showReel_151 mw125 3 rfl rfl ?_
    refine k_iload_n X dX5_showReel_154 9 rfl ?_
    refine k_iconst (v := 0) X dX5_showReel_155 (by decide) ?_
    refine k_iload X dX5_showReel_156 5 rfl ?_
    refine k_callVV (n := 3) (As := [.int p0, .int 0, .int z_1]) (st := []) X [(cO8_iiri nr 8 10 nrc nrn), (cAI g nrc 80 nrf)] [(cO7_vvvrii hs v0hs v1hs v2hs zp zmd ztr), (cO5_riiiiiiii h0 nr xsnapped xmostSlip xslip xisDrawn xseed2_36 z_58 z_48 z_56), (cO3_vrvvvvvv hh v0hh yhn v2hh v3hh v4hh v5hh v6hh v7hh), (cO8_iiri yhn 1 6 yhnc yhnn), (cAI g yhnc 6 yhnf), (cO8_iiri zp 8 2 zpc zpn), (cAI g zpc 16 zpf)] [1, 2] [0, 3, 4, 5, 6, 7, 8] (t_put l g nr p0 0 z_1 8 10 nrc nrn 80 nrf (tbk_8_10)) dX5_showReel_158 mw766 mw326 mw327 mw64 mw328 rfl 8 rfl rfl 0 _ rfl yk_yX8_put_3 rfl (Nat.le_of_ble_eq_true rfl) (Nat.le_of_ble_eq_true rfl) (Nat.le_of_ble_eq_true rfl) (Nat.le_of_ble_eq_true rfl) (Nat.le_of_ble_eq_true rfl) rfl rfl (by decide) rfl (by decide) (by decide) ?_
    rintro w ⟨fa_59, hr_61, rfl⟩
    refine k_ws [(cO7_vvvrii hs v0hs v1hs v2hs zp zmd ztr), (cO5_riiiiiiii h0 nr xsnapped xmostSlip xslip xisDrawn xseed2_36 z_58 z_48 z_56), (cO3_vrvvvvvv hh v0hh yhn v2hh v3hh v4hh v5hh v6hh v7hh), (cO8_iiri yhn 1 6 yhnc yhnn), (cAI g yhnc 6 yhnf), (cO8_iiri zp 8 2 zpc zpn), (cAI g zpc 16 zpf), (cO8_iiri nr 8 10 nrc nrn), (cAI g nrc 80 fa_59)] rfl ?_
    refine k_aload_n X dX5_showReel_161 6 rfl ?_
    refine k_get (ci := 5) X inlX5 rfl 0 (by decide) dX5_showReel_162 mw125 1 rfl rfl ?_
    refine k_iload_n X dX5_showReel_165 9 rfl ?_
    refine k_iconst (v := 1) X dX5_showReel_166 (by decide) ?_
    refine k_iload X dX5_showReel_167 4 rfl ?_
    refine k_callVV (n := 3) (As := [.int p0, .int 1, .int z_3]) (st := []) X [(cO8_iiri nr 8 10 nrc nrn), (cAI g nrc 80 fa_59)] [(cO7_vvvrii hs v0hs v1hs v2hs zp zmd ztr), (cO5_riiiiiiii h0 nr xsnapped xmostSlip xslip xisDrawn xseed2_36 z_58 z_48 z_56), (cO3_vrvvvvvv hh v0hh yhn v2hh v3hh v4hh v5hh v6hh v7hh), (cO8_iiri yhn 1 6 yhnc yhnn), (cAI g yhnc 6 yhnf), (cO8_iiri zp 8 2 zpc zpn), (cAI g zpc 16 zpf)] [7, 8] [0, 1, 2, 3, 4, 5, 6] (t_put l g nr p0 1 z_3 8 10 nrc nrn 80 fa_59 (tbk_8_10)) dX5_showReel_169 mw766 mw326 mw327 mw64 mw328 rfl 8 rfl rfl 0 _ rfl yk_yX8_put_3 rfl (Nat.le_of_ble_eq_true rfl) (Nat.le_of_ble_eq_true rfl) (Nat.le_of_ble_eq_true rfl) (Nat.le_of_ble_eq_true rfl) (Nat.le_of_ble_eq_true rfl) rfl rfl (by decide) rfl (by decide) (by decide) ?_
    rintro w ⟨fa_62, hr_64, rfl⟩
    refine k_ws [(cO7_vvvrii hs v0hs v1hs v2hs zp zmd ztr), (cO5_riiiiiiii h0 nr xsnapped xmostSlip xslip xisDrawn xseed2_36 z_58 z_48 z_56), (cO3_vrvvvvvv hh v0hh yhn v2hh v3hh v4hh v5hh v6hh v7hh), (cO8_iiri yhn 1 6 yhnc yhnn), (cAI g yhnc 6 yhnf), (cO8_iiri zp 8 2 zpc zpn), (cAI g zpc 16 zpf), (cO8_iiri nr 8 10 nrc nrn), (cAI g nrc 80 fa_62)] rfl ?_
    refine k_aload_n X dX5_showReel_172 6 rfl ?_
    refine k_get (ci := 5) X inlX5 rfl 0 (by decide) dX5_showReel_173 mw125 1 rfl rfl ?_
    refine k_iload_n X dX5_showReel_176 9 rfl ?_
    refine k_iconst (v := 2) X dX5_showReel_177 (by decide) ?_
    refine k_iload X dX5_showReel_178 10 rfl ?_
    refine k_iload X dX5_showReel_180 0 rfl ?_
    refine k_isub X dX5_showReel_182 ?_
    refine k_nm (fun z_65 ez_65 => ?_)
    refine k_callVV (n := 3) (As := [.int p0, .int 2, .int z_65]) (st := []) X [(cO8_iiri nr 8 10 nrc nrn), (cAI g nrc 80 fa_62)] [(cO7_vvvrii hs v0hs v1hs v2hs zp zmd ztr), (cO5_riiiiiiii h0 nr xsnapped xmostSlip xslip xisDrawn xseed2_36 z_58 z_48 z_56), (cO3_vrvvvvvv hh v0hh yhn v2hh v3hh v4hh v5hh v6hh v7hh), (cO8_iiri yhn 1 6 yhnc yhnn), (cAI g yhnc 6 yhnf), (cO8_iiri zp 8 2 zpc zpn), (cAI g zpc 16 zpf)] [7, 8] [0, 1, 2, 3, 4, 5, 6] (t_put l g nr p0 2 z_65 8 10 nrc nrn 80 fa_62 (tbk_8_10)) dX5_showReel_183 mw766 mw326 mw327 mw64 mw328 rfl 8 rfl rfl 0 _ rfl yk_yX8_put_3 rfl (Nat.le_of_ble_eq_true rfl) (Nat.le_of_ble_eq_true rfl) (Nat.le_of_ble_eq_true rfl) (Nat.le_of_ble_eq_true rfl) (Nat.le_of_ble_eq_true rfl) rfl rfl (by decide) rfl (by decide) (by decide) ?_
    rintro w ⟨fa_66, hr_68, rfl⟩
    refine k_ws [(cO7_vvvrii hs v0hs v1hs v2hs zp zmd ztr), (cO5_riiiiiiii h0 nr xsnapped xmostSlip xslip xisDrawn xseed2_36 z_58 z_48 z_56), (cO3_vrvvvvvv hh v0hh yhn v2hh v3hh v4hh v5hh v6hh v7hh), (cO8_iiri yhn 1 6 yhnc yhnn), (cAI g yhnc 6 yhnf), (cO8_iiri zp 8 2 zpc zpn), (cAI g zpc 16 zpf), (cO8_iiri nr 8 10 nrc nrn), (cAI g nrc 80 fa_66)] rfl ?_
    refine k_aload_n X dX5_showReel_186 6 rfl ?_
    refine k_get (ci := 5) X inlX5 rfl 0 (by decide) dX5_showReel_187 mw125 1 rfl rfl ?_
    refine k_iload_n X dX5_showReel_190 9 rfl ?_
    refine k_iconst (v := 3) X dX5_showReel_191 (by decide) ?_
    refine k_iconst (v := 0) X dX5_showReel_192 (by decide) ?_
    refine k_callVV (n := 3) (As := [.int p0, .int 3, .int 0]) (st := []) X [(cO8_iiri nr 8 10 nrc nrn), (cAI g nrc 80 fa_66)] [(cO7_vvvrii hs v0hs v1hs v2hs zp zmd ztr), (cO5_riiiiiiii h0 nr xsnapped xmostSlip xslip xisDrawn xseed2_36 z_58 z_48 z_56), (cO3_vrvvvvvv hh v0hh yhn v2hh v3hh v4hh v5hh v6hh v7hh), (cO8_iiri yhn 1 6 yhnc yhnn), (cAI g yhnc 6 yhnf), (cO8_iiri zp 8 2 zpc zpn), (cAI g zpc 16 zpf)] [7, 8] [0, 1, 2, 3, 4, 5, 6] (t_put l g nr p0 3 0 8 10 nrc nrn 80 fa_66 (tbk_8_10)) dX5_showReel_193 mw766 mw326 mw327 mw64 mw328 rfl 8 rfl rfl 0 _ rfl yk_yX8_put_3 rfl (Nat.le_of_ble_eq_true rfl) (Nat.le_of_ble_eq_true rfl) (Nat.le_of_ble_eq_true rfl) (Nat.le_of_ble_eq_true rfl) (Nat.le_of_ble_eq_true rfl) rfl rfl (by decide) rfl (by decide) (by decide) ?_
    rintro w ⟨fa_69, hr_71, rfl⟩
    refine k_ws [(cO7_vvvrii hs v0hs v1hs v2hs zp zmd ztr), (cO5_riiiiiiii h0 nr xsnapped xmostSlip xslip xisDrawn xseed2_36 z_58 z_48 z_56), (cO3_vrvvvvvv hh v0hh yhn v2hh v3hh v4hh v5hh v6hh v7hh), (cO8_iiri yhn 1 6 yhnc yhnn), (cAI g yhnc 6 yhnf), (cO8_iiri zp 8 2 zpc zpn), (cAI g zpc 16 zpf), (cO8_iiri nr 8 10 nrc nrn), (cAI g nrc 80 fa_69)] rfl ?_
    refine k_aload_n X dX5_showReel_196 6 rfl ?_
    refine k_get (ci := 5) X inlX5 rfl 0 (by decide) dX5_showReel_197 mw125 1 rfl rfl ?_
    refine k_iload_n X dX5_showReel_200 9 rfl ?_
    refine k_iconst (v := 4) X dX5_showReel_201 (by decide) ?_
    refine k_iload X dX5_showReel_202 1 rfl ?_
    refine k_callVV (n := 3) (As := [.int p0, .int 4, .int z_42]) (st := []) X [(cO8_iiri nr 8 10 nrc nrn), (cAI g nrc 80 fa_69)] [(cO7_vvvrii hs v0hs v1hs v2hs zp zmd ztr), (cO5_riiiiiiii h0 nr xsnapped xmostSlip xslip xisDrawn xseed2_36 z_58 z_48 z_56), (cO3_vrvvvvvv hh v0hh yhn v2hh v3hh v4hh v5hh v6hh v7hh), (cO8_iiri yhn 1 6 yhnc yhnn), (cAI g yhnc 6 yhnf), (cO8_iiri zp 8 2 zpc zpn), (cAI g zpc 16 zpf)] [7, 8] [0, 1, 2, 3, 4, 5, 6] (t_put l g nr p0 4 z_42 8 10 nrc nrn 80 fa_69 (tbk_8_10)) dX5_showReel_204 mw766 mw326 mw327 mw64 mw328 rfl 8 rfl rfl 0 _ rfl yk_yX8_put_3 rfl (Nat.le_of_ble_eq_true rfl) (Nat.le_of_ble_eq_true rfl) (Nat.le_of_ble_eq_true rfl) (Nat.le_of_ble_eq_true rfl) (Nat.le_of_ble_eq_true rfl) rfl rfl (by decide) rfl (by decide) (by decide) ?_
    rintro w ⟨fa_72, hr_74, rfl⟩
    refine k_ws [(cO7_vvvrii hs v0hs v1hs v2hs zp zmd ztr), (cO5_riiiiiiii h0 nr xsnapped xmostSlip xslip xisDrawn xseed2_36 z_58 z_48 z_56), (cO3_vrvvvvvv hh v0hh yhn v2hh v3hh v4hh v5hh v6hh v7hh), (cO8_iiri yhn 1 6 yhnc yhnn), (cAI g yhnc 6 yhnf), (cO8_iiri zp 8 2 zpc zpn), (cAI g zpc 16 zpf), (cO8_iiri nr 8 10 nrc nrn), (cAI g nrc 80 fa_72)] rfl ?_
    refine k_aload_n X dX5_showReel_207 6 rfl ?_
    refine k_get (ci := 5) X inlX5 rfl 0 (by decide) dX5_showReel_208 mw125 1 rfl rfl ?_
    refine k_iload_n X dX5_showReel_211 9 rfl ?_
    refine k_iconst (v := 5) X dX5_showReel_212 (by decide) ?_
    refine k_iload X dX5_showReel_213 0 rfl ?_
    refine k_callVV (n := 3) (As := [.int p0, .int 5, .int z_46]) (st := []) X [(cO8_iiri nr 8 10 nrc nrn), (cAI g nrc 80 fa_72)] [(cO7_vvvrii hs v0hs v1hs v2hs zp zmd ztr), (cO5_riiiiiiii h0 nr xsnapped xmostSlip xslip xisDrawn xseed2_36 z_58 z_48 z_56), (cO3_vrvvvvvv hh v0hh yhn v2hh v3hh v4hh v5hh v6hh v7hh), (cO8_iiri yhn 1 6 yhnc yhnn), (cAI g yhnc 6 yhnf), (cO8_iiri zp 8 2 zpc zpn), (cAI g zpc 16 zpf)] [7, 8] [0, 1, 2, 3, 4, 5, 6] (t_put l g nr p0 5 z_46 8 10 nrc nrn 80 fa_72 (tbk_8_10)) dX5_showReel_215 mw766 mw326 mw327 mw64 mw328 rfl 8 rfl rfl 0 _ rfl yk_yX8_put_3 rfl (Nat.le_of_ble_eq_true rfl) (Nat.le_of_ble_eq_true rfl) (Nat.le_of_ble_eq_true rfl) (Nat.le_of_ble_eq_true rfl) (Nat.le_of_ble_eq_true rfl) rfl rfl (by decide) rfl (by decide) (by decide) ?_
    rintro w ⟨fa_75, hr_77, rfl⟩
    refine k_ws [(cO7_vvvrii hs v0hs v1hs v2hs zp zmd ztr), (cO5_riiiiiiii h0 nr xsnapped xmostSlip xslip xisDrawn xseed2_36 z_58 z_48 z_56), (cO3_vrvvvvvv hh v0hh yhn v2hh v3hh v4hh v5hh v6hh v7hh), (cO8_iiri yhn 1 6 yhnc yhnn), (cAI g yhnc 6 yhnf), (cO8_iiri zp 8 2 zpc zpn), (cAI g zpc 16 zpf), (cO8_iiri nr 8 10 nrc nrn), (cAI g nrc 80 fa_75)] rfl ?_
    refine k_aload_n X dX5_showReel_218 6 rfl ?_
    refine k_get (ci := 5) X inlX5 rfl 0 (by decide) dX5_showReel_219 mw125 1 rfl rfl ?_
    refine k_iload_n X dX5_showReel_222 9 rfl ?_
    refine k_bipush (v := 6) X dX5_showReel_223 (by decide) ?_
    refine k_iload X dX5_showReel_225 3 rfl ?_
    refine k_callVV (n := 3) (As := [.int p0, .int 6, .int z_4]) (st := []) X [(cO8_iiri nr 8 10 nrc nrn), (cAI g nrc 80 fa_75)] [(cO7_vvvrii hs v0hs v1hs v2hs zp zmd ztr), (cO5_riiiiiiii h0 nr xsnapped xmostSlip xslip xisDrawn xseed2_36 z_58 z_48 z_56), (cO3_vrvvvvvv hh v0hh yhn v2hh v3hh v4hh v5hh v6hh v7hh), (cO8_iiri yhn 1 6 yhnc yhnn), (cAI g yhnc 6 yhnf), (cO8_iiri zp 8 2 zpc zpn), (cAI g zpc 16 zpf)] [7, 8] [0, 1, 2, 3, 4, 5, 6] (t_put l g nr p0 6 z_4 8 10 nrc nrn 80 fa_75 (tbk_8_10)) dX5_showReel_227 mw766 mw326 mw327 mw64 mw328 rfl 8 rfl rfl 0 _ rfl yk_yX8_put_3 rfl (Nat.le_of_ble_eq_true rfl) (Nat.le_of_ble_eq_true rfl) (Nat.le_of_ble_eq_true rfl) (Nat.le_of_ble_eq_true rfl) (Nat.le_of_ble_eq_true rfl) rfl rfl (by decide) rfl (by decide) (by decide) ?_
    rintro w ⟨fa_78, hr_80, rfl⟩
    refine k_ws [(cO7_vvvrii hs v0hs v1hs v2hs zp zmd ztr), (cO5_riiiiiiii h0 nr xsnapped xmostSlip xslip xisDrawn xseed2_36 z_58 z_48 z_56), (cO3_vrvvvvvv hh v0hh yhn v2hh v3hh v4hh v5hh v6hh v7hh), (cO8_iiri yhn 1 6 yhnc yhnn), (cAI g yhnc 6 yhnf), (cO8_iiri zp 8 2 zpc zpn), (cAI g zpc 16 zpf), (cO8_iiri nr 8 10 nrc nrn), (cAI g nrc 80 fa_78)] rfl ?_
    refine k_aload_n X dX5_showReel_230 6 rfl ?_
    refine k_get (ci := 5) X inlX5 rfl 0 (by decide) dX5_showReel_231 mw125 1 rfl rfl ?_
    refine k_iload_n X dX5_showReel_234 9 rfl ?_
    refine k_bipush (v := 7) X dX5_showReel_235 (by decide) ?_
    refine k_aload_n X dX5_showReel_237 6 rfl ?_
    refine k_get (ci := 5) X inlX5 rfl 6 (by decide) dX5_showReel_238 mw131 1 rfl rfl ?_
    refine k_callVV (n := 3) (As := [.int p0, .int 7, .int z_58]) (st := []) X [(cO8_iiri nr 8 10 nrc nrn), (cAI g nrc 80 fa_78)] [(cO7_vvvrii hs v0hs v1hs v2hs zp zmd ztr), (cO5_riiiiiiii h0 nr xsnapped xmostSlip xslip xisDrawn xseed2_36 z_58 z_48 z_56), (cO3_vrvvvvvv hh v0hh yhn v2hh v3hh v4hh v5hh v6hh v7hh), (cO8_iiri yhn 1 6 yhnc yhnn), (cAI g yhnc 6 yhnf), (cO8_iiri zp 8 2 zpc zpn), (cAI g zpc 16 zpf)] [7, 8] [0, 1, 2, 3, 4, 5, 6] (t_put l g nr p0 7 z_58 8 10 nrc nrn 80 fa_78 (tbk_8_10)) dX5_showReel_241 mw766 mw326 mw327 mw64 mw328 rfl 8 rfl rfl 0 _ rfl yk_yX8_put_3 rfl (Nat.le_of_ble_eq_true rfl) (Nat.le_of_ble_eq_true rfl) (Nat.le_of_ble_eq_true rfl) (Nat.le_of_ble_eq_true rfl) (Nat.le_of_ble_eq_true rfl) rfl rfl (by decide) rfl (by decide) (by decide) ?_
    rintro w ⟨fa_81, hr_83, rfl⟩
    refine k_ws [(cO7_vvvrii hs v0hs v1hs v2hs zp zmd ztr), (cO5_riiiiiiii h0 nr xsnapped xmostSlip xslip xisDrawn xseed2_36 z_58 z_48 z_56), (cO3_vrvvvvvv hh v0hh yhn v2hh v3hh v4hh v5hh v6hh v7hh), (cO8_iiri yhn 1 6 yhnc yhnn), (cAI g yhnc 6 yhnf), (cO8_iiri zp 8 2 zpc zpn), (cAI g zpc 16 zpf), (cO8_iiri nr 8 10 nrc nrn), (cAI g nrc 80 fa_81)] rfl ?_
    exact k_vret X hr dX5_showReel_244 (Nat.le_of_ble_eq_true rfl) (Nat.le_of_ble_eq_true rfl) [1, 7, 8, 2, 3, 4, 0, 5, 6] (by decide) rfl rfl ⟨xseed2_36, z_58, z_48, z_56, fa_81, rfl⟩

theorem dX5_snapWeakPlaces_0 : decode cX5_snapWeakPlaces 0 = .ok (.iconst 0, 1) := dk_3 rfl
theorem dX5_snapWeakPlaces_1 : decode cX5_snapWeakPlaces 1 = .ok (.istore 4, 2) := dk_54 rfl rfl rfl
theorem dX5_snapWeakPlaces_3 : decode cX5_snapWeakPlaces 3 = .ok (.aload_n 0, 1) := dk_42 rfl
theorem dX5_snapWeakPlaces_4 : decode cX5_snapWeakPlaces 4 = .ok (.getfield 30, 3) := dk_180 rfl rfl rfl rfl
theorem dX5_snapWeakPlaces_7 : decode cX5_snapWeakPlaces 7 = .ok (.ifCond .eq 78, 3) := dk_153 rfl rfl rfl (by decide)
theorem dX5_snapWeakPlaces_10 : decode cX5_snapWeakPlaces 10 = .ok (.iload 4, 2) := dk_21 rfl rfl rfl
theorem dX5_snapWeakPlaces_12 : decode cX5_snapWeakPlaces 12 = .ok (.aload_n 2, 1) := dk_44 rfl
theorem dX5_snapWeakPlaces_13 : decode cX5_snapWeakPlaces 13 = .ok (.getfield 107, 3) := dk_180 rfl rfl rfl rfl
theorem dX5_snapWeakPlaces_16 : decode cX5_snapWeakPlaces 16 = .ok (.getfield 51, 3) := dk_180 rfl rfl rfl rfl
theorem dX5_snapWeakPlaces_19 : decode cX5_snapWeakPlaces 19 = .ok (.if_icmp .ge 66, 3) := dk_162 rfl rfl rfl (by decide)
theorem dX5_snapWeakPlaces_22 : decode cX5_snapWeakPlaces 22 = .ok (.aload_n 2, 1) := dk_44 rfl
theorem dX5_snapWeakPlaces_23 : decode cX5_snapWeakPlaces 23 = .ok (.iload 4, 2) := dk_21 rfl rfl rfl
theorem dX5_snapWeakPlaces_25 : decode cX5_snapWeakPlaces 25 = .ok (.invokevirtual 110, 3) := dk_182 rfl rfl rfl rfl
theorem dX5_snapWeakPlaces_28 : decode cX5_snapWeakPlaces 28 = .ok (.ifCond .eq 51, 3) := dk_153 rfl rfl rfl (by decide)
theorem dX5_snapWeakPlaces_31 : decode cX5_snapWeakPlaces 31 = .ok (.aload_n 2, 1) := dk_44 rfl
theorem dX5_snapWeakPlaces_32 : decode cX5_snapWeakPlaces 32 = .ok (.getfield 107, 3) := dk_180 rfl rfl rfl rfl
theorem dX5_snapWeakPlaces_35 : decode cX5_snapWeakPlaces 35 = .ok (.iload 4, 2) := dk_21 rfl rfl rfl
theorem dX5_snapWeakPlaces_37 : decode cX5_snapWeakPlaces 37 = .ok (.iconst 0, 1) := dk_3 rfl
theorem dX5_snapWeakPlaces_38 : decode cX5_snapWeakPlaces 38 = .ok (.invokevirtual 59, 3) := dk_182 rfl rfl rfl rfl
theorem dX5_snapWeakPlaces_41 : decode cX5_snapWeakPlaces 41 = .ok (.iload_n 3, 1) := dk_29 rfl
theorem dX5_snapWeakPlaces_42 : decode cX5_snapWeakPlaces 42 = .ok (.if_icmp .ne 37, 3) := dk_160 rfl rfl rfl (by decide)
theorem dX5_snapWeakPlaces_45 : decode cX5_snapWeakPlaces 45 = .ok (.aload_n 0, 1) := dk_42 rfl
theorem dX5_snapWeakPlaces_46 : decode cX5_snapWeakPlaces 46 = .ok (.invokevirtual 104, 3) := dk_182 rfl rfl rfl rfl
theorem dX5_snapWeakPlaces_49 : decode cX5_snapWeakPlaces 49 = .ok (.bipush 100, 2) := dk_16 rfl rfl (by decide)
theorem dX5_snapWeakPlaces_51 : decode cX5_snapWeakPlaces 51 = .ok (.irem, 1) := dk_112 rfl
theorem dX5_snapWeakPlaces_52 : decode cX5_snapWeakPlaces 52 = .ok (.aload_n 2, 1) := dk_44 rfl
theorem dX5_snapWeakPlaces_53 : decode cX5_snapWeakPlaces 53 = .ok (.getfield 107, 3) := dk_180 rfl rfl rfl rfl
theorem dX5_snapWeakPlaces_56 : decode cX5_snapWeakPlaces 56 = .ok (.iload 4, 2) := dk_21 rfl rfl rfl
theorem dX5_snapWeakPlaces_58 : decode cX5_snapWeakPlaces 58 = .ok (.iconst 2, 1) := dk_5 rfl
theorem dX5_snapWeakPlaces_59 : decode cX5_snapWeakPlaces 59 = .ok (.invokevirtual 59, 3) := dk_182 rfl rfl rfl rfl
theorem dX5_snapWeakPlaces_62 : decode cX5_snapWeakPlaces 62 = .ok (.if_icmp .ge 17, 3) := dk_162 rfl rfl rfl (by decide)
theorem dX5_snapWeakPlaces_65 : decode cX5_snapWeakPlaces 65 = .ok (.aload_n 0, 1) := dk_42 rfl
theorem dX5_snapWeakPlaces_66 : decode cX5_snapWeakPlaces 66 = .ok (.dup, 1) := dk_89 rfl
theorem dX5_snapWeakPlaces_67 : decode cX5_snapWeakPlaces 67 = .ok (.getfield 20, 3) := dk_180 rfl rfl rfl rfl
theorem dX5_snapWeakPlaces_70 : decode cX5_snapWeakPlaces 70 = .ok (.aload_n 1, 1) := dk_43 rfl
theorem dX5_snapWeakPlaces_71 : decode cX5_snapWeakPlaces 71 = .ok (.iconst 5, 1) := dk_8 rfl
theorem dX5_snapWeakPlaces_72 : decode cX5_snapWeakPlaces 72 = .ok (.invokevirtual 101, 3) := dk_182 rfl rfl rfl rfl
theorem dX5_snapWeakPlaces_75 : decode cX5_snapWeakPlaces 75 = .ok (.iadd, 1) := dk_96 rfl
theorem dX5_snapWeakPlaces_76 : decode cX5_snapWeakPlaces 76 = .ok (.putfield 20, 3) := dk_181 rfl rfl rfl rfl
theorem dX5_snapWeakPlaces_79 : decode cX5_snapWeakPlaces 79 = .ok (.iinc 4 1, 3) := dk_132 rfl rfl rfl rfl (by decide)
theorem dX5_snapWeakPlaces_82 : decode cX5_snapWeakPlaces 82 = .ok (.goto (-79), 3) := dk_167 rfl rfl rfl (by decide)
theorem dX5_snapWeakPlaces_85 : decode cX5_snapWeakPlaces 85 = .ok (.return_, 1) := dk_177 rfl
set_option maxHeartbeats 4000000 in
set_option maxRecDepth 100000 in
theorem n_snap (l : Launch) (g : Gx) (h0 : Nat) (hh : Nat) (hs : Nat) (p0 : Int32) (nr : Nat) (xsnapped : Int32) (xmostSlip : Int32) (xslip : Int32) (xisDrawn : Int32) (xseed : Int32) (xtick : Int32) (xmotorTick : Int32) (xahead : Int32) (v0hh : Value) (yhn : Nat) (v2hh : Value) (v3hh : Value) (v4hh : Value) (v5hh : Value) (v6hh : Value) (v7hh : Value) (yhnc : Nat) (yhnn : Int32) (yhnf : Nat → Int32) (v0hs : Value) (v1hs : Value) (zw : Nat) (v3hs : Value) (zmd : Int32) (ztr : Int32) (zwc : Nat) (zwn : Int32) (zwf : Nat → Int32) : cV l g yX5_snapWeakPlaces cX5_snapWeakPlaces 5 2 43 0 0 [.ref h0, .ref hh, .ref hs, .int p0] [(cO5_riiiiiiii h0 nr xsnapped xmostSlip xslip xisDrawn xseed xtick xmotorTick xahead), (cO3_vrvvvvvv hh v0hh yhn v2hh v3hh v4hh v5hh v6hh v7hh), (cO8_iiri yhn 1 6 yhnc yhnn), (cAI g yhnc 6 yhnf), (cO7_vvrvii hs v0hs v1hs zw v3hs zmd ztr), (cO8_iiri zw 6 3 zwc zwn), (cAI g zwc 18 zwf)] (fun w => ∃ (xseed2 : Int32) (xsnapped2 : Int32), w = [(cO5_riiiiiiii h0 nr xsnapped2 xmostSlip xslip xisDrawn xseed2 xtick xmotorTick xahead), (cO3_vrvvvvvv hh v0hh yhn v2hh v3hh v4hh v5hh v6hh v7hh), (cO8_iiri yhn 1 6 yhnc yhnn), (cAI g yhnc 6 yhnf), (cO7_vvrvii hs v0hs v1hs zw v3hs zmd ztr), (cO8_iiri zw 6 3 zwc zwn), (cAI g zwc 18 zwf)]) := by
  refine cV.of (by decide) (Nat.le_of_ble_eq_true rfl) ?_
  intro p e s m args below meth c A X hr hi
  refine k_lveq [(0, .ref h0), (1, .ref hh), (2, .ref hs), (3, .int p0)] rfl ?_
  refine k_iconst (v := 0) X dX5_snapWeakPlaces_0 (by decide) ?_
  refine k_istore [(4, .int 0), (0, .ref h0), (1, .ref hh), (2, .ref hs), (3, .int p0)] X dX5_snapWeakPlaces_1 (by decide) rfl ?_
  refine (fun hL : ∀ (nn_4 : Nat) (u_1 : Int32) (u_2 : Int32) (u_3 : Int32), (zwn.toInt - u_1.toInt).toNat = nn_4 → Wk p l e _ s m args below meth c _ A g _ _ _ [(cO5_riiiiiiii h0 nr u_2 xmostSlip xslip xisDrawn u_3 xtick xmotorTick xahead), (cO3_vrvvvvvv hh v0hh yhn v2hh v3hh v4hh v5hh v6hh v7hh), (cO8_iiri yhn 1 6 yhnc yhnn), (cAI g yhnc 6 yhnf), (cO7_vvrvii hs v0hs v1hs zw v3hs zmd ztr), (cO8_iiri zw 6 3 zwc zwn), (cAI g zwc 18 zwf)] [(4, .int u_1), (0, .ref h0), (1, .ref hh), (2, .ref hs), (3, .int p0)] 3 [] => hL _ 0 xsnapped xseed rfl ) ?_
  refine fun nn_4 => Nat.strongRecOn nn_4 (fun nn_4 ih_6 => ?_)
  intro u_1 u_2 u_3 hm_5 
  refine k_aload_n X dX5_snapWeakPlaces_3 1 rfl ?_
  refine k_get (ci := 5) X inlX5 rfl 4 (by decide) dX5_snapWeakPlaces_4 mw129 0 rfl rfl ?_
  refine k_if_eq 85 X dX5_snapWeakPlaces_7 (by decide) (fun h_7 => ?_) (fun h_7 => ?_)
  · skip
    exact k_vret X hr dX5_snapWeakPlaces_85 (Nat.le_of_ble_eq_true rfl) (Nat.le_of_ble_eq_true rfl) [0, 1, 2, 3, 4, 5, 6] (by decide) rfl rfl ⟨u_3, u_2, rfl⟩
  · skip
    refine k_iload X dX5_snapWeakPlaces_10 0 rfl ?_
    refine k_aload_n X dX5_snapWeakPlaces_12 3 rfl ?_
    refine k_get (ci := 7) X inlX7 rfl 2 (by decide) dX5_snapWeakPlaces_13 mw801 4 rfl rfl ?_
    refine k_get (ci := 8) X inlX8 rfl 3 (by decide) dX5_snapWeakPlaces_16 mw754 5 rfl rfl ?_
    refine k_ic_ge 85 X dX5_snapWeakPlaces_19 (by decide) (fun h_8 => ?_) (fun h_8 => ?_)
    · skip
      exact k_vret X hr dX5_snapWeakPlaces_85 (Nat.le_of_ble_eq_true rfl) (Nat.le_of_ble_eq_true rfl) [0, 1, 2, 3, 4, 5, 6] (by decide) rfl rfl ⟨u_3, u_2, rfl⟩
    · skip
      refine k_aload_n X dX5_snapWeakPlaces_22 3 rfl ?_
      refine k_iload X dX5_snapWeakPlaces_23 0 rfl ?_
      refine k_callVI (n := 1) (As := [.int u_1]) (st := []) X [(cO7_vvrvii hs v0hs v1hs zw v3hs zmd ztr), (cO8_iiri zw 6 3 zwc zwn), (cAI g zwc 18 zwf)] [(cO5_riiiiiiii h0 nr u_2 xmostSlip xslip xisDrawn u_3 xtick xmotorTick xahead), (cO3_vrvvvvvv hh v0hh yhn v2hh v3hh v4hh v5hh v6hh v7hh), (cO8_iiri yhn 1 6 yhnc yhnn), (cAI g yhnc 6 yhnf)] [4, 5, 6] [0, 1, 2, 3] (s_isWeak l g hs u_1 v0hs v1hs zw v3hs zmd ztr zwc zwn zwf) dX5_snapWeakPlaces_25 mw802 mw661 mw662 mw23 mw663 rfl 7 rfl rfl 0 _ rfl yk_yX7_isWeak_1 rfl (Nat.le_of_ble_eq_true rfl) (Nat.le_of_ble_eq_true rfl) (Nat.le_of_ble_eq_true rfl) (Nat.le_of_ble_eq_true rfl) (Nat.le_of_ble_eq_true rfl) rfl rfl (by decide) rfl (by decide) (by decide) ?_
      rintro r_9 w rfl
      refine k_ws [(cO5_riiiiiiii h0 nr u_2 xmostSlip xslip xisDrawn u_3 xtick xmotorTick xahead), (cO3_vrvvvvvv hh v0hh yhn v2hh v3hh v4hh v5hh v6hh v7hh), (cO8_iiri yhn 1 6 yhnc yhnn), (cAI g yhnc 6 yhnf), (cO7_vvrvii hs v0hs v1hs zw v3hs zmd ztr), (cO8_iiri zw 6 3 zwc zwn), (cAI g zwc 18 zwf)] rfl ?_
      refine k_if_eq 79 X dX5_snapWeakPlaces_28 (by decide) (fun h_11 => ?_) (fun h_11 => ?_)
      · skip
        obtain ⟨z_12, ez_12⟩ : ∃ y : Int32, u_1 + Int32.ofInt 1 = y := ⟨_, rfl⟩
        refine k_iinc z_12 [(4, .int z_12), (0, .ref h0), (1, .ref hh), (2, .ref hs), (3, .int p0)] 0 X dX5_snapWeakPlaces_79 rfl ez_12 (by decide) rfl ?_
        refine k_goto 3 X dX5_snapWeakPlaces_82 (by decide) ?_
        exact ih_6 _ (by rw [← hm_5]; exact mu_lt (by assumption) (by assumption)) z_12 u_2 u_3 rfl 
      · skip
        refine k_aload_n X dX5_snapWeakPlaces_31 3 rfl ?_
        refine k_get (ci := 7) X inlX7 rfl 2 (by decide) dX5_snapWeakPlaces_32 mw801 4 rfl rfl ?_
        refine k_iload X dX5_snapWeakPlaces_35 0 rfl ?_
        refine k_iconst (v := 0) X dX5_snapWeakPlaces_37 (by decide) ?_
        refine k_callVI (n := 2) (As := [.int u_1, .int 0]) (st := []) X [(cO8_iiri zw 6 3 zwc zwn), (cAI g zwc 18 zwf)] [(cO5_riiiiiiii h0 nr u_2 xmostSlip xslip xisDrawn u_3 xtick xmotorTick xahead), (cO3_vrvvvvvv hh v0hh yhn v2hh v3hh v4hh v5hh v6hh v7hh), (cO8_iiri yhn 1 6 yhnc yhnn), (cAI g yhnc 6 yhnf), (cO7_vvrvii hs v0hs v1hs zw v3hs zmd ztr)] [5, 6] [0, 1, 2, 3, 4] (t_at l g zw u_1 0 6 3 zwc zwn 18 zwf (tbk_6_3)) dX5_snapWeakPlaces_38 mw757 mw376 mw377 mw64 mw378 rfl 8 rfl rfl 0 _ rfl yk_yX8_at_2 rfl (Nat.le_of_ble_eq_true rfl) (Nat.le_of_ble_eq_true rfl) (Nat.le_of_ble_eq_true rfl) (Nat.le_of_ble_eq_true rfl) (Nat.le_of_ble_eq_true rfl) rfl rfl (by decide) rfl (by decide) (by decide) ?_
        rintro r_13 w ⟨hr_14, rfl⟩
        refine k_ws [(cO5_riiiiiiii h0 nr u_2 xmostSlip xslip xisDrawn u_3 xtick xmotorTick xahead), (cO3_vrvvvvvv hh v0hh yhn v2hh v3hh v4hh v5hh v6hh v7hh), (cO8_iiri yhn 1 6 yhnc yhnn), (cAI g yhnc 6 yhnf), (cO7_vvrvii hs v0hs v1hs zw v3hs zmd ztr), (cO8_iiri zw 6 3 zwc zwn), (cAI g zwc 18 zwf)] rfl ?_
        refine k_iload_n X dX5_snapWeakPlaces_41 4 rfl ?_
        refine k_ic_ne 79 X dX5_snapWeakPlaces_42 (by decide) (fun h_15 => ?_) (fun h_15 => ?_)
        · skip
          obtain ⟨z_16, ez_16⟩ : ∃ y : Int32, u_1 + Int32.ofInt 1 = y := ⟨_, rfl⟩
          refine k_iinc z_16 [(4, .int z_16), (0, .ref h0), (1, .ref hh), (2, .ref hs), (3, .int p0)] 0 X dX5_snapWeakPlaces_79 rfl ez_16 (by decide) rfl ?_
          refine k_goto 3 X dX5_snapWeakPlaces_82 (by decide) ?_
          exact ih_6 _ (by rw [← hm_5]; exact mu_lt (by assumption) (by assumption)) z_16 u_2 u_3 rfl 
        · skip
          refine k_aload_n X dX5_snapWeakPlaces_45 1 rfl ?_
          refine k_callVI (n := 0) (As := []) (st := []) X [(cO5_riiiiiiii h0 nr u_2 xmostSlip xslip xisDrawn u_3 xtick xmotorTick xahead)] [(cO3_vrvvvvvv hh v0hh yhn v2hh v3hh v4hh v5hh v6hh v7hh), (cO8_iiri yhn 1 6 yhnc yhnn), (cAI g yhnc 6 yhnf), (cO7_vvrvii hs v0hs v1hs zw v3hs zmd ztr), (cO8_iiri zw 6 3 zwc zwn), (cAI g zwc 18 zwf)] [0] [1, 2, 3, 4, 5, 6] (n_draw l g h0 nr u_2 xmostSlip xslip xisDrawn u_3 xtick xmotorTick xahead) dX5_snapWeakPlaces_46 mw791 mw792 mw793 mw31 mw794 rfl 5 rfl rfl 0 _ rfl yk_yX5_draw_0 rfl (Nat.le_of_ble_eq_true rfl) (Nat.le_of_ble_eq_true rfl) (Nat.le_of_ble_eq_true rfl) (Nat.le_of_ble_eq_true rfl) (Nat.le_of_ble_eq_true rfl) rfl rfl (by decide) rfl (by decide) (by decide) ?_
          rintro r_18 w ⟨xseed2_17, rfl⟩
          refine k_ws [(cO3_vrvvvvvv hh v0hh yhn v2hh v3hh v4hh v5hh v6hh v7hh), (cO8_iiri yhn 1 6 yhnc yhnn), (cAI g yhnc 6 yhnf), (cO7_vvrvii hs v0hs v1hs zw v3hs zmd ztr), (cO8_iiri zw 6 3 zwc zwn), (cAI g zwc 18 zwf), (cO5_riiiiiiii h0 nr u_2 xmostSlip xslip xisDrawn xseed2_17 xtick xmotorTick xahead)] rfl ?_
          refine k_bipush (v := 100) X dX5_snapWeakPlaces_49 (by decide) ?_
          refine k_irem X dX5_snapWeakPlaces_51 (by decide) ?_
          refine k_nm (fun z_20 ez_20 => ?_)
          refine k_aload_n X dX5_snapWeakPlaces_52 3 rfl ?_
          refine k_get (ci := 7) X inlX7 rfl 2 (by decide) dX5_snapWeakPlaces_53 mw801 3 rfl rfl ?_
          refine k_iload X dX5_snapWeakPlaces_56 0 rfl ?_
          refine k_iconst (v := 2) X dX5_snapWeakPlaces_58 (by decide) ?_
          refine k_callVI (n := 2) (As := [.int u_1, .int 2]) (st := [.int z_20]) X [(cO8_iiri zw 6 3 zwc zwn), (cAI g zwc 18 zwf)] [(cO3_vrvvvvvv hh v0hh yhn v2hh v3hh v4hh v5hh v6hh v7hh), (cO8_iiri yhn 1 6 yhnc yhnn), (cAI g yhnc 6 yhnf), (cO7_vvrvii hs v0hs v1hs zw v3hs zmd ztr), (cO5_riiiiiiii h0 nr u_2 xmostSlip xslip xisDrawn xseed2_17 xtick xmotorTick xahead)] [4, 5] [0, 1, 2, 3, 6] (t_at l g zw u_1 2 6 3 zwc zwn 18 zwf (tbk_6_3)) dX5_snapWeakPlaces_59 mw757 mw376 mw377 mw64 mw378 rfl 8 rfl rfl 0 _ rfl yk_yX8_at_2 rfl (Nat.le_of_ble_eq_true rfl) (Nat.le_of_ble_eq_true rfl) (Nat.le_of_ble_eq_true rfl) (Nat.le_of_ble_eq_true rfl) (Nat.le_of_ble_eq_true rfl) rfl rfl (by decide) rfl (by decide) (by decide) ?_
          rintro r_21 w ⟨hr_22, rfl⟩
          refine k_ws [(cO3_vrvvvvvv hh v0hh yhn v2hh v3hh v4hh v5hh v6hh v7hh), (cO8_iiri yhn 1 6 yhnc yhnn), (cAI g yhnc 6 yhnf), (cO7_vvrvii hs v0hs v1hs zw v3hs zmd ztr), (cO5_riiiiiiii h0 nr u_2 xmostSlip xslip xisDrawn xseed2_17 xtick xmotorTick xahead), (cO8_iiri zw 6 3 zwc zwn), (cAI g zwc 18 zwf)] rfl ?_
          refine k_ic_ge 79 X dX5_snapWeakPlaces_62 (by decide) (fun h_23 => ?_) (fun h_23 => ?_)
          · skip
            obtain ⟨z_24, ez_24⟩ : ∃ y : Int32, u_1 + Int32.ofInt 1 = y := ⟨_, rfl⟩
            refine k_iinc z_24 [(4, .int z_24), (0, .ref h0), (1, .ref hh), (2, .ref hs), (3, .int p0)] 0 X dX5_snapWeakPlaces_79 rfl ez_24 (by decide) rfl ?_
            refine k_goto 3 X dX5_snapWeakPlaces_82 (by decide) ?_
            refine k_sub [(cO5_riiiiiiii h0 nr u_2 xmostSlip xslip xisDrawn xseed2_17 xtick xmotorTick xahead), (cO3_vrvvvvvv hh v0hh yhn v2hh v3hh v4hh v5hh v6hh v7hh), (cO8_iiri yhn 1 6 yhnc yhnn), (cAI g yhnc 6 yhnf), (cO7_vvrvii hs v0hs v1hs zw v3hs zmd ztr), (cO8_iiri zw 6 3 zwc zwn), (cAI g zwc 18 zwf)] [4, 0, 1, 2, 3, 5, 6] rfl (by decide) rfl ?_
            exact ih_6 _ (by rw [← hm_5]; exact mu_lt (by assumption) (by assumption)) z_24 u_2 xseed2_17 rfl 
          · skip
            refine k_aload_n X dX5_snapWeakPlaces_65 1 rfl ?_
            refine k_dup X dX5_snapWeakPlaces_66 rfl ?_
            refine k_get (ci := 5) X inlX5 rfl 1 (by decide) dX5_snapWeakPlaces_67 mw126 4 rfl rfl ?_
            refine k_aload_n X dX5_snapWeakPlaces_70 2 rfl ?_
            refine k_iconst (v := 5) X dX5_snapWeakPlaces_71 (by decide) ?_
            refine k_callVI (n := 1) (As := [.int 5]) (st := [.int u_2, .ref h0]) X [(cO3_vrvvvvvv hh v0hh yhn v2hh v3hh v4hh v5hh v6hh v7hh), (cO8_iiri yhn 1 6 yhnc yhnn), (cAI g yhnc 6 yhnf)] [(cO7_vvrvii hs v0hs v1hs zw v3hs zmd ztr), (cO5_riiiiiiii h0 nr u_2 xmostSlip xslip xisDrawn xseed2_17 xtick xmotorTick xahead), (cO8_iiri zw 6 3 zwc zwn), (cAI g zwc 18 zwf)] [0, 1, 2] [3, 4, 5, 6] (h_number l g hh 5 v0hh yhn v2hh v3hh v4hh v5hh v6hh v7hh yhnc yhnn yhnf) dX5_snapWeakPlaces_72 mw796 mw415 mw416 mw19 mw417 rfl 3 rfl rfl 0 _ rfl yk_yX3_number_1 rfl (Nat.le_of_ble_eq_true rfl) (Nat.le_of_ble_eq_true rfl) (Nat.le_of_ble_eq_true rfl) (Nat.le_of_ble_eq_true rfl) (Nat.le_of_ble_eq_true rfl) rfl rfl (by decide) rfl (by decide) (by decide) ?_
            rintro r_25 w rfl
            refine k_ws [(cO7_vvrvii hs v0hs v1hs zw v3hs zmd ztr), (cO5_riiiiiiii h0 nr u_2 xmostSlip xslip xisDrawn xseed2_17 xtick xmotorTick xahead), (cO8_iiri zw 6 3 zwc zwn), (cAI g zwc 18 zwf), (cO3_vrvvvvvv hh v0hh yhn v2hh v3hh v4hh v5hh v6hh v7hh), (cO8_iiri yhn 1 6 yhnc yhnn), (cAI g yhnc 6 yhnf)] rfl ?_
            refine k_iadd X dX5_snapWeakPlaces_75 ?_
            refine k_nm (fun z_27 ez_27 => ?_)
            refine k_put (ci := 5) [(cO7_vvrvii hs v0hs v1hs zw v3hs zmd ztr), (cO5_riiiiiiii h0 nr z_27 xmostSlip xslip xisDrawn xseed2_17 xtick xmotorTick xahead), (cO8_iiri zw 6 3 zwc zwn), (cAI g zwc 18 zwf), (cO3_vrvvvvvv hh v0hh yhn v2hh v3hh v4hh v5hh v6hh v7hh), (cO8_iiri yhn 1 6 yhnc yhnn), (cAI g yhnc 6 yhnf)] X inlX5 rfl tyX5_ok nmX5 1 (by decide) rfl dX5_snapWeakPlaces_76 mw126 1 rfl rfl rfl (Nat.le_of_ble_eq_true rfl) rfl ?_
            obtain ⟨z_28, ez_28⟩ : ∃ y : Int32, u_1 + Int32.ofInt 1 = y := ⟨_, rfl⟩
            refine k_iinc z_28 [(4, .int z_28), (0, .ref h0), (1, .ref hh), (2, .ref hs), (3, .int p0)] 0 X dX5_snapWeakPlaces_79 rfl ez_28 (by decide) rfl ?_
            refine k_goto 3 X dX5_snapWeakPlaces_82 (by decide) ?_
            refine k_sub [(cO5_riiiiiiii h0 nr z_27 xmostSlip xslip xisDrawn xseed2_17 xtick xmotorTick xahead), (cO3_vrvvvvvv hh v0hh yhn v2hh v3hh v4hh v5hh v6hh v7hh), (cO8_iiri yhn 1 6 yhnc yhnn), (cAI g yhnc 6 yhnf), (cO7_vvrvii hs v0hs v1hs zw v3hs zmd ztr), (cO8_iiri zw 6 3 zwc zwn), (cAI g zwc 18 zwf)] [1, 4, 5, 6, 0, 2, 3] rfl (by decide) rfl ?_
            exact ih_6 _ (by rw [← hm_5]; exact mu_lt (by assumption) (by assumption)) z_28 z_27 xseed2_17 rfl 

theorem dX5_run_0 : decode cX5_run 0 = .ok (.aload_n 0, 1) := dk_42 rfl
theorem dX5_run_1 : decode cX5_run 1 = .ok (.iconst 0, 1) := dk_3 rfl
theorem dX5_run_2 : decode cX5_run 2 = .ok (.putfield 20, 3) := dk_181 rfl rfl rfl rfl
theorem dX5_run_5 : decode cX5_run 5 = .ok (.aload_n 0, 1) := dk_42 rfl
theorem dX5_run_6 : decode cX5_run 6 = .ok (.iconst 0, 1) := dk_3 rfl
theorem dX5_run_7 : decode cX5_run 7 = .ok (.putfield 37, 3) := dk_181 rfl rfl rfl rfl
theorem dX5_run_10 : decode cX5_run 10 = .ok (.aload_n 0, 1) := dk_42 rfl
theorem dX5_run_11 : decode cX5_run 11 = .ok (.iconst 0, 1) := dk_3 rfl
theorem dX5_run_12 : decode cX5_run 12 = .ok (.putfield 40, 3) := dk_181 rfl rfl rfl rfl
theorem dX5_run_15 : decode cX5_run 15 = .ok (.aload_n 0, 1) := dk_42 rfl
theorem dX5_run_16 : decode cX5_run 16 = .ok (.iconst 0, 1) := dk_3 rfl
theorem dX5_run_17 : decode cX5_run 17 = .ok (.putfield 43, 3) := dk_181 rfl rfl rfl rfl
theorem dX5_run_20 : decode cX5_run 20 = .ok (.iconst 0, 1) := dk_3 rfl
theorem dX5_run_21 : decode cX5_run 21 = .ok (.istore_n 3, 1) := dk_62 rfl
theorem dX5_run_22 : decode cX5_run 22 = .ok (.iload_n 3, 1) := dk_29 rfl
theorem dX5_run_23 : decode cX5_run 23 = .ok (.aload_n 0, 1) := dk_42 rfl
theorem dX5_run_24 : decode cX5_run 24 = .ok (.getfield 14, 3) := dk_180 rfl rfl rfl rfl
theorem dX5_run_27 : decode cX5_run 27 = .ok (.getfield 51, 3) := dk_180 rfl rfl rfl rfl
theorem dX5_run_30 : decode cX5_run 30 = .ok (.if_icmp .ge 77, 3) := dk_162 rfl rfl rfl (by decide)
theorem dX5_run_33 : decode cX5_run 33 = .ok (.aload_n 0, 1) := dk_42 rfl
theorem dX5_run_34 : decode cX5_run 34 = .ok (.getfield 14, 3) := dk_180 rfl rfl rfl rfl
theorem dX5_run_37 : decode cX5_run 37 = .ok (.iload_n 3, 1) := dk_29 rfl
theorem dX5_run_38 : decode cX5_run 38 = .ok (.bipush 8, 2) := dk_16 rfl rfl (by decide)
theorem dX5_run_40 : decode cX5_run 40 = .ok (.aload_n 0, 1) := dk_42 rfl
theorem dX5_run_41 : decode cX5_run 41 = .ok (.getfield 40, 3) := dk_180 rfl rfl rfl rfl
theorem dX5_run_44 : decode cX5_run 44 = .ok (.invokevirtual 76, 3) := dk_182 rfl rfl rfl rfl
theorem dX5_run_47 : decode cX5_run 47 = .ok (.aload_n 2, 1) := dk_44 rfl
theorem dX5_run_48 : decode cX5_run 48 = .ok (.getfield 80, 3) := dk_180 rfl rfl rfl rfl
theorem dX5_run_51 : decode cX5_run 51 = .ok (.aload_n 2, 1) := dk_44 rfl
theorem dX5_run_52 : decode cX5_run 52 = .ok (.iload_n 3, 1) := dk_29 rfl
theorem dX5_run_53 : decode cX5_run 53 = .ok (.invokevirtual 68, 3) := dk_182 rfl rfl rfl rfl
theorem dX5_run_56 : decode cX5_run 56 = .ok (.iconst 0, 1) := dk_3 rfl
theorem dX5_run_57 : decode cX5_run 57 = .ok (.invokevirtual 59, 3) := dk_182 rfl rfl rfl rfl
theorem dX5_run_60 : decode cX5_run 60 = .ok (.istore 4, 2) := dk_54 rfl rfl rfl
theorem dX5_run_62 : decode cX5_run 62 = .ok (.aload_n 0, 1) := dk_42 rfl
theorem dX5_run_63 : decode cX5_run 63 = .ok (.getfield 43, 3) := dk_180 rfl rfl rfl rfl
theorem dX5_run_66 : decode cX5_run 66 = .ok (.iload 4, 2) := dk_21 rfl rfl rfl
theorem dX5_run_68 : decode cX5_run 68 = .ok (.if_icmp .lt 13, 3) := dk_161 rfl rfl rfl (by decide)
theorem dX5_run_71 : decode cX5_run 71 = .ok (.aload_n 0, 1) := dk_42 rfl
theorem dX5_run_72 : decode cX5_run 72 = .ok (.iload_n 3, 1) := dk_29 rfl
theorem dX5_run_73 : decode cX5_run 73 = .ok (.iload 4, 2) := dk_21 rfl rfl rfl
theorem dX5_run_75 : decode cX5_run 75 = .ok (.invokevirtual 83, 3) := dk_182 rfl rfl rfl rfl
theorem dX5_run_78 : decode cX5_run 78 = .ok (.goto 23, 3) := dk_167 rfl rfl rfl (by decide)
theorem dX5_run_81 : decode cX5_run 81 = .ok (.aload_n 0, 1) := dk_42 rfl
theorem dX5_run_82 : decode cX5_run 82 = .ok (.aload_n 1, 1) := dk_43 rfl
theorem dX5_run_83 : decode cX5_run 83 = .ok (.aload_n 2, 1) := dk_44 rfl
theorem dX5_run_84 : decode cX5_run 84 = .ok (.iload_n 3, 1) := dk_29 rfl
theorem dX5_run_85 : decode cX5_run 85 = .ok (.iload 4, 2) := dk_21 rfl rfl rfl
theorem dX5_run_87 : decode cX5_run 87 = .ok (.invokevirtual 86, 3) := dk_182 rfl rfl rfl rfl
theorem dX5_run_90 : decode cX5_run 90 = .ok (.aload_n 0, 1) := dk_42 rfl
theorem dX5_run_91 : decode cX5_run 91 = .ok (.aload_n 1, 1) := dk_43 rfl
theorem dX5_run_92 : decode cX5_run 92 = .ok (.aload_n 2, 1) := dk_44 rfl
theorem dX5_run_93 : decode cX5_run 93 = .ok (.aload_n 2, 1) := dk_44 rfl
theorem dX5_run_94 : decode cX5_run 94 = .ok (.iload_n 3, 1) := dk_29 rfl
theorem dX5_run_95 : decode cX5_run 95 = .ok (.invokevirtual 68, 3) := dk_182 rfl rfl rfl rfl
theorem dX5_run_98 : decode cX5_run 98 = .ok (.invokevirtual 90, 3) := by decide +kernel
theorem dX5_run_101 : decode cX5_run 101 = .ok (.iinc 3 1, 3) := by decide +kernel
theorem dX5_run_104 : decode cX5_run 104 = .ok (.goto (-82), 3) := by decide +kernel
theorem dX5_run_107 : decode cX5_run 107 = .ok (.return_, 1) := by decide +kernel
set_option maxHeartbeats 4000000 in
set_option maxRecDepth 100000 in
theorem n_run (l : Launch) (g : Gx) (h0 : Nat) (hh : Nat) (hs : Nat) (nr : Nat) (xsnapped : Int32) (xmostSlip : Int32) (xslip : Int32) (xisDrawn : Int32) (xseed : Int32) (xtick : Int32) (xmotorTick : Int32) (xahead : Int32) (nrc : Nat) (nrn : Int32) (nrf : Nat → Int32) (v0hh : Value) (yhn : Nat) (v2hh : Value) (v3hh : Value) (v4hh : Value) (v5hh : Value) (v6hh : Value) (v7hh : Value) (yhnc : Nat) (yhnn : Int32) (yhnf : Nat → Int32) (zr : Nat) (v1hs : Value) (zw : Nat) (zp : Nat) (zmd : Int32) (ztr : Int32) (zrc : Nat) (zrn : Int32) (zrf : Nat → Int32) (zpc : Nat) (zpn : Int32) (zpf : Nat → Int32) (zwc : Nat) (zwn : Int32) (zwf : Nat → Int32) (hms : ¬ xmostSlip < 0) : cV l g yX5_run cX5_run 5 3 73 0 0 [.ref h0, .ref hh, .ref hs] [(cO5_riiiiiiii h0 nr xsnapped xmostSlip xslip xisDrawn xseed xtick xmotorTick xahead), (cO8_iiri nr 8 10 nrc nrn), (cAI g nrc 80 nrf), (cO3_vrvvvvvv hh v0hh yhn v2hh v3hh v4hh v5hh v6hh v7hh), (cO8_iiri yhn 1 6 yhnc yhnn), (cAI g yhnc 6 yhnf), (cO7_rvrrii hs zr v1hs zw zp zmd ztr), (cO8_iiri zr 8 3 zrc zrn), (cAI g zrc 24 zrf), (cO8_iiri zp 8 2 zpc zpn), (cAI g zpc 16 zpf), (cO8_iiri zw 6 3 zwc zwn), (cAI g zwc 18 zwf)] (fun w => ∃ (xsnapped2 : Int32) (xseed2 : Int32) (xtick2 : Int32) (xmotorTick2 : Int32) (xahead2 : Int32) (nrg : Nat → Int32), w = [(cO5_riiiiiiii h0 nr xsnapped2 xmostSlip xslip xisDrawn xseed2 xtick2 xmotorTick2 xahead2), (cO8_iiri nr 8 10 nrc nrn), (cAI g nrc 80 nrg), (cO3_vrvvvvvv hh v0hh yhn v2hh v3hh v4hh v5hh v6hh v7hh), (cO8_iiri yhn 1 6 yhnc yhnn), (cAI g yhnc 6 yhnf), (cO7_rvrrii hs zr v1hs zw zp zmd ztr), (cO8_iiri zr 8 3 zrc zrn), (cAI g zrc 24 zrf), (cO8_iiri zp 8 2 zpc zpn), (cAI g zpc 16 zpf), (cO8_iiri zw 6 3 zwc zwn), (cAI g zwc 18 zwf)]) := by
  refine cV.of (by decide) (Nat.le_of_ble_eq_true rfl) ?_
  intro p e s m args below meth c A X hr hi
  refine k_lveq [(0, .ref h0), (1, .ref hh), (2, .ref hs)] rfl ?_
  refine k_aload_n X dX5_run_0 0 rfl ?_
  refine k_iconst (v := 0) X dX5_run_1 (by decide) ?_
  refine k_put (ci := 5) [(cO5_riiiiiiii h0 nr 0 xmostSlip xslip xisDrawn xseed xtick xmotorTick xahead), (cO8_iiri nr 8 10 nrc nrn), (cAI g nrc 80 nrf), (cO3_vrvvvvvv hh v0hh yhn v2hh v3hh v4hh v5hh v6hh v7hh), (cO8_iiri yhn 1 6 yhnc yhnn), (cAI g yhnc 6 yhnf), (cO7_rvrrii hs zr v1hs zw zp zmd ztr), (cO8_iiri zr 8 3 zrc zrn), (cAI g zrc 24 zrf), (cO8_iiri zp 8 2 zpc zpn), (cAI g zpc 16 zpf), (cO8_iiri zw 6 3 zwc zwn), (cAI g zwc 18 zwf)] X inlX5 rfl tyX5_ok nmX5 1 (by decide) rfl dX5_run_2 mw126 0 rfl rfl rfl (Nat.le_of_ble_eq_true rfl) rfl ?_
  refine k_aload_n X dX5_run_5 0 rfl ?_
  refine k_iconst (v := 0) X dX5_run_6 (by decide) ?_
  refine k_put (ci := 5) [(cO5_riiiiiiii h0 nr 0 xmostSlip xslip xisDrawn xseed 0 xmotorTick xahead), (cO8_iiri nr 8 10 nrc nrn), (cAI g nrc 80 nrf), (cO3_vrvvvvvv hh v0hh yhn v2hh v3hh v4hh v5hh v6hh v7hh), (cO8_iiri yhn 1 6 yhnc yhnn), (cAI g yhnc 6 yhnf), (cO7_rvrrii hs zr v1hs zw zp zmd ztr), (cO8_iiri zr 8 3 zrc zrn), (cAI g zrc 24 zrf), (cO8_iiri zp 8 2 zpc zpn), (cAI g zpc 16 zpf), (cO8_iiri zw 6 3 zwc zwn), (cAI g zwc 18 zwf)] X inlX5 rfl tyX5_ok nmX5 6 (by decide) rfl dX5_run_7 mw131 0 rfl rfl rfl (Nat.le_of_ble_eq_true rfl) rfl ?_
  refine k_aload_n X dX5_run_10 0 rfl ?_
  refine k_iconst (v := 0) X dX5_run_11 (by decide) ?_
  refine k_put (ci := 5) [(cO5_riiiiiiii h0 nr 0 xmostSlip xslip xisDrawn xseed 0 0 xahead), (cO8_iiri nr 8 10 nrc nrn), (cAI g nrc 80 nrf), (cO3_vrvvvvvv hh v0hh yhn v2hh v3hh v4hh v5hh v6hh v7hh), (cO8_iiri yhn 1 6 yhnc yhnn), (cAI g yhnc 6 yhnf), (cO7_rvrrii hs zr v1hs zw zp zmd ztr), (cO8_iiri zr 8 3 zrc zrn), (cAI g zrc 24 zrf), (cO8_iiri zp 8 2 zpc zpn), (cAI g zpc 16 zpf), (cO8_iiri zw 6 3 zwc zwn), (cAI g zwc 18 zwf)] X inlX5 rfl tyX5_ok nmX5 7 (by decide) rfl dX5_run_12 mw132 0 rfl rfl rfl (Nat.le_of_ble_eq_true rfl) rfl ?_
  refine k_aload_n X dX5_run_15 0 rfl ?_
  refine k_iconst (v := 0) X dX5_run_16 (by decide) ?_
  refine k_put (ci := 5) [(cO5_riiiiiiii h0 nr 0 xmostSlip xslip xisDrawn xseed 0 0 0), (cO8_iiri nr 8 10 nrc nrn), (cAI g nrc 80 nrf), (cO3_vrvvvvvv hh v0hh yhn v2hh v3hh v4hh v5hh v6hh v7hh), (cO8_iiri yhn 1 6 yhnc yhnn), (cAI g yhnc 6 yhnf), (cO7_rvrrii hs zr v1hs zw zp zmd ztr), (cO8_iiri zr 8 3 zrc zrn), (cAI g zrc 24 zrf), (cO8_iiri zp 8 2 zpc zpn), (cAI g zpc 16 zpf), (cO8_iiri zw 6 3 zwc zwn), (cAI g zwc 18 zwf)] X inlX5 rfl tyX5_ok nmX5 8 (by decide) rfl dX5_run_17 mw133 0 rfl rfl rfl (Nat.le_of_ble_eq_true rfl) rfl ?_
  refine k_iconst (v := 0) X dX5_run_20 (by decide) ?_
  refine k_istore_n [(3, .int 0), (0, .ref h0), (1, .ref hh), (2, .ref hs)] X dX5_run_21 (by decide) rfl ?_
  refine (fun hL : ∀ (nn_8 : Nat) (u_1 : Int32) (uf_2 : Nat → Int32) (u_3 : Int32) (u_4 : Int32) (u_5 : Int32) (u_6 : Int32) (u_7 : Int32), (nrn.toInt - u_1.toInt).toNat = nn_8 → Wk p l e _ s m args below meth c _ A g _ _ _ [(cO5_riiiiiiii h0 nr u_3 xmostSlip xslip xisDrawn u_4 u_5 u_6 u_7), (cO8_iiri nr 8 10 nrc nrn), (cAI g nrc 80 uf_2), (cO3_vrvvvvvv hh v0hh yhn v2hh v3hh v4hh v5hh v6hh v7hh), (cO8_iiri yhn 1 6 yhnc yhnn), (cAI g yhnc 6 yhnf), (cO7_rvrrii hs zr v1hs zw zp zmd ztr), (cO8_iiri zr 8 3 zrc zrn), (cAI g zrc 24 zrf), (cO8_iiri zp 8 2 zpc zpn), (cAI g zpc 16 zpf), (cO8_iiri zw 6 3 zwc zwn), (cAI g zwc 18 zwf)] [(3, .int u_1), (0, .ref h0), (1, .ref hh), (2, .ref hs)] 22 [] => hL _ 0 nrf 0 xseed 0 0 0 rfl ) ?_
  refine fun nn_8 => Nat.strongRecOn nn_8 (fun nn_8 ih_10 => ?_)
  intro u_1 uf_2 u_3 u_4 u_5 u_6 u_7 hm_9 
  refine k_iload_n X dX5_run_22 0 rfl ?_
  refine k_aload_n X dX5_run_23 1 rfl ?_
  refine k_get (ci := 5) X inlX5 rfl 0 (by decide) dX5_run_24 mw125 0 rfl rfl ?_
  refine k_get (ci := 8) X inlX8 rfl 3 (by decide) dX5_run_27 mw754 1 rfl rfl ?_
  refine k_ic_ge 107 X dX5_run_30 (by decide) (fun h_11 => ?_) (fun h_11 => ?_)
  · skip
    exact k_vret X hr dX5_run_107 (Nat.le_of_ble_eq_true rfl) (Nat.le_of_ble_eq_true rfl) [0, 1, 2, 3, 4, 5, 6, 7, 8, 9, 10, 11, 12] (by decide) rfl rfl ⟨u_3, u_4, u_5, u_6, u_7, uf_2, rfl⟩
  · skip
    refine k_aload_n X dX5_run_33 1 rfl ?_
    refine k_get (ci := 5) X inlX5 rfl 0 (by decide) dX5_run_34 mw125 0 rfl rfl ?_
    refine k_iload_n X dX5_run_37 0 rfl ?_
    refine k_bipush (v := 8) X dX5_run_38 (by decide) ?_
    refine k_aload_n X dX5_run_40 1 rfl ?_
    refine k_get (ci := 5) X inlX5 rfl 7 (by decide) dX5_run_41 mw132 0 rfl rfl ?_
    refine k_callVV (n := 3) (As := [.int u_1, .int 8, .int u_6]) (st := []) X [(cO8_iiri nr 8 10 nrc nrn), (cAI g nrc 80 uf_2)] [(cO5_riiiiiiii h0 nr u_3 xmostSlip xslip xisDrawn u_4 u_5 u_6 u_7), (cO3_vrvvvvvv hh v0hh yhn v2hh v3hh v4hh v5hh v6hh v7hh), (cO8_iiri yhn 1 6 yhnc yhnn), (cAI g yhnc 6 yhnf), (cO7_rvrrii hs zr v1hs zw zp zmd ztr), (cO8_iiri zr 8 3 zrc zrn), (cAI g zrc 24 zrf), (cO8_iiri zp 8 2 zpc zpn), (cAI g zpc 16 zpf), (cO8_iiri zw 6 3 zwc zwn), (cAI g zwc 18 zwf)] [1, 2] [0, 3, 4, 5, 6, 7, 8, 9, 10, 11, 12] (t_put l g nr u_1 8 u_6 8 10 nrc nrn 80 uf_2 (tbk_8_10)) dX5_run_44 mw766 mw326 mw327 mw64 mw328 rfl 8 rfl rfl 0 _ rfl yk_yX8_put_3 rfl (Nat.le_of_ble_eq_true rfl) (Nat.le_of_ble_eq_true rfl) (Nat.le_of_ble_eq_true rfl) (Nat.le_of_ble_eq_true rfl) (Nat.le_of_ble_eq_true rfl) rfl rfl (by decide +kernel) rfl (by decide +kernel) (by decide +kernel) ?_
    rintro w ⟨fa_12, hr_14, rfl⟩
    refine k_ws [(cO5_riiiiiiii h0 nr u_3 xmostSlip xslip xisDrawn u_4 u_5 u_6 u_7), (cO3_vrvvvvvv hh v0hh yhn v2hh v3hh v4hh v5hh v6hh v7hh), (cO8_iiri yhn 1 6 yhnc yhnn), (cAI g yhnc 6 yhnf), (cO7_rvrrii hs zr v1hs zw zp zmd ztr), (cO8_iiri zr 8 3 zrc zrn), (cAI g zrc 24 zrf), (cO8_iiri zp 8 2 zpc zpn), (cAI g zpc 16 zpf), (cO8_iiri zw 6 3 zwc zwn), (cAI g zwc 18 zwf), (cO8_iiri nr 8 10 nrc nrn), (cAI g nrc 80 fa_12)] rfl ?_
    refine k_aload_n X dX5_run_47 3 rfl ?_
    refine k_get (ci := 7) X inlX7 rfl 0 (by decide) dX5_run_48 mw775 4 rfl rfl ?_
    refine k_aload_n X dX5_run_51 3 rfl ?_
    refine k_iload_n X dX5_run_52 0 rfl ?_
    refine k_callVI (n := 1) (As := [.int u_1]) (st := [.ref zr]) X [(cO7_rvrrii hs zr v1hs zw zp zmd ztr), (cO8_iiri zp 8 2 zpc zpn), (cAI g zpc 16 zpf)] [(cO5_riiiiiiii h0 nr u_3 xmostSlip xslip xisDrawn u_4 u_5 u_6 u_7), (cO3_vrvvvvvv hh v0hh yhn v2hh v3hh v4hh v5hh v6hh v7hh), (cO8_iiri yhn 1 6 yhnc yhnn), (cAI g yhnc 6 yhnf), (cO8_iiri zr 8 3 zrc zrn), (cAI g zrc 24 zrf), (cO8_iiri zw 6 3 zwc zwn), (cAI g zwc 18 zwf), (cO8_iiri nr 8 10 nrc nrn), (cAI g nrc 80 fa_12)] [4, 7, 8] [0, 1, 2, 3, 5, 6, 9, 10, 11, 12] (s_reelAt l g hs u_1 (.ref zr) v1hs (.ref zw) zp zmd ztr zpc zpn zpf) dX5_run_53 mw758 mw759 mw760 mw23 mw761 rfl 7 rfl rfl 0 _ rfl yk_yX7_reelAt_1 rfl (Nat.le_of_ble_eq_true rfl) (Nat.le_of_ble_eq_true rfl) (Nat.le_of_ble_eq_true rfl) (Nat.le_of_ble_eq_true rfl) (Nat.le_of_ble_eq_true rfl) rfl rfl (by decide +kernel) rfl (by decide +kernel) (by decide +kernel) ?_
    rintro r_15 w rfl
    refine k_ws [(cO5_riiiiiiii h0 nr u_3 xmostSlip xslip xisDrawn u_4 u_5 u_6 u_7), (cO3_vrvvvvvv hh v0hh yhn v2hh v3hh v4hh v5hh v6hh v7hh), (cO8_iiri yhn 1 6 yhnc yhnn), (cAI g yhnc 6 yhnf), (cO8_iiri zr 8 3 zrc zrn), (cAI g zrc 24 zrf), (cO8_iiri zw 6 3 zwc zwn), (cAI g zwc 18 zwf), (cO8_iiri nr 8 10 nrc nrn), (cAI g nrc 80 fa_12), (cO7_rvrrii hs zr v1hs zw zp zmd ztr), (cO8_iiri zp 8 2 zpc zpn), (cAI g zpc 16 zpf)] rfl ?_
    refine k_iconst (v := 0) X dX5_run_56 (by decide) ?_
    refine k_callVI (n := 2) (As := [.int r_15, .int 0]) (st := []) X [(cO8_iiri zr 8 3 zrc zrn), (cAI g zrc 24 zrf)] [(cO5_riiiiiiii h0 nr u_3 xmostSlip xslip xisDrawn u_4 u_5 u_6 u_7), (cO3_vrvvvvvv hh v0hh yhn v2hh v3hh v4hh v5hh v6hh v7hh), (cO8_iiri yhn 1 6 yhnc yhnn), (cAI g yhnc 6 yhnf), (cO8_iiri zw 6 3 zwc zwn), (cAI g zwc 18 zwf), (cO8_iiri nr 8 10 nrc nrn), (cAI g nrc 80 fa_12), (cO7_rvrrii hs zr v1hs zw zp zmd ztr), (cO8_iiri zp 8 2 zpc zpn), (cAI g zpc 16 zpf)] [4, 5] [0, 1, 2, 3, 6, 7, 8, 9, 10, 11, 12] (t_at l g zr r_15 0 8 3 zrc zrn 24 zrf (tbk_8_3)) dX5_run_57 mw757 mw376 mw377 mw64 mw378 rfl 8 rfl rfl 0 _ rfl yk_yX8_at_2 rfl (Nat.le_of_ble_eq_true rfl) (Nat.le_of_ble_eq_true rfl) (Nat.le_of_ble_eq_true rfl) (Nat.le_of_ble_eq_true rfl) (Nat.le_of_ble_eq_true rfl) rfl rfl (by decide +kernel) rfl (by decide +kernel) (by decide +kernel) ?_
    rintro r_17 w ⟨hr_18, rfl⟩
    refine k_ws [(cO5_riiiiiiii h0 nr u_3 xmostSlip xslip xisDrawn u_4 u_5 u_6 u_7), (cO3_vrvvvvvv hh v0hh yhn v2hh v3hh v4hh v5hh v6hh v7hh), (cO8_iiri yhn 1 6 yhnc yhnn), (cAI g yhnc 6 yhnf), (cO8_iiri zw 6 3 zwc zwn), (cAI g zwc 18 zwf), (cO8_iiri nr 8 10 nrc nrn), (cAI g nrc 80 fa_12), (cO7_rvrrii hs zr v1hs zw zp zmd ztr), (cO8_iiri zp 8 2 zpc zpn), (cAI g zpc 16 zpf), (cO8_iiri zr 8 3 zrc zrn), (cAI g zrc 24 zrf)] rfl ?_
    refine k_istore [(4, .int r_17), (3, .int u_1), (0, .ref h0), (1, .ref hh), (2, .ref hs)] X dX5_run_60 (by decide) rfl ?_
    refine k_aload_n X dX5_run_62 2 rfl ?_
    refine k_get (ci := 5) X inlX5 rfl 8 (by decide) dX5_run_63 mw133 0 rfl rfl ?_
    refine k_iload X dX5_run_66 0 rfl ?_
    refine k_ic_lt 81 X dX5_run_68 (by decide) (fun h_19 => ?_) (fun h_19 => ?_)
    · skip
      refine k_aload_n X dX5_run_81 2 rfl ?_
      refine k_aload_n X dX5_run_82 3 rfl ?_
      refine k_aload_n X dX5_run_83 4 rfl ?_
      refine k_iload_n X dX5_run_84 1 rfl ?_
      refine k_iload X dX5_run_85 0 rfl ?_
      refine k_callVV (n := 4) (As := [.ref hh, .ref hs, .int u_1, .int r_17]) (st := []) X [(cO5_riiiiiiii h0 nr u_3 xmostSlip xslip xisDrawn u_4 u_5 u_6 u_7), (cO8_iiri nr 8 10 nrc nrn), (cAI g nrc 80 fa_12), (cO3_vrvvvvvv hh v0hh yhn v2hh v3hh v4hh v5hh v6hh v7hh), (cO8_iiri yhn 1 6 yhnc yhnn), (cAI g yhnc 6 yhnf), (cO7_rvrrii hs zr v1hs zw zp zmd ztr), (cO8_iiri zp 8 2 zpc zpn), (cAI g zpc 16 zpf)] [(cO8_iiri zw 6 3 zwc zwn), (cAI g zwc 18 zwf), (cO8_iiri zr 8 3 zrc zrn), (cAI g zrc 24 zrf)] [0, 6, 7, 1, 2, 3, 8, 9, 10] [4, 5, 11, 12] (n_showReel l g h0 hh hs u_1 r_17 nr u_3 xmostSlip xslip xisDrawn u_4 u_5 u_6 u_7 nrc nrn fa_12 v0hh yhn v2hh v3hh v4hh v5hh v6hh v7hh yhnc yhnn yhnf (.ref zr) v1hs (.ref zw) zp zmd ztr zpc zpn zpf (by assumption)) dX5_run_87 mw780 mw781 mw782 mw31 mw783 rfl 5 rfl rfl 0 _ rfl yk_yX5_showReel_4 rfl (Nat.le_of_ble_eq_true rfl) (Nat.le_of_ble_eq_true rfl) (Nat.le_of_ble_eq_true rfl) (Nat.le_of_ble_eq_true rfl) (Nat.le_of_ble_eq_true rfl) rfl rfl (by decide +kernel) rfl (by decide +kernel) (by decide +kernel) ?_
      rintro w ⟨xseed2_20, xtick2_21, xmotorTick2_22, xahead2_23, nrg_24, rfl⟩
      refine k_ws [(cO8_iiri zw 6 3 zwc zwn), (cAI g zwc 18 zwf), (cO8_iiri zr 8 3 zrc zrn), (cAI g zrc 24 zrf), (cO5_riiiiiiii h0 nr u_3 xmostSlip xslip xisDrawn xseed2_20 xtick2_21 xmotorTick2_22 xahead2_23), (cO8_iiri nr 8 10 nrc nrn), (cAI g nrc 80 nrg_24), (cO3_vrvvvvvv hh v0hh yhn v2hh v3hh v4hh v5hh v6hh v7hh), (cO8_iiri yhn 1 6 yhnc yhnn), (cAI g yhnc 6 yhnf), (cO7_rvrrii hs zr v1hs zw zp zmd ztr), (cO8_iiri zp 8 2 zpc zpn), (cAI g zpc 16 zpf)] rfl ?_
      refine k_aload_n X dX5_run_90 2 rfl ?_
      refine k_aload_n X dX5_run_91 3 rfl ?_
      refine k_aload_n X dX5_run_92 4 rfl ?_
      refine k_aload_n X dX5_run_93 4 rfl ?_
      refine k_iload_n X dX5_run_94 1 rfl ?_
      refine k_callVI (n := 1) (As := [.int u_1]) (st := [.ref hs, .ref hh, .ref h0]) X [(cO7_rvrrii hs zr v1hs zw zp zmd ztr), (cO8_iiri zp 8 2 zpc zpn), (cAI g zpc 16 zpf)] [(cO8_iiri zw 6 3 zwc zwn), (cAI g zwc 18 zwf), (cO8_iiri zr 8 3 zrc zrn), (cAI g zrc 24 zrf), (cO5_riiiiiiii h0 nr u_3 xmostSlip xslip xisDrawn xseed2_20 xtick2_21 xmotorTick2_22 xahead2_23), (cO8_iiri nr 8 10 nrc nrn), (cAI g nrc 80 nrg_24), (cO3_vrvvvvvv hh v0hh yhn v2hh v3hh v4hh v5hh v6hh v7hh), (cO8_iiri yhn 1 6 yhnc yhnn), (cAI g yhnc 6 yhnf)] [10, 11, 12] [0, 1, 2, 3, 4, 5, 6, 7, 8, 9] (s_reelAt l g hs u_1 (.ref zr) v1hs (.ref zw) zp zmd ztr zpc zpn zpf) dX5_run_95 mw758 mw759 mw760 mw23 mw761 rfl 7 rfl rfl 0 _ rfl yk_yX7_reelAt_1 rfl (Nat.le_of_ble_eq_true rfl) (Nat.le_of_ble_eq_true rfl) (Nat.le_of_ble_eq_true rfl) (Nat.le_of_ble_eq_true rfl) (Nat.le_of_ble_eq_true rfl) rfl rfl (by decide +kernel) rfl (by decide +kernel) (by decide +kernel) ?_
      rintro r_27 w rfl
      refine k_ws [(cO8_iiri zw 6 3 zwc zwn), (cAI g zwc 18 zwf), (cO8_iiri zr 8 3 zrc zrn), (cAI g zrc 24 zrf), (cO5_riiiiiiii h0 nr u_3 xmostSlip xslip xisDrawn xseed2_20 xtick2_21 xmotorTick2_22 xahead2_23), (cO8_iiri nr 8 10 nrc nrn), (cAI g nrc 80 nrg_24), (cO3_vrvvvvvv hh v0hh yhn v2hh v3hh v4hh v5hh v6hh v7hh), (cO8_iiri yhn 1 6 yhnc yhnn), (cAI g yhnc 6 yhnf), (cO7_rvrrii hs zr v1hs zw zp zmd ztr), (cO8_iiri zp 8 2 zpc zpn), (cAI g zpc 16 zpf)] rfl ?_
      refine k_callVV (n := 3) (As := [.ref hh, .ref hs, .int r_27]) (st := []) X [(cO5_riiiiiiii h0 nr u_3 xmostSlip xslip xisDrawn xseed2_20 xtick2_21 xmotorTick2_22 xahead2_23), (cO3_vrvvvvvv hh v0hh yhn v2hh v3hh v4hh v5hh v6hh v7hh), (cO8_iiri yhn 1 6 yhnc yhnn), (cAI g yhnc 6 yhnf), (cO7_rvrrii hs zr v1hs zw zp zmd ztr), (cO8_iiri zw 6 3 zwc zwn), (cAI g zwc 18 zwf)] [(cO8_iiri zr 8 3 zrc zrn), (cAI g zrc 24 zrf), (cO8_iiri nr 8 10 nrc nrn), (cAI g nrc 80 nrg_24), (cO8_iiri zp 8 2 zpc zpn), (cAI g zpc 16 zpf)] [4, 7, 8, 9, 10, 0, 1] [2, 3, 5, 6, 11, 12] (n_snap l g h0 hh hs r_27 nr u_3 xmostSlip xslip xisDrawn xseed2_20 xtick2_21 xmotorTick2_22 xahead2_23 v0hh yhn v2hh v3hh v4hh v5hh v6hh v7hh yhnc yhnn yhnf (.ref zr) v1hs zw (.ref zp) zmd ztr zwc zwn zwf) dX5_run_98 mw797 mw798 mw799 mw31 mw800 rfl 5 rfl rfl 0 _ rfl yk_yX5_snapWeakPlaces_3 rfl (Nat.le_of_ble_eq_true rfl) (Nat.le_of_ble_eq_true rfl) (Nat.le_of_ble_eq_true rfl) (Nat.le_of_ble_eq_true rfl) (Nat.le_of_ble_eq_true rfl) rfl rfl (by decide +kernel) rfl (by decide +kernel) (by decide +kernel) ?_
      rintro w ⟨xseed2_29, xsnapped2_30, rfl⟩
      refine k_ws [(cO8_iiri zr 8 3 zrc zrn), (cAI g zrc 24 zrf), (cO8_iiri nr 8 10 nrc nrn), (cAI g nrc 80 nrg_24), (cO8_iiri zp 8 2 zpc zpn), (cAI g zpc 16 zpf), (cO5_riiiiiiii h0 nr xsnapped2_30 xmostSlip xslip xisDrawn xseed2_29 xtick2_21 xmotorTick2_22 xahead2_23), (cO3_vrvvvvvv hh v0hh yhn v2hh v3hh v4hh v5hh v6hh v7hh), (cO8_iiri yhn 1 6 yhnc yhnn), (cAI g yhnc 6 yhnf), (cO7_rvrrii hs zr v1hs zw zp zmd ztr), (cO8_iiri zw 6 3 zwc zwn), (cAI g zwc 18 zwf)] rfl ?_
      obtain ⟨z_33, ez_33⟩ : ∃ y : Int32, u_1 + Int32.ofInt 1 = y := ⟨_, rfl⟩
      refine k_iinc z_33 [(3, .int z_33), (4, .int r_17), (0, .ref h0), (1, .ref hh), (2, .ref hs)] 1 X dX5_run_101 rfl ez_33 (by decide) rfl ?_
      refine k_goto 22 X dX5_run_104 (by decide) ?_
      refine k_lv [(3, .int z_33), (0, .ref h0), (1, .ref hh), (2, .ref hs)] [0, 2, 3, 4] rfl ?_
      refine k_sub [(cO5_riiiiiiii h0 nr xsnapped2_30 xmostSlip xslip xisDrawn xseed2_29 xtick2_21 xmotorTick2_22 xahead2_23), (cO8_iiri nr 8 10 nrc nrn), (cAI g nrc 80 nrg_24), (cO3_vrvvvvvv hh v0hh yhn v2hh v3hh v4hh v5hh v6hh v7hh), (cO8_iiri yhn 1 6 yhnc yhnn), (cAI g yhnc 6 yhnf), (cO7_rvrrii hs zr v1hs zw zp zmd ztr), (cO8_iiri zr 8 3 zrc zrn), (cAI g zrc 24 zrf), (cO8_iiri zp 8 2 zpc zpn), (cAI g zpc 16 zpf), (cO8_iiri zw 6 3 zwc zwn), (cAI g zwc 18 zwf)] [6, 2, 3, 7, 8, 9, 10, 0, 1, 4, 5, 11, 12] rfl (by decide) rfl ?_
      exact ih_10 _ (by rw [← hm_9]; exact mu_lt (by assumption) (by assumption)) z_33 nrg_24 xsnapped2_30 xseed2_29 xtick2_21 xmotorTick2_22 xahead2_23 rfl 
    · skip
      refine k_aload_n X dX5_run_71 2 rfl ?_
      refine k_iload_n X dX5_run_72 1 rfl ?_
      refine k_iload X dX5_run_73 0 rfl ?_
      refine k_callVV (n := 2) (As := [.int u_1, .int r_17]) (st := []) X [(cO5_riiiiiiii h0 nr u_3 xmostSlip xslip xisDrawn u_4 u_5 u_6 u_7), (cO8_iiri nr 8 10 nrc nrn), (cAI g nrc 80 fa_12)] [(cO3_vrvvvvvv hh v0hh yhn v2hh v3hh v4hh v5hh v6hh v7hh), (cO8_iiri yhn 1 6 yhnc yhnn), (cAI g yhnc 6 yhnf), (cO8_iiri zw 6 3 zwc zwn), (cAI g zwc 18 zwf), (cO7_rvrrii hs zr v1hs zw zp zmd ztr), (cO8_iiri zp 8 2 zpc zpn), (cAI g zpc 16 zpf), (cO8_iiri zr 8 3 zrc zrn), (cAI g zrc 24 zrf)] [0, 6, 7] [1, 2, 3, 4, 5, 8, 9, 10, 11, 12] (n_goBy l g h0 u_1 r_17 nr u_3 xmostSlip xslip xisDrawn u_4 u_5 u_6 u_7 nrc nrn fa_12) dX5_run_75 mw776 mw777 mw778 mw31 mw779 rfl 5 rfl rfl 0 _ rfl yk_yX5_goBy_2 rfl (Nat.le_of_ble_eq_true rfl) (Nat.le_of_ble_eq_true rfl) (Nat.le_of_ble_eq_true rfl) (Nat.le_of_ble_eq_true rfl) (Nat.le_of_ble_eq_true rfl) rfl rfl (by decide +kernel) rfl (by decide +kernel) (by decide +kernel) ?_
      rintro w ⟨xmotorTick2_34, xahead2_35, nrg_36, rfl⟩
      refine k_ws [(cO3_vrvvvvvv hh v0hh yhn v2hh v3hh v4hh v5hh v6hh v7hh), (cO8_iiri yhn 1 6 yhnc yhnn), (cAI g yhnc 6 yhnf), (cO8_iiri zw 6 3 zwc zwn), (cAI g zwc 18 zwf), (cO7_rvrrii hs zr v1hs zw zp zmd ztr), (cO8_iiri zp 8 2 zpc zpn), (cAI g zpc 16 zpf), (cO8_iiri zr 8 3 zrc zrn), (cAI g zrc 24 zrf), (cO5_riiiiiiii h0 nr u_3 xmostSlip xslip xisDrawn u_4 u_5 xmotorTick2_34 xahead2_35), (cO8_iiri nr 8 10 nrc nrn), (cAI g nrc 80 nrg_36)] rfl ?_
      refine k_goto 101 X dX5_run_78 (by decide) ?_
      obtain ⟨z_39, ez_39⟩ : ∃ y : Int32, u_1 + Int32.ofInt 1 = y := ⟨_, rfl⟩
      refine k_iinc z_39 [(3, .int z_39), (4, .int r_17), (0, .ref h0), (1, .ref hh), (2, .ref hs)] 1 X dX5_run_101 rfl ez_39 (by decide) rfl ?_
      refine k_goto 22 X dX5_run_104 (by decide) ?_
      refine k_lv [(3, .int z_39), (0, .ref h0), (1, .ref hh), (2, .ref hs)] [0, 2, 3, 4] rfl ?_
      refine k_sub [(cO5_riiiiiiii h0 nr u_3 xmostSlip xslip xisDrawn u_4 u_5 xmotorTick2_34 xahead2_35), (cO8_iiri nr 8 10 nrc nrn), (cAI g nrc 80 nrg_36), (cO3_vrvvvvvv hh v0hh yhn v2hh v3hh v4hh v5hh v6hh v7hh), (cO8_iiri yhn 1 6 yhnc yhnn), (cAI g yhnc 6 yhnf), (cO7_rvrrii hs zr v1hs zw zp zmd ztr), (cO8_iiri zr 8 3 zrc zrn), (cAI g zrc 24 zrf), (cO8_iiri zp 8 2 zpc zpn), (cAI g zpc 16 zpf), (cO8_iiri zw 6 3 zwc zwn), (cAI g zwc 18 zwf)] [10, 11, 12, 0, 1, 2, 5, 8, 9, 6, 7, 3, 4] rfl (by decide) rfl ?_
      exact ih_10 _ (by rw [← hm_9]; exact mu_lt (by assumption) (by assumption)) z_39 nrg_36 u_3 u_4 u_5 xmotorTick2_34 xahead2_35 rfl 

theorem dX5_meet_0 : decode cX5_meet 0 = .ok (.aload_n 0, 1) := dk_42 rfl
theorem dX5_meet_1 : decode cX5_meet 1 = .ok (.getfield 14, 3) := dk_180 rfl rfl rfl rfl
theorem dX5_meet_4 : decode cX5_meet 4 = .ok (.aload_n 2, 1) := dk_44 rfl
theorem dX5_meet_5 : decode cX5_meet 5 = .ok (.getfield 46, 3) := dk_180 rfl rfl rfl rfl
theorem dX5_meet_8 : decode cX5_meet 8 = .ok (.getfield 51, 3) := dk_180 rfl rfl rfl rfl
theorem dX5_meet_11 : decode cX5_meet 11 = .ok (.putfield 51, 3) := dk_181 rfl rfl rfl rfl
theorem dX5_meet_14 : decode cX5_meet 14 = .ok (.aload_n 0, 1) := dk_42 rfl
theorem dX5_meet_15 : decode cX5_meet 15 = .ok (.iconst 0, 1) := dk_3 rfl
theorem dX5_meet_16 : decode cX5_meet 16 = .ok (.aload_n 1, 1) := dk_43 rfl
theorem dX5_meet_17 : decode cX5_meet 17 = .ok (.getfield 54, 3) := dk_180 rfl rfl rfl rfl
theorem dX5_meet_20 : decode cX5_meet 20 = .ok (.iload_n 3, 1) := dk_29 rfl
theorem dX5_meet_21 : decode cX5_meet 21 = .ok (.iconst 2, 1) := dk_5 rfl
theorem dX5_meet_22 : decode cX5_meet 22 = .ok (.invokevirtual 59, 3) := dk_182 rfl rfl rfl rfl
theorem dX5_meet_25 : decode cX5_meet 25 = .ok (.invokestatic 63, 3) := dk_184 rfl rfl rfl rfl
theorem dX5_meet_28 : decode cX5_meet 28 = .ok (.putfield 24, 3) := dk_181 rfl rfl rfl rfl
theorem dX5_meet_31 : decode cX5_meet 31 = .ok (.iconst 0, 1) := dk_3 rfl
theorem dX5_meet_32 : decode cX5_meet 32 = .ok (.istore 4, 2) := dk_54 rfl rfl rfl
theorem dX5_meet_34 : decode cX5_meet 34 = .ok (.iload 4, 2) := dk_21 rfl rfl rfl
theorem dX5_meet_36 : decode cX5_meet 36 = .ok (.aload_n 0, 1) := dk_42 rfl
theorem dX5_meet_37 : decode cX5_meet 37 = .ok (.getfield 14, 3) := dk_180 rfl rfl rfl rfl
theorem dX5_meet_40 : decode cX5_meet 40 = .ok (.getfield 51, 3) := dk_180 rfl rfl rfl rfl
theorem dX5_meet_43 : decode cX5_meet 43 = .ok (.if_icmp .ge 35, 3) := dk_162 rfl rfl rfl (by decide)
theorem dX5_meet_46 : decode cX5_meet 46 = .ok (.aload_n 0, 1) := dk_42 rfl
theorem dX5_meet_47 : decode cX5_meet 47 = .ok (.getfield 14, 3) := dk_180 rfl rfl rfl rfl
theorem dX5_meet_50 : decode cX5_meet 50 = .ok (.iload 4, 2) := dk_21 rfl rfl rfl
theorem dX5_meet_52 : decode cX5_meet 52 = .ok (.bipush 9, 2) := dk_16 rfl rfl (by decide)
theorem dX5_meet_54 : decode cX5_meet 54 = .ok (.aload_n 2, 1) := dk_44 rfl
theorem dX5_meet_55 : decode cX5_meet 55 = .ok (.aload_n 1, 1) := dk_43 rfl
theorem dX5_meet_56 : decode cX5_meet 56 = .ok (.getfield 54, 3) := dk_180 rfl rfl rfl rfl
theorem dX5_meet_59 : decode cX5_meet 59 = .ok (.iload_n 3, 1) := dk_29 rfl
theorem dX5_meet_60 : decode cX5_meet 60 = .ok (.aload_n 2, 1) := dk_44 rfl
theorem dX5_meet_61 : decode cX5_meet 61 = .ok (.iload 4, 2) := dk_21 rfl rfl rfl
theorem dX5_meet_63 : decode cX5_meet 63 = .ok (.invokevirtual 68, 3) := dk_182 rfl rfl rfl rfl
theorem dX5_meet_66 : decode cX5_meet 66 = .ok (.invokevirtual 72, 3) := dk_182 rfl rfl rfl rfl
theorem dX5_meet_69 : decode cX5_meet 69 = .ok (.invokevirtual 76, 3) := dk_182 rfl rfl rfl rfl
theorem dX5_meet_72 : decode cX5_meet 72 = .ok (.iinc 4 1, 3) := dk_132 rfl rfl rfl rfl (by decide)
theorem dX5_meet_75 : decode cX5_meet 75 = .ok (.goto (-41), 3) := dk_167 rfl rfl rfl (by decide)
theorem dX5_meet_78 : decode cX5_meet 78 = .ok (.return_, 1) := dk_177 rfl
set_option maxHeartbeats 4000000 in
set_option maxRecDepth 100000 in
theorem n_meet (l : Launch) (g : Gx) (h0 : Nat) (hh : Nat) (hs : Nat) (p0 : Int32) (nr : Nat) (xsnapped : Int32) (xmostSlip : Int32) (xslip : Int32) (xisDrawn : Int32) (xseed : Int32) (xtick : Int32) (xmotorTick : Int32) (xahead : Int32) (nrc : Nat) (nrn : Int32) (nrf : Nat → Int32) (v0hh : Value) (v1hh : Value) (v2hh : Value) (v3hh : Value) (yhm : Nat) (v5hh : Value) (v6hh : Value) (v7hh : Value) (yhmc : Nat) (yhmn : Int32) (yhmf : Nat → Int32) (zr : Nat) (zm : Nat) (v2hs : Value) (zp : Nat) (zmd : Int32) (ztr : Int32) (zrc : Nat) (zrn : Int32) (zrf : Nat → Int32) (zmc : Nat) (zmn : Int32) (zmf : Nat → Int32) (zpc : Nat) (zpn : Int32) (zpf : Nat → Int32) : cV l g yX5_meet cX5_meet 5 2 49 0 0 [.ref h0, .ref hh, .ref hs, .int p0] [(cO5_riiiiiiii h0 nr xsnapped xmostSlip xslip xisDrawn xseed xtick xmotorTick xahead), (cO8_iiri nr 8 10 nrc nrn), (cAI g nrc 80 nrf), (cO3_vvvvrvvv hh v0hh v1hh v2hh v3hh yhm v5hh v6hh v7hh), (cO8_iiri yhm 4 3 yhmc yhmn), (cAI g yhmc 12 yhmf), (cO7_rrvrii hs zr zm v2hs zp zmd ztr), (cO8_iiri zr 8 3 zrc zrn), (cAI g zrc 24 zrf), (cO8_iiri zm 12 3 zmc zmn), (cAI g zmc 36 zmf), (cO8_iiri zp 8 2 zpc zpn), (cAI g zpc 16 zpf)] (fun w => ∃ (xmostSlip2 : Int32) (nrg : Nat → Int32) (nrk : Int32), (¬ xmostSlip2 < 0) ∧ w = [(cO5_riiiiiiii h0 nr xsnapped xmostSlip2 xslip xisDrawn xseed xtick xmotorTick xahead), (cO8_iiri nr 8 10 nrc nrk), (cAI g nrc 80 nrg), (cO3_vvvvrvvv hh v0hh v1hh v2hh v3hh yhm v5hh v6hh v7hh), (cO8_iiri yhm 4 3 yhmc yhmn), (cAI g yhmc 12 yhmf), (cO7_rrvrii hs zr zm v2hs zp zmd ztr), (cO8_iiri zr 8 3 zrc zrn), (cAI g zrc 24 zrf), (cO8_iiri zm 12 3 zmc zmn), (cAI g zmc 36 zmf), (cO8_iiri zp 8 2 zpc zpn), (cAI g zpc 16 zpf)]) := by
  refine cV.of (by decide) (Nat.le_of_ble_eq_true rfl) ?_
  intro p e s m args below meth c A X hr hi
  refine k_lveq [(0, .ref h0), (1, .ref hh), (2, .ref hs), (3, .int p0)] rfl ?_
  refine k_aload_n X dX5_meet_0 0 rfl ?_
  refine k_get (ci := 5) X inlX5 rfl 0 (by decide) dX5_meet_1 mw125 0 rfl rfl ?_
  refine k_aload_n X dX5_meet_4 2 rfl ?_
  refine k_get (ci := 7) X inlX7 rfl 3 (by decide) dX5_meet_5 mw753 6 rfl rfl ?_
  refine k_get (ci := 8) X inlX8 rfl 3 (by decide) dX5_meet_8 mw754 11 rfl rfl ?_
  refine k_put (ci := 8) [(cO5_riiiiiiii h0 nr xsnapped xmostSlip xslip xisDrawn xseed xtick xmotorTick xahead), (cO8_iiri nr 8 10 nrc zpn), (cAI g nrc 80 nrf), (cO3_vvvvrvvv hh v0hh v1hh v2hh v3hh yhm v5hh v6hh v7hh), (cO8_iiri yhm 4 3 yhmc yhmn), (cAI g yhmc 12 yhmf), (cO7_rrvrii hs zr zm v2hs zp zmd ztr), (cO8_iiri zr 8 3 zrc zrn), (cAI g zrc 24 zrf), (cO8_iiri zm 12 3 zmc zmn), (cAI g zmc 36 zmf), (cO8_iiri zp 8 2 zpc zpn), (cAI g zpc 16 zpf)] X inlX8 rfl tyX8_ok nmX8 3 (by decide) rfl dX5_meet_11 mw754 1 rfl rfl rfl (Nat.le_of_ble_eq_true rfl) rfl ?_
  refine k_aload_n X dX5_meet_14 0 rfl ?_
  refine k_iconst (v := 0) X dX5_meet_15 (by decide) ?_
  refine k_aload_n X dX5_meet_16 1 rfl ?_
  refine k_get (ci := 3) X inlX3 rfl 4 (by decide) dX5_meet_17 mw755 3 rfl rfl ?_
  refine k_iload_n X dX5_meet_20 3 rfl ?_
  refine k_iconst (v := 2) X dX5_meet_21 (by decide) ?_
  refine k_callVI (n := 2) (As := [.int p0, .int 2]) (st := [.int 0, .ref h0]) X [(cO8_iiri yhm 4 3 yhmc yhmn), (cAI g yhmc 12 yhmf)] [(cO5_riiiiiiii h0 nr xsnapped xmostSlip xslip xisDrawn xseed xtick xmotorTick xahead), (cO8_iiri nr 8 10 nrc zpn), (cAI g nrc 80 nrf), (cO3_vvvvrvvv hh v0hh v1hh v2hh v3hh yhm v5hh v6hh v7hh), (cO7_rrvrii hs zr zm v2hs zp zmd ztr), (cO8_iiri zr 8 3 zrc zrn), (cAI g zrc 24 zrf), (cO8_iiri zm 12 3 zmc zmn), (cAI g zmc 36 zmf), (cO8_iiri zp 8 2 zpc zpn), (cAI g zpc 16 zpf)] [4, 5] [0, 1, 2, 3, 6, 7, 8, 9, 10, 11, 12] (t_at l g yhm p0 2 4 3 yhmc yhmn 12 yhmf (tbk_4_3)) dX5_meet_22 mw757 mw376 mw377 mw64 mw378 rfl 8 rfl rfl 0 _ rfl yk_yX8_at_2 rfl (Nat.le_of_ble_eq_true rfl) (Nat.le_of_ble_eq_true rfl) (Nat.le_of_ble_eq_true rfl) (Nat.le_of_ble_eq_true rfl) (Nat.le_of_ble_eq_true rfl) rfl rfl (by decide +kernel) rfl (by decide +kernel) (by decide +kernel) ?_
  rintro r_1 w ⟨hr_2, rfl⟩
  refine k_ws [(cO5_riiiiiiii h0 nr xsnapped xmostSlip xslip xisDrawn xseed xtick xmotorTick xahead), (cO8_iiri nr 8 10 nrc zpn), (cAI g nrc 80 nrf), (cO3_vvvvrvvv hh v0hh v1hh v2hh v3hh yhm v5hh v6hh v7hh), (cO7_rrvrii hs zr zm v2hs zp zmd ztr), (cO8_iiri zr 8 3 zrc zrn), (cAI g zrc 24 zrf), (cO8_iiri zm 12 3 zmc zmn), (cAI g zmc 36 zmf), (cO8_iiri zp 8 2 zpc zpn), (cAI g zpc 16 zpf), (cO8_iiri yhm 4 3 yhmc yhmn), (cAI g yhmc 12 yhmf)] rfl ?_
  refine k_mmax X dX5_meet_25 mw756 mw102 mw103 mw104 (Nat.le_of_ble_eq_true rfl) (Nat.le_of_ble_eq_true rfl) (Nat.zero_le _) (Nat.zero_le _) ?_
  refine k_nm (fun z_3 ez_3 => ?_)
  refine k_put (ci := 5) [(cO5_riiiiiiii h0 nr xsnapped z_3 xslip xisDrawn xseed xtick xmotorTick xahead), (cO8_iiri nr 8 10 nrc zpn), (cAI g nrc 80 nrf), (cO3_vvvvrvvv hh v0hh v1hh v2hh v3hh yhm v5hh v6hh v7hh), (cO7_rrvrii hs zr zm v2hs zp zmd ztr), (cO8_iiri zr 8 3 zrc zrn), (cAI g zrc 24 zrf), (cO8_iiri zm 12 3 zmc zmn), (cAI g zmc 36 zmf), (cO8_iiri zp 8 2 zpc zpn), (cAI g zpc 16 zpf), (cO8_iiri yhm 4 3 yhmc yhmn), (cAI g yhmc 12 yhmf)] X inlX5 rfl tyX5_ok nmX5 2 (by decide) rfl dX5_meet_28 mw127 0 rfl rfl rfl (Nat.le_of_ble_eq_true rfl) rfl ?_
  refine k_iconst (v := 0) X dX5_meet_31 (by decide) ?_
  refine k_istore [(4, .int 0), (0, .ref h0), (1, .ref hh), (2, .ref hs), (3, .int p0)] X dX5_meet_32 (by decide) rfl ?_
  refine (fun hL : ∀ (nn_6 : Nat) (u_4 : Int32) (uf_5 : Nat → Int32), (zpn.toInt - u_4.toInt).toNat = nn_6 → Wk p l e _ s m args below meth c _ A g _ _ _ [(cO5_riiiiiiii h0 nr xsnapped z_3 xslip xisDrawn xseed xtick xmotorTick xahead), (cO8_iiri nr 8 10 nrc zpn), (cAI g nrc 80 uf_5), (cO3_vvvvrvvv hh v0hh v1hh v2hh v3hh yhm v5hh v6hh v7hh), (cO7_rrvrii hs zr zm v2hs zp zmd ztr), (cO8_iiri zr 8 3 zrc zrn), (cAI g zrc 24 zrf), (cO8_iiri zm 12 3 zmc zmn), (cAI g zmc 36 zmf), (cO8_iiri zp 8 2 zpc zpn), (cAI g zpc 16 zpf), (cO8_iiri yhm 4 3 yhmc yhmn), (cAI g yhmc 12 yhmf)] [(4, .int u_4), (0, .ref h0), (1, .ref hh), (2, .ref hs), (3, .int p0)] 34 [] => hL _ 0 nrf rfl ) ?_
  refine fun nn_6 => Nat.strongRecOn nn_6 (fun nn_6 ih_8 => ?_)
  intro u_4 uf_5 hm_7 
  refine k_iload X dX5_meet_34 0 rfl ?_
  refine k_aload_n X dX5_meet_36 1 rfl ?_
  refine k_get (ci := 5) X inlX5 rfl 0 (by decide) dX5_meet_37 mw125 0 rfl rfl ?_
  refine k_get (ci := 8) X inlX8 rfl 3 (by decide) dX5_meet_40 mw754 1 rfl rfl ?_
  refine k_ic_ge 78 X dX5_meet_43 (by decide) (fun h_9 => ?_) (fun h_9 => ?_)
  · skip
    exact k_vret X hr dX5_meet_78 (Nat.le_of_ble_eq_true rfl) (Nat.le_of_ble_eq_true rfl) [0, 1, 2, 3, 11, 12, 4, 5, 6, 7, 8, 9, 10] (by decide) rfl rfl ⟨z_3, uf_5, zpn, (mx0 (by assumption)), rfl⟩
  · skip
    refine k_aload_n X dX5_meet_46 1 rfl ?_
    refine k_get (ci := 5) X inlX5 rfl 0 (by decide) dX5_meet_47 mw125 0 rfl rfl ?_
    refine k_iload X dX5_meet_50 0 rfl ?_
    refine k_bipush (v := 9) X dX5_meet_52 (by decide) ?_
    refine k_aload_n X dX5_meet_54 3 rfl ?_
    refine k_aload_n X dX5_meet_55 2 rfl ?_
    refine k_get (ci := 3) X inlX3 rfl 4 (by decide) dX5_meet_56 mw755 3 rfl rfl ?_
    refine k_iload_n X dX5_meet_59 4 rfl ?_
    refine k_aload_n X dX5_meet_60 3 rfl ?_
    refine k_iload X dX5_meet_61 0 rfl ?_
    refine k_callVI (n := 1) (As := [.int u_4]) (st := [.int p0, .ref yhm, .ref hs, .int 9, .int u_4, .ref nr]) X [(cO7_rrvrii hs zr zm v2hs zp zmd ztr), (cO8_iiri zp 8 2 zpc zpn), (cAI g zpc 16 zpf)] [(cO5_riiiiiiii h0 nr xsnapped z_3 xslip xisDrawn xseed xtick xmotorTick xahead), (cO8_iiri nr 8 10 nrc zpn), (cAI g nrc 80 uf_5), (cO3_vvvvrvvv hh v0hh v1hh v2hh v3hh yhm v5hh v6hh v7hh), (cO8_iiri zr 8 3 zrc zrn), (cAI g zrc 24 zrf), (cO8_iiri zm 12 3 zmc zmn), (cAI g zmc 36 zmf), (cO8_iiri yhm 4 3 yhmc yhmn), (cAI g yhmc 12 yhmf)] [4, 9, 10] [0, 1, 2, 3, 5, 6, 7, 8, 11, 12] (s_reelAt l g hs u_4 (.ref zr) (.ref zm) v2hs zp zmd ztr zpc zpn zpf) dX5_meet_63 mw758 mw759 mw760 mw23 mw761 rfl 7 rfl rfl 0 _ rfl yk_yX7_reelAt_1 rfl (Nat.le_of_ble_eq_true rfl) (Nat.le_of_ble_eq_true rfl) (Nat.le_of_ble_eq_true rfl) (Nat.le_of_ble_eq_true rfl) (Nat.le_of_ble_eq_true rfl) rfl rfl (by decide +kernel) rfl (by decide +kernel) (by decide +kernel) ?_
    rintro r_10 w rfl
    refine k_ws [(cO5_riiiiiiii h0 nr xsnapped z_3 xslip xisDrawn xseed xtick xmotorTick xahead), (cO8_iiri nr 8 10 nrc zpn), (cAI g nrc 80 uf_5), (cO3_vvvvrvvv hh v0hh v1hh v2hh v3hh yhm v5hh v6hh v7hh), (cO8_iiri zr 8 3 zrc zrn), (cAI g zrc 24 zrf), (cO8_iiri zm 12 3 zmc zmn), (cAI g zmc 36 zmf), (cO8_iiri yhm 4 3 yhmc yhmn), (cAI g yhmc 12 yhmf), (cO7_rrvrii hs zr zm v2hs zp zmd ztr), (cO8_iiri zp 8 2 zpc zpn), (cAI g zpc 16 zpf)] rfl ?_
    refine k_callVI (n := 3) (As := [.ref yhm, .int p0, .int r_10]) (st := [.int 9, .int u_4, .ref nr]) X [(cO7_rrvrii hs zr zm v2hs zp zmd ztr), (cO8_iiri zr 8 3 zrc zrn), (cAI g zrc 24 zrf), (cO8_iiri zm 12 3 zmc zmn), (cAI g zmc 36 zmf), (cO8_iiri yhm 4 3 yhmc yhmn), (cAI g yhmc 12 yhmf)] [(cO5_riiiiiiii h0 nr xsnapped z_3 xslip xisDrawn xseed xtick xmotorTick xahead), (cO8_iiri nr 8 10 nrc zpn), (cAI g nrc 80 uf_5), (cO3_vvvvrvvv hh v0hh v1hh v2hh v3hh yhm v5hh v6hh v7hh), (cO8_iiri zp 8 2 zpc zpn), (cAI g zpc 16 zpf)] [10, 4, 5, 6, 7, 8, 9] [0, 1, 2, 3, 11, 12] (s_believedBy l g hs yhm p0 r_10 zr zm v2hs (.ref zp) zmd ztr zrc zrn zrf zmc zmn zmf yhmc yhmn yhmf) dX5_meet_66 mw762 mw763 mw764 mw23 mw765 rfl 7 rfl rfl 0 _ rfl yk_yX7_believedBy_3 rfl (Nat.le_of_ble_eq_true rfl) (Nat.le_of_ble_eq_true rfl) (Nat.le_of_ble_eq_true rfl) (Nat.le_of_ble_eq_true rfl) (Nat.le_of_ble_eq_true rfl) rfl rfl (by decide +kernel) rfl (by decide +kernel) (by decide +kernel) ?_
    rintro r_12 w rfl
    refine k_ws [(cO5_riiiiiiii h0 nr xsnapped z_3 xslip xisDrawn xseed xtick xmotorTick xahead), (cO8_iiri nr 8 10 nrc zpn), (cAI g nrc 80 uf_5), (cO3_vvvvrvvv hh v0hh v1hh v2hh v3hh yhm v5hh v6hh v7hh), (cO8_iiri zp 8 2 zpc zpn), (cAI g zpc 16 zpf), (cO7_rrvrii hs zr zm v2hs zp zmd ztr), (cO8_iiri zr 8 3 zrc zrn), (cAI g zrc 24 zrf), (cO8_iiri zm 12 3 zmc zmn), (cAI g zmc 36 zmf), (cO8_iiri yhm 4 3 yhmc yhmn), (cAI g yhmc 12 yhmf)] rfl ?_
    refine k_callVV (n := 3) (As := [.int u_4, .int 9, .int r_12]) (st := []) X [(cO8_iiri nr 8 10 nrc zpn), (cAI g nrc 80 uf_5)] [(cO5_riiiiiiii h0 nr xsnapped z_3 xslip xisDrawn xseed xtick xmotorTick xahead), (cO3_vvvvrvvv hh v0hh v1hh v2hh v3hh yhm v5hh v6hh v7hh), (cO8_iiri zp 8 2 zpc zpn), (cAI g zpc 16 zpf), (cO7_rrvrii hs zr zm v2hs zp zmd ztr), (cO8_iiri zr 8 3 zrc zrn), (cAI g zrc 24 zrf), (cO8_iiri zm 12 3 zmc zmn), (cAI g zmc 36 zmf), (cO8_iiri yhm 4 3 yhmc yhmn), (cAI g yhmc 12 yhmf)] [1, 2] [0, 3, 4, 5, 6, 7, 8, 9, 10, 11, 12] (t_put l g nr u_4 9 r_12 8 10 nrc zpn 80 uf_5 (tbk_8_10)) dX5_meet_69 mw766 mw326 mw327 mw64 mw328 rfl 8 rfl rfl 0 _ rfl yk_yX8_put_3 rfl (Nat.le_of_ble_eq_true rfl) (Nat.le_of_ble_eq_true rfl) (Nat.le_of_ble_eq_true rfl) (Nat.le_of_ble_eq_true rfl) (Nat.le_of_ble_eq_true rfl) rfl rfl (by decide +kernel) rfl (by decide +kernel) (by decide +kernel) ?_
    rintro w ⟨fa_14, hr_16, rfl⟩
    refine k_ws [(cO5_riiiiiiii h0 nr xsnapped z_3 xslip xisDrawn xseed xtick xmotorTick xahead), (cO3_vvvvrvvv hh v0hh v1hh v2hh v3hh yhm v5hh v6hh v7hh), (cO8_iiri zp 8 2 zpc zpn), (cAI g zpc 16 zpf), (cO7_rrvrii hs zr zm v2hs zp zmd ztr), (cO8_iiri zr 8 3 zrc zrn), (cAI g zrc 24 zrf), (cO8_iiri zm 12 3 zmc zmn), (cAI g zmc 36 zmf), (cO8_iiri yhm 4 3 yhmc yhmn), (cAI g yhmc 12 yhmf), (cO8_iiri nr 8 10 nrc zpn), (cAI g nrc 80 fa_14)] rfl ?_
    obtain ⟨z_17, ez_17⟩ : ∃ y : Int32, u_4 + Int32.ofInt 1 = y := ⟨_, rfl⟩
    refine k_iinc z_17 [(4, .int z_17), (0, .ref h0), (1, .ref hh), (2, .ref hs), (3, .int p0)] 0 X dX5_meet_72 rfl ez_17 (by decide) rfl ?_
    refine k_goto 34 X dX5_meet_75 (by decide) ?_
    refine k_sub [(cO5_riiiiiiii h0 nr xsnapped z_3 xslip xisDrawn xseed xtick xmotorTick xahead), (cO8_iiri nr 8 10 nrc zpn), (cAI g nrc 80 fa_14), (cO3_vvvvrvvv hh v0hh v1hh v2hh v3hh yhm v5hh v6hh v7hh), (cO7_rrvrii hs zr zm v2hs zp zmd ztr), (cO8_iiri zr 8 3 zrc zrn), (cAI g zrc 24 zrf), (cO8_iiri zm 12 3 zmc zmn), (cAI g zmc 36 zmf), (cO8_iiri zp 8 2 zpc zpn), (cAI g zpc 16 zpf), (cO8_iiri yhm 4 3 yhmc yhmn), (cAI g yhmc 12 yhmf)] [0, 11, 12, 1, 4, 5, 6, 7, 8, 2, 3, 9, 10] rfl (by decide) rfl ?_
    exact ih_8 _ (by rw [← hm_7]; exact mu_lt (by assumption) (by assumption)) z_17 fa_14 rfl 

theorem dX0_burn_0 : decode cX0_burn 0 = .ok (.aload_n 1, 1) := dk_43 rfl
theorem dX0_burn_1 : decode cX0_burn 1 = .ok (.iconst 3, 1) := dk_6 rfl
theorem dX0_burn_2 : decode cX0_burn 2 = .ok (.invokevirtual 24, 3) := dk_182 rfl rfl rfl rfl
theorem dX0_burn_5 : decode cX0_burn 5 = .ok (.istore 4, 2) := dk_54 rfl rfl rfl
theorem dX0_burn_7 : decode cX0_burn 7 = .ok (.aload_n 1, 1) := dk_43 rfl
theorem dX0_burn_8 : decode cX0_burn 8 = .ok (.iconst 4, 1) := dk_7 rfl
theorem dX0_burn_9 : decode cX0_burn 9 = .ok (.invokevirtual 24, 3) := dk_182 rfl rfl rfl rfl
theorem dX0_burn_12 : decode cX0_burn 12 = .ok (.istore 5, 2) := dk_54 rfl rfl rfl
theorem dX0_burn_14 : decode cX0_burn 14 = .ok (.aload_n 0, 1) := dk_42 rfl
theorem dX0_burn_15 : decode cX0_burn 15 = .ok (.iconst 0, 1) := dk_3 rfl
theorem dX0_burn_16 : decode cX0_burn 16 = .ok (.putfield 20, 3) := dk_181 rfl rfl rfl rfl
theorem dX0_burn_19 : decode cX0_burn 19 = .ok (.iconst 0, 1) := dk_3 rfl
theorem dX0_burn_20 : decode cX0_burn 20 = .ok (.istore 6, 2) := dk_54 rfl rfl rfl
theorem dX0_burn_22 : decode cX0_burn 22 = .ok (.iload 6, 2) := dk_21 rfl rfl rfl
theorem dX0_burn_24 : decode cX0_burn 24 = .ok (.aload_n 2, 1) := dk_44 rfl
theorem dX0_burn_25 : decode cX0_burn 25 = .ok (.getfield 30, 3) := dk_180 rfl rfl rfl rfl
theorem dX0_burn_28 : decode cX0_burn 28 = .ok (.getfield 35, 3) := dk_180 rfl rfl rfl rfl
theorem dX0_burn_31 : decode cX0_burn 31 = .ok (.if_icmp .ge 123, 3) := dk_162 rfl rfl rfl (by decide)
theorem dX0_burn_34 : decode cX0_burn 34 = .ok (.iload 6, 2) := dk_21 rfl rfl rfl
theorem dX0_burn_36 : decode cX0_burn 36 = .ok (.iconst 2, 1) := dk_5 rfl
theorem dX0_burn_37 : decode cX0_burn 37 = .ok (.if_icmp .ge 8, 3) := dk_162 rfl rfl rfl (by decide)
theorem dX0_burn_40 : decode cX0_burn 40 = .ok (.iload 4, 2) := dk_21 rfl rfl rfl
theorem dX0_burn_42 : decode cX0_burn 42 = .ok (.goto 15, 3) := dk_167 rfl rfl rfl (by decide)
theorem dX0_burn_45 : decode cX0_burn 45 = .ok (.aload_n 0, 1) := dk_42 rfl
theorem dX0_burn_46 : decode cX0_burn 46 = .ok (.getfield 14, 3) := dk_180 rfl rfl rfl rfl
theorem dX0_burn_49 : decode cX0_burn 49 = .ok (.iload 6, 2) := dk_21 rfl rfl rfl
theorem dX0_burn_51 : decode cX0_burn 51 = .ok (.iconst 2, 1) := dk_5 rfl
theorem dX0_burn_52 : decode cX0_burn 52 = .ok (.isub, 1) := dk_100 rfl
theorem dX0_burn_53 : decode cX0_burn 53 = .ok (.iconst 0, 1) := dk_3 rfl
theorem dX0_burn_54 : decode cX0_burn 54 = .ok (.invokevirtual 38, 3) := dk_182 rfl rfl rfl rfl
theorem dX0_burn_57 : decode cX0_burn 57 = .ok (.istore 7, 2) := dk_54 rfl rfl rfl
theorem dX0_burn_59 : decode cX0_burn 59 = .ok (.iload_n 3, 1) := dk_29 rfl
theorem dX0_burn_60 : decode cX0_burn 60 = .ok (.iload 6, 2) := dk_21 rfl rfl rfl
theorem dX0_burn_62 : decode cX0_burn 62 = .ok (.ishr, 1) := dk_122 rfl
theorem dX0_burn_63 : decode cX0_burn 63 = .ok (.iconst 1, 1) := dk_4 rfl
theorem dX0_burn_64 : decode cX0_burn 64 = .ok (.iand, 1) := dk_126 rfl
theorem dX0_burn_65 : decode cX0_burn 65 = .ok (.iconst 1, 1) := dk_4 rfl
theorem dX0_burn_66 : decode cX0_burn 66 = .ok (.if_icmp .ne 24, 3) := dk_160 rfl rfl rfl (by decide)
theorem dX0_burn_69 : decode cX0_burn 69 = .ok (.iload 6, 2) := dk_21 rfl rfl rfl
theorem dX0_burn_71 : decode cX0_burn 71 = .ok (.iconst 2, 1) := dk_5 rfl
theorem dX0_burn_72 : decode cX0_burn 72 = .ok (.if_icmp .lt 18, 3) := dk_161 rfl rfl rfl (by decide)
theorem dX0_burn_75 : decode cX0_burn 75 = .ok (.aload_n 2, 1) := dk_44 rfl
theorem dX0_burn_76 : decode cX0_burn 76 = .ok (.iload 6, 2) := dk_21 rfl rfl rfl
theorem dX0_burn_78 : decode cX0_burn 78 = .ok (.invokevirtual 42, 3) := dk_182 rfl rfl rfl rfl
theorem dX0_burn_81 : decode cX0_burn 81 = .ok (.iload 5, 2) := dk_21 rfl rfl rfl
theorem dX0_burn_83 : decode cX0_burn 83 = .ok (.if_icmp .lt 7, 3) := dk_161 rfl rfl rfl (by decide)
theorem dX0_burn_86 : decode cX0_burn 86 = .ok (.iload 4, 2) := dk_21 rfl rfl rfl
theorem dX0_burn_88 : decode cX0_burn 88 = .ok (.istore 7, 2) := dk_54 rfl rfl rfl
theorem dX0_burn_90 : decode cX0_burn 90 = .ok (.aload_n 2, 1) := dk_44 rfl
theorem dX0_burn_91 : decode cX0_burn 91 = .ok (.iload 6, 2) := dk_21 rfl rfl rfl
theorem dX0_burn_93 : decode cX0_burn 93 = .ok (.invokevirtual 45, 3) := dk_182 rfl rfl rfl rfl
theorem dX0_burn_96 : decode cX0_burn 96 = .ok (.istore 8, 2) := dk_54 rfl rfl rfl
theorem dX0_burn_98 : decode cX0_burn 98 = .ok (.iload 7, 2) := by decide +kernel
theorem dX0_burn_100 : decode cX0_burn 100 = .ok (.iload 8, 2) := by decide +kernel
theorem dX0_burn_102 : decode cX0_burn 102 = .ok (.if_icmp .ge 31, 3) := by decide +kernel
theorem dX0_burn_105 : decode cX0_burn 105 = .ok (.aload_n 0, 1) := by decide +kernel
theorem dX0_burn_106 : decode cX0_burn 106 = .ok (.dup, 1) := by decide +kernel
theorem dX0_burn_107 : decode cX0_burn 107 = .ok (.getfield 20, 3) := by decide +kernel
theorem dX0_burn_110 : decode cX0_burn 110 = .ok (.iconst 1, 1) := by decide +kernel
theorem dX0_burn_111 : decode cX0_burn 111 = .ok (.iload 6, 2) := by decide +kernel
theorem dX0_burn_113 : decode cX0_burn 113 = .ok (.ishl, 1) := by decide +kernel
theorem dX0_burn_114 : decode cX0_burn 114 = .ok (.ior, 1) := by decide +kernel
theorem dX0_burn_115 : decode cX0_burn 115 = .ok (.putfield 20, 3) := by decide +kernel
theorem dX0_burn_118 : decode cX0_burn 118 = .ok (.aload_n 0, 1) := by decide +kernel
theorem dX0_burn_119 : decode cX0_burn 119 = .ok (.getfield 14, 3) := by decide +kernel
theorem dX0_burn_122 : decode cX0_burn 122 = .ok (.iload 6, 2) := by decide +kernel
theorem dX0_burn_124 : decode cX0_burn 124 = .ok (.iconst 0, 1) := by decide +kernel
theorem dX0_burn_125 : decode cX0_burn 125 = .ok (.iload 4, 2) := by decide +kernel
theorem dX0_burn_127 : decode cX0_burn 127 = .ok (.invokevirtual 48, 3) := by decide +kernel
theorem dX0_burn_130 : decode cX0_burn 130 = .ok (.goto 18, 3) := by decide +kernel
theorem dX0_burn_133 : decode cX0_burn 133 = .ok (.aload_n 0, 1) := by decide +kernel
theorem dX0_burn_134 : decode cX0_burn 134 = .ok (.getfield 14, 3) := by decide +kernel
theorem dX0_burn_137 : decode cX0_burn 137 = .ok (.iload 6, 2) := by decide +kernel
theorem dX0_burn_139 : decode cX0_burn 139 = .ok (.iconst 0, 1) := by decide +kernel
theorem dX0_burn_140 : decode cX0_burn 140 = .ok (.iload 7, 2) := by decide +kernel
theorem dX0_burn_142 : decode cX0_burn 142 = .ok (.iload 8, 2) := by decide +kernel
theorem dX0_burn_144 : decode cX0_burn 144 = .ok (.isub, 1) := by decide +kernel
theorem dX0_burn_145 : decode cX0_burn 145 = .ok (.invokevirtual 48, 3) := by decide +kernel
theorem dX0_burn_148 : decode cX0_burn 148 = .ok (.iinc 6 1, 3) := by decide +kernel
theorem dX0_burn_151 : decode cX0_burn 151 = .ok (.goto (-129), 3) := by decide +kernel
theorem dX0_burn_154 : decode cX0_burn 154 = .ok (.return_, 1) := by decide +kernel
set_option maxHeartbeats 4000000 in
set_option maxRecDepth 100000 in
theorem a_burn (l : Launch) (g : Gx) (h0 : Nat) (hh : Nat) (nn : Nat) (p0 : Int32) (al : Nat) (xd : Int32) (alc : Nat) (aln : Int32) (alf : Nat → Int32) (v0hh : Value) (yhn : Nat) (v2hh : Value) (v3hh : Value) (v4hh : Value) (v5hh : Value) (v6hh : Value) (v7hh : Value) (yhnc : Nat) (yhnn : Int32) (yhnf : Nat → Int32) (nr : Nat) (xsnapped : Int32) (xmostSlip : Int32) (xslip : Int32) (xisDrawn : Int32) (xseed : Int32) (xtick : Int32) (xmotorTick : Int32) (xahead : Int32) (nrc : Nat) (nrn : Int32) (nrf : Nat → Int32) : cV l g yX0_burn cX0_burn 9 2 43 0 0 [.ref h0, .ref hh, .ref nn, .int p0] [(cO0_ri h0 al xd), (cO8_iiri al 8 1 alc aln), (cAI g alc 8 alf), (cO3_vrvvvvvv hh v0hh yhn v2hh v3hh v4hh v5hh v6hh v7hh), (cO8_iiri yhn 1 6 yhnc yhnn), (cAI g yhnc 6 yhnf), (cO5_riiiiiiii nn nr xsnapped xmostSlip xslip xisDrawn xseed xtick xmotorTick xahead), (cO8_iiri nr 8 10 nrc nrn), (cAI g nrc 80 nrf)] (fun w => ∃ (xd2 : Int32) (alg : Nat → Int32), w = [(cO0_ri h0 al xd2), (cO8_iiri al 8 1 alc aln), (cAI g alc 8 alg), (cO3_vrvvvvvv hh v0hh yhn v2hh v3hh v4hh v5hh v6hh v7hh), (cO8_iiri yhn 1 6 yhnc yhnn), (cAI g yhnc 6 yhnf), (cO5_riiiiiiii nn nr xsnapped xmostSlip xslip xisDrawn xseed xtick xmotorTick xahead), (cO8_iiri nr 8 10 nrc nrn), (cAI g nrc 80 nrf)]) := by
  refine cV.of (by decide) (Nat.le_of_ble_eq_true rfl) ?_
  intro p e s m args below meth c A X hr hi
  refine k_lveq [(0, .ref h0), (1, .ref hh), (2, .ref nn), (3, .int p0)] rfl ?_
  refine k_aload_n X dX0_burn_0 1 rfl ?_
  refine k_iconst (v := 3) X dX0_burn_1 (by decide) ?_
  refine k_callVI (n := 1) (As := [.int 3]) (st := []) X [(cO3_vrvvvvvv hh v0hh yhn v2hh v3hh v4hh v5hh v6hh v7hh), (cO8_iiri yhn 1 6 yhnc yhnn), (cAI g yhnc 6 yhnf)] [(cO0_ri h0 al xd), (cO8_iiri al 8 1 alc aln), (cAI g alc 8 alf), (cO5_riiiiiiii nn nr xsnapped xmostSlip xslip xisDrawn xseed xtick xmotorTick xahead), (cO8_iiri nr 8 10 nrc nrn), (cAI g nrc 80 nrf)] [3, 4, 5] [0, 1, 2, 6, 7, 8] (h_number l g hh 3 v0hh yhn v2hh v3hh v4hh v5hh v6hh v7hh yhnc yhnn yhnf) dX0_burn_2 mw1038 mw415 mw416 mw19 mw417 rfl 3 rfl rfl 0 _ rfl yk_yX3_number_1 rfl (Nat.le_of_ble_eq_true rfl) (Nat.le_of_ble_eq_true rfl) (Nat.le_of_ble_eq_true rfl) (Nat.le_of_ble_eq_true rfl) (Nat.le_of_ble_eq_true rfl) rfl rfl (by decide) rfl (by decide) (by decide) ?_
  rintro r_1 w rfl
  refine k_ws [(cO0_ri h0 al xd), (cO8_iiri al 8 1 alc aln), (cAI g alc 8 alf), (cO5_riiiiiiii nn nr xsnapped xmostSlip xslip xisDrawn xseed xtick xmotorTick xahead), (cO8_iiri nr 8 10 nrc nrn), (cAI g nrc 80 nrf), (cO3_vrvvvvvv hh v0hh yhn v2hh v3hh v4hh v5hh v6hh v7hh), (cO8_iiri yhn 1 6 yhnc yhnn), (cAI g yhnc 6 yhnf)] rfl ?_
  refine k_istore [(4, .int r_1), (0, .ref h0), (1, .ref hh), (2, .ref nn), (3, .int p0)] X dX0_burn_5 (by decide) rfl ?_
  refine k_aload_n X dX0_burn_7 2 rfl ?_
  refine k_iconst (v := 4) X dX0_burn_8 (by decide) ?_
  refine k_callVI (n := 1) (As := [.int 4]) (st := []) X [(cO3_vrvvvvvv hh v0hh yhn v2hh v3hh v4hh v5hh v6hh v7hh), (cO8_iiri yhn 1 6 yhnc yhnn), (cAI g yhnc 6 yhnf)] [(cO0_ri h0 al xd), (cO8_iiri al 8 1 alc aln), (cAI g alc 8 alf), (cO5_riiiiiiii nn nr xsnapped xmostSlip xslip xisDrawn xseed xtick xmotorTick xahead), (cO8_iiri nr 8 10 nrc nrn), (cAI g nrc 80 nrf)] [6, 7, 8] [0, 1, 2, 3, 4, 5] (h_number l g hh 4 v0hh yhn v2hh v3hh v4hh v5hh v6hh v7hh yhnc yhnn yhnf) dX0_burn_9 mw1038 mw415 mw416 mw19 mw417 rfl 3 rfl rfl 0 _ rfl yk_yX3_number_1 rfl (Nat.le_of_ble_eq_true rfl) (Nat.le_of_ble_eq_true rfl) (Nat.le_of_ble_eq_true rfl) (Nat.le_of_ble_eq_true rfl) (Nat.le_of_ble_eq_true rfl) rfl rfl (by decide) rfl (by decide) (by decide) ?_
  rintro r_3 w rfl
  refine k_ws [(cO0_ri h0 al xd), (cO8_iiri al 8 1 alc aln), (cAI g alc 8 alf), (cO5_riiiiiiii nn nr xsnapped xmostSlip xslip xisDrawn xseed xtick xmotorTick xahead), (cO8_iiri nr 8 10 nrc nrn), (cAI g nrc 80 nrf), (cO3_vrvvvvvv hh v0hh yhn v2hh v3hh v4hh v5hh v6hh v7hh), (cO8_iiri yhn 1 6 yhnc yhnn), (cAI g yhnc 6 yhnf)] rfl ?_
  refine k_istore [(5, .int r_3), (4, .int r_1), (0, .ref h0), (1, .ref hh), (2, .ref nn), (3, .int p0)] X dX0_burn_12 (by decide) rfl ?_
  refine k_aload_n X dX0_burn_14 2 rfl ?_
  refine k_iconst (v := 0) X dX0_burn_15 (by decide) ?_
  refine k_put (ci := 0) [(cO0_ri h0 al 0), (cO8_iiri al 8 1 alc aln), (cAI g alc 8 alf), (cO5_riiiiiiii nn nr xsnapped xmostSlip xslip xisDrawn xseed xtick xmotorTick xahead), (cO8_iiri nr 8 10 nrc nrn), (cAI g nrc 80 nrf), (cO3_vrvvvvvv hh v0hh yhn v2hh v3hh v4hh v5hh v6hh v7hh), (cO8_iiri yhn 1 6 yhnc yhnn), (cAI g yhnc 6 yhnf)] X inlX0 rfl tyX0_ok nmX0 1 (by decide) rfl dX0_burn_16 mw140 0 rfl rfl rfl (Nat.le_of_ble_eq_true rfl) rfl ?_
  refine k_iconst (v := 0) X dX0_burn_19 (by decide) ?_
  refine k_istore [(6, .int 0), (5, .int r_3), (4, .int r_1), (0, .ref h0), (1, .ref hh), (2, .ref nn), (3, .int p0)] X dX0_burn_20 (by decide) rfl ?_
  refine (fun hL : ∀ (nn_8 : Nat) (u_5 : Int32) (uf_6 : Nat → Int32) (u_7 : Int32), (nrn.toInt - u_5.toInt).toNat = nn_8 → Wk p l e _ s m args below meth c _ A g _ _ _ [(cO0_ri h0 al u_7), (cO8_iiri al 8 1 alc aln), (cAI g alc 8 uf_6), (cO5_riiiiiiii nn nr xsnapped xmostSlip xslip xisDrawn xseed xtick xmotorTick xahead), (cO8_iiri nr 8 10 nrc nrn), (cAI g nrc 80 nrf), (cO3_vrvvvvvv hh v0hh yhn v2hh v3hh v4hh v5hh v6hh v7hh), (cO8_iiri yhn 1 6 yhnc yhnn), (cAI g yhnc 6 yhnf)] [(6, .int u_5), (5, .int r_3), (4, .int r_1), (0, .ref h0), (1, .ref hh), (2, .ref nn), (3, .int p0)] 22 [] => hL _ 0 alf 0 rfl ) ?_
  refine fun nn_8 => Nat.strongRecOn nn_8 (fun nn_8 ih_10 => ?_)
  intro u_5 uf_6 u_7 hm_9 
  refine k_iload X dX0_burn_22 0 rfl ?_
  refine k_aload_n X dX0_burn_24 5 rfl ?_
  refine k_get (ci := 5) X inlX5 rfl 0 (by decide) dX0_burn_25 mw1036 3 rfl rfl ?_
  refine k_get (ci := 8) X inlX8 rfl 3 (by decide) dX0_burn_28 mw1037 4 rfl rfl ?_
  refine k_ic_ge 154 X dX0_burn_31 (by decide) (fun h_11 => ?_) (fun h_11 => ?_)
  · skip
    exact k_vret X hr dX0_burn_154 (Nat.le_of_ble_eq_true rfl) (Nat.le_of_ble_eq_true rfl) [0, 1, 2, 6, 7, 8, 3, 4, 5] (by decide) rfl rfl ⟨u_7, uf_6, rfl⟩
  · skip
    refine k_iload X dX0_burn_34 0 rfl ?_
    refine k_iconst (v := 2) X dX0_burn_36 (by decide) ?_
    refine k_ic_ge 45 X dX0_burn_37 (by decide) (fun h_12 => ?_) (fun h_12 => ?_)
    · skip
      refine k_aload_n X dX0_burn_45 3 rfl ?_
      refine k_get (ci := 0) X inlX0 rfl 0 (by decide) dX0_burn_46 mw139 0 rfl rfl ?_
      refine k_iload X dX0_burn_49 0 rfl ?_
      refine k_iconst (v := 2) X dX0_burn_51 (by decide) ?_
      refine k_isub X dX0_burn_52 ?_
      refine k_nm (fun z_13 ez_13 => ?_)
      refine k_iconst (v := 0) X dX0_burn_53 (by decide) ?_
      refine k_callVI (n := 2) (As := [.int z_13, .int 0]) (st := []) X [(cO8_iiri al 8 1 alc aln), (cAI g alc 8 uf_6)] [(cO0_ri h0 al u_7), (cO5_riiiiiiii nn nr xsnapped xmostSlip xslip xisDrawn xseed xtick xmotorTick xahead), (cO8_iiri nr 8 10 nrc nrn), (cAI g nrc 80 nrf), (cO3_vrvvvvvv hh v0hh yhn v2hh v3hh v4hh v5hh v6hh v7hh), (cO8_iiri yhn 1 6 yhnc yhnn), (cAI g yhnc 6 yhnf)] [1, 2] [0, 3, 4, 5, 6, 7, 8] (t_at l g al z_13 0 8 1 alc aln 8 uf_6 (tbk_8_1)) dX0_burn_54 mw1039 mw376 mw377 mw64 mw378 rfl 8 rfl rfl 0 _ rfl yk_yX8_at_2 rfl (Nat.le_of_ble_eq_true rfl) (Nat.le_of_ble_eq_true rfl) (Nat.le_of_ble_eq_true rfl) (Nat.le_of_ble_eq_true rfl) (Nat.le_of_ble_eq_true rfl) rfl rfl (by decide) rfl (by decide) (by decide) ?_
      rintro r_14 w ⟨hr_15, rfl⟩
      refine k_ws [(cO0_ri h0 al u_7), (cO5_riiiiiiii nn nr xsnapped xmostSlip xslip xisDrawn xseed xtick xmotorTick xahead), (cO8_iiri nr 8 10 nrc nrn), (cAI g nrc 80 nrf), (cO3_vrvvvvvv hh v0hh yhn v2hh v3hh v4hh v5hh v6hh v7hh), (cO8_iiri yhn 1 6 yhnc yhnn), (cAI g yhnc 6 yhnf), (cO8_iiri al 8 1 alc aln), (cAI g alc 8 uf_6)] rfl ?_
      refine k_istore [(7, .int r_14), (6, .int u_5), (5, .int r_3), (4, .int r_1), (0, .ref h0), (1, .ref hh), (2, .ref nn), (3, .int p0)] X dX0_burn_57 (by decide) rfl ?_
      refine k_iload_n X dX0_burn_59 7 rfl ?_
      refine k_iload X dX0_burn_60 1 rfl ?_
      refine k_ishr X dX0_burn_62 ?_
      refine k_nm (fun z_16 ez_16 => ?_)
      refine k_iconst (v := 1) X dX0_burn_63 (by decide) ?_
      refine k_iand X dX0_burn_64 ?_
      refine k_nm (fun z_17 ez_17 => ?_)
      refine k_iconst (v := 1) X dX0_burn_65 (by decide) ?_
      refine k_ic_ne 90 X dX0_burn_66 (by decide) (fun h_18 => ?_) (fun h_18 => ?_)
      · skip
        refine k_aload_n X dX0_burn_90 6 rfl ?_
        refine k_iload X dX0_burn_91 1 rfl ?_
        refine k_callVI (n := 1) (As := [.int u_5]) (st := []) X [(cO5_riiiiiiii nn nr xsnapped xmostSlip xslip xisDrawn xseed xtick xmotorTick xahead), (cO8_iiri nr 8 10 nrc nrn), (cAI g nrc 80 nrf)] [(cO0_ri h0 al u_7), (cO3_vrvvvvvv hh v0hh yhn v2hh v3hh v4hh v5hh v6hh v7hh), (cO8_iiri yhn 1 6 yhnc yhnn), (cAI g yhnc 6 yhnf), (cO8_iiri al 8 1 alc aln), (cAI g alc 8 uf_6)] [1, 2, 3] [0, 4, 5, 6, 7, 8] (n_needed l g nn u_5 nr xsnapped xmostSlip xslip xisDrawn xseed xtick xmotorTick xahead nrc nrn nrf) dX0_burn_93 mw1044 mw1015 mw1016 mw31 mw1017 rfl 5 rfl rfl 0 _ rfl yk_yX5_needed_1 rfl (Nat.le_of_ble_eq_true rfl) (Nat.le_of_ble_eq_true rfl) (Nat.le_of_ble_eq_true rfl) (Nat.le_of_ble_eq_true rfl) (Nat.le_of_ble_eq_true rfl) rfl rfl (by decide) rfl (by decide) (by decide) ?_
        rintro r_19 w rfl
        refine k_ws [(cO0_ri h0 al u_7), (cO3_vrvvvvvv hh v0hh yhn v2hh v3hh v4hh v5hh v6hh v7hh), (cO8_iiri yhn 1 6 yhnc yhnn), (cAI g yhnc 6 yhnf), (cO8_iiri al 8 1 alc aln), (cAI g alc 8 uf_6), (cO5_riiiiiiii nn nr xsnapped xmostSlip xslip xisDrawn xseed xtick xmotorTick xahead), (cO8_iiri nr 8 10 nrc nrn), (cAI g nrc 80 nrf)] rfl ?_
        refine k_istore [(8, .int r_19), (7, .int r_14), (6, .int u_5), (5, .int r_3), (4, .int r_1), (0, .ref h0), (1, .ref hh), (2, .ref nn), (3, .int p0)] X dX0_burn_96 (by decide) rfl ?_
        refine k_iload X dX0_burn_98 1 rfl ?_
        refine k_iload X dX0_burn_100 0 rfl ?_
        refine k_ic_ge 133 X dX0_burn_102 (by decide) (fun h_21 => ?_) (fun h_21 => ?_)
        · skip
          refine k_aload_n X dX0_burn_133 5 rfl ?_
          refine k_get (ci := 0) X inlX0 rfl 0 (by decide) dX0_burn_134 mw139 0 rfl rfl ?_
          refine k_iload X dX0_burn_137 2 rfl ?_
          refine k_iconst (v := 0) X dX0_burn_139 (by decide) ?_
          refine k_iload X dX0_burn_140 1 rfl ?_
          refine k_iload X dX0_burn_142 0 rfl ?_
          refine k_isub X dX0_burn_144 ?_
          refine k_nm (fun z_22 ez_22 => ?_)
          refine k_callVV (n := 3) (As := [.int u_5, .int 0, .int z_22]) (st := []) X [(cO8_iiri al 8 1 alc aln), (cAI g alc 8 uf_6)] [(cO0_ri h0 al u_7), (cO3_vrvvvvvv hh v0hh yhn v2hh v3hh v4hh v5hh v6hh v7hh), (cO8_iiri yhn 1 6 yhnc yhnn), (cAI g yhnc 6 yhnf), (cO5_riiiiiiii nn nr xsnapped xmostSlip xslip xisDrawn xseed xtick xmotorTick xahead), (cO8_iiri nr 8 10 nrc nrn), (cAI g nrc 80 nrf)] [4, 5] [0, 1, 2, 3, 6, 7, 8] (t_put l g al u_5 0 z_22 8 1 alc aln 8 uf_6 (tbk_8_1)) dX0_burn_145 mw1045 mw326 mw327 mw64 mw328 rfl 8 rfl rfl 0 _ rfl yk_yX8_put_3 rfl (Nat.le_of_ble_eq_true rfl) (Nat.le_of_ble_eq_true rfl) (Nat.le_of_ble_eq_true rfl) (Nat.le_of_ble_eq_true rfl) (Nat.le_of_ble_eq_true rfl) rfl rfl (by decide) rfl (by decide) (by decide) ?_
          rintro w ⟨fa_23, hr_25, rfl⟩
          refine k_ws [(cO0_ri h0 al u_7), (cO3_vrvvvvvv hh v0hh yhn v2hh v3hh v4hh v5hh v6hh v7hh), (cO8_iiri yhn 1 6 yhnc yhnn), (cAI g yhnc 6 yhnf), (cO5_riiiiiiii nn nr xsnapped xmostSlip xslip xisDrawn xseed xtick xmotorTick xahead), (cO8_iiri nr 8 10 nrc nrn), (cAI g nrc 80 nrf), (cO8_iiri al 8 1 alc aln), (cAI g alc 8 fa_23)] rfl ?_
          obtain ⟨z_26, ez_26⟩ : ∃ y : Int32, u_5 + Int32.ofInt 1 = y := ⟨_, rfl⟩
          refine k_iinc z_26 [(6, .int z_26), (8, .int r_19), (7, .int r_14), (5, .int r_3), (4, .int r_1), (0, .ref h0), (1, .ref hh), (2, .ref nn), (3, .int p0)] 2 X dX0_burn_148 rfl ez_26 (by decide) rfl ?_
          refine k_goto 22 X dX0_burn_151 (by decide) ?_
          refine k_lv [(6, .int z_26), (5, .int r_3), (4, .int r_1), (0, .ref h0), (1, .ref hh), (2, .ref nn), (3, .int p0)] [0, 3, 4, 5, 6, 7, 8] rfl ?_
          refine k_sub [(cO0_ri h0 al u_7), (cO8_iiri al 8 1 alc aln), (cAI g alc 8 fa_23), (cO5_riiiiiiii nn nr xsnapped xmostSlip xslip xisDrawn xseed xtick xmotorTick xahead), (cO8_iiri nr 8 10 nrc nrn), (cAI g nrc 80 nrf), (cO3_vrvvvvvv hh v0hh yhn v2hh v3hh v4hh v5hh v6hh v7hh), (cO8_iiri yhn 1 6 yhnc yhnn), (cAI g yhnc 6 yhnf)] [0, 7, 8, 4, 5, 6, 1, 2, 3] rfl (by decide) rfl ?_
          exact ih_10 _ (by rw [← hm_9]; exact mu_lt (by assumption) (by assumption)) z_26 fa_23 u_7 rfl 
        · skip
          refine k_aload_n X dX0_burn_105 5 rfl ?_
          refine k_dup X dX0_burn_106 rfl ?_
          refine k_get (ci := 0) X inlX0 rfl 1 (by decide) dX0_burn_107 mw140 0 rfl rfl ?_
          refine k_iconst (v := 1) X dX0_burn_110 (by decide) ?_
          refine k_iload X dX0_burn_111 2 rfl ?_
          refine k_ishl X dX0_burn_113 ?_
          refine k_nm (fun z_27 ez_27 => ?_)
          refine k_ior X dX0_burn_114 ?_
          refine k_nm (fun z_28 ez_28 => ?_)
          refine k_put (ci := 0) [(cO0_ri h0 al z_28), (cO3_vrvvvvvv hh v0hh yhn v2hh v3hh v4hh v5hh v6hh v7hh), (cO8_iiri yhn 1 6 yhnc yhnn), (cAI g yhnc 6 yhnf), (cO8_iiri al 8 1 alc aln), (cAI g alc 8 uf_6), (cO5_riiiiiiii nn nr xsnapped xmostSlip xslip xisDrawn xseed xtick xmotorTick xahead), (cO8_iiri nr 8 10 nrc nrn), (cAI g nrc 80 nrf)] X inlX0 rfl tyX0_ok nmX0 1 (by decide) rfl dX0_burn_115 mw140 0 rfl rfl rfl (Nat.le_of_ble_eq_true rfl) rfl ?_
          refine k_aload_n X dX0_burn_118 5 rfl ?_
          refine k_get (ci := 0) X inlX0 rfl 0 (by decide) dX0_burn_119 mw139 0 rfl rfl ?_
          refine k_iload X dX0_burn_122 2 rfl ?_
          refine k_iconst (v := 0) X dX0_burn_124 (by decide) ?_
          refine k_iload X dX0_burn_125 4 rfl ?_
          refine k_callVV (n := 3) (As := [.int u_5, .int 0, .int r_1]) (st := []) X [(cO8_iiri al 8 1 alc aln), (cAI g alc 8 uf_6)] [(cO0_ri h0 al z_28), (cO3_vrvvvvvv hh v0hh yhn v2hh v3hh v4hh v5hh v6hh v7hh), (cO8_iiri yhn 1 6 yhnc yhnn), (cAI g yhnc 6 yhnf), (cO5_riiiiiiii nn nr xsnapped xmostSlip xslip xisDrawn xseed xtick xmotorTick xahead), (cO8_iiri nr 8 10 nrc nrn), (cAI g nrc 80 nrf)] [4, 5] [0, 1, 2, 3, 6, 7, 8] (t_put l g al u_5 0 r_1 8 1 alc aln 8 uf_6 (tbk_8_1)) dX0_burn_127 mw1045 mw326 mw327 mw64 mw328 rfl 8 rfl rfl 0 _ rfl yk_yX8_put_3 rfl (Nat.le_of_ble_eq_true rfl) (Nat.le_of_ble_eq_true rfl) (Nat.le_of_ble_eq_true rfl) (Nat.le_of_ble_eq_true rfl) (Nat.le_of_ble_eq_true rfl) rfl rfl (by decide) rfl (by decide) (by decide) ?_
          rintro w ⟨fa_29, hr_31, rfl⟩
          refine k_ws [(cO0_ri h0 al z_28), (cO3_vrvvvvvv hh v0hh yhn v2hh v3hh v4hh v5hh v6hh v7hh), (cO8_iiri yhn 1 6 yhnc yhnn), (cAI g yhnc 6 yhnf), (cO5_riiiiiiii nn nr xsnapped xmostSlip xslip xisDrawn xseed xtick xmotorTick xahead), (cO8_iiri nr 8 10 nrc nrn), (cAI g nrc 80 nrf), (cO8_iiri al 8 1 alc aln), (cAI g alc 8 fa_29)] rfl ?_
          refine k_goto 148 X dX0_burn_130 (by decide) ?_
          obtain ⟨z_32, ez_32⟩ : ∃ y : Int32, u_5 + Int32.ofInt 1 = y := ⟨_, rfl⟩
          refine k_iinc z_32 [(6, .int z_32), (8, .int r_19), (7, .int r_14), (5, .int r_3), (4, .int r_1), (0, .ref h0), (1, .ref hh), (2, .ref nn), (3, .int p0)] 2 X dX0_burn_148 rfl ez_32 (by decide) rfl ?_
          refine k_goto 22 X dX0_burn_151 (by decide) ?_
          refine k_lv [(6, .int z_32), (5, .int r_3), (4, .int r_1), (0, .ref h0), (1, .ref hh), (2, .ref nn), (3, .int p0)] [0, 3, 4, 5, 6, 7, 8] rfl ?_
          refine k_sub [(cO0_ri h0 al z_28), (cO8_iiri al 8 1 alc aln), (cAI g alc 8 fa_29), (cO5_riiiiiiii nn nr xsnapped xmostSlip xslip xisDrawn xseed xtick xmotorTick xahead), (cO8_iiri nr 8 10 nrc nrn), (cAI g nrc 80 nrf), (cO3_vrvvvvvv hh v0hh yhn v2hh v3hh v4hh v5hh v6hh v7hh), (cO8_iiri yhn 1 6 yhnc yhnn), (cAI g yhnc 6 yhnf)] [0, 7, 8, 4, 5, 6, 1, 2, 3] rfl (by decide) rfl ?_
          exact ih_10 _ (by rw [← hm_9]; exact mu_lt (by assumption) (by assumption)) z_32 fa_29 z_28 rfl 
      · skip
        refine k_iload X dX0_burn_69 1 rfl ?_
        refine k_iconst (v := 2) X dX0_burn_71 (by decide) ?_
        refine k_ic_lt 90 X dX0_burn_72 (by decide) (fun h_33 => ?_) (fun h_33 => ?_)
        · skip
          refine k_aload_n X dX0_burn_90 6 rfl ?_
          refine k_iload X dX0_burn_91 1 rfl ?_
          refine k_callVI (n := 1) (As := [.int u_5]) (st := []) X [(cO5_riiiiiiii nn nr xsnapped xmostSlip xslip xisDrawn xseed xtick xmotorTick xahead), (cO8_iiri nr 8 10 nrc nrn), (cAI g nrc 80 nrf)] [(cO0_ri h0 al u_7), (cO3_vrvvvvvv hh v0hh yhn v2hh v3hh v4hh v5hh v6hh v7hh), (cO8_iiri yhn 1 6 yhnc yhnn), (cAI g yhnc 6 yhnf), (cO8_iiri al 8 1 alc aln), (cAI g alc 8 uf_6)] [1, 2, 3] [0, 4, 5, 6, 7, 8] (n_needed l g nn u_5 nr xsnapped xmostSlip xslip xisDrawn xseed xtick xmotorTick xahead nrc nrn nrf) dX0_burn_93 mw1044 mw1015 mw1016 mw31 mw1017 rfl 5 rfl rfl 0 _ rfl yk_yX5_needed_1 rfl (Nat.le_of_ble_eq_true rfl) (Nat.le_of_ble_eq_true rfl) (Nat.le_of_ble_eq_true rfl) (Nat.le_of_ble_eq_true rfl) (Nat.le_of_ble_eq_true rfl) rfl rfl (by decide) rfl (by decide) (by decide) ?_
          rintro r_34 w rfl
          refine k_ws [(cO0_ri h0 al u_7), (cO3_vrvvvvvv hh v0hh yhn v2hh v3hh v4hh v5hh v6hh v7hh), (cO8_iiri yhn 1 6 yhnc yhnn), (cAI g yhnc 6 yhnf), (cO8_iiri al 8 1 alc aln), (cAI g alc 8 uf_6), (cO5_riiiiiiii nn nr xsnapped xmostSlip xslip xisDrawn xseed xtick xmotorTick xahead), (cO8_iiri nr 8 10 nrc nrn), (cAI g nrc 80 nrf)] rfl ?_
          refine k_istore [(8, .int r_34), (7, .int r_14), (6, .int u_5), (5, .int r_3), (4, .int r_1), (0, .ref h0), (1, .ref hh), (2, .ref nn), (3, .int p0)] X dX0_burn_96 (by decide) rfl ?_
          refine k_iload X dX0_burn_98 1 rfl ?_
          refine k_iload X dX0_burn_100 0 rfl ?_
          refine k_ic_ge 133 X dX0_burn_102 (by decide) (fun h_36 => ?_) (fun h_36 => ?_)
          · skip
            refine k_aload_n X dX0_burn_133 5 rfl ?_
            refine k_get (ci := 0) X inlX0 rfl 0 (by decide) dX0_burn_134 mw139 0 rfl rfl ?_
            refine k_iload X dX0_burn_137 2 rfl ?_
            refine k_iconst (v := 0) X dX0_burn_139 (by decide) ?_
            refine k_iload X dX0_burn_140 1 rfl ?_
            refine k_iload X dX0_burn_142 0 rfl ?_
            refine k_isub X dX0_burn_144 ?_
            refine k_nm (fun z_37 ez_37 => ?_)
            refine k_callVV (n := 3) (As := [.int u_5, .int 0, .int z_37]) (st := []) X [(cO8_iiri al 8 1 alc aln), (cAI g alc 8 uf_6)] [(cO0_ri h0 al u_7), (cO3_vrvvvvvv hh v0hh yhn v2hh v3hh v4hh v5hh v6hh v7hh), (cO8_iiri yhn 1 6 yhnc yhnn), (cAI g yhnc 6 yhnf), (cO5_riiiiiiii nn nr xsnapped xmostSlip xslip xisDrawn xseed xtick xmotorTick xahead), (cO8_iiri nr 8 10 nrc nrn), (cAI g nrc 80 nrf)] [4, 5] [0, 1, 2, 3, 6, 7, 8] (t_put l g al u_5 0 z_37 8 1 alc aln 8 uf_6 (tbk_8_1)) dX0_burn_145 mw1045 mw326 mw327 mw64 mw328 rfl 8 rfl rfl 0 _ rfl yk_yX8_put_3 rfl (Nat.le_of_ble_eq_true rfl) (Nat.le_of_ble_eq_true rfl) (Nat.le_of_ble_eq_true rfl) (Nat.le_of_ble_eq_true rfl) (Nat.le_of_ble_eq_true rfl) rfl rfl (by decide) rfl (by decide) (by decide) ?_
            rintro w ⟨fa_38, hr_40, rfl⟩
            refine k_ws [(cO0_ri h0 al u_7), (cO3_vrvvvvvv hh v0hh yhn v2hh v3hh v4hh v5hh v6hh v7hh), (cO8_iiri yhn 1 6 yhnc yhnn), (cAI g yhnc 6 yhnf), (cO5_riiiiiiii nn nr xsnapped xmostSlip xslip xisDrawn xseed xtick xmotorTick xahead), (cO8_iiri nr 8 10 nrc nrn), (cAI g nrc 80 nrf), (cO8_iiri al 8 1 alc aln), (cAI g alc 8 fa_38)] rfl ?_
            obtain ⟨z_41, ez_41⟩ : ∃ y : Int32, u_5 + Int32.ofInt 1 = y := ⟨_, rfl⟩
            refine k_iinc z_41 [(6, .int z_41), (8, .int r_34), (7, .int r_14), (5, .int r_3), (4, .int r_1), (0, .ref h0), (1, .ref hh), (2, .ref nn), (3, .int p0)] 2 X dX0_burn_148 rfl ez_41 (by decide) rfl ?_
            refine k_goto 22 X dX0_burn_151 (by decide) ?_
            refine k_lv [(6, .int z_41), (5, .int r_3), (4, .int r_1), (0, .ref h0), (1, .ref hh), (2, .ref nn), (3, .int p0)] [0, 3, 4, 5, 6, 7, 8] rfl ?_
            refine k_sub [(cO0_ri h0 al u_7), (cO8_iiri al 8 1 alc aln), (cAI g alc 8 fa_38), (cO5_riiiiiiii nn nr xsnapped xmostSlip xslip xisDrawn xseed xtick xmotorTick xahead), (cO8_iiri nr 8 10 nrc nrn), (cAI g nrc 80 nrf), (cO3_vrvvvvvv hh v0hh yhn v2hh v3hh v4hh v5hh v6hh v7hh), (cO8_iiri yhn 1 6 yhnc yhnn), (cAI g yhnc 6 yhnf)] [0, 7, 8, 4, 5, 6, 1, 2, 3] rfl (by decide) rfl ?_
            exact ih_10 _ (by rw [← hm_9]; exact mu_lt (by assumption) (by assumption)) z_41 fa_38 u_7 rfl 
          · skip
            refine k_aload_n X dX0_burn_105 5 rfl ?_
            refine k_dup X dX0_burn_106 rfl ?_
            refine k_get (ci := 0) X inlX0 rfl 1 (by decide) dX0_burn_107 mw140 0 rfl rfl ?_
            refine k_iconst (v := 1) X dX0_burn_110 (by decide) ?_
            refine k_iload X dX0_burn_111 2 rfl ?_
            refine k_ishl X dX0_burn_113 ?_
            refine k_nm (fun z_42 ez_42 => ?_)
            refine k_ior X dX0_burn_114 ?_
            refine k_nm (fun z_43 ez_43 => ?_)
            refine k_put (ci := 0) [(cO0_ri h0 al z_43), (cO3_vrvvvvvv hh v0hh yhn v2hh v3hh v4hh v5hh v6hh v7hh), (cO8_iiri yhn 1 6 yhnc yhnn), (cAI g yhnc 6 yhnf), (cO8_iiri al 8 1 alc aln), (cAI g alc 8 uf_6), (cO5_riiiiiiii nn nr xsnapped xmostSlip xslip xisDrawn xseed xtick xmotorTick xahead), (cO8_iiri nr 8 10 nrc nrn), (cAI g nrc 80 nrf)] X inlX0 rfl tyX0_ok nmX0 1 (by decide) rfl dX0_burn_115 mw140 0 rfl rfl rfl (Nat.le_of_ble_eq_true rfl) rfl ?_
            refine k_aload_n X dX0_burn_118 5 rfl ?_
            refine k_get (ci := 0) X inlX0 rfl 0 (by decide) dX0_burn_119 mw139 0 rfl rfl ?_
            refine k_iload X dX0_burn_122 2 rfl ?_
            refine k_iconst (v := 0) X dX0_burn_124 (by decide) ?_
            refine k_iload X dX0_burn_125 4 rfl ?_
            refine k_callVV (n := 3) (As := [.int u_5, .int 0, .int r_1]) (st := []) X [(cO8_iiri al 8 1 alc aln), (cAI g alc 8 uf_6)] [(cO0_ri h0 al z_43), (cO3_vrvvvvvv hh v0hh yhn v2hh v3hh v4hh v5hh v6hh v7hh), (cO8_iiri yhn 1 6 yhnc yhnn), (cAI g yhnc 6 yhnf), (cO5_riiiiiiii nn nr xsnapped xmostSlip xslip xisDrawn xseed xtick xmotorTick xahead), (cO8_iiri nr 8 10 nrc nrn), (cAI g nrc 80 nrf)] [4, 5] [0, 1, 2, 3, 6, 7, 8] (t_put l g al u_5 0 r_1 8 1 alc aln 8 uf_6 (tbk_8_1)) dX0_burn_127 mw1045 mw326 mw327 mw64 mw328 rfl 8 rfl rfl 0 _ rfl yk_yX8_put_3 rfl (Nat.le_of_ble_eq_true rfl) (Nat.le_of_ble_eq_true rfl) (Nat.le_of_ble_eq_true rfl) (Nat.le_of_ble_eq_true rfl) (Nat.le_of_ble_eq_true rfl) rfl rfl (by decide) rfl (by decide) (by decide) ?_
            rintro w ⟨fa_44, hr_46, rfl⟩
            refine k_ws [(cO0_ri h0 al z_43), (cO3_vrvvvvvv hh v0hh yhn v2hh v3hh v4hh v5hh v6hh v7hh), (cO8_iiri yhn 1 6 yhnc yhnn), (cAI g yhnc 6 yhnf), (cO5_riiiiiiii nn nr xsnapped xmostSlip xslip xisDrawn xseed xtick xmotorTick xahead), (cO8_iiri nr 8 10 nrc nrn), (cAI g nrc 80 nrf), (cO8_iiri al 8 1 alc aln), (cAI g alc 8 fa_44)] rfl ?_
            refine k_goto 148 X dX0_burn_130 (by decide) ?_
            obtain ⟨z_47, ez_47⟩ : ∃ y : Int32, u_5 + Int32.ofInt 1 = y := ⟨_, rfl⟩
            refine k_iinc z_47 [(6, .int z_47), (8, .int r_34), (7, .int r_14), (5, .int r_3), (4, .int r_1), (0, .ref h0), (1, .ref hh), (2, .ref nn), (3, .int p0)] 2 X dX0_burn_148 rfl ez_47 (by decide) rfl ?_
            refine k_goto 22 X dX0_burn_151 (by decide) ?_
            refine k_lv [(6, .int z_47), (5, .int r_3), (4, .int r_1), (0, .ref h0), (1, .ref hh), (2, .ref nn), (3, .int p0)] [0, 3, 4, 5, 6, 7, 8] rfl ?_
            refine k_sub [(cO0_ri h0 al z_43), (cO8_iiri al 8 1 alc aln), (cAI g alc 8 fa_44), (cO5_riiiiiiii nn nr xsnapped xmostSlip xslip xisDrawn xseed xtick xmotorTick xahead), (cO8_iiri nr 8 10 nrc nrn), (cAI g nrc 80 nrf), (cO3_vrvvvvvv hh v0hh yhn v2hh v3hh v4hh v5hh v6hh v7hh), (cO8_iiri yhn 1 6 yhnc yhnn), (cAI g yhnc 6 yhnf)] [0, 7, 8, 4, 5, 6, 1, 2, 3] rfl (by decide) rfl ?_
            exact ih_10 _ (by rw [← hm_9]; exact mu_lt (by assumption) (by assumption)) z_47 fa_44 z_43 rfl 
        · skip
          refine k_aload_n X dX0_burn_75 6 rfl ?_
          refine k_iload X dX0_burn_76 1 rfl ?_
          refine k_callVI (n := 1) (As := [.int u_5]) (st := []) X [(cO5_riiiiiiii nn nr xsnapped xmostSlip xslip xisDrawn xseed xtick xmotorTick xahead), (cO8_iiri nr 8 10 nrc nrn), (cAI g nrc 80 nrf)] [(cO0_ri h0 al u_7), (cO3_vrvvvvvv hh v0hh yhn v2hh v3hh v4hh v5hh v6hh v7hh), (cO8_iiri yhn 1 6 yhnc yhnn), (cAI g yhnc 6 yhnf), (cO8_iiri al 8 1 alc aln), (cAI g alc 8 uf_6)] [1, 2, 3] [0, 4, 5, 6, 7, 8] (n_idle l g nn u_5 nr xsnapped xmostSlip xslip xisDrawn xseed xtick xmotorTick xahead nrc nrn nrf) dX0_burn_78 mw1040 mw1041 mw1042 mw31 mw1043 rfl 5 rfl rfl 0 _ rfl yk_yX5_idle_1 rfl (Nat.le_of_ble_eq_true rfl) (Nat.le_of_ble_eq_true rfl) (Nat.le_of_ble_eq_true rfl) (Nat.le_of_ble_eq_true rfl) (Nat.le_of_ble_eq_true rfl) rfl rfl (by decide) rfl (by decide) (by decide) ?_
          rintro r_48 w rfl
          refine k_ws [(cO0_ri h0 al u_7), (cO3_vrvvvvvv hh v0hh yhn v2hh v3hh v4hh v5hh v6hh v7hh), (cO8_iiri yhn 1 6 yhnc yhnn), (cAI g yhnc 6 yhnf), (cO8_iiri al 8 1 alc aln), (cAI g alc 8 uf_6), (cO5_riiiiiiii nn nr xsnapped xmostSlip xslip xisDrawn xseed xtick xmotorTick xahead), (cO8_iiri nr 8 10 nrc nrn), (cAI g nrc 80 nrf)] rfl ?_
          refine k_iload X dX0_burn_81 2 rfl ?_
          refine k_ic_lt 90 X dX0_burn_83 (by decide) (fun h_50 => ?_) (fun h_50 => ?_)
          · skip
            refine k_aload_n X dX0_burn_90 6 rfl ?_
            refine k_iload X dX0_burn_91 1 rfl ?_
            refine k_callVI (n := 1) (As := [.int u_5]) (st := []) X [(cO5_riiiiiiii nn nr xsnapped xmostSlip xslip xisDrawn xseed xtick xmotorTick xahead), (cO8_iiri nr 8 10 nrc nrn), (cAI g nrc 80 nrf)] [(cO0_ri h0 al u_7), (cO3_vrvvvvvv hh v0hh yhn v2hh v3hh v4hh v5hh v6hh v7hh), (cO8_iiri yhn 1 6 yhnc yhnn), (cAI g yhnc 6 yhnf), (cO8_iiri al 8 1 alc aln), (cAI g alc 8 uf_6)] [6, 7, 8] [0, 1, 2, 3, 4, 5] (n_needed l g nn u_5 nr xsnapped xmostSlip xslip xisDrawn xseed xtick xmotorTick xahead nrc nrn nrf) dX0_burn_93 mw1044 mw1015 mw1016 mw31 mw1017 rfl 5 rfl rfl 0 _ rfl yk_yX5_needed_1 rfl (Nat.le_of_ble_eq_true rfl) (Nat.le_of_ble_eq_true rfl) (Nat.le_of_ble_eq_true rfl) (Nat.le_of_ble_eq_true rfl) (Nat.le_of_ble_eq_true rfl) rfl rfl (by decide) rfl (by decide) (by decide) ?_
            rintro r_51 w rfl
            refine k_ws [(cO0_ri h0 al u_7), (cO3_vrvvvvvv hh v0hh yhn v2hh v3hh v4hh v5hh v6hh v7hh), (cO8_iiri yhn 1 6 yhnc yhnn), (cAI g yhnc 6 yhnf), (cO8_iiri al 8 1 alc aln), (cAI g alc 8 uf_6), (cO5_riiiiiiii nn nr xsnapped xmostSlip xslip xisDrawn xseed xtick xmotorTick xahead), (cO8_iiri nr 8 10 nrc nrn), (cAI g nrc 80 nrf)] rfl ?_
            refine k_istore [(8, .int r_51), (7, .int r_14), (6, .int u_5), (5, .int r_3), (4, .int r_1), (0, .ref h0), (1, .ref hh), (2, .ref nn), (3, .int p0)] X dX0_burn_96 (by decide) rfl ?_
            refine k_iload X dX0_burn_98 1 rfl ?_
            refine k_iload X dX0_burn_100 0 rfl ?_
            refine k_ic_ge 133 X dX0_burn_102 (by decide) (fun h_53 => ?_) (fun h_53 => ?_)
            · skip
              refine k_aload_n X dX0_burn_133 5 rfl ?_
              refine k_get (ci := 0) X inlX0 rfl 0 (by decide) dX0_burn_134 mw139 0 rfl rfl ?_
              refine k_iload X dX0_burn_137 2 rfl ?_
              refine k_iconst (v := 0) X dX0_burn_139 (by decide) ?_
              refine k_iload X dX0_burn_140 1 rfl ?_
              refine k_iload X dX0_burn_142 0 rfl ?_
              refine k_isub X dX0_burn_144 ?_
              refine k_nm (fun z_54 ez_54 => ?_)
              refine k_callVV (n := 3) (As := [.int u_5, .int 0, .int z_54]) (st := []) X [(cO8_iiri al 8 1 alc aln), (cAI g alc 8 uf_6)] [(cO0_ri h0 al u_7), (cO3_vrvvvvvv hh v0hh yhn v2hh v3hh v4hh v5hh v6hh v7hh), (cO8_iiri yhn 1 6 yhnc yhnn), (cAI g yhnc 6 yhnf), (cO5_riiiiiiii nn nr xsnapped xmostSlip xslip xisDrawn xseed xtick xmotorTick xahead), (cO8_iiri nr 8 10 nrc nrn), (cAI g nrc 80 nrf)] [4, 5] [0, 1, 2, 3, 6, 7, 8] (t_put l g al u_5 0 z_54 8 1 alc aln 8 uf_6 (tbk_8_1)) dX0_burn_145 mw1045 mw326 mw327 mw64 mw328 rfl 8 rfl rfl 0 _ rfl yk_yX8_put_3 rfl (Nat.le_of_ble_eq_true rfl) (Nat.le_of_ble_eq_true rfl) (Nat.le_of_ble_eq_true rfl) (Nat.le_of_ble_eq_true rfl) (Nat.le_of_ble_eq_true rfl) rfl rfl (by decide) rfl (by decide) (by decide) ?_
              rintro w ⟨fa_55, hr_57, rfl⟩
              refine k_ws [(cO0_ri h0 al u_7), (cO3_vrvvvvvv hh v0hh yhn v2hh v3hh v4hh v5hh v6hh v7hh), (cO8_iiri yhn 1 6 yhnc yhnn), (cAI g yhnc 6 yhnf), (cO5_riiiiiiii nn nr xsnapped xmostSlip xslip xisDrawn xseed xtick xmotorTick xahead), (cO8_iiri nr 8 10 nrc nrn), (cAI g nrc 80 nrf), (cO8_iiri al 8 1 alc aln), (cAI g alc 8 fa_55)] rfl ?_
              obtain ⟨z_58, ez_58⟩ : ∃ y : Int32, u_5 + Int32.ofInt 1 = y := ⟨_, rfl⟩
              refine k_iinc z_58 [(6, .int z_58), (8, .int r_51), (7, .int r_14), (5, .int r_3), (4, .int r_1), (0, .ref h0), (1, .ref hh), (2, .ref nn), (3, .int p0)] 2 X dX0_burn_148 rfl ez_58 (by decide) rfl ?_
              refine k_goto 22 X dX0_burn_151 (by decide) ?_
              refine k_lv [(6, .int z_58), (5, .int r_3), (4, .int r_1), (0, .ref h0), (1, .ref hh), (2, .ref nn), (3, .int p0)] [0, 3, 4, 5, 6, 7, 8] rfl ?_
              refine k_sub [(cO0_ri h0 al u_7), (cO8_iiri al 8 1 alc aln), (cAI g alc 8 fa_55), (cO5_riiiiiiii nn nr xsnapped xmostSlip xslip xisDrawn xseed xtick xmotorTick xahead), (cO8_iiri nr 8 10 nrc nrn), (cAI g nrc 80 nrf), (cO3_vrvvvvvv hh v0hh yhn v2hh v3hh v4hh v5hh v6hh v7hh), (cO8_iiri yhn 1 6 yhnc yhnn), (cAI g yhnc 6 yhnf)] [0, 7, 8, 4, 5, 6, 1, 2, 3] rfl (by decide) rfl ?_
              exact ih_10 _ (by rw [← hm_9]; exact mu_lt (by assumption) (by assumption)) z_58 fa_55 u_7 rfl 
            · skip
              refine k_aload_n X dX0_burn_105 5 rfl ?_
              refine k_dup X dX0_burn_106 rfl ?_
              refine k_get (ci := 0) X inlX0 rfl 1 (by decide) dX0_burn_107 mw140 0 rfl rfl ?_
              refine k_iconst (v := 1) X dX0_burn_110 (by decide) ?_
              refine k_iload X dX0_burn_111 2 rfl ?_
              refine k_ishl X dX0_burn_113 ?_
              refine k_nm (fun z_59 ez_59 => ?_)
              refine k_ior X dX0_burn_114 ?_
              refine k_nm (fun z_60 ez_60 => ?_)
              refine k_put (ci := 0) [(cO0_ri h0 al z_60), (cO3_vrvvvvvv hh v0hh yhn v2hh v3hh v4hh v5hh v6hh v7hh), (cO8_iiri yhn 1 6 yhnc yhnn), (cAI g yhnc 6 yhnf), (cO8_iiri al 8 1 alc aln), (cAI g alc 8 uf_6), (cO5_riiiiiiii nn nr xsnapped xmostSlip xslip xisDrawn xseed xtick xmotorTick xahead), (cO8_iiri nr 8 10 nrc nrn), (cAI g nrc 80 nrf)] X inlX0 rfl tyX0_ok nmX0 1 (by decide) rfl dX0_burn_115 mw140 0 rfl rfl rfl (Nat.le_of_ble_eq_true rfl) rfl ?_
              refine k_aload_n X dX0_burn_118 5 rfl ?_
              refine k_get (ci := 0) X inlX0 rfl 0 (by decide) dX0_burn_119 mw139 0 rfl rfl ?_
              refine k_iload X dX0_burn_122 2 rfl ?_
              refine k_iconst (v := 0) X dX0_burn_124 (by decide) ?_
              refine k_iload X dX0_burn_125 4 rfl ?_
              refine k_callVV (n := 3) (As := [.int u_5, .int 0, .int r_1]) (st := []) X [(cO8_iiri al 8 1 alc aln), (cAI g alc 8 uf_6)] [(cO0_ri h0 al z_60), (cO3_vrvvvvvv hh v0hh yhn v2hh v3hh v4hh v5hh v6hh v7hh), (cO8_iiri yhn 1 6 yhnc yhnn), (cAI g yhnc 6 yhnf), (cO5_riiiiiiii nn nr xsnapped xmostSlip xslip xisDrawn xseed xtick xmotorTick xahead), (cO8_iiri nr 8 10 nrc nrn), (cAI g nrc 80 nrf)] [4, 5] [0, 1, 2, 3, 6, 7, 8] (t_put l g al u_5 0 r_1 8 1 alc aln 8 uf_6 (tbk_8_1)) dX0_burn_127 mw1045 mw326 mw327 mw64 mw328 rfl 8 rfl rfl 0 _ rfl yk_yX8_put_3 rfl (Nat.le_of_ble_eq_true rfl) (Nat.le_of_ble_eq_true rfl) (Nat.le_of_ble_eq_true rfl) (Nat.le_of_ble_eq_true rfl) (Nat.le_of_ble_eq_true rfl) rfl rfl (by decide) rfl (by decide) (by decide) ?_
              rintro w ⟨fa_61, hr_63, rfl⟩
              refine k_ws [(cO0_ri h0 al z_60), (cO3_vrvvvvvv hh v0hh yhn v2hh v3hh v4hh v5hh v6hh v7hh), (cO8_iiri yhn 1 6 yhnc yhnn), (cAI g yhnc 6 yhnf), (cO5_riiiiiiii nn nr xsnapped xmostSlip xslip xisDrawn xseed xtick xmotorTick xahead), (cO8_iiri nr 8 10 nrc nrn), (cAI g nrc 80 nrf), (cO8_iiri al 8 1 alc aln), (cAI g alc 8 fa_61)] rfl ?_
              refine k_goto 148 X dX0_burn_130 (by decide) ?_
              obtain ⟨z_64, ez_64⟩ : ∃ y : Int32, u_5 + Int32.ofInt 1 = y := ⟨_, rfl⟩
              refine k_iinc z_64 [(6, .int z_64), (8, .int r_51), (7, .int r_14), (5, .int r_3), (4, .int r_1), (0, .ref h0), (1, .ref hh), (2, .ref nn), (3, .int p0)] 2 X dX0_burn_148 rfl ez_64 (by decide) rfl ?_
              refine k_goto 22 X dX0_burn_151 (by decide) ?_
              refine k_lv [(6, .int z_64), (5, .int r_3), (4, .int r_1), (0, .ref h0), (1, .ref hh), (2, .ref nn), (3, .int p0)] [0, 3, 4, 5, 6, 7, 8] rfl ?_
              refine k_sub [(cO0_ri h0 al z_60), (cO8_iiri al 8 1 alc aln), (cAI g alc 8 fa_61), (cO5_riiiiiiii nn nr xsnapped xmostSlip xslip xisDrawn xseed xtick xmotorTick xahead), (cO8_iiri nr 8 10 nrc nrn), (cAI g nrc 80 nrf), (cO3_vrvvvvvv hh v0hh yhn v2hh v3hh v4hh v5hh v6hh v7hh), (cO8_iiri yhn 1 6 yhnc yhnn), (cAI g yhnc 6 yhnf)] [0, 7, 8, 4, 5, 6, 1, 2, 3] rfl (by decide) rfl ?_
              exact ih_10 _ (by rw [← hm_9]; exact mu_lt (by assumption) (by assumption)) z_64 fa_61 z_60 rfl 
          · skip
            refine k_iload X dX0_burn_86 3 rfl ?_
            refine k_istore [(7, .int r_1), (6, .int u_5), (5, .int r_3), (4, .int r_1), (0, .ref h0), (1, .ref hh), (2, .ref nn), (3, .int p0)] X dX0_burn_88 (by decide) rfl ?_
            refine k_aload_n X dX0_burn_90 6 rfl ?_
            refine k_iload X dX0_burn_91 1 rfl ?_
            refine k_callVI (n := 1) (As := [.int u_5]) (st := []) X [(cO5_riiiiiiii nn nr xsnapped xmostSlip xslip xisDrawn xseed xtick xmotorTick xahead), (cO8_iiri nr 8 10 nrc nrn), (cAI g nrc 80 nrf)] [(cO0_ri h0 al u_7), (cO3_vrvvvvvv hh v0hh yhn v2hh v3hh v4hh v5hh v6hh v7hh), (cO8_iiri yhn 1 6 yhnc yhnn), (cAI g yhnc 6 yhnf), (cO8_iiri al 8 1 alc aln), (cAI g alc 8 uf_6)] [6, 7, 8] [0, 1, 2, 3, 4, 5] (n_needed l g nn u_5 nr xsnapped xmostSlip xslip xisDrawn xseed xtick xmotorTick xahead nrc nrn nrf) dX0_burn_93 mw1044 mw1015 mw1016 mw31 mw1017 rfl 5 rfl rfl 0 _ rfl yk_yX5_needed_1 rfl (Nat.le_of_ble_eq_true rfl) (Nat.le_of_ble_eq_true rfl) (Nat.le_of_ble_eq_true rfl) (Nat.le_of_ble_eq_true rfl) (Nat.le_of_ble_eq_true rfl) rfl rfl (by decide) rfl (by decide) (by decide) ?_
            rintro r_65 w rfl
            refine k_ws [(cO0_ri h0 al u_7), (cO3_vrvvvvvv hh v0hh yhn v2hh v3hh v4hh v5hh v6hh v7hh), (cO8_iiri yhn 1 6 yhnc yhnn), (cAI g yhnc 6 yhnf), (cO8_iiri al 8 1 alc aln), (cAI g alc 8 uf_6), (cO5_riiiiiiii nn nr xsnapped xmostSlip xslip xisDrawn xseed xtick xmotorTick xahead), (cO8_iiri nr 8 10 nrc nrn), (cAI g nrc 80 nrf)] rfl ?_
            refine k_istore [(8, .int r_65), (7, .int r_1), (6, .int u_5), (5, .int r_3), (4, .int r_1), (0, .ref h0), (1, .ref hh), (2, .ref nn), (3, .int p0)] X dX0_burn_96 (by decide) rfl ?_
            refine k_iload X dX0_burn_98 1 rfl ?_
            refine k_iload X dX0_burn_100 0 rfl ?_
            refine k_ic_ge 133 X dX0_burn_102 (by decide) (fun h_67 => ?_) (fun h_67 => ?_)
            · skip
              refine k_aload_n X dX0_burn_133 5 rfl ?_
              refine k_get (ci := 0) X inlX0 rfl 0 (by decide) dX0_burn_134 mw139 0 rfl rfl ?_
              refine k_iload X dX0_burn_137 2 rfl ?_
              refine k_iconst (v := 0) X dX0_burn_139 (by decide) ?_
              refine k_iload X dX0_burn_140 1 rfl ?_
              refine k_iload X dX0_burn_142 0 rfl ?_
              refine k_isub X dX0_burn_144 ?_
              refine k_nm (fun z_68 ez_68 => ?_)
              refine k_callVV (n := 3) (As := [.int u_5, .int 0, .int z_68]) (st := []) X [(cO8_iiri al 8 1 alc aln), (cAI g alc 8 uf_6)] [(cO0_ri h0 al u_7), (cO3_vrvvvvvv hh v0hh yhn v2hh v3hh v4hh v5hh v6hh v7hh), (cO8_iiri yhn 1 6 yhnc yhnn), (cAI g yhnc 6 yhnf), (cO5_riiiiiiii nn nr xsnapped xmostSlip xslip xisDrawn xseed xtick xmotorTick xahead), (cO8_iiri nr 8 10 nrc nrn), (cAI g nrc 80 nrf)] [4, 5] [0, 1, 2, 3, 6, 7, 8] (t_put l g al u_5 0 z_68 8 1 alc aln 8 uf_6 (tbk_8_1)) dX0_burn_145 mw1045 mw326 mw327 mw64 mw328 rfl 8 rfl rfl 0 _ rfl yk_yX8_put_3 rfl (Nat.le_of_ble_eq_true rfl) (Nat.le_of_ble_eq_true rfl) (Nat.le_of_ble_eq_true rfl) (Nat.le_of_ble_eq_true rfl) (Nat.le_of_ble_eq_true rfl) rfl rfl (by decide) rfl (by decide) (by decide) ?_
              rintro w ⟨fa_69, hr_71, rfl⟩
              refine k_ws [(cO0_ri h0 al u_7), (cO3_vrvvvvvv hh v0hh yhn v2hh v3hh v4hh v5hh v6hh v7hh), (cO8_iiri yhn 1 6 yhnc yhnn), (cAI g yhnc 6 yhnf), (cO5_riiiiiiii nn nr xsnapped xmostSlip xslip xisDrawn xseed xtick xmotorTick xahead), (cO8_iiri nr 8 10 nrc nrn), (cAI g nrc 80 nrf), (cO8_iiri al 8 1 alc aln), (cAI g alc 8 fa_69)] rfl ?_
              obtain ⟨z_72, ez_72⟩ : ∃ y : Int32, u_5 + Int32.ofInt 1 = y := ⟨_, rfl⟩
              refine k_iinc z_72 [(6, .int z_72), (8, .int r_65), (7, .int r_1), (5, .int r_3), (4, .int r_1), (0, .ref h0), (1, .ref hh), (2, .ref nn), (3, .int p0)] 2 X dX0_burn_148 rfl ez_72 (by decide) rfl ?_
              refine k_goto 22 X dX0_burn_151 (by decide) ?_
              refine k_lv [(6, .int z_72), (5, .int r_3), (4, .int r_1), (0, .ref h0), (1, .ref hh), (2, .ref nn), (3, .int p0)] [0, 3, 4, 5, 6, 7, 8] rfl ?_
              refine k_sub [(cO0_ri h0 al u_7), (cO8_iiri al 8 1 alc aln), (cAI g alc 8 fa_69), (cO5_riiiiiiii nn nr xsnapped xmostSlip xslip xisDrawn xseed xtick xmotorTick xahead), (cO8_iiri nr 8 10 nrc nrn), (cAI g nrc 80 nrf), (cO3_vrvvvvvv hh v0hh yhn v2hh v3hh v4hh v5hh v6hh v7hh), (cO8_iiri yhn 1 6 yhnc yhnn), (cAI g yhnc 6 yhnf)] [0, 7, 8, 4, 5, 6, 1, 2, 3] rfl (by decide) rfl ?_
              exact ih_10 _ (by rw [← hm_9]; exact mu_lt (by assumption) (by assumption)) z_72 fa_69 u_7 rfl 
            · skip
              refine k_aload_n X dX0_burn_105 5 rfl ?_
              refine k_dup X dX0_burn_106 rfl ?_
              refine k_get (ci := 0) X inlX0 rfl 1 (by decide) dX0_burn_107 mw140 0 rfl rfl ?_
              refine k_iconst (v := 1) X dX0_burn_110 (by decide) ?_
              refine k_iload X dX0_burn_111 2 rfl ?_
              refine k_ishl X dX0_burn_113 ?_
              refine k_nm (fun z_73 ez_73 => ?_)
              refine k_ior X dX0_burn_114 ?_
              refine k_nm (fun z_74 ez_74 => ?_)
              refine k_put (ci := 0) [(cO0_ri h0 al z_74), (cO3_vrvvvvvv hh v0hh yhn v2hh v3hh v4hh v5hh v6hh v7hh), (cO8_iiri yhn 1 6 yhnc yhnn), (cAI g yhnc 6 yhnf), (cO8_iiri al 8 1 alc aln), (cAI g alc 8 uf_6), (cO5_riiiiiiii nn nr xsnapped xmostSlip xslip xisDrawn xseed xtick xmotorTick xahead), (cO8_iiri nr 8 10 nrc nrn), (cAI g nrc 80 nrf)] X inlX0 rfl tyX0_ok nmX0 1 (by decide) rfl dX0_burn_115 mw140 0 rfl rfl rfl (Nat.le_of_ble_eq_true rfl) rfl ?_
              refine k_aload_n X dX0_burn_118 5 rfl ?_
              refine k_get (ci := 0) X inlX0 rfl 0 (by decide) dX0_burn_119 mw139 0 rfl rfl ?_
              refine k_iload X dX0_burn_122 2 rfl ?_
              refine k_iconst (v := 0) X dX0_burn_124 (by decide) ?_
              refine k_iload X dX0_burn_125 4 rfl ?_
              refine k_callVV (n := 3) (As := [.int u_5, .int 0, .int r_1]) (st := []) X [(cO8_iiri al 8 1 alc aln), (cAI g alc 8 uf_6)] [(cO0_ri h0 al z_74), (cO3_vrvvvvvv hh v0hh yhn v2hh v3hh v4hh v5hh v6hh v7hh), (cO8_iiri yhn 1 6 yhnc yhnn), (cAI g yhnc 6 yhnf), (cO5_riiiiiiii nn nr xsnapped xmostSlip xslip xisDrawn xseed xtick xmotorTick xahead), (cO8_iiri nr 8 10 nrc nrn), (cAI g nrc 80 nrf)] [4, 5] [0, 1, 2, 3, 6, 7, 8] (t_put l g al u_5 0 r_1 8 1 alc aln 8 uf_6 (tbk_8_1)) dX0_burn_127 mw1045 mw326 mw327 mw64 mw328 rfl 8 rfl rfl 0 _ rfl yk_yX8_put_3 rfl (Nat.le_of_ble_eq_true rfl) (Nat.le_of_ble_eq_true rfl) (Nat.le_of_ble_eq_true rfl) (Nat.le_of_ble_eq_true rfl) (Nat.le_of_ble_eq_true rfl) rfl rfl (by decide) rfl (by decide) (by decide) ?_
              rintro w ⟨fa_75, hr_77, rfl⟩
              refine k_ws [(cO0_ri h0 al z_74), (cO3_vrvvvvvv hh v0hh yhn v2hh v3hh v4hh v5hh v6hh v7hh), (cO8_iiri yhn 1 6 yhnc yhnn), (cAI g yhnc 6 yhnf), (cO5_riiiiiiii nn nr xsnapped xmostSlip xslip xisDrawn xseed xtick xmotorTick xahead), (cO8_iiri nr 8 10 nrc nrn), (cAI g nrc 80 nrf), (cO8_iiri al 8 1 alc aln), (cAI g alc 8 fa_75)] rfl ?_
              refine k_goto 148 X dX0_burn_130 (by decide) ?_
              obtain ⟨z_78, ez_78⟩ : ∃ y : Int32, u_5 + Int32.ofInt 1 = y := ⟨_, rfl⟩
              refine k_iinc z_78 [(6, .int z_78), (8, .int r_65), (7, .int r_1), (5, .int r_3), (4, .int r_1), (0, .ref h0), (1, .ref hh), (2, .ref nn), (3, .int p0)] 2 X dX0_burn_148 rfl ez_78 (by decide) rfl ?_
              refine k_goto 22 X dX0_burn_151 (by decide) ?_
              refine k_lv [(6, .int z_78), (5, .int r_3), (4, .int r_1), (0, .ref h0), (1, .ref hh), (2, .ref nn), (3, .int p0)] [0, 3, 4, 5, 6, 7, 8] rfl ?_
              refine k_sub [(cO0_ri h0 al z_74), (cO8_iiri al 8 1 alc aln), (cAI g alc 8 fa_75), (cO5_riiiiiiii nn nr xsnapped xmostSlip xslip xisDrawn xseed xtick xmotorTick xahead), (cO8_iiri nr 8 10 nrc nrn), (cAI g nrc 80 nrf), (cO3_vrvvvvvv hh v0hh yhn v2hh v3hh v4hh v5hh v6hh v7hh), (cO8_iiri yhn 1 6 yhnc yhnn), (cAI g yhnc 6 yhnf)] [0, 7, 8, 4, 5, 6, 1, 2, 3] rfl (by decide) rfl ?_
              exact ih_10 _ (by rw [← hm_9]; exact mu_lt (by assumption) (by assumption)) z_78 fa_75 z_74 rfl 
    · skip
      refine k_iload X dX0_burn_40 2 rfl ?_
      refine k_goto 57 X dX0_burn_42 (by decide) ?_
      refine k_istore [(7, .int r_1), (6, .int u_5), (5, .int r_3), (4, .int r_1), (0, .ref h0), (1, .ref hh), (2, .ref nn), (3, .int p0)] X dX0_burn_57 (by decide) rfl ?_
      refine k_iload_n X dX0_burn_59 7 rfl ?_
      refine k_iload X dX0_burn_60 1 rfl ?_
      refine k_ishr X dX0_burn_62 ?_
      refine k_nm (fun z_79 ez_79 => ?_)
      refine k_iconst (v := 1) X dX0_burn_63 (by decide) ?_
      refine k_iand X dX0_burn_64 ?_
      refine k_nm (fun z_80 ez_80 => ?_)
      refine k_iconst (v := 1) X dX0_burn_65 (by decide) ?_
      refine k_ic_ne 90 X dX0_burn_66 (by decide) (fun h_81 => ?_) (fun h_81 => ?_)
      · skip
        refine k_aload_n X dX0_burn_90 6 rfl ?_
        refine k_iload X dX0_burn_91 1 rfl ?_
        refine k_callVI (n := 1) (As := [.int u_5]) (st := []) X [(cO5_riiiiiiii nn nr xsnapped xmostSlip xslip xisDrawn xseed xtick xmotorTick xahead), (cO8_iiri nr 8 10 nrc nrn), (cAI g nrc 80 nrf)] [(cO0_ri h0 al u_7), (cO8_iiri al 8 1 alc aln), (cAI g alc 8 uf_6), (cO3_vrvvvvvv hh v0hh yhn v2hh v3hh v4hh v5hh v6hh v7hh), (cO8_iiri yhn 1 6 yhnc yhnn), (cAI g yhnc 6 yhnf)] [3, 4, 5] [0, 1, 2, 6, 7, 8] (n_needed l g nn u_5 nr xsnapped xmostSlip xslip xisDrawn xseed xtick xmotorTick xahead nrc nrn nrf) dX0_burn_93 mw1044 mw1015 mw1016 mw31 mw1017 rfl 5 rfl rfl 0 _ rfl yk_yX5_needed_1 rfl (Nat.le_of_ble_eq_true rfl) (Nat.le_of_ble_eq_true rfl) (Nat.le_of_ble_eq_true rfl) (Nat.le_of_ble_eq_true rfl) (Nat.le_of_ble_eq_true rfl) rfl rfl (by decide) rfl (by decide) (by decide) ?_
        rintro r_82 w rfl
        refine k_ws [(cO0_ri h0 al u_7), (cO8_iiri al 8 1 alc aln), (cAI g alc 8 uf_6), (cO3_vrvvvvvv hh v0hh yhn v2hh v3hh v4hh v5hh v6hh v7hh), (cO8_iiri yhn 1 6 yhnc yhnn), (cAI g yhnc 6 yhnf), (cO5_riiiiiiii nn nr xsnapped xmostSlip xslip xisDrawn xseed xtick xmotorTick xahead), (cO8_iiri nr 8 10 nrc nrn), (cAI g nrc 80 nrf)] rfl ?_
        refine k_istore [(8, .int r_82), (7, .int r_1), (6, .int u_5), (5, .int r_3), (4, .int r_1), (0, .ref h0), (1, .ref hh), (2, .ref nn), (3, .int p0)] X dX0_burn_96 (by decide) rfl ?_
        refine k_iload X dX0_burn_98 1 rfl ?_
        refine k_iload X dX0_burn_100 0 rfl ?_
        refine k_ic_ge 133 X dX0_burn_102 (by decide) (fun h_84 => ?_) (fun h_84 => ?_)
        · skip
          refine k_aload_n X dX0_burn_133 5 rfl ?_
          refine k_get (ci := 0) X inlX0 rfl 0 (by decide) dX0_burn_134 mw139 0 rfl rfl ?_
          refine k_iload X dX0_burn_137 2 rfl ?_
          refine k_iconst (v := 0) X dX0_burn_139 (by decide) ?_
          refine k_iload X dX0_burn_140 1 rfl ?_
          refine k_iload X dX0_burn_142 0 rfl ?_
          refine k_isub X dX0_burn_144 ?_
          refine k_nm (fun z_85 ez_85 => ?_)
          refine k_callVV (n := 3) (As := [.int u_5, .int 0, .int z_85]) (st := []) X [(cO8_iiri al 8 1 alc aln), (cAI g alc 8 uf_6)] [(cO0_ri h0 al u_7), (cO3_vrvvvvvv hh v0hh yhn v2hh v3hh v4hh v5hh v6hh v7hh), (cO8_iiri yhn 1 6 yhnc yhnn), (cAI g yhnc 6 yhnf), (cO5_riiiiiiii nn nr xsnapped xmostSlip xslip xisDrawn xseed xtick xmotorTick xahead), (cO8_iiri nr 8 10 nrc nrn), (cAI g nrc 80 nrf)] [1, 2] [0, 3, 4, 5, 6, 7, 8] (t_put l g al u_5 0 z_85 8 1 alc aln 8 uf_6 (tbk_8_1)) dX0_burn_145 mw1045 mw326 mw327 mw64 mw328 rfl 8 rfl rfl 0 _ rfl yk_yX8_put_3 rfl (Nat.le_of_ble_eq_true rfl) (Nat.le_of_ble_eq_true rfl) (Nat.le_of_ble_eq_true rfl) (Nat.le_of_ble_eq_true rfl) (Nat.le_of_ble_eq_true rfl) rfl rfl (by decide) rfl (by decide) (by decide) ?_
          rintro w ⟨fa_86, hr_88, rfl⟩
          refine k_ws [(cO0_ri h0 al u_7), (cO3_vrvvvvvv hh v0hh yhn v2hh v3hh v4hh v5hh v6hh v7hh), (cO8_iiri yhn 1 6 yhnc yhnn), (cAI g yhnc 6 yhnf), (cO5_riiiiiiii nn nr xsnapped xmostSlip xslip xisDrawn xseed xtick xmotorTick xahead), (cO8_iiri nr 8 10 nrc nrn), (cAI g nrc 80 nrf), (cO8_iiri al 8 1 alc aln), (cAI g alc 8 fa_86)] rfl ?_
          obtain ⟨z_89, ez_89⟩ : ∃ y : Int32, u_5 + Int32.ofInt 1 = y := ⟨_, rfl⟩
          refine k_iinc z_89 [(6, .int z_89), (8, .int r_82), (7, .int r_1), (5, .int r_3), (4, .int r_1), (0, .ref h0), (1, .ref hh), (2, .ref nn), (3, .int p0)] 2 X dX0_burn_148 rfl ez_89 (by decide) rfl ?_
          refine k_goto 22 X dX0_burn_151 (by decide) ?_
          refine k_lv [(6, .int z_89), (5, .int r_3), (4, .int r_1), (0, .ref h0), (1, .ref hh), (2, .ref nn), (3, .int p0)] [0, 3, 4, 5, 6, 7, 8] rfl ?_
          refine k_sub [(cO0_ri h0 al u_7), (cO8_iiri al 8 1 alc aln), (cAI g alc 8 fa_86), (cO5_riiiiiiii nn nr xsnapped xmostSlip xslip xisDrawn xseed xtick xmotorTick xahead), (cO8_iiri nr 8 10 nrc nrn), (cAI g nrc 80 nrf), (cO3_vrvvvvvv hh v0hh yhn v2hh v3hh v4hh v5hh v6hh v7hh), (cO8_iiri yhn 1 6 yhnc yhnn), (cAI g yhnc 6 yhnf)] [0, 7, 8, 4, 5, 6, 1, 2, 3] rfl (by decide) rfl ?_
          exact ih_10 _ (by rw [← hm_9]; exact mu_lt (by assumption) (by assumption)) z_89 fa_86 u_7 rfl 
        · skip
          refine k_aload_n X dX0_burn_105 5 rfl ?_
          refine k_dup X dX0_burn_106 rfl ?_
          refine k_get (ci := 0) X inlX0 rfl 1 (by decide) dX0_burn_107 mw140 0 rfl rfl ?_
          refine k_iconst (v := 1) X dX0_burn_110 (by decide) ?_
          refine k_iload X dX0_burn_111 2 rfl ?_
          refine k_ishl X dX0_burn_113 ?_
          refine k_nm (fun z_90 ez_90 => ?_)
          refine k_ior X dX0_burn_114 ?_
          refine k_nm (fun z_91 ez_91 => ?_)
          refine k_put (ci := 0) [(cO0_ri h0 al z_91), (cO8_iiri al 8 1 alc aln), (cAI g alc 8 uf_6), (cO3_vrvvvvvv hh v0hh yhn v2hh v3hh v4hh v5hh v6hh v7hh), (cO8_iiri yhn 1 6 yhnc yhnn), (cAI g yhnc 6 yhnf), (cO5_riiiiiiii nn nr xsnapped xmostSlip xslip xisDrawn xseed xtick xmotorTick xahead), (cO8_iiri nr 8 10 nrc nrn), (cAI g nrc 80 nrf)] X inlX0 rfl tyX0_ok nmX0 1 (by decide) rfl dX0_burn_115 mw140 0 rfl rfl rfl (Nat.le_of_ble_eq_true rfl) rfl ?_
          refine k_aload_n X dX0_burn_118 5 rfl ?_
          refine k_get (ci := 0) X inlX0 rfl 0 (by decide) dX0_burn_119 mw139 0 rfl rfl ?_
          refine k_iload X dX0_burn_122 2 rfl ?_
          refine k_iconst (v := 0) X dX0_burn_124 (by decide) ?_
          refine k_iload X dX0_burn_125 4 rfl ?_
          refine k_callVV (n := 3) (As := [.int u_5, .int 0, .int r_1]) (st := []) X [(cO8_iiri al 8 1 alc aln), (cAI g alc 8 uf_6)] [(cO0_ri h0 al z_91), (cO3_vrvvvvvv hh v0hh yhn v2hh v3hh v4hh v5hh v6hh v7hh), (cO8_iiri yhn 1 6 yhnc yhnn), (cAI g yhnc 6 yhnf), (cO5_riiiiiiii nn nr xsnapped xmostSlip xslip xisDrawn xseed xtick xmotorTick xahead), (cO8_iiri nr 8 10 nrc nrn), (cAI g nrc 80 nrf)] [1, 2] [0, 3, 4, 5, 6, 7, 8] (t_put l g al u_5 0 r_1 8 1 alc aln 8 uf_6 (tbk_8_1)) dX0_burn_127 mw1045 mw326 mw327 mw64 mw328 rfl 8 rfl rfl 0 _ rfl yk_yX8_put_3 rfl (Nat.le_of_ble_eq_true rfl) (Nat.le_of_ble_eq_true rfl) (Nat.le_of_ble_eq_true rfl) (Nat.le_of_ble_eq_true rfl) (Nat.le_of_ble_eq_true rfl) rfl rfl (by decide) rfl (by decide) (by decide) ?_
          rintro w ⟨fa_92, hr_94, rfl⟩
          refine k_ws [(cO0_ri h0 al z_91), (cO3_vrvvvvvv hh v0hh yhn v2hh v3hh v4hh v5hh v6hh v7hh), (cO8_iiri yhn 1 6 yhnc yhnn), (cAI g yhnc 6 yhnf), (cO5_riiiiiiii nn nr xsnapped xmostSlip xslip xisDrawn xseed xtick xmotorTick xahead), (cO8_iiri nr 8 10 nrc nrn), (cAI g nrc 80 nrf), (cO8_iiri al 8 1 alc aln), (cAI g alc 8 fa_92)] rfl ?_
          refine k_goto 148 X dX0_burn_130 (by decide) ?_
          obtain ⟨z_95, ez_95⟩ : ∃ y : Int32, u_5 + Int32.ofInt 1 = y := ⟨_, rfl⟩
          refine k_iinc z_95 [(6, .int z_95), (8, .int r_82), (7, .int r_1), (5, .int r_3), (4, .int r_1), (0, .ref h0), (1, .ref hh), (2, .ref nn), (3, .int p0)] 2 X dX0_burn_148 rfl ez_95 (by decide) rfl ?_
          refine k_goto 22 X dX0_burn_151 (by decide) ?_
          refine k_lv [(6, .int z_95), (5, .int r_3), (4, .int r_1), (0, .ref h0), (1, .ref hh), (2, .ref nn), (3, .int p0)] [0, 3, 4, 5, 6, 7, 8] rfl ?_
          refine k_sub [(cO0_ri h0 al z_91), (cO8_iiri al 8 1 alc aln), (cAI g alc 8 fa_92), (cO5_riiiiiiii nn nr xsnapped xmostSlip xslip xisDrawn xseed xtick xmotorTick xahead), (cO8_iiri nr 8 10 nrc nrn), (cAI g nrc 80 nrf), (cO3_vrvvvvvv hh v0hh yhn v2hh v3hh v4hh v5hh v6hh v7hh), (cO8_iiri yhn 1 6 yhnc yhnn), (cAI g yhnc 6 yhnf)] [0, 7, 8, 4, 5, 6, 1, 2, 3] rfl (by decide) rfl ?_
          exact ih_10 _ (by rw [← hm_9]; exact mu_lt (by assumption) (by assumption)) z_95 fa_92 z_91 rfl 
      · skip
        refine k_iload X dX0_burn_69 1 rfl ?_
        refine k_iconst (v := 2) X dX0_burn_71 (by decide) ?_
        refine k_ic_lt 90 X dX0_burn_72 (by decide) (fun h_96 => ?_) (fun h_96 => ?_)
        · skip
          refine k_aload_n X dX0_burn_90 6 rfl ?_
          refine k_iload X dX0_burn_91 1 rfl ?_
          refine k_callVI (n := 1) (As := [.int u_5]) (st := []) X [(cO5_riiiiiiii nn nr xsnapped xmostSlip xslip xisDrawn xseed xtick xmotorTick xahead), (cO8_iiri nr 8 10 nrc nrn), (cAI g nrc 80 nrf)] [(cO0_ri h0 al u_7), (cO8_iiri al 8 1 alc aln), (cAI g alc 8 uf_6), (cO3_vrvvvvvv hh v0hh yhn v2hh v3hh v4hh v5hh v6hh v7hh), (cO8_iiri yhn 1 6 yhnc yhnn), (cAI g yhnc 6 yhnf)] [3, 4, 5] [0, 1, 2, 6, 7, 8] (n_needed l g nn u_5 nr xsnapped xmostSlip xslip xisDrawn xseed xtick xmotorTick xahead nrc nrn nrf) dX0_burn_93 mw1044 mw1015 mw1016 mw31 mw1017 rfl 5 rfl rfl 0 _ rfl yk_yX5_needed_1 rfl (Nat.le_of_ble_eq_true rfl) (Nat.le_of_ble_eq_true rfl) (Nat.le_of_ble_eq_true rfl) (Nat.le_of_ble_eq_true rfl) (Nat.le_of_ble_eq_true rfl) rfl rfl (by decide) rfl (by decide) (by decide) ?_
          rintro r_97 w rfl
          refine k_ws [(cO0_ri h0 al u_7), (cO8_iiri al 8 1 alc aln), (cAI g alc 8 uf_6), (cO3_vrvvvvvv hh v0hh yhn v2hh v3hh v4hh v5hh v6hh v7hh), (cO8_iiri yhn 1 6 yhnc yhnn), (cAI g yhnc 6 yhnf), (cO5_riiiiiiii nn nr xsnapped xmostSlip xslip xisDrawn xseed xtick xmotorTick xahead), (cO8_iiri nr 8 10 nrc nrn), (cAI g nrc 80 nrf)] rfl ?_
          refine k_istore [(8, .int r_97), (7, .int r_1), (6, .int u_5), (5, .int r_3), (4, .int r_1), (0, .ref h0), (1, .ref hh), (2, .ref nn), (3, .int p0)] X dX0_burn_96 (by decide) rfl ?_
          refine k_iload X dX0_burn_98 1 rfl ?_
          refine k_iload X dX0_burn_100 0 rfl ?_
          refine k_ic_ge 133 X dX0_burn_102 (by decide) (fun h_99 => ?_) (fun h_99 => ?_)
          · skip
            refine k_aload_n X dX0_burn_133 5 rfl ?_
            refine k_get (ci := 0) X inlX0 rfl 0 (by decide) dX0_burn_134 mw139 0 rfl rfl ?_
            refine k_iload X dX0_burn_137 2 rfl ?_
            refine k_iconst (v := 0) X dX0_burn_139 (by decide) ?_
            refine k_iload X dX0_burn_140 1 rfl ?_
            refine k_iload X dX0_burn_142 0 rfl ?_
            refine k_isub X dX0_burn_144 ?_
            refine k_nm (fun z_100 ez_100 => ?_)
            refine k_callVV (n := 3) (As := [.int u_5, .int 0, .int z_100]) (st := []) X [(cO8_iiri al 8 1 alc aln), (cAI g alc 8 uf_6)] [(cO0_ri h0 al u_7), (cO3_vrvvvvvv hh v0hh yhn v2hh v3hh v4hh v5hh v6hh v7hh), (cO8_iiri yhn 1 6 yhnc yhnn), (cAI g yhnc 6 yhnf), (cO5_riiiiiiii nn nr xsnapped xmostSlip xslip xisDrawn xseed xtick xmotorTick xahead), (cO8_iiri nr 8 10 nrc nrn), (cAI g nrc 80 nrf)] [1, 2] [0, 3, 4, 5, 6, 7, 8] (t_put l g al u_5 0 z_100 8 1 alc aln 8 uf_6 (tbk_8_1)) dX0_burn_145 mw1045 mw326 mw327 mw64 mw328 rfl 8 rfl rfl 0 _ rfl yk_yX8_put_3 rfl (Nat.le_of_ble_eq_true rfl) (Nat.le_of_ble_eq_true rfl) (Nat.le_of_ble_eq_true rfl) (Nat.le_of_ble_eq_true rfl) (Nat.le_of_ble_eq_true rfl) rfl rfl (by decide) rfl (by decide) (by decide) ?_
            rintro w ⟨fa_101, hr_103, rfl⟩
            refine k_ws [(cO0_ri h0 al u_7), (cO3_vrvvvvvv hh v0hh yhn v2hh v3hh v4hh v5hh v6hh v7hh), (cO8_iiri yhn 1 6 yhnc yhnn), (cAI g yhnc 6 yhnf), (cO5_riiiiiiii nn nr xsnapped xmostSlip xslip xisDrawn xseed xtick xmotorTick xahead), (cO8_iiri nr 8 10 nrc nrn), (cAI g nrc 80 nrf), (cO8_iiri al 8 1 alc aln), (cAI g alc 8 fa_101)] rfl ?_
            obtain ⟨z_104, ez_104⟩ : ∃ y : Int32, u_5 + Int32.ofInt 1 = y := ⟨_, rfl⟩
            refine k_iinc z_104 [(6, .int z_104), (8, .int r_97), (7, .int r_1), (5, .int r_3), (4, .int r_1), (0, .ref h0), (1, .ref hh), (2, .ref nn), (3, .int p0)] 2 X dX0_burn_148 rfl ez_104 (by decide) rfl ?_
            refine k_goto 22 X dX0_burn_151 (by decide) ?_
            refine k_lv [(6, .int z_104), (5, .int r_3), (4, .int r_1), (0, .ref h0), (1, .ref hh), (2, .ref nn), (3, .int p0)] [0, 3, 4, 5, 6, 7, 8] rfl ?_
            refine k_sub [(cO0_ri h0 al u_7), (cO8_iiri al 8 1 alc aln), (cAI g alc 8 fa_101), (cO5_riiiiiiii nn nr xsnapped xmostSlip xslip xisDrawn xseed xtick xmotorTick xahead), (cO8_iiri nr 8 10 nrc nrn), (cAI g nrc 80 nrf), (cO3_vrvvvvvv hh v0hh yhn v2hh v3hh v4hh v5hh v6hh v7hh), (cO8_iiri yhn 1 6 yhnc yhnn), (cAI g yhnc 6 yhnf)] [0, 7, 8, 4, 5, 6, 1, 2, 3] rfl (by decide) rfl ?_
            exact ih_10 _ (by rw [← hm_9]; exact mu_lt (by assumption) (by assumption)) z_104 fa_101 u_7 rfl 
          · skip
            refine k_aload_n X dX0_burn_105 5 rfl ?_
            refine k_dup X dX0_burn_106 rfl ?_
            refine k_get (ci := 0) X inlX0 rfl 1 (by decide) dX0_burn_107 mw140 0 rfl rfl ?_
            refine k_iconst (v := 1) X dX0_burn_110 (by decide) ?_
            refine k_iload X dX0_burn_111 2 rfl ?_
            refine k_ishl X dX0_burn_113 ?_
            refine k_nm (fun z_105 ez_105 => ?_)
            refine k_ior X dX0_burn_114 ?_
            refine k_nm (fun z_106 ez_106 => ?_)
            refine k_put (ci := 0) [(cO0_ri h0 al z_106), (cO8_iiri al 8 1 alc aln), (cAI g alc 8 uf_6), (cO3_vrvvvvvv hh v0hh yhn v2hh v3hh v4hh v5hh v6hh v7hh), (cO8_iiri yhn 1 6 yhnc yhnn), (cAI g yhnc 6 yhnf), (cO5_riiiiiiii nn nr xsnapped xmostSlip xslip xisDrawn xseed xtick xmotorTick xahead), (cO8_iiri nr 8 10 nrc nrn), (cAI g nrc 80 nrf)] X inlX0 rfl tyX0_ok nmX0 1 (by decide) rfl dX0_burn_115 mw140 0 rfl rfl rfl (Nat.le_of_ble_eq_true rfl) rfl ?_
            refine k_aload_n X dX0_burn_118 5 rfl ?_
            refine k_get (ci := 0) X inlX0 rfl 0 (by decide) dX0_burn_119 mw139 0 rfl rfl ?_
            refine k_iload X dX0_burn_122 2 rfl ?_
            refine k_iconst (v := 0) X dX0_burn_124 (by decide) ?_
            refine k_iload X dX0_burn_125 4 rfl ?_
            refine k_callVV (n := 3) (As := [.int u_5, .int 0, .int r_1]) (st := []) X [(cO8_iiri al 8 1 alc aln), (cAI g alc 8 uf_6)] [(cO0_ri h0 al z_106), (cO3_vrvvvvvv hh v0hh yhn v2hh v3hh v4hh v5hh v6hh v7hh), (cO8_iiri yhn 1 6 yhnc yhnn), (cAI g yhnc 6 yhnf), (cO5_riiiiiiii nn nr xsnapped xmostSlip xslip xisDrawn xseed xtick xmotorTick xahead), (cO8_iiri nr 8 10 nrc nrn), (cAI g nrc 80 nrf)] [1, 2] [0, 3, 4, 5, 6, 7, 8] (t_put l g al u_5 0 r_1 8 1 alc aln 8 uf_6 (tbk_8_1)) dX0_burn_127 mw1045 mw326 mw327 mw64 mw328 rfl 8 rfl rfl 0 _ rfl yk_yX8_put_3 rfl (Nat.le_of_ble_eq_true rfl) (Nat.le_of_ble_eq_true rfl) (Nat.le_of_ble_eq_true rfl) (Nat.le_of_ble_eq_true rfl) (Nat.le_of_ble_eq_true rfl) rfl rfl (by decide) rfl (by decide) (by decide) ?_
            rintro w ⟨fa_107, hr_109, rfl⟩
            refine k_ws [(cO0_ri h0 al z_106), (cO3_vrvvvvvv hh v0hh yhn v2hh v3hh v4hh v5hh v6hh v7hh), (cO8_iiri yhn 1 6 yhnc yhnn), (cAI g yhnc 6 yhnf), (cO5_riiiiiiii nn nr xsnapped xmostSlip xslip xisDrawn xseed xtick xmotorTick xahead), (cO8_iiri nr 8 10 nrc nrn), (cAI g nrc 80 nrf), (cO8_iiri al 8 1 alc aln), (cAI g alc 8 fa_107)] rfl ?_
            refine k_goto 148 X dX0_burn_130 (by decide) ?_
            obtain ⟨z_110, ez_110⟩ : ∃ y : Int32, u_5 + Int32.ofInt 1 = y := ⟨_, rfl⟩
            refine k_iinc z_110 [(6, .int z_110), (8, .int r_97), (7, .int r_1), (5, .int r_3), (4, .int r_1), (0, .ref h0), (1, .ref hh), (2, .ref nn), (3, .int p0)] 2 X dX0_burn_148 rfl ez_110 (by decide) rfl ?_
            refine k_goto 22 X dX0_burn_151 (by decide) ?_
            refine k_lv [(6, .int z_110), (5, .int r_3), (4, .int r_1), (0, .ref h0), (1, .ref hh), (2, .ref nn), (3, .int p0)] [0, 3, 4, 5, 6, 7, 8] rfl ?_
            refine k_sub [(cO0_ri h0 al z_106), (cO8_iiri al 8 1 alc aln), (cAI g alc 8 fa_107), (cO5_riiiiiiii nn nr xsnapped xmostSlip xslip xisDrawn xseed xtick xmotorTick xahead), (cO8_iiri nr 8 10 nrc nrn), (cAI g nrc 80 nrf), (cO3_vrvvvvvv hh v0hh yhn v2hh v3hh v4hh v5hh v6hh v7hh), (cO8_iiri yhn 1 6 yhnc yhnn), (cAI g yhnc 6 yhnf)] [0, 7, 8, 4, 5, 6, 1, 2, 3] rfl (by decide) rfl ?_
            exact ih_10 _ (by rw [← hm_9]; exact mu_lt (by assumption) (by assumption)) z_110 fa_107 z_106 rfl 
        · skip
          refine k_aload_n X dX0_burn_75 6 rfl ?_
          refine k_iload X dX0_burn_76 1 rfl ?_
          refine k_callVI (n := 1) (As := [.int u_5]) (st := []) X [(cO5_riiiiiiii nn nr xsnapped xmostSlip xslip xisDrawn xseed xtick xmotorTick xahead), (cO8_iiri nr 8 10 nrc nrn), (cAI g nrc 80 nrf)] [(cO0_ri h0 al u_7), (cO8_iiri al 8 1 alc aln), (cAI g alc 8 uf_6), (cO3_vrvvvvvv hh v0hh yhn v2hh v3hh v4hh v5hh v6hh v7hh), (cO8_iiri yhn 1 6 yhnc yhnn), (cAI g yhnc 6 yhnf)] [3, 4, 5] [0, 1, 2, 6, 7, 8] (n_idle l g nn u_5 nr xsnapped xmostSlip xslip xisDrawn xseed xtick xmotorTick xahead nrc nrn nrf) dX0_burn_78 mw1040 mw1041 mw1042 mw31 mw1043 rfl 5 rfl rfl 0 _ rfl yk_yX5_idle_1 rfl (Nat.le_of_ble_eq_true rfl) (Nat.le_of_ble_eq_true rfl) (Nat.le_of_ble_eq_true rfl) (Nat.le_of_ble_eq_true rfl) (Nat.le_of_ble_eq_true rfl) rfl rfl (by decide) rfl (by decide) (by decide) ?_
          rintro r_111 w rfl
          refine k_ws [(cO0_ri h0 al u_7), (cO8_iiri al 8 1 alc aln), (cAI g alc 8 uf_6), (cO3_vrvvvvvv hh v0hh yhn v2hh v3hh v4hh v5hh v6hh v7hh), (cO8_iiri yhn 1 6 yhnc yhnn), (cAI g yhnc 6 yhnf), (cO5_riiiiiiii nn nr xsnapped xmostSlip xslip xisDrawn xseed xtick xmotorTick xahead), (cO8_iiri nr 8 10 nrc nrn), (cAI g nrc 80 nrf)] rfl ?_
          refine k_iload X dX0_burn_81 2 rfl ?_
          refine k_ic_lt 90 X dX0_burn_83 (by decide) (fun h_113 => ?_) (fun h_113 => ?_)
          · skip
            refine k_aload_n X dX0_burn_90 6 rfl ?_
            refine k_iload X dX0_burn_91 1 rfl ?_
            refine k_callVI (n := 1) (As := [.int u_5]) (st := []) X [(cO5_riiiiiiii nn nr xsnapped xmostSlip xslip xisDrawn xseed xtick xmotorTick xahead), (cO8_iiri nr 8 10 nrc nrn), (cAI g nrc 80 nrf)] [(cO0_ri h0 al u_7), (cO8_iiri al 8 1 alc aln), (cAI g alc 8 uf_6), (cO3_vrvvvvvv hh v0hh yhn v2hh v3hh v4hh v5hh v6hh v7hh), (cO8_iiri yhn 1 6 yhnc yhnn), (cAI g yhnc 6 yhnf)] [6, 7, 8] [0, 1, 2, 3, 4, 5] (n_needed l g nn u_5 nr xsnapped xmostSlip xslip xisDrawn xseed xtick xmotorTick xahead nrc nrn nrf) dX0_burn_93 mw1044 mw1015 mw1016 mw31 mw1017 rfl 5 rfl rfl 0 _ rfl yk_yX5_needed_1 rfl (Nat.le_of_ble_eq_true rfl) (Nat.le_of_ble_eq_true rfl) (Nat.le_of_ble_eq_true rfl) (Nat.le_of_ble_eq_true rfl) (Nat.le_of_ble_eq_true rfl) rfl rfl (by decide) rfl (by decide) (by decide) ?_
            rintro r_114 w rfl
            refine k_ws [(cO0_ri h0 al u_7), (cO8_iiri al 8 1 alc aln), (cAI g alc 8 uf_6), (cO3_vrvvvvvv hh v0hh yhn v2hh v3hh v4hh v5hh v6hh v7hh), (cO8_iiri yhn 1 6 yhnc yhnn), (cAI g yhnc 6 yhnf), (cO5_riiiiiiii nn nr xsnapped xmostSlip xslip xisDrawn xseed xtick xmotorTick xahead), (cO8_iiri nr 8 10 nrc nrn), (cAI g nrc 80 nrf)] rfl ?_
            refine k_istore [(8, .int r_114), (7, .int r_1), (6, .int u_5), (5, .int r_3), (4, .int r_1), (0, .ref h0), (1, .ref hh), (2, .ref nn), (3, .int p0)] X dX0_burn_96 (by decide) rfl ?_
            refine k_iload X dX0_burn_98 1 rfl ?_
            refine k_iload X dX0_burn_100 0 rfl ?_
            refine k_ic_ge 133 X dX0_burn_102 (by decide) (fun h_116 => ?_) (fun h_116 => ?_)
            · skip
              refine k_aload_n X dX0_burn_133 5 rfl ?_
              refine k_get (ci := 0) X inlX0 rfl 0 (by decide) dX0_burn_134 mw139 0 rfl rfl ?_
              refine k_iload X dX0_burn_137 2 rfl ?_
              refine k_iconst (v := 0) X dX0_burn_139 (by decide) ?_
              refine k_iload X dX0_burn_140 1 rfl ?_
              refine k_iload X dX0_burn_142 0 rfl ?_
              refine k_isub X dX0_burn_144 ?_
              refine k_nm (fun z_117 ez_117 => ?_)
              refine k_callVV (n := 3) (As := [.int u_5, .int 0, .int z_117]) (st := []) X [(cO8_iiri al 8 1 alc aln), (cAI g alc 8 uf_6)] [(cO0_ri h0 al u_7), (cO3_vrvvvvvv hh v0hh yhn v2hh v3hh v4hh v5hh v6hh v7hh), (cO8_iiri yhn 1 6 yhnc yhnn), (cAI g yhnc 6 yhnf), (cO5_riiiiiiii nn nr xsnapped xmostSlip xslip xisDrawn xseed xtick xmotorTick xahead), (cO8_iiri nr 8 10 nrc nrn), (cAI g nrc 80 nrf)] [1, 2] [0, 3, 4, 5, 6, 7, 8] (t_put l g al u_5 0 z_117 8 1 alc aln 8 uf_6 (tbk_8_1)) dX0_burn_145 mw1045 mw326 mw327 mw64 mw328 rfl 8 rfl rfl 0 _ rfl yk_yX8_put_3 rfl (Nat.le_of_ble_eq_true rfl) (Nat.le_of_ble_eq_true rfl) (Nat.le_of_ble_eq_true rfl) (Nat.le_of_ble_eq_true rfl) (Nat.le_of_ble_eq_true rfl) rfl rfl (by decide) rfl (by decide) (by decide) ?_
              rintro w ⟨fa_118, hr_120, rfl⟩
              refine k_ws [(cO0_ri h0 al u_7), (cO3_vrvvvvvv hh v0hh yhn v2hh v3hh v4hh v5hh v6hh v7hh), (cO8_iiri yhn 1 6 yhnc yhnn), (cAI g yhnc 6 yhnf), (cO5_riiiiiiii nn nr xsnapped xmostSlip xslip xisDrawn xseed xtick xmotorTick xahead), (cO8_iiri nr 8 10 nrc nrn), (cAI g nrc 80 nrf), (cO8_iiri al 8 1 alc aln), (cAI g alc 8 fa_118)] rfl ?_
              obtain ⟨z_121, ez_121⟩ : ∃ y : Int32, u_5 + Int32.ofInt 1 = y := ⟨_, rfl⟩
              refine k_iinc z_121 [(6, .int z_121), (8, .int r_114), (7, .int r_1), (5, .int r_3), (4, .int r_1), (0, .ref h0), (1, .ref hh), (2, .ref nn), (3, .int p0)] 2 X dX0_burn_148 rfl ez_121 (by decide) rfl ?_
              refine k_goto 22 X dX0_burn_151 (by decide) ?_
              refine k_lv [(6, .int z_121), (5, .int r_3), (4, .int r_1), (0, .ref h0), (1, .ref hh), (2, .ref nn), (3, .int p0)] [0, 3, 4, 5, 6, 7, 8] rfl ?_
              refine k_sub [(cO0_ri h0 al u_7), (cO8_iiri al 8 1 alc aln), (cAI g alc 8 fa_118), (cO5_riiiiiiii nn nr xsnapped xmostSlip xslip xisDrawn xseed xtick xmotorTick xahead), (cO8_iiri nr 8 10 nrc nrn), (cAI g nrc 80 nrf), (cO3_vrvvvvvv hh v0hh yhn v2hh v3hh v4hh v5hh v6hh v7hh), (cO8_iiri yhn 1 6 yhnc yhnn), (cAI g yhnc 6 yhnf)] [0, 7, 8, 4, 5, 6, 1, 2, 3] rfl (by decide) rfl ?_
              exact ih_10 _ (by rw [← hm_9]; exact mu_lt (by assumption) (by assumption)) z_121 fa_118 u_7 rfl 
            · skip
              refine k_aload_n X dX0_burn_105 5 rfl ?_
              refine k_dup X dX0_burn_106 rfl ?_
              refine k_get (ci := 0) X inlX0 rfl 1 (by decide) dX0_burn_107 mw140 0 rfl rfl ?_
              refine k_iconst (v := 1) X dX0_burn_110 (by decide) ?_
              refine k_iload X dX0_burn_111 2 rfl ?_
              refine k_ishl X dX0_burn_113 ?_
              refine k_nm (fun z_122 ez_122 => ?_)
              refine k_ior X dX0_burn_114 ?_
              refine k_nm (fun z_123 ez_123 => ?_)
              refine k_put (ci := 0) [(cO0_ri h0 al z_123), (cO8_iiri al 8 1 alc aln), (cAI g alc 8 uf_6), (cO3_vrvvvvvv hh v0hh yhn v2hh v3hh v4hh v5hh v6hh v7hh), (cO8_iiri yhn 1 6 yhnc yhnn), (cAI g yhnc 6 yhnf), (cO5_riiiiiiii nn nr xsnapped xmostSlip xslip xisDrawn xseed xtick xmotorTick xahead), (cO8_iiri nr 8 10 nrc nrn), (cAI g nrc 80 nrf)] X inlX0 rfl tyX0_ok nmX0 1 (by decide) rfl dX0_burn_115 mw140 0 rfl rfl rfl (Nat.le_of_ble_eq_true rfl) rfl ?_
              refine k_aload_n X dX0_burn_118 5 rfl ?_
              refine k_get (ci := 0) X inlX0 rfl 0 (by decide) dX0_burn_119 mw139 0 rfl rfl ?_
              refine k_iload X dX0_burn_122 2 rfl ?_
              refine k_iconst (v := 0) X dX0_burn_124 (by decide) ?_
              refine k_iload X dX0_burn_125 4 rfl ?_
              refine k_callVV (n := 3) (As := [.int u_5, .int 0, .int r_1]) (st := []) X [(cO8_iiri al 8 1 alc aln), (cAI g alc 8 uf_6)] [(cO0_ri h0 al z_123), (cO3_vrvvvvvv hh v0hh yhn v2hh v3hh v4hh v5hh v6hh v7hh), (cO8_iiri yhn 1 6 yhnc yhnn), (cAI g yhnc 6 yhnf), (cO5_riiiiiiii nn nr xsnapped xmostSlip xslip xisDrawn xseed xtick xmotorTick xahead), (cO8_iiri nr 8 10 nrc nrn), (cAI g nrc 80 nrf)] [1, 2] [0, 3, 4, 5, 6, 7, 8] (t_put l g al u_5 0 r_1 8 1 alc aln 8 uf_6 (tbk_8_1)) dX0_burn_127 mw1045 mw326 mw327 mw64 mw328 rfl 8 rfl rfl 0 _ rfl yk_yX8_put_3 rfl (Nat.le_of_ble_eq_true rfl) (Nat.le_of_ble_eq_true rfl) (Nat.le_of_ble_eq_true rfl) (Nat.le_of_ble_eq_true rfl) (Nat.le_of_ble_eq_true rfl) rfl rfl (by decide) rfl (by decide) (by decide) ?_
              rintro w ⟨fa_124, hr_126, rfl⟩
              refine k_ws [(cO0_ri h0 al z_123), (cO3_vrvvvvvv hh v0hh yhn v2hh v3hh v4hh v5hh v6hh v7hh), (cO8_iiri yhn 1 6 yhnc yhnn), (cAI g yhnc 6 yhnf), (cO5_riiiiiiii nn nr xsnapped xmostSlip xslip xisDrawn xseed xtick xmotorTick xahead), (cO8_iiri nr 8 10 nrc nrn), (cAI g nrc 80 nrf), (cO8_iiri al 8 1 alc aln), (cAI g alc 8 fa_124)] rfl ?_
              refine k_goto 148 X dX0_burn_130 (by decide) ?_
              obtain ⟨z_127, ez_127⟩ : ∃ y : Int32, u_5 + Int32.ofInt 1 = y := ⟨_, rfl⟩
              refine k_iinc z_127 [(6, .int z_127), (8, .int r_114), (7, .int r_1), (5, .int r_3), (4, .int r_1), (0, .ref h0), (1, .ref hh), (2, .ref nn), (3, .int p0)] 2 X dX0_burn_148 rfl ez_127 (by decide) rfl ?_
              refine k_goto 22 X dX0_burn_151 (by decide) ?_
              refine k_lv [(6, .int z_127), (5, .int r_3), (4, .int r_1), (0, .ref h0), (1, .ref hh), (2, .ref nn), (3, .int p0)] [0, 3, 4, 5, 6, 7, 8] rfl ?_
              refine k_sub [(cO0_ri h0 al z_123), (cO8_iiri al 8 1 alc aln), (cAI g alc 8 fa_124), (cO5_riiiiiiii nn nr xsnapped xmostSlip xslip xisDrawn xseed xtick xmotorTick xahead), (cO8_iiri nr 8 10 nrc nrn), (cAI g nrc 80 nrf), (cO3_vrvvvvvv hh v0hh yhn v2hh v3hh v4hh v5hh v6hh v7hh), (cO8_iiri yhn 1 6 yhnc yhnn), (cAI g yhnc 6 yhnf)] [0, 7, 8, 4, 5, 6, 1, 2, 3] rfl (by decide) rfl ?_
              exact ih_10 _ (by rw [← hm_9]; exact mu_lt (by assumption) (by assumption)) z_127 fa_124 z_123 rfl 
          · skip
            refine k_iload X dX0_burn_86 3 rfl ?_
            refine k_istore [(7, .int r_1), (6, .int u_5), (5, .int r_3), (4, .int r_1), (0, .ref h0), (1, .ref hh), (2, .ref nn), (3, .int p0)] X dX0_burn_88 (by decide) rfl ?_
            refine k_aload_n X dX0_burn_90 6 rfl ?_
            refine k_iload X dX0_burn_91 1 rfl ?_
            refine k_callVI (n := 1) (As := [.int u_5]) (st := []) X [(cO5_riiiiiiii nn nr xsnapped xmostSlip xslip xisDrawn xseed xtick xmotorTick xahead), (cO8_iiri nr 8 10 nrc nrn), (cAI g nrc 80 nrf)] [(cO0_ri h0 al u_7), (cO8_iiri al 8 1 alc aln), (cAI g alc 8 uf_6), (cO3_vrvvvvvv hh v0hh yhn v2hh v3hh v4hh v5hh v6hh v7hh), (cO8_iiri yhn 1 6 yhnc yhnn), (cAI g yhnc 6 yhnf)] [6, 7, 8] [0, 1, 2, 3, 4, 5] (n_needed l g nn u_5 nr xsnapped xmostSlip xslip xisDrawn xseed xtick xmotorTick xahead nrc nrn nrf) dX0_burn_93 mw1044 mw1015 mw1016 mw31 mw1017 rfl 5 rfl rfl 0 _ rfl yk_yX5_needed_1 rfl (Nat.le_of_ble_eq_true rfl) (Nat.le_of_ble_eq_true rfl) (Nat.le_of_ble_eq_true rfl) (Nat.le_of_ble_eq_true rfl) (Nat.le_of_ble_eq_true rfl) rfl rfl (by decide) rfl (by decide) (by decide) ?_
            rintro r_128 w rfl
            refine k_ws [(cO0_ri h0 al u_7), (cO8_iiri al 8 1 alc aln), (cAI g alc 8 uf_6), (cO3_vrvvvvvv hh v0hh yhn v2hh v3hh v4hh v5hh v6hh v7hh), (cO8_iiri yhn 1 6 yhnc yhnn), (cAI g yhnc 6 yhnf), (cO5_riiiiiiii nn nr xsnapped xmostSlip xslip xisDrawn xseed xtick xmotorTick xahead), (cO8_iiri nr 8 10 nrc nrn), (cAI g nrc 80 nrf)] rfl ?_
            refine k_istore [(8, .int r_128), (7, .int r_1), (6, .int u_5), (5, .int r_3), (4, .int r_1), (0, .ref h0), (1, .ref hh), (2, .ref nn), (3, .int p0)] X dX0_burn_96 (by decide) rfl ?_
            refine k_iload X dX0_burn_98 1 rfl ?_
            refine k_iload X dX0_burn_100 0 rfl ?_
            refine k_ic_ge 133 X dX0_burn_102 (by decide) (fun h_130 => ?_) (fun h_130 => ?_)
            · skip
              refine k_aload_n X dX0_burn_133 5 rfl ?_
              refine k_get (ci := 0) X inlX0 rfl 0 (by decide) dX0_burn_134 mw139 0 rfl rfl ?_
              refine k_iload X dX0_burn_137 2 rfl ?_
              refine k_iconst (v := 0) X dX0_burn_139 (by decide) ?_
              refine k_iload X dX0_burn_140 1 rfl ?_
              refine k_iload X dX0_burn_142 0 rfl ?_
              refine k_isub X dX0_burn_144 ?_
              refine k_nm (fun z_131 ez_131 => ?_)
              refine k_callVV (n := 3) (As := [.int u_5, .int 0, .int z_131]) (st := []) X [(cO8_iiri al 8 1 alc aln), (cAI g alc 8 uf_6)] [(cO0_ri h0 al u_7), (cO3_vrvvvvvv hh v0hh yhn v2hh v3hh v4hh v5hh v6hh v7hh), (cO8_iiri yhn 1 6 yhnc yhnn), (cAI g yhnc 6 yhnf), (cO5_riiiiiiii nn nr xsnapped xmostSlip xslip xisDrawn xseed xtick xmotorTick xahead), (cO8_iiri nr 8 10 nrc nrn), (cAI g nrc 80 nrf)] [1, 2] [0, 3, 4, 5, 6, 7, 8] (t_put l g al u_5 0 z_131 8 1 alc aln 8 uf_6 (tbk_8_1)) dX0_burn_145 mw1045 mw326 mw327 mw64 mw328 rfl 8 rfl rfl 0 _ rfl yk_yX8_put_3 rfl (Nat.le_of_ble_eq_true rfl) (Nat.le_of_ble_eq_true rfl) (Nat.le_of_ble_eq_true rfl) (Nat.le_of_ble_eq_true rfl) (Nat.le_of_ble_eq_true rfl) rfl rfl (by decide) rfl (by decide) (by decide) ?_
              rintro w ⟨fa_132, hr_134, rfl⟩
              refine k_ws [(cO0_ri h0 al u_7), (cO3_vrvvvvvv hh v0hh yhn v2hh v3hh v4hh v5hh v6hh v7hh), (cO8_iiri yhn 1 6 yhnc yhnn), (cAI g yhnc 6 yhnf), (cO5_riiiiiiii nn nr xsnapped xmostSlip xslip xisDrawn xseed xtick xmotorTick xahead), (cO8_iiri nr 8 10 nrc nrn), (cAI g nrc 80 nrf), (cO8_iiri al 8 1 alc aln), (cAI g alc 8 fa_132)] rfl ?_
              obtain ⟨z_135, ez_135⟩ : ∃ y : Int32, u_5 + Int32.ofInt 1 = y := ⟨_, rfl⟩
              refine k_iinc z_135 [(6, .int z_135), (8, .int r_128), (7, .int r_1), (5, .int r_3), (4, .int r_1), (0, .ref h0), (1, .ref hh), (2, .ref nn), (3, .int p0)] 2 X dX0_burn_148 rfl ez_135 (by decide) rfl ?_
              refine k_goto 22 X dX0_burn_151 (by decide) ?_
              refine k_lv [(6, .int z_135), (5, .int r_3), (4, .int r_1), (0, .ref h0), (1, .ref hh), (2, .ref nn), (3, .int p0)] [0, 3, 4, 5, 6, 7, 8] rfl ?_
              refine k_sub [(cO0_ri h0 al u_7), (cO8_iiri al 8 1 alc aln), (cAI g alc 8 fa_132), (cO5_riiiiiiii nn nr xsnapped xmostSlip xslip xisDrawn xseed xtick xmotorTick xahead), (cO8_iiri nr 8 10 nrc nrn), (cAI g nrc 80 nrf), (cO3_vrvvvvvv hh v0hh yhn v2hh v3hh v4hh v5hh v6hh v7hh), (cO8_iiri yhn 1 6 yhnc yhnn), (cAI g yhnc 6 yhnf)] [0, 7, 8, 4, 5, 6, 1, 2, 3] rfl (by decide) rfl ?_
              exact ih_10 _ (by rw [← hm_9]; exact mu_lt (by assumption) (by assumption)) z_135 fa_132 u_7 rfl 
            · skip
              refine k_aload_n X dX0_burn_105 5 rfl ?_
              refine k_dup X dX0_burn_106 rfl ?_
              refine k_get (ci := 0) X inlX0 rfl 1 (by decide) dX0_burn_107 mw140 0 rfl rfl ?_
              refine k_iconst (v := 1) X dX0_burn_110 (by decide) ?_
              refine k_iload X dX0_burn_111 2 rfl ?_
              refine k_ishl X dX0_burn_113 ?_
              refine k_nm (fun z_136 ez_136 => ?_)
              refine k_ior X dX0_burn_114 ?_
              refine k_nm (fun z_137 ez_137 => ?_)
              refine k_put (ci := 0) [(cO0_ri h0 al z_137), (cO8_iiri al 8 1 alc aln), (cAI g alc 8 uf_6), (cO3_vrvvvvvv hh v0hh yhn v2hh v3hh v4hh v5hh v6hh v7hh), (cO8_iiri yhn 1 6 yhnc yhnn), (cAI g yhnc 6 yhnf), (cO5_riiiiiiii nn nr xsnapped xmostSlip xslip xisDrawn xseed xtick xmotorTick xahead), (cO8_iiri nr 8 10 nrc nrn), (cAI g nrc 80 nrf)] X inlX0 rfl tyX0_ok nmX0 1 (by decide) rfl dX0_burn_115 mw140 0 rfl rfl rfl (Nat.le_of_ble_eq_true rfl) rfl ?_
              refine k_aload_n X dX0_burn_118 5 rfl ?_
              refine k_get (ci := 0) X inlX0 rfl 0 (by decide) dX0_burn_119 mw139 0 rfl rfl ?_
              refine k_iload X dX0_burn_122 2 rfl ?_
              refine k_iconst (v := 0) X dX0_burn_124 (by decide) ?_
              refine k_iload X dX0_burn_125 4 rfl ?_
              refine k_callVV (n := 3) (As := [.int u_5, .int 0, .int r_1]) (st := []) X [(cO8_iiri al 8 1 alc aln), (cAI g alc 8 uf_6)] [(cO0_ri h0 al z_137), (cO3_vrvvvvvv hh v0hh yhn v2hh v3hh v4hh v5hh v6hh v7hh), (cO8_iiri yhn 1 6 yhnc yhnn), (cAI g yhnc 6 yhnf), (cO5_riiiiiiii nn nr xsnapped xmostSlip xslip xisDrawn xseed xtick xmotorTick xahead), (cO8_iiri nr 8 10 nrc nrn), (cAI g nrc 80 nrf)] [1, 2] [0, 3, 4, 5, 6, 7, 8] (t_put l g al u_5 0 r_1 8 1 alc aln 8 uf_6 (tbk_8_1)) dX0_burn_127 mw1045 mw326 mw327 mw64 mw328 rfl 8 rfl rfl 0 _ rfl yk_yX8_put_3 rfl (Nat.le_of_ble_eq_true rfl) (Nat.le_of_ble_eq_true rfl) (Nat.le_of_ble_eq_true rfl) (Nat.le_of_ble_eq_true rfl) (Nat.le_of_ble_eq_true rfl) rfl rfl (by decide) rfl (by decide) (by decide) ?_
              rintro w ⟨fa_138, hr_140, rfl⟩
              refine k_ws [(cO0_ri h0 al z_137), (cO3_vrvvvvvv hh v0hh yhn v2hh v3hh v4hh v5hh v6hh v7hh), (cO8_iiri yhn 1 6 yhnc yhnn), (cAI g yhnc 6 yhnf), (cO5_riiiiiiii nn nr xsnapped xmostSlip xslip xisDrawn xseed xtick xmotorTick xahead), (cO8_iiri nr 8 10 nrc nrn), (cAI g nrc 80 nrf), (cO8_iiri al 8 1 alc aln), (cAI g alc 8 fa_138)] rfl ?_
              refine k_goto 148 X dX0_burn_130 (by decide) ?_
              obtain ⟨z_141, ez_141⟩ : ∃ y : Int32, u_5 + Int32.ofInt 1 = y := ⟨_, rfl⟩
              refine k_iinc z_141 [(6, .int z_141), (8, .int r_128), (7, .int r_1), (5, .int r_3), (4, .int r_1), (0, .ref h0), (1, .ref hh), (2, .ref nn), (3, .int p0)] 2 X dX0_burn_148 rfl ez_141 (by decide) rfl ?_
              refine k_goto 22 X dX0_burn_151 (by decide) ?_
              refine k_lv [(6, .int z_141), (5, .int r_3), (4, .int r_1), (0, .ref h0), (1, .ref hh), (2, .ref nn), (3, .int p0)] [0, 3, 4, 5, 6, 7, 8] rfl ?_
              refine k_sub [(cO0_ri h0 al z_137), (cO8_iiri al 8 1 alc aln), (cAI g alc 8 fa_138), (cO5_riiiiiiii nn nr xsnapped xmostSlip xslip xisDrawn xseed xtick xmotorTick xahead), (cO8_iiri nr 8 10 nrc nrn), (cAI g nrc 80 nrf), (cO3_vrvvvvvv hh v0hh yhn v2hh v3hh v4hh v5hh v6hh v7hh), (cO8_iiri yhn 1 6 yhnc yhnn), (cAI g yhnc 6 yhnf)] [0, 7, 8, 4, 5, 6, 1, 2, 3] rfl (by decide) rfl ?_
              exact ih_10 _ (by rw [← hm_9]; exact mu_lt (by assumption) (by assumption)) z_141 fa_138 z_137 rfl 

theorem dX6_carry_0 : decode cX6_carry 0 = .ok (.iconst 0, 1) := dk_3 rfl
theorem dX6_carry_1 : decode cX6_carry 1 = .ok (.istore 5, 2) := dk_54 rfl rfl rfl
theorem dX6_carry_3 : decode cX6_carry 3 = .ok (.iload 5, 2) := dk_21 rfl rfl rfl
theorem dX6_carry_5 : decode cX6_carry 5 = .ok (.iconst 4, 1) := dk_7 rfl
theorem dX6_carry_6 : decode cX6_carry 6 = .ok (.if_icmp .ge 20, 3) := dk_162 rfl rfl rfl (by decide)
theorem dX6_carry_9 : decode cX6_carry 9 = .ok (.aload_n 0, 1) := dk_42 rfl
theorem dX6_carry_10 : decode cX6_carry 10 = .ok (.getfield 14, 3) := dk_180 rfl rfl rfl rfl
theorem dX6_carry_13 : decode cX6_carry 13 = .ok (.iload 5, 2) := dk_21 rfl rfl rfl
theorem dX6_carry_15 : decode cX6_carry 15 = .ok (.iconst 0, 1) := dk_3 rfl
theorem dX6_carry_16 : decode cX6_carry 16 = .ok (.iconst 0, 1) := dk_3 rfl
theorem dX6_carry_17 : decode cX6_carry 17 = .ok (.invokevirtual 27, 3) := dk_182 rfl rfl rfl rfl
theorem dX6_carry_20 : decode cX6_carry 20 = .ok (.iinc 5 1, 3) := dk_132 rfl rfl rfl rfl (by decide)
theorem dX6_carry_23 : decode cX6_carry 23 = .ok (.goto (-20), 3) := dk_167 rfl rfl rfl (by decide)
theorem dX6_carry_26 : decode cX6_carry 26 = .ok (.aload_n 0, 1) := dk_42 rfl
theorem dX6_carry_27 : decode cX6_carry 27 = .ok (.iconst 0, 1) := dk_3 rfl
theorem dX6_carry_28 : decode cX6_carry 28 = .ok (.putfield 20, 3) := dk_181 rfl rfl rfl rfl
theorem dX6_carry_31 : decode cX6_carry 31 = .ok (.aload_n 0, 1) := dk_42 rfl
theorem dX6_carry_32 : decode cX6_carry 32 = .ok (.iconst 0, 1) := dk_3 rfl
theorem dX6_carry_33 : decode cX6_carry 33 = .ok (.putfield 24, 3) := dk_181 rfl rfl rfl rfl
theorem dX6_carry_36 : decode cX6_carry 36 = .ok (.iconst 0, 1) := dk_3 rfl
theorem dX6_carry_37 : decode cX6_carry 37 = .ok (.istore 5, 2) := dk_54 rfl rfl rfl
theorem dX6_carry_39 : decode cX6_carry 39 = .ok (.iconst 0, 1) := dk_3 rfl
theorem dX6_carry_40 : decode cX6_carry 40 = .ok (.istore 6, 2) := dk_54 rfl rfl rfl
theorem dX6_carry_42 : decode cX6_carry 42 = .ok (.iload 6, 2) := dk_21 rfl rfl rfl
theorem dX6_carry_44 : decode cX6_carry 44 = .ok (.aload_n 1, 1) := dk_43 rfl
theorem dX6_carry_45 : decode cX6_carry 45 = .ok (.getfield 31, 3) := dk_180 rfl rfl rfl rfl
theorem dX6_carry_48 : decode cX6_carry 48 = .ok (.getfield 36, 3) := dk_180 rfl rfl rfl rfl
theorem dX6_carry_51 : decode cX6_carry 51 = .ok (.if_icmp .ge 123, 3) := dk_162 rfl rfl rfl (by decide)
theorem dX6_carry_54 : decode cX6_carry 54 = .ok (.aload_n 0, 1) := dk_42 rfl
theorem dX6_carry_55 : decode cX6_carry 55 = .ok (.iload_n 2, 1) := dk_28 rfl
theorem dX6_carry_56 : decode cX6_carry 56 = .ok (.invokevirtual 39, 3) := dk_182 rfl rfl rfl rfl
theorem dX6_carry_59 : decode cX6_carry 59 = .ok (.istore 7, 2) := dk_54 rfl rfl rfl
theorem dX6_carry_61 : decode cX6_carry 61 = .ok (.aload_n 1, 1) := dk_43 rfl
theorem dX6_carry_62 : decode cX6_carry 62 = .ok (.getfield 31, 3) := dk_180 rfl rfl rfl rfl
theorem dX6_carry_65 : decode cX6_carry 65 = .ok (.iload 6, 2) := dk_21 rfl rfl rfl
theorem dX6_carry_67 : decode cX6_carry 67 = .ok (.bipush 7, 2) := dk_16 rfl rfl (by decide)
theorem dX6_carry_69 : decode cX6_carry 69 = .ok (.invokevirtual 43, 3) := dk_182 rfl rfl rfl rfl
theorem dX6_carry_72 : decode cX6_carry 72 = .ok (.istore 8, 2) := dk_54 rfl rfl rfl
theorem dX6_carry_74 : decode cX6_carry 74 = .ok (.iload 8, 2) := dk_21 rfl rfl rfl
theorem dX6_carry_76 : decode cX6_carry 76 = .ok (.aload_n 0, 1) := dk_42 rfl
theorem dX6_carry_77 : decode cX6_carry 77 = .ok (.getfield 14, 3) := dk_180 rfl rfl rfl rfl
theorem dX6_carry_80 : decode cX6_carry 80 = .ok (.iload 7, 2) := dk_21 rfl rfl rfl
theorem dX6_carry_82 : decode cX6_carry 82 = .ok (.iconst 0, 1) := dk_3 rfl
theorem dX6_carry_83 : decode cX6_carry 83 = .ok (.invokevirtual 43, 3) := dk_182 rfl rfl rfl rfl
theorem dX6_carry_86 : decode cX6_carry 86 = .ok (.invokestatic 47, 3) := dk_184 rfl rfl rfl rfl
theorem dX6_carry_89 : decode cX6_carry 89 = .ok (.iload_n 3, 1) := dk_29 rfl
theorem dX6_carry_90 : decode cX6_carry 90 = .ok (.iadd, 1) := dk_96 rfl
theorem dX6_carry_91 : decode cX6_carry 91 = .ok (.istore 9, 2) := dk_54 rfl rfl rfl
theorem dX6_carry_93 : decode cX6_carry 93 = .ok (.aload_n 0, 1) := dk_42 rfl
theorem dX6_carry_94 : decode cX6_carry 94 = .ok (.getfield 14, 3) := dk_180 rfl rfl rfl rfl
theorem dX6_carry_97 : decode cX6_carry 97 = .ok (.iload 7, 2) := by decide +kernel
theorem dX6_carry_99 : decode cX6_carry 99 = .ok (.iconst 0, 1) := by decide +kernel
theorem dX6_carry_100 : decode cX6_carry 100 = .ok (.iload 9, 2) := by decide +kernel
theorem dX6_carry_102 : decode cX6_carry 102 = .ok (.iload_n 3, 1) := by decide +kernel
theorem dX6_carry_103 : decode cX6_carry 103 = .ok (.iadd, 1) := by decide +kernel
theorem dX6_carry_104 : decode cX6_carry 104 = .ok (.invokevirtual 27, 3) := by decide +kernel
theorem dX6_carry_107 : decode cX6_carry 107 = .ok (.aload_n 0, 1) := by decide +kernel
theorem dX6_carry_108 : decode cX6_carry 108 = .ok (.aload_n 0, 1) := by decide +kernel
theorem dX6_carry_109 : decode cX6_carry 109 = .ok (.getfield 20, 3) := by decide +kernel
theorem dX6_carry_112 : decode cX6_carry 112 = .ok (.iload 9, 2) := by decide +kernel
theorem dX6_carry_114 : decode cX6_carry 114 = .ok (.iload 5, 2) := by decide +kernel
theorem dX6_carry_116 : decode cX6_carry 116 = .ok (.isub, 1) := by decide +kernel
theorem dX6_carry_117 : decode cX6_carry 117 = .ok (.invokestatic 47, 3) := by decide +kernel
theorem dX6_carry_120 : decode cX6_carry 120 = .ok (.putfield 20, 3) := by decide +kernel
theorem dX6_carry_123 : decode cX6_carry 123 = .ok (.aload_n 0, 1) := by decide +kernel
theorem dX6_carry_124 : decode cX6_carry 124 = .ok (.dup, 1) := by decide +kernel
theorem dX6_carry_125 : decode cX6_carry 125 = .ok (.getfield 24, 3) := by decide +kernel
theorem dX6_carry_128 : decode cX6_carry 128 = .ok (.iconst 0, 1) := by decide +kernel
theorem dX6_carry_129 : decode cX6_carry 129 = .ok (.iload 9, 2) := by decide +kernel
theorem dX6_carry_131 : decode cX6_carry 131 = .ok (.iload 4, 2) := by decide +kernel
theorem dX6_carry_133 : decode cX6_carry 133 = .ok (.iload 5, 2) := by decide +kernel
theorem dX6_carry_135 : decode cX6_carry 135 = .ok (.iadd, 1) := by decide +kernel
theorem dX6_carry_136 : decode cX6_carry 136 = .ok (.aload_n 0, 1) := by decide +kernel
theorem dX6_carry_137 : decode cX6_carry 137 = .ok (.getfield 24, 3) := by decide +kernel
theorem dX6_carry_140 : decode cX6_carry 140 = .ok (.iadd, 1) := by decide +kernel
theorem dX6_carry_141 : decode cX6_carry 141 = .ok (.isub, 1) := by decide +kernel
theorem dX6_carry_142 : decode cX6_carry 142 = .ok (.invokestatic 47, 3) := by decide +kernel
theorem dX6_carry_145 : decode cX6_carry 145 = .ok (.iadd, 1) := by decide +kernel
theorem dX6_carry_146 : decode cX6_carry 146 = .ok (.putfield 24, 3) := by decide +kernel
theorem dX6_carry_149 : decode cX6_carry 149 = .ok (.iload 5, 2) := by decide +kernel
theorem dX6_carry_151 : decode cX6_carry 151 = .ok (.iload 8, 2) := by decide +kernel
theorem dX6_carry_153 : decode cX6_carry 153 = .ok (.aload_n 1, 1) := by decide +kernel
theorem dX6_carry_154 : decode cX6_carry 154 = .ok (.getfield 31, 3) := by decide +kernel
theorem dX6_carry_157 : decode cX6_carry 157 = .ok (.iload 6, 2) := by decide +kernel
theorem dX6_carry_159 : decode cX6_carry 159 = .ok (.bipush 6, 2) := by decide +kernel
theorem dX6_carry_161 : decode cX6_carry 161 = .ok (.invokevirtual 43, 3) := by decide +kernel
theorem dX6_carry_164 : decode cX6_carry 164 = .ok (.isub, 1) := by decide +kernel
theorem dX6_carry_165 : decode cX6_carry 165 = .ok (.iadd, 1) := by decide +kernel
theorem dX6_carry_166 : decode cX6_carry 166 = .ok (.istore 5, 2) := by decide +kernel
theorem dX6_carry_168 : decode cX6_carry 168 = .ok (.iinc 6 1, 3) := by decide +kernel
theorem dX6_carry_171 : decode cX6_carry 171 = .ok (.goto (-129), 3) := by decide +kernel
theorem dX6_carry_174 : decode cX6_carry 174 = .ok (.return_, 1) := by decide +kernel
set_option maxHeartbeats 4000000 in
set_option maxRecDepth 100000 in
theorem r_carry (l : Launch) (g : Gx) (h0 : Nat) (nn : Nat) (p0 : Int32) (p1 : Int32) (p2 : Int32) (rb : Nat) (xa : Int32) (xw : Int32) (rbc : Nat) (rbn : Int32) (rbf : Nat → Int32) (nr : Nat) (xsnapped : Int32) (xmostSlip : Int32) (xslip : Int32) (xisDrawn : Int32) (xseed : Int32) (xtick : Int32) (xmotorTick : Int32) (xahead : Int32) (nrc : Nat) (nrn : Int32) (nrf : Nat → Int32) : cV l g yX6_carry cX6_carry 10 2 45 0 0 [.ref h0, .ref nn, .int p0, .int p1, .int p2] [(cO6_rii h0 rb xa xw), (cO8_iiri rb 4 1 rbc rbn), (cAI g rbc 4 rbf), (cO5_riiiiiiii nn nr xsnapped xmostSlip xslip xisDrawn xseed xtick xmotorTick xahead), (cO8_iiri nr 8 10 nrc nrn), (cAI g nrc 80 nrf)] (fun w => ∃ (xa2 : Int32) (xw2 : Int32) (rbg : Nat → Int32), w = [(cO6_rii h0 rb xa2 xw2), (cO8_iiri rb 4 1 rbc rbn), (cAI g rbc 4 rbg), (cO5_riiiiiiii nn nr xsnapped xmostSlip xslip xisDrawn xseed xtick xmotorTick xahead), (cO8_iiri nr 8 10 nrc nrn), (cAI g nrc 80 nrf)]) := by
  refine cV.of (by decide) (Nat.le_of_ble_eq_true rfl) ?_
  intro p e s m args below meth c A X hr hi
  refine k_lveq [(0, .ref h0), (1, .ref nn), (2, .int p0), (3, .int p1), (4, .int p2)] rfl ?_
  refine k_iconst (v := 0) X dX6_carry_0 (by decide) ?_
  refine k_istore [(5, .int 0), (0, .ref h0), (1, .ref nn), (2, .int p0), (3, .int p1), (4, .int p2)] X dX6_carry_1 (by decide) rfl ?_
  refine (fun hL : ∀ (nn_3 : Nat) (u_1 : Int32) (uf_2 : Nat → Int32), ((4 : Int32).toInt - u_1.toInt).toNat = nn_3 → Wk p l e _ s m args below meth c _ A g _ _ _ [(cO6_rii h0 rb xa xw), (cO8_iiri rb 4 1 rbc rbn), (cAI g rbc 4 uf_2), (cO5_riiiiiiii nn nr xsnapped xmostSlip xslip xisDrawn xseed xtick xmotorTick xahead), (cO8_iiri nr 8 10 nrc nrn), (cAI g nrc 80 nrf)] [(5, .int u_1), (0, .ref h0), (1, .ref nn), (2, .int p0), (3, .int p1), (4, .int p2)] 3 [] => hL _ 0 rbf rfl ) ?_
  refine fun nn_3 => Nat.strongRecOn nn_3 (fun nn_3 ih_5 => ?_)
  intro u_1 uf_2 hm_4 
  refine k_iload X dX6_carry_3 0 rfl ?_
  refine k_iconst (v := 4) X dX6_carry_5 (by decide) ?_
  refine k_ic_ge 26 X dX6_carry_6 (by decide) (fun h_6 => ?_) (fun h_6 => ?_)
  · skip
    refine k_aload_n X dX6_carry_26 1 rfl ?_
    refine k_iconst (v := 0) X dX6_carry_27 (by decide) ?_
    refine k_put (ci := 6) [(cO6_rii h0 rb 0 xw), (cO8_iiri rb 4 1 rbc rbn), (cAI g rbc 4 uf_2), (cO5_riiiiiiii nn nr xsnapped xmostSlip xslip xisDrawn xseed xtick xmotorTick xahead), (cO8_iiri nr 8 10 nrc nrn), (cAI g nrc 80 nrf)] X inlX6 rfl tyX6_ok nmX6 1 (by decide) rfl dX6_carry_28 mw147 0 rfl rfl rfl (Nat.le_of_ble_eq_true rfl) rfl ?_
    refine k_aload_n X dX6_carry_31 1 rfl ?_
    refine k_iconst (v := 0) X dX6_carry_32 (by decide) ?_
    refine k_put (ci := 6) [(cO6_rii h0 rb 0 0), (cO8_iiri rb 4 1 rbc rbn), (cAI g rbc 4 uf_2), (cO5_riiiiiiii nn nr xsnapped xmostSlip xslip xisDrawn xseed xtick xmotorTick xahead), (cO8_iiri nr 8 10 nrc nrn), (cAI g nrc 80 nrf)] X inlX6 rfl tyX6_ok nmX6 2 (by decide) rfl dX6_carry_33 mw148 0 rfl rfl rfl (Nat.le_of_ble_eq_true rfl) rfl ?_
    refine k_iconst (v := 0) X dX6_carry_36 (by decide) ?_
    refine k_istore [(5, .int 0), (0, .ref h0), (1, .ref nn), (2, .int p0), (3, .int p1), (4, .int p2)] X dX6_carry_37 (by decide) rfl ?_
    refine k_iconst (v := 0) X dX6_carry_39 (by decide) ?_
    refine k_istore [(6, .int 0), (5, .int 0), (0, .ref h0), (1, .ref nn), (2, .int p0), (3, .int p1), (4, .int p2)] X dX6_carry_40 (by decide) rfl ?_
    refine (fun hL : ∀ (nn_12 : Nat) (u_7 : Int32) (u_8 : Int32) (uf_9 : Nat → Int32) (u_10 : Int32) (u_11 : Int32), (nrn.toInt - u_7.toInt).toNat = nn_12 → Wk p l e _ s m args below meth c _ A g _ _ _ [(cO6_rii h0 rb u_10 u_11), (cO8_iiri rb 4 1 rbc rbn), (cAI g rbc 4 uf_9), (cO5_riiiiiiii nn nr xsnapped xmostSlip xslip xisDrawn xseed xtick xmotorTick xahead), (cO8_iiri nr 8 10 nrc nrn), (cAI g nrc 80 nrf)] [(6, .int u_7), (5, .int u_8), (0, .ref h0), (1, .ref nn), (2, .int p0), (3, .int p1), (4, .int p2)] 42 [] => hL _ 0 0 uf_2 0 0 rfl ) ?_
    refine fun nn_12 => Nat.strongRecOn nn_12 (fun nn_12 ih_14 => ?_)
    intro u_7 u_8 uf_9 u_10 u_11 hm_13 
    refine k_iload X dX6_carry_42 0 rfl ?_
    refine k_aload_n X dX6_carry_44 3 rfl ?_
    refine k_get (ci := 5) X inlX5 rfl 0 (by decide) dX6_carry_45 mw1302 3 rfl rfl ?_
    refine k_get (ci := 8) X inlX8 rfl 3 (by decide) dX6_carry_48 mw1303 4 rfl rfl ?_
    refine k_ic_ge 174 X dX6_carry_51 (by decide) (fun h_15 => ?_) (fun h_15 => ?_)
    · skip
      exact k_vret X hr dX6_carry_174 (Nat.le_of_ble_eq_true rfl) (Nat.le_of_ble_eq_true rfl) [0, 1, 2, 3, 4, 5] (by decide) rfl rfl ⟨u_10, u_11, uf_9, rfl⟩
    · skip
      refine k_aload_n X dX6_carry_54 2 rfl ?_
      refine k_iload_n X dX6_carry_55 4 rfl ?_
      refine k_callVI (n := 1) (As := [.int p0]) (st := []) X [(cO6_rii h0 rb u_10 u_11), (cO8_iiri rb 4 1 rbc rbn), (cAI g rbc 4 uf_9)] [(cO5_riiiiiiii nn nr xsnapped xmostSlip xslip xisDrawn xseed xtick xmotorTick xahead), (cO8_iiri nr 8 10 nrc nrn), (cAI g nrc 80 nrf)] [0, 1, 2] [3, 4, 5] (r_soonest l g h0 p0 rb (.int u_10) (.int u_11) rbc rbn uf_9) dX6_carry_56 mw1306 mw1307 mw1308 mw39 mw1309 rfl 6 rfl rfl 0 _ rfl yk_yX6_soonestBack_1 rfl (Nat.le_of_ble_eq_true rfl) (Nat.le_of_ble_eq_true rfl) (Nat.le_of_ble_eq_true rfl) (Nat.le_of_ble_eq_true rfl) (Nat.le_of_ble_eq_true rfl) rfl rfl (by decide) rfl (by decide) (by decide) ?_
      rintro r_16 w rfl
      refine k_ws [(cO5_riiiiiiii nn nr xsnapped xmostSlip xslip xisDrawn xseed xtick xmotorTick xahead), (cO8_iiri nr 8 10 nrc nrn), (cAI g nrc 80 nrf), (cO6_rii h0 rb u_10 u_11), (cO8_iiri rb 4 1 rbc rbn), (cAI g rbc 4 uf_9)] rfl ?_
      refine k_istore [(7, .int r_16), (6, .int u_7), (5, .int u_8), (0, .ref h0), (1, .ref nn), (2, .int p0), (3, .int p1), (4, .int p2)] X dX6_carry_59 (by decide) rfl ?_
      refine k_aload_n X dX6_carry_61 4 rfl ?_
      refine k_get (ci := 5) X inlX5 rfl 0 (by decide) dX6_carry_62 mw1302 0 rfl rfl ?_
      refine k_iload X dX6_carry_65 1 rfl ?_
      refine k_bipush (v := 7) X dX6_carry_67 (by decide) ?_
      refine k_callVI (n := 2) (As := [.int u_7, .int 7]) (st := []) X [(cO8_iiri nr 8 10 nrc nrn), (cAI g nrc 80 nrf)] [(cO5_riiiiiiii nn nr xsnapped xmostSlip xslip xisDrawn xseed xtick xmotorTick xahead), (cO6_rii h0 rb u_10 u_11), (cO8_iiri rb 4 1 rbc rbn), (cAI g rbc 4 uf_9)] [1, 2] [0, 3, 4, 5] (t_at l g nr u_7 7 8 10 nrc nrn 80 nrf (tbk_8_10)) dX6_carry_69 mw1310 mw376 mw377 mw64 mw378 rfl 8 rfl rfl 0 _ rfl yk_yX8_at_2 rfl (Nat.le_of_ble_eq_true rfl) (Nat.le_of_ble_eq_true rfl) (Nat.le_of_ble_eq_true rfl) (Nat.le_of_ble_eq_true rfl) (Nat.le_of_ble_eq_true rfl) rfl rfl (by decide) rfl (by decide) (by decide) ?_
      rintro r_18 w ⟨hr_19, rfl⟩
      refine k_ws [(cO5_riiiiiiii nn nr xsnapped xmostSlip xslip xisDrawn xseed xtick xmotorTick xahead), (cO6_rii h0 rb u_10 u_11), (cO8_iiri rb 4 1 rbc rbn), (cAI g rbc 4 uf_9), (cO8_iiri nr 8 10 nrc nrn), (cAI g nrc 80 nrf)] rfl ?_
      refine k_istore [(8, .int r_18), (7, .int r_16), (6, .int u_7), (5, .int u_8), (0, .ref h0), (1, .ref nn), (2, .int p0), (3, .int p1), (4, .int p2)] X dX6_carry_72 (by decide) rfl ?_
      refine k_iload X dX6_carry_74 0 rfl ?_
      refine k_aload_n X dX6_carry_76 4 rfl ?_
      refine k_get (ci := 6) X inlX6 rfl 0 (by decide) dX6_carry_77 mw146 1 rfl rfl ?_
      refine k_iload X dX6_carry_80 1 rfl ?_
      refine k_iconst (v := 0) X dX6_carry_82 (by decide) ?_
      refine k_callVI (n := 2) (As := [.int r_16, .int 0]) (st := [.int r_18]) X [(cO8_iiri rb 4 1 rbc rbn), (cAI g rbc 4 uf_9)] [(cO5_riiiiiiii nn nr xsnapped xmostSlip xslip xisDrawn xseed xtick xmotorTick xahead), (cO6_rii h0 rb u_10 u_11), (cO8_iiri nr 8 10 nrc nrn), (cAI g nrc 80 nrf)] [2, 3] [0, 1, 4, 5] (t_at l g rb r_16 0 4 1 rbc rbn 4 uf_9 (tbk_4_1)) dX6_carry_83 mw1310 mw376 mw377 mw64 mw378 rfl 8 rfl rfl 0 _ rfl yk_yX8_at_2 rfl (Nat.le_of_ble_eq_true rfl) (Nat.le_of_ble_eq_true rfl) (Nat.le_of_ble_eq_true rfl) (Nat.le_of_ble_eq_true rfl) (Nat.le_of_ble_eq_true rfl) rfl rfl (by decide) rfl (by decide) (by decide) ?_
      rintro r_20 w ⟨hr_21, rfl⟩
      refine k_ws [(cO5_riiiiiiii nn nr xsnapped xmostSlip xslip xisDrawn xseed xtick xmotorTick xahead), (cO6_rii h0 rb u_10 u_11), (cO8_iiri nr 8 10 nrc nrn), (cAI g nrc 80 nrf), (cO8_iiri rb 4 1 rbc rbn), (cAI g rbc 4 uf_9)] rfl ?_
      refine k_mmax X dX6_carry_86 mw1304 mw102 mw103 mw104 (Nat.le_of_ble_eq_true rfl) (Nat.le_of_ble_eq_true rfl) (Nat.zero_le _) (Nat.zero_le _) ?_
      refine k_nm (fun z_22 ez_22 => ?_)
      refine k_iload_n X dX6_carry_89 7 rfl ?_
      refine k_iadd X dX6_carry_90 ?_
      refine k_nm (fun z_23 ez_23 => ?_)
      refine k_istore [(9, .int z_23), (8, .int r_18), (7, .int r_16), (6, .int u_7), (5, .int u_8), (0, .ref h0), (1, .ref nn), (2, .int p0), (3, .int p1), (4, .int p2)] X dX6_carry_91 (by decide) rfl ?_
      refine k_aload_n X dX6_carry_93 5 rfl ?_
      refine k_get (ci := 6) X inlX6 rfl 0 (by decide) dX6_carry_94 mw146 1 rfl rfl ?_
      refine k_iload X dX6_carry_97 2 rfl ?_
      refine k_iconst (v := 0) X dX6_carry_99 (by decide) ?_
      refine k_iload X dX6_carry_100 0 rfl ?_
      refine k_iload_n X dX6_carry_102 8 rfl ?_
      refine k_iadd X dX6_carry_103 ?_
      refine k_nm (fun z_24 ez_24 => ?_)
      refine k_callVV (n := 3) (As := [.int r_16, .int 0, .int z_24]) (st := []) X [(cO8_iiri rb 4 1 rbc rbn), (cAI g rbc 4 uf_9)] [(cO5_riiiiiiii nn nr xsnapped xmostSlip xslip xisDrawn xseed xtick xmotorTick xahead), (cO6_rii h0 rb u_10 u_11), (cO8_iiri nr 8 10 nrc nrn), (cAI g nrc 80 nrf)] [4, 5] [0, 1, 2, 3] (t_put l g rb r_16 0 z_24 4 1 rbc rbn 4 uf_9 (tbk_4_1)) dX6_carry_104 mw1305 mw326 mw327 mw64 mw328 rfl 8 rfl rfl 0 _ rfl yk_yX8_put_3 rfl (Nat.le_of_ble_eq_true rfl) (Nat.le_of_ble_eq_true rfl) (Nat.le_of_ble_eq_true rfl) (Nat.le_of_ble_eq_true rfl) (Nat.le_of_ble_eq_true rfl) rfl rfl (by decide) rfl (by decide) (by decide) ?_
      rintro w ⟨fa_25, hr_27, rfl⟩
      refine k_ws [(cO5_riiiiiiii nn nr xsnapped xmostSlip xslip xisDrawn xseed xtick xmotorTick xahead), (cO6_rii h0 rb u_10 u_11), (cO8_iiri nr 8 10 nrc nrn), (cAI g nrc 80 nrf), (cO8_iiri rb 4 1 rbc rbn), (cAI g rbc 4 fa_25)] rfl ?_
      refine k_aload_n X dX6_carry_107 5 rfl ?_
      refine k_aload_n X dX6_carry_108 5 rfl ?_
      refine k_get (ci := 6) X inlX6 rfl 1 (by decide) dX6_carry_109 mw147 1 rfl rfl ?_
      refine k_iload X dX6_carry_112 0 rfl ?_
      refine k_iload X dX6_carry_114 4 rfl ?_
      refine k_isub X dX6_carry_116 ?_
      refine k_nm (fun z_28 ez_28 => ?_)
      refine k_mmax X dX6_carry_117 mw1304 mw102 mw103 mw104 (Nat.le_of_ble_eq_true rfl) (Nat.le_of_ble_eq_true rfl) (Nat.zero_le _) (Nat.zero_le _) ?_
      refine k_nm (fun z_29 ez_29 => ?_)
      refine k_put (ci := 6) [(cO5_riiiiiiii nn nr xsnapped xmostSlip xslip xisDrawn xseed xtick xmotorTick xahead), (cO6_rii h0 rb z_29 u_11), (cO8_iiri nr 8 10 nrc nrn), (cAI g nrc 80 nrf), (cO8_iiri rb 4 1 rbc rbn), (cAI g rbc 4 fa_25)] X inlX6 rfl tyX6_ok nmX6 1 (by decide) rfl dX6_carry_120 mw147 1 rfl rfl rfl (Nat.le_of_ble_eq_true rfl) rfl ?_
      refine k_aload_n X dX6_carry_123 5 rfl ?_
      refine k_dup X dX6_carry_124 rfl ?_
      refine k_get (ci := 6) X inlX6 rfl 2 (by decide) dX6_carry_125 mw148 1 rfl rfl ?_
      refine k_iconst (v := 0) X dX6_carry_128 (by decide) ?_
      refine k_iload X dX6_carry_129 0 rfl ?_
      refine k_iload X dX6_carry_131 9 rfl ?_
      refine k_iload X dX6_carry_133 4 rfl ?_
      refine k_iadd X dX6_carry_135 ?_
      refine k_nm (fun z_30 ez_30 => ?_)
      refine k_aload_n X dX6_carry_136 5 rfl ?_
      refine k_get (ci := 6) X inlX6 rfl 2 (by decide) dX6_carry_137 mw148 1 rfl rfl ?_
      refine k_iadd X dX6_carry_140 ?_
      refine k_nm (fun z_31 ez_31 => ?_)
      refine k_isub X dX6_carry_141 ?_
      refine k_nm (fun z_32 ez_32 => ?_)
      refine k_mmax X dX6_carry_142 mw1304 mw102 mw103 mw104 (Nat.le_of_ble_eq_true rfl) (Nat.le_of_ble_eq_true rfl) (Nat.zero_le _) (Nat.zero_le _) ?_
      refine k_nm (fun z_33 ez_33 => ?_)
      refine k_iadd X dX6_carry_145 ?_
      refine k_nm (fun z_34 ez_34 => ?_)
      refine k_put (ci := 6) [(cO5_riiiiiiii nn nr xsnapped xmostSlip xslip xisDrawn xseed xtick xmotorTick xahead), (cO6_rii h0 rb z_29 z_34), (cO8_iiri nr 8 10 nrc nrn), (cAI g nrc 80 nrf), (cO8_iiri rb 4 1 rbc rbn), (cAI g rbc 4 fa_25)] X inlX6 rfl tyX6_ok nmX6 2 (by decide) rfl dX6_carry_146 mw148 1 rfl rfl rfl (Nat.le_of_ble_eq_true rfl) rfl ?_
      refine k_iload X dX6_carry_149 4 rfl ?_
      refine k_iload X dX6_carry_151 1 rfl ?_
      refine k_aload_n X dX6_carry_153 6 rfl ?_
      refine k_get (ci := 5) X inlX5 rfl 0 (by decide) dX6_carry_154 mw1302 0 rfl rfl ?_
      refine k_iload X dX6_carry_157 3 rfl ?_
      refine k_bipush (v := 6) X dX6_carry_159 (by decide) ?_
      refine k_callVI (n := 2) (As := [.int u_7, .int 6]) (st := [.int r_18, .int u_8]) X [(cO8_iiri nr 8 10 nrc nrn), (cAI g nrc 80 nrf)] [(cO5_riiiiiiii nn nr xsnapped xmostSlip xslip xisDrawn xseed xtick xmotorTick xahead), (cO6_rii h0 rb z_29 z_34), (cO8_iiri rb 4 1 rbc rbn), (cAI g rbc 4 fa_25)] [2, 3] [0, 1, 4, 5] (t_at l g nr u_7 6 8 10 nrc nrn 80 nrf (tbk_8_10)) dX6_carry_161 mw1310 mw376 mw377 mw64 mw378 rfl 8 rfl rfl 0 _ rfl yk_yX8_at_2 rfl (Nat.le_of_ble_eq_true rfl) (Nat.le_of_ble_eq_true rfl) (Nat.le_of_ble_eq_true rfl) (Nat.le_of_ble_eq_true rfl) (Nat.le_of_ble_eq_true rfl) rfl rfl (by decide) rfl (by decide) (by decide) ?_
      rintro r_35 w ⟨hr_36, rfl⟩
      refine k_ws [(cO5_riiiiiiii nn nr xsnapped xmostSlip xslip xisDrawn xseed xtick xmotorTick xahead), (cO6_rii h0 rb z_29 z_34), (cO8_iiri rb 4 1 rbc rbn), (cAI g rbc 4 fa_25), (cO8_iiri nr 8 10 nrc nrn), (cAI g nrc 80 nrf)] rfl ?_
      refine k_isub X dX6_carry_164 ?_
      refine k_nm (fun z_37 ez_37 => ?_)
      refine k_iadd X dX6_carry_165 ?_
      refine k_nm (fun z_38 ez_38 => ?_)
      refine k_istore [(5, .int z_38), (9, .int z_23), (8, .int r_18), (7, .int r_16), (6, .int u_7), (0, .ref h0), (1, .ref nn), (2, .int p0), (3, .int p1), (4, .int p2)] X dX6_carry_166 (by decide) rfl ?_
      obtain ⟨z_39, ez_39⟩ : ∃ y : Int32, u_7 + Int32.ofInt 1 = y := ⟨_, rfl⟩
      refine k_iinc z_39 [(6, .int z_39), (5, .int z_38), (9, .int z_23), (8, .int r_18), (7, .int r_16), (0, .ref h0), (1, .ref nn), (2, .int p0), (3, .int p1), (4, .int p2)] 4 X dX6_carry_168 rfl ez_39 (by decide) rfl ?_
      refine k_goto 42 X dX6_carry_171 (by decide) ?_
      refine k_lv [(6, .int z_39), (5, .int z_38), (0, .ref h0), (1, .ref nn), (2, .int p0), (3, .int p1), (4, .int p2)] [0, 1, 5, 6, 7, 8, 9] rfl ?_
      refine k_sub [(cO6_rii h0 rb z_29 z_34), (cO8_iiri rb 4 1 rbc rbn), (cAI g rbc 4 fa_25), (cO5_riiiiiiii nn nr xsnapped xmostSlip xslip xisDrawn xseed xtick xmotorTick xahead), (cO8_iiri nr 8 10 nrc nrn), (cAI g nrc 80 nrf)] [1, 2, 3, 0, 4, 5] rfl (by decide) rfl ?_
      exact ih_14 _ (by rw [← hm_13]; exact mu_lt (by assumption) (by assumption)) z_39 z_38 fa_25 z_29 z_34 rfl 
  · skip
    refine k_aload_n X dX6_carry_9 1 rfl ?_
    refine k_get (ci := 6) X inlX6 rfl 0 (by decide) dX6_carry_10 mw146 0 rfl rfl ?_
    refine k_iload X dX6_carry_13 0 rfl ?_
    refine k_iconst (v := 0) X dX6_carry_15 (by decide) ?_
    refine k_iconst (v := 0) X dX6_carry_16 (by decide) ?_
    refine k_callVV (n := 3) (As := [.int u_1, .int 0, .int 0]) (st := []) X [(cO8_iiri rb 4 1 rbc rbn), (cAI g rbc 4 uf_2)] [(cO6_rii h0 rb xa xw), (cO5_riiiiiiii nn nr xsnapped xmostSlip xslip xisDrawn xseed xtick xmotorTick xahead), (cO8_iiri nr 8 10 nrc nrn), (cAI g nrc 80 nrf)] [1, 2] [0, 3, 4, 5] (t_put l g rb u_1 0 0 4 1 rbc rbn 4 uf_2 (tbk_4_1)) dX6_carry_17 mw1305 mw326 mw327 mw64 mw328 rfl 8 rfl rfl 0 _ rfl yk_yX8_put_3 rfl (Nat.le_of_ble_eq_true rfl) (Nat.le_of_ble_eq_true rfl) (Nat.le_of_ble_eq_true rfl) (Nat.le_of_ble_eq_true rfl) (Nat.le_of_ble_eq_true rfl) rfl rfl (by decide) rfl (by decide) (by decide) ?_
    rintro w ⟨fa_40, hr_42, rfl⟩
    refine k_ws [(cO6_rii h0 rb xa xw), (cO5_riiiiiiii nn nr xsnapped xmostSlip xslip xisDrawn xseed xtick xmotorTick xahead), (cO8_iiri nr 8 10 nrc nrn), (cAI g nrc 80 nrf), (cO8_iiri rb 4 1 rbc rbn), (cAI g rbc 4 fa_40)] rfl ?_
    obtain ⟨z_43, ez_43⟩ : ∃ y : Int32, u_1 + Int32.ofInt 1 = y := ⟨_, rfl⟩
    refine k_iinc z_43 [(5, .int z_43), (0, .ref h0), (1, .ref nn), (2, .int p0), (3, .int p1), (4, .int p2)] 0 X dX6_carry_20 rfl ez_43 (by decide) rfl ?_
    refine k_goto 3 X dX6_carry_23 (by decide) ?_
    refine k_sub [(cO6_rii h0 rb xa xw), (cO8_iiri rb 4 1 rbc rbn), (cAI g rbc 4 fa_40), (cO5_riiiiiiii nn nr xsnapped xmostSlip xslip xisDrawn xseed xtick xmotorTick xahead), (cO8_iiri nr 8 10 nrc nrn), (cAI g nrc 80 nrf)] [0, 4, 5, 1, 2, 3] rfl (by decide) rfl ?_
    exact ih_5 _ (by rw [← hm_4]; exact mu_lt (by assumption) (by assumption)) z_43 fa_40 rfl 
