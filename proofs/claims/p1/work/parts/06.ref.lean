theorem dX11_init_0 : decode cX11_init 0 = .ok (.aload_n 0, 1) := by decide +kernel
theorem dX11_init_1 : decode cX11_init 1 = .ok (.invokespecial 1, 3) := by decide +kernel
theorem dX11_init_4 : decode cX11_init 4 = .ok (.aload_n 0, 1) := by decide +kernel
theorem dX11_init_5 : decode cX11_init 5 = .ok (.sipush 900, 3) := by decide +kernel
theorem dX11_init_8 : decode cX11_init 8 = .ok (.newarray .int, 2) := by decide +kernel
theorem dX11_init_10 : decode cX11_init 10 = .ok (.putfield 7, 3) := by decide +kernel
theorem dX11_init_13 : decode cX11_init 13 = .ok (.aload_n 0, 1) := by decide +kernel
theorem dX11_init_14 : decode cX11_init 14 = .ok (.iconst (-1), 1) := by decide +kernel
theorem dX11_init_15 : decode cX11_init 15 = .ok (.putfield 13, 3) := by decide +kernel
theorem dX11_init_18 : decode cX11_init 18 = .ok (.aload_n 0, 1) := by decide +kernel
theorem dX11_init_19 : decode cX11_init 19 = .ok (.bipush 8, 2) := by decide +kernel
theorem dX11_init_21 : decode cX11_init 21 = .ok (.newarray .int, 2) := by decide +kernel
theorem dX11_init_23 : decode cX11_init 23 = .ok (.putfield 17, 3) := by decide +kernel
theorem dX11_init_26 : decode cX11_init 26 = .ok (.aload_n 0, 1) := by decide +kernel
theorem dX11_init_27 : decode cX11_init 27 = .ok (.sipush 311, 3) := by decide +kernel
theorem dX11_init_30 : decode cX11_init 30 = .ok (.newarray .int, 2) := by decide +kernel
theorem dX11_init_32 : decode cX11_init 32 = .ok (.putfield 20, 3) := by decide +kernel
theorem dX11_init_35 : decode cX11_init 35 = .ok (.aload_n 0, 1) := by decide +kernel
theorem dX11_init_36 : decode cX11_init 36 = .ok (.sipush 311, 3) := by decide +kernel
theorem dX11_init_39 : decode cX11_init 39 = .ok (.newarray .int, 2) := by decide +kernel
theorem dX11_init_41 : decode cX11_init 41 = .ok (.putfield 23, 3) := by decide +kernel
theorem dX11_init_44 : decode cX11_init 44 = .ok (.aload_n 0, 1) := by decide +kernel
theorem dX11_init_45 : decode cX11_init 45 = .ok (.bipush 44, 2) := by decide +kernel
theorem dX11_init_47 : decode cX11_init 47 = .ok (.newarray .int, 2) := by decide +kernel
theorem dX11_init_49 : decode cX11_init 49 = .ok (.putfield 26, 3) := by decide +kernel
theorem dX11_init_52 : decode cX11_init 52 = .ok (.aload_n 0, 1) := by decide +kernel
theorem dX11_init_53 : decode cX11_init 53 = .ok (.sipush 528, 3) := by decide +kernel
theorem dX11_init_56 : decode cX11_init 56 = .ok (.newarray .int, 2) := by decide +kernel
theorem dX11_init_58 : decode cX11_init 58 = .ok (.putfield 29, 3) := by decide +kernel
theorem dX11_init_61 : decode cX11_init 61 = .ok (.aload_n 0, 1) := by decide +kernel
theorem dX11_init_62 : decode cX11_init 62 = .ok (.sipush 132, 3) := by decide +kernel
theorem dX11_init_65 : decode cX11_init 65 = .ok (.newarray .int, 2) := by decide +kernel
theorem dX11_init_67 : decode cX11_init 67 = .ok (.putfield 32, 3) := by decide +kernel
theorem dX11_init_70 : decode cX11_init 70 = .ok (.aload_n 0, 1) := by decide +kernel
theorem dX11_init_71 : decode cX11_init 71 = .ok (.bipush 8, 2) := by decide +kernel
theorem dX11_init_73 : decode cX11_init 73 = .ok (.newarray .int, 2) := by decide +kernel
theorem dX11_init_75 : decode cX11_init 75 = .ok (.putfield 35, 3) := by decide +kernel
theorem dX11_init_78 : decode cX11_init 78 = .ok (.aload_n 0, 1) := by decide +kernel
theorem dX11_init_79 : decode cX11_init 79 = .ok (.bipush 8, 2) := by decide +kernel
theorem dX11_init_81 : decode cX11_init 81 = .ok (.newarray .int, 2) := by decide +kernel
theorem dX11_init_83 : decode cX11_init 83 = .ok (.putfield 38, 3) := by decide +kernel
theorem dX11_init_86 : decode cX11_init 86 = .ok (.aload_n 0, 1) := by decide +kernel
theorem dX11_init_87 : decode cX11_init 87 = .ok (.bipush 8, 2) := by decide +kernel
theorem dX11_init_89 : decode cX11_init 89 = .ok (.newarray .int, 2) := by decide +kernel
theorem dX11_init_91 : decode cX11_init 91 = .ok (.putfield 41, 3) := by decide +kernel
theorem dX11_init_94 : decode cX11_init 94 = .ok (.aload_n 0, 1) := by decide +kernel
theorem dX11_init_95 : decode cX11_init 95 = .ok (.bipush 8, 2) := by decide +kernel
theorem dX11_init_97 : decode cX11_init 97 = .ok (.newarray .int, 2) := by decide +kernel
theorem dX11_init_99 : decode cX11_init 99 = .ok (.putfield 44, 3) := by decide +kernel
theorem dX11_init_102 : decode cX11_init 102 = .ok (.aload_n 0, 1) := by decide +kernel
theorem dX11_init_103 : decode cX11_init 103 = .ok (.bipush 8, 2) := by decide +kernel
theorem dX11_init_105 : decode cX11_init 105 = .ok (.newarray .int, 2) := by decide +kernel
theorem dX11_init_107 : decode cX11_init 107 = .ok (.putfield 47, 3) := by decide +kernel
theorem dX11_init_110 : decode cX11_init 110 = .ok (.aload_n 0, 1) := by decide +kernel
theorem dX11_init_111 : decode cX11_init 111 = .ok (.bipush 8, 2) := by decide +kernel
theorem dX11_init_113 : decode cX11_init 113 = .ok (.newarray .int, 2) := by decide +kernel
theorem dX11_init_115 : decode cX11_init 115 = .ok (.putfield 50, 3) := by decide +kernel
theorem dX11_init_118 : decode cX11_init 118 = .ok (.aload_n 0, 1) := by decide +kernel
theorem dX11_init_119 : decode cX11_init 119 = .ok (.bipush 8, 2) := by decide +kernel
theorem dX11_init_121 : decode cX11_init 121 = .ok (.newarray .int, 2) := by decide +kernel
theorem dX11_init_123 : decode cX11_init 123 = .ok (.putfield 53, 3) := by decide +kernel
theorem dX11_init_126 : decode cX11_init 126 = .ok (.aload_n 0, 1) := by decide +kernel
theorem dX11_init_127 : decode cX11_init 127 = .ok (.bipush 8, 2) := by decide +kernel
theorem dX11_init_129 : decode cX11_init 129 = .ok (.newarray .int, 2) := by decide +kernel
theorem dX11_init_131 : decode cX11_init 131 = .ok (.putfield 56, 3) := by decide +kernel
theorem dX11_init_134 : decode cX11_init 134 = .ok (.aload_n 0, 1) := by decide +kernel
theorem dX11_init_135 : decode cX11_init 135 = .ok (.bipush 8, 2) := by decide +kernel
theorem dX11_init_137 : decode cX11_init 137 = .ok (.newarray .int, 2) := by decide +kernel
theorem dX11_init_139 : decode cX11_init 139 = .ok (.putfield 59, 3) := by decide +kernel
theorem dX11_init_142 : decode cX11_init 142 = .ok (.aload_n 0, 1) := by decide +kernel
theorem dX11_init_143 : decode cX11_init 143 = .ok (.bipush 8, 2) := by decide +kernel
theorem dX11_init_145 : decode cX11_init 145 = .ok (.newarray .int, 2) := by decide +kernel
theorem dX11_init_147 : decode cX11_init 147 = .ok (.putfield 62, 3) := by decide +kernel
theorem dX11_init_150 : decode cX11_init 150 = .ok (.aload_n 0, 1) := by decide +kernel
theorem dX11_init_151 : decode cX11_init 151 = .ok (.bipush 8, 2) := by decide +kernel
theorem dX11_init_153 : decode cX11_init 153 = .ok (.newarray .int, 2) := by decide +kernel
theorem dX11_init_155 : decode cX11_init 155 = .ok (.putfield 65, 3) := by decide +kernel
theorem dX11_init_158 : decode cX11_init 158 = .ok (.aload_n 0, 1) := by decide +kernel
theorem dX11_init_159 : decode cX11_init 159 = .ok (.iconst 2, 1) := by decide +kernel
theorem dX11_init_160 : decode cX11_init 160 = .ok (.newarray .int, 2) := by decide +kernel
theorem dX11_init_162 : decode cX11_init 162 = .ok (.putfield 68, 3) := by decide +kernel
theorem dX11_init_165 : decode cX11_init 165 = .ok (.aload_n 0, 1) := by decide +kernel
theorem dX11_init_166 : decode cX11_init 166 = .ok (.bipush 8, 2) := by decide +kernel
theorem dX11_init_168 : decode cX11_init 168 = .ok (.newarray .int, 2) := by decide +kernel
theorem dX11_init_170 : decode cX11_init 170 = .ok (.putfield 71, 3) := by decide +kernel
theorem dX11_init_173 : decode cX11_init 173 = .ok (.aload_n 0, 1) := by decide +kernel
theorem dX11_init_174 : decode cX11_init 174 = .ok (.iconst 4, 1) := by decide +kernel
theorem dX11_init_175 : decode cX11_init 175 = .ok (.newarray .int, 2) := by decide +kernel
theorem dX11_init_177 : decode cX11_init 177 = .ok (.putfield 74, 3) := by decide +kernel
theorem dX11_init_180 : decode cX11_init 180 = .ok (.aload_n 0, 1) := by decide +kernel
theorem dX11_init_181 : decode cX11_init 181 = .ok (.bipush 8, 2) := by decide +kernel
theorem dX11_init_183 : decode cX11_init 183 = .ok (.newarray .int, 2) := by decide +kernel
theorem dX11_init_185 : decode cX11_init 185 = .ok (.putfield 77, 3) := by decide +kernel
theorem dX11_init_188 : decode cX11_init 188 = .ok (.aload_n 0, 1) := by decide +kernel
theorem dX11_init_189 : decode cX11_init 189 = .ok (.sipush 256, 3) := by decide +kernel
theorem dX11_init_192 : decode cX11_init 192 = .ok (.newarray .int, 2) := by decide +kernel
theorem dX11_init_194 : decode cX11_init 194 = .ok (.putfield 80, 3) := by decide +kernel
theorem dX11_init_197 : decode cX11_init 197 = .ok (.return_, 1) := by decide +kernel
set_option maxHeartbeats 4000000 in
set_option maxRecDepth 100000 in
theorem r_init (l : Launch) (g : Gx) (h0 : Nat) : cV l g yX11_init cX11_init 1 1 20 23 2600 [.ref h0] [(h0, .inr (11, [.int 0, .null, .int 0, .int 0, .int 0, .int 0, .int 0, .int 0, .int 0, .int 0, .int 0, .int 0, .null, .int 0, .int 0, .null, .null, .null, .null, .null, .int 0, .int 0, .null, .null, .null, .null, .null, .null, .null, .null, .null, .null, .null, .null, .int 0, .int 0, .int 0, .null, .null, .null, .null, .int 0, .int 0]))] (fun w => ∃ mt mf r1 r2 r4 r5 r6 r7 r8 r9 r10 r11 r12 r13 r14 r15 r16 r17 r18 r19 r20 r21 r22, w = [(h0, .inr (11, [.int 0, .ref mt, .int 0, .int 0, .int 0, .int 0, .int 0, .int 0, .int 0, .int 0, .int (-1), .int 0, .ref r1, .int 0, .int 0, .ref r2, .ref mf, .ref r4, .ref r5, .ref r6, .int 0, .int 0, .ref r7, .ref r8, .ref r9, .ref r10, .ref r11, .ref r12, .ref r13, .ref r14, .ref r15, .ref r16, .ref r17, .ref r18, .int 0, .int 0, .int 0, .ref r19, .ref r20, .ref r21, .ref r22, .int 0, .int 0])), (mt, .inl (g.2.2.1, 900, .inl (fun _ => 0))), (mf, .inl (g.2.2.1, 311, .inl (fun _ => 0)))]) := by
  refine cV.of (by decide) (Nat.le_of_ble_eq_true rfl) ?_
  intro p e s m args below meth c A X hr hi
  refine k_lveq [(0, .ref h0)] rfl ?_
  refine k_aload_n X dX11_init_0 0 rfl ?_
  refine k_objInit X dX11_init_1 mw254 mw1 mw2 (Nat.le_of_ble_eq_true rfl) (Nat.le_of_ble_eq_true rfl) ?_
  refine k_aload_n X dX11_init_4 0 rfl ?_
  refine k_sipush (v := 900) X dX11_init_5 (by decide) ?_
  refine k_newaI 900 X dX11_init_8 mw10 (by decide) (by decide) (by decide) (Nat.le_of_ble_eq_true rfl) (Nat.le_of_ble_eq_true rfl) (fun q_1 => ?_)
  refine k_ws [(h0, .inr (11, [.int 0, .null, .int 0, .int 0, .int 0, .int 0, .int 0, .int 0, .int 0, .int 0, .int 0, .int 0, .null, .int 0, .int 0, .null, .null, .null, .null, .null, .int 0, .int 0, .null, .null, .null, .null, .null, .null, .null, .null, .null, .null, .null, .null, .int 0, .int 0, .int 0, .null, .null, .null, .null, .int 0, .int 0])), (q_1, .inl (g.2.2.1, 900, .inl (fun _ => 0)))] rfl ?_
  refine k_wide 1 900 (Nat.le_of_ble_eq_true rfl) (Nat.le_of_ble_eq_true rfl) ?_
  refine k_putF (ci := 11) [(h0, .inr (11, [.int 0, .ref q_1, .int 0, .int 0, .int 0, .int 0, .int 0, .int 0, .int 0, .int 0, .int 0, .int 0, .null, .int 0, .int 0, .null, .null, .null, .null, .null, .int 0, .int 0, .null, .null, .null, .null, .null, .null, .null, .null, .null, .null, .null, .null, .int 0, .int 0, .int 0, .null, .null, .null, .null, .int 0, .int 0])), (q_1, .inl (g.2.2.1, 900, .inl (fun _ => 0)))] X hi inlX11 rfl tyX11_ok nmX11 1 (by decide) rfl rfl dX11_init_10 mw255 0 rfl rfl rfl (Nat.le_of_ble_eq_true rfl) rfl ?_
  refine k_aload_n X dX11_init_13 0 rfl ?_
  refine k_iconst (v := -1) X dX11_init_14 (by decide) ?_
  refine k_put (ci := 11) [(h0, .inr (11, [.int 0, .ref q_1, .int 0, .int 0, .int 0, .int 0, .int 0, .int 0, .int 0, .int 0, .int (-1), .int 0, .null, .int 0, .int 0, .null, .null, .null, .null, .null, .int 0, .int 0, .null, .null, .null, .null, .null, .null, .null, .null, .null, .null, .null, .null, .int 0, .int 0, .int 0, .null, .null, .null, .null, .int 0, .int 0])), (q_1, .inl (g.2.2.1, 900, .inl (fun _ => 0)))] X inlX11 rfl tyX11_ok nmX11 10 (by decide) rfl dX11_init_15 mw256 0 rfl rfl rfl (Nat.le_of_ble_eq_true rfl) rfl ?_
  refine k_aload_n X dX11_init_18 0 rfl ?_
  refine k_bipush (v := 8) X dX11_init_19 (by decide) ?_
  refine k_newaI 8 X dX11_init_21 mw10 (by decide) (by decide) (by decide) (Nat.le_of_ble_eq_true rfl) (Nat.le_of_ble_eq_true rfl) (fun q_2 => ?_)
  refine k_ws [(h0, .inr (11, [.int 0, .ref q_1, .int 0, .int 0, .int 0, .int 0, .int 0, .int 0, .int 0, .int 0, .int (-1), .int 0, .null, .int 0, .int 0, .null, .null, .null, .null, .null, .int 0, .int 0, .null, .null, .null, .null, .null, .null, .null, .null, .null, .null, .null, .null, .int 0, .int 0, .int 0, .null, .null, .null, .null, .int 0, .int 0])), (q_1, .inl (g.2.2.1, 900, .inl (fun _ => 0))), (q_2, .inl (g.2.2.1, 8, .inl (fun _ => 0)))] rfl ?_
  refine k_wide 2 908 (Nat.le_of_ble_eq_true rfl) (Nat.le_of_ble_eq_true rfl) ?_
  refine k_putF (ci := 11) [(h0, .inr (11, [.int 0, .ref q_1, .int 0, .int 0, .int 0, .int 0, .int 0, .int 0, .int 0, .int 0, .int (-1), .int 0, .ref q_2, .int 0, .int 0, .null, .null, .null, .null, .null, .int 0, .int 0, .null, .null, .null, .null, .null, .null, .null, .null, .null, .null, .null, .null, .int 0, .int 0, .int 0, .null, .null, .null, .null, .int 0, .int 0])), (q_1, .inl (g.2.2.1, 900, .inl (fun _ => 0))), (q_2, .inl (g.2.2.1, 8, .inl (fun _ => 0)))] X hi inlX11 rfl tyX11_ok nmX11 12 (by decide) rfl rfl dX11_init_23 mw257 0 rfl rfl rfl (Nat.le_of_ble_eq_true rfl) rfl ?_
  refine k_aload_n X dX11_init_26 0 rfl ?_
  refine k_sipush (v := 311) X dX11_init_27 (by decide) ?_
  refine k_newaI 311 X dX11_init_30 mw10 (by decide) (by decide) (by decide) (Nat.le_of_ble_eq_true rfl) (Nat.le_of_ble_eq_true rfl) (fun q_3 => ?_)
  refine k_ws [(h0, .inr (11, [.int 0, .ref q_1, .int 0, .int 0, .int 0, .int 0, .int 0, .int 0, .int 0, .int 0, .int (-1), .int 0, .ref q_2, .int 0, .int 0, .null, .null, .null, .null, .null, .int 0, .int 0, .null, .null, .null, .null, .null, .null, .null, .null, .null, .null, .null, .null, .int 0, .int 0, .int 0, .null, .null, .null, .null, .int 0, .int 0])), (q_1, .inl (g.2.2.1, 900, .inl (fun _ => 0))), (q_2, .inl (g.2.2.1, 8, .inl (fun _ => 0))), (q_3, .inl (g.2.2.1, 311, .inl (fun _ => 0)))] rfl ?_
  refine k_wide 3 1219 (Nat.le_of_ble_eq_true rfl) (Nat.le_of_ble_eq_true rfl) ?_
  refine k_putF (ci := 11) [(h0, .inr (11, [.int 0, .ref q_1, .int 0, .int 0, .int 0, .int 0, .int 0, .int 0, .int 0, .int 0, .int (-1), .int 0, .ref q_2, .int 0, .int 0, .ref q_3, .null, .null, .null, .null, .int 0, .int 0, .null, .null, .null, .null, .null, .null, .null, .null, .null, .null, .null, .null, .int 0, .int 0, .int 0, .null, .null, .null, .null, .int 0, .int 0])), (q_1, .inl (g.2.2.1, 900, .inl (fun _ => 0))), (q_2, .inl (g.2.2.1, 8, .inl (fun _ => 0))), (q_3, .inl (g.2.2.1, 311, .inl (fun _ => 0)))] X hi inlX11 rfl tyX11_ok nmX11 15 (by decide) rfl rfl dX11_init_32 mw258 0 rfl rfl rfl (Nat.le_of_ble_eq_true rfl) rfl ?_
  refine k_aload_n X dX11_init_35 0 rfl ?_
  refine k_sipush (v := 311) X dX11_init_36 (by decide) ?_
  refine k_newaI 311 X dX11_init_39 mw10 (by decide) (by decide) (by decide) (Nat.le_of_ble_eq_true rfl) (Nat.le_of_ble_eq_true rfl) (fun q_4 => ?_)
  refine k_ws [(h0, .inr (11, [.int 0, .ref q_1, .int 0, .int 0, .int 0, .int 0, .int 0, .int 0, .int 0, .int 0, .int (-1), .int 0, .ref q_2, .int 0, .int 0, .ref q_3, .null, .null, .null, .null, .int 0, .int 0, .null, .null, .null, .null, .null, .null, .null, .null, .null, .null, .null, .null, .int 0, .int 0, .int 0, .null, .null, .null, .null, .int 0, .int 0])), (q_1, .inl (g.2.2.1, 900, .inl (fun _ => 0))), (q_2, .inl (g.2.2.1, 8, .inl (fun _ => 0))), (q_3, .inl (g.2.2.1, 311, .inl (fun _ => 0))), (q_4, .inl (g.2.2.1, 311, .inl (fun _ => 0)))] rfl ?_
  refine k_wide 4 1530 (Nat.le_of_ble_eq_true rfl) (Nat.le_of_ble_eq_true rfl) ?_
  refine k_putF (ci := 11) [(h0, .inr (11, [.int 0, .ref q_1, .int 0, .int 0, .int 0, .int 0, .int 0, .int 0, .int 0, .int 0, .int (-1), .int 0, .ref q_2, .int 0, .int 0, .ref q_3, .ref q_4, .null, .null, .null, .int 0, .int 0, .null, .null, .null, .null, .null, .null, .null, .null, .null, .null, .null, .null, .int 0, .int 0, .int 0, .null, .null, .null, .null, .int 0, .int 0])), (q_1, .inl (g.2.2.1, 900, .inl (fun _ => 0))), (q_2, .inl (g.2.2.1, 8, .inl (fun _ => 0))), (q_3, .inl (g.2.2.1, 311, .inl (fun _ => 0))), (q_4, .inl (g.2.2.1, 311, .inl (fun _ => 0)))] X hi inlX11 rfl tyX11_ok nmX11 16 (by decide) rfl rfl dX11_init_41 mw259 0 rfl rfl rfl (Nat.le_of_ble_eq_true rfl) rfl ?_
  refine k_aload_n X dX11_init_44 0 rfl ?_
  refine k_bipush (v := 44) X dX11_init_45 (by decide) ?_
  refine k_newaI 44 X dX11_init_47 mw10 (by decide) (by decide) (by decide) (Nat.le_of_ble_eq_true rfl) (Nat.le_of_ble_eq_true rfl) (fun q_5 => ?_)
  refine k_ws [(h0, .inr (11, [.int 0, .ref q_1, .int 0, .int 0, .int 0, .int 0, .int 0, .int 0, .int 0, .int 0, .int (-1), .int 0, .ref q_2, .int 0, .int 0, .ref q_3, .ref q_4, .null, .null, .null, .int 0, .int 0, .null, .null, .null, .null, .null, .null, .null, .null, .null, .null, .null, .null, .int 0, .int 0, .int 0, .null, .null, .null, .null, .int 0, .int 0])), (q_1, .inl (g.2.2.1, 900, .inl (fun _ => 0))), (q_2, .inl (g.2.2.1, 8, .inl (fun _ => 0))), (q_3, .inl (g.2.2.1, 311, .inl (fun _ => 0))), (q_4, .inl (g.2.2.1, 311, .inl (fun _ => 0))), (q_5, .inl (g.2.2.1, 44, .inl (fun _ => 0)))] rfl ?_
  refine k_wide 5 1574 (Nat.le_of_ble_eq_true rfl) (Nat.le_of_ble_eq_true rfl) ?_
  refine k_putF (ci := 11) [(h0, .inr (11, [.int 0, .ref q_1, .int 0, .int 0, .int 0, .int 0, .int 0, .int 0, .int 0, .int 0, .int (-1), .int 0, .ref q_2, .int 0, .int 0, .ref q_3, .ref q_4, .ref q_5, .null, .null, .int 0, .int 0, .null, .null, .null, .null, .null, .null, .null, .null, .null, .null, .null, .null, .int 0, .int 0, .int 0, .null, .null, .null, .null, .int 0, .int 0])), (q_1, .inl (g.2.2.1, 900, .inl (fun _ => 0))), (q_2, .inl (g.2.2.1, 8, .inl (fun _ => 0))), (q_3, .inl (g.2.2.1, 311, .inl (fun _ => 0))), (q_4, .inl (g.2.2.1, 311, .inl (fun _ => 0))), (q_5, .inl (g.2.2.1, 44, .inl (fun _ => 0)))] X hi inlX11 rfl tyX11_ok nmX11 17 (by decide) rfl rfl dX11_init_49 mw260 0 rfl rfl rfl (Nat.le_of_ble_eq_true rfl) rfl ?_
  refine k_aload_n X dX11_init_52 0 rfl ?_
  refine k_sipush (v := 528) X dX11_init_53 (by decide) ?_
  refine k_newaI 528 X dX11_init_56 mw10 (by decide) (by decide) (by decide) (Nat.le_of_ble_eq_true rfl) (Nat.le_of_ble_eq_true rfl) (fun q_6 => ?_)
  refine k_ws [(h0, .inr (11, [.int 0, .ref q_1, .int 0, .int 0, .int 0, .int 0, .int 0, .int 0, .int 0, .int 0, .int (-1), .int 0, .ref q_2, .int 0, .int 0, .ref q_3, .ref q_4, .ref q_5, .null, .null, .int 0, .int 0, .null, .null, .null, .null, .null, .null, .null, .null, .null, .null, .null, .null, .int 0, .int 0, .int 0, .null, .null, .null, .null, .int 0, .int 0])), (q_1, .inl (g.2.2.1, 900, .inl (fun _ => 0))), (q_2, .inl (g.2.2.1, 8, .inl (fun _ => 0))), (q_3, .inl (g.2.2.1, 311, .inl (fun _ => 0))), (q_4, .inl (g.2.2.1, 311, .inl (fun _ => 0))), (q_5, .inl (g.2.2.1, 44, .inl (fun _ => 0))), (q_6, .inl (g.2.2.1, 528, .inl (fun _ => 0)))] rfl ?_
  refine k_wide 6 2102 (Nat.le_of_ble_eq_true rfl) (Nat.le_of_ble_eq_true rfl) ?_
  refine k_putF (ci := 11) [(h0, .inr (11, [.int 0, .ref q_1, .int 0, .int 0, .int 0, .int 0, .int 0, .int 0, .int 0, .int 0, .int (-1), .int 0, .ref q_2, .int 0, .int 0, .ref q_3, .ref q_4, .ref q_5, .ref q_6, .null, .int 0, .int 0, .null, .null, .null, .null, .null, .null, .null, .null, .null, .null, .null, .null, .int 0, .int 0, .int 0, .null, .null, .null, .null, .int 0, .int 0])), (q_1, .inl (g.2.2.1, 900, .inl (fun _ => 0))), (q_2, .inl (g.2.2.1, 8, .inl (fun _ => 0))), (q_3, .inl (g.2.2.1, 311, .inl (fun _ => 0))), (q_4, .inl (g.2.2.1, 311, .inl (fun _ => 0))), (q_5, .inl (g.2.2.1, 44, .inl (fun _ => 0))), (q_6, .inl (g.2.2.1, 528, .inl (fun _ => 0)))] X hi inlX11 rfl tyX11_ok nmX11 18 (by decide) rfl rfl dX11_init_58 mw261 0 rfl rfl rfl (Nat.le_of_ble_eq_true rfl) rfl ?_
  refine k_aload_n X dX11_init_61 0 rfl ?_
  refine k_sipush (v := 132) X dX11_init_62 (by decide) ?_
  refine k_newaI 132 X dX11_init_65 mw10 (by decide) (by decide) (by decide) (Nat.le_of_ble_eq_true rfl) (Nat.le_of_ble_eq_true rfl) (fun q_7 => ?_)
  refine k_ws [(h0, .inr (11, [.int 0, .ref q_1, .int 0, .int 0, .int 0, .int 0, .int 0, .int 0, .int 0, .int 0, .int (-1), .int 0, .ref q_2, .int 0, .int 0, .ref q_3, .ref q_4, .ref q_5, .ref q_6, .null, .int 0, .int 0, .null, .null, .null, .null, .null, .null, .null, .null, .null, .null, .null, .null, .int 0, .int 0, .int 0, .null, .null, .null, .null, .int 0, .int 0])), (q_1, .inl (g.2.2.1, 900, .inl (fun _ => 0))), (q_2, .inl (g.2.2.1, 8, .inl (fun _ => 0))), (q_3, .inl (g.2.2.1, 311, .inl (fun _ => 0))), (q_4, .inl (g.2.2.1, 311, .inl (fun _ => 0))), (q_5, .inl (g.2.2.1, 44, .inl (fun _ => 0))), (q_6, .inl (g.2.2.1, 528, .inl (fun _ => 0))), (q_7, .inl (g.2.2.1, 132, .inl (fun _ => 0)))] rfl ?_
  refine k_wide 7 2234 (Nat.le_of_ble_eq_true rfl) (Nat.le_of_ble_eq_true rfl) ?_
  refine k_putF (ci := 11) [(h0, .inr (11, [.int 0, .ref q_1, .int 0, .int 0, .int 0, .int 0, .int 0, .int 0, .int 0, .int 0, .int (-1), .int 0, .ref q_2, .int 0, .int 0, .ref q_3, .ref q_4, .ref q_5, .ref q_6, .ref q_7, .int 0, .int 0, .null, .null, .null, .null, .null, .null, .null, .null, .null, .null, .null, .null, .int 0, .int 0, .int 0, .null, .null, .null, .null, .int 0, .int 0])), (q_1, .inl (g.2.2.1, 900, .inl (fun _ => 0))), (q_2, .inl (g.2.2.1, 8, .inl (fun _ => 0))), (q_3, .inl (g.2.2.1, 311, .inl (fun _ => 0))), (q_4, .inl (g.2.2.1, 311, .inl (fun _ => 0))), (q_5, .inl (g.2.2.1, 44, .inl (fun _ => 0))), (q_6, .inl (g.2.2.1, 528, .inl (fun _ => 0))), (q_7, .inl (g.2.2.1, 132, .inl (fun _ => 0)))] X hi inlX11 rfl tyX11_ok nmX11 19 (by decide) rfl rfl dX11_init_67 mw262 0 rfl rfl rfl (Nat.le_of_ble_eq_true rfl) rfl ?_
  refine k_aload_n X dX11_init_70 0 rfl ?_
  refine k_bipush (v := 8) X dX11_init_71 (by decide) ?_
  refine k_newaI 8 X dX11_init_73 mw10 (by decide) (by decide) (by decide) (Nat.le_of_ble_eq_true rfl) (Nat.le_of_ble_eq_true rfl) (fun q_8 => ?_)
  refine k_ws [(h0, .inr (11, [.int 0, .ref q_1, .int 0, .int 0, .int 0, .int 0, .int 0, .int 0, .int 0, .int 0, .int (-1), .int 0, .ref q_2, .int 0, .int 0, .ref q_3, .ref q_4, .ref q_5, .ref q_6, .ref q_7, .int 0, .int 0, .null, .null, .null, .null, .null, .null, .null, .null, .null, .null, .null, .null, .int 0, .int 0, .int 0, .null, .null, .null, .null, .int 0, .int 0])), (q_1, .inl (g.2.2.1, 900, .inl (fun _ => 0))), (q_2, .inl (g.2.2.1, 8, .inl (fun _ => 0))), (q_3, .inl (g.2.2.1, 311, .inl (fun _ => 0))), (q_4, .inl (g.2.2.1, 311, .inl (fun _ => 0))), (q_5, .inl (g.2.2.1, 44, .inl (fun _ => 0))), (q_6, .inl (g.2.2.1, 528, .inl (fun _ => 0))), (q_7, .inl (g.2.2.1, 132, .inl (fun _ => 0))), (q_8, .inl (g.2.2.1, 8, .inl (fun _ => 0)))] rfl ?_
  refine k_wide 8 2242 (Nat.le_of_ble_eq_true rfl) (Nat.le_of_ble_eq_true rfl) ?_
  refine k_putF (ci := 11) [(h0, .inr (11, [.int 0, .ref q_1, .int 0, .int 0, .int 0, .int 0, .int 0, .int 0, .int 0, .int 0, .int (-1), .int 0, .ref q_2, .int 0, .int 0, .ref q_3, .ref q_4, .ref q_5, .ref q_6, .ref q_7, .int 0, .int 0, .ref q_8, .null, .null, .null, .null, .null, .null, .null, .null, .null, .null, .null, .int 0, .int 0, .int 0, .null, .null, .null, .null, .int 0, .int 0])), (q_1, .inl (g.2.2.1, 900, .inl (fun _ => 0))), (q_2, .inl (g.2.2.1, 8, .inl (fun _ => 0))), (q_3, .inl (g.2.2.1, 311, .inl (fun _ => 0))), (q_4, .inl (g.2.2.1, 311, .inl (fun _ => 0))), (q_5, .inl (g.2.2.1, 44, .inl (fun _ => 0))), (q_6, .inl (g.2.2.1, 528, .inl (fun _ => 0))), (q_7, .inl (g.2.2.1, 132, .inl (fun _ => 0))), (q_8, .inl (g.2.2.1, 8, .inl (fun _ => 0)))] X hi inlX11 rfl tyX11_ok nmX11 22 (by decide) rfl rfl dX11_init_75 mw263 0 rfl rfl rfl (Nat.le_of_ble_eq_true rfl) rfl ?_
  refine k_aload_n X dX11_init_78 0 rfl ?_
  refine k_bipush (v := 8) X dX11_init_79 (by decide) ?_
  refine k_newaI 8 X dX11_init_81 mw10 (by decide) (by decide) (by decide) (Nat.le_of_ble_eq_true rfl) (Nat.le_of_ble_eq_true rfl) (fun q_9 => ?_)
  refine k_ws [(h0, .inr (11, [.int 0, .ref q_1, .int 0, .int 0, .int 0, .int 0, .int 0, .int 0, .int 0, .int 0, .int (-1), .int 0, .ref q_2, .int 0, .int 0, .ref q_3, .ref q_4, .ref q_5, .ref q_6, .ref q_7, .int 0, .int 0, .ref q_8, .null, .null, .null, .null, .null, .null, .null, .null, .null, .null, .null, .int 0, .int 0, .int 0, .null, .null, .null, .null, .int 0, .int 0])), (q_1, .inl (g.2.2.1, 900, .inl (fun _ => 0))), (q_2, .inl (g.2.2.1, 8, .inl (fun _ => 0))), (q_3, .inl (g.2.2.1, 311, .inl (fun _ => 0))), (q_4, .inl (g.2.2.1, 311, .inl (fun _ => 0))), (q_5, .inl (g.2.2.1, 44, .inl (fun _ => 0))), (q_6, .inl (g.2.2.1, 528, .inl (fun _ => 0))), (q_7, .inl (g.2.2.1, 132, .inl (fun _ => 0))), (q_8, .inl (g.2.2.1, 8, .inl (fun _ => 0))), (q_9, .inl (g.2.2.1, 8, .inl (fun _ => 0)))] rfl ?_
  refine k_wide 9 2250 (Nat.le_of_ble_eq_true rfl) (Nat.le_of_ble_eq_true rfl) ?_
  refine k_putF (ci := 11) [(h0, .inr (11, [.int 0, .ref q_1, .int 0, .int 0, .int 0, .int 0, .int 0, .int 0, .int 0, .int 0, .int (-1), .int 0, .ref q_2, .int 0, .int 0, .ref q_3, .ref q_4, .ref q_5, .ref q_6, .ref q_7, .int 0, .int 0, .ref q_8, .ref q_9, .null, .null, .null, .null, .null, .null, .null, .null, .null, .null, .int 0, .int 0, .int 0, .null, .null, .null, .null, .int 0, .int 0])), (q_1, .inl (g.2.2.1, 900, .inl (fun _ => 0))), (q_2, .inl (g.2.2.1, 8, .inl (fun _ => 0))), (q_3, .inl (g.2.2.1, 311, .inl (fun _ => 0))), (q_4, .inl (g.2.2.1, 311, .inl (fun _ => 0))), (q_5, .inl (g.2.2.1, 44, .inl (fun _ => 0))), (q_6, .inl (g.2.2.1, 528, .inl (fun _ => 0))), (q_7, .inl (g.2.2.1, 132, .inl (fun _ => 0))), (q_8, .inl (g.2.2.1, 8, .inl (fun _ => 0))), (q_9, .inl (g.2.2.1, 8, .inl (fun _ => 0)))] X hi inlX11 rfl tyX11_ok nmX11 23 (by decide) rfl rfl dX11_init_83 mw264 0 rfl rfl rfl (Nat.le_of_ble_eq_true rfl) rfl ?_
  refine k_aload_n X dX11_init_86 0 rfl ?_
  refine k_bipush (v := 8) X dX11_init_87 (by decide) ?_
  refine k_newaI 8 X dX11_init_89 mw10 (by decide) (by decide) (by decide) (Nat.le_of_ble_eq_true rfl) (Nat.le_of_ble_eq_true rfl) (fun q_10 => ?_)
  refine k_ws [(h0, .inr (11, [.int 0, .ref q_1, .int 0, .int 0, .int 0, .int 0, .int 0, .int 0, .int 0, .int 0, .int (-1), .int 0, .ref q_2, .int 0, .int 0, .ref q_3, .ref q_4, .ref q_5, .ref q_6, .ref q_7, .int 0, .int 0, .ref q_8, .ref q_9, .null, .null, .null, .null, .null, .null, .null, .null, .null, .null, .int 0, .int 0, .int 0, .null, .null, .null, .null, .int 0, .int 0])), (q_1, .inl (g.2.2.1, 900, .inl (fun _ => 0))), (q_2, .inl (g.2.2.1, 8, .inl (fun _ => 0))), (q_3, .inl (g.2.2.1, 311, .inl (fun _ => 0))), (q_4, .inl (g.2.2.1, 311, .inl (fun _ => 0))), (q_5, .inl (g.2.2.1, 44, .inl (fun _ => 0))), (q_6, .inl (g.2.2.1, 528, .inl (fun _ => 0))), (q_7, .inl (g.2.2.1, 132, .inl (fun _ => 0))), (q_8, .inl (g.2.2.1, 8, .inl (fun _ => 0))), (q_9, .inl (g.2.2.1, 8, .inl (fun _ => 0))), (q_10, .inl (g.2.2.1, 8, .inl (fun _ => 0)))] rfl ?_
  refine k_wide 10 2258 (Nat.le_of_ble_eq_true rfl) (Nat.le_of_ble_eq_true rfl) ?_
  refine k_putF (ci := 11) [(h0, .inr (11, [.int 0, .ref q_1, .int 0, .int 0, .int 0, .int 0, .int 0, .int 0, .int 0, .int 0, .int (-1), .int 0, .ref q_2, .int 0, .int 0, .ref q_3, .ref q_4, .ref q_5, .ref q_6, .ref q_7, .int 0, .int 0, .ref q_8, .ref q_9, .ref q_10, .null, .null, .null, .null, .null, .null, .null, .null, .null, .int 0, .int 0, .int 0, .null, .null, .null, .null, .int 0, .int 0])), (q_1, .inl (g.2.2.1, 900, .inl (fun _ => 0))), (q_2, .inl (g.2.2.1, 8, .inl (fun _ => 0))), (q_3, .inl (g.2.2.1, 311, .inl (fun _ => 0))), (q_4, .inl (g.2.2.1, 311, .inl (fun _ => 0))), (q_5, .inl (g.2.2.1, 44, .inl (fun _ => 0))), (q_6, .inl (g.2.2.1, 528, .inl (fun _ => 0))), (q_7, .inl (g.2.2.1, 132, .inl (fun _ => 0))), (q_8, .inl (g.2.2.1, 8, .inl (fun _ => 0))), (q_9, .inl (g.2.2.1, 8, .inl (fun _ => 0))), (q_10, .inl (g.2.2.1, 8, .inl (fun _ => 0)))] X hi inlX11 rfl tyX11_ok nmX11 24 (by decide) rfl rfl dX11_init_91 mw265 0 rfl rfl rfl (Nat.le_of_ble_eq_true rfl) rfl ?_
  refine k_aload_n X dX11_init_94 0 rfl ?_
  refine k_bipush (v := 8) X dX11_init_95 (by decide) ?_
  refine k_newaI 8 X dX11_init_97 mw10 (by decide) (by decide) (by decide) (Nat.le_of_ble_eq_true rfl) (Nat.le_of_ble_eq_true rfl) (fun q_11 => ?_)
  refine k_ws [(h0, .inr (11, [.int 0, .ref q_1, .int 0, .int 0, .int 0, .int 0, .int 0, .int 0, .int 0, .int 0, .int (-1), .int 0, .ref q_2, .int 0, .int 0, .ref q_3, .ref q_4, .ref q_5, .ref q_6, .ref q_7, .int 0, .int 0, .ref q_8, .ref q_9, .ref q_10, .null, .null, .null, .null, .null, .null, .null, .null, .null, .int 0, .int 0, .int 0, .null, .null, .null, .null, .int 0, .int 0])), (q_1, .inl (g.2.2.1, 900, .inl (fun _ => 0))), (q_2, .inl (g.2.2.1, 8, .inl (fun _ => 0))), (q_3, .inl (g.2.2.1, 311, .inl (fun _ => 0))), (q_4, .inl (g.2.2.1, 311, .inl (fun _ => 0))), (q_5, .inl (g.2.2.1, 44, .inl (fun _ => 0))), (q_6, .inl (g.2.2.1, 528, .inl (fun _ => 0))), (q_7, .inl (g.2.2.1, 132, .inl (fun _ => 0))), (q_8, .inl (g.2.2.1, 8, .inl (fun _ => 0))), (q_9, .inl (g.2.2.1, 8, .inl (fun _ => 0))), (q_10, .inl (g.2.2.1, 8, .inl (fun _ => 0))), (q_11, .inl (g.2.2.1, 8, .inl (fun _ => 0)))] rfl ?_
  refine k_wide 11 2266 (Nat.le_of_ble_eq_true rfl) (Nat.le_of_ble_eq_true rfl) ?_
  refine k_putF (ci := 11) [(h0, .inr (11, [.int 0, .ref q_1, .int 0, .int 0, .int 0, .int 0, .int 0, .int 0, .int 0, .int 0, .int (-1), .int 0, .ref q_2, .int 0, .int 0, .ref q_3, .ref q_4, .ref q_5, .ref q_6, .ref q_7, .int 0, .int 0, .ref q_8, .ref q_9, .ref q_10, .ref q_11, .null, .null, .null, .null, .null, .null, .null, .null, .int 0, .int 0, .int 0, .null, .null, .null, .null, .int 0, .int 0])), (q_1, .inl (g.2.2.1, 900, .inl (fun _ => 0))), (q_2, .inl (g.2.2.1, 8, .inl (fun _ => 0))), (q_3, .inl (g.2.2.1, 311, .inl (fun _ => 0))), (q_4, .inl (g.2.2.1, 311, .inl (fun _ => 0))), (q_5, .inl (g.2.2.1, 44, .inl (fun _ => 0))), (q_6, .inl (g.2.2.1, 528, .inl (fun _ => 0))), (q_7, .inl (g.2.2.1, 132, .inl (fun _ => 0))), (q_8, .inl (g.2.2.1, 8, .inl (fun _ => 0))), (q_9, .inl (g.2.2.1, 8, .inl (fun _ => 0))), (q_10, .inl (g.2.2.1, 8, .inl (fun _ => 0))), (q_11, .inl (g.2.2.1, 8, .inl (fun _ => 0)))] X hi inlX11 rfl tyX11_ok nmX11 25 (by decide) rfl rfl dX11_init_99 mw266 0 rfl rfl rfl (Nat.le_of_ble_eq_true rfl) rfl ?_
  refine k_aload_n X dX11_init_102 0 rfl ?_
  refine k_bipush (v := 8) X dX11_init_103 (by decide) ?_
  refine k_newaI 8 X dX11_init_105 mw10 (by decide) (by decide) (by decide) (Nat.le_of_ble_eq_true rfl) (Nat.le_of_ble_eq_true rfl) (fun q_12 => ?_)
  refine k_ws [(h0, .inr (11, [.int 0, .ref q_1, .int 0, .int 0, .int 0, .int 0, .int 0, .int 0, .int 0, .int 0, .int (-1), .int 0, .ref q_2, .int 0, .int 0, .ref q_3, .ref q_4, .ref q_5, .ref q_6, .ref q_7, .int 0, .int 0, .ref q_8, .ref q_9, .ref q_10, .ref q_11, .null, .null, .null, .null, .null, .null, .null, .null, .int 0, .int 0, .int 0, .null, .null, .null, .null, .int 0, .int 0])), (q_1, .inl (g.2.2.1, 900, .inl (fun _ => 0))), (q_2, .inl (g.2.2.1, 8, .inl (fun _ => 0))), (q_3, .inl (g.2.2.1, 311, .inl (fun _ => 0))), (q_4, .inl (g.2.2.1, 311, .inl (fun _ => 0))), (q_5, .inl (g.2.2.1, 44, .inl (fun _ => 0))), (q_6, .inl (g.2.2.1, 528, .inl (fun _ => 0))), (q_7, .inl (g.2.2.1, 132, .inl (fun _ => 0))), (q_8, .inl (g.2.2.1, 8, .inl (fun _ => 0))), (q_9, .inl (g.2.2.1, 8, .inl (fun _ => 0))), (q_10, .inl (g.2.2.1, 8, .inl (fun _ => 0))), (q_11, .inl (g.2.2.1, 8, .inl (fun _ => 0))), (q_12, .inl (g.2.2.1, 8, .inl (fun _ => 0)))] rfl ?_
  refine k_wide 12 2274 (Nat.le_of_ble_eq_true rfl) (Nat.le_of_ble_eq_true rfl) ?_
  refine k_putF (ci := 11) [(h0, .inr (11, [.int 0, .ref q_1, .int 0, .int 0, .int 0, .int 0, .int 0, .int 0, .int 0, .int 0, .int (-1), .int 0, .ref q_2, .int 0, .int 0, .ref q_3, .ref q_4, .ref q_5, .ref q_6, .ref q_7, .int 0, .int 0, .ref q_8, .ref q_9, .ref q_10, .ref q_11, .ref q_12, .null, .null, .null, .null, .null, .null, .null, .int 0, .int 0, .int 0, .null, .null, .null, .null, .int 0, .int 0])), (q_1, .inl (g.2.2.1, 900, .inl (fun _ => 0))), (q_2, .inl (g.2.2.1, 8, .inl (fun _ => 0))), (q_3, .inl (g.2.2.1, 311, .inl (fun _ => 0))), (q_4, .inl (g.2.2.1, 311, .inl (fun _ => 0))), (q_5, .inl (g.2.2.1, 44, .inl (fun _ => 0))), (q_6, .inl (g.2.2.1, 528, .inl (fun _ => 0))), (q_7, .inl (g.2.2.1, 132, .inl (fun _ => 0))), (q_8, .inl (g.2.2.1, 8, .inl (fun _ => 0))), (q_9, .inl (g.2.2.1, 8, .inl (fun _ => 0))), (q_10, .inl (g.2.2.1, 8, .inl (fun _ => 0))), (q_11, .inl (g.2.2.1, 8, .inl (fun _ => 0))), (q_12, .inl (g.2.2.1, 8, .inl (fun _ => 0)))] X hi inlX11 rfl tyX11_ok nmX11 26 (by decide) rfl rfl dX11_init_107 mw267 0 rfl rfl rfl (Nat.le_of_ble_eq_true rfl) rfl ?_
  refine k_aload_n X dX11_init_110 0 rfl ?_
  refine k_bipush (v := 8) X dX11_init_111 (by decide) ?_
  refine k_newaI 8 X dX11_init_113 mw10 (by decide) (by decide) (by decide) (Nat.le_of_ble_eq_true rfl) (Nat.le_of_ble_eq_true rfl) (fun q_13 => ?_)
  refine k_ws [(h0, .inr (11, [.int 0, .ref q_1, .int 0, .int 0, .int 0, .int 0, .int 0, .int 0, .int 0, .int 0, .int (-1), .int 0, .ref q_2, .int 0, .int 0, .ref q_3, .ref q_4, .ref q_5, .ref q_6, .ref q_7, .int 0, .int 0, .ref q_8, .ref q_9, .ref q_10, .ref q_11, .ref q_12, .null, .null, .null, .null, .null, .null, .null, .int 0, .int 0, .int 0, .null, .null, .null, .null, .int 0, .int 0])), (q_1, .inl (g.2.2.1, 900, .inl (fun _ => 0))), (q_2, .inl (g.2.2.1, 8, .inl (fun _ => 0))), (q_3, .inl (g.2.2.1, 311, .inl (fun _ => 0))), (q_4, .inl (g.2.2.1, 311, .inl (fun _ => 0))), (q_5, .inl (g.2.2.1, 44, .inl (fun _ => 0))), (q_6, .inl (g.2.2.1, 528, .inl (fun _ => 0))), (q_7, .inl (g.2.2.1, 132, .inl (fun _ => 0))), (q_8, .inl (g.2.2.1, 8, .inl (fun _ => 0))), (q_9, .inl (g.2.2.1, 8, .inl (fun _ => 0))), (q_10, .inl (g.2.2.1, 8, .inl (fun _ => 0))), (q_11, .inl (g.2.2.1, 8, .inl (fun _ => 0))), (q_12, .inl (g.2.2.1, 8, .inl (fun _ => 0))), (q_13, .inl (g.2.2.1, 8, .inl (fun _ => 0)))] rfl ?_
  refine k_wide 13 2282 (Nat.le_of_ble_eq_true rfl) (Nat.le_of_ble_eq_true rfl) ?_
  refine k_putF (ci := 11) [(h0, .inr (11, [.int 0, .ref q_1, .int 0, .int 0, .int 0, .int 0, .int 0, .int 0, .int 0, .int 0, .int (-1), .int 0, .ref q_2, .int 0, .int 0, .ref q_3, .ref q_4, .ref q_5, .ref q_6, .ref q_7, .int 0, .int 0, .ref q_8, .ref q_9, .ref q_10, .ref q_11, .ref q_12, .ref q_13, .null, .null, .null, .null, .null, .null, .int 0, .int 0, .int 0, .null, .null, .null, .null, .int 0, .int 0])), (q_1, .inl (g.2.2.1, 900, .inl (fun _ => 0))), (q_2, .inl (g.2.2.1, 8, .inl (fun _ => 0))), (q_3, .inl (g.2.2.1, 311, .inl (fun _ => 0))), (q_4, .inl (g.2.2.1, 311, .inl (fun _ => 0))), (q_5, .inl (g.2.2.1, 44, .inl (fun _ => 0))), (q_6, .inl (g.2.2.1, 528, .inl (fun _ => 0))), (q_7, .inl (g.2.2.1, 132, .inl (fun _ => 0))), (q_8, .inl (g.2.2.1, 8, .inl (fun _ => 0))), (q_9, .inl (g.2.2.1, 8, .inl (fun _ => 0))), (q_10, .inl (g.2.2.1, 8, .inl (fun _ => 0))), (q_11, .inl (g.2.2.1, 8, .inl (fun _ => 0))), (q_12, .inl (g.2.2.1, 8, .inl (fun _ => 0))), (q_13, .inl (g.2.2.1, 8, .inl (fun _ => 0)))] X hi inlX11 rfl tyX11_ok nmX11 27 (by decide) rfl rfl dX11_init_115 mw268 0 rfl rfl rfl (Nat.le_of_ble_eq_true rfl) rfl ?_
  refine k_aload_n X dX11_init_118 0 rfl ?_
  refine k_bipush (v := 8) X dX11_init_119 (by decide) ?_
  refine k_newaI 8 X dX11_init_121 mw10 (by decide) (by decide) (by decide) (Nat.le_of_ble_eq_true rfl) (Nat.le_of_ble_eq_true rfl) (fun q_14 => ?_)
  refine k_ws [(h0, .inr (11, [.int 0, .ref q_1, .int 0, .int 0, .int 0, .int 0, .int 0, .int 0, .int 0, .int 0, .int (-1), .int 0, .ref q_2, .int 0, .int 0, .ref q_3, .ref q_4, .ref q_5, .ref q_6, .ref q_7, .int 0, .int 0, .ref q_8, .ref q_9, .ref q_10, .ref q_11, .ref q_12, .ref q_13, .null, .null, .null, .null, .null, .null, .int 0, .int 0, .int 0, .null, .null, .null, .null, .int 0, .int 0])), (q_1, .inl (g.2.2.1, 900, .inl (fun _ => 0))), (q_2, .inl (g.2.2.1, 8, .inl (fun _ => 0))), (q_3, .inl (g.2.2.1, 311, .inl (fun _ => 0))), (q_4, .inl (g.2.2.1, 311, .inl (fun _ => 0))), (q_5, .inl (g.2.2.1, 44, .inl (fun _ => 0))), (q_6, .inl (g.2.2.1, 528, .inl (fun _ => 0))), (q_7, .inl (g.2.2.1, 132, .inl (fun _ => 0))), (q_8, .inl (g.2.2.1, 8, .inl (fun _ => 0))), (q_9, .inl (g.2.2.1, 8, .inl (fun _ => 0))), (q_10, .inl (g.2.2.1, 8, .inl (fun _ => 0))), (q_11, .inl (g.2.2.1, 8, .inl (fun _ => 0))), (q_12, .inl (g.2.2.1, 8, .inl (fun _ => 0))), (q_13, .inl (g.2.2.1, 8, .inl (fun _ => 0))), (q_14, .inl (g.2.2.1, 8, .inl (fun _ => 0)))] rfl ?_
  refine k_wide 14 2290 (Nat.le_of_ble_eq_true rfl) (Nat.le_of_ble_eq_true rfl) ?_
  refine k_putF (ci := 11) [(h0, .inr (11, [.int 0, .ref q_1, .int 0, .int 0, .int 0, .int 0, .int 0, .int 0, .int 0, .int 0, .int (-1), .int 0, .ref q_2, .int 0, .int 0, .ref q_3, .ref q_4, .ref q_5, .ref q_6, .ref q_7, .int 0, .int 0, .ref q_8, .ref q_9, .ref q_10, .ref q_11, .ref q_12, .ref q_13, .ref q_14, .null, .null, .null, .null, .null, .int 0, .int 0, .int 0, .null, .null, .null, .null, .int 0, .int 0])), (q_1, .inl (g.2.2.1, 900, .inl (fun _ => 0))), (q_2, .inl (g.2.2.1, 8, .inl (fun _ => 0))), (q_3, .inl (g.2.2.1, 311, .inl (fun _ => 0))), (q_4, .inl (g.2.2.1, 311, .inl (fun _ => 0))), (q_5, .inl (g.2.2.1, 44, .inl (fun _ => 0))), (q_6, .inl (g.2.2.1, 528, .inl (fun _ => 0))), (q_7, .inl (g.2.2.1, 132, .inl (fun _ => 0))), (q_8, .inl (g.2.2.1, 8, .inl (fun _ => 0))), (q_9, .inl (g.2.2.1, 8, .inl (fun _ => 0))), (q_10, .inl (g.2.2.1, 8, .inl (fun _ => 0))), (q_11, .inl (g.2.2.1, 8, .inl (fun _ => 0))), (q_12, .inl (g.2.2.1, 8, .inl (fun _ => 0))), (q_13, .inl (g.2.2.1, 8, .inl (fun _ => 0))), (q_14, .inl (g.2.2.1, 8, .inl (fun _ => 0)))] X hi inlX11 rfl tyX11_ok nmX11 28 (by decide) rfl rfl dX11_init_123 mw269 0 rfl rfl rfl (Nat.le_of_ble_eq_true rfl) rfl ?_
  refine k_aload_n X dX11_init_126 0 rfl ?_
  refine k_bipush (v := 8) X dX11_init_127 (by decide) ?_
  refine k_newaI 8 X dX11_init_129 mw10 (by decide) (by decide) (by decide) (Nat.le_of_ble_eq_true rfl) (Nat.le_of_ble_eq_true rfl) (fun q_15 => ?_)
  refine k_ws [(h0, .inr (11, [.int 0, .ref q_1, .int 0, .int 0, .int 0, .int 0, .int 0, .int 0, .int 0, .int 0, .int (-1), .int 0, .ref q_2, .int 0, .int 0, .ref q_3, .ref q_4, .ref q_5, .ref q_6, .ref q_7, .int 0, .int 0, .ref q_8, .ref q_9, .ref q_10, .ref q_11, .ref q_12, .ref q_13, .ref q_14, .null, .null, .null, .null, .null, .int 0, .int 0, .int 0, .null, .null, .null, .null, .int 0, .int 0])), (q_1, .inl (g.2.2.1, 900, .inl (fun _ => 0))), (q_2, .inl (g.2.2.1, 8, .inl (fun _ => 0))), (q_3, .inl (g.2.2.1, 311, .inl (fun _ => 0))), (q_4, .inl (g.2.2.1, 311, .inl (fun _ => 0))), (q_5, .inl (g.2.2.1, 44, .inl (fun _ => 0))), (q_6, .inl (g.2.2.1, 528, .inl (fun _ => 0))), (q_7, .inl (g.2.2.1, 132, .inl (fun _ => 0))), (q_8, .inl (g.2.2.1, 8, .inl (fun _ => 0))), (q_9, .inl (g.2.2.1, 8, .inl (fun _ => 0))), (q_10, .inl (g.2.2.1, 8, .inl (fun _ => 0))), (q_11, .inl (g.2.2.1, 8, .inl (fun _ => 0))), (q_12, .inl (g.2.2.1, 8, .inl (fun _ => 0))), (q_13, .inl (g.2.2.1, 8, .inl (fun _ => 0))), (q_14, .inl (g.2.2.1, 8, .inl (fun _ => 0))), (q_15, .inl (g.2.2.1, 8, .inl (fun _ => 0)))] rfl ?_
  refine k_wide 15 2298 (Nat.le_of_ble_eq_true rfl) (Nat.le_of_ble_eq_true rfl) ?_
  refine k_putF (ci := 11) [(h0, .inr (11, [.int 0, .ref q_1, .int 0, .int 0, .int 0, .int 0, .int 0, .int 0, .int 0, .int 0, .int (-1), .int 0, .ref q_2, .int 0, .int 0, .ref q_3, .ref q_4, .ref q_5, .ref q_6, .ref q_7, .int 0, .int 0, .ref q_8, .ref q_9, .ref q_10, .ref q_11, .ref q_12, .ref q_13, .ref q_14, .ref q_15, .null, .null, .null, .null, .int 0, .int 0, .int 0, .null, .null, .null, .null, .int 0, .int 0])), (q_1, .inl (g.2.2.1, 900, .inl (fun _ => 0))), (q_2, .inl (g.2.2.1, 8, .inl (fun _ => 0))), (q_3, .inl (g.2.2.1, 311, .inl (fun _ => 0))), (q_4, .inl (g.2.2.1, 311, .inl (fun _ => 0))), (q_5, .inl (g.2.2.1, 44, .inl (fun _ => 0))), (q_6, .inl (g.2.2.1, 528, .inl (fun _ => 0))), (q_7, .inl (g.2.2.1, 132, .inl (fun _ => 0))), (q_8, .inl (g.2.2.1, 8, .inl (fun _ => 0))), (q_9, .inl (g.2.2.1, 8, .inl (fun _ => 0))), (q_10, .inl (g.2.2.1, 8, .inl (fun _ => 0))), (q_11, .inl (g.2.2.1, 8, .inl (fun _ => 0))), (q_12, .inl (g.2.2.1, 8, .inl (fun _ => 0))), (q_13, .inl (g.2.2.1, 8, .inl (fun _ => 0))), (q_14, .inl (g.2.2.1, 8, .inl (fun _ => 0))), (q_15, .inl (g.2.2.1, 8, .inl (fun _ => 0)))] X hi inlX11 rfl tyX11_ok nmX11 29 (by decide) rfl rfl dX11_init_131 mw270 0 rfl rfl rfl (Nat.le_of_ble_eq_true rfl) rfl ?_
  refine k_aload_n X dX11_init_134 0 rfl ?_
  refine k_bipush (v := 8) X dX11_init_135 (by decide) ?_
  refine k_newaI 8 X dX11_init_137 mw10 (by decide) (by decide) (by decide) (Nat.le_of_ble_eq_true rfl) (Nat.le_of_ble_eq_true rfl) (fun q_16 => ?_)
  refine k_ws [(h0, .inr (11, [.int 0, .ref q_1, .int 0, .int 0, .int 0, .int 0, .int 0, .int 0, .int 0, .int 0, .int (-1), .int 0, .ref q_2, .int 0, .int 0, .ref q_3, .ref q_4, .ref q_5, .ref q_6, .ref q_7, .int 0, .int 0, .ref q_8, .ref q_9, .ref q_10, .ref q_11, .ref q_12, .ref q_13, .ref q_14, .ref q_15, .null, .null, .null, .null, .int 0, .int 0, .int 0, .null, .null, .null, .null, .int 0, .int 0])), (q_1, .inl (g.2.2.1, 900, .inl (fun _ => 0))), (q_2, .inl (g.2.2.1, 8, .inl (fun _ => 0))), (q_3, .inl (g.2.2.1, 311, .inl (fun _ => 0))), (q_4, .inl (g.2.2.1, 311, .inl (fun _ => 0))), (q_5, .inl (g.2.2.1, 44, .inl (fun _ => 0))), (q_6, .inl (g.2.2.1, 528, .inl (fun _ => 0))), (q_7, .inl (g.2.2.1, 132, .inl (fun _ => 0))), (q_8, .inl (g.2.2.1, 8, .inl (fun _ => 0))), (q_9, .inl (g.2.2.1, 8, .inl (fun _ => 0))), (q_10, .inl (g.2.2.1, 8, .inl (fun _ => 0))), (q_11, .inl (g.2.2.1, 8, .inl (fun _ => 0))), (q_12, .inl (g.2.2.1, 8, .inl (fun _ => 0))), (q_13, .inl (g.2.2.1, 8, .inl (fun _ => 0))), (q_14, .inl (g.2.2.1, 8, .inl (fun _ => 0))), (q_15, .inl (g.2.2.1, 8, .inl (fun _ => 0))), (q_16, .inl (g.2.2.1, 8, .inl (fun _ => 0)))] rfl ?_
  refine k_wide 16 2306 (Nat.le_of_ble_eq_true rfl) (Nat.le_of_ble_eq_true rfl) ?_
  refine k_putF (ci := 11) [(h0, .inr (11, [.int 0, .ref q_1, .int 0, .int 0, .int 0, .int 0, .int 0, .int 0, .int 0, .int 0, .int (-1), .int 0, .ref q_2, .int 0, .int 0, .ref q_3, .ref q_4, .ref q_5, .ref q_6, .ref q_7, .int 0, .int 0, .ref q_8, .ref q_9, .ref q_10, .ref q_11, .ref q_12, .ref q_13, .ref q_14, .ref q_15, .ref q_16, .null, .null, .null, .int 0, .int 0, .int 0, .null, .null, .null, .null, .int 0, .int 0])), (q_1, .inl (g.2.2.1, 900, .inl (fun _ => 0))), (q_2, .inl (g.2.2.1, 8, .inl (fun _ => 0))), (q_3, .inl (g.2.2.1, 311, .inl (fun _ => 0))), (q_4, .inl (g.2.2.1, 311, .inl (fun _ => 0))), (q_5, .inl (g.2.2.1, 44, .inl (fun _ => 0))), (q_6, .inl (g.2.2.1, 528, .inl (fun _ => 0))), (q_7, .inl (g.2.2.1, 132, .inl (fun _ => 0))), (q_8, .inl (g.2.2.1, 8, .inl (fun _ => 0))), (q_9, .inl (g.2.2.1, 8, .inl (fun _ => 0))), (q_10, .inl (g.2.2.1, 8, .inl (fun _ => 0))), (q_11, .inl (g.2.2.1, 8, .inl (fun _ => 0))), (q_12, .inl (g.2.2.1, 8, .inl (fun _ => 0))), (q_13, .inl (g.2.2.1, 8, .inl (fun _ => 0))), (q_14, .inl (g.2.2.1, 8, .inl (fun _ => 0))), (q_15, .inl (g.2.2.1, 8, .inl (fun _ => 0))), (q_16, .inl (g.2.2.1, 8, .inl (fun _ => 0)))] X hi inlX11 rfl tyX11_ok nmX11 30 (by decide) rfl rfl dX11_init_139 mw271 0 rfl rfl rfl (Nat.le_of_ble_eq_true rfl) rfl ?_
  refine k_aload_n X dX11_init_142 0 rfl ?_
  refine k_bipush (v := 8) X dX11_init_143 (by decide) ?_
  refine k_newaI 8 X dX11_init_145 mw10 (by decide) (by decide) (by decide) (Nat.le_of_ble_eq_true rfl) (Nat.le_of_ble_eq_true rfl) (fun q_17 => ?_)
  refine k_ws [(h0, .inr (11, [.int 0, .ref q_1, .int 0, .int 0, .int 0, .int 0, .int 0, .int 0, .int 0, .int 0, .int (-1), .int 0, .ref q_2, .int 0, .int 0, .ref q_3, .ref q_4, .ref q_5, .ref q_6, .ref q_7, .int 0, .int 0, .ref q_8, .ref q_9, .ref q_10, .ref q_11, .ref q_12, .ref q_13, .ref q_14, .ref q_15, .ref q_16, .null, .null, .null, .int 0, .int 0, .int 0, .null, .null, .null, .null, .int 0, .int 0])), (q_1, .inl (g.2.2.1, 900, .inl (fun _ => 0))), (q_2, .inl (g.2.2.1, 8, .inl (fun _ => 0))), (q_3, .inl (g.2.2.1, 311, .inl (fun _ => 0))), (q_4, .inl (g.2.2.1, 311, .inl (fun _ => 0))), (q_5, .inl (g.2.2.1, 44, .inl (fun _ => 0))), (q_6, .inl (g.2.2.1, 528, .inl (fun _ => 0))), (q_7, .inl (g.2.2.1, 132, .inl (fun _ => 0))), (q_8, .inl (g.2.2.1, 8, .inl (fun _ => 0))), (q_9, .inl (g.2.2.1, 8, .inl (fun _ => 0))), (q_10, .inl (g.2.2.1, 8, .inl (fun _ => 0))), (q_11, .inl (g.2.2.1, 8, .inl (fun _ => 0))), (q_12, .inl (g.2.2.1, 8, .inl (fun _ => 0))), (q_13, .inl (g.2.2.1, 8, .inl (fun _ => 0))), (q_14, .inl (g.2.2.1, 8, .inl (fun _ => 0))), (q_15, .inl (g.2.2.1, 8, .inl (fun _ => 0))), (q_16, .inl (g.2.2.1, 8, .inl (fun _ => 0))), (q_17, .inl (g.2.2.1, 8, .inl (fun _ => 0)))] rfl ?_
  refine k_wide 17 2314 (Nat.le_of_ble_eq_true rfl) (Nat.le_of_ble_eq_true rfl) ?_
  refine k_putF (ci := 11) [(h0, .inr (11, [.int 0, .ref q_1, .int 0, .int 0, .int 0, .int 0, .int 0, .int 0, .int 0, .int 0, .int (-1), .int 0, .ref q_2, .int 0, .int 0, .ref q_3, .ref q_4, .ref q_5, .ref q_6, .ref q_7, .int 0, .int 0, .ref q_8, .ref q_9, .ref q_10, .ref q_11, .ref q_12, .ref q_13, .ref q_14, .ref q_15, .ref q_16, .ref q_17, .null, .null, .int 0, .int 0, .int 0, .null, .null, .null, .null, .int 0, .int 0])), (q_1, .inl (g.2.2.1, 900, .inl (fun _ => 0))), (q_2, .inl (g.2.2.1, 8, .inl (fun _ => 0))), (q_3, .inl (g.2.2.1, 311, .inl (fun _ => 0))), (q_4, .inl (g.2.2.1, 311, .inl (fun _ => 0))), (q_5, .inl (g.2.2.1, 44, .inl (fun _ => 0))), (q_6, .inl (g.2.2.1, 528, .inl (fun _ => 0))), (q_7, .inl (g.2.2.1, 132, .inl (fun _ => 0))), (q_8, .inl (g.2.2.1, 8, .inl (fun _ => 0))), (q_9, .inl (g.2.2.1, 8, .inl (fun _ => 0))), (q_10, .inl (g.2.2.1, 8, .inl (fun _ => 0))), (q_11, .inl (g.2.2.1, 8, .inl (fun _ => 0))), (q_12, .inl (g.2.2.1, 8, .inl (fun _ => 0))), (q_13, .inl (g.2.2.1, 8, .inl (fun _ => 0))), (q_14, .inl (g.2.2.1, 8, .inl (fun _ => 0))), (q_15, .inl (g.2.2.1, 8, .inl (fun _ => 0))), (q_16, .inl (g.2.2.1, 8, .inl (fun _ => 0))), (q_17, .inl (g.2.2.1, 8, .inl (fun _ => 0)))] X hi inlX11 rfl tyX11_ok nmX11 31 (by decide) rfl rfl dX11_init_147 mw272 0 rfl rfl rfl (Nat.le_of_ble_eq_true rfl) rfl ?_
  refine k_aload_n X dX11_init_150 0 rfl ?_
  refine k_bipush (v := 8) X dX11_init_151 (by decide) ?_
  refine k_newaI 8 X dX11_init_153 mw10 (by decide) (by decide) (by decide) (Nat.le_of_ble_eq_true rfl) (Nat.le_of_ble_eq_true rfl) (fun q_18 => ?_)
  refine k_ws [(h0, .inr (11, [.int 0, .ref q_1, .int 0, .int 0, .int 0, .int 0, .int 0, .int 0, .int 0, .int 0, .int (-1), .int 0, .ref q_2, .int 0, .int 0, .ref q_3, .ref q_4, .ref q_5, .ref q_6, .ref q_7, .int 0, .int 0, .ref q_8, .ref q_9, .ref q_10, .ref q_11, .ref q_12, .ref q_13, .ref q_14, .ref q_15, .ref q_16, .ref q_17, .null, .null, .int 0, .int 0, .int 0, .null, .null, .null, .null, .int 0, .int 0])), (q_1, .inl (g.2.2.1, 900, .inl (fun _ => 0))), (q_2, .inl (g.2.2.1, 8, .inl (fun _ => 0))), (q_3, .inl (g.2.2.1, 311, .inl (fun _ => 0))), (q_4, .inl (g.2.2.1, 311, .inl (fun _ => 0))), (q_5, .inl (g.2.2.1, 44, .inl (fun _ => 0))), (q_6, .inl (g.2.2.1, 528, .inl (fun _ => 0))), (q_7, .inl (g.2.2.1, 132, .inl (fun _ => 0))), (q_8, .inl (g.2.2.1, 8, .inl (fun _ => 0))), (q_9, .inl (g.2.2.1, 8, .inl (fun _ => 0))), (q_10, .inl (g.2.2.1, 8, .inl (fun _ => 0))), (q_11, .inl (g.2.2.1, 8, .inl (fun _ => 0))), (q_12, .inl (g.2.2.1, 8, .inl (fun _ => 0))), (q_13, .inl (g.2.2.1, 8, .inl (fun _ => 0))), (q_14, .inl (g.2.2.1, 8, .inl (fun _ => 0))), (q_15, .inl (g.2.2.1, 8, .inl (fun _ => 0))), (q_16, .inl (g.2.2.1, 8, .inl (fun _ => 0))), (q_17, .inl (g.2.2.1, 8, .inl (fun _ => 0))), (q_18, .inl (g.2.2.1, 8, .inl (fun _ => 0)))] rfl ?_
  refine k_wide 18 2322 (Nat.le_of_ble_eq_true rfl) (Nat.le_of_ble_eq_true rfl) ?_
  refine k_putF (ci := 11) [(h0, .inr (11, [.int 0, .ref q_1, .int 0, .int 0, .int 0, .int 0, .int 0, .int 0, .int 0, .int 0, .int (-1), .int 0, .ref q_2, .int 0, .int 0, .ref q_3, .ref q_4, .ref q_5, .ref q_6, .ref q_7, .int 0, .int 0, .ref q_8, .ref q_9, .ref q_10, .ref q_11, .ref q_12, .ref q_13, .ref q_14, .ref q_15, .ref q_16, .ref q_17, .ref q_18, .null, .int 0, .int 0, .int 0, .null, .null, .null, .null, .int 0, .int 0])), (q_1, .inl (g.2.2.1, 900, .inl (fun _ => 0))), (q_2, .inl (g.2.2.1, 8, .inl (fun _ => 0))), (q_3, .inl (g.2.2.1, 311, .inl (fun _ => 0))), (q_4, .inl (g.2.2.1, 311, .inl (fun _ => 0))), (q_5, .inl (g.2.2.1, 44, .inl (fun _ => 0))), (q_6, .inl (g.2.2.1, 528, .inl (fun _ => 0))), (q_7, .inl (g.2.2.1, 132, .inl (fun _ => 0))), (q_8, .inl (g.2.2.1, 8, .inl (fun _ => 0))), (q_9, .inl (g.2.2.1, 8, .inl (fun _ => 0))), (q_10, .inl (g.2.2.1, 8, .inl (fun _ => 0))), (q_11, .inl (g.2.2.1, 8, .inl (fun _ => 0))), (q_12, .inl (g.2.2.1, 8, .inl (fun _ => 0))), (q_13, .inl (g.2.2.1, 8, .inl (fun _ => 0))), (q_14, .inl (g.2.2.1, 8, .inl (fun _ => 0))), (q_15, .inl (g.2.2.1, 8, .inl (fun _ => 0))), (q_16, .inl (g.2.2.1, 8, .inl (fun _ => 0))), (q_17, .inl (g.2.2.1, 8, .inl (fun _ => 0))), (q_18, .inl (g.2.2.1, 8, .inl (fun _ => 0)))] X hi inlX11 rfl tyX11_ok nmX11 32 (by decide) rfl rfl dX11_init_155 mw273 0 rfl rfl rfl (Nat.le_of_ble_eq_true rfl) rfl ?_
  refine k_aload_n X dX11_init_158 0 rfl ?_
  refine k_iconst (v := 2) X dX11_init_159 (by decide) ?_
  refine k_newaI 2 X dX11_init_160 mw10 (by decide) (by decide) (by decide) (Nat.le_of_ble_eq_true rfl) (Nat.le_of_ble_eq_true rfl) (fun q_19 => ?_)
  refine k_ws [(h0, .inr (11, [.int 0, .ref q_1, .int 0, .int 0, .int 0, .int 0, .int 0, .int 0, .int 0, .int 0, .int (-1), .int 0, .ref q_2, .int 0, .int 0, .ref q_3, .ref q_4, .ref q_5, .ref q_6, .ref q_7, .int 0, .int 0, .ref q_8, .ref q_9, .ref q_10, .ref q_11, .ref q_12, .ref q_13, .ref q_14, .ref q_15, .ref q_16, .ref q_17, .ref q_18, .null, .int 0, .int 0, .int 0, .null, .null, .null, .null, .int 0, .int 0])), (q_1, .inl (g.2.2.1, 900, .inl (fun _ => 0))), (q_2, .inl (g.2.2.1, 8, .inl (fun _ => 0))), (q_3, .inl (g.2.2.1, 311, .inl (fun _ => 0))), (q_4, .inl (g.2.2.1, 311, .inl (fun _ => 0))), (q_5, .inl (g.2.2.1, 44, .inl (fun _ => 0))), (q_6, .inl (g.2.2.1, 528, .inl (fun _ => 0))), (q_7, .inl (g.2.2.1, 132, .inl (fun _ => 0))), (q_8, .inl (g.2.2.1, 8, .inl (fun _ => 0))), (q_9, .inl (g.2.2.1, 8, .inl (fun _ => 0))), (q_10, .inl (g.2.2.1, 8, .inl (fun _ => 0))), (q_11, .inl (g.2.2.1, 8, .inl (fun _ => 0))), (q_12, .inl (g.2.2.1, 8, .inl (fun _ => 0))), (q_13, .inl (g.2.2.1, 8, .inl (fun _ => 0))), (q_14, .inl (g.2.2.1, 8, .inl (fun _ => 0))), (q_15, .inl (g.2.2.1, 8, .inl (fun _ => 0))), (q_16, .inl (g.2.2.1, 8, .inl (fun _ => 0))), (q_17, .inl (g.2.2.1, 8, .inl (fun _ => 0))), (q_18, .inl (g.2.2.1, 8, .inl (fun _ => 0))), (q_19, .inl (g.2.2.1, 2, .inl (fun _ => 0)))] rfl ?_
  refine k_wide 19 2324 (Nat.le_of_ble_eq_true rfl) (Nat.le_of_ble_eq_true rfl) ?_
  refine k_putF (ci := 11) [(h0, .inr (11, [.int 0, .ref q_1, .int 0, .int 0, .int 0, .int 0, .int 0, .int 0, .int 0, .int 0, .int (-1), .int 0, .ref q_2, .int 0, .int 0, .ref q_3, .ref q_4, .ref q_5, .ref q_6, .ref q_7, .int 0, .int 0, .ref q_8, .ref q_9, .ref q_10, .ref q_11, .ref q_12, .ref q_13, .ref q_14, .ref q_15, .ref q_16, .ref q_17, .ref q_18, .ref q_19, .int 0, .int 0, .int 0, .null, .null, .null, .null, .int 0, .int 0])), (q_1, .inl (g.2.2.1, 900, .inl (fun _ => 0))), (q_2, .inl (g.2.2.1, 8, .inl (fun _ => 0))), (q_3, .inl (g.2.2.1, 311, .inl (fun _ => 0))), (q_4, .inl (g.2.2.1, 311, .inl (fun _ => 0))), (q_5, .inl (g.2.2.1, 44, .inl (fun _ => 0))), (q_6, .inl (g.2.2.1, 528, .inl (fun _ => 0))), (q_7, .inl (g.2.2.1, 132, .inl (fun _ => 0))), (q_8, .inl (g.2.2.1, 8, .inl (fun _ => 0))), (q_9, .inl (g.2.2.1, 8, .inl (fun _ => 0))), (q_10, .inl (g.2.2.1, 8, .inl (fun _ => 0))), (q_11, .inl (g.2.2.1, 8, .inl (fun _ => 0))), (q_12, .inl (g.2.2.1, 8, .inl (fun _ => 0))), (q_13, .inl (g.2.2.1, 8, .inl (fun _ => 0))), (q_14, .inl (g.2.2.1, 8, .inl (fun _ => 0))), (q_15, .inl (g.2.2.1, 8, .inl (fun _ => 0))), (q_16, .inl (g.2.2.1, 8, .inl (fun _ => 0))), (q_17, .inl (g.2.2.1, 8, .inl (fun _ => 0))), (q_18, .inl (g.2.2.1, 8, .inl (fun _ => 0))), (q_19, .inl (g.2.2.1, 2, .inl (fun _ => 0)))] X hi inlX11 rfl tyX11_ok nmX11 33 (by decide) rfl rfl dX11_init_162 mw274 0 rfl rfl rfl (Nat.le_of_ble_eq_true rfl) rfl ?_
  refine k_aload_n X dX11_init_165 0 rfl ?_
  refine k_bipush (v := 8) X dX11_init_166 (by decide) ?_
  refine k_newaI 8 X dX11_init_168 mw10 (by decide) (by decide) (by decide) (Nat.le_of_ble_eq_true rfl) (Nat.le_of_ble_eq_true rfl) (fun q_20 => ?_)
  refine k_ws [(h0, .inr (11, [.int 0, .ref q_1, .int 0, .int 0, .int 0, .int 0, .int 0, .int 0, .int 0, .int 0, .int (-1), .int 0, .ref q_2, .int 0, .int 0, .ref q_3, .ref q_4, .ref q_5, .ref q_6, .ref q_7, .int 0, .int 0, .ref q_8, .ref q_9, .ref q_10, .ref q_11, .ref q_12, .ref q_13, .ref q_14, .ref q_15, .ref q_16, .ref q_17, .ref q_18, .ref q_19, .int 0, .int 0, .int 0, .null, .null, .null, .null, .int 0, .int 0])), (q_1, .inl (g.2.2.1, 900, .inl (fun _ => 0))), (q_2, .inl (g.2.2.1, 8, .inl (fun _ => 0))), (q_3, .inl (g.2.2.1, 311, .inl (fun _ => 0))), (q_4, .inl (g.2.2.1, 311, .inl (fun _ => 0))), (q_5, .inl (g.2.2.1, 44, .inl (fun _ => 0))), (q_6, .inl (g.2.2.1, 528, .inl (fun _ => 0))), (q_7, .inl (g.2.2.1, 132, .inl (fun _ => 0))), (q_8, .inl (g.2.2.1, 8, .inl (fun _ => 0))), (q_9, .inl (g.2.2.1, 8, .inl (fun _ => 0))), (q_10, .inl (g.2.2.1, 8, .inl (fun _ => 0))), (q_11, .inl (g.2.2.1, 8, .inl (fun _ => 0))), (q_12, .inl (g.2.2.1, 8, .inl (fun _ => 0))), (q_13, .inl (g.2.2.1, 8, .inl (fun _ => 0))), (q_14, .inl (g.2.2.1, 8, .inl (fun _ => 0))), (q_15, .inl (g.2.2.1, 8, .inl (fun _ => 0))), (q_16, .inl (g.2.2.1, 8, .inl (fun _ => 0))), (q_17, .inl (g.2.2.1, 8, .inl (fun _ => 0))), (q_18, .inl (g.2.2.1, 8, .inl (fun _ => 0))), (q_19, .inl (g.2.2.1, 2, .inl (fun _ => 0))), (q_20, .inl (g.2.2.1, 8, .inl (fun _ => 0)))] rfl ?_
  refine k_wide 20 2332 (Nat.le_of_ble_eq_true rfl) (Nat.le_of_ble_eq_true rfl) ?_
  refine k_putF (ci := 11) [(h0, .inr (11, [.int 0, .ref q_1, .int 0, .int 0, .int 0, .int 0, .int 0, .int 0, .int 0, .int 0, .int (-1), .int 0, .ref q_2, .int 0, .int 0, .ref q_3, .ref q_4, .ref q_5, .ref q_6, .ref q_7, .int 0, .int 0, .ref q_8, .ref q_9, .ref q_10, .ref q_11, .ref q_12, .ref q_13, .ref q_14, .ref q_15, .ref q_16, .ref q_17, .ref q_18, .ref q_19, .int 0, .int 0, .int 0, .ref q_20, .null, .null, .null, .int 0, .int 0])), (q_1, .inl (g.2.2.1, 900, .inl (fun _ => 0))), (q_2, .inl (g.2.2.1, 8, .inl (fun _ => 0))), (q_3, .inl (g.2.2.1, 311, .inl (fun _ => 0))), (q_4, .inl (g.2.2.1, 311, .inl (fun _ => 0))), (q_5, .inl (g.2.2.1, 44, .inl (fun _ => 0))), (q_6, .inl (g.2.2.1, 528, .inl (fun _ => 0))), (q_7, .inl (g.2.2.1, 132, .inl (fun _ => 0))), (q_8, .inl (g.2.2.1, 8, .inl (fun _ => 0))), (q_9, .inl (g.2.2.1, 8, .inl (fun _ => 0))), (q_10, .inl (g.2.2.1, 8, .inl (fun _ => 0))), (q_11, .inl (g.2.2.1, 8, .inl (fun _ => 0))), (q_12, .inl (g.2.2.1, 8, .inl (fun _ => 0))), (q_13, .inl (g.2.2.1, 8, .inl (fun _ => 0))), (q_14, .inl (g.2.2.1, 8, .inl (fun _ => 0))), (q_15, .inl (g.2.2.1, 8, .inl (fun _ => 0))), (q_16, .inl (g.2.2.1, 8, .inl (fun _ => 0))), (q_17, .inl (g.2.2.1, 8, .inl (fun _ => 0))), (q_18, .inl (g.2.2.1, 8, .inl (fun _ => 0))), (q_19, .inl (g.2.2.1, 2, .inl (fun _ => 0))), (q_20, .inl (g.2.2.1, 8, .inl (fun _ => 0)))] X hi inlX11 rfl tyX11_ok nmX11 37 (by decide) rfl rfl dX11_init_170 mw275 0 rfl rfl rfl (Nat.le_of_ble_eq_true rfl) rfl ?_
  refine k_aload_n X dX11_init_173 0 rfl ?_
  refine k_iconst (v := 4) X dX11_init_174 (by decide) ?_
  refine k_newaI 4 X dX11_init_175 mw10 (by decide) (by decide) (by decide) (Nat.le_of_ble_eq_true rfl) (Nat.le_of_ble_eq_true rfl) (fun q_21 => ?_)
  refine k_ws [(h0, .inr (11, [.int 0, .ref q_1, .int 0, .int 0, .int 0, .int 0, .int 0, .int 0, .int 0, .int 0, .int (-1), .int 0, .ref q_2, .int 0, .int 0, .ref q_3, .ref q_4, .ref q_5, .ref q_6, .ref q_7, .int 0, .int 0, .ref q_8, .ref q_9, .ref q_10, .ref q_11, .ref q_12, .ref q_13, .ref q_14, .ref q_15, .ref q_16, .ref q_17, .ref q_18, .ref q_19, .int 0, .int 0, .int 0, .ref q_20, .null, .null, .null, .int 0, .int 0])), (q_1, .inl (g.2.2.1, 900, .inl (fun _ => 0))), (q_2, .inl (g.2.2.1, 8, .inl (fun _ => 0))), (q_3, .inl (g.2.2.1, 311, .inl (fun _ => 0))), (q_4, .inl (g.2.2.1, 311, .inl (fun _ => 0))), (q_5, .inl (g.2.2.1, 44, .inl (fun _ => 0))), (q_6, .inl (g.2.2.1, 528, .inl (fun _ => 0))), (q_7, .inl (g.2.2.1, 132, .inl (fun _ => 0))), (q_8, .inl (g.2.2.1, 8, .inl (fun _ => 0))), (q_9, .inl (g.2.2.1, 8, .inl (fun _ => 0))), (q_10, .inl (g.2.2.1, 8, .inl (fun _ => 0))), (q_11, .inl (g.2.2.1, 8, .inl (fun _ => 0))), (q_12, .inl (g.2.2.1, 8, .inl (fun _ => 0))), (q_13, .inl (g.2.2.1, 8, .inl (fun _ => 0))), (q_14, .inl (g.2.2.1, 8, .inl (fun _ => 0))), (q_15, .inl (g.2.2.1, 8, .inl (fun _ => 0))), (q_16, .inl (g.2.2.1, 8, .inl (fun _ => 0))), (q_17, .inl (g.2.2.1, 8, .inl (fun _ => 0))), (q_18, .inl (g.2.2.1, 8, .inl (fun _ => 0))), (q_19, .inl (g.2.2.1, 2, .inl (fun _ => 0))), (q_20, .inl (g.2.2.1, 8, .inl (fun _ => 0))), (q_21, .inl (g.2.2.1, 4, .inl (fun _ => 0)))] rfl ?_
  refine k_wide 21 2336 (Nat.le_of_ble_eq_true rfl) (Nat.le_of_ble_eq_true rfl) ?_
  refine k_putF (ci := 11) [(h0, .inr (11, [.int 0, .ref q_1, .int 0, .int 0, .int 0, .int 0, .int 0, .int 0, .int 0, .int 0, .int (-1), .int 0, .ref q_2, .int 0, .int 0, .ref q_3, .ref q_4, .ref q_5, .ref q_6, .ref q_7, .int 0, .int 0, .ref q_8, .ref q_9, .ref q_10, .ref q_11, .ref q_12, .ref q_13, .ref q_14, .ref q_15, .ref q_16, .ref q_17, .ref q_18, .ref q_19, .int 0, .int 0, .int 0, .ref q_20, .ref q_21, .null, .null, .int 0, .int 0])), (q_1, .inl (g.2.2.1, 900, .inl (fun _ => 0))), (q_2, .inl (g.2.2.1, 8, .inl (fun _ => 0))), (q_3, .inl (g.2.2.1, 311, .inl (fun _ => 0))), (q_4, .inl (g.2.2.1, 311, .inl (fun _ => 0))), (q_5, .inl (g.2.2.1, 44, .inl (fun _ => 0))), (q_6, .inl (g.2.2.1, 528, .inl (fun _ => 0))), (q_7, .inl (g.2.2.1, 132, .inl (fun _ => 0))), (q_8, .inl (g.2.2.1, 8, .inl (fun _ => 0))), (q_9, .inl (g.2.2.1, 8, .inl (fun _ => 0))), (q_10, .inl (g.2.2.1, 8, .inl (fun _ => 0))), (q_11, .inl (g.2.2.1, 8, .inl (fun _ => 0))), (q_12, .inl (g.2.2.1, 8, .inl (fun _ => 0))), (q_13, .inl (g.2.2.1, 8, .inl (fun _ => 0))), (q_14, .inl (g.2.2.1, 8, .inl (fun _ => 0))), (q_15, .inl (g.2.2.1, 8, .inl (fun _ => 0))), (q_16, .inl (g.2.2.1, 8, .inl (fun _ => 0))), (q_17, .inl (g.2.2.1, 8, .inl (fun _ => 0))), (q_18, .inl (g.2.2.1, 8, .inl (fun _ => 0))), (q_19, .inl (g.2.2.1, 2, .inl (fun _ => 0))), (q_20, .inl (g.2.2.1, 8, .inl (fun _ => 0))), (q_21, .inl (g.2.2.1, 4, .inl (fun _ => 0)))] X hi inlX11 rfl tyX11_ok nmX11 38 (by decide) rfl rfl dX11_init_177 mw276 0 rfl rfl rfl (Nat.le_of_ble_eq_true rfl) rfl ?_
  refine k_aload_n X dX11_init_180 0 rfl ?_
  refine k_bipush (v := 8) X dX11_init_181 (by decide) ?_
  refine k_newaI 8 X dX11_init_183 mw10 (by decide) (by decide) (by decide) (Nat.le_of_ble_eq_true rfl) (Nat.le_of_ble_eq_true rfl) (fun q_22 => ?_)
  refine k_ws [(h0, .inr (11, [.int 0, .ref q_1, .int 0, .int 0, .int 0, .int 0, .int 0, .int 0, .int 0, .int 0, .int (-1), .int 0, .ref q_2, .int 0, .int 0, .ref q_3, .ref q_4, .ref q_5, .ref q_6, .ref q_7, .int 0, .int 0, .ref q_8, .ref q_9, .ref q_10, .ref q_11, .ref q_12, .ref q_13, .ref q_14, .ref q_15, .ref q_16, .ref q_17, .ref q_18, .ref q_19, .int 0, .int 0, .int 0, .ref q_20, .ref q_21, .null, .null, .int 0, .int 0])), (q_1, .inl (g.2.2.1, 900, .inl (fun _ => 0))), (q_2, .inl (g.2.2.1, 8, .inl (fun _ => 0))), (q_3, .inl (g.2.2.1, 311, .inl (fun _ => 0))), (q_4, .inl (g.2.2.1, 311, .inl (fun _ => 0))), (q_5, .inl (g.2.2.1, 44, .inl (fun _ => 0))), (q_6, .inl (g.2.2.1, 528, .inl (fun _ => 0))), (q_7, .inl (g.2.2.1, 132, .inl (fun _ => 0))), (q_8, .inl (g.2.2.1, 8, .inl (fun _ => 0))), (q_9, .inl (g.2.2.1, 8, .inl (fun _ => 0))), (q_10, .inl (g.2.2.1, 8, .inl (fun _ => 0))), (q_11, .inl (g.2.2.1, 8, .inl (fun _ => 0))), (q_12, .inl (g.2.2.1, 8, .inl (fun _ => 0))), (q_13, .inl (g.2.2.1, 8, .inl (fun _ => 0))), (q_14, .inl (g.2.2.1, 8, .inl (fun _ => 0))), (q_15, .inl (g.2.2.1, 8, .inl (fun _ => 0))), (q_16, .inl (g.2.2.1, 8, .inl (fun _ => 0))), (q_17, .inl (g.2.2.1, 8, .inl (fun _ => 0))), (q_18, .inl (g.2.2.1, 8, .inl (fun _ => 0))), (q_19, .inl (g.2.2.1, 2, .inl (fun _ => 0))), (q_20, .inl (g.2.2.1, 8, .inl (fun _ => 0))), (q_21, .inl (g.2.2.1, 4, .inl (fun _ => 0))), (q_22, .inl (g.2.2.1, 8, .inl (fun _ => 0)))] rfl ?_
  refine k_wide 22 2344 (Nat.le_of_ble_eq_true rfl) (Nat.le_of_ble_eq_true rfl) ?_
  refine k_putF (ci := 11) [(h0, .inr (11, [.int 0, .ref q_1, .int 0, .int 0, .int 0, .int 0, .int 0, .int 0, .int 0, .int 0, .int (-1), .int 0, .ref q_2, .int 0, .int 0, .ref q_3, .ref q_4, .ref q_5, .ref q_6, .ref q_7, .int 0, .int 0, .ref q_8, .ref q_9, .ref q_10, .ref q_11, .ref q_12, .ref q_13, .ref q_14, .ref q_15, .ref q_16, .ref q_17, .ref q_18, .ref q_19, .int 0, .int 0, .int 0, .ref q_20, .ref q_21, .ref q_22, .null, .int 0, .int 0])), (q_1, .inl (g.2.2.1, 900, .inl (fun _ => 0))), (q_2, .inl (g.2.2.1, 8, .inl (fun _ => 0))), (q_3, .inl (g.2.2.1, 311, .inl (fun _ => 0))), (q_4, .inl (g.2.2.1, 311, .inl (fun _ => 0))), (q_5, .inl (g.2.2.1, 44, .inl (fun _ => 0))), (q_6, .inl (g.2.2.1, 528, .inl (fun _ => 0))), (q_7, .inl (g.2.2.1, 132, .inl (fun _ => 0))), (q_8, .inl (g.2.2.1, 8, .inl (fun _ => 0))), (q_9, .inl (g.2.2.1, 8, .inl (fun _ => 0))), (q_10, .inl (g.2.2.1, 8, .inl (fun _ => 0))), (q_11, .inl (g.2.2.1, 8, .inl (fun _ => 0))), (q_12, .inl (g.2.2.1, 8, .inl (fun _ => 0))), (q_13, .inl (g.2.2.1, 8, .inl (fun _ => 0))), (q_14, .inl (g.2.2.1, 8, .inl (fun _ => 0))), (q_15, .inl (g.2.2.1, 8, .inl (fun _ => 0))), (q_16, .inl (g.2.2.1, 8, .inl (fun _ => 0))), (q_17, .inl (g.2.2.1, 8, .inl (fun _ => 0))), (q_18, .inl (g.2.2.1, 8, .inl (fun _ => 0))), (q_19, .inl (g.2.2.1, 2, .inl (fun _ => 0))), (q_20, .inl (g.2.2.1, 8, .inl (fun _ => 0))), (q_21, .inl (g.2.2.1, 4, .inl (fun _ => 0))), (q_22, .inl (g.2.2.1, 8, .inl (fun _ => 0)))] X hi inlX11 rfl tyX11_ok nmX11 39 (by decide) rfl rfl dX11_init_185 mw277 0 rfl rfl rfl (Nat.le_of_ble_eq_true rfl) rfl ?_
  refine k_aload_n X dX11_init_188 0 rfl ?_
  refine k_sipush (v := 256) X dX11_init_189 (by decide) ?_
  refine k_newaI 256 X dX11_init_192 mw10 (by decide) (by decide) (by decide) (Nat.le_of_ble_eq_true rfl) (Nat.le_of_ble_eq_true rfl) (fun q_23 => ?_)
  refine k_ws [(h0, .inr (11, [.int 0, .ref q_1, .int 0, .int 0, .int 0, .int 0, .int 0, .int 0, .int 0, .int 0, .int (-1), .int 0, .ref q_2, .int 0, .int 0, .ref q_3, .ref q_4, .ref q_5, .ref q_6, .ref q_7, .int 0, .int 0, .ref q_8, .ref q_9, .ref q_10, .ref q_11, .ref q_12, .ref q_13, .ref q_14, .ref q_15, .ref q_16, .ref q_17, .ref q_18, .ref q_19, .int 0, .int 0, .int 0, .ref q_20, .ref q_21, .ref q_22, .null, .int 0, .int 0])), (q_1, .inl (g.2.2.1, 900, .inl (fun _ => 0))), (q_2, .inl (g.2.2.1, 8, .inl (fun _ => 0))), (q_3, .inl (g.2.2.1, 311, .inl (fun _ => 0))), (q_4, .inl (g.2.2.1, 311, .inl (fun _ => 0))), (q_5, .inl (g.2.2.1, 44, .inl (fun _ => 0))), (q_6, .inl (g.2.2.1, 528, .inl (fun _ => 0))), (q_7, .inl (g.2.2.1, 132, .inl (fun _ => 0))), (q_8, .inl (g.2.2.1, 8, .inl (fun _ => 0))), (q_9, .inl (g.2.2.1, 8, .inl (fun _ => 0))), (q_10, .inl (g.2.2.1, 8, .inl (fun _ => 0))), (q_11, .inl (g.2.2.1, 8, .inl (fun _ => 0))), (q_12, .inl (g.2.2.1, 8, .inl (fun _ => 0))), (q_13, .inl (g.2.2.1, 8, .inl (fun _ => 0))), (q_14, .inl (g.2.2.1, 8, .inl (fun _ => 0))), (q_15, .inl (g.2.2.1, 8, .inl (fun _ => 0))), (q_16, .inl (g.2.2.1, 8, .inl (fun _ => 0))), (q_17, .inl (g.2.2.1, 8, .inl (fun _ => 0))), (q_18, .inl (g.2.2.1, 8, .inl (fun _ => 0))), (q_19, .inl (g.2.2.1, 2, .inl (fun _ => 0))), (q_20, .inl (g.2.2.1, 8, .inl (fun _ => 0))), (q_21, .inl (g.2.2.1, 4, .inl (fun _ => 0))), (q_22, .inl (g.2.2.1, 8, .inl (fun _ => 0))), (q_23, .inl (g.2.2.1, 256, .inl (fun _ => 0)))] rfl ?_
  refine k_wide 23 2600 (Nat.le_of_ble_eq_true rfl) (Nat.le_of_ble_eq_true rfl) ?_
  refine k_putF (ci := 11) [(h0, .inr (11, [.int 0, .ref q_1, .int 0, .int 0, .int 0, .int 0, .int 0, .int 0, .int 0, .int 0, .int (-1), .int 0, .ref q_2, .int 0, .int 0, .ref q_3, .ref q_4, .ref q_5, .ref q_6, .ref q_7, .int 0, .int 0, .ref q_8, .ref q_9, .ref q_10, .ref q_11, .ref q_12, .ref q_13, .ref q_14, .ref q_15, .ref q_16, .ref q_17, .ref q_18, .ref q_19, .int 0, .int 0, .int 0, .ref q_20, .ref q_21, .ref q_22, .ref q_23, .int 0, .int 0])), (q_1, .inl (g.2.2.1, 900, .inl (fun _ => 0))), (q_2, .inl (g.2.2.1, 8, .inl (fun _ => 0))), (q_3, .inl (g.2.2.1, 311, .inl (fun _ => 0))), (q_4, .inl (g.2.2.1, 311, .inl (fun _ => 0))), (q_5, .inl (g.2.2.1, 44, .inl (fun _ => 0))), (q_6, .inl (g.2.2.1, 528, .inl (fun _ => 0))), (q_7, .inl (g.2.2.1, 132, .inl (fun _ => 0))), (q_8, .inl (g.2.2.1, 8, .inl (fun _ => 0))), (q_9, .inl (g.2.2.1, 8, .inl (fun _ => 0))), (q_10, .inl (g.2.2.1, 8, .inl (fun _ => 0))), (q_11, .inl (g.2.2.1, 8, .inl (fun _ => 0))), (q_12, .inl (g.2.2.1, 8, .inl (fun _ => 0))), (q_13, .inl (g.2.2.1, 8, .inl (fun _ => 0))), (q_14, .inl (g.2.2.1, 8, .inl (fun _ => 0))), (q_15, .inl (g.2.2.1, 8, .inl (fun _ => 0))), (q_16, .inl (g.2.2.1, 8, .inl (fun _ => 0))), (q_17, .inl (g.2.2.1, 8, .inl (fun _ => 0))), (q_18, .inl (g.2.2.1, 8, .inl (fun _ => 0))), (q_19, .inl (g.2.2.1, 2, .inl (fun _ => 0))), (q_20, .inl (g.2.2.1, 8, .inl (fun _ => 0))), (q_21, .inl (g.2.2.1, 4, .inl (fun _ => 0))), (q_22, .inl (g.2.2.1, 8, .inl (fun _ => 0))), (q_23, .inl (g.2.2.1, 256, .inl (fun _ => 0)))] X hi inlX11 rfl tyX11_ok nmX11 40 (by decide) rfl rfl dX11_init_194 mw278 0 rfl rfl rfl (Nat.le_of_ble_eq_true rfl) rfl ?_
  exact k_vret X hr dX11_init_197 (Nat.le_of_ble_eq_true rfl) (Nat.le_of_ble_eq_true rfl) [0, 1, 4] (by decide) rfl rfl ⟨q_1, q_4, q_2, q_3, q_5, q_6, q_7, q_8, q_9, q_10, q_11, q_12, q_13, q_14, q_15, q_16, q_17, q_18, q_19, q_20, q_21, q_22, q_23, rfl⟩

theorem dX11_in_0 : decode cX11_in 0 = .ok (.iload_n 0, 1) := by decide +kernel
theorem dX11_in_1 : decode cX11_in 1 = .ok (.iload_n 1, 1) := by decide +kernel
theorem dX11_in_2 : decode cX11_in 2 = .ok (.if_icmp .lt 12, 3) := by decide +kernel
theorem dX11_in_5 : decode cX11_in 5 = .ok (.iload_n 0, 1) := by decide +kernel
theorem dX11_in_6 : decode cX11_in 6 = .ok (.iload_n 2, 1) := by decide +kernel
theorem dX11_in_7 : decode cX11_in 7 = .ok (.if_icmp .gt 7, 3) := by decide +kernel
theorem dX11_in_10 : decode cX11_in 10 = .ok (.iconst 1, 1) := by decide +kernel
theorem dX11_in_11 : decode cX11_in 11 = .ok (.goto 4, 3) := by decide +kernel
theorem dX11_in_14 : decode cX11_in 14 = .ok (.iconst 0, 1) := by decide +kernel
theorem dX11_in_15 : decode cX11_in 15 = .ok (.ireturn, 1) := by decide +kernel
set_option maxHeartbeats 4000000 in
set_option maxRecDepth 100000 in
theorem r_in (l : Launch) (g : Gx) (v : Int32) (ul : Int32) (uh : Int32) : cI l g yX11_in cX11_in 3 (some .boolean) 0 0 0 0 [.int v, .int ul, .int uh] [] (fun r w => (r = 1 ∧ (¬ v < ul) ∧ (¬ uh < v) ∧ w = []) ∨ (r = 0 ∧ (v < ul ∨ uh < v) ∧ w = [])) := by
  refine cI.of (by decide) (Nat.le_of_ble_eq_true rfl) ?_
  intro p e s m args below meth c A X hr hi
  refine k_lveq [(0, .int v), (1, .int ul), (2, .int uh)] rfl ?_
  refine k_iload_n X dX11_in_0 0 rfl ?_
  refine k_iload_n X dX11_in_1 1 rfl ?_
  refine k_ic_lt 14 X dX11_in_2 (by decide) (fun h_1 => ?_) (fun h_1 => ?_)
  · skip
    refine k_iconst (v := 0) X dX11_in_14 (by decide) ?_
    exact k_zret X hr rfl dX11_in_15 (Nat.le_of_ble_eq_true rfl) (Nat.le_of_ble_eq_true rfl) [] (by decide) rfl rfl (Or.inr ⟨rfl, (by first | exact Or.inl (by assumption) | exact Or.inr (by assumption)), rfl⟩)
  · skip
    refine k_iload_n X dX11_in_5 0 rfl ?_
    refine k_iload_n X dX11_in_6 2 rfl ?_
    refine k_ic_gt 14 X dX11_in_7 (by decide) (fun h_2 => ?_) (fun h_2 => ?_)
    · skip
      refine k_iconst (v := 0) X dX11_in_14 (by decide) ?_
      exact k_zret X hr rfl dX11_in_15 (Nat.le_of_ble_eq_true rfl) (Nat.le_of_ble_eq_true rfl) [] (by decide) rfl rfl (Or.inr ⟨rfl, (by first | exact Or.inl (by assumption) | exact Or.inr (by assumption)), rfl⟩)
    · skip
      refine k_iconst (v := 1) X dX11_in_10 (by decide) ?_
      refine k_goto 15 X dX11_in_11 (by decide) ?_
      exact k_zret X hr rfl dX11_in_15 (Nat.le_of_ble_eq_true rfl) (Nat.le_of_ble_eq_true rfl) [] (by decide) rfl rfl (Or.inl ⟨rfl, (by assumption), (by assumption), rfl⟩)

theorem dX11_good_0 : decode cX11_good 0 = .ok (.aload_n 0, 1) := by decide +kernel
theorem dX11_good_1 : decode cX11_good 1 = .ok (.iconst 0, 1) := by decide +kernel
theorem dX11_good_2 : decode cX11_good 2 = .ok (.putfield 83, 3) := by decide +kernel
theorem dX11_good_5 : decode cX11_good 5 = .ok (.aload_n 0, 1) := by decide +kernel
theorem dX11_good_6 : decode cX11_good 6 = .ok (.iconst 0, 1) := by decide +kernel
theorem dX11_good_7 : decode cX11_good 7 = .ok (.putfield 86, 3) := by decide +kernel
theorem dX11_good_10 : decode cX11_good 10 = .ok (.return_, 1) := by decide +kernel
set_option maxHeartbeats 4000000 in
set_option maxRecDepth 100000 in
theorem r_good (l : Launch) (g : Gx) (h0 : Nat) (v0h0 : Value) (v1h0 : Value) (v2h0 : Value) (v3h0 : Value) (v4h0 : Value) (v5h0 : Value) (v6h0 : Value) (v7h0 : Value) (v8h0 : Value) (v9h0 : Value) (v10h0 : Value) (v11h0 : Value) (v12h0 : Value) (v13h0 : Value) (v14h0 : Value) (v15h0 : Value) (v16h0 : Value) (v17h0 : Value) (v18h0 : Value) (v19h0 : Value) (v20h0 : Value) (v21h0 : Value) (v22h0 : Value) (v23h0 : Value) (v24h0 : Value) (v25h0 : Value) (v26h0 : Value) (v27h0 : Value) (v28h0 : Value) (v29h0 : Value) (v30h0 : Value) (v31h0 : Value) (v32h0 : Value) (v33h0 : Value) (v34h0 : Value) (v35h0 : Value) (v36h0 : Value) (v37h0 : Value) (v38h0 : Value) (v39h0 : Value) (v40h0 : Value) (v41h0 : Value) (v42h0 : Value) : cV l g yX11_good cX11_good 1 0 0 0 0 [.ref h0] [(h0, .inr (11, [v0h0, v1h0, v2h0, v3h0, v4h0, v5h0, v6h0, v7h0, v8h0, v9h0, v10h0, v11h0, v12h0, v13h0, v14h0, v15h0, v16h0, v17h0, v18h0, v19h0, v20h0, v21h0, v22h0, v23h0, v24h0, v25h0, v26h0, v27h0, v28h0, v29h0, v30h0, v31h0, v32h0, v33h0, v34h0, v35h0, v36h0, v37h0, v38h0, v39h0, v40h0, v41h0, v42h0]))] (fun w => w = [(h0, .inr (11, [.int 0, v1h0, v2h0, v3h0, v4h0, v5h0, v6h0, v7h0, v8h0, v9h0, v10h0, .int 0, v12h0, v13h0, v14h0, v15h0, v16h0, v17h0, v18h0, v19h0, v20h0, v21h0, v22h0, v23h0, v24h0, v25h0, v26h0, v27h0, v28h0, v29h0, v30h0, v31h0, v32h0, v33h0, v34h0, v35h0, v36h0, v37h0, v38h0, v39h0, v40h0, v41h0, v42h0]))]) := by
  refine cV.of (by decide) (Nat.le_of_ble_eq_true rfl) ?_
  intro p e s m args below meth c A X hr hi
  refine k_lveq [(0, .ref h0)] rfl ?_
  refine k_aload_n X dX11_good_0 0 rfl ?_
  refine k_iconst (v := 0) X dX11_good_1 (by decide) ?_
  refine k_put (ci := 11) [(h0, .inr (11, [.int 0, v1h0, v2h0, v3h0, v4h0, v5h0, v6h0, v7h0, v8h0, v9h0, v10h0, v11h0, v12h0, v13h0, v14h0, v15h0, v16h0, v17h0, v18h0, v19h0, v20h0, v21h0, v22h0, v23h0, v24h0, v25h0, v26h0, v27h0, v28h0, v29h0, v30h0, v31h0, v32h0, v33h0, v34h0, v35h0, v36h0, v37h0, v38h0, v39h0, v40h0, v41h0, v42h0]))] X inlX11 rfl tyX11_ok nmX11 0 (by decide) rfl dX11_good_2 mw279 0 rfl rfl rfl (Nat.le_of_ble_eq_true rfl) rfl ?_
  refine k_aload_n X dX11_good_5 0 rfl ?_
  refine k_iconst (v := 0) X dX11_good_6 (by decide) ?_
  refine k_put (ci := 11) [(h0, .inr (11, [.int 0, v1h0, v2h0, v3h0, v4h0, v5h0, v6h0, v7h0, v8h0, v9h0, v10h0, .int 0, v12h0, v13h0, v14h0, v15h0, v16h0, v17h0, v18h0, v19h0, v20h0, v21h0, v22h0, v23h0, v24h0, v25h0, v26h0, v27h0, v28h0, v29h0, v30h0, v31h0, v32h0, v33h0, v34h0, v35h0, v36h0, v37h0, v38h0, v39h0, v40h0, v41h0, v42h0]))] X inlX11 rfl tyX11_ok nmX11 11 (by decide) rfl dX11_good_7 mw280 0 rfl rfl rfl (Nat.le_of_ble_eq_true rfl) rfl ?_
  exact k_vret X hr dX11_good_10 (Nat.le_of_ble_eq_true rfl) (Nat.le_of_ble_eq_true rfl) [0] (by decide) rfl rfl rfl

theorem dX11_no_0 : decode cX11_no 0 = .ok (.aload_n 0, 1) := by decide +kernel
theorem dX11_no_1 : decode cX11_no 1 = .ok (.iload_n 1, 1) := by decide +kernel
theorem dX11_no_2 : decode cX11_no 2 = .ok (.putfield 86, 3) := by decide +kernel
theorem dX11_no_5 : decode cX11_no 5 = .ok (.iconst (-1), 1) := by decide +kernel
theorem dX11_no_6 : decode cX11_no 6 = .ok (.ireturn, 1) := by decide +kernel
set_option maxHeartbeats 4000000 in
set_option maxRecDepth 100000 in
theorem r_no (l : Launch) (g : Gx) (h0 : Nat) (p0 : Int32) (v0h0 : Value) (v1h0 : Value) (v2h0 : Value) (v3h0 : Value) (v4h0 : Value) (v5h0 : Value) (v6h0 : Value) (v7h0 : Value) (v8h0 : Value) (v9h0 : Value) (v10h0 : Value) (v11h0 : Value) (v12h0 : Value) (v13h0 : Value) (v14h0 : Value) (v15h0 : Value) (v16h0 : Value) (v17h0 : Value) (v18h0 : Value) (v19h0 : Value) (v20h0 : Value) (v21h0 : Value) (v22h0 : Value) (v23h0 : Value) (v24h0 : Value) (v25h0 : Value) (v26h0 : Value) (v27h0 : Value) (v28h0 : Value) (v29h0 : Value) (v30h0 : Value) (v31h0 : Value) (v32h0 : Value) (v33h0 : Value) (v34h0 : Value) (v35h0 : Value) (v36h0 : Value) (v37h0 : Value) (v38h0 : Value) (v39h0 : Value) (v40h0 : Value) (v41h0 : Value) (v42h0 : Value) : cI l g yX11_no cX11_no 2 (some .int) 0 0 0 0 [.ref h0, .int p0] [(h0, .inr (11, [v0h0, v1h0, v2h0, v3h0, v4h0, v5h0, v6h0, v7h0, v8h0, v9h0, v10h0, v11h0, v12h0, v13h0, v14h0, v15h0, v16h0, v17h0, v18h0, v19h0, v20h0, v21h0, v22h0, v23h0, v24h0, v25h0, v26h0, v27h0, v28h0, v29h0, v30h0, v31h0, v32h0, v33h0, v34h0, v35h0, v36h0, v37h0, v38h0, v39h0, v40h0, v41h0, v42h0]))] (fun r w => r = (-1) ∧ w = []) := by
  refine cI.of (by decide) (Nat.le_of_ble_eq_true rfl) ?_
  intro p e s m args below meth c A X hr hi
  refine k_lveq [(0, .ref h0), (1, .int p0)] rfl ?_
  refine k_aload_n X dX11_no_0 0 rfl ?_
  refine k_iload_n X dX11_no_1 1 rfl ?_
  refine k_put (ci := 11) [(h0, .inr (11, [v0h0, v1h0, v2h0, v3h0, v4h0, v5h0, v6h0, v7h0, v8h0, v9h0, v10h0, .int p0, v12h0, v13h0, v14h0, v15h0, v16h0, v17h0, v18h0, v19h0, v20h0, v21h0, v22h0, v23h0, v24h0, v25h0, v26h0, v27h0, v28h0, v29h0, v30h0, v31h0, v32h0, v33h0, v34h0, v35h0, v36h0, v37h0, v38h0, v39h0, v40h0, v41h0, v42h0]))] X inlX11 rfl tyX11_ok nmX11 11 (by decide) rfl dX11_no_2 mw280 0 rfl rfl rfl (Nat.le_of_ble_eq_true rfl) rfl ?_
  refine k_iconst (v := -1) X dX11_no_5 (by decide) ?_
  exact k_iret X hr dX11_no_6 (Nat.le_of_ble_eq_true rfl) (Nat.le_of_ble_eq_true rfl) [] (by decide) rfl rfl ⟨rfl, rfl⟩

theorem dX11_isNot_0 : decode cX11_isNot 0 = .ok (.aload_n 0, 1) := by decide +kernel
theorem dX11_isNot_1 : decode cX11_isNot 1 = .ok (.iload_n 1, 1) := by decide +kernel
theorem dX11_isNot_2 : decode cX11_isNot 2 = .ok (.putfield 86, 3) := by decide +kernel
theorem dX11_isNot_5 : decode cX11_isNot 5 = .ok (.iconst 0, 1) := by decide +kernel
theorem dX11_isNot_6 : decode cX11_isNot 6 = .ok (.ireturn, 1) := by decide +kernel
set_option maxHeartbeats 4000000 in
set_option maxRecDepth 100000 in
theorem r_isNot (l : Launch) (g : Gx) (h0 : Nat) (p0 : Int32) (v0h0 : Value) (v1h0 : Value) (v2h0 : Value) (v3h0 : Value) (v4h0 : Value) (v5h0 : Value) (v6h0 : Value) (v7h0 : Value) (v8h0 : Value) (v9h0 : Value) (v10h0 : Value) (v11h0 : Value) (v12h0 : Value) (v13h0 : Value) (v14h0 : Value) (v15h0 : Value) (v16h0 : Value) (v17h0 : Value) (v18h0 : Value) (v19h0 : Value) (v20h0 : Value) (v21h0 : Value) (v22h0 : Value) (v23h0 : Value) (v24h0 : Value) (v25h0 : Value) (v26h0 : Value) (v27h0 : Value) (v28h0 : Value) (v29h0 : Value) (v30h0 : Value) (v31h0 : Value) (v32h0 : Value) (v33h0 : Value) (v34h0 : Value) (v35h0 : Value) (v36h0 : Value) (v37h0 : Value) (v38h0 : Value) (v39h0 : Value) (v40h0 : Value) (v41h0 : Value) (v42h0 : Value) : cI l g yX11_isNot cX11_isNot 2 (some .boolean) 0 0 0 0 [.ref h0, .int p0] [(h0, .inr (11, [v0h0, v1h0, v2h0, v3h0, v4h0, v5h0, v6h0, v7h0, v8h0, v9h0, v10h0, v11h0, v12h0, v13h0, v14h0, v15h0, v16h0, v17h0, v18h0, v19h0, v20h0, v21h0, v22h0, v23h0, v24h0, v25h0, v26h0, v27h0, v28h0, v29h0, v30h0, v31h0, v32h0, v33h0, v34h0, v35h0, v36h0, v37h0, v38h0, v39h0, v40h0, v41h0, v42h0]))] (fun r w => r = 0 ∧ w = []) := by
  refine cI.of (by decide) (Nat.le_of_ble_eq_true rfl) ?_
  intro p e s m args below meth c A X hr hi
  refine k_lveq [(0, .ref h0), (1, .int p0)] rfl ?_
  refine k_aload_n X dX11_isNot_0 0 rfl ?_
  refine k_iload_n X dX11_isNot_1 1 rfl ?_
  refine k_put (ci := 11) [(h0, .inr (11, [v0h0, v1h0, v2h0, v3h0, v4h0, v5h0, v6h0, v7h0, v8h0, v9h0, v10h0, .int p0, v12h0, v13h0, v14h0, v15h0, v16h0, v17h0, v18h0, v19h0, v20h0, v21h0, v22h0, v23h0, v24h0, v25h0, v26h0, v27h0, v28h0, v29h0, v30h0, v31h0, v32h0, v33h0, v34h0, v35h0, v36h0, v37h0, v38h0, v39h0, v40h0, v41h0, v42h0]))] X inlX11 rfl tyX11_ok nmX11 11 (by decide) rfl dX11_isNot_2 mw280 0 rfl rfl rfl (Nat.le_of_ble_eq_true rfl) rfl ?_
  refine k_iconst (v := 0) X dX11_isNot_5 (by decide) ?_
  exact k_zret X hr rfl dX11_isNot_6 (Nat.le_of_ble_eq_true rfl) (Nat.le_of_ble_eq_true rfl) [] (by decide) rfl rfl ⟨rfl, rfl⟩

theorem dX11_isReel_0 : decode cX11_isReel 0 = .ok (.aload_n 0, 1) := by decide +kernel
theorem dX11_isReel_1 : decode cX11_isReel 1 = .ok (.getfield 213, 3) := by decide +kernel
theorem dX11_isReel_4 : decode cX11_isReel 4 = .ok (.ifCond .eq 24, 3) := by decide +kernel
theorem dX11_isReel_28 : decode cX11_isReel 28 = .ok (.iconst 0, 1) := by decide +kernel
theorem dX11_isReel_29 : decode cX11_isReel 29 = .ok (.ireturn, 1) := by decide +kernel
set_option maxHeartbeats 4000000 in
set_option maxRecDepth 100000 in
theorem r_isReel (l : Launch) (g : Gx) (h0 : Nat) (p0 : Int32) (v0h0 : Value) (v1h0 : Value) (v2h0 : Value) (v3h0 : Value) (v4h0 : Value) (v5h0 : Value) (v6h0 : Value) (v7h0 : Value) (v8h0 : Value) (v9h0 : Value) (v10h0 : Value) (v11h0 : Value) (v12h0 : Value) (v13h0 : Value) (v15h0 : Value) (v16h0 : Value) (v17h0 : Value) (v18h0 : Value) (v19h0 : Value) (v20h0 : Value) (v21h0 : Value) (v22h0 : Value) (v23h0 : Value) (v24h0 : Value) (v25h0 : Value) (v26h0 : Value) (v27h0 : Value) (v28h0 : Value) (v29h0 : Value) (v30h0 : Value) (v31h0 : Value) (v32h0 : Value) (v33h0 : Value) (v34h0 : Value) (v35h0 : Value) (v36h0 : Value) (v37h0 : Value) (v38h0 : Value) (v39h0 : Value) (v40h0 : Value) (v41h0 : Value) (v42h0 : Value) : cI l g yX11_isReel cX11_isReel 2 (some .boolean) 0 0 0 0 [.ref h0, .int p0] [(h0, .inr (11, [v0h0, v1h0, v2h0, v3h0, v4h0, v5h0, v6h0, v7h0, v8h0, v9h0, v10h0, v11h0, v12h0, v13h0, .int 0, v15h0, v16h0, v17h0, v18h0, v19h0, v20h0, v21h0, v22h0, v23h0, v24h0, v25h0, v26h0, v27h0, v28h0, v29h0, v30h0, v31h0, v32h0, v33h0, v34h0, v35h0, v36h0, v37h0, v38h0, v39h0, v40h0, v41h0, v42h0]))] (fun r w => r = 0 ∧ w = [(h0, .inr (11, [v0h0, v1h0, v2h0, v3h0, v4h0, v5h0, v6h0, v7h0, v8h0, v9h0, v10h0, v11h0, v12h0, v13h0, .int 0, v15h0, v16h0, v17h0, v18h0, v19h0, v20h0, v21h0, v22h0, v23h0, v24h0, v25h0, v26h0, v27h0, v28h0, v29h0, v30h0, v31h0, v32h0, v33h0, v34h0, v35h0, v36h0, v37h0, v38h0, v39h0, v40h0, v41h0, v42h0]))]) := by
  refine cI.of (by decide) (Nat.le_of_ble_eq_true rfl) ?_
  intro p e s m args below meth c A X hr hi
  refine k_lveq [(0, .ref h0), (1, .int p0)] rfl ?_
  refine k_aload_n X dX11_isReel_0 0 rfl ?_
  refine k_get (ci := 11) X inlX11 rfl 14 (by decide) dX11_isReel_1 mw281 0 rfl rfl ?_
  refine k_if_eq 28 X dX11_isReel_4 (by decide) (fun _ => ?_) (fun h_1 => absurd (by decide) h_1)
  refine k_iconst (v := 0) X dX11_isReel_28 (by decide) ?_
  exact k_zret X hr rfl dX11_isReel_29 (Nat.le_of_ble_eq_true rfl) (Nat.le_of_ble_eq_true rfl) [0] (by decide) rfl rfl ⟨rfl, rfl⟩

theorem dX11_isPlace_0 : decode cX11_isPlace 0 = .ok (.aload_n 0, 1) := by decide +kernel
theorem dX11_isPlace_1 : decode cX11_isPlace 1 = .ok (.getfield 213, 3) := by decide +kernel
theorem dX11_isPlace_4 : decode cX11_isPlace 4 = .ok (.ifCond .eq 24, 3) := by decide +kernel
theorem dX11_isPlace_28 : decode cX11_isPlace 28 = .ok (.iconst 0, 1) := by decide +kernel
theorem dX11_isPlace_29 : decode cX11_isPlace 29 = .ok (.ireturn, 1) := by decide +kernel
set_option maxHeartbeats 4000000 in
set_option maxRecDepth 100000 in
theorem r_isPlace (l : Launch) (g : Gx) (h0 : Nat) (p0 : Int32) (v0h0 : Value) (v1h0 : Value) (v2h0 : Value) (v3h0 : Value) (v4h0 : Value) (v5h0 : Value) (v6h0 : Value) (v7h0 : Value) (v8h0 : Value) (v9h0 : Value) (v10h0 : Value) (v11h0 : Value) (v12h0 : Value) (v13h0 : Value) (v15h0 : Value) (v16h0 : Value) (v17h0 : Value) (v18h0 : Value) (v19h0 : Value) (v20h0 : Value) (v21h0 : Value) (v22h0 : Value) (v23h0 : Value) (v24h0 : Value) (v25h0 : Value) (v26h0 : Value) (v27h0 : Value) (v28h0 : Value) (v29h0 : Value) (v30h0 : Value) (v31h0 : Value) (v32h0 : Value) (v33h0 : Value) (v34h0 : Value) (v35h0 : Value) (v36h0 : Value) (v37h0 : Value) (v38h0 : Value) (v39h0 : Value) (v40h0 : Value) (v41h0 : Value) (v42h0 : Value) : cI l g yX11_isPlace cX11_isPlace 2 (some .boolean) 0 0 0 0 [.ref h0, .int p0] [(h0, .inr (11, [v0h0, v1h0, v2h0, v3h0, v4h0, v5h0, v6h0, v7h0, v8h0, v9h0, v10h0, v11h0, v12h0, v13h0, .int 0, v15h0, v16h0, v17h0, v18h0, v19h0, v20h0, v21h0, v22h0, v23h0, v24h0, v25h0, v26h0, v27h0, v28h0, v29h0, v30h0, v31h0, v32h0, v33h0, v34h0, v35h0, v36h0, v37h0, v38h0, v39h0, v40h0, v41h0, v42h0]))] (fun r w => r = 0 ∧ w = [(h0, .inr (11, [v0h0, v1h0, v2h0, v3h0, v4h0, v5h0, v6h0, v7h0, v8h0, v9h0, v10h0, v11h0, v12h0, v13h0, .int 0, v15h0, v16h0, v17h0, v18h0, v19h0, v20h0, v21h0, v22h0, v23h0, v24h0, v25h0, v26h0, v27h0, v28h0, v29h0, v30h0, v31h0, v32h0, v33h0, v34h0, v35h0, v36h0, v37h0, v38h0, v39h0, v40h0, v41h0, v42h0]))]) := by
  refine cI.of (by decide) (Nat.le_of_ble_eq_true rfl) ?_
  intro p e s m args below meth c A X hr hi
  refine k_lveq [(0, .ref h0), (1, .int p0)] rfl ?_
  refine k_aload_n X dX11_isPlace_0 0 rfl ?_
  refine k_get (ci := 11) X inlX11 rfl 14 (by decide) dX11_isPlace_1 mw281 0 rfl rfl ?_
  refine k_if_eq 28 X dX11_isPlace_4 (by decide) (fun _ => ?_) (fun h_1 => absurd (by decide) h_1)
  refine k_iconst (v := 0) X dX11_isPlace_28 (by decide) ?_
  exact k_zret X hr rfl dX11_isPlace_29 (Nat.le_of_ble_eq_true rfl) (Nat.le_of_ble_eq_true rfl) [0] (by decide) rfl rfl ⟨rfl, rfl⟩

theorem dX11_isMan_0 : decode cX11_isMan 0 = .ok (.aload_n 0, 1) := by decide +kernel
theorem dX11_isMan_1 : decode cX11_isMan 1 = .ok (.getfield 213, 3) := by decide +kernel
theorem dX11_isMan_4 : decode cX11_isMan 4 = .ok (.ifCond .eq 24, 3) := by decide +kernel
theorem dX11_isMan_28 : decode cX11_isMan 28 = .ok (.iconst 0, 1) := by decide +kernel
theorem dX11_isMan_29 : decode cX11_isMan 29 = .ok (.ireturn, 1) := by decide +kernel
set_option maxHeartbeats 4000000 in
set_option maxRecDepth 100000 in
theorem r_isMan (l : Launch) (g : Gx) (h0 : Nat) (p0 : Int32) (v0h0 : Value) (v1h0 : Value) (v2h0 : Value) (v3h0 : Value) (v4h0 : Value) (v5h0 : Value) (v6h0 : Value) (v7h0 : Value) (v8h0 : Value) (v9h0 : Value) (v10h0 : Value) (v11h0 : Value) (v12h0 : Value) (v13h0 : Value) (v15h0 : Value) (v16h0 : Value) (v17h0 : Value) (v18h0 : Value) (v19h0 : Value) (v20h0 : Value) (v21h0 : Value) (v22h0 : Value) (v23h0 : Value) (v24h0 : Value) (v25h0 : Value) (v26h0 : Value) (v27h0 : Value) (v28h0 : Value) (v29h0 : Value) (v30h0 : Value) (v31h0 : Value) (v32h0 : Value) (v33h0 : Value) (v34h0 : Value) (v35h0 : Value) (v36h0 : Value) (v37h0 : Value) (v38h0 : Value) (v39h0 : Value) (v40h0 : Value) (v41h0 : Value) (v42h0 : Value) : cI l g yX11_isMan cX11_isMan 2 (some .boolean) 0 0 0 0 [.ref h0, .int p0] [(h0, .inr (11, [v0h0, v1h0, v2h0, v3h0, v4h0, v5h0, v6h0, v7h0, v8h0, v9h0, v10h0, v11h0, v12h0, v13h0, .int 0, v15h0, v16h0, v17h0, v18h0, v19h0, v20h0, v21h0, v22h0, v23h0, v24h0, v25h0, v26h0, v27h0, v28h0, v29h0, v30h0, v31h0, v32h0, v33h0, v34h0, v35h0, v36h0, v37h0, v38h0, v39h0, v40h0, v41h0, v42h0]))] (fun r w => r = 0 ∧ w = [(h0, .inr (11, [v0h0, v1h0, v2h0, v3h0, v4h0, v5h0, v6h0, v7h0, v8h0, v9h0, v10h0, v11h0, v12h0, v13h0, .int 0, v15h0, v16h0, v17h0, v18h0, v19h0, v20h0, v21h0, v22h0, v23h0, v24h0, v25h0, v26h0, v27h0, v28h0, v29h0, v30h0, v31h0, v32h0, v33h0, v34h0, v35h0, v36h0, v37h0, v38h0, v39h0, v40h0, v41h0, v42h0]))]) := by
  refine cI.of (by decide) (Nat.le_of_ble_eq_true rfl) ?_
  intro p e s m args below meth c A X hr hi
  refine k_lveq [(0, .ref h0), (1, .int p0)] rfl ?_
  refine k_aload_n X dX11_isMan_0 0 rfl ?_
  refine k_get (ci := 11) X inlX11 rfl 14 (by decide) dX11_isMan_1 mw281 0 rfl rfl ?_
  refine k_if_eq 28 X dX11_isMan_4 (by decide) (fun _ => ?_) (fun h_1 => absurd (by decide) h_1)
  refine k_iconst (v := 0) X dX11_isMan_28 (by decide) ?_
  exact k_zret X hr rfl dX11_isMan_29 (Nat.le_of_ble_eq_true rfl) (Nat.le_of_ble_eq_true rfl) [0] (by decide) rfl rfl ⟨rfl, rfl⟩

theorem dX11_isWeak_0 : decode cX11_isWeak 0 = .ok (.aload_n 0, 1) := by decide +kernel
theorem dX11_isWeak_1 : decode cX11_isWeak 1 = .ok (.getfield 213, 3) := by decide +kernel
theorem dX11_isWeak_4 : decode cX11_isWeak 4 = .ok (.ifCond .eq 24, 3) := by decide +kernel
theorem dX11_isWeak_28 : decode cX11_isWeak 28 = .ok (.iconst 0, 1) := by decide +kernel
theorem dX11_isWeak_29 : decode cX11_isWeak 29 = .ok (.ireturn, 1) := by decide +kernel
set_option maxHeartbeats 4000000 in
set_option maxRecDepth 100000 in
theorem r_isWeak (l : Launch) (g : Gx) (h0 : Nat) (p0 : Int32) (v0h0 : Value) (v1h0 : Value) (v2h0 : Value) (v3h0 : Value) (v4h0 : Value) (v5h0 : Value) (v6h0 : Value) (v7h0 : Value) (v8h0 : Value) (v9h0 : Value) (v10h0 : Value) (v11h0 : Value) (v12h0 : Value) (v13h0 : Value) (v15h0 : Value) (v16h0 : Value) (v17h0 : Value) (v18h0 : Value) (v19h0 : Value) (v20h0 : Value) (v21h0 : Value) (v22h0 : Value) (v23h0 : Value) (v24h0 : Value) (v25h0 : Value) (v26h0 : Value) (v27h0 : Value) (v28h0 : Value) (v29h0 : Value) (v30h0 : Value) (v31h0 : Value) (v32h0 : Value) (v33h0 : Value) (v34h0 : Value) (v35h0 : Value) (v36h0 : Value) (v37h0 : Value) (v38h0 : Value) (v39h0 : Value) (v40h0 : Value) (v41h0 : Value) (v42h0 : Value) : cI l g yX11_isWeak cX11_isWeak 2 (some .boolean) 0 0 0 0 [.ref h0, .int p0] [(h0, .inr (11, [v0h0, v1h0, v2h0, v3h0, v4h0, v5h0, v6h0, v7h0, v8h0, v9h0, v10h0, v11h0, v12h0, v13h0, .int 0, v15h0, v16h0, v17h0, v18h0, v19h0, v20h0, v21h0, v22h0, v23h0, v24h0, v25h0, v26h0, v27h0, v28h0, v29h0, v30h0, v31h0, v32h0, v33h0, v34h0, v35h0, v36h0, v37h0, v38h0, v39h0, v40h0, v41h0, v42h0]))] (fun r w => r = 0 ∧ w = [(h0, .inr (11, [v0h0, v1h0, v2h0, v3h0, v4h0, v5h0, v6h0, v7h0, v8h0, v9h0, v10h0, v11h0, v12h0, v13h0, .int 0, v15h0, v16h0, v17h0, v18h0, v19h0, v20h0, v21h0, v22h0, v23h0, v24h0, v25h0, v26h0, v27h0, v28h0, v29h0, v30h0, v31h0, v32h0, v33h0, v34h0, v35h0, v36h0, v37h0, v38h0, v39h0, v40h0, v41h0, v42h0]))]) := by
  refine cI.of (by decide) (Nat.le_of_ble_eq_true rfl) ?_
  intro p e s m args below meth c A X hr hi
  refine k_lveq [(0, .ref h0), (1, .int p0)] rfl ?_
  refine k_aload_n X dX11_isWeak_0 0 rfl ?_
  refine k_get (ci := 11) X inlX11 rfl 14 (by decide) dX11_isWeak_1 mw281 0 rfl rfl ?_
  refine k_if_eq 28 X dX11_isWeak_4 (by decide) (fun _ => ?_) (fun h_1 => absurd (by decide) h_1)
  refine k_iconst (v := 0) X dX11_isWeak_28 (by decide) ?_
  exact k_zret X hr rfl dX11_isWeak_29 (Nat.le_of_ble_eq_true rfl) (Nat.le_of_ble_eq_true rfl) [0] (by decide) rfl rfl ⟨rfl, rfl⟩

theorem dX11_layScratch_0 : decode cX11_layScratch 0 = .ok (.aload_n 0, 1) := by decide +kernel
theorem dX11_layScratch_1 : decode cX11_layScratch 1 = .ok (.getfield 213, 3) := by decide +kernel
theorem dX11_layScratch_4 : decode cX11_layScratch 4 = .ok (.ifCond .eq 20, 3) := by decide +kernel
theorem dX11_layScratch_24 : decode cX11_layScratch 24 = .ok (.iconst 0, 1) := by decide +kernel
theorem dX11_layScratch_25 : decode cX11_layScratch 25 = .ok (.ireturn, 1) := by decide +kernel
set_option maxHeartbeats 4000000 in
set_option maxRecDepth 100000 in
theorem r_layScratch (l : Launch) (g : Gx) (h0 : Nat) (p0 : Int32) (v0h0 : Value) (v1h0 : Value) (v2h0 : Value) (v3h0 : Value) (v4h0 : Value) (v5h0 : Value) (v6h0 : Value) (v7h0 : Value) (v8h0 : Value) (v9h0 : Value) (v10h0 : Value) (v11h0 : Value) (v12h0 : Value) (v13h0 : Value) (v15h0 : Value) (v16h0 : Value) (v17h0 : Value) (v18h0 : Value) (v19h0 : Value) (v20h0 : Value) (v21h0 : Value) (v22h0 : Value) (v23h0 : Value) (v24h0 : Value) (v25h0 : Value) (v26h0 : Value) (v27h0 : Value) (v28h0 : Value) (v29h0 : Value) (v30h0 : Value) (v31h0 : Value) (v32h0 : Value) (v33h0 : Value) (v34h0 : Value) (v35h0 : Value) (v36h0 : Value) (v37h0 : Value) (v38h0 : Value) (v39h0 : Value) (v40h0 : Value) (v41h0 : Value) (v42h0 : Value) : cI l g yX11_layScratch cX11_layScratch 4 (some .boolean) 0 0 0 0 [.ref h0, .int p0] [(h0, .inr (11, [v0h0, v1h0, v2h0, v3h0, v4h0, v5h0, v6h0, v7h0, v8h0, v9h0, v10h0, v11h0, v12h0, v13h0, .int 0, v15h0, v16h0, v17h0, v18h0, v19h0, v20h0, v21h0, v22h0, v23h0, v24h0, v25h0, v26h0, v27h0, v28h0, v29h0, v30h0, v31h0, v32h0, v33h0, v34h0, v35h0, v36h0, v37h0, v38h0, v39h0, v40h0, v41h0, v42h0]))] (fun r w => r = 0 ∧ w = [(h0, .inr (11, [v0h0, v1h0, v2h0, v3h0, v4h0, v5h0, v6h0, v7h0, v8h0, v9h0, v10h0, v11h0, v12h0, v13h0, .int 0, v15h0, v16h0, v17h0, v18h0, v19h0, v20h0, v21h0, v22h0, v23h0, v24h0, v25h0, v26h0, v27h0, v28h0, v29h0, v30h0, v31h0, v32h0, v33h0, v34h0, v35h0, v36h0, v37h0, v38h0, v39h0, v40h0, v41h0, v42h0]))]) := by
  refine cI.of (by decide) (Nat.le_of_ble_eq_true rfl) ?_
  intro p e s m args below meth c A X hr hi
  refine k_lveq [(0, .ref h0), (1, .int p0)] rfl ?_
  refine k_aload_n X dX11_layScratch_0 0 rfl ?_
  refine k_get (ci := 11) X inlX11 rfl 14 (by decide) dX11_layScratch_1 mw281 0 rfl rfl ?_
  refine k_if_eq 24 X dX11_layScratch_4 (by decide) (fun _ => ?_) (fun h_1 => absurd (by decide) h_1)
  refine k_iconst (v := 0) X dX11_layScratch_24 (by decide) ?_
  exact k_zret X hr rfl dX11_layScratch_25 (Nat.le_of_ble_eq_true rfl) (Nat.le_of_ble_eq_true rfl) [0] (by decide) rfl rfl ⟨rfl, rfl⟩

theorem dX11_canTell_0 : decode cX11_canTell 0 = .ok (.aload_n 0, 1) := by decide +kernel
theorem dX11_canTell_1 : decode cX11_canTell 1 = .ok (.iload_n 1, 1) := by decide +kernel
theorem dX11_canTell_2 : decode cX11_canTell 2 = .ok (.invokevirtual 370, 3) := by decide +kernel
theorem dX11_canTell_5 : decode cX11_canTell 5 = .ok (.ifCond .eq 11, 3) := by decide +kernel
theorem dX11_canTell_16 : decode cX11_canTell 16 = .ok (.iconst 0, 1) := by decide +kernel
theorem dX11_canTell_17 : decode cX11_canTell 17 = .ok (.ireturn, 1) := by decide +kernel
set_option maxHeartbeats 4000000 in
set_option maxRecDepth 100000 in
theorem r_canTell (l : Launch) (g : Gx) (h0 : Nat) (p0 : Int32) (p1 : Int32) (v0h0 : Value) (v1h0 : Value) (v2h0 : Value) (v3h0 : Value) (v4h0 : Value) (v5h0 : Value) (v6h0 : Value) (v7h0 : Value) (v8h0 : Value) (v9h0 : Value) (v10h0 : Value) (v11h0 : Value) (v12h0 : Value) (v13h0 : Value) (v15h0 : Value) (v16h0 : Value) (v17h0 : Value) (v18h0 : Value) (v19h0 : Value) (v20h0 : Value) (v21h0 : Value) (v22h0 : Value) (v23h0 : Value) (v24h0 : Value) (v25h0 : Value) (v26h0 : Value) (v27h0 : Value) (v28h0 : Value) (v29h0 : Value) (v30h0 : Value) (v31h0 : Value) (v32h0 : Value) (v33h0 : Value) (v34h0 : Value) (v35h0 : Value) (v36h0 : Value) (v37h0 : Value) (v38h0 : Value) (v39h0 : Value) (v40h0 : Value) (v41h0 : Value) (v42h0 : Value) : cI l g yX11_canTell cX11_canTell 3 (some .boolean) 1 21 0 0 [.ref h0, .int p0, .int p1] [(h0, .inr (11, [v0h0, v1h0, v2h0, v3h0, v4h0, v5h0, v6h0, v7h0, v8h0, v9h0, v10h0, v11h0, v12h0, v13h0, .int 0, v15h0, v16h0, v17h0, v18h0, v19h0, v20h0, v21h0, v22h0, v23h0, v24h0, v25h0, v26h0, v27h0, v28h0, v29h0, v30h0, v31h0, v32h0, v33h0, v34h0, v35h0, v36h0, v37h0, v38h0, v39h0, v40h0, v41h0, v42h0]))] (fun r w => r = 0 ∧ w = [(h0, .inr (11, [v0h0, v1h0, v2h0, v3h0, v4h0, v5h0, v6h0, v7h0, v8h0, v9h0, v10h0, v11h0, v12h0, v13h0, .int 0, v15h0, v16h0, v17h0, v18h0, v19h0, v20h0, v21h0, v22h0, v23h0, v24h0, v25h0, v26h0, v27h0, v28h0, v29h0, v30h0, v31h0, v32h0, v33h0, v34h0, v35h0, v36h0, v37h0, v38h0, v39h0, v40h0, v41h0, v42h0]))]) := by
  refine cI.of (by decide) (Nat.le_of_ble_eq_true rfl) ?_
  intro p e s m args below meth c A X hr hi
  refine k_lveq [(0, .ref h0), (1, .int p0), (2, .int p1)] rfl ?_
  refine k_aload_n X dX11_canTell_0 0 rfl ?_
  refine k_iload_n X dX11_canTell_1 1 rfl ?_
  refine k_callVI (n := 1) (As := [.int p0]) (st := []) X [(h0, .inr (11, [v0h0, v1h0, v2h0, v3h0, v4h0, v5h0, v6h0, v7h0, v8h0, v9h0, v10h0, v11h0, v12h0, v13h0, .int 0, v15h0, v16h0, v17h0, v18h0, v19h0, v20h0, v21h0, v22h0, v23h0, v24h0, v25h0, v26h0, v27h0, v28h0, v29h0, v30h0, v31h0, v32h0, v33h0, v34h0, v35h0, v36h0, v37h0, v38h0, v39h0, v40h0, v41h0, v42h0]))] [] [0] [] (r_isMan l g h0 p0 v0h0 v1h0 v2h0 v3h0 v4h0 v5h0 v6h0 v7h0 v8h0 v9h0 v10h0 v11h0 v12h0 v13h0 v15h0 v16h0 v17h0 v18h0 v19h0 v20h0 v21h0 v22h0 v23h0 v24h0 v25h0 v26h0 v27h0 v28h0 v29h0 v30h0 v31h0 v32h0 v33h0 v34h0 v35h0 v36h0 v37h0 v38h0 v39h0 v40h0 v41h0 v42h0) dX11_canTell_2 mw282 mw283 mw284 mw285 mw286 rfl 11 rfl rfl 0 _ rfl (by unfold yOk; decide) rfl (Nat.le_of_ble_eq_true rfl) (Nat.le_of_ble_eq_true rfl) (Nat.le_of_ble_eq_true rfl) (Nat.le_of_ble_eq_true rfl) (Nat.le_of_ble_eq_true rfl) rfl rfl (by decide) rfl (by decide) (by decide) ?_
  rintro r w ⟨rfl, rfl⟩
  refine k_ws [(h0, .inr (11, [v0h0, v1h0, v2h0, v3h0, v4h0, v5h0, v6h0, v7h0, v8h0, v9h0, v10h0, v11h0, v12h0, v13h0, .int 0, v15h0, v16h0, v17h0, v18h0, v19h0, v20h0, v21h0, v22h0, v23h0, v24h0, v25h0, v26h0, v27h0, v28h0, v29h0, v30h0, v31h0, v32h0, v33h0, v34h0, v35h0, v36h0, v37h0, v38h0, v39h0, v40h0, v41h0, v42h0]))] rfl ?_
  refine k_if_eq 16 X dX11_canTell_5 (by decide) (fun _ => ?_) (fun h_1 => absurd (by decide) h_1)
  refine k_iconst (v := 0) X dX11_canTell_16 (by decide) ?_
  exact k_zret X hr rfl dX11_canTell_17 (Nat.le_of_ble_eq_true rfl) (Nat.le_of_ble_eq_true rfl) [0] (by decide) rfl rfl ⟨rfl, rfl⟩

theorem dX11_boyWhy_0 : decode cX11_boyWhy 0 = .ok (.aload_n 0, 1) := by decide +kernel
theorem dX11_boyWhy_1 : decode cX11_boyWhy 1 = .ok (.iload_n 1, 1) := by decide +kernel
theorem dX11_boyWhy_2 : decode cX11_boyWhy 2 = .ok (.invokevirtual 370, 3) := by decide +kernel
theorem dX11_boyWhy_5 : decode cX11_boyWhy 5 = .ok (.ifCond .ne 7, 3) := by decide +kernel
theorem dX11_boyWhy_8 : decode cX11_boyWhy 8 = .ok (.iconst 1, 1) := by decide +kernel
theorem dX11_boyWhy_9 : decode cX11_boyWhy 9 = .ok (.goto 20, 3) := by decide +kernel
theorem dX11_boyWhy_29 : decode cX11_boyWhy 29 = .ok (.ireturn, 1) := by decide +kernel
set_option maxHeartbeats 4000000 in
set_option maxRecDepth 100000 in
theorem r_boyWhy (l : Launch) (g : Gx) (h0 : Nat) (p0 : Int32) (v0h0 : Value) (v1h0 : Value) (v2h0 : Value) (v3h0 : Value) (v4h0 : Value) (v5h0 : Value) (v6h0 : Value) (v7h0 : Value) (v8h0 : Value) (v9h0 : Value) (v10h0 : Value) (v11h0 : Value) (v12h0 : Value) (v13h0 : Value) (v15h0 : Value) (v16h0 : Value) (v17h0 : Value) (v18h0 : Value) (v19h0 : Value) (v20h0 : Value) (v21h0 : Value) (v22h0 : Value) (v23h0 : Value) (v24h0 : Value) (v25h0 : Value) (v26h0 : Value) (v27h0 : Value) (v28h0 : Value) (v29h0 : Value) (v30h0 : Value) (v31h0 : Value) (v32h0 : Value) (v33h0 : Value) (v34h0 : Value) (v35h0 : Value) (v36h0 : Value) (v37h0 : Value) (v38h0 : Value) (v39h0 : Value) (v40h0 : Value) (v41h0 : Value) (v42h0 : Value) : cI l g yX11_boyWhy cX11_boyWhy 2 (some .int) 1 21 0 0 [.ref h0, .int p0] [(h0, .inr (11, [v0h0, v1h0, v2h0, v3h0, v4h0, v5h0, v6h0, v7h0, v8h0, v9h0, v10h0, v11h0, v12h0, v13h0, .int 0, v15h0, v16h0, v17h0, v18h0, v19h0, v20h0, v21h0, v22h0, v23h0, v24h0, v25h0, v26h0, v27h0, v28h0, v29h0, v30h0, v31h0, v32h0, v33h0, v34h0, v35h0, v36h0, v37h0, v38h0, v39h0, v40h0, v41h0, v42h0]))] (fun r w => r = 1 ∧ w = [(h0, .inr (11, [v0h0, v1h0, v2h0, v3h0, v4h0, v5h0, v6h0, v7h0, v8h0, v9h0, v10h0, v11h0, v12h0, v13h0, .int 0, v15h0, v16h0, v17h0, v18h0, v19h0, v20h0, v21h0, v22h0, v23h0, v24h0, v25h0, v26h0, v27h0, v28h0, v29h0, v30h0, v31h0, v32h0, v33h0, v34h0, v35h0, v36h0, v37h0, v38h0, v39h0, v40h0, v41h0, v42h0]))]) := by
  refine cI.of (by decide) (Nat.le_of_ble_eq_true rfl) ?_
  intro p e s m args below meth c A X hr hi
  refine k_lveq [(0, .ref h0), (1, .int p0)] rfl ?_
  refine k_aload_n X dX11_boyWhy_0 0 rfl ?_
  refine k_iload_n X dX11_boyWhy_1 1 rfl ?_
  refine k_callVI (n := 1) (As := [.int p0]) (st := []) X [(h0, .inr (11, [v0h0, v1h0, v2h0, v3h0, v4h0, v5h0, v6h0, v7h0, v8h0, v9h0, v10h0, v11h0, v12h0, v13h0, .int 0, v15h0, v16h0, v17h0, v18h0, v19h0, v20h0, v21h0, v22h0, v23h0, v24h0, v25h0, v26h0, v27h0, v28h0, v29h0, v30h0, v31h0, v32h0, v33h0, v34h0, v35h0, v36h0, v37h0, v38h0, v39h0, v40h0, v41h0, v42h0]))] [] [0] [] (r_isMan l g h0 p0 v0h0 v1h0 v2h0 v3h0 v4h0 v5h0 v6h0 v7h0 v8h0 v9h0 v10h0 v11h0 v12h0 v13h0 v15h0 v16h0 v17h0 v18h0 v19h0 v20h0 v21h0 v22h0 v23h0 v24h0 v25h0 v26h0 v27h0 v28h0 v29h0 v30h0 v31h0 v32h0 v33h0 v34h0 v35h0 v36h0 v37h0 v38h0 v39h0 v40h0 v41h0 v42h0) dX11_boyWhy_2 mw282 mw283 mw284 mw285 mw286 rfl 11 rfl rfl 0 _ rfl (by unfold yOk; decide) rfl (Nat.le_of_ble_eq_true rfl) (Nat.le_of_ble_eq_true rfl) (Nat.le_of_ble_eq_true rfl) (Nat.le_of_ble_eq_true rfl) (Nat.le_of_ble_eq_true rfl) rfl rfl (by decide) rfl (by decide) (by decide) ?_
  rintro r w ⟨rfl, rfl⟩
  refine k_ws [(h0, .inr (11, [v0h0, v1h0, v2h0, v3h0, v4h0, v5h0, v6h0, v7h0, v8h0, v9h0, v10h0, v11h0, v12h0, v13h0, .int 0, v15h0, v16h0, v17h0, v18h0, v19h0, v20h0, v21h0, v22h0, v23h0, v24h0, v25h0, v26h0, v27h0, v28h0, v29h0, v30h0, v31h0, v32h0, v33h0, v34h0, v35h0, v36h0, v37h0, v38h0, v39h0, v40h0, v41h0, v42h0]))] rfl ?_
  refine k_if_ne 12 X dX11_boyWhy_5 (by decide) (fun h_1 => absurd h_1 (by decide)) (fun _ => ?_)
  refine k_iconst (v := 1) X dX11_boyWhy_8 (by decide) ?_
  refine k_goto 29 X dX11_boyWhy_9 (by decide) ?_
  exact k_iret X hr dX11_boyWhy_29 (Nat.le_of_ble_eq_true rfl) (Nat.le_of_ble_eq_true rfl) [0] (by decide) rfl rfl ⟨rfl, rfl⟩

theorem dX11_fault_0 : decode cX11_fault 0 = .ok (.aload_n 0, 1) := by decide +kernel
theorem dX11_fault_1 : decode cX11_fault 1 = .ok (.iconst 0, 1) := by decide +kernel
theorem dX11_fault_2 : decode cX11_fault 2 = .ok (.putfield 83, 3) := by decide +kernel
theorem dX11_fault_5 : decode cX11_fault 5 = .ok (.aload_n 0, 1) := by decide +kernel
theorem dX11_fault_6 : decode cX11_fault 6 = .ok (.getfield 125, 3) := by decide +kernel
theorem dX11_fault_9 : decode cX11_fault 9 = .ok (.ireturn, 1) := by decide +kernel
set_option maxHeartbeats 4000000 in
set_option maxRecDepth 100000 in
theorem r_fault (l : Launch) (g : Gx) (h0 : Nat) (v0h0 : Value) (v1h0 : Value) (v2h0 : Value) (v3h0 : Value) (v4h0 : Value) (v5h0 : Value) (v6h0 : Value) (v7h0 : Value) (v8h0 : Value) (v10h0 : Value) (v11h0 : Value) (v12h0 : Value) (v13h0 : Value) (v14h0 : Value) (v15h0 : Value) (v16h0 : Value) (v17h0 : Value) (v18h0 : Value) (v19h0 : Value) (v20h0 : Value) (v21h0 : Value) (v22h0 : Value) (v23h0 : Value) (v24h0 : Value) (v25h0 : Value) (v26h0 : Value) (v27h0 : Value) (v28h0 : Value) (v29h0 : Value) (v30h0 : Value) (v31h0 : Value) (v32h0 : Value) (v33h0 : Value) (v34h0 : Value) (v35h0 : Value) (v36h0 : Value) (v37h0 : Value) (v38h0 : Value) (v39h0 : Value) (v40h0 : Value) (v41h0 : Value) (v42h0 : Value) : cI l g yX11_fault cX11_fault 1 (some .int) 0 0 0 0 [.ref h0] [(h0, .inr (11, [v0h0, v1h0, v2h0, v3h0, v4h0, v5h0, v6h0, v7h0, v8h0, .int 0, v10h0, v11h0, v12h0, v13h0, v14h0, v15h0, v16h0, v17h0, v18h0, v19h0, v20h0, v21h0, v22h0, v23h0, v24h0, v25h0, v26h0, v27h0, v28h0, v29h0, v30h0, v31h0, v32h0, v33h0, v34h0, v35h0, v36h0, v37h0, v38h0, v39h0, v40h0, v41h0, v42h0]))] (fun r w => r = 0 ∧ w = []) := by
  refine cI.of (by decide) (Nat.le_of_ble_eq_true rfl) ?_
  intro p e s m args below meth c A X hr hi
  refine k_lveq [(0, .ref h0)] rfl ?_
  refine k_aload_n X dX11_fault_0 0 rfl ?_
  refine k_iconst (v := 0) X dX11_fault_1 (by decide) ?_
  refine k_put (ci := 11) [(h0, .inr (11, [.int 0, v1h0, v2h0, v3h0, v4h0, v5h0, v6h0, v7h0, v8h0, .int 0, v10h0, v11h0, v12h0, v13h0, v14h0, v15h0, v16h0, v17h0, v18h0, v19h0, v20h0, v21h0, v22h0, v23h0, v24h0, v25h0, v26h0, v27h0, v28h0, v29h0, v30h0, v31h0, v32h0, v33h0, v34h0, v35h0, v36h0, v37h0, v38h0, v39h0, v40h0, v41h0, v42h0]))] X inlX11 rfl tyX11_ok nmX11 0 (by decide) rfl dX11_fault_2 mw279 0 rfl rfl rfl (Nat.le_of_ble_eq_true rfl) rfl ?_
  refine k_aload_n X dX11_fault_5 0 rfl ?_
  refine k_get (ci := 11) X inlX11 rfl 9 (by decide) dX11_fault_6 mw287 0 rfl rfl ?_
  exact k_iret X hr dX11_fault_9 (Nat.le_of_ble_eq_true rfl) (Nat.le_of_ble_eq_true rfl) [] (by decide) rfl rfl ⟨rfl, rfl⟩

theorem dX11_where_0 : decode cX11_where 0 = .ok (.aload_n 0, 1) := by decide +kernel
theorem dX11_where_1 : decode cX11_where 1 = .ok (.iconst 0, 1) := by decide +kernel
theorem dX11_where_2 : decode cX11_where 2 = .ok (.putfield 83, 3) := by decide +kernel
theorem dX11_where_5 : decode cX11_where 5 = .ok (.aload_n 0, 1) := by decide +kernel
theorem dX11_where_6 : decode cX11_where 6 = .ok (.getfield 86, 3) := by decide +kernel
theorem dX11_where_9 : decode cX11_where 9 = .ok (.iconst 4, 1) := by decide +kernel
theorem dX11_where_10 : decode cX11_where 10 = .ok (.if_icmp .ne 10, 3) := by decide +kernel
theorem dX11_where_20 : decode cX11_where 20 = .ok (.iconst (-1), 1) := by decide +kernel
theorem dX11_where_21 : decode cX11_where 21 = .ok (.ireturn, 1) := by decide +kernel
set_option maxHeartbeats 4000000 in
set_option maxRecDepth 100000 in
theorem r_where (l : Launch) (g : Gx) (h0 : Nat) (v0h0 : Value) (v1h0 : Value) (v2h0 : Value) (v3h0 : Value) (v4h0 : Value) (v5h0 : Value) (v6h0 : Value) (v7h0 : Value) (v8h0 : Value) (v9h0 : Value) (v10h0 : Value) (v12h0 : Value) (v13h0 : Value) (v14h0 : Value) (v15h0 : Value) (v16h0 : Value) (v17h0 : Value) (v18h0 : Value) (v19h0 : Value) (v20h0 : Value) (v21h0 : Value) (v22h0 : Value) (v23h0 : Value) (v24h0 : Value) (v25h0 : Value) (v26h0 : Value) (v27h0 : Value) (v28h0 : Value) (v29h0 : Value) (v30h0 : Value) (v31h0 : Value) (v32h0 : Value) (v33h0 : Value) (v34h0 : Value) (v35h0 : Value) (v36h0 : Value) (v37h0 : Value) (v38h0 : Value) (v39h0 : Value) (v40h0 : Value) (v41h0 : Value) (v42h0 : Value) : cI l g yX11_where cX11_where 1 (some .int) 0 0 0 0 [.ref h0] [(h0, .inr (11, [v0h0, v1h0, v2h0, v3h0, v4h0, v5h0, v6h0, v7h0, v8h0, v9h0, v10h0, .int 0, v12h0, v13h0, v14h0, v15h0, v16h0, v17h0, v18h0, v19h0, v20h0, v21h0, v22h0, v23h0, v24h0, v25h0, v26h0, v27h0, v28h0, v29h0, v30h0, v31h0, v32h0, v33h0, v34h0, v35h0, v36h0, v37h0, v38h0, v39h0, v40h0, v41h0, v42h0]))] (fun r w => r = (-1) ∧ w = []) := by
  refine cI.of (by decide) (Nat.le_of_ble_eq_true rfl) ?_
  intro p e s m args below meth c A X hr hi
  refine k_lveq [(0, .ref h0)] rfl ?_
  refine k_aload_n X dX11_where_0 0 rfl ?_
  refine k_iconst (v := 0) X dX11_where_1 (by decide) ?_
  refine k_put (ci := 11) [(h0, .inr (11, [.int 0, v1h0, v2h0, v3h0, v4h0, v5h0, v6h0, v7h0, v8h0, v9h0, v10h0, .int 0, v12h0, v13h0, v14h0, v15h0, v16h0, v17h0, v18h0, v19h0, v20h0, v21h0, v22h0, v23h0, v24h0, v25h0, v26h0, v27h0, v28h0, v29h0, v30h0, v31h0, v32h0, v33h0, v34h0, v35h0, v36h0, v37h0, v38h0, v39h0, v40h0, v41h0, v42h0]))] X inlX11 rfl tyX11_ok nmX11 0 (by decide) rfl dX11_where_2 mw279 0 rfl rfl rfl (Nat.le_of_ble_eq_true rfl) rfl ?_
  refine k_aload_n X dX11_where_5 0 rfl ?_
  refine k_get (ci := 11) X inlX11 rfl 11 (by decide) dX11_where_6 mw280 0 rfl rfl ?_
  refine k_iconst (v := 4) X dX11_where_9 (by decide) ?_
  refine k_ic_ne 20 X dX11_where_10 (by decide) (fun _ => ?_) (fun h_1 => absurd h_1 (by decide))
  refine k_iconst (v := -1) X dX11_where_20 (by decide) ?_
  exact k_iret X hr dX11_where_21 (Nat.le_of_ble_eq_true rfl) (Nat.le_of_ble_eq_true rfl) [] (by decide) rfl rfl ⟨rfl, rfl⟩

theorem dX11_trouble_0 : decode cX11_trouble 0 = .ok (.aload_n 0, 1) := by decide +kernel
theorem dX11_trouble_1 : decode cX11_trouble 1 = .ok (.iconst 0, 1) := by decide +kernel
theorem dX11_trouble_2 : decode cX11_trouble 2 = .ok (.putfield 83, 3) := by decide +kernel
theorem dX11_trouble_5 : decode cX11_trouble 5 = .ok (.aload_n 0, 1) := by decide +kernel
theorem dX11_trouble_6 : decode cX11_trouble 6 = .ok (.getfield 86, 3) := by decide +kernel
theorem dX11_trouble_9 : decode cX11_trouble 9 = .ok (.ireturn, 1) := by decide +kernel
set_option maxHeartbeats 4000000 in
set_option maxRecDepth 100000 in
theorem r_trouble (l : Launch) (g : Gx) (h0 : Nat) (v0h0 : Value) (v1h0 : Value) (v2h0 : Value) (v3h0 : Value) (v4h0 : Value) (v5h0 : Value) (v6h0 : Value) (v7h0 : Value) (v8h0 : Value) (v9h0 : Value) (v10h0 : Value) (v12h0 : Value) (v13h0 : Value) (v14h0 : Value) (v15h0 : Value) (v16h0 : Value) (v17h0 : Value) (v18h0 : Value) (v19h0 : Value) (v20h0 : Value) (v21h0 : Value) (v22h0 : Value) (v23h0 : Value) (v24h0 : Value) (v25h0 : Value) (v26h0 : Value) (v27h0 : Value) (v28h0 : Value) (v29h0 : Value) (v30h0 : Value) (v31h0 : Value) (v32h0 : Value) (v33h0 : Value) (v34h0 : Value) (v35h0 : Value) (v36h0 : Value) (v37h0 : Value) (v38h0 : Value) (v39h0 : Value) (v40h0 : Value) (v41h0 : Value) (v42h0 : Value) : cI l g yX11_trouble cX11_trouble 1 (some .int) 0 0 0 0 [.ref h0] [(h0, .inr (11, [v0h0, v1h0, v2h0, v3h0, v4h0, v5h0, v6h0, v7h0, v8h0, v9h0, v10h0, .int 0, v12h0, v13h0, v14h0, v15h0, v16h0, v17h0, v18h0, v19h0, v20h0, v21h0, v22h0, v23h0, v24h0, v25h0, v26h0, v27h0, v28h0, v29h0, v30h0, v31h0, v32h0, v33h0, v34h0, v35h0, v36h0, v37h0, v38h0, v39h0, v40h0, v41h0, v42h0]))] (fun r w => r = 0 ∧ w = []) := by
  refine cI.of (by decide) (Nat.le_of_ble_eq_true rfl) ?_
  intro p e s m args below meth c A X hr hi
  refine k_lveq [(0, .ref h0)] rfl ?_
  refine k_aload_n X dX11_trouble_0 0 rfl ?_
  refine k_iconst (v := 0) X dX11_trouble_1 (by decide) ?_
  refine k_put (ci := 11) [(h0, .inr (11, [.int 0, v1h0, v2h0, v3h0, v4h0, v5h0, v6h0, v7h0, v8h0, v9h0, v10h0, .int 0, v12h0, v13h0, v14h0, v15h0, v16h0, v17h0, v18h0, v19h0, v20h0, v21h0, v22h0, v23h0, v24h0, v25h0, v26h0, v27h0, v28h0, v29h0, v30h0, v31h0, v32h0, v33h0, v34h0, v35h0, v36h0, v37h0, v38h0, v39h0, v40h0, v41h0, v42h0]))] X inlX11 rfl tyX11_ok nmX11 0 (by decide) rfl dX11_trouble_2 mw279 0 rfl rfl rfl (Nat.le_of_ble_eq_true rfl) rfl ?_
  refine k_aload_n X dX11_trouble_5 0 rfl ?_
  refine k_get (ci := 11) X inlX11 rfl 11 (by decide) dX11_trouble_6 mw280 0 rfl rfl ?_
  exact k_iret X hr dX11_trouble_9 (Nat.le_of_ble_eq_true rfl) (Nat.le_of_ble_eq_true rfl) [] (by decide) rfl rfl ⟨rfl, rfl⟩

theorem dX11_reel_0 : decode cX11_reel 0 = .ok (.aload_n 0, 1) := by decide +kernel
theorem dX11_reel_1 : decode cX11_reel 1 = .ok (.invokevirtual 200, 3) := by decide +kernel
theorem dX11_reel_4 : decode cX11_reel 4 = .ok (.aload_n 0, 1) := by decide +kernel
theorem dX11_reel_5 : decode cX11_reel 5 = .ok (.iload_n 1, 1) := by decide +kernel
theorem dX11_reel_6 : decode cX11_reel 6 = .ok (.invokevirtual 327, 3) := by decide +kernel
theorem dX11_reel_9 : decode cX11_reel 9 = .ok (.ifCond .eq 12, 3) := by decide +kernel
theorem dX11_reel_21 : decode cX11_reel 21 = .ok (.aload_n 0, 1) := by decide +kernel
theorem dX11_reel_22 : decode cX11_reel 22 = .ok (.iconst 1, 1) := by decide +kernel
theorem dX11_reel_23 : decode cX11_reel 23 = .ok (.invokevirtual 203, 3) := by decide +kernel
theorem dX11_reel_26 : decode cX11_reel 26 = .ok (.ireturn, 1) := by decide +kernel
set_option maxHeartbeats 4000000 in
set_option maxRecDepth 100000 in
theorem r_reel (l : Launch) (g : Gx) (h0 : Nat) (p0 : Int32) (p1 : Int32) (v0h0 : Value) (v1h0 : Value) (v2h0 : Value) (v3h0 : Value) (v4h0 : Value) (v5h0 : Value) (v6h0 : Value) (v7h0 : Value) (v8h0 : Value) (v9h0 : Value) (v10h0 : Value) (v11h0 : Value) (v12h0 : Value) (v13h0 : Value) (v15h0 : Value) (v16h0 : Value) (v17h0 : Value) (v18h0 : Value) (v19h0 : Value) (v20h0 : Value) (v21h0 : Value) (v22h0 : Value) (v23h0 : Value) (v24h0 : Value) (v25h0 : Value) (v26h0 : Value) (v27h0 : Value) (v28h0 : Value) (v29h0 : Value) (v30h0 : Value) (v31h0 : Value) (v32h0 : Value) (v33h0 : Value) (v34h0 : Value) (v35h0 : Value) (v36h0 : Value) (v37h0 : Value) (v38h0 : Value) (v39h0 : Value) (v40h0 : Value) (v41h0 : Value) (v42h0 : Value) : cI l g yX11_reel cX11_reel 3 (some .int) 1 21 0 0 [.ref h0, .int p0, .int p1] [(h0, .inr (11, [v0h0, v1h0, v2h0, v3h0, v4h0, v5h0, v6h0, v7h0, v8h0, v9h0, v10h0, v11h0, v12h0, v13h0, .int 0, v15h0, v16h0, v17h0, v18h0, v19h0, v20h0, v21h0, v22h0, v23h0, v24h0, v25h0, v26h0, v27h0, v28h0, v29h0, v30h0, v31h0, v32h0, v33h0, v34h0, v35h0, v36h0, v37h0, v38h0, v39h0, v40h0, v41h0, v42h0]))] (fun r w => r = (-1) ∧ w = []) := by
  refine cI.of (by decide) (Nat.le_of_ble_eq_true rfl) ?_
  intro p e s m args below meth c A X hr hi
  refine k_lveq [(0, .ref h0), (1, .int p0), (2, .int p1)] rfl ?_
  refine k_aload_n X dX11_reel_0 0 rfl ?_
  refine k_callVV (n := 0) (As := []) (st := []) X [(h0, .inr (11, [v0h0, v1h0, v2h0, v3h0, v4h0, v5h0, v6h0, v7h0, v8h0, v9h0, v10h0, v11h0, v12h0, v13h0, .int 0, v15h0, v16h0, v17h0, v18h0, v19h0, v20h0, v21h0, v22h0, v23h0, v24h0, v25h0, v26h0, v27h0, v28h0, v29h0, v30h0, v31h0, v32h0, v33h0, v34h0, v35h0, v36h0, v37h0, v38h0, v39h0, v40h0, v41h0, v42h0]))] [] [0] [] (r_good l g h0 v0h0 v1h0 v2h0 v3h0 v4h0 v5h0 v6h0 v7h0 v8h0 v9h0 v10h0 v11h0 v12h0 v13h0 (.int 0) v15h0 v16h0 v17h0 v18h0 v19h0 v20h0 v21h0 v22h0 v23h0 v24h0 v25h0 v26h0 v27h0 v28h0 v29h0 v30h0 v31h0 v32h0 v33h0 v34h0 v35h0 v36h0 v37h0 v38h0 v39h0 v40h0 v41h0 v42h0) dX11_reel_1 mw288 mw289 mw290 mw285 mw291 rfl 11 rfl rfl 0 _ rfl (by unfold yOk; decide) rfl (Nat.le_of_ble_eq_true rfl) (Nat.le_of_ble_eq_true rfl) (Nat.le_of_ble_eq_true rfl) (Nat.le_of_ble_eq_true rfl) (Nat.le_of_ble_eq_true rfl) rfl rfl (by decide) rfl (by decide) (by decide) ?_
  rintro w rfl
  refine k_ws [(h0, .inr (11, [.int 0, v1h0, v2h0, v3h0, v4h0, v5h0, v6h0, v7h0, v8h0, v9h0, v10h0, .int 0, v12h0, v13h0, .int 0, v15h0, v16h0, v17h0, v18h0, v19h0, v20h0, v21h0, v22h0, v23h0, v24h0, v25h0, v26h0, v27h0, v28h0, v29h0, v30h0, v31h0, v32h0, v33h0, v34h0, v35h0, v36h0, v37h0, v38h0, v39h0, v40h0, v41h0, v42h0]))] rfl ?_
  refine k_aload_n X dX11_reel_4 0 rfl ?_
  refine k_iload_n X dX11_reel_5 1 rfl ?_
  refine k_callVI (n := 1) (As := [.int p0]) (st := []) X [(h0, .inr (11, [.int 0, v1h0, v2h0, v3h0, v4h0, v5h0, v6h0, v7h0, v8h0, v9h0, v10h0, .int 0, v12h0, v13h0, .int 0, v15h0, v16h0, v17h0, v18h0, v19h0, v20h0, v21h0, v22h0, v23h0, v24h0, v25h0, v26h0, v27h0, v28h0, v29h0, v30h0, v31h0, v32h0, v33h0, v34h0, v35h0, v36h0, v37h0, v38h0, v39h0, v40h0, v41h0, v42h0]))] [] [0] [] (r_isReel l g h0 p0 (.int 0) v1h0 v2h0 v3h0 v4h0 v5h0 v6h0 v7h0 v8h0 v9h0 v10h0 (.int 0) v12h0 v13h0 v15h0 v16h0 v17h0 v18h0 v19h0 v20h0 v21h0 v22h0 v23h0 v24h0 v25h0 v26h0 v27h0 v28h0 v29h0 v30h0 v31h0 v32h0 v33h0 v34h0 v35h0 v36h0 v37h0 v38h0 v39h0 v40h0 v41h0 v42h0) dX11_reel_6 mw292 mw293 mw294 mw285 mw295 rfl 11 rfl rfl 0 _ rfl (by unfold yOk; decide) rfl (Nat.le_of_ble_eq_true rfl) (Nat.le_of_ble_eq_true rfl) (Nat.le_of_ble_eq_true rfl) (Nat.le_of_ble_eq_true rfl) (Nat.le_of_ble_eq_true rfl) rfl rfl (by decide) rfl (by decide) (by decide) ?_
  rintro r w ⟨rfl, rfl⟩
  refine k_ws [(h0, .inr (11, [.int 0, v1h0, v2h0, v3h0, v4h0, v5h0, v6h0, v7h0, v8h0, v9h0, v10h0, .int 0, v12h0, v13h0, .int 0, v15h0, v16h0, v17h0, v18h0, v19h0, v20h0, v21h0, v22h0, v23h0, v24h0, v25h0, v26h0, v27h0, v28h0, v29h0, v30h0, v31h0, v32h0, v33h0, v34h0, v35h0, v36h0, v37h0, v38h0, v39h0, v40h0, v41h0, v42h0]))] rfl ?_
  refine k_if_eq 21 X dX11_reel_9 (by decide) (fun _ => ?_) (fun h_1 => absurd (by decide) h_1)
  refine k_aload_n X dX11_reel_21 0 rfl ?_
  refine k_iconst (v := 1) X dX11_reel_22 (by decide) ?_
  refine k_callVI (n := 1) (As := [.int 1]) (st := []) X [(h0, .inr (11, [.int 0, v1h0, v2h0, v3h0, v4h0, v5h0, v6h0, v7h0, v8h0, v9h0, v10h0, .int 0, v12h0, v13h0, .int 0, v15h0, v16h0, v17h0, v18h0, v19h0, v20h0, v21h0, v22h0, v23h0, v24h0, v25h0, v26h0, v27h0, v28h0, v29h0, v30h0, v31h0, v32h0, v33h0, v34h0, v35h0, v36h0, v37h0, v38h0, v39h0, v40h0, v41h0, v42h0]))] [] [0] [] (r_no l g h0 1 (.int 0) v1h0 v2h0 v3h0 v4h0 v5h0 v6h0 v7h0 v8h0 v9h0 v10h0 (.int 0) v12h0 v13h0 (.int 0) v15h0 v16h0 v17h0 v18h0 v19h0 v20h0 v21h0 v22h0 v23h0 v24h0 v25h0 v26h0 v27h0 v28h0 v29h0 v30h0 v31h0 v32h0 v33h0 v34h0 v35h0 v36h0 v37h0 v38h0 v39h0 v40h0 v41h0 v42h0) dX11_reel_23 mw296 mw297 mw298 mw285 mw299 rfl 11 rfl rfl 0 _ rfl (by unfold yOk; decide) rfl (Nat.le_of_ble_eq_true rfl) (Nat.le_of_ble_eq_true rfl) (Nat.le_of_ble_eq_true rfl) (Nat.le_of_ble_eq_true rfl) (Nat.le_of_ble_eq_true rfl) rfl rfl (by decide) rfl (by decide) (by decide) ?_
  rintro r w ⟨rfl, rfl⟩
  refine k_ws [] rfl ?_
  exact k_iret X hr dX11_reel_26 (Nat.le_of_ble_eq_true rfl) (Nat.le_of_ble_eq_true rfl) [] (by decide) rfl rfl ⟨rfl, rfl⟩

theorem dX11_mark_0 : decode cX11_mark 0 = .ok (.aload_n 0, 1) := by decide +kernel
theorem dX11_mark_1 : decode cX11_mark 1 = .ok (.invokevirtual 200, 3) := by decide +kernel
theorem dX11_mark_4 : decode cX11_mark 4 = .ok (.aload_n 0, 1) := by decide +kernel
theorem dX11_mark_5 : decode cX11_mark 5 = .ok (.iload_n 1, 1) := by decide +kernel
theorem dX11_mark_6 : decode cX11_mark 6 = .ok (.invokevirtual 327, 3) := by decide +kernel
theorem dX11_mark_9 : decode cX11_mark 9 = .ok (.ifCond .eq 29, 3) := by decide +kernel
theorem dX11_mark_38 : decode cX11_mark 38 = .ok (.aload_n 0, 1) := by decide +kernel
theorem dX11_mark_39 : decode cX11_mark 39 = .ok (.iconst 1, 1) := by decide +kernel
theorem dX11_mark_40 : decode cX11_mark 40 = .ok (.invokevirtual 203, 3) := by decide +kernel
theorem dX11_mark_43 : decode cX11_mark 43 = .ok (.ireturn, 1) := by decide +kernel
set_option maxHeartbeats 4000000 in
set_option maxRecDepth 100000 in
theorem r_mark (l : Launch) (g : Gx) (h0 : Nat) (p0 : Int32) (p1 : Int32) (v0h0 : Value) (v1h0 : Value) (v2h0 : Value) (v3h0 : Value) (v4h0 : Value) (v5h0 : Value) (v6h0 : Value) (v7h0 : Value) (v8h0 : Value) (v9h0 : Value) (v10h0 : Value) (v11h0 : Value) (v12h0 : Value) (v13h0 : Value) (v15h0 : Value) (v16h0 : Value) (v17h0 : Value) (v18h0 : Value) (v19h0 : Value) (v20h0 : Value) (v21h0 : Value) (v22h0 : Value) (v23h0 : Value) (v24h0 : Value) (v25h0 : Value) (v26h0 : Value) (v27h0 : Value) (v28h0 : Value) (v29h0 : Value) (v30h0 : Value) (v31h0 : Value) (v32h0 : Value) (v33h0 : Value) (v34h0 : Value) (v35h0 : Value) (v36h0 : Value) (v37h0 : Value) (v38h0 : Value) (v39h0 : Value) (v40h0 : Value) (v41h0 : Value) (v42h0 : Value) : cI l g yX11_mark cX11_mark 3 (some .int) 1 21 0 0 [.ref h0, .int p0, .int p1] [(h0, .inr (11, [v0h0, v1h0, v2h0, v3h0, v4h0, v5h0, v6h0, v7h0, v8h0, v9h0, v10h0, v11h0, v12h0, v13h0, .int 0, v15h0, v16h0, v17h0, v18h0, v19h0, v20h0, v21h0, v22h0, v23h0, v24h0, v25h0, v26h0, v27h0, v28h0, v29h0, v30h0, v31h0, v32h0, v33h0, v34h0, v35h0, v36h0, v37h0, v38h0, v39h0, v40h0, v41h0, v42h0]))] (fun r w => r = (-1) ∧ w = []) := by
  refine cI.of (by decide) (Nat.le_of_ble_eq_true rfl) ?_
  intro p e s m args below meth c A X hr hi
  refine k_lveq [(0, .ref h0), (1, .int p0), (2, .int p1)] rfl ?_
  refine k_aload_n X dX11_mark_0 0 rfl ?_
  refine k_callVV (n := 0) (As := []) (st := []) X [(h0, .inr (11, [v0h0, v1h0, v2h0, v3h0, v4h0, v5h0, v6h0, v7h0, v8h0, v9h0, v10h0, v11h0, v12h0, v13h0, .int 0, v15h0, v16h0, v17h0, v18h0, v19h0, v20h0, v21h0, v22h0, v23h0, v24h0, v25h0, v26h0, v27h0, v28h0, v29h0, v30h0, v31h0, v32h0, v33h0, v34h0, v35h0, v36h0, v37h0, v38h0, v39h0, v40h0, v41h0, v42h0]))] [] [0] [] (r_good l g h0 v0h0 v1h0 v2h0 v3h0 v4h0 v5h0 v6h0 v7h0 v8h0 v9h0 v10h0 v11h0 v12h0 v13h0 (.int 0) v15h0 v16h0 v17h0 v18h0 v19h0 v20h0 v21h0 v22h0 v23h0 v24h0 v25h0 v26h0 v27h0 v28h0 v29h0 v30h0 v31h0 v32h0 v33h0 v34h0 v35h0 v36h0 v37h0 v38h0 v39h0 v40h0 v41h0 v42h0) dX11_mark_1 mw288 mw289 mw290 mw285 mw291 rfl 11 rfl rfl 0 _ rfl (by unfold yOk; decide) rfl (Nat.le_of_ble_eq_true rfl) (Nat.le_of_ble_eq_true rfl) (Nat.le_of_ble_eq_true rfl) (Nat.le_of_ble_eq_true rfl) (Nat.le_of_ble_eq_true rfl) rfl rfl (by decide) rfl (by decide) (by decide) ?_
  rintro w rfl
  refine k_ws [(h0, .inr (11, [.int 0, v1h0, v2h0, v3h0, v4h0, v5h0, v6h0, v7h0, v8h0, v9h0, v10h0, .int 0, v12h0, v13h0, .int 0, v15h0, v16h0, v17h0, v18h0, v19h0, v20h0, v21h0, v22h0, v23h0, v24h0, v25h0, v26h0, v27h0, v28h0, v29h0, v30h0, v31h0, v32h0, v33h0, v34h0, v35h0, v36h0, v37h0, v38h0, v39h0, v40h0, v41h0, v42h0]))] rfl ?_
  refine k_aload_n X dX11_mark_4 0 rfl ?_
  refine k_iload_n X dX11_mark_5 1 rfl ?_
  refine k_callVI (n := 1) (As := [.int p0]) (st := []) X [(h0, .inr (11, [.int 0, v1h0, v2h0, v3h0, v4h0, v5h0, v6h0, v7h0, v8h0, v9h0, v10h0, .int 0, v12h0, v13h0, .int 0, v15h0, v16h0, v17h0, v18h0, v19h0, v20h0, v21h0, v22h0, v23h0, v24h0, v25h0, v26h0, v27h0, v28h0, v29h0, v30h0, v31h0, v32h0, v33h0, v34h0, v35h0, v36h0, v37h0, v38h0, v39h0, v40h0, v41h0, v42h0]))] [] [0] [] (r_isReel l g h0 p0 (.int 0) v1h0 v2h0 v3h0 v4h0 v5h0 v6h0 v7h0 v8h0 v9h0 v10h0 (.int 0) v12h0 v13h0 v15h0 v16h0 v17h0 v18h0 v19h0 v20h0 v21h0 v22h0 v23h0 v24h0 v25h0 v26h0 v27h0 v28h0 v29h0 v30h0 v31h0 v32h0 v33h0 v34h0 v35h0 v36h0 v37h0 v38h0 v39h0 v40h0 v41h0 v42h0) dX11_mark_6 mw292 mw293 mw294 mw285 mw295 rfl 11 rfl rfl 0 _ rfl (by unfold yOk; decide) rfl (Nat.le_of_ble_eq_true rfl) (Nat.le_of_ble_eq_true rfl) (Nat.le_of_ble_eq_true rfl) (Nat.le_of_ble_eq_true rfl) (Nat.le_of_ble_eq_true rfl) rfl rfl (by decide) rfl (by decide) (by decide) ?_
  rintro r w ⟨rfl, rfl⟩
  refine k_ws [(h0, .inr (11, [.int 0, v1h0, v2h0, v3h0, v4h0, v5h0, v6h0, v7h0, v8h0, v9h0, v10h0, .int 0, v12h0, v13h0, .int 0, v15h0, v16h0, v17h0, v18h0, v19h0, v20h0, v21h0, v22h0, v23h0, v24h0, v25h0, v26h0, v27h0, v28h0, v29h0, v30h0, v31h0, v32h0, v33h0, v34h0, v35h0, v36h0, v37h0, v38h0, v39h0, v40h0, v41h0, v42h0]))] rfl ?_
  refine k_if_eq 38 X dX11_mark_9 (by decide) (fun _ => ?_) (fun h_1 => absurd (by decide) h_1)
  refine k_aload_n X dX11_mark_38 0 rfl ?_
  refine k_iconst (v := 1) X dX11_mark_39 (by decide) ?_
  refine k_callVI (n := 1) (As := [.int 1]) (st := []) X [(h0, .inr (11, [.int 0, v1h0, v2h0, v3h0, v4h0, v5h0, v6h0, v7h0, v8h0, v9h0, v10h0, .int 0, v12h0, v13h0, .int 0, v15h0, v16h0, v17h0, v18h0, v19h0, v20h0, v21h0, v22h0, v23h0, v24h0, v25h0, v26h0, v27h0, v28h0, v29h0, v30h0, v31h0, v32h0, v33h0, v34h0, v35h0, v36h0, v37h0, v38h0, v39h0, v40h0, v41h0, v42h0]))] [] [0] [] (r_no l g h0 1 (.int 0) v1h0 v2h0 v3h0 v4h0 v5h0 v6h0 v7h0 v8h0 v9h0 v10h0 (.int 0) v12h0 v13h0 (.int 0) v15h0 v16h0 v17h0 v18h0 v19h0 v20h0 v21h0 v22h0 v23h0 v24h0 v25h0 v26h0 v27h0 v28h0 v29h0 v30h0 v31h0 v32h0 v33h0 v34h0 v35h0 v36h0 v37h0 v38h0 v39h0 v40h0 v41h0 v42h0) dX11_mark_40 mw296 mw297 mw298 mw285 mw299 rfl 11 rfl rfl 0 _ rfl (by unfold yOk; decide) rfl (Nat.le_of_ble_eq_true rfl) (Nat.le_of_ble_eq_true rfl) (Nat.le_of_ble_eq_true rfl) (Nat.le_of_ble_eq_true rfl) (Nat.le_of_ble_eq_true rfl) rfl rfl (by decide) rfl (by decide) (by decide) ?_
  rintro r w ⟨rfl, rfl⟩
  refine k_ws [] rfl ?_
  exact k_iret X hr dX11_mark_43 (Nat.le_of_ble_eq_true rfl) (Nat.le_of_ble_eq_true rfl) [] (by decide) rfl rfl ⟨rfl, rfl⟩

theorem dX11_likeliest_0 : decode cX11_likeliest 0 = .ok (.aload_n 0, 1) := by decide +kernel
theorem dX11_likeliest_1 : decode cX11_likeliest 1 = .ok (.invokevirtual 200, 3) := by decide +kernel
theorem dX11_likeliest_4 : decode cX11_likeliest 4 = .ok (.aload_n 0, 1) := by decide +kernel
theorem dX11_likeliest_5 : decode cX11_likeliest 5 = .ok (.iload_n 1, 1) := by decide +kernel
theorem dX11_likeliest_6 : decode cX11_likeliest 6 = .ok (.invokevirtual 327, 3) := by decide +kernel
theorem dX11_likeliest_9 : decode cX11_likeliest 9 = .ok (.ifCond .ne 9, 3) := by decide +kernel
theorem dX11_likeliest_12 : decode cX11_likeliest 12 = .ok (.aload_n 0, 1) := by decide +kernel
theorem dX11_likeliest_13 : decode cX11_likeliest 13 = .ok (.iconst 1, 1) := by decide +kernel
theorem dX11_likeliest_14 : decode cX11_likeliest 14 = .ok (.invokevirtual 203, 3) := by decide +kernel
theorem dX11_likeliest_17 : decode cX11_likeliest 17 = .ok (.ireturn, 1) := by decide +kernel
set_option maxHeartbeats 4000000 in
set_option maxRecDepth 100000 in
theorem r_likeliest (l : Launch) (g : Gx) (h0 : Nat) (p0 : Int32) (v0h0 : Value) (v1h0 : Value) (v2h0 : Value) (v3h0 : Value) (v4h0 : Value) (v5h0 : Value) (v6h0 : Value) (v7h0 : Value) (v8h0 : Value) (v9h0 : Value) (v10h0 : Value) (v11h0 : Value) (v12h0 : Value) (v13h0 : Value) (v15h0 : Value) (v16h0 : Value) (v17h0 : Value) (v18h0 : Value) (v19h0 : Value) (v20h0 : Value) (v21h0 : Value) (v22h0 : Value) (v23h0 : Value) (v24h0 : Value) (v25h0 : Value) (v26h0 : Value) (v27h0 : Value) (v28h0 : Value) (v29h0 : Value) (v30h0 : Value) (v31h0 : Value) (v32h0 : Value) (v33h0 : Value) (v34h0 : Value) (v35h0 : Value) (v36h0 : Value) (v37h0 : Value) (v38h0 : Value) (v39h0 : Value) (v40h0 : Value) (v41h0 : Value) (v42h0 : Value) : cI l g yX11_likeliest cX11_likeliest 4 (some .int) 1 21 0 0 [.ref h0, .int p0] [(h0, .inr (11, [v0h0, v1h0, v2h0, v3h0, v4h0, v5h0, v6h0, v7h0, v8h0, v9h0, v10h0, v11h0, v12h0, v13h0, .int 0, v15h0, v16h0, v17h0, v18h0, v19h0, v20h0, v21h0, v22h0, v23h0, v24h0, v25h0, v26h0, v27h0, v28h0, v29h0, v30h0, v31h0, v32h0, v33h0, v34h0, v35h0, v36h0, v37h0, v38h0, v39h0, v40h0, v41h0, v42h0]))] (fun r w => r = (-1) ∧ w = []) := by
  refine cI.of (by decide) (Nat.le_of_ble_eq_true rfl) ?_
  intro p e s m args below meth c A X hr hi
  refine k_lveq [(0, .ref h0), (1, .int p0)] rfl ?_
  refine k_aload_n X dX11_likeliest_0 0 rfl ?_
  refine k_callVV (n := 0) (As := []) (st := []) X [(h0, .inr (11, [v0h0, v1h0, v2h0, v3h0, v4h0, v5h0, v6h0, v7h0, v8h0, v9h0, v10h0, v11h0, v12h0, v13h0, .int 0, v15h0, v16h0, v17h0, v18h0, v19h0, v20h0, v21h0, v22h0, v23h0, v24h0, v25h0, v26h0, v27h0, v28h0, v29h0, v30h0, v31h0, v32h0, v33h0, v34h0, v35h0, v36h0, v37h0, v38h0, v39h0, v40h0, v41h0, v42h0]))] [] [0] [] (r_good l g h0 v0h0 v1h0 v2h0 v3h0 v4h0 v5h0 v6h0 v7h0 v8h0 v9h0 v10h0 v11h0 v12h0 v13h0 (.int 0) v15h0 v16h0 v17h0 v18h0 v19h0 v20h0 v21h0 v22h0 v23h0 v24h0 v25h0 v26h0 v27h0 v28h0 v29h0 v30h0 v31h0 v32h0 v33h0 v34h0 v35h0 v36h0 v37h0 v38h0 v39h0 v40h0 v41h0 v42h0) dX11_likeliest_1 mw288 mw289 mw290 mw285 mw291 rfl 11 rfl rfl 0 _ rfl (by unfold yOk; decide) rfl (Nat.le_of_ble_eq_true rfl) (Nat.le_of_ble_eq_true rfl) (Nat.le_of_ble_eq_true rfl) (Nat.le_of_ble_eq_true rfl) (Nat.le_of_ble_eq_true rfl) rfl rfl (by decide) rfl (by decide) (by decide) ?_
  rintro w rfl
  refine k_ws [(h0, .inr (11, [.int 0, v1h0, v2h0, v3h0, v4h0, v5h0, v6h0, v7h0, v8h0, v9h0, v10h0, .int 0, v12h0, v13h0, .int 0, v15h0, v16h0, v17h0, v18h0, v19h0, v20h0, v21h0, v22h0, v23h0, v24h0, v25h0, v26h0, v27h0, v28h0, v29h0, v30h0, v31h0, v32h0, v33h0, v34h0, v35h0, v36h0, v37h0, v38h0, v39h0, v40h0, v41h0, v42h0]))] rfl ?_
  refine k_aload_n X dX11_likeliest_4 0 rfl ?_
  refine k_iload_n X dX11_likeliest_5 1 rfl ?_
  refine k_callVI (n := 1) (As := [.int p0]) (st := []) X [(h0, .inr (11, [.int 0, v1h0, v2h0, v3h0, v4h0, v5h0, v6h0, v7h0, v8h0, v9h0, v10h0, .int 0, v12h0, v13h0, .int 0, v15h0, v16h0, v17h0, v18h0, v19h0, v20h0, v21h0, v22h0, v23h0, v24h0, v25h0, v26h0, v27h0, v28h0, v29h0, v30h0, v31h0, v32h0, v33h0, v34h0, v35h0, v36h0, v37h0, v38h0, v39h0, v40h0, v41h0, v42h0]))] [] [0] [] (r_isReel l g h0 p0 (.int 0) v1h0 v2h0 v3h0 v4h0 v5h0 v6h0 v7h0 v8h0 v9h0 v10h0 (.int 0) v12h0 v13h0 v15h0 v16h0 v17h0 v18h0 v19h0 v20h0 v21h0 v22h0 v23h0 v24h0 v25h0 v26h0 v27h0 v28h0 v29h0 v30h0 v31h0 v32h0 v33h0 v34h0 v35h0 v36h0 v37h0 v38h0 v39h0 v40h0 v41h0 v42h0) dX11_likeliest_6 mw292 mw293 mw294 mw285 mw295 rfl 11 rfl rfl 0 _ rfl (by unfold yOk; decide) rfl (Nat.le_of_ble_eq_true rfl) (Nat.le_of_ble_eq_true rfl) (Nat.le_of_ble_eq_true rfl) (Nat.le_of_ble_eq_true rfl) (Nat.le_of_ble_eq_true rfl) rfl rfl (by decide) rfl (by decide) (by decide) ?_
  rintro r w ⟨rfl, rfl⟩
  refine k_ws [(h0, .inr (11, [.int 0, v1h0, v2h0, v3h0, v4h0, v5h0, v6h0, v7h0, v8h0, v9h0, v10h0, .int 0, v12h0, v13h0, .int 0, v15h0, v16h0, v17h0, v18h0, v19h0, v20h0, v21h0, v22h0, v23h0, v24h0, v25h0, v26h0, v27h0, v28h0, v29h0, v30h0, v31h0, v32h0, v33h0, v34h0, v35h0, v36h0, v37h0, v38h0, v39h0, v40h0, v41h0, v42h0]))] rfl ?_
  refine k_if_ne 18 X dX11_likeliest_9 (by decide) (fun h_1 => absurd h_1 (by decide)) (fun _ => ?_)
  refine k_aload_n X dX11_likeliest_12 0 rfl ?_
  refine k_iconst (v := 1) X dX11_likeliest_13 (by decide) ?_
  refine k_callVI (n := 1) (As := [.int 1]) (st := []) X [(h0, .inr (11, [.int 0, v1h0, v2h0, v3h0, v4h0, v5h0, v6h0, v7h0, v8h0, v9h0, v10h0, .int 0, v12h0, v13h0, .int 0, v15h0, v16h0, v17h0, v18h0, v19h0, v20h0, v21h0, v22h0, v23h0, v24h0, v25h0, v26h0, v27h0, v28h0, v29h0, v30h0, v31h0, v32h0, v33h0, v34h0, v35h0, v36h0, v37h0, v38h0, v39h0, v40h0, v41h0, v42h0]))] [] [0] [] (r_no l g h0 1 (.int 0) v1h0 v2h0 v3h0 v4h0 v5h0 v6h0 v7h0 v8h0 v9h0 v10h0 (.int 0) v12h0 v13h0 (.int 0) v15h0 v16h0 v17h0 v18h0 v19h0 v20h0 v21h0 v22h0 v23h0 v24h0 v25h0 v26h0 v27h0 v28h0 v29h0 v30h0 v31h0 v32h0 v33h0 v34h0 v35h0 v36h0 v37h0 v38h0 v39h0 v40h0 v41h0 v42h0) dX11_likeliest_14 mw296 mw297 mw298 mw285 mw299 rfl 11 rfl rfl 0 _ rfl (by unfold yOk; decide) rfl (Nat.le_of_ble_eq_true rfl) (Nat.le_of_ble_eq_true rfl) (Nat.le_of_ble_eq_true rfl) (Nat.le_of_ble_eq_true rfl) (Nat.le_of_ble_eq_true rfl) rfl rfl (by decide) rfl (by decide) (by decide) ?_
  rintro r w ⟨rfl, rfl⟩
  refine k_ws [] rfl ?_
  exact k_iret X hr dX11_likeliest_17 (Nat.le_of_ble_eq_true rfl) (Nat.le_of_ble_eq_true rfl) [] (by decide) rfl rfl ⟨rfl, rfl⟩

theorem dX11_missing_0 : decode cX11_missing 0 = .ok (.aload_n 0, 1) := by decide +kernel
theorem dX11_missing_1 : decode cX11_missing 1 = .ok (.invokevirtual 200, 3) := by decide +kernel
theorem dX11_missing_4 : decode cX11_missing 4 = .ok (.aload_n 0, 1) := by decide +kernel
theorem dX11_missing_5 : decode cX11_missing 5 = .ok (.iload_n 1, 1) := by decide +kernel
theorem dX11_missing_6 : decode cX11_missing 6 = .ok (.invokevirtual 327, 3) := by decide +kernel
theorem dX11_missing_9 : decode cX11_missing 9 = .ok (.ifCond .ne 9, 3) := by decide +kernel
theorem dX11_missing_12 : decode cX11_missing 12 = .ok (.aload_n 0, 1) := by decide +kernel
theorem dX11_missing_13 : decode cX11_missing 13 = .ok (.iconst 1, 1) := by decide +kernel
theorem dX11_missing_14 : decode cX11_missing 14 = .ok (.invokevirtual 203, 3) := by decide +kernel
theorem dX11_missing_17 : decode cX11_missing 17 = .ok (.ireturn, 1) := by decide +kernel
set_option maxHeartbeats 4000000 in
set_option maxRecDepth 100000 in
theorem r_missing (l : Launch) (g : Gx) (h0 : Nat) (p0 : Int32) (p1 : Int32) (v0h0 : Value) (v1h0 : Value) (v2h0 : Value) (v3h0 : Value) (v4h0 : Value) (v5h0 : Value) (v6h0 : Value) (v7h0 : Value) (v8h0 : Value) (v9h0 : Value) (v10h0 : Value) (v11h0 : Value) (v12h0 : Value) (v13h0 : Value) (v15h0 : Value) (v16h0 : Value) (v17h0 : Value) (v18h0 : Value) (v19h0 : Value) (v20h0 : Value) (v21h0 : Value) (v22h0 : Value) (v23h0 : Value) (v24h0 : Value) (v25h0 : Value) (v26h0 : Value) (v27h0 : Value) (v28h0 : Value) (v29h0 : Value) (v30h0 : Value) (v31h0 : Value) (v32h0 : Value) (v33h0 : Value) (v34h0 : Value) (v35h0 : Value) (v36h0 : Value) (v37h0 : Value) (v38h0 : Value) (v39h0 : Value) (v40h0 : Value) (v41h0 : Value) (v42h0 : Value) : cI l g yX11_missing cX11_missing 5 (some .int) 1 21 0 0 [.ref h0, .int p0, .int p1] [(h0, .inr (11, [v0h0, v1h0, v2h0, v3h0, v4h0, v5h0, v6h0, v7h0, v8h0, v9h0, v10h0, v11h0, v12h0, v13h0, .int 0, v15h0, v16h0, v17h0, v18h0, v19h0, v20h0, v21h0, v22h0, v23h0, v24h0, v25h0, v26h0, v27h0, v28h0, v29h0, v30h0, v31h0, v32h0, v33h0, v34h0, v35h0, v36h0, v37h0, v38h0, v39h0, v40h0, v41h0, v42h0]))] (fun r w => r = (-1) ∧ w = []) := by
  refine cI.of (by decide) (Nat.le_of_ble_eq_true rfl) ?_
  intro p e s m args below meth c A X hr hi
  refine k_lveq [(0, .ref h0), (1, .int p0), (2, .int p1)] rfl ?_
  refine k_aload_n X dX11_missing_0 0 rfl ?_
  refine k_callVV (n := 0) (As := []) (st := []) X [(h0, .inr (11, [v0h0, v1h0, v2h0, v3h0, v4h0, v5h0, v6h0, v7h0, v8h0, v9h0, v10h0, v11h0, v12h0, v13h0, .int 0, v15h0, v16h0, v17h0, v18h0, v19h0, v20h0, v21h0, v22h0, v23h0, v24h0, v25h0, v26h0, v27h0, v28h0, v29h0, v30h0, v31h0, v32h0, v33h0, v34h0, v35h0, v36h0, v37h0, v38h0, v39h0, v40h0, v41h0, v42h0]))] [] [0] [] (r_good l g h0 v0h0 v1h0 v2h0 v3h0 v4h0 v5h0 v6h0 v7h0 v8h0 v9h0 v10h0 v11h0 v12h0 v13h0 (.int 0) v15h0 v16h0 v17h0 v18h0 v19h0 v20h0 v21h0 v22h0 v23h0 v24h0 v25h0 v26h0 v27h0 v28h0 v29h0 v30h0 v31h0 v32h0 v33h0 v34h0 v35h0 v36h0 v37h0 v38h0 v39h0 v40h0 v41h0 v42h0) dX11_missing_1 mw288 mw289 mw290 mw285 mw291 rfl 11 rfl rfl 0 _ rfl (by unfold yOk; decide) rfl (Nat.le_of_ble_eq_true rfl) (Nat.le_of_ble_eq_true rfl) (Nat.le_of_ble_eq_true rfl) (Nat.le_of_ble_eq_true rfl) (Nat.le_of_ble_eq_true rfl) rfl rfl (by decide) rfl (by decide) (by decide) ?_
  rintro w rfl
  refine k_ws [(h0, .inr (11, [.int 0, v1h0, v2h0, v3h0, v4h0, v5h0, v6h0, v7h0, v8h0, v9h0, v10h0, .int 0, v12h0, v13h0, .int 0, v15h0, v16h0, v17h0, v18h0, v19h0, v20h0, v21h0, v22h0, v23h0, v24h0, v25h0, v26h0, v27h0, v28h0, v29h0, v30h0, v31h0, v32h0, v33h0, v34h0, v35h0, v36h0, v37h0, v38h0, v39h0, v40h0, v41h0, v42h0]))] rfl ?_
  refine k_aload_n X dX11_missing_4 0 rfl ?_
  refine k_iload_n X dX11_missing_5 1 rfl ?_
  refine k_callVI (n := 1) (As := [.int p0]) (st := []) X [(h0, .inr (11, [.int 0, v1h0, v2h0, v3h0, v4h0, v5h0, v6h0, v7h0, v8h0, v9h0, v10h0, .int 0, v12h0, v13h0, .int 0, v15h0, v16h0, v17h0, v18h0, v19h0, v20h0, v21h0, v22h0, v23h0, v24h0, v25h0, v26h0, v27h0, v28h0, v29h0, v30h0, v31h0, v32h0, v33h0, v34h0, v35h0, v36h0, v37h0, v38h0, v39h0, v40h0, v41h0, v42h0]))] [] [0] [] (r_isReel l g h0 p0 (.int 0) v1h0 v2h0 v3h0 v4h0 v5h0 v6h0 v7h0 v8h0 v9h0 v10h0 (.int 0) v12h0 v13h0 v15h0 v16h0 v17h0 v18h0 v19h0 v20h0 v21h0 v22h0 v23h0 v24h0 v25h0 v26h0 v27h0 v28h0 v29h0 v30h0 v31h0 v32h0 v33h0 v34h0 v35h0 v36h0 v37h0 v38h0 v39h0 v40h0 v41h0 v42h0) dX11_missing_6 mw292 mw293 mw294 mw285 mw295 rfl 11 rfl rfl 0 _ rfl (by unfold yOk; decide) rfl (Nat.le_of_ble_eq_true rfl) (Nat.le_of_ble_eq_true rfl) (Nat.le_of_ble_eq_true rfl) (Nat.le_of_ble_eq_true rfl) (Nat.le_of_ble_eq_true rfl) rfl rfl (by decide) rfl (by decide) (by decide) ?_
  rintro r w ⟨rfl, rfl⟩
  refine k_ws [(h0, .inr (11, [.int 0, v1h0, v2h0, v3h0, v4h0, v5h0, v6h0, v7h0, v8h0, v9h0, v10h0, .int 0, v12h0, v13h0, .int 0, v15h0, v16h0, v17h0, v18h0, v19h0, v20h0, v21h0, v22h0, v23h0, v24h0, v25h0, v26h0, v27h0, v28h0, v29h0, v30h0, v31h0, v32h0, v33h0, v34h0, v35h0, v36h0, v37h0, v38h0, v39h0, v40h0, v41h0, v42h0]))] rfl ?_
  refine k_if_ne 18 X dX11_missing_9 (by decide) (fun h_1 => absurd h_1 (by decide)) (fun _ => ?_)
  refine k_aload_n X dX11_missing_12 0 rfl ?_
  refine k_iconst (v := 1) X dX11_missing_13 (by decide) ?_
  refine k_callVI (n := 1) (As := [.int 1]) (st := []) X [(h0, .inr (11, [.int 0, v1h0, v2h0, v3h0, v4h0, v5h0, v6h0, v7h0, v8h0, v9h0, v10h0, .int 0, v12h0, v13h0, .int 0, v15h0, v16h0, v17h0, v18h0, v19h0, v20h0, v21h0, v22h0, v23h0, v24h0, v25h0, v26h0, v27h0, v28h0, v29h0, v30h0, v31h0, v32h0, v33h0, v34h0, v35h0, v36h0, v37h0, v38h0, v39h0, v40h0, v41h0, v42h0]))] [] [0] [] (r_no l g h0 1 (.int 0) v1h0 v2h0 v3h0 v4h0 v5h0 v6h0 v7h0 v8h0 v9h0 v10h0 (.int 0) v12h0 v13h0 (.int 0) v15h0 v16h0 v17h0 v18h0 v19h0 v20h0 v21h0 v22h0 v23h0 v24h0 v25h0 v26h0 v27h0 v28h0 v29h0 v30h0 v31h0 v32h0 v33h0 v34h0 v35h0 v36h0 v37h0 v38h0 v39h0 v40h0 v41h0 v42h0) dX11_missing_14 mw296 mw297 mw298 mw285 mw299 rfl 11 rfl rfl 0 _ rfl (by unfold yOk; decide) rfl (Nat.le_of_ble_eq_true rfl) (Nat.le_of_ble_eq_true rfl) (Nat.le_of_ble_eq_true rfl) (Nat.le_of_ble_eq_true rfl) (Nat.le_of_ble_eq_true rfl) rfl rfl (by decide) rfl (by decide) (by decide) ?_
  rintro r w ⟨rfl, rfl⟩
  refine k_ws [] rfl ?_
  exact k_iret X hr dX11_missing_17 (Nat.le_of_ble_eq_true rfl) (Nat.le_of_ble_eq_true rfl) [] (by decide) rfl rfl ⟨rfl, rfl⟩

theorem dX11_words_0 : decode cX11_words 0 = .ok (.aload_n 0, 1) := by decide +kernel
theorem dX11_words_1 : decode cX11_words 1 = .ok (.invokevirtual 200, 3) := by decide +kernel
theorem dX11_words_4 : decode cX11_words 4 = .ok (.aload_n 0, 1) := by decide +kernel
theorem dX11_words_5 : decode cX11_words 5 = .ok (.iload_n 1, 1) := by decide +kernel
theorem dX11_words_6 : decode cX11_words 6 = .ok (.invokevirtual 327, 3) := by decide +kernel
theorem dX11_words_9 : decode cX11_words 9 = .ok (.ifCond .ne 9, 3) := by decide +kernel
theorem dX11_words_12 : decode cX11_words 12 = .ok (.aload_n 0, 1) := by decide +kernel
theorem dX11_words_13 : decode cX11_words 13 = .ok (.iconst 1, 1) := by decide +kernel
theorem dX11_words_14 : decode cX11_words 14 = .ok (.invokevirtual 203, 3) := by decide +kernel
theorem dX11_words_17 : decode cX11_words 17 = .ok (.ireturn, 1) := by decide +kernel
set_option maxHeartbeats 4000000 in
set_option maxRecDepth 100000 in
theorem r_words (l : Launch) (g : Gx) (h0 : Nat) (p0 : Int32) (v0h0 : Value) (v1h0 : Value) (v2h0 : Value) (v3h0 : Value) (v4h0 : Value) (v5h0 : Value) (v6h0 : Value) (v7h0 : Value) (v8h0 : Value) (v9h0 : Value) (v10h0 : Value) (v11h0 : Value) (v12h0 : Value) (v13h0 : Value) (v15h0 : Value) (v16h0 : Value) (v17h0 : Value) (v18h0 : Value) (v19h0 : Value) (v20h0 : Value) (v21h0 : Value) (v22h0 : Value) (v23h0 : Value) (v24h0 : Value) (v25h0 : Value) (v26h0 : Value) (v27h0 : Value) (v28h0 : Value) (v29h0 : Value) (v30h0 : Value) (v31h0 : Value) (v32h0 : Value) (v33h0 : Value) (v34h0 : Value) (v35h0 : Value) (v36h0 : Value) (v37h0 : Value) (v38h0 : Value) (v39h0 : Value) (v40h0 : Value) (v41h0 : Value) (v42h0 : Value) : cI l g yX11_words cX11_words 4 (some .int) 1 21 0 0 [.ref h0, .int p0] [(h0, .inr (11, [v0h0, v1h0, v2h0, v3h0, v4h0, v5h0, v6h0, v7h0, v8h0, v9h0, v10h0, v11h0, v12h0, v13h0, .int 0, v15h0, v16h0, v17h0, v18h0, v19h0, v20h0, v21h0, v22h0, v23h0, v24h0, v25h0, v26h0, v27h0, v28h0, v29h0, v30h0, v31h0, v32h0, v33h0, v34h0, v35h0, v36h0, v37h0, v38h0, v39h0, v40h0, v41h0, v42h0]))] (fun r w => r = (-1) ∧ w = []) := by
  refine cI.of (by decide) (Nat.le_of_ble_eq_true rfl) ?_
  intro p e s m args below meth c A X hr hi
  refine k_lveq [(0, .ref h0), (1, .int p0)] rfl ?_
  refine k_aload_n X dX11_words_0 0 rfl ?_
  refine k_callVV (n := 0) (As := []) (st := []) X [(h0, .inr (11, [v0h0, v1h0, v2h0, v3h0, v4h0, v5h0, v6h0, v7h0, v8h0, v9h0, v10h0, v11h0, v12h0, v13h0, .int 0, v15h0, v16h0, v17h0, v18h0, v19h0, v20h0, v21h0, v22h0, v23h0, v24h0, v25h0, v26h0, v27h0, v28h0, v29h0, v30h0, v31h0, v32h0, v33h0, v34h0, v35h0, v36h0, v37h0, v38h0, v39h0, v40h0, v41h0, v42h0]))] [] [0] [] (r_good l g h0 v0h0 v1h0 v2h0 v3h0 v4h0 v5h0 v6h0 v7h0 v8h0 v9h0 v10h0 v11h0 v12h0 v13h0 (.int 0) v15h0 v16h0 v17h0 v18h0 v19h0 v20h0 v21h0 v22h0 v23h0 v24h0 v25h0 v26h0 v27h0 v28h0 v29h0 v30h0 v31h0 v32h0 v33h0 v34h0 v35h0 v36h0 v37h0 v38h0 v39h0 v40h0 v41h0 v42h0) dX11_words_1 mw288 mw289 mw290 mw285 mw291 rfl 11 rfl rfl 0 _ rfl (by unfold yOk; decide) rfl (Nat.le_of_ble_eq_true rfl) (Nat.le_of_ble_eq_true rfl) (Nat.le_of_ble_eq_true rfl) (Nat.le_of_ble_eq_true rfl) (Nat.le_of_ble_eq_true rfl) rfl rfl (by decide) rfl (by decide) (by decide) ?_
  rintro w rfl
  refine k_ws [(h0, .inr (11, [.int 0, v1h0, v2h0, v3h0, v4h0, v5h0, v6h0, v7h0, v8h0, v9h0, v10h0, .int 0, v12h0, v13h0, .int 0, v15h0, v16h0, v17h0, v18h0, v19h0, v20h0, v21h0, v22h0, v23h0, v24h0, v25h0, v26h0, v27h0, v28h0, v29h0, v30h0, v31h0, v32h0, v33h0, v34h0, v35h0, v36h0, v37h0, v38h0, v39h0, v40h0, v41h0, v42h0]))] rfl ?_
  refine k_aload_n X dX11_words_4 0 rfl ?_
  refine k_iload_n X dX11_words_5 1 rfl ?_
  refine k_callVI (n := 1) (As := [.int p0]) (st := []) X [(h0, .inr (11, [.int 0, v1h0, v2h0, v3h0, v4h0, v5h0, v6h0, v7h0, v8h0, v9h0, v10h0, .int 0, v12h0, v13h0, .int 0, v15h0, v16h0, v17h0, v18h0, v19h0, v20h0, v21h0, v22h0, v23h0, v24h0, v25h0, v26h0, v27h0, v28h0, v29h0, v30h0, v31h0, v32h0, v33h0, v34h0, v35h0, v36h0, v37h0, v38h0, v39h0, v40h0, v41h0, v42h0]))] [] [0] [] (r_isReel l g h0 p0 (.int 0) v1h0 v2h0 v3h0 v4h0 v5h0 v6h0 v7h0 v8h0 v9h0 v10h0 (.int 0) v12h0 v13h0 v15h0 v16h0 v17h0 v18h0 v19h0 v20h0 v21h0 v22h0 v23h0 v24h0 v25h0 v26h0 v27h0 v28h0 v29h0 v30h0 v31h0 v32h0 v33h0 v34h0 v35h0 v36h0 v37h0 v38h0 v39h0 v40h0 v41h0 v42h0) dX11_words_6 mw292 mw293 mw294 mw285 mw295 rfl 11 rfl rfl 0 _ rfl (by unfold yOk; decide) rfl (Nat.le_of_ble_eq_true rfl) (Nat.le_of_ble_eq_true rfl) (Nat.le_of_ble_eq_true rfl) (Nat.le_of_ble_eq_true rfl) (Nat.le_of_ble_eq_true rfl) rfl rfl (by decide) rfl (by decide) (by decide) ?_
  rintro r w ⟨rfl, rfl⟩
  refine k_ws [(h0, .inr (11, [.int 0, v1h0, v2h0, v3h0, v4h0, v5h0, v6h0, v7h0, v8h0, v9h0, v10h0, .int 0, v12h0, v13h0, .int 0, v15h0, v16h0, v17h0, v18h0, v19h0, v20h0, v21h0, v22h0, v23h0, v24h0, v25h0, v26h0, v27h0, v28h0, v29h0, v30h0, v31h0, v32h0, v33h0, v34h0, v35h0, v36h0, v37h0, v38h0, v39h0, v40h0, v41h0, v42h0]))] rfl ?_
  refine k_if_ne 18 X dX11_words_9 (by decide) (fun h_1 => absurd h_1 (by decide)) (fun _ => ?_)
  refine k_aload_n X dX11_words_12 0 rfl ?_
  refine k_iconst (v := 1) X dX11_words_13 (by decide) ?_
  refine k_callVI (n := 1) (As := [.int 1]) (st := []) X [(h0, .inr (11, [.int 0, v1h0, v2h0, v3h0, v4h0, v5h0, v6h0, v7h0, v8h0, v9h0, v10h0, .int 0, v12h0, v13h0, .int 0, v15h0, v16h0, v17h0, v18h0, v19h0, v20h0, v21h0, v22h0, v23h0, v24h0, v25h0, v26h0, v27h0, v28h0, v29h0, v30h0, v31h0, v32h0, v33h0, v34h0, v35h0, v36h0, v37h0, v38h0, v39h0, v40h0, v41h0, v42h0]))] [] [0] [] (r_no l g h0 1 (.int 0) v1h0 v2h0 v3h0 v4h0 v5h0 v6h0 v7h0 v8h0 v9h0 v10h0 (.int 0) v12h0 v13h0 (.int 0) v15h0 v16h0 v17h0 v18h0 v19h0 v20h0 v21h0 v22h0 v23h0 v24h0 v25h0 v26h0 v27h0 v28h0 v29h0 v30h0 v31h0 v32h0 v33h0 v34h0 v35h0 v36h0 v37h0 v38h0 v39h0 v40h0 v41h0 v42h0) dX11_words_14 mw296 mw297 mw298 mw285 mw299 rfl 11 rfl rfl 0 _ rfl (by unfold yOk; decide) rfl (Nat.le_of_ble_eq_true rfl) (Nat.le_of_ble_eq_true rfl) (Nat.le_of_ble_eq_true rfl) (Nat.le_of_ble_eq_true rfl) (Nat.le_of_ble_eq_true rfl) rfl rfl (by decide) rfl (by decide) (by decide) ?_
  rintro r w ⟨rfl, rfl⟩
  refine k_ws [] rfl ?_
  exact k_iret X hr dX11_words_17 (Nat.le_of_ble_eq_true rfl) (Nat.le_of_ble_eq_true rfl) [] (by decide) rfl rfl ⟨rfl, rfl⟩

theorem dX11_truly_0 : decode cX11_truly 0 = .ok (.aload_n 0, 1) := by decide +kernel
theorem dX11_truly_1 : decode cX11_truly 1 = .ok (.invokevirtual 200, 3) := by decide +kernel
theorem dX11_truly_4 : decode cX11_truly 4 = .ok (.aload_n 0, 1) := by decide +kernel
theorem dX11_truly_5 : decode cX11_truly 5 = .ok (.iload_n 1, 1) := by decide +kernel
theorem dX11_truly_6 : decode cX11_truly 6 = .ok (.invokevirtual 327, 3) := by decide +kernel
theorem dX11_truly_9 : decode cX11_truly 9 = .ok (.ifCond .eq 12, 3) := by decide +kernel
theorem dX11_truly_21 : decode cX11_truly 21 = .ok (.aload_n 0, 1) := by decide +kernel
theorem dX11_truly_22 : decode cX11_truly 22 = .ok (.iconst 1, 1) := by decide +kernel
theorem dX11_truly_23 : decode cX11_truly 23 = .ok (.invokevirtual 203, 3) := by decide +kernel
theorem dX11_truly_26 : decode cX11_truly 26 = .ok (.i2l, 1) := by decide +kernel
theorem dX11_truly_27 : decode cX11_truly 27 = .ok (.lreturn, 1) := by decide +kernel
set_option maxHeartbeats 4000000 in
set_option maxRecDepth 100000 in
theorem r_truly (l : Launch) (g : Gx) (h0 : Nat) (p0 : Int32) (p1 : Int32) (p2 : Int32) (v0h0 : Value) (v1h0 : Value) (v2h0 : Value) (v3h0 : Value) (v4h0 : Value) (v5h0 : Value) (v6h0 : Value) (v7h0 : Value) (v8h0 : Value) (v9h0 : Value) (v10h0 : Value) (v11h0 : Value) (v12h0 : Value) (v13h0 : Value) (v15h0 : Value) (v16h0 : Value) (v17h0 : Value) (v18h0 : Value) (v19h0 : Value) (v20h0 : Value) (v21h0 : Value) (v22h0 : Value) (v23h0 : Value) (v24h0 : Value) (v25h0 : Value) (v26h0 : Value) (v27h0 : Value) (v28h0 : Value) (v29h0 : Value) (v30h0 : Value) (v31h0 : Value) (v32h0 : Value) (v33h0 : Value) (v34h0 : Value) (v35h0 : Value) (v36h0 : Value) (v37h0 : Value) (v38h0 : Value) (v39h0 : Value) (v40h0 : Value) (v41h0 : Value) (v42h0 : Value) : cL l g yX11_truly cX11_truly 4 (some .long) 1 21 0 0 [.ref h0, .int p0, .int p1, .int p2] [(h0, .inr (11, [v0h0, v1h0, v2h0, v3h0, v4h0, v5h0, v6h0, v7h0, v8h0, v9h0, v10h0, v11h0, v12h0, v13h0, .int 0, v15h0, v16h0, v17h0, v18h0, v19h0, v20h0, v21h0, v22h0, v23h0, v24h0, v25h0, v26h0, v27h0, v28h0, v29h0, v30h0, v31h0, v32h0, v33h0, v34h0, v35h0, v36h0, v37h0, v38h0, v39h0, v40h0, v41h0, v42h0]))] (fun r w => r = (-1) ∧ w = []) := by
  refine cL.of (by decide) (Nat.le_of_ble_eq_true rfl) ?_
  intro p e s m args below meth c A X hr hi
  refine k_lveq [(0, .ref h0), (1, .int p0), (2, .int p1), (3, .int p2)] rfl ?_
  refine k_aload_n X dX11_truly_0 0 rfl ?_
  refine k_callVV (n := 0) (As := []) (st := []) X [(h0, .inr (11, [v0h0, v1h0, v2h0, v3h0, v4h0, v5h0, v6h0, v7h0, v8h0, v9h0, v10h0, v11h0, v12h0, v13h0, .int 0, v15h0, v16h0, v17h0, v18h0, v19h0, v20h0, v21h0, v22h0, v23h0, v24h0, v25h0, v26h0, v27h0, v28h0, v29h0, v30h0, v31h0, v32h0, v33h0, v34h0, v35h0, v36h0, v37h0, v38h0, v39h0, v40h0, v41h0, v42h0]))] [] [0] [] (r_good l g h0 v0h0 v1h0 v2h0 v3h0 v4h0 v5h0 v6h0 v7h0 v8h0 v9h0 v10h0 v11h0 v12h0 v13h0 (.int 0) v15h0 v16h0 v17h0 v18h0 v19h0 v20h0 v21h0 v22h0 v23h0 v24h0 v25h0 v26h0 v27h0 v28h0 v29h0 v30h0 v31h0 v32h0 v33h0 v34h0 v35h0 v36h0 v37h0 v38h0 v39h0 v40h0 v41h0 v42h0) dX11_truly_1 mw288 mw289 mw290 mw285 mw291 rfl 11 rfl rfl 0 _ rfl (by unfold yOk; decide) rfl (Nat.le_of_ble_eq_true rfl) (Nat.le_of_ble_eq_true rfl) (Nat.le_of_ble_eq_true rfl) (Nat.le_of_ble_eq_true rfl) (Nat.le_of_ble_eq_true rfl) rfl rfl (by decide) rfl (by decide) (by decide) ?_
  rintro w rfl
  refine k_ws [(h0, .inr (11, [.int 0, v1h0, v2h0, v3h0, v4h0, v5h0, v6h0, v7h0, v8h0, v9h0, v10h0, .int 0, v12h0, v13h0, .int 0, v15h0, v16h0, v17h0, v18h0, v19h0, v20h0, v21h0, v22h0, v23h0, v24h0, v25h0, v26h0, v27h0, v28h0, v29h0, v30h0, v31h0, v32h0, v33h0, v34h0, v35h0, v36h0, v37h0, v38h0, v39h0, v40h0, v41h0, v42h0]))] rfl ?_
  refine k_aload_n X dX11_truly_4 0 rfl ?_
  refine k_iload_n X dX11_truly_5 1 rfl ?_
  refine k_callVI (n := 1) (As := [.int p0]) (st := []) X [(h0, .inr (11, [.int 0, v1h0, v2h0, v3h0, v4h0, v5h0, v6h0, v7h0, v8h0, v9h0, v10h0, .int 0, v12h0, v13h0, .int 0, v15h0, v16h0, v17h0, v18h0, v19h0, v20h0, v21h0, v22h0, v23h0, v24h0, v25h0, v26h0, v27h0, v28h0, v29h0, v30h0, v31h0, v32h0, v33h0, v34h0, v35h0, v36h0, v37h0, v38h0, v39h0, v40h0, v41h0, v42h0]))] [] [0] [] (r_isReel l g h0 p0 (.int 0) v1h0 v2h0 v3h0 v4h0 v5h0 v6h0 v7h0 v8h0 v9h0 v10h0 (.int 0) v12h0 v13h0 v15h0 v16h0 v17h0 v18h0 v19h0 v20h0 v21h0 v22h0 v23h0 v24h0 v25h0 v26h0 v27h0 v28h0 v29h0 v30h0 v31h0 v32h0 v33h0 v34h0 v35h0 v36h0 v37h0 v38h0 v39h0 v40h0 v41h0 v42h0) dX11_truly_6 mw292 mw293 mw294 mw285 mw295 rfl 11 rfl rfl 0 _ rfl (by unfold yOk; decide) rfl (Nat.le_of_ble_eq_true rfl) (Nat.le_of_ble_eq_true rfl) (Nat.le_of_ble_eq_true rfl) (Nat.le_of_ble_eq_true rfl) (Nat.le_of_ble_eq_true rfl) rfl rfl (by decide) rfl (by decide) (by decide) ?_
  rintro r w ⟨rfl, rfl⟩
  refine k_ws [(h0, .inr (11, [.int 0, v1h0, v2h0, v3h0, v4h0, v5h0, v6h0, v7h0, v8h0, v9h0, v10h0, .int 0, v12h0, v13h0, .int 0, v15h0, v16h0, v17h0, v18h0, v19h0, v20h0, v21h0, v22h0, v23h0, v24h0, v25h0, v26h0, v27h0, v28h0, v29h0, v30h0, v31h0, v32h0, v33h0, v34h0, v35h0, v36h0, v37h0, v38h0, v39h0, v40h0, v41h0, v42h0]))] rfl ?_
  refine k_if_eq 21 X dX11_truly_9 (by decide) (fun _ => ?_) (fun h_1 => absurd (by decide) h_1)
  refine k_aload_n X dX11_truly_21 0 rfl ?_
  refine k_iconst (v := 1) X dX11_truly_22 (by decide) ?_
  refine k_callVI (n := 1) (As := [.int 1]) (st := []) X [(h0, .inr (11, [.int 0, v1h0, v2h0, v3h0, v4h0, v5h0, v6h0, v7h0, v8h0, v9h0, v10h0, .int 0, v12h0, v13h0, .int 0, v15h0, v16h0, v17h0, v18h0, v19h0, v20h0, v21h0, v22h0, v23h0, v24h0, v25h0, v26h0, v27h0, v28h0, v29h0, v30h0, v31h0, v32h0, v33h0, v34h0, v35h0, v36h0, v37h0, v38h0, v39h0, v40h0, v41h0, v42h0]))] [] [0] [] (r_no l g h0 1 (.int 0) v1h0 v2h0 v3h0 v4h0 v5h0 v6h0 v7h0 v8h0 v9h0 v10h0 (.int 0) v12h0 v13h0 (.int 0) v15h0 v16h0 v17h0 v18h0 v19h0 v20h0 v21h0 v22h0 v23h0 v24h0 v25h0 v26h0 v27h0 v28h0 v29h0 v30h0 v31h0 v32h0 v33h0 v34h0 v35h0 v36h0 v37h0 v38h0 v39h0 v40h0 v41h0 v42h0) dX11_truly_23 mw296 mw297 mw298 mw285 mw299 rfl 11 rfl rfl 0 _ rfl (by unfold yOk; decide) rfl (Nat.le_of_ble_eq_true rfl) (Nat.le_of_ble_eq_true rfl) (Nat.le_of_ble_eq_true rfl) (Nat.le_of_ble_eq_true rfl) (Nat.le_of_ble_eq_true rfl) rfl rfl (by decide) rfl (by decide) (by decide) ?_
  rintro r w ⟨rfl, rfl⟩
  refine k_ws [] rfl ?_
  refine k_i2l X dX11_truly_26 ?_
  refine k_toL (-1) (by decide) ?_
  exact k_lret X hr dX11_truly_27 (Nat.le_of_ble_eq_true rfl) (Nat.le_of_ble_eq_true rfl) [] (by decide) rfl rfl ⟨rfl, rfl⟩

theorem dX11_wears_0 : decode cX11_wears 0 = .ok (.aload_n 0, 1) := by decide +kernel
theorem dX11_wears_1 : decode cX11_wears 1 = .ok (.invokevirtual 200, 3) := by decide +kernel
theorem dX11_wears_4 : decode cX11_wears 4 = .ok (.aload_n 0, 1) := by decide +kernel
theorem dX11_wears_5 : decode cX11_wears 5 = .ok (.iload_n 1, 1) := by decide +kernel
theorem dX11_wears_6 : decode cX11_wears 6 = .ok (.invokevirtual 327, 3) := by decide +kernel
theorem dX11_wears_9 : decode cX11_wears 9 = .ok (.ifCond .ne 10, 3) := by decide +kernel
theorem dX11_wears_12 : decode cX11_wears 12 = .ok (.aload_n 0, 1) := by decide +kernel
theorem dX11_wears_13 : decode cX11_wears 13 = .ok (.iconst 1, 1) := by decide +kernel
theorem dX11_wears_14 : decode cX11_wears 14 = .ok (.invokevirtual 203, 3) := by decide +kernel
theorem dX11_wears_17 : decode cX11_wears 17 = .ok (.i2l, 1) := by decide +kernel
theorem dX11_wears_18 : decode cX11_wears 18 = .ok (.lreturn, 1) := by decide +kernel
set_option maxHeartbeats 4000000 in
set_option maxRecDepth 100000 in
theorem r_wears (l : Launch) (g : Gx) (h0 : Nat) (p0 : Int32) (p1 : Int32) (p2 : Int32) (v0h0 : Value) (v1h0 : Value) (v2h0 : Value) (v3h0 : Value) (v4h0 : Value) (v5h0 : Value) (v6h0 : Value) (v7h0 : Value) (v8h0 : Value) (v9h0 : Value) (v10h0 : Value) (v11h0 : Value) (v12h0 : Value) (v13h0 : Value) (v15h0 : Value) (v16h0 : Value) (v17h0 : Value) (v18h0 : Value) (v19h0 : Value) (v20h0 : Value) (v21h0 : Value) (v22h0 : Value) (v23h0 : Value) (v24h0 : Value) (v25h0 : Value) (v26h0 : Value) (v27h0 : Value) (v28h0 : Value) (v29h0 : Value) (v30h0 : Value) (v31h0 : Value) (v32h0 : Value) (v33h0 : Value) (v34h0 : Value) (v35h0 : Value) (v36h0 : Value) (v37h0 : Value) (v38h0 : Value) (v39h0 : Value) (v40h0 : Value) (v41h0 : Value) (v42h0 : Value) : cL l g yX11_wears cX11_wears 7 (some .long) 1 21 0 0 [.ref h0, .int p0, .int p1, .int p2] [(h0, .inr (11, [v0h0, v1h0, v2h0, v3h0, v4h0, v5h0, v6h0, v7h0, v8h0, v9h0, v10h0, v11h0, v12h0, v13h0, .int 0, v15h0, v16h0, v17h0, v18h0, v19h0, v20h0, v21h0, v22h0, v23h0, v24h0, v25h0, v26h0, v27h0, v28h0, v29h0, v30h0, v31h0, v32h0, v33h0, v34h0, v35h0, v36h0, v37h0, v38h0, v39h0, v40h0, v41h0, v42h0]))] (fun r w => r = (-1) ∧ w = []) := by
  refine cL.of (by decide) (Nat.le_of_ble_eq_true rfl) ?_
  intro p e s m args below meth c A X hr hi
  refine k_lveq [(0, .ref h0), (1, .int p0), (2, .int p1), (3, .int p2)] rfl ?_
  refine k_aload_n X dX11_wears_0 0 rfl ?_
  refine k_callVV (n := 0) (As := []) (st := []) X [(h0, .inr (11, [v0h0, v1h0, v2h0, v3h0, v4h0, v5h0, v6h0, v7h0, v8h0, v9h0, v10h0, v11h0, v12h0, v13h0, .int 0, v15h0, v16h0, v17h0, v18h0, v19h0, v20h0, v21h0, v22h0, v23h0, v24h0, v25h0, v26h0, v27h0, v28h0, v29h0, v30h0, v31h0, v32h0, v33h0, v34h0, v35h0, v36h0, v37h0, v38h0, v39h0, v40h0, v41h0, v42h0]))] [] [0] [] (r_good l g h0 v0h0 v1h0 v2h0 v3h0 v4h0 v5h0 v6h0 v7h0 v8h0 v9h0 v10h0 v11h0 v12h0 v13h0 (.int 0) v15h0 v16h0 v17h0 v18h0 v19h0 v20h0 v21h0 v22h0 v23h0 v24h0 v25h0 v26h0 v27h0 v28h0 v29h0 v30h0 v31h0 v32h0 v33h0 v34h0 v35h0 v36h0 v37h0 v38h0 v39h0 v40h0 v41h0 v42h0) dX11_wears_1 mw288 mw289 mw290 mw285 mw291 rfl 11 rfl rfl 0 _ rfl (by unfold yOk; decide) rfl (Nat.le_of_ble_eq_true rfl) (Nat.le_of_ble_eq_true rfl) (Nat.le_of_ble_eq_true rfl) (Nat.le_of_ble_eq_true rfl) (Nat.le_of_ble_eq_true rfl) rfl rfl (by decide) rfl (by decide) (by decide) ?_
  rintro w rfl
  refine k_ws [(h0, .inr (11, [.int 0, v1h0, v2h0, v3h0, v4h0, v5h0, v6h0, v7h0, v8h0, v9h0, v10h0, .int 0, v12h0, v13h0, .int 0, v15h0, v16h0, v17h0, v18h0, v19h0, v20h0, v21h0, v22h0, v23h0, v24h0, v25h0, v26h0, v27h0, v28h0, v29h0, v30h0, v31h0, v32h0, v33h0, v34h0, v35h0, v36h0, v37h0, v38h0, v39h0, v40h0, v41h0, v42h0]))] rfl ?_
  refine k_aload_n X dX11_wears_4 0 rfl ?_
  refine k_iload_n X dX11_wears_5 1 rfl ?_
  refine k_callVI (n := 1) (As := [.int p0]) (st := []) X [(h0, .inr (11, [.int 0, v1h0, v2h0, v3h0, v4h0, v5h0, v6h0, v7h0, v8h0, v9h0, v10h0, .int 0, v12h0, v13h0, .int 0, v15h0, v16h0, v17h0, v18h0, v19h0, v20h0, v21h0, v22h0, v23h0, v24h0, v25h0, v26h0, v27h0, v28h0, v29h0, v30h0, v31h0, v32h0, v33h0, v34h0, v35h0, v36h0, v37h0, v38h0, v39h0, v40h0, v41h0, v42h0]))] [] [0] [] (r_isReel l g h0 p0 (.int 0) v1h0 v2h0 v3h0 v4h0 v5h0 v6h0 v7h0 v8h0 v9h0 v10h0 (.int 0) v12h0 v13h0 v15h0 v16h0 v17h0 v18h0 v19h0 v20h0 v21h0 v22h0 v23h0 v24h0 v25h0 v26h0 v27h0 v28h0 v29h0 v30h0 v31h0 v32h0 v33h0 v34h0 v35h0 v36h0 v37h0 v38h0 v39h0 v40h0 v41h0 v42h0) dX11_wears_6 mw292 mw293 mw294 mw285 mw295 rfl 11 rfl rfl 0 _ rfl (by unfold yOk; decide) rfl (Nat.le_of_ble_eq_true rfl) (Nat.le_of_ble_eq_true rfl) (Nat.le_of_ble_eq_true rfl) (Nat.le_of_ble_eq_true rfl) (Nat.le_of_ble_eq_true rfl) rfl rfl (by decide) rfl (by decide) (by decide) ?_
  rintro r w ⟨rfl, rfl⟩
  refine k_ws [(h0, .inr (11, [.int 0, v1h0, v2h0, v3h0, v4h0, v5h0, v6h0, v7h0, v8h0, v9h0, v10h0, .int 0, v12h0, v13h0, .int 0, v15h0, v16h0, v17h0, v18h0, v19h0, v20h0, v21h0, v22h0, v23h0, v24h0, v25h0, v26h0, v27h0, v28h0, v29h0, v30h0, v31h0, v32h0, v33h0, v34h0, v35h0, v36h0, v37h0, v38h0, v39h0, v40h0, v41h0, v42h0]))] rfl ?_
  refine k_if_ne 19 X dX11_wears_9 (by decide) (fun h_1 => absurd h_1 (by decide)) (fun _ => ?_)
  refine k_aload_n X dX11_wears_12 0 rfl ?_
  refine k_iconst (v := 1) X dX11_wears_13 (by decide) ?_
  refine k_callVI (n := 1) (As := [.int 1]) (st := []) X [(h0, .inr (11, [.int 0, v1h0, v2h0, v3h0, v4h0, v5h0, v6h0, v7h0, v8h0, v9h0, v10h0, .int 0, v12h0, v13h0, .int 0, v15h0, v16h0, v17h0, v18h0, v19h0, v20h0, v21h0, v22h0, v23h0, v24h0, v25h0, v26h0, v27h0, v28h0, v29h0, v30h0, v31h0, v32h0, v33h0, v34h0, v35h0, v36h0, v37h0, v38h0, v39h0, v40h0, v41h0, v42h0]))] [] [0] [] (r_no l g h0 1 (.int 0) v1h0 v2h0 v3h0 v4h0 v5h0 v6h0 v7h0 v8h0 v9h0 v10h0 (.int 0) v12h0 v13h0 (.int 0) v15h0 v16h0 v17h0 v18h0 v19h0 v20h0 v21h0 v22h0 v23h0 v24h0 v25h0 v26h0 v27h0 v28h0 v29h0 v30h0 v31h0 v32h0 v33h0 v34h0 v35h0 v36h0 v37h0 v38h0 v39h0 v40h0 v41h0 v42h0) dX11_wears_14 mw296 mw297 mw298 mw285 mw299 rfl 11 rfl rfl 0 _ rfl (by unfold yOk; decide) rfl (Nat.le_of_ble_eq_true rfl) (Nat.le_of_ble_eq_true rfl) (Nat.le_of_ble_eq_true rfl) (Nat.le_of_ble_eq_true rfl) (Nat.le_of_ble_eq_true rfl) rfl rfl (by decide) rfl (by decide) (by decide) ?_
  rintro r w ⟨rfl, rfl⟩
  refine k_ws [] rfl ?_
  refine k_i2l X dX11_wears_17 ?_
  refine k_toL (-1) (by decide) ?_
  exact k_lret X hr dX11_wears_18 (Nat.le_of_ble_eq_true rfl) (Nat.le_of_ble_eq_true rfl) [] (by decide) rfl rfl ⟨rfl, rfl⟩

theorem dX11_shows_0 : decode cX11_shows 0 = .ok (.aload_n 0, 1) := by decide +kernel
theorem dX11_shows_1 : decode cX11_shows 1 = .ok (.invokevirtual 200, 3) := by decide +kernel
theorem dX11_shows_4 : decode cX11_shows 4 = .ok (.aload_n 0, 1) := by decide +kernel
theorem dX11_shows_5 : decode cX11_shows 5 = .ok (.iload_n 1, 1) := by decide +kernel
theorem dX11_shows_6 : decode cX11_shows 6 = .ok (.invokevirtual 345, 3) := by decide +kernel
theorem dX11_shows_9 : decode cX11_shows 9 = .ok (.ifCond .eq 11, 3) := by decide +kernel
theorem dX11_shows_20 : decode cX11_shows 20 = .ok (.aload_n 0, 1) := by decide +kernel
theorem dX11_shows_21 : decode cX11_shows 21 = .ok (.iconst 1, 1) := by decide +kernel
theorem dX11_shows_22 : decode cX11_shows 22 = .ok (.invokevirtual 203, 3) := by decide +kernel
theorem dX11_shows_25 : decode cX11_shows 25 = .ok (.ireturn, 1) := by decide +kernel
set_option maxHeartbeats 4000000 in
set_option maxRecDepth 100000 in
theorem r_shows (l : Launch) (g : Gx) (h0 : Nat) (p0 : Int32) (v0h0 : Value) (v1h0 : Value) (v2h0 : Value) (v3h0 : Value) (v4h0 : Value) (v5h0 : Value) (v6h0 : Value) (v7h0 : Value) (v8h0 : Value) (v9h0 : Value) (v10h0 : Value) (v11h0 : Value) (v12h0 : Value) (v13h0 : Value) (v15h0 : Value) (v16h0 : Value) (v17h0 : Value) (v18h0 : Value) (v19h0 : Value) (v20h0 : Value) (v21h0 : Value) (v22h0 : Value) (v23h0 : Value) (v24h0 : Value) (v25h0 : Value) (v26h0 : Value) (v27h0 : Value) (v28h0 : Value) (v29h0 : Value) (v30h0 : Value) (v31h0 : Value) (v32h0 : Value) (v33h0 : Value) (v34h0 : Value) (v35h0 : Value) (v36h0 : Value) (v37h0 : Value) (v38h0 : Value) (v39h0 : Value) (v40h0 : Value) (v41h0 : Value) (v42h0 : Value) : cI l g yX11_shows cX11_shows 2 (some .int) 1 21 0 0 [.ref h0, .int p0] [(h0, .inr (11, [v0h0, v1h0, v2h0, v3h0, v4h0, v5h0, v6h0, v7h0, v8h0, v9h0, v10h0, v11h0, v12h0, v13h0, .int 0, v15h0, v16h0, v17h0, v18h0, v19h0, v20h0, v21h0, v22h0, v23h0, v24h0, v25h0, v26h0, v27h0, v28h0, v29h0, v30h0, v31h0, v32h0, v33h0, v34h0, v35h0, v36h0, v37h0, v38h0, v39h0, v40h0, v41h0, v42h0]))] (fun r w => r = (-1) ∧ w = []) := by
  refine cI.of (by decide) (Nat.le_of_ble_eq_true rfl) ?_
  intro p e s m args below meth c A X hr hi
  refine k_lveq [(0, .ref h0), (1, .int p0)] rfl ?_
  refine k_aload_n X dX11_shows_0 0 rfl ?_
  refine k_callVV (n := 0) (As := []) (st := []) X [(h0, .inr (11, [v0h0, v1h0, v2h0, v3h0, v4h0, v5h0, v6h0, v7h0, v8h0, v9h0, v10h0, v11h0, v12h0, v13h0, .int 0, v15h0, v16h0, v17h0, v18h0, v19h0, v20h0, v21h0, v22h0, v23h0, v24h0, v25h0, v26h0, v27h0, v28h0, v29h0, v30h0, v31h0, v32h0, v33h0, v34h0, v35h0, v36h0, v37h0, v38h0, v39h0, v40h0, v41h0, v42h0]))] [] [0] [] (r_good l g h0 v0h0 v1h0 v2h0 v3h0 v4h0 v5h0 v6h0 v7h0 v8h0 v9h0 v10h0 v11h0 v12h0 v13h0 (.int 0) v15h0 v16h0 v17h0 v18h0 v19h0 v20h0 v21h0 v22h0 v23h0 v24h0 v25h0 v26h0 v27h0 v28h0 v29h0 v30h0 v31h0 v32h0 v33h0 v34h0 v35h0 v36h0 v37h0 v38h0 v39h0 v40h0 v41h0 v42h0) dX11_shows_1 mw288 mw289 mw290 mw285 mw291 rfl 11 rfl rfl 0 _ rfl (by unfold yOk; decide) rfl (Nat.le_of_ble_eq_true rfl) (Nat.le_of_ble_eq_true rfl) (Nat.le_of_ble_eq_true rfl) (Nat.le_of_ble_eq_true rfl) (Nat.le_of_ble_eq_true rfl) rfl rfl (by decide) rfl (by decide) (by decide) ?_
  rintro w rfl
  refine k_ws [(h0, .inr (11, [.int 0, v1h0, v2h0, v3h0, v4h0, v5h0, v6h0, v7h0, v8h0, v9h0, v10h0, .int 0, v12h0, v13h0, .int 0, v15h0, v16h0, v17h0, v18h0, v19h0, v20h0, v21h0, v22h0, v23h0, v24h0, v25h0, v26h0, v27h0, v28h0, v29h0, v30h0, v31h0, v32h0, v33h0, v34h0, v35h0, v36h0, v37h0, v38h0, v39h0, v40h0, v41h0, v42h0]))] rfl ?_
  refine k_aload_n X dX11_shows_4 0 rfl ?_
  refine k_iload_n X dX11_shows_5 1 rfl ?_
  refine k_callVI (n := 1) (As := [.int p0]) (st := []) X [(h0, .inr (11, [.int 0, v1h0, v2h0, v3h0, v4h0, v5h0, v6h0, v7h0, v8h0, v9h0, v10h0, .int 0, v12h0, v13h0, .int 0, v15h0, v16h0, v17h0, v18h0, v19h0, v20h0, v21h0, v22h0, v23h0, v24h0, v25h0, v26h0, v27h0, v28h0, v29h0, v30h0, v31h0, v32h0, v33h0, v34h0, v35h0, v36h0, v37h0, v38h0, v39h0, v40h0, v41h0, v42h0]))] [] [0] [] (r_isPlace l g h0 p0 (.int 0) v1h0 v2h0 v3h0 v4h0 v5h0 v6h0 v7h0 v8h0 v9h0 v10h0 (.int 0) v12h0 v13h0 v15h0 v16h0 v17h0 v18h0 v19h0 v20h0 v21h0 v22h0 v23h0 v24h0 v25h0 v26h0 v27h0 v28h0 v29h0 v30h0 v31h0 v32h0 v33h0 v34h0 v35h0 v36h0 v37h0 v38h0 v39h0 v40h0 v41h0 v42h0) dX11_shows_6 mw300 mw301 mw302 mw285 mw303 rfl 11 rfl rfl 0 _ rfl (by unfold yOk; decide) rfl (Nat.le_of_ble_eq_true rfl) (Nat.le_of_ble_eq_true rfl) (Nat.le_of_ble_eq_true rfl) (Nat.le_of_ble_eq_true rfl) (Nat.le_of_ble_eq_true rfl) rfl rfl (by decide) rfl (by decide) (by decide) ?_
  rintro r w ⟨rfl, rfl⟩
  refine k_ws [(h0, .inr (11, [.int 0, v1h0, v2h0, v3h0, v4h0, v5h0, v6h0, v7h0, v8h0, v9h0, v10h0, .int 0, v12h0, v13h0, .int 0, v15h0, v16h0, v17h0, v18h0, v19h0, v20h0, v21h0, v22h0, v23h0, v24h0, v25h0, v26h0, v27h0, v28h0, v29h0, v30h0, v31h0, v32h0, v33h0, v34h0, v35h0, v36h0, v37h0, v38h0, v39h0, v40h0, v41h0, v42h0]))] rfl ?_
  refine k_if_eq 20 X dX11_shows_9 (by decide) (fun _ => ?_) (fun h_1 => absurd (by decide) h_1)
  refine k_aload_n X dX11_shows_20 0 rfl ?_
  refine k_iconst (v := 1) X dX11_shows_21 (by decide) ?_
  refine k_callVI (n := 1) (As := [.int 1]) (st := []) X [(h0, .inr (11, [.int 0, v1h0, v2h0, v3h0, v4h0, v5h0, v6h0, v7h0, v8h0, v9h0, v10h0, .int 0, v12h0, v13h0, .int 0, v15h0, v16h0, v17h0, v18h0, v19h0, v20h0, v21h0, v22h0, v23h0, v24h0, v25h0, v26h0, v27h0, v28h0, v29h0, v30h0, v31h0, v32h0, v33h0, v34h0, v35h0, v36h0, v37h0, v38h0, v39h0, v40h0, v41h0, v42h0]))] [] [0] [] (r_no l g h0 1 (.int 0) v1h0 v2h0 v3h0 v4h0 v5h0 v6h0 v7h0 v8h0 v9h0 v10h0 (.int 0) v12h0 v13h0 (.int 0) v15h0 v16h0 v17h0 v18h0 v19h0 v20h0 v21h0 v22h0 v23h0 v24h0 v25h0 v26h0 v27h0 v28h0 v29h0 v30h0 v31h0 v32h0 v33h0 v34h0 v35h0 v36h0 v37h0 v38h0 v39h0 v40h0 v41h0 v42h0) dX11_shows_22 mw296 mw297 mw298 mw285 mw299 rfl 11 rfl rfl 0 _ rfl (by unfold yOk; decide) rfl (Nat.le_of_ble_eq_true rfl) (Nat.le_of_ble_eq_true rfl) (Nat.le_of_ble_eq_true rfl) (Nat.le_of_ble_eq_true rfl) (Nat.le_of_ble_eq_true rfl) rfl rfl (by decide) rfl (by decide) (by decide) ?_
  rintro r w ⟨rfl, rfl⟩
  refine k_ws [] rfl ?_
  exact k_iret X hr dX11_shows_25 (Nat.le_of_ble_eq_true rfl) (Nat.le_of_ble_eq_true rfl) [] (by decide) rfl rfl ⟨rfl, rfl⟩

theorem dX11_thread_0 : decode cX11_thread 0 = .ok (.aload_n 0, 1) := by decide +kernel
theorem dX11_thread_1 : decode cX11_thread 1 = .ok (.invokevirtual 200, 3) := by decide +kernel
theorem dX11_thread_4 : decode cX11_thread 4 = .ok (.aload_n 0, 1) := by decide +kernel
theorem dX11_thread_5 : decode cX11_thread 5 = .ok (.iload_n 1, 1) := by decide +kernel
theorem dX11_thread_6 : decode cX11_thread 6 = .ok (.invokevirtual 345, 3) := by decide +kernel
theorem dX11_thread_9 : decode cX11_thread 9 = .ok (.ifCond .eq 15, 3) := by decide +kernel
theorem dX11_thread_24 : decode cX11_thread 24 = .ok (.aload_n 0, 1) := by decide +kernel
theorem dX11_thread_25 : decode cX11_thread 25 = .ok (.iconst 1, 1) := by decide +kernel
theorem dX11_thread_26 : decode cX11_thread 26 = .ok (.invokevirtual 203, 3) := by decide +kernel
theorem dX11_thread_29 : decode cX11_thread 29 = .ok (.ireturn, 1) := by decide +kernel
set_option maxHeartbeats 4000000 in
set_option maxRecDepth 100000 in
theorem r_thread (l : Launch) (g : Gx) (h0 : Nat) (p0 : Int32) (v0h0 : Value) (v1h0 : Value) (v2h0 : Value) (v3h0 : Value) (v4h0 : Value) (v5h0 : Value) (v6h0 : Value) (v7h0 : Value) (v8h0 : Value) (v9h0 : Value) (v10h0 : Value) (v11h0 : Value) (v12h0 : Value) (v13h0 : Value) (v15h0 : Value) (v16h0 : Value) (v17h0 : Value) (v18h0 : Value) (v19h0 : Value) (v20h0 : Value) (v21h0 : Value) (v22h0 : Value) (v23h0 : Value) (v24h0 : Value) (v25h0 : Value) (v26h0 : Value) (v27h0 : Value) (v28h0 : Value) (v29h0 : Value) (v30h0 : Value) (v31h0 : Value) (v32h0 : Value) (v33h0 : Value) (v34h0 : Value) (v35h0 : Value) (v36h0 : Value) (v37h0 : Value) (v38h0 : Value) (v39h0 : Value) (v40h0 : Value) (v41h0 : Value) (v42h0 : Value) : cI l g yX11_thread cX11_thread 2 (some .int) 1 21 0 0 [.ref h0, .int p0] [(h0, .inr (11, [v0h0, v1h0, v2h0, v3h0, v4h0, v5h0, v6h0, v7h0, v8h0, v9h0, v10h0, v11h0, v12h0, v13h0, .int 0, v15h0, v16h0, v17h0, v18h0, v19h0, v20h0, v21h0, v22h0, v23h0, v24h0, v25h0, v26h0, v27h0, v28h0, v29h0, v30h0, v31h0, v32h0, v33h0, v34h0, v35h0, v36h0, v37h0, v38h0, v39h0, v40h0, v41h0, v42h0]))] (fun r w => r = (-1) ∧ w = []) := by
  refine cI.of (by decide) (Nat.le_of_ble_eq_true rfl) ?_
  intro p e s m args below meth c A X hr hi
  refine k_lveq [(0, .ref h0), (1, .int p0)] rfl ?_
  refine k_aload_n X dX11_thread_0 0 rfl ?_
  refine k_callVV (n := 0) (As := []) (st := []) X [(h0, .inr (11, [v0h0, v1h0, v2h0, v3h0, v4h0, v5h0, v6h0, v7h0, v8h0, v9h0, v10h0, v11h0, v12h0, v13h0, .int 0, v15h0, v16h0, v17h0, v18h0, v19h0, v20h0, v21h0, v22h0, v23h0, v24h0, v25h0, v26h0, v27h0, v28h0, v29h0, v30h0, v31h0, v32h0, v33h0, v34h0, v35h0, v36h0, v37h0, v38h0, v39h0, v40h0, v41h0, v42h0]))] [] [0] [] (r_good l g h0 v0h0 v1h0 v2h0 v3h0 v4h0 v5h0 v6h0 v7h0 v8h0 v9h0 v10h0 v11h0 v12h0 v13h0 (.int 0) v15h0 v16h0 v17h0 v18h0 v19h0 v20h0 v21h0 v22h0 v23h0 v24h0 v25h0 v26h0 v27h0 v28h0 v29h0 v30h0 v31h0 v32h0 v33h0 v34h0 v35h0 v36h0 v37h0 v38h0 v39h0 v40h0 v41h0 v42h0) dX11_thread_1 mw288 mw289 mw290 mw285 mw291 rfl 11 rfl rfl 0 _ rfl (by unfold yOk; decide) rfl (Nat.le_of_ble_eq_true rfl) (Nat.le_of_ble_eq_true rfl) (Nat.le_of_ble_eq_true rfl) (Nat.le_of_ble_eq_true rfl) (Nat.le_of_ble_eq_true rfl) rfl rfl (by decide) rfl (by decide) (by decide) ?_
  rintro w rfl
  refine k_ws [(h0, .inr (11, [.int 0, v1h0, v2h0, v3h0, v4h0, v5h0, v6h0, v7h0, v8h0, v9h0, v10h0, .int 0, v12h0, v13h0, .int 0, v15h0, v16h0, v17h0, v18h0, v19h0, v20h0, v21h0, v22h0, v23h0, v24h0, v25h0, v26h0, v27h0, v28h0, v29h0, v30h0, v31h0, v32h0, v33h0, v34h0, v35h0, v36h0, v37h0, v38h0, v39h0, v40h0, v41h0, v42h0]))] rfl ?_
  refine k_aload_n X dX11_thread_4 0 rfl ?_
  refine k_iload_n X dX11_thread_5 1 rfl ?_
  refine k_callVI (n := 1) (As := [.int p0]) (st := []) X [(h0, .inr (11, [.int 0, v1h0, v2h0, v3h0, v4h0, v5h0, v6h0, v7h0, v8h0, v9h0, v10h0, .int 0, v12h0, v13h0, .int 0, v15h0, v16h0, v17h0, v18h0, v19h0, v20h0, v21h0, v22h0, v23h0, v24h0, v25h0, v26h0, v27h0, v28h0, v29h0, v30h0, v31h0, v32h0, v33h0, v34h0, v35h0, v36h0, v37h0, v38h0, v39h0, v40h0, v41h0, v42h0]))] [] [0] [] (r_isPlace l g h0 p0 (.int 0) v1h0 v2h0 v3h0 v4h0 v5h0 v6h0 v7h0 v8h0 v9h0 v10h0 (.int 0) v12h0 v13h0 v15h0 v16h0 v17h0 v18h0 v19h0 v20h0 v21h0 v22h0 v23h0 v24h0 v25h0 v26h0 v27h0 v28h0 v29h0 v30h0 v31h0 v32h0 v33h0 v34h0 v35h0 v36h0 v37h0 v38h0 v39h0 v40h0 v41h0 v42h0) dX11_thread_6 mw300 mw301 mw302 mw285 mw303 rfl 11 rfl rfl 0 _ rfl (by unfold yOk; decide) rfl (Nat.le_of_ble_eq_true rfl) (Nat.le_of_ble_eq_true rfl) (Nat.le_of_ble_eq_true rfl) (Nat.le_of_ble_eq_true rfl) (Nat.le_of_ble_eq_true rfl) rfl rfl (by decide) rfl (by decide) (by decide) ?_
  rintro r w ⟨rfl, rfl⟩
  refine k_ws [(h0, .inr (11, [.int 0, v1h0, v2h0, v3h0, v4h0, v5h0, v6h0, v7h0, v8h0, v9h0, v10h0, .int 0, v12h0, v13h0, .int 0, v15h0, v16h0, v17h0, v18h0, v19h0, v20h0, v21h0, v22h0, v23h0, v24h0, v25h0, v26h0, v27h0, v28h0, v29h0, v30h0, v31h0, v32h0, v33h0, v34h0, v35h0, v36h0, v37h0, v38h0, v39h0, v40h0, v41h0, v42h0]))] rfl ?_
  refine k_if_eq 24 X dX11_thread_9 (by decide) (fun _ => ?_) (fun h_1 => absurd (by decide) h_1)
  refine k_aload_n X dX11_thread_24 0 rfl ?_
  refine k_iconst (v := 1) X dX11_thread_25 (by decide) ?_
  refine k_callVI (n := 1) (As := [.int 1]) (st := []) X [(h0, .inr (11, [.int 0, v1h0, v2h0, v3h0, v4h0, v5h0, v6h0, v7h0, v8h0, v9h0, v10h0, .int 0, v12h0, v13h0, .int 0, v15h0, v16h0, v17h0, v18h0, v19h0, v20h0, v21h0, v22h0, v23h0, v24h0, v25h0, v26h0, v27h0, v28h0, v29h0, v30h0, v31h0, v32h0, v33h0, v34h0, v35h0, v36h0, v37h0, v38h0, v39h0, v40h0, v41h0, v42h0]))] [] [0] [] (r_no l g h0 1 (.int 0) v1h0 v2h0 v3h0 v4h0 v5h0 v6h0 v7h0 v8h0 v9h0 v10h0 (.int 0) v12h0 v13h0 (.int 0) v15h0 v16h0 v17h0 v18h0 v19h0 v20h0 v21h0 v22h0 v23h0 v24h0 v25h0 v26h0 v27h0 v28h0 v29h0 v30h0 v31h0 v32h0 v33h0 v34h0 v35h0 v36h0 v37h0 v38h0 v39h0 v40h0 v41h0 v42h0) dX11_thread_26 mw296 mw297 mw298 mw285 mw299 rfl 11 rfl rfl 0 _ rfl (by unfold yOk; decide) rfl (Nat.le_of_ble_eq_true rfl) (Nat.le_of_ble_eq_true rfl) (Nat.le_of_ble_eq_true rfl) (Nat.le_of_ble_eq_true rfl) (Nat.le_of_ble_eq_true rfl) rfl rfl (by decide) rfl (by decide) (by decide) ?_
  rintro r w ⟨rfl, rfl⟩
  refine k_ws [] rfl ?_
  exact k_iret X hr dX11_thread_29 (Nat.le_of_ble_eq_true rfl) (Nat.le_of_ble_eq_true rfl) [] (by decide) rfl rfl ⟨rfl, rfl⟩

theorem dX11_believes_0 : decode cX11_believes 0 = .ok (.aload_n 0, 1) := by decide +kernel
theorem dX11_believes_1 : decode cX11_believes 1 = .ok (.invokevirtual 200, 3) := by decide +kernel
theorem dX11_believes_4 : decode cX11_believes 4 = .ok (.aload_n 0, 1) := by decide +kernel
theorem dX11_believes_5 : decode cX11_believes 5 = .ok (.iload_n 1, 1) := by decide +kernel
theorem dX11_believes_6 : decode cX11_believes 6 = .ok (.iload_n 2, 1) := by decide +kernel
theorem dX11_believes_7 : decode cX11_believes 7 = .ok (.invokevirtual 376, 3) := by decide +kernel
theorem dX11_believes_10 : decode cX11_believes 10 = .ok (.ifCond .eq 12, 3) := by decide +kernel
theorem dX11_believes_22 : decode cX11_believes 22 = .ok (.aload_n 0, 1) := by decide +kernel
theorem dX11_believes_23 : decode cX11_believes 23 = .ok (.iconst 1, 1) := by decide +kernel
theorem dX11_believes_24 : decode cX11_believes 24 = .ok (.invokevirtual 203, 3) := by decide +kernel
theorem dX11_believes_27 : decode cX11_believes 27 = .ok (.ireturn, 1) := by decide +kernel
set_option maxHeartbeats 4000000 in
set_option maxRecDepth 100000 in
theorem r_believes (l : Launch) (g : Gx) (h0 : Nat) (p0 : Int32) (p1 : Int32) (v0h0 : Value) (v1h0 : Value) (v2h0 : Value) (v3h0 : Value) (v4h0 : Value) (v5h0 : Value) (v6h0 : Value) (v7h0 : Value) (v8h0 : Value) (v9h0 : Value) (v10h0 : Value) (v11h0 : Value) (v12h0 : Value) (v13h0 : Value) (v15h0 : Value) (v16h0 : Value) (v17h0 : Value) (v18h0 : Value) (v19h0 : Value) (v20h0 : Value) (v21h0 : Value) (v22h0 : Value) (v23h0 : Value) (v24h0 : Value) (v25h0 : Value) (v26h0 : Value) (v27h0 : Value) (v28h0 : Value) (v29h0 : Value) (v30h0 : Value) (v31h0 : Value) (v32h0 : Value) (v33h0 : Value) (v34h0 : Value) (v35h0 : Value) (v36h0 : Value) (v37h0 : Value) (v38h0 : Value) (v39h0 : Value) (v40h0 : Value) (v41h0 : Value) (v42h0 : Value) : cI l g yX11_believes cX11_believes 3 (some .int) 2 43 0 0 [.ref h0, .int p0, .int p1] [(h0, .inr (11, [v0h0, v1h0, v2h0, v3h0, v4h0, v5h0, v6h0, v7h0, v8h0, v9h0, v10h0, v11h0, v12h0, v13h0, .int 0, v15h0, v16h0, v17h0, v18h0, v19h0, v20h0, v21h0, v22h0, v23h0, v24h0, v25h0, v26h0, v27h0, v28h0, v29h0, v30h0, v31h0, v32h0, v33h0, v34h0, v35h0, v36h0, v37h0, v38h0, v39h0, v40h0, v41h0, v42h0]))] (fun r w => r = (-1) ∧ w = []) := by
  refine cI.of (by decide) (Nat.le_of_ble_eq_true rfl) ?_
  intro p e s m args below meth c A X hr hi
  refine k_lveq [(0, .ref h0), (1, .int p0), (2, .int p1)] rfl ?_
  refine k_aload_n X dX11_believes_0 0 rfl ?_
  refine k_callVV (n := 0) (As := []) (st := []) X [(h0, .inr (11, [v0h0, v1h0, v2h0, v3h0, v4h0, v5h0, v6h0, v7h0, v8h0, v9h0, v10h0, v11h0, v12h0, v13h0, .int 0, v15h0, v16h0, v17h0, v18h0, v19h0, v20h0, v21h0, v22h0, v23h0, v24h0, v25h0, v26h0, v27h0, v28h0, v29h0, v30h0, v31h0, v32h0, v33h0, v34h0, v35h0, v36h0, v37h0, v38h0, v39h0, v40h0, v41h0, v42h0]))] [] [0] [] (r_good l g h0 v0h0 v1h0 v2h0 v3h0 v4h0 v5h0 v6h0 v7h0 v8h0 v9h0 v10h0 v11h0 v12h0 v13h0 (.int 0) v15h0 v16h0 v17h0 v18h0 v19h0 v20h0 v21h0 v22h0 v23h0 v24h0 v25h0 v26h0 v27h0 v28h0 v29h0 v30h0 v31h0 v32h0 v33h0 v34h0 v35h0 v36h0 v37h0 v38h0 v39h0 v40h0 v41h0 v42h0) dX11_believes_1 mw288 mw289 mw290 mw285 mw291 rfl 11 rfl rfl 0 _ rfl (by unfold yOk; decide) rfl (Nat.le_of_ble_eq_true rfl) (Nat.le_of_ble_eq_true rfl) (Nat.le_of_ble_eq_true rfl) (Nat.le_of_ble_eq_true rfl) (Nat.le_of_ble_eq_true rfl) rfl rfl (by decide) rfl (by decide) (by decide) ?_
  rintro w rfl
  refine k_ws [(h0, .inr (11, [.int 0, v1h0, v2h0, v3h0, v4h0, v5h0, v6h0, v7h0, v8h0, v9h0, v10h0, .int 0, v12h0, v13h0, .int 0, v15h0, v16h0, v17h0, v18h0, v19h0, v20h0, v21h0, v22h0, v23h0, v24h0, v25h0, v26h0, v27h0, v28h0, v29h0, v30h0, v31h0, v32h0, v33h0, v34h0, v35h0, v36h0, v37h0, v38h0, v39h0, v40h0, v41h0, v42h0]))] rfl ?_
  refine k_aload_n X dX11_believes_4 0 rfl ?_
  refine k_iload_n X dX11_believes_5 1 rfl ?_
  refine k_iload_n X dX11_believes_6 2 rfl ?_
  refine k_callVI (n := 2) (As := [.int p0, .int p1]) (st := []) X [(h0, .inr (11, [.int 0, v1h0, v2h0, v3h0, v4h0, v5h0, v6h0, v7h0, v8h0, v9h0, v10h0, .int 0, v12h0, v13h0, .int 0, v15h0, v16h0, v17h0, v18h0, v19h0, v20h0, v21h0, v22h0, v23h0, v24h0, v25h0, v26h0, v27h0, v28h0, v29h0, v30h0, v31h0, v32h0, v33h0, v34h0, v35h0, v36h0, v37h0, v38h0, v39h0, v40h0, v41h0, v42h0]))] [] [0] [] (r_canTell l g h0 p0 p1 (.int 0) v1h0 v2h0 v3h0 v4h0 v5h0 v6h0 v7h0 v8h0 v9h0 v10h0 (.int 0) v12h0 v13h0 v15h0 v16h0 v17h0 v18h0 v19h0 v20h0 v21h0 v22h0 v23h0 v24h0 v25h0 v26h0 v27h0 v28h0 v29h0 v30h0 v31h0 v32h0 v33h0 v34h0 v35h0 v36h0 v37h0 v38h0 v39h0 v40h0 v41h0 v42h0) dX11_believes_7 mw304 mw305 mw306 mw285 mw307 rfl 11 rfl rfl 0 _ rfl (by unfold yOk; decide) rfl (Nat.le_of_ble_eq_true rfl) (Nat.le_of_ble_eq_true rfl) (Nat.le_of_ble_eq_true rfl) (Nat.le_of_ble_eq_true rfl) (Nat.le_of_ble_eq_true rfl) rfl rfl (by decide) rfl (by decide) (by decide) ?_
  rintro r w ⟨rfl, rfl⟩
  refine k_ws [(h0, .inr (11, [.int 0, v1h0, v2h0, v3h0, v4h0, v5h0, v6h0, v7h0, v8h0, v9h0, v10h0, .int 0, v12h0, v13h0, .int 0, v15h0, v16h0, v17h0, v18h0, v19h0, v20h0, v21h0, v22h0, v23h0, v24h0, v25h0, v26h0, v27h0, v28h0, v29h0, v30h0, v31h0, v32h0, v33h0, v34h0, v35h0, v36h0, v37h0, v38h0, v39h0, v40h0, v41h0, v42h0]))] rfl ?_
  refine k_if_eq 22 X dX11_believes_10 (by decide) (fun _ => ?_) (fun h_1 => absurd (by decide) h_1)
  refine k_aload_n X dX11_believes_22 0 rfl ?_
  refine k_iconst (v := 1) X dX11_believes_23 (by decide) ?_
  refine k_callVI (n := 1) (As := [.int 1]) (st := []) X [(h0, .inr (11, [.int 0, v1h0, v2h0, v3h0, v4h0, v5h0, v6h0, v7h0, v8h0, v9h0, v10h0, .int 0, v12h0, v13h0, .int 0, v15h0, v16h0, v17h0, v18h0, v19h0, v20h0, v21h0, v22h0, v23h0, v24h0, v25h0, v26h0, v27h0, v28h0, v29h0, v30h0, v31h0, v32h0, v33h0, v34h0, v35h0, v36h0, v37h0, v38h0, v39h0, v40h0, v41h0, v42h0]))] [] [0] [] (r_no l g h0 1 (.int 0) v1h0 v2h0 v3h0 v4h0 v5h0 v6h0 v7h0 v8h0 v9h0 v10h0 (.int 0) v12h0 v13h0 (.int 0) v15h0 v16h0 v17h0 v18h0 v19h0 v20h0 v21h0 v22h0 v23h0 v24h0 v25h0 v26h0 v27h0 v28h0 v29h0 v30h0 v31h0 v32h0 v33h0 v34h0 v35h0 v36h0 v37h0 v38h0 v39h0 v40h0 v41h0 v42h0) dX11_believes_24 mw296 mw297 mw298 mw285 mw299 rfl 11 rfl rfl 0 _ rfl (by unfold yOk; decide) rfl (Nat.le_of_ble_eq_true rfl) (Nat.le_of_ble_eq_true rfl) (Nat.le_of_ble_eq_true rfl) (Nat.le_of_ble_eq_true rfl) (Nat.le_of_ble_eq_true rfl) rfl rfl (by decide) rfl (by decide) (by decide) ?_
  rintro r w ⟨rfl, rfl⟩
  refine k_ws [] rfl ?_
  exact k_iret X hr dX11_believes_27 (Nat.le_of_ble_eq_true rfl) (Nat.le_of_ble_eq_true rfl) [] (by decide) rfl rfl ⟨rfl, rfl⟩

theorem dX11_starts_0 : decode cX11_starts 0 = .ok (.aload_n 0, 1) := by decide +kernel
theorem dX11_starts_1 : decode cX11_starts 1 = .ok (.invokevirtual 200, 3) := by decide +kernel
theorem dX11_starts_4 : decode cX11_starts 4 = .ok (.aload_n 0, 1) := by decide +kernel
theorem dX11_starts_5 : decode cX11_starts 5 = .ok (.iload_n 1, 1) := by decide +kernel
theorem dX11_starts_6 : decode cX11_starts 6 = .ok (.iload_n 2, 1) := by decide +kernel
theorem dX11_starts_7 : decode cX11_starts 7 = .ok (.invokevirtual 376, 3) := by decide +kernel
theorem dX11_starts_10 : decode cX11_starts 10 = .ok (.ifCond .eq 12, 3) := by decide +kernel
theorem dX11_starts_22 : decode cX11_starts 22 = .ok (.aload_n 0, 1) := by decide +kernel
theorem dX11_starts_23 : decode cX11_starts 23 = .ok (.iconst 1, 1) := by decide +kernel
theorem dX11_starts_24 : decode cX11_starts 24 = .ok (.invokevirtual 203, 3) := by decide +kernel
theorem dX11_starts_27 : decode cX11_starts 27 = .ok (.ireturn, 1) := by decide +kernel
set_option maxHeartbeats 4000000 in
set_option maxRecDepth 100000 in
theorem r_starts (l : Launch) (g : Gx) (h0 : Nat) (p0 : Int32) (p1 : Int32) (v0h0 : Value) (v1h0 : Value) (v2h0 : Value) (v3h0 : Value) (v4h0 : Value) (v5h0 : Value) (v6h0 : Value) (v7h0 : Value) (v8h0 : Value) (v9h0 : Value) (v10h0 : Value) (v11h0 : Value) (v12h0 : Value) (v13h0 : Value) (v15h0 : Value) (v16h0 : Value) (v17h0 : Value) (v18h0 : Value) (v19h0 : Value) (v20h0 : Value) (v21h0 : Value) (v22h0 : Value) (v23h0 : Value) (v24h0 : Value) (v25h0 : Value) (v26h0 : Value) (v27h0 : Value) (v28h0 : Value) (v29h0 : Value) (v30h0 : Value) (v31h0 : Value) (v32h0 : Value) (v33h0 : Value) (v34h0 : Value) (v35h0 : Value) (v36h0 : Value) (v37h0 : Value) (v38h0 : Value) (v39h0 : Value) (v40h0 : Value) (v41h0 : Value) (v42h0 : Value) : cI l g yX11_starts cX11_starts 3 (some .int) 2 43 0 0 [.ref h0, .int p0, .int p1] [(h0, .inr (11, [v0h0, v1h0, v2h0, v3h0, v4h0, v5h0, v6h0, v7h0, v8h0, v9h0, v10h0, v11h0, v12h0, v13h0, .int 0, v15h0, v16h0, v17h0, v18h0, v19h0, v20h0, v21h0, v22h0, v23h0, v24h0, v25h0, v26h0, v27h0, v28h0, v29h0, v30h0, v31h0, v32h0, v33h0, v34h0, v35h0, v36h0, v37h0, v38h0, v39h0, v40h0, v41h0, v42h0]))] (fun r w => r = (-1) ∧ w = []) := by
  refine cI.of (by decide) (Nat.le_of_ble_eq_true rfl) ?_
  intro p e s m args below meth c A X hr hi
  refine k_lveq [(0, .ref h0), (1, .int p0), (2, .int p1)] rfl ?_
  refine k_aload_n X dX11_starts_0 0 rfl ?_
  refine k_callVV (n := 0) (As := []) (st := []) X [(h0, .inr (11, [v0h0, v1h0, v2h0, v3h0, v4h0, v5h0, v6h0, v7h0, v8h0, v9h0, v10h0, v11h0, v12h0, v13h0, .int 0, v15h0, v16h0, v17h0, v18h0, v19h0, v20h0, v21h0, v22h0, v23h0, v24h0, v25h0, v26h0, v27h0, v28h0, v29h0, v30h0, v31h0, v32h0, v33h0, v34h0, v35h0, v36h0, v37h0, v38h0, v39h0, v40h0, v41h0, v42h0]))] [] [0] [] (r_good l g h0 v0h0 v1h0 v2h0 v3h0 v4h0 v5h0 v6h0 v7h0 v8h0 v9h0 v10h0 v11h0 v12h0 v13h0 (.int 0) v15h0 v16h0 v17h0 v18h0 v19h0 v20h0 v21h0 v22h0 v23h0 v24h0 v25h0 v26h0 v27h0 v28h0 v29h0 v30h0 v31h0 v32h0 v33h0 v34h0 v35h0 v36h0 v37h0 v38h0 v39h0 v40h0 v41h0 v42h0) dX11_starts_1 mw288 mw289 mw290 mw285 mw291 rfl 11 rfl rfl 0 _ rfl (by unfold yOk; decide) rfl (Nat.le_of_ble_eq_true rfl) (Nat.le_of_ble_eq_true rfl) (Nat.le_of_ble_eq_true rfl) (Nat.le_of_ble_eq_true rfl) (Nat.le_of_ble_eq_true rfl) rfl rfl (by decide) rfl (by decide) (by decide) ?_
  rintro w rfl
  refine k_ws [(h0, .inr (11, [.int 0, v1h0, v2h0, v3h0, v4h0, v5h0, v6h0, v7h0, v8h0, v9h0, v10h0, .int 0, v12h0, v13h0, .int 0, v15h0, v16h0, v17h0, v18h0, v19h0, v20h0, v21h0, v22h0, v23h0, v24h0, v25h0, v26h0, v27h0, v28h0, v29h0, v30h0, v31h0, v32h0, v33h0, v34h0, v35h0, v36h0, v37h0, v38h0, v39h0, v40h0, v41h0, v42h0]))] rfl ?_
  refine k_aload_n X dX11_starts_4 0 rfl ?_
  refine k_iload_n X dX11_starts_5 1 rfl ?_
  refine k_iload_n X dX11_starts_6 2 rfl ?_
  refine k_callVI (n := 2) (As := [.int p0, .int p1]) (st := []) X [(h0, .inr (11, [.int 0, v1h0, v2h0, v3h0, v4h0, v5h0, v6h0, v7h0, v8h0, v9h0, v10h0, .int 0, v12h0, v13h0, .int 0, v15h0, v16h0, v17h0, v18h0, v19h0, v20h0, v21h0, v22h0, v23h0, v24h0, v25h0, v26h0, v27h0, v28h0, v29h0, v30h0, v31h0, v32h0, v33h0, v34h0, v35h0, v36h0, v37h0, v38h0, v39h0, v40h0, v41h0, v42h0]))] [] [0] [] (r_canTell l g h0 p0 p1 (.int 0) v1h0 v2h0 v3h0 v4h0 v5h0 v6h0 v7h0 v8h0 v9h0 v10h0 (.int 0) v12h0 v13h0 v15h0 v16h0 v17h0 v18h0 v19h0 v20h0 v21h0 v22h0 v23h0 v24h0 v25h0 v26h0 v27h0 v28h0 v29h0 v30h0 v31h0 v32h0 v33h0 v34h0 v35h0 v36h0 v37h0 v38h0 v39h0 v40h0 v41h0 v42h0) dX11_starts_7 mw304 mw305 mw306 mw285 mw307 rfl 11 rfl rfl 0 _ rfl (by unfold yOk; decide) rfl (Nat.le_of_ble_eq_true rfl) (Nat.le_of_ble_eq_true rfl) (Nat.le_of_ble_eq_true rfl) (Nat.le_of_ble_eq_true rfl) (Nat.le_of_ble_eq_true rfl) rfl rfl (by decide) rfl (by decide) (by decide) ?_
  rintro r w ⟨rfl, rfl⟩
  refine k_ws [(h0, .inr (11, [.int 0, v1h0, v2h0, v3h0, v4h0, v5h0, v6h0, v7h0, v8h0, v9h0, v10h0, .int 0, v12h0, v13h0, .int 0, v15h0, v16h0, v17h0, v18h0, v19h0, v20h0, v21h0, v22h0, v23h0, v24h0, v25h0, v26h0, v27h0, v28h0, v29h0, v30h0, v31h0, v32h0, v33h0, v34h0, v35h0, v36h0, v37h0, v38h0, v39h0, v40h0, v41h0, v42h0]))] rfl ?_
  refine k_if_eq 22 X dX11_starts_10 (by decide) (fun _ => ?_) (fun h_1 => absurd (by decide) h_1)
  refine k_aload_n X dX11_starts_22 0 rfl ?_
  refine k_iconst (v := 1) X dX11_starts_23 (by decide) ?_
  refine k_callVI (n := 1) (As := [.int 1]) (st := []) X [(h0, .inr (11, [.int 0, v1h0, v2h0, v3h0, v4h0, v5h0, v6h0, v7h0, v8h0, v9h0, v10h0, .int 0, v12h0, v13h0, .int 0, v15h0, v16h0, v17h0, v18h0, v19h0, v20h0, v21h0, v22h0, v23h0, v24h0, v25h0, v26h0, v27h0, v28h0, v29h0, v30h0, v31h0, v32h0, v33h0, v34h0, v35h0, v36h0, v37h0, v38h0, v39h0, v40h0, v41h0, v42h0]))] [] [0] [] (r_no l g h0 1 (.int 0) v1h0 v2h0 v3h0 v4h0 v5h0 v6h0 v7h0 v8h0 v9h0 v10h0 (.int 0) v12h0 v13h0 (.int 0) v15h0 v16h0 v17h0 v18h0 v19h0 v20h0 v21h0 v22h0 v23h0 v24h0 v25h0 v26h0 v27h0 v28h0 v29h0 v30h0 v31h0 v32h0 v33h0 v34h0 v35h0 v36h0 v37h0 v38h0 v39h0 v40h0 v41h0 v42h0) dX11_starts_24 mw296 mw297 mw298 mw285 mw299 rfl 11 rfl rfl 0 _ rfl (by unfold yOk; decide) rfl (Nat.le_of_ble_eq_true rfl) (Nat.le_of_ble_eq_true rfl) (Nat.le_of_ble_eq_true rfl) (Nat.le_of_ble_eq_true rfl) (Nat.le_of_ble_eq_true rfl) rfl rfl (by decide) rfl (by decide) (by decide) ?_
  rintro r w ⟨rfl, rfl⟩
  refine k_ws [] rfl ?_
  exact k_iret X hr dX11_starts_27 (Nat.le_of_ble_eq_true rfl) (Nat.le_of_ble_eq_true rfl) [] (by decide) rfl rfl ⟨rfl, rfl⟩

theorem dX11_changes_0 : decode cX11_changes 0 = .ok (.aload_n 0, 1) := by decide +kernel
theorem dX11_changes_1 : decode cX11_changes 1 = .ok (.invokevirtual 200, 3) := by decide +kernel
theorem dX11_changes_4 : decode cX11_changes 4 = .ok (.aload_n 0, 1) := by decide +kernel
theorem dX11_changes_5 : decode cX11_changes 5 = .ok (.iload_n 1, 1) := by decide +kernel
theorem dX11_changes_6 : decode cX11_changes 6 = .ok (.iload_n 2, 1) := by decide +kernel
theorem dX11_changes_7 : decode cX11_changes 7 = .ok (.invokevirtual 376, 3) := by decide +kernel
theorem dX11_changes_10 : decode cX11_changes 10 = .ok (.ifCond .eq 12, 3) := by decide +kernel
theorem dX11_changes_22 : decode cX11_changes 22 = .ok (.aload_n 0, 1) := by decide +kernel
theorem dX11_changes_23 : decode cX11_changes 23 = .ok (.iconst 1, 1) := by decide +kernel
theorem dX11_changes_24 : decode cX11_changes 24 = .ok (.invokevirtual 203, 3) := by decide +kernel
theorem dX11_changes_27 : decode cX11_changes 27 = .ok (.ireturn, 1) := by decide +kernel
set_option maxHeartbeats 4000000 in
set_option maxRecDepth 100000 in
theorem r_changes (l : Launch) (g : Gx) (h0 : Nat) (p0 : Int32) (p1 : Int32) (v0h0 : Value) (v1h0 : Value) (v2h0 : Value) (v3h0 : Value) (v4h0 : Value) (v5h0 : Value) (v6h0 : Value) (v7h0 : Value) (v8h0 : Value) (v9h0 : Value) (v10h0 : Value) (v11h0 : Value) (v12h0 : Value) (v13h0 : Value) (v15h0 : Value) (v16h0 : Value) (v17h0 : Value) (v18h0 : Value) (v19h0 : Value) (v20h0 : Value) (v21h0 : Value) (v22h0 : Value) (v23h0 : Value) (v24h0 : Value) (v25h0 : Value) (v26h0 : Value) (v27h0 : Value) (v28h0 : Value) (v29h0 : Value) (v30h0 : Value) (v31h0 : Value) (v32h0 : Value) (v33h0 : Value) (v34h0 : Value) (v35h0 : Value) (v36h0 : Value) (v37h0 : Value) (v38h0 : Value) (v39h0 : Value) (v40h0 : Value) (v41h0 : Value) (v42h0 : Value) : cI l g yX11_changes cX11_changes 3 (some .int) 2 43 0 0 [.ref h0, .int p0, .int p1] [(h0, .inr (11, [v0h0, v1h0, v2h0, v3h0, v4h0, v5h0, v6h0, v7h0, v8h0, v9h0, v10h0, v11h0, v12h0, v13h0, .int 0, v15h0, v16h0, v17h0, v18h0, v19h0, v20h0, v21h0, v22h0, v23h0, v24h0, v25h0, v26h0, v27h0, v28h0, v29h0, v30h0, v31h0, v32h0, v33h0, v34h0, v35h0, v36h0, v37h0, v38h0, v39h0, v40h0, v41h0, v42h0]))] (fun r w => r = (-1) ∧ w = []) := by
  refine cI.of (by decide) (Nat.le_of_ble_eq_true rfl) ?_
  intro p e s m args below meth c A X hr hi
  refine k_lveq [(0, .ref h0), (1, .int p0), (2, .int p1)] rfl ?_
  refine k_aload_n X dX11_changes_0 0 rfl ?_
  refine k_callVV (n := 0) (As := []) (st := []) X [(h0, .inr (11, [v0h0, v1h0, v2h0, v3h0, v4h0, v5h0, v6h0, v7h0, v8h0, v9h0, v10h0, v11h0, v12h0, v13h0, .int 0, v15h0, v16h0, v17h0, v18h0, v19h0, v20h0, v21h0, v22h0, v23h0, v24h0, v25h0, v26h0, v27h0, v28h0, v29h0, v30h0, v31h0, v32h0, v33h0, v34h0, v35h0, v36h0, v37h0, v38h0, v39h0, v40h0, v41h0, v42h0]))] [] [0] [] (r_good l g h0 v0h0 v1h0 v2h0 v3h0 v4h0 v5h0 v6h0 v7h0 v8h0 v9h0 v10h0 v11h0 v12h0 v13h0 (.int 0) v15h0 v16h0 v17h0 v18h0 v19h0 v20h0 v21h0 v22h0 v23h0 v24h0 v25h0 v26h0 v27h0 v28h0 v29h0 v30h0 v31h0 v32h0 v33h0 v34h0 v35h0 v36h0 v37h0 v38h0 v39h0 v40h0 v41h0 v42h0) dX11_changes_1 mw288 mw289 mw290 mw285 mw291 rfl 11 rfl rfl 0 _ rfl (by unfold yOk; decide) rfl (Nat.le_of_ble_eq_true rfl) (Nat.le_of_ble_eq_true rfl) (Nat.le_of_ble_eq_true rfl) (Nat.le_of_ble_eq_true rfl) (Nat.le_of_ble_eq_true rfl) rfl rfl (by decide) rfl (by decide) (by decide) ?_
  rintro w rfl
  refine k_ws [(h0, .inr (11, [.int 0, v1h0, v2h0, v3h0, v4h0, v5h0, v6h0, v7h0, v8h0, v9h0, v10h0, .int 0, v12h0, v13h0, .int 0, v15h0, v16h0, v17h0, v18h0, v19h0, v20h0, v21h0, v22h0, v23h0, v24h0, v25h0, v26h0, v27h0, v28h0, v29h0, v30h0, v31h0, v32h0, v33h0, v34h0, v35h0, v36h0, v37h0, v38h0, v39h0, v40h0, v41h0, v42h0]))] rfl ?_
  refine k_aload_n X dX11_changes_4 0 rfl ?_
  refine k_iload_n X dX11_changes_5 1 rfl ?_
  refine k_iload_n X dX11_changes_6 2 rfl ?_
  refine k_callVI (n := 2) (As := [.int p0, .int p1]) (st := []) X [(h0, .inr (11, [.int 0, v1h0, v2h0, v3h0, v4h0, v5h0, v6h0, v7h0, v8h0, v9h0, v10h0, .int 0, v12h0, v13h0, .int 0, v15h0, v16h0, v17h0, v18h0, v19h0, v20h0, v21h0, v22h0, v23h0, v24h0, v25h0, v26h0, v27h0, v28h0, v29h0, v30h0, v31h0, v32h0, v33h0, v34h0, v35h0, v36h0, v37h0, v38h0, v39h0, v40h0, v41h0, v42h0]))] [] [0] [] (r_canTell l g h0 p0 p1 (.int 0) v1h0 v2h0 v3h0 v4h0 v5h0 v6h0 v7h0 v8h0 v9h0 v10h0 (.int 0) v12h0 v13h0 v15h0 v16h0 v17h0 v18h0 v19h0 v20h0 v21h0 v22h0 v23h0 v24h0 v25h0 v26h0 v27h0 v28h0 v29h0 v30h0 v31h0 v32h0 v33h0 v34h0 v35h0 v36h0 v37h0 v38h0 v39h0 v40h0 v41h0 v42h0) dX11_changes_7 mw304 mw305 mw306 mw285 mw307 rfl 11 rfl rfl 0 _ rfl (by unfold yOk; decide) rfl (Nat.le_of_ble_eq_true rfl) (Nat.le_of_ble_eq_true rfl) (Nat.le_of_ble_eq_true rfl) (Nat.le_of_ble_eq_true rfl) (Nat.le_of_ble_eq_true rfl) rfl rfl (by decide) rfl (by decide) (by decide) ?_
  rintro r w ⟨rfl, rfl⟩
  refine k_ws [(h0, .inr (11, [.int 0, v1h0, v2h0, v3h0, v4h0, v5h0, v6h0, v7h0, v8h0, v9h0, v10h0, .int 0, v12h0, v13h0, .int 0, v15h0, v16h0, v17h0, v18h0, v19h0, v20h0, v21h0, v22h0, v23h0, v24h0, v25h0, v26h0, v27h0, v28h0, v29h0, v30h0, v31h0, v32h0, v33h0, v34h0, v35h0, v36h0, v37h0, v38h0, v39h0, v40h0, v41h0, v42h0]))] rfl ?_
  refine k_if_eq 22 X dX11_changes_10 (by decide) (fun _ => ?_) (fun h_1 => absurd (by decide) h_1)
  refine k_aload_n X dX11_changes_22 0 rfl ?_
  refine k_iconst (v := 1) X dX11_changes_23 (by decide) ?_
  refine k_callVI (n := 1) (As := [.int 1]) (st := []) X [(h0, .inr (11, [.int 0, v1h0, v2h0, v3h0, v4h0, v5h0, v6h0, v7h0, v8h0, v9h0, v10h0, .int 0, v12h0, v13h0, .int 0, v15h0, v16h0, v17h0, v18h0, v19h0, v20h0, v21h0, v22h0, v23h0, v24h0, v25h0, v26h0, v27h0, v28h0, v29h0, v30h0, v31h0, v32h0, v33h0, v34h0, v35h0, v36h0, v37h0, v38h0, v39h0, v40h0, v41h0, v42h0]))] [] [0] [] (r_no l g h0 1 (.int 0) v1h0 v2h0 v3h0 v4h0 v5h0 v6h0 v7h0 v8h0 v9h0 v10h0 (.int 0) v12h0 v13h0 (.int 0) v15h0 v16h0 v17h0 v18h0 v19h0 v20h0 v21h0 v22h0 v23h0 v24h0 v25h0 v26h0 v27h0 v28h0 v29h0 v30h0 v31h0 v32h0 v33h0 v34h0 v35h0 v36h0 v37h0 v38h0 v39h0 v40h0 v41h0 v42h0) dX11_changes_24 mw296 mw297 mw298 mw285 mw299 rfl 11 rfl rfl 0 _ rfl (by unfold yOk; decide) rfl (Nat.le_of_ble_eq_true rfl) (Nat.le_of_ble_eq_true rfl) (Nat.le_of_ble_eq_true rfl) (Nat.le_of_ble_eq_true rfl) (Nat.le_of_ble_eq_true rfl) rfl rfl (by decide) rfl (by decide) (by decide) ?_
  rintro r w ⟨rfl, rfl⟩
  refine k_ws [] rfl ?_
  exact k_iret X hr dX11_changes_27 (Nat.le_of_ble_eq_true rfl) (Nat.le_of_ble_eq_true rfl) [] (by decide) rfl rfl ⟨rfl, rfl⟩

theorem dX11_lost_0 : decode cX11_lost 0 = .ok (.aload_n 0, 1) := by decide +kernel
theorem dX11_lost_1 : decode cX11_lost 1 = .ok (.invokevirtual 200, 3) := by decide +kernel
theorem dX11_lost_4 : decode cX11_lost 4 = .ok (.aload_n 0, 1) := by decide +kernel
theorem dX11_lost_5 : decode cX11_lost 5 = .ok (.iload_n 1, 1) := by decide +kernel
theorem dX11_lost_6 : decode cX11_lost 6 = .ok (.iload_n 2, 1) := by decide +kernel
theorem dX11_lost_7 : decode cX11_lost 7 = .ok (.invokevirtual 376, 3) := by decide +kernel
theorem dX11_lost_10 : decode cX11_lost 10 = .ok (.ifCond .eq 12, 3) := by decide +kernel
theorem dX11_lost_22 : decode cX11_lost 22 = .ok (.aload_n 0, 1) := by decide +kernel
theorem dX11_lost_23 : decode cX11_lost 23 = .ok (.iconst 1, 1) := by decide +kernel
theorem dX11_lost_24 : decode cX11_lost 24 = .ok (.invokevirtual 203, 3) := by decide +kernel
theorem dX11_lost_27 : decode cX11_lost 27 = .ok (.ireturn, 1) := by decide +kernel
set_option maxHeartbeats 4000000 in
set_option maxRecDepth 100000 in
theorem r_lost (l : Launch) (g : Gx) (h0 : Nat) (p0 : Int32) (p1 : Int32) (v0h0 : Value) (v1h0 : Value) (v2h0 : Value) (v3h0 : Value) (v4h0 : Value) (v5h0 : Value) (v6h0 : Value) (v7h0 : Value) (v8h0 : Value) (v9h0 : Value) (v10h0 : Value) (v11h0 : Value) (v12h0 : Value) (v13h0 : Value) (v15h0 : Value) (v16h0 : Value) (v17h0 : Value) (v18h0 : Value) (v19h0 : Value) (v20h0 : Value) (v21h0 : Value) (v22h0 : Value) (v23h0 : Value) (v24h0 : Value) (v25h0 : Value) (v26h0 : Value) (v27h0 : Value) (v28h0 : Value) (v29h0 : Value) (v30h0 : Value) (v31h0 : Value) (v32h0 : Value) (v33h0 : Value) (v34h0 : Value) (v35h0 : Value) (v36h0 : Value) (v37h0 : Value) (v38h0 : Value) (v39h0 : Value) (v40h0 : Value) (v41h0 : Value) (v42h0 : Value) : cI l g yX11_lost cX11_lost 3 (some .int) 2 43 0 0 [.ref h0, .int p0, .int p1] [(h0, .inr (11, [v0h0, v1h0, v2h0, v3h0, v4h0, v5h0, v6h0, v7h0, v8h0, v9h0, v10h0, v11h0, v12h0, v13h0, .int 0, v15h0, v16h0, v17h0, v18h0, v19h0, v20h0, v21h0, v22h0, v23h0, v24h0, v25h0, v26h0, v27h0, v28h0, v29h0, v30h0, v31h0, v32h0, v33h0, v34h0, v35h0, v36h0, v37h0, v38h0, v39h0, v40h0, v41h0, v42h0]))] (fun r w => r = (-1) ∧ w = []) := by
  refine cI.of (by decide) (Nat.le_of_ble_eq_true rfl) ?_
  intro p e s m args below meth c A X hr hi
  refine k_lveq [(0, .ref h0), (1, .int p0), (2, .int p1)] rfl ?_
  refine k_aload_n X dX11_lost_0 0 rfl ?_
  refine k_callVV (n := 0) (As := []) (st := []) X [(h0, .inr (11, [v0h0, v1h0, v2h0, v3h0, v4h0, v5h0, v6h0, v7h0, v8h0, v9h0, v10h0, v11h0, v12h0, v13h0, .int 0, v15h0, v16h0, v17h0, v18h0, v19h0, v20h0, v21h0, v22h0, v23h0, v24h0, v25h0, v26h0, v27h0, v28h0, v29h0, v30h0, v31h0, v32h0, v33h0, v34h0, v35h0, v36h0, v37h0, v38h0, v39h0, v40h0, v41h0, v42h0]))] [] [0] [] (r_good l g h0 v0h0 v1h0 v2h0 v3h0 v4h0 v5h0 v6h0 v7h0 v8h0 v9h0 v10h0 v11h0 v12h0 v13h0 (.int 0) v15h0 v16h0 v17h0 v18h0 v19h0 v20h0 v21h0 v22h0 v23h0 v24h0 v25h0 v26h0 v27h0 v28h0 v29h0 v30h0 v31h0 v32h0 v33h0 v34h0 v35h0 v36h0 v37h0 v38h0 v39h0 v40h0 v41h0 v42h0) dX11_lost_1 mw288 mw289 mw290 mw285 mw291 rfl 11 rfl rfl 0 _ rfl (by unfold yOk; decide) rfl (Nat.le_of_ble_eq_true rfl) (Nat.le_of_ble_eq_true rfl) (Nat.le_of_ble_eq_true rfl) (Nat.le_of_ble_eq_true rfl) (Nat.le_of_ble_eq_true rfl) rfl rfl (by decide) rfl (by decide) (by decide) ?_
  rintro w rfl
  refine k_ws [(h0, .inr (11, [.int 0, v1h0, v2h0, v3h0, v4h0, v5h0, v6h0, v7h0, v8h0, v9h0, v10h0, .int 0, v12h0, v13h0, .int 0, v15h0, v16h0, v17h0, v18h0, v19h0, v20h0, v21h0, v22h0, v23h0, v24h0, v25h0, v26h0, v27h0, v28h0, v29h0, v30h0, v31h0, v32h0, v33h0, v34h0, v35h0, v36h0, v37h0, v38h0, v39h0, v40h0, v41h0, v42h0]))] rfl ?_
  refine k_aload_n X dX11_lost_4 0 rfl ?_
  refine k_iload_n X dX11_lost_5 1 rfl ?_
  refine k_iload_n X dX11_lost_6 2 rfl ?_
  refine k_callVI (n := 2) (As := [.int p0, .int p1]) (st := []) X [(h0, .inr (11, [.int 0, v1h0, v2h0, v3h0, v4h0, v5h0, v6h0, v7h0, v8h0, v9h0, v10h0, .int 0, v12h0, v13h0, .int 0, v15h0, v16h0, v17h0, v18h0, v19h0, v20h0, v21h0, v22h0, v23h0, v24h0, v25h0, v26h0, v27h0, v28h0, v29h0, v30h0, v31h0, v32h0, v33h0, v34h0, v35h0, v36h0, v37h0, v38h0, v39h0, v40h0, v41h0, v42h0]))] [] [0] [] (r_canTell l g h0 p0 p1 (.int 0) v1h0 v2h0 v3h0 v4h0 v5h0 v6h0 v7h0 v8h0 v9h0 v10h0 (.int 0) v12h0 v13h0 v15h0 v16h0 v17h0 v18h0 v19h0 v20h0 v21h0 v22h0 v23h0 v24h0 v25h0 v26h0 v27h0 v28h0 v29h0 v30h0 v31h0 v32h0 v33h0 v34h0 v35h0 v36h0 v37h0 v38h0 v39h0 v40h0 v41h0 v42h0) dX11_lost_7 mw304 mw305 mw306 mw285 mw307 rfl 11 rfl rfl 0 _ rfl (by unfold yOk; decide) rfl (Nat.le_of_ble_eq_true rfl) (Nat.le_of_ble_eq_true rfl) (Nat.le_of_ble_eq_true rfl) (Nat.le_of_ble_eq_true rfl) (Nat.le_of_ble_eq_true rfl) rfl rfl (by decide) rfl (by decide) (by decide) ?_
  rintro r w ⟨rfl, rfl⟩
  refine k_ws [(h0, .inr (11, [.int 0, v1h0, v2h0, v3h0, v4h0, v5h0, v6h0, v7h0, v8h0, v9h0, v10h0, .int 0, v12h0, v13h0, .int 0, v15h0, v16h0, v17h0, v18h0, v19h0, v20h0, v21h0, v22h0, v23h0, v24h0, v25h0, v26h0, v27h0, v28h0, v29h0, v30h0, v31h0, v32h0, v33h0, v34h0, v35h0, v36h0, v37h0, v38h0, v39h0, v40h0, v41h0, v42h0]))] rfl ?_
  refine k_if_eq 22 X dX11_lost_10 (by decide) (fun _ => ?_) (fun h_1 => absurd (by decide) h_1)
  refine k_aload_n X dX11_lost_22 0 rfl ?_
  refine k_iconst (v := 1) X dX11_lost_23 (by decide) ?_
  refine k_callVI (n := 1) (As := [.int 1]) (st := []) X [(h0, .inr (11, [.int 0, v1h0, v2h0, v3h0, v4h0, v5h0, v6h0, v7h0, v8h0, v9h0, v10h0, .int 0, v12h0, v13h0, .int 0, v15h0, v16h0, v17h0, v18h0, v19h0, v20h0, v21h0, v22h0, v23h0, v24h0, v25h0, v26h0, v27h0, v28h0, v29h0, v30h0, v31h0, v32h0, v33h0, v34h0, v35h0, v36h0, v37h0, v38h0, v39h0, v40h0, v41h0, v42h0]))] [] [0] [] (r_no l g h0 1 (.int 0) v1h0 v2h0 v3h0 v4h0 v5h0 v6h0 v7h0 v8h0 v9h0 v10h0 (.int 0) v12h0 v13h0 (.int 0) v15h0 v16h0 v17h0 v18h0 v19h0 v20h0 v21h0 v22h0 v23h0 v24h0 v25h0 v26h0 v27h0 v28h0 v29h0 v30h0 v31h0 v32h0 v33h0 v34h0 v35h0 v36h0 v37h0 v38h0 v39h0 v40h0 v41h0 v42h0) dX11_lost_24 mw296 mw297 mw298 mw285 mw299 rfl 11 rfl rfl 0 _ rfl (by unfold yOk; decide) rfl (Nat.le_of_ble_eq_true rfl) (Nat.le_of_ble_eq_true rfl) (Nat.le_of_ble_eq_true rfl) (Nat.le_of_ble_eq_true rfl) (Nat.le_of_ble_eq_true rfl) rfl rfl (by decide) rfl (by decide) (by decide) ?_
  rintro r w ⟨rfl, rfl⟩
  refine k_ws [] rfl ?_
  exact k_iret X hr dX11_lost_27 (Nat.le_of_ble_eq_true rfl) (Nat.le_of_ble_eq_true rfl) [] (by decide) rfl rfl ⟨rfl, rfl⟩

theorem dX11_black_0 : decode cX11_black 0 = .ok (.aload_n 0, 1) := by decide +kernel
theorem dX11_black_1 : decode cX11_black 1 = .ok (.invokevirtual 200, 3) := by decide +kernel
theorem dX11_black_4 : decode cX11_black 4 = .ok (.aload_n 0, 1) := by decide +kernel
theorem dX11_black_5 : decode cX11_black 5 = .ok (.iload_n 1, 1) := by decide +kernel
theorem dX11_black_6 : decode cX11_black 6 = .ok (.iload_n 2, 1) := by decide +kernel
theorem dX11_black_7 : decode cX11_black 7 = .ok (.invokevirtual 376, 3) := by decide +kernel
theorem dX11_black_10 : decode cX11_black 10 = .ok (.ifCond .eq 12, 3) := by decide +kernel
theorem dX11_black_22 : decode cX11_black 22 = .ok (.aload_n 0, 1) := by decide +kernel
theorem dX11_black_23 : decode cX11_black 23 = .ok (.iconst 1, 1) := by decide +kernel
theorem dX11_black_24 : decode cX11_black 24 = .ok (.invokevirtual 203, 3) := by decide +kernel
theorem dX11_black_27 : decode cX11_black 27 = .ok (.ireturn, 1) := by decide +kernel
set_option maxHeartbeats 4000000 in
set_option maxRecDepth 100000 in
theorem r_black (l : Launch) (g : Gx) (h0 : Nat) (p0 : Int32) (p1 : Int32) (v0h0 : Value) (v1h0 : Value) (v2h0 : Value) (v3h0 : Value) (v4h0 : Value) (v5h0 : Value) (v6h0 : Value) (v7h0 : Value) (v8h0 : Value) (v9h0 : Value) (v10h0 : Value) (v11h0 : Value) (v12h0 : Value) (v13h0 : Value) (v15h0 : Value) (v16h0 : Value) (v17h0 : Value) (v18h0 : Value) (v19h0 : Value) (v20h0 : Value) (v21h0 : Value) (v22h0 : Value) (v23h0 : Value) (v24h0 : Value) (v25h0 : Value) (v26h0 : Value) (v27h0 : Value) (v28h0 : Value) (v29h0 : Value) (v30h0 : Value) (v31h0 : Value) (v32h0 : Value) (v33h0 : Value) (v34h0 : Value) (v35h0 : Value) (v36h0 : Value) (v37h0 : Value) (v38h0 : Value) (v39h0 : Value) (v40h0 : Value) (v41h0 : Value) (v42h0 : Value) : cI l g yX11_black cX11_black 3 (some .int) 2 43 0 0 [.ref h0, .int p0, .int p1] [(h0, .inr (11, [v0h0, v1h0, v2h0, v3h0, v4h0, v5h0, v6h0, v7h0, v8h0, v9h0, v10h0, v11h0, v12h0, v13h0, .int 0, v15h0, v16h0, v17h0, v18h0, v19h0, v20h0, v21h0, v22h0, v23h0, v24h0, v25h0, v26h0, v27h0, v28h0, v29h0, v30h0, v31h0, v32h0, v33h0, v34h0, v35h0, v36h0, v37h0, v38h0, v39h0, v40h0, v41h0, v42h0]))] (fun r w => r = (-1) ∧ w = []) := by
  refine cI.of (by decide) (Nat.le_of_ble_eq_true rfl) ?_
  intro p e s m args below meth c A X hr hi
  refine k_lveq [(0, .ref h0), (1, .int p0), (2, .int p1)] rfl ?_
  refine k_aload_n X dX11_black_0 0 rfl ?_
  refine k_callVV (n := 0) (As := []) (st := []) X [(h0, .inr (11, [v0h0, v1h0, v2h0, v3h0, v4h0, v5h0, v6h0, v7h0, v8h0, v9h0, v10h0, v11h0, v12h0, v13h0, .int 0, v15h0, v16h0, v17h0, v18h0, v19h0, v20h0, v21h0, v22h0, v23h0, v24h0, v25h0, v26h0, v27h0, v28h0, v29h0, v30h0, v31h0, v32h0, v33h0, v34h0, v35h0, v36h0, v37h0, v38h0, v39h0, v40h0, v41h0, v42h0]))] [] [0] [] (r_good l g h0 v0h0 v1h0 v2h0 v3h0 v4h0 v5h0 v6h0 v7h0 v8h0 v9h0 v10h0 v11h0 v12h0 v13h0 (.int 0) v15h0 v16h0 v17h0 v18h0 v19h0 v20h0 v21h0 v22h0 v23h0 v24h0 v25h0 v26h0 v27h0 v28h0 v29h0 v30h0 v31h0 v32h0 v33h0 v34h0 v35h0 v36h0 v37h0 v38h0 v39h0 v40h0 v41h0 v42h0) dX11_black_1 mw288 mw289 mw290 mw285 mw291 rfl 11 rfl rfl 0 _ rfl (by unfold yOk; decide) rfl (Nat.le_of_ble_eq_true rfl) (Nat.le_of_ble_eq_true rfl) (Nat.le_of_ble_eq_true rfl) (Nat.le_of_ble_eq_true rfl) (Nat.le_of_ble_eq_true rfl) rfl rfl (by decide) rfl (by decide) (by decide) ?_
  rintro w rfl
  refine k_ws [(h0, .inr (11, [.int 0, v1h0, v2h0, v3h0, v4h0, v5h0, v6h0, v7h0, v8h0, v9h0, v10h0, .int 0, v12h0, v13h0, .int 0, v15h0, v16h0, v17h0, v18h0, v19h0, v20h0, v21h0, v22h0, v23h0, v24h0, v25h0, v26h0, v27h0, v28h0, v29h0, v30h0, v31h0, v32h0, v33h0, v34h0, v35h0, v36h0, v37h0, v38h0, v39h0, v40h0, v41h0, v42h0]))] rfl ?_
  refine k_aload_n X dX11_black_4 0 rfl ?_
  refine k_iload_n X dX11_black_5 1 rfl ?_
  refine k_iload_n X dX11_black_6 2 rfl ?_
  refine k_callVI (n := 2) (As := [.int p0, .int p1]) (st := []) X [(h0, .inr (11, [.int 0, v1h0, v2h0, v3h0, v4h0, v5h0, v6h0, v7h0, v8h0, v9h0, v10h0, .int 0, v12h0, v13h0, .int 0, v15h0, v16h0, v17h0, v18h0, v19h0, v20h0, v21h0, v22h0, v23h0, v24h0, v25h0, v26h0, v27h0, v28h0, v29h0, v30h0, v31h0, v32h0, v33h0, v34h0, v35h0, v36h0, v37h0, v38h0, v39h0, v40h0, v41h0, v42h0]))] [] [0] [] (r_canTell l g h0 p0 p1 (.int 0) v1h0 v2h0 v3h0 v4h0 v5h0 v6h0 v7h0 v8h0 v9h0 v10h0 (.int 0) v12h0 v13h0 v15h0 v16h0 v17h0 v18h0 v19h0 v20h0 v21h0 v22h0 v23h0 v24h0 v25h0 v26h0 v27h0 v28h0 v29h0 v30h0 v31h0 v32h0 v33h0 v34h0 v35h0 v36h0 v37h0 v38h0 v39h0 v40h0 v41h0 v42h0) dX11_black_7 mw304 mw305 mw306 mw285 mw307 rfl 11 rfl rfl 0 _ rfl (by unfold yOk; decide) rfl (Nat.le_of_ble_eq_true rfl) (Nat.le_of_ble_eq_true rfl) (Nat.le_of_ble_eq_true rfl) (Nat.le_of_ble_eq_true rfl) (Nat.le_of_ble_eq_true rfl) rfl rfl (by decide) rfl (by decide) (by decide) ?_
  rintro r w ⟨rfl, rfl⟩
  refine k_ws [(h0, .inr (11, [.int 0, v1h0, v2h0, v3h0, v4h0, v5h0, v6h0, v7h0, v8h0, v9h0, v10h0, .int 0, v12h0, v13h0, .int 0, v15h0, v16h0, v17h0, v18h0, v19h0, v20h0, v21h0, v22h0, v23h0, v24h0, v25h0, v26h0, v27h0, v28h0, v29h0, v30h0, v31h0, v32h0, v33h0, v34h0, v35h0, v36h0, v37h0, v38h0, v39h0, v40h0, v41h0, v42h0]))] rfl ?_
  refine k_if_eq 22 X dX11_black_10 (by decide) (fun _ => ?_) (fun h_1 => absurd (by decide) h_1)
  refine k_aload_n X dX11_black_22 0 rfl ?_
  refine k_iconst (v := 1) X dX11_black_23 (by decide) ?_
  refine k_callVI (n := 1) (As := [.int 1]) (st := []) X [(h0, .inr (11, [.int 0, v1h0, v2h0, v3h0, v4h0, v5h0, v6h0, v7h0, v8h0, v9h0, v10h0, .int 0, v12h0, v13h0, .int 0, v15h0, v16h0, v17h0, v18h0, v19h0, v20h0, v21h0, v22h0, v23h0, v24h0, v25h0, v26h0, v27h0, v28h0, v29h0, v30h0, v31h0, v32h0, v33h0, v34h0, v35h0, v36h0, v37h0, v38h0, v39h0, v40h0, v41h0, v42h0]))] [] [0] [] (r_no l g h0 1 (.int 0) v1h0 v2h0 v3h0 v4h0 v5h0 v6h0 v7h0 v8h0 v9h0 v10h0 (.int 0) v12h0 v13h0 (.int 0) v15h0 v16h0 v17h0 v18h0 v19h0 v20h0 v21h0 v22h0 v23h0 v24h0 v25h0 v26h0 v27h0 v28h0 v29h0 v30h0 v31h0 v32h0 v33h0 v34h0 v35h0 v36h0 v37h0 v38h0 v39h0 v40h0 v41h0 v42h0) dX11_black_24 mw296 mw297 mw298 mw285 mw299 rfl 11 rfl rfl 0 _ rfl (by unfold yOk; decide) rfl (Nat.le_of_ble_eq_true rfl) (Nat.le_of_ble_eq_true rfl) (Nat.le_of_ble_eq_true rfl) (Nat.le_of_ble_eq_true rfl) (Nat.le_of_ble_eq_true rfl) rfl rfl (by decide) rfl (by decide) (by decide) ?_
  rintro r w ⟨rfl, rfl⟩
  refine k_ws [] rfl ?_
  exact k_iret X hr dX11_black_27 (Nat.le_of_ble_eq_true rfl) (Nat.le_of_ble_eq_true rfl) [] (by decide) rfl rfl ⟨rfl, rfl⟩

theorem dX11_tail_0 : decode cX11_tail 0 = .ok (.aload_n 0, 1) := by decide +kernel
theorem dX11_tail_1 : decode cX11_tail 1 = .ok (.invokevirtual 200, 3) := by decide +kernel
theorem dX11_tail_4 : decode cX11_tail 4 = .ok (.aload_n 0, 1) := by decide +kernel
theorem dX11_tail_5 : decode cX11_tail 5 = .ok (.iload_n 1, 1) := by decide +kernel
theorem dX11_tail_6 : decode cX11_tail 6 = .ok (.iload_n 2, 1) := by decide +kernel
theorem dX11_tail_7 : decode cX11_tail 7 = .ok (.invokevirtual 376, 3) := by decide +kernel
theorem dX11_tail_10 : decode cX11_tail 10 = .ok (.ifCond .eq 11, 3) := by decide +kernel
theorem dX11_tail_21 : decode cX11_tail 21 = .ok (.aload_n 0, 1) := by decide +kernel
theorem dX11_tail_22 : decode cX11_tail 22 = .ok (.iconst 1, 1) := by decide +kernel
theorem dX11_tail_23 : decode cX11_tail 23 = .ok (.invokevirtual 203, 3) := by decide +kernel
theorem dX11_tail_26 : decode cX11_tail 26 = .ok (.ireturn, 1) := by decide +kernel
set_option maxHeartbeats 4000000 in
set_option maxRecDepth 100000 in
theorem r_tail (l : Launch) (g : Gx) (h0 : Nat) (p0 : Int32) (p1 : Int32) (v0h0 : Value) (v1h0 : Value) (v2h0 : Value) (v3h0 : Value) (v4h0 : Value) (v5h0 : Value) (v6h0 : Value) (v7h0 : Value) (v8h0 : Value) (v9h0 : Value) (v10h0 : Value) (v11h0 : Value) (v12h0 : Value) (v13h0 : Value) (v15h0 : Value) (v16h0 : Value) (v17h0 : Value) (v18h0 : Value) (v19h0 : Value) (v20h0 : Value) (v21h0 : Value) (v22h0 : Value) (v23h0 : Value) (v24h0 : Value) (v25h0 : Value) (v26h0 : Value) (v27h0 : Value) (v28h0 : Value) (v29h0 : Value) (v30h0 : Value) (v31h0 : Value) (v32h0 : Value) (v33h0 : Value) (v34h0 : Value) (v35h0 : Value) (v36h0 : Value) (v37h0 : Value) (v38h0 : Value) (v39h0 : Value) (v40h0 : Value) (v41h0 : Value) (v42h0 : Value) : cI l g yX11_tail cX11_tail 3 (some .int) 2 43 0 0 [.ref h0, .int p0, .int p1] [(h0, .inr (11, [v0h0, v1h0, v2h0, v3h0, v4h0, v5h0, v6h0, v7h0, v8h0, v9h0, v10h0, v11h0, v12h0, v13h0, .int 0, v15h0, v16h0, v17h0, v18h0, v19h0, v20h0, v21h0, v22h0, v23h0, v24h0, v25h0, v26h0, v27h0, v28h0, v29h0, v30h0, v31h0, v32h0, v33h0, v34h0, v35h0, v36h0, v37h0, v38h0, v39h0, v40h0, v41h0, v42h0]))] (fun r w => r = (-1) ∧ w = []) := by
  refine cI.of (by decide) (Nat.le_of_ble_eq_true rfl) ?_
  intro p e s m args below meth c A X hr hi
  refine k_lveq [(0, .ref h0), (1, .int p0), (2, .int p1)] rfl ?_
  refine k_aload_n X dX11_tail_0 0 rfl ?_
  refine k_callVV (n := 0) (As := []) (st := []) X [(h0, .inr (11, [v0h0, v1h0, v2h0, v3h0, v4h0, v5h0, v6h0, v7h0, v8h0, v9h0, v10h0, v11h0, v12h0, v13h0, .int 0, v15h0, v16h0, v17h0, v18h0, v19h0, v20h0, v21h0, v22h0, v23h0, v24h0, v25h0, v26h0, v27h0, v28h0, v29h0, v30h0, v31h0, v32h0, v33h0, v34h0, v35h0, v36h0, v37h0, v38h0, v39h0, v40h0, v41h0, v42h0]))] [] [0] [] (r_good l g h0 v0h0 v1h0 v2h0 v3h0 v4h0 v5h0 v6h0 v7h0 v8h0 v9h0 v10h0 v11h0 v12h0 v13h0 (.int 0) v15h0 v16h0 v17h0 v18h0 v19h0 v20h0 v21h0 v22h0 v23h0 v24h0 v25h0 v26h0 v27h0 v28h0 v29h0 v30h0 v31h0 v32h0 v33h0 v34h0 v35h0 v36h0 v37h0 v38h0 v39h0 v40h0 v41h0 v42h0) dX11_tail_1 mw288 mw289 mw290 mw285 mw291 rfl 11 rfl rfl 0 _ rfl (by unfold yOk; decide) rfl (Nat.le_of_ble_eq_true rfl) (Nat.le_of_ble_eq_true rfl) (Nat.le_of_ble_eq_true rfl) (Nat.le_of_ble_eq_true rfl) (Nat.le_of_ble_eq_true rfl) rfl rfl (by decide) rfl (by decide) (by decide) ?_
  rintro w rfl
  refine k_ws [(h0, .inr (11, [.int 0, v1h0, v2h0, v3h0, v4h0, v5h0, v6h0, v7h0, v8h0, v9h0, v10h0, .int 0, v12h0, v13h0, .int 0, v15h0, v16h0, v17h0, v18h0, v19h0, v20h0, v21h0, v22h0, v23h0, v24h0, v25h0, v26h0, v27h0, v28h0, v29h0, v30h0, v31h0, v32h0, v33h0, v34h0, v35h0, v36h0, v37h0, v38h0, v39h0, v40h0, v41h0, v42h0]))] rfl ?_
  refine k_aload_n X dX11_tail_4 0 rfl ?_
  refine k_iload_n X dX11_tail_5 1 rfl ?_
  refine k_iload_n X dX11_tail_6 2 rfl ?_
  refine k_callVI (n := 2) (As := [.int p0, .int p1]) (st := []) X [(h0, .inr (11, [.int 0, v1h0, v2h0, v3h0, v4h0, v5h0, v6h0, v7h0, v8h0, v9h0, v10h0, .int 0, v12h0, v13h0, .int 0, v15h0, v16h0, v17h0, v18h0, v19h0, v20h0, v21h0, v22h0, v23h0, v24h0, v25h0, v26h0, v27h0, v28h0, v29h0, v30h0, v31h0, v32h0, v33h0, v34h0, v35h0, v36h0, v37h0, v38h0, v39h0, v40h0, v41h0, v42h0]))] [] [0] [] (r_canTell l g h0 p0 p1 (.int 0) v1h0 v2h0 v3h0 v4h0 v5h0 v6h0 v7h0 v8h0 v9h0 v10h0 (.int 0) v12h0 v13h0 v15h0 v16h0 v17h0 v18h0 v19h0 v20h0 v21h0 v22h0 v23h0 v24h0 v25h0 v26h0 v27h0 v28h0 v29h0 v30h0 v31h0 v32h0 v33h0 v34h0 v35h0 v36h0 v37h0 v38h0 v39h0 v40h0 v41h0 v42h0) dX11_tail_7 mw304 mw305 mw306 mw285 mw307 rfl 11 rfl rfl 0 _ rfl (by unfold yOk; decide) rfl (Nat.le_of_ble_eq_true rfl) (Nat.le_of_ble_eq_true rfl) (Nat.le_of_ble_eq_true rfl) (Nat.le_of_ble_eq_true rfl) (Nat.le_of_ble_eq_true rfl) rfl rfl (by decide) rfl (by decide) (by decide) ?_
  rintro r w ⟨rfl, rfl⟩
  refine k_ws [(h0, .inr (11, [.int 0, v1h0, v2h0, v3h0, v4h0, v5h0, v6h0, v7h0, v8h0, v9h0, v10h0, .int 0, v12h0, v13h0, .int 0, v15h0, v16h0, v17h0, v18h0, v19h0, v20h0, v21h0, v22h0, v23h0, v24h0, v25h0, v26h0, v27h0, v28h0, v29h0, v30h0, v31h0, v32h0, v33h0, v34h0, v35h0, v36h0, v37h0, v38h0, v39h0, v40h0, v41h0, v42h0]))] rfl ?_
  refine k_if_eq 21 X dX11_tail_10 (by decide) (fun _ => ?_) (fun h_1 => absurd (by decide) h_1)
  refine k_aload_n X dX11_tail_21 0 rfl ?_
  refine k_iconst (v := 1) X dX11_tail_22 (by decide) ?_
  refine k_callVI (n := 1) (As := [.int 1]) (st := []) X [(h0, .inr (11, [.int 0, v1h0, v2h0, v3h0, v4h0, v5h0, v6h0, v7h0, v8h0, v9h0, v10h0, .int 0, v12h0, v13h0, .int 0, v15h0, v16h0, v17h0, v18h0, v19h0, v20h0, v21h0, v22h0, v23h0, v24h0, v25h0, v26h0, v27h0, v28h0, v29h0, v30h0, v31h0, v32h0, v33h0, v34h0, v35h0, v36h0, v37h0, v38h0, v39h0, v40h0, v41h0, v42h0]))] [] [0] [] (r_no l g h0 1 (.int 0) v1h0 v2h0 v3h0 v4h0 v5h0 v6h0 v7h0 v8h0 v9h0 v10h0 (.int 0) v12h0 v13h0 (.int 0) v15h0 v16h0 v17h0 v18h0 v19h0 v20h0 v21h0 v22h0 v23h0 v24h0 v25h0 v26h0 v27h0 v28h0 v29h0 v30h0 v31h0 v32h0 v33h0 v34h0 v35h0 v36h0 v37h0 v38h0 v39h0 v40h0 v41h0 v42h0) dX11_tail_23 mw296 mw297 mw298 mw285 mw299 rfl 11 rfl rfl 0 _ rfl (by unfold yOk; decide) rfl (Nat.le_of_ble_eq_true rfl) (Nat.le_of_ble_eq_true rfl) (Nat.le_of_ble_eq_true rfl) (Nat.le_of_ble_eq_true rfl) (Nat.le_of_ble_eq_true rfl) rfl rfl (by decide) rfl (by decide) (by decide) ?_
  rintro r w ⟨rfl, rfl⟩
  refine k_ws [] rfl ?_
  exact k_iret X hr dX11_tail_26 (Nat.le_of_ble_eq_true rfl) (Nat.le_of_ble_eq_true rfl) [] (by decide) rfl rfl ⟨rfl, rfl⟩

theorem dX11_begins_0 : decode cX11_begins 0 = .ok (.aload_n 0, 1) := by decide +kernel
theorem dX11_begins_1 : decode cX11_begins 1 = .ok (.invokevirtual 200, 3) := by decide +kernel
theorem dX11_begins_4 : decode cX11_begins 4 = .ok (.aload_n 0, 1) := by decide +kernel
theorem dX11_begins_5 : decode cX11_begins 5 = .ok (.iload_n 1, 1) := by decide +kernel
theorem dX11_begins_6 : decode cX11_begins 6 = .ok (.iload_n 2, 1) := by decide +kernel
theorem dX11_begins_7 : decode cX11_begins 7 = .ok (.invokevirtual 376, 3) := by decide +kernel
theorem dX11_begins_10 : decode cX11_begins 10 = .ok (.ifCond .eq 12, 3) := by decide +kernel
theorem dX11_begins_22 : decode cX11_begins 22 = .ok (.aload_n 0, 1) := by decide +kernel
theorem dX11_begins_23 : decode cX11_begins 23 = .ok (.iconst 1, 1) := by decide +kernel
theorem dX11_begins_24 : decode cX11_begins 24 = .ok (.invokevirtual 203, 3) := by decide +kernel
theorem dX11_begins_27 : decode cX11_begins 27 = .ok (.ireturn, 1) := by decide +kernel
set_option maxHeartbeats 4000000 in
set_option maxRecDepth 100000 in
theorem r_begins (l : Launch) (g : Gx) (h0 : Nat) (p0 : Int32) (p1 : Int32) (v0h0 : Value) (v1h0 : Value) (v2h0 : Value) (v3h0 : Value) (v4h0 : Value) (v5h0 : Value) (v6h0 : Value) (v7h0 : Value) (v8h0 : Value) (v9h0 : Value) (v10h0 : Value) (v11h0 : Value) (v12h0 : Value) (v13h0 : Value) (v15h0 : Value) (v16h0 : Value) (v17h0 : Value) (v18h0 : Value) (v19h0 : Value) (v20h0 : Value) (v21h0 : Value) (v22h0 : Value) (v23h0 : Value) (v24h0 : Value) (v25h0 : Value) (v26h0 : Value) (v27h0 : Value) (v28h0 : Value) (v29h0 : Value) (v30h0 : Value) (v31h0 : Value) (v32h0 : Value) (v33h0 : Value) (v34h0 : Value) (v35h0 : Value) (v36h0 : Value) (v37h0 : Value) (v38h0 : Value) (v39h0 : Value) (v40h0 : Value) (v41h0 : Value) (v42h0 : Value) : cI l g yX11_begins cX11_begins 3 (some .int) 2 43 0 0 [.ref h0, .int p0, .int p1] [(h0, .inr (11, [v0h0, v1h0, v2h0, v3h0, v4h0, v5h0, v6h0, v7h0, v8h0, v9h0, v10h0, v11h0, v12h0, v13h0, .int 0, v15h0, v16h0, v17h0, v18h0, v19h0, v20h0, v21h0, v22h0, v23h0, v24h0, v25h0, v26h0, v27h0, v28h0, v29h0, v30h0, v31h0, v32h0, v33h0, v34h0, v35h0, v36h0, v37h0, v38h0, v39h0, v40h0, v41h0, v42h0]))] (fun r w => r = (-1) ∧ w = []) := by
  refine cI.of (by decide) (Nat.le_of_ble_eq_true rfl) ?_
  intro p e s m args below meth c A X hr hi
  refine k_lveq [(0, .ref h0), (1, .int p0), (2, .int p1)] rfl ?_
  refine k_aload_n X dX11_begins_0 0 rfl ?_
  refine k_callVV (n := 0) (As := []) (st := []) X [(h0, .inr (11, [v0h0, v1h0, v2h0, v3h0, v4h0, v5h0, v6h0, v7h0, v8h0, v9h0, v10h0, v11h0, v12h0, v13h0, .int 0, v15h0, v16h0, v17h0, v18h0, v19h0, v20h0, v21h0, v22h0, v23h0, v24h0, v25h0, v26h0, v27h0, v28h0, v29h0, v30h0, v31h0, v32h0, v33h0, v34h0, v35h0, v36h0, v37h0, v38h0, v39h0, v40h0, v41h0, v42h0]))] [] [0] [] (r_good l g h0 v0h0 v1h0 v2h0 v3h0 v4h0 v5h0 v6h0 v7h0 v8h0 v9h0 v10h0 v11h0 v12h0 v13h0 (.int 0) v15h0 v16h0 v17h0 v18h0 v19h0 v20h0 v21h0 v22h0 v23h0 v24h0 v25h0 v26h0 v27h0 v28h0 v29h0 v30h0 v31h0 v32h0 v33h0 v34h0 v35h0 v36h0 v37h0 v38h0 v39h0 v40h0 v41h0 v42h0) dX11_begins_1 mw288 mw289 mw290 mw285 mw291 rfl 11 rfl rfl 0 _ rfl (by unfold yOk; decide) rfl (Nat.le_of_ble_eq_true rfl) (Nat.le_of_ble_eq_true rfl) (Nat.le_of_ble_eq_true rfl) (Nat.le_of_ble_eq_true rfl) (Nat.le_of_ble_eq_true rfl) rfl rfl (by decide) rfl (by decide) (by decide) ?_
  rintro w rfl
  refine k_ws [(h0, .inr (11, [.int 0, v1h0, v2h0, v3h0, v4h0, v5h0, v6h0, v7h0, v8h0, v9h0, v10h0, .int 0, v12h0, v13h0, .int 0, v15h0, v16h0, v17h0, v18h0, v19h0, v20h0, v21h0, v22h0, v23h0, v24h0, v25h0, v26h0, v27h0, v28h0, v29h0, v30h0, v31h0, v32h0, v33h0, v34h0, v35h0, v36h0, v37h0, v38h0, v39h0, v40h0, v41h0, v42h0]))] rfl ?_
  refine k_aload_n X dX11_begins_4 0 rfl ?_
  refine k_iload_n X dX11_begins_5 1 rfl ?_
  refine k_iload_n X dX11_begins_6 2 rfl ?_
  refine k_callVI (n := 2) (As := [.int p0, .int p1]) (st := []) X [(h0, .inr (11, [.int 0, v1h0, v2h0, v3h0, v4h0, v5h0, v6h0, v7h0, v8h0, v9h0, v10h0, .int 0, v12h0, v13h0, .int 0, v15h0, v16h0, v17h0, v18h0, v19h0, v20h0, v21h0, v22h0, v23h0, v24h0, v25h0, v26h0, v27h0, v28h0, v29h0, v30h0, v31h0, v32h0, v33h0, v34h0, v35h0, v36h0, v37h0, v38h0, v39h0, v40h0, v41h0, v42h0]))] [] [0] [] (r_canTell l g h0 p0 p1 (.int 0) v1h0 v2h0 v3h0 v4h0 v5h0 v6h0 v7h0 v8h0 v9h0 v10h0 (.int 0) v12h0 v13h0 v15h0 v16h0 v17h0 v18h0 v19h0 v20h0 v21h0 v22h0 v23h0 v24h0 v25h0 v26h0 v27h0 v28h0 v29h0 v30h0 v31h0 v32h0 v33h0 v34h0 v35h0 v36h0 v37h0 v38h0 v39h0 v40h0 v41h0 v42h0) dX11_begins_7 mw304 mw305 mw306 mw285 mw307 rfl 11 rfl rfl 0 _ rfl (by unfold yOk; decide) rfl (Nat.le_of_ble_eq_true rfl) (Nat.le_of_ble_eq_true rfl) (Nat.le_of_ble_eq_true rfl) (Nat.le_of_ble_eq_true rfl) (Nat.le_of_ble_eq_true rfl) rfl rfl (by decide) rfl (by decide) (by decide) ?_
  rintro r w ⟨rfl, rfl⟩
  refine k_ws [(h0, .inr (11, [.int 0, v1h0, v2h0, v3h0, v4h0, v5h0, v6h0, v7h0, v8h0, v9h0, v10h0, .int 0, v12h0, v13h0, .int 0, v15h0, v16h0, v17h0, v18h0, v19h0, v20h0, v21h0, v22h0, v23h0, v24h0, v25h0, v26h0, v27h0, v28h0, v29h0, v30h0, v31h0, v32h0, v33h0, v34h0, v35h0, v36h0, v37h0, v38h0, v39h0, v40h0, v41h0, v42h0]))] rfl ?_
  refine k_if_eq 22 X dX11_begins_10 (by decide) (fun _ => ?_) (fun h_1 => absurd (by decide) h_1)
  refine k_aload_n X dX11_begins_22 0 rfl ?_
  refine k_iconst (v := 1) X dX11_begins_23 (by decide) ?_
  refine k_callVI (n := 1) (As := [.int 1]) (st := []) X [(h0, .inr (11, [.int 0, v1h0, v2h0, v3h0, v4h0, v5h0, v6h0, v7h0, v8h0, v9h0, v10h0, .int 0, v12h0, v13h0, .int 0, v15h0, v16h0, v17h0, v18h0, v19h0, v20h0, v21h0, v22h0, v23h0, v24h0, v25h0, v26h0, v27h0, v28h0, v29h0, v30h0, v31h0, v32h0, v33h0, v34h0, v35h0, v36h0, v37h0, v38h0, v39h0, v40h0, v41h0, v42h0]))] [] [0] [] (r_no l g h0 1 (.int 0) v1h0 v2h0 v3h0 v4h0 v5h0 v6h0 v7h0 v8h0 v9h0 v10h0 (.int 0) v12h0 v13h0 (.int 0) v15h0 v16h0 v17h0 v18h0 v19h0 v20h0 v21h0 v22h0 v23h0 v24h0 v25h0 v26h0 v27h0 v28h0 v29h0 v30h0 v31h0 v32h0 v33h0 v34h0 v35h0 v36h0 v37h0 v38h0 v39h0 v40h0 v41h0 v42h0) dX11_begins_24 mw296 mw297 mw298 mw285 mw299 rfl 11 rfl rfl 0 _ rfl (by unfold yOk; decide) rfl (Nat.le_of_ble_eq_true rfl) (Nat.le_of_ble_eq_true rfl) (Nat.le_of_ble_eq_true rfl) (Nat.le_of_ble_eq_true rfl) (Nat.le_of_ble_eq_true rfl) rfl rfl (by decide) rfl (by decide) (by decide) ?_
  rintro r w ⟨rfl, rfl⟩
  refine k_ws [] rfl ?_
  exact k_iret X hr dX11_begins_27 (Nat.le_of_ble_eq_true rfl) (Nat.le_of_ble_eq_true rfl) [] (by decide) rfl rfl ⟨rfl, rfl⟩

theorem dX11_exact_0 : decode cX11_exact 0 = .ok (.aload_n 0, 1) := by decide +kernel
theorem dX11_exact_1 : decode cX11_exact 1 = .ok (.invokevirtual 200, 3) := by decide +kernel
theorem dX11_exact_4 : decode cX11_exact 4 = .ok (.iload_n 2, 1) := by decide +kernel
theorem dX11_exact_5 : decode cX11_exact 5 = .ok (.iconst 1, 1) := by decide +kernel
theorem dX11_exact_6 : decode cX11_exact 6 = .ok (.if_icmp .lt 12, 3) := by decide +kernel
theorem dX11_exact_9 : decode cX11_exact 9 = .ok (.aload_n 0, 1) := by decide +kernel
theorem dX11_exact_10 : decode cX11_exact 10 = .ok (.iload_n 1, 1) := by decide +kernel
theorem dX11_exact_11 : decode cX11_exact 11 = .ok (.iload_n 2, 1) := by decide +kernel
theorem dX11_exact_12 : decode cX11_exact 12 = .ok (.invokevirtual 376, 3) := by decide +kernel
theorem dX11_exact_15 : decode cX11_exact 15 = .ok (.ifCond .ne 9, 3) := by decide +kernel
theorem dX11_exact_18 : decode cX11_exact 18 = .ok (.aload_n 0, 1) := by decide +kernel
theorem dX11_exact_19 : decode cX11_exact 19 = .ok (.iconst 1, 1) := by decide +kernel
theorem dX11_exact_20 : decode cX11_exact 20 = .ok (.invokevirtual 203, 3) := by decide +kernel
theorem dX11_exact_23 : decode cX11_exact 23 = .ok (.ireturn, 1) := by decide +kernel
set_option maxHeartbeats 4000000 in
set_option maxRecDepth 100000 in
theorem r_exact (l : Launch) (g : Gx) (h0 : Nat) (p0 : Int32) (p1 : Int32) (v0h0 : Value) (v1h0 : Value) (v2h0 : Value) (v3h0 : Value) (v4h0 : Value) (v5h0 : Value) (v6h0 : Value) (v7h0 : Value) (v8h0 : Value) (v9h0 : Value) (v10h0 : Value) (v11h0 : Value) (v12h0 : Value) (v13h0 : Value) (v15h0 : Value) (v16h0 : Value) (v17h0 : Value) (v18h0 : Value) (v19h0 : Value) (v20h0 : Value) (v21h0 : Value) (v22h0 : Value) (v23h0 : Value) (v24h0 : Value) (v25h0 : Value) (v26h0 : Value) (v27h0 : Value) (v28h0 : Value) (v29h0 : Value) (v30h0 : Value) (v31h0 : Value) (v32h0 : Value) (v33h0 : Value) (v34h0 : Value) (v35h0 : Value) (v36h0 : Value) (v37h0 : Value) (v38h0 : Value) (v39h0 : Value) (v40h0 : Value) (v41h0 : Value) (v42h0 : Value) : cI l g yX11_exact cX11_exact 3 (some .int) 2 43 0 0 [.ref h0, .int p0, .int p1] [(h0, .inr (11, [v0h0, v1h0, v2h0, v3h0, v4h0, v5h0, v6h0, v7h0, v8h0, v9h0, v10h0, v11h0, v12h0, v13h0, .int 0, v15h0, v16h0, v17h0, v18h0, v19h0, v20h0, v21h0, v22h0, v23h0, v24h0, v25h0, v26h0, v27h0, v28h0, v29h0, v30h0, v31h0, v32h0, v33h0, v34h0, v35h0, v36h0, v37h0, v38h0, v39h0, v40h0, v41h0, v42h0]))] (fun r w => r = (-1) ∧ w = []) := by
  refine cI.of (by decide) (Nat.le_of_ble_eq_true rfl) ?_
  intro p e s m args below meth c A X hr hi
  refine k_lveq [(0, .ref h0), (1, .int p0), (2, .int p1)] rfl ?_
  refine k_aload_n X dX11_exact_0 0 rfl ?_
  refine k_callVV (n := 0) (As := []) (st := []) X [(h0, .inr (11, [v0h0, v1h0, v2h0, v3h0, v4h0, v5h0, v6h0, v7h0, v8h0, v9h0, v10h0, v11h0, v12h0, v13h0, .int 0, v15h0, v16h0, v17h0, v18h0, v19h0, v20h0, v21h0, v22h0, v23h0, v24h0, v25h0, v26h0, v27h0, v28h0, v29h0, v30h0, v31h0, v32h0, v33h0, v34h0, v35h0, v36h0, v37h0, v38h0, v39h0, v40h0, v41h0, v42h0]))] [] [0] [] (r_good l g h0 v0h0 v1h0 v2h0 v3h0 v4h0 v5h0 v6h0 v7h0 v8h0 v9h0 v10h0 v11h0 v12h0 v13h0 (.int 0) v15h0 v16h0 v17h0 v18h0 v19h0 v20h0 v21h0 v22h0 v23h0 v24h0 v25h0 v26h0 v27h0 v28h0 v29h0 v30h0 v31h0 v32h0 v33h0 v34h0 v35h0 v36h0 v37h0 v38h0 v39h0 v40h0 v41h0 v42h0) dX11_exact_1 mw288 mw289 mw290 mw285 mw291 rfl 11 rfl rfl 0 _ rfl (by unfold yOk; decide) rfl (Nat.le_of_ble_eq_true rfl) (Nat.le_of_ble_eq_true rfl) (Nat.le_of_ble_eq_true rfl) (Nat.le_of_ble_eq_true rfl) (Nat.le_of_ble_eq_true rfl) rfl rfl (by decide) rfl (by decide) (by decide) ?_
  rintro w rfl
  refine k_ws [(h0, .inr (11, [.int 0, v1h0, v2h0, v3h0, v4h0, v5h0, v6h0, v7h0, v8h0, v9h0, v10h0, .int 0, v12h0, v13h0, .int 0, v15h0, v16h0, v17h0, v18h0, v19h0, v20h0, v21h0, v22h0, v23h0, v24h0, v25h0, v26h0, v27h0, v28h0, v29h0, v30h0, v31h0, v32h0, v33h0, v34h0, v35h0, v36h0, v37h0, v38h0, v39h0, v40h0, v41h0, v42h0]))] rfl ?_
  refine k_iload_n X dX11_exact_4 2 rfl ?_
  refine k_iconst (v := 1) X dX11_exact_5 (by decide) ?_
  refine k_ic_lt 18 X dX11_exact_6 (by decide) (fun h_1 => ?_) (fun h_1 => ?_)
  · skip
    refine k_aload_n X dX11_exact_18 0 rfl ?_
    refine k_iconst (v := 1) X dX11_exact_19 (by decide) ?_
    refine k_callVI (n := 1) (As := [.int 1]) (st := []) X [(h0, .inr (11, [.int 0, v1h0, v2h0, v3h0, v4h0, v5h0, v6h0, v7h0, v8h0, v9h0, v10h0, .int 0, v12h0, v13h0, .int 0, v15h0, v16h0, v17h0, v18h0, v19h0, v20h0, v21h0, v22h0, v23h0, v24h0, v25h0, v26h0, v27h0, v28h0, v29h0, v30h0, v31h0, v32h0, v33h0, v34h0, v35h0, v36h0, v37h0, v38h0, v39h0, v40h0, v41h0, v42h0]))] [] [0] [] (r_no l g h0 1 (.int 0) v1h0 v2h0 v3h0 v4h0 v5h0 v6h0 v7h0 v8h0 v9h0 v10h0 (.int 0) v12h0 v13h0 (.int 0) v15h0 v16h0 v17h0 v18h0 v19h0 v20h0 v21h0 v22h0 v23h0 v24h0 v25h0 v26h0 v27h0 v28h0 v29h0 v30h0 v31h0 v32h0 v33h0 v34h0 v35h0 v36h0 v37h0 v38h0 v39h0 v40h0 v41h0 v42h0) dX11_exact_20 mw296 mw297 mw298 mw285 mw299 rfl 11 rfl rfl 0 _ rfl (by unfold yOk; decide) rfl (Nat.le_of_ble_eq_true rfl) (Nat.le_of_ble_eq_true rfl) (Nat.le_of_ble_eq_true rfl) (Nat.le_of_ble_eq_true rfl) (Nat.le_of_ble_eq_true rfl) rfl rfl (by decide) rfl (by decide) (by decide) ?_
    rintro r w ⟨rfl, rfl⟩
    refine k_ws [] rfl ?_
    exact k_iret X hr dX11_exact_23 (Nat.le_of_ble_eq_true rfl) (Nat.le_of_ble_eq_true rfl) [] (by decide) rfl rfl ⟨rfl, rfl⟩
  · skip
    refine k_aload_n X dX11_exact_9 0 rfl ?_
    refine k_iload_n X dX11_exact_10 1 rfl ?_
    refine k_iload_n X dX11_exact_11 2 rfl ?_
    refine k_callVI (n := 2) (As := [.int p0, .int p1]) (st := []) X [(h0, .inr (11, [.int 0, v1h0, v2h0, v3h0, v4h0, v5h0, v6h0, v7h0, v8h0, v9h0, v10h0, .int 0, v12h0, v13h0, .int 0, v15h0, v16h0, v17h0, v18h0, v19h0, v20h0, v21h0, v22h0, v23h0, v24h0, v25h0, v26h0, v27h0, v28h0, v29h0, v30h0, v31h0, v32h0, v33h0, v34h0, v35h0, v36h0, v37h0, v38h0, v39h0, v40h0, v41h0, v42h0]))] [] [0] [] (r_canTell l g h0 p0 p1 (.int 0) v1h0 v2h0 v3h0 v4h0 v5h0 v6h0 v7h0 v8h0 v9h0 v10h0 (.int 0) v12h0 v13h0 v15h0 v16h0 v17h0 v18h0 v19h0 v20h0 v21h0 v22h0 v23h0 v24h0 v25h0 v26h0 v27h0 v28h0 v29h0 v30h0 v31h0 v32h0 v33h0 v34h0 v35h0 v36h0 v37h0 v38h0 v39h0 v40h0 v41h0 v42h0) dX11_exact_12 mw304 mw305 mw306 mw285 mw307 rfl 11 rfl rfl 0 _ rfl (by unfold yOk; decide) rfl (Nat.le_of_ble_eq_true rfl) (Nat.le_of_ble_eq_true rfl) (Nat.le_of_ble_eq_true rfl) (Nat.le_of_ble_eq_true rfl) (Nat.le_of_ble_eq_true rfl) rfl rfl (by decide) rfl (by decide) (by decide) ?_
    rintro r w ⟨rfl, rfl⟩
    refine k_ws [(h0, .inr (11, [.int 0, v1h0, v2h0, v3h0, v4h0, v5h0, v6h0, v7h0, v8h0, v9h0, v10h0, .int 0, v12h0, v13h0, .int 0, v15h0, v16h0, v17h0, v18h0, v19h0, v20h0, v21h0, v22h0, v23h0, v24h0, v25h0, v26h0, v27h0, v28h0, v29h0, v30h0, v31h0, v32h0, v33h0, v34h0, v35h0, v36h0, v37h0, v38h0, v39h0, v40h0, v41h0, v42h0]))] rfl ?_
    refine k_if_ne 24 X dX11_exact_15 (by decide) (fun h_2 => absurd h_2 (by decide)) (fun _ => ?_)
    refine k_aload_n X dX11_exact_18 0 rfl ?_
    refine k_iconst (v := 1) X dX11_exact_19 (by decide) ?_
    refine k_callVI (n := 1) (As := [.int 1]) (st := []) X [(h0, .inr (11, [.int 0, v1h0, v2h0, v3h0, v4h0, v5h0, v6h0, v7h0, v8h0, v9h0, v10h0, .int 0, v12h0, v13h0, .int 0, v15h0, v16h0, v17h0, v18h0, v19h0, v20h0, v21h0, v22h0, v23h0, v24h0, v25h0, v26h0, v27h0, v28h0, v29h0, v30h0, v31h0, v32h0, v33h0, v34h0, v35h0, v36h0, v37h0, v38h0, v39h0, v40h0, v41h0, v42h0]))] [] [0] [] (r_no l g h0 1 (.int 0) v1h0 v2h0 v3h0 v4h0 v5h0 v6h0 v7h0 v8h0 v9h0 v10h0 (.int 0) v12h0 v13h0 (.int 0) v15h0 v16h0 v17h0 v18h0 v19h0 v20h0 v21h0 v22h0 v23h0 v24h0 v25h0 v26h0 v27h0 v28h0 v29h0 v30h0 v31h0 v32h0 v33h0 v34h0 v35h0 v36h0 v37h0 v38h0 v39h0 v40h0 v41h0 v42h0) dX11_exact_20 mw296 mw297 mw298 mw285 mw299 rfl 11 rfl rfl 0 _ rfl (by unfold yOk; decide) rfl (Nat.le_of_ble_eq_true rfl) (Nat.le_of_ble_eq_true rfl) (Nat.le_of_ble_eq_true rfl) (Nat.le_of_ble_eq_true rfl) (Nat.le_of_ble_eq_true rfl) rfl rfl (by decide) rfl (by decide) (by decide) ?_
    rintro r w ⟨rfl, rfl⟩
    refine k_ws [] rfl ?_
    exact k_iret X hr dX11_exact_23 (Nat.le_of_ble_eq_true rfl) (Nat.le_of_ble_eq_true rfl) [] (by decide) rfl rfl ⟨rfl, rfl⟩

theorem dX11_fits_0 : decode cX11_fits 0 = .ok (.aload_n 0, 1) := by decide +kernel
theorem dX11_fits_1 : decode cX11_fits 1 = .ok (.invokevirtual 200, 3) := by decide +kernel
theorem dX11_fits_4 : decode cX11_fits 4 = .ok (.aload_n 0, 1) := by decide +kernel
theorem dX11_fits_5 : decode cX11_fits 5 = .ok (.getfield 213, 3) := by decide +kernel
theorem dX11_fits_8 : decode cX11_fits 8 = .ok (.ifCond .ne 9, 3) := by decide +kernel
theorem dX11_fits_11 : decode cX11_fits 11 = .ok (.aload_n 0, 1) := by decide +kernel
theorem dX11_fits_12 : decode cX11_fits 12 = .ok (.iconst 1, 1) := by decide +kernel
theorem dX11_fits_13 : decode cX11_fits 13 = .ok (.invokevirtual 203, 3) := by decide +kernel
theorem dX11_fits_16 : decode cX11_fits 16 = .ok (.ireturn, 1) := by decide +kernel
set_option maxHeartbeats 4000000 in
set_option maxRecDepth 100000 in
theorem r_fits (l : Launch) (g : Gx) (h0 : Nat) (v0h0 : Value) (v1h0 : Value) (v2h0 : Value) (v3h0 : Value) (v4h0 : Value) (v5h0 : Value) (v6h0 : Value) (v7h0 : Value) (v8h0 : Value) (v9h0 : Value) (v10h0 : Value) (v11h0 : Value) (v12h0 : Value) (v13h0 : Value) (v15h0 : Value) (v16h0 : Value) (v17h0 : Value) (v18h0 : Value) (v19h0 : Value) (v20h0 : Value) (v21h0 : Value) (v22h0 : Value) (v23h0 : Value) (v24h0 : Value) (v25h0 : Value) (v26h0 : Value) (v27h0 : Value) (v28h0 : Value) (v29h0 : Value) (v30h0 : Value) (v31h0 : Value) (v32h0 : Value) (v33h0 : Value) (v34h0 : Value) (v35h0 : Value) (v36h0 : Value) (v37h0 : Value) (v38h0 : Value) (v39h0 : Value) (v40h0 : Value) (v41h0 : Value) (v42h0 : Value) : cI l g yX11_fits cX11_fits 3 (some .int) 1 21 0 0 [.ref h0] [(h0, .inr (11, [v0h0, v1h0, v2h0, v3h0, v4h0, v5h0, v6h0, v7h0, v8h0, v9h0, v10h0, v11h0, v12h0, v13h0, .int 0, v15h0, v16h0, v17h0, v18h0, v19h0, v20h0, v21h0, v22h0, v23h0, v24h0, v25h0, v26h0, v27h0, v28h0, v29h0, v30h0, v31h0, v32h0, v33h0, v34h0, v35h0, v36h0, v37h0, v38h0, v39h0, v40h0, v41h0, v42h0]))] (fun r w => r = (-1) ∧ w = []) := by
  refine cI.of (by decide) (Nat.le_of_ble_eq_true rfl) ?_
  intro p e s m args below meth c A X hr hi
  refine k_lveq [(0, .ref h0)] rfl ?_
  refine k_aload_n X dX11_fits_0 0 rfl ?_
  refine k_callVV (n := 0) (As := []) (st := []) X [(h0, .inr (11, [v0h0, v1h0, v2h0, v3h0, v4h0, v5h0, v6h0, v7h0, v8h0, v9h0, v10h0, v11h0, v12h0, v13h0, .int 0, v15h0, v16h0, v17h0, v18h0, v19h0, v20h0, v21h0, v22h0, v23h0, v24h0, v25h0, v26h0, v27h0, v28h0, v29h0, v30h0, v31h0, v32h0, v33h0, v34h0, v35h0, v36h0, v37h0, v38h0, v39h0, v40h0, v41h0, v42h0]))] [] [0] [] (r_good l g h0 v0h0 v1h0 v2h0 v3h0 v4h0 v5h0 v6h0 v7h0 v8h0 v9h0 v10h0 v11h0 v12h0 v13h0 (.int 0) v15h0 v16h0 v17h0 v18h0 v19h0 v20h0 v21h0 v22h0 v23h0 v24h0 v25h0 v26h0 v27h0 v28h0 v29h0 v30h0 v31h0 v32h0 v33h0 v34h0 v35h0 v36h0 v37h0 v38h0 v39h0 v40h0 v41h0 v42h0) dX11_fits_1 mw288 mw289 mw290 mw285 mw291 rfl 11 rfl rfl 0 _ rfl (by unfold yOk; decide) rfl (Nat.le_of_ble_eq_true rfl) (Nat.le_of_ble_eq_true rfl) (Nat.le_of_ble_eq_true rfl) (Nat.le_of_ble_eq_true rfl) (Nat.le_of_ble_eq_true rfl) rfl rfl (by decide) rfl (by decide) (by decide) ?_
  rintro w rfl
  refine k_ws [(h0, .inr (11, [.int 0, v1h0, v2h0, v3h0, v4h0, v5h0, v6h0, v7h0, v8h0, v9h0, v10h0, .int 0, v12h0, v13h0, .int 0, v15h0, v16h0, v17h0, v18h0, v19h0, v20h0, v21h0, v22h0, v23h0, v24h0, v25h0, v26h0, v27h0, v28h0, v29h0, v30h0, v31h0, v32h0, v33h0, v34h0, v35h0, v36h0, v37h0, v38h0, v39h0, v40h0, v41h0, v42h0]))] rfl ?_
  refine k_aload_n X dX11_fits_4 0 rfl ?_
  refine k_get (ci := 11) X inlX11 rfl 14 (by decide) dX11_fits_5 mw281 0 rfl rfl ?_
  refine k_if_ne 17 X dX11_fits_8 (by decide) (fun h_1 => absurd h_1 (by decide)) (fun _ => ?_)
  refine k_aload_n X dX11_fits_11 0 rfl ?_
  refine k_iconst (v := 1) X dX11_fits_12 (by decide) ?_
  refine k_callVI (n := 1) (As := [.int 1]) (st := []) X [(h0, .inr (11, [.int 0, v1h0, v2h0, v3h0, v4h0, v5h0, v6h0, v7h0, v8h0, v9h0, v10h0, .int 0, v12h0, v13h0, .int 0, v15h0, v16h0, v17h0, v18h0, v19h0, v20h0, v21h0, v22h0, v23h0, v24h0, v25h0, v26h0, v27h0, v28h0, v29h0, v30h0, v31h0, v32h0, v33h0, v34h0, v35h0, v36h0, v37h0, v38h0, v39h0, v40h0, v41h0, v42h0]))] [] [0] [] (r_no l g h0 1 (.int 0) v1h0 v2h0 v3h0 v4h0 v5h0 v6h0 v7h0 v8h0 v9h0 v10h0 (.int 0) v12h0 v13h0 (.int 0) v15h0 v16h0 v17h0 v18h0 v19h0 v20h0 v21h0 v22h0 v23h0 v24h0 v25h0 v26h0 v27h0 v28h0 v29h0 v30h0 v31h0 v32h0 v33h0 v34h0 v35h0 v36h0 v37h0 v38h0 v39h0 v40h0 v41h0 v42h0) dX11_fits_13 mw296 mw297 mw298 mw285 mw299 rfl 11 rfl rfl 0 _ rfl (by unfold yOk; decide) rfl (Nat.le_of_ble_eq_true rfl) (Nat.le_of_ble_eq_true rfl) (Nat.le_of_ble_eq_true rfl) (Nat.le_of_ble_eq_true rfl) (Nat.le_of_ble_eq_true rfl) rfl rfl (by decide) rfl (by decide) (by decide) ?_
  rintro r w ⟨rfl, rfl⟩
  refine k_ws [] rfl ?_
  exact k_iret X hr dX11_fits_16 (Nat.le_of_ble_eq_true rfl) (Nat.le_of_ble_eq_true rfl) [] (by decide) rfl rfl ⟨rfl, rfl⟩

theorem dX11_needs_0 : decode cX11_needs 0 = .ok (.aload_n 0, 1) := by decide +kernel
theorem dX11_needs_1 : decode cX11_needs 1 = .ok (.invokevirtual 200, 3) := by decide +kernel
theorem dX11_needs_4 : decode cX11_needs 4 = .ok (.aload_n 0, 1) := by decide +kernel
theorem dX11_needs_5 : decode cX11_needs 5 = .ok (.iload_n 1, 1) := by decide +kernel
theorem dX11_needs_6 : decode cX11_needs 6 = .ok (.iload_n 2, 1) := by decide +kernel
theorem dX11_needs_7 : decode cX11_needs 7 = .ok (.invokevirtual 376, 3) := by decide +kernel
theorem dX11_needs_10 : decode cX11_needs 10 = .ok (.ifCond .eq 11, 3) := by decide +kernel
theorem dX11_needs_21 : decode cX11_needs 21 = .ok (.aload_n 0, 1) := by decide +kernel
theorem dX11_needs_22 : decode cX11_needs 22 = .ok (.iconst 1, 1) := by decide +kernel
theorem dX11_needs_23 : decode cX11_needs 23 = .ok (.invokevirtual 203, 3) := by decide +kernel
theorem dX11_needs_26 : decode cX11_needs 26 = .ok (.ireturn, 1) := by decide +kernel
set_option maxHeartbeats 4000000 in
set_option maxRecDepth 100000 in
theorem r_needs (l : Launch) (g : Gx) (h0 : Nat) (p0 : Int32) (p1 : Int32) (v0h0 : Value) (v1h0 : Value) (v2h0 : Value) (v3h0 : Value) (v4h0 : Value) (v5h0 : Value) (v6h0 : Value) (v7h0 : Value) (v8h0 : Value) (v9h0 : Value) (v10h0 : Value) (v11h0 : Value) (v12h0 : Value) (v13h0 : Value) (v15h0 : Value) (v16h0 : Value) (v17h0 : Value) (v18h0 : Value) (v19h0 : Value) (v20h0 : Value) (v21h0 : Value) (v22h0 : Value) (v23h0 : Value) (v24h0 : Value) (v25h0 : Value) (v26h0 : Value) (v27h0 : Value) (v28h0 : Value) (v29h0 : Value) (v30h0 : Value) (v31h0 : Value) (v32h0 : Value) (v33h0 : Value) (v34h0 : Value) (v35h0 : Value) (v36h0 : Value) (v37h0 : Value) (v38h0 : Value) (v39h0 : Value) (v40h0 : Value) (v41h0 : Value) (v42h0 : Value) : cI l g yX11_needs cX11_needs 3 (some .int) 2 43 0 0 [.ref h0, .int p0, .int p1] [(h0, .inr (11, [v0h0, v1h0, v2h0, v3h0, v4h0, v5h0, v6h0, v7h0, v8h0, v9h0, v10h0, v11h0, v12h0, v13h0, .int 0, v15h0, v16h0, v17h0, v18h0, v19h0, v20h0, v21h0, v22h0, v23h0, v24h0, v25h0, v26h0, v27h0, v28h0, v29h0, v30h0, v31h0, v32h0, v33h0, v34h0, v35h0, v36h0, v37h0, v38h0, v39h0, v40h0, v41h0, v42h0]))] (fun r w => r = (-1) ∧ w = []) := by
  refine cI.of (by decide) (Nat.le_of_ble_eq_true rfl) ?_
  intro p e s m args below meth c A X hr hi
  refine k_lveq [(0, .ref h0), (1, .int p0), (2, .int p1)] rfl ?_
  refine k_aload_n X dX11_needs_0 0 rfl ?_
  refine k_callVV (n := 0) (As := []) (st := []) X [(h0, .inr (11, [v0h0, v1h0, v2h0, v3h0, v4h0, v5h0, v6h0, v7h0, v8h0, v9h0, v10h0, v11h0, v12h0, v13h0, .int 0, v15h0, v16h0, v17h0, v18h0, v19h0, v20h0, v21h0, v22h0, v23h0, v24h0, v25h0, v26h0, v27h0, v28h0, v29h0, v30h0, v31h0, v32h0, v33h0, v34h0, v35h0, v36h0, v37h0, v38h0, v39h0, v40h0, v41h0, v42h0]))] [] [0] [] (r_good l g h0 v0h0 v1h0 v2h0 v3h0 v4h0 v5h0 v6h0 v7h0 v8h0 v9h0 v10h0 v11h0 v12h0 v13h0 (.int 0) v15h0 v16h0 v17h0 v18h0 v19h0 v20h0 v21h0 v22h0 v23h0 v24h0 v25h0 v26h0 v27h0 v28h0 v29h0 v30h0 v31h0 v32h0 v33h0 v34h0 v35h0 v36h0 v37h0 v38h0 v39h0 v40h0 v41h0 v42h0) dX11_needs_1 mw288 mw289 mw290 mw285 mw291 rfl 11 rfl rfl 0 _ rfl (by unfold yOk; decide) rfl (Nat.le_of_ble_eq_true rfl) (Nat.le_of_ble_eq_true rfl) (Nat.le_of_ble_eq_true rfl) (Nat.le_of_ble_eq_true rfl) (Nat.le_of_ble_eq_true rfl) rfl rfl (by decide) rfl (by decide) (by decide) ?_
  rintro w rfl
  refine k_ws [(h0, .inr (11, [.int 0, v1h0, v2h0, v3h0, v4h0, v5h0, v6h0, v7h0, v8h0, v9h0, v10h0, .int 0, v12h0, v13h0, .int 0, v15h0, v16h0, v17h0, v18h0, v19h0, v20h0, v21h0, v22h0, v23h0, v24h0, v25h0, v26h0, v27h0, v28h0, v29h0, v30h0, v31h0, v32h0, v33h0, v34h0, v35h0, v36h0, v37h0, v38h0, v39h0, v40h0, v41h0, v42h0]))] rfl ?_
  refine k_aload_n X dX11_needs_4 0 rfl ?_
  refine k_iload_n X dX11_needs_5 1 rfl ?_
  refine k_iload_n X dX11_needs_6 2 rfl ?_
  refine k_callVI (n := 2) (As := [.int p0, .int p1]) (st := []) X [(h0, .inr (11, [.int 0, v1h0, v2h0, v3h0, v4h0, v5h0, v6h0, v7h0, v8h0, v9h0, v10h0, .int 0, v12h0, v13h0, .int 0, v15h0, v16h0, v17h0, v18h0, v19h0, v20h0, v21h0, v22h0, v23h0, v24h0, v25h0, v26h0, v27h0, v28h0, v29h0, v30h0, v31h0, v32h0, v33h0, v34h0, v35h0, v36h0, v37h0, v38h0, v39h0, v40h0, v41h0, v42h0]))] [] [0] [] (r_canTell l g h0 p0 p1 (.int 0) v1h0 v2h0 v3h0 v4h0 v5h0 v6h0 v7h0 v8h0 v9h0 v10h0 (.int 0) v12h0 v13h0 v15h0 v16h0 v17h0 v18h0 v19h0 v20h0 v21h0 v22h0 v23h0 v24h0 v25h0 v26h0 v27h0 v28h0 v29h0 v30h0 v31h0 v32h0 v33h0 v34h0 v35h0 v36h0 v37h0 v38h0 v39h0 v40h0 v41h0 v42h0) dX11_needs_7 mw304 mw305 mw306 mw285 mw307 rfl 11 rfl rfl 0 _ rfl (by unfold yOk; decide) rfl (Nat.le_of_ble_eq_true rfl) (Nat.le_of_ble_eq_true rfl) (Nat.le_of_ble_eq_true rfl) (Nat.le_of_ble_eq_true rfl) (Nat.le_of_ble_eq_true rfl) rfl rfl (by decide) rfl (by decide) (by decide) ?_
  rintro r w ⟨rfl, rfl⟩
  refine k_ws [(h0, .inr (11, [.int 0, v1h0, v2h0, v3h0, v4h0, v5h0, v6h0, v7h0, v8h0, v9h0, v10h0, .int 0, v12h0, v13h0, .int 0, v15h0, v16h0, v17h0, v18h0, v19h0, v20h0, v21h0, v22h0, v23h0, v24h0, v25h0, v26h0, v27h0, v28h0, v29h0, v30h0, v31h0, v32h0, v33h0, v34h0, v35h0, v36h0, v37h0, v38h0, v39h0, v40h0, v41h0, v42h0]))] rfl ?_
  refine k_if_eq 21 X dX11_needs_10 (by decide) (fun _ => ?_) (fun h_1 => absurd (by decide) h_1)
  refine k_aload_n X dX11_needs_21 0 rfl ?_
  refine k_iconst (v := 1) X dX11_needs_22 (by decide) ?_
  refine k_callVI (n := 1) (As := [.int 1]) (st := []) X [(h0, .inr (11, [.int 0, v1h0, v2h0, v3h0, v4h0, v5h0, v6h0, v7h0, v8h0, v9h0, v10h0, .int 0, v12h0, v13h0, .int 0, v15h0, v16h0, v17h0, v18h0, v19h0, v20h0, v21h0, v22h0, v23h0, v24h0, v25h0, v26h0, v27h0, v28h0, v29h0, v30h0, v31h0, v32h0, v33h0, v34h0, v35h0, v36h0, v37h0, v38h0, v39h0, v40h0, v41h0, v42h0]))] [] [0] [] (r_no l g h0 1 (.int 0) v1h0 v2h0 v3h0 v4h0 v5h0 v6h0 v7h0 v8h0 v9h0 v10h0 (.int 0) v12h0 v13h0 (.int 0) v15h0 v16h0 v17h0 v18h0 v19h0 v20h0 v21h0 v22h0 v23h0 v24h0 v25h0 v26h0 v27h0 v28h0 v29h0 v30h0 v31h0 v32h0 v33h0 v34h0 v35h0 v36h0 v37h0 v38h0 v39h0 v40h0 v41h0 v42h0) dX11_needs_23 mw296 mw297 mw298 mw285 mw299 rfl 11 rfl rfl 0 _ rfl (by unfold yOk; decide) rfl (Nat.le_of_ble_eq_true rfl) (Nat.le_of_ble_eq_true rfl) (Nat.le_of_ble_eq_true rfl) (Nat.le_of_ble_eq_true rfl) (Nat.le_of_ble_eq_true rfl) rfl rfl (by decide) rfl (by decide) (by decide) ?_
  rintro r w ⟨rfl, rfl⟩
  refine k_ws [] rfl ?_
  exact k_iret X hr dX11_needs_26 (Nat.le_of_ble_eq_true rfl) (Nat.le_of_ble_eq_true rfl) [] (by decide) rfl rfl ⟨rfl, rfl⟩

theorem dX11_dies_0 : decode cX11_dies 0 = .ok (.aload_n 0, 1) := by decide +kernel
theorem dX11_dies_1 : decode cX11_dies 1 = .ok (.invokevirtual 200, 3) := by decide +kernel
theorem dX11_dies_4 : decode cX11_dies 4 = .ok (.aload_n 0, 1) := by decide +kernel
theorem dX11_dies_5 : decode cX11_dies 5 = .ok (.iload_n 1, 1) := by decide +kernel
theorem dX11_dies_6 : decode cX11_dies 6 = .ok (.iload_n 2, 1) := by decide +kernel
theorem dX11_dies_7 : decode cX11_dies 7 = .ok (.invokevirtual 376, 3) := by decide +kernel
theorem dX11_dies_10 : decode cX11_dies 10 = .ok (.ifCond .ne 9, 3) := by decide +kernel
theorem dX11_dies_13 : decode cX11_dies 13 = .ok (.aload_n 0, 1) := by decide +kernel
theorem dX11_dies_14 : decode cX11_dies 14 = .ok (.iconst 1, 1) := by decide +kernel
theorem dX11_dies_15 : decode cX11_dies 15 = .ok (.invokevirtual 203, 3) := by decide +kernel
theorem dX11_dies_18 : decode cX11_dies 18 = .ok (.ireturn, 1) := by decide +kernel
set_option maxHeartbeats 4000000 in
set_option maxRecDepth 100000 in
theorem r_dies (l : Launch) (g : Gx) (h0 : Nat) (p0 : Int32) (p1 : Int32) (v0h0 : Value) (v1h0 : Value) (v2h0 : Value) (v3h0 : Value) (v4h0 : Value) (v5h0 : Value) (v6h0 : Value) (v7h0 : Value) (v8h0 : Value) (v9h0 : Value) (v10h0 : Value) (v11h0 : Value) (v12h0 : Value) (v13h0 : Value) (v15h0 : Value) (v16h0 : Value) (v17h0 : Value) (v18h0 : Value) (v19h0 : Value) (v20h0 : Value) (v21h0 : Value) (v22h0 : Value) (v23h0 : Value) (v24h0 : Value) (v25h0 : Value) (v26h0 : Value) (v27h0 : Value) (v28h0 : Value) (v29h0 : Value) (v30h0 : Value) (v31h0 : Value) (v32h0 : Value) (v33h0 : Value) (v34h0 : Value) (v35h0 : Value) (v36h0 : Value) (v37h0 : Value) (v38h0 : Value) (v39h0 : Value) (v40h0 : Value) (v41h0 : Value) (v42h0 : Value) : cI l g yX11_dies cX11_dies 3 (some .int) 2 43 0 0 [.ref h0, .int p0, .int p1] [(h0, .inr (11, [v0h0, v1h0, v2h0, v3h0, v4h0, v5h0, v6h0, v7h0, v8h0, v9h0, v10h0, v11h0, v12h0, v13h0, .int 0, v15h0, v16h0, v17h0, v18h0, v19h0, v20h0, v21h0, v22h0, v23h0, v24h0, v25h0, v26h0, v27h0, v28h0, v29h0, v30h0, v31h0, v32h0, v33h0, v34h0, v35h0, v36h0, v37h0, v38h0, v39h0, v40h0, v41h0, v42h0]))] (fun r w => r = (-1) ∧ w = []) := by
  refine cI.of (by decide) (Nat.le_of_ble_eq_true rfl) ?_
  intro p e s m args below meth c A X hr hi
  refine k_lveq [(0, .ref h0), (1, .int p0), (2, .int p1)] rfl ?_
  refine k_aload_n X dX11_dies_0 0 rfl ?_
  refine k_callVV (n := 0) (As := []) (st := []) X [(h0, .inr (11, [v0h0, v1h0, v2h0, v3h0, v4h0, v5h0, v6h0, v7h0, v8h0, v9h0, v10h0, v11h0, v12h0, v13h0, .int 0, v15h0, v16h0, v17h0, v18h0, v19h0, v20h0, v21h0, v22h0, v23h0, v24h0, v25h0, v26h0, v27h0, v28h0, v29h0, v30h0, v31h0, v32h0, v33h0, v34h0, v35h0, v36h0, v37h0, v38h0, v39h0, v40h0, v41h0, v42h0]))] [] [0] [] (r_good l g h0 v0h0 v1h0 v2h0 v3h0 v4h0 v5h0 v6h0 v7h0 v8h0 v9h0 v10h0 v11h0 v12h0 v13h0 (.int 0) v15h0 v16h0 v17h0 v18h0 v19h0 v20h0 v21h0 v22h0 v23h0 v24h0 v25h0 v26h0 v27h0 v28h0 v29h0 v30h0 v31h0 v32h0 v33h0 v34h0 v35h0 v36h0 v37h0 v38h0 v39h0 v40h0 v41h0 v42h0) dX11_dies_1 mw288 mw289 mw290 mw285 mw291 rfl 11 rfl rfl 0 _ rfl (by unfold yOk; decide) rfl (Nat.le_of_ble_eq_true rfl) (Nat.le_of_ble_eq_true rfl) (Nat.le_of_ble_eq_true rfl) (Nat.le_of_ble_eq_true rfl) (Nat.le_of_ble_eq_true rfl) rfl rfl (by decide) rfl (by decide) (by decide) ?_
  rintro w rfl
  refine k_ws [(h0, .inr (11, [.int 0, v1h0, v2h0, v3h0, v4h0, v5h0, v6h0, v7h0, v8h0, v9h0, v10h0, .int 0, v12h0, v13h0, .int 0, v15h0, v16h0, v17h0, v18h0, v19h0, v20h0, v21h0, v22h0, v23h0, v24h0, v25h0, v26h0, v27h0, v28h0, v29h0, v30h0, v31h0, v32h0, v33h0, v34h0, v35h0, v36h0, v37h0, v38h0, v39h0, v40h0, v41h0, v42h0]))] rfl ?_
  refine k_aload_n X dX11_dies_4 0 rfl ?_
  refine k_iload_n X dX11_dies_5 1 rfl ?_
  refine k_iload_n X dX11_dies_6 2 rfl ?_
  refine k_callVI (n := 2) (As := [.int p0, .int p1]) (st := []) X [(h0, .inr (11, [.int 0, v1h0, v2h0, v3h0, v4h0, v5h0, v6h0, v7h0, v8h0, v9h0, v10h0, .int 0, v12h0, v13h0, .int 0, v15h0, v16h0, v17h0, v18h0, v19h0, v20h0, v21h0, v22h0, v23h0, v24h0, v25h0, v26h0, v27h0, v28h0, v29h0, v30h0, v31h0, v32h0, v33h0, v34h0, v35h0, v36h0, v37h0, v38h0, v39h0, v40h0, v41h0, v42h0]))] [] [0] [] (r_canTell l g h0 p0 p1 (.int 0) v1h0 v2h0 v3h0 v4h0 v5h0 v6h0 v7h0 v8h0 v9h0 v10h0 (.int 0) v12h0 v13h0 v15h0 v16h0 v17h0 v18h0 v19h0 v20h0 v21h0 v22h0 v23h0 v24h0 v25h0 v26h0 v27h0 v28h0 v29h0 v30h0 v31h0 v32h0 v33h0 v34h0 v35h0 v36h0 v37h0 v38h0 v39h0 v40h0 v41h0 v42h0) dX11_dies_7 mw304 mw305 mw306 mw285 mw307 rfl 11 rfl rfl 0 _ rfl (by unfold yOk; decide) rfl (Nat.le_of_ble_eq_true rfl) (Nat.le_of_ble_eq_true rfl) (Nat.le_of_ble_eq_true rfl) (Nat.le_of_ble_eq_true rfl) (Nat.le_of_ble_eq_true rfl) rfl rfl (by decide) rfl (by decide) (by decide) ?_
  rintro r w ⟨rfl, rfl⟩
  refine k_ws [(h0, .inr (11, [.int 0, v1h0, v2h0, v3h0, v4h0, v5h0, v6h0, v7h0, v8h0, v9h0, v10h0, .int 0, v12h0, v13h0, .int 0, v15h0, v16h0, v17h0, v18h0, v19h0, v20h0, v21h0, v22h0, v23h0, v24h0, v25h0, v26h0, v27h0, v28h0, v29h0, v30h0, v31h0, v32h0, v33h0, v34h0, v35h0, v36h0, v37h0, v38h0, v39h0, v40h0, v41h0, v42h0]))] rfl ?_
  refine k_if_ne 19 X dX11_dies_10 (by decide) (fun h_1 => absurd h_1 (by decide)) (fun _ => ?_)
  refine k_aload_n X dX11_dies_13 0 rfl ?_
  refine k_iconst (v := 1) X dX11_dies_14 (by decide) ?_
  refine k_callVI (n := 1) (As := [.int 1]) (st := []) X [(h0, .inr (11, [.int 0, v1h0, v2h0, v3h0, v4h0, v5h0, v6h0, v7h0, v8h0, v9h0, v10h0, .int 0, v12h0, v13h0, .int 0, v15h0, v16h0, v17h0, v18h0, v19h0, v20h0, v21h0, v22h0, v23h0, v24h0, v25h0, v26h0, v27h0, v28h0, v29h0, v30h0, v31h0, v32h0, v33h0, v34h0, v35h0, v36h0, v37h0, v38h0, v39h0, v40h0, v41h0, v42h0]))] [] [0] [] (r_no l g h0 1 (.int 0) v1h0 v2h0 v3h0 v4h0 v5h0 v6h0 v7h0 v8h0 v9h0 v10h0 (.int 0) v12h0 v13h0 (.int 0) v15h0 v16h0 v17h0 v18h0 v19h0 v20h0 v21h0 v22h0 v23h0 v24h0 v25h0 v26h0 v27h0 v28h0 v29h0 v30h0 v31h0 v32h0 v33h0 v34h0 v35h0 v36h0 v37h0 v38h0 v39h0 v40h0 v41h0 v42h0) dX11_dies_15 mw296 mw297 mw298 mw285 mw299 rfl 11 rfl rfl 0 _ rfl (by unfold yOk; decide) rfl (Nat.le_of_ble_eq_true rfl) (Nat.le_of_ble_eq_true rfl) (Nat.le_of_ble_eq_true rfl) (Nat.le_of_ble_eq_true rfl) (Nat.le_of_ble_eq_true rfl) rfl rfl (by decide) rfl (by decide) (by decide) ?_
  rintro r w ⟨rfl, rfl⟩
  refine k_ws [] rfl ?_
  exact k_iret X hr dX11_dies_18 (Nat.le_of_ble_eq_true rfl) (Nat.le_of_ble_eq_true rfl) [] (by decide) rfl rfl ⟨rfl, rfl⟩

theorem dX11_free_0 : decode cX11_free 0 = .ok (.aload_n 0, 1) := by decide +kernel
theorem dX11_free_1 : decode cX11_free 1 = .ok (.invokevirtual 200, 3) := by decide +kernel
theorem dX11_free_4 : decode cX11_free 4 = .ok (.aload_n 0, 1) := by decide +kernel
theorem dX11_free_5 : decode cX11_free 5 = .ok (.iload_n 1, 1) := by decide +kernel
theorem dX11_free_6 : decode cX11_free 6 = .ok (.iload_n 2, 1) := by decide +kernel
theorem dX11_free_7 : decode cX11_free 7 = .ok (.invokevirtual 376, 3) := by decide +kernel
theorem dX11_free_10 : decode cX11_free 10 = .ok (.ifCond .eq 11, 3) := by decide +kernel
theorem dX11_free_21 : decode cX11_free 21 = .ok (.aload_n 0, 1) := by decide +kernel
theorem dX11_free_22 : decode cX11_free 22 = .ok (.iconst 1, 1) := by decide +kernel
theorem dX11_free_23 : decode cX11_free 23 = .ok (.invokevirtual 203, 3) := by decide +kernel
theorem dX11_free_26 : decode cX11_free 26 = .ok (.ireturn, 1) := by decide +kernel
set_option maxHeartbeats 4000000 in
set_option maxRecDepth 100000 in
theorem r_free (l : Launch) (g : Gx) (h0 : Nat) (p0 : Int32) (p1 : Int32) (v0h0 : Value) (v1h0 : Value) (v2h0 : Value) (v3h0 : Value) (v4h0 : Value) (v5h0 : Value) (v6h0 : Value) (v7h0 : Value) (v8h0 : Value) (v9h0 : Value) (v10h0 : Value) (v11h0 : Value) (v12h0 : Value) (v13h0 : Value) (v15h0 : Value) (v16h0 : Value) (v17h0 : Value) (v18h0 : Value) (v19h0 : Value) (v20h0 : Value) (v21h0 : Value) (v22h0 : Value) (v23h0 : Value) (v24h0 : Value) (v25h0 : Value) (v26h0 : Value) (v27h0 : Value) (v28h0 : Value) (v29h0 : Value) (v30h0 : Value) (v31h0 : Value) (v32h0 : Value) (v33h0 : Value) (v34h0 : Value) (v35h0 : Value) (v36h0 : Value) (v37h0 : Value) (v38h0 : Value) (v39h0 : Value) (v40h0 : Value) (v41h0 : Value) (v42h0 : Value) : cI l g yX11_free cX11_free 3 (some .int) 2 43 0 0 [.ref h0, .int p0, .int p1] [(h0, .inr (11, [v0h0, v1h0, v2h0, v3h0, v4h0, v5h0, v6h0, v7h0, v8h0, v9h0, v10h0, v11h0, v12h0, v13h0, .int 0, v15h0, v16h0, v17h0, v18h0, v19h0, v20h0, v21h0, v22h0, v23h0, v24h0, v25h0, v26h0, v27h0, v28h0, v29h0, v30h0, v31h0, v32h0, v33h0, v34h0, v35h0, v36h0, v37h0, v38h0, v39h0, v40h0, v41h0, v42h0]))] (fun r w => r = (-1) ∧ w = []) := by
  refine cI.of (by decide) (Nat.le_of_ble_eq_true rfl) ?_
  intro p e s m args below meth c A X hr hi
  refine k_lveq [(0, .ref h0), (1, .int p0), (2, .int p1)] rfl ?_
  refine k_aload_n X dX11_free_0 0 rfl ?_
  refine k_callVV (n := 0) (As := []) (st := []) X [(h0, .inr (11, [v0h0, v1h0, v2h0, v3h0, v4h0, v5h0, v6h0, v7h0, v8h0, v9h0, v10h0, v11h0, v12h0, v13h0, .int 0, v15h0, v16h0, v17h0, v18h0, v19h0, v20h0, v21h0, v22h0, v23h0, v24h0, v25h0, v26h0, v27h0, v28h0, v29h0, v30h0, v31h0, v32h0, v33h0, v34h0, v35h0, v36h0, v37h0, v38h0, v39h0, v40h0, v41h0, v42h0]))] [] [0] [] (r_good l g h0 v0h0 v1h0 v2h0 v3h0 v4h0 v5h0 v6h0 v7h0 v8h0 v9h0 v10h0 v11h0 v12h0 v13h0 (.int 0) v15h0 v16h0 v17h0 v18h0 v19h0 v20h0 v21h0 v22h0 v23h0 v24h0 v25h0 v26h0 v27h0 v28h0 v29h0 v30h0 v31h0 v32h0 v33h0 v34h0 v35h0 v36h0 v37h0 v38h0 v39h0 v40h0 v41h0 v42h0) dX11_free_1 mw288 mw289 mw290 mw285 mw291 rfl 11 rfl rfl 0 _ rfl (by unfold yOk; decide) rfl (Nat.le_of_ble_eq_true rfl) (Nat.le_of_ble_eq_true rfl) (Nat.le_of_ble_eq_true rfl) (Nat.le_of_ble_eq_true rfl) (Nat.le_of_ble_eq_true rfl) rfl rfl (by decide) rfl (by decide) (by decide) ?_
  rintro w rfl
  refine k_ws [(h0, .inr (11, [.int 0, v1h0, v2h0, v3h0, v4h0, v5h0, v6h0, v7h0, v8h0, v9h0, v10h0, .int 0, v12h0, v13h0, .int 0, v15h0, v16h0, v17h0, v18h0, v19h0, v20h0, v21h0, v22h0, v23h0, v24h0, v25h0, v26h0, v27h0, v28h0, v29h0, v30h0, v31h0, v32h0, v33h0, v34h0, v35h0, v36h0, v37h0, v38h0, v39h0, v40h0, v41h0, v42h0]))] rfl ?_
  refine k_aload_n X dX11_free_4 0 rfl ?_
  refine k_iload_n X dX11_free_5 1 rfl ?_
  refine k_iload_n X dX11_free_6 2 rfl ?_
  refine k_callVI (n := 2) (As := [.int p0, .int p1]) (st := []) X [(h0, .inr (11, [.int 0, v1h0, v2h0, v3h0, v4h0, v5h0, v6h0, v7h0, v8h0, v9h0, v10h0, .int 0, v12h0, v13h0, .int 0, v15h0, v16h0, v17h0, v18h0, v19h0, v20h0, v21h0, v22h0, v23h0, v24h0, v25h0, v26h0, v27h0, v28h0, v29h0, v30h0, v31h0, v32h0, v33h0, v34h0, v35h0, v36h0, v37h0, v38h0, v39h0, v40h0, v41h0, v42h0]))] [] [0] [] (r_canTell l g h0 p0 p1 (.int 0) v1h0 v2h0 v3h0 v4h0 v5h0 v6h0 v7h0 v8h0 v9h0 v10h0 (.int 0) v12h0 v13h0 v15h0 v16h0 v17h0 v18h0 v19h0 v20h0 v21h0 v22h0 v23h0 v24h0 v25h0 v26h0 v27h0 v28h0 v29h0 v30h0 v31h0 v32h0 v33h0 v34h0 v35h0 v36h0 v37h0 v38h0 v39h0 v40h0 v41h0 v42h0) dX11_free_7 mw304 mw305 mw306 mw285 mw307 rfl 11 rfl rfl 0 _ rfl (by unfold yOk; decide) rfl (Nat.le_of_ble_eq_true rfl) (Nat.le_of_ble_eq_true rfl) (Nat.le_of_ble_eq_true rfl) (Nat.le_of_ble_eq_true rfl) (Nat.le_of_ble_eq_true rfl) rfl rfl (by decide) rfl (by decide) (by decide) ?_
  rintro r w ⟨rfl, rfl⟩
  refine k_ws [(h0, .inr (11, [.int 0, v1h0, v2h0, v3h0, v4h0, v5h0, v6h0, v7h0, v8h0, v9h0, v10h0, .int 0, v12h0, v13h0, .int 0, v15h0, v16h0, v17h0, v18h0, v19h0, v20h0, v21h0, v22h0, v23h0, v24h0, v25h0, v26h0, v27h0, v28h0, v29h0, v30h0, v31h0, v32h0, v33h0, v34h0, v35h0, v36h0, v37h0, v38h0, v39h0, v40h0, v41h0, v42h0]))] rfl ?_
  refine k_if_eq 21 X dX11_free_10 (by decide) (fun _ => ?_) (fun h_1 => absurd (by decide) h_1)
  refine k_aload_n X dX11_free_21 0 rfl ?_
  refine k_iconst (v := 1) X dX11_free_22 (by decide) ?_
  refine k_callVI (n := 1) (As := [.int 1]) (st := []) X [(h0, .inr (11, [.int 0, v1h0, v2h0, v3h0, v4h0, v5h0, v6h0, v7h0, v8h0, v9h0, v10h0, .int 0, v12h0, v13h0, .int 0, v15h0, v16h0, v17h0, v18h0, v19h0, v20h0, v21h0, v22h0, v23h0, v24h0, v25h0, v26h0, v27h0, v28h0, v29h0, v30h0, v31h0, v32h0, v33h0, v34h0, v35h0, v36h0, v37h0, v38h0, v39h0, v40h0, v41h0, v42h0]))] [] [0] [] (r_no l g h0 1 (.int 0) v1h0 v2h0 v3h0 v4h0 v5h0 v6h0 v7h0 v8h0 v9h0 v10h0 (.int 0) v12h0 v13h0 (.int 0) v15h0 v16h0 v17h0 v18h0 v19h0 v20h0 v21h0 v22h0 v23h0 v24h0 v25h0 v26h0 v27h0 v28h0 v29h0 v30h0 v31h0 v32h0 v33h0 v34h0 v35h0 v36h0 v37h0 v38h0 v39h0 v40h0 v41h0 v42h0) dX11_free_23 mw296 mw297 mw298 mw285 mw299 rfl 11 rfl rfl 0 _ rfl (by unfold yOk; decide) rfl (Nat.le_of_ble_eq_true rfl) (Nat.le_of_ble_eq_true rfl) (Nat.le_of_ble_eq_true rfl) (Nat.le_of_ble_eq_true rfl) (Nat.le_of_ble_eq_true rfl) rfl rfl (by decide) rfl (by decide) (by decide) ?_
  rintro r w ⟨rfl, rfl⟩
  refine k_ws [] rfl ?_
  exact k_iret X hr dX11_free_26 (Nat.le_of_ble_eq_true rfl) (Nat.le_of_ble_eq_true rfl) [] (by decide) rfl rfl ⟨rfl, rfl⟩

theorem dX11_arc_0 : decode cX11_arc 0 = .ok (.aload_n 0, 1) := by decide +kernel
theorem dX11_arc_1 : decode cX11_arc 1 = .ok (.invokevirtual 200, 3) := by decide +kernel
theorem dX11_arc_4 : decode cX11_arc 4 = .ok (.aload_n 0, 1) := by decide +kernel
theorem dX11_arc_5 : decode cX11_arc 5 = .ok (.iload_n 1, 1) := by decide +kernel
theorem dX11_arc_6 : decode cX11_arc 6 = .ok (.iload_n 2, 1) := by decide +kernel
theorem dX11_arc_7 : decode cX11_arc 7 = .ok (.invokevirtual 376, 3) := by decide +kernel
theorem dX11_arc_10 : decode cX11_arc 10 = .ok (.ifCond .ne 9, 3) := by decide +kernel
theorem dX11_arc_13 : decode cX11_arc 13 = .ok (.aload_n 0, 1) := by decide +kernel
theorem dX11_arc_14 : decode cX11_arc 14 = .ok (.iconst 1, 1) := by decide +kernel
theorem dX11_arc_15 : decode cX11_arc 15 = .ok (.invokevirtual 203, 3) := by decide +kernel
theorem dX11_arc_18 : decode cX11_arc 18 = .ok (.ireturn, 1) := by decide +kernel
set_option maxHeartbeats 4000000 in
set_option maxRecDepth 100000 in
theorem r_arc (l : Launch) (g : Gx) (h0 : Nat) (p0 : Int32) (p1 : Int32) (v0h0 : Value) (v1h0 : Value) (v2h0 : Value) (v3h0 : Value) (v4h0 : Value) (v5h0 : Value) (v6h0 : Value) (v7h0 : Value) (v8h0 : Value) (v9h0 : Value) (v10h0 : Value) (v11h0 : Value) (v12h0 : Value) (v13h0 : Value) (v15h0 : Value) (v16h0 : Value) (v17h0 : Value) (v18h0 : Value) (v19h0 : Value) (v20h0 : Value) (v21h0 : Value) (v22h0 : Value) (v23h0 : Value) (v24h0 : Value) (v25h0 : Value) (v26h0 : Value) (v27h0 : Value) (v28h0 : Value) (v29h0 : Value) (v30h0 : Value) (v31h0 : Value) (v32h0 : Value) (v33h0 : Value) (v34h0 : Value) (v35h0 : Value) (v36h0 : Value) (v37h0 : Value) (v38h0 : Value) (v39h0 : Value) (v40h0 : Value) (v41h0 : Value) (v42h0 : Value) : cI l g yX11_arc cX11_arc 3 (some .int) 2 43 0 0 [.ref h0, .int p0, .int p1] [(h0, .inr (11, [v0h0, v1h0, v2h0, v3h0, v4h0, v5h0, v6h0, v7h0, v8h0, v9h0, v10h0, v11h0, v12h0, v13h0, .int 0, v15h0, v16h0, v17h0, v18h0, v19h0, v20h0, v21h0, v22h0, v23h0, v24h0, v25h0, v26h0, v27h0, v28h0, v29h0, v30h0, v31h0, v32h0, v33h0, v34h0, v35h0, v36h0, v37h0, v38h0, v39h0, v40h0, v41h0, v42h0]))] (fun r w => r = (-1) ∧ w = []) := by
  refine cI.of (by decide) (Nat.le_of_ble_eq_true rfl) ?_
  intro p e s m args below meth c A X hr hi
  refine k_lveq [(0, .ref h0), (1, .int p0), (2, .int p1)] rfl ?_
  refine k_aload_n X dX11_arc_0 0 rfl ?_
  refine k_callVV (n := 0) (As := []) (st := []) X [(h0, .inr (11, [v0h0, v1h0, v2h0, v3h0, v4h0, v5h0, v6h0, v7h0, v8h0, v9h0, v10h0, v11h0, v12h0, v13h0, .int 0, v15h0, v16h0, v17h0, v18h0, v19h0, v20h0, v21h0, v22h0, v23h0, v24h0, v25h0, v26h0, v27h0, v28h0, v29h0, v30h0, v31h0, v32h0, v33h0, v34h0, v35h0, v36h0, v37h0, v38h0, v39h0, v40h0, v41h0, v42h0]))] [] [0] [] (r_good l g h0 v0h0 v1h0 v2h0 v3h0 v4h0 v5h0 v6h0 v7h0 v8h0 v9h0 v10h0 v11h0 v12h0 v13h0 (.int 0) v15h0 v16h0 v17h0 v18h0 v19h0 v20h0 v21h0 v22h0 v23h0 v24h0 v25h0 v26h0 v27h0 v28h0 v29h0 v30h0 v31h0 v32h0 v33h0 v34h0 v35h0 v36h0 v37h0 v38h0 v39h0 v40h0 v41h0 v42h0) dX11_arc_1 mw288 mw289 mw290 mw285 mw291 rfl 11 rfl rfl 0 _ rfl (by unfold yOk; decide) rfl (Nat.le_of_ble_eq_true rfl) (Nat.le_of_ble_eq_true rfl) (Nat.le_of_ble_eq_true rfl) (Nat.le_of_ble_eq_true rfl) (Nat.le_of_ble_eq_true rfl) rfl rfl (by decide) rfl (by decide) (by decide) ?_
  rintro w rfl
  refine k_ws [(h0, .inr (11, [.int 0, v1h0, v2h0, v3h0, v4h0, v5h0, v6h0, v7h0, v8h0, v9h0, v10h0, .int 0, v12h0, v13h0, .int 0, v15h0, v16h0, v17h0, v18h0, v19h0, v20h0, v21h0, v22h0, v23h0, v24h0, v25h0, v26h0, v27h0, v28h0, v29h0, v30h0, v31h0, v32h0, v33h0, v34h0, v35h0, v36h0, v37h0, v38h0, v39h0, v40h0, v41h0, v42h0]))] rfl ?_
  refine k_aload_n X dX11_arc_4 0 rfl ?_
  refine k_iload_n X dX11_arc_5 1 rfl ?_
  refine k_iload_n X dX11_arc_6 2 rfl ?_
  refine k_callVI (n := 2) (As := [.int p0, .int p1]) (st := []) X [(h0, .inr (11, [.int 0, v1h0, v2h0, v3h0, v4h0, v5h0, v6h0, v7h0, v8h0, v9h0, v10h0, .int 0, v12h0, v13h0, .int 0, v15h0, v16h0, v17h0, v18h0, v19h0, v20h0, v21h0, v22h0, v23h0, v24h0, v25h0, v26h0, v27h0, v28h0, v29h0, v30h0, v31h0, v32h0, v33h0, v34h0, v35h0, v36h0, v37h0, v38h0, v39h0, v40h0, v41h0, v42h0]))] [] [0] [] (r_canTell l g h0 p0 p1 (.int 0) v1h0 v2h0 v3h0 v4h0 v5h0 v6h0 v7h0 v8h0 v9h0 v10h0 (.int 0) v12h0 v13h0 v15h0 v16h0 v17h0 v18h0 v19h0 v20h0 v21h0 v22h0 v23h0 v24h0 v25h0 v26h0 v27h0 v28h0 v29h0 v30h0 v31h0 v32h0 v33h0 v34h0 v35h0 v36h0 v37h0 v38h0 v39h0 v40h0 v41h0 v42h0) dX11_arc_7 mw304 mw305 mw306 mw285 mw307 rfl 11 rfl rfl 0 _ rfl (by unfold yOk; decide) rfl (Nat.le_of_ble_eq_true rfl) (Nat.le_of_ble_eq_true rfl) (Nat.le_of_ble_eq_true rfl) (Nat.le_of_ble_eq_true rfl) (Nat.le_of_ble_eq_true rfl) rfl rfl (by decide) rfl (by decide) (by decide) ?_
  rintro r w ⟨rfl, rfl⟩
  refine k_ws [(h0, .inr (11, [.int 0, v1h0, v2h0, v3h0, v4h0, v5h0, v6h0, v7h0, v8h0, v9h0, v10h0, .int 0, v12h0, v13h0, .int 0, v15h0, v16h0, v17h0, v18h0, v19h0, v20h0, v21h0, v22h0, v23h0, v24h0, v25h0, v26h0, v27h0, v28h0, v29h0, v30h0, v31h0, v32h0, v33h0, v34h0, v35h0, v36h0, v37h0, v38h0, v39h0, v40h0, v41h0, v42h0]))] rfl ?_
  refine k_if_ne 19 X dX11_arc_10 (by decide) (fun h_1 => absurd h_1 (by decide)) (fun _ => ?_)
  refine k_aload_n X dX11_arc_13 0 rfl ?_
  refine k_iconst (v := 1) X dX11_arc_14 (by decide) ?_
  refine k_callVI (n := 1) (As := [.int 1]) (st := []) X [(h0, .inr (11, [.int 0, v1h0, v2h0, v3h0, v4h0, v5h0, v6h0, v7h0, v8h0, v9h0, v10h0, .int 0, v12h0, v13h0, .int 0, v15h0, v16h0, v17h0, v18h0, v19h0, v20h0, v21h0, v22h0, v23h0, v24h0, v25h0, v26h0, v27h0, v28h0, v29h0, v30h0, v31h0, v32h0, v33h0, v34h0, v35h0, v36h0, v37h0, v38h0, v39h0, v40h0, v41h0, v42h0]))] [] [0] [] (r_no l g h0 1 (.int 0) v1h0 v2h0 v3h0 v4h0 v5h0 v6h0 v7h0 v8h0 v9h0 v10h0 (.int 0) v12h0 v13h0 (.int 0) v15h0 v16h0 v17h0 v18h0 v19h0 v20h0 v21h0 v22h0 v23h0 v24h0 v25h0 v26h0 v27h0 v28h0 v29h0 v30h0 v31h0 v32h0 v33h0 v34h0 v35h0 v36h0 v37h0 v38h0 v39h0 v40h0 v41h0 v42h0) dX11_arc_15 mw296 mw297 mw298 mw285 mw299 rfl 11 rfl rfl 0 _ rfl (by unfold yOk; decide) rfl (Nat.le_of_ble_eq_true rfl) (Nat.le_of_ble_eq_true rfl) (Nat.le_of_ble_eq_true rfl) (Nat.le_of_ble_eq_true rfl) (Nat.le_of_ble_eq_true rfl) rfl rfl (by decide) rfl (by decide) (by decide) ?_
  rintro r w ⟨rfl, rfl⟩
  refine k_ws [] rfl ?_
  exact k_iret X hr dX11_arc_18 (Nat.le_of_ble_eq_true rfl) (Nat.le_of_ble_eq_true rfl) [] (by decide) rfl rfl ⟨rfl, rfl⟩

theorem dX11_well_0 : decode cX11_well 0 = .ok (.aload_n 0, 1) := by decide +kernel
theorem dX11_well_1 : decode cX11_well 1 = .ok (.invokevirtual 200, 3) := by decide +kernel
theorem dX11_well_4 : decode cX11_well 4 = .ok (.aload_n 0, 1) := by decide +kernel
theorem dX11_well_5 : decode cX11_well 5 = .ok (.getfield 213, 3) := by decide +kernel
theorem dX11_well_8 : decode cX11_well 8 = .ok (.ifCond .ne 10, 3) := by decide +kernel
theorem dX11_well_11 : decode cX11_well 11 = .ok (.aload_n 0, 1) := by decide +kernel
theorem dX11_well_12 : decode cX11_well 12 = .ok (.iconst 1, 1) := by decide +kernel
theorem dX11_well_13 : decode cX11_well 13 = .ok (.invokevirtual 203, 3) := by decide +kernel
theorem dX11_well_16 : decode cX11_well 16 = .ok (.i2l, 1) := by decide +kernel
theorem dX11_well_17 : decode cX11_well 17 = .ok (.lreturn, 1) := by decide +kernel
set_option maxHeartbeats 4000000 in
set_option maxRecDepth 100000 in
theorem r_well (l : Launch) (g : Gx) (h0 : Nat) (p0 : Int32) (v0h0 : Value) (v1h0 : Value) (v2h0 : Value) (v3h0 : Value) (v4h0 : Value) (v5h0 : Value) (v6h0 : Value) (v7h0 : Value) (v8h0 : Value) (v9h0 : Value) (v10h0 : Value) (v11h0 : Value) (v12h0 : Value) (v13h0 : Value) (v15h0 : Value) (v16h0 : Value) (v17h0 : Value) (v18h0 : Value) (v19h0 : Value) (v20h0 : Value) (v21h0 : Value) (v22h0 : Value) (v23h0 : Value) (v24h0 : Value) (v25h0 : Value) (v26h0 : Value) (v27h0 : Value) (v28h0 : Value) (v29h0 : Value) (v30h0 : Value) (v31h0 : Value) (v32h0 : Value) (v33h0 : Value) (v34h0 : Value) (v35h0 : Value) (v36h0 : Value) (v37h0 : Value) (v38h0 : Value) (v39h0 : Value) (v40h0 : Value) (v41h0 : Value) (v42h0 : Value) : cL l g yX11_well cX11_well 2 (some .long) 1 21 0 0 [.ref h0, .int p0] [(h0, .inr (11, [v0h0, v1h0, v2h0, v3h0, v4h0, v5h0, v6h0, v7h0, v8h0, v9h0, v10h0, v11h0, v12h0, v13h0, .int 0, v15h0, v16h0, v17h0, v18h0, v19h0, v20h0, v21h0, v22h0, v23h0, v24h0, v25h0, v26h0, v27h0, v28h0, v29h0, v30h0, v31h0, v32h0, v33h0, v34h0, v35h0, v36h0, v37h0, v38h0, v39h0, v40h0, v41h0, v42h0]))] (fun r w => r = (-1) ∧ w = []) := by
  refine cL.of (by decide) (Nat.le_of_ble_eq_true rfl) ?_
  intro p e s m args below meth c A X hr hi
  refine k_lveq [(0, .ref h0), (1, .int p0)] rfl ?_
  refine k_aload_n X dX11_well_0 0 rfl ?_
  refine k_callVV (n := 0) (As := []) (st := []) X [(h0, .inr (11, [v0h0, v1h0, v2h0, v3h0, v4h0, v5h0, v6h0, v7h0, v8h0, v9h0, v10h0, v11h0, v12h0, v13h0, .int 0, v15h0, v16h0, v17h0, v18h0, v19h0, v20h0, v21h0, v22h0, v23h0, v24h0, v25h0, v26h0, v27h0, v28h0, v29h0, v30h0, v31h0, v32h0, v33h0, v34h0, v35h0, v36h0, v37h0, v38h0, v39h0, v40h0, v41h0, v42h0]))] [] [0] [] (r_good l g h0 v0h0 v1h0 v2h0 v3h0 v4h0 v5h0 v6h0 v7h0 v8h0 v9h0 v10h0 v11h0 v12h0 v13h0 (.int 0) v15h0 v16h0 v17h0 v18h0 v19h0 v20h0 v21h0 v22h0 v23h0 v24h0 v25h0 v26h0 v27h0 v28h0 v29h0 v30h0 v31h0 v32h0 v33h0 v34h0 v35h0 v36h0 v37h0 v38h0 v39h0 v40h0 v41h0 v42h0) dX11_well_1 mw288 mw289 mw290 mw285 mw291 rfl 11 rfl rfl 0 _ rfl (by unfold yOk; decide) rfl (Nat.le_of_ble_eq_true rfl) (Nat.le_of_ble_eq_true rfl) (Nat.le_of_ble_eq_true rfl) (Nat.le_of_ble_eq_true rfl) (Nat.le_of_ble_eq_true rfl) rfl rfl (by decide) rfl (by decide) (by decide) ?_
  rintro w rfl
  refine k_ws [(h0, .inr (11, [.int 0, v1h0, v2h0, v3h0, v4h0, v5h0, v6h0, v7h0, v8h0, v9h0, v10h0, .int 0, v12h0, v13h0, .int 0, v15h0, v16h0, v17h0, v18h0, v19h0, v20h0, v21h0, v22h0, v23h0, v24h0, v25h0, v26h0, v27h0, v28h0, v29h0, v30h0, v31h0, v32h0, v33h0, v34h0, v35h0, v36h0, v37h0, v38h0, v39h0, v40h0, v41h0, v42h0]))] rfl ?_
  refine k_aload_n X dX11_well_4 0 rfl ?_
  refine k_get (ci := 11) X inlX11 rfl 14 (by decide) dX11_well_5 mw281 0 rfl rfl ?_
  refine k_if_ne 18 X dX11_well_8 (by decide) (fun h_1 => absurd h_1 (by decide)) (fun _ => ?_)
  refine k_aload_n X dX11_well_11 0 rfl ?_
  refine k_iconst (v := 1) X dX11_well_12 (by decide) ?_
  refine k_callVI (n := 1) (As := [.int 1]) (st := []) X [(h0, .inr (11, [.int 0, v1h0, v2h0, v3h0, v4h0, v5h0, v6h0, v7h0, v8h0, v9h0, v10h0, .int 0, v12h0, v13h0, .int 0, v15h0, v16h0, v17h0, v18h0, v19h0, v20h0, v21h0, v22h0, v23h0, v24h0, v25h0, v26h0, v27h0, v28h0, v29h0, v30h0, v31h0, v32h0, v33h0, v34h0, v35h0, v36h0, v37h0, v38h0, v39h0, v40h0, v41h0, v42h0]))] [] [0] [] (r_no l g h0 1 (.int 0) v1h0 v2h0 v3h0 v4h0 v5h0 v6h0 v7h0 v8h0 v9h0 v10h0 (.int 0) v12h0 v13h0 (.int 0) v15h0 v16h0 v17h0 v18h0 v19h0 v20h0 v21h0 v22h0 v23h0 v24h0 v25h0 v26h0 v27h0 v28h0 v29h0 v30h0 v31h0 v32h0 v33h0 v34h0 v35h0 v36h0 v37h0 v38h0 v39h0 v40h0 v41h0 v42h0) dX11_well_13 mw296 mw297 mw298 mw285 mw299 rfl 11 rfl rfl 0 _ rfl (by unfold yOk; decide) rfl (Nat.le_of_ble_eq_true rfl) (Nat.le_of_ble_eq_true rfl) (Nat.le_of_ble_eq_true rfl) (Nat.le_of_ble_eq_true rfl) (Nat.le_of_ble_eq_true rfl) rfl rfl (by decide) rfl (by decide) (by decide) ?_
  rintro r w ⟨rfl, rfl⟩
  refine k_ws [] rfl ?_
  refine k_i2l X dX11_well_16 ?_
  refine k_toL (-1) (by decide) ?_
  exact k_lret X hr dX11_well_17 (Nat.le_of_ble_eq_true rfl) (Nat.le_of_ble_eq_true rfl) [] (by decide) rfl rfl ⟨rfl, rfl⟩

theorem dX11_wrong_0 : decode cX11_wrong 0 = .ok (.aload_n 0, 1) := by decide +kernel
theorem dX11_wrong_1 : decode cX11_wrong 1 = .ok (.invokevirtual 200, 3) := by decide +kernel
theorem dX11_wrong_4 : decode cX11_wrong 4 = .ok (.aload_n 0, 1) := by decide +kernel
theorem dX11_wrong_5 : decode cX11_wrong 5 = .ok (.getfield 213, 3) := by decide +kernel
theorem dX11_wrong_8 : decode cX11_wrong 8 = .ok (.ifCond .ne 9, 3) := by decide +kernel
theorem dX11_wrong_11 : decode cX11_wrong 11 = .ok (.aload_n 0, 1) := by decide +kernel
theorem dX11_wrong_12 : decode cX11_wrong 12 = .ok (.iconst 1, 1) := by decide +kernel
theorem dX11_wrong_13 : decode cX11_wrong 13 = .ok (.invokevirtual 203, 3) := by decide +kernel
theorem dX11_wrong_16 : decode cX11_wrong 16 = .ok (.ireturn, 1) := by decide +kernel
set_option maxHeartbeats 4000000 in
set_option maxRecDepth 100000 in
theorem r_wrong (l : Launch) (g : Gx) (h0 : Nat) (v0h0 : Value) (v1h0 : Value) (v2h0 : Value) (v3h0 : Value) (v4h0 : Value) (v5h0 : Value) (v6h0 : Value) (v7h0 : Value) (v8h0 : Value) (v9h0 : Value) (v10h0 : Value) (v11h0 : Value) (v12h0 : Value) (v13h0 : Value) (v15h0 : Value) (v16h0 : Value) (v17h0 : Value) (v18h0 : Value) (v19h0 : Value) (v20h0 : Value) (v21h0 : Value) (v22h0 : Value) (v23h0 : Value) (v24h0 : Value) (v25h0 : Value) (v26h0 : Value) (v27h0 : Value) (v28h0 : Value) (v29h0 : Value) (v30h0 : Value) (v31h0 : Value) (v32h0 : Value) (v33h0 : Value) (v34h0 : Value) (v35h0 : Value) (v36h0 : Value) (v37h0 : Value) (v38h0 : Value) (v39h0 : Value) (v40h0 : Value) (v41h0 : Value) (v42h0 : Value) : cI l g yX11_wrong cX11_wrong 4 (some .int) 1 21 0 0 [.ref h0] [(h0, .inr (11, [v0h0, v1h0, v2h0, v3h0, v4h0, v5h0, v6h0, v7h0, v8h0, v9h0, v10h0, v11h0, v12h0, v13h0, .int 0, v15h0, v16h0, v17h0, v18h0, v19h0, v20h0, v21h0, v22h0, v23h0, v24h0, v25h0, v26h0, v27h0, v28h0, v29h0, v30h0, v31h0, v32h0, v33h0, v34h0, v35h0, v36h0, v37h0, v38h0, v39h0, v40h0, v41h0, v42h0]))] (fun r w => r = (-1) ∧ w = []) := by
  refine cI.of (by decide) (Nat.le_of_ble_eq_true rfl) ?_
  intro p e s m args below meth c A X hr hi
  refine k_lveq [(0, .ref h0)] rfl ?_
  refine k_aload_n X dX11_wrong_0 0 rfl ?_
  refine k_callVV (n := 0) (As := []) (st := []) X [(h0, .inr (11, [v0h0, v1h0, v2h0, v3h0, v4h0, v5h0, v6h0, v7h0, v8h0, v9h0, v10h0, v11h0, v12h0, v13h0, .int 0, v15h0, v16h0, v17h0, v18h0, v19h0, v20h0, v21h0, v22h0, v23h0, v24h0, v25h0, v26h0, v27h0, v28h0, v29h0, v30h0, v31h0, v32h0, v33h0, v34h0, v35h0, v36h0, v37h0, v38h0, v39h0, v40h0, v41h0, v42h0]))] [] [0] [] (r_good l g h0 v0h0 v1h0 v2h0 v3h0 v4h0 v5h0 v6h0 v7h0 v8h0 v9h0 v10h0 v11h0 v12h0 v13h0 (.int 0) v15h0 v16h0 v17h0 v18h0 v19h0 v20h0 v21h0 v22h0 v23h0 v24h0 v25h0 v26h0 v27h0 v28h0 v29h0 v30h0 v31h0 v32h0 v33h0 v34h0 v35h0 v36h0 v37h0 v38h0 v39h0 v40h0 v41h0 v42h0) dX11_wrong_1 mw288 mw289 mw290 mw285 mw291 rfl 11 rfl rfl 0 _ rfl (by unfold yOk; decide) rfl (Nat.le_of_ble_eq_true rfl) (Nat.le_of_ble_eq_true rfl) (Nat.le_of_ble_eq_true rfl) (Nat.le_of_ble_eq_true rfl) (Nat.le_of_ble_eq_true rfl) rfl rfl (by decide) rfl (by decide) (by decide) ?_
  rintro w rfl
  refine k_ws [(h0, .inr (11, [.int 0, v1h0, v2h0, v3h0, v4h0, v5h0, v6h0, v7h0, v8h0, v9h0, v10h0, .int 0, v12h0, v13h0, .int 0, v15h0, v16h0, v17h0, v18h0, v19h0, v20h0, v21h0, v22h0, v23h0, v24h0, v25h0, v26h0, v27h0, v28h0, v29h0, v30h0, v31h0, v32h0, v33h0, v34h0, v35h0, v36h0, v37h0, v38h0, v39h0, v40h0, v41h0, v42h0]))] rfl ?_
  refine k_aload_n X dX11_wrong_4 0 rfl ?_
  refine k_get (ci := 11) X inlX11 rfl 14 (by decide) dX11_wrong_5 mw281 0 rfl rfl ?_
  refine k_if_ne 17 X dX11_wrong_8 (by decide) (fun h_1 => absurd h_1 (by decide)) (fun _ => ?_)
  refine k_aload_n X dX11_wrong_11 0 rfl ?_
  refine k_iconst (v := 1) X dX11_wrong_12 (by decide) ?_
  refine k_callVI (n := 1) (As := [.int 1]) (st := []) X [(h0, .inr (11, [.int 0, v1h0, v2h0, v3h0, v4h0, v5h0, v6h0, v7h0, v8h0, v9h0, v10h0, .int 0, v12h0, v13h0, .int 0, v15h0, v16h0, v17h0, v18h0, v19h0, v20h0, v21h0, v22h0, v23h0, v24h0, v25h0, v26h0, v27h0, v28h0, v29h0, v30h0, v31h0, v32h0, v33h0, v34h0, v35h0, v36h0, v37h0, v38h0, v39h0, v40h0, v41h0, v42h0]))] [] [0] [] (r_no l g h0 1 (.int 0) v1h0 v2h0 v3h0 v4h0 v5h0 v6h0 v7h0 v8h0 v9h0 v10h0 (.int 0) v12h0 v13h0 (.int 0) v15h0 v16h0 v17h0 v18h0 v19h0 v20h0 v21h0 v22h0 v23h0 v24h0 v25h0 v26h0 v27h0 v28h0 v29h0 v30h0 v31h0 v32h0 v33h0 v34h0 v35h0 v36h0 v37h0 v38h0 v39h0 v40h0 v41h0 v42h0) dX11_wrong_13 mw296 mw297 mw298 mw285 mw299 rfl 11 rfl rfl 0 _ rfl (by unfold yOk; decide) rfl (Nat.le_of_ble_eq_true rfl) (Nat.le_of_ble_eq_true rfl) (Nat.le_of_ble_eq_true rfl) (Nat.le_of_ble_eq_true rfl) (Nat.le_of_ble_eq_true rfl) rfl rfl (by decide) rfl (by decide) (by decide) ?_
  rintro r w ⟨rfl, rfl⟩
  refine k_ws [] rfl ?_
  exact k_iret X hr dX11_wrong_16 (Nat.le_of_ble_eq_true rfl) (Nat.le_of_ble_eq_true rfl) [] (by decide) rfl rfl ⟨rfl, rfl⟩

theorem dX11_exchanges_0 : decode cX11_exchanges 0 = .ok (.aload_n 0, 1) := by decide +kernel
theorem dX11_exchanges_1 : decode cX11_exchanges 1 = .ok (.invokevirtual 200, 3) := by decide +kernel
theorem dX11_exchanges_4 : decode cX11_exchanges 4 = .ok (.aload_n 0, 1) := by decide +kernel
theorem dX11_exchanges_5 : decode cX11_exchanges 5 = .ok (.getfield 213, 3) := by decide +kernel
theorem dX11_exchanges_8 : decode cX11_exchanges 8 = .ok (.ifCond .ne 9, 3) := by decide +kernel
theorem dX11_exchanges_11 : decode cX11_exchanges 11 = .ok (.aload_n 0, 1) := by decide +kernel
theorem dX11_exchanges_12 : decode cX11_exchanges 12 = .ok (.iconst 1, 1) := by decide +kernel
theorem dX11_exchanges_13 : decode cX11_exchanges 13 = .ok (.invokevirtual 203, 3) := by decide +kernel
theorem dX11_exchanges_16 : decode cX11_exchanges 16 = .ok (.ireturn, 1) := by decide +kernel
set_option maxHeartbeats 4000000 in
set_option maxRecDepth 100000 in
theorem r_exchanges (l : Launch) (g : Gx) (h0 : Nat) (v0h0 : Value) (v1h0 : Value) (v2h0 : Value) (v3h0 : Value) (v4h0 : Value) (v5h0 : Value) (v6h0 : Value) (v7h0 : Value) (v8h0 : Value) (v9h0 : Value) (v10h0 : Value) (v11h0 : Value) (v12h0 : Value) (v13h0 : Value) (v15h0 : Value) (v16h0 : Value) (v17h0 : Value) (v18h0 : Value) (v19h0 : Value) (v20h0 : Value) (v21h0 : Value) (v22h0 : Value) (v23h0 : Value) (v24h0 : Value) (v25h0 : Value) (v26h0 : Value) (v27h0 : Value) (v28h0 : Value) (v29h0 : Value) (v30h0 : Value) (v31h0 : Value) (v32h0 : Value) (v33h0 : Value) (v34h0 : Value) (v35h0 : Value) (v36h0 : Value) (v37h0 : Value) (v38h0 : Value) (v39h0 : Value) (v40h0 : Value) (v41h0 : Value) (v42h0 : Value) : cI l g yX11_exchanges cX11_exchanges 5 (some .int) 1 21 0 0 [.ref h0] [(h0, .inr (11, [v0h0, v1h0, v2h0, v3h0, v4h0, v5h0, v6h0, v7h0, v8h0, v9h0, v10h0, v11h0, v12h0, v13h0, .int 0, v15h0, v16h0, v17h0, v18h0, v19h0, v20h0, v21h0, v22h0, v23h0, v24h0, v25h0, v26h0, v27h0, v28h0, v29h0, v30h0, v31h0, v32h0, v33h0, v34h0, v35h0, v36h0, v37h0, v38h0, v39h0, v40h0, v41h0, v42h0]))] (fun r w => r = (-1) ∧ w = []) := by
  refine cI.of (by decide) (Nat.le_of_ble_eq_true rfl) ?_
  intro p e s m args below meth c A X hr hi
  refine k_lveq [(0, .ref h0)] rfl ?_
  refine k_aload_n X dX11_exchanges_0 0 rfl ?_
  refine k_callVV (n := 0) (As := []) (st := []) X [(h0, .inr (11, [v0h0, v1h0, v2h0, v3h0, v4h0, v5h0, v6h0, v7h0, v8h0, v9h0, v10h0, v11h0, v12h0, v13h0, .int 0, v15h0, v16h0, v17h0, v18h0, v19h0, v20h0, v21h0, v22h0, v23h0, v24h0, v25h0, v26h0, v27h0, v28h0, v29h0, v30h0, v31h0, v32h0, v33h0, v34h0, v35h0, v36h0, v37h0, v38h0, v39h0, v40h0, v41h0, v42h0]))] [] [0] [] (r_good l g h0 v0h0 v1h0 v2h0 v3h0 v4h0 v5h0 v6h0 v7h0 v8h0 v9h0 v10h0 v11h0 v12h0 v13h0 (.int 0) v15h0 v16h0 v17h0 v18h0 v19h0 v20h0 v21h0 v22h0 v23h0 v24h0 v25h0 v26h0 v27h0 v28h0 v29h0 v30h0 v31h0 v32h0 v33h0 v34h0 v35h0 v36h0 v37h0 v38h0 v39h0 v40h0 v41h0 v42h0) dX11_exchanges_1 mw288 mw289 mw290 mw285 mw291 rfl 11 rfl rfl 0 _ rfl (by unfold yOk; decide) rfl (Nat.le_of_ble_eq_true rfl) (Nat.le_of_ble_eq_true rfl) (Nat.le_of_ble_eq_true rfl) (Nat.le_of_ble_eq_true rfl) (Nat.le_of_ble_eq_true rfl) rfl rfl (by decide) rfl (by decide) (by decide) ?_
  rintro w rfl
  refine k_ws [(h0, .inr (11, [.int 0, v1h0, v2h0, v3h0, v4h0, v5h0, v6h0, v7h0, v8h0, v9h0, v10h0, .int 0, v12h0, v13h0, .int 0, v15h0, v16h0, v17h0, v18h0, v19h0, v20h0, v21h0, v22h0, v23h0, v24h0, v25h0, v26h0, v27h0, v28h0, v29h0, v30h0, v31h0, v32h0, v33h0, v34h0, v35h0, v36h0, v37h0, v38h0, v39h0, v40h0, v41h0, v42h0]))] rfl ?_
  refine k_aload_n X dX11_exchanges_4 0 rfl ?_
  refine k_get (ci := 11) X inlX11 rfl 14 (by decide) dX11_exchanges_5 mw281 0 rfl rfl ?_
  refine k_if_ne 17 X dX11_exchanges_8 (by decide) (fun h_1 => absurd h_1 (by decide)) (fun _ => ?_)
  refine k_aload_n X dX11_exchanges_11 0 rfl ?_
  refine k_iconst (v := 1) X dX11_exchanges_12 (by decide) ?_
  refine k_callVI (n := 1) (As := [.int 1]) (st := []) X [(h0, .inr (11, [.int 0, v1h0, v2h0, v3h0, v4h0, v5h0, v6h0, v7h0, v8h0, v9h0, v10h0, .int 0, v12h0, v13h0, .int 0, v15h0, v16h0, v17h0, v18h0, v19h0, v20h0, v21h0, v22h0, v23h0, v24h0, v25h0, v26h0, v27h0, v28h0, v29h0, v30h0, v31h0, v32h0, v33h0, v34h0, v35h0, v36h0, v37h0, v38h0, v39h0, v40h0, v41h0, v42h0]))] [] [0] [] (r_no l g h0 1 (.int 0) v1h0 v2h0 v3h0 v4h0 v5h0 v6h0 v7h0 v8h0 v9h0 v10h0 (.int 0) v12h0 v13h0 (.int 0) v15h0 v16h0 v17h0 v18h0 v19h0 v20h0 v21h0 v22h0 v23h0 v24h0 v25h0 v26h0 v27h0 v28h0 v29h0 v30h0 v31h0 v32h0 v33h0 v34h0 v35h0 v36h0 v37h0 v38h0 v39h0 v40h0 v41h0 v42h0) dX11_exchanges_13 mw296 mw297 mw298 mw285 mw299 rfl 11 rfl rfl 0 _ rfl (by unfold yOk; decide) rfl (Nat.le_of_ble_eq_true rfl) (Nat.le_of_ble_eq_true rfl) (Nat.le_of_ble_eq_true rfl) (Nat.le_of_ble_eq_true rfl) (Nat.le_of_ble_eq_true rfl) rfl rfl (by decide) rfl (by decide) (by decide) ?_
  rintro r w ⟨rfl, rfl⟩
  refine k_ws [] rfl ?_
  exact k_iret X hr dX11_exchanges_16 (Nat.le_of_ble_eq_true rfl) (Nat.le_of_ble_eq_true rfl) [] (by decide) rfl rfl ⟨rfl, rfl⟩

theorem dX11_bestMan_0 : decode cX11_bestMan 0 = .ok (.aload_n 0, 1) := by decide +kernel
theorem dX11_bestMan_1 : decode cX11_bestMan 1 = .ok (.invokevirtual 200, 3) := by decide +kernel
theorem dX11_bestMan_4 : decode cX11_bestMan 4 = .ok (.aload_n 0, 1) := by decide +kernel
theorem dX11_bestMan_5 : decode cX11_bestMan 5 = .ok (.getfield 213, 3) := by decide +kernel
theorem dX11_bestMan_8 : decode cX11_bestMan 8 = .ok (.ifCond .ne 9, 3) := by decide +kernel
theorem dX11_bestMan_11 : decode cX11_bestMan 11 = .ok (.aload_n 0, 1) := by decide +kernel
theorem dX11_bestMan_12 : decode cX11_bestMan 12 = .ok (.iconst 1, 1) := by decide +kernel
theorem dX11_bestMan_13 : decode cX11_bestMan 13 = .ok (.invokevirtual 203, 3) := by decide +kernel
theorem dX11_bestMan_16 : decode cX11_bestMan 16 = .ok (.ireturn, 1) := by decide +kernel
set_option maxHeartbeats 4000000 in
set_option maxRecDepth 100000 in
theorem r_bestMan (l : Launch) (g : Gx) (h0 : Nat) (p0 : Int32) (p1 : Int32) (v0h0 : Value) (v1h0 : Value) (v2h0 : Value) (v3h0 : Value) (v4h0 : Value) (v5h0 : Value) (v6h0 : Value) (v7h0 : Value) (v8h0 : Value) (v9h0 : Value) (v10h0 : Value) (v11h0 : Value) (v12h0 : Value) (v13h0 : Value) (v15h0 : Value) (v16h0 : Value) (v17h0 : Value) (v18h0 : Value) (v19h0 : Value) (v20h0 : Value) (v21h0 : Value) (v22h0 : Value) (v23h0 : Value) (v24h0 : Value) (v25h0 : Value) (v26h0 : Value) (v27h0 : Value) (v28h0 : Value) (v29h0 : Value) (v30h0 : Value) (v31h0 : Value) (v32h0 : Value) (v33h0 : Value) (v34h0 : Value) (v35h0 : Value) (v36h0 : Value) (v37h0 : Value) (v38h0 : Value) (v39h0 : Value) (v40h0 : Value) (v41h0 : Value) (v42h0 : Value) : cI l g yX11_bestMan cX11_bestMan 8 (some .int) 1 21 0 0 [.ref h0, .int p0, .int p1] [(h0, .inr (11, [v0h0, v1h0, v2h0, v3h0, v4h0, v5h0, v6h0, v7h0, v8h0, v9h0, v10h0, v11h0, v12h0, v13h0, .int 0, v15h0, v16h0, v17h0, v18h0, v19h0, v20h0, v21h0, v22h0, v23h0, v24h0, v25h0, v26h0, v27h0, v28h0, v29h0, v30h0, v31h0, v32h0, v33h0, v34h0, v35h0, v36h0, v37h0, v38h0, v39h0, v40h0, v41h0, v42h0]))] (fun r w => r = (-1) ∧ w = []) := by
  refine cI.of (by decide) (Nat.le_of_ble_eq_true rfl) ?_
  intro p e s m args below meth c A X hr hi
  refine k_lveq [(0, .ref h0), (1, .int p0), (2, .int p1)] rfl ?_
  refine k_aload_n X dX11_bestMan_0 0 rfl ?_
  refine k_callVV (n := 0) (As := []) (st := []) X [(h0, .inr (11, [v0h0, v1h0, v2h0, v3h0, v4h0, v5h0, v6h0, v7h0, v8h0, v9h0, v10h0, v11h0, v12h0, v13h0, .int 0, v15h0, v16h0, v17h0, v18h0, v19h0, v20h0, v21h0, v22h0, v23h0, v24h0, v25h0, v26h0, v27h0, v28h0, v29h0, v30h0, v31h0, v32h0, v33h0, v34h0, v35h0, v36h0, v37h0, v38h0, v39h0, v40h0, v41h0, v42h0]))] [] [0] [] (r_good l g h0 v0h0 v1h0 v2h0 v3h0 v4h0 v5h0 v6h0 v7h0 v8h0 v9h0 v10h0 v11h0 v12h0 v13h0 (.int 0) v15h0 v16h0 v17h0 v18h0 v19h0 v20h0 v21h0 v22h0 v23h0 v24h0 v25h0 v26h0 v27h0 v28h0 v29h0 v30h0 v31h0 v32h0 v33h0 v34h0 v35h0 v36h0 v37h0 v38h0 v39h0 v40h0 v41h0 v42h0) dX11_bestMan_1 mw288 mw289 mw290 mw285 mw291 rfl 11 rfl rfl 0 _ rfl (by unfold yOk; decide) rfl (Nat.le_of_ble_eq_true rfl) (Nat.le_of_ble_eq_true rfl) (Nat.le_of_ble_eq_true rfl) (Nat.le_of_ble_eq_true rfl) (Nat.le_of_ble_eq_true rfl) rfl rfl (by decide) rfl (by decide) (by decide) ?_
  rintro w rfl
  refine k_ws [(h0, .inr (11, [.int 0, v1h0, v2h0, v3h0, v4h0, v5h0, v6h0, v7h0, v8h0, v9h0, v10h0, .int 0, v12h0, v13h0, .int 0, v15h0, v16h0, v17h0, v18h0, v19h0, v20h0, v21h0, v22h0, v23h0, v24h0, v25h0, v26h0, v27h0, v28h0, v29h0, v30h0, v31h0, v32h0, v33h0, v34h0, v35h0, v36h0, v37h0, v38h0, v39h0, v40h0, v41h0, v42h0]))] rfl ?_
  refine k_aload_n X dX11_bestMan_4 0 rfl ?_
  refine k_get (ci := 11) X inlX11 rfl 14 (by decide) dX11_bestMan_5 mw281 0 rfl rfl ?_
  refine k_if_ne 17 X dX11_bestMan_8 (by decide) (fun h_1 => absurd h_1 (by decide)) (fun _ => ?_)
  refine k_aload_n X dX11_bestMan_11 0 rfl ?_
  refine k_iconst (v := 1) X dX11_bestMan_12 (by decide) ?_
  refine k_callVI (n := 1) (As := [.int 1]) (st := []) X [(h0, .inr (11, [.int 0, v1h0, v2h0, v3h0, v4h0, v5h0, v6h0, v7h0, v8h0, v9h0, v10h0, .int 0, v12h0, v13h0, .int 0, v15h0, v16h0, v17h0, v18h0, v19h0, v20h0, v21h0, v22h0, v23h0, v24h0, v25h0, v26h0, v27h0, v28h0, v29h0, v30h0, v31h0, v32h0, v33h0, v34h0, v35h0, v36h0, v37h0, v38h0, v39h0, v40h0, v41h0, v42h0]))] [] [0] [] (r_no l g h0 1 (.int 0) v1h0 v2h0 v3h0 v4h0 v5h0 v6h0 v7h0 v8h0 v9h0 v10h0 (.int 0) v12h0 v13h0 (.int 0) v15h0 v16h0 v17h0 v18h0 v19h0 v20h0 v21h0 v22h0 v23h0 v24h0 v25h0 v26h0 v27h0 v28h0 v29h0 v30h0 v31h0 v32h0 v33h0 v34h0 v35h0 v36h0 v37h0 v38h0 v39h0 v40h0 v41h0 v42h0) dX11_bestMan_13 mw296 mw297 mw298 mw285 mw299 rfl 11 rfl rfl 0 _ rfl (by unfold yOk; decide) rfl (Nat.le_of_ble_eq_true rfl) (Nat.le_of_ble_eq_true rfl) (Nat.le_of_ble_eq_true rfl) (Nat.le_of_ble_eq_true rfl) (Nat.le_of_ble_eq_true rfl) rfl rfl (by decide) rfl (by decide) (by decide) ?_
  rintro r w ⟨rfl, rfl⟩
  refine k_ws [] rfl ?_
  exact k_iret X hr dX11_bestMan_16 (Nat.le_of_ble_eq_true rfl) (Nat.le_of_ble_eq_true rfl) [] (by decide) rfl rfl ⟨rfl, rfl⟩

theorem dX11_image_0 : decode cX11_image 0 = .ok (.aload_n 0, 1) := by decide +kernel
theorem dX11_image_1 : decode cX11_image 1 = .ok (.invokevirtual 200, 3) := by decide +kernel
theorem dX11_image_4 : decode cX11_image 4 = .ok (.aload_n 0, 1) := by decide +kernel
theorem dX11_image_5 : decode cX11_image 5 = .ok (.getfield 213, 3) := by decide +kernel
theorem dX11_image_8 : decode cX11_image 8 = .ok (.ifCond .ne 9, 3) := by decide +kernel
theorem dX11_image_11 : decode cX11_image 11 = .ok (.aload_n 0, 1) := by decide +kernel
theorem dX11_image_12 : decode cX11_image 12 = .ok (.iconst 1, 1) := by decide +kernel
theorem dX11_image_13 : decode cX11_image 13 = .ok (.invokevirtual 203, 3) := by decide +kernel
theorem dX11_image_16 : decode cX11_image 16 = .ok (.ireturn, 1) := by decide +kernel
set_option maxHeartbeats 4000000 in
set_option maxRecDepth 100000 in
theorem r_image (l : Launch) (g : Gx) (h0 : Nat) (v0h0 : Value) (v1h0 : Value) (v2h0 : Value) (v3h0 : Value) (v4h0 : Value) (v5h0 : Value) (v6h0 : Value) (v7h0 : Value) (v8h0 : Value) (v9h0 : Value) (v10h0 : Value) (v11h0 : Value) (v12h0 : Value) (v13h0 : Value) (v15h0 : Value) (v16h0 : Value) (v17h0 : Value) (v18h0 : Value) (v19h0 : Value) (v20h0 : Value) (v21h0 : Value) (v22h0 : Value) (v23h0 : Value) (v24h0 : Value) (v25h0 : Value) (v26h0 : Value) (v27h0 : Value) (v28h0 : Value) (v29h0 : Value) (v30h0 : Value) (v31h0 : Value) (v32h0 : Value) (v33h0 : Value) (v34h0 : Value) (v35h0 : Value) (v36h0 : Value) (v37h0 : Value) (v38h0 : Value) (v39h0 : Value) (v40h0 : Value) (v41h0 : Value) (v42h0 : Value) : cI l g yX11_image cX11_image 1 (some .int) 1 21 0 0 [.ref h0] [(h0, .inr (11, [v0h0, v1h0, v2h0, v3h0, v4h0, v5h0, v6h0, v7h0, v8h0, v9h0, v10h0, v11h0, v12h0, v13h0, .int 0, v15h0, v16h0, v17h0, v18h0, v19h0, v20h0, v21h0, v22h0, v23h0, v24h0, v25h0, v26h0, v27h0, v28h0, v29h0, v30h0, v31h0, v32h0, v33h0, v34h0, v35h0, v36h0, v37h0, v38h0, v39h0, v40h0, v41h0, v42h0]))] (fun r w => r = (-1) ∧ w = []) := by
  refine cI.of (by decide) (Nat.le_of_ble_eq_true rfl) ?_
  intro p e s m args below meth c A X hr hi
  refine k_lveq [(0, .ref h0)] rfl ?_
  refine k_aload_n X dX11_image_0 0 rfl ?_
  refine k_callVV (n := 0) (As := []) (st := []) X [(h0, .inr (11, [v0h0, v1h0, v2h0, v3h0, v4h0, v5h0, v6h0, v7h0, v8h0, v9h0, v10h0, v11h0, v12h0, v13h0, .int 0, v15h0, v16h0, v17h0, v18h0, v19h0, v20h0, v21h0, v22h0, v23h0, v24h0, v25h0, v26h0, v27h0, v28h0, v29h0, v30h0, v31h0, v32h0, v33h0, v34h0, v35h0, v36h0, v37h0, v38h0, v39h0, v40h0, v41h0, v42h0]))] [] [0] [] (r_good l g h0 v0h0 v1h0 v2h0 v3h0 v4h0 v5h0 v6h0 v7h0 v8h0 v9h0 v10h0 v11h0 v12h0 v13h0 (.int 0) v15h0 v16h0 v17h0 v18h0 v19h0 v20h0 v21h0 v22h0 v23h0 v24h0 v25h0 v26h0 v27h0 v28h0 v29h0 v30h0 v31h0 v32h0 v33h0 v34h0 v35h0 v36h0 v37h0 v38h0 v39h0 v40h0 v41h0 v42h0) dX11_image_1 mw288 mw289 mw290 mw285 mw291 rfl 11 rfl rfl 0 _ rfl (by unfold yOk; decide) rfl (Nat.le_of_ble_eq_true rfl) (Nat.le_of_ble_eq_true rfl) (Nat.le_of_ble_eq_true rfl) (Nat.le_of_ble_eq_true rfl) (Nat.le_of_ble_eq_true rfl) rfl rfl (by decide) rfl (by decide) (by decide) ?_
  rintro w rfl
  refine k_ws [(h0, .inr (11, [.int 0, v1h0, v2h0, v3h0, v4h0, v5h0, v6h0, v7h0, v8h0, v9h0, v10h0, .int 0, v12h0, v13h0, .int 0, v15h0, v16h0, v17h0, v18h0, v19h0, v20h0, v21h0, v22h0, v23h0, v24h0, v25h0, v26h0, v27h0, v28h0, v29h0, v30h0, v31h0, v32h0, v33h0, v34h0, v35h0, v36h0, v37h0, v38h0, v39h0, v40h0, v41h0, v42h0]))] rfl ?_
  refine k_aload_n X dX11_image_4 0 rfl ?_
  refine k_get (ci := 11) X inlX11 rfl 14 (by decide) dX11_image_5 mw281 0 rfl rfl ?_
  refine k_if_ne 17 X dX11_image_8 (by decide) (fun h_1 => absurd h_1 (by decide)) (fun _ => ?_)
  refine k_aload_n X dX11_image_11 0 rfl ?_
  refine k_iconst (v := 1) X dX11_image_12 (by decide) ?_
  refine k_callVI (n := 1) (As := [.int 1]) (st := []) X [(h0, .inr (11, [.int 0, v1h0, v2h0, v3h0, v4h0, v5h0, v6h0, v7h0, v8h0, v9h0, v10h0, .int 0, v12h0, v13h0, .int 0, v15h0, v16h0, v17h0, v18h0, v19h0, v20h0, v21h0, v22h0, v23h0, v24h0, v25h0, v26h0, v27h0, v28h0, v29h0, v30h0, v31h0, v32h0, v33h0, v34h0, v35h0, v36h0, v37h0, v38h0, v39h0, v40h0, v41h0, v42h0]))] [] [0] [] (r_no l g h0 1 (.int 0) v1h0 v2h0 v3h0 v4h0 v5h0 v6h0 v7h0 v8h0 v9h0 v10h0 (.int 0) v12h0 v13h0 (.int 0) v15h0 v16h0 v17h0 v18h0 v19h0 v20h0 v21h0 v22h0 v23h0 v24h0 v25h0 v26h0 v27h0 v28h0 v29h0 v30h0 v31h0 v32h0 v33h0 v34h0 v35h0 v36h0 v37h0 v38h0 v39h0 v40h0 v41h0 v42h0) dX11_image_13 mw296 mw297 mw298 mw285 mw299 rfl 11 rfl rfl 0 _ rfl (by unfold yOk; decide) rfl (Nat.le_of_ble_eq_true rfl) (Nat.le_of_ble_eq_true rfl) (Nat.le_of_ble_eq_true rfl) (Nat.le_of_ble_eq_true rfl) (Nat.le_of_ble_eq_true rfl) rfl rfl (by decide) rfl (by decide) (by decide) ?_
  rintro r w ⟨rfl, rfl⟩
  refine k_ws [] rfl ?_
  exact k_iret X hr dX11_image_16 (Nat.le_of_ble_eq_true rfl) (Nat.le_of_ble_eq_true rfl) [] (by decide) rfl rfl ⟨rfl, rfl⟩

theorem dX11_length_0 : decode cX11_length 0 = .ok (.aload_n 0, 1) := by decide +kernel
theorem dX11_length_1 : decode cX11_length 1 = .ok (.invokevirtual 200, 3) := by decide +kernel
theorem dX11_length_4 : decode cX11_length 4 = .ok (.aload_n 0, 1) := by decide +kernel
theorem dX11_length_5 : decode cX11_length 5 = .ok (.iload_n 1, 1) := by decide +kernel
theorem dX11_length_6 : decode cX11_length 6 = .ok (.iconst 0, 1) := by decide +kernel
theorem dX11_length_7 : decode cX11_length 7 = .ok (.invokevirtual 376, 3) := by decide +kernel
theorem dX11_length_10 : decode cX11_length 10 = .ok (.ifCond .eq 20, 3) := by decide +kernel
theorem dX11_length_30 : decode cX11_length 30 = .ok (.aload_n 0, 1) := by decide +kernel
theorem dX11_length_31 : decode cX11_length 31 = .ok (.iconst 1, 1) := by decide +kernel
theorem dX11_length_32 : decode cX11_length 32 = .ok (.invokevirtual 203, 3) := by decide +kernel
theorem dX11_length_35 : decode cX11_length 35 = .ok (.ireturn, 1) := by decide +kernel
set_option maxHeartbeats 4000000 in
set_option maxRecDepth 100000 in
theorem r_length (l : Launch) (g : Gx) (h0 : Nat) (p0 : Int32) (v0h0 : Value) (v1h0 : Value) (v2h0 : Value) (v3h0 : Value) (v4h0 : Value) (v5h0 : Value) (v6h0 : Value) (v7h0 : Value) (v8h0 : Value) (v9h0 : Value) (v10h0 : Value) (v11h0 : Value) (v12h0 : Value) (v13h0 : Value) (v15h0 : Value) (v16h0 : Value) (v17h0 : Value) (v18h0 : Value) (v19h0 : Value) (v20h0 : Value) (v21h0 : Value) (v22h0 : Value) (v23h0 : Value) (v24h0 : Value) (v25h0 : Value) (v26h0 : Value) (v27h0 : Value) (v28h0 : Value) (v29h0 : Value) (v30h0 : Value) (v31h0 : Value) (v32h0 : Value) (v33h0 : Value) (v34h0 : Value) (v35h0 : Value) (v36h0 : Value) (v37h0 : Value) (v38h0 : Value) (v39h0 : Value) (v40h0 : Value) (v41h0 : Value) (v42h0 : Value) : cI l g yX11_length cX11_length 2 (some .int) 2 43 0 0 [.ref h0, .int p0] [(h0, .inr (11, [v0h0, v1h0, v2h0, v3h0, v4h0, v5h0, v6h0, v7h0, v8h0, v9h0, v10h0, v11h0, v12h0, v13h0, .int 0, v15h0, v16h0, v17h0, v18h0, v19h0, v20h0, v21h0, v22h0, v23h0, v24h0, v25h0, v26h0, v27h0, v28h0, v29h0, v30h0, v31h0, v32h0, v33h0, v34h0, v35h0, v36h0, v37h0, v38h0, v39h0, v40h0, v41h0, v42h0]))] (fun r w => r = (-1) ∧ w = []) := by
  refine cI.of (by decide) (Nat.le_of_ble_eq_true rfl) ?_
  intro p e s m args below meth c A X hr hi
  refine k_lveq [(0, .ref h0), (1, .int p0)] rfl ?_
  refine k_aload_n X dX11_length_0 0 rfl ?_
  refine k_callVV (n := 0) (As := []) (st := []) X [(h0, .inr (11, [v0h0, v1h0, v2h0, v3h0, v4h0, v5h0, v6h0, v7h0, v8h0, v9h0, v10h0, v11h0, v12h0, v13h0, .int 0, v15h0, v16h0, v17h0, v18h0, v19h0, v20h0, v21h0, v22h0, v23h0, v24h0, v25h0, v26h0, v27h0, v28h0, v29h0, v30h0, v31h0, v32h0, v33h0, v34h0, v35h0, v36h0, v37h0, v38h0, v39h0, v40h0, v41h0, v42h0]))] [] [0] [] (r_good l g h0 v0h0 v1h0 v2h0 v3h0 v4h0 v5h0 v6h0 v7h0 v8h0 v9h0 v10h0 v11h0 v12h0 v13h0 (.int 0) v15h0 v16h0 v17h0 v18h0 v19h0 v20h0 v21h0 v22h0 v23h0 v24h0 v25h0 v26h0 v27h0 v28h0 v29h0 v30h0 v31h0 v32h0 v33h0 v34h0 v35h0 v36h0 v37h0 v38h0 v39h0 v40h0 v41h0 v42h0) dX11_length_1 mw288 mw289 mw290 mw285 mw291 rfl 11 rfl rfl 0 _ rfl (by unfold yOk; decide) rfl (Nat.le_of_ble_eq_true rfl) (Nat.le_of_ble_eq_true rfl) (Nat.le_of_ble_eq_true rfl) (Nat.le_of_ble_eq_true rfl) (Nat.le_of_ble_eq_true rfl) rfl rfl (by decide) rfl (by decide) (by decide) ?_
  rintro w rfl
  refine k_ws [(h0, .inr (11, [.int 0, v1h0, v2h0, v3h0, v4h0, v5h0, v6h0, v7h0, v8h0, v9h0, v10h0, .int 0, v12h0, v13h0, .int 0, v15h0, v16h0, v17h0, v18h0, v19h0, v20h0, v21h0, v22h0, v23h0, v24h0, v25h0, v26h0, v27h0, v28h0, v29h0, v30h0, v31h0, v32h0, v33h0, v34h0, v35h0, v36h0, v37h0, v38h0, v39h0, v40h0, v41h0, v42h0]))] rfl ?_
  refine k_aload_n X dX11_length_4 0 rfl ?_
  refine k_iload_n X dX11_length_5 1 rfl ?_
  refine k_iconst (v := 0) X dX11_length_6 (by decide) ?_
  refine k_callVI (n := 2) (As := [.int p0, .int 0]) (st := []) X [(h0, .inr (11, [.int 0, v1h0, v2h0, v3h0, v4h0, v5h0, v6h0, v7h0, v8h0, v9h0, v10h0, .int 0, v12h0, v13h0, .int 0, v15h0, v16h0, v17h0, v18h0, v19h0, v20h0, v21h0, v22h0, v23h0, v24h0, v25h0, v26h0, v27h0, v28h0, v29h0, v30h0, v31h0, v32h0, v33h0, v34h0, v35h0, v36h0, v37h0, v38h0, v39h0, v40h0, v41h0, v42h0]))] [] [0] [] (r_canTell l g h0 p0 0 (.int 0) v1h0 v2h0 v3h0 v4h0 v5h0 v6h0 v7h0 v8h0 v9h0 v10h0 (.int 0) v12h0 v13h0 v15h0 v16h0 v17h0 v18h0 v19h0 v20h0 v21h0 v22h0 v23h0 v24h0 v25h0 v26h0 v27h0 v28h0 v29h0 v30h0 v31h0 v32h0 v33h0 v34h0 v35h0 v36h0 v37h0 v38h0 v39h0 v40h0 v41h0 v42h0) dX11_length_7 mw304 mw305 mw306 mw285 mw307 rfl 11 rfl rfl 0 _ rfl (by unfold yOk; decide) rfl (Nat.le_of_ble_eq_true rfl) (Nat.le_of_ble_eq_true rfl) (Nat.le_of_ble_eq_true rfl) (Nat.le_of_ble_eq_true rfl) (Nat.le_of_ble_eq_true rfl) rfl rfl (by decide) rfl (by decide) (by decide) ?_
  rintro r w ⟨rfl, rfl⟩
  refine k_ws [(h0, .inr (11, [.int 0, v1h0, v2h0, v3h0, v4h0, v5h0, v6h0, v7h0, v8h0, v9h0, v10h0, .int 0, v12h0, v13h0, .int 0, v15h0, v16h0, v17h0, v18h0, v19h0, v20h0, v21h0, v22h0, v23h0, v24h0, v25h0, v26h0, v27h0, v28h0, v29h0, v30h0, v31h0, v32h0, v33h0, v34h0, v35h0, v36h0, v37h0, v38h0, v39h0, v40h0, v41h0, v42h0]))] rfl ?_
  refine k_if_eq 30 X dX11_length_10 (by decide) (fun _ => ?_) (fun h_1 => absurd (by decide) h_1)
  refine k_aload_n X dX11_length_30 0 rfl ?_
  refine k_iconst (v := 1) X dX11_length_31 (by decide) ?_
  refine k_callVI (n := 1) (As := [.int 1]) (st := []) X [(h0, .inr (11, [.int 0, v1h0, v2h0, v3h0, v4h0, v5h0, v6h0, v7h0, v8h0, v9h0, v10h0, .int 0, v12h0, v13h0, .int 0, v15h0, v16h0, v17h0, v18h0, v19h0, v20h0, v21h0, v22h0, v23h0, v24h0, v25h0, v26h0, v27h0, v28h0, v29h0, v30h0, v31h0, v32h0, v33h0, v34h0, v35h0, v36h0, v37h0, v38h0, v39h0, v40h0, v41h0, v42h0]))] [] [0] [] (r_no l g h0 1 (.int 0) v1h0 v2h0 v3h0 v4h0 v5h0 v6h0 v7h0 v8h0 v9h0 v10h0 (.int 0) v12h0 v13h0 (.int 0) v15h0 v16h0 v17h0 v18h0 v19h0 v20h0 v21h0 v22h0 v23h0 v24h0 v25h0 v26h0 v27h0 v28h0 v29h0 v30h0 v31h0 v32h0 v33h0 v34h0 v35h0 v36h0 v37h0 v38h0 v39h0 v40h0 v41h0 v42h0) dX11_length_32 mw296 mw297 mw298 mw285 mw299 rfl 11 rfl rfl 0 _ rfl (by unfold yOk; decide) rfl (Nat.le_of_ble_eq_true rfl) (Nat.le_of_ble_eq_true rfl) (Nat.le_of_ble_eq_true rfl) (Nat.le_of_ble_eq_true rfl) (Nat.le_of_ble_eq_true rfl) rfl rfl (by decide) rfl (by decide) (by decide) ?_
  rintro r w ⟨rfl, rfl⟩
  refine k_ws [] rfl ?_
  exact k_iret X hr dX11_length_35 (Nat.le_of_ble_eq_true rfl) (Nat.le_of_ble_eq_true rfl) [] (by decide) rfl rfl ⟨rfl, rfl⟩

theorem dX11_all_0 : decode cX11_all 0 = .ok (.aload_n 0, 1) := by decide +kernel
theorem dX11_all_1 : decode cX11_all 1 = .ok (.invokevirtual 200, 3) := by decide +kernel
theorem dX11_all_4 : decode cX11_all 4 = .ok (.iload_n 2, 1) := by decide +kernel
theorem dX11_all_5 : decode cX11_all 5 = .ok (.iconst 0, 1) := by decide +kernel
theorem dX11_all_6 : decode cX11_all 6 = .ok (.iconst 3, 1) := by decide +kernel
theorem dX11_all_7 : decode cX11_all 7 = .ok (.invokestatic 182, 3) := by decide +kernel
theorem dX11_all_10 : decode cX11_all 10 = .ok (.ifCond .eq 20, 3) := by decide +kernel
theorem dX11_all_13 : decode cX11_all 13 = .ok (.aload_n 0, 1) := by decide +kernel
theorem dX11_all_14 : decode cX11_all 14 = .ok (.iload_n 1, 1) := by decide +kernel
theorem dX11_all_15 : decode cX11_all 15 = .ok (.iconst 0, 1) := by decide +kernel
theorem dX11_all_16 : decode cX11_all 16 = .ok (.invokevirtual 376, 3) := by decide +kernel
theorem dX11_all_19 : decode cX11_all 19 = .ok (.ifCond .eq 11, 3) := by decide +kernel
theorem dX11_all_30 : decode cX11_all 30 = .ok (.aload_n 0, 1) := by decide +kernel
theorem dX11_all_31 : decode cX11_all 31 = .ok (.iconst 1, 1) := by decide +kernel
theorem dX11_all_32 : decode cX11_all 32 = .ok (.invokevirtual 203, 3) := by decide +kernel
theorem dX11_all_35 : decode cX11_all 35 = .ok (.ireturn, 1) := by decide +kernel
set_option maxHeartbeats 4000000 in
set_option maxRecDepth 100000 in
theorem r_all (l : Launch) (g : Gx) (h0 : Nat) (p0 : Int32) (p1 : Int32) (v0h0 : Value) (v1h0 : Value) (v2h0 : Value) (v3h0 : Value) (v4h0 : Value) (v5h0 : Value) (v6h0 : Value) (v7h0 : Value) (v8h0 : Value) (v9h0 : Value) (v10h0 : Value) (v11h0 : Value) (v12h0 : Value) (v13h0 : Value) (v15h0 : Value) (v16h0 : Value) (v17h0 : Value) (v18h0 : Value) (v19h0 : Value) (v20h0 : Value) (v21h0 : Value) (v22h0 : Value) (v23h0 : Value) (v24h0 : Value) (v25h0 : Value) (v26h0 : Value) (v27h0 : Value) (v28h0 : Value) (v29h0 : Value) (v30h0 : Value) (v31h0 : Value) (v32h0 : Value) (v33h0 : Value) (v34h0 : Value) (v35h0 : Value) (v36h0 : Value) (v37h0 : Value) (v38h0 : Value) (v39h0 : Value) (v40h0 : Value) (v41h0 : Value) (v42h0 : Value) : cI l g yX11_all cX11_all 3 (some .int) 2 43 0 0 [.ref h0, .int p0, .int p1] [(h0, .inr (11, [v0h0, v1h0, v2h0, v3h0, v4h0, v5h0, v6h0, v7h0, v8h0, v9h0, v10h0, v11h0, v12h0, v13h0, .int 0, v15h0, v16h0, v17h0, v18h0, v19h0, v20h0, v21h0, v22h0, v23h0, v24h0, v25h0, v26h0, v27h0, v28h0, v29h0, v30h0, v31h0, v32h0, v33h0, v34h0, v35h0, v36h0, v37h0, v38h0, v39h0, v40h0, v41h0, v42h0]))] (fun r w => r = (-1) ∧ w = []) := by
  refine cI.of (by decide) (Nat.le_of_ble_eq_true rfl) ?_
  intro p e s m args below meth c A X hr hi
  refine k_lveq [(0, .ref h0), (1, .int p0), (2, .int p1)] rfl ?_
  refine k_aload_n X dX11_all_0 0 rfl ?_
  refine k_callVV (n := 0) (As := []) (st := []) X [(h0, .inr (11, [v0h0, v1h0, v2h0, v3h0, v4h0, v5h0, v6h0, v7h0, v8h0, v9h0, v10h0, v11h0, v12h0, v13h0, .int 0, v15h0, v16h0, v17h0, v18h0, v19h0, v20h0, v21h0, v22h0, v23h0, v24h0, v25h0, v26h0, v27h0, v28h0, v29h0, v30h0, v31h0, v32h0, v33h0, v34h0, v35h0, v36h0, v37h0, v38h0, v39h0, v40h0, v41h0, v42h0]))] [] [0] [] (r_good l g h0 v0h0 v1h0 v2h0 v3h0 v4h0 v5h0 v6h0 v7h0 v8h0 v9h0 v10h0 v11h0 v12h0 v13h0 (.int 0) v15h0 v16h0 v17h0 v18h0 v19h0 v20h0 v21h0 v22h0 v23h0 v24h0 v25h0 v26h0 v27h0 v28h0 v29h0 v30h0 v31h0 v32h0 v33h0 v34h0 v35h0 v36h0 v37h0 v38h0 v39h0 v40h0 v41h0 v42h0) dX11_all_1 mw288 mw289 mw290 mw285 mw291 rfl 11 rfl rfl 0 _ rfl (by unfold yOk; decide) rfl (Nat.le_of_ble_eq_true rfl) (Nat.le_of_ble_eq_true rfl) (Nat.le_of_ble_eq_true rfl) (Nat.le_of_ble_eq_true rfl) (Nat.le_of_ble_eq_true rfl) rfl rfl (by decide) rfl (by decide) (by decide) ?_
  rintro w rfl
  refine k_ws [(h0, .inr (11, [.int 0, v1h0, v2h0, v3h0, v4h0, v5h0, v6h0, v7h0, v8h0, v9h0, v10h0, .int 0, v12h0, v13h0, .int 0, v15h0, v16h0, v17h0, v18h0, v19h0, v20h0, v21h0, v22h0, v23h0, v24h0, v25h0, v26h0, v27h0, v28h0, v29h0, v30h0, v31h0, v32h0, v33h0, v34h0, v35h0, v36h0, v37h0, v38h0, v39h0, v40h0, v41h0, v42h0]))] rfl ?_
  refine k_iload_n X dX11_all_4 2 rfl ?_
  refine k_iconst (v := 0) X dX11_all_5 (by decide) ?_
  refine k_iconst (v := 3) X dX11_all_6 (by decide) ?_
  refine k_callSI (n := 3) (As := [.int p1, .int 0, .int 3]) (st := []) X [] [(h0, .inr (11, [.int 0, v1h0, v2h0, v3h0, v4h0, v5h0, v6h0, v7h0, v8h0, v9h0, v10h0, .int 0, v12h0, v13h0, .int 0, v15h0, v16h0, v17h0, v18h0, v19h0, v20h0, v21h0, v22h0, v23h0, v24h0, v25h0, v26h0, v27h0, v28h0, v29h0, v30h0, v31h0, v32h0, v33h0, v34h0, v35h0, v36h0, v37h0, v38h0, v39h0, v40h0, v41h0, v42h0]))] [] [0] (r_in l g p1 0 3) dX11_all_7 mw308 mw309 mw285 mw310 (by unfold yOk; decide) rfl (Nat.le_of_ble_eq_true rfl) (Nat.le_of_ble_eq_true rfl) (Nat.le_of_ble_eq_true rfl) (Nat.le_of_ble_eq_true rfl) (Nat.le_of_ble_eq_true rfl) rfl rfl (by decide) rfl (by decide) (by decide) ?_
  rintro r w (⟨rfl, k_1, k_2, rfl⟩ | ⟨rfl, k_3, rfl⟩)
  · skip
    refine k_ws [(h0, .inr (11, [.int 0, v1h0, v2h0, v3h0, v4h0, v5h0, v6h0, v7h0, v8h0, v9h0, v10h0, .int 0, v12h0, v13h0, .int 0, v15h0, v16h0, v17h0, v18h0, v19h0, v20h0, v21h0, v22h0, v23h0, v24h0, v25h0, v26h0, v27h0, v28h0, v29h0, v30h0, v31h0, v32h0, v33h0, v34h0, v35h0, v36h0, v37h0, v38h0, v39h0, v40h0, v41h0, v42h0]))] rfl ?_
    refine k_if_eq 30 X dX11_all_10 (by decide) (fun h_4 => absurd h_4 (by decide)) (fun _ => ?_)
    refine k_aload_n X dX11_all_13 0 rfl ?_
    refine k_iload_n X dX11_all_14 1 rfl ?_
    refine k_iconst (v := 0) X dX11_all_15 (by decide) ?_
    refine k_callVI (n := 2) (As := [.int p0, .int 0]) (st := []) X [(h0, .inr (11, [.int 0, v1h0, v2h0, v3h0, v4h0, v5h0, v6h0, v7h0, v8h0, v9h0, v10h0, .int 0, v12h0, v13h0, .int 0, v15h0, v16h0, v17h0, v18h0, v19h0, v20h0, v21h0, v22h0, v23h0, v24h0, v25h0, v26h0, v27h0, v28h0, v29h0, v30h0, v31h0, v32h0, v33h0, v34h0, v35h0, v36h0, v37h0, v38h0, v39h0, v40h0, v41h0, v42h0]))] [] [0] [] (r_canTell l g h0 p0 0 (.int 0) v1h0 v2h0 v3h0 v4h0 v5h0 v6h0 v7h0 v8h0 v9h0 v10h0 (.int 0) v12h0 v13h0 v15h0 v16h0 v17h0 v18h0 v19h0 v20h0 v21h0 v22h0 v23h0 v24h0 v25h0 v26h0 v27h0 v28h0 v29h0 v30h0 v31h0 v32h0 v33h0 v34h0 v35h0 v36h0 v37h0 v38h0 v39h0 v40h0 v41h0 v42h0) dX11_all_16 mw304 mw305 mw306 mw285 mw307 rfl 11 rfl rfl 0 _ rfl (by unfold yOk; decide) rfl (Nat.le_of_ble_eq_true rfl) (Nat.le_of_ble_eq_true rfl) (Nat.le_of_ble_eq_true rfl) (Nat.le_of_ble_eq_true rfl) (Nat.le_of_ble_eq_true rfl) rfl rfl (by decide) rfl (by decide) (by decide) ?_
    rintro r w ⟨rfl, rfl⟩
    refine k_ws [(h0, .inr (11, [.int 0, v1h0, v2h0, v3h0, v4h0, v5h0, v6h0, v7h0, v8h0, v9h0, v10h0, .int 0, v12h0, v13h0, .int 0, v15h0, v16h0, v17h0, v18h0, v19h0, v20h0, v21h0, v22h0, v23h0, v24h0, v25h0, v26h0, v27h0, v28h0, v29h0, v30h0, v31h0, v32h0, v33h0, v34h0, v35h0, v36h0, v37h0, v38h0, v39h0, v40h0, v41h0, v42h0]))] rfl ?_
    refine k_if_eq 30 X dX11_all_19 (by decide) (fun _ => ?_) (fun h_5 => absurd (by decide) h_5)
    refine k_aload_n X dX11_all_30 0 rfl ?_
    refine k_iconst (v := 1) X dX11_all_31 (by decide) ?_
    refine k_callVI (n := 1) (As := [.int 1]) (st := []) X [(h0, .inr (11, [.int 0, v1h0, v2h0, v3h0, v4h0, v5h0, v6h0, v7h0, v8h0, v9h0, v10h0, .int 0, v12h0, v13h0, .int 0, v15h0, v16h0, v17h0, v18h0, v19h0, v20h0, v21h0, v22h0, v23h0, v24h0, v25h0, v26h0, v27h0, v28h0, v29h0, v30h0, v31h0, v32h0, v33h0, v34h0, v35h0, v36h0, v37h0, v38h0, v39h0, v40h0, v41h0, v42h0]))] [] [0] [] (r_no l g h0 1 (.int 0) v1h0 v2h0 v3h0 v4h0 v5h0 v6h0 v7h0 v8h0 v9h0 v10h0 (.int 0) v12h0 v13h0 (.int 0) v15h0 v16h0 v17h0 v18h0 v19h0 v20h0 v21h0 v22h0 v23h0 v24h0 v25h0 v26h0 v27h0 v28h0 v29h0 v30h0 v31h0 v32h0 v33h0 v34h0 v35h0 v36h0 v37h0 v38h0 v39h0 v40h0 v41h0 v42h0) dX11_all_32 mw296 mw297 mw298 mw285 mw299 rfl 11 rfl rfl 0 _ rfl (by unfold yOk; decide) rfl (Nat.le_of_ble_eq_true rfl) (Nat.le_of_ble_eq_true rfl) (Nat.le_of_ble_eq_true rfl) (Nat.le_of_ble_eq_true rfl) (Nat.le_of_ble_eq_true rfl) rfl rfl (by decide) rfl (by decide) (by decide) ?_
    rintro r w ⟨rfl, rfl⟩
    refine k_ws [] rfl ?_
    exact k_iret X hr dX11_all_35 (Nat.le_of_ble_eq_true rfl) (Nat.le_of_ble_eq_true rfl) [] (by decide) rfl rfl ⟨rfl, rfl⟩
  · skip
    refine k_ws [(h0, .inr (11, [.int 0, v1h0, v2h0, v3h0, v4h0, v5h0, v6h0, v7h0, v8h0, v9h0, v10h0, .int 0, v12h0, v13h0, .int 0, v15h0, v16h0, v17h0, v18h0, v19h0, v20h0, v21h0, v22h0, v23h0, v24h0, v25h0, v26h0, v27h0, v28h0, v29h0, v30h0, v31h0, v32h0, v33h0, v34h0, v35h0, v36h0, v37h0, v38h0, v39h0, v40h0, v41h0, v42h0]))] rfl ?_
    refine k_if_eq 30 X dX11_all_10 (by decide) (fun _ => ?_) (fun h_6 => absurd (by decide) h_6)
    refine k_aload_n X dX11_all_30 0 rfl ?_
    refine k_iconst (v := 1) X dX11_all_31 (by decide) ?_
    refine k_callVI (n := 1) (As := [.int 1]) (st := []) X [(h0, .inr (11, [.int 0, v1h0, v2h0, v3h0, v4h0, v5h0, v6h0, v7h0, v8h0, v9h0, v10h0, .int 0, v12h0, v13h0, .int 0, v15h0, v16h0, v17h0, v18h0, v19h0, v20h0, v21h0, v22h0, v23h0, v24h0, v25h0, v26h0, v27h0, v28h0, v29h0, v30h0, v31h0, v32h0, v33h0, v34h0, v35h0, v36h0, v37h0, v38h0, v39h0, v40h0, v41h0, v42h0]))] [] [0] [] (r_no l g h0 1 (.int 0) v1h0 v2h0 v3h0 v4h0 v5h0 v6h0 v7h0 v8h0 v9h0 v10h0 (.int 0) v12h0 v13h0 (.int 0) v15h0 v16h0 v17h0 v18h0 v19h0 v20h0 v21h0 v22h0 v23h0 v24h0 v25h0 v26h0 v27h0 v28h0 v29h0 v30h0 v31h0 v32h0 v33h0 v34h0 v35h0 v36h0 v37h0 v38h0 v39h0 v40h0 v41h0 v42h0) dX11_all_32 mw296 mw297 mw298 mw285 mw299 rfl 11 rfl rfl 0 _ rfl (by unfold yOk; decide) rfl (Nat.le_of_ble_eq_true rfl) (Nat.le_of_ble_eq_true rfl) (Nat.le_of_ble_eq_true rfl) (Nat.le_of_ble_eq_true rfl) (Nat.le_of_ble_eq_true rfl) rfl rfl (by decide) rfl (by decide) (by decide) ?_
    rintro r w ⟨rfl, rfl⟩
    refine k_ws [] rfl ?_
    exact k_iret X hr dX11_all_35 (Nat.le_of_ble_eq_true rfl) (Nat.le_of_ble_eq_true rfl) [] (by decide) rfl rfl ⟨rfl, rfl⟩

theorem dX11_worst_0 : decode cX11_worst 0 = .ok (.aload_n 0, 1) := by decide +kernel
theorem dX11_worst_1 : decode cX11_worst 1 = .ok (.invokevirtual 200, 3) := by decide +kernel
theorem dX11_worst_4 : decode cX11_worst 4 = .ok (.aload_n 0, 1) := by decide +kernel
theorem dX11_worst_5 : decode cX11_worst 5 = .ok (.iload_n 1, 1) := by decide +kernel
theorem dX11_worst_6 : decode cX11_worst 6 = .ok (.iconst 0, 1) := by decide +kernel
theorem dX11_worst_7 : decode cX11_worst 7 = .ok (.invokevirtual 376, 3) := by decide +kernel
theorem dX11_worst_10 : decode cX11_worst 10 = .ok (.ifCond .ne 9, 3) := by decide +kernel
theorem dX11_worst_13 : decode cX11_worst 13 = .ok (.aload_n 0, 1) := by decide +kernel
theorem dX11_worst_14 : decode cX11_worst 14 = .ok (.iconst 1, 1) := by decide +kernel
theorem dX11_worst_15 : decode cX11_worst 15 = .ok (.invokevirtual 203, 3) := by decide +kernel
theorem dX11_worst_18 : decode cX11_worst 18 = .ok (.ireturn, 1) := by decide +kernel
set_option maxHeartbeats 4000000 in
set_option maxRecDepth 100000 in
theorem r_worst (l : Launch) (g : Gx) (h0 : Nat) (p0 : Int32) (v0h0 : Value) (v1h0 : Value) (v2h0 : Value) (v3h0 : Value) (v4h0 : Value) (v5h0 : Value) (v6h0 : Value) (v7h0 : Value) (v8h0 : Value) (v9h0 : Value) (v10h0 : Value) (v11h0 : Value) (v12h0 : Value) (v13h0 : Value) (v15h0 : Value) (v16h0 : Value) (v17h0 : Value) (v18h0 : Value) (v19h0 : Value) (v20h0 : Value) (v21h0 : Value) (v22h0 : Value) (v23h0 : Value) (v24h0 : Value) (v25h0 : Value) (v26h0 : Value) (v27h0 : Value) (v28h0 : Value) (v29h0 : Value) (v30h0 : Value) (v31h0 : Value) (v32h0 : Value) (v33h0 : Value) (v34h0 : Value) (v35h0 : Value) (v36h0 : Value) (v37h0 : Value) (v38h0 : Value) (v39h0 : Value) (v40h0 : Value) (v41h0 : Value) (v42h0 : Value) : cI l g yX11_worst cX11_worst 6 (some .int) 2 43 0 0 [.ref h0, .int p0] [(h0, .inr (11, [v0h0, v1h0, v2h0, v3h0, v4h0, v5h0, v6h0, v7h0, v8h0, v9h0, v10h0, v11h0, v12h0, v13h0, .int 0, v15h0, v16h0, v17h0, v18h0, v19h0, v20h0, v21h0, v22h0, v23h0, v24h0, v25h0, v26h0, v27h0, v28h0, v29h0, v30h0, v31h0, v32h0, v33h0, v34h0, v35h0, v36h0, v37h0, v38h0, v39h0, v40h0, v41h0, v42h0]))] (fun r w => r = (-1) ∧ w = []) := by
  refine cI.of (by decide) (Nat.le_of_ble_eq_true rfl) ?_
  intro p e s m args below meth c A X hr hi
  refine k_lveq [(0, .ref h0), (1, .int p0)] rfl ?_
  refine k_aload_n X dX11_worst_0 0 rfl ?_
  refine k_callVV (n := 0) (As := []) (st := []) X [(h0, .inr (11, [v0h0, v1h0, v2h0, v3h0, v4h0, v5h0, v6h0, v7h0, v8h0, v9h0, v10h0, v11h0, v12h0, v13h0, .int 0, v15h0, v16h0, v17h0, v18h0, v19h0, v20h0, v21h0, v22h0, v23h0, v24h0, v25h0, v26h0, v27h0, v28h0, v29h0, v30h0, v31h0, v32h0, v33h0, v34h0, v35h0, v36h0, v37h0, v38h0, v39h0, v40h0, v41h0, v42h0]))] [] [0] [] (r_good l g h0 v0h0 v1h0 v2h0 v3h0 v4h0 v5h0 v6h0 v7h0 v8h0 v9h0 v10h0 v11h0 v12h0 v13h0 (.int 0) v15h0 v16h0 v17h0 v18h0 v19h0 v20h0 v21h0 v22h0 v23h0 v24h0 v25h0 v26h0 v27h0 v28h0 v29h0 v30h0 v31h0 v32h0 v33h0 v34h0 v35h0 v36h0 v37h0 v38h0 v39h0 v40h0 v41h0 v42h0) dX11_worst_1 mw288 mw289 mw290 mw285 mw291 rfl 11 rfl rfl 0 _ rfl (by unfold yOk; decide) rfl (Nat.le_of_ble_eq_true rfl) (Nat.le_of_ble_eq_true rfl) (Nat.le_of_ble_eq_true rfl) (Nat.le_of_ble_eq_true rfl) (Nat.le_of_ble_eq_true rfl) rfl rfl (by decide) rfl (by decide) (by decide) ?_
  rintro w rfl
  refine k_ws [(h0, .inr (11, [.int 0, v1h0, v2h0, v3h0, v4h0, v5h0, v6h0, v7h0, v8h0, v9h0, v10h0, .int 0, v12h0, v13h0, .int 0, v15h0, v16h0, v17h0, v18h0, v19h0, v20h0, v21h0, v22h0, v23h0, v24h0, v25h0, v26h0, v27h0, v28h0, v29h0, v30h0, v31h0, v32h0, v33h0, v34h0, v35h0, v36h0, v37h0, v38h0, v39h0, v40h0, v41h0, v42h0]))] rfl ?_
  refine k_aload_n X dX11_worst_4 0 rfl ?_
  refine k_iload_n X dX11_worst_5 1 rfl ?_
  refine k_iconst (v := 0) X dX11_worst_6 (by decide) ?_
  refine k_callVI (n := 2) (As := [.int p0, .int 0]) (st := []) X [(h0, .inr (11, [.int 0, v1h0, v2h0, v3h0, v4h0, v5h0, v6h0, v7h0, v8h0, v9h0, v10h0, .int 0, v12h0, v13h0, .int 0, v15h0, v16h0, v17h0, v18h0, v19h0, v20h0, v21h0, v22h0, v23h0, v24h0, v25h0, v26h0, v27h0, v28h0, v29h0, v30h0, v31h0, v32h0, v33h0, v34h0, v35h0, v36h0, v37h0, v38h0, v39h0, v40h0, v41h0, v42h0]))] [] [0] [] (r_canTell l g h0 p0 0 (.int 0) v1h0 v2h0 v3h0 v4h0 v5h0 v6h0 v7h0 v8h0 v9h0 v10h0 (.int 0) v12h0 v13h0 v15h0 v16h0 v17h0 v18h0 v19h0 v20h0 v21h0 v22h0 v23h0 v24h0 v25h0 v26h0 v27h0 v28h0 v29h0 v30h0 v31h0 v32h0 v33h0 v34h0 v35h0 v36h0 v37h0 v38h0 v39h0 v40h0 v41h0 v42h0) dX11_worst_7 mw304 mw305 mw306 mw285 mw307 rfl 11 rfl rfl 0 _ rfl (by unfold yOk; decide) rfl (Nat.le_of_ble_eq_true rfl) (Nat.le_of_ble_eq_true rfl) (Nat.le_of_ble_eq_true rfl) (Nat.le_of_ble_eq_true rfl) (Nat.le_of_ble_eq_true rfl) rfl rfl (by decide) rfl (by decide) (by decide) ?_
  rintro r w ⟨rfl, rfl⟩
  refine k_ws [(h0, .inr (11, [.int 0, v1h0, v2h0, v3h0, v4h0, v5h0, v6h0, v7h0, v8h0, v9h0, v10h0, .int 0, v12h0, v13h0, .int 0, v15h0, v16h0, v17h0, v18h0, v19h0, v20h0, v21h0, v22h0, v23h0, v24h0, v25h0, v26h0, v27h0, v28h0, v29h0, v30h0, v31h0, v32h0, v33h0, v34h0, v35h0, v36h0, v37h0, v38h0, v39h0, v40h0, v41h0, v42h0]))] rfl ?_
  refine k_if_ne 19 X dX11_worst_10 (by decide) (fun h_1 => absurd h_1 (by decide)) (fun _ => ?_)
  refine k_aload_n X dX11_worst_13 0 rfl ?_
  refine k_iconst (v := 1) X dX11_worst_14 (by decide) ?_
  refine k_callVI (n := 1) (As := [.int 1]) (st := []) X [(h0, .inr (11, [.int 0, v1h0, v2h0, v3h0, v4h0, v5h0, v6h0, v7h0, v8h0, v9h0, v10h0, .int 0, v12h0, v13h0, .int 0, v15h0, v16h0, v17h0, v18h0, v19h0, v20h0, v21h0, v22h0, v23h0, v24h0, v25h0, v26h0, v27h0, v28h0, v29h0, v30h0, v31h0, v32h0, v33h0, v34h0, v35h0, v36h0, v37h0, v38h0, v39h0, v40h0, v41h0, v42h0]))] [] [0] [] (r_no l g h0 1 (.int 0) v1h0 v2h0 v3h0 v4h0 v5h0 v6h0 v7h0 v8h0 v9h0 v10h0 (.int 0) v12h0 v13h0 (.int 0) v15h0 v16h0 v17h0 v18h0 v19h0 v20h0 v21h0 v22h0 v23h0 v24h0 v25h0 v26h0 v27h0 v28h0 v29h0 v30h0 v31h0 v32h0 v33h0 v34h0 v35h0 v36h0 v37h0 v38h0 v39h0 v40h0 v41h0 v42h0) dX11_worst_15 mw296 mw297 mw298 mw285 mw299 rfl 11 rfl rfl 0 _ rfl (by unfold yOk; decide) rfl (Nat.le_of_ble_eq_true rfl) (Nat.le_of_ble_eq_true rfl) (Nat.le_of_ble_eq_true rfl) (Nat.le_of_ble_eq_true rfl) (Nat.le_of_ble_eq_true rfl) rfl rfl (by decide) rfl (by decide) (by decide) ?_
  rintro r w ⟨rfl, rfl⟩
  refine k_ws [] rfl ?_
  exact k_iret X hr dX11_worst_18 (Nat.le_of_ble_eq_true rfl) (Nat.le_of_ble_eq_true rfl) [] (by decide) rfl rfl ⟨rfl, rfl⟩

theorem dX11_signs_0 : decode cX11_signs 0 = .ok (.aload_n 0, 1) := by decide +kernel
theorem dX11_signs_1 : decode cX11_signs 1 = .ok (.invokevirtual 200, 3) := by decide +kernel
theorem dX11_signs_4 : decode cX11_signs 4 = .ok (.aload_n 0, 1) := by decide +kernel
theorem dX11_signs_5 : decode cX11_signs 5 = .ok (.iload_n 1, 1) := by decide +kernel
theorem dX11_signs_6 : decode cX11_signs 6 = .ok (.invokevirtual 370, 3) := by decide +kernel
theorem dX11_signs_9 : decode cX11_signs 9 = .ok (.ifCond .eq 11, 3) := by decide +kernel
theorem dX11_signs_20 : decode cX11_signs 20 = .ok (.aload_n 0, 1) := by decide +kernel
theorem dX11_signs_21 : decode cX11_signs 21 = .ok (.iconst 1, 1) := by decide +kernel
theorem dX11_signs_22 : decode cX11_signs 22 = .ok (.invokevirtual 203, 3) := by decide +kernel
theorem dX11_signs_25 : decode cX11_signs 25 = .ok (.ireturn, 1) := by decide +kernel
set_option maxHeartbeats 4000000 in
set_option maxRecDepth 100000 in
theorem r_signs (l : Launch) (g : Gx) (h0 : Nat) (p0 : Int32) (v0h0 : Value) (v1h0 : Value) (v2h0 : Value) (v3h0 : Value) (v4h0 : Value) (v5h0 : Value) (v6h0 : Value) (v7h0 : Value) (v8h0 : Value) (v9h0 : Value) (v10h0 : Value) (v11h0 : Value) (v12h0 : Value) (v13h0 : Value) (v15h0 : Value) (v16h0 : Value) (v17h0 : Value) (v18h0 : Value) (v19h0 : Value) (v20h0 : Value) (v21h0 : Value) (v22h0 : Value) (v23h0 : Value) (v24h0 : Value) (v25h0 : Value) (v26h0 : Value) (v27h0 : Value) (v28h0 : Value) (v29h0 : Value) (v30h0 : Value) (v31h0 : Value) (v32h0 : Value) (v33h0 : Value) (v34h0 : Value) (v35h0 : Value) (v36h0 : Value) (v37h0 : Value) (v38h0 : Value) (v39h0 : Value) (v40h0 : Value) (v41h0 : Value) (v42h0 : Value) : cI l g yX11_signs cX11_signs 2 (some .int) 1 21 0 0 [.ref h0, .int p0] [(h0, .inr (11, [v0h0, v1h0, v2h0, v3h0, v4h0, v5h0, v6h0, v7h0, v8h0, v9h0, v10h0, v11h0, v12h0, v13h0, .int 0, v15h0, v16h0, v17h0, v18h0, v19h0, v20h0, v21h0, v22h0, v23h0, v24h0, v25h0, v26h0, v27h0, v28h0, v29h0, v30h0, v31h0, v32h0, v33h0, v34h0, v35h0, v36h0, v37h0, v38h0, v39h0, v40h0, v41h0, v42h0]))] (fun r w => r = (-1) ∧ w = []) := by
  refine cI.of (by decide) (Nat.le_of_ble_eq_true rfl) ?_
  intro p e s m args below meth c A X hr hi
  refine k_lveq [(0, .ref h0), (1, .int p0)] rfl ?_
  refine k_aload_n X dX11_signs_0 0 rfl ?_
  refine k_callVV (n := 0) (As := []) (st := []) X [(h0, .inr (11, [v0h0, v1h0, v2h0, v3h0, v4h0, v5h0, v6h0, v7h0, v8h0, v9h0, v10h0, v11h0, v12h0, v13h0, .int 0, v15h0, v16h0, v17h0, v18h0, v19h0, v20h0, v21h0, v22h0, v23h0, v24h0, v25h0, v26h0, v27h0, v28h0, v29h0, v30h0, v31h0, v32h0, v33h0, v34h0, v35h0, v36h0, v37h0, v38h0, v39h0, v40h0, v41h0, v42h0]))] [] [0] [] (r_good l g h0 v0h0 v1h0 v2h0 v3h0 v4h0 v5h0 v6h0 v7h0 v8h0 v9h0 v10h0 v11h0 v12h0 v13h0 (.int 0) v15h0 v16h0 v17h0 v18h0 v19h0 v20h0 v21h0 v22h0 v23h0 v24h0 v25h0 v26h0 v27h0 v28h0 v29h0 v30h0 v31h0 v32h0 v33h0 v34h0 v35h0 v36h0 v37h0 v38h0 v39h0 v40h0 v41h0 v42h0) dX11_signs_1 mw288 mw289 mw290 mw285 mw291 rfl 11 rfl rfl 0 _ rfl (by unfold yOk; decide) rfl (Nat.le_of_ble_eq_true rfl) (Nat.le_of_ble_eq_true rfl) (Nat.le_of_ble_eq_true rfl) (Nat.le_of_ble_eq_true rfl) (Nat.le_of_ble_eq_true rfl) rfl rfl (by decide) rfl (by decide) (by decide) ?_
  rintro w rfl
  refine k_ws [(h0, .inr (11, [.int 0, v1h0, v2h0, v3h0, v4h0, v5h0, v6h0, v7h0, v8h0, v9h0, v10h0, .int 0, v12h0, v13h0, .int 0, v15h0, v16h0, v17h0, v18h0, v19h0, v20h0, v21h0, v22h0, v23h0, v24h0, v25h0, v26h0, v27h0, v28h0, v29h0, v30h0, v31h0, v32h0, v33h0, v34h0, v35h0, v36h0, v37h0, v38h0, v39h0, v40h0, v41h0, v42h0]))] rfl ?_
  refine k_aload_n X dX11_signs_4 0 rfl ?_
  refine k_iload_n X dX11_signs_5 1 rfl ?_
  refine k_callVI (n := 1) (As := [.int p0]) (st := []) X [(h0, .inr (11, [.int 0, v1h0, v2h0, v3h0, v4h0, v5h0, v6h0, v7h0, v8h0, v9h0, v10h0, .int 0, v12h0, v13h0, .int 0, v15h0, v16h0, v17h0, v18h0, v19h0, v20h0, v21h0, v22h0, v23h0, v24h0, v25h0, v26h0, v27h0, v28h0, v29h0, v30h0, v31h0, v32h0, v33h0, v34h0, v35h0, v36h0, v37h0, v38h0, v39h0, v40h0, v41h0, v42h0]))] [] [0] [] (r_isMan l g h0 p0 (.int 0) v1h0 v2h0 v3h0 v4h0 v5h0 v6h0 v7h0 v8h0 v9h0 v10h0 (.int 0) v12h0 v13h0 v15h0 v16h0 v17h0 v18h0 v19h0 v20h0 v21h0 v22h0 v23h0 v24h0 v25h0 v26h0 v27h0 v28h0 v29h0 v30h0 v31h0 v32h0 v33h0 v34h0 v35h0 v36h0 v37h0 v38h0 v39h0 v40h0 v41h0 v42h0) dX11_signs_6 mw282 mw283 mw284 mw285 mw286 rfl 11 rfl rfl 0 _ rfl (by unfold yOk; decide) rfl (Nat.le_of_ble_eq_true rfl) (Nat.le_of_ble_eq_true rfl) (Nat.le_of_ble_eq_true rfl) (Nat.le_of_ble_eq_true rfl) (Nat.le_of_ble_eq_true rfl) rfl rfl (by decide) rfl (by decide) (by decide) ?_
  rintro r w ⟨rfl, rfl⟩
  refine k_ws [(h0, .inr (11, [.int 0, v1h0, v2h0, v3h0, v4h0, v5h0, v6h0, v7h0, v8h0, v9h0, v10h0, .int 0, v12h0, v13h0, .int 0, v15h0, v16h0, v17h0, v18h0, v19h0, v20h0, v21h0, v22h0, v23h0, v24h0, v25h0, v26h0, v27h0, v28h0, v29h0, v30h0, v31h0, v32h0, v33h0, v34h0, v35h0, v36h0, v37h0, v38h0, v39h0, v40h0, v41h0, v42h0]))] rfl ?_
  refine k_if_eq 20 X dX11_signs_9 (by decide) (fun _ => ?_) (fun h_1 => absurd (by decide) h_1)
  refine k_aload_n X dX11_signs_20 0 rfl ?_
  refine k_iconst (v := 1) X dX11_signs_21 (by decide) ?_
  refine k_callVI (n := 1) (As := [.int 1]) (st := []) X [(h0, .inr (11, [.int 0, v1h0, v2h0, v3h0, v4h0, v5h0, v6h0, v7h0, v8h0, v9h0, v10h0, .int 0, v12h0, v13h0, .int 0, v15h0, v16h0, v17h0, v18h0, v19h0, v20h0, v21h0, v22h0, v23h0, v24h0, v25h0, v26h0, v27h0, v28h0, v29h0, v30h0, v31h0, v32h0, v33h0, v34h0, v35h0, v36h0, v37h0, v38h0, v39h0, v40h0, v41h0, v42h0]))] [] [0] [] (r_no l g h0 1 (.int 0) v1h0 v2h0 v3h0 v4h0 v5h0 v6h0 v7h0 v8h0 v9h0 v10h0 (.int 0) v12h0 v13h0 (.int 0) v15h0 v16h0 v17h0 v18h0 v19h0 v20h0 v21h0 v22h0 v23h0 v24h0 v25h0 v26h0 v27h0 v28h0 v29h0 v30h0 v31h0 v32h0 v33h0 v34h0 v35h0 v36h0 v37h0 v38h0 v39h0 v40h0 v41h0 v42h0) dX11_signs_22 mw296 mw297 mw298 mw285 mw299 rfl 11 rfl rfl 0 _ rfl (by unfold yOk; decide) rfl (Nat.le_of_ble_eq_true rfl) (Nat.le_of_ble_eq_true rfl) (Nat.le_of_ble_eq_true rfl) (Nat.le_of_ble_eq_true rfl) (Nat.le_of_ble_eq_true rfl) rfl rfl (by decide) rfl (by decide) (by decide) ?_
  rintro r w ⟨rfl, rfl⟩
  refine k_ws [] rfl ?_
  exact k_iret X hr dX11_signs_25 (Nat.le_of_ble_eq_true rfl) (Nat.le_of_ble_eq_true rfl) [] (by decide) rfl rfl ⟨rfl, rfl⟩

theorem dX11_bestSlip_0 : decode cX11_bestSlip 0 = .ok (.aload_n 0, 1) := by decide +kernel
theorem dX11_bestSlip_1 : decode cX11_bestSlip 1 = .ok (.invokevirtual 200, 3) := by decide +kernel
theorem dX11_bestSlip_4 : decode cX11_bestSlip 4 = .ok (.aload_n 0, 1) := by decide +kernel
theorem dX11_bestSlip_5 : decode cX11_bestSlip 5 = .ok (.iload_n 1, 1) := by decide +kernel
theorem dX11_bestSlip_6 : decode cX11_bestSlip 6 = .ok (.invokevirtual 370, 3) := by decide +kernel
theorem dX11_bestSlip_9 : decode cX11_bestSlip 9 = .ok (.ifCond .eq 11, 3) := by decide +kernel
theorem dX11_bestSlip_20 : decode cX11_bestSlip 20 = .ok (.aload_n 0, 1) := by decide +kernel
theorem dX11_bestSlip_21 : decode cX11_bestSlip 21 = .ok (.iconst 1, 1) := by decide +kernel
theorem dX11_bestSlip_22 : decode cX11_bestSlip 22 = .ok (.invokevirtual 203, 3) := by decide +kernel
theorem dX11_bestSlip_25 : decode cX11_bestSlip 25 = .ok (.ireturn, 1) := by decide +kernel
set_option maxHeartbeats 4000000 in
set_option maxRecDepth 100000 in
theorem r_bestSlip (l : Launch) (g : Gx) (h0 : Nat) (p0 : Int32) (v0h0 : Value) (v1h0 : Value) (v2h0 : Value) (v3h0 : Value) (v4h0 : Value) (v5h0 : Value) (v6h0 : Value) (v7h0 : Value) (v8h0 : Value) (v9h0 : Value) (v10h0 : Value) (v11h0 : Value) (v12h0 : Value) (v13h0 : Value) (v15h0 : Value) (v16h0 : Value) (v17h0 : Value) (v18h0 : Value) (v19h0 : Value) (v20h0 : Value) (v21h0 : Value) (v22h0 : Value) (v23h0 : Value) (v24h0 : Value) (v25h0 : Value) (v26h0 : Value) (v27h0 : Value) (v28h0 : Value) (v29h0 : Value) (v30h0 : Value) (v31h0 : Value) (v32h0 : Value) (v33h0 : Value) (v34h0 : Value) (v35h0 : Value) (v36h0 : Value) (v37h0 : Value) (v38h0 : Value) (v39h0 : Value) (v40h0 : Value) (v41h0 : Value) (v42h0 : Value) : cI l g yX11_bestSlip cX11_bestSlip 2 (some .int) 1 21 0 0 [.ref h0, .int p0] [(h0, .inr (11, [v0h0, v1h0, v2h0, v3h0, v4h0, v5h0, v6h0, v7h0, v8h0, v9h0, v10h0, v11h0, v12h0, v13h0, .int 0, v15h0, v16h0, v17h0, v18h0, v19h0, v20h0, v21h0, v22h0, v23h0, v24h0, v25h0, v26h0, v27h0, v28h0, v29h0, v30h0, v31h0, v32h0, v33h0, v34h0, v35h0, v36h0, v37h0, v38h0, v39h0, v40h0, v41h0, v42h0]))] (fun r w => r = (-1) ∧ w = []) := by
  refine cI.of (by decide) (Nat.le_of_ble_eq_true rfl) ?_
  intro p e s m args below meth c A X hr hi
  refine k_lveq [(0, .ref h0), (1, .int p0)] rfl ?_
  refine k_aload_n X dX11_bestSlip_0 0 rfl ?_
  refine k_callVV (n := 0) (As := []) (st := []) X [(h0, .inr (11, [v0h0, v1h0, v2h0, v3h0, v4h0, v5h0, v6h0, v7h0, v8h0, v9h0, v10h0, v11h0, v12h0, v13h0, .int 0, v15h0, v16h0, v17h0, v18h0, v19h0, v20h0, v21h0, v22h0, v23h0, v24h0, v25h0, v26h0, v27h0, v28h0, v29h0, v30h0, v31h0, v32h0, v33h0, v34h0, v35h0, v36h0, v37h0, v38h0, v39h0, v40h0, v41h0, v42h0]))] [] [0] [] (r_good l g h0 v0h0 v1h0 v2h0 v3h0 v4h0 v5h0 v6h0 v7h0 v8h0 v9h0 v10h0 v11h0 v12h0 v13h0 (.int 0) v15h0 v16h0 v17h0 v18h0 v19h0 v20h0 v21h0 v22h0 v23h0 v24h0 v25h0 v26h0 v27h0 v28h0 v29h0 v30h0 v31h0 v32h0 v33h0 v34h0 v35h0 v36h0 v37h0 v38h0 v39h0 v40h0 v41h0 v42h0) dX11_bestSlip_1 mw288 mw289 mw290 mw285 mw291 rfl 11 rfl rfl 0 _ rfl (by unfold yOk; decide) rfl (Nat.le_of_ble_eq_true rfl) (Nat.le_of_ble_eq_true rfl) (Nat.le_of_ble_eq_true rfl) (Nat.le_of_ble_eq_true rfl) (Nat.le_of_ble_eq_true rfl) rfl rfl (by decide) rfl (by decide) (by decide) ?_
  rintro w rfl
  refine k_ws [(h0, .inr (11, [.int 0, v1h0, v2h0, v3h0, v4h0, v5h0, v6h0, v7h0, v8h0, v9h0, v10h0, .int 0, v12h0, v13h0, .int 0, v15h0, v16h0, v17h0, v18h0, v19h0, v20h0, v21h0, v22h0, v23h0, v24h0, v25h0, v26h0, v27h0, v28h0, v29h0, v30h0, v31h0, v32h0, v33h0, v34h0, v35h0, v36h0, v37h0, v38h0, v39h0, v40h0, v41h0, v42h0]))] rfl ?_
  refine k_aload_n X dX11_bestSlip_4 0 rfl ?_
  refine k_iload_n X dX11_bestSlip_5 1 rfl ?_
  refine k_callVI (n := 1) (As := [.int p0]) (st := []) X [(h0, .inr (11, [.int 0, v1h0, v2h0, v3h0, v4h0, v5h0, v6h0, v7h0, v8h0, v9h0, v10h0, .int 0, v12h0, v13h0, .int 0, v15h0, v16h0, v17h0, v18h0, v19h0, v20h0, v21h0, v22h0, v23h0, v24h0, v25h0, v26h0, v27h0, v28h0, v29h0, v30h0, v31h0, v32h0, v33h0, v34h0, v35h0, v36h0, v37h0, v38h0, v39h0, v40h0, v41h0, v42h0]))] [] [0] [] (r_isMan l g h0 p0 (.int 0) v1h0 v2h0 v3h0 v4h0 v5h0 v6h0 v7h0 v8h0 v9h0 v10h0 (.int 0) v12h0 v13h0 v15h0 v16h0 v17h0 v18h0 v19h0 v20h0 v21h0 v22h0 v23h0 v24h0 v25h0 v26h0 v27h0 v28h0 v29h0 v30h0 v31h0 v32h0 v33h0 v34h0 v35h0 v36h0 v37h0 v38h0 v39h0 v40h0 v41h0 v42h0) dX11_bestSlip_6 mw282 mw283 mw284 mw285 mw286 rfl 11 rfl rfl 0 _ rfl (by unfold yOk; decide) rfl (Nat.le_of_ble_eq_true rfl) (Nat.le_of_ble_eq_true rfl) (Nat.le_of_ble_eq_true rfl) (Nat.le_of_ble_eq_true rfl) (Nat.le_of_ble_eq_true rfl) rfl rfl (by decide) rfl (by decide) (by decide) ?_
  rintro r w ⟨rfl, rfl⟩
  refine k_ws [(h0, .inr (11, [.int 0, v1h0, v2h0, v3h0, v4h0, v5h0, v6h0, v7h0, v8h0, v9h0, v10h0, .int 0, v12h0, v13h0, .int 0, v15h0, v16h0, v17h0, v18h0, v19h0, v20h0, v21h0, v22h0, v23h0, v24h0, v25h0, v26h0, v27h0, v28h0, v29h0, v30h0, v31h0, v32h0, v33h0, v34h0, v35h0, v36h0, v37h0, v38h0, v39h0, v40h0, v41h0, v42h0]))] rfl ?_
  refine k_if_eq 20 X dX11_bestSlip_9 (by decide) (fun _ => ?_) (fun h_1 => absurd (by decide) h_1)
  refine k_aload_n X dX11_bestSlip_20 0 rfl ?_
  refine k_iconst (v := 1) X dX11_bestSlip_21 (by decide) ?_
  refine k_callVI (n := 1) (As := [.int 1]) (st := []) X [(h0, .inr (11, [.int 0, v1h0, v2h0, v3h0, v4h0, v5h0, v6h0, v7h0, v8h0, v9h0, v10h0, .int 0, v12h0, v13h0, .int 0, v15h0, v16h0, v17h0, v18h0, v19h0, v20h0, v21h0, v22h0, v23h0, v24h0, v25h0, v26h0, v27h0, v28h0, v29h0, v30h0, v31h0, v32h0, v33h0, v34h0, v35h0, v36h0, v37h0, v38h0, v39h0, v40h0, v41h0, v42h0]))] [] [0] [] (r_no l g h0 1 (.int 0) v1h0 v2h0 v3h0 v4h0 v5h0 v6h0 v7h0 v8h0 v9h0 v10h0 (.int 0) v12h0 v13h0 (.int 0) v15h0 v16h0 v17h0 v18h0 v19h0 v20h0 v21h0 v22h0 v23h0 v24h0 v25h0 v26h0 v27h0 v28h0 v29h0 v30h0 v31h0 v32h0 v33h0 v34h0 v35h0 v36h0 v37h0 v38h0 v39h0 v40h0 v41h0 v42h0) dX11_bestSlip_22 mw296 mw297 mw298 mw285 mw299 rfl 11 rfl rfl 0 _ rfl (by unfold yOk; decide) rfl (Nat.le_of_ble_eq_true rfl) (Nat.le_of_ble_eq_true rfl) (Nat.le_of_ble_eq_true rfl) (Nat.le_of_ble_eq_true rfl) (Nat.le_of_ble_eq_true rfl) rfl rfl (by decide) rfl (by decide) (by decide) ?_
  rintro r w ⟨rfl, rfl⟩
  refine k_ws [] rfl ?_
  exact k_iret X hr dX11_bestSlip_25 (Nat.le_of_ble_eq_true rfl) (Nat.le_of_ble_eq_true rfl) [] (by decide) rfl rfl ⟨rfl, rfl⟩

theorem dX11_bySlip_0 : decode cX11_bySlip 0 = .ok (.aload_n 0, 1) := by decide +kernel
theorem dX11_bySlip_1 : decode cX11_bySlip 1 = .ok (.invokevirtual 200, 3) := by decide +kernel
theorem dX11_bySlip_4 : decode cX11_bySlip 4 = .ok (.aload_n 0, 1) := by decide +kernel
theorem dX11_bySlip_5 : decode cX11_bySlip 5 = .ok (.iload_n 1, 1) := by decide +kernel
theorem dX11_bySlip_6 : decode cX11_bySlip 6 = .ok (.invokevirtual 370, 3) := by decide +kernel
theorem dX11_bySlip_9 : decode cX11_bySlip 9 = .ok (.ifCond .ne 9, 3) := by decide +kernel
theorem dX11_bySlip_12 : decode cX11_bySlip 12 = .ok (.aload_n 0, 1) := by decide +kernel
theorem dX11_bySlip_13 : decode cX11_bySlip 13 = .ok (.iconst 1, 1) := by decide +kernel
theorem dX11_bySlip_14 : decode cX11_bySlip 14 = .ok (.invokevirtual 203, 3) := by decide +kernel
theorem dX11_bySlip_17 : decode cX11_bySlip 17 = .ok (.ireturn, 1) := by decide +kernel
set_option maxHeartbeats 4000000 in
set_option maxRecDepth 100000 in
theorem r_bySlip (l : Launch) (g : Gx) (h0 : Nat) (p0 : Int32) (v0h0 : Value) (v1h0 : Value) (v2h0 : Value) (v3h0 : Value) (v4h0 : Value) (v5h0 : Value) (v6h0 : Value) (v7h0 : Value) (v8h0 : Value) (v9h0 : Value) (v10h0 : Value) (v11h0 : Value) (v12h0 : Value) (v13h0 : Value) (v15h0 : Value) (v16h0 : Value) (v17h0 : Value) (v18h0 : Value) (v19h0 : Value) (v20h0 : Value) (v21h0 : Value) (v22h0 : Value) (v23h0 : Value) (v24h0 : Value) (v25h0 : Value) (v26h0 : Value) (v27h0 : Value) (v28h0 : Value) (v29h0 : Value) (v30h0 : Value) (v31h0 : Value) (v32h0 : Value) (v33h0 : Value) (v34h0 : Value) (v35h0 : Value) (v36h0 : Value) (v37h0 : Value) (v38h0 : Value) (v39h0 : Value) (v40h0 : Value) (v41h0 : Value) (v42h0 : Value) : cI l g yX11_bySlip cX11_bySlip 2 (some .int) 1 21 0 0 [.ref h0, .int p0] [(h0, .inr (11, [v0h0, v1h0, v2h0, v3h0, v4h0, v5h0, v6h0, v7h0, v8h0, v9h0, v10h0, v11h0, v12h0, v13h0, .int 0, v15h0, v16h0, v17h0, v18h0, v19h0, v20h0, v21h0, v22h0, v23h0, v24h0, v25h0, v26h0, v27h0, v28h0, v29h0, v30h0, v31h0, v32h0, v33h0, v34h0, v35h0, v36h0, v37h0, v38h0, v39h0, v40h0, v41h0, v42h0]))] (fun r w => r = (-1) ∧ w = []) := by
  refine cI.of (by decide) (Nat.le_of_ble_eq_true rfl) ?_
  intro p e s m args below meth c A X hr hi
  refine k_lveq [(0, .ref h0), (1, .int p0)] rfl ?_
  refine k_aload_n X dX11_bySlip_0 0 rfl ?_
  refine k_callVV (n := 0) (As := []) (st := []) X [(h0, .inr (11, [v0h0, v1h0, v2h0, v3h0, v4h0, v5h0, v6h0, v7h0, v8h0, v9h0, v10h0, v11h0, v12h0, v13h0, .int 0, v15h0, v16h0, v17h0, v18h0, v19h0, v20h0, v21h0, v22h0, v23h0, v24h0, v25h0, v26h0, v27h0, v28h0, v29h0, v30h0, v31h0, v32h0, v33h0, v34h0, v35h0, v36h0, v37h0, v38h0, v39h0, v40h0, v41h0, v42h0]))] [] [0] [] (r_good l g h0 v0h0 v1h0 v2h0 v3h0 v4h0 v5h0 v6h0 v7h0 v8h0 v9h0 v10h0 v11h0 v12h0 v13h0 (.int 0) v15h0 v16h0 v17h0 v18h0 v19h0 v20h0 v21h0 v22h0 v23h0 v24h0 v25h0 v26h0 v27h0 v28h0 v29h0 v30h0 v31h0 v32h0 v33h0 v34h0 v35h0 v36h0 v37h0 v38h0 v39h0 v40h0 v41h0 v42h0) dX11_bySlip_1 mw288 mw289 mw290 mw285 mw291 rfl 11 rfl rfl 0 _ rfl (by unfold yOk; decide) rfl (Nat.le_of_ble_eq_true rfl) (Nat.le_of_ble_eq_true rfl) (Nat.le_of_ble_eq_true rfl) (Nat.le_of_ble_eq_true rfl) (Nat.le_of_ble_eq_true rfl) rfl rfl (by decide) rfl (by decide) (by decide) ?_
  rintro w rfl
  refine k_ws [(h0, .inr (11, [.int 0, v1h0, v2h0, v3h0, v4h0, v5h0, v6h0, v7h0, v8h0, v9h0, v10h0, .int 0, v12h0, v13h0, .int 0, v15h0, v16h0, v17h0, v18h0, v19h0, v20h0, v21h0, v22h0, v23h0, v24h0, v25h0, v26h0, v27h0, v28h0, v29h0, v30h0, v31h0, v32h0, v33h0, v34h0, v35h0, v36h0, v37h0, v38h0, v39h0, v40h0, v41h0, v42h0]))] rfl ?_
  refine k_aload_n X dX11_bySlip_4 0 rfl ?_
  refine k_iload_n X dX11_bySlip_5 1 rfl ?_
  refine k_callVI (n := 1) (As := [.int p0]) (st := []) X [(h0, .inr (11, [.int 0, v1h0, v2h0, v3h0, v4h0, v5h0, v6h0, v7h0, v8h0, v9h0, v10h0, .int 0, v12h0, v13h0, .int 0, v15h0, v16h0, v17h0, v18h0, v19h0, v20h0, v21h0, v22h0, v23h0, v24h0, v25h0, v26h0, v27h0, v28h0, v29h0, v30h0, v31h0, v32h0, v33h0, v34h0, v35h0, v36h0, v37h0, v38h0, v39h0, v40h0, v41h0, v42h0]))] [] [0] [] (r_isMan l g h0 p0 (.int 0) v1h0 v2h0 v3h0 v4h0 v5h0 v6h0 v7h0 v8h0 v9h0 v10h0 (.int 0) v12h0 v13h0 v15h0 v16h0 v17h0 v18h0 v19h0 v20h0 v21h0 v22h0 v23h0 v24h0 v25h0 v26h0 v27h0 v28h0 v29h0 v30h0 v31h0 v32h0 v33h0 v34h0 v35h0 v36h0 v37h0 v38h0 v39h0 v40h0 v41h0 v42h0) dX11_bySlip_6 mw282 mw283 mw284 mw285 mw286 rfl 11 rfl rfl 0 _ rfl (by unfold yOk; decide) rfl (Nat.le_of_ble_eq_true rfl) (Nat.le_of_ble_eq_true rfl) (Nat.le_of_ble_eq_true rfl) (Nat.le_of_ble_eq_true rfl) (Nat.le_of_ble_eq_true rfl) rfl rfl (by decide) rfl (by decide) (by decide) ?_
  rintro r w ⟨rfl, rfl⟩
  refine k_ws [(h0, .inr (11, [.int 0, v1h0, v2h0, v3h0, v4h0, v5h0, v6h0, v7h0, v8h0, v9h0, v10h0, .int 0, v12h0, v13h0, .int 0, v15h0, v16h0, v17h0, v18h0, v19h0, v20h0, v21h0, v22h0, v23h0, v24h0, v25h0, v26h0, v27h0, v28h0, v29h0, v30h0, v31h0, v32h0, v33h0, v34h0, v35h0, v36h0, v37h0, v38h0, v39h0, v40h0, v41h0, v42h0]))] rfl ?_
  refine k_if_ne 18 X dX11_bySlip_9 (by decide) (fun h_1 => absurd h_1 (by decide)) (fun _ => ?_)
  refine k_aload_n X dX11_bySlip_12 0 rfl ?_
  refine k_iconst (v := 1) X dX11_bySlip_13 (by decide) ?_
  refine k_callVI (n := 1) (As := [.int 1]) (st := []) X [(h0, .inr (11, [.int 0, v1h0, v2h0, v3h0, v4h0, v5h0, v6h0, v7h0, v8h0, v9h0, v10h0, .int 0, v12h0, v13h0, .int 0, v15h0, v16h0, v17h0, v18h0, v19h0, v20h0, v21h0, v22h0, v23h0, v24h0, v25h0, v26h0, v27h0, v28h0, v29h0, v30h0, v31h0, v32h0, v33h0, v34h0, v35h0, v36h0, v37h0, v38h0, v39h0, v40h0, v41h0, v42h0]))] [] [0] [] (r_no l g h0 1 (.int 0) v1h0 v2h0 v3h0 v4h0 v5h0 v6h0 v7h0 v8h0 v9h0 v10h0 (.int 0) v12h0 v13h0 (.int 0) v15h0 v16h0 v17h0 v18h0 v19h0 v20h0 v21h0 v22h0 v23h0 v24h0 v25h0 v26h0 v27h0 v28h0 v29h0 v30h0 v31h0 v32h0 v33h0 v34h0 v35h0 v36h0 v37h0 v38h0 v39h0 v40h0 v41h0 v42h0) dX11_bySlip_14 mw296 mw297 mw298 mw285 mw299 rfl 11 rfl rfl 0 _ rfl (by unfold yOk; decide) rfl (Nat.le_of_ble_eq_true rfl) (Nat.le_of_ble_eq_true rfl) (Nat.le_of_ble_eq_true rfl) (Nat.le_of_ble_eq_true rfl) (Nat.le_of_ble_eq_true rfl) rfl rfl (by decide) rfl (by decide) (by decide) ?_
  rintro r w ⟨rfl, rfl⟩
  refine k_ws [] rfl ?_
  exact k_iret X hr dX11_bySlip_17 (Nat.le_of_ble_eq_true rfl) (Nat.le_of_ble_eq_true rfl) [] (by decide) rfl rfl ⟨rfl, rfl⟩

theorem dX11_firstDies_0 : decode cX11_firstDies 0 = .ok (.aload_n 0, 1) := by decide +kernel
theorem dX11_firstDies_1 : decode cX11_firstDies 1 = .ok (.invokevirtual 200, 3) := by decide +kernel
theorem dX11_firstDies_4 : decode cX11_firstDies 4 = .ok (.aload_n 0, 1) := by decide +kernel
theorem dX11_firstDies_5 : decode cX11_firstDies 5 = .ok (.iload_n 1, 1) := by decide +kernel
theorem dX11_firstDies_6 : decode cX11_firstDies 6 = .ok (.iconst 0, 1) := by decide +kernel
theorem dX11_firstDies_7 : decode cX11_firstDies 7 = .ok (.invokevirtual 376, 3) := by decide +kernel
theorem dX11_firstDies_10 : decode cX11_firstDies 10 = .ok (.ifCond .ne 9, 3) := by decide +kernel
theorem dX11_firstDies_13 : decode cX11_firstDies 13 = .ok (.aload_n 0, 1) := by decide +kernel
theorem dX11_firstDies_14 : decode cX11_firstDies 14 = .ok (.iconst 1, 1) := by decide +kernel
theorem dX11_firstDies_15 : decode cX11_firstDies 15 = .ok (.invokevirtual 203, 3) := by decide +kernel
theorem dX11_firstDies_18 : decode cX11_firstDies 18 = .ok (.ireturn, 1) := by decide +kernel
set_option maxHeartbeats 4000000 in
set_option maxRecDepth 100000 in
theorem r_firstDies (l : Launch) (g : Gx) (h0 : Nat) (p0 : Int32) (v0h0 : Value) (v1h0 : Value) (v2h0 : Value) (v3h0 : Value) (v4h0 : Value) (v5h0 : Value) (v6h0 : Value) (v7h0 : Value) (v8h0 : Value) (v9h0 : Value) (v10h0 : Value) (v11h0 : Value) (v12h0 : Value) (v13h0 : Value) (v15h0 : Value) (v16h0 : Value) (v17h0 : Value) (v18h0 : Value) (v19h0 : Value) (v20h0 : Value) (v21h0 : Value) (v22h0 : Value) (v23h0 : Value) (v24h0 : Value) (v25h0 : Value) (v26h0 : Value) (v27h0 : Value) (v28h0 : Value) (v29h0 : Value) (v30h0 : Value) (v31h0 : Value) (v32h0 : Value) (v33h0 : Value) (v34h0 : Value) (v35h0 : Value) (v36h0 : Value) (v37h0 : Value) (v38h0 : Value) (v39h0 : Value) (v40h0 : Value) (v41h0 : Value) (v42h0 : Value) : cI l g yX11_firstDies cX11_firstDies 3 (some .int) 2 43 0 0 [.ref h0, .int p0] [(h0, .inr (11, [v0h0, v1h0, v2h0, v3h0, v4h0, v5h0, v6h0, v7h0, v8h0, v9h0, v10h0, v11h0, v12h0, v13h0, .int 0, v15h0, v16h0, v17h0, v18h0, v19h0, v20h0, v21h0, v22h0, v23h0, v24h0, v25h0, v26h0, v27h0, v28h0, v29h0, v30h0, v31h0, v32h0, v33h0, v34h0, v35h0, v36h0, v37h0, v38h0, v39h0, v40h0, v41h0, v42h0]))] (fun r w => r = (-1) ∧ w = []) := by
  refine cI.of (by decide) (Nat.le_of_ble_eq_true rfl) ?_
  intro p e s m args below meth c A X hr hi
  refine k_lveq [(0, .ref h0), (1, .int p0)] rfl ?_
  refine k_aload_n X dX11_firstDies_0 0 rfl ?_
  refine k_callVV (n := 0) (As := []) (st := []) X [(h0, .inr (11, [v0h0, v1h0, v2h0, v3h0, v4h0, v5h0, v6h0, v7h0, v8h0, v9h0, v10h0, v11h0, v12h0, v13h0, .int 0, v15h0, v16h0, v17h0, v18h0, v19h0, v20h0, v21h0, v22h0, v23h0, v24h0, v25h0, v26h0, v27h0, v28h0, v29h0, v30h0, v31h0, v32h0, v33h0, v34h0, v35h0, v36h0, v37h0, v38h0, v39h0, v40h0, v41h0, v42h0]))] [] [0] [] (r_good l g h0 v0h0 v1h0 v2h0 v3h0 v4h0 v5h0 v6h0 v7h0 v8h0 v9h0 v10h0 v11h0 v12h0 v13h0 (.int 0) v15h0 v16h0 v17h0 v18h0 v19h0 v20h0 v21h0 v22h0 v23h0 v24h0 v25h0 v26h0 v27h0 v28h0 v29h0 v30h0 v31h0 v32h0 v33h0 v34h0 v35h0 v36h0 v37h0 v38h0 v39h0 v40h0 v41h0 v42h0) dX11_firstDies_1 mw288 mw289 mw290 mw285 mw291 rfl 11 rfl rfl 0 _ rfl (by unfold yOk; decide) rfl (Nat.le_of_ble_eq_true rfl) (Nat.le_of_ble_eq_true rfl) (Nat.le_of_ble_eq_true rfl) (Nat.le_of_ble_eq_true rfl) (Nat.le_of_ble_eq_true rfl) rfl rfl (by decide) rfl (by decide) (by decide) ?_
  rintro w rfl
  refine k_ws [(h0, .inr (11, [.int 0, v1h0, v2h0, v3h0, v4h0, v5h0, v6h0, v7h0, v8h0, v9h0, v10h0, .int 0, v12h0, v13h0, .int 0, v15h0, v16h0, v17h0, v18h0, v19h0, v20h0, v21h0, v22h0, v23h0, v24h0, v25h0, v26h0, v27h0, v28h0, v29h0, v30h0, v31h0, v32h0, v33h0, v34h0, v35h0, v36h0, v37h0, v38h0, v39h0, v40h0, v41h0, v42h0]))] rfl ?_
  refine k_aload_n X dX11_firstDies_4 0 rfl ?_
  refine k_iload_n X dX11_firstDies_5 1 rfl ?_
  refine k_iconst (v := 0) X dX11_firstDies_6 (by decide) ?_
  refine k_callVI (n := 2) (As := [.int p0, .int 0]) (st := []) X [(h0, .inr (11, [.int 0, v1h0, v2h0, v3h0, v4h0, v5h0, v6h0, v7h0, v8h0, v9h0, v10h0, .int 0, v12h0, v13h0, .int 0, v15h0, v16h0, v17h0, v18h0, v19h0, v20h0, v21h0, v22h0, v23h0, v24h0, v25h0, v26h0, v27h0, v28h0, v29h0, v30h0, v31h0, v32h0, v33h0, v34h0, v35h0, v36h0, v37h0, v38h0, v39h0, v40h0, v41h0, v42h0]))] [] [0] [] (r_canTell l g h0 p0 0 (.int 0) v1h0 v2h0 v3h0 v4h0 v5h0 v6h0 v7h0 v8h0 v9h0 v10h0 (.int 0) v12h0 v13h0 v15h0 v16h0 v17h0 v18h0 v19h0 v20h0 v21h0 v22h0 v23h0 v24h0 v25h0 v26h0 v27h0 v28h0 v29h0 v30h0 v31h0 v32h0 v33h0 v34h0 v35h0 v36h0 v37h0 v38h0 v39h0 v40h0 v41h0 v42h0) dX11_firstDies_7 mw304 mw305 mw306 mw285 mw307 rfl 11 rfl rfl 0 _ rfl (by unfold yOk; decide) rfl (Nat.le_of_ble_eq_true rfl) (Nat.le_of_ble_eq_true rfl) (Nat.le_of_ble_eq_true rfl) (Nat.le_of_ble_eq_true rfl) (Nat.le_of_ble_eq_true rfl) rfl rfl (by decide) rfl (by decide) (by decide) ?_
  rintro r w ⟨rfl, rfl⟩
  refine k_ws [(h0, .inr (11, [.int 0, v1h0, v2h0, v3h0, v4h0, v5h0, v6h0, v7h0, v8h0, v9h0, v10h0, .int 0, v12h0, v13h0, .int 0, v15h0, v16h0, v17h0, v18h0, v19h0, v20h0, v21h0, v22h0, v23h0, v24h0, v25h0, v26h0, v27h0, v28h0, v29h0, v30h0, v31h0, v32h0, v33h0, v34h0, v35h0, v36h0, v37h0, v38h0, v39h0, v40h0, v41h0, v42h0]))] rfl ?_
  refine k_if_ne 19 X dX11_firstDies_10 (by decide) (fun h_1 => absurd h_1 (by decide)) (fun _ => ?_)
  refine k_aload_n X dX11_firstDies_13 0 rfl ?_
  refine k_iconst (v := 1) X dX11_firstDies_14 (by decide) ?_
  refine k_callVI (n := 1) (As := [.int 1]) (st := []) X [(h0, .inr (11, [.int 0, v1h0, v2h0, v3h0, v4h0, v5h0, v6h0, v7h0, v8h0, v9h0, v10h0, .int 0, v12h0, v13h0, .int 0, v15h0, v16h0, v17h0, v18h0, v19h0, v20h0, v21h0, v22h0, v23h0, v24h0, v25h0, v26h0, v27h0, v28h0, v29h0, v30h0, v31h0, v32h0, v33h0, v34h0, v35h0, v36h0, v37h0, v38h0, v39h0, v40h0, v41h0, v42h0]))] [] [0] [] (r_no l g h0 1 (.int 0) v1h0 v2h0 v3h0 v4h0 v5h0 v6h0 v7h0 v8h0 v9h0 v10h0 (.int 0) v12h0 v13h0 (.int 0) v15h0 v16h0 v17h0 v18h0 v19h0 v20h0 v21h0 v22h0 v23h0 v24h0 v25h0 v26h0 v27h0 v28h0 v29h0 v30h0 v31h0 v32h0 v33h0 v34h0 v35h0 v36h0 v37h0 v38h0 v39h0 v40h0 v41h0 v42h0) dX11_firstDies_15 mw296 mw297 mw298 mw285 mw299 rfl 11 rfl rfl 0 _ rfl (by unfold yOk; decide) rfl (Nat.le_of_ble_eq_true rfl) (Nat.le_of_ble_eq_true rfl) (Nat.le_of_ble_eq_true rfl) (Nat.le_of_ble_eq_true rfl) (Nat.le_of_ble_eq_true rfl) rfl rfl (by decide) rfl (by decide) (by decide) ?_
  rintro r w ⟨rfl, rfl⟩
  refine k_ws [] rfl ?_
  exact k_iret X hr dX11_firstDies_18 (Nat.le_of_ble_eq_true rfl) (Nat.le_of_ble_eq_true rfl) [] (by decide) rfl rfl ⟨rfl, rfl⟩

theorem dX11_never_0 : decode cX11_never 0 = .ok (.aload_n 0, 1) := by decide +kernel
theorem dX11_never_1 : decode cX11_never 1 = .ok (.invokevirtual 200, 3) := by decide +kernel
theorem dX11_never_4 : decode cX11_never 4 = .ok (.aload_n 0, 1) := by decide +kernel
theorem dX11_never_5 : decode cX11_never 5 = .ok (.iload_n 1, 1) := by decide +kernel
theorem dX11_never_6 : decode cX11_never 6 = .ok (.iconst 0, 1) := by decide +kernel
theorem dX11_never_7 : decode cX11_never 7 = .ok (.invokevirtual 376, 3) := by decide +kernel
theorem dX11_never_10 : decode cX11_never 10 = .ok (.ifCond .ne 9, 3) := by decide +kernel
theorem dX11_never_13 : decode cX11_never 13 = .ok (.aload_n 0, 1) := by decide +kernel
theorem dX11_never_14 : decode cX11_never 14 = .ok (.iconst 1, 1) := by decide +kernel
theorem dX11_never_15 : decode cX11_never 15 = .ok (.invokevirtual 203, 3) := by decide +kernel
theorem dX11_never_18 : decode cX11_never 18 = .ok (.ireturn, 1) := by decide +kernel
set_option maxHeartbeats 4000000 in
set_option maxRecDepth 100000 in
theorem r_never (l : Launch) (g : Gx) (h0 : Nat) (p0 : Int32) (v0h0 : Value) (v1h0 : Value) (v2h0 : Value) (v3h0 : Value) (v4h0 : Value) (v5h0 : Value) (v6h0 : Value) (v7h0 : Value) (v8h0 : Value) (v9h0 : Value) (v10h0 : Value) (v11h0 : Value) (v12h0 : Value) (v13h0 : Value) (v15h0 : Value) (v16h0 : Value) (v17h0 : Value) (v18h0 : Value) (v19h0 : Value) (v20h0 : Value) (v21h0 : Value) (v22h0 : Value) (v23h0 : Value) (v24h0 : Value) (v25h0 : Value) (v26h0 : Value) (v27h0 : Value) (v28h0 : Value) (v29h0 : Value) (v30h0 : Value) (v31h0 : Value) (v32h0 : Value) (v33h0 : Value) (v34h0 : Value) (v35h0 : Value) (v36h0 : Value) (v37h0 : Value) (v38h0 : Value) (v39h0 : Value) (v40h0 : Value) (v41h0 : Value) (v42h0 : Value) : cI l g yX11_never cX11_never 4 (some .int) 2 43 0 0 [.ref h0, .int p0] [(h0, .inr (11, [v0h0, v1h0, v2h0, v3h0, v4h0, v5h0, v6h0, v7h0, v8h0, v9h0, v10h0, v11h0, v12h0, v13h0, .int 0, v15h0, v16h0, v17h0, v18h0, v19h0, v20h0, v21h0, v22h0, v23h0, v24h0, v25h0, v26h0, v27h0, v28h0, v29h0, v30h0, v31h0, v32h0, v33h0, v34h0, v35h0, v36h0, v37h0, v38h0, v39h0, v40h0, v41h0, v42h0]))] (fun r w => r = (-1) ∧ w = []) := by
  refine cI.of (by decide) (Nat.le_of_ble_eq_true rfl) ?_
  intro p e s m args below meth c A X hr hi
  refine k_lveq [(0, .ref h0), (1, .int p0)] rfl ?_
  refine k_aload_n X dX11_never_0 0 rfl ?_
  refine k_callVV (n := 0) (As := []) (st := []) X [(h0, .inr (11, [v0h0, v1h0, v2h0, v3h0, v4h0, v5h0, v6h0, v7h0, v8h0, v9h0, v10h0, v11h0, v12h0, v13h0, .int 0, v15h0, v16h0, v17h0, v18h0, v19h0, v20h0, v21h0, v22h0, v23h0, v24h0, v25h0, v26h0, v27h0, v28h0, v29h0, v30h0, v31h0, v32h0, v33h0, v34h0, v35h0, v36h0, v37h0, v38h0, v39h0, v40h0, v41h0, v42h0]))] [] [0] [] (r_good l g h0 v0h0 v1h0 v2h0 v3h0 v4h0 v5h0 v6h0 v7h0 v8h0 v9h0 v10h0 v11h0 v12h0 v13h0 (.int 0) v15h0 v16h0 v17h0 v18h0 v19h0 v20h0 v21h0 v22h0 v23h0 v24h0 v25h0 v26h0 v27h0 v28h0 v29h0 v30h0 v31h0 v32h0 v33h0 v34h0 v35h0 v36h0 v37h0 v38h0 v39h0 v40h0 v41h0 v42h0) dX11_never_1 mw288 mw289 mw290 mw285 mw291 rfl 11 rfl rfl 0 _ rfl (by unfold yOk; decide) rfl (Nat.le_of_ble_eq_true rfl) (Nat.le_of_ble_eq_true rfl) (Nat.le_of_ble_eq_true rfl) (Nat.le_of_ble_eq_true rfl) (Nat.le_of_ble_eq_true rfl) rfl rfl (by decide) rfl (by decide) (by decide) ?_
  rintro w rfl
  refine k_ws [(h0, .inr (11, [.int 0, v1h0, v2h0, v3h0, v4h0, v5h0, v6h0, v7h0, v8h0, v9h0, v10h0, .int 0, v12h0, v13h0, .int 0, v15h0, v16h0, v17h0, v18h0, v19h0, v20h0, v21h0, v22h0, v23h0, v24h0, v25h0, v26h0, v27h0, v28h0, v29h0, v30h0, v31h0, v32h0, v33h0, v34h0, v35h0, v36h0, v37h0, v38h0, v39h0, v40h0, v41h0, v42h0]))] rfl ?_
  refine k_aload_n X dX11_never_4 0 rfl ?_
  refine k_iload_n X dX11_never_5 1 rfl ?_
  refine k_iconst (v := 0) X dX11_never_6 (by decide) ?_
  refine k_callVI (n := 2) (As := [.int p0, .int 0]) (st := []) X [(h0, .inr (11, [.int 0, v1h0, v2h0, v3h0, v4h0, v5h0, v6h0, v7h0, v8h0, v9h0, v10h0, .int 0, v12h0, v13h0, .int 0, v15h0, v16h0, v17h0, v18h0, v19h0, v20h0, v21h0, v22h0, v23h0, v24h0, v25h0, v26h0, v27h0, v28h0, v29h0, v30h0, v31h0, v32h0, v33h0, v34h0, v35h0, v36h0, v37h0, v38h0, v39h0, v40h0, v41h0, v42h0]))] [] [0] [] (r_canTell l g h0 p0 0 (.int 0) v1h0 v2h0 v3h0 v4h0 v5h0 v6h0 v7h0 v8h0 v9h0 v10h0 (.int 0) v12h0 v13h0 v15h0 v16h0 v17h0 v18h0 v19h0 v20h0 v21h0 v22h0 v23h0 v24h0 v25h0 v26h0 v27h0 v28h0 v29h0 v30h0 v31h0 v32h0 v33h0 v34h0 v35h0 v36h0 v37h0 v38h0 v39h0 v40h0 v41h0 v42h0) dX11_never_7 mw304 mw305 mw306 mw285 mw307 rfl 11 rfl rfl 0 _ rfl (by unfold yOk; decide) rfl (Nat.le_of_ble_eq_true rfl) (Nat.le_of_ble_eq_true rfl) (Nat.le_of_ble_eq_true rfl) (Nat.le_of_ble_eq_true rfl) (Nat.le_of_ble_eq_true rfl) rfl rfl (by decide) rfl (by decide) (by decide) ?_
  rintro r w ⟨rfl, rfl⟩
  refine k_ws [(h0, .inr (11, [.int 0, v1h0, v2h0, v3h0, v4h0, v5h0, v6h0, v7h0, v8h0, v9h0, v10h0, .int 0, v12h0, v13h0, .int 0, v15h0, v16h0, v17h0, v18h0, v19h0, v20h0, v21h0, v22h0, v23h0, v24h0, v25h0, v26h0, v27h0, v28h0, v29h0, v30h0, v31h0, v32h0, v33h0, v34h0, v35h0, v36h0, v37h0, v38h0, v39h0, v40h0, v41h0, v42h0]))] rfl ?_
  refine k_if_ne 19 X dX11_never_10 (by decide) (fun h_1 => absurd h_1 (by decide)) (fun _ => ?_)
  refine k_aload_n X dX11_never_13 0 rfl ?_
  refine k_iconst (v := 1) X dX11_never_14 (by decide) ?_
  refine k_callVI (n := 1) (As := [.int 1]) (st := []) X [(h0, .inr (11, [.int 0, v1h0, v2h0, v3h0, v4h0, v5h0, v6h0, v7h0, v8h0, v9h0, v10h0, .int 0, v12h0, v13h0, .int 0, v15h0, v16h0, v17h0, v18h0, v19h0, v20h0, v21h0, v22h0, v23h0, v24h0, v25h0, v26h0, v27h0, v28h0, v29h0, v30h0, v31h0, v32h0, v33h0, v34h0, v35h0, v36h0, v37h0, v38h0, v39h0, v40h0, v41h0, v42h0]))] [] [0] [] (r_no l g h0 1 (.int 0) v1h0 v2h0 v3h0 v4h0 v5h0 v6h0 v7h0 v8h0 v9h0 v10h0 (.int 0) v12h0 v13h0 (.int 0) v15h0 v16h0 v17h0 v18h0 v19h0 v20h0 v21h0 v22h0 v23h0 v24h0 v25h0 v26h0 v27h0 v28h0 v29h0 v30h0 v31h0 v32h0 v33h0 v34h0 v35h0 v36h0 v37h0 v38h0 v39h0 v40h0 v41h0 v42h0) dX11_never_15 mw296 mw297 mw298 mw285 mw299 rfl 11 rfl rfl 0 _ rfl (by unfold yOk; decide) rfl (Nat.le_of_ble_eq_true rfl) (Nat.le_of_ble_eq_true rfl) (Nat.le_of_ble_eq_true rfl) (Nat.le_of_ble_eq_true rfl) (Nat.le_of_ble_eq_true rfl) rfl rfl (by decide) rfl (by decide) (by decide) ?_
  rintro r w ⟨rfl, rfl⟩
  refine k_ws [] rfl ?_
  exact k_iret X hr dX11_never_18 (Nat.le_of_ble_eq_true rfl) (Nat.le_of_ble_eq_true rfl) [] (by decide) rfl rfl ⟨rfl, rfl⟩

theorem dX11_apart_0 : decode cX11_apart 0 = .ok (.aload_n 0, 1) := by decide +kernel
theorem dX11_apart_1 : decode cX11_apart 1 = .ok (.invokevirtual 200, 3) := by decide +kernel
theorem dX11_apart_4 : decode cX11_apart 4 = .ok (.aload_n 0, 1) := by decide +kernel
theorem dX11_apart_5 : decode cX11_apart 5 = .ok (.iload_n 1, 1) := by decide +kernel
theorem dX11_apart_6 : decode cX11_apart 6 = .ok (.invokevirtual 446, 3) := by decide +kernel
theorem dX11_apart_9 : decode cX11_apart 9 = .ok (.istore_n 3, 1) := by decide +kernel
theorem dX11_apart_10 : decode cX11_apart 10 = .ok (.iload_n 3, 1) := by decide +kernel
theorem dX11_apart_11 : decode cX11_apart 11 = .ok (.ifCond .eq 9, 3) := by decide +kernel
theorem dX11_apart_14 : decode cX11_apart 14 = .ok (.aload_n 0, 1) := by decide +kernel
theorem dX11_apart_15 : decode cX11_apart 15 = .ok (.iload_n 3, 1) := by decide +kernel
theorem dX11_apart_16 : decode cX11_apart 16 = .ok (.invokevirtual 203, 3) := by decide +kernel
theorem dX11_apart_19 : decode cX11_apart 19 = .ok (.ireturn, 1) := by decide +kernel
set_option maxHeartbeats 4000000 in
set_option maxRecDepth 100000 in
theorem r_apart (l : Launch) (g : Gx) (h0 : Nat) (p0 : Int32) (p1 : Int32) (v0h0 : Value) (v1h0 : Value) (v2h0 : Value) (v3h0 : Value) (v4h0 : Value) (v5h0 : Value) (v6h0 : Value) (v7h0 : Value) (v8h0 : Value) (v9h0 : Value) (v10h0 : Value) (v11h0 : Value) (v12h0 : Value) (v13h0 : Value) (v15h0 : Value) (v16h0 : Value) (v17h0 : Value) (v18h0 : Value) (v19h0 : Value) (v20h0 : Value) (v21h0 : Value) (v22h0 : Value) (v23h0 : Value) (v24h0 : Value) (v25h0 : Value) (v26h0 : Value) (v27h0 : Value) (v28h0 : Value) (v29h0 : Value) (v30h0 : Value) (v31h0 : Value) (v32h0 : Value) (v33h0 : Value) (v34h0 : Value) (v35h0 : Value) (v36h0 : Value) (v37h0 : Value) (v38h0 : Value) (v39h0 : Value) (v40h0 : Value) (v41h0 : Value) (v42h0 : Value) : cI l g yX11_apart cX11_apart 4 (some .int) 2 42 0 0 [.ref h0, .int p0, .int p1] [(h0, .inr (11, [v0h0, v1h0, v2h0, v3h0, v4h0, v5h0, v6h0, v7h0, v8h0, v9h0, v10h0, v11h0, v12h0, v13h0, .int 0, v15h0, v16h0, v17h0, v18h0, v19h0, v20h0, v21h0, v22h0, v23h0, v24h0, v25h0, v26h0, v27h0, v28h0, v29h0, v30h0, v31h0, v32h0, v33h0, v34h0, v35h0, v36h0, v37h0, v38h0, v39h0, v40h0, v41h0, v42h0]))] (fun r w => r = (-1) ∧ w = []) := by
  refine cI.of (by decide) (Nat.le_of_ble_eq_true rfl) ?_
  intro p e s m args below meth c A X hr hi
  refine k_lveq [(0, .ref h0), (1, .int p0), (2, .int p1)] rfl ?_
  refine k_aload_n X dX11_apart_0 0 rfl ?_
  refine k_callVV (n := 0) (As := []) (st := []) X [(h0, .inr (11, [v0h0, v1h0, v2h0, v3h0, v4h0, v5h0, v6h0, v7h0, v8h0, v9h0, v10h0, v11h0, v12h0, v13h0, .int 0, v15h0, v16h0, v17h0, v18h0, v19h0, v20h0, v21h0, v22h0, v23h0, v24h0, v25h0, v26h0, v27h0, v28h0, v29h0, v30h0, v31h0, v32h0, v33h0, v34h0, v35h0, v36h0, v37h0, v38h0, v39h0, v40h0, v41h0, v42h0]))] [] [0] [] (r_good l g h0 v0h0 v1h0 v2h0 v3h0 v4h0 v5h0 v6h0 v7h0 v8h0 v9h0 v10h0 v11h0 v12h0 v13h0 (.int 0) v15h0 v16h0 v17h0 v18h0 v19h0 v20h0 v21h0 v22h0 v23h0 v24h0 v25h0 v26h0 v27h0 v28h0 v29h0 v30h0 v31h0 v32h0 v33h0 v34h0 v35h0 v36h0 v37h0 v38h0 v39h0 v40h0 v41h0 v42h0) dX11_apart_1 mw288 mw289 mw290 mw285 mw291 rfl 11 rfl rfl 0 _ rfl (by unfold yOk; decide) rfl (Nat.le_of_ble_eq_true rfl) (Nat.le_of_ble_eq_true rfl) (Nat.le_of_ble_eq_true rfl) (Nat.le_of_ble_eq_true rfl) (Nat.le_of_ble_eq_true rfl) rfl rfl (by decide) rfl (by decide) (by decide) ?_
  rintro w rfl
  refine k_ws [(h0, .inr (11, [.int 0, v1h0, v2h0, v3h0, v4h0, v5h0, v6h0, v7h0, v8h0, v9h0, v10h0, .int 0, v12h0, v13h0, .int 0, v15h0, v16h0, v17h0, v18h0, v19h0, v20h0, v21h0, v22h0, v23h0, v24h0, v25h0, v26h0, v27h0, v28h0, v29h0, v30h0, v31h0, v32h0, v33h0, v34h0, v35h0, v36h0, v37h0, v38h0, v39h0, v40h0, v41h0, v42h0]))] rfl ?_
  refine k_aload_n X dX11_apart_4 0 rfl ?_
  refine k_iload_n X dX11_apart_5 1 rfl ?_
  refine k_callVI (n := 1) (As := [.int p0]) (st := []) X [(h0, .inr (11, [.int 0, v1h0, v2h0, v3h0, v4h0, v5h0, v6h0, v7h0, v8h0, v9h0, v10h0, .int 0, v12h0, v13h0, .int 0, v15h0, v16h0, v17h0, v18h0, v19h0, v20h0, v21h0, v22h0, v23h0, v24h0, v25h0, v26h0, v27h0, v28h0, v29h0, v30h0, v31h0, v32h0, v33h0, v34h0, v35h0, v36h0, v37h0, v38h0, v39h0, v40h0, v41h0, v42h0]))] [] [0] [] (r_boyWhy l g h0 p0 (.int 0) v1h0 v2h0 v3h0 v4h0 v5h0 v6h0 v7h0 v8h0 v9h0 v10h0 (.int 0) v12h0 v13h0 v15h0 v16h0 v17h0 v18h0 v19h0 v20h0 v21h0 v22h0 v23h0 v24h0 v25h0 v26h0 v27h0 v28h0 v29h0 v30h0 v31h0 v32h0 v33h0 v34h0 v35h0 v36h0 v37h0 v38h0 v39h0 v40h0 v41h0 v42h0) dX11_apart_6 mw311 mw312 mw313 mw285 mw314 rfl 11 rfl rfl 0 _ rfl (by unfold yOk; decide) rfl (Nat.le_of_ble_eq_true rfl) (Nat.le_of_ble_eq_true rfl) (Nat.le_of_ble_eq_true rfl) (Nat.le_of_ble_eq_true rfl) (Nat.le_of_ble_eq_true rfl) rfl rfl (by decide) rfl (by decide) (by decide) ?_
  rintro r w ⟨rfl, rfl⟩
  refine k_ws [(h0, .inr (11, [.int 0, v1h0, v2h0, v3h0, v4h0, v5h0, v6h0, v7h0, v8h0, v9h0, v10h0, .int 0, v12h0, v13h0, .int 0, v15h0, v16h0, v17h0, v18h0, v19h0, v20h0, v21h0, v22h0, v23h0, v24h0, v25h0, v26h0, v27h0, v28h0, v29h0, v30h0, v31h0, v32h0, v33h0, v34h0, v35h0, v36h0, v37h0, v38h0, v39h0, v40h0, v41h0, v42h0]))] rfl ?_
  refine k_istore_n [(3, .int 1), (0, .ref h0), (1, .int p0), (2, .int p1)] X dX11_apart_9 (by decide) rfl ?_
  refine k_iload_n X dX11_apart_10 0 rfl ?_
  refine k_if_eq 20 X dX11_apart_11 (by decide) (fun h_1 => absurd h_1 (by decide)) (fun _ => ?_)
  refine k_aload_n X dX11_apart_14 1 rfl ?_
  refine k_iload_n X dX11_apart_15 0 rfl ?_
  refine k_callVI (n := 1) (As := [.int 1]) (st := []) X [(h0, .inr (11, [.int 0, v1h0, v2h0, v3h0, v4h0, v5h0, v6h0, v7h0, v8h0, v9h0, v10h0, .int 0, v12h0, v13h0, .int 0, v15h0, v16h0, v17h0, v18h0, v19h0, v20h0, v21h0, v22h0, v23h0, v24h0, v25h0, v26h0, v27h0, v28h0, v29h0, v30h0, v31h0, v32h0, v33h0, v34h0, v35h0, v36h0, v37h0, v38h0, v39h0, v40h0, v41h0, v42h0]))] [] [0] [] (r_no l g h0 1 (.int 0) v1h0 v2h0 v3h0 v4h0 v5h0 v6h0 v7h0 v8h0 v9h0 v10h0 (.int 0) v12h0 v13h0 (.int 0) v15h0 v16h0 v17h0 v18h0 v19h0 v20h0 v21h0 v22h0 v23h0 v24h0 v25h0 v26h0 v27h0 v28h0 v29h0 v30h0 v31h0 v32h0 v33h0 v34h0 v35h0 v36h0 v37h0 v38h0 v39h0 v40h0 v41h0 v42h0) dX11_apart_16 mw296 mw297 mw298 mw285 mw299 rfl 11 rfl rfl 0 _ rfl (by unfold yOk; decide) rfl (Nat.le_of_ble_eq_true rfl) (Nat.le_of_ble_eq_true rfl) (Nat.le_of_ble_eq_true rfl) (Nat.le_of_ble_eq_true rfl) (Nat.le_of_ble_eq_true rfl) rfl rfl (by decide) rfl (by decide) (by decide) ?_
  rintro r w ⟨rfl, rfl⟩
  refine k_ws [] rfl ?_
  exact k_iret X hr dX11_apart_19 (Nat.le_of_ble_eq_true rfl) (Nat.le_of_ble_eq_true rfl) [] (by decide) rfl rfl ⟨rfl, rfl⟩

theorem dX11_waits_0 : decode cX11_waits 0 = .ok (.aload_n 0, 1) := by decide +kernel
theorem dX11_waits_1 : decode cX11_waits 1 = .ok (.invokevirtual 200, 3) := by decide +kernel
theorem dX11_waits_4 : decode cX11_waits 4 = .ok (.aload_n 0, 1) := by decide +kernel
theorem dX11_waits_5 : decode cX11_waits 5 = .ok (.iload_n 1, 1) := by decide +kernel
theorem dX11_waits_6 : decode cX11_waits 6 = .ok (.invokevirtual 446, 3) := by decide +kernel
theorem dX11_waits_9 : decode cX11_waits 9 = .ok (.istore 4, 2) := by decide +kernel
theorem dX11_waits_11 : decode cX11_waits 11 = .ok (.iload 4, 2) := by decide +kernel
theorem dX11_waits_13 : decode cX11_waits 13 = .ok (.ifCond .eq 10, 3) := by decide +kernel
theorem dX11_waits_16 : decode cX11_waits 16 = .ok (.aload_n 0, 1) := by decide +kernel
theorem dX11_waits_17 : decode cX11_waits 17 = .ok (.iload 4, 2) := by decide +kernel
theorem dX11_waits_19 : decode cX11_waits 19 = .ok (.invokevirtual 203, 3) := by decide +kernel
theorem dX11_waits_22 : decode cX11_waits 22 = .ok (.ireturn, 1) := by decide +kernel
set_option maxHeartbeats 4000000 in
set_option maxRecDepth 100000 in
theorem r_waits (l : Launch) (g : Gx) (h0 : Nat) (p0 : Int32) (p1 : Int32) (p2 : Int32) (v0h0 : Value) (v1h0 : Value) (v2h0 : Value) (v3h0 : Value) (v4h0 : Value) (v5h0 : Value) (v6h0 : Value) (v7h0 : Value) (v8h0 : Value) (v9h0 : Value) (v10h0 : Value) (v11h0 : Value) (v12h0 : Value) (v13h0 : Value) (v15h0 : Value) (v16h0 : Value) (v17h0 : Value) (v18h0 : Value) (v19h0 : Value) (v20h0 : Value) (v21h0 : Value) (v22h0 : Value) (v23h0 : Value) (v24h0 : Value) (v25h0 : Value) (v26h0 : Value) (v27h0 : Value) (v28h0 : Value) (v29h0 : Value) (v30h0 : Value) (v31h0 : Value) (v32h0 : Value) (v33h0 : Value) (v34h0 : Value) (v35h0 : Value) (v36h0 : Value) (v37h0 : Value) (v38h0 : Value) (v39h0 : Value) (v40h0 : Value) (v41h0 : Value) (v42h0 : Value) : cI l g yX11_waits cX11_waits 9 (some .int) 2 42 0 0 [.ref h0, .int p0, .int p1, .int p2] [(h0, .inr (11, [v0h0, v1h0, v2h0, v3h0, v4h0, v5h0, v6h0, v7h0, v8h0, v9h0, v10h0, v11h0, v12h0, v13h0, .int 0, v15h0, v16h0, v17h0, v18h0, v19h0, v20h0, v21h0, v22h0, v23h0, v24h0, v25h0, v26h0, v27h0, v28h0, v29h0, v30h0, v31h0, v32h0, v33h0, v34h0, v35h0, v36h0, v37h0, v38h0, v39h0, v40h0, v41h0, v42h0]))] (fun r w => r = (-1) ∧ w = []) := by
  refine cI.of (by decide) (Nat.le_of_ble_eq_true rfl) ?_
  intro p e s m args below meth c A X hr hi
  refine k_lveq [(0, .ref h0), (1, .int p0), (2, .int p1), (3, .int p2)] rfl ?_
  refine k_aload_n X dX11_waits_0 0 rfl ?_
  refine k_callVV (n := 0) (As := []) (st := []) X [(h0, .inr (11, [v0h0, v1h0, v2h0, v3h0, v4h0, v5h0, v6h0, v7h0, v8h0, v9h0, v10h0, v11h0, v12h0, v13h0, .int 0, v15h0, v16h0, v17h0, v18h0, v19h0, v20h0, v21h0, v22h0, v23h0, v24h0, v25h0, v26h0, v27h0, v28h0, v29h0, v30h0, v31h0, v32h0, v33h0, v34h0, v35h0, v36h0, v37h0, v38h0, v39h0, v40h0, v41h0, v42h0]))] [] [0] [] (r_good l g h0 v0h0 v1h0 v2h0 v3h0 v4h0 v5h0 v6h0 v7h0 v8h0 v9h0 v10h0 v11h0 v12h0 v13h0 (.int 0) v15h0 v16h0 v17h0 v18h0 v19h0 v20h0 v21h0 v22h0 v23h0 v24h0 v25h0 v26h0 v27h0 v28h0 v29h0 v30h0 v31h0 v32h0 v33h0 v34h0 v35h0 v36h0 v37h0 v38h0 v39h0 v40h0 v41h0 v42h0) dX11_waits_1 mw288 mw289 mw290 mw285 mw291 rfl 11 rfl rfl 0 _ rfl (by unfold yOk; decide) rfl (Nat.le_of_ble_eq_true rfl) (Nat.le_of_ble_eq_true rfl) (Nat.le_of_ble_eq_true rfl) (Nat.le_of_ble_eq_true rfl) (Nat.le_of_ble_eq_true rfl) rfl rfl (by decide) rfl (by decide) (by decide) ?_
  rintro w rfl
  refine k_ws [(h0, .inr (11, [.int 0, v1h0, v2h0, v3h0, v4h0, v5h0, v6h0, v7h0, v8h0, v9h0, v10h0, .int 0, v12h0, v13h0, .int 0, v15h0, v16h0, v17h0, v18h0, v19h0, v20h0, v21h0, v22h0, v23h0, v24h0, v25h0, v26h0, v27h0, v28h0, v29h0, v30h0, v31h0, v32h0, v33h0, v34h0, v35h0, v36h0, v37h0, v38h0, v39h0, v40h0, v41h0, v42h0]))] rfl ?_
  refine k_aload_n X dX11_waits_4 0 rfl ?_
  refine k_iload_n X dX11_waits_5 1 rfl ?_
  refine k_callVI (n := 1) (As := [.int p0]) (st := []) X [(h0, .inr (11, [.int 0, v1h0, v2h0, v3h0, v4h0, v5h0, v6h0, v7h0, v8h0, v9h0, v10h0, .int 0, v12h0, v13h0, .int 0, v15h0, v16h0, v17h0, v18h0, v19h0, v20h0, v21h0, v22h0, v23h0, v24h0, v25h0, v26h0, v27h0, v28h0, v29h0, v30h0, v31h0, v32h0, v33h0, v34h0, v35h0, v36h0, v37h0, v38h0, v39h0, v40h0, v41h0, v42h0]))] [] [0] [] (r_boyWhy l g h0 p0 (.int 0) v1h0 v2h0 v3h0 v4h0 v5h0 v6h0 v7h0 v8h0 v9h0 v10h0 (.int 0) v12h0 v13h0 v15h0 v16h0 v17h0 v18h0 v19h0 v20h0 v21h0 v22h0 v23h0 v24h0 v25h0 v26h0 v27h0 v28h0 v29h0 v30h0 v31h0 v32h0 v33h0 v34h0 v35h0 v36h0 v37h0 v38h0 v39h0 v40h0 v41h0 v42h0) dX11_waits_6 mw311 mw312 mw313 mw285 mw314 rfl 11 rfl rfl 0 _ rfl (by unfold yOk; decide) rfl (Nat.le_of_ble_eq_true rfl) (Nat.le_of_ble_eq_true rfl) (Nat.le_of_ble_eq_true rfl) (Nat.le_of_ble_eq_true rfl) (Nat.le_of_ble_eq_true rfl) rfl rfl (by decide) rfl (by decide) (by decide) ?_
  rintro r w ⟨rfl, rfl⟩
  refine k_ws [(h0, .inr (11, [.int 0, v1h0, v2h0, v3h0, v4h0, v5h0, v6h0, v7h0, v8h0, v9h0, v10h0, .int 0, v12h0, v13h0, .int 0, v15h0, v16h0, v17h0, v18h0, v19h0, v20h0, v21h0, v22h0, v23h0, v24h0, v25h0, v26h0, v27h0, v28h0, v29h0, v30h0, v31h0, v32h0, v33h0, v34h0, v35h0, v36h0, v37h0, v38h0, v39h0, v40h0, v41h0, v42h0]))] rfl ?_
  refine k_istore [(4, .int 1), (0, .ref h0), (1, .int p0), (2, .int p1), (3, .int p2)] X dX11_waits_9 (by decide) rfl ?_
  refine k_iload X dX11_waits_11 0 rfl ?_
  refine k_if_eq 23 X dX11_waits_13 (by decide) (fun h_1 => absurd h_1 (by decide)) (fun _ => ?_)
  refine k_aload_n X dX11_waits_16 1 rfl ?_
  refine k_iload X dX11_waits_17 0 rfl ?_
  refine k_callVI (n := 1) (As := [.int 1]) (st := []) X [(h0, .inr (11, [.int 0, v1h0, v2h0, v3h0, v4h0, v5h0, v6h0, v7h0, v8h0, v9h0, v10h0, .int 0, v12h0, v13h0, .int 0, v15h0, v16h0, v17h0, v18h0, v19h0, v20h0, v21h0, v22h0, v23h0, v24h0, v25h0, v26h0, v27h0, v28h0, v29h0, v30h0, v31h0, v32h0, v33h0, v34h0, v35h0, v36h0, v37h0, v38h0, v39h0, v40h0, v41h0, v42h0]))] [] [0] [] (r_no l g h0 1 (.int 0) v1h0 v2h0 v3h0 v4h0 v5h0 v6h0 v7h0 v8h0 v9h0 v10h0 (.int 0) v12h0 v13h0 (.int 0) v15h0 v16h0 v17h0 v18h0 v19h0 v20h0 v21h0 v22h0 v23h0 v24h0 v25h0 v26h0 v27h0 v28h0 v29h0 v30h0 v31h0 v32h0 v33h0 v34h0 v35h0 v36h0 v37h0 v38h0 v39h0 v40h0 v41h0 v42h0) dX11_waits_19 mw296 mw297 mw298 mw285 mw299 rfl 11 rfl rfl 0 _ rfl (by unfold yOk; decide) rfl (Nat.le_of_ble_eq_true rfl) (Nat.le_of_ble_eq_true rfl) (Nat.le_of_ble_eq_true rfl) (Nat.le_of_ble_eq_true rfl) (Nat.le_of_ble_eq_true rfl) rfl rfl (by decide) rfl (by decide) (by decide) ?_
  rintro r w ⟨rfl, rfl⟩
  refine k_ws [] rfl ?_
  exact k_iret X hr dX11_waits_22 (Nat.le_of_ble_eq_true rfl) (Nat.le_of_ble_eq_true rfl) [] (by decide) rfl rfl ⟨rfl, rfl⟩

theorem dX11_boys_0 : decode cX11_boys 0 = .ok (.aload_n 0, 1) := by decide +kernel
theorem dX11_boys_1 : decode cX11_boys 1 = .ok (.invokevirtual 200, 3) := by decide +kernel
theorem dX11_boys_4 : decode cX11_boys 4 = .ok (.aload_n 0, 1) := by decide +kernel
theorem dX11_boys_5 : decode cX11_boys 5 = .ok (.iload_n 1, 1) := by decide +kernel
theorem dX11_boys_6 : decode cX11_boys 6 = .ok (.invokevirtual 446, 3) := by decide +kernel
theorem dX11_boys_9 : decode cX11_boys 9 = .ok (.istore_n 2, 1) := by decide +kernel
theorem dX11_boys_10 : decode cX11_boys 10 = .ok (.iload_n 2, 1) := by decide +kernel
theorem dX11_boys_11 : decode cX11_boys 11 = .ok (.ifCond .eq 9, 3) := by decide +kernel
theorem dX11_boys_14 : decode cX11_boys 14 = .ok (.aload_n 0, 1) := by decide +kernel
theorem dX11_boys_15 : decode cX11_boys 15 = .ok (.iload_n 2, 1) := by decide +kernel
theorem dX11_boys_16 : decode cX11_boys 16 = .ok (.invokevirtual 203, 3) := by decide +kernel
theorem dX11_boys_19 : decode cX11_boys 19 = .ok (.ireturn, 1) := by decide +kernel
set_option maxHeartbeats 4000000 in
set_option maxRecDepth 100000 in
theorem r_boys (l : Launch) (g : Gx) (h0 : Nat) (p0 : Int32) (v0h0 : Value) (v1h0 : Value) (v2h0 : Value) (v3h0 : Value) (v4h0 : Value) (v5h0 : Value) (v6h0 : Value) (v7h0 : Value) (v8h0 : Value) (v9h0 : Value) (v10h0 : Value) (v11h0 : Value) (v12h0 : Value) (v13h0 : Value) (v15h0 : Value) (v16h0 : Value) (v17h0 : Value) (v18h0 : Value) (v19h0 : Value) (v20h0 : Value) (v21h0 : Value) (v22h0 : Value) (v23h0 : Value) (v24h0 : Value) (v25h0 : Value) (v26h0 : Value) (v27h0 : Value) (v28h0 : Value) (v29h0 : Value) (v30h0 : Value) (v31h0 : Value) (v32h0 : Value) (v33h0 : Value) (v34h0 : Value) (v35h0 : Value) (v36h0 : Value) (v37h0 : Value) (v38h0 : Value) (v39h0 : Value) (v40h0 : Value) (v41h0 : Value) (v42h0 : Value) : cI l g yX11_boys cX11_boys 5 (some .int) 2 42 0 0 [.ref h0, .int p0] [(h0, .inr (11, [v0h0, v1h0, v2h0, v3h0, v4h0, v5h0, v6h0, v7h0, v8h0, v9h0, v10h0, v11h0, v12h0, v13h0, .int 0, v15h0, v16h0, v17h0, v18h0, v19h0, v20h0, v21h0, v22h0, v23h0, v24h0, v25h0, v26h0, v27h0, v28h0, v29h0, v30h0, v31h0, v32h0, v33h0, v34h0, v35h0, v36h0, v37h0, v38h0, v39h0, v40h0, v41h0, v42h0]))] (fun r w => r = (-1) ∧ w = []) := by
  refine cI.of (by decide) (Nat.le_of_ble_eq_true rfl) ?_
  intro p e s m args below meth c A X hr hi
  refine k_lveq [(0, .ref h0), (1, .int p0)] rfl ?_
  refine k_aload_n X dX11_boys_0 0 rfl ?_
  refine k_callVV (n := 0) (As := []) (st := []) X [(h0, .inr (11, [v0h0, v1h0, v2h0, v3h0, v4h0, v5h0, v6h0, v7h0, v8h0, v9h0, v10h0, v11h0, v12h0, v13h0, .int 0, v15h0, v16h0, v17h0, v18h0, v19h0, v20h0, v21h0, v22h0, v23h0, v24h0, v25h0, v26h0, v27h0, v28h0, v29h0, v30h0, v31h0, v32h0, v33h0, v34h0, v35h0, v36h0, v37h0, v38h0, v39h0, v40h0, v41h0, v42h0]))] [] [0] [] (r_good l g h0 v0h0 v1h0 v2h0 v3h0 v4h0 v5h0 v6h0 v7h0 v8h0 v9h0 v10h0 v11h0 v12h0 v13h0 (.int 0) v15h0 v16h0 v17h0 v18h0 v19h0 v20h0 v21h0 v22h0 v23h0 v24h0 v25h0 v26h0 v27h0 v28h0 v29h0 v30h0 v31h0 v32h0 v33h0 v34h0 v35h0 v36h0 v37h0 v38h0 v39h0 v40h0 v41h0 v42h0) dX11_boys_1 mw288 mw289 mw290 mw285 mw291 rfl 11 rfl rfl 0 _ rfl (by unfold yOk; decide) rfl (Nat.le_of_ble_eq_true rfl) (Nat.le_of_ble_eq_true rfl) (Nat.le_of_ble_eq_true rfl) (Nat.le_of_ble_eq_true rfl) (Nat.le_of_ble_eq_true rfl) rfl rfl (by decide) rfl (by decide) (by decide) ?_
  rintro w rfl
  refine k_ws [(h0, .inr (11, [.int 0, v1h0, v2h0, v3h0, v4h0, v5h0, v6h0, v7h0, v8h0, v9h0, v10h0, .int 0, v12h0, v13h0, .int 0, v15h0, v16h0, v17h0, v18h0, v19h0, v20h0, v21h0, v22h0, v23h0, v24h0, v25h0, v26h0, v27h0, v28h0, v29h0, v30h0, v31h0, v32h0, v33h0, v34h0, v35h0, v36h0, v37h0, v38h0, v39h0, v40h0, v41h0, v42h0]))] rfl ?_
  refine k_aload_n X dX11_boys_4 0 rfl ?_
  refine k_iload_n X dX11_boys_5 1 rfl ?_
  refine k_callVI (n := 1) (As := [.int p0]) (st := []) X [(h0, .inr (11, [.int 0, v1h0, v2h0, v3h0, v4h0, v5h0, v6h0, v7h0, v8h0, v9h0, v10h0, .int 0, v12h0, v13h0, .int 0, v15h0, v16h0, v17h0, v18h0, v19h0, v20h0, v21h0, v22h0, v23h0, v24h0, v25h0, v26h0, v27h0, v28h0, v29h0, v30h0, v31h0, v32h0, v33h0, v34h0, v35h0, v36h0, v37h0, v38h0, v39h0, v40h0, v41h0, v42h0]))] [] [0] [] (r_boyWhy l g h0 p0 (.int 0) v1h0 v2h0 v3h0 v4h0 v5h0 v6h0 v7h0 v8h0 v9h0 v10h0 (.int 0) v12h0 v13h0 v15h0 v16h0 v17h0 v18h0 v19h0 v20h0 v21h0 v22h0 v23h0 v24h0 v25h0 v26h0 v27h0 v28h0 v29h0 v30h0 v31h0 v32h0 v33h0 v34h0 v35h0 v36h0 v37h0 v38h0 v39h0 v40h0 v41h0 v42h0) dX11_boys_6 mw311 mw312 mw313 mw285 mw314 rfl 11 rfl rfl 0 _ rfl (by unfold yOk; decide) rfl (Nat.le_of_ble_eq_true rfl) (Nat.le_of_ble_eq_true rfl) (Nat.le_of_ble_eq_true rfl) (Nat.le_of_ble_eq_true rfl) (Nat.le_of_ble_eq_true rfl) rfl rfl (by decide) rfl (by decide) (by decide) ?_
  rintro r w ⟨rfl, rfl⟩
  refine k_ws [(h0, .inr (11, [.int 0, v1h0, v2h0, v3h0, v4h0, v5h0, v6h0, v7h0, v8h0, v9h0, v10h0, .int 0, v12h0, v13h0, .int 0, v15h0, v16h0, v17h0, v18h0, v19h0, v20h0, v21h0, v22h0, v23h0, v24h0, v25h0, v26h0, v27h0, v28h0, v29h0, v30h0, v31h0, v32h0, v33h0, v34h0, v35h0, v36h0, v37h0, v38h0, v39h0, v40h0, v41h0, v42h0]))] rfl ?_
  refine k_istore_n [(2, .int 1), (0, .ref h0), (1, .int p0)] X dX11_boys_9 (by decide) rfl ?_
  refine k_iload_n X dX11_boys_10 0 rfl ?_
  refine k_if_eq 20 X dX11_boys_11 (by decide) (fun h_1 => absurd h_1 (by decide)) (fun _ => ?_)
  refine k_aload_n X dX11_boys_14 1 rfl ?_
  refine k_iload_n X dX11_boys_15 0 rfl ?_
  refine k_callVI (n := 1) (As := [.int 1]) (st := []) X [(h0, .inr (11, [.int 0, v1h0, v2h0, v3h0, v4h0, v5h0, v6h0, v7h0, v8h0, v9h0, v10h0, .int 0, v12h0, v13h0, .int 0, v15h0, v16h0, v17h0, v18h0, v19h0, v20h0, v21h0, v22h0, v23h0, v24h0, v25h0, v26h0, v27h0, v28h0, v29h0, v30h0, v31h0, v32h0, v33h0, v34h0, v35h0, v36h0, v37h0, v38h0, v39h0, v40h0, v41h0, v42h0]))] [] [0] [] (r_no l g h0 1 (.int 0) v1h0 v2h0 v3h0 v4h0 v5h0 v6h0 v7h0 v8h0 v9h0 v10h0 (.int 0) v12h0 v13h0 (.int 0) v15h0 v16h0 v17h0 v18h0 v19h0 v20h0 v21h0 v22h0 v23h0 v24h0 v25h0 v26h0 v27h0 v28h0 v29h0 v30h0 v31h0 v32h0 v33h0 v34h0 v35h0 v36h0 v37h0 v38h0 v39h0 v40h0 v41h0 v42h0) dX11_boys_16 mw296 mw297 mw298 mw285 mw299 rfl 11 rfl rfl 0 _ rfl (by unfold yOk; decide) rfl (Nat.le_of_ble_eq_true rfl) (Nat.le_of_ble_eq_true rfl) (Nat.le_of_ble_eq_true rfl) (Nat.le_of_ble_eq_true rfl) (Nat.le_of_ble_eq_true rfl) rfl rfl (by decide) rfl (by decide) (by decide) ?_
  rintro r w ⟨rfl, rfl⟩
  refine k_ws [] rfl ?_
  exact k_iret X hr dX11_boys_19 (Nat.le_of_ble_eq_true rfl) (Nat.le_of_ble_eq_true rfl) [] (by decide) rfl rfl ⟨rfl, rfl⟩

theorem dX11_dark_0 : decode cX11_dark 0 = .ok (.aload_n 0, 1) := by decide +kernel
theorem dX11_dark_1 : decode cX11_dark 1 = .ok (.invokevirtual 200, 3) := by decide +kernel
theorem dX11_dark_4 : decode cX11_dark 4 = .ok (.aload_n 0, 1) := by decide +kernel
theorem dX11_dark_5 : decode cX11_dark 5 = .ok (.iload_n 1, 1) := by decide +kernel
theorem dX11_dark_6 : decode cX11_dark 6 = .ok (.invokevirtual 370, 3) := by decide +kernel
theorem dX11_dark_9 : decode cX11_dark 9 = .ok (.ifCond .ne 9, 3) := by decide +kernel
theorem dX11_dark_12 : decode cX11_dark 12 = .ok (.aload_n 0, 1) := by decide +kernel
theorem dX11_dark_13 : decode cX11_dark 13 = .ok (.iconst 1, 1) := by decide +kernel
theorem dX11_dark_14 : decode cX11_dark 14 = .ok (.invokevirtual 203, 3) := by decide +kernel
theorem dX11_dark_17 : decode cX11_dark 17 = .ok (.ireturn, 1) := by decide +kernel
set_option maxHeartbeats 4000000 in
set_option maxRecDepth 100000 in
theorem r_dark (l : Launch) (g : Gx) (h0 : Nat) (p0 : Int32) (p1 : Int32) (v0h0 : Value) (v1h0 : Value) (v2h0 : Value) (v3h0 : Value) (v4h0 : Value) (v5h0 : Value) (v6h0 : Value) (v7h0 : Value) (v8h0 : Value) (v9h0 : Value) (v10h0 : Value) (v11h0 : Value) (v12h0 : Value) (v13h0 : Value) (v15h0 : Value) (v16h0 : Value) (v17h0 : Value) (v18h0 : Value) (v19h0 : Value) (v20h0 : Value) (v21h0 : Value) (v22h0 : Value) (v23h0 : Value) (v24h0 : Value) (v25h0 : Value) (v26h0 : Value) (v27h0 : Value) (v28h0 : Value) (v29h0 : Value) (v30h0 : Value) (v31h0 : Value) (v32h0 : Value) (v33h0 : Value) (v34h0 : Value) (v35h0 : Value) (v36h0 : Value) (v37h0 : Value) (v38h0 : Value) (v39h0 : Value) (v40h0 : Value) (v41h0 : Value) (v42h0 : Value) : cI l g yX11_dark cX11_dark 3 (some .int) 1 21 0 0 [.ref h0, .int p0, .int p1] [(h0, .inr (11, [v0h0, v1h0, v2h0, v3h0, v4h0, v5h0, v6h0, v7h0, v8h0, v9h0, v10h0, v11h0, v12h0, v13h0, .int 0, v15h0, v16h0, v17h0, v18h0, v19h0, v20h0, v21h0, v22h0, v23h0, v24h0, v25h0, v26h0, v27h0, v28h0, v29h0, v30h0, v31h0, v32h0, v33h0, v34h0, v35h0, v36h0, v37h0, v38h0, v39h0, v40h0, v41h0, v42h0]))] (fun r w => r = (-1) ∧ w = []) := by
  refine cI.of (by decide) (Nat.le_of_ble_eq_true rfl) ?_
  intro p e s m args below meth c A X hr hi
  refine k_lveq [(0, .ref h0), (1, .int p0), (2, .int p1)] rfl ?_
  refine k_aload_n X dX11_dark_0 0 rfl ?_
  refine k_callVV (n := 0) (As := []) (st := []) X [(h0, .inr (11, [v0h0, v1h0, v2h0, v3h0, v4h0, v5h0, v6h0, v7h0, v8h0, v9h0, v10h0, v11h0, v12h0, v13h0, .int 0, v15h0, v16h0, v17h0, v18h0, v19h0, v20h0, v21h0, v22h0, v23h0, v24h0, v25h0, v26h0, v27h0, v28h0, v29h0, v30h0, v31h0, v32h0, v33h0, v34h0, v35h0, v36h0, v37h0, v38h0, v39h0, v40h0, v41h0, v42h0]))] [] [0] [] (r_good l g h0 v0h0 v1h0 v2h0 v3h0 v4h0 v5h0 v6h0 v7h0 v8h0 v9h0 v10h0 v11h0 v12h0 v13h0 (.int 0) v15h0 v16h0 v17h0 v18h0 v19h0 v20h0 v21h0 v22h0 v23h0 v24h0 v25h0 v26h0 v27h0 v28h0 v29h0 v30h0 v31h0 v32h0 v33h0 v34h0 v35h0 v36h0 v37h0 v38h0 v39h0 v40h0 v41h0 v42h0) dX11_dark_1 mw288 mw289 mw290 mw285 mw291 rfl 11 rfl rfl 0 _ rfl (by unfold yOk; decide) rfl (Nat.le_of_ble_eq_true rfl) (Nat.le_of_ble_eq_true rfl) (Nat.le_of_ble_eq_true rfl) (Nat.le_of_ble_eq_true rfl) (Nat.le_of_ble_eq_true rfl) rfl rfl (by decide) rfl (by decide) (by decide) ?_
  rintro w rfl
  refine k_ws [(h0, .inr (11, [.int 0, v1h0, v2h0, v3h0, v4h0, v5h0, v6h0, v7h0, v8h0, v9h0, v10h0, .int 0, v12h0, v13h0, .int 0, v15h0, v16h0, v17h0, v18h0, v19h0, v20h0, v21h0, v22h0, v23h0, v24h0, v25h0, v26h0, v27h0, v28h0, v29h0, v30h0, v31h0, v32h0, v33h0, v34h0, v35h0, v36h0, v37h0, v38h0, v39h0, v40h0, v41h0, v42h0]))] rfl ?_
  refine k_aload_n X dX11_dark_4 0 rfl ?_
  refine k_iload_n X dX11_dark_5 1 rfl ?_
  refine k_callVI (n := 1) (As := [.int p0]) (st := []) X [(h0, .inr (11, [.int 0, v1h0, v2h0, v3h0, v4h0, v5h0, v6h0, v7h0, v8h0, v9h0, v10h0, .int 0, v12h0, v13h0, .int 0, v15h0, v16h0, v17h0, v18h0, v19h0, v20h0, v21h0, v22h0, v23h0, v24h0, v25h0, v26h0, v27h0, v28h0, v29h0, v30h0, v31h0, v32h0, v33h0, v34h0, v35h0, v36h0, v37h0, v38h0, v39h0, v40h0, v41h0, v42h0]))] [] [0] [] (r_isMan l g h0 p0 (.int 0) v1h0 v2h0 v3h0 v4h0 v5h0 v6h0 v7h0 v8h0 v9h0 v10h0 (.int 0) v12h0 v13h0 v15h0 v16h0 v17h0 v18h0 v19h0 v20h0 v21h0 v22h0 v23h0 v24h0 v25h0 v26h0 v27h0 v28h0 v29h0 v30h0 v31h0 v32h0 v33h0 v34h0 v35h0 v36h0 v37h0 v38h0 v39h0 v40h0 v41h0 v42h0) dX11_dark_6 mw282 mw283 mw284 mw285 mw286 rfl 11 rfl rfl 0 _ rfl (by unfold yOk; decide) rfl (Nat.le_of_ble_eq_true rfl) (Nat.le_of_ble_eq_true rfl) (Nat.le_of_ble_eq_true rfl) (Nat.le_of_ble_eq_true rfl) (Nat.le_of_ble_eq_true rfl) rfl rfl (by decide) rfl (by decide) (by decide) ?_
  rintro r w ⟨rfl, rfl⟩
  refine k_ws [(h0, .inr (11, [.int 0, v1h0, v2h0, v3h0, v4h0, v5h0, v6h0, v7h0, v8h0, v9h0, v10h0, .int 0, v12h0, v13h0, .int 0, v15h0, v16h0, v17h0, v18h0, v19h0, v20h0, v21h0, v22h0, v23h0, v24h0, v25h0, v26h0, v27h0, v28h0, v29h0, v30h0, v31h0, v32h0, v33h0, v34h0, v35h0, v36h0, v37h0, v38h0, v39h0, v40h0, v41h0, v42h0]))] rfl ?_
  refine k_if_ne 18 X dX11_dark_9 (by decide) (fun h_1 => absurd h_1 (by decide)) (fun _ => ?_)
  refine k_aload_n X dX11_dark_12 0 rfl ?_
  refine k_iconst (v := 1) X dX11_dark_13 (by decide) ?_
  refine k_callVI (n := 1) (As := [.int 1]) (st := []) X [(h0, .inr (11, [.int 0, v1h0, v2h0, v3h0, v4h0, v5h0, v6h0, v7h0, v8h0, v9h0, v10h0, .int 0, v12h0, v13h0, .int 0, v15h0, v16h0, v17h0, v18h0, v19h0, v20h0, v21h0, v22h0, v23h0, v24h0, v25h0, v26h0, v27h0, v28h0, v29h0, v30h0, v31h0, v32h0, v33h0, v34h0, v35h0, v36h0, v37h0, v38h0, v39h0, v40h0, v41h0, v42h0]))] [] [0] [] (r_no l g h0 1 (.int 0) v1h0 v2h0 v3h0 v4h0 v5h0 v6h0 v7h0 v8h0 v9h0 v10h0 (.int 0) v12h0 v13h0 (.int 0) v15h0 v16h0 v17h0 v18h0 v19h0 v20h0 v21h0 v22h0 v23h0 v24h0 v25h0 v26h0 v27h0 v28h0 v29h0 v30h0 v31h0 v32h0 v33h0 v34h0 v35h0 v36h0 v37h0 v38h0 v39h0 v40h0 v41h0 v42h0) dX11_dark_14 mw296 mw297 mw298 mw285 mw299 rfl 11 rfl rfl 0 _ rfl (by unfold yOk; decide) rfl (Nat.le_of_ble_eq_true rfl) (Nat.le_of_ble_eq_true rfl) (Nat.le_of_ble_eq_true rfl) (Nat.le_of_ble_eq_true rfl) (Nat.le_of_ble_eq_true rfl) rfl rfl (by decide) rfl (by decide) (by decide) ?_
  rintro r w ⟨rfl, rfl⟩
  refine k_ws [] rfl ?_
  exact k_iret X hr dX11_dark_17 (Nat.le_of_ble_eq_true rfl) (Nat.le_of_ble_eq_true rfl) [] (by decide) rfl rfl ⟨rfl, rfl⟩

theorem dX11_who_0 : decode cX11_who 0 = .ok (.aload_n 0, 1) := by decide +kernel
theorem dX11_who_1 : decode cX11_who 1 = .ok (.invokevirtual 200, 3) := by decide +kernel
theorem dX11_who_4 : decode cX11_who 4 = .ok (.aload_n 0, 1) := by decide +kernel
theorem dX11_who_5 : decode cX11_who 5 = .ok (.iload_n 1, 1) := by decide +kernel
theorem dX11_who_6 : decode cX11_who 6 = .ok (.invokevirtual 440, 3) := by decide +kernel
theorem dX11_who_9 : decode cX11_who 9 = .ok (.ifCond .eq 10, 3) := by decide +kernel
theorem dX11_who_19 : decode cX11_who 19 = .ok (.aload_n 0, 1) := by decide +kernel
theorem dX11_who_20 : decode cX11_who 20 = .ok (.iconst 1, 1) := by decide +kernel
theorem dX11_who_21 : decode cX11_who 21 = .ok (.invokevirtual 203, 3) := by decide +kernel
theorem dX11_who_24 : decode cX11_who 24 = .ok (.ireturn, 1) := by decide +kernel
set_option maxHeartbeats 4000000 in
set_option maxRecDepth 100000 in
theorem r_who (l : Launch) (g : Gx) (h0 : Nat) (p0 : Int32) (v0h0 : Value) (v1h0 : Value) (v2h0 : Value) (v3h0 : Value) (v4h0 : Value) (v5h0 : Value) (v6h0 : Value) (v7h0 : Value) (v8h0 : Value) (v9h0 : Value) (v10h0 : Value) (v11h0 : Value) (v12h0 : Value) (v13h0 : Value) (v15h0 : Value) (v16h0 : Value) (v17h0 : Value) (v18h0 : Value) (v19h0 : Value) (v20h0 : Value) (v21h0 : Value) (v22h0 : Value) (v23h0 : Value) (v24h0 : Value) (v25h0 : Value) (v26h0 : Value) (v27h0 : Value) (v28h0 : Value) (v29h0 : Value) (v30h0 : Value) (v31h0 : Value) (v32h0 : Value) (v33h0 : Value) (v34h0 : Value) (v35h0 : Value) (v36h0 : Value) (v37h0 : Value) (v38h0 : Value) (v39h0 : Value) (v40h0 : Value) (v41h0 : Value) (v42h0 : Value) : cI l g yX11_who cX11_who 2 (some .int) 1 23 0 0 [.ref h0, .int p0] [(h0, .inr (11, [v0h0, v1h0, v2h0, v3h0, v4h0, v5h0, v6h0, v7h0, v8h0, v9h0, v10h0, v11h0, v12h0, v13h0, .int 0, v15h0, v16h0, v17h0, v18h0, v19h0, v20h0, v21h0, v22h0, v23h0, v24h0, v25h0, v26h0, v27h0, v28h0, v29h0, v30h0, v31h0, v32h0, v33h0, v34h0, v35h0, v36h0, v37h0, v38h0, v39h0, v40h0, v41h0, v42h0]))] (fun r w => r = (-1) ∧ w = []) := by
  refine cI.of (by decide) (Nat.le_of_ble_eq_true rfl) ?_
  intro p e s m args below meth c A X hr hi
  refine k_lveq [(0, .ref h0), (1, .int p0)] rfl ?_
  refine k_aload_n X dX11_who_0 0 rfl ?_
  refine k_callVV (n := 0) (As := []) (st := []) X [(h0, .inr (11, [v0h0, v1h0, v2h0, v3h0, v4h0, v5h0, v6h0, v7h0, v8h0, v9h0, v10h0, v11h0, v12h0, v13h0, .int 0, v15h0, v16h0, v17h0, v18h0, v19h0, v20h0, v21h0, v22h0, v23h0, v24h0, v25h0, v26h0, v27h0, v28h0, v29h0, v30h0, v31h0, v32h0, v33h0, v34h0, v35h0, v36h0, v37h0, v38h0, v39h0, v40h0, v41h0, v42h0]))] [] [0] [] (r_good l g h0 v0h0 v1h0 v2h0 v3h0 v4h0 v5h0 v6h0 v7h0 v8h0 v9h0 v10h0 v11h0 v12h0 v13h0 (.int 0) v15h0 v16h0 v17h0 v18h0 v19h0 v20h0 v21h0 v22h0 v23h0 v24h0 v25h0 v26h0 v27h0 v28h0 v29h0 v30h0 v31h0 v32h0 v33h0 v34h0 v35h0 v36h0 v37h0 v38h0 v39h0 v40h0 v41h0 v42h0) dX11_who_1 mw288 mw289 mw290 mw285 mw291 rfl 11 rfl rfl 0 _ rfl (by unfold yOk; decide) rfl (Nat.le_of_ble_eq_true rfl) (Nat.le_of_ble_eq_true rfl) (Nat.le_of_ble_eq_true rfl) (Nat.le_of_ble_eq_true rfl) (Nat.le_of_ble_eq_true rfl) rfl rfl (by decide) rfl (by decide) (by decide) ?_
  rintro w rfl
  refine k_ws [(h0, .inr (11, [.int 0, v1h0, v2h0, v3h0, v4h0, v5h0, v6h0, v7h0, v8h0, v9h0, v10h0, .int 0, v12h0, v13h0, .int 0, v15h0, v16h0, v17h0, v18h0, v19h0, v20h0, v21h0, v22h0, v23h0, v24h0, v25h0, v26h0, v27h0, v28h0, v29h0, v30h0, v31h0, v32h0, v33h0, v34h0, v35h0, v36h0, v37h0, v38h0, v39h0, v40h0, v41h0, v42h0]))] rfl ?_
  refine k_aload_n X dX11_who_4 0 rfl ?_
  refine k_iload_n X dX11_who_5 1 rfl ?_
  refine k_callVI (n := 1) (As := [.int p0]) (st := []) X [(h0, .inr (11, [.int 0, v1h0, v2h0, v3h0, v4h0, v5h0, v6h0, v7h0, v8h0, v9h0, v10h0, .int 0, v12h0, v13h0, .int 0, v15h0, v16h0, v17h0, v18h0, v19h0, v20h0, v21h0, v22h0, v23h0, v24h0, v25h0, v26h0, v27h0, v28h0, v29h0, v30h0, v31h0, v32h0, v33h0, v34h0, v35h0, v36h0, v37h0, v38h0, v39h0, v40h0, v41h0, v42h0]))] [] [0] [] (r_layScratch l g h0 p0 (.int 0) v1h0 v2h0 v3h0 v4h0 v5h0 v6h0 v7h0 v8h0 v9h0 v10h0 (.int 0) v12h0 v13h0 v15h0 v16h0 v17h0 v18h0 v19h0 v20h0 v21h0 v22h0 v23h0 v24h0 v25h0 v26h0 v27h0 v28h0 v29h0 v30h0 v31h0 v32h0 v33h0 v34h0 v35h0 v36h0 v37h0 v38h0 v39h0 v40h0 v41h0 v42h0) dX11_who_6 mw315 mw316 mw317 mw285 mw318 rfl 11 rfl rfl 0 _ rfl (by unfold yOk; decide) rfl (Nat.le_of_ble_eq_true rfl) (Nat.le_of_ble_eq_true rfl) (Nat.le_of_ble_eq_true rfl) (Nat.le_of_ble_eq_true rfl) (Nat.le_of_ble_eq_true rfl) rfl rfl (by decide) rfl (by decide) (by decide) ?_
  rintro r w ⟨rfl, rfl⟩
  refine k_ws [(h0, .inr (11, [.int 0, v1h0, v2h0, v3h0, v4h0, v5h0, v6h0, v7h0, v8h0, v9h0, v10h0, .int 0, v12h0, v13h0, .int 0, v15h0, v16h0, v17h0, v18h0, v19h0, v20h0, v21h0, v22h0, v23h0, v24h0, v25h0, v26h0, v27h0, v28h0, v29h0, v30h0, v31h0, v32h0, v33h0, v34h0, v35h0, v36h0, v37h0, v38h0, v39h0, v40h0, v41h0, v42h0]))] rfl ?_
  refine k_if_eq 19 X dX11_who_9 (by decide) (fun _ => ?_) (fun h_1 => absurd (by decide) h_1)
  refine k_aload_n X dX11_who_19 0 rfl ?_
  refine k_iconst (v := 1) X dX11_who_20 (by decide) ?_
  refine k_callVI (n := 1) (As := [.int 1]) (st := []) X [(h0, .inr (11, [.int 0, v1h0, v2h0, v3h0, v4h0, v5h0, v6h0, v7h0, v8h0, v9h0, v10h0, .int 0, v12h0, v13h0, .int 0, v15h0, v16h0, v17h0, v18h0, v19h0, v20h0, v21h0, v22h0, v23h0, v24h0, v25h0, v26h0, v27h0, v28h0, v29h0, v30h0, v31h0, v32h0, v33h0, v34h0, v35h0, v36h0, v37h0, v38h0, v39h0, v40h0, v41h0, v42h0]))] [] [0] [] (r_no l g h0 1 (.int 0) v1h0 v2h0 v3h0 v4h0 v5h0 v6h0 v7h0 v8h0 v9h0 v10h0 (.int 0) v12h0 v13h0 (.int 0) v15h0 v16h0 v17h0 v18h0 v19h0 v20h0 v21h0 v22h0 v23h0 v24h0 v25h0 v26h0 v27h0 v28h0 v29h0 v30h0 v31h0 v32h0 v33h0 v34h0 v35h0 v36h0 v37h0 v38h0 v39h0 v40h0 v41h0 v42h0) dX11_who_21 mw296 mw297 mw298 mw285 mw299 rfl 11 rfl rfl 0 _ rfl (by unfold yOk; decide) rfl (Nat.le_of_ble_eq_true rfl) (Nat.le_of_ble_eq_true rfl) (Nat.le_of_ble_eq_true rfl) (Nat.le_of_ble_eq_true rfl) (Nat.le_of_ble_eq_true rfl) rfl rfl (by decide) rfl (by decide) (by decide) ?_
  rintro r w ⟨rfl, rfl⟩
  refine k_ws [] rfl ?_
  exact k_iret X hr dX11_who_24 (Nat.le_of_ble_eq_true rfl) (Nat.le_of_ble_eq_true rfl) [] (by decide) rfl rfl ⟨rfl, rfl⟩

theorem dX11_far_0 : decode cX11_far 0 = .ok (.aload_n 0, 1) := by decide +kernel
theorem dX11_far_1 : decode cX11_far 1 = .ok (.invokevirtual 200, 3) := by decide +kernel
theorem dX11_far_4 : decode cX11_far 4 = .ok (.aload_n 0, 1) := by decide +kernel
theorem dX11_far_5 : decode cX11_far 5 = .ok (.iload_n 1, 1) := by decide +kernel
theorem dX11_far_6 : decode cX11_far 6 = .ok (.invokevirtual 440, 3) := by decide +kernel
theorem dX11_far_9 : decode cX11_far 9 = .ok (.ifCond .eq 10, 3) := by decide +kernel
theorem dX11_far_19 : decode cX11_far 19 = .ok (.aload_n 0, 1) := by decide +kernel
theorem dX11_far_20 : decode cX11_far 20 = .ok (.iconst 1, 1) := by decide +kernel
theorem dX11_far_21 : decode cX11_far 21 = .ok (.invokevirtual 203, 3) := by decide +kernel
theorem dX11_far_24 : decode cX11_far 24 = .ok (.ireturn, 1) := by decide +kernel
set_option maxHeartbeats 4000000 in
set_option maxRecDepth 100000 in
theorem r_far (l : Launch) (g : Gx) (h0 : Nat) (p0 : Int32) (v0h0 : Value) (v1h0 : Value) (v2h0 : Value) (v3h0 : Value) (v4h0 : Value) (v5h0 : Value) (v6h0 : Value) (v7h0 : Value) (v8h0 : Value) (v9h0 : Value) (v10h0 : Value) (v11h0 : Value) (v12h0 : Value) (v13h0 : Value) (v15h0 : Value) (v16h0 : Value) (v17h0 : Value) (v18h0 : Value) (v19h0 : Value) (v20h0 : Value) (v21h0 : Value) (v22h0 : Value) (v23h0 : Value) (v24h0 : Value) (v25h0 : Value) (v26h0 : Value) (v27h0 : Value) (v28h0 : Value) (v29h0 : Value) (v30h0 : Value) (v31h0 : Value) (v32h0 : Value) (v33h0 : Value) (v34h0 : Value) (v35h0 : Value) (v36h0 : Value) (v37h0 : Value) (v38h0 : Value) (v39h0 : Value) (v40h0 : Value) (v41h0 : Value) (v42h0 : Value) : cI l g yX11_far cX11_far 2 (some .int) 1 23 0 0 [.ref h0, .int p0] [(h0, .inr (11, [v0h0, v1h0, v2h0, v3h0, v4h0, v5h0, v6h0, v7h0, v8h0, v9h0, v10h0, v11h0, v12h0, v13h0, .int 0, v15h0, v16h0, v17h0, v18h0, v19h0, v20h0, v21h0, v22h0, v23h0, v24h0, v25h0, v26h0, v27h0, v28h0, v29h0, v30h0, v31h0, v32h0, v33h0, v34h0, v35h0, v36h0, v37h0, v38h0, v39h0, v40h0, v41h0, v42h0]))] (fun r w => r = (-1) ∧ w = []) := by
  refine cI.of (by decide) (Nat.le_of_ble_eq_true rfl) ?_
  intro p e s m args below meth c A X hr hi
  refine k_lveq [(0, .ref h0), (1, .int p0)] rfl ?_
  refine k_aload_n X dX11_far_0 0 rfl ?_
  refine k_callVV (n := 0) (As := []) (st := []) X [(h0, .inr (11, [v0h0, v1h0, v2h0, v3h0, v4h0, v5h0, v6h0, v7h0, v8h0, v9h0, v10h0, v11h0, v12h0, v13h0, .int 0, v15h0, v16h0, v17h0, v18h0, v19h0, v20h0, v21h0, v22h0, v23h0, v24h0, v25h0, v26h0, v27h0, v28h0, v29h0, v30h0, v31h0, v32h0, v33h0, v34h0, v35h0, v36h0, v37h0, v38h0, v39h0, v40h0, v41h0, v42h0]))] [] [0] [] (r_good l g h0 v0h0 v1h0 v2h0 v3h0 v4h0 v5h0 v6h0 v7h0 v8h0 v9h0 v10h0 v11h0 v12h0 v13h0 (.int 0) v15h0 v16h0 v17h0 v18h0 v19h0 v20h0 v21h0 v22h0 v23h0 v24h0 v25h0 v26h0 v27h0 v28h0 v29h0 v30h0 v31h0 v32h0 v33h0 v34h0 v35h0 v36h0 v37h0 v38h0 v39h0 v40h0 v41h0 v42h0) dX11_far_1 mw288 mw289 mw290 mw285 mw291 rfl 11 rfl rfl 0 _ rfl (by unfold yOk; decide) rfl (Nat.le_of_ble_eq_true rfl) (Nat.le_of_ble_eq_true rfl) (Nat.le_of_ble_eq_true rfl) (Nat.le_of_ble_eq_true rfl) (Nat.le_of_ble_eq_true rfl) rfl rfl (by decide) rfl (by decide) (by decide) ?_
  rintro w rfl
  refine k_ws [(h0, .inr (11, [.int 0, v1h0, v2h0, v3h0, v4h0, v5h0, v6h0, v7h0, v8h0, v9h0, v10h0, .int 0, v12h0, v13h0, .int 0, v15h0, v16h0, v17h0, v18h0, v19h0, v20h0, v21h0, v22h0, v23h0, v24h0, v25h0, v26h0, v27h0, v28h0, v29h0, v30h0, v31h0, v32h0, v33h0, v34h0, v35h0, v36h0, v37h0, v38h0, v39h0, v40h0, v41h0, v42h0]))] rfl ?_
  refine k_aload_n X dX11_far_4 0 rfl ?_
  refine k_iload_n X dX11_far_5 1 rfl ?_
  refine k_callVI (n := 1) (As := [.int p0]) (st := []) X [(h0, .inr (11, [.int 0, v1h0, v2h0, v3h0, v4h0, v5h0, v6h0, v7h0, v8h0, v9h0, v10h0, .int 0, v12h0, v13h0, .int 0, v15h0, v16h0, v17h0, v18h0, v19h0, v20h0, v21h0, v22h0, v23h0, v24h0, v25h0, v26h0, v27h0, v28h0, v29h0, v30h0, v31h0, v32h0, v33h0, v34h0, v35h0, v36h0, v37h0, v38h0, v39h0, v40h0, v41h0, v42h0]))] [] [0] [] (r_layScratch l g h0 p0 (.int 0) v1h0 v2h0 v3h0 v4h0 v5h0 v6h0 v7h0 v8h0 v9h0 v10h0 (.int 0) v12h0 v13h0 v15h0 v16h0 v17h0 v18h0 v19h0 v20h0 v21h0 v22h0 v23h0 v24h0 v25h0 v26h0 v27h0 v28h0 v29h0 v30h0 v31h0 v32h0 v33h0 v34h0 v35h0 v36h0 v37h0 v38h0 v39h0 v40h0 v41h0 v42h0) dX11_far_6 mw315 mw316 mw317 mw285 mw318 rfl 11 rfl rfl 0 _ rfl (by unfold yOk; decide) rfl (Nat.le_of_ble_eq_true rfl) (Nat.le_of_ble_eq_true rfl) (Nat.le_of_ble_eq_true rfl) (Nat.le_of_ble_eq_true rfl) (Nat.le_of_ble_eq_true rfl) rfl rfl (by decide) rfl (by decide) (by decide) ?_
  rintro r w ⟨rfl, rfl⟩
  refine k_ws [(h0, .inr (11, [.int 0, v1h0, v2h0, v3h0, v4h0, v5h0, v6h0, v7h0, v8h0, v9h0, v10h0, .int 0, v12h0, v13h0, .int 0, v15h0, v16h0, v17h0, v18h0, v19h0, v20h0, v21h0, v22h0, v23h0, v24h0, v25h0, v26h0, v27h0, v28h0, v29h0, v30h0, v31h0, v32h0, v33h0, v34h0, v35h0, v36h0, v37h0, v38h0, v39h0, v40h0, v41h0, v42h0]))] rfl ?_
  refine k_if_eq 19 X dX11_far_9 (by decide) (fun _ => ?_) (fun h_1 => absurd (by decide) h_1)
  refine k_aload_n X dX11_far_19 0 rfl ?_
  refine k_iconst (v := 1) X dX11_far_20 (by decide) ?_
  refine k_callVI (n := 1) (As := [.int 1]) (st := []) X [(h0, .inr (11, [.int 0, v1h0, v2h0, v3h0, v4h0, v5h0, v6h0, v7h0, v8h0, v9h0, v10h0, .int 0, v12h0, v13h0, .int 0, v15h0, v16h0, v17h0, v18h0, v19h0, v20h0, v21h0, v22h0, v23h0, v24h0, v25h0, v26h0, v27h0, v28h0, v29h0, v30h0, v31h0, v32h0, v33h0, v34h0, v35h0, v36h0, v37h0, v38h0, v39h0, v40h0, v41h0, v42h0]))] [] [0] [] (r_no l g h0 1 (.int 0) v1h0 v2h0 v3h0 v4h0 v5h0 v6h0 v7h0 v8h0 v9h0 v10h0 (.int 0) v12h0 v13h0 (.int 0) v15h0 v16h0 v17h0 v18h0 v19h0 v20h0 v21h0 v22h0 v23h0 v24h0 v25h0 v26h0 v27h0 v28h0 v29h0 v30h0 v31h0 v32h0 v33h0 v34h0 v35h0 v36h0 v37h0 v38h0 v39h0 v40h0 v41h0 v42h0) dX11_far_21 mw296 mw297 mw298 mw285 mw299 rfl 11 rfl rfl 0 _ rfl (by unfold yOk; decide) rfl (Nat.le_of_ble_eq_true rfl) (Nat.le_of_ble_eq_true rfl) (Nat.le_of_ble_eq_true rfl) (Nat.le_of_ble_eq_true rfl) (Nat.le_of_ble_eq_true rfl) rfl rfl (by decide) rfl (by decide) (by decide) ?_
  rintro r w ⟨rfl, rfl⟩
  refine k_ws [] rfl ?_
  exact k_iret X hr dX11_far_24 (Nat.le_of_ble_eq_true rfl) (Nat.le_of_ble_eq_true rfl) [] (by decide) rfl rfl ⟨rfl, rfl⟩

theorem dX11_holds_0 : decode cX11_holds 0 = .ok (.aload_n 0, 1) := by decide +kernel
theorem dX11_holds_1 : decode cX11_holds 1 = .ok (.invokevirtual 200, 3) := by decide +kernel
theorem dX11_holds_4 : decode cX11_holds 4 = .ok (.aload_n 0, 1) := by decide +kernel
theorem dX11_holds_5 : decode cX11_holds 5 = .ok (.iload_n 1, 1) := by decide +kernel
theorem dX11_holds_6 : decode cX11_holds 6 = .ok (.invokevirtual 412, 3) := by decide +kernel
theorem dX11_holds_9 : decode cX11_holds 9 = .ok (.ifCond .eq 11, 3) := by decide +kernel
theorem dX11_holds_20 : decode cX11_holds 20 = .ok (.aload_n 0, 1) := by decide +kernel
theorem dX11_holds_21 : decode cX11_holds 21 = .ok (.iconst 1, 1) := by decide +kernel
theorem dX11_holds_22 : decode cX11_holds 22 = .ok (.invokevirtual 203, 3) := by decide +kernel
theorem dX11_holds_25 : decode cX11_holds 25 = .ok (.i2l, 1) := by decide +kernel
theorem dX11_holds_26 : decode cX11_holds 26 = .ok (.lreturn, 1) := by decide +kernel
set_option maxHeartbeats 4000000 in
set_option maxRecDepth 100000 in
theorem r_holds (l : Launch) (g : Gx) (h0 : Nat) (p0 : Int32) (p1 : Int32) (p2 : Int32) (v0h0 : Value) (v1h0 : Value) (v2h0 : Value) (v3h0 : Value) (v4h0 : Value) (v5h0 : Value) (v6h0 : Value) (v7h0 : Value) (v8h0 : Value) (v9h0 : Value) (v10h0 : Value) (v11h0 : Value) (v12h0 : Value) (v13h0 : Value) (v15h0 : Value) (v16h0 : Value) (v17h0 : Value) (v18h0 : Value) (v19h0 : Value) (v20h0 : Value) (v21h0 : Value) (v22h0 : Value) (v23h0 : Value) (v24h0 : Value) (v25h0 : Value) (v26h0 : Value) (v27h0 : Value) (v28h0 : Value) (v29h0 : Value) (v30h0 : Value) (v31h0 : Value) (v32h0 : Value) (v33h0 : Value) (v34h0 : Value) (v35h0 : Value) (v36h0 : Value) (v37h0 : Value) (v38h0 : Value) (v39h0 : Value) (v40h0 : Value) (v41h0 : Value) (v42h0 : Value) : cL l g yX11_holds cX11_holds 4 (some .long) 1 21 0 0 [.ref h0, .int p0, .int p1, .int p2] [(h0, .inr (11, [v0h0, v1h0, v2h0, v3h0, v4h0, v5h0, v6h0, v7h0, v8h0, v9h0, v10h0, v11h0, v12h0, v13h0, .int 0, v15h0, v16h0, v17h0, v18h0, v19h0, v20h0, v21h0, v22h0, v23h0, v24h0, v25h0, v26h0, v27h0, v28h0, v29h0, v30h0, v31h0, v32h0, v33h0, v34h0, v35h0, v36h0, v37h0, v38h0, v39h0, v40h0, v41h0, v42h0]))] (fun r w => r = (-1) ∧ w = []) := by
  refine cL.of (by decide) (Nat.le_of_ble_eq_true rfl) ?_
  intro p e s m args below meth c A X hr hi
  refine k_lveq [(0, .ref h0), (1, .int p0), (2, .int p1), (3, .int p2)] rfl ?_
  refine k_aload_n X dX11_holds_0 0 rfl ?_
  refine k_callVV (n := 0) (As := []) (st := []) X [(h0, .inr (11, [v0h0, v1h0, v2h0, v3h0, v4h0, v5h0, v6h0, v7h0, v8h0, v9h0, v10h0, v11h0, v12h0, v13h0, .int 0, v15h0, v16h0, v17h0, v18h0, v19h0, v20h0, v21h0, v22h0, v23h0, v24h0, v25h0, v26h0, v27h0, v28h0, v29h0, v30h0, v31h0, v32h0, v33h0, v34h0, v35h0, v36h0, v37h0, v38h0, v39h0, v40h0, v41h0, v42h0]))] [] [0] [] (r_good l g h0 v0h0 v1h0 v2h0 v3h0 v4h0 v5h0 v6h0 v7h0 v8h0 v9h0 v10h0 v11h0 v12h0 v13h0 (.int 0) v15h0 v16h0 v17h0 v18h0 v19h0 v20h0 v21h0 v22h0 v23h0 v24h0 v25h0 v26h0 v27h0 v28h0 v29h0 v30h0 v31h0 v32h0 v33h0 v34h0 v35h0 v36h0 v37h0 v38h0 v39h0 v40h0 v41h0 v42h0) dX11_holds_1 mw288 mw289 mw290 mw285 mw291 rfl 11 rfl rfl 0 _ rfl (by unfold yOk; decide) rfl (Nat.le_of_ble_eq_true rfl) (Nat.le_of_ble_eq_true rfl) (Nat.le_of_ble_eq_true rfl) (Nat.le_of_ble_eq_true rfl) (Nat.le_of_ble_eq_true rfl) rfl rfl (by decide) rfl (by decide) (by decide) ?_
  rintro w rfl
  refine k_ws [(h0, .inr (11, [.int 0, v1h0, v2h0, v3h0, v4h0, v5h0, v6h0, v7h0, v8h0, v9h0, v10h0, .int 0, v12h0, v13h0, .int 0, v15h0, v16h0, v17h0, v18h0, v19h0, v20h0, v21h0, v22h0, v23h0, v24h0, v25h0, v26h0, v27h0, v28h0, v29h0, v30h0, v31h0, v32h0, v33h0, v34h0, v35h0, v36h0, v37h0, v38h0, v39h0, v40h0, v41h0, v42h0]))] rfl ?_
  refine k_aload_n X dX11_holds_4 0 rfl ?_
  refine k_iload_n X dX11_holds_5 1 rfl ?_
  refine k_callVI (n := 1) (As := [.int p0]) (st := []) X [(h0, .inr (11, [.int 0, v1h0, v2h0, v3h0, v4h0, v5h0, v6h0, v7h0, v8h0, v9h0, v10h0, .int 0, v12h0, v13h0, .int 0, v15h0, v16h0, v17h0, v18h0, v19h0, v20h0, v21h0, v22h0, v23h0, v24h0, v25h0, v26h0, v27h0, v28h0, v29h0, v30h0, v31h0, v32h0, v33h0, v34h0, v35h0, v36h0, v37h0, v38h0, v39h0, v40h0, v41h0, v42h0]))] [] [0] [] (r_isWeak l g h0 p0 (.int 0) v1h0 v2h0 v3h0 v4h0 v5h0 v6h0 v7h0 v8h0 v9h0 v10h0 (.int 0) v12h0 v13h0 v15h0 v16h0 v17h0 v18h0 v19h0 v20h0 v21h0 v22h0 v23h0 v24h0 v25h0 v26h0 v27h0 v28h0 v29h0 v30h0 v31h0 v32h0 v33h0 v34h0 v35h0 v36h0 v37h0 v38h0 v39h0 v40h0 v41h0 v42h0) dX11_holds_6 mw319 mw320 mw321 mw285 mw322 rfl 11 rfl rfl 0 _ rfl (by unfold yOk; decide) rfl (Nat.le_of_ble_eq_true rfl) (Nat.le_of_ble_eq_true rfl) (Nat.le_of_ble_eq_true rfl) (Nat.le_of_ble_eq_true rfl) (Nat.le_of_ble_eq_true rfl) rfl rfl (by decide) rfl (by decide) (by decide) ?_
  rintro r w ⟨rfl, rfl⟩
  refine k_ws [(h0, .inr (11, [.int 0, v1h0, v2h0, v3h0, v4h0, v5h0, v6h0, v7h0, v8h0, v9h0, v10h0, .int 0, v12h0, v13h0, .int 0, v15h0, v16h0, v17h0, v18h0, v19h0, v20h0, v21h0, v22h0, v23h0, v24h0, v25h0, v26h0, v27h0, v28h0, v29h0, v30h0, v31h0, v32h0, v33h0, v34h0, v35h0, v36h0, v37h0, v38h0, v39h0, v40h0, v41h0, v42h0]))] rfl ?_
  refine k_if_eq 20 X dX11_holds_9 (by decide) (fun _ => ?_) (fun h_1 => absurd (by decide) h_1)
  refine k_aload_n X dX11_holds_20 0 rfl ?_
  refine k_iconst (v := 1) X dX11_holds_21 (by decide) ?_
  refine k_callVI (n := 1) (As := [.int 1]) (st := []) X [(h0, .inr (11, [.int 0, v1h0, v2h0, v3h0, v4h0, v5h0, v6h0, v7h0, v8h0, v9h0, v10h0, .int 0, v12h0, v13h0, .int 0, v15h0, v16h0, v17h0, v18h0, v19h0, v20h0, v21h0, v22h0, v23h0, v24h0, v25h0, v26h0, v27h0, v28h0, v29h0, v30h0, v31h0, v32h0, v33h0, v34h0, v35h0, v36h0, v37h0, v38h0, v39h0, v40h0, v41h0, v42h0]))] [] [0] [] (r_no l g h0 1 (.int 0) v1h0 v2h0 v3h0 v4h0 v5h0 v6h0 v7h0 v8h0 v9h0 v10h0 (.int 0) v12h0 v13h0 (.int 0) v15h0 v16h0 v17h0 v18h0 v19h0 v20h0 v21h0 v22h0 v23h0 v24h0 v25h0 v26h0 v27h0 v28h0 v29h0 v30h0 v31h0 v32h0 v33h0 v34h0 v35h0 v36h0 v37h0 v38h0 v39h0 v40h0 v41h0 v42h0) dX11_holds_22 mw296 mw297 mw298 mw285 mw299 rfl 11 rfl rfl 0 _ rfl (by unfold yOk; decide) rfl (Nat.le_of_ble_eq_true rfl) (Nat.le_of_ble_eq_true rfl) (Nat.le_of_ble_eq_true rfl) (Nat.le_of_ble_eq_true rfl) (Nat.le_of_ble_eq_true rfl) rfl rfl (by decide) rfl (by decide) (by decide) ?_
  rintro r w ⟨rfl, rfl⟩
  refine k_ws [] rfl ?_
  refine k_i2l X dX11_holds_25 ?_
  refine k_toL (-1) (by decide) ?_
  exact k_lret X hr dX11_holds_26 (Nat.le_of_ble_eq_true rfl) (Nat.le_of_ble_eq_true rfl) [] (by decide) rfl rfl ⟨rfl, rfl⟩

theorem dX11_pays_0 : decode cX11_pays 0 = .ok (.aload_n 0, 1) := by decide +kernel
theorem dX11_pays_1 : decode cX11_pays 1 = .ok (.invokevirtual 200, 3) := by decide +kernel
theorem dX11_pays_4 : decode cX11_pays 4 = .ok (.aload_n 0, 1) := by decide +kernel
theorem dX11_pays_5 : decode cX11_pays 5 = .ok (.iload_n 1, 1) := by decide +kernel
theorem dX11_pays_6 : decode cX11_pays 6 = .ok (.invokevirtual 412, 3) := by decide +kernel
theorem dX11_pays_9 : decode cX11_pays 9 = .ok (.ifCond .eq 11, 3) := by decide +kernel
theorem dX11_pays_20 : decode cX11_pays 20 = .ok (.aload_n 0, 1) := by decide +kernel
theorem dX11_pays_21 : decode cX11_pays 21 = .ok (.iconst 1, 1) := by decide +kernel
theorem dX11_pays_22 : decode cX11_pays 22 = .ok (.invokevirtual 203, 3) := by decide +kernel
theorem dX11_pays_25 : decode cX11_pays 25 = .ok (.ireturn, 1) := by decide +kernel
set_option maxHeartbeats 4000000 in
set_option maxRecDepth 100000 in
theorem r_pays (l : Launch) (g : Gx) (h0 : Nat) (p0 : Int32) (p1 : Int32) (v0h0 : Value) (v1h0 : Value) (v2h0 : Value) (v3h0 : Value) (v4h0 : Value) (v5h0 : Value) (v6h0 : Value) (v7h0 : Value) (v8h0 : Value) (v9h0 : Value) (v10h0 : Value) (v11h0 : Value) (v12h0 : Value) (v13h0 : Value) (v15h0 : Value) (v16h0 : Value) (v17h0 : Value) (v18h0 : Value) (v19h0 : Value) (v20h0 : Value) (v21h0 : Value) (v22h0 : Value) (v23h0 : Value) (v24h0 : Value) (v25h0 : Value) (v26h0 : Value) (v27h0 : Value) (v28h0 : Value) (v29h0 : Value) (v30h0 : Value) (v31h0 : Value) (v32h0 : Value) (v33h0 : Value) (v34h0 : Value) (v35h0 : Value) (v36h0 : Value) (v37h0 : Value) (v38h0 : Value) (v39h0 : Value) (v40h0 : Value) (v41h0 : Value) (v42h0 : Value) : cI l g yX11_pays cX11_pays 5 (some .int) 1 21 0 0 [.ref h0, .int p0, .int p1] [(h0, .inr (11, [v0h0, v1h0, v2h0, v3h0, v4h0, v5h0, v6h0, v7h0, v8h0, v9h0, v10h0, v11h0, v12h0, v13h0, .int 0, v15h0, v16h0, v17h0, v18h0, v19h0, v20h0, v21h0, v22h0, v23h0, v24h0, v25h0, v26h0, v27h0, v28h0, v29h0, v30h0, v31h0, v32h0, v33h0, v34h0, v35h0, v36h0, v37h0, v38h0, v39h0, v40h0, v41h0, v42h0]))] (fun r w => r = (-1) ∧ w = []) := by
  refine cI.of (by decide) (Nat.le_of_ble_eq_true rfl) ?_
  intro p e s m args below meth c A X hr hi
  refine k_lveq [(0, .ref h0), (1, .int p0), (2, .int p1)] rfl ?_
  refine k_aload_n X dX11_pays_0 0 rfl ?_
  refine k_callVV (n := 0) (As := []) (st := []) X [(h0, .inr (11, [v0h0, v1h0, v2h0, v3h0, v4h0, v5h0, v6h0, v7h0, v8h0, v9h0, v10h0, v11h0, v12h0, v13h0, .int 0, v15h0, v16h0, v17h0, v18h0, v19h0, v20h0, v21h0, v22h0, v23h0, v24h0, v25h0, v26h0, v27h0, v28h0, v29h0, v30h0, v31h0, v32h0, v33h0, v34h0, v35h0, v36h0, v37h0, v38h0, v39h0, v40h0, v41h0, v42h0]))] [] [0] [] (r_good l g h0 v0h0 v1h0 v2h0 v3h0 v4h0 v5h0 v6h0 v7h0 v8h0 v9h0 v10h0 v11h0 v12h0 v13h0 (.int 0) v15h0 v16h0 v17h0 v18h0 v19h0 v20h0 v21h0 v22h0 v23h0 v24h0 v25h0 v26h0 v27h0 v28h0 v29h0 v30h0 v31h0 v32h0 v33h0 v34h0 v35h0 v36h0 v37h0 v38h0 v39h0 v40h0 v41h0 v42h0) dX11_pays_1 mw288 mw289 mw290 mw285 mw291 rfl 11 rfl rfl 0 _ rfl (by unfold yOk; decide) rfl (Nat.le_of_ble_eq_true rfl) (Nat.le_of_ble_eq_true rfl) (Nat.le_of_ble_eq_true rfl) (Nat.le_of_ble_eq_true rfl) (Nat.le_of_ble_eq_true rfl) rfl rfl (by decide) rfl (by decide) (by decide) ?_
  rintro w rfl
  refine k_ws [(h0, .inr (11, [.int 0, v1h0, v2h0, v3h0, v4h0, v5h0, v6h0, v7h0, v8h0, v9h0, v10h0, .int 0, v12h0, v13h0, .int 0, v15h0, v16h0, v17h0, v18h0, v19h0, v20h0, v21h0, v22h0, v23h0, v24h0, v25h0, v26h0, v27h0, v28h0, v29h0, v30h0, v31h0, v32h0, v33h0, v34h0, v35h0, v36h0, v37h0, v38h0, v39h0, v40h0, v41h0, v42h0]))] rfl ?_
  refine k_aload_n X dX11_pays_4 0 rfl ?_
  refine k_iload_n X dX11_pays_5 1 rfl ?_
  refine k_callVI (n := 1) (As := [.int p0]) (st := []) X [(h0, .inr (11, [.int 0, v1h0, v2h0, v3h0, v4h0, v5h0, v6h0, v7h0, v8h0, v9h0, v10h0, .int 0, v12h0, v13h0, .int 0, v15h0, v16h0, v17h0, v18h0, v19h0, v20h0, v21h0, v22h0, v23h0, v24h0, v25h0, v26h0, v27h0, v28h0, v29h0, v30h0, v31h0, v32h0, v33h0, v34h0, v35h0, v36h0, v37h0, v38h0, v39h0, v40h0, v41h0, v42h0]))] [] [0] [] (r_isWeak l g h0 p0 (.int 0) v1h0 v2h0 v3h0 v4h0 v5h0 v6h0 v7h0 v8h0 v9h0 v10h0 (.int 0) v12h0 v13h0 v15h0 v16h0 v17h0 v18h0 v19h0 v20h0 v21h0 v22h0 v23h0 v24h0 v25h0 v26h0 v27h0 v28h0 v29h0 v30h0 v31h0 v32h0 v33h0 v34h0 v35h0 v36h0 v37h0 v38h0 v39h0 v40h0 v41h0 v42h0) dX11_pays_6 mw319 mw320 mw321 mw285 mw322 rfl 11 rfl rfl 0 _ rfl (by unfold yOk; decide) rfl (Nat.le_of_ble_eq_true rfl) (Nat.le_of_ble_eq_true rfl) (Nat.le_of_ble_eq_true rfl) (Nat.le_of_ble_eq_true rfl) (Nat.le_of_ble_eq_true rfl) rfl rfl (by decide) rfl (by decide) (by decide) ?_
  rintro r w ⟨rfl, rfl⟩
  refine k_ws [(h0, .inr (11, [.int 0, v1h0, v2h0, v3h0, v4h0, v5h0, v6h0, v7h0, v8h0, v9h0, v10h0, .int 0, v12h0, v13h0, .int 0, v15h0, v16h0, v17h0, v18h0, v19h0, v20h0, v21h0, v22h0, v23h0, v24h0, v25h0, v26h0, v27h0, v28h0, v29h0, v30h0, v31h0, v32h0, v33h0, v34h0, v35h0, v36h0, v37h0, v38h0, v39h0, v40h0, v41h0, v42h0]))] rfl ?_
  refine k_if_eq 20 X dX11_pays_9 (by decide) (fun _ => ?_) (fun h_1 => absurd (by decide) h_1)
  refine k_aload_n X dX11_pays_20 0 rfl ?_
  refine k_iconst (v := 1) X dX11_pays_21 (by decide) ?_
  refine k_callVI (n := 1) (As := [.int 1]) (st := []) X [(h0, .inr (11, [.int 0, v1h0, v2h0, v3h0, v4h0, v5h0, v6h0, v7h0, v8h0, v9h0, v10h0, .int 0, v12h0, v13h0, .int 0, v15h0, v16h0, v17h0, v18h0, v19h0, v20h0, v21h0, v22h0, v23h0, v24h0, v25h0, v26h0, v27h0, v28h0, v29h0, v30h0, v31h0, v32h0, v33h0, v34h0, v35h0, v36h0, v37h0, v38h0, v39h0, v40h0, v41h0, v42h0]))] [] [0] [] (r_no l g h0 1 (.int 0) v1h0 v2h0 v3h0 v4h0 v5h0 v6h0 v7h0 v8h0 v9h0 v10h0 (.int 0) v12h0 v13h0 (.int 0) v15h0 v16h0 v17h0 v18h0 v19h0 v20h0 v21h0 v22h0 v23h0 v24h0 v25h0 v26h0 v27h0 v28h0 v29h0 v30h0 v31h0 v32h0 v33h0 v34h0 v35h0 v36h0 v37h0 v38h0 v39h0 v40h0 v41h0 v42h0) dX11_pays_22 mw296 mw297 mw298 mw285 mw299 rfl 11 rfl rfl 0 _ rfl (by unfold yOk; decide) rfl (Nat.le_of_ble_eq_true rfl) (Nat.le_of_ble_eq_true rfl) (Nat.le_of_ble_eq_true rfl) (Nat.le_of_ble_eq_true rfl) (Nat.le_of_ble_eq_true rfl) rfl rfl (by decide) rfl (by decide) (by decide) ?_
  rintro r w ⟨rfl, rfl⟩
  refine k_ws [] rfl ?_
  exact k_iret X hr dX11_pays_25 (Nat.le_of_ble_eq_true rfl) (Nat.le_of_ble_eq_true rfl) [] (by decide) rfl rfl ⟨rfl, rfl⟩

theorem dX11_mend_0 : decode cX11_mend 0 = .ok (.aload_n 0, 1) := by decide +kernel
theorem dX11_mend_1 : decode cX11_mend 1 = .ok (.invokevirtual 200, 3) := by decide +kernel
theorem dX11_mend_4 : decode cX11_mend 4 = .ok (.aload_n 0, 1) := by decide +kernel
theorem dX11_mend_5 : decode cX11_mend 5 = .ok (.iload_n 1, 1) := by decide +kernel
theorem dX11_mend_6 : decode cX11_mend 6 = .ok (.invokevirtual 412, 3) := by decide +kernel
theorem dX11_mend_9 : decode cX11_mend 9 = .ok (.ifCond .ne 9, 3) := by decide +kernel
theorem dX11_mend_12 : decode cX11_mend 12 = .ok (.aload_n 0, 1) := by decide +kernel
theorem dX11_mend_13 : decode cX11_mend 13 = .ok (.iconst 1, 1) := by decide +kernel
theorem dX11_mend_14 : decode cX11_mend 14 = .ok (.invokevirtual 203, 3) := by decide +kernel
theorem dX11_mend_17 : decode cX11_mend 17 = .ok (.ireturn, 1) := by decide +kernel
set_option maxHeartbeats 4000000 in
set_option maxRecDepth 100000 in
theorem r_mend (l : Launch) (g : Gx) (h0 : Nat) (p0 : Int32) (v0h0 : Value) (v1h0 : Value) (v2h0 : Value) (v3h0 : Value) (v4h0 : Value) (v5h0 : Value) (v6h0 : Value) (v7h0 : Value) (v8h0 : Value) (v9h0 : Value) (v10h0 : Value) (v11h0 : Value) (v12h0 : Value) (v13h0 : Value) (v15h0 : Value) (v16h0 : Value) (v17h0 : Value) (v18h0 : Value) (v19h0 : Value) (v20h0 : Value) (v21h0 : Value) (v22h0 : Value) (v23h0 : Value) (v24h0 : Value) (v25h0 : Value) (v26h0 : Value) (v27h0 : Value) (v28h0 : Value) (v29h0 : Value) (v30h0 : Value) (v31h0 : Value) (v32h0 : Value) (v33h0 : Value) (v34h0 : Value) (v35h0 : Value) (v36h0 : Value) (v37h0 : Value) (v38h0 : Value) (v39h0 : Value) (v40h0 : Value) (v41h0 : Value) (v42h0 : Value) : cI l g yX11_mend cX11_mend 6 (some .int) 1 21 0 0 [.ref h0, .int p0] [(h0, .inr (11, [v0h0, v1h0, v2h0, v3h0, v4h0, v5h0, v6h0, v7h0, v8h0, v9h0, v10h0, v11h0, v12h0, v13h0, .int 0, v15h0, v16h0, v17h0, v18h0, v19h0, v20h0, v21h0, v22h0, v23h0, v24h0, v25h0, v26h0, v27h0, v28h0, v29h0, v30h0, v31h0, v32h0, v33h0, v34h0, v35h0, v36h0, v37h0, v38h0, v39h0, v40h0, v41h0, v42h0]))] (fun r w => r = (-1) ∧ w = []) := by
  refine cI.of (by decide) (Nat.le_of_ble_eq_true rfl) ?_
  intro p e s m args below meth c A X hr hi
  refine k_lveq [(0, .ref h0), (1, .int p0)] rfl ?_
  refine k_aload_n X dX11_mend_0 0 rfl ?_
  refine k_callVV (n := 0) (As := []) (st := []) X [(h0, .inr (11, [v0h0, v1h0, v2h0, v3h0, v4h0, v5h0, v6h0, v7h0, v8h0, v9h0, v10h0, v11h0, v12h0, v13h0, .int 0, v15h0, v16h0, v17h0, v18h0, v19h0, v20h0, v21h0, v22h0, v23h0, v24h0, v25h0, v26h0, v27h0, v28h0, v29h0, v30h0, v31h0, v32h0, v33h0, v34h0, v35h0, v36h0, v37h0, v38h0, v39h0, v40h0, v41h0, v42h0]))] [] [0] [] (r_good l g h0 v0h0 v1h0 v2h0 v3h0 v4h0 v5h0 v6h0 v7h0 v8h0 v9h0 v10h0 v11h0 v12h0 v13h0 (.int 0) v15h0 v16h0 v17h0 v18h0 v19h0 v20h0 v21h0 v22h0 v23h0 v24h0 v25h0 v26h0 v27h0 v28h0 v29h0 v30h0 v31h0 v32h0 v33h0 v34h0 v35h0 v36h0 v37h0 v38h0 v39h0 v40h0 v41h0 v42h0) dX11_mend_1 mw288 mw289 mw290 mw285 mw291 rfl 11 rfl rfl 0 _ rfl (by unfold yOk; decide) rfl (Nat.le_of_ble_eq_true rfl) (Nat.le_of_ble_eq_true rfl) (Nat.le_of_ble_eq_true rfl) (Nat.le_of_ble_eq_true rfl) (Nat.le_of_ble_eq_true rfl) rfl rfl (by decide) rfl (by decide) (by decide) ?_
  rintro w rfl
  refine k_ws [(h0, .inr (11, [.int 0, v1h0, v2h0, v3h0, v4h0, v5h0, v6h0, v7h0, v8h0, v9h0, v10h0, .int 0, v12h0, v13h0, .int 0, v15h0, v16h0, v17h0, v18h0, v19h0, v20h0, v21h0, v22h0, v23h0, v24h0, v25h0, v26h0, v27h0, v28h0, v29h0, v30h0, v31h0, v32h0, v33h0, v34h0, v35h0, v36h0, v37h0, v38h0, v39h0, v40h0, v41h0, v42h0]))] rfl ?_
  refine k_aload_n X dX11_mend_4 0 rfl ?_
  refine k_iload_n X dX11_mend_5 1 rfl ?_
  refine k_callVI (n := 1) (As := [.int p0]) (st := []) X [(h0, .inr (11, [.int 0, v1h0, v2h0, v3h0, v4h0, v5h0, v6h0, v7h0, v8h0, v9h0, v10h0, .int 0, v12h0, v13h0, .int 0, v15h0, v16h0, v17h0, v18h0, v19h0, v20h0, v21h0, v22h0, v23h0, v24h0, v25h0, v26h0, v27h0, v28h0, v29h0, v30h0, v31h0, v32h0, v33h0, v34h0, v35h0, v36h0, v37h0, v38h0, v39h0, v40h0, v41h0, v42h0]))] [] [0] [] (r_isWeak l g h0 p0 (.int 0) v1h0 v2h0 v3h0 v4h0 v5h0 v6h0 v7h0 v8h0 v9h0 v10h0 (.int 0) v12h0 v13h0 v15h0 v16h0 v17h0 v18h0 v19h0 v20h0 v21h0 v22h0 v23h0 v24h0 v25h0 v26h0 v27h0 v28h0 v29h0 v30h0 v31h0 v32h0 v33h0 v34h0 v35h0 v36h0 v37h0 v38h0 v39h0 v40h0 v41h0 v42h0) dX11_mend_6 mw319 mw320 mw321 mw285 mw322 rfl 11 rfl rfl 0 _ rfl (by unfold yOk; decide) rfl (Nat.le_of_ble_eq_true rfl) (Nat.le_of_ble_eq_true rfl) (Nat.le_of_ble_eq_true rfl) (Nat.le_of_ble_eq_true rfl) (Nat.le_of_ble_eq_true rfl) rfl rfl (by decide) rfl (by decide) (by decide) ?_
  rintro r w ⟨rfl, rfl⟩
  refine k_ws [(h0, .inr (11, [.int 0, v1h0, v2h0, v3h0, v4h0, v5h0, v6h0, v7h0, v8h0, v9h0, v10h0, .int 0, v12h0, v13h0, .int 0, v15h0, v16h0, v17h0, v18h0, v19h0, v20h0, v21h0, v22h0, v23h0, v24h0, v25h0, v26h0, v27h0, v28h0, v29h0, v30h0, v31h0, v32h0, v33h0, v34h0, v35h0, v36h0, v37h0, v38h0, v39h0, v40h0, v41h0, v42h0]))] rfl ?_
  refine k_if_ne 18 X dX11_mend_9 (by decide) (fun h_1 => absurd h_1 (by decide)) (fun _ => ?_)
  refine k_aload_n X dX11_mend_12 0 rfl ?_
  refine k_iconst (v := 1) X dX11_mend_13 (by decide) ?_
  refine k_callVI (n := 1) (As := [.int 1]) (st := []) X [(h0, .inr (11, [.int 0, v1h0, v2h0, v3h0, v4h0, v5h0, v6h0, v7h0, v8h0, v9h0, v10h0, .int 0, v12h0, v13h0, .int 0, v15h0, v16h0, v17h0, v18h0, v19h0, v20h0, v21h0, v22h0, v23h0, v24h0, v25h0, v26h0, v27h0, v28h0, v29h0, v30h0, v31h0, v32h0, v33h0, v34h0, v35h0, v36h0, v37h0, v38h0, v39h0, v40h0, v41h0, v42h0]))] [] [0] [] (r_no l g h0 1 (.int 0) v1h0 v2h0 v3h0 v4h0 v5h0 v6h0 v7h0 v8h0 v9h0 v10h0 (.int 0) v12h0 v13h0 (.int 0) v15h0 v16h0 v17h0 v18h0 v19h0 v20h0 v21h0 v22h0 v23h0 v24h0 v25h0 v26h0 v27h0 v28h0 v29h0 v30h0 v31h0 v32h0 v33h0 v34h0 v35h0 v36h0 v37h0 v38h0 v39h0 v40h0 v41h0 v42h0) dX11_mend_14 mw296 mw297 mw298 mw285 mw299 rfl 11 rfl rfl 0 _ rfl (by unfold yOk; decide) rfl (Nat.le_of_ble_eq_true rfl) (Nat.le_of_ble_eq_true rfl) (Nat.le_of_ble_eq_true rfl) (Nat.le_of_ble_eq_true rfl) (Nat.le_of_ble_eq_true rfl) rfl rfl (by decide) rfl (by decide) (by decide) ?_
  rintro r w ⟨rfl, rfl⟩
  refine k_ws [] rfl ?_
  exact k_iret X hr dX11_mend_17 (Nat.le_of_ble_eq_true rfl) (Nat.le_of_ble_eq_true rfl) [] (by decide) rfl rfl ⟨rfl, rfl⟩

theorem dX11_threads_0 : decode cX11_threads 0 = .ok (.aload_n 0, 1) := by decide +kernel
theorem dX11_threads_1 : decode cX11_threads 1 = .ok (.invokevirtual 200, 3) := by decide +kernel
theorem dX11_threads_4 : decode cX11_threads 4 = .ok (.aload_n 0, 1) := by decide +kernel
theorem dX11_threads_5 : decode cX11_threads 5 = .ok (.iload_n 1, 1) := by decide +kernel
theorem dX11_threads_6 : decode cX11_threads 6 = .ok (.invokevirtual 345, 3) := by decide +kernel
theorem dX11_threads_9 : decode cX11_threads 9 = .ok (.ifCond .ne 9, 3) := by decide +kernel
theorem dX11_threads_12 : decode cX11_threads 12 = .ok (.aload_n 0, 1) := by decide +kernel
theorem dX11_threads_13 : decode cX11_threads 13 = .ok (.iconst 1, 1) := by decide +kernel
theorem dX11_threads_14 : decode cX11_threads 14 = .ok (.invokevirtual 473, 3) := by decide +kernel
theorem dX11_threads_17 : decode cX11_threads 17 = .ok (.ireturn, 1) := by decide +kernel
set_option maxHeartbeats 4000000 in
set_option maxRecDepth 100000 in
theorem r_threads (l : Launch) (g : Gx) (h0 : Nat) (p0 : Int32) (p1 : Int32) (v0h0 : Value) (v1h0 : Value) (v2h0 : Value) (v3h0 : Value) (v4h0 : Value) (v5h0 : Value) (v6h0 : Value) (v7h0 : Value) (v8h0 : Value) (v9h0 : Value) (v10h0 : Value) (v11h0 : Value) (v12h0 : Value) (v13h0 : Value) (v15h0 : Value) (v16h0 : Value) (v17h0 : Value) (v18h0 : Value) (v19h0 : Value) (v20h0 : Value) (v21h0 : Value) (v22h0 : Value) (v23h0 : Value) (v24h0 : Value) (v25h0 : Value) (v26h0 : Value) (v27h0 : Value) (v28h0 : Value) (v29h0 : Value) (v30h0 : Value) (v31h0 : Value) (v32h0 : Value) (v33h0 : Value) (v34h0 : Value) (v35h0 : Value) (v36h0 : Value) (v37h0 : Value) (v38h0 : Value) (v39h0 : Value) (v40h0 : Value) (v41h0 : Value) (v42h0 : Value) : cI l g yX11_threads cX11_threads 3 (some .boolean) 1 21 0 0 [.ref h0, .int p0, .int p1] [(h0, .inr (11, [v0h0, v1h0, v2h0, v3h0, v4h0, v5h0, v6h0, v7h0, v8h0, v9h0, v10h0, v11h0, v12h0, v13h0, .int 0, v15h0, v16h0, v17h0, v18h0, v19h0, v20h0, v21h0, v22h0, v23h0, v24h0, v25h0, v26h0, v27h0, v28h0, v29h0, v30h0, v31h0, v32h0, v33h0, v34h0, v35h0, v36h0, v37h0, v38h0, v39h0, v40h0, v41h0, v42h0]))] (fun r w => r = 0 ∧ w = []) := by
  refine cI.of (by decide) (Nat.le_of_ble_eq_true rfl) ?_
  intro p e s m args below meth c A X hr hi
  refine k_lveq [(0, .ref h0), (1, .int p0), (2, .int p1)] rfl ?_
  refine k_aload_n X dX11_threads_0 0 rfl ?_
  refine k_callVV (n := 0) (As := []) (st := []) X [(h0, .inr (11, [v0h0, v1h0, v2h0, v3h0, v4h0, v5h0, v6h0, v7h0, v8h0, v9h0, v10h0, v11h0, v12h0, v13h0, .int 0, v15h0, v16h0, v17h0, v18h0, v19h0, v20h0, v21h0, v22h0, v23h0, v24h0, v25h0, v26h0, v27h0, v28h0, v29h0, v30h0, v31h0, v32h0, v33h0, v34h0, v35h0, v36h0, v37h0, v38h0, v39h0, v40h0, v41h0, v42h0]))] [] [0] [] (r_good l g h0 v0h0 v1h0 v2h0 v3h0 v4h0 v5h0 v6h0 v7h0 v8h0 v9h0 v10h0 v11h0 v12h0 v13h0 (.int 0) v15h0 v16h0 v17h0 v18h0 v19h0 v20h0 v21h0 v22h0 v23h0 v24h0 v25h0 v26h0 v27h0 v28h0 v29h0 v30h0 v31h0 v32h0 v33h0 v34h0 v35h0 v36h0 v37h0 v38h0 v39h0 v40h0 v41h0 v42h0) dX11_threads_1 mw288 mw289 mw290 mw285 mw291 rfl 11 rfl rfl 0 _ rfl (by unfold yOk; decide) rfl (Nat.le_of_ble_eq_true rfl) (Nat.le_of_ble_eq_true rfl) (Nat.le_of_ble_eq_true rfl) (Nat.le_of_ble_eq_true rfl) (Nat.le_of_ble_eq_true rfl) rfl rfl (by decide) rfl (by decide) (by decide) ?_
  rintro w rfl
  refine k_ws [(h0, .inr (11, [.int 0, v1h0, v2h0, v3h0, v4h0, v5h0, v6h0, v7h0, v8h0, v9h0, v10h0, .int 0, v12h0, v13h0, .int 0, v15h0, v16h0, v17h0, v18h0, v19h0, v20h0, v21h0, v22h0, v23h0, v24h0, v25h0, v26h0, v27h0, v28h0, v29h0, v30h0, v31h0, v32h0, v33h0, v34h0, v35h0, v36h0, v37h0, v38h0, v39h0, v40h0, v41h0, v42h0]))] rfl ?_
  refine k_aload_n X dX11_threads_4 0 rfl ?_
  refine k_iload_n X dX11_threads_5 1 rfl ?_
  refine k_callVI (n := 1) (As := [.int p0]) (st := []) X [(h0, .inr (11, [.int 0, v1h0, v2h0, v3h0, v4h0, v5h0, v6h0, v7h0, v8h0, v9h0, v10h0, .int 0, v12h0, v13h0, .int 0, v15h0, v16h0, v17h0, v18h0, v19h0, v20h0, v21h0, v22h0, v23h0, v24h0, v25h0, v26h0, v27h0, v28h0, v29h0, v30h0, v31h0, v32h0, v33h0, v34h0, v35h0, v36h0, v37h0, v38h0, v39h0, v40h0, v41h0, v42h0]))] [] [0] [] (r_isPlace l g h0 p0 (.int 0) v1h0 v2h0 v3h0 v4h0 v5h0 v6h0 v7h0 v8h0 v9h0 v10h0 (.int 0) v12h0 v13h0 v15h0 v16h0 v17h0 v18h0 v19h0 v20h0 v21h0 v22h0 v23h0 v24h0 v25h0 v26h0 v27h0 v28h0 v29h0 v30h0 v31h0 v32h0 v33h0 v34h0 v35h0 v36h0 v37h0 v38h0 v39h0 v40h0 v41h0 v42h0) dX11_threads_6 mw300 mw301 mw302 mw285 mw303 rfl 11 rfl rfl 0 _ rfl (by unfold yOk; decide) rfl (Nat.le_of_ble_eq_true rfl) (Nat.le_of_ble_eq_true rfl) (Nat.le_of_ble_eq_true rfl) (Nat.le_of_ble_eq_true rfl) (Nat.le_of_ble_eq_true rfl) rfl rfl (by decide) rfl (by decide) (by decide) ?_
  rintro r w ⟨rfl, rfl⟩
  refine k_ws [(h0, .inr (11, [.int 0, v1h0, v2h0, v3h0, v4h0, v5h0, v6h0, v7h0, v8h0, v9h0, v10h0, .int 0, v12h0, v13h0, .int 0, v15h0, v16h0, v17h0, v18h0, v19h0, v20h0, v21h0, v22h0, v23h0, v24h0, v25h0, v26h0, v27h0, v28h0, v29h0, v30h0, v31h0, v32h0, v33h0, v34h0, v35h0, v36h0, v37h0, v38h0, v39h0, v40h0, v41h0, v42h0]))] rfl ?_
  refine k_if_ne 18 X dX11_threads_9 (by decide) (fun h_1 => absurd h_1 (by decide)) (fun _ => ?_)
  refine k_aload_n X dX11_threads_12 0 rfl ?_
  refine k_iconst (v := 1) X dX11_threads_13 (by decide) ?_
  refine k_callVI (n := 1) (As := [.int 1]) (st := []) X [(h0, .inr (11, [.int 0, v1h0, v2h0, v3h0, v4h0, v5h0, v6h0, v7h0, v8h0, v9h0, v10h0, .int 0, v12h0, v13h0, .int 0, v15h0, v16h0, v17h0, v18h0, v19h0, v20h0, v21h0, v22h0, v23h0, v24h0, v25h0, v26h0, v27h0, v28h0, v29h0, v30h0, v31h0, v32h0, v33h0, v34h0, v35h0, v36h0, v37h0, v38h0, v39h0, v40h0, v41h0, v42h0]))] [] [0] [] (r_isNot l g h0 1 (.int 0) v1h0 v2h0 v3h0 v4h0 v5h0 v6h0 v7h0 v8h0 v9h0 v10h0 (.int 0) v12h0 v13h0 (.int 0) v15h0 v16h0 v17h0 v18h0 v19h0 v20h0 v21h0 v22h0 v23h0 v24h0 v25h0 v26h0 v27h0 v28h0 v29h0 v30h0 v31h0 v32h0 v33h0 v34h0 v35h0 v36h0 v37h0 v38h0 v39h0 v40h0 v41h0 v42h0) dX11_threads_14 mw323 mw324 mw325 mw285 mw326 rfl 11 rfl rfl 0 _ rfl (by unfold yOk; decide) rfl (Nat.le_of_ble_eq_true rfl) (Nat.le_of_ble_eq_true rfl) (Nat.le_of_ble_eq_true rfl) (Nat.le_of_ble_eq_true rfl) (Nat.le_of_ble_eq_true rfl) rfl rfl (by decide) rfl (by decide) (by decide) ?_
  rintro r w ⟨rfl, rfl⟩
  refine k_ws [] rfl ?_
  exact k_zret X hr rfl dX11_threads_17 (Nat.le_of_ble_eq_true rfl) (Nat.le_of_ble_eq_true rfl) [] (by decide) rfl rfl ⟨rfl, rfl⟩

theorem dX11_trim_0 : decode cX11_trim 0 = .ok (.aload_n 0, 1) := by decide +kernel
theorem dX11_trim_1 : decode cX11_trim 1 = .ok (.invokevirtual 200, 3) := by decide +kernel
theorem dX11_trim_4 : decode cX11_trim 4 = .ok (.aload_n 0, 1) := by decide +kernel
theorem dX11_trim_5 : decode cX11_trim 5 = .ok (.iload_n 1, 1) := by decide +kernel
theorem dX11_trim_6 : decode cX11_trim 6 = .ok (.invokevirtual 345, 3) := by decide +kernel
theorem dX11_trim_9 : decode cX11_trim 9 = .ok (.ifCond .ne 9, 3) := by decide +kernel
theorem dX11_trim_12 : decode cX11_trim 12 = .ok (.aload_n 0, 1) := by decide +kernel
theorem dX11_trim_13 : decode cX11_trim 13 = .ok (.iconst 1, 1) := by decide +kernel
theorem dX11_trim_14 : decode cX11_trim 14 = .ok (.invokevirtual 473, 3) := by decide +kernel
theorem dX11_trim_17 : decode cX11_trim 17 = .ok (.ireturn, 1) := by decide +kernel
set_option maxHeartbeats 4000000 in
set_option maxRecDepth 100000 in
theorem r_trim (l : Launch) (g : Gx) (h0 : Nat) (p0 : Int32) (p1 : Int32) (v0h0 : Value) (v1h0 : Value) (v2h0 : Value) (v3h0 : Value) (v4h0 : Value) (v5h0 : Value) (v6h0 : Value) (v7h0 : Value) (v8h0 : Value) (v9h0 : Value) (v10h0 : Value) (v11h0 : Value) (v12h0 : Value) (v13h0 : Value) (v15h0 : Value) (v16h0 : Value) (v17h0 : Value) (v18h0 : Value) (v19h0 : Value) (v20h0 : Value) (v21h0 : Value) (v22h0 : Value) (v23h0 : Value) (v24h0 : Value) (v25h0 : Value) (v26h0 : Value) (v27h0 : Value) (v28h0 : Value) (v29h0 : Value) (v30h0 : Value) (v31h0 : Value) (v32h0 : Value) (v33h0 : Value) (v34h0 : Value) (v35h0 : Value) (v36h0 : Value) (v37h0 : Value) (v38h0 : Value) (v39h0 : Value) (v40h0 : Value) (v41h0 : Value) (v42h0 : Value) : cI l g yX11_trim cX11_trim 3 (some .boolean) 1 21 0 0 [.ref h0, .int p0, .int p1] [(h0, .inr (11, [v0h0, v1h0, v2h0, v3h0, v4h0, v5h0, v6h0, v7h0, v8h0, v9h0, v10h0, v11h0, v12h0, v13h0, .int 0, v15h0, v16h0, v17h0, v18h0, v19h0, v20h0, v21h0, v22h0, v23h0, v24h0, v25h0, v26h0, v27h0, v28h0, v29h0, v30h0, v31h0, v32h0, v33h0, v34h0, v35h0, v36h0, v37h0, v38h0, v39h0, v40h0, v41h0, v42h0]))] (fun r w => r = 0 ∧ w = []) := by
  refine cI.of (by decide) (Nat.le_of_ble_eq_true rfl) ?_
  intro p e s m args below meth c A X hr hi
  refine k_lveq [(0, .ref h0), (1, .int p0), (2, .int p1)] rfl ?_
  refine k_aload_n X dX11_trim_0 0 rfl ?_
  refine k_callVV (n := 0) (As := []) (st := []) X [(h0, .inr (11, [v0h0, v1h0, v2h0, v3h0, v4h0, v5h0, v6h0, v7h0, v8h0, v9h0, v10h0, v11h0, v12h0, v13h0, .int 0, v15h0, v16h0, v17h0, v18h0, v19h0, v20h0, v21h0, v22h0, v23h0, v24h0, v25h0, v26h0, v27h0, v28h0, v29h0, v30h0, v31h0, v32h0, v33h0, v34h0, v35h0, v36h0, v37h0, v38h0, v39h0, v40h0, v41h0, v42h0]))] [] [0] [] (r_good l g h0 v0h0 v1h0 v2h0 v3h0 v4h0 v5h0 v6h0 v7h0 v8h0 v9h0 v10h0 v11h0 v12h0 v13h0 (.int 0) v15h0 v16h0 v17h0 v18h0 v19h0 v20h0 v21h0 v22h0 v23h0 v24h0 v25h0 v26h0 v27h0 v28h0 v29h0 v30h0 v31h0 v32h0 v33h0 v34h0 v35h0 v36h0 v37h0 v38h0 v39h0 v40h0 v41h0 v42h0) dX11_trim_1 mw288 mw289 mw290 mw285 mw291 rfl 11 rfl rfl 0 _ rfl (by unfold yOk; decide) rfl (Nat.le_of_ble_eq_true rfl) (Nat.le_of_ble_eq_true rfl) (Nat.le_of_ble_eq_true rfl) (Nat.le_of_ble_eq_true rfl) (Nat.le_of_ble_eq_true rfl) rfl rfl (by decide) rfl (by decide) (by decide) ?_
  rintro w rfl
  refine k_ws [(h0, .inr (11, [.int 0, v1h0, v2h0, v3h0, v4h0, v5h0, v6h0, v7h0, v8h0, v9h0, v10h0, .int 0, v12h0, v13h0, .int 0, v15h0, v16h0, v17h0, v18h0, v19h0, v20h0, v21h0, v22h0, v23h0, v24h0, v25h0, v26h0, v27h0, v28h0, v29h0, v30h0, v31h0, v32h0, v33h0, v34h0, v35h0, v36h0, v37h0, v38h0, v39h0, v40h0, v41h0, v42h0]))] rfl ?_
  refine k_aload_n X dX11_trim_4 0 rfl ?_
  refine k_iload_n X dX11_trim_5 1 rfl ?_
  refine k_callVI (n := 1) (As := [.int p0]) (st := []) X [(h0, .inr (11, [.int 0, v1h0, v2h0, v3h0, v4h0, v5h0, v6h0, v7h0, v8h0, v9h0, v10h0, .int 0, v12h0, v13h0, .int 0, v15h0, v16h0, v17h0, v18h0, v19h0, v20h0, v21h0, v22h0, v23h0, v24h0, v25h0, v26h0, v27h0, v28h0, v29h0, v30h0, v31h0, v32h0, v33h0, v34h0, v35h0, v36h0, v37h0, v38h0, v39h0, v40h0, v41h0, v42h0]))] [] [0] [] (r_isPlace l g h0 p0 (.int 0) v1h0 v2h0 v3h0 v4h0 v5h0 v6h0 v7h0 v8h0 v9h0 v10h0 (.int 0) v12h0 v13h0 v15h0 v16h0 v17h0 v18h0 v19h0 v20h0 v21h0 v22h0 v23h0 v24h0 v25h0 v26h0 v27h0 v28h0 v29h0 v30h0 v31h0 v32h0 v33h0 v34h0 v35h0 v36h0 v37h0 v38h0 v39h0 v40h0 v41h0 v42h0) dX11_trim_6 mw300 mw301 mw302 mw285 mw303 rfl 11 rfl rfl 0 _ rfl (by unfold yOk; decide) rfl (Nat.le_of_ble_eq_true rfl) (Nat.le_of_ble_eq_true rfl) (Nat.le_of_ble_eq_true rfl) (Nat.le_of_ble_eq_true rfl) (Nat.le_of_ble_eq_true rfl) rfl rfl (by decide) rfl (by decide) (by decide) ?_
  rintro r w ⟨rfl, rfl⟩
  refine k_ws [(h0, .inr (11, [.int 0, v1h0, v2h0, v3h0, v4h0, v5h0, v6h0, v7h0, v8h0, v9h0, v10h0, .int 0, v12h0, v13h0, .int 0, v15h0, v16h0, v17h0, v18h0, v19h0, v20h0, v21h0, v22h0, v23h0, v24h0, v25h0, v26h0, v27h0, v28h0, v29h0, v30h0, v31h0, v32h0, v33h0, v34h0, v35h0, v36h0, v37h0, v38h0, v39h0, v40h0, v41h0, v42h0]))] rfl ?_
  refine k_if_ne 18 X dX11_trim_9 (by decide) (fun h_1 => absurd h_1 (by decide)) (fun _ => ?_)
  refine k_aload_n X dX11_trim_12 0 rfl ?_
  refine k_iconst (v := 1) X dX11_trim_13 (by decide) ?_
  refine k_callVI (n := 1) (As := [.int 1]) (st := []) X [(h0, .inr (11, [.int 0, v1h0, v2h0, v3h0, v4h0, v5h0, v6h0, v7h0, v8h0, v9h0, v10h0, .int 0, v12h0, v13h0, .int 0, v15h0, v16h0, v17h0, v18h0, v19h0, v20h0, v21h0, v22h0, v23h0, v24h0, v25h0, v26h0, v27h0, v28h0, v29h0, v30h0, v31h0, v32h0, v33h0, v34h0, v35h0, v36h0, v37h0, v38h0, v39h0, v40h0, v41h0, v42h0]))] [] [0] [] (r_isNot l g h0 1 (.int 0) v1h0 v2h0 v3h0 v4h0 v5h0 v6h0 v7h0 v8h0 v9h0 v10h0 (.int 0) v12h0 v13h0 (.int 0) v15h0 v16h0 v17h0 v18h0 v19h0 v20h0 v21h0 v22h0 v23h0 v24h0 v25h0 v26h0 v27h0 v28h0 v29h0 v30h0 v31h0 v32h0 v33h0 v34h0 v35h0 v36h0 v37h0 v38h0 v39h0 v40h0 v41h0 v42h0) dX11_trim_14 mw323 mw324 mw325 mw285 mw326 rfl 11 rfl rfl 0 _ rfl (by unfold yOk; decide) rfl (Nat.le_of_ble_eq_true rfl) (Nat.le_of_ble_eq_true rfl) (Nat.le_of_ble_eq_true rfl) (Nat.le_of_ble_eq_true rfl) (Nat.le_of_ble_eq_true rfl) rfl rfl (by decide) rfl (by decide) (by decide) ?_
  rintro r w ⟨rfl, rfl⟩
  refine k_ws [] rfl ?_
  exact k_zret X hr rfl dX11_trim_17 (Nat.le_of_ble_eq_true rfl) (Nat.le_of_ble_eq_true rfl) [] (by decide) rfl rfl ⟨rfl, rfl⟩

theorem dX11_undo_0 : decode cX11_undo 0 = .ok (.aload_n 0, 1) := by decide +kernel
theorem dX11_undo_1 : decode cX11_undo 1 = .ok (.invokevirtual 200, 3) := by decide +kernel
theorem dX11_undo_4 : decode cX11_undo 4 = .ok (.aload_n 0, 1) := by decide +kernel
theorem dX11_undo_5 : decode cX11_undo 5 = .ok (.getfield 216, 3) := by decide +kernel
theorem dX11_undo_8 : decode cX11_undo 8 = .ok (.ifCond .ne 10, 3) := by decide +kernel
theorem dX11_undo_11 : decode cX11_undo 11 = .ok (.aload_n 0, 1) := by decide +kernel
theorem dX11_undo_12 : decode cX11_undo 12 = .ok (.bipush 6, 2) := by decide +kernel
theorem dX11_undo_14 : decode cX11_undo 14 = .ok (.invokevirtual 473, 3) := by decide +kernel
theorem dX11_undo_17 : decode cX11_undo 17 = .ok (.ireturn, 1) := by decide +kernel
set_option maxHeartbeats 4000000 in
set_option maxRecDepth 100000 in
theorem r_undo (l : Launch) (g : Gx) (h0 : Nat) (v0h0 : Value) (v1h0 : Value) (v2h0 : Value) (v3h0 : Value) (v4h0 : Value) (v5h0 : Value) (v6h0 : Value) (v7h0 : Value) (v8h0 : Value) (v9h0 : Value) (v10h0 : Value) (v11h0 : Value) (v12h0 : Value) (v13h0 : Value) (v14h0 : Value) (v15h0 : Value) (v16h0 : Value) (v17h0 : Value) (v18h0 : Value) (v19h0 : Value) (v21h0 : Value) (v22h0 : Value) (v23h0 : Value) (v24h0 : Value) (v25h0 : Value) (v26h0 : Value) (v27h0 : Value) (v28h0 : Value) (v29h0 : Value) (v30h0 : Value) (v31h0 : Value) (v32h0 : Value) (v33h0 : Value) (v34h0 : Value) (v35h0 : Value) (v36h0 : Value) (v37h0 : Value) (v38h0 : Value) (v39h0 : Value) (v40h0 : Value) (v41h0 : Value) (v42h0 : Value) : cI l g yX11_undo cX11_undo 1 (some .boolean) 1 21 0 0 [.ref h0] [(h0, .inr (11, [v0h0, v1h0, v2h0, v3h0, v4h0, v5h0, v6h0, v7h0, v8h0, v9h0, v10h0, v11h0, v12h0, v13h0, v14h0, v15h0, v16h0, v17h0, v18h0, v19h0, .int 0, v21h0, v22h0, v23h0, v24h0, v25h0, v26h0, v27h0, v28h0, v29h0, v30h0, v31h0, v32h0, v33h0, v34h0, v35h0, v36h0, v37h0, v38h0, v39h0, v40h0, v41h0, v42h0]))] (fun r w => r = 0 ∧ w = []) := by
  refine cI.of (by decide) (Nat.le_of_ble_eq_true rfl) ?_
  intro p e s m args below meth c A X hr hi
  refine k_lveq [(0, .ref h0)] rfl ?_
  refine k_aload_n X dX11_undo_0 0 rfl ?_
  refine k_callVV (n := 0) (As := []) (st := []) X [(h0, .inr (11, [v0h0, v1h0, v2h0, v3h0, v4h0, v5h0, v6h0, v7h0, v8h0, v9h0, v10h0, v11h0, v12h0, v13h0, v14h0, v15h0, v16h0, v17h0, v18h0, v19h0, .int 0, v21h0, v22h0, v23h0, v24h0, v25h0, v26h0, v27h0, v28h0, v29h0, v30h0, v31h0, v32h0, v33h0, v34h0, v35h0, v36h0, v37h0, v38h0, v39h0, v40h0, v41h0, v42h0]))] [] [0] [] (r_good l g h0 v0h0 v1h0 v2h0 v3h0 v4h0 v5h0 v6h0 v7h0 v8h0 v9h0 v10h0 v11h0 v12h0 v13h0 v14h0 v15h0 v16h0 v17h0 v18h0 v19h0 (.int 0) v21h0 v22h0 v23h0 v24h0 v25h0 v26h0 v27h0 v28h0 v29h0 v30h0 v31h0 v32h0 v33h0 v34h0 v35h0 v36h0 v37h0 v38h0 v39h0 v40h0 v41h0 v42h0) dX11_undo_1 mw288 mw289 mw290 mw285 mw291 rfl 11 rfl rfl 0 _ rfl (by unfold yOk; decide) rfl (Nat.le_of_ble_eq_true rfl) (Nat.le_of_ble_eq_true rfl) (Nat.le_of_ble_eq_true rfl) (Nat.le_of_ble_eq_true rfl) (Nat.le_of_ble_eq_true rfl) rfl rfl (by decide) rfl (by decide) (by decide) ?_
  rintro w rfl
  refine k_ws [(h0, .inr (11, [.int 0, v1h0, v2h0, v3h0, v4h0, v5h0, v6h0, v7h0, v8h0, v9h0, v10h0, .int 0, v12h0, v13h0, v14h0, v15h0, v16h0, v17h0, v18h0, v19h0, .int 0, v21h0, v22h0, v23h0, v24h0, v25h0, v26h0, v27h0, v28h0, v29h0, v30h0, v31h0, v32h0, v33h0, v34h0, v35h0, v36h0, v37h0, v38h0, v39h0, v40h0, v41h0, v42h0]))] rfl ?_
  refine k_aload_n X dX11_undo_4 0 rfl ?_
  refine k_get (ci := 11) X inlX11 rfl 20 (by decide) dX11_undo_5 mw327 0 rfl rfl ?_
  refine k_if_ne 18 X dX11_undo_8 (by decide) (fun h_1 => absurd h_1 (by decide)) (fun _ => ?_)
  refine k_aload_n X dX11_undo_11 0 rfl ?_
  refine k_bipush (v := 6) X dX11_undo_12 (by decide) ?_
  refine k_callVI (n := 1) (As := [.int 6]) (st := []) X [(h0, .inr (11, [.int 0, v1h0, v2h0, v3h0, v4h0, v5h0, v6h0, v7h0, v8h0, v9h0, v10h0, .int 0, v12h0, v13h0, v14h0, v15h0, v16h0, v17h0, v18h0, v19h0, .int 0, v21h0, v22h0, v23h0, v24h0, v25h0, v26h0, v27h0, v28h0, v29h0, v30h0, v31h0, v32h0, v33h0, v34h0, v35h0, v36h0, v37h0, v38h0, v39h0, v40h0, v41h0, v42h0]))] [] [0] [] (r_isNot l g h0 6 (.int 0) v1h0 v2h0 v3h0 v4h0 v5h0 v6h0 v7h0 v8h0 v9h0 v10h0 (.int 0) v12h0 v13h0 v14h0 v15h0 v16h0 v17h0 v18h0 v19h0 (.int 0) v21h0 v22h0 v23h0 v24h0 v25h0 v26h0 v27h0 v28h0 v29h0 v30h0 v31h0 v32h0 v33h0 v34h0 v35h0 v36h0 v37h0 v38h0 v39h0 v40h0 v41h0 v42h0) dX11_undo_14 mw323 mw324 mw325 mw285 mw326 rfl 11 rfl rfl 0 _ rfl (by unfold yOk; decide) rfl (Nat.le_of_ble_eq_true rfl) (Nat.le_of_ble_eq_true rfl) (Nat.le_of_ble_eq_true rfl) (Nat.le_of_ble_eq_true rfl) (Nat.le_of_ble_eq_true rfl) rfl rfl (by decide) rfl (by decide) (by decide) ?_
  rintro r w ⟨rfl, rfl⟩
  refine k_ws [] rfl ?_
  exact k_zret X hr rfl dX11_undo_17 (Nat.le_of_ble_eq_true rfl) (Nat.le_of_ble_eq_true rfl) [] (by decide) rfl rfl ⟨rfl, rfl⟩

theorem dX11_back_0 : decode cX11_back 0 = .ok (.aload_n 0, 1) := by decide +kernel
theorem dX11_back_1 : decode cX11_back 1 = .ok (.invokevirtual 200, 3) := by decide +kernel
theorem dX11_back_4 : decode cX11_back 4 = .ok (.iload_n 1, 1) := by decide +kernel
theorem dX11_back_5 : decode cX11_back 5 = .ok (.iconst 0, 1) := by decide +kernel
theorem dX11_back_6 : decode cX11_back 6 = .ok (.aload_n 0, 1) := by decide +kernel
theorem dX11_back_7 : decode cX11_back 7 = .ok (.getfield 219, 3) := by decide +kernel
theorem dX11_back_10 : decode cX11_back 10 = .ok (.iconst 1, 1) := by decide +kernel
theorem dX11_back_11 : decode cX11_back 11 = .ok (.isub, 1) := by decide +kernel
theorem dX11_back_12 : decode cX11_back 12 = .ok (.invokestatic 182, 3) := by decide +kernel
theorem dX11_back_15 : decode cX11_back 15 = .ok (.ifCond .ne 9, 3) := by decide +kernel
theorem dX11_back_18 : decode cX11_back 18 = .ok (.aload_n 0, 1) := by decide +kernel
theorem dX11_back_19 : decode cX11_back 19 = .ok (.iconst 1, 1) := by decide +kernel
theorem dX11_back_20 : decode cX11_back 20 = .ok (.invokevirtual 473, 3) := by decide +kernel
theorem dX11_back_23 : decode cX11_back 23 = .ok (.ireturn, 1) := by decide +kernel
set_option maxHeartbeats 4000000 in
set_option maxRecDepth 100000 in
theorem r_back (l : Launch) (g : Gx) (h0 : Nat) (p0 : Int32) (v0h0 : Value) (v1h0 : Value) (v2h0 : Value) (v3h0 : Value) (v4h0 : Value) (v5h0 : Value) (v6h0 : Value) (v7h0 : Value) (v8h0 : Value) (v9h0 : Value) (v10h0 : Value) (v11h0 : Value) (v12h0 : Value) (v13h0 : Value) (v14h0 : Value) (v15h0 : Value) (v16h0 : Value) (v17h0 : Value) (v18h0 : Value) (v19h0 : Value) (v20h0 : Value) (v22h0 : Value) (v23h0 : Value) (v24h0 : Value) (v25h0 : Value) (v26h0 : Value) (v27h0 : Value) (v28h0 : Value) (v29h0 : Value) (v30h0 : Value) (v31h0 : Value) (v32h0 : Value) (v33h0 : Value) (v34h0 : Value) (v35h0 : Value) (v36h0 : Value) (v37h0 : Value) (v38h0 : Value) (v39h0 : Value) (v40h0 : Value) (v41h0 : Value) (v42h0 : Value) : cI l g yX11_back cX11_back 2 (some .boolean) 1 22 0 0 [.ref h0, .int p0] [(h0, .inr (11, [v0h0, v1h0, v2h0, v3h0, v4h0, v5h0, v6h0, v7h0, v8h0, v9h0, v10h0, v11h0, v12h0, v13h0, v14h0, v15h0, v16h0, v17h0, v18h0, v19h0, v20h0, .int 0, v22h0, v23h0, v24h0, v25h0, v26h0, v27h0, v28h0, v29h0, v30h0, v31h0, v32h0, v33h0, v34h0, v35h0, v36h0, v37h0, v38h0, v39h0, v40h0, v41h0, v42h0]))] (fun r w => r = 0 ∧ w = []) := by
  refine cI.of (by decide) (Nat.le_of_ble_eq_true rfl) ?_
  intro p e s m args below meth c A X hr hi
  refine k_lveq [(0, .ref h0), (1, .int p0)] rfl ?_
  refine k_aload_n X dX11_back_0 0 rfl ?_
  refine k_callVV (n := 0) (As := []) (st := []) X [(h0, .inr (11, [v0h0, v1h0, v2h0, v3h0, v4h0, v5h0, v6h0, v7h0, v8h0, v9h0, v10h0, v11h0, v12h0, v13h0, v14h0, v15h0, v16h0, v17h0, v18h0, v19h0, v20h0, .int 0, v22h0, v23h0, v24h0, v25h0, v26h0, v27h0, v28h0, v29h0, v30h0, v31h0, v32h0, v33h0, v34h0, v35h0, v36h0, v37h0, v38h0, v39h0, v40h0, v41h0, v42h0]))] [] [0] [] (r_good l g h0 v0h0 v1h0 v2h0 v3h0 v4h0 v5h0 v6h0 v7h0 v8h0 v9h0 v10h0 v11h0 v12h0 v13h0 v14h0 v15h0 v16h0 v17h0 v18h0 v19h0 v20h0 (.int 0) v22h0 v23h0 v24h0 v25h0 v26h0 v27h0 v28h0 v29h0 v30h0 v31h0 v32h0 v33h0 v34h0 v35h0 v36h0 v37h0 v38h0 v39h0 v40h0 v41h0 v42h0) dX11_back_1 mw288 mw289 mw290 mw285 mw291 rfl 11 rfl rfl 0 _ rfl (by unfold yOk; decide) rfl (Nat.le_of_ble_eq_true rfl) (Nat.le_of_ble_eq_true rfl) (Nat.le_of_ble_eq_true rfl) (Nat.le_of_ble_eq_true rfl) (Nat.le_of_ble_eq_true rfl) rfl rfl (by decide) rfl (by decide) (by decide) ?_
  rintro w rfl
  refine k_ws [(h0, .inr (11, [.int 0, v1h0, v2h0, v3h0, v4h0, v5h0, v6h0, v7h0, v8h0, v9h0, v10h0, .int 0, v12h0, v13h0, v14h0, v15h0, v16h0, v17h0, v18h0, v19h0, v20h0, .int 0, v22h0, v23h0, v24h0, v25h0, v26h0, v27h0, v28h0, v29h0, v30h0, v31h0, v32h0, v33h0, v34h0, v35h0, v36h0, v37h0, v38h0, v39h0, v40h0, v41h0, v42h0]))] rfl ?_
  refine k_iload_n X dX11_back_4 1 rfl ?_
  refine k_iconst (v := 0) X dX11_back_5 (by decide) ?_
  refine k_aload_n X dX11_back_6 0 rfl ?_
  refine k_get (ci := 11) X inlX11 rfl 21 (by decide) dX11_back_7 mw328 0 rfl rfl ?_
  refine k_iconst (v := 1) X dX11_back_10 (by decide) ?_
  refine k_isub X dX11_back_11 ?_
  refine k_to (-1) (by decide) ?_
  refine k_callSI (n := 3) (As := [.int p0, .int 0, .int (-1)]) (st := []) X [] [(h0, .inr (11, [.int 0, v1h0, v2h0, v3h0, v4h0, v5h0, v6h0, v7h0, v8h0, v9h0, v10h0, .int 0, v12h0, v13h0, v14h0, v15h0, v16h0, v17h0, v18h0, v19h0, v20h0, .int 0, v22h0, v23h0, v24h0, v25h0, v26h0, v27h0, v28h0, v29h0, v30h0, v31h0, v32h0, v33h0, v34h0, v35h0, v36h0, v37h0, v38h0, v39h0, v40h0, v41h0, v42h0]))] [] [0] (r_in l g p0 0 ((-1))) dX11_back_12 mw308 mw309 mw285 mw310 (by unfold yOk; decide) rfl (Nat.le_of_ble_eq_true rfl) (Nat.le_of_ble_eq_true rfl) (Nat.le_of_ble_eq_true rfl) (Nat.le_of_ble_eq_true rfl) (Nat.le_of_ble_eq_true rfl) rfl rfl (by decide) rfl (by decide) (by decide) ?_
  rintro r w (⟨rfl, k_1, k_2, rfl⟩ | ⟨rfl, k_3, rfl⟩)
  · skip
    refine k_ws [(h0, .inr (11, [.int 0, v1h0, v2h0, v3h0, v4h0, v5h0, v6h0, v7h0, v8h0, v9h0, v10h0, .int 0, v12h0, v13h0, v14h0, v15h0, v16h0, v17h0, v18h0, v19h0, v20h0, .int 0, v22h0, v23h0, v24h0, v25h0, v26h0, v27h0, v28h0, v29h0, v30h0, v31h0, v32h0, v33h0, v34h0, v35h0, v36h0, v37h0, v38h0, v39h0, v40h0, v41h0, v42h0]))] rfl ?_
    refine k_if_ne 24 X dX11_back_15 (by decide) (fun _ => ?_) (fun h_4 => absurd h_4 (by decide))
    exact (i32_nn k_1 k_2).elim
  · skip
    refine k_ws [(h0, .inr (11, [.int 0, v1h0, v2h0, v3h0, v4h0, v5h0, v6h0, v7h0, v8h0, v9h0, v10h0, .int 0, v12h0, v13h0, v14h0, v15h0, v16h0, v17h0, v18h0, v19h0, v20h0, .int 0, v22h0, v23h0, v24h0, v25h0, v26h0, v27h0, v28h0, v29h0, v30h0, v31h0, v32h0, v33h0, v34h0, v35h0, v36h0, v37h0, v38h0, v39h0, v40h0, v41h0, v42h0]))] rfl ?_
    refine k_if_ne 24 X dX11_back_15 (by decide) (fun h_5 => absurd h_5 (by decide)) (fun _ => ?_)
    refine k_aload_n X dX11_back_18 0 rfl ?_
    refine k_iconst (v := 1) X dX11_back_19 (by decide) ?_
    refine k_callVI (n := 1) (As := [.int 1]) (st := []) X [(h0, .inr (11, [.int 0, v1h0, v2h0, v3h0, v4h0, v5h0, v6h0, v7h0, v8h0, v9h0, v10h0, .int 0, v12h0, v13h0, v14h0, v15h0, v16h0, v17h0, v18h0, v19h0, v20h0, .int 0, v22h0, v23h0, v24h0, v25h0, v26h0, v27h0, v28h0, v29h0, v30h0, v31h0, v32h0, v33h0, v34h0, v35h0, v36h0, v37h0, v38h0, v39h0, v40h0, v41h0, v42h0]))] [] [0] [] (r_isNot l g h0 1 (.int 0) v1h0 v2h0 v3h0 v4h0 v5h0 v6h0 v7h0 v8h0 v9h0 v10h0 (.int 0) v12h0 v13h0 v14h0 v15h0 v16h0 v17h0 v18h0 v19h0 v20h0 (.int 0) v22h0 v23h0 v24h0 v25h0 v26h0 v27h0 v28h0 v29h0 v30h0 v31h0 v32h0 v33h0 v34h0 v35h0 v36h0 v37h0 v38h0 v39h0 v40h0 v41h0 v42h0) dX11_back_20 mw323 mw324 mw325 mw285 mw326 rfl 11 rfl rfl 0 _ rfl (by unfold yOk; decide) rfl (Nat.le_of_ble_eq_true rfl) (Nat.le_of_ble_eq_true rfl) (Nat.le_of_ble_eq_true rfl) (Nat.le_of_ble_eq_true rfl) (Nat.le_of_ble_eq_true rfl) rfl rfl (by decide) rfl (by decide) (by decide) ?_
    rintro r w ⟨rfl, rfl⟩
    refine k_ws [] rfl ?_
    exact k_zret X hr rfl dX11_back_23 (Nat.le_of_ble_eq_true rfl) (Nat.le_of_ble_eq_true rfl) [] (by decide) rfl rfl ⟨rfl, rfl⟩

theorem dX11_led_0 : decode cX11_led 0 = .ok (.iconst 0, 1) := by decide +kernel
theorem dX11_led_1 : decode cX11_led 1 = .ok (.istore_n 2, 1) := by decide +kernel
theorem dX11_led_2 : decode cX11_led 2 = .ok (.iconst 0, 1) := by decide +kernel
theorem dX11_led_3 : decode cX11_led 3 = .ok (.istore_n 3, 1) := by decide +kernel
theorem dX11_led_4 : decode cX11_led 4 = .ok (.aload_n 0, 1) := by decide +kernel
theorem dX11_led_5 : decode cX11_led 5 = .ok (.getfield 213, 3) := by decide +kernel
theorem dX11_led_8 : decode cX11_led 8 = .ok (.ifCond .eq 46, 3) := by decide +kernel
theorem dX11_led_54 : decode cX11_led 54 = .ok (.aload_n 0, 1) := by decide +kernel
theorem dX11_led_55 : decode cX11_led 55 = .ok (.iconst 1, 1) := by decide +kernel
theorem dX11_led_56 : decode cX11_led 56 = .ok (.putfield 83, 3) := by decide +kernel
theorem dX11_led_59 : decode cX11_led 59 = .ok (.iconst 0, 1) := by decide +kernel
theorem dX11_led_60 : decode cX11_led 60 = .ok (.ireturn, 1) := by decide +kernel
set_option maxHeartbeats 4000000 in
set_option maxRecDepth 100000 in
theorem r_led (l : Launch) (g : Gx) (h0 : Nat) (p0 : Int32) (v0h0 : Value) (v1h0 : Value) (v2h0 : Value) (v3h0 : Value) (v4h0 : Value) (v5h0 : Value) (v6h0 : Value) (v7h0 : Value) (v8h0 : Value) (v9h0 : Value) (v10h0 : Value) (v11h0 : Value) (v12h0 : Value) (v13h0 : Value) (v15h0 : Value) (v16h0 : Value) (v17h0 : Value) (v18h0 : Value) (v19h0 : Value) (v20h0 : Value) (v21h0 : Value) (v22h0 : Value) (v23h0 : Value) (v24h0 : Value) (v25h0 : Value) (v26h0 : Value) (v27h0 : Value) (v28h0 : Value) (v29h0 : Value) (v30h0 : Value) (v31h0 : Value) (v32h0 : Value) (v33h0 : Value) (v34h0 : Value) (v35h0 : Value) (v36h0 : Value) (v37h0 : Value) (v38h0 : Value) (v39h0 : Value) (v40h0 : Value) (v41h0 : Value) (v42h0 : Value) : cI l g yX11_led cX11_led 4 (some .int) 0 0 0 0 [.ref h0, .int p0] [(h0, .inr (11, [v0h0, v1h0, v2h0, v3h0, v4h0, v5h0, v6h0, v7h0, v8h0, v9h0, v10h0, v11h0, v12h0, v13h0, .int 0, v15h0, v16h0, v17h0, v18h0, v19h0, v20h0, v21h0, v22h0, v23h0, v24h0, v25h0, v26h0, v27h0, v28h0, v29h0, v30h0, v31h0, v32h0, v33h0, v34h0, v35h0, v36h0, v37h0, v38h0, v39h0, v40h0, v41h0, v42h0]))] (fun r w => r = 0 ∧ w = [(h0, .inr (11, [.int 1, v1h0, v2h0, v3h0, v4h0, v5h0, v6h0, v7h0, v8h0, v9h0, v10h0, v11h0, v12h0, v13h0, .int 0, v15h0, v16h0, v17h0, v18h0, v19h0, v20h0, v21h0, v22h0, v23h0, v24h0, v25h0, v26h0, v27h0, v28h0, v29h0, v30h0, v31h0, v32h0, v33h0, v34h0, v35h0, v36h0, v37h0, v38h0, v39h0, v40h0, v41h0, v42h0]))]) := by
  refine cI.of (by decide) (Nat.le_of_ble_eq_true rfl) ?_
  intro p e s m args below meth c A X hr hi
  refine k_lveq [(0, .ref h0), (1, .int p0)] rfl ?_
  refine k_iconst (v := 0) X dX11_led_0 (by decide) ?_
  refine k_istore_n [(2, .int 0), (0, .ref h0), (1, .int p0)] X dX11_led_1 (by decide) rfl ?_
  refine k_iconst (v := 0) X dX11_led_2 (by decide) ?_
  refine k_istore_n [(3, .int 0), (2, .int 0), (0, .ref h0), (1, .int p0)] X dX11_led_3 (by decide) rfl ?_
  refine k_aload_n X dX11_led_4 2 rfl ?_
  refine k_get (ci := 11) X inlX11 rfl 14 (by decide) dX11_led_5 mw281 0 rfl rfl ?_
  refine k_if_eq 54 X dX11_led_8 (by decide) (fun _ => ?_) (fun h_1 => absurd (by decide) h_1)
  refine k_aload_n X dX11_led_54 2 rfl ?_
  refine k_iconst (v := 1) X dX11_led_55 (by decide) ?_
  refine k_put (ci := 11) [(h0, .inr (11, [.int 1, v1h0, v2h0, v3h0, v4h0, v5h0, v6h0, v7h0, v8h0, v9h0, v10h0, v11h0, v12h0, v13h0, .int 0, v15h0, v16h0, v17h0, v18h0, v19h0, v20h0, v21h0, v22h0, v23h0, v24h0, v25h0, v26h0, v27h0, v28h0, v29h0, v30h0, v31h0, v32h0, v33h0, v34h0, v35h0, v36h0, v37h0, v38h0, v39h0, v40h0, v41h0, v42h0]))] X inlX11 rfl tyX11_ok nmX11 0 (by decide) rfl dX11_led_56 mw279 0 rfl rfl rfl (Nat.le_of_ble_eq_true rfl) rfl ?_
  refine k_iconst (v := 0) X dX11_led_59 (by decide) ?_
  exact k_iret X hr dX11_led_60 (Nat.le_of_ble_eq_true rfl) (Nat.le_of_ble_eq_true rfl) [0] (by decide) rfl rfl ⟨rfl, rfl⟩

theorem dX11_thrown_0 : decode cX11_thrown 0 = .ok (.aload_n 0, 1) := by decide +kernel
theorem dX11_thrown_1 : decode cX11_thrown 1 = .ok (.getfield 83, 3) := by decide +kernel
theorem dX11_thrown_4 : decode cX11_thrown 4 = .ok (.ireturn, 1) := by decide +kernel
set_option maxHeartbeats 4000000 in
set_option maxRecDepth 100000 in
theorem r_thrown (l : Launch) (g : Gx) (h0 : Nat) (v1h0 : Value) (v2h0 : Value) (v3h0 : Value) (v4h0 : Value) (v5h0 : Value) (v6h0 : Value) (v7h0 : Value) (v8h0 : Value) (v9h0 : Value) (v10h0 : Value) (v11h0 : Value) (v12h0 : Value) (v13h0 : Value) (v14h0 : Value) (v15h0 : Value) (v16h0 : Value) (v17h0 : Value) (v18h0 : Value) (v19h0 : Value) (v20h0 : Value) (v21h0 : Value) (v22h0 : Value) (v23h0 : Value) (v24h0 : Value) (v25h0 : Value) (v26h0 : Value) (v27h0 : Value) (v28h0 : Value) (v29h0 : Value) (v30h0 : Value) (v31h0 : Value) (v32h0 : Value) (v33h0 : Value) (v34h0 : Value) (v35h0 : Value) (v36h0 : Value) (v37h0 : Value) (v38h0 : Value) (v39h0 : Value) (v40h0 : Value) (v41h0 : Value) (v42h0 : Value) : cI l g yX11_thrown cX11_thrown 1 (some .int) 0 0 0 0 [.ref h0] [(h0, .inr (11, [.int 1, v1h0, v2h0, v3h0, v4h0, v5h0, v6h0, v7h0, v8h0, v9h0, v10h0, v11h0, v12h0, v13h0, v14h0, v15h0, v16h0, v17h0, v18h0, v19h0, v20h0, v21h0, v22h0, v23h0, v24h0, v25h0, v26h0, v27h0, v28h0, v29h0, v30h0, v31h0, v32h0, v33h0, v34h0, v35h0, v36h0, v37h0, v38h0, v39h0, v40h0, v41h0, v42h0]))] (fun r w => r = 1 ∧ w = []) := by
  refine cI.of (by decide) (Nat.le_of_ble_eq_true rfl) ?_
  intro p e s m args below meth c A X hr hi
  refine k_lveq [(0, .ref h0)] rfl ?_
  refine k_aload_n X dX11_thrown_0 0 rfl ?_
  refine k_get (ci := 11) X inlX11 rfl 0 (by decide) dX11_thrown_1 mw279 0 rfl rfl ?_
  exact k_iret X hr dX11_thrown_4 (Nat.le_of_ble_eq_true rfl) (Nat.le_of_ble_eq_true rfl) [] (by decide) rfl rfl ⟨rfl, rfl⟩
