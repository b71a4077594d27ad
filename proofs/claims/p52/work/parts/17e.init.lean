theorem dX11_init_0 : decode cX11_init 0 = .ok (.aload_n 0, 1) := dk_42 rfl
theorem dX11_init_1 : decode cX11_init 1 = .ok (.invokespecial 1, 3) := dk_183 rfl rfl rfl rfl
theorem dX11_init_4 : decode cX11_init 4 = .ok (.aload_n 0, 1) := dk_42 rfl
theorem dX11_init_5 : decode cX11_init 5 = .ok (.sipush 900, 3) := dk_17 rfl rfl rfl (by decide)
theorem dX11_init_8 : decode cX11_init 8 = .ok (.newarray .int, 2) := by decide +kernel
theorem dX11_init_10 : decode cX11_init 10 = .ok (.putfield 7, 3) := dk_181 rfl rfl rfl rfl
theorem dX11_init_13 : decode cX11_init 13 = .ok (.aload_n 0, 1) := dk_42 rfl
theorem dX11_init_14 : decode cX11_init 14 = .ok (.iconst (-1), 1) := dk_2 rfl
theorem dX11_init_15 : decode cX11_init 15 = .ok (.putfield 13, 3) := dk_181 rfl rfl rfl rfl
theorem dX11_init_18 : decode cX11_init 18 = .ok (.aload_n 0, 1) := dk_42 rfl
theorem dX11_init_19 : decode cX11_init 19 = .ok (.bipush 8, 2) := dk_16 rfl rfl (by decide)
theorem dX11_init_21 : decode cX11_init 21 = .ok (.newarray .int, 2) := by decide +kernel
theorem dX11_init_23 : decode cX11_init 23 = .ok (.putfield 17, 3) := dk_181 rfl rfl rfl rfl
theorem dX11_init_26 : decode cX11_init 26 = .ok (.aload_n 0, 1) := dk_42 rfl
theorem dX11_init_27 : decode cX11_init 27 = .ok (.sipush 311, 3) := dk_17 rfl rfl rfl (by decide)
theorem dX11_init_30 : decode cX11_init 30 = .ok (.newarray .int, 2) := by decide +kernel
theorem dX11_init_32 : decode cX11_init 32 = .ok (.putfield 20, 3) := dk_181 rfl rfl rfl rfl
theorem dX11_init_35 : decode cX11_init 35 = .ok (.aload_n 0, 1) := dk_42 rfl
theorem dX11_init_36 : decode cX11_init 36 = .ok (.sipush 311, 3) := dk_17 rfl rfl rfl (by decide)
theorem dX11_init_39 : decode cX11_init 39 = .ok (.newarray .int, 2) := by decide +kernel
theorem dX11_init_41 : decode cX11_init 41 = .ok (.putfield 23, 3) := dk_181 rfl rfl rfl rfl
theorem dX11_init_44 : decode cX11_init 44 = .ok (.aload_n 0, 1) := dk_42 rfl
theorem dX11_init_45 : decode cX11_init 45 = .ok (.bipush 44, 2) := dk_16 rfl rfl (by decide)
theorem dX11_init_47 : decode cX11_init 47 = .ok (.newarray .int, 2) := by decide +kernel
theorem dX11_init_49 : decode cX11_init 49 = .ok (.putfield 26, 3) := dk_181 rfl rfl rfl rfl
theorem dX11_init_52 : decode cX11_init 52 = .ok (.aload_n 0, 1) := dk_42 rfl
theorem dX11_init_53 : decode cX11_init 53 = .ok (.sipush 528, 3) := dk_17 rfl rfl rfl (by decide)
theorem dX11_init_56 : decode cX11_init 56 = .ok (.newarray .int, 2) := by decide +kernel
theorem dX11_init_58 : decode cX11_init 58 = .ok (.putfield 29, 3) := dk_181 rfl rfl rfl rfl
theorem dX11_init_61 : decode cX11_init 61 = .ok (.aload_n 0, 1) := dk_42 rfl
theorem dX11_init_62 : decode cX11_init 62 = .ok (.sipush 132, 3) := dk_17 rfl rfl rfl (by decide)
theorem dX11_init_65 : decode cX11_init 65 = .ok (.newarray .int, 2) := by decide +kernel
theorem dX11_init_67 : decode cX11_init 67 = .ok (.putfield 32, 3) := dk_181 rfl rfl rfl rfl
theorem dX11_init_70 : decode cX11_init 70 = .ok (.aload_n 0, 1) := dk_42 rfl
theorem dX11_init_71 : decode cX11_init 71 = .ok (.bipush 8, 2) := dk_16 rfl rfl (by decide)
theorem dX11_init_73 : decode cX11_init 73 = .ok (.newarray .int, 2) := by decide +kernel
theorem dX11_init_75 : decode cX11_init 75 = .ok (.putfield 35, 3) := dk_181 rfl rfl rfl rfl
theorem dX11_init_78 : decode cX11_init 78 = .ok (.aload_n 0, 1) := dk_42 rfl
theorem dX11_init_79 : decode cX11_init 79 = .ok (.bipush 8, 2) := dk_16 rfl rfl (by decide)
theorem dX11_init_81 : decode cX11_init 81 = .ok (.newarray .int, 2) := by decide +kernel
theorem dX11_init_83 : decode cX11_init 83 = .ok (.putfield 38, 3) := dk_181 rfl rfl rfl rfl
theorem dX11_init_86 : decode cX11_init 86 = .ok (.aload_n 0, 1) := dk_42 rfl
theorem dX11_init_87 : decode cX11_init 87 = .ok (.bipush 8, 2) := dk_16 rfl rfl (by decide)
theorem dX11_init_89 : decode cX11_init 89 = .ok (.newarray .int, 2) := by decide +kernel
theorem dX11_init_91 : decode cX11_init 91 = .ok (.putfield 41, 3) := dk_181 rfl rfl rfl rfl
theorem dX11_init_94 : decode cX11_init 94 = .ok (.aload_n 0, 1) := dk_42 rfl
theorem dX11_init_95 : decode cX11_init 95 = .ok (.bipush 8, 2) := dk_16 rfl rfl (by decide)
theorem dX11_init_97 : decode cX11_init 97 = .ok (.newarray .int, 2) := by decide +kernel
theorem dX11_init_99 : decode cX11_init 99 = .ok (.putfield 44, 3) := by decide +kernel
theorem dX11_init_102 : decode cX11_init 102 = .ok (.aload_n 0, 1) := by decide +kernel
theorem dX11_init_103 : decode cX11_init 103 = .ok (.bipush 8, 2) := by decide +kernel
theorem dX11_init_105 : decode cX11_init 105 = .ok (.newarray .int, 2) := by decide +kernel
theorem dX11_init_107 : decode cX11_init 107 = .ok (.putfield 47, 3) := by decide +kernel
theorem dX11_init_110 : decode cX11_init 110 = .ok (.aload_n 0, 1) := by decide +kernel
theorem dX11_init_111 : decode cX11_init 111 = .ok (.bipush 8, 2) := by decide +kernel
theorem dX11_init_113 : decode cX11_init 113 = .ok (.newarray .int, 2) := by decide +kernel
theorem dX11_init_115 : decode cX11_init 115 = .ok (.putfield 50, 3) := by decide +kernel
theorem dX11_init_118 : decode cX11_init 118 = .ok (.aload_n 0, 1) := by decide +kernel
theorem dX11_init_119 : decode cX11_init 119 = .ok (.bipush 8, 2) := by decide +kernel
theorem dX11_init_121 : decode cX11_init 121 = .ok (.newarray .int, 2) := by decide +kernel
theorem dX11_init_123 : decode cX11_init 123 = .ok (.putfield 53, 3) := by decide +kernel
theorem dX11_init_126 : decode cX11_init 126 = .ok (.aload_n 0, 1) := by decide +kernel
theorem dX11_init_127 : decode cX11_init 127 = .ok (.bipush 8, 2) := by decide +kernel
theorem dX11_init_129 : decode cX11_init 129 = .ok (.newarray .int, 2) := by decide +kernel
theorem dX11_init_131 : decode cX11_init 131 = .ok (.putfield 56, 3) := by decide +kernel
theorem dX11_init_134 : decode cX11_init 134 = .ok (.aload_n 0, 1) := by decide +kernel
theorem dX11_init_135 : decode cX11_init 135 = .ok (.bipush 8, 2) := by decide +kernel
theorem dX11_init_137 : decode cX11_init 137 = .ok (.newarray .int, 2) := by decide +kernel
theorem dX11_init_139 : decode cX11_init 139 = .ok (.putfield 59, 3) := by decide +kernel
theorem dX11_init_142 : decode cX11_init 142 = .ok (.aload_n 0, 1) := by decide +kernel
theorem dX11_init_143 : decode cX11_init 143 = .ok (.bipush 8, 2) := by decide +kernel
theorem dX11_init_145 : decode cX11_init 145 = .ok (.newarray .int, 2) := by decide +kernel
theorem dX11_init_147 : decode cX11_init 147 = .ok (.putfield 62, 3) := by decide +kernel
theorem dX11_init_150 : decode cX11_init 150 = .ok (.aload_n 0, 1) := by decide +kernel
theorem dX11_init_151 : decode cX11_init 151 = .ok (.bipush 8, 2) := by decide +kernel
theorem dX11_init_153 : decode cX11_init 153 = .ok (.newarray .int, 2) := by decide +kernel
theorem dX11_init_155 : decode cX11_init 155 = .ok (.putfield 65, 3) := by decide +kernel
theorem dX11_init_158 : decode cX11_init 158 = .ok (.aload_n 0, 1) := by decide +kernel
theorem dX11_init_159 : decode cX11_init 159 = .ok (.iconst 2, 1) := by decide +kernel
theorem dX11_init_160 : decode cX11_init 160 = .ok (.newarray .int, 2) := by decide +kernel
theorem dX11_init_162 : decode cX11_init 162 = .ok (.putfield 68, 3) := by decide +kernel
theorem dX11_init_165 : decode cX11_init 165 = .ok (.aload_n 0, 1) := by decide +kernel
theorem dX11_init_166 : decode cX11_init 166 = .ok (.bipush 8, 2) := by decide +kernel
theorem dX11_init_168 : decode cX11_init 168 = .ok (.newarray .int, 2) := by decide +kernel
theorem dX11_init_170 : decode cX11_init 170 = .ok (.putfield 71, 3) := by decide +kernel
theorem dX11_init_173 : decode cX11_init 173 = .ok (.aload_n 0, 1) := by decide +kernel
theorem dX11_init_174 : decode cX11_init 174 = .ok (.iconst 4, 1) := by decide +kernel
theorem dX11_init_175 : decode cX11_init 175 = .ok (.newarray .int, 2) := by decide +kernel
theorem dX11_init_177 : decode cX11_init 177 = .ok (.putfield 74, 3) := by decide +kernel
theorem dX11_init_180 : decode cX11_init 180 = .ok (.aload_n 0, 1) := by decide +kernel
theorem dX11_init_181 : decode cX11_init 181 = .ok (.bipush 8, 2) := by decide +kernel
theorem dX11_init_183 : decode cX11_init 183 = .ok (.newarray .int, 2) := by decide +kernel
theorem dX11_init_185 : decode cX11_init 185 = .ok (.putfield 77, 3) := by decide +kernel
theorem dX11_init_188 : decode cX11_init 188 = .ok (.aload_n 0, 1) := by decide +kernel
theorem dX11_init_189 : decode cX11_init 189 = .ok (.sipush 256, 3) := by decide +kernel
theorem dX11_init_192 : decode cX11_init 192 = .ok (.newarray .int, 2) := by decide +kernel
theorem dX11_init_194 : decode cX11_init 194 = .ok (.putfield 80, 3) := by decide +kernel
theorem dX11_init_197 : decode cX11_init 197 = .ok (.return_, 1) := by decide +kernel
set_option maxHeartbeats 4000000 in
set_option maxRecDepth 100000 in
theorem i_M (l : Launch) (g : Gx) (h0 : Nat) : cV l g yX11_init cX11_init 1 1 20 23 2600 [.ref h0] [(cO11_i1n1i10n1i2n5i2n12i3n4i2 h0 0 0 0 0 0 0 0 0 0 0 0 0 0 0 0 0 0 0 0 0)] (fun w => ∃ a_tape a_letters a_r a_fresh a_st a_undone a_kept a_from a_begin a_motor a_change a_startFrame a_changeFrame a_lostAt a_blackAt a_slips a_leftArc a_died a_arcs a_there a_backAt a_sorted a_parts, w = ((cO11_i1r1i10r1i2r5i2r12i3r4i2 h0 0 a_tape 0 0 0 0 0 0 0 0 (-1) 0 a_letters 0 0 a_r a_fresh a_st a_undone a_kept 0 0 a_from a_begin a_motor a_change a_startFrame a_changeFrame a_lostAt a_blackAt a_slips a_leftArc a_died a_arcs 0 0 0 a_there a_backAt a_sorted a_parts 0 0) :: (cAI g a_tape 900 (fun _ => 0)) :: (cAI g a_letters 8 (fun _ => 0)) :: (cAI g a_r 311 (fun _ => 0)) :: (cAI g a_fresh 311 (fun _ => 0)) :: (cAI g a_st 44 (fun _ => 0)) :: (cAI g a_undone 528 (fun _ => 0)) :: (cAI g a_kept 132 (fun _ => 0)) :: (cAI g a_from 8 (fun _ => 0)) :: (cAI g a_begin 8 (fun _ => 0)) :: (cAI g a_motor 8 (fun _ => 0)) :: (cAI g a_change 8 (fun _ => 0)) :: (cAI g a_startFrame 8 (fun _ => 0)) :: (cAI g a_changeFrame 8 (fun _ => 0)) :: (cAI g a_lostAt 8 (fun _ => 0)) :: (cAI g a_blackAt 8 (fun _ => 0)) :: (cAI g a_slips 8 (fun _ => 0)) :: (cAI g a_leftArc 8 (fun _ => 0)) :: (cAI g a_died 8 (fun _ => 0)) :: (cAI g a_arcs 2 (fun _ => 0)) :: (cAI g a_there 8 (fun _ => 0)) :: (cAI g a_backAt 4 (fun _ => 0)) :: (cAI g a_sorted 8 (fun _ => 0)) :: (cAI g a_parts 256 (fun _ => 0)) :: [])) := by
  refine cV.of (by decide) (Nat.le_of_ble_eq_true rfl) ?_
  intro p e s m args below meth c A X hr hi
  refine k_lveq [(0, .ref h0)] rfl ?_
  refine k_aload_n X dX11_init_0 0 rfl ?_
  refine k_objInit X dX11_init_1 mw166 mw11 mw12 (Nat.le_of_ble_eq_true rfl) (Nat.le_of_ble_eq_true rfl) ?_
  refine k_aload_n X dX11_init_4 0 rfl ?_
  refine k_sipush (v := 900) X dX11_init_5 (by decide) ?_
  refine k_newaI 900 X dX11_init_8 mw107 (by decide) (by decide) (by decide) (Nat.le_of_ble_eq_true rfl) (Nat.le_of_ble_eq_true rfl) (fun q_1 => ?_)
  refine k_ws [(cO11_i1n1i10n1i2n5i2n12i3n4i2 h0 0 0 0 0 0 0 0 0 0 0 0 0 0 0 0 0 0 0 0 0), (cAI g q_1 900 (fun _ => 0))] rfl ?_
  refine k_wide 1 900 (Nat.le_of_ble_eq_true rfl) (Nat.le_of_ble_eq_true rfl) ?_
  refine k_putF (ci := 11) [(cO11_i1r1i10n1i2n5i2n12i3n4i2 h0 0 q_1 0 0 0 0 0 0 0 0 0 0 0 0 0 0 0 0 0 0 0), (cAI g q_1 900 (fun _ => 0))] X hi inlX11 rfl tyX11_ok nmX11 1 (by decide) rfl rfl dX11_init_10 mw167 0 rfl rfl rfl (Nat.le_of_ble_eq_true rfl) rfl ?_
  refine k_aload_n X dX11_init_13 0 rfl ?_
  refine k_iconst (v := -1) X dX11_init_14 (by decide) ?_
  refine k_put (ci := 11) [(cO11_i1r1i10n1i2n5i2n12i3n4i2 h0 0 q_1 0 0 0 0 0 0 0 0 (-1) 0 0 0 0 0 0 0 0 0 0), (cAI g q_1 900 (fun _ => 0))] X inlX11 rfl tyX11_ok nmX11 10 (by decide) rfl dX11_init_15 mw168 0 rfl rfl rfl (Nat.le_of_ble_eq_true rfl) rfl ?_
  refine k_aload_n X dX11_init_18 0 rfl ?_
  refine k_bipush (v := 8) X dX11_init_19 (by decide) ?_
  refine k_newaI 8 X dX11_init_21 mw107 (by decide) (by decide) (by decide) (Nat.le_of_ble_eq_true rfl) (Nat.le_of_ble_eq_true rfl) (fun q_2 => ?_)
  refine k_ws [(cO11_i1r1i10n1i2n5i2n12i3n4i2 h0 0 q_1 0 0 0 0 0 0 0 0 (-1) 0 0 0 0 0 0 0 0 0 0), (cAI g q_1 900 (fun _ => 0)), (cAI g q_2 8 (fun _ => 0))] rfl ?_
  refine k_wide 2 908 (Nat.le_of_ble_eq_true rfl) (Nat.le_of_ble_eq_true rfl) ?_
  refine k_putF (ci := 11) [(cO11_i1r1i10r1i2n5i2n12i3n4i2 h0 0 q_1 0 0 0 0 0 0 0 0 (-1) 0 q_2 0 0 0 0 0 0 0 0 0), (cAI g q_1 900 (fun _ => 0)), (cAI g q_2 8 (fun _ => 0))] X hi inlX11 rfl tyX11_ok nmX11 12 (by decide) rfl rfl dX11_init_23 mw169 0 rfl rfl rfl (Nat.le_of_ble_eq_true rfl) rfl ?_
  refine k_aload_n X dX11_init_26 0 rfl ?_
  refine k_sipush (v := 311) X dX11_init_27 (by decide) ?_
  refine k_newaI 311 X dX11_init_30 mw107 (by decide) (by decide) (by decide) (Nat.le_of_ble_eq_true rfl) (Nat.le_of_ble_eq_true rfl) (fun q_3 => ?_)
  refine k_ws [(cO11_i1r1i10r1i2n5i2n12i3n4i2 h0 0 q_1 0 0 0 0 0 0 0 0 (-1) 0 q_2 0 0 0 0 0 0 0 0 0), (cAI g q_1 900 (fun _ => 0)), (cAI g q_2 8 (fun _ => 0)), (cAI g q_3 311 (fun _ => 0))] rfl ?_
  refine k_wide 3 1219 (Nat.le_of_ble_eq_true rfl) (Nat.le_of_ble_eq_true rfl) ?_
  refine k_putF (ci := 11) [(cO11_i1r1i10r1i2r1n4i2n12i3n4i2 h0 0 q_1 0 0 0 0 0 0 0 0 (-1) 0 q_2 0 0 q_3 0 0 0 0 0 0 0), (cAI g q_1 900 (fun _ => 0)), (cAI g q_2 8 (fun _ => 0)), (cAI g q_3 311 (fun _ => 0))] X hi inlX11 rfl tyX11_ok nmX11 15 (by decide) rfl rfl dX11_init_32 mw170 0 rfl rfl rfl (Nat.le_of_ble_eq_true rfl) rfl ?_
  refine k_aload_n X dX11_init_35 0 rfl ?_
  refine k_sipush (v := 311) X dX11_init_36 (by decide) ?_
  refine k_newaI 311 X dX11_init_39 mw107 (by decide) (by decide) (by decide) (Nat.le_of_ble_eq_true rfl) (Nat.le_of_ble_eq_true rfl) (fun q_4 => ?_)
  refine k_ws [(cO11_i1r1i10r1i2r1n4i2n12i3n4i2 h0 0 q_1 0 0 0 0 0 0 0 0 (-1) 0 q_2 0 0 q_3 0 0 0 0 0 0 0), (cAI g q_1 900 (fun _ => 0)), (cAI g q_2 8 (fun _ => 0)), (cAI g q_3 311 (fun _ => 0)), (cAI g q_4 311 (fun _ => 0))] rfl ?_
  refine k_wide 4 1530 (Nat.le_of_ble_eq_true rfl) (Nat.le_of_ble_eq_true rfl) ?_
  refine k_putF (ci := 11) [(cO11_i1r1i10r1i2r2n3i2n12i3n4i2 h0 0 q_1 0 0 0 0 0 0 0 0 (-1) 0 q_2 0 0 q_3 q_4 0 0 0 0 0 0 0), (cAI g q_1 900 (fun _ => 0)), (cAI g q_2 8 (fun _ => 0)), (cAI g q_3 311 (fun _ => 0)), (cAI g q_4 311 (fun _ => 0))] X hi inlX11 rfl tyX11_ok nmX11 16 (by decide) rfl rfl dX11_init_41 mw171 0 rfl rfl rfl (Nat.le_of_ble_eq_true rfl) rfl ?_
  refine k_aload_n X dX11_init_44 0 rfl ?_
  refine k_bipush (v := 44) X dX11_init_45 (by decide) ?_
  refine k_newaI 44 X dX11_init_47 mw107 (by decide) (by decide) (by decide) (Nat.le_of_ble_eq_true rfl) (Nat.le_of_ble_eq_true rfl) (fun q_5 => ?_)
  refine k_ws [(cO11_i1r1i10r1i2r2n3i2n12i3n4i2 h0 0 q_1 0 0 0 0 0 0 0 0 (-1) 0 q_2 0 0 q_3 q_4 0 0 0 0 0 0 0), (cAI g q_1 900 (fun _ => 0)), (cAI g q_2 8 (fun _ => 0)), (cAI g q_3 311 (fun _ => 0)), (cAI g q_4 311 (fun _ => 0)), (cAI g q_5 44 (fun _ => 0))] rfl ?_
  refine k_wide 5 1574 (Nat.le_of_ble_eq_true rfl) (Nat.le_of_ble_eq_true rfl) ?_
  refine k_putF (ci := 11) [(cO11_i1r1i10r1i2r3n2i2n12i3n4i2 h0 0 q_1 0 0 0 0 0 0 0 0 (-1) 0 q_2 0 0 q_3 q_4 q_5 0 0 0 0 0 0 0), (cAI g q_1 900 (fun _ => 0)), (cAI g q_2 8 (fun _ => 0)), (cAI g q_3 311 (fun _ => 0)), (cAI g q_4 311 (fun _ => 0)), (cAI g q_5 44 (fun _ => 0))] X hi inlX11 rfl tyX11_ok nmX11 17 (by decide) rfl rfl dX11_init_49 mw172 0 rfl rfl rfl (Nat.le_of_ble_eq_true rfl) rfl ?_
  refine k_aload_n X dX11_init_52 0 rfl ?_
  refine k_sipush (v := 528) X dX11_init_53 (by decide) ?_
  refine k_newaI 528 X dX11_init_56 mw107 (by decide) (by decide) (by decide) (Nat.le_of_ble_eq_true rfl) (Nat.le_of_ble_eq_true rfl) (fun q_6 => ?_)
  refine k_ws [(cO11_i1r1i10r1i2r3n2i2n12i3n4i2 h0 0 q_1 0 0 0 0 0 0 0 0 (-1) 0 q_2 0 0 q_3 q_4 q_5 0 0 0 0 0 0 0), (cAI g q_1 900 (fun _ => 0)), (cAI g q_2 8 (fun _ => 0)), (cAI g q_3 311 (fun _ => 0)), (cAI g q_4 311 (fun _ => 0)), (cAI g q_5 44 (fun _ => 0)), (cAI g q_6 528 (fun _ => 0))] rfl ?_
  refine k_wide 6 2102 (Nat.le_of_ble_eq_true rfl) (Nat.le_of_ble_eq_true rfl) ?_
  refine k_putF (ci := 11) [(cO11_i1r1i10r1i2r4n1i2n12i3n4i2 h0 0 q_1 0 0 0 0 0 0 0 0 (-1) 0 q_2 0 0 q_3 q_4 q_5 q_6 0 0 0 0 0 0 0), (cAI g q_1 900 (fun _ => 0)), (cAI g q_2 8 (fun _ => 0)), (cAI g q_3 311 (fun _ => 0)), (cAI g q_4 311 (fun _ => 0)), (cAI g q_5 44 (fun _ => 0)), (cAI g q_6 528 (fun _ => 0))] X hi inlX11 rfl tyX11_ok nmX11 18 (by decide) rfl rfl dX11_init_58 mw173 0 rfl rfl rfl (Nat.le_of_ble_eq_true rfl) rfl ?_
  refine k_aload_n X dX11_init_61 0 rfl ?_
  refine k_sipush (v := 132) X dX11_init_62 (by decide) ?_
  refine k_newaI 132 X dX11_init_65 mw107 (by decide) (by decide) (by decide) (Nat.le_of_ble_eq_true rfl) (Nat.le_of_ble_eq_true rfl) (fun q_7 => ?_)
  refine k_ws [(cO11_i1r1i10r1i2r4n1i2n12i3n4i2 h0 0 q_1 0 0 0 0 0 0 0 0 (-1) 0 q_2 0 0 q_3 q_4 q_5 q_6 0 0 0 0 0 0 0), (cAI g q_1 900 (fun _ => 0)), (cAI g q_2 8 (fun _ => 0)), (cAI g q_3 311 (fun _ => 0)), (cAI g q_4 311 (fun _ => 0)), (cAI g q_5 44 (fun _ => 0)), (cAI g q_6 528 (fun _ => 0)), (cAI g q_7 132 (fun _ => 0))] rfl ?_
  refine k_wide 7 2234 (Nat.le_of_ble_eq_true rfl) (Nat.le_of_ble_eq_true rfl) ?_
  refine k_putF (ci := 11) [(cO11_i1r1i10r1i2r5i2n12i3n4i2 h0 0 q_1 0 0 0 0 0 0 0 0 (-1) 0 q_2 0 0 q_3 q_4 q_5 q_6 q_7 0 0 0 0 0 0 0), (cAI g q_1 900 (fun _ => 0)), (cAI g q_2 8 (fun _ => 0)), (cAI g q_3 311 (fun _ => 0)), (cAI g q_4 311 (fun _ => 0)), (cAI g q_5 44 (fun _ => 0)), (cAI g q_6 528 (fun _ => 0)), (cAI g q_7 132 (fun _ => 0))] X hi inlX11 rfl tyX11_ok nmX11 19 (by decide) rfl rfl dX11_init_67 mw174 0 rfl rfl rfl (Nat.le_of_ble_eq_true rfl) rfl ?_
  refine k_aload_n X dX11_init_70 0 rfl ?_
  refine k_bipush (v := 8) X dX11_init_71 (by decide) ?_
  refine k_newaI 8 X dX11_init_73 mw107 (by decide) (by decide) (by decide) (Nat.le_of_ble_eq_true rfl) (Nat.le_of_ble_eq_true rfl) (fun q_8 => ?_)
  refine k_ws [(cO11_i1r1i10r1i2r5i2n12i3n4i2 h0 0 q_1 0 0 0 0 0 0 0 0 (-1) 0 q_2 0 0 q_3 q_4 q_5 q_6 q_7 0 0 0 0 0 0 0), (cAI g q_1 900 (fun _ => 0)), (cAI g q_2 8 (fun _ => 0)), (cAI g q_3 311 (fun _ => 0)), (cAI g q_4 311 (fun _ => 0)), (cAI g q_5 44 (fun _ => 0)), (cAI g q_6 528 (fun _ => 0)), (cAI g q_7 132 (fun _ => 0)), (cAI g q_8 8 (fun _ => 0))] rfl ?_
  refine k_wide 8 2242 (Nat.le_of_ble_eq_true rfl) (Nat.le_of_ble_eq_true rfl) ?_
  refine k_putF (ci := 11) [(cO11_i1r1i10r1i2r5i2r1n11i3n4i2 h0 0 q_1 0 0 0 0 0 0 0 0 (-1) 0 q_2 0 0 q_3 q_4 q_5 q_6 q_7 0 0 q_8 0 0 0 0 0), (cAI g q_1 900 (fun _ => 0)), (cAI g q_2 8 (fun _ => 0)), (cAI g q_3 311 (fun _ => 0)), (cAI g q_4 311 (fun _ => 0)), (cAI g q_5 44 (fun _ => 0)), (cAI g q_6 528 (fun _ => 0)), (cAI g q_7 132 (fun _ => 0)), (cAI g q_8 8 (fun _ => 0))] X hi inlX11 rfl tyX11_ok nmX11 22 (by decide) rfl rfl dX11_init_75 mw175 0 rfl rfl rfl (Nat.le_of_ble_eq_true rfl) rfl ?_
  refine k_aload_n X dX11_init_78 0 rfl ?_
  refine k_bipush (v := 8) X dX11_init_79 (by decide) ?_
  refine k_newaI 8 X dX11_init_81 mw107 (by decide) (by decide) (by decide) (Nat.le_of_ble_eq_true rfl) (Nat.le_of_ble_eq_true rfl) (fun q_9 => ?_)
  refine k_ws [(cO11_i1r1i10r1i2r5i2r1n11i3n4i2 h0 0 q_1 0 0 0 0 0 0 0 0 (-1) 0 q_2 0 0 q_3 q_4 q_5 q_6 q_7 0 0 q_8 0 0 0 0 0), (cAI g q_1 900 (fun _ => 0)), (cAI g q_2 8 (fun _ => 0)), (cAI g q_3 311 (fun _ => 0)), (cAI g q_4 311 (fun _ => 0)), (cAI g q_5 44 (fun _ => 0)), (cAI g q_6 528 (fun _ => 0)), (cAI g q_7 132 (fun _ => 0)), (cAI g q_8 8 (fun _ => 0)), (cAI g q_9 8 (fun _ => 0))] rfl ?_
  refine k_wide 9 2250 (Nat.le_of_ble_eq_true rfl) (Nat.le_of_ble_eq_true rfl) ?_
  refine k_putF (ci := 11) [(cO11_i1r1i10r1i2r5i2r2n10i3n4i2 h0 0 q_1 0 0 0 0 0 0 0 0 (-1) 0 q_2 0 0 q_3 q_4 q_5 q_6 q_7 0 0 q_8 q_9 0 0 0 0 0), (cAI g q_1 900 (fun _ => 0)), (cAI g q_2 8 (fun _ => 0)), (cAI g q_3 311 (fun _ => 0)), (cAI g q_4 311 (fun _ => 0)), (cAI g q_5 44 (fun _ => 0)), (cAI g q_6 528 (fun _ => 0)), (cAI g q_7 132 (fun _ => 0)), (cAI g q_8 8 (fun _ => 0)), (cAI g q_9 8 (fun _ => 0))] X hi inlX11 rfl tyX11_ok nmX11 23 (by decide) rfl rfl dX11_init_83 mw176 0 rfl rfl rfl (Nat.le_of_ble_eq_true rfl) rfl ?_
  refine k_aload_n X dX11_init_86 0 rfl ?_
  refine k_bipush (v := 8) X dX11_init_87 (by decide) ?_
  refine k_newaI 8 X dX11_init_89 mw107 (by decide) (by decide) (by decide) (Nat.le_of_ble_eq_true rfl) (Nat.le_of_ble_eq_true rfl) (fun q_10 => ?_)
  refine k_ws [(cO11_i1r1i10r1i2r5i2r2n10i3n4i2 h0 0 q_1 0 0 0 0 0 0 0 0 (-1) 0 q_2 0 0 q_3 q_4 q_5 q_6 q_7 0 0 q_8 q_9 0 0 0 0 0), (cAI g q_1 900 (fun _ => 0)), (cAI g q_2 8 (fun _ => 0)), (cAI g q_3 311 (fun _ => 0)), (cAI g q_4 311 (fun _ => 0)), (cAI g q_5 44 (fun _ => 0)), (cAI g q_6 528 (fun _ => 0)), (cAI g q_7 132 (fun _ => 0)), (cAI g q_8 8 (fun _ => 0)), (cAI g q_9 8 (fun _ => 0)), (cAI g q_10 8 (fun _ => 0))] rfl ?_
  refine k_wide 10 2258 (Nat.le_of_ble_eq_true rfl) (Nat.le_of_ble_eq_true rfl) ?_
  refine k_putF (ci := 11) [(cO11_i1r1i10r1i2r5i2r3n9i3n4i2 h0 0 q_1 0 0 0 0 0 0 0 0 (-1) 0 q_2 0 0 q_3 q_4 q_5 q_6 q_7 0 0 q_8 q_9 q_10 0 0 0 0 0), (cAI g q_1 900 (fun _ => 0)), (cAI g q_2 8 (fun _ => 0)), (cAI g q_3 311 (fun _ => 0)), (cAI g q_4 311 (fun _ => 0)), (cAI g q_5 44 (fun _ => 0)), (cAI g q_6 528 (fun _ => 0)), (cAI g q_7 132 (fun _ => 0)), (cAI g q_8 8 (fun _ => 0)), (cAI g q_9 8 (fun _ => 0)), (cAI g q_10 8 (fun _ => 0))] X hi inlX11 rfl tyX11_ok nmX11 24 (by decide) rfl rfl dX11_init_91 mw177 0 rfl rfl rfl (Nat.le_of_ble_eq_true rfl) rfl ?_
  refine k_aload_n X dX11_init_94 0 rfl ?_
  refine k_bipush (v := 8) X dX11_init_95 (by decide) ?_
  refine k_newaI 8 X dX11_init_97 mw107 (by decide) (by decide) (by decide) (Nat.le_of_ble_eq_true rfl) (Nat.le_of_ble_eq_true rfl) (fun q_11 => ?_)
  refine k_ws [(cO11_i1r1i10r1i2r5i2r3n9i3n4i2 h0 0 q_1 0 0 0 0 0 0 0 0 (-1) 0 q_2 0 0 q_3 q_4 q_5 q_6 q_7 0 0 q_8 q_9 q_10 0 0 0 0 0), (cAI g q_1 900 (fun _ => 0)), (cAI g q_2 8 (fun _ => 0)), (cAI g q_3 311 (fun _ => 0)), (cAI g q_4 311 (fun _ => 0)), (cAI g q_5 44 (fun _ => 0)), (cAI g q_6 528 (fun _ => 0)), (cAI g q_7 132 (fun _ => 0)), (cAI g q_8 8 (fun _ => 0)), (cAI g q_9 8 (fun _ => 0)), (cAI g q_10 8 (fun _ => 0)), (cAI g q_11 8 (fun _ => 0))] rfl ?_
  refine k_wide 11 2266 (Nat.le_of_ble_eq_true rfl) (Nat.le_of_ble_eq_true rfl) ?_
  refine k_putF (ci := 11) [(cO11_i1r1i10r1i2r5i2r4n8i3n4i2 h0 0 q_1 0 0 0 0 0 0 0 0 (-1) 0 q_2 0 0 q_3 q_4 q_5 q_6 q_7 0 0 q_8 q_9 q_10 q_11 0 0 0 0 0), (cAI g q_1 900 (fun _ => 0)), (cAI g q_2 8 (fun _ => 0)), (cAI g q_3 311 (fun _ => 0)), (cAI g q_4 311 (fun _ => 0)), (cAI g q_5 44 (fun _ => 0)), (cAI g q_6 528 (fun _ => 0)), (cAI g q_7 132 (fun _ => 0)), (cAI g q_8 8 (fun _ => 0)), (cAI g q_9 8 (fun _ => 0)), (cAI g q_10 8 (fun _ => 0)), (cAI g q_11 8 (fun _ => 0))] X hi inlX11 rfl tyX11_ok nmX11 25 (by decide) rfl rfl dX11_init_99 mw178 0 rfl rfl rfl (Nat.le_of_ble_eq_true rfl) rfl ?_
  refine k_aload_n X dX11_init_102 0 rfl ?_
  refine k_bipush (v := 8) X dX11_init_103 (by decide) ?_
  refine k_newaI 8 X dX11_init_105 mw107 (by decide) (by decide) (by decide) (Nat.le_of_ble_eq_true rfl) (Nat.le_of_ble_eq_true rfl) (fun q_12 => ?_)
  refine k_ws [(cO11_i1r1i10r1i2r5i2r4n8i3n4i2 h0 0 q_1 0 0 0 0 0 0 0 0 (-1) 0 q_2 0 0 q_3 q_4 q_5 q_6 q_7 0 0 q_8 q_9 q_10 q_11 0 0 0 0 0), (cAI g q_1 900 (fun _ => 0)), (cAI g q_2 8 (fun _ => 0)), (cAI g q_3 311 (fun _ => 0)), (cAI g q_4 311 (fun _ => 0)), (cAI g q_5 44 (fun _ => 0)), (cAI g q_6 528 (fun _ => 0)), (cAI g q_7 132 (fun _ => 0)), (cAI g q_8 8 (fun _ => 0)), (cAI g q_9 8 (fun _ => 0)), (cAI g q_10 8 (fun _ => 0)), (cAI g q_11 8 (fun _ => 0)), (cAI g q_12 8 (fun _ => 0))] rfl ?_
  refine k_wide 12 2274 (Nat.le_of_ble_eq_true rfl) (Nat.le_of_ble_eq_true rfl) ?_
  refine k_putF (ci := 11) [(cO11_i1r1i10r1i2r5i2r5n7i3n4i2 h0 0 q_1 0 0 0 0 0 0 0 0 (-1) 0 q_2 0 0 q_3 q_4 q_5 q_6 q_7 0 0 q_8 q_9 q_10 q_11 q_12 0 0 0 0 0), (cAI g q_1 900 (fun _ => 0)), (cAI g q_2 8 (fun _ => 0)), (cAI g q_3 311 (fun _ => 0)), (cAI g q_4 311 (fun _ => 0)), (cAI g q_5 44 (fun _ => 0)), (cAI g q_6 528 (fun _ => 0)), (cAI g q_7 132 (fun _ => 0)), (cAI g q_8 8 (fun _ => 0)), (cAI g q_9 8 (fun _ => 0)), (cAI g q_10 8 (fun _ => 0)), (cAI g q_11 8 (fun _ => 0)), (cAI g q_12 8 (fun _ => 0))] X hi inlX11 rfl tyX11_ok nmX11 26 (by decide) rfl rfl dX11_init_107 mw179 0 rfl rfl rfl (Nat.le_of_ble_eq_true rfl) rfl ?_
  refine k_aload_n X dX11_init_110 0 rfl ?_
  refine k_bipush (v := 8) X dX11_init_111 (by decide) ?_
  refine k_newaI 8 X dX11_init_113 mw107 (by decide) (by decide) (by decide) (Nat.le_of_ble_eq_true rfl) (Nat.le_of_ble_eq_true rfl) (fun q_13 => ?_)
  refine k_ws [(cO11_i1r1i10r1i2r5i2r5n7i3n4i2 h0 0 q_1 0 0 0 0 0 0 0 0 (-1) 0 q_2 0 0 q_3 q_4 q_5 q_6 q_7 0 0 q_8 q_9 q_10 q_11 q_12 0 0 0 0 0), (cAI g q_1 900 (fun _ => 0)), (cAI g q_2 8 (fun _ => 0)), (cAI g q_3 311 (fun _ => 0)), (cAI g q_4 311 (fun _ => 0)), (cAI g q_5 44 (fun _ => 0)), (cAI g q_6 528 (fun _ => 0)), (cAI g q_7 132 (fun _ => 0)), (cAI g q_8 8 (fun _ => 0)), (cAI g q_9 8 (fun _ => 0)), (cAI g q_10 8 (fun _ => 0)), (cAI g q_11 8 (fun _ => 0)), (cAI g q_12 8 (fun _ => 0)), (cAI g q_13 8 (fun _ => 0))] rfl ?_
  refine k_wide 13 2282 (Nat.le_of_ble_eq_true rfl) (Nat.le_of_ble_eq_true rfl) ?_
  refine k_putF (ci := 11) [(cO11_i1r1i10r1i2r5i2r6n6i3n4i2 h0 0 q_1 0 0 0 0 0 0 0 0 (-1) 0 q_2 0 0 q_3 q_4 q_5 q_6 q_7 0 0 q_8 q_9 q_10 q_11 q_12 q_13 0 0 0 0 0), (cAI g q_1 900 (fun _ => 0)), (cAI g q_2 8 (fun _ => 0)), (cAI g q_3 311 (fun _ => 0)), (cAI g q_4 311 (fun _ => 0)), (cAI g q_5 44 (fun _ => 0)), (cAI g q_6 528 (fun _ => 0)), (cAI g q_7 132 (fun _ => 0)), (cAI g q_8 8 (fun _ => 0)), (cAI g q_9 8 (fun _ => 0)), (cAI g q_10 8 (fun _ => 0)), (cAI g q_11 8 (fun _ => 0)), (cAI g q_12 8 (fun _ => 0)), (cAI g q_13 8 (fun _ => 0))] X hi inlX11 rfl tyX11_ok nmX11 27 (by decide) rfl rfl dX11_init_115 mw180 0 rfl rfl rfl (Nat.le_of_ble_eq_true rfl) rfl ?_
  refine k_aload_n X dX11_init_118 0 rfl ?_
  refine k_bipush (v := 8) X dX11_init_119 (by decide) ?_
  refine k_newaI 8 X dX11_init_121 mw107 (by decide) (by decide) (by decide) (Nat.le_of_ble_eq_true rfl) (Nat.le_of_ble_eq_true rfl) (fun q_14 => ?_)
  refine k_ws [(cO11_i1r1i10r1i2r5i2r6n6i3n4i2 h0 0 q_1 0 0 0 0 0 0 0 0 (-1) 0 q_2 0 0 q_3 q_4 q_5 q_6 q_7 0 0 q_8 q_9 q_10 q_11 q_12 q_13 0 0 0 0 0), (cAI g q_1 900 (fun _ => 0)), (cAI g q_2 8 (fun _ => 0)), (cAI g q_3 311 (fun _ => 0)), (cAI g q_4 311 (fun _ => 0)), (cAI g q_5 44 (fun _ => 0)), (cAI g q_6 528 (fun _ => 0)), (cAI g q_7 132 (fun _ => 0)), (cAI g q_8 8 (fun _ => 0)), (cAI g q_9 8 (fun _ => 0)), (cAI g q_10 8 (fun _ => 0)), (cAI g q_11 8 (fun _ => 0)), (cAI g q_12 8 (fun _ => 0)), (cAI g q_13 8 (fun _ => 0)), (cAI g q_14 8 (fun _ => 0))] rfl ?_
  refine k_wide 14 2290 (Nat.le_of_ble_eq_true rfl) (Nat.le_of_ble_eq_true rfl) ?_
  refine k_putF (ci := 11) [(cO11_i1r1i10r1i2r5i2r7n5i3n4i2 h0 0 q_1 0 0 0 0 0 0 0 0 (-1) 0 q_2 0 0 q_3 q_4 q_5 q_6 q_7 0 0 q_8 q_9 q_10 q_11 q_12 q_13 q_14 0 0 0 0 0), (cAI g q_1 900 (fun _ => 0)), (cAI g q_2 8 (fun _ => 0)), (cAI g q_3 311 (fun _ => 0)), (cAI g q_4 311 (fun _ => 0)), (cAI g q_5 44 (fun _ => 0)), (cAI g q_6 528 (fun _ => 0)), (cAI g q_7 132 (fun _ => 0)), (cAI g q_8 8 (fun _ => 0)), (cAI g q_9 8 (fun _ => 0)), (cAI g q_10 8 (fun _ => 0)), (cAI g q_11 8 (fun _ => 0)), (cAI g q_12 8 (fun _ => 0)), (cAI g q_13 8 (fun _ => 0)), (cAI g q_14 8 (fun _ => 0))] X hi inlX11 rfl tyX11_ok nmX11 28 (by decide) rfl rfl dX11_init_123 mw181 0 rfl rfl rfl (Nat.le_of_ble_eq_true rfl) rfl ?_
  refine k_aload_n X dX11_init_126 0 rfl ?_
  refine k_bipush (v := 8) X dX11_init_127 (by decide) ?_
  refine k_newaI 8 X dX11_init_129 mw107 (by decide) (by decide) (by decide) (Nat.le_of_ble_eq_true rfl) (Nat.le_of_ble_eq_true rfl) (fun q_15 => ?_)
  refine k_ws [(cO11_i1r1i10r1i2r5i2r7n5i3n4i2 h0 0 q_1 0 0 0 0 0 0 0 0 (-1) 0 q_2 0 0 q_3 q_4 q_5 q_6 q_7 0 0 q_8 q_9 q_10 q_11 q_12 q_13 q_14 0 0 0 0 0), (cAI g q_1 900 (fun _ => 0)), (cAI g q_2 8 (fun _ => 0)), (cAI g q_3 311 (fun _ => 0)), (cAI g q_4 311 (fun _ => 0)), (cAI g q_5 44 (fun _ => 0)), (cAI g q_6 528 (fun _ => 0)), (cAI g q_7 132 (fun _ => 0)), (cAI g q_8 8 (fun _ => 0)), (cAI g q_9 8 (fun _ => 0)), (cAI g q_10 8 (fun _ => 0)), (cAI g q_11 8 (fun _ => 0)), (cAI g q_12 8 (fun _ => 0)), (cAI g q_13 8 (fun _ => 0)), (cAI g q_14 8 (fun _ => 0)), (cAI g q_15 8 (fun _ => 0))] rfl ?_
  refine k_wide 15 2298 (Nat.le_of_ble_eq_true rfl) (Nat.le_of_ble_eq_true rfl) ?_
  refine k_putF (ci := 11) [(cO11_i1r1i10r1i2r5i2r8n4i3n4i2 h0 0 q_1 0 0 0 0 0 0 0 0 (-1) 0 q_2 0 0 q_3 q_4 q_5 q_6 q_7 0 0 q_8 q_9 q_10 q_11 q_12 q_13 q_14 q_15 0 0 0 0 0), (cAI g q_1 900 (fun _ => 0)), (cAI g q_2 8 (fun _ => 0)), (cAI g q_3 311 (fun _ => 0)), (cAI g q_4 311 (fun _ => 0)), (cAI g q_5 44 (fun _ => 0)), (cAI g q_6 528 (fun _ => 0)), (cAI g q_7 132 (fun _ => 0)), (cAI g q_8 8 (fun _ => 0)), (cAI g q_9 8 (fun _ => 0)), (cAI g q_10 8 (fun _ => 0)), (cAI g q_11 8 (fun _ => 0)), (cAI g q_12 8 (fun _ => 0)), (cAI g q_13 8 (fun _ => 0)), (cAI g q_14 8 (fun _ => 0)), (cAI g q_15 8 (fun _ => 0))] X hi inlX11 rfl tyX11_ok nmX11 29 (by decide) rfl rfl dX11_init_131 mw182 0 rfl rfl rfl (Nat.le_of_ble_eq_true rfl) rfl ?_
  refine k_aload_n X dX11_init_134 0 rfl ?_
  refine k_bipush (v := 8) X dX11_init_135 (by decide) ?_
  refine k_newaI 8 X dX11_init_137 mw107 (by decide) (by decide) (by decide) (Nat.le_of_ble_eq_true rfl) (Nat.le_of_ble_eq_true rfl) (fun q_16 => ?_)
  refine k_ws [(cO11_i1r1i10r1i2r5i2r8n4i3n4i2 h0 0 q_1 0 0 0 0 0 0 0 0 (-1) 0 q_2 0 0 q_3 q_4 q_5 q_6 q_7 0 0 q_8 q_9 q_10 q_11 q_12 q_13 q_14 q_15 0 0 0 0 0), (cAI g q_1 900 (fun _ => 0)), (cAI g q_2 8 (fun _ => 0)), (cAI g q_3 311 (fun _ => 0)), (cAI g q_4 311 (fun _ => 0)), (cAI g q_5 44 (fun _ => 0)), (cAI g q_6 528 (fun _ => 0)), (cAI g q_7 132 (fun _ => 0)), (cAI g q_8 8 (fun _ => 0)), (cAI g q_9 8 (fun _ => 0)), (cAI g q_10 8 (fun _ => 0)), (cAI g q_11 8 (fun _ => 0)), (cAI g q_12 8 (fun _ => 0)), (cAI g q_13 8 (fun _ => 0)), (cAI g q_14 8 (fun _ => 0)), (cAI g q_15 8 (fun _ => 0)), (cAI g q_16 8 (fun _ => 0))] rfl ?_
  refine k_wide 16 2306 (Nat.le_of_ble_eq_true rfl) (Nat.le_of_ble_eq_true rfl) ?_
  refine k_putF (ci := 11) [(cO11_i1r1i10r1i2r5i2r9n3i3n4i2 h0 0 q_1 0 0 0 0 0 0 0 0 (-1) 0 q_2 0 0 q_3 q_4 q_5 q_6 q_7 0 0 q_8 q_9 q_10 q_11 q_12 q_13 q_14 q_15 q_16 0 0 0 0 0), (cAI g q_1 900 (fun _ => 0)), (cAI g q_2 8 (fun _ => 0)), (cAI g q_3 311 (fun _ => 0)), (cAI g q_4 311 (fun _ => 0)), (cAI g q_5 44 (fun _ => 0)), (cAI g q_6 528 (fun _ => 0)), (cAI g q_7 132 (fun _ => 0)), (cAI g q_8 8 (fun _ => 0)), (cAI g q_9 8 (fun _ => 0)), (cAI g q_10 8 (fun _ => 0)), (cAI g q_11 8 (fun _ => 0)), (cAI g q_12 8 (fun _ => 0)), (cAI g q_13 8 (fun _ => 0)), (cAI g q_14 8 (fun _ => 0)), (cAI g q_15 8 (fun _ => 0)), (cAI g q_16 8 (fun _ => 0))] X hi inlX11 rfl tyX11_ok nmX11 30 (by decide) rfl rfl dX11_init_139 mw183 0 rfl rfl rfl (Nat.le_of_ble_eq_true rfl) rfl ?_
  refine k_aload_n X dX11_init_142 0 rfl ?_
  refine k_bipush (v := 8) X dX11_init_143 (by decide) ?_
  refine k_newaI 8 X dX11_init_145 mw107 (by decide) (by decide) (by decide) (Nat.le_of_ble_eq_true rfl) (Nat.le_of_ble_eq_true rfl) (fun q_17 => ?_)
  refine k_ws [(cO11_i1r1i10r1i2r5i2r9n3i3n4i2 h0 0 q_1 0 0 0 0 0 0 0 0 (-1) 0 q_2 0 0 q_3 q_4 q_5 q_6 q_7 0 0 q_8 q_9 q_10 q_11 q_12 q_13 q_14 q_15 q_16 0 0 0 0 0), (cAI g q_1 900 (fun _ => 0)), (cAI g q_2 8 (fun _ => 0)), (cAI g q_3 311 (fun _ => 0)), (cAI g q_4 311 (fun _ => 0)), (cAI g q_5 44 (fun _ => 0)), (cAI g q_6 528 (fun _ => 0)), (cAI g q_7 132 (fun _ => 0)), (cAI g q_8 8 (fun _ => 0)), (cAI g q_9 8 (fun _ => 0)), (cAI g q_10 8 (fun _ => 0)), (cAI g q_11 8 (fun _ => 0)), (cAI g q_12 8 (fun _ => 0)), (cAI g q_13 8 (fun _ => 0)), (cAI g q_14 8 (fun _ => 0)), (cAI g q_15 8 (fun _ => 0)), (cAI g q_16 8 (fun _ => 0)), (cAI g q_17 8 (fun _ => 0))] rfl ?_
  refine k_wide 17 2314 (Nat.le_of_ble_eq_true rfl) (Nat.le_of_ble_eq_true rfl) ?_
  refine k_putF (ci := 11) [(cO11_i1r1i10r1i2r5i2r10n2i3n4i2 h0 0 q_1 0 0 0 0 0 0 0 0 (-1) 0 q_2 0 0 q_3 q_4 q_5 q_6 q_7 0 0 q_8 q_9 q_10 q_11 q_12 q_13 q_14 q_15 q_16 q_17 0 0 0 0 0), (cAI g q_1 900 (fun _ => 0)), (cAI g q_2 8 (fun _ => 0)), (cAI g q_3 311 (fun _ => 0)), (cAI g q_4 311 (fun _ => 0)), (cAI g q_5 44 (fun _ => 0)), (cAI g q_6 528 (fun _ => 0)), (cAI g q_7 132 (fun _ => 0)), (cAI g q_8 8 (fun _ => 0)), (cAI g q_9 8 (fun _ => 0)), (cAI g q_10 8 (fun _ => 0)), (cAI g q_11 8 (fun _ => 0)), (cAI g q_12 8 (fun _ => 0)), (cAI g q_13 8 (fun _ => 0)), (cAI g q_14 8 (fun _ => 0)), (cAI g q_15 8 (fun _ => 0)), (cAI g q_16 8 (fun _ => 0)), (cAI g q_17 8 (fun _ => 0))] X hi inlX11 rfl tyX11_ok nmX11 31 (by decide) rfl rfl dX11_init_147 mw184 0 rfl rfl rfl (Nat.le_of_ble_eq_true rfl) rfl ?_
  refine k_aload_n X dX11_init_150 0 rfl ?_
  refine k_bipush (v := 8) X dX11_init_151 (by decide) ?_
  refine k_newaI 8 X dX11_init_153 mw107 (by decide) (by decide) (by decide) (Nat.le_of_ble_eq_true rfl) (Nat.le_of_ble_eq_true rfl) (fun q_18 => ?_)
  refine k_ws [(cO11_i1r1i10r1i2r5i2r10n2i3n4i2 h0 0 q_1 0 0 0 0 0 0 0 0 (-1) 0 q_2 0 0 q_3 q_4 q_5 q_6 q_7 0 0 q_8 q_9 q_10 q_11 q_12 q_13 q_14 q_15 q_16 q_17 0 0 0 0 0), (cAI g q_1 900 (fun _ => 0)), (cAI g q_2 8 (fun _ => 0)), (cAI g q_3 311 (fun _ => 0)), (cAI g q_4 311 (fun _ => 0)), (cAI g q_5 44 (fun _ => 0)), (cAI g q_6 528 (fun _ => 0)), (cAI g q_7 132 (fun _ => 0)), (cAI g q_8 8 (fun _ => 0)), (cAI g q_9 8 (fun _ => 0)), (cAI g q_10 8 (fun _ => 0)), (cAI g q_11 8 (fun _ => 0)), (cAI g q_12 8 (fun _ => 0)), (cAI g q_13 8 (fun _ => 0)), (cAI g q_14 8 (fun _ => 0)), (cAI g q_15 8 (fun _ => 0)), (cAI g q_16 8 (fun _ => 0)), (cAI g q_17 8 (fun _ => 0)), (cAI g q_18 8 (fun _ => 0))] rfl ?_
  refine k_wide 18 2322 (Nat.le_of_ble_eq_true rfl) (Nat.le_of_ble_eq_true rfl) ?_
  refine k_putF (ci := 11) [(cO11_i1r1i10r1i2r5i2r11n1i3n4i2 h0 0 q_1 0 0 0 0 0 0 0 0 (-1) 0 q_2 0 0 q_3 q_4 q_5 q_6 q_7 0 0 q_8 q_9 q_10 q_11 q_12 q_13 q_14 q_15 q_16 q_17 q_18 0 0 0 0 0), (cAI g q_1 900 (fun _ => 0)), (cAI g q_2 8 (fun _ => 0)), (cAI g q_3 311 (fun _ => 0)), (cAI g q_4 311 (fun _ => 0)), (cAI g q_5 44 (fun _ => 0)), (cAI g q_6 528 (fun _ => 0)), (cAI g q_7 132 (fun _ => 0)), (cAI g q_8 8 (fun _ => 0)), (cAI g q_9 8 (fun _ => 0)), (cAI g q_10 8 (fun _ => 0)), (cAI g q_11 8 (fun _ => 0)), (cAI g q_12 8 (fun _ => 0)), (cAI g q_13 8 (fun _ => 0)), (cAI g q_14 8 (fun _ => 0)), (cAI g q_15 8 (fun _ => 0)), (cAI g q_16 8 (fun _ => 0)), (cAI g q_17 8 (fun _ => 0)), (cAI g q_18 8 (fun _ => 0))] X hi inlX11 rfl tyX11_ok nmX11 32 (by decide) rfl rfl dX11_init_155 mw185 0 rfl rfl rfl (Nat.le_of_ble_eq_true rfl) rfl ?_
  refine k_aload_n X dX11_init_158 0 rfl ?_
  refine k_iconst (v := 2) X dX11_init_159 (by decide) ?_
  refine k_newaI 2 X dX11_init_160 mw107 (by decide) (by decide) (by decide) (Nat.le_of_ble_eq_true rfl) (Nat.le_of_ble_eq_true rfl) (fun q_19 => ?_)
  refine k_ws ((cO11_i1r1i10r1i2r5i2r11n1i3n4i2 h0 0 q_1 0 0 0 0 0 0 0 0 (-1) 0 q_2 0 0 q_3 q_4 q_5 q_6 q_7 0 0 q_8 q_9 q_10 q_11 q_12 q_13 q_14 q_15 q_16 q_17 q_18 0 0 0 0 0) :: (cAI g q_1 900 (fun _ => 0)) :: (cAI g q_2 8 (fun _ => 0)) :: (cAI g q_3 311 (fun _ => 0)) :: (cAI g q_4 311 (fun _ => 0)) :: (cAI g q_5 44 (fun _ => 0)) :: (cAI g q_6 528 (fun _ => 0)) :: (cAI g q_7 132 (fun _ => 0)) :: (cAI g q_8 8 (fun _ => 0)) :: (cAI g q_9 8 (fun _ => 0)) :: (cAI g q_10 8 (fun _ => 0)) :: (cAI g q_11 8 (fun _ => 0)) :: (cAI g q_12 8 (fun _ => 0)) :: (cAI g q_13 8 (fun _ => 0)) :: (cAI g q_14 8 (fun _ => 0)) :: (cAI g q_15 8 (fun _ => 0)) :: (cAI g q_16 8 (fun _ => 0)) :: (cAI g q_17 8 (fun _ => 0)) :: (cAI g q_18 8 (fun _ => 0)) :: (cAI g q_19 2 (fun _ => 0)) :: []) rfl ?_
  refine k_wide 19 2324 (Nat.le_of_ble_eq_true rfl) (Nat.le_of_ble_eq_true rfl) ?_
  refine k_putF (ci := 11) ((cO11_i1r1i10r1i2r5i2r12i3n4i2 h0 0 q_1 0 0 0 0 0 0 0 0 (-1) 0 q_2 0 0 q_3 q_4 q_5 q_6 q_7 0 0 q_8 q_9 q_10 q_11 q_12 q_13 q_14 q_15 q_16 q_17 q_18 q_19 0 0 0 0 0) :: (cAI g q_1 900 (fun _ => 0)) :: (cAI g q_2 8 (fun _ => 0)) :: (cAI g q_3 311 (fun _ => 0)) :: (cAI g q_4 311 (fun _ => 0)) :: (cAI g q_5 44 (fun _ => 0)) :: (cAI g q_6 528 (fun _ => 0)) :: (cAI g q_7 132 (fun _ => 0)) :: (cAI g q_8 8 (fun _ => 0)) :: (cAI g q_9 8 (fun _ => 0)) :: (cAI g q_10 8 (fun _ => 0)) :: (cAI g q_11 8 (fun _ => 0)) :: (cAI g q_12 8 (fun _ => 0)) :: (cAI g q_13 8 (fun _ => 0)) :: (cAI g q_14 8 (fun _ => 0)) :: (cAI g q_15 8 (fun _ => 0)) :: (cAI g q_16 8 (fun _ => 0)) :: (cAI g q_17 8 (fun _ => 0)) :: (cAI g q_18 8 (fun _ => 0)) :: (cAI g q_19 2 (fun _ => 0)) :: []) X hi inlX11 rfl tyX11_ok nmX11 33 (by decide) rfl rfl dX11_init_162 mw186 0 rfl rfl rfl (Nat.le_of_ble_eq_true rfl) rfl ?_
  refine k_aload_n X dX11_init_165 0 rfl ?_
  refine k_bipush (v := 8) X dX11_init_166 (by decide) ?_
  refine k_newaI 8 X dX11_init_168 mw107 (by decide) (by decide) (by decide) (Nat.le_of_ble_eq_true rfl) (Nat.le_of_ble_eq_true rfl) (fun q_20 => ?_)
  refine k_ws ((cO11_i1r1i10r1i2r5i2r12i3n4i2 h0 0 q_1 0 0 0 0 0 0 0 0 (-1) 0 q_2 0 0 q_3 q_4 q_5 q_6 q_7 0 0 q_8 q_9 q_10 q_11 q_12 q_13 q_14 q_15 q_16 q_17 q_18 q_19 0 0 0 0 0) :: (cAI g q_1 900 (fun _ => 0)) :: (cAI g q_2 8 (fun _ => 0)) :: (cAI g q_3 311 (fun _ => 0)) :: (cAI g q_4 311 (fun _ => 0)) :: (cAI g q_5 44 (fun _ => 0)) :: (cAI g q_6 528 (fun _ => 0)) :: (cAI g q_7 132 (fun _ => 0)) :: (cAI g q_8 8 (fun _ => 0)) :: (cAI g q_9 8 (fun _ => 0)) :: (cAI g q_10 8 (fun _ => 0)) :: (cAI g q_11 8 (fun _ => 0)) :: (cAI g q_12 8 (fun _ => 0)) :: (cAI g q_13 8 (fun _ => 0)) :: (cAI g q_14 8 (fun _ => 0)) :: (cAI g q_15 8 (fun _ => 0)) :: (cAI g q_16 8 (fun _ => 0)) :: (cAI g q_17 8 (fun _ => 0)) :: (cAI g q_18 8 (fun _ => 0)) :: (cAI g q_19 2 (fun _ => 0)) :: (cAI g q_20 8 (fun _ => 0)) :: []) rfl ?_
  refine k_wide 20 2332 (Nat.le_of_ble_eq_true rfl) (Nat.le_of_ble_eq_true rfl) ?_
  refine k_putF (ci := 11) ((cO11_i1r1i10r1i2r5i2r12i3r1n3i2 h0 0 q_1 0 0 0 0 0 0 0 0 (-1) 0 q_2 0 0 q_3 q_4 q_5 q_6 q_7 0 0 q_8 q_9 q_10 q_11 q_12 q_13 q_14 q_15 q_16 q_17 q_18 q_19 0 0 0 q_20 0 0) :: (cAI g q_1 900 (fun _ => 0)) :: (cAI g q_2 8 (fun _ => 0)) :: (cAI g q_3 311 (fun _ => 0)) :: (cAI g q_4 311 (fun _ => 0)) :: (cAI g q_5 44 (fun _ => 0)) :: (cAI g q_6 528 (fun _ => 0)) :: (cAI g q_7 132 (fun _ => 0)) :: (cAI g q_8 8 (fun _ => 0)) :: (cAI g q_9 8 (fun _ => 0)) :: (cAI g q_10 8 (fun _ => 0)) :: (cAI g q_11 8 (fun _ => 0)) :: (cAI g q_12 8 (fun _ => 0)) :: (cAI g q_13 8 (fun _ => 0)) :: (cAI g q_14 8 (fun _ => 0)) :: (cAI g q_15 8 (fun _ => 0)) :: (cAI g q_16 8 (fun _ => 0)) :: (cAI g q_17 8 (fun _ => 0)) :: (cAI g q_18 8 (fun _ => 0)) :: (cAI g q_19 2 (fun _ => 0)) :: (cAI g q_20 8 (fun _ => 0)) :: []) X hi inlX11 rfl tyX11_ok nmX11 37 (by decide) rfl rfl dX11_init_170 mw187 0 rfl rfl rfl (Nat.le_of_ble_eq_true rfl) rfl ?_
  refine k_aload_n X dX11_init_173 0 rfl ?_
  refine k_iconst (v := 4) X dX11_init_174 (by decide) ?_
  refine k_newaI 4 X dX11_init_175 mw107 (by decide) (by decide) (by decide) (Nat.le_of_ble_eq_true rfl) (Nat.le_of_ble_eq_true rfl) (fun q_21 => ?_)
  refine k_ws ((cO11_i1r1i10r1i2r5i2r12i3r1n3i2 h0 0 q_1 0 0 0 0 0 0 0 0 (-1) 0 q_2 0 0 q_3 q_4 q_5 q_6 q_7 0 0 q_8 q_9 q_10 q_11 q_12 q_13 q_14 q_15 q_16 q_17 q_18 q_19 0 0 0 q_20 0 0) :: (cAI g q_1 900 (fun _ => 0)) :: (cAI g q_2 8 (fun _ => 0)) :: (cAI g q_3 311 (fun _ => 0)) :: (cAI g q_4 311 (fun _ => 0)) :: (cAI g q_5 44 (fun _ => 0)) :: (cAI g q_6 528 (fun _ => 0)) :: (cAI g q_7 132 (fun _ => 0)) :: (cAI g q_8 8 (fun _ => 0)) :: (cAI g q_9 8 (fun _ => 0)) :: (cAI g q_10 8 (fun _ => 0)) :: (cAI g q_11 8 (fun _ => 0)) :: (cAI g q_12 8 (fun _ => 0)) :: (cAI g q_13 8 (fun _ => 0)) :: (cAI g q_14 8 (fun _ => 0)) :: (cAI g q_15 8 (fun _ => 0)) :: (cAI g q_16 8 (fun _ => 0)) :: (cAI g q_17 8 (fun _ => 0)) :: (cAI g q_18 8 (fun _ => 0)) :: (cAI g q_19 2 (fun _ => 0)) :: (cAI g q_20 8 (fun _ => 0)) :: (cAI g q_21 4 (fun _ => 0)) :: []) rfl ?_
  refine k_wide 21 2336 (Nat.le_of_ble_eq_true rfl) (Nat.le_of_ble_eq_true rfl) ?_
  refine k_putF (ci := 11) ((cO11_i1r1i10r1i2r5i2r12i3r2n2i2 h0 0 q_1 0 0 0 0 0 0 0 0 (-1) 0 q_2 0 0 q_3 q_4 q_5 q_6 q_7 0 0 q_8 q_9 q_10 q_11 q_12 q_13 q_14 q_15 q_16 q_17 q_18 q_19 0 0 0 q_20 q_21 0 0) :: (cAI g q_1 900 (fun _ => 0)) :: (cAI g q_2 8 (fun _ => 0)) :: (cAI g q_3 311 (fun _ => 0)) :: (cAI g q_4 311 (fun _ => 0)) :: (cAI g q_5 44 (fun _ => 0)) :: (cAI g q_6 528 (fun _ => 0)) :: (cAI g q_7 132 (fun _ => 0)) :: (cAI g q_8 8 (fun _ => 0)) :: (cAI g q_9 8 (fun _ => 0)) :: (cAI g q_10 8 (fun _ => 0)) :: (cAI g q_11 8 (fun _ => 0)) :: (cAI g q_12 8 (fun _ => 0)) :: (cAI g q_13 8 (fun _ => 0)) :: (cAI g q_14 8 (fun _ => 0)) :: (cAI g q_15 8 (fun _ => 0)) :: (cAI g q_16 8 (fun _ => 0)) :: (cAI g q_17 8 (fun _ => 0)) :: (cAI g q_18 8 (fun _ => 0)) :: (cAI g q_19 2 (fun _ => 0)) :: (cAI g q_20 8 (fun _ => 0)) :: (cAI g q_21 4 (fun _ => 0)) :: []) X hi inlX11 rfl tyX11_ok nmX11 38 (by decide) rfl rfl dX11_init_177 mw188 0 rfl rfl rfl (Nat.le_of_ble_eq_true rfl) rfl ?_
  refine k_aload_n X dX11_init_180 0 rfl ?_
  refine k_bipush (v := 8) X dX11_init_181 (by decide) ?_
  refine k_newaI 8 X dX11_init_183 mw107 (by decide) (by decide) (by decide) (Nat.le_of_ble_eq_true rfl) (Nat.le_of_ble_eq_true rfl) (fun q_22 => ?_)
  refine k_ws ((cO11_i1r1i10r1i2r5i2r12i3r2n2i2 h0 0 q_1 0 0 0 0 0 0 0 0 (-1) 0 q_2 0 0 q_3 q_4 q_5 q_6 q_7 0 0 q_8 q_9 q_10 q_11 q_12 q_13 q_14 q_15 q_16 q_17 q_18 q_19 0 0 0 q_20 q_21 0 0) :: (cAI g q_1 900 (fun _ => 0)) :: (cAI g q_2 8 (fun _ => 0)) :: (cAI g q_3 311 (fun _ => 0)) :: (cAI g q_4 311 (fun _ => 0)) :: (cAI g q_5 44 (fun _ => 0)) :: (cAI g q_6 528 (fun _ => 0)) :: (cAI g q_7 132 (fun _ => 0)) :: (cAI g q_8 8 (fun _ => 0)) :: (cAI g q_9 8 (fun _ => 0)) :: (cAI g q_10 8 (fun _ => 0)) :: (cAI g q_11 8 (fun _ => 0)) :: (cAI g q_12 8 (fun _ => 0)) :: (cAI g q_13 8 (fun _ => 0)) :: (cAI g q_14 8 (fun _ => 0)) :: (cAI g q_15 8 (fun _ => 0)) :: (cAI g q_16 8 (fun _ => 0)) :: (cAI g q_17 8 (fun _ => 0)) :: (cAI g q_18 8 (fun _ => 0)) :: (cAI g q_19 2 (fun _ => 0)) :: (cAI g q_20 8 (fun _ => 0)) :: (cAI g q_21 4 (fun _ => 0)) :: (cAI g q_22 8 (fun _ => 0)) :: []) rfl ?_
  refine k_wide 22 2344 (Nat.le_of_ble_eq_true rfl) (Nat.le_of_ble_eq_true rfl) ?_
  refine k_putF (ci := 11) ((cO11_i1r1i10r1i2r5i2r12i3r3n1i2 h0 0 q_1 0 0 0 0 0 0 0 0 (-1) 0 q_2 0 0 q_3 q_4 q_5 q_6 q_7 0 0 q_8 q_9 q_10 q_11 q_12 q_13 q_14 q_15 q_16 q_17 q_18 q_19 0 0 0 q_20 q_21 q_22 0 0) :: (cAI g q_1 900 (fun _ => 0)) :: (cAI g q_2 8 (fun _ => 0)) :: (cAI g q_3 311 (fun _ => 0)) :: (cAI g q_4 311 (fun _ => 0)) :: (cAI g q_5 44 (fun _ => 0)) :: (cAI g q_6 528 (fun _ => 0)) :: (cAI g q_7 132 (fun _ => 0)) :: (cAI g q_8 8 (fun _ => 0)) :: (cAI g q_9 8 (fun _ => 0)) :: (cAI g q_10 8 (fun _ => 0)) :: (cAI g q_11 8 (fun _ => 0)) :: (cAI g q_12 8 (fun _ => 0)) :: (cAI g q_13 8 (fun _ => 0)) :: (cAI g q_14 8 (fun _ => 0)) :: (cAI g q_15 8 (fun _ => 0)) :: (cAI g q_16 8 (fun _ => 0)) :: (cAI g q_17 8 (fun _ => 0)) :: (cAI g q_18 8 (fun _ => 0)) :: (cAI g q_19 2 (fun _ => 0)) :: (cAI g q_20 8 (fun _ => 0)) :: (cAI g q_21 4 (fun _ => 0)) :: (cAI g q_22 8 (fun _ => 0)) :: []) X hi inlX11 rfl tyX11_ok nmX11 39 (by decide) rfl rfl dX11_init_185 mw189 0 rfl rfl rfl (Nat.le_of_ble_eq_true rfl) rfl ?_
  refine k_aload_n X dX11_init_188 0 rfl ?_
  refine k_sipush (v := 256) X dX11_init_189 (by decide) ?_
  refine k_newaI 256 X dX11_init_192 mw107 (by decide) (by decide) (by decide) (Nat.le_of_ble_eq_true rfl) (Nat.le_of_ble_eq_true rfl) (fun q_23 => ?_)
  refine k_ws ((cO11_i1r1i10r1i2r5i2r12i3r3n1i2 h0 0 q_1 0 0 0 0 0 0 0 0 (-1) 0 q_2 0 0 q_3 q_4 q_5 q_6 q_7 0 0 q_8 q_9 q_10 q_11 q_12 q_13 q_14 q_15 q_16 q_17 q_18 q_19 0 0 0 q_20 q_21 q_22 0 0) :: (cAI g q_1 900 (fun _ => 0)) :: (cAI g q_2 8 (fun _ => 0)) :: (cAI g q_3 311 (fun _ => 0)) :: (cAI g q_4 311 (fun _ => 0)) :: (cAI g q_5 44 (fun _ => 0)) :: (cAI g q_6 528 (fun _ => 0)) :: (cAI g q_7 132 (fun _ => 0)) :: (cAI g q_8 8 (fun _ => 0)) :: (cAI g q_9 8 (fun _ => 0)) :: (cAI g q_10 8 (fun _ => 0)) :: (cAI g q_11 8 (fun _ => 0)) :: (cAI g q_12 8 (fun _ => 0)) :: (cAI g q_13 8 (fun _ => 0)) :: (cAI g q_14 8 (fun _ => 0)) :: (cAI g q_15 8 (fun _ => 0)) :: (cAI g q_16 8 (fun _ => 0)) :: (cAI g q_17 8 (fun _ => 0)) :: (cAI g q_18 8 (fun _ => 0)) :: (cAI g q_19 2 (fun _ => 0)) :: (cAI g q_20 8 (fun _ => 0)) :: (cAI g q_21 4 (fun _ => 0)) :: (cAI g q_22 8 (fun _ => 0)) :: (cAI g q_23 256 (fun _ => 0)) :: []) rfl ?_
  refine k_wide 23 2600 (Nat.le_of_ble_eq_true rfl) (Nat.le_of_ble_eq_true rfl) ?_
  refine k_putF (ci := 11) ((cO11_i1r1i10r1i2r5i2r12i3r4i2 h0 0 q_1 0 0 0 0 0 0 0 0 (-1) 0 q_2 0 0 q_3 q_4 q_5 q_6 q_7 0 0 q_8 q_9 q_10 q_11 q_12 q_13 q_14 q_15 q_16 q_17 q_18 q_19 0 0 0 q_20 q_21 q_22 q_23 0 0) :: (cAI g q_1 900 (fun _ => 0)) :: (cAI g q_2 8 (fun _ => 0)) :: (cAI g q_3 311 (fun _ => 0)) :: (cAI g q_4 311 (fun _ => 0)) :: (cAI g q_5 44 (fun _ => 0)) :: (cAI g q_6 528 (fun _ => 0)) :: (cAI g q_7 132 (fun _ => 0)) :: (cAI g q_8 8 (fun _ => 0)) :: (cAI g q_9 8 (fun _ => 0)) :: (cAI g q_10 8 (fun _ => 0)) :: (cAI g q_11 8 (fun _ => 0)) :: (cAI g q_12 8 (fun _ => 0)) :: (cAI g q_13 8 (fun _ => 0)) :: (cAI g q_14 8 (fun _ => 0)) :: (cAI g q_15 8 (fun _ => 0)) :: (cAI g q_16 8 (fun _ => 0)) :: (cAI g q_17 8 (fun _ => 0)) :: (cAI g q_18 8 (fun _ => 0)) :: (cAI g q_19 2 (fun _ => 0)) :: (cAI g q_20 8 (fun _ => 0)) :: (cAI g q_21 4 (fun _ => 0)) :: (cAI g q_22 8 (fun _ => 0)) :: (cAI g q_23 256 (fun _ => 0)) :: []) X hi inlX11 rfl tyX11_ok nmX11 40 (by decide) rfl rfl dX11_init_194 mw190 0 rfl rfl rfl (Nat.le_of_ble_eq_true rfl) rfl ?_
  exact k_vret X hr dX11_init_197 (Nat.le_of_ble_eq_true rfl) (Nat.le_of_ble_eq_true rfl) [0, 1, 2, 3, 4, 5, 6, 7, 8, 9, 10, 11, 12, 13, 14, 15, 16, 17, 18, 19, 20, 21, 22, 23] (by decide) rfl rfl ⟨q_1, q_2, q_3, q_4, q_5, q_6, q_7, q_8, q_9, q_10, q_11, q_12, q_13, q_14, q_15, q_16, q_17, q_18, q_19, q_20, q_21, q_22, q_23, rfl⟩
