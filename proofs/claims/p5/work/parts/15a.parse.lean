theorem dX11_look_0 : decode cX11_look 0 = .ok (.iload_n 1, 1) := by decide +kernel
theorem dX11_look_1 : decode cX11_look 1 = .ok (.aload_n 0, 1) := by decide +kernel
theorem dX11_look_2 : decode cX11_look 2 = .ok (.getfield 92, 3) := by decide +kernel
theorem dX11_look_5 : decode cX11_look 5 = .ok (.if_icmp .ge 12, 3) := by decide +kernel
theorem dX11_look_8 : decode cX11_look 8 = .ok (.aload_n 0, 1) := by decide +kernel
theorem dX11_look_9 : decode cX11_look 9 = .ok (.getfield 7, 3) := by decide +kernel
theorem dX11_look_12 : decode cX11_look 12 = .ok (.iload_n 1, 1) := by decide +kernel
theorem dX11_look_13 : decode cX11_look 13 = .ok (.iaload, 1) := by decide +kernel
theorem dX11_look_14 : decode cX11_look 14 = .ok (.goto 4, 3) := by decide +kernel
theorem dX11_look_17 : decode cX11_look 17 = .ok (.iconst (-1), 1) := by decide +kernel
theorem dX11_look_18 : decode cX11_look 18 = .ok (.ireturn, 1) := by decide +kernel
set_option maxHeartbeats 4000000 in
set_option maxRecDepth 100000 in
theorem m_look (l : Launch) (g : Gx) (h0 : Nat) (p0 : Int32) (m_thrown : Int32) (a_tape : Nat) (m_taped : Int32) (m_size : Int32) (m_at : Int32) (m_end : Int32) (m_token : Int32) (m_whole : Int32) (m_nameSize : Int32) (m_fault : Int32) (m_place : Int32) (m_trouble : Int32) (a_letters : Nat) (m_failed : Int32) (m_hasHouse : Int32) (a_r : Nat) (a_fresh : Nat) (a_st : Nat) (a_undone : Nat) (a_kept : Nat) (m_undos : Int32) (m_images : Int32) (a_from : Nat) (a_begin : Nat) (a_motor : Nat) (a_change : Nat) (a_startFrame : Nat) (a_changeFrame : Nat) (a_lostAt : Nat) (a_blackAt : Nat) (a_slips : Nat) (a_leftArc : Nat) (a_died : Nat) (a_arcs : Nat) (m_bestSum : Int32) (m_nearest : Int32) (m_nearestTown : Int32) (a_there : Nat) (a_backAt : Nat) (a_sorted : Nat) (a_parts : Nat) (m_seed1 : Int32) (m_darkNow : Int32) (d_tape : Nat → Int32) (hv_p0 : IV p0 0 2147483647) (hv_m_size : IV m_size 0 900) : cI l g yX11_look cX11_look 2 (some .int) 0 0 0 0 [.ref h0, .int p0] [(h0, .inr (11, [.int m_thrown, .ref a_tape, .int m_taped, .int m_size, .int m_at, .int m_end, .int m_token, .int m_whole, .int m_nameSize, .int m_fault, .int m_place, .int m_trouble, .ref a_letters, .int m_failed, .int m_hasHouse, .ref a_r, .ref a_fresh, .ref a_st, .ref a_undone, .ref a_kept, .int m_undos, .int m_images, .ref a_from, .ref a_begin, .ref a_motor, .ref a_change, .ref a_startFrame, .ref a_changeFrame, .ref a_lostAt, .ref a_blackAt, .ref a_slips, .ref a_leftArc, .ref a_died, .ref a_arcs, .int m_bestSum, .int m_nearest, .int m_nearestTown, .ref a_there, .ref a_backAt, .ref a_sorted, .ref a_parts, .int m_seed1, .int m_darkNow])), (a_tape, .inl (g.2.2.1, 900, .inl d_tape))] (fun r w => (r = lookF d_tape m_size p0) ∧ (r = (-1) ∨ (IV p0 0 899 ∧ p0.toInt < m_size.toInt)) ∧ w = [(h0, .inr (11, [.int m_thrown, .ref a_tape, .int m_taped, .int m_size, .int m_at, .int m_end, .int m_token, .int m_whole, .int m_nameSize, .int m_fault, .int m_place, .int m_trouble, .ref a_letters, .int m_failed, .int m_hasHouse, .ref a_r, .ref a_fresh, .ref a_st, .ref a_undone, .ref a_kept, .int m_undos, .int m_images, .ref a_from, .ref a_begin, .ref a_motor, .ref a_change, .ref a_startFrame, .ref a_changeFrame, .ref a_lostAt, .ref a_blackAt, .ref a_slips, .ref a_leftArc, .ref a_died, .ref a_arcs, .int m_bestSum, .int m_nearest, .int m_nearestTown, .ref a_there, .ref a_backAt, .ref a_sorted, .ref a_parts, .int m_seed1, .int m_darkNow])), (a_tape, .inl (g.2.2.1, 900, .inl d_tape))]) := by
  refine cI.of (by decide) (Nat.le_of_ble_eq_true rfl) ?_
  intro p e s m args below meth c A X hr hi
  refine k_lveq [(0, .ref h0), (1, .int p0)] rfl ?_
  refine k_iload_n X dX11_look_0 1 rfl ?_
  refine k_aload_n X dX11_look_1 0 rfl ?_
  refine k_get (ci := 11) X inlX11 rfl 3 (by decide) dX11_look_2 mw470 0 rfl rfl ?_
  refine k_ic_ge 17 X dX11_look_5 (by decide) (fun h_1 => ?_) (fun h_1 => ?_)
  · skip
    have j_2 : m_size.toInt ≤ p0.toInt := iv_le h_1
    refine k_iconst (v := -1) X dX11_look_17 (by decide) ?_
    exact k_iret X hr dX11_look_18 (Nat.le_of_ble_eq_true rfl) (Nat.le_of_ble_eq_true rfl) [0, 1] (by decide) rfl rfl ⟨(by unfold lookF; first | rw [if_neg (by assumption)] | (rw [if_pos (Int32.not_le.mp (by assumption))]; assumption) | (rw [if_neg (Int32.not_lt.mpr (by assumption))])), (Or.inl (iv_eq (show IV (-1) (-1) (-1) from (by decide)) (show IV (-1) (-1) (-1) from (by decide)))), rfl⟩
  · skip
    have j_3 : p0.toInt < m_size.toInt := iv_nle h_1
    have iv_4 : IV p0 0 899 := iv_ltL (iv_nle h_1) hv_p0 hv_m_size (by decide)
    have iv_5 : IV m_size 1 900 := iv_ltR (iv_nle h_1) hv_p0 hv_m_size (by decide)
    refine k_aload_n X dX11_look_8 0 rfl ?_
    refine k_get (ci := 11) X inlX11 rfl 1 (by decide) dX11_look_9 mw167 0 rfl rfl ?_
    refine k_iload_n X dX11_look_12 1 rfl ?_
    refine k_iald X dX11_look_13 1 rfl (iv_in iv_4 (by decide) (by decide)) ?_
    refine k_nm (fun z_6 ez_6 => ?_)
    refine k_goto 18 X dX11_look_14 (by decide) ?_
    exact k_iret X hr dX11_look_18 (Nat.le_of_ble_eq_true rfl) (Nat.le_of_ble_eq_true rfl) [0, 1] (by decide) rfl rfl ⟨(by unfold lookF; first | rw [if_neg (by assumption)] | (rw [if_pos (Int32.not_le.mp (by assumption))]; assumption) | (rw [if_neg (Int32.not_lt.mpr (by assumption))])), (Or.inr ⟨(iv_w iv_4 (by decide) (by decide)), (by omega)⟩), rfl⟩

theorem dX11_next_0 : decode cX11_next 0 = .ok (.aload_n 0, 1) := by decide +kernel
theorem dX11_next_1 : decode cX11_next 1 = .ok (.getfield 95, 3) := by decide +kernel
theorem dX11_next_4 : decode cX11_next 4 = .ok (.istore_n 1, 1) := by decide +kernel
theorem dX11_next_5 : decode cX11_next 5 = .ok (.aload_n 0, 1) := by decide +kernel
theorem dX11_next_6 : decode cX11_next 6 = .ok (.iload_n 1, 1) := by decide +kernel
theorem dX11_next_7 : decode cX11_next 7 = .ok (.invokevirtual 98, 3) := by decide +kernel
theorem dX11_next_10 : decode cX11_next 10 = .ok (.bipush 32, 2) := by decide +kernel
theorem dX11_next_12 : decode cX11_next 12 = .ok (.if_icmp .ne 9, 3) := by decide +kernel
theorem dX11_next_15 : decode cX11_next 15 = .ok (.iinc 1 1, 3) := by decide +kernel
theorem dX11_next_18 : decode cX11_next 18 = .ok (.goto (-13), 3) := by decide +kernel
theorem dX11_next_21 : decode cX11_next 21 = .ok (.aload_n 0, 1) := by decide +kernel
theorem dX11_next_22 : decode cX11_next 22 = .ok (.iload_n 1, 1) := by decide +kernel
theorem dX11_next_23 : decode cX11_next 23 = .ok (.putfield 102, 3) := by decide +kernel
theorem dX11_next_26 : decode cX11_next 26 = .ok (.aload_n 0, 1) := by decide +kernel
theorem dX11_next_27 : decode cX11_next 27 = .ok (.iload_n 1, 1) := by decide +kernel
theorem dX11_next_28 : decode cX11_next 28 = .ok (.invokevirtual 98, 3) := by decide +kernel
theorem dX11_next_31 : decode cX11_next 31 = .ok (.istore_n 2, 1) := by decide +kernel
theorem dX11_next_32 : decode cX11_next 32 = .ok (.aload_n 0, 1) := by decide +kernel
theorem dX11_next_33 : decode cX11_next 33 = .ok (.iconst 0, 1) := by decide +kernel
theorem dX11_next_34 : decode cX11_next 34 = .ok (.putfield 105, 3) := by decide +kernel
theorem dX11_next_37 : decode cX11_next 37 = .ok (.aload_n 0, 1) := by decide +kernel
theorem dX11_next_38 : decode cX11_next 38 = .ok (.iconst 0, 1) := by decide +kernel
theorem dX11_next_39 : decode cX11_next 39 = .ok (.putfield 108, 3) := by decide +kernel
theorem dX11_next_42 : decode cX11_next 42 = .ok (.iload_n 2, 1) := by decide +kernel
theorem dX11_next_43 : decode cX11_next 43 = .ok (.iconst (-1), 1) := by decide +kernel
theorem dX11_next_44 : decode cX11_next 44 = .ok (.if_icmp .ne 16, 3) := by decide +kernel
theorem dX11_next_47 : decode cX11_next 47 = .ok (.aload_n 0, 1) := by decide +kernel
theorem dX11_next_48 : decode cX11_next 48 = .ok (.iconst 0, 1) := by decide +kernel
theorem dX11_next_49 : decode cX11_next 49 = .ok (.putfield 111, 3) := by decide +kernel
theorem dX11_next_52 : decode cX11_next 52 = .ok (.aload_n 0, 1) := by decide +kernel
theorem dX11_next_53 : decode cX11_next 53 = .ok (.iload_n 1, 1) := by decide +kernel
theorem dX11_next_54 : decode cX11_next 54 = .ok (.putfield 95, 3) := by decide +kernel
theorem dX11_next_57 : decode cX11_next 57 = .ok (.goto 190, 3) := by decide +kernel
theorem dX11_next_60 : decode cX11_next 60 = .ok (.iload_n 2, 1) := by decide +kernel
theorem dX11_next_61 : decode cX11_next 61 = .ok (.invokestatic 114, 3) := by decide +kernel
theorem dX11_next_64 : decode cX11_next 64 = .ok (.ifCond .eq 79, 3) := by decide +kernel
theorem dX11_next_67 : decode cX11_next 67 = .ok (.aload_n 0, 1) := by decide +kernel
theorem dX11_next_68 : decode cX11_next 68 = .ok (.iload_n 1, 1) := by decide +kernel
theorem dX11_next_69 : decode cX11_next 69 = .ok (.invokevirtual 98, 3) := by decide +kernel
theorem dX11_next_72 : decode cX11_next 72 = .ok (.invokestatic 114, 3) := by decide +kernel
theorem dX11_next_75 : decode cX11_next 75 = .ok (.ifCond .eq 42, 3) := by decide +kernel
theorem dX11_next_78 : decode cX11_next 78 = .ok (.aload_n 0, 1) := by decide +kernel
theorem dX11_next_79 : decode cX11_next 79 = .ok (.getfield 105, 3) := by decide +kernel
theorem dX11_next_82 : decode cX11_next 82 = .ok (.bipush 8, 2) := by decide +kernel
theorem dX11_next_84 : decode cX11_next 84 = .ok (.if_icmp .ge 17, 3) := by decide +kernel
theorem dX11_next_87 : decode cX11_next 87 = .ok (.aload_n 0, 1) := by decide +kernel
theorem dX11_next_88 : decode cX11_next 88 = .ok (.getfield 17, 3) := by decide +kernel
theorem dX11_next_91 : decode cX11_next 91 = .ok (.aload_n 0, 1) := by decide +kernel
theorem dX11_next_92 : decode cX11_next 92 = .ok (.getfield 105, 3) := by decide +kernel
theorem dX11_next_95 : decode cX11_next 95 = .ok (.aload_n 0, 1) := by decide +kernel
theorem dX11_next_96 : decode cX11_next 96 = .ok (.iload_n 1, 1) := by decide +kernel
theorem dX11_next_97 : decode cX11_next 97 = .ok (.invokevirtual 98, 3) := by decide +kernel
theorem dX11_next_100 : decode cX11_next 100 = .ok (.iastore, 1) := by decide +kernel
theorem dX11_next_101 : decode cX11_next 101 = .ok (.aload_n 0, 1) := by decide +kernel
theorem dX11_next_102 : decode cX11_next 102 = .ok (.dup, 1) := by decide +kernel
theorem dX11_next_103 : decode cX11_next 103 = .ok (.getfield 105, 3) := by decide +kernel
theorem dX11_next_106 : decode cX11_next 106 = .ok (.iconst 1, 1) := by decide +kernel
theorem dX11_next_107 : decode cX11_next 107 = .ok (.iadd, 1) := by decide +kernel
theorem dX11_next_108 : decode cX11_next 108 = .ok (.putfield 105, 3) := by decide +kernel
theorem dX11_next_111 : decode cX11_next 111 = .ok (.iinc 1 1, 3) := by decide +kernel
theorem dX11_next_114 : decode cX11_next 114 = .ok (.goto (-47), 3) := by decide +kernel
theorem dX11_next_117 : decode cX11_next 117 = .ok (.aload_n 0, 1) := by decide +kernel
theorem dX11_next_118 : decode cX11_next 118 = .ok (.iload_n 1, 1) := by decide +kernel
theorem dX11_next_119 : decode cX11_next 119 = .ok (.putfield 95, 3) := by decide +kernel
theorem dX11_next_122 : decode cX11_next 122 = .ok (.aload_n 0, 1) := by decide +kernel
theorem dX11_next_123 : decode cX11_next 123 = .ok (.aload_n 0, 1) := by decide +kernel
theorem dX11_next_124 : decode cX11_next 124 = .ok (.getfield 105, 3) := by decide +kernel
theorem dX11_next_127 : decode cX11_next 127 = .ok (.bipush 8, 2) := by decide +kernel
theorem dX11_next_129 : decode cX11_next 129 = .ok (.if_icmp .le 7, 3) := by decide +kernel
theorem dX11_next_132 : decode cX11_next 132 = .ok (.iconst 1, 1) := by decide +kernel
theorem dX11_next_133 : decode cX11_next 133 = .ok (.goto 4, 3) := by decide +kernel
theorem dX11_next_136 : decode cX11_next 136 = .ok (.iconst 2, 1) := by decide +kernel
theorem dX11_next_137 : decode cX11_next 137 = .ok (.putfield 111, 3) := by decide +kernel
theorem dX11_next_140 : decode cX11_next 140 = .ok (.goto 107, 3) := by decide +kernel
theorem dX11_next_143 : decode cX11_next 143 = .ok (.iload_n 2, 1) := by decide +kernel
theorem dX11_next_144 : decode cX11_next 144 = .ok (.invokestatic 118, 3) := by decide +kernel
theorem dX11_next_147 : decode cX11_next 147 = .ok (.ifCond .eq 72, 3) := by decide +kernel
theorem dX11_next_150 : decode cX11_next 150 = .ok (.iconst 0, 1) := by decide +kernel
theorem dX11_next_151 : decode cX11_next 151 = .ok (.istore_n 3, 1) := by decide +kernel
theorem dX11_next_152 : decode cX11_next 152 = .ok (.aload_n 0, 1) := by decide +kernel
theorem dX11_next_153 : decode cX11_next 153 = .ok (.iload_n 1, 1) := by decide +kernel
theorem dX11_next_154 : decode cX11_next 154 = .ok (.invokevirtual 98, 3) := by decide +kernel
theorem dX11_next_157 : decode cX11_next 157 = .ok (.invokestatic 118, 3) := by decide +kernel
theorem dX11_next_160 : decode cX11_next 160 = .ok (.ifCond .eq 37, 3) := by decide +kernel
theorem dX11_next_163 : decode cX11_next 163 = .ok (.iload_n 3, 1) := by decide +kernel
theorem dX11_next_164 : decode cX11_next 164 = .ok (.iconst 4, 1) := by decide +kernel
theorem dX11_next_165 : decode cX11_next 165 = .ok (.if_icmp .ge 23, 3) := by decide +kernel
theorem dX11_next_168 : decode cX11_next 168 = .ok (.aload_n 0, 1) := by decide +kernel
theorem dX11_next_169 : decode cX11_next 169 = .ok (.bipush 10, 2) := by decide +kernel
theorem dX11_next_171 : decode cX11_next 171 = .ok (.aload_n 0, 1) := by decide +kernel
theorem dX11_next_172 : decode cX11_next 172 = .ok (.getfield 108, 3) := by decide +kernel
theorem dX11_next_175 : decode cX11_next 175 = .ok (.imul, 1) := by decide +kernel
theorem dX11_next_176 : decode cX11_next 176 = .ok (.aload_n 0, 1) := by decide +kernel
theorem dX11_next_177 : decode cX11_next 177 = .ok (.iload_n 1, 1) := by decide +kernel
theorem dX11_next_178 : decode cX11_next 178 = .ok (.invokevirtual 98, 3) := by decide +kernel
theorem dX11_next_181 : decode cX11_next 181 = .ok (.iadd, 1) := by decide +kernel
theorem dX11_next_182 : decode cX11_next 182 = .ok (.bipush 48, 2) := by decide +kernel
theorem dX11_next_184 : decode cX11_next 184 = .ok (.isub, 1) := by decide +kernel
theorem dX11_next_185 : decode cX11_next 185 = .ok (.putfield 108, 3) := by decide +kernel
theorem dX11_next_188 : decode cX11_next 188 = .ok (.iinc 3 1, 3) := by decide +kernel
theorem dX11_next_191 : decode cX11_next 191 = .ok (.iinc 1 1, 3) := by decide +kernel
theorem dX11_next_194 : decode cX11_next 194 = .ok (.goto (-42), 3) := by decide +kernel
theorem dX11_next_197 : decode cX11_next 197 = .ok (.aload_n 0, 1) := by decide +kernel
theorem dX11_next_198 : decode cX11_next 198 = .ok (.iload_n 1, 1) := by decide +kernel
theorem dX11_next_199 : decode cX11_next 199 = .ok (.putfield 95, 3) := by decide +kernel
theorem dX11_next_202 : decode cX11_next 202 = .ok (.aload_n 0, 1) := by decide +kernel
theorem dX11_next_203 : decode cX11_next 203 = .ok (.iload_n 3, 1) := by decide +kernel
theorem dX11_next_204 : decode cX11_next 204 = .ok (.iconst 4, 1) := by decide +kernel
theorem dX11_next_205 : decode cX11_next 205 = .ok (.if_icmp .le 7, 3) := by decide +kernel
theorem dX11_next_208 : decode cX11_next 208 = .ok (.iconst 1, 1) := by decide +kernel
theorem dX11_next_209 : decode cX11_next 209 = .ok (.goto 4, 3) := by decide +kernel
theorem dX11_next_212 : decode cX11_next 212 = .ok (.iconst 3, 1) := by decide +kernel
theorem dX11_next_213 : decode cX11_next 213 = .ok (.putfield 111, 3) := by decide +kernel
theorem dX11_next_216 : decode cX11_next 216 = .ok (.goto 31, 3) := by decide +kernel
theorem dX11_next_219 : decode cX11_next 219 = .ok (.aload_n 0, 1) := by decide +kernel
theorem dX11_next_220 : decode cX11_next 220 = .ok (.iload_n 1, 1) := by decide +kernel
theorem dX11_next_221 : decode cX11_next 221 = .ok (.iconst 1, 1) := by decide +kernel
theorem dX11_next_222 : decode cX11_next 222 = .ok (.iadd, 1) := by decide +kernel
theorem dX11_next_223 : decode cX11_next 223 = .ok (.putfield 95, 3) := by decide +kernel
theorem dX11_next_226 : decode cX11_next 226 = .ok (.aload_n 0, 1) := by decide +kernel
theorem dX11_next_227 : decode cX11_next 227 = .ok (.iload_n 2, 1) := by decide +kernel
theorem dX11_next_228 : decode cX11_next 228 = .ok (.bipush 59, 2) := by decide +kernel
theorem dX11_next_230 : decode cX11_next 230 = .ok (.if_icmp .eq 9, 3) := by decide +kernel
theorem dX11_next_233 : decode cX11_next 233 = .ok (.iload_n 2, 1) := by decide +kernel
theorem dX11_next_234 : decode cX11_next 234 = .ok (.bipush 44, 2) := by decide +kernel
theorem dX11_next_236 : decode cX11_next 236 = .ok (.if_icmp .ne 7, 3) := by decide +kernel
theorem dX11_next_239 : decode cX11_next 239 = .ok (.iload_n 2, 1) := by decide +kernel
theorem dX11_next_240 : decode cX11_next 240 = .ok (.goto 4, 3) := by decide +kernel
theorem dX11_next_243 : decode cX11_next 243 = .ok (.iconst 1, 1) := by decide +kernel
theorem dX11_next_244 : decode cX11_next 244 = .ok (.putfield 111, 3) := by decide +kernel
theorem dX11_next_247 : decode cX11_next 247 = .ok (.return_, 1) := by decide +kernel
set_option maxHeartbeats 4000000 in
set_option maxRecDepth 100000 in
theorem m_next (l : Launch) (g : Gx) (h0 : Nat) (m_thrown : Int32) (a_tape : Nat) (m_taped : Int32) (m_size : Int32) (m_at : Int32) (m_end : Int32) (m_token : Int32) (m_whole : Int32) (m_nameSize : Int32) (m_fault : Int32) (m_place : Int32) (m_trouble : Int32) (a_letters : Nat) (m_failed : Int32) (m_hasHouse : Int32) (a_r : Nat) (a_fresh : Nat) (a_st : Nat) (a_undone : Nat) (a_kept : Nat) (m_undos : Int32) (m_images : Int32) (a_from : Nat) (a_begin : Nat) (a_motor : Nat) (a_change : Nat) (a_startFrame : Nat) (a_changeFrame : Nat) (a_lostAt : Nat) (a_blackAt : Nat) (a_slips : Nat) (a_leftArc : Nat) (a_died : Nat) (a_arcs : Nat) (m_bestSum : Int32) (m_nearest : Int32) (m_nearestTown : Int32) (a_there : Nat) (a_backAt : Nat) (a_sorted : Nat) (a_parts : Nat) (m_seed1 : Int32) (m_darkNow : Int32) (d_tape : Nat → Int32) (d_letters : Nat → Int32) (hv_m_size : IV m_size 0 900) (hv_m_end : IV m_end 0 900) (hv_m_nameSize : IV m_nameSize 0 900) : cV l g yX11_next cX11_next 4 1 21 0 0 [.ref h0] [(h0, .inr (11, [.int m_thrown, .ref a_tape, .int m_taped, .int m_size, .int m_at, .int m_end, .int m_token, .int m_whole, .int m_nameSize, .int m_fault, .int m_place, .int m_trouble, .ref a_letters, .int m_failed, .int m_hasHouse, .ref a_r, .ref a_fresh, .ref a_st, .ref a_undone, .ref a_kept, .int m_undos, .int m_images, .ref a_from, .ref a_begin, .ref a_motor, .ref a_change, .ref a_startFrame, .ref a_changeFrame, .ref a_lostAt, .ref a_blackAt, .ref a_slips, .ref a_leftArc, .ref a_died, .ref a_arcs, .int m_bestSum, .int m_nearest, .int m_nearestTown, .ref a_there, .ref a_backAt, .ref a_sorted, .ref a_parts, .int m_seed1, .int m_darkNow])), (a_tape, .inl (g.2.2.1, 900, .inl d_tape)), (a_letters, .inl (g.2.2.1, 8, .inl d_letters))] (fun w => ∃ (m_at2 : Int32) (m_end2 : Int32) (d_letters2 : Nat → Int32) (m_nameSize2 : Int32) (m_token2 : Int32) (m_whole2 : Int32), IV m_end2 0 900 ∧ IV m_nameSize2 0 900 ∧ (m_token2.toInt = 0 ∨ m_end.toInt < m_end2.toInt) ∧ (m_end.toInt ≤ m_end2.toInt) ∧ (m_token2 = 2 → IV m_nameSize2 0 8) ∧ w = [(h0, .inr (11, [.int m_thrown, .ref a_tape, .int m_taped, .int m_size, .int m_at2, .int m_end2, .int m_token2, .int m_whole2, .int m_nameSize2, .int m_fault, .int m_place, .int m_trouble, .ref a_letters, .int m_failed, .int m_hasHouse, .ref a_r, .ref a_fresh, .ref a_st, .ref a_undone, .ref a_kept, .int m_undos, .int m_images, .ref a_from, .ref a_begin, .ref a_motor, .ref a_change, .ref a_startFrame, .ref a_changeFrame, .ref a_lostAt, .ref a_blackAt, .ref a_slips, .ref a_leftArc, .ref a_died, .ref a_arcs, .int m_bestSum, .int m_nearest, .int m_nearestTown, .ref a_there, .ref a_backAt, .ref a_sorted, .ref a_parts, .int m_seed1, .int m_darkNow])), (a_tape, .inl (g.2.2.1, 900, .inl d_tape)), (a_letters, .inl (g.2.2.1, 8, .inl d_letters2))]) := by
  refine cV.of (by decide) (Nat.le_of_ble_eq_true rfl) ?_
  intro p e s m args below meth c A X hr hi
  refine k_lveq [(0, .ref h0)] rfl ?_
  refine k_aload_n X dX11_next_0 0 rfl ?_
  refine k_get (ci := 11) X inlX11 rfl 5 (by decide) dX11_next_1 mw471 0 rfl rfl ?_
  refine k_istore_n [(1, .int m_end), (0, .ref h0)] X dX11_next_4 (by decide) rfl ?_
  refine (fun hL : ∀ (nn_5 : Nat) (u_1 : Int32), (901 - u_1.toInt).toNat = nn_5 → (IV u_1 0 900) → (m_end.toInt ≤ u_1.toInt) → (m_end.toInt ≤ u_1.toInt) → Wk p l e _ s m args below meth c _ A g _ _ _ [(h0, .inr (11, [.int m_thrown, .ref a_tape, .int m_taped, .int m_size, .int m_at, .int m_end, .int m_token, .int m_whole, .int m_nameSize, .int m_fault, .int m_place, .int m_trouble, .ref a_letters, .int m_failed, .int m_hasHouse, .ref a_r, .ref a_fresh, .ref a_st, .ref a_undone, .ref a_kept, .int m_undos, .int m_images, .ref a_from, .ref a_begin, .ref a_motor, .ref a_change, .ref a_startFrame, .ref a_changeFrame, .ref a_lostAt, .ref a_blackAt, .ref a_slips, .ref a_leftArc, .ref a_died, .ref a_arcs, .int m_bestSum, .int m_nearest, .int m_nearestTown, .ref a_there, .ref a_backAt, .ref a_sorted, .ref a_parts, .int m_seed1, .int m_darkNow])), (a_tape, .inl (g.2.2.1, 900, .inl d_tape)), (a_letters, .inl (g.2.2.1, 8, .inl d_letters))] [(1, .int u_1), (0, .ref h0)] 5 [] => hL _ m_end rfl (iv_w hv_m_end (by decide) (by decide)) (by omega) (by omega)) ?_
  refine fun nn_5 => Nat.strongRecOn nn_5 (fun nn_5 ih_7 => ?_)
  intro u_1 hm_6 hv_2 hx_3 hx_4
  refine k_aload_n X dX11_next_5 1 rfl ?_
  refine k_iload_n X dX11_next_6 0 rfl ?_
  refine k_callVI (n := 1) (As := [.int u_1]) (st := []) X [(h0, .inr (11, [.int m_thrown, .ref a_tape, .int m_taped, .int m_size, .int m_at, .int m_end, .int m_token, .int m_whole, .int m_nameSize, .int m_fault, .int m_place, .int m_trouble, .ref a_letters, .int m_failed, .int m_hasHouse, .ref a_r, .ref a_fresh, .ref a_st, .ref a_undone, .ref a_kept, .int m_undos, .int m_images, .ref a_from, .ref a_begin, .ref a_motor, .ref a_change, .ref a_startFrame, .ref a_changeFrame, .ref a_lostAt, .ref a_blackAt, .ref a_slips, .ref a_leftArc, .ref a_died, .ref a_arcs, .int m_bestSum, .int m_nearest, .int m_nearestTown, .ref a_there, .ref a_backAt, .ref a_sorted, .ref a_parts, .int m_seed1, .int m_darkNow])), (a_tape, .inl (g.2.2.1, 900, .inl d_tape))] [(a_letters, .inl (g.2.2.1, 8, .inl d_letters))] [0, 1] [2] (m_look l g h0 u_1 m_thrown a_tape m_taped m_size m_at m_end m_token m_whole m_nameSize m_fault m_place m_trouble a_letters m_failed m_hasHouse a_r a_fresh a_st a_undone a_kept m_undos m_images a_from a_begin a_motor a_change a_startFrame a_changeFrame a_lostAt a_blackAt a_slips a_leftArc a_died a_arcs m_bestSum m_nearest m_nearestTown a_there a_backAt a_sorted a_parts m_seed1 m_darkNow d_tape (iv_w hv_2 (by decide) (by decide)) (iv_w hv_m_size (by decide) (by decide))) dX11_next_7 mw495 mw496 mw497 mw5 mw498 rfl 11 rfl rfl 0 _ rfl (by unfold yOk; decide) rfl (Nat.le_of_ble_eq_true rfl) (Nat.le_of_ble_eq_true rfl) (Nat.le_of_ble_eq_true rfl) (Nat.le_of_ble_eq_true rfl) (Nat.le_of_ble_eq_true rfl) rfl rfl (by decide) rfl (by decide) (by decide) ?_
  rintro r_8 w ⟨hq_9, hk_10, rfl⟩
  refine k_ws [(a_letters, .inl (g.2.2.1, 8, .inl d_letters)), (h0, .inr (11, [.int m_thrown, .ref a_tape, .int m_taped, .int m_size, .int m_at, .int m_end, .int m_token, .int m_whole, .int m_nameSize, .int m_fault, .int m_place, .int m_trouble, .ref a_letters, .int m_failed, .int m_hasHouse, .ref a_r, .ref a_fresh, .ref a_st, .ref a_undone, .ref a_kept, .int m_undos, .int m_images, .ref a_from, .ref a_begin, .ref a_motor, .ref a_change, .ref a_startFrame, .ref a_changeFrame, .ref a_lostAt, .ref a_blackAt, .ref a_slips, .ref a_leftArc, .ref a_died, .ref a_arcs, .int m_bestSum, .int m_nearest, .int m_nearestTown, .ref a_there, .ref a_backAt, .ref a_sorted, .ref a_parts, .int m_seed1, .int m_darkNow])), (a_tape, .inl (g.2.2.1, 900, .inl d_tape))] rfl ?_
  refine k_bipush (v := 32) X dX11_next_10 (by decide) ?_
  refine k_ic_ne 21 X dX11_next_12 (by decide) (fun h_11 => ?_) (fun h_11 => ?_)
  · skip
    refine k_aload_n X dX11_next_21 1 rfl ?_
    refine k_iload_n X dX11_next_22 0 rfl ?_
    refine k_put (ci := 11) [(a_letters, .inl (g.2.2.1, 8, .inl d_letters)), (h0, .inr (11, [.int m_thrown, .ref a_tape, .int m_taped, .int m_size, .int u_1, .int m_end, .int m_token, .int m_whole, .int m_nameSize, .int m_fault, .int m_place, .int m_trouble, .ref a_letters, .int m_failed, .int m_hasHouse, .ref a_r, .ref a_fresh, .ref a_st, .ref a_undone, .ref a_kept, .int m_undos, .int m_images, .ref a_from, .ref a_begin, .ref a_motor, .ref a_change, .ref a_startFrame, .ref a_changeFrame, .ref a_lostAt, .ref a_blackAt, .ref a_slips, .ref a_leftArc, .ref a_died, .ref a_arcs, .int m_bestSum, .int m_nearest, .int m_nearestTown, .ref a_there, .ref a_backAt, .ref a_sorted, .ref a_parts, .int m_seed1, .int m_darkNow])), (a_tape, .inl (g.2.2.1, 900, .inl d_tape))] X inlX11 rfl tyX11_ok nmX11 4 (by decide) rfl dX11_next_23 mw473 1 rfl rfl rfl (Nat.le_of_ble_eq_true rfl) rfl ?_
    refine k_aload_n X dX11_next_26 1 rfl ?_
    refine k_iload_n X dX11_next_27 0 rfl ?_
    refine k_callVI (n := 1) (As := [.int u_1]) (st := []) X [(h0, .inr (11, [.int m_thrown, .ref a_tape, .int m_taped, .int m_size, .int u_1, .int m_end, .int m_token, .int m_whole, .int m_nameSize, .int m_fault, .int m_place, .int m_trouble, .ref a_letters, .int m_failed, .int m_hasHouse, .ref a_r, .ref a_fresh, .ref a_st, .ref a_undone, .ref a_kept, .int m_undos, .int m_images, .ref a_from, .ref a_begin, .ref a_motor, .ref a_change, .ref a_startFrame, .ref a_changeFrame, .ref a_lostAt, .ref a_blackAt, .ref a_slips, .ref a_leftArc, .ref a_died, .ref a_arcs, .int m_bestSum, .int m_nearest, .int m_nearestTown, .ref a_there, .ref a_backAt, .ref a_sorted, .ref a_parts, .int m_seed1, .int m_darkNow])), (a_tape, .inl (g.2.2.1, 900, .inl d_tape))] [(a_letters, .inl (g.2.2.1, 8, .inl d_letters))] [1, 2] [0] (m_look l g h0 u_1 m_thrown a_tape m_taped m_size u_1 m_end m_token m_whole m_nameSize m_fault m_place m_trouble a_letters m_failed m_hasHouse a_r a_fresh a_st a_undone a_kept m_undos m_images a_from a_begin a_motor a_change a_startFrame a_changeFrame a_lostAt a_blackAt a_slips a_leftArc a_died a_arcs m_bestSum m_nearest m_nearestTown a_there a_backAt a_sorted a_parts m_seed1 m_darkNow d_tape (iv_w hv_2 (by decide) (by decide)) (iv_w hv_m_size (by decide) (by decide))) dX11_next_28 mw495 mw496 mw497 mw5 mw498 rfl 11 rfl rfl 0 _ rfl (by unfold yOk; decide) rfl (Nat.le_of_ble_eq_true rfl) (Nat.le_of_ble_eq_true rfl) (Nat.le_of_ble_eq_true rfl) (Nat.le_of_ble_eq_true rfl) (Nat.le_of_ble_eq_true rfl) rfl rfl (by decide) rfl (by decide) (by decide) ?_
    rintro r_12 w ⟨hq_13, hk_14, rfl⟩
    refine k_ws [(a_letters, .inl (g.2.2.1, 8, .inl d_letters)), (h0, .inr (11, [.int m_thrown, .ref a_tape, .int m_taped, .int m_size, .int u_1, .int m_end, .int m_token, .int m_whole, .int m_nameSize, .int m_fault, .int m_place, .int m_trouble, .ref a_letters, .int m_failed, .int m_hasHouse, .ref a_r, .ref a_fresh, .ref a_st, .ref a_undone, .ref a_kept, .int m_undos, .int m_images, .ref a_from, .ref a_begin, .ref a_motor, .ref a_change, .ref a_startFrame, .ref a_changeFrame, .ref a_lostAt, .ref a_blackAt, .ref a_slips, .ref a_leftArc, .ref a_died, .ref a_arcs, .int m_bestSum, .int m_nearest, .int m_nearestTown, .ref a_there, .ref a_backAt, .ref a_sorted, .ref a_parts, .int m_seed1, .int m_darkNow])), (a_tape, .inl (g.2.2.1, 900, .inl d_tape))] rfl ?_
    refine k_istore_n [(2, .int r_12), (1, .int u_1), (0, .ref h0)] X dX11_next_31 (by decide) rfl ?_
    refine k_aload_n X dX11_next_32 2 rfl ?_
    refine k_iconst (v := 0) X dX11_next_33 (by decide) ?_
    refine k_put (ci := 11) [(a_letters, .inl (g.2.2.1, 8, .inl d_letters)), (h0, .inr (11, [.int m_thrown, .ref a_tape, .int m_taped, .int m_size, .int u_1, .int m_end, .int m_token, .int m_whole, .int 0, .int m_fault, .int m_place, .int m_trouble, .ref a_letters, .int m_failed, .int m_hasHouse, .ref a_r, .ref a_fresh, .ref a_st, .ref a_undone, .ref a_kept, .int m_undos, .int m_images, .ref a_from, .ref a_begin, .ref a_motor, .ref a_change, .ref a_startFrame, .ref a_changeFrame, .ref a_lostAt, .ref a_blackAt, .ref a_slips, .ref a_leftArc, .ref a_died, .ref a_arcs, .int m_bestSum, .int m_nearest, .int m_nearestTown, .ref a_there, .ref a_backAt, .ref a_sorted, .ref a_parts, .int m_seed1, .int m_darkNow])), (a_tape, .inl (g.2.2.1, 900, .inl d_tape))] X inlX11 rfl tyX11_ok nmX11 8 (by decide) rfl dX11_next_34 mw493 1 rfl rfl rfl (Nat.le_of_ble_eq_true rfl) rfl ?_
    refine k_aload_n X dX11_next_37 2 rfl ?_
    refine k_iconst (v := 0) X dX11_next_38 (by decide) ?_
    refine k_put (ci := 11) [(a_letters, .inl (g.2.2.1, 8, .inl d_letters)), (h0, .inr (11, [.int m_thrown, .ref a_tape, .int m_taped, .int m_size, .int u_1, .int m_end, .int m_token, .int 0, .int 0, .int m_fault, .int m_place, .int m_trouble, .ref a_letters, .int m_failed, .int m_hasHouse, .ref a_r, .ref a_fresh, .ref a_st, .ref a_undone, .ref a_kept, .int m_undos, .int m_images, .ref a_from, .ref a_begin, .ref a_motor, .ref a_change, .ref a_startFrame, .ref a_changeFrame, .ref a_lostAt, .ref a_blackAt, .ref a_slips, .ref a_leftArc, .ref a_died, .ref a_arcs, .int m_bestSum, .int m_nearest, .int m_nearestTown, .ref a_there, .ref a_backAt, .ref a_sorted, .ref a_parts, .int m_seed1, .int m_darkNow])), (a_tape, .inl (g.2.2.1, 900, .inl d_tape))] X inlX11 rfl tyX11_ok nmX11 7 (by decide) rfl dX11_next_39 mw494 1 rfl rfl rfl (Nat.le_of_ble_eq_true rfl) rfl ?_
    refine k_iload_n X dX11_next_42 0 rfl ?_
    refine k_iconst (v := -1) X dX11_next_43 (by decide) ?_
    refine k_ic_ne 60 X dX11_next_44 (by decide) (fun h_15 => ?_) (fun h_15 => ?_)
    · skip
      have hc_16 := hk_14.resolve_left h_15
      have iv_17 : IV u_1 0 899 := iv_meet hv_2 hc_16.1 (by decide) (by decide)
      have j_18 : u_1.toInt < m_size.toInt := hc_16.2
      refine k_iload_n X dX11_next_60 0 rfl ?_
      refine k_callSI (n := 1) (As := [.int r_12]) (st := []) X [] [(a_letters, .inl (g.2.2.1, 8, .inl d_letters)), (h0, .inr (11, [.int m_thrown, .ref a_tape, .int m_taped, .int m_size, .int u_1, .int m_end, .int m_token, .int 0, .int 0, .int m_fault, .int m_place, .int m_trouble, .ref a_letters, .int m_failed, .int m_hasHouse, .ref a_r, .ref a_fresh, .ref a_st, .ref a_undone, .ref a_kept, .int m_undos, .int m_images, .ref a_from, .ref a_begin, .ref a_motor, .ref a_change, .ref a_startFrame, .ref a_changeFrame, .ref a_lostAt, .ref a_blackAt, .ref a_slips, .ref a_leftArc, .ref a_died, .ref a_arcs, .int m_bestSum, .int m_nearest, .int m_nearestTown, .ref a_there, .ref a_backAt, .ref a_sorted, .ref a_parts, .int m_seed1, .int m_darkNow])), (a_tape, .inl (g.2.2.1, 900, .inl d_tape))] [] [0, 1, 2] (m_isSmall l g r_12) dX11_next_61 mw499 mw500 mw5 mw501 (by unfold yOk; decide) rfl (Nat.le_of_ble_eq_true rfl) (Nat.le_of_ble_eq_true rfl) (Nat.le_of_ble_eq_true rfl) (Nat.le_of_ble_eq_true rfl) (Nat.le_of_ble_eq_true rfl) rfl rfl (by decide) rfl (by decide) (by decide) ?_
      rintro r_19 w ⟨iv_20, hk_21, hk_22, rfl⟩
      refine k_ws [(a_letters, .inl (g.2.2.1, 8, .inl d_letters)), (h0, .inr (11, [.int m_thrown, .ref a_tape, .int m_taped, .int m_size, .int u_1, .int m_end, .int m_token, .int 0, .int 0, .int m_fault, .int m_place, .int m_trouble, .ref a_letters, .int m_failed, .int m_hasHouse, .ref a_r, .ref a_fresh, .ref a_st, .ref a_undone, .ref a_kept, .int m_undos, .int m_images, .ref a_from, .ref a_begin, .ref a_motor, .ref a_change, .ref a_startFrame, .ref a_changeFrame, .ref a_lostAt, .ref a_blackAt, .ref a_slips, .ref a_leftArc, .ref a_died, .ref a_arcs, .int m_bestSum, .int m_nearest, .int m_nearestTown, .ref a_there, .ref a_backAt, .ref a_sorted, .ref a_parts, .int m_seed1, .int m_darkNow])), (a_tape, .inl (g.2.2.1, 900, .inl d_tape))] rfl ?_
      refine k_if_eq 143 X dX11_next_64 (by decide) (fun h_23 => ?_) (fun h_23 => ?_)
      · skip
        have iv_24 : IV r_19 0 0 := iv_meet iv_20 (iv_e h_23 (show IV 0 0 0 from (by decide))) (by decide) (by decide)
        have hc_25 := hk_22 (iv_eq iv_24 (show IV 0 0 0 from (by decide)))
        have j_26 : r_12.toInt < 97 ∨ 122 < r_12.toInt := hc_25
        refine k_iload_n X dX11_next_143 0 rfl ?_
        refine k_callSI (n := 1) (As := [.int r_12]) (st := []) X [] [(a_letters, .inl (g.2.2.1, 8, .inl d_letters)), (h0, .inr (11, [.int m_thrown, .ref a_tape, .int m_taped, .int m_size, .int u_1, .int m_end, .int m_token, .int 0, .int 0, .int m_fault, .int m_place, .int m_trouble, .ref a_letters, .int m_failed, .int m_hasHouse, .ref a_r, .ref a_fresh, .ref a_st, .ref a_undone, .ref a_kept, .int m_undos, .int m_images, .ref a_from, .ref a_begin, .ref a_motor, .ref a_change, .ref a_startFrame, .ref a_changeFrame, .ref a_lostAt, .ref a_blackAt, .ref a_slips, .ref a_leftArc, .ref a_died, .ref a_arcs, .int m_bestSum, .int m_nearest, .int m_nearestTown, .ref a_there, .ref a_backAt, .ref a_sorted, .ref a_parts, .int m_seed1, .int m_darkNow])), (a_tape, .inl (g.2.2.1, 900, .inl d_tape))] [] [0, 1, 2] (m_isDigit l g r_12) dX11_next_144 mw502 mw503 mw5 mw504 (by unfold yOk; decide) rfl (Nat.le_of_ble_eq_true rfl) (Nat.le_of_ble_eq_true rfl) (Nat.le_of_ble_eq_true rfl) (Nat.le_of_ble_eq_true rfl) (Nat.le_of_ble_eq_true rfl) rfl rfl (by decide) rfl (by decide) (by decide) ?_
        rintro r_27 w ⟨iv_28, hk_29, hk_30, rfl⟩
        refine k_ws [(a_letters, .inl (g.2.2.1, 8, .inl d_letters)), (h0, .inr (11, [.int m_thrown, .ref a_tape, .int m_taped, .int m_size, .int u_1, .int m_end, .int m_token, .int 0, .int 0, .int m_fault, .int m_place, .int m_trouble, .ref a_letters, .int m_failed, .int m_hasHouse, .ref a_r, .ref a_fresh, .ref a_st, .ref a_undone, .ref a_kept, .int m_undos, .int m_images, .ref a_from, .ref a_begin, .ref a_motor, .ref a_change, .ref a_startFrame, .ref a_changeFrame, .ref a_lostAt, .ref a_blackAt, .ref a_slips, .ref a_leftArc, .ref a_died, .ref a_arcs, .int m_bestSum, .int m_nearest, .int m_nearestTown, .ref a_there, .ref a_backAt, .ref a_sorted, .ref a_parts, .int m_seed1, .int m_darkNow])), (a_tape, .inl (g.2.2.1, 900, .inl d_tape))] rfl ?_
        refine k_if_eq 219 X dX11_next_147 (by decide) (fun h_31 => ?_) (fun h_31 => ?_)
        · skip
          have iv_32 : IV r_27 0 0 := iv_meet iv_28 (iv_e h_31 (show IV 0 0 0 from (by decide))) (by decide) (by decide)
          have hc_33 := hk_30 (iv_eq iv_32 (show IV 0 0 0 from (by decide)))
          have j_34 : r_12.toInt < 48 ∨ 57 < r_12.toInt := hc_33
          refine k_aload_n X dX11_next_219 2 rfl ?_
          refine k_iload_n X dX11_next_220 1 rfl ?_
          refine k_iconst (v := 1) X dX11_next_221 (by decide) ?_
          refine k_iadd X dX11_next_222 ?_
          refine k_nm (fun z_35 ez_35 => ?_)
          have i_36 : z_35.toInt = u_1.toInt + 1 := in_add ez_35 iv_17 (show IV 1 1 1 from (by decide)) (by decide) (by decide)
          have iv_37 : IV z_35 1 900 := by have := iv_17; have := (show IV 1 1 1 from (by decide)); rw [IV, i_36]; omega
          refine k_put (ci := 11) [(a_letters, .inl (g.2.2.1, 8, .inl d_letters)), (h0, .inr (11, [.int m_thrown, .ref a_tape, .int m_taped, .int m_size, .int u_1, .int z_35, .int m_token, .int 0, .int 0, .int m_fault, .int m_place, .int m_trouble, .ref a_letters, .int m_failed, .int m_hasHouse, .ref a_r, .ref a_fresh, .ref a_st, .ref a_undone, .ref a_kept, .int m_undos, .int m_images, .ref a_from, .ref a_begin, .ref a_motor, .ref a_change, .ref a_startFrame, .ref a_changeFrame, .ref a_lostAt, .ref a_blackAt, .ref a_slips, .ref a_leftArc, .ref a_died, .ref a_arcs, .int m_bestSum, .int m_nearest, .int m_nearestTown, .ref a_there, .ref a_backAt, .ref a_sorted, .ref a_parts, .int m_seed1, .int m_darkNow])), (a_tape, .inl (g.2.2.1, 900, .inl d_tape))] X inlX11 rfl tyX11_ok nmX11 5 (by decide) rfl dX11_next_223 mw471 1 rfl rfl rfl (Nat.le_of_ble_eq_true rfl) rfl ?_
          refine k_aload_n X dX11_next_226 2 rfl ?_
          refine k_iload_n X dX11_next_227 0 rfl ?_
          refine k_bipush (v := 59) X dX11_next_228 (by decide) ?_
          refine k_ic_eq 239 X dX11_next_230 (by decide) (fun h_38 => ?_) (fun h_38 => ?_)
          · skip
            have iv_39 : IV r_12 59 59 := iv_meet (iv_any r_12) (iv_e h_38 (show IV 59 59 59 from (by decide))) (by decide) (by decide)
            refine k_iload_n X dX11_next_239 0 rfl ?_
            refine k_goto 244 X dX11_next_240 (by decide) ?_
            refine k_put (ci := 11) [(a_letters, .inl (g.2.2.1, 8, .inl d_letters)), (h0, .inr (11, [.int m_thrown, .ref a_tape, .int m_taped, .int m_size, .int u_1, .int z_35, .int r_12, .int 0, .int 0, .int m_fault, .int m_place, .int m_trouble, .ref a_letters, .int m_failed, .int m_hasHouse, .ref a_r, .ref a_fresh, .ref a_st, .ref a_undone, .ref a_kept, .int m_undos, .int m_images, .ref a_from, .ref a_begin, .ref a_motor, .ref a_change, .ref a_startFrame, .ref a_changeFrame, .ref a_lostAt, .ref a_blackAt, .ref a_slips, .ref a_leftArc, .ref a_died, .ref a_arcs, .int m_bestSum, .int m_nearest, .int m_nearestTown, .ref a_there, .ref a_backAt, .ref a_sorted, .ref a_parts, .int m_seed1, .int m_darkNow])), (a_tape, .inl (g.2.2.1, 900, .inl d_tape))] X inlX11 rfl tyX11_ok nmX11 6 (by decide) rfl dX11_next_244 mw472 1 rfl rfl rfl (Nat.le_of_ble_eq_true rfl) rfl ?_
            exact k_vret X hr dX11_next_247 (Nat.le_of_ble_eq_true rfl) (Nat.le_of_ble_eq_true rfl) [1, 2, 0] (by decide) rfl rfl ⟨u_1, z_35, d_letters, 0, r_12, 0, (iv_w iv_37 (by decide) (by decide)), (iv_w (show IV 0 0 0 from (by decide)) (by decide) (by decide)), (by first | exact Or.inl (by decide) | exact Or.inr (by omega) | omega), (by omega), (fun q => (iv_eqN q iv_39 (show IV 2 2 2 from (by decide)) (by decide)).elim), rfl⟩
          · skip
            refine k_iload_n X dX11_next_233 0 rfl ?_
            refine k_bipush (v := 44) X dX11_next_234 (by decide) ?_
            refine k_ic_ne 243 X dX11_next_236 (by decide) (fun h_40 => ?_) (fun h_40 => ?_)
            · skip
              refine k_iconst (v := 1) X dX11_next_243 (by decide) ?_
              refine k_put (ci := 11) [(a_letters, .inl (g.2.2.1, 8, .inl d_letters)), (h0, .inr (11, [.int m_thrown, .ref a_tape, .int m_taped, .int m_size, .int u_1, .int z_35, .int 1, .int 0, .int 0, .int m_fault, .int m_place, .int m_trouble, .ref a_letters, .int m_failed, .int m_hasHouse, .ref a_r, .ref a_fresh, .ref a_st, .ref a_undone, .ref a_kept, .int m_undos, .int m_images, .ref a_from, .ref a_begin, .ref a_motor, .ref a_change, .ref a_startFrame, .ref a_changeFrame, .ref a_lostAt, .ref a_blackAt, .ref a_slips, .ref a_leftArc, .ref a_died, .ref a_arcs, .int m_bestSum, .int m_nearest, .int m_nearestTown, .ref a_there, .ref a_backAt, .ref a_sorted, .ref a_parts, .int m_seed1, .int m_darkNow])), (a_tape, .inl (g.2.2.1, 900, .inl d_tape))] X inlX11 rfl tyX11_ok nmX11 6 (by decide) rfl dX11_next_244 mw472 1 rfl rfl rfl (Nat.le_of_ble_eq_true rfl) rfl ?_
              exact k_vret X hr dX11_next_247 (Nat.le_of_ble_eq_true rfl) (Nat.le_of_ble_eq_true rfl) [1, 2, 0] (by decide) rfl rfl ⟨u_1, z_35, d_letters, 0, 1, 0, (iv_w iv_37 (by decide) (by decide)), (iv_w (show IV 0 0 0 from (by decide)) (by decide) (by decide)), (by first | exact Or.inl (by decide) | exact Or.inr (by omega) | omega), (by omega), (fun q => (iv_eqN q (show IV 1 1 1 from (by decide)) (show IV 2 2 2 from (by decide)) (by decide)).elim), rfl⟩
            · skip
              have iv_41 : IV r_12 44 44 := iv_meet (iv_any r_12) (iv_e h_40 (show IV 44 44 44 from (by decide))) (by decide) (by decide)
              refine k_iload_n X dX11_next_239 0 rfl ?_
              refine k_goto 244 X dX11_next_240 (by decide) ?_
              refine k_put (ci := 11) [(a_letters, .inl (g.2.2.1, 8, .inl d_letters)), (h0, .inr (11, [.int m_thrown, .ref a_tape, .int m_taped, .int m_size, .int u_1, .int z_35, .int r_12, .int 0, .int 0, .int m_fault, .int m_place, .int m_trouble, .ref a_letters, .int m_failed, .int m_hasHouse, .ref a_r, .ref a_fresh, .ref a_st, .ref a_undone, .ref a_kept, .int m_undos, .int m_images, .ref a_from, .ref a_begin, .ref a_motor, .ref a_change, .ref a_startFrame, .ref a_changeFrame, .ref a_lostAt, .ref a_blackAt, .ref a_slips, .ref a_leftArc, .ref a_died, .ref a_arcs, .int m_bestSum, .int m_nearest, .int m_nearestTown, .ref a_there, .ref a_backAt, .ref a_sorted, .ref a_parts, .int m_seed1, .int m_darkNow])), (a_tape, .inl (g.2.2.1, 900, .inl d_tape))] X inlX11 rfl tyX11_ok nmX11 6 (by decide) rfl dX11_next_244 mw472 1 rfl rfl rfl (Nat.le_of_ble_eq_true rfl) rfl ?_
              exact k_vret X hr dX11_next_247 (Nat.le_of_ble_eq_true rfl) (Nat.le_of_ble_eq_true rfl) [1, 2, 0] (by decide) rfl rfl ⟨u_1, z_35, d_letters, 0, r_12, 0, (iv_w iv_37 (by decide) (by decide)), (iv_w (show IV 0 0 0 from (by decide)) (by decide) (by decide)), (by first | exact Or.inl (by decide) | exact Or.inr (by omega) | omega), (by omega), (fun q => (iv_eqN q iv_41 (show IV 2 2 2 from (by decide)) (by decide)).elim), rfl⟩
        · skip
          have hc_42 := hk_29.resolve_left h_31
          have iv_43 : IV r_12 48 57 := iv_meet (iv_any r_12) hc_42 (by decide) (by decide)
          have iv_44 : IV r_27 1 1 := iv_neL h_31 iv_28 (show IV 0 0 0 from (by decide)) (by decide)
          refine k_iconst (v := 0) X dX11_next_150 (by decide) ?_
          refine k_istore_n [(3, .int 0), (2, .int r_12), (1, .int u_1), (0, .ref h0)] X dX11_next_151 (by decide) rfl ?_
          refine (fun hL : ∀ (nn_51 : Nat) (u_45 : Int32) (u_47 : Int32) (u_48 : Int32), (901 - u_45.toInt).toNat = nn_51 → (IV u_45 0 900) → (m_end.toInt ≤ u_45.toInt) → (u_1.toInt ≤ u_45.toInt) → Wk p l e _ s m args below meth c _ A g _ _ _ [(a_letters, .inl (g.2.2.1, 8, .inl d_letters)), (h0, .inr (11, [.int m_thrown, .ref a_tape, .int m_taped, .int m_size, .int u_1, .int m_end, .int m_token, .int u_48, .int 0, .int m_fault, .int m_place, .int m_trouble, .ref a_letters, .int m_failed, .int m_hasHouse, .ref a_r, .ref a_fresh, .ref a_st, .ref a_undone, .ref a_kept, .int m_undos, .int m_images, .ref a_from, .ref a_begin, .ref a_motor, .ref a_change, .ref a_startFrame, .ref a_changeFrame, .ref a_lostAt, .ref a_blackAt, .ref a_slips, .ref a_leftArc, .ref a_died, .ref a_arcs, .int m_bestSum, .int m_nearest, .int m_nearestTown, .ref a_there, .ref a_backAt, .ref a_sorted, .ref a_parts, .int m_seed1, .int m_darkNow])), (a_tape, .inl (g.2.2.1, 900, .inl d_tape))] [(3, .int u_47), (2, .int r_12), (1, .int u_45), (0, .ref h0)] 152 [] => hL _ u_1 0 0 rfl (iv_w iv_17 (by decide) (by decide)) (by omega) (by omega)) ?_
          refine fun nn_51 => Nat.strongRecOn nn_51 (fun nn_51 ih_53 => ?_)
          intro u_45 u_47 u_48 hm_52 hv_46 hx_49 hx_50
          refine k_aload_n X dX11_next_152 3 rfl ?_
          refine k_iload_n X dX11_next_153 2 rfl ?_
          refine k_callVI (n := 1) (As := [.int u_45]) (st := []) X [(h0, .inr (11, [.int m_thrown, .ref a_tape, .int m_taped, .int m_size, .int u_1, .int m_end, .int m_token, .int u_48, .int 0, .int m_fault, .int m_place, .int m_trouble, .ref a_letters, .int m_failed, .int m_hasHouse, .ref a_r, .ref a_fresh, .ref a_st, .ref a_undone, .ref a_kept, .int m_undos, .int m_images, .ref a_from, .ref a_begin, .ref a_motor, .ref a_change, .ref a_startFrame, .ref a_changeFrame, .ref a_lostAt, .ref a_blackAt, .ref a_slips, .ref a_leftArc, .ref a_died, .ref a_arcs, .int m_bestSum, .int m_nearest, .int m_nearestTown, .ref a_there, .ref a_backAt, .ref a_sorted, .ref a_parts, .int m_seed1, .int m_darkNow])), (a_tape, .inl (g.2.2.1, 900, .inl d_tape))] [(a_letters, .inl (g.2.2.1, 8, .inl d_letters))] [1, 2] [0] (m_look l g h0 u_45 m_thrown a_tape m_taped m_size u_1 m_end m_token u_48 0 m_fault m_place m_trouble a_letters m_failed m_hasHouse a_r a_fresh a_st a_undone a_kept m_undos m_images a_from a_begin a_motor a_change a_startFrame a_changeFrame a_lostAt a_blackAt a_slips a_leftArc a_died a_arcs m_bestSum m_nearest m_nearestTown a_there a_backAt a_sorted a_parts m_seed1 m_darkNow d_tape (iv_w hv_46 (by decide) (by decide)) (iv_w hv_m_size (by decide) (by decide))) dX11_next_154 mw495 mw496 mw497 mw5 mw498 rfl 11 rfl rfl 0 _ rfl (by unfold yOk; decide) rfl (Nat.le_of_ble_eq_true rfl) (Nat.le_of_ble_eq_true rfl) (Nat.le_of_ble_eq_true rfl) (Nat.le_of_ble_eq_true rfl) (Nat.le_of_ble_eq_true rfl) rfl rfl (by decide) rfl (by decide) (by decide) ?_
          rintro r_54 w ⟨hq_55, hk_56, rfl⟩
          refine k_ws [(a_letters, .inl (g.2.2.1, 8, .inl d_letters)), (h0, .inr (11, [.int m_thrown, .ref a_tape, .int m_taped, .int m_size, .int u_1, .int m_end, .int m_token, .int u_48, .int 0, .int m_fault, .int m_place, .int m_trouble, .ref a_letters, .int m_failed, .int m_hasHouse, .ref a_r, .ref a_fresh, .ref a_st, .ref a_undone, .ref a_kept, .int m_undos, .int m_images, .ref a_from, .ref a_begin, .ref a_motor, .ref a_change, .ref a_startFrame, .ref a_changeFrame, .ref a_lostAt, .ref a_blackAt, .ref a_slips, .ref a_leftArc, .ref a_died, .ref a_arcs, .int m_bestSum, .int m_nearest, .int m_nearestTown, .ref a_there, .ref a_backAt, .ref a_sorted, .ref a_parts, .int m_seed1, .int m_darkNow])), (a_tape, .inl (g.2.2.1, 900, .inl d_tape))] rfl ?_
          refine k_callSI (n := 1) (As := [.int r_54]) (st := []) X [] [(a_letters, .inl (g.2.2.1, 8, .inl d_letters)), (h0, .inr (11, [.int m_thrown, .ref a_tape, .int m_taped, .int m_size, .int u_1, .int m_end, .int m_token, .int u_48, .int 0, .int m_fault, .int m_place, .int m_trouble, .ref a_letters, .int m_failed, .int m_hasHouse, .ref a_r, .ref a_fresh, .ref a_st, .ref a_undone, .ref a_kept, .int m_undos, .int m_images, .ref a_from, .ref a_begin, .ref a_motor, .ref a_change, .ref a_startFrame, .ref a_changeFrame, .ref a_lostAt, .ref a_blackAt, .ref a_slips, .ref a_leftArc, .ref a_died, .ref a_arcs, .int m_bestSum, .int m_nearest, .int m_nearestTown, .ref a_there, .ref a_backAt, .ref a_sorted, .ref a_parts, .int m_seed1, .int m_darkNow])), (a_tape, .inl (g.2.2.1, 900, .inl d_tape))] [] [0, 1, 2] (m_isDigit l g r_54) dX11_next_157 mw502 mw503 mw5 mw504 (by unfold yOk; decide) rfl (Nat.le_of_ble_eq_true rfl) (Nat.le_of_ble_eq_true rfl) (Nat.le_of_ble_eq_true rfl) (Nat.le_of_ble_eq_true rfl) (Nat.le_of_ble_eq_true rfl) rfl rfl (by decide) rfl (by decide) (by decide) ?_
          rintro r_57 w ⟨iv_58, hk_59, hk_60, rfl⟩
          refine k_ws [(a_letters, .inl (g.2.2.1, 8, .inl d_letters)), (h0, .inr (11, [.int m_thrown, .ref a_tape, .int m_taped, .int m_size, .int u_1, .int m_end, .int m_token, .int u_48, .int 0, .int m_fault, .int m_place, .int m_trouble, .ref a_letters, .int m_failed, .int m_hasHouse, .ref a_r, .ref a_fresh, .ref a_st, .ref a_undone, .ref a_kept, .int m_undos, .int m_images, .ref a_from, .ref a_begin, .ref a_motor, .ref a_change, .ref a_startFrame, .ref a_changeFrame, .ref a_lostAt, .ref a_blackAt, .ref a_slips, .ref a_leftArc, .ref a_died, .ref a_arcs, .int m_bestSum, .int m_nearest, .int m_nearestTown, .ref a_there, .ref a_backAt, .ref a_sorted, .ref a_parts, .int m_seed1, .int m_darkNow])), (a_tape, .inl (g.2.2.1, 900, .inl d_tape))] rfl ?_
          refine k_if_eq 197 X dX11_next_160 (by decide) (fun h_61 => ?_) (fun h_61 => ?_)
          · skip
            have iv_62 : IV r_57 0 0 := iv_meet iv_58 (iv_e h_61 (show IV 0 0 0 from (by decide))) (by decide) (by decide)
            have hc_63 := hk_60 (iv_eq iv_62 (show IV 0 0 0 from (by decide)))
            have j_64 : r_54.toInt < 48 ∨ 57 < r_54.toInt := hc_63
            have j_65 : u_1.toInt < u_45.toInt := look_str hq_13 hq_55 iv_43 (by assumption) hx_50
            refine k_aload_n X dX11_next_197 3 rfl ?_
            refine k_iload_n X dX11_next_198 2 rfl ?_
            refine k_put (ci := 11) [(a_letters, .inl (g.2.2.1, 8, .inl d_letters)), (h0, .inr (11, [.int m_thrown, .ref a_tape, .int m_taped, .int m_size, .int u_1, .int u_45, .int m_token, .int u_48, .int 0, .int m_fault, .int m_place, .int m_trouble, .ref a_letters, .int m_failed, .int m_hasHouse, .ref a_r, .ref a_fresh, .ref a_st, .ref a_undone, .ref a_kept, .int m_undos, .int m_images, .ref a_from, .ref a_begin, .ref a_motor, .ref a_change, .ref a_startFrame, .ref a_changeFrame, .ref a_lostAt, .ref a_blackAt, .ref a_slips, .ref a_leftArc, .ref a_died, .ref a_arcs, .int m_bestSum, .int m_nearest, .int m_nearestTown, .ref a_there, .ref a_backAt, .ref a_sorted, .ref a_parts, .int m_seed1, .int m_darkNow])), (a_tape, .inl (g.2.2.1, 900, .inl d_tape))] X inlX11 rfl tyX11_ok nmX11 5 (by decide) rfl dX11_next_199 mw471 1 rfl rfl rfl (Nat.le_of_ble_eq_true rfl) rfl ?_
            refine k_aload_n X dX11_next_202 3 rfl ?_
            refine k_iload_n X dX11_next_203 0 rfl ?_
            refine k_iconst (v := 4) X dX11_next_204 (by decide) ?_
            refine k_ic_le 212 X dX11_next_205 (by decide) (fun h_66 => ?_) (fun h_66 => ?_)
            · skip
              have j_67 : u_47.toInt ≤ 4 := iv_le h_66
              have iv_68 : IV u_47 (-2147483648) 4 := iv_leL (iv_le h_66) (iv_any u_47) (show IV 4 4 4 from (by decide)) (by decide)
              refine k_iconst (v := 3) X dX11_next_212 (by decide) ?_
              refine k_put (ci := 11) [(a_letters, .inl (g.2.2.1, 8, .inl d_letters)), (h0, .inr (11, [.int m_thrown, .ref a_tape, .int m_taped, .int m_size, .int u_1, .int u_45, .int 3, .int u_48, .int 0, .int m_fault, .int m_place, .int m_trouble, .ref a_letters, .int m_failed, .int m_hasHouse, .ref a_r, .ref a_fresh, .ref a_st, .ref a_undone, .ref a_kept, .int m_undos, .int m_images, .ref a_from, .ref a_begin, .ref a_motor, .ref a_change, .ref a_startFrame, .ref a_changeFrame, .ref a_lostAt, .ref a_blackAt, .ref a_slips, .ref a_leftArc, .ref a_died, .ref a_arcs, .int m_bestSum, .int m_nearest, .int m_nearestTown, .ref a_there, .ref a_backAt, .ref a_sorted, .ref a_parts, .int m_seed1, .int m_darkNow])), (a_tape, .inl (g.2.2.1, 900, .inl d_tape))] X inlX11 rfl tyX11_ok nmX11 6 (by decide) rfl dX11_next_213 mw472 1 rfl rfl rfl (Nat.le_of_ble_eq_true rfl) rfl ?_
              refine k_goto 247 X dX11_next_216 (by decide) ?_
              exact k_vret X hr dX11_next_247 (Nat.le_of_ble_eq_true rfl) (Nat.le_of_ble_eq_true rfl) [1, 2, 0] (by decide) rfl rfl ⟨u_1, u_45, d_letters, 0, 3, u_48, (iv_w hv_46 (by decide) (by decide)), (iv_w (show IV 0 0 0 from (by decide)) (by decide) (by decide)), (by first | exact Or.inl (by decide) | exact Or.inr (by omega) | omega), (by omega), (fun q => (iv_eqN q (show IV 3 3 3 from (by decide)) (show IV 2 2 2 from (by decide)) (by decide)).elim), rfl⟩
            · skip
              have j_69 : 4 < u_47.toInt := iv_nle h_66
              have iv_70 : IV u_47 5 2147483647 := iv_ltR (iv_nle h_66) (show IV 4 4 4 from (by decide)) (iv_any u_47) (by decide)
              refine k_iconst (v := 1) X dX11_next_208 (by decide) ?_
              refine k_goto 213 X dX11_next_209 (by decide) ?_
              refine k_put (ci := 11) [(a_letters, .inl (g.2.2.1, 8, .inl d_letters)), (h0, .inr (11, [.int m_thrown, .ref a_tape, .int m_taped, .int m_size, .int u_1, .int u_45, .int 1, .int u_48, .int 0, .int m_fault, .int m_place, .int m_trouble, .ref a_letters, .int m_failed, .int m_hasHouse, .ref a_r, .ref a_fresh, .ref a_st, .ref a_undone, .ref a_kept, .int m_undos, .int m_images, .ref a_from, .ref a_begin, .ref a_motor, .ref a_change, .ref a_startFrame, .ref a_changeFrame, .ref a_lostAt, .ref a_blackAt, .ref a_slips, .ref a_leftArc, .ref a_died, .ref a_arcs, .int m_bestSum, .int m_nearest, .int m_nearestTown, .ref a_there, .ref a_backAt, .ref a_sorted, .ref a_parts, .int m_seed1, .int m_darkNow])), (a_tape, .inl (g.2.2.1, 900, .inl d_tape))] X inlX11 rfl tyX11_ok nmX11 6 (by decide) rfl dX11_next_213 mw472 1 rfl rfl rfl (Nat.le_of_ble_eq_true rfl) rfl ?_
              refine k_goto 247 X dX11_next_216 (by decide) ?_
              exact k_vret X hr dX11_next_247 (Nat.le_of_ble_eq_true rfl) (Nat.le_of_ble_eq_true rfl) [1, 2, 0] (by decide) rfl rfl ⟨u_1, u_45, d_letters, 0, 1, u_48, (iv_w hv_46 (by decide) (by decide)), (iv_w (show IV 0 0 0 from (by decide)) (by decide) (by decide)), (by first | exact Or.inl (by decide) | exact Or.inr (by omega) | omega), (by omega), (fun q => (iv_eqN q (show IV 1 1 1 from (by decide)) (show IV 2 2 2 from (by decide)) (by decide)).elim), rfl⟩
          · skip
            have hc_71 := hk_59.resolve_left h_61
            have iv_72 : IV r_54 48 57 := iv_meet (iv_any r_54) hc_71 (by decide) (by decide)
            have hc_73 := hk_56.resolve_left (fun q => iv_eqN q iv_72 (show IV (-1) (-1) (-1) from (by decide)) (by decide))
            have iv_74 : IV u_45 0 899 := iv_meet hv_46 hc_73.1 (by decide) (by decide)
            have j_75 : u_45.toInt < m_size.toInt := hc_73.2
            have iv_76 : IV r_57 1 1 := iv_neL h_61 iv_58 (show IV 0 0 0 from (by decide)) (by decide)
            refine k_iload_n X dX11_next_163 0 rfl ?_
            refine k_iconst (v := 4) X dX11_next_164 (by decide) ?_
            refine k_ic_ge 188 X dX11_next_165 (by decide) (fun h_77 => ?_) (fun h_77 => ?_)
            · skip
              have j_78 : 4 ≤ u_47.toInt := iv_le h_77
              have iv_79 : IV u_47 4 2147483647 := iv_leR (iv_le h_77) (show IV 4 4 4 from (by decide)) (iv_any u_47) (by decide)
              obtain ⟨z_80, ez_80⟩ : ∃ y : Int32, u_47 + Int32.ofInt 1 = y := ⟨_, rfl⟩
              refine k_iinc z_80 [(3, .int z_80), (2, .int r_12), (1, .int u_45), (0, .ref h0)] 0 X dX11_next_188 rfl ez_80 (by decide) rfl ?_
              obtain ⟨z_81, ez_81⟩ : ∃ y : Int32, u_45 + Int32.ofInt 1 = y := ⟨_, rfl⟩
              refine k_iinc z_81 [(1, .int z_81), (3, .int z_80), (2, .int r_12), (0, .ref h0)] 2 X dX11_next_191 rfl ez_81 (by decide) rfl ?_
              have i_82 : z_81.toInt = u_45.toInt + 1 := in_inc ez_81 (by decide) iv_74 (by decide) (by decide)
              have iv_83 : IV z_81 1 900 := by have := iv_74; rw [IV, i_82]; omega
              refine k_goto 152 X dX11_next_194 (by decide) ?_
              refine k_lv [(3, .int z_80), (2, .int r_12), (1, .int z_81), (0, .ref h0)] [1, 2, 0, 3] rfl ?_
              exact ih_53 _ (by omega) z_81 z_80 u_48 rfl (iv_w iv_83 (by decide) (by decide)) (by omega) (by omega)
            · skip
              have j_84 : u_47.toInt < 4 := iv_nle h_77
              have iv_85 : IV u_47 (-2147483648) 3 := iv_ltL (iv_nle h_77) (iv_any u_47) (show IV 4 4 4 from (by decide)) (by decide)
              refine k_aload_n X dX11_next_168 3 rfl ?_
              refine k_bipush (v := 10) X dX11_next_169 (by decide) ?_
              refine k_aload_n X dX11_next_171 3 rfl ?_
              refine k_get (ci := 11) X inlX11 rfl 7 (by decide) dX11_next_172 mw494 1 rfl rfl ?_
              refine k_imul X dX11_next_175 ?_
              refine k_nm (fun z_86 ez_86 => ?_)
              refine k_aload_n X dX11_next_176 3 rfl ?_
              refine k_iload_n X dX11_next_177 2 rfl ?_
              refine k_callVI (n := 1) (As := [.int u_45]) (st := [.int z_86, .ref h0]) X [(h0, .inr (11, [.int m_thrown, .ref a_tape, .int m_taped, .int m_size, .int u_1, .int m_end, .int m_token, .int u_48, .int 0, .int m_fault, .int m_place, .int m_trouble, .ref a_letters, .int m_failed, .int m_hasHouse, .ref a_r, .ref a_fresh, .ref a_st, .ref a_undone, .ref a_kept, .int m_undos, .int m_images, .ref a_from, .ref a_begin, .ref a_motor, .ref a_change, .ref a_startFrame, .ref a_changeFrame, .ref a_lostAt, .ref a_blackAt, .ref a_slips, .ref a_leftArc, .ref a_died, .ref a_arcs, .int m_bestSum, .int m_nearest, .int m_nearestTown, .ref a_there, .ref a_backAt, .ref a_sorted, .ref a_parts, .int m_seed1, .int m_darkNow])), (a_tape, .inl (g.2.2.1, 900, .inl d_tape))] [(a_letters, .inl (g.2.2.1, 8, .inl d_letters))] [1, 2] [0] (m_look l g h0 u_45 m_thrown a_tape m_taped m_size u_1 m_end m_token u_48 0 m_fault m_place m_trouble a_letters m_failed m_hasHouse a_r a_fresh a_st a_undone a_kept m_undos m_images a_from a_begin a_motor a_change a_startFrame a_changeFrame a_lostAt a_blackAt a_slips a_leftArc a_died a_arcs m_bestSum m_nearest m_nearestTown a_there a_backAt a_sorted a_parts m_seed1 m_darkNow d_tape (iv_w iv_74 (by decide) (by decide)) (iv_w hv_m_size (by decide) (by decide))) dX11_next_178 mw495 mw496 mw497 mw5 mw498 rfl 11 rfl rfl 0 _ rfl (by unfold yOk; decide) rfl (Nat.le_of_ble_eq_true rfl) (Nat.le_of_ble_eq_true rfl) (Nat.le_of_ble_eq_true rfl) (Nat.le_of_ble_eq_true rfl) (Nat.le_of_ble_eq_true rfl) rfl rfl (by decide) rfl (by decide) (by decide) ?_
              rintro r_88 w ⟨hq_89, hk_90, rfl⟩
              refine k_ws [(a_letters, .inl (g.2.2.1, 8, .inl d_letters)), (h0, .inr (11, [.int m_thrown, .ref a_tape, .int m_taped, .int m_size, .int u_1, .int m_end, .int m_token, .int u_48, .int 0, .int m_fault, .int m_place, .int m_trouble, .ref a_letters, .int m_failed, .int m_hasHouse, .ref a_r, .ref a_fresh, .ref a_st, .ref a_undone, .ref a_kept, .int m_undos, .int m_images, .ref a_from, .ref a_begin, .ref a_motor, .ref a_change, .ref a_startFrame, .ref a_changeFrame, .ref a_lostAt, .ref a_blackAt, .ref a_slips, .ref a_leftArc, .ref a_died, .ref a_arcs, .int m_bestSum, .int m_nearest, .int m_nearestTown, .ref a_there, .ref a_backAt, .ref a_sorted, .ref a_parts, .int m_seed1, .int m_darkNow])), (a_tape, .inl (g.2.2.1, 900, .inl d_tape))] rfl ?_
              refine k_iadd X dX11_next_181 ?_
              refine k_nm (fun z_91 ez_91 => ?_)
              refine k_bipush (v := 48) X dX11_next_182 (by decide) ?_
              refine k_isub X dX11_next_184 ?_
              refine k_nm (fun z_93 ez_93 => ?_)
              refine k_put (ci := 11) [(a_letters, .inl (g.2.2.1, 8, .inl d_letters)), (h0, .inr (11, [.int m_thrown, .ref a_tape, .int m_taped, .int m_size, .int u_1, .int m_end, .int m_token, .int z_93, .int 0, .int m_fault, .int m_place, .int m_trouble, .ref a_letters, .int m_failed, .int m_hasHouse, .ref a_r, .ref a_fresh, .ref a_st, .ref a_undone, .ref a_kept, .int m_undos, .int m_images, .ref a_from, .ref a_begin, .ref a_motor, .ref a_change, .ref a_startFrame, .ref a_changeFrame, .ref a_lostAt, .ref a_blackAt, .ref a_slips, .ref a_leftArc, .ref a_died, .ref a_arcs, .int m_bestSum, .int m_nearest, .int m_nearestTown, .ref a_there, .ref a_backAt, .ref a_sorted, .ref a_parts, .int m_seed1, .int m_darkNow])), (a_tape, .inl (g.2.2.1, 900, .inl d_tape))] X inlX11 rfl tyX11_ok nmX11 7 (by decide) rfl dX11_next_185 mw494 1 rfl rfl rfl (Nat.le_of_ble_eq_true rfl) rfl ?_
              obtain ⟨z_95, ez_95⟩ : ∃ y : Int32, u_47 + Int32.ofInt 1 = y := ⟨_, rfl⟩
              refine k_iinc z_95 [(3, .int z_95), (2, .int r_12), (1, .int u_45), (0, .ref h0)] 0 X dX11_next_188 rfl ez_95 (by decide) rfl ?_
              have i_96 : z_95.toInt = u_47.toInt + 1 := in_inc ez_95 (by decide) iv_85 (by decide) (by decide)
              have iv_97 : IV z_95 (-2147483647) 4 := by have := iv_85; rw [IV, i_96]; omega
              obtain ⟨z_98, ez_98⟩ : ∃ y : Int32, u_45 + Int32.ofInt 1 = y := ⟨_, rfl⟩
              refine k_iinc z_98 [(1, .int z_98), (3, .int z_95), (2, .int r_12), (0, .ref h0)] 2 X dX11_next_191 rfl ez_98 (by decide) rfl ?_
              have i_99 : z_98.toInt = u_45.toInt + 1 := in_inc ez_98 (by decide) iv_74 (by decide) (by decide)
              have iv_100 : IV z_98 1 900 := by have := iv_74; rw [IV, i_99]; omega
              refine k_goto 152 X dX11_next_194 (by decide) ?_
              refine k_lv [(3, .int z_95), (2, .int r_12), (1, .int z_98), (0, .ref h0)] [1, 2, 0, 3] rfl ?_
              exact ih_53 _ (by omega) z_98 z_95 z_93 rfl (iv_w iv_100 (by decide) (by decide)) (by omega) (by omega)
      · skip
        have hc_101 := hk_21.resolve_left h_23
        have iv_102 : IV r_12 97 122 := iv_meet (iv_any r_12) hc_101 (by decide) (by decide)
        have iv_103 : IV r_19 1 1 := iv_neL h_23 iv_20 (show IV 0 0 0 from (by decide)) (by decide)
        refine (fun hL : ∀ (nn_112 : Nat) (uf_104 : Nat → Int32) (u_105 : Int32) (u_107 : Int32), (901 - u_105.toInt).toNat = nn_112 → (IV u_105 0 900) → (IV u_107 0 900) → (m_end.toInt ≤ u_105.toInt) → (u_1.toInt ≤ u_105.toInt) → (u_107.toInt ≤ u_105.toInt) → Wk p l e _ s m args below meth c _ A g _ _ _ [(a_letters, .inl (g.2.2.1, 8, .inl uf_104)), (h0, .inr (11, [.int m_thrown, .ref a_tape, .int m_taped, .int m_size, .int u_1, .int m_end, .int m_token, .int 0, .int u_107, .int m_fault, .int m_place, .int m_trouble, .ref a_letters, .int m_failed, .int m_hasHouse, .ref a_r, .ref a_fresh, .ref a_st, .ref a_undone, .ref a_kept, .int m_undos, .int m_images, .ref a_from, .ref a_begin, .ref a_motor, .ref a_change, .ref a_startFrame, .ref a_changeFrame, .ref a_lostAt, .ref a_blackAt, .ref a_slips, .ref a_leftArc, .ref a_died, .ref a_arcs, .int m_bestSum, .int m_nearest, .int m_nearestTown, .ref a_there, .ref a_backAt, .ref a_sorted, .ref a_parts, .int m_seed1, .int m_darkNow])), (a_tape, .inl (g.2.2.1, 900, .inl d_tape))] [(2, .int r_12), (1, .int u_105), (0, .ref h0)] 67 [] => hL _ d_letters u_1 0 rfl (iv_w iv_17 (by decide) (by decide)) (iv_w (show IV 0 0 0 from (by decide)) (by decide) (by decide)) (by omega) (by omega) (by have e0 : (0 : Int32).toInt = 0 := (by decide); omega)) ?_
        refine fun nn_112 => Nat.strongRecOn nn_112 (fun nn_112 ih_114 => ?_)
        intro uf_104 u_105 u_107 hm_113 hv_106 hv_108 hx_109 hx_110 hx_111
        refine k_aload_n X dX11_next_67 2 rfl ?_
        refine k_iload_n X dX11_next_68 1 rfl ?_
        refine k_callVI (n := 1) (As := [.int u_105]) (st := []) X [(h0, .inr (11, [.int m_thrown, .ref a_tape, .int m_taped, .int m_size, .int u_1, .int m_end, .int m_token, .int 0, .int u_107, .int m_fault, .int m_place, .int m_trouble, .ref a_letters, .int m_failed, .int m_hasHouse, .ref a_r, .ref a_fresh, .ref a_st, .ref a_undone, .ref a_kept, .int m_undos, .int m_images, .ref a_from, .ref a_begin, .ref a_motor, .ref a_change, .ref a_startFrame, .ref a_changeFrame, .ref a_lostAt, .ref a_blackAt, .ref a_slips, .ref a_leftArc, .ref a_died, .ref a_arcs, .int m_bestSum, .int m_nearest, .int m_nearestTown, .ref a_there, .ref a_backAt, .ref a_sorted, .ref a_parts, .int m_seed1, .int m_darkNow])), (a_tape, .inl (g.2.2.1, 900, .inl d_tape))] [(a_letters, .inl (g.2.2.1, 8, .inl uf_104))] [1, 2] [0] (m_look l g h0 u_105 m_thrown a_tape m_taped m_size u_1 m_end m_token 0 u_107 m_fault m_place m_trouble a_letters m_failed m_hasHouse a_r a_fresh a_st a_undone a_kept m_undos m_images a_from a_begin a_motor a_change a_startFrame a_changeFrame a_lostAt a_blackAt a_slips a_leftArc a_died a_arcs m_bestSum m_nearest m_nearestTown a_there a_backAt a_sorted a_parts m_seed1 m_darkNow d_tape (iv_w hv_106 (by decide) (by decide)) (iv_w hv_m_size (by decide) (by decide))) dX11_next_69 mw495 mw496 mw497 mw5 mw498 rfl 11 rfl rfl 0 _ rfl (by unfold yOk; decide) rfl (Nat.le_of_ble_eq_true rfl) (Nat.le_of_ble_eq_true rfl) (Nat.le_of_ble_eq_true rfl) (Nat.le_of_ble_eq_true rfl) (Nat.le_of_ble_eq_true rfl) rfl rfl (by decide) rfl (by decide) (by decide) ?_
        rintro r_115 w ⟨hq_116, hk_117, rfl⟩
        refine k_ws [(a_letters, .inl (g.2.2.1, 8, .inl uf_104)), (h0, .inr (11, [.int m_thrown, .ref a_tape, .int m_taped, .int m_size, .int u_1, .int m_end, .int m_token, .int 0, .int u_107, .int m_fault, .int m_place, .int m_trouble, .ref a_letters, .int m_failed, .int m_hasHouse, .ref a_r, .ref a_fresh, .ref a_st, .ref a_undone, .ref a_kept, .int m_undos, .int m_images, .ref a_from, .ref a_begin, .ref a_motor, .ref a_change, .ref a_startFrame, .ref a_changeFrame, .ref a_lostAt, .ref a_blackAt, .ref a_slips, .ref a_leftArc, .ref a_died, .ref a_arcs, .int m_bestSum, .int m_nearest, .int m_nearestTown, .ref a_there, .ref a_backAt, .ref a_sorted, .ref a_parts, .int m_seed1, .int m_darkNow])), (a_tape, .inl (g.2.2.1, 900, .inl d_tape))] rfl ?_
        refine k_callSI (n := 1) (As := [.int r_115]) (st := []) X [] [(a_letters, .inl (g.2.2.1, 8, .inl uf_104)), (h0, .inr (11, [.int m_thrown, .ref a_tape, .int m_taped, .int m_size, .int u_1, .int m_end, .int m_token, .int 0, .int u_107, .int m_fault, .int m_place, .int m_trouble, .ref a_letters, .int m_failed, .int m_hasHouse, .ref a_r, .ref a_fresh, .ref a_st, .ref a_undone, .ref a_kept, .int m_undos, .int m_images, .ref a_from, .ref a_begin, .ref a_motor, .ref a_change, .ref a_startFrame, .ref a_changeFrame, .ref a_lostAt, .ref a_blackAt, .ref a_slips, .ref a_leftArc, .ref a_died, .ref a_arcs, .int m_bestSum, .int m_nearest, .int m_nearestTown, .ref a_there, .ref a_backAt, .ref a_sorted, .ref a_parts, .int m_seed1, .int m_darkNow])), (a_tape, .inl (g.2.2.1, 900, .inl d_tape))] [] [0, 1, 2] (m_isSmall l g r_115) dX11_next_72 mw499 mw500 mw5 mw501 (by unfold yOk; decide) rfl (Nat.le_of_ble_eq_true rfl) (Nat.le_of_ble_eq_true rfl) (Nat.le_of_ble_eq_true rfl) (Nat.le_of_ble_eq_true rfl) (Nat.le_of_ble_eq_true rfl) rfl rfl (by decide) rfl (by decide) (by decide) ?_
        rintro r_118 w ⟨iv_119, hk_120, hk_121, rfl⟩
        refine k_ws [(a_letters, .inl (g.2.2.1, 8, .inl uf_104)), (h0, .inr (11, [.int m_thrown, .ref a_tape, .int m_taped, .int m_size, .int u_1, .int m_end, .int m_token, .int 0, .int u_107, .int m_fault, .int m_place, .int m_trouble, .ref a_letters, .int m_failed, .int m_hasHouse, .ref a_r, .ref a_fresh, .ref a_st, .ref a_undone, .ref a_kept, .int m_undos, .int m_images, .ref a_from, .ref a_begin, .ref a_motor, .ref a_change, .ref a_startFrame, .ref a_changeFrame, .ref a_lostAt, .ref a_blackAt, .ref a_slips, .ref a_leftArc, .ref a_died, .ref a_arcs, .int m_bestSum, .int m_nearest, .int m_nearestTown, .ref a_there, .ref a_backAt, .ref a_sorted, .ref a_parts, .int m_seed1, .int m_darkNow])), (a_tape, .inl (g.2.2.1, 900, .inl d_tape))] rfl ?_
        refine k_if_eq 117 X dX11_next_75 (by decide) (fun h_122 => ?_) (fun h_122 => ?_)
        · skip
          have iv_123 : IV r_118 0 0 := iv_meet iv_119 (iv_e h_122 (show IV 0 0 0 from (by decide))) (by decide) (by decide)
          have hc_124 := hk_121 (iv_eq iv_123 (show IV 0 0 0 from (by decide)))
          have j_125 : r_115.toInt < 97 ∨ 122 < r_115.toInt := hc_124
          have j_126 : u_1.toInt < u_105.toInt := look_str hq_13 hq_116 iv_102 (by assumption) hx_110
          refine k_aload_n X dX11_next_117 2 rfl ?_
          refine k_iload_n X dX11_next_118 1 rfl ?_
          refine k_put (ci := 11) [(a_letters, .inl (g.2.2.1, 8, .inl uf_104)), (h0, .inr (11, [.int m_thrown, .ref a_tape, .int m_taped, .int m_size, .int u_1, .int u_105, .int m_token, .int 0, .int u_107, .int m_fault, .int m_place, .int m_trouble, .ref a_letters, .int m_failed, .int m_hasHouse, .ref a_r, .ref a_fresh, .ref a_st, .ref a_undone, .ref a_kept, .int m_undos, .int m_images, .ref a_from, .ref a_begin, .ref a_motor, .ref a_change, .ref a_startFrame, .ref a_changeFrame, .ref a_lostAt, .ref a_blackAt, .ref a_slips, .ref a_leftArc, .ref a_died, .ref a_arcs, .int m_bestSum, .int m_nearest, .int m_nearestTown, .ref a_there, .ref a_backAt, .ref a_sorted, .ref a_parts, .int m_seed1, .int m_darkNow])), (a_tape, .inl (g.2.2.1, 900, .inl d_tape))] X inlX11 rfl tyX11_ok nmX11 5 (by decide) rfl dX11_next_119 mw471 1 rfl rfl rfl (Nat.le_of_ble_eq_true rfl) rfl ?_
          refine k_aload_n X dX11_next_122 2 rfl ?_
          refine k_aload_n X dX11_next_123 2 rfl ?_
          refine k_get (ci := 11) X inlX11 rfl 8 (by decide) dX11_next_124 mw493 1 rfl rfl ?_
          refine k_bipush (v := 8) X dX11_next_127 (by decide) ?_
          refine k_ic_le 136 X dX11_next_129 (by decide) (fun h_127 => ?_) (fun h_127 => ?_)
          · skip
            have j_128 : u_107.toInt ≤ 8 := iv_le h_127
            have iv_129 : IV u_107 0 8 := iv_leL (iv_le h_127) hv_108 (show IV 8 8 8 from (by decide)) (by decide)
            refine k_iconst (v := 2) X dX11_next_136 (by decide) ?_
            refine k_put (ci := 11) [(a_letters, .inl (g.2.2.1, 8, .inl uf_104)), (h0, .inr (11, [.int m_thrown, .ref a_tape, .int m_taped, .int m_size, .int u_1, .int u_105, .int 2, .int 0, .int u_107, .int m_fault, .int m_place, .int m_trouble, .ref a_letters, .int m_failed, .int m_hasHouse, .ref a_r, .ref a_fresh, .ref a_st, .ref a_undone, .ref a_kept, .int m_undos, .int m_images, .ref a_from, .ref a_begin, .ref a_motor, .ref a_change, .ref a_startFrame, .ref a_changeFrame, .ref a_lostAt, .ref a_blackAt, .ref a_slips, .ref a_leftArc, .ref a_died, .ref a_arcs, .int m_bestSum, .int m_nearest, .int m_nearestTown, .ref a_there, .ref a_backAt, .ref a_sorted, .ref a_parts, .int m_seed1, .int m_darkNow])), (a_tape, .inl (g.2.2.1, 900, .inl d_tape))] X inlX11 rfl tyX11_ok nmX11 6 (by decide) rfl dX11_next_137 mw472 1 rfl rfl rfl (Nat.le_of_ble_eq_true rfl) rfl ?_
            refine k_goto 247 X dX11_next_140 (by decide) ?_
            exact k_vret X hr dX11_next_247 (Nat.le_of_ble_eq_true rfl) (Nat.le_of_ble_eq_true rfl) [1, 2, 0] (by decide) rfl rfl ⟨u_1, u_105, uf_104, u_107, 2, 0, (iv_w hv_106 (by decide) (by decide)), (iv_w iv_129 (by decide) (by decide)), (by first | exact Or.inl (by decide) | exact Or.inr (by omega) | omega), (by omega), (fun _ => (iv_w iv_129 (by decide) (by decide))), rfl⟩
          · skip
            have j_130 : 8 < u_107.toInt := iv_nle h_127
            have iv_131 : IV u_107 9 900 := iv_ltR (iv_nle h_127) (show IV 8 8 8 from (by decide)) hv_108 (by decide)
            refine k_iconst (v := 1) X dX11_next_132 (by decide) ?_
            refine k_goto 137 X dX11_next_133 (by decide) ?_
            refine k_put (ci := 11) [(a_letters, .inl (g.2.2.1, 8, .inl uf_104)), (h0, .inr (11, [.int m_thrown, .ref a_tape, .int m_taped, .int m_size, .int u_1, .int u_105, .int 1, .int 0, .int u_107, .int m_fault, .int m_place, .int m_trouble, .ref a_letters, .int m_failed, .int m_hasHouse, .ref a_r, .ref a_fresh, .ref a_st, .ref a_undone, .ref a_kept, .int m_undos, .int m_images, .ref a_from, .ref a_begin, .ref a_motor, .ref a_change, .ref a_startFrame, .ref a_changeFrame, .ref a_lostAt, .ref a_blackAt, .ref a_slips, .ref a_leftArc, .ref a_died, .ref a_arcs, .int m_bestSum, .int m_nearest, .int m_nearestTown, .ref a_there, .ref a_backAt, .ref a_sorted, .ref a_parts, .int m_seed1, .int m_darkNow])), (a_tape, .inl (g.2.2.1, 900, .inl d_tape))] X inlX11 rfl tyX11_ok nmX11 6 (by decide) rfl dX11_next_137 mw472 1 rfl rfl rfl (Nat.le_of_ble_eq_true rfl) rfl ?_
            refine k_goto 247 X dX11_next_140 (by decide) ?_
            exact k_vret X hr dX11_next_247 (Nat.le_of_ble_eq_true rfl) (Nat.le_of_ble_eq_true rfl) [1, 2, 0] (by decide) rfl rfl ⟨u_1, u_105, uf_104, u_107, 1, 0, (iv_w hv_106 (by decide) (by decide)), (iv_w iv_131 (by decide) (by decide)), (by first | exact Or.inl (by decide) | exact Or.inr (by omega) | omega), (by omega), (fun q => (iv_eqN q (show IV 1 1 1 from (by decide)) (show IV 2 2 2 from (by decide)) (by decide)).elim), rfl⟩
        · skip
          have hc_132 := hk_120.resolve_left h_122
          have iv_133 : IV r_115 97 122 := iv_meet (iv_any r_115) hc_132 (by decide) (by decide)
          have hc_134 := hk_117.resolve_left (fun q => iv_eqN q iv_133 (show IV (-1) (-1) (-1) from (by decide)) (by decide))
          have iv_135 : IV u_105 0 899 := iv_meet hv_106 hc_134.1 (by decide) (by decide)
          have j_136 : u_105.toInt < m_size.toInt := hc_134.2
          have iv_137 : IV r_118 1 1 := iv_neL h_122 iv_119 (show IV 0 0 0 from (by decide)) (by decide)
          refine k_aload_n X dX11_next_78 2 rfl ?_
          refine k_get (ci := 11) X inlX11 rfl 8 (by decide) dX11_next_79 mw493 1 rfl rfl ?_
          refine k_bipush (v := 8) X dX11_next_82 (by decide) ?_
          refine k_ic_ge 101 X dX11_next_84 (by decide) (fun h_138 => ?_) (fun h_138 => ?_)
          · skip
            have j_139 : 8 ≤ u_107.toInt := iv_le h_138
            have iv_140 : IV u_107 8 900 := iv_leR (iv_le h_138) (show IV 8 8 8 from (by decide)) hv_108 (by decide)
            have iv_141 : IV u_107 8 899 := by have := iv_140; rw [IV]; omega
            refine k_aload_n X dX11_next_101 2 rfl ?_
            refine k_dup X dX11_next_102 rfl ?_
            refine k_get (ci := 11) X inlX11 rfl 8 (by decide) dX11_next_103 mw493 1 rfl rfl ?_
            refine k_iconst (v := 1) X dX11_next_106 (by decide) ?_
            refine k_iadd X dX11_next_107 ?_
            refine k_nm (fun z_142 ez_142 => ?_)
            have i_143 : z_142.toInt = u_107.toInt + 1 := in_add ez_142 iv_141 (show IV 1 1 1 from (by decide)) (by decide) (by decide)
            have iv_144 : IV z_142 9 900 := by have := iv_141; have := (show IV 1 1 1 from (by decide)); rw [IV, i_143]; omega
            refine k_put (ci := 11) [(a_letters, .inl (g.2.2.1, 8, .inl uf_104)), (h0, .inr (11, [.int m_thrown, .ref a_tape, .int m_taped, .int m_size, .int u_1, .int m_end, .int m_token, .int 0, .int z_142, .int m_fault, .int m_place, .int m_trouble, .ref a_letters, .int m_failed, .int m_hasHouse, .ref a_r, .ref a_fresh, .ref a_st, .ref a_undone, .ref a_kept, .int m_undos, .int m_images, .ref a_from, .ref a_begin, .ref a_motor, .ref a_change, .ref a_startFrame, .ref a_changeFrame, .ref a_lostAt, .ref a_blackAt, .ref a_slips, .ref a_leftArc, .ref a_died, .ref a_arcs, .int m_bestSum, .int m_nearest, .int m_nearestTown, .ref a_there, .ref a_backAt, .ref a_sorted, .ref a_parts, .int m_seed1, .int m_darkNow])), (a_tape, .inl (g.2.2.1, 900, .inl d_tape))] X inlX11 rfl tyX11_ok nmX11 8 (by decide) rfl dX11_next_108 mw493 1 rfl rfl rfl (Nat.le_of_ble_eq_true rfl) rfl ?_
            obtain ⟨z_145, ez_145⟩ : ∃ y : Int32, u_105 + Int32.ofInt 1 = y := ⟨_, rfl⟩
            refine k_iinc z_145 [(1, .int z_145), (2, .int r_12), (0, .ref h0)] 1 X dX11_next_111 rfl ez_145 (by decide) rfl ?_
            have i_146 : z_145.toInt = u_105.toInt + 1 := in_inc ez_145 (by decide) iv_135 (by decide) (by decide)
            have iv_147 : IV z_145 1 900 := by have := iv_135; rw [IV, i_146]; omega
            refine k_goto 67 X dX11_next_114 (by decide) ?_
            refine k_lv [(2, .int r_12), (1, .int z_145), (0, .ref h0)] [1, 0, 2] rfl ?_
            exact ih_114 _ (by omega) uf_104 z_145 z_142 rfl (iv_w iv_147 (by decide) (by decide)) (iv_w iv_144 (by decide) (by decide)) (by omega) (by omega) (by omega)
          · skip
            have j_148 : u_107.toInt < 8 := iv_nle h_138
            have iv_149 : IV u_107 0 7 := iv_ltL (iv_nle h_138) hv_108 (show IV 8 8 8 from (by decide)) (by decide)
            refine k_aload_n X dX11_next_87 2 rfl ?_
            refine k_get (ci := 11) X inlX11 rfl 12 (by decide) dX11_next_88 mw169 1 rfl rfl ?_
            refine k_aload_n X dX11_next_91 2 rfl ?_
            refine k_get (ci := 11) X inlX11 rfl 8 (by decide) dX11_next_92 mw493 1 rfl rfl ?_
            refine k_aload_n X dX11_next_95 2 rfl ?_
            refine k_iload_n X dX11_next_96 1 rfl ?_
            refine k_callVI (n := 1) (As := [.int u_105]) (st := [.int u_107, .ref a_letters]) X [(h0, .inr (11, [.int m_thrown, .ref a_tape, .int m_taped, .int m_size, .int u_1, .int m_end, .int m_token, .int 0, .int u_107, .int m_fault, .int m_place, .int m_trouble, .ref a_letters, .int m_failed, .int m_hasHouse, .ref a_r, .ref a_fresh, .ref a_st, .ref a_undone, .ref a_kept, .int m_undos, .int m_images, .ref a_from, .ref a_begin, .ref a_motor, .ref a_change, .ref a_startFrame, .ref a_changeFrame, .ref a_lostAt, .ref a_blackAt, .ref a_slips, .ref a_leftArc, .ref a_died, .ref a_arcs, .int m_bestSum, .int m_nearest, .int m_nearestTown, .ref a_there, .ref a_backAt, .ref a_sorted, .ref a_parts, .int m_seed1, .int m_darkNow])), (a_tape, .inl (g.2.2.1, 900, .inl d_tape))] [(a_letters, .inl (g.2.2.1, 8, .inl uf_104))] [1, 2] [0] (m_look l g h0 u_105 m_thrown a_tape m_taped m_size u_1 m_end m_token 0 u_107 m_fault m_place m_trouble a_letters m_failed m_hasHouse a_r a_fresh a_st a_undone a_kept m_undos m_images a_from a_begin a_motor a_change a_startFrame a_changeFrame a_lostAt a_blackAt a_slips a_leftArc a_died a_arcs m_bestSum m_nearest m_nearestTown a_there a_backAt a_sorted a_parts m_seed1 m_darkNow d_tape (iv_w iv_135 (by decide) (by decide)) (iv_w hv_m_size (by decide) (by decide))) dX11_next_97 mw495 mw496 mw497 mw5 mw498 rfl 11 rfl rfl 0 _ rfl (by unfold yOk; decide) rfl (Nat.le_of_ble_eq_true rfl) (Nat.le_of_ble_eq_true rfl) (Nat.le_of_ble_eq_true rfl) (Nat.le_of_ble_eq_true rfl) (Nat.le_of_ble_eq_true rfl) rfl rfl (by decide) rfl (by decide) (by decide) ?_
            rintro r_150 w ⟨hq_151, hk_152, rfl⟩
            refine k_ws [(a_letters, .inl (g.2.2.1, 8, .inl uf_104)), (h0, .inr (11, [.int m_thrown, .ref a_tape, .int m_taped, .int m_size, .int u_1, .int m_end, .int m_token, .int 0, .int u_107, .int m_fault, .int m_place, .int m_trouble, .ref a_letters, .int m_failed, .int m_hasHouse, .ref a_r, .ref a_fresh, .ref a_st, .ref a_undone, .ref a_kept, .int m_undos, .int m_images, .ref a_from, .ref a_begin, .ref a_motor, .ref a_change, .ref a_startFrame, .ref a_changeFrame, .ref a_lostAt, .ref a_blackAt, .ref a_slips, .ref a_leftArc, .ref a_died, .ref a_arcs, .int m_bestSum, .int m_nearest, .int m_nearestTown, .ref a_there, .ref a_backAt, .ref a_sorted, .ref a_parts, .int m_seed1, .int m_darkNow])), (a_tape, .inl (g.2.2.1, 900, .inl d_tape))] rfl ?_
            refine k_iast [(a_letters, .inl (g.2.2.1, 8, .inl (upd uf_104 (u_107 : Int32).toNatClampNeg r_150))), (h0, .inr (11, [.int m_thrown, .ref a_tape, .int m_taped, .int m_size, .int u_1, .int m_end, .int m_token, .int 0, .int u_107, .int m_fault, .int m_place, .int m_trouble, .ref a_letters, .int m_failed, .int m_hasHouse, .ref a_r, .ref a_fresh, .ref a_st, .ref a_undone, .ref a_kept, .int m_undos, .int m_images, .ref a_from, .ref a_begin, .ref a_motor, .ref a_change, .ref a_startFrame, .ref a_changeFrame, .ref a_lostAt, .ref a_blackAt, .ref a_slips, .ref a_leftArc, .ref a_died, .ref a_arcs, .int m_bestSum, .int m_nearest, .int m_nearestTown, .ref a_there, .ref a_backAt, .ref a_sorted, .ref a_parts, .int m_seed1, .int m_darkNow])), (a_tape, .inl (g.2.2.1, 900, .inl d_tape))] X dX11_next_100 0 rfl (iv_in iv_149 (by decide) (by decide)) rfl ?_
            refine (fun hg : ∀ fa_153 : Nat → Int32, Wk p l e _ s m args below meth c _ A g _ _ _ [(a_letters, .inl (g.2.2.1, 8, .inl fa_153)), (h0, .inr (11, [.int m_thrown, .ref a_tape, .int m_taped, .int m_size, .int u_1, .int m_end, .int m_token, .int 0, .int u_107, .int m_fault, .int m_place, .int m_trouble, .ref a_letters, .int m_failed, .int m_hasHouse, .ref a_r, .ref a_fresh, .ref a_st, .ref a_undone, .ref a_kept, .int m_undos, .int m_images, .ref a_from, .ref a_begin, .ref a_motor, .ref a_change, .ref a_startFrame, .ref a_changeFrame, .ref a_lostAt, .ref a_blackAt, .ref a_slips, .ref a_leftArc, .ref a_died, .ref a_arcs, .int m_bestSum, .int m_nearest, .int m_nearestTown, .ref a_there, .ref a_backAt, .ref a_sorted, .ref a_parts, .int m_seed1, .int m_darkNow])), (a_tape, .inl (g.2.2.1, 900, .inl d_tape))] _ _ _ => hg _) (fun fa_153 => ?_)
            have iv_154 : IV u_107 0 7 := by have := iv_149; rw [IV]; omega
            refine k_aload_n X dX11_next_101 2 rfl ?_
            refine k_dup X dX11_next_102 rfl ?_
            refine k_get (ci := 11) X inlX11 rfl 8 (by decide) dX11_next_103 mw493 1 rfl rfl ?_
            refine k_iconst (v := 1) X dX11_next_106 (by decide) ?_
            refine k_iadd X dX11_next_107 ?_
            refine k_nm (fun z_155 ez_155 => ?_)
            have i_156 : z_155.toInt = u_107.toInt + 1 := in_add ez_155 iv_154 (show IV 1 1 1 from (by decide)) (by decide) (by decide)
            have iv_157 : IV z_155 1 8 := by have := iv_154; have := (show IV 1 1 1 from (by decide)); rw [IV, i_156]; omega
            refine k_put (ci := 11) [(a_letters, .inl (g.2.2.1, 8, .inl fa_153)), (h0, .inr (11, [.int m_thrown, .ref a_tape, .int m_taped, .int m_size, .int u_1, .int m_end, .int m_token, .int 0, .int z_155, .int m_fault, .int m_place, .int m_trouble, .ref a_letters, .int m_failed, .int m_hasHouse, .ref a_r, .ref a_fresh, .ref a_st, .ref a_undone, .ref a_kept, .int m_undos, .int m_images, .ref a_from, .ref a_begin, .ref a_motor, .ref a_change, .ref a_startFrame, .ref a_changeFrame, .ref a_lostAt, .ref a_blackAt, .ref a_slips, .ref a_leftArc, .ref a_died, .ref a_arcs, .int m_bestSum, .int m_nearest, .int m_nearestTown, .ref a_there, .ref a_backAt, .ref a_sorted, .ref a_parts, .int m_seed1, .int m_darkNow])), (a_tape, .inl (g.2.2.1, 900, .inl d_tape))] X inlX11 rfl tyX11_ok nmX11 8 (by decide) rfl dX11_next_108 mw493 1 rfl rfl rfl (Nat.le_of_ble_eq_true rfl) rfl ?_
            obtain ⟨z_158, ez_158⟩ : ∃ y : Int32, u_105 + Int32.ofInt 1 = y := ⟨_, rfl⟩
            refine k_iinc z_158 [(1, .int z_158), (2, .int r_12), (0, .ref h0)] 1 X dX11_next_111 rfl ez_158 (by decide) rfl ?_
            have i_159 : z_158.toInt = u_105.toInt + 1 := in_inc ez_158 (by decide) iv_135 (by decide) (by decide)
            have iv_160 : IV z_158 1 900 := by have := iv_135; rw [IV, i_159]; omega
            refine k_goto 67 X dX11_next_114 (by decide) ?_
            refine k_lv [(2, .int r_12), (1, .int z_158), (0, .ref h0)] [1, 0, 2] rfl ?_
            exact ih_114 _ (by omega) fa_153 z_158 z_155 rfl (iv_w iv_160 (by decide) (by decide)) (iv_w iv_157 (by decide) (by decide)) (by omega) (by omega) (by omega)
    · skip
      have iv_161 : IV r_12 (-1) (-1) := iv_meet (iv_any r_12) (iv_e h_15 (show IV (-1) (-1) (-1) from (by decide))) (by decide) (by decide)
      refine k_aload_n X dX11_next_47 2 rfl ?_
      refine k_iconst (v := 0) X dX11_next_48 (by decide) ?_
      refine k_put (ci := 11) [(a_letters, .inl (g.2.2.1, 8, .inl d_letters)), (h0, .inr (11, [.int m_thrown, .ref a_tape, .int m_taped, .int m_size, .int u_1, .int m_end, .int 0, .int 0, .int 0, .int m_fault, .int m_place, .int m_trouble, .ref a_letters, .int m_failed, .int m_hasHouse, .ref a_r, .ref a_fresh, .ref a_st, .ref a_undone, .ref a_kept, .int m_undos, .int m_images, .ref a_from, .ref a_begin, .ref a_motor, .ref a_change, .ref a_startFrame, .ref a_changeFrame, .ref a_lostAt, .ref a_blackAt, .ref a_slips, .ref a_leftArc, .ref a_died, .ref a_arcs, .int m_bestSum, .int m_nearest, .int m_nearestTown, .ref a_there, .ref a_backAt, .ref a_sorted, .ref a_parts, .int m_seed1, .int m_darkNow])), (a_tape, .inl (g.2.2.1, 900, .inl d_tape))] X inlX11 rfl tyX11_ok nmX11 6 (by decide) rfl dX11_next_49 mw472 1 rfl rfl rfl (Nat.le_of_ble_eq_true rfl) rfl ?_
      refine k_aload_n X dX11_next_52 2 rfl ?_
      refine k_iload_n X dX11_next_53 1 rfl ?_
      refine k_put (ci := 11) [(a_letters, .inl (g.2.2.1, 8, .inl d_letters)), (h0, .inr (11, [.int m_thrown, .ref a_tape, .int m_taped, .int m_size, .int u_1, .int u_1, .int 0, .int 0, .int 0, .int m_fault, .int m_place, .int m_trouble, .ref a_letters, .int m_failed, .int m_hasHouse, .ref a_r, .ref a_fresh, .ref a_st, .ref a_undone, .ref a_kept, .int m_undos, .int m_images, .ref a_from, .ref a_begin, .ref a_motor, .ref a_change, .ref a_startFrame, .ref a_changeFrame, .ref a_lostAt, .ref a_blackAt, .ref a_slips, .ref a_leftArc, .ref a_died, .ref a_arcs, .int m_bestSum, .int m_nearest, .int m_nearestTown, .ref a_there, .ref a_backAt, .ref a_sorted, .ref a_parts, .int m_seed1, .int m_darkNow])), (a_tape, .inl (g.2.2.1, 900, .inl d_tape))] X inlX11 rfl tyX11_ok nmX11 5 (by decide) rfl dX11_next_54 mw471 1 rfl rfl rfl (Nat.le_of_ble_eq_true rfl) rfl ?_
      refine k_goto 247 X dX11_next_57 (by decide) ?_
      exact k_vret X hr dX11_next_247 (Nat.le_of_ble_eq_true rfl) (Nat.le_of_ble_eq_true rfl) [1, 2, 0] (by decide) rfl rfl ⟨u_1, u_1, d_letters, 0, 0, 0, (iv_w hv_2 (by decide) (by decide)), (iv_w (show IV 0 0 0 from (by decide)) (by decide) (by decide)), (by first | exact Or.inl (by decide) | exact Or.inr (by omega) | omega), (by omega), (fun q => (iv_eqN q (show IV 0 0 0 from (by decide)) (show IV 2 2 2 from (by decide)) (by decide)).elim), rfl⟩
  · skip
    have iv_162 : IV r_8 32 32 := iv_meet (iv_any r_8) (iv_e h_11 (show IV 32 32 32 from (by decide))) (by decide) (by decide)
    have hc_163 := hk_10.resolve_left (fun q => iv_eqN q iv_162 (show IV (-1) (-1) (-1) from (by decide)) (by decide))
    have iv_164 : IV u_1 0 899 := iv_meet hv_2 hc_163.1 (by decide) (by decide)
    have j_165 : u_1.toInt < m_size.toInt := hc_163.2
    obtain ⟨z_166, ez_166⟩ : ∃ y : Int32, u_1 + Int32.ofInt 1 = y := ⟨_, rfl⟩
    refine k_iinc z_166 [(1, .int z_166), (0, .ref h0)] 0 X dX11_next_15 rfl ez_166 (by decide) rfl ?_
    have i_167 : z_166.toInt = u_1.toInt + 1 := in_inc ez_166 (by decide) iv_164 (by decide) (by decide)
    have iv_168 : IV z_166 1 900 := by have := iv_164; rw [IV, i_167]; omega
    refine k_goto 5 X dX11_next_18 (by decide) ?_
    refine k_sub [(h0, .inr (11, [.int m_thrown, .ref a_tape, .int m_taped, .int m_size, .int m_at, .int m_end, .int m_token, .int m_whole, .int m_nameSize, .int m_fault, .int m_place, .int m_trouble, .ref a_letters, .int m_failed, .int m_hasHouse, .ref a_r, .ref a_fresh, .ref a_st, .ref a_undone, .ref a_kept, .int m_undos, .int m_images, .ref a_from, .ref a_begin, .ref a_motor, .ref a_change, .ref a_startFrame, .ref a_changeFrame, .ref a_lostAt, .ref a_blackAt, .ref a_slips, .ref a_leftArc, .ref a_died, .ref a_arcs, .int m_bestSum, .int m_nearest, .int m_nearestTown, .ref a_there, .ref a_backAt, .ref a_sorted, .ref a_parts, .int m_seed1, .int m_darkNow])), (a_tape, .inl (g.2.2.1, 900, .inl d_tape)), (a_letters, .inl (g.2.2.1, 8, .inl d_letters))] [1, 2, 0] rfl (by decide) rfl ?_
    exact ih_7 _ (by omega) z_166 rfl (iv_w iv_168 (by decide) (by decide)) (by omega) (by omega)

theorem dX11_bad_0 : decode cX11_bad 0 = .ok (.aload_n 0, 1) := by decide +kernel
theorem dX11_bad_1 : decode cX11_bad 1 = .ok (.getfield 121, 3) := by decide +kernel
theorem dX11_bad_4 : decode cX11_bad 4 = .ok (.ifCond .eq 4, 3) := by decide +kernel
theorem dX11_bad_7 : decode cX11_bad 7 = .ok (.return_, 1) := by decide +kernel
theorem dX11_bad_8 : decode cX11_bad 8 = .ok (.aload_n 0, 1) := by decide +kernel
theorem dX11_bad_9 : decode cX11_bad 9 = .ok (.iconst 1, 1) := by decide +kernel
theorem dX11_bad_10 : decode cX11_bad 10 = .ok (.putfield 121, 3) := by decide +kernel
theorem dX11_bad_13 : decode cX11_bad 13 = .ok (.aload_n 0, 1) := by decide +kernel
theorem dX11_bad_14 : decode cX11_bad 14 = .ok (.iload_n 1, 1) := by decide +kernel
theorem dX11_bad_15 : decode cX11_bad 15 = .ok (.putfield 125, 3) := by decide +kernel
theorem dX11_bad_18 : decode cX11_bad 18 = .ok (.aload_n 0, 1) := by decide +kernel
theorem dX11_bad_19 : decode cX11_bad 19 = .ok (.iload_n 2, 1) := by decide +kernel
theorem dX11_bad_20 : decode cX11_bad 20 = .ok (.putfield 13, 3) := by decide +kernel
theorem dX11_bad_23 : decode cX11_bad 23 = .ok (.return_, 1) := by decide +kernel
set_option maxHeartbeats 4000000 in
set_option maxRecDepth 100000 in
theorem m_bad (l : Launch) (g : Gx) (h0 : Nat) (p0 : Int32) (p1 : Int32) (m_thrown : Int32) (a_tape : Nat) (m_taped : Int32) (m_size : Int32) (m_at : Int32) (m_end : Int32) (m_token : Int32) (m_whole : Int32) (m_nameSize : Int32) (m_fault : Int32) (m_place : Int32) (m_trouble : Int32) (a_letters : Nat) (m_failed : Int32) (m_hasHouse : Int32) (a_r : Nat) (a_fresh : Nat) (a_st : Nat) (a_undone : Nat) (a_kept : Nat) (m_undos : Int32) (m_images : Int32) (a_from : Nat) (a_begin : Nat) (a_motor : Nat) (a_change : Nat) (a_startFrame : Nat) (a_changeFrame : Nat) (a_lostAt : Nat) (a_blackAt : Nat) (a_slips : Nat) (a_leftArc : Nat) (a_died : Nat) (a_arcs : Nat) (m_bestSum : Int32) (m_nearest : Int32) (m_nearestTown : Int32) (a_there : Nat) (a_backAt : Nat) (a_sorted : Nat) (a_parts : Nat) (m_seed1 : Int32) (m_darkNow : Int32) (hv_m_failed : IV m_failed 0 1) : cV l g yX11_bad cX11_bad 3 0 0 0 0 [.ref h0, .int p0, .int p1] [(h0, .inr (11, [.int m_thrown, .ref a_tape, .int m_taped, .int m_size, .int m_at, .int m_end, .int m_token, .int m_whole, .int m_nameSize, .int m_fault, .int m_place, .int m_trouble, .ref a_letters, .int m_failed, .int m_hasHouse, .ref a_r, .ref a_fresh, .ref a_st, .ref a_undone, .ref a_kept, .int m_undos, .int m_images, .ref a_from, .ref a_begin, .ref a_motor, .ref a_change, .ref a_startFrame, .ref a_changeFrame, .ref a_lostAt, .ref a_blackAt, .ref a_slips, .ref a_leftArc, .ref a_died, .ref a_arcs, .int m_bestSum, .int m_nearest, .int m_nearestTown, .ref a_there, .ref a_backAt, .ref a_sorted, .ref a_parts, .int m_seed1, .int m_darkNow]))] (fun w => ∃ (m_failed2 : Int32) (m_fault2 : Int32) (m_place2 : Int32), IV m_failed2 1 1 ∧ w = [(h0, .inr (11, [.int m_thrown, .ref a_tape, .int m_taped, .int m_size, .int m_at, .int m_end, .int m_token, .int m_whole, .int m_nameSize, .int m_fault2, .int m_place2, .int m_trouble, .ref a_letters, .int m_failed2, .int m_hasHouse, .ref a_r, .ref a_fresh, .ref a_st, .ref a_undone, .ref a_kept, .int m_undos, .int m_images, .ref a_from, .ref a_begin, .ref a_motor, .ref a_change, .ref a_startFrame, .ref a_changeFrame, .ref a_lostAt, .ref a_blackAt, .ref a_slips, .ref a_leftArc, .ref a_died, .ref a_arcs, .int m_bestSum, .int m_nearest, .int m_nearestTown, .ref a_there, .ref a_backAt, .ref a_sorted, .ref a_parts, .int m_seed1, .int m_darkNow]))]) := by
  refine cV.of (by decide) (Nat.le_of_ble_eq_true rfl) ?_
  intro p e s m args below meth c A X hr hi
  refine k_lveq [(0, .ref h0), (1, .int p0), (2, .int p1)] rfl ?_
  refine k_aload_n X dX11_bad_0 0 rfl ?_
  refine k_get (ci := 11) X inlX11 rfl 13 (by decide) dX11_bad_1 mw469 0 rfl rfl ?_
  refine k_if_eq 8 X dX11_bad_4 (by decide) (fun h_1 => ?_) (fun h_1 => ?_)
  · skip
    have iv_2 : IV m_failed 0 0 := iv_meet hv_m_failed (iv_e h_1 (show IV 0 0 0 from (by decide))) (by decide) (by decide)
    refine k_aload_n X dX11_bad_8 0 rfl ?_
    refine k_iconst (v := 1) X dX11_bad_9 (by decide) ?_
    refine k_put (ci := 11) [(h0, .inr (11, [.int m_thrown, .ref a_tape, .int m_taped, .int m_size, .int m_at, .int m_end, .int m_token, .int m_whole, .int m_nameSize, .int m_fault, .int m_place, .int m_trouble, .ref a_letters, .int 1, .int m_hasHouse, .ref a_r, .ref a_fresh, .ref a_st, .ref a_undone, .ref a_kept, .int m_undos, .int m_images, .ref a_from, .ref a_begin, .ref a_motor, .ref a_change, .ref a_startFrame, .ref a_changeFrame, .ref a_lostAt, .ref a_blackAt, .ref a_slips, .ref a_leftArc, .ref a_died, .ref a_arcs, .int m_bestSum, .int m_nearest, .int m_nearestTown, .ref a_there, .ref a_backAt, .ref a_sorted, .ref a_parts, .int m_seed1, .int m_darkNow]))] X inlX11 rfl tyX11_ok nmX11 13 (by decide) rfl dX11_bad_10 mw469 0 rfl (by decide) (by decide) (Nat.le_of_ble_eq_true rfl) rfl ?_
    refine k_aload_n X dX11_bad_13 0 rfl ?_
    refine k_iload_n X dX11_bad_14 1 rfl ?_
    refine k_put (ci := 11) [(h0, .inr (11, [.int m_thrown, .ref a_tape, .int m_taped, .int m_size, .int m_at, .int m_end, .int m_token, .int m_whole, .int m_nameSize, .int p0, .int m_place, .int m_trouble, .ref a_letters, .int 1, .int m_hasHouse, .ref a_r, .ref a_fresh, .ref a_st, .ref a_undone, .ref a_kept, .int m_undos, .int m_images, .ref a_from, .ref a_begin, .ref a_motor, .ref a_change, .ref a_startFrame, .ref a_changeFrame, .ref a_lostAt, .ref a_blackAt, .ref a_slips, .ref a_leftArc, .ref a_died, .ref a_arcs, .int m_bestSum, .int m_nearest, .int m_nearestTown, .ref a_there, .ref a_backAt, .ref a_sorted, .ref a_parts, .int m_seed1, .int m_darkNow]))] X inlX11 rfl tyX11_ok nmX11 9 (by decide) rfl dX11_bad_15 mw468 0 rfl rfl rfl (Nat.le_of_ble_eq_true rfl) rfl ?_
    refine k_aload_n X dX11_bad_18 0 rfl ?_
    refine k_iload_n X dX11_bad_19 2 rfl ?_
    refine k_put (ci := 11) [(h0, .inr (11, [.int m_thrown, .ref a_tape, .int m_taped, .int m_size, .int m_at, .int m_end, .int m_token, .int m_whole, .int m_nameSize, .int p0, .int p1, .int m_trouble, .ref a_letters, .int 1, .int m_hasHouse, .ref a_r, .ref a_fresh, .ref a_st, .ref a_undone, .ref a_kept, .int m_undos, .int m_images, .ref a_from, .ref a_begin, .ref a_motor, .ref a_change, .ref a_startFrame, .ref a_changeFrame, .ref a_lostAt, .ref a_blackAt, .ref a_slips, .ref a_leftArc, .ref a_died, .ref a_arcs, .int m_bestSum, .int m_nearest, .int m_nearestTown, .ref a_there, .ref a_backAt, .ref a_sorted, .ref a_parts, .int m_seed1, .int m_darkNow]))] X inlX11 rfl tyX11_ok nmX11 10 (by decide) rfl dX11_bad_20 mw168 0 rfl rfl rfl (Nat.le_of_ble_eq_true rfl) rfl ?_
    exact k_vret X hr dX11_bad_23 (Nat.le_of_ble_eq_true rfl) (Nat.le_of_ble_eq_true rfl) [0] (by decide) rfl rfl ⟨1, p0, p1, (iv_w (show IV 1 1 1 from (by decide)) (by decide) (by decide)), rfl⟩
  · skip
    have iv_3 : IV m_failed 1 1 := iv_neL h_1 hv_m_failed (show IV 0 0 0 from (by decide)) (by decide)
    exact k_vret X hr dX11_bad_7 (Nat.le_of_ble_eq_true rfl) (Nat.le_of_ble_eq_true rfl) [0] (by decide) rfl rfl ⟨m_failed, m_fault, m_place, (iv_w iv_3 (by decide) (by decide)), rfl⟩

theorem dX11_isWord_0 : decode cX11_isWord 0 = .ok (.aload_n 0, 1) := by decide +kernel
theorem dX11_isWord_1 : decode cX11_isWord 1 = .ok (.getfield 121, 3) := by decide +kernel
theorem dX11_isWord_4 : decode cX11_isWord 4 = .ok (.ifCond .ne 22, 3) := by decide +kernel
theorem dX11_isWord_7 : decode cX11_isWord 7 = .ok (.aload_n 0, 1) := by decide +kernel
theorem dX11_isWord_8 : decode cX11_isWord 8 = .ok (.getfield 111, 3) := by decide +kernel
theorem dX11_isWord_11 : decode cX11_isWord 11 = .ok (.iconst 2, 1) := by decide +kernel
theorem dX11_isWord_12 : decode cX11_isWord 12 = .ok (.if_icmp .ne 14, 3) := by decide +kernel
theorem dX11_isWord_15 : decode cX11_isWord 15 = .ok (.aload_n 0, 1) := by decide +kernel
theorem dX11_isWord_16 : decode cX11_isWord 16 = .ok (.getfield 105, 3) := by decide +kernel
theorem dX11_isWord_19 : decode cX11_isWord 19 = .ok (.aload_n 1, 1) := by decide +kernel
theorem dX11_isWord_20 : decode cX11_isWord 20 = .ok (.invokevirtual 128, 3) := by decide +kernel
theorem dX11_isWord_23 : decode cX11_isWord 23 = .ok (.if_icmp .eq 5, 3) := by decide +kernel
theorem dX11_isWord_26 : decode cX11_isWord 26 = .ok (.iconst 0, 1) := by decide +kernel
theorem dX11_isWord_27 : decode cX11_isWord 27 = .ok (.ireturn, 1) := by decide +kernel
theorem dX11_isWord_28 : decode cX11_isWord 28 = .ok (.iconst 1, 1) := by decide +kernel
theorem dX11_isWord_29 : decode cX11_isWord 29 = .ok (.istore_n 2, 1) := by decide +kernel
theorem dX11_isWord_30 : decode cX11_isWord 30 = .ok (.iconst 0, 1) := by decide +kernel
theorem dX11_isWord_31 : decode cX11_isWord 31 = .ok (.istore_n 3, 1) := by decide +kernel
theorem dX11_isWord_32 : decode cX11_isWord 32 = .ok (.iload_n 3, 1) := by decide +kernel
theorem dX11_isWord_33 : decode cX11_isWord 33 = .ok (.aload_n 0, 1) := by decide +kernel
theorem dX11_isWord_34 : decode cX11_isWord 34 = .ok (.getfield 105, 3) := by decide +kernel
theorem dX11_isWord_37 : decode cX11_isWord 37 = .ok (.if_icmp .ge 33, 3) := by decide +kernel
theorem dX11_isWord_40 : decode cX11_isWord 40 = .ok (.iload_n 2, 1) := by decide +kernel
theorem dX11_isWord_41 : decode cX11_isWord 41 = .ok (.ifCond .eq 21, 3) := by decide +kernel
theorem dX11_isWord_44 : decode cX11_isWord 44 = .ok (.aload_n 0, 1) := by decide +kernel
theorem dX11_isWord_45 : decode cX11_isWord 45 = .ok (.getfield 17, 3) := by decide +kernel
theorem dX11_isWord_48 : decode cX11_isWord 48 = .ok (.iload_n 3, 1) := by decide +kernel
theorem dX11_isWord_49 : decode cX11_isWord 49 = .ok (.iaload, 1) := by decide +kernel
theorem dX11_isWord_50 : decode cX11_isWord 50 = .ok (.aload_n 1, 1) := by decide +kernel
theorem dX11_isWord_51 : decode cX11_isWord 51 = .ok (.iload_n 3, 1) := by decide +kernel
theorem dX11_isWord_52 : decode cX11_isWord 52 = .ok (.invokevirtual 134, 3) := by decide +kernel
theorem dX11_isWord_55 : decode cX11_isWord 55 = .ok (.if_icmp .ne 7, 3) := by decide +kernel
theorem dX11_isWord_58 : decode cX11_isWord 58 = .ok (.iconst 1, 1) := by decide +kernel
theorem dX11_isWord_59 : decode cX11_isWord 59 = .ok (.goto 4, 3) := by decide +kernel
theorem dX11_isWord_62 : decode cX11_isWord 62 = .ok (.iconst 0, 1) := by decide +kernel
theorem dX11_isWord_63 : decode cX11_isWord 63 = .ok (.istore_n 2, 1) := by decide +kernel
theorem dX11_isWord_64 : decode cX11_isWord 64 = .ok (.iinc 3 1, 3) := by decide +kernel
theorem dX11_isWord_67 : decode cX11_isWord 67 = .ok (.goto (-35), 3) := by decide +kernel
theorem dX11_isWord_70 : decode cX11_isWord 70 = .ok (.iload_n 2, 1) := by decide +kernel
theorem dX11_isWord_71 : decode cX11_isWord 71 = .ok (.ireturn, 1) := by decide +kernel
set_option maxHeartbeats 4000000 in
set_option maxRecDepth 100000 in
theorem m_isWord (l : Launch) (g : Gx) (h0 : Nat) (sa : Nat) (m_thrown : Int32) (a_tape : Nat) (m_taped : Int32) (m_size : Int32) (m_at : Int32) (m_end : Int32) (m_token : Int32) (m_whole : Int32) (m_nameSize : Int32) (m_fault : Int32) (m_place : Int32) (m_trouble : Int32) (a_letters : Nat) (m_failed : Int32) (m_hasHouse : Int32) (a_r : Nat) (a_fresh : Nat) (a_st : Nat) (a_undone : Nat) (a_kept : Nat) (m_undos : Int32) (m_images : Int32) (a_from : Nat) (a_begin : Nat) (a_motor : Nat) (a_change : Nat) (a_startFrame : Nat) (a_changeFrame : Nat) (a_lostAt : Nat) (a_blackAt : Nat) (a_slips : Nat) (a_leftArc : Nat) (a_died : Nat) (a_arcs : Nat) (m_bestSum : Int32) (m_nearest : Int32) (m_nearestTown : Int32) (a_there : Nat) (a_backAt : Nat) (a_sorted : Nat) (a_parts : Nat) (m_seed1 : Int32) (m_darkNow : Int32) (d_letters : Nat → Int32) (tx_sa : String) (hv_m_nameSize : IV m_nameSize 0 900) (hv_m_failed : IV m_failed 0 1) (hp_sa : LtS g sa tx_sa) (hc_0 : m_token = 2 → IV m_nameSize 0 8) : cI l g yX11_isWord cX11_isWord 4 (some .boolean) 4 85 0 0 [.ref h0, .ref sa] [(h0, .inr (11, [.int m_thrown, .ref a_tape, .int m_taped, .int m_size, .int m_at, .int m_end, .int m_token, .int m_whole, .int m_nameSize, .int m_fault, .int m_place, .int m_trouble, .ref a_letters, .int m_failed, .int m_hasHouse, .ref a_r, .ref a_fresh, .ref a_st, .ref a_undone, .ref a_kept, .int m_undos, .int m_images, .ref a_from, .ref a_begin, .ref a_motor, .ref a_change, .ref a_startFrame, .ref a_changeFrame, .ref a_lostAt, .ref a_blackAt, .ref a_slips, .ref a_leftArc, .ref a_died, .ref a_arcs, .int m_bestSum, .int m_nearest, .int m_nearestTown, .ref a_there, .ref a_backAt, .ref a_sorted, .ref a_parts, .int m_seed1, .int m_darkNow])), (a_letters, .inl (g.2.2.1, 8, .inl d_letters))] (fun r w => IV r 0 1 ∧ (r = 0 ∨ (IV m_token 2 2 ∧ IV m_failed 0 0)) ∧ w = [(h0, .inr (11, [.int m_thrown, .ref a_tape, .int m_taped, .int m_size, .int m_at, .int m_end, .int m_token, .int m_whole, .int m_nameSize, .int m_fault, .int m_place, .int m_trouble, .ref a_letters, .int m_failed, .int m_hasHouse, .ref a_r, .ref a_fresh, .ref a_st, .ref a_undone, .ref a_kept, .int m_undos, .int m_images, .ref a_from, .ref a_begin, .ref a_motor, .ref a_change, .ref a_startFrame, .ref a_changeFrame, .ref a_lostAt, .ref a_blackAt, .ref a_slips, .ref a_leftArc, .ref a_died, .ref a_arcs, .int m_bestSum, .int m_nearest, .int m_nearestTown, .ref a_there, .ref a_backAt, .ref a_sorted, .ref a_parts, .int m_seed1, .int m_darkNow])), (a_letters, .inl (g.2.2.1, 8, .inl d_letters))]) := by
  refine cI.of (by decide) (Nat.le_of_ble_eq_true rfl) ?_
  intro p e s m args below meth c A X hr hi
  refine k_lveq [(0, .ref h0), (1, .ref sa)] rfl ?_
  refine k_aload_n X dX11_isWord_0 0 rfl ?_
  refine k_get (ci := 11) X inlX11 rfl 13 (by decide) dX11_isWord_1 mw469 0 rfl rfl ?_
  refine k_if_ne 26 X dX11_isWord_4 (by decide) (fun h_1 => ?_) (fun h_1 => ?_)
  · skip
    have iv_2 : IV m_failed 1 1 := iv_neL h_1 hv_m_failed (show IV 0 0 0 from (by decide)) (by decide)
    refine k_iconst (v := 0) X dX11_isWord_26 (by decide) ?_
    exact k_zret X hr (by first | rfl | decide) dX11_isWord_27 (Nat.le_of_ble_eq_true rfl) (Nat.le_of_ble_eq_true rfl) [0, 1] (by decide) rfl rfl ⟨(iv_w (show IV 0 0 0 from (by decide)) (by decide) (by decide)), (Or.inl (iv_eq (show IV 0 0 0 from (by decide)) (show IV 0 0 0 from (by decide)))), rfl⟩
  · skip
    have iv_3 : IV m_failed 0 0 := iv_meet hv_m_failed (iv_e h_1 (show IV 0 0 0 from (by decide))) (by decide) (by decide)
    refine k_aload_n X dX11_isWord_7 0 rfl ?_
    refine k_get (ci := 11) X inlX11 rfl 6 (by decide) dX11_isWord_8 mw472 0 rfl rfl ?_
    refine k_iconst (v := 2) X dX11_isWord_11 (by decide) ?_
    refine k_ic_ne 26 X dX11_isWord_12 (by decide) (fun h_4 => ?_) (fun h_4 => ?_)
    · skip
      refine k_iconst (v := 0) X dX11_isWord_26 (by decide) ?_
      exact k_zret X hr (by first | rfl | decide) dX11_isWord_27 (Nat.le_of_ble_eq_true rfl) (Nat.le_of_ble_eq_true rfl) [0, 1] (by decide) rfl rfl ⟨(iv_w (show IV 0 0 0 from (by decide)) (by decide) (by decide)), (Or.inl (iv_eq (show IV 0 0 0 from (by decide)) (show IV 0 0 0 from (by decide)))), rfl⟩
    · skip
      have iv_5 : IV m_token 2 2 := iv_meet (iv_any m_token) (iv_e h_4 (show IV 2 2 2 from (by decide))) (by decide) (by decide)
      have hc_6 := hc_0 (iv_eq iv_5 (show IV 2 2 2 from (by decide)))
      have iv_7 : IV m_nameSize 0 8 := iv_meet hv_m_nameSize hc_6 (by decide) (by decide)
      refine k_aload_n X dX11_isWord_15 0 rfl ?_
      refine k_get (ci := 11) X inlX11 rfl 8 (by decide) dX11_isWord_16 mw493 0 rfl rfl ?_
      refine k_aload_n X dX11_isWord_19 1 rfl ?_
      refine k_callLI (n := 0) (As := []) (st := [.int m_nameSize]) X [] [(h0, .inr (11, [.int m_thrown, .ref a_tape, .int m_taped, .int m_size, .int m_at, .int m_end, .int m_token, .int m_whole, .int m_nameSize, .int m_fault, .int m_place, .int m_trouble, .ref a_letters, .int m_failed, .int m_hasHouse, .ref a_r, .ref a_fresh, .ref a_st, .ref a_undone, .ref a_kept, .int m_undos, .int m_images, .ref a_from, .ref a_begin, .ref a_motor, .ref a_change, .ref a_startFrame, .ref a_changeFrame, .ref a_lostAt, .ref a_blackAt, .ref a_slips, .ref a_leftArc, .ref a_died, .ref a_arcs, .int m_bestSum, .int m_nearest, .int m_nearestTown, .ref a_there, .ref a_backAt, .ref a_sorted, .ref a_parts, .int m_seed1, .int m_darkNow])), (a_letters, .inl (g.2.2.1, 8, .inl d_letters))] [] [0, 1] (j_length l g sa tx_sa hp_sa) dX11_isWord_20 mw513 mw257 mw258 mw259 mw260 rfl hp_sa rfl (by unfold yOk; decide) rfl (Nat.le_of_ble_eq_true rfl) (Nat.le_of_ble_eq_true rfl) (Nat.le_of_ble_eq_true rfl) (Nat.le_of_ble_eq_true rfl) (Nat.le_of_ble_eq_true rfl) rfl rfl (by decide) rfl (by decide) (by decide) ?_
      rintro r_8 w ⟨iv_9, hq_10, rfl⟩
      refine k_ws [(h0, .inr (11, [.int m_thrown, .ref a_tape, .int m_taped, .int m_size, .int m_at, .int m_end, .int m_token, .int m_whole, .int m_nameSize, .int m_fault, .int m_place, .int m_trouble, .ref a_letters, .int m_failed, .int m_hasHouse, .ref a_r, .ref a_fresh, .ref a_st, .ref a_undone, .ref a_kept, .int m_undos, .int m_images, .ref a_from, .ref a_begin, .ref a_motor, .ref a_change, .ref a_startFrame, .ref a_changeFrame, .ref a_lostAt, .ref a_blackAt, .ref a_slips, .ref a_leftArc, .ref a_died, .ref a_arcs, .int m_bestSum, .int m_nearest, .int m_nearestTown, .ref a_there, .ref a_backAt, .ref a_sorted, .ref a_parts, .int m_seed1, .int m_darkNow])), (a_letters, .inl (g.2.2.1, 8, .inl d_letters))] rfl ?_
      refine k_ic_eq 28 X dX11_isWord_23 (by decide) (fun h_11 => ?_) (fun h_11 => ?_)
      · skip
        refine k_iconst (v := 1) X dX11_isWord_28 (by decide) ?_
        refine k_istore_n [(2, .int 1), (0, .ref h0), (1, .ref sa)] X dX11_isWord_29 (by decide) rfl ?_
        refine k_iconst (v := 0) X dX11_isWord_30 (by decide) ?_
        refine k_istore_n [(3, .int 0), (2, .int 1), (0, .ref h0), (1, .ref sa)] X dX11_isWord_31 (by decide) rfl ?_
        refine (fun hL : ∀ (nn_16 : Nat) (u_12 : Int32) (u_14 : Int32), (9 - u_14.toInt).toNat = nn_16 → (IV u_12 0 1) → (IV u_14 0 8) → Wk p l e _ s m args below meth c _ A g _ _ _ [(h0, .inr (11, [.int m_thrown, .ref a_tape, .int m_taped, .int m_size, .int m_at, .int m_end, .int m_token, .int m_whole, .int m_nameSize, .int m_fault, .int m_place, .int m_trouble, .ref a_letters, .int m_failed, .int m_hasHouse, .ref a_r, .ref a_fresh, .ref a_st, .ref a_undone, .ref a_kept, .int m_undos, .int m_images, .ref a_from, .ref a_begin, .ref a_motor, .ref a_change, .ref a_startFrame, .ref a_changeFrame, .ref a_lostAt, .ref a_blackAt, .ref a_slips, .ref a_leftArc, .ref a_died, .ref a_arcs, .int m_bestSum, .int m_nearest, .int m_nearestTown, .ref a_there, .ref a_backAt, .ref a_sorted, .ref a_parts, .int m_seed1, .int m_darkNow])), (a_letters, .inl (g.2.2.1, 8, .inl d_letters))] [(3, .int u_14), (2, .int u_12), (0, .ref h0), (1, .ref sa)] 32 [] => hL _ 1 0 rfl (iv_w (show IV 1 1 1 from (by decide)) (by decide) (by decide)) (iv_w (show IV 0 0 0 from (by decide)) (by decide) (by decide))) ?_
        refine fun nn_16 => Nat.strongRecOn nn_16 (fun nn_16 ih_18 => ?_)
        intro u_12 u_14 hm_17 hv_13 hv_15
        refine k_iload_n X dX11_isWord_32 0 rfl ?_
        refine k_aload_n X dX11_isWord_33 2 rfl ?_
        refine k_get (ci := 11) X inlX11 rfl 8 (by decide) dX11_isWord_34 mw493 0 rfl rfl ?_
        refine k_ic_ge 70 X dX11_isWord_37 (by decide) (fun h_19 => ?_) (fun h_19 => ?_)
        · skip
          have j_20 : m_nameSize.toInt ≤ u_14.toInt := iv_le h_19
          refine k_iload_n X dX11_isWord_70 1 rfl ?_
          exact k_zret X hr (zn_b (iv_w hv_13 (by decide) (by decide))) dX11_isWord_71 (Nat.le_of_ble_eq_true rfl) (Nat.le_of_ble_eq_true rfl) [0, 1] (by decide) rfl rfl ⟨(iv_w hv_13 (by decide) (by decide)), (Or.inr ⟨(iv_w iv_5 (by decide) (by decide)), (iv_w iv_3 (by decide) (by decide))⟩), rfl⟩
        · skip
          have j_21 : u_14.toInt < m_nameSize.toInt := iv_nle h_19
          have iv_22 : IV u_14 0 7 := iv_ltL (iv_nle h_19) hv_15 iv_7 (by decide)
          have iv_23 : IV m_nameSize 1 8 := iv_ltR (iv_nle h_19) hv_15 iv_7 (by decide)
          refine k_iload_n X dX11_isWord_40 1 rfl ?_
          refine k_if_eq 62 X dX11_isWord_41 (by decide) (fun h_24 => ?_) (fun h_24 => ?_)
          · skip
            have iv_25 : IV u_12 0 0 := iv_meet hv_13 (iv_e h_24 (show IV 0 0 0 from (by decide))) (by decide) (by decide)
            refine k_iconst (v := 0) X dX11_isWord_62 (by decide) ?_
            refine k_istore_n [(2, .int 0), (3, .int u_14), (0, .ref h0), (1, .ref sa)] X dX11_isWord_63 (by decide) rfl ?_
            obtain ⟨z_26, ez_26⟩ : ∃ y : Int32, u_14 + Int32.ofInt 1 = y := ⟨_, rfl⟩
            refine k_iinc z_26 [(3, .int z_26), (2, .int 0), (0, .ref h0), (1, .ref sa)] 1 X dX11_isWord_64 rfl ez_26 (by decide) rfl ?_
            have i_27 : z_26.toInt = u_14.toInt + 1 := in_inc ez_26 (by decide) iv_22 (by decide) (by decide)
            have iv_28 : IV z_26 1 8 := by have := iv_22; rw [IV, i_27]; omega
            refine k_goto 32 X dX11_isWord_67 (by decide) ?_
            exact ih_18 _ (by omega) 0 z_26 rfl (iv_w (show IV 0 0 0 from (by decide)) (by decide) (by decide)) (iv_w iv_28 (by decide) (by decide))
          · skip
            have iv_29 : IV u_12 1 1 := iv_neL h_24 hv_13 (show IV 0 0 0 from (by decide)) (by decide)
            refine k_aload_n X dX11_isWord_44 2 rfl ?_
            refine k_get (ci := 11) X inlX11 rfl 12 (by decide) dX11_isWord_45 mw169 0 rfl rfl ?_
            refine k_iload_n X dX11_isWord_48 0 rfl ?_
            refine k_iald X dX11_isWord_49 1 rfl (iv_in iv_22 (by decide) (by decide)) ?_
            refine k_nm (fun z_30 ez_30 => ?_)
            refine k_aload_n X dX11_isWord_50 3 rfl ?_
            refine k_iload_n X dX11_isWord_51 0 rfl ?_
            refine k_callLI (n := 1) (As := [.int u_14]) (st := [.int z_30]) X [] [(h0, .inr (11, [.int m_thrown, .ref a_tape, .int m_taped, .int m_size, .int m_at, .int m_end, .int m_token, .int m_whole, .int m_nameSize, .int m_fault, .int m_place, .int m_trouble, .ref a_letters, .int m_failed, .int m_hasHouse, .ref a_r, .ref a_fresh, .ref a_st, .ref a_undone, .ref a_kept, .int m_undos, .int m_images, .ref a_from, .ref a_begin, .ref a_motor, .ref a_change, .ref a_startFrame, .ref a_changeFrame, .ref a_lostAt, .ref a_blackAt, .ref a_slips, .ref a_leftArc, .ref a_died, .ref a_arcs, .int m_bestSum, .int m_nearest, .int m_nearestTown, .ref a_there, .ref a_backAt, .ref a_sorted, .ref a_parts, .int m_seed1, .int m_darkNow])), (a_letters, .inl (g.2.2.1, 8, .inl d_letters))] [] [0, 1] (j_charAt l g sa u_14 tx_sa (iv_w iv_22 (by decide) (by decide)) hp_sa (by first | assumption | (subst_vars; first | assumption | exact Int32.not_le.mp (by assumption)))) dX11_isWord_52 mw514 mw269 mw270 mw259 mw271 rfl hp_sa rfl (by unfold yOk; decide) rfl (Nat.le_of_ble_eq_true rfl) (Nat.le_of_ble_eq_true rfl) (Nat.le_of_ble_eq_true rfl) (Nat.le_of_ble_eq_true rfl) (Nat.le_of_ble_eq_true rfl) rfl rfl (by decide) rfl (by decide) (by decide) ?_
            rintro r_31 w ⟨hq_32, rfl⟩
            refine k_ws [(h0, .inr (11, [.int m_thrown, .ref a_tape, .int m_taped, .int m_size, .int m_at, .int m_end, .int m_token, .int m_whole, .int m_nameSize, .int m_fault, .int m_place, .int m_trouble, .ref a_letters, .int m_failed, .int m_hasHouse, .ref a_r, .ref a_fresh, .ref a_st, .ref a_undone, .ref a_kept, .int m_undos, .int m_images, .ref a_from, .ref a_begin, .ref a_motor, .ref a_change, .ref a_startFrame, .ref a_changeFrame, .ref a_lostAt, .ref a_blackAt, .ref a_slips, .ref a_leftArc, .ref a_died, .ref a_arcs, .int m_bestSum, .int m_nearest, .int m_nearestTown, .ref a_there, .ref a_backAt, .ref a_sorted, .ref a_parts, .int m_seed1, .int m_darkNow])), (a_letters, .inl (g.2.2.1, 8, .inl d_letters))] rfl ?_
            refine k_ic_ne 62 X dX11_isWord_55 (by decide) (fun h_33 => ?_) (fun h_33 => ?_)
            · skip
              refine k_iconst (v := 0) X dX11_isWord_62 (by decide) ?_
              refine k_istore_n [(2, .int 0), (3, .int u_14), (0, .ref h0), (1, .ref sa)] X dX11_isWord_63 (by decide) rfl ?_
              obtain ⟨z_34, ez_34⟩ : ∃ y : Int32, u_14 + Int32.ofInt 1 = y := ⟨_, rfl⟩
              refine k_iinc z_34 [(3, .int z_34), (2, .int 0), (0, .ref h0), (1, .ref sa)] 1 X dX11_isWord_64 rfl ez_34 (by decide) rfl ?_
              have i_35 : z_34.toInt = u_14.toInt + 1 := in_inc ez_34 (by decide) iv_22 (by decide) (by decide)
              have iv_36 : IV z_34 1 8 := by have := iv_22; rw [IV, i_35]; omega
              refine k_goto 32 X dX11_isWord_67 (by decide) ?_
              exact ih_18 _ (by omega) 0 z_34 rfl (iv_w (show IV 0 0 0 from (by decide)) (by decide) (by decide)) (iv_w iv_36 (by decide) (by decide))
            · skip
              refine k_iconst (v := 1) X dX11_isWord_58 (by decide) ?_
              refine k_goto 63 X dX11_isWord_59 (by decide) ?_
              refine k_istore_n [(2, .int 1), (3, .int u_14), (0, .ref h0), (1, .ref sa)] X dX11_isWord_63 (by decide) rfl ?_
              obtain ⟨z_37, ez_37⟩ : ∃ y : Int32, u_14 + Int32.ofInt 1 = y := ⟨_, rfl⟩
              refine k_iinc z_37 [(3, .int z_37), (2, .int 1), (0, .ref h0), (1, .ref sa)] 1 X dX11_isWord_64 rfl ez_37 (by decide) rfl ?_
              have i_38 : z_37.toInt = u_14.toInt + 1 := in_inc ez_37 (by decide) iv_22 (by decide) (by decide)
              have iv_39 : IV z_37 1 8 := by have := iv_22; rw [IV, i_38]; omega
              refine k_goto 32 X dX11_isWord_67 (by decide) ?_
              exact ih_18 _ (by omega) 1 z_37 rfl (iv_w (show IV 1 1 1 from (by decide)) (by decide) (by decide)) (iv_w iv_39 (by decide) (by decide))
      · skip
        refine k_iconst (v := 0) X dX11_isWord_26 (by decide) ?_
        exact k_zret X hr (by first | rfl | decide) dX11_isWord_27 (Nat.le_of_ble_eq_true rfl) (Nat.le_of_ble_eq_true rfl) [0, 1] (by decide) rfl rfl ⟨(iv_w (show IV 0 0 0 from (by decide)) (by decide) (by decide)), (Or.inl (iv_eq (show IV 0 0 0 from (by decide)) (show IV 0 0 0 from (by decide)))), rfl⟩

theorem dX11_takesWord_0 : decode cX11_takesWord 0 = .ok (.aload_n 0, 1) := by decide +kernel
theorem dX11_takesWord_1 : decode cX11_takesWord 1 = .ok (.aload_n 1, 1) := by decide +kernel
theorem dX11_takesWord_2 : decode cX11_takesWord 2 = .ok (.invokevirtual 138, 3) := by decide +kernel
theorem dX11_takesWord_5 : decode cX11_takesWord 5 = .ok (.ifCond .ne 5, 3) := by decide +kernel
theorem dX11_takesWord_8 : decode cX11_takesWord 8 = .ok (.iconst 0, 1) := by decide +kernel
theorem dX11_takesWord_9 : decode cX11_takesWord 9 = .ok (.ireturn, 1) := by decide +kernel
theorem dX11_takesWord_10 : decode cX11_takesWord 10 = .ok (.aload_n 0, 1) := by decide +kernel
theorem dX11_takesWord_11 : decode cX11_takesWord 11 = .ok (.invokevirtual 142, 3) := by decide +kernel
theorem dX11_takesWord_14 : decode cX11_takesWord 14 = .ok (.iconst 1, 1) := by decide +kernel
theorem dX11_takesWord_15 : decode cX11_takesWord 15 = .ok (.ireturn, 1) := by decide +kernel
set_option maxHeartbeats 4000000 in
set_option maxRecDepth 100000 in
theorem m_takesWord (l : Launch) (g : Gx) (h0 : Nat) (sa : Nat) (m_thrown : Int32) (a_tape : Nat) (m_taped : Int32) (m_size : Int32) (m_at : Int32) (m_end : Int32) (m_token : Int32) (m_whole : Int32) (m_nameSize : Int32) (m_fault : Int32) (m_place : Int32) (m_trouble : Int32) (a_letters : Nat) (m_failed : Int32) (m_hasHouse : Int32) (a_r : Nat) (a_fresh : Nat) (a_st : Nat) (a_undone : Nat) (a_kept : Nat) (m_undos : Int32) (m_images : Int32) (a_from : Nat) (a_begin : Nat) (a_motor : Nat) (a_change : Nat) (a_startFrame : Nat) (a_changeFrame : Nat) (a_lostAt : Nat) (a_blackAt : Nat) (a_slips : Nat) (a_leftArc : Nat) (a_died : Nat) (a_arcs : Nat) (m_bestSum : Int32) (m_nearest : Int32) (m_nearestTown : Int32) (a_there : Nat) (a_backAt : Nat) (a_sorted : Nat) (a_parts : Nat) (m_seed1 : Int32) (m_darkNow : Int32) (d_tape : Nat → Int32) (d_letters : Nat → Int32) (tx_sa : String) (hv_m_size : IV m_size 0 900) (hv_m_end : IV m_end 0 900) (hv_m_nameSize : IV m_nameSize 0 900) (hv_m_failed : IV m_failed 0 1) (hp_sa : LtS g sa tx_sa) (hc_0 : m_token = 2 → IV m_nameSize 0 8) : cI l g yX11_takesWord cX11_takesWord 2 (some .boolean) 5 108 0 0 [.ref h0, .ref sa] [(h0, .inr (11, [.int m_thrown, .ref a_tape, .int m_taped, .int m_size, .int m_at, .int m_end, .int m_token, .int m_whole, .int m_nameSize, .int m_fault, .int m_place, .int m_trouble, .ref a_letters, .int m_failed, .int m_hasHouse, .ref a_r, .ref a_fresh, .ref a_st, .ref a_undone, .ref a_kept, .int m_undos, .int m_images, .ref a_from, .ref a_begin, .ref a_motor, .ref a_change, .ref a_startFrame, .ref a_changeFrame, .ref a_lostAt, .ref a_blackAt, .ref a_slips, .ref a_leftArc, .ref a_died, .ref a_arcs, .int m_bestSum, .int m_nearest, .int m_nearestTown, .ref a_there, .ref a_backAt, .ref a_sorted, .ref a_parts, .int m_seed1, .int m_darkNow])), (a_tape, .inl (g.2.2.1, 900, .inl d_tape)), (a_letters, .inl (g.2.2.1, 8, .inl d_letters))] (fun r w => ∃ (m_at2 : Int32) (m_end2 : Int32) (d_letters2 : Nat → Int32) (m_nameSize2 : Int32) (m_token2 : Int32) (m_whole2 : Int32), IV m_end2 0 900 ∧ IV m_nameSize2 0 900 ∧ IV r 0 1 ∧ (m_end.toInt ≤ m_end2.toInt) ∧ (m_token2 = 2 → IV m_nameSize2 0 8) ∧ w = [(h0, .inr (11, [.int m_thrown, .ref a_tape, .int m_taped, .int m_size, .int m_at2, .int m_end2, .int m_token2, .int m_whole2, .int m_nameSize2, .int m_fault, .int m_place, .int m_trouble, .ref a_letters, .int m_failed, .int m_hasHouse, .ref a_r, .ref a_fresh, .ref a_st, .ref a_undone, .ref a_kept, .int m_undos, .int m_images, .ref a_from, .ref a_begin, .ref a_motor, .ref a_change, .ref a_startFrame, .ref a_changeFrame, .ref a_lostAt, .ref a_blackAt, .ref a_slips, .ref a_leftArc, .ref a_died, .ref a_arcs, .int m_bestSum, .int m_nearest, .int m_nearestTown, .ref a_there, .ref a_backAt, .ref a_sorted, .ref a_parts, .int m_seed1, .int m_darkNow])), (a_tape, .inl (g.2.2.1, 900, .inl d_tape)), (a_letters, .inl (g.2.2.1, 8, .inl d_letters2))]) := by
  refine cI.of (by decide) (Nat.le_of_ble_eq_true rfl) ?_
  intro p e s m args below meth c A X hr hi
  refine k_lveq [(0, .ref h0), (1, .ref sa)] rfl ?_
  refine k_aload_n X dX11_takesWord_0 0 rfl ?_
  refine k_aload_n X dX11_takesWord_1 1 rfl ?_
  refine k_callVI (n := 1) (As := [.ref sa]) (st := []) X [(h0, .inr (11, [.int m_thrown, .ref a_tape, .int m_taped, .int m_size, .int m_at, .int m_end, .int m_token, .int m_whole, .int m_nameSize, .int m_fault, .int m_place, .int m_trouble, .ref a_letters, .int m_failed, .int m_hasHouse, .ref a_r, .ref a_fresh, .ref a_st, .ref a_undone, .ref a_kept, .int m_undos, .int m_images, .ref a_from, .ref a_begin, .ref a_motor, .ref a_change, .ref a_startFrame, .ref a_changeFrame, .ref a_lostAt, .ref a_blackAt, .ref a_slips, .ref a_leftArc, .ref a_died, .ref a_arcs, .int m_bestSum, .int m_nearest, .int m_nearestTown, .ref a_there, .ref a_backAt, .ref a_sorted, .ref a_parts, .int m_seed1, .int m_darkNow])), (a_letters, .inl (g.2.2.1, 8, .inl d_letters))] [(a_tape, .inl (g.2.2.1, 900, .inl d_tape))] [0, 2] [1] (m_isWord l g h0 sa m_thrown a_tape m_taped m_size m_at m_end m_token m_whole m_nameSize m_fault m_place m_trouble a_letters m_failed m_hasHouse a_r a_fresh a_st a_undone a_kept m_undos m_images a_from a_begin a_motor a_change a_startFrame a_changeFrame a_lostAt a_blackAt a_slips a_leftArc a_died a_arcs m_bestSum m_nearest m_nearestTown a_there a_backAt a_sorted a_parts m_seed1 m_darkNow d_letters tx_sa (iv_w hv_m_nameSize (by decide) (by decide)) (iv_w hv_m_failed (by decide) (by decide)) hp_sa hc_0) dX11_takesWord_2 mw509 mw510 mw511 mw5 mw512 rfl 11 rfl rfl 0 _ rfl (by unfold yOk; decide) rfl (Nat.le_of_ble_eq_true rfl) (Nat.le_of_ble_eq_true rfl) (Nat.le_of_ble_eq_true rfl) (Nat.le_of_ble_eq_true rfl) (Nat.le_of_ble_eq_true rfl) rfl rfl (by decide) rfl (by decide) (by decide) ?_
  rintro r_1 w ⟨iv_2, hk_3, rfl⟩
  refine k_ws [(a_tape, .inl (g.2.2.1, 900, .inl d_tape)), (h0, .inr (11, [.int m_thrown, .ref a_tape, .int m_taped, .int m_size, .int m_at, .int m_end, .int m_token, .int m_whole, .int m_nameSize, .int m_fault, .int m_place, .int m_trouble, .ref a_letters, .int m_failed, .int m_hasHouse, .ref a_r, .ref a_fresh, .ref a_st, .ref a_undone, .ref a_kept, .int m_undos, .int m_images, .ref a_from, .ref a_begin, .ref a_motor, .ref a_change, .ref a_startFrame, .ref a_changeFrame, .ref a_lostAt, .ref a_blackAt, .ref a_slips, .ref a_leftArc, .ref a_died, .ref a_arcs, .int m_bestSum, .int m_nearest, .int m_nearestTown, .ref a_there, .ref a_backAt, .ref a_sorted, .ref a_parts, .int m_seed1, .int m_darkNow])), (a_letters, .inl (g.2.2.1, 8, .inl d_letters))] rfl ?_
  refine k_if_ne 10 X dX11_takesWord_5 (by decide) (fun h_4 => ?_) (fun h_4 => ?_)
  · skip
    have hc_5 := hk_3.resolve_left h_4
    have iv_6 : IV m_token 2 2 := iv_meet (iv_any m_token) hc_5.1 (by decide) (by decide)
    have hc_7 := hc_0 (iv_eq iv_6 (show IV 2 2 2 from (by decide)))
    have iv_8 : IV m_nameSize 0 8 := iv_meet hv_m_nameSize hc_7 (by decide) (by decide)
    have iv_9 : IV m_failed 0 0 := iv_meet hv_m_failed hc_5.2 (by decide) (by decide)
    have iv_10 : IV r_1 1 1 := iv_neL h_4 iv_2 (show IV 0 0 0 from (by decide)) (by decide)
    refine k_aload_n X dX11_takesWord_10 0 rfl ?_
    refine k_callVV (n := 0) (As := []) (st := []) X [(h0, .inr (11, [.int m_thrown, .ref a_tape, .int m_taped, .int m_size, .int m_at, .int m_end, .int m_token, .int m_whole, .int m_nameSize, .int m_fault, .int m_place, .int m_trouble, .ref a_letters, .int m_failed, .int m_hasHouse, .ref a_r, .ref a_fresh, .ref a_st, .ref a_undone, .ref a_kept, .int m_undos, .int m_images, .ref a_from, .ref a_begin, .ref a_motor, .ref a_change, .ref a_startFrame, .ref a_changeFrame, .ref a_lostAt, .ref a_blackAt, .ref a_slips, .ref a_leftArc, .ref a_died, .ref a_arcs, .int m_bestSum, .int m_nearest, .int m_nearestTown, .ref a_there, .ref a_backAt, .ref a_sorted, .ref a_parts, .int m_seed1, .int m_darkNow])), (a_tape, .inl (g.2.2.1, 900, .inl d_tape)), (a_letters, .inl (g.2.2.1, 8, .inl d_letters))] [] [1, 0, 2] [] (m_next l g h0 m_thrown a_tape m_taped m_size m_at m_end m_token m_whole m_nameSize m_fault m_place m_trouble a_letters m_failed m_hasHouse a_r a_fresh a_st a_undone a_kept m_undos m_images a_from a_begin a_motor a_change a_startFrame a_changeFrame a_lostAt a_blackAt a_slips a_leftArc a_died a_arcs m_bestSum m_nearest m_nearestTown a_there a_backAt a_sorted a_parts m_seed1 m_darkNow d_tape d_letters (iv_w hv_m_size (by decide) (by decide)) (iv_w hv_m_end (by decide) (by decide)) (iv_w iv_8 (by decide) (by decide))) dX11_takesWord_11 mw489 mw490 mw491 mw5 mw492 rfl 11 rfl rfl 0 _ rfl (by unfold yOk; decide) rfl (Nat.le_of_ble_eq_true rfl) (Nat.le_of_ble_eq_true rfl) (Nat.le_of_ble_eq_true rfl) (Nat.le_of_ble_eq_true rfl) (Nat.le_of_ble_eq_true rfl) rfl rfl (by decide) rfl (by decide) (by decide) ?_
    rintro w ⟨m_at2_11, m_end2_12, d_letters2_13, m_nameSize2_14, m_token2_15, m_whole2_16, iv_18, iv_19, hq_20, hq_21, hk_22, rfl⟩
    refine k_ws [(h0, .inr (11, [.int m_thrown, .ref a_tape, .int m_taped, .int m_size, .int m_at2_11, .int m_end2_12, .int m_token2_15, .int m_whole2_16, .int m_nameSize2_14, .int m_fault, .int m_place, .int m_trouble, .ref a_letters, .int m_failed, .int m_hasHouse, .ref a_r, .ref a_fresh, .ref a_st, .ref a_undone, .ref a_kept, .int m_undos, .int m_images, .ref a_from, .ref a_begin, .ref a_motor, .ref a_change, .ref a_startFrame, .ref a_changeFrame, .ref a_lostAt, .ref a_blackAt, .ref a_slips, .ref a_leftArc, .ref a_died, .ref a_arcs, .int m_bestSum, .int m_nearest, .int m_nearestTown, .ref a_there, .ref a_backAt, .ref a_sorted, .ref a_parts, .int m_seed1, .int m_darkNow])), (a_tape, .inl (g.2.2.1, 900, .inl d_tape)), (a_letters, .inl (g.2.2.1, 8, .inl d_letters2_13))] rfl ?_
    refine k_iconst (v := 1) X dX11_takesWord_14 (by decide) ?_
    exact k_zret X hr (by first | rfl | decide) dX11_takesWord_15 (Nat.le_of_ble_eq_true rfl) (Nat.le_of_ble_eq_true rfl) [0, 1, 2] (by decide) rfl rfl ⟨m_at2_11, m_end2_12, d_letters2_13, m_nameSize2_14, m_token2_15, m_whole2_16, (iv_w iv_18 (by decide) (by decide)), (iv_w iv_19 (by decide) (by decide)), (iv_w (show IV 1 1 1 from (by decide)) (by decide) (by decide)), (by omega), hk_22, rfl⟩
  · skip
    have iv_23 : IV r_1 0 0 := iv_meet iv_2 (iv_e h_4 (show IV 0 0 0 from (by decide))) (by decide) (by decide)
    refine k_iconst (v := 0) X dX11_takesWord_8 (by decide) ?_
    exact k_zret X hr (by first | rfl | decide) dX11_takesWord_9 (Nat.le_of_ble_eq_true rfl) (Nat.le_of_ble_eq_true rfl) [1, 0, 2] (by decide) rfl rfl ⟨m_at, m_end, d_letters, m_nameSize, m_token, m_whole, (iv_w hv_m_end (by decide) (by decide)), (iv_w hv_m_nameSize (by decide) (by decide)), (iv_w (show IV 0 0 0 from (by decide)) (by decide) (by decide)), (by omega), hc_0, rfl⟩

theorem dX11_must_0 : decode cX11_must 0 = .ok (.aload_n 0, 1) := by decide +kernel
theorem dX11_must_1 : decode cX11_must 1 = .ok (.getfield 121, 3) := by decide +kernel
theorem dX11_must_4 : decode cX11_must 4 = .ok (.ifCond .ne 20, 3) := by decide +kernel
theorem dX11_must_7 : decode cX11_must 7 = .ok (.aload_n 0, 1) := by decide +kernel
theorem dX11_must_8 : decode cX11_must 8 = .ok (.aload_n 1, 1) := by decide +kernel
theorem dX11_must_9 : decode cX11_must 9 = .ok (.invokevirtual 145, 3) := by decide +kernel
theorem dX11_must_12 : decode cX11_must 12 = .ok (.ifCond .ne 12, 3) := by decide +kernel
theorem dX11_must_15 : decode cX11_must 15 = .ok (.aload_n 0, 1) := by decide +kernel
theorem dX11_must_16 : decode cX11_must 16 = .ok (.iconst 1, 1) := by decide +kernel
theorem dX11_must_17 : decode cX11_must 17 = .ok (.aload_n 0, 1) := by decide +kernel
theorem dX11_must_18 : decode cX11_must 18 = .ok (.getfield 102, 3) := by decide +kernel
theorem dX11_must_21 : decode cX11_must 21 = .ok (.invokevirtual 148, 3) := by decide +kernel
theorem dX11_must_24 : decode cX11_must 24 = .ok (.return_, 1) := by decide +kernel
set_option maxHeartbeats 4000000 in
set_option maxRecDepth 100000 in
theorem m_must (l : Launch) (g : Gx) (h0 : Nat) (sa : Nat) (m_thrown : Int32) (a_tape : Nat) (m_taped : Int32) (m_size : Int32) (m_at : Int32) (m_end : Int32) (m_token : Int32) (m_whole : Int32) (m_nameSize : Int32) (m_fault : Int32) (m_place : Int32) (m_trouble : Int32) (a_letters : Nat) (m_failed : Int32) (m_hasHouse : Int32) (a_r : Nat) (a_fresh : Nat) (a_st : Nat) (a_undone : Nat) (a_kept : Nat) (m_undos : Int32) (m_images : Int32) (a_from : Nat) (a_begin : Nat) (a_motor : Nat) (a_change : Nat) (a_startFrame : Nat) (a_changeFrame : Nat) (a_lostAt : Nat) (a_blackAt : Nat) (a_slips : Nat) (a_leftArc : Nat) (a_died : Nat) (a_arcs : Nat) (m_bestSum : Int32) (m_nearest : Int32) (m_nearestTown : Int32) (a_there : Nat) (a_backAt : Nat) (a_sorted : Nat) (a_parts : Nat) (m_seed1 : Int32) (m_darkNow : Int32) (d_tape : Nat → Int32) (d_letters : Nat → Int32) (tx_sa : String) (hv_m_size : IV m_size 0 900) (hv_m_end : IV m_end 0 900) (hv_m_nameSize : IV m_nameSize 0 900) (hv_m_failed : IV m_failed 0 1) (hp_sa : LtS g sa tx_sa) (hc_0 : m_token = 2 → IV m_nameSize 0 8) : cV l g yX11_must cX11_must 2 6 129 0 0 [.ref h0, .ref sa] [(h0, .inr (11, [.int m_thrown, .ref a_tape, .int m_taped, .int m_size, .int m_at, .int m_end, .int m_token, .int m_whole, .int m_nameSize, .int m_fault, .int m_place, .int m_trouble, .ref a_letters, .int m_failed, .int m_hasHouse, .ref a_r, .ref a_fresh, .ref a_st, .ref a_undone, .ref a_kept, .int m_undos, .int m_images, .ref a_from, .ref a_begin, .ref a_motor, .ref a_change, .ref a_startFrame, .ref a_changeFrame, .ref a_lostAt, .ref a_blackAt, .ref a_slips, .ref a_leftArc, .ref a_died, .ref a_arcs, .int m_bestSum, .int m_nearest, .int m_nearestTown, .ref a_there, .ref a_backAt, .ref a_sorted, .ref a_parts, .int m_seed1, .int m_darkNow])), (a_tape, .inl (g.2.2.1, 900, .inl d_tape)), (a_letters, .inl (g.2.2.1, 8, .inl d_letters))] (fun w => ∃ (m_at2 : Int32) (m_end2 : Int32) (m_failed2 : Int32) (m_fault2 : Int32) (d_letters2 : Nat → Int32) (m_nameSize2 : Int32) (m_place2 : Int32) (m_token2 : Int32) (m_whole2 : Int32), IV m_end2 0 900 ∧ IV m_failed2 0 1 ∧ IV m_nameSize2 0 900 ∧ (m_end.toInt ≤ m_end2.toInt) ∧ (m_token2 = 2 → IV m_nameSize2 0 8) ∧ w = [(h0, .inr (11, [.int m_thrown, .ref a_tape, .int m_taped, .int m_size, .int m_at2, .int m_end2, .int m_token2, .int m_whole2, .int m_nameSize2, .int m_fault2, .int m_place2, .int m_trouble, .ref a_letters, .int m_failed2, .int m_hasHouse, .ref a_r, .ref a_fresh, .ref a_st, .ref a_undone, .ref a_kept, .int m_undos, .int m_images, .ref a_from, .ref a_begin, .ref a_motor, .ref a_change, .ref a_startFrame, .ref a_changeFrame, .ref a_lostAt, .ref a_blackAt, .ref a_slips, .ref a_leftArc, .ref a_died, .ref a_arcs, .int m_bestSum, .int m_nearest, .int m_nearestTown, .ref a_there, .ref a_backAt, .ref a_sorted, .ref a_parts, .int m_seed1, .int m_darkNow])), (a_tape, .inl (g.2.2.1, 900, .inl d_tape)), (a_letters, .inl (g.2.2.1, 8, .inl d_letters2))]) := by
  refine cV.of (by decide) (Nat.le_of_ble_eq_true rfl) ?_
  intro p e s m args below meth c A X hr hi
  refine k_lveq [(0, .ref h0), (1, .ref sa)] rfl ?_
  refine k_aload_n X dX11_must_0 0 rfl ?_
  refine k_get (ci := 11) X inlX11 rfl 13 (by decide) dX11_must_1 mw469 0 rfl rfl ?_
  refine k_if_ne 24 X dX11_must_4 (by decide) (fun h_1 => ?_) (fun h_1 => ?_)
  · skip
    have iv_2 : IV m_failed 1 1 := iv_neL h_1 hv_m_failed (show IV 0 0 0 from (by decide)) (by decide)
    exact k_vret X hr dX11_must_24 (Nat.le_of_ble_eq_true rfl) (Nat.le_of_ble_eq_true rfl) [0, 1, 2] (by decide) rfl rfl ⟨m_at, m_end, m_failed, m_fault, d_letters, m_nameSize, m_place, m_token, m_whole, (iv_w hv_m_end (by decide) (by decide)), (iv_w iv_2 (by decide) (by decide)), (iv_w hv_m_nameSize (by decide) (by decide)), (by omega), hc_0, rfl⟩
  · skip
    have iv_3 : IV m_failed 0 0 := iv_meet hv_m_failed (iv_e h_1 (show IV 0 0 0 from (by decide))) (by decide) (by decide)
    refine k_aload_n X dX11_must_7 0 rfl ?_
    refine k_aload_n X dX11_must_8 1 rfl ?_
    refine k_callVI (n := 1) (As := [.ref sa]) (st := []) X [(h0, .inr (11, [.int m_thrown, .ref a_tape, .int m_taped, .int m_size, .int m_at, .int m_end, .int m_token, .int m_whole, .int m_nameSize, .int m_fault, .int m_place, .int m_trouble, .ref a_letters, .int m_failed, .int m_hasHouse, .ref a_r, .ref a_fresh, .ref a_st, .ref a_undone, .ref a_kept, .int m_undos, .int m_images, .ref a_from, .ref a_begin, .ref a_motor, .ref a_change, .ref a_startFrame, .ref a_changeFrame, .ref a_lostAt, .ref a_blackAt, .ref a_slips, .ref a_leftArc, .ref a_died, .ref a_arcs, .int m_bestSum, .int m_nearest, .int m_nearestTown, .ref a_there, .ref a_backAt, .ref a_sorted, .ref a_parts, .int m_seed1, .int m_darkNow])), (a_tape, .inl (g.2.2.1, 900, .inl d_tape)), (a_letters, .inl (g.2.2.1, 8, .inl d_letters))] [] [0, 1, 2] [] (m_takesWord l g h0 sa m_thrown a_tape m_taped m_size m_at m_end m_token m_whole m_nameSize m_fault m_place m_trouble a_letters m_failed m_hasHouse a_r a_fresh a_st a_undone a_kept m_undos m_images a_from a_begin a_motor a_change a_startFrame a_changeFrame a_lostAt a_blackAt a_slips a_leftArc a_died a_arcs m_bestSum m_nearest m_nearestTown a_there a_backAt a_sorted a_parts m_seed1 m_darkNow d_tape d_letters tx_sa (iv_w hv_m_size (by decide) (by decide)) (iv_w hv_m_end (by decide) (by decide)) (iv_w hv_m_nameSize (by decide) (by decide)) (iv_w iv_3 (by decide) (by decide)) hp_sa hc_0) dX11_must_9 mw531 mw532 mw533 mw5 mw534 rfl 11 rfl rfl 0 _ rfl (by unfold yOk; decide) rfl (Nat.le_of_ble_eq_true rfl) (Nat.le_of_ble_eq_true rfl) (Nat.le_of_ble_eq_true rfl) (Nat.le_of_ble_eq_true rfl) (Nat.le_of_ble_eq_true rfl) rfl rfl (by decide) rfl (by decide) (by decide) ?_
    rintro r_10 w ⟨m_at2_4, m_end2_5, d_letters2_6, m_nameSize2_7, m_token2_8, m_whole2_9, iv_11, iv_12, iv_13, hq_14, hk_15, rfl⟩
    refine k_ws [(h0, .inr (11, [.int m_thrown, .ref a_tape, .int m_taped, .int m_size, .int m_at2_4, .int m_end2_5, .int m_token2_8, .int m_whole2_9, .int m_nameSize2_7, .int m_fault, .int m_place, .int m_trouble, .ref a_letters, .int m_failed, .int m_hasHouse, .ref a_r, .ref a_fresh, .ref a_st, .ref a_undone, .ref a_kept, .int m_undos, .int m_images, .ref a_from, .ref a_begin, .ref a_motor, .ref a_change, .ref a_startFrame, .ref a_changeFrame, .ref a_lostAt, .ref a_blackAt, .ref a_slips, .ref a_leftArc, .ref a_died, .ref a_arcs, .int m_bestSum, .int m_nearest, .int m_nearestTown, .ref a_there, .ref a_backAt, .ref a_sorted, .ref a_parts, .int m_seed1, .int m_darkNow])), (a_tape, .inl (g.2.2.1, 900, .inl d_tape)), (a_letters, .inl (g.2.2.1, 8, .inl d_letters2_6))] rfl ?_
    refine k_if_ne 24 X dX11_must_12 (by decide) (fun h_16 => ?_) (fun h_16 => ?_)
    · skip
      have iv_17 : IV r_10 1 1 := iv_neL h_16 iv_13 (show IV 0 0 0 from (by decide)) (by decide)
      exact k_vret X hr dX11_must_24 (Nat.le_of_ble_eq_true rfl) (Nat.le_of_ble_eq_true rfl) [0, 1, 2] (by decide) rfl rfl ⟨m_at2_4, m_end2_5, m_failed, m_fault, d_letters2_6, m_nameSize2_7, m_place, m_token2_8, m_whole2_9, (iv_w iv_11 (by decide) (by decide)), (iv_w iv_3 (by decide) (by decide)), (iv_w iv_12 (by decide) (by decide)), (by omega), hk_15, rfl⟩
    · skip
      have iv_18 : IV r_10 0 0 := iv_meet iv_13 (iv_e h_16 (show IV 0 0 0 from (by decide))) (by decide) (by decide)
      refine k_aload_n X dX11_must_15 0 rfl ?_
      refine k_iconst (v := 1) X dX11_must_16 (by decide) ?_
      refine k_aload_n X dX11_must_17 0 rfl ?_
      refine k_get (ci := 11) X inlX11 rfl 4 (by decide) dX11_must_18 mw473 0 rfl rfl ?_
      refine k_callVV (n := 2) (As := [.int 1, .int m_at2_4]) (st := []) X [(h0, .inr (11, [.int m_thrown, .ref a_tape, .int m_taped, .int m_size, .int m_at2_4, .int m_end2_5, .int m_token2_8, .int m_whole2_9, .int m_nameSize2_7, .int m_fault, .int m_place, .int m_trouble, .ref a_letters, .int m_failed, .int m_hasHouse, .ref a_r, .ref a_fresh, .ref a_st, .ref a_undone, .ref a_kept, .int m_undos, .int m_images, .ref a_from, .ref a_begin, .ref a_motor, .ref a_change, .ref a_startFrame, .ref a_changeFrame, .ref a_lostAt, .ref a_blackAt, .ref a_slips, .ref a_leftArc, .ref a_died, .ref a_arcs, .int m_bestSum, .int m_nearest, .int m_nearestTown, .ref a_there, .ref a_backAt, .ref a_sorted, .ref a_parts, .int m_seed1, .int m_darkNow]))] [(a_tape, .inl (g.2.2.1, 900, .inl d_tape)), (a_letters, .inl (g.2.2.1, 8, .inl d_letters2_6))] [0] [1, 2] (m_bad l g h0 1 m_at2_4 m_thrown a_tape m_taped m_size m_at2_4 m_end2_5 m_token2_8 m_whole2_9 m_nameSize2_7 m_fault m_place m_trouble a_letters m_failed m_hasHouse a_r a_fresh a_st a_undone a_kept m_undos m_images a_from a_begin a_motor a_change a_startFrame a_changeFrame a_lostAt a_blackAt a_slips a_leftArc a_died a_arcs m_bestSum m_nearest m_nearestTown a_there a_backAt a_sorted a_parts m_seed1 m_darkNow (iv_w iv_3 (by decide) (by decide))) dX11_must_21 mw519 mw520 mw521 mw5 mw522 rfl 11 rfl rfl 0 _ rfl (by unfold yOk; decide) rfl (Nat.le_of_ble_eq_true rfl) (Nat.le_of_ble_eq_true rfl) (Nat.le_of_ble_eq_true rfl) (Nat.le_of_ble_eq_true rfl) (Nat.le_of_ble_eq_true rfl) rfl rfl (by decide) rfl (by decide) (by decide) ?_
      rintro w ⟨m_failed2_19, m_fault2_20, m_place2_21, iv_23, rfl⟩
      refine k_ws [(a_tape, .inl (g.2.2.1, 900, .inl d_tape)), (a_letters, .inl (g.2.2.1, 8, .inl d_letters2_6)), (h0, .inr (11, [.int m_thrown, .ref a_tape, .int m_taped, .int m_size, .int m_at2_4, .int m_end2_5, .int m_token2_8, .int m_whole2_9, .int m_nameSize2_7, .int m_fault2_20, .int m_place2_21, .int m_trouble, .ref a_letters, .int m_failed2_19, .int m_hasHouse, .ref a_r, .ref a_fresh, .ref a_st, .ref a_undone, .ref a_kept, .int m_undos, .int m_images, .ref a_from, .ref a_begin, .ref a_motor, .ref a_change, .ref a_startFrame, .ref a_changeFrame, .ref a_lostAt, .ref a_blackAt, .ref a_slips, .ref a_leftArc, .ref a_died, .ref a_arcs, .int m_bestSum, .int m_nearest, .int m_nearestTown, .ref a_there, .ref a_backAt, .ref a_sorted, .ref a_parts, .int m_seed1, .int m_darkNow]))] rfl ?_
      exact k_vret X hr dX11_must_24 (Nat.le_of_ble_eq_true rfl) (Nat.le_of_ble_eq_true rfl) [2, 0, 1] (by decide) rfl rfl ⟨m_at2_4, m_end2_5, m_failed2_19, m_fault2_20, d_letters2_6, m_nameSize2_7, m_place2_21, m_token2_8, m_whole2_9, (iv_w iv_11 (by decide) (by decide)), (iv_w iv_23 (by decide) (by decide)), (iv_w iv_12 (by decide) (by decide)), (by omega), hk_15, rfl⟩

theorem dX11_mustName_0 : decode cX11_mustName 0 = .ok (.aload_n 0, 1) := by decide +kernel
theorem dX11_mustName_1 : decode cX11_mustName 1 = .ok (.ldc 152, 2) := by decide +kernel
theorem dX11_mustName_3 : decode cX11_mustName 3 = .ok (.invokevirtual 138, 3) := by decide +kernel
theorem dX11_mustName_6 : decode cX11_mustName 6 = .ok (.ifCond .ne 102, 3) := by decide +kernel
theorem dX11_mustName_9 : decode cX11_mustName 9 = .ok (.aload_n 0, 1) := by decide +kernel
theorem dX11_mustName_10 : decode cX11_mustName 10 = .ok (.ldc 154, 2) := by decide +kernel
theorem dX11_mustName_12 : decode cX11_mustName 12 = .ok (.invokevirtual 138, 3) := by decide +kernel
theorem dX11_mustName_15 : decode cX11_mustName 15 = .ok (.ifCond .ne 93, 3) := by decide +kernel
theorem dX11_mustName_18 : decode cX11_mustName 18 = .ok (.aload_n 0, 1) := by decide +kernel
theorem dX11_mustName_19 : decode cX11_mustName 19 = .ok (.ldc 156, 2) := by decide +kernel
theorem dX11_mustName_21 : decode cX11_mustName 21 = .ok (.invokevirtual 138, 3) := by decide +kernel
theorem dX11_mustName_24 : decode cX11_mustName 24 = .ok (.ifCond .ne 84, 3) := by decide +kernel
theorem dX11_mustName_27 : decode cX11_mustName 27 = .ok (.aload_n 0, 1) := by decide +kernel
theorem dX11_mustName_28 : decode cX11_mustName 28 = .ok (.ldc 158, 2) := by decide +kernel
theorem dX11_mustName_30 : decode cX11_mustName 30 = .ok (.invokevirtual 138, 3) := by decide +kernel
theorem dX11_mustName_33 : decode cX11_mustName 33 = .ok (.ifCond .ne 75, 3) := by decide +kernel
theorem dX11_mustName_36 : decode cX11_mustName 36 = .ok (.aload_n 0, 1) := by decide +kernel
theorem dX11_mustName_37 : decode cX11_mustName 37 = .ok (.ldc 160, 2) := by decide +kernel
theorem dX11_mustName_39 : decode cX11_mustName 39 = .ok (.invokevirtual 138, 3) := by decide +kernel
theorem dX11_mustName_42 : decode cX11_mustName 42 = .ok (.ifCond .ne 66, 3) := by decide +kernel
theorem dX11_mustName_45 : decode cX11_mustName 45 = .ok (.aload_n 0, 1) := by decide +kernel
theorem dX11_mustName_46 : decode cX11_mustName 46 = .ok (.ldc 162, 2) := by decide +kernel
theorem dX11_mustName_48 : decode cX11_mustName 48 = .ok (.invokevirtual 138, 3) := by decide +kernel
theorem dX11_mustName_51 : decode cX11_mustName 51 = .ok (.ifCond .ne 57, 3) := by decide +kernel
theorem dX11_mustName_54 : decode cX11_mustName 54 = .ok (.aload_n 0, 1) := by decide +kernel
theorem dX11_mustName_55 : decode cX11_mustName 55 = .ok (.ldc 164, 2) := by decide +kernel
theorem dX11_mustName_57 : decode cX11_mustName 57 = .ok (.invokevirtual 138, 3) := by decide +kernel
theorem dX11_mustName_60 : decode cX11_mustName 60 = .ok (.ifCond .ne 48, 3) := by decide +kernel
theorem dX11_mustName_63 : decode cX11_mustName 63 = .ok (.aload_n 0, 1) := by decide +kernel
theorem dX11_mustName_64 : decode cX11_mustName 64 = .ok (.ldc 166, 2) := by decide +kernel
theorem dX11_mustName_66 : decode cX11_mustName 66 = .ok (.invokevirtual 138, 3) := by decide +kernel
theorem dX11_mustName_69 : decode cX11_mustName 69 = .ok (.ifCond .ne 39, 3) := by decide +kernel
theorem dX11_mustName_72 : decode cX11_mustName 72 = .ok (.aload_n 0, 1) := by decide +kernel
theorem dX11_mustName_73 : decode cX11_mustName 73 = .ok (.ldc 168, 2) := by decide +kernel
theorem dX11_mustName_75 : decode cX11_mustName 75 = .ok (.invokevirtual 138, 3) := by decide +kernel
theorem dX11_mustName_78 : decode cX11_mustName 78 = .ok (.ifCond .ne 30, 3) := by decide +kernel
theorem dX11_mustName_81 : decode cX11_mustName 81 = .ok (.aload_n 0, 1) := by decide +kernel
theorem dX11_mustName_82 : decode cX11_mustName 82 = .ok (.ldc 170, 2) := by decide +kernel
theorem dX11_mustName_84 : decode cX11_mustName 84 = .ok (.invokevirtual 138, 3) := by decide +kernel
theorem dX11_mustName_87 : decode cX11_mustName 87 = .ok (.ifCond .ne 21, 3) := by decide +kernel
theorem dX11_mustName_90 : decode cX11_mustName 90 = .ok (.aload_n 0, 1) := by decide +kernel
theorem dX11_mustName_91 : decode cX11_mustName 91 = .ok (.ldc 172, 2) := by decide +kernel
theorem dX11_mustName_93 : decode cX11_mustName 93 = .ok (.invokevirtual 138, 3) := by decide +kernel
theorem dX11_mustName_96 : decode cX11_mustName 96 = .ok (.ifCond .ne 12, 3) := by decide +kernel
theorem dX11_mustName_99 : decode cX11_mustName 99 = .ok (.aload_n 0, 1) := by decide +kernel
theorem dX11_mustName_100 : decode cX11_mustName 100 = .ok (.ldc 174, 2) := by decide +kernel
theorem dX11_mustName_102 : decode cX11_mustName 102 = .ok (.invokevirtual 138, 3) := by decide +kernel
theorem dX11_mustName_105 : decode cX11_mustName 105 = .ok (.ifCond .eq 7, 3) := by decide +kernel
theorem dX11_mustName_108 : decode cX11_mustName 108 = .ok (.iconst 1, 1) := by decide +kernel
theorem dX11_mustName_109 : decode cX11_mustName 109 = .ok (.goto 4, 3) := by decide +kernel
theorem dX11_mustName_112 : decode cX11_mustName 112 = .ok (.iconst 0, 1) := by decide +kernel
theorem dX11_mustName_113 : decode cX11_mustName 113 = .ok (.istore_n 1, 1) := by decide +kernel
theorem dX11_mustName_114 : decode cX11_mustName 114 = .ok (.aload_n 0, 1) := by decide +kernel
theorem dX11_mustName_115 : decode cX11_mustName 115 = .ok (.getfield 111, 3) := by decide +kernel
theorem dX11_mustName_118 : decode cX11_mustName 118 = .ok (.iconst 2, 1) := by decide +kernel
theorem dX11_mustName_119 : decode cX11_mustName 119 = .ok (.if_icmp .ne 7, 3) := by decide +kernel
theorem dX11_mustName_122 : decode cX11_mustName 122 = .ok (.iload_n 1, 1) := by decide +kernel
theorem dX11_mustName_123 : decode cX11_mustName 123 = .ok (.ifCond .eq 12, 3) := by decide +kernel
theorem dX11_mustName_126 : decode cX11_mustName 126 = .ok (.aload_n 0, 1) := by decide +kernel
theorem dX11_mustName_127 : decode cX11_mustName 127 = .ok (.iconst 1, 1) := by decide +kernel
theorem dX11_mustName_128 : decode cX11_mustName 128 = .ok (.aload_n 0, 1) := by decide +kernel
theorem dX11_mustName_129 : decode cX11_mustName 129 = .ok (.getfield 102, 3) := by decide +kernel
theorem dX11_mustName_132 : decode cX11_mustName 132 = .ok (.invokevirtual 148, 3) := by decide +kernel
theorem dX11_mustName_135 : decode cX11_mustName 135 = .ok (.return_, 1) := by decide +kernel
set_option maxHeartbeats 4000000 in
set_option maxRecDepth 100000 in
theorem m_mustName (l : Launch) (g : Gx) (h0 : Nat) (m_thrown : Int32) (a_tape : Nat) (m_taped : Int32) (m_size : Int32) (m_at : Int32) (m_end : Int32) (m_token : Int32) (m_whole : Int32) (m_nameSize : Int32) (m_fault : Int32) (m_place : Int32) (m_trouble : Int32) (a_letters : Nat) (m_failed : Int32) (m_hasHouse : Int32) (a_r : Nat) (a_fresh : Nat) (a_st : Nat) (a_undone : Nat) (a_kept : Nat) (m_undos : Int32) (m_images : Int32) (a_from : Nat) (a_begin : Nat) (a_motor : Nat) (a_change : Nat) (a_startFrame : Nat) (a_changeFrame : Nat) (a_lostAt : Nat) (a_blackAt : Nat) (a_slips : Nat) (a_leftArc : Nat) (a_died : Nat) (a_arcs : Nat) (m_bestSum : Int32) (m_nearest : Int32) (m_nearestTown : Int32) (a_there : Nat) (a_backAt : Nat) (a_sorted : Nat) (a_parts : Nat) (m_seed1 : Int32) (m_darkNow : Int32) (d_letters : Nat → Int32) (hv_m_nameSize : IV m_nameSize 0 900) (hv_m_failed : IV m_failed 0 1) (hc_0 : m_token = 2 → IV m_nameSize 0 8) : cV l g yX11_mustName cX11_mustName 2 5 108 0 0 [.ref h0] [(h0, .inr (11, [.int m_thrown, .ref a_tape, .int m_taped, .int m_size, .int m_at, .int m_end, .int m_token, .int m_whole, .int m_nameSize, .int m_fault, .int m_place, .int m_trouble, .ref a_letters, .int m_failed, .int m_hasHouse, .ref a_r, .ref a_fresh, .ref a_st, .ref a_undone, .ref a_kept, .int m_undos, .int m_images, .ref a_from, .ref a_begin, .ref a_motor, .ref a_change, .ref a_startFrame, .ref a_changeFrame, .ref a_lostAt, .ref a_blackAt, .ref a_slips, .ref a_leftArc, .ref a_died, .ref a_arcs, .int m_bestSum, .int m_nearest, .int m_nearestTown, .ref a_there, .ref a_backAt, .ref a_sorted, .ref a_parts, .int m_seed1, .int m_darkNow])), (a_letters, .inl (g.2.2.1, 8, .inl d_letters))] (fun w => ∃ (m_failed2 : Int32) (m_fault2 : Int32) (m_place2 : Int32), IV m_failed2 0 1 ∧ (m_failed2 = 1 ∨ (IV m_token 2 2)) ∧ w = [(h0, .inr (11, [.int m_thrown, .ref a_tape, .int m_taped, .int m_size, .int m_at, .int m_end, .int m_token, .int m_whole, .int m_nameSize, .int m_fault2, .int m_place2, .int m_trouble, .ref a_letters, .int m_failed2, .int m_hasHouse, .ref a_r, .ref a_fresh, .ref a_st, .ref a_undone, .ref a_kept, .int m_undos, .int m_images, .ref a_from, .ref a_begin, .ref a_motor, .ref a_change, .ref a_startFrame, .ref a_changeFrame, .ref a_lostAt, .ref a_blackAt, .ref a_slips, .ref a_leftArc, .ref a_died, .ref a_arcs, .int m_bestSum, .int m_nearest, .int m_nearestTown, .ref a_there, .ref a_backAt, .ref a_sorted, .ref a_parts, .int m_seed1, .int m_darkNow])), (a_letters, .inl (g.2.2.1, 8, .inl d_letters))]) := by
  refine cV.of (by decide) (Nat.le_of_ble_eq_true rfl) ?_
  intro p e s m args below meth c A X hr hi
  refine k_lveq [(0, .ref h0)] rfl ?_
  refine k_aload_n X dX11_mustName_0 0 rfl ?_
  refine k_ldcS (tx := "house") X dX11_mustName_1 (by decide +kernel) (fun sr_1 hsr_1 => ?_)
  refine k_callVI (n := 1) (As := [.ref sr_1]) (st := []) X [(h0, .inr (11, [.int m_thrown, .ref a_tape, .int m_taped, .int m_size, .int m_at, .int m_end, .int m_token, .int m_whole, .int m_nameSize, .int m_fault, .int m_place, .int m_trouble, .ref a_letters, .int m_failed, .int m_hasHouse, .ref a_r, .ref a_fresh, .ref a_st, .ref a_undone, .ref a_kept, .int m_undos, .int m_images, .ref a_from, .ref a_begin, .ref a_motor, .ref a_change, .ref a_startFrame, .ref a_changeFrame, .ref a_lostAt, .ref a_blackAt, .ref a_slips, .ref a_leftArc, .ref a_died, .ref a_arcs, .int m_bestSum, .int m_nearest, .int m_nearestTown, .ref a_there, .ref a_backAt, .ref a_sorted, .ref a_parts, .int m_seed1, .int m_darkNow])), (a_letters, .inl (g.2.2.1, 8, .inl d_letters))] [] [0, 1] [] (m_isWord l g h0 sr_1 m_thrown a_tape m_taped m_size m_at m_end m_token m_whole m_nameSize m_fault m_place m_trouble a_letters m_failed m_hasHouse a_r a_fresh a_st a_undone a_kept m_undos m_images a_from a_begin a_motor a_change a_startFrame a_changeFrame a_lostAt a_blackAt a_slips a_leftArc a_died a_arcs m_bestSum m_nearest m_nearestTown a_there a_backAt a_sorted a_parts m_seed1 m_darkNow d_letters ("house") (iv_w hv_m_nameSize (by decide) (by decide)) (iv_w hv_m_failed (by decide) (by decide)) hsr_1 hc_0) dX11_mustName_3 mw509 mw510 mw511 mw5 mw512 rfl 11 rfl rfl 0 _ rfl (by unfold yOk; decide) rfl (Nat.le_of_ble_eq_true rfl) (Nat.le_of_ble_eq_true rfl) (Nat.le_of_ble_eq_true rfl) (Nat.le_of_ble_eq_true rfl) (Nat.le_of_ble_eq_true rfl) rfl rfl (by decide) rfl (by decide) (by decide) ?_
  rintro r_2 w ⟨iv_3, hk_4, rfl⟩
  refine k_ws [(h0, .inr (11, [.int m_thrown, .ref a_tape, .int m_taped, .int m_size, .int m_at, .int m_end, .int m_token, .int m_whole, .int m_nameSize, .int m_fault, .int m_place, .int m_trouble, .ref a_letters, .int m_failed, .int m_hasHouse, .ref a_r, .ref a_fresh, .ref a_st, .ref a_undone, .ref a_kept, .int m_undos, .int m_images, .ref a_from, .ref a_begin, .ref a_motor, .ref a_change, .ref a_startFrame, .ref a_changeFrame, .ref a_lostAt, .ref a_blackAt, .ref a_slips, .ref a_leftArc, .ref a_died, .ref a_arcs, .int m_bestSum, .int m_nearest, .int m_nearestTown, .ref a_there, .ref a_backAt, .ref a_sorted, .ref a_parts, .int m_seed1, .int m_darkNow])), (a_letters, .inl (g.2.2.1, 8, .inl d_letters))] rfl ?_
  refine k_if_ne 108 X dX11_mustName_6 (by decide) (fun h_5 => ?_) (fun h_5 => ?_)
  · skip
    have hc_6 := hk_4.resolve_left h_5
    have iv_7 : IV m_token 2 2 := iv_meet (iv_any m_token) hc_6.1 (by decide) (by decide)
    have hc_8 := hc_0 (iv_eq iv_7 (show IV 2 2 2 from (by decide)))
    have iv_9 : IV m_nameSize 0 8 := iv_meet hv_m_nameSize hc_8 (by decide) (by decide)
    have iv_10 : IV m_failed 0 0 := iv_meet hv_m_failed hc_6.2 (by decide) (by decide)
    have iv_11 : IV r_2 1 1 := iv_neL h_5 iv_3 (show IV 0 0 0 from (by decide)) (by decide)
    refine k_iconst (v := 1) X dX11_mustName_108 (by decide) ?_
    refine k_goto 113 X dX11_mustName_109 (by decide) ?_
    refine k_istore_n [(1, .int 1), (0, .ref h0)] X dX11_mustName_113 (by decide) rfl ?_
    refine k_aload_n X dX11_mustName_114 1 rfl ?_
    refine k_get (ci := 11) X inlX11 rfl 6 (by decide) dX11_mustName_115 mw472 0 rfl rfl ?_
    refine k_iconst (v := 2) X dX11_mustName_118 (by decide) ?_
    refine k_ic_ne 126 X dX11_mustName_119 (by decide) (fun h_12 => absurd (iv_eq iv_7 (show IV 2 2 2 from (by decide))) h_12) (fun h_12 => ?_)
    refine k_iload_n X dX11_mustName_122 0 rfl ?_
    refine k_if_eq 135 X dX11_mustName_123 (by decide) (fun h_13 => absurd h_13 (by decide)) (fun _ => ?_)
    refine k_aload_n X dX11_mustName_126 1 rfl ?_
    refine k_iconst (v := 1) X dX11_mustName_127 (by decide) ?_
    refine k_aload_n X dX11_mustName_128 1 rfl ?_
    refine k_get (ci := 11) X inlX11 rfl 4 (by decide) dX11_mustName_129 mw473 0 rfl rfl ?_
    refine k_callVV (n := 2) (As := [.int 1, .int m_at]) (st := []) X [(h0, .inr (11, [.int m_thrown, .ref a_tape, .int m_taped, .int m_size, .int m_at, .int m_end, .int m_token, .int m_whole, .int m_nameSize, .int m_fault, .int m_place, .int m_trouble, .ref a_letters, .int m_failed, .int m_hasHouse, .ref a_r, .ref a_fresh, .ref a_st, .ref a_undone, .ref a_kept, .int m_undos, .int m_images, .ref a_from, .ref a_begin, .ref a_motor, .ref a_change, .ref a_startFrame, .ref a_changeFrame, .ref a_lostAt, .ref a_blackAt, .ref a_slips, .ref a_leftArc, .ref a_died, .ref a_arcs, .int m_bestSum, .int m_nearest, .int m_nearestTown, .ref a_there, .ref a_backAt, .ref a_sorted, .ref a_parts, .int m_seed1, .int m_darkNow]))] [(a_letters, .inl (g.2.2.1, 8, .inl d_letters))] [0] [1] (m_bad l g h0 1 m_at m_thrown a_tape m_taped m_size m_at m_end m_token m_whole m_nameSize m_fault m_place m_trouble a_letters m_failed m_hasHouse a_r a_fresh a_st a_undone a_kept m_undos m_images a_from a_begin a_motor a_change a_startFrame a_changeFrame a_lostAt a_blackAt a_slips a_leftArc a_died a_arcs m_bestSum m_nearest m_nearestTown a_there a_backAt a_sorted a_parts m_seed1 m_darkNow (iv_w iv_10 (by decide) (by decide))) dX11_mustName_132 mw519 mw520 mw521 mw5 mw522 rfl 11 rfl rfl 0 _ rfl (by unfold yOk; decide) rfl (Nat.le_of_ble_eq_true rfl) (Nat.le_of_ble_eq_true rfl) (Nat.le_of_ble_eq_true rfl) (Nat.le_of_ble_eq_true rfl) (Nat.le_of_ble_eq_true rfl) rfl rfl (by decide) rfl (by decide) (by decide) ?_
    rintro w ⟨m_failed2_14, m_fault2_15, m_place2_16, iv_18, rfl⟩
    refine k_ws [(a_letters, .inl (g.2.2.1, 8, .inl d_letters)), (h0, .inr (11, [.int m_thrown, .ref a_tape, .int m_taped, .int m_size, .int m_at, .int m_end, .int m_token, .int m_whole, .int m_nameSize, .int m_fault2_15, .int m_place2_16, .int m_trouble, .ref a_letters, .int m_failed2_14, .int m_hasHouse, .ref a_r, .ref a_fresh, .ref a_st, .ref a_undone, .ref a_kept, .int m_undos, .int m_images, .ref a_from, .ref a_begin, .ref a_motor, .ref a_change, .ref a_startFrame, .ref a_changeFrame, .ref a_lostAt, .ref a_blackAt, .ref a_slips, .ref a_leftArc, .ref a_died, .ref a_arcs, .int m_bestSum, .int m_nearest, .int m_nearestTown, .ref a_there, .ref a_backAt, .ref a_sorted, .ref a_parts, .int m_seed1, .int m_darkNow]))] rfl ?_
    exact k_vret X hr dX11_mustName_135 (Nat.le_of_ble_eq_true rfl) (Nat.le_of_ble_eq_true rfl) [1, 0] (by decide) rfl rfl ⟨m_failed2_14, m_fault2_15, m_place2_16, (iv_w iv_18 (by decide) (by decide)), (Or.inl (iv_eq iv_18 (show IV 1 1 1 from (by decide)))), rfl⟩
  · skip
    have iv_19 : IV r_2 0 0 := iv_meet iv_3 (iv_e h_5 (show IV 0 0 0 from (by decide))) (by decide) (by decide)
    refine k_aload_n X dX11_mustName_9 0 rfl ?_
    refine k_ldcS (tx := "reel") X dX11_mustName_10 (by decide +kernel) (fun sr_20 hsr_20 => ?_)
    refine k_callVI (n := 1) (As := [.ref sr_20]) (st := []) X [(h0, .inr (11, [.int m_thrown, .ref a_tape, .int m_taped, .int m_size, .int m_at, .int m_end, .int m_token, .int m_whole, .int m_nameSize, .int m_fault, .int m_place, .int m_trouble, .ref a_letters, .int m_failed, .int m_hasHouse, .ref a_r, .ref a_fresh, .ref a_st, .ref a_undone, .ref a_kept, .int m_undos, .int m_images, .ref a_from, .ref a_begin, .ref a_motor, .ref a_change, .ref a_startFrame, .ref a_changeFrame, .ref a_lostAt, .ref a_blackAt, .ref a_slips, .ref a_leftArc, .ref a_died, .ref a_arcs, .int m_bestSum, .int m_nearest, .int m_nearestTown, .ref a_there, .ref a_backAt, .ref a_sorted, .ref a_parts, .int m_seed1, .int m_darkNow])), (a_letters, .inl (g.2.2.1, 8, .inl d_letters))] [] [0, 1] [] (m_isWord l g h0 sr_20 m_thrown a_tape m_taped m_size m_at m_end m_token m_whole m_nameSize m_fault m_place m_trouble a_letters m_failed m_hasHouse a_r a_fresh a_st a_undone a_kept m_undos m_images a_from a_begin a_motor a_change a_startFrame a_changeFrame a_lostAt a_blackAt a_slips a_leftArc a_died a_arcs m_bestSum m_nearest m_nearestTown a_there a_backAt a_sorted a_parts m_seed1 m_darkNow d_letters ("reel") (iv_w hv_m_nameSize (by decide) (by decide)) (iv_w hv_m_failed (by decide) (by decide)) hsr_20 hc_0) dX11_mustName_12 mw509 mw510 mw511 mw5 mw512 rfl 11 rfl rfl 0 _ rfl (by unfold yOk; decide) rfl (Nat.le_of_ble_eq_true rfl) (Nat.le_of_ble_eq_true rfl) (Nat.le_of_ble_eq_true rfl) (Nat.le_of_ble_eq_true rfl) (Nat.le_of_ble_eq_true rfl) rfl rfl (by decide) rfl (by decide) (by decide) ?_
    rintro r_21 w ⟨iv_22, hk_23, rfl⟩
    refine k_ws [(h0, .inr (11, [.int m_thrown, .ref a_tape, .int m_taped, .int m_size, .int m_at, .int m_end, .int m_token, .int m_whole, .int m_nameSize, .int m_fault, .int m_place, .int m_trouble, .ref a_letters, .int m_failed, .int m_hasHouse, .ref a_r, .ref a_fresh, .ref a_st, .ref a_undone, .ref a_kept, .int m_undos, .int m_images, .ref a_from, .ref a_begin, .ref a_motor, .ref a_change, .ref a_startFrame, .ref a_changeFrame, .ref a_lostAt, .ref a_blackAt, .ref a_slips, .ref a_leftArc, .ref a_died, .ref a_arcs, .int m_bestSum, .int m_nearest, .int m_nearestTown, .ref a_there, .ref a_backAt, .ref a_sorted, .ref a_parts, .int m_seed1, .int m_darkNow])), (a_letters, .inl (g.2.2.1, 8, .inl d_letters))] rfl ?_
    refine k_if_ne 108 X dX11_mustName_15 (by decide) (fun h_24 => ?_) (fun h_24 => ?_)
    · skip
      have hc_25 := hk_23.resolve_left h_24
      have iv_26 : IV m_token 2 2 := iv_meet (iv_any m_token) hc_25.1 (by decide) (by decide)
      have hc_27 := hc_0 (iv_eq iv_26 (show IV 2 2 2 from (by decide)))
      have iv_28 : IV m_nameSize 0 8 := iv_meet hv_m_nameSize hc_27 (by decide) (by decide)
      have iv_29 : IV m_failed 0 0 := iv_meet hv_m_failed hc_25.2 (by decide) (by decide)
      have iv_30 : IV r_21 1 1 := iv_neL h_24 iv_22 (show IV 0 0 0 from (by decide)) (by decide)
      refine k_iconst (v := 1) X dX11_mustName_108 (by decide) ?_
      refine k_goto 113 X dX11_mustName_109 (by decide) ?_
      refine k_istore_n [(1, .int 1), (0, .ref h0)] X dX11_mustName_113 (by decide) rfl ?_
      refine k_aload_n X dX11_mustName_114 1 rfl ?_
      refine k_get (ci := 11) X inlX11 rfl 6 (by decide) dX11_mustName_115 mw472 0 rfl rfl ?_
      refine k_iconst (v := 2) X dX11_mustName_118 (by decide) ?_
      refine k_ic_ne 126 X dX11_mustName_119 (by decide) (fun h_31 => absurd (iv_eq iv_26 (show IV 2 2 2 from (by decide))) h_31) (fun h_31 => ?_)
      refine k_iload_n X dX11_mustName_122 0 rfl ?_
      refine k_if_eq 135 X dX11_mustName_123 (by decide) (fun h_32 => absurd h_32 (by decide)) (fun _ => ?_)
      refine k_aload_n X dX11_mustName_126 1 rfl ?_
      refine k_iconst (v := 1) X dX11_mustName_127 (by decide) ?_
      refine k_aload_n X dX11_mustName_128 1 rfl ?_
      refine k_get (ci := 11) X inlX11 rfl 4 (by decide) dX11_mustName_129 mw473 0 rfl rfl ?_
      refine k_callVV (n := 2) (As := [.int 1, .int m_at]) (st := []) X [(h0, .inr (11, [.int m_thrown, .ref a_tape, .int m_taped, .int m_size, .int m_at, .int m_end, .int m_token, .int m_whole, .int m_nameSize, .int m_fault, .int m_place, .int m_trouble, .ref a_letters, .int m_failed, .int m_hasHouse, .ref a_r, .ref a_fresh, .ref a_st, .ref a_undone, .ref a_kept, .int m_undos, .int m_images, .ref a_from, .ref a_begin, .ref a_motor, .ref a_change, .ref a_startFrame, .ref a_changeFrame, .ref a_lostAt, .ref a_blackAt, .ref a_slips, .ref a_leftArc, .ref a_died, .ref a_arcs, .int m_bestSum, .int m_nearest, .int m_nearestTown, .ref a_there, .ref a_backAt, .ref a_sorted, .ref a_parts, .int m_seed1, .int m_darkNow]))] [(a_letters, .inl (g.2.2.1, 8, .inl d_letters))] [0] [1] (m_bad l g h0 1 m_at m_thrown a_tape m_taped m_size m_at m_end m_token m_whole m_nameSize m_fault m_place m_trouble a_letters m_failed m_hasHouse a_r a_fresh a_st a_undone a_kept m_undos m_images a_from a_begin a_motor a_change a_startFrame a_changeFrame a_lostAt a_blackAt a_slips a_leftArc a_died a_arcs m_bestSum m_nearest m_nearestTown a_there a_backAt a_sorted a_parts m_seed1 m_darkNow (iv_w iv_29 (by decide) (by decide))) dX11_mustName_132 mw519 mw520 mw521 mw5 mw522 rfl 11 rfl rfl 0 _ rfl (by unfold yOk; decide) rfl (Nat.le_of_ble_eq_true rfl) (Nat.le_of_ble_eq_true rfl) (Nat.le_of_ble_eq_true rfl) (Nat.le_of_ble_eq_true rfl) (Nat.le_of_ble_eq_true rfl) rfl rfl (by decide) rfl (by decide) (by decide) ?_
      rintro w ⟨m_failed2_33, m_fault2_34, m_place2_35, iv_37, rfl⟩
      refine k_ws [(a_letters, .inl (g.2.2.1, 8, .inl d_letters)), (h0, .inr (11, [.int m_thrown, .ref a_tape, .int m_taped, .int m_size, .int m_at, .int m_end, .int m_token, .int m_whole, .int m_nameSize, .int m_fault2_34, .int m_place2_35, .int m_trouble, .ref a_letters, .int m_failed2_33, .int m_hasHouse, .ref a_r, .ref a_fresh, .ref a_st, .ref a_undone, .ref a_kept, .int m_undos, .int m_images, .ref a_from, .ref a_begin, .ref a_motor, .ref a_change, .ref a_startFrame, .ref a_changeFrame, .ref a_lostAt, .ref a_blackAt, .ref a_slips, .ref a_leftArc, .ref a_died, .ref a_arcs, .int m_bestSum, .int m_nearest, .int m_nearestTown, .ref a_there, .ref a_backAt, .ref a_sorted, .ref a_parts, .int m_seed1, .int m_darkNow]))] rfl ?_
      exact k_vret X hr dX11_mustName_135 (Nat.le_of_ble_eq_true rfl) (Nat.le_of_ble_eq_true rfl) [1, 0] (by decide) rfl rfl ⟨m_failed2_33, m_fault2_34, m_place2_35, (iv_w iv_37 (by decide) (by decide)), (Or.inl (iv_eq iv_37 (show IV 1 1 1 from (by decide)))), rfl⟩
    · skip
      have iv_38 : IV r_21 0 0 := iv_meet iv_22 (iv_e h_24 (show IV 0 0 0 from (by decide))) (by decide) (by decide)
      refine k_aload_n X dX11_mustName_18 0 rfl ?_
      refine k_ldcS (tx := "town") X dX11_mustName_19 (by decide +kernel) (fun sr_39 hsr_39 => ?_)
      refine k_callVI (n := 1) (As := [.ref sr_39]) (st := []) X [(h0, .inr (11, [.int m_thrown, .ref a_tape, .int m_taped, .int m_size, .int m_at, .int m_end, .int m_token, .int m_whole, .int m_nameSize, .int m_fault, .int m_place, .int m_trouble, .ref a_letters, .int m_failed, .int m_hasHouse, .ref a_r, .ref a_fresh, .ref a_st, .ref a_undone, .ref a_kept, .int m_undos, .int m_images, .ref a_from, .ref a_begin, .ref a_motor, .ref a_change, .ref a_startFrame, .ref a_changeFrame, .ref a_lostAt, .ref a_blackAt, .ref a_slips, .ref a_leftArc, .ref a_died, .ref a_arcs, .int m_bestSum, .int m_nearest, .int m_nearestTown, .ref a_there, .ref a_backAt, .ref a_sorted, .ref a_parts, .int m_seed1, .int m_darkNow])), (a_letters, .inl (g.2.2.1, 8, .inl d_letters))] [] [0, 1] [] (m_isWord l g h0 sr_39 m_thrown a_tape m_taped m_size m_at m_end m_token m_whole m_nameSize m_fault m_place m_trouble a_letters m_failed m_hasHouse a_r a_fresh a_st a_undone a_kept m_undos m_images a_from a_begin a_motor a_change a_startFrame a_changeFrame a_lostAt a_blackAt a_slips a_leftArc a_died a_arcs m_bestSum m_nearest m_nearestTown a_there a_backAt a_sorted a_parts m_seed1 m_darkNow d_letters ("town") (iv_w hv_m_nameSize (by decide) (by decide)) (iv_w hv_m_failed (by decide) (by decide)) hsr_39 hc_0) dX11_mustName_21 mw509 mw510 mw511 mw5 mw512 rfl 11 rfl rfl 0 _ rfl (by unfold yOk; decide) rfl (Nat.le_of_ble_eq_true rfl) (Nat.le_of_ble_eq_true rfl) (Nat.le_of_ble_eq_true rfl) (Nat.le_of_ble_eq_true rfl) (Nat.le_of_ble_eq_true rfl) rfl rfl (by decide) rfl (by decide) (by decide) ?_
      rintro r_40 w ⟨iv_41, hk_42, rfl⟩
      refine k_ws [(h0, .inr (11, [.int m_thrown, .ref a_tape, .int m_taped, .int m_size, .int m_at, .int m_end, .int m_token, .int m_whole, .int m_nameSize, .int m_fault, .int m_place, .int m_trouble, .ref a_letters, .int m_failed, .int m_hasHouse, .ref a_r, .ref a_fresh, .ref a_st, .ref a_undone, .ref a_kept, .int m_undos, .int m_images, .ref a_from, .ref a_begin, .ref a_motor, .ref a_change, .ref a_startFrame, .ref a_changeFrame, .ref a_lostAt, .ref a_blackAt, .ref a_slips, .ref a_leftArc, .ref a_died, .ref a_arcs, .int m_bestSum, .int m_nearest, .int m_nearestTown, .ref a_there, .ref a_backAt, .ref a_sorted, .ref a_parts, .int m_seed1, .int m_darkNow])), (a_letters, .inl (g.2.2.1, 8, .inl d_letters))] rfl ?_
      refine k_if_ne 108 X dX11_mustName_24 (by decide) (fun h_43 => ?_) (fun h_43 => ?_)
      · skip
        have hc_44 := hk_42.resolve_left h_43
        have iv_45 : IV m_token 2 2 := iv_meet (iv_any m_token) hc_44.1 (by decide) (by decide)
        have hc_46 := hc_0 (iv_eq iv_45 (show IV 2 2 2 from (by decide)))
        have iv_47 : IV m_nameSize 0 8 := iv_meet hv_m_nameSize hc_46 (by decide) (by decide)
        have iv_48 : IV m_failed 0 0 := iv_meet hv_m_failed hc_44.2 (by decide) (by decide)
        have iv_49 : IV r_40 1 1 := iv_neL h_43 iv_41 (show IV 0 0 0 from (by decide)) (by decide)
        refine k_iconst (v := 1) X dX11_mustName_108 (by decide) ?_
        refine k_goto 113 X dX11_mustName_109 (by decide) ?_
        refine k_istore_n [(1, .int 1), (0, .ref h0)] X dX11_mustName_113 (by decide) rfl ?_
        refine k_aload_n X dX11_mustName_114 1 rfl ?_
        refine k_get (ci := 11) X inlX11 rfl 6 (by decide) dX11_mustName_115 mw472 0 rfl rfl ?_
        refine k_iconst (v := 2) X dX11_mustName_118 (by decide) ?_
        refine k_ic_ne 126 X dX11_mustName_119 (by decide) (fun h_50 => absurd (iv_eq iv_45 (show IV 2 2 2 from (by decide))) h_50) (fun h_50 => ?_)
        refine k_iload_n X dX11_mustName_122 0 rfl ?_
        refine k_if_eq 135 X dX11_mustName_123 (by decide) (fun h_51 => absurd h_51 (by decide)) (fun _ => ?_)
        refine k_aload_n X dX11_mustName_126 1 rfl ?_
        refine k_iconst (v := 1) X dX11_mustName_127 (by decide) ?_
        refine k_aload_n X dX11_mustName_128 1 rfl ?_
        refine k_get (ci := 11) X inlX11 rfl 4 (by decide) dX11_mustName_129 mw473 0 rfl rfl ?_
        refine k_callVV (n := 2) (As := [.int 1, .int m_at]) (st := []) X [(h0, .inr (11, [.int m_thrown, .ref a_tape, .int m_taped, .int m_size, .int m_at, .int m_end, .int m_token, .int m_whole, .int m_nameSize, .int m_fault, .int m_place, .int m_trouble, .ref a_letters, .int m_failed, .int m_hasHouse, .ref a_r, .ref a_fresh, .ref a_st, .ref a_undone, .ref a_kept, .int m_undos, .int m_images, .ref a_from, .ref a_begin, .ref a_motor, .ref a_change, .ref a_startFrame, .ref a_changeFrame, .ref a_lostAt, .ref a_blackAt, .ref a_slips, .ref a_leftArc, .ref a_died, .ref a_arcs, .int m_bestSum, .int m_nearest, .int m_nearestTown, .ref a_there, .ref a_backAt, .ref a_sorted, .ref a_parts, .int m_seed1, .int m_darkNow]))] [(a_letters, .inl (g.2.2.1, 8, .inl d_letters))] [0] [1] (m_bad l g h0 1 m_at m_thrown a_tape m_taped m_size m_at m_end m_token m_whole m_nameSize m_fault m_place m_trouble a_letters m_failed m_hasHouse a_r a_fresh a_st a_undone a_kept m_undos m_images a_from a_begin a_motor a_change a_startFrame a_changeFrame a_lostAt a_blackAt a_slips a_leftArc a_died a_arcs m_bestSum m_nearest m_nearestTown a_there a_backAt a_sorted a_parts m_seed1 m_darkNow (iv_w iv_48 (by decide) (by decide))) dX11_mustName_132 mw519 mw520 mw521 mw5 mw522 rfl 11 rfl rfl 0 _ rfl (by unfold yOk; decide) rfl (Nat.le_of_ble_eq_true rfl) (Nat.le_of_ble_eq_true rfl) (Nat.le_of_ble_eq_true rfl) (Nat.le_of_ble_eq_true rfl) (Nat.le_of_ble_eq_true rfl) rfl rfl (by decide) rfl (by decide) (by decide) ?_
        rintro w ⟨m_failed2_52, m_fault2_53, m_place2_54, iv_56, rfl⟩
        refine k_ws [(a_letters, .inl (g.2.2.1, 8, .inl d_letters)), (h0, .inr (11, [.int m_thrown, .ref a_tape, .int m_taped, .int m_size, .int m_at, .int m_end, .int m_token, .int m_whole, .int m_nameSize, .int m_fault2_53, .int m_place2_54, .int m_trouble, .ref a_letters, .int m_failed2_52, .int m_hasHouse, .ref a_r, .ref a_fresh, .ref a_st, .ref a_undone, .ref a_kept, .int m_undos, .int m_images, .ref a_from, .ref a_begin, .ref a_motor, .ref a_change, .ref a_startFrame, .ref a_changeFrame, .ref a_lostAt, .ref a_blackAt, .ref a_slips, .ref a_leftArc, .ref a_died, .ref a_arcs, .int m_bestSum, .int m_nearest, .int m_nearestTown, .ref a_there, .ref a_backAt, .ref a_sorted, .ref a_parts, .int m_seed1, .int m_darkNow]))] rfl ?_
        exact k_vret X hr dX11_mustName_135 (Nat.le_of_ble_eq_true rfl) (Nat.le_of_ble_eq_true rfl) [1, 0] (by decide) rfl rfl ⟨m_failed2_52, m_fault2_53, m_place2_54, (iv_w iv_56 (by decide) (by decide)), (Or.inl (iv_eq iv_56 (show IV 1 1 1 from (by decide)))), rfl⟩
      · skip
        have iv_57 : IV r_40 0 0 := iv_meet iv_41 (iv_e h_43 (show IV 0 0 0 from (by decide))) (by decide) (by decide)
        refine k_aload_n X dX11_mustName_27 0 rfl ?_
        refine k_ldcS (tx := "mark") X dX11_mustName_28 (by decide +kernel) (fun sr_58 hsr_58 => ?_)
        refine k_callVI (n := 1) (As := [.ref sr_58]) (st := []) X [(h0, .inr (11, [.int m_thrown, .ref a_tape, .int m_taped, .int m_size, .int m_at, .int m_end, .int m_token, .int m_whole, .int m_nameSize, .int m_fault, .int m_place, .int m_trouble, .ref a_letters, .int m_failed, .int m_hasHouse, .ref a_r, .ref a_fresh, .ref a_st, .ref a_undone, .ref a_kept, .int m_undos, .int m_images, .ref a_from, .ref a_begin, .ref a_motor, .ref a_change, .ref a_startFrame, .ref a_changeFrame, .ref a_lostAt, .ref a_blackAt, .ref a_slips, .ref a_leftArc, .ref a_died, .ref a_arcs, .int m_bestSum, .int m_nearest, .int m_nearestTown, .ref a_there, .ref a_backAt, .ref a_sorted, .ref a_parts, .int m_seed1, .int m_darkNow])), (a_letters, .inl (g.2.2.1, 8, .inl d_letters))] [] [0, 1] [] (m_isWord l g h0 sr_58 m_thrown a_tape m_taped m_size m_at m_end m_token m_whole m_nameSize m_fault m_place m_trouble a_letters m_failed m_hasHouse a_r a_fresh a_st a_undone a_kept m_undos m_images a_from a_begin a_motor a_change a_startFrame a_changeFrame a_lostAt a_blackAt a_slips a_leftArc a_died a_arcs m_bestSum m_nearest m_nearestTown a_there a_backAt a_sorted a_parts m_seed1 m_darkNow d_letters ("mark") (iv_w hv_m_nameSize (by decide) (by decide)) (iv_w hv_m_failed (by decide) (by decide)) hsr_58 hc_0) dX11_mustName_30 mw509 mw510 mw511 mw5 mw512 rfl 11 rfl rfl 0 _ rfl (by unfold yOk; decide) rfl (Nat.le_of_ble_eq_true rfl) (Nat.le_of_ble_eq_true rfl) (Nat.le_of_ble_eq_true rfl) (Nat.le_of_ble_eq_true rfl) (Nat.le_of_ble_eq_true rfl) rfl rfl (by decide) rfl (by decide) (by decide) ?_
        rintro r_59 w ⟨iv_60, hk_61, rfl⟩
        refine k_ws [(h0, .inr (11, [.int m_thrown, .ref a_tape, .int m_taped, .int m_size, .int m_at, .int m_end, .int m_token, .int m_whole, .int m_nameSize, .int m_fault, .int m_place, .int m_trouble, .ref a_letters, .int m_failed, .int m_hasHouse, .ref a_r, .ref a_fresh, .ref a_st, .ref a_undone, .ref a_kept, .int m_undos, .int m_images, .ref a_from, .ref a_begin, .ref a_motor, .ref a_change, .ref a_startFrame, .ref a_changeFrame, .ref a_lostAt, .ref a_blackAt, .ref a_slips, .ref a_leftArc, .ref a_died, .ref a_arcs, .int m_bestSum, .int m_nearest, .int m_nearestTown, .ref a_there, .ref a_backAt, .ref a_sorted, .ref a_parts, .int m_seed1, .int m_darkNow])), (a_letters, .inl (g.2.2.1, 8, .inl d_letters))] rfl ?_
        refine k_if_ne 108 X dX11_mustName_33 (by decide) (fun h_62 => ?_) (fun h_62 => ?_)
        · skip
          have hc_63 := hk_61.resolve_left h_62
          have iv_64 : IV m_token 2 2 := iv_meet (iv_any m_token) hc_63.1 (by decide) (by decide)
          have hc_65 := hc_0 (iv_eq iv_64 (show IV 2 2 2 from (by decide)))
          have iv_66 : IV m_nameSize 0 8 := iv_meet hv_m_nameSize hc_65 (by decide) (by decide)
          have iv_67 : IV m_failed 0 0 := iv_meet hv_m_failed hc_63.2 (by decide) (by decide)
          have iv_68 : IV r_59 1 1 := iv_neL h_62 iv_60 (show IV 0 0 0 from (by decide)) (by decide)
          refine k_iconst (v := 1) X dX11_mustName_108 (by decide) ?_
          refine k_goto 113 X dX11_mustName_109 (by decide) ?_
          refine k_istore_n [(1, .int 1), (0, .ref h0)] X dX11_mustName_113 (by decide) rfl ?_
          refine k_aload_n X dX11_mustName_114 1 rfl ?_
          refine k_get (ci := 11) X inlX11 rfl 6 (by decide) dX11_mustName_115 mw472 0 rfl rfl ?_
          refine k_iconst (v := 2) X dX11_mustName_118 (by decide) ?_
          refine k_ic_ne 126 X dX11_mustName_119 (by decide) (fun h_69 => absurd (iv_eq iv_64 (show IV 2 2 2 from (by decide))) h_69) (fun h_69 => ?_)
          refine k_iload_n X dX11_mustName_122 0 rfl ?_
          refine k_if_eq 135 X dX11_mustName_123 (by decide) (fun h_70 => absurd h_70 (by decide)) (fun _ => ?_)
          refine k_aload_n X dX11_mustName_126 1 rfl ?_
          refine k_iconst (v := 1) X dX11_mustName_127 (by decide) ?_
          refine k_aload_n X dX11_mustName_128 1 rfl ?_
          refine k_get (ci := 11) X inlX11 rfl 4 (by decide) dX11_mustName_129 mw473 0 rfl rfl ?_
          refine k_callVV (n := 2) (As := [.int 1, .int m_at]) (st := []) X [(h0, .inr (11, [.int m_thrown, .ref a_tape, .int m_taped, .int m_size, .int m_at, .int m_end, .int m_token, .int m_whole, .int m_nameSize, .int m_fault, .int m_place, .int m_trouble, .ref a_letters, .int m_failed, .int m_hasHouse, .ref a_r, .ref a_fresh, .ref a_st, .ref a_undone, .ref a_kept, .int m_undos, .int m_images, .ref a_from, .ref a_begin, .ref a_motor, .ref a_change, .ref a_startFrame, .ref a_changeFrame, .ref a_lostAt, .ref a_blackAt, .ref a_slips, .ref a_leftArc, .ref a_died, .ref a_arcs, .int m_bestSum, .int m_nearest, .int m_nearestTown, .ref a_there, .ref a_backAt, .ref a_sorted, .ref a_parts, .int m_seed1, .int m_darkNow]))] [(a_letters, .inl (g.2.2.1, 8, .inl d_letters))] [0] [1] (m_bad l g h0 1 m_at m_thrown a_tape m_taped m_size m_at m_end m_token m_whole m_nameSize m_fault m_place m_trouble a_letters m_failed m_hasHouse a_r a_fresh a_st a_undone a_kept m_undos m_images a_from a_begin a_motor a_change a_startFrame a_changeFrame a_lostAt a_blackAt a_slips a_leftArc a_died a_arcs m_bestSum m_nearest m_nearestTown a_there a_backAt a_sorted a_parts m_seed1 m_darkNow (iv_w iv_67 (by decide) (by decide))) dX11_mustName_132 mw519 mw520 mw521 mw5 mw522 rfl 11 rfl rfl 0 _ rfl (by unfold yOk; decide) rfl (Nat.le_of_ble_eq_true rfl) (Nat.le_of_ble_eq_true rfl) (Nat.le_of_ble_eq_true rfl) (Nat.le_of_ble_eq_true rfl) (Nat.le_of_ble_eq_true rfl) rfl rfl (by decide) rfl (by decide) (by decide) ?_
          rintro w ⟨m_failed2_71, m_fault2_72, m_place2_73, iv_75, rfl⟩
          refine k_ws [(a_letters, .inl (g.2.2.1, 8, .inl d_letters)), (h0, .inr (11, [.int m_thrown, .ref a_tape, .int m_taped, .int m_size, .int m_at, .int m_end, .int m_token, .int m_whole, .int m_nameSize, .int m_fault2_72, .int m_place2_73, .int m_trouble, .ref a_letters, .int m_failed2_71, .int m_hasHouse, .ref a_r, .ref a_fresh, .ref a_st, .ref a_undone, .ref a_kept, .int m_undos, .int m_images, .ref a_from, .ref a_begin, .ref a_motor, .ref a_change, .ref a_startFrame, .ref a_changeFrame, .ref a_lostAt, .ref a_blackAt, .ref a_slips, .ref a_leftArc, .ref a_died, .ref a_arcs, .int m_bestSum, .int m_nearest, .int m_nearestTown, .ref a_there, .ref a_backAt, .ref a_sorted, .ref a_parts, .int m_seed1, .int m_darkNow]))] rfl ?_
          exact k_vret X hr dX11_mustName_135 (Nat.le_of_ble_eq_true rfl) (Nat.le_of_ble_eq_true rfl) [1, 0] (by decide) rfl rfl ⟨m_failed2_71, m_fault2_72, m_place2_73, (iv_w iv_75 (by decide) (by decide)), (Or.inl (iv_eq iv_75 (show IV 1 1 1 from (by decide)))), rfl⟩
        · skip
          have iv_76 : IV r_59 0 0 := iv_meet iv_60 (iv_e h_62 (show IV 0 0 0 from (by decide))) (by decide) (by decide)
          refine k_aload_n X dX11_mustName_36 0 rfl ?_
          refine k_ldcS (tx := "join") X dX11_mustName_37 (by decide +kernel) (fun sr_77 hsr_77 => ?_)
          refine k_callVI (n := 1) (As := [.ref sr_77]) (st := []) X [(h0, .inr (11, [.int m_thrown, .ref a_tape, .int m_taped, .int m_size, .int m_at, .int m_end, .int m_token, .int m_whole, .int m_nameSize, .int m_fault, .int m_place, .int m_trouble, .ref a_letters, .int m_failed, .int m_hasHouse, .ref a_r, .ref a_fresh, .ref a_st, .ref a_undone, .ref a_kept, .int m_undos, .int m_images, .ref a_from, .ref a_begin, .ref a_motor, .ref a_change, .ref a_startFrame, .ref a_changeFrame, .ref a_lostAt, .ref a_blackAt, .ref a_slips, .ref a_leftArc, .ref a_died, .ref a_arcs, .int m_bestSum, .int m_nearest, .int m_nearestTown, .ref a_there, .ref a_backAt, .ref a_sorted, .ref a_parts, .int m_seed1, .int m_darkNow])), (a_letters, .inl (g.2.2.1, 8, .inl d_letters))] [] [0, 1] [] (m_isWord l g h0 sr_77 m_thrown a_tape m_taped m_size m_at m_end m_token m_whole m_nameSize m_fault m_place m_trouble a_letters m_failed m_hasHouse a_r a_fresh a_st a_undone a_kept m_undos m_images a_from a_begin a_motor a_change a_startFrame a_changeFrame a_lostAt a_blackAt a_slips a_leftArc a_died a_arcs m_bestSum m_nearest m_nearestTown a_there a_backAt a_sorted a_parts m_seed1 m_darkNow d_letters ("join") (iv_w hv_m_nameSize (by decide) (by decide)) (iv_w hv_m_failed (by decide) (by decide)) hsr_77 hc_0) dX11_mustName_39 mw509 mw510 mw511 mw5 mw512 rfl 11 rfl rfl 0 _ rfl (by unfold yOk; decide) rfl (Nat.le_of_ble_eq_true rfl) (Nat.le_of_ble_eq_true rfl) (Nat.le_of_ble_eq_true rfl) (Nat.le_of_ble_eq_true rfl) (Nat.le_of_ble_eq_true rfl) rfl rfl (by decide) rfl (by decide) (by decide) ?_
          rintro r_78 w ⟨iv_79, hk_80, rfl⟩
          refine k_ws [(h0, .inr (11, [.int m_thrown, .ref a_tape, .int m_taped, .int m_size, .int m_at, .int m_end, .int m_token, .int m_whole, .int m_nameSize, .int m_fault, .int m_place, .int m_trouble, .ref a_letters, .int m_failed, .int m_hasHouse, .ref a_r, .ref a_fresh, .ref a_st, .ref a_undone, .ref a_kept, .int m_undos, .int m_images, .ref a_from, .ref a_begin, .ref a_motor, .ref a_change, .ref a_startFrame, .ref a_changeFrame, .ref a_lostAt, .ref a_blackAt, .ref a_slips, .ref a_leftArc, .ref a_died, .ref a_arcs, .int m_bestSum, .int m_nearest, .int m_nearestTown, .ref a_there, .ref a_backAt, .ref a_sorted, .ref a_parts, .int m_seed1, .int m_darkNow])), (a_letters, .inl (g.2.2.1, 8, .inl d_letters))] rfl ?_
          refine k_if_ne 108 X dX11_mustName_42 (by decide) (fun h_81 => ?_) (fun h_81 => ?_)
          · skip
            have hc_82 := hk_80.resolve_left h_81
            have iv_83 : IV m_token 2 2 := iv_meet (iv_any m_token) hc_82.1 (by decide) (by decide)
            have hc_84 := hc_0 (iv_eq iv_83 (show IV 2 2 2 from (by decide)))
            have iv_85 : IV m_nameSize 0 8 := iv_meet hv_m_nameSize hc_84 (by decide) (by decide)
            have iv_86 : IV m_failed 0 0 := iv_meet hv_m_failed hc_82.2 (by decide) (by decide)
            have iv_87 : IV r_78 1 1 := iv_neL h_81 iv_79 (show IV 0 0 0 from (by decide)) (by decide)
            refine k_iconst (v := 1) X dX11_mustName_108 (by decide) ?_
            refine k_goto 113 X dX11_mustName_109 (by decide) ?_
            refine k_istore_n [(1, .int 1), (0, .ref h0)] X dX11_mustName_113 (by decide) rfl ?_
            refine k_aload_n X dX11_mustName_114 1 rfl ?_
            refine k_get (ci := 11) X inlX11 rfl 6 (by decide) dX11_mustName_115 mw472 0 rfl rfl ?_
            refine k_iconst (v := 2) X dX11_mustName_118 (by decide) ?_
            refine k_ic_ne 126 X dX11_mustName_119 (by decide) (fun h_88 => absurd (iv_eq iv_83 (show IV 2 2 2 from (by decide))) h_88) (fun h_88 => ?_)
            refine k_iload_n X dX11_mustName_122 0 rfl ?_
            refine k_if_eq 135 X dX11_mustName_123 (by decide) (fun h_89 => absurd h_89 (by decide)) (fun _ => ?_)
            refine k_aload_n X dX11_mustName_126 1 rfl ?_
            refine k_iconst (v := 1) X dX11_mustName_127 (by decide) ?_
            refine k_aload_n X dX11_mustName_128 1 rfl ?_
            refine k_get (ci := 11) X inlX11 rfl 4 (by decide) dX11_mustName_129 mw473 0 rfl rfl ?_
            refine k_callVV (n := 2) (As := [.int 1, .int m_at]) (st := []) X [(h0, .inr (11, [.int m_thrown, .ref a_tape, .int m_taped, .int m_size, .int m_at, .int m_end, .int m_token, .int m_whole, .int m_nameSize, .int m_fault, .int m_place, .int m_trouble, .ref a_letters, .int m_failed, .int m_hasHouse, .ref a_r, .ref a_fresh, .ref a_st, .ref a_undone, .ref a_kept, .int m_undos, .int m_images, .ref a_from, .ref a_begin, .ref a_motor, .ref a_change, .ref a_startFrame, .ref a_changeFrame, .ref a_lostAt, .ref a_blackAt, .ref a_slips, .ref a_leftArc, .ref a_died, .ref a_arcs, .int m_bestSum, .int m_nearest, .int m_nearestTown, .ref a_there, .ref a_backAt, .ref a_sorted, .ref a_parts, .int m_seed1, .int m_darkNow]))] [(a_letters, .inl (g.2.2.1, 8, .inl d_letters))] [0] [1] (m_bad l g h0 1 m_at m_thrown a_tape m_taped m_size m_at m_end m_token m_whole m_nameSize m_fault m_place m_trouble a_letters m_failed m_hasHouse a_r a_fresh a_st a_undone a_kept m_undos m_images a_from a_begin a_motor a_change a_startFrame a_changeFrame a_lostAt a_blackAt a_slips a_leftArc a_died a_arcs m_bestSum m_nearest m_nearestTown a_there a_backAt a_sorted a_parts m_seed1 m_darkNow (iv_w iv_86 (by decide) (by decide))) dX11_mustName_132 mw519 mw520 mw521 mw5 mw522 rfl 11 rfl rfl 0 _ rfl (by unfold yOk; decide) rfl (Nat.le_of_ble_eq_true rfl) (Nat.le_of_ble_eq_true rfl) (Nat.le_of_ble_eq_true rfl) (Nat.le_of_ble_eq_true rfl) (Nat.le_of_ble_eq_true rfl) rfl rfl (by decide) rfl (by decide) (by decide) ?_
            rintro w ⟨m_failed2_90, m_fault2_91, m_place2_92, iv_94, rfl⟩
            refine k_ws [(a_letters, .inl (g.2.2.1, 8, .inl d_letters)), (h0, .inr (11, [.int m_thrown, .ref a_tape, .int m_taped, .int m_size, .int m_at, .int m_end, .int m_token, .int m_whole, .int m_nameSize, .int m_fault2_91, .int m_place2_92, .int m_trouble, .ref a_letters, .int m_failed2_90, .int m_hasHouse, .ref a_r, .ref a_fresh, .ref a_st, .ref a_undone, .ref a_kept, .int m_undos, .int m_images, .ref a_from, .ref a_begin, .ref a_motor, .ref a_change, .ref a_startFrame, .ref a_changeFrame, .ref a_lostAt, .ref a_blackAt, .ref a_slips, .ref a_leftArc, .ref a_died, .ref a_arcs, .int m_bestSum, .int m_nearest, .int m_nearestTown, .ref a_there, .ref a_backAt, .ref a_sorted, .ref a_parts, .int m_seed1, .int m_darkNow]))] rfl ?_
            exact k_vret X hr dX11_mustName_135 (Nat.le_of_ble_eq_true rfl) (Nat.le_of_ble_eq_true rfl) [1, 0] (by decide) rfl rfl ⟨m_failed2_90, m_fault2_91, m_place2_92, (iv_w iv_94 (by decide) (by decide)), (Or.inl (iv_eq iv_94 (show IV 1 1 1 from (by decide)))), rfl⟩
          · skip
            have iv_95 : IV r_78 0 0 := iv_meet iv_79 (iv_e h_81 (show IV 0 0 0 from (by decide))) (by decide) (by decide)
            refine k_aload_n X dX11_mustName_45 0 rfl ?_
            refine k_ldcS (tx := "weak") X dX11_mustName_46 (by decide +kernel) (fun sr_96 hsr_96 => ?_)
            refine k_callVI (n := 1) (As := [.ref sr_96]) (st := []) X [(h0, .inr (11, [.int m_thrown, .ref a_tape, .int m_taped, .int m_size, .int m_at, .int m_end, .int m_token, .int m_whole, .int m_nameSize, .int m_fault, .int m_place, .int m_trouble, .ref a_letters, .int m_failed, .int m_hasHouse, .ref a_r, .ref a_fresh, .ref a_st, .ref a_undone, .ref a_kept, .int m_undos, .int m_images, .ref a_from, .ref a_begin, .ref a_motor, .ref a_change, .ref a_startFrame, .ref a_changeFrame, .ref a_lostAt, .ref a_blackAt, .ref a_slips, .ref a_leftArc, .ref a_died, .ref a_arcs, .int m_bestSum, .int m_nearest, .int m_nearestTown, .ref a_there, .ref a_backAt, .ref a_sorted, .ref a_parts, .int m_seed1, .int m_darkNow])), (a_letters, .inl (g.2.2.1, 8, .inl d_letters))] [] [0, 1] [] (m_isWord l g h0 sr_96 m_thrown a_tape m_taped m_size m_at m_end m_token m_whole m_nameSize m_fault m_place m_trouble a_letters m_failed m_hasHouse a_r a_fresh a_st a_undone a_kept m_undos m_images a_from a_begin a_motor a_change a_startFrame a_changeFrame a_lostAt a_blackAt a_slips a_leftArc a_died a_arcs m_bestSum m_nearest m_nearestTown a_there a_backAt a_sorted a_parts m_seed1 m_darkNow d_letters ("weak") (iv_w hv_m_nameSize (by decide) (by decide)) (iv_w hv_m_failed (by decide) (by decide)) hsr_96 hc_0) dX11_mustName_48 mw509 mw510 mw511 mw5 mw512 rfl 11 rfl rfl 0 _ rfl (by unfold yOk; decide) rfl (Nat.le_of_ble_eq_true rfl) (Nat.le_of_ble_eq_true rfl) (Nat.le_of_ble_eq_true rfl) (Nat.le_of_ble_eq_true rfl) (Nat.le_of_ble_eq_true rfl) rfl rfl (by decide) rfl (by decide) (by decide) ?_
            rintro r_97 w ⟨iv_98, hk_99, rfl⟩
            refine k_ws [(h0, .inr (11, [.int m_thrown, .ref a_tape, .int m_taped, .int m_size, .int m_at, .int m_end, .int m_token, .int m_whole, .int m_nameSize, .int m_fault, .int m_place, .int m_trouble, .ref a_letters, .int m_failed, .int m_hasHouse, .ref a_r, .ref a_fresh, .ref a_st, .ref a_undone, .ref a_kept, .int m_undos, .int m_images, .ref a_from, .ref a_begin, .ref a_motor, .ref a_change, .ref a_startFrame, .ref a_changeFrame, .ref a_lostAt, .ref a_blackAt, .ref a_slips, .ref a_leftArc, .ref a_died, .ref a_arcs, .int m_bestSum, .int m_nearest, .int m_nearestTown, .ref a_there, .ref a_backAt, .ref a_sorted, .ref a_parts, .int m_seed1, .int m_darkNow])), (a_letters, .inl (g.2.2.1, 8, .inl d_letters))] rfl ?_
            refine k_if_ne 108 X dX11_mustName_51 (by decide) (fun h_100 => ?_) (fun h_100 => ?_)
            · skip
              have hc_101 := hk_99.resolve_left h_100
              have iv_102 : IV m_token 2 2 := iv_meet (iv_any m_token) hc_101.1 (by decide) (by decide)
              have hc_103 := hc_0 (iv_eq iv_102 (show IV 2 2 2 from (by decide)))
              have iv_104 : IV m_nameSize 0 8 := iv_meet hv_m_nameSize hc_103 (by decide) (by decide)
              have iv_105 : IV m_failed 0 0 := iv_meet hv_m_failed hc_101.2 (by decide) (by decide)
              have iv_106 : IV r_97 1 1 := iv_neL h_100 iv_98 (show IV 0 0 0 from (by decide)) (by decide)
              refine k_iconst (v := 1) X dX11_mustName_108 (by decide) ?_
              refine k_goto 113 X dX11_mustName_109 (by decide) ?_
              refine k_istore_n [(1, .int 1), (0, .ref h0)] X dX11_mustName_113 (by decide) rfl ?_
              refine k_aload_n X dX11_mustName_114 1 rfl ?_
              refine k_get (ci := 11) X inlX11 rfl 6 (by decide) dX11_mustName_115 mw472 0 rfl rfl ?_
              refine k_iconst (v := 2) X dX11_mustName_118 (by decide) ?_
              refine k_ic_ne 126 X dX11_mustName_119 (by decide) (fun h_107 => absurd (iv_eq iv_102 (show IV 2 2 2 from (by decide))) h_107) (fun h_107 => ?_)
              refine k_iload_n X dX11_mustName_122 0 rfl ?_
              refine k_if_eq 135 X dX11_mustName_123 (by decide) (fun h_108 => absurd h_108 (by decide)) (fun _ => ?_)
              refine k_aload_n X dX11_mustName_126 1 rfl ?_
              refine k_iconst (v := 1) X dX11_mustName_127 (by decide) ?_
              refine k_aload_n X dX11_mustName_128 1 rfl ?_
              refine k_get (ci := 11) X inlX11 rfl 4 (by decide) dX11_mustName_129 mw473 0 rfl rfl ?_
              refine k_callVV (n := 2) (As := [.int 1, .int m_at]) (st := []) X [(h0, .inr (11, [.int m_thrown, .ref a_tape, .int m_taped, .int m_size, .int m_at, .int m_end, .int m_token, .int m_whole, .int m_nameSize, .int m_fault, .int m_place, .int m_trouble, .ref a_letters, .int m_failed, .int m_hasHouse, .ref a_r, .ref a_fresh, .ref a_st, .ref a_undone, .ref a_kept, .int m_undos, .int m_images, .ref a_from, .ref a_begin, .ref a_motor, .ref a_change, .ref a_startFrame, .ref a_changeFrame, .ref a_lostAt, .ref a_blackAt, .ref a_slips, .ref a_leftArc, .ref a_died, .ref a_arcs, .int m_bestSum, .int m_nearest, .int m_nearestTown, .ref a_there, .ref a_backAt, .ref a_sorted, .ref a_parts, .int m_seed1, .int m_darkNow]))] [(a_letters, .inl (g.2.2.1, 8, .inl d_letters))] [0] [1] (m_bad l g h0 1 m_at m_thrown a_tape m_taped m_size m_at m_end m_token m_whole m_nameSize m_fault m_place m_trouble a_letters m_failed m_hasHouse a_r a_fresh a_st a_undone a_kept m_undos m_images a_from a_begin a_motor a_change a_startFrame a_changeFrame a_lostAt a_blackAt a_slips a_leftArc a_died a_arcs m_bestSum m_nearest m_nearestTown a_there a_backAt a_sorted a_parts m_seed1 m_darkNow (iv_w iv_105 (by decide) (by decide))) dX11_mustName_132 mw519 mw520 mw521 mw5 mw522 rfl 11 rfl rfl 0 _ rfl (by unfold yOk; decide) rfl (Nat.le_of_ble_eq_true rfl) (Nat.le_of_ble_eq_true rfl) (Nat.le_of_ble_eq_true rfl) (Nat.le_of_ble_eq_true rfl) (Nat.le_of_ble_eq_true rfl) rfl rfl (by decide) rfl (by decide) (by decide) ?_
              rintro w ⟨m_failed2_109, m_fault2_110, m_place2_111, iv_113, rfl⟩
              refine k_ws [(a_letters, .inl (g.2.2.1, 8, .inl d_letters)), (h0, .inr (11, [.int m_thrown, .ref a_tape, .int m_taped, .int m_size, .int m_at, .int m_end, .int m_token, .int m_whole, .int m_nameSize, .int m_fault2_110, .int m_place2_111, .int m_trouble, .ref a_letters, .int m_failed2_109, .int m_hasHouse, .ref a_r, .ref a_fresh, .ref a_st, .ref a_undone, .ref a_kept, .int m_undos, .int m_images, .ref a_from, .ref a_begin, .ref a_motor, .ref a_change, .ref a_startFrame, .ref a_changeFrame, .ref a_lostAt, .ref a_blackAt, .ref a_slips, .ref a_leftArc, .ref a_died, .ref a_arcs, .int m_bestSum, .int m_nearest, .int m_nearestTown, .ref a_there, .ref a_backAt, .ref a_sorted, .ref a_parts, .int m_seed1, .int m_darkNow]))] rfl ?_
              exact k_vret X hr dX11_mustName_135 (Nat.le_of_ble_eq_true rfl) (Nat.le_of_ble_eq_true rfl) [1, 0] (by decide) rfl rfl ⟨m_failed2_109, m_fault2_110, m_place2_111, (iv_w iv_113 (by decide) (by decide)), (Or.inl (iv_eq iv_113 (show IV 1 1 1 from (by decide)))), rfl⟩
            · skip
              have iv_114 : IV r_97 0 0 := iv_meet iv_98 (iv_e h_100 (show IV 0 0 0 from (by decide))) (by decide) (by decide)
              refine k_aload_n X dX11_mustName_54 0 rfl ?_
              refine k_ldcS (tx := "man") X dX11_mustName_55 (by decide +kernel) (fun sr_115 hsr_115 => ?_)
              refine k_callVI (n := 1) (As := [.ref sr_115]) (st := []) X [(h0, .inr (11, [.int m_thrown, .ref a_tape, .int m_taped, .int m_size, .int m_at, .int m_end, .int m_token, .int m_whole, .int m_nameSize, .int m_fault, .int m_place, .int m_trouble, .ref a_letters, .int m_failed, .int m_hasHouse, .ref a_r, .ref a_fresh, .ref a_st, .ref a_undone, .ref a_kept, .int m_undos, .int m_images, .ref a_from, .ref a_begin, .ref a_motor, .ref a_change, .ref a_startFrame, .ref a_changeFrame, .ref a_lostAt, .ref a_blackAt, .ref a_slips, .ref a_leftArc, .ref a_died, .ref a_arcs, .int m_bestSum, .int m_nearest, .int m_nearestTown, .ref a_there, .ref a_backAt, .ref a_sorted, .ref a_parts, .int m_seed1, .int m_darkNow])), (a_letters, .inl (g.2.2.1, 8, .inl d_letters))] [] [0, 1] [] (m_isWord l g h0 sr_115 m_thrown a_tape m_taped m_size m_at m_end m_token m_whole m_nameSize m_fault m_place m_trouble a_letters m_failed m_hasHouse a_r a_fresh a_st a_undone a_kept m_undos m_images a_from a_begin a_motor a_change a_startFrame a_changeFrame a_lostAt a_blackAt a_slips a_leftArc a_died a_arcs m_bestSum m_nearest m_nearestTown a_there a_backAt a_sorted a_parts m_seed1 m_darkNow d_letters ("man") (iv_w hv_m_nameSize (by decide) (by decide)) (iv_w hv_m_failed (by decide) (by decide)) hsr_115 hc_0) dX11_mustName_57 mw509 mw510 mw511 mw5 mw512 rfl 11 rfl rfl 0 _ rfl (by unfold yOk; decide) rfl (Nat.le_of_ble_eq_true rfl) (Nat.le_of_ble_eq_true rfl) (Nat.le_of_ble_eq_true rfl) (Nat.le_of_ble_eq_true rfl) (Nat.le_of_ble_eq_true rfl) rfl rfl (by decide) rfl (by decide) (by decide) ?_
              rintro r_116 w ⟨iv_117, hk_118, rfl⟩
              refine k_ws [(h0, .inr (11, [.int m_thrown, .ref a_tape, .int m_taped, .int m_size, .int m_at, .int m_end, .int m_token, .int m_whole, .int m_nameSize, .int m_fault, .int m_place, .int m_trouble, .ref a_letters, .int m_failed, .int m_hasHouse, .ref a_r, .ref a_fresh, .ref a_st, .ref a_undone, .ref a_kept, .int m_undos, .int m_images, .ref a_from, .ref a_begin, .ref a_motor, .ref a_change, .ref a_startFrame, .ref a_changeFrame, .ref a_lostAt, .ref a_blackAt, .ref a_slips, .ref a_leftArc, .ref a_died, .ref a_arcs, .int m_bestSum, .int m_nearest, .int m_nearestTown, .ref a_there, .ref a_backAt, .ref a_sorted, .ref a_parts, .int m_seed1, .int m_darkNow])), (a_letters, .inl (g.2.2.1, 8, .inl d_letters))] rfl ?_
              refine k_if_ne 108 X dX11_mustName_60 (by decide) (fun h_119 => ?_) (fun h_119 => ?_)
              · skip
                have hc_120 := hk_118.resolve_left h_119
                have iv_121 : IV m_token 2 2 := iv_meet (iv_any m_token) hc_120.1 (by decide) (by decide)
                have hc_122 := hc_0 (iv_eq iv_121 (show IV 2 2 2 from (by decide)))
                have iv_123 : IV m_nameSize 0 8 := iv_meet hv_m_nameSize hc_122 (by decide) (by decide)
                have iv_124 : IV m_failed 0 0 := iv_meet hv_m_failed hc_120.2 (by decide) (by decide)
                have iv_125 : IV r_116 1 1 := iv_neL h_119 iv_117 (show IV 0 0 0 from (by decide)) (by decide)
                refine k_iconst (v := 1) X dX11_mustName_108 (by decide) ?_
                refine k_goto 113 X dX11_mustName_109 (by decide) ?_
                refine k_istore_n [(1, .int 1), (0, .ref h0)] X dX11_mustName_113 (by decide) rfl ?_
                refine k_aload_n X dX11_mustName_114 1 rfl ?_
                refine k_get (ci := 11) X inlX11 rfl 6 (by decide) dX11_mustName_115 mw472 0 rfl rfl ?_
                refine k_iconst (v := 2) X dX11_mustName_118 (by decide) ?_
                refine k_ic_ne 126 X dX11_mustName_119 (by decide) (fun h_126 => absurd (iv_eq iv_121 (show IV 2 2 2 from (by decide))) h_126) (fun h_126 => ?_)
                refine k_iload_n X dX11_mustName_122 0 rfl ?_
                refine k_if_eq 135 X dX11_mustName_123 (by decide) (fun h_127 => absurd h_127 (by decide)) (fun _ => ?_)
                refine k_aload_n X dX11_mustName_126 1 rfl ?_
                refine k_iconst (v := 1) X dX11_mustName_127 (by decide) ?_
                refine k_aload_n X dX11_mustName_128 1 rfl ?_
                refine k_get (ci := 11) X inlX11 rfl 4 (by decide) dX11_mustName_129 mw473 0 rfl rfl ?_
                refine k_callVV (n := 2) (As := [.int 1, .int m_at]) (st := []) X [(h0, .inr (11, [.int m_thrown, .ref a_tape, .int m_taped, .int m_size, .int m_at, .int m_end, .int m_token, .int m_whole, .int m_nameSize, .int m_fault, .int m_place, .int m_trouble, .ref a_letters, .int m_failed, .int m_hasHouse, .ref a_r, .ref a_fresh, .ref a_st, .ref a_undone, .ref a_kept, .int m_undos, .int m_images, .ref a_from, .ref a_begin, .ref a_motor, .ref a_change, .ref a_startFrame, .ref a_changeFrame, .ref a_lostAt, .ref a_blackAt, .ref a_slips, .ref a_leftArc, .ref a_died, .ref a_arcs, .int m_bestSum, .int m_nearest, .int m_nearestTown, .ref a_there, .ref a_backAt, .ref a_sorted, .ref a_parts, .int m_seed1, .int m_darkNow]))] [(a_letters, .inl (g.2.2.1, 8, .inl d_letters))] [0] [1] (m_bad l g h0 1 m_at m_thrown a_tape m_taped m_size m_at m_end m_token m_whole m_nameSize m_fault m_place m_trouble a_letters m_failed m_hasHouse a_r a_fresh a_st a_undone a_kept m_undos m_images a_from a_begin a_motor a_change a_startFrame a_changeFrame a_lostAt a_blackAt a_slips a_leftArc a_died a_arcs m_bestSum m_nearest m_nearestTown a_there a_backAt a_sorted a_parts m_seed1 m_darkNow (iv_w iv_124 (by decide) (by decide))) dX11_mustName_132 mw519 mw520 mw521 mw5 mw522 rfl 11 rfl rfl 0 _ rfl (by unfold yOk; decide) rfl (Nat.le_of_ble_eq_true rfl) (Nat.le_of_ble_eq_true rfl) (Nat.le_of_ble_eq_true rfl) (Nat.le_of_ble_eq_true rfl) (Nat.le_of_ble_eq_true rfl) rfl rfl (by decide) rfl (by decide) (by decide) ?_
                rintro w ⟨m_failed2_128, m_fault2_129, m_place2_130, iv_132, rfl⟩
                refine k_ws [(a_letters, .inl (g.2.2.1, 8, .inl d_letters)), (h0, .inr (11, [.int m_thrown, .ref a_tape, .int m_taped, .int m_size, .int m_at, .int m_end, .int m_token, .int m_whole, .int m_nameSize, .int m_fault2_129, .int m_place2_130, .int m_trouble, .ref a_letters, .int m_failed2_128, .int m_hasHouse, .ref a_r, .ref a_fresh, .ref a_st, .ref a_undone, .ref a_kept, .int m_undos, .int m_images, .ref a_from, .ref a_begin, .ref a_motor, .ref a_change, .ref a_startFrame, .ref a_changeFrame, .ref a_lostAt, .ref a_blackAt, .ref a_slips, .ref a_leftArc, .ref a_died, .ref a_arcs, .int m_bestSum, .int m_nearest, .int m_nearestTown, .ref a_there, .ref a_backAt, .ref a_sorted, .ref a_parts, .int m_seed1, .int m_darkNow]))] rfl ?_
                exact k_vret X hr dX11_mustName_135 (Nat.le_of_ble_eq_true rfl) (Nat.le_of_ble_eq_true rfl) [1, 0] (by decide) rfl rfl ⟨m_failed2_128, m_fault2_129, m_place2_130, (iv_w iv_132 (by decide) (by decide)), (Or.inl (iv_eq iv_132 (show IV 1 1 1 from (by decide)))), rfl⟩
              · skip
                have iv_133 : IV r_116 0 0 := iv_meet iv_117 (iv_e h_119 (show IV 0 0 0 from (by decide))) (by decide) (by decide)
                refine k_aload_n X dX11_mustName_63 0 rfl ?_
                refine k_ldcS (tx := "shows") X dX11_mustName_64 (by decide +kernel) (fun sr_134 hsr_134 => ?_)
                refine k_callVI (n := 1) (As := [.ref sr_134]) (st := []) X [(h0, .inr (11, [.int m_thrown, .ref a_tape, .int m_taped, .int m_size, .int m_at, .int m_end, .int m_token, .int m_whole, .int m_nameSize, .int m_fault, .int m_place, .int m_trouble, .ref a_letters, .int m_failed, .int m_hasHouse, .ref a_r, .ref a_fresh, .ref a_st, .ref a_undone, .ref a_kept, .int m_undos, .int m_images, .ref a_from, .ref a_begin, .ref a_motor, .ref a_change, .ref a_startFrame, .ref a_changeFrame, .ref a_lostAt, .ref a_blackAt, .ref a_slips, .ref a_leftArc, .ref a_died, .ref a_arcs, .int m_bestSum, .int m_nearest, .int m_nearestTown, .ref a_there, .ref a_backAt, .ref a_sorted, .ref a_parts, .int m_seed1, .int m_darkNow])), (a_letters, .inl (g.2.2.1, 8, .inl d_letters))] [] [0, 1] [] (m_isWord l g h0 sr_134 m_thrown a_tape m_taped m_size m_at m_end m_token m_whole m_nameSize m_fault m_place m_trouble a_letters m_failed m_hasHouse a_r a_fresh a_st a_undone a_kept m_undos m_images a_from a_begin a_motor a_change a_startFrame a_changeFrame a_lostAt a_blackAt a_slips a_leftArc a_died a_arcs m_bestSum m_nearest m_nearestTown a_there a_backAt a_sorted a_parts m_seed1 m_darkNow d_letters ("shows") (iv_w hv_m_nameSize (by decide) (by decide)) (iv_w hv_m_failed (by decide) (by decide)) hsr_134 hc_0) dX11_mustName_66 mw509 mw510 mw511 mw5 mw512 rfl 11 rfl rfl 0 _ rfl (by unfold yOk; decide) rfl (Nat.le_of_ble_eq_true rfl) (Nat.le_of_ble_eq_true rfl) (Nat.le_of_ble_eq_true rfl) (Nat.le_of_ble_eq_true rfl) (Nat.le_of_ble_eq_true rfl) rfl rfl (by decide) rfl (by decide) (by decide) ?_
                rintro r_135 w ⟨iv_136, hk_137, rfl⟩
                refine k_ws [(h0, .inr (11, [.int m_thrown, .ref a_tape, .int m_taped, .int m_size, .int m_at, .int m_end, .int m_token, .int m_whole, .int m_nameSize, .int m_fault, .int m_place, .int m_trouble, .ref a_letters, .int m_failed, .int m_hasHouse, .ref a_r, .ref a_fresh, .ref a_st, .ref a_undone, .ref a_kept, .int m_undos, .int m_images, .ref a_from, .ref a_begin, .ref a_motor, .ref a_change, .ref a_startFrame, .ref a_changeFrame, .ref a_lostAt, .ref a_blackAt, .ref a_slips, .ref a_leftArc, .ref a_died, .ref a_arcs, .int m_bestSum, .int m_nearest, .int m_nearestTown, .ref a_there, .ref a_backAt, .ref a_sorted, .ref a_parts, .int m_seed1, .int m_darkNow])), (a_letters, .inl (g.2.2.1, 8, .inl d_letters))] rfl ?_
                refine k_if_ne 108 X dX11_mustName_69 (by decide) (fun h_138 => ?_) (fun h_138 => ?_)
                · skip
                  have hc_139 := hk_137.resolve_left h_138
                  have iv_140 : IV m_token 2 2 := iv_meet (iv_any m_token) hc_139.1 (by decide) (by decide)
                  have hc_141 := hc_0 (iv_eq iv_140 (show IV 2 2 2 from (by decide)))
                  have iv_142 : IV m_nameSize 0 8 := iv_meet hv_m_nameSize hc_141 (by decide) (by decide)
                  have iv_143 : IV m_failed 0 0 := iv_meet hv_m_failed hc_139.2 (by decide) (by decide)
                  have iv_144 : IV r_135 1 1 := iv_neL h_138 iv_136 (show IV 0 0 0 from (by decide)) (by decide)
                  refine k_iconst (v := 1) X dX11_mustName_108 (by decide) ?_
                  refine k_goto 113 X dX11_mustName_109 (by decide) ?_
                  refine k_istore_n [(1, .int 1), (0, .ref h0)] X dX11_mustName_113 (by decide) rfl ?_
                  refine k_aload_n X dX11_mustName_114 1 rfl ?_
                  refine k_get (ci := 11) X inlX11 rfl 6 (by decide) dX11_mustName_115 mw472 0 rfl rfl ?_
                  refine k_iconst (v := 2) X dX11_mustName_118 (by decide) ?_
                  refine k_ic_ne 126 X dX11_mustName_119 (by decide) (fun h_145 => absurd (iv_eq iv_140 (show IV 2 2 2 from (by decide))) h_145) (fun h_145 => ?_)
                  refine k_iload_n X dX11_mustName_122 0 rfl ?_
                  refine k_if_eq 135 X dX11_mustName_123 (by decide) (fun h_146 => absurd h_146 (by decide)) (fun _ => ?_)
                  refine k_aload_n X dX11_mustName_126 1 rfl ?_
                  refine k_iconst (v := 1) X dX11_mustName_127 (by decide) ?_
                  refine k_aload_n X dX11_mustName_128 1 rfl ?_
                  refine k_get (ci := 11) X inlX11 rfl 4 (by decide) dX11_mustName_129 mw473 0 rfl rfl ?_
                  refine k_callVV (n := 2) (As := [.int 1, .int m_at]) (st := []) X [(h0, .inr (11, [.int m_thrown, .ref a_tape, .int m_taped, .int m_size, .int m_at, .int m_end, .int m_token, .int m_whole, .int m_nameSize, .int m_fault, .int m_place, .int m_trouble, .ref a_letters, .int m_failed, .int m_hasHouse, .ref a_r, .ref a_fresh, .ref a_st, .ref a_undone, .ref a_kept, .int m_undos, .int m_images, .ref a_from, .ref a_begin, .ref a_motor, .ref a_change, .ref a_startFrame, .ref a_changeFrame, .ref a_lostAt, .ref a_blackAt, .ref a_slips, .ref a_leftArc, .ref a_died, .ref a_arcs, .int m_bestSum, .int m_nearest, .int m_nearestTown, .ref a_there, .ref a_backAt, .ref a_sorted, .ref a_parts, .int m_seed1, .int m_darkNow]))] [(a_letters, .inl (g.2.2.1, 8, .inl d_letters))] [0] [1] (m_bad l g h0 1 m_at m_thrown a_tape m_taped m_size m_at m_end m_token m_whole m_nameSize m_fault m_place m_trouble a_letters m_failed m_hasHouse a_r a_fresh a_st a_undone a_kept m_undos m_images a_from a_begin a_motor a_change a_startFrame a_changeFrame a_lostAt a_blackAt a_slips a_leftArc a_died a_arcs m_bestSum m_nearest m_nearestTown a_there a_backAt a_sorted a_parts m_seed1 m_darkNow (iv_w iv_143 (by decide) (by decide))) dX11_mustName_132 mw519 mw520 mw521 mw5 mw522 rfl 11 rfl rfl 0 _ rfl (by unfold yOk; decide) rfl (Nat.le_of_ble_eq_true rfl) (Nat.le_of_ble_eq_true rfl) (Nat.le_of_ble_eq_true rfl) (Nat.le_of_ble_eq_true rfl) (Nat.le_of_ble_eq_true rfl) rfl rfl (by decide) rfl (by decide) (by decide) ?_
                  rintro w ⟨m_failed2_147, m_fault2_148, m_place2_149, iv_151, rfl⟩
                  refine k_ws [(a_letters, .inl (g.2.2.1, 8, .inl d_letters)), (h0, .inr (11, [.int m_thrown, .ref a_tape, .int m_taped, .int m_size, .int m_at, .int m_end, .int m_token, .int m_whole, .int m_nameSize, .int m_fault2_148, .int m_place2_149, .int m_trouble, .ref a_letters, .int m_failed2_147, .int m_hasHouse, .ref a_r, .ref a_fresh, .ref a_st, .ref a_undone, .ref a_kept, .int m_undos, .int m_images, .ref a_from, .ref a_begin, .ref a_motor, .ref a_change, .ref a_startFrame, .ref a_changeFrame, .ref a_lostAt, .ref a_blackAt, .ref a_slips, .ref a_leftArc, .ref a_died, .ref a_arcs, .int m_bestSum, .int m_nearest, .int m_nearestTown, .ref a_there, .ref a_backAt, .ref a_sorted, .ref a_parts, .int m_seed1, .int m_darkNow]))] rfl ?_
                  exact k_vret X hr dX11_mustName_135 (Nat.le_of_ble_eq_true rfl) (Nat.le_of_ble_eq_true rfl) [1, 0] (by decide) rfl rfl ⟨m_failed2_147, m_fault2_148, m_place2_149, (iv_w iv_151 (by decide) (by decide)), (Or.inl (iv_eq iv_151 (show IV 1 1 1 from (by decide)))), rfl⟩
                · skip
                  have iv_152 : IV r_135 0 0 := iv_meet iv_136 (iv_e h_138 (show IV 0 0 0 from (by decide))) (by decide) (by decide)
                  refine k_aload_n X dX11_mustName_72 0 rfl ?_
                  refine k_ldcS (tx := "boys") X dX11_mustName_73 (by decide +kernel) (fun sr_153 hsr_153 => ?_)
                  refine k_callVI (n := 1) (As := [.ref sr_153]) (st := []) X [(h0, .inr (11, [.int m_thrown, .ref a_tape, .int m_taped, .int m_size, .int m_at, .int m_end, .int m_token, .int m_whole, .int m_nameSize, .int m_fault, .int m_place, .int m_trouble, .ref a_letters, .int m_failed, .int m_hasHouse, .ref a_r, .ref a_fresh, .ref a_st, .ref a_undone, .ref a_kept, .int m_undos, .int m_images, .ref a_from, .ref a_begin, .ref a_motor, .ref a_change, .ref a_startFrame, .ref a_changeFrame, .ref a_lostAt, .ref a_blackAt, .ref a_slips, .ref a_leftArc, .ref a_died, .ref a_arcs, .int m_bestSum, .int m_nearest, .int m_nearestTown, .ref a_there, .ref a_backAt, .ref a_sorted, .ref a_parts, .int m_seed1, .int m_darkNow])), (a_letters, .inl (g.2.2.1, 8, .inl d_letters))] [] [0, 1] [] (m_isWord l g h0 sr_153 m_thrown a_tape m_taped m_size m_at m_end m_token m_whole m_nameSize m_fault m_place m_trouble a_letters m_failed m_hasHouse a_r a_fresh a_st a_undone a_kept m_undos m_images a_from a_begin a_motor a_change a_startFrame a_changeFrame a_lostAt a_blackAt a_slips a_leftArc a_died a_arcs m_bestSum m_nearest m_nearestTown a_there a_backAt a_sorted a_parts m_seed1 m_darkNow d_letters ("boys") (iv_w hv_m_nameSize (by decide) (by decide)) (iv_w hv_m_failed (by decide) (by decide)) hsr_153 hc_0) dX11_mustName_75 mw509 mw510 mw511 mw5 mw512 rfl 11 rfl rfl 0 _ rfl (by unfold yOk; decide) rfl (Nat.le_of_ble_eq_true rfl) (Nat.le_of_ble_eq_true rfl) (Nat.le_of_ble_eq_true rfl) (Nat.le_of_ble_eq_true rfl) (Nat.le_of_ble_eq_true rfl) rfl rfl (by decide) rfl (by decide) (by decide) ?_
                  rintro r_154 w ⟨iv_155, hk_156, rfl⟩
                  refine k_ws [(h0, .inr (11, [.int m_thrown, .ref a_tape, .int m_taped, .int m_size, .int m_at, .int m_end, .int m_token, .int m_whole, .int m_nameSize, .int m_fault, .int m_place, .int m_trouble, .ref a_letters, .int m_failed, .int m_hasHouse, .ref a_r, .ref a_fresh, .ref a_st, .ref a_undone, .ref a_kept, .int m_undos, .int m_images, .ref a_from, .ref a_begin, .ref a_motor, .ref a_change, .ref a_startFrame, .ref a_changeFrame, .ref a_lostAt, .ref a_blackAt, .ref a_slips, .ref a_leftArc, .ref a_died, .ref a_arcs, .int m_bestSum, .int m_nearest, .int m_nearestTown, .ref a_there, .ref a_backAt, .ref a_sorted, .ref a_parts, .int m_seed1, .int m_darkNow])), (a_letters, .inl (g.2.2.1, 8, .inl d_letters))] rfl ?_
                  refine k_if_ne 108 X dX11_mustName_78 (by decide) (fun h_157 => ?_) (fun h_157 => ?_)
                  · skip
                    have hc_158 := hk_156.resolve_left h_157
                    have iv_159 : IV m_token 2 2 := iv_meet (iv_any m_token) hc_158.1 (by decide) (by decide)
                    have hc_160 := hc_0 (iv_eq iv_159 (show IV 2 2 2 from (by decide)))
                    have iv_161 : IV m_nameSize 0 8 := iv_meet hv_m_nameSize hc_160 (by decide) (by decide)
                    have iv_162 : IV m_failed 0 0 := iv_meet hv_m_failed hc_158.2 (by decide) (by decide)
                    have iv_163 : IV r_154 1 1 := iv_neL h_157 iv_155 (show IV 0 0 0 from (by decide)) (by decide)
                    refine k_iconst (v := 1) X dX11_mustName_108 (by decide) ?_
                    refine k_goto 113 X dX11_mustName_109 (by decide) ?_
                    refine k_istore_n [(1, .int 1), (0, .ref h0)] X dX11_mustName_113 (by decide) rfl ?_
                    refine k_aload_n X dX11_mustName_114 1 rfl ?_
                    refine k_get (ci := 11) X inlX11 rfl 6 (by decide) dX11_mustName_115 mw472 0 rfl rfl ?_
                    refine k_iconst (v := 2) X dX11_mustName_118 (by decide) ?_
                    refine k_ic_ne 126 X dX11_mustName_119 (by decide) (fun h_164 => absurd (iv_eq iv_159 (show IV 2 2 2 from (by decide))) h_164) (fun h_164 => ?_)
                    refine k_iload_n X dX11_mustName_122 0 rfl ?_
                    refine k_if_eq 135 X dX11_mustName_123 (by decide) (fun h_165 => absurd h_165 (by decide)) (fun _ => ?_)
                    refine k_aload_n X dX11_mustName_126 1 rfl ?_
                    refine k_iconst (v := 1) X dX11_mustName_127 (by decide) ?_
                    refine k_aload_n X dX11_mustName_128 1 rfl ?_
                    refine k_get (ci := 11) X inlX11 rfl 4 (by decide) dX11_mustName_129 mw473 0 rfl rfl ?_
                    refine k_callVV (n := 2) (As := [.int 1, .int m_at]) (st := []) X [(h0, .inr (11, [.int m_thrown, .ref a_tape, .int m_taped, .int m_size, .int m_at, .int m_end, .int m_token, .int m_whole, .int m_nameSize, .int m_fault, .int m_place, .int m_trouble, .ref a_letters, .int m_failed, .int m_hasHouse, .ref a_r, .ref a_fresh, .ref a_st, .ref a_undone, .ref a_kept, .int m_undos, .int m_images, .ref a_from, .ref a_begin, .ref a_motor, .ref a_change, .ref a_startFrame, .ref a_changeFrame, .ref a_lostAt, .ref a_blackAt, .ref a_slips, .ref a_leftArc, .ref a_died, .ref a_arcs, .int m_bestSum, .int m_nearest, .int m_nearestTown, .ref a_there, .ref a_backAt, .ref a_sorted, .ref a_parts, .int m_seed1, .int m_darkNow]))] [(a_letters, .inl (g.2.2.1, 8, .inl d_letters))] [0] [1] (m_bad l g h0 1 m_at m_thrown a_tape m_taped m_size m_at m_end m_token m_whole m_nameSize m_fault m_place m_trouble a_letters m_failed m_hasHouse a_r a_fresh a_st a_undone a_kept m_undos m_images a_from a_begin a_motor a_change a_startFrame a_changeFrame a_lostAt a_blackAt a_slips a_leftArc a_died a_arcs m_bestSum m_nearest m_nearestTown a_there a_backAt a_sorted a_parts m_seed1 m_darkNow (iv_w iv_162 (by decide) (by decide))) dX11_mustName_132 mw519 mw520 mw521 mw5 mw522 rfl 11 rfl rfl 0 _ rfl (by unfold yOk; decide) rfl (Nat.le_of_ble_eq_true rfl) (Nat.le_of_ble_eq_true rfl) (Nat.le_of_ble_eq_true rfl) (Nat.le_of_ble_eq_true rfl) (Nat.le_of_ble_eq_true rfl) rfl rfl (by decide) rfl (by decide) (by decide) ?_
                    rintro w ⟨m_failed2_166, m_fault2_167, m_place2_168, iv_170, rfl⟩
                    refine k_ws [(a_letters, .inl (g.2.2.1, 8, .inl d_letters)), (h0, .inr (11, [.int m_thrown, .ref a_tape, .int m_taped, .int m_size, .int m_at, .int m_end, .int m_token, .int m_whole, .int m_nameSize, .int m_fault2_167, .int m_place2_168, .int m_trouble, .ref a_letters, .int m_failed2_166, .int m_hasHouse, .ref a_r, .ref a_fresh, .ref a_st, .ref a_undone, .ref a_kept, .int m_undos, .int m_images, .ref a_from, .ref a_begin, .ref a_motor, .ref a_change, .ref a_startFrame, .ref a_changeFrame, .ref a_lostAt, .ref a_blackAt, .ref a_slips, .ref a_leftArc, .ref a_died, .ref a_arcs, .int m_bestSum, .int m_nearest, .int m_nearestTown, .ref a_there, .ref a_backAt, .ref a_sorted, .ref a_parts, .int m_seed1, .int m_darkNow]))] rfl ?_
                    exact k_vret X hr dX11_mustName_135 (Nat.le_of_ble_eq_true rfl) (Nat.le_of_ble_eq_true rfl) [1, 0] (by decide) rfl rfl ⟨m_failed2_166, m_fault2_167, m_place2_168, (iv_w iv_170 (by decide) (by decide)), (Or.inl (iv_eq iv_170 (show IV 1 1 1 from (by decide)))), rfl⟩
                  · skip
                    have iv_171 : IV r_154 0 0 := iv_meet iv_155 (iv_e h_157 (show IV 0 0 0 from (by decide))) (by decide) (by decide)
                    refine k_aload_n X dX11_mustName_81 0 rfl ?_
                    refine k_ldcS (tx := "by") X dX11_mustName_82 (by decide +kernel) (fun sr_172 hsr_172 => ?_)
                    refine k_callVI (n := 1) (As := [.ref sr_172]) (st := []) X [(h0, .inr (11, [.int m_thrown, .ref a_tape, .int m_taped, .int m_size, .int m_at, .int m_end, .int m_token, .int m_whole, .int m_nameSize, .int m_fault, .int m_place, .int m_trouble, .ref a_letters, .int m_failed, .int m_hasHouse, .ref a_r, .ref a_fresh, .ref a_st, .ref a_undone, .ref a_kept, .int m_undos, .int m_images, .ref a_from, .ref a_begin, .ref a_motor, .ref a_change, .ref a_startFrame, .ref a_changeFrame, .ref a_lostAt, .ref a_blackAt, .ref a_slips, .ref a_leftArc, .ref a_died, .ref a_arcs, .int m_bestSum, .int m_nearest, .int m_nearestTown, .ref a_there, .ref a_backAt, .ref a_sorted, .ref a_parts, .int m_seed1, .int m_darkNow])), (a_letters, .inl (g.2.2.1, 8, .inl d_letters))] [] [0, 1] [] (m_isWord l g h0 sr_172 m_thrown a_tape m_taped m_size m_at m_end m_token m_whole m_nameSize m_fault m_place m_trouble a_letters m_failed m_hasHouse a_r a_fresh a_st a_undone a_kept m_undos m_images a_from a_begin a_motor a_change a_startFrame a_changeFrame a_lostAt a_blackAt a_slips a_leftArc a_died a_arcs m_bestSum m_nearest m_nearestTown a_there a_backAt a_sorted a_parts m_seed1 m_darkNow d_letters ("by") (iv_w hv_m_nameSize (by decide) (by decide)) (iv_w hv_m_failed (by decide) (by decide)) hsr_172 hc_0) dX11_mustName_84 mw509 mw510 mw511 mw5 mw512 rfl 11 rfl rfl 0 _ rfl (by unfold yOk; decide) rfl (Nat.le_of_ble_eq_true rfl) (Nat.le_of_ble_eq_true rfl) (Nat.le_of_ble_eq_true rfl) (Nat.le_of_ble_eq_true rfl) (Nat.le_of_ble_eq_true rfl) rfl rfl (by decide) rfl (by decide) (by decide) ?_
                    rintro r_173 w ⟨iv_174, hk_175, rfl⟩
                    refine k_ws [(h0, .inr (11, [.int m_thrown, .ref a_tape, .int m_taped, .int m_size, .int m_at, .int m_end, .int m_token, .int m_whole, .int m_nameSize, .int m_fault, .int m_place, .int m_trouble, .ref a_letters, .int m_failed, .int m_hasHouse, .ref a_r, .ref a_fresh, .ref a_st, .ref a_undone, .ref a_kept, .int m_undos, .int m_images, .ref a_from, .ref a_begin, .ref a_motor, .ref a_change, .ref a_startFrame, .ref a_changeFrame, .ref a_lostAt, .ref a_blackAt, .ref a_slips, .ref a_leftArc, .ref a_died, .ref a_arcs, .int m_bestSum, .int m_nearest, .int m_nearestTown, .ref a_there, .ref a_backAt, .ref a_sorted, .ref a_parts, .int m_seed1, .int m_darkNow])), (a_letters, .inl (g.2.2.1, 8, .inl d_letters))] rfl ?_
                    refine k_if_ne 108 X dX11_mustName_87 (by decide) (fun h_176 => ?_) (fun h_176 => ?_)
                    · skip
                      have hc_177 := hk_175.resolve_left h_176
                      have iv_178 : IV m_token 2 2 := iv_meet (iv_any m_token) hc_177.1 (by decide) (by decide)
                      have hc_179 := hc_0 (iv_eq iv_178 (show IV 2 2 2 from (by decide)))
                      have iv_180 : IV m_nameSize 0 8 := iv_meet hv_m_nameSize hc_179 (by decide) (by decide)
                      have iv_181 : IV m_failed 0 0 := iv_meet hv_m_failed hc_177.2 (by decide) (by decide)
                      have iv_182 : IV r_173 1 1 := iv_neL h_176 iv_174 (show IV 0 0 0 from (by decide)) (by decide)
                      refine k_iconst (v := 1) X dX11_mustName_108 (by decide) ?_
                      refine k_goto 113 X dX11_mustName_109 (by decide) ?_
                      refine k_istore_n [(1, .int 1), (0, .ref h0)] X dX11_mustName_113 (by decide) rfl ?_
                      refine k_aload_n X dX11_mustName_114 1 rfl ?_
                      refine k_get (ci := 11) X inlX11 rfl 6 (by decide) dX11_mustName_115 mw472 0 rfl rfl ?_
                      refine k_iconst (v := 2) X dX11_mustName_118 (by decide) ?_
                      refine k_ic_ne 126 X dX11_mustName_119 (by decide) (fun h_183 => absurd (iv_eq iv_178 (show IV 2 2 2 from (by decide))) h_183) (fun h_183 => ?_)
                      refine k_iload_n X dX11_mustName_122 0 rfl ?_
                      refine k_if_eq 135 X dX11_mustName_123 (by decide) (fun h_184 => absurd h_184 (by decide)) (fun _ => ?_)
                      refine k_aload_n X dX11_mustName_126 1 rfl ?_
                      refine k_iconst (v := 1) X dX11_mustName_127 (by decide) ?_
                      refine k_aload_n X dX11_mustName_128 1 rfl ?_
                      refine k_get (ci := 11) X inlX11 rfl 4 (by decide) dX11_mustName_129 mw473 0 rfl rfl ?_
                      refine k_callVV (n := 2) (As := [.int 1, .int m_at]) (st := []) X [(h0, .inr (11, [.int m_thrown, .ref a_tape, .int m_taped, .int m_size, .int m_at, .int m_end, .int m_token, .int m_whole, .int m_nameSize, .int m_fault, .int m_place, .int m_trouble, .ref a_letters, .int m_failed, .int m_hasHouse, .ref a_r, .ref a_fresh, .ref a_st, .ref a_undone, .ref a_kept, .int m_undos, .int m_images, .ref a_from, .ref a_begin, .ref a_motor, .ref a_change, .ref a_startFrame, .ref a_changeFrame, .ref a_lostAt, .ref a_blackAt, .ref a_slips, .ref a_leftArc, .ref a_died, .ref a_arcs, .int m_bestSum, .int m_nearest, .int m_nearestTown, .ref a_there, .ref a_backAt, .ref a_sorted, .ref a_parts, .int m_seed1, .int m_darkNow]))] [(a_letters, .inl (g.2.2.1, 8, .inl d_letters))] [0] [1] (m_bad l g h0 1 m_at m_thrown a_tape m_taped m_size m_at m_end m_token m_whole m_nameSize m_fault m_place m_trouble a_letters m_failed m_hasHouse a_r a_fresh a_st a_undone a_kept m_undos m_images a_from a_begin a_motor a_change a_startFrame a_changeFrame a_lostAt a_blackAt a_slips a_leftArc a_died a_arcs m_bestSum m_nearest m_nearestTown a_there a_backAt a_sorted a_parts m_seed1 m_darkNow (iv_w iv_181 (by decide) (by decide))) dX11_mustName_132 mw519 mw520 mw521 mw5 mw522 rfl 11 rfl rfl 0 _ rfl (by unfold yOk; decide) rfl (Nat.le_of_ble_eq_true rfl) (Nat.le_of_ble_eq_true rfl) (Nat.le_of_ble_eq_true rfl) (Nat.le_of_ble_eq_true rfl) (Nat.le_of_ble_eq_true rfl) rfl rfl (by decide) rfl (by decide) (by decide) ?_
                      rintro w ⟨m_failed2_185, m_fault2_186, m_place2_187, iv_189, rfl⟩
                      refine k_ws [(a_letters, .inl (g.2.2.1, 8, .inl d_letters)), (h0, .inr (11, [.int m_thrown, .ref a_tape, .int m_taped, .int m_size, .int m_at, .int m_end, .int m_token, .int m_whole, .int m_nameSize, .int m_fault2_186, .int m_place2_187, .int m_trouble, .ref a_letters, .int m_failed2_185, .int m_hasHouse, .ref a_r, .ref a_fresh, .ref a_st, .ref a_undone, .ref a_kept, .int m_undos, .int m_images, .ref a_from, .ref a_begin, .ref a_motor, .ref a_change, .ref a_startFrame, .ref a_changeFrame, .ref a_lostAt, .ref a_blackAt, .ref a_slips, .ref a_leftArc, .ref a_died, .ref a_arcs, .int m_bestSum, .int m_nearest, .int m_nearestTown, .ref a_there, .ref a_backAt, .ref a_sorted, .ref a_parts, .int m_seed1, .int m_darkNow]))] rfl ?_
                      exact k_vret X hr dX11_mustName_135 (Nat.le_of_ble_eq_true rfl) (Nat.le_of_ble_eq_true rfl) [1, 0] (by decide) rfl rfl ⟨m_failed2_185, m_fault2_186, m_place2_187, (iv_w iv_189 (by decide) (by decide)), (Or.inl (iv_eq iv_189 (show IV 1 1 1 from (by decide)))), rfl⟩
                    · skip
                      have iv_190 : IV r_173 0 0 := iv_meet iv_174 (iv_e h_176 (show IV 0 0 0 from (by decide))) (by decide) (by decide)
                      refine k_aload_n X dX11_mustName_90 0 rfl ?_
                      refine k_ldcS (tx := "seen") X dX11_mustName_91 (by decide +kernel) (fun sr_191 hsr_191 => ?_)
                      refine k_callVI (n := 1) (As := [.ref sr_191]) (st := []) X [(h0, .inr (11, [.int m_thrown, .ref a_tape, .int m_taped, .int m_size, .int m_at, .int m_end, .int m_token, .int m_whole, .int m_nameSize, .int m_fault, .int m_place, .int m_trouble, .ref a_letters, .int m_failed, .int m_hasHouse, .ref a_r, .ref a_fresh, .ref a_st, .ref a_undone, .ref a_kept, .int m_undos, .int m_images, .ref a_from, .ref a_begin, .ref a_motor, .ref a_change, .ref a_startFrame, .ref a_changeFrame, .ref a_lostAt, .ref a_blackAt, .ref a_slips, .ref a_leftArc, .ref a_died, .ref a_arcs, .int m_bestSum, .int m_nearest, .int m_nearestTown, .ref a_there, .ref a_backAt, .ref a_sorted, .ref a_parts, .int m_seed1, .int m_darkNow])), (a_letters, .inl (g.2.2.1, 8, .inl d_letters))] [] [0, 1] [] (m_isWord l g h0 sr_191 m_thrown a_tape m_taped m_size m_at m_end m_token m_whole m_nameSize m_fault m_place m_trouble a_letters m_failed m_hasHouse a_r a_fresh a_st a_undone a_kept m_undos m_images a_from a_begin a_motor a_change a_startFrame a_changeFrame a_lostAt a_blackAt a_slips a_leftArc a_died a_arcs m_bestSum m_nearest m_nearestTown a_there a_backAt a_sorted a_parts m_seed1 m_darkNow d_letters ("seen") (iv_w hv_m_nameSize (by decide) (by decide)) (iv_w hv_m_failed (by decide) (by decide)) hsr_191 hc_0) dX11_mustName_93 mw509 mw510 mw511 mw5 mw512 rfl 11 rfl rfl 0 _ rfl (by unfold yOk; decide) rfl (Nat.le_of_ble_eq_true rfl) (Nat.le_of_ble_eq_true rfl) (Nat.le_of_ble_eq_true rfl) (Nat.le_of_ble_eq_true rfl) (Nat.le_of_ble_eq_true rfl) rfl rfl (by decide) rfl (by decide) (by decide) ?_
                      rintro r_192 w ⟨iv_193, hk_194, rfl⟩
                      refine k_ws [(h0, .inr (11, [.int m_thrown, .ref a_tape, .int m_taped, .int m_size, .int m_at, .int m_end, .int m_token, .int m_whole, .int m_nameSize, .int m_fault, .int m_place, .int m_trouble, .ref a_letters, .int m_failed, .int m_hasHouse, .ref a_r, .ref a_fresh, .ref a_st, .ref a_undone, .ref a_kept, .int m_undos, .int m_images, .ref a_from, .ref a_begin, .ref a_motor, .ref a_change, .ref a_startFrame, .ref a_changeFrame, .ref a_lostAt, .ref a_blackAt, .ref a_slips, .ref a_leftArc, .ref a_died, .ref a_arcs, .int m_bestSum, .int m_nearest, .int m_nearestTown, .ref a_there, .ref a_backAt, .ref a_sorted, .ref a_parts, .int m_seed1, .int m_darkNow])), (a_letters, .inl (g.2.2.1, 8, .inl d_letters))] rfl ?_
                      refine k_if_ne 108 X dX11_mustName_96 (by decide) (fun h_195 => ?_) (fun h_195 => ?_)
                      · skip
                        have hc_196 := hk_194.resolve_left h_195
                        have iv_197 : IV m_token 2 2 := iv_meet (iv_any m_token) hc_196.1 (by decide) (by decide)
                        have hc_198 := hc_0 (iv_eq iv_197 (show IV 2 2 2 from (by decide)))
                        have iv_199 : IV m_nameSize 0 8 := iv_meet hv_m_nameSize hc_198 (by decide) (by decide)
                        have iv_200 : IV m_failed 0 0 := iv_meet hv_m_failed hc_196.2 (by decide) (by decide)
                        have iv_201 : IV r_192 1 1 := iv_neL h_195 iv_193 (show IV 0 0 0 from (by decide)) (by decide)
                        refine k_iconst (v := 1) X dX11_mustName_108 (by decide) ?_
                        refine k_goto 113 X dX11_mustName_109 (by decide) ?_
                        refine k_istore_n [(1, .int 1), (0, .ref h0)] X dX11_mustName_113 (by decide) rfl ?_
                        refine k_aload_n X dX11_mustName_114 1 rfl ?_
                        refine k_get (ci := 11) X inlX11 rfl 6 (by decide) dX11_mustName_115 mw472 0 rfl rfl ?_
                        refine k_iconst (v := 2) X dX11_mustName_118 (by decide) ?_
                        refine k_ic_ne 126 X dX11_mustName_119 (by decide) (fun h_202 => absurd (iv_eq iv_197 (show IV 2 2 2 from (by decide))) h_202) (fun h_202 => ?_)
                        refine k_iload_n X dX11_mustName_122 0 rfl ?_
                        refine k_if_eq 135 X dX11_mustName_123 (by decide) (fun h_203 => absurd h_203 (by decide)) (fun _ => ?_)
                        refine k_aload_n X dX11_mustName_126 1 rfl ?_
                        refine k_iconst (v := 1) X dX11_mustName_127 (by decide) ?_
                        refine k_aload_n X dX11_mustName_128 1 rfl ?_
                        refine k_get (ci := 11) X inlX11 rfl 4 (by decide) dX11_mustName_129 mw473 0 rfl rfl ?_
                        refine k_callVV (n := 2) (As := [.int 1, .int m_at]) (st := []) X [(h0, .inr (11, [.int m_thrown, .ref a_tape, .int m_taped, .int m_size, .int m_at, .int m_end, .int m_token, .int m_whole, .int m_nameSize, .int m_fault, .int m_place, .int m_trouble, .ref a_letters, .int m_failed, .int m_hasHouse, .ref a_r, .ref a_fresh, .ref a_st, .ref a_undone, .ref a_kept, .int m_undos, .int m_images, .ref a_from, .ref a_begin, .ref a_motor, .ref a_change, .ref a_startFrame, .ref a_changeFrame, .ref a_lostAt, .ref a_blackAt, .ref a_slips, .ref a_leftArc, .ref a_died, .ref a_arcs, .int m_bestSum, .int m_nearest, .int m_nearestTown, .ref a_there, .ref a_backAt, .ref a_sorted, .ref a_parts, .int m_seed1, .int m_darkNow]))] [(a_letters, .inl (g.2.2.1, 8, .inl d_letters))] [0] [1] (m_bad l g h0 1 m_at m_thrown a_tape m_taped m_size m_at m_end m_token m_whole m_nameSize m_fault m_place m_trouble a_letters m_failed m_hasHouse a_r a_fresh a_st a_undone a_kept m_undos m_images a_from a_begin a_motor a_change a_startFrame a_changeFrame a_lostAt a_blackAt a_slips a_leftArc a_died a_arcs m_bestSum m_nearest m_nearestTown a_there a_backAt a_sorted a_parts m_seed1 m_darkNow (iv_w iv_200 (by decide) (by decide))) dX11_mustName_132 mw519 mw520 mw521 mw5 mw522 rfl 11 rfl rfl 0 _ rfl (by unfold yOk; decide) rfl (Nat.le_of_ble_eq_true rfl) (Nat.le_of_ble_eq_true rfl) (Nat.le_of_ble_eq_true rfl) (Nat.le_of_ble_eq_true rfl) (Nat.le_of_ble_eq_true rfl) rfl rfl (by decide) rfl (by decide) (by decide) ?_
                        rintro w ⟨m_failed2_204, m_fault2_205, m_place2_206, iv_208, rfl⟩
                        refine k_ws [(a_letters, .inl (g.2.2.1, 8, .inl d_letters)), (h0, .inr (11, [.int m_thrown, .ref a_tape, .int m_taped, .int m_size, .int m_at, .int m_end, .int m_token, .int m_whole, .int m_nameSize, .int m_fault2_205, .int m_place2_206, .int m_trouble, .ref a_letters, .int m_failed2_204, .int m_hasHouse, .ref a_r, .ref a_fresh, .ref a_st, .ref a_undone, .ref a_kept, .int m_undos, .int m_images, .ref a_from, .ref a_begin, .ref a_motor, .ref a_change, .ref a_startFrame, .ref a_changeFrame, .ref a_lostAt, .ref a_blackAt, .ref a_slips, .ref a_leftArc, .ref a_died, .ref a_arcs, .int m_bestSum, .int m_nearest, .int m_nearestTown, .ref a_there, .ref a_backAt, .ref a_sorted, .ref a_parts, .int m_seed1, .int m_darkNow]))] rfl ?_
                        exact k_vret X hr dX11_mustName_135 (Nat.le_of_ble_eq_true rfl) (Nat.le_of_ble_eq_true rfl) [1, 0] (by decide) rfl rfl ⟨m_failed2_204, m_fault2_205, m_place2_206, (iv_w iv_208 (by decide) (by decide)), (Or.inl (iv_eq iv_208 (show IV 1 1 1 from (by decide)))), rfl⟩
                      · skip
                        have iv_209 : IV r_192 0 0 := iv_meet iv_193 (iv_e h_195 (show IV 0 0 0 from (by decide))) (by decide) (by decide)
                        refine k_aload_n X dX11_mustName_99 0 rfl ?_
                        refine k_ldcS (tx := "scratch") X dX11_mustName_100 (by decide +kernel) (fun sr_210 hsr_210 => ?_)
                        refine k_callVI (n := 1) (As := [.ref sr_210]) (st := []) X [(h0, .inr (11, [.int m_thrown, .ref a_tape, .int m_taped, .int m_size, .int m_at, .int m_end, .int m_token, .int m_whole, .int m_nameSize, .int m_fault, .int m_place, .int m_trouble, .ref a_letters, .int m_failed, .int m_hasHouse, .ref a_r, .ref a_fresh, .ref a_st, .ref a_undone, .ref a_kept, .int m_undos, .int m_images, .ref a_from, .ref a_begin, .ref a_motor, .ref a_change, .ref a_startFrame, .ref a_changeFrame, .ref a_lostAt, .ref a_blackAt, .ref a_slips, .ref a_leftArc, .ref a_died, .ref a_arcs, .int m_bestSum, .int m_nearest, .int m_nearestTown, .ref a_there, .ref a_backAt, .ref a_sorted, .ref a_parts, .int m_seed1, .int m_darkNow])), (a_letters, .inl (g.2.2.1, 8, .inl d_letters))] [] [0, 1] [] (m_isWord l g h0 sr_210 m_thrown a_tape m_taped m_size m_at m_end m_token m_whole m_nameSize m_fault m_place m_trouble a_letters m_failed m_hasHouse a_r a_fresh a_st a_undone a_kept m_undos m_images a_from a_begin a_motor a_change a_startFrame a_changeFrame a_lostAt a_blackAt a_slips a_leftArc a_died a_arcs m_bestSum m_nearest m_nearestTown a_there a_backAt a_sorted a_parts m_seed1 m_darkNow d_letters ("scratch") (iv_w hv_m_nameSize (by decide) (by decide)) (iv_w hv_m_failed (by decide) (by decide)) hsr_210 hc_0) dX11_mustName_102 mw509 mw510 mw511 mw5 mw512 rfl 11 rfl rfl 0 _ rfl (by unfold yOk; decide) rfl (Nat.le_of_ble_eq_true rfl) (Nat.le_of_ble_eq_true rfl) (Nat.le_of_ble_eq_true rfl) (Nat.le_of_ble_eq_true rfl) (Nat.le_of_ble_eq_true rfl) rfl rfl (by decide) rfl (by decide) (by decide) ?_
                        rintro r_211 w ⟨iv_212, hk_213, rfl⟩
                        refine k_ws [(h0, .inr (11, [.int m_thrown, .ref a_tape, .int m_taped, .int m_size, .int m_at, .int m_end, .int m_token, .int m_whole, .int m_nameSize, .int m_fault, .int m_place, .int m_trouble, .ref a_letters, .int m_failed, .int m_hasHouse, .ref a_r, .ref a_fresh, .ref a_st, .ref a_undone, .ref a_kept, .int m_undos, .int m_images, .ref a_from, .ref a_begin, .ref a_motor, .ref a_change, .ref a_startFrame, .ref a_changeFrame, .ref a_lostAt, .ref a_blackAt, .ref a_slips, .ref a_leftArc, .ref a_died, .ref a_arcs, .int m_bestSum, .int m_nearest, .int m_nearestTown, .ref a_there, .ref a_backAt, .ref a_sorted, .ref a_parts, .int m_seed1, .int m_darkNow])), (a_letters, .inl (g.2.2.1, 8, .inl d_letters))] rfl ?_
                        refine k_if_eq 112 X dX11_mustName_105 (by decide) (fun h_214 => ?_) (fun h_214 => ?_)
                        · skip
                          have iv_215 : IV r_211 0 0 := iv_meet iv_212 (iv_e h_214 (show IV 0 0 0 from (by decide))) (by decide) (by decide)
                          refine k_iconst (v := 0) X dX11_mustName_112 (by decide) ?_
                          refine k_istore_n [(1, .int 0), (0, .ref h0)] X dX11_mustName_113 (by decide) rfl ?_
                          refine k_aload_n X dX11_mustName_114 1 rfl ?_
                          refine k_get (ci := 11) X inlX11 rfl 6 (by decide) dX11_mustName_115 mw472 0 rfl rfl ?_
                          refine k_iconst (v := 2) X dX11_mustName_118 (by decide) ?_
                          refine k_ic_ne 126 X dX11_mustName_119 (by decide) (fun h_216 => ?_) (fun h_216 => ?_)
                          · skip
                            refine k_aload_n X dX11_mustName_126 1 rfl ?_
                            refine k_iconst (v := 1) X dX11_mustName_127 (by decide) ?_
                            refine k_aload_n X dX11_mustName_128 1 rfl ?_
                            refine k_get (ci := 11) X inlX11 rfl 4 (by decide) dX11_mustName_129 mw473 0 rfl rfl ?_
                            refine k_callVV (n := 2) (As := [.int 1, .int m_at]) (st := []) X [(h0, .inr (11, [.int m_thrown, .ref a_tape, .int m_taped, .int m_size, .int m_at, .int m_end, .int m_token, .int m_whole, .int m_nameSize, .int m_fault, .int m_place, .int m_trouble, .ref a_letters, .int m_failed, .int m_hasHouse, .ref a_r, .ref a_fresh, .ref a_st, .ref a_undone, .ref a_kept, .int m_undos, .int m_images, .ref a_from, .ref a_begin, .ref a_motor, .ref a_change, .ref a_startFrame, .ref a_changeFrame, .ref a_lostAt, .ref a_blackAt, .ref a_slips, .ref a_leftArc, .ref a_died, .ref a_arcs, .int m_bestSum, .int m_nearest, .int m_nearestTown, .ref a_there, .ref a_backAt, .ref a_sorted, .ref a_parts, .int m_seed1, .int m_darkNow]))] [(a_letters, .inl (g.2.2.1, 8, .inl d_letters))] [0] [1] (m_bad l g h0 1 m_at m_thrown a_tape m_taped m_size m_at m_end m_token m_whole m_nameSize m_fault m_place m_trouble a_letters m_failed m_hasHouse a_r a_fresh a_st a_undone a_kept m_undos m_images a_from a_begin a_motor a_change a_startFrame a_changeFrame a_lostAt a_blackAt a_slips a_leftArc a_died a_arcs m_bestSum m_nearest m_nearestTown a_there a_backAt a_sorted a_parts m_seed1 m_darkNow (iv_w hv_m_failed (by decide) (by decide))) dX11_mustName_132 mw519 mw520 mw521 mw5 mw522 rfl 11 rfl rfl 0 _ rfl (by unfold yOk; decide) rfl (Nat.le_of_ble_eq_true rfl) (Nat.le_of_ble_eq_true rfl) (Nat.le_of_ble_eq_true rfl) (Nat.le_of_ble_eq_true rfl) (Nat.le_of_ble_eq_true rfl) rfl rfl (by decide) rfl (by decide) (by decide) ?_
                            rintro w ⟨m_failed2_217, m_fault2_218, m_place2_219, iv_221, rfl⟩
                            refine k_ws [(a_letters, .inl (g.2.2.1, 8, .inl d_letters)), (h0, .inr (11, [.int m_thrown, .ref a_tape, .int m_taped, .int m_size, .int m_at, .int m_end, .int m_token, .int m_whole, .int m_nameSize, .int m_fault2_218, .int m_place2_219, .int m_trouble, .ref a_letters, .int m_failed2_217, .int m_hasHouse, .ref a_r, .ref a_fresh, .ref a_st, .ref a_undone, .ref a_kept, .int m_undos, .int m_images, .ref a_from, .ref a_begin, .ref a_motor, .ref a_change, .ref a_startFrame, .ref a_changeFrame, .ref a_lostAt, .ref a_blackAt, .ref a_slips, .ref a_leftArc, .ref a_died, .ref a_arcs, .int m_bestSum, .int m_nearest, .int m_nearestTown, .ref a_there, .ref a_backAt, .ref a_sorted, .ref a_parts, .int m_seed1, .int m_darkNow]))] rfl ?_
                            exact k_vret X hr dX11_mustName_135 (Nat.le_of_ble_eq_true rfl) (Nat.le_of_ble_eq_true rfl) [1, 0] (by decide) rfl rfl ⟨m_failed2_217, m_fault2_218, m_place2_219, (iv_w iv_221 (by decide) (by decide)), (Or.inl (iv_eq iv_221 (show IV 1 1 1 from (by decide)))), rfl⟩
                          · skip
                            have iv_222 : IV m_token 2 2 := iv_meet (iv_any m_token) (iv_e h_216 (show IV 2 2 2 from (by decide))) (by decide) (by decide)
                            have hc_223 := hc_0 (iv_eq iv_222 (show IV 2 2 2 from (by decide)))
                            have iv_224 : IV m_nameSize 0 8 := iv_meet hv_m_nameSize hc_223 (by decide) (by decide)
                            refine k_iload_n X dX11_mustName_122 0 rfl ?_
                            refine k_if_eq 135 X dX11_mustName_123 (by decide) (fun _ => ?_) (fun h_225 => absurd (by decide) h_225)
                            exact k_vret X hr dX11_mustName_135 (Nat.le_of_ble_eq_true rfl) (Nat.le_of_ble_eq_true rfl) [0, 1] (by decide) rfl rfl ⟨m_failed, m_fault, m_place, (iv_w hv_m_failed (by decide) (by decide)), (Or.inr (iv_w iv_222 (by decide) (by decide))), rfl⟩
                        · skip
                          have hc_226 := hk_213.resolve_left h_214
                          have iv_227 : IV m_token 2 2 := iv_meet (iv_any m_token) hc_226.1 (by decide) (by decide)
                          have hc_228 := hc_0 (iv_eq iv_227 (show IV 2 2 2 from (by decide)))
                          have iv_229 : IV m_nameSize 0 8 := iv_meet hv_m_nameSize hc_228 (by decide) (by decide)
                          have iv_230 : IV m_failed 0 0 := iv_meet hv_m_failed hc_226.2 (by decide) (by decide)
                          have iv_231 : IV r_211 1 1 := iv_neL h_214 iv_212 (show IV 0 0 0 from (by decide)) (by decide)
                          refine k_iconst (v := 1) X dX11_mustName_108 (by decide) ?_
                          refine k_goto 113 X dX11_mustName_109 (by decide) ?_
                          refine k_istore_n [(1, .int 1), (0, .ref h0)] X dX11_mustName_113 (by decide) rfl ?_
                          refine k_aload_n X dX11_mustName_114 1 rfl ?_
                          refine k_get (ci := 11) X inlX11 rfl 6 (by decide) dX11_mustName_115 mw472 0 rfl rfl ?_
                          refine k_iconst (v := 2) X dX11_mustName_118 (by decide) ?_
                          refine k_ic_ne 126 X dX11_mustName_119 (by decide) (fun h_232 => absurd (iv_eq iv_227 (show IV 2 2 2 from (by decide))) h_232) (fun h_232 => ?_)
                          refine k_iload_n X dX11_mustName_122 0 rfl ?_
                          refine k_if_eq 135 X dX11_mustName_123 (by decide) (fun h_233 => absurd h_233 (by decide)) (fun _ => ?_)
                          refine k_aload_n X dX11_mustName_126 1 rfl ?_
                          refine k_iconst (v := 1) X dX11_mustName_127 (by decide) ?_
                          refine k_aload_n X dX11_mustName_128 1 rfl ?_
                          refine k_get (ci := 11) X inlX11 rfl 4 (by decide) dX11_mustName_129 mw473 0 rfl rfl ?_
                          refine k_callVV (n := 2) (As := [.int 1, .int m_at]) (st := []) X [(h0, .inr (11, [.int m_thrown, .ref a_tape, .int m_taped, .int m_size, .int m_at, .int m_end, .int m_token, .int m_whole, .int m_nameSize, .int m_fault, .int m_place, .int m_trouble, .ref a_letters, .int m_failed, .int m_hasHouse, .ref a_r, .ref a_fresh, .ref a_st, .ref a_undone, .ref a_kept, .int m_undos, .int m_images, .ref a_from, .ref a_begin, .ref a_motor, .ref a_change, .ref a_startFrame, .ref a_changeFrame, .ref a_lostAt, .ref a_blackAt, .ref a_slips, .ref a_leftArc, .ref a_died, .ref a_arcs, .int m_bestSum, .int m_nearest, .int m_nearestTown, .ref a_there, .ref a_backAt, .ref a_sorted, .ref a_parts, .int m_seed1, .int m_darkNow]))] [(a_letters, .inl (g.2.2.1, 8, .inl d_letters))] [0] [1] (m_bad l g h0 1 m_at m_thrown a_tape m_taped m_size m_at m_end m_token m_whole m_nameSize m_fault m_place m_trouble a_letters m_failed m_hasHouse a_r a_fresh a_st a_undone a_kept m_undos m_images a_from a_begin a_motor a_change a_startFrame a_changeFrame a_lostAt a_blackAt a_slips a_leftArc a_died a_arcs m_bestSum m_nearest m_nearestTown a_there a_backAt a_sorted a_parts m_seed1 m_darkNow (iv_w iv_230 (by decide) (by decide))) dX11_mustName_132 mw519 mw520 mw521 mw5 mw522 rfl 11 rfl rfl 0 _ rfl (by unfold yOk; decide) rfl (Nat.le_of_ble_eq_true rfl) (Nat.le_of_ble_eq_true rfl) (Nat.le_of_ble_eq_true rfl) (Nat.le_of_ble_eq_true rfl) (Nat.le_of_ble_eq_true rfl) rfl rfl (by decide) rfl (by decide) (by decide) ?_
                          rintro w ⟨m_failed2_234, m_fault2_235, m_place2_236, iv_238, rfl⟩
                          refine k_ws [(a_letters, .inl (g.2.2.1, 8, .inl d_letters)), (h0, .inr (11, [.int m_thrown, .ref a_tape, .int m_taped, .int m_size, .int m_at, .int m_end, .int m_token, .int m_whole, .int m_nameSize, .int m_fault2_235, .int m_place2_236, .int m_trouble, .ref a_letters, .int m_failed2_234, .int m_hasHouse, .ref a_r, .ref a_fresh, .ref a_st, .ref a_undone, .ref a_kept, .int m_undos, .int m_images, .ref a_from, .ref a_begin, .ref a_motor, .ref a_change, .ref a_startFrame, .ref a_changeFrame, .ref a_lostAt, .ref a_blackAt, .ref a_slips, .ref a_leftArc, .ref a_died, .ref a_arcs, .int m_bestSum, .int m_nearest, .int m_nearestTown, .ref a_there, .ref a_backAt, .ref a_sorted, .ref a_parts, .int m_seed1, .int m_darkNow]))] rfl ?_
                          exact k_vret X hr dX11_mustName_135 (Nat.le_of_ble_eq_true rfl) (Nat.le_of_ble_eq_true rfl) [1, 0] (by decide) rfl rfl ⟨m_failed2_234, m_fault2_235, m_place2_236, (iv_w iv_238 (by decide) (by decide)), (Or.inl (iv_eq iv_238 (show IV 1 1 1 from (by decide)))), rfl⟩

theorem dX11_find_0 : decode cX11_find 0 = .ok (.iconst 0, 1) := by decide +kernel
theorem dX11_find_1 : decode cX11_find 1 = .ok (.istore_n 1, 1) := by decide +kernel
theorem dX11_find_2 : decode cX11_find 2 = .ok (.iload_n 1, 1) := by decide +kernel
theorem dX11_find_3 : decode cX11_find 3 = .ok (.bipush 16, 2) := by decide +kernel
theorem dX11_find_5 : decode cX11_find 5 = .ok (.if_icmp .ge 101, 3) := by decide +kernel
theorem dX11_find_8 : decode cX11_find 8 = .ok (.aload_n 0, 1) := by decide +kernel
theorem dX11_find_9 : decode cX11_find 9 = .ok (.getfield 23, 3) := by decide +kernel
theorem dX11_find_12 : decode cX11_find 12 = .ok (.sipush 167, 3) := by decide +kernel
theorem dX11_find_15 : decode cX11_find 15 = .ok (.iload_n 1, 1) := by decide +kernel
theorem dX11_find_16 : decode cX11_find 16 = .ok (.iadd, 1) := by decide +kernel
theorem dX11_find_17 : decode cX11_find 17 = .ok (.iaload, 1) := by decide +kernel
theorem dX11_find_18 : decode cX11_find 18 = .ok (.ifCond .le 24, 3) := by decide +kernel
theorem dX11_find_21 : decode cX11_find 21 = .ok (.aload_n 0, 1) := by decide +kernel
theorem dX11_find_22 : decode cX11_find 22 = .ok (.getfield 23, 3) := by decide +kernel
theorem dX11_find_25 : decode cX11_find 25 = .ok (.sipush 167, 3) := by decide +kernel
theorem dX11_find_28 : decode cX11_find 28 = .ok (.iload_n 1, 1) := by decide +kernel
theorem dX11_find_29 : decode cX11_find 29 = .ok (.iadd, 1) := by decide +kernel
theorem dX11_find_30 : decode cX11_find 30 = .ok (.iaload, 1) := by decide +kernel
theorem dX11_find_31 : decode cX11_find 31 = .ok (.aload_n 0, 1) := by decide +kernel
theorem dX11_find_32 : decode cX11_find 32 = .ok (.getfield 105, 3) := by decide +kernel
theorem dX11_find_35 : decode cX11_find 35 = .ok (.if_icmp .ne 7, 3) := by decide +kernel
theorem dX11_find_38 : decode cX11_find 38 = .ok (.iconst 1, 1) := by decide +kernel
theorem dX11_find_39 : decode cX11_find 39 = .ok (.goto 4, 3) := by decide +kernel
theorem dX11_find_42 : decode cX11_find 42 = .ok (.iconst 0, 1) := by decide +kernel
theorem dX11_find_43 : decode cX11_find 43 = .ok (.istore_n 2, 1) := by decide +kernel
theorem dX11_find_44 : decode cX11_find 44 = .ok (.iconst 0, 1) := by decide +kernel
theorem dX11_find_45 : decode cX11_find 45 = .ok (.istore_n 3, 1) := by decide +kernel
theorem dX11_find_46 : decode cX11_find 46 = .ok (.iload_n 3, 1) := by decide +kernel
theorem dX11_find_47 : decode cX11_find 47 = .ok (.aload_n 0, 1) := by decide +kernel
theorem dX11_find_48 : decode cX11_find 48 = .ok (.getfield 105, 3) := by decide +kernel
theorem dX11_find_51 : decode cX11_find 51 = .ok (.if_icmp .ge 43, 3) := by decide +kernel
theorem dX11_find_54 : decode cX11_find 54 = .ok (.iload_n 2, 1) := by decide +kernel
theorem dX11_find_55 : decode cX11_find 55 = .ok (.ifCond .eq 39, 3) := by decide +kernel
theorem dX11_find_58 : decode cX11_find 58 = .ok (.aload_n 0, 1) := by decide +kernel
theorem dX11_find_59 : decode cX11_find 59 = .ok (.getfield 23, 3) := by decide +kernel
theorem dX11_find_62 : decode cX11_find 62 = .ok (.sipush 183, 3) := by decide +kernel
theorem dX11_find_65 : decode cX11_find 65 = .ok (.bipush 8, 2) := by decide +kernel
theorem dX11_find_67 : decode cX11_find 67 = .ok (.iload_n 1, 1) := by decide +kernel
theorem dX11_find_68 : decode cX11_find 68 = .ok (.imul, 1) := by decide +kernel
theorem dX11_find_69 : decode cX11_find 69 = .ok (.iadd, 1) := by decide +kernel
theorem dX11_find_70 : decode cX11_find 70 = .ok (.iload_n 3, 1) := by decide +kernel
theorem dX11_find_71 : decode cX11_find 71 = .ok (.iadd, 1) := by decide +kernel
theorem dX11_find_72 : decode cX11_find 72 = .ok (.iaload, 1) := by decide +kernel
theorem dX11_find_73 : decode cX11_find 73 = .ok (.aload_n 0, 1) := by decide +kernel
theorem dX11_find_74 : decode cX11_find 74 = .ok (.getfield 17, 3) := by decide +kernel
theorem dX11_find_77 : decode cX11_find 77 = .ok (.iload_n 3, 1) := by decide +kernel
theorem dX11_find_78 : decode cX11_find 78 = .ok (.iaload, 1) := by decide +kernel
theorem dX11_find_79 : decode cX11_find 79 = .ok (.if_icmp .ne 7, 3) := by decide +kernel
theorem dX11_find_82 : decode cX11_find 82 = .ok (.iconst 1, 1) := by decide +kernel
theorem dX11_find_83 : decode cX11_find 83 = .ok (.goto 4, 3) := by decide +kernel
theorem dX11_find_86 : decode cX11_find 86 = .ok (.iconst 0, 1) := by decide +kernel
theorem dX11_find_87 : decode cX11_find 87 = .ok (.istore_n 2, 1) := by decide +kernel
theorem dX11_find_88 : decode cX11_find 88 = .ok (.iinc 3 1, 3) := by decide +kernel
theorem dX11_find_91 : decode cX11_find 91 = .ok (.goto (-45), 3) := by decide +kernel
theorem dX11_find_94 : decode cX11_find 94 = .ok (.iload_n 2, 1) := by decide +kernel
theorem dX11_find_95 : decode cX11_find 95 = .ok (.ifCond .eq 5, 3) := by decide +kernel
theorem dX11_find_98 : decode cX11_find 98 = .ok (.iload_n 1, 1) := by decide +kernel
theorem dX11_find_99 : decode cX11_find 99 = .ok (.ireturn, 1) := by decide +kernel
theorem dX11_find_100 : decode cX11_find 100 = .ok (.iinc 1 1, 3) := by decide +kernel
theorem dX11_find_103 : decode cX11_find 103 = .ok (.goto (-101), 3) := by decide +kernel
theorem dX11_find_106 : decode cX11_find 106 = .ok (.iconst (-1), 1) := by decide +kernel
theorem dX11_find_107 : decode cX11_find 107 = .ok (.ireturn, 1) := by decide +kernel
set_option maxHeartbeats 4000000 in
set_option maxRecDepth 100000 in
theorem m_find (l : Launch) (g : Gx) (h0 : Nat) (m_thrown : Int32) (a_tape : Nat) (m_taped : Int32) (m_size : Int32) (m_at : Int32) (m_end : Int32) (m_token : Int32) (m_whole : Int32) (m_nameSize : Int32) (m_fault : Int32) (m_place : Int32) (m_trouble : Int32) (a_letters : Nat) (m_failed : Int32) (m_hasHouse : Int32) (a_r : Nat) (a_fresh : Nat) (a_st : Nat) (a_undone : Nat) (a_kept : Nat) (m_undos : Int32) (m_images : Int32) (a_from : Nat) (a_begin : Nat) (a_motor : Nat) (a_change : Nat) (a_startFrame : Nat) (a_changeFrame : Nat) (a_lostAt : Nat) (a_blackAt : Nat) (a_slips : Nat) (a_leftArc : Nat) (a_died : Nat) (a_arcs : Nat) (m_bestSum : Int32) (m_nearest : Int32) (m_nearestTown : Int32) (a_there : Nat) (a_backAt : Nat) (a_sorted : Nat) (a_parts : Nat) (m_seed1 : Int32) (m_darkNow : Int32) (d_letters : Nat → Int32) (d_fresh : Nat → Int32) (hv_m_nameSize : IV m_nameSize 0 900) (hp_d_fresh : RInv d_fresh) : cI l g yX11_find cX11_find 4 (some .int) 0 0 0 0 [.ref h0] [(h0, .inr (11, [.int m_thrown, .ref a_tape, .int m_taped, .int m_size, .int m_at, .int m_end, .int m_token, .int m_whole, .int m_nameSize, .int m_fault, .int m_place, .int m_trouble, .ref a_letters, .int m_failed, .int m_hasHouse, .ref a_r, .ref a_fresh, .ref a_st, .ref a_undone, .ref a_kept, .int m_undos, .int m_images, .ref a_from, .ref a_begin, .ref a_motor, .ref a_change, .ref a_startFrame, .ref a_changeFrame, .ref a_lostAt, .ref a_blackAt, .ref a_slips, .ref a_leftArc, .ref a_died, .ref a_arcs, .int m_bestSum, .int m_nearest, .int m_nearestTown, .ref a_there, .ref a_backAt, .ref a_sorted, .ref a_parts, .int m_seed1, .int m_darkNow])), (a_letters, .inl (g.2.2.1, 8, .inl d_letters)), (a_fresh, .inl (g.2.2.1, 311, .inl d_fresh))] (fun r w => IV r (-1) 15 ∧ (r.toInt < 0 ∨ 0 < (d_fresh (167 + r.toInt.toNat)).toInt) ∧ w = [(h0, .inr (11, [.int m_thrown, .ref a_tape, .int m_taped, .int m_size, .int m_at, .int m_end, .int m_token, .int m_whole, .int m_nameSize, .int m_fault, .int m_place, .int m_trouble, .ref a_letters, .int m_failed, .int m_hasHouse, .ref a_r, .ref a_fresh, .ref a_st, .ref a_undone, .ref a_kept, .int m_undos, .int m_images, .ref a_from, .ref a_begin, .ref a_motor, .ref a_change, .ref a_startFrame, .ref a_changeFrame, .ref a_lostAt, .ref a_blackAt, .ref a_slips, .ref a_leftArc, .ref a_died, .ref a_arcs, .int m_bestSum, .int m_nearest, .int m_nearestTown, .ref a_there, .ref a_backAt, .ref a_sorted, .ref a_parts, .int m_seed1, .int m_darkNow])), (a_letters, .inl (g.2.2.1, 8, .inl d_letters)), (a_fresh, .inl (g.2.2.1, 311, .inl d_fresh))]) := by
  refine cI.of (by decide) (Nat.le_of_ble_eq_true rfl) ?_
  intro p e s m args below meth c A X hr hi
  refine k_lveq [(0, .ref h0)] rfl ?_
  refine k_iconst (v := 0) X dX11_find_0 (by decide) ?_
  refine k_istore_n [(1, .int 0), (0, .ref h0)] X dX11_find_1 (by decide) rfl ?_
  refine (fun hL : ∀ (nn_3 : Nat) (u_1 : Int32), (16 - u_1.toInt).toNat = nn_3 → (IV u_1 0 255) → Wk p l e _ s m args below meth c _ A g _ _ _ [(h0, .inr (11, [.int m_thrown, .ref a_tape, .int m_taped, .int m_size, .int m_at, .int m_end, .int m_token, .int m_whole, .int m_nameSize, .int m_fault, .int m_place, .int m_trouble, .ref a_letters, .int m_failed, .int m_hasHouse, .ref a_r, .ref a_fresh, .ref a_st, .ref a_undone, .ref a_kept, .int m_undos, .int m_images, .ref a_from, .ref a_begin, .ref a_motor, .ref a_change, .ref a_startFrame, .ref a_changeFrame, .ref a_lostAt, .ref a_blackAt, .ref a_slips, .ref a_leftArc, .ref a_died, .ref a_arcs, .int m_bestSum, .int m_nearest, .int m_nearestTown, .ref a_there, .ref a_backAt, .ref a_sorted, .ref a_parts, .int m_seed1, .int m_darkNow])), (a_letters, .inl (g.2.2.1, 8, .inl d_letters)), (a_fresh, .inl (g.2.2.1, 311, .inl d_fresh))] [(1, .int u_1), (0, .ref h0)] 2 [] => hL _ 0 rfl (iv_w (show IV 0 0 0 from (by decide)) (by decide) (by decide))) ?_
  refine fun nn_3 => Nat.strongRecOn nn_3 (fun nn_3 ih_5 => ?_)
  intro u_1 hm_4 hv_2
  refine k_iload_n X dX11_find_2 0 rfl ?_
  refine k_bipush (v := 16) X dX11_find_3 (by decide) ?_
  refine k_ic_ge 106 X dX11_find_5 (by decide) (fun h_6 => ?_) (fun h_6 => ?_)
  · skip
    have j_7 : 16 ≤ u_1.toInt := iv_le h_6
    have iv_8 : IV u_1 16 255 := iv_leR (iv_le h_6) (show IV 16 16 16 from (by decide)) hv_2 (by decide)
    refine k_iconst (v := -1) X dX11_find_106 (by decide) ?_
    exact k_iret X hr dX11_find_107 (Nat.le_of_ble_eq_true rfl) (Nat.le_of_ble_eq_true rfl) [0, 1, 2] (by decide) rfl rfl ⟨(iv_w (show IV (-1) (-1) (-1) from (by decide)) (by decide) (by decide)), (Or.inl (by decide)), rfl⟩
  · skip
    have j_9 : u_1.toInt < 16 := iv_nle h_6
    have iv_10 : IV u_1 0 15 := iv_ltL (iv_nle h_6) hv_2 (show IV 16 16 16 from (by decide)) (by decide)
    refine k_aload_n X dX11_find_8 1 rfl ?_
    refine k_get (ci := 11) X inlX11 rfl 16 (by decide) dX11_find_9 mw171 0 rfl rfl ?_
    refine k_sipush (v := 167) X dX11_find_12 (by decide) ?_
    refine k_iload_n X dX11_find_15 0 rfl ?_
    refine k_iadd X dX11_find_16 ?_
    refine k_nm (fun z_11 ez_11 => ?_)
    have i_12 : z_11.toInt = 167 + u_1.toInt := in_add ez_11 (show IV 167 167 167 from (by decide)) iv_10 (by decide) (by decide)
    have iv_13 : IV z_11 167 182 := by have := (show IV 167 167 167 from (by decide)); have := iv_10; rw [IV, i_12]; omega
    refine k_iald X dX11_find_17 2 rfl (iv_in iv_13 (by decide) (by decide)) ?_
    refine k_nm (fun z_14 ez_14 => ?_)
    have i_15 : z_11.toInt = 167 + 1 * u_1.toInt := by omega
    have iv_16 : IV z_14 0 8 := rb_167_1 ez_14 hp_d_fresh i_15 (iv_w iv_10 (by decide) (by decide))
    refine k_if_le 42 X dX11_find_18 (by decide) (fun h_17 => ?_) (fun h_17 => ?_)
    · skip
      have j_18 : z_14.toInt ≤ 0 := iv_le h_17
      have iv_19 : IV z_14 0 0 := iv_leL (iv_le h_17) iv_16 (show IV 0 0 0 from (by decide)) (by decide)
      refine k_iconst (v := 0) X dX11_find_42 (by decide) ?_
      refine k_istore_n [(2, .int 0), (1, .int u_1), (0, .ref h0)] X dX11_find_43 (by decide) rfl ?_
      refine k_iconst (v := 0) X dX11_find_44 (by decide) ?_
      refine k_istore_n [(3, .int 0), (2, .int 0), (1, .int u_1), (0, .ref h0)] X dX11_find_45 (by decide) rfl ?_
      refine (fun hL : ∀ (nn_24 : Nat) (u_20 : Int32) (u_22 : Int32), (m_nameSize.toInt - u_22.toInt).toNat = nn_24 → (IV u_20 0 0) → (IV u_22 0 0) → Wk p l e _ s m args below meth c _ A g _ _ _ [(h0, .inr (11, [.int m_thrown, .ref a_tape, .int m_taped, .int m_size, .int m_at, .int m_end, .int m_token, .int m_whole, .int m_nameSize, .int m_fault, .int m_place, .int m_trouble, .ref a_letters, .int m_failed, .int m_hasHouse, .ref a_r, .ref a_fresh, .ref a_st, .ref a_undone, .ref a_kept, .int m_undos, .int m_images, .ref a_from, .ref a_begin, .ref a_motor, .ref a_change, .ref a_startFrame, .ref a_changeFrame, .ref a_lostAt, .ref a_blackAt, .ref a_slips, .ref a_leftArc, .ref a_died, .ref a_arcs, .int m_bestSum, .int m_nearest, .int m_nearestTown, .ref a_there, .ref a_backAt, .ref a_sorted, .ref a_parts, .int m_seed1, .int m_darkNow])), (a_letters, .inl (g.2.2.1, 8, .inl d_letters)), (a_fresh, .inl (g.2.2.1, 311, .inl d_fresh))] [(3, .int u_22), (2, .int u_20), (1, .int u_1), (0, .ref h0)] 46 [] => hL _ 0 0 rfl (iv_w (show IV 0 0 0 from (by decide)) (by decide) (by decide)) (iv_w (show IV 0 0 0 from (by decide)) (by decide) (by decide))) ?_
      refine fun nn_24 => Nat.strongRecOn nn_24 (fun nn_24 ih_26 => ?_)
      intro u_20 u_22 hm_25 hv_21 hv_23
      refine k_iload_n X dX11_find_46 0 rfl ?_
      refine k_aload_n X dX11_find_47 3 rfl ?_
      refine k_get (ci := 11) X inlX11 rfl 8 (by decide) dX11_find_48 mw493 0 rfl rfl ?_
      refine k_ic_ge 94 X dX11_find_51 (by decide) (fun h_27 => ?_) (fun h_27 => ?_)
      · skip
        have j_28 : m_nameSize.toInt ≤ u_22.toInt := iv_le h_27
        have iv_29 : IV m_nameSize 0 0 := iv_leL (iv_le h_27) hv_m_nameSize hv_23 (by decide)
        refine k_iload_n X dX11_find_94 1 rfl ?_
        refine k_if_eq 100 X dX11_find_95 (by decide) (fun h_30 => ?_) (fun h_30 => absurd (iv_eq hv_21 (show IV 0 0 0 from (by decide))) h_30)
        obtain ⟨z_31, ez_31⟩ : ∃ y : Int32, u_1 + Int32.ofInt 1 = y := ⟨_, rfl⟩
        refine k_iinc z_31 [(1, .int z_31), (3, .int u_22), (2, .int u_20), (0, .ref h0)] 2 X dX11_find_100 rfl ez_31 (by decide) rfl ?_
        have i_32 : z_31.toInt = u_1.toInt + 1 := in_inc ez_31 (by decide) iv_10 (by decide) (by decide)
        have iv_33 : IV z_31 1 16 := by have := iv_10; rw [IV, i_32]; omega
        refine k_goto 2 X dX11_find_103 (by decide) ?_
        refine k_lv [(1, .int z_31), (0, .ref h0)] [0, 3] rfl ?_
        exact ih_5 _ (by omega) z_31 rfl (iv_w iv_33 (by decide) (by decide))
      · skip
        have j_34 : u_22.toInt < m_nameSize.toInt := iv_nle h_27
        have iv_35 : IV m_nameSize 1 900 := iv_ltR (iv_nle h_27) hv_23 hv_m_nameSize (by decide)
        refine k_iload_n X dX11_find_54 1 rfl ?_
        refine k_if_eq 94 X dX11_find_55 (by decide) (fun h_36 => ?_) (fun h_36 => absurd (iv_eq hv_21 (show IV 0 0 0 from (by decide))) h_36)
        refine k_iload_n X dX11_find_94 1 rfl ?_
        refine k_if_eq 100 X dX11_find_95 (by decide) (fun h_37 => ?_) (fun h_37 => absurd (iv_eq hv_21 (show IV 0 0 0 from (by decide))) h_37)
        obtain ⟨z_38, ez_38⟩ : ∃ y : Int32, u_1 + Int32.ofInt 1 = y := ⟨_, rfl⟩
        refine k_iinc z_38 [(1, .int z_38), (3, .int u_22), (2, .int u_20), (0, .ref h0)] 2 X dX11_find_100 rfl ez_38 (by decide) rfl ?_
        have i_39 : z_38.toInt = u_1.toInt + 1 := in_inc ez_38 (by decide) iv_10 (by decide) (by decide)
        have iv_40 : IV z_38 1 16 := by have := iv_10; rw [IV, i_39]; omega
        refine k_goto 2 X dX11_find_103 (by decide) ?_
        refine k_lv [(1, .int z_38), (0, .ref h0)] [0, 3] rfl ?_
        exact ih_5 _ (by omega) z_38 rfl (iv_w iv_40 (by decide) (by decide))
    · skip
      have j_41 : 0 < z_14.toInt := iv_nle h_17
      have iv_42 : IV z_14 1 8 := iv_ltR (iv_nle h_17) (show IV 0 0 0 from (by decide)) iv_16 (by decide)
      refine k_aload_n X dX11_find_21 1 rfl ?_
      refine k_get (ci := 11) X inlX11 rfl 16 (by decide) dX11_find_22 mw171 0 rfl rfl ?_
      refine k_sipush (v := 167) X dX11_find_25 (by decide) ?_
      refine k_iload_n X dX11_find_28 0 rfl ?_
      refine k_iadd X dX11_find_29 ?_
      refine k_to z_11 ez_11.symm ?_
      refine k_iald X dX11_find_30 2 rfl (iv_in iv_13 (by decide) (by decide)) ?_
      refine k_to z_14 ez_14.symm ?_
      refine k_aload_n X dX11_find_31 1 rfl ?_
      refine k_get (ci := 11) X inlX11 rfl 8 (by decide) dX11_find_32 mw493 0 rfl rfl ?_
      refine k_ic_ne 42 X dX11_find_35 (by decide) (fun h_43 => ?_) (fun h_43 => ?_)
      · skip
        refine k_iconst (v := 0) X dX11_find_42 (by decide) ?_
        refine k_istore_n [(2, .int 0), (1, .int u_1), (0, .ref h0)] X dX11_find_43 (by decide) rfl ?_
        refine k_iconst (v := 0) X dX11_find_44 (by decide) ?_
        refine k_istore_n [(3, .int 0), (2, .int 0), (1, .int u_1), (0, .ref h0)] X dX11_find_45 (by decide) rfl ?_
        refine (fun hL : ∀ (nn_48 : Nat) (u_44 : Int32) (u_46 : Int32), (m_nameSize.toInt - u_46.toInt).toNat = nn_48 → (IV u_44 0 0) → (IV u_46 0 0) → Wk p l e _ s m args below meth c _ A g _ _ _ [(h0, .inr (11, [.int m_thrown, .ref a_tape, .int m_taped, .int m_size, .int m_at, .int m_end, .int m_token, .int m_whole, .int m_nameSize, .int m_fault, .int m_place, .int m_trouble, .ref a_letters, .int m_failed, .int m_hasHouse, .ref a_r, .ref a_fresh, .ref a_st, .ref a_undone, .ref a_kept, .int m_undos, .int m_images, .ref a_from, .ref a_begin, .ref a_motor, .ref a_change, .ref a_startFrame, .ref a_changeFrame, .ref a_lostAt, .ref a_blackAt, .ref a_slips, .ref a_leftArc, .ref a_died, .ref a_arcs, .int m_bestSum, .int m_nearest, .int m_nearestTown, .ref a_there, .ref a_backAt, .ref a_sorted, .ref a_parts, .int m_seed1, .int m_darkNow])), (a_letters, .inl (g.2.2.1, 8, .inl d_letters)), (a_fresh, .inl (g.2.2.1, 311, .inl d_fresh))] [(3, .int u_46), (2, .int u_44), (1, .int u_1), (0, .ref h0)] 46 [] => hL _ 0 0 rfl (iv_w (show IV 0 0 0 from (by decide)) (by decide) (by decide)) (iv_w (show IV 0 0 0 from (by decide)) (by decide) (by decide))) ?_
        refine fun nn_48 => Nat.strongRecOn nn_48 (fun nn_48 ih_50 => ?_)
        intro u_44 u_46 hm_49 hv_45 hv_47
        refine k_iload_n X dX11_find_46 0 rfl ?_
        refine k_aload_n X dX11_find_47 3 rfl ?_
        refine k_get (ci := 11) X inlX11 rfl 8 (by decide) dX11_find_48 mw493 0 rfl rfl ?_
        refine k_ic_ge 94 X dX11_find_51 (by decide) (fun h_51 => ?_) (fun h_51 => ?_)
        · skip
          have j_52 : m_nameSize.toInt ≤ u_46.toInt := iv_le h_51
          have iv_53 : IV m_nameSize 0 0 := iv_leL (iv_le h_51) hv_m_nameSize hv_47 (by decide)
          refine k_iload_n X dX11_find_94 1 rfl ?_
          refine k_if_eq 100 X dX11_find_95 (by decide) (fun h_54 => ?_) (fun h_54 => absurd (iv_eq hv_45 (show IV 0 0 0 from (by decide))) h_54)
          obtain ⟨z_55, ez_55⟩ : ∃ y : Int32, u_1 + Int32.ofInt 1 = y := ⟨_, rfl⟩
          refine k_iinc z_55 [(1, .int z_55), (3, .int u_46), (2, .int u_44), (0, .ref h0)] 2 X dX11_find_100 rfl ez_55 (by decide) rfl ?_
          have i_56 : z_55.toInt = u_1.toInt + 1 := in_inc ez_55 (by decide) iv_10 (by decide) (by decide)
          have iv_57 : IV z_55 1 16 := by have := iv_10; rw [IV, i_56]; omega
          refine k_goto 2 X dX11_find_103 (by decide) ?_
          refine k_lv [(1, .int z_55), (0, .ref h0)] [0, 3] rfl ?_
          exact ih_5 _ (by omega) z_55 rfl (iv_w iv_57 (by decide) (by decide))
        · skip
          have j_58 : u_46.toInt < m_nameSize.toInt := iv_nle h_51
          have iv_59 : IV m_nameSize 1 900 := iv_ltR (iv_nle h_51) hv_47 hv_m_nameSize (by decide)
          refine k_iload_n X dX11_find_54 1 rfl ?_
          refine k_if_eq 94 X dX11_find_55 (by decide) (fun h_60 => ?_) (fun h_60 => absurd (iv_eq hv_45 (show IV 0 0 0 from (by decide))) h_60)
          refine k_iload_n X dX11_find_94 1 rfl ?_
          refine k_if_eq 100 X dX11_find_95 (by decide) (fun h_61 => ?_) (fun h_61 => absurd (iv_eq hv_45 (show IV 0 0 0 from (by decide))) h_61)
          obtain ⟨z_62, ez_62⟩ : ∃ y : Int32, u_1 + Int32.ofInt 1 = y := ⟨_, rfl⟩
          refine k_iinc z_62 [(1, .int z_62), (3, .int u_46), (2, .int u_44), (0, .ref h0)] 2 X dX11_find_100 rfl ez_62 (by decide) rfl ?_
          have i_63 : z_62.toInt = u_1.toInt + 1 := in_inc ez_62 (by decide) iv_10 (by decide) (by decide)
          have iv_64 : IV z_62 1 16 := by have := iv_10; rw [IV, i_63]; omega
          refine k_goto 2 X dX11_find_103 (by decide) ?_
          refine k_lv [(1, .int z_62), (0, .ref h0)] [0, 3] rfl ?_
          exact ih_5 _ (by omega) z_62 rfl (iv_w iv_64 (by decide) (by decide))
      · skip
        have iv_65 : IV m_nameSize 1 8 := iv_meet hv_m_nameSize (iv_e h_43.symm iv_42) (by decide) (by decide)
        refine k_iconst (v := 1) X dX11_find_38 (by decide) ?_
        refine k_goto 43 X dX11_find_39 (by decide) ?_
        refine k_istore_n [(2, .int 1), (1, .int u_1), (0, .ref h0)] X dX11_find_43 (by decide) rfl ?_
        refine k_iconst (v := 0) X dX11_find_44 (by decide) ?_
        refine k_istore_n [(3, .int 0), (2, .int 1), (1, .int u_1), (0, .ref h0)] X dX11_find_45 (by decide) rfl ?_
        refine (fun hL : ∀ (nn_70 : Nat) (u_66 : Int32) (u_68 : Int32), (m_nameSize.toInt - u_68.toInt).toNat = nn_70 → (IV u_66 0 1) → (IV u_68 0 8) → Wk p l e _ s m args below meth c _ A g _ _ _ [(h0, .inr (11, [.int m_thrown, .ref a_tape, .int m_taped, .int m_size, .int m_at, .int m_end, .int m_token, .int m_whole, .int m_nameSize, .int m_fault, .int m_place, .int m_trouble, .ref a_letters, .int m_failed, .int m_hasHouse, .ref a_r, .ref a_fresh, .ref a_st, .ref a_undone, .ref a_kept, .int m_undos, .int m_images, .ref a_from, .ref a_begin, .ref a_motor, .ref a_change, .ref a_startFrame, .ref a_changeFrame, .ref a_lostAt, .ref a_blackAt, .ref a_slips, .ref a_leftArc, .ref a_died, .ref a_arcs, .int m_bestSum, .int m_nearest, .int m_nearestTown, .ref a_there, .ref a_backAt, .ref a_sorted, .ref a_parts, .int m_seed1, .int m_darkNow])), (a_letters, .inl (g.2.2.1, 8, .inl d_letters)), (a_fresh, .inl (g.2.2.1, 311, .inl d_fresh))] [(3, .int u_68), (2, .int u_66), (1, .int u_1), (0, .ref h0)] 46 [] => hL _ 1 0 rfl (iv_w (show IV 1 1 1 from (by decide)) (by decide) (by decide)) (iv_w (show IV 0 0 0 from (by decide)) (by decide) (by decide))) ?_
        refine fun nn_70 => Nat.strongRecOn nn_70 (fun nn_70 ih_72 => ?_)
        intro u_66 u_68 hm_71 hv_67 hv_69
        refine k_iload_n X dX11_find_46 0 rfl ?_
        refine k_aload_n X dX11_find_47 3 rfl ?_
        refine k_get (ci := 11) X inlX11 rfl 8 (by decide) dX11_find_48 mw493 0 rfl rfl ?_
        refine k_ic_ge 94 X dX11_find_51 (by decide) (fun h_73 => ?_) (fun h_73 => ?_)
        · skip
          have j_74 : m_nameSize.toInt ≤ u_68.toInt := iv_le h_73
          have iv_75 : IV u_68 1 8 := iv_leR (iv_le h_73) iv_65 hv_69 (by decide)
          refine k_iload_n X dX11_find_94 1 rfl ?_
          refine k_if_eq 100 X dX11_find_95 (by decide) (fun h_76 => ?_) (fun h_76 => ?_)
          · skip
            have iv_77 : IV u_66 0 0 := iv_meet hv_67 (iv_e h_76 (show IV 0 0 0 from (by decide))) (by decide) (by decide)
            obtain ⟨z_78, ez_78⟩ : ∃ y : Int32, u_1 + Int32.ofInt 1 = y := ⟨_, rfl⟩
            refine k_iinc z_78 [(1, .int z_78), (3, .int u_68), (2, .int u_66), (0, .ref h0)] 2 X dX11_find_100 rfl ez_78 (by decide) rfl ?_
            have i_79 : z_78.toInt = u_1.toInt + 1 := in_inc ez_78 (by decide) iv_10 (by decide) (by decide)
            have iv_80 : IV z_78 1 16 := by have := iv_10; rw [IV, i_79]; omega
            refine k_goto 2 X dX11_find_103 (by decide) ?_
            refine k_lv [(1, .int z_78), (0, .ref h0)] [0, 3] rfl ?_
            exact ih_5 _ (by omega) z_78 rfl (iv_w iv_80 (by decide) (by decide))
          · skip
            have iv_81 : IV u_66 1 1 := iv_neL h_76 hv_67 (show IV 0 0 0 from (by decide)) (by decide)
            refine k_iload_n X dX11_find_98 2 rfl ?_
            exact k_iret X hr dX11_find_99 (Nat.le_of_ble_eq_true rfl) (Nat.le_of_ble_eq_true rfl) [0, 1, 2] (by decide) rfl rfl ⟨(iv_w iv_10 (by decide) (by decide)), (Or.inr (find_p ez_14 (by omega) (by omega) (by omega))), rfl⟩
        · skip
          have j_82 : u_68.toInt < m_nameSize.toInt := iv_nle h_73
          have iv_83 : IV u_68 0 7 := iv_ltL (iv_nle h_73) hv_69 iv_65 (by decide)
          refine k_iload_n X dX11_find_54 1 rfl ?_
          refine k_if_eq 94 X dX11_find_55 (by decide) (fun h_84 => ?_) (fun h_84 => ?_)
          · skip
            have iv_85 : IV u_66 0 0 := iv_meet hv_67 (iv_e h_84 (show IV 0 0 0 from (by decide))) (by decide) (by decide)
            refine k_iload_n X dX11_find_94 1 rfl ?_
            refine k_if_eq 100 X dX11_find_95 (by decide) (fun h_86 => ?_) (fun h_86 => absurd (iv_eq iv_85 (show IV 0 0 0 from (by decide))) h_86)
            obtain ⟨z_87, ez_87⟩ : ∃ y : Int32, u_1 + Int32.ofInt 1 = y := ⟨_, rfl⟩
            refine k_iinc z_87 [(1, .int z_87), (3, .int u_68), (2, .int u_66), (0, .ref h0)] 2 X dX11_find_100 rfl ez_87 (by decide) rfl ?_
            have i_88 : z_87.toInt = u_1.toInt + 1 := in_inc ez_87 (by decide) iv_10 (by decide) (by decide)
            have iv_89 : IV z_87 1 16 := by have := iv_10; rw [IV, i_88]; omega
            refine k_goto 2 X dX11_find_103 (by decide) ?_
            refine k_lv [(1, .int z_87), (0, .ref h0)] [0, 3] rfl ?_
            exact ih_5 _ (by omega) z_87 rfl (iv_w iv_89 (by decide) (by decide))
          · skip
            have iv_90 : IV u_66 1 1 := iv_neL h_84 hv_67 (show IV 0 0 0 from (by decide)) (by decide)
            refine k_aload_n X dX11_find_58 3 rfl ?_
            refine k_get (ci := 11) X inlX11 rfl 16 (by decide) dX11_find_59 mw171 0 rfl rfl ?_
            refine k_sipush (v := 183) X dX11_find_62 (by decide) ?_
            refine k_bipush (v := 8) X dX11_find_65 (by decide) ?_
            refine k_iload_n X dX11_find_67 2 rfl ?_
            refine k_imul X dX11_find_68 ?_
            refine k_nm (fun z_91 ez_91 => ?_)
            have i_92 : z_91.toInt = 8 * u_1.toInt := in_mul ez_91 (by decide) (by decide) iv_10 (by decide) (by decide)
            have iv_93 : IV z_91 0 120 := by have := (show IV 8 8 8 from (by decide)); have := iv_10; rw [IV, i_92]; omega
            refine k_iadd X dX11_find_69 ?_
            refine k_nm (fun z_94 ez_94 => ?_)
            have i_95 : z_94.toInt = 183 + z_91.toInt := in_add ez_94 (show IV 183 183 183 from (by decide)) iv_93 (by decide) (by decide)
            have iv_96 : IV z_94 183 303 := by have := (show IV 183 183 183 from (by decide)); have := iv_93; rw [IV, i_95]; omega
            refine k_iload_n X dX11_find_70 0 rfl ?_
            refine k_iadd X dX11_find_71 ?_
            refine k_nm (fun z_97 ez_97 => ?_)
            have i_98 : z_97.toInt = z_94.toInt + u_68.toInt := in_add ez_97 iv_96 iv_83 (by decide) (by decide)
            have iv_99 : IV z_97 183 310 := by have := iv_96; have := iv_83; rw [IV, i_98]; omega
            refine k_iald X dX11_find_72 2 rfl (iv_in iv_99 (by decide) (by decide)) ?_
            refine k_nm (fun z_100 ez_100 => ?_)
            refine k_aload_n X dX11_find_73 3 rfl ?_
            refine k_get (ci := 11) X inlX11 rfl 12 (by decide) dX11_find_74 mw169 0 rfl rfl ?_
            refine k_iload_n X dX11_find_77 0 rfl ?_
            refine k_iald X dX11_find_78 1 rfl (iv_in iv_83 (by decide) (by decide)) ?_
            refine k_nm (fun z_101 ez_101 => ?_)
            refine k_ic_ne 86 X dX11_find_79 (by decide) (fun h_102 => ?_) (fun h_102 => ?_)
            · skip
              refine k_iconst (v := 0) X dX11_find_86 (by decide) ?_
              refine k_istore_n [(2, .int 0), (3, .int u_68), (1, .int u_1), (0, .ref h0)] X dX11_find_87 (by decide) rfl ?_
              obtain ⟨z_103, ez_103⟩ : ∃ y : Int32, u_68 + Int32.ofInt 1 = y := ⟨_, rfl⟩
              refine k_iinc z_103 [(3, .int z_103), (2, .int 0), (1, .int u_1), (0, .ref h0)] 1 X dX11_find_88 rfl ez_103 (by decide) rfl ?_
              have i_104 : z_103.toInt = u_68.toInt + 1 := in_inc ez_103 (by decide) iv_83 (by decide) (by decide)
              have iv_105 : IV z_103 1 8 := by have := iv_83; rw [IV, i_104]; omega
              refine k_goto 46 X dX11_find_91 (by decide) ?_
              exact ih_72 _ (by omega) 0 z_103 rfl (iv_w (show IV 0 0 0 from (by decide)) (by decide) (by decide)) (iv_w iv_105 (by decide) (by decide))
            · skip
              refine k_iconst (v := 1) X dX11_find_82 (by decide) ?_
              refine k_goto 87 X dX11_find_83 (by decide) ?_
              refine k_istore_n [(2, .int 1), (3, .int u_68), (1, .int u_1), (0, .ref h0)] X dX11_find_87 (by decide) rfl ?_
              obtain ⟨z_106, ez_106⟩ : ∃ y : Int32, u_68 + Int32.ofInt 1 = y := ⟨_, rfl⟩
              refine k_iinc z_106 [(3, .int z_106), (2, .int 1), (1, .int u_1), (0, .ref h0)] 1 X dX11_find_88 rfl ez_106 (by decide) rfl ?_
              have i_107 : z_106.toInt = u_68.toInt + 1 := in_inc ez_106 (by decide) iv_83 (by decide) (by decide)
              have iv_108 : IV z_106 1 8 := by have := iv_83; rw [IV, i_107]; omega
              refine k_goto 46 X dX11_find_91 (by decide) ?_
              exact ih_72 _ (by omega) 1 z_106 rfl (iv_w (show IV 1 1 1 from (by decide)) (by decide) (by decide)) (iv_w iv_108 (by decide) (by decide))
