theorem dX11_look_0 : decode cX11_look 0 = .ok (.iload_n 1, 1) := dk_27 rfl
theorem dX11_look_1 : decode cX11_look 1 = .ok (.aload_n 0, 1) := dk_42 rfl
theorem dX11_look_2 : decode cX11_look 2 = .ok (.getfield 92, 3) := dk_180 rfl rfl rfl rfl
theorem dX11_look_5 : decode cX11_look 5 = .ok (.if_icmp .ge 12, 3) := dk_162 rfl rfl rfl (by decide)
theorem dX11_look_8 : decode cX11_look 8 = .ok (.aload_n 0, 1) := dk_42 rfl
theorem dX11_look_9 : decode cX11_look 9 = .ok (.getfield 7, 3) := dk_180 rfl rfl rfl rfl
theorem dX11_look_12 : decode cX11_look 12 = .ok (.iload_n 1, 1) := dk_27 rfl
theorem dX11_look_13 : decode cX11_look 13 = .ok (.iaload, 1) := dk_46 rfl
theorem dX11_look_14 : decode cX11_look 14 = .ok (.goto 4, 3) := dk_167 rfl rfl rfl (by decide)
theorem dX11_look_17 : decode cX11_look 17 = .ok (.iconst (-1), 1) := dk_2 rfl
theorem dX11_look_18 : decode cX11_look 18 = .ok (.ireturn, 1) := dk_172 rfl
theorem dX11_next_0 : decode cX11_next 0 = .ok (.aload_n 0, 1) := dk_42 rfl
theorem dX11_next_1 : decode cX11_next 1 = .ok (.getfield 95, 3) := dk_180 rfl rfl rfl rfl
theorem dX11_next_4 : decode cX11_next 4 = .ok (.istore_n 1, 1) := dk_60 rfl
theorem dX11_next_5 : decode cX11_next 5 = .ok (.aload_n 0, 1) := dk_42 rfl
theorem dX11_next_6 : decode cX11_next 6 = .ok (.iload_n 1, 1) := dk_27 rfl
theorem dX11_next_7 : decode cX11_next 7 = .ok (.invokevirtual 98, 3) := dk_182 rfl rfl rfl rfl
theorem dX11_next_10 : decode cX11_next 10 = .ok (.bipush 32, 2) := dk_16 rfl rfl (by decide)
theorem dX11_next_12 : decode cX11_next 12 = .ok (.if_icmp .ne 9, 3) := dk_160 rfl rfl rfl (by decide)
theorem dX11_next_15 : decode cX11_next 15 = .ok (.iinc 1 1, 3) := dk_132 rfl rfl rfl rfl (by decide)
theorem dX11_next_18 : decode cX11_next 18 = .ok (.goto (-13), 3) := dk_167 rfl rfl rfl (by decide)
theorem dX11_next_21 : decode cX11_next 21 = .ok (.aload_n 0, 1) := dk_42 rfl
theorem dX11_next_22 : decode cX11_next 22 = .ok (.iload_n 1, 1) := dk_27 rfl
theorem dX11_next_23 : decode cX11_next 23 = .ok (.putfield 102, 3) := dk_181 rfl rfl rfl rfl
theorem dX11_next_26 : decode cX11_next 26 = .ok (.aload_n 0, 1) := dk_42 rfl
theorem dX11_next_27 : decode cX11_next 27 = .ok (.iload_n 1, 1) := dk_27 rfl
theorem dX11_next_28 : decode cX11_next 28 = .ok (.invokevirtual 98, 3) := dk_182 rfl rfl rfl rfl
theorem dX11_next_31 : decode cX11_next 31 = .ok (.istore_n 2, 1) := dk_61 rfl
theorem dX11_next_32 : decode cX11_next 32 = .ok (.aload_n 0, 1) := dk_42 rfl
theorem dX11_next_33 : decode cX11_next 33 = .ok (.iconst 0, 1) := dk_3 rfl
theorem dX11_next_34 : decode cX11_next 34 = .ok (.putfield 105, 3) := dk_181 rfl rfl rfl rfl
theorem dX11_next_37 : decode cX11_next 37 = .ok (.aload_n 0, 1) := dk_42 rfl
theorem dX11_next_38 : decode cX11_next 38 = .ok (.iconst 0, 1) := dk_3 rfl
theorem dX11_next_39 : decode cX11_next 39 = .ok (.putfield 108, 3) := dk_181 rfl rfl rfl rfl
theorem dX11_next_42 : decode cX11_next 42 = .ok (.iload_n 2, 1) := dk_28 rfl
theorem dX11_next_43 : decode cX11_next 43 = .ok (.iconst (-1), 1) := dk_2 rfl
theorem dX11_next_44 : decode cX11_next 44 = .ok (.if_icmp .ne 16, 3) := dk_160 rfl rfl rfl (by decide)
theorem dX11_next_47 : decode cX11_next 47 = .ok (.aload_n 0, 1) := dk_42 rfl
theorem dX11_next_48 : decode cX11_next 48 = .ok (.iconst 0, 1) := dk_3 rfl
theorem dX11_next_49 : decode cX11_next 49 = .ok (.putfield 111, 3) := dk_181 rfl rfl rfl rfl
theorem dX11_next_52 : decode cX11_next 52 = .ok (.aload_n 0, 1) := dk_42 rfl
theorem dX11_next_53 : decode cX11_next 53 = .ok (.iload_n 1, 1) := dk_27 rfl
theorem dX11_next_54 : decode cX11_next 54 = .ok (.putfield 95, 3) := dk_181 rfl rfl rfl rfl
theorem dX11_next_57 : decode cX11_next 57 = .ok (.goto 190, 3) := dk_167 rfl rfl rfl (by decide)
theorem dX11_next_60 : decode cX11_next 60 = .ok (.iload_n 2, 1) := dk_28 rfl
theorem dX11_next_61 : decode cX11_next 61 = .ok (.invokestatic 114, 3) := dk_184 rfl rfl rfl rfl
theorem dX11_next_64 : decode cX11_next 64 = .ok (.ifCond .eq 79, 3) := dk_153 rfl rfl rfl (by decide)
theorem dX11_next_67 : decode cX11_next 67 = .ok (.aload_n 0, 1) := dk_42 rfl
theorem dX11_next_68 : decode cX11_next 68 = .ok (.iload_n 1, 1) := dk_27 rfl
theorem dX11_next_69 : decode cX11_next 69 = .ok (.invokevirtual 98, 3) := dk_182 rfl rfl rfl rfl
theorem dX11_next_72 : decode cX11_next 72 = .ok (.invokestatic 114, 3) := dk_184 rfl rfl rfl rfl
theorem dX11_next_75 : decode cX11_next 75 = .ok (.ifCond .eq 42, 3) := dk_153 rfl rfl rfl (by decide)
theorem dX11_next_78 : decode cX11_next 78 = .ok (.aload_n 0, 1) := dk_42 rfl
theorem dX11_next_79 : decode cX11_next 79 = .ok (.getfield 105, 3) := dk_180 rfl rfl rfl rfl
theorem dX11_next_82 : decode cX11_next 82 = .ok (.bipush 8, 2) := dk_16 rfl rfl (by decide)
theorem dX11_next_84 : decode cX11_next 84 = .ok (.if_icmp .ge 17, 3) := dk_162 rfl rfl rfl (by decide)
theorem dX11_next_87 : decode cX11_next 87 = .ok (.aload_n 0, 1) := dk_42 rfl
theorem dX11_next_88 : decode cX11_next 88 = .ok (.getfield 17, 3) := dk_180 rfl rfl rfl rfl
theorem dX11_next_91 : decode cX11_next 91 = .ok (.aload_n 0, 1) := dk_42 rfl
theorem dX11_next_92 : decode cX11_next 92 = .ok (.getfield 105, 3) := dk_180 rfl rfl rfl rfl
theorem dX11_next_95 : decode cX11_next 95 = .ok (.aload_n 0, 1) := dk_42 rfl
theorem dX11_next_96 : decode cX11_next 96 = .ok (.iload_n 1, 1) := dk_27 rfl
theorem dX11_next_97 : decode cX11_next 97 = .ok (.invokevirtual 98, 3) := by decide +kernel
theorem dX11_next_100 : decode cX11_next 100 = .ok (.iastore, 1) := by decide +kernel
theorem dX11_next_101 : decode cX11_next 101 = .ok (.aload_n 0, 1) := by decide +kernel
theorem dX11_next_102 : decode cX11_next 102 = .ok (.dup, 1) := by decide +kernel
theorem dX11_next_103 : decode cX11_next 103 = .ok (.getfield 105, 3) := by decide +kernel
theorem dX11_next_106 : decode cX11_next 106 = .ok (.iconst 1, 1) := by decide +kernel
theorem dX11_next_107 : decode cX11_next 107 = .ok (.iadd, 1) := by decide +kernel
theorem dX11_next_108 : decode cX11_next 108 = .ok (.putfield 105, 3) := by decide +kernel
theorem dX11_next_111 : decode cX11_next 111 = .ok (.iinc 1 1, 3) := by decide +kernel
theorem dX11_next_114 : decode cX11_next 114 = .ok (.goto (-47), 3) := by decide +kernel
theorem dX11_next_117 : decode cX11_next 117 = .ok (.aload_n 0, 1) := by decide +kernel
theorem dX11_next_118 : decode cX11_next 118 = .ok (.iload_n 1, 1) := by decide +kernel
theorem dX11_next_119 : decode cX11_next 119 = .ok (.putfield 95, 3) := by decide +kernel
theorem dX11_next_122 : decode cX11_next 122 = .ok (.aload_n 0, 1) := by decide +kernel
theorem dX11_next_123 : decode cX11_next 123 = .ok (.aload_n 0, 1) := by decide +kernel
theorem dX11_next_124 : decode cX11_next 124 = .ok (.getfield 105, 3) := by decide +kernel
theorem dX11_next_127 : decode cX11_next 127 = .ok (.bipush 8, 2) := by decide +kernel
theorem dX11_next_129 : decode cX11_next 129 = .ok (.if_icmp .le 7, 3) := by decide +kernel
theorem dX11_next_132 : decode cX11_next 132 = .ok (.iconst 1, 1) := by decide +kernel
theorem dX11_next_133 : decode cX11_next 133 = .ok (.goto 4, 3) := by decide +kernel
theorem dX11_next_136 : decode cX11_next 136 = .ok (.iconst 2, 1) := by decide +kernel
theorem dX11_next_137 : decode cX11_next 137 = .ok (.putfield 111, 3) := by decide +kernel
theorem dX11_next_140 : decode cX11_next 140 = .ok (.goto 107, 3) := by decide +kernel
theorem dX11_next_143 : decode cX11_next 143 = .ok (.iload_n 2, 1) := by decide +kernel
theorem dX11_next_144 : decode cX11_next 144 = .ok (.invokestatic 118, 3) := by decide +kernel
theorem dX11_next_147 : decode cX11_next 147 = .ok (.ifCond .eq 72, 3) := by decide +kernel
theorem dX11_next_150 : decode cX11_next 150 = .ok (.iconst 0, 1) := by decide +kernel
theorem dX11_next_151 : decode cX11_next 151 = .ok (.istore_n 3, 1) := by decide +kernel
theorem dX11_next_152 : decode cX11_next 152 = .ok (.aload_n 0, 1) := by decide +kernel
theorem dX11_next_153 : decode cX11_next 153 = .ok (.iload_n 1, 1) := by decide +kernel
theorem dX11_next_154 : decode cX11_next 154 = .ok (.invokevirtual 98, 3) := by decide +kernel
theorem dX11_next_157 : decode cX11_next 157 = .ok (.invokestatic 118, 3) := by decide +kernel
theorem dX11_next_160 : decode cX11_next 160 = .ok (.ifCond .eq 37, 3) := by decide +kernel
theorem dX11_next_163 : decode cX11_next 163 = .ok (.iload_n 3, 1) := by decide +kernel
theorem dX11_next_164 : decode cX11_next 164 = .ok (.iconst 4, 1) := by decide +kernel
theorem dX11_next_165 : decode cX11_next 165 = .ok (.if_icmp .ge 23, 3) := by decide +kernel
theorem dX11_next_168 : decode cX11_next 168 = .ok (.aload_n 0, 1) := by decide +kernel
theorem dX11_next_169 : decode cX11_next 169 = .ok (.bipush 10, 2) := by decide +kernel
theorem dX11_next_171 : decode cX11_next 171 = .ok (.aload_n 0, 1) := by decide +kernel
theorem dX11_next_172 : decode cX11_next 172 = .ok (.getfield 108, 3) := by decide +kernel
theorem dX11_next_175 : decode cX11_next 175 = .ok (.imul, 1) := by decide +kernel
theorem dX11_next_176 : decode cX11_next 176 = .ok (.aload_n 0, 1) := by decide +kernel
theorem dX11_next_177 : decode cX11_next 177 = .ok (.iload_n 1, 1) := by decide +kernel
theorem dX11_next_178 : decode cX11_next 178 = .ok (.invokevirtual 98, 3) := by decide +kernel
theorem dX11_next_181 : decode cX11_next 181 = .ok (.iadd, 1) := by decide +kernel
theorem dX11_next_182 : decode cX11_next 182 = .ok (.bipush 48, 2) := by decide +kernel
theorem dX11_next_184 : decode cX11_next 184 = .ok (.isub, 1) := by decide +kernel
theorem dX11_next_185 : decode cX11_next 185 = .ok (.putfield 108, 3) := by decide +kernel
theorem dX11_next_188 : decode cX11_next 188 = .ok (.iinc 3 1, 3) := by decide +kernel
theorem dX11_next_191 : decode cX11_next 191 = .ok (.iinc 1 1, 3) := by decide +kernel
theorem dX11_next_194 : decode cX11_next 194 = .ok (.goto (-42), 3) := by decide +kernel
theorem dX11_next_197 : decode cX11_next 197 = .ok (.aload_n 0, 1) := by decide +kernel
theorem dX11_next_198 : decode cX11_next 198 = .ok (.iload_n 1, 1) := by decide +kernel
theorem dX11_next_199 : decode cX11_next 199 = .ok (.putfield 95, 3) := by decide +kernel
theorem dX11_next_202 : decode cX11_next 202 = .ok (.aload_n 0, 1) := by decide +kernel
theorem dX11_next_203 : decode cX11_next 203 = .ok (.iload_n 3, 1) := by decide +kernel
theorem dX11_next_204 : decode cX11_next 204 = .ok (.iconst 4, 1) := by decide +kernel
theorem dX11_next_205 : decode cX11_next 205 = .ok (.if_icmp .le 7, 3) := by decide +kernel
theorem dX11_next_208 : decode cX11_next 208 = .ok (.iconst 1, 1) := by decide +kernel
theorem dX11_next_209 : decode cX11_next 209 = .ok (.goto 4, 3) := by decide +kernel
theorem dX11_next_212 : decode cX11_next 212 = .ok (.iconst 3, 1) := by decide +kernel
theorem dX11_next_213 : decode cX11_next 213 = .ok (.putfield 111, 3) := by decide +kernel
theorem dX11_next_216 : decode cX11_next 216 = .ok (.goto 31, 3) := by decide +kernel
theorem dX11_next_219 : decode cX11_next 219 = .ok (.aload_n 0, 1) := by decide +kernel
theorem dX11_next_220 : decode cX11_next 220 = .ok (.iload_n 1, 1) := by decide +kernel
theorem dX11_next_221 : decode cX11_next 221 = .ok (.iconst 1, 1) := by decide +kernel
theorem dX11_next_222 : decode cX11_next 222 = .ok (.iadd, 1) := by decide +kernel
theorem dX11_next_223 : decode cX11_next 223 = .ok (.putfield 95, 3) := by decide +kernel
theorem dX11_next_226 : decode cX11_next 226 = .ok (.aload_n 0, 1) := by decide +kernel
theorem dX11_next_227 : decode cX11_next 227 = .ok (.iload_n 2, 1) := by decide +kernel
theorem dX11_next_228 : decode cX11_next 228 = .ok (.bipush 59, 2) := by decide +kernel
theorem dX11_next_230 : decode cX11_next 230 = .ok (.if_icmp .eq 9, 3) := by decide +kernel
theorem dX11_next_233 : decode cX11_next 233 = .ok (.iload_n 2, 1) := by decide +kernel
theorem dX11_next_234 : decode cX11_next 234 = .ok (.bipush 44, 2) := by decide +kernel
theorem dX11_next_236 : decode cX11_next 236 = .ok (.if_icmp .ne 7, 3) := by decide +kernel
theorem dX11_next_239 : decode cX11_next 239 = .ok (.iload_n 2, 1) := by decide +kernel
theorem dX11_next_240 : decode cX11_next 240 = .ok (.goto 4, 3) := by decide +kernel
theorem dX11_next_243 : decode cX11_next 243 = .ok (.iconst 1, 1) := by decide +kernel
theorem dX11_next_244 : decode cX11_next 244 = .ok (.putfield 111, 3) := by decide +kernel
theorem dX11_next_247 : decode cX11_next 247 = .ok (.return_, 1) := by decide +kernel
theorem dX11_bad_0 : decode cX11_bad 0 = .ok (.aload_n 0, 1) := dk_42 rfl
theorem dX11_bad_1 : decode cX11_bad 1 = .ok (.getfield 121, 3) := dk_180 rfl rfl rfl rfl
theorem dX11_bad_4 : decode cX11_bad 4 = .ok (.ifCond .eq 4, 3) := dk_153 rfl rfl rfl (by decide)
theorem dX11_bad_7 : decode cX11_bad 7 = .ok (.return_, 1) := dk_177 rfl
theorem dX11_bad_8 : decode cX11_bad 8 = .ok (.aload_n 0, 1) := dk_42 rfl
theorem dX11_bad_9 : decode cX11_bad 9 = .ok (.iconst 1, 1) := dk_4 rfl
theorem dX11_bad_10 : decode cX11_bad 10 = .ok (.putfield 121, 3) := dk_181 rfl rfl rfl rfl
theorem dX11_bad_13 : decode cX11_bad 13 = .ok (.aload_n 0, 1) := dk_42 rfl
theorem dX11_bad_14 : decode cX11_bad 14 = .ok (.iload_n 1, 1) := dk_27 rfl
theorem dX11_bad_15 : decode cX11_bad 15 = .ok (.putfield 125, 3) := dk_181 rfl rfl rfl rfl
theorem dX11_bad_18 : decode cX11_bad 18 = .ok (.aload_n 0, 1) := dk_42 rfl
theorem dX11_bad_19 : decode cX11_bad 19 = .ok (.iload_n 2, 1) := dk_28 rfl
theorem dX11_bad_20 : decode cX11_bad 20 = .ok (.putfield 13, 3) := dk_181 rfl rfl rfl rfl
theorem dX11_bad_23 : decode cX11_bad 23 = .ok (.return_, 1) := dk_177 rfl
theorem dX11_isWord_0 : decode cX11_isWord 0 = .ok (.aload_n 0, 1) := dk_42 rfl
theorem dX11_isWord_1 : decode cX11_isWord 1 = .ok (.getfield 121, 3) := dk_180 rfl rfl rfl rfl
theorem dX11_isWord_4 : decode cX11_isWord 4 = .ok (.ifCond .ne 22, 3) := dk_154 rfl rfl rfl (by decide)
theorem dX11_isWord_7 : decode cX11_isWord 7 = .ok (.aload_n 0, 1) := dk_42 rfl
theorem dX11_isWord_8 : decode cX11_isWord 8 = .ok (.getfield 111, 3) := dk_180 rfl rfl rfl rfl
theorem dX11_isWord_11 : decode cX11_isWord 11 = .ok (.iconst 2, 1) := dk_5 rfl
theorem dX11_isWord_12 : decode cX11_isWord 12 = .ok (.if_icmp .ne 14, 3) := dk_160 rfl rfl rfl (by decide)
theorem dX11_isWord_15 : decode cX11_isWord 15 = .ok (.aload_n 0, 1) := dk_42 rfl
theorem dX11_isWord_16 : decode cX11_isWord 16 = .ok (.getfield 105, 3) := dk_180 rfl rfl rfl rfl
theorem dX11_isWord_19 : decode cX11_isWord 19 = .ok (.aload_n 1, 1) := dk_43 rfl
theorem dX11_isWord_20 : decode cX11_isWord 20 = .ok (.invokevirtual 128, 3) := dk_182 rfl rfl rfl rfl
theorem dX11_isWord_23 : decode cX11_isWord 23 = .ok (.if_icmp .eq 5, 3) := dk_159 rfl rfl rfl (by decide)
theorem dX11_isWord_26 : decode cX11_isWord 26 = .ok (.iconst 0, 1) := dk_3 rfl
theorem dX11_isWord_27 : decode cX11_isWord 27 = .ok (.ireturn, 1) := dk_172 rfl
theorem dX11_isWord_28 : decode cX11_isWord 28 = .ok (.iconst 1, 1) := dk_4 rfl
theorem dX11_isWord_29 : decode cX11_isWord 29 = .ok (.istore_n 2, 1) := dk_61 rfl
theorem dX11_isWord_30 : decode cX11_isWord 30 = .ok (.iconst 0, 1) := dk_3 rfl
theorem dX11_isWord_31 : decode cX11_isWord 31 = .ok (.istore_n 3, 1) := dk_62 rfl
theorem dX11_isWord_32 : decode cX11_isWord 32 = .ok (.iload_n 3, 1) := dk_29 rfl
theorem dX11_isWord_33 : decode cX11_isWord 33 = .ok (.aload_n 0, 1) := dk_42 rfl
theorem dX11_isWord_34 : decode cX11_isWord 34 = .ok (.getfield 105, 3) := dk_180 rfl rfl rfl rfl
theorem dX11_isWord_37 : decode cX11_isWord 37 = .ok (.if_icmp .ge 33, 3) := dk_162 rfl rfl rfl (by decide)
theorem dX11_isWord_40 : decode cX11_isWord 40 = .ok (.iload_n 2, 1) := dk_28 rfl
theorem dX11_isWord_41 : decode cX11_isWord 41 = .ok (.ifCond .eq 21, 3) := dk_153 rfl rfl rfl (by decide)
theorem dX11_isWord_44 : decode cX11_isWord 44 = .ok (.aload_n 0, 1) := dk_42 rfl
theorem dX11_isWord_45 : decode cX11_isWord 45 = .ok (.getfield 17, 3) := dk_180 rfl rfl rfl rfl
theorem dX11_isWord_48 : decode cX11_isWord 48 = .ok (.iload_n 3, 1) := dk_29 rfl
theorem dX11_isWord_49 : decode cX11_isWord 49 = .ok (.iaload, 1) := dk_46 rfl
theorem dX11_isWord_50 : decode cX11_isWord 50 = .ok (.aload_n 1, 1) := dk_43 rfl
theorem dX11_isWord_51 : decode cX11_isWord 51 = .ok (.iload_n 3, 1) := dk_29 rfl
theorem dX11_isWord_52 : decode cX11_isWord 52 = .ok (.invokevirtual 134, 3) := dk_182 rfl rfl rfl rfl
theorem dX11_isWord_55 : decode cX11_isWord 55 = .ok (.if_icmp .ne 7, 3) := dk_160 rfl rfl rfl (by decide)
theorem dX11_isWord_58 : decode cX11_isWord 58 = .ok (.iconst 1, 1) := dk_4 rfl
theorem dX11_isWord_59 : decode cX11_isWord 59 = .ok (.goto 4, 3) := dk_167 rfl rfl rfl (by decide)
theorem dX11_isWord_62 : decode cX11_isWord 62 = .ok (.iconst 0, 1) := dk_3 rfl
theorem dX11_isWord_63 : decode cX11_isWord 63 = .ok (.istore_n 2, 1) := dk_61 rfl
theorem dX11_isWord_64 : decode cX11_isWord 64 = .ok (.iinc 3 1, 3) := dk_132 rfl rfl rfl rfl (by decide)
theorem dX11_isWord_67 : decode cX11_isWord 67 = .ok (.goto (-35), 3) := dk_167 rfl rfl rfl (by decide)
theorem dX11_isWord_70 : decode cX11_isWord 70 = .ok (.iload_n 2, 1) := dk_28 rfl
theorem dX11_isWord_71 : decode cX11_isWord 71 = .ok (.ireturn, 1) := dk_172 rfl
theorem dX11_takesWord_0 : decode cX11_takesWord 0 = .ok (.aload_n 0, 1) := dk_42 rfl
theorem dX11_takesWord_1 : decode cX11_takesWord 1 = .ok (.aload_n 1, 1) := dk_43 rfl
theorem dX11_takesWord_2 : decode cX11_takesWord 2 = .ok (.invokevirtual 138, 3) := dk_182 rfl rfl rfl rfl
theorem dX11_takesWord_5 : decode cX11_takesWord 5 = .ok (.ifCond .ne 5, 3) := dk_154 rfl rfl rfl (by decide)
theorem dX11_takesWord_8 : decode cX11_takesWord 8 = .ok (.iconst 0, 1) := dk_3 rfl
theorem dX11_takesWord_9 : decode cX11_takesWord 9 = .ok (.ireturn, 1) := dk_172 rfl
theorem dX11_takesWord_10 : decode cX11_takesWord 10 = .ok (.aload_n 0, 1) := dk_42 rfl
theorem dX11_takesWord_11 : decode cX11_takesWord 11 = .ok (.invokevirtual 142, 3) := dk_182 rfl rfl rfl rfl
theorem dX11_takesWord_14 : decode cX11_takesWord 14 = .ok (.iconst 1, 1) := dk_4 rfl
theorem dX11_takesWord_15 : decode cX11_takesWord 15 = .ok (.ireturn, 1) := dk_172 rfl
theorem dX11_must_0 : decode cX11_must 0 = .ok (.aload_n 0, 1) := dk_42 rfl
theorem dX11_must_1 : decode cX11_must 1 = .ok (.getfield 121, 3) := dk_180 rfl rfl rfl rfl
theorem dX11_must_4 : decode cX11_must 4 = .ok (.ifCond .ne 20, 3) := dk_154 rfl rfl rfl (by decide)
theorem dX11_must_7 : decode cX11_must 7 = .ok (.aload_n 0, 1) := dk_42 rfl
theorem dX11_must_8 : decode cX11_must 8 = .ok (.aload_n 1, 1) := dk_43 rfl
theorem dX11_must_9 : decode cX11_must 9 = .ok (.invokevirtual 145, 3) := dk_182 rfl rfl rfl rfl
theorem dX11_must_12 : decode cX11_must 12 = .ok (.ifCond .ne 12, 3) := dk_154 rfl rfl rfl (by decide)
theorem dX11_must_15 : decode cX11_must 15 = .ok (.aload_n 0, 1) := dk_42 rfl
theorem dX11_must_16 : decode cX11_must 16 = .ok (.iconst 1, 1) := dk_4 rfl
theorem dX11_must_17 : decode cX11_must 17 = .ok (.aload_n 0, 1) := dk_42 rfl
theorem dX11_must_18 : decode cX11_must 18 = .ok (.getfield 102, 3) := dk_180 rfl rfl rfl rfl
theorem dX11_must_21 : decode cX11_must 21 = .ok (.invokevirtual 148, 3) := dk_182 rfl rfl rfl rfl
theorem dX11_must_24 : decode cX11_must 24 = .ok (.return_, 1) := dk_177 rfl
theorem dX11_mustName_0 : decode cX11_mustName 0 = .ok (.aload_n 0, 1) := dk_42 rfl
theorem dX11_mustName_1 : decode cX11_mustName 1 = .ok (.ldc 152, 2) := dk_18 rfl rfl rfl
theorem dX11_mustName_3 : decode cX11_mustName 3 = .ok (.invokevirtual 138, 3) := dk_182 rfl rfl rfl rfl
theorem dX11_mustName_6 : decode cX11_mustName 6 = .ok (.ifCond .ne 102, 3) := dk_154 rfl rfl rfl (by decide)
theorem dX11_mustName_9 : decode cX11_mustName 9 = .ok (.aload_n 0, 1) := dk_42 rfl
theorem dX11_mustName_10 : decode cX11_mustName 10 = .ok (.ldc 154, 2) := dk_18 rfl rfl rfl
theorem dX11_mustName_12 : decode cX11_mustName 12 = .ok (.invokevirtual 138, 3) := dk_182 rfl rfl rfl rfl
theorem dX11_mustName_15 : decode cX11_mustName 15 = .ok (.ifCond .ne 93, 3) := dk_154 rfl rfl rfl (by decide)
theorem dX11_mustName_18 : decode cX11_mustName 18 = .ok (.aload_n 0, 1) := dk_42 rfl
theorem dX11_mustName_19 : decode cX11_mustName 19 = .ok (.ldc 156, 2) := dk_18 rfl rfl rfl
theorem dX11_mustName_21 : decode cX11_mustName 21 = .ok (.invokevirtual 138, 3) := dk_182 rfl rfl rfl rfl
theorem dX11_mustName_24 : decode cX11_mustName 24 = .ok (.ifCond .ne 84, 3) := dk_154 rfl rfl rfl (by decide)
theorem dX11_mustName_27 : decode cX11_mustName 27 = .ok (.aload_n 0, 1) := dk_42 rfl
theorem dX11_mustName_28 : decode cX11_mustName 28 = .ok (.ldc 158, 2) := dk_18 rfl rfl rfl
theorem dX11_mustName_30 : decode cX11_mustName 30 = .ok (.invokevirtual 138, 3) := dk_182 rfl rfl rfl rfl
theorem dX11_mustName_33 : decode cX11_mustName 33 = .ok (.ifCond .ne 75, 3) := dk_154 rfl rfl rfl (by decide)
theorem dX11_mustName_36 : decode cX11_mustName 36 = .ok (.aload_n 0, 1) := dk_42 rfl
theorem dX11_mustName_37 : decode cX11_mustName 37 = .ok (.ldc 160, 2) := dk_18 rfl rfl rfl
theorem dX11_mustName_39 : decode cX11_mustName 39 = .ok (.invokevirtual 138, 3) := dk_182 rfl rfl rfl rfl
theorem dX11_mustName_42 : decode cX11_mustName 42 = .ok (.ifCond .ne 66, 3) := dk_154 rfl rfl rfl (by decide)
theorem dX11_mustName_45 : decode cX11_mustName 45 = .ok (.aload_n 0, 1) := dk_42 rfl
theorem dX11_mustName_46 : decode cX11_mustName 46 = .ok (.ldc 162, 2) := dk_18 rfl rfl rfl
theorem dX11_mustName_48 : decode cX11_mustName 48 = .ok (.invokevirtual 138, 3) := dk_182 rfl rfl rfl rfl
theorem dX11_mustName_51 : decode cX11_mustName 51 = .ok (.ifCond .ne 57, 3) := dk_154 rfl rfl rfl (by decide)
theorem dX11_mustName_54 : decode cX11_mustName 54 = .ok (.aload_n 0, 1) := dk_42 rfl
theorem dX11_mustName_55 : decode cX11_mustName 55 = .ok (.ldc 164, 2) := dk_18 rfl rfl rfl
theorem dX11_mustName_57 : decode cX11_mustName 57 = .ok (.invokevirtual 138, 3) := dk_182 rfl rfl rfl rfl
theorem dX11_mustName_60 : decode cX11_mustName 60 = .ok (.ifCond .ne 48, 3) := dk_154 rfl rfl rfl (by decide)
theorem dX11_mustName_63 : decode cX11_mustName 63 = .ok (.aload_n 0, 1) := dk_42 rfl
theorem dX11_mustName_64 : decode cX11_mustName 64 = .ok (.ldc 166, 2) := dk_18 rfl rfl rfl
theorem dX11_mustName_66 : decode cX11_mustName 66 = .ok (.invokevirtual 138, 3) := dk_182 rfl rfl rfl rfl
theorem dX11_mustName_69 : decode cX11_mustName 69 = .ok (.ifCond .ne 39, 3) := dk_154 rfl rfl rfl (by decide)
theorem dX11_mustName_72 : decode cX11_mustName 72 = .ok (.aload_n 0, 1) := dk_42 rfl
theorem dX11_mustName_73 : decode cX11_mustName 73 = .ok (.ldc 168, 2) := dk_18 rfl rfl rfl
theorem dX11_mustName_75 : decode cX11_mustName 75 = .ok (.invokevirtual 138, 3) := dk_182 rfl rfl rfl rfl
theorem dX11_mustName_78 : decode cX11_mustName 78 = .ok (.ifCond .ne 30, 3) := dk_154 rfl rfl rfl (by decide)
theorem dX11_mustName_81 : decode cX11_mustName 81 = .ok (.aload_n 0, 1) := dk_42 rfl
theorem dX11_mustName_82 : decode cX11_mustName 82 = .ok (.ldc 170, 2) := dk_18 rfl rfl rfl
theorem dX11_mustName_84 : decode cX11_mustName 84 = .ok (.invokevirtual 138, 3) := dk_182 rfl rfl rfl rfl
theorem dX11_mustName_87 : decode cX11_mustName 87 = .ok (.ifCond .ne 21, 3) := dk_154 rfl rfl rfl (by decide)
theorem dX11_mustName_90 : decode cX11_mustName 90 = .ok (.aload_n 0, 1) := dk_42 rfl
theorem dX11_mustName_91 : decode cX11_mustName 91 = .ok (.ldc 172, 2) := dk_18 rfl rfl rfl
theorem dX11_mustName_93 : decode cX11_mustName 93 = .ok (.invokevirtual 138, 3) := dk_182 rfl rfl rfl rfl
theorem dX11_mustName_96 : decode cX11_mustName 96 = .ok (.ifCond .ne 12, 3) := dk_154 rfl rfl rfl (by decide)
theorem dX11_mustName_99 : decode cX11_mustName 99 = .ok (.aload_n 0, 1) := by decide +kernel
theorem dX11_mustName_100 : decode cX11_mustName 100 = .ok (.ldc 174, 2) := by decide +kernel
theorem dX11_mustName_102 : decode cX11_mustName 102 = .ok (.invokevirtual 138, 3) := by decide +kernel
theorem dX11_mustName_105 : decode cX11_mustName 105 = .ok (.ifCond .eq 7, 3) := by decide +kernel
theorem dX11_mustName_108 : decode cX11_mustName 108 = .ok (.iconst 1, 1) := by decide +kernel
theorem dX11_mustName_109 : decode cX11_mustName 109 = .ok (.goto 4, 3) := by decide +kernel
theorem dX11_mustName_112 : decode cX11_mustName 112 = .ok (.iconst 0, 1) := by decide +kernel
theorem dX11_mustName_113 : decode cX11_mustName 113 = .ok (.istore_n 1, 1) := by decide +kernel
theorem dX11_mustName_114 : decode cX11_mustName 114 = .ok (.aload_n 0, 1) := by decide +kernel
theorem dX11_mustName_115 : decode cX11_mustName 115 = .ok (.getfield 111, 3) := by decide +kernel
theorem dX11_mustName_118 : decode cX11_mustName 118 = .ok (.iconst 2, 1) := by decide +kernel
theorem dX11_mustName_119 : decode cX11_mustName 119 = .ok (.if_icmp .ne 7, 3) := by decide +kernel
theorem dX11_mustName_122 : decode cX11_mustName 122 = .ok (.iload_n 1, 1) := by decide +kernel
theorem dX11_mustName_123 : decode cX11_mustName 123 = .ok (.ifCond .eq 12, 3) := by decide +kernel
theorem dX11_mustName_126 : decode cX11_mustName 126 = .ok (.aload_n 0, 1) := by decide +kernel
theorem dX11_mustName_127 : decode cX11_mustName 127 = .ok (.iconst 1, 1) := by decide +kernel
theorem dX11_mustName_128 : decode cX11_mustName 128 = .ok (.aload_n 0, 1) := by decide +kernel
theorem dX11_mustName_129 : decode cX11_mustName 129 = .ok (.getfield 102, 3) := by decide +kernel
theorem dX11_mustName_132 : decode cX11_mustName 132 = .ok (.invokevirtual 148, 3) := by decide +kernel
theorem dX11_mustName_135 : decode cX11_mustName 135 = .ok (.return_, 1) := by decide +kernel
theorem dX11_find_0 : decode cX11_find 0 = .ok (.iconst 0, 1) := dk_3 rfl
theorem dX11_find_1 : decode cX11_find 1 = .ok (.istore_n 1, 1) := dk_60 rfl
theorem dX11_find_2 : decode cX11_find 2 = .ok (.iload_n 1, 1) := dk_27 rfl
theorem dX11_find_3 : decode cX11_find 3 = .ok (.bipush 16, 2) := dk_16 rfl rfl (by decide)
theorem dX11_find_5 : decode cX11_find 5 = .ok (.if_icmp .ge 101, 3) := dk_162 rfl rfl rfl (by decide)
theorem dX11_find_8 : decode cX11_find 8 = .ok (.aload_n 0, 1) := dk_42 rfl
theorem dX11_find_9 : decode cX11_find 9 = .ok (.getfield 23, 3) := dk_180 rfl rfl rfl rfl
theorem dX11_find_12 : decode cX11_find 12 = .ok (.sipush 167, 3) := dk_17 rfl rfl rfl (by decide)
theorem dX11_find_15 : decode cX11_find 15 = .ok (.iload_n 1, 1) := dk_27 rfl
theorem dX11_find_16 : decode cX11_find 16 = .ok (.iadd, 1) := dk_96 rfl
theorem dX11_find_17 : decode cX11_find 17 = .ok (.iaload, 1) := dk_46 rfl
theorem dX11_find_18 : decode cX11_find 18 = .ok (.ifCond .le 24, 3) := dk_158 rfl rfl rfl (by decide)
theorem dX11_find_21 : decode cX11_find 21 = .ok (.aload_n 0, 1) := dk_42 rfl
theorem dX11_find_22 : decode cX11_find 22 = .ok (.getfield 23, 3) := dk_180 rfl rfl rfl rfl
theorem dX11_find_25 : decode cX11_find 25 = .ok (.sipush 167, 3) := dk_17 rfl rfl rfl (by decide)
theorem dX11_find_28 : decode cX11_find 28 = .ok (.iload_n 1, 1) := dk_27 rfl
theorem dX11_find_29 : decode cX11_find 29 = .ok (.iadd, 1) := dk_96 rfl
theorem dX11_find_30 : decode cX11_find 30 = .ok (.iaload, 1) := dk_46 rfl
theorem dX11_find_31 : decode cX11_find 31 = .ok (.aload_n 0, 1) := dk_42 rfl
theorem dX11_find_32 : decode cX11_find 32 = .ok (.getfield 105, 3) := dk_180 rfl rfl rfl rfl
theorem dX11_find_35 : decode cX11_find 35 = .ok (.if_icmp .ne 7, 3) := dk_160 rfl rfl rfl (by decide)
theorem dX11_find_38 : decode cX11_find 38 = .ok (.iconst 1, 1) := dk_4 rfl
theorem dX11_find_39 : decode cX11_find 39 = .ok (.goto 4, 3) := dk_167 rfl rfl rfl (by decide)
theorem dX11_find_42 : decode cX11_find 42 = .ok (.iconst 0, 1) := dk_3 rfl
theorem dX11_find_43 : decode cX11_find 43 = .ok (.istore_n 2, 1) := dk_61 rfl
theorem dX11_find_44 : decode cX11_find 44 = .ok (.iconst 0, 1) := dk_3 rfl
theorem dX11_find_45 : decode cX11_find 45 = .ok (.istore_n 3, 1) := dk_62 rfl
theorem dX11_find_46 : decode cX11_find 46 = .ok (.iload_n 3, 1) := dk_29 rfl
theorem dX11_find_47 : decode cX11_find 47 = .ok (.aload_n 0, 1) := dk_42 rfl
theorem dX11_find_48 : decode cX11_find 48 = .ok (.getfield 105, 3) := dk_180 rfl rfl rfl rfl
theorem dX11_find_51 : decode cX11_find 51 = .ok (.if_icmp .ge 43, 3) := dk_162 rfl rfl rfl (by decide)
theorem dX11_find_54 : decode cX11_find 54 = .ok (.iload_n 2, 1) := dk_28 rfl
theorem dX11_find_55 : decode cX11_find 55 = .ok (.ifCond .eq 39, 3) := dk_153 rfl rfl rfl (by decide)
theorem dX11_find_58 : decode cX11_find 58 = .ok (.aload_n 0, 1) := dk_42 rfl
theorem dX11_find_59 : decode cX11_find 59 = .ok (.getfield 23, 3) := dk_180 rfl rfl rfl rfl
theorem dX11_find_62 : decode cX11_find 62 = .ok (.sipush 183, 3) := dk_17 rfl rfl rfl (by decide)
theorem dX11_find_65 : decode cX11_find 65 = .ok (.bipush 8, 2) := dk_16 rfl rfl (by decide)
theorem dX11_find_67 : decode cX11_find 67 = .ok (.iload_n 1, 1) := dk_27 rfl
theorem dX11_find_68 : decode cX11_find 68 = .ok (.imul, 1) := dk_104 rfl
theorem dX11_find_69 : decode cX11_find 69 = .ok (.iadd, 1) := dk_96 rfl
theorem dX11_find_70 : decode cX11_find 70 = .ok (.iload_n 3, 1) := dk_29 rfl
theorem dX11_find_71 : decode cX11_find 71 = .ok (.iadd, 1) := dk_96 rfl
theorem dX11_find_72 : decode cX11_find 72 = .ok (.iaload, 1) := dk_46 rfl
theorem dX11_find_73 : decode cX11_find 73 = .ok (.aload_n 0, 1) := dk_42 rfl
theorem dX11_find_74 : decode cX11_find 74 = .ok (.getfield 17, 3) := dk_180 rfl rfl rfl rfl
theorem dX11_find_77 : decode cX11_find 77 = .ok (.iload_n 3, 1) := dk_29 rfl
theorem dX11_find_78 : decode cX11_find 78 = .ok (.iaload, 1) := dk_46 rfl
theorem dX11_find_79 : decode cX11_find 79 = .ok (.if_icmp .ne 7, 3) := dk_160 rfl rfl rfl (by decide)
theorem dX11_find_82 : decode cX11_find 82 = .ok (.iconst 1, 1) := dk_4 rfl
theorem dX11_find_83 : decode cX11_find 83 = .ok (.goto 4, 3) := dk_167 rfl rfl rfl (by decide)
theorem dX11_find_86 : decode cX11_find 86 = .ok (.iconst 0, 1) := dk_3 rfl
theorem dX11_find_87 : decode cX11_find 87 = .ok (.istore_n 2, 1) := dk_61 rfl
theorem dX11_find_88 : decode cX11_find 88 = .ok (.iinc 3 1, 3) := dk_132 rfl rfl rfl rfl (by decide)
theorem dX11_find_91 : decode cX11_find 91 = .ok (.goto (-45), 3) := dk_167 rfl rfl rfl (by decide)
theorem dX11_find_94 : decode cX11_find 94 = .ok (.iload_n 2, 1) := dk_28 rfl
theorem dX11_find_95 : decode cX11_find 95 = .ok (.ifCond .eq 5, 3) := dk_153 rfl rfl rfl (by decide)
theorem dX11_find_98 : decode cX11_find 98 = .ok (.iload_n 1, 1) := by decide +kernel
theorem dX11_find_99 : decode cX11_find 99 = .ok (.ireturn, 1) := by decide +kernel
theorem dX11_find_100 : decode cX11_find 100 = .ok (.iinc 1 1, 3) := by decide +kernel
theorem dX11_find_103 : decode cX11_find 103 = .ok (.goto (-101), 3) := by decide +kernel
theorem dX11_find_106 : decode cX11_find 106 = .ok (.iconst (-1), 1) := by decide +kernel
theorem dX11_find_107 : decode cX11_find 107 = .ok (.ireturn, 1) := by decide +kernel
