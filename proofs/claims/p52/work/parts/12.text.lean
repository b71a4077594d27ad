theorem dX9_refuseAt_0 : decode cX9_refuseAt 0 = .ok (.aload_n 0, 1) := dk_42 rfl
theorem dX9_refuseAt_1 : decode cX9_refuseAt 1 = .ok (.iload_n 1, 1) := dk_27 rfl
theorem dX9_refuseAt_2 : decode cX9_refuseAt 2 = .ok (.putfield 22, 3) := dk_181 rfl rfl rfl rfl
theorem dX9_refuseAt_5 : decode cX9_refuseAt 5 = .ok (.aload_n 0, 1) := dk_42 rfl
theorem dX9_refuseAt_6 : decode cX9_refuseAt 6 = .ok (.iload_n 2, 1) := dk_28 rfl
theorem dX9_refuseAt_7 : decode cX9_refuseAt 7 = .ok (.putfield 25, 3) := dk_181 rfl rfl rfl rfl
theorem dX9_refuseAt_10 : decode cX9_refuseAt 10 = .ok (.iconst 0, 1) := dk_3 rfl
theorem dX9_refuseAt_11 : decode cX9_refuseAt 11 = .ok (.ireturn, 1) := dk_172 rfl
theorem dX9_kindAt_0 : decode cX9_kindAt 0 = .ok (.iload_n 1, 1) := dk_27 rfl
theorem dX9_kindAt_1 : decode cX9_kindAt 1 = .ok (.ifCond .lt 20, 3) := dk_155 rfl rfl rfl (by decide)
theorem dX9_kindAt_4 : decode cX9_kindAt 4 = .ok (.iload_n 1, 1) := dk_27 rfl
theorem dX9_kindAt_5 : decode cX9_kindAt 5 = .ok (.aload_n 0, 1) := dk_42 rfl
theorem dX9_kindAt_6 : decode cX9_kindAt 6 = .ok (.getfield 32, 3) := dk_180 rfl rfl rfl rfl
theorem dX9_kindAt_9 : decode cX9_kindAt 9 = .ok (.if_icmp .ge 12, 3) := dk_162 rfl rfl rfl (by decide)
theorem dX9_kindAt_12 : decode cX9_kindAt 12 = .ok (.iload_n 1, 1) := dk_27 rfl
theorem dX9_kindAt_13 : decode cX9_kindAt 13 = .ok (.aload_n 0, 1) := dk_42 rfl
theorem dX9_kindAt_14 : decode cX9_kindAt 14 = .ok (.getfield 28, 3) := dk_180 rfl rfl rfl rfl
theorem dX9_kindAt_17 : decode cX9_kindAt 17 = .ok (.arraylength, 1) := dk_190 rfl
theorem dX9_kindAt_18 : decode cX9_kindAt 18 = .ok (.if_icmp .lt 5, 3) := dk_161 rfl rfl rfl (by decide)
theorem dX9_kindAt_21 : decode cX9_kindAt 21 = .ok (.iconst 0, 1) := dk_3 rfl
theorem dX9_kindAt_22 : decode cX9_kindAt 22 = .ok (.ireturn, 1) := dk_172 rfl
theorem dX9_kindAt_23 : decode cX9_kindAt 23 = .ok (.aload_n 0, 1) := dk_42 rfl
theorem dX9_kindAt_24 : decode cX9_kindAt 24 = .ok (.getfield 28, 3) := dk_180 rfl rfl rfl rfl
theorem dX9_kindAt_27 : decode cX9_kindAt 27 = .ok (.iload_n 1, 1) := dk_27 rfl
theorem dX9_kindAt_28 : decode cX9_kindAt 28 = .ok (.baload, 1) := dk_51 rfl
theorem dX9_kindAt_29 : decode cX9_kindAt 29 = .ok (.istore_n 2, 1) := dk_61 rfl
theorem dX9_kindAt_30 : decode cX9_kindAt 30 = .ok (.iload_n 2, 1) := dk_28 rfl
theorem dX9_kindAt_31 : decode cX9_kindAt 31 = .ok (.bipush 97, 2) := dk_16 rfl rfl (by decide)
theorem dX9_kindAt_33 : decode cX9_kindAt 33 = .ok (.if_icmp .lt 11, 3) := dk_161 rfl rfl rfl (by decide)
theorem dX9_kindAt_36 : decode cX9_kindAt 36 = .ok (.iload_n 2, 1) := dk_28 rfl
theorem dX9_kindAt_37 : decode cX9_kindAt 37 = .ok (.bipush 122, 2) := dk_16 rfl rfl (by decide)
theorem dX9_kindAt_39 : decode cX9_kindAt 39 = .ok (.if_icmp .gt 5, 3) := dk_163 rfl rfl rfl (by decide)
theorem dX9_kindAt_42 : decode cX9_kindAt 42 = .ok (.iconst 1, 1) := dk_4 rfl
theorem dX9_kindAt_43 : decode cX9_kindAt 43 = .ok (.ireturn, 1) := dk_172 rfl
theorem dX9_kindAt_44 : decode cX9_kindAt 44 = .ok (.iload_n 2, 1) := dk_28 rfl
theorem dX9_kindAt_45 : decode cX9_kindAt 45 = .ok (.bipush 48, 2) := dk_16 rfl rfl (by decide)
theorem dX9_kindAt_47 : decode cX9_kindAt 47 = .ok (.if_icmp .lt 11, 3) := dk_161 rfl rfl rfl (by decide)
theorem dX9_kindAt_50 : decode cX9_kindAt 50 = .ok (.iload_n 2, 1) := dk_28 rfl
theorem dX9_kindAt_51 : decode cX9_kindAt 51 = .ok (.bipush 57, 2) := dk_16 rfl rfl (by decide)
theorem dX9_kindAt_53 : decode cX9_kindAt 53 = .ok (.if_icmp .gt 5, 3) := dk_163 rfl rfl rfl (by decide)
theorem dX9_kindAt_56 : decode cX9_kindAt 56 = .ok (.iconst 2, 1) := dk_5 rfl
theorem dX9_kindAt_57 : decode cX9_kindAt 57 = .ok (.ireturn, 1) := dk_172 rfl
theorem dX9_kindAt_58 : decode cX9_kindAt 58 = .ok (.iload_n 2, 1) := dk_28 rfl
theorem dX9_kindAt_59 : decode cX9_kindAt 59 = .ok (.lookupswitch 39 #[(32, 33), (44, 37), (59, 35)], 33) := by decide +kernel
theorem dX9_kindAt_92 : decode cX9_kindAt 92 = .ok (.iconst 5, 1) := dk_8 rfl
theorem dX9_kindAt_93 : decode cX9_kindAt 93 = .ok (.ireturn, 1) := dk_172 rfl
theorem dX9_kindAt_94 : decode cX9_kindAt 94 = .ok (.iconst 3, 1) := dk_6 rfl
theorem dX9_kindAt_95 : decode cX9_kindAt 95 = .ok (.ireturn, 1) := dk_172 rfl
theorem dX9_kindAt_96 : decode cX9_kindAt 96 = .ok (.iconst 4, 1) := dk_7 rfl
theorem dX9_kindAt_97 : decode cX9_kindAt 97 = .ok (.ireturn, 1) := by decide +kernel
theorem dX9_kindAt_98 : decode cX9_kindAt 98 = .ok (.bipush 6, 2) := by decide +kernel
theorem dX9_kindAt_100 : decode cX9_kindAt 100 = .ok (.ireturn, 1) := by decide +kernel
theorem dX9_next_0 : decode cX9_next 0 = .ok (.aload_n 0, 1) := dk_42 rfl
theorem dX9_next_1 : decode cX9_next 1 = .ok (.getfield 54, 3) := dk_180 rfl rfl rfl rfl
theorem dX9_next_4 : decode cX9_next 4 = .ok (.aload_n 0, 1) := dk_42 rfl
theorem dX9_next_5 : decode cX9_next 5 = .ok (.getfield 32, 3) := dk_180 rfl rfl rfl rfl
theorem dX9_next_8 : decode cX9_next 8 = .ok (.if_icmp .ge 28, 3) := dk_162 rfl rfl rfl (by decide)
theorem dX9_next_11 : decode cX9_next 11 = .ok (.aload_n 0, 1) := dk_42 rfl
theorem dX9_next_12 : decode cX9_next 12 = .ok (.aload_n 0, 1) := dk_42 rfl
theorem dX9_next_13 : decode cX9_next 13 = .ok (.getfield 54, 3) := dk_180 rfl rfl rfl rfl
theorem dX9_next_16 : decode cX9_next 16 = .ok (.invokevirtual 298, 3) := dk_182 rfl rfl rfl rfl
theorem dX9_next_19 : decode cX9_next 19 = .ok (.iconst 5, 1) := dk_8 rfl
theorem dX9_next_20 : decode cX9_next 20 = .ok (.if_icmp .ne 16, 3) := dk_160 rfl rfl rfl (by decide)
theorem dX9_next_23 : decode cX9_next 23 = .ok (.aload_n 0, 1) := dk_42 rfl
theorem dX9_next_24 : decode cX9_next 24 = .ok (.dup, 1) := dk_89 rfl
theorem dX9_next_25 : decode cX9_next 25 = .ok (.getfield 54, 3) := dk_180 rfl rfl rfl rfl
theorem dX9_next_28 : decode cX9_next 28 = .ok (.iconst 1, 1) := dk_4 rfl
theorem dX9_next_29 : decode cX9_next 29 = .ok (.iadd, 1) := dk_96 rfl
theorem dX9_next_30 : decode cX9_next 30 = .ok (.putfield 54, 3) := dk_181 rfl rfl rfl rfl
theorem dX9_next_33 : decode cX9_next 33 = .ok (.goto (-33), 3) := dk_167 rfl rfl rfl (by decide)
theorem dX9_next_36 : decode cX9_next 36 = .ok (.aload_n 0, 1) := dk_42 rfl
theorem dX9_next_37 : decode cX9_next 37 = .ok (.aload_n 0, 1) := dk_42 rfl
theorem dX9_next_38 : decode cX9_next 38 = .ok (.getfield 54, 3) := dk_180 rfl rfl rfl rfl
theorem dX9_next_41 : decode cX9_next 41 = .ok (.putfield 51, 3) := dk_181 rfl rfl rfl rfl
theorem dX9_next_44 : decode cX9_next 44 = .ok (.aload_n 0, 1) := dk_42 rfl
theorem dX9_next_45 : decode cX9_next 45 = .ok (.aload_n 0, 1) := dk_42 rfl
theorem dX9_next_46 : decode cX9_next 46 = .ok (.aload_n 0, 1) := dk_42 rfl
theorem dX9_next_47 : decode cX9_next 47 = .ok (.getfield 51, 3) := dk_180 rfl rfl rfl rfl
theorem dX9_next_50 : decode cX9_next 50 = .ok (.invokevirtual 298, 3) := dk_182 rfl rfl rfl rfl
theorem dX9_next_53 : decode cX9_next 53 = .ok (.putfield 48, 3) := dk_181 rfl rfl rfl rfl
theorem dX9_next_56 : decode cX9_next 56 = .ok (.aload_n 0, 1) := dk_42 rfl
theorem dX9_next_57 : decode cX9_next 57 = .ok (.lconst 0, 1) := dk_9 rfl
theorem dX9_next_58 : decode cX9_next 58 = .ok (.putfield 60, 3) := dk_181 rfl rfl rfl rfl
theorem dX9_next_61 : decode cX9_next 61 = .ok (.aload_n 0, 1) := dk_42 rfl
theorem dX9_next_62 : decode cX9_next 62 = .ok (.iconst 0, 1) := dk_3 rfl
theorem dX9_next_63 : decode cX9_next 63 = .ok (.putfield 57, 3) := dk_181 rfl rfl rfl rfl
theorem dX9_next_66 : decode cX9_next 66 = .ok (.aload_n 0, 1) := dk_42 rfl
theorem dX9_next_67 : decode cX9_next 67 = .ok (.getfield 48, 3) := dk_180 rfl rfl rfl rfl
theorem dX9_next_70 : decode cX9_next 70 = .ok (.iconst 1, 1) := dk_4 rfl
theorem dX9_next_71 : decode cX9_next 71 = .ok (.if_icmp .eq 11, 3) := dk_159 rfl rfl rfl (by decide)
theorem dX9_next_74 : decode cX9_next 74 = .ok (.aload_n 0, 1) := dk_42 rfl
theorem dX9_next_75 : decode cX9_next 75 = .ok (.getfield 48, 3) := dk_180 rfl rfl rfl rfl
theorem dX9_next_78 : decode cX9_next 78 = .ok (.iconst 2, 1) := dk_5 rfl
theorem dX9_next_79 : decode cX9_next 79 = .ok (.if_icmp .ne 113, 3) := dk_160 rfl rfl rfl (by decide)
theorem dX9_next_82 : decode cX9_next 82 = .ok (.aload_n 0, 1) := dk_42 rfl
theorem dX9_next_83 : decode cX9_next 83 = .ok (.getfield 54, 3) := dk_180 rfl rfl rfl rfl
theorem dX9_next_86 : decode cX9_next 86 = .ok (.ifCond .lt 123, 3) := dk_155 rfl rfl rfl (by decide)
theorem dX9_next_89 : decode cX9_next 89 = .ok (.aload_n 0, 1) := dk_42 rfl
theorem dX9_next_90 : decode cX9_next 90 = .ok (.getfield 54, 3) := dk_180 rfl rfl rfl rfl
theorem dX9_next_93 : decode cX9_next 93 = .ok (.aload_n 0, 1) := dk_42 rfl
theorem dX9_next_94 : decode cX9_next 94 = .ok (.getfield 32, 3) := dk_180 rfl rfl rfl rfl
theorem dX9_next_97 : decode cX9_next 97 = .ok (.if_icmp .ge 112, 3) := by decide +kernel
theorem dX9_next_100 : decode cX9_next 100 = .ok (.aload_n 0, 1) := by decide +kernel
theorem dX9_next_101 : decode cX9_next 101 = .ok (.getfield 54, 3) := by decide +kernel
theorem dX9_next_104 : decode cX9_next 104 = .ok (.aload_n 0, 1) := by decide +kernel
theorem dX9_next_105 : decode cX9_next 105 = .ok (.getfield 28, 3) := by decide +kernel
theorem dX9_next_108 : decode cX9_next 108 = .ok (.arraylength, 1) := by decide +kernel
theorem dX9_next_109 : decode cX9_next 109 = .ok (.if_icmp .ge 100, 3) := by decide +kernel
theorem dX9_next_112 : decode cX9_next 112 = .ok (.aload_n 0, 1) := by decide +kernel
theorem dX9_next_113 : decode cX9_next 113 = .ok (.aload_n 0, 1) := by decide +kernel
theorem dX9_next_114 : decode cX9_next 114 = .ok (.getfield 54, 3) := by decide +kernel
theorem dX9_next_117 : decode cX9_next 117 = .ok (.invokevirtual 298, 3) := by decide +kernel
theorem dX9_next_120 : decode cX9_next 120 = .ok (.aload_n 0, 1) := by decide +kernel
theorem dX9_next_121 : decode cX9_next 121 = .ok (.getfield 48, 3) := by decide +kernel
theorem dX9_next_124 : decode cX9_next 124 = .ok (.if_icmp .ne 85, 3) := by decide +kernel
theorem dX9_next_127 : decode cX9_next 127 = .ok (.aload_n 0, 1) := by decide +kernel
theorem dX9_next_128 : decode cX9_next 128 = .ok (.aload_n 0, 1) := by decide +kernel
theorem dX9_next_129 : decode cX9_next 129 = .ok (.getfield 60, 3) := by decide +kernel
theorem dX9_next_132 : decode cX9_next 132 = .ok (.ldc2_w 301, 3) := by decide +kernel
theorem dX9_next_135 : decode cX9_next 135 = .ok (.lmul, 1) := by decide +kernel
theorem dX9_next_136 : decode cX9_next 136 = .ok (.aload_n 0, 1) := by decide +kernel
theorem dX9_next_137 : decode cX9_next 137 = .ok (.getfield 28, 3) := by decide +kernel
theorem dX9_next_140 : decode cX9_next 140 = .ok (.aload_n 0, 1) := by decide +kernel
theorem dX9_next_141 : decode cX9_next 141 = .ok (.getfield 54, 3) := by decide +kernel
theorem dX9_next_144 : decode cX9_next 144 = .ok (.baload, 1) := by decide +kernel
theorem dX9_next_145 : decode cX9_next 145 = .ok (.bipush 97, 2) := by decide +kernel
theorem dX9_next_147 : decode cX9_next 147 = .ok (.isub, 1) := by decide +kernel
theorem dX9_next_148 : decode cX9_next 148 = .ok (.iconst 1, 1) := by decide +kernel
theorem dX9_next_149 : decode cX9_next 149 = .ok (.iadd, 1) := by decide +kernel
theorem dX9_next_150 : decode cX9_next 150 = .ok (.i2l, 1) := by decide +kernel
theorem dX9_next_151 : decode cX9_next 151 = .ok (.ladd, 1) := by decide +kernel
theorem dX9_next_152 : decode cX9_next 152 = .ok (.putfield 60, 3) := by decide +kernel
theorem dX9_next_155 : decode cX9_next 155 = .ok (.aload_n 0, 1) := by decide +kernel
theorem dX9_next_156 : decode cX9_next 156 = .ok (.aload_n 0, 1) := by decide +kernel
theorem dX9_next_157 : decode cX9_next 157 = .ok (.getfield 57, 3) := by decide +kernel
theorem dX9_next_160 : decode cX9_next 160 = .ok (.bipush 10, 2) := by decide +kernel
theorem dX9_next_162 : decode cX9_next 162 = .ok (.imul, 1) := by decide +kernel
theorem dX9_next_163 : decode cX9_next 163 = .ok (.aload_n 0, 1) := by decide +kernel
theorem dX9_next_164 : decode cX9_next 164 = .ok (.getfield 28, 3) := by decide +kernel
theorem dX9_next_167 : decode cX9_next 167 = .ok (.aload_n 0, 1) := by decide +kernel
theorem dX9_next_168 : decode cX9_next 168 = .ok (.getfield 54, 3) := by decide +kernel
theorem dX9_next_171 : decode cX9_next 171 = .ok (.baload, 1) := by decide +kernel
theorem dX9_next_172 : decode cX9_next 172 = .ok (.bipush 48, 2) := by decide +kernel
theorem dX9_next_174 : decode cX9_next 174 = .ok (.isub, 1) := by decide +kernel
theorem dX9_next_175 : decode cX9_next 175 = .ok (.iadd, 1) := by decide +kernel
theorem dX9_next_176 : decode cX9_next 176 = .ok (.putfield 57, 3) := by decide +kernel
theorem dX9_next_179 : decode cX9_next 179 = .ok (.aload_n 0, 1) := by decide +kernel
theorem dX9_next_180 : decode cX9_next 180 = .ok (.dup, 1) := by decide +kernel
theorem dX9_next_181 : decode cX9_next 181 = .ok (.getfield 54, 3) := by decide +kernel
theorem dX9_next_184 : decode cX9_next 184 = .ok (.iconst 1, 1) := by decide +kernel
theorem dX9_next_185 : decode cX9_next 185 = .ok (.iadd, 1) := by decide +kernel
theorem dX9_next_186 : decode cX9_next 186 = .ok (.putfield 54, 3) := by decide +kernel
theorem dX9_next_189 : decode cX9_next 189 = .ok (.goto (-107), 3) := by decide +kernel
theorem dX9_next_192 : decode cX9_next 192 = .ok (.aload_n 0, 1) := by decide +kernel
theorem dX9_next_193 : decode cX9_next 193 = .ok (.getfield 48, 3) := by decide +kernel
theorem dX9_next_196 : decode cX9_next 196 = .ok (.ifCond .eq 13, 3) := by decide +kernel
theorem dX9_next_199 : decode cX9_next 199 = .ok (.aload_n 0, 1) := by decide +kernel
theorem dX9_next_200 : decode cX9_next 200 = .ok (.dup, 1) := by decide +kernel
theorem dX9_next_201 : decode cX9_next 201 = .ok (.getfield 54, 3) := by decide +kernel
theorem dX9_next_204 : decode cX9_next 204 = .ok (.iconst 1, 1) := by decide +kernel
theorem dX9_next_205 : decode cX9_next 205 = .ok (.iadd, 1) := by decide +kernel
theorem dX9_next_206 : decode cX9_next 206 = .ok (.putfield 54, 3) := by decide +kernel
theorem dX9_next_209 : decode cX9_next 209 = .ok (.aload_n 0, 1) := by decide +kernel
theorem dX9_next_210 : decode cX9_next 210 = .ok (.getfield 54, 3) := by decide +kernel
theorem dX9_next_213 : decode cX9_next 213 = .ok (.aload_n 0, 1) := by decide +kernel
theorem dX9_next_214 : decode cX9_next 214 = .ok (.getfield 51, 3) := by decide +kernel
theorem dX9_next_217 : decode cX9_next 217 = .ok (.isub, 1) := by decide +kernel
theorem dX9_next_218 : decode cX9_next 218 = .ok (.aload_n 0, 1) := by decide +kernel
theorem dX9_next_219 : decode cX9_next 219 = .ok (.getfield 48, 3) := by decide +kernel
theorem dX9_next_222 : decode cX9_next 222 = .ok (.iconst 1, 1) := by decide +kernel
theorem dX9_next_223 : decode cX9_next 223 = .ok (.if_icmp .ne 8, 3) := by decide +kernel
theorem dX9_next_226 : decode cX9_next 226 = .ok (.bipush 8, 2) := by decide +kernel
theorem dX9_next_228 : decode cX9_next 228 = .ok (.goto 4, 3) := by decide +kernel
theorem dX9_next_231 : decode cX9_next 231 = .ok (.iconst 4, 1) := by decide +kernel
theorem dX9_next_232 : decode cX9_next 232 = .ok (.if_icmp .le 9, 3) := by decide +kernel
theorem dX9_next_235 : decode cX9_next 235 = .ok (.aload_n 0, 1) := by decide +kernel
theorem dX9_next_236 : decode cX9_next 236 = .ok (.bipush 6, 2) := by decide +kernel
theorem dX9_next_238 : decode cX9_next 238 = .ok (.putfield 48, 3) := by decide +kernel
theorem dX9_next_241 : decode cX9_next 241 = .ok (.return_, 1) := by decide +kernel
theorem dX9_is_0 : decode cX9_is 0 = .ok (.aload_n 0, 1) := dk_42 rfl
theorem dX9_is_1 : decode cX9_is 1 = .ok (.getfield 48, 3) := dk_180 rfl rfl rfl rfl
theorem dX9_is_4 : decode cX9_is 4 = .ok (.iconst 1, 1) := dk_4 rfl
theorem dX9_is_5 : decode cX9_is 5 = .ok (.if_icmp .ne 26, 3) := dk_160 rfl rfl rfl (by decide)
theorem dX9_is_8 : decode cX9_is 8 = .ok (.aload_n 0, 1) := dk_42 rfl
theorem dX9_is_9 : decode cX9_is 9 = .ok (.getfield 51, 3) := dk_180 rfl rfl rfl rfl
theorem dX9_is_12 : decode cX9_is 12 = .ok (.ifCond .lt 19, 3) := dk_155 rfl rfl rfl (by decide)
theorem dX9_is_15 : decode cX9_is 15 = .ok (.aload_n 1, 1) := dk_43 rfl
theorem dX9_is_16 : decode cX9_is 16 = .ok (.invokevirtual 289, 3) := dk_182 rfl rfl rfl rfl
theorem dX9_is_19 : decode cX9_is 19 = .ok (.aload_n 0, 1) := dk_42 rfl
theorem dX9_is_20 : decode cX9_is 20 = .ok (.getfield 54, 3) := dk_180 rfl rfl rfl rfl
theorem dX9_is_23 : decode cX9_is 23 = .ok (.aload_n 0, 1) := dk_42 rfl
theorem dX9_is_24 : decode cX9_is 24 = .ok (.getfield 51, 3) := dk_180 rfl rfl rfl rfl
theorem dX9_is_27 : decode cX9_is 27 = .ok (.isub, 1) := dk_100 rfl
theorem dX9_is_28 : decode cX9_is 28 = .ok (.if_icmp .eq 5, 3) := dk_159 rfl rfl rfl (by decide)
theorem dX9_is_31 : decode cX9_is 31 = .ok (.iconst 0, 1) := dk_3 rfl
theorem dX9_is_32 : decode cX9_is 32 = .ok (.ireturn, 1) := dk_172 rfl
theorem dX9_is_33 : decode cX9_is 33 = .ok (.iconst 0, 1) := dk_3 rfl
theorem dX9_is_34 : decode cX9_is 34 = .ok (.istore_n 2, 1) := dk_61 rfl
theorem dX9_is_35 : decode cX9_is 35 = .ok (.iload_n 2, 1) := dk_28 rfl
theorem dX9_is_36 : decode cX9_is 36 = .ok (.aload_n 1, 1) := dk_43 rfl
theorem dX9_is_37 : decode cX9_is 37 = .ok (.invokevirtual 289, 3) := dk_182 rfl rfl rfl rfl
theorem dX9_is_40 : decode cX9_is 40 = .ok (.if_icmp .ge 44, 3) := dk_162 rfl rfl rfl (by decide)
theorem dX9_is_43 : decode cX9_is 43 = .ok (.aload_n 0, 1) := dk_42 rfl
theorem dX9_is_44 : decode cX9_is 44 = .ok (.getfield 51, 3) := dk_180 rfl rfl rfl rfl
theorem dX9_is_47 : decode cX9_is 47 = .ok (.iload_n 2, 1) := dk_28 rfl
theorem dX9_is_48 : decode cX9_is 48 = .ok (.iadd, 1) := dk_96 rfl
theorem dX9_is_49 : decode cX9_is 49 = .ok (.aload_n 0, 1) := dk_42 rfl
theorem dX9_is_50 : decode cX9_is 50 = .ok (.getfield 28, 3) := dk_180 rfl rfl rfl rfl
theorem dX9_is_53 : decode cX9_is 53 = .ok (.arraylength, 1) := dk_190 rfl
theorem dX9_is_54 : decode cX9_is 54 = .ok (.if_icmp .ge 30, 3) := dk_162 rfl rfl rfl (by decide)
theorem dX9_is_57 : decode cX9_is 57 = .ok (.aload_n 0, 1) := dk_42 rfl
theorem dX9_is_58 : decode cX9_is 58 = .ok (.getfield 28, 3) := dk_180 rfl rfl rfl rfl
theorem dX9_is_61 : decode cX9_is 61 = .ok (.aload_n 0, 1) := dk_42 rfl
theorem dX9_is_62 : decode cX9_is 62 = .ok (.getfield 51, 3) := dk_180 rfl rfl rfl rfl
theorem dX9_is_65 : decode cX9_is 65 = .ok (.iload_n 2, 1) := dk_28 rfl
theorem dX9_is_66 : decode cX9_is 66 = .ok (.iadd, 1) := dk_96 rfl
theorem dX9_is_67 : decode cX9_is 67 = .ok (.baload, 1) := dk_51 rfl
theorem dX9_is_68 : decode cX9_is 68 = .ok (.aload_n 1, 1) := dk_43 rfl
theorem dX9_is_69 : decode cX9_is 69 = .ok (.iload_n 2, 1) := dk_28 rfl
theorem dX9_is_70 : decode cX9_is 70 = .ok (.invokevirtual 294, 3) := dk_182 rfl rfl rfl rfl
theorem dX9_is_73 : decode cX9_is 73 = .ok (.if_icmp .eq 5, 3) := dk_159 rfl rfl rfl (by decide)
theorem dX9_is_76 : decode cX9_is 76 = .ok (.iconst 0, 1) := dk_3 rfl
theorem dX9_is_77 : decode cX9_is 77 = .ok (.ireturn, 1) := dk_172 rfl
theorem dX9_is_78 : decode cX9_is 78 = .ok (.iinc 2 1, 3) := dk_132 rfl rfl rfl rfl (by decide)
theorem dX9_is_81 : decode cX9_is 81 = .ok (.goto (-46), 3) := dk_167 rfl rfl rfl (by decide)
theorem dX9_is_84 : decode cX9_is 84 = .ok (.iconst 1, 1) := dk_4 rfl
theorem dX9_is_85 : decode cX9_is 85 = .ok (.ireturn, 1) := dk_172 rfl
theorem dX9_isReserved_0 : decode cX9_isReserved 0 = .ok (.aload_n 0, 1) := dk_42 rfl
theorem dX9_isReserved_1 : decode cX9_isReserved 1 = .ok (.ldc 103, 2) := dk_18 rfl rfl rfl
theorem dX9_isReserved_3 : decode cX9_isReserved 3 = .ok (.invokevirtual 104, 3) := dk_182 rfl rfl rfl rfl
theorem dX9_isReserved_6 : decode cX9_isReserved 6 = .ok (.ifCond .ne 103, 3) := dk_154 rfl rfl rfl (by decide)
theorem dX9_isReserved_9 : decode cX9_isReserved 9 = .ok (.aload_n 0, 1) := dk_42 rfl
theorem dX9_isReserved_10 : decode cX9_isReserved 10 = .ok (.ldc 119, 2) := dk_18 rfl rfl rfl
theorem dX9_isReserved_12 : decode cX9_isReserved 12 = .ok (.invokevirtual 104, 3) := dk_182 rfl rfl rfl rfl
theorem dX9_isReserved_15 : decode cX9_isReserved 15 = .ok (.ifCond .ne 94, 3) := dk_154 rfl rfl rfl (by decide)
theorem dX9_isReserved_18 : decode cX9_isReserved 18 = .ok (.aload_n 0, 1) := dk_42 rfl
theorem dX9_isReserved_19 : decode cX9_isReserved 19 = .ok (.ldc 124, 2) := dk_18 rfl rfl rfl
theorem dX9_isReserved_21 : decode cX9_isReserved 21 = .ok (.invokevirtual 104, 3) := dk_182 rfl rfl rfl rfl
theorem dX9_isReserved_24 : decode cX9_isReserved 24 = .ok (.ifCond .ne 85, 3) := dk_154 rfl rfl rfl (by decide)
theorem dX9_isReserved_27 : decode cX9_isReserved 27 = .ok (.aload_n 0, 1) := dk_42 rfl
theorem dX9_isReserved_28 : decode cX9_isReserved 28 = .ok (.ldc 129, 2) := dk_18 rfl rfl rfl
theorem dX9_isReserved_30 : decode cX9_isReserved 30 = .ok (.invokevirtual 104, 3) := dk_182 rfl rfl rfl rfl
theorem dX9_isReserved_33 : decode cX9_isReserved 33 = .ok (.ifCond .ne 76, 3) := dk_154 rfl rfl rfl (by decide)
theorem dX9_isReserved_36 : decode cX9_isReserved 36 = .ok (.aload_n 0, 1) := dk_42 rfl
theorem dX9_isReserved_37 : decode cX9_isReserved 37 = .ok (.ldc 134, 2) := dk_18 rfl rfl rfl
theorem dX9_isReserved_39 : decode cX9_isReserved 39 = .ok (.invokevirtual 104, 3) := dk_182 rfl rfl rfl rfl
theorem dX9_isReserved_42 : decode cX9_isReserved 42 = .ok (.ifCond .ne 67, 3) := dk_154 rfl rfl rfl (by decide)
theorem dX9_isReserved_45 : decode cX9_isReserved 45 = .ok (.aload_n 0, 1) := dk_42 rfl
theorem dX9_isReserved_46 : decode cX9_isReserved 46 = .ok (.ldc 139, 2) := dk_18 rfl rfl rfl
theorem dX9_isReserved_48 : decode cX9_isReserved 48 = .ok (.invokevirtual 104, 3) := dk_182 rfl rfl rfl rfl
theorem dX9_isReserved_51 : decode cX9_isReserved 51 = .ok (.ifCond .ne 58, 3) := dk_154 rfl rfl rfl (by decide)
theorem dX9_isReserved_54 : decode cX9_isReserved 54 = .ok (.aload_n 0, 1) := dk_42 rfl
theorem dX9_isReserved_55 : decode cX9_isReserved 55 = .ok (.ldc 144, 2) := dk_18 rfl rfl rfl
theorem dX9_isReserved_57 : decode cX9_isReserved 57 = .ok (.invokevirtual 104, 3) := dk_182 rfl rfl rfl rfl
theorem dX9_isReserved_60 : decode cX9_isReserved 60 = .ok (.ifCond .ne 49, 3) := dk_154 rfl rfl rfl (by decide)
theorem dX9_isReserved_63 : decode cX9_isReserved 63 = .ok (.aload_n 0, 1) := dk_42 rfl
theorem dX9_isReserved_64 : decode cX9_isReserved 64 = .ok (.ldc 149, 2) := dk_18 rfl rfl rfl
theorem dX9_isReserved_66 : decode cX9_isReserved 66 = .ok (.invokevirtual 104, 3) := dk_182 rfl rfl rfl rfl
theorem dX9_isReserved_69 : decode cX9_isReserved 69 = .ok (.ifCond .ne 40, 3) := dk_154 rfl rfl rfl (by decide)
theorem dX9_isReserved_72 : decode cX9_isReserved 72 = .ok (.aload_n 0, 1) := dk_42 rfl
theorem dX9_isReserved_73 : decode cX9_isReserved 73 = .ok (.ldc 154, 2) := dk_18 rfl rfl rfl
theorem dX9_isReserved_75 : decode cX9_isReserved 75 = .ok (.invokevirtual 104, 3) := dk_182 rfl rfl rfl rfl
theorem dX9_isReserved_78 : decode cX9_isReserved 78 = .ok (.ifCond .ne 31, 3) := dk_154 rfl rfl rfl (by decide)
theorem dX9_isReserved_81 : decode cX9_isReserved 81 = .ok (.aload_n 0, 1) := dk_42 rfl
theorem dX9_isReserved_82 : decode cX9_isReserved 82 = .ok (.ldc 111, 2) := dk_18 rfl rfl rfl
theorem dX9_isReserved_84 : decode cX9_isReserved 84 = .ok (.invokevirtual 104, 3) := dk_182 rfl rfl rfl rfl
theorem dX9_isReserved_87 : decode cX9_isReserved 87 = .ok (.ifCond .ne 22, 3) := dk_154 rfl rfl rfl (by decide)
theorem dX9_isReserved_90 : decode cX9_isReserved 90 = .ok (.aload_n 0, 1) := dk_42 rfl
theorem dX9_isReserved_91 : decode cX9_isReserved 91 = .ok (.ldc 159, 2) := dk_18 rfl rfl rfl
theorem dX9_isReserved_93 : decode cX9_isReserved 93 = .ok (.invokevirtual 104, 3) := dk_182 rfl rfl rfl rfl
theorem dX9_isReserved_96 : decode cX9_isReserved 96 = .ok (.ifCond .ne 13, 3) := dk_154 rfl rfl rfl (by decide)
theorem dX9_isReserved_99 : decode cX9_isReserved 99 = .ok (.aload_n 0, 1) := by decide +kernel
theorem dX9_isReserved_100 : decode cX9_isReserved 100 = .ok (.ldc_w 287, 3) := by decide +kernel
theorem dX9_isReserved_103 : decode cX9_isReserved 103 = .ok (.invokevirtual 104, 3) := by decide +kernel
theorem dX9_isReserved_106 : decode cX9_isReserved 106 = .ok (.ifCond .eq 7, 3) := by decide +kernel
theorem dX9_isReserved_109 : decode cX9_isReserved 109 = .ok (.iconst 1, 1) := by decide +kernel
theorem dX9_isReserved_110 : decode cX9_isReserved 110 = .ok (.goto 4, 3) := by decide +kernel
theorem dX9_isReserved_113 : decode cX9_isReserved 113 = .ok (.iconst 0, 1) := by decide +kernel
theorem dX9_isReserved_114 : decode cX9_isReserved 114 = .ok (.ireturn, 1) := by decide +kernel
theorem dX9_kindOfMan_0 : decode cX9_kindOfMan 0 = .ok (.aload_n 0, 1) := dk_42 rfl
theorem dX9_kindOfMan_1 : decode cX9_kindOfMan 1 = .ok (.ldc 251, 2) := dk_18 rfl rfl rfl
theorem dX9_kindOfMan_3 : decode cX9_kindOfMan 3 = .ok (.invokevirtual 104, 3) := dk_182 rfl rfl rfl rfl
theorem dX9_kindOfMan_6 : decode cX9_kindOfMan 6 = .ok (.ifCond .eq 5, 3) := dk_153 rfl rfl rfl (by decide)
theorem dX9_kindOfMan_9 : decode cX9_kindOfMan 9 = .ok (.iconst 0, 1) := dk_3 rfl
theorem dX9_kindOfMan_10 : decode cX9_kindOfMan 10 = .ok (.ireturn, 1) := dk_172 rfl
theorem dX9_kindOfMan_11 : decode cX9_kindOfMan 11 = .ok (.aload_n 0, 1) := dk_42 rfl
theorem dX9_kindOfMan_12 : decode cX9_kindOfMan 12 = .ok (.ldc 253, 2) := dk_18 rfl rfl rfl
theorem dX9_kindOfMan_14 : decode cX9_kindOfMan 14 = .ok (.invokevirtual 104, 3) := dk_182 rfl rfl rfl rfl
theorem dX9_kindOfMan_17 : decode cX9_kindOfMan 17 = .ok (.ifCond .eq 5, 3) := dk_153 rfl rfl rfl (by decide)
theorem dX9_kindOfMan_20 : decode cX9_kindOfMan 20 = .ok (.iconst 1, 1) := dk_4 rfl
theorem dX9_kindOfMan_21 : decode cX9_kindOfMan 21 = .ok (.ireturn, 1) := dk_172 rfl
theorem dX9_kindOfMan_22 : decode cX9_kindOfMan 22 = .ok (.aload_n 0, 1) := dk_42 rfl
theorem dX9_kindOfMan_23 : decode cX9_kindOfMan 23 = .ok (.ldc 255, 2) := dk_18 rfl rfl rfl
theorem dX9_kindOfMan_25 : decode cX9_kindOfMan 25 = .ok (.invokevirtual 104, 3) := dk_182 rfl rfl rfl rfl
theorem dX9_kindOfMan_28 : decode cX9_kindOfMan 28 = .ok (.ifCond .eq 5, 3) := dk_153 rfl rfl rfl (by decide)
theorem dX9_kindOfMan_31 : decode cX9_kindOfMan 31 = .ok (.iconst 2, 1) := dk_5 rfl
theorem dX9_kindOfMan_32 : decode cX9_kindOfMan 32 = .ok (.ireturn, 1) := dk_172 rfl
theorem dX9_kindOfMan_33 : decode cX9_kindOfMan 33 = .ok (.aload_n 0, 1) := dk_42 rfl
theorem dX9_kindOfMan_34 : decode cX9_kindOfMan 34 = .ok (.ldc_w 257, 3) := dk_19 rfl rfl rfl rfl
theorem dX9_kindOfMan_37 : decode cX9_kindOfMan 37 = .ok (.invokevirtual 104, 3) := dk_182 rfl rfl rfl rfl
theorem dX9_kindOfMan_40 : decode cX9_kindOfMan 40 = .ok (.ifCond .eq 7, 3) := dk_153 rfl rfl rfl (by decide)
theorem dX9_kindOfMan_43 : decode cX9_kindOfMan 43 = .ok (.iconst 3, 1) := dk_6 rfl
theorem dX9_kindOfMan_44 : decode cX9_kindOfMan 44 = .ok (.goto 4, 3) := dk_167 rfl rfl rfl (by decide)
theorem dX9_kindOfMan_47 : decode cX9_kindOfMan 47 = .ok (.iconst (-1), 1) := dk_2 rfl
theorem dX9_kindOfMan_48 : decode cX9_kindOfMan 48 = .ok (.ireturn, 1) := dk_172 rfl
theorem dX9_isLabel_0 : decode cX9_isLabel 0 = .ok (.aload_n 0, 1) := dk_42 rfl
theorem dX9_isLabel_1 : decode cX9_isLabel 1 = .ok (.aload_n 1, 1) := dk_43 rfl
theorem dX9_isLabel_2 : decode cX9_isLabel 2 = .ok (.invokevirtual 104, 3) := dk_182 rfl rfl rfl rfl
theorem dX9_isLabel_5 : decode cX9_isLabel 5 = .ok (.ifCond .ne 13, 3) := dk_154 rfl rfl rfl (by decide)
theorem dX9_isLabel_8 : decode cX9_isLabel 8 = .ok (.aload_n 0, 1) := dk_42 rfl
theorem dX9_isLabel_9 : decode cX9_isLabel 9 = .ok (.iconst 1, 1) := dk_4 rfl
theorem dX9_isLabel_10 : decode cX9_isLabel 10 = .ok (.aload_n 0, 1) := dk_42 rfl
theorem dX9_isLabel_11 : decode cX9_isLabel 11 = .ok (.getfield 51, 3) := dk_180 rfl rfl rfl rfl
theorem dX9_isLabel_14 : decode cX9_isLabel 14 = .ok (.invokevirtual 84, 3) := dk_182 rfl rfl rfl rfl
theorem dX9_isLabel_17 : decode cX9_isLabel 17 = .ok (.ireturn, 1) := dk_172 rfl
theorem dX9_isLabel_18 : decode cX9_isLabel 18 = .ok (.aload_n 0, 1) := dk_42 rfl
theorem dX9_isLabel_19 : decode cX9_isLabel 19 = .ok (.invokevirtual 74, 3) := dk_182 rfl rfl rfl rfl
theorem dX9_isLabel_22 : decode cX9_isLabel 22 = .ok (.iconst 1, 1) := dk_4 rfl
theorem dX9_isLabel_23 : decode cX9_isLabel 23 = .ok (.ireturn, 1) := dk_172 rfl
theorem dX9_isWhole_0 : decode cX9_isWhole 0 = .ok (.aload_n 0, 1) := dk_42 rfl
theorem dX9_isWhole_1 : decode cX9_isWhole 1 = .ok (.getfield 48, 3) := dk_180 rfl rfl rfl rfl
theorem dX9_isWhole_4 : decode cX9_isWhole 4 = .ok (.iconst 2, 1) := dk_5 rfl
theorem dX9_isWhole_5 : decode cX9_isWhole 5 = .ok (.if_icmp .eq 13, 3) := dk_159 rfl rfl rfl (by decide)
theorem dX9_isWhole_8 : decode cX9_isWhole 8 = .ok (.aload_n 0, 1) := dk_42 rfl
theorem dX9_isWhole_9 : decode cX9_isWhole 9 = .ok (.iconst 1, 1) := dk_4 rfl
theorem dX9_isWhole_10 : decode cX9_isWhole 10 = .ok (.aload_n 0, 1) := dk_42 rfl
theorem dX9_isWhole_11 : decode cX9_isWhole 11 = .ok (.getfield 51, 3) := dk_180 rfl rfl rfl rfl
theorem dX9_isWhole_14 : decode cX9_isWhole 14 = .ok (.invokevirtual 84, 3) := dk_182 rfl rfl rfl rfl
theorem dX9_isWhole_17 : decode cX9_isWhole 17 = .ok (.ireturn, 1) := dk_172 rfl
theorem dX9_isWhole_18 : decode cX9_isWhole 18 = .ok (.aload_n 0, 1) := dk_42 rfl
theorem dX9_isWhole_19 : decode cX9_isWhole 19 = .ok (.getfield 57, 3) := dk_180 rfl rfl rfl rfl
theorem dX9_isWhole_22 : decode cX9_isWhole 22 = .ok (.iload_n 1, 1) := dk_27 rfl
theorem dX9_isWhole_23 : decode cX9_isWhole 23 = .ok (.if_icmp .lt 11, 3) := dk_161 rfl rfl rfl (by decide)
theorem dX9_isWhole_26 : decode cX9_isWhole 26 = .ok (.aload_n 0, 1) := dk_42 rfl
theorem dX9_isWhole_27 : decode cX9_isWhole 27 = .ok (.getfield 57, 3) := dk_180 rfl rfl rfl rfl
theorem dX9_isWhole_30 : decode cX9_isWhole 30 = .ok (.iload_n 2, 1) := dk_28 rfl
theorem dX9_isWhole_31 : decode cX9_isWhole 31 = .ok (.if_icmp .le 13, 3) := dk_164 rfl rfl rfl (by decide)
theorem dX9_isWhole_34 : decode cX9_isWhole 34 = .ok (.aload_n 0, 1) := dk_42 rfl
theorem dX9_isWhole_35 : decode cX9_isWhole 35 = .ok (.iconst 4, 1) := dk_7 rfl
theorem dX9_isWhole_36 : decode cX9_isWhole 36 = .ok (.aload_n 0, 1) := dk_42 rfl
theorem dX9_isWhole_37 : decode cX9_isWhole 37 = .ok (.getfield 51, 3) := dk_180 rfl rfl rfl rfl
theorem dX9_isWhole_40 : decode cX9_isWhole 40 = .ok (.invokevirtual 84, 3) := dk_182 rfl rfl rfl rfl
theorem dX9_isWhole_43 : decode cX9_isWhole 43 = .ok (.ireturn, 1) := dk_172 rfl
theorem dX9_isWhole_44 : decode cX9_isWhole 44 = .ok (.aload_n 0, 1) := dk_42 rfl
theorem dX9_isWhole_45 : decode cX9_isWhole 45 = .ok (.aload_n 0, 1) := dk_42 rfl
theorem dX9_isWhole_46 : decode cX9_isWhole 46 = .ok (.getfield 57, 3) := dk_180 rfl rfl rfl rfl
theorem dX9_isWhole_49 : decode cX9_isWhole 49 = .ok (.putfield 64, 3) := dk_181 rfl rfl rfl rfl
theorem dX9_isWhole_52 : decode cX9_isWhole 52 = .ok (.aload_n 0, 1) := dk_42 rfl
theorem dX9_isWhole_53 : decode cX9_isWhole 53 = .ok (.aload_n 0, 1) := dk_42 rfl
theorem dX9_isWhole_54 : decode cX9_isWhole 54 = .ok (.getfield 51, 3) := dk_180 rfl rfl rfl rfl
theorem dX9_isWhole_57 : decode cX9_isWhole 57 = .ok (.putfield 67, 3) := dk_181 rfl rfl rfl rfl
theorem dX9_isWhole_60 : decode cX9_isWhole 60 = .ok (.aload_n 0, 1) := dk_42 rfl
theorem dX9_isWhole_61 : decode cX9_isWhole 61 = .ok (.invokevirtual 74, 3) := dk_182 rfl rfl rfl rfl
theorem dX9_isWhole_64 : decode cX9_isWhole 64 = .ok (.iconst 1, 1) := dk_4 rfl
theorem dX9_isWhole_65 : decode cX9_isWhole 65 = .ok (.ireturn, 1) := dk_172 rfl
theorem dX9_findName_0 : decode cX9_findName 0 = .ok (.iconst 0, 1) := dk_3 rfl
theorem dX9_findName_1 : decode cX9_findName 1 = .ok (.istore_n 1, 1) := dk_60 rfl
theorem dX9_findName_2 : decode cX9_findName 2 = .ok (.iload_n 1, 1) := dk_27 rfl
theorem dX9_findName_3 : decode cX9_findName 3 = .ok (.aload_n 0, 1) := dk_42 rfl
theorem dX9_findName_4 : decode cX9_findName 4 = .ok (.getfield 44, 3) := dk_180 rfl rfl rfl rfl
theorem dX9_findName_7 : decode cX9_findName 7 = .ok (.getfield 97, 3) := dk_180 rfl rfl rfl rfl
theorem dX9_findName_10 : decode cX9_findName 10 = .ok (.if_icmp .ge 34, 3) := dk_162 rfl rfl rfl (by decide)
theorem dX9_findName_13 : decode cX9_findName 13 = .ok (.iload_n 1, 1) := dk_27 rfl
theorem dX9_findName_14 : decode cX9_findName 14 = .ok (.aload_n 0, 1) := dk_42 rfl
theorem dX9_findName_15 : decode cX9_findName 15 = .ok (.getfield 35, 3) := dk_180 rfl rfl rfl rfl
theorem dX9_findName_18 : decode cX9_findName 18 = .ok (.arraylength, 1) := dk_190 rfl
theorem dX9_findName_19 : decode cX9_findName 19 = .ok (.if_icmp .ge 25, 3) := dk_162 rfl rfl rfl (by decide)
theorem dX9_findName_22 : decode cX9_findName 22 = .ok (.aload_n 0, 1) := dk_42 rfl
theorem dX9_findName_23 : decode cX9_findName 23 = .ok (.getfield 35, 3) := dk_180 rfl rfl rfl rfl
theorem dX9_findName_26 : decode cX9_findName 26 = .ok (.iload_n 1, 1) := dk_27 rfl
theorem dX9_findName_27 : decode cX9_findName 27 = .ok (.laload, 1) := dk_47 rfl
theorem dX9_findName_28 : decode cX9_findName 28 = .ok (.aload_n 0, 1) := dk_42 rfl
theorem dX9_findName_29 : decode cX9_findName 29 = .ok (.getfield 60, 3) := dk_180 rfl rfl rfl rfl
theorem dX9_findName_32 : decode cX9_findName 32 = .ok (.lcmp, 1) := dk_148 rfl
theorem dX9_findName_33 : decode cX9_findName 33 = .ok (.ifCond .ne 5, 3) := dk_154 rfl rfl rfl (by decide)
theorem dX9_findName_36 : decode cX9_findName 36 = .ok (.iload_n 1, 1) := dk_27 rfl
theorem dX9_findName_37 : decode cX9_findName 37 = .ok (.ireturn, 1) := dk_172 rfl
theorem dX9_findName_38 : decode cX9_findName 38 = .ok (.iinc 1 1, 3) := dk_132 rfl rfl rfl rfl (by decide)
theorem dX9_findName_41 : decode cX9_findName 41 = .ok (.goto (-39), 3) := dk_167 rfl rfl rfl (by decide)
theorem dX9_findName_44 : decode cX9_findName 44 = .ok (.iconst (-1), 1) := dk_2 rfl
theorem dX9_findName_45 : decode cX9_findName 45 = .ok (.ireturn, 1) := dk_172 rfl
theorem dX9_isNewName_0 : decode cX9_isNewName 0 = .ok (.aload_n 0, 1) := dk_42 rfl
theorem dX9_isNewName_1 : decode cX9_isNewName 1 = .ok (.getfield 48, 3) := dk_180 rfl rfl rfl rfl
theorem dX9_isNewName_4 : decode cX9_isNewName 4 = .ok (.iconst 1, 1) := dk_4 rfl
theorem dX9_isNewName_5 : decode cX9_isNewName 5 = .ok (.if_icmp .ne 10, 3) := dk_160 rfl rfl rfl (by decide)
theorem dX9_isNewName_8 : decode cX9_isNewName 8 = .ok (.aload_n 0, 1) := dk_42 rfl
theorem dX9_isNewName_9 : decode cX9_isNewName 9 = .ok (.invokevirtual 113, 3) := dk_182 rfl rfl rfl rfl
theorem dX9_isNewName_12 : decode cX9_isNewName 12 = .ok (.ifCond .eq 13, 3) := dk_153 rfl rfl rfl (by decide)
theorem dX9_isNewName_15 : decode cX9_isNewName 15 = .ok (.aload_n 0, 1) := dk_42 rfl
theorem dX9_isNewName_16 : decode cX9_isNewName 16 = .ok (.iconst 1, 1) := dk_4 rfl
theorem dX9_isNewName_17 : decode cX9_isNewName 17 = .ok (.aload_n 0, 1) := dk_42 rfl
theorem dX9_isNewName_18 : decode cX9_isNewName 18 = .ok (.getfield 51, 3) := dk_180 rfl rfl rfl rfl
theorem dX9_isNewName_21 : decode cX9_isNewName 21 = .ok (.invokevirtual 84, 3) := dk_182 rfl rfl rfl rfl
theorem dX9_isNewName_24 : decode cX9_isNewName 24 = .ok (.ireturn, 1) := dk_172 rfl
theorem dX9_isNewName_25 : decode cX9_isNewName 25 = .ok (.aload_n 0, 1) := dk_42 rfl
theorem dX9_isNewName_26 : decode cX9_isNewName 26 = .ok (.invokevirtual 284, 3) := dk_182 rfl rfl rfl rfl
theorem dX9_isNewName_29 : decode cX9_isNewName 29 = .ok (.ifCond .lt 13, 3) := dk_155 rfl rfl rfl (by decide)
theorem dX9_isNewName_32 : decode cX9_isNewName 32 = .ok (.aload_n 0, 1) := dk_42 rfl
theorem dX9_isNewName_33 : decode cX9_isNewName 33 = .ok (.iconst 3, 1) := dk_6 rfl
theorem dX9_isNewName_34 : decode cX9_isNewName 34 = .ok (.aload_n 0, 1) := dk_42 rfl
theorem dX9_isNewName_35 : decode cX9_isNewName 35 = .ok (.getfield 51, 3) := dk_180 rfl rfl rfl rfl
theorem dX9_isNewName_38 : decode cX9_isNewName 38 = .ok (.invokevirtual 84, 3) := dk_182 rfl rfl rfl rfl
theorem dX9_isNewName_41 : decode cX9_isNewName 41 = .ok (.ireturn, 1) := dk_172 rfl
theorem dX9_isNewName_42 : decode cX9_isNewName 42 = .ok (.aload_n 0, 1) := dk_42 rfl
theorem dX9_isNewName_43 : decode cX9_isNewName 43 = .ok (.getfield 44, 3) := dk_180 rfl rfl rfl rfl
theorem dX9_isNewName_46 : decode cX9_isNewName 46 = .ok (.getfield 97, 3) := dk_180 rfl rfl rfl rfl
theorem dX9_isNewName_49 : decode cX9_isNewName 49 = .ok (.istore_n 3, 1) := dk_62 rfl
theorem dX9_isNewName_50 : decode cX9_isNewName 50 = .ok (.iload_n 3, 1) := dk_29 rfl
theorem dX9_isNewName_51 : decode cX9_isNewName 51 = .ok (.ifCond .lt 32, 3) := dk_155 rfl rfl rfl (by decide)
theorem dX9_isNewName_54 : decode cX9_isNewName 54 = .ok (.iload_n 3, 1) := dk_29 rfl
theorem dX9_isNewName_55 : decode cX9_isNewName 55 = .ok (.aload_n 0, 1) := dk_42 rfl
theorem dX9_isNewName_56 : decode cX9_isNewName 56 = .ok (.getfield 35, 3) := dk_180 rfl rfl rfl rfl
theorem dX9_isNewName_59 : decode cX9_isNewName 59 = .ok (.arraylength, 1) := dk_190 rfl
theorem dX9_isNewName_60 : decode cX9_isNewName 60 = .ok (.if_icmp .ge 23, 3) := dk_162 rfl rfl rfl (by decide)
theorem dX9_isNewName_63 : decode cX9_isNewName 63 = .ok (.aload_n 0, 1) := dk_42 rfl
theorem dX9_isNewName_64 : decode cX9_isNewName 64 = .ok (.getfield 35, 3) := dk_180 rfl rfl rfl rfl
theorem dX9_isNewName_67 : decode cX9_isNewName 67 = .ok (.iload_n 3, 1) := dk_29 rfl
theorem dX9_isNewName_68 : decode cX9_isNewName 68 = .ok (.aload_n 0, 1) := dk_42 rfl
theorem dX9_isNewName_69 : decode cX9_isNewName 69 = .ok (.getfield 60, 3) := dk_180 rfl rfl rfl rfl
theorem dX9_isNewName_72 : decode cX9_isNewName 72 = .ok (.lastore, 1) := dk_80 rfl
theorem dX9_isNewName_73 : decode cX9_isNewName 73 = .ok (.aload_n 0, 1) := dk_42 rfl
theorem dX9_isNewName_74 : decode cX9_isNewName 74 = .ok (.getfield 44, 3) := dk_180 rfl rfl rfl rfl
theorem dX9_isNewName_77 : decode cX9_isNewName 77 = .ok (.iload_n 1, 1) := dk_27 rfl
theorem dX9_isNewName_78 : decode cX9_isNewName 78 = .ok (.iload_n 2, 1) := dk_28 rfl
theorem dX9_isNewName_79 : decode cX9_isNewName 79 = .ok (.iconst 0, 1) := dk_3 rfl
theorem dX9_isNewName_80 : decode cX9_isNewName 80 = .ok (.invokevirtual 209, 3) := dk_182 rfl rfl rfl rfl
theorem dX9_isNewName_83 : decode cX9_isNewName 83 = .ok (.aload_n 0, 1) := dk_42 rfl
theorem dX9_isNewName_84 : decode cX9_isNewName 84 = .ok (.invokevirtual 74, 3) := dk_182 rfl rfl rfl rfl
theorem dX9_isNewName_87 : decode cX9_isNewName 87 = .ok (.iconst 1, 1) := dk_4 rfl
theorem dX9_isNewName_88 : decode cX9_isNewName 88 = .ok (.ireturn, 1) := dk_172 rfl
theorem dX9_isOldName_0 : decode cX9_isOldName 0 = .ok (.aload_n 0, 1) := dk_42 rfl
theorem dX9_isOldName_1 : decode cX9_isOldName 1 = .ok (.getfield 48, 3) := dk_180 rfl rfl rfl rfl
theorem dX9_isOldName_4 : decode cX9_isOldName 4 = .ok (.iconst 1, 1) := dk_4 rfl
theorem dX9_isOldName_5 : decode cX9_isOldName 5 = .ok (.if_icmp .ne 10, 3) := dk_160 rfl rfl rfl (by decide)
theorem dX9_isOldName_8 : decode cX9_isOldName 8 = .ok (.aload_n 0, 1) := dk_42 rfl
theorem dX9_isOldName_9 : decode cX9_isOldName 9 = .ok (.invokevirtual 113, 3) := dk_182 rfl rfl rfl rfl
theorem dX9_isOldName_12 : decode cX9_isOldName 12 = .ok (.ifCond .eq 13, 3) := dk_153 rfl rfl rfl (by decide)
theorem dX9_isOldName_15 : decode cX9_isOldName 15 = .ok (.aload_n 0, 1) := dk_42 rfl
theorem dX9_isOldName_16 : decode cX9_isOldName 16 = .ok (.iconst 1, 1) := dk_4 rfl
theorem dX9_isOldName_17 : decode cX9_isOldName 17 = .ok (.aload_n 0, 1) := dk_42 rfl
theorem dX9_isOldName_18 : decode cX9_isOldName 18 = .ok (.getfield 51, 3) := dk_180 rfl rfl rfl rfl
theorem dX9_isOldName_21 : decode cX9_isOldName 21 = .ok (.invokevirtual 84, 3) := dk_182 rfl rfl rfl rfl
theorem dX9_isOldName_24 : decode cX9_isOldName 24 = .ok (.ireturn, 1) := dk_172 rfl
theorem dX9_isOldName_25 : decode cX9_isOldName 25 = .ok (.aload_n 0, 1) := dk_42 rfl
theorem dX9_isOldName_26 : decode cX9_isOldName 26 = .ok (.invokevirtual 284, 3) := dk_182 rfl rfl rfl rfl
theorem dX9_isOldName_29 : decode cX9_isOldName 29 = .ok (.istore_n 2, 1) := dk_61 rfl
theorem dX9_isOldName_30 : decode cX9_isOldName 30 = .ok (.iload_n 2, 1) := dk_28 rfl
theorem dX9_isOldName_31 : decode cX9_isOldName 31 = .ok (.ifCond .lt 16, 3) := dk_155 rfl rfl rfl (by decide)
theorem dX9_isOldName_34 : decode cX9_isOldName 34 = .ok (.aload_n 0, 1) := dk_42 rfl
theorem dX9_isOldName_35 : decode cX9_isOldName 35 = .ok (.getfield 44, 3) := dk_180 rfl rfl rfl rfl
theorem dX9_isOldName_38 : decode cX9_isOldName 38 = .ok (.iload_n 2, 1) := dk_28 rfl
theorem dX9_isOldName_39 : decode cX9_isOldName 39 = .ok (.iconst 0, 1) := dk_3 rfl
theorem dX9_isOldName_40 : decode cX9_isOldName 40 = .ok (.invokevirtual 240, 3) := dk_182 rfl rfl rfl rfl
theorem dX9_isOldName_43 : decode cX9_isOldName 43 = .ok (.iload_n 1, 1) := dk_27 rfl
theorem dX9_isOldName_44 : decode cX9_isOldName 44 = .ok (.if_icmp .eq 13, 3) := dk_159 rfl rfl rfl (by decide)
theorem dX9_isOldName_47 : decode cX9_isOldName 47 = .ok (.aload_n 0, 1) := dk_42 rfl
theorem dX9_isOldName_48 : decode cX9_isOldName 48 = .ok (.iconst 2, 1) := dk_5 rfl
theorem dX9_isOldName_49 : decode cX9_isOldName 49 = .ok (.aload_n 0, 1) := dk_42 rfl
theorem dX9_isOldName_50 : decode cX9_isOldName 50 = .ok (.getfield 51, 3) := dk_180 rfl rfl rfl rfl
theorem dX9_isOldName_53 : decode cX9_isOldName 53 = .ok (.invokevirtual 84, 3) := dk_182 rfl rfl rfl rfl
theorem dX9_isOldName_56 : decode cX9_isOldName 56 = .ok (.ireturn, 1) := dk_172 rfl
theorem dX9_isOldName_57 : decode cX9_isOldName 57 = .ok (.aload_n 0, 1) := dk_42 rfl
theorem dX9_isOldName_58 : decode cX9_isOldName 58 = .ok (.aload_n 0, 1) := dk_42 rfl
theorem dX9_isOldName_59 : decode cX9_isOldName 59 = .ok (.getfield 44, 3) := dk_180 rfl rfl rfl rfl
theorem dX9_isOldName_62 : decode cX9_isOldName 62 = .ok (.iload_n 2, 1) := dk_28 rfl
theorem dX9_isOldName_63 : decode cX9_isOldName 63 = .ok (.iconst 1, 1) := dk_4 rfl
theorem dX9_isOldName_64 : decode cX9_isOldName 64 = .ok (.invokevirtual 240, 3) := dk_182 rfl rfl rfl rfl
theorem dX9_isOldName_67 : decode cX9_isOldName 67 = .ok (.putfield 64, 3) := dk_181 rfl rfl rfl rfl
theorem dX9_isOldName_70 : decode cX9_isOldName 70 = .ok (.aload_n 0, 1) := dk_42 rfl
theorem dX9_isOldName_71 : decode cX9_isOldName 71 = .ok (.aload_n 0, 1) := dk_42 rfl
theorem dX9_isOldName_72 : decode cX9_isOldName 72 = .ok (.getfield 51, 3) := dk_180 rfl rfl rfl rfl
theorem dX9_isOldName_75 : decode cX9_isOldName 75 = .ok (.putfield 67, 3) := dk_181 rfl rfl rfl rfl
theorem dX9_isOldName_78 : decode cX9_isOldName 78 = .ok (.aload_n 0, 1) := dk_42 rfl
theorem dX9_isOldName_79 : decode cX9_isOldName 79 = .ok (.invokevirtual 74, 3) := dk_182 rfl rfl rfl rfl
theorem dX9_isOldName_82 : decode cX9_isOldName 82 = .ok (.iconst 1, 1) := dk_4 rfl
theorem dX9_isOldName_83 : decode cX9_isOldName 83 = .ok (.ireturn, 1) := dk_172 rfl
theorem dX9_hasRoom_0 : decode cX9_hasRoom 0 = .ok (.aload_n 1, 1) := dk_43 rfl
theorem dX9_hasRoom_1 : decode cX9_hasRoom 1 = .ok (.invokevirtual 262, 3) := dk_182 rfl rfl rfl rfl
theorem dX9_hasRoom_4 : decode cX9_hasRoom 4 = .ok (.ifCond .eq 13, 3) := dk_153 rfl rfl rfl (by decide)
theorem dX9_hasRoom_7 : decode cX9_hasRoom 7 = .ok (.aload_n 0, 1) := dk_42 rfl
theorem dX9_hasRoom_8 : decode cX9_hasRoom 8 = .ok (.iconst 5, 1) := dk_8 rfl
theorem dX9_hasRoom_9 : decode cX9_hasRoom 9 = .ok (.aload_n 0, 1) := dk_42 rfl
theorem dX9_hasRoom_10 : decode cX9_hasRoom 10 = .ok (.getfield 51, 3) := dk_180 rfl rfl rfl rfl
theorem dX9_hasRoom_13 : decode cX9_hasRoom 13 = .ok (.invokevirtual 84, 3) := dk_182 rfl rfl rfl rfl
theorem dX9_hasRoom_16 : decode cX9_hasRoom 16 = .ok (.ireturn, 1) := dk_172 rfl
theorem dX9_hasRoom_17 : decode cX9_hasRoom 17 = .ok (.aload_n 0, 1) := dk_42 rfl
theorem dX9_hasRoom_18 : decode cX9_hasRoom 18 = .ok (.invokevirtual 74, 3) := dk_182 rfl rfl rfl rfl
theorem dX9_hasRoom_21 : decode cX9_hasRoom 21 = .ok (.iconst 1, 1) := dk_4 rfl
theorem dX9_hasRoom_22 : decode cX9_hasRoom 22 = .ok (.ireturn, 1) := dk_172 rfl
theorem dX9_lastFrame_0 : decode cX9_lastFrame 0 = .ok (.aload_n 0, 1) := dk_42 rfl
theorem dX9_lastFrame_1 : decode cX9_lastFrame 1 = .ok (.getfield 18, 3) := dk_180 rfl rfl rfl rfl
theorem dX9_lastFrame_4 : decode cX9_lastFrame 4 = .ok (.getfield 88, 3) := dk_180 rfl rfl rfl rfl
theorem dX9_lastFrame_7 : decode cX9_lastFrame 7 = .ok (.getfield 193, 3) := dk_180 rfl rfl rfl rfl
theorem dX9_lastFrame_10 : decode cX9_lastFrame 10 = .ok (.iload_n 1, 1) := dk_27 rfl
theorem dX9_lastFrame_11 : decode cX9_lastFrame 11 = .ok (.iconst 0, 1) := dk_3 rfl
theorem dX9_lastFrame_12 : decode cX9_lastFrame 12 = .ok (.invokevirtual 240, 3) := dk_182 rfl rfl rfl rfl
theorem dX9_lastFrame_15 : decode cX9_lastFrame 15 = .ok (.iconst 1, 1) := dk_4 rfl
theorem dX9_lastFrame_16 : decode cX9_lastFrame 16 = .ok (.isub, 1) := dk_100 rfl
theorem dX9_lastFrame_17 : decode cX9_lastFrame 17 = .ok (.ireturn, 1) := dk_172 rfl
theorem dX9_isNumber_0 : decode cX9_isNumber 0 = .ok (.aload_n 0, 1) := dk_42 rfl
theorem dX9_isNumber_1 : decode cX9_isNumber 1 = .ok (.aload_n 1, 1) := dk_43 rfl
theorem dX9_isNumber_2 : decode cX9_isNumber 2 = .ok (.invokevirtual 183, 3) := dk_182 rfl rfl rfl rfl
theorem dX9_isNumber_5 : decode cX9_isNumber 5 = .ok (.ifCond .eq 13, 3) := dk_153 rfl rfl rfl (by decide)
theorem dX9_isNumber_8 : decode cX9_isNumber 8 = .ok (.aload_n 0, 1) := dk_42 rfl
theorem dX9_isNumber_9 : decode cX9_isNumber 9 = .ok (.iload_n 3, 1) := dk_29 rfl
theorem dX9_isNumber_10 : decode cX9_isNumber 10 = .ok (.iload 4, 2) := dk_21 rfl rfl rfl
theorem dX9_isNumber_12 : decode cX9_isNumber 12 = .ok (.invokevirtual 186, 3) := dk_182 rfl rfl rfl rfl
theorem dX9_isNumber_15 : decode cX9_isNumber 15 = .ok (.ifCond .ne 5, 3) := dk_154 rfl rfl rfl (by decide)
theorem dX9_isNumber_18 : decode cX9_isNumber 18 = .ok (.iconst 0, 1) := dk_3 rfl
theorem dX9_isNumber_19 : decode cX9_isNumber 19 = .ok (.ireturn, 1) := dk_172 rfl
theorem dX9_isNumber_20 : decode cX9_isNumber 20 = .ok (.aload_n 0, 1) := dk_42 rfl
theorem dX9_isNumber_21 : decode cX9_isNumber 21 = .ok (.getfield 18, 3) := dk_180 rfl rfl rfl rfl
theorem dX9_isNumber_24 : decode cX9_isNumber 24 = .ok (.getfield 116, 3) := dk_180 rfl rfl rfl rfl
theorem dX9_isNumber_27 : decode cX9_isNumber 27 = .ok (.iconst 0, 1) := dk_3 rfl
theorem dX9_isNumber_28 : decode cX9_isNumber 28 = .ok (.iload_n 2, 1) := dk_28 rfl
theorem dX9_isNumber_29 : decode cX9_isNumber 29 = .ok (.aload_n 0, 1) := dk_42 rfl
theorem dX9_isNumber_30 : decode cX9_isNumber 30 = .ok (.getfield 64, 3) := dk_180 rfl rfl rfl rfl
theorem dX9_isNumber_33 : decode cX9_isNumber 33 = .ok (.invokevirtual 189, 3) := dk_182 rfl rfl rfl rfl
theorem dX9_isNumber_36 : decode cX9_isNumber 36 = .ok (.iconst 1, 1) := dk_4 rfl
theorem dX9_isNumber_37 : decode cX9_isNumber 37 = .ok (.ireturn, 1) := dk_172 rfl
theorem dX9_isHouseLine_0 : decode cX9_isHouseLine 0 = .ok (.aload_n 0, 1) := dk_42 rfl
theorem dX9_isHouseLine_1 : decode cX9_isHouseLine 1 = .ok (.getfield 18, 3) := dk_180 rfl rfl rfl rfl
theorem dX9_isHouseLine_4 : decode cX9_isHouseLine 4 = .ok (.getfield 116, 3) := dk_180 rfl rfl rfl rfl
theorem dX9_isHouseLine_7 : decode cX9_isHouseLine 7 = .ok (.getfield 97, 3) := dk_180 rfl rfl rfl rfl
theorem dX9_isHouseLine_10 : decode cX9_isHouseLine 10 = .ok (.ifCond .le 13, 3) := dk_158 rfl rfl rfl (by decide)
theorem dX9_isHouseLine_13 : decode cX9_isHouseLine 13 = .ok (.aload_n 0, 1) := dk_42 rfl
theorem dX9_isHouseLine_14 : decode cX9_isHouseLine 14 = .ok (.iconst 3, 1) := dk_6 rfl
theorem dX9_isHouseLine_15 : decode cX9_isHouseLine 15 = .ok (.aload_n 0, 1) := dk_42 rfl
theorem dX9_isHouseLine_16 : decode cX9_isHouseLine 16 = .ok (.getfield 51, 3) := dk_180 rfl rfl rfl rfl
theorem dX9_isHouseLine_19 : decode cX9_isHouseLine 19 = .ok (.invokevirtual 84, 3) := dk_182 rfl rfl rfl rfl
theorem dX9_isHouseLine_22 : decode cX9_isHouseLine 22 = .ok (.ireturn, 1) := dk_172 rfl
theorem dX9_isHouseLine_23 : decode cX9_isHouseLine 23 = .ok (.aload_n 0, 1) := dk_42 rfl
theorem dX9_isHouseLine_24 : decode cX9_isHouseLine 24 = .ok (.invokevirtual 74, 3) := dk_182 rfl rfl rfl rfl
theorem dX9_isHouseLine_27 : decode cX9_isHouseLine 27 = .ok (.aload_n 0, 1) := dk_42 rfl
theorem dX9_isHouseLine_28 : decode cX9_isHouseLine 28 = .ok (.getfield 18, 3) := dk_180 rfl rfl rfl rfl
theorem dX9_isHouseLine_31 : decode cX9_isHouseLine 31 = .ok (.getfield 116, 3) := dk_180 rfl rfl rfl rfl
theorem dX9_isHouseLine_34 : decode cX9_isHouseLine 34 = .ok (.iconst 1, 1) := dk_4 rfl
theorem dX9_isHouseLine_35 : decode cX9_isHouseLine 35 = .ok (.putfield 97, 3) := dk_181 rfl rfl rfl rfl
theorem dX9_isHouseLine_38 : decode cX9_isHouseLine 38 = .ok (.aload_n 0, 1) := dk_42 rfl
theorem dX9_isHouseLine_39 : decode cX9_isHouseLine 39 = .ok (.ldc 167, 2) := dk_18 rfl rfl rfl
theorem dX9_isHouseLine_41 : decode cX9_isHouseLine 41 = .ok (.iconst 0, 1) := dk_3 rfl
theorem dX9_isHouseLine_42 : decode cX9_isHouseLine 42 = .ok (.iconst 1, 1) := dk_4 rfl
theorem dX9_isHouseLine_43 : decode cX9_isHouseLine 43 = .ok (.bipush 50, 2) := dk_16 rfl rfl (by decide)
theorem dX9_isHouseLine_45 : decode cX9_isHouseLine 45 = .ok (.invokevirtual 169, 3) := dk_182 rfl rfl rfl rfl
theorem dX9_isHouseLine_48 : decode cX9_isHouseLine 48 = .ok (.ifCond .eq 75, 3) := dk_153 rfl rfl rfl (by decide)
theorem dX9_isHouseLine_51 : decode cX9_isHouseLine 51 = .ok (.aload_n 0, 1) := dk_42 rfl
theorem dX9_isHouseLine_52 : decode cX9_isHouseLine 52 = .ok (.ldc 173, 2) := dk_18 rfl rfl rfl
theorem dX9_isHouseLine_54 : decode cX9_isHouseLine 54 = .ok (.iconst 1, 1) := dk_4 rfl
theorem dX9_isHouseLine_55 : decode cX9_isHouseLine 55 = .ok (.iconst 0, 1) := dk_3 rfl
theorem dX9_isHouseLine_56 : decode cX9_isHouseLine 56 = .ok (.bipush 50, 2) := dk_16 rfl rfl (by decide)
theorem dX9_isHouseLine_58 : decode cX9_isHouseLine 58 = .ok (.invokevirtual 169, 3) := dk_182 rfl rfl rfl rfl
theorem dX9_isHouseLine_61 : decode cX9_isHouseLine 61 = .ok (.ifCond .eq 62, 3) := dk_153 rfl rfl rfl (by decide)
theorem dX9_isHouseLine_64 : decode cX9_isHouseLine 64 = .ok (.aload_n 0, 1) := dk_42 rfl
theorem dX9_isHouseLine_65 : decode cX9_isHouseLine 65 = .ok (.ldc 175, 2) := dk_18 rfl rfl rfl
theorem dX9_isHouseLine_67 : decode cX9_isHouseLine 67 = .ok (.iconst 2, 1) := dk_5 rfl
theorem dX9_isHouseLine_68 : decode cX9_isHouseLine 68 = .ok (.iconst 0, 1) := dk_3 rfl
theorem dX9_isHouseLine_69 : decode cX9_isHouseLine 69 = .ok (.bipush 99, 2) := dk_16 rfl rfl (by decide)
theorem dX9_isHouseLine_71 : decode cX9_isHouseLine 71 = .ok (.invokevirtual 169, 3) := dk_182 rfl rfl rfl rfl
theorem dX9_isHouseLine_74 : decode cX9_isHouseLine 74 = .ok (.ifCond .eq 49, 3) := dk_153 rfl rfl rfl (by decide)
theorem dX9_isHouseLine_77 : decode cX9_isHouseLine 77 = .ok (.aload_n 0, 1) := dk_42 rfl
theorem dX9_isHouseLine_78 : decode cX9_isHouseLine 78 = .ok (.ldc 177, 2) := dk_18 rfl rfl rfl
theorem dX9_isHouseLine_80 : decode cX9_isHouseLine 80 = .ok (.iconst 3, 1) := dk_6 rfl
theorem dX9_isHouseLine_81 : decode cX9_isHouseLine 81 = .ok (.iconst 1, 1) := dk_4 rfl
theorem dX9_isHouseLine_82 : decode cX9_isHouseLine 82 = .ok (.sipush 9999, 3) := dk_17 rfl rfl rfl (by decide)
theorem dX9_isHouseLine_85 : decode cX9_isHouseLine 85 = .ok (.invokevirtual 169, 3) := dk_182 rfl rfl rfl rfl
theorem dX9_isHouseLine_88 : decode cX9_isHouseLine 88 = .ok (.ifCond .eq 35, 3) := dk_153 rfl rfl rfl (by decide)
theorem dX9_isHouseLine_91 : decode cX9_isHouseLine 91 = .ok (.aload_n 0, 1) := dk_42 rfl
theorem dX9_isHouseLine_92 : decode cX9_isHouseLine 92 = .ok (.ldc 179, 2) := dk_18 rfl rfl rfl
theorem dX9_isHouseLine_94 : decode cX9_isHouseLine 94 = .ok (.iconst 4, 1) := dk_7 rfl
theorem dX9_isHouseLine_95 : decode cX9_isHouseLine 95 = .ok (.iconst 0, 1) := dk_3 rfl
theorem dX9_isHouseLine_96 : decode cX9_isHouseLine 96 = .ok (.sipush 999, 3) := dk_17 rfl rfl rfl (by decide)
theorem dX9_isHouseLine_99 : decode cX9_isHouseLine 99 = .ok (.invokevirtual 169, 3) := by decide +kernel
theorem dX9_isHouseLine_102 : decode cX9_isHouseLine 102 = .ok (.ifCond .eq 21, 3) := by decide +kernel
theorem dX9_isHouseLine_105 : decode cX9_isHouseLine 105 = .ok (.aload_n 0, 1) := by decide +kernel
theorem dX9_isHouseLine_106 : decode cX9_isHouseLine 106 = .ok (.ldc 181, 2) := by decide +kernel
theorem dX9_isHouseLine_108 : decode cX9_isHouseLine 108 = .ok (.iconst 5, 1) := by decide +kernel
theorem dX9_isHouseLine_109 : decode cX9_isHouseLine 109 = .ok (.iconst 0, 1) := by decide +kernel
theorem dX9_isHouseLine_110 : decode cX9_isHouseLine 110 = .ok (.sipush 999, 3) := by decide +kernel
theorem dX9_isHouseLine_113 : decode cX9_isHouseLine 113 = .ok (.invokevirtual 169, 3) := by decide +kernel
theorem dX9_isHouseLine_116 : decode cX9_isHouseLine 116 = .ok (.ifCond .eq 7, 3) := by decide +kernel
theorem dX9_isHouseLine_119 : decode cX9_isHouseLine 119 = .ok (.iconst 1, 1) := by decide +kernel
theorem dX9_isHouseLine_120 : decode cX9_isHouseLine 120 = .ok (.goto 4, 3) := by decide +kernel
theorem dX9_isHouseLine_123 : decode cX9_isHouseLine 123 = .ok (.iconst 0, 1) := by decide +kernel
theorem dX9_isHouseLine_124 : decode cX9_isHouseLine 124 = .ok (.ireturn, 1) := by decide +kernel
theorem dX9_isReelLine_0 : decode cX9_isReelLine 0 = .ok (.aload_n 0, 1) := dk_42 rfl
theorem dX9_isReelLine_1 : decode cX9_isReelLine 1 = .ok (.getfield 18, 3) := dk_180 rfl rfl rfl rfl
theorem dX9_isReelLine_4 : decode cX9_isReelLine 4 = .ok (.getfield 88, 3) := dk_180 rfl rfl rfl rfl
theorem dX9_isReelLine_7 : decode cX9_isReelLine 7 = .ok (.getfield 193, 3) := dk_180 rfl rfl rfl rfl
theorem dX9_isReelLine_10 : decode cX9_isReelLine 10 = .ok (.astore_n 1, 1) := dk_76 rfl
theorem dX9_isReelLine_11 : decode cX9_isReelLine 11 = .ok (.aload_n 0, 1) := dk_42 rfl
theorem dX9_isReelLine_12 : decode cX9_isReelLine 12 = .ok (.aload_n 1, 1) := dk_43 rfl
theorem dX9_isReelLine_13 : decode cX9_isReelLine 13 = .ok (.invokevirtual 196, 3) := dk_182 rfl rfl rfl rfl
theorem dX9_isReelLine_16 : decode cX9_isReelLine 16 = .ok (.ifCond .eq 15, 3) := dk_153 rfl rfl rfl (by decide)
theorem dX9_isReelLine_19 : decode cX9_isReelLine 19 = .ok (.aload_n 0, 1) := dk_42 rfl
theorem dX9_isReelLine_20 : decode cX9_isReelLine 20 = .ok (.iconst 0, 1) := dk_3 rfl
theorem dX9_isReelLine_21 : decode cX9_isReelLine 21 = .ok (.aload_n 1, 1) := dk_43 rfl
theorem dX9_isReelLine_22 : decode cX9_isReelLine 22 = .ok (.getfield 97, 3) := dk_180 rfl rfl rfl rfl
theorem dX9_isReelLine_25 : decode cX9_isReelLine 25 = .ok (.invokevirtual 200, 3) := dk_182 rfl rfl rfl rfl
theorem dX9_isReelLine_28 : decode cX9_isReelLine 28 = .ok (.ifCond .ne 5, 3) := dk_154 rfl rfl rfl (by decide)
theorem dX9_isReelLine_31 : decode cX9_isReelLine 31 = .ok (.iconst 0, 1) := dk_3 rfl
theorem dX9_isReelLine_32 : decode cX9_isReelLine 32 = .ok (.ireturn, 1) := dk_172 rfl
theorem dX9_isReelLine_33 : decode cX9_isReelLine 33 = .ok (.aload_n 0, 1) := dk_42 rfl
theorem dX9_isReelLine_34 : decode cX9_isReelLine 34 = .ok (.ldc 203, 2) := dk_18 rfl rfl rfl
theorem dX9_isReelLine_36 : decode cX9_isReelLine 36 = .ok (.invokevirtual 183, 3) := dk_182 rfl rfl rfl rfl
theorem dX9_isReelLine_39 : decode cX9_isReelLine 39 = .ok (.ifCond .eq 14, 3) := dk_153 rfl rfl rfl (by decide)
theorem dX9_isReelLine_42 : decode cX9_isReelLine 42 = .ok (.aload_n 0, 1) := dk_42 rfl
theorem dX9_isReelLine_43 : decode cX9_isReelLine 43 = .ok (.iconst 2, 1) := dk_5 rfl
theorem dX9_isReelLine_44 : decode cX9_isReelLine 44 = .ok (.sipush 2000, 3) := dk_17 rfl rfl rfl (by decide)
theorem dX9_isReelLine_47 : decode cX9_isReelLine 47 = .ok (.invokevirtual 186, 3) := dk_182 rfl rfl rfl rfl
theorem dX9_isReelLine_50 : decode cX9_isReelLine 50 = .ok (.ifCond .ne 5, 3) := dk_154 rfl rfl rfl (by decide)
theorem dX9_isReelLine_53 : decode cX9_isReelLine 53 = .ok (.iconst 0, 1) := dk_3 rfl
theorem dX9_isReelLine_54 : decode cX9_isReelLine 54 = .ok (.ireturn, 1) := dk_172 rfl
theorem dX9_isReelLine_55 : decode cX9_isReelLine 55 = .ok (.aload_n 0, 1) := dk_42 rfl
theorem dX9_isReelLine_56 : decode cX9_isReelLine 56 = .ok (.getfield 64, 3) := dk_180 rfl rfl rfl rfl
theorem dX9_isReelLine_59 : decode cX9_isReelLine 59 = .ok (.istore_n 2, 1) := dk_61 rfl
theorem dX9_isReelLine_60 : decode cX9_isReelLine 60 = .ok (.aload_n 0, 1) := dk_42 rfl
theorem dX9_isReelLine_61 : decode cX9_isReelLine 61 = .ok (.ldc 205, 2) := dk_18 rfl rfl rfl
theorem dX9_isReelLine_63 : decode cX9_isReelLine 63 = .ok (.invokevirtual 183, 3) := dk_182 rfl rfl rfl rfl
theorem dX9_isReelLine_66 : decode cX9_isReelLine 66 = .ok (.ifCond .eq 14, 3) := dk_153 rfl rfl rfl (by decide)
theorem dX9_isReelLine_69 : decode cX9_isReelLine 69 = .ok (.aload_n 0, 1) := dk_42 rfl
theorem dX9_isReelLine_70 : decode cX9_isReelLine 70 = .ok (.iconst 0, 1) := dk_3 rfl
theorem dX9_isReelLine_71 : decode cX9_isReelLine 71 = .ok (.iload_n 2, 1) := dk_28 rfl
theorem dX9_isReelLine_72 : decode cX9_isReelLine 72 = .ok (.iconst 1, 1) := dk_4 rfl
theorem dX9_isReelLine_73 : decode cX9_isReelLine 73 = .ok (.isub, 1) := dk_100 rfl
theorem dX9_isReelLine_74 : decode cX9_isReelLine 74 = .ok (.invokevirtual 186, 3) := dk_182 rfl rfl rfl rfl
theorem dX9_isReelLine_77 : decode cX9_isReelLine 77 = .ok (.ifCond .ne 5, 3) := dk_154 rfl rfl rfl (by decide)
theorem dX9_isReelLine_80 : decode cX9_isReelLine 80 = .ok (.iconst 0, 1) := dk_3 rfl
theorem dX9_isReelLine_81 : decode cX9_isReelLine 81 = .ok (.ireturn, 1) := dk_172 rfl
theorem dX9_isReelLine_82 : decode cX9_isReelLine 82 = .ok (.aload_n 0, 1) := dk_42 rfl
theorem dX9_isReelLine_83 : decode cX9_isReelLine 83 = .ok (.getfield 64, 3) := dk_180 rfl rfl rfl rfl
theorem dX9_isReelLine_86 : decode cX9_isReelLine 86 = .ok (.istore_n 3, 1) := dk_62 rfl
theorem dX9_isReelLine_87 : decode cX9_isReelLine 87 = .ok (.aload_n 0, 1) := dk_42 rfl
theorem dX9_isReelLine_88 : decode cX9_isReelLine 88 = .ok (.ldc 207, 2) := dk_18 rfl rfl rfl
theorem dX9_isReelLine_90 : decode cX9_isReelLine 90 = .ok (.invokevirtual 183, 3) := dk_182 rfl rfl rfl rfl
theorem dX9_isReelLine_93 : decode cX9_isReelLine 93 = .ok (.ifCond .eq 14, 3) := dk_153 rfl rfl rfl (by decide)
theorem dX9_isReelLine_96 : decode cX9_isReelLine 96 = .ok (.aload_n 0, 1) := dk_42 rfl
theorem dX9_isReelLine_97 : decode cX9_isReelLine 97 = .ok (.iload_n 2, 1) := by decide +kernel
theorem dX9_isReelLine_98 : decode cX9_isReelLine 98 = .ok (.sipush 2000, 3) := by decide +kernel
theorem dX9_isReelLine_101 : decode cX9_isReelLine 101 = .ok (.invokevirtual 186, 3) := by decide +kernel
theorem dX9_isReelLine_104 : decode cX9_isReelLine 104 = .ok (.ifCond .ne 5, 3) := by decide +kernel
theorem dX9_isReelLine_107 : decode cX9_isReelLine 107 = .ok (.iconst 0, 1) := by decide +kernel
theorem dX9_isReelLine_108 : decode cX9_isReelLine 108 = .ok (.ireturn, 1) := by decide +kernel
theorem dX9_isReelLine_109 : decode cX9_isReelLine 109 = .ok (.aload_n 1, 1) := by decide +kernel
theorem dX9_isReelLine_110 : decode cX9_isReelLine 110 = .ok (.iload_n 2, 1) := by decide +kernel
theorem dX9_isReelLine_111 : decode cX9_isReelLine 111 = .ok (.iload_n 3, 1) := by decide +kernel
theorem dX9_isReelLine_112 : decode cX9_isReelLine 112 = .ok (.aload_n 0, 1) := by decide +kernel
theorem dX9_isReelLine_113 : decode cX9_isReelLine 113 = .ok (.getfield 64, 3) := by decide +kernel
theorem dX9_isReelLine_116 : decode cX9_isReelLine 116 = .ok (.invokevirtual 209, 3) := by decide +kernel
theorem dX9_isReelLine_119 : decode cX9_isReelLine 119 = .ok (.iconst 1, 1) := by decide +kernel
theorem dX9_isReelLine_120 : decode cX9_isReelLine 120 = .ok (.ireturn, 1) := by decide +kernel
theorem dX9_isTownLine_0 : decode cX9_isTownLine 0 = .ok (.aload_n 0, 1) := dk_42 rfl
theorem dX9_isTownLine_1 : decode cX9_isTownLine 1 = .ok (.aload_n 0, 1) := dk_42 rfl
theorem dX9_isTownLine_2 : decode cX9_isTownLine 2 = .ok (.getfield 18, 3) := dk_180 rfl rfl rfl rfl
theorem dX9_isTownLine_5 : decode cX9_isTownLine 5 = .ok (.getfield 212, 3) := dk_180 rfl rfl rfl rfl
theorem dX9_isTownLine_8 : decode cX9_isTownLine 8 = .ok (.invokevirtual 196, 3) := dk_182 rfl rfl rfl rfl
theorem dX9_isTownLine_11 : decode cX9_isTownLine 11 = .ok (.ifCond .eq 21, 3) := dk_153 rfl rfl rfl (by decide)
theorem dX9_isTownLine_14 : decode cX9_isTownLine 14 = .ok (.aload_n 0, 1) := dk_42 rfl
theorem dX9_isTownLine_15 : decode cX9_isTownLine 15 = .ok (.iconst 1, 1) := dk_4 rfl
theorem dX9_isTownLine_16 : decode cX9_isTownLine 16 = .ok (.aload_n 0, 1) := dk_42 rfl
theorem dX9_isTownLine_17 : decode cX9_isTownLine 17 = .ok (.getfield 18, 3) := dk_180 rfl rfl rfl rfl
theorem dX9_isTownLine_20 : decode cX9_isTownLine 20 = .ok (.getfield 212, 3) := dk_180 rfl rfl rfl rfl
theorem dX9_isTownLine_23 : decode cX9_isTownLine 23 = .ok (.getfield 97, 3) := dk_180 rfl rfl rfl rfl
theorem dX9_isTownLine_26 : decode cX9_isTownLine 26 = .ok (.invokevirtual 200, 3) := dk_182 rfl rfl rfl rfl
theorem dX9_isTownLine_29 : decode cX9_isTownLine 29 = .ok (.ifCond .ne 5, 3) := dk_154 rfl rfl rfl (by decide)
theorem dX9_isTownLine_32 : decode cX9_isTownLine 32 = .ok (.iconst 0, 1) := dk_3 rfl
theorem dX9_isTownLine_33 : decode cX9_isTownLine 33 = .ok (.ireturn, 1) := dk_172 rfl
theorem dX9_isTownLine_34 : decode cX9_isTownLine 34 = .ok (.aload_n 0, 1) := dk_42 rfl
theorem dX9_isTownLine_35 : decode cX9_isTownLine 35 = .ok (.ldc 215, 2) := dk_18 rfl rfl rfl
theorem dX9_isTownLine_37 : decode cX9_isTownLine 37 = .ok (.invokevirtual 183, 3) := dk_182 rfl rfl rfl rfl
theorem dX9_isTownLine_40 : decode cX9_isTownLine 40 = .ok (.ifCond .eq 13, 3) := dk_153 rfl rfl rfl (by decide)
theorem dX9_isTownLine_43 : decode cX9_isTownLine 43 = .ok (.aload_n 0, 1) := dk_42 rfl
theorem dX9_isTownLine_44 : decode cX9_isTownLine 44 = .ok (.iconst 1, 1) := dk_4 rfl
theorem dX9_isTownLine_45 : decode cX9_isTownLine 45 = .ok (.bipush 9, 2) := dk_16 rfl rfl (by decide)
theorem dX9_isTownLine_47 : decode cX9_isTownLine 47 = .ok (.invokevirtual 186, 3) := dk_182 rfl rfl rfl rfl
theorem dX9_isTownLine_50 : decode cX9_isTownLine 50 = .ok (.ifCond .ne 5, 3) := dk_154 rfl rfl rfl (by decide)
theorem dX9_isTownLine_53 : decode cX9_isTownLine 53 = .ok (.iconst 0, 1) := dk_3 rfl
theorem dX9_isTownLine_54 : decode cX9_isTownLine 54 = .ok (.ireturn, 1) := dk_172 rfl
theorem dX9_isTownLine_55 : decode cX9_isTownLine 55 = .ok (.aload_n 0, 1) := dk_42 rfl
theorem dX9_isTownLine_56 : decode cX9_isTownLine 56 = .ok (.getfield 18, 3) := dk_180 rfl rfl rfl rfl
theorem dX9_isTownLine_59 : decode cX9_isTownLine 59 = .ok (.getfield 212, 3) := dk_180 rfl rfl rfl rfl
theorem dX9_isTownLine_62 : decode cX9_isTownLine 62 = .ok (.aload_n 0, 1) := dk_42 rfl
theorem dX9_isTownLine_63 : decode cX9_isTownLine 63 = .ok (.getfield 64, 3) := dk_180 rfl rfl rfl rfl
theorem dX9_isTownLine_66 : decode cX9_isTownLine 66 = .ok (.iconst 0, 1) := dk_3 rfl
theorem dX9_isTownLine_67 : decode cX9_isTownLine 67 = .ok (.iconst 0, 1) := dk_3 rfl
theorem dX9_isTownLine_68 : decode cX9_isTownLine 68 = .ok (.invokevirtual 209, 3) := dk_182 rfl rfl rfl rfl
theorem dX9_isTownLine_71 : decode cX9_isTownLine 71 = .ok (.iconst 1, 1) := dk_4 rfl
theorem dX9_isTownLine_72 : decode cX9_isTownLine 72 = .ok (.ireturn, 1) := dk_172 rfl
theorem dX9_isMarkLine_0 : decode cX9_isMarkLine 0 = .ok (.aload_n 0, 1) := dk_42 rfl
theorem dX9_isMarkLine_1 : decode cX9_isMarkLine 1 = .ok (.getfield 18, 3) := dk_180 rfl rfl rfl rfl
theorem dX9_isMarkLine_4 : decode cX9_isMarkLine 4 = .ok (.getfield 88, 3) := dk_180 rfl rfl rfl rfl
theorem dX9_isMarkLine_7 : decode cX9_isMarkLine 7 = .ok (.astore_n 1, 1) := dk_76 rfl
theorem dX9_isMarkLine_8 : decode cX9_isMarkLine 8 = .ok (.aload_n 0, 1) := dk_42 rfl
theorem dX9_isMarkLine_9 : decode cX9_isMarkLine 9 = .ok (.aload_n 1, 1) := dk_43 rfl
theorem dX9_isMarkLine_10 : decode cX9_isMarkLine 10 = .ok (.getfield 217, 3) := dk_180 rfl rfl rfl rfl
theorem dX9_isMarkLine_13 : decode cX9_isMarkLine 13 = .ok (.invokevirtual 196, 3) := dk_182 rfl rfl rfl rfl
theorem dX9_isMarkLine_16 : decode cX9_isMarkLine 16 = .ok (.ifCond .eq 11, 3) := dk_153 rfl rfl rfl (by decide)
theorem dX9_isMarkLine_19 : decode cX9_isMarkLine 19 = .ok (.aload_n 0, 1) := dk_42 rfl
theorem dX9_isMarkLine_20 : decode cX9_isMarkLine 20 = .ok (.iconst 0, 1) := dk_3 rfl
theorem dX9_isMarkLine_21 : decode cX9_isMarkLine 21 = .ok (.invokevirtual 220, 3) := dk_182 rfl rfl rfl rfl
theorem dX9_isMarkLine_24 : decode cX9_isMarkLine 24 = .ok (.ifCond .ne 5, 3) := dk_154 rfl rfl rfl (by decide)
theorem dX9_isMarkLine_27 : decode cX9_isMarkLine 27 = .ok (.iconst 0, 1) := dk_3 rfl
theorem dX9_isMarkLine_28 : decode cX9_isMarkLine 28 = .ok (.ireturn, 1) := dk_172 rfl
theorem dX9_isMarkLine_29 : decode cX9_isMarkLine 29 = .ok (.aload_n 0, 1) := dk_42 rfl
theorem dX9_isMarkLine_30 : decode cX9_isMarkLine 30 = .ok (.getfield 64, 3) := dk_180 rfl rfl rfl rfl
theorem dX9_isMarkLine_33 : decode cX9_isMarkLine 33 = .ok (.istore_n 2, 1) := dk_61 rfl
theorem dX9_isMarkLine_34 : decode cX9_isMarkLine 34 = .ok (.aload_n 0, 1) := dk_42 rfl
theorem dX9_isMarkLine_35 : decode cX9_isMarkLine 35 = .ok (.iconst 0, 1) := dk_3 rfl
theorem dX9_isMarkLine_36 : decode cX9_isMarkLine 36 = .ok (.aload_n 0, 1) := dk_42 rfl
theorem dX9_isMarkLine_37 : decode cX9_isMarkLine 37 = .ok (.iload_n 2, 1) := dk_28 rfl
theorem dX9_isMarkLine_38 : decode cX9_isMarkLine 38 = .ok (.invokevirtual 224, 3) := dk_182 rfl rfl rfl rfl
theorem dX9_isMarkLine_41 : decode cX9_isMarkLine 41 = .ok (.invokevirtual 186, 3) := dk_182 rfl rfl rfl rfl
theorem dX9_isMarkLine_44 : decode cX9_isMarkLine 44 = .ok (.ifCond .ne 5, 3) := dk_154 rfl rfl rfl (by decide)
theorem dX9_isMarkLine_47 : decode cX9_isMarkLine 47 = .ok (.iconst 0, 1) := dk_3 rfl
theorem dX9_isMarkLine_48 : decode cX9_isMarkLine 48 = .ok (.ireturn, 1) := dk_172 rfl
theorem dX9_isMarkLine_49 : decode cX9_isMarkLine 49 = .ok (.aload_n 0, 1) := dk_42 rfl
theorem dX9_isMarkLine_50 : decode cX9_isMarkLine 50 = .ok (.getfield 64, 3) := dk_180 rfl rfl rfl rfl
theorem dX9_isMarkLine_53 : decode cX9_isMarkLine 53 = .ok (.istore_n 3, 1) := dk_62 rfl
theorem dX9_isMarkLine_54 : decode cX9_isMarkLine 54 = .ok (.aload_n 0, 1) := dk_42 rfl
theorem dX9_isMarkLine_55 : decode cX9_isMarkLine 55 = .ok (.ldc 111, 2) := dk_18 rfl rfl rfl
theorem dX9_isMarkLine_57 : decode cX9_isMarkLine 57 = .ok (.invokevirtual 183, 3) := dk_182 rfl rfl rfl rfl
theorem dX9_isMarkLine_60 : decode cX9_isMarkLine 60 = .ok (.ifCond .eq 11, 3) := dk_153 rfl rfl rfl (by decide)
theorem dX9_isMarkLine_63 : decode cX9_isMarkLine 63 = .ok (.aload_n 0, 1) := dk_42 rfl
theorem dX9_isMarkLine_64 : decode cX9_isMarkLine 64 = .ok (.iconst 1, 1) := dk_4 rfl
theorem dX9_isMarkLine_65 : decode cX9_isMarkLine 65 = .ok (.invokevirtual 220, 3) := dk_182 rfl rfl rfl rfl
theorem dX9_isMarkLine_68 : decode cX9_isMarkLine 68 = .ok (.ifCond .ne 5, 3) := dk_154 rfl rfl rfl (by decide)
theorem dX9_isMarkLine_71 : decode cX9_isMarkLine 71 = .ok (.iconst 0, 1) := dk_3 rfl
theorem dX9_isMarkLine_72 : decode cX9_isMarkLine 72 = .ok (.ireturn, 1) := dk_172 rfl
theorem dX9_isMarkLine_73 : decode cX9_isMarkLine 73 = .ok (.aload_n 1, 1) := dk_43 rfl
theorem dX9_isMarkLine_74 : decode cX9_isMarkLine 74 = .ok (.iload_n 2, 1) := dk_28 rfl
theorem dX9_isMarkLine_75 : decode cX9_isMarkLine 75 = .ok (.aload_n 0, 1) := dk_42 rfl
theorem dX9_isMarkLine_76 : decode cX9_isMarkLine 76 = .ok (.getfield 64, 3) := dk_180 rfl rfl rfl rfl
theorem dX9_isMarkLine_79 : decode cX9_isMarkLine 79 = .ok (.invokevirtual 228, 3) := dk_182 rfl rfl rfl rfl
theorem dX9_isMarkLine_82 : decode cX9_isMarkLine 82 = .ok (.ifCond .lt 13, 3) := dk_155 rfl rfl rfl (by decide)
theorem dX9_isMarkLine_85 : decode cX9_isMarkLine 85 = .ok (.aload_n 0, 1) := dk_42 rfl
theorem dX9_isMarkLine_86 : decode cX9_isMarkLine 86 = .ok (.iconst 3, 1) := dk_6 rfl
theorem dX9_isMarkLine_87 : decode cX9_isMarkLine 87 = .ok (.aload_n 0, 1) := dk_42 rfl
theorem dX9_isMarkLine_88 : decode cX9_isMarkLine 88 = .ok (.getfield 67, 3) := dk_180 rfl rfl rfl rfl
theorem dX9_isMarkLine_91 : decode cX9_isMarkLine 91 = .ok (.invokevirtual 84, 3) := dk_182 rfl rfl rfl rfl
theorem dX9_isMarkLine_94 : decode cX9_isMarkLine 94 = .ok (.ireturn, 1) := dk_172 rfl
theorem dX9_isMarkLine_95 : decode cX9_isMarkLine 95 = .ok (.aload_n 1, 1) := dk_43 rfl
theorem dX9_isMarkLine_96 : decode cX9_isMarkLine 96 = .ok (.getfield 217, 3) := dk_180 rfl rfl rfl rfl
theorem dX9_isMarkLine_99 : decode cX9_isMarkLine 99 = .ok (.iload_n 2, 1) := by decide +kernel
theorem dX9_isMarkLine_100 : decode cX9_isMarkLine 100 = .ok (.iload_n 3, 1) := by decide +kernel
theorem dX9_isMarkLine_101 : decode cX9_isMarkLine 101 = .ok (.aload_n 0, 1) := by decide +kernel
theorem dX9_isMarkLine_102 : decode cX9_isMarkLine 102 = .ok (.getfield 64, 3) := by decide +kernel
theorem dX9_isMarkLine_105 : decode cX9_isMarkLine 105 = .ok (.invokevirtual 209, 3) := by decide +kernel
theorem dX9_isMarkLine_108 : decode cX9_isMarkLine 108 = .ok (.iconst 1, 1) := by decide +kernel
theorem dX9_isMarkLine_109 : decode cX9_isMarkLine 109 = .ok (.ireturn, 1) := by decide +kernel
theorem dX9_isJoinLine_0 : decode cX9_isJoinLine 0 = .ok (.aload_n 0, 1) := dk_42 rfl
theorem dX9_isJoinLine_1 : decode cX9_isJoinLine 1 = .ok (.aload_n 0, 1) := dk_42 rfl
theorem dX9_isJoinLine_2 : decode cX9_isJoinLine 2 = .ok (.getfield 18, 3) := dk_180 rfl rfl rfl rfl
theorem dX9_isJoinLine_5 : decode cX9_isJoinLine 5 = .ok (.getfield 232, 3) := dk_180 rfl rfl rfl rfl
theorem dX9_isJoinLine_8 : decode cX9_isJoinLine 8 = .ok (.invokevirtual 196, 3) := dk_182 rfl rfl rfl rfl
theorem dX9_isJoinLine_11 : decode cX9_isJoinLine 11 = .ok (.ifCond .eq 11, 3) := dk_153 rfl rfl rfl (by decide)
theorem dX9_isJoinLine_14 : decode cX9_isJoinLine 14 = .ok (.aload_n 0, 1) := dk_42 rfl
theorem dX9_isJoinLine_15 : decode cX9_isJoinLine 15 = .ok (.iconst 0, 1) := dk_3 rfl
theorem dX9_isJoinLine_16 : decode cX9_isJoinLine 16 = .ok (.invokevirtual 220, 3) := dk_182 rfl rfl rfl rfl
theorem dX9_isJoinLine_19 : decode cX9_isJoinLine 19 = .ok (.ifCond .ne 5, 3) := dk_154 rfl rfl rfl (by decide)
theorem dX9_isJoinLine_22 : decode cX9_isJoinLine 22 = .ok (.iconst 0, 1) := dk_3 rfl
theorem dX9_isJoinLine_23 : decode cX9_isJoinLine 23 = .ok (.ireturn, 1) := dk_172 rfl
theorem dX9_isJoinLine_24 : decode cX9_isJoinLine 24 = .ok (.aload_n 0, 1) := dk_42 rfl
theorem dX9_isJoinLine_25 : decode cX9_isJoinLine 25 = .ok (.getfield 64, 3) := dk_180 rfl rfl rfl rfl
theorem dX9_isJoinLine_28 : decode cX9_isJoinLine 28 = .ok (.istore_n 1, 1) := dk_60 rfl
theorem dX9_isJoinLine_29 : decode cX9_isJoinLine 29 = .ok (.aload_n 0, 1) := dk_42 rfl
theorem dX9_isJoinLine_30 : decode cX9_isJoinLine 30 = .ok (.iconst 0, 1) := dk_3 rfl
theorem dX9_isJoinLine_31 : decode cX9_isJoinLine 31 = .ok (.aload_n 0, 1) := dk_42 rfl
theorem dX9_isJoinLine_32 : decode cX9_isJoinLine 32 = .ok (.iload_n 1, 1) := dk_27 rfl
theorem dX9_isJoinLine_33 : decode cX9_isJoinLine 33 = .ok (.invokevirtual 224, 3) := dk_182 rfl rfl rfl rfl
theorem dX9_isJoinLine_36 : decode cX9_isJoinLine 36 = .ok (.invokevirtual 186, 3) := dk_182 rfl rfl rfl rfl
theorem dX9_isJoinLine_39 : decode cX9_isJoinLine 39 = .ok (.ifCond .eq 22, 3) := dk_153 rfl rfl rfl (by decide)
theorem dX9_isJoinLine_42 : decode cX9_isJoinLine 42 = .ok (.aload_n 0, 1) := dk_42 rfl
theorem dX9_isJoinLine_43 : decode cX9_isJoinLine 43 = .ok (.ldc 235, 2) := dk_18 rfl rfl rfl
theorem dX9_isJoinLine_45 : decode cX9_isJoinLine 45 = .ok (.invokevirtual 183, 3) := dk_182 rfl rfl rfl rfl
theorem dX9_isJoinLine_48 : decode cX9_isJoinLine 48 = .ok (.ifCond .eq 13, 3) := dk_153 rfl rfl rfl (by decide)
theorem dX9_isJoinLine_51 : decode cX9_isJoinLine 51 = .ok (.aload_n 0, 1) := dk_42 rfl
theorem dX9_isJoinLine_52 : decode cX9_isJoinLine 52 = .ok (.iconst 1, 1) := dk_4 rfl
theorem dX9_isJoinLine_53 : decode cX9_isJoinLine 53 = .ok (.bipush 99, 2) := dk_16 rfl rfl (by decide)
theorem dX9_isJoinLine_55 : decode cX9_isJoinLine 55 = .ok (.invokevirtual 186, 3) := dk_182 rfl rfl rfl rfl
theorem dX9_isJoinLine_58 : decode cX9_isJoinLine 58 = .ok (.ifCond .ne 5, 3) := dk_154 rfl rfl rfl (by decide)
theorem dX9_isJoinLine_61 : decode cX9_isJoinLine 61 = .ok (.iconst 0, 1) := dk_3 rfl
theorem dX9_isJoinLine_62 : decode cX9_isJoinLine 62 = .ok (.ireturn, 1) := dk_172 rfl
theorem dX9_isJoinLine_63 : decode cX9_isJoinLine 63 = .ok (.aload_n 0, 1) := dk_42 rfl
theorem dX9_isJoinLine_64 : decode cX9_isJoinLine 64 = .ok (.getfield 18, 3) := dk_180 rfl rfl rfl rfl
theorem dX9_isJoinLine_67 : decode cX9_isJoinLine 67 = .ok (.getfield 232, 3) := dk_180 rfl rfl rfl rfl
theorem dX9_isJoinLine_70 : decode cX9_isJoinLine 70 = .ok (.iload_n 1, 1) := dk_27 rfl
theorem dX9_isJoinLine_71 : decode cX9_isJoinLine 71 = .ok (.aload_n 0, 1) := dk_42 rfl
theorem dX9_isJoinLine_72 : decode cX9_isJoinLine 72 = .ok (.getfield 64, 3) := dk_180 rfl rfl rfl rfl
theorem dX9_isJoinLine_75 : decode cX9_isJoinLine 75 = .ok (.iconst 0, 1) := dk_3 rfl
theorem dX9_isJoinLine_76 : decode cX9_isJoinLine 76 = .ok (.invokevirtual 209, 3) := dk_182 rfl rfl rfl rfl
theorem dX9_isJoinLine_79 : decode cX9_isJoinLine 79 = .ok (.iconst 1, 1) := dk_4 rfl
theorem dX9_isJoinLine_80 : decode cX9_isJoinLine 80 = .ok (.ireturn, 1) := dk_172 rfl
theorem dX9_isWeakLine_0 : decode cX9_isWeakLine 0 = .ok (.aload_n 0, 1) := dk_42 rfl
theorem dX9_isWeakLine_1 : decode cX9_isWeakLine 1 = .ok (.getfield 18, 3) := dk_180 rfl rfl rfl rfl
theorem dX9_isWeakLine_4 : decode cX9_isWeakLine 4 = .ok (.getfield 88, 3) := dk_180 rfl rfl rfl rfl
theorem dX9_isWeakLine_7 : decode cX9_isWeakLine 7 = .ok (.getfield 237, 3) := dk_180 rfl rfl rfl rfl
theorem dX9_isWeakLine_10 : decode cX9_isWeakLine 10 = .ok (.astore_n 1, 1) := dk_76 rfl
theorem dX9_isWeakLine_11 : decode cX9_isWeakLine 11 = .ok (.aload_n 0, 1) := dk_42 rfl
theorem dX9_isWeakLine_12 : decode cX9_isWeakLine 12 = .ok (.aload_n 1, 1) := dk_43 rfl
theorem dX9_isWeakLine_13 : decode cX9_isWeakLine 13 = .ok (.invokevirtual 196, 3) := dk_182 rfl rfl rfl rfl
theorem dX9_isWeakLine_16 : decode cX9_isWeakLine 16 = .ok (.ifCond .eq 11, 3) := dk_153 rfl rfl rfl (by decide)
theorem dX9_isWeakLine_19 : decode cX9_isWeakLine 19 = .ok (.aload_n 0, 1) := dk_42 rfl
theorem dX9_isWeakLine_20 : decode cX9_isWeakLine 20 = .ok (.iconst 0, 1) := dk_3 rfl
theorem dX9_isWeakLine_21 : decode cX9_isWeakLine 21 = .ok (.invokevirtual 220, 3) := dk_182 rfl rfl rfl rfl
theorem dX9_isWeakLine_24 : decode cX9_isWeakLine 24 = .ok (.ifCond .ne 5, 3) := dk_154 rfl rfl rfl (by decide)
theorem dX9_isWeakLine_27 : decode cX9_isWeakLine 27 = .ok (.iconst 0, 1) := dk_3 rfl
theorem dX9_isWeakLine_28 : decode cX9_isWeakLine 28 = .ok (.ireturn, 1) := dk_172 rfl
theorem dX9_isWeakLine_29 : decode cX9_isWeakLine 29 = .ok (.aload_n 0, 1) := dk_42 rfl
theorem dX9_isWeakLine_30 : decode cX9_isWeakLine 30 = .ok (.getfield 64, 3) := dk_180 rfl rfl rfl rfl
theorem dX9_isWeakLine_33 : decode cX9_isWeakLine 33 = .ok (.istore_n 2, 1) := dk_61 rfl
theorem dX9_isWeakLine_34 : decode cX9_isWeakLine 34 = .ok (.aload_n 0, 1) := dk_42 rfl
theorem dX9_isWeakLine_35 : decode cX9_isWeakLine 35 = .ok (.iconst 0, 1) := dk_3 rfl
theorem dX9_isWeakLine_36 : decode cX9_isWeakLine 36 = .ok (.aload_n 0, 1) := dk_42 rfl
theorem dX9_isWeakLine_37 : decode cX9_isWeakLine 37 = .ok (.iload_n 2, 1) := dk_28 rfl
theorem dX9_isWeakLine_38 : decode cX9_isWeakLine 38 = .ok (.invokevirtual 224, 3) := dk_182 rfl rfl rfl rfl
theorem dX9_isWeakLine_41 : decode cX9_isWeakLine 41 = .ok (.invokevirtual 186, 3) := dk_182 rfl rfl rfl rfl
theorem dX9_isWeakLine_44 : decode cX9_isWeakLine 44 = .ok (.ifCond .ne 5, 3) := dk_154 rfl rfl rfl (by decide)
theorem dX9_isWeakLine_47 : decode cX9_isWeakLine 47 = .ok (.iconst 0, 1) := dk_3 rfl
theorem dX9_isWeakLine_48 : decode cX9_isWeakLine 48 = .ok (.ireturn, 1) := dk_172 rfl
theorem dX9_isWeakLine_49 : decode cX9_isWeakLine 49 = .ok (.aload_n 0, 1) := dk_42 rfl
theorem dX9_isWeakLine_50 : decode cX9_isWeakLine 50 = .ok (.getfield 64, 3) := dk_180 rfl rfl rfl rfl
theorem dX9_isWeakLine_53 : decode cX9_isWeakLine 53 = .ok (.istore_n 3, 1) := dk_62 rfl
theorem dX9_isWeakLine_54 : decode cX9_isWeakLine 54 = .ok (.iconst 0, 1) := dk_3 rfl
theorem dX9_isWeakLine_55 : decode cX9_isWeakLine 55 = .ok (.istore 4, 2) := dk_54 rfl rfl rfl
theorem dX9_isWeakLine_57 : decode cX9_isWeakLine 57 = .ok (.iload 4, 2) := dk_21 rfl rfl rfl
theorem dX9_isWeakLine_59 : decode cX9_isWeakLine 59 = .ok (.aload_n 1, 1) := dk_43 rfl
theorem dX9_isWeakLine_60 : decode cX9_isWeakLine 60 = .ok (.getfield 97, 3) := dk_180 rfl rfl rfl rfl
theorem dX9_isWeakLine_63 : decode cX9_isWeakLine 63 = .ok (.if_icmp .ge 41, 3) := dk_162 rfl rfl rfl (by decide)
theorem dX9_isWeakLine_66 : decode cX9_isWeakLine 66 = .ok (.aload_n 1, 1) := dk_43 rfl
theorem dX9_isWeakLine_67 : decode cX9_isWeakLine 67 = .ok (.iload 4, 2) := dk_21 rfl rfl rfl
theorem dX9_isWeakLine_69 : decode cX9_isWeakLine 69 = .ok (.iconst 0, 1) := dk_3 rfl
theorem dX9_isWeakLine_70 : decode cX9_isWeakLine 70 = .ok (.invokevirtual 240, 3) := dk_182 rfl rfl rfl rfl
theorem dX9_isWeakLine_73 : decode cX9_isWeakLine 73 = .ok (.iload_n 2, 1) := dk_28 rfl
theorem dX9_isWeakLine_74 : decode cX9_isWeakLine 74 = .ok (.if_icmp .ne 24, 3) := dk_160 rfl rfl rfl (by decide)
theorem dX9_isWeakLine_77 : decode cX9_isWeakLine 77 = .ok (.aload_n 1, 1) := dk_43 rfl
theorem dX9_isWeakLine_78 : decode cX9_isWeakLine 78 = .ok (.iload 4, 2) := dk_21 rfl rfl rfl
theorem dX9_isWeakLine_80 : decode cX9_isWeakLine 80 = .ok (.iconst 1, 1) := dk_4 rfl
theorem dX9_isWeakLine_81 : decode cX9_isWeakLine 81 = .ok (.invokevirtual 240, 3) := dk_182 rfl rfl rfl rfl
theorem dX9_isWeakLine_84 : decode cX9_isWeakLine 84 = .ok (.iload_n 3, 1) := dk_29 rfl
theorem dX9_isWeakLine_85 : decode cX9_isWeakLine 85 = .ok (.if_icmp .ne 13, 3) := dk_160 rfl rfl rfl (by decide)
theorem dX9_isWeakLine_88 : decode cX9_isWeakLine 88 = .ok (.aload_n 0, 1) := dk_42 rfl
theorem dX9_isWeakLine_89 : decode cX9_isWeakLine 89 = .ok (.iconst 3, 1) := dk_6 rfl
theorem dX9_isWeakLine_90 : decode cX9_isWeakLine 90 = .ok (.aload_n 0, 1) := dk_42 rfl
theorem dX9_isWeakLine_91 : decode cX9_isWeakLine 91 = .ok (.getfield 67, 3) := dk_180 rfl rfl rfl rfl
theorem dX9_isWeakLine_94 : decode cX9_isWeakLine 94 = .ok (.invokevirtual 84, 3) := dk_182 rfl rfl rfl rfl
theorem dX9_isWeakLine_97 : decode cX9_isWeakLine 97 = .ok (.ireturn, 1) := by decide +kernel
theorem dX9_isWeakLine_98 : decode cX9_isWeakLine 98 = .ok (.iinc 4 1, 3) := by decide +kernel
theorem dX9_isWeakLine_101 : decode cX9_isWeakLine 101 = .ok (.goto (-44), 3) := by decide +kernel
theorem dX9_isWeakLine_104 : decode cX9_isWeakLine 104 = .ok (.aload_n 0, 1) := by decide +kernel
theorem dX9_isWeakLine_105 : decode cX9_isWeakLine 105 = .ok (.ldc 243, 2) := by decide +kernel
theorem dX9_isWeakLine_107 : decode cX9_isWeakLine 107 = .ok (.invokevirtual 183, 3) := by decide +kernel
theorem dX9_isWeakLine_110 : decode cX9_isWeakLine 110 = .ok (.ifCond .eq 13, 3) := by decide +kernel
theorem dX9_isWeakLine_113 : decode cX9_isWeakLine 113 = .ok (.aload_n 0, 1) := by decide +kernel
theorem dX9_isWeakLine_114 : decode cX9_isWeakLine 114 = .ok (.iconst 1, 1) := by decide +kernel
theorem dX9_isWeakLine_115 : decode cX9_isWeakLine 115 = .ok (.bipush 99, 2) := by decide +kernel
theorem dX9_isWeakLine_117 : decode cX9_isWeakLine 117 = .ok (.invokevirtual 186, 3) := by decide +kernel
theorem dX9_isWeakLine_120 : decode cX9_isWeakLine 120 = .ok (.ifCond .ne 5, 3) := by decide +kernel
theorem dX9_isWeakLine_123 : decode cX9_isWeakLine 123 = .ok (.iconst 0, 1) := by decide +kernel
theorem dX9_isWeakLine_124 : decode cX9_isWeakLine 124 = .ok (.ireturn, 1) := by decide +kernel
theorem dX9_isWeakLine_125 : decode cX9_isWeakLine 125 = .ok (.aload_n 1, 1) := by decide +kernel
theorem dX9_isWeakLine_126 : decode cX9_isWeakLine 126 = .ok (.iload_n 2, 1) := by decide +kernel
theorem dX9_isWeakLine_127 : decode cX9_isWeakLine 127 = .ok (.iload_n 3, 1) := by decide +kernel
theorem dX9_isWeakLine_128 : decode cX9_isWeakLine 128 = .ok (.aload_n 0, 1) := by decide +kernel
theorem dX9_isWeakLine_129 : decode cX9_isWeakLine 129 = .ok (.getfield 64, 3) := by decide +kernel
theorem dX9_isWeakLine_132 : decode cX9_isWeakLine 132 = .ok (.invokevirtual 209, 3) := by decide +kernel
theorem dX9_isWeakLine_135 : decode cX9_isWeakLine 135 = .ok (.iconst 1, 1) := by decide +kernel
theorem dX9_isWeakLine_136 : decode cX9_isWeakLine 136 = .ok (.ireturn, 1) := by decide +kernel
theorem dX9_isManLine_0 : decode cX9_isManLine 0 = .ok (.aload_n 0, 1) := dk_42 rfl
theorem dX9_isManLine_1 : decode cX9_isManLine 1 = .ok (.aload_n 0, 1) := dk_42 rfl
theorem dX9_isManLine_2 : decode cX9_isManLine 2 = .ok (.getfield 18, 3) := dk_180 rfl rfl rfl rfl
theorem dX9_isManLine_5 : decode cX9_isManLine 5 = .ok (.getfield 100, 3) := dk_180 rfl rfl rfl rfl
theorem dX9_isManLine_8 : decode cX9_isManLine 8 = .ok (.invokevirtual 196, 3) := dk_182 rfl rfl rfl rfl
theorem dX9_isManLine_11 : decode cX9_isManLine 11 = .ok (.ifCond .eq 21, 3) := dk_153 rfl rfl rfl (by decide)
theorem dX9_isManLine_14 : decode cX9_isManLine 14 = .ok (.aload_n 0, 1) := dk_42 rfl
theorem dX9_isManLine_15 : decode cX9_isManLine 15 = .ok (.iconst 2, 1) := dk_5 rfl
theorem dX9_isManLine_16 : decode cX9_isManLine 16 = .ok (.aload_n 0, 1) := dk_42 rfl
theorem dX9_isManLine_17 : decode cX9_isManLine 17 = .ok (.getfield 18, 3) := dk_180 rfl rfl rfl rfl
theorem dX9_isManLine_20 : decode cX9_isManLine 20 = .ok (.getfield 100, 3) := dk_180 rfl rfl rfl rfl
theorem dX9_isManLine_23 : decode cX9_isManLine 23 = .ok (.getfield 97, 3) := dk_180 rfl rfl rfl rfl
theorem dX9_isManLine_26 : decode cX9_isManLine 26 = .ok (.invokevirtual 200, 3) := dk_182 rfl rfl rfl rfl
theorem dX9_isManLine_29 : decode cX9_isManLine 29 = .ok (.ifCond .ne 5, 3) := dk_154 rfl rfl rfl (by decide)
theorem dX9_isManLine_32 : decode cX9_isManLine 32 = .ok (.iconst 0, 1) := dk_3 rfl
theorem dX9_isManLine_33 : decode cX9_isManLine 33 = .ok (.ireturn, 1) := dk_172 rfl
theorem dX9_isManLine_34 : decode cX9_isManLine 34 = .ok (.aload_n 0, 1) := dk_42 rfl
theorem dX9_isManLine_35 : decode cX9_isManLine 35 = .ok (.invokevirtual 245, 3) := dk_182 rfl rfl rfl rfl
theorem dX9_isManLine_38 : decode cX9_isManLine 38 = .ok (.istore_n 1, 1) := dk_60 rfl
theorem dX9_isManLine_39 : decode cX9_isManLine 39 = .ok (.iload_n 1, 1) := dk_27 rfl
theorem dX9_isManLine_40 : decode cX9_isManLine 40 = .ok (.ifCond .ge 13, 3) := dk_156 rfl rfl rfl (by decide)
theorem dX9_isManLine_43 : decode cX9_isManLine 43 = .ok (.aload_n 0, 1) := dk_42 rfl
theorem dX9_isManLine_44 : decode cX9_isManLine 44 = .ok (.iconst 1, 1) := dk_4 rfl
theorem dX9_isManLine_45 : decode cX9_isManLine 45 = .ok (.aload_n 0, 1) := dk_42 rfl
theorem dX9_isManLine_46 : decode cX9_isManLine 46 = .ok (.getfield 51, 3) := dk_180 rfl rfl rfl rfl
theorem dX9_isManLine_49 : decode cX9_isManLine 49 = .ok (.invokevirtual 84, 3) := dk_182 rfl rfl rfl rfl
theorem dX9_isManLine_52 : decode cX9_isManLine 52 = .ok (.ireturn, 1) := dk_172 rfl
theorem dX9_isManLine_53 : decode cX9_isManLine 53 = .ok (.aload_n 0, 1) := dk_42 rfl
theorem dX9_isManLine_54 : decode cX9_isManLine 54 = .ok (.invokevirtual 74, 3) := dk_182 rfl rfl rfl rfl
theorem dX9_isManLine_57 : decode cX9_isManLine 57 = .ok (.iconst (-1), 1) := dk_2 rfl
theorem dX9_isManLine_58 : decode cX9_isManLine 58 = .ok (.istore_n 2, 1) := dk_61 rfl
theorem dX9_isManLine_59 : decode cX9_isManLine 59 = .ok (.iload_n 1, 1) := dk_27 rfl
theorem dX9_isManLine_60 : decode cX9_isManLine 60 = .ok (.iconst 3, 1) := dk_6 rfl
theorem dX9_isManLine_61 : decode cX9_isManLine 61 = .ok (.if_icmp .ne 18, 3) := dk_160 rfl rfl rfl (by decide)
theorem dX9_isManLine_64 : decode cX9_isManLine 64 = .ok (.aload_n 0, 1) := dk_42 rfl
theorem dX9_isManLine_65 : decode cX9_isManLine 65 = .ok (.iconst 1, 1) := dk_4 rfl
theorem dX9_isManLine_66 : decode cX9_isManLine 66 = .ok (.invokevirtual 220, 3) := dk_182 rfl rfl rfl rfl
theorem dX9_isManLine_69 : decode cX9_isManLine 69 = .ok (.ifCond .ne 5, 3) := dk_154 rfl rfl rfl (by decide)
theorem dX9_isManLine_72 : decode cX9_isManLine 72 = .ok (.iconst 0, 1) := dk_3 rfl
theorem dX9_isManLine_73 : decode cX9_isManLine 73 = .ok (.ireturn, 1) := dk_172 rfl
theorem dX9_isManLine_74 : decode cX9_isManLine 74 = .ok (.aload_n 0, 1) := dk_42 rfl
theorem dX9_isManLine_75 : decode cX9_isManLine 75 = .ok (.getfield 64, 3) := dk_180 rfl rfl rfl rfl
theorem dX9_isManLine_78 : decode cX9_isManLine 78 = .ok (.istore_n 2, 1) := dk_61 rfl
theorem dX9_isManLine_79 : decode cX9_isManLine 79 = .ok (.aload_n 0, 1) := dk_42 rfl
theorem dX9_isManLine_80 : decode cX9_isManLine 80 = .ok (.ldc 249, 2) := dk_18 rfl rfl rfl
theorem dX9_isManLine_82 : decode cX9_isManLine 82 = .ok (.invokevirtual 183, 3) := dk_182 rfl rfl rfl rfl
theorem dX9_isManLine_85 : decode cX9_isManLine 85 = .ok (.ifCond .eq 13, 3) := dk_153 rfl rfl rfl (by decide)
theorem dX9_isManLine_88 : decode cX9_isManLine 88 = .ok (.aload_n 0, 1) := dk_42 rfl
theorem dX9_isManLine_89 : decode cX9_isManLine 89 = .ok (.iconst 0, 1) := dk_3 rfl
theorem dX9_isManLine_90 : decode cX9_isManLine 90 = .ok (.bipush 40, 2) := dk_16 rfl rfl (by decide)
theorem dX9_isManLine_92 : decode cX9_isManLine 92 = .ok (.invokevirtual 186, 3) := dk_182 rfl rfl rfl rfl
theorem dX9_isManLine_95 : decode cX9_isManLine 95 = .ok (.ifCond .ne 5, 3) := dk_154 rfl rfl rfl (by decide)
theorem dX9_isManLine_98 : decode cX9_isManLine 98 = .ok (.iconst 0, 1) := by decide +kernel
theorem dX9_isManLine_99 : decode cX9_isManLine 99 = .ok (.ireturn, 1) := by decide +kernel
theorem dX9_isManLine_100 : decode cX9_isManLine 100 = .ok (.aload_n 0, 1) := by decide +kernel
theorem dX9_isManLine_101 : decode cX9_isManLine 101 = .ok (.getfield 18, 3) := by decide +kernel
theorem dX9_isManLine_104 : decode cX9_isManLine 104 = .ok (.getfield 100, 3) := by decide +kernel
theorem dX9_isManLine_107 : decode cX9_isManLine 107 = .ok (.iload_n 1, 1) := by decide +kernel
theorem dX9_isManLine_108 : decode cX9_isManLine 108 = .ok (.iload_n 2, 1) := by decide +kernel
theorem dX9_isManLine_109 : decode cX9_isManLine 109 = .ok (.aload_n 0, 1) := by decide +kernel
theorem dX9_isManLine_110 : decode cX9_isManLine 110 = .ok (.getfield 64, 3) := by decide +kernel
theorem dX9_isManLine_113 : decode cX9_isManLine 113 = .ok (.invokevirtual 209, 3) := by decide +kernel
theorem dX9_isManLine_116 : decode cX9_isManLine 116 = .ok (.iconst 1, 1) := by decide +kernel
theorem dX9_isManLine_117 : decode cX9_isManLine 117 = .ok (.ireturn, 1) := by decide +kernel
theorem dX9_isShowsLine_0 : decode cX9_isShowsLine 0 = .ok (.aload_n 0, 1) := dk_42 rfl
theorem dX9_isShowsLine_1 : decode cX9_isShowsLine 1 = .ok (.getfield 18, 3) := dk_180 rfl rfl rfl rfl
theorem dX9_isShowsLine_4 : decode cX9_isShowsLine 4 = .ok (.getfield 88, 3) := dk_180 rfl rfl rfl rfl
theorem dX9_isShowsLine_7 : decode cX9_isShowsLine 7 = .ok (.getfield 92, 3) := dk_180 rfl rfl rfl rfl
theorem dX9_isShowsLine_10 : decode cX9_isShowsLine 10 = .ok (.astore_n 1, 1) := dk_76 rfl
theorem dX9_isShowsLine_11 : decode cX9_isShowsLine 11 = .ok (.aload_n 1, 1) := dk_43 rfl
theorem dX9_isShowsLine_12 : decode cX9_isShowsLine 12 = .ok (.getfield 97, 3) := dk_180 rfl rfl rfl rfl
theorem dX9_isShowsLine_15 : decode cX9_isShowsLine 15 = .ok (.ifCond .le 13, 3) := dk_158 rfl rfl rfl (by decide)
theorem dX9_isShowsLine_18 : decode cX9_isShowsLine 18 = .ok (.aload_n 0, 1) := dk_42 rfl
theorem dX9_isShowsLine_19 : decode cX9_isShowsLine 19 = .ok (.iconst 3, 1) := dk_6 rfl
theorem dX9_isShowsLine_20 : decode cX9_isShowsLine 20 = .ok (.aload_n 0, 1) := dk_42 rfl
theorem dX9_isShowsLine_21 : decode cX9_isShowsLine 21 = .ok (.getfield 51, 3) := dk_180 rfl rfl rfl rfl
theorem dX9_isShowsLine_24 : decode cX9_isShowsLine 24 = .ok (.invokevirtual 84, 3) := dk_182 rfl rfl rfl rfl
theorem dX9_isShowsLine_27 : decode cX9_isShowsLine 27 = .ok (.ireturn, 1) := dk_172 rfl
theorem dX9_isShowsLine_28 : decode cX9_isShowsLine 28 = .ok (.iconst 1, 1) := dk_4 rfl
theorem dX9_isShowsLine_29 : decode cX9_isShowsLine 29 = .ok (.istore_n 2, 1) := dk_61 rfl
theorem dX9_isShowsLine_30 : decode cX9_isShowsLine 30 = .ok (.iconst 0, 1) := dk_3 rfl
theorem dX9_isShowsLine_31 : decode cX9_isShowsLine 31 = .ok (.istore_n 3, 1) := dk_62 rfl
theorem dX9_isShowsLine_32 : decode cX9_isShowsLine 32 = .ok (.iload_n 2, 1) := dk_28 rfl
theorem dX9_isShowsLine_33 : decode cX9_isShowsLine 33 = .ok (.ifCond .eq 79, 3) := dk_153 rfl rfl rfl (by decide)
theorem dX9_isShowsLine_36 : decode cX9_isShowsLine 36 = .ok (.iload_n 3, 1) := dk_29 rfl
theorem dX9_isShowsLine_37 : decode cX9_isShowsLine 37 = .ok (.aload_n 1, 1) := dk_43 rfl
theorem dX9_isShowsLine_38 : decode cX9_isShowsLine 38 = .ok (.getfield 259, 3) := dk_180 rfl rfl rfl rfl
theorem dX9_isShowsLine_41 : decode cX9_isShowsLine 41 = .ok (.if_icmp .gt 71, 3) := dk_163 rfl rfl rfl (by decide)
theorem dX9_isShowsLine_44 : decode cX9_isShowsLine 44 = .ok (.aload_n 0, 1) := dk_42 rfl
theorem dX9_isShowsLine_45 : decode cX9_isShowsLine 45 = .ok (.invokevirtual 74, 3) := dk_182 rfl rfl rfl rfl
theorem dX9_isShowsLine_48 : decode cX9_isShowsLine 48 = .ok (.aload_n 0, 1) := dk_42 rfl
theorem dX9_isShowsLine_49 : decode cX9_isShowsLine 49 = .ok (.iconst 0, 1) := dk_3 rfl
theorem dX9_isShowsLine_50 : decode cX9_isShowsLine 50 = .ok (.invokevirtual 220, 3) := dk_182 rfl rfl rfl rfl
theorem dX9_isShowsLine_53 : decode cX9_isShowsLine 53 = .ok (.ifCond .ne 5, 3) := dk_154 rfl rfl rfl (by decide)
theorem dX9_isShowsLine_56 : decode cX9_isShowsLine 56 = .ok (.iconst 0, 1) := dk_3 rfl
theorem dX9_isShowsLine_57 : decode cX9_isShowsLine 57 = .ok (.ireturn, 1) := dk_172 rfl
theorem dX9_isShowsLine_58 : decode cX9_isShowsLine 58 = .ok (.aload_n 1, 1) := dk_43 rfl
theorem dX9_isShowsLine_59 : decode cX9_isShowsLine 59 = .ok (.invokevirtual 262, 3) := dk_182 rfl rfl rfl rfl
theorem dX9_isShowsLine_62 : decode cX9_isShowsLine 62 = .ok (.ifCond .eq 13, 3) := dk_153 rfl rfl rfl (by decide)
theorem dX9_isShowsLine_65 : decode cX9_isShowsLine 65 = .ok (.aload_n 0, 1) := dk_42 rfl
theorem dX9_isShowsLine_66 : decode cX9_isShowsLine 66 = .ok (.iconst 5, 1) := dk_8 rfl
theorem dX9_isShowsLine_67 : decode cX9_isShowsLine 67 = .ok (.aload_n 0, 1) := dk_42 rfl
theorem dX9_isShowsLine_68 : decode cX9_isShowsLine 68 = .ok (.getfield 67, 3) := dk_180 rfl rfl rfl rfl
theorem dX9_isShowsLine_71 : decode cX9_isShowsLine 71 = .ok (.invokevirtual 84, 3) := dk_182 rfl rfl rfl rfl
theorem dX9_isShowsLine_74 : decode cX9_isShowsLine 74 = .ok (.ireturn, 1) := dk_172 rfl
theorem dX9_isShowsLine_75 : decode cX9_isShowsLine 75 = .ok (.aload_n 1, 1) := dk_43 rfl
theorem dX9_isShowsLine_76 : decode cX9_isShowsLine 76 = .ok (.aload_n 0, 1) := dk_42 rfl
theorem dX9_isShowsLine_77 : decode cX9_isShowsLine 77 = .ok (.getfield 64, 3) := dk_180 rfl rfl rfl rfl
theorem dX9_isShowsLine_80 : decode cX9_isShowsLine 80 = .ok (.aload_n 0, 1) := dk_42 rfl
theorem dX9_isShowsLine_81 : decode cX9_isShowsLine 81 = .ok (.getfield 18, 3) := dk_180 rfl rfl rfl rfl
theorem dX9_isShowsLine_84 : decode cX9_isShowsLine 84 = .ok (.iconst 2, 1) := dk_5 rfl
theorem dX9_isShowsLine_85 : decode cX9_isShowsLine 85 = .ok (.invokevirtual 265, 3) := dk_182 rfl rfl rfl rfl
theorem dX9_isShowsLine_88 : decode cX9_isShowsLine 88 = .ok (.iconst 0, 1) := dk_3 rfl
theorem dX9_isShowsLine_89 : decode cX9_isShowsLine 89 = .ok (.invokevirtual 209, 3) := dk_182 rfl rfl rfl rfl
theorem dX9_isShowsLine_92 : decode cX9_isShowsLine 92 = .ok (.aload_n 0, 1) := dk_42 rfl
theorem dX9_isShowsLine_93 : decode cX9_isShowsLine 93 = .ok (.getfield 48, 3) := dk_180 rfl rfl rfl rfl
theorem dX9_isShowsLine_96 : decode cX9_isShowsLine 96 = .ok (.iconst 4, 1) := dk_7 rfl
theorem dX9_isShowsLine_97 : decode cX9_isShowsLine 97 = .ok (.if_icmp .ne 7, 3) := by decide +kernel
theorem dX9_isShowsLine_100 : decode cX9_isShowsLine 100 = .ok (.iconst 1, 1) := by decide +kernel
theorem dX9_isShowsLine_101 : decode cX9_isShowsLine 101 = .ok (.goto 4, 3) := by decide +kernel
theorem dX9_isShowsLine_104 : decode cX9_isShowsLine 104 = .ok (.iconst 0, 1) := by decide +kernel
theorem dX9_isShowsLine_105 : decode cX9_isShowsLine 105 = .ok (.istore_n 2, 1) := by decide +kernel
theorem dX9_isShowsLine_106 : decode cX9_isShowsLine 106 = .ok (.iinc 3 1, 3) := by decide +kernel
theorem dX9_isShowsLine_109 : decode cX9_isShowsLine 109 = .ok (.goto (-77), 3) := by decide +kernel
theorem dX9_isShowsLine_112 : decode cX9_isShowsLine 112 = .ok (.aload_n 1, 1) := by decide +kernel
theorem dX9_isShowsLine_113 : decode cX9_isShowsLine 113 = .ok (.getfield 97, 3) := by decide +kernel
theorem dX9_isShowsLine_116 : decode cX9_isShowsLine 116 = .ok (.iconst 1, 1) := by decide +kernel
theorem dX9_isShowsLine_117 : decode cX9_isShowsLine 117 = .ok (.if_icmp .ne 29, 3) := by decide +kernel
theorem dX9_isShowsLine_120 : decode cX9_isShowsLine 120 = .ok (.aload_n 0, 1) := by decide +kernel
theorem dX9_isShowsLine_121 : decode cX9_isShowsLine 121 = .ok (.getfield 48, 3) := by decide +kernel
theorem dX9_isShowsLine_124 : decode cX9_isShowsLine 124 = .ok (.iconst 3, 1) := by decide +kernel
theorem dX9_isShowsLine_125 : decode cX9_isShowsLine 125 = .ok (.if_icmp .eq 10, 3) := by decide +kernel
theorem dX9_isShowsLine_128 : decode cX9_isShowsLine 128 = .ok (.aload_n 0, 1) := by decide +kernel
theorem dX9_isShowsLine_129 : decode cX9_isShowsLine 129 = .ok (.getfield 48, 3) := by decide +kernel
theorem dX9_isShowsLine_132 : decode cX9_isShowsLine 132 = .ok (.ifCond .ne 14, 3) := by decide +kernel
theorem dX9_isShowsLine_135 : decode cX9_isShowsLine 135 = .ok (.aload_n 0, 1) := by decide +kernel
theorem dX9_isShowsLine_136 : decode cX9_isShowsLine 136 = .ok (.bipush 6, 2) := by decide +kernel
theorem dX9_isShowsLine_138 : decode cX9_isShowsLine 138 = .ok (.aload_n 0, 1) := by decide +kernel
theorem dX9_isShowsLine_139 : decode cX9_isShowsLine 139 = .ok (.getfield 51, 3) := by decide +kernel
theorem dX9_isShowsLine_142 : decode cX9_isShowsLine 142 = .ok (.invokevirtual 84, 3) := by decide +kernel
theorem dX9_isShowsLine_145 : decode cX9_isShowsLine 145 = .ok (.ireturn, 1) := by decide +kernel
theorem dX9_isShowsLine_146 : decode cX9_isShowsLine 146 = .ok (.iconst 1, 1) := by decide +kernel
theorem dX9_isShowsLine_147 : decode cX9_isShowsLine 147 = .ok (.ireturn, 1) := by decide +kernel
theorem dX9_isBoysLine_0 : decode cX9_isBoysLine 0 = .ok (.aload_n 0, 1) := dk_42 rfl
theorem dX9_isBoysLine_1 : decode cX9_isBoysLine 1 = .ok (.getfield 18, 3) := dk_180 rfl rfl rfl rfl
theorem dX9_isBoysLine_4 : decode cX9_isBoysLine 4 = .ok (.getfield 268, 3) := dk_180 rfl rfl rfl rfl
theorem dX9_isBoysLine_7 : decode cX9_isBoysLine 7 = .ok (.getfield 97, 3) := dk_180 rfl rfl rfl rfl
theorem dX9_isBoysLine_10 : decode cX9_isBoysLine 10 = .ok (.ifCond .le 13, 3) := dk_158 rfl rfl rfl (by decide)
theorem dX9_isBoysLine_13 : decode cX9_isBoysLine 13 = .ok (.aload_n 0, 1) := dk_42 rfl
theorem dX9_isBoysLine_14 : decode cX9_isBoysLine 14 = .ok (.iconst 3, 1) := dk_6 rfl
theorem dX9_isBoysLine_15 : decode cX9_isBoysLine 15 = .ok (.aload_n 0, 1) := dk_42 rfl
theorem dX9_isBoysLine_16 : decode cX9_isBoysLine 16 = .ok (.getfield 51, 3) := dk_180 rfl rfl rfl rfl
theorem dX9_isBoysLine_19 : decode cX9_isBoysLine 19 = .ok (.invokevirtual 84, 3) := dk_182 rfl rfl rfl rfl
theorem dX9_isBoysLine_22 : decode cX9_isBoysLine 22 = .ok (.ireturn, 1) := dk_172 rfl
theorem dX9_isBoysLine_23 : decode cX9_isBoysLine 23 = .ok (.aload_n 0, 1) := dk_42 rfl
theorem dX9_isBoysLine_24 : decode cX9_isBoysLine 24 = .ok (.invokevirtual 74, 3) := dk_182 rfl rfl rfl rfl
theorem dX9_isBoysLine_27 : decode cX9_isBoysLine 27 = .ok (.aload_n 0, 1) := dk_42 rfl
theorem dX9_isBoysLine_28 : decode cX9_isBoysLine 28 = .ok (.iconst 1, 1) := dk_4 rfl
theorem dX9_isBoysLine_29 : decode cX9_isBoysLine 29 = .ok (.iconst 4, 1) := dk_7 rfl
theorem dX9_isBoysLine_30 : decode cX9_isBoysLine 30 = .ok (.invokevirtual 186, 3) := dk_182 rfl rfl rfl rfl
theorem dX9_isBoysLine_33 : decode cX9_isBoysLine 33 = .ok (.ifCond .ne 5, 3) := dk_154 rfl rfl rfl (by decide)
theorem dX9_isBoysLine_36 : decode cX9_isBoysLine 36 = .ok (.iconst 0, 1) := dk_3 rfl
theorem dX9_isBoysLine_37 : decode cX9_isBoysLine 37 = .ok (.ireturn, 1) := dk_172 rfl
theorem dX9_isBoysLine_38 : decode cX9_isBoysLine 38 = .ok (.aload_n 0, 1) := dk_42 rfl
theorem dX9_isBoysLine_39 : decode cX9_isBoysLine 39 = .ok (.getfield 64, 3) := dk_180 rfl rfl rfl rfl
theorem dX9_isBoysLine_42 : decode cX9_isBoysLine 42 = .ok (.istore_n 1, 1) := dk_60 rfl
theorem dX9_isBoysLine_43 : decode cX9_isBoysLine 43 = .ok (.aload_n 0, 1) := dk_42 rfl
theorem dX9_isBoysLine_44 : decode cX9_isBoysLine 44 = .ok (.ldc_w 270, 3) := dk_19 rfl rfl rfl rfl
theorem dX9_isBoysLine_47 : decode cX9_isBoysLine 47 = .ok (.invokevirtual 183, 3) := dk_182 rfl rfl rfl rfl
theorem dX9_isBoysLine_50 : decode cX9_isBoysLine 50 = .ok (.ifCond .eq 14, 3) := dk_153 rfl rfl rfl (by decide)
theorem dX9_isBoysLine_53 : decode cX9_isBoysLine 53 = .ok (.aload_n 0, 1) := dk_42 rfl
theorem dX9_isBoysLine_54 : decode cX9_isBoysLine 54 = .ok (.iconst 1, 1) := dk_4 rfl
theorem dX9_isBoysLine_55 : decode cX9_isBoysLine 55 = .ok (.sipush 2000, 3) := dk_17 rfl rfl rfl (by decide)
theorem dX9_isBoysLine_58 : decode cX9_isBoysLine 58 = .ok (.invokevirtual 186, 3) := dk_182 rfl rfl rfl rfl
theorem dX9_isBoysLine_61 : decode cX9_isBoysLine 61 = .ok (.ifCond .ne 5, 3) := dk_154 rfl rfl rfl (by decide)
theorem dX9_isBoysLine_64 : decode cX9_isBoysLine 64 = .ok (.iconst 0, 1) := dk_3 rfl
theorem dX9_isBoysLine_65 : decode cX9_isBoysLine 65 = .ok (.ireturn, 1) := dk_172 rfl
theorem dX9_isBoysLine_66 : decode cX9_isBoysLine 66 = .ok (.aload_n 0, 1) := dk_42 rfl
theorem dX9_isBoysLine_67 : decode cX9_isBoysLine 67 = .ok (.getfield 64, 3) := dk_180 rfl rfl rfl rfl
theorem dX9_isBoysLine_70 : decode cX9_isBoysLine 70 = .ok (.istore_n 2, 1) := dk_61 rfl
theorem dX9_isBoysLine_71 : decode cX9_isBoysLine 71 = .ok (.aload_n 0, 1) := dk_42 rfl
theorem dX9_isBoysLine_72 : decode cX9_isBoysLine 72 = .ok (.ldc_w 272, 3) := dk_19 rfl rfl rfl rfl
theorem dX9_isBoysLine_75 : decode cX9_isBoysLine 75 = .ok (.invokevirtual 183, 3) := dk_182 rfl rfl rfl rfl
theorem dX9_isBoysLine_78 : decode cX9_isBoysLine 78 = .ok (.ifCond .eq 13, 3) := dk_153 rfl rfl rfl (by decide)
theorem dX9_isBoysLine_81 : decode cX9_isBoysLine 81 = .ok (.aload_n 0, 1) := dk_42 rfl
theorem dX9_isBoysLine_82 : decode cX9_isBoysLine 82 = .ok (.iconst 0, 1) := dk_3 rfl
theorem dX9_isBoysLine_83 : decode cX9_isBoysLine 83 = .ok (.bipush 50, 2) := dk_16 rfl rfl (by decide)
theorem dX9_isBoysLine_85 : decode cX9_isBoysLine 85 = .ok (.invokevirtual 186, 3) := dk_182 rfl rfl rfl rfl
theorem dX9_isBoysLine_88 : decode cX9_isBoysLine 88 = .ok (.ifCond .ne 5, 3) := dk_154 rfl rfl rfl (by decide)
theorem dX9_isBoysLine_91 : decode cX9_isBoysLine 91 = .ok (.iconst 0, 1) := dk_3 rfl
theorem dX9_isBoysLine_92 : decode cX9_isBoysLine 92 = .ok (.ireturn, 1) := dk_172 rfl
theorem dX9_isBoysLine_93 : decode cX9_isBoysLine 93 = .ok (.aload_n 0, 1) := dk_42 rfl
theorem dX9_isBoysLine_94 : decode cX9_isBoysLine 94 = .ok (.getfield 18, 3) := dk_180 rfl rfl rfl rfl
theorem dX9_isBoysLine_97 : decode cX9_isBoysLine 97 = .ok (.getfield 268, 3) := by decide +kernel
theorem dX9_isBoysLine_100 : decode cX9_isBoysLine 100 = .ok (.iload_n 1, 1) := by decide +kernel
theorem dX9_isBoysLine_101 : decode cX9_isBoysLine 101 = .ok (.iload_n 2, 1) := by decide +kernel
theorem dX9_isBoysLine_102 : decode cX9_isBoysLine 102 = .ok (.aload_n 0, 1) := by decide +kernel
theorem dX9_isBoysLine_103 : decode cX9_isBoysLine 103 = .ok (.getfield 64, 3) := by decide +kernel
theorem dX9_isBoysLine_106 : decode cX9_isBoysLine 106 = .ok (.invokevirtual 209, 3) := by decide +kernel
theorem dX9_isBoysLine_109 : decode cX9_isBoysLine 109 = .ok (.iconst 1, 1) := by decide +kernel
theorem dX9_isBoysLine_110 : decode cX9_isBoysLine 110 = .ok (.ireturn, 1) := by decide +kernel
theorem dX9_isSeenLine_0 : decode cX9_isSeenLine 0 = .ok (.aload_n 0, 1) := dk_42 rfl
theorem dX9_isSeenLine_1 : decode cX9_isSeenLine 1 = .ok (.getfield 18, 3) := dk_180 rfl rfl rfl rfl
theorem dX9_isSeenLine_4 : decode cX9_isSeenLine 4 = .ok (.getfield 88, 3) := dk_180 rfl rfl rfl rfl
theorem dX9_isSeenLine_7 : decode cX9_isSeenLine 7 = .ok (.getfield 92, 3) := dk_180 rfl rfl rfl rfl
theorem dX9_isSeenLine_10 : decode cX9_isSeenLine 10 = .ok (.getfield 97, 3) := dk_180 rfl rfl rfl rfl
theorem dX9_isSeenLine_13 : decode cX9_isSeenLine 13 = .ok (.istore_n 1, 1) := dk_60 rfl
theorem dX9_isSeenLine_14 : decode cX9_isSeenLine 14 = .ok (.iload_n 1, 1) := dk_27 rfl
theorem dX9_isSeenLine_15 : decode cX9_isSeenLine 15 = .ok (.ifCond .ne 14, 3) := dk_154 rfl rfl rfl (by decide)
theorem dX9_isSeenLine_18 : decode cX9_isSeenLine 18 = .ok (.aload_n 0, 1) := dk_42 rfl
theorem dX9_isSeenLine_19 : decode cX9_isSeenLine 19 = .ok (.bipush 6, 2) := dk_16 rfl rfl (by decide)
theorem dX9_isSeenLine_21 : decode cX9_isSeenLine 21 = .ok (.aload_n 0, 1) := dk_42 rfl
theorem dX9_isSeenLine_22 : decode cX9_isSeenLine 22 = .ok (.getfield 51, 3) := dk_180 rfl rfl rfl rfl
theorem dX9_isSeenLine_25 : decode cX9_isSeenLine 25 = .ok (.invokevirtual 84, 3) := dk_182 rfl rfl rfl rfl
theorem dX9_isSeenLine_28 : decode cX9_isSeenLine 28 = .ok (.ireturn, 1) := dk_172 rfl
theorem dX9_isSeenLine_29 : decode cX9_isSeenLine 29 = .ok (.aload_n 0, 1) := dk_42 rfl
theorem dX9_isSeenLine_30 : decode cX9_isSeenLine 30 = .ok (.aload_n 0, 1) := dk_42 rfl
theorem dX9_isSeenLine_31 : decode cX9_isSeenLine 31 = .ok (.getfield 18, 3) := dk_180 rfl rfl rfl rfl
theorem dX9_isSeenLine_34 : decode cX9_isSeenLine 34 = .ok (.getfield 274, 3) := dk_180 rfl rfl rfl rfl
theorem dX9_isSeenLine_37 : decode cX9_isSeenLine 37 = .ok (.invokevirtual 196, 3) := dk_182 rfl rfl rfl rfl
theorem dX9_isSeenLine_40 : decode cX9_isSeenLine 40 = .ok (.ifCond .eq 14, 3) := dk_153 rfl rfl rfl (by decide)
theorem dX9_isSeenLine_43 : decode cX9_isSeenLine 43 = .ok (.aload_n 0, 1) := dk_42 rfl
theorem dX9_isSeenLine_44 : decode cX9_isSeenLine 44 = .ok (.iconst 1, 1) := dk_4 rfl
theorem dX9_isSeenLine_45 : decode cX9_isSeenLine 45 = .ok (.iload_n 1, 1) := dk_27 rfl
theorem dX9_isSeenLine_46 : decode cX9_isSeenLine 46 = .ok (.iconst 1, 1) := dk_4 rfl
theorem dX9_isSeenLine_47 : decode cX9_isSeenLine 47 = .ok (.isub, 1) := dk_100 rfl
theorem dX9_isSeenLine_48 : decode cX9_isSeenLine 48 = .ok (.invokevirtual 186, 3) := dk_182 rfl rfl rfl rfl
theorem dX9_isSeenLine_51 : decode cX9_isSeenLine 51 = .ok (.ifCond .ne 5, 3) := dk_154 rfl rfl rfl (by decide)
theorem dX9_isSeenLine_54 : decode cX9_isSeenLine 54 = .ok (.iconst 0, 1) := dk_3 rfl
theorem dX9_isSeenLine_55 : decode cX9_isSeenLine 55 = .ok (.ireturn, 1) := dk_172 rfl
theorem dX9_isSeenLine_56 : decode cX9_isSeenLine 56 = .ok (.aload_n 0, 1) := dk_42 rfl
theorem dX9_isSeenLine_57 : decode cX9_isSeenLine 57 = .ok (.getfield 64, 3) := dk_180 rfl rfl rfl rfl
theorem dX9_isSeenLine_60 : decode cX9_isSeenLine 60 = .ok (.istore_n 2, 1) := dk_61 rfl
theorem dX9_isSeenLine_61 : decode cX9_isSeenLine 61 = .ok (.aload_n 0, 1) := dk_42 rfl
theorem dX9_isSeenLine_62 : decode cX9_isSeenLine 62 = .ok (.ldc_w 277, 3) := dk_19 rfl rfl rfl rfl
theorem dX9_isSeenLine_65 : decode cX9_isSeenLine 65 = .ok (.invokevirtual 183, 3) := dk_182 rfl rfl rfl rfl
theorem dX9_isSeenLine_68 : decode cX9_isSeenLine 68 = .ok (.ifCond .eq 14, 3) := dk_153 rfl rfl rfl (by decide)
theorem dX9_isSeenLine_71 : decode cX9_isSeenLine 71 = .ok (.aload_n 0, 1) := dk_42 rfl
theorem dX9_isSeenLine_72 : decode cX9_isSeenLine 72 = .ok (.iconst 0, 1) := dk_3 rfl
theorem dX9_isSeenLine_73 : decode cX9_isSeenLine 73 = .ok (.sipush 9999, 3) := dk_17 rfl rfl rfl (by decide)
theorem dX9_isSeenLine_76 : decode cX9_isSeenLine 76 = .ok (.invokevirtual 186, 3) := dk_182 rfl rfl rfl rfl
theorem dX9_isSeenLine_79 : decode cX9_isSeenLine 79 = .ok (.ifCond .ne 5, 3) := dk_154 rfl rfl rfl (by decide)
theorem dX9_isSeenLine_82 : decode cX9_isSeenLine 82 = .ok (.iconst 0, 1) := dk_3 rfl
theorem dX9_isSeenLine_83 : decode cX9_isSeenLine 83 = .ok (.ireturn, 1) := dk_172 rfl
theorem dX9_isSeenLine_84 : decode cX9_isSeenLine 84 = .ok (.aload_n 0, 1) := dk_42 rfl
theorem dX9_isSeenLine_85 : decode cX9_isSeenLine 85 = .ok (.getfield 64, 3) := dk_180 rfl rfl rfl rfl
theorem dX9_isSeenLine_88 : decode cX9_isSeenLine 88 = .ok (.istore_n 3, 1) := dk_62 rfl
theorem dX9_isSeenLine_89 : decode cX9_isSeenLine 89 = .ok (.aload_n 0, 1) := dk_42 rfl
theorem dX9_isSeenLine_90 : decode cX9_isSeenLine 90 = .ok (.ldc_w 279, 3) := dk_19 rfl rfl rfl rfl
theorem dX9_isSeenLine_93 : decode cX9_isSeenLine 93 = .ok (.invokevirtual 183, 3) := dk_182 rfl rfl rfl rfl
theorem dX9_isSeenLine_96 : decode cX9_isSeenLine 96 = .ok (.ifCond .eq 14, 3) := dk_153 rfl rfl rfl (by decide)
theorem dX9_isSeenLine_99 : decode cX9_isSeenLine 99 = .ok (.aload_n 0, 1) := by decide +kernel
theorem dX9_isSeenLine_100 : decode cX9_isSeenLine 100 = .ok (.iconst 0, 1) := by decide +kernel
theorem dX9_isSeenLine_101 : decode cX9_isSeenLine 101 = .ok (.sipush 9999, 3) := by decide +kernel
theorem dX9_isSeenLine_104 : decode cX9_isSeenLine 104 = .ok (.invokevirtual 186, 3) := by decide +kernel
theorem dX9_isSeenLine_107 : decode cX9_isSeenLine 107 = .ok (.ifCond .ne 5, 3) := by decide +kernel
theorem dX9_isSeenLine_110 : decode cX9_isSeenLine 110 = .ok (.iconst 0, 1) := by decide +kernel
theorem dX9_isSeenLine_111 : decode cX9_isSeenLine 111 = .ok (.ireturn, 1) := by decide +kernel
theorem dX9_isSeenLine_112 : decode cX9_isSeenLine 112 = .ok (.aload_n 0, 1) := by decide +kernel
theorem dX9_isSeenLine_113 : decode cX9_isSeenLine 113 = .ok (.getfield 18, 3) := by decide +kernel
theorem dX9_isSeenLine_116 : decode cX9_isSeenLine 116 = .ok (.getfield 274, 3) := by decide +kernel
theorem dX9_isSeenLine_119 : decode cX9_isSeenLine 119 = .ok (.iload_n 2, 1) := by decide +kernel
theorem dX9_isSeenLine_120 : decode cX9_isSeenLine 120 = .ok (.iload_n 3, 1) := by decide +kernel
theorem dX9_isSeenLine_121 : decode cX9_isSeenLine 121 = .ok (.aload_n 0, 1) := by decide +kernel
theorem dX9_isSeenLine_122 : decode cX9_isSeenLine 122 = .ok (.getfield 64, 3) := by decide +kernel
theorem dX9_isSeenLine_125 : decode cX9_isSeenLine 125 = .ok (.invokevirtual 209, 3) := by decide +kernel
theorem dX9_isSeenLine_128 : decode cX9_isSeenLine 128 = .ok (.iconst 1, 1) := by decide +kernel
theorem dX9_isSeenLine_129 : decode cX9_isSeenLine 129 = .ok (.ireturn, 1) := by decide +kernel
theorem dX9_isScratchLine_0 : decode cX9_isScratchLine 0 = .ok (.aload_n 0, 1) := dk_42 rfl
theorem dX9_isScratchLine_1 : decode cX9_isScratchLine 1 = .ok (.aload_n 0, 1) := dk_42 rfl
theorem dX9_isScratchLine_2 : decode cX9_isScratchLine 2 = .ok (.getfield 18, 3) := dk_180 rfl rfl rfl rfl
theorem dX9_isScratchLine_5 : decode cX9_isScratchLine 5 = .ok (.getfield 281, 3) := dk_180 rfl rfl rfl rfl
theorem dX9_isScratchLine_8 : decode cX9_isScratchLine 8 = .ok (.invokevirtual 196, 3) := dk_182 rfl rfl rfl rfl
theorem dX9_isScratchLine_11 : decode cX9_isScratchLine 11 = .ok (.ifCond .eq 11, 3) := dk_153 rfl rfl rfl (by decide)
theorem dX9_isScratchLine_14 : decode cX9_isScratchLine 14 = .ok (.aload_n 0, 1) := dk_42 rfl
theorem dX9_isScratchLine_15 : decode cX9_isScratchLine 15 = .ok (.iconst 0, 1) := dk_3 rfl
theorem dX9_isScratchLine_16 : decode cX9_isScratchLine 16 = .ok (.invokevirtual 220, 3) := dk_182 rfl rfl rfl rfl
theorem dX9_isScratchLine_19 : decode cX9_isScratchLine 19 = .ok (.ifCond .ne 5, 3) := dk_154 rfl rfl rfl (by decide)
theorem dX9_isScratchLine_22 : decode cX9_isScratchLine 22 = .ok (.iconst 0, 1) := dk_3 rfl
theorem dX9_isScratchLine_23 : decode cX9_isScratchLine 23 = .ok (.ireturn, 1) := dk_172 rfl
theorem dX9_isScratchLine_24 : decode cX9_isScratchLine 24 = .ok (.aload_n 0, 1) := dk_42 rfl
theorem dX9_isScratchLine_25 : decode cX9_isScratchLine 25 = .ok (.getfield 64, 3) := dk_180 rfl rfl rfl rfl
theorem dX9_isScratchLine_28 : decode cX9_isScratchLine 28 = .ok (.istore_n 1, 1) := dk_60 rfl
theorem dX9_isScratchLine_29 : decode cX9_isScratchLine 29 = .ok (.aload_n 0, 1) := dk_42 rfl
theorem dX9_isScratchLine_30 : decode cX9_isScratchLine 30 = .ok (.iconst 0, 1) := dk_3 rfl
theorem dX9_isScratchLine_31 : decode cX9_isScratchLine 31 = .ok (.aload_n 0, 1) := dk_42 rfl
theorem dX9_isScratchLine_32 : decode cX9_isScratchLine 32 = .ok (.iload_n 1, 1) := dk_27 rfl
theorem dX9_isScratchLine_33 : decode cX9_isScratchLine 33 = .ok (.invokevirtual 224, 3) := dk_182 rfl rfl rfl rfl
theorem dX9_isScratchLine_36 : decode cX9_isScratchLine 36 = .ok (.invokevirtual 186, 3) := dk_182 rfl rfl rfl rfl
theorem dX9_isScratchLine_39 : decode cX9_isScratchLine 39 = .ok (.ifCond .ne 5, 3) := dk_154 rfl rfl rfl (by decide)
theorem dX9_isScratchLine_42 : decode cX9_isScratchLine 42 = .ok (.iconst 0, 1) := dk_3 rfl
theorem dX9_isScratchLine_43 : decode cX9_isScratchLine 43 = .ok (.ireturn, 1) := dk_172 rfl
theorem dX9_isScratchLine_44 : decode cX9_isScratchLine 44 = .ok (.aload_n 0, 1) := dk_42 rfl
theorem dX9_isScratchLine_45 : decode cX9_isScratchLine 45 = .ok (.getfield 18, 3) := dk_180 rfl rfl rfl rfl
theorem dX9_isScratchLine_48 : decode cX9_isScratchLine 48 = .ok (.getfield 281, 3) := dk_180 rfl rfl rfl rfl
theorem dX9_isScratchLine_51 : decode cX9_isScratchLine 51 = .ok (.iload_n 1, 1) := dk_27 rfl
theorem dX9_isScratchLine_52 : decode cX9_isScratchLine 52 = .ok (.aload_n 0, 1) := dk_42 rfl
theorem dX9_isScratchLine_53 : decode cX9_isScratchLine 53 = .ok (.getfield 64, 3) := dk_180 rfl rfl rfl rfl
theorem dX9_isScratchLine_56 : decode cX9_isScratchLine 56 = .ok (.iconst 0, 1) := dk_3 rfl
theorem dX9_isScratchLine_57 : decode cX9_isScratchLine 57 = .ok (.invokevirtual 209, 3) := dk_182 rfl rfl rfl rfl
theorem dX9_isScratchLine_60 : decode cX9_isScratchLine 60 = .ok (.iconst 1, 1) := dk_4 rfl
theorem dX9_isScratchLine_61 : decode cX9_isScratchLine 61 = .ok (.ireturn, 1) := dk_172 rfl
theorem dX9_isLine_0 : decode cX9_isLine 0 = .ok (.aload_n 0, 1) := dk_42 rfl
theorem dX9_isLine_1 : decode cX9_isLine 1 = .ok (.ldc 103, 2) := dk_18 rfl rfl rfl
theorem dX9_isLine_3 : decode cX9_isLine 3 = .ok (.invokevirtual 104, 3) := dk_182 rfl rfl rfl rfl
theorem dX9_isLine_6 : decode cX9_isLine 6 = .ok (.ifCond .eq 8, 3) := dk_153 rfl rfl rfl (by decide)
theorem dX9_isLine_9 : decode cX9_isLine 9 = .ok (.aload_n 0, 1) := dk_42 rfl
theorem dX9_isLine_10 : decode cX9_isLine 10 = .ok (.invokevirtual 108, 3) := dk_182 rfl rfl rfl rfl
theorem dX9_isLine_13 : decode cX9_isLine 13 = .ok (.ireturn, 1) := dk_172 rfl
theorem dX9_isLine_14 : decode cX9_isLine 14 = .ok (.aload_n 0, 1) := dk_42 rfl
theorem dX9_isLine_15 : decode cX9_isLine 15 = .ok (.ldc 111, 2) := dk_18 rfl rfl rfl
theorem dX9_isLine_17 : decode cX9_isLine 17 = .ok (.invokevirtual 104, 3) := dk_182 rfl rfl rfl rfl
theorem dX9_isLine_20 : decode cX9_isLine 20 = .ok (.ifCond .ne 10, 3) := dk_154 rfl rfl rfl (by decide)
theorem dX9_isLine_23 : decode cX9_isLine 23 = .ok (.aload_n 0, 1) := dk_42 rfl
theorem dX9_isLine_24 : decode cX9_isLine 24 = .ok (.invokevirtual 113, 3) := dk_182 rfl rfl rfl rfl
theorem dX9_isLine_27 : decode cX9_isLine 27 = .ok (.ifCond .ne 13, 3) := dk_154 rfl rfl rfl (by decide)
theorem dX9_isLine_30 : decode cX9_isLine 30 = .ok (.aload_n 0, 1) := dk_42 rfl
theorem dX9_isLine_31 : decode cX9_isLine 31 = .ok (.iconst 1, 1) := dk_4 rfl
theorem dX9_isLine_32 : decode cX9_isLine 32 = .ok (.aload_n 0, 1) := dk_42 rfl
theorem dX9_isLine_33 : decode cX9_isLine 33 = .ok (.getfield 51, 3) := dk_180 rfl rfl rfl rfl
theorem dX9_isLine_36 : decode cX9_isLine 36 = .ok (.invokevirtual 84, 3) := dk_182 rfl rfl rfl rfl
theorem dX9_isLine_39 : decode cX9_isLine 39 = .ok (.ireturn, 1) := dk_172 rfl
theorem dX9_isLine_40 : decode cX9_isLine 40 = .ok (.aload_n 0, 1) := dk_42 rfl
theorem dX9_isLine_41 : decode cX9_isLine 41 = .ok (.getfield 18, 3) := dk_180 rfl rfl rfl rfl
theorem dX9_isLine_44 : decode cX9_isLine 44 = .ok (.getfield 116, 3) := dk_180 rfl rfl rfl rfl
theorem dX9_isLine_47 : decode cX9_isLine 47 = .ok (.getfield 97, 3) := dk_180 rfl rfl rfl rfl
theorem dX9_isLine_50 : decode cX9_isLine 50 = .ok (.ifCond .ne 14, 3) := dk_154 rfl rfl rfl (by decide)
theorem dX9_isLine_53 : decode cX9_isLine 53 = .ok (.aload_n 0, 1) := dk_42 rfl
theorem dX9_isLine_54 : decode cX9_isLine 54 = .ok (.bipush 6, 2) := dk_16 rfl rfl (by decide)
theorem dX9_isLine_56 : decode cX9_isLine 56 = .ok (.aload_n 0, 1) := dk_42 rfl
theorem dX9_isLine_57 : decode cX9_isLine 57 = .ok (.getfield 51, 3) := dk_180 rfl rfl rfl rfl
theorem dX9_isLine_60 : decode cX9_isLine 60 = .ok (.invokevirtual 84, 3) := dk_182 rfl rfl rfl rfl
theorem dX9_isLine_63 : decode cX9_isLine 63 = .ok (.ireturn, 1) := dk_172 rfl
theorem dX9_isLine_64 : decode cX9_isLine 64 = .ok (.aload_n 0, 1) := dk_42 rfl
theorem dX9_isLine_65 : decode cX9_isLine 65 = .ok (.ldc 119, 2) := dk_18 rfl rfl rfl
theorem dX9_isLine_67 : decode cX9_isLine 67 = .ok (.invokevirtual 104, 3) := dk_182 rfl rfl rfl rfl
theorem dX9_isLine_70 : decode cX9_isLine 70 = .ok (.ifCond .eq 8, 3) := dk_153 rfl rfl rfl (by decide)
theorem dX9_isLine_73 : decode cX9_isLine 73 = .ok (.aload_n 0, 1) := dk_42 rfl
theorem dX9_isLine_74 : decode cX9_isLine 74 = .ok (.invokevirtual 121, 3) := dk_182 rfl rfl rfl rfl
theorem dX9_isLine_77 : decode cX9_isLine 77 = .ok (.ireturn, 1) := dk_172 rfl
theorem dX9_isLine_78 : decode cX9_isLine 78 = .ok (.aload_n 0, 1) := dk_42 rfl
theorem dX9_isLine_79 : decode cX9_isLine 79 = .ok (.ldc 124, 2) := dk_18 rfl rfl rfl
theorem dX9_isLine_81 : decode cX9_isLine 81 = .ok (.invokevirtual 104, 3) := dk_182 rfl rfl rfl rfl
theorem dX9_isLine_84 : decode cX9_isLine 84 = .ok (.ifCond .eq 8, 3) := dk_153 rfl rfl rfl (by decide)
theorem dX9_isLine_87 : decode cX9_isLine 87 = .ok (.aload_n 0, 1) := dk_42 rfl
theorem dX9_isLine_88 : decode cX9_isLine 88 = .ok (.invokevirtual 126, 3) := dk_182 rfl rfl rfl rfl
theorem dX9_isLine_91 : decode cX9_isLine 91 = .ok (.ireturn, 1) := dk_172 rfl
theorem dX9_isLine_92 : decode cX9_isLine 92 = .ok (.aload_n 0, 1) := dk_42 rfl
theorem dX9_isLine_93 : decode cX9_isLine 93 = .ok (.ldc 129, 2) := dk_18 rfl rfl rfl
theorem dX9_isLine_95 : decode cX9_isLine 95 = .ok (.invokevirtual 104, 3) := dk_182 rfl rfl rfl rfl
theorem dX9_isLine_98 : decode cX9_isLine 98 = .ok (.ifCond .eq 8, 3) := by decide +kernel
theorem dX9_isLine_101 : decode cX9_isLine 101 = .ok (.aload_n 0, 1) := by decide +kernel
theorem dX9_isLine_102 : decode cX9_isLine 102 = .ok (.invokevirtual 131, 3) := by decide +kernel
theorem dX9_isLine_105 : decode cX9_isLine 105 = .ok (.ireturn, 1) := by decide +kernel
theorem dX9_isLine_106 : decode cX9_isLine 106 = .ok (.aload_n 0, 1) := by decide +kernel
theorem dX9_isLine_107 : decode cX9_isLine 107 = .ok (.ldc 134, 2) := by decide +kernel
theorem dX9_isLine_109 : decode cX9_isLine 109 = .ok (.invokevirtual 104, 3) := by decide +kernel
theorem dX9_isLine_112 : decode cX9_isLine 112 = .ok (.ifCond .eq 8, 3) := by decide +kernel
theorem dX9_isLine_115 : decode cX9_isLine 115 = .ok (.aload_n 0, 1) := by decide +kernel
theorem dX9_isLine_116 : decode cX9_isLine 116 = .ok (.invokevirtual 136, 3) := by decide +kernel
theorem dX9_isLine_119 : decode cX9_isLine 119 = .ok (.ireturn, 1) := by decide +kernel
theorem dX9_isLine_120 : decode cX9_isLine 120 = .ok (.aload_n 0, 1) := by decide +kernel
theorem dX9_isLine_121 : decode cX9_isLine 121 = .ok (.ldc 139, 2) := by decide +kernel
theorem dX9_isLine_123 : decode cX9_isLine 123 = .ok (.invokevirtual 104, 3) := by decide +kernel
theorem dX9_isLine_126 : decode cX9_isLine 126 = .ok (.ifCond .eq 8, 3) := by decide +kernel
theorem dX9_isLine_129 : decode cX9_isLine 129 = .ok (.aload_n 0, 1) := by decide +kernel
theorem dX9_isLine_130 : decode cX9_isLine 130 = .ok (.invokevirtual 141, 3) := by decide +kernel
theorem dX9_isLine_133 : decode cX9_isLine 133 = .ok (.ireturn, 1) := by decide +kernel
theorem dX9_isLine_134 : decode cX9_isLine 134 = .ok (.aload_n 0, 1) := by decide +kernel
theorem dX9_isLine_135 : decode cX9_isLine 135 = .ok (.ldc 144, 2) := by decide +kernel
theorem dX9_isLine_137 : decode cX9_isLine 137 = .ok (.invokevirtual 104, 3) := by decide +kernel
theorem dX9_isLine_140 : decode cX9_isLine 140 = .ok (.ifCond .eq 8, 3) := by decide +kernel
theorem dX9_isLine_143 : decode cX9_isLine 143 = .ok (.aload_n 0, 1) := by decide +kernel
theorem dX9_isLine_144 : decode cX9_isLine 144 = .ok (.invokevirtual 146, 3) := by decide +kernel
theorem dX9_isLine_147 : decode cX9_isLine 147 = .ok (.ireturn, 1) := by decide +kernel
theorem dX9_isLine_148 : decode cX9_isLine 148 = .ok (.aload_n 0, 1) := by decide +kernel
theorem dX9_isLine_149 : decode cX9_isLine 149 = .ok (.ldc 149, 2) := by decide +kernel
theorem dX9_isLine_151 : decode cX9_isLine 151 = .ok (.invokevirtual 104, 3) := by decide +kernel
theorem dX9_isLine_154 : decode cX9_isLine 154 = .ok (.ifCond .eq 8, 3) := by decide +kernel
theorem dX9_isLine_157 : decode cX9_isLine 157 = .ok (.aload_n 0, 1) := by decide +kernel
theorem dX9_isLine_158 : decode cX9_isLine 158 = .ok (.invokevirtual 151, 3) := by decide +kernel
theorem dX9_isLine_161 : decode cX9_isLine 161 = .ok (.ireturn, 1) := by decide +kernel
theorem dX9_isLine_162 : decode cX9_isLine 162 = .ok (.aload_n 0, 1) := by decide +kernel
theorem dX9_isLine_163 : decode cX9_isLine 163 = .ok (.ldc 154, 2) := by decide +kernel
theorem dX9_isLine_165 : decode cX9_isLine 165 = .ok (.invokevirtual 104, 3) := by decide +kernel
theorem dX9_isLine_168 : decode cX9_isLine 168 = .ok (.ifCond .eq 8, 3) := by decide +kernel
theorem dX9_isLine_171 : decode cX9_isLine 171 = .ok (.aload_n 0, 1) := by decide +kernel
theorem dX9_isLine_172 : decode cX9_isLine 172 = .ok (.invokevirtual 156, 3) := by decide +kernel
theorem dX9_isLine_175 : decode cX9_isLine 175 = .ok (.ireturn, 1) := by decide +kernel
theorem dX9_isLine_176 : decode cX9_isLine 176 = .ok (.aload_n 0, 1) := by decide +kernel
theorem dX9_isLine_177 : decode cX9_isLine 177 = .ok (.ldc 159, 2) := by decide +kernel
theorem dX9_isLine_179 : decode cX9_isLine 179 = .ok (.invokevirtual 104, 3) := by decide +kernel
theorem dX9_isLine_182 : decode cX9_isLine 182 = .ok (.ifCond .eq 10, 3) := by decide +kernel
theorem dX9_isLine_185 : decode cX9_isLine 185 = .ok (.aload_n 0, 1) := by decide +kernel
theorem dX9_isLine_186 : decode cX9_isLine 186 = .ok (.invokevirtual 161, 3) := by decide +kernel
theorem dX9_isLine_189 : decode cX9_isLine 189 = .ok (.goto 7, 3) := by decide +kernel
theorem dX9_isLine_192 : decode cX9_isLine 192 = .ok (.aload_n 0, 1) := by decide +kernel
theorem dX9_isLine_193 : decode cX9_isLine 193 = .ok (.invokevirtual 164, 3) := by decide +kernel
theorem dX9_isLine_196 : decode cX9_isLine 196 = .ok (.ireturn, 1) := by decide +kernel
theorem dX9_isFollowed_0 : decode cX9_isFollowed 0 = .ok (.aload_n 0, 1) := dk_42 rfl
theorem dX9_isFollowed_1 : decode cX9_isFollowed 1 = .ok (.getfield 48, 3) := dk_180 rfl rfl rfl rfl
theorem dX9_isFollowed_4 : decode cX9_isFollowed 4 = .ok (.iconst 3, 1) := dk_6 rfl
theorem dX9_isFollowed_5 : decode cX9_isFollowed 5 = .ok (.if_icmp .ne 9, 3) := dk_160 rfl rfl rfl (by decide)
theorem dX9_isFollowed_8 : decode cX9_isFollowed 8 = .ok (.aload_n 0, 1) := dk_42 rfl
theorem dX9_isFollowed_9 : decode cX9_isFollowed 9 = .ok (.invokevirtual 74, 3) := dk_182 rfl rfl rfl rfl
theorem dX9_isFollowed_12 : decode cX9_isFollowed 12 = .ok (.iconst 1, 1) := dk_4 rfl
theorem dX9_isFollowed_13 : decode cX9_isFollowed 13 = .ok (.ireturn, 1) := dk_172 rfl
theorem dX9_isFollowed_14 : decode cX9_isFollowed 14 = .ok (.aload_n 0, 1) := dk_42 rfl
theorem dX9_isFollowed_15 : decode cX9_isFollowed 15 = .ok (.getfield 48, 3) := dk_180 rfl rfl rfl rfl
theorem dX9_isFollowed_18 : decode cX9_isFollowed 18 = .ok (.ifCond .eq 13, 3) := dk_153 rfl rfl rfl (by decide)
theorem dX9_isFollowed_21 : decode cX9_isFollowed 21 = .ok (.aload_n 0, 1) := dk_42 rfl
theorem dX9_isFollowed_22 : decode cX9_isFollowed 22 = .ok (.iconst 1, 1) := dk_4 rfl
theorem dX9_isFollowed_23 : decode cX9_isFollowed 23 = .ok (.aload_n 0, 1) := dk_42 rfl
theorem dX9_isFollowed_24 : decode cX9_isFollowed 24 = .ok (.getfield 51, 3) := dk_180 rfl rfl rfl rfl
theorem dX9_isFollowed_27 : decode cX9_isFollowed 27 = .ok (.invokevirtual 84, 3) := dk_182 rfl rfl rfl rfl
theorem dX9_isFollowed_30 : decode cX9_isFollowed 30 = .ok (.ireturn, 1) := dk_172 rfl
theorem dX9_isFollowed_31 : decode cX9_isFollowed 31 = .ok (.aload_n 0, 1) := dk_42 rfl
theorem dX9_isFollowed_32 : decode cX9_isFollowed 32 = .ok (.getfield 18, 3) := dk_180 rfl rfl rfl rfl
theorem dX9_isFollowed_35 : decode cX9_isFollowed 35 = .ok (.getfield 88, 3) := dk_180 rfl rfl rfl rfl
theorem dX9_isFollowed_38 : decode cX9_isFollowed 38 = .ok (.getfield 92, 3) := dk_180 rfl rfl rfl rfl
theorem dX9_isFollowed_41 : decode cX9_isFollowed 41 = .ok (.getfield 97, 3) := dk_180 rfl rfl rfl rfl
theorem dX9_isFollowed_44 : decode cX9_isFollowed 44 = .ok (.ifCond .eq 16, 3) := dk_153 rfl rfl rfl (by decide)
theorem dX9_isFollowed_47 : decode cX9_isFollowed 47 = .ok (.aload_n 0, 1) := dk_42 rfl
theorem dX9_isFollowed_48 : decode cX9_isFollowed 48 = .ok (.getfield 18, 3) := dk_180 rfl rfl rfl rfl
theorem dX9_isFollowed_51 : decode cX9_isFollowed 51 = .ok (.getfield 100, 3) := dk_180 rfl rfl rfl rfl
theorem dX9_isFollowed_54 : decode cX9_isFollowed 54 = .ok (.getfield 97, 3) := dk_180 rfl rfl rfl rfl
theorem dX9_isFollowed_57 : decode cX9_isFollowed 57 = .ok (.ifCond .ne 14, 3) := dk_154 rfl rfl rfl (by decide)
theorem dX9_isFollowed_60 : decode cX9_isFollowed 60 = .ok (.aload_n 0, 1) := dk_42 rfl
theorem dX9_isFollowed_61 : decode cX9_isFollowed 61 = .ok (.bipush 6, 2) := dk_16 rfl rfl (by decide)
theorem dX9_isFollowed_63 : decode cX9_isFollowed 63 = .ok (.aload_n 0, 1) := dk_42 rfl
theorem dX9_isFollowed_64 : decode cX9_isFollowed 64 = .ok (.getfield 51, 3) := dk_180 rfl rfl rfl rfl
theorem dX9_isFollowed_67 : decode cX9_isFollowed 67 = .ok (.invokevirtual 84, 3) := dk_182 rfl rfl rfl rfl
theorem dX9_isFollowed_70 : decode cX9_isFollowed 70 = .ok (.ireturn, 1) := dk_172 rfl
theorem dX9_isFollowed_71 : decode cX9_isFollowed 71 = .ok (.iconst 0, 1) := dk_3 rfl
theorem dX9_isFollowed_72 : decode cX9_isFollowed 72 = .ok (.ireturn, 1) := dk_172 rfl
