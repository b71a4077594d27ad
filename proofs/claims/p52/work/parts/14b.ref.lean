theorem dX11_layNight_0 : decode cX11_layNight 0 = .ok (.aload_n 0, 1) := dk_42 rfl
theorem dX11_layNight_1 : decode cX11_layNight 1 = .ok (.getfield 20, 3) := dk_180 rfl rfl rfl rfl
theorem dX11_layNight_4 : decode cX11_layNight 4 = .ok (.bipush 12, 2) := dk_16 rfl rfl (by decide)
theorem dX11_layNight_6 : decode cX11_layNight 6 = .ok (.iaload, 1) := dk_46 rfl
theorem dX11_layNight_7 : decode cX11_layNight 7 = .ok (.iconst 1, 1) := dk_4 rfl
theorem dX11_layNight_8 : decode cX11_layNight 8 = .ok (.isub, 1) := dk_100 rfl
theorem dX11_layNight_9 : decode cX11_layNight 9 = .ok (.istore_n 2, 1) := dk_61 rfl
theorem dX11_layNight_10 : decode cX11_layNight 10 = .ok (.aload_n 0, 1) := dk_42 rfl
theorem dX11_layNight_11 : decode cX11_layNight 11 = .ok (.getfield 35, 3) := dk_180 rfl rfl rfl rfl
theorem dX11_layNight_14 : decode cX11_layNight 14 = .ok (.iconst 0, 1) := dk_3 rfl
theorem dX11_layNight_15 : decode cX11_layNight 15 = .ok (.iconst 0, 1) := dk_3 rfl
theorem dX11_layNight_16 : decode cX11_layNight 16 = .ok (.iastore, 1) := dk_79 rfl
theorem dX11_layNight_17 : decode cX11_layNight 17 = .ok (.aload_n 0, 1) := dk_42 rfl
theorem dX11_layNight_18 : decode cX11_layNight 18 = .ok (.getfield 38, 3) := dk_180 rfl rfl rfl rfl
theorem dX11_layNight_21 : decode cX11_layNight 21 = .ok (.iconst 0, 1) := dk_3 rfl
theorem dX11_layNight_22 : decode cX11_layNight 22 = .ok (.iconst 0, 1) := dk_3 rfl
theorem dX11_layNight_23 : decode cX11_layNight 23 = .ok (.iastore, 1) := dk_79 rfl
theorem dX11_layNight_24 : decode cX11_layNight 24 = .ok (.aload_n 0, 1) := dk_42 rfl
theorem dX11_layNight_25 : decode cX11_layNight 25 = .ok (.getfield 41, 3) := dk_180 rfl rfl rfl rfl
theorem dX11_layNight_28 : decode cX11_layNight 28 = .ok (.iconst 0, 1) := dk_3 rfl
theorem dX11_layNight_29 : decode cX11_layNight 29 = .ok (.iconst 0, 1) := dk_3 rfl
theorem dX11_layNight_30 : decode cX11_layNight 30 = .ok (.iastore, 1) := dk_79 rfl
theorem dX11_layNight_31 : decode cX11_layNight 31 = .ok (.aload_n 0, 1) := dk_42 rfl
theorem dX11_layNight_32 : decode cX11_layNight 32 = .ok (.getfield 53, 3) := dk_180 rfl rfl rfl rfl
theorem dX11_layNight_35 : decode cX11_layNight 35 = .ok (.iconst 0, 1) := dk_3 rfl
theorem dX11_layNight_36 : decode cX11_layNight 36 = .ok (.iconst 0, 1) := dk_3 rfl
theorem dX11_layNight_37 : decode cX11_layNight 37 = .ok (.iastore, 1) := dk_79 rfl
theorem dX11_layNight_38 : decode cX11_layNight 38 = .ok (.aload_n 0, 1) := dk_42 rfl
theorem dX11_layNight_39 : decode cX11_layNight 39 = .ok (.getfield 56, 3) := dk_180 rfl rfl rfl rfl
theorem dX11_layNight_42 : decode cX11_layNight 42 = .ok (.iconst 0, 1) := dk_3 rfl
theorem dX11_layNight_43 : decode cX11_layNight 43 = .ok (.iconst 0, 1) := dk_3 rfl
theorem dX11_layNight_44 : decode cX11_layNight 44 = .ok (.iastore, 1) := dk_79 rfl
theorem dX11_layNight_45 : decode cX11_layNight 45 = .ok (.iconst 0, 1) := dk_3 rfl
theorem dX11_layNight_46 : decode cX11_layNight 46 = .ok (.istore_n 3, 1) := dk_62 rfl
theorem dX11_layNight_47 : decode cX11_layNight 47 = .ok (.iload_n 3, 1) := dk_29 rfl
theorem dX11_layNight_48 : decode cX11_layNight 48 = .ok (.iload_n 2, 1) := dk_28 rfl
theorem dX11_layNight_49 : decode cX11_layNight 49 = .ok (.if_icmp .gt 253, 3) := dk_163 rfl rfl rfl (by decide)
theorem dX11_layNight_52 : decode cX11_layNight 52 = .ok (.aload_n 0, 1) := dk_42 rfl
theorem dX11_layNight_53 : decode cX11_layNight 53 = .ok (.iload_n 3, 1) := dk_29 rfl
theorem dX11_layNight_54 : decode cX11_layNight 54 = .ok (.invokevirtual 354, 3) := dk_182 rfl rfl rfl rfl
theorem dX11_layNight_57 : decode cX11_layNight 57 = .ok (.istore 4, 2) := dk_54 rfl rfl rfl
theorem dX11_layNight_59 : decode cX11_layNight 59 = .ok (.aload_n 0, 1) := dk_42 rfl
theorem dX11_layNight_60 : decode cX11_layNight 60 = .ok (.getfield 47, 3) := dk_180 rfl rfl rfl rfl
theorem dX11_layNight_63 : decode cX11_layNight 63 = .ok (.iload_n 3, 1) := dk_29 rfl
theorem dX11_layNight_64 : decode cX11_layNight 64 = .ok (.bipush (-2), 2) := dk_16 rfl rfl (by decide)
theorem dX11_layNight_66 : decode cX11_layNight 66 = .ok (.iastore, 1) := dk_79 rfl
theorem dX11_layNight_67 : decode cX11_layNight 67 = .ok (.aload_n 0, 1) := dk_42 rfl
theorem dX11_layNight_68 : decode cX11_layNight 68 = .ok (.iload_n 3, 1) := dk_29 rfl
theorem dX11_layNight_69 : decode cX11_layNight 69 = .ok (.invokevirtual 357, 3) := dk_182 rfl rfl rfl rfl
theorem dX11_layNight_72 : decode cX11_layNight 72 = .ok (.ifCond .eq 57, 3) := dk_153 rfl rfl rfl (by decide)
theorem dX11_layNight_75 : decode cX11_layNight 75 = .ok (.aload_n 0, 1) := dk_42 rfl
theorem dX11_layNight_76 : decode cX11_layNight 76 = .ok (.getfield 53, 3) := dk_180 rfl rfl rfl rfl
theorem dX11_layNight_79 : decode cX11_layNight 79 = .ok (.iload_n 3, 1) := dk_29 rfl
theorem dX11_layNight_80 : decode cX11_layNight 80 = .ok (.iload 4, 2) := dk_21 rfl rfl rfl
theorem dX11_layNight_82 : decode cX11_layNight 82 = .ok (.iastore, 1) := dk_79 rfl
theorem dX11_layNight_83 : decode cX11_layNight 83 = .ok (.aload_n 0, 1) := dk_42 rfl
theorem dX11_layNight_84 : decode cX11_layNight 84 = .ok (.getfield 50, 3) := dk_180 rfl rfl rfl rfl
theorem dX11_layNight_87 : decode cX11_layNight 87 = .ok (.iload_n 3, 1) := dk_29 rfl
theorem dX11_layNight_88 : decode cX11_layNight 88 = .ok (.iconst 0, 1) := dk_3 rfl
theorem dX11_layNight_89 : decode cX11_layNight 89 = .ok (.iastore, 1) := dk_79 rfl
theorem dX11_layNight_90 : decode cX11_layNight 90 = .ok (.aload_n 0, 1) := dk_42 rfl
theorem dX11_layNight_91 : decode cX11_layNight 91 = .ok (.getfield 44, 3) := dk_180 rfl rfl rfl rfl
theorem dX11_layNight_94 : decode cX11_layNight 94 = .ok (.iload_n 3, 1) := dk_29 rfl
theorem dX11_layNight_95 : decode cX11_layNight 95 = .ok (.aload_n 0, 1) := dk_42 rfl
theorem dX11_layNight_96 : decode cX11_layNight 96 = .ok (.getfield 38, 3) := dk_180 rfl rfl rfl rfl
theorem dX11_layNight_99 : decode cX11_layNight 99 = .ok (.iload_n 3, 1) := by decide +kernel
theorem dX11_layNight_100 : decode cX11_layNight 100 = .ok (.iaload, 1) := by decide +kernel
theorem dX11_layNight_101 : decode cX11_layNight 101 = .ok (.iastore, 1) := by decide +kernel
theorem dX11_layNight_102 : decode cX11_layNight 102 = .ok (.iload_n 3, 1) := by decide +kernel
theorem dX11_layNight_103 : decode cX11_layNight 103 = .ok (.iload_n 2, 1) := by decide +kernel
theorem dX11_layNight_104 : decode cX11_layNight 104 = .ok (.if_icmp .ge 192, 3) := by decide +kernel
theorem dX11_layNight_107 : decode cX11_layNight 107 = .ok (.aload_n 0, 1) := by decide +kernel
theorem dX11_layNight_108 : decode cX11_layNight 108 = .ok (.iload_n 3, 1) := by decide +kernel
theorem dX11_layNight_109 : decode cX11_layNight 109 = .ok (.aload_n 0, 1) := by decide +kernel
theorem dX11_layNight_110 : decode cX11_layNight 110 = .ok (.getfield 44, 3) := by decide +kernel
theorem dX11_layNight_113 : decode cX11_layNight 113 = .ok (.iload_n 3, 1) := by decide +kernel
theorem dX11_layNight_114 : decode cX11_layNight 114 = .ok (.iaload, 1) := by decide +kernel
theorem dX11_layNight_115 : decode cX11_layNight 115 = .ok (.aload_n 0, 1) := by decide +kernel
theorem dX11_layNight_116 : decode cX11_layNight 116 = .ok (.getfield 44, 3) := by decide +kernel
theorem dX11_layNight_119 : decode cX11_layNight 119 = .ok (.iload_n 3, 1) := by decide +kernel
theorem dX11_layNight_120 : decode cX11_layNight 120 = .ok (.iaload, 1) := by decide +kernel
theorem dX11_layNight_121 : decode cX11_layNight 121 = .ok (.iconst 0, 1) := by decide +kernel
theorem dX11_layNight_122 : decode cX11_layNight 122 = .ok (.iconst 1, 1) := by decide +kernel
theorem dX11_layNight_123 : decode cX11_layNight 123 = .ok (.invokevirtual 360, 3) := by decide +kernel
theorem dX11_layNight_126 : decode cX11_layNight 126 = .ok (.goto 170, 3) := by decide +kernel
theorem dX11_layNight_129 : decode cX11_layNight 129 = .ok (.aload_n 0, 1) := by decide +kernel
theorem dX11_layNight_130 : decode cX11_layNight 130 = .ok (.getfield 50, 3) := by decide +kernel
theorem dX11_layNight_133 : decode cX11_layNight 133 = .ok (.iload_n 3, 1) := by decide +kernel
theorem dX11_layNight_134 : decode cX11_layNight 134 = .ok (.iload 4, 2) := by decide +kernel
theorem dX11_layNight_136 : decode cX11_layNight 136 = .ok (.iastore, 1) := by decide +kernel
theorem dX11_layNight_137 : decode cX11_layNight 137 = .ok (.iload_n 3, 1) := by decide +kernel
theorem dX11_layNight_138 : decode cX11_layNight 138 = .ok (.iload_n 2, 1) := by decide +kernel
theorem dX11_layNight_139 : decode cX11_layNight 139 = .ok (.if_icmp .ge 62, 3) := by decide +kernel
theorem dX11_layNight_142 : decode cX11_layNight 142 = .ok (.aload_n 0, 1) := by decide +kernel
theorem dX11_layNight_143 : decode cX11_layNight 143 = .ok (.iload_n 1, 1) := by decide +kernel
theorem dX11_layNight_144 : decode cX11_layNight 144 = .ok (.iload_n 3, 1) := by decide +kernel
theorem dX11_layNight_145 : decode cX11_layNight 145 = .ok (.invokevirtual 364, 3) := by decide +kernel
theorem dX11_layNight_148 : decode cX11_layNight 148 = .ok (.aload_n 0, 1) := by decide +kernel
theorem dX11_layNight_149 : decode cX11_layNight 149 = .ok (.getfield 59, 3) := by decide +kernel
theorem dX11_layNight_152 : decode cX11_layNight 152 = .ok (.iload_n 3, 1) := by decide +kernel
theorem dX11_layNight_153 : decode cX11_layNight 153 = .ok (.iaload, 1) := by decide +kernel
theorem dX11_layNight_154 : decode cX11_layNight 154 = .ok (.iadd, 1) := by decide +kernel
theorem dX11_layNight_155 : decode cX11_layNight 155 = .ok (.iload 4, 2) := by decide +kernel
theorem dX11_layNight_157 : decode cX11_layNight 157 = .ok (.iconst 1, 1) := by decide +kernel
theorem dX11_layNight_158 : decode cX11_layNight 158 = .ok (.isub, 1) := by decide +kernel
theorem dX11_layNight_159 : decode cX11_layNight 159 = .ok (.invokestatic 348, 3) := by decide +kernel
theorem dX11_layNight_162 : decode cX11_layNight 162 = .ok (.aload_n 0, 1) := by decide +kernel
theorem dX11_layNight_163 : decode cX11_layNight 163 = .ok (.getfield 35, 3) := by decide +kernel
theorem dX11_layNight_166 : decode cX11_layNight 166 = .ok (.iload_n 3, 1) := by decide +kernel
theorem dX11_layNight_167 : decode cX11_layNight 167 = .ok (.iaload, 1) := by decide +kernel
theorem dX11_layNight_168 : decode cX11_layNight 168 = .ok (.invokestatic 351, 3) := by decide +kernel
theorem dX11_layNight_171 : decode cX11_layNight 171 = .ok (.istore 5, 2) := by decide +kernel
theorem dX11_layNight_173 : decode cX11_layNight 173 = .ok (.aload_n 0, 1) := by decide +kernel
theorem dX11_layNight_174 : decode cX11_layNight 174 = .ok (.getfield 47, 3) := by decide +kernel
theorem dX11_layNight_177 : decode cX11_layNight 177 = .ok (.iload_n 3, 1) := by decide +kernel
theorem dX11_layNight_178 : decode cX11_layNight 178 = .ok (.iload 5, 2) := by decide +kernel
theorem dX11_layNight_180 : decode cX11_layNight 180 = .ok (.iastore, 1) := by decide +kernel
theorem dX11_layNight_181 : decode cX11_layNight 181 = .ok (.aload_n 0, 1) := by decide +kernel
theorem dX11_layNight_182 : decode cX11_layNight 182 = .ok (.getfield 50, 3) := by decide +kernel
theorem dX11_layNight_185 : decode cX11_layNight 185 = .ok (.iload_n 3, 1) := by decide +kernel
theorem dX11_layNight_186 : decode cX11_layNight 186 = .ok (.iload 5, 2) := by decide +kernel
theorem dX11_layNight_188 : decode cX11_layNight 188 = .ok (.aload_n 0, 1) := by decide +kernel
theorem dX11_layNight_189 : decode cX11_layNight 189 = .ok (.getfield 20, 3) := by decide +kernel
theorem dX11_layNight_192 : decode cX11_layNight 192 = .ok (.iconst 0, 1) := by decide +kernel
theorem dX11_layNight_193 : decode cX11_layNight 193 = .ok (.iaload, 1) := by decide +kernel
theorem dX11_layNight_194 : decode cX11_layNight 194 = .ok (.iadd, 1) := by decide +kernel
theorem dX11_layNight_195 : decode cX11_layNight 195 = .ok (.iload 4, 2) := by decide +kernel
theorem dX11_layNight_197 : decode cX11_layNight 197 = .ok (.invokestatic 348, 3) := by decide +kernel
theorem dX11_layNight_200 : decode cX11_layNight 200 = .ok (.iastore, 1) := by decide +kernel
theorem dX11_layNight_201 : decode cX11_layNight 201 = .ok (.aload_n 0, 1) := by decide +kernel
theorem dX11_layNight_202 : decode cX11_layNight 202 = .ok (.getfield 44, 3) := by decide +kernel
theorem dX11_layNight_205 : decode cX11_layNight 205 = .ok (.iload_n 3, 1) := by decide +kernel
theorem dX11_layNight_206 : decode cX11_layNight 206 = .ok (.aload_n 0, 1) := by decide +kernel
theorem dX11_layNight_207 : decode cX11_layNight 207 = .ok (.getfield 38, 3) := by decide +kernel
theorem dX11_layNight_210 : decode cX11_layNight 210 = .ok (.iload_n 3, 1) := by decide +kernel
theorem dX11_layNight_211 : decode cX11_layNight 211 = .ok (.iaload, 1) := by decide +kernel
theorem dX11_layNight_212 : decode cX11_layNight 212 = .ok (.aload_n 0, 1) := by decide +kernel
theorem dX11_layNight_213 : decode cX11_layNight 213 = .ok (.getfield 50, 3) := by decide +kernel
theorem dX11_layNight_216 : decode cX11_layNight 216 = .ok (.iload_n 3, 1) := by decide +kernel
theorem dX11_layNight_217 : decode cX11_layNight 217 = .ok (.iaload, 1) := by decide +kernel
theorem dX11_layNight_218 : decode cX11_layNight 218 = .ok (.iadd, 1) := by decide +kernel
theorem dX11_layNight_219 : decode cX11_layNight 219 = .ok (.aload_n 0, 1) := by decide +kernel
theorem dX11_layNight_220 : decode cX11_layNight 220 = .ok (.getfield 35, 3) := by decide +kernel
theorem dX11_layNight_223 : decode cX11_layNight 223 = .ok (.iload_n 3, 1) := by decide +kernel
theorem dX11_layNight_224 : decode cX11_layNight 224 = .ok (.iaload, 1) := by decide +kernel
theorem dX11_layNight_225 : decode cX11_layNight 225 = .ok (.isub, 1) := by decide +kernel
theorem dX11_layNight_226 : decode cX11_layNight 226 = .ok (.iastore, 1) := by decide +kernel
theorem dX11_layNight_227 : decode cX11_layNight 227 = .ok (.iload_n 3, 1) := by decide +kernel
theorem dX11_layNight_228 : decode cX11_layNight 228 = .ok (.iload_n 2, 1) := by decide +kernel
theorem dX11_layNight_229 : decode cX11_layNight 229 = .ok (.if_icmp .ge 67, 3) := by decide +kernel
theorem dX11_layNight_232 : decode cX11_layNight 232 = .ok (.aload_n 0, 1) := by decide +kernel
theorem dX11_layNight_233 : decode cX11_layNight 233 = .ok (.iload_n 3, 1) := by decide +kernel
theorem dX11_layNight_234 : decode cX11_layNight 234 = .ok (.aload_n 0, 1) := by decide +kernel
theorem dX11_layNight_235 : decode cX11_layNight 235 = .ok (.getfield 38, 3) := by decide +kernel
theorem dX11_layNight_238 : decode cX11_layNight 238 = .ok (.iload_n 3, 1) := by decide +kernel
theorem dX11_layNight_239 : decode cX11_layNight 239 = .ok (.iaload, 1) := by decide +kernel
theorem dX11_layNight_240 : decode cX11_layNight 240 = .ok (.aload_n 0, 1) := by decide +kernel
theorem dX11_layNight_241 : decode cX11_layNight 241 = .ok (.getfield 47, 3) := by decide +kernel
theorem dX11_layNight_244 : decode cX11_layNight 244 = .ok (.iload_n 3, 1) := by decide +kernel
theorem dX11_layNight_245 : decode cX11_layNight 245 = .ok (.iaload, 1) := by decide +kernel
theorem dX11_layNight_246 : decode cX11_layNight 246 = .ok (.iadd, 1) := by decide +kernel
theorem dX11_layNight_247 : decode cX11_layNight 247 = .ok (.aload_n 0, 1) := by decide +kernel
theorem dX11_layNight_248 : decode cX11_layNight 248 = .ok (.getfield 35, 3) := by decide +kernel
theorem dX11_layNight_251 : decode cX11_layNight 251 = .ok (.iload_n 3, 1) := by decide +kernel
theorem dX11_layNight_252 : decode cX11_layNight 252 = .ok (.iaload, 1) := by decide +kernel
theorem dX11_layNight_253 : decode cX11_layNight 253 = .ok (.isub, 1) := by decide +kernel
theorem dX11_layNight_254 : decode cX11_layNight 254 = .ok (.aload_n 0, 1) := by decide +kernel
theorem dX11_layNight_255 : decode cX11_layNight 255 = .ok (.getfield 44, 3) := by decide +kernel
theorem dX11_layNight_258 : decode cX11_layNight 258 = .ok (.iload_n 3, 1) := by decide +kernel
theorem dX11_layNight_259 : decode cX11_layNight 259 = .ok (.iaload, 1) := by decide +kernel
theorem dX11_layNight_260 : decode cX11_layNight 260 = .ok (.aload_n 0, 1) := by decide +kernel
theorem dX11_layNight_261 : decode cX11_layNight 261 = .ok (.getfield 50, 3) := by decide +kernel
theorem dX11_layNight_264 : decode cX11_layNight 264 = .ok (.iload_n 3, 1) := by decide +kernel
theorem dX11_layNight_265 : decode cX11_layNight 265 = .ok (.iaload, 1) := by decide +kernel
theorem dX11_layNight_266 : decode cX11_layNight 266 = .ok (.aload_n 0, 1) := by decide +kernel
theorem dX11_layNight_267 : decode cX11_layNight 267 = .ok (.getfield 47, 3) := by decide +kernel
theorem dX11_layNight_270 : decode cX11_layNight 270 = .ok (.iload_n 3, 1) := by decide +kernel
theorem dX11_layNight_271 : decode cX11_layNight 271 = .ok (.iaload, 1) := by decide +kernel
theorem dX11_layNight_272 : decode cX11_layNight 272 = .ok (.isub, 1) := by decide +kernel
theorem dX11_layNight_273 : decode cX11_layNight 273 = .ok (.aload_n 0, 1) := by decide +kernel
theorem dX11_layNight_274 : decode cX11_layNight 274 = .ok (.getfield 20, 3) := by decide +kernel
theorem dX11_layNight_277 : decode cX11_layNight 277 = .ok (.iconst 1, 1) := by decide +kernel
theorem dX11_layNight_278 : decode cX11_layNight 278 = .ok (.iaload, 1) := by decide +kernel
theorem dX11_layNight_279 : decode cX11_layNight 279 = .ok (.isub, 1) := by decide +kernel
theorem dX11_layNight_280 : decode cX11_layNight 280 = .ok (.aload_n 0, 1) := by decide +kernel
theorem dX11_layNight_281 : decode cX11_layNight 281 = .ok (.getfield 26, 3) := by decide +kernel
theorem dX11_layNight_284 : decode cX11_layNight 284 = .ok (.bipush 34, 2) := by decide +kernel
theorem dX11_layNight_286 : decode cX11_layNight 286 = .ok (.iload_n 3, 1) := by decide +kernel
theorem dX11_layNight_287 : decode cX11_layNight 287 = .ok (.iadd, 1) := by decide +kernel
theorem dX11_layNight_288 : decode cX11_layNight 288 = .ok (.iconst 1, 1) := by decide +kernel
theorem dX11_layNight_289 : decode cX11_layNight 289 = .ok (.iadd, 1) := by decide +kernel
theorem dX11_layNight_290 : decode cX11_layNight 290 = .ok (.iaload, 1) := by decide +kernel
theorem dX11_layNight_291 : decode cX11_layNight 291 = .ok (.isub, 1) := by decide +kernel
theorem dX11_layNight_292 : decode cX11_layNight 292 = .ok (.iconst 0, 1) := by decide +kernel
theorem dX11_layNight_293 : decode cX11_layNight 293 = .ok (.invokevirtual 360, 3) := by decide +kernel
theorem dX11_layNight_296 : decode cX11_layNight 296 = .ok (.iinc 3 1, 3) := by decide +kernel
theorem dX11_layNight_299 : decode cX11_layNight 299 = .ok (.goto (-252), 3) := by decide +kernel
theorem dX11_layNight_302 : decode cX11_layNight 302 = .ok (.return_, 1) := by decide +kernel
set_option maxHeartbeats 4000000 in
set_option maxRecDepth 100000 in
theorem m_layNight (l : Launch) (g : Gx) (h0 : Nat) (p0 : Int32) (m_thrown : Int32) (a_tape : Nat) (m_taped : Int32) (m_size : Int32) (m_at : Int32) (m_end : Int32) (m_token : Int32) (m_whole : Int32) (m_nameSize : Int32) (m_fault : Int32) (m_place : Int32) (m_trouble : Int32) (a_letters : Nat) (m_failed : Int32) (m_hasHouse : Int32) (a_r : Nat) (a_fresh : Nat) (a_st : Nat) (a_undone : Nat) (a_kept : Nat) (m_undos : Int32) (m_images : Int32) (a_from : Nat) (a_begin : Nat) (a_motor : Nat) (a_change : Nat) (a_startFrame : Nat) (a_changeFrame : Nat) (a_lostAt : Nat) (a_blackAt : Nat) (a_slips : Nat) (a_leftArc : Nat) (a_died : Nat) (a_arcs : Nat) (m_bestSum : Int32) (m_nearest : Int32) (m_nearestTown : Int32) (a_there : Nat) (a_backAt : Nat) (a_sorted : Nat) (a_parts : Nat) (m_seed1 : Int32) (m_darkNow : Int32) (d_r : Nat → Int32) (d_st : Nat → Int32) (d_from : Nat → Int32) (d_begin : Nat → Int32) (d_motor : Nat → Int32) (d_change : Nat → Int32) (d_startFrame : Nat → Int32) (d_changeFrame : Nat → Int32) (d_lostAt : Nat → Int32) (d_blackAt : Nat → Int32) (d_slips : Nat → Int32) (hv_p0 : IV p0 0 3) (hp_d_r : RInv d_r) : cV l g yX11_layNight cX11_layNight 6 3 63 0 0 [.ref h0, .int p0] [(cO11_i1r1i10r1i2r5i2r12i3r4i2 h0 m_thrown a_tape m_taped m_size m_at m_end m_token m_whole m_nameSize m_fault m_place m_trouble a_letters m_failed m_hasHouse a_r a_fresh a_st a_undone a_kept m_undos m_images a_from a_begin a_motor a_change a_startFrame a_changeFrame a_lostAt a_blackAt a_slips a_leftArc a_died a_arcs m_bestSum m_nearest m_nearestTown a_there a_backAt a_sorted a_parts m_seed1 m_darkNow), (cAI g a_r 311 d_r), (cAI g a_st 44 d_st), (cAI g a_from 8 d_from), (cAI g a_begin 8 d_begin), (cAI g a_motor 8 d_motor), (cAI g a_change 8 d_change), (cAI g a_startFrame 8 d_startFrame), (cAI g a_changeFrame 8 d_changeFrame), (cAI g a_lostAt 8 d_lostAt), (cAI g a_blackAt 8 d_blackAt), (cAI g a_slips 8 d_slips)] (fun w => ∃ (d_begin2 : Nat → Int32) (d_blackAt2 : Nat → Int32) (d_change2 : Nat → Int32) (d_changeFrame2 : Nat → Int32) (d_from2 : Nat → Int32) (d_lostAt2 : Nat → Int32) (d_motor2 : Nat → Int32) (d_startFrame2 : Nat → Int32), w = [(cO11_i1r1i10r1i2r5i2r12i3r4i2 h0 m_thrown a_tape m_taped m_size m_at m_end m_token m_whole m_nameSize m_fault m_place m_trouble a_letters m_failed m_hasHouse a_r a_fresh a_st a_undone a_kept m_undos m_images a_from a_begin a_motor a_change a_startFrame a_changeFrame a_lostAt a_blackAt a_slips a_leftArc a_died a_arcs m_bestSum m_nearest m_nearestTown a_there a_backAt a_sorted a_parts m_seed1 m_darkNow), (cAI g a_r 311 d_r), (cAI g a_st 44 d_st), (cAI g a_from 8 d_from2), (cAI g a_begin 8 d_begin2), (cAI g a_motor 8 d_motor2), (cAI g a_change 8 d_change2), (cAI g a_startFrame 8 d_startFrame2), (cAI g a_changeFrame 8 d_changeFrame2), (cAI g a_lostAt 8 d_lostAt2), (cAI g a_blackAt 8 d_blackAt2), (cAI g a_slips 8 d_slips)]) := by
  refine cV.of (by decide) (Nat.le_of_ble_eq_true rfl) ?_
  intro p e s m args below meth c A X hr hi
  refine k_lveq [(0, .ref h0), (1, .int p0)] rfl ?_
  refine k_aload_n X dX11_layNight_0 0 rfl ?_
  refine k_get (ci := 11) X inlX11 rfl 15 (by decide) dX11_layNight_1 mw170 0 rfl rfl ?_
  refine k_bipush (v := 12) X dX11_layNight_4 (by decide) ?_
  refine k_iald X dX11_layNight_6 1 rfl (by unfold vp_in; decide) ?_
  refine k_nm (fun z_1 ez_1 => ?_)
  have i_2 : z_1.toInt = (d_r 12).toInt := by rw [ez_1]; rfl
  have iv_3 : IV z_1 0 8 := rb_12 ez_1 hp_d_r
  refine k_iconst (v := 1) X dX11_layNight_7 (by decide) ?_
  refine k_isub X dX11_layNight_8 ?_
  refine k_nm (fun z_4 ez_4 => ?_)
  have i_5 : z_4.toInt = z_1.toInt - 1 := in_sub ez_4 iv_3 (show IV 1 1 1 from (by decide)) (by decide) (by decide)
  have iv_6 : IV z_4 (-1) 7 := iz5 i_5 iv_3 (by decide) (by decide)
  refine k_istore_n [(2, .int z_4), (0, .ref h0), (1, .int p0)] X dX11_layNight_9 (by decide) rfl ?_
  refine k_aload_n X dX11_layNight_10 1 rfl ?_
  refine k_get (ci := 11) X inlX11 rfl 22 (by decide) dX11_layNight_11 mw175 0 rfl rfl ?_
  refine k_iconst (v := 0) X dX11_layNight_14 (by decide) ?_
  refine k_iconst (v := 0) X dX11_layNight_15 (by decide) ?_
  refine k_iast [(cO11_i1r1i10r1i2r5i2r12i3r4i2 h0 m_thrown a_tape m_taped m_size m_at m_end m_token m_whole m_nameSize m_fault m_place m_trouble a_letters m_failed m_hasHouse a_r a_fresh a_st a_undone a_kept m_undos m_images a_from a_begin a_motor a_change a_startFrame a_changeFrame a_lostAt a_blackAt a_slips a_leftArc a_died a_arcs m_bestSum m_nearest m_nearestTown a_there a_backAt a_sorted a_parts m_seed1 m_darkNow), (cAI g a_r 311 d_r), (cAI g a_st 44 d_st), (cAI g a_from 8 (upd d_from (0 : Int32).toNatClampNeg 0)), (cAI g a_begin 8 d_begin), (cAI g a_motor 8 d_motor), (cAI g a_change 8 d_change), (cAI g a_startFrame 8 d_startFrame), (cAI g a_changeFrame 8 d_changeFrame), (cAI g a_lostAt 8 d_lostAt), (cAI g a_blackAt 8 d_blackAt), (cAI g a_slips 8 d_slips)] X dX11_layNight_16 3 rfl (by unfold vp_in; decide) rfl ?_
  refine (fun hg : ∀ fa_7 : Nat → Int32, Wk p l e _ s m args below meth c _ A g _ _ _ [(cO11_i1r1i10r1i2r5i2r12i3r4i2 h0 m_thrown a_tape m_taped m_size m_at m_end m_token m_whole m_nameSize m_fault m_place m_trouble a_letters m_failed m_hasHouse a_r a_fresh a_st a_undone a_kept m_undos m_images a_from a_begin a_motor a_change a_startFrame a_changeFrame a_lostAt a_blackAt a_slips a_leftArc a_died a_arcs m_bestSum m_nearest m_nearestTown a_there a_backAt a_sorted a_parts m_seed1 m_darkNow), (cAI g a_r 311 d_r), (cAI g a_st 44 d_st), (cAI g a_from 8 fa_7), (cAI g a_begin 8 d_begin), (cAI g a_motor 8 d_motor), (cAI g a_change 8 d_change), (cAI g a_startFrame 8 d_startFrame), (cAI g a_changeFrame 8 d_changeFrame), (cAI g a_lostAt 8 d_lostAt), (cAI g a_blackAt 8 d_blackAt), (cAI g a_slips 8 d_slips)] _ _ _ => hg _) (fun fa_7 => ?_)
  refine k_aload_n X dX11_layNight_17 1 rfl ?_
  refine k_get (ci := 11) X inlX11 rfl 23 (by decide) dX11_layNight_18 mw176 0 rfl rfl ?_
  refine k_iconst (v := 0) X dX11_layNight_21 (by decide) ?_
  refine k_iconst (v := 0) X dX11_layNight_22 (by decide) ?_
  refine k_iast [(cO11_i1r1i10r1i2r5i2r12i3r4i2 h0 m_thrown a_tape m_taped m_size m_at m_end m_token m_whole m_nameSize m_fault m_place m_trouble a_letters m_failed m_hasHouse a_r a_fresh a_st a_undone a_kept m_undos m_images a_from a_begin a_motor a_change a_startFrame a_changeFrame a_lostAt a_blackAt a_slips a_leftArc a_died a_arcs m_bestSum m_nearest m_nearestTown a_there a_backAt a_sorted a_parts m_seed1 m_darkNow), (cAI g a_r 311 d_r), (cAI g a_st 44 d_st), (cAI g a_from 8 fa_7), (cAI g a_begin 8 (upd d_begin (0 : Int32).toNatClampNeg 0)), (cAI g a_motor 8 d_motor), (cAI g a_change 8 d_change), (cAI g a_startFrame 8 d_startFrame), (cAI g a_changeFrame 8 d_changeFrame), (cAI g a_lostAt 8 d_lostAt), (cAI g a_blackAt 8 d_blackAt), (cAI g a_slips 8 d_slips)] X dX11_layNight_23 4 rfl (by unfold vp_in; decide) rfl ?_
  refine (fun hg : ∀ fa_8 : Nat → Int32, Wk p l e _ s m args below meth c _ A g _ _ _ [(cO11_i1r1i10r1i2r5i2r12i3r4i2 h0 m_thrown a_tape m_taped m_size m_at m_end m_token m_whole m_nameSize m_fault m_place m_trouble a_letters m_failed m_hasHouse a_r a_fresh a_st a_undone a_kept m_undos m_images a_from a_begin a_motor a_change a_startFrame a_changeFrame a_lostAt a_blackAt a_slips a_leftArc a_died a_arcs m_bestSum m_nearest m_nearestTown a_there a_backAt a_sorted a_parts m_seed1 m_darkNow), (cAI g a_r 311 d_r), (cAI g a_st 44 d_st), (cAI g a_from 8 fa_7), (cAI g a_begin 8 fa_8), (cAI g a_motor 8 d_motor), (cAI g a_change 8 d_change), (cAI g a_startFrame 8 d_startFrame), (cAI g a_changeFrame 8 d_changeFrame), (cAI g a_lostAt 8 d_lostAt), (cAI g a_blackAt 8 d_blackAt), (cAI g a_slips 8 d_slips)] _ _ _ => hg _) (fun fa_8 => ?_)
  refine k_aload_n X dX11_layNight_24 1 rfl ?_
  refine k_get (ci := 11) X inlX11 rfl 24 (by decide) dX11_layNight_25 mw177 0 rfl rfl ?_
  refine k_iconst (v := 0) X dX11_layNight_28 (by decide) ?_
  refine k_iconst (v := 0) X dX11_layNight_29 (by decide) ?_
  refine k_iast [(cO11_i1r1i10r1i2r5i2r12i3r4i2 h0 m_thrown a_tape m_taped m_size m_at m_end m_token m_whole m_nameSize m_fault m_place m_trouble a_letters m_failed m_hasHouse a_r a_fresh a_st a_undone a_kept m_undos m_images a_from a_begin a_motor a_change a_startFrame a_changeFrame a_lostAt a_blackAt a_slips a_leftArc a_died a_arcs m_bestSum m_nearest m_nearestTown a_there a_backAt a_sorted a_parts m_seed1 m_darkNow), (cAI g a_r 311 d_r), (cAI g a_st 44 d_st), (cAI g a_from 8 fa_7), (cAI g a_begin 8 fa_8), (cAI g a_motor 8 (upd d_motor (0 : Int32).toNatClampNeg 0)), (cAI g a_change 8 d_change), (cAI g a_startFrame 8 d_startFrame), (cAI g a_changeFrame 8 d_changeFrame), (cAI g a_lostAt 8 d_lostAt), (cAI g a_blackAt 8 d_blackAt), (cAI g a_slips 8 d_slips)] X dX11_layNight_30 5 rfl (by unfold vp_in; decide) rfl ?_
  refine (fun hg : ∀ fa_9 : Nat → Int32, Wk p l e _ s m args below meth c _ A g _ _ _ [(cO11_i1r1i10r1i2r5i2r12i3r4i2 h0 m_thrown a_tape m_taped m_size m_at m_end m_token m_whole m_nameSize m_fault m_place m_trouble a_letters m_failed m_hasHouse a_r a_fresh a_st a_undone a_kept m_undos m_images a_from a_begin a_motor a_change a_startFrame a_changeFrame a_lostAt a_blackAt a_slips a_leftArc a_died a_arcs m_bestSum m_nearest m_nearestTown a_there a_backAt a_sorted a_parts m_seed1 m_darkNow), (cAI g a_r 311 d_r), (cAI g a_st 44 d_st), (cAI g a_from 8 fa_7), (cAI g a_begin 8 fa_8), (cAI g a_motor 8 fa_9), (cAI g a_change 8 d_change), (cAI g a_startFrame 8 d_startFrame), (cAI g a_changeFrame 8 d_changeFrame), (cAI g a_lostAt 8 d_lostAt), (cAI g a_blackAt 8 d_blackAt), (cAI g a_slips 8 d_slips)] _ _ _ => hg _) (fun fa_9 => ?_)
  refine k_aload_n X dX11_layNight_31 1 rfl ?_
  refine k_get (ci := 11) X inlX11 rfl 28 (by decide) dX11_layNight_32 mw181 0 rfl rfl ?_
  refine k_iconst (v := 0) X dX11_layNight_35 (by decide) ?_
  refine k_iconst (v := 0) X dX11_layNight_36 (by decide) ?_
  refine k_iast [(cO11_i1r1i10r1i2r5i2r12i3r4i2 h0 m_thrown a_tape m_taped m_size m_at m_end m_token m_whole m_nameSize m_fault m_place m_trouble a_letters m_failed m_hasHouse a_r a_fresh a_st a_undone a_kept m_undos m_images a_from a_begin a_motor a_change a_startFrame a_changeFrame a_lostAt a_blackAt a_slips a_leftArc a_died a_arcs m_bestSum m_nearest m_nearestTown a_there a_backAt a_sorted a_parts m_seed1 m_darkNow), (cAI g a_r 311 d_r), (cAI g a_st 44 d_st), (cAI g a_from 8 fa_7), (cAI g a_begin 8 fa_8), (cAI g a_motor 8 fa_9), (cAI g a_change 8 d_change), (cAI g a_startFrame 8 d_startFrame), (cAI g a_changeFrame 8 d_changeFrame), (cAI g a_lostAt 8 (upd d_lostAt (0 : Int32).toNatClampNeg 0)), (cAI g a_blackAt 8 d_blackAt), (cAI g a_slips 8 d_slips)] X dX11_layNight_37 9 rfl (by unfold vp_in; decide) rfl ?_
  refine (fun hg : ∀ fa_10 : Nat → Int32, Wk p l e _ s m args below meth c _ A g _ _ _ [(cO11_i1r1i10r1i2r5i2r12i3r4i2 h0 m_thrown a_tape m_taped m_size m_at m_end m_token m_whole m_nameSize m_fault m_place m_trouble a_letters m_failed m_hasHouse a_r a_fresh a_st a_undone a_kept m_undos m_images a_from a_begin a_motor a_change a_startFrame a_changeFrame a_lostAt a_blackAt a_slips a_leftArc a_died a_arcs m_bestSum m_nearest m_nearestTown a_there a_backAt a_sorted a_parts m_seed1 m_darkNow), (cAI g a_r 311 d_r), (cAI g a_st 44 d_st), (cAI g a_from 8 fa_7), (cAI g a_begin 8 fa_8), (cAI g a_motor 8 fa_9), (cAI g a_change 8 d_change), (cAI g a_startFrame 8 d_startFrame), (cAI g a_changeFrame 8 d_changeFrame), (cAI g a_lostAt 8 fa_10), (cAI g a_blackAt 8 d_blackAt), (cAI g a_slips 8 d_slips)] _ _ _ => hg _) (fun fa_10 => ?_)
  refine k_aload_n X dX11_layNight_38 1 rfl ?_
  refine k_get (ci := 11) X inlX11 rfl 29 (by decide) dX11_layNight_39 mw182 0 rfl rfl ?_
  refine k_iconst (v := 0) X dX11_layNight_42 (by decide) ?_
  refine k_iconst (v := 0) X dX11_layNight_43 (by decide) ?_
  refine k_iast [(cO11_i1r1i10r1i2r5i2r12i3r4i2 h0 m_thrown a_tape m_taped m_size m_at m_end m_token m_whole m_nameSize m_fault m_place m_trouble a_letters m_failed m_hasHouse a_r a_fresh a_st a_undone a_kept m_undos m_images a_from a_begin a_motor a_change a_startFrame a_changeFrame a_lostAt a_blackAt a_slips a_leftArc a_died a_arcs m_bestSum m_nearest m_nearestTown a_there a_backAt a_sorted a_parts m_seed1 m_darkNow), (cAI g a_r 311 d_r), (cAI g a_st 44 d_st), (cAI g a_from 8 fa_7), (cAI g a_begin 8 fa_8), (cAI g a_motor 8 fa_9), (cAI g a_change 8 d_change), (cAI g a_startFrame 8 d_startFrame), (cAI g a_changeFrame 8 d_changeFrame), (cAI g a_lostAt 8 fa_10), (cAI g a_blackAt 8 (upd d_blackAt (0 : Int32).toNatClampNeg 0)), (cAI g a_slips 8 d_slips)] X dX11_layNight_44 10 rfl (by unfold vp_in; decide) rfl ?_
  refine (fun hg : ∀ fa_11 : Nat → Int32, Wk p l e _ s m args below meth c _ A g _ _ _ [(cO11_i1r1i10r1i2r5i2r12i3r4i2 h0 m_thrown a_tape m_taped m_size m_at m_end m_token m_whole m_nameSize m_fault m_place m_trouble a_letters m_failed m_hasHouse a_r a_fresh a_st a_undone a_kept m_undos m_images a_from a_begin a_motor a_change a_startFrame a_changeFrame a_lostAt a_blackAt a_slips a_leftArc a_died a_arcs m_bestSum m_nearest m_nearestTown a_there a_backAt a_sorted a_parts m_seed1 m_darkNow), (cAI g a_r 311 d_r), (cAI g a_st 44 d_st), (cAI g a_from 8 fa_7), (cAI g a_begin 8 fa_8), (cAI g a_motor 8 fa_9), (cAI g a_change 8 d_change), (cAI g a_startFrame 8 d_startFrame), (cAI g a_changeFrame 8 d_changeFrame), (cAI g a_lostAt 8 fa_10), (cAI g a_blackAt 8 fa_11), (cAI g a_slips 8 d_slips)] _ _ _ => hg _) (fun fa_11 => ?_)
  refine k_iconst (v := 0) X dX11_layNight_45 (by decide) ?_
  refine k_istore_n [(3, .int 0), (2, .int z_4), (0, .ref h0), (1, .int p0)] X dX11_layNight_46 (by decide) rfl ?_
  refine (fun hL : ∀ (nn_22 : Nat) (uf_12 : Nat → Int32) (uf_13 : Nat → Int32) (uf_14 : Nat → Int32) (uf_15 : Nat → Int32) (uf_16 : Nat → Int32) (uf_17 : Nat → Int32) (uf_18 : Nat → Int32) (uf_19 : Nat → Int32) (u_20 : Int32), (z_4.toInt + 1 - u_20.toInt).toNat = nn_22 → (IV u_20 0 8) → Wk p l e _ s m args below meth c _ A g _ _ _ [(cO11_i1r1i10r1i2r5i2r12i3r4i2 h0 m_thrown a_tape m_taped m_size m_at m_end m_token m_whole m_nameSize m_fault m_place m_trouble a_letters m_failed m_hasHouse a_r a_fresh a_st a_undone a_kept m_undos m_images a_from a_begin a_motor a_change a_startFrame a_changeFrame a_lostAt a_blackAt a_slips a_leftArc a_died a_arcs m_bestSum m_nearest m_nearestTown a_there a_backAt a_sorted a_parts m_seed1 m_darkNow), (cAI g a_r 311 d_r), (cAI g a_st 44 d_st), (cAI g a_from 8 uf_16), (cAI g a_begin 8 uf_12), (cAI g a_motor 8 uf_18), (cAI g a_change 8 uf_14), (cAI g a_startFrame 8 uf_19), (cAI g a_changeFrame 8 uf_15), (cAI g a_lostAt 8 uf_17), (cAI g a_blackAt 8 uf_13), (cAI g a_slips 8 d_slips)] [(3, .int u_20), (2, .int z_4), (0, .ref h0), (1, .int p0)] 47 [] => hL _ fa_8 fa_11 d_change d_changeFrame fa_7 fa_10 fa_9 d_startFrame 0 rfl (iv_w (show IV 0 0 0 from (by decide)) (by decide) (by decide))) ?_
  refine fun nn_22 => Nat.strongRecOn nn_22 (fun nn_22 ih_24 => ?_)
  intro uf_12 uf_13 uf_14 uf_15 uf_16 uf_17 uf_18 uf_19 u_20 hm_23 hv_21
  refine k_iload_n X dX11_layNight_47 0 rfl ?_
  refine k_iload_n X dX11_layNight_48 1 rfl ?_
  refine k_ic_gt 302 X dX11_layNight_49 (by decide) (fun h_25 => ?_) (fun h_25 => ?_)
  · skip
    have j_26 : z_4.toInt < u_20.toInt := iv_lt h_25
    exact k_vret X hr dX11_layNight_302 (Nat.le_of_ble_eq_true rfl) (Nat.le_of_ble_eq_true rfl) [0, 1, 2, 3, 4, 5, 6, 7, 8, 9, 10, 11] (by decide) rfl rfl ⟨uf_12, uf_13, uf_14, uf_15, uf_16, uf_17, uf_18, uf_19, rfl⟩
  · skip
    have j_27 : u_20.toInt ≤ z_4.toInt := iv_nlt h_25
    have iv_28 : IV u_20 0 7 := iv_leL (iv_nlt h_25) hv_21 iv_6 (by decide)
    have iv_29 : IV z_4 0 7 := iv_leR (iv_nlt h_25) hv_21 iv_6 (by decide)
    have iv_30 : IV z_1 1 8 := by have := iv_3; have := iv_29; rw [IV]; omega
    refine k_aload_n X dX11_layNight_52 2 rfl ?_
    refine k_iload_n X dX11_layNight_53 0 rfl ?_
    refine k_callVI (n := 1) (As := [.int u_20]) (st := []) X [(cO11_i1r1i10r1i2r5i2r12i3r4i2 h0 m_thrown a_tape m_taped m_size m_at m_end m_token m_whole m_nameSize m_fault m_place m_trouble a_letters m_failed m_hasHouse a_r a_fresh a_st a_undone a_kept m_undos m_images a_from a_begin a_motor a_change a_startFrame a_changeFrame a_lostAt a_blackAt a_slips a_leftArc a_died a_arcs m_bestSum m_nearest m_nearestTown a_there a_backAt a_sorted a_parts m_seed1 m_darkNow), (cAI g a_r 311 d_r), (cAI g a_st 44 d_st)] [(cAI g a_from 8 uf_16), (cAI g a_begin 8 uf_12), (cAI g a_motor 8 uf_18), (cAI g a_change 8 uf_14), (cAI g a_startFrame 8 uf_19), (cAI g a_changeFrame 8 uf_15), (cAI g a_lostAt 8 uf_17), (cAI g a_blackAt 8 uf_13), (cAI g a_slips 8 d_slips)] [0, 1, 2] [3, 4, 5, 6, 7, 8, 9, 10, 11] (m_framesAt l g h0 u_20 m_thrown a_tape m_taped m_size m_at m_end m_token m_whole m_nameSize m_fault m_place m_trouble a_letters m_failed m_hasHouse a_r a_fresh a_st a_undone a_kept m_undos m_images a_from a_begin a_motor a_change a_startFrame a_changeFrame a_lostAt a_blackAt a_slips a_leftArc a_died a_arcs m_bestSum m_nearest m_nearestTown a_there a_backAt a_sorted a_parts m_seed1 m_darkNow d_r d_st (iv_w iv_28 (by decide) (by decide)) hp_d_r) dX11_layNight_54 mw823 mw824 mw825 mw5 mw826 rfl 11 rfl rfl 0 _ rfl yk_yX11_framesAt_1 rfl (Nat.le_of_ble_eq_true rfl) (Nat.le_of_ble_eq_true rfl) (Nat.le_of_ble_eq_true rfl) (Nat.le_of_ble_eq_true rfl) (Nat.le_of_ble_eq_true rfl) rfl rfl (by decide +kernel) rfl (by decide +kernel) (by decide +kernel) ?_
    rintro r_31 w rfl
    refine k_ws [(cAI g a_from 8 uf_16), (cAI g a_begin 8 uf_12), (cAI g a_motor 8 uf_18), (cAI g a_change 8 uf_14), (cAI g a_startFrame 8 uf_19), (cAI g a_changeFrame 8 uf_15), (cAI g a_lostAt 8 uf_17), (cAI g a_blackAt 8 uf_13), (cAI g a_slips 8 d_slips), (cO11_i1r1i10r1i2r5i2r12i3r4i2 h0 m_thrown a_tape m_taped m_size m_at m_end m_token m_whole m_nameSize m_fault m_place m_trouble a_letters m_failed m_hasHouse a_r a_fresh a_st a_undone a_kept m_undos m_images a_from a_begin a_motor a_change a_startFrame a_changeFrame a_lostAt a_blackAt a_slips a_leftArc a_died a_arcs m_bestSum m_nearest m_nearestTown a_there a_backAt a_sorted a_parts m_seed1 m_darkNow), (cAI g a_r 311 d_r), (cAI g a_st 44 d_st)] rfl ?_
    refine k_istore [(4, .int r_31), (3, .int u_20), (2, .int z_4), (0, .ref h0), (1, .int p0)] X dX11_layNight_57 (by decide) rfl ?_
    refine k_aload_n X dX11_layNight_59 3 rfl ?_
    refine k_get (ci := 11) X inlX11 rfl 26 (by decide) dX11_layNight_60 mw179 9 rfl rfl ?_
    refine k_iload_n X dX11_layNight_63 1 rfl ?_
    refine k_bipush (v := -2) X dX11_layNight_64 (by decide) ?_
    refine k_iast [(cAI g a_from 8 uf_16), (cAI g a_begin 8 uf_12), (cAI g a_motor 8 uf_18), (cAI g a_change 8 uf_14), (cAI g a_startFrame 8 (upd uf_19 (u_20 : Int32).toNatClampNeg (-2))), (cAI g a_changeFrame 8 uf_15), (cAI g a_lostAt 8 uf_17), (cAI g a_blackAt 8 uf_13), (cAI g a_slips 8 d_slips), (cO11_i1r1i10r1i2r5i2r12i3r4i2 h0 m_thrown a_tape m_taped m_size m_at m_end m_token m_whole m_nameSize m_fault m_place m_trouble a_letters m_failed m_hasHouse a_r a_fresh a_st a_undone a_kept m_undos m_images a_from a_begin a_motor a_change a_startFrame a_changeFrame a_lostAt a_blackAt a_slips a_leftArc a_died a_arcs m_bestSum m_nearest m_nearestTown a_there a_backAt a_sorted a_parts m_seed1 m_darkNow), (cAI g a_r 311 d_r), (cAI g a_st 44 d_st)] X dX11_layNight_66 4 rfl (iv_in iv_28 (by decide) (by decide)) rfl ?_
    refine (fun hg : ∀ fa_32 : Nat → Int32, Wk p l e _ s m args below meth c _ A g _ _ _ [(cAI g a_from 8 uf_16), (cAI g a_begin 8 uf_12), (cAI g a_motor 8 uf_18), (cAI g a_change 8 uf_14), (cAI g a_startFrame 8 fa_32), (cAI g a_changeFrame 8 uf_15), (cAI g a_lostAt 8 uf_17), (cAI g a_blackAt 8 uf_13), (cAI g a_slips 8 d_slips), (cO11_i1r1i10r1i2r5i2r12i3r4i2 h0 m_thrown a_tape m_taped m_size m_at m_end m_token m_whole m_nameSize m_fault m_place m_trouble a_letters m_failed m_hasHouse a_r a_fresh a_st a_undone a_kept m_undos m_images a_from a_begin a_motor a_change a_startFrame a_changeFrame a_lostAt a_blackAt a_slips a_leftArc a_died a_arcs m_bestSum m_nearest m_nearestTown a_there a_backAt a_sorted a_parts m_seed1 m_darkNow), (cAI g a_r 311 d_r), (cAI g a_st 44 d_st)] _ _ _ => hg _) (fun fa_32 => ?_)
    refine k_aload_n X dX11_layNight_67 3 rfl ?_
    refine k_iload_n X dX11_layNight_68 1 rfl ?_
    refine k_callVI (n := 1) (As := [.int u_20]) (st := []) X [(cO11_i1r1i10r1i2r5i2r12i3r4i2 h0 m_thrown a_tape m_taped m_size m_at m_end m_token m_whole m_nameSize m_fault m_place m_trouble a_letters m_failed m_hasHouse a_r a_fresh a_st a_undone a_kept m_undos m_images a_from a_begin a_motor a_change a_startFrame a_changeFrame a_lostAt a_blackAt a_slips a_leftArc a_died a_arcs m_bestSum m_nearest m_nearestTown a_there a_backAt a_sorted a_parts m_seed1 m_darkNow), (cAI g a_r 311 d_r), (cAI g a_st 44 d_st), (cAI g a_from 8 uf_16)] [(cAI g a_begin 8 uf_12), (cAI g a_motor 8 uf_18), (cAI g a_change 8 uf_14), (cAI g a_startFrame 8 fa_32), (cAI g a_changeFrame 8 uf_15), (cAI g a_lostAt 8 uf_17), (cAI g a_blackAt 8 uf_13), (cAI g a_slips 8 d_slips)] [9, 10, 11, 0] [1, 2, 3, 4, 5, 6, 7, 8] (m_isGone l g h0 u_20 m_thrown a_tape m_taped m_size m_at m_end m_token m_whole m_nameSize m_fault m_place m_trouble a_letters m_failed m_hasHouse a_r a_fresh a_st a_undone a_kept m_undos m_images a_from a_begin a_motor a_change a_startFrame a_changeFrame a_lostAt a_blackAt a_slips a_leftArc a_died a_arcs m_bestSum m_nearest m_nearestTown a_there a_backAt a_sorted a_parts m_seed1 m_darkNow d_r d_st uf_16 (iv_w iv_28 (by decide) (by decide)) hp_d_r) dX11_layNight_69 mw827 mw828 mw829 mw5 mw830 rfl 11 rfl rfl 0 _ rfl yk_yX11_isGone_1 rfl (Nat.le_of_ble_eq_true rfl) (Nat.le_of_ble_eq_true rfl) (Nat.le_of_ble_eq_true rfl) (Nat.le_of_ble_eq_true rfl) (Nat.le_of_ble_eq_true rfl) rfl rfl (by decide +kernel) rfl (by decide +kernel) (by decide +kernel) ?_
    rintro r_33 w ⟨iv_34, rfl⟩
    refine k_ws [(cAI g a_begin 8 uf_12), (cAI g a_motor 8 uf_18), (cAI g a_change 8 uf_14), (cAI g a_startFrame 8 fa_32), (cAI g a_changeFrame 8 uf_15), (cAI g a_lostAt 8 uf_17), (cAI g a_blackAt 8 uf_13), (cAI g a_slips 8 d_slips), (cO11_i1r1i10r1i2r5i2r12i3r4i2 h0 m_thrown a_tape m_taped m_size m_at m_end m_token m_whole m_nameSize m_fault m_place m_trouble a_letters m_failed m_hasHouse a_r a_fresh a_st a_undone a_kept m_undos m_images a_from a_begin a_motor a_change a_startFrame a_changeFrame a_lostAt a_blackAt a_slips a_leftArc a_died a_arcs m_bestSum m_nearest m_nearestTown a_there a_backAt a_sorted a_parts m_seed1 m_darkNow), (cAI g a_r 311 d_r), (cAI g a_st 44 d_st), (cAI g a_from 8 uf_16)] rfl ?_
    refine k_if_eq 129 X dX11_layNight_72 (by decide) (fun h_35 => ?_) (fun h_35 => ?_)
    · skip
      have iv_36 : IV r_33 0 0 := iv_meet iv_34 (iv_e h_35 (show IV 0 0 0 from (by decide))) (by decide) (by decide)
      refine k_aload_n X dX11_layNight_129 3 rfl ?_
      refine k_get (ci := 11) X inlX11 rfl 27 (by decide) dX11_layNight_130 mw180 8 rfl rfl ?_
      refine k_iload_n X dX11_layNight_133 1 rfl ?_
      refine k_iload X dX11_layNight_134 0 rfl ?_
      refine k_iast [(cAI g a_begin 8 uf_12), (cAI g a_motor 8 uf_18), (cAI g a_change 8 uf_14), (cAI g a_startFrame 8 fa_32), (cAI g a_changeFrame 8 (upd uf_15 (u_20 : Int32).toNatClampNeg r_31)), (cAI g a_lostAt 8 uf_17), (cAI g a_blackAt 8 uf_13), (cAI g a_slips 8 d_slips), (cO11_i1r1i10r1i2r5i2r12i3r4i2 h0 m_thrown a_tape m_taped m_size m_at m_end m_token m_whole m_nameSize m_fault m_place m_trouble a_letters m_failed m_hasHouse a_r a_fresh a_st a_undone a_kept m_undos m_images a_from a_begin a_motor a_change a_startFrame a_changeFrame a_lostAt a_blackAt a_slips a_leftArc a_died a_arcs m_bestSum m_nearest m_nearestTown a_there a_backAt a_sorted a_parts m_seed1 m_darkNow), (cAI g a_r 311 d_r), (cAI g a_st 44 d_st), (cAI g a_from 8 uf_16)] X dX11_layNight_136 4 rfl (iv_in iv_28 (by decide) (by decide)) rfl ?_
      refine (fun hg : ∀ fa_37 : Nat → Int32, Wk p l e _ s m args below meth c _ A g _ _ _ [(cAI g a_begin 8 uf_12), (cAI g a_motor 8 uf_18), (cAI g a_change 8 uf_14), (cAI g a_startFrame 8 fa_32), (cAI g a_changeFrame 8 fa_37), (cAI g a_lostAt 8 uf_17), (cAI g a_blackAt 8 uf_13), (cAI g a_slips 8 d_slips), (cO11_i1r1i10r1i2r5i2r12i3r4i2 h0 m_thrown a_tape m_taped m_size m_at m_end m_token m_whole m_nameSize m_fault m_place m_trouble a_letters m_failed m_hasHouse a_r a_fresh a_st a_undone a_kept m_undos m_images a_from a_begin a_motor a_change a_startFrame a_changeFrame a_lostAt a_blackAt a_slips a_leftArc a_died a_arcs m_bestSum m_nearest m_nearestTown a_there a_backAt a_sorted a_parts m_seed1 m_darkNow), (cAI g a_r 311 d_r), (cAI g a_st 44 d_st), (cAI g a_from 8 uf_16)] _ _ _ => hg _) (fun fa_37 => ?_)
      refine k_iload_n X dX11_layNight_137 1 rfl ?_
      refine k_iload_n X dX11_layNight_138 2 rfl ?_
      refine k_ic_ge 201 X dX11_layNight_139 (by decide) (fun h_38 => ?_) (fun h_38 => ?_)
      · skip
        have j_39 : z_4.toInt ≤ u_20.toInt := iv_le h_38
        refine k_aload_n X dX11_layNight_201 3 rfl ?_
        refine k_get (ci := 11) X inlX11 rfl 25 (by decide) dX11_layNight_202 mw178 8 rfl rfl ?_
        refine k_iload_n X dX11_layNight_205 1 rfl ?_
        refine k_aload_n X dX11_layNight_206 3 rfl ?_
        refine k_get (ci := 11) X inlX11 rfl 23 (by decide) dX11_layNight_207 mw176 8 rfl rfl ?_
        refine k_iload_n X dX11_layNight_210 1 rfl ?_
        refine k_iald X dX11_layNight_211 0 rfl (iv_in iv_28 (by decide) (by decide)) ?_
        refine k_nm (fun z_40 ez_40 => ?_)
        refine k_aload_n X dX11_layNight_212 3 rfl ?_
        refine k_get (ci := 11) X inlX11 rfl 27 (by decide) dX11_layNight_213 mw180 8 rfl rfl ?_
        refine k_iload_n X dX11_layNight_216 1 rfl ?_
        refine k_iald X dX11_layNight_217 4 rfl (iv_in iv_28 (by decide) (by decide)) ?_
        refine k_nm (fun z_41 ez_41 => ?_)
        refine k_iadd X dX11_layNight_218 ?_
        refine k_nm (fun z_42 ez_42 => ?_)
        refine k_aload_n X dX11_layNight_219 3 rfl ?_
        refine k_get (ci := 11) X inlX11 rfl 22 (by decide) dX11_layNight_220 mw175 8 rfl rfl ?_
        refine k_iload_n X dX11_layNight_223 1 rfl ?_
        refine k_iald X dX11_layNight_224 11 rfl (iv_in iv_28 (by decide) (by decide)) ?_
        refine k_nm (fun z_44 ez_44 => ?_)
        refine k_isub X dX11_layNight_225 ?_
        refine k_nm (fun z_45 ez_45 => ?_)
        refine k_iast [(cAI g a_begin 8 uf_12), (cAI g a_motor 8 uf_18), (cAI g a_change 8 (upd uf_14 (u_20 : Int32).toNatClampNeg z_45)), (cAI g a_startFrame 8 fa_32), (cAI g a_changeFrame 8 fa_37), (cAI g a_lostAt 8 uf_17), (cAI g a_blackAt 8 uf_13), (cAI g a_slips 8 d_slips), (cO11_i1r1i10r1i2r5i2r12i3r4i2 h0 m_thrown a_tape m_taped m_size m_at m_end m_token m_whole m_nameSize m_fault m_place m_trouble a_letters m_failed m_hasHouse a_r a_fresh a_st a_undone a_kept m_undos m_images a_from a_begin a_motor a_change a_startFrame a_changeFrame a_lostAt a_blackAt a_slips a_leftArc a_died a_arcs m_bestSum m_nearest m_nearestTown a_there a_backAt a_sorted a_parts m_seed1 m_darkNow), (cAI g a_r 311 d_r), (cAI g a_st 44 d_st), (cAI g a_from 8 uf_16)] X dX11_layNight_226 2 rfl (iv_in iv_28 (by decide) (by decide)) rfl ?_
        refine (fun hg : ∀ fa_47 : Nat → Int32, Wk p l e _ s m args below meth c _ A g _ _ _ [(cAI g a_begin 8 uf_12), (cAI g a_motor 8 uf_18), (cAI g a_change 8 fa_47), (cAI g a_startFrame 8 fa_32), (cAI g a_changeFrame 8 fa_37), (cAI g a_lostAt 8 uf_17), (cAI g a_blackAt 8 uf_13), (cAI g a_slips 8 d_slips), (cO11_i1r1i10r1i2r5i2r12i3r4i2 h0 m_thrown a_tape m_taped m_size m_at m_end m_token m_whole m_nameSize m_fault m_place m_trouble a_letters m_failed m_hasHouse a_r a_fresh a_st a_undone a_kept m_undos m_images a_from a_begin a_motor a_change a_startFrame a_changeFrame a_lostAt a_blackAt a_slips a_leftArc a_died a_arcs m_bestSum m_nearest m_nearestTown a_there a_backAt a_sorted a_parts m_seed1 m_darkNow), (cAI g a_r 311 d_r), (cAI g a_st 44 d_st), (cAI g a_from 8 uf_16)] _ _ _ => hg _) (fun fa_47 => ?_)
        refine k_iload_n X dX11_layNight_227 1 rfl ?_
        refine k_iload_n X dX11_layNight_228 2 rfl ?_
        refine k_ic_ge 296 X dX11_layNight_229 (by decide) (fun h_48 => ?_) (fun h_48 => ?_)
        · skip
          have j_49 : z_4.toInt ≤ u_20.toInt := iv_le h_48
          obtain ⟨z_50, ez_50⟩ : ∃ y : Int32, u_20 + Int32.ofInt 1 = y := ⟨_, rfl⟩
          refine k_iinc z_50 [(3, .int z_50), (4, .int r_31), (2, .int z_4), (0, .ref h0), (1, .int p0)] 1 X dX11_layNight_296 rfl ez_50 (by decide) rfl ?_
          have i_51 : z_50.toInt = u_20.toInt + 1 := in_inc ez_50 (by decide) iv_28 (by decide) (by decide)
          have iv_52 : IV z_50 1 8 := iz1 i_51 iv_28 (by decide) (by decide)
          refine k_goto 47 X dX11_layNight_299 (by decide) ?_
          refine k_lv [(3, .int z_50), (2, .int z_4), (0, .ref h0), (1, .int p0)] [0, 2, 3, 4] rfl ?_
          refine k_sub [(cO11_i1r1i10r1i2r5i2r12i3r4i2 h0 m_thrown a_tape m_taped m_size m_at m_end m_token m_whole m_nameSize m_fault m_place m_trouble a_letters m_failed m_hasHouse a_r a_fresh a_st a_undone a_kept m_undos m_images a_from a_begin a_motor a_change a_startFrame a_changeFrame a_lostAt a_blackAt a_slips a_leftArc a_died a_arcs m_bestSum m_nearest m_nearestTown a_there a_backAt a_sorted a_parts m_seed1 m_darkNow), (cAI g a_r 311 d_r), (cAI g a_st 44 d_st), (cAI g a_from 8 uf_16), (cAI g a_begin 8 uf_12), (cAI g a_motor 8 uf_18), (cAI g a_change 8 fa_47), (cAI g a_startFrame 8 fa_32), (cAI g a_changeFrame 8 fa_37), (cAI g a_lostAt 8 uf_17), (cAI g a_blackAt 8 uf_13), (cAI g a_slips 8 d_slips)] [8, 9, 10, 11, 0, 1, 2, 3, 4, 5, 6, 7] rfl (by decide) rfl ?_
          exact ih_24 _ (by omega) uf_12 uf_13 fa_47 fa_37 uf_16 uf_17 uf_18 fa_32 z_50 rfl (iv_w iv_52 (by decide) (by decide))
        · skip
          have j_53 : u_20.toInt < z_4.toInt := iv_nle h_48
          have iv_54 : IV u_20 0 6 := iv_ltL (iv_nle h_48) iv_28 iv_29 (by decide)
          have iv_55 : IV z_4 1 7 := iv_ltR (iv_nle h_48) iv_28 iv_29 (by decide)
          have iv_56 : IV z_1 2 8 := by have := iv_30; have := iv_55; rw [IV]; omega
          refine k_aload_n X dX11_layNight_232 3 rfl ?_
          refine k_iload_n X dX11_layNight_233 1 rfl ?_
          refine k_aload_n X dX11_layNight_234 3 rfl ?_
          refine k_get (ci := 11) X inlX11 rfl 23 (by decide) dX11_layNight_235 mw176 8 rfl rfl ?_
          refine k_iload_n X dX11_layNight_238 1 rfl ?_
          refine k_iald X dX11_layNight_239 0 rfl (iv_in iv_54 (by decide) (by decide)) ?_
          refine k_to z_40 ez_40.symm ?_
          refine k_aload_n X dX11_layNight_240 3 rfl ?_
          refine k_get (ci := 11) X inlX11 rfl 26 (by decide) dX11_layNight_241 mw179 8 rfl rfl ?_
          refine k_iload_n X dX11_layNight_244 1 rfl ?_
          refine k_iald X dX11_layNight_245 3 rfl (iv_in iv_54 (by decide) (by decide)) ?_
          refine k_nm (fun z_57 ez_57 => ?_)
          refine k_iadd X dX11_layNight_246 ?_
          refine k_nm (fun z_58 ez_58 => ?_)
          refine k_aload_n X dX11_layNight_247 3 rfl ?_
          refine k_get (ci := 11) X inlX11 rfl 22 (by decide) dX11_layNight_248 mw175 8 rfl rfl ?_
          refine k_iload_n X dX11_layNight_251 1 rfl ?_
          refine k_iald X dX11_layNight_252 11 rfl (iv_in iv_54 (by decide) (by decide)) ?_
          refine k_to z_44 ez_44.symm ?_
          refine k_isub X dX11_layNight_253 ?_
          refine k_nm (fun z_60 ez_60 => ?_)
          refine k_aload_n X dX11_layNight_254 3 rfl ?_
          refine k_get (ci := 11) X inlX11 rfl 25 (by decide) dX11_layNight_255 mw178 8 rfl rfl ?_
          refine k_iload_n X dX11_layNight_258 1 rfl ?_
          refine k_iald X dX11_layNight_259 2 rfl (iv_in iv_54 (by decide) (by decide)) ?_
          refine k_nm (fun z_62 ez_62 => ?_)
          refine k_aload_n X dX11_layNight_260 3 rfl ?_
          refine k_get (ci := 11) X inlX11 rfl 27 (by decide) dX11_layNight_261 mw180 8 rfl rfl ?_
          refine k_iload_n X dX11_layNight_264 1 rfl ?_
          refine k_iald X dX11_layNight_265 4 rfl (iv_in iv_54 (by decide) (by decide)) ?_
          refine k_to z_41 ez_41.symm ?_
          refine k_aload_n X dX11_layNight_266 3 rfl ?_
          refine k_get (ci := 11) X inlX11 rfl 26 (by decide) dX11_layNight_267 mw179 8 rfl rfl ?_
          refine k_iload_n X dX11_layNight_270 1 rfl ?_
          refine k_iald X dX11_layNight_271 3 rfl (iv_in iv_54 (by decide) (by decide)) ?_
          refine k_to z_57 ez_57.symm ?_
          refine k_isub X dX11_layNight_272 ?_
          refine k_nm (fun z_63 ez_63 => ?_)
          refine k_aload_n X dX11_layNight_273 3 rfl ?_
          refine k_get (ci := 11) X inlX11 rfl 15 (by decide) dX11_layNight_274 mw170 8 rfl rfl ?_
          refine k_iconst (v := 1) X dX11_layNight_277 (by decide) ?_
          refine k_iald X dX11_layNight_278 9 rfl (by unfold vp_in; decide) ?_
          refine k_nm (fun z_65 ez_65 => ?_)
          refine k_isub X dX11_layNight_279 ?_
          refine k_nm (fun z_66 ez_66 => ?_)
          refine k_aload_n X dX11_layNight_280 3 rfl ?_
          refine k_get (ci := 11) X inlX11 rfl 17 (by decide) dX11_layNight_281 mw172 8 rfl rfl ?_
          refine k_bipush (v := 34) X dX11_layNight_284 (by decide) ?_
          refine k_iload_n X dX11_layNight_286 1 rfl ?_
          refine k_iadd X dX11_layNight_287 ?_
          refine k_nm (fun z_68 ez_68 => ?_)
          have i_69 : z_68.toInt = 34 + u_20.toInt := in_add ez_68 (show IV 34 34 34 from (by decide)) iv_54 (by decide) (by decide)
          have iv_70 : IV z_68 34 40 := iz2 i_69 iv_54 (by decide) (by decide)
          refine k_iconst (v := 1) X dX11_layNight_288 (by decide) ?_
          refine k_iadd X dX11_layNight_289 ?_
          refine k_nm (fun z_71 ez_71 => ?_)
          have i_72 : z_71.toInt = z_68.toInt + 1 := in_add ez_71 iv_70 (show IV 1 1 1 from (by decide)) (by decide) (by decide)
          have iv_73 : IV z_71 35 41 := iz1 i_72 iv_70 (by decide) (by decide)
          refine k_iald X dX11_layNight_290 10 rfl (iv_in iv_73 (by decide) (by decide)) ?_
          refine k_nm (fun z_74 ez_74 => ?_)
          refine k_isub X dX11_layNight_291 ?_
          refine k_nm (fun z_75 ez_75 => ?_)
          refine k_iconst (v := 0) X dX11_layNight_292 (by decide) ?_
          refine k_callVV (n := 5) (As := [.int u_20, .int z_60, .int z_62, .int z_75, .int 0]) (st := []) X [(cO11_i1r1i10r1i2r5i2r12i3r4i2 h0 m_thrown a_tape m_taped m_size m_at m_end m_token m_whole m_nameSize m_fault m_place m_trouble a_letters m_failed m_hasHouse a_r a_fresh a_st a_undone a_kept m_undos m_images a_from a_begin a_motor a_change a_startFrame a_changeFrame a_lostAt a_blackAt a_slips a_leftArc a_died a_arcs m_bestSum m_nearest m_nearestTown a_there a_backAt a_sorted a_parts m_seed1 m_darkNow), (cAI g a_from 8 uf_16), (cAI g a_begin 8 uf_12), (cAI g a_motor 8 uf_18), (cAI g a_lostAt 8 uf_17), (cAI g a_blackAt 8 uf_13)] [(cAI g a_change 8 fa_47), (cAI g a_startFrame 8 fa_32), (cAI g a_changeFrame 8 fa_37), (cAI g a_slips 8 d_slips), (cAI g a_r 311 d_r), (cAI g a_st 44 d_st)] [8, 11, 0, 1, 5, 6] [2, 3, 4, 7, 9, 10] (m_follows l g h0 u_20 z_60 z_62 z_75 0 m_thrown a_tape m_taped m_size m_at m_end m_token m_whole m_nameSize m_fault m_place m_trouble a_letters m_failed m_hasHouse a_r a_fresh a_st a_undone a_kept m_undos m_images a_from a_begin a_motor a_change a_startFrame a_changeFrame a_lostAt a_blackAt a_slips a_leftArc a_died a_arcs m_bestSum m_nearest m_nearestTown a_there a_backAt a_sorted a_parts m_seed1 m_darkNow uf_16 uf_12 uf_18 uf_17 uf_13 (iv_w iv_54 (by decide) (by decide))) dX11_layNight_293 mw831 mw832 mw833 mw5 mw834 rfl 11 rfl rfl 0 _ rfl yk_yX11_follows_5 rfl (Nat.le_of_ble_eq_true rfl) (Nat.le_of_ble_eq_true rfl) (Nat.le_of_ble_eq_true rfl) (Nat.le_of_ble_eq_true rfl) (Nat.le_of_ble_eq_true rfl) rfl rfl (by decide +kernel) rfl (by decide +kernel) (by decide +kernel) ?_
          rintro w ⟨d_begin2_77, d_blackAt2_78, d_from2_79, d_lostAt2_80, d_motor2_81, rfl⟩
          refine k_ws [(cAI g a_change 8 fa_47), (cAI g a_startFrame 8 fa_32), (cAI g a_changeFrame 8 fa_37), (cAI g a_slips 8 d_slips), (cAI g a_r 311 d_r), (cAI g a_st 44 d_st), (cO11_i1r1i10r1i2r5i2r12i3r4i2 h0 m_thrown a_tape m_taped m_size m_at m_end m_token m_whole m_nameSize m_fault m_place m_trouble a_letters m_failed m_hasHouse a_r a_fresh a_st a_undone a_kept m_undos m_images a_from a_begin a_motor a_change a_startFrame a_changeFrame a_lostAt a_blackAt a_slips a_leftArc a_died a_arcs m_bestSum m_nearest m_nearestTown a_there a_backAt a_sorted a_parts m_seed1 m_darkNow), (cAI g a_from 8 d_from2_79), (cAI g a_begin 8 d_begin2_77), (cAI g a_motor 8 d_motor2_81), (cAI g a_lostAt 8 d_lostAt2_80), (cAI g a_blackAt 8 d_blackAt2_78)] rfl ?_
          obtain ⟨z_83, ez_83⟩ : ∃ y : Int32, u_20 + Int32.ofInt 1 = y := ⟨_, rfl⟩
          refine k_iinc z_83 [(3, .int z_83), (4, .int r_31), (2, .int z_4), (0, .ref h0), (1, .int p0)] 1 X dX11_layNight_296 rfl ez_83 (by decide) rfl ?_
          have i_84 : z_83.toInt = u_20.toInt + 1 := in_inc ez_83 (by decide) iv_54 (by decide) (by decide)
          have iv_85 : IV z_83 1 7 := iz1 i_84 iv_54 (by decide) (by decide)
          refine k_goto 47 X dX11_layNight_299 (by decide) ?_
          refine k_lv [(3, .int z_83), (2, .int z_4), (0, .ref h0), (1, .int p0)] [0, 2, 3, 4] rfl ?_
          refine k_sub [(cO11_i1r1i10r1i2r5i2r12i3r4i2 h0 m_thrown a_tape m_taped m_size m_at m_end m_token m_whole m_nameSize m_fault m_place m_trouble a_letters m_failed m_hasHouse a_r a_fresh a_st a_undone a_kept m_undos m_images a_from a_begin a_motor a_change a_startFrame a_changeFrame a_lostAt a_blackAt a_slips a_leftArc a_died a_arcs m_bestSum m_nearest m_nearestTown a_there a_backAt a_sorted a_parts m_seed1 m_darkNow), (cAI g a_r 311 d_r), (cAI g a_st 44 d_st), (cAI g a_from 8 d_from2_79), (cAI g a_begin 8 d_begin2_77), (cAI g a_motor 8 d_motor2_81), (cAI g a_change 8 fa_47), (cAI g a_startFrame 8 fa_32), (cAI g a_changeFrame 8 fa_37), (cAI g a_lostAt 8 d_lostAt2_80), (cAI g a_blackAt 8 d_blackAt2_78), (cAI g a_slips 8 d_slips)] [6, 4, 5, 7, 8, 9, 0, 1, 2, 10, 11, 3] rfl (by decide) rfl ?_
          exact ih_24 _ (by omega) d_begin2_77 d_blackAt2_78 fa_47 fa_37 d_from2_79 d_lostAt2_80 d_motor2_81 fa_32 z_83 rfl (iv_w iv_85 (by decide) (by decide))
      · skip
        have j_86 : u_20.toInt < z_4.toInt := iv_nle h_38
        have iv_87 : IV u_20 0 6 := iv_ltL (iv_nle h_38) iv_28 iv_29 (by decide)
        have iv_88 : IV z_4 1 7 := iv_ltR (iv_nle h_38) iv_28 iv_29 (by decide)
        have iv_89 : IV z_1 2 8 := by have := iv_30; have := iv_88; rw [IV]; omega
        refine k_aload_n X dX11_layNight_142 3 rfl ?_
        refine k_iload_n X dX11_layNight_143 4 rfl ?_
        refine k_iload_n X dX11_layNight_144 1 rfl ?_
        refine k_callVI (n := 2) (As := [.int p0, .int u_20]) (st := []) X [(cO11_i1r1i10r1i2r5i2r12i3r4i2 h0 m_thrown a_tape m_taped m_size m_at m_end m_token m_whole m_nameSize m_fault m_place m_trouble a_letters m_failed m_hasHouse a_r a_fresh a_st a_undone a_kept m_undos m_images a_from a_begin a_motor a_change a_startFrame a_changeFrame a_lostAt a_blackAt a_slips a_leftArc a_died a_arcs m_bestSum m_nearest m_nearestTown a_there a_backAt a_sorted a_parts m_seed1 m_darkNow), (cAI g a_r 311 d_r), (cAI g a_st 44 d_st)] [(cAI g a_begin 8 uf_12), (cAI g a_motor 8 uf_18), (cAI g a_change 8 uf_14), (cAI g a_startFrame 8 fa_32), (cAI g a_changeFrame 8 fa_37), (cAI g a_lostAt 8 uf_17), (cAI g a_blackAt 8 uf_13), (cAI g a_slips 8 d_slips), (cAI g a_from 8 uf_16)] [8, 9, 10] [0, 1, 2, 3, 4, 5, 6, 7, 11] (m_believesOf l g h0 p0 u_20 m_thrown a_tape m_taped m_size m_at m_end m_token m_whole m_nameSize m_fault m_place m_trouble a_letters m_failed m_hasHouse a_r a_fresh a_st a_undone a_kept m_undos m_images a_from a_begin a_motor a_change a_startFrame a_changeFrame a_lostAt a_blackAt a_slips a_leftArc a_died a_arcs m_bestSum m_nearest m_nearestTown a_there a_backAt a_sorted a_parts m_seed1 m_darkNow d_r d_st (iv_w hv_p0 (by decide) (by decide)) (iv_w iv_87 (by decide) (by decide)) hp_d_r) dX11_layNight_145 mw835 mw836 mw837 mw5 mw838 rfl 11 rfl rfl 0 _ rfl yk_yX11_believesOf_2 rfl (Nat.le_of_ble_eq_true rfl) (Nat.le_of_ble_eq_true rfl) (Nat.le_of_ble_eq_true rfl) (Nat.le_of_ble_eq_true rfl) (Nat.le_of_ble_eq_true rfl) rfl rfl (by decide +kernel) rfl (by decide +kernel) (by decide +kernel) ?_
        rintro r_90 w rfl
        refine k_ws [(cAI g a_begin 8 uf_12), (cAI g a_motor 8 uf_18), (cAI g a_change 8 uf_14), (cAI g a_startFrame 8 fa_32), (cAI g a_changeFrame 8 fa_37), (cAI g a_lostAt 8 uf_17), (cAI g a_blackAt 8 uf_13), (cAI g a_slips 8 d_slips), (cAI g a_from 8 uf_16), (cO11_i1r1i10r1i2r5i2r12i3r4i2 h0 m_thrown a_tape m_taped m_size m_at m_end m_token m_whole m_nameSize m_fault m_place m_trouble a_letters m_failed m_hasHouse a_r a_fresh a_st a_undone a_kept m_undos m_images a_from a_begin a_motor a_change a_startFrame a_changeFrame a_lostAt a_blackAt a_slips a_leftArc a_died a_arcs m_bestSum m_nearest m_nearestTown a_there a_backAt a_sorted a_parts m_seed1 m_darkNow), (cAI g a_r 311 d_r), (cAI g a_st 44 d_st)] rfl ?_
        refine k_aload_n X dX11_layNight_148 3 rfl ?_
        refine k_get (ci := 11) X inlX11 rfl 30 (by decide) dX11_layNight_149 mw183 9 rfl rfl ?_
        refine k_iload_n X dX11_layNight_152 1 rfl ?_
        refine k_iald X dX11_layNight_153 7 rfl (iv_in iv_87 (by decide) (by decide)) ?_
        refine k_nm (fun z_91 ez_91 => ?_)
        refine k_iadd X dX11_layNight_154 ?_
        refine k_nm (fun z_92 ez_92 => ?_)
        refine k_iload X dX11_layNight_155 0 rfl ?_
        refine k_iconst (v := 1) X dX11_layNight_157 (by decide) ?_
        refine k_isub X dX11_layNight_158 ?_
        refine k_nm (fun z_94 ez_94 => ?_)
        refine k_callSI (n := 2) (As := [.int z_92, .int z_94]) (st := []) X [] [(cAI g a_begin 8 uf_12), (cAI g a_motor 8 uf_18), (cAI g a_change 8 uf_14), (cAI g a_startFrame 8 fa_32), (cAI g a_changeFrame 8 fa_37), (cAI g a_lostAt 8 uf_17), (cAI g a_blackAt 8 uf_13), (cAI g a_slips 8 d_slips), (cAI g a_from 8 uf_16), (cO11_i1r1i10r1i2r5i2r12i3r4i2 h0 m_thrown a_tape m_taped m_size m_at m_end m_token m_whole m_nameSize m_fault m_place m_trouble a_letters m_failed m_hasHouse a_r a_fresh a_st a_undone a_kept m_undos m_images a_from a_begin a_motor a_change a_startFrame a_changeFrame a_lostAt a_blackAt a_slips a_leftArc a_died a_arcs m_bestSum m_nearest m_nearestTown a_there a_backAt a_sorted a_parts m_seed1 m_darkNow), (cAI g a_r 311 d_r), (cAI g a_st 44 d_st)] [] [0, 1, 2, 3, 4, 5, 6, 7, 8, 9, 10, 11] (m_least l g z_92 z_94) dX11_layNight_159 mw839 mw840 mw5 mw841 yk_yX11_least_2 rfl (Nat.le_of_ble_eq_true rfl) (Nat.le_of_ble_eq_true rfl) (Nat.le_of_ble_eq_true rfl) (Nat.le_of_ble_eq_true rfl) (Nat.le_of_ble_eq_true rfl) rfl rfl (by decide +kernel) rfl (by decide +kernel) (by decide +kernel) ?_
        rintro r_96 w rfl
        refine k_ws [(cAI g a_begin 8 uf_12), (cAI g a_motor 8 uf_18), (cAI g a_change 8 uf_14), (cAI g a_startFrame 8 fa_32), (cAI g a_changeFrame 8 fa_37), (cAI g a_lostAt 8 uf_17), (cAI g a_blackAt 8 uf_13), (cAI g a_slips 8 d_slips), (cAI g a_from 8 uf_16), (cO11_i1r1i10r1i2r5i2r12i3r4i2 h0 m_thrown a_tape m_taped m_size m_at m_end m_token m_whole m_nameSize m_fault m_place m_trouble a_letters m_failed m_hasHouse a_r a_fresh a_st a_undone a_kept m_undos m_images a_from a_begin a_motor a_change a_startFrame a_changeFrame a_lostAt a_blackAt a_slips a_leftArc a_died a_arcs m_bestSum m_nearest m_nearestTown a_there a_backAt a_sorted a_parts m_seed1 m_darkNow), (cAI g a_r 311 d_r), (cAI g a_st 44 d_st)] rfl ?_
        refine k_aload_n X dX11_layNight_162 3 rfl ?_
        refine k_get (ci := 11) X inlX11 rfl 22 (by decide) dX11_layNight_163 mw175 9 rfl rfl ?_
        refine k_iload_n X dX11_layNight_166 1 rfl ?_
        refine k_iald X dX11_layNight_167 8 rfl (iv_in iv_87 (by decide) (by decide)) ?_
        refine k_nm (fun z_97 ez_97 => ?_)
        refine k_callSI (n := 2) (As := [.int r_96, .int z_97]) (st := []) X [] [(cAI g a_begin 8 uf_12), (cAI g a_motor 8 uf_18), (cAI g a_change 8 uf_14), (cAI g a_startFrame 8 fa_32), (cAI g a_changeFrame 8 fa_37), (cAI g a_lostAt 8 uf_17), (cAI g a_blackAt 8 uf_13), (cAI g a_slips 8 d_slips), (cAI g a_from 8 uf_16), (cO11_i1r1i10r1i2r5i2r12i3r4i2 h0 m_thrown a_tape m_taped m_size m_at m_end m_token m_whole m_nameSize m_fault m_place m_trouble a_letters m_failed m_hasHouse a_r a_fresh a_st a_undone a_kept m_undos m_images a_from a_begin a_motor a_change a_startFrame a_changeFrame a_lostAt a_blackAt a_slips a_leftArc a_died a_arcs m_bestSum m_nearest m_nearestTown a_there a_backAt a_sorted a_parts m_seed1 m_darkNow), (cAI g a_r 311 d_r), (cAI g a_st 44 d_st)] [] [0, 1, 2, 3, 4, 5, 6, 7, 8, 9, 10, 11] (m_most l g r_96 z_97) dX11_layNight_168 mw842 mw843 mw5 mw844 yk_yX11_most_2 rfl (Nat.le_of_ble_eq_true rfl) (Nat.le_of_ble_eq_true rfl) (Nat.le_of_ble_eq_true rfl) (Nat.le_of_ble_eq_true rfl) (Nat.le_of_ble_eq_true rfl) rfl rfl (by decide +kernel) rfl (by decide +kernel) (by decide +kernel) ?_
        rintro r_98 w rfl
        refine k_ws [(cAI g a_begin 8 uf_12), (cAI g a_motor 8 uf_18), (cAI g a_change 8 uf_14), (cAI g a_startFrame 8 fa_32), (cAI g a_changeFrame 8 fa_37), (cAI g a_lostAt 8 uf_17), (cAI g a_blackAt 8 uf_13), (cAI g a_slips 8 d_slips), (cAI g a_from 8 uf_16), (cO11_i1r1i10r1i2r5i2r12i3r4i2 h0 m_thrown a_tape m_taped m_size m_at m_end m_token m_whole m_nameSize m_fault m_place m_trouble a_letters m_failed m_hasHouse a_r a_fresh a_st a_undone a_kept m_undos m_images a_from a_begin a_motor a_change a_startFrame a_changeFrame a_lostAt a_blackAt a_slips a_leftArc a_died a_arcs m_bestSum m_nearest m_nearestTown a_there a_backAt a_sorted a_parts m_seed1 m_darkNow), (cAI g a_r 311 d_r), (cAI g a_st 44 d_st)] rfl ?_
        refine k_istore [(5, .int r_98), (4, .int r_31), (3, .int u_20), (2, .int z_4), (0, .ref h0), (1, .int p0)] X dX11_layNight_171 (by decide) rfl ?_
        refine k_aload_n X dX11_layNight_173 4 rfl ?_
        refine k_get (ci := 11) X inlX11 rfl 26 (by decide) dX11_layNight_174 mw179 9 rfl rfl ?_
        refine k_iload_n X dX11_layNight_177 2 rfl ?_
        refine k_iload X dX11_layNight_178 0 rfl ?_
        refine k_iast [(cAI g a_begin 8 uf_12), (cAI g a_motor 8 uf_18), (cAI g a_change 8 uf_14), (cAI g a_startFrame 8 (upd fa_32 (u_20 : Int32).toNatClampNeg r_98)), (cAI g a_changeFrame 8 fa_37), (cAI g a_lostAt 8 uf_17), (cAI g a_blackAt 8 uf_13), (cAI g a_slips 8 d_slips), (cAI g a_from 8 uf_16), (cO11_i1r1i10r1i2r5i2r12i3r4i2 h0 m_thrown a_tape m_taped m_size m_at m_end m_token m_whole m_nameSize m_fault m_place m_trouble a_letters m_failed m_hasHouse a_r a_fresh a_st a_undone a_kept m_undos m_images a_from a_begin a_motor a_change a_startFrame a_changeFrame a_lostAt a_blackAt a_slips a_leftArc a_died a_arcs m_bestSum m_nearest m_nearestTown a_there a_backAt a_sorted a_parts m_seed1 m_darkNow), (cAI g a_r 311 d_r), (cAI g a_st 44 d_st)] X dX11_layNight_180 3 rfl (iv_in iv_87 (by decide) (by decide)) rfl ?_
        refine (fun hg : ∀ fa_99 : Nat → Int32, Wk p l e _ s m args below meth c _ A g _ _ _ [(cAI g a_begin 8 uf_12), (cAI g a_motor 8 uf_18), (cAI g a_change 8 uf_14), (cAI g a_startFrame 8 fa_99), (cAI g a_changeFrame 8 fa_37), (cAI g a_lostAt 8 uf_17), (cAI g a_blackAt 8 uf_13), (cAI g a_slips 8 d_slips), (cAI g a_from 8 uf_16), (cO11_i1r1i10r1i2r5i2r12i3r4i2 h0 m_thrown a_tape m_taped m_size m_at m_end m_token m_whole m_nameSize m_fault m_place m_trouble a_letters m_failed m_hasHouse a_r a_fresh a_st a_undone a_kept m_undos m_images a_from a_begin a_motor a_change a_startFrame a_changeFrame a_lostAt a_blackAt a_slips a_leftArc a_died a_arcs m_bestSum m_nearest m_nearestTown a_there a_backAt a_sorted a_parts m_seed1 m_darkNow), (cAI g a_r 311 d_r), (cAI g a_st 44 d_st)] _ _ _ => hg _) (fun fa_99 => ?_)
        refine k_aload_n X dX11_layNight_181 4 rfl ?_
        refine k_get (ci := 11) X inlX11 rfl 27 (by decide) dX11_layNight_182 mw180 9 rfl rfl ?_
        refine k_iload_n X dX11_layNight_185 2 rfl ?_
        refine k_iload X dX11_layNight_186 0 rfl ?_
        refine k_aload_n X dX11_layNight_188 4 rfl ?_
        refine k_get (ci := 11) X inlX11 rfl 15 (by decide) dX11_layNight_189 mw170 9 rfl rfl ?_
        refine k_iconst (v := 0) X dX11_layNight_192 (by decide) ?_
        refine k_iald X dX11_layNight_193 10 rfl (by unfold vp_in; decide) ?_
        refine k_nm (fun z_100 ez_100 => ?_)
        refine k_iadd X dX11_layNight_194 ?_
        refine k_nm (fun z_101 ez_101 => ?_)
        refine k_iload X dX11_layNight_195 1 rfl ?_
        refine k_callSI (n := 2) (As := [.int z_101, .int r_31]) (st := [.int u_20, .ref a_changeFrame]) X [] [(cAI g a_begin 8 uf_12), (cAI g a_motor 8 uf_18), (cAI g a_change 8 uf_14), (cAI g a_startFrame 8 fa_99), (cAI g a_changeFrame 8 fa_37), (cAI g a_lostAt 8 uf_17), (cAI g a_blackAt 8 uf_13), (cAI g a_slips 8 d_slips), (cAI g a_from 8 uf_16), (cO11_i1r1i10r1i2r5i2r12i3r4i2 h0 m_thrown a_tape m_taped m_size m_at m_end m_token m_whole m_nameSize m_fault m_place m_trouble a_letters m_failed m_hasHouse a_r a_fresh a_st a_undone a_kept m_undos m_images a_from a_begin a_motor a_change a_startFrame a_changeFrame a_lostAt a_blackAt a_slips a_leftArc a_died a_arcs m_bestSum m_nearest m_nearestTown a_there a_backAt a_sorted a_parts m_seed1 m_darkNow), (cAI g a_r 311 d_r), (cAI g a_st 44 d_st)] [] [0, 1, 2, 3, 4, 5, 6, 7, 8, 9, 10, 11] (m_least l g z_101 r_31) dX11_layNight_197 mw839 mw840 mw5 mw841 yk_yX11_least_2 rfl (Nat.le_of_ble_eq_true rfl) (Nat.le_of_ble_eq_true rfl) (Nat.le_of_ble_eq_true rfl) (Nat.le_of_ble_eq_true rfl) (Nat.le_of_ble_eq_true rfl) rfl rfl (by decide +kernel) rfl (by decide +kernel) (by decide +kernel) ?_
        rintro r_103 w rfl
        refine k_ws [(cAI g a_begin 8 uf_12), (cAI g a_motor 8 uf_18), (cAI g a_change 8 uf_14), (cAI g a_startFrame 8 fa_99), (cAI g a_changeFrame 8 fa_37), (cAI g a_lostAt 8 uf_17), (cAI g a_blackAt 8 uf_13), (cAI g a_slips 8 d_slips), (cAI g a_from 8 uf_16), (cO11_i1r1i10r1i2r5i2r12i3r4i2 h0 m_thrown a_tape m_taped m_size m_at m_end m_token m_whole m_nameSize m_fault m_place m_trouble a_letters m_failed m_hasHouse a_r a_fresh a_st a_undone a_kept m_undos m_images a_from a_begin a_motor a_change a_startFrame a_changeFrame a_lostAt a_blackAt a_slips a_leftArc a_died a_arcs m_bestSum m_nearest m_nearestTown a_there a_backAt a_sorted a_parts m_seed1 m_darkNow), (cAI g a_r 311 d_r), (cAI g a_st 44 d_st)] rfl ?_
        refine k_iast [(cAI g a_begin 8 uf_12), (cAI g a_motor 8 uf_18), (cAI g a_change 8 uf_14), (cAI g a_startFrame 8 fa_99), (cAI g a_changeFrame 8 (upd fa_37 (u_20 : Int32).toNatClampNeg r_103)), (cAI g a_lostAt 8 uf_17), (cAI g a_blackAt 8 uf_13), (cAI g a_slips 8 d_slips), (cAI g a_from 8 uf_16), (cO11_i1r1i10r1i2r5i2r12i3r4i2 h0 m_thrown a_tape m_taped m_size m_at m_end m_token m_whole m_nameSize m_fault m_place m_trouble a_letters m_failed m_hasHouse a_r a_fresh a_st a_undone a_kept m_undos m_images a_from a_begin a_motor a_change a_startFrame a_changeFrame a_lostAt a_blackAt a_slips a_leftArc a_died a_arcs m_bestSum m_nearest m_nearestTown a_there a_backAt a_sorted a_parts m_seed1 m_darkNow), (cAI g a_r 311 d_r), (cAI g a_st 44 d_st)] X dX11_layNight_200 4 rfl (iv_in iv_87 (by decide) (by decide)) rfl ?_
        refine (fun hg : ∀ fa_104 : Nat → Int32, Wk p l e _ s m args below meth c _ A g _ _ _ [(cAI g a_begin 8 uf_12), (cAI g a_motor 8 uf_18), (cAI g a_change 8 uf_14), (cAI g a_startFrame 8 fa_99), (cAI g a_changeFrame 8 fa_104), (cAI g a_lostAt 8 uf_17), (cAI g a_blackAt 8 uf_13), (cAI g a_slips 8 d_slips), (cAI g a_from 8 uf_16), (cO11_i1r1i10r1i2r5i2r12i3r4i2 h0 m_thrown a_tape m_taped m_size m_at m_end m_token m_whole m_nameSize m_fault m_place m_trouble a_letters m_failed m_hasHouse a_r a_fresh a_st a_undone a_kept m_undos m_images a_from a_begin a_motor a_change a_startFrame a_changeFrame a_lostAt a_blackAt a_slips a_leftArc a_died a_arcs m_bestSum m_nearest m_nearestTown a_there a_backAt a_sorted a_parts m_seed1 m_darkNow), (cAI g a_r 311 d_r), (cAI g a_st 44 d_st)] _ _ _ => hg _) (fun fa_104 => ?_)
        refine k_aload_n X dX11_layNight_201 4 rfl ?_
        refine k_get (ci := 11) X inlX11 rfl 25 (by decide) dX11_layNight_202 mw178 9 rfl rfl ?_
        refine k_iload_n X dX11_layNight_205 2 rfl ?_
        refine k_aload_n X dX11_layNight_206 4 rfl ?_
        refine k_get (ci := 11) X inlX11 rfl 23 (by decide) dX11_layNight_207 mw176 9 rfl rfl ?_
        refine k_iload_n X dX11_layNight_210 2 rfl ?_
        refine k_iald X dX11_layNight_211 0 rfl (iv_in iv_87 (by decide) (by decide)) ?_
        refine k_nm (fun z_105 ez_105 => ?_)
        refine k_aload_n X dX11_layNight_212 4 rfl ?_
        refine k_get (ci := 11) X inlX11 rfl 27 (by decide) dX11_layNight_213 mw180 9 rfl rfl ?_
        refine k_iload_n X dX11_layNight_216 2 rfl ?_
        refine k_iald X dX11_layNight_217 4 rfl (iv_in iv_87 (by decide) (by decide)) ?_
        refine k_nm (fun z_106 ez_106 => ?_)
        refine k_iadd X dX11_layNight_218 ?_
        refine k_nm (fun z_107 ez_107 => ?_)
        refine k_aload_n X dX11_layNight_219 4 rfl ?_
        refine k_get (ci := 11) X inlX11 rfl 22 (by decide) dX11_layNight_220 mw175 9 rfl rfl ?_
        refine k_iload_n X dX11_layNight_223 2 rfl ?_
        refine k_iald X dX11_layNight_224 8 rfl (iv_in iv_87 (by decide) (by decide)) ?_
        refine k_to z_97 ez_97.symm ?_
        refine k_isub X dX11_layNight_225 ?_
        refine k_nm (fun z_109 ez_109 => ?_)
        refine k_iast [(cAI g a_begin 8 uf_12), (cAI g a_motor 8 uf_18), (cAI g a_change 8 (upd uf_14 (u_20 : Int32).toNatClampNeg z_109)), (cAI g a_startFrame 8 fa_99), (cAI g a_changeFrame 8 fa_104), (cAI g a_lostAt 8 uf_17), (cAI g a_blackAt 8 uf_13), (cAI g a_slips 8 d_slips), (cAI g a_from 8 uf_16), (cO11_i1r1i10r1i2r5i2r12i3r4i2 h0 m_thrown a_tape m_taped m_size m_at m_end m_token m_whole m_nameSize m_fault m_place m_trouble a_letters m_failed m_hasHouse a_r a_fresh a_st a_undone a_kept m_undos m_images a_from a_begin a_motor a_change a_startFrame a_changeFrame a_lostAt a_blackAt a_slips a_leftArc a_died a_arcs m_bestSum m_nearest m_nearestTown a_there a_backAt a_sorted a_parts m_seed1 m_darkNow), (cAI g a_r 311 d_r), (cAI g a_st 44 d_st)] X dX11_layNight_226 2 rfl (iv_in iv_87 (by decide) (by decide)) rfl ?_
        refine (fun hg : ∀ fa_111 : Nat → Int32, Wk p l e _ s m args below meth c _ A g _ _ _ [(cAI g a_begin 8 uf_12), (cAI g a_motor 8 uf_18), (cAI g a_change 8 fa_111), (cAI g a_startFrame 8 fa_99), (cAI g a_changeFrame 8 fa_104), (cAI g a_lostAt 8 uf_17), (cAI g a_blackAt 8 uf_13), (cAI g a_slips 8 d_slips), (cAI g a_from 8 uf_16), (cO11_i1r1i10r1i2r5i2r12i3r4i2 h0 m_thrown a_tape m_taped m_size m_at m_end m_token m_whole m_nameSize m_fault m_place m_trouble a_letters m_failed m_hasHouse a_r a_fresh a_st a_undone a_kept m_undos m_images a_from a_begin a_motor a_change a_startFrame a_changeFrame a_lostAt a_blackAt a_slips a_leftArc a_died a_arcs m_bestSum m_nearest m_nearestTown a_there a_backAt a_sorted a_parts m_seed1 m_darkNow), (cAI g a_r 311 d_r), (cAI g a_st 44 d_st)] _ _ _ => hg _) (fun fa_111 => ?_)
        refine k_iload_n X dX11_layNight_227 2 rfl ?_
        refine k_iload_n X dX11_layNight_228 3 rfl ?_
        refine k_ic_ge 296 X dX11_layNight_229 (by decide) (fun h_112 => ?_) (fun h_112 => ?_)
        · skip
          have j_113 : z_4.toInt ≤ u_20.toInt := iv_le h_112
          have iv_114 : IV z_4 1 6 := iv_leL (iv_le h_112) iv_88 iv_87 (by decide)
          have iv_115 : IV z_1 2 7 := by have := iv_89; have := iv_114; rw [IV]; omega
          have iv_116 : IV u_20 1 6 := iv_leR (iv_le h_112) iv_88 iv_87 (by decide)
          obtain ⟨z_117, ez_117⟩ : ∃ y : Int32, u_20 + Int32.ofInt 1 = y := ⟨_, rfl⟩
          refine k_iinc z_117 [(3, .int z_117), (5, .int r_98), (4, .int r_31), (2, .int z_4), (0, .ref h0), (1, .int p0)] 2 X dX11_layNight_296 rfl ez_117 (by decide) rfl ?_
          have i_118 : z_117.toInt = u_20.toInt + 1 := in_inc ez_117 (by decide) iv_116 (by decide) (by decide)
          have iv_119 : IV z_117 2 7 := iz1 i_118 iv_116 (by decide) (by decide)
          refine k_goto 47 X dX11_layNight_299 (by decide) ?_
          refine k_lv [(3, .int z_117), (2, .int z_4), (0, .ref h0), (1, .int p0)] [0, 3, 4, 5] rfl ?_
          refine k_sub [(cO11_i1r1i10r1i2r5i2r12i3r4i2 h0 m_thrown a_tape m_taped m_size m_at m_end m_token m_whole m_nameSize m_fault m_place m_trouble a_letters m_failed m_hasHouse a_r a_fresh a_st a_undone a_kept m_undos m_images a_from a_begin a_motor a_change a_startFrame a_changeFrame a_lostAt a_blackAt a_slips a_leftArc a_died a_arcs m_bestSum m_nearest m_nearestTown a_there a_backAt a_sorted a_parts m_seed1 m_darkNow), (cAI g a_r 311 d_r), (cAI g a_st 44 d_st), (cAI g a_from 8 uf_16), (cAI g a_begin 8 uf_12), (cAI g a_motor 8 uf_18), (cAI g a_change 8 fa_111), (cAI g a_startFrame 8 fa_99), (cAI g a_changeFrame 8 fa_104), (cAI g a_lostAt 8 uf_17), (cAI g a_blackAt 8 uf_13), (cAI g a_slips 8 d_slips)] [9, 10, 11, 8, 0, 1, 2, 3, 4, 5, 6, 7] rfl (by decide) rfl ?_
          exact ih_24 _ (by omega) uf_12 uf_13 fa_111 fa_104 uf_16 uf_17 uf_18 fa_99 z_117 rfl (iv_w iv_119 (by decide) (by decide))
        · skip
          have j_120 : u_20.toInt < z_4.toInt := iv_nle h_112
          refine k_aload_n X dX11_layNight_232 4 rfl ?_
          refine k_iload_n X dX11_layNight_233 2 rfl ?_
          refine k_aload_n X dX11_layNight_234 4 rfl ?_
          refine k_get (ci := 11) X inlX11 rfl 23 (by decide) dX11_layNight_235 mw176 9 rfl rfl ?_
          refine k_iload_n X dX11_layNight_238 2 rfl ?_
          refine k_iald X dX11_layNight_239 0 rfl (iv_in iv_87 (by decide) (by decide)) ?_
          refine k_to z_105 ez_105.symm ?_
          refine k_aload_n X dX11_layNight_240 4 rfl ?_
          refine k_get (ci := 11) X inlX11 rfl 26 (by decide) dX11_layNight_241 mw179 9 rfl rfl ?_
          refine k_iload_n X dX11_layNight_244 2 rfl ?_
          refine k_iald X dX11_layNight_245 3 rfl (iv_in iv_87 (by decide) (by decide)) ?_
          refine k_nm (fun z_121 ez_121 => ?_)
          refine k_iadd X dX11_layNight_246 ?_
          refine k_nm (fun z_122 ez_122 => ?_)
          refine k_aload_n X dX11_layNight_247 4 rfl ?_
          refine k_get (ci := 11) X inlX11 rfl 22 (by decide) dX11_layNight_248 mw175 9 rfl rfl ?_
          refine k_iload_n X dX11_layNight_251 2 rfl ?_
          refine k_iald X dX11_layNight_252 8 rfl (iv_in iv_87 (by decide) (by decide)) ?_
          refine k_to z_97 ez_97.symm ?_
          refine k_isub X dX11_layNight_253 ?_
          refine k_nm (fun z_124 ez_124 => ?_)
          refine k_aload_n X dX11_layNight_254 4 rfl ?_
          refine k_get (ci := 11) X inlX11 rfl 25 (by decide) dX11_layNight_255 mw178 9 rfl rfl ?_
          refine k_iload_n X dX11_layNight_258 2 rfl ?_
          refine k_iald X dX11_layNight_259 2 rfl (iv_in iv_87 (by decide) (by decide)) ?_
          refine k_nm (fun z_126 ez_126 => ?_)
          refine k_aload_n X dX11_layNight_260 4 rfl ?_
          refine k_get (ci := 11) X inlX11 rfl 27 (by decide) dX11_layNight_261 mw180 9 rfl rfl ?_
          refine k_iload_n X dX11_layNight_264 2 rfl ?_
          refine k_iald X dX11_layNight_265 4 rfl (iv_in iv_87 (by decide) (by decide)) ?_
          refine k_to z_106 ez_106.symm ?_
          refine k_aload_n X dX11_layNight_266 4 rfl ?_
          refine k_get (ci := 11) X inlX11 rfl 26 (by decide) dX11_layNight_267 mw179 9 rfl rfl ?_
          refine k_iload_n X dX11_layNight_270 2 rfl ?_
          refine k_iald X dX11_layNight_271 3 rfl (iv_in iv_87 (by decide) (by decide)) ?_
          refine k_to z_121 ez_121.symm ?_
          refine k_isub X dX11_layNight_272 ?_
          refine k_nm (fun z_127 ez_127 => ?_)
          refine k_aload_n X dX11_layNight_273 4 rfl ?_
          refine k_get (ci := 11) X inlX11 rfl 15 (by decide) dX11_layNight_274 mw170 9 rfl rfl ?_
          refine k_iconst (v := 1) X dX11_layNight_277 (by decide) ?_
          refine k_iald X dX11_layNight_278 10 rfl (by unfold vp_in; decide) ?_
          refine k_nm (fun z_129 ez_129 => ?_)
          refine k_isub X dX11_layNight_279 ?_
          refine k_nm (fun z_130 ez_130 => ?_)
          refine k_aload_n X dX11_layNight_280 4 rfl ?_
          refine k_get (ci := 11) X inlX11 rfl 17 (by decide) dX11_layNight_281 mw172 9 rfl rfl ?_
          refine k_bipush (v := 34) X dX11_layNight_284 (by decide) ?_
          refine k_iload_n X dX11_layNight_286 2 rfl ?_
          refine k_iadd X dX11_layNight_287 ?_
          refine k_nm (fun z_132 ez_132 => ?_)
          have i_133 : z_132.toInt = 34 + u_20.toInt := in_add ez_132 (show IV 34 34 34 from (by decide)) iv_87 (by decide) (by decide)
          have iv_134 : IV z_132 34 40 := iz2 i_133 iv_87 (by decide) (by decide)
          refine k_iconst (v := 1) X dX11_layNight_288 (by decide) ?_
          refine k_iadd X dX11_layNight_289 ?_
          refine k_nm (fun z_135 ez_135 => ?_)
          have i_136 : z_135.toInt = z_132.toInt + 1 := in_add ez_135 iv_134 (show IV 1 1 1 from (by decide)) (by decide) (by decide)
          have iv_137 : IV z_135 35 41 := iz1 i_136 iv_134 (by decide) (by decide)
          refine k_iald X dX11_layNight_290 11 rfl (iv_in iv_137 (by decide) (by decide)) ?_
          refine k_nm (fun z_138 ez_138 => ?_)
          refine k_isub X dX11_layNight_291 ?_
          refine k_nm (fun z_139 ez_139 => ?_)
          refine k_iconst (v := 0) X dX11_layNight_292 (by decide) ?_
          refine k_callVV (n := 5) (As := [.int u_20, .int z_124, .int z_126, .int z_139, .int 0]) (st := []) X [(cO11_i1r1i10r1i2r5i2r12i3r4i2 h0 m_thrown a_tape m_taped m_size m_at m_end m_token m_whole m_nameSize m_fault m_place m_trouble a_letters m_failed m_hasHouse a_r a_fresh a_st a_undone a_kept m_undos m_images a_from a_begin a_motor a_change a_startFrame a_changeFrame a_lostAt a_blackAt a_slips a_leftArc a_died a_arcs m_bestSum m_nearest m_nearestTown a_there a_backAt a_sorted a_parts m_seed1 m_darkNow), (cAI g a_from 8 uf_16), (cAI g a_begin 8 uf_12), (cAI g a_motor 8 uf_18), (cAI g a_lostAt 8 uf_17), (cAI g a_blackAt 8 uf_13)] [(cAI g a_change 8 fa_111), (cAI g a_startFrame 8 fa_99), (cAI g a_changeFrame 8 fa_104), (cAI g a_slips 8 d_slips), (cAI g a_r 311 d_r), (cAI g a_st 44 d_st)] [9, 8, 0, 1, 5, 6] [2, 3, 4, 7, 10, 11] (m_follows l g h0 u_20 z_124 z_126 z_139 0 m_thrown a_tape m_taped m_size m_at m_end m_token m_whole m_nameSize m_fault m_place m_trouble a_letters m_failed m_hasHouse a_r a_fresh a_st a_undone a_kept m_undos m_images a_from a_begin a_motor a_change a_startFrame a_changeFrame a_lostAt a_blackAt a_slips a_leftArc a_died a_arcs m_bestSum m_nearest m_nearestTown a_there a_backAt a_sorted a_parts m_seed1 m_darkNow uf_16 uf_12 uf_18 uf_17 uf_13 (iv_w iv_87 (by decide) (by decide))) dX11_layNight_293 mw831 mw832 mw833 mw5 mw834 rfl 11 rfl rfl 0 _ rfl yk_yX11_follows_5 rfl (Nat.le_of_ble_eq_true rfl) (Nat.le_of_ble_eq_true rfl) (Nat.le_of_ble_eq_true rfl) (Nat.le_of_ble_eq_true rfl) (Nat.le_of_ble_eq_true rfl) rfl rfl (by decide +kernel) rfl (by decide +kernel) (by decide +kernel) ?_
          rintro w ⟨d_begin2_141, d_blackAt2_142, d_from2_143, d_lostAt2_144, d_motor2_145, rfl⟩
          refine k_ws [(cAI g a_change 8 fa_111), (cAI g a_startFrame 8 fa_99), (cAI g a_changeFrame 8 fa_104), (cAI g a_slips 8 d_slips), (cAI g a_r 311 d_r), (cAI g a_st 44 d_st), (cO11_i1r1i10r1i2r5i2r12i3r4i2 h0 m_thrown a_tape m_taped m_size m_at m_end m_token m_whole m_nameSize m_fault m_place m_trouble a_letters m_failed m_hasHouse a_r a_fresh a_st a_undone a_kept m_undos m_images a_from a_begin a_motor a_change a_startFrame a_changeFrame a_lostAt a_blackAt a_slips a_leftArc a_died a_arcs m_bestSum m_nearest m_nearestTown a_there a_backAt a_sorted a_parts m_seed1 m_darkNow), (cAI g a_from 8 d_from2_143), (cAI g a_begin 8 d_begin2_141), (cAI g a_motor 8 d_motor2_145), (cAI g a_lostAt 8 d_lostAt2_144), (cAI g a_blackAt 8 d_blackAt2_142)] rfl ?_
          obtain ⟨z_147, ez_147⟩ : ∃ y : Int32, u_20 + Int32.ofInt 1 = y := ⟨_, rfl⟩
          refine k_iinc z_147 [(3, .int z_147), (5, .int r_98), (4, .int r_31), (2, .int z_4), (0, .ref h0), (1, .int p0)] 2 X dX11_layNight_296 rfl ez_147 (by decide) rfl ?_
          have i_148 : z_147.toInt = u_20.toInt + 1 := in_inc ez_147 (by decide) iv_87 (by decide) (by decide)
          have iv_149 : IV z_147 1 7 := iz1 i_148 iv_87 (by decide) (by decide)
          refine k_goto 47 X dX11_layNight_299 (by decide) ?_
          refine k_lv [(3, .int z_147), (2, .int z_4), (0, .ref h0), (1, .int p0)] [0, 3, 4, 5] rfl ?_
          refine k_sub [(cO11_i1r1i10r1i2r5i2r12i3r4i2 h0 m_thrown a_tape m_taped m_size m_at m_end m_token m_whole m_nameSize m_fault m_place m_trouble a_letters m_failed m_hasHouse a_r a_fresh a_st a_undone a_kept m_undos m_images a_from a_begin a_motor a_change a_startFrame a_changeFrame a_lostAt a_blackAt a_slips a_leftArc a_died a_arcs m_bestSum m_nearest m_nearestTown a_there a_backAt a_sorted a_parts m_seed1 m_darkNow), (cAI g a_r 311 d_r), (cAI g a_st 44 d_st), (cAI g a_from 8 d_from2_143), (cAI g a_begin 8 d_begin2_141), (cAI g a_motor 8 d_motor2_145), (cAI g a_change 8 fa_111), (cAI g a_startFrame 8 fa_99), (cAI g a_changeFrame 8 fa_104), (cAI g a_lostAt 8 d_lostAt2_144), (cAI g a_blackAt 8 d_blackAt2_142), (cAI g a_slips 8 d_slips)] [6, 4, 5, 7, 8, 9, 0, 1, 2, 10, 11, 3] rfl (by decide) rfl ?_
          exact ih_24 _ (by omega) d_begin2_141 d_blackAt2_142 fa_111 fa_104 d_from2_143 d_lostAt2_144 d_motor2_145 fa_99 z_147 rfl (iv_w iv_149 (by decide) (by decide))
    · skip
      have iv_150 : IV r_33 1 1 := iv_neL h_35 iv_34 (show IV 0 0 0 from (by decide)) (by decide)
      refine k_aload_n X dX11_layNight_75 3 rfl ?_
      refine k_get (ci := 11) X inlX11 rfl 28 (by decide) dX11_layNight_76 mw181 8 rfl rfl ?_
      refine k_iload_n X dX11_layNight_79 1 rfl ?_
      refine k_iload X dX11_layNight_80 0 rfl ?_
      refine k_iast [(cAI g a_begin 8 uf_12), (cAI g a_motor 8 uf_18), (cAI g a_change 8 uf_14), (cAI g a_startFrame 8 fa_32), (cAI g a_changeFrame 8 uf_15), (cAI g a_lostAt 8 (upd uf_17 (u_20 : Int32).toNatClampNeg r_31)), (cAI g a_blackAt 8 uf_13), (cAI g a_slips 8 d_slips), (cO11_i1r1i10r1i2r5i2r12i3r4i2 h0 m_thrown a_tape m_taped m_size m_at m_end m_token m_whole m_nameSize m_fault m_place m_trouble a_letters m_failed m_hasHouse a_r a_fresh a_st a_undone a_kept m_undos m_images a_from a_begin a_motor a_change a_startFrame a_changeFrame a_lostAt a_blackAt a_slips a_leftArc a_died a_arcs m_bestSum m_nearest m_nearestTown a_there a_backAt a_sorted a_parts m_seed1 m_darkNow), (cAI g a_r 311 d_r), (cAI g a_st 44 d_st), (cAI g a_from 8 uf_16)] X dX11_layNight_82 5 rfl (iv_in iv_28 (by decide) (by decide)) rfl ?_
      refine (fun hg : ∀ fa_151 : Nat → Int32, Wk p l e _ s m args below meth c _ A g _ _ _ [(cAI g a_begin 8 uf_12), (cAI g a_motor 8 uf_18), (cAI g a_change 8 uf_14), (cAI g a_startFrame 8 fa_32), (cAI g a_changeFrame 8 uf_15), (cAI g a_lostAt 8 fa_151), (cAI g a_blackAt 8 uf_13), (cAI g a_slips 8 d_slips), (cO11_i1r1i10r1i2r5i2r12i3r4i2 h0 m_thrown a_tape m_taped m_size m_at m_end m_token m_whole m_nameSize m_fault m_place m_trouble a_letters m_failed m_hasHouse a_r a_fresh a_st a_undone a_kept m_undos m_images a_from a_begin a_motor a_change a_startFrame a_changeFrame a_lostAt a_blackAt a_slips a_leftArc a_died a_arcs m_bestSum m_nearest m_nearestTown a_there a_backAt a_sorted a_parts m_seed1 m_darkNow), (cAI g a_r 311 d_r), (cAI g a_st 44 d_st), (cAI g a_from 8 uf_16)] _ _ _ => hg _) (fun fa_151 => ?_)
      refine k_aload_n X dX11_layNight_83 3 rfl ?_
      refine k_get (ci := 11) X inlX11 rfl 27 (by decide) dX11_layNight_84 mw180 8 rfl rfl ?_
      refine k_iload_n X dX11_layNight_87 1 rfl ?_
      refine k_iconst (v := 0) X dX11_layNight_88 (by decide) ?_
      refine k_iast [(cAI g a_begin 8 uf_12), (cAI g a_motor 8 uf_18), (cAI g a_change 8 uf_14), (cAI g a_startFrame 8 fa_32), (cAI g a_changeFrame 8 (upd uf_15 (u_20 : Int32).toNatClampNeg 0)), (cAI g a_lostAt 8 fa_151), (cAI g a_blackAt 8 uf_13), (cAI g a_slips 8 d_slips), (cO11_i1r1i10r1i2r5i2r12i3r4i2 h0 m_thrown a_tape m_taped m_size m_at m_end m_token m_whole m_nameSize m_fault m_place m_trouble a_letters m_failed m_hasHouse a_r a_fresh a_st a_undone a_kept m_undos m_images a_from a_begin a_motor a_change a_startFrame a_changeFrame a_lostAt a_blackAt a_slips a_leftArc a_died a_arcs m_bestSum m_nearest m_nearestTown a_there a_backAt a_sorted a_parts m_seed1 m_darkNow), (cAI g a_r 311 d_r), (cAI g a_st 44 d_st), (cAI g a_from 8 uf_16)] X dX11_layNight_89 4 rfl (iv_in iv_28 (by decide) (by decide)) rfl ?_
      refine (fun hg : ∀ fa_152 : Nat → Int32, Wk p l e _ s m args below meth c _ A g _ _ _ [(cAI g a_begin 8 uf_12), (cAI g a_motor 8 uf_18), (cAI g a_change 8 uf_14), (cAI g a_startFrame 8 fa_32), (cAI g a_changeFrame 8 fa_152), (cAI g a_lostAt 8 fa_151), (cAI g a_blackAt 8 uf_13), (cAI g a_slips 8 d_slips), (cO11_i1r1i10r1i2r5i2r12i3r4i2 h0 m_thrown a_tape m_taped m_size m_at m_end m_token m_whole m_nameSize m_fault m_place m_trouble a_letters m_failed m_hasHouse a_r a_fresh a_st a_undone a_kept m_undos m_images a_from a_begin a_motor a_change a_startFrame a_changeFrame a_lostAt a_blackAt a_slips a_leftArc a_died a_arcs m_bestSum m_nearest m_nearestTown a_there a_backAt a_sorted a_parts m_seed1 m_darkNow), (cAI g a_r 311 d_r), (cAI g a_st 44 d_st), (cAI g a_from 8 uf_16)] _ _ _ => hg _) (fun fa_152 => ?_)
      refine k_aload_n X dX11_layNight_90 3 rfl ?_
      refine k_get (ci := 11) X inlX11 rfl 25 (by decide) dX11_layNight_91 mw178 8 rfl rfl ?_
      refine k_iload_n X dX11_layNight_94 1 rfl ?_
      refine k_aload_n X dX11_layNight_95 3 rfl ?_
      refine k_get (ci := 11) X inlX11 rfl 23 (by decide) dX11_layNight_96 mw176 8 rfl rfl ?_
      refine k_iload_n X dX11_layNight_99 1 rfl ?_
      refine k_iald X dX11_layNight_100 0 rfl (iv_in iv_28 (by decide) (by decide)) ?_
      refine k_nm (fun z_153 ez_153 => ?_)
      refine k_iast [(cAI g a_begin 8 uf_12), (cAI g a_motor 8 uf_18), (cAI g a_change 8 (upd uf_14 (u_20 : Int32).toNatClampNeg z_153)), (cAI g a_startFrame 8 fa_32), (cAI g a_changeFrame 8 fa_152), (cAI g a_lostAt 8 fa_151), (cAI g a_blackAt 8 uf_13), (cAI g a_slips 8 d_slips), (cO11_i1r1i10r1i2r5i2r12i3r4i2 h0 m_thrown a_tape m_taped m_size m_at m_end m_token m_whole m_nameSize m_fault m_place m_trouble a_letters m_failed m_hasHouse a_r a_fresh a_st a_undone a_kept m_undos m_images a_from a_begin a_motor a_change a_startFrame a_changeFrame a_lostAt a_blackAt a_slips a_leftArc a_died a_arcs m_bestSum m_nearest m_nearestTown a_there a_backAt a_sorted a_parts m_seed1 m_darkNow), (cAI g a_r 311 d_r), (cAI g a_st 44 d_st), (cAI g a_from 8 uf_16)] X dX11_layNight_101 2 rfl (iv_in iv_28 (by decide) (by decide)) rfl ?_
      refine (fun hg : ∀ fa_154 : Nat → Int32, Wk p l e _ s m args below meth c _ A g _ _ _ [(cAI g a_begin 8 uf_12), (cAI g a_motor 8 uf_18), (cAI g a_change 8 fa_154), (cAI g a_startFrame 8 fa_32), (cAI g a_changeFrame 8 fa_152), (cAI g a_lostAt 8 fa_151), (cAI g a_blackAt 8 uf_13), (cAI g a_slips 8 d_slips), (cO11_i1r1i10r1i2r5i2r12i3r4i2 h0 m_thrown a_tape m_taped m_size m_at m_end m_token m_whole m_nameSize m_fault m_place m_trouble a_letters m_failed m_hasHouse a_r a_fresh a_st a_undone a_kept m_undos m_images a_from a_begin a_motor a_change a_startFrame a_changeFrame a_lostAt a_blackAt a_slips a_leftArc a_died a_arcs m_bestSum m_nearest m_nearestTown a_there a_backAt a_sorted a_parts m_seed1 m_darkNow), (cAI g a_r 311 d_r), (cAI g a_st 44 d_st), (cAI g a_from 8 uf_16)] _ _ _ => hg _) (fun fa_154 => ?_)
      refine k_iload_n X dX11_layNight_102 1 rfl ?_
      refine k_iload_n X dX11_layNight_103 2 rfl ?_
      refine k_ic_ge 296 X dX11_layNight_104 (by decide) (fun h_155 => ?_) (fun h_155 => ?_)
      · skip
        have j_156 : z_4.toInt ≤ u_20.toInt := iv_le h_155
        obtain ⟨z_157, ez_157⟩ : ∃ y : Int32, u_20 + Int32.ofInt 1 = y := ⟨_, rfl⟩
        refine k_iinc z_157 [(3, .int z_157), (4, .int r_31), (2, .int z_4), (0, .ref h0), (1, .int p0)] 1 X dX11_layNight_296 rfl ez_157 (by decide) rfl ?_
        have i_158 : z_157.toInt = u_20.toInt + 1 := in_inc ez_157 (by decide) iv_28 (by decide) (by decide)
        have iv_159 : IV z_157 1 8 := iz1 i_158 iv_28 (by decide) (by decide)
        refine k_goto 47 X dX11_layNight_299 (by decide) ?_
        refine k_lv [(3, .int z_157), (2, .int z_4), (0, .ref h0), (1, .int p0)] [0, 2, 3, 4] rfl ?_
        refine k_sub [(cO11_i1r1i10r1i2r5i2r12i3r4i2 h0 m_thrown a_tape m_taped m_size m_at m_end m_token m_whole m_nameSize m_fault m_place m_trouble a_letters m_failed m_hasHouse a_r a_fresh a_st a_undone a_kept m_undos m_images a_from a_begin a_motor a_change a_startFrame a_changeFrame a_lostAt a_blackAt a_slips a_leftArc a_died a_arcs m_bestSum m_nearest m_nearestTown a_there a_backAt a_sorted a_parts m_seed1 m_darkNow), (cAI g a_r 311 d_r), (cAI g a_st 44 d_st), (cAI g a_from 8 uf_16), (cAI g a_begin 8 uf_12), (cAI g a_motor 8 uf_18), (cAI g a_change 8 fa_154), (cAI g a_startFrame 8 fa_32), (cAI g a_changeFrame 8 fa_152), (cAI g a_lostAt 8 fa_151), (cAI g a_blackAt 8 uf_13), (cAI g a_slips 8 d_slips)] [8, 9, 10, 11, 0, 1, 2, 3, 4, 5, 6, 7] rfl (by decide) rfl ?_
        exact ih_24 _ (by omega) uf_12 uf_13 fa_154 fa_152 uf_16 fa_151 uf_18 fa_32 z_157 rfl (iv_w iv_159 (by decide) (by decide))
      · skip
        have j_160 : u_20.toInt < z_4.toInt := iv_nle h_155
        have iv_161 : IV u_20 0 6 := iv_ltL (iv_nle h_155) iv_28 iv_29 (by decide)
        have iv_162 : IV z_4 1 7 := iv_ltR (iv_nle h_155) iv_28 iv_29 (by decide)
        have iv_163 : IV z_1 2 8 := by have := iv_30; have := iv_162; rw [IV]; omega
        refine k_aload_n X dX11_layNight_107 3 rfl ?_
        refine k_iload_n X dX11_layNight_108 1 rfl ?_
        refine k_aload_n X dX11_layNight_109 3 rfl ?_
        refine k_get (ci := 11) X inlX11 rfl 25 (by decide) dX11_layNight_110 mw178 8 rfl rfl ?_
        refine k_iload_n X dX11_layNight_113 1 rfl ?_
        refine k_iald X dX11_layNight_114 2 rfl (iv_in iv_161 (by decide) (by decide)) ?_
        refine k_nm (fun z_164 ez_164 => ?_)
        refine k_aload_n X dX11_layNight_115 3 rfl ?_
        refine k_get (ci := 11) X inlX11 rfl 25 (by decide) dX11_layNight_116 mw178 8 rfl rfl ?_
        refine k_iload_n X dX11_layNight_119 1 rfl ?_
        refine k_iald X dX11_layNight_120 2 rfl (iv_in iv_161 (by decide) (by decide)) ?_
        refine k_to z_164 ez_164.symm ?_
        refine k_iconst (v := 0) X dX11_layNight_121 (by decide) ?_
        refine k_iconst (v := 1) X dX11_layNight_122 (by decide) ?_
        refine k_callVV (n := 5) (As := [.int u_20, .int z_164, .int z_164, .int 0, .int 1]) (st := []) X [(cO11_i1r1i10r1i2r5i2r12i3r4i2 h0 m_thrown a_tape m_taped m_size m_at m_end m_token m_whole m_nameSize m_fault m_place m_trouble a_letters m_failed m_hasHouse a_r a_fresh a_st a_undone a_kept m_undos m_images a_from a_begin a_motor a_change a_startFrame a_changeFrame a_lostAt a_blackAt a_slips a_leftArc a_died a_arcs m_bestSum m_nearest m_nearestTown a_there a_backAt a_sorted a_parts m_seed1 m_darkNow), (cAI g a_from 8 uf_16), (cAI g a_begin 8 uf_12), (cAI g a_motor 8 uf_18), (cAI g a_lostAt 8 fa_151), (cAI g a_blackAt 8 uf_13)] [(cAI g a_change 8 fa_154), (cAI g a_startFrame 8 fa_32), (cAI g a_changeFrame 8 fa_152), (cAI g a_slips 8 d_slips), (cAI g a_r 311 d_r), (cAI g a_st 44 d_st)] [8, 11, 0, 1, 5, 6] [2, 3, 4, 7, 9, 10] (m_follows l g h0 u_20 z_164 z_164 0 1 m_thrown a_tape m_taped m_size m_at m_end m_token m_whole m_nameSize m_fault m_place m_trouble a_letters m_failed m_hasHouse a_r a_fresh a_st a_undone a_kept m_undos m_images a_from a_begin a_motor a_change a_startFrame a_changeFrame a_lostAt a_blackAt a_slips a_leftArc a_died a_arcs m_bestSum m_nearest m_nearestTown a_there a_backAt a_sorted a_parts m_seed1 m_darkNow uf_16 uf_12 uf_18 fa_151 uf_13 (iv_w iv_161 (by decide) (by decide))) dX11_layNight_123 mw831 mw832 mw833 mw5 mw834 rfl 11 rfl rfl 0 _ rfl yk_yX11_follows_5 rfl (Nat.le_of_ble_eq_true rfl) (Nat.le_of_ble_eq_true rfl) (Nat.le_of_ble_eq_true rfl) (Nat.le_of_ble_eq_true rfl) (Nat.le_of_ble_eq_true rfl) rfl rfl (by decide +kernel) rfl (by decide +kernel) (by decide +kernel) ?_
        rintro w ⟨d_begin2_165, d_blackAt2_166, d_from2_167, d_lostAt2_168, d_motor2_169, rfl⟩
        refine k_ws [(cAI g a_change 8 fa_154), (cAI g a_startFrame 8 fa_32), (cAI g a_changeFrame 8 fa_152), (cAI g a_slips 8 d_slips), (cAI g a_r 311 d_r), (cAI g a_st 44 d_st), (cO11_i1r1i10r1i2r5i2r12i3r4i2 h0 m_thrown a_tape m_taped m_size m_at m_end m_token m_whole m_nameSize m_fault m_place m_trouble a_letters m_failed m_hasHouse a_r a_fresh a_st a_undone a_kept m_undos m_images a_from a_begin a_motor a_change a_startFrame a_changeFrame a_lostAt a_blackAt a_slips a_leftArc a_died a_arcs m_bestSum m_nearest m_nearestTown a_there a_backAt a_sorted a_parts m_seed1 m_darkNow), (cAI g a_from 8 d_from2_167), (cAI g a_begin 8 d_begin2_165), (cAI g a_motor 8 d_motor2_169), (cAI g a_lostAt 8 d_lostAt2_168), (cAI g a_blackAt 8 d_blackAt2_166)] rfl ?_
        refine k_goto 296 X dX11_layNight_126 (by decide) ?_
        obtain ⟨z_171, ez_171⟩ : ∃ y : Int32, u_20 + Int32.ofInt 1 = y := ⟨_, rfl⟩
        refine k_iinc z_171 [(3, .int z_171), (4, .int r_31), (2, .int z_4), (0, .ref h0), (1, .int p0)] 1 X dX11_layNight_296 rfl ez_171 (by decide) rfl ?_
        have i_172 : z_171.toInt = u_20.toInt + 1 := in_inc ez_171 (by decide) iv_161 (by decide) (by decide)
        have iv_173 : IV z_171 1 7 := iz1 i_172 iv_161 (by decide) (by decide)
        refine k_goto 47 X dX11_layNight_299 (by decide) ?_
        refine k_lv [(3, .int z_171), (2, .int z_4), (0, .ref h0), (1, .int p0)] [0, 2, 3, 4] rfl ?_
        refine k_sub [(cO11_i1r1i10r1i2r5i2r12i3r4i2 h0 m_thrown a_tape m_taped m_size m_at m_end m_token m_whole m_nameSize m_fault m_place m_trouble a_letters m_failed m_hasHouse a_r a_fresh a_st a_undone a_kept m_undos m_images a_from a_begin a_motor a_change a_startFrame a_changeFrame a_lostAt a_blackAt a_slips a_leftArc a_died a_arcs m_bestSum m_nearest m_nearestTown a_there a_backAt a_sorted a_parts m_seed1 m_darkNow), (cAI g a_r 311 d_r), (cAI g a_st 44 d_st), (cAI g a_from 8 d_from2_167), (cAI g a_begin 8 d_begin2_165), (cAI g a_motor 8 d_motor2_169), (cAI g a_change 8 fa_154), (cAI g a_startFrame 8 fa_32), (cAI g a_changeFrame 8 fa_152), (cAI g a_lostAt 8 d_lostAt2_168), (cAI g a_blackAt 8 d_blackAt2_166), (cAI g a_slips 8 d_slips)] [6, 4, 5, 7, 8, 9, 0, 1, 2, 10, 11, 3] rfl (by decide) rfl ?_
        exact ih_24 _ (by omega) d_begin2_165 d_blackAt2_166 fa_154 fa_152 d_from2_167 d_lostAt2_168 d_motor2_169 fa_32 z_171 rfl (iv_w iv_173 (by decide) (by decide))

theorem dX11_layTold_0 : decode cX11_layTold 0 = .ok (.iconst 0, 1) := dk_3 rfl
theorem dX11_layTold_1 : decode cX11_layTold 1 = .ok (.istore_n 2, 1) := dk_61 rfl
theorem dX11_layTold_2 : decode cX11_layTold 2 = .ok (.iload_n 2, 1) := dk_28 rfl
theorem dX11_layTold_3 : decode cX11_layTold 3 = .ok (.bipush 8, 2) := dk_16 rfl rfl (by decide)
theorem dX11_layTold_5 : decode cX11_layTold 5 = .ok (.if_icmp .ge 28, 3) := dk_162 rfl rfl rfl (by decide)
theorem dX11_layTold_8 : decode cX11_layTold 8 = .ok (.aload_n 0, 1) := dk_42 rfl
theorem dX11_layTold_9 : decode cX11_layTold 9 = .ok (.getfield 59, 3) := dk_180 rfl rfl rfl rfl
theorem dX11_layTold_12 : decode cX11_layTold 12 = .ok (.iload_n 2, 1) := dk_28 rfl
theorem dX11_layTold_13 : decode cX11_layTold 13 = .ok (.aload_n 0, 1) := dk_42 rfl
theorem dX11_layTold_14 : decode cX11_layTold 14 = .ok (.getfield 20, 3) := dk_180 rfl rfl rfl rfl
theorem dX11_layTold_17 : decode cX11_layTold 17 = .ok (.bipush 114, 2) := dk_16 rfl rfl (by decide)
theorem dX11_layTold_19 : decode cX11_layTold 19 = .ok (.iconst 3, 1) := dk_6 rfl
theorem dX11_layTold_20 : decode cX11_layTold 20 = .ok (.iload_n 1, 1) := dk_27 rfl
theorem dX11_layTold_21 : decode cX11_layTold 21 = .ok (.imul, 1) := dk_104 rfl
theorem dX11_layTold_22 : decode cX11_layTold 22 = .ok (.iadd, 1) := dk_96 rfl
theorem dX11_layTold_23 : decode cX11_layTold 23 = .ok (.iconst 2, 1) := dk_5 rfl
theorem dX11_layTold_24 : decode cX11_layTold 24 = .ok (.iadd, 1) := dk_96 rfl
theorem dX11_layTold_25 : decode cX11_layTold 25 = .ok (.iaload, 1) := dk_46 rfl
theorem dX11_layTold_26 : decode cX11_layTold 26 = .ok (.iastore, 1) := dk_79 rfl
theorem dX11_layTold_27 : decode cX11_layTold 27 = .ok (.iinc 2 1, 3) := dk_132 rfl rfl rfl rfl (by decide)
theorem dX11_layTold_30 : decode cX11_layTold 30 = .ok (.goto (-28), 3) := dk_167 rfl rfl rfl (by decide)
theorem dX11_layTold_33 : decode cX11_layTold 33 = .ok (.aload_n 0, 1) := dk_42 rfl
theorem dX11_layTold_34 : decode cX11_layTold 34 = .ok (.iload_n 1, 1) := dk_27 rfl
theorem dX11_layTold_35 : decode cX11_layTold 35 = .ok (.invokevirtual 367, 3) := dk_182 rfl rfl rfl rfl
theorem dX11_layTold_38 : decode cX11_layTold 38 = .ok (.return_, 1) := dk_177 rfl
set_option maxHeartbeats 4000000 in
set_option maxRecDepth 100000 in
theorem m_layTold (l : Launch) (g : Gx) (h0 : Nat) (p0 : Int32) (m_thrown : Int32) (a_tape : Nat) (m_taped : Int32) (m_size : Int32) (m_at : Int32) (m_end : Int32) (m_token : Int32) (m_whole : Int32) (m_nameSize : Int32) (m_fault : Int32) (m_place : Int32) (m_trouble : Int32) (a_letters : Nat) (m_failed : Int32) (m_hasHouse : Int32) (a_r : Nat) (a_fresh : Nat) (a_st : Nat) (a_undone : Nat) (a_kept : Nat) (m_undos : Int32) (m_images : Int32) (a_from : Nat) (a_begin : Nat) (a_motor : Nat) (a_change : Nat) (a_startFrame : Nat) (a_changeFrame : Nat) (a_lostAt : Nat) (a_blackAt : Nat) (a_slips : Nat) (a_leftArc : Nat) (a_died : Nat) (a_arcs : Nat) (m_bestSum : Int32) (m_nearest : Int32) (m_nearestTown : Int32) (a_there : Nat) (a_backAt : Nat) (a_sorted : Nat) (a_parts : Nat) (m_seed1 : Int32) (m_darkNow : Int32) (d_r : Nat → Int32) (d_st : Nat → Int32) (d_from : Nat → Int32) (d_begin : Nat → Int32) (d_motor : Nat → Int32) (d_change : Nat → Int32) (d_startFrame : Nat → Int32) (d_changeFrame : Nat → Int32) (d_lostAt : Nat → Int32) (d_blackAt : Nat → Int32) (d_slips : Nat → Int32) (hv_p0 : IV p0 0 3) (hp_d_r : RInv d_r) : cV l g yX11_layTold cX11_layTold 3 4 88 0 0 [.ref h0, .int p0] [(cO11_i1r1i10r1i2r5i2r12i3r4i2 h0 m_thrown a_tape m_taped m_size m_at m_end m_token m_whole m_nameSize m_fault m_place m_trouble a_letters m_failed m_hasHouse a_r a_fresh a_st a_undone a_kept m_undos m_images a_from a_begin a_motor a_change a_startFrame a_changeFrame a_lostAt a_blackAt a_slips a_leftArc a_died a_arcs m_bestSum m_nearest m_nearestTown a_there a_backAt a_sorted a_parts m_seed1 m_darkNow), (cAI g a_r 311 d_r), (cAI g a_st 44 d_st), (cAI g a_from 8 d_from), (cAI g a_begin 8 d_begin), (cAI g a_motor 8 d_motor), (cAI g a_change 8 d_change), (cAI g a_startFrame 8 d_startFrame), (cAI g a_changeFrame 8 d_changeFrame), (cAI g a_lostAt 8 d_lostAt), (cAI g a_blackAt 8 d_blackAt), (cAI g a_slips 8 d_slips)] (fun w => ∃ (d_begin2 : Nat → Int32) (d_blackAt2 : Nat → Int32) (d_change2 : Nat → Int32) (d_changeFrame2 : Nat → Int32) (d_from2 : Nat → Int32) (d_lostAt2 : Nat → Int32) (d_motor2 : Nat → Int32) (d_slips2 : Nat → Int32) (d_startFrame2 : Nat → Int32), w = [(cO11_i1r1i10r1i2r5i2r12i3r4i2 h0 m_thrown a_tape m_taped m_size m_at m_end m_token m_whole m_nameSize m_fault m_place m_trouble a_letters m_failed m_hasHouse a_r a_fresh a_st a_undone a_kept m_undos m_images a_from a_begin a_motor a_change a_startFrame a_changeFrame a_lostAt a_blackAt a_slips a_leftArc a_died a_arcs m_bestSum m_nearest m_nearestTown a_there a_backAt a_sorted a_parts m_seed1 m_darkNow), (cAI g a_r 311 d_r), (cAI g a_st 44 d_st), (cAI g a_from 8 d_from2), (cAI g a_begin 8 d_begin2), (cAI g a_motor 8 d_motor2), (cAI g a_change 8 d_change2), (cAI g a_startFrame 8 d_startFrame2), (cAI g a_changeFrame 8 d_changeFrame2), (cAI g a_lostAt 8 d_lostAt2), (cAI g a_blackAt 8 d_blackAt2), (cAI g a_slips 8 d_slips2)]) := by
  refine cV.of (by decide) (Nat.le_of_ble_eq_true rfl) ?_
  intro p e s m args below meth c A X hr hi
  refine k_lveq [(0, .ref h0), (1, .int p0)] rfl ?_
  refine k_iconst (v := 0) X dX11_layTold_0 (by decide) ?_
  refine k_istore_n [(2, .int 0), (0, .ref h0), (1, .int p0)] X dX11_layTold_1 (by decide) rfl ?_
  refine (fun hL : ∀ (nn_4 : Nat) (uf_1 : Nat → Int32) (u_2 : Int32), (8 - u_2.toInt).toNat = nn_4 → (IV u_2 0 8) → Wk p l e _ s m args below meth c _ A g _ _ _ [(cO11_i1r1i10r1i2r5i2r12i3r4i2 h0 m_thrown a_tape m_taped m_size m_at m_end m_token m_whole m_nameSize m_fault m_place m_trouble a_letters m_failed m_hasHouse a_r a_fresh a_st a_undone a_kept m_undos m_images a_from a_begin a_motor a_change a_startFrame a_changeFrame a_lostAt a_blackAt a_slips a_leftArc a_died a_arcs m_bestSum m_nearest m_nearestTown a_there a_backAt a_sorted a_parts m_seed1 m_darkNow), (cAI g a_r 311 d_r), (cAI g a_st 44 d_st), (cAI g a_from 8 d_from), (cAI g a_begin 8 d_begin), (cAI g a_motor 8 d_motor), (cAI g a_change 8 d_change), (cAI g a_startFrame 8 d_startFrame), (cAI g a_changeFrame 8 d_changeFrame), (cAI g a_lostAt 8 d_lostAt), (cAI g a_blackAt 8 d_blackAt), (cAI g a_slips 8 uf_1)] [(2, .int u_2), (0, .ref h0), (1, .int p0)] 2 [] => hL _ d_slips 0 rfl (iv_w (show IV 0 0 0 from (by decide)) (by decide) (by decide))) ?_
  refine fun nn_4 => Nat.strongRecOn nn_4 (fun nn_4 ih_6 => ?_)
  intro uf_1 u_2 hm_5 hv_3
  refine k_iload_n X dX11_layTold_2 0 rfl ?_
  refine k_bipush (v := 8) X dX11_layTold_3 (by decide) ?_
  refine k_ic_ge 33 X dX11_layTold_5 (by decide) (fun h_7 => ?_) (fun h_7 => ?_)
  · skip
    have j_8 : 8 ≤ u_2.toInt := iv_le h_7
    have iv_9 : IV u_2 8 8 := iv_leR (iv_le h_7) (show IV 8 8 8 from (by decide)) hv_3 (by decide)
    refine k_aload_n X dX11_layTold_33 1 rfl ?_
    refine k_iload_n X dX11_layTold_34 2 rfl ?_
    refine k_callVV (n := 1) (As := [.int p0]) (st := []) X [(cO11_i1r1i10r1i2r5i2r12i3r4i2 h0 m_thrown a_tape m_taped m_size m_at m_end m_token m_whole m_nameSize m_fault m_place m_trouble a_letters m_failed m_hasHouse a_r a_fresh a_st a_undone a_kept m_undos m_images a_from a_begin a_motor a_change a_startFrame a_changeFrame a_lostAt a_blackAt a_slips a_leftArc a_died a_arcs m_bestSum m_nearest m_nearestTown a_there a_backAt a_sorted a_parts m_seed1 m_darkNow), (cAI g a_r 311 d_r), (cAI g a_st 44 d_st), (cAI g a_from 8 d_from), (cAI g a_begin 8 d_begin), (cAI g a_motor 8 d_motor), (cAI g a_change 8 d_change), (cAI g a_startFrame 8 d_startFrame), (cAI g a_changeFrame 8 d_changeFrame), (cAI g a_lostAt 8 d_lostAt), (cAI g a_blackAt 8 d_blackAt), (cAI g a_slips 8 uf_1)] [] [0, 1, 2, 3, 4, 5, 6, 7, 8, 9, 10, 11] [] (m_layNight l g h0 p0 m_thrown a_tape m_taped m_size m_at m_end m_token m_whole m_nameSize m_fault m_place m_trouble a_letters m_failed m_hasHouse a_r a_fresh a_st a_undone a_kept m_undos m_images a_from a_begin a_motor a_change a_startFrame a_changeFrame a_lostAt a_blackAt a_slips a_leftArc a_died a_arcs m_bestSum m_nearest m_nearestTown a_there a_backAt a_sorted a_parts m_seed1 m_darkNow d_r d_st d_from d_begin d_motor d_change d_startFrame d_changeFrame d_lostAt d_blackAt uf_1 (iv_w hv_p0 (by decide) (by decide)) hp_d_r) dX11_layTold_35 mw819 mw820 mw821 mw5 mw822 rfl 11 rfl rfl 0 _ rfl yk_yX11_layNight_1 rfl (Nat.le_of_ble_eq_true rfl) (Nat.le_of_ble_eq_true rfl) (Nat.le_of_ble_eq_true rfl) (Nat.le_of_ble_eq_true rfl) (Nat.le_of_ble_eq_true rfl) rfl rfl (by decide +kernel) rfl (by decide +kernel) (by decide +kernel) ?_
    rintro w ⟨d_begin2_10, d_blackAt2_11, d_change2_12, d_changeFrame2_13, d_from2_14, d_lostAt2_15, d_motor2_16, d_startFrame2_17, rfl⟩
    refine k_ws [(cO11_i1r1i10r1i2r5i2r12i3r4i2 h0 m_thrown a_tape m_taped m_size m_at m_end m_token m_whole m_nameSize m_fault m_place m_trouble a_letters m_failed m_hasHouse a_r a_fresh a_st a_undone a_kept m_undos m_images a_from a_begin a_motor a_change a_startFrame a_changeFrame a_lostAt a_blackAt a_slips a_leftArc a_died a_arcs m_bestSum m_nearest m_nearestTown a_there a_backAt a_sorted a_parts m_seed1 m_darkNow), (cAI g a_r 311 d_r), (cAI g a_st 44 d_st), (cAI g a_from 8 d_from2_14), (cAI g a_begin 8 d_begin2_10), (cAI g a_motor 8 d_motor2_16), (cAI g a_change 8 d_change2_12), (cAI g a_startFrame 8 d_startFrame2_17), (cAI g a_changeFrame 8 d_changeFrame2_13), (cAI g a_lostAt 8 d_lostAt2_15), (cAI g a_blackAt 8 d_blackAt2_11), (cAI g a_slips 8 uf_1)] rfl ?_
    exact k_vret X hr dX11_layTold_38 (Nat.le_of_ble_eq_true rfl) (Nat.le_of_ble_eq_true rfl) [0, 1, 2, 3, 4, 5, 6, 7, 8, 9, 10, 11] (by decide) rfl rfl ⟨d_begin2_10, d_blackAt2_11, d_change2_12, d_changeFrame2_13, d_from2_14, d_lostAt2_15, d_motor2_16, uf_1, d_startFrame2_17, rfl⟩
  · skip
    have j_19 : u_2.toInt < 8 := iv_nle h_7
    have iv_20 : IV u_2 0 7 := iv_ltL (iv_nle h_7) hv_3 (show IV 8 8 8 from (by decide)) (by decide)
    refine k_aload_n X dX11_layTold_8 1 rfl ?_
    refine k_get (ci := 11) X inlX11 rfl 30 (by decide) dX11_layTold_9 mw183 0 rfl rfl ?_
    refine k_iload_n X dX11_layTold_12 0 rfl ?_
    refine k_aload_n X dX11_layTold_13 1 rfl ?_
    refine k_get (ci := 11) X inlX11 rfl 15 (by decide) dX11_layTold_14 mw170 0 rfl rfl ?_
    refine k_bipush (v := 114) X dX11_layTold_17 (by decide) ?_
    refine k_iconst (v := 3) X dX11_layTold_19 (by decide) ?_
    refine k_iload_n X dX11_layTold_20 2 rfl ?_
    refine k_imul X dX11_layTold_21 ?_
    refine k_nm (fun z_21 ez_21 => ?_)
    have i_22 : z_21.toInt = 3 * p0.toInt := in_mul ez_21 (by decide) (by decide) hv_p0 (by decide) (by decide)
    have iv_23 : IV z_21 0 9 := iz4 i_22 hv_p0 (by decide) (by decide) (by decide)
    refine k_iadd X dX11_layTold_22 ?_
    refine k_nm (fun z_24 ez_24 => ?_)
    have i_25 : z_24.toInt = 114 + z_21.toInt := in_add ez_24 (show IV 114 114 114 from (by decide)) iv_23 (by decide) (by decide)
    have iv_26 : IV z_24 114 123 := iz2 i_25 iv_23 (by decide) (by decide)
    refine k_iconst (v := 2) X dX11_layTold_23 (by decide) ?_
    refine k_iadd X dX11_layTold_24 ?_
    refine k_nm (fun z_27 ez_27 => ?_)
    have i_28 : z_27.toInt = z_24.toInt + 2 := in_add ez_27 iv_26 (show IV 2 2 2 from (by decide)) (by decide) (by decide)
    have iv_29 : IV z_27 116 125 := iz1 i_28 iv_26 (by decide) (by decide)
    refine k_iald X dX11_layTold_25 1 rfl (iv_in iv_29 (by decide) (by decide)) ?_
    refine k_nm (fun z_30 ez_30 => ?_)
    have i_31 : z_27.toInt = 116 + 3 * p0.toInt := by omega
    have iv_32 : IV z_30 0 40 := rb_116_3 ez_30 hp_d_r i_31 (iv_w hv_p0 (by decide) (by decide))
    refine k_iast [(cO11_i1r1i10r1i2r5i2r12i3r4i2 h0 m_thrown a_tape m_taped m_size m_at m_end m_token m_whole m_nameSize m_fault m_place m_trouble a_letters m_failed m_hasHouse a_r a_fresh a_st a_undone a_kept m_undos m_images a_from a_begin a_motor a_change a_startFrame a_changeFrame a_lostAt a_blackAt a_slips a_leftArc a_died a_arcs m_bestSum m_nearest m_nearestTown a_there a_backAt a_sorted a_parts m_seed1 m_darkNow), (cAI g a_r 311 d_r), (cAI g a_st 44 d_st), (cAI g a_from 8 d_from), (cAI g a_begin 8 d_begin), (cAI g a_motor 8 d_motor), (cAI g a_change 8 d_change), (cAI g a_startFrame 8 d_startFrame), (cAI g a_changeFrame 8 d_changeFrame), (cAI g a_lostAt 8 d_lostAt), (cAI g a_blackAt 8 d_blackAt), (cAI g a_slips 8 (upd uf_1 (u_2 : Int32).toNatClampNeg z_30))] X dX11_layTold_26 11 rfl (iv_in iv_20 (by decide) (by decide)) rfl ?_
    refine (fun hg : ∀ fa_33 : Nat → Int32, Wk p l e _ s m args below meth c _ A g _ _ _ [(cO11_i1r1i10r1i2r5i2r12i3r4i2 h0 m_thrown a_tape m_taped m_size m_at m_end m_token m_whole m_nameSize m_fault m_place m_trouble a_letters m_failed m_hasHouse a_r a_fresh a_st a_undone a_kept m_undos m_images a_from a_begin a_motor a_change a_startFrame a_changeFrame a_lostAt a_blackAt a_slips a_leftArc a_died a_arcs m_bestSum m_nearest m_nearestTown a_there a_backAt a_sorted a_parts m_seed1 m_darkNow), (cAI g a_r 311 d_r), (cAI g a_st 44 d_st), (cAI g a_from 8 d_from), (cAI g a_begin 8 d_begin), (cAI g a_motor 8 d_motor), (cAI g a_change 8 d_change), (cAI g a_startFrame 8 d_startFrame), (cAI g a_changeFrame 8 d_changeFrame), (cAI g a_lostAt 8 d_lostAt), (cAI g a_blackAt 8 d_blackAt), (cAI g a_slips 8 fa_33)] _ _ _ => hg _) (fun fa_33 => ?_)
    obtain ⟨z_34, ez_34⟩ : ∃ y : Int32, u_2 + Int32.ofInt 1 = y := ⟨_, rfl⟩
    refine k_iinc z_34 [(2, .int z_34), (0, .ref h0), (1, .int p0)] 0 X dX11_layTold_27 rfl ez_34 (by decide) rfl ?_
    have i_35 : z_34.toInt = u_2.toInt + 1 := in_inc ez_34 (by decide) iv_20 (by decide) (by decide)
    have iv_36 : IV z_34 1 8 := iz1 i_35 iv_20 (by decide) (by decide)
    refine k_goto 2 X dX11_layTold_30 (by decide) ?_
    exact ih_6 _ (by omega) fa_33 z_34 rfl (iv_w iv_36 (by decide) (by decide))

theorem dX11_tailOf_0 : decode cX11_tailOf 0 = .ok (.aload_n 0, 1) := dk_42 rfl
theorem dX11_tailOf_1 : decode cX11_tailOf 1 = .ok (.iload_n 1, 1) := dk_27 rfl
theorem dX11_tailOf_2 : decode cX11_tailOf 2 = .ok (.invokevirtual 357, 3) := dk_182 rfl rfl rfl rfl
theorem dX11_tailOf_5 : decode cX11_tailOf 5 = .ok (.ifCond .eq 7, 3) := dk_153 rfl rfl rfl (by decide)
theorem dX11_tailOf_8 : decode cX11_tailOf 8 = .ok (.iconst 0, 1) := dk_3 rfl
theorem dX11_tailOf_9 : decode cX11_tailOf 9 = .ok (.goto 15, 3) := dk_167 rfl rfl rfl (by decide)
theorem dX11_tailOf_12 : decode cX11_tailOf 12 = .ok (.aload_n 0, 1) := dk_42 rfl
theorem dX11_tailOf_13 : decode cX11_tailOf 13 = .ok (.iload_n 1, 1) := dk_27 rfl
theorem dX11_tailOf_14 : decode cX11_tailOf 14 = .ok (.invokevirtual 354, 3) := dk_182 rfl rfl rfl rfl
theorem dX11_tailOf_17 : decode cX11_tailOf 17 = .ok (.aload_n 0, 1) := dk_42 rfl
theorem dX11_tailOf_18 : decode cX11_tailOf 18 = .ok (.getfield 50, 3) := dk_180 rfl rfl rfl rfl
theorem dX11_tailOf_21 : decode cX11_tailOf 21 = .ok (.iload_n 1, 1) := dk_27 rfl
theorem dX11_tailOf_22 : decode cX11_tailOf 22 = .ok (.iaload, 1) := dk_46 rfl
theorem dX11_tailOf_23 : decode cX11_tailOf 23 = .ok (.isub, 1) := dk_100 rfl
theorem dX11_tailOf_24 : decode cX11_tailOf 24 = .ok (.ireturn, 1) := dk_172 rfl
set_option maxHeartbeats 4000000 in
set_option maxRecDepth 100000 in
theorem m_tailOf (l : Launch) (g : Gx) (h0 : Nat) (p0 : Int32) (m_thrown : Int32) (a_tape : Nat) (m_taped : Int32) (m_size : Int32) (m_at : Int32) (m_end : Int32) (m_token : Int32) (m_whole : Int32) (m_nameSize : Int32) (m_fault : Int32) (m_place : Int32) (m_trouble : Int32) (a_letters : Nat) (m_failed : Int32) (m_hasHouse : Int32) (a_r : Nat) (a_fresh : Nat) (a_st : Nat) (a_undone : Nat) (a_kept : Nat) (m_undos : Int32) (m_images : Int32) (a_from : Nat) (a_begin : Nat) (a_motor : Nat) (a_change : Nat) (a_startFrame : Nat) (a_changeFrame : Nat) (a_lostAt : Nat) (a_blackAt : Nat) (a_slips : Nat) (a_leftArc : Nat) (a_died : Nat) (a_arcs : Nat) (m_bestSum : Int32) (m_nearest : Int32) (m_nearestTown : Int32) (a_there : Nat) (a_backAt : Nat) (a_sorted : Nat) (a_parts : Nat) (m_seed1 : Int32) (m_darkNow : Int32) (d_r : Nat → Int32) (d_st : Nat → Int32) (d_from : Nat → Int32) (d_changeFrame : Nat → Int32) (hv_p0 : IV p0 0 7) (hp_d_r : RInv d_r) : cI l g yX11_tailOf cX11_tailOf 2 (some .int) 3 63 0 0 [.ref h0, .int p0] [(cO11_i1r1i10r1i2r5i2r12i3r4i2 h0 m_thrown a_tape m_taped m_size m_at m_end m_token m_whole m_nameSize m_fault m_place m_trouble a_letters m_failed m_hasHouse a_r a_fresh a_st a_undone a_kept m_undos m_images a_from a_begin a_motor a_change a_startFrame a_changeFrame a_lostAt a_blackAt a_slips a_leftArc a_died a_arcs m_bestSum m_nearest m_nearestTown a_there a_backAt a_sorted a_parts m_seed1 m_darkNow), (cAI g a_r 311 d_r), (cAI g a_st 44 d_st), (cAI g a_from 8 d_from), (cAI g a_changeFrame 8 d_changeFrame)] (fun r w => w = [(cO11_i1r1i10r1i2r5i2r12i3r4i2 h0 m_thrown a_tape m_taped m_size m_at m_end m_token m_whole m_nameSize m_fault m_place m_trouble a_letters m_failed m_hasHouse a_r a_fresh a_st a_undone a_kept m_undos m_images a_from a_begin a_motor a_change a_startFrame a_changeFrame a_lostAt a_blackAt a_slips a_leftArc a_died a_arcs m_bestSum m_nearest m_nearestTown a_there a_backAt a_sorted a_parts m_seed1 m_darkNow), (cAI g a_r 311 d_r), (cAI g a_st 44 d_st), (cAI g a_from 8 d_from), (cAI g a_changeFrame 8 d_changeFrame)]) := by
  refine cI.of (by decide) (Nat.le_of_ble_eq_true rfl) ?_
  intro p e s m args below meth c A X hr hi
  refine k_lveq [(0, .ref h0), (1, .int p0)] rfl ?_
  refine k_aload_n X dX11_tailOf_0 0 rfl ?_
  refine k_iload_n X dX11_tailOf_1 1 rfl ?_
  refine k_callVI (n := 1) (As := [.int p0]) (st := []) X [(cO11_i1r1i10r1i2r5i2r12i3r4i2 h0 m_thrown a_tape m_taped m_size m_at m_end m_token m_whole m_nameSize m_fault m_place m_trouble a_letters m_failed m_hasHouse a_r a_fresh a_st a_undone a_kept m_undos m_images a_from a_begin a_motor a_change a_startFrame a_changeFrame a_lostAt a_blackAt a_slips a_leftArc a_died a_arcs m_bestSum m_nearest m_nearestTown a_there a_backAt a_sorted a_parts m_seed1 m_darkNow), (cAI g a_r 311 d_r), (cAI g a_st 44 d_st), (cAI g a_from 8 d_from)] [(cAI g a_changeFrame 8 d_changeFrame)] [0, 1, 2, 3] [4] (m_isGone l g h0 p0 m_thrown a_tape m_taped m_size m_at m_end m_token m_whole m_nameSize m_fault m_place m_trouble a_letters m_failed m_hasHouse a_r a_fresh a_st a_undone a_kept m_undos m_images a_from a_begin a_motor a_change a_startFrame a_changeFrame a_lostAt a_blackAt a_slips a_leftArc a_died a_arcs m_bestSum m_nearest m_nearestTown a_there a_backAt a_sorted a_parts m_seed1 m_darkNow d_r d_st d_from (iv_w hv_p0 (by decide) (by decide)) hp_d_r) dX11_tailOf_2 mw827 mw828 mw829 mw5 mw830 rfl 11 rfl rfl 0 _ rfl yk_yX11_isGone_1 rfl (Nat.le_of_ble_eq_true rfl) (Nat.le_of_ble_eq_true rfl) (Nat.le_of_ble_eq_true rfl) (Nat.le_of_ble_eq_true rfl) (Nat.le_of_ble_eq_true rfl) rfl rfl (by decide) rfl (by decide) (by decide) ?_
  rintro r_1 w ⟨iv_2, rfl⟩
  refine k_ws [(cAI g a_changeFrame 8 d_changeFrame), (cO11_i1r1i10r1i2r5i2r12i3r4i2 h0 m_thrown a_tape m_taped m_size m_at m_end m_token m_whole m_nameSize m_fault m_place m_trouble a_letters m_failed m_hasHouse a_r a_fresh a_st a_undone a_kept m_undos m_images a_from a_begin a_motor a_change a_startFrame a_changeFrame a_lostAt a_blackAt a_slips a_leftArc a_died a_arcs m_bestSum m_nearest m_nearestTown a_there a_backAt a_sorted a_parts m_seed1 m_darkNow), (cAI g a_r 311 d_r), (cAI g a_st 44 d_st), (cAI g a_from 8 d_from)] rfl ?_
  refine k_if_eq 12 X dX11_tailOf_5 (by decide) (fun h_3 => ?_) (fun h_3 => ?_)
  · skip
    have iv_4 : IV r_1 0 0 := iv_meet iv_2 (iv_e h_3 (show IV 0 0 0 from (by decide))) (by decide) (by decide)
    refine k_aload_n X dX11_tailOf_12 0 rfl ?_
    refine k_iload_n X dX11_tailOf_13 1 rfl ?_
    refine k_callVI (n := 1) (As := [.int p0]) (st := []) X [(cO11_i1r1i10r1i2r5i2r12i3r4i2 h0 m_thrown a_tape m_taped m_size m_at m_end m_token m_whole m_nameSize m_fault m_place m_trouble a_letters m_failed m_hasHouse a_r a_fresh a_st a_undone a_kept m_undos m_images a_from a_begin a_motor a_change a_startFrame a_changeFrame a_lostAt a_blackAt a_slips a_leftArc a_died a_arcs m_bestSum m_nearest m_nearestTown a_there a_backAt a_sorted a_parts m_seed1 m_darkNow), (cAI g a_r 311 d_r), (cAI g a_st 44 d_st)] [(cAI g a_changeFrame 8 d_changeFrame), (cAI g a_from 8 d_from)] [1, 2, 3] [0, 4] (m_framesAt l g h0 p0 m_thrown a_tape m_taped m_size m_at m_end m_token m_whole m_nameSize m_fault m_place m_trouble a_letters m_failed m_hasHouse a_r a_fresh a_st a_undone a_kept m_undos m_images a_from a_begin a_motor a_change a_startFrame a_changeFrame a_lostAt a_blackAt a_slips a_leftArc a_died a_arcs m_bestSum m_nearest m_nearestTown a_there a_backAt a_sorted a_parts m_seed1 m_darkNow d_r d_st (iv_w hv_p0 (by decide) (by decide)) hp_d_r) dX11_tailOf_14 mw823 mw824 mw825 mw5 mw826 rfl 11 rfl rfl 0 _ rfl yk_yX11_framesAt_1 rfl (Nat.le_of_ble_eq_true rfl) (Nat.le_of_ble_eq_true rfl) (Nat.le_of_ble_eq_true rfl) (Nat.le_of_ble_eq_true rfl) (Nat.le_of_ble_eq_true rfl) rfl rfl (by decide) rfl (by decide) (by decide) ?_
    rintro r_5 w rfl
    refine k_ws [(cAI g a_changeFrame 8 d_changeFrame), (cAI g a_from 8 d_from), (cO11_i1r1i10r1i2r5i2r12i3r4i2 h0 m_thrown a_tape m_taped m_size m_at m_end m_token m_whole m_nameSize m_fault m_place m_trouble a_letters m_failed m_hasHouse a_r a_fresh a_st a_undone a_kept m_undos m_images a_from a_begin a_motor a_change a_startFrame a_changeFrame a_lostAt a_blackAt a_slips a_leftArc a_died a_arcs m_bestSum m_nearest m_nearestTown a_there a_backAt a_sorted a_parts m_seed1 m_darkNow), (cAI g a_r 311 d_r), (cAI g a_st 44 d_st)] rfl ?_
    refine k_aload_n X dX11_tailOf_17 0 rfl ?_
    refine k_get (ci := 11) X inlX11 rfl 27 (by decide) dX11_tailOf_18 mw180 2 rfl rfl ?_
    refine k_iload_n X dX11_tailOf_21 1 rfl ?_
    refine k_iald X dX11_tailOf_22 0 rfl (iv_in hv_p0 (by decide) (by decide)) ?_
    refine k_nm (fun z_6 ez_6 => ?_)
    refine k_isub X dX11_tailOf_23 ?_
    refine k_nm (fun z_7 ez_7 => ?_)
    exact k_iret X hr dX11_tailOf_24 (Nat.le_of_ble_eq_true rfl) (Nat.le_of_ble_eq_true rfl) [2, 3, 4, 1, 0] (by decide) rfl rfl rfl
  · skip
    have iv_9 : IV r_1 1 1 := iv_neL h_3 iv_2 (show IV 0 0 0 from (by decide)) (by decide)
    refine k_iconst (v := 0) X dX11_tailOf_8 (by decide) ?_
    refine k_goto 24 X dX11_tailOf_9 (by decide) ?_
    exact k_iret X hr dX11_tailOf_24 (Nat.le_of_ble_eq_true rfl) (Nat.le_of_ble_eq_true rfl) [1, 2, 3, 4, 0] (by decide) rfl rfl rfl

theorem dX11_canTell_0 : decode cX11_canTell 0 = .ok (.aload_n 0, 1) := dk_42 rfl
theorem dX11_canTell_1 : decode cX11_canTell 1 = .ok (.iload_n 1, 1) := dk_27 rfl
theorem dX11_canTell_2 : decode cX11_canTell 2 = .ok (.invokevirtual 370, 3) := dk_182 rfl rfl rfl rfl
theorem dX11_canTell_5 : decode cX11_canTell 5 = .ok (.ifCond .eq 11, 3) := dk_153 rfl rfl rfl (by decide)
theorem dX11_canTell_8 : decode cX11_canTell 8 = .ok (.aload_n 0, 1) := dk_42 rfl
theorem dX11_canTell_9 : decode cX11_canTell 9 = .ok (.iload_n 2, 1) := dk_28 rfl
theorem dX11_canTell_10 : decode cX11_canTell 10 = .ok (.invokevirtual 345, 3) := dk_182 rfl rfl rfl rfl
theorem dX11_canTell_13 : decode cX11_canTell 13 = .ok (.ifCond .ne 5, 3) := dk_154 rfl rfl rfl (by decide)
theorem dX11_canTell_16 : decode cX11_canTell 16 = .ok (.iconst 0, 1) := dk_3 rfl
theorem dX11_canTell_17 : decode cX11_canTell 17 = .ok (.ireturn, 1) := dk_172 rfl
theorem dX11_canTell_18 : decode cX11_canTell 18 = .ok (.aload_n 0, 1) := dk_42 rfl
theorem dX11_canTell_19 : decode cX11_canTell 19 = .ok (.iload_n 1, 1) := dk_27 rfl
theorem dX11_canTell_20 : decode cX11_canTell 20 = .ok (.invokevirtual 373, 3) := dk_182 rfl rfl rfl rfl
theorem dX11_canTell_23 : decode cX11_canTell 23 = .ok (.iconst 1, 1) := dk_4 rfl
theorem dX11_canTell_24 : decode cX11_canTell 24 = .ok (.ireturn, 1) := dk_172 rfl
set_option maxHeartbeats 4000000 in
set_option maxRecDepth 100000 in
theorem m_canTell (l : Launch) (g : Gx) (h0 : Nat) (p0 : Int32) (p1 : Int32) (m_thrown : Int32) (a_tape : Nat) (m_taped : Int32) (m_size : Int32) (m_at : Int32) (m_end : Int32) (m_token : Int32) (m_whole : Int32) (m_nameSize : Int32) (m_fault : Int32) (m_place : Int32) (m_trouble : Int32) (a_letters : Nat) (m_failed : Int32) (m_hasHouse : Int32) (a_r : Nat) (a_fresh : Nat) (a_st : Nat) (a_undone : Nat) (a_kept : Nat) (m_undos : Int32) (m_images : Int32) (a_from : Nat) (a_begin : Nat) (a_motor : Nat) (a_change : Nat) (a_startFrame : Nat) (a_changeFrame : Nat) (a_lostAt : Nat) (a_blackAt : Nat) (a_slips : Nat) (a_leftArc : Nat) (a_died : Nat) (a_arcs : Nat) (m_bestSum : Int32) (m_nearest : Int32) (m_nearestTown : Int32) (a_there : Nat) (a_backAt : Nat) (a_sorted : Nat) (a_parts : Nat) (m_seed1 : Int32) (m_darkNow : Int32) (d_r : Nat → Int32) (d_st : Nat → Int32) (d_from : Nat → Int32) (d_begin : Nat → Int32) (d_motor : Nat → Int32) (d_change : Nat → Int32) (d_startFrame : Nat → Int32) (d_changeFrame : Nat → Int32) (d_lostAt : Nat → Int32) (d_blackAt : Nat → Int32) (d_slips : Nat → Int32) (hv_m_hasHouse : IV m_hasHouse 0 1) (hp_d_r : RInv d_r) : cI l g yX11_canTell cX11_canTell 3 (some .boolean) 5 110 0 0 [.ref h0, .int p0, .int p1] [(cO11_i1r1i10r1i2r5i2r12i3r4i2 h0 m_thrown a_tape m_taped m_size m_at m_end m_token m_whole m_nameSize m_fault m_place m_trouble a_letters m_failed m_hasHouse a_r a_fresh a_st a_undone a_kept m_undos m_images a_from a_begin a_motor a_change a_startFrame a_changeFrame a_lostAt a_blackAt a_slips a_leftArc a_died a_arcs m_bestSum m_nearest m_nearestTown a_there a_backAt a_sorted a_parts m_seed1 m_darkNow), (cAI g a_r 311 d_r), (cAI g a_st 44 d_st), (cAI g a_from 8 d_from), (cAI g a_begin 8 d_begin), (cAI g a_motor 8 d_motor), (cAI g a_change 8 d_change), (cAI g a_startFrame 8 d_startFrame), (cAI g a_changeFrame 8 d_changeFrame), (cAI g a_lostAt 8 d_lostAt), (cAI g a_blackAt 8 d_blackAt), (cAI g a_slips 8 d_slips)] (fun r w => ∃ (d_begin2 : Nat → Int32) (d_blackAt2 : Nat → Int32) (d_change2 : Nat → Int32) (d_changeFrame2 : Nat → Int32) (d_from2 : Nat → Int32) (d_lostAt2 : Nat → Int32) (d_motor2 : Nat → Int32) (d_slips2 : Nat → Int32) (d_startFrame2 : Nat → Int32), IV r 0 1 ∧ (r = 0 ∨ (IV p0 0 3 ∧ IV p1 0 7 ∧ p1.toInt < (d_r 12).toInt)) ∧ w = [(cO11_i1r1i10r1i2r5i2r12i3r4i2 h0 m_thrown a_tape m_taped m_size m_at m_end m_token m_whole m_nameSize m_fault m_place m_trouble a_letters m_failed m_hasHouse a_r a_fresh a_st a_undone a_kept m_undos m_images a_from a_begin a_motor a_change a_startFrame a_changeFrame a_lostAt a_blackAt a_slips a_leftArc a_died a_arcs m_bestSum m_nearest m_nearestTown a_there a_backAt a_sorted a_parts m_seed1 m_darkNow), (cAI g a_r 311 d_r), (cAI g a_st 44 d_st), (cAI g a_from 8 d_from2), (cAI g a_begin 8 d_begin2), (cAI g a_motor 8 d_motor2), (cAI g a_change 8 d_change2), (cAI g a_startFrame 8 d_startFrame2), (cAI g a_changeFrame 8 d_changeFrame2), (cAI g a_lostAt 8 d_lostAt2), (cAI g a_blackAt 8 d_blackAt2), (cAI g a_slips 8 d_slips2)]) := by
  refine cI.of (by decide) (Nat.le_of_ble_eq_true rfl) ?_
  intro p e s m args below meth c A X hr hi
  refine k_lveq [(0, .ref h0), (1, .int p0), (2, .int p1)] rfl ?_
  refine k_aload_n X dX11_canTell_0 0 rfl ?_
  refine k_iload_n X dX11_canTell_1 1 rfl ?_
  refine k_callVI (n := 1) (As := [.int p0]) (st := []) X [(cO11_i1r1i10r1i2r5i2r12i3r4i2 h0 m_thrown a_tape m_taped m_size m_at m_end m_token m_whole m_nameSize m_fault m_place m_trouble a_letters m_failed m_hasHouse a_r a_fresh a_st a_undone a_kept m_undos m_images a_from a_begin a_motor a_change a_startFrame a_changeFrame a_lostAt a_blackAt a_slips a_leftArc a_died a_arcs m_bestSum m_nearest m_nearestTown a_there a_backAt a_sorted a_parts m_seed1 m_darkNow), (cAI g a_r 311 d_r)] [(cAI g a_st 44 d_st), (cAI g a_from 8 d_from), (cAI g a_begin 8 d_begin), (cAI g a_motor 8 d_motor), (cAI g a_change 8 d_change), (cAI g a_startFrame 8 d_startFrame), (cAI g a_changeFrame 8 d_changeFrame), (cAI g a_lostAt 8 d_lostAt), (cAI g a_blackAt 8 d_blackAt), (cAI g a_slips 8 d_slips)] [0, 1] [2, 3, 4, 5, 6, 7, 8, 9, 10, 11] (m_isMan l g h0 p0 m_thrown a_tape m_taped m_size m_at m_end m_token m_whole m_nameSize m_fault m_place m_trouble a_letters m_failed m_hasHouse a_r a_fresh a_st a_undone a_kept m_undos m_images a_from a_begin a_motor a_change a_startFrame a_changeFrame a_lostAt a_blackAt a_slips a_leftArc a_died a_arcs m_bestSum m_nearest m_nearestTown a_there a_backAt a_sorted a_parts m_seed1 m_darkNow d_r (iv_w hv_m_hasHouse (by decide) (by decide)) hp_d_r) dX11_canTell_2 mw811 mw812 mw813 mw5 mw814 rfl 11 rfl rfl 0 _ rfl yk_yX11_isMan_1 rfl (Nat.le_of_ble_eq_true rfl) (Nat.le_of_ble_eq_true rfl) (Nat.le_of_ble_eq_true rfl) (Nat.le_of_ble_eq_true rfl) (Nat.le_of_ble_eq_true rfl) rfl rfl (by decide +kernel) rfl (by decide +kernel) (by decide +kernel) ?_
  rintro r_1 w ⟨iv_2, hk_3, rfl⟩
  refine k_ws [(cAI g a_st 44 d_st), (cAI g a_from 8 d_from), (cAI g a_begin 8 d_begin), (cAI g a_motor 8 d_motor), (cAI g a_change 8 d_change), (cAI g a_startFrame 8 d_startFrame), (cAI g a_changeFrame 8 d_changeFrame), (cAI g a_lostAt 8 d_lostAt), (cAI g a_blackAt 8 d_blackAt), (cAI g a_slips 8 d_slips), (cO11_i1r1i10r1i2r5i2r12i3r4i2 h0 m_thrown a_tape m_taped m_size m_at m_end m_token m_whole m_nameSize m_fault m_place m_trouble a_letters m_failed m_hasHouse a_r a_fresh a_st a_undone a_kept m_undos m_images a_from a_begin a_motor a_change a_startFrame a_changeFrame a_lostAt a_blackAt a_slips a_leftArc a_died a_arcs m_bestSum m_nearest m_nearestTown a_there a_backAt a_sorted a_parts m_seed1 m_darkNow), (cAI g a_r 311 d_r)] rfl ?_
  refine k_if_eq 16 X dX11_canTell_5 (by decide) (fun h_4 => ?_) (fun h_4 => ?_)
  · skip
    have iv_5 : IV r_1 0 0 := iv_meet iv_2 (iv_e h_4 (show IV 0 0 0 from (by decide))) (by decide) (by decide)
    refine k_iconst (v := 0) X dX11_canTell_16 (by decide) ?_
    exact k_zret X hr (by first | rfl | decide) dX11_canTell_17 (Nat.le_of_ble_eq_true rfl) (Nat.le_of_ble_eq_true rfl) [10, 11, 0, 1, 2, 3, 4, 5, 6, 7, 8, 9] (by decide) rfl rfl ⟨d_begin, d_blackAt, d_change, d_changeFrame, d_from, d_lostAt, d_motor, d_slips, d_startFrame, (iv_w (show IV 0 0 0 from (by decide)) (by decide) (by decide)), (Or.inl (iv_eq (show IV 0 0 0 from (by decide)) (show IV 0 0 0 from (by decide)))), rfl⟩
  · skip
    have hc_6 := hk_3.resolve_left h_4
    have iv_7 : IV p0 0 3 := iv_meet (iv_any p0) hc_6 (by decide) (by decide)
    have iv_8 : IV r_1 1 1 := iv_neL h_4 iv_2 (show IV 0 0 0 from (by decide)) (by decide)
    refine k_aload_n X dX11_canTell_8 0 rfl ?_
    refine k_iload_n X dX11_canTell_9 2 rfl ?_
    refine k_callVI (n := 1) (As := [.int p1]) (st := []) X [(cO11_i1r1i10r1i2r5i2r12i3r4i2 h0 m_thrown a_tape m_taped m_size m_at m_end m_token m_whole m_nameSize m_fault m_place m_trouble a_letters m_failed m_hasHouse a_r a_fresh a_st a_undone a_kept m_undos m_images a_from a_begin a_motor a_change a_startFrame a_changeFrame a_lostAt a_blackAt a_slips a_leftArc a_died a_arcs m_bestSum m_nearest m_nearestTown a_there a_backAt a_sorted a_parts m_seed1 m_darkNow), (cAI g a_r 311 d_r)] [(cAI g a_st 44 d_st), (cAI g a_from 8 d_from), (cAI g a_begin 8 d_begin), (cAI g a_motor 8 d_motor), (cAI g a_change 8 d_change), (cAI g a_startFrame 8 d_startFrame), (cAI g a_changeFrame 8 d_changeFrame), (cAI g a_lostAt 8 d_lostAt), (cAI g a_blackAt 8 d_blackAt), (cAI g a_slips 8 d_slips)] [10, 11] [0, 1, 2, 3, 4, 5, 6, 7, 8, 9] (m_isPlace l g h0 p1 m_thrown a_tape m_taped m_size m_at m_end m_token m_whole m_nameSize m_fault m_place m_trouble a_letters m_failed m_hasHouse a_r a_fresh a_st a_undone a_kept m_undos m_images a_from a_begin a_motor a_change a_startFrame a_changeFrame a_lostAt a_blackAt a_slips a_leftArc a_died a_arcs m_bestSum m_nearest m_nearestTown a_there a_backAt a_sorted a_parts m_seed1 m_darkNow d_r (iv_w hv_m_hasHouse (by decide) (by decide)) hp_d_r) dX11_canTell_10 mw719 mw720 mw721 mw5 mw722 rfl 11 rfl rfl 0 _ rfl yk_yX11_isPlace_1 rfl (Nat.le_of_ble_eq_true rfl) (Nat.le_of_ble_eq_true rfl) (Nat.le_of_ble_eq_true rfl) (Nat.le_of_ble_eq_true rfl) (Nat.le_of_ble_eq_true rfl) rfl rfl (by decide +kernel) rfl (by decide +kernel) (by decide +kernel) ?_
    rintro r_9 w ⟨iv_10, hk_11, rfl⟩
    refine k_ws [(cAI g a_st 44 d_st), (cAI g a_from 8 d_from), (cAI g a_begin 8 d_begin), (cAI g a_motor 8 d_motor), (cAI g a_change 8 d_change), (cAI g a_startFrame 8 d_startFrame), (cAI g a_changeFrame 8 d_changeFrame), (cAI g a_lostAt 8 d_lostAt), (cAI g a_blackAt 8 d_blackAt), (cAI g a_slips 8 d_slips), (cO11_i1r1i10r1i2r5i2r12i3r4i2 h0 m_thrown a_tape m_taped m_size m_at m_end m_token m_whole m_nameSize m_fault m_place m_trouble a_letters m_failed m_hasHouse a_r a_fresh a_st a_undone a_kept m_undos m_images a_from a_begin a_motor a_change a_startFrame a_changeFrame a_lostAt a_blackAt a_slips a_leftArc a_died a_arcs m_bestSum m_nearest m_nearestTown a_there a_backAt a_sorted a_parts m_seed1 m_darkNow), (cAI g a_r 311 d_r)] rfl ?_
    refine k_if_ne 18 X dX11_canTell_13 (by decide) (fun h_12 => ?_) (fun h_12 => ?_)
    · skip
      have hc_13 := hk_11.resolve_left h_12
      have iv_14 : IV p1 0 7 := iv_meet (iv_any p1) hc_13.1 (by decide) (by decide)
      have j_15 : p1.toInt < (d_r 12).toInt := hc_13.2
      have iv_16 : IV r_9 1 1 := iv_neL h_12 iv_10 (show IV 0 0 0 from (by decide)) (by decide)
      refine k_aload_n X dX11_canTell_18 0 rfl ?_
      refine k_iload_n X dX11_canTell_19 1 rfl ?_
      refine k_callVV (n := 1) (As := [.int p0]) (st := []) X [(cO11_i1r1i10r1i2r5i2r12i3r4i2 h0 m_thrown a_tape m_taped m_size m_at m_end m_token m_whole m_nameSize m_fault m_place m_trouble a_letters m_failed m_hasHouse a_r a_fresh a_st a_undone a_kept m_undos m_images a_from a_begin a_motor a_change a_startFrame a_changeFrame a_lostAt a_blackAt a_slips a_leftArc a_died a_arcs m_bestSum m_nearest m_nearestTown a_there a_backAt a_sorted a_parts m_seed1 m_darkNow), (cAI g a_r 311 d_r), (cAI g a_st 44 d_st), (cAI g a_from 8 d_from), (cAI g a_begin 8 d_begin), (cAI g a_motor 8 d_motor), (cAI g a_change 8 d_change), (cAI g a_startFrame 8 d_startFrame), (cAI g a_changeFrame 8 d_changeFrame), (cAI g a_lostAt 8 d_lostAt), (cAI g a_blackAt 8 d_blackAt), (cAI g a_slips 8 d_slips)] [] [10, 11, 0, 1, 2, 3, 4, 5, 6, 7, 8, 9] [] (m_layTold l g h0 p0 m_thrown a_tape m_taped m_size m_at m_end m_token m_whole m_nameSize m_fault m_place m_trouble a_letters m_failed m_hasHouse a_r a_fresh a_st a_undone a_kept m_undos m_images a_from a_begin a_motor a_change a_startFrame a_changeFrame a_lostAt a_blackAt a_slips a_leftArc a_died a_arcs m_bestSum m_nearest m_nearestTown a_there a_backAt a_sorted a_parts m_seed1 m_darkNow d_r d_st d_from d_begin d_motor d_change d_startFrame d_changeFrame d_lostAt d_blackAt d_slips (iv_w iv_7 (by decide) (by decide)) hp_d_r) dX11_canTell_20 mw815 mw816 mw817 mw5 mw818 rfl 11 rfl rfl 0 _ rfl yk_yX11_layTold_1 rfl (Nat.le_of_ble_eq_true rfl) (Nat.le_of_ble_eq_true rfl) (Nat.le_of_ble_eq_true rfl) (Nat.le_of_ble_eq_true rfl) (Nat.le_of_ble_eq_true rfl) rfl rfl (by decide +kernel) rfl (by decide +kernel) (by decide +kernel) ?_
      rintro w ⟨d_begin2_17, d_blackAt2_18, d_change2_19, d_changeFrame2_20, d_from2_21, d_lostAt2_22, d_motor2_23, d_slips2_24, d_startFrame2_25, rfl⟩
      refine k_ws [(cO11_i1r1i10r1i2r5i2r12i3r4i2 h0 m_thrown a_tape m_taped m_size m_at m_end m_token m_whole m_nameSize m_fault m_place m_trouble a_letters m_failed m_hasHouse a_r a_fresh a_st a_undone a_kept m_undos m_images a_from a_begin a_motor a_change a_startFrame a_changeFrame a_lostAt a_blackAt a_slips a_leftArc a_died a_arcs m_bestSum m_nearest m_nearestTown a_there a_backAt a_sorted a_parts m_seed1 m_darkNow), (cAI g a_r 311 d_r), (cAI g a_st 44 d_st), (cAI g a_from 8 d_from2_21), (cAI g a_begin 8 d_begin2_17), (cAI g a_motor 8 d_motor2_23), (cAI g a_change 8 d_change2_19), (cAI g a_startFrame 8 d_startFrame2_25), (cAI g a_changeFrame 8 d_changeFrame2_20), (cAI g a_lostAt 8 d_lostAt2_22), (cAI g a_blackAt 8 d_blackAt2_18), (cAI g a_slips 8 d_slips2_24)] rfl ?_
      refine k_iconst (v := 1) X dX11_canTell_23 (by decide) ?_
      exact k_zret X hr (by first | rfl | decide) dX11_canTell_24 (Nat.le_of_ble_eq_true rfl) (Nat.le_of_ble_eq_true rfl) [0, 1, 2, 3, 4, 5, 6, 7, 8, 9, 10, 11] (by decide) rfl rfl ⟨d_begin2_17, d_blackAt2_18, d_change2_19, d_changeFrame2_20, d_from2_21, d_lostAt2_22, d_motor2_23, d_slips2_24, d_startFrame2_25, (iv_w (show IV 1 1 1 from (by decide)) (by decide) (by decide)), (Or.inr ⟨(iv_w iv_7 (by decide) (by decide)), (iv_w iv_14 (by decide) (by decide)), (by omega)⟩), rfl⟩
    · skip
      have iv_27 : IV r_9 0 0 := iv_meet iv_10 (iv_e h_12 (show IV 0 0 0 from (by decide))) (by decide) (by decide)
      refine k_iconst (v := 0) X dX11_canTell_16 (by decide) ?_
      exact k_zret X hr (by first | rfl | decide) dX11_canTell_17 (Nat.le_of_ble_eq_true rfl) (Nat.le_of_ble_eq_true rfl) [10, 11, 0, 1, 2, 3, 4, 5, 6, 7, 8, 9] (by decide) rfl rfl ⟨d_begin, d_blackAt, d_change, d_changeFrame, d_from, d_lostAt, d_motor, d_slips, d_startFrame, (iv_w (show IV 0 0 0 from (by decide)) (by decide) (by decide)), (Or.inl (iv_eq (show IV 0 0 0 from (by decide)) (show IV 0 0 0 from (by decide)))), rfl⟩

theorem dX11_believes_0 : decode cX11_believes 0 = .ok (.aload_n 0, 1) := dk_42 rfl
theorem dX11_believes_1 : decode cX11_believes 1 = .ok (.invokevirtual 200, 3) := dk_182 rfl rfl rfl rfl
theorem dX11_believes_4 : decode cX11_believes 4 = .ok (.aload_n 0, 1) := dk_42 rfl
theorem dX11_believes_5 : decode cX11_believes 5 = .ok (.iload_n 1, 1) := dk_27 rfl
theorem dX11_believes_6 : decode cX11_believes 6 = .ok (.iload_n 2, 1) := dk_28 rfl
theorem dX11_believes_7 : decode cX11_believes 7 = .ok (.invokevirtual 376, 3) := dk_182 rfl rfl rfl rfl
theorem dX11_believes_10 : decode cX11_believes 10 = .ok (.ifCond .eq 12, 3) := dk_153 rfl rfl rfl (by decide)
theorem dX11_believes_13 : decode cX11_believes 13 = .ok (.aload_n 0, 1) := dk_42 rfl
theorem dX11_believes_14 : decode cX11_believes 14 = .ok (.iload_n 1, 1) := dk_27 rfl
theorem dX11_believes_15 : decode cX11_believes 15 = .ok (.iload_n 2, 1) := dk_28 rfl
theorem dX11_believes_16 : decode cX11_believes 16 = .ok (.invokevirtual 364, 3) := dk_182 rfl rfl rfl rfl
theorem dX11_believes_19 : decode cX11_believes 19 = .ok (.goto 8, 3) := dk_167 rfl rfl rfl (by decide)
theorem dX11_believes_22 : decode cX11_believes 22 = .ok (.aload_n 0, 1) := dk_42 rfl
theorem dX11_believes_23 : decode cX11_believes 23 = .ok (.iconst 1, 1) := dk_4 rfl
theorem dX11_believes_24 : decode cX11_believes 24 = .ok (.invokevirtual 203, 3) := dk_182 rfl rfl rfl rfl
theorem dX11_believes_27 : decode cX11_believes 27 = .ok (.ireturn, 1) := dk_172 rfl
set_option maxHeartbeats 4000000 in
set_option maxRecDepth 100000 in
theorem m_believes (l : Launch) (g : Gx) (h0 : Nat) (p0 : Int32) (p1 : Int32) (m_thrown : Int32) (a_tape : Nat) (m_taped : Int32) (m_size : Int32) (m_at : Int32) (m_end : Int32) (m_token : Int32) (m_whole : Int32) (m_nameSize : Int32) (m_fault : Int32) (m_place : Int32) (m_trouble : Int32) (a_letters : Nat) (m_failed : Int32) (m_hasHouse : Int32) (a_r : Nat) (a_fresh : Nat) (a_st : Nat) (a_undone : Nat) (a_kept : Nat) (m_undos : Int32) (m_images : Int32) (a_from : Nat) (a_begin : Nat) (a_motor : Nat) (a_change : Nat) (a_startFrame : Nat) (a_changeFrame : Nat) (a_lostAt : Nat) (a_blackAt : Nat) (a_slips : Nat) (a_leftArc : Nat) (a_died : Nat) (a_arcs : Nat) (m_bestSum : Int32) (m_nearest : Int32) (m_nearestTown : Int32) (a_there : Nat) (a_backAt : Nat) (a_sorted : Nat) (a_parts : Nat) (m_seed1 : Int32) (m_darkNow : Int32) (d_r : Nat → Int32) (d_st : Nat → Int32) (d_from : Nat → Int32) (d_begin : Nat → Int32) (d_motor : Nat → Int32) (d_change : Nat → Int32) (d_startFrame : Nat → Int32) (d_changeFrame : Nat → Int32) (d_lostAt : Nat → Int32) (d_blackAt : Nat → Int32) (d_slips : Nat → Int32) (hv_m_hasHouse : IV m_hasHouse 0 1) (hp_d_r : RInv d_r) : cI l g yX11_believes cX11_believes 3 (some .int) 6 132 0 0 [.ref h0, .int p0, .int p1] [(cO11_i1r1i10r1i2r5i2r12i3r4i2 h0 m_thrown a_tape m_taped m_size m_at m_end m_token m_whole m_nameSize m_fault m_place m_trouble a_letters m_failed m_hasHouse a_r a_fresh a_st a_undone a_kept m_undos m_images a_from a_begin a_motor a_change a_startFrame a_changeFrame a_lostAt a_blackAt a_slips a_leftArc a_died a_arcs m_bestSum m_nearest m_nearestTown a_there a_backAt a_sorted a_parts m_seed1 m_darkNow), (cAI g a_r 311 d_r), (cAI g a_st 44 d_st), (cAI g a_from 8 d_from), (cAI g a_begin 8 d_begin), (cAI g a_motor 8 d_motor), (cAI g a_change 8 d_change), (cAI g a_startFrame 8 d_startFrame), (cAI g a_changeFrame 8 d_changeFrame), (cAI g a_lostAt 8 d_lostAt), (cAI g a_blackAt 8 d_blackAt), (cAI g a_slips 8 d_slips)] (fun r w => ∃ (d_begin2 : Nat → Int32) (d_blackAt2 : Nat → Int32) (d_change2 : Nat → Int32) (d_changeFrame2 : Nat → Int32) (d_from2 : Nat → Int32) (d_lostAt2 : Nat → Int32) (d_motor2 : Nat → Int32) (d_slips2 : Nat → Int32) (d_startFrame2 : Nat → Int32) (m_thrown2 : Int32) (m_trouble2 : Int32), w = [(cO11_i1r1i10r1i2r5i2r12i3r4i2 h0 m_thrown2 a_tape m_taped m_size m_at m_end m_token m_whole m_nameSize m_fault m_place m_trouble2 a_letters m_failed m_hasHouse a_r a_fresh a_st a_undone a_kept m_undos m_images a_from a_begin a_motor a_change a_startFrame a_changeFrame a_lostAt a_blackAt a_slips a_leftArc a_died a_arcs m_bestSum m_nearest m_nearestTown a_there a_backAt a_sorted a_parts m_seed1 m_darkNow), (cAI g a_r 311 d_r), (cAI g a_st 44 d_st), (cAI g a_from 8 d_from2), (cAI g a_begin 8 d_begin2), (cAI g a_motor 8 d_motor2), (cAI g a_change 8 d_change2), (cAI g a_startFrame 8 d_startFrame2), (cAI g a_changeFrame 8 d_changeFrame2), (cAI g a_lostAt 8 d_lostAt2), (cAI g a_blackAt 8 d_blackAt2), (cAI g a_slips 8 d_slips2)]) := by
  refine cI.of (by decide) (Nat.le_of_ble_eq_true rfl) ?_
  intro p e s m args below meth c A X hr hi
  refine k_lveq [(0, .ref h0), (1, .int p0), (2, .int p1)] rfl ?_
  refine k_aload_n X dX11_believes_0 0 rfl ?_
  refine k_callVV (n := 0) (As := []) (st := []) X [(cO11_i1r1i10r1i2r5i2r12i3r4i2 h0 m_thrown a_tape m_taped m_size m_at m_end m_token m_whole m_nameSize m_fault m_place m_trouble a_letters m_failed m_hasHouse a_r a_fresh a_st a_undone a_kept m_undos m_images a_from a_begin a_motor a_change a_startFrame a_changeFrame a_lostAt a_blackAt a_slips a_leftArc a_died a_arcs m_bestSum m_nearest m_nearestTown a_there a_backAt a_sorted a_parts m_seed1 m_darkNow)] [(cAI g a_r 311 d_r), (cAI g a_st 44 d_st), (cAI g a_from 8 d_from), (cAI g a_begin 8 d_begin), (cAI g a_motor 8 d_motor), (cAI g a_change 8 d_change), (cAI g a_startFrame 8 d_startFrame), (cAI g a_changeFrame 8 d_changeFrame), (cAI g a_lostAt 8 d_lostAt), (cAI g a_blackAt 8 d_blackAt), (cAI g a_slips 8 d_slips)] [0] [1, 2, 3, 4, 5, 6, 7, 8, 9, 10, 11] (m_good l g h0 m_thrown a_tape m_taped m_size m_at m_end m_token m_whole m_nameSize m_fault m_place m_trouble a_letters m_failed m_hasHouse a_r a_fresh a_st a_undone a_kept m_undos m_images a_from a_begin a_motor a_change a_startFrame a_changeFrame a_lostAt a_blackAt a_slips a_leftArc a_died a_arcs m_bestSum m_nearest m_nearestTown a_there a_backAt a_sorted a_parts m_seed1 m_darkNow) dX11_believes_1 mw477 mw478 mw479 mw5 mw480 rfl 11 rfl rfl 0 _ rfl yk_yX11_good_0 rfl (Nat.le_of_ble_eq_true rfl) (Nat.le_of_ble_eq_true rfl) (Nat.le_of_ble_eq_true rfl) (Nat.le_of_ble_eq_true rfl) (Nat.le_of_ble_eq_true rfl) rfl rfl (by decide +kernel) rfl (by decide +kernel) (by decide +kernel) ?_
  rintro w ⟨m_thrown2_1, m_trouble2_2, rfl⟩
  refine k_ws [(cAI g a_r 311 d_r), (cAI g a_st 44 d_st), (cAI g a_from 8 d_from), (cAI g a_begin 8 d_begin), (cAI g a_motor 8 d_motor), (cAI g a_change 8 d_change), (cAI g a_startFrame 8 d_startFrame), (cAI g a_changeFrame 8 d_changeFrame), (cAI g a_lostAt 8 d_lostAt), (cAI g a_blackAt 8 d_blackAt), (cAI g a_slips 8 d_slips), (cO11_i1r1i10r1i2r5i2r12i3r4i2 h0 m_thrown2_1 a_tape m_taped m_size m_at m_end m_token m_whole m_nameSize m_fault m_place m_trouble2_2 a_letters m_failed m_hasHouse a_r a_fresh a_st a_undone a_kept m_undos m_images a_from a_begin a_motor a_change a_startFrame a_changeFrame a_lostAt a_blackAt a_slips a_leftArc a_died a_arcs m_bestSum m_nearest m_nearestTown a_there a_backAt a_sorted a_parts m_seed1 m_darkNow)] rfl ?_
  refine k_aload_n X dX11_believes_4 0 rfl ?_
  refine k_iload_n X dX11_believes_5 1 rfl ?_
  refine k_iload_n X dX11_believes_6 2 rfl ?_
  refine k_callVI (n := 2) (As := [.int p0, .int p1]) (st := []) X [(cO11_i1r1i10r1i2r5i2r12i3r4i2 h0 m_thrown2_1 a_tape m_taped m_size m_at m_end m_token m_whole m_nameSize m_fault m_place m_trouble2_2 a_letters m_failed m_hasHouse a_r a_fresh a_st a_undone a_kept m_undos m_images a_from a_begin a_motor a_change a_startFrame a_changeFrame a_lostAt a_blackAt a_slips a_leftArc a_died a_arcs m_bestSum m_nearest m_nearestTown a_there a_backAt a_sorted a_parts m_seed1 m_darkNow), (cAI g a_r 311 d_r), (cAI g a_st 44 d_st), (cAI g a_from 8 d_from), (cAI g a_begin 8 d_begin), (cAI g a_motor 8 d_motor), (cAI g a_change 8 d_change), (cAI g a_startFrame 8 d_startFrame), (cAI g a_changeFrame 8 d_changeFrame), (cAI g a_lostAt 8 d_lostAt), (cAI g a_blackAt 8 d_blackAt), (cAI g a_slips 8 d_slips)] [] [11, 0, 1, 2, 3, 4, 5, 6, 7, 8, 9, 10] [] (m_canTell l g h0 p0 p1 m_thrown2_1 a_tape m_taped m_size m_at m_end m_token m_whole m_nameSize m_fault m_place m_trouble2_2 a_letters m_failed m_hasHouse a_r a_fresh a_st a_undone a_kept m_undos m_images a_from a_begin a_motor a_change a_startFrame a_changeFrame a_lostAt a_blackAt a_slips a_leftArc a_died a_arcs m_bestSum m_nearest m_nearestTown a_there a_backAt a_sorted a_parts m_seed1 m_darkNow d_r d_st d_from d_begin d_motor d_change d_startFrame d_changeFrame d_lostAt d_blackAt d_slips (iv_w hv_m_hasHouse (by decide) (by decide)) hp_d_r) dX11_believes_7 mw807 mw808 mw809 mw5 mw810 rfl 11 rfl rfl 0 _ rfl yk_yX11_canTell_2 rfl (Nat.le_of_ble_eq_true rfl) (Nat.le_of_ble_eq_true rfl) (Nat.le_of_ble_eq_true rfl) (Nat.le_of_ble_eq_true rfl) (Nat.le_of_ble_eq_true rfl) rfl rfl (by decide +kernel) rfl (by decide +kernel) (by decide +kernel) ?_
  intro r_13 w zq
  refine exE9 zq ?_
  clear zq
  intro d_begin2_4 d_blackAt2_5 d_change2_6 d_changeFrame2_7 d_from2_8 d_lostAt2_9 d_motor2_10 d_slips2_11 d_startFrame2_12 iv_14 zq
  refine exA1 zq ?_
  clear zq
  intro hk_15 zq
  subst zq
  refine k_ws [(cO11_i1r1i10r1i2r5i2r12i3r4i2 h0 m_thrown2_1 a_tape m_taped m_size m_at m_end m_token m_whole m_nameSize m_fault m_place m_trouble2_2 a_letters m_failed m_hasHouse a_r a_fresh a_st a_undone a_kept m_undos m_images a_from a_begin a_motor a_change a_startFrame a_changeFrame a_lostAt a_blackAt a_slips a_leftArc a_died a_arcs m_bestSum m_nearest m_nearestTown a_there a_backAt a_sorted a_parts m_seed1 m_darkNow), (cAI g a_r 311 d_r), (cAI g a_st 44 d_st), (cAI g a_from 8 d_from2_8), (cAI g a_begin 8 d_begin2_4), (cAI g a_motor 8 d_motor2_10), (cAI g a_change 8 d_change2_6), (cAI g a_startFrame 8 d_startFrame2_12), (cAI g a_changeFrame 8 d_changeFrame2_7), (cAI g a_lostAt 8 d_lostAt2_9), (cAI g a_blackAt 8 d_blackAt2_5), (cAI g a_slips 8 d_slips2_11)] rfl ?_
  refine k_if_eq 22 X dX11_believes_10 (by decide) (fun h_16 => ?_) (fun h_16 => ?_)
  · skip
    have iv_17 : IV r_13 0 0 := iv_meet iv_14 (iv_e h_16 (show IV 0 0 0 from (by decide))) (by decide) (by decide)
    refine k_aload_n X dX11_believes_22 0 rfl ?_
    refine k_iconst (v := 1) X dX11_believes_23 (by decide) ?_
    refine k_callVI (n := 1) (As := [.int 1]) (st := []) X [(cO11_i1r1i10r1i2r5i2r12i3r4i2 h0 m_thrown2_1 a_tape m_taped m_size m_at m_end m_token m_whole m_nameSize m_fault m_place m_trouble2_2 a_letters m_failed m_hasHouse a_r a_fresh a_st a_undone a_kept m_undos m_images a_from a_begin a_motor a_change a_startFrame a_changeFrame a_lostAt a_blackAt a_slips a_leftArc a_died a_arcs m_bestSum m_nearest m_nearestTown a_there a_backAt a_sorted a_parts m_seed1 m_darkNow)] [(cAI g a_r 311 d_r), (cAI g a_st 44 d_st), (cAI g a_from 8 d_from2_8), (cAI g a_begin 8 d_begin2_4), (cAI g a_motor 8 d_motor2_10), (cAI g a_change 8 d_change2_6), (cAI g a_startFrame 8 d_startFrame2_12), (cAI g a_changeFrame 8 d_changeFrame2_7), (cAI g a_lostAt 8 d_lostAt2_9), (cAI g a_blackAt 8 d_blackAt2_5), (cAI g a_slips 8 d_slips2_11)] [0] [1, 2, 3, 4, 5, 6, 7, 8, 9, 10, 11] (m_no l g h0 1 m_thrown2_1 a_tape m_taped m_size m_at m_end m_token m_whole m_nameSize m_fault m_place m_trouble2_2 a_letters m_failed m_hasHouse a_r a_fresh a_st a_undone a_kept m_undos m_images a_from a_begin a_motor a_change a_startFrame a_changeFrame a_lostAt a_blackAt a_slips a_leftArc a_died a_arcs m_bestSum m_nearest m_nearestTown a_there a_backAt a_sorted a_parts m_seed1 m_darkNow) dX11_believes_24 mw485 mw486 mw487 mw5 mw488 rfl 11 rfl rfl 0 _ rfl yk_yX11_no_1 rfl (Nat.le_of_ble_eq_true rfl) (Nat.le_of_ble_eq_true rfl) (Nat.le_of_ble_eq_true rfl) (Nat.le_of_ble_eq_true rfl) (Nat.le_of_ble_eq_true rfl) rfl rfl (by decide +kernel) rfl (by decide +kernel) (by decide +kernel) ?_
    rintro r_19 w ⟨m_trouble2_18, iv_20, rfl⟩
    refine k_ws [(cAI g a_r 311 d_r), (cAI g a_st 44 d_st), (cAI g a_from 8 d_from2_8), (cAI g a_begin 8 d_begin2_4), (cAI g a_motor 8 d_motor2_10), (cAI g a_change 8 d_change2_6), (cAI g a_startFrame 8 d_startFrame2_12), (cAI g a_changeFrame 8 d_changeFrame2_7), (cAI g a_lostAt 8 d_lostAt2_9), (cAI g a_blackAt 8 d_blackAt2_5), (cAI g a_slips 8 d_slips2_11), (cO11_i1r1i10r1i2r5i2r12i3r4i2 h0 m_thrown2_1 a_tape m_taped m_size m_at m_end m_token m_whole m_nameSize m_fault m_place m_trouble2_18 a_letters m_failed m_hasHouse a_r a_fresh a_st a_undone a_kept m_undos m_images a_from a_begin a_motor a_change a_startFrame a_changeFrame a_lostAt a_blackAt a_slips a_leftArc a_died a_arcs m_bestSum m_nearest m_nearestTown a_there a_backAt a_sorted a_parts m_seed1 m_darkNow)] rfl ?_
    exact k_iret X hr dX11_believes_27 (Nat.le_of_ble_eq_true rfl) (Nat.le_of_ble_eq_true rfl) [11, 0, 1, 2, 3, 4, 5, 6, 7, 8, 9, 10] (by decide) rfl rfl ⟨d_begin2_4, d_blackAt2_5, d_change2_6, d_changeFrame2_7, d_from2_8, d_lostAt2_9, d_motor2_10, d_slips2_11, d_startFrame2_12, m_thrown2_1, m_trouble2_18, rfl⟩
  · skip
    have hc_21 := hk_15.resolve_left h_16
    have iv_22 : IV p0 0 3 := iv_meet (iv_any p0) hc_21.1 (by decide) (by decide)
    have iv_23 : IV p1 0 7 := iv_meet (iv_any p1) hc_21.2.1 (by decide) (by decide)
    have j_24 : p1.toInt < (d_r 12).toInt := hc_21.2.2
    have iv_25 : IV r_13 1 1 := iv_neL h_16 iv_14 (show IV 0 0 0 from (by decide)) (by decide)
    refine k_aload_n X dX11_believes_13 0 rfl ?_
    refine k_iload_n X dX11_believes_14 1 rfl ?_
    refine k_iload_n X dX11_believes_15 2 rfl ?_
    refine k_callVI (n := 2) (As := [.int p0, .int p1]) (st := []) X [(cO11_i1r1i10r1i2r5i2r12i3r4i2 h0 m_thrown2_1 a_tape m_taped m_size m_at m_end m_token m_whole m_nameSize m_fault m_place m_trouble2_2 a_letters m_failed m_hasHouse a_r a_fresh a_st a_undone a_kept m_undos m_images a_from a_begin a_motor a_change a_startFrame a_changeFrame a_lostAt a_blackAt a_slips a_leftArc a_died a_arcs m_bestSum m_nearest m_nearestTown a_there a_backAt a_sorted a_parts m_seed1 m_darkNow), (cAI g a_r 311 d_r), (cAI g a_st 44 d_st)] [(cAI g a_from 8 d_from2_8), (cAI g a_begin 8 d_begin2_4), (cAI g a_motor 8 d_motor2_10), (cAI g a_change 8 d_change2_6), (cAI g a_startFrame 8 d_startFrame2_12), (cAI g a_changeFrame 8 d_changeFrame2_7), (cAI g a_lostAt 8 d_lostAt2_9), (cAI g a_blackAt 8 d_blackAt2_5), (cAI g a_slips 8 d_slips2_11)] [0, 1, 2] [3, 4, 5, 6, 7, 8, 9, 10, 11] (m_believesOf l g h0 p0 p1 m_thrown2_1 a_tape m_taped m_size m_at m_end m_token m_whole m_nameSize m_fault m_place m_trouble2_2 a_letters m_failed m_hasHouse a_r a_fresh a_st a_undone a_kept m_undos m_images a_from a_begin a_motor a_change a_startFrame a_changeFrame a_lostAt a_blackAt a_slips a_leftArc a_died a_arcs m_bestSum m_nearest m_nearestTown a_there a_backAt a_sorted a_parts m_seed1 m_darkNow d_r d_st (iv_w iv_22 (by decide) (by decide)) (iv_w iv_23 (by decide) (by decide)) hp_d_r) dX11_believes_16 mw835 mw836 mw837 mw5 mw838 rfl 11 rfl rfl 0 _ rfl yk_yX11_believesOf_2 rfl (Nat.le_of_ble_eq_true rfl) (Nat.le_of_ble_eq_true rfl) (Nat.le_of_ble_eq_true rfl) (Nat.le_of_ble_eq_true rfl) (Nat.le_of_ble_eq_true rfl) rfl rfl (by decide +kernel) rfl (by decide +kernel) (by decide +kernel) ?_
    rintro r_26 w rfl
    refine k_ws [(cAI g a_from 8 d_from2_8), (cAI g a_begin 8 d_begin2_4), (cAI g a_motor 8 d_motor2_10), (cAI g a_change 8 d_change2_6), (cAI g a_startFrame 8 d_startFrame2_12), (cAI g a_changeFrame 8 d_changeFrame2_7), (cAI g a_lostAt 8 d_lostAt2_9), (cAI g a_blackAt 8 d_blackAt2_5), (cAI g a_slips 8 d_slips2_11), (cO11_i1r1i10r1i2r5i2r12i3r4i2 h0 m_thrown2_1 a_tape m_taped m_size m_at m_end m_token m_whole m_nameSize m_fault m_place m_trouble2_2 a_letters m_failed m_hasHouse a_r a_fresh a_st a_undone a_kept m_undos m_images a_from a_begin a_motor a_change a_startFrame a_changeFrame a_lostAt a_blackAt a_slips a_leftArc a_died a_arcs m_bestSum m_nearest m_nearestTown a_there a_backAt a_sorted a_parts m_seed1 m_darkNow), (cAI g a_r 311 d_r), (cAI g a_st 44 d_st)] rfl ?_
    refine k_goto 27 X dX11_believes_19 (by decide) ?_
    exact k_iret X hr dX11_believes_27 (Nat.le_of_ble_eq_true rfl) (Nat.le_of_ble_eq_true rfl) [9, 10, 11, 0, 1, 2, 3, 4, 5, 6, 7, 8] (by decide) rfl rfl ⟨d_begin2_4, d_blackAt2_5, d_change2_6, d_changeFrame2_7, d_from2_8, d_lostAt2_9, d_motor2_10, d_slips2_11, d_startFrame2_12, m_thrown2_1, m_trouble2_2, rfl⟩

theorem dX11_starts_0 : decode cX11_starts 0 = .ok (.aload_n 0, 1) := dk_42 rfl
theorem dX11_starts_1 : decode cX11_starts 1 = .ok (.invokevirtual 200, 3) := dk_182 rfl rfl rfl rfl
theorem dX11_starts_4 : decode cX11_starts 4 = .ok (.aload_n 0, 1) := dk_42 rfl
theorem dX11_starts_5 : decode cX11_starts 5 = .ok (.iload_n 1, 1) := dk_27 rfl
theorem dX11_starts_6 : decode cX11_starts 6 = .ok (.iload_n 2, 1) := dk_28 rfl
theorem dX11_starts_7 : decode cX11_starts 7 = .ok (.invokevirtual 376, 3) := dk_182 rfl rfl rfl rfl
theorem dX11_starts_10 : decode cX11_starts 10 = .ok (.ifCond .eq 12, 3) := dk_153 rfl rfl rfl (by decide)
theorem dX11_starts_13 : decode cX11_starts 13 = .ok (.aload_n 0, 1) := dk_42 rfl
theorem dX11_starts_14 : decode cX11_starts 14 = .ok (.getfield 47, 3) := dk_180 rfl rfl rfl rfl
theorem dX11_starts_17 : decode cX11_starts 17 = .ok (.iload_n 2, 1) := dk_28 rfl
theorem dX11_starts_18 : decode cX11_starts 18 = .ok (.iaload, 1) := dk_46 rfl
theorem dX11_starts_19 : decode cX11_starts 19 = .ok (.goto 8, 3) := dk_167 rfl rfl rfl (by decide)
theorem dX11_starts_22 : decode cX11_starts 22 = .ok (.aload_n 0, 1) := dk_42 rfl
theorem dX11_starts_23 : decode cX11_starts 23 = .ok (.iconst 1, 1) := dk_4 rfl
theorem dX11_starts_24 : decode cX11_starts 24 = .ok (.invokevirtual 203, 3) := dk_182 rfl rfl rfl rfl
theorem dX11_starts_27 : decode cX11_starts 27 = .ok (.ireturn, 1) := dk_172 rfl
set_option maxHeartbeats 4000000 in
set_option maxRecDepth 100000 in
theorem m_starts (l : Launch) (g : Gx) (h0 : Nat) (p0 : Int32) (p1 : Int32) (m_thrown : Int32) (a_tape : Nat) (m_taped : Int32) (m_size : Int32) (m_at : Int32) (m_end : Int32) (m_token : Int32) (m_whole : Int32) (m_nameSize : Int32) (m_fault : Int32) (m_place : Int32) (m_trouble : Int32) (a_letters : Nat) (m_failed : Int32) (m_hasHouse : Int32) (a_r : Nat) (a_fresh : Nat) (a_st : Nat) (a_undone : Nat) (a_kept : Nat) (m_undos : Int32) (m_images : Int32) (a_from : Nat) (a_begin : Nat) (a_motor : Nat) (a_change : Nat) (a_startFrame : Nat) (a_changeFrame : Nat) (a_lostAt : Nat) (a_blackAt : Nat) (a_slips : Nat) (a_leftArc : Nat) (a_died : Nat) (a_arcs : Nat) (m_bestSum : Int32) (m_nearest : Int32) (m_nearestTown : Int32) (a_there : Nat) (a_backAt : Nat) (a_sorted : Nat) (a_parts : Nat) (m_seed1 : Int32) (m_darkNow : Int32) (d_r : Nat → Int32) (d_st : Nat → Int32) (d_from : Nat → Int32) (d_begin : Nat → Int32) (d_motor : Nat → Int32) (d_change : Nat → Int32) (d_startFrame : Nat → Int32) (d_changeFrame : Nat → Int32) (d_lostAt : Nat → Int32) (d_blackAt : Nat → Int32) (d_slips : Nat → Int32) (hv_m_hasHouse : IV m_hasHouse 0 1) (hp_d_r : RInv d_r) : cI l g yX11_starts cX11_starts 3 (some .int) 6 132 0 0 [.ref h0, .int p0, .int p1] [(cO11_i1r1i10r1i2r5i2r12i3r4i2 h0 m_thrown a_tape m_taped m_size m_at m_end m_token m_whole m_nameSize m_fault m_place m_trouble a_letters m_failed m_hasHouse a_r a_fresh a_st a_undone a_kept m_undos m_images a_from a_begin a_motor a_change a_startFrame a_changeFrame a_lostAt a_blackAt a_slips a_leftArc a_died a_arcs m_bestSum m_nearest m_nearestTown a_there a_backAt a_sorted a_parts m_seed1 m_darkNow), (cAI g a_r 311 d_r), (cAI g a_st 44 d_st), (cAI g a_from 8 d_from), (cAI g a_begin 8 d_begin), (cAI g a_motor 8 d_motor), (cAI g a_change 8 d_change), (cAI g a_startFrame 8 d_startFrame), (cAI g a_changeFrame 8 d_changeFrame), (cAI g a_lostAt 8 d_lostAt), (cAI g a_blackAt 8 d_blackAt), (cAI g a_slips 8 d_slips)] (fun r w => ∃ (d_begin2 : Nat → Int32) (d_blackAt2 : Nat → Int32) (d_change2 : Nat → Int32) (d_changeFrame2 : Nat → Int32) (d_from2 : Nat → Int32) (d_lostAt2 : Nat → Int32) (d_motor2 : Nat → Int32) (d_slips2 : Nat → Int32) (d_startFrame2 : Nat → Int32) (m_thrown2 : Int32) (m_trouble2 : Int32), w = [(cO11_i1r1i10r1i2r5i2r12i3r4i2 h0 m_thrown2 a_tape m_taped m_size m_at m_end m_token m_whole m_nameSize m_fault m_place m_trouble2 a_letters m_failed m_hasHouse a_r a_fresh a_st a_undone a_kept m_undos m_images a_from a_begin a_motor a_change a_startFrame a_changeFrame a_lostAt a_blackAt a_slips a_leftArc a_died a_arcs m_bestSum m_nearest m_nearestTown a_there a_backAt a_sorted a_parts m_seed1 m_darkNow), (cAI g a_r 311 d_r), (cAI g a_st 44 d_st), (cAI g a_from 8 d_from2), (cAI g a_begin 8 d_begin2), (cAI g a_motor 8 d_motor2), (cAI g a_change 8 d_change2), (cAI g a_startFrame 8 d_startFrame2), (cAI g a_changeFrame 8 d_changeFrame2), (cAI g a_lostAt 8 d_lostAt2), (cAI g a_blackAt 8 d_blackAt2), (cAI g a_slips 8 d_slips2)]) := by
  refine cI.of (by decide) (Nat.le_of_ble_eq_true rfl) ?_
  intro p e s m args below meth c A X hr hi
  refine k_lveq [(0, .ref h0), (1, .int p0), (2, .int p1)] rfl ?_
  refine k_aload_n X dX11_starts_0 0 rfl ?_
  refine k_callVV (n := 0) (As := []) (st := []) X [(cO11_i1r1i10r1i2r5i2r12i3r4i2 h0 m_thrown a_tape m_taped m_size m_at m_end m_token m_whole m_nameSize m_fault m_place m_trouble a_letters m_failed m_hasHouse a_r a_fresh a_st a_undone a_kept m_undos m_images a_from a_begin a_motor a_change a_startFrame a_changeFrame a_lostAt a_blackAt a_slips a_leftArc a_died a_arcs m_bestSum m_nearest m_nearestTown a_there a_backAt a_sorted a_parts m_seed1 m_darkNow)] [(cAI g a_r 311 d_r), (cAI g a_st 44 d_st), (cAI g a_from 8 d_from), (cAI g a_begin 8 d_begin), (cAI g a_motor 8 d_motor), (cAI g a_change 8 d_change), (cAI g a_startFrame 8 d_startFrame), (cAI g a_changeFrame 8 d_changeFrame), (cAI g a_lostAt 8 d_lostAt), (cAI g a_blackAt 8 d_blackAt), (cAI g a_slips 8 d_slips)] [0] [1, 2, 3, 4, 5, 6, 7, 8, 9, 10, 11] (m_good l g h0 m_thrown a_tape m_taped m_size m_at m_end m_token m_whole m_nameSize m_fault m_place m_trouble a_letters m_failed m_hasHouse a_r a_fresh a_st a_undone a_kept m_undos m_images a_from a_begin a_motor a_change a_startFrame a_changeFrame a_lostAt a_blackAt a_slips a_leftArc a_died a_arcs m_bestSum m_nearest m_nearestTown a_there a_backAt a_sorted a_parts m_seed1 m_darkNow) dX11_starts_1 mw477 mw478 mw479 mw5 mw480 rfl 11 rfl rfl 0 _ rfl yk_yX11_good_0 rfl (Nat.le_of_ble_eq_true rfl) (Nat.le_of_ble_eq_true rfl) (Nat.le_of_ble_eq_true rfl) (Nat.le_of_ble_eq_true rfl) (Nat.le_of_ble_eq_true rfl) rfl rfl (by decide +kernel) rfl (by decide +kernel) (by decide +kernel) ?_
  rintro w ⟨m_thrown2_1, m_trouble2_2, rfl⟩
  refine k_ws [(cAI g a_r 311 d_r), (cAI g a_st 44 d_st), (cAI g a_from 8 d_from), (cAI g a_begin 8 d_begin), (cAI g a_motor 8 d_motor), (cAI g a_change 8 d_change), (cAI g a_startFrame 8 d_startFrame), (cAI g a_changeFrame 8 d_changeFrame), (cAI g a_lostAt 8 d_lostAt), (cAI g a_blackAt 8 d_blackAt), (cAI g a_slips 8 d_slips), (cO11_i1r1i10r1i2r5i2r12i3r4i2 h0 m_thrown2_1 a_tape m_taped m_size m_at m_end m_token m_whole m_nameSize m_fault m_place m_trouble2_2 a_letters m_failed m_hasHouse a_r a_fresh a_st a_undone a_kept m_undos m_images a_from a_begin a_motor a_change a_startFrame a_changeFrame a_lostAt a_blackAt a_slips a_leftArc a_died a_arcs m_bestSum m_nearest m_nearestTown a_there a_backAt a_sorted a_parts m_seed1 m_darkNow)] rfl ?_
  refine k_aload_n X dX11_starts_4 0 rfl ?_
  refine k_iload_n X dX11_starts_5 1 rfl ?_
  refine k_iload_n X dX11_starts_6 2 rfl ?_
  refine k_callVI (n := 2) (As := [.int p0, .int p1]) (st := []) X [(cO11_i1r1i10r1i2r5i2r12i3r4i2 h0 m_thrown2_1 a_tape m_taped m_size m_at m_end m_token m_whole m_nameSize m_fault m_place m_trouble2_2 a_letters m_failed m_hasHouse a_r a_fresh a_st a_undone a_kept m_undos m_images a_from a_begin a_motor a_change a_startFrame a_changeFrame a_lostAt a_blackAt a_slips a_leftArc a_died a_arcs m_bestSum m_nearest m_nearestTown a_there a_backAt a_sorted a_parts m_seed1 m_darkNow), (cAI g a_r 311 d_r), (cAI g a_st 44 d_st), (cAI g a_from 8 d_from), (cAI g a_begin 8 d_begin), (cAI g a_motor 8 d_motor), (cAI g a_change 8 d_change), (cAI g a_startFrame 8 d_startFrame), (cAI g a_changeFrame 8 d_changeFrame), (cAI g a_lostAt 8 d_lostAt), (cAI g a_blackAt 8 d_blackAt), (cAI g a_slips 8 d_slips)] [] [11, 0, 1, 2, 3, 4, 5, 6, 7, 8, 9, 10] [] (m_canTell l g h0 p0 p1 m_thrown2_1 a_tape m_taped m_size m_at m_end m_token m_whole m_nameSize m_fault m_place m_trouble2_2 a_letters m_failed m_hasHouse a_r a_fresh a_st a_undone a_kept m_undos m_images a_from a_begin a_motor a_change a_startFrame a_changeFrame a_lostAt a_blackAt a_slips a_leftArc a_died a_arcs m_bestSum m_nearest m_nearestTown a_there a_backAt a_sorted a_parts m_seed1 m_darkNow d_r d_st d_from d_begin d_motor d_change d_startFrame d_changeFrame d_lostAt d_blackAt d_slips (iv_w hv_m_hasHouse (by decide) (by decide)) hp_d_r) dX11_starts_7 mw807 mw808 mw809 mw5 mw810 rfl 11 rfl rfl 0 _ rfl yk_yX11_canTell_2 rfl (Nat.le_of_ble_eq_true rfl) (Nat.le_of_ble_eq_true rfl) (Nat.le_of_ble_eq_true rfl) (Nat.le_of_ble_eq_true rfl) (Nat.le_of_ble_eq_true rfl) rfl rfl (by decide +kernel) rfl (by decide +kernel) (by decide +kernel) ?_
  intro r_13 w zq
  refine exE9 zq ?_
  clear zq
  intro d_begin2_4 d_blackAt2_5 d_change2_6 d_changeFrame2_7 d_from2_8 d_lostAt2_9 d_motor2_10 d_slips2_11 d_startFrame2_12 iv_14 zq
  refine exA1 zq ?_
  clear zq
  intro hk_15 zq
  subst zq
  refine k_ws [(cO11_i1r1i10r1i2r5i2r12i3r4i2 h0 m_thrown2_1 a_tape m_taped m_size m_at m_end m_token m_whole m_nameSize m_fault m_place m_trouble2_2 a_letters m_failed m_hasHouse a_r a_fresh a_st a_undone a_kept m_undos m_images a_from a_begin a_motor a_change a_startFrame a_changeFrame a_lostAt a_blackAt a_slips a_leftArc a_died a_arcs m_bestSum m_nearest m_nearestTown a_there a_backAt a_sorted a_parts m_seed1 m_darkNow), (cAI g a_r 311 d_r), (cAI g a_st 44 d_st), (cAI g a_from 8 d_from2_8), (cAI g a_begin 8 d_begin2_4), (cAI g a_motor 8 d_motor2_10), (cAI g a_change 8 d_change2_6), (cAI g a_startFrame 8 d_startFrame2_12), (cAI g a_changeFrame 8 d_changeFrame2_7), (cAI g a_lostAt 8 d_lostAt2_9), (cAI g a_blackAt 8 d_blackAt2_5), (cAI g a_slips 8 d_slips2_11)] rfl ?_
  refine k_if_eq 22 X dX11_starts_10 (by decide) (fun h_16 => ?_) (fun h_16 => ?_)
  · skip
    have iv_17 : IV r_13 0 0 := iv_meet iv_14 (iv_e h_16 (show IV 0 0 0 from (by decide))) (by decide) (by decide)
    refine k_aload_n X dX11_starts_22 0 rfl ?_
    refine k_iconst (v := 1) X dX11_starts_23 (by decide) ?_
    refine k_callVI (n := 1) (As := [.int 1]) (st := []) X [(cO11_i1r1i10r1i2r5i2r12i3r4i2 h0 m_thrown2_1 a_tape m_taped m_size m_at m_end m_token m_whole m_nameSize m_fault m_place m_trouble2_2 a_letters m_failed m_hasHouse a_r a_fresh a_st a_undone a_kept m_undos m_images a_from a_begin a_motor a_change a_startFrame a_changeFrame a_lostAt a_blackAt a_slips a_leftArc a_died a_arcs m_bestSum m_nearest m_nearestTown a_there a_backAt a_sorted a_parts m_seed1 m_darkNow)] [(cAI g a_r 311 d_r), (cAI g a_st 44 d_st), (cAI g a_from 8 d_from2_8), (cAI g a_begin 8 d_begin2_4), (cAI g a_motor 8 d_motor2_10), (cAI g a_change 8 d_change2_6), (cAI g a_startFrame 8 d_startFrame2_12), (cAI g a_changeFrame 8 d_changeFrame2_7), (cAI g a_lostAt 8 d_lostAt2_9), (cAI g a_blackAt 8 d_blackAt2_5), (cAI g a_slips 8 d_slips2_11)] [0] [1, 2, 3, 4, 5, 6, 7, 8, 9, 10, 11] (m_no l g h0 1 m_thrown2_1 a_tape m_taped m_size m_at m_end m_token m_whole m_nameSize m_fault m_place m_trouble2_2 a_letters m_failed m_hasHouse a_r a_fresh a_st a_undone a_kept m_undos m_images a_from a_begin a_motor a_change a_startFrame a_changeFrame a_lostAt a_blackAt a_slips a_leftArc a_died a_arcs m_bestSum m_nearest m_nearestTown a_there a_backAt a_sorted a_parts m_seed1 m_darkNow) dX11_starts_24 mw485 mw486 mw487 mw5 mw488 rfl 11 rfl rfl 0 _ rfl yk_yX11_no_1 rfl (Nat.le_of_ble_eq_true rfl) (Nat.le_of_ble_eq_true rfl) (Nat.le_of_ble_eq_true rfl) (Nat.le_of_ble_eq_true rfl) (Nat.le_of_ble_eq_true rfl) rfl rfl (by decide +kernel) rfl (by decide +kernel) (by decide +kernel) ?_
    rintro r_19 w ⟨m_trouble2_18, iv_20, rfl⟩
    refine k_ws [(cAI g a_r 311 d_r), (cAI g a_st 44 d_st), (cAI g a_from 8 d_from2_8), (cAI g a_begin 8 d_begin2_4), (cAI g a_motor 8 d_motor2_10), (cAI g a_change 8 d_change2_6), (cAI g a_startFrame 8 d_startFrame2_12), (cAI g a_changeFrame 8 d_changeFrame2_7), (cAI g a_lostAt 8 d_lostAt2_9), (cAI g a_blackAt 8 d_blackAt2_5), (cAI g a_slips 8 d_slips2_11), (cO11_i1r1i10r1i2r5i2r12i3r4i2 h0 m_thrown2_1 a_tape m_taped m_size m_at m_end m_token m_whole m_nameSize m_fault m_place m_trouble2_18 a_letters m_failed m_hasHouse a_r a_fresh a_st a_undone a_kept m_undos m_images a_from a_begin a_motor a_change a_startFrame a_changeFrame a_lostAt a_blackAt a_slips a_leftArc a_died a_arcs m_bestSum m_nearest m_nearestTown a_there a_backAt a_sorted a_parts m_seed1 m_darkNow)] rfl ?_
    exact k_iret X hr dX11_starts_27 (Nat.le_of_ble_eq_true rfl) (Nat.le_of_ble_eq_true rfl) [11, 0, 1, 2, 3, 4, 5, 6, 7, 8, 9, 10] (by decide) rfl rfl ⟨d_begin2_4, d_blackAt2_5, d_change2_6, d_changeFrame2_7, d_from2_8, d_lostAt2_9, d_motor2_10, d_slips2_11, d_startFrame2_12, m_thrown2_1, m_trouble2_18, rfl⟩
  · skip
    have hc_21 := hk_15.resolve_left h_16
    have iv_22 : IV p0 0 3 := iv_meet (iv_any p0) hc_21.1 (by decide) (by decide)
    have iv_23 : IV p1 0 7 := iv_meet (iv_any p1) hc_21.2.1 (by decide) (by decide)
    have j_24 : p1.toInt < (d_r 12).toInt := hc_21.2.2
    have iv_25 : IV r_13 1 1 := iv_neL h_16 iv_14 (show IV 0 0 0 from (by decide)) (by decide)
    refine k_aload_n X dX11_starts_13 0 rfl ?_
    refine k_get (ci := 11) X inlX11 rfl 26 (by decide) dX11_starts_14 mw179 0 rfl rfl ?_
    refine k_iload_n X dX11_starts_17 2 rfl ?_
    refine k_iald X dX11_starts_18 7 rfl (iv_in iv_23 (by decide) (by decide)) ?_
    refine k_nm (fun z_26 ez_26 => ?_)
    refine k_goto 27 X dX11_starts_19 (by decide) ?_
    exact k_iret X hr dX11_starts_27 (Nat.le_of_ble_eq_true rfl) (Nat.le_of_ble_eq_true rfl) [0, 1, 2, 3, 4, 5, 6, 7, 8, 9, 10, 11] (by decide) rfl rfl ⟨d_begin2_4, d_blackAt2_5, d_change2_6, d_changeFrame2_7, d_from2_8, d_lostAt2_9, d_motor2_10, d_slips2_11, d_startFrame2_12, m_thrown2_1, m_trouble2_2, rfl⟩

theorem dX11_changes_0 : decode cX11_changes 0 = .ok (.aload_n 0, 1) := dk_42 rfl
theorem dX11_changes_1 : decode cX11_changes 1 = .ok (.invokevirtual 200, 3) := dk_182 rfl rfl rfl rfl
theorem dX11_changes_4 : decode cX11_changes 4 = .ok (.aload_n 0, 1) := dk_42 rfl
theorem dX11_changes_5 : decode cX11_changes 5 = .ok (.iload_n 1, 1) := dk_27 rfl
theorem dX11_changes_6 : decode cX11_changes 6 = .ok (.iload_n 2, 1) := dk_28 rfl
theorem dX11_changes_7 : decode cX11_changes 7 = .ok (.invokevirtual 376, 3) := dk_182 rfl rfl rfl rfl
theorem dX11_changes_10 : decode cX11_changes 10 = .ok (.ifCond .eq 12, 3) := dk_153 rfl rfl rfl (by decide)
theorem dX11_changes_13 : decode cX11_changes 13 = .ok (.aload_n 0, 1) := dk_42 rfl
theorem dX11_changes_14 : decode cX11_changes 14 = .ok (.getfield 50, 3) := dk_180 rfl rfl rfl rfl
theorem dX11_changes_17 : decode cX11_changes 17 = .ok (.iload_n 2, 1) := dk_28 rfl
theorem dX11_changes_18 : decode cX11_changes 18 = .ok (.iaload, 1) := dk_46 rfl
theorem dX11_changes_19 : decode cX11_changes 19 = .ok (.goto 8, 3) := dk_167 rfl rfl rfl (by decide)
theorem dX11_changes_22 : decode cX11_changes 22 = .ok (.aload_n 0, 1) := dk_42 rfl
theorem dX11_changes_23 : decode cX11_changes 23 = .ok (.iconst 1, 1) := dk_4 rfl
theorem dX11_changes_24 : decode cX11_changes 24 = .ok (.invokevirtual 203, 3) := dk_182 rfl rfl rfl rfl
theorem dX11_changes_27 : decode cX11_changes 27 = .ok (.ireturn, 1) := dk_172 rfl
set_option maxHeartbeats 4000000 in
set_option maxRecDepth 100000 in
theorem m_changes (l : Launch) (g : Gx) (h0 : Nat) (p0 : Int32) (p1 : Int32) (m_thrown : Int32) (a_tape : Nat) (m_taped : Int32) (m_size : Int32) (m_at : Int32) (m_end : Int32) (m_token : Int32) (m_whole : Int32) (m_nameSize : Int32) (m_fault : Int32) (m_place : Int32) (m_trouble : Int32) (a_letters : Nat) (m_failed : Int32) (m_hasHouse : Int32) (a_r : Nat) (a_fresh : Nat) (a_st : Nat) (a_undone : Nat) (a_kept : Nat) (m_undos : Int32) (m_images : Int32) (a_from : Nat) (a_begin : Nat) (a_motor : Nat) (a_change : Nat) (a_startFrame : Nat) (a_changeFrame : Nat) (a_lostAt : Nat) (a_blackAt : Nat) (a_slips : Nat) (a_leftArc : Nat) (a_died : Nat) (a_arcs : Nat) (m_bestSum : Int32) (m_nearest : Int32) (m_nearestTown : Int32) (a_there : Nat) (a_backAt : Nat) (a_sorted : Nat) (a_parts : Nat) (m_seed1 : Int32) (m_darkNow : Int32) (d_r : Nat → Int32) (d_st : Nat → Int32) (d_from : Nat → Int32) (d_begin : Nat → Int32) (d_motor : Nat → Int32) (d_change : Nat → Int32) (d_startFrame : Nat → Int32) (d_changeFrame : Nat → Int32) (d_lostAt : Nat → Int32) (d_blackAt : Nat → Int32) (d_slips : Nat → Int32) (hv_m_hasHouse : IV m_hasHouse 0 1) (hp_d_r : RInv d_r) : cI l g yX11_changes cX11_changes 3 (some .int) 6 132 0 0 [.ref h0, .int p0, .int p1] [(cO11_i1r1i10r1i2r5i2r12i3r4i2 h0 m_thrown a_tape m_taped m_size m_at m_end m_token m_whole m_nameSize m_fault m_place m_trouble a_letters m_failed m_hasHouse a_r a_fresh a_st a_undone a_kept m_undos m_images a_from a_begin a_motor a_change a_startFrame a_changeFrame a_lostAt a_blackAt a_slips a_leftArc a_died a_arcs m_bestSum m_nearest m_nearestTown a_there a_backAt a_sorted a_parts m_seed1 m_darkNow), (cAI g a_r 311 d_r), (cAI g a_st 44 d_st), (cAI g a_from 8 d_from), (cAI g a_begin 8 d_begin), (cAI g a_motor 8 d_motor), (cAI g a_change 8 d_change), (cAI g a_startFrame 8 d_startFrame), (cAI g a_changeFrame 8 d_changeFrame), (cAI g a_lostAt 8 d_lostAt), (cAI g a_blackAt 8 d_blackAt), (cAI g a_slips 8 d_slips)] (fun r w => ∃ (d_begin2 : Nat → Int32) (d_blackAt2 : Nat → Int32) (d_change2 : Nat → Int32) (d_changeFrame2 : Nat → Int32) (d_from2 : Nat → Int32) (d_lostAt2 : Nat → Int32) (d_motor2 : Nat → Int32) (d_slips2 : Nat → Int32) (d_startFrame2 : Nat → Int32) (m_thrown2 : Int32) (m_trouble2 : Int32), w = [(cO11_i1r1i10r1i2r5i2r12i3r4i2 h0 m_thrown2 a_tape m_taped m_size m_at m_end m_token m_whole m_nameSize m_fault m_place m_trouble2 a_letters m_failed m_hasHouse a_r a_fresh a_st a_undone a_kept m_undos m_images a_from a_begin a_motor a_change a_startFrame a_changeFrame a_lostAt a_blackAt a_slips a_leftArc a_died a_arcs m_bestSum m_nearest m_nearestTown a_there a_backAt a_sorted a_parts m_seed1 m_darkNow), (cAI g a_r 311 d_r), (cAI g a_st 44 d_st), (cAI g a_from 8 d_from2), (cAI g a_begin 8 d_begin2), (cAI g a_motor 8 d_motor2), (cAI g a_change 8 d_change2), (cAI g a_startFrame 8 d_startFrame2), (cAI g a_changeFrame 8 d_changeFrame2), (cAI g a_lostAt 8 d_lostAt2), (cAI g a_blackAt 8 d_blackAt2), (cAI g a_slips 8 d_slips2)]) := by
  refine cI.of (by decide) (Nat.le_of_ble_eq_true rfl) ?_
  intro p e s m args below meth c A X hr hi
  refine k_lveq [(0, .ref h0), (1, .int p0), (2, .int p1)] rfl ?_
  refine k_aload_n X dX11_changes_0 0 rfl ?_
  refine k_callVV (n := 0) (As := []) (st := []) X [(cO11_i1r1i10r1i2r5i2r12i3r4i2 h0 m_thrown a_tape m_taped m_size m_at m_end m_token m_whole m_nameSize m_fault m_place m_trouble a_letters m_failed m_hasHouse a_r a_fresh a_st a_undone a_kept m_undos m_images a_from a_begin a_motor a_change a_startFrame a_changeFrame a_lostAt a_blackAt a_slips a_leftArc a_died a_arcs m_bestSum m_nearest m_nearestTown a_there a_backAt a_sorted a_parts m_seed1 m_darkNow)] [(cAI g a_r 311 d_r), (cAI g a_st 44 d_st), (cAI g a_from 8 d_from), (cAI g a_begin 8 d_begin), (cAI g a_motor 8 d_motor), (cAI g a_change 8 d_change), (cAI g a_startFrame 8 d_startFrame), (cAI g a_changeFrame 8 d_changeFrame), (cAI g a_lostAt 8 d_lostAt), (cAI g a_blackAt 8 d_blackAt), (cAI g a_slips 8 d_slips)] [0] [1, 2, 3, 4, 5, 6, 7, 8, 9, 10, 11] (m_good l g h0 m_thrown a_tape m_taped m_size m_at m_end m_token m_whole m_nameSize m_fault m_place m_trouble a_letters m_failed m_hasHouse a_r a_fresh a_st a_undone a_kept m_undos m_images a_from a_begin a_motor a_change a_startFrame a_changeFrame a_lostAt a_blackAt a_slips a_leftArc a_died a_arcs m_bestSum m_nearest m_nearestTown a_there a_backAt a_sorted a_parts m_seed1 m_darkNow) dX11_changes_1 mw477 mw478 mw479 mw5 mw480 rfl 11 rfl rfl 0 _ rfl yk_yX11_good_0 rfl (Nat.le_of_ble_eq_true rfl) (Nat.le_of_ble_eq_true rfl) (Nat.le_of_ble_eq_true rfl) (Nat.le_of_ble_eq_true rfl) (Nat.le_of_ble_eq_true rfl) rfl rfl (by decide +kernel) rfl (by decide +kernel) (by decide +kernel) ?_
  rintro w ⟨m_thrown2_1, m_trouble2_2, rfl⟩
  refine k_ws [(cAI g a_r 311 d_r), (cAI g a_st 44 d_st), (cAI g a_from 8 d_from), (cAI g a_begin 8 d_begin), (cAI g a_motor 8 d_motor), (cAI g a_change 8 d_change), (cAI g a_startFrame 8 d_startFrame), (cAI g a_changeFrame 8 d_changeFrame), (cAI g a_lostAt 8 d_lostAt), (cAI g a_blackAt 8 d_blackAt), (cAI g a_slips 8 d_slips), (cO11_i1r1i10r1i2r5i2r12i3r4i2 h0 m_thrown2_1 a_tape m_taped m_size m_at m_end m_token m_whole m_nameSize m_fault m_place m_trouble2_2 a_letters m_failed m_hasHouse a_r a_fresh a_st a_undone a_kept m_undos m_images a_from a_begin a_motor a_change a_startFrame a_changeFrame a_lostAt a_blackAt a_slips a_leftArc a_died a_arcs m_bestSum m_nearest m_nearestTown a_there a_backAt a_sorted a_parts m_seed1 m_darkNow)] rfl ?_
  refine k_aload_n X dX11_changes_4 0 rfl ?_
  refine k_iload_n X dX11_changes_5 1 rfl ?_
  refine k_iload_n X dX11_changes_6 2 rfl ?_
  refine k_callVI (n := 2) (As := [.int p0, .int p1]) (st := []) X [(cO11_i1r1i10r1i2r5i2r12i3r4i2 h0 m_thrown2_1 a_tape m_taped m_size m_at m_end m_token m_whole m_nameSize m_fault m_place m_trouble2_2 a_letters m_failed m_hasHouse a_r a_fresh a_st a_undone a_kept m_undos m_images a_from a_begin a_motor a_change a_startFrame a_changeFrame a_lostAt a_blackAt a_slips a_leftArc a_died a_arcs m_bestSum m_nearest m_nearestTown a_there a_backAt a_sorted a_parts m_seed1 m_darkNow), (cAI g a_r 311 d_r), (cAI g a_st 44 d_st), (cAI g a_from 8 d_from), (cAI g a_begin 8 d_begin), (cAI g a_motor 8 d_motor), (cAI g a_change 8 d_change), (cAI g a_startFrame 8 d_startFrame), (cAI g a_changeFrame 8 d_changeFrame), (cAI g a_lostAt 8 d_lostAt), (cAI g a_blackAt 8 d_blackAt), (cAI g a_slips 8 d_slips)] [] [11, 0, 1, 2, 3, 4, 5, 6, 7, 8, 9, 10] [] (m_canTell l g h0 p0 p1 m_thrown2_1 a_tape m_taped m_size m_at m_end m_token m_whole m_nameSize m_fault m_place m_trouble2_2 a_letters m_failed m_hasHouse a_r a_fresh a_st a_undone a_kept m_undos m_images a_from a_begin a_motor a_change a_startFrame a_changeFrame a_lostAt a_blackAt a_slips a_leftArc a_died a_arcs m_bestSum m_nearest m_nearestTown a_there a_backAt a_sorted a_parts m_seed1 m_darkNow d_r d_st d_from d_begin d_motor d_change d_startFrame d_changeFrame d_lostAt d_blackAt d_slips (iv_w hv_m_hasHouse (by decide) (by decide)) hp_d_r) dX11_changes_7 mw807 mw808 mw809 mw5 mw810 rfl 11 rfl rfl 0 _ rfl yk_yX11_canTell_2 rfl (Nat.le_of_ble_eq_true rfl) (Nat.le_of_ble_eq_true rfl) (Nat.le_of_ble_eq_true rfl) (Nat.le_of_ble_eq_true rfl) (Nat.le_of_ble_eq_true rfl) rfl rfl (by decide +kernel) rfl (by decide +kernel) (by decide +kernel) ?_
  intro r_13 w zq
  refine exE9 zq ?_
  clear zq
  intro d_begin2_4 d_blackAt2_5 d_change2_6 d_changeFrame2_7 d_from2_8 d_lostAt2_9 d_motor2_10 d_slips2_11 d_startFrame2_12 iv_14 zq
  refine exA1 zq ?_
  clear zq
  intro hk_15 zq
  subst zq
  refine k_ws [(cO11_i1r1i10r1i2r5i2r12i3r4i2 h0 m_thrown2_1 a_tape m_taped m_size m_at m_end m_token m_whole m_nameSize m_fault m_place m_trouble2_2 a_letters m_failed m_hasHouse a_r a_fresh a_st a_undone a_kept m_undos m_images a_from a_begin a_motor a_change a_startFrame a_changeFrame a_lostAt a_blackAt a_slips a_leftArc a_died a_arcs m_bestSum m_nearest m_nearestTown a_there a_backAt a_sorted a_parts m_seed1 m_darkNow), (cAI g a_r 311 d_r), (cAI g a_st 44 d_st), (cAI g a_from 8 d_from2_8), (cAI g a_begin 8 d_begin2_4), (cAI g a_motor 8 d_motor2_10), (cAI g a_change 8 d_change2_6), (cAI g a_startFrame 8 d_startFrame2_12), (cAI g a_changeFrame 8 d_changeFrame2_7), (cAI g a_lostAt 8 d_lostAt2_9), (cAI g a_blackAt 8 d_blackAt2_5), (cAI g a_slips 8 d_slips2_11)] rfl ?_
  refine k_if_eq 22 X dX11_changes_10 (by decide) (fun h_16 => ?_) (fun h_16 => ?_)
  · skip
    have iv_17 : IV r_13 0 0 := iv_meet iv_14 (iv_e h_16 (show IV 0 0 0 from (by decide))) (by decide) (by decide)
    refine k_aload_n X dX11_changes_22 0 rfl ?_
    refine k_iconst (v := 1) X dX11_changes_23 (by decide) ?_
    refine k_callVI (n := 1) (As := [.int 1]) (st := []) X [(cO11_i1r1i10r1i2r5i2r12i3r4i2 h0 m_thrown2_1 a_tape m_taped m_size m_at m_end m_token m_whole m_nameSize m_fault m_place m_trouble2_2 a_letters m_failed m_hasHouse a_r a_fresh a_st a_undone a_kept m_undos m_images a_from a_begin a_motor a_change a_startFrame a_changeFrame a_lostAt a_blackAt a_slips a_leftArc a_died a_arcs m_bestSum m_nearest m_nearestTown a_there a_backAt a_sorted a_parts m_seed1 m_darkNow)] [(cAI g a_r 311 d_r), (cAI g a_st 44 d_st), (cAI g a_from 8 d_from2_8), (cAI g a_begin 8 d_begin2_4), (cAI g a_motor 8 d_motor2_10), (cAI g a_change 8 d_change2_6), (cAI g a_startFrame 8 d_startFrame2_12), (cAI g a_changeFrame 8 d_changeFrame2_7), (cAI g a_lostAt 8 d_lostAt2_9), (cAI g a_blackAt 8 d_blackAt2_5), (cAI g a_slips 8 d_slips2_11)] [0] [1, 2, 3, 4, 5, 6, 7, 8, 9, 10, 11] (m_no l g h0 1 m_thrown2_1 a_tape m_taped m_size m_at m_end m_token m_whole m_nameSize m_fault m_place m_trouble2_2 a_letters m_failed m_hasHouse a_r a_fresh a_st a_undone a_kept m_undos m_images a_from a_begin a_motor a_change a_startFrame a_changeFrame a_lostAt a_blackAt a_slips a_leftArc a_died a_arcs m_bestSum m_nearest m_nearestTown a_there a_backAt a_sorted a_parts m_seed1 m_darkNow) dX11_changes_24 mw485 mw486 mw487 mw5 mw488 rfl 11 rfl rfl 0 _ rfl yk_yX11_no_1 rfl (Nat.le_of_ble_eq_true rfl) (Nat.le_of_ble_eq_true rfl) (Nat.le_of_ble_eq_true rfl) (Nat.le_of_ble_eq_true rfl) (Nat.le_of_ble_eq_true rfl) rfl rfl (by decide +kernel) rfl (by decide +kernel) (by decide +kernel) ?_
    rintro r_19 w ⟨m_trouble2_18, iv_20, rfl⟩
    refine k_ws [(cAI g a_r 311 d_r), (cAI g a_st 44 d_st), (cAI g a_from 8 d_from2_8), (cAI g a_begin 8 d_begin2_4), (cAI g a_motor 8 d_motor2_10), (cAI g a_change 8 d_change2_6), (cAI g a_startFrame 8 d_startFrame2_12), (cAI g a_changeFrame 8 d_changeFrame2_7), (cAI g a_lostAt 8 d_lostAt2_9), (cAI g a_blackAt 8 d_blackAt2_5), (cAI g a_slips 8 d_slips2_11), (cO11_i1r1i10r1i2r5i2r12i3r4i2 h0 m_thrown2_1 a_tape m_taped m_size m_at m_end m_token m_whole m_nameSize m_fault m_place m_trouble2_18 a_letters m_failed m_hasHouse a_r a_fresh a_st a_undone a_kept m_undos m_images a_from a_begin a_motor a_change a_startFrame a_changeFrame a_lostAt a_blackAt a_slips a_leftArc a_died a_arcs m_bestSum m_nearest m_nearestTown a_there a_backAt a_sorted a_parts m_seed1 m_darkNow)] rfl ?_
    exact k_iret X hr dX11_changes_27 (Nat.le_of_ble_eq_true rfl) (Nat.le_of_ble_eq_true rfl) [11, 0, 1, 2, 3, 4, 5, 6, 7, 8, 9, 10] (by decide) rfl rfl ⟨d_begin2_4, d_blackAt2_5, d_change2_6, d_changeFrame2_7, d_from2_8, d_lostAt2_9, d_motor2_10, d_slips2_11, d_startFrame2_12, m_thrown2_1, m_trouble2_18, rfl⟩
  · skip
    have hc_21 := hk_15.resolve_left h_16
    have iv_22 : IV p0 0 3 := iv_meet (iv_any p0) hc_21.1 (by decide) (by decide)
    have iv_23 : IV p1 0 7 := iv_meet (iv_any p1) hc_21.2.1 (by decide) (by decide)
    have j_24 : p1.toInt < (d_r 12).toInt := hc_21.2.2
    have iv_25 : IV r_13 1 1 := iv_neL h_16 iv_14 (show IV 0 0 0 from (by decide)) (by decide)
    refine k_aload_n X dX11_changes_13 0 rfl ?_
    refine k_get (ci := 11) X inlX11 rfl 27 (by decide) dX11_changes_14 mw180 0 rfl rfl ?_
    refine k_iload_n X dX11_changes_17 2 rfl ?_
    refine k_iald X dX11_changes_18 8 rfl (iv_in iv_23 (by decide) (by decide)) ?_
    refine k_nm (fun z_26 ez_26 => ?_)
    refine k_goto 27 X dX11_changes_19 (by decide) ?_
    exact k_iret X hr dX11_changes_27 (Nat.le_of_ble_eq_true rfl) (Nat.le_of_ble_eq_true rfl) [0, 1, 2, 3, 4, 5, 6, 7, 8, 9, 10, 11] (by decide) rfl rfl ⟨d_begin2_4, d_blackAt2_5, d_change2_6, d_changeFrame2_7, d_from2_8, d_lostAt2_9, d_motor2_10, d_slips2_11, d_startFrame2_12, m_thrown2_1, m_trouble2_2, rfl⟩

theorem dX11_lost_0 : decode cX11_lost 0 = .ok (.aload_n 0, 1) := dk_42 rfl
theorem dX11_lost_1 : decode cX11_lost 1 = .ok (.invokevirtual 200, 3) := dk_182 rfl rfl rfl rfl
theorem dX11_lost_4 : decode cX11_lost 4 = .ok (.aload_n 0, 1) := dk_42 rfl
theorem dX11_lost_5 : decode cX11_lost 5 = .ok (.iload_n 1, 1) := dk_27 rfl
theorem dX11_lost_6 : decode cX11_lost 6 = .ok (.iload_n 2, 1) := dk_28 rfl
theorem dX11_lost_7 : decode cX11_lost 7 = .ok (.invokevirtual 376, 3) := dk_182 rfl rfl rfl rfl
theorem dX11_lost_10 : decode cX11_lost 10 = .ok (.ifCond .eq 12, 3) := dk_153 rfl rfl rfl (by decide)
theorem dX11_lost_13 : decode cX11_lost 13 = .ok (.aload_n 0, 1) := dk_42 rfl
theorem dX11_lost_14 : decode cX11_lost 14 = .ok (.getfield 53, 3) := dk_180 rfl rfl rfl rfl
theorem dX11_lost_17 : decode cX11_lost 17 = .ok (.iload_n 2, 1) := dk_28 rfl
theorem dX11_lost_18 : decode cX11_lost 18 = .ok (.iaload, 1) := dk_46 rfl
theorem dX11_lost_19 : decode cX11_lost 19 = .ok (.goto 8, 3) := dk_167 rfl rfl rfl (by decide)
theorem dX11_lost_22 : decode cX11_lost 22 = .ok (.aload_n 0, 1) := dk_42 rfl
theorem dX11_lost_23 : decode cX11_lost 23 = .ok (.iconst 1, 1) := dk_4 rfl
theorem dX11_lost_24 : decode cX11_lost 24 = .ok (.invokevirtual 203, 3) := dk_182 rfl rfl rfl rfl
theorem dX11_lost_27 : decode cX11_lost 27 = .ok (.ireturn, 1) := dk_172 rfl
set_option maxHeartbeats 4000000 in
set_option maxRecDepth 100000 in
theorem m_lost (l : Launch) (g : Gx) (h0 : Nat) (p0 : Int32) (p1 : Int32) (m_thrown : Int32) (a_tape : Nat) (m_taped : Int32) (m_size : Int32) (m_at : Int32) (m_end : Int32) (m_token : Int32) (m_whole : Int32) (m_nameSize : Int32) (m_fault : Int32) (m_place : Int32) (m_trouble : Int32) (a_letters : Nat) (m_failed : Int32) (m_hasHouse : Int32) (a_r : Nat) (a_fresh : Nat) (a_st : Nat) (a_undone : Nat) (a_kept : Nat) (m_undos : Int32) (m_images : Int32) (a_from : Nat) (a_begin : Nat) (a_motor : Nat) (a_change : Nat) (a_startFrame : Nat) (a_changeFrame : Nat) (a_lostAt : Nat) (a_blackAt : Nat) (a_slips : Nat) (a_leftArc : Nat) (a_died : Nat) (a_arcs : Nat) (m_bestSum : Int32) (m_nearest : Int32) (m_nearestTown : Int32) (a_there : Nat) (a_backAt : Nat) (a_sorted : Nat) (a_parts : Nat) (m_seed1 : Int32) (m_darkNow : Int32) (d_r : Nat → Int32) (d_st : Nat → Int32) (d_from : Nat → Int32) (d_begin : Nat → Int32) (d_motor : Nat → Int32) (d_change : Nat → Int32) (d_startFrame : Nat → Int32) (d_changeFrame : Nat → Int32) (d_lostAt : Nat → Int32) (d_blackAt : Nat → Int32) (d_slips : Nat → Int32) (hv_m_hasHouse : IV m_hasHouse 0 1) (hp_d_r : RInv d_r) : cI l g yX11_lost cX11_lost 3 (some .int) 6 132 0 0 [.ref h0, .int p0, .int p1] [(cO11_i1r1i10r1i2r5i2r12i3r4i2 h0 m_thrown a_tape m_taped m_size m_at m_end m_token m_whole m_nameSize m_fault m_place m_trouble a_letters m_failed m_hasHouse a_r a_fresh a_st a_undone a_kept m_undos m_images a_from a_begin a_motor a_change a_startFrame a_changeFrame a_lostAt a_blackAt a_slips a_leftArc a_died a_arcs m_bestSum m_nearest m_nearestTown a_there a_backAt a_sorted a_parts m_seed1 m_darkNow), (cAI g a_r 311 d_r), (cAI g a_st 44 d_st), (cAI g a_from 8 d_from), (cAI g a_begin 8 d_begin), (cAI g a_motor 8 d_motor), (cAI g a_change 8 d_change), (cAI g a_startFrame 8 d_startFrame), (cAI g a_changeFrame 8 d_changeFrame), (cAI g a_lostAt 8 d_lostAt), (cAI g a_blackAt 8 d_blackAt), (cAI g a_slips 8 d_slips)] (fun r w => ∃ (d_begin2 : Nat → Int32) (d_blackAt2 : Nat → Int32) (d_change2 : Nat → Int32) (d_changeFrame2 : Nat → Int32) (d_from2 : Nat → Int32) (d_lostAt2 : Nat → Int32) (d_motor2 : Nat → Int32) (d_slips2 : Nat → Int32) (d_startFrame2 : Nat → Int32) (m_thrown2 : Int32) (m_trouble2 : Int32), w = [(cO11_i1r1i10r1i2r5i2r12i3r4i2 h0 m_thrown2 a_tape m_taped m_size m_at m_end m_token m_whole m_nameSize m_fault m_place m_trouble2 a_letters m_failed m_hasHouse a_r a_fresh a_st a_undone a_kept m_undos m_images a_from a_begin a_motor a_change a_startFrame a_changeFrame a_lostAt a_blackAt a_slips a_leftArc a_died a_arcs m_bestSum m_nearest m_nearestTown a_there a_backAt a_sorted a_parts m_seed1 m_darkNow), (cAI g a_r 311 d_r), (cAI g a_st 44 d_st), (cAI g a_from 8 d_from2), (cAI g a_begin 8 d_begin2), (cAI g a_motor 8 d_motor2), (cAI g a_change 8 d_change2), (cAI g a_startFrame 8 d_startFrame2), (cAI g a_changeFrame 8 d_changeFrame2), (cAI g a_lostAt 8 d_lostAt2), (cAI g a_blackAt 8 d_blackAt2), (cAI g a_slips 8 d_slips2)]) := by
  refine cI.of (by decide) (Nat.le_of_ble_eq_true rfl) ?_
  intro p e s m args below meth c A X hr hi
  refine k_lveq [(0, .ref h0), (1, .int p0), (2, .int p1)] rfl ?_
  refine k_aload_n X dX11_lost_0 0 rfl ?_
  refine k_callVV (n := 0) (As := []) (st := []) X [(cO11_i1r1i10r1i2r5i2r12i3r4i2 h0 m_thrown a_tape m_taped m_size m_at m_end m_token m_whole m_nameSize m_fault m_place m_trouble a_letters m_failed m_hasHouse a_r a_fresh a_st a_undone a_kept m_undos m_images a_from a_begin a_motor a_change a_startFrame a_changeFrame a_lostAt a_blackAt a_slips a_leftArc a_died a_arcs m_bestSum m_nearest m_nearestTown a_there a_backAt a_sorted a_parts m_seed1 m_darkNow)] [(cAI g a_r 311 d_r), (cAI g a_st 44 d_st), (cAI g a_from 8 d_from), (cAI g a_begin 8 d_begin), (cAI g a_motor 8 d_motor), (cAI g a_change 8 d_change), (cAI g a_startFrame 8 d_startFrame), (cAI g a_changeFrame 8 d_changeFrame), (cAI g a_lostAt 8 d_lostAt), (cAI g a_blackAt 8 d_blackAt), (cAI g a_slips 8 d_slips)] [0] [1, 2, 3, 4, 5, 6, 7, 8, 9, 10, 11] (m_good l g h0 m_thrown a_tape m_taped m_size m_at m_end m_token m_whole m_nameSize m_fault m_place m_trouble a_letters m_failed m_hasHouse a_r a_fresh a_st a_undone a_kept m_undos m_images a_from a_begin a_motor a_change a_startFrame a_changeFrame a_lostAt a_blackAt a_slips a_leftArc a_died a_arcs m_bestSum m_nearest m_nearestTown a_there a_backAt a_sorted a_parts m_seed1 m_darkNow) dX11_lost_1 mw477 mw478 mw479 mw5 mw480 rfl 11 rfl rfl 0 _ rfl yk_yX11_good_0 rfl (Nat.le_of_ble_eq_true rfl) (Nat.le_of_ble_eq_true rfl) (Nat.le_of_ble_eq_true rfl) (Nat.le_of_ble_eq_true rfl) (Nat.le_of_ble_eq_true rfl) rfl rfl (by decide +kernel) rfl (by decide +kernel) (by decide +kernel) ?_
  rintro w ⟨m_thrown2_1, m_trouble2_2, rfl⟩
  refine k_ws [(cAI g a_r 311 d_r), (cAI g a_st 44 d_st), (cAI g a_from 8 d_from), (cAI g a_begin 8 d_begin), (cAI g a_motor 8 d_motor), (cAI g a_change 8 d_change), (cAI g a_startFrame 8 d_startFrame), (cAI g a_changeFrame 8 d_changeFrame), (cAI g a_lostAt 8 d_lostAt), (cAI g a_blackAt 8 d_blackAt), (cAI g a_slips 8 d_slips), (cO11_i1r1i10r1i2r5i2r12i3r4i2 h0 m_thrown2_1 a_tape m_taped m_size m_at m_end m_token m_whole m_nameSize m_fault m_place m_trouble2_2 a_letters m_failed m_hasHouse a_r a_fresh a_st a_undone a_kept m_undos m_images a_from a_begin a_motor a_change a_startFrame a_changeFrame a_lostAt a_blackAt a_slips a_leftArc a_died a_arcs m_bestSum m_nearest m_nearestTown a_there a_backAt a_sorted a_parts m_seed1 m_darkNow)] rfl ?_
  refine k_aload_n X dX11_lost_4 0 rfl ?_
  refine k_iload_n X dX11_lost_5 1 rfl ?_
  refine k_iload_n X dX11_lost_6 2 rfl ?_
  refine k_callVI (n := 2) (As := [.int p0, .int p1]) (st := []) X [(cO11_i1r1i10r1i2r5i2r12i3r4i2 h0 m_thrown2_1 a_tape m_taped m_size m_at m_end m_token m_whole m_nameSize m_fault m_place m_trouble2_2 a_letters m_failed m_hasHouse a_r a_fresh a_st a_undone a_kept m_undos m_images a_from a_begin a_motor a_change a_startFrame a_changeFrame a_lostAt a_blackAt a_slips a_leftArc a_died a_arcs m_bestSum m_nearest m_nearestTown a_there a_backAt a_sorted a_parts m_seed1 m_darkNow), (cAI g a_r 311 d_r), (cAI g a_st 44 d_st), (cAI g a_from 8 d_from), (cAI g a_begin 8 d_begin), (cAI g a_motor 8 d_motor), (cAI g a_change 8 d_change), (cAI g a_startFrame 8 d_startFrame), (cAI g a_changeFrame 8 d_changeFrame), (cAI g a_lostAt 8 d_lostAt), (cAI g a_blackAt 8 d_blackAt), (cAI g a_slips 8 d_slips)] [] [11, 0, 1, 2, 3, 4, 5, 6, 7, 8, 9, 10] [] (m_canTell l g h0 p0 p1 m_thrown2_1 a_tape m_taped m_size m_at m_end m_token m_whole m_nameSize m_fault m_place m_trouble2_2 a_letters m_failed m_hasHouse a_r a_fresh a_st a_undone a_kept m_undos m_images a_from a_begin a_motor a_change a_startFrame a_changeFrame a_lostAt a_blackAt a_slips a_leftArc a_died a_arcs m_bestSum m_nearest m_nearestTown a_there a_backAt a_sorted a_parts m_seed1 m_darkNow d_r d_st d_from d_begin d_motor d_change d_startFrame d_changeFrame d_lostAt d_blackAt d_slips (iv_w hv_m_hasHouse (by decide) (by decide)) hp_d_r) dX11_lost_7 mw807 mw808 mw809 mw5 mw810 rfl 11 rfl rfl 0 _ rfl yk_yX11_canTell_2 rfl (Nat.le_of_ble_eq_true rfl) (Nat.le_of_ble_eq_true rfl) (Nat.le_of_ble_eq_true rfl) (Nat.le_of_ble_eq_true rfl) (Nat.le_of_ble_eq_true rfl) rfl rfl (by decide +kernel) rfl (by decide +kernel) (by decide +kernel) ?_
  intro r_13 w zq
  refine exE9 zq ?_
  clear zq
  intro d_begin2_4 d_blackAt2_5 d_change2_6 d_changeFrame2_7 d_from2_8 d_lostAt2_9 d_motor2_10 d_slips2_11 d_startFrame2_12 iv_14 zq
  refine exA1 zq ?_
  clear zq
  intro hk_15 zq
  subst zq
  refine k_ws [(cO11_i1r1i10r1i2r5i2r12i3r4i2 h0 m_thrown2_1 a_tape m_taped m_size m_at m_end m_token m_whole m_nameSize m_fault m_place m_trouble2_2 a_letters m_failed m_hasHouse a_r a_fresh a_st a_undone a_kept m_undos m_images a_from a_begin a_motor a_change a_startFrame a_changeFrame a_lostAt a_blackAt a_slips a_leftArc a_died a_arcs m_bestSum m_nearest m_nearestTown a_there a_backAt a_sorted a_parts m_seed1 m_darkNow), (cAI g a_r 311 d_r), (cAI g a_st 44 d_st), (cAI g a_from 8 d_from2_8), (cAI g a_begin 8 d_begin2_4), (cAI g a_motor 8 d_motor2_10), (cAI g a_change 8 d_change2_6), (cAI g a_startFrame 8 d_startFrame2_12), (cAI g a_changeFrame 8 d_changeFrame2_7), (cAI g a_lostAt 8 d_lostAt2_9), (cAI g a_blackAt 8 d_blackAt2_5), (cAI g a_slips 8 d_slips2_11)] rfl ?_
  refine k_if_eq 22 X dX11_lost_10 (by decide) (fun h_16 => ?_) (fun h_16 => ?_)
  · skip
    have iv_17 : IV r_13 0 0 := iv_meet iv_14 (iv_e h_16 (show IV 0 0 0 from (by decide))) (by decide) (by decide)
    refine k_aload_n X dX11_lost_22 0 rfl ?_
    refine k_iconst (v := 1) X dX11_lost_23 (by decide) ?_
    refine k_callVI (n := 1) (As := [.int 1]) (st := []) X [(cO11_i1r1i10r1i2r5i2r12i3r4i2 h0 m_thrown2_1 a_tape m_taped m_size m_at m_end m_token m_whole m_nameSize m_fault m_place m_trouble2_2 a_letters m_failed m_hasHouse a_r a_fresh a_st a_undone a_kept m_undos m_images a_from a_begin a_motor a_change a_startFrame a_changeFrame a_lostAt a_blackAt a_slips a_leftArc a_died a_arcs m_bestSum m_nearest m_nearestTown a_there a_backAt a_sorted a_parts m_seed1 m_darkNow)] [(cAI g a_r 311 d_r), (cAI g a_st 44 d_st), (cAI g a_from 8 d_from2_8), (cAI g a_begin 8 d_begin2_4), (cAI g a_motor 8 d_motor2_10), (cAI g a_change 8 d_change2_6), (cAI g a_startFrame 8 d_startFrame2_12), (cAI g a_changeFrame 8 d_changeFrame2_7), (cAI g a_lostAt 8 d_lostAt2_9), (cAI g a_blackAt 8 d_blackAt2_5), (cAI g a_slips 8 d_slips2_11)] [0] [1, 2, 3, 4, 5, 6, 7, 8, 9, 10, 11] (m_no l g h0 1 m_thrown2_1 a_tape m_taped m_size m_at m_end m_token m_whole m_nameSize m_fault m_place m_trouble2_2 a_letters m_failed m_hasHouse a_r a_fresh a_st a_undone a_kept m_undos m_images a_from a_begin a_motor a_change a_startFrame a_changeFrame a_lostAt a_blackAt a_slips a_leftArc a_died a_arcs m_bestSum m_nearest m_nearestTown a_there a_backAt a_sorted a_parts m_seed1 m_darkNow) dX11_lost_24 mw485 mw486 mw487 mw5 mw488 rfl 11 rfl rfl 0 _ rfl yk_yX11_no_1 rfl (Nat.le_of_ble_eq_true rfl) (Nat.le_of_ble_eq_true rfl) (Nat.le_of_ble_eq_true rfl) (Nat.le_of_ble_eq_true rfl) (Nat.le_of_ble_eq_true rfl) rfl rfl (by decide +kernel) rfl (by decide +kernel) (by decide +kernel) ?_
    rintro r_19 w ⟨m_trouble2_18, iv_20, rfl⟩
    refine k_ws [(cAI g a_r 311 d_r), (cAI g a_st 44 d_st), (cAI g a_from 8 d_from2_8), (cAI g a_begin 8 d_begin2_4), (cAI g a_motor 8 d_motor2_10), (cAI g a_change 8 d_change2_6), (cAI g a_startFrame 8 d_startFrame2_12), (cAI g a_changeFrame 8 d_changeFrame2_7), (cAI g a_lostAt 8 d_lostAt2_9), (cAI g a_blackAt 8 d_blackAt2_5), (cAI g a_slips 8 d_slips2_11), (cO11_i1r1i10r1i2r5i2r12i3r4i2 h0 m_thrown2_1 a_tape m_taped m_size m_at m_end m_token m_whole m_nameSize m_fault m_place m_trouble2_18 a_letters m_failed m_hasHouse a_r a_fresh a_st a_undone a_kept m_undos m_images a_from a_begin a_motor a_change a_startFrame a_changeFrame a_lostAt a_blackAt a_slips a_leftArc a_died a_arcs m_bestSum m_nearest m_nearestTown a_there a_backAt a_sorted a_parts m_seed1 m_darkNow)] rfl ?_
    exact k_iret X hr dX11_lost_27 (Nat.le_of_ble_eq_true rfl) (Nat.le_of_ble_eq_true rfl) [11, 0, 1, 2, 3, 4, 5, 6, 7, 8, 9, 10] (by decide) rfl rfl ⟨d_begin2_4, d_blackAt2_5, d_change2_6, d_changeFrame2_7, d_from2_8, d_lostAt2_9, d_motor2_10, d_slips2_11, d_startFrame2_12, m_thrown2_1, m_trouble2_18, rfl⟩
  · skip
    have hc_21 := hk_15.resolve_left h_16
    have iv_22 : IV p0 0 3 := iv_meet (iv_any p0) hc_21.1 (by decide) (by decide)
    have iv_23 : IV p1 0 7 := iv_meet (iv_any p1) hc_21.2.1 (by decide) (by decide)
    have j_24 : p1.toInt < (d_r 12).toInt := hc_21.2.2
    have iv_25 : IV r_13 1 1 := iv_neL h_16 iv_14 (show IV 0 0 0 from (by decide)) (by decide)
    refine k_aload_n X dX11_lost_13 0 rfl ?_
    refine k_get (ci := 11) X inlX11 rfl 28 (by decide) dX11_lost_14 mw181 0 rfl rfl ?_
    refine k_iload_n X dX11_lost_17 2 rfl ?_
    refine k_iald X dX11_lost_18 9 rfl (iv_in iv_23 (by decide) (by decide)) ?_
    refine k_nm (fun z_26 ez_26 => ?_)
    refine k_goto 27 X dX11_lost_19 (by decide) ?_
    exact k_iret X hr dX11_lost_27 (Nat.le_of_ble_eq_true rfl) (Nat.le_of_ble_eq_true rfl) [0, 1, 2, 3, 4, 5, 6, 7, 8, 9, 10, 11] (by decide) rfl rfl ⟨d_begin2_4, d_blackAt2_5, d_change2_6, d_changeFrame2_7, d_from2_8, d_lostAt2_9, d_motor2_10, d_slips2_11, d_startFrame2_12, m_thrown2_1, m_trouble2_2, rfl⟩

theorem dX11_black_0 : decode cX11_black 0 = .ok (.aload_n 0, 1) := dk_42 rfl
theorem dX11_black_1 : decode cX11_black 1 = .ok (.invokevirtual 200, 3) := dk_182 rfl rfl rfl rfl
theorem dX11_black_4 : decode cX11_black 4 = .ok (.aload_n 0, 1) := dk_42 rfl
theorem dX11_black_5 : decode cX11_black 5 = .ok (.iload_n 1, 1) := dk_27 rfl
theorem dX11_black_6 : decode cX11_black 6 = .ok (.iload_n 2, 1) := dk_28 rfl
theorem dX11_black_7 : decode cX11_black 7 = .ok (.invokevirtual 376, 3) := dk_182 rfl rfl rfl rfl
theorem dX11_black_10 : decode cX11_black 10 = .ok (.ifCond .eq 12, 3) := dk_153 rfl rfl rfl (by decide)
theorem dX11_black_13 : decode cX11_black 13 = .ok (.aload_n 0, 1) := dk_42 rfl
theorem dX11_black_14 : decode cX11_black 14 = .ok (.getfield 56, 3) := dk_180 rfl rfl rfl rfl
theorem dX11_black_17 : decode cX11_black 17 = .ok (.iload_n 2, 1) := dk_28 rfl
theorem dX11_black_18 : decode cX11_black 18 = .ok (.iaload, 1) := dk_46 rfl
theorem dX11_black_19 : decode cX11_black 19 = .ok (.goto 8, 3) := dk_167 rfl rfl rfl (by decide)
theorem dX11_black_22 : decode cX11_black 22 = .ok (.aload_n 0, 1) := dk_42 rfl
theorem dX11_black_23 : decode cX11_black 23 = .ok (.iconst 1, 1) := dk_4 rfl
theorem dX11_black_24 : decode cX11_black 24 = .ok (.invokevirtual 203, 3) := dk_182 rfl rfl rfl rfl
theorem dX11_black_27 : decode cX11_black 27 = .ok (.ireturn, 1) := dk_172 rfl
set_option maxHeartbeats 4000000 in
set_option maxRecDepth 100000 in
theorem m_black (l : Launch) (g : Gx) (h0 : Nat) (p0 : Int32) (p1 : Int32) (m_thrown : Int32) (a_tape : Nat) (m_taped : Int32) (m_size : Int32) (m_at : Int32) (m_end : Int32) (m_token : Int32) (m_whole : Int32) (m_nameSize : Int32) (m_fault : Int32) (m_place : Int32) (m_trouble : Int32) (a_letters : Nat) (m_failed : Int32) (m_hasHouse : Int32) (a_r : Nat) (a_fresh : Nat) (a_st : Nat) (a_undone : Nat) (a_kept : Nat) (m_undos : Int32) (m_images : Int32) (a_from : Nat) (a_begin : Nat) (a_motor : Nat) (a_change : Nat) (a_startFrame : Nat) (a_changeFrame : Nat) (a_lostAt : Nat) (a_blackAt : Nat) (a_slips : Nat) (a_leftArc : Nat) (a_died : Nat) (a_arcs : Nat) (m_bestSum : Int32) (m_nearest : Int32) (m_nearestTown : Int32) (a_there : Nat) (a_backAt : Nat) (a_sorted : Nat) (a_parts : Nat) (m_seed1 : Int32) (m_darkNow : Int32) (d_r : Nat → Int32) (d_st : Nat → Int32) (d_from : Nat → Int32) (d_begin : Nat → Int32) (d_motor : Nat → Int32) (d_change : Nat → Int32) (d_startFrame : Nat → Int32) (d_changeFrame : Nat → Int32) (d_lostAt : Nat → Int32) (d_blackAt : Nat → Int32) (d_slips : Nat → Int32) (hv_m_hasHouse : IV m_hasHouse 0 1) (hp_d_r : RInv d_r) : cI l g yX11_black cX11_black 3 (some .int) 6 132 0 0 [.ref h0, .int p0, .int p1] [(cO11_i1r1i10r1i2r5i2r12i3r4i2 h0 m_thrown a_tape m_taped m_size m_at m_end m_token m_whole m_nameSize m_fault m_place m_trouble a_letters m_failed m_hasHouse a_r a_fresh a_st a_undone a_kept m_undos m_images a_from a_begin a_motor a_change a_startFrame a_changeFrame a_lostAt a_blackAt a_slips a_leftArc a_died a_arcs m_bestSum m_nearest m_nearestTown a_there a_backAt a_sorted a_parts m_seed1 m_darkNow), (cAI g a_r 311 d_r), (cAI g a_st 44 d_st), (cAI g a_from 8 d_from), (cAI g a_begin 8 d_begin), (cAI g a_motor 8 d_motor), (cAI g a_change 8 d_change), (cAI g a_startFrame 8 d_startFrame), (cAI g a_changeFrame 8 d_changeFrame), (cAI g a_lostAt 8 d_lostAt), (cAI g a_blackAt 8 d_blackAt), (cAI g a_slips 8 d_slips)] (fun r w => ∃ (d_begin2 : Nat → Int32) (d_blackAt2 : Nat → Int32) (d_change2 : Nat → Int32) (d_changeFrame2 : Nat → Int32) (d_from2 : Nat → Int32) (d_lostAt2 : Nat → Int32) (d_motor2 : Nat → Int32) (d_slips2 : Nat → Int32) (d_startFrame2 : Nat → Int32) (m_thrown2 : Int32) (m_trouble2 : Int32), w = [(cO11_i1r1i10r1i2r5i2r12i3r4i2 h0 m_thrown2 a_tape m_taped m_size m_at m_end m_token m_whole m_nameSize m_fault m_place m_trouble2 a_letters m_failed m_hasHouse a_r a_fresh a_st a_undone a_kept m_undos m_images a_from a_begin a_motor a_change a_startFrame a_changeFrame a_lostAt a_blackAt a_slips a_leftArc a_died a_arcs m_bestSum m_nearest m_nearestTown a_there a_backAt a_sorted a_parts m_seed1 m_darkNow), (cAI g a_r 311 d_r), (cAI g a_st 44 d_st), (cAI g a_from 8 d_from2), (cAI g a_begin 8 d_begin2), (cAI g a_motor 8 d_motor2), (cAI g a_change 8 d_change2), (cAI g a_startFrame 8 d_startFrame2), (cAI g a_changeFrame 8 d_changeFrame2), (cAI g a_lostAt 8 d_lostAt2), (cAI g a_blackAt 8 d_blackAt2), (cAI g a_slips 8 d_slips2)]) := by
  refine cI.of (by decide) (Nat.le_of_ble_eq_true rfl) ?_
  intro p e s m args below meth c A X hr hi
  refine k_lveq [(0, .ref h0), (1, .int p0), (2, .int p1)] rfl ?_
  refine k_aload_n X dX11_black_0 0 rfl ?_
  refine k_callVV (n := 0) (As := []) (st := []) X [(cO11_i1r1i10r1i2r5i2r12i3r4i2 h0 m_thrown a_tape m_taped m_size m_at m_end m_token m_whole m_nameSize m_fault m_place m_trouble a_letters m_failed m_hasHouse a_r a_fresh a_st a_undone a_kept m_undos m_images a_from a_begin a_motor a_change a_startFrame a_changeFrame a_lostAt a_blackAt a_slips a_leftArc a_died a_arcs m_bestSum m_nearest m_nearestTown a_there a_backAt a_sorted a_parts m_seed1 m_darkNow)] [(cAI g a_r 311 d_r), (cAI g a_st 44 d_st), (cAI g a_from 8 d_from), (cAI g a_begin 8 d_begin), (cAI g a_motor 8 d_motor), (cAI g a_change 8 d_change), (cAI g a_startFrame 8 d_startFrame), (cAI g a_changeFrame 8 d_changeFrame), (cAI g a_lostAt 8 d_lostAt), (cAI g a_blackAt 8 d_blackAt), (cAI g a_slips 8 d_slips)] [0] [1, 2, 3, 4, 5, 6, 7, 8, 9, 10, 11] (m_good l g h0 m_thrown a_tape m_taped m_size m_at m_end m_token m_whole m_nameSize m_fault m_place m_trouble a_letters m_failed m_hasHouse a_r a_fresh a_st a_undone a_kept m_undos m_images a_from a_begin a_motor a_change a_startFrame a_changeFrame a_lostAt a_blackAt a_slips a_leftArc a_died a_arcs m_bestSum m_nearest m_nearestTown a_there a_backAt a_sorted a_parts m_seed1 m_darkNow) dX11_black_1 mw477 mw478 mw479 mw5 mw480 rfl 11 rfl rfl 0 _ rfl yk_yX11_good_0 rfl (Nat.le_of_ble_eq_true rfl) (Nat.le_of_ble_eq_true rfl) (Nat.le_of_ble_eq_true rfl) (Nat.le_of_ble_eq_true rfl) (Nat.le_of_ble_eq_true rfl) rfl rfl (by decide +kernel) rfl (by decide +kernel) (by decide +kernel) ?_
  rintro w ⟨m_thrown2_1, m_trouble2_2, rfl⟩
  refine k_ws [(cAI g a_r 311 d_r), (cAI g a_st 44 d_st), (cAI g a_from 8 d_from), (cAI g a_begin 8 d_begin), (cAI g a_motor 8 d_motor), (cAI g a_change 8 d_change), (cAI g a_startFrame 8 d_startFrame), (cAI g a_changeFrame 8 d_changeFrame), (cAI g a_lostAt 8 d_lostAt), (cAI g a_blackAt 8 d_blackAt), (cAI g a_slips 8 d_slips), (cO11_i1r1i10r1i2r5i2r12i3r4i2 h0 m_thrown2_1 a_tape m_taped m_size m_at m_end m_token m_whole m_nameSize m_fault m_place m_trouble2_2 a_letters m_failed m_hasHouse a_r a_fresh a_st a_undone a_kept m_undos m_images a_from a_begin a_motor a_change a_startFrame a_changeFrame a_lostAt a_blackAt a_slips a_leftArc a_died a_arcs m_bestSum m_nearest m_nearestTown a_there a_backAt a_sorted a_parts m_seed1 m_darkNow)] rfl ?_
  refine k_aload_n X dX11_black_4 0 rfl ?_
  refine k_iload_n X dX11_black_5 1 rfl ?_
  refine k_iload_n X dX11_black_6 2 rfl ?_
  refine k_callVI (n := 2) (As := [.int p0, .int p1]) (st := []) X [(cO11_i1r1i10r1i2r5i2r12i3r4i2 h0 m_thrown2_1 a_tape m_taped m_size m_at m_end m_token m_whole m_nameSize m_fault m_place m_trouble2_2 a_letters m_failed m_hasHouse a_r a_fresh a_st a_undone a_kept m_undos m_images a_from a_begin a_motor a_change a_startFrame a_changeFrame a_lostAt a_blackAt a_slips a_leftArc a_died a_arcs m_bestSum m_nearest m_nearestTown a_there a_backAt a_sorted a_parts m_seed1 m_darkNow), (cAI g a_r 311 d_r), (cAI g a_st 44 d_st), (cAI g a_from 8 d_from), (cAI g a_begin 8 d_begin), (cAI g a_motor 8 d_motor), (cAI g a_change 8 d_change), (cAI g a_startFrame 8 d_startFrame), (cAI g a_changeFrame 8 d_changeFrame), (cAI g a_lostAt 8 d_lostAt), (cAI g a_blackAt 8 d_blackAt), (cAI g a_slips 8 d_slips)] [] [11, 0, 1, 2, 3, 4, 5, 6, 7, 8, 9, 10] [] (m_canTell l g h0 p0 p1 m_thrown2_1 a_tape m_taped m_size m_at m_end m_token m_whole m_nameSize m_fault m_place m_trouble2_2 a_letters m_failed m_hasHouse a_r a_fresh a_st a_undone a_kept m_undos m_images a_from a_begin a_motor a_change a_startFrame a_changeFrame a_lostAt a_blackAt a_slips a_leftArc a_died a_arcs m_bestSum m_nearest m_nearestTown a_there a_backAt a_sorted a_parts m_seed1 m_darkNow d_r d_st d_from d_begin d_motor d_change d_startFrame d_changeFrame d_lostAt d_blackAt d_slips (iv_w hv_m_hasHouse (by decide) (by decide)) hp_d_r) dX11_black_7 mw807 mw808 mw809 mw5 mw810 rfl 11 rfl rfl 0 _ rfl yk_yX11_canTell_2 rfl (Nat.le_of_ble_eq_true rfl) (Nat.le_of_ble_eq_true rfl) (Nat.le_of_ble_eq_true rfl) (Nat.le_of_ble_eq_true rfl) (Nat.le_of_ble_eq_true rfl) rfl rfl (by decide +kernel) rfl (by decide +kernel) (by decide +kernel) ?_
  intro r_13 w zq
  refine exE9 zq ?_
  clear zq
  intro d_begin2_4 d_blackAt2_5 d_change2_6 d_changeFrame2_7 d_from2_8 d_lostAt2_9 d_motor2_10 d_slips2_11 d_startFrame2_12 iv_14 zq
  refine exA1 zq ?_
  clear zq
  intro hk_15 zq
  subst zq
  refine k_ws [(cO11_i1r1i10r1i2r5i2r12i3r4i2 h0 m_thrown2_1 a_tape m_taped m_size m_at m_end m_token m_whole m_nameSize m_fault m_place m_trouble2_2 a_letters m_failed m_hasHouse a_r a_fresh a_st a_undone a_kept m_undos m_images a_from a_begin a_motor a_change a_startFrame a_changeFrame a_lostAt a_blackAt a_slips a_leftArc a_died a_arcs m_bestSum m_nearest m_nearestTown a_there a_backAt a_sorted a_parts m_seed1 m_darkNow), (cAI g a_r 311 d_r), (cAI g a_st 44 d_st), (cAI g a_from 8 d_from2_8), (cAI g a_begin 8 d_begin2_4), (cAI g a_motor 8 d_motor2_10), (cAI g a_change 8 d_change2_6), (cAI g a_startFrame 8 d_startFrame2_12), (cAI g a_changeFrame 8 d_changeFrame2_7), (cAI g a_lostAt 8 d_lostAt2_9), (cAI g a_blackAt 8 d_blackAt2_5), (cAI g a_slips 8 d_slips2_11)] rfl ?_
  refine k_if_eq 22 X dX11_black_10 (by decide) (fun h_16 => ?_) (fun h_16 => ?_)
  · skip
    have iv_17 : IV r_13 0 0 := iv_meet iv_14 (iv_e h_16 (show IV 0 0 0 from (by decide))) (by decide) (by decide)
    refine k_aload_n X dX11_black_22 0 rfl ?_
    refine k_iconst (v := 1) X dX11_black_23 (by decide) ?_
    refine k_callVI (n := 1) (As := [.int 1]) (st := []) X [(cO11_i1r1i10r1i2r5i2r12i3r4i2 h0 m_thrown2_1 a_tape m_taped m_size m_at m_end m_token m_whole m_nameSize m_fault m_place m_trouble2_2 a_letters m_failed m_hasHouse a_r a_fresh a_st a_undone a_kept m_undos m_images a_from a_begin a_motor a_change a_startFrame a_changeFrame a_lostAt a_blackAt a_slips a_leftArc a_died a_arcs m_bestSum m_nearest m_nearestTown a_there a_backAt a_sorted a_parts m_seed1 m_darkNow)] [(cAI g a_r 311 d_r), (cAI g a_st 44 d_st), (cAI g a_from 8 d_from2_8), (cAI g a_begin 8 d_begin2_4), (cAI g a_motor 8 d_motor2_10), (cAI g a_change 8 d_change2_6), (cAI g a_startFrame 8 d_startFrame2_12), (cAI g a_changeFrame 8 d_changeFrame2_7), (cAI g a_lostAt 8 d_lostAt2_9), (cAI g a_blackAt 8 d_blackAt2_5), (cAI g a_slips 8 d_slips2_11)] [0] [1, 2, 3, 4, 5, 6, 7, 8, 9, 10, 11] (m_no l g h0 1 m_thrown2_1 a_tape m_taped m_size m_at m_end m_token m_whole m_nameSize m_fault m_place m_trouble2_2 a_letters m_failed m_hasHouse a_r a_fresh a_st a_undone a_kept m_undos m_images a_from a_begin a_motor a_change a_startFrame a_changeFrame a_lostAt a_blackAt a_slips a_leftArc a_died a_arcs m_bestSum m_nearest m_nearestTown a_there a_backAt a_sorted a_parts m_seed1 m_darkNow) dX11_black_24 mw485 mw486 mw487 mw5 mw488 rfl 11 rfl rfl 0 _ rfl yk_yX11_no_1 rfl (Nat.le_of_ble_eq_true rfl) (Nat.le_of_ble_eq_true rfl) (Nat.le_of_ble_eq_true rfl) (Nat.le_of_ble_eq_true rfl) (Nat.le_of_ble_eq_true rfl) rfl rfl (by decide +kernel) rfl (by decide +kernel) (by decide +kernel) ?_
    rintro r_19 w ⟨m_trouble2_18, iv_20, rfl⟩
    refine k_ws [(cAI g a_r 311 d_r), (cAI g a_st 44 d_st), (cAI g a_from 8 d_from2_8), (cAI g a_begin 8 d_begin2_4), (cAI g a_motor 8 d_motor2_10), (cAI g a_change 8 d_change2_6), (cAI g a_startFrame 8 d_startFrame2_12), (cAI g a_changeFrame 8 d_changeFrame2_7), (cAI g a_lostAt 8 d_lostAt2_9), (cAI g a_blackAt 8 d_blackAt2_5), (cAI g a_slips 8 d_slips2_11), (cO11_i1r1i10r1i2r5i2r12i3r4i2 h0 m_thrown2_1 a_tape m_taped m_size m_at m_end m_token m_whole m_nameSize m_fault m_place m_trouble2_18 a_letters m_failed m_hasHouse a_r a_fresh a_st a_undone a_kept m_undos m_images a_from a_begin a_motor a_change a_startFrame a_changeFrame a_lostAt a_blackAt a_slips a_leftArc a_died a_arcs m_bestSum m_nearest m_nearestTown a_there a_backAt a_sorted a_parts m_seed1 m_darkNow)] rfl ?_
    exact k_iret X hr dX11_black_27 (Nat.le_of_ble_eq_true rfl) (Nat.le_of_ble_eq_true rfl) [11, 0, 1, 2, 3, 4, 5, 6, 7, 8, 9, 10] (by decide) rfl rfl ⟨d_begin2_4, d_blackAt2_5, d_change2_6, d_changeFrame2_7, d_from2_8, d_lostAt2_9, d_motor2_10, d_slips2_11, d_startFrame2_12, m_thrown2_1, m_trouble2_18, rfl⟩
  · skip
    have hc_21 := hk_15.resolve_left h_16
    have iv_22 : IV p0 0 3 := iv_meet (iv_any p0) hc_21.1 (by decide) (by decide)
    have iv_23 : IV p1 0 7 := iv_meet (iv_any p1) hc_21.2.1 (by decide) (by decide)
    have j_24 : p1.toInt < (d_r 12).toInt := hc_21.2.2
    have iv_25 : IV r_13 1 1 := iv_neL h_16 iv_14 (show IV 0 0 0 from (by decide)) (by decide)
    refine k_aload_n X dX11_black_13 0 rfl ?_
    refine k_get (ci := 11) X inlX11 rfl 29 (by decide) dX11_black_14 mw182 0 rfl rfl ?_
    refine k_iload_n X dX11_black_17 2 rfl ?_
    refine k_iald X dX11_black_18 10 rfl (iv_in iv_23 (by decide) (by decide)) ?_
    refine k_nm (fun z_26 ez_26 => ?_)
    refine k_goto 27 X dX11_black_19 (by decide) ?_
    exact k_iret X hr dX11_black_27 (Nat.le_of_ble_eq_true rfl) (Nat.le_of_ble_eq_true rfl) [0, 1, 2, 3, 4, 5, 6, 7, 8, 9, 10, 11] (by decide) rfl rfl ⟨d_begin2_4, d_blackAt2_5, d_change2_6, d_changeFrame2_7, d_from2_8, d_lostAt2_9, d_motor2_10, d_slips2_11, d_startFrame2_12, m_thrown2_1, m_trouble2_2, rfl⟩

theorem dX11_tail_0 : decode cX11_tail 0 = .ok (.aload_n 0, 1) := dk_42 rfl
theorem dX11_tail_1 : decode cX11_tail 1 = .ok (.invokevirtual 200, 3) := dk_182 rfl rfl rfl rfl
theorem dX11_tail_4 : decode cX11_tail 4 = .ok (.aload_n 0, 1) := dk_42 rfl
theorem dX11_tail_5 : decode cX11_tail 5 = .ok (.iload_n 1, 1) := dk_27 rfl
theorem dX11_tail_6 : decode cX11_tail 6 = .ok (.iload_n 2, 1) := dk_28 rfl
theorem dX11_tail_7 : decode cX11_tail 7 = .ok (.invokevirtual 376, 3) := dk_182 rfl rfl rfl rfl
theorem dX11_tail_10 : decode cX11_tail 10 = .ok (.ifCond .eq 11, 3) := dk_153 rfl rfl rfl (by decide)
theorem dX11_tail_13 : decode cX11_tail 13 = .ok (.aload_n 0, 1) := dk_42 rfl
theorem dX11_tail_14 : decode cX11_tail 14 = .ok (.iload_n 2, 1) := dk_28 rfl
theorem dX11_tail_15 : decode cX11_tail 15 = .ok (.invokevirtual 379, 3) := dk_182 rfl rfl rfl rfl
theorem dX11_tail_18 : decode cX11_tail 18 = .ok (.goto 8, 3) := dk_167 rfl rfl rfl (by decide)
theorem dX11_tail_21 : decode cX11_tail 21 = .ok (.aload_n 0, 1) := dk_42 rfl
theorem dX11_tail_22 : decode cX11_tail 22 = .ok (.iconst 1, 1) := dk_4 rfl
theorem dX11_tail_23 : decode cX11_tail 23 = .ok (.invokevirtual 203, 3) := dk_182 rfl rfl rfl rfl
theorem dX11_tail_26 : decode cX11_tail 26 = .ok (.ireturn, 1) := dk_172 rfl
set_option maxHeartbeats 4000000 in
set_option maxRecDepth 100000 in
theorem m_tail (l : Launch) (g : Gx) (h0 : Nat) (p0 : Int32) (p1 : Int32) (m_thrown : Int32) (a_tape : Nat) (m_taped : Int32) (m_size : Int32) (m_at : Int32) (m_end : Int32) (m_token : Int32) (m_whole : Int32) (m_nameSize : Int32) (m_fault : Int32) (m_place : Int32) (m_trouble : Int32) (a_letters : Nat) (m_failed : Int32) (m_hasHouse : Int32) (a_r : Nat) (a_fresh : Nat) (a_st : Nat) (a_undone : Nat) (a_kept : Nat) (m_undos : Int32) (m_images : Int32) (a_from : Nat) (a_begin : Nat) (a_motor : Nat) (a_change : Nat) (a_startFrame : Nat) (a_changeFrame : Nat) (a_lostAt : Nat) (a_blackAt : Nat) (a_slips : Nat) (a_leftArc : Nat) (a_died : Nat) (a_arcs : Nat) (m_bestSum : Int32) (m_nearest : Int32) (m_nearestTown : Int32) (a_there : Nat) (a_backAt : Nat) (a_sorted : Nat) (a_parts : Nat) (m_seed1 : Int32) (m_darkNow : Int32) (d_r : Nat → Int32) (d_st : Nat → Int32) (d_from : Nat → Int32) (d_begin : Nat → Int32) (d_motor : Nat → Int32) (d_change : Nat → Int32) (d_startFrame : Nat → Int32) (d_changeFrame : Nat → Int32) (d_lostAt : Nat → Int32) (d_blackAt : Nat → Int32) (d_slips : Nat → Int32) (hv_m_hasHouse : IV m_hasHouse 0 1) (hp_d_r : RInv d_r) : cI l g yX11_tail cX11_tail 3 (some .int) 6 132 0 0 [.ref h0, .int p0, .int p1] [(cO11_i1r1i10r1i2r5i2r12i3r4i2 h0 m_thrown a_tape m_taped m_size m_at m_end m_token m_whole m_nameSize m_fault m_place m_trouble a_letters m_failed m_hasHouse a_r a_fresh a_st a_undone a_kept m_undos m_images a_from a_begin a_motor a_change a_startFrame a_changeFrame a_lostAt a_blackAt a_slips a_leftArc a_died a_arcs m_bestSum m_nearest m_nearestTown a_there a_backAt a_sorted a_parts m_seed1 m_darkNow), (cAI g a_r 311 d_r), (cAI g a_st 44 d_st), (cAI g a_from 8 d_from), (cAI g a_begin 8 d_begin), (cAI g a_motor 8 d_motor), (cAI g a_change 8 d_change), (cAI g a_startFrame 8 d_startFrame), (cAI g a_changeFrame 8 d_changeFrame), (cAI g a_lostAt 8 d_lostAt), (cAI g a_blackAt 8 d_blackAt), (cAI g a_slips 8 d_slips)] (fun r w => ∃ (d_begin2 : Nat → Int32) (d_blackAt2 : Nat → Int32) (d_change2 : Nat → Int32) (d_changeFrame2 : Nat → Int32) (d_from2 : Nat → Int32) (d_lostAt2 : Nat → Int32) (d_motor2 : Nat → Int32) (d_slips2 : Nat → Int32) (d_startFrame2 : Nat → Int32) (m_thrown2 : Int32) (m_trouble2 : Int32), w = [(cO11_i1r1i10r1i2r5i2r12i3r4i2 h0 m_thrown2 a_tape m_taped m_size m_at m_end m_token m_whole m_nameSize m_fault m_place m_trouble2 a_letters m_failed m_hasHouse a_r a_fresh a_st a_undone a_kept m_undos m_images a_from a_begin a_motor a_change a_startFrame a_changeFrame a_lostAt a_blackAt a_slips a_leftArc a_died a_arcs m_bestSum m_nearest m_nearestTown a_there a_backAt a_sorted a_parts m_seed1 m_darkNow), (cAI g a_r 311 d_r), (cAI g a_st 44 d_st), (cAI g a_from 8 d_from2), (cAI g a_begin 8 d_begin2), (cAI g a_motor 8 d_motor2), (cAI g a_change 8 d_change2), (cAI g a_startFrame 8 d_startFrame2), (cAI g a_changeFrame 8 d_changeFrame2), (cAI g a_lostAt 8 d_lostAt2), (cAI g a_blackAt 8 d_blackAt2), (cAI g a_slips 8 d_slips2)]) := by
  refine cI.of (by decide) (Nat.le_of_ble_eq_true rfl) ?_
  intro p e s m args below meth c A X hr hi
  refine k_lveq [(0, .ref h0), (1, .int p0), (2, .int p1)] rfl ?_
  refine k_aload_n X dX11_tail_0 0 rfl ?_
  refine k_callVV (n := 0) (As := []) (st := []) X [(cO11_i1r1i10r1i2r5i2r12i3r4i2 h0 m_thrown a_tape m_taped m_size m_at m_end m_token m_whole m_nameSize m_fault m_place m_trouble a_letters m_failed m_hasHouse a_r a_fresh a_st a_undone a_kept m_undos m_images a_from a_begin a_motor a_change a_startFrame a_changeFrame a_lostAt a_blackAt a_slips a_leftArc a_died a_arcs m_bestSum m_nearest m_nearestTown a_there a_backAt a_sorted a_parts m_seed1 m_darkNow)] [(cAI g a_r 311 d_r), (cAI g a_st 44 d_st), (cAI g a_from 8 d_from), (cAI g a_begin 8 d_begin), (cAI g a_motor 8 d_motor), (cAI g a_change 8 d_change), (cAI g a_startFrame 8 d_startFrame), (cAI g a_changeFrame 8 d_changeFrame), (cAI g a_lostAt 8 d_lostAt), (cAI g a_blackAt 8 d_blackAt), (cAI g a_slips 8 d_slips)] [0] [1, 2, 3, 4, 5, 6, 7, 8, 9, 10, 11] (m_good l g h0 m_thrown a_tape m_taped m_size m_at m_end m_token m_whole m_nameSize m_fault m_place m_trouble a_letters m_failed m_hasHouse a_r a_fresh a_st a_undone a_kept m_undos m_images a_from a_begin a_motor a_change a_startFrame a_changeFrame a_lostAt a_blackAt a_slips a_leftArc a_died a_arcs m_bestSum m_nearest m_nearestTown a_there a_backAt a_sorted a_parts m_seed1 m_darkNow) dX11_tail_1 mw477 mw478 mw479 mw5 mw480 rfl 11 rfl rfl 0 _ rfl yk_yX11_good_0 rfl (Nat.le_of_ble_eq_true rfl) (Nat.le_of_ble_eq_true rfl) (Nat.le_of_ble_eq_true rfl) (Nat.le_of_ble_eq_true rfl) (Nat.le_of_ble_eq_true rfl) rfl rfl (by decide +kernel) rfl (by decide +kernel) (by decide +kernel) ?_
  rintro w ⟨m_thrown2_1, m_trouble2_2, rfl⟩
  refine k_ws [(cAI g a_r 311 d_r), (cAI g a_st 44 d_st), (cAI g a_from 8 d_from), (cAI g a_begin 8 d_begin), (cAI g a_motor 8 d_motor), (cAI g a_change 8 d_change), (cAI g a_startFrame 8 d_startFrame), (cAI g a_changeFrame 8 d_changeFrame), (cAI g a_lostAt 8 d_lostAt), (cAI g a_blackAt 8 d_blackAt), (cAI g a_slips 8 d_slips), (cO11_i1r1i10r1i2r5i2r12i3r4i2 h0 m_thrown2_1 a_tape m_taped m_size m_at m_end m_token m_whole m_nameSize m_fault m_place m_trouble2_2 a_letters m_failed m_hasHouse a_r a_fresh a_st a_undone a_kept m_undos m_images a_from a_begin a_motor a_change a_startFrame a_changeFrame a_lostAt a_blackAt a_slips a_leftArc a_died a_arcs m_bestSum m_nearest m_nearestTown a_there a_backAt a_sorted a_parts m_seed1 m_darkNow)] rfl ?_
  refine k_aload_n X dX11_tail_4 0 rfl ?_
  refine k_iload_n X dX11_tail_5 1 rfl ?_
  refine k_iload_n X dX11_tail_6 2 rfl ?_
  refine k_callVI (n := 2) (As := [.int p0, .int p1]) (st := []) X [(cO11_i1r1i10r1i2r5i2r12i3r4i2 h0 m_thrown2_1 a_tape m_taped m_size m_at m_end m_token m_whole m_nameSize m_fault m_place m_trouble2_2 a_letters m_failed m_hasHouse a_r a_fresh a_st a_undone a_kept m_undos m_images a_from a_begin a_motor a_change a_startFrame a_changeFrame a_lostAt a_blackAt a_slips a_leftArc a_died a_arcs m_bestSum m_nearest m_nearestTown a_there a_backAt a_sorted a_parts m_seed1 m_darkNow), (cAI g a_r 311 d_r), (cAI g a_st 44 d_st), (cAI g a_from 8 d_from), (cAI g a_begin 8 d_begin), (cAI g a_motor 8 d_motor), (cAI g a_change 8 d_change), (cAI g a_startFrame 8 d_startFrame), (cAI g a_changeFrame 8 d_changeFrame), (cAI g a_lostAt 8 d_lostAt), (cAI g a_blackAt 8 d_blackAt), (cAI g a_slips 8 d_slips)] [] [11, 0, 1, 2, 3, 4, 5, 6, 7, 8, 9, 10] [] (m_canTell l g h0 p0 p1 m_thrown2_1 a_tape m_taped m_size m_at m_end m_token m_whole m_nameSize m_fault m_place m_trouble2_2 a_letters m_failed m_hasHouse a_r a_fresh a_st a_undone a_kept m_undos m_images a_from a_begin a_motor a_change a_startFrame a_changeFrame a_lostAt a_blackAt a_slips a_leftArc a_died a_arcs m_bestSum m_nearest m_nearestTown a_there a_backAt a_sorted a_parts m_seed1 m_darkNow d_r d_st d_from d_begin d_motor d_change d_startFrame d_changeFrame d_lostAt d_blackAt d_slips (iv_w hv_m_hasHouse (by decide) (by decide)) hp_d_r) dX11_tail_7 mw807 mw808 mw809 mw5 mw810 rfl 11 rfl rfl 0 _ rfl yk_yX11_canTell_2 rfl (Nat.le_of_ble_eq_true rfl) (Nat.le_of_ble_eq_true rfl) (Nat.le_of_ble_eq_true rfl) (Nat.le_of_ble_eq_true rfl) (Nat.le_of_ble_eq_true rfl) rfl rfl (by decide +kernel) rfl (by decide +kernel) (by decide +kernel) ?_
  intro r_13 w zq
  refine exE9 zq ?_
  clear zq
  intro d_begin2_4 d_blackAt2_5 d_change2_6 d_changeFrame2_7 d_from2_8 d_lostAt2_9 d_motor2_10 d_slips2_11 d_startFrame2_12 iv_14 zq
  refine exA1 zq ?_
  clear zq
  intro hk_15 zq
  subst zq
  refine k_ws [(cO11_i1r1i10r1i2r5i2r12i3r4i2 h0 m_thrown2_1 a_tape m_taped m_size m_at m_end m_token m_whole m_nameSize m_fault m_place m_trouble2_2 a_letters m_failed m_hasHouse a_r a_fresh a_st a_undone a_kept m_undos m_images a_from a_begin a_motor a_change a_startFrame a_changeFrame a_lostAt a_blackAt a_slips a_leftArc a_died a_arcs m_bestSum m_nearest m_nearestTown a_there a_backAt a_sorted a_parts m_seed1 m_darkNow), (cAI g a_r 311 d_r), (cAI g a_st 44 d_st), (cAI g a_from 8 d_from2_8), (cAI g a_begin 8 d_begin2_4), (cAI g a_motor 8 d_motor2_10), (cAI g a_change 8 d_change2_6), (cAI g a_startFrame 8 d_startFrame2_12), (cAI g a_changeFrame 8 d_changeFrame2_7), (cAI g a_lostAt 8 d_lostAt2_9), (cAI g a_blackAt 8 d_blackAt2_5), (cAI g a_slips 8 d_slips2_11)] rfl ?_
  refine k_if_eq 21 X dX11_tail_10 (by decide) (fun h_16 => ?_) (fun h_16 => ?_)
  · skip
    have iv_17 : IV r_13 0 0 := iv_meet iv_14 (iv_e h_16 (show IV 0 0 0 from (by decide))) (by decide) (by decide)
    refine k_aload_n X dX11_tail_21 0 rfl ?_
    refine k_iconst (v := 1) X dX11_tail_22 (by decide) ?_
    refine k_callVI (n := 1) (As := [.int 1]) (st := []) X [(cO11_i1r1i10r1i2r5i2r12i3r4i2 h0 m_thrown2_1 a_tape m_taped m_size m_at m_end m_token m_whole m_nameSize m_fault m_place m_trouble2_2 a_letters m_failed m_hasHouse a_r a_fresh a_st a_undone a_kept m_undos m_images a_from a_begin a_motor a_change a_startFrame a_changeFrame a_lostAt a_blackAt a_slips a_leftArc a_died a_arcs m_bestSum m_nearest m_nearestTown a_there a_backAt a_sorted a_parts m_seed1 m_darkNow)] [(cAI g a_r 311 d_r), (cAI g a_st 44 d_st), (cAI g a_from 8 d_from2_8), (cAI g a_begin 8 d_begin2_4), (cAI g a_motor 8 d_motor2_10), (cAI g a_change 8 d_change2_6), (cAI g a_startFrame 8 d_startFrame2_12), (cAI g a_changeFrame 8 d_changeFrame2_7), (cAI g a_lostAt 8 d_lostAt2_9), (cAI g a_blackAt 8 d_blackAt2_5), (cAI g a_slips 8 d_slips2_11)] [0] [1, 2, 3, 4, 5, 6, 7, 8, 9, 10, 11] (m_no l g h0 1 m_thrown2_1 a_tape m_taped m_size m_at m_end m_token m_whole m_nameSize m_fault m_place m_trouble2_2 a_letters m_failed m_hasHouse a_r a_fresh a_st a_undone a_kept m_undos m_images a_from a_begin a_motor a_change a_startFrame a_changeFrame a_lostAt a_blackAt a_slips a_leftArc a_died a_arcs m_bestSum m_nearest m_nearestTown a_there a_backAt a_sorted a_parts m_seed1 m_darkNow) dX11_tail_23 mw485 mw486 mw487 mw5 mw488 rfl 11 rfl rfl 0 _ rfl yk_yX11_no_1 rfl (Nat.le_of_ble_eq_true rfl) (Nat.le_of_ble_eq_true rfl) (Nat.le_of_ble_eq_true rfl) (Nat.le_of_ble_eq_true rfl) (Nat.le_of_ble_eq_true rfl) rfl rfl (by decide +kernel) rfl (by decide +kernel) (by decide +kernel) ?_
    rintro r_19 w ⟨m_trouble2_18, iv_20, rfl⟩
    refine k_ws [(cAI g a_r 311 d_r), (cAI g a_st 44 d_st), (cAI g a_from 8 d_from2_8), (cAI g a_begin 8 d_begin2_4), (cAI g a_motor 8 d_motor2_10), (cAI g a_change 8 d_change2_6), (cAI g a_startFrame 8 d_startFrame2_12), (cAI g a_changeFrame 8 d_changeFrame2_7), (cAI g a_lostAt 8 d_lostAt2_9), (cAI g a_blackAt 8 d_blackAt2_5), (cAI g a_slips 8 d_slips2_11), (cO11_i1r1i10r1i2r5i2r12i3r4i2 h0 m_thrown2_1 a_tape m_taped m_size m_at m_end m_token m_whole m_nameSize m_fault m_place m_trouble2_18 a_letters m_failed m_hasHouse a_r a_fresh a_st a_undone a_kept m_undos m_images a_from a_begin a_motor a_change a_startFrame a_changeFrame a_lostAt a_blackAt a_slips a_leftArc a_died a_arcs m_bestSum m_nearest m_nearestTown a_there a_backAt a_sorted a_parts m_seed1 m_darkNow)] rfl ?_
    exact k_iret X hr dX11_tail_26 (Nat.le_of_ble_eq_true rfl) (Nat.le_of_ble_eq_true rfl) [11, 0, 1, 2, 3, 4, 5, 6, 7, 8, 9, 10] (by decide) rfl rfl ⟨d_begin2_4, d_blackAt2_5, d_change2_6, d_changeFrame2_7, d_from2_8, d_lostAt2_9, d_motor2_10, d_slips2_11, d_startFrame2_12, m_thrown2_1, m_trouble2_18, rfl⟩
  · skip
    have hc_21 := hk_15.resolve_left h_16
    have iv_22 : IV p0 0 3 := iv_meet (iv_any p0) hc_21.1 (by decide) (by decide)
    have iv_23 : IV p1 0 7 := iv_meet (iv_any p1) hc_21.2.1 (by decide) (by decide)
    have j_24 : p1.toInt < (d_r 12).toInt := hc_21.2.2
    have iv_25 : IV r_13 1 1 := iv_neL h_16 iv_14 (show IV 0 0 0 from (by decide)) (by decide)
    refine k_aload_n X dX11_tail_13 0 rfl ?_
    refine k_iload_n X dX11_tail_14 2 rfl ?_
    refine k_callVI (n := 1) (As := [.int p1]) (st := []) X [(cO11_i1r1i10r1i2r5i2r12i3r4i2 h0 m_thrown2_1 a_tape m_taped m_size m_at m_end m_token m_whole m_nameSize m_fault m_place m_trouble2_2 a_letters m_failed m_hasHouse a_r a_fresh a_st a_undone a_kept m_undos m_images a_from a_begin a_motor a_change a_startFrame a_changeFrame a_lostAt a_blackAt a_slips a_leftArc a_died a_arcs m_bestSum m_nearest m_nearestTown a_there a_backAt a_sorted a_parts m_seed1 m_darkNow), (cAI g a_r 311 d_r), (cAI g a_st 44 d_st), (cAI g a_from 8 d_from2_8), (cAI g a_changeFrame 8 d_changeFrame2_7)] [(cAI g a_begin 8 d_begin2_4), (cAI g a_motor 8 d_motor2_10), (cAI g a_change 8 d_change2_6), (cAI g a_startFrame 8 d_startFrame2_12), (cAI g a_lostAt 8 d_lostAt2_9), (cAI g a_blackAt 8 d_blackAt2_5), (cAI g a_slips 8 d_slips2_11)] [0, 1, 2, 3, 8] [4, 5, 6, 7, 9, 10, 11] (m_tailOf l g h0 p1 m_thrown2_1 a_tape m_taped m_size m_at m_end m_token m_whole m_nameSize m_fault m_place m_trouble2_2 a_letters m_failed m_hasHouse a_r a_fresh a_st a_undone a_kept m_undos m_images a_from a_begin a_motor a_change a_startFrame a_changeFrame a_lostAt a_blackAt a_slips a_leftArc a_died a_arcs m_bestSum m_nearest m_nearestTown a_there a_backAt a_sorted a_parts m_seed1 m_darkNow d_r d_st d_from2_8 d_changeFrame2_7 (iv_w iv_23 (by decide) (by decide)) hp_d_r) dX11_tail_15 mw885 mw886 mw887 mw5 mw888 rfl 11 rfl rfl 0 _ rfl yk_yX11_tailOf_1 rfl (Nat.le_of_ble_eq_true rfl) (Nat.le_of_ble_eq_true rfl) (Nat.le_of_ble_eq_true rfl) (Nat.le_of_ble_eq_true rfl) (Nat.le_of_ble_eq_true rfl) rfl rfl (by decide +kernel) rfl (by decide +kernel) (by decide +kernel) ?_
    rintro r_26 w rfl
    refine k_ws [(cAI g a_begin 8 d_begin2_4), (cAI g a_motor 8 d_motor2_10), (cAI g a_change 8 d_change2_6), (cAI g a_startFrame 8 d_startFrame2_12), (cAI g a_lostAt 8 d_lostAt2_9), (cAI g a_blackAt 8 d_blackAt2_5), (cAI g a_slips 8 d_slips2_11), (cO11_i1r1i10r1i2r5i2r12i3r4i2 h0 m_thrown2_1 a_tape m_taped m_size m_at m_end m_token m_whole m_nameSize m_fault m_place m_trouble2_2 a_letters m_failed m_hasHouse a_r a_fresh a_st a_undone a_kept m_undos m_images a_from a_begin a_motor a_change a_startFrame a_changeFrame a_lostAt a_blackAt a_slips a_leftArc a_died a_arcs m_bestSum m_nearest m_nearestTown a_there a_backAt a_sorted a_parts m_seed1 m_darkNow), (cAI g a_r 311 d_r), (cAI g a_st 44 d_st), (cAI g a_from 8 d_from2_8), (cAI g a_changeFrame 8 d_changeFrame2_7)] rfl ?_
    refine k_goto 26 X dX11_tail_18 (by decide) ?_
    exact k_iret X hr dX11_tail_26 (Nat.le_of_ble_eq_true rfl) (Nat.le_of_ble_eq_true rfl) [7, 8, 9, 10, 0, 1, 2, 3, 11, 4, 5, 6] (by decide) rfl rfl ⟨d_begin2_4, d_blackAt2_5, d_change2_6, d_changeFrame2_7, d_from2_8, d_lostAt2_9, d_motor2_10, d_slips2_11, d_startFrame2_12, m_thrown2_1, m_trouble2_2, rfl⟩

theorem dX11_begins_0 : decode cX11_begins 0 = .ok (.aload_n 0, 1) := dk_42 rfl
theorem dX11_begins_1 : decode cX11_begins 1 = .ok (.invokevirtual 200, 3) := dk_182 rfl rfl rfl rfl
theorem dX11_begins_4 : decode cX11_begins 4 = .ok (.aload_n 0, 1) := dk_42 rfl
theorem dX11_begins_5 : decode cX11_begins 5 = .ok (.iload_n 1, 1) := dk_27 rfl
theorem dX11_begins_6 : decode cX11_begins 6 = .ok (.iload_n 2, 1) := dk_28 rfl
theorem dX11_begins_7 : decode cX11_begins 7 = .ok (.invokevirtual 376, 3) := dk_182 rfl rfl rfl rfl
theorem dX11_begins_10 : decode cX11_begins 10 = .ok (.ifCond .eq 12, 3) := dk_153 rfl rfl rfl (by decide)
theorem dX11_begins_13 : decode cX11_begins 13 = .ok (.aload_n 0, 1) := dk_42 rfl
theorem dX11_begins_14 : decode cX11_begins 14 = .ok (.getfield 38, 3) := dk_180 rfl rfl rfl rfl
theorem dX11_begins_17 : decode cX11_begins 17 = .ok (.iload_n 2, 1) := dk_28 rfl
theorem dX11_begins_18 : decode cX11_begins 18 = .ok (.iaload, 1) := dk_46 rfl
theorem dX11_begins_19 : decode cX11_begins 19 = .ok (.goto 8, 3) := dk_167 rfl rfl rfl (by decide)
theorem dX11_begins_22 : decode cX11_begins 22 = .ok (.aload_n 0, 1) := dk_42 rfl
theorem dX11_begins_23 : decode cX11_begins 23 = .ok (.iconst 1, 1) := dk_4 rfl
theorem dX11_begins_24 : decode cX11_begins 24 = .ok (.invokevirtual 203, 3) := dk_182 rfl rfl rfl rfl
theorem dX11_begins_27 : decode cX11_begins 27 = .ok (.ireturn, 1) := dk_172 rfl
set_option maxHeartbeats 4000000 in
set_option maxRecDepth 100000 in
theorem m_begins (l : Launch) (g : Gx) (h0 : Nat) (p0 : Int32) (p1 : Int32) (m_thrown : Int32) (a_tape : Nat) (m_taped : Int32) (m_size : Int32) (m_at : Int32) (m_end : Int32) (m_token : Int32) (m_whole : Int32) (m_nameSize : Int32) (m_fault : Int32) (m_place : Int32) (m_trouble : Int32) (a_letters : Nat) (m_failed : Int32) (m_hasHouse : Int32) (a_r : Nat) (a_fresh : Nat) (a_st : Nat) (a_undone : Nat) (a_kept : Nat) (m_undos : Int32) (m_images : Int32) (a_from : Nat) (a_begin : Nat) (a_motor : Nat) (a_change : Nat) (a_startFrame : Nat) (a_changeFrame : Nat) (a_lostAt : Nat) (a_blackAt : Nat) (a_slips : Nat) (a_leftArc : Nat) (a_died : Nat) (a_arcs : Nat) (m_bestSum : Int32) (m_nearest : Int32) (m_nearestTown : Int32) (a_there : Nat) (a_backAt : Nat) (a_sorted : Nat) (a_parts : Nat) (m_seed1 : Int32) (m_darkNow : Int32) (d_r : Nat → Int32) (d_st : Nat → Int32) (d_from : Nat → Int32) (d_begin : Nat → Int32) (d_motor : Nat → Int32) (d_change : Nat → Int32) (d_startFrame : Nat → Int32) (d_changeFrame : Nat → Int32) (d_lostAt : Nat → Int32) (d_blackAt : Nat → Int32) (d_slips : Nat → Int32) (hv_m_hasHouse : IV m_hasHouse 0 1) (hp_d_r : RInv d_r) : cI l g yX11_begins cX11_begins 3 (some .int) 6 132 0 0 [.ref h0, .int p0, .int p1] [(cO11_i1r1i10r1i2r5i2r12i3r4i2 h0 m_thrown a_tape m_taped m_size m_at m_end m_token m_whole m_nameSize m_fault m_place m_trouble a_letters m_failed m_hasHouse a_r a_fresh a_st a_undone a_kept m_undos m_images a_from a_begin a_motor a_change a_startFrame a_changeFrame a_lostAt a_blackAt a_slips a_leftArc a_died a_arcs m_bestSum m_nearest m_nearestTown a_there a_backAt a_sorted a_parts m_seed1 m_darkNow), (cAI g a_r 311 d_r), (cAI g a_st 44 d_st), (cAI g a_from 8 d_from), (cAI g a_begin 8 d_begin), (cAI g a_motor 8 d_motor), (cAI g a_change 8 d_change), (cAI g a_startFrame 8 d_startFrame), (cAI g a_changeFrame 8 d_changeFrame), (cAI g a_lostAt 8 d_lostAt), (cAI g a_blackAt 8 d_blackAt), (cAI g a_slips 8 d_slips)] (fun r w => ∃ (d_begin2 : Nat → Int32) (d_blackAt2 : Nat → Int32) (d_change2 : Nat → Int32) (d_changeFrame2 : Nat → Int32) (d_from2 : Nat → Int32) (d_lostAt2 : Nat → Int32) (d_motor2 : Nat → Int32) (d_slips2 : Nat → Int32) (d_startFrame2 : Nat → Int32) (m_thrown2 : Int32) (m_trouble2 : Int32), w = [(cO11_i1r1i10r1i2r5i2r12i3r4i2 h0 m_thrown2 a_tape m_taped m_size m_at m_end m_token m_whole m_nameSize m_fault m_place m_trouble2 a_letters m_failed m_hasHouse a_r a_fresh a_st a_undone a_kept m_undos m_images a_from a_begin a_motor a_change a_startFrame a_changeFrame a_lostAt a_blackAt a_slips a_leftArc a_died a_arcs m_bestSum m_nearest m_nearestTown a_there a_backAt a_sorted a_parts m_seed1 m_darkNow), (cAI g a_r 311 d_r), (cAI g a_st 44 d_st), (cAI g a_from 8 d_from2), (cAI g a_begin 8 d_begin2), (cAI g a_motor 8 d_motor2), (cAI g a_change 8 d_change2), (cAI g a_startFrame 8 d_startFrame2), (cAI g a_changeFrame 8 d_changeFrame2), (cAI g a_lostAt 8 d_lostAt2), (cAI g a_blackAt 8 d_blackAt2), (cAI g a_slips 8 d_slips2)]) := by
  refine cI.of (by decide) (Nat.le_of_ble_eq_true rfl) ?_
  intro p e s m args below meth c A X hr hi
  refine k_lveq [(0, .ref h0), (1, .int p0), (2, .int p1)] rfl ?_
  refine k_aload_n X dX11_begins_0 0 rfl ?_
  refine k_callVV (n := 0) (As := []) (st := []) X [(cO11_i1r1i10r1i2r5i2r12i3r4i2 h0 m_thrown a_tape m_taped m_size m_at m_end m_token m_whole m_nameSize m_fault m_place m_trouble a_letters m_failed m_hasHouse a_r a_fresh a_st a_undone a_kept m_undos m_images a_from a_begin a_motor a_change a_startFrame a_changeFrame a_lostAt a_blackAt a_slips a_leftArc a_died a_arcs m_bestSum m_nearest m_nearestTown a_there a_backAt a_sorted a_parts m_seed1 m_darkNow)] [(cAI g a_r 311 d_r), (cAI g a_st 44 d_st), (cAI g a_from 8 d_from), (cAI g a_begin 8 d_begin), (cAI g a_motor 8 d_motor), (cAI g a_change 8 d_change), (cAI g a_startFrame 8 d_startFrame), (cAI g a_changeFrame 8 d_changeFrame), (cAI g a_lostAt 8 d_lostAt), (cAI g a_blackAt 8 d_blackAt), (cAI g a_slips 8 d_slips)] [0] [1, 2, 3, 4, 5, 6, 7, 8, 9, 10, 11] (m_good l g h0 m_thrown a_tape m_taped m_size m_at m_end m_token m_whole m_nameSize m_fault m_place m_trouble a_letters m_failed m_hasHouse a_r a_fresh a_st a_undone a_kept m_undos m_images a_from a_begin a_motor a_change a_startFrame a_changeFrame a_lostAt a_blackAt a_slips a_leftArc a_died a_arcs m_bestSum m_nearest m_nearestTown a_there a_backAt a_sorted a_parts m_seed1 m_darkNow) dX11_begins_1 mw477 mw478 mw479 mw5 mw480 rfl 11 rfl rfl 0 _ rfl yk_yX11_good_0 rfl (Nat.le_of_ble_eq_true rfl) (Nat.le_of_ble_eq_true rfl) (Nat.le_of_ble_eq_true rfl) (Nat.le_of_ble_eq_true rfl) (Nat.le_of_ble_eq_true rfl) rfl rfl (by decide +kernel) rfl (by decide +kernel) (by decide +kernel) ?_
  rintro w ⟨m_thrown2_1, m_trouble2_2, rfl⟩
  refine k_ws [(cAI g a_r 311 d_r), (cAI g a_st 44 d_st), (cAI g a_from 8 d_from), (cAI g a_begin 8 d_begin), (cAI g a_motor 8 d_motor), (cAI g a_change 8 d_change), (cAI g a_startFrame 8 d_startFrame), (cAI g a_changeFrame 8 d_changeFrame), (cAI g a_lostAt 8 d_lostAt), (cAI g a_blackAt 8 d_blackAt), (cAI g a_slips 8 d_slips), (cO11_i1r1i10r1i2r5i2r12i3r4i2 h0 m_thrown2_1 a_tape m_taped m_size m_at m_end m_token m_whole m_nameSize m_fault m_place m_trouble2_2 a_letters m_failed m_hasHouse a_r a_fresh a_st a_undone a_kept m_undos m_images a_from a_begin a_motor a_change a_startFrame a_changeFrame a_lostAt a_blackAt a_slips a_leftArc a_died a_arcs m_bestSum m_nearest m_nearestTown a_there a_backAt a_sorted a_parts m_seed1 m_darkNow)] rfl ?_
  refine k_aload_n X dX11_begins_4 0 rfl ?_
  refine k_iload_n X dX11_begins_5 1 rfl ?_
  refine k_iload_n X dX11_begins_6 2 rfl ?_
  refine k_callVI (n := 2) (As := [.int p0, .int p1]) (st := []) X [(cO11_i1r1i10r1i2r5i2r12i3r4i2 h0 m_thrown2_1 a_tape m_taped m_size m_at m_end m_token m_whole m_nameSize m_fault m_place m_trouble2_2 a_letters m_failed m_hasHouse a_r a_fresh a_st a_undone a_kept m_undos m_images a_from a_begin a_motor a_change a_startFrame a_changeFrame a_lostAt a_blackAt a_slips a_leftArc a_died a_arcs m_bestSum m_nearest m_nearestTown a_there a_backAt a_sorted a_parts m_seed1 m_darkNow), (cAI g a_r 311 d_r), (cAI g a_st 44 d_st), (cAI g a_from 8 d_from), (cAI g a_begin 8 d_begin), (cAI g a_motor 8 d_motor), (cAI g a_change 8 d_change), (cAI g a_startFrame 8 d_startFrame), (cAI g a_changeFrame 8 d_changeFrame), (cAI g a_lostAt 8 d_lostAt), (cAI g a_blackAt 8 d_blackAt), (cAI g a_slips 8 d_slips)] [] [11, 0, 1, 2, 3, 4, 5, 6, 7, 8, 9, 10] [] (m_canTell l g h0 p0 p1 m_thrown2_1 a_tape m_taped m_size m_at m_end m_token m_whole m_nameSize m_fault m_place m_trouble2_2 a_letters m_failed m_hasHouse a_r a_fresh a_st a_undone a_kept m_undos m_images a_from a_begin a_motor a_change a_startFrame a_changeFrame a_lostAt a_blackAt a_slips a_leftArc a_died a_arcs m_bestSum m_nearest m_nearestTown a_there a_backAt a_sorted a_parts m_seed1 m_darkNow d_r d_st d_from d_begin d_motor d_change d_startFrame d_changeFrame d_lostAt d_blackAt d_slips (iv_w hv_m_hasHouse (by decide) (by decide)) hp_d_r) dX11_begins_7 mw807 mw808 mw809 mw5 mw810 rfl 11 rfl rfl 0 _ rfl yk_yX11_canTell_2 rfl (Nat.le_of_ble_eq_true rfl) (Nat.le_of_ble_eq_true rfl) (Nat.le_of_ble_eq_true rfl) (Nat.le_of_ble_eq_true rfl) (Nat.le_of_ble_eq_true rfl) rfl rfl (by decide +kernel) rfl (by decide +kernel) (by decide +kernel) ?_
  intro r_13 w zq
  refine exE9 zq ?_
  clear zq
  intro d_begin2_4 d_blackAt2_5 d_change2_6 d_changeFrame2_7 d_from2_8 d_lostAt2_9 d_motor2_10 d_slips2_11 d_startFrame2_12 iv_14 zq
  refine exA1 zq ?_
  clear zq
  intro hk_15 zq
  subst zq
  refine k_ws [(cO11_i1r1i10r1i2r5i2r12i3r4i2 h0 m_thrown2_1 a_tape m_taped m_size m_at m_end m_token m_whole m_nameSize m_fault m_place m_trouble2_2 a_letters m_failed m_hasHouse a_r a_fresh a_st a_undone a_kept m_undos m_images a_from a_begin a_motor a_change a_startFrame a_changeFrame a_lostAt a_blackAt a_slips a_leftArc a_died a_arcs m_bestSum m_nearest m_nearestTown a_there a_backAt a_sorted a_parts m_seed1 m_darkNow), (cAI g a_r 311 d_r), (cAI g a_st 44 d_st), (cAI g a_from 8 d_from2_8), (cAI g a_begin 8 d_begin2_4), (cAI g a_motor 8 d_motor2_10), (cAI g a_change 8 d_change2_6), (cAI g a_startFrame 8 d_startFrame2_12), (cAI g a_changeFrame 8 d_changeFrame2_7), (cAI g a_lostAt 8 d_lostAt2_9), (cAI g a_blackAt 8 d_blackAt2_5), (cAI g a_slips 8 d_slips2_11)] rfl ?_
  refine k_if_eq 22 X dX11_begins_10 (by decide) (fun h_16 => ?_) (fun h_16 => ?_)
  · skip
    have iv_17 : IV r_13 0 0 := iv_meet iv_14 (iv_e h_16 (show IV 0 0 0 from (by decide))) (by decide) (by decide)
    refine k_aload_n X dX11_begins_22 0 rfl ?_
    refine k_iconst (v := 1) X dX11_begins_23 (by decide) ?_
    refine k_callVI (n := 1) (As := [.int 1]) (st := []) X [(cO11_i1r1i10r1i2r5i2r12i3r4i2 h0 m_thrown2_1 a_tape m_taped m_size m_at m_end m_token m_whole m_nameSize m_fault m_place m_trouble2_2 a_letters m_failed m_hasHouse a_r a_fresh a_st a_undone a_kept m_undos m_images a_from a_begin a_motor a_change a_startFrame a_changeFrame a_lostAt a_blackAt a_slips a_leftArc a_died a_arcs m_bestSum m_nearest m_nearestTown a_there a_backAt a_sorted a_parts m_seed1 m_darkNow)] [(cAI g a_r 311 d_r), (cAI g a_st 44 d_st), (cAI g a_from 8 d_from2_8), (cAI g a_begin 8 d_begin2_4), (cAI g a_motor 8 d_motor2_10), (cAI g a_change 8 d_change2_6), (cAI g a_startFrame 8 d_startFrame2_12), (cAI g a_changeFrame 8 d_changeFrame2_7), (cAI g a_lostAt 8 d_lostAt2_9), (cAI g a_blackAt 8 d_blackAt2_5), (cAI g a_slips 8 d_slips2_11)] [0] [1, 2, 3, 4, 5, 6, 7, 8, 9, 10, 11] (m_no l g h0 1 m_thrown2_1 a_tape m_taped m_size m_at m_end m_token m_whole m_nameSize m_fault m_place m_trouble2_2 a_letters m_failed m_hasHouse a_r a_fresh a_st a_undone a_kept m_undos m_images a_from a_begin a_motor a_change a_startFrame a_changeFrame a_lostAt a_blackAt a_slips a_leftArc a_died a_arcs m_bestSum m_nearest m_nearestTown a_there a_backAt a_sorted a_parts m_seed1 m_darkNow) dX11_begins_24 mw485 mw486 mw487 mw5 mw488 rfl 11 rfl rfl 0 _ rfl yk_yX11_no_1 rfl (Nat.le_of_ble_eq_true rfl) (Nat.le_of_ble_eq_true rfl) (Nat.le_of_ble_eq_true rfl) (Nat.le_of_ble_eq_true rfl) (Nat.le_of_ble_eq_true rfl) rfl rfl (by decide +kernel) rfl (by decide +kernel) (by decide +kernel) ?_
    rintro r_19 w ⟨m_trouble2_18, iv_20, rfl⟩
    refine k_ws [(cAI g a_r 311 d_r), (cAI g a_st 44 d_st), (cAI g a_from 8 d_from2_8), (cAI g a_begin 8 d_begin2_4), (cAI g a_motor 8 d_motor2_10), (cAI g a_change 8 d_change2_6), (cAI g a_startFrame 8 d_startFrame2_12), (cAI g a_changeFrame 8 d_changeFrame2_7), (cAI g a_lostAt 8 d_lostAt2_9), (cAI g a_blackAt 8 d_blackAt2_5), (cAI g a_slips 8 d_slips2_11), (cO11_i1r1i10r1i2r5i2r12i3r4i2 h0 m_thrown2_1 a_tape m_taped m_size m_at m_end m_token m_whole m_nameSize m_fault m_place m_trouble2_18 a_letters m_failed m_hasHouse a_r a_fresh a_st a_undone a_kept m_undos m_images a_from a_begin a_motor a_change a_startFrame a_changeFrame a_lostAt a_blackAt a_slips a_leftArc a_died a_arcs m_bestSum m_nearest m_nearestTown a_there a_backAt a_sorted a_parts m_seed1 m_darkNow)] rfl ?_
    exact k_iret X hr dX11_begins_27 (Nat.le_of_ble_eq_true rfl) (Nat.le_of_ble_eq_true rfl) [11, 0, 1, 2, 3, 4, 5, 6, 7, 8, 9, 10] (by decide) rfl rfl ⟨d_begin2_4, d_blackAt2_5, d_change2_6, d_changeFrame2_7, d_from2_8, d_lostAt2_9, d_motor2_10, d_slips2_11, d_startFrame2_12, m_thrown2_1, m_trouble2_18, rfl⟩
  · skip
    have hc_21 := hk_15.resolve_left h_16
    have iv_22 : IV p0 0 3 := iv_meet (iv_any p0) hc_21.1 (by decide) (by decide)
    have iv_23 : IV p1 0 7 := iv_meet (iv_any p1) hc_21.2.1 (by decide) (by decide)
    have j_24 : p1.toInt < (d_r 12).toInt := hc_21.2.2
    have iv_25 : IV r_13 1 1 := iv_neL h_16 iv_14 (show IV 0 0 0 from (by decide)) (by decide)
    refine k_aload_n X dX11_begins_13 0 rfl ?_
    refine k_get (ci := 11) X inlX11 rfl 23 (by decide) dX11_begins_14 mw176 0 rfl rfl ?_
    refine k_iload_n X dX11_begins_17 2 rfl ?_
    refine k_iald X dX11_begins_18 4 rfl (iv_in iv_23 (by decide) (by decide)) ?_
    refine k_nm (fun z_26 ez_26 => ?_)
    refine k_goto 27 X dX11_begins_19 (by decide) ?_
    exact k_iret X hr dX11_begins_27 (Nat.le_of_ble_eq_true rfl) (Nat.le_of_ble_eq_true rfl) [0, 1, 2, 3, 4, 5, 6, 7, 8, 9, 10, 11] (by decide) rfl rfl ⟨d_begin2_4, d_blackAt2_5, d_change2_6, d_changeFrame2_7, d_from2_8, d_lostAt2_9, d_motor2_10, d_slips2_11, d_startFrame2_12, m_thrown2_1, m_trouble2_2, rfl⟩
