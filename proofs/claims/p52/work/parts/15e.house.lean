
theorem dX11_house_0 : decode cX11_house 0 = .ok (.aload_n 0, 1) := dk_42 rfl
theorem dX11_house_1 : decode cX11_house 1 = .ok (.invokevirtual 200, 3) := dk_182 rfl rfl rfl rfl
theorem dX11_house_4 : decode cX11_house 4 = .ok (.iload_n 1, 1) := dk_27 rfl
theorem dX11_house_5 : decode cX11_house 5 = .ok (.iconst 0, 1) := dk_3 rfl
theorem dX11_house_6 : decode cX11_house 6 = .ok (.aload_n 0, 1) := dk_42 rfl
theorem dX11_house_7 : decode cX11_house 7 = .ok (.getfield 89, 3) := dk_180 rfl rfl rfl rfl
theorem dX11_house_10 : decode cX11_house 10 = .ok (.invokestatic 182, 3) := dk_184 rfl rfl rfl rfl
theorem dX11_house_13 : decode cX11_house 13 = .ok (.ifCond .ne 9, 3) := dk_154 rfl rfl rfl (by decide)
theorem dX11_house_16 : decode cX11_house 16 = .ok (.aload_n 0, 1) := dk_42 rfl
theorem dX11_house_17 : decode cX11_house 17 = .ok (.iconst 2, 1) := dk_5 rfl
theorem dX11_house_18 : decode cX11_house 18 = .ok (.invokevirtual 203, 3) := dk_182 rfl rfl rfl rfl
theorem dX11_house_21 : decode cX11_house 21 = .ok (.ireturn, 1) := dk_172 rfl
theorem dX11_house_22 : decode cX11_house 22 = .ok (.aload_n 0, 1) := dk_42 rfl
theorem dX11_house_23 : decode cX11_house 23 = .ok (.iconst 0, 1) := dk_3 rfl
theorem dX11_house_24 : decode cX11_house 24 = .ok (.putfield 89, 3) := dk_181 rfl rfl rfl rfl
theorem dX11_house_27 : decode cX11_house 27 = .ok (.aload_n 0, 1) := dk_42 rfl
theorem dX11_house_28 : decode cX11_house 28 = .ok (.iconst 0, 1) := dk_3 rfl
theorem dX11_house_29 : decode cX11_house 29 = .ok (.putfield 125, 3) := dk_181 rfl rfl rfl rfl
theorem dX11_house_32 : decode cX11_house 32 = .ok (.aload_n 0, 1) := dk_42 rfl
theorem dX11_house_33 : decode cX11_house 33 = .ok (.iconst 0, 1) := dk_3 rfl
theorem dX11_house_34 : decode cX11_house 34 = .ok (.putfield 121, 3) := dk_181 rfl rfl rfl rfl
theorem dX11_house_37 : decode cX11_house 37 = .ok (.iconst 0, 1) := dk_3 rfl
theorem dX11_house_38 : decode cX11_house 38 = .ok (.istore_n 2, 1) := dk_61 rfl
theorem dX11_house_39 : decode cX11_house 39 = .ok (.iload_n 2, 1) := dk_28 rfl
theorem dX11_house_40 : decode cX11_house 40 = .ok (.sipush 311, 3) := dk_17 rfl rfl rfl (by decide)
theorem dX11_house_43 : decode cX11_house 43 = .ok (.if_icmp .ge 16, 3) := dk_162 rfl rfl rfl (by decide)
theorem dX11_house_46 : decode cX11_house 46 = .ok (.aload_n 0, 1) := dk_42 rfl
theorem dX11_house_47 : decode cX11_house 47 = .ok (.getfield 23, 3) := dk_180 rfl rfl rfl rfl
theorem dX11_house_50 : decode cX11_house 50 = .ok (.iload_n 2, 1) := dk_28 rfl
theorem dX11_house_51 : decode cX11_house 51 = .ok (.iconst 0, 1) := dk_3 rfl
theorem dX11_house_52 : decode cX11_house 52 = .ok (.iastore, 1) := dk_79 rfl
theorem dX11_house_53 : decode cX11_house 53 = .ok (.iinc 2 1, 3) := dk_132 rfl rfl rfl rfl (by decide)
theorem dX11_house_56 : decode cX11_house 56 = .ok (.goto (-17), 3) := dk_167 rfl rfl rfl (by decide)
theorem dX11_house_59 : decode cX11_house 59 = .ok (.aload_n 0, 1) := dk_42 rfl
theorem dX11_house_60 : decode cX11_house 60 = .ok (.iload_n 1, 1) := dk_27 rfl
theorem dX11_house_61 : decode cX11_house 61 = .ok (.putfield 92, 3) := dk_181 rfl rfl rfl rfl
theorem dX11_house_64 : decode cX11_house 64 = .ok (.aload_n 0, 1) := dk_42 rfl
theorem dX11_house_65 : decode cX11_house 65 = .ok (.iconst 0, 1) := dk_3 rfl
theorem dX11_house_66 : decode cX11_house 66 = .ok (.putfield 95, 3) := dk_181 rfl rfl rfl rfl
theorem dX11_house_69 : decode cX11_house 69 = .ok (.aload_n 0, 1) := dk_42 rfl
theorem dX11_house_70 : decode cX11_house 70 = .ok (.invokevirtual 142, 3) := dk_182 rfl rfl rfl rfl
theorem dX11_house_73 : decode cX11_house 73 = .ok (.aload_n 0, 1) := dk_42 rfl
theorem dX11_house_74 : decode cX11_house 74 = .ok (.invokevirtual 206, 3) := dk_182 rfl rfl rfl rfl
theorem dX11_house_77 : decode cX11_house 77 = .ok (.aload_n 0, 1) := dk_42 rfl
theorem dX11_house_78 : decode cX11_house 78 = .ok (.getfield 121, 3) := dk_180 rfl rfl rfl rfl
theorem dX11_house_81 : decode cX11_house 81 = .ok (.ifCond .ne 23, 3) := dk_154 rfl rfl rfl (by decide)
theorem dX11_house_84 : decode cX11_house 84 = .ok (.aload_n 0, 1) := dk_42 rfl
theorem dX11_house_85 : decode cX11_house 85 = .ok (.getfield 111, 3) := dk_180 rfl rfl rfl rfl
theorem dX11_house_88 : decode cX11_house 88 = .ok (.bipush 59, 2) := dk_16 rfl rfl (by decide)
theorem dX11_house_90 : decode cX11_house 90 = .ok (.if_icmp .ne 14, 3) := dk_160 rfl rfl rfl (by decide)
theorem dX11_house_93 : decode cX11_house 93 = .ok (.aload_n 0, 1) := dk_42 rfl
theorem dX11_house_94 : decode cX11_house 94 = .ok (.invokevirtual 142, 3) := dk_182 rfl rfl rfl rfl
theorem dX11_house_97 : decode cX11_house 97 = .ok (.aload_n 0, 1) := by decide +kernel
theorem dX11_house_98 : decode cX11_house 98 = .ok (.invokevirtual 206, 3) := by decide +kernel
theorem dX11_house_101 : decode cX11_house 101 = .ok (.goto (-24), 3) := by decide +kernel
theorem dX11_house_104 : decode cX11_house 104 = .ok (.aload_n 0, 1) := by decide +kernel
theorem dX11_house_105 : decode cX11_house 105 = .ok (.getfield 121, 3) := by decide +kernel
theorem dX11_house_108 : decode cX11_house 108 = .ok (.ifCond .ne 19, 3) := by decide +kernel
theorem dX11_house_111 : decode cX11_house 111 = .ok (.aload_n 0, 1) := by decide +kernel
theorem dX11_house_112 : decode cX11_house 112 = .ok (.getfield 111, 3) := by decide +kernel
theorem dX11_house_115 : decode cX11_house 115 = .ok (.ifCond .eq 12, 3) := by decide +kernel
theorem dX11_house_118 : decode cX11_house 118 = .ok (.aload_n 0, 1) := by decide +kernel
theorem dX11_house_119 : decode cX11_house 119 = .ok (.iconst 1, 1) := by decide +kernel
theorem dX11_house_120 : decode cX11_house 120 = .ok (.aload_n 0, 1) := by decide +kernel
theorem dX11_house_121 : decode cX11_house 121 = .ok (.getfield 102, 3) := by decide +kernel
theorem dX11_house_124 : decode cX11_house 124 = .ok (.invokevirtual 148, 3) := by decide +kernel
theorem dX11_house_127 : decode cX11_house 127 = .ok (.aload_n 0, 1) := by decide +kernel
theorem dX11_house_128 : decode cX11_house 128 = .ok (.getfield 121, 3) := by decide +kernel
theorem dX11_house_131 : decode cX11_house 131 = .ok (.ifCond .ne 43, 3) := by decide +kernel
theorem dX11_house_134 : decode cX11_house 134 = .ok (.aload_n 0, 1) := by decide +kernel
theorem dX11_house_135 : decode cX11_house 135 = .ok (.getfield 23, 3) := by decide +kernel
theorem dX11_house_138 : decode cX11_house 138 = .ok (.bipush 15, 2) := by decide +kernel
theorem dX11_house_140 : decode cX11_house 140 = .ok (.iaload, 1) := by decide +kernel
theorem dX11_house_141 : decode cX11_house 141 = .ok (.ifCond .eq 23, 3) := by decide +kernel
theorem dX11_house_144 : decode cX11_house 144 = .ok (.aload_n 0, 1) := by decide +kernel
theorem dX11_house_145 : decode cX11_house 145 = .ok (.getfield 23, 3) := by decide +kernel
theorem dX11_house_148 : decode cX11_house 148 = .ok (.bipush 12, 2) := by decide +kernel
theorem dX11_house_150 : decode cX11_house 150 = .ok (.iaload, 1) := by decide +kernel
theorem dX11_house_151 : decode cX11_house 151 = .ok (.ifCond .eq 13, 3) := by decide +kernel
theorem dX11_house_154 : decode cX11_house 154 = .ok (.aload_n 0, 1) := by decide +kernel
theorem dX11_house_155 : decode cX11_house 155 = .ok (.getfield 23, 3) := by decide +kernel
theorem dX11_house_158 : decode cX11_house 158 = .ok (.bipush 11, 2) := by decide +kernel
theorem dX11_house_160 : decode cX11_house 160 = .ok (.iaload, 1) := by decide +kernel
theorem dX11_house_161 : decode cX11_house 161 = .ok (.ifCond .ne 13, 3) := by decide +kernel
theorem dX11_house_164 : decode cX11_house 164 = .ok (.aload_n 0, 1) := by decide +kernel
theorem dX11_house_165 : decode cX11_house 165 = .ok (.bipush 6, 2) := by decide +kernel
theorem dX11_house_167 : decode cX11_house 167 = .ok (.aload_n 0, 1) := by decide +kernel
theorem dX11_house_168 : decode cX11_house 168 = .ok (.getfield 102, 3) := by decide +kernel
theorem dX11_house_171 : decode cX11_house 171 = .ok (.invokevirtual 148, 3) := by decide +kernel
theorem dX11_house_174 : decode cX11_house 174 = .ok (.aload_n 0, 1) := by decide +kernel
theorem dX11_house_175 : decode cX11_house 175 = .ok (.getfield 121, 3) := by decide +kernel
theorem dX11_house_178 : decode cX11_house 178 = .ok (.ifCond .eq 9, 3) := by decide +kernel
theorem dX11_house_181 : decode cX11_house 181 = .ok (.aload_n 0, 1) := by decide +kernel
theorem dX11_house_182 : decode cX11_house 182 = .ok (.iconst 4, 1) := by decide +kernel
theorem dX11_house_183 : decode cX11_house 183 = .ok (.invokevirtual 203, 3) := by decide +kernel
theorem dX11_house_186 : decode cX11_house 186 = .ok (.ireturn, 1) := by decide +kernel
theorem dX11_house_187 : decode cX11_house 187 = .ok (.aload_n 0, 1) := by decide +kernel
theorem dX11_house_188 : decode cX11_house 188 = .ok (.getfield 23, 3) := by decide +kernel
theorem dX11_house_191 : decode cX11_house 191 = .ok (.iconst 0, 1) := by decide +kernel
theorem dX11_house_192 : decode cX11_house 192 = .ok (.aload_n 0, 1) := by decide +kernel
theorem dX11_house_193 : decode cX11_house 193 = .ok (.getfield 20, 3) := by decide +kernel
theorem dX11_house_196 : decode cX11_house 196 = .ok (.iconst 0, 1) := by decide +kernel
theorem dX11_house_197 : decode cX11_house 197 = .ok (.sipush 311, 3) := by decide +kernel
theorem dX11_house_200 : decode cX11_house 200 = .ok (.invokestatic 209, 3) := by decide +kernel
theorem dX11_house_203 : decode cX11_house 203 = .ok (.iconst 0, 1) := by decide +kernel
theorem dX11_house_204 : decode cX11_house 204 = .ok (.istore_n 2, 1) := by decide +kernel
theorem dX11_house_205 : decode cX11_house 205 = .ok (.iload_n 2, 1) := by decide +kernel
theorem dX11_house_206 : decode cX11_house 206 = .ok (.bipush 44, 2) := by decide +kernel
theorem dX11_house_208 : decode cX11_house 208 = .ok (.if_icmp .ge 16, 3) := by decide +kernel
theorem dX11_house_211 : decode cX11_house 211 = .ok (.aload_n 0, 1) := by decide +kernel
theorem dX11_house_212 : decode cX11_house 212 = .ok (.getfield 26, 3) := by decide +kernel
theorem dX11_house_215 : decode cX11_house 215 = .ok (.iload_n 2, 1) := by decide +kernel
theorem dX11_house_216 : decode cX11_house 216 = .ok (.iconst 0, 1) := by decide +kernel
theorem dX11_house_217 : decode cX11_house 217 = .ok (.iastore, 1) := by decide +kernel
theorem dX11_house_218 : decode cX11_house 218 = .ok (.iinc 2 1, 3) := by decide +kernel
theorem dX11_house_221 : decode cX11_house 221 = .ok (.goto (-16), 3) := by decide +kernel
theorem dX11_house_224 : decode cX11_house 224 = .ok (.iconst 0, 1) := by decide +kernel
theorem dX11_house_225 : decode cX11_house 225 = .ok (.istore_n 2, 1) := by decide +kernel
theorem dX11_house_226 : decode cX11_house 226 = .ok (.iload_n 2, 1) := by decide +kernel
theorem dX11_house_227 : decode cX11_house 227 = .ok (.aload_n 0, 1) := by decide +kernel
theorem dX11_house_228 : decode cX11_house 228 = .ok (.getfield 20, 3) := by decide +kernel
theorem dX11_house_231 : decode cX11_house 231 = .ok (.bipush 6, 2) := by decide +kernel
theorem dX11_house_233 : decode cX11_house 233 = .ok (.iaload, 1) := by decide +kernel
theorem dX11_house_234 : decode cX11_house 234 = .ok (.if_icmp .ge 50, 3) := by decide +kernel
theorem dX11_house_237 : decode cX11_house 237 = .ok (.aload_n 0, 1) := by decide +kernel
theorem dX11_house_238 : decode cX11_house 238 = .ok (.getfield 26, 3) := by decide +kernel
theorem dX11_house_241 : decode cX11_house 241 = .ok (.iconst 0, 1) := by decide +kernel
theorem dX11_house_242 : decode cX11_house 242 = .ok (.iload_n 2, 1) := by decide +kernel
theorem dX11_house_243 : decode cX11_house 243 = .ok (.iadd, 1) := by decide +kernel
theorem dX11_house_244 : decode cX11_house 244 = .ok (.aload_n 0, 1) := by decide +kernel
theorem dX11_house_245 : decode cX11_house 245 = .ok (.getfield 20, 3) := by decide +kernel
theorem dX11_house_248 : decode cX11_house 248 = .ok (.bipush 16, 2) := by decide +kernel
theorem dX11_house_250 : decode cX11_house 250 = .ok (.iconst 3, 1) := by decide +kernel
theorem dX11_house_251 : decode cX11_house 251 = .ok (.iload_n 2, 1) := by decide +kernel
theorem dX11_house_252 : decode cX11_house 252 = .ok (.imul, 1) := by decide +kernel
theorem dX11_house_253 : decode cX11_house 253 = .ok (.iadd, 1) := by decide +kernel
theorem dX11_house_254 : decode cX11_house 254 = .ok (.iaload, 1) := by decide +kernel
theorem dX11_house_255 : decode cX11_house 255 = .ok (.iastore, 1) := by decide +kernel
theorem dX11_house_256 : decode cX11_house 256 = .ok (.aload_n 0, 1) := by decide +kernel
theorem dX11_house_257 : decode cX11_house 257 = .ok (.getfield 26, 3) := by decide +kernel
theorem dX11_house_260 : decode cX11_house 260 = .ok (.bipush 8, 2) := by decide +kernel
theorem dX11_house_262 : decode cX11_house 262 = .ok (.iload_n 2, 1) := by decide +kernel
theorem dX11_house_263 : decode cX11_house 263 = .ok (.iadd, 1) := by decide +kernel
theorem dX11_house_264 : decode cX11_house 264 = .ok (.aload_n 0, 1) := by decide +kernel
theorem dX11_house_265 : decode cX11_house 265 = .ok (.getfield 20, 3) := by decide +kernel
theorem dX11_house_268 : decode cX11_house 268 = .ok (.bipush 16, 2) := by decide +kernel
theorem dX11_house_270 : decode cX11_house 270 = .ok (.iconst 3, 1) := by decide +kernel
theorem dX11_house_271 : decode cX11_house 271 = .ok (.iload_n 2, 1) := by decide +kernel
theorem dX11_house_272 : decode cX11_house 272 = .ok (.imul, 1) := by decide +kernel
theorem dX11_house_273 : decode cX11_house 273 = .ok (.iadd, 1) := by decide +kernel
theorem dX11_house_274 : decode cX11_house 274 = .ok (.iconst 1, 1) := by decide +kernel
theorem dX11_house_275 : decode cX11_house 275 = .ok (.iadd, 1) := by decide +kernel
theorem dX11_house_276 : decode cX11_house 276 = .ok (.iaload, 1) := by decide +kernel
theorem dX11_house_277 : decode cX11_house 277 = .ok (.iastore, 1) := by decide +kernel
theorem dX11_house_278 : decode cX11_house 278 = .ok (.iinc 2 1, 3) := by decide +kernel
theorem dX11_house_281 : decode cX11_house 281 = .ok (.goto (-55), 3) := by decide +kernel
theorem dX11_house_284 : decode cX11_house 284 = .ok (.iconst 0, 1) := by decide +kernel
theorem dX11_house_285 : decode cX11_house 285 = .ok (.istore_n 2, 1) := by decide +kernel
theorem dX11_house_286 : decode cX11_house 286 = .ok (.iload_n 2, 1) := by decide +kernel
theorem dX11_house_287 : decode cX11_house 287 = .ok (.aload_n 0, 1) := by decide +kernel
theorem dX11_house_288 : decode cX11_house 288 = .ok (.getfield 20, 3) := by decide +kernel
theorem dX11_house_291 : decode cX11_house 291 = .ok (.bipush 8, 2) := by decide +kernel
theorem dX11_house_293 : decode cX11_house 293 = .ok (.iaload, 1) := by decide +kernel
theorem dX11_house_294 : decode cX11_house 294 = .ok (.if_icmp .ge 31, 3) := by decide +kernel
theorem dX11_house_297 : decode cX11_house 297 = .ok (.aload_n 0, 1) := by decide +kernel
theorem dX11_house_298 : decode cX11_house 298 = .ok (.getfield 26, 3) := by decide +kernel
theorem dX11_house_301 : decode cX11_house 301 = .ok (.bipush 16, 2) := by decide +kernel
theorem dX11_house_303 : decode cX11_house 303 = .ok (.iload_n 2, 1) := by decide +kernel
theorem dX11_house_304 : decode cX11_house 304 = .ok (.iadd, 1) := by decide +kernel
theorem dX11_house_305 : decode cX11_house 305 = .ok (.aload_n 0, 1) := by decide +kernel
theorem dX11_house_306 : decode cX11_house 306 = .ok (.getfield 20, 3) := by decide +kernel
theorem dX11_house_309 : decode cX11_house 309 = .ok (.bipush 44, 2) := by decide +kernel
theorem dX11_house_311 : decode cX11_house 311 = .ok (.iconst 3, 1) := by decide +kernel
theorem dX11_house_312 : decode cX11_house 312 = .ok (.iload_n 2, 1) := by decide +kernel
theorem dX11_house_313 : decode cX11_house 313 = .ok (.imul, 1) := by decide +kernel
theorem dX11_house_314 : decode cX11_house 314 = .ok (.iadd, 1) := by decide +kernel
theorem dX11_house_315 : decode cX11_house 315 = .ok (.iconst 1, 1) := by decide +kernel
theorem dX11_house_316 : decode cX11_house 316 = .ok (.iadd, 1) := by decide +kernel
theorem dX11_house_317 : decode cX11_house 317 = .ok (.iaload, 1) := by decide +kernel
theorem dX11_house_318 : decode cX11_house 318 = .ok (.iastore, 1) := by decide +kernel
theorem dX11_house_319 : decode cX11_house 319 = .ok (.iinc 2 1, 3) := by decide +kernel
theorem dX11_house_322 : decode cX11_house 322 = .ok (.goto (-36), 3) := by decide +kernel
theorem dX11_house_325 : decode cX11_house 325 = .ok (.iconst 0, 1) := by decide +kernel
theorem dX11_house_326 : decode cX11_house 326 = .ok (.istore_n 2, 1) := by decide +kernel
theorem dX11_house_327 : decode cX11_house 327 = .ok (.iload_n 2, 1) := by decide +kernel
theorem dX11_house_328 : decode cX11_house 328 = .ok (.aload_n 0, 1) := by decide +kernel
theorem dX11_house_329 : decode cX11_house 329 = .ok (.getfield 20, 3) := by decide +kernel
theorem dX11_house_332 : decode cX11_house 332 = .ok (.bipush 10, 2) := by decide +kernel
theorem dX11_house_334 : decode cX11_house 334 = .ok (.iaload, 1) := by decide +kernel
theorem dX11_house_335 : decode cX11_house 335 = .ok (.if_icmp .ge 31, 3) := by decide +kernel
theorem dX11_house_338 : decode cX11_house 338 = .ok (.aload_n 0, 1) := by decide +kernel
theorem dX11_house_339 : decode cX11_house 339 = .ok (.getfield 26, 3) := by decide +kernel
theorem dX11_house_342 : decode cX11_house 342 = .ok (.bipush 28, 2) := by decide +kernel
theorem dX11_house_344 : decode cX11_house 344 = .ok (.iload_n 2, 1) := by decide +kernel
theorem dX11_house_345 : decode cX11_house 345 = .ok (.iadd, 1) := by decide +kernel
theorem dX11_house_346 : decode cX11_house 346 = .ok (.aload_n 0, 1) := by decide +kernel
theorem dX11_house_347 : decode cX11_house 347 = .ok (.getfield 20, 3) := by decide +kernel
theorem dX11_house_350 : decode cX11_house 350 = .ok (.bipush 96, 2) := by decide +kernel
theorem dX11_house_352 : decode cX11_house 352 = .ok (.iconst 3, 1) := by decide +kernel
theorem dX11_house_353 : decode cX11_house 353 = .ok (.iload_n 2, 1) := by decide +kernel
theorem dX11_house_354 : decode cX11_house 354 = .ok (.imul, 1) := by decide +kernel
theorem dX11_house_355 : decode cX11_house 355 = .ok (.iadd, 1) := by decide +kernel
theorem dX11_house_356 : decode cX11_house 356 = .ok (.iconst 1, 1) := by decide +kernel
theorem dX11_house_357 : decode cX11_house 357 = .ok (.iadd, 1) := by decide +kernel
theorem dX11_house_358 : decode cX11_house 358 = .ok (.iaload, 1) := by decide +kernel
theorem dX11_house_359 : decode cX11_house 359 = .ok (.iastore, 1) := by decide +kernel
theorem dX11_house_360 : decode cX11_house 360 = .ok (.iinc 2 1, 3) := by decide +kernel
theorem dX11_house_363 : decode cX11_house 363 = .ok (.goto (-36), 3) := by decide +kernel
theorem dX11_house_366 : decode cX11_house 366 = .ok (.iconst 0, 1) := by decide +kernel
theorem dX11_house_367 : decode cX11_house 367 = .ok (.istore_n 2, 1) := by decide +kernel
theorem dX11_house_368 : decode cX11_house 368 = .ok (.iload_n 2, 1) := by decide +kernel
theorem dX11_house_369 : decode cX11_house 369 = .ok (.aload_n 0, 1) := by decide +kernel
theorem dX11_house_370 : decode cX11_house 370 = .ok (.getfield 20, 3) := by decide +kernel
theorem dX11_house_373 : decode cX11_house 373 = .ok (.bipush 12, 2) := by decide +kernel
theorem dX11_house_375 : decode cX11_house 375 = .ok (.iaload, 1) := by decide +kernel
theorem dX11_house_376 : decode cX11_house 376 = .ok (.if_icmp .ge 24, 3) := by decide +kernel
theorem dX11_house_379 : decode cX11_house 379 = .ok (.aload_n 0, 1) := by decide +kernel
theorem dX11_house_380 : decode cX11_house 380 = .ok (.getfield 26, 3) := by decide +kernel
theorem dX11_house_383 : decode cX11_house 383 = .ok (.bipush 34, 2) := by decide +kernel
theorem dX11_house_385 : decode cX11_house 385 = .ok (.iload_n 2, 1) := by decide +kernel
theorem dX11_house_386 : decode cX11_house 386 = .ok (.iadd, 1) := by decide +kernel
theorem dX11_house_387 : decode cX11_house 387 = .ok (.aload_n 0, 1) := by decide +kernel
theorem dX11_house_388 : decode cX11_house 388 = .ok (.getfield 20, 3) := by decide +kernel
theorem dX11_house_391 : decode cX11_house 391 = .ok (.iconst 2, 1) := by decide +kernel
theorem dX11_house_392 : decode cX11_house 392 = .ok (.iaload, 1) := by decide +kernel
theorem dX11_house_393 : decode cX11_house 393 = .ok (.iastore, 1) := by decide +kernel
theorem dX11_house_394 : decode cX11_house 394 = .ok (.iinc 2 1, 3) := by decide +kernel
theorem dX11_house_397 : decode cX11_house 397 = .ok (.goto (-29), 3) := by decide +kernel
theorem dX11_house_400 : decode cX11_house 400 = .ok (.aload_n 0, 1) := by decide +kernel
theorem dX11_house_401 : decode cX11_house 401 = .ok (.iconst 1, 1) := by decide +kernel
theorem dX11_house_402 : decode cX11_house 402 = .ok (.putfield 213, 3) := by decide +kernel
theorem dX11_house_405 : decode cX11_house 405 = .ok (.aload_n 0, 1) := by decide +kernel
theorem dX11_house_406 : decode cX11_house 406 = .ok (.iconst 0, 1) := by decide +kernel
theorem dX11_house_407 : decode cX11_house 407 = .ok (.putfield 216, 3) := by decide +kernel
theorem dX11_house_410 : decode cX11_house 410 = .ok (.aload_n 0, 1) := by decide +kernel
theorem dX11_house_411 : decode cX11_house 411 = .ok (.iconst 0, 1) := by decide +kernel
theorem dX11_house_412 : decode cX11_house 412 = .ok (.putfield 219, 3) := by decide +kernel
theorem dX11_house_415 : decode cX11_house 415 = .ok (.aload_n 0, 1) := by decide +kernel
theorem dX11_house_416 : decode cX11_house 416 = .ok (.getfield 20, 3) := by decide +kernel
theorem dX11_house_419 : decode cX11_house 419 = .ok (.bipush 12, 2) := by decide +kernel
theorem dX11_house_421 : decode cX11_house 421 = .ok (.iaload, 1) := by decide +kernel
theorem dX11_house_422 : decode cX11_house 422 = .ok (.ireturn, 1) := by decide +kernel
