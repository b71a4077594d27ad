
set_option maxHeartbeats 4000000 in
set_option maxRecDepth 100000 in
theorem m_copyR (l : Launch) (g : Gx) (fa : Nat) (ta : Nat) (f1 : Nat → Int32) (f2 : Nat → Int32) (hp_f1 : RInv f1) : cV l g yX11_copy cX11_copy 6 0 0 0 0 [.ref fa, .int 0, .ref ta, .int 0, .int 311] [(fa, .inl (g.2.2.1, 311, .inl f1)), (ta, .inl (g.2.2.1, 311, .inl f2))] (fun w => ∃ (f3 : Nat → Int32), (RInv f3) ∧ w = [(fa, .inl (g.2.2.1, 311, .inl f1)), (ta, .inl (g.2.2.1, 311, .inl f3))]) := by
  refine cV.of (by decide) (Nat.le_of_ble_eq_true rfl) ?_
  intro p e s m args below meth c A X hr hi
  refine k_lveq [(0, .ref fa), (1, .int 0), (2, .ref ta), (3, .int 0), (4, .int 311)] rfl ?_
  refine k_iconst (v := 0) X dX11_copy_0 (by decide) ?_
  refine k_istore [(5, .int 0), (0, .ref fa), (1, .int 0), (2, .ref ta), (3, .int 0), (4, .int 311)] X dX11_copy_1 (by decide) rfl ?_
  refine (fun hL : ∀ (nn_5 : Nat) (uf_1 : Nat → Int32) (u_2 : Int32), (311 - u_2.toInt).toNat = nn_5 → (IV u_2 0 900) → (∀ i : Nat, i < u_2.toInt.toNat → uf_1 i = f1 i) → Wk p l e _ s m args below meth c _ A g _ _ _ [(fa, .inl (g.2.2.1, 311, .inl f1)), (ta, .inl (g.2.2.1, 311, .inl uf_1))] [(5, .int u_2), (0, .ref fa), (1, .int 0), (2, .ref ta), (3, .int 0), (4, .int 311)] 3 [] => hL _ f2 0 rfl (iv_w (show IV 0 0 0 from (by decide)) (by decide) (by decide)) (cp_0)) ?_
  refine fun nn_5 => Nat.strongRecOn nn_5 (fun nn_5 ih_7 => ?_)
  intro uf_1 u_2 hm_6 hv_3 hx_4
  refine k_iload X dX11_copy_3 0 rfl ?_
  refine k_iload X dX11_copy_5 5 rfl ?_
  refine k_ic_ge 28 X dX11_copy_7 (by decide) (fun h_8 => ?_) (fun h_8 => ?_)
  · skip
    have j_9 : 311 ≤ u_2.toInt := iv_le h_8
    have iv_10 : IV u_2 311 900 := iv_leR (iv_le h_8) (show IV 311 311 311 from (by decide)) hv_3 (by decide)
    exact k_vret X hr dX11_copy_28 (Nat.le_of_ble_eq_true rfl) (Nat.le_of_ble_eq_true rfl) [0, 1] (by decide) rfl rfl ⟨uf_1, (rinv_cp hp_f1 (by assumption) (by omega)), rfl⟩
  · skip
    have j_11 : u_2.toInt < 311 := iv_nle h_8
    have iv_12 : IV u_2 0 310 := iv_ltL (iv_nle h_8) hv_3 (show IV 311 311 311 from (by decide)) (by decide)
    refine k_aload_n X dX11_copy_10 3 rfl ?_
    refine k_iload_n X dX11_copy_11 4 rfl ?_
    refine k_iload X dX11_copy_12 0 rfl ?_
    refine k_iadd X dX11_copy_14 ?_
    refine k_nm (fun z_13 ez_13 => ?_)
    have i_14 : z_13.toInt = 0 + u_2.toInt := in_add ez_13 (show IV 0 0 0 from (by decide)) iv_12 (by decide) (by decide)
    have iv_15 : IV z_13 0 310 := by have := (show IV 0 0 0 from (by decide)); have := iv_12; rw [IV, i_14]; omega
    refine k_aload_n X dX11_copy_15 1 rfl ?_
    refine k_iload_n X dX11_copy_16 2 rfl ?_
    refine k_iload X dX11_copy_17 0 rfl ?_
    refine k_iadd X dX11_copy_19 ?_
    refine k_to z_13 ez_13.symm ?_
    refine k_iald X dX11_copy_20 0 rfl (iv_in iv_15 (by decide) (by decide)) ?_
    refine k_nm (fun z_16 ez_16 => ?_)
    refine k_iast [(fa, .inl (g.2.2.1, 311, .inl f1)), (ta, .inl (g.2.2.1, 311, .inl (upd uf_1 (z_13 : Int32).toNatClampNeg z_16)))] X dX11_copy_21 1 rfl (iv_in iv_15 (by decide) (by decide)) rfl ?_
    obtain ⟨z_18, ez_18⟩ : ∃ y : Int32, u_2 + Int32.ofInt 1 = y := ⟨_, rfl⟩
    refine k_iinc z_18 [(5, .int z_18), (0, .ref fa), (1, .int 0), (2, .ref ta), (3, .int 0), (4, .int 311)] 0 X dX11_copy_22 rfl ez_18 (by decide) rfl ?_
    have i_19 : z_18.toInt = u_2.toInt + 1 := in_inc ez_18 (by decide) iv_12 (by decide) (by decide)
    have iv_20 : IV z_18 1 311 := by have := iv_12; rw [IV, i_19]; omega
    refine k_goto 3 X dX11_copy_25 (by decide) ?_
    exact ih_7 _ (by omega) ((upd uf_1 (z_13 : Int32).toNatClampNeg z_16)) z_18 rfl (iv_w iv_20 (by decide) (by decide)) (cp_step (by assumption) (by assumption) (by assumption) (by assumption) (by have := (by assumption : IV _ _ _); omega))

theorem dX11_house_0 : decode cX11_house 0 = .ok (.aload_n 0, 1) := by decide +kernel
theorem dX11_house_1 : decode cX11_house 1 = .ok (.invokevirtual 200, 3) := by decide +kernel
theorem dX11_house_4 : decode cX11_house 4 = .ok (.iload_n 1, 1) := by decide +kernel
theorem dX11_house_5 : decode cX11_house 5 = .ok (.iconst 0, 1) := by decide +kernel
theorem dX11_house_6 : decode cX11_house 6 = .ok (.aload_n 0, 1) := by decide +kernel
theorem dX11_house_7 : decode cX11_house 7 = .ok (.getfield 89, 3) := by decide +kernel
theorem dX11_house_10 : decode cX11_house 10 = .ok (.invokestatic 182, 3) := by decide +kernel
theorem dX11_house_13 : decode cX11_house 13 = .ok (.ifCond .ne 9, 3) := by decide +kernel
theorem dX11_house_16 : decode cX11_house 16 = .ok (.aload_n 0, 1) := by decide +kernel
theorem dX11_house_17 : decode cX11_house 17 = .ok (.iconst 2, 1) := by decide +kernel
theorem dX11_house_18 : decode cX11_house 18 = .ok (.invokevirtual 203, 3) := by decide +kernel
theorem dX11_house_21 : decode cX11_house 21 = .ok (.ireturn, 1) := by decide +kernel
theorem dX11_house_22 : decode cX11_house 22 = .ok (.aload_n 0, 1) := by decide +kernel
theorem dX11_house_23 : decode cX11_house 23 = .ok (.iconst 0, 1) := by decide +kernel
theorem dX11_house_24 : decode cX11_house 24 = .ok (.putfield 89, 3) := by decide +kernel
theorem dX11_house_27 : decode cX11_house 27 = .ok (.aload_n 0, 1) := by decide +kernel
theorem dX11_house_28 : decode cX11_house 28 = .ok (.iconst 0, 1) := by decide +kernel
theorem dX11_house_29 : decode cX11_house 29 = .ok (.putfield 125, 3) := by decide +kernel
theorem dX11_house_32 : decode cX11_house 32 = .ok (.aload_n 0, 1) := by decide +kernel
theorem dX11_house_33 : decode cX11_house 33 = .ok (.iconst 0, 1) := by decide +kernel
theorem dX11_house_34 : decode cX11_house 34 = .ok (.putfield 121, 3) := by decide +kernel
theorem dX11_house_37 : decode cX11_house 37 = .ok (.iconst 0, 1) := by decide +kernel
theorem dX11_house_38 : decode cX11_house 38 = .ok (.istore_n 2, 1) := by decide +kernel
theorem dX11_house_39 : decode cX11_house 39 = .ok (.iload_n 2, 1) := by decide +kernel
theorem dX11_house_40 : decode cX11_house 40 = .ok (.sipush 311, 3) := by decide +kernel
theorem dX11_house_43 : decode cX11_house 43 = .ok (.if_icmp .ge 16, 3) := by decide +kernel
theorem dX11_house_46 : decode cX11_house 46 = .ok (.aload_n 0, 1) := by decide +kernel
theorem dX11_house_47 : decode cX11_house 47 = .ok (.getfield 23, 3) := by decide +kernel
theorem dX11_house_50 : decode cX11_house 50 = .ok (.iload_n 2, 1) := by decide +kernel
theorem dX11_house_51 : decode cX11_house 51 = .ok (.iconst 0, 1) := by decide +kernel
theorem dX11_house_52 : decode cX11_house 52 = .ok (.iastore, 1) := by decide +kernel
theorem dX11_house_53 : decode cX11_house 53 = .ok (.iinc 2 1, 3) := by decide +kernel
theorem dX11_house_56 : decode cX11_house 56 = .ok (.goto (-17), 3) := by decide +kernel
theorem dX11_house_59 : decode cX11_house 59 = .ok (.aload_n 0, 1) := by decide +kernel
theorem dX11_house_60 : decode cX11_house 60 = .ok (.iload_n 1, 1) := by decide +kernel
theorem dX11_house_61 : decode cX11_house 61 = .ok (.putfield 92, 3) := by decide +kernel
theorem dX11_house_64 : decode cX11_house 64 = .ok (.aload_n 0, 1) := by decide +kernel
theorem dX11_house_65 : decode cX11_house 65 = .ok (.iconst 0, 1) := by decide +kernel
theorem dX11_house_66 : decode cX11_house 66 = .ok (.putfield 95, 3) := by decide +kernel
theorem dX11_house_69 : decode cX11_house 69 = .ok (.aload_n 0, 1) := by decide +kernel
theorem dX11_house_70 : decode cX11_house 70 = .ok (.invokevirtual 142, 3) := by decide +kernel
theorem dX11_house_73 : decode cX11_house 73 = .ok (.aload_n 0, 1) := by decide +kernel
theorem dX11_house_74 : decode cX11_house 74 = .ok (.invokevirtual 206, 3) := by decide +kernel
theorem dX11_house_77 : decode cX11_house 77 = .ok (.aload_n 0, 1) := by decide +kernel
theorem dX11_house_78 : decode cX11_house 78 = .ok (.getfield 121, 3) := by decide +kernel
theorem dX11_house_81 : decode cX11_house 81 = .ok (.ifCond .ne 23, 3) := by decide +kernel
theorem dX11_house_84 : decode cX11_house 84 = .ok (.aload_n 0, 1) := by decide +kernel
theorem dX11_house_85 : decode cX11_house 85 = .ok (.getfield 111, 3) := by decide +kernel
theorem dX11_house_88 : decode cX11_house 88 = .ok (.bipush 59, 2) := by decide +kernel
theorem dX11_house_90 : decode cX11_house 90 = .ok (.if_icmp .ne 14, 3) := by decide +kernel
theorem dX11_house_93 : decode cX11_house 93 = .ok (.aload_n 0, 1) := by decide +kernel
theorem dX11_house_94 : decode cX11_house 94 = .ok (.invokevirtual 142, 3) := by decide +kernel
theorem dX11_house_97 : decode cX11_house 97 = .ok (.aload_n 0, 1) := by decide +kernel
theorem dX11_house_98 : decode cX11_house 98 = .ok (.invokevirtual 206, 3) := by decide +kernel
theorem dX11_house_101 : decode cX11_house 101 = .ok (.goto (-24), 3) := by decide +kernel
theorem dX11_house_104 : decode cX11_house 104 = .ok (.aload_n 0, 1) := by decide +kernel
theorem dX11_house_105 : decode cX11_house 105 = .ok (.getfield 121, 3) := by decide +kernel
theorem dX11_house_108 : decode cX11_house 108 = .ok (.ifCond .ne 19, 3) := by decide +kernel
theorem dX11_house_111 : decode cX11_house 111 = .ok (.aload_n 0, 1) := by decide +kernel
theorem dX11_house_112 : decode cX11_house 112 = .ok (.getfield 111, 3) := by decide +kernel
theorem dX11_house_115 : decode cX11_house 115 = .ok (.ifCond .eq 12, 3) := by decide +kernel
theorem dX11_house_118 : decode cX11_house 118 = .ok (.aload_n 0, 1) := by decide +kernel
theorem dX11_house_119 : decode cX11_house 119 = .ok (.iconst 1, 1) := by decide +kernel
theorem dX11_house_120 : decode cX11_house 120 = .ok (.aload_n 0, 1) := by decide +kernel
theorem dX11_house_121 : decode cX11_house 121 = .ok (.getfield 102, 3) := by decide +kernel
theorem dX11_house_124 : decode cX11_house 124 = .ok (.invokevirtual 148, 3) := by decide +kernel
theorem dX11_house_127 : decode cX11_house 127 = .ok (.aload_n 0, 1) := by decide +kernel
theorem dX11_house_128 : decode cX11_house 128 = .ok (.getfield 121, 3) := by decide +kernel
theorem dX11_house_131 : decode cX11_house 131 = .ok (.ifCond .ne 43, 3) := by decide +kernel
theorem dX11_house_134 : decode cX11_house 134 = .ok (.aload_n 0, 1) := by decide +kernel
theorem dX11_house_135 : decode cX11_house 135 = .ok (.getfield 23, 3) := by decide +kernel
theorem dX11_house_138 : decode cX11_house 138 = .ok (.bipush 15, 2) := by decide +kernel
theorem dX11_house_140 : decode cX11_house 140 = .ok (.iaload, 1) := by decide +kernel
theorem dX11_house_141 : decode cX11_house 141 = .ok (.ifCond .eq 23, 3) := by decide +kernel
theorem dX11_house_144 : decode cX11_house 144 = .ok (.aload_n 0, 1) := by decide +kernel
theorem dX11_house_145 : decode cX11_house 145 = .ok (.getfield 23, 3) := by decide +kernel
theorem dX11_house_148 : decode cX11_house 148 = .ok (.bipush 12, 2) := by decide +kernel
theorem dX11_house_150 : decode cX11_house 150 = .ok (.iaload, 1) := by decide +kernel
theorem dX11_house_151 : decode cX11_house 151 = .ok (.ifCond .eq 13, 3) := by decide +kernel
theorem dX11_house_154 : decode cX11_house 154 = .ok (.aload_n 0, 1) := by decide +kernel
theorem dX11_house_155 : decode cX11_house 155 = .ok (.getfield 23, 3) := by decide +kernel
theorem dX11_house_158 : decode cX11_house 158 = .ok (.bipush 11, 2) := by decide +kernel
theorem dX11_house_160 : decode cX11_house 160 = .ok (.iaload, 1) := by decide +kernel
theorem dX11_house_161 : decode cX11_house 161 = .ok (.ifCond .ne 13, 3) := by decide +kernel
theorem dX11_house_164 : decode cX11_house 164 = .ok (.aload_n 0, 1) := by decide +kernel
theorem dX11_house_165 : decode cX11_house 165 = .ok (.bipush 6, 2) := by decide +kernel
theorem dX11_house_167 : decode cX11_house 167 = .ok (.aload_n 0, 1) := by decide +kernel
theorem dX11_house_168 : decode cX11_house 168 = .ok (.getfield 102, 3) := by decide +kernel
theorem dX11_house_171 : decode cX11_house 171 = .ok (.invokevirtual 148, 3) := by decide +kernel
theorem dX11_house_174 : decode cX11_house 174 = .ok (.aload_n 0, 1) := by decide +kernel
theorem dX11_house_175 : decode cX11_house 175 = .ok (.getfield 121, 3) := by decide +kernel
theorem dX11_house_178 : decode cX11_house 178 = .ok (.ifCond .eq 9, 3) := by decide +kernel
theorem dX11_house_181 : decode cX11_house 181 = .ok (.aload_n 0, 1) := by decide +kernel
theorem dX11_house_182 : decode cX11_house 182 = .ok (.iconst 4, 1) := by decide +kernel
theorem dX11_house_183 : decode cX11_house 183 = .ok (.invokevirtual 203, 3) := by decide +kernel
theorem dX11_house_186 : decode cX11_house 186 = .ok (.ireturn, 1) := by decide +kernel
theorem dX11_house_187 : decode cX11_house 187 = .ok (.aload_n 0, 1) := by decide +kernel
theorem dX11_house_188 : decode cX11_house 188 = .ok (.getfield 23, 3) := by decide +kernel
theorem dX11_house_191 : decode cX11_house 191 = .ok (.iconst 0, 1) := by decide +kernel
theorem dX11_house_192 : decode cX11_house 192 = .ok (.aload_n 0, 1) := by decide +kernel
theorem dX11_house_193 : decode cX11_house 193 = .ok (.getfield 20, 3) := by decide +kernel
theorem dX11_house_196 : decode cX11_house 196 = .ok (.iconst 0, 1) := by decide +kernel
theorem dX11_house_197 : decode cX11_house 197 = .ok (.sipush 311, 3) := by decide +kernel
theorem dX11_house_200 : decode cX11_house 200 = .ok (.invokestatic 209, 3) := by decide +kernel
theorem dX11_house_203 : decode cX11_house 203 = .ok (.iconst 0, 1) := by decide +kernel
theorem dX11_house_204 : decode cX11_house 204 = .ok (.istore_n 2, 1) := by decide +kernel
theorem dX11_house_205 : decode cX11_house 205 = .ok (.iload_n 2, 1) := by decide +kernel
theorem dX11_house_206 : decode cX11_house 206 = .ok (.bipush 44, 2) := by decide +kernel
theorem dX11_house_208 : decode cX11_house 208 = .ok (.if_icmp .ge 16, 3) := by decide +kernel
theorem dX11_house_211 : decode cX11_house 211 = .ok (.aload_n 0, 1) := by decide +kernel
theorem dX11_house_212 : decode cX11_house 212 = .ok (.getfield 26, 3) := by decide +kernel
theorem dX11_house_215 : decode cX11_house 215 = .ok (.iload_n 2, 1) := by decide +kernel
theorem dX11_house_216 : decode cX11_house 216 = .ok (.iconst 0, 1) := by decide +kernel
theorem dX11_house_217 : decode cX11_house 217 = .ok (.iastore, 1) := by decide +kernel
theorem dX11_house_218 : decode cX11_house 218 = .ok (.iinc 2 1, 3) := by decide +kernel
theorem dX11_house_221 : decode cX11_house 221 = .ok (.goto (-16), 3) := by decide +kernel
theorem dX11_house_224 : decode cX11_house 224 = .ok (.iconst 0, 1) := by decide +kernel
theorem dX11_house_225 : decode cX11_house 225 = .ok (.istore_n 2, 1) := by decide +kernel
theorem dX11_house_226 : decode cX11_house 226 = .ok (.iload_n 2, 1) := by decide +kernel
theorem dX11_house_227 : decode cX11_house 227 = .ok (.aload_n 0, 1) := by decide +kernel
theorem dX11_house_228 : decode cX11_house 228 = .ok (.getfield 20, 3) := by decide +kernel
theorem dX11_house_231 : decode cX11_house 231 = .ok (.bipush 6, 2) := by decide +kernel
theorem dX11_house_233 : decode cX11_house 233 = .ok (.iaload, 1) := by decide +kernel
theorem dX11_house_234 : decode cX11_house 234 = .ok (.if_icmp .ge 50, 3) := by decide +kernel
theorem dX11_house_237 : decode cX11_house 237 = .ok (.aload_n 0, 1) := by decide +kernel
theorem dX11_house_238 : decode cX11_house 238 = .ok (.getfield 26, 3) := by decide +kernel
theorem dX11_house_241 : decode cX11_house 241 = .ok (.iconst 0, 1) := by decide +kernel
theorem dX11_house_242 : decode cX11_house 242 = .ok (.iload_n 2, 1) := by decide +kernel
theorem dX11_house_243 : decode cX11_house 243 = .ok (.iadd, 1) := by decide +kernel
theorem dX11_house_244 : decode cX11_house 244 = .ok (.aload_n 0, 1) := by decide +kernel
theorem dX11_house_245 : decode cX11_house 245 = .ok (.getfield 20, 3) := by decide +kernel
theorem dX11_house_248 : decode cX11_house 248 = .ok (.bipush 16, 2) := by decide +kernel
theorem dX11_house_250 : decode cX11_house 250 = .ok (.iconst 3, 1) := by decide +kernel
theorem dX11_house_251 : decode cX11_house 251 = .ok (.iload_n 2, 1) := by decide +kernel
theorem dX11_house_252 : decode cX11_house 252 = .ok (.imul, 1) := by decide +kernel
theorem dX11_house_253 : decode cX11_house 253 = .ok (.iadd, 1) := by decide +kernel
theorem dX11_house_254 : decode cX11_house 254 = .ok (.iaload, 1) := by decide +kernel
theorem dX11_house_255 : decode cX11_house 255 = .ok (.iastore, 1) := by decide +kernel
theorem dX11_house_256 : decode cX11_house 256 = .ok (.aload_n 0, 1) := by decide +kernel
theorem dX11_house_257 : decode cX11_house 257 = .ok (.getfield 26, 3) := by decide +kernel
theorem dX11_house_260 : decode cX11_house 260 = .ok (.bipush 8, 2) := by decide +kernel
theorem dX11_house_262 : decode cX11_house 262 = .ok (.iload_n 2, 1) := by decide +kernel
theorem dX11_house_263 : decode cX11_house 263 = .ok (.iadd, 1) := by decide +kernel
theorem dX11_house_264 : decode cX11_house 264 = .ok (.aload_n 0, 1) := by decide +kernel
theorem dX11_house_265 : decode cX11_house 265 = .ok (.getfield 20, 3) := by decide +kernel
theorem dX11_house_268 : decode cX11_house 268 = .ok (.bipush 16, 2) := by decide +kernel
theorem dX11_house_270 : decode cX11_house 270 = .ok (.iconst 3, 1) := by decide +kernel
theorem dX11_house_271 : decode cX11_house 271 = .ok (.iload_n 2, 1) := by decide +kernel
theorem dX11_house_272 : decode cX11_house 272 = .ok (.imul, 1) := by decide +kernel
theorem dX11_house_273 : decode cX11_house 273 = .ok (.iadd, 1) := by decide +kernel
theorem dX11_house_274 : decode cX11_house 274 = .ok (.iconst 1, 1) := by decide +kernel
theorem dX11_house_275 : decode cX11_house 275 = .ok (.iadd, 1) := by decide +kernel
theorem dX11_house_276 : decode cX11_house 276 = .ok (.iaload, 1) := by decide +kernel
theorem dX11_house_277 : decode cX11_house 277 = .ok (.iastore, 1) := by decide +kernel
theorem dX11_house_278 : decode cX11_house 278 = .ok (.iinc 2 1, 3) := by decide +kernel
theorem dX11_house_281 : decode cX11_house 281 = .ok (.goto (-55), 3) := by decide +kernel
theorem dX11_house_284 : decode cX11_house 284 = .ok (.iconst 0, 1) := by decide +kernel
theorem dX11_house_285 : decode cX11_house 285 = .ok (.istore_n 2, 1) := by decide +kernel
theorem dX11_house_286 : decode cX11_house 286 = .ok (.iload_n 2, 1) := by decide +kernel
theorem dX11_house_287 : decode cX11_house 287 = .ok (.aload_n 0, 1) := by decide +kernel
theorem dX11_house_288 : decode cX11_house 288 = .ok (.getfield 20, 3) := by decide +kernel
theorem dX11_house_291 : decode cX11_house 291 = .ok (.bipush 8, 2) := by decide +kernel
theorem dX11_house_293 : decode cX11_house 293 = .ok (.iaload, 1) := by decide +kernel
theorem dX11_house_294 : decode cX11_house 294 = .ok (.if_icmp .ge 31, 3) := by decide +kernel
theorem dX11_house_297 : decode cX11_house 297 = .ok (.aload_n 0, 1) := by decide +kernel
theorem dX11_house_298 : decode cX11_house 298 = .ok (.getfield 26, 3) := by decide +kernel
theorem dX11_house_301 : decode cX11_house 301 = .ok (.bipush 16, 2) := by decide +kernel
theorem dX11_house_303 : decode cX11_house 303 = .ok (.iload_n 2, 1) := by decide +kernel
theorem dX11_house_304 : decode cX11_house 304 = .ok (.iadd, 1) := by decide +kernel
theorem dX11_house_305 : decode cX11_house 305 = .ok (.aload_n 0, 1) := by decide +kernel
theorem dX11_house_306 : decode cX11_house 306 = .ok (.getfield 20, 3) := by decide +kernel
theorem dX11_house_309 : decode cX11_house 309 = .ok (.bipush 44, 2) := by decide +kernel
theorem dX11_house_311 : decode cX11_house 311 = .ok (.iconst 3, 1) := by decide +kernel
theorem dX11_house_312 : decode cX11_house 312 = .ok (.iload_n 2, 1) := by decide +kernel
theorem dX11_house_313 : decode cX11_house 313 = .ok (.imul, 1) := by decide +kernel
theorem dX11_house_314 : decode cX11_house 314 = .ok (.iadd, 1) := by decide +kernel
theorem dX11_house_315 : decode cX11_house 315 = .ok (.iconst 1, 1) := by decide +kernel
theorem dX11_house_316 : decode cX11_house 316 = .ok (.iadd, 1) := by decide +kernel
theorem dX11_house_317 : decode cX11_house 317 = .ok (.iaload, 1) := by decide +kernel
theorem dX11_house_318 : decode cX11_house 318 = .ok (.iastore, 1) := by decide +kernel
theorem dX11_house_319 : decode cX11_house 319 = .ok (.iinc 2 1, 3) := by decide +kernel
theorem dX11_house_322 : decode cX11_house 322 = .ok (.goto (-36), 3) := by decide +kernel
theorem dX11_house_325 : decode cX11_house 325 = .ok (.iconst 0, 1) := by decide +kernel
theorem dX11_house_326 : decode cX11_house 326 = .ok (.istore_n 2, 1) := by decide +kernel
theorem dX11_house_327 : decode cX11_house 327 = .ok (.iload_n 2, 1) := by decide +kernel
theorem dX11_house_328 : decode cX11_house 328 = .ok (.aload_n 0, 1) := by decide +kernel
theorem dX11_house_329 : decode cX11_house 329 = .ok (.getfield 20, 3) := by decide +kernel
theorem dX11_house_332 : decode cX11_house 332 = .ok (.bipush 10, 2) := by decide +kernel
theorem dX11_house_334 : decode cX11_house 334 = .ok (.iaload, 1) := by decide +kernel
theorem dX11_house_335 : decode cX11_house 335 = .ok (.if_icmp .ge 31, 3) := by decide +kernel
theorem dX11_house_338 : decode cX11_house 338 = .ok (.aload_n 0, 1) := by decide +kernel
theorem dX11_house_339 : decode cX11_house 339 = .ok (.getfield 26, 3) := by decide +kernel
theorem dX11_house_342 : decode cX11_house 342 = .ok (.bipush 28, 2) := by decide +kernel
theorem dX11_house_344 : decode cX11_house 344 = .ok (.iload_n 2, 1) := by decide +kernel
theorem dX11_house_345 : decode cX11_house 345 = .ok (.iadd, 1) := by decide +kernel
theorem dX11_house_346 : decode cX11_house 346 = .ok (.aload_n 0, 1) := by decide +kernel
theorem dX11_house_347 : decode cX11_house 347 = .ok (.getfield 20, 3) := by decide +kernel
theorem dX11_house_350 : decode cX11_house 350 = .ok (.bipush 96, 2) := by decide +kernel
theorem dX11_house_352 : decode cX11_house 352 = .ok (.iconst 3, 1) := by decide +kernel
theorem dX11_house_353 : decode cX11_house 353 = .ok (.iload_n 2, 1) := by decide +kernel
theorem dX11_house_354 : decode cX11_house 354 = .ok (.imul, 1) := by decide +kernel
theorem dX11_house_355 : decode cX11_house 355 = .ok (.iadd, 1) := by decide +kernel
theorem dX11_house_356 : decode cX11_house 356 = .ok (.iconst 1, 1) := by decide +kernel
theorem dX11_house_357 : decode cX11_house 357 = .ok (.iadd, 1) := by decide +kernel
theorem dX11_house_358 : decode cX11_house 358 = .ok (.iaload, 1) := by decide +kernel
theorem dX11_house_359 : decode cX11_house 359 = .ok (.iastore, 1) := by decide +kernel
theorem dX11_house_360 : decode cX11_house 360 = .ok (.iinc 2 1, 3) := by decide +kernel
theorem dX11_house_363 : decode cX11_house 363 = .ok (.goto (-36), 3) := by decide +kernel
theorem dX11_house_366 : decode cX11_house 366 = .ok (.iconst 0, 1) := by decide +kernel
theorem dX11_house_367 : decode cX11_house 367 = .ok (.istore_n 2, 1) := by decide +kernel
theorem dX11_house_368 : decode cX11_house 368 = .ok (.iload_n 2, 1) := by decide +kernel
theorem dX11_house_369 : decode cX11_house 369 = .ok (.aload_n 0, 1) := by decide +kernel
theorem dX11_house_370 : decode cX11_house 370 = .ok (.getfield 20, 3) := by decide +kernel
theorem dX11_house_373 : decode cX11_house 373 = .ok (.bipush 12, 2) := by decide +kernel
theorem dX11_house_375 : decode cX11_house 375 = .ok (.iaload, 1) := by decide +kernel
theorem dX11_house_376 : decode cX11_house 376 = .ok (.if_icmp .ge 24, 3) := by decide +kernel
theorem dX11_house_379 : decode cX11_house 379 = .ok (.aload_n 0, 1) := by decide +kernel
theorem dX11_house_380 : decode cX11_house 380 = .ok (.getfield 26, 3) := by decide +kernel
theorem dX11_house_383 : decode cX11_house 383 = .ok (.bipush 34, 2) := by decide +kernel
theorem dX11_house_385 : decode cX11_house 385 = .ok (.iload_n 2, 1) := by decide +kernel
theorem dX11_house_386 : decode cX11_house 386 = .ok (.iadd, 1) := by decide +kernel
theorem dX11_house_387 : decode cX11_house 387 = .ok (.aload_n 0, 1) := by decide +kernel
theorem dX11_house_388 : decode cX11_house 388 = .ok (.getfield 20, 3) := by decide +kernel
theorem dX11_house_391 : decode cX11_house 391 = .ok (.iconst 2, 1) := by decide +kernel
theorem dX11_house_392 : decode cX11_house 392 = .ok (.iaload, 1) := by decide +kernel
theorem dX11_house_393 : decode cX11_house 393 = .ok (.iastore, 1) := by decide +kernel
theorem dX11_house_394 : decode cX11_house 394 = .ok (.iinc 2 1, 3) := by decide +kernel
theorem dX11_house_397 : decode cX11_house 397 = .ok (.goto (-29), 3) := by decide +kernel
theorem dX11_house_400 : decode cX11_house 400 = .ok (.aload_n 0, 1) := by decide +kernel
theorem dX11_house_401 : decode cX11_house 401 = .ok (.iconst 1, 1) := by decide +kernel
theorem dX11_house_402 : decode cX11_house 402 = .ok (.putfield 213, 3) := by decide +kernel
theorem dX11_house_405 : decode cX11_house 405 = .ok (.aload_n 0, 1) := by decide +kernel
theorem dX11_house_406 : decode cX11_house 406 = .ok (.iconst 0, 1) := by decide +kernel
theorem dX11_house_407 : decode cX11_house 407 = .ok (.putfield 216, 3) := by decide +kernel
theorem dX11_house_410 : decode cX11_house 410 = .ok (.aload_n 0, 1) := by decide +kernel
theorem dX11_house_411 : decode cX11_house 411 = .ok (.iconst 0, 1) := by decide +kernel
theorem dX11_house_412 : decode cX11_house 412 = .ok (.putfield 219, 3) := by decide +kernel
theorem dX11_house_415 : decode cX11_house 415 = .ok (.aload_n 0, 1) := by decide +kernel
theorem dX11_house_416 : decode cX11_house 416 = .ok (.getfield 20, 3) := by decide +kernel
theorem dX11_house_419 : decode cX11_house 419 = .ok (.bipush 12, 2) := by decide +kernel
theorem dX11_house_421 : decode cX11_house 421 = .ok (.iaload, 1) := by decide +kernel
theorem dX11_house_422 : decode cX11_house 422 = .ok (.ireturn, 1) := by decide +kernel
set_option maxHeartbeats 4000000 in
set_option maxRecDepth 100000 in
theorem m_house (l : Launch) (g : Gx) (h0 : Nat) (p0 : Int32) (m_thrown : Int32) (a_tape : Nat) (m_taped : Int32) (m_size : Int32) (m_at : Int32) (m_end : Int32) (m_token : Int32) (m_whole : Int32) (m_nameSize : Int32) (m_fault : Int32) (m_place : Int32) (m_trouble : Int32) (a_letters : Nat) (m_failed : Int32) (m_hasHouse : Int32) (a_r : Nat) (a_fresh : Nat) (a_st : Nat) (a_undone : Nat) (a_kept : Nat) (m_undos : Int32) (m_images : Int32) (a_from : Nat) (a_begin : Nat) (a_motor : Nat) (a_change : Nat) (a_startFrame : Nat) (a_changeFrame : Nat) (a_lostAt : Nat) (a_blackAt : Nat) (a_slips : Nat) (a_leftArc : Nat) (a_died : Nat) (a_arcs : Nat) (m_bestSum : Int32) (m_nearest : Int32) (m_nearestTown : Int32) (a_there : Nat) (a_backAt : Nat) (a_sorted : Nat) (a_parts : Nat) (m_seed1 : Int32) (m_darkNow : Int32) (d_tape : Nat → Int32) (d_letters : Nat → Int32) (d_r : Nat → Int32) (d_fresh : Nat → Int32) (d_st : Nat → Int32) (hv_m_size : IV m_size 0 900) (hv_m_end : IV m_end 0 900) (hv_m_nameSize : IV m_nameSize 0 900) (hv_m_failed : IV m_failed 0 1) (hv_m_hasHouse : IV m_hasHouse 0 1) (hv_m_undos : IV m_undos 0 12) (hv_m_images : IV m_images 0 3) (hv_m_taped : IV m_taped 0 900) (hp_d_r : RInv d_r) (hp_d_fresh : RInv d_fresh) : cI l g yX11_house cX11_house 3 (some .int) 10 218 0 0 [.ref h0, .int p0] [(h0, .inr (11, [.int m_thrown, .ref a_tape, .int m_taped, .int m_size, .int m_at, .int m_end, .int m_token, .int m_whole, .int m_nameSize, .int m_fault, .int m_place, .int m_trouble, .ref a_letters, .int m_failed, .int m_hasHouse, .ref a_r, .ref a_fresh, .ref a_st, .ref a_undone, .ref a_kept, .int m_undos, .int m_images, .ref a_from, .ref a_begin, .ref a_motor, .ref a_change, .ref a_startFrame, .ref a_changeFrame, .ref a_lostAt, .ref a_blackAt, .ref a_slips, .ref a_leftArc, .ref a_died, .ref a_arcs, .int m_bestSum, .int m_nearest, .int m_nearestTown, .ref a_there, .ref a_backAt, .ref a_sorted, .ref a_parts, .int m_seed1, .int m_darkNow])), (a_tape, .inl (g.2.2.1, 900, .inl d_tape)), (a_letters, .inl (g.2.2.1, 8, .inl d_letters)), (a_r, .inl (g.2.2.1, 311, .inl d_r)), (a_fresh, .inl (g.2.2.1, 311, .inl d_fresh)), (a_st, .inl (g.2.2.1, 44, .inl d_st))] (fun r w => ∃ (m_at2 : Int32) (m_end2 : Int32) (m_failed2 : Int32) (m_fault2 : Int32) (d_fresh2 : Nat → Int32) (m_hasHouse2 : Int32) (m_images2 : Int32) (d_letters2 : Nat → Int32) (m_nameSize2 : Int32) (m_place2 : Int32) (d_r2 : Nat → Int32) (m_size2 : Int32) (d_st2 : Nat → Int32) (m_taped2 : Int32) (m_thrown2 : Int32) (m_token2 : Int32) (m_trouble2 : Int32) (m_undos2 : Int32) (m_whole2 : Int32), IV m_end2 0 900 ∧ IV m_failed2 0 1 ∧ IV m_hasHouse2 0 1 ∧ IV m_images2 0 3 ∧ IV m_nameSize2 0 900 ∧ IV m_size2 0 900 ∧ IV m_taped2 0 900 ∧ IV m_undos2 0 12 ∧ RInv d_r2 ∧ RInv d_fresh2 ∧ ((p0.toInt < 0 ∨ m_taped.toInt < p0.toInt → m_taped2 = m_taped) ∧ (0 ≤ p0.toInt ∧ p0.toInt ≤ m_taped.toInt → m_taped2 = 0)) ∧ w = [(h0, .inr (11, [.int m_thrown2, .ref a_tape, .int m_taped2, .int m_size2, .int m_at2, .int m_end2, .int m_token2, .int m_whole2, .int m_nameSize2, .int m_fault2, .int m_place2, .int m_trouble2, .ref a_letters, .int m_failed2, .int m_hasHouse2, .ref a_r, .ref a_fresh, .ref a_st, .ref a_undone, .ref a_kept, .int m_undos2, .int m_images2, .ref a_from, .ref a_begin, .ref a_motor, .ref a_change, .ref a_startFrame, .ref a_changeFrame, .ref a_lostAt, .ref a_blackAt, .ref a_slips, .ref a_leftArc, .ref a_died, .ref a_arcs, .int m_bestSum, .int m_nearest, .int m_nearestTown, .ref a_there, .ref a_backAt, .ref a_sorted, .ref a_parts, .int m_seed1, .int m_darkNow])), (a_tape, .inl (g.2.2.1, 900, .inl d_tape)), (a_letters, .inl (g.2.2.1, 8, .inl d_letters2)), (a_r, .inl (g.2.2.1, 311, .inl d_r2)), (a_fresh, .inl (g.2.2.1, 311, .inl d_fresh2)), (a_st, .inl (g.2.2.1, 44, .inl d_st2))]) := by
  refine cI.of (by decide) (Nat.le_of_ble_eq_true rfl) ?_
  intro p e s m args below meth c A X hr hi
  refine k_lveq [(0, .ref h0), (1, .int p0)] rfl ?_
  refine k_aload_n X dX11_house_0 0 rfl ?_
  refine k_callVV (n := 0) (As := []) (st := []) X [(h0, .inr (11, [.int m_thrown, .ref a_tape, .int m_taped, .int m_size, .int m_at, .int m_end, .int m_token, .int m_whole, .int m_nameSize, .int m_fault, .int m_place, .int m_trouble, .ref a_letters, .int m_failed, .int m_hasHouse, .ref a_r, .ref a_fresh, .ref a_st, .ref a_undone, .ref a_kept, .int m_undos, .int m_images, .ref a_from, .ref a_begin, .ref a_motor, .ref a_change, .ref a_startFrame, .ref a_changeFrame, .ref a_lostAt, .ref a_blackAt, .ref a_slips, .ref a_leftArc, .ref a_died, .ref a_arcs, .int m_bestSum, .int m_nearest, .int m_nearestTown, .ref a_there, .ref a_backAt, .ref a_sorted, .ref a_parts, .int m_seed1, .int m_darkNow]))] [(a_tape, .inl (g.2.2.1, 900, .inl d_tape)), (a_letters, .inl (g.2.2.1, 8, .inl d_letters)), (a_r, .inl (g.2.2.1, 311, .inl d_r)), (a_fresh, .inl (g.2.2.1, 311, .inl d_fresh)), (a_st, .inl (g.2.2.1, 44, .inl d_st))] [0] [1, 2, 3, 4, 5] (m_good l g h0 m_thrown a_tape m_taped m_size m_at m_end m_token m_whole m_nameSize m_fault m_place m_trouble a_letters m_failed m_hasHouse a_r a_fresh a_st a_undone a_kept m_undos m_images a_from a_begin a_motor a_change a_startFrame a_changeFrame a_lostAt a_blackAt a_slips a_leftArc a_died a_arcs m_bestSum m_nearest m_nearestTown a_there a_backAt a_sorted a_parts m_seed1 m_darkNow) dX11_house_1 mw477 mw478 mw479 mw5 mw480 rfl 11 rfl rfl 0 _ rfl (by unfold yOk; decide) rfl (Nat.le_of_ble_eq_true rfl) (Nat.le_of_ble_eq_true rfl) (Nat.le_of_ble_eq_true rfl) (Nat.le_of_ble_eq_true rfl) (Nat.le_of_ble_eq_true rfl) rfl rfl (by decide) rfl (by decide) (by decide) ?_
  rintro w ⟨m_thrown2_1, m_trouble2_2, rfl⟩
  refine k_ws [(a_tape, .inl (g.2.2.1, 900, .inl d_tape)), (a_letters, .inl (g.2.2.1, 8, .inl d_letters)), (a_r, .inl (g.2.2.1, 311, .inl d_r)), (a_fresh, .inl (g.2.2.1, 311, .inl d_fresh)), (a_st, .inl (g.2.2.1, 44, .inl d_st)), (h0, .inr (11, [.int m_thrown2_1, .ref a_tape, .int m_taped, .int m_size, .int m_at, .int m_end, .int m_token, .int m_whole, .int m_nameSize, .int m_fault, .int m_place, .int m_trouble2_2, .ref a_letters, .int m_failed, .int m_hasHouse, .ref a_r, .ref a_fresh, .ref a_st, .ref a_undone, .ref a_kept, .int m_undos, .int m_images, .ref a_from, .ref a_begin, .ref a_motor, .ref a_change, .ref a_startFrame, .ref a_changeFrame, .ref a_lostAt, .ref a_blackAt, .ref a_slips, .ref a_leftArc, .ref a_died, .ref a_arcs, .int m_bestSum, .int m_nearest, .int m_nearestTown, .ref a_there, .ref a_backAt, .ref a_sorted, .ref a_parts, .int m_seed1, .int m_darkNow]))] rfl ?_
  refine k_iload_n X dX11_house_4 1 rfl ?_
  refine k_iconst (v := 0) X dX11_house_5 (by decide) ?_
  refine k_aload_n X dX11_house_6 0 rfl ?_
  refine k_get (ci := 11) X inlX11 rfl 2 (by decide) dX11_house_7 mw205 5 rfl rfl ?_
  refine k_callSI (n := 3) (As := [.int p0, .int 0, .int m_taped]) (st := []) X [] [(a_tape, .inl (g.2.2.1, 900, .inl d_tape)), (a_letters, .inl (g.2.2.1, 8, .inl d_letters)), (a_r, .inl (g.2.2.1, 311, .inl d_r)), (a_fresh, .inl (g.2.2.1, 311, .inl d_fresh)), (a_st, .inl (g.2.2.1, 44, .inl d_st)), (h0, .inr (11, [.int m_thrown2_1, .ref a_tape, .int m_taped, .int m_size, .int m_at, .int m_end, .int m_token, .int m_whole, .int m_nameSize, .int m_fault, .int m_place, .int m_trouble2_2, .ref a_letters, .int m_failed, .int m_hasHouse, .ref a_r, .ref a_fresh, .ref a_st, .ref a_undone, .ref a_kept, .int m_undos, .int m_images, .ref a_from, .ref a_begin, .ref a_motor, .ref a_change, .ref a_startFrame, .ref a_changeFrame, .ref a_lostAt, .ref a_blackAt, .ref a_slips, .ref a_leftArc, .ref a_died, .ref a_arcs, .int m_bestSum, .int m_nearest, .int m_nearestTown, .ref a_there, .ref a_backAt, .ref a_sorted, .ref a_parts, .int m_seed1, .int m_darkNow]))] [] [0, 1, 2, 3, 4, 5] (m_in l g p0 0 m_taped) dX11_house_10 mw482 mw483 mw5 mw484 (by unfold yOk; decide) rfl (Nat.le_of_ble_eq_true rfl) (Nat.le_of_ble_eq_true rfl) (Nat.le_of_ble_eq_true rfl) (Nat.le_of_ble_eq_true rfl) (Nat.le_of_ble_eq_true rfl) rfl rfl (by decide) rfl (by decide) (by decide) ?_
  rintro r_4 w ⟨iv_5, hk_6, hk_7, rfl⟩
  refine k_ws [(a_tape, .inl (g.2.2.1, 900, .inl d_tape)), (a_letters, .inl (g.2.2.1, 8, .inl d_letters)), (a_r, .inl (g.2.2.1, 311, .inl d_r)), (a_fresh, .inl (g.2.2.1, 311, .inl d_fresh)), (a_st, .inl (g.2.2.1, 44, .inl d_st)), (h0, .inr (11, [.int m_thrown2_1, .ref a_tape, .int m_taped, .int m_size, .int m_at, .int m_end, .int m_token, .int m_whole, .int m_nameSize, .int m_fault, .int m_place, .int m_trouble2_2, .ref a_letters, .int m_failed, .int m_hasHouse, .ref a_r, .ref a_fresh, .ref a_st, .ref a_undone, .ref a_kept, .int m_undos, .int m_images, .ref a_from, .ref a_begin, .ref a_motor, .ref a_change, .ref a_startFrame, .ref a_changeFrame, .ref a_lostAt, .ref a_blackAt, .ref a_slips, .ref a_leftArc, .ref a_died, .ref a_arcs, .int m_bestSum, .int m_nearest, .int m_nearestTown, .ref a_there, .ref a_backAt, .ref a_sorted, .ref a_parts, .int m_seed1, .int m_darkNow]))] rfl ?_
  refine k_if_ne 22 X dX11_house_13 (by decide) (fun h_8 => ?_) (fun h_8 => ?_)
  · skip
    have hc_9 := hk_6.resolve_left h_8
    have j_10 : 0 ≤ p0.toInt := hc_9.1
    have iv_11 : IV p0 0 2147483647 := iv_leR hc_9.1 (show IV 0 0 0 from (by decide)) (iv_any p0) (by decide)
    have j_12 : p0.toInt ≤ m_taped.toInt := hc_9.2
    have iv_13 : IV p0 0 900 := iv_leL hc_9.2 iv_11 hv_m_taped (by decide)
    have iv_14 : IV r_4 1 1 := iv_neL h_8 iv_5 (show IV 0 0 0 from (by decide)) (by decide)
    refine k_aload_n X dX11_house_22 0 rfl ?_
    refine k_iconst (v := 0) X dX11_house_23 (by decide) ?_
    refine k_put (ci := 11) [(a_tape, .inl (g.2.2.1, 900, .inl d_tape)), (a_letters, .inl (g.2.2.1, 8, .inl d_letters)), (a_r, .inl (g.2.2.1, 311, .inl d_r)), (a_fresh, .inl (g.2.2.1, 311, .inl d_fresh)), (a_st, .inl (g.2.2.1, 44, .inl d_st)), (h0, .inr (11, [.int m_thrown2_1, .ref a_tape, .int 0, .int m_size, .int m_at, .int m_end, .int m_token, .int m_whole, .int m_nameSize, .int m_fault, .int m_place, .int m_trouble2_2, .ref a_letters, .int m_failed, .int m_hasHouse, .ref a_r, .ref a_fresh, .ref a_st, .ref a_undone, .ref a_kept, .int m_undos, .int m_images, .ref a_from, .ref a_begin, .ref a_motor, .ref a_change, .ref a_startFrame, .ref a_changeFrame, .ref a_lostAt, .ref a_blackAt, .ref a_slips, .ref a_leftArc, .ref a_died, .ref a_arcs, .int m_bestSum, .int m_nearest, .int m_nearestTown, .ref a_there, .ref a_backAt, .ref a_sorted, .ref a_parts, .int m_seed1, .int m_darkNow]))] X inlX11 rfl tyX11_ok nmX11 2 (by decide) rfl dX11_house_24 mw205 5 rfl rfl rfl (Nat.le_of_ble_eq_true rfl) rfl ?_
    refine k_aload_n X dX11_house_27 0 rfl ?_
    refine k_iconst (v := 0) X dX11_house_28 (by decide) ?_
    refine k_put (ci := 11) [(a_tape, .inl (g.2.2.1, 900, .inl d_tape)), (a_letters, .inl (g.2.2.1, 8, .inl d_letters)), (a_r, .inl (g.2.2.1, 311, .inl d_r)), (a_fresh, .inl (g.2.2.1, 311, .inl d_fresh)), (a_st, .inl (g.2.2.1, 44, .inl d_st)), (h0, .inr (11, [.int m_thrown2_1, .ref a_tape, .int 0, .int m_size, .int m_at, .int m_end, .int m_token, .int m_whole, .int m_nameSize, .int 0, .int m_place, .int m_trouble2_2, .ref a_letters, .int m_failed, .int m_hasHouse, .ref a_r, .ref a_fresh, .ref a_st, .ref a_undone, .ref a_kept, .int m_undos, .int m_images, .ref a_from, .ref a_begin, .ref a_motor, .ref a_change, .ref a_startFrame, .ref a_changeFrame, .ref a_lostAt, .ref a_blackAt, .ref a_slips, .ref a_leftArc, .ref a_died, .ref a_arcs, .int m_bestSum, .int m_nearest, .int m_nearestTown, .ref a_there, .ref a_backAt, .ref a_sorted, .ref a_parts, .int m_seed1, .int m_darkNow]))] X inlX11 rfl tyX11_ok nmX11 9 (by decide) rfl dX11_house_29 mw468 5 rfl rfl rfl (Nat.le_of_ble_eq_true rfl) rfl ?_
    refine k_aload_n X dX11_house_32 0 rfl ?_
    refine k_iconst (v := 0) X dX11_house_33 (by decide) ?_
    refine k_put (ci := 11) [(a_tape, .inl (g.2.2.1, 900, .inl d_tape)), (a_letters, .inl (g.2.2.1, 8, .inl d_letters)), (a_r, .inl (g.2.2.1, 311, .inl d_r)), (a_fresh, .inl (g.2.2.1, 311, .inl d_fresh)), (a_st, .inl (g.2.2.1, 44, .inl d_st)), (h0, .inr (11, [.int m_thrown2_1, .ref a_tape, .int 0, .int m_size, .int m_at, .int m_end, .int m_token, .int m_whole, .int m_nameSize, .int 0, .int m_place, .int m_trouble2_2, .ref a_letters, .int 0, .int m_hasHouse, .ref a_r, .ref a_fresh, .ref a_st, .ref a_undone, .ref a_kept, .int m_undos, .int m_images, .ref a_from, .ref a_begin, .ref a_motor, .ref a_change, .ref a_startFrame, .ref a_changeFrame, .ref a_lostAt, .ref a_blackAt, .ref a_slips, .ref a_leftArc, .ref a_died, .ref a_arcs, .int m_bestSum, .int m_nearest, .int m_nearestTown, .ref a_there, .ref a_backAt, .ref a_sorted, .ref a_parts, .int m_seed1, .int m_darkNow]))] X inlX11 rfl tyX11_ok nmX11 13 (by decide) rfl dX11_house_34 mw469 5 rfl (by decide) (by decide) (Nat.le_of_ble_eq_true rfl) rfl ?_
    refine k_iconst (v := 0) X dX11_house_37 (by decide) ?_
    refine k_istore_n [(2, .int 0), (0, .ref h0), (1, .int p0)] X dX11_house_38 (by decide) rfl ?_
    refine (fun hL : ∀ (nn_19 : Nat) (uf_15 : Nat → Int32) (u_17 : Int32), (311 - u_17.toInt).toNat = nn_19 → (RInv uf_15) → (IV u_17 0 900) → Wk p l e _ s m args below meth c _ A g _ _ _ [(a_tape, .inl (g.2.2.1, 900, .inl d_tape)), (a_letters, .inl (g.2.2.1, 8, .inl d_letters)), (a_r, .inl (g.2.2.1, 311, .inl d_r)), (a_fresh, .inl (g.2.2.1, 311, .inl uf_15)), (a_st, .inl (g.2.2.1, 44, .inl d_st)), (h0, .inr (11, [.int m_thrown2_1, .ref a_tape, .int 0, .int m_size, .int m_at, .int m_end, .int m_token, .int m_whole, .int m_nameSize, .int 0, .int m_place, .int m_trouble2_2, .ref a_letters, .int 0, .int m_hasHouse, .ref a_r, .ref a_fresh, .ref a_st, .ref a_undone, .ref a_kept, .int m_undos, .int m_images, .ref a_from, .ref a_begin, .ref a_motor, .ref a_change, .ref a_startFrame, .ref a_changeFrame, .ref a_lostAt, .ref a_blackAt, .ref a_slips, .ref a_leftArc, .ref a_died, .ref a_arcs, .int m_bestSum, .int m_nearest, .int m_nearestTown, .ref a_there, .ref a_backAt, .ref a_sorted, .ref a_parts, .int m_seed1, .int m_darkNow]))] [(2, .int u_17), (0, .ref h0), (1, .int p0)] 39 [] => hL _ d_fresh 0 rfl hp_d_fresh (iv_w (show IV 0 0 0 from (by decide)) (by decide) (by decide))) ?_
    refine fun nn_19 => Nat.strongRecOn nn_19 (fun nn_19 ih_21 => ?_)
    intro uf_15 u_17 hm_20 hp_16 hv_18
    refine k_iload_n X dX11_house_39 0 rfl ?_
    refine k_sipush (v := 311) X dX11_house_40 (by decide) ?_
    refine k_ic_ge 59 X dX11_house_43 (by decide) (fun h_22 => ?_) (fun h_22 => ?_)
    · skip
      have j_23 : 311 ≤ u_17.toInt := iv_le h_22
      have iv_24 : IV u_17 311 900 := iv_leR (iv_le h_22) (show IV 311 311 311 from (by decide)) hv_18 (by decide)
      refine k_aload_n X dX11_house_59 1 rfl ?_
      refine k_iload_n X dX11_house_60 2 rfl ?_
      refine k_put (ci := 11) [(a_tape, .inl (g.2.2.1, 900, .inl d_tape)), (a_letters, .inl (g.2.2.1, 8, .inl d_letters)), (a_r, .inl (g.2.2.1, 311, .inl d_r)), (a_fresh, .inl (g.2.2.1, 311, .inl uf_15)), (a_st, .inl (g.2.2.1, 44, .inl d_st)), (h0, .inr (11, [.int m_thrown2_1, .ref a_tape, .int 0, .int p0, .int m_at, .int m_end, .int m_token, .int m_whole, .int m_nameSize, .int 0, .int m_place, .int m_trouble2_2, .ref a_letters, .int 0, .int m_hasHouse, .ref a_r, .ref a_fresh, .ref a_st, .ref a_undone, .ref a_kept, .int m_undos, .int m_images, .ref a_from, .ref a_begin, .ref a_motor, .ref a_change, .ref a_startFrame, .ref a_changeFrame, .ref a_lostAt, .ref a_blackAt, .ref a_slips, .ref a_leftArc, .ref a_died, .ref a_arcs, .int m_bestSum, .int m_nearest, .int m_nearestTown, .ref a_there, .ref a_backAt, .ref a_sorted, .ref a_parts, .int m_seed1, .int m_darkNow]))] X inlX11 rfl tyX11_ok nmX11 3 (by decide) rfl dX11_house_61 mw470 5 rfl rfl rfl (Nat.le_of_ble_eq_true rfl) rfl ?_
      refine k_aload_n X dX11_house_64 1 rfl ?_
      refine k_iconst (v := 0) X dX11_house_65 (by decide) ?_
      refine k_put (ci := 11) [(a_tape, .inl (g.2.2.1, 900, .inl d_tape)), (a_letters, .inl (g.2.2.1, 8, .inl d_letters)), (a_r, .inl (g.2.2.1, 311, .inl d_r)), (a_fresh, .inl (g.2.2.1, 311, .inl uf_15)), (a_st, .inl (g.2.2.1, 44, .inl d_st)), (h0, .inr (11, [.int m_thrown2_1, .ref a_tape, .int 0, .int p0, .int m_at, .int 0, .int m_token, .int m_whole, .int m_nameSize, .int 0, .int m_place, .int m_trouble2_2, .ref a_letters, .int 0, .int m_hasHouse, .ref a_r, .ref a_fresh, .ref a_st, .ref a_undone, .ref a_kept, .int m_undos, .int m_images, .ref a_from, .ref a_begin, .ref a_motor, .ref a_change, .ref a_startFrame, .ref a_changeFrame, .ref a_lostAt, .ref a_blackAt, .ref a_slips, .ref a_leftArc, .ref a_died, .ref a_arcs, .int m_bestSum, .int m_nearest, .int m_nearestTown, .ref a_there, .ref a_backAt, .ref a_sorted, .ref a_parts, .int m_seed1, .int m_darkNow]))] X inlX11 rfl tyX11_ok nmX11 5 (by decide) rfl dX11_house_66 mw471 5 rfl rfl rfl (Nat.le_of_ble_eq_true rfl) rfl ?_
      refine k_aload_n X dX11_house_69 1 rfl ?_
      refine k_callVV (n := 0) (As := []) (st := []) X [(h0, .inr (11, [.int m_thrown2_1, .ref a_tape, .int 0, .int p0, .int m_at, .int 0, .int m_token, .int m_whole, .int m_nameSize, .int 0, .int m_place, .int m_trouble2_2, .ref a_letters, .int 0, .int m_hasHouse, .ref a_r, .ref a_fresh, .ref a_st, .ref a_undone, .ref a_kept, .int m_undos, .int m_images, .ref a_from, .ref a_begin, .ref a_motor, .ref a_change, .ref a_startFrame, .ref a_changeFrame, .ref a_lostAt, .ref a_blackAt, .ref a_slips, .ref a_leftArc, .ref a_died, .ref a_arcs, .int m_bestSum, .int m_nearest, .int m_nearestTown, .ref a_there, .ref a_backAt, .ref a_sorted, .ref a_parts, .int m_seed1, .int m_darkNow])), (a_tape, .inl (g.2.2.1, 900, .inl d_tape)), (a_letters, .inl (g.2.2.1, 8, .inl d_letters))] [(a_r, .inl (g.2.2.1, 311, .inl d_r)), (a_fresh, .inl (g.2.2.1, 311, .inl uf_15)), (a_st, .inl (g.2.2.1, 44, .inl d_st))] [5, 0, 1] [2, 3, 4] (m_next l g h0 m_thrown2_1 a_tape 0 p0 m_at 0 m_token m_whole m_nameSize 0 m_place m_trouble2_2 a_letters 0 m_hasHouse a_r a_fresh a_st a_undone a_kept m_undos m_images a_from a_begin a_motor a_change a_startFrame a_changeFrame a_lostAt a_blackAt a_slips a_leftArc a_died a_arcs m_bestSum m_nearest m_nearestTown a_there a_backAt a_sorted a_parts m_seed1 m_darkNow d_tape d_letters (iv_w iv_13 (by decide) (by decide)) (iv_w (show IV 0 0 0 from (by decide)) (by decide) (by decide)) (iv_w hv_m_nameSize (by decide) (by decide))) dX11_house_70 mw489 mw490 mw491 mw5 mw492 rfl 11 rfl rfl 0 _ rfl (by unfold yOk; decide) rfl (Nat.le_of_ble_eq_true rfl) (Nat.le_of_ble_eq_true rfl) (Nat.le_of_ble_eq_true rfl) (Nat.le_of_ble_eq_true rfl) (Nat.le_of_ble_eq_true rfl) rfl rfl (by decide) rfl (by decide) (by decide) ?_
      rintro w ⟨m_at2_25, m_end2_26, d_letters2_27, m_nameSize2_28, m_token2_29, m_whole2_30, iv_32, iv_33, hq_34, hq_35, hk_36, rfl⟩
      refine k_ws [(a_r, .inl (g.2.2.1, 311, .inl d_r)), (a_fresh, .inl (g.2.2.1, 311, .inl uf_15)), (a_st, .inl (g.2.2.1, 44, .inl d_st)), (h0, .inr (11, [.int m_thrown2_1, .ref a_tape, .int 0, .int p0, .int m_at2_25, .int m_end2_26, .int m_token2_29, .int m_whole2_30, .int m_nameSize2_28, .int 0, .int m_place, .int m_trouble2_2, .ref a_letters, .int 0, .int m_hasHouse, .ref a_r, .ref a_fresh, .ref a_st, .ref a_undone, .ref a_kept, .int m_undos, .int m_images, .ref a_from, .ref a_begin, .ref a_motor, .ref a_change, .ref a_startFrame, .ref a_changeFrame, .ref a_lostAt, .ref a_blackAt, .ref a_slips, .ref a_leftArc, .ref a_died, .ref a_arcs, .int m_bestSum, .int m_nearest, .int m_nearestTown, .ref a_there, .ref a_backAt, .ref a_sorted, .ref a_parts, .int m_seed1, .int m_darkNow])), (a_tape, .inl (g.2.2.1, 900, .inl d_tape)), (a_letters, .inl (g.2.2.1, 8, .inl d_letters2_27))] rfl ?_
      refine k_aload_n X dX11_house_73 1 rfl ?_
      refine k_callVV (n := 0) (As := []) (st := []) X [(h0, .inr (11, [.int m_thrown2_1, .ref a_tape, .int 0, .int p0, .int m_at2_25, .int m_end2_26, .int m_token2_29, .int m_whole2_30, .int m_nameSize2_28, .int 0, .int m_place, .int m_trouble2_2, .ref a_letters, .int 0, .int m_hasHouse, .ref a_r, .ref a_fresh, .ref a_st, .ref a_undone, .ref a_kept, .int m_undos, .int m_images, .ref a_from, .ref a_begin, .ref a_motor, .ref a_change, .ref a_startFrame, .ref a_changeFrame, .ref a_lostAt, .ref a_blackAt, .ref a_slips, .ref a_leftArc, .ref a_died, .ref a_arcs, .int m_bestSum, .int m_nearest, .int m_nearestTown, .ref a_there, .ref a_backAt, .ref a_sorted, .ref a_parts, .int m_seed1, .int m_darkNow])), (a_tape, .inl (g.2.2.1, 900, .inl d_tape)), (a_letters, .inl (g.2.2.1, 8, .inl d_letters2_27)), (a_fresh, .inl (g.2.2.1, 311, .inl uf_15))] [(a_r, .inl (g.2.2.1, 311, .inl d_r)), (a_st, .inl (g.2.2.1, 44, .inl d_st))] [3, 4, 5, 1] [0, 2] (m_readLine l g h0 m_thrown2_1 a_tape 0 p0 m_at2_25 m_end2_26 m_token2_29 m_whole2_30 m_nameSize2_28 0 m_place m_trouble2_2 a_letters 0 m_hasHouse a_r a_fresh a_st a_undone a_kept m_undos m_images a_from a_begin a_motor a_change a_startFrame a_changeFrame a_lostAt a_blackAt a_slips a_leftArc a_died a_arcs m_bestSum m_nearest m_nearestTown a_there a_backAt a_sorted a_parts m_seed1 m_darkNow d_tape d_letters2_27 uf_15 (iv_w iv_13 (by decide) (by decide)) (iv_w iv_32 (by decide) (by decide)) (iv_w iv_33 (by decide) (by decide)) (iv_w (show IV 0 0 0 from (by decide)) (by decide) (by decide)) hp_16 hk_36) dX11_house_74 mw505 mw506 mw507 mw5 mw508 rfl 11 rfl rfl 0 _ rfl (by unfold yOk; decide) rfl (Nat.le_of_ble_eq_true rfl) (Nat.le_of_ble_eq_true rfl) (Nat.le_of_ble_eq_true rfl) (Nat.le_of_ble_eq_true rfl) (Nat.le_of_ble_eq_true rfl) rfl rfl (by decide) rfl (by decide) (by decide) ?_
      rintro w ⟨m_at2_37, m_end2_38, m_failed2_39, m_fault2_40, d_fresh2_41, d_letters2_42, m_nameSize2_43, m_place2_44, m_token2_45, m_whole2_46, iv_48, iv_49, iv_50, hp_51, hq_52, hq_53, hk_54, rfl⟩
      refine k_ws [(a_r, .inl (g.2.2.1, 311, .inl d_r)), (a_st, .inl (g.2.2.1, 44, .inl d_st)), (h0, .inr (11, [.int m_thrown2_1, .ref a_tape, .int 0, .int p0, .int m_at2_37, .int m_end2_38, .int m_token2_45, .int m_whole2_46, .int m_nameSize2_43, .int m_fault2_40, .int m_place2_44, .int m_trouble2_2, .ref a_letters, .int m_failed2_39, .int m_hasHouse, .ref a_r, .ref a_fresh, .ref a_st, .ref a_undone, .ref a_kept, .int m_undos, .int m_images, .ref a_from, .ref a_begin, .ref a_motor, .ref a_change, .ref a_startFrame, .ref a_changeFrame, .ref a_lostAt, .ref a_blackAt, .ref a_slips, .ref a_leftArc, .ref a_died, .ref a_arcs, .int m_bestSum, .int m_nearest, .int m_nearestTown, .ref a_there, .ref a_backAt, .ref a_sorted, .ref a_parts, .int m_seed1, .int m_darkNow])), (a_tape, .inl (g.2.2.1, 900, .inl d_tape)), (a_letters, .inl (g.2.2.1, 8, .inl d_letters2_42)), (a_fresh, .inl (g.2.2.1, 311, .inl d_fresh2_41))] rfl ?_
      refine (fun hL : ∀ (nn_70 : Nat) (uf_55 : Nat → Int32) (uf_57 : Nat → Int32) (u_58 : Int32) (u_59 : Int32) (u_61 : Int32) (u_62 : Int32) (u_64 : Int32) (u_65 : Int32) (u_66 : Int32) (u_68 : Int32), (2 * (901 - u_62.toInt) + (1 - u_59.toInt)).toNat = nn_70 → (RInv uf_55) → (IV u_59 0 1) → (IV u_62 0 900) → (IV u_66 0 900) → (u_64 = 2 → IV u_66 0 8) → Wk p l e _ s m args below meth c _ A g _ _ _ [(a_r, .inl (g.2.2.1, 311, .inl d_r)), (a_st, .inl (g.2.2.1, 44, .inl d_st)), (h0, .inr (11, [.int m_thrown2_1, .ref a_tape, .int 0, .int p0, .int u_61, .int u_62, .int u_64, .int u_65, .int u_66, .int u_68, .int u_58, .int m_trouble2_2, .ref a_letters, .int u_59, .int m_hasHouse, .ref a_r, .ref a_fresh, .ref a_st, .ref a_undone, .ref a_kept, .int m_undos, .int m_images, .ref a_from, .ref a_begin, .ref a_motor, .ref a_change, .ref a_startFrame, .ref a_changeFrame, .ref a_lostAt, .ref a_blackAt, .ref a_slips, .ref a_leftArc, .ref a_died, .ref a_arcs, .int m_bestSum, .int m_nearest, .int m_nearestTown, .ref a_there, .ref a_backAt, .ref a_sorted, .ref a_parts, .int m_seed1, .int m_darkNow])), (a_tape, .inl (g.2.2.1, 900, .inl d_tape)), (a_letters, .inl (g.2.2.1, 8, .inl uf_57)), (a_fresh, .inl (g.2.2.1, 311, .inl uf_55))] [(2, .int u_17), (0, .ref h0), (1, .int p0)] 77 [] => hL _ d_fresh2_41 d_letters2_42 m_place2_44 m_failed2_39 m_at2_37 m_end2_38 m_token2_45 m_whole2_46 m_nameSize2_43 m_fault2_40 rfl hp_51 (iv_w iv_49 (by decide) (by decide)) (iv_w iv_48 (by decide) (by decide)) (iv_w iv_50 (by decide) (by decide)) hk_54) ?_
      refine fun nn_70 => Nat.strongRecOn nn_70 (fun nn_70 ih_72 => ?_)
      intro uf_55 uf_57 u_58 u_59 u_61 u_62 u_64 u_65 u_66 u_68 hm_71 hp_56 hv_60 hv_63 hv_67 hx_69
      refine k_aload_n X dX11_house_77 1 rfl ?_
      refine k_get (ci := 11) X inlX11 rfl 13 (by decide) dX11_house_78 mw469 2 rfl rfl ?_
      refine k_if_ne 104 X dX11_house_81 (by decide) (fun h_73 => ?_) (fun h_73 => ?_)
      · skip
        have iv_74 : IV u_59 1 1 := iv_neL h_73 hv_60 (show IV 0 0 0 from (by decide)) (by decide)
        refine k_aload_n X dX11_house_104 1 rfl ?_
        refine k_get (ci := 11) X inlX11 rfl 13 (by decide) dX11_house_105 mw469 2 rfl rfl ?_
        refine k_if_ne 127 X dX11_house_108 (by decide) (fun h_75 => ?_) (fun h_75 => (iv_eqN h_75 iv_74 (show IV 0 0 0 from (by decide)) (by decide)).elim)
        refine k_aload_n X dX11_house_127 1 rfl ?_
        refine k_get (ci := 11) X inlX11 rfl 13 (by decide) dX11_house_128 mw469 2 rfl rfl ?_
        refine k_if_ne 174 X dX11_house_131 (by decide) (fun h_76 => ?_) (fun h_76 => (iv_eqN h_76 iv_74 (show IV 0 0 0 from (by decide)) (by decide)).elim)
        refine k_aload_n X dX11_house_174 1 rfl ?_
        refine k_get (ci := 11) X inlX11 rfl 13 (by decide) dX11_house_175 mw469 2 rfl rfl ?_
        refine k_if_eq 187 X dX11_house_178 (by decide) (fun h_77 => (iv_eqN h_77 iv_74 (show IV 0 0 0 from (by decide)) (by decide)).elim) (fun h_77 => ?_)
        refine k_aload_n X dX11_house_181 1 rfl ?_
        refine k_iconst (v := 4) X dX11_house_182 (by decide) ?_
        refine k_callVI (n := 1) (As := [.int 4]) (st := []) X [(h0, .inr (11, [.int m_thrown2_1, .ref a_tape, .int 0, .int p0, .int u_61, .int u_62, .int u_64, .int u_65, .int u_66, .int u_68, .int u_58, .int m_trouble2_2, .ref a_letters, .int u_59, .int m_hasHouse, .ref a_r, .ref a_fresh, .ref a_st, .ref a_undone, .ref a_kept, .int m_undos, .int m_images, .ref a_from, .ref a_begin, .ref a_motor, .ref a_change, .ref a_startFrame, .ref a_changeFrame, .ref a_lostAt, .ref a_blackAt, .ref a_slips, .ref a_leftArc, .ref a_died, .ref a_arcs, .int m_bestSum, .int m_nearest, .int m_nearestTown, .ref a_there, .ref a_backAt, .ref a_sorted, .ref a_parts, .int m_seed1, .int m_darkNow]))] [(a_r, .inl (g.2.2.1, 311, .inl d_r)), (a_st, .inl (g.2.2.1, 44, .inl d_st)), (a_tape, .inl (g.2.2.1, 900, .inl d_tape)), (a_letters, .inl (g.2.2.1, 8, .inl uf_57)), (a_fresh, .inl (g.2.2.1, 311, .inl uf_55))] [2] [0, 1, 3, 4, 5] (m_no l g h0 4 m_thrown2_1 a_tape 0 p0 u_61 u_62 u_64 u_65 u_66 u_68 u_58 m_trouble2_2 a_letters u_59 m_hasHouse a_r a_fresh a_st a_undone a_kept m_undos m_images a_from a_begin a_motor a_change a_startFrame a_changeFrame a_lostAt a_blackAt a_slips a_leftArc a_died a_arcs m_bestSum m_nearest m_nearestTown a_there a_backAt a_sorted a_parts m_seed1 m_darkNow) dX11_house_183 mw485 mw486 mw487 mw5 mw488 rfl 11 rfl rfl 0 _ rfl (by unfold yOk; decide) rfl (Nat.le_of_ble_eq_true rfl) (Nat.le_of_ble_eq_true rfl) (Nat.le_of_ble_eq_true rfl) (Nat.le_of_ble_eq_true rfl) (Nat.le_of_ble_eq_true rfl) rfl rfl (by decide) rfl (by decide) (by decide) ?_
        rintro r_79 w ⟨m_trouble2_78, iv_80, rfl⟩
        refine k_ws [(a_r, .inl (g.2.2.1, 311, .inl d_r)), (a_st, .inl (g.2.2.1, 44, .inl d_st)), (a_tape, .inl (g.2.2.1, 900, .inl d_tape)), (a_letters, .inl (g.2.2.1, 8, .inl uf_57)), (a_fresh, .inl (g.2.2.1, 311, .inl uf_55)), (h0, .inr (11, [.int m_thrown2_1, .ref a_tape, .int 0, .int p0, .int u_61, .int u_62, .int u_64, .int u_65, .int u_66, .int u_68, .int u_58, .int m_trouble2_78, .ref a_letters, .int u_59, .int m_hasHouse, .ref a_r, .ref a_fresh, .ref a_st, .ref a_undone, .ref a_kept, .int m_undos, .int m_images, .ref a_from, .ref a_begin, .ref a_motor, .ref a_change, .ref a_startFrame, .ref a_changeFrame, .ref a_lostAt, .ref a_blackAt, .ref a_slips, .ref a_leftArc, .ref a_died, .ref a_arcs, .int m_bestSum, .int m_nearest, .int m_nearestTown, .ref a_there, .ref a_backAt, .ref a_sorted, .ref a_parts, .int m_seed1, .int m_darkNow]))] rfl ?_
        exact k_iret X hr dX11_house_186 (Nat.le_of_ble_eq_true rfl) (Nat.le_of_ble_eq_true rfl) [5, 2, 3, 0, 4, 1] (by decide) rfl rfl ⟨u_61, u_62, u_59, u_68, uf_55, m_hasHouse, m_images, uf_57, u_66, u_58, d_r, p0, d_st, 0, m_thrown2_1, u_64, m_trouble2_78, m_undos, u_65, (iv_w hv_63 (by decide) (by decide)), (iv_w iv_74 (by decide) (by decide)), (iv_w hv_m_hasHouse (by decide) (by decide)), (iv_w hv_m_images (by decide) (by decide)), (iv_w hv_67 (by decide) (by decide)), (iv_w iv_13 (by decide) (by decide)), (iv_w (show IV 0 0 0 from (by decide)) (by decide) (by decide)), (iv_w hv_m_undos (by decide) (by decide)), hp_d_r, hp_56, (by refine ⟨fun q => ?_, fun q => ?_⟩ <;> first | rfl | (exfalso; omega)), rfl⟩
      · skip
        have iv_81 : IV u_59 0 0 := iv_meet hv_60 (iv_e h_73 (show IV 0 0 0 from (by decide))) (by decide) (by decide)
        refine k_aload_n X dX11_house_84 1 rfl ?_
        refine k_get (ci := 11) X inlX11 rfl 6 (by decide) dX11_house_85 mw472 2 rfl rfl ?_
        refine k_bipush (v := 59) X dX11_house_88 (by decide) ?_
        refine k_ic_ne 104 X dX11_house_90 (by decide) (fun h_82 => ?_) (fun h_82 => ?_)
        · skip
          refine k_aload_n X dX11_house_104 1 rfl ?_
          refine k_get (ci := 11) X inlX11 rfl 13 (by decide) dX11_house_105 mw469 2 rfl rfl ?_
          refine k_if_ne 127 X dX11_house_108 (by decide) (fun h_83 => absurd (iv_eq iv_81 (show IV 0 0 0 from (by decide))) h_83) (fun h_83 => ?_)
          refine k_aload_n X dX11_house_111 1 rfl ?_
          refine k_get (ci := 11) X inlX11 rfl 6 (by decide) dX11_house_112 mw472 2 rfl rfl ?_
          refine k_if_eq 127 X dX11_house_115 (by decide) (fun h_84 => ?_) (fun h_84 => ?_)
          · skip
            have iv_85 : IV u_64 0 0 := iv_meet (iv_any u_64) (iv_e h_84 (show IV 0 0 0 from (by decide))) (by decide) (by decide)
            refine k_aload_n X dX11_house_127 1 rfl ?_
            refine k_get (ci := 11) X inlX11 rfl 13 (by decide) dX11_house_128 mw469 2 rfl rfl ?_
            refine k_if_ne 174 X dX11_house_131 (by decide) (fun h_86 => absurd (iv_eq iv_81 (show IV 0 0 0 from (by decide))) h_86) (fun h_86 => ?_)
            refine k_aload_n X dX11_house_134 1 rfl ?_
            refine k_get (ci := 11) X inlX11 rfl 16 (by decide) dX11_house_135 mw171 2 rfl rfl ?_
            refine k_bipush (v := 15) X dX11_house_138 (by decide) ?_
            refine k_iald X dX11_house_140 5 rfl (by unfold vp_in; decide) ?_
            refine k_nm (fun z_87 ez_87 => ?_)
            refine k_if_eq 164 X dX11_house_141 (by decide) (fun h_88 => ?_) (fun h_88 => ?_)
            · skip
              have iv_89 : IV z_87 0 0 := iv_meet (iv_any z_87) (iv_e h_88 (show IV 0 0 0 from (by decide))) (by decide) (by decide)
              refine k_aload_n X dX11_house_164 1 rfl ?_
              refine k_bipush (v := 6) X dX11_house_165 (by decide) ?_
              refine k_aload_n X dX11_house_167 1 rfl ?_
              refine k_get (ci := 11) X inlX11 rfl 4 (by decide) dX11_house_168 mw473 2 rfl rfl ?_
              refine k_callVV (n := 2) (As := [.int 6, .int u_61]) (st := []) X [(h0, .inr (11, [.int m_thrown2_1, .ref a_tape, .int 0, .int p0, .int u_61, .int u_62, .int u_64, .int u_65, .int u_66, .int u_68, .int u_58, .int m_trouble2_2, .ref a_letters, .int u_59, .int m_hasHouse, .ref a_r, .ref a_fresh, .ref a_st, .ref a_undone, .ref a_kept, .int m_undos, .int m_images, .ref a_from, .ref a_begin, .ref a_motor, .ref a_change, .ref a_startFrame, .ref a_changeFrame, .ref a_lostAt, .ref a_blackAt, .ref a_slips, .ref a_leftArc, .ref a_died, .ref a_arcs, .int m_bestSum, .int m_nearest, .int m_nearestTown, .ref a_there, .ref a_backAt, .ref a_sorted, .ref a_parts, .int m_seed1, .int m_darkNow]))] [(a_r, .inl (g.2.2.1, 311, .inl d_r)), (a_st, .inl (g.2.2.1, 44, .inl d_st)), (a_tape, .inl (g.2.2.1, 900, .inl d_tape)), (a_letters, .inl (g.2.2.1, 8, .inl uf_57)), (a_fresh, .inl (g.2.2.1, 311, .inl uf_55))] [2] [0, 1, 3, 4, 5] (m_bad l g h0 6 u_61 m_thrown2_1 a_tape 0 p0 u_61 u_62 u_64 u_65 u_66 u_68 u_58 m_trouble2_2 a_letters u_59 m_hasHouse a_r a_fresh a_st a_undone a_kept m_undos m_images a_from a_begin a_motor a_change a_startFrame a_changeFrame a_lostAt a_blackAt a_slips a_leftArc a_died a_arcs m_bestSum m_nearest m_nearestTown a_there a_backAt a_sorted a_parts m_seed1 m_darkNow (iv_w iv_81 (by decide) (by decide))) dX11_house_171 mw519 mw520 mw521 mw5 mw522 rfl 11 rfl rfl 0 _ rfl (by unfold yOk; decide) rfl (Nat.le_of_ble_eq_true rfl) (Nat.le_of_ble_eq_true rfl) (Nat.le_of_ble_eq_true rfl) (Nat.le_of_ble_eq_true rfl) (Nat.le_of_ble_eq_true rfl) rfl rfl (by decide) rfl (by decide) (by decide) ?_
              rintro w ⟨m_failed2_90, m_fault2_91, m_place2_92, iv_94, rfl⟩
              refine k_ws [(a_r, .inl (g.2.2.1, 311, .inl d_r)), (a_st, .inl (g.2.2.1, 44, .inl d_st)), (a_tape, .inl (g.2.2.1, 900, .inl d_tape)), (a_letters, .inl (g.2.2.1, 8, .inl uf_57)), (a_fresh, .inl (g.2.2.1, 311, .inl uf_55)), (h0, .inr (11, [.int m_thrown2_1, .ref a_tape, .int 0, .int p0, .int u_61, .int u_62, .int u_64, .int u_65, .int u_66, .int m_fault2_91, .int m_place2_92, .int m_trouble2_2, .ref a_letters, .int m_failed2_90, .int m_hasHouse, .ref a_r, .ref a_fresh, .ref a_st, .ref a_undone, .ref a_kept, .int m_undos, .int m_images, .ref a_from, .ref a_begin, .ref a_motor, .ref a_change, .ref a_startFrame, .ref a_changeFrame, .ref a_lostAt, .ref a_blackAt, .ref a_slips, .ref a_leftArc, .ref a_died, .ref a_arcs, .int m_bestSum, .int m_nearest, .int m_nearestTown, .ref a_there, .ref a_backAt, .ref a_sorted, .ref a_parts, .int m_seed1, .int m_darkNow]))] rfl ?_
              refine k_aload_n X dX11_house_174 1 rfl ?_
              refine k_get (ci := 11) X inlX11 rfl 13 (by decide) dX11_house_175 mw469 5 rfl rfl ?_
              refine k_if_eq 187 X dX11_house_178 (by decide) (fun h_95 => (iv_eqN h_95 iv_94 (show IV 0 0 0 from (by decide)) (by decide)).elim) (fun h_95 => ?_)
              refine k_aload_n X dX11_house_181 1 rfl ?_
              refine k_iconst (v := 4) X dX11_house_182 (by decide) ?_
              refine k_callVI (n := 1) (As := [.int 4]) (st := []) X [(h0, .inr (11, [.int m_thrown2_1, .ref a_tape, .int 0, .int p0, .int u_61, .int u_62, .int u_64, .int u_65, .int u_66, .int m_fault2_91, .int m_place2_92, .int m_trouble2_2, .ref a_letters, .int m_failed2_90, .int m_hasHouse, .ref a_r, .ref a_fresh, .ref a_st, .ref a_undone, .ref a_kept, .int m_undos, .int m_images, .ref a_from, .ref a_begin, .ref a_motor, .ref a_change, .ref a_startFrame, .ref a_changeFrame, .ref a_lostAt, .ref a_blackAt, .ref a_slips, .ref a_leftArc, .ref a_died, .ref a_arcs, .int m_bestSum, .int m_nearest, .int m_nearestTown, .ref a_there, .ref a_backAt, .ref a_sorted, .ref a_parts, .int m_seed1, .int m_darkNow]))] [(a_r, .inl (g.2.2.1, 311, .inl d_r)), (a_st, .inl (g.2.2.1, 44, .inl d_st)), (a_tape, .inl (g.2.2.1, 900, .inl d_tape)), (a_letters, .inl (g.2.2.1, 8, .inl uf_57)), (a_fresh, .inl (g.2.2.1, 311, .inl uf_55))] [5] [0, 1, 2, 3, 4] (m_no l g h0 4 m_thrown2_1 a_tape 0 p0 u_61 u_62 u_64 u_65 u_66 m_fault2_91 m_place2_92 m_trouble2_2 a_letters m_failed2_90 m_hasHouse a_r a_fresh a_st a_undone a_kept m_undos m_images a_from a_begin a_motor a_change a_startFrame a_changeFrame a_lostAt a_blackAt a_slips a_leftArc a_died a_arcs m_bestSum m_nearest m_nearestTown a_there a_backAt a_sorted a_parts m_seed1 m_darkNow) dX11_house_183 mw485 mw486 mw487 mw5 mw488 rfl 11 rfl rfl 0 _ rfl (by unfold yOk; decide) rfl (Nat.le_of_ble_eq_true rfl) (Nat.le_of_ble_eq_true rfl) (Nat.le_of_ble_eq_true rfl) (Nat.le_of_ble_eq_true rfl) (Nat.le_of_ble_eq_true rfl) rfl rfl (by decide) rfl (by decide) (by decide) ?_
              rintro r_97 w ⟨m_trouble2_96, iv_98, rfl⟩
              refine k_ws [(a_r, .inl (g.2.2.1, 311, .inl d_r)), (a_st, .inl (g.2.2.1, 44, .inl d_st)), (a_tape, .inl (g.2.2.1, 900, .inl d_tape)), (a_letters, .inl (g.2.2.1, 8, .inl uf_57)), (a_fresh, .inl (g.2.2.1, 311, .inl uf_55)), (h0, .inr (11, [.int m_thrown2_1, .ref a_tape, .int 0, .int p0, .int u_61, .int u_62, .int u_64, .int u_65, .int u_66, .int m_fault2_91, .int m_place2_92, .int m_trouble2_96, .ref a_letters, .int m_failed2_90, .int m_hasHouse, .ref a_r, .ref a_fresh, .ref a_st, .ref a_undone, .ref a_kept, .int m_undos, .int m_images, .ref a_from, .ref a_begin, .ref a_motor, .ref a_change, .ref a_startFrame, .ref a_changeFrame, .ref a_lostAt, .ref a_blackAt, .ref a_slips, .ref a_leftArc, .ref a_died, .ref a_arcs, .int m_bestSum, .int m_nearest, .int m_nearestTown, .ref a_there, .ref a_backAt, .ref a_sorted, .ref a_parts, .int m_seed1, .int m_darkNow]))] rfl ?_
              exact k_iret X hr dX11_house_186 (Nat.le_of_ble_eq_true rfl) (Nat.le_of_ble_eq_true rfl) [5, 2, 3, 0, 4, 1] (by decide) rfl rfl ⟨u_61, u_62, m_failed2_90, m_fault2_91, uf_55, m_hasHouse, m_images, uf_57, u_66, m_place2_92, d_r, p0, d_st, 0, m_thrown2_1, u_64, m_trouble2_96, m_undos, u_65, (iv_w hv_63 (by decide) (by decide)), (iv_w iv_94 (by decide) (by decide)), (iv_w hv_m_hasHouse (by decide) (by decide)), (iv_w hv_m_images (by decide) (by decide)), (iv_w hv_67 (by decide) (by decide)), (iv_w iv_13 (by decide) (by decide)), (iv_w (show IV 0 0 0 from (by decide)) (by decide) (by decide)), (iv_w hv_m_undos (by decide) (by decide)), hp_d_r, hp_56, (by refine ⟨fun q => ?_, fun q => ?_⟩ <;> first | rfl | (exfalso; omega)), rfl⟩
            · skip
              refine k_aload_n X dX11_house_144 1 rfl ?_
              refine k_get (ci := 11) X inlX11 rfl 16 (by decide) dX11_house_145 mw171 2 rfl rfl ?_
              refine k_bipush (v := 12) X dX11_house_148 (by decide) ?_
              refine k_iald X dX11_house_150 5 rfl (by unfold vp_in; decide) ?_
              refine k_nm (fun z_99 ez_99 => ?_)
              have i_100 : z_99.toInt = (uf_55 12).toInt := by rw [ez_99]; rfl
              have iv_101 : IV z_99 0 8 := rb_12 ez_99 hp_56
              refine k_if_eq 164 X dX11_house_151 (by decide) (fun h_102 => ?_) (fun h_102 => ?_)
              · skip
                have iv_103 : IV z_99 0 0 := iv_meet iv_101 (iv_e h_102 (show IV 0 0 0 from (by decide))) (by decide) (by decide)
                refine k_aload_n X dX11_house_164 1 rfl ?_
                refine k_bipush (v := 6) X dX11_house_165 (by decide) ?_
                refine k_aload_n X dX11_house_167 1 rfl ?_
                refine k_get (ci := 11) X inlX11 rfl 4 (by decide) dX11_house_168 mw473 2 rfl rfl ?_
                refine k_callVV (n := 2) (As := [.int 6, .int u_61]) (st := []) X [(h0, .inr (11, [.int m_thrown2_1, .ref a_tape, .int 0, .int p0, .int u_61, .int u_62, .int u_64, .int u_65, .int u_66, .int u_68, .int u_58, .int m_trouble2_2, .ref a_letters, .int u_59, .int m_hasHouse, .ref a_r, .ref a_fresh, .ref a_st, .ref a_undone, .ref a_kept, .int m_undos, .int m_images, .ref a_from, .ref a_begin, .ref a_motor, .ref a_change, .ref a_startFrame, .ref a_changeFrame, .ref a_lostAt, .ref a_blackAt, .ref a_slips, .ref a_leftArc, .ref a_died, .ref a_arcs, .int m_bestSum, .int m_nearest, .int m_nearestTown, .ref a_there, .ref a_backAt, .ref a_sorted, .ref a_parts, .int m_seed1, .int m_darkNow]))] [(a_r, .inl (g.2.2.1, 311, .inl d_r)), (a_st, .inl (g.2.2.1, 44, .inl d_st)), (a_tape, .inl (g.2.2.1, 900, .inl d_tape)), (a_letters, .inl (g.2.2.1, 8, .inl uf_57)), (a_fresh, .inl (g.2.2.1, 311, .inl uf_55))] [2] [0, 1, 3, 4, 5] (m_bad l g h0 6 u_61 m_thrown2_1 a_tape 0 p0 u_61 u_62 u_64 u_65 u_66 u_68 u_58 m_trouble2_2 a_letters u_59 m_hasHouse a_r a_fresh a_st a_undone a_kept m_undos m_images a_from a_begin a_motor a_change a_startFrame a_changeFrame a_lostAt a_blackAt a_slips a_leftArc a_died a_arcs m_bestSum m_nearest m_nearestTown a_there a_backAt a_sorted a_parts m_seed1 m_darkNow (iv_w iv_81 (by decide) (by decide))) dX11_house_171 mw519 mw520 mw521 mw5 mw522 rfl 11 rfl rfl 0 _ rfl (by unfold yOk; decide) rfl (Nat.le_of_ble_eq_true rfl) (Nat.le_of_ble_eq_true rfl) (Nat.le_of_ble_eq_true rfl) (Nat.le_of_ble_eq_true rfl) (Nat.le_of_ble_eq_true rfl) rfl rfl (by decide) rfl (by decide) (by decide) ?_
                rintro w ⟨m_failed2_104, m_fault2_105, m_place2_106, iv_108, rfl⟩
                refine k_ws [(a_r, .inl (g.2.2.1, 311, .inl d_r)), (a_st, .inl (g.2.2.1, 44, .inl d_st)), (a_tape, .inl (g.2.2.1, 900, .inl d_tape)), (a_letters, .inl (g.2.2.1, 8, .inl uf_57)), (a_fresh, .inl (g.2.2.1, 311, .inl uf_55)), (h0, .inr (11, [.int m_thrown2_1, .ref a_tape, .int 0, .int p0, .int u_61, .int u_62, .int u_64, .int u_65, .int u_66, .int m_fault2_105, .int m_place2_106, .int m_trouble2_2, .ref a_letters, .int m_failed2_104, .int m_hasHouse, .ref a_r, .ref a_fresh, .ref a_st, .ref a_undone, .ref a_kept, .int m_undos, .int m_images, .ref a_from, .ref a_begin, .ref a_motor, .ref a_change, .ref a_startFrame, .ref a_changeFrame, .ref a_lostAt, .ref a_blackAt, .ref a_slips, .ref a_leftArc, .ref a_died, .ref a_arcs, .int m_bestSum, .int m_nearest, .int m_nearestTown, .ref a_there, .ref a_backAt, .ref a_sorted, .ref a_parts, .int m_seed1, .int m_darkNow]))] rfl ?_
                refine k_aload_n X dX11_house_174 1 rfl ?_
                refine k_get (ci := 11) X inlX11 rfl 13 (by decide) dX11_house_175 mw469 5 rfl rfl ?_
                refine k_if_eq 187 X dX11_house_178 (by decide) (fun h_109 => (iv_eqN h_109 iv_108 (show IV 0 0 0 from (by decide)) (by decide)).elim) (fun h_109 => ?_)
                refine k_aload_n X dX11_house_181 1 rfl ?_
                refine k_iconst (v := 4) X dX11_house_182 (by decide) ?_
                refine k_callVI (n := 1) (As := [.int 4]) (st := []) X [(h0, .inr (11, [.int m_thrown2_1, .ref a_tape, .int 0, .int p0, .int u_61, .int u_62, .int u_64, .int u_65, .int u_66, .int m_fault2_105, .int m_place2_106, .int m_trouble2_2, .ref a_letters, .int m_failed2_104, .int m_hasHouse, .ref a_r, .ref a_fresh, .ref a_st, .ref a_undone, .ref a_kept, .int m_undos, .int m_images, .ref a_from, .ref a_begin, .ref a_motor, .ref a_change, .ref a_startFrame, .ref a_changeFrame, .ref a_lostAt, .ref a_blackAt, .ref a_slips, .ref a_leftArc, .ref a_died, .ref a_arcs, .int m_bestSum, .int m_nearest, .int m_nearestTown, .ref a_there, .ref a_backAt, .ref a_sorted, .ref a_parts, .int m_seed1, .int m_darkNow]))] [(a_r, .inl (g.2.2.1, 311, .inl d_r)), (a_st, .inl (g.2.2.1, 44, .inl d_st)), (a_tape, .inl (g.2.2.1, 900, .inl d_tape)), (a_letters, .inl (g.2.2.1, 8, .inl uf_57)), (a_fresh, .inl (g.2.2.1, 311, .inl uf_55))] [5] [0, 1, 2, 3, 4] (m_no l g h0 4 m_thrown2_1 a_tape 0 p0 u_61 u_62 u_64 u_65 u_66 m_fault2_105 m_place2_106 m_trouble2_2 a_letters m_failed2_104 m_hasHouse a_r a_fresh a_st a_undone a_kept m_undos m_images a_from a_begin a_motor a_change a_startFrame a_changeFrame a_lostAt a_blackAt a_slips a_leftArc a_died a_arcs m_bestSum m_nearest m_nearestTown a_there a_backAt a_sorted a_parts m_seed1 m_darkNow) dX11_house_183 mw485 mw486 mw487 mw5 mw488 rfl 11 rfl rfl 0 _ rfl (by unfold yOk; decide) rfl (Nat.le_of_ble_eq_true rfl) (Nat.le_of_ble_eq_true rfl) (Nat.le_of_ble_eq_true rfl) (Nat.le_of_ble_eq_true rfl) (Nat.le_of_ble_eq_true rfl) rfl rfl (by decide) rfl (by decide) (by decide) ?_
                rintro r_111 w ⟨m_trouble2_110, iv_112, rfl⟩
                refine k_ws [(a_r, .inl (g.2.2.1, 311, .inl d_r)), (a_st, .inl (g.2.2.1, 44, .inl d_st)), (a_tape, .inl (g.2.2.1, 900, .inl d_tape)), (a_letters, .inl (g.2.2.1, 8, .inl uf_57)), (a_fresh, .inl (g.2.2.1, 311, .inl uf_55)), (h0, .inr (11, [.int m_thrown2_1, .ref a_tape, .int 0, .int p0, .int u_61, .int u_62, .int u_64, .int u_65, .int u_66, .int m_fault2_105, .int m_place2_106, .int m_trouble2_110, .ref a_letters, .int m_failed2_104, .int m_hasHouse, .ref a_r, .ref a_fresh, .ref a_st, .ref a_undone, .ref a_kept, .int m_undos, .int m_images, .ref a_from, .ref a_begin, .ref a_motor, .ref a_change, .ref a_startFrame, .ref a_changeFrame, .ref a_lostAt, .ref a_blackAt, .ref a_slips, .ref a_leftArc, .ref a_died, .ref a_arcs, .int m_bestSum, .int m_nearest, .int m_nearestTown, .ref a_there, .ref a_backAt, .ref a_sorted, .ref a_parts, .int m_seed1, .int m_darkNow]))] rfl ?_
                exact k_iret X hr dX11_house_186 (Nat.le_of_ble_eq_true rfl) (Nat.le_of_ble_eq_true rfl) [5, 2, 3, 0, 4, 1] (by decide) rfl rfl ⟨u_61, u_62, m_failed2_104, m_fault2_105, uf_55, m_hasHouse, m_images, uf_57, u_66, m_place2_106, d_r, p0, d_st, 0, m_thrown2_1, u_64, m_trouble2_110, m_undos, u_65, (iv_w hv_63 (by decide) (by decide)), (iv_w iv_108 (by decide) (by decide)), (iv_w hv_m_hasHouse (by decide) (by decide)), (iv_w hv_m_images (by decide) (by decide)), (iv_w hv_67 (by decide) (by decide)), (iv_w iv_13 (by decide) (by decide)), (iv_w (show IV 0 0 0 from (by decide)) (by decide) (by decide)), (iv_w hv_m_undos (by decide) (by decide)), hp_d_r, hp_56, (by refine ⟨fun q => ?_, fun q => ?_⟩ <;> first | rfl | (exfalso; omega)), rfl⟩
              · skip
                have iv_113 : IV z_99 1 8 := iv_neL h_102 iv_101 (show IV 0 0 0 from (by decide)) (by decide)
                refine k_aload_n X dX11_house_154 1 rfl ?_
                refine k_get (ci := 11) X inlX11 rfl 16 (by decide) dX11_house_155 mw171 2 rfl rfl ?_
                refine k_bipush (v := 11) X dX11_house_158 (by decide) ?_
                refine k_iald X dX11_house_160 5 rfl (by unfold vp_in; decide) ?_
                refine k_nm (fun z_114 ez_114 => ?_)
                have i_115 : z_114.toInt = (uf_55 11).toInt := by rw [ez_114]; rfl
                have iv_116 : IV z_114 0 4 := rb_11 ez_114 hp_56
                refine k_if_ne 174 X dX11_house_161 (by decide) (fun h_117 => ?_) (fun h_117 => ?_)
                · skip
                  have iv_118 : IV z_114 1 4 := iv_neL h_117 iv_116 (show IV 0 0 0 from (by decide)) (by decide)
                  refine k_aload_n X dX11_house_174 1 rfl ?_
                  refine k_get (ci := 11) X inlX11 rfl 13 (by decide) dX11_house_175 mw469 2 rfl rfl ?_
                  refine k_if_eq 187 X dX11_house_178 (by decide) (fun h_119 => ?_) (fun h_119 => absurd (iv_eq iv_81 (show IV 0 0 0 from (by decide))) h_119)
                  refine k_aload_n X dX11_house_187 1 rfl ?_
                  refine k_get (ci := 11) X inlX11 rfl 16 (by decide) dX11_house_188 mw171 2 rfl rfl ?_
                  refine k_iconst (v := 0) X dX11_house_191 (by decide) ?_
                  refine k_aload_n X dX11_house_192 1 rfl ?_
                  refine k_get (ci := 11) X inlX11 rfl 15 (by decide) dX11_house_193 mw170 2 rfl rfl ?_
                  refine k_iconst (v := 0) X dX11_house_196 (by decide) ?_
                  refine k_sipush (v := 311) X dX11_house_197 (by decide) ?_
                  refine k_callSV (n := 5) (As := [.ref a_fresh, .int 0, .ref a_r, .int 0, .int 311]) (st := []) X [(a_fresh, .inl (g.2.2.1, 311, .inl uf_55)), (a_r, .inl (g.2.2.1, 311, .inl d_r))] [(a_st, .inl (g.2.2.1, 44, .inl d_st)), (h0, .inr (11, [.int m_thrown2_1, .ref a_tape, .int 0, .int p0, .int u_61, .int u_62, .int u_64, .int u_65, .int u_66, .int u_68, .int u_58, .int m_trouble2_2, .ref a_letters, .int u_59, .int m_hasHouse, .ref a_r, .ref a_fresh, .ref a_st, .ref a_undone, .ref a_kept, .int m_undos, .int m_images, .ref a_from, .ref a_begin, .ref a_motor, .ref a_change, .ref a_startFrame, .ref a_changeFrame, .ref a_lostAt, .ref a_blackAt, .ref a_slips, .ref a_leftArc, .ref a_died, .ref a_arcs, .int m_bestSum, .int m_nearest, .int m_nearestTown, .ref a_there, .ref a_backAt, .ref a_sorted, .ref a_parts, .int m_seed1, .int m_darkNow])), (a_tape, .inl (g.2.2.1, 900, .inl d_tape)), (a_letters, .inl (g.2.2.1, 8, .inl uf_57))] [5, 0] [1, 2, 3, 4] (m_copyR l g a_fresh a_r uf_55 d_r hp_56) dX11_house_200 mw619 mw620 mw5 mw621 (by unfold yOk; decide) rfl (Nat.le_of_ble_eq_true rfl) (Nat.le_of_ble_eq_true rfl) (Nat.le_of_ble_eq_true rfl) (Nat.le_of_ble_eq_true rfl) (Nat.le_of_ble_eq_true rfl) rfl rfl (by decide) rfl (by decide) (by decide) ?_
                  rintro w ⟨f3_120, hq_122, rfl⟩
                  refine k_ws [(a_st, .inl (g.2.2.1, 44, .inl d_st)), (h0, .inr (11, [.int m_thrown2_1, .ref a_tape, .int 0, .int p0, .int u_61, .int u_62, .int u_64, .int u_65, .int u_66, .int u_68, .int u_58, .int m_trouble2_2, .ref a_letters, .int u_59, .int m_hasHouse, .ref a_r, .ref a_fresh, .ref a_st, .ref a_undone, .ref a_kept, .int m_undos, .int m_images, .ref a_from, .ref a_begin, .ref a_motor, .ref a_change, .ref a_startFrame, .ref a_changeFrame, .ref a_lostAt, .ref a_blackAt, .ref a_slips, .ref a_leftArc, .ref a_died, .ref a_arcs, .int m_bestSum, .int m_nearest, .int m_nearestTown, .ref a_there, .ref a_backAt, .ref a_sorted, .ref a_parts, .int m_seed1, .int m_darkNow])), (a_tape, .inl (g.2.2.1, 900, .inl d_tape)), (a_letters, .inl (g.2.2.1, 8, .inl uf_57)), (a_fresh, .inl (g.2.2.1, 311, .inl uf_55)), (a_r, .inl (g.2.2.1, 311, .inl f3_120))] rfl ?_
                  refine k_iconst (v := 0) X dX11_house_203 (by decide) ?_
                  refine k_istore_n [(2, .int 0), (0, .ref h0), (1, .int p0)] X dX11_house_204 (by decide) rfl ?_
                  refine (fun hL : ∀ (nn_126 : Nat) (uf_123 : Nat → Int32) (u_124 : Int32), (44 - u_124.toInt).toNat = nn_126 → (IV u_124 0 255) → Wk p l e _ s m args below meth c _ A g _ _ _ [(a_st, .inl (g.2.2.1, 44, .inl uf_123)), (h0, .inr (11, [.int m_thrown2_1, .ref a_tape, .int 0, .int p0, .int u_61, .int u_62, .int u_64, .int u_65, .int u_66, .int u_68, .int u_58, .int m_trouble2_2, .ref a_letters, .int u_59, .int m_hasHouse, .ref a_r, .ref a_fresh, .ref a_st, .ref a_undone, .ref a_kept, .int m_undos, .int m_images, .ref a_from, .ref a_begin, .ref a_motor, .ref a_change, .ref a_startFrame, .ref a_changeFrame, .ref a_lostAt, .ref a_blackAt, .ref a_slips, .ref a_leftArc, .ref a_died, .ref a_arcs, .int m_bestSum, .int m_nearest, .int m_nearestTown, .ref a_there, .ref a_backAt, .ref a_sorted, .ref a_parts, .int m_seed1, .int m_darkNow])), (a_tape, .inl (g.2.2.1, 900, .inl d_tape)), (a_letters, .inl (g.2.2.1, 8, .inl uf_57)), (a_fresh, .inl (g.2.2.1, 311, .inl uf_55)), (a_r, .inl (g.2.2.1, 311, .inl f3_120))] [(2, .int u_124), (0, .ref h0), (1, .int p0)] 205 [] => hL _ d_st 0 rfl (iv_w (show IV 0 0 0 from (by decide)) (by decide) (by decide))) ?_
                  refine fun nn_126 => Nat.strongRecOn nn_126 (fun nn_126 ih_128 => ?_)
                  intro uf_123 u_124 hm_127 hv_125
                  refine k_iload_n X dX11_house_205 0 rfl ?_
                  refine k_bipush (v := 44) X dX11_house_206 (by decide) ?_
                  refine k_ic_ge 224 X dX11_house_208 (by decide) (fun h_129 => ?_) (fun h_129 => ?_)
                  · skip
                    have j_130 : 44 ≤ u_124.toInt := iv_le h_129
                    have iv_131 : IV u_124 44 255 := iv_leR (iv_le h_129) (show IV 44 44 44 from (by decide)) hv_125 (by decide)
                    refine k_iconst (v := 0) X dX11_house_224 (by decide) ?_
                    refine k_istore_n [(2, .int 0), (0, .ref h0), (1, .int p0)] X dX11_house_225 (by decide) rfl ?_
                    refine (fun hL : ∀ (nn_135 : Nat) (uf_132 : Nat → Int32) (u_133 : Int32), (2147483647 - u_133.toInt).toNat = nn_135 → (IV u_133 0 8) → Wk p l e _ s m args below meth c _ A g _ _ _ [(a_st, .inl (g.2.2.1, 44, .inl uf_132)), (h0, .inr (11, [.int m_thrown2_1, .ref a_tape, .int 0, .int p0, .int u_61, .int u_62, .int u_64, .int u_65, .int u_66, .int u_68, .int u_58, .int m_trouble2_2, .ref a_letters, .int u_59, .int m_hasHouse, .ref a_r, .ref a_fresh, .ref a_st, .ref a_undone, .ref a_kept, .int m_undos, .int m_images, .ref a_from, .ref a_begin, .ref a_motor, .ref a_change, .ref a_startFrame, .ref a_changeFrame, .ref a_lostAt, .ref a_blackAt, .ref a_slips, .ref a_leftArc, .ref a_died, .ref a_arcs, .int m_bestSum, .int m_nearest, .int m_nearestTown, .ref a_there, .ref a_backAt, .ref a_sorted, .ref a_parts, .int m_seed1, .int m_darkNow])), (a_tape, .inl (g.2.2.1, 900, .inl d_tape)), (a_letters, .inl (g.2.2.1, 8, .inl uf_57)), (a_fresh, .inl (g.2.2.1, 311, .inl uf_55)), (a_r, .inl (g.2.2.1, 311, .inl f3_120))] [(2, .int u_133), (0, .ref h0), (1, .int p0)] 226 [] => hL _ uf_123 0 rfl (iv_w (show IV 0 0 0 from (by decide)) (by decide) (by decide))) ?_
                    refine fun nn_135 => Nat.strongRecOn nn_135 (fun nn_135 ih_137 => ?_)
                    intro uf_132 u_133 hm_136 hv_134
                    refine k_iload_n X dX11_house_226 0 rfl ?_
                    refine k_aload_n X dX11_house_227 1 rfl ?_
                    refine k_get (ci := 11) X inlX11 rfl 15 (by decide) dX11_house_228 mw170 1 rfl rfl ?_
                    refine k_bipush (v := 6) X dX11_house_231 (by decide) ?_
                    refine k_iald X dX11_house_233 5 rfl (by unfold vp_in; decide) ?_
                    refine k_nm (fun z_138 ez_138 => ?_)
                    have i_139 : z_138.toInt = (f3_120 6).toInt := by rw [ez_138]; rfl
                    have iv_140 : IV z_138 0 8 := rb_6 ez_138 hq_122
                    refine k_ic_ge 284 X dX11_house_234 (by decide) (fun h_141 => ?_) (fun h_141 => ?_)
                    · skip
                      have j_142 : z_138.toInt ≤ u_133.toInt := iv_le h_141
                      refine k_iconst (v := 0) X dX11_house_284 (by decide) ?_
                      refine k_istore_n [(2, .int 0), (0, .ref h0), (1, .int p0)] X dX11_house_285 (by decide) rfl ?_
                      refine (fun hL : ∀ (nn_146 : Nat) (uf_143 : Nat → Int32) (u_144 : Int32), (2147483647 - u_144.toInt).toNat = nn_146 → (IV u_144 0 255) → Wk p l e _ s m args below meth c _ A g _ _ _ [(a_st, .inl (g.2.2.1, 44, .inl uf_143)), (h0, .inr (11, [.int m_thrown2_1, .ref a_tape, .int 0, .int p0, .int u_61, .int u_62, .int u_64, .int u_65, .int u_66, .int u_68, .int u_58, .int m_trouble2_2, .ref a_letters, .int u_59, .int m_hasHouse, .ref a_r, .ref a_fresh, .ref a_st, .ref a_undone, .ref a_kept, .int m_undos, .int m_images, .ref a_from, .ref a_begin, .ref a_motor, .ref a_change, .ref a_startFrame, .ref a_changeFrame, .ref a_lostAt, .ref a_blackAt, .ref a_slips, .ref a_leftArc, .ref a_died, .ref a_arcs, .int m_bestSum, .int m_nearest, .int m_nearestTown, .ref a_there, .ref a_backAt, .ref a_sorted, .ref a_parts, .int m_seed1, .int m_darkNow])), (a_tape, .inl (g.2.2.1, 900, .inl d_tape)), (a_letters, .inl (g.2.2.1, 8, .inl uf_57)), (a_fresh, .inl (g.2.2.1, 311, .inl uf_55)), (a_r, .inl (g.2.2.1, 311, .inl f3_120))] [(2, .int u_144), (0, .ref h0), (1, .int p0)] 286 [] => hL _ uf_132 0 rfl (iv_w (show IV 0 0 0 from (by decide)) (by decide) (by decide))) ?_
                      refine fun nn_146 => Nat.strongRecOn nn_146 (fun nn_146 ih_148 => ?_)
                      intro uf_143 u_144 hm_147 hv_145
                      refine k_iload_n X dX11_house_286 0 rfl ?_
                      refine k_aload_n X dX11_house_287 1 rfl ?_
                      refine k_get (ci := 11) X inlX11 rfl 15 (by decide) dX11_house_288 mw170 1 rfl rfl ?_
                      refine k_bipush (v := 8) X dX11_house_291 (by decide) ?_
                      refine k_iald X dX11_house_293 5 rfl (by unfold vp_in; decide) ?_
                      refine k_nm (fun z_149 ez_149 => ?_)
                      have i_150 : z_149.toInt = (f3_120 8).toInt := by rw [ez_149]; rfl
                      have iv_151 : IV z_149 0 12 := rb_8 ez_149 hq_122
                      refine k_ic_ge 325 X dX11_house_294 (by decide) (fun h_152 => ?_) (fun h_152 => ?_)
                      · skip
                        have j_153 : z_149.toInt ≤ u_144.toInt := iv_le h_152
                        refine k_iconst (v := 0) X dX11_house_325 (by decide) ?_
                        refine k_istore_n [(2, .int 0), (0, .ref h0), (1, .int p0)] X dX11_house_326 (by decide) rfl ?_
                        refine (fun hL : ∀ (nn_157 : Nat) (uf_154 : Nat → Int32) (u_155 : Int32), (2147483647 - u_155.toInt).toNat = nn_157 → (IV u_155 0 8) → Wk p l e _ s m args below meth c _ A g _ _ _ [(a_st, .inl (g.2.2.1, 44, .inl uf_154)), (h0, .inr (11, [.int m_thrown2_1, .ref a_tape, .int 0, .int p0, .int u_61, .int u_62, .int u_64, .int u_65, .int u_66, .int u_68, .int u_58, .int m_trouble2_2, .ref a_letters, .int u_59, .int m_hasHouse, .ref a_r, .ref a_fresh, .ref a_st, .ref a_undone, .ref a_kept, .int m_undos, .int m_images, .ref a_from, .ref a_begin, .ref a_motor, .ref a_change, .ref a_startFrame, .ref a_changeFrame, .ref a_lostAt, .ref a_blackAt, .ref a_slips, .ref a_leftArc, .ref a_died, .ref a_arcs, .int m_bestSum, .int m_nearest, .int m_nearestTown, .ref a_there, .ref a_backAt, .ref a_sorted, .ref a_parts, .int m_seed1, .int m_darkNow])), (a_tape, .inl (g.2.2.1, 900, .inl d_tape)), (a_letters, .inl (g.2.2.1, 8, .inl uf_57)), (a_fresh, .inl (g.2.2.1, 311, .inl uf_55)), (a_r, .inl (g.2.2.1, 311, .inl f3_120))] [(2, .int u_155), (0, .ref h0), (1, .int p0)] 327 [] => hL _ uf_143 0 rfl (iv_w (show IV 0 0 0 from (by decide)) (by decide) (by decide))) ?_
                        refine fun nn_157 => Nat.strongRecOn nn_157 (fun nn_157 ih_159 => ?_)
                        intro uf_154 u_155 hm_158 hv_156
                        refine k_iload_n X dX11_house_327 0 rfl ?_
                        refine k_aload_n X dX11_house_328 1 rfl ?_
                        refine k_get (ci := 11) X inlX11 rfl 15 (by decide) dX11_house_329 mw170 1 rfl rfl ?_
                        refine k_bipush (v := 10) X dX11_house_332 (by decide) ?_
                        refine k_iald X dX11_house_334 5 rfl (by unfold vp_in; decide) ?_
                        refine k_nm (fun z_160 ez_160 => ?_)
                        have i_161 : z_160.toInt = (f3_120 10).toInt := by rw [ez_160]; rfl
                        have iv_162 : IV z_160 0 6 := rb_10 ez_160 hq_122
                        refine k_ic_ge 366 X dX11_house_335 (by decide) (fun h_163 => ?_) (fun h_163 => ?_)
                        · skip
                          have j_164 : z_160.toInt ≤ u_155.toInt := iv_le h_163
                          refine k_iconst (v := 0) X dX11_house_366 (by decide) ?_
                          refine k_istore_n [(2, .int 0), (0, .ref h0), (1, .int p0)] X dX11_house_367 (by decide) rfl ?_
                          refine (fun hL : ∀ (nn_168 : Nat) (uf_165 : Nat → Int32) (u_166 : Int32), (2147483647 - u_166.toInt).toNat = nn_168 → (IV u_166 0 8) → Wk p l e _ s m args below meth c _ A g _ _ _ [(a_st, .inl (g.2.2.1, 44, .inl uf_165)), (h0, .inr (11, [.int m_thrown2_1, .ref a_tape, .int 0, .int p0, .int u_61, .int u_62, .int u_64, .int u_65, .int u_66, .int u_68, .int u_58, .int m_trouble2_2, .ref a_letters, .int u_59, .int m_hasHouse, .ref a_r, .ref a_fresh, .ref a_st, .ref a_undone, .ref a_kept, .int m_undos, .int m_images, .ref a_from, .ref a_begin, .ref a_motor, .ref a_change, .ref a_startFrame, .ref a_changeFrame, .ref a_lostAt, .ref a_blackAt, .ref a_slips, .ref a_leftArc, .ref a_died, .ref a_arcs, .int m_bestSum, .int m_nearest, .int m_nearestTown, .ref a_there, .ref a_backAt, .ref a_sorted, .ref a_parts, .int m_seed1, .int m_darkNow])), (a_tape, .inl (g.2.2.1, 900, .inl d_tape)), (a_letters, .inl (g.2.2.1, 8, .inl uf_57)), (a_fresh, .inl (g.2.2.1, 311, .inl uf_55)), (a_r, .inl (g.2.2.1, 311, .inl f3_120))] [(2, .int u_166), (0, .ref h0), (1, .int p0)] 368 [] => hL _ uf_154 0 rfl (iv_w (show IV 0 0 0 from (by decide)) (by decide) (by decide))) ?_
                          refine fun nn_168 => Nat.strongRecOn nn_168 (fun nn_168 ih_170 => ?_)
                          intro uf_165 u_166 hm_169 hv_167
                          refine k_iload_n X dX11_house_368 0 rfl ?_
                          refine k_aload_n X dX11_house_369 1 rfl ?_
                          refine k_get (ci := 11) X inlX11 rfl 15 (by decide) dX11_house_370 mw170 1 rfl rfl ?_
                          refine k_bipush (v := 12) X dX11_house_373 (by decide) ?_
                          refine k_iald X dX11_house_375 5 rfl (by unfold vp_in; decide) ?_
                          refine k_nm (fun z_171 ez_171 => ?_)
                          have i_172 : z_171.toInt = (f3_120 12).toInt := by rw [ez_171]; rfl
                          have iv_173 : IV z_171 0 8 := rb_12 ez_171 hq_122
                          refine k_ic_ge 400 X dX11_house_376 (by decide) (fun h_174 => ?_) (fun h_174 => ?_)
                          · skip
                            have j_175 : z_171.toInt ≤ u_166.toInt := iv_le h_174
                            refine k_aload_n X dX11_house_400 1 rfl ?_
                            refine k_iconst (v := 1) X dX11_house_401 (by decide) ?_
                            refine k_put (ci := 11) [(a_st, .inl (g.2.2.1, 44, .inl uf_165)), (h0, .inr (11, [.int m_thrown2_1, .ref a_tape, .int 0, .int p0, .int u_61, .int u_62, .int u_64, .int u_65, .int u_66, .int u_68, .int u_58, .int m_trouble2_2, .ref a_letters, .int u_59, .int 1, .ref a_r, .ref a_fresh, .ref a_st, .ref a_undone, .ref a_kept, .int m_undos, .int m_images, .ref a_from, .ref a_begin, .ref a_motor, .ref a_change, .ref a_startFrame, .ref a_changeFrame, .ref a_lostAt, .ref a_blackAt, .ref a_slips, .ref a_leftArc, .ref a_died, .ref a_arcs, .int m_bestSum, .int m_nearest, .int m_nearestTown, .ref a_there, .ref a_backAt, .ref a_sorted, .ref a_parts, .int m_seed1, .int m_darkNow])), (a_tape, .inl (g.2.2.1, 900, .inl d_tape)), (a_letters, .inl (g.2.2.1, 8, .inl uf_57)), (a_fresh, .inl (g.2.2.1, 311, .inl uf_55)), (a_r, .inl (g.2.2.1, 311, .inl f3_120))] X inlX11 rfl tyX11_ok nmX11 14 (by decide) rfl dX11_house_402 mw474 1 rfl (by decide) (by decide) (Nat.le_of_ble_eq_true rfl) rfl ?_
                            refine k_aload_n X dX11_house_405 1 rfl ?_
                            refine k_iconst (v := 0) X dX11_house_406 (by decide) ?_
                            refine k_put (ci := 11) [(a_st, .inl (g.2.2.1, 44, .inl uf_165)), (h0, .inr (11, [.int m_thrown2_1, .ref a_tape, .int 0, .int p0, .int u_61, .int u_62, .int u_64, .int u_65, .int u_66, .int u_68, .int u_58, .int m_trouble2_2, .ref a_letters, .int u_59, .int 1, .ref a_r, .ref a_fresh, .ref a_st, .ref a_undone, .ref a_kept, .int 0, .int m_images, .ref a_from, .ref a_begin, .ref a_motor, .ref a_change, .ref a_startFrame, .ref a_changeFrame, .ref a_lostAt, .ref a_blackAt, .ref a_slips, .ref a_leftArc, .ref a_died, .ref a_arcs, .int m_bestSum, .int m_nearest, .int m_nearestTown, .ref a_there, .ref a_backAt, .ref a_sorted, .ref a_parts, .int m_seed1, .int m_darkNow])), (a_tape, .inl (g.2.2.1, 900, .inl d_tape)), (a_letters, .inl (g.2.2.1, 8, .inl uf_57)), (a_fresh, .inl (g.2.2.1, 311, .inl uf_55)), (a_r, .inl (g.2.2.1, 311, .inl f3_120))] X inlX11 rfl tyX11_ok nmX11 20 (by decide) rfl dX11_house_407 mw475 1 rfl rfl rfl (Nat.le_of_ble_eq_true rfl) rfl ?_
                            refine k_aload_n X dX11_house_410 1 rfl ?_
                            refine k_iconst (v := 0) X dX11_house_411 (by decide) ?_
                            refine k_put (ci := 11) [(a_st, .inl (g.2.2.1, 44, .inl uf_165)), (h0, .inr (11, [.int m_thrown2_1, .ref a_tape, .int 0, .int p0, .int u_61, .int u_62, .int u_64, .int u_65, .int u_66, .int u_68, .int u_58, .int m_trouble2_2, .ref a_letters, .int u_59, .int 1, .ref a_r, .ref a_fresh, .ref a_st, .ref a_undone, .ref a_kept, .int 0, .int 0, .ref a_from, .ref a_begin, .ref a_motor, .ref a_change, .ref a_startFrame, .ref a_changeFrame, .ref a_lostAt, .ref a_blackAt, .ref a_slips, .ref a_leftArc, .ref a_died, .ref a_arcs, .int m_bestSum, .int m_nearest, .int m_nearestTown, .ref a_there, .ref a_backAt, .ref a_sorted, .ref a_parts, .int m_seed1, .int m_darkNow])), (a_tape, .inl (g.2.2.1, 900, .inl d_tape)), (a_letters, .inl (g.2.2.1, 8, .inl uf_57)), (a_fresh, .inl (g.2.2.1, 311, .inl uf_55)), (a_r, .inl (g.2.2.1, 311, .inl f3_120))] X inlX11 rfl tyX11_ok nmX11 21 (by decide) rfl dX11_house_412 mw476 1 rfl rfl rfl (Nat.le_of_ble_eq_true rfl) rfl ?_
                            refine k_aload_n X dX11_house_415 1 rfl ?_
                            refine k_get (ci := 11) X inlX11 rfl 15 (by decide) dX11_house_416 mw170 1 rfl rfl ?_
                            refine k_bipush (v := 12) X dX11_house_419 (by decide) ?_
                            refine k_iald X dX11_house_421 5 rfl (by unfold vp_in; decide) ?_
                            refine k_to z_171 ez_171.symm ?_
                            exact k_iret X hr dX11_house_422 (Nat.le_of_ble_eq_true rfl) (Nat.le_of_ble_eq_true rfl) [1, 2, 3, 5, 4, 0] (by decide) rfl rfl ⟨u_61, u_62, u_59, u_68, uf_55, 1, 0, uf_57, u_66, u_58, f3_120, p0, uf_165, 0, m_thrown2_1, u_64, m_trouble2_2, 0, u_65, (iv_w hv_63 (by decide) (by decide)), (iv_w iv_81 (by decide) (by decide)), (iv_w (show IV 1 1 1 from (by decide)) (by decide) (by decide)), (iv_w (show IV 0 0 0 from (by decide)) (by decide) (by decide)), (iv_w hv_67 (by decide) (by decide)), (iv_w iv_13 (by decide) (by decide)), (iv_w (show IV 0 0 0 from (by decide)) (by decide) (by decide)), (iv_w (show IV 0 0 0 from (by decide)) (by decide) (by decide)), hq_122, hp_56, (by refine ⟨fun q => ?_, fun q => ?_⟩ <;> first | rfl | (exfalso; omega)), rfl⟩
                          · skip
                            have j_176 : u_166.toInt < z_171.toInt := iv_nle h_174
                            have iv_177 : IV u_166 0 7 := iv_ltL (iv_nle h_174) hv_167 iv_173 (by decide)
                            have iv_178 : IV z_171 1 8 := iv_ltR (iv_nle h_174) hv_167 iv_173 (by decide)
                            refine k_aload_n X dX11_house_379 1 rfl ?_
                            refine k_get (ci := 11) X inlX11 rfl 17 (by decide) dX11_house_380 mw172 1 rfl rfl ?_
                            refine k_bipush (v := 34) X dX11_house_383 (by decide) ?_
                            refine k_iload_n X dX11_house_385 0 rfl ?_
                            refine k_iadd X dX11_house_386 ?_
                            refine k_nm (fun z_179 ez_179 => ?_)
                            have i_180 : z_179.toInt = 34 + u_166.toInt := in_add ez_179 (show IV 34 34 34 from (by decide)) iv_177 (by decide) (by decide)
                            have iv_181 : IV z_179 34 41 := by have := (show IV 34 34 34 from (by decide)); have := iv_177; rw [IV, i_180]; omega
                            refine k_aload_n X dX11_house_387 1 rfl ?_
                            refine k_get (ci := 11) X inlX11 rfl 15 (by decide) dX11_house_388 mw170 1 rfl rfl ?_
                            refine k_iconst (v := 2) X dX11_house_391 (by decide) ?_
                            refine k_iald X dX11_house_392 5 rfl (by unfold vp_in; decide) ?_
                            refine k_nm (fun z_182 ez_182 => ?_)
                            refine k_iast [(a_st, .inl (g.2.2.1, 44, .inl (upd uf_165 (z_179 : Int32).toNatClampNeg z_182))), (h0, .inr (11, [.int m_thrown2_1, .ref a_tape, .int 0, .int p0, .int u_61, .int u_62, .int u_64, .int u_65, .int u_66, .int u_68, .int u_58, .int m_trouble2_2, .ref a_letters, .int u_59, .int m_hasHouse, .ref a_r, .ref a_fresh, .ref a_st, .ref a_undone, .ref a_kept, .int m_undos, .int m_images, .ref a_from, .ref a_begin, .ref a_motor, .ref a_change, .ref a_startFrame, .ref a_changeFrame, .ref a_lostAt, .ref a_blackAt, .ref a_slips, .ref a_leftArc, .ref a_died, .ref a_arcs, .int m_bestSum, .int m_nearest, .int m_nearestTown, .ref a_there, .ref a_backAt, .ref a_sorted, .ref a_parts, .int m_seed1, .int m_darkNow])), (a_tape, .inl (g.2.2.1, 900, .inl d_tape)), (a_letters, .inl (g.2.2.1, 8, .inl uf_57)), (a_fresh, .inl (g.2.2.1, 311, .inl uf_55)), (a_r, .inl (g.2.2.1, 311, .inl f3_120))] X dX11_house_393 0 rfl (iv_in iv_181 (by decide) (by decide)) rfl ?_
                            refine (fun hg : ∀ fa_183 : Nat → Int32, Wk p l e _ s m args below meth c _ A g _ _ _ [(a_st, .inl (g.2.2.1, 44, .inl fa_183)), (h0, .inr (11, [.int m_thrown2_1, .ref a_tape, .int 0, .int p0, .int u_61, .int u_62, .int u_64, .int u_65, .int u_66, .int u_68, .int u_58, .int m_trouble2_2, .ref a_letters, .int u_59, .int m_hasHouse, .ref a_r, .ref a_fresh, .ref a_st, .ref a_undone, .ref a_kept, .int m_undos, .int m_images, .ref a_from, .ref a_begin, .ref a_motor, .ref a_change, .ref a_startFrame, .ref a_changeFrame, .ref a_lostAt, .ref a_blackAt, .ref a_slips, .ref a_leftArc, .ref a_died, .ref a_arcs, .int m_bestSum, .int m_nearest, .int m_nearestTown, .ref a_there, .ref a_backAt, .ref a_sorted, .ref a_parts, .int m_seed1, .int m_darkNow])), (a_tape, .inl (g.2.2.1, 900, .inl d_tape)), (a_letters, .inl (g.2.2.1, 8, .inl uf_57)), (a_fresh, .inl (g.2.2.1, 311, .inl uf_55)), (a_r, .inl (g.2.2.1, 311, .inl f3_120))] _ _ _ => hg _) (fun fa_183 => ?_)
                            obtain ⟨z_184, ez_184⟩ : ∃ y : Int32, u_166 + Int32.ofInt 1 = y := ⟨_, rfl⟩
                            refine k_iinc z_184 [(2, .int z_184), (0, .ref h0), (1, .int p0)] 0 X dX11_house_394 rfl ez_184 (by decide) rfl ?_
                            have i_185 : z_184.toInt = u_166.toInt + 1 := in_inc ez_184 (by decide) iv_177 (by decide) (by decide)
                            have iv_186 : IV z_184 1 8 := by have := iv_177; rw [IV, i_185]; omega
                            refine k_goto 368 X dX11_house_397 (by decide) ?_
                            exact ih_170 _ (by omega) fa_183 z_184 rfl (iv_w iv_186 (by decide) (by decide))
                        · skip
                          have j_187 : u_155.toInt < z_160.toInt := iv_nle h_163
                          have iv_188 : IV u_155 0 5 := iv_ltL (iv_nle h_163) hv_156 iv_162 (by decide)
                          have iv_189 : IV z_160 1 6 := iv_ltR (iv_nle h_163) hv_156 iv_162 (by decide)
                          refine k_aload_n X dX11_house_338 1 rfl ?_
                          refine k_get (ci := 11) X inlX11 rfl 17 (by decide) dX11_house_339 mw172 1 rfl rfl ?_
                          refine k_bipush (v := 28) X dX11_house_342 (by decide) ?_
                          refine k_iload_n X dX11_house_344 0 rfl ?_
                          refine k_iadd X dX11_house_345 ?_
                          refine k_nm (fun z_190 ez_190 => ?_)
                          have i_191 : z_190.toInt = 28 + u_155.toInt := in_add ez_190 (show IV 28 28 28 from (by decide)) iv_188 (by decide) (by decide)
                          have iv_192 : IV z_190 28 33 := by have := (show IV 28 28 28 from (by decide)); have := iv_188; rw [IV, i_191]; omega
                          refine k_aload_n X dX11_house_346 1 rfl ?_
                          refine k_get (ci := 11) X inlX11 rfl 15 (by decide) dX11_house_347 mw170 1 rfl rfl ?_
                          refine k_bipush (v := 96) X dX11_house_350 (by decide) ?_
                          refine k_iconst (v := 3) X dX11_house_352 (by decide) ?_
                          refine k_iload_n X dX11_house_353 0 rfl ?_
                          refine k_imul X dX11_house_354 ?_
                          refine k_nm (fun z_193 ez_193 => ?_)
                          have i_194 : z_193.toInt = 3 * u_155.toInt := in_mul ez_193 (by decide) (by decide) iv_188 (by decide) (by decide)
                          have iv_195 : IV z_193 0 15 := by have := (show IV 3 3 3 from (by decide)); have := iv_188; rw [IV, i_194]; omega
                          refine k_iadd X dX11_house_355 ?_
                          refine k_nm (fun z_196 ez_196 => ?_)
                          have i_197 : z_196.toInt = 96 + z_193.toInt := in_add ez_196 (show IV 96 96 96 from (by decide)) iv_195 (by decide) (by decide)
                          have iv_198 : IV z_196 96 111 := by have := (show IV 96 96 96 from (by decide)); have := iv_195; rw [IV, i_197]; omega
                          refine k_iconst (v := 1) X dX11_house_356 (by decide) ?_
                          refine k_iadd X dX11_house_357 ?_
                          refine k_nm (fun z_199 ez_199 => ?_)
                          have i_200 : z_199.toInt = z_196.toInt + 1 := in_add ez_199 iv_198 (show IV 1 1 1 from (by decide)) (by decide) (by decide)
                          have iv_201 : IV z_199 97 112 := by have := iv_198; have := (show IV 1 1 1 from (by decide)); rw [IV, i_200]; omega
                          refine k_iald X dX11_house_358 5 rfl (iv_in iv_201 (by decide) (by decide)) ?_
                          refine k_nm (fun z_202 ez_202 => ?_)
                          refine k_iast [(a_st, .inl (g.2.2.1, 44, .inl (upd uf_154 (z_190 : Int32).toNatClampNeg z_202))), (h0, .inr (11, [.int m_thrown2_1, .ref a_tape, .int 0, .int p0, .int u_61, .int u_62, .int u_64, .int u_65, .int u_66, .int u_68, .int u_58, .int m_trouble2_2, .ref a_letters, .int u_59, .int m_hasHouse, .ref a_r, .ref a_fresh, .ref a_st, .ref a_undone, .ref a_kept, .int m_undos, .int m_images, .ref a_from, .ref a_begin, .ref a_motor, .ref a_change, .ref a_startFrame, .ref a_changeFrame, .ref a_lostAt, .ref a_blackAt, .ref a_slips, .ref a_leftArc, .ref a_died, .ref a_arcs, .int m_bestSum, .int m_nearest, .int m_nearestTown, .ref a_there, .ref a_backAt, .ref a_sorted, .ref a_parts, .int m_seed1, .int m_darkNow])), (a_tape, .inl (g.2.2.1, 900, .inl d_tape)), (a_letters, .inl (g.2.2.1, 8, .inl uf_57)), (a_fresh, .inl (g.2.2.1, 311, .inl uf_55)), (a_r, .inl (g.2.2.1, 311, .inl f3_120))] X dX11_house_359 0 rfl (iv_in iv_192 (by decide) (by decide)) rfl ?_
                          refine (fun hg : ∀ fa_203 : Nat → Int32, Wk p l e _ s m args below meth c _ A g _ _ _ [(a_st, .inl (g.2.2.1, 44, .inl fa_203)), (h0, .inr (11, [.int m_thrown2_1, .ref a_tape, .int 0, .int p0, .int u_61, .int u_62, .int u_64, .int u_65, .int u_66, .int u_68, .int u_58, .int m_trouble2_2, .ref a_letters, .int u_59, .int m_hasHouse, .ref a_r, .ref a_fresh, .ref a_st, .ref a_undone, .ref a_kept, .int m_undos, .int m_images, .ref a_from, .ref a_begin, .ref a_motor, .ref a_change, .ref a_startFrame, .ref a_changeFrame, .ref a_lostAt, .ref a_blackAt, .ref a_slips, .ref a_leftArc, .ref a_died, .ref a_arcs, .int m_bestSum, .int m_nearest, .int m_nearestTown, .ref a_there, .ref a_backAt, .ref a_sorted, .ref a_parts, .int m_seed1, .int m_darkNow])), (a_tape, .inl (g.2.2.1, 900, .inl d_tape)), (a_letters, .inl (g.2.2.1, 8, .inl uf_57)), (a_fresh, .inl (g.2.2.1, 311, .inl uf_55)), (a_r, .inl (g.2.2.1, 311, .inl f3_120))] _ _ _ => hg _) (fun fa_203 => ?_)
                          obtain ⟨z_204, ez_204⟩ : ∃ y : Int32, u_155 + Int32.ofInt 1 = y := ⟨_, rfl⟩
                          refine k_iinc z_204 [(2, .int z_204), (0, .ref h0), (1, .int p0)] 0 X dX11_house_360 rfl ez_204 (by decide) rfl ?_
                          have i_205 : z_204.toInt = u_155.toInt + 1 := in_inc ez_204 (by decide) iv_188 (by decide) (by decide)
                          have iv_206 : IV z_204 1 6 := by have := iv_188; rw [IV, i_205]; omega
                          refine k_goto 327 X dX11_house_363 (by decide) ?_
                          exact ih_159 _ (by omega) fa_203 z_204 rfl (iv_w iv_206 (by decide) (by decide))
                      · skip
                        have j_207 : u_144.toInt < z_149.toInt := iv_nle h_152
                        have iv_208 : IV u_144 0 11 := iv_ltL (iv_nle h_152) hv_145 iv_151 (by decide)
                        have iv_209 : IV z_149 1 12 := iv_ltR (iv_nle h_152) hv_145 iv_151 (by decide)
                        refine k_aload_n X dX11_house_297 1 rfl ?_
                        refine k_get (ci := 11) X inlX11 rfl 17 (by decide) dX11_house_298 mw172 1 rfl rfl ?_
                        refine k_bipush (v := 16) X dX11_house_301 (by decide) ?_
                        refine k_iload_n X dX11_house_303 0 rfl ?_
                        refine k_iadd X dX11_house_304 ?_
                        refine k_nm (fun z_210 ez_210 => ?_)
                        have i_211 : z_210.toInt = 16 + u_144.toInt := in_add ez_210 (show IV 16 16 16 from (by decide)) iv_208 (by decide) (by decide)
                        have iv_212 : IV z_210 16 27 := by have := (show IV 16 16 16 from (by decide)); have := iv_208; rw [IV, i_211]; omega
                        refine k_aload_n X dX11_house_305 1 rfl ?_
                        refine k_get (ci := 11) X inlX11 rfl 15 (by decide) dX11_house_306 mw170 1 rfl rfl ?_
                        refine k_bipush (v := 44) X dX11_house_309 (by decide) ?_
                        refine k_iconst (v := 3) X dX11_house_311 (by decide) ?_
                        refine k_iload_n X dX11_house_312 0 rfl ?_
                        refine k_imul X dX11_house_313 ?_
                        refine k_nm (fun z_213 ez_213 => ?_)
                        have i_214 : z_213.toInt = 3 * u_144.toInt := in_mul ez_213 (by decide) (by decide) iv_208 (by decide) (by decide)
                        have iv_215 : IV z_213 0 33 := by have := (show IV 3 3 3 from (by decide)); have := iv_208; rw [IV, i_214]; omega
                        refine k_iadd X dX11_house_314 ?_
                        refine k_nm (fun z_216 ez_216 => ?_)
                        have i_217 : z_216.toInt = 44 + z_213.toInt := in_add ez_216 (show IV 44 44 44 from (by decide)) iv_215 (by decide) (by decide)
                        have iv_218 : IV z_216 44 77 := by have := (show IV 44 44 44 from (by decide)); have := iv_215; rw [IV, i_217]; omega
                        refine k_iconst (v := 1) X dX11_house_315 (by decide) ?_
                        refine k_iadd X dX11_house_316 ?_
                        refine k_nm (fun z_219 ez_219 => ?_)
                        have i_220 : z_219.toInt = z_216.toInt + 1 := in_add ez_219 iv_218 (show IV 1 1 1 from (by decide)) (by decide) (by decide)
                        have iv_221 : IV z_219 45 78 := by have := iv_218; have := (show IV 1 1 1 from (by decide)); rw [IV, i_220]; omega
                        refine k_iald X dX11_house_317 5 rfl (iv_in iv_221 (by decide) (by decide)) ?_
                        refine k_nm (fun z_222 ez_222 => ?_)
                        refine k_iast [(a_st, .inl (g.2.2.1, 44, .inl (upd uf_143 (z_210 : Int32).toNatClampNeg z_222))), (h0, .inr (11, [.int m_thrown2_1, .ref a_tape, .int 0, .int p0, .int u_61, .int u_62, .int u_64, .int u_65, .int u_66, .int u_68, .int u_58, .int m_trouble2_2, .ref a_letters, .int u_59, .int m_hasHouse, .ref a_r, .ref a_fresh, .ref a_st, .ref a_undone, .ref a_kept, .int m_undos, .int m_images, .ref a_from, .ref a_begin, .ref a_motor, .ref a_change, .ref a_startFrame, .ref a_changeFrame, .ref a_lostAt, .ref a_blackAt, .ref a_slips, .ref a_leftArc, .ref a_died, .ref a_arcs, .int m_bestSum, .int m_nearest, .int m_nearestTown, .ref a_there, .ref a_backAt, .ref a_sorted, .ref a_parts, .int m_seed1, .int m_darkNow])), (a_tape, .inl (g.2.2.1, 900, .inl d_tape)), (a_letters, .inl (g.2.2.1, 8, .inl uf_57)), (a_fresh, .inl (g.2.2.1, 311, .inl uf_55)), (a_r, .inl (g.2.2.1, 311, .inl f3_120))] X dX11_house_318 0 rfl (iv_in iv_212 (by decide) (by decide)) rfl ?_
                        refine (fun hg : ∀ fa_223 : Nat → Int32, Wk p l e _ s m args below meth c _ A g _ _ _ [(a_st, .inl (g.2.2.1, 44, .inl fa_223)), (h0, .inr (11, [.int m_thrown2_1, .ref a_tape, .int 0, .int p0, .int u_61, .int u_62, .int u_64, .int u_65, .int u_66, .int u_68, .int u_58, .int m_trouble2_2, .ref a_letters, .int u_59, .int m_hasHouse, .ref a_r, .ref a_fresh, .ref a_st, .ref a_undone, .ref a_kept, .int m_undos, .int m_images, .ref a_from, .ref a_begin, .ref a_motor, .ref a_change, .ref a_startFrame, .ref a_changeFrame, .ref a_lostAt, .ref a_blackAt, .ref a_slips, .ref a_leftArc, .ref a_died, .ref a_arcs, .int m_bestSum, .int m_nearest, .int m_nearestTown, .ref a_there, .ref a_backAt, .ref a_sorted, .ref a_parts, .int m_seed1, .int m_darkNow])), (a_tape, .inl (g.2.2.1, 900, .inl d_tape)), (a_letters, .inl (g.2.2.1, 8, .inl uf_57)), (a_fresh, .inl (g.2.2.1, 311, .inl uf_55)), (a_r, .inl (g.2.2.1, 311, .inl f3_120))] _ _ _ => hg _) (fun fa_223 => ?_)
                        obtain ⟨z_224, ez_224⟩ : ∃ y : Int32, u_144 + Int32.ofInt 1 = y := ⟨_, rfl⟩
                        refine k_iinc z_224 [(2, .int z_224), (0, .ref h0), (1, .int p0)] 0 X dX11_house_319 rfl ez_224 (by decide) rfl ?_
                        have i_225 : z_224.toInt = u_144.toInt + 1 := in_inc ez_224 (by decide) iv_208 (by decide) (by decide)
                        have iv_226 : IV z_224 1 12 := by have := iv_208; rw [IV, i_225]; omega
                        refine k_goto 286 X dX11_house_322 (by decide) ?_
                        exact ih_148 _ (by omega) fa_223 z_224 rfl (iv_w iv_226 (by decide) (by decide))
                    · skip
                      have j_227 : u_133.toInt < z_138.toInt := iv_nle h_141
                      have iv_228 : IV u_133 0 7 := iv_ltL (iv_nle h_141) hv_134 iv_140 (by decide)
                      have iv_229 : IV z_138 1 8 := iv_ltR (iv_nle h_141) hv_134 iv_140 (by decide)
                      refine k_aload_n X dX11_house_237 1 rfl ?_
                      refine k_get (ci := 11) X inlX11 rfl 17 (by decide) dX11_house_238 mw172 1 rfl rfl ?_
                      refine k_iconst (v := 0) X dX11_house_241 (by decide) ?_
                      refine k_iload_n X dX11_house_242 0 rfl ?_
                      refine k_iadd X dX11_house_243 ?_
                      refine k_nm (fun z_230 ez_230 => ?_)
                      have i_231 : z_230.toInt = 0 + u_133.toInt := in_add ez_230 (show IV 0 0 0 from (by decide)) iv_228 (by decide) (by decide)
                      have iv_232 : IV z_230 0 7 := by have := (show IV 0 0 0 from (by decide)); have := iv_228; rw [IV, i_231]; omega
                      refine k_aload_n X dX11_house_244 1 rfl ?_
                      refine k_get (ci := 11) X inlX11 rfl 15 (by decide) dX11_house_245 mw170 1 rfl rfl ?_
                      refine k_bipush (v := 16) X dX11_house_248 (by decide) ?_
                      refine k_iconst (v := 3) X dX11_house_250 (by decide) ?_
                      refine k_iload_n X dX11_house_251 0 rfl ?_
                      refine k_imul X dX11_house_252 ?_
                      refine k_nm (fun z_233 ez_233 => ?_)
                      have i_234 : z_233.toInt = 3 * u_133.toInt := in_mul ez_233 (by decide) (by decide) iv_228 (by decide) (by decide)
                      have iv_235 : IV z_233 0 21 := by have := (show IV 3 3 3 from (by decide)); have := iv_228; rw [IV, i_234]; omega
                      refine k_iadd X dX11_house_253 ?_
                      refine k_nm (fun z_236 ez_236 => ?_)
                      have i_237 : z_236.toInt = 16 + z_233.toInt := in_add ez_236 (show IV 16 16 16 from (by decide)) iv_235 (by decide) (by decide)
                      have iv_238 : IV z_236 16 37 := by have := (show IV 16 16 16 from (by decide)); have := iv_235; rw [IV, i_237]; omega
                      refine k_iald X dX11_house_254 5 rfl (iv_in iv_238 (by decide) (by decide)) ?_
                      refine k_nm (fun z_239 ez_239 => ?_)
                      refine k_iast [(a_st, .inl (g.2.2.1, 44, .inl (upd uf_132 (z_230 : Int32).toNatClampNeg z_239))), (h0, .inr (11, [.int m_thrown2_1, .ref a_tape, .int 0, .int p0, .int u_61, .int u_62, .int u_64, .int u_65, .int u_66, .int u_68, .int u_58, .int m_trouble2_2, .ref a_letters, .int u_59, .int m_hasHouse, .ref a_r, .ref a_fresh, .ref a_st, .ref a_undone, .ref a_kept, .int m_undos, .int m_images, .ref a_from, .ref a_begin, .ref a_motor, .ref a_change, .ref a_startFrame, .ref a_changeFrame, .ref a_lostAt, .ref a_blackAt, .ref a_slips, .ref a_leftArc, .ref a_died, .ref a_arcs, .int m_bestSum, .int m_nearest, .int m_nearestTown, .ref a_there, .ref a_backAt, .ref a_sorted, .ref a_parts, .int m_seed1, .int m_darkNow])), (a_tape, .inl (g.2.2.1, 900, .inl d_tape)), (a_letters, .inl (g.2.2.1, 8, .inl uf_57)), (a_fresh, .inl (g.2.2.1, 311, .inl uf_55)), (a_r, .inl (g.2.2.1, 311, .inl f3_120))] X dX11_house_255 0 rfl (iv_in iv_232 (by decide) (by decide)) rfl ?_
                      refine (fun hg : ∀ fa_240 : Nat → Int32, Wk p l e _ s m args below meth c _ A g _ _ _ [(a_st, .inl (g.2.2.1, 44, .inl fa_240)), (h0, .inr (11, [.int m_thrown2_1, .ref a_tape, .int 0, .int p0, .int u_61, .int u_62, .int u_64, .int u_65, .int u_66, .int u_68, .int u_58, .int m_trouble2_2, .ref a_letters, .int u_59, .int m_hasHouse, .ref a_r, .ref a_fresh, .ref a_st, .ref a_undone, .ref a_kept, .int m_undos, .int m_images, .ref a_from, .ref a_begin, .ref a_motor, .ref a_change, .ref a_startFrame, .ref a_changeFrame, .ref a_lostAt, .ref a_blackAt, .ref a_slips, .ref a_leftArc, .ref a_died, .ref a_arcs, .int m_bestSum, .int m_nearest, .int m_nearestTown, .ref a_there, .ref a_backAt, .ref a_sorted, .ref a_parts, .int m_seed1, .int m_darkNow])), (a_tape, .inl (g.2.2.1, 900, .inl d_tape)), (a_letters, .inl (g.2.2.1, 8, .inl uf_57)), (a_fresh, .inl (g.2.2.1, 311, .inl uf_55)), (a_r, .inl (g.2.2.1, 311, .inl f3_120))] _ _ _ => hg _) (fun fa_240 => ?_)
                      refine k_aload_n X dX11_house_256 1 rfl ?_
                      refine k_get (ci := 11) X inlX11 rfl 17 (by decide) dX11_house_257 mw172 1 rfl rfl ?_
                      refine k_bipush (v := 8) X dX11_house_260 (by decide) ?_
                      refine k_iload_n X dX11_house_262 0 rfl ?_
                      refine k_iadd X dX11_house_263 ?_
                      refine k_nm (fun z_241 ez_241 => ?_)
                      have i_242 : z_241.toInt = 8 + u_133.toInt := in_add ez_241 (show IV 8 8 8 from (by decide)) iv_228 (by decide) (by decide)
                      have iv_243 : IV z_241 8 15 := by have := (show IV 8 8 8 from (by decide)); have := iv_228; rw [IV, i_242]; omega
                      refine k_aload_n X dX11_house_264 1 rfl ?_
                      refine k_get (ci := 11) X inlX11 rfl 15 (by decide) dX11_house_265 mw170 1 rfl rfl ?_
                      refine k_bipush (v := 16) X dX11_house_268 (by decide) ?_
                      refine k_iconst (v := 3) X dX11_house_270 (by decide) ?_
                      refine k_iload_n X dX11_house_271 0 rfl ?_
                      refine k_imul X dX11_house_272 ?_
                      refine k_to z_233 ez_233.symm ?_
                      refine k_iadd X dX11_house_273 ?_
                      refine k_to z_236 ez_236.symm ?_
                      refine k_iconst (v := 1) X dX11_house_274 (by decide) ?_
                      refine k_iadd X dX11_house_275 ?_
                      refine k_nm (fun z_244 ez_244 => ?_)
                      have i_245 : z_244.toInt = z_236.toInt + 1 := in_add ez_244 iv_238 (show IV 1 1 1 from (by decide)) (by decide) (by decide)
                      have iv_246 : IV z_244 17 38 := by have := iv_238; have := (show IV 1 1 1 from (by decide)); rw [IV, i_245]; omega
                      refine k_iald X dX11_house_276 5 rfl (iv_in iv_246 (by decide) (by decide)) ?_
                      refine k_nm (fun z_247 ez_247 => ?_)
                      refine k_iast [(a_st, .inl (g.2.2.1, 44, .inl (upd fa_240 (z_241 : Int32).toNatClampNeg z_247))), (h0, .inr (11, [.int m_thrown2_1, .ref a_tape, .int 0, .int p0, .int u_61, .int u_62, .int u_64, .int u_65, .int u_66, .int u_68, .int u_58, .int m_trouble2_2, .ref a_letters, .int u_59, .int m_hasHouse, .ref a_r, .ref a_fresh, .ref a_st, .ref a_undone, .ref a_kept, .int m_undos, .int m_images, .ref a_from, .ref a_begin, .ref a_motor, .ref a_change, .ref a_startFrame, .ref a_changeFrame, .ref a_lostAt, .ref a_blackAt, .ref a_slips, .ref a_leftArc, .ref a_died, .ref a_arcs, .int m_bestSum, .int m_nearest, .int m_nearestTown, .ref a_there, .ref a_backAt, .ref a_sorted, .ref a_parts, .int m_seed1, .int m_darkNow])), (a_tape, .inl (g.2.2.1, 900, .inl d_tape)), (a_letters, .inl (g.2.2.1, 8, .inl uf_57)), (a_fresh, .inl (g.2.2.1, 311, .inl uf_55)), (a_r, .inl (g.2.2.1, 311, .inl f3_120))] X dX11_house_277 0 rfl (iv_in iv_243 (by decide) (by decide)) rfl ?_
                      refine (fun hg : ∀ fa_248 : Nat → Int32, Wk p l e _ s m args below meth c _ A g _ _ _ [(a_st, .inl (g.2.2.1, 44, .inl fa_248)), (h0, .inr (11, [.int m_thrown2_1, .ref a_tape, .int 0, .int p0, .int u_61, .int u_62, .int u_64, .int u_65, .int u_66, .int u_68, .int u_58, .int m_trouble2_2, .ref a_letters, .int u_59, .int m_hasHouse, .ref a_r, .ref a_fresh, .ref a_st, .ref a_undone, .ref a_kept, .int m_undos, .int m_images, .ref a_from, .ref a_begin, .ref a_motor, .ref a_change, .ref a_startFrame, .ref a_changeFrame, .ref a_lostAt, .ref a_blackAt, .ref a_slips, .ref a_leftArc, .ref a_died, .ref a_arcs, .int m_bestSum, .int m_nearest, .int m_nearestTown, .ref a_there, .ref a_backAt, .ref a_sorted, .ref a_parts, .int m_seed1, .int m_darkNow])), (a_tape, .inl (g.2.2.1, 900, .inl d_tape)), (a_letters, .inl (g.2.2.1, 8, .inl uf_57)), (a_fresh, .inl (g.2.2.1, 311, .inl uf_55)), (a_r, .inl (g.2.2.1, 311, .inl f3_120))] _ _ _ => hg _) (fun fa_248 => ?_)
                      obtain ⟨z_249, ez_249⟩ : ∃ y : Int32, u_133 + Int32.ofInt 1 = y := ⟨_, rfl⟩
                      refine k_iinc z_249 [(2, .int z_249), (0, .ref h0), (1, .int p0)] 0 X dX11_house_278 rfl ez_249 (by decide) rfl ?_
                      have i_250 : z_249.toInt = u_133.toInt + 1 := in_inc ez_249 (by decide) iv_228 (by decide) (by decide)
                      have iv_251 : IV z_249 1 8 := by have := iv_228; rw [IV, i_250]; omega
                      refine k_goto 226 X dX11_house_281 (by decide) ?_
                      exact ih_137 _ (by omega) fa_248 z_249 rfl (iv_w iv_251 (by decide) (by decide))
                  · skip
                    have j_252 : u_124.toInt < 44 := iv_nle h_129
                    have iv_253 : IV u_124 0 43 := iv_ltL (iv_nle h_129) hv_125 (show IV 44 44 44 from (by decide)) (by decide)
                    refine k_aload_n X dX11_house_211 1 rfl ?_
                    refine k_get (ci := 11) X inlX11 rfl 17 (by decide) dX11_house_212 mw172 1 rfl rfl ?_
                    refine k_iload_n X dX11_house_215 0 rfl ?_
                    refine k_iconst (v := 0) X dX11_house_216 (by decide) ?_
                    refine k_iast [(a_st, .inl (g.2.2.1, 44, .inl (upd uf_123 (u_124 : Int32).toNatClampNeg 0))), (h0, .inr (11, [.int m_thrown2_1, .ref a_tape, .int 0, .int p0, .int u_61, .int u_62, .int u_64, .int u_65, .int u_66, .int u_68, .int u_58, .int m_trouble2_2, .ref a_letters, .int u_59, .int m_hasHouse, .ref a_r, .ref a_fresh, .ref a_st, .ref a_undone, .ref a_kept, .int m_undos, .int m_images, .ref a_from, .ref a_begin, .ref a_motor, .ref a_change, .ref a_startFrame, .ref a_changeFrame, .ref a_lostAt, .ref a_blackAt, .ref a_slips, .ref a_leftArc, .ref a_died, .ref a_arcs, .int m_bestSum, .int m_nearest, .int m_nearestTown, .ref a_there, .ref a_backAt, .ref a_sorted, .ref a_parts, .int m_seed1, .int m_darkNow])), (a_tape, .inl (g.2.2.1, 900, .inl d_tape)), (a_letters, .inl (g.2.2.1, 8, .inl uf_57)), (a_fresh, .inl (g.2.2.1, 311, .inl uf_55)), (a_r, .inl (g.2.2.1, 311, .inl f3_120))] X dX11_house_217 0 rfl (iv_in iv_253 (by decide) (by decide)) rfl ?_
                    refine (fun hg : ∀ fa_254 : Nat → Int32, Wk p l e _ s m args below meth c _ A g _ _ _ [(a_st, .inl (g.2.2.1, 44, .inl fa_254)), (h0, .inr (11, [.int m_thrown2_1, .ref a_tape, .int 0, .int p0, .int u_61, .int u_62, .int u_64, .int u_65, .int u_66, .int u_68, .int u_58, .int m_trouble2_2, .ref a_letters, .int u_59, .int m_hasHouse, .ref a_r, .ref a_fresh, .ref a_st, .ref a_undone, .ref a_kept, .int m_undos, .int m_images, .ref a_from, .ref a_begin, .ref a_motor, .ref a_change, .ref a_startFrame, .ref a_changeFrame, .ref a_lostAt, .ref a_blackAt, .ref a_slips, .ref a_leftArc, .ref a_died, .ref a_arcs, .int m_bestSum, .int m_nearest, .int m_nearestTown, .ref a_there, .ref a_backAt, .ref a_sorted, .ref a_parts, .int m_seed1, .int m_darkNow])), (a_tape, .inl (g.2.2.1, 900, .inl d_tape)), (a_letters, .inl (g.2.2.1, 8, .inl uf_57)), (a_fresh, .inl (g.2.2.1, 311, .inl uf_55)), (a_r, .inl (g.2.2.1, 311, .inl f3_120))] _ _ _ => hg _) (fun fa_254 => ?_)
                    obtain ⟨z_255, ez_255⟩ : ∃ y : Int32, u_124 + Int32.ofInt 1 = y := ⟨_, rfl⟩
                    refine k_iinc z_255 [(2, .int z_255), (0, .ref h0), (1, .int p0)] 0 X dX11_house_218 rfl ez_255 (by decide) rfl ?_
                    have i_256 : z_255.toInt = u_124.toInt + 1 := in_inc ez_255 (by decide) iv_253 (by decide) (by decide)
                    have iv_257 : IV z_255 1 44 := by have := iv_253; rw [IV, i_256]; omega
                    refine k_goto 205 X dX11_house_221 (by decide) ?_
                    exact ih_128 _ (by omega) fa_254 z_255 rfl (iv_w iv_257 (by decide) (by decide))
                · skip
                  have iv_258 : IV z_114 0 0 := iv_meet iv_116 (iv_e h_117 (show IV 0 0 0 from (by decide))) (by decide) (by decide)
                  refine k_aload_n X dX11_house_164 1 rfl ?_
                  refine k_bipush (v := 6) X dX11_house_165 (by decide) ?_
                  refine k_aload_n X dX11_house_167 1 rfl ?_
                  refine k_get (ci := 11) X inlX11 rfl 4 (by decide) dX11_house_168 mw473 2 rfl rfl ?_
                  refine k_callVV (n := 2) (As := [.int 6, .int u_61]) (st := []) X [(h0, .inr (11, [.int m_thrown2_1, .ref a_tape, .int 0, .int p0, .int u_61, .int u_62, .int u_64, .int u_65, .int u_66, .int u_68, .int u_58, .int m_trouble2_2, .ref a_letters, .int u_59, .int m_hasHouse, .ref a_r, .ref a_fresh, .ref a_st, .ref a_undone, .ref a_kept, .int m_undos, .int m_images, .ref a_from, .ref a_begin, .ref a_motor, .ref a_change, .ref a_startFrame, .ref a_changeFrame, .ref a_lostAt, .ref a_blackAt, .ref a_slips, .ref a_leftArc, .ref a_died, .ref a_arcs, .int m_bestSum, .int m_nearest, .int m_nearestTown, .ref a_there, .ref a_backAt, .ref a_sorted, .ref a_parts, .int m_seed1, .int m_darkNow]))] [(a_r, .inl (g.2.2.1, 311, .inl d_r)), (a_st, .inl (g.2.2.1, 44, .inl d_st)), (a_tape, .inl (g.2.2.1, 900, .inl d_tape)), (a_letters, .inl (g.2.2.1, 8, .inl uf_57)), (a_fresh, .inl (g.2.2.1, 311, .inl uf_55))] [2] [0, 1, 3, 4, 5] (m_bad l g h0 6 u_61 m_thrown2_1 a_tape 0 p0 u_61 u_62 u_64 u_65 u_66 u_68 u_58 m_trouble2_2 a_letters u_59 m_hasHouse a_r a_fresh a_st a_undone a_kept m_undos m_images a_from a_begin a_motor a_change a_startFrame a_changeFrame a_lostAt a_blackAt a_slips a_leftArc a_died a_arcs m_bestSum m_nearest m_nearestTown a_there a_backAt a_sorted a_parts m_seed1 m_darkNow (iv_w iv_81 (by decide) (by decide))) dX11_house_171 mw519 mw520 mw521 mw5 mw522 rfl 11 rfl rfl 0 _ rfl (by unfold yOk; decide) rfl (Nat.le_of_ble_eq_true rfl) (Nat.le_of_ble_eq_true rfl) (Nat.le_of_ble_eq_true rfl) (Nat.le_of_ble_eq_true rfl) (Nat.le_of_ble_eq_true rfl) rfl rfl (by decide) rfl (by decide) (by decide) ?_
                  rintro w ⟨m_failed2_259, m_fault2_260, m_place2_261, iv_263, rfl⟩
                  refine k_ws [(a_r, .inl (g.2.2.1, 311, .inl d_r)), (a_st, .inl (g.2.2.1, 44, .inl d_st)), (a_tape, .inl (g.2.2.1, 900, .inl d_tape)), (a_letters, .inl (g.2.2.1, 8, .inl uf_57)), (a_fresh, .inl (g.2.2.1, 311, .inl uf_55)), (h0, .inr (11, [.int m_thrown2_1, .ref a_tape, .int 0, .int p0, .int u_61, .int u_62, .int u_64, .int u_65, .int u_66, .int m_fault2_260, .int m_place2_261, .int m_trouble2_2, .ref a_letters, .int m_failed2_259, .int m_hasHouse, .ref a_r, .ref a_fresh, .ref a_st, .ref a_undone, .ref a_kept, .int m_undos, .int m_images, .ref a_from, .ref a_begin, .ref a_motor, .ref a_change, .ref a_startFrame, .ref a_changeFrame, .ref a_lostAt, .ref a_blackAt, .ref a_slips, .ref a_leftArc, .ref a_died, .ref a_arcs, .int m_bestSum, .int m_nearest, .int m_nearestTown, .ref a_there, .ref a_backAt, .ref a_sorted, .ref a_parts, .int m_seed1, .int m_darkNow]))] rfl ?_
                  refine k_aload_n X dX11_house_174 1 rfl ?_
                  refine k_get (ci := 11) X inlX11 rfl 13 (by decide) dX11_house_175 mw469 5 rfl rfl ?_
                  refine k_if_eq 187 X dX11_house_178 (by decide) (fun h_264 => (iv_eqN h_264 iv_263 (show IV 0 0 0 from (by decide)) (by decide)).elim) (fun h_264 => ?_)
                  refine k_aload_n X dX11_house_181 1 rfl ?_
                  refine k_iconst (v := 4) X dX11_house_182 (by decide) ?_
                  refine k_callVI (n := 1) (As := [.int 4]) (st := []) X [(h0, .inr (11, [.int m_thrown2_1, .ref a_tape, .int 0, .int p0, .int u_61, .int u_62, .int u_64, .int u_65, .int u_66, .int m_fault2_260, .int m_place2_261, .int m_trouble2_2, .ref a_letters, .int m_failed2_259, .int m_hasHouse, .ref a_r, .ref a_fresh, .ref a_st, .ref a_undone, .ref a_kept, .int m_undos, .int m_images, .ref a_from, .ref a_begin, .ref a_motor, .ref a_change, .ref a_startFrame, .ref a_changeFrame, .ref a_lostAt, .ref a_blackAt, .ref a_slips, .ref a_leftArc, .ref a_died, .ref a_arcs, .int m_bestSum, .int m_nearest, .int m_nearestTown, .ref a_there, .ref a_backAt, .ref a_sorted, .ref a_parts, .int m_seed1, .int m_darkNow]))] [(a_r, .inl (g.2.2.1, 311, .inl d_r)), (a_st, .inl (g.2.2.1, 44, .inl d_st)), (a_tape, .inl (g.2.2.1, 900, .inl d_tape)), (a_letters, .inl (g.2.2.1, 8, .inl uf_57)), (a_fresh, .inl (g.2.2.1, 311, .inl uf_55))] [5] [0, 1, 2, 3, 4] (m_no l g h0 4 m_thrown2_1 a_tape 0 p0 u_61 u_62 u_64 u_65 u_66 m_fault2_260 m_place2_261 m_trouble2_2 a_letters m_failed2_259 m_hasHouse a_r a_fresh a_st a_undone a_kept m_undos m_images a_from a_begin a_motor a_change a_startFrame a_changeFrame a_lostAt a_blackAt a_slips a_leftArc a_died a_arcs m_bestSum m_nearest m_nearestTown a_there a_backAt a_sorted a_parts m_seed1 m_darkNow) dX11_house_183 mw485 mw486 mw487 mw5 mw488 rfl 11 rfl rfl 0 _ rfl (by unfold yOk; decide) rfl (Nat.le_of_ble_eq_true rfl) (Nat.le_of_ble_eq_true rfl) (Nat.le_of_ble_eq_true rfl) (Nat.le_of_ble_eq_true rfl) (Nat.le_of_ble_eq_true rfl) rfl rfl (by decide) rfl (by decide) (by decide) ?_
                  rintro r_266 w ⟨m_trouble2_265, iv_267, rfl⟩
                  refine k_ws [(a_r, .inl (g.2.2.1, 311, .inl d_r)), (a_st, .inl (g.2.2.1, 44, .inl d_st)), (a_tape, .inl (g.2.2.1, 900, .inl d_tape)), (a_letters, .inl (g.2.2.1, 8, .inl uf_57)), (a_fresh, .inl (g.2.2.1, 311, .inl uf_55)), (h0, .inr (11, [.int m_thrown2_1, .ref a_tape, .int 0, .int p0, .int u_61, .int u_62, .int u_64, .int u_65, .int u_66, .int m_fault2_260, .int m_place2_261, .int m_trouble2_265, .ref a_letters, .int m_failed2_259, .int m_hasHouse, .ref a_r, .ref a_fresh, .ref a_st, .ref a_undone, .ref a_kept, .int m_undos, .int m_images, .ref a_from, .ref a_begin, .ref a_motor, .ref a_change, .ref a_startFrame, .ref a_changeFrame, .ref a_lostAt, .ref a_blackAt, .ref a_slips, .ref a_leftArc, .ref a_died, .ref a_arcs, .int m_bestSum, .int m_nearest, .int m_nearestTown, .ref a_there, .ref a_backAt, .ref a_sorted, .ref a_parts, .int m_seed1, .int m_darkNow]))] rfl ?_
                  exact k_iret X hr dX11_house_186 (Nat.le_of_ble_eq_true rfl) (Nat.le_of_ble_eq_true rfl) [5, 2, 3, 0, 4, 1] (by decide) rfl rfl ⟨u_61, u_62, m_failed2_259, m_fault2_260, uf_55, m_hasHouse, m_images, uf_57, u_66, m_place2_261, d_r, p0, d_st, 0, m_thrown2_1, u_64, m_trouble2_265, m_undos, u_65, (iv_w hv_63 (by decide) (by decide)), (iv_w iv_263 (by decide) (by decide)), (iv_w hv_m_hasHouse (by decide) (by decide)), (iv_w hv_m_images (by decide) (by decide)), (iv_w hv_67 (by decide) (by decide)), (iv_w iv_13 (by decide) (by decide)), (iv_w (show IV 0 0 0 from (by decide)) (by decide) (by decide)), (iv_w hv_m_undos (by decide) (by decide)), hp_d_r, hp_56, (by refine ⟨fun q => ?_, fun q => ?_⟩ <;> first | rfl | (exfalso; omega)), rfl⟩
          · skip
            refine k_aload_n X dX11_house_118 1 rfl ?_
            refine k_iconst (v := 1) X dX11_house_119 (by decide) ?_
            refine k_aload_n X dX11_house_120 1 rfl ?_
            refine k_get (ci := 11) X inlX11 rfl 4 (by decide) dX11_house_121 mw473 2 rfl rfl ?_
            refine k_callVV (n := 2) (As := [.int 1, .int u_61]) (st := []) X [(h0, .inr (11, [.int m_thrown2_1, .ref a_tape, .int 0, .int p0, .int u_61, .int u_62, .int u_64, .int u_65, .int u_66, .int u_68, .int u_58, .int m_trouble2_2, .ref a_letters, .int u_59, .int m_hasHouse, .ref a_r, .ref a_fresh, .ref a_st, .ref a_undone, .ref a_kept, .int m_undos, .int m_images, .ref a_from, .ref a_begin, .ref a_motor, .ref a_change, .ref a_startFrame, .ref a_changeFrame, .ref a_lostAt, .ref a_blackAt, .ref a_slips, .ref a_leftArc, .ref a_died, .ref a_arcs, .int m_bestSum, .int m_nearest, .int m_nearestTown, .ref a_there, .ref a_backAt, .ref a_sorted, .ref a_parts, .int m_seed1, .int m_darkNow]))] [(a_r, .inl (g.2.2.1, 311, .inl d_r)), (a_st, .inl (g.2.2.1, 44, .inl d_st)), (a_tape, .inl (g.2.2.1, 900, .inl d_tape)), (a_letters, .inl (g.2.2.1, 8, .inl uf_57)), (a_fresh, .inl (g.2.2.1, 311, .inl uf_55))] [2] [0, 1, 3, 4, 5] (m_bad l g h0 1 u_61 m_thrown2_1 a_tape 0 p0 u_61 u_62 u_64 u_65 u_66 u_68 u_58 m_trouble2_2 a_letters u_59 m_hasHouse a_r a_fresh a_st a_undone a_kept m_undos m_images a_from a_begin a_motor a_change a_startFrame a_changeFrame a_lostAt a_blackAt a_slips a_leftArc a_died a_arcs m_bestSum m_nearest m_nearestTown a_there a_backAt a_sorted a_parts m_seed1 m_darkNow (iv_w iv_81 (by decide) (by decide))) dX11_house_124 mw519 mw520 mw521 mw5 mw522 rfl 11 rfl rfl 0 _ rfl (by unfold yOk; decide) rfl (Nat.le_of_ble_eq_true rfl) (Nat.le_of_ble_eq_true rfl) (Nat.le_of_ble_eq_true rfl) (Nat.le_of_ble_eq_true rfl) (Nat.le_of_ble_eq_true rfl) rfl rfl (by decide) rfl (by decide) (by decide) ?_
            rintro w ⟨m_failed2_268, m_fault2_269, m_place2_270, iv_272, rfl⟩
            refine k_ws [(a_r, .inl (g.2.2.1, 311, .inl d_r)), (a_st, .inl (g.2.2.1, 44, .inl d_st)), (a_tape, .inl (g.2.2.1, 900, .inl d_tape)), (a_letters, .inl (g.2.2.1, 8, .inl uf_57)), (a_fresh, .inl (g.2.2.1, 311, .inl uf_55)), (h0, .inr (11, [.int m_thrown2_1, .ref a_tape, .int 0, .int p0, .int u_61, .int u_62, .int u_64, .int u_65, .int u_66, .int m_fault2_269, .int m_place2_270, .int m_trouble2_2, .ref a_letters, .int m_failed2_268, .int m_hasHouse, .ref a_r, .ref a_fresh, .ref a_st, .ref a_undone, .ref a_kept, .int m_undos, .int m_images, .ref a_from, .ref a_begin, .ref a_motor, .ref a_change, .ref a_startFrame, .ref a_changeFrame, .ref a_lostAt, .ref a_blackAt, .ref a_slips, .ref a_leftArc, .ref a_died, .ref a_arcs, .int m_bestSum, .int m_nearest, .int m_nearestTown, .ref a_there, .ref a_backAt, .ref a_sorted, .ref a_parts, .int m_seed1, .int m_darkNow]))] rfl ?_
            refine k_aload_n X dX11_house_127 1 rfl ?_
            refine k_get (ci := 11) X inlX11 rfl 13 (by decide) dX11_house_128 mw469 5 rfl rfl ?_
            refine k_if_ne 174 X dX11_house_131 (by decide) (fun h_273 => ?_) (fun h_273 => (iv_eqN h_273 iv_272 (show IV 0 0 0 from (by decide)) (by decide)).elim)
            refine k_aload_n X dX11_house_174 1 rfl ?_
            refine k_get (ci := 11) X inlX11 rfl 13 (by decide) dX11_house_175 mw469 5 rfl rfl ?_
            refine k_if_eq 187 X dX11_house_178 (by decide) (fun h_274 => (iv_eqN h_274 iv_272 (show IV 0 0 0 from (by decide)) (by decide)).elim) (fun h_274 => ?_)
            refine k_aload_n X dX11_house_181 1 rfl ?_
            refine k_iconst (v := 4) X dX11_house_182 (by decide) ?_
            refine k_callVI (n := 1) (As := [.int 4]) (st := []) X [(h0, .inr (11, [.int m_thrown2_1, .ref a_tape, .int 0, .int p0, .int u_61, .int u_62, .int u_64, .int u_65, .int u_66, .int m_fault2_269, .int m_place2_270, .int m_trouble2_2, .ref a_letters, .int m_failed2_268, .int m_hasHouse, .ref a_r, .ref a_fresh, .ref a_st, .ref a_undone, .ref a_kept, .int m_undos, .int m_images, .ref a_from, .ref a_begin, .ref a_motor, .ref a_change, .ref a_startFrame, .ref a_changeFrame, .ref a_lostAt, .ref a_blackAt, .ref a_slips, .ref a_leftArc, .ref a_died, .ref a_arcs, .int m_bestSum, .int m_nearest, .int m_nearestTown, .ref a_there, .ref a_backAt, .ref a_sorted, .ref a_parts, .int m_seed1, .int m_darkNow]))] [(a_r, .inl (g.2.2.1, 311, .inl d_r)), (a_st, .inl (g.2.2.1, 44, .inl d_st)), (a_tape, .inl (g.2.2.1, 900, .inl d_tape)), (a_letters, .inl (g.2.2.1, 8, .inl uf_57)), (a_fresh, .inl (g.2.2.1, 311, .inl uf_55))] [5] [0, 1, 2, 3, 4] (m_no l g h0 4 m_thrown2_1 a_tape 0 p0 u_61 u_62 u_64 u_65 u_66 m_fault2_269 m_place2_270 m_trouble2_2 a_letters m_failed2_268 m_hasHouse a_r a_fresh a_st a_undone a_kept m_undos m_images a_from a_begin a_motor a_change a_startFrame a_changeFrame a_lostAt a_blackAt a_slips a_leftArc a_died a_arcs m_bestSum m_nearest m_nearestTown a_there a_backAt a_sorted a_parts m_seed1 m_darkNow) dX11_house_183 mw485 mw486 mw487 mw5 mw488 rfl 11 rfl rfl 0 _ rfl (by unfold yOk; decide) rfl (Nat.le_of_ble_eq_true rfl) (Nat.le_of_ble_eq_true rfl) (Nat.le_of_ble_eq_true rfl) (Nat.le_of_ble_eq_true rfl) (Nat.le_of_ble_eq_true rfl) rfl rfl (by decide) rfl (by decide) (by decide) ?_
            rintro r_276 w ⟨m_trouble2_275, iv_277, rfl⟩
            refine k_ws [(a_r, .inl (g.2.2.1, 311, .inl d_r)), (a_st, .inl (g.2.2.1, 44, .inl d_st)), (a_tape, .inl (g.2.2.1, 900, .inl d_tape)), (a_letters, .inl (g.2.2.1, 8, .inl uf_57)), (a_fresh, .inl (g.2.2.1, 311, .inl uf_55)), (h0, .inr (11, [.int m_thrown2_1, .ref a_tape, .int 0, .int p0, .int u_61, .int u_62, .int u_64, .int u_65, .int u_66, .int m_fault2_269, .int m_place2_270, .int m_trouble2_275, .ref a_letters, .int m_failed2_268, .int m_hasHouse, .ref a_r, .ref a_fresh, .ref a_st, .ref a_undone, .ref a_kept, .int m_undos, .int m_images, .ref a_from, .ref a_begin, .ref a_motor, .ref a_change, .ref a_startFrame, .ref a_changeFrame, .ref a_lostAt, .ref a_blackAt, .ref a_slips, .ref a_leftArc, .ref a_died, .ref a_arcs, .int m_bestSum, .int m_nearest, .int m_nearestTown, .ref a_there, .ref a_backAt, .ref a_sorted, .ref a_parts, .int m_seed1, .int m_darkNow]))] rfl ?_
            exact k_iret X hr dX11_house_186 (Nat.le_of_ble_eq_true rfl) (Nat.le_of_ble_eq_true rfl) [5, 2, 3, 0, 4, 1] (by decide) rfl rfl ⟨u_61, u_62, m_failed2_268, m_fault2_269, uf_55, m_hasHouse, m_images, uf_57, u_66, m_place2_270, d_r, p0, d_st, 0, m_thrown2_1, u_64, m_trouble2_275, m_undos, u_65, (iv_w hv_63 (by decide) (by decide)), (iv_w iv_272 (by decide) (by decide)), (iv_w hv_m_hasHouse (by decide) (by decide)), (iv_w hv_m_images (by decide) (by decide)), (iv_w hv_67 (by decide) (by decide)), (iv_w iv_13 (by decide) (by decide)), (iv_w (show IV 0 0 0 from (by decide)) (by decide) (by decide)), (iv_w hv_m_undos (by decide) (by decide)), hp_d_r, hp_56, (by refine ⟨fun q => ?_, fun q => ?_⟩ <;> first | rfl | (exfalso; omega)), rfl⟩
        · skip
          have iv_278 : IV u_64 59 59 := iv_meet (iv_any u_64) (iv_e h_82 (show IV 59 59 59 from (by decide))) (by decide) (by decide)
          refine k_aload_n X dX11_house_93 1 rfl ?_
          refine k_callVV (n := 0) (As := []) (st := []) X [(h0, .inr (11, [.int m_thrown2_1, .ref a_tape, .int 0, .int p0, .int u_61, .int u_62, .int u_64, .int u_65, .int u_66, .int u_68, .int u_58, .int m_trouble2_2, .ref a_letters, .int u_59, .int m_hasHouse, .ref a_r, .ref a_fresh, .ref a_st, .ref a_undone, .ref a_kept, .int m_undos, .int m_images, .ref a_from, .ref a_begin, .ref a_motor, .ref a_change, .ref a_startFrame, .ref a_changeFrame, .ref a_lostAt, .ref a_blackAt, .ref a_slips, .ref a_leftArc, .ref a_died, .ref a_arcs, .int m_bestSum, .int m_nearest, .int m_nearestTown, .ref a_there, .ref a_backAt, .ref a_sorted, .ref a_parts, .int m_seed1, .int m_darkNow])), (a_tape, .inl (g.2.2.1, 900, .inl d_tape)), (a_letters, .inl (g.2.2.1, 8, .inl uf_57))] [(a_r, .inl (g.2.2.1, 311, .inl d_r)), (a_st, .inl (g.2.2.1, 44, .inl d_st)), (a_fresh, .inl (g.2.2.1, 311, .inl uf_55))] [2, 3, 4] [0, 1, 5] (m_next l g h0 m_thrown2_1 a_tape 0 p0 u_61 u_62 u_64 u_65 u_66 u_68 u_58 m_trouble2_2 a_letters u_59 m_hasHouse a_r a_fresh a_st a_undone a_kept m_undos m_images a_from a_begin a_motor a_change a_startFrame a_changeFrame a_lostAt a_blackAt a_slips a_leftArc a_died a_arcs m_bestSum m_nearest m_nearestTown a_there a_backAt a_sorted a_parts m_seed1 m_darkNow d_tape uf_57 (iv_w iv_13 (by decide) (by decide)) (iv_w hv_63 (by decide) (by decide)) (iv_w hv_67 (by decide) (by decide))) dX11_house_94 mw489 mw490 mw491 mw5 mw492 rfl 11 rfl rfl 0 _ rfl (by unfold yOk; decide) rfl (Nat.le_of_ble_eq_true rfl) (Nat.le_of_ble_eq_true rfl) (Nat.le_of_ble_eq_true rfl) (Nat.le_of_ble_eq_true rfl) (Nat.le_of_ble_eq_true rfl) rfl rfl (by decide) rfl (by decide) (by decide) ?_
          rintro w ⟨m_at2_279, m_end2_280, d_letters2_281, m_nameSize2_282, m_token2_283, m_whole2_284, iv_286, iv_287, hq_288, hq_289, hk_290, rfl⟩
          refine k_ws [(a_r, .inl (g.2.2.1, 311, .inl d_r)), (a_st, .inl (g.2.2.1, 44, .inl d_st)), (a_fresh, .inl (g.2.2.1, 311, .inl uf_55)), (h0, .inr (11, [.int m_thrown2_1, .ref a_tape, .int 0, .int p0, .int m_at2_279, .int m_end2_280, .int m_token2_283, .int m_whole2_284, .int m_nameSize2_282, .int u_68, .int u_58, .int m_trouble2_2, .ref a_letters, .int u_59, .int m_hasHouse, .ref a_r, .ref a_fresh, .ref a_st, .ref a_undone, .ref a_kept, .int m_undos, .int m_images, .ref a_from, .ref a_begin, .ref a_motor, .ref a_change, .ref a_startFrame, .ref a_changeFrame, .ref a_lostAt, .ref a_blackAt, .ref a_slips, .ref a_leftArc, .ref a_died, .ref a_arcs, .int m_bestSum, .int m_nearest, .int m_nearestTown, .ref a_there, .ref a_backAt, .ref a_sorted, .ref a_parts, .int m_seed1, .int m_darkNow])), (a_tape, .inl (g.2.2.1, 900, .inl d_tape)), (a_letters, .inl (g.2.2.1, 8, .inl d_letters2_281))] rfl ?_
          refine k_aload_n X dX11_house_97 1 rfl ?_
          refine k_callVV (n := 0) (As := []) (st := []) X [(h0, .inr (11, [.int m_thrown2_1, .ref a_tape, .int 0, .int p0, .int m_at2_279, .int m_end2_280, .int m_token2_283, .int m_whole2_284, .int m_nameSize2_282, .int u_68, .int u_58, .int m_trouble2_2, .ref a_letters, .int u_59, .int m_hasHouse, .ref a_r, .ref a_fresh, .ref a_st, .ref a_undone, .ref a_kept, .int m_undos, .int m_images, .ref a_from, .ref a_begin, .ref a_motor, .ref a_change, .ref a_startFrame, .ref a_changeFrame, .ref a_lostAt, .ref a_blackAt, .ref a_slips, .ref a_leftArc, .ref a_died, .ref a_arcs, .int m_bestSum, .int m_nearest, .int m_nearestTown, .ref a_there, .ref a_backAt, .ref a_sorted, .ref a_parts, .int m_seed1, .int m_darkNow])), (a_tape, .inl (g.2.2.1, 900, .inl d_tape)), (a_letters, .inl (g.2.2.1, 8, .inl d_letters2_281)), (a_fresh, .inl (g.2.2.1, 311, .inl uf_55))] [(a_r, .inl (g.2.2.1, 311, .inl d_r)), (a_st, .inl (g.2.2.1, 44, .inl d_st))] [3, 4, 5, 2] [0, 1] (m_readLine l g h0 m_thrown2_1 a_tape 0 p0 m_at2_279 m_end2_280 m_token2_283 m_whole2_284 m_nameSize2_282 u_68 u_58 m_trouble2_2 a_letters u_59 m_hasHouse a_r a_fresh a_st a_undone a_kept m_undos m_images a_from a_begin a_motor a_change a_startFrame a_changeFrame a_lostAt a_blackAt a_slips a_leftArc a_died a_arcs m_bestSum m_nearest m_nearestTown a_there a_backAt a_sorted a_parts m_seed1 m_darkNow d_tape d_letters2_281 uf_55 (iv_w iv_13 (by decide) (by decide)) (iv_w iv_286 (by decide) (by decide)) (iv_w iv_287 (by decide) (by decide)) (iv_w iv_81 (by decide) (by decide)) hp_56 hk_290) dX11_house_98 mw505 mw506 mw507 mw5 mw508 rfl 11 rfl rfl 0 _ rfl (by unfold yOk; decide) rfl (Nat.le_of_ble_eq_true rfl) (Nat.le_of_ble_eq_true rfl) (Nat.le_of_ble_eq_true rfl) (Nat.le_of_ble_eq_true rfl) (Nat.le_of_ble_eq_true rfl) rfl rfl (by decide) rfl (by decide) (by decide) ?_
          rintro w ⟨m_at2_291, m_end2_292, m_failed2_293, m_fault2_294, d_fresh2_295, d_letters2_296, m_nameSize2_297, m_place2_298, m_token2_299, m_whole2_300, iv_302, iv_303, iv_304, hp_305, hq_306, hq_307, hk_308, rfl⟩
          refine k_ws [(a_r, .inl (g.2.2.1, 311, .inl d_r)), (a_st, .inl (g.2.2.1, 44, .inl d_st)), (h0, .inr (11, [.int m_thrown2_1, .ref a_tape, .int 0, .int p0, .int m_at2_291, .int m_end2_292, .int m_token2_299, .int m_whole2_300, .int m_nameSize2_297, .int m_fault2_294, .int m_place2_298, .int m_trouble2_2, .ref a_letters, .int m_failed2_293, .int m_hasHouse, .ref a_r, .ref a_fresh, .ref a_st, .ref a_undone, .ref a_kept, .int m_undos, .int m_images, .ref a_from, .ref a_begin, .ref a_motor, .ref a_change, .ref a_startFrame, .ref a_changeFrame, .ref a_lostAt, .ref a_blackAt, .ref a_slips, .ref a_leftArc, .ref a_died, .ref a_arcs, .int m_bestSum, .int m_nearest, .int m_nearestTown, .ref a_there, .ref a_backAt, .ref a_sorted, .ref a_parts, .int m_seed1, .int m_darkNow])), (a_tape, .inl (g.2.2.1, 900, .inl d_tape)), (a_letters, .inl (g.2.2.1, 8, .inl d_letters2_296)), (a_fresh, .inl (g.2.2.1, 311, .inl d_fresh2_295))] rfl ?_
          refine k_goto 77 X dX11_house_101 (by decide) ?_
          exact ih_72 _ (by omega) d_fresh2_295 d_letters2_296 m_place2_298 m_failed2_293 m_at2_291 m_end2_292 m_token2_299 m_whole2_300 m_nameSize2_297 m_fault2_294 rfl hp_305 (iv_w iv_303 (by decide) (by decide)) (iv_w iv_302 (by decide) (by decide)) (iv_w iv_304 (by decide) (by decide)) hk_308
    · skip
      have j_309 : u_17.toInt < 311 := iv_nle h_22
      have iv_310 : IV u_17 0 310 := iv_ltL (iv_nle h_22) hv_18 (show IV 311 311 311 from (by decide)) (by decide)
      refine k_aload_n X dX11_house_46 1 rfl ?_
      refine k_get (ci := 11) X inlX11 rfl 16 (by decide) dX11_house_47 mw171 5 rfl rfl ?_
      refine k_iload_n X dX11_house_50 0 rfl ?_
      refine k_iconst (v := 0) X dX11_house_51 (by decide) ?_
      refine k_iast [(a_tape, .inl (g.2.2.1, 900, .inl d_tape)), (a_letters, .inl (g.2.2.1, 8, .inl d_letters)), (a_r, .inl (g.2.2.1, 311, .inl d_r)), (a_fresh, .inl (g.2.2.1, 311, .inl (upd uf_15 (u_17 : Int32).toNatClampNeg 0))), (a_st, .inl (g.2.2.1, 44, .inl d_st)), (h0, .inr (11, [.int m_thrown2_1, .ref a_tape, .int 0, .int m_size, .int m_at, .int m_end, .int m_token, .int m_whole, .int m_nameSize, .int 0, .int m_place, .int m_trouble2_2, .ref a_letters, .int 0, .int m_hasHouse, .ref a_r, .ref a_fresh, .ref a_st, .ref a_undone, .ref a_kept, .int m_undos, .int m_images, .ref a_from, .ref a_begin, .ref a_motor, .ref a_change, .ref a_startFrame, .ref a_changeFrame, .ref a_lostAt, .ref a_blackAt, .ref a_slips, .ref a_leftArc, .ref a_died, .ref a_arcs, .int m_bestSum, .int m_nearest, .int m_nearestTown, .ref a_there, .ref a_backAt, .ref a_sorted, .ref a_parts, .int m_seed1, .int m_darkNow]))] X dX11_house_52 3 rfl (iv_in iv_310 (by decide) (by decide)) rfl ?_
      refine (fun hg : ∀ fa_311 : Nat → Int32, RInv fa_311 → Wk p l e _ s m args below meth c _ A g _ _ _ [(a_tape, .inl (g.2.2.1, 900, .inl d_tape)), (a_letters, .inl (g.2.2.1, 8, .inl d_letters)), (a_r, .inl (g.2.2.1, 311, .inl d_r)), (a_fresh, .inl (g.2.2.1, 311, .inl fa_311)), (a_st, .inl (g.2.2.1, 44, .inl d_st)), (h0, .inr (11, [.int m_thrown2_1, .ref a_tape, .int 0, .int m_size, .int m_at, .int m_end, .int m_token, .int m_whole, .int m_nameSize, .int 0, .int m_place, .int m_trouble2_2, .ref a_letters, .int 0, .int m_hasHouse, .ref a_r, .ref a_fresh, .ref a_st, .ref a_undone, .ref a_kept, .int m_undos, .int m_images, .ref a_from, .ref a_begin, .ref a_motor, .ref a_change, .ref a_startFrame, .ref a_changeFrame, .ref a_lostAt, .ref a_blackAt, .ref a_slips, .ref a_leftArc, .ref a_died, .ref a_arcs, .int m_bestSum, .int m_nearest, .int m_nearestTown, .ref a_there, .ref a_backAt, .ref a_sorted, .ref a_parts, .int m_seed1, .int m_darkNow]))] _ _ _ => hg _ (w_zero hp_16)) (fun fa_311 hR_312 => ?_)
      obtain ⟨z_314, ez_314⟩ : ∃ y : Int32, u_17 + Int32.ofInt 1 = y := ⟨_, rfl⟩
      refine k_iinc z_314 [(2, .int z_314), (0, .ref h0), (1, .int p0)] 0 X dX11_house_53 rfl ez_314 (by decide) rfl ?_
      have i_315 : z_314.toInt = u_17.toInt + 1 := in_inc ez_314 (by decide) iv_310 (by decide) (by decide)
      have iv_316 : IV z_314 1 311 := by have := iv_310; rw [IV, i_315]; omega
      refine k_goto 39 X dX11_house_56 (by decide) ?_
      exact ih_21 _ (by omega) fa_311 z_314 rfl hR_312 (iv_w iv_316 (by decide) (by decide))
  · skip
    have iv_317 : IV r_4 0 0 := iv_meet iv_5 (iv_e h_8 (show IV 0 0 0 from (by decide))) (by decide) (by decide)
    have hc_318 := hk_7 (iv_eq iv_317 (show IV 0 0 0 from (by decide)))
    have j_319 : p0.toInt < 0 ∨ m_taped.toInt < p0.toInt := hc_318
    refine k_aload_n X dX11_house_16 0 rfl ?_
    refine k_iconst (v := 2) X dX11_house_17 (by decide) ?_
    refine k_callVI (n := 1) (As := [.int 2]) (st := []) X [(h0, .inr (11, [.int m_thrown2_1, .ref a_tape, .int m_taped, .int m_size, .int m_at, .int m_end, .int m_token, .int m_whole, .int m_nameSize, .int m_fault, .int m_place, .int m_trouble2_2, .ref a_letters, .int m_failed, .int m_hasHouse, .ref a_r, .ref a_fresh, .ref a_st, .ref a_undone, .ref a_kept, .int m_undos, .int m_images, .ref a_from, .ref a_begin, .ref a_motor, .ref a_change, .ref a_startFrame, .ref a_changeFrame, .ref a_lostAt, .ref a_blackAt, .ref a_slips, .ref a_leftArc, .ref a_died, .ref a_arcs, .int m_bestSum, .int m_nearest, .int m_nearestTown, .ref a_there, .ref a_backAt, .ref a_sorted, .ref a_parts, .int m_seed1, .int m_darkNow]))] [(a_tape, .inl (g.2.2.1, 900, .inl d_tape)), (a_letters, .inl (g.2.2.1, 8, .inl d_letters)), (a_r, .inl (g.2.2.1, 311, .inl d_r)), (a_fresh, .inl (g.2.2.1, 311, .inl d_fresh)), (a_st, .inl (g.2.2.1, 44, .inl d_st))] [5] [0, 1, 2, 3, 4] (m_no l g h0 2 m_thrown2_1 a_tape m_taped m_size m_at m_end m_token m_whole m_nameSize m_fault m_place m_trouble2_2 a_letters m_failed m_hasHouse a_r a_fresh a_st a_undone a_kept m_undos m_images a_from a_begin a_motor a_change a_startFrame a_changeFrame a_lostAt a_blackAt a_slips a_leftArc a_died a_arcs m_bestSum m_nearest m_nearestTown a_there a_backAt a_sorted a_parts m_seed1 m_darkNow) dX11_house_18 mw485 mw486 mw487 mw5 mw488 rfl 11 rfl rfl 0 _ rfl (by unfold yOk; decide) rfl (Nat.le_of_ble_eq_true rfl) (Nat.le_of_ble_eq_true rfl) (Nat.le_of_ble_eq_true rfl) (Nat.le_of_ble_eq_true rfl) (Nat.le_of_ble_eq_true rfl) rfl rfl (by decide) rfl (by decide) (by decide) ?_
    rintro r_321 w ⟨m_trouble2_320, iv_322, rfl⟩
    refine k_ws [(a_tape, .inl (g.2.2.1, 900, .inl d_tape)), (a_letters, .inl (g.2.2.1, 8, .inl d_letters)), (a_r, .inl (g.2.2.1, 311, .inl d_r)), (a_fresh, .inl (g.2.2.1, 311, .inl d_fresh)), (a_st, .inl (g.2.2.1, 44, .inl d_st)), (h0, .inr (11, [.int m_thrown2_1, .ref a_tape, .int m_taped, .int m_size, .int m_at, .int m_end, .int m_token, .int m_whole, .int m_nameSize, .int m_fault, .int m_place, .int m_trouble2_320, .ref a_letters, .int m_failed, .int m_hasHouse, .ref a_r, .ref a_fresh, .ref a_st, .ref a_undone, .ref a_kept, .int m_undos, .int m_images, .ref a_from, .ref a_begin, .ref a_motor, .ref a_change, .ref a_startFrame, .ref a_changeFrame, .ref a_lostAt, .ref a_blackAt, .ref a_slips, .ref a_leftArc, .ref a_died, .ref a_arcs, .int m_bestSum, .int m_nearest, .int m_nearestTown, .ref a_there, .ref a_backAt, .ref a_sorted, .ref a_parts, .int m_seed1, .int m_darkNow]))] rfl ?_
    exact k_iret X hr dX11_house_21 (Nat.le_of_ble_eq_true rfl) (Nat.le_of_ble_eq_true rfl) [5, 0, 1, 2, 3, 4] (by decide) rfl rfl ⟨m_at, m_end, m_failed, m_fault, d_fresh, m_hasHouse, m_images, d_letters, m_nameSize, m_place, d_r, m_size, d_st, m_taped, m_thrown2_1, m_token, m_trouble2_320, m_undos, m_whole, (iv_w hv_m_end (by decide) (by decide)), (iv_w hv_m_failed (by decide) (by decide)), (iv_w hv_m_hasHouse (by decide) (by decide)), (iv_w hv_m_images (by decide) (by decide)), (iv_w hv_m_nameSize (by decide) (by decide)), (iv_w hv_m_size (by decide) (by decide)), (iv_w hv_m_taped (by decide) (by decide)), (iv_w hv_m_undos (by decide) (by decide)), hp_d_r, hp_d_fresh, (by refine ⟨fun q => ?_, fun q => ?_⟩ <;> first | rfl | (exfalso; omega)), rfl⟩
