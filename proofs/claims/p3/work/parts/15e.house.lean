
set_option maxHeartbeats 4000000 in
set_option maxRecDepth 100000 in
theorem m_copyR (l : Launch) (g : Gx) (fa : Nat) (ta : Nat) (f1 : Nat → Int32) (f2 : Nat → Int32) (hp_f1 : RInv f1) : cV l g yX11_copy cX11_copy 6 0 0 0 0 [.ref fa, .int 0, .ref ta, .int 0, .int 311] [(fa, .inl (g.2.2.1, 311, .inl f1)), (ta, .inl (g.2.2.1, 311, .inl f2))] (fun w => ∃ (f3 : Nat → Int32), (RInv f3) ∧ (TRI f1 → TRI f3) ∧ w = [(fa, .inl (g.2.2.1, 311, .inl f1)), (ta, .inl (g.2.2.1, 311, .inl f3))]) := by
  refine cV.of (by decide) (Nat.le_of_ble_eq_true rfl) ?_
  intro p e s m args below meth c A X hr hi
  refine k_lveq [(0, .ref fa), (1, .int 0), (2, .ref ta), (3, .int 0), (4, .int 311)] rfl ?_
  refine k_iconst (v := 0) X dX11_copy_0 (by decide) ?_
  refine k_istore [(5, .int 0), (0, .ref fa), (1, .int 0), (2, .ref ta), (3, .int 0), (4, .int 311)] X dX11_copy_1 (by decide) rfl ?_
  refine (fun hL : ∀ (nn_5 : Nat) (uf_1 : Nat → Int32) (u_2 : Int32), (311 - u_2.toInt).toNat = nn_5 → (IV u_2 0 900) → (∀ i : Nat, i < u_2.toInt.toNat → uf_1 i = f1 i) → Wk p l e _ s m args below meth c _ A g _ _ _ [(fa, .inl (g.2.2.1, 311, .inl f1)), (ta, .inl (g.2.2.1, 311, .inl uf_1))] [(5, .int u_2), (0, .ref fa), (1, .int 0), (2, .ref ta), (3, .int 0), (4, .int 311)] 3 [] => hL _ f2 0 rfl (iv_w (show IV 0 0 0 from (by decide)) (by decide) (by decide)) (cp_0)) ?_
  refine fun nn_5 => Nat.strongRecOn nn_5 (fun nn_5 ih_7 => ?_)
  intro uf_1 u_2 hm_6 hv_3 hx_4
  refine k_iload X dX11_copy_3 0 rfl ?_
  refine k_iload X dX11_copy_5 5 rfl ?_
  refine k_ic_ge 28 X dX11_copy_7 (by decide) (fun h_8 => ?_) (fun h_8 => ?_)
  · skip
    have j_9 : 311 ≤ u_2.toInt := iv_le h_8
    have iv_10 : IV u_2 311 900 := iv_leR (iv_le h_8) (show IV 311 311 311 from (by decide)) hv_3 (by decide)
    exact k_vret X hr dX11_copy_28 (Nat.le_of_ble_eq_true rfl) (Nat.le_of_ble_eq_true rfl) [0, 1] (by decide) rfl rfl ⟨uf_1, (rinv_cp hp_f1 (by assumption) (by omega)), (fun hT => tri_cp hT hp_f1 (by assumption) (by omega)), rfl⟩
  · skip
    have j_11 : u_2.toInt < 311 := iv_nle h_8
    have iv_12 : IV u_2 0 310 := iv_ltL (iv_nle h_8) hv_3 (show IV 311 311 311 from (by decide)) (by decide)
    refine k_aload_n X dX11_copy_10 3 rfl ?_
    refine k_iload_n X dX11_copy_11 4 rfl ?_
    refine k_iload X dX11_copy_12 0 rfl ?_
    refine k_iadd X dX11_copy_14 ?_
    refine k_nm (fun z_13 ez_13 => ?_)
    have i_14 : z_13.toInt = 0 + u_2.toInt := in_add ez_13 (show IV 0 0 0 from (by decide)) iv_12 (by decide) (by decide)
    have iv_15 : IV z_13 0 310 := by have := (show IV 0 0 0 from (by decide)); have := iv_12; rw [IV, i_14]; omega
    refine k_aload_n X dX11_copy_15 1 rfl ?_
    refine k_iload_n X dX11_copy_16 2 rfl ?_
    refine k_iload X dX11_copy_17 0 rfl ?_
    refine k_iadd X dX11_copy_19 ?_
    refine k_to z_13 ez_13.symm ?_
    refine k_iald X dX11_copy_20 0 rfl (iv_in iv_15 (by decide) (by decide)) ?_
    refine k_nm (fun z_16 ez_16 => ?_)
    refine k_iast [(fa, .inl (g.2.2.1, 311, .inl f1)), (ta, .inl (g.2.2.1, 311, .inl (upd uf_1 (z_13 : Int32).toNatClampNeg z_16)))] X dX11_copy_21 1 rfl (iv_in iv_15 (by decide) (by decide)) rfl ?_
    obtain ⟨z_18, ez_18⟩ : ∃ y : Int32, u_2 + Int32.ofInt 1 = y := ⟨_, rfl⟩
    refine k_iinc z_18 [(5, .int z_18), (0, .ref fa), (1, .int 0), (2, .ref ta), (3, .int 0), (4, .int 311)] 0 X dX11_copy_22 rfl ez_18 (by decide) rfl ?_
    have i_19 : z_18.toInt = u_2.toInt + 1 := in_inc ez_18 (by decide) iv_12 (by decide) (by decide)
    have iv_20 : IV z_18 1 311 := by have := iv_12; rw [IV, i_19]; omega
    refine k_goto 3 X dX11_copy_25 (by decide) ?_
    exact ih_7 _ (by omega) ((upd uf_1 (z_13 : Int32).toNatClampNeg z_16)) z_18 rfl (iv_w iv_20 (by decide) (by decide)) (cp_step (by assumption) (by assumption) (by assumption) (by assumption) (by have := (by assumption : IV _ _ _); omega))

theorem dX11_house_0 : decode cX11_house 0 = .ok (.aload_n 0, 1) := by decide +kernel
theorem dX11_house_1 : decode cX11_house 1 = .ok (.invokevirtual 200, 3) := by decide +kernel
theorem dX11_house_4 : decode cX11_house 4 = .ok (.iload_n 1, 1) := by decide +kernel
theorem dX11_house_5 : decode cX11_house 5 = .ok (.iconst 0, 1) := by decide +kernel
theorem dX11_house_6 : decode cX11_house 6 = .ok (.aload_n 0, 1) := by decide +kernel
theorem dX11_house_7 : decode cX11_house 7 = .ok (.getfield 89, 3) := by decide +kernel
theorem dX11_house_10 : decode cX11_house 10 = .ok (.invokestatic 182, 3) := by decide +kernel
theorem dX11_house_13 : decode cX11_house 13 = .ok (.ifCond .ne 9, 3) := by decide +kernel
theorem dX11_house_16 : decode cX11_house 16 = .ok (.aload_n 0, 1) := by decide +kernel
theorem dX11_house_17 : decode cX11_house 17 = .ok (.iconst 2, 1) := by decide +kernel
theorem dX11_house_18 : decode cX11_house 18 = .ok (.invokevirtual 203, 3) := by decide +kernel
theorem dX11_house_21 : decode cX11_house 21 = .ok (.ireturn, 1) := by decide +kernel
theorem dX11_house_22 : decode cX11_house 22 = .ok (.aload_n 0, 1) := by decide +kernel
theorem dX11_house_23 : decode cX11_house 23 = .ok (.iconst 0, 1) := by decide +kernel
theorem dX11_house_24 : decode cX11_house 24 = .ok (.putfield 89, 3) := by decide +kernel
theorem dX11_house_27 : decode cX11_house 27 = .ok (.aload_n 0, 1) := by decide +kernel
theorem dX11_house_28 : decode cX11_house 28 = .ok (.iconst 0, 1) := by decide +kernel
theorem dX11_house_29 : decode cX11_house 29 = .ok (.putfield 125, 3) := by decide +kernel
theorem dX11_house_32 : decode cX11_house 32 = .ok (.aload_n 0, 1) := by decide +kernel
theorem dX11_house_33 : decode cX11_house 33 = .ok (.iconst 0, 1) := by decide +kernel
theorem dX11_house_34 : decode cX11_house 34 = .ok (.putfield 121, 3) := by decide +kernel
theorem dX11_house_37 : decode cX11_house 37 = .ok (.iconst 0, 1) := by decide +kernel
theorem dX11_house_38 : decode cX11_house 38 = .ok (.istore_n 2, 1) := by decide +kernel
theorem dX11_house_39 : decode cX11_house 39 = .ok (.iload_n 2, 1) := by decide +kernel
theorem dX11_house_40 : decode cX11_house 40 = .ok (.sipush 311, 3) := by decide +kernel
theorem dX11_house_43 : decode cX11_house 43 = .ok (.if_icmp .ge 16, 3) := by decide +kernel
theorem dX11_house_46 : decode cX11_house 46 = .ok (.aload_n 0, 1) := by decide +kernel
theorem dX11_house_47 : decode cX11_house 47 = .ok (.getfield 23, 3) := by decide +kernel
theorem dX11_house_50 : decode cX11_house 50 = .ok (.iload_n 2, 1) := by decide +kernel
theorem dX11_house_51 : decode cX11_house 51 = .ok (.iconst 0, 1) := by decide +kernel
theorem dX11_house_52 : decode cX11_house 52 = .ok (.iastore, 1) := by decide +kernel
theorem dX11_house_53 : decode cX11_house 53 = .ok (.iinc 2 1, 3) := by decide +kernel
theorem dX11_house_56 : decode cX11_house 56 = .ok (.goto (-17), 3) := by decide +kernel
theorem dX11_house_59 : decode cX11_house 59 = .ok (.aload_n 0, 1) := by decide +kernel
theorem dX11_house_60 : decode cX11_house 60 = .ok (.iload_n 1, 1) := by decide +kernel
theorem dX11_house_61 : decode cX11_house 61 = .ok (.putfield 92, 3) := by decide +kernel
theorem dX11_house_64 : decode cX11_house 64 = .ok (.aload_n 0, 1) := by decide +kernel
theorem dX11_house_65 : decode cX11_house 65 = .ok (.iconst 0, 1) := by decide +kernel
theorem dX11_house_66 : decode cX11_house 66 = .ok (.putfield 95, 3) := by decide +kernel
theorem dX11_house_69 : decode cX11_house 69 = .ok (.aload_n 0, 1) := by decide +kernel
theorem dX11_house_70 : decode cX11_house 70 = .ok (.invokevirtual 142, 3) := by decide +kernel
theorem dX11_house_73 : decode cX11_house 73 = .ok (.aload_n 0, 1) := by decide +kernel
theorem dX11_house_74 : decode cX11_house 74 = .ok (.invokevirtual 206, 3) := by decide +kernel
theorem dX11_house_77 : decode cX11_house 77 = .ok (.aload_n 0, 1) := by decide +kernel
theorem dX11_house_78 : decode cX11_house 78 = .ok (.getfield 121, 3) := by decide +kernel
theorem dX11_house_81 : decode cX11_house 81 = .ok (.ifCond .ne 23, 3) := by decide +kernel
theorem dX11_house_84 : decode cX11_house 84 = .ok (.aload_n 0, 1) := by decide +kernel
theorem dX11_house_85 : decode cX11_house 85 = .ok (.getfield 111, 3) := by decide +kernel
theorem dX11_house_88 : decode cX11_house 88 = .ok (.bipush 59, 2) := by decide +kernel
theorem dX11_house_90 : decode cX11_house 90 = .ok (.if_icmp .ne 14, 3) := by decide +kernel
theorem dX11_house_93 : decode cX11_house 93 = .ok (.aload_n 0, 1) := by decide +kernel
theorem dX11_house_94 : decode cX11_house 94 = .ok (.invokevirtual 142, 3) := by decide +kernel
theorem dX11_house_97 : decode cX11_house 97 = .ok (.aload_n 0, 1) := by decide +kernel
theorem dX11_house_98 : decode cX11_house 98 = .ok (.invokevirtual 206, 3) := by decide +kernel
theorem dX11_house_101 : decode cX11_house 101 = .ok (.goto (-24), 3) := by decide +kernel
theorem dX11_house_104 : decode cX11_house 104 = .ok (.aload_n 0, 1) := by decide +kernel
theorem dX11_house_105 : decode cX11_house 105 = .ok (.getfield 121, 3) := by decide +kernel
theorem dX11_house_108 : decode cX11_house 108 = .ok (.ifCond .ne 19, 3) := by decide +kernel
theorem dX11_house_111 : decode cX11_house 111 = .ok (.aload_n 0, 1) := by decide +kernel
theorem dX11_house_112 : decode cX11_house 112 = .ok (.getfield 111, 3) := by decide +kernel
theorem dX11_house_115 : decode cX11_house 115 = .ok (.ifCond .eq 12, 3) := by decide +kernel
theorem dX11_house_118 : decode cX11_house 118 = .ok (.aload_n 0, 1) := by decide +kernel
theorem dX11_house_119 : decode cX11_house 119 = .ok (.iconst 1, 1) := by decide +kernel
theorem dX11_house_120 : decode cX11_house 120 = .ok (.aload_n 0, 1) := by decide +kernel
theorem dX11_house_121 : decode cX11_house 121 = .ok (.getfield 102, 3) := by decide +kernel
theorem dX11_house_124 : decode cX11_house 124 = .ok (.invokevirtual 148, 3) := by decide +kernel
theorem dX11_house_127 : decode cX11_house 127 = .ok (.aload_n 0, 1) := by decide +kernel
theorem dX11_house_128 : decode cX11_house 128 = .ok (.getfield 121, 3) := by decide +kernel
theorem dX11_house_131 : decode cX11_house 131 = .ok (.ifCond .ne 43, 3) := by decide +kernel
theorem dX11_house_134 : decode cX11_house 134 = .ok (.aload_n 0, 1) := by decide +kernel
theorem dX11_house_135 : decode cX11_house 135 = .ok (.getfield 23, 3) := by decide +kernel
theorem dX11_house_138 : decode cX11_house 138 = .ok (.bipush 15, 2) := by decide +kernel
theorem dX11_house_140 : decode cX11_house 140 = .ok (.iaload, 1) := by decide +kernel
theorem dX11_house_141 : decode cX11_house 141 = .ok (.ifCond .eq 23, 3) := by decide +kernel
theorem dX11_house_144 : decode cX11_house 144 = .ok (.aload_n 0, 1) := by decide +kernel
theorem dX11_house_145 : decode cX11_house 145 = .ok (.getfield 23, 3) := by decide +kernel
theorem dX11_house_148 : decode cX11_house 148 = .ok (.bipush 12, 2) := by decide +kernel
theorem dX11_house_150 : decode cX11_house 150 = .ok (.iaload, 1) := by decide +kernel
theorem dX11_house_151 : decode cX11_house 151 = .ok (.ifCond .eq 13, 3) := by decide +kernel
theorem dX11_house_154 : decode cX11_house 154 = .ok (.aload_n 0, 1) := by decide +kernel
theorem dX11_house_155 : decode cX11_house 155 = .ok (.getfield 23, 3) := by decide +kernel
theorem dX11_house_158 : decode cX11_house 158 = .ok (.bipush 11, 2) := by decide +kernel
theorem dX11_house_160 : decode cX11_house 160 = .ok (.iaload, 1) := by decide +kernel
theorem dX11_house_161 : decode cX11_house 161 = .ok (.ifCond .ne 13, 3) := by decide +kernel
theorem dX11_house_164 : decode cX11_house 164 = .ok (.aload_n 0, 1) := by decide +kernel
theorem dX11_house_165 : decode cX11_house 165 = .ok (.bipush 6, 2) := by decide +kernel
theorem dX11_house_167 : decode cX11_house 167 = .ok (.aload_n 0, 1) := by decide +kernel
theorem dX11_house_168 : decode cX11_house 168 = .ok (.getfield 102, 3) := by decide +kernel
theorem dX11_house_171 : decode cX11_house 171 = .ok (.invokevirtual 148, 3) := by decide +kernel
theorem dX11_house_174 : decode cX11_house 174 = .ok (.aload_n 0, 1) := by decide +kernel
theorem dX11_house_175 : decode cX11_house 175 = .ok (.getfield 121, 3) := by decide +kernel
theorem dX11_house_178 : decode cX11_house 178 = .ok (.ifCond .eq 9, 3) := by decide +kernel
theorem dX11_house_181 : decode cX11_house 181 = .ok (.aload_n 0, 1) := by decide +kernel
theorem dX11_house_182 : decode cX11_house 182 = .ok (.iconst 4, 1) := by decide +kernel
theorem dX11_house_183 : decode cX11_house 183 = .ok (.invokevirtual 203, 3) := by decide +kernel
theorem dX11_house_186 : decode cX11_house 186 = .ok (.ireturn, 1) := by decide +kernel
theorem dX11_house_187 : decode cX11_house 187 = .ok (.aload_n 0, 1) := by decide +kernel
theorem dX11_house_188 : decode cX11_house 188 = .ok (.getfield 23, 3) := by decide +kernel
theorem dX11_house_191 : decode cX11_house 191 = .ok (.iconst 0, 1) := by decide +kernel
theorem dX11_house_192 : decode cX11_house 192 = .ok (.aload_n 0, 1) := by decide +kernel
theorem dX11_house_193 : decode cX11_house 193 = .ok (.getfield 20, 3) := by decide +kernel
theorem dX11_house_196 : decode cX11_house 196 = .ok (.iconst 0, 1) := by decide +kernel
theorem dX11_house_197 : decode cX11_house 197 = .ok (.sipush 311, 3) := by decide +kernel
theorem dX11_house_200 : decode cX11_house 200 = .ok (.invokestatic 209, 3) := by decide +kernel
theorem dX11_house_203 : decode cX11_house 203 = .ok (.iconst 0, 1) := by decide +kernel
theorem dX11_house_204 : decode cX11_house 204 = .ok (.istore_n 2, 1) := by decide +kernel
theorem dX11_house_205 : decode cX11_house 205 = .ok (.iload_n 2, 1) := by decide +kernel
theorem dX11_house_206 : decode cX11_house 206 = .ok (.bipush 44, 2) := by decide +kernel
theorem dX11_house_208 : decode cX11_house 208 = .ok (.if_icmp .ge 16, 3) := by decide +kernel
theorem dX11_house_211 : decode cX11_house 211 = .ok (.aload_n 0, 1) := by decide +kernel
theorem dX11_house_212 : decode cX11_house 212 = .ok (.getfield 26, 3) := by decide +kernel
theorem dX11_house_215 : decode cX11_house 215 = .ok (.iload_n 2, 1) := by decide +kernel
theorem dX11_house_216 : decode cX11_house 216 = .ok (.iconst 0, 1) := by decide +kernel
theorem dX11_house_217 : decode cX11_house 217 = .ok (.iastore, 1) := by decide +kernel
theorem dX11_house_218 : decode cX11_house 218 = .ok (.iinc 2 1, 3) := by decide +kernel
theorem dX11_house_221 : decode cX11_house 221 = .ok (.goto (-16), 3) := by decide +kernel
theorem dX11_house_224 : decode cX11_house 224 = .ok (.iconst 0, 1) := by decide +kernel
theorem dX11_house_225 : decode cX11_house 225 = .ok (.istore_n 2, 1) := by decide +kernel
theorem dX11_house_226 : decode cX11_house 226 = .ok (.iload_n 2, 1) := by decide +kernel
theorem dX11_house_227 : decode cX11_house 227 = .ok (.aload_n 0, 1) := by decide +kernel
theorem dX11_house_228 : decode cX11_house 228 = .ok (.getfield 20, 3) := by decide +kernel
theorem dX11_house_231 : decode cX11_house 231 = .ok (.bipush 6, 2) := by decide +kernel
theorem dX11_house_233 : decode cX11_house 233 = .ok (.iaload, 1) := by decide +kernel
theorem dX11_house_234 : decode cX11_house 234 = .ok (.if_icmp .ge 50, 3) := by decide +kernel
theorem dX11_house_237 : decode cX11_house 237 = .ok (.aload_n 0, 1) := by decide +kernel
theorem dX11_house_238 : decode cX11_house 238 = .ok (.getfield 26, 3) := by decide +kernel
theorem dX11_house_241 : decode cX11_house 241 = .ok (.iconst 0, 1) := by decide +kernel
theorem dX11_house_242 : decode cX11_house 242 = .ok (.iload_n 2, 1) := by decide +kernel
theorem dX11_house_243 : decode cX11_house 243 = .ok (.iadd, 1) := by decide +kernel
theorem dX11_house_244 : decode cX11_house 244 = .ok (.aload_n 0, 1) := by decide +kernel
theorem dX11_house_245 : decode cX11_house 245 = .ok (.getfield 20, 3) := by decide +kernel
theorem dX11_house_248 : decode cX11_house 248 = .ok (.bipush 16, 2) := by decide +kernel
theorem dX11_house_250 : decode cX11_house 250 = .ok (.iconst 3, 1) := by decide +kernel
theorem dX11_house_251 : decode cX11_house 251 = .ok (.iload_n 2, 1) := by decide +kernel
theorem dX11_house_252 : decode cX11_house 252 = .ok (.imul, 1) := by decide +kernel
theorem dX11_house_253 : decode cX11_house 253 = .ok (.iadd, 1) := by decide +kernel
theorem dX11_house_254 : decode cX11_house 254 = .ok (.iaload, 1) := by decide +kernel
theorem dX11_house_255 : decode cX11_house 255 = .ok (.iastore, 1) := by decide +kernel
theorem dX11_house_256 : decode cX11_house 256 = .ok (.aload_n 0, 1) := by decide +kernel
theorem dX11_house_257 : decode cX11_house 257 = .ok (.getfield 26, 3) := by decide +kernel
theorem dX11_house_260 : decode cX11_house 260 = .ok (.bipush 8, 2) := by decide +kernel
theorem dX11_house_262 : decode cX11_house 262 = .ok (.iload_n 2, 1) := by decide +kernel
theorem dX11_house_263 : decode cX11_house 263 = .ok (.iadd, 1) := by decide +kernel
theorem dX11_house_264 : decode cX11_house 264 = .ok (.aload_n 0, 1) := by decide +kernel
theorem dX11_house_265 : decode cX11_house 265 = .ok (.getfield 20, 3) := by decide +kernel
theorem dX11_house_268 : decode cX11_house 268 = .ok (.bipush 16, 2) := by decide +kernel
theorem dX11_house_270 : decode cX11_house 270 = .ok (.iconst 3, 1) := by decide +kernel
theorem dX11_house_271 : decode cX11_house 271 = .ok (.iload_n 2, 1) := by decide +kernel
theorem dX11_house_272 : decode cX11_house 272 = .ok (.imul, 1) := by decide +kernel
theorem dX11_house_273 : decode cX11_house 273 = .ok (.iadd, 1) := by decide +kernel
theorem dX11_house_274 : decode cX11_house 274 = .ok (.iconst 1, 1) := by decide +kernel
theorem dX11_house_275 : decode cX11_house 275 = .ok (.iadd, 1) := by decide +kernel
theorem dX11_house_276 : decode cX11_house 276 = .ok (.iaload, 1) := by decide +kernel
theorem dX11_house_277 : decode cX11_house 277 = .ok (.iastore, 1) := by decide +kernel
theorem dX11_house_278 : decode cX11_house 278 = .ok (.iinc 2 1, 3) := by decide +kernel
theorem dX11_house_281 : decode cX11_house 281 = .ok (.goto (-55), 3) := by decide +kernel
theorem dX11_house_284 : decode cX11_house 284 = .ok (.iconst 0, 1) := by decide +kernel
theorem dX11_house_285 : decode cX11_house 285 = .ok (.istore_n 2, 1) := by decide +kernel
theorem dX11_house_286 : decode cX11_house 286 = .ok (.iload_n 2, 1) := by decide +kernel
theorem dX11_house_287 : decode cX11_house 287 = .ok (.aload_n 0, 1) := by decide +kernel
theorem dX11_house_288 : decode cX11_house 288 = .ok (.getfield 20, 3) := by decide +kernel
theorem dX11_house_291 : decode cX11_house 291 = .ok (.bipush 8, 2) := by decide +kernel
theorem dX11_house_293 : decode cX11_house 293 = .ok (.iaload, 1) := by decide +kernel
theorem dX11_house_294 : decode cX11_house 294 = .ok (.if_icmp .ge 31, 3) := by decide +kernel
theorem dX11_house_297 : decode cX11_house 297 = .ok (.aload_n 0, 1) := by decide +kernel
theorem dX11_house_298 : decode cX11_house 298 = .ok (.getfield 26, 3) := by decide +kernel
theorem dX11_house_301 : decode cX11_house 301 = .ok (.bipush 16, 2) := by decide +kernel
theorem dX11_house_303 : decode cX11_house 303 = .ok (.iload_n 2, 1) := by decide +kernel
theorem dX11_house_304 : decode cX11_house 304 = .ok (.iadd, 1) := by decide +kernel
theorem dX11_house_305 : decode cX11_house 305 = .ok (.aload_n 0, 1) := by decide +kernel
theorem dX11_house_306 : decode cX11_house 306 = .ok (.getfield 20, 3) := by decide +kernel
theorem dX11_house_309 : decode cX11_house 309 = .ok (.bipush 44, 2) := by decide +kernel
theorem dX11_house_311 : decode cX11_house 311 = .ok (.iconst 3, 1) := by decide +kernel
theorem dX11_house_312 : decode cX11_house 312 = .ok (.iload_n 2, 1) := by decide +kernel
theorem dX11_house_313 : decode cX11_house 313 = .ok (.imul, 1) := by decide +kernel
theorem dX11_house_314 : decode cX11_house 314 = .ok (.iadd, 1) := by decide +kernel
theorem dX11_house_315 : decode cX11_house 315 = .ok (.iconst 1, 1) := by decide +kernel
theorem dX11_house_316 : decode cX11_house 316 = .ok (.iadd, 1) := by decide +kernel
theorem dX11_house_317 : decode cX11_house 317 = .ok (.iaload, 1) := by decide +kernel
theorem dX11_house_318 : decode cX11_house 318 = .ok (.iastore, 1) := by decide +kernel
theorem dX11_house_319 : decode cX11_house 319 = .ok (.iinc 2 1, 3) := by decide +kernel
theorem dX11_house_322 : decode cX11_house 322 = .ok (.goto (-36), 3) := by decide +kernel
theorem dX11_house_325 : decode cX11_house 325 = .ok (.iconst 0, 1) := by decide +kernel
theorem dX11_house_326 : decode cX11_house 326 = .ok (.istore_n 2, 1) := by decide +kernel
theorem dX11_house_327 : decode cX11_house 327 = .ok (.iload_n 2, 1) := by decide +kernel
theorem dX11_house_328 : decode cX11_house 328 = .ok (.aload_n 0, 1) := by decide +kernel
theorem dX11_house_329 : decode cX11_house 329 = .ok (.getfield 20, 3) := by decide +kernel
theorem dX11_house_332 : decode cX11_house 332 = .ok (.bipush 10, 2) := by decide +kernel
theorem dX11_house_334 : decode cX11_house 334 = .ok (.iaload, 1) := by decide +kernel
theorem dX11_house_335 : decode cX11_house 335 = .ok (.if_icmp .ge 31, 3) := by decide +kernel
theorem dX11_house_338 : decode cX11_house 338 = .ok (.aload_n 0, 1) := by decide +kernel
theorem dX11_house_339 : decode cX11_house 339 = .ok (.getfield 26, 3) := by decide +kernel
theorem dX11_house_342 : decode cX11_house 342 = .ok (.bipush 28, 2) := by decide +kernel
theorem dX11_house_344 : decode cX11_house 344 = .ok (.iload_n 2, 1) := by decide +kernel
theorem dX11_house_345 : decode cX11_house 345 = .ok (.iadd, 1) := by decide +kernel
theorem dX11_house_346 : decode cX11_house 346 = .ok (.aload_n 0, 1) := by decide +kernel
theorem dX11_house_347 : decode cX11_house 347 = .ok (.getfield 20, 3) := by decide +kernel
theorem dX11_house_350 : decode cX11_house 350 = .ok (.bipush 96, 2) := by decide +kernel
theorem dX11_house_352 : decode cX11_house 352 = .ok (.iconst 3, 1) := by decide +kernel
theorem dX11_house_353 : decode cX11_house 353 = .ok (.iload_n 2, 1) := by decide +kernel
theorem dX11_house_354 : decode cX11_house 354 = .ok (.imul, 1) := by decide +kernel
theorem dX11_house_355 : decode cX11_house 355 = .ok (.iadd, 1) := by decide +kernel
theorem dX11_house_356 : decode cX11_house 356 = .ok (.iconst 1, 1) := by decide +kernel
theorem dX11_house_357 : decode cX11_house 357 = .ok (.iadd, 1) := by decide +kernel
theorem dX11_house_358 : decode cX11_house 358 = .ok (.iaload, 1) := by decide +kernel
theorem dX11_house_359 : decode cX11_house 359 = .ok (.iastore, 1) := by decide +kernel
theorem dX11_house_360 : decode cX11_house 360 = .ok (.iinc 2 1, 3) := by decide +kernel
theorem dX11_house_363 : decode cX11_house 363 = .ok (.goto (-36), 3) := by decide +kernel
theorem dX11_house_366 : decode cX11_house 366 = .ok (.iconst 0, 1) := by decide +kernel
theorem dX11_house_367 : decode cX11_house 367 = .ok (.istore_n 2, 1) := by decide +kernel
theorem dX11_house_368 : decode cX11_house 368 = .ok (.iload_n 2, 1) := by decide +kernel
theorem dX11_house_369 : decode cX11_house 369 = .ok (.aload_n 0, 1) := by decide +kernel
theorem dX11_house_370 : decode cX11_house 370 = .ok (.getfield 20, 3) := by decide +kernel
theorem dX11_house_373 : decode cX11_house 373 = .ok (.bipush 12, 2) := by decide +kernel
theorem dX11_house_375 : decode cX11_house 375 = .ok (.iaload, 1) := by decide +kernel
theorem dX11_house_376 : decode cX11_house 376 = .ok (.if_icmp .ge 24, 3) := by decide +kernel
theorem dX11_house_379 : decode cX11_house 379 = .ok (.aload_n 0, 1) := by decide +kernel
theorem dX11_house_380 : decode cX11_house 380 = .ok (.getfield 26, 3) := by decide +kernel
theorem dX11_house_383 : decode cX11_house 383 = .ok (.bipush 34, 2) := by decide +kernel
theorem dX11_house_385 : decode cX11_house 385 = .ok (.iload_n 2, 1) := by decide +kernel
theorem dX11_house_386 : decode cX11_house 386 = .ok (.iadd, 1) := by decide +kernel
theorem dX11_house_387 : decode cX11_house 387 = .ok (.aload_n 0, 1) := by decide +kernel
theorem dX11_house_388 : decode cX11_house 388 = .ok (.getfield 20, 3) := by decide +kernel
theorem dX11_house_391 : decode cX11_house 391 = .ok (.iconst 2, 1) := by decide +kernel
theorem dX11_house_392 : decode cX11_house 392 = .ok (.iaload, 1) := by decide +kernel
theorem dX11_house_393 : decode cX11_house 393 = .ok (.iastore, 1) := by decide +kernel
theorem dX11_house_394 : decode cX11_house 394 = .ok (.iinc 2 1, 3) := by decide +kernel
theorem dX11_house_397 : decode cX11_house 397 = .ok (.goto (-29), 3) := by decide +kernel
theorem dX11_house_400 : decode cX11_house 400 = .ok (.aload_n 0, 1) := by decide +kernel
theorem dX11_house_401 : decode cX11_house 401 = .ok (.iconst 1, 1) := by decide +kernel
theorem dX11_house_402 : decode cX11_house 402 = .ok (.putfield 213, 3) := by decide +kernel
theorem dX11_house_405 : decode cX11_house 405 = .ok (.aload_n 0, 1) := by decide +kernel
theorem dX11_house_406 : decode cX11_house 406 = .ok (.iconst 0, 1) := by decide +kernel
theorem dX11_house_407 : decode cX11_house 407 = .ok (.putfield 216, 3) := by decide +kernel
theorem dX11_house_410 : decode cX11_house 410 = .ok (.aload_n 0, 1) := by decide +kernel
theorem dX11_house_411 : decode cX11_house 411 = .ok (.iconst 0, 1) := by decide +kernel
theorem dX11_house_412 : decode cX11_house 412 = .ok (.putfield 219, 3) := by decide +kernel
theorem dX11_house_415 : decode cX11_house 415 = .ok (.aload_n 0, 1) := by decide +kernel
theorem dX11_house_416 : decode cX11_house 416 = .ok (.getfield 20, 3) := by decide +kernel
theorem dX11_house_419 : decode cX11_house 419 = .ok (.bipush 12, 2) := by decide +kernel
theorem dX11_house_421 : decode cX11_house 421 = .ok (.iaload, 1) := by decide +kernel
theorem dX11_house_422 : decode cX11_house 422 = .ok (.ireturn, 1) := by decide +kernel
set_option maxHeartbeats 4000000 in
set_option maxRecDepth 100000 in
theorem m_house (l : Launch) (g : Gx) (h0 : Nat) (p0 : Int32) (m_thrown : Int32) (a_tape : Nat) (m_taped : Int32) (m_size : Int32) (m_at : Int32) (m_end : Int32) (m_token : Int32) (m_whole : Int32) (m_nameSize : Int32) (m_fault : Int32) (m_place : Int32) (m_trouble : Int32) (a_letters : Nat) (m_failed : Int32) (m_hasHouse : Int32) (a_r : Nat) (a_fresh : Nat) (a_st : Nat) (a_undone : Nat) (a_kept : Nat) (m_undos : Int32) (m_images : Int32) (a_from : Nat) (a_begin : Nat) (a_motor : Nat) (a_change : Nat) (a_startFrame : Nat) (a_changeFrame : Nat) (a_lostAt : Nat) (a_blackAt : Nat) (a_slips : Nat) (a_leftArc : Nat) (a_died : Nat) (a_arcs : Nat) (m_bestSum : Int32) (m_nearest : Int32) (m_nearestTown : Int32) (a_there : Nat) (a_backAt : Nat) (a_sorted : Nat) (a_parts : Nat) (m_seed1 : Int32) (m_darkNow : Int32) (d_tape : Nat → Int32) (d_letters : Nat → Int32) (d_r : Nat → Int32) (d_fresh : Nat → Int32) (d_st : Nat → Int32) (hv_m_size : IV m_size 0 900) (hv_m_end : IV m_end 0 900) (hv_m_nameSize : IV m_nameSize 0 900) (hv_m_failed : IV m_failed 0 1) (hv_m_hasHouse : IV m_hasHouse 0 1) (hv_m_undos : IV m_undos 0 12) (hv_m_images : IV m_images 0 3) (hv_m_taped : IV m_taped 0 900) (hp_d_r : RInv d_r) (hp_d_fresh : RInv d_fresh) (hr_0 : TRI d_r) : cI l g yX11_house cX11_house 3 (some .int) 10 218 0 0 [.ref h0, .int p0] [(h0, .inr (11, [.int m_thrown, .ref a_tape, .int m_taped, .int m_size, .int m_at, .int m_end, .int m_token, .int m_whole, .int m_nameSize, .int m_fault, .int m_place, .int m_trouble, .ref a_letters, .int m_failed, .int m_hasHouse, .ref a_r, .ref a_fresh, .ref a_st, .ref a_undone, .ref a_kept, .int m_undos, .int m_images, .ref a_from, .ref a_begin, .ref a_motor, .ref a_change, .ref a_startFrame, .ref a_changeFrame, .ref a_lostAt, .ref a_blackAt, .ref a_slips, .ref a_leftArc, .ref a_died, .ref a_arcs, .int m_bestSum, .int m_nearest, .int m_nearestTown, .ref a_there, .ref a_backAt, .ref a_sorted, .ref a_parts, .int m_seed1, .int m_darkNow])), (a_tape, .inl (g.2.2.1, 900, .inl d_tape)), (a_letters, .inl (g.2.2.1, 8, .inl d_letters)), (a_r, .inl (g.2.2.1, 311, .inl d_r)), (a_fresh, .inl (g.2.2.1, 311, .inl d_fresh)), (a_st, .inl (g.2.2.1, 44, .inl d_st))] (fun r w => ∃ (m_at2 : Int32) (m_end2 : Int32) (m_failed2 : Int32) (m_fault2 : Int32) (d_fresh2 : Nat → Int32) (m_hasHouse2 : Int32) (m_images2 : Int32) (d_letters2 : Nat → Int32) (m_nameSize2 : Int32) (m_place2 : Int32) (d_r2 : Nat → Int32) (m_size2 : Int32) (d_st2 : Nat → Int32) (m_taped2 : Int32) (m_thrown2 : Int32) (m_token2 : Int32) (m_trouble2 : Int32) (m_undos2 : Int32) (m_whole2 : Int32), IV m_end2 0 900 ∧ IV m_failed2 0 1 ∧ IV m_hasHouse2 0 1 ∧ IV m_images2 0 3 ∧ IV m_nameSize2 0 900 ∧ IV m_size2 0 900 ∧ IV m_taped2 0 900 ∧ IV m_undos2 0 12 ∧ RInv d_r2 ∧ RInv d_fresh2 ∧ ((p0.toInt < 0 ∨ m_taped.toInt < p0.toInt → m_taped2 = m_taped) ∧ (0 ≤ p0.toInt ∧ p0.toInt ≤ m_taped.toInt → m_taped2 = 0)) ∧ (TRI d_r2) ∧ w = [(h0, .inr (11, [.int m_thrown2, .ref a_tape, .int m_taped2, .int m_size2, .int m_at2, .int m_end2, .int m_token2, .int m_whole2, .int m_nameSize2, .int m_fault2, .int m_place2, .int m_trouble2, .ref a_letters, .int m_failed2, .int m_hasHouse2, .ref a_r, .ref a_fresh, .ref a_st, .ref a_undone, .ref a_kept, .int m_undos2, .int m_images2, .ref a_from, .ref a_begin, .ref a_motor, .ref a_change, .ref a_startFrame, .ref a_changeFrame, .ref a_lostAt, .ref a_blackAt, .ref a_slips, .ref a_leftArc, .ref a_died, .ref a_arcs, .int m_bestSum, .int m_nearest, .int m_nearestTown, .ref a_there, .ref a_backAt, .ref a_sorted, .ref a_parts, .int m_seed1, .int m_darkNow])), (a_tape, .inl (g.2.2.1, 900, .inl d_tape)), (a_letters, .inl (g.2.2.1, 8, .inl d_letters2)), (a_r, .inl (g.2.2.1, 311, .inl d_r2)), (a_fresh, .inl (g.2.2.1, 311, .inl d_fresh2)), (a_st, .inl (g.2.2.1, 44, .inl d_st2))]) := by
  refine cI.of (by decide) (Nat.le_of_ble_eq_true rfl) ?_
  intro p e s m args below meth c A X hr hi
  refine k_lveq [(0, .ref h0), (1, .int p0)] rfl ?_
  refine k_aload_n X dX11_house_0 0 rfl ?_
  refine k_callVV (n := 0) (As := []) (st := []) X [(h0, .inr (11, [.int m_thrown, .ref a_tape, .int m_taped, .int m_size, .int m_at, .int m_end, .int m_token, .int m_whole, .int m_nameSize, .int m_fault, .int m_place, .int m_trouble, .ref a_letters, .int m_failed, .int m_hasHouse, .ref a_r, .ref a_fresh, .ref a_st, .ref a_undone, .ref a_kept, .int m_undos, .int m_images, .ref a_from, .ref a_begin, .ref a_motor, .ref a_change, .ref a_startFrame, .ref a_changeFrame, .ref a_lostAt, .ref a_blackAt, .ref a_slips, .ref a_leftArc, .ref a_died, .ref a_arcs, .int m_bestSum, .int m_nearest, .int m_nearestTown, .ref a_there, .ref a_backAt, .ref a_sorted, .ref a_parts, .int m_seed1, .int m_darkNow]))] [(a_tape, .inl (g.2.2.1, 900, .inl d_tape)), (a_letters, .inl (g.2.2.1, 8, .inl d_letters)), (a_r, .inl (g.2.2.1, 311, .inl d_r)), (a_fresh, .inl (g.2.2.1, 311, .inl d_fresh)), (a_st, .inl (g.2.2.1, 44, .inl d_st))] [0] [1, 2, 3, 4, 5] (m_good l g h0 m_thrown a_tape m_taped m_size m_at m_end m_token m_whole m_nameSize m_fault m_place m_trouble a_letters m_failed m_hasHouse a_r a_fresh a_st a_undone a_kept m_undos m_images a_from a_begin a_motor a_change a_startFrame a_changeFrame a_lostAt a_blackAt a_slips a_leftArc a_died a_arcs m_bestSum m_nearest m_nearestTown a_there a_backAt a_sorted a_parts m_seed1 m_darkNow) dX11_house_1 mw477 mw478 mw479 mw5 mw480 rfl 11 rfl rfl 0 _ rfl (by unfold yOk; decide) rfl (Nat.le_of_ble_eq_true rfl) (Nat.le_of_ble_eq_true rfl) (Nat.le_of_ble_eq_true rfl) (Nat.le_of_ble_eq_true rfl) (Nat.le_of_ble_eq_true rfl) rfl rfl (by decide) rfl (by decide) (by decide) ?_
  rintro w ⟨m_thrown2_1, m_trouble2_2, rfl⟩
  refine k_ws [(a_tape, .inl (g.2.2.1, 900, .inl d_tape)), (a_letters, .inl (g.2.2.1, 8, .inl d_letters)), (a_r, .inl (g.2.2.1, 311, .inl d_r)), (a_fresh, .inl (g.2.2.1, 311, .inl d_fresh)), (a_st, .inl (g.2.2.1, 44, .inl d_st)), (h0, .inr (11, [.int m_thrown2_1, .ref a_tape, .int m_taped, .int m_size, .int m_at, .int m_end, .int m_token, .int m_whole, .int m_nameSize, .int m_fault, .int m_place, .int m_trouble2_2, .ref a_letters, .int m_failed, .int m_hasHouse, .ref a_r, .ref a_fresh, .ref a_st, .ref a_undone, .ref a_kept, .int m_undos, .int m_images, .ref a_from, .ref a_begin, .ref a_motor, .ref a_change, .ref a_startFrame, .ref a_changeFrame, .ref a_lostAt, .ref a_blackAt, .ref a_slips, .ref a_leftArc, .ref a_died, .ref a_arcs, .int m_bestSum, .int m_nearest, .int m_nearestTown, .ref a_there, .ref a_backAt, .ref a_sorted, .ref a_parts, .int m_seed1, .int m_darkNow]))] rfl ?_
  refine k_iload_n X dX11_house_4 1 rfl ?_
  refine k_iconst (v := 0) X dX11_house_5 (by decide) ?_
  refine k_aload_n X dX11_house_6 0 rfl ?_
  refine k_get (ci := 11) X inlX11 rfl 2 (by decide) dX11_house_7 mw205 5 rfl rfl ?_
  refine k_callSI (n := 3) (As := [.int p0, .int 0, .int m_taped]) (st := []) X [] [(a_tape, .inl (g.2.2.1, 900, .inl d_tape)), (a_letters, .inl (g.2.2.1, 8, .inl d_letters)), (a_r, .inl (g.2.2.1, 311, .inl d_r)), (a_fresh, .inl (g.2.2.1, 311, .inl d_fresh)), (a_st, .inl (g.2.2.1, 44, .inl d_st)), (h0, .inr (11, [.int m_thrown2_1, .ref a_tape, .int m_taped, .int m_size, .int m_at, .int m_end, .int m_token, .int m_whole, .int m_nameSize, .int m_fault, .int m_place, .int m_trouble2_2, .ref a_letters, .int m_failed, .int m_hasHouse, .ref a_r, .ref a_fresh, .ref a_st, .ref a_undone, .ref a_kept, .int m_undos, .int m_images, .ref a_from, .ref a_begin, .ref a_motor, .ref a_change, .ref a_startFrame, .ref a_changeFrame, .ref a_lostAt, .ref a_blackAt, .ref a_slips, .ref a_leftArc, .ref a_died, .ref a_arcs, .int m_bestSum, .int m_nearest, .int m_nearestTown, .ref a_there, .ref a_backAt, .ref a_sorted, .ref a_parts, .int m_seed1, .int m_darkNow]))] [] [0, 1, 2, 3, 4, 5] (m_in l g p0 0 m_taped) dX11_house_10 mw482 mw483 mw5 mw484 (by unfold yOk; decide) rfl (Nat.le_of_ble_eq_true rfl) (Nat.le_of_ble_eq_true rfl) (Nat.le_of_ble_eq_true rfl) (Nat.le_of_ble_eq_true rfl) (Nat.le_of_ble_eq_true rfl) rfl rfl (by decide) rfl (by decide) (by decide) ?_
  rintro r_4 w ⟨iv_5, hk_6, hk_7, rfl⟩
  refine k_ws [(a_tape, .inl (g.2.2.1, 900, .inl d_tape)), (a_letters, .inl (g.2.2.1, 8, .inl d_letters)), (a_r, .inl (g.2.2.1, 311, .inl d_r)), (a_fresh, .inl (g.2.2.1, 311, .inl d_fresh)), (a_st, .inl (g.2.2.1, 44, .inl d_st)), (h0, .inr (11, [.int m_thrown2_1, .ref a_tape, .int m_taped, .int m_size, .int m_at, .int m_end, .int m_token, .int m_whole, .int m_nameSize, .int m_fault, .int m_place, .int m_trouble2_2, .ref a_letters, .int m_failed, .int m_hasHouse, .ref a_r, .ref a_fresh, .ref a_st, .ref a_undone, .ref a_kept, .int m_undos, .int m_images, .ref a_from, .ref a_begin, .ref a_motor, .ref a_change, .ref a_startFrame, .ref a_changeFrame, .ref a_lostAt, .ref a_blackAt, .ref a_slips, .ref a_leftArc, .ref a_died, .ref a_arcs, .int m_bestSum, .int m_nearest, .int m_nearestTown, .ref a_there, .ref a_backAt, .ref a_sorted, .ref a_parts, .int m_seed1, .int m_darkNow]))] rfl ?_
  refine k_if_ne 22 X dX11_house_13 (by decide) (fun h_8 => ?_) (fun h_8 => ?_)
  · skip
    have hc_9 := hk_6.resolve_left h_8
    have j_10 : 0 ≤ p0.toInt := hc_9.1
    have iv_11 : IV p0 0 2147483647 := iv_leR hc_9.1 (show IV 0 0 0 from (by decide)) (iv_any p0) (by decide)
    have j_12 : p0.toInt ≤ m_taped.toInt := hc_9.2
    have iv_13 : IV p0 0 900 := iv_leL hc_9.2 iv_11 hv_m_taped (by decide)
    have iv_14 : IV r_4 1 1 := iv_neL h_8 iv_5 (show IV 0 0 0 from (by decide)) (by decide)
    refine k_aload_n X dX11_house_22 0 rfl ?_
    refine k_iconst (v := 0) X dX11_house_23 (by decide) ?_
    refine k_put (ci := 11) [(a_tape, .inl (g.2.2.1, 900, .inl d_tape)), (a_letters, .inl (g.2.2.1, 8, .inl d_letters)), (a_r, .inl (g.2.2.1, 311, .inl d_r)), (a_fresh, .inl (g.2.2.1, 311, .inl d_fresh)), (a_st, .inl (g.2.2.1, 44, .inl d_st)), (h0, .inr (11, [.int m_thrown2_1, .ref a_tape, .int 0, .int m_size, .int m_at, .int m_end, .int m_token, .int m_whole, .int m_nameSize, .int m_fault, .int m_place, .int m_trouble2_2, .ref a_letters, .int m_failed, .int m_hasHouse, .ref a_r, .ref a_fresh, .ref a_st, .ref a_undone, .ref a_kept, .int m_undos, .int m_images, .ref a_from, .ref a_begin, .ref a_motor, .ref a_change, .ref a_startFrame, .ref a_changeFrame, .ref a_lostAt, .ref a_blackAt, .ref a_slips, .ref a_leftArc, .ref a_died, .ref a_arcs, .int m_bestSum, .int m_nearest, .int m_nearestTown, .ref a_there, .ref a_backAt, .ref a_sorted, .ref a_parts, .int m_seed1, .int m_darkNow]))] X inlX11 rfl tyX11_ok nmX11 2 (by decide) rfl dX11_house_24 mw205 5 rfl rfl rfl (Nat.le_of_ble_eq_true rfl) rfl ?_
    refine k_aload_n X dX11_house_27 0 rfl ?_
    refine k_iconst (v := 0) X dX11_house_28 (by decide) ?_
    refine k_put (ci := 11) [(a_tape, .inl (g.2.2.1, 900, .inl d_tape)), (a_letters, .inl (g.2.2.1, 8, .inl d_letters)), (a_r, .inl (g.2.2.1, 311, .inl d_r)), (a_fresh, .inl (g.2.2.1, 311, .inl d_fresh)), (a_st, .inl (g.2.2.1, 44, .inl d_st)), (h0, .inr (11, [.int m_thrown2_1, .ref a_tape, .int 0, .int m_size, .int m_at, .int m_end, .int m_token, .int m_whole, .int m_nameSize, .int 0, .int m_place, .int m_trouble2_2, .ref a_letters, .int m_failed, .int m_hasHouse, .ref a_r, .ref a_fresh, .ref a_st, .ref a_undone, .ref a_kept, .int m_undos, .int m_images, .ref a_from, .ref a_begin, .ref a_motor, .ref a_change, .ref a_startFrame, .ref a_changeFrame, .ref a_lostAt, .ref a_blackAt, .ref a_slips, .ref a_leftArc, .ref a_died, .ref a_arcs, .int m_bestSum, .int m_nearest, .int m_nearestTown, .ref a_there, .ref a_backAt, .ref a_sorted, .ref a_parts, .int m_seed1, .int m_darkNow]))] X inlX11 rfl tyX11_ok nmX11 9 (by decide) rfl dX11_house_29 mw468 5 rfl rfl rfl (Nat.le_of_ble_eq_true rfl) rfl ?_
    refine k_aload_n X dX11_house_32 0 rfl ?_
    refine k_iconst (v := 0) X dX11_house_33 (by decide) ?_
    refine k_put (ci := 11) [(a_tape, .inl (g.2.2.1, 900, .inl d_tape)), (a_letters, .inl (g.2.2.1, 8, .inl d_letters)), (a_r, .inl (g.2.2.1, 311, .inl d_r)), (a_fresh, .inl (g.2.2.1, 311, .inl d_fresh)), (a_st, .inl (g.2.2.1, 44, .inl d_st)), (h0, .inr (11, [.int m_thrown2_1, .ref a_tape, .int 0, .int m_size, .int m_at, .int m_end, .int m_token, .int m_whole, .int m_nameSize, .int 0, .int m_place, .int m_trouble2_2, .ref a_letters, .int 0, .int m_hasHouse, .ref a_r, .ref a_fresh, .ref a_st, .ref a_undone, .ref a_kept, .int m_undos, .int m_images, .ref a_from, .ref a_begin, .ref a_motor, .ref a_change, .ref a_startFrame, .ref a_changeFrame, .ref a_lostAt, .ref a_blackAt, .ref a_slips, .ref a_leftArc, .ref a_died, .ref a_arcs, .int m_bestSum, .int m_nearest, .int m_nearestTown, .ref a_there, .ref a_backAt, .ref a_sorted, .ref a_parts, .int m_seed1, .int m_darkNow]))] X inlX11 rfl tyX11_ok nmX11 13 (by decide) rfl dX11_house_34 mw469 5 rfl (by decide) (by decide) (Nat.le_of_ble_eq_true rfl) rfl ?_
    refine k_iconst (v := 0) X dX11_house_37 (by decide) ?_
    refine k_istore_n [(2, .int 0), (0, .ref h0), (1, .int p0)] X dX11_house_38 (by decide) rfl ?_
    refine (fun hL : ∀ (nn_20 : Nat) (uf_15 : Nat → Int32) (u_17 : Int32), (311 - u_17.toInt).toNat = nn_20 → (RInv uf_15) → (IV u_17 0 900) → (∀ i : Nat, i < u_17.toInt.toNat → uf_15 i = 0) → Wk p l e _ s m args below meth c _ A g _ _ _ [(a_tape, .inl (g.2.2.1, 900, .inl d_tape)), (a_letters, .inl (g.2.2.1, 8, .inl d_letters)), (a_r, .inl (g.2.2.1, 311, .inl d_r)), (a_fresh, .inl (g.2.2.1, 311, .inl uf_15)), (a_st, .inl (g.2.2.1, 44, .inl d_st)), (h0, .inr (11, [.int m_thrown2_1, .ref a_tape, .int 0, .int m_size, .int m_at, .int m_end, .int m_token, .int m_whole, .int m_nameSize, .int 0, .int m_place, .int m_trouble2_2, .ref a_letters, .int 0, .int m_hasHouse, .ref a_r, .ref a_fresh, .ref a_st, .ref a_undone, .ref a_kept, .int m_undos, .int m_images, .ref a_from, .ref a_begin, .ref a_motor, .ref a_change, .ref a_startFrame, .ref a_changeFrame, .ref a_lostAt, .ref a_blackAt, .ref a_slips, .ref a_leftArc, .ref a_died, .ref a_arcs, .int m_bestSum, .int m_nearest, .int m_nearestTown, .ref a_there, .ref a_backAt, .ref a_sorted, .ref a_parts, .int m_seed1, .int m_darkNow]))] [(2, .int u_17), (0, .ref h0), (1, .int p0)] 39 [] => hL _ d_fresh 0 rfl hp_d_fresh (iv_w (show IV 0 0 0 from (by decide)) (by decide) (by decide)) (z_0)) ?_
    refine fun nn_20 => Nat.strongRecOn nn_20 (fun nn_20 ih_22 => ?_)
    intro uf_15 u_17 hm_21 hp_16 hv_18 hx_19
    refine k_iload_n X dX11_house_39 0 rfl ?_
    refine k_sipush (v := 311) X dX11_house_40 (by decide) ?_
    refine k_ic_ge 59 X dX11_house_43 (by decide) (fun h_23 => ?_) (fun h_23 => ?_)
    · skip
      have j_24 : 311 ≤ u_17.toInt := iv_le h_23
      have iv_25 : IV u_17 311 900 := iv_leR (iv_le h_23) (show IV 311 311 311 from (by decide)) hv_18 (by decide)
      have hT_26 : TRI uf_15 := tri_zero hx_19 (by omega)
      refine k_aload_n X dX11_house_59 1 rfl ?_
      refine k_iload_n X dX11_house_60 2 rfl ?_
      refine k_put (ci := 11) [(a_tape, .inl (g.2.2.1, 900, .inl d_tape)), (a_letters, .inl (g.2.2.1, 8, .inl d_letters)), (a_r, .inl (g.2.2.1, 311, .inl d_r)), (a_fresh, .inl (g.2.2.1, 311, .inl uf_15)), (a_st, .inl (g.2.2.1, 44, .inl d_st)), (h0, .inr (11, [.int m_thrown2_1, .ref a_tape, .int 0, .int p0, .int m_at, .int m_end, .int m_token, .int m_whole, .int m_nameSize, .int 0, .int m_place, .int m_trouble2_2, .ref a_letters, .int 0, .int m_hasHouse, .ref a_r, .ref a_fresh, .ref a_st, .ref a_undone, .ref a_kept, .int m_undos, .int m_images, .ref a_from, .ref a_begin, .ref a_motor, .ref a_change, .ref a_startFrame, .ref a_changeFrame, .ref a_lostAt, .ref a_blackAt, .ref a_slips, .ref a_leftArc, .ref a_died, .ref a_arcs, .int m_bestSum, .int m_nearest, .int m_nearestTown, .ref a_there, .ref a_backAt, .ref a_sorted, .ref a_parts, .int m_seed1, .int m_darkNow]))] X inlX11 rfl tyX11_ok nmX11 3 (by decide) rfl dX11_house_61 mw470 5 rfl rfl rfl (Nat.le_of_ble_eq_true rfl) rfl ?_
      refine k_aload_n X dX11_house_64 1 rfl ?_
      refine k_iconst (v := 0) X dX11_house_65 (by decide) ?_
      refine k_put (ci := 11) [(a_tape, .inl (g.2.2.1, 900, .inl d_tape)), (a_letters, .inl (g.2.2.1, 8, .inl d_letters)), (a_r, .inl (g.2.2.1, 311, .inl d_r)), (a_fresh, .inl (g.2.2.1, 311, .inl uf_15)), (a_st, .inl (g.2.2.1, 44, .inl d_st)), (h0, .inr (11, [.int m_thrown2_1, .ref a_tape, .int 0, .int p0, .int m_at, .int 0, .int m_token, .int m_whole, .int m_nameSize, .int 0, .int m_place, .int m_trouble2_2, .ref a_letters, .int 0, .int m_hasHouse, .ref a_r, .ref a_fresh, .ref a_st, .ref a_undone, .ref a_kept, .int m_undos, .int m_images, .ref a_from, .ref a_begin, .ref a_motor, .ref a_change, .ref a_startFrame, .ref a_changeFrame, .ref a_lostAt, .ref a_blackAt, .ref a_slips, .ref a_leftArc, .ref a_died, .ref a_arcs, .int m_bestSum, .int m_nearest, .int m_nearestTown, .ref a_there, .ref a_backAt, .ref a_sorted, .ref a_parts, .int m_seed1, .int m_darkNow]))] X inlX11 rfl tyX11_ok nmX11 5 (by decide) rfl dX11_house_66 mw471 5 rfl rfl rfl (Nat.le_of_ble_eq_true rfl) rfl ?_
      refine k_aload_n X dX11_house_69 1 rfl ?_
      refine k_callVV (n := 0) (As := []) (st := []) X [(h0, .inr (11, [.int m_thrown2_1, .ref a_tape, .int 0, .int p0, .int m_at, .int 0, .int m_token, .int m_whole, .int m_nameSize, .int 0, .int m_place, .int m_trouble2_2, .ref a_letters, .int 0, .int m_hasHouse, .ref a_r, .ref a_fresh, .ref a_st, .ref a_undone, .ref a_kept, .int m_undos, .int m_images, .ref a_from, .ref a_begin, .ref a_motor, .ref a_change, .ref a_startFrame, .ref a_changeFrame, .ref a_lostAt, .ref a_blackAt, .ref a_slips, .ref a_leftArc, .ref a_died, .ref a_arcs, .int m_bestSum, .int m_nearest, .int m_nearestTown, .ref a_there, .ref a_backAt, .ref a_sorted, .ref a_parts, .int m_seed1, .int m_darkNow])), (a_tape, .inl (g.2.2.1, 900, .inl d_tape)), (a_letters, .inl (g.2.2.1, 8, .inl d_letters))] [(a_r, .inl (g.2.2.1, 311, .inl d_r)), (a_fresh, .inl (g.2.2.1, 311, .inl uf_15)), (a_st, .inl (g.2.2.1, 44, .inl d_st))] [5, 0, 1] [2, 3, 4] (m_next l g h0 m_thrown2_1 a_tape 0 p0 m_at 0 m_token m_whole m_nameSize 0 m_place m_trouble2_2 a_letters 0 m_hasHouse a_r a_fresh a_st a_undone a_kept m_undos m_images a_from a_begin a_motor a_change a_startFrame a_changeFrame a_lostAt a_blackAt a_slips a_leftArc a_died a_arcs m_bestSum m_nearest m_nearestTown a_there a_backAt a_sorted a_parts m_seed1 m_darkNow d_tape d_letters (iv_w iv_13 (by decide) (by decide)) (iv_w (show IV 0 0 0 from (by decide)) (by decide) (by decide)) (iv_w hv_m_nameSize (by decide) (by decide))) dX11_house_70 mw489 mw490 mw491 mw5 mw492 rfl 11 rfl rfl 0 _ rfl (by unfold yOk; decide) rfl (Nat.le_of_ble_eq_true rfl) (Nat.le_of_ble_eq_true rfl) (Nat.le_of_ble_eq_true rfl) (Nat.le_of_ble_eq_true rfl) (Nat.le_of_ble_eq_true rfl) rfl rfl (by decide) rfl (by decide) (by decide) ?_
      rintro w ⟨m_at2_27, m_end2_28, d_letters2_29, m_nameSize2_30, m_token2_31, m_whole2_32, iv_34, iv_35, hq_36, hq_37, hk_38, rfl⟩
      refine k_ws [(a_r, .inl (g.2.2.1, 311, .inl d_r)), (a_fresh, .inl (g.2.2.1, 311, .inl uf_15)), (a_st, .inl (g.2.2.1, 44, .inl d_st)), (h0, .inr (11, [.int m_thrown2_1, .ref a_tape, .int 0, .int p0, .int m_at2_27, .int m_end2_28, .int m_token2_31, .int m_whole2_32, .int m_nameSize2_30, .int 0, .int m_place, .int m_trouble2_2, .ref a_letters, .int 0, .int m_hasHouse, .ref a_r, .ref a_fresh, .ref a_st, .ref a_undone, .ref a_kept, .int m_undos, .int m_images, .ref a_from, .ref a_begin, .ref a_motor, .ref a_change, .ref a_startFrame, .ref a_changeFrame, .ref a_lostAt, .ref a_blackAt, .ref a_slips, .ref a_leftArc, .ref a_died, .ref a_arcs, .int m_bestSum, .int m_nearest, .int m_nearestTown, .ref a_there, .ref a_backAt, .ref a_sorted, .ref a_parts, .int m_seed1, .int m_darkNow])), (a_tape, .inl (g.2.2.1, 900, .inl d_tape)), (a_letters, .inl (g.2.2.1, 8, .inl d_letters2_29))] rfl ?_
      refine k_aload_n X dX11_house_73 1 rfl ?_
      refine k_callVV (n := 0) (As := []) (st := []) X [(h0, .inr (11, [.int m_thrown2_1, .ref a_tape, .int 0, .int p0, .int m_at2_27, .int m_end2_28, .int m_token2_31, .int m_whole2_32, .int m_nameSize2_30, .int 0, .int m_place, .int m_trouble2_2, .ref a_letters, .int 0, .int m_hasHouse, .ref a_r, .ref a_fresh, .ref a_st, .ref a_undone, .ref a_kept, .int m_undos, .int m_images, .ref a_from, .ref a_begin, .ref a_motor, .ref a_change, .ref a_startFrame, .ref a_changeFrame, .ref a_lostAt, .ref a_blackAt, .ref a_slips, .ref a_leftArc, .ref a_died, .ref a_arcs, .int m_bestSum, .int m_nearest, .int m_nearestTown, .ref a_there, .ref a_backAt, .ref a_sorted, .ref a_parts, .int m_seed1, .int m_darkNow])), (a_tape, .inl (g.2.2.1, 900, .inl d_tape)), (a_letters, .inl (g.2.2.1, 8, .inl d_letters2_29)), (a_fresh, .inl (g.2.2.1, 311, .inl uf_15))] [(a_r, .inl (g.2.2.1, 311, .inl d_r)), (a_st, .inl (g.2.2.1, 44, .inl d_st))] [3, 4, 5, 1] [0, 2] (m_readLine l g h0 m_thrown2_1 a_tape 0 p0 m_at2_27 m_end2_28 m_token2_31 m_whole2_32 m_nameSize2_30 0 m_place m_trouble2_2 a_letters 0 m_hasHouse a_r a_fresh a_st a_undone a_kept m_undos m_images a_from a_begin a_motor a_change a_startFrame a_changeFrame a_lostAt a_blackAt a_slips a_leftArc a_died a_arcs m_bestSum m_nearest m_nearestTown a_there a_backAt a_sorted a_parts m_seed1 m_darkNow d_tape d_letters2_29 uf_15 (iv_w iv_13 (by decide) (by decide)) (iv_w iv_34 (by decide) (by decide)) (iv_w iv_35 (by decide) (by decide)) (iv_w (show IV 0 0 0 from (by decide)) (by decide) (by decide)) hp_16 hT_26 hk_38) dX11_house_74 mw505 mw506 mw507 mw5 mw508 rfl 11 rfl rfl 0 _ rfl (by unfold yOk; decide) rfl (Nat.le_of_ble_eq_true rfl) (Nat.le_of_ble_eq_true rfl) (Nat.le_of_ble_eq_true rfl) (Nat.le_of_ble_eq_true rfl) (Nat.le_of_ble_eq_true rfl) rfl rfl (by decide) rfl (by decide) (by decide) ?_
      rintro w ⟨m_at2_39, m_end2_40, m_failed2_41, m_fault2_42, d_fresh2_43, d_letters2_44, m_nameSize2_45, m_place2_46, m_token2_47, m_whole2_48, iv_50, iv_51, iv_52, hp_53, hq_54, hq_55, hq_56, hk_57, rfl⟩
      refine k_ws [(a_r, .inl (g.2.2.1, 311, .inl d_r)), (a_st, .inl (g.2.2.1, 44, .inl d_st)), (h0, .inr (11, [.int m_thrown2_1, .ref a_tape, .int 0, .int p0, .int m_at2_39, .int m_end2_40, .int m_token2_47, .int m_whole2_48, .int m_nameSize2_45, .int m_fault2_42, .int m_place2_46, .int m_trouble2_2, .ref a_letters, .int m_failed2_41, .int m_hasHouse, .ref a_r, .ref a_fresh, .ref a_st, .ref a_undone, .ref a_kept, .int m_undos, .int m_images, .ref a_from, .ref a_begin, .ref a_motor, .ref a_change, .ref a_startFrame, .ref a_changeFrame, .ref a_lostAt, .ref a_blackAt, .ref a_slips, .ref a_leftArc, .ref a_died, .ref a_arcs, .int m_bestSum, .int m_nearest, .int m_nearestTown, .ref a_there, .ref a_backAt, .ref a_sorted, .ref a_parts, .int m_seed1, .int m_darkNow])), (a_tape, .inl (g.2.2.1, 900, .inl d_tape)), (a_letters, .inl (g.2.2.1, 8, .inl d_letters2_44)), (a_fresh, .inl (g.2.2.1, 311, .inl d_fresh2_43))] rfl ?_
      refine (fun hL : ∀ (nn_74 : Nat) (uf_58 : Nat → Int32) (uf_61 : Nat → Int32) (u_62 : Int32) (u_63 : Int32) (u_65 : Int32) (u_66 : Int32) (u_68 : Int32) (u_69 : Int32) (u_70 : Int32) (u_72 : Int32), (2 * (901 - u_66.toInt) + (1 - u_63.toInt)).toNat = nn_74 → (RInv uf_58) → (TRI uf_58) → (IV u_63 0 1) → (IV u_66 0 900) → (IV u_70 0 900) → (u_68 = 2 → IV u_70 0 8) → Wk p l e _ s m args below meth c _ A g _ _ _ [(a_r, .inl (g.2.2.1, 311, .inl d_r)), (a_st, .inl (g.2.2.1, 44, .inl d_st)), (h0, .inr (11, [.int m_thrown2_1, .ref a_tape, .int 0, .int p0, .int u_65, .int u_66, .int u_68, .int u_69, .int u_70, .int u_72, .int u_62, .int m_trouble2_2, .ref a_letters, .int u_63, .int m_hasHouse, .ref a_r, .ref a_fresh, .ref a_st, .ref a_undone, .ref a_kept, .int m_undos, .int m_images, .ref a_from, .ref a_begin, .ref a_motor, .ref a_change, .ref a_startFrame, .ref a_changeFrame, .ref a_lostAt, .ref a_blackAt, .ref a_slips, .ref a_leftArc, .ref a_died, .ref a_arcs, .int m_bestSum, .int m_nearest, .int m_nearestTown, .ref a_there, .ref a_backAt, .ref a_sorted, .ref a_parts, .int m_seed1, .int m_darkNow])), (a_tape, .inl (g.2.2.1, 900, .inl d_tape)), (a_letters, .inl (g.2.2.1, 8, .inl uf_61)), (a_fresh, .inl (g.2.2.1, 311, .inl uf_58))] [(2, .int u_17), (0, .ref h0), (1, .int p0)] 77 [] => hL _ d_fresh2_43 d_letters2_44 m_place2_46 m_failed2_41 m_at2_39 m_end2_40 m_token2_47 m_whole2_48 m_nameSize2_45 m_fault2_42 rfl hp_53 hq_56 (iv_w iv_51 (by decide) (by decide)) (iv_w iv_50 (by decide) (by decide)) (iv_w iv_52 (by decide) (by decide)) hk_57) ?_
      refine fun nn_74 => Nat.strongRecOn nn_74 (fun nn_74 ih_76 => ?_)
      intro uf_58 uf_61 u_62 u_63 u_65 u_66 u_68 u_69 u_70 u_72 hm_75 hp_59 hT_60 hv_64 hv_67 hv_71 hx_73
      refine k_aload_n X dX11_house_77 1 rfl ?_
      refine k_get (ci := 11) X inlX11 rfl 13 (by decide) dX11_house_78 mw469 2 rfl rfl ?_
      refine k_if_ne 104 X dX11_house_81 (by decide) (fun h_77 => ?_) (fun h_77 => ?_)
      · skip
        have iv_78 : IV u_63 1 1 := iv_neL h_77 hv_64 (show IV 0 0 0 from (by decide)) (by decide)
        refine k_aload_n X dX11_house_104 1 rfl ?_
        refine k_get (ci := 11) X inlX11 rfl 13 (by decide) dX11_house_105 mw469 2 rfl rfl ?_
        refine k_if_ne 127 X dX11_house_108 (by decide) (fun h_79 => ?_) (fun h_79 => (iv_eqN h_79 iv_78 (show IV 0 0 0 from (by decide)) (by decide)).elim)
        refine k_aload_n X dX11_house_127 1 rfl ?_
        refine k_get (ci := 11) X inlX11 rfl 13 (by decide) dX11_house_128 mw469 2 rfl rfl ?_
        refine k_if_ne 174 X dX11_house_131 (by decide) (fun h_80 => ?_) (fun h_80 => (iv_eqN h_80 iv_78 (show IV 0 0 0 from (by decide)) (by decide)).elim)
        refine k_aload_n X dX11_house_174 1 rfl ?_
        refine k_get (ci := 11) X inlX11 rfl 13 (by decide) dX11_house_175 mw469 2 rfl rfl ?_
        refine k_if_eq 187 X dX11_house_178 (by decide) (fun h_81 => (iv_eqN h_81 iv_78 (show IV 0 0 0 from (by decide)) (by decide)).elim) (fun h_81 => ?_)
        refine k_aload_n X dX11_house_181 1 rfl ?_
        refine k_iconst (v := 4) X dX11_house_182 (by decide) ?_
        refine k_callVI (n := 1) (As := [.int 4]) (st := []) X [(h0, .inr (11, [.int m_thrown2_1, .ref a_tape, .int 0, .int p0, .int u_65, .int u_66, .int u_68, .int u_69, .int u_70, .int u_72, .int u_62, .int m_trouble2_2, .ref a_letters, .int u_63, .int m_hasHouse, .ref a_r, .ref a_fresh, .ref a_st, .ref a_undone, .ref a_kept, .int m_undos, .int m_images, .ref a_from, .ref a_begin, .ref a_motor, .ref a_change, .ref a_startFrame, .ref a_changeFrame, .ref a_lostAt, .ref a_blackAt, .ref a_slips, .ref a_leftArc, .ref a_died, .ref a_arcs, .int m_bestSum, .int m_nearest, .int m_nearestTown, .ref a_there, .ref a_backAt, .ref a_sorted, .ref a_parts, .int m_seed1, .int m_darkNow]))] [(a_r, .inl (g.2.2.1, 311, .inl d_r)), (a_st, .inl (g.2.2.1, 44, .inl d_st)), (a_tape, .inl (g.2.2.1, 900, .inl d_tape)), (a_letters, .inl (g.2.2.1, 8, .inl uf_61)), (a_fresh, .inl (g.2.2.1, 311, .inl uf_58))] [2] [0, 1, 3, 4, 5] (m_no l g h0 4 m_thrown2_1 a_tape 0 p0 u_65 u_66 u_68 u_69 u_70 u_72 u_62 m_trouble2_2 a_letters u_63 m_hasHouse a_r a_fresh a_st a_undone a_kept m_undos m_images a_from a_begin a_motor a_change a_startFrame a_changeFrame a_lostAt a_blackAt a_slips a_leftArc a_died a_arcs m_bestSum m_nearest m_nearestTown a_there a_backAt a_sorted a_parts m_seed1 m_darkNow) dX11_house_183 mw485 mw486 mw487 mw5 mw488 rfl 11 rfl rfl 0 _ rfl (by unfold yOk; decide) rfl (Nat.le_of_ble_eq_true rfl) (Nat.le_of_ble_eq_true rfl) (Nat.le_of_ble_eq_true rfl) (Nat.le_of_ble_eq_true rfl) (Nat.le_of_ble_eq_true rfl) rfl rfl (by decide) rfl (by decide) (by decide) ?_
        rintro r_83 w ⟨m_trouble2_82, iv_84, rfl⟩
        refine k_ws [(a_r, .inl (g.2.2.1, 311, .inl d_r)), (a_st, .inl (g.2.2.1, 44, .inl d_st)), (a_tape, .inl (g.2.2.1, 900, .inl d_tape)), (a_letters, .inl (g.2.2.1, 8, .inl uf_61)), (a_fresh, .inl (g.2.2.1, 311, .inl uf_58)), (h0, .inr (11, [.int m_thrown2_1, .ref a_tape, .int 0, .int p0, .int u_65, .int u_66, .int u_68, .int u_69, .int u_70, .int u_72, .int u_62, .int m_trouble2_82, .ref a_letters, .int u_63, .int m_hasHouse, .ref a_r, .ref a_fresh, .ref a_st, .ref a_undone, .ref a_kept, .int m_undos, .int m_images, .ref a_from, .ref a_begin, .ref a_motor, .ref a_change, .ref a_startFrame, .ref a_changeFrame, .ref a_lostAt, .ref a_blackAt, .ref a_slips, .ref a_leftArc, .ref a_died, .ref a_arcs, .int m_bestSum, .int m_nearest, .int m_nearestTown, .ref a_there, .ref a_backAt, .ref a_sorted, .ref a_parts, .int m_seed1, .int m_darkNow]))] rfl ?_
        exact k_iret X hr dX11_house_186 (Nat.le_of_ble_eq_true rfl) (Nat.le_of_ble_eq_true rfl) [5, 2, 3, 0, 4, 1] (by decide) rfl rfl ⟨u_65, u_66, u_63, u_72, uf_58, m_hasHouse, m_images, uf_61, u_70, u_62, d_r, p0, d_st, 0, m_thrown2_1, u_68, m_trouble2_82, m_undos, u_69, (iv_w hv_67 (by decide) (by decide)), (iv_w iv_78 (by decide) (by decide)), (iv_w hv_m_hasHouse (by decide) (by decide)), (iv_w hv_m_images (by decide) (by decide)), (iv_w hv_71 (by decide) (by decide)), (iv_w iv_13 (by decide) (by decide)), (iv_w (show IV 0 0 0 from (by decide)) (by decide) (by decide)), (iv_w hv_m_undos (by decide) (by decide)), hp_d_r, hp_59, (by refine ⟨fun q => ?_, fun q => ?_⟩ <;> first | rfl | (exfalso; omega)), hr_0, rfl⟩
      · skip
        have iv_85 : IV u_63 0 0 := iv_meet hv_64 (iv_e h_77 (show IV 0 0 0 from (by decide))) (by decide) (by decide)
        refine k_aload_n X dX11_house_84 1 rfl ?_
        refine k_get (ci := 11) X inlX11 rfl 6 (by decide) dX11_house_85 mw472 2 rfl rfl ?_
        refine k_bipush (v := 59) X dX11_house_88 (by decide) ?_
        refine k_ic_ne 104 X dX11_house_90 (by decide) (fun h_86 => ?_) (fun h_86 => ?_)
        · skip
          refine k_aload_n X dX11_house_104 1 rfl ?_
          refine k_get (ci := 11) X inlX11 rfl 13 (by decide) dX11_house_105 mw469 2 rfl rfl ?_
          refine k_if_ne 127 X dX11_house_108 (by decide) (fun h_87 => absurd (iv_eq iv_85 (show IV 0 0 0 from (by decide))) h_87) (fun h_87 => ?_)
          refine k_aload_n X dX11_house_111 1 rfl ?_
          refine k_get (ci := 11) X inlX11 rfl 6 (by decide) dX11_house_112 mw472 2 rfl rfl ?_
          refine k_if_eq 127 X dX11_house_115 (by decide) (fun h_88 => ?_) (fun h_88 => ?_)
          · skip
            have iv_89 : IV u_68 0 0 := iv_meet (iv_any u_68) (iv_e h_88 (show IV 0 0 0 from (by decide))) (by decide) (by decide)
            refine k_aload_n X dX11_house_127 1 rfl ?_
            refine k_get (ci := 11) X inlX11 rfl 13 (by decide) dX11_house_128 mw469 2 rfl rfl ?_
            refine k_if_ne 174 X dX11_house_131 (by decide) (fun h_90 => absurd (iv_eq iv_85 (show IV 0 0 0 from (by decide))) h_90) (fun h_90 => ?_)
            refine k_aload_n X dX11_house_134 1 rfl ?_
            refine k_get (ci := 11) X inlX11 rfl 16 (by decide) dX11_house_135 mw171 2 rfl rfl ?_
            refine k_bipush (v := 15) X dX11_house_138 (by decide) ?_
            refine k_iald X dX11_house_140 5 rfl (by unfold vp_in; decide) ?_
            refine k_nm (fun z_91 ez_91 => ?_)
            refine k_if_eq 164 X dX11_house_141 (by decide) (fun h_92 => ?_) (fun h_92 => ?_)
            · skip
              have iv_93 : IV z_91 0 0 := iv_meet (iv_any z_91) (iv_e h_92 (show IV 0 0 0 from (by decide))) (by decide) (by decide)
              refine k_aload_n X dX11_house_164 1 rfl ?_
              refine k_bipush (v := 6) X dX11_house_165 (by decide) ?_
              refine k_aload_n X dX11_house_167 1 rfl ?_
              refine k_get (ci := 11) X inlX11 rfl 4 (by decide) dX11_house_168 mw473 2 rfl rfl ?_
              refine k_callVV (n := 2) (As := [.int 6, .int u_65]) (st := []) X [(h0, .inr (11, [.int m_thrown2_1, .ref a_tape, .int 0, .int p0, .int u_65, .int u_66, .int u_68, .int u_69, .int u_70, .int u_72, .int u_62, .int m_trouble2_2, .ref a_letters, .int u_63, .int m_hasHouse, .ref a_r, .ref a_fresh, .ref a_st, .ref a_undone, .ref a_kept, .int m_undos, .int m_images, .ref a_from, .ref a_begin, .ref a_motor, .ref a_change, .ref a_startFrame, .ref a_changeFrame, .ref a_lostAt, .ref a_blackAt, .ref a_slips, .ref a_leftArc, .ref a_died, .ref a_arcs, .int m_bestSum, .int m_nearest, .int m_nearestTown, .ref a_there, .ref a_backAt, .ref a_sorted, .ref a_parts, .int m_seed1, .int m_darkNow]))] [(a_r, .inl (g.2.2.1, 311, .inl d_r)), (a_st, .inl (g.2.2.1, 44, .inl d_st)), (a_tape, .inl (g.2.2.1, 900, .inl d_tape)), (a_letters, .inl (g.2.2.1, 8, .inl uf_61)), (a_fresh, .inl (g.2.2.1, 311, .inl uf_58))] [2] [0, 1, 3, 4, 5] (m_bad l g h0 6 u_65 m_thrown2_1 a_tape 0 p0 u_65 u_66 u_68 u_69 u_70 u_72 u_62 m_trouble2_2 a_letters u_63 m_hasHouse a_r a_fresh a_st a_undone a_kept m_undos m_images a_from a_begin a_motor a_change a_startFrame a_changeFrame a_lostAt a_blackAt a_slips a_leftArc a_died a_arcs m_bestSum m_nearest m_nearestTown a_there a_backAt a_sorted a_parts m_seed1 m_darkNow (iv_w iv_85 (by decide) (by decide))) dX11_house_171 mw519 mw520 mw521 mw5 mw522 rfl 11 rfl rfl 0 _ rfl (by unfold yOk; decide) rfl (Nat.le_of_ble_eq_true rfl) (Nat.le_of_ble_eq_true rfl) (Nat.le_of_ble_eq_true rfl) (Nat.le_of_ble_eq_true rfl) (Nat.le_of_ble_eq_true rfl) rfl rfl (by decide) rfl (by decide) (by decide) ?_
              rintro w ⟨m_failed2_94, m_fault2_95, m_place2_96, iv_98, rfl⟩
              refine k_ws [(a_r, .inl (g.2.2.1, 311, .inl d_r)), (a_st, .inl (g.2.2.1, 44, .inl d_st)), (a_tape, .inl (g.2.2.1, 900, .inl d_tape)), (a_letters, .inl (g.2.2.1, 8, .inl uf_61)), (a_fresh, .inl (g.2.2.1, 311, .inl uf_58)), (h0, .inr (11, [.int m_thrown2_1, .ref a_tape, .int 0, .int p0, .int u_65, .int u_66, .int u_68, .int u_69, .int u_70, .int m_fault2_95, .int m_place2_96, .int m_trouble2_2, .ref a_letters, .int m_failed2_94, .int m_hasHouse, .ref a_r, .ref a_fresh, .ref a_st, .ref a_undone, .ref a_kept, .int m_undos, .int m_images, .ref a_from, .ref a_begin, .ref a_motor, .ref a_change, .ref a_startFrame, .ref a_changeFrame, .ref a_lostAt, .ref a_blackAt, .ref a_slips, .ref a_leftArc, .ref a_died, .ref a_arcs, .int m_bestSum, .int m_nearest, .int m_nearestTown, .ref a_there, .ref a_backAt, .ref a_sorted, .ref a_parts, .int m_seed1, .int m_darkNow]))] rfl ?_
              refine k_aload_n X dX11_house_174 1 rfl ?_
              refine k_get (ci := 11) X inlX11 rfl 13 (by decide) dX11_house_175 mw469 5 rfl rfl ?_
              refine k_if_eq 187 X dX11_house_178 (by decide) (fun h_99 => (iv_eqN h_99 iv_98 (show IV 0 0 0 from (by decide)) (by decide)).elim) (fun h_99 => ?_)
              refine k_aload_n X dX11_house_181 1 rfl ?_
              refine k_iconst (v := 4) X dX11_house_182 (by decide) ?_
              refine k_callVI (n := 1) (As := [.int 4]) (st := []) X [(h0, .inr (11, [.int m_thrown2_1, .ref a_tape, .int 0, .int p0, .int u_65, .int u_66, .int u_68, .int u_69, .int u_70, .int m_fault2_95, .int m_place2_96, .int m_trouble2_2, .ref a_letters, .int m_failed2_94, .int m_hasHouse, .ref a_r, .ref a_fresh, .ref a_st, .ref a_undone, .ref a_kept, .int m_undos, .int m_images, .ref a_from, .ref a_begin, .ref a_motor, .ref a_change, .ref a_startFrame, .ref a_changeFrame, .ref a_lostAt, .ref a_blackAt, .ref a_slips, .ref a_leftArc, .ref a_died, .ref a_arcs, .int m_bestSum, .int m_nearest, .int m_nearestTown, .ref a_there, .ref a_backAt, .ref a_sorted, .ref a_parts, .int m_seed1, .int m_darkNow]))] [(a_r, .inl (g.2.2.1, 311, .inl d_r)), (a_st, .inl (g.2.2.1, 44, .inl d_st)), (a_tape, .inl (g.2.2.1, 900, .inl d_tape)), (a_letters, .inl (g.2.2.1, 8, .inl uf_61)), (a_fresh, .inl (g.2.2.1, 311, .inl uf_58))] [5] [0, 1, 2, 3, 4] (m_no l g h0 4 m_thrown2_1 a_tape 0 p0 u_65 u_66 u_68 u_69 u_70 m_fault2_95 m_place2_96 m_trouble2_2 a_letters m_failed2_94 m_hasHouse a_r a_fresh a_st a_undone a_kept m_undos m_images a_from a_begin a_motor a_change a_startFrame a_changeFrame a_lostAt a_blackAt a_slips a_leftArc a_died a_arcs m_bestSum m_nearest m_nearestTown a_there a_backAt a_sorted a_parts m_seed1 m_darkNow) dX11_house_183 mw485 mw486 mw487 mw5 mw488 rfl 11 rfl rfl 0 _ rfl (by unfold yOk; decide) rfl (Nat.le_of_ble_eq_true rfl) (Nat.le_of_ble_eq_true rfl) (Nat.le_of_ble_eq_true rfl) (Nat.le_of_ble_eq_true rfl) (Nat.le_of_ble_eq_true rfl) rfl rfl (by decide) rfl (by decide) (by decide) ?_
              rintro r_101 w ⟨m_trouble2_100, iv_102, rfl⟩
              refine k_ws [(a_r, .inl (g.2.2.1, 311, .inl d_r)), (a_st, .inl (g.2.2.1, 44, .inl d_st)), (a_tape, .inl (g.2.2.1, 900, .inl d_tape)), (a_letters, .inl (g.2.2.1, 8, .inl uf_61)), (a_fresh, .inl (g.2.2.1, 311, .inl uf_58)), (h0, .inr (11, [.int m_thrown2_1, .ref a_tape, .int 0, .int p0, .int u_65, .int u_66, .int u_68, .int u_69, .int u_70, .int m_fault2_95, .int m_place2_96, .int m_trouble2_100, .ref a_letters, .int m_failed2_94, .int m_hasHouse, .ref a_r, .ref a_fresh, .ref a_st, .ref a_undone, .ref a_kept, .int m_undos, .int m_images, .ref a_from, .ref a_begin, .ref a_motor, .ref a_change, .ref a_startFrame, .ref a_changeFrame, .ref a_lostAt, .ref a_blackAt, .ref a_slips, .ref a_leftArc, .ref a_died, .ref a_arcs, .int m_bestSum, .int m_nearest, .int m_nearestTown, .ref a_there, .ref a_backAt, .ref a_sorted, .ref a_parts, .int m_seed1, .int m_darkNow]))] rfl ?_
              exact k_iret X hr dX11_house_186 (Nat.le_of_ble_eq_true rfl) (Nat.le_of_ble_eq_true rfl) [5, 2, 3, 0, 4, 1] (by decide) rfl rfl ⟨u_65, u_66, m_failed2_94, m_fault2_95, uf_58, m_hasHouse, m_images, uf_61, u_70, m_place2_96, d_r, p0, d_st, 0, m_thrown2_1, u_68, m_trouble2_100, m_undos, u_69, (iv_w hv_67 (by decide) (by decide)), (iv_w iv_98 (by decide) (by decide)), (iv_w hv_m_hasHouse (by decide) (by decide)), (iv_w hv_m_images (by decide) (by decide)), (iv_w hv_71 (by decide) (by decide)), (iv_w iv_13 (by decide) (by decide)), (iv_w (show IV 0 0 0 from (by decide)) (by decide) (by decide)), (iv_w hv_m_undos (by decide) (by decide)), hp_d_r, hp_59, (by refine ⟨fun q => ?_, fun q => ?_⟩ <;> first | rfl | (exfalso; omega)), hr_0, rfl⟩
            · skip
              refine k_aload_n X dX11_house_144 1 rfl ?_
              refine k_get (ci := 11) X inlX11 rfl 16 (by decide) dX11_house_145 mw171 2 rfl rfl ?_
              refine k_bipush (v := 12) X dX11_house_148 (by decide) ?_
              refine k_iald X dX11_house_150 5 rfl (by unfold vp_in; decide) ?_
              refine k_nm (fun z_103 ez_103 => ?_)
              have i_104 : z_103.toInt = (uf_58 12).toInt := by rw [ez_103]; rfl
              have iv_105 : IV z_103 0 8 := rb_12 ez_103 hp_59
              refine k_if_eq 164 X dX11_house_151 (by decide) (fun h_106 => ?_) (fun h_106 => ?_)
              · skip
                have iv_107 : IV z_103 0 0 := iv_meet iv_105 (iv_e h_106 (show IV 0 0 0 from (by decide))) (by decide) (by decide)
                refine k_aload_n X dX11_house_164 1 rfl ?_
                refine k_bipush (v := 6) X dX11_house_165 (by decide) ?_
                refine k_aload_n X dX11_house_167 1 rfl ?_
                refine k_get (ci := 11) X inlX11 rfl 4 (by decide) dX11_house_168 mw473 2 rfl rfl ?_
                refine k_callVV (n := 2) (As := [.int 6, .int u_65]) (st := []) X [(h0, .inr (11, [.int m_thrown2_1, .ref a_tape, .int 0, .int p0, .int u_65, .int u_66, .int u_68, .int u_69, .int u_70, .int u_72, .int u_62, .int m_trouble2_2, .ref a_letters, .int u_63, .int m_hasHouse, .ref a_r, .ref a_fresh, .ref a_st, .ref a_undone, .ref a_kept, .int m_undos, .int m_images, .ref a_from, .ref a_begin, .ref a_motor, .ref a_change, .ref a_startFrame, .ref a_changeFrame, .ref a_lostAt, .ref a_blackAt, .ref a_slips, .ref a_leftArc, .ref a_died, .ref a_arcs, .int m_bestSum, .int m_nearest, .int m_nearestTown, .ref a_there, .ref a_backAt, .ref a_sorted, .ref a_parts, .int m_seed1, .int m_darkNow]))] [(a_r, .inl (g.2.2.1, 311, .inl d_r)), (a_st, .inl (g.2.2.1, 44, .inl d_st)), (a_tape, .inl (g.2.2.1, 900, .inl d_tape)), (a_letters, .inl (g.2.2.1, 8, .inl uf_61)), (a_fresh, .inl (g.2.2.1, 311, .inl uf_58))] [2] [0, 1, 3, 4, 5] (m_bad l g h0 6 u_65 m_thrown2_1 a_tape 0 p0 u_65 u_66 u_68 u_69 u_70 u_72 u_62 m_trouble2_2 a_letters u_63 m_hasHouse a_r a_fresh a_st a_undone a_kept m_undos m_images a_from a_begin a_motor a_change a_startFrame a_changeFrame a_lostAt a_blackAt a_slips a_leftArc a_died a_arcs m_bestSum m_nearest m_nearestTown a_there a_backAt a_sorted a_parts m_seed1 m_darkNow (iv_w iv_85 (by decide) (by decide))) dX11_house_171 mw519 mw520 mw521 mw5 mw522 rfl 11 rfl rfl 0 _ rfl (by unfold yOk; decide) rfl (Nat.le_of_ble_eq_true rfl) (Nat.le_of_ble_eq_true rfl) (Nat.le_of_ble_eq_true rfl) (Nat.le_of_ble_eq_true rfl) (Nat.le_of_ble_eq_true rfl) rfl rfl (by decide) rfl (by decide) (by decide) ?_
                rintro w ⟨m_failed2_108, m_fault2_109, m_place2_110, iv_112, rfl⟩
                refine k_ws [(a_r, .inl (g.2.2.1, 311, .inl d_r)), (a_st, .inl (g.2.2.1, 44, .inl d_st)), (a_tape, .inl (g.2.2.1, 900, .inl d_tape)), (a_letters, .inl (g.2.2.1, 8, .inl uf_61)), (a_fresh, .inl (g.2.2.1, 311, .inl uf_58)), (h0, .inr (11, [.int m_thrown2_1, .ref a_tape, .int 0, .int p0, .int u_65, .int u_66, .int u_68, .int u_69, .int u_70, .int m_fault2_109, .int m_place2_110, .int m_trouble2_2, .ref a_letters, .int m_failed2_108, .int m_hasHouse, .ref a_r, .ref a_fresh, .ref a_st, .ref a_undone, .ref a_kept, .int m_undos, .int m_images, .ref a_from, .ref a_begin, .ref a_motor, .ref a_change, .ref a_startFrame, .ref a_changeFrame, .ref a_lostAt, .ref a_blackAt, .ref a_slips, .ref a_leftArc, .ref a_died, .ref a_arcs, .int m_bestSum, .int m_nearest, .int m_nearestTown, .ref a_there, .ref a_backAt, .ref a_sorted, .ref a_parts, .int m_seed1, .int m_darkNow]))] rfl ?_
                refine k_aload_n X dX11_house_174 1 rfl ?_
                refine k_get (ci := 11) X inlX11 rfl 13 (by decide) dX11_house_175 mw469 5 rfl rfl ?_
                refine k_if_eq 187 X dX11_house_178 (by decide) (fun h_113 => (iv_eqN h_113 iv_112 (show IV 0 0 0 from (by decide)) (by decide)).elim) (fun h_113 => ?_)
                refine k_aload_n X dX11_house_181 1 rfl ?_
                refine k_iconst (v := 4) X dX11_house_182 (by decide) ?_
                refine k_callVI (n := 1) (As := [.int 4]) (st := []) X [(h0, .inr (11, [.int m_thrown2_1, .ref a_tape, .int 0, .int p0, .int u_65, .int u_66, .int u_68, .int u_69, .int u_70, .int m_fault2_109, .int m_place2_110, .int m_trouble2_2, .ref a_letters, .int m_failed2_108, .int m_hasHouse, .ref a_r, .ref a_fresh, .ref a_st, .ref a_undone, .ref a_kept, .int m_undos, .int m_images, .ref a_from, .ref a_begin, .ref a_motor, .ref a_change, .ref a_startFrame, .ref a_changeFrame, .ref a_lostAt, .ref a_blackAt, .ref a_slips, .ref a_leftArc, .ref a_died, .ref a_arcs, .int m_bestSum, .int m_nearest, .int m_nearestTown, .ref a_there, .ref a_backAt, .ref a_sorted, .ref a_parts, .int m_seed1, .int m_darkNow]))] [(a_r, .inl (g.2.2.1, 311, .inl d_r)), (a_st, .inl (g.2.2.1, 44, .inl d_st)), (a_tape, .inl (g.2.2.1, 900, .inl d_tape)), (a_letters, .inl (g.2.2.1, 8, .inl uf_61)), (a_fresh, .inl (g.2.2.1, 311, .inl uf_58))] [5] [0, 1, 2, 3, 4] (m_no l g h0 4 m_thrown2_1 a_tape 0 p0 u_65 u_66 u_68 u_69 u_70 m_fault2_109 m_place2_110 m_trouble2_2 a_letters m_failed2_108 m_hasHouse a_r a_fresh a_st a_undone a_kept m_undos m_images a_from a_begin a_motor a_change a_startFrame a_changeFrame a_lostAt a_blackAt a_slips a_leftArc a_died a_arcs m_bestSum m_nearest m_nearestTown a_there a_backAt a_sorted a_parts m_seed1 m_darkNow) dX11_house_183 mw485 mw486 mw487 mw5 mw488 rfl 11 rfl rfl 0 _ rfl (by unfold yOk; decide) rfl (Nat.le_of_ble_eq_true rfl) (Nat.le_of_ble_eq_true rfl) (Nat.le_of_ble_eq_true rfl) (Nat.le_of_ble_eq_true rfl) (Nat.le_of_ble_eq_true rfl) rfl rfl (by decide) rfl (by decide) (by decide) ?_
                rintro r_115 w ⟨m_trouble2_114, iv_116, rfl⟩
                refine k_ws [(a_r, .inl (g.2.2.1, 311, .inl d_r)), (a_st, .inl (g.2.2.1, 44, .inl d_st)), (a_tape, .inl (g.2.2.1, 900, .inl d_tape)), (a_letters, .inl (g.2.2.1, 8, .inl uf_61)), (a_fresh, .inl (g.2.2.1, 311, .inl uf_58)), (h0, .inr (11, [.int m_thrown2_1, .ref a_tape, .int 0, .int p0, .int u_65, .int u_66, .int u_68, .int u_69, .int u_70, .int m_fault2_109, .int m_place2_110, .int m_trouble2_114, .ref a_letters, .int m_failed2_108, .int m_hasHouse, .ref a_r, .ref a_fresh, .ref a_st, .ref a_undone, .ref a_kept, .int m_undos, .int m_images, .ref a_from, .ref a_begin, .ref a_motor, .ref a_change, .ref a_startFrame, .ref a_changeFrame, .ref a_lostAt, .ref a_blackAt, .ref a_slips, .ref a_leftArc, .ref a_died, .ref a_arcs, .int m_bestSum, .int m_nearest, .int m_nearestTown, .ref a_there, .ref a_backAt, .ref a_sorted, .ref a_parts, .int m_seed1, .int m_darkNow]))] rfl ?_
                exact k_iret X hr dX11_house_186 (Nat.le_of_ble_eq_true rfl) (Nat.le_of_ble_eq_true rfl) [5, 2, 3, 0, 4, 1] (by decide) rfl rfl ⟨u_65, u_66, m_failed2_108, m_fault2_109, uf_58, m_hasHouse, m_images, uf_61, u_70, m_place2_110, d_r, p0, d_st, 0, m_thrown2_1, u_68, m_trouble2_114, m_undos, u_69, (iv_w hv_67 (by decide) (by decide)), (iv_w iv_112 (by decide) (by decide)), (iv_w hv_m_hasHouse (by decide) (by decide)), (iv_w hv_m_images (by decide) (by decide)), (iv_w hv_71 (by decide) (by decide)), (iv_w iv_13 (by decide) (by decide)), (iv_w (show IV 0 0 0 from (by decide)) (by decide) (by decide)), (iv_w hv_m_undos (by decide) (by decide)), hp_d_r, hp_59, (by refine ⟨fun q => ?_, fun q => ?_⟩ <;> first | rfl | (exfalso; omega)), hr_0, rfl⟩
              · skip
                have iv_117 : IV z_103 1 8 := iv_neL h_106 iv_105 (show IV 0 0 0 from (by decide)) (by decide)
                refine k_aload_n X dX11_house_154 1 rfl ?_
                refine k_get (ci := 11) X inlX11 rfl 16 (by decide) dX11_house_155 mw171 2 rfl rfl ?_
                refine k_bipush (v := 11) X dX11_house_158 (by decide) ?_
                refine k_iald X dX11_house_160 5 rfl (by unfold vp_in; decide) ?_
                refine k_nm (fun z_118 ez_118 => ?_)
                have i_119 : z_118.toInt = (uf_58 11).toInt := by rw [ez_118]; rfl
                have iv_120 : IV z_118 0 4 := rb_11 ez_118 hp_59
                refine k_if_ne 174 X dX11_house_161 (by decide) (fun h_121 => ?_) (fun h_121 => ?_)
                · skip
                  have iv_122 : IV z_118 1 4 := iv_neL h_121 iv_120 (show IV 0 0 0 from (by decide)) (by decide)
                  refine k_aload_n X dX11_house_174 1 rfl ?_
                  refine k_get (ci := 11) X inlX11 rfl 13 (by decide) dX11_house_175 mw469 2 rfl rfl ?_
                  refine k_if_eq 187 X dX11_house_178 (by decide) (fun h_123 => ?_) (fun h_123 => absurd (iv_eq iv_85 (show IV 0 0 0 from (by decide))) h_123)
                  refine k_aload_n X dX11_house_187 1 rfl ?_
                  refine k_get (ci := 11) X inlX11 rfl 16 (by decide) dX11_house_188 mw171 2 rfl rfl ?_
                  refine k_iconst (v := 0) X dX11_house_191 (by decide) ?_
                  refine k_aload_n X dX11_house_192 1 rfl ?_
                  refine k_get (ci := 11) X inlX11 rfl 15 (by decide) dX11_house_193 mw170 2 rfl rfl ?_
                  refine k_iconst (v := 0) X dX11_house_196 (by decide) ?_
                  refine k_sipush (v := 311) X dX11_house_197 (by decide) ?_
                  refine k_callSV (n := 5) (As := [.ref a_fresh, .int 0, .ref a_r, .int 0, .int 311]) (st := []) X [(a_fresh, .inl (g.2.2.1, 311, .inl uf_58)), (a_r, .inl (g.2.2.1, 311, .inl d_r))] [(a_st, .inl (g.2.2.1, 44, .inl d_st)), (h0, .inr (11, [.int m_thrown2_1, .ref a_tape, .int 0, .int p0, .int u_65, .int u_66, .int u_68, .int u_69, .int u_70, .int u_72, .int u_62, .int m_trouble2_2, .ref a_letters, .int u_63, .int m_hasHouse, .ref a_r, .ref a_fresh, .ref a_st, .ref a_undone, .ref a_kept, .int m_undos, .int m_images, .ref a_from, .ref a_begin, .ref a_motor, .ref a_change, .ref a_startFrame, .ref a_changeFrame, .ref a_lostAt, .ref a_blackAt, .ref a_slips, .ref a_leftArc, .ref a_died, .ref a_arcs, .int m_bestSum, .int m_nearest, .int m_nearestTown, .ref a_there, .ref a_backAt, .ref a_sorted, .ref a_parts, .int m_seed1, .int m_darkNow])), (a_tape, .inl (g.2.2.1, 900, .inl d_tape)), (a_letters, .inl (g.2.2.1, 8, .inl uf_61))] [5, 0] [1, 2, 3, 4] (m_copyR l g a_fresh a_r uf_58 d_r hp_59) dX11_house_200 mw619 mw620 mw5 mw621 (by unfold yOk; decide) rfl (Nat.le_of_ble_eq_true rfl) (Nat.le_of_ble_eq_true rfl) (Nat.le_of_ble_eq_true rfl) (Nat.le_of_ble_eq_true rfl) (Nat.le_of_ble_eq_true rfl) rfl rfl (by decide) rfl (by decide) (by decide) ?_
                  rintro w ⟨f3_124, hq_126, hq_127, rfl⟩
                  refine k_ws [(a_st, .inl (g.2.2.1, 44, .inl d_st)), (h0, .inr (11, [.int m_thrown2_1, .ref a_tape, .int 0, .int p0, .int u_65, .int u_66, .int u_68, .int u_69, .int u_70, .int u_72, .int u_62, .int m_trouble2_2, .ref a_letters, .int u_63, .int m_hasHouse, .ref a_r, .ref a_fresh, .ref a_st, .ref a_undone, .ref a_kept, .int m_undos, .int m_images, .ref a_from, .ref a_begin, .ref a_motor, .ref a_change, .ref a_startFrame, .ref a_changeFrame, .ref a_lostAt, .ref a_blackAt, .ref a_slips, .ref a_leftArc, .ref a_died, .ref a_arcs, .int m_bestSum, .int m_nearest, .int m_nearestTown, .ref a_there, .ref a_backAt, .ref a_sorted, .ref a_parts, .int m_seed1, .int m_darkNow])), (a_tape, .inl (g.2.2.1, 900, .inl d_tape)), (a_letters, .inl (g.2.2.1, 8, .inl uf_61)), (a_fresh, .inl (g.2.2.1, 311, .inl uf_58)), (a_r, .inl (g.2.2.1, 311, .inl f3_124))] rfl ?_
                  have hT_128 : TRI f3_124 := hq_127 hT_60
                  refine k_iconst (v := 0) X dX11_house_203 (by decide) ?_
                  refine k_istore_n [(2, .int 0), (0, .ref h0), (1, .int p0)] X dX11_house_204 (by decide) rfl ?_
                  refine (fun hL : ∀ (nn_132 : Nat) (uf_129 : Nat → Int32) (u_130 : Int32), (44 - u_130.toInt).toNat = nn_132 → (IV u_130 0 255) → Wk p l e _ s m args below meth c _ A g _ _ _ [(a_st, .inl (g.2.2.1, 44, .inl uf_129)), (h0, .inr (11, [.int m_thrown2_1, .ref a_tape, .int 0, .int p0, .int u_65, .int u_66, .int u_68, .int u_69, .int u_70, .int u_72, .int u_62, .int m_trouble2_2, .ref a_letters, .int u_63, .int m_hasHouse, .ref a_r, .ref a_fresh, .ref a_st, .ref a_undone, .ref a_kept, .int m_undos, .int m_images, .ref a_from, .ref a_begin, .ref a_motor, .ref a_change, .ref a_startFrame, .ref a_changeFrame, .ref a_lostAt, .ref a_blackAt, .ref a_slips, .ref a_leftArc, .ref a_died, .ref a_arcs, .int m_bestSum, .int m_nearest, .int m_nearestTown, .ref a_there, .ref a_backAt, .ref a_sorted, .ref a_parts, .int m_seed1, .int m_darkNow])), (a_tape, .inl (g.2.2.1, 900, .inl d_tape)), (a_letters, .inl (g.2.2.1, 8, .inl uf_61)), (a_fresh, .inl (g.2.2.1, 311, .inl uf_58)), (a_r, .inl (g.2.2.1, 311, .inl f3_124))] [(2, .int u_130), (0, .ref h0), (1, .int p0)] 205 [] => hL _ d_st 0 rfl (iv_w (show IV 0 0 0 from (by decide)) (by decide) (by decide))) ?_
                  refine fun nn_132 => Nat.strongRecOn nn_132 (fun nn_132 ih_134 => ?_)
                  intro uf_129 u_130 hm_133 hv_131
                  refine k_iload_n X dX11_house_205 0 rfl ?_
                  refine k_bipush (v := 44) X dX11_house_206 (by decide) ?_
                  refine k_ic_ge 224 X dX11_house_208 (by decide) (fun h_135 => ?_) (fun h_135 => ?_)
                  · skip
                    have j_136 : 44 ≤ u_130.toInt := iv_le h_135
                    have iv_137 : IV u_130 44 255 := iv_leR (iv_le h_135) (show IV 44 44 44 from (by decide)) hv_131 (by decide)
                    refine k_iconst (v := 0) X dX11_house_224 (by decide) ?_
                    refine k_istore_n [(2, .int 0), (0, .ref h0), (1, .int p0)] X dX11_house_225 (by decide) rfl ?_
                    refine (fun hL : ∀ (nn_141 : Nat) (uf_138 : Nat → Int32) (u_139 : Int32), (2147483647 - u_139.toInt).toNat = nn_141 → (IV u_139 0 8) → Wk p l e _ s m args below meth c _ A g _ _ _ [(a_st, .inl (g.2.2.1, 44, .inl uf_138)), (h0, .inr (11, [.int m_thrown2_1, .ref a_tape, .int 0, .int p0, .int u_65, .int u_66, .int u_68, .int u_69, .int u_70, .int u_72, .int u_62, .int m_trouble2_2, .ref a_letters, .int u_63, .int m_hasHouse, .ref a_r, .ref a_fresh, .ref a_st, .ref a_undone, .ref a_kept, .int m_undos, .int m_images, .ref a_from, .ref a_begin, .ref a_motor, .ref a_change, .ref a_startFrame, .ref a_changeFrame, .ref a_lostAt, .ref a_blackAt, .ref a_slips, .ref a_leftArc, .ref a_died, .ref a_arcs, .int m_bestSum, .int m_nearest, .int m_nearestTown, .ref a_there, .ref a_backAt, .ref a_sorted, .ref a_parts, .int m_seed1, .int m_darkNow])), (a_tape, .inl (g.2.2.1, 900, .inl d_tape)), (a_letters, .inl (g.2.2.1, 8, .inl uf_61)), (a_fresh, .inl (g.2.2.1, 311, .inl uf_58)), (a_r, .inl (g.2.2.1, 311, .inl f3_124))] [(2, .int u_139), (0, .ref h0), (1, .int p0)] 226 [] => hL _ uf_129 0 rfl (iv_w (show IV 0 0 0 from (by decide)) (by decide) (by decide))) ?_
                    refine fun nn_141 => Nat.strongRecOn nn_141 (fun nn_141 ih_143 => ?_)
                    intro uf_138 u_139 hm_142 hv_140
                    refine k_iload_n X dX11_house_226 0 rfl ?_
                    refine k_aload_n X dX11_house_227 1 rfl ?_
                    refine k_get (ci := 11) X inlX11 rfl 15 (by decide) dX11_house_228 mw170 1 rfl rfl ?_
                    refine k_bipush (v := 6) X dX11_house_231 (by decide) ?_
                    refine k_iald X dX11_house_233 5 rfl (by unfold vp_in; decide) ?_
                    refine k_nm (fun z_144 ez_144 => ?_)
                    have i_145 : z_144.toInt = (f3_124 6).toInt := by rw [ez_144]; rfl
                    have iv_146 : IV z_144 0 8 := rb_6 ez_144 hq_126
                    refine k_ic_ge 284 X dX11_house_234 (by decide) (fun h_147 => ?_) (fun h_147 => ?_)
                    · skip
                      have j_148 : z_144.toInt ≤ u_139.toInt := iv_le h_147
                      refine k_iconst (v := 0) X dX11_house_284 (by decide) ?_
                      refine k_istore_n [(2, .int 0), (0, .ref h0), (1, .int p0)] X dX11_house_285 (by decide) rfl ?_
                      refine (fun hL : ∀ (nn_152 : Nat) (uf_149 : Nat → Int32) (u_150 : Int32), (2147483647 - u_150.toInt).toNat = nn_152 → (IV u_150 0 255) → Wk p l e _ s m args below meth c _ A g _ _ _ [(a_st, .inl (g.2.2.1, 44, .inl uf_149)), (h0, .inr (11, [.int m_thrown2_1, .ref a_tape, .int 0, .int p0, .int u_65, .int u_66, .int u_68, .int u_69, .int u_70, .int u_72, .int u_62, .int m_trouble2_2, .ref a_letters, .int u_63, .int m_hasHouse, .ref a_r, .ref a_fresh, .ref a_st, .ref a_undone, .ref a_kept, .int m_undos, .int m_images, .ref a_from, .ref a_begin, .ref a_motor, .ref a_change, .ref a_startFrame, .ref a_changeFrame, .ref a_lostAt, .ref a_blackAt, .ref a_slips, .ref a_leftArc, .ref a_died, .ref a_arcs, .int m_bestSum, .int m_nearest, .int m_nearestTown, .ref a_there, .ref a_backAt, .ref a_sorted, .ref a_parts, .int m_seed1, .int m_darkNow])), (a_tape, .inl (g.2.2.1, 900, .inl d_tape)), (a_letters, .inl (g.2.2.1, 8, .inl uf_61)), (a_fresh, .inl (g.2.2.1, 311, .inl uf_58)), (a_r, .inl (g.2.2.1, 311, .inl f3_124))] [(2, .int u_150), (0, .ref h0), (1, .int p0)] 286 [] => hL _ uf_138 0 rfl (iv_w (show IV 0 0 0 from (by decide)) (by decide) (by decide))) ?_
                      refine fun nn_152 => Nat.strongRecOn nn_152 (fun nn_152 ih_154 => ?_)
                      intro uf_149 u_150 hm_153 hv_151
                      refine k_iload_n X dX11_house_286 0 rfl ?_
                      refine k_aload_n X dX11_house_287 1 rfl ?_
                      refine k_get (ci := 11) X inlX11 rfl 15 (by decide) dX11_house_288 mw170 1 rfl rfl ?_
                      refine k_bipush (v := 8) X dX11_house_291 (by decide) ?_
                      refine k_iald X dX11_house_293 5 rfl (by unfold vp_in; decide) ?_
                      refine k_nm (fun z_155 ez_155 => ?_)
                      have i_156 : z_155.toInt = (f3_124 8).toInt := by rw [ez_155]; rfl
                      have iv_157 : IV z_155 0 12 := rb_8 ez_155 hq_126
                      refine k_ic_ge 325 X dX11_house_294 (by decide) (fun h_158 => ?_) (fun h_158 => ?_)
                      · skip
                        have j_159 : z_155.toInt ≤ u_150.toInt := iv_le h_158
                        refine k_iconst (v := 0) X dX11_house_325 (by decide) ?_
                        refine k_istore_n [(2, .int 0), (0, .ref h0), (1, .int p0)] X dX11_house_326 (by decide) rfl ?_
                        refine (fun hL : ∀ (nn_163 : Nat) (uf_160 : Nat → Int32) (u_161 : Int32), (2147483647 - u_161.toInt).toNat = nn_163 → (IV u_161 0 8) → Wk p l e _ s m args below meth c _ A g _ _ _ [(a_st, .inl (g.2.2.1, 44, .inl uf_160)), (h0, .inr (11, [.int m_thrown2_1, .ref a_tape, .int 0, .int p0, .int u_65, .int u_66, .int u_68, .int u_69, .int u_70, .int u_72, .int u_62, .int m_trouble2_2, .ref a_letters, .int u_63, .int m_hasHouse, .ref a_r, .ref a_fresh, .ref a_st, .ref a_undone, .ref a_kept, .int m_undos, .int m_images, .ref a_from, .ref a_begin, .ref a_motor, .ref a_change, .ref a_startFrame, .ref a_changeFrame, .ref a_lostAt, .ref a_blackAt, .ref a_slips, .ref a_leftArc, .ref a_died, .ref a_arcs, .int m_bestSum, .int m_nearest, .int m_nearestTown, .ref a_there, .ref a_backAt, .ref a_sorted, .ref a_parts, .int m_seed1, .int m_darkNow])), (a_tape, .inl (g.2.2.1, 900, .inl d_tape)), (a_letters, .inl (g.2.2.1, 8, .inl uf_61)), (a_fresh, .inl (g.2.2.1, 311, .inl uf_58)), (a_r, .inl (g.2.2.1, 311, .inl f3_124))] [(2, .int u_161), (0, .ref h0), (1, .int p0)] 327 [] => hL _ uf_149 0 rfl (iv_w (show IV 0 0 0 from (by decide)) (by decide) (by decide))) ?_
                        refine fun nn_163 => Nat.strongRecOn nn_163 (fun nn_163 ih_165 => ?_)
                        intro uf_160 u_161 hm_164 hv_162
                        refine k_iload_n X dX11_house_327 0 rfl ?_
                        refine k_aload_n X dX11_house_328 1 rfl ?_
                        refine k_get (ci := 11) X inlX11 rfl 15 (by decide) dX11_house_329 mw170 1 rfl rfl ?_
                        refine k_bipush (v := 10) X dX11_house_332 (by decide) ?_
                        refine k_iald X dX11_house_334 5 rfl (by unfold vp_in; decide) ?_
                        refine k_nm (fun z_166 ez_166 => ?_)
                        have i_167 : z_166.toInt = (f3_124 10).toInt := by rw [ez_166]; rfl
                        have iv_168 : IV z_166 0 6 := rb_10 ez_166 hq_126
                        refine k_ic_ge 366 X dX11_house_335 (by decide) (fun h_169 => ?_) (fun h_169 => ?_)
                        · skip
                          have j_170 : z_166.toInt ≤ u_161.toInt := iv_le h_169
                          refine k_iconst (v := 0) X dX11_house_366 (by decide) ?_
                          refine k_istore_n [(2, .int 0), (0, .ref h0), (1, .int p0)] X dX11_house_367 (by decide) rfl ?_
                          refine (fun hL : ∀ (nn_174 : Nat) (uf_171 : Nat → Int32) (u_172 : Int32), (2147483647 - u_172.toInt).toNat = nn_174 → (IV u_172 0 8) → Wk p l e _ s m args below meth c _ A g _ _ _ [(a_st, .inl (g.2.2.1, 44, .inl uf_171)), (h0, .inr (11, [.int m_thrown2_1, .ref a_tape, .int 0, .int p0, .int u_65, .int u_66, .int u_68, .int u_69, .int u_70, .int u_72, .int u_62, .int m_trouble2_2, .ref a_letters, .int u_63, .int m_hasHouse, .ref a_r, .ref a_fresh, .ref a_st, .ref a_undone, .ref a_kept, .int m_undos, .int m_images, .ref a_from, .ref a_begin, .ref a_motor, .ref a_change, .ref a_startFrame, .ref a_changeFrame, .ref a_lostAt, .ref a_blackAt, .ref a_slips, .ref a_leftArc, .ref a_died, .ref a_arcs, .int m_bestSum, .int m_nearest, .int m_nearestTown, .ref a_there, .ref a_backAt, .ref a_sorted, .ref a_parts, .int m_seed1, .int m_darkNow])), (a_tape, .inl (g.2.2.1, 900, .inl d_tape)), (a_letters, .inl (g.2.2.1, 8, .inl uf_61)), (a_fresh, .inl (g.2.2.1, 311, .inl uf_58)), (a_r, .inl (g.2.2.1, 311, .inl f3_124))] [(2, .int u_172), (0, .ref h0), (1, .int p0)] 368 [] => hL _ uf_160 0 rfl (iv_w (show IV 0 0 0 from (by decide)) (by decide) (by decide))) ?_
                          refine fun nn_174 => Nat.strongRecOn nn_174 (fun nn_174 ih_176 => ?_)
                          intro uf_171 u_172 hm_175 hv_173
                          refine k_iload_n X dX11_house_368 0 rfl ?_
                          refine k_aload_n X dX11_house_369 1 rfl ?_
                          refine k_get (ci := 11) X inlX11 rfl 15 (by decide) dX11_house_370 mw170 1 rfl rfl ?_
                          refine k_bipush (v := 12) X dX11_house_373 (by decide) ?_
                          refine k_iald X dX11_house_375 5 rfl (by unfold vp_in; decide) ?_
                          refine k_nm (fun z_177 ez_177 => ?_)
                          have i_178 : z_177.toInt = (f3_124 12).toInt := by rw [ez_177]; rfl
                          have iv_179 : IV z_177 0 8 := rb_12 ez_177 hq_126
                          refine k_ic_ge 400 X dX11_house_376 (by decide) (fun h_180 => ?_) (fun h_180 => ?_)
                          · skip
                            have j_181 : z_177.toInt ≤ u_172.toInt := iv_le h_180
                            refine k_aload_n X dX11_house_400 1 rfl ?_
                            refine k_iconst (v := 1) X dX11_house_401 (by decide) ?_
                            refine k_put (ci := 11) [(a_st, .inl (g.2.2.1, 44, .inl uf_171)), (h0, .inr (11, [.int m_thrown2_1, .ref a_tape, .int 0, .int p0, .int u_65, .int u_66, .int u_68, .int u_69, .int u_70, .int u_72, .int u_62, .int m_trouble2_2, .ref a_letters, .int u_63, .int 1, .ref a_r, .ref a_fresh, .ref a_st, .ref a_undone, .ref a_kept, .int m_undos, .int m_images, .ref a_from, .ref a_begin, .ref a_motor, .ref a_change, .ref a_startFrame, .ref a_changeFrame, .ref a_lostAt, .ref a_blackAt, .ref a_slips, .ref a_leftArc, .ref a_died, .ref a_arcs, .int m_bestSum, .int m_nearest, .int m_nearestTown, .ref a_there, .ref a_backAt, .ref a_sorted, .ref a_parts, .int m_seed1, .int m_darkNow])), (a_tape, .inl (g.2.2.1, 900, .inl d_tape)), (a_letters, .inl (g.2.2.1, 8, .inl uf_61)), (a_fresh, .inl (g.2.2.1, 311, .inl uf_58)), (a_r, .inl (g.2.2.1, 311, .inl f3_124))] X inlX11 rfl tyX11_ok nmX11 14 (by decide) rfl dX11_house_402 mw474 1 rfl (by decide) (by decide) (Nat.le_of_ble_eq_true rfl) rfl ?_
                            refine k_aload_n X dX11_house_405 1 rfl ?_
                            refine k_iconst (v := 0) X dX11_house_406 (by decide) ?_
                            refine k_put (ci := 11) [(a_st, .inl (g.2.2.1, 44, .inl uf_171)), (h0, .inr (11, [.int m_thrown2_1, .ref a_tape, .int 0, .int p0, .int u_65, .int u_66, .int u_68, .int u_69, .int u_70, .int u_72, .int u_62, .int m_trouble2_2, .ref a_letters, .int u_63, .int 1, .ref a_r, .ref a_fresh, .ref a_st, .ref a_undone, .ref a_kept, .int 0, .int m_images, .ref a_from, .ref a_begin, .ref a_motor, .ref a_change, .ref a_startFrame, .ref a_changeFrame, .ref a_lostAt, .ref a_blackAt, .ref a_slips, .ref a_leftArc, .ref a_died, .ref a_arcs, .int m_bestSum, .int m_nearest, .int m_nearestTown, .ref a_there, .ref a_backAt, .ref a_sorted, .ref a_parts, .int m_seed1, .int m_darkNow])), (a_tape, .inl (g.2.2.1, 900, .inl d_tape)), (a_letters, .inl (g.2.2.1, 8, .inl uf_61)), (a_fresh, .inl (g.2.2.1, 311, .inl uf_58)), (a_r, .inl (g.2.2.1, 311, .inl f3_124))] X inlX11 rfl tyX11_ok nmX11 20 (by decide) rfl dX11_house_407 mw475 1 rfl rfl rfl (Nat.le_of_ble_eq_true rfl) rfl ?_
                            refine k_aload_n X dX11_house_410 1 rfl ?_
                            refine k_iconst (v := 0) X dX11_house_411 (by decide) ?_
                            refine k_put (ci := 11) [(a_st, .inl (g.2.2.1, 44, .inl uf_171)), (h0, .inr (11, [.int m_thrown2_1, .ref a_tape, .int 0, .int p0, .int u_65, .int u_66, .int u_68, .int u_69, .int u_70, .int u_72, .int u_62, .int m_trouble2_2, .ref a_letters, .int u_63, .int 1, .ref a_r, .ref a_fresh, .ref a_st, .ref a_undone, .ref a_kept, .int 0, .int 0, .ref a_from, .ref a_begin, .ref a_motor, .ref a_change, .ref a_startFrame, .ref a_changeFrame, .ref a_lostAt, .ref a_blackAt, .ref a_slips, .ref a_leftArc, .ref a_died, .ref a_arcs, .int m_bestSum, .int m_nearest, .int m_nearestTown, .ref a_there, .ref a_backAt, .ref a_sorted, .ref a_parts, .int m_seed1, .int m_darkNow])), (a_tape, .inl (g.2.2.1, 900, .inl d_tape)), (a_letters, .inl (g.2.2.1, 8, .inl uf_61)), (a_fresh, .inl (g.2.2.1, 311, .inl uf_58)), (a_r, .inl (g.2.2.1, 311, .inl f3_124))] X inlX11 rfl tyX11_ok nmX11 21 (by decide) rfl dX11_house_412 mw476 1 rfl rfl rfl (Nat.le_of_ble_eq_true rfl) rfl ?_
                            refine k_aload_n X dX11_house_415 1 rfl ?_
                            refine k_get (ci := 11) X inlX11 rfl 15 (by decide) dX11_house_416 mw170 1 rfl rfl ?_
                            refine k_bipush (v := 12) X dX11_house_419 (by decide) ?_
                            refine k_iald X dX11_house_421 5 rfl (by unfold vp_in; decide) ?_
                            refine k_to z_177 ez_177.symm ?_
                            exact k_iret X hr dX11_house_422 (Nat.le_of_ble_eq_true rfl) (Nat.le_of_ble_eq_true rfl) [1, 2, 3, 5, 4, 0] (by decide) rfl rfl ⟨u_65, u_66, u_63, u_72, uf_58, 1, 0, uf_61, u_70, u_62, f3_124, p0, uf_171, 0, m_thrown2_1, u_68, m_trouble2_2, 0, u_69, (iv_w hv_67 (by decide) (by decide)), (iv_w iv_85 (by decide) (by decide)), (iv_w (show IV 1 1 1 from (by decide)) (by decide) (by decide)), (iv_w (show IV 0 0 0 from (by decide)) (by decide) (by decide)), (iv_w hv_71 (by decide) (by decide)), (iv_w iv_13 (by decide) (by decide)), (iv_w (show IV 0 0 0 from (by decide)) (by decide) (by decide)), (iv_w (show IV 0 0 0 from (by decide)) (by decide) (by decide)), hq_126, hp_59, (by refine ⟨fun q => ?_, fun q => ?_⟩ <;> first | rfl | (exfalso; omega)), hT_128, rfl⟩
                          · skip
                            have j_182 : u_172.toInt < z_177.toInt := iv_nle h_180
                            have iv_183 : IV u_172 0 7 := iv_ltL (iv_nle h_180) hv_173 iv_179 (by decide)
                            have iv_184 : IV z_177 1 8 := iv_ltR (iv_nle h_180) hv_173 iv_179 (by decide)
                            refine k_aload_n X dX11_house_379 1 rfl ?_
                            refine k_get (ci := 11) X inlX11 rfl 17 (by decide) dX11_house_380 mw172 1 rfl rfl ?_
                            refine k_bipush (v := 34) X dX11_house_383 (by decide) ?_
                            refine k_iload_n X dX11_house_385 0 rfl ?_
                            refine k_iadd X dX11_house_386 ?_
                            refine k_nm (fun z_185 ez_185 => ?_)
                            have i_186 : z_185.toInt = 34 + u_172.toInt := in_add ez_185 (show IV 34 34 34 from (by decide)) iv_183 (by decide) (by decide)
                            have iv_187 : IV z_185 34 41 := by have := (show IV 34 34 34 from (by decide)); have := iv_183; rw [IV, i_186]; omega
                            refine k_aload_n X dX11_house_387 1 rfl ?_
                            refine k_get (ci := 11) X inlX11 rfl 15 (by decide) dX11_house_388 mw170 1 rfl rfl ?_
                            refine k_iconst (v := 2) X dX11_house_391 (by decide) ?_
                            refine k_iald X dX11_house_392 5 rfl (by unfold vp_in; decide) ?_
                            refine k_nm (fun z_188 ez_188 => ?_)
                            refine k_iast [(a_st, .inl (g.2.2.1, 44, .inl (upd uf_171 (z_185 : Int32).toNatClampNeg z_188))), (h0, .inr (11, [.int m_thrown2_1, .ref a_tape, .int 0, .int p0, .int u_65, .int u_66, .int u_68, .int u_69, .int u_70, .int u_72, .int u_62, .int m_trouble2_2, .ref a_letters, .int u_63, .int m_hasHouse, .ref a_r, .ref a_fresh, .ref a_st, .ref a_undone, .ref a_kept, .int m_undos, .int m_images, .ref a_from, .ref a_begin, .ref a_motor, .ref a_change, .ref a_startFrame, .ref a_changeFrame, .ref a_lostAt, .ref a_blackAt, .ref a_slips, .ref a_leftArc, .ref a_died, .ref a_arcs, .int m_bestSum, .int m_nearest, .int m_nearestTown, .ref a_there, .ref a_backAt, .ref a_sorted, .ref a_parts, .int m_seed1, .int m_darkNow])), (a_tape, .inl (g.2.2.1, 900, .inl d_tape)), (a_letters, .inl (g.2.2.1, 8, .inl uf_61)), (a_fresh, .inl (g.2.2.1, 311, .inl uf_58)), (a_r, .inl (g.2.2.1, 311, .inl f3_124))] X dX11_house_393 0 rfl (iv_in iv_187 (by decide) (by decide)) rfl ?_
                            refine (fun hg : ∀ fa_189 : Nat → Int32, Wk p l e _ s m args below meth c _ A g _ _ _ [(a_st, .inl (g.2.2.1, 44, .inl fa_189)), (h0, .inr (11, [.int m_thrown2_1, .ref a_tape, .int 0, .int p0, .int u_65, .int u_66, .int u_68, .int u_69, .int u_70, .int u_72, .int u_62, .int m_trouble2_2, .ref a_letters, .int u_63, .int m_hasHouse, .ref a_r, .ref a_fresh, .ref a_st, .ref a_undone, .ref a_kept, .int m_undos, .int m_images, .ref a_from, .ref a_begin, .ref a_motor, .ref a_change, .ref a_startFrame, .ref a_changeFrame, .ref a_lostAt, .ref a_blackAt, .ref a_slips, .ref a_leftArc, .ref a_died, .ref a_arcs, .int m_bestSum, .int m_nearest, .int m_nearestTown, .ref a_there, .ref a_backAt, .ref a_sorted, .ref a_parts, .int m_seed1, .int m_darkNow])), (a_tape, .inl (g.2.2.1, 900, .inl d_tape)), (a_letters, .inl (g.2.2.1, 8, .inl uf_61)), (a_fresh, .inl (g.2.2.1, 311, .inl uf_58)), (a_r, .inl (g.2.2.1, 311, .inl f3_124))] _ _ _ => hg _) (fun fa_189 => ?_)
                            obtain ⟨z_190, ez_190⟩ : ∃ y : Int32, u_172 + Int32.ofInt 1 = y := ⟨_, rfl⟩
                            refine k_iinc z_190 [(2, .int z_190), (0, .ref h0), (1, .int p0)] 0 X dX11_house_394 rfl ez_190 (by decide) rfl ?_
                            have i_191 : z_190.toInt = u_172.toInt + 1 := in_inc ez_190 (by decide) iv_183 (by decide) (by decide)
                            have iv_192 : IV z_190 1 8 := by have := iv_183; rw [IV, i_191]; omega
                            refine k_goto 368 X dX11_house_397 (by decide) ?_
                            exact ih_176 _ (by omega) fa_189 z_190 rfl (iv_w iv_192 (by decide) (by decide))
                        · skip
                          have j_193 : u_161.toInt < z_166.toInt := iv_nle h_169
                          have iv_194 : IV u_161 0 5 := iv_ltL (iv_nle h_169) hv_162 iv_168 (by decide)
                          have iv_195 : IV z_166 1 6 := iv_ltR (iv_nle h_169) hv_162 iv_168 (by decide)
                          refine k_aload_n X dX11_house_338 1 rfl ?_
                          refine k_get (ci := 11) X inlX11 rfl 17 (by decide) dX11_house_339 mw172 1 rfl rfl ?_
                          refine k_bipush (v := 28) X dX11_house_342 (by decide) ?_
                          refine k_iload_n X dX11_house_344 0 rfl ?_
                          refine k_iadd X dX11_house_345 ?_
                          refine k_nm (fun z_196 ez_196 => ?_)
                          have i_197 : z_196.toInt = 28 + u_161.toInt := in_add ez_196 (show IV 28 28 28 from (by decide)) iv_194 (by decide) (by decide)
                          have iv_198 : IV z_196 28 33 := by have := (show IV 28 28 28 from (by decide)); have := iv_194; rw [IV, i_197]; omega
                          refine k_aload_n X dX11_house_346 1 rfl ?_
                          refine k_get (ci := 11) X inlX11 rfl 15 (by decide) dX11_house_347 mw170 1 rfl rfl ?_
                          refine k_bipush (v := 96) X dX11_house_350 (by decide) ?_
                          refine k_iconst (v := 3) X dX11_house_352 (by decide) ?_
                          refine k_iload_n X dX11_house_353 0 rfl ?_
                          refine k_imul X dX11_house_354 ?_
                          refine k_nm (fun z_199 ez_199 => ?_)
                          have i_200 : z_199.toInt = 3 * u_161.toInt := in_mul ez_199 (by decide) (by decide) iv_194 (by decide) (by decide)
                          have iv_201 : IV z_199 0 15 := by have := (show IV 3 3 3 from (by decide)); have := iv_194; rw [IV, i_200]; omega
                          refine k_iadd X dX11_house_355 ?_
                          refine k_nm (fun z_202 ez_202 => ?_)
                          have i_203 : z_202.toInt = 96 + z_199.toInt := in_add ez_202 (show IV 96 96 96 from (by decide)) iv_201 (by decide) (by decide)
                          have iv_204 : IV z_202 96 111 := by have := (show IV 96 96 96 from (by decide)); have := iv_201; rw [IV, i_203]; omega
                          refine k_iconst (v := 1) X dX11_house_356 (by decide) ?_
                          refine k_iadd X dX11_house_357 ?_
                          refine k_nm (fun z_205 ez_205 => ?_)
                          have i_206 : z_205.toInt = z_202.toInt + 1 := in_add ez_205 iv_204 (show IV 1 1 1 from (by decide)) (by decide) (by decide)
                          have iv_207 : IV z_205 97 112 := by have := iv_204; have := (show IV 1 1 1 from (by decide)); rw [IV, i_206]; omega
                          refine k_iald X dX11_house_358 5 rfl (iv_in iv_207 (by decide) (by decide)) ?_
                          refine k_nm (fun z_208 ez_208 => ?_)
                          refine k_iast [(a_st, .inl (g.2.2.1, 44, .inl (upd uf_160 (z_196 : Int32).toNatClampNeg z_208))), (h0, .inr (11, [.int m_thrown2_1, .ref a_tape, .int 0, .int p0, .int u_65, .int u_66, .int u_68, .int u_69, .int u_70, .int u_72, .int u_62, .int m_trouble2_2, .ref a_letters, .int u_63, .int m_hasHouse, .ref a_r, .ref a_fresh, .ref a_st, .ref a_undone, .ref a_kept, .int m_undos, .int m_images, .ref a_from, .ref a_begin, .ref a_motor, .ref a_change, .ref a_startFrame, .ref a_changeFrame, .ref a_lostAt, .ref a_blackAt, .ref a_slips, .ref a_leftArc, .ref a_died, .ref a_arcs, .int m_bestSum, .int m_nearest, .int m_nearestTown, .ref a_there, .ref a_backAt, .ref a_sorted, .ref a_parts, .int m_seed1, .int m_darkNow])), (a_tape, .inl (g.2.2.1, 900, .inl d_tape)), (a_letters, .inl (g.2.2.1, 8, .inl uf_61)), (a_fresh, .inl (g.2.2.1, 311, .inl uf_58)), (a_r, .inl (g.2.2.1, 311, .inl f3_124))] X dX11_house_359 0 rfl (iv_in iv_198 (by decide) (by decide)) rfl ?_
                          refine (fun hg : ∀ fa_209 : Nat → Int32, Wk p l e _ s m args below meth c _ A g _ _ _ [(a_st, .inl (g.2.2.1, 44, .inl fa_209)), (h0, .inr (11, [.int m_thrown2_1, .ref a_tape, .int 0, .int p0, .int u_65, .int u_66, .int u_68, .int u_69, .int u_70, .int u_72, .int u_62, .int m_trouble2_2, .ref a_letters, .int u_63, .int m_hasHouse, .ref a_r, .ref a_fresh, .ref a_st, .ref a_undone, .ref a_kept, .int m_undos, .int m_images, .ref a_from, .ref a_begin, .ref a_motor, .ref a_change, .ref a_startFrame, .ref a_changeFrame, .ref a_lostAt, .ref a_blackAt, .ref a_slips, .ref a_leftArc, .ref a_died, .ref a_arcs, .int m_bestSum, .int m_nearest, .int m_nearestTown, .ref a_there, .ref a_backAt, .ref a_sorted, .ref a_parts, .int m_seed1, .int m_darkNow])), (a_tape, .inl (g.2.2.1, 900, .inl d_tape)), (a_letters, .inl (g.2.2.1, 8, .inl uf_61)), (a_fresh, .inl (g.2.2.1, 311, .inl uf_58)), (a_r, .inl (g.2.2.1, 311, .inl f3_124))] _ _ _ => hg _) (fun fa_209 => ?_)
                          obtain ⟨z_210, ez_210⟩ : ∃ y : Int32, u_161 + Int32.ofInt 1 = y := ⟨_, rfl⟩
                          refine k_iinc z_210 [(2, .int z_210), (0, .ref h0), (1, .int p0)] 0 X dX11_house_360 rfl ez_210 (by decide) rfl ?_
                          have i_211 : z_210.toInt = u_161.toInt + 1 := in_inc ez_210 (by decide) iv_194 (by decide) (by decide)
                          have iv_212 : IV z_210 1 6 := by have := iv_194; rw [IV, i_211]; omega
                          refine k_goto 327 X dX11_house_363 (by decide) ?_
                          exact ih_165 _ (by omega) fa_209 z_210 rfl (iv_w iv_212 (by decide) (by decide))
                      · skip
                        have j_213 : u_150.toInt < z_155.toInt := iv_nle h_158
                        have iv_214 : IV u_150 0 11 := iv_ltL (iv_nle h_158) hv_151 iv_157 (by decide)
                        have iv_215 : IV z_155 1 12 := iv_ltR (iv_nle h_158) hv_151 iv_157 (by decide)
                        refine k_aload_n X dX11_house_297 1 rfl ?_
                        refine k_get (ci := 11) X inlX11 rfl 17 (by decide) dX11_house_298 mw172 1 rfl rfl ?_
                        refine k_bipush (v := 16) X dX11_house_301 (by decide) ?_
                        refine k_iload_n X dX11_house_303 0 rfl ?_
                        refine k_iadd X dX11_house_304 ?_
                        refine k_nm (fun z_216 ez_216 => ?_)
                        have i_217 : z_216.toInt = 16 + u_150.toInt := in_add ez_216 (show IV 16 16 16 from (by decide)) iv_214 (by decide) (by decide)
                        have iv_218 : IV z_216 16 27 := by have := (show IV 16 16 16 from (by decide)); have := iv_214; rw [IV, i_217]; omega
                        refine k_aload_n X dX11_house_305 1 rfl ?_
                        refine k_get (ci := 11) X inlX11 rfl 15 (by decide) dX11_house_306 mw170 1 rfl rfl ?_
                        refine k_bipush (v := 44) X dX11_house_309 (by decide) ?_
                        refine k_iconst (v := 3) X dX11_house_311 (by decide) ?_
                        refine k_iload_n X dX11_house_312 0 rfl ?_
                        refine k_imul X dX11_house_313 ?_
                        refine k_nm (fun z_219 ez_219 => ?_)
                        have i_220 : z_219.toInt = 3 * u_150.toInt := in_mul ez_219 (by decide) (by decide) iv_214 (by decide) (by decide)
                        have iv_221 : IV z_219 0 33 := by have := (show IV 3 3 3 from (by decide)); have := iv_214; rw [IV, i_220]; omega
                        refine k_iadd X dX11_house_314 ?_
                        refine k_nm (fun z_222 ez_222 => ?_)
                        have i_223 : z_222.toInt = 44 + z_219.toInt := in_add ez_222 (show IV 44 44 44 from (by decide)) iv_221 (by decide) (by decide)
                        have iv_224 : IV z_222 44 77 := by have := (show IV 44 44 44 from (by decide)); have := iv_221; rw [IV, i_223]; omega
                        refine k_iconst (v := 1) X dX11_house_315 (by decide) ?_
                        refine k_iadd X dX11_house_316 ?_
                        refine k_nm (fun z_225 ez_225 => ?_)
                        have i_226 : z_225.toInt = z_222.toInt + 1 := in_add ez_225 iv_224 (show IV 1 1 1 from (by decide)) (by decide) (by decide)
                        have iv_227 : IV z_225 45 78 := by have := iv_224; have := (show IV 1 1 1 from (by decide)); rw [IV, i_226]; omega
                        refine k_iald X dX11_house_317 5 rfl (iv_in iv_227 (by decide) (by decide)) ?_
                        refine k_nm (fun z_228 ez_228 => ?_)
                        refine k_iast [(a_st, .inl (g.2.2.1, 44, .inl (upd uf_149 (z_216 : Int32).toNatClampNeg z_228))), (h0, .inr (11, [.int m_thrown2_1, .ref a_tape, .int 0, .int p0, .int u_65, .int u_66, .int u_68, .int u_69, .int u_70, .int u_72, .int u_62, .int m_trouble2_2, .ref a_letters, .int u_63, .int m_hasHouse, .ref a_r, .ref a_fresh, .ref a_st, .ref a_undone, .ref a_kept, .int m_undos, .int m_images, .ref a_from, .ref a_begin, .ref a_motor, .ref a_change, .ref a_startFrame, .ref a_changeFrame, .ref a_lostAt, .ref a_blackAt, .ref a_slips, .ref a_leftArc, .ref a_died, .ref a_arcs, .int m_bestSum, .int m_nearest, .int m_nearestTown, .ref a_there, .ref a_backAt, .ref a_sorted, .ref a_parts, .int m_seed1, .int m_darkNow])), (a_tape, .inl (g.2.2.1, 900, .inl d_tape)), (a_letters, .inl (g.2.2.1, 8, .inl uf_61)), (a_fresh, .inl (g.2.2.1, 311, .inl uf_58)), (a_r, .inl (g.2.2.1, 311, .inl f3_124))] X dX11_house_318 0 rfl (iv_in iv_218 (by decide) (by decide)) rfl ?_
                        refine (fun hg : ∀ fa_229 : Nat → Int32, Wk p l e _ s m args below meth c _ A g _ _ _ [(a_st, .inl (g.2.2.1, 44, .inl fa_229)), (h0, .inr (11, [.int m_thrown2_1, .ref a_tape, .int 0, .int p0, .int u_65, .int u_66, .int u_68, .int u_69, .int u_70, .int u_72, .int u_62, .int m_trouble2_2, .ref a_letters, .int u_63, .int m_hasHouse, .ref a_r, .ref a_fresh, .ref a_st, .ref a_undone, .ref a_kept, .int m_undos, .int m_images, .ref a_from, .ref a_begin, .ref a_motor, .ref a_change, .ref a_startFrame, .ref a_changeFrame, .ref a_lostAt, .ref a_blackAt, .ref a_slips, .ref a_leftArc, .ref a_died, .ref a_arcs, .int m_bestSum, .int m_nearest, .int m_nearestTown, .ref a_there, .ref a_backAt, .ref a_sorted, .ref a_parts, .int m_seed1, .int m_darkNow])), (a_tape, .inl (g.2.2.1, 900, .inl d_tape)), (a_letters, .inl (g.2.2.1, 8, .inl uf_61)), (a_fresh, .inl (g.2.2.1, 311, .inl uf_58)), (a_r, .inl (g.2.2.1, 311, .inl f3_124))] _ _ _ => hg _) (fun fa_229 => ?_)
                        obtain ⟨z_230, ez_230⟩ : ∃ y : Int32, u_150 + Int32.ofInt 1 = y := ⟨_, rfl⟩
                        refine k_iinc z_230 [(2, .int z_230), (0, .ref h0), (1, .int p0)] 0 X dX11_house_319 rfl ez_230 (by decide) rfl ?_
                        have i_231 : z_230.toInt = u_150.toInt + 1 := in_inc ez_230 (by decide) iv_214 (by decide) (by decide)
                        have iv_232 : IV z_230 1 12 := by have := iv_214; rw [IV, i_231]; omega
                        refine k_goto 286 X dX11_house_322 (by decide) ?_
                        exact ih_154 _ (by omega) fa_229 z_230 rfl (iv_w iv_232 (by decide) (by decide))
                    · skip
                      have j_233 : u_139.toInt < z_144.toInt := iv_nle h_147
                      have iv_234 : IV u_139 0 7 := iv_ltL (iv_nle h_147) hv_140 iv_146 (by decide)
                      have iv_235 : IV z_144 1 8 := iv_ltR (iv_nle h_147) hv_140 iv_146 (by decide)
                      refine k_aload_n X dX11_house_237 1 rfl ?_
                      refine k_get (ci := 11) X inlX11 rfl 17 (by decide) dX11_house_238 mw172 1 rfl rfl ?_
                      refine k_iconst (v := 0) X dX11_house_241 (by decide) ?_
                      refine k_iload_n X dX11_house_242 0 rfl ?_
                      refine k_iadd X dX11_house_243 ?_
                      refine k_nm (fun z_236 ez_236 => ?_)
                      have i_237 : z_236.toInt = 0 + u_139.toInt := in_add ez_236 (show IV 0 0 0 from (by decide)) iv_234 (by decide) (by decide)
                      have iv_238 : IV z_236 0 7 := by have := (show IV 0 0 0 from (by decide)); have := iv_234; rw [IV, i_237]; omega
                      refine k_aload_n X dX11_house_244 1 rfl ?_
                      refine k_get (ci := 11) X inlX11 rfl 15 (by decide) dX11_house_245 mw170 1 rfl rfl ?_
                      refine k_bipush (v := 16) X dX11_house_248 (by decide) ?_
                      refine k_iconst (v := 3) X dX11_house_250 (by decide) ?_
                      refine k_iload_n X dX11_house_251 0 rfl ?_
                      refine k_imul X dX11_house_252 ?_
                      refine k_nm (fun z_239 ez_239 => ?_)
                      have i_240 : z_239.toInt = 3 * u_139.toInt := in_mul ez_239 (by decide) (by decide) iv_234 (by decide) (by decide)
                      have iv_241 : IV z_239 0 21 := by have := (show IV 3 3 3 from (by decide)); have := iv_234; rw [IV, i_240]; omega
                      refine k_iadd X dX11_house_253 ?_
                      refine k_nm (fun z_242 ez_242 => ?_)
                      have i_243 : z_242.toInt = 16 + z_239.toInt := in_add ez_242 (show IV 16 16 16 from (by decide)) iv_241 (by decide) (by decide)
                      have iv_244 : IV z_242 16 37 := by have := (show IV 16 16 16 from (by decide)); have := iv_241; rw [IV, i_243]; omega
                      refine k_iald X dX11_house_254 5 rfl (iv_in iv_244 (by decide) (by decide)) ?_
                      refine k_nm (fun z_245 ez_245 => ?_)
                      refine k_iast [(a_st, .inl (g.2.2.1, 44, .inl (upd uf_138 (z_236 : Int32).toNatClampNeg z_245))), (h0, .inr (11, [.int m_thrown2_1, .ref a_tape, .int 0, .int p0, .int u_65, .int u_66, .int u_68, .int u_69, .int u_70, .int u_72, .int u_62, .int m_trouble2_2, .ref a_letters, .int u_63, .int m_hasHouse, .ref a_r, .ref a_fresh, .ref a_st, .ref a_undone, .ref a_kept, .int m_undos, .int m_images, .ref a_from, .ref a_begin, .ref a_motor, .ref a_change, .ref a_startFrame, .ref a_changeFrame, .ref a_lostAt, .ref a_blackAt, .ref a_slips, .ref a_leftArc, .ref a_died, .ref a_arcs, .int m_bestSum, .int m_nearest, .int m_nearestTown, .ref a_there, .ref a_backAt, .ref a_sorted, .ref a_parts, .int m_seed1, .int m_darkNow])), (a_tape, .inl (g.2.2.1, 900, .inl d_tape)), (a_letters, .inl (g.2.2.1, 8, .inl uf_61)), (a_fresh, .inl (g.2.2.1, 311, .inl uf_58)), (a_r, .inl (g.2.2.1, 311, .inl f3_124))] X dX11_house_255 0 rfl (iv_in iv_238 (by decide) (by decide)) rfl ?_
                      refine (fun hg : ∀ fa_246 : Nat → Int32, Wk p l e _ s m args below meth c _ A g _ _ _ [(a_st, .inl (g.2.2.1, 44, .inl fa_246)), (h0, .inr (11, [.int m_thrown2_1, .ref a_tape, .int 0, .int p0, .int u_65, .int u_66, .int u_68, .int u_69, .int u_70, .int u_72, .int u_62, .int m_trouble2_2, .ref a_letters, .int u_63, .int m_hasHouse, .ref a_r, .ref a_fresh, .ref a_st, .ref a_undone, .ref a_kept, .int m_undos, .int m_images, .ref a_from, .ref a_begin, .ref a_motor, .ref a_change, .ref a_startFrame, .ref a_changeFrame, .ref a_lostAt, .ref a_blackAt, .ref a_slips, .ref a_leftArc, .ref a_died, .ref a_arcs, .int m_bestSum, .int m_nearest, .int m_nearestTown, .ref a_there, .ref a_backAt, .ref a_sorted, .ref a_parts, .int m_seed1, .int m_darkNow])), (a_tape, .inl (g.2.2.1, 900, .inl d_tape)), (a_letters, .inl (g.2.2.1, 8, .inl uf_61)), (a_fresh, .inl (g.2.2.1, 311, .inl uf_58)), (a_r, .inl (g.2.2.1, 311, .inl f3_124))] _ _ _ => hg _) (fun fa_246 => ?_)
                      refine k_aload_n X dX11_house_256 1 rfl ?_
                      refine k_get (ci := 11) X inlX11 rfl 17 (by decide) dX11_house_257 mw172 1 rfl rfl ?_
                      refine k_bipush (v := 8) X dX11_house_260 (by decide) ?_
                      refine k_iload_n X dX11_house_262 0 rfl ?_
                      refine k_iadd X dX11_house_263 ?_
                      refine k_nm (fun z_247 ez_247 => ?_)
                      have i_248 : z_247.toInt = 8 + u_139.toInt := in_add ez_247 (show IV 8 8 8 from (by decide)) iv_234 (by decide) (by decide)
                      have iv_249 : IV z_247 8 15 := by have := (show IV 8 8 8 from (by decide)); have := iv_234; rw [IV, i_248]; omega
                      refine k_aload_n X dX11_house_264 1 rfl ?_
                      refine k_get (ci := 11) X inlX11 rfl 15 (by decide) dX11_house_265 mw170 1 rfl rfl ?_
                      refine k_bipush (v := 16) X dX11_house_268 (by decide) ?_
                      refine k_iconst (v := 3) X dX11_house_270 (by decide) ?_
                      refine k_iload_n X dX11_house_271 0 rfl ?_
                      refine k_imul X dX11_house_272 ?_
                      refine k_to z_239 ez_239.symm ?_
                      refine k_iadd X dX11_house_273 ?_
                      refine k_to z_242 ez_242.symm ?_
                      refine k_iconst (v := 1) X dX11_house_274 (by decide) ?_
                      refine k_iadd X dX11_house_275 ?_
                      refine k_nm (fun z_250 ez_250 => ?_)
                      have i_251 : z_250.toInt = z_242.toInt + 1 := in_add ez_250 iv_244 (show IV 1 1 1 from (by decide)) (by decide) (by decide)
                      have iv_252 : IV z_250 17 38 := by have := iv_244; have := (show IV 1 1 1 from (by decide)); rw [IV, i_251]; omega
                      refine k_iald X dX11_house_276 5 rfl (iv_in iv_252 (by decide) (by decide)) ?_
                      refine k_nm (fun z_253 ez_253 => ?_)
                      refine k_iast [(a_st, .inl (g.2.2.1, 44, .inl (upd fa_246 (z_247 : Int32).toNatClampNeg z_253))), (h0, .inr (11, [.int m_thrown2_1, .ref a_tape, .int 0, .int p0, .int u_65, .int u_66, .int u_68, .int u_69, .int u_70, .int u_72, .int u_62, .int m_trouble2_2, .ref a_letters, .int u_63, .int m_hasHouse, .ref a_r, .ref a_fresh, .ref a_st, .ref a_undone, .ref a_kept, .int m_undos, .int m_images, .ref a_from, .ref a_begin, .ref a_motor, .ref a_change, .ref a_startFrame, .ref a_changeFrame, .ref a_lostAt, .ref a_blackAt, .ref a_slips, .ref a_leftArc, .ref a_died, .ref a_arcs, .int m_bestSum, .int m_nearest, .int m_nearestTown, .ref a_there, .ref a_backAt, .ref a_sorted, .ref a_parts, .int m_seed1, .int m_darkNow])), (a_tape, .inl (g.2.2.1, 900, .inl d_tape)), (a_letters, .inl (g.2.2.1, 8, .inl uf_61)), (a_fresh, .inl (g.2.2.1, 311, .inl uf_58)), (a_r, .inl (g.2.2.1, 311, .inl f3_124))] X dX11_house_277 0 rfl (iv_in iv_249 (by decide) (by decide)) rfl ?_
                      refine (fun hg : ∀ fa_254 : Nat → Int32, Wk p l e _ s m args below meth c _ A g _ _ _ [(a_st, .inl (g.2.2.1, 44, .inl fa_254)), (h0, .inr (11, [.int m_thrown2_1, .ref a_tape, .int 0, .int p0, .int u_65, .int u_66, .int u_68, .int u_69, .int u_70, .int u_72, .int u_62, .int m_trouble2_2, .ref a_letters, .int u_63, .int m_hasHouse, .ref a_r, .ref a_fresh, .ref a_st, .ref a_undone, .ref a_kept, .int m_undos, .int m_images, .ref a_from, .ref a_begin, .ref a_motor, .ref a_change, .ref a_startFrame, .ref a_changeFrame, .ref a_lostAt, .ref a_blackAt, .ref a_slips, .ref a_leftArc, .ref a_died, .ref a_arcs, .int m_bestSum, .int m_nearest, .int m_nearestTown, .ref a_there, .ref a_backAt, .ref a_sorted, .ref a_parts, .int m_seed1, .int m_darkNow])), (a_tape, .inl (g.2.2.1, 900, .inl d_tape)), (a_letters, .inl (g.2.2.1, 8, .inl uf_61)), (a_fresh, .inl (g.2.2.1, 311, .inl uf_58)), (a_r, .inl (g.2.2.1, 311, .inl f3_124))] _ _ _ => hg _) (fun fa_254 => ?_)
                      obtain ⟨z_255, ez_255⟩ : ∃ y : Int32, u_139 + Int32.ofInt 1 = y := ⟨_, rfl⟩
                      refine k_iinc z_255 [(2, .int z_255), (0, .ref h0), (1, .int p0)] 0 X dX11_house_278 rfl ez_255 (by decide) rfl ?_
                      have i_256 : z_255.toInt = u_139.toInt + 1 := in_inc ez_255 (by decide) iv_234 (by decide) (by decide)
                      have iv_257 : IV z_255 1 8 := by have := iv_234; rw [IV, i_256]; omega
                      refine k_goto 226 X dX11_house_281 (by decide) ?_
                      exact ih_143 _ (by omega) fa_254 z_255 rfl (iv_w iv_257 (by decide) (by decide))
                  · skip
                    have j_258 : u_130.toInt < 44 := iv_nle h_135
                    have iv_259 : IV u_130 0 43 := iv_ltL (iv_nle h_135) hv_131 (show IV 44 44 44 from (by decide)) (by decide)
                    refine k_aload_n X dX11_house_211 1 rfl ?_
                    refine k_get (ci := 11) X inlX11 rfl 17 (by decide) dX11_house_212 mw172 1 rfl rfl ?_
                    refine k_iload_n X dX11_house_215 0 rfl ?_
                    refine k_iconst (v := 0) X dX11_house_216 (by decide) ?_
                    refine k_iast [(a_st, .inl (g.2.2.1, 44, .inl (upd uf_129 (u_130 : Int32).toNatClampNeg 0))), (h0, .inr (11, [.int m_thrown2_1, .ref a_tape, .int 0, .int p0, .int u_65, .int u_66, .int u_68, .int u_69, .int u_70, .int u_72, .int u_62, .int m_trouble2_2, .ref a_letters, .int u_63, .int m_hasHouse, .ref a_r, .ref a_fresh, .ref a_st, .ref a_undone, .ref a_kept, .int m_undos, .int m_images, .ref a_from, .ref a_begin, .ref a_motor, .ref a_change, .ref a_startFrame, .ref a_changeFrame, .ref a_lostAt, .ref a_blackAt, .ref a_slips, .ref a_leftArc, .ref a_died, .ref a_arcs, .int m_bestSum, .int m_nearest, .int m_nearestTown, .ref a_there, .ref a_backAt, .ref a_sorted, .ref a_parts, .int m_seed1, .int m_darkNow])), (a_tape, .inl (g.2.2.1, 900, .inl d_tape)), (a_letters, .inl (g.2.2.1, 8, .inl uf_61)), (a_fresh, .inl (g.2.2.1, 311, .inl uf_58)), (a_r, .inl (g.2.2.1, 311, .inl f3_124))] X dX11_house_217 0 rfl (iv_in iv_259 (by decide) (by decide)) rfl ?_
                    refine (fun hg : ∀ fa_260 : Nat → Int32, Wk p l e _ s m args below meth c _ A g _ _ _ [(a_st, .inl (g.2.2.1, 44, .inl fa_260)), (h0, .inr (11, [.int m_thrown2_1, .ref a_tape, .int 0, .int p0, .int u_65, .int u_66, .int u_68, .int u_69, .int u_70, .int u_72, .int u_62, .int m_trouble2_2, .ref a_letters, .int u_63, .int m_hasHouse, .ref a_r, .ref a_fresh, .ref a_st, .ref a_undone, .ref a_kept, .int m_undos, .int m_images, .ref a_from, .ref a_begin, .ref a_motor, .ref a_change, .ref a_startFrame, .ref a_changeFrame, .ref a_lostAt, .ref a_blackAt, .ref a_slips, .ref a_leftArc, .ref a_died, .ref a_arcs, .int m_bestSum, .int m_nearest, .int m_nearestTown, .ref a_there, .ref a_backAt, .ref a_sorted, .ref a_parts, .int m_seed1, .int m_darkNow])), (a_tape, .inl (g.2.2.1, 900, .inl d_tape)), (a_letters, .inl (g.2.2.1, 8, .inl uf_61)), (a_fresh, .inl (g.2.2.1, 311, .inl uf_58)), (a_r, .inl (g.2.2.1, 311, .inl f3_124))] _ _ _ => hg _) (fun fa_260 => ?_)
                    obtain ⟨z_261, ez_261⟩ : ∃ y : Int32, u_130 + Int32.ofInt 1 = y := ⟨_, rfl⟩
                    refine k_iinc z_261 [(2, .int z_261), (0, .ref h0), (1, .int p0)] 0 X dX11_house_218 rfl ez_261 (by decide) rfl ?_
                    have i_262 : z_261.toInt = u_130.toInt + 1 := in_inc ez_261 (by decide) iv_259 (by decide) (by decide)
                    have iv_263 : IV z_261 1 44 := by have := iv_259; rw [IV, i_262]; omega
                    refine k_goto 205 X dX11_house_221 (by decide) ?_
                    exact ih_134 _ (by omega) fa_260 z_261 rfl (iv_w iv_263 (by decide) (by decide))
                · skip
                  have iv_264 : IV z_118 0 0 := iv_meet iv_120 (iv_e h_121 (show IV 0 0 0 from (by decide))) (by decide) (by decide)
                  refine k_aload_n X dX11_house_164 1 rfl ?_
                  refine k_bipush (v := 6) X dX11_house_165 (by decide) ?_
                  refine k_aload_n X dX11_house_167 1 rfl ?_
                  refine k_get (ci := 11) X inlX11 rfl 4 (by decide) dX11_house_168 mw473 2 rfl rfl ?_
                  refine k_callVV (n := 2) (As := [.int 6, .int u_65]) (st := []) X [(h0, .inr (11, [.int m_thrown2_1, .ref a_tape, .int 0, .int p0, .int u_65, .int u_66, .int u_68, .int u_69, .int u_70, .int u_72, .int u_62, .int m_trouble2_2, .ref a_letters, .int u_63, .int m_hasHouse, .ref a_r, .ref a_fresh, .ref a_st, .ref a_undone, .ref a_kept, .int m_undos, .int m_images, .ref a_from, .ref a_begin, .ref a_motor, .ref a_change, .ref a_startFrame, .ref a_changeFrame, .ref a_lostAt, .ref a_blackAt, .ref a_slips, .ref a_leftArc, .ref a_died, .ref a_arcs, .int m_bestSum, .int m_nearest, .int m_nearestTown, .ref a_there, .ref a_backAt, .ref a_sorted, .ref a_parts, .int m_seed1, .int m_darkNow]))] [(a_r, .inl (g.2.2.1, 311, .inl d_r)), (a_st, .inl (g.2.2.1, 44, .inl d_st)), (a_tape, .inl (g.2.2.1, 900, .inl d_tape)), (a_letters, .inl (g.2.2.1, 8, .inl uf_61)), (a_fresh, .inl (g.2.2.1, 311, .inl uf_58))] [2] [0, 1, 3, 4, 5] (m_bad l g h0 6 u_65 m_thrown2_1 a_tape 0 p0 u_65 u_66 u_68 u_69 u_70 u_72 u_62 m_trouble2_2 a_letters u_63 m_hasHouse a_r a_fresh a_st a_undone a_kept m_undos m_images a_from a_begin a_motor a_change a_startFrame a_changeFrame a_lostAt a_blackAt a_slips a_leftArc a_died a_arcs m_bestSum m_nearest m_nearestTown a_there a_backAt a_sorted a_parts m_seed1 m_darkNow (iv_w iv_85 (by decide) (by decide))) dX11_house_171 mw519 mw520 mw521 mw5 mw522 rfl 11 rfl rfl 0 _ rfl (by unfold yOk; decide) rfl (Nat.le_of_ble_eq_true rfl) (Nat.le_of_ble_eq_true rfl) (Nat.le_of_ble_eq_true rfl) (Nat.le_of_ble_eq_true rfl) (Nat.le_of_ble_eq_true rfl) rfl rfl (by decide) rfl (by decide) (by decide) ?_
                  rintro w ⟨m_failed2_265, m_fault2_266, m_place2_267, iv_269, rfl⟩
                  refine k_ws [(a_r, .inl (g.2.2.1, 311, .inl d_r)), (a_st, .inl (g.2.2.1, 44, .inl d_st)), (a_tape, .inl (g.2.2.1, 900, .inl d_tape)), (a_letters, .inl (g.2.2.1, 8, .inl uf_61)), (a_fresh, .inl (g.2.2.1, 311, .inl uf_58)), (h0, .inr (11, [.int m_thrown2_1, .ref a_tape, .int 0, .int p0, .int u_65, .int u_66, .int u_68, .int u_69, .int u_70, .int m_fault2_266, .int m_place2_267, .int m_trouble2_2, .ref a_letters, .int m_failed2_265, .int m_hasHouse, .ref a_r, .ref a_fresh, .ref a_st, .ref a_undone, .ref a_kept, .int m_undos, .int m_images, .ref a_from, .ref a_begin, .ref a_motor, .ref a_change, .ref a_startFrame, .ref a_changeFrame, .ref a_lostAt, .ref a_blackAt, .ref a_slips, .ref a_leftArc, .ref a_died, .ref a_arcs, .int m_bestSum, .int m_nearest, .int m_nearestTown, .ref a_there, .ref a_backAt, .ref a_sorted, .ref a_parts, .int m_seed1, .int m_darkNow]))] rfl ?_
                  refine k_aload_n X dX11_house_174 1 rfl ?_
                  refine k_get (ci := 11) X inlX11 rfl 13 (by decide) dX11_house_175 mw469 5 rfl rfl ?_
                  refine k_if_eq 187 X dX11_house_178 (by decide) (fun h_270 => (iv_eqN h_270 iv_269 (show IV 0 0 0 from (by decide)) (by decide)).elim) (fun h_270 => ?_)
                  refine k_aload_n X dX11_house_181 1 rfl ?_
                  refine k_iconst (v := 4) X dX11_house_182 (by decide) ?_
                  refine k_callVI (n := 1) (As := [.int 4]) (st := []) X [(h0, .inr (11, [.int m_thrown2_1, .ref a_tape, .int 0, .int p0, .int u_65, .int u_66, .int u_68, .int u_69, .int u_70, .int m_fault2_266, .int m_place2_267, .int m_trouble2_2, .ref a_letters, .int m_failed2_265, .int m_hasHouse, .ref a_r, .ref a_fresh, .ref a_st, .ref a_undone, .ref a_kept, .int m_undos, .int m_images, .ref a_from, .ref a_begin, .ref a_motor, .ref a_change, .ref a_startFrame, .ref a_changeFrame, .ref a_lostAt, .ref a_blackAt, .ref a_slips, .ref a_leftArc, .ref a_died, .ref a_arcs, .int m_bestSum, .int m_nearest, .int m_nearestTown, .ref a_there, .ref a_backAt, .ref a_sorted, .ref a_parts, .int m_seed1, .int m_darkNow]))] [(a_r, .inl (g.2.2.1, 311, .inl d_r)), (a_st, .inl (g.2.2.1, 44, .inl d_st)), (a_tape, .inl (g.2.2.1, 900, .inl d_tape)), (a_letters, .inl (g.2.2.1, 8, .inl uf_61)), (a_fresh, .inl (g.2.2.1, 311, .inl uf_58))] [5] [0, 1, 2, 3, 4] (m_no l g h0 4 m_thrown2_1 a_tape 0 p0 u_65 u_66 u_68 u_69 u_70 m_fault2_266 m_place2_267 m_trouble2_2 a_letters m_failed2_265 m_hasHouse a_r a_fresh a_st a_undone a_kept m_undos m_images a_from a_begin a_motor a_change a_startFrame a_changeFrame a_lostAt a_blackAt a_slips a_leftArc a_died a_arcs m_bestSum m_nearest m_nearestTown a_there a_backAt a_sorted a_parts m_seed1 m_darkNow) dX11_house_183 mw485 mw486 mw487 mw5 mw488 rfl 11 rfl rfl 0 _ rfl (by unfold yOk; decide) rfl (Nat.le_of_ble_eq_true rfl) (Nat.le_of_ble_eq_true rfl) (Nat.le_of_ble_eq_true rfl) (Nat.le_of_ble_eq_true rfl) (Nat.le_of_ble_eq_true rfl) rfl rfl (by decide) rfl (by decide) (by decide) ?_
                  rintro r_272 w ⟨m_trouble2_271, iv_273, rfl⟩
                  refine k_ws [(a_r, .inl (g.2.2.1, 311, .inl d_r)), (a_st, .inl (g.2.2.1, 44, .inl d_st)), (a_tape, .inl (g.2.2.1, 900, .inl d_tape)), (a_letters, .inl (g.2.2.1, 8, .inl uf_61)), (a_fresh, .inl (g.2.2.1, 311, .inl uf_58)), (h0, .inr (11, [.int m_thrown2_1, .ref a_tape, .int 0, .int p0, .int u_65, .int u_66, .int u_68, .int u_69, .int u_70, .int m_fault2_266, .int m_place2_267, .int m_trouble2_271, .ref a_letters, .int m_failed2_265, .int m_hasHouse, .ref a_r, .ref a_fresh, .ref a_st, .ref a_undone, .ref a_kept, .int m_undos, .int m_images, .ref a_from, .ref a_begin, .ref a_motor, .ref a_change, .ref a_startFrame, .ref a_changeFrame, .ref a_lostAt, .ref a_blackAt, .ref a_slips, .ref a_leftArc, .ref a_died, .ref a_arcs, .int m_bestSum, .int m_nearest, .int m_nearestTown, .ref a_there, .ref a_backAt, .ref a_sorted, .ref a_parts, .int m_seed1, .int m_darkNow]))] rfl ?_
                  exact k_iret X hr dX11_house_186 (Nat.le_of_ble_eq_true rfl) (Nat.le_of_ble_eq_true rfl) [5, 2, 3, 0, 4, 1] (by decide) rfl rfl ⟨u_65, u_66, m_failed2_265, m_fault2_266, uf_58, m_hasHouse, m_images, uf_61, u_70, m_place2_267, d_r, p0, d_st, 0, m_thrown2_1, u_68, m_trouble2_271, m_undos, u_69, (iv_w hv_67 (by decide) (by decide)), (iv_w iv_269 (by decide) (by decide)), (iv_w hv_m_hasHouse (by decide) (by decide)), (iv_w hv_m_images (by decide) (by decide)), (iv_w hv_71 (by decide) (by decide)), (iv_w iv_13 (by decide) (by decide)), (iv_w (show IV 0 0 0 from (by decide)) (by decide) (by decide)), (iv_w hv_m_undos (by decide) (by decide)), hp_d_r, hp_59, (by refine ⟨fun q => ?_, fun q => ?_⟩ <;> first | rfl | (exfalso; omega)), hr_0, rfl⟩
          · skip
            refine k_aload_n X dX11_house_118 1 rfl ?_
            refine k_iconst (v := 1) X dX11_house_119 (by decide) ?_
            refine k_aload_n X dX11_house_120 1 rfl ?_
            refine k_get (ci := 11) X inlX11 rfl 4 (by decide) dX11_house_121 mw473 2 rfl rfl ?_
            refine k_callVV (n := 2) (As := [.int 1, .int u_65]) (st := []) X [(h0, .inr (11, [.int m_thrown2_1, .ref a_tape, .int 0, .int p0, .int u_65, .int u_66, .int u_68, .int u_69, .int u_70, .int u_72, .int u_62, .int m_trouble2_2, .ref a_letters, .int u_63, .int m_hasHouse, .ref a_r, .ref a_fresh, .ref a_st, .ref a_undone, .ref a_kept, .int m_undos, .int m_images, .ref a_from, .ref a_begin, .ref a_motor, .ref a_change, .ref a_startFrame, .ref a_changeFrame, .ref a_lostAt, .ref a_blackAt, .ref a_slips, .ref a_leftArc, .ref a_died, .ref a_arcs, .int m_bestSum, .int m_nearest, .int m_nearestTown, .ref a_there, .ref a_backAt, .ref a_sorted, .ref a_parts, .int m_seed1, .int m_darkNow]))] [(a_r, .inl (g.2.2.1, 311, .inl d_r)), (a_st, .inl (g.2.2.1, 44, .inl d_st)), (a_tape, .inl (g.2.2.1, 900, .inl d_tape)), (a_letters, .inl (g.2.2.1, 8, .inl uf_61)), (a_fresh, .inl (g.2.2.1, 311, .inl uf_58))] [2] [0, 1, 3, 4, 5] (m_bad l g h0 1 u_65 m_thrown2_1 a_tape 0 p0 u_65 u_66 u_68 u_69 u_70 u_72 u_62 m_trouble2_2 a_letters u_63 m_hasHouse a_r a_fresh a_st a_undone a_kept m_undos m_images a_from a_begin a_motor a_change a_startFrame a_changeFrame a_lostAt a_blackAt a_slips a_leftArc a_died a_arcs m_bestSum m_nearest m_nearestTown a_there a_backAt a_sorted a_parts m_seed1 m_darkNow (iv_w iv_85 (by decide) (by decide))) dX11_house_124 mw519 mw520 mw521 mw5 mw522 rfl 11 rfl rfl 0 _ rfl (by unfold yOk; decide) rfl (Nat.le_of_ble_eq_true rfl) (Nat.le_of_ble_eq_true rfl) (Nat.le_of_ble_eq_true rfl) (Nat.le_of_ble_eq_true rfl) (Nat.le_of_ble_eq_true rfl) rfl rfl (by decide) rfl (by decide) (by decide) ?_
            rintro w ⟨m_failed2_274, m_fault2_275, m_place2_276, iv_278, rfl⟩
            refine k_ws [(a_r, .inl (g.2.2.1, 311, .inl d_r)), (a_st, .inl (g.2.2.1, 44, .inl d_st)), (a_tape, .inl (g.2.2.1, 900, .inl d_tape)), (a_letters, .inl (g.2.2.1, 8, .inl uf_61)), (a_fresh, .inl (g.2.2.1, 311, .inl uf_58)), (h0, .inr (11, [.int m_thrown2_1, .ref a_tape, .int 0, .int p0, .int u_65, .int u_66, .int u_68, .int u_69, .int u_70, .int m_fault2_275, .int m_place2_276, .int m_trouble2_2, .ref a_letters, .int m_failed2_274, .int m_hasHouse, .ref a_r, .ref a_fresh, .ref a_st, .ref a_undone, .ref a_kept, .int m_undos, .int m_images, .ref a_from, .ref a_begin, .ref a_motor, .ref a_change, .ref a_startFrame, .ref a_changeFrame, .ref a_lostAt, .ref a_blackAt, .ref a_slips, .ref a_leftArc, .ref a_died, .ref a_arcs, .int m_bestSum, .int m_nearest, .int m_nearestTown, .ref a_there, .ref a_backAt, .ref a_sorted, .ref a_parts, .int m_seed1, .int m_darkNow]))] rfl ?_
            refine k_aload_n X dX11_house_127 1 rfl ?_
            refine k_get (ci := 11) X inlX11 rfl 13 (by decide) dX11_house_128 mw469 5 rfl rfl ?_
            refine k_if_ne 174 X dX11_house_131 (by decide) (fun h_279 => ?_) (fun h_279 => (iv_eqN h_279 iv_278 (show IV 0 0 0 from (by decide)) (by decide)).elim)
            refine k_aload_n X dX11_house_174 1 rfl ?_
            refine k_get (ci := 11) X inlX11 rfl 13 (by decide) dX11_house_175 mw469 5 rfl rfl ?_
            refine k_if_eq 187 X dX11_house_178 (by decide) (fun h_280 => (iv_eqN h_280 iv_278 (show IV 0 0 0 from (by decide)) (by decide)).elim) (fun h_280 => ?_)
            refine k_aload_n X dX11_house_181 1 rfl ?_
            refine k_iconst (v := 4) X dX11_house_182 (by decide) ?_
            refine k_callVI (n := 1) (As := [.int 4]) (st := []) X [(h0, .inr (11, [.int m_thrown2_1, .ref a_tape, .int 0, .int p0, .int u_65, .int u_66, .int u_68, .int u_69, .int u_70, .int m_fault2_275, .int m_place2_276, .int m_trouble2_2, .ref a_letters, .int m_failed2_274, .int m_hasHouse, .ref a_r, .ref a_fresh, .ref a_st, .ref a_undone, .ref a_kept, .int m_undos, .int m_images, .ref a_from, .ref a_begin, .ref a_motor, .ref a_change, .ref a_startFrame, .ref a_changeFrame, .ref a_lostAt, .ref a_blackAt, .ref a_slips, .ref a_leftArc, .ref a_died, .ref a_arcs, .int m_bestSum, .int m_nearest, .int m_nearestTown, .ref a_there, .ref a_backAt, .ref a_sorted, .ref a_parts, .int m_seed1, .int m_darkNow]))] [(a_r, .inl (g.2.2.1, 311, .inl d_r)), (a_st, .inl (g.2.2.1, 44, .inl d_st)), (a_tape, .inl (g.2.2.1, 900, .inl d_tape)), (a_letters, .inl (g.2.2.1, 8, .inl uf_61)), (a_fresh, .inl (g.2.2.1, 311, .inl uf_58))] [5] [0, 1, 2, 3, 4] (m_no l g h0 4 m_thrown2_1 a_tape 0 p0 u_65 u_66 u_68 u_69 u_70 m_fault2_275 m_place2_276 m_trouble2_2 a_letters m_failed2_274 m_hasHouse a_r a_fresh a_st a_undone a_kept m_undos m_images a_from a_begin a_motor a_change a_startFrame a_changeFrame a_lostAt a_blackAt a_slips a_leftArc a_died a_arcs m_bestSum m_nearest m_nearestTown a_there a_backAt a_sorted a_parts m_seed1 m_darkNow) dX11_house_183 mw485 mw486 mw487 mw5 mw488 rfl 11 rfl rfl 0 _ rfl (by unfold yOk; decide) rfl (Nat.le_of_ble_eq_true rfl) (Nat.le_of_ble_eq_true rfl) (Nat.le_of_ble_eq_true rfl) (Nat.le_of_ble_eq_true rfl) (Nat.le_of_ble_eq_true rfl) rfl rfl (by decide) rfl (by decide) (by decide) ?_
            rintro r_282 w ⟨m_trouble2_281, iv_283, rfl⟩
            refine k_ws [(a_r, .inl (g.2.2.1, 311, .inl d_r)), (a_st, .inl (g.2.2.1, 44, .inl d_st)), (a_tape, .inl (g.2.2.1, 900, .inl d_tape)), (a_letters, .inl (g.2.2.1, 8, .inl uf_61)), (a_fresh, .inl (g.2.2.1, 311, .inl uf_58)), (h0, .inr (11, [.int m_thrown2_1, .ref a_tape, .int 0, .int p0, .int u_65, .int u_66, .int u_68, .int u_69, .int u_70, .int m_fault2_275, .int m_place2_276, .int m_trouble2_281, .ref a_letters, .int m_failed2_274, .int m_hasHouse, .ref a_r, .ref a_fresh, .ref a_st, .ref a_undone, .ref a_kept, .int m_undos, .int m_images, .ref a_from, .ref a_begin, .ref a_motor, .ref a_change, .ref a_startFrame, .ref a_changeFrame, .ref a_lostAt, .ref a_blackAt, .ref a_slips, .ref a_leftArc, .ref a_died, .ref a_arcs, .int m_bestSum, .int m_nearest, .int m_nearestTown, .ref a_there, .ref a_backAt, .ref a_sorted, .ref a_parts, .int m_seed1, .int m_darkNow]))] rfl ?_
            exact k_iret X hr dX11_house_186 (Nat.le_of_ble_eq_true rfl) (Nat.le_of_ble_eq_true rfl) [5, 2, 3, 0, 4, 1] (by decide) rfl rfl ⟨u_65, u_66, m_failed2_274, m_fault2_275, uf_58, m_hasHouse, m_images, uf_61, u_70, m_place2_276, d_r, p0, d_st, 0, m_thrown2_1, u_68, m_trouble2_281, m_undos, u_69, (iv_w hv_67 (by decide) (by decide)), (iv_w iv_278 (by decide) (by decide)), (iv_w hv_m_hasHouse (by decide) (by decide)), (iv_w hv_m_images (by decide) (by decide)), (iv_w hv_71 (by decide) (by decide)), (iv_w iv_13 (by decide) (by decide)), (iv_w (show IV 0 0 0 from (by decide)) (by decide) (by decide)), (iv_w hv_m_undos (by decide) (by decide)), hp_d_r, hp_59, (by refine ⟨fun q => ?_, fun q => ?_⟩ <;> first | rfl | (exfalso; omega)), hr_0, rfl⟩
        · skip
          have iv_284 : IV u_68 59 59 := iv_meet (iv_any u_68) (iv_e h_86 (show IV 59 59 59 from (by decide))) (by decide) (by decide)
          refine k_aload_n X dX11_house_93 1 rfl ?_
          refine k_callVV (n := 0) (As := []) (st := []) X [(h0, .inr (11, [.int m_thrown2_1, .ref a_tape, .int 0, .int p0, .int u_65, .int u_66, .int u_68, .int u_69, .int u_70, .int u_72, .int u_62, .int m_trouble2_2, .ref a_letters, .int u_63, .int m_hasHouse, .ref a_r, .ref a_fresh, .ref a_st, .ref a_undone, .ref a_kept, .int m_undos, .int m_images, .ref a_from, .ref a_begin, .ref a_motor, .ref a_change, .ref a_startFrame, .ref a_changeFrame, .ref a_lostAt, .ref a_blackAt, .ref a_slips, .ref a_leftArc, .ref a_died, .ref a_arcs, .int m_bestSum, .int m_nearest, .int m_nearestTown, .ref a_there, .ref a_backAt, .ref a_sorted, .ref a_parts, .int m_seed1, .int m_darkNow])), (a_tape, .inl (g.2.2.1, 900, .inl d_tape)), (a_letters, .inl (g.2.2.1, 8, .inl uf_61))] [(a_r, .inl (g.2.2.1, 311, .inl d_r)), (a_st, .inl (g.2.2.1, 44, .inl d_st)), (a_fresh, .inl (g.2.2.1, 311, .inl uf_58))] [2, 3, 4] [0, 1, 5] (m_next l g h0 m_thrown2_1 a_tape 0 p0 u_65 u_66 u_68 u_69 u_70 u_72 u_62 m_trouble2_2 a_letters u_63 m_hasHouse a_r a_fresh a_st a_undone a_kept m_undos m_images a_from a_begin a_motor a_change a_startFrame a_changeFrame a_lostAt a_blackAt a_slips a_leftArc a_died a_arcs m_bestSum m_nearest m_nearestTown a_there a_backAt a_sorted a_parts m_seed1 m_darkNow d_tape uf_61 (iv_w iv_13 (by decide) (by decide)) (iv_w hv_67 (by decide) (by decide)) (iv_w hv_71 (by decide) (by decide))) dX11_house_94 mw489 mw490 mw491 mw5 mw492 rfl 11 rfl rfl 0 _ rfl (by unfold yOk; decide) rfl (Nat.le_of_ble_eq_true rfl) (Nat.le_of_ble_eq_true rfl) (Nat.le_of_ble_eq_true rfl) (Nat.le_of_ble_eq_true rfl) (Nat.le_of_ble_eq_true rfl) rfl rfl (by decide) rfl (by decide) (by decide) ?_
          rintro w ⟨m_at2_285, m_end2_286, d_letters2_287, m_nameSize2_288, m_token2_289, m_whole2_290, iv_292, iv_293, hq_294, hq_295, hk_296, rfl⟩
          refine k_ws [(a_r, .inl (g.2.2.1, 311, .inl d_r)), (a_st, .inl (g.2.2.1, 44, .inl d_st)), (a_fresh, .inl (g.2.2.1, 311, .inl uf_58)), (h0, .inr (11, [.int m_thrown2_1, .ref a_tape, .int 0, .int p0, .int m_at2_285, .int m_end2_286, .int m_token2_289, .int m_whole2_290, .int m_nameSize2_288, .int u_72, .int u_62, .int m_trouble2_2, .ref a_letters, .int u_63, .int m_hasHouse, .ref a_r, .ref a_fresh, .ref a_st, .ref a_undone, .ref a_kept, .int m_undos, .int m_images, .ref a_from, .ref a_begin, .ref a_motor, .ref a_change, .ref a_startFrame, .ref a_changeFrame, .ref a_lostAt, .ref a_blackAt, .ref a_slips, .ref a_leftArc, .ref a_died, .ref a_arcs, .int m_bestSum, .int m_nearest, .int m_nearestTown, .ref a_there, .ref a_backAt, .ref a_sorted, .ref a_parts, .int m_seed1, .int m_darkNow])), (a_tape, .inl (g.2.2.1, 900, .inl d_tape)), (a_letters, .inl (g.2.2.1, 8, .inl d_letters2_287))] rfl ?_
          refine k_aload_n X dX11_house_97 1 rfl ?_
          refine k_callVV (n := 0) (As := []) (st := []) X [(h0, .inr (11, [.int m_thrown2_1, .ref a_tape, .int 0, .int p0, .int m_at2_285, .int m_end2_286, .int m_token2_289, .int m_whole2_290, .int m_nameSize2_288, .int u_72, .int u_62, .int m_trouble2_2, .ref a_letters, .int u_63, .int m_hasHouse, .ref a_r, .ref a_fresh, .ref a_st, .ref a_undone, .ref a_kept, .int m_undos, .int m_images, .ref a_from, .ref a_begin, .ref a_motor, .ref a_change, .ref a_startFrame, .ref a_changeFrame, .ref a_lostAt, .ref a_blackAt, .ref a_slips, .ref a_leftArc, .ref a_died, .ref a_arcs, .int m_bestSum, .int m_nearest, .int m_nearestTown, .ref a_there, .ref a_backAt, .ref a_sorted, .ref a_parts, .int m_seed1, .int m_darkNow])), (a_tape, .inl (g.2.2.1, 900, .inl d_tape)), (a_letters, .inl (g.2.2.1, 8, .inl d_letters2_287)), (a_fresh, .inl (g.2.2.1, 311, .inl uf_58))] [(a_r, .inl (g.2.2.1, 311, .inl d_r)), (a_st, .inl (g.2.2.1, 44, .inl d_st))] [3, 4, 5, 2] [0, 1] (m_readLine l g h0 m_thrown2_1 a_tape 0 p0 m_at2_285 m_end2_286 m_token2_289 m_whole2_290 m_nameSize2_288 u_72 u_62 m_trouble2_2 a_letters u_63 m_hasHouse a_r a_fresh a_st a_undone a_kept m_undos m_images a_from a_begin a_motor a_change a_startFrame a_changeFrame a_lostAt a_blackAt a_slips a_leftArc a_died a_arcs m_bestSum m_nearest m_nearestTown a_there a_backAt a_sorted a_parts m_seed1 m_darkNow d_tape d_letters2_287 uf_58 (iv_w iv_13 (by decide) (by decide)) (iv_w iv_292 (by decide) (by decide)) (iv_w iv_293 (by decide) (by decide)) (iv_w iv_85 (by decide) (by decide)) hp_59 hT_60 hk_296) dX11_house_98 mw505 mw506 mw507 mw5 mw508 rfl 11 rfl rfl 0 _ rfl (by unfold yOk; decide) rfl (Nat.le_of_ble_eq_true rfl) (Nat.le_of_ble_eq_true rfl) (Nat.le_of_ble_eq_true rfl) (Nat.le_of_ble_eq_true rfl) (Nat.le_of_ble_eq_true rfl) rfl rfl (by decide) rfl (by decide) (by decide) ?_
          rintro w ⟨m_at2_297, m_end2_298, m_failed2_299, m_fault2_300, d_fresh2_301, d_letters2_302, m_nameSize2_303, m_place2_304, m_token2_305, m_whole2_306, iv_308, iv_309, iv_310, hp_311, hq_312, hq_313, hq_314, hk_315, rfl⟩
          refine k_ws [(a_r, .inl (g.2.2.1, 311, .inl d_r)), (a_st, .inl (g.2.2.1, 44, .inl d_st)), (h0, .inr (11, [.int m_thrown2_1, .ref a_tape, .int 0, .int p0, .int m_at2_297, .int m_end2_298, .int m_token2_305, .int m_whole2_306, .int m_nameSize2_303, .int m_fault2_300, .int m_place2_304, .int m_trouble2_2, .ref a_letters, .int m_failed2_299, .int m_hasHouse, .ref a_r, .ref a_fresh, .ref a_st, .ref a_undone, .ref a_kept, .int m_undos, .int m_images, .ref a_from, .ref a_begin, .ref a_motor, .ref a_change, .ref a_startFrame, .ref a_changeFrame, .ref a_lostAt, .ref a_blackAt, .ref a_slips, .ref a_leftArc, .ref a_died, .ref a_arcs, .int m_bestSum, .int m_nearest, .int m_nearestTown, .ref a_there, .ref a_backAt, .ref a_sorted, .ref a_parts, .int m_seed1, .int m_darkNow])), (a_tape, .inl (g.2.2.1, 900, .inl d_tape)), (a_letters, .inl (g.2.2.1, 8, .inl d_letters2_302)), (a_fresh, .inl (g.2.2.1, 311, .inl d_fresh2_301))] rfl ?_
          refine k_goto 77 X dX11_house_101 (by decide) ?_
          exact ih_76 _ (by omega) d_fresh2_301 d_letters2_302 m_place2_304 m_failed2_299 m_at2_297 m_end2_298 m_token2_305 m_whole2_306 m_nameSize2_303 m_fault2_300 rfl hp_311 hq_314 (iv_w iv_309 (by decide) (by decide)) (iv_w iv_308 (by decide) (by decide)) (iv_w iv_310 (by decide) (by decide)) hk_315
    · skip
      have j_316 : u_17.toInt < 311 := iv_nle h_23
      have iv_317 : IV u_17 0 310 := iv_ltL (iv_nle h_23) hv_18 (show IV 311 311 311 from (by decide)) (by decide)
      refine k_aload_n X dX11_house_46 1 rfl ?_
      refine k_get (ci := 11) X inlX11 rfl 16 (by decide) dX11_house_47 mw171 5 rfl rfl ?_
      refine k_iload_n X dX11_house_50 0 rfl ?_
      refine k_iconst (v := 0) X dX11_house_51 (by decide) ?_
      refine k_iast [(a_tape, .inl (g.2.2.1, 900, .inl d_tape)), (a_letters, .inl (g.2.2.1, 8, .inl d_letters)), (a_r, .inl (g.2.2.1, 311, .inl d_r)), (a_fresh, .inl (g.2.2.1, 311, .inl (upd uf_15 (u_17 : Int32).toNatClampNeg 0))), (a_st, .inl (g.2.2.1, 44, .inl d_st)), (h0, .inr (11, [.int m_thrown2_1, .ref a_tape, .int 0, .int m_size, .int m_at, .int m_end, .int m_token, .int m_whole, .int m_nameSize, .int 0, .int m_place, .int m_trouble2_2, .ref a_letters, .int 0, .int m_hasHouse, .ref a_r, .ref a_fresh, .ref a_st, .ref a_undone, .ref a_kept, .int m_undos, .int m_images, .ref a_from, .ref a_begin, .ref a_motor, .ref a_change, .ref a_startFrame, .ref a_changeFrame, .ref a_lostAt, .ref a_blackAt, .ref a_slips, .ref a_leftArc, .ref a_died, .ref a_arcs, .int m_bestSum, .int m_nearest, .int m_nearestTown, .ref a_there, .ref a_backAt, .ref a_sorted, .ref a_parts, .int m_seed1, .int m_darkNow]))] X dX11_house_52 3 rfl (iv_in iv_317 (by decide) (by decide)) rfl ?_
      refine (fun hg : ∀ fa_318 : Nat → Int32, fa_318 = upd uf_15 (u_17 : Int32).toNatClampNeg 0 → RInv fa_318 → Wk p l e _ s m args below meth c _ A g _ _ _ [(a_tape, .inl (g.2.2.1, 900, .inl d_tape)), (a_letters, .inl (g.2.2.1, 8, .inl d_letters)), (a_r, .inl (g.2.2.1, 311, .inl d_r)), (a_fresh, .inl (g.2.2.1, 311, .inl fa_318)), (a_st, .inl (g.2.2.1, 44, .inl d_st)), (h0, .inr (11, [.int m_thrown2_1, .ref a_tape, .int 0, .int m_size, .int m_at, .int m_end, .int m_token, .int m_whole, .int m_nameSize, .int 0, .int m_place, .int m_trouble2_2, .ref a_letters, .int 0, .int m_hasHouse, .ref a_r, .ref a_fresh, .ref a_st, .ref a_undone, .ref a_kept, .int m_undos, .int m_images, .ref a_from, .ref a_begin, .ref a_motor, .ref a_change, .ref a_startFrame, .ref a_changeFrame, .ref a_lostAt, .ref a_blackAt, .ref a_slips, .ref a_leftArc, .ref a_died, .ref a_arcs, .int m_bestSum, .int m_nearest, .int m_nearestTown, .ref a_there, .ref a_backAt, .ref a_sorted, .ref a_parts, .int m_seed1, .int m_darkNow]))] _ _ _ => hg _ rfl (w_zero hp_16)) (fun fa_318 eq_321 hR_319 => ?_)
      obtain ⟨z_322, ez_322⟩ : ∃ y : Int32, u_17 + Int32.ofInt 1 = y := ⟨_, rfl⟩
      refine k_iinc z_322 [(2, .int z_322), (0, .ref h0), (1, .int p0)] 0 X dX11_house_53 rfl ez_322 (by decide) rfl ?_
      have i_323 : z_322.toInt = u_17.toInt + 1 := in_inc ez_322 (by decide) iv_317 (by decide) (by decide)
      have iv_324 : IV z_322 1 311 := by have := iv_317; rw [IV, i_323]; omega
      refine k_goto 39 X dX11_house_56 (by decide) ?_
      exact ih_22 _ (by omega) fa_318 z_322 rfl hR_319 (iv_w iv_324 (by decide) (by decide)) (z_step hx_19 eq_321 (by omega) (by omega))
  · skip
    have iv_325 : IV r_4 0 0 := iv_meet iv_5 (iv_e h_8 (show IV 0 0 0 from (by decide))) (by decide) (by decide)
    have hc_326 := hk_7 (iv_eq iv_325 (show IV 0 0 0 from (by decide)))
    have j_327 : p0.toInt < 0 ∨ m_taped.toInt < p0.toInt := hc_326
    refine k_aload_n X dX11_house_16 0 rfl ?_
    refine k_iconst (v := 2) X dX11_house_17 (by decide) ?_
    refine k_callVI (n := 1) (As := [.int 2]) (st := []) X [(h0, .inr (11, [.int m_thrown2_1, .ref a_tape, .int m_taped, .int m_size, .int m_at, .int m_end, .int m_token, .int m_whole, .int m_nameSize, .int m_fault, .int m_place, .int m_trouble2_2, .ref a_letters, .int m_failed, .int m_hasHouse, .ref a_r, .ref a_fresh, .ref a_st, .ref a_undone, .ref a_kept, .int m_undos, .int m_images, .ref a_from, .ref a_begin, .ref a_motor, .ref a_change, .ref a_startFrame, .ref a_changeFrame, .ref a_lostAt, .ref a_blackAt, .ref a_slips, .ref a_leftArc, .ref a_died, .ref a_arcs, .int m_bestSum, .int m_nearest, .int m_nearestTown, .ref a_there, .ref a_backAt, .ref a_sorted, .ref a_parts, .int m_seed1, .int m_darkNow]))] [(a_tape, .inl (g.2.2.1, 900, .inl d_tape)), (a_letters, .inl (g.2.2.1, 8, .inl d_letters)), (a_r, .inl (g.2.2.1, 311, .inl d_r)), (a_fresh, .inl (g.2.2.1, 311, .inl d_fresh)), (a_st, .inl (g.2.2.1, 44, .inl d_st))] [5] [0, 1, 2, 3, 4] (m_no l g h0 2 m_thrown2_1 a_tape m_taped m_size m_at m_end m_token m_whole m_nameSize m_fault m_place m_trouble2_2 a_letters m_failed m_hasHouse a_r a_fresh a_st a_undone a_kept m_undos m_images a_from a_begin a_motor a_change a_startFrame a_changeFrame a_lostAt a_blackAt a_slips a_leftArc a_died a_arcs m_bestSum m_nearest m_nearestTown a_there a_backAt a_sorted a_parts m_seed1 m_darkNow) dX11_house_18 mw485 mw486 mw487 mw5 mw488 rfl 11 rfl rfl 0 _ rfl (by unfold yOk; decide) rfl (Nat.le_of_ble_eq_true rfl) (Nat.le_of_ble_eq_true rfl) (Nat.le_of_ble_eq_true rfl) (Nat.le_of_ble_eq_true rfl) (Nat.le_of_ble_eq_true rfl) rfl rfl (by decide) rfl (by decide) (by decide) ?_
    rintro r_329 w ⟨m_trouble2_328, iv_330, rfl⟩
    refine k_ws [(a_tape, .inl (g.2.2.1, 900, .inl d_tape)), (a_letters, .inl (g.2.2.1, 8, .inl d_letters)), (a_r, .inl (g.2.2.1, 311, .inl d_r)), (a_fresh, .inl (g.2.2.1, 311, .inl d_fresh)), (a_st, .inl (g.2.2.1, 44, .inl d_st)), (h0, .inr (11, [.int m_thrown2_1, .ref a_tape, .int m_taped, .int m_size, .int m_at, .int m_end, .int m_token, .int m_whole, .int m_nameSize, .int m_fault, .int m_place, .int m_trouble2_328, .ref a_letters, .int m_failed, .int m_hasHouse, .ref a_r, .ref a_fresh, .ref a_st, .ref a_undone, .ref a_kept, .int m_undos, .int m_images, .ref a_from, .ref a_begin, .ref a_motor, .ref a_change, .ref a_startFrame, .ref a_changeFrame, .ref a_lostAt, .ref a_blackAt, .ref a_slips, .ref a_leftArc, .ref a_died, .ref a_arcs, .int m_bestSum, .int m_nearest, .int m_nearestTown, .ref a_there, .ref a_backAt, .ref a_sorted, .ref a_parts, .int m_seed1, .int m_darkNow]))] rfl ?_
    exact k_iret X hr dX11_house_21 (Nat.le_of_ble_eq_true rfl) (Nat.le_of_ble_eq_true rfl) [5, 0, 1, 2, 3, 4] (by decide) rfl rfl ⟨m_at, m_end, m_failed, m_fault, d_fresh, m_hasHouse, m_images, d_letters, m_nameSize, m_place, d_r, m_size, d_st, m_taped, m_thrown2_1, m_token, m_trouble2_328, m_undos, m_whole, (iv_w hv_m_end (by decide) (by decide)), (iv_w hv_m_failed (by decide) (by decide)), (iv_w hv_m_hasHouse (by decide) (by decide)), (iv_w hv_m_images (by decide) (by decide)), (iv_w hv_m_nameSize (by decide) (by decide)), (iv_w hv_m_size (by decide) (by decide)), (iv_w hv_m_taped (by decide) (by decide)), (iv_w hv_m_undos (by decide) (by decide)), hp_d_r, hp_d_fresh, (by refine ⟨fun q => ?_, fun q => ?_⟩ <;> first | rfl | (exfalso; omega)), hr_0, rfl⟩
