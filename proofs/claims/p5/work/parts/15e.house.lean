
set_option maxHeartbeats 4000000 in
set_option maxRecDepth 100000 in
theorem m_copyR (l : Launch) (g : Gx) (fa : Nat) (ta : Nat) (f1 : Nat → Int32) (f2 : Nat → Int32) (hp_f1 : RInv f1) : cV l g yX11_copy cX11_copy 6 0 0 0 0 [.ref fa, .int 0, .ref ta, .int 0, .int 311] [(fa, .inl (g.2.2.1, 311, .inl f1)), (ta, .inl (g.2.2.1, 311, .inl f2))] (fun w => ∃ (f3 : Nat → Int32), (RInv f3) ∧ (TRI f1 → TRI f3) ∧ w = [(fa, .inl (g.2.2.1, 311, .inl f1)), (ta, .inl (g.2.2.1, 311, .inl f3))]) := by
  refine cV.of (by decide) (Nat.le_of_ble_eq_true rfl) ?_
  intro p e s m args below meth c A X hr hi
  refine k_lveq [(0, .ref fa), (1, .int 0), (2, .ref ta), (3, .int 0), (4, .int 311)] rfl ?_
  refine k_iconst (v := 0) X dX11_copy_0 (by decide) ?_
  refine k_istore [(5, .int 0), (0, .ref fa), (1, .int 0), (2, .ref ta), (3, .int 0), (4, .int 311)] X dX11_copy_1 (by decide) rfl ?_
  refine (fun hL : ∀ (nn_5 : Nat) (uf_1 : Nat → Int32) (u_2 : Int32), (311 - u_2.toInt).toNat = nn_5 → (IV u_2 0 900) → (∀ i : Nat, i < u_2.toInt.toNat → uf_1 i = f1 i) → Wk p l e _ s m args below meth c _ A g _ _ _ [(fa, .inl (g.2.2.1, 311, .inl f1)), (ta, .inl (g.2.2.1, 311, .inl uf_1))] [(5, .int u_2), (0, .ref fa), (1, .int 0), (2, .ref ta), (3, .int 0), (4, .int 311)] 3 [] => hL _ f2 0 rfl (iv_w (show IV 0 0 0 from (by decide)) (by decide) (by decide)) (cp_0)) ?_
  refine fun nn_5 => Nat.strongRecOn nn_5 (fun nn_5 ih_7 => ?_)
  intro uf_1 u_2 hm_6 hv_3 hx_4
  refine k_iload X dX11_copy_3 0 rfl ?_
  refine k_iload X dX11_copy_5 5 rfl ?_
  refine k_ic_ge 28 X dX11_copy_7 (by decide) (fun h_8 => ?_) (fun h_8 => ?_)
  · skip
    have j_9 : 311 ≤ u_2.toInt := iv_le h_8
    have iv_10 : IV u_2 311 900 := iv_leR (iv_le h_8) (show IV 311 311 311 from (by decide)) hv_3 (by decide)
    exact k_vret X hr dX11_copy_28 (Nat.le_of_ble_eq_true rfl) (Nat.le_of_ble_eq_true rfl) [0, 1] (by decide) rfl rfl ⟨uf_1, (rinv_cp hp_f1 (by assumption) (by omega)), (fun hT => tri_cp hT hp_f1 (by assumption) (by omega)), rfl⟩
  · skip
    have j_11 : u_2.toInt < 311 := iv_nle h_8
    have iv_12 : IV u_2 0 310 := iv_ltL (iv_nle h_8) hv_3 (show IV 311 311 311 from (by decide)) (by decide)
    refine k_aload_n X dX11_copy_10 3 rfl ?_
    refine k_iload_n X dX11_copy_11 4 rfl ?_
    refine k_iload X dX11_copy_12 0 rfl ?_
    refine k_iadd X dX11_copy_14 ?_
    refine k_nm (fun z_13 ez_13 => ?_)
    have i_14 : z_13.toInt = 0 + u_2.toInt := in_add ez_13 (show IV 0 0 0 from (by decide)) iv_12 (by decide) (by decide)
    have iv_15 : IV z_13 0 310 := by have := (show IV 0 0 0 from (by decide)); have := iv_12; rw [IV, i_14]; omega
    refine k_aload_n X dX11_copy_15 1 rfl ?_
    refine k_iload_n X dX11_copy_16 2 rfl ?_
    refine k_iload X dX11_copy_17 0 rfl ?_
    refine k_iadd X dX11_copy_19 ?_
    refine k_to z_13 ez_13.symm ?_
    refine k_iald X dX11_copy_20 0 rfl (iv_in iv_15 (by decide) (by decide)) ?_
    refine k_nm (fun z_16 ez_16 => ?_)
    refine k_iast [(fa, .inl (g.2.2.1, 311, .inl f1)), (ta, .inl (g.2.2.1, 311, .inl (upd uf_1 (z_13 : Int32).toNatClampNeg z_16)))] X dX11_copy_21 1 rfl (iv_in iv_15 (by decide) (by decide)) rfl ?_
    obtain ⟨z_18, ez_18⟩ : ∃ y : Int32, u_2 + Int32.ofInt 1 = y := ⟨_, rfl⟩
    refine k_iinc z_18 [(5, .int z_18), (0, .ref fa), (1, .int 0), (2, .ref ta), (3, .int 0), (4, .int 311)] 0 X dX11_copy_22 rfl ez_18 (by decide) rfl ?_
    have i_19 : z_18.toInt = u_2.toInt + 1 := in_inc ez_18 (by decide) iv_12 (by decide) (by decide)
    have iv_20 : IV z_18 1 311 := by have := iv_12; rw [IV, i_19]; omega
    refine k_goto 3 X dX11_copy_25 (by decide) ?_
    exact ih_7 _ (by omega) ((upd uf_1 (z_13 : Int32).toNatClampNeg z_16)) z_18 rfl (iv_w iv_20 (by decide) (by decide)) (cp_step (by assumption) (by assumption) (by assumption) (by assumption) (by have := (by assumption : IV _ _ _); omega))

theorem dX11_house_0 : decode cX11_house 0 = .ok (.aload_n 0, 1) := by decide +kernel
theorem dX11_house_1 : decode cX11_house 1 = .ok (.invokevirtual 200, 3) := by decide +kernel
theorem dX11_house_4 : decode cX11_house 4 = .ok (.iload_n 1, 1) := by decide +kernel
theorem dX11_house_5 : decode cX11_house 5 = .ok (.iconst 0, 1) := by decide +kernel
theorem dX11_house_6 : decode cX11_house 6 = .ok (.aload_n 0, 1) := by decide +kernel
theorem dX11_house_7 : decode cX11_house 7 = .ok (.getfield 89, 3) := by decide +kernel
theorem dX11_house_10 : decode cX11_house 10 = .ok (.invokestatic 182, 3) := by decide +kernel
theorem dX11_house_13 : decode cX11_house 13 = .ok (.ifCond .ne 9, 3) := by decide +kernel
theorem dX11_house_16 : decode cX11_house 16 = .ok (.aload_n 0, 1) := by decide +kernel
theorem dX11_house_17 : decode cX11_house 17 = .ok (.iconst 2, 1) := by decide +kernel
theorem dX11_house_18 : decode cX11_house 18 = .ok (.invokevirtual 203, 3) := by decide +kernel
theorem dX11_house_21 : decode cX11_house 21 = .ok (.ireturn, 1) := by decide +kernel
theorem dX11_house_22 : decode cX11_house 22 = .ok (.aload_n 0, 1) := by decide +kernel
theorem dX11_house_23 : decode cX11_house 23 = .ok (.iconst 0, 1) := by decide +kernel
theorem dX11_house_24 : decode cX11_house 24 = .ok (.putfield 89, 3) := by decide +kernel
theorem dX11_house_27 : decode cX11_house 27 = .ok (.aload_n 0, 1) := by decide +kernel
theorem dX11_house_28 : decode cX11_house 28 = .ok (.iconst 0, 1) := by decide +kernel
theorem dX11_house_29 : decode cX11_house 29 = .ok (.putfield 125, 3) := by decide +kernel
theorem dX11_house_32 : decode cX11_house 32 = .ok (.aload_n 0, 1) := by decide +kernel
theorem dX11_house_33 : decode cX11_house 33 = .ok (.iconst 0, 1) := by decide +kernel
theorem dX11_house_34 : decode cX11_house 34 = .ok (.putfield 121, 3) := by decide +kernel
theorem dX11_house_37 : decode cX11_house 37 = .ok (.iconst 0, 1) := by decide +kernel
theorem dX11_house_38 : decode cX11_house 38 = .ok (.istore_n 2, 1) := by decide +kernel
theorem dX11_house_39 : decode cX11_house 39 = .ok (.iload_n 2, 1) := by decide +kernel
theorem dX11_house_40 : decode cX11_house 40 = .ok (.sipush 311, 3) := by decide +kernel
theorem dX11_house_43 : decode cX11_house 43 = .ok (.if_icmp .ge 16, 3) := by decide +kernel
theorem dX11_house_46 : decode cX11_house 46 = .ok (.aload_n 0, 1) := by decide +kernel
theorem dX11_house_47 : decode cX11_house 47 = .ok (.getfield 23, 3) := by decide +kernel
theorem dX11_house_50 : decode cX11_house 50 = .ok (.iload_n 2, 1) := by decide +kernel
theorem dX11_house_51 : decode cX11_house 51 = .ok (.iconst 0, 1) := by decide +kernel
theorem dX11_house_52 : decode cX11_house 52 = .ok (.iastore, 1) := by decide +kernel
theorem dX11_house_53 : decode cX11_house 53 = .ok (.iinc 2 1, 3) := by decide +kernel
theorem dX11_house_56 : decode cX11_house 56 = .ok (.goto (-17), 3) := by decide +kernel
theorem dX11_house_59 : decode cX11_house 59 = .ok (.aload_n 0, 1) := by decide +kernel
theorem dX11_house_60 : decode cX11_house 60 = .ok (.iload_n 1, 1) := by decide +kernel
theorem dX11_house_61 : decode cX11_house 61 = .ok (.putfield 92, 3) := by decide +kernel
theorem dX11_house_64 : decode cX11_house 64 = .ok (.aload_n 0, 1) := by decide +kernel
theorem dX11_house_65 : decode cX11_house 65 = .ok (.iconst 0, 1) := by decide +kernel
theorem dX11_house_66 : decode cX11_house 66 = .ok (.putfield 95, 3) := by decide +kernel
theorem dX11_house_69 : decode cX11_house 69 = .ok (.aload_n 0, 1) := by decide +kernel
theorem dX11_house_70 : decode cX11_house 70 = .ok (.invokevirtual 142, 3) := by decide +kernel
theorem dX11_house_73 : decode cX11_house 73 = .ok (.aload_n 0, 1) := by decide +kernel
theorem dX11_house_74 : decode cX11_house 74 = .ok (.invokevirtual 206, 3) := by decide +kernel
theorem dX11_house_77 : decode cX11_house 77 = .ok (.aload_n 0, 1) := by decide +kernel
theorem dX11_house_78 : decode cX11_house 78 = .ok (.getfield 121, 3) := by decide +kernel
theorem dX11_house_81 : decode cX11_house 81 = .ok (.ifCond .ne 23, 3) := by decide +kernel
theorem dX11_house_84 : decode cX11_house 84 = .ok (.aload_n 0, 1) := by decide +kernel
theorem dX11_house_85 : decode cX11_house 85 = .ok (.getfield 111, 3) := by decide +kernel
theorem dX11_house_88 : decode cX11_house 88 = .ok (.bipush 59, 2) := by decide +kernel
theorem dX11_house_90 : decode cX11_house 90 = .ok (.if_icmp .ne 14, 3) := by decide +kernel
theorem dX11_house_93 : decode cX11_house 93 = .ok (.aload_n 0, 1) := by decide +kernel
theorem dX11_house_94 : decode cX11_house 94 = .ok (.invokevirtual 142, 3) := by decide +kernel
theorem dX11_house_97 : decode cX11_house 97 = .ok (.aload_n 0, 1) := by decide +kernel
theorem dX11_house_98 : decode cX11_house 98 = .ok (.invokevirtual 206, 3) := by decide +kernel
theorem dX11_house_101 : decode cX11_house 101 = .ok (.goto (-24), 3) := by decide +kernel
theorem dX11_house_104 : decode cX11_house 104 = .ok (.aload_n 0, 1) := by decide +kernel
theorem dX11_house_105 : decode cX11_house 105 = .ok (.getfield 121, 3) := by decide +kernel
theorem dX11_house_108 : decode cX11_house 108 = .ok (.ifCond .ne 19, 3) := by decide +kernel
theorem dX11_house_111 : decode cX11_house 111 = .ok (.aload_n 0, 1) := by decide +kernel
theorem dX11_house_112 : decode cX11_house 112 = .ok (.getfield 111, 3) := by decide +kernel
theorem dX11_house_115 : decode cX11_house 115 = .ok (.ifCond .eq 12, 3) := by decide +kernel
theorem dX11_house_118 : decode cX11_house 118 = .ok (.aload_n 0, 1) := by decide +kernel
theorem dX11_house_119 : decode cX11_house 119 = .ok (.iconst 1, 1) := by decide +kernel
theorem dX11_house_120 : decode cX11_house 120 = .ok (.aload_n 0, 1) := by decide +kernel
theorem dX11_house_121 : decode cX11_house 121 = .ok (.getfield 102, 3) := by decide +kernel
theorem dX11_house_124 : decode cX11_house 124 = .ok (.invokevirtual 148, 3) := by decide +kernel
theorem dX11_house_127 : decode cX11_house 127 = .ok (.aload_n 0, 1) := by decide +kernel
theorem dX11_house_128 : decode cX11_house 128 = .ok (.getfield 121, 3) := by decide +kernel
theorem dX11_house_131 : decode cX11_house 131 = .ok (.ifCond .ne 43, 3) := by decide +kernel
theorem dX11_house_134 : decode cX11_house 134 = .ok (.aload_n 0, 1) := by decide +kernel
theorem dX11_house_135 : decode cX11_house 135 = .ok (.getfield 23, 3) := by decide +kernel
theorem dX11_house_138 : decode cX11_house 138 = .ok (.bipush 15, 2) := by decide +kernel
theorem dX11_house_140 : decode cX11_house 140 = .ok (.iaload, 1) := by decide +kernel
theorem dX11_house_141 : decode cX11_house 141 = .ok (.ifCond .eq 23, 3) := by decide +kernel
theorem dX11_house_144 : decode cX11_house 144 = .ok (.aload_n 0, 1) := by decide +kernel
theorem dX11_house_145 : decode cX11_house 145 = .ok (.getfield 23, 3) := by decide +kernel
theorem dX11_house_148 : decode cX11_house 148 = .ok (.bipush 12, 2) := by decide +kernel
theorem dX11_house_150 : decode cX11_house 150 = .ok (.iaload, 1) := by decide +kernel
theorem dX11_house_151 : decode cX11_house 151 = .ok (.ifCond .eq 13, 3) := by decide +kernel
theorem dX11_house_154 : decode cX11_house 154 = .ok (.aload_n 0, 1) := by decide +kernel
theorem dX11_house_155 : decode cX11_house 155 = .ok (.getfield 23, 3) := by decide +kernel
theorem dX11_house_158 : decode cX11_house 158 = .ok (.bipush 11, 2) := by decide +kernel
theorem dX11_house_160 : decode cX11_house 160 = .ok (.iaload, 1) := by decide +kernel
theorem dX11_house_161 : decode cX11_house 161 = .ok (.ifCond .ne 13, 3) := by decide +kernel
theorem dX11_house_164 : decode cX11_house 164 = .ok (.aload_n 0, 1) := by decide +kernel
theorem dX11_house_165 : decode cX11_house 165 = .ok (.bipush 6, 2) := by decide +kernel
theorem dX11_house_167 : decode cX11_house 167 = .ok (.aload_n 0, 1) := by decide +kernel
theorem dX11_house_168 : decode cX11_house 168 = .ok (.getfield 102, 3) := by decide +kernel
theorem dX11_house_171 : decode cX11_house 171 = .ok (.invokevirtual 148, 3) := by decide +kernel
theorem dX11_house_174 : decode cX11_house 174 = .ok (.aload_n 0, 1) := by decide +kernel
theorem dX11_house_175 : decode cX11_house 175 = .ok (.getfield 121, 3) := by decide +kernel
theorem dX11_house_178 : decode cX11_house 178 = .ok (.ifCond .eq 9, 3) := by decide +kernel
theorem dX11_house_181 : decode cX11_house 181 = .ok (.aload_n 0, 1) := by decide +kernel
theorem dX11_house_182 : decode cX11_house 182 = .ok (.iconst 4, 1) := by decide +kernel
theorem dX11_house_183 : decode cX11_house 183 = .ok (.invokevirtual 203, 3) := by decide +kernel
theorem dX11_house_186 : decode cX11_house 186 = .ok (.ireturn, 1) := by decide +kernel
theorem dX11_house_187 : decode cX11_house 187 = .ok (.aload_n 0, 1) := by decide +kernel
theorem dX11_house_188 : decode cX11_house 188 = .ok (.getfield 23, 3) := by decide +kernel
theorem dX11_house_191 : decode cX11_house 191 = .ok (.iconst 0, 1) := by decide +kernel
theorem dX11_house_192 : decode cX11_house 192 = .ok (.aload_n 0, 1) := by decide +kernel
theorem dX11_house_193 : decode cX11_house 193 = .ok (.getfield 20, 3) := by decide +kernel
theorem dX11_house_196 : decode cX11_house 196 = .ok (.iconst 0, 1) := by decide +kernel
theorem dX11_house_197 : decode cX11_house 197 = .ok (.sipush 311, 3) := by decide +kernel
theorem dX11_house_200 : decode cX11_house 200 = .ok (.invokestatic 209, 3) := by decide +kernel
theorem dX11_house_203 : decode cX11_house 203 = .ok (.iconst 0, 1) := by decide +kernel
theorem dX11_house_204 : decode cX11_house 204 = .ok (.istore_n 2, 1) := by decide +kernel
theorem dX11_house_205 : decode cX11_house 205 = .ok (.iload_n 2, 1) := by decide +kernel
theorem dX11_house_206 : decode cX11_house 206 = .ok (.bipush 44, 2) := by decide +kernel
theorem dX11_house_208 : decode cX11_house 208 = .ok (.if_icmp .ge 16, 3) := by decide +kernel
theorem dX11_house_211 : decode cX11_house 211 = .ok (.aload_n 0, 1) := by decide +kernel
theorem dX11_house_212 : decode cX11_house 212 = .ok (.getfield 26, 3) := by decide +kernel
theorem dX11_house_215 : decode cX11_house 215 = .ok (.iload_n 2, 1) := by decide +kernel
theorem dX11_house_216 : decode cX11_house 216 = .ok (.iconst 0, 1) := by decide +kernel
theorem dX11_house_217 : decode cX11_house 217 = .ok (.iastore, 1) := by decide +kernel
theorem dX11_house_218 : decode cX11_house 218 = .ok (.iinc 2 1, 3) := by decide +kernel
theorem dX11_house_221 : decode cX11_house 221 = .ok (.goto (-16), 3) := by decide +kernel
theorem dX11_house_224 : decode cX11_house 224 = .ok (.iconst 0, 1) := by decide +kernel
theorem dX11_house_225 : decode cX11_house 225 = .ok (.istore_n 2, 1) := by decide +kernel
theorem dX11_house_226 : decode cX11_house 226 = .ok (.iload_n 2, 1) := by decide +kernel
theorem dX11_house_227 : decode cX11_house 227 = .ok (.aload_n 0, 1) := by decide +kernel
theorem dX11_house_228 : decode cX11_house 228 = .ok (.getfield 20, 3) := by decide +kernel
theorem dX11_house_231 : decode cX11_house 231 = .ok (.bipush 6, 2) := by decide +kernel
theorem dX11_house_233 : decode cX11_house 233 = .ok (.iaload, 1) := by decide +kernel
theorem dX11_house_234 : decode cX11_house 234 = .ok (.if_icmp .ge 50, 3) := by decide +kernel
theorem dX11_house_237 : decode cX11_house 237 = .ok (.aload_n 0, 1) := by decide +kernel
theorem dX11_house_238 : decode cX11_house 238 = .ok (.getfield 26, 3) := by decide +kernel
theorem dX11_house_241 : decode cX11_house 241 = .ok (.iconst 0, 1) := by decide +kernel
theorem dX11_house_242 : decode cX11_house 242 = .ok (.iload_n 2, 1) := by decide +kernel
theorem dX11_house_243 : decode cX11_house 243 = .ok (.iadd, 1) := by decide +kernel
theorem dX11_house_244 : decode cX11_house 244 = .ok (.aload_n 0, 1) := by decide +kernel
theorem dX11_house_245 : decode cX11_house 245 = .ok (.getfield 20, 3) := by decide +kernel
theorem dX11_house_248 : decode cX11_house 248 = .ok (.bipush 16, 2) := by decide +kernel
theorem dX11_house_250 : decode cX11_house 250 = .ok (.iconst 3, 1) := by decide +kernel
theorem dX11_house_251 : decode cX11_house 251 = .ok (.iload_n 2, 1) := by decide +kernel
theorem dX11_house_252 : decode cX11_house 252 = .ok (.imul, 1) := by decide +kernel
theorem dX11_house_253 : decode cX11_house 253 = .ok (.iadd, 1) := by decide +kernel
theorem dX11_house_254 : decode cX11_house 254 = .ok (.iaload, 1) := by decide +kernel
theorem dX11_house_255 : decode cX11_house 255 = .ok (.iastore, 1) := by decide +kernel
theorem dX11_house_256 : decode cX11_house 256 = .ok (.aload_n 0, 1) := by decide +kernel
theorem dX11_house_257 : decode cX11_house 257 = .ok (.getfield 26, 3) := by decide +kernel
theorem dX11_house_260 : decode cX11_house 260 = .ok (.bipush 8, 2) := by decide +kernel
theorem dX11_house_262 : decode cX11_house 262 = .ok (.iload_n 2, 1) := by decide +kernel
theorem dX11_house_263 : decode cX11_house 263 = .ok (.iadd, 1) := by decide +kernel
theorem dX11_house_264 : decode cX11_house 264 = .ok (.aload_n 0, 1) := by decide +kernel
theorem dX11_house_265 : decode cX11_house 265 = .ok (.getfield 20, 3) := by decide +kernel
theorem dX11_house_268 : decode cX11_house 268 = .ok (.bipush 16, 2) := by decide +kernel
theorem dX11_house_270 : decode cX11_house 270 = .ok (.iconst 3, 1) := by decide +kernel
theorem dX11_house_271 : decode cX11_house 271 = .ok (.iload_n 2, 1) := by decide +kernel
theorem dX11_house_272 : decode cX11_house 272 = .ok (.imul, 1) := by decide +kernel
theorem dX11_house_273 : decode cX11_house 273 = .ok (.iadd, 1) := by decide +kernel
theorem dX11_house_274 : decode cX11_house 274 = .ok (.iconst 1, 1) := by decide +kernel
theorem dX11_house_275 : decode cX11_house 275 = .ok (.iadd, 1) := by decide +kernel
theorem dX11_house_276 : decode cX11_house 276 = .ok (.iaload, 1) := by decide +kernel
theorem dX11_house_277 : decode cX11_house 277 = .ok (.iastore, 1) := by decide +kernel
theorem dX11_house_278 : decode cX11_house 278 = .ok (.iinc 2 1, 3) := by decide +kernel
theorem dX11_house_281 : decode cX11_house 281 = .ok (.goto (-55), 3) := by decide +kernel
theorem dX11_house_284 : decode cX11_house 284 = .ok (.iconst 0, 1) := by decide +kernel
theorem dX11_house_285 : decode cX11_house 285 = .ok (.istore_n 2, 1) := by decide +kernel
theorem dX11_house_286 : decode cX11_house 286 = .ok (.iload_n 2, 1) := by decide +kernel
theorem dX11_house_287 : decode cX11_house 287 = .ok (.aload_n 0, 1) := by decide +kernel
theorem dX11_house_288 : decode cX11_house 288 = .ok (.getfield 20, 3) := by decide +kernel
theorem dX11_house_291 : decode cX11_house 291 = .ok (.bipush 8, 2) := by decide +kernel
theorem dX11_house_293 : decode cX11_house 293 = .ok (.iaload, 1) := by decide +kernel
theorem dX11_house_294 : decode cX11_house 294 = .ok (.if_icmp .ge 31, 3) := by decide +kernel
theorem dX11_house_297 : decode cX11_house 297 = .ok (.aload_n 0, 1) := by decide +kernel
theorem dX11_house_298 : decode cX11_house 298 = .ok (.getfield 26, 3) := by decide +kernel
theorem dX11_house_301 : decode cX11_house 301 = .ok (.bipush 16, 2) := by decide +kernel
theorem dX11_house_303 : decode cX11_house 303 = .ok (.iload_n 2, 1) := by decide +kernel
theorem dX11_house_304 : decode cX11_house 304 = .ok (.iadd, 1) := by decide +kernel
theorem dX11_house_305 : decode cX11_house 305 = .ok (.aload_n 0, 1) := by decide +kernel
theorem dX11_house_306 : decode cX11_house 306 = .ok (.getfield 20, 3) := by decide +kernel
theorem dX11_house_309 : decode cX11_house 309 = .ok (.bipush 44, 2) := by decide +kernel
theorem dX11_house_311 : decode cX11_house 311 = .ok (.iconst 3, 1) := by decide +kernel
theorem dX11_house_312 : decode cX11_house 312 = .ok (.iload_n 2, 1) := by decide +kernel
theorem dX11_house_313 : decode cX11_house 313 = .ok (.imul, 1) := by decide +kernel
theorem dX11_house_314 : decode cX11_house 314 = .ok (.iadd, 1) := by decide +kernel
theorem dX11_house_315 : decode cX11_house 315 = .ok (.iconst 1, 1) := by decide +kernel
theorem dX11_house_316 : decode cX11_house 316 = .ok (.iadd, 1) := by decide +kernel
theorem dX11_house_317 : decode cX11_house 317 = .ok (.iaload, 1) := by decide +kernel
theorem dX11_house_318 : decode cX11_house 318 = .ok (.iastore, 1) := by decide +kernel
theorem dX11_house_319 : decode cX11_house 319 = .ok (.iinc 2 1, 3) := by decide +kernel
theorem dX11_house_322 : decode cX11_house 322 = .ok (.goto (-36), 3) := by decide +kernel
theorem dX11_house_325 : decode cX11_house 325 = .ok (.iconst 0, 1) := by decide +kernel
theorem dX11_house_326 : decode cX11_house 326 = .ok (.istore_n 2, 1) := by decide +kernel
theorem dX11_house_327 : decode cX11_house 327 = .ok (.iload_n 2, 1) := by decide +kernel
theorem dX11_house_328 : decode cX11_house 328 = .ok (.aload_n 0, 1) := by decide +kernel
theorem dX11_house_329 : decode cX11_house 329 = .ok (.getfield 20, 3) := by decide +kernel
theorem dX11_house_332 : decode cX11_house 332 = .ok (.bipush 10, 2) := by decide +kernel
theorem dX11_house_334 : decode cX11_house 334 = .ok (.iaload, 1) := by decide +kernel
theorem dX11_house_335 : decode cX11_house 335 = .ok (.if_icmp .ge 31, 3) := by decide +kernel
theorem dX11_house_338 : decode cX11_house 338 = .ok (.aload_n 0, 1) := by decide +kernel
theorem dX11_house_339 : decode cX11_house 339 = .ok (.getfield 26, 3) := by decide +kernel
theorem dX11_house_342 : decode cX11_house 342 = .ok (.bipush 28, 2) := by decide +kernel
theorem dX11_house_344 : decode cX11_house 344 = .ok (.iload_n 2, 1) := by decide +kernel
theorem dX11_house_345 : decode cX11_house 345 = .ok (.iadd, 1) := by decide +kernel
theorem dX11_house_346 : decode cX11_house 346 = .ok (.aload_n 0, 1) := by decide +kernel
theorem dX11_house_347 : decode cX11_house 347 = .ok (.getfield 20, 3) := by decide +kernel
theorem dX11_house_350 : decode cX11_house 350 = .ok (.bipush 96, 2) := by decide +kernel
theorem dX11_house_352 : decode cX11_house 352 = .ok (.iconst 3, 1) := by decide +kernel
theorem dX11_house_353 : decode cX11_house 353 = .ok (.iload_n 2, 1) := by decide +kernel
theorem dX11_house_354 : decode cX11_house 354 = .ok (.imul, 1) := by decide +kernel
theorem dX11_house_355 : decode cX11_house 355 = .ok (.iadd, 1) := by decide +kernel
theorem dX11_house_356 : decode cX11_house 356 = .ok (.iconst 1, 1) := by decide +kernel
theorem dX11_house_357 : decode cX11_house 357 = .ok (.iadd, 1) := by decide +kernel
theorem dX11_house_358 : decode cX11_house 358 = .ok (.iaload, 1) := by decide +kernel
theorem dX11_house_359 : decode cX11_house 359 = .ok (.iastore, 1) := by decide +kernel
theorem dX11_house_360 : decode cX11_house 360 = .ok (.iinc 2 1, 3) := by decide +kernel
theorem dX11_house_363 : decode cX11_house 363 = .ok (.goto (-36), 3) := by decide +kernel
theorem dX11_house_366 : decode cX11_house 366 = .ok (.iconst 0, 1) := by decide +kernel
theorem dX11_house_367 : decode cX11_house 367 = .ok (.istore_n 2, 1) := by decide +kernel
theorem dX11_house_368 : decode cX11_house 368 = .ok (.iload_n 2, 1) := by decide +kernel
theorem dX11_house_369 : decode cX11_house 369 = .ok (.aload_n 0, 1) := by decide +kernel
theorem dX11_house_370 : decode cX11_house 370 = .ok (.getfield 20, 3) := by decide +kernel
theorem dX11_house_373 : decode cX11_house 373 = .ok (.bipush 12, 2) := by decide +kernel
theorem dX11_house_375 : decode cX11_house 375 = .ok (.iaload, 1) := by decide +kernel
theorem dX11_house_376 : decode cX11_house 376 = .ok (.if_icmp .ge 24, 3) := by decide +kernel
theorem dX11_house_379 : decode cX11_house 379 = .ok (.aload_n 0, 1) := by decide +kernel
theorem dX11_house_380 : decode cX11_house 380 = .ok (.getfield 26, 3) := by decide +kernel
theorem dX11_house_383 : decode cX11_house 383 = .ok (.bipush 34, 2) := by decide +kernel
theorem dX11_house_385 : decode cX11_house 385 = .ok (.iload_n 2, 1) := by decide +kernel
theorem dX11_house_386 : decode cX11_house 386 = .ok (.iadd, 1) := by decide +kernel
theorem dX11_house_387 : decode cX11_house 387 = .ok (.aload_n 0, 1) := by decide +kernel
theorem dX11_house_388 : decode cX11_house 388 = .ok (.getfield 20, 3) := by decide +kernel
theorem dX11_house_391 : decode cX11_house 391 = .ok (.iconst 2, 1) := by decide +kernel
theorem dX11_house_392 : decode cX11_house 392 = .ok (.iaload, 1) := by decide +kernel
theorem dX11_house_393 : decode cX11_house 393 = .ok (.iastore, 1) := by decide +kernel
theorem dX11_house_394 : decode cX11_house 394 = .ok (.iinc 2 1, 3) := by decide +kernel
theorem dX11_house_397 : decode cX11_house 397 = .ok (.goto (-29), 3) := by decide +kernel
theorem dX11_house_400 : decode cX11_house 400 = .ok (.aload_n 0, 1) := by decide +kernel
theorem dX11_house_401 : decode cX11_house 401 = .ok (.iconst 1, 1) := by decide +kernel
theorem dX11_house_402 : decode cX11_house 402 = .ok (.putfield 213, 3) := by decide +kernel
theorem dX11_house_405 : decode cX11_house 405 = .ok (.aload_n 0, 1) := by decide +kernel
theorem dX11_house_406 : decode cX11_house 406 = .ok (.iconst 0, 1) := by decide +kernel
theorem dX11_house_407 : decode cX11_house 407 = .ok (.putfield 216, 3) := by decide +kernel
theorem dX11_house_410 : decode cX11_house 410 = .ok (.aload_n 0, 1) := by decide +kernel
theorem dX11_house_411 : decode cX11_house 411 = .ok (.iconst 0, 1) := by decide +kernel
theorem dX11_house_412 : decode cX11_house 412 = .ok (.putfield 219, 3) := by decide +kernel
theorem dX11_house_415 : decode cX11_house 415 = .ok (.aload_n 0, 1) := by decide +kernel
theorem dX11_house_416 : decode cX11_house 416 = .ok (.getfield 20, 3) := by decide +kernel
theorem dX11_house_419 : decode cX11_house 419 = .ok (.bipush 12, 2) := by decide +kernel
theorem dX11_house_421 : decode cX11_house 421 = .ok (.iaload, 1) := by decide +kernel
theorem dX11_house_422 : decode cX11_house 422 = .ok (.ireturn, 1) := by decide +kernel
set_option maxHeartbeats 4000000 in
set_option maxRecDepth 100000 in
theorem m_house (l : Launch) (g : Gx) (h0 : Nat) (p0 : Int32) (m_thrown : Int32) (a_tape : Nat) (m_taped : Int32) (m_size : Int32) (m_at : Int32) (m_end : Int32) (m_token : Int32) (m_whole : Int32) (m_nameSize : Int32) (m_fault : Int32) (m_place : Int32) (m_trouble : Int32) (a_letters : Nat) (m_failed : Int32) (m_hasHouse : Int32) (a_r : Nat) (a_fresh : Nat) (a_st : Nat) (a_undone : Nat) (a_kept : Nat) (m_undos : Int32) (m_images : Int32) (a_from : Nat) (a_begin : Nat) (a_motor : Nat) (a_change : Nat) (a_startFrame : Nat) (a_changeFrame : Nat) (a_lostAt : Nat) (a_blackAt : Nat) (a_slips : Nat) (a_leftArc : Nat) (a_died : Nat) (a_arcs : Nat) (m_bestSum : Int32) (m_nearest : Int32) (m_nearestTown : Int32) (a_there : Nat) (a_backAt : Nat) (a_sorted : Nat) (a_parts : Nat) (m_seed1 : Int32) (m_darkNow : Int32) (d_tape : Nat → Int32) (d_letters : Nat → Int32) (d_r : Nat → Int32) (d_fresh : Nat → Int32) (d_st : Nat → Int32) (hv_m_size : IV m_size 0 900) (hv_m_end : IV m_end 0 900) (hv_m_nameSize : IV m_nameSize 0 900) (hv_m_failed : IV m_failed 0 1) (hv_m_hasHouse : IV m_hasHouse 0 1) (hv_m_undos : IV m_undos 0 12) (hv_m_images : IV m_images 0 3) (hv_m_taped : IV m_taped 0 900) (hp_d_r : RInv d_r) (hp_d_fresh : RInv d_fresh) (hr_0 : TRI d_r) : cI l g yX11_house cX11_house 3 (some .int) 10 218 0 0 [.ref h0, .int p0] [(h0, .inr (11, [.int m_thrown, .ref a_tape, .int m_taped, .int m_size, .int m_at, .int m_end, .int m_token, .int m_whole, .int m_nameSize, .int m_fault, .int m_place, .int m_trouble, .ref a_letters, .int m_failed, .int m_hasHouse, .ref a_r, .ref a_fresh, .ref a_st, .ref a_undone, .ref a_kept, .int m_undos, .int m_images, .ref a_from, .ref a_begin, .ref a_motor, .ref a_change, .ref a_startFrame, .ref a_changeFrame, .ref a_lostAt, .ref a_blackAt, .ref a_slips, .ref a_leftArc, .ref a_died, .ref a_arcs, .int m_bestSum, .int m_nearest, .int m_nearestTown, .ref a_there, .ref a_backAt, .ref a_sorted, .ref a_parts, .int m_seed1, .int m_darkNow])), (a_tape, .inl (g.2.2.1, 900, .inl d_tape)), (a_letters, .inl (g.2.2.1, 8, .inl d_letters)), (a_r, .inl (g.2.2.1, 311, .inl d_r)), (a_fresh, .inl (g.2.2.1, 311, .inl d_fresh)), (a_st, .inl (g.2.2.1, 44, .inl d_st))] (fun r w => ∃ (m_at2 : Int32) (m_end2 : Int32) (m_failed2 : Int32) (m_fault2 : Int32) (d_fresh2 : Nat → Int32) (m_hasHouse2 : Int32) (m_images2 : Int32) (d_letters2 : Nat → Int32) (m_nameSize2 : Int32) (m_place2 : Int32) (d_r2 : Nat → Int32) (m_size2 : Int32) (d_st2 : Nat → Int32) (m_taped2 : Int32) (m_thrown2 : Int32) (m_token2 : Int32) (m_trouble2 : Int32) (m_undos2 : Int32) (m_whole2 : Int32), IV m_end2 0 900 ∧ IV m_failed2 0 1 ∧ IV m_hasHouse2 0 1 ∧ IV m_images2 0 3 ∧ IV m_nameSize2 0 900 ∧ IV m_size2 0 900 ∧ IV m_taped2 0 900 ∧ IV m_undos2 0 12 ∧ RInv d_r2 ∧ RInv d_fresh2 ∧ ((p0.toInt < 0 ∨ m_taped.toInt < p0.toInt → m_taped2 = m_taped) ∧ (0 ≤ p0.toInt ∧ p0.toInt ≤ m_taped.toInt → m_taped2 = 0)) ∧ (TRI d_r2) ∧ w = [(h0, .inr (11, [.int m_thrown2, .ref a_tape, .int m_taped2, .int m_size2, .int m_at2, .int m_end2, .int m_token2, .int m_whole2, .int m_nameSize2, .int m_fault2, .int m_place2, .int m_trouble2, .ref a_letters, .int m_failed2, .int m_hasHouse2, .ref a_r, .ref a_fresh, .ref a_st, .ref a_undone, .ref a_kept, .int m_undos2, .int m_images2, .ref a_from, .ref a_begin, .ref a_motor, .ref a_change, .ref a_startFrame, .ref a_changeFrame, .ref a_lostAt, .ref a_blackAt, .ref a_slips, .ref a_leftArc, .ref a_died, .ref a_arcs, .int m_bestSum, .int m_nearest, .int m_nearestTown, .ref a_there, .ref a_backAt, .ref a_sorted, .ref a_parts, .int m_seed1, .int m_darkNow])), (a_tape, .inl (g.2.2.1, 900, .inl d_tape)), (a_letters, .inl (g.2.2.1, 8, .inl d_letters2)), (a_r, .inl (g.2.2.1, 311, .inl d_r2)), (a_fresh, .inl (g.2.2.1, 311, .inl d_fresh2)), (a_st, .inl (g.2.2.1, 44, .inl d_st2))]) := by
  refine cI.of (by decide) (Nat.le_of_ble_eq_true rfl) ?_
  intro p e s m args below meth c A X hr hi
  refine k_lveq [(0, .ref h0), (1, .int p0)] rfl ?_
  refine k_aload_n X dX11_house_0 0 rfl ?_
  refine k_callVV (n := 0) (As := []) (st := []) X [(h0, .inr (11, [.int m_thrown, .ref a_tape, .int m_taped, .int m_size, .int m_at, .int m_end, .int m_token, .int m_whole, .int m_nameSize, .int m_fault, .int m_place, .int m_trouble, .ref a_letters, .int m_failed, .int m_hasHouse, .ref a_r, .ref a_fresh, .ref a_st, .ref a_undone, .ref a_kept, .int m_undos, .int m_images, .ref a_from, .ref a_begin, .ref a_motor, .ref a_change, .ref a_startFrame, .ref a_changeFrame, .ref a_lostAt, .ref a_blackAt, .ref a_slips, .ref a_leftArc, .ref a_died, .ref a_arcs, .int m_bestSum, .int m_nearest, .int m_nearestTown, .ref a_there, .ref a_backAt, .ref a_sorted, .ref a_parts, .int m_seed1, .int m_darkNow]))] [(a_tape, .inl (g.2.2.1, 900, .inl d_tape)), (a_letters, .inl (g.2.2.1, 8, .inl d_letters)), (a_r, .inl (g.2.2.1, 311, .inl d_r)), (a_fresh, .inl (g.2.2.1, 311, .inl d_fresh)), (a_st, .inl (g.2.2.1, 44, .inl d_st))] [0] [1, 2, 3, 4, 5] (m_good l g h0 m_thrown a_tape m_taped m_size m_at m_end m_token m_whole m_nameSize m_fault m_place m_trouble a_letters m_failed m_hasHouse a_r a_fresh a_st a_undone a_kept m_undos m_images a_from a_begin a_motor a_change a_startFrame a_changeFrame a_lostAt a_blackAt a_slips a_leftArc a_died a_arcs m_bestSum m_nearest m_nearestTown a_there a_backAt a_sorted a_parts m_seed1 m_darkNow) dX11_house_1 mw477 mw478 mw479 mw5 mw480 rfl 11 rfl rfl 0 _ rfl (by unfold yOk; decide) rfl (Nat.le_of_ble_eq_true rfl) (Nat.le_of_ble_eq_true rfl) (Nat.le_of_ble_eq_true rfl) (Nat.le_of_ble_eq_true rfl) (Nat.le_of_ble_eq_true rfl) rfl rfl (by decide) rfl (by decide) (by decide) ?_
  rintro w ⟨m_thrown2_1, m_trouble2_2, hq_4, rfl⟩
  refine k_ws [(a_tape, .inl (g.2.2.1, 900, .inl d_tape)), (a_letters, .inl (g.2.2.1, 8, .inl d_letters)), (a_r, .inl (g.2.2.1, 311, .inl d_r)), (a_fresh, .inl (g.2.2.1, 311, .inl d_fresh)), (a_st, .inl (g.2.2.1, 44, .inl d_st)), (h0, .inr (11, [.int m_thrown2_1, .ref a_tape, .int m_taped, .int m_size, .int m_at, .int m_end, .int m_token, .int m_whole, .int m_nameSize, .int m_fault, .int m_place, .int m_trouble2_2, .ref a_letters, .int m_failed, .int m_hasHouse, .ref a_r, .ref a_fresh, .ref a_st, .ref a_undone, .ref a_kept, .int m_undos, .int m_images, .ref a_from, .ref a_begin, .ref a_motor, .ref a_change, .ref a_startFrame, .ref a_changeFrame, .ref a_lostAt, .ref a_blackAt, .ref a_slips, .ref a_leftArc, .ref a_died, .ref a_arcs, .int m_bestSum, .int m_nearest, .int m_nearestTown, .ref a_there, .ref a_backAt, .ref a_sorted, .ref a_parts, .int m_seed1, .int m_darkNow]))] rfl ?_
  refine k_iload_n X dX11_house_4 1 rfl ?_
  refine k_iconst (v := 0) X dX11_house_5 (by decide) ?_
  refine k_aload_n X dX11_house_6 0 rfl ?_
  refine k_get (ci := 11) X inlX11 rfl 2 (by decide) dX11_house_7 mw205 5 rfl rfl ?_
  refine k_callSI (n := 3) (As := [.int p0, .int 0, .int m_taped]) (st := []) X [] [(a_tape, .inl (g.2.2.1, 900, .inl d_tape)), (a_letters, .inl (g.2.2.1, 8, .inl d_letters)), (a_r, .inl (g.2.2.1, 311, .inl d_r)), (a_fresh, .inl (g.2.2.1, 311, .inl d_fresh)), (a_st, .inl (g.2.2.1, 44, .inl d_st)), (h0, .inr (11, [.int m_thrown2_1, .ref a_tape, .int m_taped, .int m_size, .int m_at, .int m_end, .int m_token, .int m_whole, .int m_nameSize, .int m_fault, .int m_place, .int m_trouble2_2, .ref a_letters, .int m_failed, .int m_hasHouse, .ref a_r, .ref a_fresh, .ref a_st, .ref a_undone, .ref a_kept, .int m_undos, .int m_images, .ref a_from, .ref a_begin, .ref a_motor, .ref a_change, .ref a_startFrame, .ref a_changeFrame, .ref a_lostAt, .ref a_blackAt, .ref a_slips, .ref a_leftArc, .ref a_died, .ref a_arcs, .int m_bestSum, .int m_nearest, .int m_nearestTown, .ref a_there, .ref a_backAt, .ref a_sorted, .ref a_parts, .int m_seed1, .int m_darkNow]))] [] [0, 1, 2, 3, 4, 5] (m_in l g p0 0 m_taped) dX11_house_10 mw482 mw483 mw5 mw484 (by unfold yOk; decide) rfl (Nat.le_of_ble_eq_true rfl) (Nat.le_of_ble_eq_true rfl) (Nat.le_of_ble_eq_true rfl) (Nat.le_of_ble_eq_true rfl) (Nat.le_of_ble_eq_true rfl) rfl rfl (by decide) rfl (by decide) (by decide) ?_
  rintro r_5 w ⟨iv_6, hk_7, hk_8, rfl⟩
  refine k_ws [(a_tape, .inl (g.2.2.1, 900, .inl d_tape)), (a_letters, .inl (g.2.2.1, 8, .inl d_letters)), (a_r, .inl (g.2.2.1, 311, .inl d_r)), (a_fresh, .inl (g.2.2.1, 311, .inl d_fresh)), (a_st, .inl (g.2.2.1, 44, .inl d_st)), (h0, .inr (11, [.int m_thrown2_1, .ref a_tape, .int m_taped, .int m_size, .int m_at, .int m_end, .int m_token, .int m_whole, .int m_nameSize, .int m_fault, .int m_place, .int m_trouble2_2, .ref a_letters, .int m_failed, .int m_hasHouse, .ref a_r, .ref a_fresh, .ref a_st, .ref a_undone, .ref a_kept, .int m_undos, .int m_images, .ref a_from, .ref a_begin, .ref a_motor, .ref a_change, .ref a_startFrame, .ref a_changeFrame, .ref a_lostAt, .ref a_blackAt, .ref a_slips, .ref a_leftArc, .ref a_died, .ref a_arcs, .int m_bestSum, .int m_nearest, .int m_nearestTown, .ref a_there, .ref a_backAt, .ref a_sorted, .ref a_parts, .int m_seed1, .int m_darkNow]))] rfl ?_
  refine k_if_ne 22 X dX11_house_13 (by decide) (fun h_9 => ?_) (fun h_9 => ?_)
  · skip
    have hc_10 := hk_7.resolve_left h_9
    have j_11 : 0 ≤ p0.toInt := hc_10.1
    have iv_12 : IV p0 0 2147483647 := iv_leR hc_10.1 (show IV 0 0 0 from (by decide)) (iv_any p0) (by decide)
    have j_13 : p0.toInt ≤ m_taped.toInt := hc_10.2
    have iv_14 : IV p0 0 900 := iv_leL hc_10.2 iv_12 hv_m_taped (by decide)
    have iv_15 : IV r_5 1 1 := iv_neL h_9 iv_6 (show IV 0 0 0 from (by decide)) (by decide)
    refine k_aload_n X dX11_house_22 0 rfl ?_
    refine k_iconst (v := 0) X dX11_house_23 (by decide) ?_
    refine k_put (ci := 11) [(a_tape, .inl (g.2.2.1, 900, .inl d_tape)), (a_letters, .inl (g.2.2.1, 8, .inl d_letters)), (a_r, .inl (g.2.2.1, 311, .inl d_r)), (a_fresh, .inl (g.2.2.1, 311, .inl d_fresh)), (a_st, .inl (g.2.2.1, 44, .inl d_st)), (h0, .inr (11, [.int m_thrown2_1, .ref a_tape, .int 0, .int m_size, .int m_at, .int m_end, .int m_token, .int m_whole, .int m_nameSize, .int m_fault, .int m_place, .int m_trouble2_2, .ref a_letters, .int m_failed, .int m_hasHouse, .ref a_r, .ref a_fresh, .ref a_st, .ref a_undone, .ref a_kept, .int m_undos, .int m_images, .ref a_from, .ref a_begin, .ref a_motor, .ref a_change, .ref a_startFrame, .ref a_changeFrame, .ref a_lostAt, .ref a_blackAt, .ref a_slips, .ref a_leftArc, .ref a_died, .ref a_arcs, .int m_bestSum, .int m_nearest, .int m_nearestTown, .ref a_there, .ref a_backAt, .ref a_sorted, .ref a_parts, .int m_seed1, .int m_darkNow]))] X inlX11 rfl tyX11_ok nmX11 2 (by decide) rfl dX11_house_24 mw205 5 rfl rfl rfl (Nat.le_of_ble_eq_true rfl) rfl ?_
    refine k_aload_n X dX11_house_27 0 rfl ?_
    refine k_iconst (v := 0) X dX11_house_28 (by decide) ?_
    refine k_put (ci := 11) [(a_tape, .inl (g.2.2.1, 900, .inl d_tape)), (a_letters, .inl (g.2.2.1, 8, .inl d_letters)), (a_r, .inl (g.2.2.1, 311, .inl d_r)), (a_fresh, .inl (g.2.2.1, 311, .inl d_fresh)), (a_st, .inl (g.2.2.1, 44, .inl d_st)), (h0, .inr (11, [.int m_thrown2_1, .ref a_tape, .int 0, .int m_size, .int m_at, .int m_end, .int m_token, .int m_whole, .int m_nameSize, .int 0, .int m_place, .int m_trouble2_2, .ref a_letters, .int m_failed, .int m_hasHouse, .ref a_r, .ref a_fresh, .ref a_st, .ref a_undone, .ref a_kept, .int m_undos, .int m_images, .ref a_from, .ref a_begin, .ref a_motor, .ref a_change, .ref a_startFrame, .ref a_changeFrame, .ref a_lostAt, .ref a_blackAt, .ref a_slips, .ref a_leftArc, .ref a_died, .ref a_arcs, .int m_bestSum, .int m_nearest, .int m_nearestTown, .ref a_there, .ref a_backAt, .ref a_sorted, .ref a_parts, .int m_seed1, .int m_darkNow]))] X inlX11 rfl tyX11_ok nmX11 9 (by decide) rfl dX11_house_29 mw468 5 rfl rfl rfl (Nat.le_of_ble_eq_true rfl) rfl ?_
    refine k_aload_n X dX11_house_32 0 rfl ?_
    refine k_iconst (v := 0) X dX11_house_33 (by decide) ?_
    refine k_put (ci := 11) [(a_tape, .inl (g.2.2.1, 900, .inl d_tape)), (a_letters, .inl (g.2.2.1, 8, .inl d_letters)), (a_r, .inl (g.2.2.1, 311, .inl d_r)), (a_fresh, .inl (g.2.2.1, 311, .inl d_fresh)), (a_st, .inl (g.2.2.1, 44, .inl d_st)), (h0, .inr (11, [.int m_thrown2_1, .ref a_tape, .int 0, .int m_size, .int m_at, .int m_end, .int m_token, .int m_whole, .int m_nameSize, .int 0, .int m_place, .int m_trouble2_2, .ref a_letters, .int 0, .int m_hasHouse, .ref a_r, .ref a_fresh, .ref a_st, .ref a_undone, .ref a_kept, .int m_undos, .int m_images, .ref a_from, .ref a_begin, .ref a_motor, .ref a_change, .ref a_startFrame, .ref a_changeFrame, .ref a_lostAt, .ref a_blackAt, .ref a_slips, .ref a_leftArc, .ref a_died, .ref a_arcs, .int m_bestSum, .int m_nearest, .int m_nearestTown, .ref a_there, .ref a_backAt, .ref a_sorted, .ref a_parts, .int m_seed1, .int m_darkNow]))] X inlX11 rfl tyX11_ok nmX11 13 (by decide) rfl dX11_house_34 mw469 5 rfl (by decide) (by decide) (Nat.le_of_ble_eq_true rfl) rfl ?_
    refine k_iconst (v := 0) X dX11_house_37 (by decide) ?_
    refine k_istore_n [(2, .int 0), (0, .ref h0), (1, .int p0)] X dX11_house_38 (by decide) rfl ?_
    refine (fun hL : ∀ (nn_21 : Nat) (uf_16 : Nat → Int32) (u_18 : Int32), (311 - u_18.toInt).toNat = nn_21 → (RInv uf_16) → (IV u_18 0 900) → (∀ i : Nat, i < u_18.toInt.toNat → uf_16 i = 0) → Wk p l e _ s m args below meth c _ A g _ _ _ [(a_tape, .inl (g.2.2.1, 900, .inl d_tape)), (a_letters, .inl (g.2.2.1, 8, .inl d_letters)), (a_r, .inl (g.2.2.1, 311, .inl d_r)), (a_fresh, .inl (g.2.2.1, 311, .inl uf_16)), (a_st, .inl (g.2.2.1, 44, .inl d_st)), (h0, .inr (11, [.int m_thrown2_1, .ref a_tape, .int 0, .int m_size, .int m_at, .int m_end, .int m_token, .int m_whole, .int m_nameSize, .int 0, .int m_place, .int m_trouble2_2, .ref a_letters, .int 0, .int m_hasHouse, .ref a_r, .ref a_fresh, .ref a_st, .ref a_undone, .ref a_kept, .int m_undos, .int m_images, .ref a_from, .ref a_begin, .ref a_motor, .ref a_change, .ref a_startFrame, .ref a_changeFrame, .ref a_lostAt, .ref a_blackAt, .ref a_slips, .ref a_leftArc, .ref a_died, .ref a_arcs, .int m_bestSum, .int m_nearest, .int m_nearestTown, .ref a_there, .ref a_backAt, .ref a_sorted, .ref a_parts, .int m_seed1, .int m_darkNow]))] [(2, .int u_18), (0, .ref h0), (1, .int p0)] 39 [] => hL _ d_fresh 0 rfl hp_d_fresh (iv_w (show IV 0 0 0 from (by decide)) (by decide) (by decide)) (z_0)) ?_
    refine fun nn_21 => Nat.strongRecOn nn_21 (fun nn_21 ih_23 => ?_)
    intro uf_16 u_18 hm_22 hp_17 hv_19 hx_20
    refine k_iload_n X dX11_house_39 0 rfl ?_
    refine k_sipush (v := 311) X dX11_house_40 (by decide) ?_
    refine k_ic_ge 59 X dX11_house_43 (by decide) (fun h_24 => ?_) (fun h_24 => ?_)
    · skip
      have j_25 : 311 ≤ u_18.toInt := iv_le h_24
      have iv_26 : IV u_18 311 900 := iv_leR (iv_le h_24) (show IV 311 311 311 from (by decide)) hv_19 (by decide)
      have hT_27 : TRI uf_16 := tri_zero hx_20 (by omega)
      refine k_aload_n X dX11_house_59 1 rfl ?_
      refine k_iload_n X dX11_house_60 2 rfl ?_
      refine k_put (ci := 11) [(a_tape, .inl (g.2.2.1, 900, .inl d_tape)), (a_letters, .inl (g.2.2.1, 8, .inl d_letters)), (a_r, .inl (g.2.2.1, 311, .inl d_r)), (a_fresh, .inl (g.2.2.1, 311, .inl uf_16)), (a_st, .inl (g.2.2.1, 44, .inl d_st)), (h0, .inr (11, [.int m_thrown2_1, .ref a_tape, .int 0, .int p0, .int m_at, .int m_end, .int m_token, .int m_whole, .int m_nameSize, .int 0, .int m_place, .int m_trouble2_2, .ref a_letters, .int 0, .int m_hasHouse, .ref a_r, .ref a_fresh, .ref a_st, .ref a_undone, .ref a_kept, .int m_undos, .int m_images, .ref a_from, .ref a_begin, .ref a_motor, .ref a_change, .ref a_startFrame, .ref a_changeFrame, .ref a_lostAt, .ref a_blackAt, .ref a_slips, .ref a_leftArc, .ref a_died, .ref a_arcs, .int m_bestSum, .int m_nearest, .int m_nearestTown, .ref a_there, .ref a_backAt, .ref a_sorted, .ref a_parts, .int m_seed1, .int m_darkNow]))] X inlX11 rfl tyX11_ok nmX11 3 (by decide) rfl dX11_house_61 mw470 5 rfl rfl rfl (Nat.le_of_ble_eq_true rfl) rfl ?_
      refine k_aload_n X dX11_house_64 1 rfl ?_
      refine k_iconst (v := 0) X dX11_house_65 (by decide) ?_
      refine k_put (ci := 11) [(a_tape, .inl (g.2.2.1, 900, .inl d_tape)), (a_letters, .inl (g.2.2.1, 8, .inl d_letters)), (a_r, .inl (g.2.2.1, 311, .inl d_r)), (a_fresh, .inl (g.2.2.1, 311, .inl uf_16)), (a_st, .inl (g.2.2.1, 44, .inl d_st)), (h0, .inr (11, [.int m_thrown2_1, .ref a_tape, .int 0, .int p0, .int m_at, .int 0, .int m_token, .int m_whole, .int m_nameSize, .int 0, .int m_place, .int m_trouble2_2, .ref a_letters, .int 0, .int m_hasHouse, .ref a_r, .ref a_fresh, .ref a_st, .ref a_undone, .ref a_kept, .int m_undos, .int m_images, .ref a_from, .ref a_begin, .ref a_motor, .ref a_change, .ref a_startFrame, .ref a_changeFrame, .ref a_lostAt, .ref a_blackAt, .ref a_slips, .ref a_leftArc, .ref a_died, .ref a_arcs, .int m_bestSum, .int m_nearest, .int m_nearestTown, .ref a_there, .ref a_backAt, .ref a_sorted, .ref a_parts, .int m_seed1, .int m_darkNow]))] X inlX11 rfl tyX11_ok nmX11 5 (by decide) rfl dX11_house_66 mw471 5 rfl rfl rfl (Nat.le_of_ble_eq_true rfl) rfl ?_
      refine k_aload_n X dX11_house_69 1 rfl ?_
      refine k_callVV (n := 0) (As := []) (st := []) X [(h0, .inr (11, [.int m_thrown2_1, .ref a_tape, .int 0, .int p0, .int m_at, .int 0, .int m_token, .int m_whole, .int m_nameSize, .int 0, .int m_place, .int m_trouble2_2, .ref a_letters, .int 0, .int m_hasHouse, .ref a_r, .ref a_fresh, .ref a_st, .ref a_undone, .ref a_kept, .int m_undos, .int m_images, .ref a_from, .ref a_begin, .ref a_motor, .ref a_change, .ref a_startFrame, .ref a_changeFrame, .ref a_lostAt, .ref a_blackAt, .ref a_slips, .ref a_leftArc, .ref a_died, .ref a_arcs, .int m_bestSum, .int m_nearest, .int m_nearestTown, .ref a_there, .ref a_backAt, .ref a_sorted, .ref a_parts, .int m_seed1, .int m_darkNow])), (a_tape, .inl (g.2.2.1, 900, .inl d_tape)), (a_letters, .inl (g.2.2.1, 8, .inl d_letters))] [(a_r, .inl (g.2.2.1, 311, .inl d_r)), (a_fresh, .inl (g.2.2.1, 311, .inl uf_16)), (a_st, .inl (g.2.2.1, 44, .inl d_st))] [5, 0, 1] [2, 3, 4] (m_next l g h0 m_thrown2_1 a_tape 0 p0 m_at 0 m_token m_whole m_nameSize 0 m_place m_trouble2_2 a_letters 0 m_hasHouse a_r a_fresh a_st a_undone a_kept m_undos m_images a_from a_begin a_motor a_change a_startFrame a_changeFrame a_lostAt a_blackAt a_slips a_leftArc a_died a_arcs m_bestSum m_nearest m_nearestTown a_there a_backAt a_sorted a_parts m_seed1 m_darkNow d_tape d_letters (iv_w iv_14 (by decide) (by decide)) (iv_w (show IV 0 0 0 from (by decide)) (by decide) (by decide)) (iv_w hv_m_nameSize (by decide) (by decide))) dX11_house_70 mw489 mw490 mw491 mw5 mw492 rfl 11 rfl rfl 0 _ rfl (by unfold yOk; decide) rfl (Nat.le_of_ble_eq_true rfl) (Nat.le_of_ble_eq_true rfl) (Nat.le_of_ble_eq_true rfl) (Nat.le_of_ble_eq_true rfl) (Nat.le_of_ble_eq_true rfl) rfl rfl (by decide) rfl (by decide) (by decide) ?_
      rintro w ⟨m_at2_28, m_end2_29, d_letters2_30, m_nameSize2_31, m_token2_32, m_whole2_33, iv_35, iv_36, hq_37, hq_38, hk_39, rfl⟩
      refine k_ws [(a_r, .inl (g.2.2.1, 311, .inl d_r)), (a_fresh, .inl (g.2.2.1, 311, .inl uf_16)), (a_st, .inl (g.2.2.1, 44, .inl d_st)), (h0, .inr (11, [.int m_thrown2_1, .ref a_tape, .int 0, .int p0, .int m_at2_28, .int m_end2_29, .int m_token2_32, .int m_whole2_33, .int m_nameSize2_31, .int 0, .int m_place, .int m_trouble2_2, .ref a_letters, .int 0, .int m_hasHouse, .ref a_r, .ref a_fresh, .ref a_st, .ref a_undone, .ref a_kept, .int m_undos, .int m_images, .ref a_from, .ref a_begin, .ref a_motor, .ref a_change, .ref a_startFrame, .ref a_changeFrame, .ref a_lostAt, .ref a_blackAt, .ref a_slips, .ref a_leftArc, .ref a_died, .ref a_arcs, .int m_bestSum, .int m_nearest, .int m_nearestTown, .ref a_there, .ref a_backAt, .ref a_sorted, .ref a_parts, .int m_seed1, .int m_darkNow])), (a_tape, .inl (g.2.2.1, 900, .inl d_tape)), (a_letters, .inl (g.2.2.1, 8, .inl d_letters2_30))] rfl ?_
      refine k_aload_n X dX11_house_73 1 rfl ?_
      refine k_callVV (n := 0) (As := []) (st := []) X [(h0, .inr (11, [.int m_thrown2_1, .ref a_tape, .int 0, .int p0, .int m_at2_28, .int m_end2_29, .int m_token2_32, .int m_whole2_33, .int m_nameSize2_31, .int 0, .int m_place, .int m_trouble2_2, .ref a_letters, .int 0, .int m_hasHouse, .ref a_r, .ref a_fresh, .ref a_st, .ref a_undone, .ref a_kept, .int m_undos, .int m_images, .ref a_from, .ref a_begin, .ref a_motor, .ref a_change, .ref a_startFrame, .ref a_changeFrame, .ref a_lostAt, .ref a_blackAt, .ref a_slips, .ref a_leftArc, .ref a_died, .ref a_arcs, .int m_bestSum, .int m_nearest, .int m_nearestTown, .ref a_there, .ref a_backAt, .ref a_sorted, .ref a_parts, .int m_seed1, .int m_darkNow])), (a_tape, .inl (g.2.2.1, 900, .inl d_tape)), (a_letters, .inl (g.2.2.1, 8, .inl d_letters2_30)), (a_fresh, .inl (g.2.2.1, 311, .inl uf_16))] [(a_r, .inl (g.2.2.1, 311, .inl d_r)), (a_st, .inl (g.2.2.1, 44, .inl d_st))] [3, 4, 5, 1] [0, 2] (m_readLine l g h0 m_thrown2_1 a_tape 0 p0 m_at2_28 m_end2_29 m_token2_32 m_whole2_33 m_nameSize2_31 0 m_place m_trouble2_2 a_letters 0 m_hasHouse a_r a_fresh a_st a_undone a_kept m_undos m_images a_from a_begin a_motor a_change a_startFrame a_changeFrame a_lostAt a_blackAt a_slips a_leftArc a_died a_arcs m_bestSum m_nearest m_nearestTown a_there a_backAt a_sorted a_parts m_seed1 m_darkNow d_tape d_letters2_30 uf_16 (iv_w iv_14 (by decide) (by decide)) (iv_w iv_35 (by decide) (by decide)) (iv_w iv_36 (by decide) (by decide)) (iv_w (show IV 0 0 0 from (by decide)) (by decide) (by decide)) hp_17 hT_27 hk_39) dX11_house_74 mw505 mw506 mw507 mw5 mw508 rfl 11 rfl rfl 0 _ rfl (by unfold yOk; decide) rfl (Nat.le_of_ble_eq_true rfl) (Nat.le_of_ble_eq_true rfl) (Nat.le_of_ble_eq_true rfl) (Nat.le_of_ble_eq_true rfl) (Nat.le_of_ble_eq_true rfl) rfl rfl (by decide) rfl (by decide) (by decide) ?_
      rintro w ⟨m_at2_40, m_end2_41, m_failed2_42, m_fault2_43, d_fresh2_44, d_letters2_45, m_nameSize2_46, m_place2_47, m_token2_48, m_whole2_49, iv_51, iv_52, iv_53, hp_54, hq_55, hq_56, hq_57, hk_58, rfl⟩
      refine k_ws [(a_r, .inl (g.2.2.1, 311, .inl d_r)), (a_st, .inl (g.2.2.1, 44, .inl d_st)), (h0, .inr (11, [.int m_thrown2_1, .ref a_tape, .int 0, .int p0, .int m_at2_40, .int m_end2_41, .int m_token2_48, .int m_whole2_49, .int m_nameSize2_46, .int m_fault2_43, .int m_place2_47, .int m_trouble2_2, .ref a_letters, .int m_failed2_42, .int m_hasHouse, .ref a_r, .ref a_fresh, .ref a_st, .ref a_undone, .ref a_kept, .int m_undos, .int m_images, .ref a_from, .ref a_begin, .ref a_motor, .ref a_change, .ref a_startFrame, .ref a_changeFrame, .ref a_lostAt, .ref a_blackAt, .ref a_slips, .ref a_leftArc, .ref a_died, .ref a_arcs, .int m_bestSum, .int m_nearest, .int m_nearestTown, .ref a_there, .ref a_backAt, .ref a_sorted, .ref a_parts, .int m_seed1, .int m_darkNow])), (a_tape, .inl (g.2.2.1, 900, .inl d_tape)), (a_letters, .inl (g.2.2.1, 8, .inl d_letters2_45)), (a_fresh, .inl (g.2.2.1, 311, .inl d_fresh2_44))] rfl ?_
      refine (fun hL : ∀ (nn_75 : Nat) (uf_59 : Nat → Int32) (uf_62 : Nat → Int32) (u_63 : Int32) (u_64 : Int32) (u_66 : Int32) (u_67 : Int32) (u_69 : Int32) (u_70 : Int32) (u_71 : Int32) (u_73 : Int32), (2 * (901 - u_67.toInt) + (1 - u_64.toInt)).toNat = nn_75 → (RInv uf_59) → (TRI uf_59) → (IV u_64 0 1) → (IV u_67 0 900) → (IV u_71 0 900) → (u_69 = 2 → IV u_71 0 8) → Wk p l e _ s m args below meth c _ A g _ _ _ [(a_r, .inl (g.2.2.1, 311, .inl d_r)), (a_st, .inl (g.2.2.1, 44, .inl d_st)), (h0, .inr (11, [.int m_thrown2_1, .ref a_tape, .int 0, .int p0, .int u_66, .int u_67, .int u_69, .int u_70, .int u_71, .int u_73, .int u_63, .int m_trouble2_2, .ref a_letters, .int u_64, .int m_hasHouse, .ref a_r, .ref a_fresh, .ref a_st, .ref a_undone, .ref a_kept, .int m_undos, .int m_images, .ref a_from, .ref a_begin, .ref a_motor, .ref a_change, .ref a_startFrame, .ref a_changeFrame, .ref a_lostAt, .ref a_blackAt, .ref a_slips, .ref a_leftArc, .ref a_died, .ref a_arcs, .int m_bestSum, .int m_nearest, .int m_nearestTown, .ref a_there, .ref a_backAt, .ref a_sorted, .ref a_parts, .int m_seed1, .int m_darkNow])), (a_tape, .inl (g.2.2.1, 900, .inl d_tape)), (a_letters, .inl (g.2.2.1, 8, .inl uf_62)), (a_fresh, .inl (g.2.2.1, 311, .inl uf_59))] [(2, .int u_18), (0, .ref h0), (1, .int p0)] 77 [] => hL _ d_fresh2_44 d_letters2_45 m_place2_47 m_failed2_42 m_at2_40 m_end2_41 m_token2_48 m_whole2_49 m_nameSize2_46 m_fault2_43 rfl hp_54 hq_57 (iv_w iv_52 (by decide) (by decide)) (iv_w iv_51 (by decide) (by decide)) (iv_w iv_53 (by decide) (by decide)) hk_58) ?_
      refine fun nn_75 => Nat.strongRecOn nn_75 (fun nn_75 ih_77 => ?_)
      intro uf_59 uf_62 u_63 u_64 u_66 u_67 u_69 u_70 u_71 u_73 hm_76 hp_60 hT_61 hv_65 hv_68 hv_72 hx_74
      refine k_aload_n X dX11_house_77 1 rfl ?_
      refine k_get (ci := 11) X inlX11 rfl 13 (by decide) dX11_house_78 mw469 2 rfl rfl ?_
      refine k_if_ne 104 X dX11_house_81 (by decide) (fun h_78 => ?_) (fun h_78 => ?_)
      · skip
        have iv_79 : IV u_64 1 1 := iv_neL h_78 hv_65 (show IV 0 0 0 from (by decide)) (by decide)
        refine k_aload_n X dX11_house_104 1 rfl ?_
        refine k_get (ci := 11) X inlX11 rfl 13 (by decide) dX11_house_105 mw469 2 rfl rfl ?_
        refine k_if_ne 127 X dX11_house_108 (by decide) (fun h_80 => ?_) (fun h_80 => (iv_eqN h_80 iv_79 (show IV 0 0 0 from (by decide)) (by decide)).elim)
        refine k_aload_n X dX11_house_127 1 rfl ?_
        refine k_get (ci := 11) X inlX11 rfl 13 (by decide) dX11_house_128 mw469 2 rfl rfl ?_
        refine k_if_ne 174 X dX11_house_131 (by decide) (fun h_81 => ?_) (fun h_81 => (iv_eqN h_81 iv_79 (show IV 0 0 0 from (by decide)) (by decide)).elim)
        refine k_aload_n X dX11_house_174 1 rfl ?_
        refine k_get (ci := 11) X inlX11 rfl 13 (by decide) dX11_house_175 mw469 2 rfl rfl ?_
        refine k_if_eq 187 X dX11_house_178 (by decide) (fun h_82 => (iv_eqN h_82 iv_79 (show IV 0 0 0 from (by decide)) (by decide)).elim) (fun h_82 => ?_)
        refine k_aload_n X dX11_house_181 1 rfl ?_
        refine k_iconst (v := 4) X dX11_house_182 (by decide) ?_
        refine k_callVI (n := 1) (As := [.int 4]) (st := []) X [(h0, .inr (11, [.int m_thrown2_1, .ref a_tape, .int 0, .int p0, .int u_66, .int u_67, .int u_69, .int u_70, .int u_71, .int u_73, .int u_63, .int m_trouble2_2, .ref a_letters, .int u_64, .int m_hasHouse, .ref a_r, .ref a_fresh, .ref a_st, .ref a_undone, .ref a_kept, .int m_undos, .int m_images, .ref a_from, .ref a_begin, .ref a_motor, .ref a_change, .ref a_startFrame, .ref a_changeFrame, .ref a_lostAt, .ref a_blackAt, .ref a_slips, .ref a_leftArc, .ref a_died, .ref a_arcs, .int m_bestSum, .int m_nearest, .int m_nearestTown, .ref a_there, .ref a_backAt, .ref a_sorted, .ref a_parts, .int m_seed1, .int m_darkNow]))] [(a_r, .inl (g.2.2.1, 311, .inl d_r)), (a_st, .inl (g.2.2.1, 44, .inl d_st)), (a_tape, .inl (g.2.2.1, 900, .inl d_tape)), (a_letters, .inl (g.2.2.1, 8, .inl uf_62)), (a_fresh, .inl (g.2.2.1, 311, .inl uf_59))] [2] [0, 1, 3, 4, 5] (m_no l g h0 4 m_thrown2_1 a_tape 0 p0 u_66 u_67 u_69 u_70 u_71 u_73 u_63 m_trouble2_2 a_letters u_64 m_hasHouse a_r a_fresh a_st a_undone a_kept m_undos m_images a_from a_begin a_motor a_change a_startFrame a_changeFrame a_lostAt a_blackAt a_slips a_leftArc a_died a_arcs m_bestSum m_nearest m_nearestTown a_there a_backAt a_sorted a_parts m_seed1 m_darkNow) dX11_house_183 mw485 mw486 mw487 mw5 mw488 rfl 11 rfl rfl 0 _ rfl (by unfold yOk; decide) rfl (Nat.le_of_ble_eq_true rfl) (Nat.le_of_ble_eq_true rfl) (Nat.le_of_ble_eq_true rfl) (Nat.le_of_ble_eq_true rfl) (Nat.le_of_ble_eq_true rfl) rfl rfl (by decide) rfl (by decide) (by decide) ?_
        rintro r_84 w ⟨m_trouble2_83, iv_85, rfl⟩
        refine k_ws [(a_r, .inl (g.2.2.1, 311, .inl d_r)), (a_st, .inl (g.2.2.1, 44, .inl d_st)), (a_tape, .inl (g.2.2.1, 900, .inl d_tape)), (a_letters, .inl (g.2.2.1, 8, .inl uf_62)), (a_fresh, .inl (g.2.2.1, 311, .inl uf_59)), (h0, .inr (11, [.int m_thrown2_1, .ref a_tape, .int 0, .int p0, .int u_66, .int u_67, .int u_69, .int u_70, .int u_71, .int u_73, .int u_63, .int m_trouble2_83, .ref a_letters, .int u_64, .int m_hasHouse, .ref a_r, .ref a_fresh, .ref a_st, .ref a_undone, .ref a_kept, .int m_undos, .int m_images, .ref a_from, .ref a_begin, .ref a_motor, .ref a_change, .ref a_startFrame, .ref a_changeFrame, .ref a_lostAt, .ref a_blackAt, .ref a_slips, .ref a_leftArc, .ref a_died, .ref a_arcs, .int m_bestSum, .int m_nearest, .int m_nearestTown, .ref a_there, .ref a_backAt, .ref a_sorted, .ref a_parts, .int m_seed1, .int m_darkNow]))] rfl ?_
        exact k_iret X hr dX11_house_186 (Nat.le_of_ble_eq_true rfl) (Nat.le_of_ble_eq_true rfl) [5, 2, 3, 0, 4, 1] (by decide) rfl rfl ⟨u_66, u_67, u_64, u_73, uf_59, m_hasHouse, m_images, uf_62, u_71, u_63, d_r, p0, d_st, 0, m_thrown2_1, u_69, m_trouble2_83, m_undos, u_70, (iv_w hv_68 (by decide) (by decide)), (iv_w iv_79 (by decide) (by decide)), (iv_w hv_m_hasHouse (by decide) (by decide)), (iv_w hv_m_images (by decide) (by decide)), (iv_w hv_72 (by decide) (by decide)), (iv_w iv_14 (by decide) (by decide)), (iv_w (show IV 0 0 0 from (by decide)) (by decide) (by decide)), (iv_w hv_m_undos (by decide) (by decide)), hp_d_r, hp_60, (by refine ⟨fun q => ?_, fun q => ?_⟩ <;> first | rfl | (exfalso; omega)), hr_0, rfl⟩
      · skip
        have iv_86 : IV u_64 0 0 := iv_meet hv_65 (iv_e h_78 (show IV 0 0 0 from (by decide))) (by decide) (by decide)
        refine k_aload_n X dX11_house_84 1 rfl ?_
        refine k_get (ci := 11) X inlX11 rfl 6 (by decide) dX11_house_85 mw472 2 rfl rfl ?_
        refine k_bipush (v := 59) X dX11_house_88 (by decide) ?_
        refine k_ic_ne 104 X dX11_house_90 (by decide) (fun h_87 => ?_) (fun h_87 => ?_)
        · skip
          refine k_aload_n X dX11_house_104 1 rfl ?_
          refine k_get (ci := 11) X inlX11 rfl 13 (by decide) dX11_house_105 mw469 2 rfl rfl ?_
          refine k_if_ne 127 X dX11_house_108 (by decide) (fun h_88 => absurd (iv_eq iv_86 (show IV 0 0 0 from (by decide))) h_88) (fun h_88 => ?_)
          refine k_aload_n X dX11_house_111 1 rfl ?_
          refine k_get (ci := 11) X inlX11 rfl 6 (by decide) dX11_house_112 mw472 2 rfl rfl ?_
          refine k_if_eq 127 X dX11_house_115 (by decide) (fun h_89 => ?_) (fun h_89 => ?_)
          · skip
            have iv_90 : IV u_69 0 0 := iv_meet (iv_any u_69) (iv_e h_89 (show IV 0 0 0 from (by decide))) (by decide) (by decide)
            refine k_aload_n X dX11_house_127 1 rfl ?_
            refine k_get (ci := 11) X inlX11 rfl 13 (by decide) dX11_house_128 mw469 2 rfl rfl ?_
            refine k_if_ne 174 X dX11_house_131 (by decide) (fun h_91 => absurd (iv_eq iv_86 (show IV 0 0 0 from (by decide))) h_91) (fun h_91 => ?_)
            refine k_aload_n X dX11_house_134 1 rfl ?_
            refine k_get (ci := 11) X inlX11 rfl 16 (by decide) dX11_house_135 mw171 2 rfl rfl ?_
            refine k_bipush (v := 15) X dX11_house_138 (by decide) ?_
            refine k_iald X dX11_house_140 5 rfl (by unfold vp_in; decide) ?_
            refine k_nm (fun z_92 ez_92 => ?_)
            refine k_if_eq 164 X dX11_house_141 (by decide) (fun h_93 => ?_) (fun h_93 => ?_)
            · skip
              have iv_94 : IV z_92 0 0 := iv_meet (iv_any z_92) (iv_e h_93 (show IV 0 0 0 from (by decide))) (by decide) (by decide)
              refine k_aload_n X dX11_house_164 1 rfl ?_
              refine k_bipush (v := 6) X dX11_house_165 (by decide) ?_
              refine k_aload_n X dX11_house_167 1 rfl ?_
              refine k_get (ci := 11) X inlX11 rfl 4 (by decide) dX11_house_168 mw473 2 rfl rfl ?_
              refine k_callVV (n := 2) (As := [.int 6, .int u_66]) (st := []) X [(h0, .inr (11, [.int m_thrown2_1, .ref a_tape, .int 0, .int p0, .int u_66, .int u_67, .int u_69, .int u_70, .int u_71, .int u_73, .int u_63, .int m_trouble2_2, .ref a_letters, .int u_64, .int m_hasHouse, .ref a_r, .ref a_fresh, .ref a_st, .ref a_undone, .ref a_kept, .int m_undos, .int m_images, .ref a_from, .ref a_begin, .ref a_motor, .ref a_change, .ref a_startFrame, .ref a_changeFrame, .ref a_lostAt, .ref a_blackAt, .ref a_slips, .ref a_leftArc, .ref a_died, .ref a_arcs, .int m_bestSum, .int m_nearest, .int m_nearestTown, .ref a_there, .ref a_backAt, .ref a_sorted, .ref a_parts, .int m_seed1, .int m_darkNow]))] [(a_r, .inl (g.2.2.1, 311, .inl d_r)), (a_st, .inl (g.2.2.1, 44, .inl d_st)), (a_tape, .inl (g.2.2.1, 900, .inl d_tape)), (a_letters, .inl (g.2.2.1, 8, .inl uf_62)), (a_fresh, .inl (g.2.2.1, 311, .inl uf_59))] [2] [0, 1, 3, 4, 5] (m_bad l g h0 6 u_66 m_thrown2_1 a_tape 0 p0 u_66 u_67 u_69 u_70 u_71 u_73 u_63 m_trouble2_2 a_letters u_64 m_hasHouse a_r a_fresh a_st a_undone a_kept m_undos m_images a_from a_begin a_motor a_change a_startFrame a_changeFrame a_lostAt a_blackAt a_slips a_leftArc a_died a_arcs m_bestSum m_nearest m_nearestTown a_there a_backAt a_sorted a_parts m_seed1 m_darkNow (iv_w iv_86 (by decide) (by decide))) dX11_house_171 mw519 mw520 mw521 mw5 mw522 rfl 11 rfl rfl 0 _ rfl (by unfold yOk; decide) rfl (Nat.le_of_ble_eq_true rfl) (Nat.le_of_ble_eq_true rfl) (Nat.le_of_ble_eq_true rfl) (Nat.le_of_ble_eq_true rfl) (Nat.le_of_ble_eq_true rfl) rfl rfl (by decide) rfl (by decide) (by decide) ?_
              rintro w ⟨m_failed2_95, m_fault2_96, m_place2_97, iv_99, rfl⟩
              refine k_ws [(a_r, .inl (g.2.2.1, 311, .inl d_r)), (a_st, .inl (g.2.2.1, 44, .inl d_st)), (a_tape, .inl (g.2.2.1, 900, .inl d_tape)), (a_letters, .inl (g.2.2.1, 8, .inl uf_62)), (a_fresh, .inl (g.2.2.1, 311, .inl uf_59)), (h0, .inr (11, [.int m_thrown2_1, .ref a_tape, .int 0, .int p0, .int u_66, .int u_67, .int u_69, .int u_70, .int u_71, .int m_fault2_96, .int m_place2_97, .int m_trouble2_2, .ref a_letters, .int m_failed2_95, .int m_hasHouse, .ref a_r, .ref a_fresh, .ref a_st, .ref a_undone, .ref a_kept, .int m_undos, .int m_images, .ref a_from, .ref a_begin, .ref a_motor, .ref a_change, .ref a_startFrame, .ref a_changeFrame, .ref a_lostAt, .ref a_blackAt, .ref a_slips, .ref a_leftArc, .ref a_died, .ref a_arcs, .int m_bestSum, .int m_nearest, .int m_nearestTown, .ref a_there, .ref a_backAt, .ref a_sorted, .ref a_parts, .int m_seed1, .int m_darkNow]))] rfl ?_
              refine k_aload_n X dX11_house_174 1 rfl ?_
              refine k_get (ci := 11) X inlX11 rfl 13 (by decide) dX11_house_175 mw469 5 rfl rfl ?_
              refine k_if_eq 187 X dX11_house_178 (by decide) (fun h_100 => (iv_eqN h_100 iv_99 (show IV 0 0 0 from (by decide)) (by decide)).elim) (fun h_100 => ?_)
              refine k_aload_n X dX11_house_181 1 rfl ?_
              refine k_iconst (v := 4) X dX11_house_182 (by decide) ?_
              refine k_callVI (n := 1) (As := [.int 4]) (st := []) X [(h0, .inr (11, [.int m_thrown2_1, .ref a_tape, .int 0, .int p0, .int u_66, .int u_67, .int u_69, .int u_70, .int u_71, .int m_fault2_96, .int m_place2_97, .int m_trouble2_2, .ref a_letters, .int m_failed2_95, .int m_hasHouse, .ref a_r, .ref a_fresh, .ref a_st, .ref a_undone, .ref a_kept, .int m_undos, .int m_images, .ref a_from, .ref a_begin, .ref a_motor, .ref a_change, .ref a_startFrame, .ref a_changeFrame, .ref a_lostAt, .ref a_blackAt, .ref a_slips, .ref a_leftArc, .ref a_died, .ref a_arcs, .int m_bestSum, .int m_nearest, .int m_nearestTown, .ref a_there, .ref a_backAt, .ref a_sorted, .ref a_parts, .int m_seed1, .int m_darkNow]))] [(a_r, .inl (g.2.2.1, 311, .inl d_r)), (a_st, .inl (g.2.2.1, 44, .inl d_st)), (a_tape, .inl (g.2.2.1, 900, .inl d_tape)), (a_letters, .inl (g.2.2.1, 8, .inl uf_62)), (a_fresh, .inl (g.2.2.1, 311, .inl uf_59))] [5] [0, 1, 2, 3, 4] (m_no l g h0 4 m_thrown2_1 a_tape 0 p0 u_66 u_67 u_69 u_70 u_71 m_fault2_96 m_place2_97 m_trouble2_2 a_letters m_failed2_95 m_hasHouse a_r a_fresh a_st a_undone a_kept m_undos m_images a_from a_begin a_motor a_change a_startFrame a_changeFrame a_lostAt a_blackAt a_slips a_leftArc a_died a_arcs m_bestSum m_nearest m_nearestTown a_there a_backAt a_sorted a_parts m_seed1 m_darkNow) dX11_house_183 mw485 mw486 mw487 mw5 mw488 rfl 11 rfl rfl 0 _ rfl (by unfold yOk; decide) rfl (Nat.le_of_ble_eq_true rfl) (Nat.le_of_ble_eq_true rfl) (Nat.le_of_ble_eq_true rfl) (Nat.le_of_ble_eq_true rfl) (Nat.le_of_ble_eq_true rfl) rfl rfl (by decide) rfl (by decide) (by decide) ?_
              rintro r_102 w ⟨m_trouble2_101, iv_103, rfl⟩
              refine k_ws [(a_r, .inl (g.2.2.1, 311, .inl d_r)), (a_st, .inl (g.2.2.1, 44, .inl d_st)), (a_tape, .inl (g.2.2.1, 900, .inl d_tape)), (a_letters, .inl (g.2.2.1, 8, .inl uf_62)), (a_fresh, .inl (g.2.2.1, 311, .inl uf_59)), (h0, .inr (11, [.int m_thrown2_1, .ref a_tape, .int 0, .int p0, .int u_66, .int u_67, .int u_69, .int u_70, .int u_71, .int m_fault2_96, .int m_place2_97, .int m_trouble2_101, .ref a_letters, .int m_failed2_95, .int m_hasHouse, .ref a_r, .ref a_fresh, .ref a_st, .ref a_undone, .ref a_kept, .int m_undos, .int m_images, .ref a_from, .ref a_begin, .ref a_motor, .ref a_change, .ref a_startFrame, .ref a_changeFrame, .ref a_lostAt, .ref a_blackAt, .ref a_slips, .ref a_leftArc, .ref a_died, .ref a_arcs, .int m_bestSum, .int m_nearest, .int m_nearestTown, .ref a_there, .ref a_backAt, .ref a_sorted, .ref a_parts, .int m_seed1, .int m_darkNow]))] rfl ?_
              exact k_iret X hr dX11_house_186 (Nat.le_of_ble_eq_true rfl) (Nat.le_of_ble_eq_true rfl) [5, 2, 3, 0, 4, 1] (by decide) rfl rfl ⟨u_66, u_67, m_failed2_95, m_fault2_96, uf_59, m_hasHouse, m_images, uf_62, u_71, m_place2_97, d_r, p0, d_st, 0, m_thrown2_1, u_69, m_trouble2_101, m_undos, u_70, (iv_w hv_68 (by decide) (by decide)), (iv_w iv_99 (by decide) (by decide)), (iv_w hv_m_hasHouse (by decide) (by decide)), (iv_w hv_m_images (by decide) (by decide)), (iv_w hv_72 (by decide) (by decide)), (iv_w iv_14 (by decide) (by decide)), (iv_w (show IV 0 0 0 from (by decide)) (by decide) (by decide)), (iv_w hv_m_undos (by decide) (by decide)), hp_d_r, hp_60, (by refine ⟨fun q => ?_, fun q => ?_⟩ <;> first | rfl | (exfalso; omega)), hr_0, rfl⟩
            · skip
              refine k_aload_n X dX11_house_144 1 rfl ?_
              refine k_get (ci := 11) X inlX11 rfl 16 (by decide) dX11_house_145 mw171 2 rfl rfl ?_
              refine k_bipush (v := 12) X dX11_house_148 (by decide) ?_
              refine k_iald X dX11_house_150 5 rfl (by unfold vp_in; decide) ?_
              refine k_nm (fun z_104 ez_104 => ?_)
              have i_105 : z_104.toInt = (uf_59 12).toInt := by rw [ez_104]; rfl
              have iv_106 : IV z_104 0 8 := rb_12 ez_104 hp_60
              refine k_if_eq 164 X dX11_house_151 (by decide) (fun h_107 => ?_) (fun h_107 => ?_)
              · skip
                have iv_108 : IV z_104 0 0 := iv_meet iv_106 (iv_e h_107 (show IV 0 0 0 from (by decide))) (by decide) (by decide)
                refine k_aload_n X dX11_house_164 1 rfl ?_
                refine k_bipush (v := 6) X dX11_house_165 (by decide) ?_
                refine k_aload_n X dX11_house_167 1 rfl ?_
                refine k_get (ci := 11) X inlX11 rfl 4 (by decide) dX11_house_168 mw473 2 rfl rfl ?_
                refine k_callVV (n := 2) (As := [.int 6, .int u_66]) (st := []) X [(h0, .inr (11, [.int m_thrown2_1, .ref a_tape, .int 0, .int p0, .int u_66, .int u_67, .int u_69, .int u_70, .int u_71, .int u_73, .int u_63, .int m_trouble2_2, .ref a_letters, .int u_64, .int m_hasHouse, .ref a_r, .ref a_fresh, .ref a_st, .ref a_undone, .ref a_kept, .int m_undos, .int m_images, .ref a_from, .ref a_begin, .ref a_motor, .ref a_change, .ref a_startFrame, .ref a_changeFrame, .ref a_lostAt, .ref a_blackAt, .ref a_slips, .ref a_leftArc, .ref a_died, .ref a_arcs, .int m_bestSum, .int m_nearest, .int m_nearestTown, .ref a_there, .ref a_backAt, .ref a_sorted, .ref a_parts, .int m_seed1, .int m_darkNow]))] [(a_r, .inl (g.2.2.1, 311, .inl d_r)), (a_st, .inl (g.2.2.1, 44, .inl d_st)), (a_tape, .inl (g.2.2.1, 900, .inl d_tape)), (a_letters, .inl (g.2.2.1, 8, .inl uf_62)), (a_fresh, .inl (g.2.2.1, 311, .inl uf_59))] [2] [0, 1, 3, 4, 5] (m_bad l g h0 6 u_66 m_thrown2_1 a_tape 0 p0 u_66 u_67 u_69 u_70 u_71 u_73 u_63 m_trouble2_2 a_letters u_64 m_hasHouse a_r a_fresh a_st a_undone a_kept m_undos m_images a_from a_begin a_motor a_change a_startFrame a_changeFrame a_lostAt a_blackAt a_slips a_leftArc a_died a_arcs m_bestSum m_nearest m_nearestTown a_there a_backAt a_sorted a_parts m_seed1 m_darkNow (iv_w iv_86 (by decide) (by decide))) dX11_house_171 mw519 mw520 mw521 mw5 mw522 rfl 11 rfl rfl 0 _ rfl (by unfold yOk; decide) rfl (Nat.le_of_ble_eq_true rfl) (Nat.le_of_ble_eq_true rfl) (Nat.le_of_ble_eq_true rfl) (Nat.le_of_ble_eq_true rfl) (Nat.le_of_ble_eq_true rfl) rfl rfl (by decide) rfl (by decide) (by decide) ?_
                rintro w ⟨m_failed2_109, m_fault2_110, m_place2_111, iv_113, rfl⟩
                refine k_ws [(a_r, .inl (g.2.2.1, 311, .inl d_r)), (a_st, .inl (g.2.2.1, 44, .inl d_st)), (a_tape, .inl (g.2.2.1, 900, .inl d_tape)), (a_letters, .inl (g.2.2.1, 8, .inl uf_62)), (a_fresh, .inl (g.2.2.1, 311, .inl uf_59)), (h0, .inr (11, [.int m_thrown2_1, .ref a_tape, .int 0, .int p0, .int u_66, .int u_67, .int u_69, .int u_70, .int u_71, .int m_fault2_110, .int m_place2_111, .int m_trouble2_2, .ref a_letters, .int m_failed2_109, .int m_hasHouse, .ref a_r, .ref a_fresh, .ref a_st, .ref a_undone, .ref a_kept, .int m_undos, .int m_images, .ref a_from, .ref a_begin, .ref a_motor, .ref a_change, .ref a_startFrame, .ref a_changeFrame, .ref a_lostAt, .ref a_blackAt, .ref a_slips, .ref a_leftArc, .ref a_died, .ref a_arcs, .int m_bestSum, .int m_nearest, .int m_nearestTown, .ref a_there, .ref a_backAt, .ref a_sorted, .ref a_parts, .int m_seed1, .int m_darkNow]))] rfl ?_
                refine k_aload_n X dX11_house_174 1 rfl ?_
                refine k_get (ci := 11) X inlX11 rfl 13 (by decide) dX11_house_175 mw469 5 rfl rfl ?_
                refine k_if_eq 187 X dX11_house_178 (by decide) (fun h_114 => (iv_eqN h_114 iv_113 (show IV 0 0 0 from (by decide)) (by decide)).elim) (fun h_114 => ?_)
                refine k_aload_n X dX11_house_181 1 rfl ?_
                refine k_iconst (v := 4) X dX11_house_182 (by decide) ?_
                refine k_callVI (n := 1) (As := [.int 4]) (st := []) X [(h0, .inr (11, [.int m_thrown2_1, .ref a_tape, .int 0, .int p0, .int u_66, .int u_67, .int u_69, .int u_70, .int u_71, .int m_fault2_110, .int m_place2_111, .int m_trouble2_2, .ref a_letters, .int m_failed2_109, .int m_hasHouse, .ref a_r, .ref a_fresh, .ref a_st, .ref a_undone, .ref a_kept, .int m_undos, .int m_images, .ref a_from, .ref a_begin, .ref a_motor, .ref a_change, .ref a_startFrame, .ref a_changeFrame, .ref a_lostAt, .ref a_blackAt, .ref a_slips, .ref a_leftArc, .ref a_died, .ref a_arcs, .int m_bestSum, .int m_nearest, .int m_nearestTown, .ref a_there, .ref a_backAt, .ref a_sorted, .ref a_parts, .int m_seed1, .int m_darkNow]))] [(a_r, .inl (g.2.2.1, 311, .inl d_r)), (a_st, .inl (g.2.2.1, 44, .inl d_st)), (a_tape, .inl (g.2.2.1, 900, .inl d_tape)), (a_letters, .inl (g.2.2.1, 8, .inl uf_62)), (a_fresh, .inl (g.2.2.1, 311, .inl uf_59))] [5] [0, 1, 2, 3, 4] (m_no l g h0 4 m_thrown2_1 a_tape 0 p0 u_66 u_67 u_69 u_70 u_71 m_fault2_110 m_place2_111 m_trouble2_2 a_letters m_failed2_109 m_hasHouse a_r a_fresh a_st a_undone a_kept m_undos m_images a_from a_begin a_motor a_change a_startFrame a_changeFrame a_lostAt a_blackAt a_slips a_leftArc a_died a_arcs m_bestSum m_nearest m_nearestTown a_there a_backAt a_sorted a_parts m_seed1 m_darkNow) dX11_house_183 mw485 mw486 mw487 mw5 mw488 rfl 11 rfl rfl 0 _ rfl (by unfold yOk; decide) rfl (Nat.le_of_ble_eq_true rfl) (Nat.le_of_ble_eq_true rfl) (Nat.le_of_ble_eq_true rfl) (Nat.le_of_ble_eq_true rfl) (Nat.le_of_ble_eq_true rfl) rfl rfl (by decide) rfl (by decide) (by decide) ?_
                rintro r_116 w ⟨m_trouble2_115, iv_117, rfl⟩
                refine k_ws [(a_r, .inl (g.2.2.1, 311, .inl d_r)), (a_st, .inl (g.2.2.1, 44, .inl d_st)), (a_tape, .inl (g.2.2.1, 900, .inl d_tape)), (a_letters, .inl (g.2.2.1, 8, .inl uf_62)), (a_fresh, .inl (g.2.2.1, 311, .inl uf_59)), (h0, .inr (11, [.int m_thrown2_1, .ref a_tape, .int 0, .int p0, .int u_66, .int u_67, .int u_69, .int u_70, .int u_71, .int m_fault2_110, .int m_place2_111, .int m_trouble2_115, .ref a_letters, .int m_failed2_109, .int m_hasHouse, .ref a_r, .ref a_fresh, .ref a_st, .ref a_undone, .ref a_kept, .int m_undos, .int m_images, .ref a_from, .ref a_begin, .ref a_motor, .ref a_change, .ref a_startFrame, .ref a_changeFrame, .ref a_lostAt, .ref a_blackAt, .ref a_slips, .ref a_leftArc, .ref a_died, .ref a_arcs, .int m_bestSum, .int m_nearest, .int m_nearestTown, .ref a_there, .ref a_backAt, .ref a_sorted, .ref a_parts, .int m_seed1, .int m_darkNow]))] rfl ?_
                exact k_iret X hr dX11_house_186 (Nat.le_of_ble_eq_true rfl) (Nat.le_of_ble_eq_true rfl) [5, 2, 3, 0, 4, 1] (by decide) rfl rfl ⟨u_66, u_67, m_failed2_109, m_fault2_110, uf_59, m_hasHouse, m_images, uf_62, u_71, m_place2_111, d_r, p0, d_st, 0, m_thrown2_1, u_69, m_trouble2_115, m_undos, u_70, (iv_w hv_68 (by decide) (by decide)), (iv_w iv_113 (by decide) (by decide)), (iv_w hv_m_hasHouse (by decide) (by decide)), (iv_w hv_m_images (by decide) (by decide)), (iv_w hv_72 (by decide) (by decide)), (iv_w iv_14 (by decide) (by decide)), (iv_w (show IV 0 0 0 from (by decide)) (by decide) (by decide)), (iv_w hv_m_undos (by decide) (by decide)), hp_d_r, hp_60, (by refine ⟨fun q => ?_, fun q => ?_⟩ <;> first | rfl | (exfalso; omega)), hr_0, rfl⟩
              · skip
                have iv_118 : IV z_104 1 8 := iv_neL h_107 iv_106 (show IV 0 0 0 from (by decide)) (by decide)
                refine k_aload_n X dX11_house_154 1 rfl ?_
                refine k_get (ci := 11) X inlX11 rfl 16 (by decide) dX11_house_155 mw171 2 rfl rfl ?_
                refine k_bipush (v := 11) X dX11_house_158 (by decide) ?_
                refine k_iald X dX11_house_160 5 rfl (by unfold vp_in; decide) ?_
                refine k_nm (fun z_119 ez_119 => ?_)
                have i_120 : z_119.toInt = (uf_59 11).toInt := by rw [ez_119]; rfl
                have iv_121 : IV z_119 0 4 := rb_11 ez_119 hp_60
                refine k_if_ne 174 X dX11_house_161 (by decide) (fun h_122 => ?_) (fun h_122 => ?_)
                · skip
                  have iv_123 : IV z_119 1 4 := iv_neL h_122 iv_121 (show IV 0 0 0 from (by decide)) (by decide)
                  refine k_aload_n X dX11_house_174 1 rfl ?_
                  refine k_get (ci := 11) X inlX11 rfl 13 (by decide) dX11_house_175 mw469 2 rfl rfl ?_
                  refine k_if_eq 187 X dX11_house_178 (by decide) (fun h_124 => ?_) (fun h_124 => absurd (iv_eq iv_86 (show IV 0 0 0 from (by decide))) h_124)
                  refine k_aload_n X dX11_house_187 1 rfl ?_
                  refine k_get (ci := 11) X inlX11 rfl 16 (by decide) dX11_house_188 mw171 2 rfl rfl ?_
                  refine k_iconst (v := 0) X dX11_house_191 (by decide) ?_
                  refine k_aload_n X dX11_house_192 1 rfl ?_
                  refine k_get (ci := 11) X inlX11 rfl 15 (by decide) dX11_house_193 mw170 2 rfl rfl ?_
                  refine k_iconst (v := 0) X dX11_house_196 (by decide) ?_
                  refine k_sipush (v := 311) X dX11_house_197 (by decide) ?_
                  refine k_callSV (n := 5) (As := [.ref a_fresh, .int 0, .ref a_r, .int 0, .int 311]) (st := []) X [(a_fresh, .inl (g.2.2.1, 311, .inl uf_59)), (a_r, .inl (g.2.2.1, 311, .inl d_r))] [(a_st, .inl (g.2.2.1, 44, .inl d_st)), (h0, .inr (11, [.int m_thrown2_1, .ref a_tape, .int 0, .int p0, .int u_66, .int u_67, .int u_69, .int u_70, .int u_71, .int u_73, .int u_63, .int m_trouble2_2, .ref a_letters, .int u_64, .int m_hasHouse, .ref a_r, .ref a_fresh, .ref a_st, .ref a_undone, .ref a_kept, .int m_undos, .int m_images, .ref a_from, .ref a_begin, .ref a_motor, .ref a_change, .ref a_startFrame, .ref a_changeFrame, .ref a_lostAt, .ref a_blackAt, .ref a_slips, .ref a_leftArc, .ref a_died, .ref a_arcs, .int m_bestSum, .int m_nearest, .int m_nearestTown, .ref a_there, .ref a_backAt, .ref a_sorted, .ref a_parts, .int m_seed1, .int m_darkNow])), (a_tape, .inl (g.2.2.1, 900, .inl d_tape)), (a_letters, .inl (g.2.2.1, 8, .inl uf_62))] [5, 0] [1, 2, 3, 4] (m_copyR l g a_fresh a_r uf_59 d_r hp_60) dX11_house_200 mw619 mw620 mw5 mw621 (by unfold yOk; decide) rfl (Nat.le_of_ble_eq_true rfl) (Nat.le_of_ble_eq_true rfl) (Nat.le_of_ble_eq_true rfl) (Nat.le_of_ble_eq_true rfl) (Nat.le_of_ble_eq_true rfl) rfl rfl (by decide) rfl (by decide) (by decide) ?_
                  rintro w ⟨f3_125, hq_127, hq_128, rfl⟩
                  refine k_ws [(a_st, .inl (g.2.2.1, 44, .inl d_st)), (h0, .inr (11, [.int m_thrown2_1, .ref a_tape, .int 0, .int p0, .int u_66, .int u_67, .int u_69, .int u_70, .int u_71, .int u_73, .int u_63, .int m_trouble2_2, .ref a_letters, .int u_64, .int m_hasHouse, .ref a_r, .ref a_fresh, .ref a_st, .ref a_undone, .ref a_kept, .int m_undos, .int m_images, .ref a_from, .ref a_begin, .ref a_motor, .ref a_change, .ref a_startFrame, .ref a_changeFrame, .ref a_lostAt, .ref a_blackAt, .ref a_slips, .ref a_leftArc, .ref a_died, .ref a_arcs, .int m_bestSum, .int m_nearest, .int m_nearestTown, .ref a_there, .ref a_backAt, .ref a_sorted, .ref a_parts, .int m_seed1, .int m_darkNow])), (a_tape, .inl (g.2.2.1, 900, .inl d_tape)), (a_letters, .inl (g.2.2.1, 8, .inl uf_62)), (a_fresh, .inl (g.2.2.1, 311, .inl uf_59)), (a_r, .inl (g.2.2.1, 311, .inl f3_125))] rfl ?_
                  have hT_129 : TRI f3_125 := hq_128 hT_61
                  refine k_iconst (v := 0) X dX11_house_203 (by decide) ?_
                  refine k_istore_n [(2, .int 0), (0, .ref h0), (1, .int p0)] X dX11_house_204 (by decide) rfl ?_
                  refine (fun hL : ∀ (nn_133 : Nat) (uf_130 : Nat → Int32) (u_131 : Int32), (44 - u_131.toInt).toNat = nn_133 → (IV u_131 0 255) → Wk p l e _ s m args below meth c _ A g _ _ _ [(a_st, .inl (g.2.2.1, 44, .inl uf_130)), (h0, .inr (11, [.int m_thrown2_1, .ref a_tape, .int 0, .int p0, .int u_66, .int u_67, .int u_69, .int u_70, .int u_71, .int u_73, .int u_63, .int m_trouble2_2, .ref a_letters, .int u_64, .int m_hasHouse, .ref a_r, .ref a_fresh, .ref a_st, .ref a_undone, .ref a_kept, .int m_undos, .int m_images, .ref a_from, .ref a_begin, .ref a_motor, .ref a_change, .ref a_startFrame, .ref a_changeFrame, .ref a_lostAt, .ref a_blackAt, .ref a_slips, .ref a_leftArc, .ref a_died, .ref a_arcs, .int m_bestSum, .int m_nearest, .int m_nearestTown, .ref a_there, .ref a_backAt, .ref a_sorted, .ref a_parts, .int m_seed1, .int m_darkNow])), (a_tape, .inl (g.2.2.1, 900, .inl d_tape)), (a_letters, .inl (g.2.2.1, 8, .inl uf_62)), (a_fresh, .inl (g.2.2.1, 311, .inl uf_59)), (a_r, .inl (g.2.2.1, 311, .inl f3_125))] [(2, .int u_131), (0, .ref h0), (1, .int p0)] 205 [] => hL _ d_st 0 rfl (iv_w (show IV 0 0 0 from (by decide)) (by decide) (by decide))) ?_
                  refine fun nn_133 => Nat.strongRecOn nn_133 (fun nn_133 ih_135 => ?_)
                  intro uf_130 u_131 hm_134 hv_132
                  refine k_iload_n X dX11_house_205 0 rfl ?_
                  refine k_bipush (v := 44) X dX11_house_206 (by decide) ?_
                  refine k_ic_ge 224 X dX11_house_208 (by decide) (fun h_136 => ?_) (fun h_136 => ?_)
                  · skip
                    have j_137 : 44 ≤ u_131.toInt := iv_le h_136
                    have iv_138 : IV u_131 44 255 := iv_leR (iv_le h_136) (show IV 44 44 44 from (by decide)) hv_132 (by decide)
                    refine k_iconst (v := 0) X dX11_house_224 (by decide) ?_
                    refine k_istore_n [(2, .int 0), (0, .ref h0), (1, .int p0)] X dX11_house_225 (by decide) rfl ?_
                    refine (fun hL : ∀ (nn_142 : Nat) (uf_139 : Nat → Int32) (u_140 : Int32), (2147483647 - u_140.toInt).toNat = nn_142 → (IV u_140 0 8) → Wk p l e _ s m args below meth c _ A g _ _ _ [(a_st, .inl (g.2.2.1, 44, .inl uf_139)), (h0, .inr (11, [.int m_thrown2_1, .ref a_tape, .int 0, .int p0, .int u_66, .int u_67, .int u_69, .int u_70, .int u_71, .int u_73, .int u_63, .int m_trouble2_2, .ref a_letters, .int u_64, .int m_hasHouse, .ref a_r, .ref a_fresh, .ref a_st, .ref a_undone, .ref a_kept, .int m_undos, .int m_images, .ref a_from, .ref a_begin, .ref a_motor, .ref a_change, .ref a_startFrame, .ref a_changeFrame, .ref a_lostAt, .ref a_blackAt, .ref a_slips, .ref a_leftArc, .ref a_died, .ref a_arcs, .int m_bestSum, .int m_nearest, .int m_nearestTown, .ref a_there, .ref a_backAt, .ref a_sorted, .ref a_parts, .int m_seed1, .int m_darkNow])), (a_tape, .inl (g.2.2.1, 900, .inl d_tape)), (a_letters, .inl (g.2.2.1, 8, .inl uf_62)), (a_fresh, .inl (g.2.2.1, 311, .inl uf_59)), (a_r, .inl (g.2.2.1, 311, .inl f3_125))] [(2, .int u_140), (0, .ref h0), (1, .int p0)] 226 [] => hL _ uf_130 0 rfl (iv_w (show IV 0 0 0 from (by decide)) (by decide) (by decide))) ?_
                    refine fun nn_142 => Nat.strongRecOn nn_142 (fun nn_142 ih_144 => ?_)
                    intro uf_139 u_140 hm_143 hv_141
                    refine k_iload_n X dX11_house_226 0 rfl ?_
                    refine k_aload_n X dX11_house_227 1 rfl ?_
                    refine k_get (ci := 11) X inlX11 rfl 15 (by decide) dX11_house_228 mw170 1 rfl rfl ?_
                    refine k_bipush (v := 6) X dX11_house_231 (by decide) ?_
                    refine k_iald X dX11_house_233 5 rfl (by unfold vp_in; decide) ?_
                    refine k_nm (fun z_145 ez_145 => ?_)
                    have i_146 : z_145.toInt = (f3_125 6).toInt := by rw [ez_145]; rfl
                    have iv_147 : IV z_145 0 8 := rb_6 ez_145 hq_127
                    refine k_ic_ge 284 X dX11_house_234 (by decide) (fun h_148 => ?_) (fun h_148 => ?_)
                    · skip
                      have j_149 : z_145.toInt ≤ u_140.toInt := iv_le h_148
                      refine k_iconst (v := 0) X dX11_house_284 (by decide) ?_
                      refine k_istore_n [(2, .int 0), (0, .ref h0), (1, .int p0)] X dX11_house_285 (by decide) rfl ?_
                      refine (fun hL : ∀ (nn_153 : Nat) (uf_150 : Nat → Int32) (u_151 : Int32), (2147483647 - u_151.toInt).toNat = nn_153 → (IV u_151 0 255) → Wk p l e _ s m args below meth c _ A g _ _ _ [(a_st, .inl (g.2.2.1, 44, .inl uf_150)), (h0, .inr (11, [.int m_thrown2_1, .ref a_tape, .int 0, .int p0, .int u_66, .int u_67, .int u_69, .int u_70, .int u_71, .int u_73, .int u_63, .int m_trouble2_2, .ref a_letters, .int u_64, .int m_hasHouse, .ref a_r, .ref a_fresh, .ref a_st, .ref a_undone, .ref a_kept, .int m_undos, .int m_images, .ref a_from, .ref a_begin, .ref a_motor, .ref a_change, .ref a_startFrame, .ref a_changeFrame, .ref a_lostAt, .ref a_blackAt, .ref a_slips, .ref a_leftArc, .ref a_died, .ref a_arcs, .int m_bestSum, .int m_nearest, .int m_nearestTown, .ref a_there, .ref a_backAt, .ref a_sorted, .ref a_parts, .int m_seed1, .int m_darkNow])), (a_tape, .inl (g.2.2.1, 900, .inl d_tape)), (a_letters, .inl (g.2.2.1, 8, .inl uf_62)), (a_fresh, .inl (g.2.2.1, 311, .inl uf_59)), (a_r, .inl (g.2.2.1, 311, .inl f3_125))] [(2, .int u_151), (0, .ref h0), (1, .int p0)] 286 [] => hL _ uf_139 0 rfl (iv_w (show IV 0 0 0 from (by decide)) (by decide) (by decide))) ?_
                      refine fun nn_153 => Nat.strongRecOn nn_153 (fun nn_153 ih_155 => ?_)
                      intro uf_150 u_151 hm_154 hv_152
                      refine k_iload_n X dX11_house_286 0 rfl ?_
                      refine k_aload_n X dX11_house_287 1 rfl ?_
                      refine k_get (ci := 11) X inlX11 rfl 15 (by decide) dX11_house_288 mw170 1 rfl rfl ?_
                      refine k_bipush (v := 8) X dX11_house_291 (by decide) ?_
                      refine k_iald X dX11_house_293 5 rfl (by unfold vp_in; decide) ?_
                      refine k_nm (fun z_156 ez_156 => ?_)
                      have i_157 : z_156.toInt = (f3_125 8).toInt := by rw [ez_156]; rfl
                      have iv_158 : IV z_156 0 12 := rb_8 ez_156 hq_127
                      refine k_ic_ge 325 X dX11_house_294 (by decide) (fun h_159 => ?_) (fun h_159 => ?_)
                      · skip
                        have j_160 : z_156.toInt ≤ u_151.toInt := iv_le h_159
                        refine k_iconst (v := 0) X dX11_house_325 (by decide) ?_
                        refine k_istore_n [(2, .int 0), (0, .ref h0), (1, .int p0)] X dX11_house_326 (by decide) rfl ?_
                        refine (fun hL : ∀ (nn_164 : Nat) (uf_161 : Nat → Int32) (u_162 : Int32), (2147483647 - u_162.toInt).toNat = nn_164 → (IV u_162 0 8) → Wk p l e _ s m args below meth c _ A g _ _ _ [(a_st, .inl (g.2.2.1, 44, .inl uf_161)), (h0, .inr (11, [.int m_thrown2_1, .ref a_tape, .int 0, .int p0, .int u_66, .int u_67, .int u_69, .int u_70, .int u_71, .int u_73, .int u_63, .int m_trouble2_2, .ref a_letters, .int u_64, .int m_hasHouse, .ref a_r, .ref a_fresh, .ref a_st, .ref a_undone, .ref a_kept, .int m_undos, .int m_images, .ref a_from, .ref a_begin, .ref a_motor, .ref a_change, .ref a_startFrame, .ref a_changeFrame, .ref a_lostAt, .ref a_blackAt, .ref a_slips, .ref a_leftArc, .ref a_died, .ref a_arcs, .int m_bestSum, .int m_nearest, .int m_nearestTown, .ref a_there, .ref a_backAt, .ref a_sorted, .ref a_parts, .int m_seed1, .int m_darkNow])), (a_tape, .inl (g.2.2.1, 900, .inl d_tape)), (a_letters, .inl (g.2.2.1, 8, .inl uf_62)), (a_fresh, .inl (g.2.2.1, 311, .inl uf_59)), (a_r, .inl (g.2.2.1, 311, .inl f3_125))] [(2, .int u_162), (0, .ref h0), (1, .int p0)] 327 [] => hL _ uf_150 0 rfl (iv_w (show IV 0 0 0 from (by decide)) (by decide) (by decide))) ?_
                        refine fun nn_164 => Nat.strongRecOn nn_164 (fun nn_164 ih_166 => ?_)
                        intro uf_161 u_162 hm_165 hv_163
                        refine k_iload_n X dX11_house_327 0 rfl ?_
                        refine k_aload_n X dX11_house_328 1 rfl ?_
                        refine k_get (ci := 11) X inlX11 rfl 15 (by decide) dX11_house_329 mw170 1 rfl rfl ?_
                        refine k_bipush (v := 10) X dX11_house_332 (by decide) ?_
                        refine k_iald X dX11_house_334 5 rfl (by unfold vp_in; decide) ?_
                        refine k_nm (fun z_167 ez_167 => ?_)
                        have i_168 : z_167.toInt = (f3_125 10).toInt := by rw [ez_167]; rfl
                        have iv_169 : IV z_167 0 6 := rb_10 ez_167 hq_127
                        refine k_ic_ge 366 X dX11_house_335 (by decide) (fun h_170 => ?_) (fun h_170 => ?_)
                        · skip
                          have j_171 : z_167.toInt ≤ u_162.toInt := iv_le h_170
                          refine k_iconst (v := 0) X dX11_house_366 (by decide) ?_
                          refine k_istore_n [(2, .int 0), (0, .ref h0), (1, .int p0)] X dX11_house_367 (by decide) rfl ?_
                          refine (fun hL : ∀ (nn_175 : Nat) (uf_172 : Nat → Int32) (u_173 : Int32), (2147483647 - u_173.toInt).toNat = nn_175 → (IV u_173 0 8) → Wk p l e _ s m args below meth c _ A g _ _ _ [(a_st, .inl (g.2.2.1, 44, .inl uf_172)), (h0, .inr (11, [.int m_thrown2_1, .ref a_tape, .int 0, .int p0, .int u_66, .int u_67, .int u_69, .int u_70, .int u_71, .int u_73, .int u_63, .int m_trouble2_2, .ref a_letters, .int u_64, .int m_hasHouse, .ref a_r, .ref a_fresh, .ref a_st, .ref a_undone, .ref a_kept, .int m_undos, .int m_images, .ref a_from, .ref a_begin, .ref a_motor, .ref a_change, .ref a_startFrame, .ref a_changeFrame, .ref a_lostAt, .ref a_blackAt, .ref a_slips, .ref a_leftArc, .ref a_died, .ref a_arcs, .int m_bestSum, .int m_nearest, .int m_nearestTown, .ref a_there, .ref a_backAt, .ref a_sorted, .ref a_parts, .int m_seed1, .int m_darkNow])), (a_tape, .inl (g.2.2.1, 900, .inl d_tape)), (a_letters, .inl (g.2.2.1, 8, .inl uf_62)), (a_fresh, .inl (g.2.2.1, 311, .inl uf_59)), (a_r, .inl (g.2.2.1, 311, .inl f3_125))] [(2, .int u_173), (0, .ref h0), (1, .int p0)] 368 [] => hL _ uf_161 0 rfl (iv_w (show IV 0 0 0 from (by decide)) (by decide) (by decide))) ?_
                          refine fun nn_175 => Nat.strongRecOn nn_175 (fun nn_175 ih_177 => ?_)
                          intro uf_172 u_173 hm_176 hv_174
                          refine k_iload_n X dX11_house_368 0 rfl ?_
                          refine k_aload_n X dX11_house_369 1 rfl ?_
                          refine k_get (ci := 11) X inlX11 rfl 15 (by decide) dX11_house_370 mw170 1 rfl rfl ?_
                          refine k_bipush (v := 12) X dX11_house_373 (by decide) ?_
                          refine k_iald X dX11_house_375 5 rfl (by unfold vp_in; decide) ?_
                          refine k_nm (fun z_178 ez_178 => ?_)
                          have i_179 : z_178.toInt = (f3_125 12).toInt := by rw [ez_178]; rfl
                          have iv_180 : IV z_178 0 8 := rb_12 ez_178 hq_127
                          refine k_ic_ge 400 X dX11_house_376 (by decide) (fun h_181 => ?_) (fun h_181 => ?_)
                          · skip
                            have j_182 : z_178.toInt ≤ u_173.toInt := iv_le h_181
                            refine k_aload_n X dX11_house_400 1 rfl ?_
                            refine k_iconst (v := 1) X dX11_house_401 (by decide) ?_
                            refine k_put (ci := 11) [(a_st, .inl (g.2.2.1, 44, .inl uf_172)), (h0, .inr (11, [.int m_thrown2_1, .ref a_tape, .int 0, .int p0, .int u_66, .int u_67, .int u_69, .int u_70, .int u_71, .int u_73, .int u_63, .int m_trouble2_2, .ref a_letters, .int u_64, .int 1, .ref a_r, .ref a_fresh, .ref a_st, .ref a_undone, .ref a_kept, .int m_undos, .int m_images, .ref a_from, .ref a_begin, .ref a_motor, .ref a_change, .ref a_startFrame, .ref a_changeFrame, .ref a_lostAt, .ref a_blackAt, .ref a_slips, .ref a_leftArc, .ref a_died, .ref a_arcs, .int m_bestSum, .int m_nearest, .int m_nearestTown, .ref a_there, .ref a_backAt, .ref a_sorted, .ref a_parts, .int m_seed1, .int m_darkNow])), (a_tape, .inl (g.2.2.1, 900, .inl d_tape)), (a_letters, .inl (g.2.2.1, 8, .inl uf_62)), (a_fresh, .inl (g.2.2.1, 311, .inl uf_59)), (a_r, .inl (g.2.2.1, 311, .inl f3_125))] X inlX11 rfl tyX11_ok nmX11 14 (by decide) rfl dX11_house_402 mw474 1 rfl (by decide) (by decide) (Nat.le_of_ble_eq_true rfl) rfl ?_
                            refine k_aload_n X dX11_house_405 1 rfl ?_
                            refine k_iconst (v := 0) X dX11_house_406 (by decide) ?_
                            refine k_put (ci := 11) [(a_st, .inl (g.2.2.1, 44, .inl uf_172)), (h0, .inr (11, [.int m_thrown2_1, .ref a_tape, .int 0, .int p0, .int u_66, .int u_67, .int u_69, .int u_70, .int u_71, .int u_73, .int u_63, .int m_trouble2_2, .ref a_letters, .int u_64, .int 1, .ref a_r, .ref a_fresh, .ref a_st, .ref a_undone, .ref a_kept, .int 0, .int m_images, .ref a_from, .ref a_begin, .ref a_motor, .ref a_change, .ref a_startFrame, .ref a_changeFrame, .ref a_lostAt, .ref a_blackAt, .ref a_slips, .ref a_leftArc, .ref a_died, .ref a_arcs, .int m_bestSum, .int m_nearest, .int m_nearestTown, .ref a_there, .ref a_backAt, .ref a_sorted, .ref a_parts, .int m_seed1, .int m_darkNow])), (a_tape, .inl (g.2.2.1, 900, .inl d_tape)), (a_letters, .inl (g.2.2.1, 8, .inl uf_62)), (a_fresh, .inl (g.2.2.1, 311, .inl uf_59)), (a_r, .inl (g.2.2.1, 311, .inl f3_125))] X inlX11 rfl tyX11_ok nmX11 20 (by decide) rfl dX11_house_407 mw475 1 rfl rfl rfl (Nat.le_of_ble_eq_true rfl) rfl ?_
                            refine k_aload_n X dX11_house_410 1 rfl ?_
                            refine k_iconst (v := 0) X dX11_house_411 (by decide) ?_
                            refine k_put (ci := 11) [(a_st, .inl (g.2.2.1, 44, .inl uf_172)), (h0, .inr (11, [.int m_thrown2_1, .ref a_tape, .int 0, .int p0, .int u_66, .int u_67, .int u_69, .int u_70, .int u_71, .int u_73, .int u_63, .int m_trouble2_2, .ref a_letters, .int u_64, .int 1, .ref a_r, .ref a_fresh, .ref a_st, .ref a_undone, .ref a_kept, .int 0, .int 0, .ref a_from, .ref a_begin, .ref a_motor, .ref a_change, .ref a_startFrame, .ref a_changeFrame, .ref a_lostAt, .ref a_blackAt, .ref a_slips, .ref a_leftArc, .ref a_died, .ref a_arcs, .int m_bestSum, .int m_nearest, .int m_nearestTown, .ref a_there, .ref a_backAt, .ref a_sorted, .ref a_parts, .int m_seed1, .int m_darkNow])), (a_tape, .inl (g.2.2.1, 900, .inl d_tape)), (a_letters, .inl (g.2.2.1, 8, .inl uf_62)), (a_fresh, .inl (g.2.2.1, 311, .inl uf_59)), (a_r, .inl (g.2.2.1, 311, .inl f3_125))] X inlX11 rfl tyX11_ok nmX11 21 (by decide) rfl dX11_house_412 mw476 1 rfl rfl rfl (Nat.le_of_ble_eq_true rfl) rfl ?_
                            refine k_aload_n X dX11_house_415 1 rfl ?_
                            refine k_get (ci := 11) X inlX11 rfl 15 (by decide) dX11_house_416 mw170 1 rfl rfl ?_
                            refine k_bipush (v := 12) X dX11_house_419 (by decide) ?_
                            refine k_iald X dX11_house_421 5 rfl (by unfold vp_in; decide) ?_
                            refine k_to z_178 ez_178.symm ?_
                            exact k_iret X hr dX11_house_422 (Nat.le_of_ble_eq_true rfl) (Nat.le_of_ble_eq_true rfl) [1, 2, 3, 5, 4, 0] (by decide) rfl rfl ⟨u_66, u_67, u_64, u_73, uf_59, 1, 0, uf_62, u_71, u_63, f3_125, p0, uf_172, 0, m_thrown2_1, u_69, m_trouble2_2, 0, u_70, (iv_w hv_68 (by decide) (by decide)), (iv_w iv_86 (by decide) (by decide)), (iv_w (show IV 1 1 1 from (by decide)) (by decide) (by decide)), (iv_w (show IV 0 0 0 from (by decide)) (by decide) (by decide)), (iv_w hv_72 (by decide) (by decide)), (iv_w iv_14 (by decide) (by decide)), (iv_w (show IV 0 0 0 from (by decide)) (by decide) (by decide)), (iv_w (show IV 0 0 0 from (by decide)) (by decide) (by decide)), hq_127, hp_60, (by refine ⟨fun q => ?_, fun q => ?_⟩ <;> first | rfl | (exfalso; omega)), hT_129, rfl⟩
                          · skip
                            have j_183 : u_173.toInt < z_178.toInt := iv_nle h_181
                            have iv_184 : IV u_173 0 7 := iv_ltL (iv_nle h_181) hv_174 iv_180 (by decide)
                            have iv_185 : IV z_178 1 8 := iv_ltR (iv_nle h_181) hv_174 iv_180 (by decide)
                            refine k_aload_n X dX11_house_379 1 rfl ?_
                            refine k_get (ci := 11) X inlX11 rfl 17 (by decide) dX11_house_380 mw172 1 rfl rfl ?_
                            refine k_bipush (v := 34) X dX11_house_383 (by decide) ?_
                            refine k_iload_n X dX11_house_385 0 rfl ?_
                            refine k_iadd X dX11_house_386 ?_
                            refine k_nm (fun z_186 ez_186 => ?_)
                            have i_187 : z_186.toInt = 34 + u_173.toInt := in_add ez_186 (show IV 34 34 34 from (by decide)) iv_184 (by decide) (by decide)
                            have iv_188 : IV z_186 34 41 := by have := (show IV 34 34 34 from (by decide)); have := iv_184; rw [IV, i_187]; omega
                            refine k_aload_n X dX11_house_387 1 rfl ?_
                            refine k_get (ci := 11) X inlX11 rfl 15 (by decide) dX11_house_388 mw170 1 rfl rfl ?_
                            refine k_iconst (v := 2) X dX11_house_391 (by decide) ?_
                            refine k_iald X dX11_house_392 5 rfl (by unfold vp_in; decide) ?_
                            refine k_nm (fun z_189 ez_189 => ?_)
                            refine k_iast [(a_st, .inl (g.2.2.1, 44, .inl (upd uf_172 (z_186 : Int32).toNatClampNeg z_189))), (h0, .inr (11, [.int m_thrown2_1, .ref a_tape, .int 0, .int p0, .int u_66, .int u_67, .int u_69, .int u_70, .int u_71, .int u_73, .int u_63, .int m_trouble2_2, .ref a_letters, .int u_64, .int m_hasHouse, .ref a_r, .ref a_fresh, .ref a_st, .ref a_undone, .ref a_kept, .int m_undos, .int m_images, .ref a_from, .ref a_begin, .ref a_motor, .ref a_change, .ref a_startFrame, .ref a_changeFrame, .ref a_lostAt, .ref a_blackAt, .ref a_slips, .ref a_leftArc, .ref a_died, .ref a_arcs, .int m_bestSum, .int m_nearest, .int m_nearestTown, .ref a_there, .ref a_backAt, .ref a_sorted, .ref a_parts, .int m_seed1, .int m_darkNow])), (a_tape, .inl (g.2.2.1, 900, .inl d_tape)), (a_letters, .inl (g.2.2.1, 8, .inl uf_62)), (a_fresh, .inl (g.2.2.1, 311, .inl uf_59)), (a_r, .inl (g.2.2.1, 311, .inl f3_125))] X dX11_house_393 0 rfl (iv_in iv_188 (by decide) (by decide)) rfl ?_
                            refine (fun hg : ∀ fa_190 : Nat → Int32, Wk p l e _ s m args below meth c _ A g _ _ _ [(a_st, .inl (g.2.2.1, 44, .inl fa_190)), (h0, .inr (11, [.int m_thrown2_1, .ref a_tape, .int 0, .int p0, .int u_66, .int u_67, .int u_69, .int u_70, .int u_71, .int u_73, .int u_63, .int m_trouble2_2, .ref a_letters, .int u_64, .int m_hasHouse, .ref a_r, .ref a_fresh, .ref a_st, .ref a_undone, .ref a_kept, .int m_undos, .int m_images, .ref a_from, .ref a_begin, .ref a_motor, .ref a_change, .ref a_startFrame, .ref a_changeFrame, .ref a_lostAt, .ref a_blackAt, .ref a_slips, .ref a_leftArc, .ref a_died, .ref a_arcs, .int m_bestSum, .int m_nearest, .int m_nearestTown, .ref a_there, .ref a_backAt, .ref a_sorted, .ref a_parts, .int m_seed1, .int m_darkNow])), (a_tape, .inl (g.2.2.1, 900, .inl d_tape)), (a_letters, .inl (g.2.2.1, 8, .inl uf_62)), (a_fresh, .inl (g.2.2.1, 311, .inl uf_59)), (a_r, .inl (g.2.2.1, 311, .inl f3_125))] _ _ _ => hg _) (fun fa_190 => ?_)
                            obtain ⟨z_191, ez_191⟩ : ∃ y : Int32, u_173 + Int32.ofInt 1 = y := ⟨_, rfl⟩
                            refine k_iinc z_191 [(2, .int z_191), (0, .ref h0), (1, .int p0)] 0 X dX11_house_394 rfl ez_191 (by decide) rfl ?_
                            have i_192 : z_191.toInt = u_173.toInt + 1 := in_inc ez_191 (by decide) iv_184 (by decide) (by decide)
                            have iv_193 : IV z_191 1 8 := by have := iv_184; rw [IV, i_192]; omega
                            refine k_goto 368 X dX11_house_397 (by decide) ?_
                            exact ih_177 _ (by omega) fa_190 z_191 rfl (iv_w iv_193 (by decide) (by decide))
                        · skip
                          have j_194 : u_162.toInt < z_167.toInt := iv_nle h_170
                          have iv_195 : IV u_162 0 5 := iv_ltL (iv_nle h_170) hv_163 iv_169 (by decide)
                          have iv_196 : IV z_167 1 6 := iv_ltR (iv_nle h_170) hv_163 iv_169 (by decide)
                          refine k_aload_n X dX11_house_338 1 rfl ?_
                          refine k_get (ci := 11) X inlX11 rfl 17 (by decide) dX11_house_339 mw172 1 rfl rfl ?_
                          refine k_bipush (v := 28) X dX11_house_342 (by decide) ?_
                          refine k_iload_n X dX11_house_344 0 rfl ?_
                          refine k_iadd X dX11_house_345 ?_
                          refine k_nm (fun z_197 ez_197 => ?_)
                          have i_198 : z_197.toInt = 28 + u_162.toInt := in_add ez_197 (show IV 28 28 28 from (by decide)) iv_195 (by decide) (by decide)
                          have iv_199 : IV z_197 28 33 := by have := (show IV 28 28 28 from (by decide)); have := iv_195; rw [IV, i_198]; omega
                          refine k_aload_n X dX11_house_346 1 rfl ?_
                          refine k_get (ci := 11) X inlX11 rfl 15 (by decide) dX11_house_347 mw170 1 rfl rfl ?_
                          refine k_bipush (v := 96) X dX11_house_350 (by decide) ?_
                          refine k_iconst (v := 3) X dX11_house_352 (by decide) ?_
                          refine k_iload_n X dX11_house_353 0 rfl ?_
                          refine k_imul X dX11_house_354 ?_
                          refine k_nm (fun z_200 ez_200 => ?_)
                          have i_201 : z_200.toInt = 3 * u_162.toInt := in_mul ez_200 (by decide) (by decide) iv_195 (by decide) (by decide)
                          have iv_202 : IV z_200 0 15 := by have := (show IV 3 3 3 from (by decide)); have := iv_195; rw [IV, i_201]; omega
                          refine k_iadd X dX11_house_355 ?_
                          refine k_nm (fun z_203 ez_203 => ?_)
                          have i_204 : z_203.toInt = 96 + z_200.toInt := in_add ez_203 (show IV 96 96 96 from (by decide)) iv_202 (by decide) (by decide)
                          have iv_205 : IV z_203 96 111 := by have := (show IV 96 96 96 from (by decide)); have := iv_202; rw [IV, i_204]; omega
                          refine k_iconst (v := 1) X dX11_house_356 (by decide) ?_
                          refine k_iadd X dX11_house_357 ?_
                          refine k_nm (fun z_206 ez_206 => ?_)
                          have i_207 : z_206.toInt = z_203.toInt + 1 := in_add ez_206 iv_205 (show IV 1 1 1 from (by decide)) (by decide) (by decide)
                          have iv_208 : IV z_206 97 112 := by have := iv_205; have := (show IV 1 1 1 from (by decide)); rw [IV, i_207]; omega
                          refine k_iald X dX11_house_358 5 rfl (iv_in iv_208 (by decide) (by decide)) ?_
                          refine k_nm (fun z_209 ez_209 => ?_)
                          refine k_iast [(a_st, .inl (g.2.2.1, 44, .inl (upd uf_161 (z_197 : Int32).toNatClampNeg z_209))), (h0, .inr (11, [.int m_thrown2_1, .ref a_tape, .int 0, .int p0, .int u_66, .int u_67, .int u_69, .int u_70, .int u_71, .int u_73, .int u_63, .int m_trouble2_2, .ref a_letters, .int u_64, .int m_hasHouse, .ref a_r, .ref a_fresh, .ref a_st, .ref a_undone, .ref a_kept, .int m_undos, .int m_images, .ref a_from, .ref a_begin, .ref a_motor, .ref a_change, .ref a_startFrame, .ref a_changeFrame, .ref a_lostAt, .ref a_blackAt, .ref a_slips, .ref a_leftArc, .ref a_died, .ref a_arcs, .int m_bestSum, .int m_nearest, .int m_nearestTown, .ref a_there, .ref a_backAt, .ref a_sorted, .ref a_parts, .int m_seed1, .int m_darkNow])), (a_tape, .inl (g.2.2.1, 900, .inl d_tape)), (a_letters, .inl (g.2.2.1, 8, .inl uf_62)), (a_fresh, .inl (g.2.2.1, 311, .inl uf_59)), (a_r, .inl (g.2.2.1, 311, .inl f3_125))] X dX11_house_359 0 rfl (iv_in iv_199 (by decide) (by decide)) rfl ?_
                          refine (fun hg : ∀ fa_210 : Nat → Int32, Wk p l e _ s m args below meth c _ A g _ _ _ [(a_st, .inl (g.2.2.1, 44, .inl fa_210)), (h0, .inr (11, [.int m_thrown2_1, .ref a_tape, .int 0, .int p0, .int u_66, .int u_67, .int u_69, .int u_70, .int u_71, .int u_73, .int u_63, .int m_trouble2_2, .ref a_letters, .int u_64, .int m_hasHouse, .ref a_r, .ref a_fresh, .ref a_st, .ref a_undone, .ref a_kept, .int m_undos, .int m_images, .ref a_from, .ref a_begin, .ref a_motor, .ref a_change, .ref a_startFrame, .ref a_changeFrame, .ref a_lostAt, .ref a_blackAt, .ref a_slips, .ref a_leftArc, .ref a_died, .ref a_arcs, .int m_bestSum, .int m_nearest, .int m_nearestTown, .ref a_there, .ref a_backAt, .ref a_sorted, .ref a_parts, .int m_seed1, .int m_darkNow])), (a_tape, .inl (g.2.2.1, 900, .inl d_tape)), (a_letters, .inl (g.2.2.1, 8, .inl uf_62)), (a_fresh, .inl (g.2.2.1, 311, .inl uf_59)), (a_r, .inl (g.2.2.1, 311, .inl f3_125))] _ _ _ => hg _) (fun fa_210 => ?_)
                          obtain ⟨z_211, ez_211⟩ : ∃ y : Int32, u_162 + Int32.ofInt 1 = y := ⟨_, rfl⟩
                          refine k_iinc z_211 [(2, .int z_211), (0, .ref h0), (1, .int p0)] 0 X dX11_house_360 rfl ez_211 (by decide) rfl ?_
                          have i_212 : z_211.toInt = u_162.toInt + 1 := in_inc ez_211 (by decide) iv_195 (by decide) (by decide)
                          have iv_213 : IV z_211 1 6 := by have := iv_195; rw [IV, i_212]; omega
                          refine k_goto 327 X dX11_house_363 (by decide) ?_
                          exact ih_166 _ (by omega) fa_210 z_211 rfl (iv_w iv_213 (by decide) (by decide))
                      · skip
                        have j_214 : u_151.toInt < z_156.toInt := iv_nle h_159
                        have iv_215 : IV u_151 0 11 := iv_ltL (iv_nle h_159) hv_152 iv_158 (by decide)
                        have iv_216 : IV z_156 1 12 := iv_ltR (iv_nle h_159) hv_152 iv_158 (by decide)
                        refine k_aload_n X dX11_house_297 1 rfl ?_
                        refine k_get (ci := 11) X inlX11 rfl 17 (by decide) dX11_house_298 mw172 1 rfl rfl ?_
                        refine k_bipush (v := 16) X dX11_house_301 (by decide) ?_
                        refine k_iload_n X dX11_house_303 0 rfl ?_
                        refine k_iadd X dX11_house_304 ?_
                        refine k_nm (fun z_217 ez_217 => ?_)
                        have i_218 : z_217.toInt = 16 + u_151.toInt := in_add ez_217 (show IV 16 16 16 from (by decide)) iv_215 (by decide) (by decide)
                        have iv_219 : IV z_217 16 27 := by have := (show IV 16 16 16 from (by decide)); have := iv_215; rw [IV, i_218]; omega
                        refine k_aload_n X dX11_house_305 1 rfl ?_
                        refine k_get (ci := 11) X inlX11 rfl 15 (by decide) dX11_house_306 mw170 1 rfl rfl ?_
                        refine k_bipush (v := 44) X dX11_house_309 (by decide) ?_
                        refine k_iconst (v := 3) X dX11_house_311 (by decide) ?_
                        refine k_iload_n X dX11_house_312 0 rfl ?_
                        refine k_imul X dX11_house_313 ?_
                        refine k_nm (fun z_220 ez_220 => ?_)
                        have i_221 : z_220.toInt = 3 * u_151.toInt := in_mul ez_220 (by decide) (by decide) iv_215 (by decide) (by decide)
                        have iv_222 : IV z_220 0 33 := by have := (show IV 3 3 3 from (by decide)); have := iv_215; rw [IV, i_221]; omega
                        refine k_iadd X dX11_house_314 ?_
                        refine k_nm (fun z_223 ez_223 => ?_)
                        have i_224 : z_223.toInt = 44 + z_220.toInt := in_add ez_223 (show IV 44 44 44 from (by decide)) iv_222 (by decide) (by decide)
                        have iv_225 : IV z_223 44 77 := by have := (show IV 44 44 44 from (by decide)); have := iv_222; rw [IV, i_224]; omega
                        refine k_iconst (v := 1) X dX11_house_315 (by decide) ?_
                        refine k_iadd X dX11_house_316 ?_
                        refine k_nm (fun z_226 ez_226 => ?_)
                        have i_227 : z_226.toInt = z_223.toInt + 1 := in_add ez_226 iv_225 (show IV 1 1 1 from (by decide)) (by decide) (by decide)
                        have iv_228 : IV z_226 45 78 := by have := iv_225; have := (show IV 1 1 1 from (by decide)); rw [IV, i_227]; omega
                        refine k_iald X dX11_house_317 5 rfl (iv_in iv_228 (by decide) (by decide)) ?_
                        refine k_nm (fun z_229 ez_229 => ?_)
                        refine k_iast [(a_st, .inl (g.2.2.1, 44, .inl (upd uf_150 (z_217 : Int32).toNatClampNeg z_229))), (h0, .inr (11, [.int m_thrown2_1, .ref a_tape, .int 0, .int p0, .int u_66, .int u_67, .int u_69, .int u_70, .int u_71, .int u_73, .int u_63, .int m_trouble2_2, .ref a_letters, .int u_64, .int m_hasHouse, .ref a_r, .ref a_fresh, .ref a_st, .ref a_undone, .ref a_kept, .int m_undos, .int m_images, .ref a_from, .ref a_begin, .ref a_motor, .ref a_change, .ref a_startFrame, .ref a_changeFrame, .ref a_lostAt, .ref a_blackAt, .ref a_slips, .ref a_leftArc, .ref a_died, .ref a_arcs, .int m_bestSum, .int m_nearest, .int m_nearestTown, .ref a_there, .ref a_backAt, .ref a_sorted, .ref a_parts, .int m_seed1, .int m_darkNow])), (a_tape, .inl (g.2.2.1, 900, .inl d_tape)), (a_letters, .inl (g.2.2.1, 8, .inl uf_62)), (a_fresh, .inl (g.2.2.1, 311, .inl uf_59)), (a_r, .inl (g.2.2.1, 311, .inl f3_125))] X dX11_house_318 0 rfl (iv_in iv_219 (by decide) (by decide)) rfl ?_
                        refine (fun hg : ∀ fa_230 : Nat → Int32, Wk p l e _ s m args below meth c _ A g _ _ _ [(a_st, .inl (g.2.2.1, 44, .inl fa_230)), (h0, .inr (11, [.int m_thrown2_1, .ref a_tape, .int 0, .int p0, .int u_66, .int u_67, .int u_69, .int u_70, .int u_71, .int u_73, .int u_63, .int m_trouble2_2, .ref a_letters, .int u_64, .int m_hasHouse, .ref a_r, .ref a_fresh, .ref a_st, .ref a_undone, .ref a_kept, .int m_undos, .int m_images, .ref a_from, .ref a_begin, .ref a_motor, .ref a_change, .ref a_startFrame, .ref a_changeFrame, .ref a_lostAt, .ref a_blackAt, .ref a_slips, .ref a_leftArc, .ref a_died, .ref a_arcs, .int m_bestSum, .int m_nearest, .int m_nearestTown, .ref a_there, .ref a_backAt, .ref a_sorted, .ref a_parts, .int m_seed1, .int m_darkNow])), (a_tape, .inl (g.2.2.1, 900, .inl d_tape)), (a_letters, .inl (g.2.2.1, 8, .inl uf_62)), (a_fresh, .inl (g.2.2.1, 311, .inl uf_59)), (a_r, .inl (g.2.2.1, 311, .inl f3_125))] _ _ _ => hg _) (fun fa_230 => ?_)
                        obtain ⟨z_231, ez_231⟩ : ∃ y : Int32, u_151 + Int32.ofInt 1 = y := ⟨_, rfl⟩
                        refine k_iinc z_231 [(2, .int z_231), (0, .ref h0), (1, .int p0)] 0 X dX11_house_319 rfl ez_231 (by decide) rfl ?_
                        have i_232 : z_231.toInt = u_151.toInt + 1 := in_inc ez_231 (by decide) iv_215 (by decide) (by decide)
                        have iv_233 : IV z_231 1 12 := by have := iv_215; rw [IV, i_232]; omega
                        refine k_goto 286 X dX11_house_322 (by decide) ?_
                        exact ih_155 _ (by omega) fa_230 z_231 rfl (iv_w iv_233 (by decide) (by decide))
                    · skip
                      have j_234 : u_140.toInt < z_145.toInt := iv_nle h_148
                      have iv_235 : IV u_140 0 7 := iv_ltL (iv_nle h_148) hv_141 iv_147 (by decide)
                      have iv_236 : IV z_145 1 8 := iv_ltR (iv_nle h_148) hv_141 iv_147 (by decide)
                      refine k_aload_n X dX11_house_237 1 rfl ?_
                      refine k_get (ci := 11) X inlX11 rfl 17 (by decide) dX11_house_238 mw172 1 rfl rfl ?_
                      refine k_iconst (v := 0) X dX11_house_241 (by decide) ?_
                      refine k_iload_n X dX11_house_242 0 rfl ?_
                      refine k_iadd X dX11_house_243 ?_
                      refine k_nm (fun z_237 ez_237 => ?_)
                      have i_238 : z_237.toInt = 0 + u_140.toInt := in_add ez_237 (show IV 0 0 0 from (by decide)) iv_235 (by decide) (by decide)
                      have iv_239 : IV z_237 0 7 := by have := (show IV 0 0 0 from (by decide)); have := iv_235; rw [IV, i_238]; omega
                      refine k_aload_n X dX11_house_244 1 rfl ?_
                      refine k_get (ci := 11) X inlX11 rfl 15 (by decide) dX11_house_245 mw170 1 rfl rfl ?_
                      refine k_bipush (v := 16) X dX11_house_248 (by decide) ?_
                      refine k_iconst (v := 3) X dX11_house_250 (by decide) ?_
                      refine k_iload_n X dX11_house_251 0 rfl ?_
                      refine k_imul X dX11_house_252 ?_
                      refine k_nm (fun z_240 ez_240 => ?_)
                      have i_241 : z_240.toInt = 3 * u_140.toInt := in_mul ez_240 (by decide) (by decide) iv_235 (by decide) (by decide)
                      have iv_242 : IV z_240 0 21 := by have := (show IV 3 3 3 from (by decide)); have := iv_235; rw [IV, i_241]; omega
                      refine k_iadd X dX11_house_253 ?_
                      refine k_nm (fun z_243 ez_243 => ?_)
                      have i_244 : z_243.toInt = 16 + z_240.toInt := in_add ez_243 (show IV 16 16 16 from (by decide)) iv_242 (by decide) (by decide)
                      have iv_245 : IV z_243 16 37 := by have := (show IV 16 16 16 from (by decide)); have := iv_242; rw [IV, i_244]; omega
                      refine k_iald X dX11_house_254 5 rfl (iv_in iv_245 (by decide) (by decide)) ?_
                      refine k_nm (fun z_246 ez_246 => ?_)
                      refine k_iast [(a_st, .inl (g.2.2.1, 44, .inl (upd uf_139 (z_237 : Int32).toNatClampNeg z_246))), (h0, .inr (11, [.int m_thrown2_1, .ref a_tape, .int 0, .int p0, .int u_66, .int u_67, .int u_69, .int u_70, .int u_71, .int u_73, .int u_63, .int m_trouble2_2, .ref a_letters, .int u_64, .int m_hasHouse, .ref a_r, .ref a_fresh, .ref a_st, .ref a_undone, .ref a_kept, .int m_undos, .int m_images, .ref a_from, .ref a_begin, .ref a_motor, .ref a_change, .ref a_startFrame, .ref a_changeFrame, .ref a_lostAt, .ref a_blackAt, .ref a_slips, .ref a_leftArc, .ref a_died, .ref a_arcs, .int m_bestSum, .int m_nearest, .int m_nearestTown, .ref a_there, .ref a_backAt, .ref a_sorted, .ref a_parts, .int m_seed1, .int m_darkNow])), (a_tape, .inl (g.2.2.1, 900, .inl d_tape)), (a_letters, .inl (g.2.2.1, 8, .inl uf_62)), (a_fresh, .inl (g.2.2.1, 311, .inl uf_59)), (a_r, .inl (g.2.2.1, 311, .inl f3_125))] X dX11_house_255 0 rfl (iv_in iv_239 (by decide) (by decide)) rfl ?_
                      refine (fun hg : ∀ fa_247 : Nat → Int32, Wk p l e _ s m args below meth c _ A g _ _ _ [(a_st, .inl (g.2.2.1, 44, .inl fa_247)), (h0, .inr (11, [.int m_thrown2_1, .ref a_tape, .int 0, .int p0, .int u_66, .int u_67, .int u_69, .int u_70, .int u_71, .int u_73, .int u_63, .int m_trouble2_2, .ref a_letters, .int u_64, .int m_hasHouse, .ref a_r, .ref a_fresh, .ref a_st, .ref a_undone, .ref a_kept, .int m_undos, .int m_images, .ref a_from, .ref a_begin, .ref a_motor, .ref a_change, .ref a_startFrame, .ref a_changeFrame, .ref a_lostAt, .ref a_blackAt, .ref a_slips, .ref a_leftArc, .ref a_died, .ref a_arcs, .int m_bestSum, .int m_nearest, .int m_nearestTown, .ref a_there, .ref a_backAt, .ref a_sorted, .ref a_parts, .int m_seed1, .int m_darkNow])), (a_tape, .inl (g.2.2.1, 900, .inl d_tape)), (a_letters, .inl (g.2.2.1, 8, .inl uf_62)), (a_fresh, .inl (g.2.2.1, 311, .inl uf_59)), (a_r, .inl (g.2.2.1, 311, .inl f3_125))] _ _ _ => hg _) (fun fa_247 => ?_)
                      refine k_aload_n X dX11_house_256 1 rfl ?_
                      refine k_get (ci := 11) X inlX11 rfl 17 (by decide) dX11_house_257 mw172 1 rfl rfl ?_
                      refine k_bipush (v := 8) X dX11_house_260 (by decide) ?_
                      refine k_iload_n X dX11_house_262 0 rfl ?_
                      refine k_iadd X dX11_house_263 ?_
                      refine k_nm (fun z_248 ez_248 => ?_)
                      have i_249 : z_248.toInt = 8 + u_140.toInt := in_add ez_248 (show IV 8 8 8 from (by decide)) iv_235 (by decide) (by decide)
                      have iv_250 : IV z_248 8 15 := by have := (show IV 8 8 8 from (by decide)); have := iv_235; rw [IV, i_249]; omega
                      refine k_aload_n X dX11_house_264 1 rfl ?_
                      refine k_get (ci := 11) X inlX11 rfl 15 (by decide) dX11_house_265 mw170 1 rfl rfl ?_
                      refine k_bipush (v := 16) X dX11_house_268 (by decide) ?_
                      refine k_iconst (v := 3) X dX11_house_270 (by decide) ?_
                      refine k_iload_n X dX11_house_271 0 rfl ?_
                      refine k_imul X dX11_house_272 ?_
                      refine k_to z_240 ez_240.symm ?_
                      refine k_iadd X dX11_house_273 ?_
                      refine k_to z_243 ez_243.symm ?_
                      refine k_iconst (v := 1) X dX11_house_274 (by decide) ?_
                      refine k_iadd X dX11_house_275 ?_
                      refine k_nm (fun z_251 ez_251 => ?_)
                      have i_252 : z_251.toInt = z_243.toInt + 1 := in_add ez_251 iv_245 (show IV 1 1 1 from (by decide)) (by decide) (by decide)
                      have iv_253 : IV z_251 17 38 := by have := iv_245; have := (show IV 1 1 1 from (by decide)); rw [IV, i_252]; omega
                      refine k_iald X dX11_house_276 5 rfl (iv_in iv_253 (by decide) (by decide)) ?_
                      refine k_nm (fun z_254 ez_254 => ?_)
                      refine k_iast [(a_st, .inl (g.2.2.1, 44, .inl (upd fa_247 (z_248 : Int32).toNatClampNeg z_254))), (h0, .inr (11, [.int m_thrown2_1, .ref a_tape, .int 0, .int p0, .int u_66, .int u_67, .int u_69, .int u_70, .int u_71, .int u_73, .int u_63, .int m_trouble2_2, .ref a_letters, .int u_64, .int m_hasHouse, .ref a_r, .ref a_fresh, .ref a_st, .ref a_undone, .ref a_kept, .int m_undos, .int m_images, .ref a_from, .ref a_begin, .ref a_motor, .ref a_change, .ref a_startFrame, .ref a_changeFrame, .ref a_lostAt, .ref a_blackAt, .ref a_slips, .ref a_leftArc, .ref a_died, .ref a_arcs, .int m_bestSum, .int m_nearest, .int m_nearestTown, .ref a_there, .ref a_backAt, .ref a_sorted, .ref a_parts, .int m_seed1, .int m_darkNow])), (a_tape, .inl (g.2.2.1, 900, .inl d_tape)), (a_letters, .inl (g.2.2.1, 8, .inl uf_62)), (a_fresh, .inl (g.2.2.1, 311, .inl uf_59)), (a_r, .inl (g.2.2.1, 311, .inl f3_125))] X dX11_house_277 0 rfl (iv_in iv_250 (by decide) (by decide)) rfl ?_
                      refine (fun hg : ∀ fa_255 : Nat → Int32, Wk p l e _ s m args below meth c _ A g _ _ _ [(a_st, .inl (g.2.2.1, 44, .inl fa_255)), (h0, .inr (11, [.int m_thrown2_1, .ref a_tape, .int 0, .int p0, .int u_66, .int u_67, .int u_69, .int u_70, .int u_71, .int u_73, .int u_63, .int m_trouble2_2, .ref a_letters, .int u_64, .int m_hasHouse, .ref a_r, .ref a_fresh, .ref a_st, .ref a_undone, .ref a_kept, .int m_undos, .int m_images, .ref a_from, .ref a_begin, .ref a_motor, .ref a_change, .ref a_startFrame, .ref a_changeFrame, .ref a_lostAt, .ref a_blackAt, .ref a_slips, .ref a_leftArc, .ref a_died, .ref a_arcs, .int m_bestSum, .int m_nearest, .int m_nearestTown, .ref a_there, .ref a_backAt, .ref a_sorted, .ref a_parts, .int m_seed1, .int m_darkNow])), (a_tape, .inl (g.2.2.1, 900, .inl d_tape)), (a_letters, .inl (g.2.2.1, 8, .inl uf_62)), (a_fresh, .inl (g.2.2.1, 311, .inl uf_59)), (a_r, .inl (g.2.2.1, 311, .inl f3_125))] _ _ _ => hg _) (fun fa_255 => ?_)
                      obtain ⟨z_256, ez_256⟩ : ∃ y : Int32, u_140 + Int32.ofInt 1 = y := ⟨_, rfl⟩
                      refine k_iinc z_256 [(2, .int z_256), (0, .ref h0), (1, .int p0)] 0 X dX11_house_278 rfl ez_256 (by decide) rfl ?_
                      have i_257 : z_256.toInt = u_140.toInt + 1 := in_inc ez_256 (by decide) iv_235 (by decide) (by decide)
                      have iv_258 : IV z_256 1 8 := by have := iv_235; rw [IV, i_257]; omega
                      refine k_goto 226 X dX11_house_281 (by decide) ?_
                      exact ih_144 _ (by omega) fa_255 z_256 rfl (iv_w iv_258 (by decide) (by decide))
                  · skip
                    have j_259 : u_131.toInt < 44 := iv_nle h_136
                    have iv_260 : IV u_131 0 43 := iv_ltL (iv_nle h_136) hv_132 (show IV 44 44 44 from (by decide)) (by decide)
                    refine k_aload_n X dX11_house_211 1 rfl ?_
                    refine k_get (ci := 11) X inlX11 rfl 17 (by decide) dX11_house_212 mw172 1 rfl rfl ?_
                    refine k_iload_n X dX11_house_215 0 rfl ?_
                    refine k_iconst (v := 0) X dX11_house_216 (by decide) ?_
                    refine k_iast [(a_st, .inl (g.2.2.1, 44, .inl (upd uf_130 (u_131 : Int32).toNatClampNeg 0))), (h0, .inr (11, [.int m_thrown2_1, .ref a_tape, .int 0, .int p0, .int u_66, .int u_67, .int u_69, .int u_70, .int u_71, .int u_73, .int u_63, .int m_trouble2_2, .ref a_letters, .int u_64, .int m_hasHouse, .ref a_r, .ref a_fresh, .ref a_st, .ref a_undone, .ref a_kept, .int m_undos, .int m_images, .ref a_from, .ref a_begin, .ref a_motor, .ref a_change, .ref a_startFrame, .ref a_changeFrame, .ref a_lostAt, .ref a_blackAt, .ref a_slips, .ref a_leftArc, .ref a_died, .ref a_arcs, .int m_bestSum, .int m_nearest, .int m_nearestTown, .ref a_there, .ref a_backAt, .ref a_sorted, .ref a_parts, .int m_seed1, .int m_darkNow])), (a_tape, .inl (g.2.2.1, 900, .inl d_tape)), (a_letters, .inl (g.2.2.1, 8, .inl uf_62)), (a_fresh, .inl (g.2.2.1, 311, .inl uf_59)), (a_r, .inl (g.2.2.1, 311, .inl f3_125))] X dX11_house_217 0 rfl (iv_in iv_260 (by decide) (by decide)) rfl ?_
                    refine (fun hg : ∀ fa_261 : Nat → Int32, Wk p l e _ s m args below meth c _ A g _ _ _ [(a_st, .inl (g.2.2.1, 44, .inl fa_261)), (h0, .inr (11, [.int m_thrown2_1, .ref a_tape, .int 0, .int p0, .int u_66, .int u_67, .int u_69, .int u_70, .int u_71, .int u_73, .int u_63, .int m_trouble2_2, .ref a_letters, .int u_64, .int m_hasHouse, .ref a_r, .ref a_fresh, .ref a_st, .ref a_undone, .ref a_kept, .int m_undos, .int m_images, .ref a_from, .ref a_begin, .ref a_motor, .ref a_change, .ref a_startFrame, .ref a_changeFrame, .ref a_lostAt, .ref a_blackAt, .ref a_slips, .ref a_leftArc, .ref a_died, .ref a_arcs, .int m_bestSum, .int m_nearest, .int m_nearestTown, .ref a_there, .ref a_backAt, .ref a_sorted, .ref a_parts, .int m_seed1, .int m_darkNow])), (a_tape, .inl (g.2.2.1, 900, .inl d_tape)), (a_letters, .inl (g.2.2.1, 8, .inl uf_62)), (a_fresh, .inl (g.2.2.1, 311, .inl uf_59)), (a_r, .inl (g.2.2.1, 311, .inl f3_125))] _ _ _ => hg _) (fun fa_261 => ?_)
                    obtain ⟨z_262, ez_262⟩ : ∃ y : Int32, u_131 + Int32.ofInt 1 = y := ⟨_, rfl⟩
                    refine k_iinc z_262 [(2, .int z_262), (0, .ref h0), (1, .int p0)] 0 X dX11_house_218 rfl ez_262 (by decide) rfl ?_
                    have i_263 : z_262.toInt = u_131.toInt + 1 := in_inc ez_262 (by decide) iv_260 (by decide) (by decide)
                    have iv_264 : IV z_262 1 44 := by have := iv_260; rw [IV, i_263]; omega
                    refine k_goto 205 X dX11_house_221 (by decide) ?_
                    exact ih_135 _ (by omega) fa_261 z_262 rfl (iv_w iv_264 (by decide) (by decide))
                · skip
                  have iv_265 : IV z_119 0 0 := iv_meet iv_121 (iv_e h_122 (show IV 0 0 0 from (by decide))) (by decide) (by decide)
                  refine k_aload_n X dX11_house_164 1 rfl ?_
                  refine k_bipush (v := 6) X dX11_house_165 (by decide) ?_
                  refine k_aload_n X dX11_house_167 1 rfl ?_
                  refine k_get (ci := 11) X inlX11 rfl 4 (by decide) dX11_house_168 mw473 2 rfl rfl ?_
                  refine k_callVV (n := 2) (As := [.int 6, .int u_66]) (st := []) X [(h0, .inr (11, [.int m_thrown2_1, .ref a_tape, .int 0, .int p0, .int u_66, .int u_67, .int u_69, .int u_70, .int u_71, .int u_73, .int u_63, .int m_trouble2_2, .ref a_letters, .int u_64, .int m_hasHouse, .ref a_r, .ref a_fresh, .ref a_st, .ref a_undone, .ref a_kept, .int m_undos, .int m_images, .ref a_from, .ref a_begin, .ref a_motor, .ref a_change, .ref a_startFrame, .ref a_changeFrame, .ref a_lostAt, .ref a_blackAt, .ref a_slips, .ref a_leftArc, .ref a_died, .ref a_arcs, .int m_bestSum, .int m_nearest, .int m_nearestTown, .ref a_there, .ref a_backAt, .ref a_sorted, .ref a_parts, .int m_seed1, .int m_darkNow]))] [(a_r, .inl (g.2.2.1, 311, .inl d_r)), (a_st, .inl (g.2.2.1, 44, .inl d_st)), (a_tape, .inl (g.2.2.1, 900, .inl d_tape)), (a_letters, .inl (g.2.2.1, 8, .inl uf_62)), (a_fresh, .inl (g.2.2.1, 311, .inl uf_59))] [2] [0, 1, 3, 4, 5] (m_bad l g h0 6 u_66 m_thrown2_1 a_tape 0 p0 u_66 u_67 u_69 u_70 u_71 u_73 u_63 m_trouble2_2 a_letters u_64 m_hasHouse a_r a_fresh a_st a_undone a_kept m_undos m_images a_from a_begin a_motor a_change a_startFrame a_changeFrame a_lostAt a_blackAt a_slips a_leftArc a_died a_arcs m_bestSum m_nearest m_nearestTown a_there a_backAt a_sorted a_parts m_seed1 m_darkNow (iv_w iv_86 (by decide) (by decide))) dX11_house_171 mw519 mw520 mw521 mw5 mw522 rfl 11 rfl rfl 0 _ rfl (by unfold yOk; decide) rfl (Nat.le_of_ble_eq_true rfl) (Nat.le_of_ble_eq_true rfl) (Nat.le_of_ble_eq_true rfl) (Nat.le_of_ble_eq_true rfl) (Nat.le_of_ble_eq_true rfl) rfl rfl (by decide) rfl (by decide) (by decide) ?_
                  rintro w ⟨m_failed2_266, m_fault2_267, m_place2_268, iv_270, rfl⟩
                  refine k_ws [(a_r, .inl (g.2.2.1, 311, .inl d_r)), (a_st, .inl (g.2.2.1, 44, .inl d_st)), (a_tape, .inl (g.2.2.1, 900, .inl d_tape)), (a_letters, .inl (g.2.2.1, 8, .inl uf_62)), (a_fresh, .inl (g.2.2.1, 311, .inl uf_59)), (h0, .inr (11, [.int m_thrown2_1, .ref a_tape, .int 0, .int p0, .int u_66, .int u_67, .int u_69, .int u_70, .int u_71, .int m_fault2_267, .int m_place2_268, .int m_trouble2_2, .ref a_letters, .int m_failed2_266, .int m_hasHouse, .ref a_r, .ref a_fresh, .ref a_st, .ref a_undone, .ref a_kept, .int m_undos, .int m_images, .ref a_from, .ref a_begin, .ref a_motor, .ref a_change, .ref a_startFrame, .ref a_changeFrame, .ref a_lostAt, .ref a_blackAt, .ref a_slips, .ref a_leftArc, .ref a_died, .ref a_arcs, .int m_bestSum, .int m_nearest, .int m_nearestTown, .ref a_there, .ref a_backAt, .ref a_sorted, .ref a_parts, .int m_seed1, .int m_darkNow]))] rfl ?_
                  refine k_aload_n X dX11_house_174 1 rfl ?_
                  refine k_get (ci := 11) X inlX11 rfl 13 (by decide) dX11_house_175 mw469 5 rfl rfl ?_
                  refine k_if_eq 187 X dX11_house_178 (by decide) (fun h_271 => (iv_eqN h_271 iv_270 (show IV 0 0 0 from (by decide)) (by decide)).elim) (fun h_271 => ?_)
                  refine k_aload_n X dX11_house_181 1 rfl ?_
                  refine k_iconst (v := 4) X dX11_house_182 (by decide) ?_
                  refine k_callVI (n := 1) (As := [.int 4]) (st := []) X [(h0, .inr (11, [.int m_thrown2_1, .ref a_tape, .int 0, .int p0, .int u_66, .int u_67, .int u_69, .int u_70, .int u_71, .int m_fault2_267, .int m_place2_268, .int m_trouble2_2, .ref a_letters, .int m_failed2_266, .int m_hasHouse, .ref a_r, .ref a_fresh, .ref a_st, .ref a_undone, .ref a_kept, .int m_undos, .int m_images, .ref a_from, .ref a_begin, .ref a_motor, .ref a_change, .ref a_startFrame, .ref a_changeFrame, .ref a_lostAt, .ref a_blackAt, .ref a_slips, .ref a_leftArc, .ref a_died, .ref a_arcs, .int m_bestSum, .int m_nearest, .int m_nearestTown, .ref a_there, .ref a_backAt, .ref a_sorted, .ref a_parts, .int m_seed1, .int m_darkNow]))] [(a_r, .inl (g.2.2.1, 311, .inl d_r)), (a_st, .inl (g.2.2.1, 44, .inl d_st)), (a_tape, .inl (g.2.2.1, 900, .inl d_tape)), (a_letters, .inl (g.2.2.1, 8, .inl uf_62)), (a_fresh, .inl (g.2.2.1, 311, .inl uf_59))] [5] [0, 1, 2, 3, 4] (m_no l g h0 4 m_thrown2_1 a_tape 0 p0 u_66 u_67 u_69 u_70 u_71 m_fault2_267 m_place2_268 m_trouble2_2 a_letters m_failed2_266 m_hasHouse a_r a_fresh a_st a_undone a_kept m_undos m_images a_from a_begin a_motor a_change a_startFrame a_changeFrame a_lostAt a_blackAt a_slips a_leftArc a_died a_arcs m_bestSum m_nearest m_nearestTown a_there a_backAt a_sorted a_parts m_seed1 m_darkNow) dX11_house_183 mw485 mw486 mw487 mw5 mw488 rfl 11 rfl rfl 0 _ rfl (by unfold yOk; decide) rfl (Nat.le_of_ble_eq_true rfl) (Nat.le_of_ble_eq_true rfl) (Nat.le_of_ble_eq_true rfl) (Nat.le_of_ble_eq_true rfl) (Nat.le_of_ble_eq_true rfl) rfl rfl (by decide) rfl (by decide) (by decide) ?_
                  rintro r_273 w ⟨m_trouble2_272, iv_274, rfl⟩
                  refine k_ws [(a_r, .inl (g.2.2.1, 311, .inl d_r)), (a_st, .inl (g.2.2.1, 44, .inl d_st)), (a_tape, .inl (g.2.2.1, 900, .inl d_tape)), (a_letters, .inl (g.2.2.1, 8, .inl uf_62)), (a_fresh, .inl (g.2.2.1, 311, .inl uf_59)), (h0, .inr (11, [.int m_thrown2_1, .ref a_tape, .int 0, .int p0, .int u_66, .int u_67, .int u_69, .int u_70, .int u_71, .int m_fault2_267, .int m_place2_268, .int m_trouble2_272, .ref a_letters, .int m_failed2_266, .int m_hasHouse, .ref a_r, .ref a_fresh, .ref a_st, .ref a_undone, .ref a_kept, .int m_undos, .int m_images, .ref a_from, .ref a_begin, .ref a_motor, .ref a_change, .ref a_startFrame, .ref a_changeFrame, .ref a_lostAt, .ref a_blackAt, .ref a_slips, .ref a_leftArc, .ref a_died, .ref a_arcs, .int m_bestSum, .int m_nearest, .int m_nearestTown, .ref a_there, .ref a_backAt, .ref a_sorted, .ref a_parts, .int m_seed1, .int m_darkNow]))] rfl ?_
                  exact k_iret X hr dX11_house_186 (Nat.le_of_ble_eq_true rfl) (Nat.le_of_ble_eq_true rfl) [5, 2, 3, 0, 4, 1] (by decide) rfl rfl ⟨u_66, u_67, m_failed2_266, m_fault2_267, uf_59, m_hasHouse, m_images, uf_62, u_71, m_place2_268, d_r, p0, d_st, 0, m_thrown2_1, u_69, m_trouble2_272, m_undos, u_70, (iv_w hv_68 (by decide) (by decide)), (iv_w iv_270 (by decide) (by decide)), (iv_w hv_m_hasHouse (by decide) (by decide)), (iv_w hv_m_images (by decide) (by decide)), (iv_w hv_72 (by decide) (by decide)), (iv_w iv_14 (by decide) (by decide)), (iv_w (show IV 0 0 0 from (by decide)) (by decide) (by decide)), (iv_w hv_m_undos (by decide) (by decide)), hp_d_r, hp_60, (by refine ⟨fun q => ?_, fun q => ?_⟩ <;> first | rfl | (exfalso; omega)), hr_0, rfl⟩
          · skip
            refine k_aload_n X dX11_house_118 1 rfl ?_
            refine k_iconst (v := 1) X dX11_house_119 (by decide) ?_
            refine k_aload_n X dX11_house_120 1 rfl ?_
            refine k_get (ci := 11) X inlX11 rfl 4 (by decide) dX11_house_121 mw473 2 rfl rfl ?_
            refine k_callVV (n := 2) (As := [.int 1, .int u_66]) (st := []) X [(h0, .inr (11, [.int m_thrown2_1, .ref a_tape, .int 0, .int p0, .int u_66, .int u_67, .int u_69, .int u_70, .int u_71, .int u_73, .int u_63, .int m_trouble2_2, .ref a_letters, .int u_64, .int m_hasHouse, .ref a_r, .ref a_fresh, .ref a_st, .ref a_undone, .ref a_kept, .int m_undos, .int m_images, .ref a_from, .ref a_begin, .ref a_motor, .ref a_change, .ref a_startFrame, .ref a_changeFrame, .ref a_lostAt, .ref a_blackAt, .ref a_slips, .ref a_leftArc, .ref a_died, .ref a_arcs, .int m_bestSum, .int m_nearest, .int m_nearestTown, .ref a_there, .ref a_backAt, .ref a_sorted, .ref a_parts, .int m_seed1, .int m_darkNow]))] [(a_r, .inl (g.2.2.1, 311, .inl d_r)), (a_st, .inl (g.2.2.1, 44, .inl d_st)), (a_tape, .inl (g.2.2.1, 900, .inl d_tape)), (a_letters, .inl (g.2.2.1, 8, .inl uf_62)), (a_fresh, .inl (g.2.2.1, 311, .inl uf_59))] [2] [0, 1, 3, 4, 5] (m_bad l g h0 1 u_66 m_thrown2_1 a_tape 0 p0 u_66 u_67 u_69 u_70 u_71 u_73 u_63 m_trouble2_2 a_letters u_64 m_hasHouse a_r a_fresh a_st a_undone a_kept m_undos m_images a_from a_begin a_motor a_change a_startFrame a_changeFrame a_lostAt a_blackAt a_slips a_leftArc a_died a_arcs m_bestSum m_nearest m_nearestTown a_there a_backAt a_sorted a_parts m_seed1 m_darkNow (iv_w iv_86 (by decide) (by decide))) dX11_house_124 mw519 mw520 mw521 mw5 mw522 rfl 11 rfl rfl 0 _ rfl (by unfold yOk; decide) rfl (Nat.le_of_ble_eq_true rfl) (Nat.le_of_ble_eq_true rfl) (Nat.le_of_ble_eq_true rfl) (Nat.le_of_ble_eq_true rfl) (Nat.le_of_ble_eq_true rfl) rfl rfl (by decide) rfl (by decide) (by decide) ?_
            rintro w ⟨m_failed2_275, m_fault2_276, m_place2_277, iv_279, rfl⟩
            refine k_ws [(a_r, .inl (g.2.2.1, 311, .inl d_r)), (a_st, .inl (g.2.2.1, 44, .inl d_st)), (a_tape, .inl (g.2.2.1, 900, .inl d_tape)), (a_letters, .inl (g.2.2.1, 8, .inl uf_62)), (a_fresh, .inl (g.2.2.1, 311, .inl uf_59)), (h0, .inr (11, [.int m_thrown2_1, .ref a_tape, .int 0, .int p0, .int u_66, .int u_67, .int u_69, .int u_70, .int u_71, .int m_fault2_276, .int m_place2_277, .int m_trouble2_2, .ref a_letters, .int m_failed2_275, .int m_hasHouse, .ref a_r, .ref a_fresh, .ref a_st, .ref a_undone, .ref a_kept, .int m_undos, .int m_images, .ref a_from, .ref a_begin, .ref a_motor, .ref a_change, .ref a_startFrame, .ref a_changeFrame, .ref a_lostAt, .ref a_blackAt, .ref a_slips, .ref a_leftArc, .ref a_died, .ref a_arcs, .int m_bestSum, .int m_nearest, .int m_nearestTown, .ref a_there, .ref a_backAt, .ref a_sorted, .ref a_parts, .int m_seed1, .int m_darkNow]))] rfl ?_
            refine k_aload_n X dX11_house_127 1 rfl ?_
            refine k_get (ci := 11) X inlX11 rfl 13 (by decide) dX11_house_128 mw469 5 rfl rfl ?_
            refine k_if_ne 174 X dX11_house_131 (by decide) (fun h_280 => ?_) (fun h_280 => (iv_eqN h_280 iv_279 (show IV 0 0 0 from (by decide)) (by decide)).elim)
            refine k_aload_n X dX11_house_174 1 rfl ?_
            refine k_get (ci := 11) X inlX11 rfl 13 (by decide) dX11_house_175 mw469 5 rfl rfl ?_
            refine k_if_eq 187 X dX11_house_178 (by decide) (fun h_281 => (iv_eqN h_281 iv_279 (show IV 0 0 0 from (by decide)) (by decide)).elim) (fun h_281 => ?_)
            refine k_aload_n X dX11_house_181 1 rfl ?_
            refine k_iconst (v := 4) X dX11_house_182 (by decide) ?_
            refine k_callVI (n := 1) (As := [.int 4]) (st := []) X [(h0, .inr (11, [.int m_thrown2_1, .ref a_tape, .int 0, .int p0, .int u_66, .int u_67, .int u_69, .int u_70, .int u_71, .int m_fault2_276, .int m_place2_277, .int m_trouble2_2, .ref a_letters, .int m_failed2_275, .int m_hasHouse, .ref a_r, .ref a_fresh, .ref a_st, .ref a_undone, .ref a_kept, .int m_undos, .int m_images, .ref a_from, .ref a_begin, .ref a_motor, .ref a_change, .ref a_startFrame, .ref a_changeFrame, .ref a_lostAt, .ref a_blackAt, .ref a_slips, .ref a_leftArc, .ref a_died, .ref a_arcs, .int m_bestSum, .int m_nearest, .int m_nearestTown, .ref a_there, .ref a_backAt, .ref a_sorted, .ref a_parts, .int m_seed1, .int m_darkNow]))] [(a_r, .inl (g.2.2.1, 311, .inl d_r)), (a_st, .inl (g.2.2.1, 44, .inl d_st)), (a_tape, .inl (g.2.2.1, 900, .inl d_tape)), (a_letters, .inl (g.2.2.1, 8, .inl uf_62)), (a_fresh, .inl (g.2.2.1, 311, .inl uf_59))] [5] [0, 1, 2, 3, 4] (m_no l g h0 4 m_thrown2_1 a_tape 0 p0 u_66 u_67 u_69 u_70 u_71 m_fault2_276 m_place2_277 m_trouble2_2 a_letters m_failed2_275 m_hasHouse a_r a_fresh a_st a_undone a_kept m_undos m_images a_from a_begin a_motor a_change a_startFrame a_changeFrame a_lostAt a_blackAt a_slips a_leftArc a_died a_arcs m_bestSum m_nearest m_nearestTown a_there a_backAt a_sorted a_parts m_seed1 m_darkNow) dX11_house_183 mw485 mw486 mw487 mw5 mw488 rfl 11 rfl rfl 0 _ rfl (by unfold yOk; decide) rfl (Nat.le_of_ble_eq_true rfl) (Nat.le_of_ble_eq_true rfl) (Nat.le_of_ble_eq_true rfl) (Nat.le_of_ble_eq_true rfl) (Nat.le_of_ble_eq_true rfl) rfl rfl (by decide) rfl (by decide) (by decide) ?_
            rintro r_283 w ⟨m_trouble2_282, iv_284, rfl⟩
            refine k_ws [(a_r, .inl (g.2.2.1, 311, .inl d_r)), (a_st, .inl (g.2.2.1, 44, .inl d_st)), (a_tape, .inl (g.2.2.1, 900, .inl d_tape)), (a_letters, .inl (g.2.2.1, 8, .inl uf_62)), (a_fresh, .inl (g.2.2.1, 311, .inl uf_59)), (h0, .inr (11, [.int m_thrown2_1, .ref a_tape, .int 0, .int p0, .int u_66, .int u_67, .int u_69, .int u_70, .int u_71, .int m_fault2_276, .int m_place2_277, .int m_trouble2_282, .ref a_letters, .int m_failed2_275, .int m_hasHouse, .ref a_r, .ref a_fresh, .ref a_st, .ref a_undone, .ref a_kept, .int m_undos, .int m_images, .ref a_from, .ref a_begin, .ref a_motor, .ref a_change, .ref a_startFrame, .ref a_changeFrame, .ref a_lostAt, .ref a_blackAt, .ref a_slips, .ref a_leftArc, .ref a_died, .ref a_arcs, .int m_bestSum, .int m_nearest, .int m_nearestTown, .ref a_there, .ref a_backAt, .ref a_sorted, .ref a_parts, .int m_seed1, .int m_darkNow]))] rfl ?_
            exact k_iret X hr dX11_house_186 (Nat.le_of_ble_eq_true rfl) (Nat.le_of_ble_eq_true rfl) [5, 2, 3, 0, 4, 1] (by decide) rfl rfl ⟨u_66, u_67, m_failed2_275, m_fault2_276, uf_59, m_hasHouse, m_images, uf_62, u_71, m_place2_277, d_r, p0, d_st, 0, m_thrown2_1, u_69, m_trouble2_282, m_undos, u_70, (iv_w hv_68 (by decide) (by decide)), (iv_w iv_279 (by decide) (by decide)), (iv_w hv_m_hasHouse (by decide) (by decide)), (iv_w hv_m_images (by decide) (by decide)), (iv_w hv_72 (by decide) (by decide)), (iv_w iv_14 (by decide) (by decide)), (iv_w (show IV 0 0 0 from (by decide)) (by decide) (by decide)), (iv_w hv_m_undos (by decide) (by decide)), hp_d_r, hp_60, (by refine ⟨fun q => ?_, fun q => ?_⟩ <;> first | rfl | (exfalso; omega)), hr_0, rfl⟩
        · skip
          have iv_285 : IV u_69 59 59 := iv_meet (iv_any u_69) (iv_e h_87 (show IV 59 59 59 from (by decide))) (by decide) (by decide)
          refine k_aload_n X dX11_house_93 1 rfl ?_
          refine k_callVV (n := 0) (As := []) (st := []) X [(h0, .inr (11, [.int m_thrown2_1, .ref a_tape, .int 0, .int p0, .int u_66, .int u_67, .int u_69, .int u_70, .int u_71, .int u_73, .int u_63, .int m_trouble2_2, .ref a_letters, .int u_64, .int m_hasHouse, .ref a_r, .ref a_fresh, .ref a_st, .ref a_undone, .ref a_kept, .int m_undos, .int m_images, .ref a_from, .ref a_begin, .ref a_motor, .ref a_change, .ref a_startFrame, .ref a_changeFrame, .ref a_lostAt, .ref a_blackAt, .ref a_slips, .ref a_leftArc, .ref a_died, .ref a_arcs, .int m_bestSum, .int m_nearest, .int m_nearestTown, .ref a_there, .ref a_backAt, .ref a_sorted, .ref a_parts, .int m_seed1, .int m_darkNow])), (a_tape, .inl (g.2.2.1, 900, .inl d_tape)), (a_letters, .inl (g.2.2.1, 8, .inl uf_62))] [(a_r, .inl (g.2.2.1, 311, .inl d_r)), (a_st, .inl (g.2.2.1, 44, .inl d_st)), (a_fresh, .inl (g.2.2.1, 311, .inl uf_59))] [2, 3, 4] [0, 1, 5] (m_next l g h0 m_thrown2_1 a_tape 0 p0 u_66 u_67 u_69 u_70 u_71 u_73 u_63 m_trouble2_2 a_letters u_64 m_hasHouse a_r a_fresh a_st a_undone a_kept m_undos m_images a_from a_begin a_motor a_change a_startFrame a_changeFrame a_lostAt a_blackAt a_slips a_leftArc a_died a_arcs m_bestSum m_nearest m_nearestTown a_there a_backAt a_sorted a_parts m_seed1 m_darkNow d_tape uf_62 (iv_w iv_14 (by decide) (by decide)) (iv_w hv_68 (by decide) (by decide)) (iv_w hv_72 (by decide) (by decide))) dX11_house_94 mw489 mw490 mw491 mw5 mw492 rfl 11 rfl rfl 0 _ rfl (by unfold yOk; decide) rfl (Nat.le_of_ble_eq_true rfl) (Nat.le_of_ble_eq_true rfl) (Nat.le_of_ble_eq_true rfl) (Nat.le_of_ble_eq_true rfl) (Nat.le_of_ble_eq_true rfl) rfl rfl (by decide) rfl (by decide) (by decide) ?_
          rintro w ⟨m_at2_286, m_end2_287, d_letters2_288, m_nameSize2_289, m_token2_290, m_whole2_291, iv_293, iv_294, hq_295, hq_296, hk_297, rfl⟩
          refine k_ws [(a_r, .inl (g.2.2.1, 311, .inl d_r)), (a_st, .inl (g.2.2.1, 44, .inl d_st)), (a_fresh, .inl (g.2.2.1, 311, .inl uf_59)), (h0, .inr (11, [.int m_thrown2_1, .ref a_tape, .int 0, .int p0, .int m_at2_286, .int m_end2_287, .int m_token2_290, .int m_whole2_291, .int m_nameSize2_289, .int u_73, .int u_63, .int m_trouble2_2, .ref a_letters, .int u_64, .int m_hasHouse, .ref a_r, .ref a_fresh, .ref a_st, .ref a_undone, .ref a_kept, .int m_undos, .int m_images, .ref a_from, .ref a_begin, .ref a_motor, .ref a_change, .ref a_startFrame, .ref a_changeFrame, .ref a_lostAt, .ref a_blackAt, .ref a_slips, .ref a_leftArc, .ref a_died, .ref a_arcs, .int m_bestSum, .int m_nearest, .int m_nearestTown, .ref a_there, .ref a_backAt, .ref a_sorted, .ref a_parts, .int m_seed1, .int m_darkNow])), (a_tape, .inl (g.2.2.1, 900, .inl d_tape)), (a_letters, .inl (g.2.2.1, 8, .inl d_letters2_288))] rfl ?_
          refine k_aload_n X dX11_house_97 1 rfl ?_
          refine k_callVV (n := 0) (As := []) (st := []) X [(h0, .inr (11, [.int m_thrown2_1, .ref a_tape, .int 0, .int p0, .int m_at2_286, .int m_end2_287, .int m_token2_290, .int m_whole2_291, .int m_nameSize2_289, .int u_73, .int u_63, .int m_trouble2_2, .ref a_letters, .int u_64, .int m_hasHouse, .ref a_r, .ref a_fresh, .ref a_st, .ref a_undone, .ref a_kept, .int m_undos, .int m_images, .ref a_from, .ref a_begin, .ref a_motor, .ref a_change, .ref a_startFrame, .ref a_changeFrame, .ref a_lostAt, .ref a_blackAt, .ref a_slips, .ref a_leftArc, .ref a_died, .ref a_arcs, .int m_bestSum, .int m_nearest, .int m_nearestTown, .ref a_there, .ref a_backAt, .ref a_sorted, .ref a_parts, .int m_seed1, .int m_darkNow])), (a_tape, .inl (g.2.2.1, 900, .inl d_tape)), (a_letters, .inl (g.2.2.1, 8, .inl d_letters2_288)), (a_fresh, .inl (g.2.2.1, 311, .inl uf_59))] [(a_r, .inl (g.2.2.1, 311, .inl d_r)), (a_st, .inl (g.2.2.1, 44, .inl d_st))] [3, 4, 5, 2] [0, 1] (m_readLine l g h0 m_thrown2_1 a_tape 0 p0 m_at2_286 m_end2_287 m_token2_290 m_whole2_291 m_nameSize2_289 u_73 u_63 m_trouble2_2 a_letters u_64 m_hasHouse a_r a_fresh a_st a_undone a_kept m_undos m_images a_from a_begin a_motor a_change a_startFrame a_changeFrame a_lostAt a_blackAt a_slips a_leftArc a_died a_arcs m_bestSum m_nearest m_nearestTown a_there a_backAt a_sorted a_parts m_seed1 m_darkNow d_tape d_letters2_288 uf_59 (iv_w iv_14 (by decide) (by decide)) (iv_w iv_293 (by decide) (by decide)) (iv_w iv_294 (by decide) (by decide)) (iv_w iv_86 (by decide) (by decide)) hp_60 hT_61 hk_297) dX11_house_98 mw505 mw506 mw507 mw5 mw508 rfl 11 rfl rfl 0 _ rfl (by unfold yOk; decide) rfl (Nat.le_of_ble_eq_true rfl) (Nat.le_of_ble_eq_true rfl) (Nat.le_of_ble_eq_true rfl) (Nat.le_of_ble_eq_true rfl) (Nat.le_of_ble_eq_true rfl) rfl rfl (by decide) rfl (by decide) (by decide) ?_
          rintro w ⟨m_at2_298, m_end2_299, m_failed2_300, m_fault2_301, d_fresh2_302, d_letters2_303, m_nameSize2_304, m_place2_305, m_token2_306, m_whole2_307, iv_309, iv_310, iv_311, hp_312, hq_313, hq_314, hq_315, hk_316, rfl⟩
          refine k_ws [(a_r, .inl (g.2.2.1, 311, .inl d_r)), (a_st, .inl (g.2.2.1, 44, .inl d_st)), (h0, .inr (11, [.int m_thrown2_1, .ref a_tape, .int 0, .int p0, .int m_at2_298, .int m_end2_299, .int m_token2_306, .int m_whole2_307, .int m_nameSize2_304, .int m_fault2_301, .int m_place2_305, .int m_trouble2_2, .ref a_letters, .int m_failed2_300, .int m_hasHouse, .ref a_r, .ref a_fresh, .ref a_st, .ref a_undone, .ref a_kept, .int m_undos, .int m_images, .ref a_from, .ref a_begin, .ref a_motor, .ref a_change, .ref a_startFrame, .ref a_changeFrame, .ref a_lostAt, .ref a_blackAt, .ref a_slips, .ref a_leftArc, .ref a_died, .ref a_arcs, .int m_bestSum, .int m_nearest, .int m_nearestTown, .ref a_there, .ref a_backAt, .ref a_sorted, .ref a_parts, .int m_seed1, .int m_darkNow])), (a_tape, .inl (g.2.2.1, 900, .inl d_tape)), (a_letters, .inl (g.2.2.1, 8, .inl d_letters2_303)), (a_fresh, .inl (g.2.2.1, 311, .inl d_fresh2_302))] rfl ?_
          refine k_goto 77 X dX11_house_101 (by decide) ?_
          exact ih_77 _ (by omega) d_fresh2_302 d_letters2_303 m_place2_305 m_failed2_300 m_at2_298 m_end2_299 m_token2_306 m_whole2_307 m_nameSize2_304 m_fault2_301 rfl hp_312 hq_315 (iv_w iv_310 (by decide) (by decide)) (iv_w iv_309 (by decide) (by decide)) (iv_w iv_311 (by decide) (by decide)) hk_316
    · skip
      have j_317 : u_18.toInt < 311 := iv_nle h_24
      have iv_318 : IV u_18 0 310 := iv_ltL (iv_nle h_24) hv_19 (show IV 311 311 311 from (by decide)) (by decide)
      refine k_aload_n X dX11_house_46 1 rfl ?_
      refine k_get (ci := 11) X inlX11 rfl 16 (by decide) dX11_house_47 mw171 5 rfl rfl ?_
      refine k_iload_n X dX11_house_50 0 rfl ?_
      refine k_iconst (v := 0) X dX11_house_51 (by decide) ?_
      refine k_iast [(a_tape, .inl (g.2.2.1, 900, .inl d_tape)), (a_letters, .inl (g.2.2.1, 8, .inl d_letters)), (a_r, .inl (g.2.2.1, 311, .inl d_r)), (a_fresh, .inl (g.2.2.1, 311, .inl (upd uf_16 (u_18 : Int32).toNatClampNeg 0))), (a_st, .inl (g.2.2.1, 44, .inl d_st)), (h0, .inr (11, [.int m_thrown2_1, .ref a_tape, .int 0, .int m_size, .int m_at, .int m_end, .int m_token, .int m_whole, .int m_nameSize, .int 0, .int m_place, .int m_trouble2_2, .ref a_letters, .int 0, .int m_hasHouse, .ref a_r, .ref a_fresh, .ref a_st, .ref a_undone, .ref a_kept, .int m_undos, .int m_images, .ref a_from, .ref a_begin, .ref a_motor, .ref a_change, .ref a_startFrame, .ref a_changeFrame, .ref a_lostAt, .ref a_blackAt, .ref a_slips, .ref a_leftArc, .ref a_died, .ref a_arcs, .int m_bestSum, .int m_nearest, .int m_nearestTown, .ref a_there, .ref a_backAt, .ref a_sorted, .ref a_parts, .int m_seed1, .int m_darkNow]))] X dX11_house_52 3 rfl (iv_in iv_318 (by decide) (by decide)) rfl ?_
      refine (fun hg : ∀ fa_319 : Nat → Int32, fa_319 = upd uf_16 (u_18 : Int32).toNatClampNeg 0 → RInv fa_319 → Wk p l e _ s m args below meth c _ A g _ _ _ [(a_tape, .inl (g.2.2.1, 900, .inl d_tape)), (a_letters, .inl (g.2.2.1, 8, .inl d_letters)), (a_r, .inl (g.2.2.1, 311, .inl d_r)), (a_fresh, .inl (g.2.2.1, 311, .inl fa_319)), (a_st, .inl (g.2.2.1, 44, .inl d_st)), (h0, .inr (11, [.int m_thrown2_1, .ref a_tape, .int 0, .int m_size, .int m_at, .int m_end, .int m_token, .int m_whole, .int m_nameSize, .int 0, .int m_place, .int m_trouble2_2, .ref a_letters, .int 0, .int m_hasHouse, .ref a_r, .ref a_fresh, .ref a_st, .ref a_undone, .ref a_kept, .int m_undos, .int m_images, .ref a_from, .ref a_begin, .ref a_motor, .ref a_change, .ref a_startFrame, .ref a_changeFrame, .ref a_lostAt, .ref a_blackAt, .ref a_slips, .ref a_leftArc, .ref a_died, .ref a_arcs, .int m_bestSum, .int m_nearest, .int m_nearestTown, .ref a_there, .ref a_backAt, .ref a_sorted, .ref a_parts, .int m_seed1, .int m_darkNow]))] _ _ _ => hg _ rfl (w_zero hp_17)) (fun fa_319 eq_322 hR_320 => ?_)
      obtain ⟨z_323, ez_323⟩ : ∃ y : Int32, u_18 + Int32.ofInt 1 = y := ⟨_, rfl⟩
      refine k_iinc z_323 [(2, .int z_323), (0, .ref h0), (1, .int p0)] 0 X dX11_house_53 rfl ez_323 (by decide) rfl ?_
      have i_324 : z_323.toInt = u_18.toInt + 1 := in_inc ez_323 (by decide) iv_318 (by decide) (by decide)
      have iv_325 : IV z_323 1 311 := by have := iv_318; rw [IV, i_324]; omega
      refine k_goto 39 X dX11_house_56 (by decide) ?_
      exact ih_23 _ (by omega) fa_319 z_323 rfl hR_320 (iv_w iv_325 (by decide) (by decide)) (z_step hx_20 eq_322 (by omega) (by omega))
  · skip
    have iv_326 : IV r_5 0 0 := iv_meet iv_6 (iv_e h_9 (show IV 0 0 0 from (by decide))) (by decide) (by decide)
    have hc_327 := hk_8 (iv_eq iv_326 (show IV 0 0 0 from (by decide)))
    have j_328 : p0.toInt < 0 ∨ m_taped.toInt < p0.toInt := hc_327
    refine k_aload_n X dX11_house_16 0 rfl ?_
    refine k_iconst (v := 2) X dX11_house_17 (by decide) ?_
    refine k_callVI (n := 1) (As := [.int 2]) (st := []) X [(h0, .inr (11, [.int m_thrown2_1, .ref a_tape, .int m_taped, .int m_size, .int m_at, .int m_end, .int m_token, .int m_whole, .int m_nameSize, .int m_fault, .int m_place, .int m_trouble2_2, .ref a_letters, .int m_failed, .int m_hasHouse, .ref a_r, .ref a_fresh, .ref a_st, .ref a_undone, .ref a_kept, .int m_undos, .int m_images, .ref a_from, .ref a_begin, .ref a_motor, .ref a_change, .ref a_startFrame, .ref a_changeFrame, .ref a_lostAt, .ref a_blackAt, .ref a_slips, .ref a_leftArc, .ref a_died, .ref a_arcs, .int m_bestSum, .int m_nearest, .int m_nearestTown, .ref a_there, .ref a_backAt, .ref a_sorted, .ref a_parts, .int m_seed1, .int m_darkNow]))] [(a_tape, .inl (g.2.2.1, 900, .inl d_tape)), (a_letters, .inl (g.2.2.1, 8, .inl d_letters)), (a_r, .inl (g.2.2.1, 311, .inl d_r)), (a_fresh, .inl (g.2.2.1, 311, .inl d_fresh)), (a_st, .inl (g.2.2.1, 44, .inl d_st))] [5] [0, 1, 2, 3, 4] (m_noF l g h0 2 m_thrown2_1 a_tape m_taped m_size m_at m_end m_token m_whole m_nameSize m_fault m_place m_trouble2_2 a_letters m_failed m_hasHouse a_r a_fresh a_st a_undone a_kept m_undos m_images a_from a_begin a_motor a_change a_startFrame a_changeFrame a_lostAt a_blackAt a_slips a_leftArc a_died a_arcs m_bestSum m_nearest m_nearestTown a_there a_backAt a_sorted a_parts m_seed1 m_darkNow (by decide)) dX11_house_18 mw485 mw486 mw487 mw5 mw488 rfl 11 rfl rfl 0 _ rfl (by unfold yOk; decide) rfl (Nat.le_of_ble_eq_true rfl) (Nat.le_of_ble_eq_true rfl) (Nat.le_of_ble_eq_true rfl) (Nat.le_of_ble_eq_true rfl) (Nat.le_of_ble_eq_true rfl) rfl rfl (by decide) rfl (by decide) (by decide) ?_
    rintro r_330 w ⟨m_trouble2_329, iv_331, hq_332, rfl⟩
    refine k_ws [(a_tape, .inl (g.2.2.1, 900, .inl d_tape)), (a_letters, .inl (g.2.2.1, 8, .inl d_letters)), (a_r, .inl (g.2.2.1, 311, .inl d_r)), (a_fresh, .inl (g.2.2.1, 311, .inl d_fresh)), (a_st, .inl (g.2.2.1, 44, .inl d_st)), (h0, .inr (11, [.int m_thrown2_1, .ref a_tape, .int m_taped, .int m_size, .int m_at, .int m_end, .int m_token, .int m_whole, .int m_nameSize, .int m_fault, .int m_place, .int m_trouble2_329, .ref a_letters, .int m_failed, .int m_hasHouse, .ref a_r, .ref a_fresh, .ref a_st, .ref a_undone, .ref a_kept, .int m_undos, .int m_images, .ref a_from, .ref a_begin, .ref a_motor, .ref a_change, .ref a_startFrame, .ref a_changeFrame, .ref a_lostAt, .ref a_blackAt, .ref a_slips, .ref a_leftArc, .ref a_died, .ref a_arcs, .int m_bestSum, .int m_nearest, .int m_nearestTown, .ref a_there, .ref a_backAt, .ref a_sorted, .ref a_parts, .int m_seed1, .int m_darkNow]))] rfl ?_
    exact k_iret X hr dX11_house_21 (Nat.le_of_ble_eq_true rfl) (Nat.le_of_ble_eq_true rfl) [5, 0, 1, 2, 3, 4] (by decide) rfl rfl ⟨m_at, m_end, m_failed, m_fault, d_fresh, m_hasHouse, m_images, d_letters, m_nameSize, m_place, d_r, m_size, d_st, m_taped, m_thrown2_1, m_token, m_trouble2_329, m_undos, m_whole, (iv_w hv_m_end (by decide) (by decide)), (iv_w hv_m_failed (by decide) (by decide)), (iv_w hv_m_hasHouse (by decide) (by decide)), (iv_w hv_m_images (by decide) (by decide)), (iv_w hv_m_nameSize (by decide) (by decide)), (iv_w hv_m_size (by decide) (by decide)), (iv_w hv_m_taped (by decide) (by decide)), (iv_w hv_m_undos (by decide) (by decide)), hp_d_r, hp_d_fresh, (by refine ⟨fun q => ?_, fun q => ?_⟩ <;> first | rfl | (exfalso; omega)), hr_0, rfl⟩
