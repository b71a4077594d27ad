theorem dL_law_276 : decode cL_law 276 = .ok (.aload_n 1, 1) := dk_43 (kat_4 20 rfl)
theorem dL_law_277 : decode cL_law 277 = .ok (.aload_n 0, 1) := dk_42 (kat_4 21 rfl)
theorem dL_law_278 : decode cL_law 278 = .ok (.iload 4, 2) := dk_21 (kat_4 22 rfl) (kat_4 23 rfl) rfl
theorem dL_law_280 : decode cL_law 280 = .ok (.iconst 1, 1) := dk_4 (kat_4 24 rfl)
theorem dL_law_281 : decode cL_law 281 = .ok (.iadd, 1) := dk_96 (kat_4 25 rfl)
theorem dL_law_282 : decode cL_law 282 = .ok (.iaload, 1) := dk_46 (kat_4 26 rfl)
theorem dL_law_283 : decode cL_law 283 = .ok (.aload_n 0, 1) := dk_42 (kat_4 27 rfl)
theorem dL_law_284 : decode cL_law 284 = .ok (.iload 4, 2) := dk_21 (kat_4 28 rfl) (kat_4 29 rfl) rfl
theorem dL_law_286 : decode cL_law 286 = .ok (.iconst 2, 1) := dk_5 (kat_4 30 rfl)
theorem dL_law_287 : decode cL_law 287 = .ok (.iadd, 1) := dk_96 (kat_4 31 rfl)
theorem dL_law_288 : decode cL_law 288 = .ok (.iaload, 1) := dk_46 (kat_4 32 rfl)
theorem dL_law_289 : decode cL_law 289 = .ok (.aload_n 0, 1) := dk_42 (kat_4 33 rfl)
theorem dL_law_290 : decode cL_law 290 = .ok (.iload 4, 2) := dk_21 (kat_4 34 rfl) (kat_4 35 rfl) rfl
theorem dL_law_292 : decode cL_law 292 = .ok (.iconst 3, 1) := dk_6 (kat_4 36 rfl)
theorem dL_law_293 : decode cL_law 293 = .ok (.iadd, 1) := dk_96 (kat_4 37 rfl)
theorem dL_law_294 : decode cL_law 294 = .ok (.iaload, 1) := dk_46 (kat_4 38 rfl)
theorem dL_law_295 : decode cL_law 295 = .ok (.aload_n 0, 1) := dk_42 (kat_4 39 rfl)
theorem dL_law_296 : decode cL_law 296 = .ok (.iload 4, 2) := dk_21 (kat_4 40 rfl) (kat_4 41 rfl) rfl
theorem dL_law_298 : decode cL_law 298 = .ok (.iconst 4, 1) := dk_7 (kat_4 42 rfl)
theorem dL_law_299 : decode cL_law 299 = .ok (.iadd, 1) := dk_96 (kat_4 43 rfl)
theorem dL_law_300 : decode cL_law 300 = .ok (.iaload, 1) := dk_46 (kat_4 44 rfl)
theorem dL_law_301 : decode cL_law 301 = .ok (.aload_n 0, 1) := dk_42 (kat_4 45 rfl)
theorem dL_law_302 : decode cL_law 302 = .ok (.iload 4, 2) := dk_21 (kat_4 46 rfl) (kat_4 47 rfl) rfl
theorem dL_law_304 : decode cL_law 304 = .ok (.iconst 5, 1) := dk_8 (kat_4 48 rfl)
theorem dL_law_305 : decode cL_law 305 = .ok (.iadd, 1) := dk_96 (kat_4 49 rfl)
theorem dL_law_306 : decode cL_law 306 = .ok (.iaload, 1) := dk_46 (kat_4 50 rfl)
theorem dL_law_307 : decode cL_law 307 = .ok (.invokevirtual 19, 3) := dk_182 (kat_4 51 rfl) (kat_4 52 rfl) (kat_4 53 rfl) rfl
theorem dL_law_310 : decode cL_law 310 = .ok (.pop, 1) := dk_87 (kat_4 54 rfl)
theorem dL_law_311 : decode cL_law 311 = .ok (.aload_n 2, 1) := dk_44 (kat_4 55 rfl)
theorem dL_law_312 : decode cL_law 312 = .ok (.aload_n 0, 1) := dk_42 (kat_4 56 rfl)
theorem dL_law_313 : decode cL_law 313 = .ok (.iload 4, 2) := dk_21 (kat_4 57 rfl) (kat_4 58 rfl) rfl
theorem dL_law_315 : decode cL_law 315 = .ok (.iconst 1, 1) := dk_4 (kat_4 59 rfl)
theorem dL_law_316 : decode cL_law 316 = .ok (.iadd, 1) := dk_96 (kat_4 60 rfl)
theorem dL_law_317 : decode cL_law 317 = .ok (.iaload, 1) := dk_46 (kat_4 61 rfl)
theorem dL_law_318 : decode cL_law 318 = .ok (.aload_n 0, 1) := dk_42 (kat_4 62 rfl)
theorem dL_law_319 : decode cL_law 319 = .ok (.iload 4, 2) := dk_21 (kat_4 63 rfl) (kat_5 0 rfl) rfl
theorem dL_law_321 : decode cL_law 321 = .ok (.iconst 2, 1) := dk_5 (kat_5 1 rfl)
theorem dL_law_322 : decode cL_law 322 = .ok (.iadd, 1) := dk_96 (kat_5 2 rfl)
theorem dL_law_323 : decode cL_law 323 = .ok (.iaload, 1) := dk_46 (kat_5 3 rfl)
theorem dL_law_324 : decode cL_law 324 = .ok (.aload_n 0, 1) := dk_42 (kat_5 4 rfl)
theorem dL_law_325 : decode cL_law 325 = .ok (.iload 4, 2) := dk_21 (kat_5 5 rfl) (kat_5 6 rfl) rfl
theorem dL_law_327 : decode cL_law 327 = .ok (.iconst 3, 1) := dk_6 (kat_5 7 rfl)
theorem dL_law_328 : decode cL_law 328 = .ok (.iadd, 1) := dk_96 (kat_5 8 rfl)
theorem dL_law_329 : decode cL_law 329 = .ok (.iaload, 1) := dk_46 (kat_5 9 rfl)
theorem dL_law_330 : decode cL_law 330 = .ok (.aload_n 0, 1) := dk_42 (kat_5 10 rfl)
theorem dL_law_331 : decode cL_law 331 = .ok (.iload 4, 2) := dk_21 (kat_5 11 rfl) (kat_5 12 rfl) rfl
theorem dL_law_333 : decode cL_law 333 = .ok (.iconst 4, 1) := dk_7 (kat_5 13 rfl)
theorem dL_law_334 : decode cL_law 334 = .ok (.iadd, 1) := dk_96 (kat_5 14 rfl)
theorem dL_law_335 : decode cL_law 335 = .ok (.iaload, 1) := dk_46 (kat_5 15 rfl)
theorem dL_law_336 : decode cL_law 336 = .ok (.aload_n 0, 1) := dk_42 (kat_5 16 rfl)
theorem dL_law_337 : decode cL_law 337 = .ok (.iload 4, 2) := dk_21 (kat_5 17 rfl) (kat_5 18 rfl) rfl
theorem dL_law_339 : decode cL_law 339 = .ok (.iconst 5, 1) := dk_8 (kat_5 19 rfl)
theorem dL_law_340 : decode cL_law 340 = .ok (.iadd, 1) := dk_96 (kat_5 20 rfl)
theorem dL_law_341 : decode cL_law 341 = .ok (.iaload, 1) := dk_46 (kat_5 21 rfl)
theorem dL_law_342 : decode cL_law 342 = .ok (.invokevirtual 23, 3) := dk_182 (kat_5 22 rfl) (kat_5 23 rfl) (kat_5 24 rfl) rfl
theorem dL_law_345 : decode cL_law 345 = .ok (.pop, 1) := dk_87 (kat_5 25 rfl)
theorem dL_law_346 : decode cL_law 346 = .ok (.goto 1716, 3) := dk_167 (kat_5 26 rfl) (kat_5 27 rfl) (kat_5 28 rfl) (by decide)
set_option maxHeartbeats 4000000 in
set_option maxRecDepth 100000 in
theorem law_c0 {p : Program} {l : Launch} {e : Env} {s : State} {m : MethodId} {below : List Frame} {meth : Method} {c : Code} {A : Nat → Prop} {g : Gx} {b L : Nat} {xs : Nat → Int32} {h0 mo lo n1 n2 : Nat} {fo : Nat → Int64} {u4 : Int32} {xtpd : Int32} {tpf : Nat → Int32} {yhnf : Nat → Int32} {yhtn : Int32} {yhtf : Nat → Int32} {yhjn : Int32} {yhjf : Nat → Int32} {yhmn : Int32} {yhmf : Nat → Int32} {yhbn : Int32} {yhbf : Nat → Int32} {yhsn : Int32} {yhsf : Nat → Int32} {yhcn : Int32} {yhcf : Nat → Int32} {zrn : Int32} {zmn : Int32} {zwn : Int32} {zpn : Int32} {zmd : Int32} {ztr : Int32} {zrf : Nat → Int32} {zmf : Nat → Int32} {zwf : Nat → Int32} {zpf : Nat → Int32} {kac : Int32} {knx : Int32} {kim : Int32} {cf : Nat → SC} {m_taped : Int32} {d_tape : Nat → Int32} {d_r : Nat → Int32} {d_st : Nat → Int32} {d_undone : Nat → Int32} {d_kept : Nat → Int32} {m_undos : Int32} {m_images : Int32} {m_hasHouse : Int32} {xw mw : va_W} (X : Cx p s m meth c #[Value.ref b] cL_law 7 RL A g) (hX : va_X b L xs s s.heap) (hbl : b < s.heap.size) (hbA : ¬ A b) (hi : 0 ≤ u4.toInt ∧ u4.toInt + 6 ≤ (L : Int)) (hL : L ≤ 3072) (h1 : n1 ≤ 601023) (h2 : n2 ≤ 7293028) (hlt : l.stackTraces = false) (hZ : kZ A s s.heap) (htsE : ∀ w ∈ wsE, w.before #[Value.ref b] s = true) (hx : XW g h0 xtpd tpf yhnf yhtn yhtf yhjn yhjf yhmn yhmf yhbn yhbf yhsn yhsf yhcn yhcf zrn zmn zwn zpn zmd ztr zrf zmf zwf zpf kac knx kim cf xw) (hm : MW g mo m_taped d_tape d_r d_st d_undone d_kept m_undos m_images m_hasHouse mw) (hR : LR xtpd tpf yhnf yhtn yhtf yhjn yhjf yhmn yhmf yhbn yhbf yhsn yhsf yhcn yhcf zrn zmn zwn zpn zmd ztr zrf zmf zwf zpf kac knx kim cf m_taped d_tape d_r d_st d_undone d_kept m_undos m_images m_hasHouse) (kk : ∀ (xtpd_2 : Int32) (tpf_2 : Nat → Int32) (yhnf_2 : Nat → Int32) (yhtn_2 : Int32) (yhtf_2 : Nat → Int32) (yhjn_2 : Int32) (yhjf_2 : Nat → Int32) (yhmn_2 : Int32) (yhmf_2 : Nat → Int32) (yhbn_2 : Int32) (yhbf_2 : Nat → Int32) (yhsn_2 : Int32) (yhsf_2 : Nat → Int32) (yhcn_2 : Int32) (yhcf_2 : Nat → Int32) (zrn_2 : Int32) (zmn_2 : Int32) (zwn_2 : Int32) (zpn_2 : Int32) (zmd_2 : Int32) (ztr_2 : Int32) (zrf_2 : Nat → Int32) (zmf_2 : Nat → Int32) (zwf_2 : Nat → Int32) (zpf_2 : Nat → Int32) (kac_2 : Int32) (knx_2 : Int32) (kim_2 : Int32) (cf_2 : Nat → SC) (m_taped_2 : Int32) (d_tape_2 : Nat → Int32) (d_r_2 : Nat → Int32) (d_st_2 : Nat → Int32) (d_undone_2 : Nat → Int32) (d_kept_2 : Nat → Int32) (m_undos_2 : Int32) (m_images_2 : Int32) (m_hasHouse_2 : Int32) (xw2 mw2 : va_W), XW g h0 xtpd_2 tpf_2 yhnf_2 yhtn_2 yhtf_2 yhjn_2 yhjf_2 yhmn_2 yhmf_2 yhbn_2 yhbf_2 yhsn_2 yhsf_2 yhcn_2 yhcf_2 zrn_2 zmn_2 zwn_2 zpn_2 zmd_2 ztr_2 zrf_2 zmf_2 zwf_2 zpf_2 kac_2 knx_2 kim_2 cf_2 xw2 → MW g mo m_taped_2 d_tape_2 d_r_2 d_st_2 d_undone_2 d_kept_2 m_undos_2 m_images_2 m_hasHouse_2 mw2 → LR xtpd_2 tpf_2 yhnf_2 yhtn_2 yhtf_2 yhjn_2 yhjf_2 yhmn_2 yhmf_2 yhbn_2 yhbf_2 yhsn_2 yhsf_2 yhcn_2 yhcf_2 zrn_2 zmn_2 zwn_2 zpn_2 zmd_2 ztr_2 zrf_2 zmf_2 zwf_2 zpf_2 kac_2 knx_2 kim_2 cf_2 m_taped_2 d_tape_2 d_r_2 d_st_2 d_undone_2 d_kept_2 m_undos_2 m_images_2 m_hasHouse_2 → Wk p l e room_1 s m #[Value.ref b] below meth c (lw_Z below #[Value.ref b] s) A g 7 n1 n2 (xw2 ++ (mw2 ++ [(cAJ g lo 1 fo)])) [(4, .int u4), (3, .ref lo), (2, .ref mo), (1, .ref h0), (0, .ref b)] 2062 []) : Wk p l e room_1 s m #[Value.ref b] below meth c (lw_Z below #[Value.ref b] s) A g 7 n1 n2 (xw ++ (mw ++ [(cAJ g lo 1 fo)])) [(4, .int u4), (3, .ref lo), (2, .ref mo), (1, .ref h0), (0, .ref b)] 276 [] := by
  have hiv : IV u4 0 3066 := ⟨hi.1, by omega⟩
  refine k_aload_n X dL_law_276 3 rfl ?_
  refine k_aload_n X dL_law_277 4 rfl ?_
  refine k_iload X dL_law_278 0 rfl ?_
  refine k_iconst (v := 1) X dL_law_280 (by decide) ?_
  refine k_iadd X dL_law_281 ?_
  refine k_nm (fun z_1 ez_1 => ?_)
  have i_2 : z_1.toInt = u4.toInt + 1 := in_add ez_1 hiv (show IV 1 1 1 from (by decide)) (by decide) (by decide)
  have iv_3 : IV z_1 1 3067 := by have := hiv; have := (show IV 1 1 1 from (by decide)); rw [IV, i_2]; omega
  refine k_sld X hX hbl hbA dL_law_282 (by rw [vp_in_iff]; have := iv_3; omega) ?_
  refine k_nm (fun a_4 ea_4 => ?_)
  refine k_aload_n X dL_law_283 4 rfl ?_
  refine k_iload X dL_law_284 0 rfl ?_
  refine k_iconst (v := 2) X dL_law_286 (by decide) ?_
  refine k_iadd X dL_law_287 ?_
  refine k_nm (fun z_5 ez_5 => ?_)
  have i_6 : z_5.toInt = u4.toInt + 2 := in_add ez_5 hiv (show IV 2 2 2 from (by decide)) (by decide) (by decide)
  have iv_7 : IV z_5 2 3068 := by have := hiv; have := (show IV 2 2 2 from (by decide)); rw [IV, i_6]; omega
  refine k_sld X hX hbl hbA dL_law_288 (by rw [vp_in_iff]; have := iv_7; omega) ?_
  refine k_nm (fun a_8 ea_8 => ?_)
  refine k_aload_n X dL_law_289 4 rfl ?_
  refine k_iload X dL_law_290 0 rfl ?_
  refine k_iconst (v := 3) X dL_law_292 (by decide) ?_
  refine k_iadd X dL_law_293 ?_
  refine k_nm (fun z_9 ez_9 => ?_)
  have i_10 : z_9.toInt = u4.toInt + 3 := in_add ez_9 hiv (show IV 3 3 3 from (by decide)) (by decide) (by decide)
  have iv_11 : IV z_9 3 3069 := by have := hiv; have := (show IV 3 3 3 from (by decide)); rw [IV, i_10]; omega
  refine k_sld X hX hbl hbA dL_law_294 (by rw [vp_in_iff]; have := iv_11; omega) ?_
  refine k_nm (fun a_12 ea_12 => ?_)
  refine k_aload_n X dL_law_295 4 rfl ?_
  refine k_iload X dL_law_296 0 rfl ?_
  refine k_iconst (v := 4) X dL_law_298 (by decide) ?_
  refine k_iadd X dL_law_299 ?_
  refine k_nm (fun z_13 ez_13 => ?_)
  have i_14 : z_13.toInt = u4.toInt + 4 := in_add ez_13 hiv (show IV 4 4 4 from (by decide)) (by decide) (by decide)
  have iv_15 : IV z_13 4 3070 := by have := hiv; have := (show IV 4 4 4 from (by decide)); rw [IV, i_14]; omega
  refine k_sld X hX hbl hbA dL_law_300 (by rw [vp_in_iff]; have := iv_15; omega) ?_
  refine k_nm (fun a_16 ea_16 => ?_)
  refine k_aload_n X dL_law_301 4 rfl ?_
  refine k_iload X dL_law_302 0 rfl ?_
  refine k_iconst (v := 5) X dL_law_304 (by decide) ?_
  refine k_iadd X dL_law_305 ?_
  refine k_nm (fun z_17 ez_17 => ?_)
  have i_18 : z_17.toInt = u4.toInt + 5 := in_add ez_17 hiv (show IV 5 5 5 from (by decide)) (by decide) (by decide)
  have iv_19 : IV z_17 5 3071 := by have := hiv; have := (show IV 5 5 5 from (by decide)); rw [IV, i_18]; omega
  refine k_sld X hX hbl hbA dL_law_306 (by rw [vp_in_iff]; have := iv_19; omega) ?_
  refine k_nm (fun a_20 ea_20 => ?_)
  refine lx_feed (st := []) a_4 a_8 a_12 a_16 a_20 X hx dL_law_307 mw191 (Nat.le_of_ble_eq_true rfl) (Nat.le_of_ble_eq_true rfl) (Nat.le_of_ble_eq_true rfl) (Nat.le_trans h1 (Nat.le_of_ble_eq_true rfl)) (Nat.le_trans h2 (Nat.le_of_ble_eq_true rfl)) (fun r_21 t_25 t_26 xw_22 hx_23 hr_24 => ?_)
  refine k_pop X dL_law_310 rfl ?_
  refine k_aload_n X dL_law_311 2 rfl ?_
  refine k_aload_n X dL_law_312 4 rfl ?_
  refine k_iload X dL_law_313 0 rfl ?_
  refine k_iconst (v := 1) X dL_law_315 (by decide) ?_
  refine k_iadd X dL_law_316 ?_
  refine k_to z_1 ez_1.symm ?_
  refine k_sld X hX hbl hbA dL_law_317 (by rw [vp_in_iff]; have := iv_3; omega) ?_
  refine k_to a_4 ea_4.symm ?_
  refine k_aload_n X dL_law_318 4 rfl ?_
  refine k_iload X dL_law_319 0 rfl ?_
  refine k_iconst (v := 2) X dL_law_321 (by decide) ?_
  refine k_iadd X dL_law_322 ?_
  refine k_to z_5 ez_5.symm ?_
  refine k_sld X hX hbl hbA dL_law_323 (by rw [vp_in_iff]; have := iv_7; omega) ?_
  refine k_to a_8 ea_8.symm ?_
  refine k_aload_n X dL_law_324 4 rfl ?_
  refine k_iload X dL_law_325 0 rfl ?_
  refine k_iconst (v := 3) X dL_law_327 (by decide) ?_
  refine k_iadd X dL_law_328 ?_
  refine k_to z_9 ez_9.symm ?_
  refine k_sld X hX hbl hbA dL_law_329 (by rw [vp_in_iff]; have := iv_11; omega) ?_
  refine k_to a_12 ea_12.symm ?_
  refine k_aload_n X dL_law_330 4 rfl ?_
  refine k_iload X dL_law_331 0 rfl ?_
  refine k_iconst (v := 4) X dL_law_333 (by decide) ?_
  refine k_iadd X dL_law_334 ?_
  refine k_to z_13 ez_13.symm ?_
  refine k_sld X hX hbl hbA dL_law_335 (by rw [vp_in_iff]; have := iv_15; omega) ?_
  refine k_to a_16 ea_16.symm ?_
  refine k_aload_n X dL_law_336 4 rfl ?_
  refine k_iload X dL_law_337 0 rfl ?_
  refine k_iconst (v := 5) X dL_law_339 (by decide) ?_
  refine k_iadd X dL_law_340 ?_
  refine k_to z_17 ez_17.symm ?_
  refine k_sld X hX hbl hbA dL_law_341 (by rw [vp_in_iff]; have := iv_19; omega) ?_
  refine k_to a_20 ea_20.symm ?_
  refine lm_feed (st := []) a_4 a_8 a_12 a_16 a_20 X hm dL_law_342 mw200 (Nat.le_of_ble_eq_true rfl) (Nat.le_of_ble_eq_true rfl) (Nat.le_of_ble_eq_true rfl) (Nat.le_trans h1 (Nat.le_of_ble_eq_true rfl)) (Nat.le_trans h2 (Nat.le_of_ble_eq_true rfl)) (fun r_27 t_31 t_32 mw_28 hm_29 hr_30 => ?_)
  refine k_pop X dL_law_345 rfl ?_
  refine k_goto 2062 X dL_law_346 (by decide) ?_
  exact kk _ _ _ _ _ _ _ _ _ _ _ _ _ _ _ _ _ _ _ _ _ _ _ _ _ _ _ _ _ _ _ _ _ _ _ _ _ _ _ _ hx_23 hm_29 (LR_feed hR hr_24 hr_30)

theorem dL_law_349 : decode cL_law 349 = .ok (.aload_n 1, 1) := dk_43 (kat_5 29 rfl)
theorem dL_law_350 : decode cL_law 350 = .ok (.aload_n 0, 1) := dk_42 (kat_5 30 rfl)
theorem dL_law_351 : decode cL_law 351 = .ok (.iload 4, 2) := dk_21 (kat_5 31 rfl) (kat_5 32 rfl) rfl
theorem dL_law_353 : decode cL_law 353 = .ok (.iconst 1, 1) := dk_4 (kat_5 33 rfl)
theorem dL_law_354 : decode cL_law 354 = .ok (.iadd, 1) := dk_96 (kat_5 34 rfl)
theorem dL_law_355 : decode cL_law 355 = .ok (.iaload, 1) := dk_46 (kat_5 35 rfl)
theorem dL_law_356 : decode cL_law 356 = .ok (.invokevirtual 24, 3) := dk_182 (kat_5 36 rfl) (kat_5 37 rfl) (kat_5 38 rfl) rfl
theorem dL_law_359 : decode cL_law 359 = .ok (.pop, 1) := dk_87 (kat_5 39 rfl)
theorem dL_law_360 : decode cL_law 360 = .ok (.aload_n 2, 1) := dk_44 (kat_5 40 rfl)
theorem dL_law_361 : decode cL_law 361 = .ok (.aload_n 0, 1) := dk_42 (kat_5 41 rfl)
theorem dL_law_362 : decode cL_law 362 = .ok (.iload 4, 2) := dk_21 (kat_5 42 rfl) (kat_5 43 rfl) rfl
theorem dL_law_364 : decode cL_law 364 = .ok (.iconst 1, 1) := dk_4 (kat_5 44 rfl)
theorem dL_law_365 : decode cL_law 365 = .ok (.iadd, 1) := dk_96 (kat_5 45 rfl)
theorem dL_law_366 : decode cL_law 366 = .ok (.iaload, 1) := dk_46 (kat_5 46 rfl)
theorem dL_law_367 : decode cL_law 367 = .ok (.invokevirtual 27, 3) := dk_182 (kat_5 47 rfl) (kat_5 48 rfl) (kat_5 49 rfl) rfl
theorem dL_law_370 : decode cL_law 370 = .ok (.pop, 1) := dk_87 (kat_5 50 rfl)
theorem dL_law_371 : decode cL_law 371 = .ok (.goto 1691, 3) := dk_167 (kat_5 51 rfl) (kat_5 52 rfl) (kat_5 53 rfl) (by decide)
set_option maxHeartbeats 4000000 in
set_option maxRecDepth 100000 in
theorem law_c1 {p : Program} {l : Launch} {e : Env} {s : State} {m : MethodId} {below : List Frame} {meth : Method} {c : Code} {A : Nat → Prop} {g : Gx} {b L : Nat} {xs : Nat → Int32} {h0 mo lo n1 n2 : Nat} {fo : Nat → Int64} {u4 : Int32} {xtpd : Int32} {tpf : Nat → Int32} {yhnf : Nat → Int32} {yhtn : Int32} {yhtf : Nat → Int32} {yhjn : Int32} {yhjf : Nat → Int32} {yhmn : Int32} {yhmf : Nat → Int32} {yhbn : Int32} {yhbf : Nat → Int32} {yhsn : Int32} {yhsf : Nat → Int32} {yhcn : Int32} {yhcf : Nat → Int32} {zrn : Int32} {zmn : Int32} {zwn : Int32} {zpn : Int32} {zmd : Int32} {ztr : Int32} {zrf : Nat → Int32} {zmf : Nat → Int32} {zwf : Nat → Int32} {zpf : Nat → Int32} {kac : Int32} {knx : Int32} {kim : Int32} {cf : Nat → SC} {m_taped : Int32} {d_tape : Nat → Int32} {d_r : Nat → Int32} {d_st : Nat → Int32} {d_undone : Nat → Int32} {d_kept : Nat → Int32} {m_undos : Int32} {m_images : Int32} {m_hasHouse : Int32} {xw mw : va_W} (X : Cx p s m meth c #[Value.ref b] cL_law 7 RL A g) (hX : va_X b L xs s s.heap) (hbl : b < s.heap.size) (hbA : ¬ A b) (hi : 0 ≤ u4.toInt ∧ u4.toInt + 6 ≤ (L : Int)) (hL : L ≤ 3072) (h1 : n1 ≤ 601023) (h2 : n2 ≤ 7293028) (hlt : l.stackTraces = false) (hZ : kZ A s s.heap) (htsE : ∀ w ∈ wsE, w.before #[Value.ref b] s = true) (hx : XW g h0 xtpd tpf yhnf yhtn yhtf yhjn yhjf yhmn yhmf yhbn yhbf yhsn yhsf yhcn yhcf zrn zmn zwn zpn zmd ztr zrf zmf zwf zpf kac knx kim cf xw) (hm : MW g mo m_taped d_tape d_r d_st d_undone d_kept m_undos m_images m_hasHouse mw) (hR : LR xtpd tpf yhnf yhtn yhtf yhjn yhjf yhmn yhmf yhbn yhbf yhsn yhsf yhcn yhcf zrn zmn zwn zpn zmd ztr zrf zmf zwf zpf kac knx kim cf m_taped d_tape d_r d_st d_undone d_kept m_undos m_images m_hasHouse) (kk : ∀ (xtpd_2 : Int32) (tpf_2 : Nat → Int32) (yhnf_2 : Nat → Int32) (yhtn_2 : Int32) (yhtf_2 : Nat → Int32) (yhjn_2 : Int32) (yhjf_2 : Nat → Int32) (yhmn_2 : Int32) (yhmf_2 : Nat → Int32) (yhbn_2 : Int32) (yhbf_2 : Nat → Int32) (yhsn_2 : Int32) (yhsf_2 : Nat → Int32) (yhcn_2 : Int32) (yhcf_2 : Nat → Int32) (zrn_2 : Int32) (zmn_2 : Int32) (zwn_2 : Int32) (zpn_2 : Int32) (zmd_2 : Int32) (ztr_2 : Int32) (zrf_2 : Nat → Int32) (zmf_2 : Nat → Int32) (zwf_2 : Nat → Int32) (zpf_2 : Nat → Int32) (kac_2 : Int32) (knx_2 : Int32) (kim_2 : Int32) (cf_2 : Nat → SC) (m_taped_2 : Int32) (d_tape_2 : Nat → Int32) (d_r_2 : Nat → Int32) (d_st_2 : Nat → Int32) (d_undone_2 : Nat → Int32) (d_kept_2 : Nat → Int32) (m_undos_2 : Int32) (m_images_2 : Int32) (m_hasHouse_2 : Int32) (xw2 mw2 : va_W), XW g h0 xtpd_2 tpf_2 yhnf_2 yhtn_2 yhtf_2 yhjn_2 yhjf_2 yhmn_2 yhmf_2 yhbn_2 yhbf_2 yhsn_2 yhsf_2 yhcn_2 yhcf_2 zrn_2 zmn_2 zwn_2 zpn_2 zmd_2 ztr_2 zrf_2 zmf_2 zwf_2 zpf_2 kac_2 knx_2 kim_2 cf_2 xw2 → MW g mo m_taped_2 d_tape_2 d_r_2 d_st_2 d_undone_2 d_kept_2 m_undos_2 m_images_2 m_hasHouse_2 mw2 → LR xtpd_2 tpf_2 yhnf_2 yhtn_2 yhtf_2 yhjn_2 yhjf_2 yhmn_2 yhmf_2 yhbn_2 yhbf_2 yhsn_2 yhsf_2 yhcn_2 yhcf_2 zrn_2 zmn_2 zwn_2 zpn_2 zmd_2 ztr_2 zrf_2 zmf_2 zwf_2 zpf_2 kac_2 knx_2 kim_2 cf_2 m_taped_2 d_tape_2 d_r_2 d_st_2 d_undone_2 d_kept_2 m_undos_2 m_images_2 m_hasHouse_2 → Wk p l e room_1 s m #[Value.ref b] below meth c (lw_Z below #[Value.ref b] s) A g 7 n1 n2 (xw2 ++ (mw2 ++ [(cAJ g lo 1 fo)])) [(4, .int u4), (3, .ref lo), (2, .ref mo), (1, .ref h0), (0, .ref b)] 2062 []) : Wk p l e room_1 s m #[Value.ref b] below meth c (lw_Z below #[Value.ref b] s) A g 7 n1 n2 (xw ++ (mw ++ [(cAJ g lo 1 fo)])) [(4, .int u4), (3, .ref lo), (2, .ref mo), (1, .ref h0), (0, .ref b)] 349 [] := by
  have hiv : IV u4 0 3066 := ⟨hi.1, by omega⟩
  refine k_aload_n X dL_law_349 3 rfl ?_
  refine k_aload_n X dL_law_350 4 rfl ?_
  refine k_iload X dL_law_351 0 rfl ?_
  refine k_iconst (v := 1) X dL_law_353 (by decide) ?_
  refine k_iadd X dL_law_354 ?_
  refine k_nm (fun z_1 ez_1 => ?_)
  have i_2 : z_1.toInt = u4.toInt + 1 := in_add ez_1 hiv (show IV 1 1 1 from (by decide)) (by decide) (by decide)
  have iv_3 : IV z_1 1 3067 := by have := hiv; have := (show IV 1 1 1 from (by decide)); rw [IV, i_2]; omega
  refine k_sld X hX hbl hbA dL_law_355 (by rw [vp_in_iff]; have := iv_3; omega) ?_
  refine k_nm (fun a_4 ea_4 => ?_)
  refine lx_house (st := []) a_4 X hx dL_law_356 mw206 (Nat.le_of_ble_eq_true rfl) (Nat.le_of_ble_eq_true rfl) (Nat.le_of_ble_eq_true rfl) (Nat.le_trans h1 (Nat.le_of_ble_eq_true rfl)) (Nat.le_trans h2 (Nat.le_of_ble_eq_true rfl)) (fun r_5 t_9 t_10 t_11 t_12 t_13 t_14 t_15 t_16 t_17 t_18 t_19 t_20 t_21 t_22 t_23 t_24 t_25 t_26 t_27 t_28 t_29 t_30 t_31 t_32 t_33 t_34 xw_6 hx_7 hr_8 => ?_)
  refine k_pop X dL_law_359 rfl ?_
  refine k_aload_n X dL_law_360 2 rfl ?_
  refine k_aload_n X dL_law_361 4 rfl ?_
  refine k_iload X dL_law_362 0 rfl ?_
  refine k_iconst (v := 1) X dL_law_364 (by decide) ?_
  refine k_iadd X dL_law_365 ?_
  refine k_to z_1 ez_1.symm ?_
  refine k_sld X hX hbl hbA dL_law_366 (by rw [vp_in_iff]; have := iv_3; omega) ?_
  refine k_to a_4 ea_4.symm ?_
  refine lm_house (st := []) a_4 X hm dL_law_367 mw464 (Nat.le_of_ble_eq_true rfl) (Nat.le_of_ble_eq_true rfl) (Nat.le_of_ble_eq_true rfl) (Nat.le_trans h1 (Nat.le_of_ble_eq_true rfl)) (Nat.le_trans h2 (Nat.le_of_ble_eq_true rfl)) (fun r_35 t_39 t_40 t_41 t_42 t_43 t_44 mw_36 hm_37 hr_38 => ?_)
  refine k_pop X dL_law_370 rfl ?_
  refine k_goto 2062 X dL_law_371 (by decide) ?_
  exact kk _ _ _ _ _ _ _ _ _ _ _ _ _ _ _ _ _ _ _ _ _ _ _ _ _ _ _ _ _ _ _ _ _ _ _ _ _ _ _ _ hx_7 hm_37 (LR_house hR hr_8 hr_38)

theorem dL_law_374 : decode cL_law 374 = .ok (.aload_n 1, 1) := dk_43 (kat_5 54 rfl)
theorem dL_law_375 : decode cL_law 375 = .ok (.invokevirtual 28, 3) := dk_182 (kat_5 55 rfl) (kat_5 56 rfl) (kat_5 57 rfl) rfl
theorem dL_law_378 : decode cL_law 378 = .ok (.pop, 1) := dk_87 (kat_5 58 rfl)
theorem dL_law_379 : decode cL_law 379 = .ok (.aload_n 2, 1) := dk_44 (kat_5 59 rfl)
theorem dL_law_380 : decode cL_law 380 = .ok (.invokevirtual 32, 3) := dk_182 (kat_5 60 rfl) (kat_5 61 rfl) (kat_5 62 rfl) rfl
theorem dL_law_383 : decode cL_law 383 = .ok (.pop, 1) := dk_87 (kat_5 63 rfl)
theorem dL_law_384 : decode cL_law 384 = .ok (.goto 1678, 3) := dk_167 (kat_6 0 rfl) (kat_6 1 rfl) (kat_6 2 rfl) (by decide)
set_option maxHeartbeats 4000000 in
set_option maxRecDepth 100000 in
theorem law_c2 {p : Program} {l : Launch} {e : Env} {s : State} {m : MethodId} {below : List Frame} {meth : Method} {c : Code} {A : Nat → Prop} {g : Gx} {b L : Nat} {xs : Nat → Int32} {h0 mo lo n1 n2 : Nat} {fo : Nat → Int64} {u4 : Int32} {xtpd : Int32} {tpf : Nat → Int32} {yhnf : Nat → Int32} {yhtn : Int32} {yhtf : Nat → Int32} {yhjn : Int32} {yhjf : Nat → Int32} {yhmn : Int32} {yhmf : Nat → Int32} {yhbn : Int32} {yhbf : Nat → Int32} {yhsn : Int32} {yhsf : Nat → Int32} {yhcn : Int32} {yhcf : Nat → Int32} {zrn : Int32} {zmn : Int32} {zwn : Int32} {zpn : Int32} {zmd : Int32} {ztr : Int32} {zrf : Nat → Int32} {zmf : Nat → Int32} {zwf : Nat → Int32} {zpf : Nat → Int32} {kac : Int32} {knx : Int32} {kim : Int32} {cf : Nat → SC} {m_taped : Int32} {d_tape : Nat → Int32} {d_r : Nat → Int32} {d_st : Nat → Int32} {d_undone : Nat → Int32} {d_kept : Nat → Int32} {m_undos : Int32} {m_images : Int32} {m_hasHouse : Int32} {xw mw : va_W} (X : Cx p s m meth c #[Value.ref b] cL_law 7 RL A g) (hX : va_X b L xs s s.heap) (hbl : b < s.heap.size) (hbA : ¬ A b) (hi : 0 ≤ u4.toInt ∧ u4.toInt + 6 ≤ (L : Int)) (hL : L ≤ 3072) (h1 : n1 ≤ 601023) (h2 : n2 ≤ 7293028) (hlt : l.stackTraces = false) (hZ : kZ A s s.heap) (htsE : ∀ w ∈ wsE, w.before #[Value.ref b] s = true) (hx : XW g h0 xtpd tpf yhnf yhtn yhtf yhjn yhjf yhmn yhmf yhbn yhbf yhsn yhsf yhcn yhcf zrn zmn zwn zpn zmd ztr zrf zmf zwf zpf kac knx kim cf xw) (hm : MW g mo m_taped d_tape d_r d_st d_undone d_kept m_undos m_images m_hasHouse mw) (hR : LR xtpd tpf yhnf yhtn yhtf yhjn yhjf yhmn yhmf yhbn yhbf yhsn yhsf yhcn yhcf zrn zmn zwn zpn zmd ztr zrf zmf zwf zpf kac knx kim cf m_taped d_tape d_r d_st d_undone d_kept m_undos m_images m_hasHouse) (kk : ∀ (xtpd_2 : Int32) (tpf_2 : Nat → Int32) (yhnf_2 : Nat → Int32) (yhtn_2 : Int32) (yhtf_2 : Nat → Int32) (yhjn_2 : Int32) (yhjf_2 : Nat → Int32) (yhmn_2 : Int32) (yhmf_2 : Nat → Int32) (yhbn_2 : Int32) (yhbf_2 : Nat → Int32) (yhsn_2 : Int32) (yhsf_2 : Nat → Int32) (yhcn_2 : Int32) (yhcf_2 : Nat → Int32) (zrn_2 : Int32) (zmn_2 : Int32) (zwn_2 : Int32) (zpn_2 : Int32) (zmd_2 : Int32) (ztr_2 : Int32) (zrf_2 : Nat → Int32) (zmf_2 : Nat → Int32) (zwf_2 : Nat → Int32) (zpf_2 : Nat → Int32) (kac_2 : Int32) (knx_2 : Int32) (kim_2 : Int32) (cf_2 : Nat → SC) (m_taped_2 : Int32) (d_tape_2 : Nat → Int32) (d_r_2 : Nat → Int32) (d_st_2 : Nat → Int32) (d_undone_2 : Nat → Int32) (d_kept_2 : Nat → Int32) (m_undos_2 : Int32) (m_images_2 : Int32) (m_hasHouse_2 : Int32) (xw2 mw2 : va_W), XW g h0 xtpd_2 tpf_2 yhnf_2 yhtn_2 yhtf_2 yhjn_2 yhjf_2 yhmn_2 yhmf_2 yhbn_2 yhbf_2 yhsn_2 yhsf_2 yhcn_2 yhcf_2 zrn_2 zmn_2 zwn_2 zpn_2 zmd_2 ztr_2 zrf_2 zmf_2 zwf_2 zpf_2 kac_2 knx_2 kim_2 cf_2 xw2 → MW g mo m_taped_2 d_tape_2 d_r_2 d_st_2 d_undone_2 d_kept_2 m_undos_2 m_images_2 m_hasHouse_2 mw2 → LR xtpd_2 tpf_2 yhnf_2 yhtn_2 yhtf_2 yhjn_2 yhjf_2 yhmn_2 yhmf_2 yhbn_2 yhbf_2 yhsn_2 yhsf_2 yhcn_2 yhcf_2 zrn_2 zmn_2 zwn_2 zpn_2 zmd_2 ztr_2 zrf_2 zmf_2 zwf_2 zpf_2 kac_2 knx_2 kim_2 cf_2 m_taped_2 d_tape_2 d_r_2 d_st_2 d_undone_2 d_kept_2 m_undos_2 m_images_2 m_hasHouse_2 → Wk p l e room_1 s m #[Value.ref b] below meth c (lw_Z below #[Value.ref b] s) A g 7 n1 n2 (xw2 ++ (mw2 ++ [(cAJ g lo 1 fo)])) [(4, .int u4), (3, .ref lo), (2, .ref mo), (1, .ref h0), (0, .ref b)] 2062 []) : Wk p l e room_1 s m #[Value.ref b] below meth c (lw_Z below #[Value.ref b] s) A g 7 n1 n2 (xw ++ (mw ++ [(cAJ g lo 1 fo)])) [(4, .int u4), (3, .ref lo), (2, .ref mo), (1, .ref h0), (0, .ref b)] 374 [] := by
  have hiv : IV u4 0 3066 := ⟨hi.1, by omega⟩
  refine k_aload_n X dL_law_374 3 rfl ?_
  refine lx_fault (st := []) () X hx dL_law_375 mw622 (Nat.le_of_ble_eq_true rfl) (Nat.le_of_ble_eq_true rfl) (Nat.le_of_ble_eq_true rfl) (Nat.le_trans h1 (Nat.le_of_ble_eq_true rfl)) (Nat.le_trans h2 (Nat.le_of_ble_eq_true rfl)) (fun r_1 xw_2 hx_3 => ?_)
  refine k_pop X dL_law_378 rfl ?_
  refine k_aload_n X dL_law_379 2 rfl ?_
  refine lm_fault (st := []) () X hm dL_law_380 mw626 (Nat.le_of_ble_eq_true rfl) (Nat.le_of_ble_eq_true rfl) (Nat.le_of_ble_eq_true rfl) (Nat.le_trans h1 (Nat.le_of_ble_eq_true rfl)) (Nat.le_trans h2 (Nat.le_of_ble_eq_true rfl)) (fun r_4 mw_5 hm_6 => ?_)
  refine k_pop X dL_law_383 rfl ?_
  refine k_goto 2062 X dL_law_384 (by decide) ?_
  exact kk _ _ _ _ _ _ _ _ _ _ _ _ _ _ _ _ _ _ _ _ _ _ _ _ _ _ _ _ _ _ _ _ _ _ _ _ _ _ _ _ hx_3 hm_6 hR

theorem dL_law_387 : decode cL_law 387 = .ok (.aload_n 1, 1) := dk_43 (kat_6 3 rfl)
theorem dL_law_388 : decode cL_law 388 = .ok (.invokevirtual 33, 3) := dk_182 (kat_6 4 rfl) (kat_6 5 rfl) (kat_6 6 rfl) rfl
theorem dL_law_391 : decode cL_law 391 = .ok (.pop, 1) := dk_87 (kat_6 7 rfl)
theorem dL_law_392 : decode cL_law 392 = .ok (.aload_n 2, 1) := dk_44 (kat_6 8 rfl)
theorem dL_law_393 : decode cL_law 393 = .ok (.invokevirtual 36, 3) := dk_182 (kat_6 9 rfl) (kat_6 10 rfl) (kat_6 11 rfl) rfl
theorem dL_law_396 : decode cL_law 396 = .ok (.pop, 1) := dk_87 (kat_6 12 rfl)
theorem dL_law_397 : decode cL_law 397 = .ok (.goto 1665, 3) := dk_167 (kat_6 13 rfl) (kat_6 14 rfl) (kat_6 15 rfl) (by decide)
set_option maxHeartbeats 4000000 in
set_option maxRecDepth 100000 in
theorem law_c3 {p : Program} {l : Launch} {e : Env} {s : State} {m : MethodId} {below : List Frame} {meth : Method} {c : Code} {A : Nat → Prop} {g : Gx} {b L : Nat} {xs : Nat → Int32} {h0 mo lo n1 n2 : Nat} {fo : Nat → Int64} {u4 : Int32} {xtpd : Int32} {tpf : Nat → Int32} {yhnf : Nat → Int32} {yhtn : Int32} {yhtf : Nat → Int32} {yhjn : Int32} {yhjf : Nat → Int32} {yhmn : Int32} {yhmf : Nat → Int32} {yhbn : Int32} {yhbf : Nat → Int32} {yhsn : Int32} {yhsf : Nat → Int32} {yhcn : Int32} {yhcf : Nat → Int32} {zrn : Int32} {zmn : Int32} {zwn : Int32} {zpn : Int32} {zmd : Int32} {ztr : Int32} {zrf : Nat → Int32} {zmf : Nat → Int32} {zwf : Nat → Int32} {zpf : Nat → Int32} {kac : Int32} {knx : Int32} {kim : Int32} {cf : Nat → SC} {m_taped : Int32} {d_tape : Nat → Int32} {d_r : Nat → Int32} {d_st : Nat → Int32} {d_undone : Nat → Int32} {d_kept : Nat → Int32} {m_undos : Int32} {m_images : Int32} {m_hasHouse : Int32} {xw mw : va_W} (X : Cx p s m meth c #[Value.ref b] cL_law 7 RL A g) (hX : va_X b L xs s s.heap) (hbl : b < s.heap.size) (hbA : ¬ A b) (hi : 0 ≤ u4.toInt ∧ u4.toInt + 6 ≤ (L : Int)) (hL : L ≤ 3072) (h1 : n1 ≤ 601023) (h2 : n2 ≤ 7293028) (hlt : l.stackTraces = false) (hZ : kZ A s s.heap) (htsE : ∀ w ∈ wsE, w.before #[Value.ref b] s = true) (hx : XW g h0 xtpd tpf yhnf yhtn yhtf yhjn yhjf yhmn yhmf yhbn yhbf yhsn yhsf yhcn yhcf zrn zmn zwn zpn zmd ztr zrf zmf zwf zpf kac knx kim cf xw) (hm : MW g mo m_taped d_tape d_r d_st d_undone d_kept m_undos m_images m_hasHouse mw) (hR : LR xtpd tpf yhnf yhtn yhtf yhjn yhjf yhmn yhmf yhbn yhbf yhsn yhsf yhcn yhcf zrn zmn zwn zpn zmd ztr zrf zmf zwf zpf kac knx kim cf m_taped d_tape d_r d_st d_undone d_kept m_undos m_images m_hasHouse) (kk : ∀ (xtpd_2 : Int32) (tpf_2 : Nat → Int32) (yhnf_2 : Nat → Int32) (yhtn_2 : Int32) (yhtf_2 : Nat → Int32) (yhjn_2 : Int32) (yhjf_2 : Nat → Int32) (yhmn_2 : Int32) (yhmf_2 : Nat → Int32) (yhbn_2 : Int32) (yhbf_2 : Nat → Int32) (yhsn_2 : Int32) (yhsf_2 : Nat → Int32) (yhcn_2 : Int32) (yhcf_2 : Nat → Int32) (zrn_2 : Int32) (zmn_2 : Int32) (zwn_2 : Int32) (zpn_2 : Int32) (zmd_2 : Int32) (ztr_2 : Int32) (zrf_2 : Nat → Int32) (zmf_2 : Nat → Int32) (zwf_2 : Nat → Int32) (zpf_2 : Nat → Int32) (kac_2 : Int32) (knx_2 : Int32) (kim_2 : Int32) (cf_2 : Nat → SC) (m_taped_2 : Int32) (d_tape_2 : Nat → Int32) (d_r_2 : Nat → Int32) (d_st_2 : Nat → Int32) (d_undone_2 : Nat → Int32) (d_kept_2 : Nat → Int32) (m_undos_2 : Int32) (m_images_2 : Int32) (m_hasHouse_2 : Int32) (xw2 mw2 : va_W), XW g h0 xtpd_2 tpf_2 yhnf_2 yhtn_2 yhtf_2 yhjn_2 yhjf_2 yhmn_2 yhmf_2 yhbn_2 yhbf_2 yhsn_2 yhsf_2 yhcn_2 yhcf_2 zrn_2 zmn_2 zwn_2 zpn_2 zmd_2 ztr_2 zrf_2 zmf_2 zwf_2 zpf_2 kac_2 knx_2 kim_2 cf_2 xw2 → MW g mo m_taped_2 d_tape_2 d_r_2 d_st_2 d_undone_2 d_kept_2 m_undos_2 m_images_2 m_hasHouse_2 mw2 → LR xtpd_2 tpf_2 yhnf_2 yhtn_2 yhtf_2 yhjn_2 yhjf_2 yhmn_2 yhmf_2 yhbn_2 yhbf_2 yhsn_2 yhsf_2 yhcn_2 yhcf_2 zrn_2 zmn_2 zwn_2 zpn_2 zmd_2 ztr_2 zrf_2 zmf_2 zwf_2 zpf_2 kac_2 knx_2 kim_2 cf_2 m_taped_2 d_tape_2 d_r_2 d_st_2 d_undone_2 d_kept_2 m_undos_2 m_images_2 m_hasHouse_2 → Wk p l e room_1 s m #[Value.ref b] below meth c (lw_Z below #[Value.ref b] s) A g 7 n1 n2 (xw2 ++ (mw2 ++ [(cAJ g lo 1 fo)])) [(4, .int u4), (3, .ref lo), (2, .ref mo), (1, .ref h0), (0, .ref b)] 2062 []) : Wk p l e room_1 s m #[Value.ref b] below meth c (lw_Z below #[Value.ref b] s) A g 7 n1 n2 (xw ++ (mw ++ [(cAJ g lo 1 fo)])) [(4, .int u4), (3, .ref lo), (2, .ref mo), (1, .ref h0), (0, .ref b)] 387 [] := by
  have hiv : IV u4 0 3066 := ⟨hi.1, by omega⟩
  refine k_aload_n X dL_law_387 3 rfl ?_
  refine lx_where (st := []) () X hx dL_law_388 mw630 (Nat.le_of_ble_eq_true rfl) (Nat.le_of_ble_eq_true rfl) (Nat.le_of_ble_eq_true rfl) (Nat.le_trans h1 (Nat.le_of_ble_eq_true rfl)) (Nat.le_trans h2 (Nat.le_of_ble_eq_true rfl)) (fun r_1 xw_2 hx_3 => ?_)
  refine k_pop X dL_law_391 rfl ?_
  refine k_aload_n X dL_law_392 2 rfl ?_
  refine lm_where (st := []) () X hm dL_law_393 mw635 (Nat.le_of_ble_eq_true rfl) (Nat.le_of_ble_eq_true rfl) (Nat.le_of_ble_eq_true rfl) (Nat.le_trans h1 (Nat.le_of_ble_eq_true rfl)) (Nat.le_trans h2 (Nat.le_of_ble_eq_true rfl)) (fun r_4 mw_5 hm_6 => ?_)
  refine k_pop X dL_law_396 rfl ?_
  refine k_goto 2062 X dL_law_397 (by decide) ?_
  exact kk _ _ _ _ _ _ _ _ _ _ _ _ _ _ _ _ _ _ _ _ _ _ _ _ _ _ _ _ _ _ _ _ _ _ _ _ _ _ _ _ hx_3 hm_6 hR

theorem dL_law_400 : decode cL_law 400 = .ok (.aload_n 1, 1) := dk_43 (kat_6 16 rfl)
theorem dL_law_401 : decode cL_law 401 = .ok (.aload_n 0, 1) := dk_42 (kat_6 17 rfl)
theorem dL_law_402 : decode cL_law 402 = .ok (.iload 4, 2) := dk_21 (kat_6 18 rfl) (kat_6 19 rfl) rfl
theorem dL_law_404 : decode cL_law 404 = .ok (.iconst 1, 1) := dk_4 (kat_6 20 rfl)
theorem dL_law_405 : decode cL_law 405 = .ok (.iadd, 1) := dk_96 (kat_6 21 rfl)
theorem dL_law_406 : decode cL_law 406 = .ok (.iaload, 1) := dk_46 (kat_6 22 rfl)
theorem dL_law_407 : decode cL_law 407 = .ok (.aload_n 0, 1) := dk_42 (kat_6 23 rfl)
theorem dL_law_408 : decode cL_law 408 = .ok (.iload 4, 2) := dk_21 (kat_6 24 rfl) (kat_6 25 rfl) rfl
theorem dL_law_410 : decode cL_law 410 = .ok (.iconst 2, 1) := dk_5 (kat_6 26 rfl)
theorem dL_law_411 : decode cL_law 411 = .ok (.iadd, 1) := dk_96 (kat_6 27 rfl)
theorem dL_law_412 : decode cL_law 412 = .ok (.iaload, 1) := dk_46 (kat_6 28 rfl)
theorem dL_law_413 : decode cL_law 413 = .ok (.invokevirtual 37, 3) := dk_182 (kat_6 29 rfl) (kat_6 30 rfl) (kat_6 31 rfl) rfl
theorem dL_law_416 : decode cL_law 416 = .ok (.pop, 1) := dk_87 (kat_6 32 rfl)
theorem dL_law_417 : decode cL_law 417 = .ok (.aload_n 2, 1) := dk_44 (kat_6 33 rfl)
theorem dL_law_418 : decode cL_law 418 = .ok (.aload_n 0, 1) := dk_42 (kat_6 34 rfl)
theorem dL_law_419 : decode cL_law 419 = .ok (.iload 4, 2) := dk_21 (kat_6 35 rfl) (kat_6 36 rfl) rfl
theorem dL_law_421 : decode cL_law 421 = .ok (.iconst 1, 1) := dk_4 (kat_6 37 rfl)
theorem dL_law_422 : decode cL_law 422 = .ok (.iadd, 1) := dk_96 (kat_6 38 rfl)
theorem dL_law_423 : decode cL_law 423 = .ok (.iaload, 1) := dk_46 (kat_6 39 rfl)
theorem dL_law_424 : decode cL_law 424 = .ok (.aload_n 0, 1) := dk_42 (kat_6 40 rfl)
theorem dL_law_425 : decode cL_law 425 = .ok (.iload 4, 2) := dk_21 (kat_6 41 rfl) (kat_6 42 rfl) rfl
theorem dL_law_427 : decode cL_law 427 = .ok (.iconst 2, 1) := dk_5 (kat_6 43 rfl)
theorem dL_law_428 : decode cL_law 428 = .ok (.iadd, 1) := dk_96 (kat_6 44 rfl)
theorem dL_law_429 : decode cL_law 429 = .ok (.iaload, 1) := dk_46 (kat_6 45 rfl)
theorem dL_law_430 : decode cL_law 430 = .ok (.invokevirtual 41, 3) := dk_182 (kat_6 46 rfl) (kat_6 47 rfl) (kat_6 48 rfl) rfl
theorem dL_law_433 : decode cL_law 433 = .ok (.pop, 1) := dk_87 (kat_6 49 rfl)
theorem dL_law_434 : decode cL_law 434 = .ok (.goto 1628, 3) := dk_167 (kat_6 50 rfl) (kat_6 51 rfl) (kat_6 52 rfl) (by decide)
set_option maxHeartbeats 4000000 in
set_option maxRecDepth 100000 in
theorem law_c4 {p : Program} {l : Launch} {e : Env} {s : State} {m : MethodId} {below : List Frame} {meth : Method} {c : Code} {A : Nat → Prop} {g : Gx} {b L : Nat} {xs : Nat → Int32} {h0 mo lo n1 n2 : Nat} {fo : Nat → Int64} {u4 : Int32} {xtpd : Int32} {tpf : Nat → Int32} {yhnf : Nat → Int32} {yhtn : Int32} {yhtf : Nat → Int32} {yhjn : Int32} {yhjf : Nat → Int32} {yhmn : Int32} {yhmf : Nat → Int32} {yhbn : Int32} {yhbf : Nat → Int32} {yhsn : Int32} {yhsf : Nat → Int32} {yhcn : Int32} {yhcf : Nat → Int32} {zrn : Int32} {zmn : Int32} {zwn : Int32} {zpn : Int32} {zmd : Int32} {ztr : Int32} {zrf : Nat → Int32} {zmf : Nat → Int32} {zwf : Nat → Int32} {zpf : Nat → Int32} {kac : Int32} {knx : Int32} {kim : Int32} {cf : Nat → SC} {m_taped : Int32} {d_tape : Nat → Int32} {d_r : Nat → Int32} {d_st : Nat → Int32} {d_undone : Nat → Int32} {d_kept : Nat → Int32} {m_undos : Int32} {m_images : Int32} {m_hasHouse : Int32} {xw mw : va_W} (X : Cx p s m meth c #[Value.ref b] cL_law 7 RL A g) (hX : va_X b L xs s s.heap) (hbl : b < s.heap.size) (hbA : ¬ A b) (hi : 0 ≤ u4.toInt ∧ u4.toInt + 6 ≤ (L : Int)) (hL : L ≤ 3072) (h1 : n1 ≤ 601023) (h2 : n2 ≤ 7293028) (hlt : l.stackTraces = false) (hZ : kZ A s s.heap) (htsE : ∀ w ∈ wsE, w.before #[Value.ref b] s = true) (hx : XW g h0 xtpd tpf yhnf yhtn yhtf yhjn yhjf yhmn yhmf yhbn yhbf yhsn yhsf yhcn yhcf zrn zmn zwn zpn zmd ztr zrf zmf zwf zpf kac knx kim cf xw) (hm : MW g mo m_taped d_tape d_r d_st d_undone d_kept m_undos m_images m_hasHouse mw) (hR : LR xtpd tpf yhnf yhtn yhtf yhjn yhjf yhmn yhmf yhbn yhbf yhsn yhsf yhcn yhcf zrn zmn zwn zpn zmd ztr zrf zmf zwf zpf kac knx kim cf m_taped d_tape d_r d_st d_undone d_kept m_undos m_images m_hasHouse) (kk : ∀ (xtpd_2 : Int32) (tpf_2 : Nat → Int32) (yhnf_2 : Nat → Int32) (yhtn_2 : Int32) (yhtf_2 : Nat → Int32) (yhjn_2 : Int32) (yhjf_2 : Nat → Int32) (yhmn_2 : Int32) (yhmf_2 : Nat → Int32) (yhbn_2 : Int32) (yhbf_2 : Nat → Int32) (yhsn_2 : Int32) (yhsf_2 : Nat → Int32) (yhcn_2 : Int32) (yhcf_2 : Nat → Int32) (zrn_2 : Int32) (zmn_2 : Int32) (zwn_2 : Int32) (zpn_2 : Int32) (zmd_2 : Int32) (ztr_2 : Int32) (zrf_2 : Nat → Int32) (zmf_2 : Nat → Int32) (zwf_2 : Nat → Int32) (zpf_2 : Nat → Int32) (kac_2 : Int32) (knx_2 : Int32) (kim_2 : Int32) (cf_2 : Nat → SC) (m_taped_2 : Int32) (d_tape_2 : Nat → Int32) (d_r_2 : Nat → Int32) (d_st_2 : Nat → Int32) (d_undone_2 : Nat → Int32) (d_kept_2 : Nat → Int32) (m_undos_2 : Int32) (m_images_2 : Int32) (m_hasHouse_2 : Int32) (xw2 mw2 : va_W), XW g h0 xtpd_2 tpf_2 yhnf_2 yhtn_2 yhtf_2 yhjn_2 yhjf_2 yhmn_2 yhmf_2 yhbn_2 yhbf_2 yhsn_2 yhsf_2 yhcn_2 yhcf_2 zrn_2 zmn_2 zwn_2 zpn_2 zmd_2 ztr_2 zrf_2 zmf_2 zwf_2 zpf_2 kac_2 knx_2 kim_2 cf_2 xw2 → MW g mo m_taped_2 d_tape_2 d_r_2 d_st_2 d_undone_2 d_kept_2 m_undos_2 m_images_2 m_hasHouse_2 mw2 → LR xtpd_2 tpf_2 yhnf_2 yhtn_2 yhtf_2 yhjn_2 yhjf_2 yhmn_2 yhmf_2 yhbn_2 yhbf_2 yhsn_2 yhsf_2 yhcn_2 yhcf_2 zrn_2 zmn_2 zwn_2 zpn_2 zmd_2 ztr_2 zrf_2 zmf_2 zwf_2 zpf_2 kac_2 knx_2 kim_2 cf_2 m_taped_2 d_tape_2 d_r_2 d_st_2 d_undone_2 d_kept_2 m_undos_2 m_images_2 m_hasHouse_2 → Wk p l e room_1 s m #[Value.ref b] below meth c (lw_Z below #[Value.ref b] s) A g 7 n1 n2 (xw2 ++ (mw2 ++ [(cAJ g lo 1 fo)])) [(4, .int u4), (3, .ref lo), (2, .ref mo), (1, .ref h0), (0, .ref b)] 2062 []) : Wk p l e room_1 s m #[Value.ref b] below meth c (lw_Z below #[Value.ref b] s) A g 7 n1 n2 (xw ++ (mw ++ [(cAJ g lo 1 fo)])) [(4, .int u4), (3, .ref lo), (2, .ref mo), (1, .ref h0), (0, .ref b)] 400 [] := by
  have hiv : IV u4 0 3066 := ⟨hi.1, by omega⟩
  refine k_aload_n X dL_law_400 3 rfl ?_
  refine k_aload_n X dL_law_401 4 rfl ?_
  refine k_iload X dL_law_402 0 rfl ?_
  refine k_iconst (v := 1) X dL_law_404 (by decide) ?_
  refine k_iadd X dL_law_405 ?_
  refine k_nm (fun z_1 ez_1 => ?_)
  have i_2 : z_1.toInt = u4.toInt + 1 := in_add ez_1 hiv (show IV 1 1 1 from (by decide)) (by decide) (by decide)
  have iv_3 : IV z_1 1 3067 := by have := hiv; have := (show IV 1 1 1 from (by decide)); rw [IV, i_2]; omega
  refine k_sld X hX hbl hbA dL_law_406 (by rw [vp_in_iff]; have := iv_3; omega) ?_
  refine k_nm (fun a_4 ea_4 => ?_)
  refine k_aload_n X dL_law_407 4 rfl ?_
  refine k_iload X dL_law_408 0 rfl ?_
  refine k_iconst (v := 2) X dL_law_410 (by decide) ?_
  refine k_iadd X dL_law_411 ?_
  refine k_nm (fun z_5 ez_5 => ?_)
  have i_6 : z_5.toInt = u4.toInt + 2 := in_add ez_5 hiv (show IV 2 2 2 from (by decide)) (by decide) (by decide)
  have iv_7 : IV z_5 2 3068 := by have := hiv; have := (show IV 2 2 2 from (by decide)); rw [IV, i_6]; omega
  refine k_sld X hX hbl hbA dL_law_412 (by rw [vp_in_iff]; have := iv_7; omega) ?_
  refine k_nm (fun a_8 ea_8 => ?_)
  refine lx_reel (st := []) a_4 a_8 X hx dL_law_413 mw639 (Nat.le_of_ble_eq_true rfl) (Nat.le_of_ble_eq_true rfl) (Nat.le_of_ble_eq_true rfl) (Nat.le_trans h1 (Nat.le_of_ble_eq_true rfl)) (Nat.le_trans h2 (Nat.le_of_ble_eq_true rfl)) (fun r_9 xw_10 hx_11 => ?_)
  refine k_pop X dL_law_416 rfl ?_
  refine k_aload_n X dL_law_417 2 rfl ?_
  refine k_aload_n X dL_law_418 4 rfl ?_
  refine k_iload X dL_law_419 0 rfl ?_
  refine k_iconst (v := 1) X dL_law_421 (by decide) ?_
  refine k_iadd X dL_law_422 ?_
  refine k_to z_1 ez_1.symm ?_
  refine k_sld X hX hbl hbA dL_law_423 (by rw [vp_in_iff]; have := iv_3; omega) ?_
  refine k_to a_4 ea_4.symm ?_
  refine k_aload_n X dL_law_424 4 rfl ?_
  refine k_iload X dL_law_425 0 rfl ?_
  refine k_iconst (v := 2) X dL_law_427 (by decide) ?_
  refine k_iadd X dL_law_428 ?_
  refine k_to z_5 ez_5.symm ?_
  refine k_sld X hX hbl hbA dL_law_429 (by rw [vp_in_iff]; have := iv_7; omega) ?_
  refine k_to a_8 ea_8.symm ?_
  refine lm_reel (st := []) a_4 a_8 X hm dL_law_430 mw666 (Nat.le_of_ble_eq_true rfl) (Nat.le_of_ble_eq_true rfl) (Nat.le_of_ble_eq_true rfl) (Nat.le_trans h1 (Nat.le_of_ble_eq_true rfl)) (Nat.le_trans h2 (Nat.le_of_ble_eq_true rfl)) (fun r_12 mw_13 hm_14 => ?_)
  refine k_pop X dL_law_433 rfl ?_
  refine k_goto 2062 X dL_law_434 (by decide) ?_
  exact kk _ _ _ _ _ _ _ _ _ _ _ _ _ _ _ _ _ _ _ _ _ _ _ _ _ _ _ _ _ _ _ _ _ _ _ _ _ _ _ _ hx_11 hm_14 hR

theorem dL_law_437 : decode cL_law 437 = .ok (.aload_n 1, 1) := dk_43 (kat_6 53 rfl)
theorem dL_law_438 : decode cL_law 438 = .ok (.aload_n 0, 1) := dk_42 (kat_6 54 rfl)
theorem dL_law_439 : decode cL_law 439 = .ok (.iload 4, 2) := dk_21 (kat_6 55 rfl) (kat_6 56 rfl) rfl
theorem dL_law_441 : decode cL_law 441 = .ok (.iconst 1, 1) := dk_4 (kat_6 57 rfl)
theorem dL_law_442 : decode cL_law 442 = .ok (.iadd, 1) := dk_96 (kat_6 58 rfl)
theorem dL_law_443 : decode cL_law 443 = .ok (.iaload, 1) := dk_46 (kat_6 59 rfl)
theorem dL_law_444 : decode cL_law 444 = .ok (.aload_n 0, 1) := dk_42 (kat_6 60 rfl)
theorem dL_law_445 : decode cL_law 445 = .ok (.iload 4, 2) := dk_21 (kat_6 61 rfl) (kat_6 62 rfl) rfl
theorem dL_law_447 : decode cL_law 447 = .ok (.iconst 2, 1) := dk_5 (kat_6 63 rfl)
theorem dL_law_448 : decode cL_law 448 = .ok (.iadd, 1) := dk_96 (kat_7 0 rfl)
theorem dL_law_449 : decode cL_law 449 = .ok (.iaload, 1) := dk_46 (kat_7 1 rfl)
theorem dL_law_450 : decode cL_law 450 = .ok (.invokevirtual 42, 3) := dk_182 (kat_7 2 rfl) (kat_7 3 rfl) (kat_7 4 rfl) rfl
theorem dL_law_453 : decode cL_law 453 = .ok (.pop, 1) := dk_87 (kat_7 5 rfl)
theorem dL_law_454 : decode cL_law 454 = .ok (.aload_n 2, 1) := dk_44 (kat_7 6 rfl)
theorem dL_law_455 : decode cL_law 455 = .ok (.aload_n 0, 1) := dk_42 (kat_7 7 rfl)
theorem dL_law_456 : decode cL_law 456 = .ok (.iload 4, 2) := dk_21 (kat_7 8 rfl) (kat_7 9 rfl) rfl
theorem dL_law_458 : decode cL_law 458 = .ok (.iconst 1, 1) := dk_4 (kat_7 10 rfl)
theorem dL_law_459 : decode cL_law 459 = .ok (.iadd, 1) := dk_96 (kat_7 11 rfl)
theorem dL_law_460 : decode cL_law 460 = .ok (.iaload, 1) := dk_46 (kat_7 12 rfl)
theorem dL_law_461 : decode cL_law 461 = .ok (.aload_n 0, 1) := dk_42 (kat_7 13 rfl)
theorem dL_law_462 : decode cL_law 462 = .ok (.iload 4, 2) := dk_21 (kat_7 14 rfl) (kat_7 15 rfl) rfl
theorem dL_law_464 : decode cL_law 464 = .ok (.iconst 2, 1) := dk_5 (kat_7 16 rfl)
theorem dL_law_465 : decode cL_law 465 = .ok (.iadd, 1) := dk_96 (kat_7 17 rfl)
theorem dL_law_466 : decode cL_law 466 = .ok (.iaload, 1) := dk_46 (kat_7 18 rfl)
theorem dL_law_467 : decode cL_law 467 = .ok (.invokevirtual 45, 3) := dk_182 (kat_7 19 rfl) (kat_7 20 rfl) (kat_7 21 rfl) rfl
theorem dL_law_470 : decode cL_law 470 = .ok (.pop, 1) := dk_87 (kat_7 22 rfl)
theorem dL_law_471 : decode cL_law 471 = .ok (.goto 1591, 3) := dk_167 (kat_7 23 rfl) (kat_7 24 rfl) (kat_7 25 rfl) (by decide)
set_option maxHeartbeats 4000000 in
set_option maxRecDepth 100000 in
theorem law_c5 {p : Program} {l : Launch} {e : Env} {s : State} {m : MethodId} {below : List Frame} {meth : Method} {c : Code} {A : Nat → Prop} {g : Gx} {b L : Nat} {xs : Nat → Int32} {h0 mo lo n1 n2 : Nat} {fo : Nat → Int64} {u4 : Int32} {xtpd : Int32} {tpf : Nat → Int32} {yhnf : Nat → Int32} {yhtn : Int32} {yhtf : Nat → Int32} {yhjn : Int32} {yhjf : Nat → Int32} {yhmn : Int32} {yhmf : Nat → Int32} {yhbn : Int32} {yhbf : Nat → Int32} {yhsn : Int32} {yhsf : Nat → Int32} {yhcn : Int32} {yhcf : Nat → Int32} {zrn : Int32} {zmn : Int32} {zwn : Int32} {zpn : Int32} {zmd : Int32} {ztr : Int32} {zrf : Nat → Int32} {zmf : Nat → Int32} {zwf : Nat → Int32} {zpf : Nat → Int32} {kac : Int32} {knx : Int32} {kim : Int32} {cf : Nat → SC} {m_taped : Int32} {d_tape : Nat → Int32} {d_r : Nat → Int32} {d_st : Nat → Int32} {d_undone : Nat → Int32} {d_kept : Nat → Int32} {m_undos : Int32} {m_images : Int32} {m_hasHouse : Int32} {xw mw : va_W} (X : Cx p s m meth c #[Value.ref b] cL_law 7 RL A g) (hX : va_X b L xs s s.heap) (hbl : b < s.heap.size) (hbA : ¬ A b) (hi : 0 ≤ u4.toInt ∧ u4.toInt + 6 ≤ (L : Int)) (hL : L ≤ 3072) (h1 : n1 ≤ 601023) (h2 : n2 ≤ 7293028) (hlt : l.stackTraces = false) (hZ : kZ A s s.heap) (htsE : ∀ w ∈ wsE, w.before #[Value.ref b] s = true) (hx : XW g h0 xtpd tpf yhnf yhtn yhtf yhjn yhjf yhmn yhmf yhbn yhbf yhsn yhsf yhcn yhcf zrn zmn zwn zpn zmd ztr zrf zmf zwf zpf kac knx kim cf xw) (hm : MW g mo m_taped d_tape d_r d_st d_undone d_kept m_undos m_images m_hasHouse mw) (hR : LR xtpd tpf yhnf yhtn yhtf yhjn yhjf yhmn yhmf yhbn yhbf yhsn yhsf yhcn yhcf zrn zmn zwn zpn zmd ztr zrf zmf zwf zpf kac knx kim cf m_taped d_tape d_r d_st d_undone d_kept m_undos m_images m_hasHouse) (kk : ∀ (xtpd_2 : Int32) (tpf_2 : Nat → Int32) (yhnf_2 : Nat → Int32) (yhtn_2 : Int32) (yhtf_2 : Nat → Int32) (yhjn_2 : Int32) (yhjf_2 : Nat → Int32) (yhmn_2 : Int32) (yhmf_2 : Nat → Int32) (yhbn_2 : Int32) (yhbf_2 : Nat → Int32) (yhsn_2 : Int32) (yhsf_2 : Nat → Int32) (yhcn_2 : Int32) (yhcf_2 : Nat → Int32) (zrn_2 : Int32) (zmn_2 : Int32) (zwn_2 : Int32) (zpn_2 : Int32) (zmd_2 : Int32) (ztr_2 : Int32) (zrf_2 : Nat → Int32) (zmf_2 : Nat → Int32) (zwf_2 : Nat → Int32) (zpf_2 : Nat → Int32) (kac_2 : Int32) (knx_2 : Int32) (kim_2 : Int32) (cf_2 : Nat → SC) (m_taped_2 : Int32) (d_tape_2 : Nat → Int32) (d_r_2 : Nat → Int32) (d_st_2 : Nat → Int32) (d_undone_2 : Nat → Int32) (d_kept_2 : Nat → Int32) (m_undos_2 : Int32) (m_images_2 : Int32) (m_hasHouse_2 : Int32) (xw2 mw2 : va_W), XW g h0 xtpd_2 tpf_2 yhnf_2 yhtn_2 yhtf_2 yhjn_2 yhjf_2 yhmn_2 yhmf_2 yhbn_2 yhbf_2 yhsn_2 yhsf_2 yhcn_2 yhcf_2 zrn_2 zmn_2 zwn_2 zpn_2 zmd_2 ztr_2 zrf_2 zmf_2 zwf_2 zpf_2 kac_2 knx_2 kim_2 cf_2 xw2 → MW g mo m_taped_2 d_tape_2 d_r_2 d_st_2 d_undone_2 d_kept_2 m_undos_2 m_images_2 m_hasHouse_2 mw2 → LR xtpd_2 tpf_2 yhnf_2 yhtn_2 yhtf_2 yhjn_2 yhjf_2 yhmn_2 yhmf_2 yhbn_2 yhbf_2 yhsn_2 yhsf_2 yhcn_2 yhcf_2 zrn_2 zmn_2 zwn_2 zpn_2 zmd_2 ztr_2 zrf_2 zmf_2 zwf_2 zpf_2 kac_2 knx_2 kim_2 cf_2 m_taped_2 d_tape_2 d_r_2 d_st_2 d_undone_2 d_kept_2 m_undos_2 m_images_2 m_hasHouse_2 → Wk p l e room_1 s m #[Value.ref b] below meth c (lw_Z below #[Value.ref b] s) A g 7 n1 n2 (xw2 ++ (mw2 ++ [(cAJ g lo 1 fo)])) [(4, .int u4), (3, .ref lo), (2, .ref mo), (1, .ref h0), (0, .ref b)] 2062 []) : Wk p l e room_1 s m #[Value.ref b] below meth c (lw_Z below #[Value.ref b] s) A g 7 n1 n2 (xw ++ (mw ++ [(cAJ g lo 1 fo)])) [(4, .int u4), (3, .ref lo), (2, .ref mo), (1, .ref h0), (0, .ref b)] 437 [] := by
  have hiv : IV u4 0 3066 := ⟨hi.1, by omega⟩
  refine k_aload_n X dL_law_437 3 rfl ?_
  refine k_aload_n X dL_law_438 4 rfl ?_
  refine k_iload X dL_law_439 0 rfl ?_
  refine k_iconst (v := 1) X dL_law_441 (by decide) ?_
  refine k_iadd X dL_law_442 ?_
  refine k_nm (fun z_1 ez_1 => ?_)
  have i_2 : z_1.toInt = u4.toInt + 1 := in_add ez_1 hiv (show IV 1 1 1 from (by decide)) (by decide) (by decide)
  have iv_3 : IV z_1 1 3067 := by have := hiv; have := (show IV 1 1 1 from (by decide)); rw [IV, i_2]; omega
  refine k_sld X hX hbl hbA dL_law_443 (by rw [vp_in_iff]; have := iv_3; omega) ?_
  refine k_nm (fun a_4 ea_4 => ?_)
  refine k_aload_n X dL_law_444 4 rfl ?_
  refine k_iload X dL_law_445 0 rfl ?_
  refine k_iconst (v := 2) X dL_law_447 (by decide) ?_
  refine k_iadd X dL_law_448 ?_
  refine k_nm (fun z_5 ez_5 => ?_)
  have i_6 : z_5.toInt = u4.toInt + 2 := in_add ez_5 hiv (show IV 2 2 2 from (by decide)) (by decide) (by decide)
  have iv_7 : IV z_5 2 3068 := by have := hiv; have := (show IV 2 2 2 from (by decide)); rw [IV, i_6]; omega
  refine k_sld X hX hbl hbA dL_law_449 (by rw [vp_in_iff]; have := iv_7; omega) ?_
  refine k_nm (fun a_8 ea_8 => ?_)
  refine lx_mark (st := []) a_4 a_8 X hx dL_law_450 mw693 (Nat.le_of_ble_eq_true rfl) (Nat.le_of_ble_eq_true rfl) (Nat.le_of_ble_eq_true rfl) (Nat.le_trans h1 (Nat.le_of_ble_eq_true rfl)) (Nat.le_trans h2 (Nat.le_of_ble_eq_true rfl)) (fun r_9 xw_10 hx_11 => ?_)
  refine k_pop X dL_law_453 rfl ?_
  refine k_aload_n X dL_law_454 2 rfl ?_
  refine k_aload_n X dL_law_455 4 rfl ?_
  refine k_iload X dL_law_456 0 rfl ?_
  refine k_iconst (v := 1) X dL_law_458 (by decide) ?_
  refine k_iadd X dL_law_459 ?_
  refine k_to z_1 ez_1.symm ?_
  refine k_sld X hX hbl hbA dL_law_460 (by rw [vp_in_iff]; have := iv_3; omega) ?_
  refine k_to a_4 ea_4.symm ?_
  refine k_aload_n X dL_law_461 4 rfl ?_
  refine k_iload X dL_law_462 0 rfl ?_
  refine k_iconst (v := 2) X dL_law_464 (by decide) ?_
  refine k_iadd X dL_law_465 ?_
  refine k_to z_5 ez_5.symm ?_
  refine k_sld X hX hbl hbA dL_law_466 (by rw [vp_in_iff]; have := iv_7; omega) ?_
  refine k_to a_8 ea_8.symm ?_
  refine lm_mark (st := []) a_4 a_8 X hm dL_law_467 mw699 (Nat.le_of_ble_eq_true rfl) (Nat.le_of_ble_eq_true rfl) (Nat.le_of_ble_eq_true rfl) (Nat.le_trans h1 (Nat.le_of_ble_eq_true rfl)) (Nat.le_trans h2 (Nat.le_of_ble_eq_true rfl)) (fun r_12 mw_13 hm_14 => ?_)
  refine k_pop X dL_law_470 rfl ?_
  refine k_goto 2062 X dL_law_471 (by decide) ?_
  exact kk _ _ _ _ _ _ _ _ _ _ _ _ _ _ _ _ _ _ _ _ _ _ _ _ _ _ _ _ _ _ _ _ _ _ _ _ _ _ _ _ hx_11 hm_14 hR

theorem dL_law_474 : decode cL_law 474 = .ok (.aload_n 1, 1) := dk_43 (kat_7 26 rfl)
theorem dL_law_475 : decode cL_law 475 = .ok (.aload_n 0, 1) := dk_42 (kat_7 27 rfl)
theorem dL_law_476 : decode cL_law 476 = .ok (.iload 4, 2) := dk_21 (kat_7 28 rfl) (kat_7 29 rfl) rfl
theorem dL_law_478 : decode cL_law 478 = .ok (.iconst 1, 1) := dk_4 (kat_7 30 rfl)
theorem dL_law_479 : decode cL_law 479 = .ok (.iadd, 1) := dk_96 (kat_7 31 rfl)
theorem dL_law_480 : decode cL_law 480 = .ok (.iaload, 1) := dk_46 (kat_7 32 rfl)
theorem dL_law_481 : decode cL_law 481 = .ok (.invokevirtual 46, 3) := dk_182 (kat_7 33 rfl) (kat_7 34 rfl) (kat_7 35 rfl) rfl
theorem dL_law_484 : decode cL_law 484 = .ok (.pop, 1) := dk_87 (kat_7 36 rfl)
theorem dL_law_485 : decode cL_law 485 = .ok (.aload_n 2, 1) := dk_44 (kat_7 37 rfl)
theorem dL_law_486 : decode cL_law 486 = .ok (.aload_n 0, 1) := dk_42 (kat_7 38 rfl)
theorem dL_law_487 : decode cL_law 487 = .ok (.iload 4, 2) := dk_21 (kat_7 39 rfl) (kat_7 40 rfl) rfl
theorem dL_law_489 : decode cL_law 489 = .ok (.iconst 1, 1) := dk_4 (kat_7 41 rfl)
theorem dL_law_490 : decode cL_law 490 = .ok (.iadd, 1) := dk_96 (kat_7 42 rfl)
theorem dL_law_491 : decode cL_law 491 = .ok (.iaload, 1) := dk_46 (kat_7 43 rfl)
theorem dL_law_492 : decode cL_law 492 = .ok (.invokevirtual 49, 3) := dk_182 (kat_7 44 rfl) (kat_7 45 rfl) (kat_7 46 rfl) rfl
theorem dL_law_495 : decode cL_law 495 = .ok (.pop, 1) := dk_87 (kat_7 47 rfl)
theorem dL_law_496 : decode cL_law 496 = .ok (.goto 1566, 3) := dk_167 (kat_7 48 rfl) (kat_7 49 rfl) (kat_7 50 rfl) (by decide)
set_option maxHeartbeats 4000000 in
set_option maxRecDepth 100000 in
theorem law_c6 {p : Program} {l : Launch} {e : Env} {s : State} {m : MethodId} {below : List Frame} {meth : Method} {c : Code} {A : Nat → Prop} {g : Gx} {b L : Nat} {xs : Nat → Int32} {h0 mo lo n1 n2 : Nat} {fo : Nat → Int64} {u4 : Int32} {xtpd : Int32} {tpf : Nat → Int32} {yhnf : Nat → Int32} {yhtn : Int32} {yhtf : Nat → Int32} {yhjn : Int32} {yhjf : Nat → Int32} {yhmn : Int32} {yhmf : Nat → Int32} {yhbn : Int32} {yhbf : Nat → Int32} {yhsn : Int32} {yhsf : Nat → Int32} {yhcn : Int32} {yhcf : Nat → Int32} {zrn : Int32} {zmn : Int32} {zwn : Int32} {zpn : Int32} {zmd : Int32} {ztr : Int32} {zrf : Nat → Int32} {zmf : Nat → Int32} {zwf : Nat → Int32} {zpf : Nat → Int32} {kac : Int32} {knx : Int32} {kim : Int32} {cf : Nat → SC} {m_taped : Int32} {d_tape : Nat → Int32} {d_r : Nat → Int32} {d_st : Nat → Int32} {d_undone : Nat → Int32} {d_kept : Nat → Int32} {m_undos : Int32} {m_images : Int32} {m_hasHouse : Int32} {xw mw : va_W} (X : Cx p s m meth c #[Value.ref b] cL_law 7 RL A g) (hX : va_X b L xs s s.heap) (hbl : b < s.heap.size) (hbA : ¬ A b) (hi : 0 ≤ u4.toInt ∧ u4.toInt + 6 ≤ (L : Int)) (hL : L ≤ 3072) (h1 : n1 ≤ 601023) (h2 : n2 ≤ 7293028) (hlt : l.stackTraces = false) (hZ : kZ A s s.heap) (htsE : ∀ w ∈ wsE, w.before #[Value.ref b] s = true) (hx : XW g h0 xtpd tpf yhnf yhtn yhtf yhjn yhjf yhmn yhmf yhbn yhbf yhsn yhsf yhcn yhcf zrn zmn zwn zpn zmd ztr zrf zmf zwf zpf kac knx kim cf xw) (hm : MW g mo m_taped d_tape d_r d_st d_undone d_kept m_undos m_images m_hasHouse mw) (hR : LR xtpd tpf yhnf yhtn yhtf yhjn yhjf yhmn yhmf yhbn yhbf yhsn yhsf yhcn yhcf zrn zmn zwn zpn zmd ztr zrf zmf zwf zpf kac knx kim cf m_taped d_tape d_r d_st d_undone d_kept m_undos m_images m_hasHouse) (kk : ∀ (xtpd_2 : Int32) (tpf_2 : Nat → Int32) (yhnf_2 : Nat → Int32) (yhtn_2 : Int32) (yhtf_2 : Nat → Int32) (yhjn_2 : Int32) (yhjf_2 : Nat → Int32) (yhmn_2 : Int32) (yhmf_2 : Nat → Int32) (yhbn_2 : Int32) (yhbf_2 : Nat → Int32) (yhsn_2 : Int32) (yhsf_2 : Nat → Int32) (yhcn_2 : Int32) (yhcf_2 : Nat → Int32) (zrn_2 : Int32) (zmn_2 : Int32) (zwn_2 : Int32) (zpn_2 : Int32) (zmd_2 : Int32) (ztr_2 : Int32) (zrf_2 : Nat → Int32) (zmf_2 : Nat → Int32) (zwf_2 : Nat → Int32) (zpf_2 : Nat → Int32) (kac_2 : Int32) (knx_2 : Int32) (kim_2 : Int32) (cf_2 : Nat → SC) (m_taped_2 : Int32) (d_tape_2 : Nat → Int32) (d_r_2 : Nat → Int32) (d_st_2 : Nat → Int32) (d_undone_2 : Nat → Int32) (d_kept_2 : Nat → Int32) (m_undos_2 : Int32) (m_images_2 : Int32) (m_hasHouse_2 : Int32) (xw2 mw2 : va_W), XW g h0 xtpd_2 tpf_2 yhnf_2 yhtn_2 yhtf_2 yhjn_2 yhjf_2 yhmn_2 yhmf_2 yhbn_2 yhbf_2 yhsn_2 yhsf_2 yhcn_2 yhcf_2 zrn_2 zmn_2 zwn_2 zpn_2 zmd_2 ztr_2 zrf_2 zmf_2 zwf_2 zpf_2 kac_2 knx_2 kim_2 cf_2 xw2 → MW g mo m_taped_2 d_tape_2 d_r_2 d_st_2 d_undone_2 d_kept_2 m_undos_2 m_images_2 m_hasHouse_2 mw2 → LR xtpd_2 tpf_2 yhnf_2 yhtn_2 yhtf_2 yhjn_2 yhjf_2 yhmn_2 yhmf_2 yhbn_2 yhbf_2 yhsn_2 yhsf_2 yhcn_2 yhcf_2 zrn_2 zmn_2 zwn_2 zpn_2 zmd_2 ztr_2 zrf_2 zmf_2 zwf_2 zpf_2 kac_2 knx_2 kim_2 cf_2 m_taped_2 d_tape_2 d_r_2 d_st_2 d_undone_2 d_kept_2 m_undos_2 m_images_2 m_hasHouse_2 → Wk p l e room_1 s m #[Value.ref b] below meth c (lw_Z below #[Value.ref b] s) A g 7 n1 n2 (xw2 ++ (mw2 ++ [(cAJ g lo 1 fo)])) [(4, .int u4), (3, .ref lo), (2, .ref mo), (1, .ref h0), (0, .ref b)] 2062 []) : Wk p l e room_1 s m #[Value.ref b] below meth c (lw_Z below #[Value.ref b] s) A g 7 n1 n2 (xw ++ (mw ++ [(cAJ g lo 1 fo)])) [(4, .int u4), (3, .ref lo), (2, .ref mo), (1, .ref h0), (0, .ref b)] 474 [] := by
  have hiv : IV u4 0 3066 := ⟨hi.1, by omega⟩
  refine k_aload_n X dL_law_474 3 rfl ?_
  refine k_aload_n X dL_law_475 4 rfl ?_
  refine k_iload X dL_law_476 0 rfl ?_
  refine k_iconst (v := 1) X dL_law_478 (by decide) ?_
  refine k_iadd X dL_law_479 ?_
  refine k_nm (fun z_1 ez_1 => ?_)
  have i_2 : z_1.toInt = u4.toInt + 1 := in_add ez_1 hiv (show IV 1 1 1 from (by decide)) (by decide) (by decide)
  have iv_3 : IV z_1 1 3067 := by have := hiv; have := (show IV 1 1 1 from (by decide)); rw [IV, i_2]; omega
  refine k_sld X hX hbl hbA dL_law_480 (by rw [vp_in_iff]; have := iv_3; omega) ?_
  refine k_nm (fun a_4 ea_4 => ?_)
  refine lx_shows (st := []) a_4 X hx dL_law_481 mw707 (Nat.le_of_ble_eq_true rfl) (Nat.le_of_ble_eq_true rfl) (Nat.le_of_ble_eq_true rfl) (Nat.le_trans h1 (Nat.le_of_ble_eq_true rfl)) (Nat.le_trans h2 (Nat.le_of_ble_eq_true rfl)) (fun r_5 xw_6 hx_7 => ?_)
  refine k_pop X dL_law_484 rfl ?_
  refine k_aload_n X dL_law_485 2 rfl ?_
  refine k_aload_n X dL_law_486 4 rfl ?_
  refine k_iload X dL_law_487 0 rfl ?_
  refine k_iconst (v := 1) X dL_law_489 (by decide) ?_
  refine k_iadd X dL_law_490 ?_
  refine k_to z_1 ez_1.symm ?_
  refine k_sld X hX hbl hbA dL_law_491 (by rw [vp_in_iff]; have := iv_3; omega) ?_
  refine k_to a_4 ea_4.symm ?_
  refine lm_shows (st := []) a_4 X hm dL_law_492 mw715 (Nat.le_of_ble_eq_true rfl) (Nat.le_of_ble_eq_true rfl) (Nat.le_of_ble_eq_true rfl) (Nat.le_trans h1 (Nat.le_of_ble_eq_true rfl)) (Nat.le_trans h2 (Nat.le_of_ble_eq_true rfl)) (fun r_8 mw_9 hm_10 => ?_)
  refine k_pop X dL_law_495 rfl ?_
  refine k_goto 2062 X dL_law_496 (by decide) ?_
  exact kk _ _ _ _ _ _ _ _ _ _ _ _ _ _ _ _ _ _ _ _ _ _ _ _ _ _ _ _ _ _ _ _ _ _ _ _ _ _ _ _ hx_7 hm_10 hR

theorem dL_law_499 : decode cL_law 499 = .ok (.aload_n 1, 1) := dk_43 (kat_7 51 rfl)
theorem dL_law_500 : decode cL_law 500 = .ok (.aload_n 0, 1) := dk_42 (kat_7 52 rfl)
theorem dL_law_501 : decode cL_law 501 = .ok (.iload 4, 2) := dk_21 (kat_7 53 rfl) (kat_7 54 rfl) rfl
theorem dL_law_503 : decode cL_law 503 = .ok (.iconst 1, 1) := dk_4 (kat_7 55 rfl)
theorem dL_law_504 : decode cL_law 504 = .ok (.iadd, 1) := dk_96 (kat_7 56 rfl)
theorem dL_law_505 : decode cL_law 505 = .ok (.iaload, 1) := dk_46 (kat_7 57 rfl)
theorem dL_law_506 : decode cL_law 506 = .ok (.invokevirtual 50, 3) := dk_182 (kat_7 58 rfl) (kat_7 59 rfl) (kat_7 60 rfl) rfl
theorem dL_law_509 : decode cL_law 509 = .ok (.pop, 1) := dk_87 (kat_7 61 rfl)
theorem dL_law_510 : decode cL_law 510 = .ok (.aload_n 2, 1) := dk_44 (kat_7 62 rfl)
theorem dL_law_511 : decode cL_law 511 = .ok (.aload_n 0, 1) := dk_42 (kat_7 63 rfl)
theorem dL_law_512 : decode cL_law 512 = .ok (.iload 4, 2) := dk_21 (kat_8 0 rfl) (kat_8 1 rfl) rfl
theorem dL_law_514 : decode cL_law 514 = .ok (.iconst 1, 1) := dk_4 (kat_8 2 rfl)
theorem dL_law_515 : decode cL_law 515 = .ok (.iadd, 1) := dk_96 (kat_8 3 rfl)
theorem dL_law_516 : decode cL_law 516 = .ok (.iaload, 1) := dk_46 (kat_8 4 rfl)
theorem dL_law_517 : decode cL_law 517 = .ok (.invokevirtual 53, 3) := dk_182 (kat_8 5 rfl) (kat_8 6 rfl) (kat_8 7 rfl) rfl
theorem dL_law_520 : decode cL_law 520 = .ok (.pop, 1) := dk_87 (kat_8 8 rfl)
theorem dL_law_521 : decode cL_law 521 = .ok (.goto 1541, 3) := dk_167 (kat_8 9 rfl) (kat_8 10 rfl) (kat_8 11 rfl) (by decide)
set_option maxHeartbeats 4000000 in
set_option maxRecDepth 100000 in
theorem law_c7 {p : Program} {l : Launch} {e : Env} {s : State} {m : MethodId} {below : List Frame} {meth : Method} {c : Code} {A : Nat → Prop} {g : Gx} {b L : Nat} {xs : Nat → Int32} {h0 mo lo n1 n2 : Nat} {fo : Nat → Int64} {u4 : Int32} {xtpd : Int32} {tpf : Nat → Int32} {yhnf : Nat → Int32} {yhtn : Int32} {yhtf : Nat → Int32} {yhjn : Int32} {yhjf : Nat → Int32} {yhmn : Int32} {yhmf : Nat → Int32} {yhbn : Int32} {yhbf : Nat → Int32} {yhsn : Int32} {yhsf : Nat → Int32} {yhcn : Int32} {yhcf : Nat → Int32} {zrn : Int32} {zmn : Int32} {zwn : Int32} {zpn : Int32} {zmd : Int32} {ztr : Int32} {zrf : Nat → Int32} {zmf : Nat → Int32} {zwf : Nat → Int32} {zpf : Nat → Int32} {kac : Int32} {knx : Int32} {kim : Int32} {cf : Nat → SC} {m_taped : Int32} {d_tape : Nat → Int32} {d_r : Nat → Int32} {d_st : Nat → Int32} {d_undone : Nat → Int32} {d_kept : Nat → Int32} {m_undos : Int32} {m_images : Int32} {m_hasHouse : Int32} {xw mw : va_W} (X : Cx p s m meth c #[Value.ref b] cL_law 7 RL A g) (hX : va_X b L xs s s.heap) (hbl : b < s.heap.size) (hbA : ¬ A b) (hi : 0 ≤ u4.toInt ∧ u4.toInt + 6 ≤ (L : Int)) (hL : L ≤ 3072) (h1 : n1 ≤ 601023) (h2 : n2 ≤ 7293028) (hlt : l.stackTraces = false) (hZ : kZ A s s.heap) (htsE : ∀ w ∈ wsE, w.before #[Value.ref b] s = true) (hx : XW g h0 xtpd tpf yhnf yhtn yhtf yhjn yhjf yhmn yhmf yhbn yhbf yhsn yhsf yhcn yhcf zrn zmn zwn zpn zmd ztr zrf zmf zwf zpf kac knx kim cf xw) (hm : MW g mo m_taped d_tape d_r d_st d_undone d_kept m_undos m_images m_hasHouse mw) (hR : LR xtpd tpf yhnf yhtn yhtf yhjn yhjf yhmn yhmf yhbn yhbf yhsn yhsf yhcn yhcf zrn zmn zwn zpn zmd ztr zrf zmf zwf zpf kac knx kim cf m_taped d_tape d_r d_st d_undone d_kept m_undos m_images m_hasHouse) (kk : ∀ (xtpd_2 : Int32) (tpf_2 : Nat → Int32) (yhnf_2 : Nat → Int32) (yhtn_2 : Int32) (yhtf_2 : Nat → Int32) (yhjn_2 : Int32) (yhjf_2 : Nat → Int32) (yhmn_2 : Int32) (yhmf_2 : Nat → Int32) (yhbn_2 : Int32) (yhbf_2 : Nat → Int32) (yhsn_2 : Int32) (yhsf_2 : Nat → Int32) (yhcn_2 : Int32) (yhcf_2 : Nat → Int32) (zrn_2 : Int32) (zmn_2 : Int32) (zwn_2 : Int32) (zpn_2 : Int32) (zmd_2 : Int32) (ztr_2 : Int32) (zrf_2 : Nat → Int32) (zmf_2 : Nat → Int32) (zwf_2 : Nat → Int32) (zpf_2 : Nat → Int32) (kac_2 : Int32) (knx_2 : Int32) (kim_2 : Int32) (cf_2 : Nat → SC) (m_taped_2 : Int32) (d_tape_2 : Nat → Int32) (d_r_2 : Nat → Int32) (d_st_2 : Nat → Int32) (d_undone_2 : Nat → Int32) (d_kept_2 : Nat → Int32) (m_undos_2 : Int32) (m_images_2 : Int32) (m_hasHouse_2 : Int32) (xw2 mw2 : va_W), XW g h0 xtpd_2 tpf_2 yhnf_2 yhtn_2 yhtf_2 yhjn_2 yhjf_2 yhmn_2 yhmf_2 yhbn_2 yhbf_2 yhsn_2 yhsf_2 yhcn_2 yhcf_2 zrn_2 zmn_2 zwn_2 zpn_2 zmd_2 ztr_2 zrf_2 zmf_2 zwf_2 zpf_2 kac_2 knx_2 kim_2 cf_2 xw2 → MW g mo m_taped_2 d_tape_2 d_r_2 d_st_2 d_undone_2 d_kept_2 m_undos_2 m_images_2 m_hasHouse_2 mw2 → LR xtpd_2 tpf_2 yhnf_2 yhtn_2 yhtf_2 yhjn_2 yhjf_2 yhmn_2 yhmf_2 yhbn_2 yhbf_2 yhsn_2 yhsf_2 yhcn_2 yhcf_2 zrn_2 zmn_2 zwn_2 zpn_2 zmd_2 ztr_2 zrf_2 zmf_2 zwf_2 zpf_2 kac_2 knx_2 kim_2 cf_2 m_taped_2 d_tape_2 d_r_2 d_st_2 d_undone_2 d_kept_2 m_undos_2 m_images_2 m_hasHouse_2 → Wk p l e room_1 s m #[Value.ref b] below meth c (lw_Z below #[Value.ref b] s) A g 7 n1 n2 (xw2 ++ (mw2 ++ [(cAJ g lo 1 fo)])) [(4, .int u4), (3, .ref lo), (2, .ref mo), (1, .ref h0), (0, .ref b)] 2062 []) : Wk p l e room_1 s m #[Value.ref b] below meth c (lw_Z below #[Value.ref b] s) A g 7 n1 n2 (xw ++ (mw ++ [(cAJ g lo 1 fo)])) [(4, .int u4), (3, .ref lo), (2, .ref mo), (1, .ref h0), (0, .ref b)] 499 [] := by
  have hiv : IV u4 0 3066 := ⟨hi.1, by omega⟩
  refine k_aload_n X dL_law_499 3 rfl ?_
  refine k_aload_n X dL_law_500 4 rfl ?_
  refine k_iload X dL_law_501 0 rfl ?_
  refine k_iconst (v := 1) X dL_law_503 (by decide) ?_
  refine k_iadd X dL_law_504 ?_
  refine k_nm (fun z_1 ez_1 => ?_)
  have i_2 : z_1.toInt = u4.toInt + 1 := in_add ez_1 hiv (show IV 1 1 1 from (by decide)) (by decide) (by decide)
  have iv_3 : IV z_1 1 3067 := by have := hiv; have := (show IV 1 1 1 from (by decide)); rw [IV, i_2]; omega
  refine k_sld X hX hbl hbA dL_law_505 (by rw [vp_in_iff]; have := iv_3; omega) ?_
  refine k_nm (fun a_4 ea_4 => ?_)
  refine lx_thread (st := []) a_4 X hx dL_law_506 mw727 (Nat.le_of_ble_eq_true rfl) (Nat.le_of_ble_eq_true rfl) (Nat.le_of_ble_eq_true rfl) (Nat.le_trans h1 (Nat.le_of_ble_eq_true rfl)) (Nat.le_trans h2 (Nat.le_of_ble_eq_true rfl)) (fun r_5 xw_6 hx_7 => ?_)
  refine k_pop X dL_law_509 rfl ?_
  refine k_aload_n X dL_law_510 2 rfl ?_
  refine k_aload_n X dL_law_511 4 rfl ?_
  refine k_iload X dL_law_512 0 rfl ?_
  refine k_iconst (v := 1) X dL_law_514 (by decide) ?_
  refine k_iadd X dL_law_515 ?_
  refine k_to z_1 ez_1.symm ?_
  refine k_sld X hX hbl hbA dL_law_516 (by rw [vp_in_iff]; have := iv_3; omega) ?_
  refine k_to a_4 ea_4.symm ?_
  refine lm_thread (st := []) a_4 X hm dL_law_517 mw731 (Nat.le_of_ble_eq_true rfl) (Nat.le_of_ble_eq_true rfl) (Nat.le_of_ble_eq_true rfl) (Nat.le_trans h1 (Nat.le_of_ble_eq_true rfl)) (Nat.le_trans h2 (Nat.le_of_ble_eq_true rfl)) (fun r_8 mw_9 hm_10 => ?_)
  refine k_pop X dL_law_520 rfl ?_
  refine k_goto 2062 X dL_law_521 (by decide) ?_
  exact kk _ _ _ _ _ _ _ _ _ _ _ _ _ _ _ _ _ _ _ _ _ _ _ _ _ _ _ _ _ _ _ _ _ _ _ _ _ _ _ _ hx_7 hm_10 hR

theorem dL_law_524 : decode cL_law 524 = .ok (.aload_n 1, 1) := dk_43 (kat_8 12 rfl)
theorem dL_law_525 : decode cL_law 525 = .ok (.aload_n 0, 1) := dk_42 (kat_8 13 rfl)
theorem dL_law_526 : decode cL_law 526 = .ok (.iload 4, 2) := dk_21 (kat_8 14 rfl) (kat_8 15 rfl) rfl
theorem dL_law_528 : decode cL_law 528 = .ok (.iconst 1, 1) := dk_4 (kat_8 16 rfl)
theorem dL_law_529 : decode cL_law 529 = .ok (.iadd, 1) := dk_96 (kat_8 17 rfl)
theorem dL_law_530 : decode cL_law 530 = .ok (.iaload, 1) := dk_46 (kat_8 18 rfl)
theorem dL_law_531 : decode cL_law 531 = .ok (.aload_n 0, 1) := dk_42 (kat_8 19 rfl)
theorem dL_law_532 : decode cL_law 532 = .ok (.iload 4, 2) := dk_21 (kat_8 20 rfl) (kat_8 21 rfl) rfl
theorem dL_law_534 : decode cL_law 534 = .ok (.iconst 2, 1) := dk_5 (kat_8 22 rfl)
theorem dL_law_535 : decode cL_law 535 = .ok (.iadd, 1) := dk_96 (kat_8 23 rfl)
theorem dL_law_536 : decode cL_law 536 = .ok (.iaload, 1) := dk_46 (kat_8 24 rfl)
theorem dL_law_537 : decode cL_law 537 = .ok (.invokevirtual 54, 3) := dk_182 (kat_8 25 rfl) (kat_8 26 rfl) (kat_8 27 rfl) rfl
theorem dL_law_540 : decode cL_law 540 = .ok (.pop, 1) := dk_87 (kat_8 28 rfl)
theorem dL_law_541 : decode cL_law 541 = .ok (.aload_n 2, 1) := dk_44 (kat_8 29 rfl)
theorem dL_law_542 : decode cL_law 542 = .ok (.aload_n 0, 1) := dk_42 (kat_8 30 rfl)
theorem dL_law_543 : decode cL_law 543 = .ok (.iload 4, 2) := dk_21 (kat_8 31 rfl) (kat_8 32 rfl) rfl
theorem dL_law_545 : decode cL_law 545 = .ok (.iconst 1, 1) := dk_4 (kat_8 33 rfl)
theorem dL_law_546 : decode cL_law 546 = .ok (.iadd, 1) := dk_96 (kat_8 34 rfl)
theorem dL_law_547 : decode cL_law 547 = .ok (.iaload, 1) := dk_46 (kat_8 35 rfl)
theorem dL_law_548 : decode cL_law 548 = .ok (.aload_n 0, 1) := dk_42 (kat_8 36 rfl)
theorem dL_law_549 : decode cL_law 549 = .ok (.iload 4, 2) := dk_21 (kat_8 37 rfl) (kat_8 38 rfl) rfl
theorem dL_law_551 : decode cL_law 551 = .ok (.iconst 2, 1) := dk_5 (kat_8 39 rfl)
theorem dL_law_552 : decode cL_law 552 = .ok (.iadd, 1) := dk_96 (kat_8 40 rfl)
theorem dL_law_553 : decode cL_law 553 = .ok (.iaload, 1) := dk_46 (kat_8 41 rfl)
theorem dL_law_554 : decode cL_law 554 = .ok (.invokevirtual 57, 3) := dk_182 (kat_8 42 rfl) (kat_8 43 rfl) (kat_8 44 rfl) rfl
theorem dL_law_557 : decode cL_law 557 = .ok (.pop, 1) := dk_87 (kat_8 45 rfl)
theorem dL_law_558 : decode cL_law 558 = .ok (.goto 1504, 3) := dk_167 (kat_8 46 rfl) (kat_8 47 rfl) (kat_8 48 rfl) (by decide)
set_option maxHeartbeats 4000000 in
set_option maxRecDepth 100000 in
theorem law_c8 {p : Program} {l : Launch} {e : Env} {s : State} {m : MethodId} {below : List Frame} {meth : Method} {c : Code} {A : Nat → Prop} {g : Gx} {b L : Nat} {xs : Nat → Int32} {h0 mo lo n1 n2 : Nat} {fo : Nat → Int64} {u4 : Int32} {xtpd : Int32} {tpf : Nat → Int32} {yhnf : Nat → Int32} {yhtn : Int32} {yhtf : Nat → Int32} {yhjn : Int32} {yhjf : Nat → Int32} {yhmn : Int32} {yhmf : Nat → Int32} {yhbn : Int32} {yhbf : Nat → Int32} {yhsn : Int32} {yhsf : Nat → Int32} {yhcn : Int32} {yhcf : Nat → Int32} {zrn : Int32} {zmn : Int32} {zwn : Int32} {zpn : Int32} {zmd : Int32} {ztr : Int32} {zrf : Nat → Int32} {zmf : Nat → Int32} {zwf : Nat → Int32} {zpf : Nat → Int32} {kac : Int32} {knx : Int32} {kim : Int32} {cf : Nat → SC} {m_taped : Int32} {d_tape : Nat → Int32} {d_r : Nat → Int32} {d_st : Nat → Int32} {d_undone : Nat → Int32} {d_kept : Nat → Int32} {m_undos : Int32} {m_images : Int32} {m_hasHouse : Int32} {xw mw : va_W} (X : Cx p s m meth c #[Value.ref b] cL_law 7 RL A g) (hX : va_X b L xs s s.heap) (hbl : b < s.heap.size) (hbA : ¬ A b) (hi : 0 ≤ u4.toInt ∧ u4.toInt + 6 ≤ (L : Int)) (hL : L ≤ 3072) (h1 : n1 ≤ 601023) (h2 : n2 ≤ 7293028) (hlt : l.stackTraces = false) (hZ : kZ A s s.heap) (htsE : ∀ w ∈ wsE, w.before #[Value.ref b] s = true) (hx : XW g h0 xtpd tpf yhnf yhtn yhtf yhjn yhjf yhmn yhmf yhbn yhbf yhsn yhsf yhcn yhcf zrn zmn zwn zpn zmd ztr zrf zmf zwf zpf kac knx kim cf xw) (hm : MW g mo m_taped d_tape d_r d_st d_undone d_kept m_undos m_images m_hasHouse mw) (hR : LR xtpd tpf yhnf yhtn yhtf yhjn yhjf yhmn yhmf yhbn yhbf yhsn yhsf yhcn yhcf zrn zmn zwn zpn zmd ztr zrf zmf zwf zpf kac knx kim cf m_taped d_tape d_r d_st d_undone d_kept m_undos m_images m_hasHouse) (kk : ∀ (xtpd_2 : Int32) (tpf_2 : Nat → Int32) (yhnf_2 : Nat → Int32) (yhtn_2 : Int32) (yhtf_2 : Nat → Int32) (yhjn_2 : Int32) (yhjf_2 : Nat → Int32) (yhmn_2 : Int32) (yhmf_2 : Nat → Int32) (yhbn_2 : Int32) (yhbf_2 : Nat → Int32) (yhsn_2 : Int32) (yhsf_2 : Nat → Int32) (yhcn_2 : Int32) (yhcf_2 : Nat → Int32) (zrn_2 : Int32) (zmn_2 : Int32) (zwn_2 : Int32) (zpn_2 : Int32) (zmd_2 : Int32) (ztr_2 : Int32) (zrf_2 : Nat → Int32) (zmf_2 : Nat → Int32) (zwf_2 : Nat → Int32) (zpf_2 : Nat → Int32) (kac_2 : Int32) (knx_2 : Int32) (kim_2 : Int32) (cf_2 : Nat → SC) (m_taped_2 : Int32) (d_tape_2 : Nat → Int32) (d_r_2 : Nat → Int32) (d_st_2 : Nat → Int32) (d_undone_2 : Nat → Int32) (d_kept_2 : Nat → Int32) (m_undos_2 : Int32) (m_images_2 : Int32) (m_hasHouse_2 : Int32) (xw2 mw2 : va_W), XW g h0 xtpd_2 tpf_2 yhnf_2 yhtn_2 yhtf_2 yhjn_2 yhjf_2 yhmn_2 yhmf_2 yhbn_2 yhbf_2 yhsn_2 yhsf_2 yhcn_2 yhcf_2 zrn_2 zmn_2 zwn_2 zpn_2 zmd_2 ztr_2 zrf_2 zmf_2 zwf_2 zpf_2 kac_2 knx_2 kim_2 cf_2 xw2 → MW g mo m_taped_2 d_tape_2 d_r_2 d_st_2 d_undone_2 d_kept_2 m_undos_2 m_images_2 m_hasHouse_2 mw2 → LR xtpd_2 tpf_2 yhnf_2 yhtn_2 yhtf_2 yhjn_2 yhjf_2 yhmn_2 yhmf_2 yhbn_2 yhbf_2 yhsn_2 yhsf_2 yhcn_2 yhcf_2 zrn_2 zmn_2 zwn_2 zpn_2 zmd_2 ztr_2 zrf_2 zmf_2 zwf_2 zpf_2 kac_2 knx_2 kim_2 cf_2 m_taped_2 d_tape_2 d_r_2 d_st_2 d_undone_2 d_kept_2 m_undos_2 m_images_2 m_hasHouse_2 → Wk p l e room_1 s m #[Value.ref b] below meth c (lw_Z below #[Value.ref b] s) A g 7 n1 n2 (xw2 ++ (mw2 ++ [(cAJ g lo 1 fo)])) [(4, .int u4), (3, .ref lo), (2, .ref mo), (1, .ref h0), (0, .ref b)] 2062 []) : Wk p l e room_1 s m #[Value.ref b] below meth c (lw_Z below #[Value.ref b] s) A g 7 n1 n2 (xw ++ (mw ++ [(cAJ g lo 1 fo)])) [(4, .int u4), (3, .ref lo), (2, .ref mo), (1, .ref h0), (0, .ref b)] 524 [] := by
  have hiv : IV u4 0 3066 := ⟨hi.1, by omega⟩
  refine k_aload_n X dL_law_524 3 rfl ?_
  refine k_aload_n X dL_law_525 4 rfl ?_
  refine k_iload X dL_law_526 0 rfl ?_
  refine k_iconst (v := 1) X dL_law_528 (by decide) ?_
  refine k_iadd X dL_law_529 ?_
  refine k_nm (fun z_1 ez_1 => ?_)
  have i_2 : z_1.toInt = u4.toInt + 1 := in_add ez_1 hiv (show IV 1 1 1 from (by decide)) (by decide) (by decide)
  have iv_3 : IV z_1 1 3067 := by have := hiv; have := (show IV 1 1 1 from (by decide)); rw [IV, i_2]; omega
  refine k_sld X hX hbl hbA dL_law_530 (by rw [vp_in_iff]; have := iv_3; omega) ?_
  refine k_nm (fun a_4 ea_4 => ?_)
  refine k_aload_n X dL_law_531 4 rfl ?_
  refine k_iload X dL_law_532 0 rfl ?_
  refine k_iconst (v := 2) X dL_law_534 (by decide) ?_
  refine k_iadd X dL_law_535 ?_
  refine k_nm (fun z_5 ez_5 => ?_)
  have i_6 : z_5.toInt = u4.toInt + 2 := in_add ez_5 hiv (show IV 2 2 2 from (by decide)) (by decide) (by decide)
  have iv_7 : IV z_5 2 3068 := by have := hiv; have := (show IV 2 2 2 from (by decide)); rw [IV, i_6]; omega
  refine k_sld X hX hbl hbA dL_law_536 (by rw [vp_in_iff]; have := iv_7; omega) ?_
  refine k_nm (fun a_8 ea_8 => ?_)
  refine lx_believes (st := []) a_4 a_8 X hx dL_law_537 mw735 (Nat.le_of_ble_eq_true rfl) (Nat.le_of_ble_eq_true rfl) (Nat.le_of_ble_eq_true rfl) (Nat.le_trans h1 (Nat.le_of_ble_eq_true rfl)) (Nat.le_trans h2 (Nat.le_of_ble_eq_true rfl)) (fun r_9 xw_10 hx_11 => ?_)
  refine k_pop X dL_law_540 rfl ?_
  refine k_aload_n X dL_law_541 2 rfl ?_
  refine k_aload_n X dL_law_542 4 rfl ?_
  refine k_iload X dL_law_543 0 rfl ?_
  refine k_iconst (v := 1) X dL_law_545 (by decide) ?_
  refine k_iadd X dL_law_546 ?_
  refine k_to z_1 ez_1.symm ?_
  refine k_sld X hX hbl hbA dL_law_547 (by rw [vp_in_iff]; have := iv_3; omega) ?_
  refine k_to a_4 ea_4.symm ?_
  refine k_aload_n X dL_law_548 4 rfl ?_
  refine k_iload X dL_law_549 0 rfl ?_
  refine k_iconst (v := 2) X dL_law_551 (by decide) ?_
  refine k_iadd X dL_law_552 ?_
  refine k_to z_5 ez_5.symm ?_
  refine k_sld X hX hbl hbA dL_law_553 (by rw [vp_in_iff]; have := iv_7; omega) ?_
  refine k_to a_8 ea_8.symm ?_
  refine lm_believes (st := []) a_4 a_8 X hm dL_law_554 mw803 (Nat.le_of_ble_eq_true rfl) (Nat.le_of_ble_eq_true rfl) (Nat.le_of_ble_eq_true rfl) (Nat.le_trans h1 (Nat.le_of_ble_eq_true rfl)) (Nat.le_trans h2 (Nat.le_of_ble_eq_true rfl)) (fun r_12 mw_13 hm_14 => ?_)
  refine k_pop X dL_law_557 rfl ?_
  refine k_goto 2062 X dL_law_558 (by decide) ?_
  exact kk _ _ _ _ _ _ _ _ _ _ _ _ _ _ _ _ _ _ _ _ _ _ _ _ _ _ _ _ _ _ _ _ _ _ _ _ _ _ _ _ hx_11 hm_14 hR

theorem dL_law_561 : decode cL_law 561 = .ok (.aload_n 1, 1) := dk_43 (kat_8 49 rfl)
theorem dL_law_562 : decode cL_law 562 = .ok (.aload_n 0, 1) := dk_42 (kat_8 50 rfl)
theorem dL_law_563 : decode cL_law 563 = .ok (.iload 4, 2) := dk_21 (kat_8 51 rfl) (kat_8 52 rfl) rfl
theorem dL_law_565 : decode cL_law 565 = .ok (.iconst 1, 1) := dk_4 (kat_8 53 rfl)
theorem dL_law_566 : decode cL_law 566 = .ok (.iadd, 1) := dk_96 (kat_8 54 rfl)
theorem dL_law_567 : decode cL_law 567 = .ok (.iaload, 1) := dk_46 (kat_8 55 rfl)
theorem dL_law_568 : decode cL_law 568 = .ok (.aload_n 0, 1) := dk_42 (kat_8 56 rfl)
theorem dL_law_569 : decode cL_law 569 = .ok (.iload 4, 2) := dk_21 (kat_8 57 rfl) (kat_8 58 rfl) rfl
theorem dL_law_571 : decode cL_law 571 = .ok (.iconst 2, 1) := dk_5 (kat_8 59 rfl)
theorem dL_law_572 : decode cL_law 572 = .ok (.iadd, 1) := dk_96 (kat_8 60 rfl)
theorem dL_law_573 : decode cL_law 573 = .ok (.iaload, 1) := dk_46 (kat_8 61 rfl)
theorem dL_law_574 : decode cL_law 574 = .ok (.invokevirtual 58, 3) := dk_182 (kat_8 62 rfl) (kat_8 63 rfl) (kat_9 0 rfl) rfl
theorem dL_law_577 : decode cL_law 577 = .ok (.pop, 1) := dk_87 (kat_9 1 rfl)
theorem dL_law_578 : decode cL_law 578 = .ok (.aload_n 2, 1) := dk_44 (kat_9 2 rfl)
theorem dL_law_579 : decode cL_law 579 = .ok (.aload_n 0, 1) := dk_42 (kat_9 3 rfl)
theorem dL_law_580 : decode cL_law 580 = .ok (.iload 4, 2) := dk_21 (kat_9 4 rfl) (kat_9 5 rfl) rfl
theorem dL_law_582 : decode cL_law 582 = .ok (.iconst 1, 1) := dk_4 (kat_9 6 rfl)
theorem dL_law_583 : decode cL_law 583 = .ok (.iadd, 1) := dk_96 (kat_9 7 rfl)
theorem dL_law_584 : decode cL_law 584 = .ok (.iaload, 1) := dk_46 (kat_9 8 rfl)
theorem dL_law_585 : decode cL_law 585 = .ok (.aload_n 0, 1) := dk_42 (kat_9 9 rfl)
theorem dL_law_586 : decode cL_law 586 = .ok (.iload 4, 2) := dk_21 (kat_9 10 rfl) (kat_9 11 rfl) rfl
theorem dL_law_588 : decode cL_law 588 = .ok (.iconst 2, 1) := dk_5 (kat_9 12 rfl)
theorem dL_law_589 : decode cL_law 589 = .ok (.iadd, 1) := dk_96 (kat_9 13 rfl)
theorem dL_law_590 : decode cL_law 590 = .ok (.iaload, 1) := dk_46 (kat_9 14 rfl)
theorem dL_law_591 : decode cL_law 591 = .ok (.invokevirtual 61, 3) := dk_182 (kat_9 15 rfl) (kat_9 16 rfl) (kat_9 17 rfl) rfl
theorem dL_law_594 : decode cL_law 594 = .ok (.pop, 1) := dk_87 (kat_9 18 rfl)
theorem dL_law_595 : decode cL_law 595 = .ok (.goto 1467, 3) := dk_167 (kat_9 19 rfl) (kat_9 20 rfl) (kat_9 21 rfl) (by decide)
set_option maxHeartbeats 4000000 in
set_option maxRecDepth 100000 in
theorem law_c9 {p : Program} {l : Launch} {e : Env} {s : State} {m : MethodId} {below : List Frame} {meth : Method} {c : Code} {A : Nat → Prop} {g : Gx} {b L : Nat} {xs : Nat → Int32} {h0 mo lo n1 n2 : Nat} {fo : Nat → Int64} {u4 : Int32} {xtpd : Int32} {tpf : Nat → Int32} {yhnf : Nat → Int32} {yhtn : Int32} {yhtf : Nat → Int32} {yhjn : Int32} {yhjf : Nat → Int32} {yhmn : Int32} {yhmf : Nat → Int32} {yhbn : Int32} {yhbf : Nat → Int32} {yhsn : Int32} {yhsf : Nat → Int32} {yhcn : Int32} {yhcf : Nat → Int32} {zrn : Int32} {zmn : Int32} {zwn : Int32} {zpn : Int32} {zmd : Int32} {ztr : Int32} {zrf : Nat → Int32} {zmf : Nat → Int32} {zwf : Nat → Int32} {zpf : Nat → Int32} {kac : Int32} {knx : Int32} {kim : Int32} {cf : Nat → SC} {m_taped : Int32} {d_tape : Nat → Int32} {d_r : Nat → Int32} {d_st : Nat → Int32} {d_undone : Nat → Int32} {d_kept : Nat → Int32} {m_undos : Int32} {m_images : Int32} {m_hasHouse : Int32} {xw mw : va_W} (X : Cx p s m meth c #[Value.ref b] cL_law 7 RL A g) (hX : va_X b L xs s s.heap) (hbl : b < s.heap.size) (hbA : ¬ A b) (hi : 0 ≤ u4.toInt ∧ u4.toInt + 6 ≤ (L : Int)) (hL : L ≤ 3072) (h1 : n1 ≤ 601023) (h2 : n2 ≤ 7293028) (hlt : l.stackTraces = false) (hZ : kZ A s s.heap) (htsE : ∀ w ∈ wsE, w.before #[Value.ref b] s = true) (hx : XW g h0 xtpd tpf yhnf yhtn yhtf yhjn yhjf yhmn yhmf yhbn yhbf yhsn yhsf yhcn yhcf zrn zmn zwn zpn zmd ztr zrf zmf zwf zpf kac knx kim cf xw) (hm : MW g mo m_taped d_tape d_r d_st d_undone d_kept m_undos m_images m_hasHouse mw) (hR : LR xtpd tpf yhnf yhtn yhtf yhjn yhjf yhmn yhmf yhbn yhbf yhsn yhsf yhcn yhcf zrn zmn zwn zpn zmd ztr zrf zmf zwf zpf kac knx kim cf m_taped d_tape d_r d_st d_undone d_kept m_undos m_images m_hasHouse) (kk : ∀ (xtpd_2 : Int32) (tpf_2 : Nat → Int32) (yhnf_2 : Nat → Int32) (yhtn_2 : Int32) (yhtf_2 : Nat → Int32) (yhjn_2 : Int32) (yhjf_2 : Nat → Int32) (yhmn_2 : Int32) (yhmf_2 : Nat → Int32) (yhbn_2 : Int32) (yhbf_2 : Nat → Int32) (yhsn_2 : Int32) (yhsf_2 : Nat → Int32) (yhcn_2 : Int32) (yhcf_2 : Nat → Int32) (zrn_2 : Int32) (zmn_2 : Int32) (zwn_2 : Int32) (zpn_2 : Int32) (zmd_2 : Int32) (ztr_2 : Int32) (zrf_2 : Nat → Int32) (zmf_2 : Nat → Int32) (zwf_2 : Nat → Int32) (zpf_2 : Nat → Int32) (kac_2 : Int32) (knx_2 : Int32) (kim_2 : Int32) (cf_2 : Nat → SC) (m_taped_2 : Int32) (d_tape_2 : Nat → Int32) (d_r_2 : Nat → Int32) (d_st_2 : Nat → Int32) (d_undone_2 : Nat → Int32) (d_kept_2 : Nat → Int32) (m_undos_2 : Int32) (m_images_2 : Int32) (m_hasHouse_2 : Int32) (xw2 mw2 : va_W), XW g h0 xtpd_2 tpf_2 yhnf_2 yhtn_2 yhtf_2 yhjn_2 yhjf_2 yhmn_2 yhmf_2 yhbn_2 yhbf_2 yhsn_2 yhsf_2 yhcn_2 yhcf_2 zrn_2 zmn_2 zwn_2 zpn_2 zmd_2 ztr_2 zrf_2 zmf_2 zwf_2 zpf_2 kac_2 knx_2 kim_2 cf_2 xw2 → MW g mo m_taped_2 d_tape_2 d_r_2 d_st_2 d_undone_2 d_kept_2 m_undos_2 m_images_2 m_hasHouse_2 mw2 → LR xtpd_2 tpf_2 yhnf_2 yhtn_2 yhtf_2 yhjn_2 yhjf_2 yhmn_2 yhmf_2 yhbn_2 yhbf_2 yhsn_2 yhsf_2 yhcn_2 yhcf_2 zrn_2 zmn_2 zwn_2 zpn_2 zmd_2 ztr_2 zrf_2 zmf_2 zwf_2 zpf_2 kac_2 knx_2 kim_2 cf_2 m_taped_2 d_tape_2 d_r_2 d_st_2 d_undone_2 d_kept_2 m_undos_2 m_images_2 m_hasHouse_2 → Wk p l e room_1 s m #[Value.ref b] below meth c (lw_Z below #[Value.ref b] s) A g 7 n1 n2 (xw2 ++ (mw2 ++ [(cAJ g lo 1 fo)])) [(4, .int u4), (3, .ref lo), (2, .ref mo), (1, .ref h0), (0, .ref b)] 2062 []) : Wk p l e room_1 s m #[Value.ref b] below meth c (lw_Z below #[Value.ref b] s) A g 7 n1 n2 (xw ++ (mw ++ [(cAJ g lo 1 fo)])) [(4, .int u4), (3, .ref lo), (2, .ref mo), (1, .ref h0), (0, .ref b)] 561 [] := by
  have hiv : IV u4 0 3066 := ⟨hi.1, by omega⟩
  refine k_aload_n X dL_law_561 3 rfl ?_
  refine k_aload_n X dL_law_562 4 rfl ?_
  refine k_iload X dL_law_563 0 rfl ?_
  refine k_iconst (v := 1) X dL_law_565 (by decide) ?_
  refine k_iadd X dL_law_566 ?_
  refine k_nm (fun z_1 ez_1 => ?_)
  have i_2 : z_1.toInt = u4.toInt + 1 := in_add ez_1 hiv (show IV 1 1 1 from (by decide)) (by decide) (by decide)
  have iv_3 : IV z_1 1 3067 := by have := hiv; have := (show IV 1 1 1 from (by decide)); rw [IV, i_2]; omega
  refine k_sld X hX hbl hbA dL_law_567 (by rw [vp_in_iff]; have := iv_3; omega) ?_
  refine k_nm (fun a_4 ea_4 => ?_)
  refine k_aload_n X dL_law_568 4 rfl ?_
  refine k_iload X dL_law_569 0 rfl ?_
  refine k_iconst (v := 2) X dL_law_571 (by decide) ?_
  refine k_iadd X dL_law_572 ?_
  refine k_nm (fun z_5 ez_5 => ?_)
  have i_6 : z_5.toInt = u4.toInt + 2 := in_add ez_5 hiv (show IV 2 2 2 from (by decide)) (by decide) (by decide)
  have iv_7 : IV z_5 2 3068 := by have := hiv; have := (show IV 2 2 2 from (by decide)); rw [IV, i_6]; omega
  refine k_sld X hX hbl hbA dL_law_573 (by rw [vp_in_iff]; have := iv_7; omega) ?_
  refine k_nm (fun a_8 ea_8 => ?_)
  refine lx_starts (st := []) a_4 a_8 X hx dL_law_574 mw845 (Nat.le_of_ble_eq_true rfl) (Nat.le_of_ble_eq_true rfl) (Nat.le_of_ble_eq_true rfl) (Nat.le_trans h1 (Nat.le_of_ble_eq_true rfl)) (Nat.le_trans h2 (Nat.le_of_ble_eq_true rfl)) (fun r_9 xw_10 hx_11 => ?_)
  refine k_pop X dL_law_577 rfl ?_
  refine k_aload_n X dL_law_578 2 rfl ?_
  refine k_aload_n X dL_law_579 4 rfl ?_
  refine k_iload X dL_law_580 0 rfl ?_
  refine k_iconst (v := 1) X dL_law_582 (by decide) ?_
  refine k_iadd X dL_law_583 ?_
  refine k_to z_1 ez_1.symm ?_
  refine k_sld X hX hbl hbA dL_law_584 (by rw [vp_in_iff]; have := iv_3; omega) ?_
  refine k_to a_4 ea_4.symm ?_
  refine k_aload_n X dL_law_585 4 rfl ?_
  refine k_iload X dL_law_586 0 rfl ?_
  refine k_iconst (v := 2) X dL_law_588 (by decide) ?_
  refine k_iadd X dL_law_589 ?_
  refine k_to z_5 ez_5.symm ?_
  refine k_sld X hX hbl hbA dL_law_590 (by rw [vp_in_iff]; have := iv_7; omega) ?_
  refine k_to a_8 ea_8.symm ?_
  refine lm_starts (st := []) a_4 a_8 X hm dL_law_591 mw849 (Nat.le_of_ble_eq_true rfl) (Nat.le_of_ble_eq_true rfl) (Nat.le_of_ble_eq_true rfl) (Nat.le_trans h1 (Nat.le_of_ble_eq_true rfl)) (Nat.le_trans h2 (Nat.le_of_ble_eq_true rfl)) (fun r_12 mw_13 hm_14 => ?_)
  refine k_pop X dL_law_594 rfl ?_
  refine k_goto 2062 X dL_law_595 (by decide) ?_
  exact kk _ _ _ _ _ _ _ _ _ _ _ _ _ _ _ _ _ _ _ _ _ _ _ _ _ _ _ _ _ _ _ _ _ _ _ _ _ _ _ _ hx_11 hm_14 hR

theorem dL_law_598 : decode cL_law 598 = .ok (.aload_n 1, 1) := dk_43 (kat_9 22 rfl)
theorem dL_law_599 : decode cL_law 599 = .ok (.aload_n 0, 1) := dk_42 (kat_9 23 rfl)
theorem dL_law_600 : decode cL_law 600 = .ok (.iload 4, 2) := dk_21 (kat_9 24 rfl) (kat_9 25 rfl) rfl
theorem dL_law_602 : decode cL_law 602 = .ok (.iconst 1, 1) := dk_4 (kat_9 26 rfl)
theorem dL_law_603 : decode cL_law 603 = .ok (.iadd, 1) := dk_96 (kat_9 27 rfl)
theorem dL_law_604 : decode cL_law 604 = .ok (.iaload, 1) := dk_46 (kat_9 28 rfl)
theorem dL_law_605 : decode cL_law 605 = .ok (.aload_n 0, 1) := dk_42 (kat_9 29 rfl)
theorem dL_law_606 : decode cL_law 606 = .ok (.iload 4, 2) := dk_21 (kat_9 30 rfl) (kat_9 31 rfl) rfl
theorem dL_law_608 : decode cL_law 608 = .ok (.iconst 2, 1) := dk_5 (kat_9 32 rfl)
theorem dL_law_609 : decode cL_law 609 = .ok (.iadd, 1) := dk_96 (kat_9 33 rfl)
theorem dL_law_610 : decode cL_law 610 = .ok (.iaload, 1) := dk_46 (kat_9 34 rfl)
theorem dL_law_611 : decode cL_law 611 = .ok (.invokevirtual 62, 3) := dk_182 (kat_9 35 rfl) (kat_9 36 rfl) (kat_9 37 rfl) rfl
theorem dL_law_614 : decode cL_law 614 = .ok (.pop, 1) := dk_87 (kat_9 38 rfl)
theorem dL_law_615 : decode cL_law 615 = .ok (.aload_n 2, 1) := dk_44 (kat_9 39 rfl)
theorem dL_law_616 : decode cL_law 616 = .ok (.aload_n 0, 1) := dk_42 (kat_9 40 rfl)
theorem dL_law_617 : decode cL_law 617 = .ok (.iload 4, 2) := dk_21 (kat_9 41 rfl) (kat_9 42 rfl) rfl
theorem dL_law_619 : decode cL_law 619 = .ok (.iconst 1, 1) := dk_4 (kat_9 43 rfl)
theorem dL_law_620 : decode cL_law 620 = .ok (.iadd, 1) := dk_96 (kat_9 44 rfl)
theorem dL_law_621 : decode cL_law 621 = .ok (.iaload, 1) := dk_46 (kat_9 45 rfl)
theorem dL_law_622 : decode cL_law 622 = .ok (.aload_n 0, 1) := dk_42 (kat_9 46 rfl)
theorem dL_law_623 : decode cL_law 623 = .ok (.iload 4, 2) := dk_21 (kat_9 47 rfl) (kat_9 48 rfl) rfl
theorem dL_law_625 : decode cL_law 625 = .ok (.iconst 2, 1) := dk_5 (kat_9 49 rfl)
theorem dL_law_626 : decode cL_law 626 = .ok (.iadd, 1) := dk_96 (kat_9 50 rfl)
theorem dL_law_627 : decode cL_law 627 = .ok (.iaload, 1) := dk_46 (kat_9 51 rfl)
theorem dL_law_628 : decode cL_law 628 = .ok (.invokevirtual 65, 3) := dk_182 (kat_9 52 rfl) (kat_9 53 rfl) (kat_9 54 rfl) rfl
theorem dL_law_631 : decode cL_law 631 = .ok (.pop, 1) := dk_87 (kat_9 55 rfl)
theorem dL_law_632 : decode cL_law 632 = .ok (.goto 1430, 3) := dk_167 (kat_9 56 rfl) (kat_9 57 rfl) (kat_9 58 rfl) (by decide)
set_option maxHeartbeats 4000000 in
set_option maxRecDepth 100000 in
theorem law_c10 {p : Program} {l : Launch} {e : Env} {s : State} {m : MethodId} {below : List Frame} {meth : Method} {c : Code} {A : Nat → Prop} {g : Gx} {b L : Nat} {xs : Nat → Int32} {h0 mo lo n1 n2 : Nat} {fo : Nat → Int64} {u4 : Int32} {xtpd : Int32} {tpf : Nat → Int32} {yhnf : Nat → Int32} {yhtn : Int32} {yhtf : Nat → Int32} {yhjn : Int32} {yhjf : Nat → Int32} {yhmn : Int32} {yhmf : Nat → Int32} {yhbn : Int32} {yhbf : Nat → Int32} {yhsn : Int32} {yhsf : Nat → Int32} {yhcn : Int32} {yhcf : Nat → Int32} {zrn : Int32} {zmn : Int32} {zwn : Int32} {zpn : Int32} {zmd : Int32} {ztr : Int32} {zrf : Nat → Int32} {zmf : Nat → Int32} {zwf : Nat → Int32} {zpf : Nat → Int32} {kac : Int32} {knx : Int32} {kim : Int32} {cf : Nat → SC} {m_taped : Int32} {d_tape : Nat → Int32} {d_r : Nat → Int32} {d_st : Nat → Int32} {d_undone : Nat → Int32} {d_kept : Nat → Int32} {m_undos : Int32} {m_images : Int32} {m_hasHouse : Int32} {xw mw : va_W} (X : Cx p s m meth c #[Value.ref b] cL_law 7 RL A g) (hX : va_X b L xs s s.heap) (hbl : b < s.heap.size) (hbA : ¬ A b) (hi : 0 ≤ u4.toInt ∧ u4.toInt + 6 ≤ (L : Int)) (hL : L ≤ 3072) (h1 : n1 ≤ 601023) (h2 : n2 ≤ 7293028) (hlt : l.stackTraces = false) (hZ : kZ A s s.heap) (htsE : ∀ w ∈ wsE, w.before #[Value.ref b] s = true) (hx : XW g h0 xtpd tpf yhnf yhtn yhtf yhjn yhjf yhmn yhmf yhbn yhbf yhsn yhsf yhcn yhcf zrn zmn zwn zpn zmd ztr zrf zmf zwf zpf kac knx kim cf xw) (hm : MW g mo m_taped d_tape d_r d_st d_undone d_kept m_undos m_images m_hasHouse mw) (hR : LR xtpd tpf yhnf yhtn yhtf yhjn yhjf yhmn yhmf yhbn yhbf yhsn yhsf yhcn yhcf zrn zmn zwn zpn zmd ztr zrf zmf zwf zpf kac knx kim cf m_taped d_tape d_r d_st d_undone d_kept m_undos m_images m_hasHouse) (kk : ∀ (xtpd_2 : Int32) (tpf_2 : Nat → Int32) (yhnf_2 : Nat → Int32) (yhtn_2 : Int32) (yhtf_2 : Nat → Int32) (yhjn_2 : Int32) (yhjf_2 : Nat → Int32) (yhmn_2 : Int32) (yhmf_2 : Nat → Int32) (yhbn_2 : Int32) (yhbf_2 : Nat → Int32) (yhsn_2 : Int32) (yhsf_2 : Nat → Int32) (yhcn_2 : Int32) (yhcf_2 : Nat → Int32) (zrn_2 : Int32) (zmn_2 : Int32) (zwn_2 : Int32) (zpn_2 : Int32) (zmd_2 : Int32) (ztr_2 : Int32) (zrf_2 : Nat → Int32) (zmf_2 : Nat → Int32) (zwf_2 : Nat → Int32) (zpf_2 : Nat → Int32) (kac_2 : Int32) (knx_2 : Int32) (kim_2 : Int32) (cf_2 : Nat → SC) (m_taped_2 : Int32) (d_tape_2 : Nat → Int32) (d_r_2 : Nat → Int32) (d_st_2 : Nat → Int32) (d_undone_2 : Nat → Int32) (d_kept_2 : Nat → Int32) (m_undos_2 : Int32) (m_images_2 : Int32) (m_hasHouse_2 : Int32) (xw2 mw2 : va_W), XW g h0 xtpd_2 tpf_2 yhnf_2 yhtn_2 yhtf_2 yhjn_2 yhjf_2 yhmn_2 yhmf_2 yhbn_2 yhbf_2 yhsn_2 yhsf_2 yhcn_2 yhcf_2 zrn_2 zmn_2 zwn_2 zpn_2 zmd_2 ztr_2 zrf_2 zmf_2 zwf_2 zpf_2 kac_2 knx_2 kim_2 cf_2 xw2 → MW g mo m_taped_2 d_tape_2 d_r_2 d_st_2 d_undone_2 d_kept_2 m_undos_2 m_images_2 m_hasHouse_2 mw2 → LR xtpd_2 tpf_2 yhnf_2 yhtn_2 yhtf_2 yhjn_2 yhjf_2 yhmn_2 yhmf_2 yhbn_2 yhbf_2 yhsn_2 yhsf_2 yhcn_2 yhcf_2 zrn_2 zmn_2 zwn_2 zpn_2 zmd_2 ztr_2 zrf_2 zmf_2 zwf_2 zpf_2 kac_2 knx_2 kim_2 cf_2 m_taped_2 d_tape_2 d_r_2 d_st_2 d_undone_2 d_kept_2 m_undos_2 m_images_2 m_hasHouse_2 → Wk p l e room_1 s m #[Value.ref b] below meth c (lw_Z below #[Value.ref b] s) A g 7 n1 n2 (xw2 ++ (mw2 ++ [(cAJ g lo 1 fo)])) [(4, .int u4), (3, .ref lo), (2, .ref mo), (1, .ref h0), (0, .ref b)] 2062 []) : Wk p l e room_1 s m #[Value.ref b] below meth c (lw_Z below #[Value.ref b] s) A g 7 n1 n2 (xw ++ (mw ++ [(cAJ g lo 1 fo)])) [(4, .int u4), (3, .ref lo), (2, .ref mo), (1, .ref h0), (0, .ref b)] 598 [] := by
  have hiv : IV u4 0 3066 := ⟨hi.1, by omega⟩
  refine k_aload_n X dL_law_598 3 rfl ?_
  refine k_aload_n X dL_law_599 4 rfl ?_
  refine k_iload X dL_law_600 0 rfl ?_
  refine k_iconst (v := 1) X dL_law_602 (by decide) ?_
  refine k_iadd X dL_law_603 ?_
  refine k_nm (fun z_1 ez_1 => ?_)
  have i_2 : z_1.toInt = u4.toInt + 1 := in_add ez_1 hiv (show IV 1 1 1 from (by decide)) (by decide) (by decide)
  have iv_3 : IV z_1 1 3067 := by have := hiv; have := (show IV 1 1 1 from (by decide)); rw [IV, i_2]; omega
  refine k_sld X hX hbl hbA dL_law_604 (by rw [vp_in_iff]; have := iv_3; omega) ?_
  refine k_nm (fun a_4 ea_4 => ?_)
  refine k_aload_n X dL_law_605 4 rfl ?_
  refine k_iload X dL_law_606 0 rfl ?_
  refine k_iconst (v := 2) X dL_law_608 (by decide) ?_
  refine k_iadd X dL_law_609 ?_
  refine k_nm (fun z_5 ez_5 => ?_)
  have i_6 : z_5.toInt = u4.toInt + 2 := in_add ez_5 hiv (show IV 2 2 2 from (by decide)) (by decide) (by decide)
  have iv_7 : IV z_5 2 3068 := by have := hiv; have := (show IV 2 2 2 from (by decide)); rw [IV, i_6]; omega
  refine k_sld X hX hbl hbA dL_law_610 (by rw [vp_in_iff]; have := iv_7; omega) ?_
  refine k_nm (fun a_8 ea_8 => ?_)
  refine lx_changes (st := []) a_4 a_8 X hx dL_law_611 mw853 (Nat.le_of_ble_eq_true rfl) (Nat.le_of_ble_eq_true rfl) (Nat.le_of_ble_eq_true rfl) (Nat.le_trans h1 (Nat.le_of_ble_eq_true rfl)) (Nat.le_trans h2 (Nat.le_of_ble_eq_true rfl)) (fun r_9 xw_10 hx_11 => ?_)
  refine k_pop X dL_law_614 rfl ?_
  refine k_aload_n X dL_law_615 2 rfl ?_
  refine k_aload_n X dL_law_616 4 rfl ?_
  refine k_iload X dL_law_617 0 rfl ?_
  refine k_iconst (v := 1) X dL_law_619 (by decide) ?_
  refine k_iadd X dL_law_620 ?_
  refine k_to z_1 ez_1.symm ?_
  refine k_sld X hX hbl hbA dL_law_621 (by rw [vp_in_iff]; have := iv_3; omega) ?_
  refine k_to a_4 ea_4.symm ?_
  refine k_aload_n X dL_law_622 4 rfl ?_
  refine k_iload X dL_law_623 0 rfl ?_
  refine k_iconst (v := 2) X dL_law_625 (by decide) ?_
  refine k_iadd X dL_law_626 ?_
  refine k_to z_5 ez_5.symm ?_
  refine k_sld X hX hbl hbA dL_law_627 (by rw [vp_in_iff]; have := iv_7; omega) ?_
  refine k_to a_8 ea_8.symm ?_
  refine lm_changes (st := []) a_4 a_8 X hm dL_law_628 mw857 (Nat.le_of_ble_eq_true rfl) (Nat.le_of_ble_eq_true rfl) (Nat.le_of_ble_eq_true rfl) (Nat.le_trans h1 (Nat.le_of_ble_eq_true rfl)) (Nat.le_trans h2 (Nat.le_of_ble_eq_true rfl)) (fun r_12 mw_13 hm_14 => ?_)
  refine k_pop X dL_law_631 rfl ?_
  refine k_goto 2062 X dL_law_632 (by decide) ?_
  exact kk _ _ _ _ _ _ _ _ _ _ _ _ _ _ _ _ _ _ _ _ _ _ _ _ _ _ _ _ _ _ _ _ _ _ _ _ _ _ _ _ hx_11 hm_14 hR

theorem dL_law_635 : decode cL_law 635 = .ok (.aload_n 1, 1) := dk_43 (kat_9 59 rfl)
theorem dL_law_636 : decode cL_law 636 = .ok (.aload_n 0, 1) := dk_42 (kat_9 60 rfl)
theorem dL_law_637 : decode cL_law 637 = .ok (.iload 4, 2) := dk_21 (kat_9 61 rfl) (kat_9 62 rfl) rfl
theorem dL_law_639 : decode cL_law 639 = .ok (.iconst 1, 1) := dk_4 (kat_9 63 rfl)
theorem dL_law_640 : decode cL_law 640 = .ok (.iadd, 1) := dk_96 (kat_10 0 rfl)
theorem dL_law_641 : decode cL_law 641 = .ok (.iaload, 1) := dk_46 (kat_10 1 rfl)
theorem dL_law_642 : decode cL_law 642 = .ok (.aload_n 0, 1) := dk_42 (kat_10 2 rfl)
theorem dL_law_643 : decode cL_law 643 = .ok (.iload 4, 2) := dk_21 (kat_10 3 rfl) (kat_10 4 rfl) rfl
theorem dL_law_645 : decode cL_law 645 = .ok (.iconst 2, 1) := dk_5 (kat_10 5 rfl)
theorem dL_law_646 : decode cL_law 646 = .ok (.iadd, 1) := dk_96 (kat_10 6 rfl)
theorem dL_law_647 : decode cL_law 647 = .ok (.iaload, 1) := dk_46 (kat_10 7 rfl)
theorem dL_law_648 : decode cL_law 648 = .ok (.invokevirtual 66, 3) := dk_182 (kat_10 8 rfl) (kat_10 9 rfl) (kat_10 10 rfl) rfl
theorem dL_law_651 : decode cL_law 651 = .ok (.pop, 1) := dk_87 (kat_10 11 rfl)
theorem dL_law_652 : decode cL_law 652 = .ok (.aload_n 2, 1) := dk_44 (kat_10 12 rfl)
theorem dL_law_653 : decode cL_law 653 = .ok (.aload_n 0, 1) := dk_42 (kat_10 13 rfl)
theorem dL_law_654 : decode cL_law 654 = .ok (.iload 4, 2) := dk_21 (kat_10 14 rfl) (kat_10 15 rfl) rfl
theorem dL_law_656 : decode cL_law 656 = .ok (.iconst 1, 1) := dk_4 (kat_10 16 rfl)
theorem dL_law_657 : decode cL_law 657 = .ok (.iadd, 1) := dk_96 (kat_10 17 rfl)
theorem dL_law_658 : decode cL_law 658 = .ok (.iaload, 1) := dk_46 (kat_10 18 rfl)
theorem dL_law_659 : decode cL_law 659 = .ok (.aload_n 0, 1) := dk_42 (kat_10 19 rfl)
theorem dL_law_660 : decode cL_law 660 = .ok (.iload 4, 2) := dk_21 (kat_10 20 rfl) (kat_10 21 rfl) rfl
theorem dL_law_662 : decode cL_law 662 = .ok (.iconst 2, 1) := dk_5 (kat_10 22 rfl)
theorem dL_law_663 : decode cL_law 663 = .ok (.iadd, 1) := dk_96 (kat_10 23 rfl)
theorem dL_law_664 : decode cL_law 664 = .ok (.iaload, 1) := dk_46 (kat_10 24 rfl)
theorem dL_law_665 : decode cL_law 665 = .ok (.invokevirtual 69, 3) := dk_182 (kat_10 25 rfl) (kat_10 26 rfl) (kat_10 27 rfl) rfl
theorem dL_law_668 : decode cL_law 668 = .ok (.pop, 1) := dk_87 (kat_10 28 rfl)
theorem dL_law_669 : decode cL_law 669 = .ok (.goto 1393, 3) := dk_167 (kat_10 29 rfl) (kat_10 30 rfl) (kat_10 31 rfl) (by decide)
set_option maxHeartbeats 4000000 in
set_option maxRecDepth 100000 in
theorem law_c11 {p : Program} {l : Launch} {e : Env} {s : State} {m : MethodId} {below : List Frame} {meth : Method} {c : Code} {A : Nat → Prop} {g : Gx} {b L : Nat} {xs : Nat → Int32} {h0 mo lo n1 n2 : Nat} {fo : Nat → Int64} {u4 : Int32} {xtpd : Int32} {tpf : Nat → Int32} {yhnf : Nat → Int32} {yhtn : Int32} {yhtf : Nat → Int32} {yhjn : Int32} {yhjf : Nat → Int32} {yhmn : Int32} {yhmf : Nat → Int32} {yhbn : Int32} {yhbf : Nat → Int32} {yhsn : Int32} {yhsf : Nat → Int32} {yhcn : Int32} {yhcf : Nat → Int32} {zrn : Int32} {zmn : Int32} {zwn : Int32} {zpn : Int32} {zmd : Int32} {ztr : Int32} {zrf : Nat → Int32} {zmf : Nat → Int32} {zwf : Nat → Int32} {zpf : Nat → Int32} {kac : Int32} {knx : Int32} {kim : Int32} {cf : Nat → SC} {m_taped : Int32} {d_tape : Nat → Int32} {d_r : Nat → Int32} {d_st : Nat → Int32} {d_undone : Nat → Int32} {d_kept : Nat → Int32} {m_undos : Int32} {m_images : Int32} {m_hasHouse : Int32} {xw mw : va_W} (X : Cx p s m meth c #[Value.ref b] cL_law 7 RL A g) (hX : va_X b L xs s s.heap) (hbl : b < s.heap.size) (hbA : ¬ A b) (hi : 0 ≤ u4.toInt ∧ u4.toInt + 6 ≤ (L : Int)) (hL : L ≤ 3072) (h1 : n1 ≤ 601023) (h2 : n2 ≤ 7293028) (hlt : l.stackTraces = false) (hZ : kZ A s s.heap) (htsE : ∀ w ∈ wsE, w.before #[Value.ref b] s = true) (hx : XW g h0 xtpd tpf yhnf yhtn yhtf yhjn yhjf yhmn yhmf yhbn yhbf yhsn yhsf yhcn yhcf zrn zmn zwn zpn zmd ztr zrf zmf zwf zpf kac knx kim cf xw) (hm : MW g mo m_taped d_tape d_r d_st d_undone d_kept m_undos m_images m_hasHouse mw) (hR : LR xtpd tpf yhnf yhtn yhtf yhjn yhjf yhmn yhmf yhbn yhbf yhsn yhsf yhcn yhcf zrn zmn zwn zpn zmd ztr zrf zmf zwf zpf kac knx kim cf m_taped d_tape d_r d_st d_undone d_kept m_undos m_images m_hasHouse) (kk : ∀ (xtpd_2 : Int32) (tpf_2 : Nat → Int32) (yhnf_2 : Nat → Int32) (yhtn_2 : Int32) (yhtf_2 : Nat → Int32) (yhjn_2 : Int32) (yhjf_2 : Nat → Int32) (yhmn_2 : Int32) (yhmf_2 : Nat → Int32) (yhbn_2 : Int32) (yhbf_2 : Nat → Int32) (yhsn_2 : Int32) (yhsf_2 : Nat → Int32) (yhcn_2 : Int32) (yhcf_2 : Nat → Int32) (zrn_2 : Int32) (zmn_2 : Int32) (zwn_2 : Int32) (zpn_2 : Int32) (zmd_2 : Int32) (ztr_2 : Int32) (zrf_2 : Nat → Int32) (zmf_2 : Nat → Int32) (zwf_2 : Nat → Int32) (zpf_2 : Nat → Int32) (kac_2 : Int32) (knx_2 : Int32) (kim_2 : Int32) (cf_2 : Nat → SC) (m_taped_2 : Int32) (d_tape_2 : Nat → Int32) (d_r_2 : Nat → Int32) (d_st_2 : Nat → Int32) (d_undone_2 : Nat → Int32) (d_kept_2 : Nat → Int32) (m_undos_2 : Int32) (m_images_2 : Int32) (m_hasHouse_2 : Int32) (xw2 mw2 : va_W), XW g h0 xtpd_2 tpf_2 yhnf_2 yhtn_2 yhtf_2 yhjn_2 yhjf_2 yhmn_2 yhmf_2 yhbn_2 yhbf_2 yhsn_2 yhsf_2 yhcn_2 yhcf_2 zrn_2 zmn_2 zwn_2 zpn_2 zmd_2 ztr_2 zrf_2 zmf_2 zwf_2 zpf_2 kac_2 knx_2 kim_2 cf_2 xw2 → MW g mo m_taped_2 d_tape_2 d_r_2 d_st_2 d_undone_2 d_kept_2 m_undos_2 m_images_2 m_hasHouse_2 mw2 → LR xtpd_2 tpf_2 yhnf_2 yhtn_2 yhtf_2 yhjn_2 yhjf_2 yhmn_2 yhmf_2 yhbn_2 yhbf_2 yhsn_2 yhsf_2 yhcn_2 yhcf_2 zrn_2 zmn_2 zwn_2 zpn_2 zmd_2 ztr_2 zrf_2 zmf_2 zwf_2 zpf_2 kac_2 knx_2 kim_2 cf_2 m_taped_2 d_tape_2 d_r_2 d_st_2 d_undone_2 d_kept_2 m_undos_2 m_images_2 m_hasHouse_2 → Wk p l e room_1 s m #[Value.ref b] below meth c (lw_Z below #[Value.ref b] s) A g 7 n1 n2 (xw2 ++ (mw2 ++ [(cAJ g lo 1 fo)])) [(4, .int u4), (3, .ref lo), (2, .ref mo), (1, .ref h0), (0, .ref b)] 2062 []) : Wk p l e room_1 s m #[Value.ref b] below meth c (lw_Z below #[Value.ref b] s) A g 7 n1 n2 (xw ++ (mw ++ [(cAJ g lo 1 fo)])) [(4, .int u4), (3, .ref lo), (2, .ref mo), (1, .ref h0), (0, .ref b)] 635 [] := by
  have hiv : IV u4 0 3066 := ⟨hi.1, by omega⟩
  refine k_aload_n X dL_law_635 3 rfl ?_
  refine k_aload_n X dL_law_636 4 rfl ?_
  refine k_iload X dL_law_637 0 rfl ?_
  refine k_iconst (v := 1) X dL_law_639 (by decide) ?_
  refine k_iadd X dL_law_640 ?_
  refine k_nm (fun z_1 ez_1 => ?_)
  have i_2 : z_1.toInt = u4.toInt + 1 := in_add ez_1 hiv (show IV 1 1 1 from (by decide)) (by decide) (by decide)
  have iv_3 : IV z_1 1 3067 := by have := hiv; have := (show IV 1 1 1 from (by decide)); rw [IV, i_2]; omega
  refine k_sld X hX hbl hbA dL_law_641 (by rw [vp_in_iff]; have := iv_3; omega) ?_
  refine k_nm (fun a_4 ea_4 => ?_)
  refine k_aload_n X dL_law_642 4 rfl ?_
  refine k_iload X dL_law_643 0 rfl ?_
  refine k_iconst (v := 2) X dL_law_645 (by decide) ?_
  refine k_iadd X dL_law_646 ?_
  refine k_nm (fun z_5 ez_5 => ?_)
  have i_6 : z_5.toInt = u4.toInt + 2 := in_add ez_5 hiv (show IV 2 2 2 from (by decide)) (by decide) (by decide)
  have iv_7 : IV z_5 2 3068 := by have := hiv; have := (show IV 2 2 2 from (by decide)); rw [IV, i_6]; omega
  refine k_sld X hX hbl hbA dL_law_647 (by rw [vp_in_iff]; have := iv_7; omega) ?_
  refine k_nm (fun a_8 ea_8 => ?_)
  refine lx_lost (st := []) a_4 a_8 X hx dL_law_648 mw861 (Nat.le_of_ble_eq_true rfl) (Nat.le_of_ble_eq_true rfl) (Nat.le_of_ble_eq_true rfl) (Nat.le_trans h1 (Nat.le_of_ble_eq_true rfl)) (Nat.le_trans h2 (Nat.le_of_ble_eq_true rfl)) (fun r_9 xw_10 hx_11 => ?_)
  refine k_pop X dL_law_651 rfl ?_
  refine k_aload_n X dL_law_652 2 rfl ?_
  refine k_aload_n X dL_law_653 4 rfl ?_
  refine k_iload X dL_law_654 0 rfl ?_
  refine k_iconst (v := 1) X dL_law_656 (by decide) ?_
  refine k_iadd X dL_law_657 ?_
  refine k_to z_1 ez_1.symm ?_
  refine k_sld X hX hbl hbA dL_law_658 (by rw [vp_in_iff]; have := iv_3; omega) ?_
  refine k_to a_4 ea_4.symm ?_
  refine k_aload_n X dL_law_659 4 rfl ?_
  refine k_iload X dL_law_660 0 rfl ?_
  refine k_iconst (v := 2) X dL_law_662 (by decide) ?_
  refine k_iadd X dL_law_663 ?_
  refine k_to z_5 ez_5.symm ?_
  refine k_sld X hX hbl hbA dL_law_664 (by rw [vp_in_iff]; have := iv_7; omega) ?_
  refine k_to a_8 ea_8.symm ?_
  refine lm_lost (st := []) a_4 a_8 X hm dL_law_665 mw865 (Nat.le_of_ble_eq_true rfl) (Nat.le_of_ble_eq_true rfl) (Nat.le_of_ble_eq_true rfl) (Nat.le_trans h1 (Nat.le_of_ble_eq_true rfl)) (Nat.le_trans h2 (Nat.le_of_ble_eq_true rfl)) (fun r_12 mw_13 hm_14 => ?_)
  refine k_pop X dL_law_668 rfl ?_
  refine k_goto 2062 X dL_law_669 (by decide) ?_
  exact kk _ _ _ _ _ _ _ _ _ _ _ _ _ _ _ _ _ _ _ _ _ _ _ _ _ _ _ _ _ _ _ _ _ _ _ _ _ _ _ _ hx_11 hm_14 hR

theorem dL_law_672 : decode cL_law 672 = .ok (.aload_n 1, 1) := dk_43 (kat_10 32 rfl)
theorem dL_law_673 : decode cL_law 673 = .ok (.aload_n 0, 1) := dk_42 (kat_10 33 rfl)
theorem dL_law_674 : decode cL_law 674 = .ok (.iload 4, 2) := dk_21 (kat_10 34 rfl) (kat_10 35 rfl) rfl
theorem dL_law_676 : decode cL_law 676 = .ok (.iconst 1, 1) := dk_4 (kat_10 36 rfl)
theorem dL_law_677 : decode cL_law 677 = .ok (.iadd, 1) := dk_96 (kat_10 37 rfl)
theorem dL_law_678 : decode cL_law 678 = .ok (.iaload, 1) := dk_46 (kat_10 38 rfl)
theorem dL_law_679 : decode cL_law 679 = .ok (.aload_n 0, 1) := dk_42 (kat_10 39 rfl)
theorem dL_law_680 : decode cL_law 680 = .ok (.iload 4, 2) := dk_21 (kat_10 40 rfl) (kat_10 41 rfl) rfl
theorem dL_law_682 : decode cL_law 682 = .ok (.iconst 2, 1) := dk_5 (kat_10 42 rfl)
theorem dL_law_683 : decode cL_law 683 = .ok (.iadd, 1) := dk_96 (kat_10 43 rfl)
theorem dL_law_684 : decode cL_law 684 = .ok (.iaload, 1) := dk_46 (kat_10 44 rfl)
theorem dL_law_685 : decode cL_law 685 = .ok (.invokevirtual 70, 3) := dk_182 (kat_10 45 rfl) (kat_10 46 rfl) (kat_10 47 rfl) rfl
theorem dL_law_688 : decode cL_law 688 = .ok (.pop, 1) := dk_87 (kat_10 48 rfl)
theorem dL_law_689 : decode cL_law 689 = .ok (.aload_n 2, 1) := dk_44 (kat_10 49 rfl)
theorem dL_law_690 : decode cL_law 690 = .ok (.aload_n 0, 1) := dk_42 (kat_10 50 rfl)
theorem dL_law_691 : decode cL_law 691 = .ok (.iload 4, 2) := dk_21 (kat_10 51 rfl) (kat_10 52 rfl) rfl
theorem dL_law_693 : decode cL_law 693 = .ok (.iconst 1, 1) := dk_4 (kat_10 53 rfl)
theorem dL_law_694 : decode cL_law 694 = .ok (.iadd, 1) := dk_96 (kat_10 54 rfl)
theorem dL_law_695 : decode cL_law 695 = .ok (.iaload, 1) := dk_46 (kat_10 55 rfl)
theorem dL_law_696 : decode cL_law 696 = .ok (.aload_n 0, 1) := dk_42 (kat_10 56 rfl)
theorem dL_law_697 : decode cL_law 697 = .ok (.iload 4, 2) := dk_21 (kat_10 57 rfl) (kat_10 58 rfl) rfl
theorem dL_law_699 : decode cL_law 699 = .ok (.iconst 2, 1) := dk_5 (kat_10 59 rfl)
theorem dL_law_700 : decode cL_law 700 = .ok (.iadd, 1) := dk_96 (kat_10 60 rfl)
theorem dL_law_701 : decode cL_law 701 = .ok (.iaload, 1) := dk_46 (kat_10 61 rfl)
theorem dL_law_702 : decode cL_law 702 = .ok (.invokevirtual 73, 3) := dk_182 (kat_10 62 rfl) (kat_10 63 rfl) (kat_11 0 rfl) rfl
theorem dL_law_705 : decode cL_law 705 = .ok (.pop, 1) := dk_87 (kat_11 1 rfl)
theorem dL_law_706 : decode cL_law 706 = .ok (.goto 1356, 3) := dk_167 (kat_11 2 rfl) (kat_11 3 rfl) (kat_11 4 rfl) (by decide)
set_option maxHeartbeats 4000000 in
set_option maxRecDepth 100000 in
theorem law_c12 {p : Program} {l : Launch} {e : Env} {s : State} {m : MethodId} {below : List Frame} {meth : Method} {c : Code} {A : Nat → Prop} {g : Gx} {b L : Nat} {xs : Nat → Int32} {h0 mo lo n1 n2 : Nat} {fo : Nat → Int64} {u4 : Int32} {xtpd : Int32} {tpf : Nat → Int32} {yhnf : Nat → Int32} {yhtn : Int32} {yhtf : Nat → Int32} {yhjn : Int32} {yhjf : Nat → Int32} {yhmn : Int32} {yhmf : Nat → Int32} {yhbn : Int32} {yhbf : Nat → Int32} {yhsn : Int32} {yhsf : Nat → Int32} {yhcn : Int32} {yhcf : Nat → Int32} {zrn : Int32} {zmn : Int32} {zwn : Int32} {zpn : Int32} {zmd : Int32} {ztr : Int32} {zrf : Nat → Int32} {zmf : Nat → Int32} {zwf : Nat → Int32} {zpf : Nat → Int32} {kac : Int32} {knx : Int32} {kim : Int32} {cf : Nat → SC} {m_taped : Int32} {d_tape : Nat → Int32} {d_r : Nat → Int32} {d_st : Nat → Int32} {d_undone : Nat → Int32} {d_kept : Nat → Int32} {m_undos : Int32} {m_images : Int32} {m_hasHouse : Int32} {xw mw : va_W} (X : Cx p s m meth c #[Value.ref b] cL_law 7 RL A g) (hX : va_X b L xs s s.heap) (hbl : b < s.heap.size) (hbA : ¬ A b) (hi : 0 ≤ u4.toInt ∧ u4.toInt + 6 ≤ (L : Int)) (hL : L ≤ 3072) (h1 : n1 ≤ 601023) (h2 : n2 ≤ 7293028) (hlt : l.stackTraces = false) (hZ : kZ A s s.heap) (htsE : ∀ w ∈ wsE, w.before #[Value.ref b] s = true) (hx : XW g h0 xtpd tpf yhnf yhtn yhtf yhjn yhjf yhmn yhmf yhbn yhbf yhsn yhsf yhcn yhcf zrn zmn zwn zpn zmd ztr zrf zmf zwf zpf kac knx kim cf xw) (hm : MW g mo m_taped d_tape d_r d_st d_undone d_kept m_undos m_images m_hasHouse mw) (hR : LR xtpd tpf yhnf yhtn yhtf yhjn yhjf yhmn yhmf yhbn yhbf yhsn yhsf yhcn yhcf zrn zmn zwn zpn zmd ztr zrf zmf zwf zpf kac knx kim cf m_taped d_tape d_r d_st d_undone d_kept m_undos m_images m_hasHouse) (kk : ∀ (xtpd_2 : Int32) (tpf_2 : Nat → Int32) (yhnf_2 : Nat → Int32) (yhtn_2 : Int32) (yhtf_2 : Nat → Int32) (yhjn_2 : Int32) (yhjf_2 : Nat → Int32) (yhmn_2 : Int32) (yhmf_2 : Nat → Int32) (yhbn_2 : Int32) (yhbf_2 : Nat → Int32) (yhsn_2 : Int32) (yhsf_2 : Nat → Int32) (yhcn_2 : Int32) (yhcf_2 : Nat → Int32) (zrn_2 : Int32) (zmn_2 : Int32) (zwn_2 : Int32) (zpn_2 : Int32) (zmd_2 : Int32) (ztr_2 : Int32) (zrf_2 : Nat → Int32) (zmf_2 : Nat → Int32) (zwf_2 : Nat → Int32) (zpf_2 : Nat → Int32) (kac_2 : Int32) (knx_2 : Int32) (kim_2 : Int32) (cf_2 : Nat → SC) (m_taped_2 : Int32) (d_tape_2 : Nat → Int32) (d_r_2 : Nat → Int32) (d_st_2 : Nat → Int32) (d_undone_2 : Nat → Int32) (d_kept_2 : Nat → Int32) (m_undos_2 : Int32) (m_images_2 : Int32) (m_hasHouse_2 : Int32) (xw2 mw2 : va_W), XW g h0 xtpd_2 tpf_2 yhnf_2 yhtn_2 yhtf_2 yhjn_2 yhjf_2 yhmn_2 yhmf_2 yhbn_2 yhbf_2 yhsn_2 yhsf_2 yhcn_2 yhcf_2 zrn_2 zmn_2 zwn_2 zpn_2 zmd_2 ztr_2 zrf_2 zmf_2 zwf_2 zpf_2 kac_2 knx_2 kim_2 cf_2 xw2 → MW g mo m_taped_2 d_tape_2 d_r_2 d_st_2 d_undone_2 d_kept_2 m_undos_2 m_images_2 m_hasHouse_2 mw2 → LR xtpd_2 tpf_2 yhnf_2 yhtn_2 yhtf_2 yhjn_2 yhjf_2 yhmn_2 yhmf_2 yhbn_2 yhbf_2 yhsn_2 yhsf_2 yhcn_2 yhcf_2 zrn_2 zmn_2 zwn_2 zpn_2 zmd_2 ztr_2 zrf_2 zmf_2 zwf_2 zpf_2 kac_2 knx_2 kim_2 cf_2 m_taped_2 d_tape_2 d_r_2 d_st_2 d_undone_2 d_kept_2 m_undos_2 m_images_2 m_hasHouse_2 → Wk p l e room_1 s m #[Value.ref b] below meth c (lw_Z below #[Value.ref b] s) A g 7 n1 n2 (xw2 ++ (mw2 ++ [(cAJ g lo 1 fo)])) [(4, .int u4), (3, .ref lo), (2, .ref mo), (1, .ref h0), (0, .ref b)] 2062 []) : Wk p l e room_1 s m #[Value.ref b] below meth c (lw_Z below #[Value.ref b] s) A g 7 n1 n2 (xw ++ (mw ++ [(cAJ g lo 1 fo)])) [(4, .int u4), (3, .ref lo), (2, .ref mo), (1, .ref h0), (0, .ref b)] 672 [] := by
  have hiv : IV u4 0 3066 := ⟨hi.1, by omega⟩
  refine k_aload_n X dL_law_672 3 rfl ?_
  refine k_aload_n X dL_law_673 4 rfl ?_
  refine k_iload X dL_law_674 0 rfl ?_
  refine k_iconst (v := 1) X dL_law_676 (by decide) ?_
  refine k_iadd X dL_law_677 ?_
  refine k_nm (fun z_1 ez_1 => ?_)
  have i_2 : z_1.toInt = u4.toInt + 1 := in_add ez_1 hiv (show IV 1 1 1 from (by decide)) (by decide) (by decide)
  have iv_3 : IV z_1 1 3067 := by have := hiv; have := (show IV 1 1 1 from (by decide)); rw [IV, i_2]; omega
  refine k_sld X hX hbl hbA dL_law_678 (by rw [vp_in_iff]; have := iv_3; omega) ?_
  refine k_nm (fun a_4 ea_4 => ?_)
  refine k_aload_n X dL_law_679 4 rfl ?_
  refine k_iload X dL_law_680 0 rfl ?_
  refine k_iconst (v := 2) X dL_law_682 (by decide) ?_
  refine k_iadd X dL_law_683 ?_
  refine k_nm (fun z_5 ez_5 => ?_)
  have i_6 : z_5.toInt = u4.toInt + 2 := in_add ez_5 hiv (show IV 2 2 2 from (by decide)) (by decide) (by decide)
  have iv_7 : IV z_5 2 3068 := by have := hiv; have := (show IV 2 2 2 from (by decide)); rw [IV, i_6]; omega
  refine k_sld X hX hbl hbA dL_law_684 (by rw [vp_in_iff]; have := iv_7; omega) ?_
  refine k_nm (fun a_8 ea_8 => ?_)
  refine lx_black (st := []) a_4 a_8 X hx dL_law_685 mw869 (Nat.le_of_ble_eq_true rfl) (Nat.le_of_ble_eq_true rfl) (Nat.le_of_ble_eq_true rfl) (Nat.le_trans h1 (Nat.le_of_ble_eq_true rfl)) (Nat.le_trans h2 (Nat.le_of_ble_eq_true rfl)) (fun r_9 xw_10 hx_11 => ?_)
  refine k_pop X dL_law_688 rfl ?_
  refine k_aload_n X dL_law_689 2 rfl ?_
  refine k_aload_n X dL_law_690 4 rfl ?_
  refine k_iload X dL_law_691 0 rfl ?_
  refine k_iconst (v := 1) X dL_law_693 (by decide) ?_
  refine k_iadd X dL_law_694 ?_
  refine k_to z_1 ez_1.symm ?_
  refine k_sld X hX hbl hbA dL_law_695 (by rw [vp_in_iff]; have := iv_3; omega) ?_
  refine k_to a_4 ea_4.symm ?_
  refine k_aload_n X dL_law_696 4 rfl ?_
  refine k_iload X dL_law_697 0 rfl ?_
  refine k_iconst (v := 2) X dL_law_699 (by decide) ?_
  refine k_iadd X dL_law_700 ?_
  refine k_to z_5 ez_5.symm ?_
  refine k_sld X hX hbl hbA dL_law_701 (by rw [vp_in_iff]; have := iv_7; omega) ?_
  refine k_to a_8 ea_8.symm ?_
  refine lm_black (st := []) a_4 a_8 X hm dL_law_702 mw873 (Nat.le_of_ble_eq_true rfl) (Nat.le_of_ble_eq_true rfl) (Nat.le_of_ble_eq_true rfl) (Nat.le_trans h1 (Nat.le_of_ble_eq_true rfl)) (Nat.le_trans h2 (Nat.le_of_ble_eq_true rfl)) (fun r_12 mw_13 hm_14 => ?_)
  refine k_pop X dL_law_705 rfl ?_
  refine k_goto 2062 X dL_law_706 (by decide) ?_
  exact kk _ _ _ _ _ _ _ _ _ _ _ _ _ _ _ _ _ _ _ _ _ _ _ _ _ _ _ _ _ _ _ _ _ _ _ _ _ _ _ _ hx_11 hm_14 hR

theorem dL_law_709 : decode cL_law 709 = .ok (.aload_n 1, 1) := dk_43 (kat_11 5 rfl)
theorem dL_law_710 : decode cL_law 710 = .ok (.aload_n 0, 1) := dk_42 (kat_11 6 rfl)
theorem dL_law_711 : decode cL_law 711 = .ok (.iload 4, 2) := dk_21 (kat_11 7 rfl) (kat_11 8 rfl) rfl
theorem dL_law_713 : decode cL_law 713 = .ok (.iconst 1, 1) := dk_4 (kat_11 9 rfl)
theorem dL_law_714 : decode cL_law 714 = .ok (.iadd, 1) := dk_96 (kat_11 10 rfl)
theorem dL_law_715 : decode cL_law 715 = .ok (.iaload, 1) := dk_46 (kat_11 11 rfl)
theorem dL_law_716 : decode cL_law 716 = .ok (.aload_n 0, 1) := dk_42 (kat_11 12 rfl)
theorem dL_law_717 : decode cL_law 717 = .ok (.iload 4, 2) := dk_21 (kat_11 13 rfl) (kat_11 14 rfl) rfl
theorem dL_law_719 : decode cL_law 719 = .ok (.iconst 2, 1) := dk_5 (kat_11 15 rfl)
theorem dL_law_720 : decode cL_law 720 = .ok (.iadd, 1) := dk_96 (kat_11 16 rfl)
theorem dL_law_721 : decode cL_law 721 = .ok (.iaload, 1) := dk_46 (kat_11 17 rfl)
theorem dL_law_722 : decode cL_law 722 = .ok (.invokevirtual 74, 3) := dk_182 (kat_11 18 rfl) (kat_11 19 rfl) (kat_11 20 rfl) rfl
theorem dL_law_725 : decode cL_law 725 = .ok (.pop, 1) := dk_87 (kat_11 21 rfl)
theorem dL_law_726 : decode cL_law 726 = .ok (.aload_n 2, 1) := dk_44 (kat_11 22 rfl)
theorem dL_law_727 : decode cL_law 727 = .ok (.aload_n 0, 1) := dk_42 (kat_11 23 rfl)
theorem dL_law_728 : decode cL_law 728 = .ok (.iload 4, 2) := dk_21 (kat_11 24 rfl) (kat_11 25 rfl) rfl
theorem dL_law_730 : decode cL_law 730 = .ok (.iconst 1, 1) := dk_4 (kat_11 26 rfl)
theorem dL_law_731 : decode cL_law 731 = .ok (.iadd, 1) := dk_96 (kat_11 27 rfl)
theorem dL_law_732 : decode cL_law 732 = .ok (.iaload, 1) := dk_46 (kat_11 28 rfl)
theorem dL_law_733 : decode cL_law 733 = .ok (.aload_n 0, 1) := dk_42 (kat_11 29 rfl)
theorem dL_law_734 : decode cL_law 734 = .ok (.iload 4, 2) := dk_21 (kat_11 30 rfl) (kat_11 31 rfl) rfl
theorem dL_law_736 : decode cL_law 736 = .ok (.iconst 2, 1) := dk_5 (kat_11 32 rfl)
theorem dL_law_737 : decode cL_law 737 = .ok (.iadd, 1) := dk_96 (kat_11 33 rfl)
theorem dL_law_738 : decode cL_law 738 = .ok (.iaload, 1) := dk_46 (kat_11 34 rfl)
theorem dL_law_739 : decode cL_law 739 = .ok (.invokevirtual 77, 3) := dk_182 (kat_11 35 rfl) (kat_11 36 rfl) (kat_11 37 rfl) rfl
theorem dL_law_742 : decode cL_law 742 = .ok (.pop, 1) := dk_87 (kat_11 38 rfl)
theorem dL_law_743 : decode cL_law 743 = .ok (.goto 1319, 3) := dk_167 (kat_11 39 rfl) (kat_11 40 rfl) (kat_11 41 rfl) (by decide)
set_option maxHeartbeats 4000000 in
set_option maxRecDepth 100000 in
theorem law_c13 {p : Program} {l : Launch} {e : Env} {s : State} {m : MethodId} {below : List Frame} {meth : Method} {c : Code} {A : Nat → Prop} {g : Gx} {b L : Nat} {xs : Nat → Int32} {h0 mo lo n1 n2 : Nat} {fo : Nat → Int64} {u4 : Int32} {xtpd : Int32} {tpf : Nat → Int32} {yhnf : Nat → Int32} {yhtn : Int32} {yhtf : Nat → Int32} {yhjn : Int32} {yhjf : Nat → Int32} {yhmn : Int32} {yhmf : Nat → Int32} {yhbn : Int32} {yhbf : Nat → Int32} {yhsn : Int32} {yhsf : Nat → Int32} {yhcn : Int32} {yhcf : Nat → Int32} {zrn : Int32} {zmn : Int32} {zwn : Int32} {zpn : Int32} {zmd : Int32} {ztr : Int32} {zrf : Nat → Int32} {zmf : Nat → Int32} {zwf : Nat → Int32} {zpf : Nat → Int32} {kac : Int32} {knx : Int32} {kim : Int32} {cf : Nat → SC} {m_taped : Int32} {d_tape : Nat → Int32} {d_r : Nat → Int32} {d_st : Nat → Int32} {d_undone : Nat → Int32} {d_kept : Nat → Int32} {m_undos : Int32} {m_images : Int32} {m_hasHouse : Int32} {xw mw : va_W} (X : Cx p s m meth c #[Value.ref b] cL_law 7 RL A g) (hX : va_X b L xs s s.heap) (hbl : b < s.heap.size) (hbA : ¬ A b) (hi : 0 ≤ u4.toInt ∧ u4.toInt + 6 ≤ (L : Int)) (hL : L ≤ 3072) (h1 : n1 ≤ 601023) (h2 : n2 ≤ 7293028) (hlt : l.stackTraces = false) (hZ : kZ A s s.heap) (htsE : ∀ w ∈ wsE, w.before #[Value.ref b] s = true) (hx : XW g h0 xtpd tpf yhnf yhtn yhtf yhjn yhjf yhmn yhmf yhbn yhbf yhsn yhsf yhcn yhcf zrn zmn zwn zpn zmd ztr zrf zmf zwf zpf kac knx kim cf xw) (hm : MW g mo m_taped d_tape d_r d_st d_undone d_kept m_undos m_images m_hasHouse mw) (hR : LR xtpd tpf yhnf yhtn yhtf yhjn yhjf yhmn yhmf yhbn yhbf yhsn yhsf yhcn yhcf zrn zmn zwn zpn zmd ztr zrf zmf zwf zpf kac knx kim cf m_taped d_tape d_r d_st d_undone d_kept m_undos m_images m_hasHouse) (kk : ∀ (xtpd_2 : Int32) (tpf_2 : Nat → Int32) (yhnf_2 : Nat → Int32) (yhtn_2 : Int32) (yhtf_2 : Nat → Int32) (yhjn_2 : Int32) (yhjf_2 : Nat → Int32) (yhmn_2 : Int32) (yhmf_2 : Nat → Int32) (yhbn_2 : Int32) (yhbf_2 : Nat → Int32) (yhsn_2 : Int32) (yhsf_2 : Nat → Int32) (yhcn_2 : Int32) (yhcf_2 : Nat → Int32) (zrn_2 : Int32) (zmn_2 : Int32) (zwn_2 : Int32) (zpn_2 : Int32) (zmd_2 : Int32) (ztr_2 : Int32) (zrf_2 : Nat → Int32) (zmf_2 : Nat → Int32) (zwf_2 : Nat → Int32) (zpf_2 : Nat → Int32) (kac_2 : Int32) (knx_2 : Int32) (kim_2 : Int32) (cf_2 : Nat → SC) (m_taped_2 : Int32) (d_tape_2 : Nat → Int32) (d_r_2 : Nat → Int32) (d_st_2 : Nat → Int32) (d_undone_2 : Nat → Int32) (d_kept_2 : Nat → Int32) (m_undos_2 : Int32) (m_images_2 : Int32) (m_hasHouse_2 : Int32) (xw2 mw2 : va_W), XW g h0 xtpd_2 tpf_2 yhnf_2 yhtn_2 yhtf_2 yhjn_2 yhjf_2 yhmn_2 yhmf_2 yhbn_2 yhbf_2 yhsn_2 yhsf_2 yhcn_2 yhcf_2 zrn_2 zmn_2 zwn_2 zpn_2 zmd_2 ztr_2 zrf_2 zmf_2 zwf_2 zpf_2 kac_2 knx_2 kim_2 cf_2 xw2 → MW g mo m_taped_2 d_tape_2 d_r_2 d_st_2 d_undone_2 d_kept_2 m_undos_2 m_images_2 m_hasHouse_2 mw2 → LR xtpd_2 tpf_2 yhnf_2 yhtn_2 yhtf_2 yhjn_2 yhjf_2 yhmn_2 yhmf_2 yhbn_2 yhbf_2 yhsn_2 yhsf_2 yhcn_2 yhcf_2 zrn_2 zmn_2 zwn_2 zpn_2 zmd_2 ztr_2 zrf_2 zmf_2 zwf_2 zpf_2 kac_2 knx_2 kim_2 cf_2 m_taped_2 d_tape_2 d_r_2 d_st_2 d_undone_2 d_kept_2 m_undos_2 m_images_2 m_hasHouse_2 → Wk p l e room_1 s m #[Value.ref b] below meth c (lw_Z below #[Value.ref b] s) A g 7 n1 n2 (xw2 ++ (mw2 ++ [(cAJ g lo 1 fo)])) [(4, .int u4), (3, .ref lo), (2, .ref mo), (1, .ref h0), (0, .ref b)] 2062 []) : Wk p l e room_1 s m #[Value.ref b] below meth c (lw_Z below #[Value.ref b] s) A g 7 n1 n2 (xw ++ (mw ++ [(cAJ g lo 1 fo)])) [(4, .int u4), (3, .ref lo), (2, .ref mo), (1, .ref h0), (0, .ref b)] 709 [] := by
  have hiv : IV u4 0 3066 := ⟨hi.1, by omega⟩
  refine k_aload_n X dL_law_709 3 rfl ?_
  refine k_aload_n X dL_law_710 4 rfl ?_
  refine k_iload X dL_law_711 0 rfl ?_
  refine k_iconst (v := 1) X dL_law_713 (by decide) ?_
  refine k_iadd X dL_law_714 ?_
  refine k_nm (fun z_1 ez_1 => ?_)
  have i_2 : z_1.toInt = u4.toInt + 1 := in_add ez_1 hiv (show IV 1 1 1 from (by decide)) (by decide) (by decide)
  have iv_3 : IV z_1 1 3067 := by have := hiv; have := (show IV 1 1 1 from (by decide)); rw [IV, i_2]; omega
  refine k_sld X hX hbl hbA dL_law_715 (by rw [vp_in_iff]; have := iv_3; omega) ?_
  refine k_nm (fun a_4 ea_4 => ?_)
  refine k_aload_n X dL_law_716 4 rfl ?_
  refine k_iload X dL_law_717 0 rfl ?_
  refine k_iconst (v := 2) X dL_law_719 (by decide) ?_
  refine k_iadd X dL_law_720 ?_
  refine k_nm (fun z_5 ez_5 => ?_)
  have i_6 : z_5.toInt = u4.toInt + 2 := in_add ez_5 hiv (show IV 2 2 2 from (by decide)) (by decide) (by decide)
  have iv_7 : IV z_5 2 3068 := by have := hiv; have := (show IV 2 2 2 from (by decide)); rw [IV, i_6]; omega
  refine k_sld X hX hbl hbA dL_law_721 (by rw [vp_in_iff]; have := iv_7; omega) ?_
  refine k_nm (fun a_8 ea_8 => ?_)
  refine lx_tail (st := []) a_4 a_8 X hx dL_law_722 mw877 (Nat.le_of_ble_eq_true rfl) (Nat.le_of_ble_eq_true rfl) (Nat.le_of_ble_eq_true rfl) (Nat.le_trans h1 (Nat.le_of_ble_eq_true rfl)) (Nat.le_trans h2 (Nat.le_of_ble_eq_true rfl)) (fun r_9 xw_10 hx_11 => ?_)
  refine k_pop X dL_law_725 rfl ?_
  refine k_aload_n X dL_law_726 2 rfl ?_
  refine k_aload_n X dL_law_727 4 rfl ?_
  refine k_iload X dL_law_728 0 rfl ?_
  refine k_iconst (v := 1) X dL_law_730 (by decide) ?_
  refine k_iadd X dL_law_731 ?_
  refine k_to z_1 ez_1.symm ?_
  refine k_sld X hX hbl hbA dL_law_732 (by rw [vp_in_iff]; have := iv_3; omega) ?_
  refine k_to a_4 ea_4.symm ?_
  refine k_aload_n X dL_law_733 4 rfl ?_
  refine k_iload X dL_law_734 0 rfl ?_
  refine k_iconst (v := 2) X dL_law_736 (by decide) ?_
  refine k_iadd X dL_law_737 ?_
  refine k_to z_5 ez_5.symm ?_
  refine k_sld X hX hbl hbA dL_law_738 (by rw [vp_in_iff]; have := iv_7; omega) ?_
  refine k_to a_8 ea_8.symm ?_
  refine lm_tail (st := []) a_4 a_8 X hm dL_law_739 mw881 (Nat.le_of_ble_eq_true rfl) (Nat.le_of_ble_eq_true rfl) (Nat.le_of_ble_eq_true rfl) (Nat.le_trans h1 (Nat.le_of_ble_eq_true rfl)) (Nat.le_trans h2 (Nat.le_of_ble_eq_true rfl)) (fun r_12 mw_13 hm_14 => ?_)
  refine k_pop X dL_law_742 rfl ?_
  refine k_goto 2062 X dL_law_743 (by decide) ?_
  exact kk _ _ _ _ _ _ _ _ _ _ _ _ _ _ _ _ _ _ _ _ _ _ _ _ _ _ _ _ _ _ _ _ _ _ _ _ _ _ _ _ hx_11 hm_14 hR
