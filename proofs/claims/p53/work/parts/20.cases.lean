set_option maxRecDepth 100000
set_option maxHeartbeats 4000000
theorem dL_law_k0 : ((((dD cL_law 276 (.aload_n 1) 1 ∧ dD cL_law 277 (.aload_n 0) 1) ∧ (dD cL_law 278 (.iload 4) 2 ∧ dD cL_law 280 (.iconst 1) 1)) ∧ ((dD cL_law 281 .iadd 1 ∧ dD cL_law 282 .iaload 1) ∧ (dD cL_law 283 (.aload_n 0) 1 ∧ dD cL_law 284 (.iload 4) 2))) ∧ (((dD cL_law 286 (.iconst 2) 1 ∧ dD cL_law 287 .iadd 1) ∧ (dD cL_law 288 .iaload 1 ∧ dD cL_law 289 (.aload_n 0) 1)) ∧ ((dD cL_law 290 (.iload 4) 2 ∧ dD cL_law 292 (.iconst 3) 1) ∧ (dD cL_law 293 .iadd 1 ∧ dD cL_law 294 .iaload 1)))) := dkA16 (by decide +kernel)
theorem dL_law_k1 : ((((dD cL_law 295 (.aload_n 0) 1 ∧ dD cL_law 296 (.iload 4) 2) ∧ (dD cL_law 298 (.iconst 4) 1 ∧ dD cL_law 299 .iadd 1)) ∧ ((dD cL_law 300 .iaload 1 ∧ dD cL_law 301 (.aload_n 0) 1) ∧ (dD cL_law 302 (.iload 4) 2 ∧ dD cL_law 304 (.iconst 5) 1))) ∧ (((dD cL_law 305 .iadd 1 ∧ dD cL_law 306 .iaload 1) ∧ (dD cL_law 307 (.invokevirtual 19) 3 ∧ dD cL_law 310 .pop 1)) ∧ ((dD cL_law 311 (.aload_n 2) 1 ∧ dD cL_law 312 (.aload_n 0) 1) ∧ (dD cL_law 313 (.iload 4) 2 ∧ dD cL_law 315 (.iconst 1) 1)))) := dkA16 (by decide +kernel)
theorem dL_law_k2 : ((((dD cL_law 316 .iadd 1 ∧ dD cL_law 317 .iaload 1) ∧ (dD cL_law 318 (.aload_n 0) 1 ∧ dD cL_law 319 (.iload 4) 2)) ∧ ((dD cL_law 321 (.iconst 2) 1 ∧ dD cL_law 322 .iadd 1) ∧ (dD cL_law 323 .iaload 1 ∧ dD cL_law 324 (.aload_n 0) 1))) ∧ (((dD cL_law 325 (.iload 4) 2 ∧ dD cL_law 327 (.iconst 3) 1) ∧ (dD cL_law 328 .iadd 1 ∧ dD cL_law 329 .iaload 1)) ∧ ((dD cL_law 330 (.aload_n 0) 1 ∧ dD cL_law 331 (.iload 4) 2) ∧ (dD cL_law 333 (.iconst 4) 1 ∧ dD cL_law 334 .iadd 1)))) := dkA16 (by decide +kernel)
theorem dL_law_k3 : (((dD cL_law 335 .iaload 1 ∧ dD cL_law 336 (.aload_n 0) 1) ∧ (dD cL_law 337 (.iload 4) 2 ∧ dD cL_law 339 (.iconst 5) 1)) ∧ ((dD cL_law 340 .iadd 1 ∧ dD cL_law 341 .iaload 1) ∧ (dD cL_law 342 (.invokevirtual 23) 3 ∧ (dD cL_law 345 .pop 1 ∧ dD cL_law 346 (.goto 1716) 3)))) := dkA9 (by decide +kernel)
set_option maxHeartbeats 4000000 in
set_option maxRecDepth 100000 in
theorem law_c0 {p : Program} {l : Launch} {e : Env} {s : State} {m : MethodId} {below : List Frame} {meth : Method} {c : Code} {A : Nat → Prop} {g : Gx} {b L : Nat} {xs : Nat → Int32} {h0 mo lo n1 n2 : Nat} {fo : Nat → Int64} {u4 : Int32} {xtpd : Int32} {tpf : Nat → Int32} {yhnf : Nat → Int32} {yhtn : Int32} {yhtf : Nat → Int32} {yhjn : Int32} {yhjf : Nat → Int32} {yhmn : Int32} {yhmf : Nat → Int32} {yhbn : Int32} {yhbf : Nat → Int32} {yhsn : Int32} {yhsf : Nat → Int32} {yhcn : Int32} {yhcf : Nat → Int32} {zrn : Int32} {zmn : Int32} {zwn : Int32} {zpn : Int32} {zmd : Int32} {ztr : Int32} {zrf : Nat → Int32} {zmf : Nat → Int32} {zwf : Nat → Int32} {zpf : Nat → Int32} {kac : Int32} {knx : Int32} {kim : Int32} {cf : Nat → SC} {m_taped : Int32} {d_tape : Nat → Int32} {d_r : Nat → Int32} {d_st : Nat → Int32} {d_undone : Nat → Int32} {d_kept : Nat → Int32} {m_undos : Int32} {m_images : Int32} {m_hasHouse : Int32} {xw mw : va_W} (X : Cx p s m meth c #[Value.ref b] cL_law 7 RL A g) (hX : va_X b L xs s s.heap) (hbl : b < s.heap.size) (hbA : ¬ A b) (hi : 0 ≤ u4.toInt ∧ u4.toInt + 6 ≤ (L : Int)) (hL : L ≤ 3072) (h1 : n1 ≤ 601023) (h2 : n2 ≤ 7293028) (hlt : l.stackTraces = false) (hZ : kZ A s s.heap) (htsE : ∀ w ∈ wsE, w.before #[Value.ref b] s = true) (hx : XW g h0 xtpd tpf yhnf yhtn yhtf yhjn yhjf yhmn yhmf yhbn yhbf yhsn yhsf yhcn yhcf zrn zmn zwn zpn zmd ztr zrf zmf zwf zpf kac knx kim cf xw) (hm : MW g mo m_taped d_tape d_r d_st d_undone d_kept m_undos m_images m_hasHouse mw) (hR : LR xtpd tpf yhnf yhtn yhtf yhjn yhjf yhmn yhmf yhbn yhbf yhsn yhsf yhcn yhcf zrn zmn zwn zpn zmd ztr zrf zmf zwf zpf kac knx kim cf m_taped d_tape d_r d_st d_undone d_kept m_undos m_images m_hasHouse) (kk : ∀ (xtpd_2 : Int32) (tpf_2 : Nat → Int32) (yhnf_2 : Nat → Int32) (yhtn_2 : Int32) (yhtf_2 : Nat → Int32) (yhjn_2 : Int32) (yhjf_2 : Nat → Int32) (yhmn_2 : Int32) (yhmf_2 : Nat → Int32) (yhbn_2 : Int32) (yhbf_2 : Nat → Int32) (yhsn_2 : Int32) (yhsf_2 : Nat → Int32) (yhcn_2 : Int32) (yhcf_2 : Nat → Int32) (zrn_2 : Int32) (zmn_2 : Int32) (zwn_2 : Int32) (zpn_2 : Int32) (zmd_2 : Int32) (ztr_2 : Int32) (zrf_2 : Nat → Int32) (zmf_2 : Nat → Int32) (zwf_2 : Nat → Int32) (zpf_2 : Nat → Int32) (kac_2 : Int32) (knx_2 : Int32) (kim_2 : Int32) (cf_2 : Nat → SC) (m_taped_2 : Int32) (d_tape_2 : Nat → Int32) (d_r_2 : Nat → Int32) (d_st_2 : Nat → Int32) (d_undone_2 : Nat → Int32) (d_kept_2 : Nat → Int32) (m_undos_2 : Int32) (m_images_2 : Int32) (m_hasHouse_2 : Int32) (xw2 mw2 : va_W), XW g h0 xtpd_2 tpf_2 yhnf_2 yhtn_2 yhtf_2 yhjn_2 yhjf_2 yhmn_2 yhmf_2 yhbn_2 yhbf_2 yhsn_2 yhsf_2 yhcn_2 yhcf_2 zrn_2 zmn_2 zwn_2 zpn_2 zmd_2 ztr_2 zrf_2 zmf_2 zwf_2 zpf_2 kac_2 knx_2 kim_2 cf_2 xw2 → MW g mo m_taped_2 d_tape_2 d_r_2 d_st_2 d_undone_2 d_kept_2 m_undos_2 m_images_2 m_hasHouse_2 mw2 → LR xtpd_2 tpf_2 yhnf_2 yhtn_2 yhtf_2 yhjn_2 yhjf_2 yhmn_2 yhmf_2 yhbn_2 yhbf_2 yhsn_2 yhsf_2 yhcn_2 yhcf_2 zrn_2 zmn_2 zwn_2 zpn_2 zmd_2 ztr_2 zrf_2 zmf_2 zwf_2 zpf_2 kac_2 knx_2 kim_2 cf_2 m_taped_2 d_tape_2 d_r_2 d_st_2 d_undone_2 d_kept_2 m_undos_2 m_images_2 m_hasHouse_2 → Wk p l e room_1 s m #[Value.ref b] below meth c (lw_Z below #[Value.ref b] s) A g 7 n1 n2 (xw2 ++ (mw2 ++ [(cAJ g lo 1 fo)])) [(4, .int u4), (3, .ref lo), (2, .ref mo), (1, .ref h0), (0, .ref b)] 2062 []) : Wk p l e room_1 s m #[Value.ref b] below meth c (lw_Z below #[Value.ref b] s) A g 7 n1 n2 (xw ++ (mw ++ [(cAJ g lo 1 fo)])) [(4, .int u4), (3, .ref lo), (2, .ref mo), (1, .ref h0), (0, .ref b)] 276 [] := by
  have hiv : IV u4 0 3066 := ⟨hi.1, by omega⟩
  refine k_aload_n X dL_law_k0.1.1.1.1 3 rfl ?_
  refine k_aload_n X dL_law_k0.1.1.1.2 4 rfl ?_
  refine k_iload X dL_law_k0.1.1.2.1 0 rfl ?_
  refine k_iconst (v := 1) X dL_law_k0.1.1.2.2 ic_1 ?_
  refine k_iadd X dL_law_k0.1.2.1.1 ?_
  refine k_nm (fun z_1 ez_1 => ?_)
  have i_2 : z_1.toInt = u4.toInt + 1 := in_add ez_1 hiv iq_1_1_1 (zle_e rfl) (zle_e rfl)
  have iv_3 : IV z_1 1 3067 := by have := hiv; have := iq_1_1_1; rw [IV, i_2]; omega
  refine k_sld X hX hbl hbA dL_law_k0.1.2.1.2 (by rw [vp_in_iff]; have := iv_3; omega) ?_
  refine k_nm (fun a_4 ea_4 => ?_)
  refine k_aload_n X dL_law_k0.1.2.2.1 4 rfl ?_
  refine k_iload X dL_law_k0.1.2.2.2 0 rfl ?_
  refine k_iconst (v := 2) X dL_law_k0.2.1.1.1 ic_2 ?_
  refine k_iadd X dL_law_k0.2.1.1.2 ?_
  refine k_nm (fun z_5 ez_5 => ?_)
  have i_6 : z_5.toInt = u4.toInt + 2 := in_add ez_5 hiv iq_2_2_2 (zle_e rfl) (zle_e rfl)
  have iv_7 : IV z_5 2 3068 := by have := hiv; have := iq_2_2_2; rw [IV, i_6]; omega
  refine k_sld X hX hbl hbA dL_law_k0.2.1.2.1 (by rw [vp_in_iff]; have := iv_7; omega) ?_
  refine k_nm (fun a_8 ea_8 => ?_)
  refine k_aload_n X dL_law_k0.2.1.2.2 4 rfl ?_
  refine k_iload X dL_law_k0.2.2.1.1 0 rfl ?_
  refine k_iconst (v := 3) X dL_law_k0.2.2.1.2 ic_3 ?_
  refine k_iadd X dL_law_k0.2.2.2.1 ?_
  refine k_nm (fun z_9 ez_9 => ?_)
  have i_10 : z_9.toInt = u4.toInt + 3 := in_add ez_9 hiv iq_3_3_3 (zle_e rfl) (zle_e rfl)
  have iv_11 : IV z_9 3 3069 := by have := hiv; have := iq_3_3_3; rw [IV, i_10]; omega
  refine k_sld X hX hbl hbA dL_law_k0.2.2.2.2 (by rw [vp_in_iff]; have := iv_11; omega) ?_
  refine k_nm (fun a_12 ea_12 => ?_)
  refine k_aload_n X dL_law_k1.1.1.1.1 4 rfl ?_
  refine k_iload X dL_law_k1.1.1.1.2 0 rfl ?_
  refine k_iconst (v := 4) X dL_law_k1.1.1.2.1 ic_4 ?_
  refine k_iadd X dL_law_k1.1.1.2.2 ?_
  refine k_nm (fun z_13 ez_13 => ?_)
  have i_14 : z_13.toInt = u4.toInt + 4 := in_add ez_13 hiv iq_4_4_4 (zle_e rfl) (zle_e rfl)
  have iv_15 : IV z_13 4 3070 := by have := hiv; have := iq_4_4_4; rw [IV, i_14]; omega
  refine k_sld X hX hbl hbA dL_law_k1.1.2.1.1 (by rw [vp_in_iff]; have := iv_15; omega) ?_
  refine k_nm (fun a_16 ea_16 => ?_)
  refine k_aload_n X dL_law_k1.1.2.1.2 4 rfl ?_
  refine k_iload X dL_law_k1.1.2.2.1 0 rfl ?_
  refine k_iconst (v := 5) X dL_law_k1.1.2.2.2 ic_5 ?_
  refine k_iadd X dL_law_k1.2.1.1.1 ?_
  refine k_nm (fun z_17 ez_17 => ?_)
  have i_18 : z_17.toInt = u4.toInt + 5 := in_add ez_17 hiv iq_5_5_5 (zle_e rfl) (zle_e rfl)
  have iv_19 : IV z_17 5 3071 := by have := hiv; have := iq_5_5_5; rw [IV, i_18]; omega
  refine k_sld X hX hbl hbA dL_law_k1.2.1.1.2 (by rw [vp_in_iff]; have := iv_19; omega) ?_
  refine k_nm (fun a_20 ea_20 => ?_)
  refine lx_feed (st := []) a_4 a_8 a_12 a_16 a_20 X hx dL_law_k1.2.1.2.1 mw191 (Nat.le_of_ble_eq_true rfl) (Nat.le_of_ble_eq_true rfl) (Nat.le_of_ble_eq_true rfl) (Nat.le_trans h1 (Nat.le_of_ble_eq_true rfl)) (Nat.le_trans h2 (Nat.le_of_ble_eq_true rfl)) (fun r_21 t_25 t_26 xw_22 hx_23 hr_24 => ?_)
  refine k_pop X dL_law_k1.2.1.2.2 rfl ?_
  refine k_aload_n X dL_law_k1.2.2.1.1 2 rfl ?_
  refine k_aload_n X dL_law_k1.2.2.1.2 4 rfl ?_
  refine k_iload X dL_law_k1.2.2.2.1 0 rfl ?_
  refine k_iconst (v := 1) X dL_law_k1.2.2.2.2 ic_1 ?_
  refine k_iadd X dL_law_k2.1.1.1.1 ?_
  refine k_to z_1 ez_1.symm ?_
  refine k_sld X hX hbl hbA dL_law_k2.1.1.1.2 (by rw [vp_in_iff]; have := iv_3; omega) ?_
  refine k_to a_4 ea_4.symm ?_
  refine k_aload_n X dL_law_k2.1.1.2.1 4 rfl ?_
  refine k_iload X dL_law_k2.1.1.2.2 0 rfl ?_
  refine k_iconst (v := 2) X dL_law_k2.1.2.1.1 ic_2 ?_
  refine k_iadd X dL_law_k2.1.2.1.2 ?_
  refine k_to z_5 ez_5.symm ?_
  refine k_sld X hX hbl hbA dL_law_k2.1.2.2.1 (by rw [vp_in_iff]; have := iv_7; omega) ?_
  refine k_to a_8 ea_8.symm ?_
  refine k_aload_n X dL_law_k2.1.2.2.2 4 rfl ?_
  refine k_iload X dL_law_k2.2.1.1.1 0 rfl ?_
  refine k_iconst (v := 3) X dL_law_k2.2.1.1.2 ic_3 ?_
  refine k_iadd X dL_law_k2.2.1.2.1 ?_
  refine k_to z_9 ez_9.symm ?_
  refine k_sld X hX hbl hbA dL_law_k2.2.1.2.2 (by rw [vp_in_iff]; have := iv_11; omega) ?_
  refine k_to a_12 ea_12.symm ?_
  refine k_aload_n X dL_law_k2.2.2.1.1 4 rfl ?_
  refine k_iload X dL_law_k2.2.2.1.2 0 rfl ?_
  refine k_iconst (v := 4) X dL_law_k2.2.2.2.1 ic_4 ?_
  refine k_iadd X dL_law_k2.2.2.2.2 ?_
  refine k_to z_13 ez_13.symm ?_
  refine k_sld X hX hbl hbA dL_law_k3.1.1.1 (by rw [vp_in_iff]; have := iv_15; omega) ?_
  refine k_to a_16 ea_16.symm ?_
  refine k_aload_n X dL_law_k3.1.1.2 4 rfl ?_
  refine k_iload X dL_law_k3.1.2.1 0 rfl ?_
  refine k_iconst (v := 5) X dL_law_k3.1.2.2 ic_5 ?_
  refine k_iadd X dL_law_k3.2.1.1 ?_
  refine k_to z_17 ez_17.symm ?_
  refine k_sld X hX hbl hbA dL_law_k3.2.1.2 (by rw [vp_in_iff]; have := iv_19; omega) ?_
  refine k_to a_20 ea_20.symm ?_
  refine lm_feed (st := []) a_4 a_8 a_12 a_16 a_20 X hm dL_law_k3.2.2.1 mw200 (Nat.le_of_ble_eq_true rfl) (Nat.le_of_ble_eq_true rfl) (Nat.le_of_ble_eq_true rfl) (Nat.le_trans h1 (Nat.le_of_ble_eq_true rfl)) (Nat.le_trans h2 (Nat.le_of_ble_eq_true rfl)) (fun r_27 t_31 t_32 mw_28 hm_29 hr_30 => ?_)
  refine k_pop X dL_law_k3.2.2.2.1 rfl ?_
  refine k_goto 2062 X dL_law_k3.2.2.2.2 (jp_e rfl) ?_
  exact kk _ _ _ _ _ _ _ _ _ _ _ _ _ _ _ _ _ _ _ _ _ _ _ _ _ _ _ _ _ _ _ _ _ _ _ _ _ _ _ _ hx_23 hm_29 (LR_feed hR hr_24 hr_30)

theorem dL_law_k4 : ((((dD cL_law 349 (.aload_n 1) 1 ∧ dD cL_law 350 (.aload_n 0) 1) ∧ (dD cL_law 351 (.iload 4) 2 ∧ dD cL_law 353 (.iconst 1) 1)) ∧ ((dD cL_law 354 .iadd 1 ∧ dD cL_law 355 .iaload 1) ∧ (dD cL_law 356 (.invokevirtual 24) 3 ∧ dD cL_law 359 .pop 1))) ∧ (((dD cL_law 360 (.aload_n 2) 1 ∧ dD cL_law 361 (.aload_n 0) 1) ∧ (dD cL_law 362 (.iload 4) 2 ∧ dD cL_law 364 (.iconst 1) 1)) ∧ ((dD cL_law 365 .iadd 1 ∧ dD cL_law 366 .iaload 1) ∧ (dD cL_law 367 (.invokevirtual 27) 3 ∧ dD cL_law 370 .pop 1)))) := dkA16 (by decide +kernel)
theorem dL_law_k5 : dD cL_law 371 (.goto 1691) 3 := dkA1 (by decide +kernel)
set_option maxHeartbeats 4000000 in
set_option maxRecDepth 100000 in
theorem law_c1 {p : Program} {l : Launch} {e : Env} {s : State} {m : MethodId} {below : List Frame} {meth : Method} {c : Code} {A : Nat → Prop} {g : Gx} {b L : Nat} {xs : Nat → Int32} {h0 mo lo n1 n2 : Nat} {fo : Nat → Int64} {u4 : Int32} {xtpd : Int32} {tpf : Nat → Int32} {yhnf : Nat → Int32} {yhtn : Int32} {yhtf : Nat → Int32} {yhjn : Int32} {yhjf : Nat → Int32} {yhmn : Int32} {yhmf : Nat → Int32} {yhbn : Int32} {yhbf : Nat → Int32} {yhsn : Int32} {yhsf : Nat → Int32} {yhcn : Int32} {yhcf : Nat → Int32} {zrn : Int32} {zmn : Int32} {zwn : Int32} {zpn : Int32} {zmd : Int32} {ztr : Int32} {zrf : Nat → Int32} {zmf : Nat → Int32} {zwf : Nat → Int32} {zpf : Nat → Int32} {kac : Int32} {knx : Int32} {kim : Int32} {cf : Nat → SC} {m_taped : Int32} {d_tape : Nat → Int32} {d_r : Nat → Int32} {d_st : Nat → Int32} {d_undone : Nat → Int32} {d_kept : Nat → Int32} {m_undos : Int32} {m_images : Int32} {m_hasHouse : Int32} {xw mw : va_W} (X : Cx p s m meth c #[Value.ref b] cL_law 7 RL A g) (hX : va_X b L xs s s.heap) (hbl : b < s.heap.size) (hbA : ¬ A b) (hi : 0 ≤ u4.toInt ∧ u4.toInt + 6 ≤ (L : Int)) (hL : L ≤ 3072) (h1 : n1 ≤ 601023) (h2 : n2 ≤ 7293028) (hlt : l.stackTraces = false) (hZ : kZ A s s.heap) (htsE : ∀ w ∈ wsE, w.before #[Value.ref b] s = true) (hx : XW g h0 xtpd tpf yhnf yhtn yhtf yhjn yhjf yhmn yhmf yhbn yhbf yhsn yhsf yhcn yhcf zrn zmn zwn zpn zmd ztr zrf zmf zwf zpf kac knx kim cf xw) (hm : MW g mo m_taped d_tape d_r d_st d_undone d_kept m_undos m_images m_hasHouse mw) (hR : LR xtpd tpf yhnf yhtn yhtf yhjn yhjf yhmn yhmf yhbn yhbf yhsn yhsf yhcn yhcf zrn zmn zwn zpn zmd ztr zrf zmf zwf zpf kac knx kim cf m_taped d_tape d_r d_st d_undone d_kept m_undos m_images m_hasHouse) (kk : ∀ (xtpd_2 : Int32) (tpf_2 : Nat → Int32) (yhnf_2 : Nat → Int32) (yhtn_2 : Int32) (yhtf_2 : Nat → Int32) (yhjn_2 : Int32) (yhjf_2 : Nat → Int32) (yhmn_2 : Int32) (yhmf_2 : Nat → Int32) (yhbn_2 : Int32) (yhbf_2 : Nat → Int32) (yhsn_2 : Int32) (yhsf_2 : Nat → Int32) (yhcn_2 : Int32) (yhcf_2 : Nat → Int32) (zrn_2 : Int32) (zmn_2 : Int32) (zwn_2 : Int32) (zpn_2 : Int32) (zmd_2 : Int32) (ztr_2 : Int32) (zrf_2 : Nat → Int32) (zmf_2 : Nat → Int32) (zwf_2 : Nat → Int32) (zpf_2 : Nat → Int32) (kac_2 : Int32) (knx_2 : Int32) (kim_2 : Int32) (cf_2 : Nat → SC) (m_taped_2 : Int32) (d_tape_2 : Nat → Int32) (d_r_2 : Nat → Int32) (d_st_2 : Nat → Int32) (d_undone_2 : Nat → Int32) (d_kept_2 : Nat → Int32) (m_undos_2 : Int32) (m_images_2 : Int32) (m_hasHouse_2 : Int32) (xw2 mw2 : va_W), XW g h0 xtpd_2 tpf_2 yhnf_2 yhtn_2 yhtf_2 yhjn_2 yhjf_2 yhmn_2 yhmf_2 yhbn_2 yhbf_2 yhsn_2 yhsf_2 yhcn_2 yhcf_2 zrn_2 zmn_2 zwn_2 zpn_2 zmd_2 ztr_2 zrf_2 zmf_2 zwf_2 zpf_2 kac_2 knx_2 kim_2 cf_2 xw2 → MW g mo m_taped_2 d_tape_2 d_r_2 d_st_2 d_undone_2 d_kept_2 m_undos_2 m_images_2 m_hasHouse_2 mw2 → LR xtpd_2 tpf_2 yhnf_2 yhtn_2 yhtf_2 yhjn_2 yhjf_2 yhmn_2 yhmf_2 yhbn_2 yhbf_2 yhsn_2 yhsf_2 yhcn_2 yhcf_2 zrn_2 zmn_2 zwn_2 zpn_2 zmd_2 ztr_2 zrf_2 zmf_2 zwf_2 zpf_2 kac_2 knx_2 kim_2 cf_2 m_taped_2 d_tape_2 d_r_2 d_st_2 d_undone_2 d_kept_2 m_undos_2 m_images_2 m_hasHouse_2 → Wk p l e room_1 s m #[Value.ref b] below meth c (lw_Z below #[Value.ref b] s) A g 7 n1 n2 (xw2 ++ (mw2 ++ [(cAJ g lo 1 fo)])) [(4, .int u4), (3, .ref lo), (2, .ref mo), (1, .ref h0), (0, .ref b)] 2062 []) : Wk p l e room_1 s m #[Value.ref b] below meth c (lw_Z below #[Value.ref b] s) A g 7 n1 n2 (xw ++ (mw ++ [(cAJ g lo 1 fo)])) [(4, .int u4), (3, .ref lo), (2, .ref mo), (1, .ref h0), (0, .ref b)] 349 [] := by
  have hiv : IV u4 0 3066 := ⟨hi.1, by omega⟩
  refine k_aload_n X dL_law_k4.1.1.1.1 3 rfl ?_
  refine k_aload_n X dL_law_k4.1.1.1.2 4 rfl ?_
  refine k_iload X dL_law_k4.1.1.2.1 0 rfl ?_
  refine k_iconst (v := 1) X dL_law_k4.1.1.2.2 ic_1 ?_
  refine k_iadd X dL_law_k4.1.2.1.1 ?_
  refine k_nm (fun z_1 ez_1 => ?_)
  have i_2 : z_1.toInt = u4.toInt + 1 := in_add ez_1 hiv iq_1_1_1 (zle_e rfl) (zle_e rfl)
  have iv_3 : IV z_1 1 3067 := by have := hiv; have := iq_1_1_1; rw [IV, i_2]; omega
  refine k_sld X hX hbl hbA dL_law_k4.1.2.1.2 (by rw [vp_in_iff]; have := iv_3; omega) ?_
  refine k_nm (fun a_4 ea_4 => ?_)
  refine lx_house (st := []) a_4 X hx dL_law_k4.1.2.2.1 mw206 (Nat.le_of_ble_eq_true rfl) (Nat.le_of_ble_eq_true rfl) (Nat.le_of_ble_eq_true rfl) (Nat.le_trans h1 (Nat.le_of_ble_eq_true rfl)) (Nat.le_trans h2 (Nat.le_of_ble_eq_true rfl)) (fun r_5 t_9 t_10 t_11 t_12 t_13 t_14 t_15 t_16 t_17 t_18 t_19 t_20 t_21 t_22 t_23 t_24 t_25 t_26 t_27 t_28 t_29 t_30 t_31 t_32 t_33 t_34 xw_6 hx_7 hr_8 => ?_)
  refine k_pop X dL_law_k4.1.2.2.2 rfl ?_
  refine k_aload_n X dL_law_k4.2.1.1.1 2 rfl ?_
  refine k_aload_n X dL_law_k4.2.1.1.2 4 rfl ?_
  refine k_iload X dL_law_k4.2.1.2.1 0 rfl ?_
  refine k_iconst (v := 1) X dL_law_k4.2.1.2.2 ic_1 ?_
  refine k_iadd X dL_law_k4.2.2.1.1 ?_
  refine k_to z_1 ez_1.symm ?_
  refine k_sld X hX hbl hbA dL_law_k4.2.2.1.2 (by rw [vp_in_iff]; have := iv_3; omega) ?_
  refine k_to a_4 ea_4.symm ?_
  refine lm_house (st := []) a_4 X hm dL_law_k4.2.2.2.1 mw464 (Nat.le_of_ble_eq_true rfl) (Nat.le_of_ble_eq_true rfl) (Nat.le_of_ble_eq_true rfl) (Nat.le_trans h1 (Nat.le_of_ble_eq_true rfl)) (Nat.le_trans h2 (Nat.le_of_ble_eq_true rfl)) (fun r_35 t_39 t_40 t_41 t_42 t_43 t_44 mw_36 hm_37 hr_38 => ?_)
  refine k_pop X dL_law_k4.2.2.2.2 rfl ?_
  refine k_goto 2062 X dL_law_k5 (jp_e rfl) ?_
  exact kk _ _ _ _ _ _ _ _ _ _ _ _ _ _ _ _ _ _ _ _ _ _ _ _ _ _ _ _ _ _ _ _ _ _ _ _ _ _ _ _ hx_7 hm_37 (LR_house hR hr_8 hr_38)

theorem dL_law_k6 : ((dD cL_law 374 (.aload_n 1) 1 ∧ (dD cL_law 375 (.invokevirtual 28) 3 ∧ dD cL_law 378 .pop 1)) ∧ ((dD cL_law 379 (.aload_n 2) 1 ∧ dD cL_law 380 (.invokevirtual 32) 3) ∧ (dD cL_law 383 .pop 1 ∧ dD cL_law 384 (.goto 1678) 3))) := dkA7 (by decide +kernel)
set_option maxHeartbeats 4000000 in
set_option maxRecDepth 100000 in
theorem law_c2 {p : Program} {l : Launch} {e : Env} {s : State} {m : MethodId} {below : List Frame} {meth : Method} {c : Code} {A : Nat → Prop} {g : Gx} {b L : Nat} {xs : Nat → Int32} {h0 mo lo n1 n2 : Nat} {fo : Nat → Int64} {u4 : Int32} {xtpd : Int32} {tpf : Nat → Int32} {yhnf : Nat → Int32} {yhtn : Int32} {yhtf : Nat → Int32} {yhjn : Int32} {yhjf : Nat → Int32} {yhmn : Int32} {yhmf : Nat → Int32} {yhbn : Int32} {yhbf : Nat → Int32} {yhsn : Int32} {yhsf : Nat → Int32} {yhcn : Int32} {yhcf : Nat → Int32} {zrn : Int32} {zmn : Int32} {zwn : Int32} {zpn : Int32} {zmd : Int32} {ztr : Int32} {zrf : Nat → Int32} {zmf : Nat → Int32} {zwf : Nat → Int32} {zpf : Nat → Int32} {kac : Int32} {knx : Int32} {kim : Int32} {cf : Nat → SC} {m_taped : Int32} {d_tape : Nat → Int32} {d_r : Nat → Int32} {d_st : Nat → Int32} {d_undone : Nat → Int32} {d_kept : Nat → Int32} {m_undos : Int32} {m_images : Int32} {m_hasHouse : Int32} {xw mw : va_W} (X : Cx p s m meth c #[Value.ref b] cL_law 7 RL A g) (hX : va_X b L xs s s.heap) (hbl : b < s.heap.size) (hbA : ¬ A b) (hi : 0 ≤ u4.toInt ∧ u4.toInt + 6 ≤ (L : Int)) (hL : L ≤ 3072) (h1 : n1 ≤ 601023) (h2 : n2 ≤ 7293028) (hlt : l.stackTraces = false) (hZ : kZ A s s.heap) (htsE : ∀ w ∈ wsE, w.before #[Value.ref b] s = true) (hx : XW g h0 xtpd tpf yhnf yhtn yhtf yhjn yhjf yhmn yhmf yhbn yhbf yhsn yhsf yhcn yhcf zrn zmn zwn zpn zmd ztr zrf zmf zwf zpf kac knx kim cf xw) (hm : MW g mo m_taped d_tape d_r d_st d_undone d_kept m_undos m_images m_hasHouse mw) (hR : LR xtpd tpf yhnf yhtn yhtf yhjn yhjf yhmn yhmf yhbn yhbf yhsn yhsf yhcn yhcf zrn zmn zwn zpn zmd ztr zrf zmf zwf zpf kac knx kim cf m_taped d_tape d_r d_st d_undone d_kept m_undos m_images m_hasHouse) (kk : ∀ (xtpd_2 : Int32) (tpf_2 : Nat → Int32) (yhnf_2 : Nat → Int32) (yhtn_2 : Int32) (yhtf_2 : Nat → Int32) (yhjn_2 : Int32) (yhjf_2 : Nat → Int32) (yhmn_2 : Int32) (yhmf_2 : Nat → Int32) (yhbn_2 : Int32) (yhbf_2 : Nat → Int32) (yhsn_2 : Int32) (yhsf_2 : Nat → Int32) (yhcn_2 : Int32) (yhcf_2 : Nat → Int32) (zrn_2 : Int32) (zmn_2 : Int32) (zwn_2 : Int32) (zpn_2 : Int32) (zmd_2 : Int32) (ztr_2 : Int32) (zrf_2 : Nat → Int32) (zmf_2 : Nat → Int32) (zwf_2 : Nat → Int32) (zpf_2 : Nat → Int32) (kac_2 : Int32) (knx_2 : Int32) (kim_2 : Int32) (cf_2 : Nat → SC) (m_taped_2 : Int32) (d_tape_2 : Nat → Int32) (d_r_2 : Nat → Int32) (d_st_2 : Nat → Int32) (d_undone_2 : Nat → Int32) (d_kept_2 : Nat → Int32) (m_undos_2 : Int32) (m_images_2 : Int32) (m_hasHouse_2 : Int32) (xw2 mw2 : va_W), XW g h0 xtpd_2 tpf_2 yhnf_2 yhtn_2 yhtf_2 yhjn_2 yhjf_2 yhmn_2 yhmf_2 yhbn_2 yhbf_2 yhsn_2 yhsf_2 yhcn_2 yhcf_2 zrn_2 zmn_2 zwn_2 zpn_2 zmd_2 ztr_2 zrf_2 zmf_2 zwf_2 zpf_2 kac_2 knx_2 kim_2 cf_2 xw2 → MW g mo m_taped_2 d_tape_2 d_r_2 d_st_2 d_undone_2 d_kept_2 m_undos_2 m_images_2 m_hasHouse_2 mw2 → LR xtpd_2 tpf_2 yhnf_2 yhtn_2 yhtf_2 yhjn_2 yhjf_2 yhmn_2 yhmf_2 yhbn_2 yhbf_2 yhsn_2 yhsf_2 yhcn_2 yhcf_2 zrn_2 zmn_2 zwn_2 zpn_2 zmd_2 ztr_2 zrf_2 zmf_2 zwf_2 zpf_2 kac_2 knx_2 kim_2 cf_2 m_taped_2 d_tape_2 d_r_2 d_st_2 d_undone_2 d_kept_2 m_undos_2 m_images_2 m_hasHouse_2 → Wk p l e room_1 s m #[Value.ref b] below meth c (lw_Z below #[Value.ref b] s) A g 7 n1 n2 (xw2 ++ (mw2 ++ [(cAJ g lo 1 fo)])) [(4, .int u4), (3, .ref lo), (2, .ref mo), (1, .ref h0), (0, .ref b)] 2062 []) : Wk p l e room_1 s m #[Value.ref b] below meth c (lw_Z below #[Value.ref b] s) A g 7 n1 n2 (xw ++ (mw ++ [(cAJ g lo 1 fo)])) [(4, .int u4), (3, .ref lo), (2, .ref mo), (1, .ref h0), (0, .ref b)] 374 [] := by
  have hiv : IV u4 0 3066 := ⟨hi.1, by omega⟩
  refine k_aload_n X dL_law_k6.1.1 3 rfl ?_
  refine lx_fault (st := []) () X hx dL_law_k6.1.2.1 mw622 (Nat.le_of_ble_eq_true rfl) (Nat.le_of_ble_eq_true rfl) (Nat.le_of_ble_eq_true rfl) (Nat.le_trans h1 (Nat.le_of_ble_eq_true rfl)) (Nat.le_trans h2 (Nat.le_of_ble_eq_true rfl)) (fun r_1 xw_2 hx_3 => ?_)
  refine k_pop X dL_law_k6.1.2.2 rfl ?_
  refine k_aload_n X dL_law_k6.2.1.1 2 rfl ?_
  refine lm_fault (st := []) () X hm dL_law_k6.2.1.2 mw626 (Nat.le_of_ble_eq_true rfl) (Nat.le_of_ble_eq_true rfl) (Nat.le_of_ble_eq_true rfl) (Nat.le_trans h1 (Nat.le_of_ble_eq_true rfl)) (Nat.le_trans h2 (Nat.le_of_ble_eq_true rfl)) (fun r_4 mw_5 hm_6 => ?_)
  refine k_pop X dL_law_k6.2.2.1 rfl ?_
  refine k_goto 2062 X dL_law_k6.2.2.2 (jp_e rfl) ?_
  exact kk _ _ _ _ _ _ _ _ _ _ _ _ _ _ _ _ _ _ _ _ _ _ _ _ _ _ _ _ _ _ _ _ _ _ _ _ _ _ _ _ hx_3 hm_6 hR

theorem dL_law_k7 : ((dD cL_law 387 (.aload_n 1) 1 ∧ (dD cL_law 388 (.invokevirtual 33) 3 ∧ dD cL_law 391 .pop 1)) ∧ ((dD cL_law 392 (.aload_n 2) 1 ∧ dD cL_law 393 (.invokevirtual 36) 3) ∧ (dD cL_law 396 .pop 1 ∧ dD cL_law 397 (.goto 1665) 3))) := dkA7 (by decide +kernel)
set_option maxHeartbeats 4000000 in
set_option maxRecDepth 100000 in
theorem law_c3 {p : Program} {l : Launch} {e : Env} {s : State} {m : MethodId} {below : List Frame} {meth : Method} {c : Code} {A : Nat → Prop} {g : Gx} {b L : Nat} {xs : Nat → Int32} {h0 mo lo n1 n2 : Nat} {fo : Nat → Int64} {u4 : Int32} {xtpd : Int32} {tpf : Nat → Int32} {yhnf : Nat → Int32} {yhtn : Int32} {yhtf : Nat → Int32} {yhjn : Int32} {yhjf : Nat → Int32} {yhmn : Int32} {yhmf : Nat → Int32} {yhbn : Int32} {yhbf : Nat → Int32} {yhsn : Int32} {yhsf : Nat → Int32} {yhcn : Int32} {yhcf : Nat → Int32} {zrn : Int32} {zmn : Int32} {zwn : Int32} {zpn : Int32} {zmd : Int32} {ztr : Int32} {zrf : Nat → Int32} {zmf : Nat → Int32} {zwf : Nat → Int32} {zpf : Nat → Int32} {kac : Int32} {knx : Int32} {kim : Int32} {cf : Nat → SC} {m_taped : Int32} {d_tape : Nat → Int32} {d_r : Nat → Int32} {d_st : Nat → Int32} {d_undone : Nat → Int32} {d_kept : Nat → Int32} {m_undos : Int32} {m_images : Int32} {m_hasHouse : Int32} {xw mw : va_W} (X : Cx p s m meth c #[Value.ref b] cL_law 7 RL A g) (hX : va_X b L xs s s.heap) (hbl : b < s.heap.size) (hbA : ¬ A b) (hi : 0 ≤ u4.toInt ∧ u4.toInt + 6 ≤ (L : Int)) (hL : L ≤ 3072) (h1 : n1 ≤ 601023) (h2 : n2 ≤ 7293028) (hlt : l.stackTraces = false) (hZ : kZ A s s.heap) (htsE : ∀ w ∈ wsE, w.before #[Value.ref b] s = true) (hx : XW g h0 xtpd tpf yhnf yhtn yhtf yhjn yhjf yhmn yhmf yhbn yhbf yhsn yhsf yhcn yhcf zrn zmn zwn zpn zmd ztr zrf zmf zwf zpf kac knx kim cf xw) (hm : MW g mo m_taped d_tape d_r d_st d_undone d_kept m_undos m_images m_hasHouse mw) (hR : LR xtpd tpf yhnf yhtn yhtf yhjn yhjf yhmn yhmf yhbn yhbf yhsn yhsf yhcn yhcf zrn zmn zwn zpn zmd ztr zrf zmf zwf zpf kac knx kim cf m_taped d_tape d_r d_st d_undone d_kept m_undos m_images m_hasHouse) (kk : ∀ (xtpd_2 : Int32) (tpf_2 : Nat → Int32) (yhnf_2 : Nat → Int32) (yhtn_2 : Int32) (yhtf_2 : Nat → Int32) (yhjn_2 : Int32) (yhjf_2 : Nat → Int32) (yhmn_2 : Int32) (yhmf_2 : Nat → Int32) (yhbn_2 : Int32) (yhbf_2 : Nat → Int32) (yhsn_2 : Int32) (yhsf_2 : Nat → Int32) (yhcn_2 : Int32) (yhcf_2 : Nat → Int32) (zrn_2 : Int32) (zmn_2 : Int32) (zwn_2 : Int32) (zpn_2 : Int32) (zmd_2 : Int32) (ztr_2 : Int32) (zrf_2 : Nat → Int32) (zmf_2 : Nat → Int32) (zwf_2 : Nat → Int32) (zpf_2 : Nat → Int32) (kac_2 : Int32) (knx_2 : Int32) (kim_2 : Int32) (cf_2 : Nat → SC) (m_taped_2 : Int32) (d_tape_2 : Nat → Int32) (d_r_2 : Nat → Int32) (d_st_2 : Nat → Int32) (d_undone_2 : Nat → Int32) (d_kept_2 : Nat → Int32) (m_undos_2 : Int32) (m_images_2 : Int32) (m_hasHouse_2 : Int32) (xw2 mw2 : va_W), XW g h0 xtpd_2 tpf_2 yhnf_2 yhtn_2 yhtf_2 yhjn_2 yhjf_2 yhmn_2 yhmf_2 yhbn_2 yhbf_2 yhsn_2 yhsf_2 yhcn_2 yhcf_2 zrn_2 zmn_2 zwn_2 zpn_2 zmd_2 ztr_2 zrf_2 zmf_2 zwf_2 zpf_2 kac_2 knx_2 kim_2 cf_2 xw2 → MW g mo m_taped_2 d_tape_2 d_r_2 d_st_2 d_undone_2 d_kept_2 m_undos_2 m_images_2 m_hasHouse_2 mw2 → LR xtpd_2 tpf_2 yhnf_2 yhtn_2 yhtf_2 yhjn_2 yhjf_2 yhmn_2 yhmf_2 yhbn_2 yhbf_2 yhsn_2 yhsf_2 yhcn_2 yhcf_2 zrn_2 zmn_2 zwn_2 zpn_2 zmd_2 ztr_2 zrf_2 zmf_2 zwf_2 zpf_2 kac_2 knx_2 kim_2 cf_2 m_taped_2 d_tape_2 d_r_2 d_st_2 d_undone_2 d_kept_2 m_undos_2 m_images_2 m_hasHouse_2 → Wk p l e room_1 s m #[Value.ref b] below meth c (lw_Z below #[Value.ref b] s) A g 7 n1 n2 (xw2 ++ (mw2 ++ [(cAJ g lo 1 fo)])) [(4, .int u4), (3, .ref lo), (2, .ref mo), (1, .ref h0), (0, .ref b)] 2062 []) : Wk p l e room_1 s m #[Value.ref b] below meth c (lw_Z below #[Value.ref b] s) A g 7 n1 n2 (xw ++ (mw ++ [(cAJ g lo 1 fo)])) [(4, .int u4), (3, .ref lo), (2, .ref mo), (1, .ref h0), (0, .ref b)] 387 [] := by
  have hiv : IV u4 0 3066 := ⟨hi.1, by omega⟩
  refine k_aload_n X dL_law_k7.1.1 3 rfl ?_
  refine lx_where (st := []) () X hx dL_law_k7.1.2.1 mw630 (Nat.le_of_ble_eq_true rfl) (Nat.le_of_ble_eq_true rfl) (Nat.le_of_ble_eq_true rfl) (Nat.le_trans h1 (Nat.le_of_ble_eq_true rfl)) (Nat.le_trans h2 (Nat.le_of_ble_eq_true rfl)) (fun r_1 xw_2 hx_3 => ?_)
  refine k_pop X dL_law_k7.1.2.2 rfl ?_
  refine k_aload_n X dL_law_k7.2.1.1 2 rfl ?_
  refine lm_where (st := []) () X hm dL_law_k7.2.1.2 mw635 (Nat.le_of_ble_eq_true rfl) (Nat.le_of_ble_eq_true rfl) (Nat.le_of_ble_eq_true rfl) (Nat.le_trans h1 (Nat.le_of_ble_eq_true rfl)) (Nat.le_trans h2 (Nat.le_of_ble_eq_true rfl)) (fun r_4 mw_5 hm_6 => ?_)
  refine k_pop X dL_law_k7.2.2.1 rfl ?_
  refine k_goto 2062 X dL_law_k7.2.2.2 (jp_e rfl) ?_
  exact kk _ _ _ _ _ _ _ _ _ _ _ _ _ _ _ _ _ _ _ _ _ _ _ _ _ _ _ _ _ _ _ _ _ _ _ _ _ _ _ _ hx_3 hm_6 hR

theorem dL_law_k8 : ((((dD cL_law 400 (.aload_n 1) 1 ∧ dD cL_law 401 (.aload_n 0) 1) ∧ (dD cL_law 402 (.iload 4) 2 ∧ dD cL_law 404 (.iconst 1) 1)) ∧ ((dD cL_law 405 .iadd 1 ∧ dD cL_law 406 .iaload 1) ∧ (dD cL_law 407 (.aload_n 0) 1 ∧ dD cL_law 408 (.iload 4) 2))) ∧ (((dD cL_law 410 (.iconst 2) 1 ∧ dD cL_law 411 .iadd 1) ∧ (dD cL_law 412 .iaload 1 ∧ dD cL_law 413 (.invokevirtual 37) 3)) ∧ ((dD cL_law 416 .pop 1 ∧ dD cL_law 417 (.aload_n 2) 1) ∧ (dD cL_law 418 (.aload_n 0) 1 ∧ dD cL_law 419 (.iload 4) 2)))) := dkA16 (by decide +kernel)
theorem dL_law_k9 : (((dD cL_law 421 (.iconst 1) 1 ∧ dD cL_law 422 .iadd 1) ∧ (dD cL_law 423 .iaload 1 ∧ (dD cL_law 424 (.aload_n 0) 1 ∧ dD cL_law 425 (.iload 4) 2))) ∧ ((dD cL_law 427 (.iconst 2) 1 ∧ (dD cL_law 428 .iadd 1 ∧ dD cL_law 429 .iaload 1)) ∧ (dD cL_law 430 (.invokevirtual 41) 3 ∧ (dD cL_law 433 .pop 1 ∧ dD cL_law 434 (.goto 1628) 3)))) := dkA11 (by decide +kernel)
set_option maxHeartbeats 4000000 in
set_option maxRecDepth 100000 in
theorem law_c4 {p : Program} {l : Launch} {e : Env} {s : State} {m : MethodId} {below : List Frame} {meth : Method} {c : Code} {A : Nat → Prop} {g : Gx} {b L : Nat} {xs : Nat → Int32} {h0 mo lo n1 n2 : Nat} {fo : Nat → Int64} {u4 : Int32} {xtpd : Int32} {tpf : Nat → Int32} {yhnf : Nat → Int32} {yhtn : Int32} {yhtf : Nat → Int32} {yhjn : Int32} {yhjf : Nat → Int32} {yhmn : Int32} {yhmf : Nat → Int32} {yhbn : Int32} {yhbf : Nat → Int32} {yhsn : Int32} {yhsf : Nat → Int32} {yhcn : Int32} {yhcf : Nat → Int32} {zrn : Int32} {zmn : Int32} {zwn : Int32} {zpn : Int32} {zmd : Int32} {ztr : Int32} {zrf : Nat → Int32} {zmf : Nat → Int32} {zwf : Nat → Int32} {zpf : Nat → Int32} {kac : Int32} {knx : Int32} {kim : Int32} {cf : Nat → SC} {m_taped : Int32} {d_tape : Nat → Int32} {d_r : Nat → Int32} {d_st : Nat → Int32} {d_undone : Nat → Int32} {d_kept : Nat → Int32} {m_undos : Int32} {m_images : Int32} {m_hasHouse : Int32} {xw mw : va_W} (X : Cx p s m meth c #[Value.ref b] cL_law 7 RL A g) (hX : va_X b L xs s s.heap) (hbl : b < s.heap.size) (hbA : ¬ A b) (hi : 0 ≤ u4.toInt ∧ u4.toInt + 6 ≤ (L : Int)) (hL : L ≤ 3072) (h1 : n1 ≤ 601023) (h2 : n2 ≤ 7293028) (hlt : l.stackTraces = false) (hZ : kZ A s s.heap) (htsE : ∀ w ∈ wsE, w.before #[Value.ref b] s = true) (hx : XW g h0 xtpd tpf yhnf yhtn yhtf yhjn yhjf yhmn yhmf yhbn yhbf yhsn yhsf yhcn yhcf zrn zmn zwn zpn zmd ztr zrf zmf zwf zpf kac knx kim cf xw) (hm : MW g mo m_taped d_tape d_r d_st d_undone d_kept m_undos m_images m_hasHouse mw) (hR : LR xtpd tpf yhnf yhtn yhtf yhjn yhjf yhmn yhmf yhbn yhbf yhsn yhsf yhcn yhcf zrn zmn zwn zpn zmd ztr zrf zmf zwf zpf kac knx kim cf m_taped d_tape d_r d_st d_undone d_kept m_undos m_images m_hasHouse) (kk : ∀ (xtpd_2 : Int32) (tpf_2 : Nat → Int32) (yhnf_2 : Nat → Int32) (yhtn_2 : Int32) (yhtf_2 : Nat → Int32) (yhjn_2 : Int32) (yhjf_2 : Nat → Int32) (yhmn_2 : Int32) (yhmf_2 : Nat → Int32) (yhbn_2 : Int32) (yhbf_2 : Nat → Int32) (yhsn_2 : Int32) (yhsf_2 : Nat → Int32) (yhcn_2 : Int32) (yhcf_2 : Nat → Int32) (zrn_2 : Int32) (zmn_2 : Int32) (zwn_2 : Int32) (zpn_2 : Int32) (zmd_2 : Int32) (ztr_2 : Int32) (zrf_2 : Nat → Int32) (zmf_2 : Nat → Int32) (zwf_2 : Nat → Int32) (zpf_2 : Nat → Int32) (kac_2 : Int32) (knx_2 : Int32) (kim_2 : Int32) (cf_2 : Nat → SC) (m_taped_2 : Int32) (d_tape_2 : Nat → Int32) (d_r_2 : Nat → Int32) (d_st_2 : Nat → Int32) (d_undone_2 : Nat → Int32) (d_kept_2 : Nat → Int32) (m_undos_2 : Int32) (m_images_2 : Int32) (m_hasHouse_2 : Int32) (xw2 mw2 : va_W), XW g h0 xtpd_2 tpf_2 yhnf_2 yhtn_2 yhtf_2 yhjn_2 yhjf_2 yhmn_2 yhmf_2 yhbn_2 yhbf_2 yhsn_2 yhsf_2 yhcn_2 yhcf_2 zrn_2 zmn_2 zwn_2 zpn_2 zmd_2 ztr_2 zrf_2 zmf_2 zwf_2 zpf_2 kac_2 knx_2 kim_2 cf_2 xw2 → MW g mo m_taped_2 d_tape_2 d_r_2 d_st_2 d_undone_2 d_kept_2 m_undos_2 m_images_2 m_hasHouse_2 mw2 → LR xtpd_2 tpf_2 yhnf_2 yhtn_2 yhtf_2 yhjn_2 yhjf_2 yhmn_2 yhmf_2 yhbn_2 yhbf_2 yhsn_2 yhsf_2 yhcn_2 yhcf_2 zrn_2 zmn_2 zwn_2 zpn_2 zmd_2 ztr_2 zrf_2 zmf_2 zwf_2 zpf_2 kac_2 knx_2 kim_2 cf_2 m_taped_2 d_tape_2 d_r_2 d_st_2 d_undone_2 d_kept_2 m_undos_2 m_images_2 m_hasHouse_2 → Wk p l e room_1 s m #[Value.ref b] below meth c (lw_Z below #[Value.ref b] s) A g 7 n1 n2 (xw2 ++ (mw2 ++ [(cAJ g lo 1 fo)])) [(4, .int u4), (3, .ref lo), (2, .ref mo), (1, .ref h0), (0, .ref b)] 2062 []) : Wk p l e room_1 s m #[Value.ref b] below meth c (lw_Z below #[Value.ref b] s) A g 7 n1 n2 (xw ++ (mw ++ [(cAJ g lo 1 fo)])) [(4, .int u4), (3, .ref lo), (2, .ref mo), (1, .ref h0), (0, .ref b)] 400 [] := by
  have hiv : IV u4 0 3066 := ⟨hi.1, by omega⟩
  refine k_aload_n X dL_law_k8.1.1.1.1 3 rfl ?_
  refine k_aload_n X dL_law_k8.1.1.1.2 4 rfl ?_
  refine k_iload X dL_law_k8.1.1.2.1 0 rfl ?_
  refine k_iconst (v := 1) X dL_law_k8.1.1.2.2 ic_1 ?_
  refine k_iadd X dL_law_k8.1.2.1.1 ?_
  refine k_nm (fun z_1 ez_1 => ?_)
  have i_2 : z_1.toInt = u4.toInt + 1 := in_add ez_1 hiv iq_1_1_1 (zle_e rfl) (zle_e rfl)
  have iv_3 : IV z_1 1 3067 := by have := hiv; have := iq_1_1_1; rw [IV, i_2]; omega
  refine k_sld X hX hbl hbA dL_law_k8.1.2.1.2 (by rw [vp_in_iff]; have := iv_3; omega) ?_
  refine k_nm (fun a_4 ea_4 => ?_)
  refine k_aload_n X dL_law_k8.1.2.2.1 4 rfl ?_
  refine k_iload X dL_law_k8.1.2.2.2 0 rfl ?_
  refine k_iconst (v := 2) X dL_law_k8.2.1.1.1 ic_2 ?_
  refine k_iadd X dL_law_k8.2.1.1.2 ?_
  refine k_nm (fun z_5 ez_5 => ?_)
  have i_6 : z_5.toInt = u4.toInt + 2 := in_add ez_5 hiv iq_2_2_2 (zle_e rfl) (zle_e rfl)
  have iv_7 : IV z_5 2 3068 := by have := hiv; have := iq_2_2_2; rw [IV, i_6]; omega
  refine k_sld X hX hbl hbA dL_law_k8.2.1.2.1 (by rw [vp_in_iff]; have := iv_7; omega) ?_
  refine k_nm (fun a_8 ea_8 => ?_)
  refine lx_reel (st := []) a_4 a_8 X hx dL_law_k8.2.1.2.2 mw639 (Nat.le_of_ble_eq_true rfl) (Nat.le_of_ble_eq_true rfl) (Nat.le_of_ble_eq_true rfl) (Nat.le_trans h1 (Nat.le_of_ble_eq_true rfl)) (Nat.le_trans h2 (Nat.le_of_ble_eq_true rfl)) (fun r_9 xw_10 hx_11 => ?_)
  refine k_pop X dL_law_k8.2.2.1.1 rfl ?_
  refine k_aload_n X dL_law_k8.2.2.1.2 2 rfl ?_
  refine k_aload_n X dL_law_k8.2.2.2.1 4 rfl ?_
  refine k_iload X dL_law_k8.2.2.2.2 0 rfl ?_
  refine k_iconst (v := 1) X dL_law_k9.1.1.1 ic_1 ?_
  refine k_iadd X dL_law_k9.1.1.2 ?_
  refine k_to z_1 ez_1.symm ?_
  refine k_sld X hX hbl hbA dL_law_k9.1.2.1 (by rw [vp_in_iff]; have := iv_3; omega) ?_
  refine k_to a_4 ea_4.symm ?_
  refine k_aload_n X dL_law_k9.1.2.2.1 4 rfl ?_
  refine k_iload X dL_law_k9.1.2.2.2 0 rfl ?_
  refine k_iconst (v := 2) X dL_law_k9.2.1.1 ic_2 ?_
  refine k_iadd X dL_law_k9.2.1.2.1 ?_
  refine k_to z_5 ez_5.symm ?_
  refine k_sld X hX hbl hbA dL_law_k9.2.1.2.2 (by rw [vp_in_iff]; have := iv_7; omega) ?_
  refine k_to a_8 ea_8.symm ?_
  refine lm_reel (st := []) a_4 a_8 X hm dL_law_k9.2.2.1 mw666 (Nat.le_of_ble_eq_true rfl) (Nat.le_of_ble_eq_true rfl) (Nat.le_of_ble_eq_true rfl) (Nat.le_trans h1 (Nat.le_of_ble_eq_true rfl)) (Nat.le_trans h2 (Nat.le_of_ble_eq_true rfl)) (fun r_12 mw_13 hm_14 => ?_)
  refine k_pop X dL_law_k9.2.2.2.1 rfl ?_
  refine k_goto 2062 X dL_law_k9.2.2.2.2 (jp_e rfl) ?_
  exact kk _ _ _ _ _ _ _ _ _ _ _ _ _ _ _ _ _ _ _ _ _ _ _ _ _ _ _ _ _ _ _ _ _ _ _ _ _ _ _ _ hx_11 hm_14 hR

theorem dL_law_k10 : ((((dD cL_law 437 (.aload_n 1) 1 ∧ dD cL_law 438 (.aload_n 0) 1) ∧ (dD cL_law 439 (.iload 4) 2 ∧ dD cL_law 441 (.iconst 1) 1)) ∧ ((dD cL_law 442 .iadd 1 ∧ dD cL_law 443 .iaload 1) ∧ (dD cL_law 444 (.aload_n 0) 1 ∧ dD cL_law 445 (.iload 4) 2))) ∧ (((dD cL_law 447 (.iconst 2) 1 ∧ dD cL_law 448 .iadd 1) ∧ (dD cL_law 449 .iaload 1 ∧ dD cL_law 450 (.invokevirtual 42) 3)) ∧ ((dD cL_law 453 .pop 1 ∧ dD cL_law 454 (.aload_n 2) 1) ∧ (dD cL_law 455 (.aload_n 0) 1 ∧ dD cL_law 456 (.iload 4) 2)))) := dkA16 (by decide +kernel)
theorem dL_law_k11 : (((dD cL_law 458 (.iconst 1) 1 ∧ dD cL_law 459 .iadd 1) ∧ (dD cL_law 460 .iaload 1 ∧ (dD cL_law 461 (.aload_n 0) 1 ∧ dD cL_law 462 (.iload 4) 2))) ∧ ((dD cL_law 464 (.iconst 2) 1 ∧ (dD cL_law 465 .iadd 1 ∧ dD cL_law 466 .iaload 1)) ∧ (dD cL_law 467 (.invokevirtual 45) 3 ∧ (dD cL_law 470 .pop 1 ∧ dD cL_law 471 (.goto 1591) 3)))) := dkA11 (by decide +kernel)
set_option maxHeartbeats 4000000 in
set_option maxRecDepth 100000 in
theorem law_c5 {p : Program} {l : Launch} {e : Env} {s : State} {m : MethodId} {below : List Frame} {meth : Method} {c : Code} {A : Nat → Prop} {g : Gx} {b L : Nat} {xs : Nat → Int32} {h0 mo lo n1 n2 : Nat} {fo : Nat → Int64} {u4 : Int32} {xtpd : Int32} {tpf : Nat → Int32} {yhnf : Nat → Int32} {yhtn : Int32} {yhtf : Nat → Int32} {yhjn : Int32} {yhjf : Nat → Int32} {yhmn : Int32} {yhmf : Nat → Int32} {yhbn : Int32} {yhbf : Nat → Int32} {yhsn : Int32} {yhsf : Nat → Int32} {yhcn : Int32} {yhcf : Nat → Int32} {zrn : Int32} {zmn : Int32} {zwn : Int32} {zpn : Int32} {zmd : Int32} {ztr : Int32} {zrf : Nat → Int32} {zmf : Nat → Int32} {zwf : Nat → Int32} {zpf : Nat → Int32} {kac : Int32} {knx : Int32} {kim : Int32} {cf : Nat → SC} {m_taped : Int32} {d_tape : Nat → Int32} {d_r : Nat → Int32} {d_st : Nat → Int32} {d_undone : Nat → Int32} {d_kept : Nat → Int32} {m_undos : Int32} {m_images : Int32} {m_hasHouse : Int32} {xw mw : va_W} (X : Cx p s m meth c #[Value.ref b] cL_law 7 RL A g) (hX : va_X b L xs s s.heap) (hbl : b < s.heap.size) (hbA : ¬ A b) (hi : 0 ≤ u4.toInt ∧ u4.toInt + 6 ≤ (L : Int)) (hL : L ≤ 3072) (h1 : n1 ≤ 601023) (h2 : n2 ≤ 7293028) (hlt : l.stackTraces = false) (hZ : kZ A s s.heap) (htsE : ∀ w ∈ wsE, w.before #[Value.ref b] s = true) (hx : XW g h0 xtpd tpf yhnf yhtn yhtf yhjn yhjf yhmn yhmf yhbn yhbf yhsn yhsf yhcn yhcf zrn zmn zwn zpn zmd ztr zrf zmf zwf zpf kac knx kim cf xw) (hm : MW g mo m_taped d_tape d_r d_st d_undone d_kept m_undos m_images m_hasHouse mw) (hR : LR xtpd tpf yhnf yhtn yhtf yhjn yhjf yhmn yhmf yhbn yhbf yhsn yhsf yhcn yhcf zrn zmn zwn zpn zmd ztr zrf zmf zwf zpf kac knx kim cf m_taped d_tape d_r d_st d_undone d_kept m_undos m_images m_hasHouse) (kk : ∀ (xtpd_2 : Int32) (tpf_2 : Nat → Int32) (yhnf_2 : Nat → Int32) (yhtn_2 : Int32) (yhtf_2 : Nat → Int32) (yhjn_2 : Int32) (yhjf_2 : Nat → Int32) (yhmn_2 : Int32) (yhmf_2 : Nat → Int32) (yhbn_2 : Int32) (yhbf_2 : Nat → Int32) (yhsn_2 : Int32) (yhsf_2 : Nat → Int32) (yhcn_2 : Int32) (yhcf_2 : Nat → Int32) (zrn_2 : Int32) (zmn_2 : Int32) (zwn_2 : Int32) (zpn_2 : Int32) (zmd_2 : Int32) (ztr_2 : Int32) (zrf_2 : Nat → Int32) (zmf_2 : Nat → Int32) (zwf_2 : Nat → Int32) (zpf_2 : Nat → Int32) (kac_2 : Int32) (knx_2 : Int32) (kim_2 : Int32) (cf_2 : Nat → SC) (m_taped_2 : Int32) (d_tape_2 : Nat → Int32) (d_r_2 : Nat → Int32) (d_st_2 : Nat → Int32) (d_undone_2 : Nat → Int32) (d_kept_2 : Nat → Int32) (m_undos_2 : Int32) (m_images_2 : Int32) (m_hasHouse_2 : Int32) (xw2 mw2 : va_W), XW g h0 xtpd_2 tpf_2 yhnf_2 yhtn_2 yhtf_2 yhjn_2 yhjf_2 yhmn_2 yhmf_2 yhbn_2 yhbf_2 yhsn_2 yhsf_2 yhcn_2 yhcf_2 zrn_2 zmn_2 zwn_2 zpn_2 zmd_2 ztr_2 zrf_2 zmf_2 zwf_2 zpf_2 kac_2 knx_2 kim_2 cf_2 xw2 → MW g mo m_taped_2 d_tape_2 d_r_2 d_st_2 d_undone_2 d_kept_2 m_undos_2 m_images_2 m_hasHouse_2 mw2 → LR xtpd_2 tpf_2 yhnf_2 yhtn_2 yhtf_2 yhjn_2 yhjf_2 yhmn_2 yhmf_2 yhbn_2 yhbf_2 yhsn_2 yhsf_2 yhcn_2 yhcf_2 zrn_2 zmn_2 zwn_2 zpn_2 zmd_2 ztr_2 zrf_2 zmf_2 zwf_2 zpf_2 kac_2 knx_2 kim_2 cf_2 m_taped_2 d_tape_2 d_r_2 d_st_2 d_undone_2 d_kept_2 m_undos_2 m_images_2 m_hasHouse_2 → Wk p l e room_1 s m #[Value.ref b] below meth c (lw_Z below #[Value.ref b] s) A g 7 n1 n2 (xw2 ++ (mw2 ++ [(cAJ g lo 1 fo)])) [(4, .int u4), (3, .ref lo), (2, .ref mo), (1, .ref h0), (0, .ref b)] 2062 []) : Wk p l e room_1 s m #[Value.ref b] below meth c (lw_Z below #[Value.ref b] s) A g 7 n1 n2 (xw ++ (mw ++ [(cAJ g lo 1 fo)])) [(4, .int u4), (3, .ref lo), (2, .ref mo), (1, .ref h0), (0, .ref b)] 437 [] := by
  have hiv : IV u4 0 3066 := ⟨hi.1, by omega⟩
  refine k_aload_n X dL_law_k10.1.1.1.1 3 rfl ?_
  refine k_aload_n X dL_law_k10.1.1.1.2 4 rfl ?_
  refine k_iload X dL_law_k10.1.1.2.1 0 rfl ?_
  refine k_iconst (v := 1) X dL_law_k10.1.1.2.2 ic_1 ?_
  refine k_iadd X dL_law_k10.1.2.1.1 ?_
  refine k_nm (fun z_1 ez_1 => ?_)
  have i_2 : z_1.toInt = u4.toInt + 1 := in_add ez_1 hiv iq_1_1_1 (zle_e rfl) (zle_e rfl)
  have iv_3 : IV z_1 1 3067 := by have := hiv; have := iq_1_1_1; rw [IV, i_2]; omega
  refine k_sld X hX hbl hbA dL_law_k10.1.2.1.2 (by rw [vp_in_iff]; have := iv_3; omega) ?_
  refine k_nm (fun a_4 ea_4 => ?_)
  refine k_aload_n X dL_law_k10.1.2.2.1 4 rfl ?_
  refine k_iload X dL_law_k10.1.2.2.2 0 rfl ?_
  refine k_iconst (v := 2) X dL_law_k10.2.1.1.1 ic_2 ?_
  refine k_iadd X dL_law_k10.2.1.1.2 ?_
  refine k_nm (fun z_5 ez_5 => ?_)
  have i_6 : z_5.toInt = u4.toInt + 2 := in_add ez_5 hiv iq_2_2_2 (zle_e rfl) (zle_e rfl)
  have iv_7 : IV z_5 2 3068 := by have := hiv; have := iq_2_2_2; rw [IV, i_6]; omega
  refine k_sld X hX hbl hbA dL_law_k10.2.1.2.1 (by rw [vp_in_iff]; have := iv_7; omega) ?_
  refine k_nm (fun a_8 ea_8 => ?_)
  refine lx_mark (st := []) a_4 a_8 X hx dL_law_k10.2.1.2.2 mw693 (Nat.le_of_ble_eq_true rfl) (Nat.le_of_ble_eq_true rfl) (Nat.le_of_ble_eq_true rfl) (Nat.le_trans h1 (Nat.le_of_ble_eq_true rfl)) (Nat.le_trans h2 (Nat.le_of_ble_eq_true rfl)) (fun r_9 xw_10 hx_11 => ?_)
  refine k_pop X dL_law_k10.2.2.1.1 rfl ?_
  refine k_aload_n X dL_law_k10.2.2.1.2 2 rfl ?_
  refine k_aload_n X dL_law_k10.2.2.2.1 4 rfl ?_
  refine k_iload X dL_law_k10.2.2.2.2 0 rfl ?_
  refine k_iconst (v := 1) X dL_law_k11.1.1.1 ic_1 ?_
  refine k_iadd X dL_law_k11.1.1.2 ?_
  refine k_to z_1 ez_1.symm ?_
  refine k_sld X hX hbl hbA dL_law_k11.1.2.1 (by rw [vp_in_iff]; have := iv_3; omega) ?_
  refine k_to a_4 ea_4.symm ?_
  refine k_aload_n X dL_law_k11.1.2.2.1 4 rfl ?_
  refine k_iload X dL_law_k11.1.2.2.2 0 rfl ?_
  refine k_iconst (v := 2) X dL_law_k11.2.1.1 ic_2 ?_
  refine k_iadd X dL_law_k11.2.1.2.1 ?_
  refine k_to z_5 ez_5.symm ?_
  refine k_sld X hX hbl hbA dL_law_k11.2.1.2.2 (by rw [vp_in_iff]; have := iv_7; omega) ?_
  refine k_to a_8 ea_8.symm ?_
  refine lm_mark (st := []) a_4 a_8 X hm dL_law_k11.2.2.1 mw699 (Nat.le_of_ble_eq_true rfl) (Nat.le_of_ble_eq_true rfl) (Nat.le_of_ble_eq_true rfl) (Nat.le_trans h1 (Nat.le_of_ble_eq_true rfl)) (Nat.le_trans h2 (Nat.le_of_ble_eq_true rfl)) (fun r_12 mw_13 hm_14 => ?_)
  refine k_pop X dL_law_k11.2.2.2.1 rfl ?_
  refine k_goto 2062 X dL_law_k11.2.2.2.2 (jp_e rfl) ?_
  exact kk _ _ _ _ _ _ _ _ _ _ _ _ _ _ _ _ _ _ _ _ _ _ _ _ _ _ _ _ _ _ _ _ _ _ _ _ _ _ _ _ hx_11 hm_14 hR

theorem dL_law_k12 : ((((dD cL_law 474 (.aload_n 1) 1 ∧ dD cL_law 475 (.aload_n 0) 1) ∧ (dD cL_law 476 (.iload 4) 2 ∧ dD cL_law 478 (.iconst 1) 1)) ∧ ((dD cL_law 479 .iadd 1 ∧ dD cL_law 480 .iaload 1) ∧ (dD cL_law 481 (.invokevirtual 46) 3 ∧ dD cL_law 484 .pop 1))) ∧ (((dD cL_law 485 (.aload_n 2) 1 ∧ dD cL_law 486 (.aload_n 0) 1) ∧ (dD cL_law 487 (.iload 4) 2 ∧ dD cL_law 489 (.iconst 1) 1)) ∧ ((dD cL_law 490 .iadd 1 ∧ dD cL_law 491 .iaload 1) ∧ (dD cL_law 492 (.invokevirtual 49) 3 ∧ dD cL_law 495 .pop 1)))) := dkA16 (by decide +kernel)
theorem dL_law_k13 : dD cL_law 496 (.goto 1566) 3 := dkA1 (by decide +kernel)
set_option maxHeartbeats 4000000 in
set_option maxRecDepth 100000 in
theorem law_c6 {p : Program} {l : Launch} {e : Env} {s : State} {m : MethodId} {below : List Frame} {meth : Method} {c : Code} {A : Nat → Prop} {g : Gx} {b L : Nat} {xs : Nat → Int32} {h0 mo lo n1 n2 : Nat} {fo : Nat → Int64} {u4 : Int32} {xtpd : Int32} {tpf : Nat → Int32} {yhnf : Nat → Int32} {yhtn : Int32} {yhtf : Nat → Int32} {yhjn : Int32} {yhjf : Nat → Int32} {yhmn : Int32} {yhmf : Nat → Int32} {yhbn : Int32} {yhbf : Nat → Int32} {yhsn : Int32} {yhsf : Nat → Int32} {yhcn : Int32} {yhcf : Nat → Int32} {zrn : Int32} {zmn : Int32} {zwn : Int32} {zpn : Int32} {zmd : Int32} {ztr : Int32} {zrf : Nat → Int32} {zmf : Nat → Int32} {zwf : Nat → Int32} {zpf : Nat → Int32} {kac : Int32} {knx : Int32} {kim : Int32} {cf : Nat → SC} {m_taped : Int32} {d_tape : Nat → Int32} {d_r : Nat → Int32} {d_st : Nat → Int32} {d_undone : Nat → Int32} {d_kept : Nat → Int32} {m_undos : Int32} {m_images : Int32} {m_hasHouse : Int32} {xw mw : va_W} (X : Cx p s m meth c #[Value.ref b] cL_law 7 RL A g) (hX : va_X b L xs s s.heap) (hbl : b < s.heap.size) (hbA : ¬ A b) (hi : 0 ≤ u4.toInt ∧ u4.toInt + 6 ≤ (L : Int)) (hL : L ≤ 3072) (h1 : n1 ≤ 601023) (h2 : n2 ≤ 7293028) (hlt : l.stackTraces = false) (hZ : kZ A s s.heap) (htsE : ∀ w ∈ wsE, w.before #[Value.ref b] s = true) (hx : XW g h0 xtpd tpf yhnf yhtn yhtf yhjn yhjf yhmn yhmf yhbn yhbf yhsn yhsf yhcn yhcf zrn zmn zwn zpn zmd ztr zrf zmf zwf zpf kac knx kim cf xw) (hm : MW g mo m_taped d_tape d_r d_st d_undone d_kept m_undos m_images m_hasHouse mw) (hR : LR xtpd tpf yhnf yhtn yhtf yhjn yhjf yhmn yhmf yhbn yhbf yhsn yhsf yhcn yhcf zrn zmn zwn zpn zmd ztr zrf zmf zwf zpf kac knx kim cf m_taped d_tape d_r d_st d_undone d_kept m_undos m_images m_hasHouse) (kk : ∀ (xtpd_2 : Int32) (tpf_2 : Nat → Int32) (yhnf_2 : Nat → Int32) (yhtn_2 : Int32) (yhtf_2 : Nat → Int32) (yhjn_2 : Int32) (yhjf_2 : Nat → Int32) (yhmn_2 : Int32) (yhmf_2 : Nat → Int32) (yhbn_2 : Int32) (yhbf_2 : Nat → Int32) (yhsn_2 : Int32) (yhsf_2 : Nat → Int32) (yhcn_2 : Int32) (yhcf_2 : Nat → Int32) (zrn_2 : Int32) (zmn_2 : Int32) (zwn_2 : Int32) (zpn_2 : Int32) (zmd_2 : Int32) (ztr_2 : Int32) (zrf_2 : Nat → Int32) (zmf_2 : Nat → Int32) (zwf_2 : Nat → Int32) (zpf_2 : Nat → Int32) (kac_2 : Int32) (knx_2 : Int32) (kim_2 : Int32) (cf_2 : Nat → SC) (m_taped_2 : Int32) (d_tape_2 : Nat → Int32) (d_r_2 : Nat → Int32) (d_st_2 : Nat → Int32) (d_undone_2 : Nat → Int32) (d_kept_2 : Nat → Int32) (m_undos_2 : Int32) (m_images_2 : Int32) (m_hasHouse_2 : Int32) (xw2 mw2 : va_W), XW g h0 xtpd_2 tpf_2 yhnf_2 yhtn_2 yhtf_2 yhjn_2 yhjf_2 yhmn_2 yhmf_2 yhbn_2 yhbf_2 yhsn_2 yhsf_2 yhcn_2 yhcf_2 zrn_2 zmn_2 zwn_2 zpn_2 zmd_2 ztr_2 zrf_2 zmf_2 zwf_2 zpf_2 kac_2 knx_2 kim_2 cf_2 xw2 → MW g mo m_taped_2 d_tape_2 d_r_2 d_st_2 d_undone_2 d_kept_2 m_undos_2 m_images_2 m_hasHouse_2 mw2 → LR xtpd_2 tpf_2 yhnf_2 yhtn_2 yhtf_2 yhjn_2 yhjf_2 yhmn_2 yhmf_2 yhbn_2 yhbf_2 yhsn_2 yhsf_2 yhcn_2 yhcf_2 zrn_2 zmn_2 zwn_2 zpn_2 zmd_2 ztr_2 zrf_2 zmf_2 zwf_2 zpf_2 kac_2 knx_2 kim_2 cf_2 m_taped_2 d_tape_2 d_r_2 d_st_2 d_undone_2 d_kept_2 m_undos_2 m_images_2 m_hasHouse_2 → Wk p l e room_1 s m #[Value.ref b] below meth c (lw_Z below #[Value.ref b] s) A g 7 n1 n2 (xw2 ++ (mw2 ++ [(cAJ g lo 1 fo)])) [(4, .int u4), (3, .ref lo), (2, .ref mo), (1, .ref h0), (0, .ref b)] 2062 []) : Wk p l e room_1 s m #[Value.ref b] below meth c (lw_Z below #[Value.ref b] s) A g 7 n1 n2 (xw ++ (mw ++ [(cAJ g lo 1 fo)])) [(4, .int u4), (3, .ref lo), (2, .ref mo), (1, .ref h0), (0, .ref b)] 474 [] := by
  have hiv : IV u4 0 3066 := ⟨hi.1, by omega⟩
  refine k_aload_n X dL_law_k12.1.1.1.1 3 rfl ?_
  refine k_aload_n X dL_law_k12.1.1.1.2 4 rfl ?_
  refine k_iload X dL_law_k12.1.1.2.1 0 rfl ?_
  refine k_iconst (v := 1) X dL_law_k12.1.1.2.2 ic_1 ?_
  refine k_iadd X dL_law_k12.1.2.1.1 ?_
  refine k_nm (fun z_1 ez_1 => ?_)
  have i_2 : z_1.toInt = u4.toInt + 1 := in_add ez_1 hiv iq_1_1_1 (zle_e rfl) (zle_e rfl)
  have iv_3 : IV z_1 1 3067 := by have := hiv; have := iq_1_1_1; rw [IV, i_2]; omega
  refine k_sld X hX hbl hbA dL_law_k12.1.2.1.2 (by rw [vp_in_iff]; have := iv_3; omega) ?_
  refine k_nm (fun a_4 ea_4 => ?_)
  refine lx_shows (st := []) a_4 X hx dL_law_k12.1.2.2.1 mw707 (Nat.le_of_ble_eq_true rfl) (Nat.le_of_ble_eq_true rfl) (Nat.le_of_ble_eq_true rfl) (Nat.le_trans h1 (Nat.le_of_ble_eq_true rfl)) (Nat.le_trans h2 (Nat.le_of_ble_eq_true rfl)) (fun r_5 xw_6 hx_7 => ?_)
  refine k_pop X dL_law_k12.1.2.2.2 rfl ?_
  refine k_aload_n X dL_law_k12.2.1.1.1 2 rfl ?_
  refine k_aload_n X dL_law_k12.2.1.1.2 4 rfl ?_
  refine k_iload X dL_law_k12.2.1.2.1 0 rfl ?_
  refine k_iconst (v := 1) X dL_law_k12.2.1.2.2 ic_1 ?_
  refine k_iadd X dL_law_k12.2.2.1.1 ?_
  refine k_to z_1 ez_1.symm ?_
  refine k_sld X hX hbl hbA dL_law_k12.2.2.1.2 (by rw [vp_in_iff]; have := iv_3; omega) ?_
  refine k_to a_4 ea_4.symm ?_
  refine lm_shows (st := []) a_4 X hm dL_law_k12.2.2.2.1 mw715 (Nat.le_of_ble_eq_true rfl) (Nat.le_of_ble_eq_true rfl) (Nat.le_of_ble_eq_true rfl) (Nat.le_trans h1 (Nat.le_of_ble_eq_true rfl)) (Nat.le_trans h2 (Nat.le_of_ble_eq_true rfl)) (fun r_8 mw_9 hm_10 => ?_)
  refine k_pop X dL_law_k12.2.2.2.2 rfl ?_
  refine k_goto 2062 X dL_law_k13 (jp_e rfl) ?_
  exact kk _ _ _ _ _ _ _ _ _ _ _ _ _ _ _ _ _ _ _ _ _ _ _ _ _ _ _ _ _ _ _ _ _ _ _ _ _ _ _ _ hx_7 hm_10 hR

theorem dL_law_k14 : ((((dD cL_law 499 (.aload_n 1) 1 ∧ dD cL_law 500 (.aload_n 0) 1) ∧ (dD cL_law 501 (.iload 4) 2 ∧ dD cL_law 503 (.iconst 1) 1)) ∧ ((dD cL_law 504 .iadd 1 ∧ dD cL_law 505 .iaload 1) ∧ (dD cL_law 506 (.invokevirtual 50) 3 ∧ dD cL_law 509 .pop 1))) ∧ (((dD cL_law 510 (.aload_n 2) 1 ∧ dD cL_law 511 (.aload_n 0) 1) ∧ (dD cL_law 512 (.iload 4) 2 ∧ dD cL_law 514 (.iconst 1) 1)) ∧ ((dD cL_law 515 .iadd 1 ∧ dD cL_law 516 .iaload 1) ∧ (dD cL_law 517 (.invokevirtual 53) 3 ∧ dD cL_law 520 .pop 1)))) := dkA16 (by decide +kernel)
theorem dL_law_k15 : dD cL_law 521 (.goto 1541) 3 := dkA1 (by decide +kernel)
set_option maxHeartbeats 4000000 in
set_option maxRecDepth 100000 in
theorem law_c7 {p : Program} {l : Launch} {e : Env} {s : State} {m : MethodId} {below : List Frame} {meth : Method} {c : Code} {A : Nat → Prop} {g : Gx} {b L : Nat} {xs : Nat → Int32} {h0 mo lo n1 n2 : Nat} {fo : Nat → Int64} {u4 : Int32} {xtpd : Int32} {tpf : Nat → Int32} {yhnf : Nat → Int32} {yhtn : Int32} {yhtf : Nat → Int32} {yhjn : Int32} {yhjf : Nat → Int32} {yhmn : Int32} {yhmf : Nat → Int32} {yhbn : Int32} {yhbf : Nat → Int32} {yhsn : Int32} {yhsf : Nat → Int32} {yhcn : Int32} {yhcf : Nat → Int32} {zrn : Int32} {zmn : Int32} {zwn : Int32} {zpn : Int32} {zmd : Int32} {ztr : Int32} {zrf : Nat → Int32} {zmf : Nat → Int32} {zwf : Nat → Int32} {zpf : Nat → Int32} {kac : Int32} {knx : Int32} {kim : Int32} {cf : Nat → SC} {m_taped : Int32} {d_tape : Nat → Int32} {d_r : Nat → Int32} {d_st : Nat → Int32} {d_undone : Nat → Int32} {d_kept : Nat → Int32} {m_undos : Int32} {m_images : Int32} {m_hasHouse : Int32} {xw mw : va_W} (X : Cx p s m meth c #[Value.ref b] cL_law 7 RL A g) (hX : va_X b L xs s s.heap) (hbl : b < s.heap.size) (hbA : ¬ A b) (hi : 0 ≤ u4.toInt ∧ u4.toInt + 6 ≤ (L : Int)) (hL : L ≤ 3072) (h1 : n1 ≤ 601023) (h2 : n2 ≤ 7293028) (hlt : l.stackTraces = false) (hZ : kZ A s s.heap) (htsE : ∀ w ∈ wsE, w.before #[Value.ref b] s = true) (hx : XW g h0 xtpd tpf yhnf yhtn yhtf yhjn yhjf yhmn yhmf yhbn yhbf yhsn yhsf yhcn yhcf zrn zmn zwn zpn zmd ztr zrf zmf zwf zpf kac knx kim cf xw) (hm : MW g mo m_taped d_tape d_r d_st d_undone d_kept m_undos m_images m_hasHouse mw) (hR : LR xtpd tpf yhnf yhtn yhtf yhjn yhjf yhmn yhmf yhbn yhbf yhsn yhsf yhcn yhcf zrn zmn zwn zpn zmd ztr zrf zmf zwf zpf kac knx kim cf m_taped d_tape d_r d_st d_undone d_kept m_undos m_images m_hasHouse) (kk : ∀ (xtpd_2 : Int32) (tpf_2 : Nat → Int32) (yhnf_2 : Nat → Int32) (yhtn_2 : Int32) (yhtf_2 : Nat → Int32) (yhjn_2 : Int32) (yhjf_2 : Nat → Int32) (yhmn_2 : Int32) (yhmf_2 : Nat → Int32) (yhbn_2 : Int32) (yhbf_2 : Nat → Int32) (yhsn_2 : Int32) (yhsf_2 : Nat → Int32) (yhcn_2 : Int32) (yhcf_2 : Nat → Int32) (zrn_2 : Int32) (zmn_2 : Int32) (zwn_2 : Int32) (zpn_2 : Int32) (zmd_2 : Int32) (ztr_2 : Int32) (zrf_2 : Nat → Int32) (zmf_2 : Nat → Int32) (zwf_2 : Nat → Int32) (zpf_2 : Nat → Int32) (kac_2 : Int32) (knx_2 : Int32) (kim_2 : Int32) (cf_2 : Nat → SC) (m_taped_2 : Int32) (d_tape_2 : Nat → Int32) (d_r_2 : Nat → Int32) (d_st_2 : Nat → Int32) (d_undone_2 : Nat → Int32) (d_kept_2 : Nat → Int32) (m_undos_2 : Int32) (m_images_2 : Int32) (m_hasHouse_2 : Int32) (xw2 mw2 : va_W), XW g h0 xtpd_2 tpf_2 yhnf_2 yhtn_2 yhtf_2 yhjn_2 yhjf_2 yhmn_2 yhmf_2 yhbn_2 yhbf_2 yhsn_2 yhsf_2 yhcn_2 yhcf_2 zrn_2 zmn_2 zwn_2 zpn_2 zmd_2 ztr_2 zrf_2 zmf_2 zwf_2 zpf_2 kac_2 knx_2 kim_2 cf_2 xw2 → MW g mo m_taped_2 d_tape_2 d_r_2 d_st_2 d_undone_2 d_kept_2 m_undos_2 m_images_2 m_hasHouse_2 mw2 → LR xtpd_2 tpf_2 yhnf_2 yhtn_2 yhtf_2 yhjn_2 yhjf_2 yhmn_2 yhmf_2 yhbn_2 yhbf_2 yhsn_2 yhsf_2 yhcn_2 yhcf_2 zrn_2 zmn_2 zwn_2 zpn_2 zmd_2 ztr_2 zrf_2 zmf_2 zwf_2 zpf_2 kac_2 knx_2 kim_2 cf_2 m_taped_2 d_tape_2 d_r_2 d_st_2 d_undone_2 d_kept_2 m_undos_2 m_images_2 m_hasHouse_2 → Wk p l e room_1 s m #[Value.ref b] below meth c (lw_Z below #[Value.ref b] s) A g 7 n1 n2 (xw2 ++ (mw2 ++ [(cAJ g lo 1 fo)])) [(4, .int u4), (3, .ref lo), (2, .ref mo), (1, .ref h0), (0, .ref b)] 2062 []) : Wk p l e room_1 s m #[Value.ref b] below meth c (lw_Z below #[Value.ref b] s) A g 7 n1 n2 (xw ++ (mw ++ [(cAJ g lo 1 fo)])) [(4, .int u4), (3, .ref lo), (2, .ref mo), (1, .ref h0), (0, .ref b)] 499 [] := by
  have hiv : IV u4 0 3066 := ⟨hi.1, by omega⟩
  refine k_aload_n X dL_law_k14.1.1.1.1 3 rfl ?_
  refine k_aload_n X dL_law_k14.1.1.1.2 4 rfl ?_
  refine k_iload X dL_law_k14.1.1.2.1 0 rfl ?_
  refine k_iconst (v := 1) X dL_law_k14.1.1.2.2 ic_1 ?_
  refine k_iadd X dL_law_k14.1.2.1.1 ?_
  refine k_nm (fun z_1 ez_1 => ?_)
  have i_2 : z_1.toInt = u4.toInt + 1 := in_add ez_1 hiv iq_1_1_1 (zle_e rfl) (zle_e rfl)
  have iv_3 : IV z_1 1 3067 := by have := hiv; have := iq_1_1_1; rw [IV, i_2]; omega
  refine k_sld X hX hbl hbA dL_law_k14.1.2.1.2 (by rw [vp_in_iff]; have := iv_3; omega) ?_
  refine k_nm (fun a_4 ea_4 => ?_)
  refine lx_thread (st := []) a_4 X hx dL_law_k14.1.2.2.1 mw727 (Nat.le_of_ble_eq_true rfl) (Nat.le_of_ble_eq_true rfl) (Nat.le_of_ble_eq_true rfl) (Nat.le_trans h1 (Nat.le_of_ble_eq_true rfl)) (Nat.le_trans h2 (Nat.le_of_ble_eq_true rfl)) (fun r_5 xw_6 hx_7 => ?_)
  refine k_pop X dL_law_k14.1.2.2.2 rfl ?_
  refine k_aload_n X dL_law_k14.2.1.1.1 2 rfl ?_
  refine k_aload_n X dL_law_k14.2.1.1.2 4 rfl ?_
  refine k_iload X dL_law_k14.2.1.2.1 0 rfl ?_
  refine k_iconst (v := 1) X dL_law_k14.2.1.2.2 ic_1 ?_
  refine k_iadd X dL_law_k14.2.2.1.1 ?_
  refine k_to z_1 ez_1.symm ?_
  refine k_sld X hX hbl hbA dL_law_k14.2.2.1.2 (by rw [vp_in_iff]; have := iv_3; omega) ?_
  refine k_to a_4 ea_4.symm ?_
  refine lm_thread (st := []) a_4 X hm dL_law_k14.2.2.2.1 mw731 (Nat.le_of_ble_eq_true rfl) (Nat.le_of_ble_eq_true rfl) (Nat.le_of_ble_eq_true rfl) (Nat.le_trans h1 (Nat.le_of_ble_eq_true rfl)) (Nat.le_trans h2 (Nat.le_of_ble_eq_true rfl)) (fun r_8 mw_9 hm_10 => ?_)
  refine k_pop X dL_law_k14.2.2.2.2 rfl ?_
  refine k_goto 2062 X dL_law_k15 (jp_e rfl) ?_
  exact kk _ _ _ _ _ _ _ _ _ _ _ _ _ _ _ _ _ _ _ _ _ _ _ _ _ _ _ _ _ _ _ _ _ _ _ _ _ _ _ _ hx_7 hm_10 hR

theorem dL_law_k16 : ((((dD cL_law 524 (.aload_n 1) 1 ∧ dD cL_law 525 (.aload_n 0) 1) ∧ (dD cL_law 526 (.iload 4) 2 ∧ dD cL_law 528 (.iconst 1) 1)) ∧ ((dD cL_law 529 .iadd 1 ∧ dD cL_law 530 .iaload 1) ∧ (dD cL_law 531 (.aload_n 0) 1 ∧ dD cL_law 532 (.iload 4) 2))) ∧ (((dD cL_law 534 (.iconst 2) 1 ∧ dD cL_law 535 .iadd 1) ∧ (dD cL_law 536 .iaload 1 ∧ dD cL_law 537 (.invokevirtual 54) 3)) ∧ ((dD cL_law 540 .pop 1 ∧ dD cL_law 541 (.aload_n 2) 1) ∧ (dD cL_law 542 (.aload_n 0) 1 ∧ dD cL_law 543 (.iload 4) 2)))) := dkA16 (by decide +kernel)
theorem dL_law_k17 : (((dD cL_law 545 (.iconst 1) 1 ∧ dD cL_law 546 .iadd 1) ∧ (dD cL_law 547 .iaload 1 ∧ (dD cL_law 548 (.aload_n 0) 1 ∧ dD cL_law 549 (.iload 4) 2))) ∧ ((dD cL_law 551 (.iconst 2) 1 ∧ (dD cL_law 552 .iadd 1 ∧ dD cL_law 553 .iaload 1)) ∧ (dD cL_law 554 (.invokevirtual 57) 3 ∧ (dD cL_law 557 .pop 1 ∧ dD cL_law 558 (.goto 1504) 3)))) := dkA11 (by decide +kernel)
set_option maxHeartbeats 4000000 in
set_option maxRecDepth 100000 in
theorem law_c8 {p : Program} {l : Launch} {e : Env} {s : State} {m : MethodId} {below : List Frame} {meth : Method} {c : Code} {A : Nat → Prop} {g : Gx} {b L : Nat} {xs : Nat → Int32} {h0 mo lo n1 n2 : Nat} {fo : Nat → Int64} {u4 : Int32} {xtpd : Int32} {tpf : Nat → Int32} {yhnf : Nat → Int32} {yhtn : Int32} {yhtf : Nat → Int32} {yhjn : Int32} {yhjf : Nat → Int32} {yhmn : Int32} {yhmf : Nat → Int32} {yhbn : Int32} {yhbf : Nat → Int32} {yhsn : Int32} {yhsf : Nat → Int32} {yhcn : Int32} {yhcf : Nat → Int32} {zrn : Int32} {zmn : Int32} {zwn : Int32} {zpn : Int32} {zmd : Int32} {ztr : Int32} {zrf : Nat → Int32} {zmf : Nat → Int32} {zwf : Nat → Int32} {zpf : Nat → Int32} {kac : Int32} {knx : Int32} {kim : Int32} {cf : Nat → SC} {m_taped : Int32} {d_tape : Nat → Int32} {d_r : Nat → Int32} {d_st : Nat → Int32} {d_undone : Nat → Int32} {d_kept : Nat → Int32} {m_undos : Int32} {m_images : Int32} {m_hasHouse : Int32} {xw mw : va_W} (X : Cx p s m meth c #[Value.ref b] cL_law 7 RL A g) (hX : va_X b L xs s s.heap) (hbl : b < s.heap.size) (hbA : ¬ A b) (hi : 0 ≤ u4.toInt ∧ u4.toInt + 6 ≤ (L : Int)) (hL : L ≤ 3072) (h1 : n1 ≤ 601023) (h2 : n2 ≤ 7293028) (hlt : l.stackTraces = false) (hZ : kZ A s s.heap) (htsE : ∀ w ∈ wsE, w.before #[Value.ref b] s = true) (hx : XW g h0 xtpd tpf yhnf yhtn yhtf yhjn yhjf yhmn yhmf yhbn yhbf yhsn yhsf yhcn yhcf zrn zmn zwn zpn zmd ztr zrf zmf zwf zpf kac knx kim cf xw) (hm : MW g mo m_taped d_tape d_r d_st d_undone d_kept m_undos m_images m_hasHouse mw) (hR : LR xtpd tpf yhnf yhtn yhtf yhjn yhjf yhmn yhmf yhbn yhbf yhsn yhsf yhcn yhcf zrn zmn zwn zpn zmd ztr zrf zmf zwf zpf kac knx kim cf m_taped d_tape d_r d_st d_undone d_kept m_undos m_images m_hasHouse) (kk : ∀ (xtpd_2 : Int32) (tpf_2 : Nat → Int32) (yhnf_2 : Nat → Int32) (yhtn_2 : Int32) (yhtf_2 : Nat → Int32) (yhjn_2 : Int32) (yhjf_2 : Nat → Int32) (yhmn_2 : Int32) (yhmf_2 : Nat → Int32) (yhbn_2 : Int32) (yhbf_2 : Nat → Int32) (yhsn_2 : Int32) (yhsf_2 : Nat → Int32) (yhcn_2 : Int32) (yhcf_2 : Nat → Int32) (zrn_2 : Int32) (zmn_2 : Int32) (zwn_2 : Int32) (zpn_2 : Int32) (zmd_2 : Int32) (ztr_2 : Int32) (zrf_2 : Nat → Int32) (zmf_2 : Nat → Int32) (zwf_2 : Nat → Int32) (zpf_2 : Nat → Int32) (kac_2 : Int32) (knx_2 : Int32) (kim_2 : Int32) (cf_2 : Nat → SC) (m_taped_2 : Int32) (d_tape_2 : Nat → Int32) (d_r_2 : Nat → Int32) (d_st_2 : Nat → Int32) (d_undone_2 : Nat → Int32) (d_kept_2 : Nat → Int32) (m_undos_2 : Int32) (m_images_2 : Int32) (m_hasHouse_2 : Int32) (xw2 mw2 : va_W), XW g h0 xtpd_2 tpf_2 yhnf_2 yhtn_2 yhtf_2 yhjn_2 yhjf_2 yhmn_2 yhmf_2 yhbn_2 yhbf_2 yhsn_2 yhsf_2 yhcn_2 yhcf_2 zrn_2 zmn_2 zwn_2 zpn_2 zmd_2 ztr_2 zrf_2 zmf_2 zwf_2 zpf_2 kac_2 knx_2 kim_2 cf_2 xw2 → MW g mo m_taped_2 d_tape_2 d_r_2 d_st_2 d_undone_2 d_kept_2 m_undos_2 m_images_2 m_hasHouse_2 mw2 → LR xtpd_2 tpf_2 yhnf_2 yhtn_2 yhtf_2 yhjn_2 yhjf_2 yhmn_2 yhmf_2 yhbn_2 yhbf_2 yhsn_2 yhsf_2 yhcn_2 yhcf_2 zrn_2 zmn_2 zwn_2 zpn_2 zmd_2 ztr_2 zrf_2 zmf_2 zwf_2 zpf_2 kac_2 knx_2 kim_2 cf_2 m_taped_2 d_tape_2 d_r_2 d_st_2 d_undone_2 d_kept_2 m_undos_2 m_images_2 m_hasHouse_2 → Wk p l e room_1 s m #[Value.ref b] below meth c (lw_Z below #[Value.ref b] s) A g 7 n1 n2 (xw2 ++ (mw2 ++ [(cAJ g lo 1 fo)])) [(4, .int u4), (3, .ref lo), (2, .ref mo), (1, .ref h0), (0, .ref b)] 2062 []) : Wk p l e room_1 s m #[Value.ref b] below meth c (lw_Z below #[Value.ref b] s) A g 7 n1 n2 (xw ++ (mw ++ [(cAJ g lo 1 fo)])) [(4, .int u4), (3, .ref lo), (2, .ref mo), (1, .ref h0), (0, .ref b)] 524 [] := by
  have hiv : IV u4 0 3066 := ⟨hi.1, by omega⟩
  refine k_aload_n X dL_law_k16.1.1.1.1 3 rfl ?_
  refine k_aload_n X dL_law_k16.1.1.1.2 4 rfl ?_
  refine k_iload X dL_law_k16.1.1.2.1 0 rfl ?_
  refine k_iconst (v := 1) X dL_law_k16.1.1.2.2 ic_1 ?_
  refine k_iadd X dL_law_k16.1.2.1.1 ?_
  refine k_nm (fun z_1 ez_1 => ?_)
  have i_2 : z_1.toInt = u4.toInt + 1 := in_add ez_1 hiv iq_1_1_1 (zle_e rfl) (zle_e rfl)
  have iv_3 : IV z_1 1 3067 := by have := hiv; have := iq_1_1_1; rw [IV, i_2]; omega
  refine k_sld X hX hbl hbA dL_law_k16.1.2.1.2 (by rw [vp_in_iff]; have := iv_3; omega) ?_
  refine k_nm (fun a_4 ea_4 => ?_)
  refine k_aload_n X dL_law_k16.1.2.2.1 4 rfl ?_
  refine k_iload X dL_law_k16.1.2.2.2 0 rfl ?_
  refine k_iconst (v := 2) X dL_law_k16.2.1.1.1 ic_2 ?_
  refine k_iadd X dL_law_k16.2.1.1.2 ?_
  refine k_nm (fun z_5 ez_5 => ?_)
  have i_6 : z_5.toInt = u4.toInt + 2 := in_add ez_5 hiv iq_2_2_2 (zle_e rfl) (zle_e rfl)
  have iv_7 : IV z_5 2 3068 := by have := hiv; have := iq_2_2_2; rw [IV, i_6]; omega
  refine k_sld X hX hbl hbA dL_law_k16.2.1.2.1 (by rw [vp_in_iff]; have := iv_7; omega) ?_
  refine k_nm (fun a_8 ea_8 => ?_)
  refine lx_believes (st := []) a_4 a_8 X hx dL_law_k16.2.1.2.2 mw735 (Nat.le_of_ble_eq_true rfl) (Nat.le_of_ble_eq_true rfl) (Nat.le_of_ble_eq_true rfl) (Nat.le_trans h1 (Nat.le_of_ble_eq_true rfl)) (Nat.le_trans h2 (Nat.le_of_ble_eq_true rfl)) (fun r_9 xw_10 hx_11 => ?_)
  refine k_pop X dL_law_k16.2.2.1.1 rfl ?_
  refine k_aload_n X dL_law_k16.2.2.1.2 2 rfl ?_
  refine k_aload_n X dL_law_k16.2.2.2.1 4 rfl ?_
  refine k_iload X dL_law_k16.2.2.2.2 0 rfl ?_
  refine k_iconst (v := 1) X dL_law_k17.1.1.1 ic_1 ?_
  refine k_iadd X dL_law_k17.1.1.2 ?_
  refine k_to z_1 ez_1.symm ?_
  refine k_sld X hX hbl hbA dL_law_k17.1.2.1 (by rw [vp_in_iff]; have := iv_3; omega) ?_
  refine k_to a_4 ea_4.symm ?_
  refine k_aload_n X dL_law_k17.1.2.2.1 4 rfl ?_
  refine k_iload X dL_law_k17.1.2.2.2 0 rfl ?_
  refine k_iconst (v := 2) X dL_law_k17.2.1.1 ic_2 ?_
  refine k_iadd X dL_law_k17.2.1.2.1 ?_
  refine k_to z_5 ez_5.symm ?_
  refine k_sld X hX hbl hbA dL_law_k17.2.1.2.2 (by rw [vp_in_iff]; have := iv_7; omega) ?_
  refine k_to a_8 ea_8.symm ?_
  refine lm_believes (st := []) a_4 a_8 X hm dL_law_k17.2.2.1 mw803 (Nat.le_of_ble_eq_true rfl) (Nat.le_of_ble_eq_true rfl) (Nat.le_of_ble_eq_true rfl) (Nat.le_trans h1 (Nat.le_of_ble_eq_true rfl)) (Nat.le_trans h2 (Nat.le_of_ble_eq_true rfl)) (fun r_12 mw_13 hm_14 => ?_)
  refine k_pop X dL_law_k17.2.2.2.1 rfl ?_
  refine k_goto 2062 X dL_law_k17.2.2.2.2 (jp_e rfl) ?_
  exact kk _ _ _ _ _ _ _ _ _ _ _ _ _ _ _ _ _ _ _ _ _ _ _ _ _ _ _ _ _ _ _ _ _ _ _ _ _ _ _ _ hx_11 hm_14 hR

theorem dL_law_k18 : ((((dD cL_law 561 (.aload_n 1) 1 ∧ dD cL_law 562 (.aload_n 0) 1) ∧ (dD cL_law 563 (.iload 4) 2 ∧ dD cL_law 565 (.iconst 1) 1)) ∧ ((dD cL_law 566 .iadd 1 ∧ dD cL_law 567 .iaload 1) ∧ (dD cL_law 568 (.aload_n 0) 1 ∧ dD cL_law 569 (.iload 4) 2))) ∧ (((dD cL_law 571 (.iconst 2) 1 ∧ dD cL_law 572 .iadd 1) ∧ (dD cL_law 573 .iaload 1 ∧ dD cL_law 574 (.invokevirtual 58) 3)) ∧ ((dD cL_law 577 .pop 1 ∧ dD cL_law 578 (.aload_n 2) 1) ∧ (dD cL_law 579 (.aload_n 0) 1 ∧ dD cL_law 580 (.iload 4) 2)))) := dkA16 (by decide +kernel)
theorem dL_law_k19 : (((dD cL_law 582 (.iconst 1) 1 ∧ dD cL_law 583 .iadd 1) ∧ (dD cL_law 584 .iaload 1 ∧ (dD cL_law 585 (.aload_n 0) 1 ∧ dD cL_law 586 (.iload 4) 2))) ∧ ((dD cL_law 588 (.iconst 2) 1 ∧ (dD cL_law 589 .iadd 1 ∧ dD cL_law 590 .iaload 1)) ∧ (dD cL_law 591 (.invokevirtual 61) 3 ∧ (dD cL_law 594 .pop 1 ∧ dD cL_law 595 (.goto 1467) 3)))) := dkA11 (by decide +kernel)
set_option maxHeartbeats 4000000 in
set_option maxRecDepth 100000 in
theorem law_c9 {p : Program} {l : Launch} {e : Env} {s : State} {m : MethodId} {below : List Frame} {meth : Method} {c : Code} {A : Nat → Prop} {g : Gx} {b L : Nat} {xs : Nat → Int32} {h0 mo lo n1 n2 : Nat} {fo : Nat → Int64} {u4 : Int32} {xtpd : Int32} {tpf : Nat → Int32} {yhnf : Nat → Int32} {yhtn : Int32} {yhtf : Nat → Int32} {yhjn : Int32} {yhjf : Nat → Int32} {yhmn : Int32} {yhmf : Nat → Int32} {yhbn : Int32} {yhbf : Nat → Int32} {yhsn : Int32} {yhsf : Nat → Int32} {yhcn : Int32} {yhcf : Nat → Int32} {zrn : Int32} {zmn : Int32} {zwn : Int32} {zpn : Int32} {zmd : Int32} {ztr : Int32} {zrf : Nat → Int32} {zmf : Nat → Int32} {zwf : Nat → Int32} {zpf : Nat → Int32} {kac : Int32} {knx : Int32} {kim : Int32} {cf : Nat → SC} {m_taped : Int32} {d_tape : Nat → Int32} {d_r : Nat → Int32} {d_st : Nat → Int32} {d_undone : Nat → Int32} {d_kept : Nat → Int32} {m_undos : Int32} {m_images : Int32} {m_hasHouse : Int32} {xw mw : va_W} (X : Cx p s m meth c #[Value.ref b] cL_law 7 RL A g) (hX : va_X b L xs s s.heap) (hbl : b < s.heap.size) (hbA : ¬ A b) (hi : 0 ≤ u4.toInt ∧ u4.toInt + 6 ≤ (L : Int)) (hL : L ≤ 3072) (h1 : n1 ≤ 601023) (h2 : n2 ≤ 7293028) (hlt : l.stackTraces = false) (hZ : kZ A s s.heap) (htsE : ∀ w ∈ wsE, w.before #[Value.ref b] s = true) (hx : XW g h0 xtpd tpf yhnf yhtn yhtf yhjn yhjf yhmn yhmf yhbn yhbf yhsn yhsf yhcn yhcf zrn zmn zwn zpn zmd ztr zrf zmf zwf zpf kac knx kim cf xw) (hm : MW g mo m_taped d_tape d_r d_st d_undone d_kept m_undos m_images m_hasHouse mw) (hR : LR xtpd tpf yhnf yhtn yhtf yhjn yhjf yhmn yhmf yhbn yhbf yhsn yhsf yhcn yhcf zrn zmn zwn zpn zmd ztr zrf zmf zwf zpf kac knx kim cf m_taped d_tape d_r d_st d_undone d_kept m_undos m_images m_hasHouse) (kk : ∀ (xtpd_2 : Int32) (tpf_2 : Nat → Int32) (yhnf_2 : Nat → Int32) (yhtn_2 : Int32) (yhtf_2 : Nat → Int32) (yhjn_2 : Int32) (yhjf_2 : Nat → Int32) (yhmn_2 : Int32) (yhmf_2 : Nat → Int32) (yhbn_2 : Int32) (yhbf_2 : Nat → Int32) (yhsn_2 : Int32) (yhsf_2 : Nat → Int32) (yhcn_2 : Int32) (yhcf_2 : Nat → Int32) (zrn_2 : Int32) (zmn_2 : Int32) (zwn_2 : Int32) (zpn_2 : Int32) (zmd_2 : Int32) (ztr_2 : Int32) (zrf_2 : Nat → Int32) (zmf_2 : Nat → Int32) (zwf_2 : Nat → Int32) (zpf_2 : Nat → Int32) (kac_2 : Int32) (knx_2 : Int32) (kim_2 : Int32) (cf_2 : Nat → SC) (m_taped_2 : Int32) (d_tape_2 : Nat → Int32) (d_r_2 : Nat → Int32) (d_st_2 : Nat → Int32) (d_undone_2 : Nat → Int32) (d_kept_2 : Nat → Int32) (m_undos_2 : Int32) (m_images_2 : Int32) (m_hasHouse_2 : Int32) (xw2 mw2 : va_W), XW g h0 xtpd_2 tpf_2 yhnf_2 yhtn_2 yhtf_2 yhjn_2 yhjf_2 yhmn_2 yhmf_2 yhbn_2 yhbf_2 yhsn_2 yhsf_2 yhcn_2 yhcf_2 zrn_2 zmn_2 zwn_2 zpn_2 zmd_2 ztr_2 zrf_2 zmf_2 zwf_2 zpf_2 kac_2 knx_2 kim_2 cf_2 xw2 → MW g mo m_taped_2 d_tape_2 d_r_2 d_st_2 d_undone_2 d_kept_2 m_undos_2 m_images_2 m_hasHouse_2 mw2 → LR xtpd_2 tpf_2 yhnf_2 yhtn_2 yhtf_2 yhjn_2 yhjf_2 yhmn_2 yhmf_2 yhbn_2 yhbf_2 yhsn_2 yhsf_2 yhcn_2 yhcf_2 zrn_2 zmn_2 zwn_2 zpn_2 zmd_2 ztr_2 zrf_2 zmf_2 zwf_2 zpf_2 kac_2 knx_2 kim_2 cf_2 m_taped_2 d_tape_2 d_r_2 d_st_2 d_undone_2 d_kept_2 m_undos_2 m_images_2 m_hasHouse_2 → Wk p l e room_1 s m #[Value.ref b] below meth c (lw_Z below #[Value.ref b] s) A g 7 n1 n2 (xw2 ++ (mw2 ++ [(cAJ g lo 1 fo)])) [(4, .int u4), (3, .ref lo), (2, .ref mo), (1, .ref h0), (0, .ref b)] 2062 []) : Wk p l e room_1 s m #[Value.ref b] below meth c (lw_Z below #[Value.ref b] s) A g 7 n1 n2 (xw ++ (mw ++ [(cAJ g lo 1 fo)])) [(4, .int u4), (3, .ref lo), (2, .ref mo), (1, .ref h0), (0, .ref b)] 561 [] := by
  have hiv : IV u4 0 3066 := ⟨hi.1, by omega⟩
  refine k_aload_n X dL_law_k18.1.1.1.1 3 rfl ?_
  refine k_aload_n X dL_law_k18.1.1.1.2 4 rfl ?_
  refine k_iload X dL_law_k18.1.1.2.1 0 rfl ?_
  refine k_iconst (v := 1) X dL_law_k18.1.1.2.2 ic_1 ?_
  refine k_iadd X dL_law_k18.1.2.1.1 ?_
  refine k_nm (fun z_1 ez_1 => ?_)
  have i_2 : z_1.toInt = u4.toInt + 1 := in_add ez_1 hiv iq_1_1_1 (zle_e rfl) (zle_e rfl)
  have iv_3 : IV z_1 1 3067 := by have := hiv; have := iq_1_1_1; rw [IV, i_2]; omega
  refine k_sld X hX hbl hbA dL_law_k18.1.2.1.2 (by rw [vp_in_iff]; have := iv_3; omega) ?_
  refine k_nm (fun a_4 ea_4 => ?_)
  refine k_aload_n X dL_law_k18.1.2.2.1 4 rfl ?_
  refine k_iload X dL_law_k18.1.2.2.2 0 rfl ?_
  refine k_iconst (v := 2) X dL_law_k18.2.1.1.1 ic_2 ?_
  refine k_iadd X dL_law_k18.2.1.1.2 ?_
  refine k_nm (fun z_5 ez_5 => ?_)
  have i_6 : z_5.toInt = u4.toInt + 2 := in_add ez_5 hiv iq_2_2_2 (zle_e rfl) (zle_e rfl)
  have iv_7 : IV z_5 2 3068 := by have := hiv; have := iq_2_2_2; rw [IV, i_6]; omega
  refine k_sld X hX hbl hbA dL_law_k18.2.1.2.1 (by rw [vp_in_iff]; have := iv_7; omega) ?_
  refine k_nm (fun a_8 ea_8 => ?_)
  refine lx_starts (st := []) a_4 a_8 X hx dL_law_k18.2.1.2.2 mw845 (Nat.le_of_ble_eq_true rfl) (Nat.le_of_ble_eq_true rfl) (Nat.le_of_ble_eq_true rfl) (Nat.le_trans h1 (Nat.le_of_ble_eq_true rfl)) (Nat.le_trans h2 (Nat.le_of_ble_eq_true rfl)) (fun r_9 xw_10 hx_11 => ?_)
  refine k_pop X dL_law_k18.2.2.1.1 rfl ?_
  refine k_aload_n X dL_law_k18.2.2.1.2 2 rfl ?_
  refine k_aload_n X dL_law_k18.2.2.2.1 4 rfl ?_
  refine k_iload X dL_law_k18.2.2.2.2 0 rfl ?_
  refine k_iconst (v := 1) X dL_law_k19.1.1.1 ic_1 ?_
  refine k_iadd X dL_law_k19.1.1.2 ?_
  refine k_to z_1 ez_1.symm ?_
  refine k_sld X hX hbl hbA dL_law_k19.1.2.1 (by rw [vp_in_iff]; have := iv_3; omega) ?_
  refine k_to a_4 ea_4.symm ?_
  refine k_aload_n X dL_law_k19.1.2.2.1 4 rfl ?_
  refine k_iload X dL_law_k19.1.2.2.2 0 rfl ?_
  refine k_iconst (v := 2) X dL_law_k19.2.1.1 ic_2 ?_
  refine k_iadd X dL_law_k19.2.1.2.1 ?_
  refine k_to z_5 ez_5.symm ?_
  refine k_sld X hX hbl hbA dL_law_k19.2.1.2.2 (by rw [vp_in_iff]; have := iv_7; omega) ?_
  refine k_to a_8 ea_8.symm ?_
  refine lm_starts (st := []) a_4 a_8 X hm dL_law_k19.2.2.1 mw849 (Nat.le_of_ble_eq_true rfl) (Nat.le_of_ble_eq_true rfl) (Nat.le_of_ble_eq_true rfl) (Nat.le_trans h1 (Nat.le_of_ble_eq_true rfl)) (Nat.le_trans h2 (Nat.le_of_ble_eq_true rfl)) (fun r_12 mw_13 hm_14 => ?_)
  refine k_pop X dL_law_k19.2.2.2.1 rfl ?_
  refine k_goto 2062 X dL_law_k19.2.2.2.2 (jp_e rfl) ?_
  exact kk _ _ _ _ _ _ _ _ _ _ _ _ _ _ _ _ _ _ _ _ _ _ _ _ _ _ _ _ _ _ _ _ _ _ _ _ _ _ _ _ hx_11 hm_14 hR

theorem dL_law_k20 : ((((dD cL_law 598 (.aload_n 1) 1 ∧ dD cL_law 599 (.aload_n 0) 1) ∧ (dD cL_law 600 (.iload 4) 2 ∧ dD cL_law 602 (.iconst 1) 1)) ∧ ((dD cL_law 603 .iadd 1 ∧ dD cL_law 604 .iaload 1) ∧ (dD cL_law 605 (.aload_n 0) 1 ∧ dD cL_law 606 (.iload 4) 2))) ∧ (((dD cL_law 608 (.iconst 2) 1 ∧ dD cL_law 609 .iadd 1) ∧ (dD cL_law 610 .iaload 1 ∧ dD cL_law 611 (.invokevirtual 62) 3)) ∧ ((dD cL_law 614 .pop 1 ∧ dD cL_law 615 (.aload_n 2) 1) ∧ (dD cL_law 616 (.aload_n 0) 1 ∧ dD cL_law 617 (.iload 4) 2)))) := dkA16 (by decide +kernel)
theorem dL_law_k21 : (((dD cL_law 619 (.iconst 1) 1 ∧ dD cL_law 620 .iadd 1) ∧ (dD cL_law 621 .iaload 1 ∧ (dD cL_law 622 (.aload_n 0) 1 ∧ dD cL_law 623 (.iload 4) 2))) ∧ ((dD cL_law 625 (.iconst 2) 1 ∧ (dD cL_law 626 .iadd 1 ∧ dD cL_law 627 .iaload 1)) ∧ (dD cL_law 628 (.invokevirtual 65) 3 ∧ (dD cL_law 631 .pop 1 ∧ dD cL_law 632 (.goto 1430) 3)))) := dkA11 (by decide +kernel)
set_option maxHeartbeats 4000000 in
set_option maxRecDepth 100000 in
theorem law_c10 {p : Program} {l : Launch} {e : Env} {s : State} {m : MethodId} {below : List Frame} {meth : Method} {c : Code} {A : Nat → Prop} {g : Gx} {b L : Nat} {xs : Nat → Int32} {h0 mo lo n1 n2 : Nat} {fo : Nat → Int64} {u4 : Int32} {xtpd : Int32} {tpf : Nat → Int32} {yhnf : Nat → Int32} {yhtn : Int32} {yhtf : Nat → Int32} {yhjn : Int32} {yhjf : Nat → Int32} {yhmn : Int32} {yhmf : Nat → Int32} {yhbn : Int32} {yhbf : Nat → Int32} {yhsn : Int32} {yhsf : Nat → Int32} {yhcn : Int32} {yhcf : Nat → Int32} {zrn : Int32} {zmn : Int32} {zwn : Int32} {zpn : Int32} {zmd : Int32} {ztr : Int32} {zrf : Nat → Int32} {zmf : Nat → Int32} {zwf : Nat → Int32} {zpf : Nat → Int32} {kac : Int32} {knx : Int32} {kim : Int32} {cf : Nat → SC} {m_taped : Int32} {d_tape : Nat → Int32} {d_r : Nat → Int32} {d_st : Nat → Int32} {d_undone : Nat → Int32} {d_kept : Nat → Int32} {m_undos : Int32} {m_images : Int32} {m_hasHouse : Int32} {xw mw : va_W} (X : Cx p s m meth c #[Value.ref b] cL_law 7 RL A g) (hX : va_X b L xs s s.heap) (hbl : b < s.heap.size) (hbA : ¬ A b) (hi : 0 ≤ u4.toInt ∧ u4.toInt + 6 ≤ (L : Int)) (hL : L ≤ 3072) (h1 : n1 ≤ 601023) (h2 : n2 ≤ 7293028) (hlt : l.stackTraces = false) (hZ : kZ A s s.heap) (htsE : ∀ w ∈ wsE, w.before #[Value.ref b] s = true) (hx : XW g h0 xtpd tpf yhnf yhtn yhtf yhjn yhjf yhmn yhmf yhbn yhbf yhsn yhsf yhcn yhcf zrn zmn zwn zpn zmd ztr zrf zmf zwf zpf kac knx kim cf xw) (hm : MW g mo m_taped d_tape d_r d_st d_undone d_kept m_undos m_images m_hasHouse mw) (hR : LR xtpd tpf yhnf yhtn yhtf yhjn yhjf yhmn yhmf yhbn yhbf yhsn yhsf yhcn yhcf zrn zmn zwn zpn zmd ztr zrf zmf zwf zpf kac knx kim cf m_taped d_tape d_r d_st d_undone d_kept m_undos m_images m_hasHouse) (kk : ∀ (xtpd_2 : Int32) (tpf_2 : Nat → Int32) (yhnf_2 : Nat → Int32) (yhtn_2 : Int32) (yhtf_2 : Nat → Int32) (yhjn_2 : Int32) (yhjf_2 : Nat → Int32) (yhmn_2 : Int32) (yhmf_2 : Nat → Int32) (yhbn_2 : Int32) (yhbf_2 : Nat → Int32) (yhsn_2 : Int32) (yhsf_2 : Nat → Int32) (yhcn_2 : Int32) (yhcf_2 : Nat → Int32) (zrn_2 : Int32) (zmn_2 : Int32) (zwn_2 : Int32) (zpn_2 : Int32) (zmd_2 : Int32) (ztr_2 : Int32) (zrf_2 : Nat → Int32) (zmf_2 : Nat → Int32) (zwf_2 : Nat → Int32) (zpf_2 : Nat → Int32) (kac_2 : Int32) (knx_2 : Int32) (kim_2 : Int32) (cf_2 : Nat → SC) (m_taped_2 : Int32) (d_tape_2 : Nat → Int32) (d_r_2 : Nat → Int32) (d_st_2 : Nat → Int32) (d_undone_2 : Nat → Int32) (d_kept_2 : Nat → Int32) (m_undos_2 : Int32) (m_images_2 : Int32) (m_hasHouse_2 : Int32) (xw2 mw2 : va_W), XW g h0 xtpd_2 tpf_2 yhnf_2 yhtn_2 yhtf_2 yhjn_2 yhjf_2 yhmn_2 yhmf_2 yhbn_2 yhbf_2 yhsn_2 yhsf_2 yhcn_2 yhcf_2 zrn_2 zmn_2 zwn_2 zpn_2 zmd_2 ztr_2 zrf_2 zmf_2 zwf_2 zpf_2 kac_2 knx_2 kim_2 cf_2 xw2 → MW g mo m_taped_2 d_tape_2 d_r_2 d_st_2 d_undone_2 d_kept_2 m_undos_2 m_images_2 m_hasHouse_2 mw2 → LR xtpd_2 tpf_2 yhnf_2 yhtn_2 yhtf_2 yhjn_2 yhjf_2 yhmn_2 yhmf_2 yhbn_2 yhbf_2 yhsn_2 yhsf_2 yhcn_2 yhcf_2 zrn_2 zmn_2 zwn_2 zpn_2 zmd_2 ztr_2 zrf_2 zmf_2 zwf_2 zpf_2 kac_2 knx_2 kim_2 cf_2 m_taped_2 d_tape_2 d_r_2 d_st_2 d_undone_2 d_kept_2 m_undos_2 m_images_2 m_hasHouse_2 → Wk p l e room_1 s m #[Value.ref b] below meth c (lw_Z below #[Value.ref b] s) A g 7 n1 n2 (xw2 ++ (mw2 ++ [(cAJ g lo 1 fo)])) [(4, .int u4), (3, .ref lo), (2, .ref mo), (1, .ref h0), (0, .ref b)] 2062 []) : Wk p l e room_1 s m #[Value.ref b] below meth c (lw_Z below #[Value.ref b] s) A g 7 n1 n2 (xw ++ (mw ++ [(cAJ g lo 1 fo)])) [(4, .int u4), (3, .ref lo), (2, .ref mo), (1, .ref h0), (0, .ref b)] 598 [] := by
  have hiv : IV u4 0 3066 := ⟨hi.1, by omega⟩
  refine k_aload_n X dL_law_k20.1.1.1.1 3 rfl ?_
  refine k_aload_n X dL_law_k20.1.1.1.2 4 rfl ?_
  refine k_iload X dL_law_k20.1.1.2.1 0 rfl ?_
  refine k_iconst (v := 1) X dL_law_k20.1.1.2.2 ic_1 ?_
  refine k_iadd X dL_law_k20.1.2.1.1 ?_
  refine k_nm (fun z_1 ez_1 => ?_)
  have i_2 : z_1.toInt = u4.toInt + 1 := in_add ez_1 hiv iq_1_1_1 (zle_e rfl) (zle_e rfl)
  have iv_3 : IV z_1 1 3067 := by have := hiv; have := iq_1_1_1; rw [IV, i_2]; omega
  refine k_sld X hX hbl hbA dL_law_k20.1.2.1.2 (by rw [vp_in_iff]; have := iv_3; omega) ?_
  refine k_nm (fun a_4 ea_4 => ?_)
  refine k_aload_n X dL_law_k20.1.2.2.1 4 rfl ?_
  refine k_iload X dL_law_k20.1.2.2.2 0 rfl ?_
  refine k_iconst (v := 2) X dL_law_k20.2.1.1.1 ic_2 ?_
  refine k_iadd X dL_law_k20.2.1.1.2 ?_
  refine k_nm (fun z_5 ez_5 => ?_)
  have i_6 : z_5.toInt = u4.toInt + 2 := in_add ez_5 hiv iq_2_2_2 (zle_e rfl) (zle_e rfl)
  have iv_7 : IV z_5 2 3068 := by have := hiv; have := iq_2_2_2; rw [IV, i_6]; omega
  refine k_sld X hX hbl hbA dL_law_k20.2.1.2.1 (by rw [vp_in_iff]; have := iv_7; omega) ?_
  refine k_nm (fun a_8 ea_8 => ?_)
  refine lx_changes (st := []) a_4 a_8 X hx dL_law_k20.2.1.2.2 mw853 (Nat.le_of_ble_eq_true rfl) (Nat.le_of_ble_eq_true rfl) (Nat.le_of_ble_eq_true rfl) (Nat.le_trans h1 (Nat.le_of_ble_eq_true rfl)) (Nat.le_trans h2 (Nat.le_of_ble_eq_true rfl)) (fun r_9 xw_10 hx_11 => ?_)
  refine k_pop X dL_law_k20.2.2.1.1 rfl ?_
  refine k_aload_n X dL_law_k20.2.2.1.2 2 rfl ?_
  refine k_aload_n X dL_law_k20.2.2.2.1 4 rfl ?_
  refine k_iload X dL_law_k20.2.2.2.2 0 rfl ?_
  refine k_iconst (v := 1) X dL_law_k21.1.1.1 ic_1 ?_
  refine k_iadd X dL_law_k21.1.1.2 ?_
  refine k_to z_1 ez_1.symm ?_
  refine k_sld X hX hbl hbA dL_law_k21.1.2.1 (by rw [vp_in_iff]; have := iv_3; omega) ?_
  refine k_to a_4 ea_4.symm ?_
  refine k_aload_n X dL_law_k21.1.2.2.1 4 rfl ?_
  refine k_iload X dL_law_k21.1.2.2.2 0 rfl ?_
  refine k_iconst (v := 2) X dL_law_k21.2.1.1 ic_2 ?_
  refine k_iadd X dL_law_k21.2.1.2.1 ?_
  refine k_to z_5 ez_5.symm ?_
  refine k_sld X hX hbl hbA dL_law_k21.2.1.2.2 (by rw [vp_in_iff]; have := iv_7; omega) ?_
  refine k_to a_8 ea_8.symm ?_
  refine lm_changes (st := []) a_4 a_8 X hm dL_law_k21.2.2.1 mw857 (Nat.le_of_ble_eq_true rfl) (Nat.le_of_ble_eq_true rfl) (Nat.le_of_ble_eq_true rfl) (Nat.le_trans h1 (Nat.le_of_ble_eq_true rfl)) (Nat.le_trans h2 (Nat.le_of_ble_eq_true rfl)) (fun r_12 mw_13 hm_14 => ?_)
  refine k_pop X dL_law_k21.2.2.2.1 rfl ?_
  refine k_goto 2062 X dL_law_k21.2.2.2.2 (jp_e rfl) ?_
  exact kk _ _ _ _ _ _ _ _ _ _ _ _ _ _ _ _ _ _ _ _ _ _ _ _ _ _ _ _ _ _ _ _ _ _ _ _ _ _ _ _ hx_11 hm_14 hR

theorem dL_law_k22 : ((((dD cL_law 635 (.aload_n 1) 1 ∧ dD cL_law 636 (.aload_n 0) 1) ∧ (dD cL_law 637 (.iload 4) 2 ∧ dD cL_law 639 (.iconst 1) 1)) ∧ ((dD cL_law 640 .iadd 1 ∧ dD cL_law 641 .iaload 1) ∧ (dD cL_law 642 (.aload_n 0) 1 ∧ dD cL_law 643 (.iload 4) 2))) ∧ (((dD cL_law 645 (.iconst 2) 1 ∧ dD cL_law 646 .iadd 1) ∧ (dD cL_law 647 .iaload 1 ∧ dD cL_law 648 (.invokevirtual 66) 3)) ∧ ((dD cL_law 651 .pop 1 ∧ dD cL_law 652 (.aload_n 2) 1) ∧ (dD cL_law 653 (.aload_n 0) 1 ∧ dD cL_law 654 (.iload 4) 2)))) := dkA16 (by decide +kernel)
theorem dL_law_k23 : (((dD cL_law 656 (.iconst 1) 1 ∧ dD cL_law 657 .iadd 1) ∧ (dD cL_law 658 .iaload 1 ∧ (dD cL_law 659 (.aload_n 0) 1 ∧ dD cL_law 660 (.iload 4) 2))) ∧ ((dD cL_law 662 (.iconst 2) 1 ∧ (dD cL_law 663 .iadd 1 ∧ dD cL_law 664 .iaload 1)) ∧ (dD cL_law 665 (.invokevirtual 69) 3 ∧ (dD cL_law 668 .pop 1 ∧ dD cL_law 669 (.goto 1393) 3)))) := dkA11 (by decide +kernel)
set_option maxHeartbeats 4000000 in
set_option maxRecDepth 100000 in
theorem law_c11 {p : Program} {l : Launch} {e : Env} {s : State} {m : MethodId} {below : List Frame} {meth : Method} {c : Code} {A : Nat → Prop} {g : Gx} {b L : Nat} {xs : Nat → Int32} {h0 mo lo n1 n2 : Nat} {fo : Nat → Int64} {u4 : Int32} {xtpd : Int32} {tpf : Nat → Int32} {yhnf : Nat → Int32} {yhtn : Int32} {yhtf : Nat → Int32} {yhjn : Int32} {yhjf : Nat → Int32} {yhmn : Int32} {yhmf : Nat → Int32} {yhbn : Int32} {yhbf : Nat → Int32} {yhsn : Int32} {yhsf : Nat → Int32} {yhcn : Int32} {yhcf : Nat → Int32} {zrn : Int32} {zmn : Int32} {zwn : Int32} {zpn : Int32} {zmd : Int32} {ztr : Int32} {zrf : Nat → Int32} {zmf : Nat → Int32} {zwf : Nat → Int32} {zpf : Nat → Int32} {kac : Int32} {knx : Int32} {kim : Int32} {cf : Nat → SC} {m_taped : Int32} {d_tape : Nat → Int32} {d_r : Nat → Int32} {d_st : Nat → Int32} {d_undone : Nat → Int32} {d_kept : Nat → Int32} {m_undos : Int32} {m_images : Int32} {m_hasHouse : Int32} {xw mw : va_W} (X : Cx p s m meth c #[Value.ref b] cL_law 7 RL A g) (hX : va_X b L xs s s.heap) (hbl : b < s.heap.size) (hbA : ¬ A b) (hi : 0 ≤ u4.toInt ∧ u4.toInt + 6 ≤ (L : Int)) (hL : L ≤ 3072) (h1 : n1 ≤ 601023) (h2 : n2 ≤ 7293028) (hlt : l.stackTraces = false) (hZ : kZ A s s.heap) (htsE : ∀ w ∈ wsE, w.before #[Value.ref b] s = true) (hx : XW g h0 xtpd tpf yhnf yhtn yhtf yhjn yhjf yhmn yhmf yhbn yhbf yhsn yhsf yhcn yhcf zrn zmn zwn zpn zmd ztr zrf zmf zwf zpf kac knx kim cf xw) (hm : MW g mo m_taped d_tape d_r d_st d_undone d_kept m_undos m_images m_hasHouse mw) (hR : LR xtpd tpf yhnf yhtn yhtf yhjn yhjf yhmn yhmf yhbn yhbf yhsn yhsf yhcn yhcf zrn zmn zwn zpn zmd ztr zrf zmf zwf zpf kac knx kim cf m_taped d_tape d_r d_st d_undone d_kept m_undos m_images m_hasHouse) (kk : ∀ (xtpd_2 : Int32) (tpf_2 : Nat → Int32) (yhnf_2 : Nat → Int32) (yhtn_2 : Int32) (yhtf_2 : Nat → Int32) (yhjn_2 : Int32) (yhjf_2 : Nat → Int32) (yhmn_2 : Int32) (yhmf_2 : Nat → Int32) (yhbn_2 : Int32) (yhbf_2 : Nat → Int32) (yhsn_2 : Int32) (yhsf_2 : Nat → Int32) (yhcn_2 : Int32) (yhcf_2 : Nat → Int32) (zrn_2 : Int32) (zmn_2 : Int32) (zwn_2 : Int32) (zpn_2 : Int32) (zmd_2 : Int32) (ztr_2 : Int32) (zrf_2 : Nat → Int32) (zmf_2 : Nat → Int32) (zwf_2 : Nat → Int32) (zpf_2 : Nat → Int32) (kac_2 : Int32) (knx_2 : Int32) (kim_2 : Int32) (cf_2 : Nat → SC) (m_taped_2 : Int32) (d_tape_2 : Nat → Int32) (d_r_2 : Nat → Int32) (d_st_2 : Nat → Int32) (d_undone_2 : Nat → Int32) (d_kept_2 : Nat → Int32) (m_undos_2 : Int32) (m_images_2 : Int32) (m_hasHouse_2 : Int32) (xw2 mw2 : va_W), XW g h0 xtpd_2 tpf_2 yhnf_2 yhtn_2 yhtf_2 yhjn_2 yhjf_2 yhmn_2 yhmf_2 yhbn_2 yhbf_2 yhsn_2 yhsf_2 yhcn_2 yhcf_2 zrn_2 zmn_2 zwn_2 zpn_2 zmd_2 ztr_2 zrf_2 zmf_2 zwf_2 zpf_2 kac_2 knx_2 kim_2 cf_2 xw2 → MW g mo m_taped_2 d_tape_2 d_r_2 d_st_2 d_undone_2 d_kept_2 m_undos_2 m_images_2 m_hasHouse_2 mw2 → LR xtpd_2 tpf_2 yhnf_2 yhtn_2 yhtf_2 yhjn_2 yhjf_2 yhmn_2 yhmf_2 yhbn_2 yhbf_2 yhsn_2 yhsf_2 yhcn_2 yhcf_2 zrn_2 zmn_2 zwn_2 zpn_2 zmd_2 ztr_2 zrf_2 zmf_2 zwf_2 zpf_2 kac_2 knx_2 kim_2 cf_2 m_taped_2 d_tape_2 d_r_2 d_st_2 d_undone_2 d_kept_2 m_undos_2 m_images_2 m_hasHouse_2 → Wk p l e room_1 s m #[Value.ref b] below meth c (lw_Z below #[Value.ref b] s) A g 7 n1 n2 (xw2 ++ (mw2 ++ [(cAJ g lo 1 fo)])) [(4, .int u4), (3, .ref lo), (2, .ref mo), (1, .ref h0), (0, .ref b)] 2062 []) : Wk p l e room_1 s m #[Value.ref b] below meth c (lw_Z below #[Value.ref b] s) A g 7 n1 n2 (xw ++ (mw ++ [(cAJ g lo 1 fo)])) [(4, .int u4), (3, .ref lo), (2, .ref mo), (1, .ref h0), (0, .ref b)] 635 [] := by
  have hiv : IV u4 0 3066 := ⟨hi.1, by omega⟩
  refine k_aload_n X dL_law_k22.1.1.1.1 3 rfl ?_
  refine k_aload_n X dL_law_k22.1.1.1.2 4 rfl ?_
  refine k_iload X dL_law_k22.1.1.2.1 0 rfl ?_
  refine k_iconst (v := 1) X dL_law_k22.1.1.2.2 ic_1 ?_
  refine k_iadd X dL_law_k22.1.2.1.1 ?_
  refine k_nm (fun z_1 ez_1 => ?_)
  have i_2 : z_1.toInt = u4.toInt + 1 := in_add ez_1 hiv iq_1_1_1 (zle_e rfl) (zle_e rfl)
  have iv_3 : IV z_1 1 3067 := by have := hiv; have := iq_1_1_1; rw [IV, i_2]; omega
  refine k_sld X hX hbl hbA dL_law_k22.1.2.1.2 (by rw [vp_in_iff]; have := iv_3; omega) ?_
  refine k_nm (fun a_4 ea_4 => ?_)
  refine k_aload_n X dL_law_k22.1.2.2.1 4 rfl ?_
  refine k_iload X dL_law_k22.1.2.2.2 0 rfl ?_
  refine k_iconst (v := 2) X dL_law_k22.2.1.1.1 ic_2 ?_
  refine k_iadd X dL_law_k22.2.1.1.2 ?_
  refine k_nm (fun z_5 ez_5 => ?_)
  have i_6 : z_5.toInt = u4.toInt + 2 := in_add ez_5 hiv iq_2_2_2 (zle_e rfl) (zle_e rfl)
  have iv_7 : IV z_5 2 3068 := by have := hiv; have := iq_2_2_2; rw [IV, i_6]; omega
  refine k_sld X hX hbl hbA dL_law_k22.2.1.2.1 (by rw [vp_in_iff]; have := iv_7; omega) ?_
  refine k_nm (fun a_8 ea_8 => ?_)
  refine lx_lost (st := []) a_4 a_8 X hx dL_law_k22.2.1.2.2 mw861 (Nat.le_of_ble_eq_true rfl) (Nat.le_of_ble_eq_true rfl) (Nat.le_of_ble_eq_true rfl) (Nat.le_trans h1 (Nat.le_of_ble_eq_true rfl)) (Nat.le_trans h2 (Nat.le_of_ble_eq_true rfl)) (fun r_9 xw_10 hx_11 => ?_)
  refine k_pop X dL_law_k22.2.2.1.1 rfl ?_
  refine k_aload_n X dL_law_k22.2.2.1.2 2 rfl ?_
  refine k_aload_n X dL_law_k22.2.2.2.1 4 rfl ?_
  refine k_iload X dL_law_k22.2.2.2.2 0 rfl ?_
  refine k_iconst (v := 1) X dL_law_k23.1.1.1 ic_1 ?_
  refine k_iadd X dL_law_k23.1.1.2 ?_
  refine k_to z_1 ez_1.symm ?_
  refine k_sld X hX hbl hbA dL_law_k23.1.2.1 (by rw [vp_in_iff]; have := iv_3; omega) ?_
  refine k_to a_4 ea_4.symm ?_
  refine k_aload_n X dL_law_k23.1.2.2.1 4 rfl ?_
  refine k_iload X dL_law_k23.1.2.2.2 0 rfl ?_
  refine k_iconst (v := 2) X dL_law_k23.2.1.1 ic_2 ?_
  refine k_iadd X dL_law_k23.2.1.2.1 ?_
  refine k_to z_5 ez_5.symm ?_
  refine k_sld X hX hbl hbA dL_law_k23.2.1.2.2 (by rw [vp_in_iff]; have := iv_7; omega) ?_
  refine k_to a_8 ea_8.symm ?_
  refine lm_lost (st := []) a_4 a_8 X hm dL_law_k23.2.2.1 mw865 (Nat.le_of_ble_eq_true rfl) (Nat.le_of_ble_eq_true rfl) (Nat.le_of_ble_eq_true rfl) (Nat.le_trans h1 (Nat.le_of_ble_eq_true rfl)) (Nat.le_trans h2 (Nat.le_of_ble_eq_true rfl)) (fun r_12 mw_13 hm_14 => ?_)
  refine k_pop X dL_law_k23.2.2.2.1 rfl ?_
  refine k_goto 2062 X dL_law_k23.2.2.2.2 (jp_e rfl) ?_
  exact kk _ _ _ _ _ _ _ _ _ _ _ _ _ _ _ _ _ _ _ _ _ _ _ _ _ _ _ _ _ _ _ _ _ _ _ _ _ _ _ _ hx_11 hm_14 hR

theorem dL_law_k24 : ((((dD cL_law 672 (.aload_n 1) 1 ∧ dD cL_law 673 (.aload_n 0) 1) ∧ (dD cL_law 674 (.iload 4) 2 ∧ dD cL_law 676 (.iconst 1) 1)) ∧ ((dD cL_law 677 .iadd 1 ∧ dD cL_law 678 .iaload 1) ∧ (dD cL_law 679 (.aload_n 0) 1 ∧ dD cL_law 680 (.iload 4) 2))) ∧ (((dD cL_law 682 (.iconst 2) 1 ∧ dD cL_law 683 .iadd 1) ∧ (dD cL_law 684 .iaload 1 ∧ dD cL_law 685 (.invokevirtual 70) 3)) ∧ ((dD cL_law 688 .pop 1 ∧ dD cL_law 689 (.aload_n 2) 1) ∧ (dD cL_law 690 (.aload_n 0) 1 ∧ dD cL_law 691 (.iload 4) 2)))) := dkA16 (by decide +kernel)
theorem dL_law_k25 : (((dD cL_law 693 (.iconst 1) 1 ∧ dD cL_law 694 .iadd 1) ∧ (dD cL_law 695 .iaload 1 ∧ (dD cL_law 696 (.aload_n 0) 1 ∧ dD cL_law 697 (.iload 4) 2))) ∧ ((dD cL_law 699 (.iconst 2) 1 ∧ (dD cL_law 700 .iadd 1 ∧ dD cL_law 701 .iaload 1)) ∧ (dD cL_law 702 (.invokevirtual 73) 3 ∧ (dD cL_law 705 .pop 1 ∧ dD cL_law 706 (.goto 1356) 3)))) := dkA11 (by decide +kernel)
set_option maxHeartbeats 4000000 in
set_option maxRecDepth 100000 in
theorem law_c12 {p : Program} {l : Launch} {e : Env} {s : State} {m : MethodId} {below : List Frame} {meth : Method} {c : Code} {A : Nat → Prop} {g : Gx} {b L : Nat} {xs : Nat → Int32} {h0 mo lo n1 n2 : Nat} {fo : Nat → Int64} {u4 : Int32} {xtpd : Int32} {tpf : Nat → Int32} {yhnf : Nat → Int32} {yhtn : Int32} {yhtf : Nat → Int32} {yhjn : Int32} {yhjf : Nat → Int32} {yhmn : Int32} {yhmf : Nat → Int32} {yhbn : Int32} {yhbf : Nat → Int32} {yhsn : Int32} {yhsf : Nat → Int32} {yhcn : Int32} {yhcf : Nat → Int32} {zrn : Int32} {zmn : Int32} {zwn : Int32} {zpn : Int32} {zmd : Int32} {ztr : Int32} {zrf : Nat → Int32} {zmf : Nat → Int32} {zwf : Nat → Int32} {zpf : Nat → Int32} {kac : Int32} {knx : Int32} {kim : Int32} {cf : Nat → SC} {m_taped : Int32} {d_tape : Nat → Int32} {d_r : Nat → Int32} {d_st : Nat → Int32} {d_undone : Nat → Int32} {d_kept : Nat → Int32} {m_undos : Int32} {m_images : Int32} {m_hasHouse : Int32} {xw mw : va_W} (X : Cx p s m meth c #[Value.ref b] cL_law 7 RL A g) (hX : va_X b L xs s s.heap) (hbl : b < s.heap.size) (hbA : ¬ A b) (hi : 0 ≤ u4.toInt ∧ u4.toInt + 6 ≤ (L : Int)) (hL : L ≤ 3072) (h1 : n1 ≤ 601023) (h2 : n2 ≤ 7293028) (hlt : l.stackTraces = false) (hZ : kZ A s s.heap) (htsE : ∀ w ∈ wsE, w.before #[Value.ref b] s = true) (hx : XW g h0 xtpd tpf yhnf yhtn yhtf yhjn yhjf yhmn yhmf yhbn yhbf yhsn yhsf yhcn yhcf zrn zmn zwn zpn zmd ztr zrf zmf zwf zpf kac knx kim cf xw) (hm : MW g mo m_taped d_tape d_r d_st d_undone d_kept m_undos m_images m_hasHouse mw) (hR : LR xtpd tpf yhnf yhtn yhtf yhjn yhjf yhmn yhmf yhbn yhbf yhsn yhsf yhcn yhcf zrn zmn zwn zpn zmd ztr zrf zmf zwf zpf kac knx kim cf m_taped d_tape d_r d_st d_undone d_kept m_undos m_images m_hasHouse) (kk : ∀ (xtpd_2 : Int32) (tpf_2 : Nat → Int32) (yhnf_2 : Nat → Int32) (yhtn_2 : Int32) (yhtf_2 : Nat → Int32) (yhjn_2 : Int32) (yhjf_2 : Nat → Int32) (yhmn_2 : Int32) (yhmf_2 : Nat → Int32) (yhbn_2 : Int32) (yhbf_2 : Nat → Int32) (yhsn_2 : Int32) (yhsf_2 : Nat → Int32) (yhcn_2 : Int32) (yhcf_2 : Nat → Int32) (zrn_2 : Int32) (zmn_2 : Int32) (zwn_2 : Int32) (zpn_2 : Int32) (zmd_2 : Int32) (ztr_2 : Int32) (zrf_2 : Nat → Int32) (zmf_2 : Nat → Int32) (zwf_2 : Nat → Int32) (zpf_2 : Nat → Int32) (kac_2 : Int32) (knx_2 : Int32) (kim_2 : Int32) (cf_2 : Nat → SC) (m_taped_2 : Int32) (d_tape_2 : Nat → Int32) (d_r_2 : Nat → Int32) (d_st_2 : Nat → Int32) (d_undone_2 : Nat → Int32) (d_kept_2 : Nat → Int32) (m_undos_2 : Int32) (m_images_2 : Int32) (m_hasHouse_2 : Int32) (xw2 mw2 : va_W), XW g h0 xtpd_2 tpf_2 yhnf_2 yhtn_2 yhtf_2 yhjn_2 yhjf_2 yhmn_2 yhmf_2 yhbn_2 yhbf_2 yhsn_2 yhsf_2 yhcn_2 yhcf_2 zrn_2 zmn_2 zwn_2 zpn_2 zmd_2 ztr_2 zrf_2 zmf_2 zwf_2 zpf_2 kac_2 knx_2 kim_2 cf_2 xw2 → MW g mo m_taped_2 d_tape_2 d_r_2 d_st_2 d_undone_2 d_kept_2 m_undos_2 m_images_2 m_hasHouse_2 mw2 → LR xtpd_2 tpf_2 yhnf_2 yhtn_2 yhtf_2 yhjn_2 yhjf_2 yhmn_2 yhmf_2 yhbn_2 yhbf_2 yhsn_2 yhsf_2 yhcn_2 yhcf_2 zrn_2 zmn_2 zwn_2 zpn_2 zmd_2 ztr_2 zrf_2 zmf_2 zwf_2 zpf_2 kac_2 knx_2 kim_2 cf_2 m_taped_2 d_tape_2 d_r_2 d_st_2 d_undone_2 d_kept_2 m_undos_2 m_images_2 m_hasHouse_2 → Wk p l e room_1 s m #[Value.ref b] below meth c (lw_Z below #[Value.ref b] s) A g 7 n1 n2 (xw2 ++ (mw2 ++ [(cAJ g lo 1 fo)])) [(4, .int u4), (3, .ref lo), (2, .ref mo), (1, .ref h0), (0, .ref b)] 2062 []) : Wk p l e room_1 s m #[Value.ref b] below meth c (lw_Z below #[Value.ref b] s) A g 7 n1 n2 (xw ++ (mw ++ [(cAJ g lo 1 fo)])) [(4, .int u4), (3, .ref lo), (2, .ref mo), (1, .ref h0), (0, .ref b)] 672 [] := by
  have hiv : IV u4 0 3066 := ⟨hi.1, by omega⟩
  refine k_aload_n X dL_law_k24.1.1.1.1 3 rfl ?_
  refine k_aload_n X dL_law_k24.1.1.1.2 4 rfl ?_
  refine k_iload X dL_law_k24.1.1.2.1 0 rfl ?_
  refine k_iconst (v := 1) X dL_law_k24.1.1.2.2 ic_1 ?_
  refine k_iadd X dL_law_k24.1.2.1.1 ?_
  refine k_nm (fun z_1 ez_1 => ?_)
  have i_2 : z_1.toInt = u4.toInt + 1 := in_add ez_1 hiv iq_1_1_1 (zle_e rfl) (zle_e rfl)
  have iv_3 : IV z_1 1 3067 := by have := hiv; have := iq_1_1_1; rw [IV, i_2]; omega
  refine k_sld X hX hbl hbA dL_law_k24.1.2.1.2 (by rw [vp_in_iff]; have := iv_3; omega) ?_
  refine k_nm (fun a_4 ea_4 => ?_)
  refine k_aload_n X dL_law_k24.1.2.2.1 4 rfl ?_
  refine k_iload X dL_law_k24.1.2.2.2 0 rfl ?_
  refine k_iconst (v := 2) X dL_law_k24.2.1.1.1 ic_2 ?_
  refine k_iadd X dL_law_k24.2.1.1.2 ?_
  refine k_nm (fun z_5 ez_5 => ?_)
  have i_6 : z_5.toInt = u4.toInt + 2 := in_add ez_5 hiv iq_2_2_2 (zle_e rfl) (zle_e rfl)
  have iv_7 : IV z_5 2 3068 := by have := hiv; have := iq_2_2_2; rw [IV, i_6]; omega
  refine k_sld X hX hbl hbA dL_law_k24.2.1.2.1 (by rw [vp_in_iff]; have := iv_7; omega) ?_
  refine k_nm (fun a_8 ea_8 => ?_)
  refine lx_black (st := []) a_4 a_8 X hx dL_law_k24.2.1.2.2 mw869 (Nat.le_of_ble_eq_true rfl) (Nat.le_of_ble_eq_true rfl) (Nat.le_of_ble_eq_true rfl) (Nat.le_trans h1 (Nat.le_of_ble_eq_true rfl)) (Nat.le_trans h2 (Nat.le_of_ble_eq_true rfl)) (fun r_9 xw_10 hx_11 => ?_)
  refine k_pop X dL_law_k24.2.2.1.1 rfl ?_
  refine k_aload_n X dL_law_k24.2.2.1.2 2 rfl ?_
  refine k_aload_n X dL_law_k24.2.2.2.1 4 rfl ?_
  refine k_iload X dL_law_k24.2.2.2.2 0 rfl ?_
  refine k_iconst (v := 1) X dL_law_k25.1.1.1 ic_1 ?_
  refine k_iadd X dL_law_k25.1.1.2 ?_
  refine k_to z_1 ez_1.symm ?_
  refine k_sld X hX hbl hbA dL_law_k25.1.2.1 (by rw [vp_in_iff]; have := iv_3; omega) ?_
  refine k_to a_4 ea_4.symm ?_
  refine k_aload_n X dL_law_k25.1.2.2.1 4 rfl ?_
  refine k_iload X dL_law_k25.1.2.2.2 0 rfl ?_
  refine k_iconst (v := 2) X dL_law_k25.2.1.1 ic_2 ?_
  refine k_iadd X dL_law_k25.2.1.2.1 ?_
  refine k_to z_5 ez_5.symm ?_
  refine k_sld X hX hbl hbA dL_law_k25.2.1.2.2 (by rw [vp_in_iff]; have := iv_7; omega) ?_
  refine k_to a_8 ea_8.symm ?_
  refine lm_black (st := []) a_4 a_8 X hm dL_law_k25.2.2.1 mw873 (Nat.le_of_ble_eq_true rfl) (Nat.le_of_ble_eq_true rfl) (Nat.le_of_ble_eq_true rfl) (Nat.le_trans h1 (Nat.le_of_ble_eq_true rfl)) (Nat.le_trans h2 (Nat.le_of_ble_eq_true rfl)) (fun r_12 mw_13 hm_14 => ?_)
  refine k_pop X dL_law_k25.2.2.2.1 rfl ?_
  refine k_goto 2062 X dL_law_k25.2.2.2.2 (jp_e rfl) ?_
  exact kk _ _ _ _ _ _ _ _ _ _ _ _ _ _ _ _ _ _ _ _ _ _ _ _ _ _ _ _ _ _ _ _ _ _ _ _ _ _ _ _ hx_11 hm_14 hR

theorem dL_law_k26 : ((((dD cL_law 709 (.aload_n 1) 1 ∧ dD cL_law 710 (.aload_n 0) 1) ∧ (dD cL_law 711 (.iload 4) 2 ∧ dD cL_law 713 (.iconst 1) 1)) ∧ ((dD cL_law 714 .iadd 1 ∧ dD cL_law 715 .iaload 1) ∧ (dD cL_law 716 (.aload_n 0) 1 ∧ dD cL_law 717 (.iload 4) 2))) ∧ (((dD cL_law 719 (.iconst 2) 1 ∧ dD cL_law 720 .iadd 1) ∧ (dD cL_law 721 .iaload 1 ∧ dD cL_law 722 (.invokevirtual 74) 3)) ∧ ((dD cL_law 725 .pop 1 ∧ dD cL_law 726 (.aload_n 2) 1) ∧ (dD cL_law 727 (.aload_n 0) 1 ∧ dD cL_law 728 (.iload 4) 2)))) := dkA16 (by decide +kernel)
theorem dL_law_k27 : (((dD cL_law 730 (.iconst 1) 1 ∧ dD cL_law 731 .iadd 1) ∧ (dD cL_law 732 .iaload 1 ∧ (dD cL_law 733 (.aload_n 0) 1 ∧ dD cL_law 734 (.iload 4) 2))) ∧ ((dD cL_law 736 (.iconst 2) 1 ∧ (dD cL_law 737 .iadd 1 ∧ dD cL_law 738 .iaload 1)) ∧ (dD cL_law 739 (.invokevirtual 77) 3 ∧ (dD cL_law 742 .pop 1 ∧ dD cL_law 743 (.goto 1319) 3)))) := dkA11 (by decide +kernel)
set_option maxHeartbeats 4000000 in
set_option maxRecDepth 100000 in
theorem law_c13 {p : Program} {l : Launch} {e : Env} {s : State} {m : MethodId} {below : List Frame} {meth : Method} {c : Code} {A : Nat → Prop} {g : Gx} {b L : Nat} {xs : Nat → Int32} {h0 mo lo n1 n2 : Nat} {fo : Nat → Int64} {u4 : Int32} {xtpd : Int32} {tpf : Nat → Int32} {yhnf : Nat → Int32} {yhtn : Int32} {yhtf : Nat → Int32} {yhjn : Int32} {yhjf : Nat → Int32} {yhmn : Int32} {yhmf : Nat → Int32} {yhbn : Int32} {yhbf : Nat → Int32} {yhsn : Int32} {yhsf : Nat → Int32} {yhcn : Int32} {yhcf : Nat → Int32} {zrn : Int32} {zmn : Int32} {zwn : Int32} {zpn : Int32} {zmd : Int32} {ztr : Int32} {zrf : Nat → Int32} {zmf : Nat → Int32} {zwf : Nat → Int32} {zpf : Nat → Int32} {kac : Int32} {knx : Int32} {kim : Int32} {cf : Nat → SC} {m_taped : Int32} {d_tape : Nat → Int32} {d_r : Nat → Int32} {d_st : Nat → Int32} {d_undone : Nat → Int32} {d_kept : Nat → Int32} {m_undos : Int32} {m_images : Int32} {m_hasHouse : Int32} {xw mw : va_W} (X : Cx p s m meth c #[Value.ref b] cL_law 7 RL A g) (hX : va_X b L xs s s.heap) (hbl : b < s.heap.size) (hbA : ¬ A b) (hi : 0 ≤ u4.toInt ∧ u4.toInt + 6 ≤ (L : Int)) (hL : L ≤ 3072) (h1 : n1 ≤ 601023) (h2 : n2 ≤ 7293028) (hlt : l.stackTraces = false) (hZ : kZ A s s.heap) (htsE : ∀ w ∈ wsE, w.before #[Value.ref b] s = true) (hx : XW g h0 xtpd tpf yhnf yhtn yhtf yhjn yhjf yhmn yhmf yhbn yhbf yhsn yhsf yhcn yhcf zrn zmn zwn zpn zmd ztr zrf zmf zwf zpf kac knx kim cf xw) (hm : MW g mo m_taped d_tape d_r d_st d_undone d_kept m_undos m_images m_hasHouse mw) (hR : LR xtpd tpf yhnf yhtn yhtf yhjn yhjf yhmn yhmf yhbn yhbf yhsn yhsf yhcn yhcf zrn zmn zwn zpn zmd ztr zrf zmf zwf zpf kac knx kim cf m_taped d_tape d_r d_st d_undone d_kept m_undos m_images m_hasHouse) (kk : ∀ (xtpd_2 : Int32) (tpf_2 : Nat → Int32) (yhnf_2 : Nat → Int32) (yhtn_2 : Int32) (yhtf_2 : Nat → Int32) (yhjn_2 : Int32) (yhjf_2 : Nat → Int32) (yhmn_2 : Int32) (yhmf_2 : Nat → Int32) (yhbn_2 : Int32) (yhbf_2 : Nat → Int32) (yhsn_2 : Int32) (yhsf_2 : Nat → Int32) (yhcn_2 : Int32) (yhcf_2 : Nat → Int32) (zrn_2 : Int32) (zmn_2 : Int32) (zwn_2 : Int32) (zpn_2 : Int32) (zmd_2 : Int32) (ztr_2 : Int32) (zrf_2 : Nat → Int32) (zmf_2 : Nat → Int32) (zwf_2 : Nat → Int32) (zpf_2 : Nat → Int32) (kac_2 : Int32) (knx_2 : Int32) (kim_2 : Int32) (cf_2 : Nat → SC) (m_taped_2 : Int32) (d_tape_2 : Nat → Int32) (d_r_2 : Nat → Int32) (d_st_2 : Nat → Int32) (d_undone_2 : Nat → Int32) (d_kept_2 : Nat → Int32) (m_undos_2 : Int32) (m_images_2 : Int32) (m_hasHouse_2 : Int32) (xw2 mw2 : va_W), XW g h0 xtpd_2 tpf_2 yhnf_2 yhtn_2 yhtf_2 yhjn_2 yhjf_2 yhmn_2 yhmf_2 yhbn_2 yhbf_2 yhsn_2 yhsf_2 yhcn_2 yhcf_2 zrn_2 zmn_2 zwn_2 zpn_2 zmd_2 ztr_2 zrf_2 zmf_2 zwf_2 zpf_2 kac_2 knx_2 kim_2 cf_2 xw2 → MW g mo m_taped_2 d_tape_2 d_r_2 d_st_2 d_undone_2 d_kept_2 m_undos_2 m_images_2 m_hasHouse_2 mw2 → LR xtpd_2 tpf_2 yhnf_2 yhtn_2 yhtf_2 yhjn_2 yhjf_2 yhmn_2 yhmf_2 yhbn_2 yhbf_2 yhsn_2 yhsf_2 yhcn_2 yhcf_2 zrn_2 zmn_2 zwn_2 zpn_2 zmd_2 ztr_2 zrf_2 zmf_2 zwf_2 zpf_2 kac_2 knx_2 kim_2 cf_2 m_taped_2 d_tape_2 d_r_2 d_st_2 d_undone_2 d_kept_2 m_undos_2 m_images_2 m_hasHouse_2 → Wk p l e room_1 s m #[Value.ref b] below meth c (lw_Z below #[Value.ref b] s) A g 7 n1 n2 (xw2 ++ (mw2 ++ [(cAJ g lo 1 fo)])) [(4, .int u4), (3, .ref lo), (2, .ref mo), (1, .ref h0), (0, .ref b)] 2062 []) : Wk p l e room_1 s m #[Value.ref b] below meth c (lw_Z below #[Value.ref b] s) A g 7 n1 n2 (xw ++ (mw ++ [(cAJ g lo 1 fo)])) [(4, .int u4), (3, .ref lo), (2, .ref mo), (1, .ref h0), (0, .ref b)] 709 [] := by
  have hiv : IV u4 0 3066 := ⟨hi.1, by omega⟩
  refine k_aload_n X dL_law_k26.1.1.1.1 3 rfl ?_
  refine k_aload_n X dL_law_k26.1.1.1.2 4 rfl ?_
  refine k_iload X dL_law_k26.1.1.2.1 0 rfl ?_
  refine k_iconst (v := 1) X dL_law_k26.1.1.2.2 ic_1 ?_
  refine k_iadd X dL_law_k26.1.2.1.1 ?_
  refine k_nm (fun z_1 ez_1 => ?_)
  have i_2 : z_1.toInt = u4.toInt + 1 := in_add ez_1 hiv iq_1_1_1 (zle_e rfl) (zle_e rfl)
  have iv_3 : IV z_1 1 3067 := by have := hiv; have := iq_1_1_1; rw [IV, i_2]; omega
  refine k_sld X hX hbl hbA dL_law_k26.1.2.1.2 (by rw [vp_in_iff]; have := iv_3; omega) ?_
  refine k_nm (fun a_4 ea_4 => ?_)
  refine k_aload_n X dL_law_k26.1.2.2.1 4 rfl ?_
  refine k_iload X dL_law_k26.1.2.2.2 0 rfl ?_
  refine k_iconst (v := 2) X dL_law_k26.2.1.1.1 ic_2 ?_
  refine k_iadd X dL_law_k26.2.1.1.2 ?_
  refine k_nm (fun z_5 ez_5 => ?_)
  have i_6 : z_5.toInt = u4.toInt + 2 := in_add ez_5 hiv iq_2_2_2 (zle_e rfl) (zle_e rfl)
  have iv_7 : IV z_5 2 3068 := by have := hiv; have := iq_2_2_2; rw [IV, i_6]; omega
  refine k_sld X hX hbl hbA dL_law_k26.2.1.2.1 (by rw [vp_in_iff]; have := iv_7; omega) ?_
  refine k_nm (fun a_8 ea_8 => ?_)
  refine lx_tail (st := []) a_4 a_8 X hx dL_law_k26.2.1.2.2 mw877 (Nat.le_of_ble_eq_true rfl) (Nat.le_of_ble_eq_true rfl) (Nat.le_of_ble_eq_true rfl) (Nat.le_trans h1 (Nat.le_of_ble_eq_true rfl)) (Nat.le_trans h2 (Nat.le_of_ble_eq_true rfl)) (fun r_9 xw_10 hx_11 => ?_)
  refine k_pop X dL_law_k26.2.2.1.1 rfl ?_
  refine k_aload_n X dL_law_k26.2.2.1.2 2 rfl ?_
  refine k_aload_n X dL_law_k26.2.2.2.1 4 rfl ?_
  refine k_iload X dL_law_k26.2.2.2.2 0 rfl ?_
  refine k_iconst (v := 1) X dL_law_k27.1.1.1 ic_1 ?_
  refine k_iadd X dL_law_k27.1.1.2 ?_
  refine k_to z_1 ez_1.symm ?_
  refine k_sld X hX hbl hbA dL_law_k27.1.2.1 (by rw [vp_in_iff]; have := iv_3; omega) ?_
  refine k_to a_4 ea_4.symm ?_
  refine k_aload_n X dL_law_k27.1.2.2.1 4 rfl ?_
  refine k_iload X dL_law_k27.1.2.2.2 0 rfl ?_
  refine k_iconst (v := 2) X dL_law_k27.2.1.1 ic_2 ?_
  refine k_iadd X dL_law_k27.2.1.2.1 ?_
  refine k_to z_5 ez_5.symm ?_
  refine k_sld X hX hbl hbA dL_law_k27.2.1.2.2 (by rw [vp_in_iff]; have := iv_7; omega) ?_
  refine k_to a_8 ea_8.symm ?_
  refine lm_tail (st := []) a_4 a_8 X hm dL_law_k27.2.2.1 mw881 (Nat.le_of_ble_eq_true rfl) (Nat.le_of_ble_eq_true rfl) (Nat.le_of_ble_eq_true rfl) (Nat.le_trans h1 (Nat.le_of_ble_eq_true rfl)) (Nat.le_trans h2 (Nat.le_of_ble_eq_true rfl)) (fun r_12 mw_13 hm_14 => ?_)
  refine k_pop X dL_law_k27.2.2.2.1 rfl ?_
  refine k_goto 2062 X dL_law_k27.2.2.2.2 (jp_e rfl) ?_
  exact kk _ _ _ _ _ _ _ _ _ _ _ _ _ _ _ _ _ _ _ _ _ _ _ _ _ _ _ _ _ _ _ _ _ _ _ _ _ _ _ _ hx_11 hm_14 hR

theorem dL_law_k28 : ((((dD cL_law 746 (.aload_n 1) 1 ∧ dD cL_law 747 (.aload_n 0) 1) ∧ (dD cL_law 748 (.iload 4) 2 ∧ dD cL_law 750 (.iconst 1) 1)) ∧ ((dD cL_law 751 .iadd 1 ∧ dD cL_law 752 .iaload 1) ∧ (dD cL_law 753 (.aload_n 0) 1 ∧ dD cL_law 754 (.iload 4) 2))) ∧ (((dD cL_law 756 (.iconst 2) 1 ∧ dD cL_law 757 .iadd 1) ∧ (dD cL_law 758 .iaload 1 ∧ dD cL_law 759 (.invokevirtual 78) 3)) ∧ ((dD cL_law 762 .pop 1 ∧ dD cL_law 763 (.aload_n 2) 1) ∧ (dD cL_law 764 (.aload_n 0) 1 ∧ dD cL_law 765 (.iload 4) 2)))) := dkA16 (by decide +kernel)
theorem dL_law_k29 : (((dD cL_law 767 (.iconst 1) 1 ∧ dD cL_law 768 .iadd 1) ∧ (dD cL_law 769 .iaload 1 ∧ (dD cL_law 770 (.aload_n 0) 1 ∧ dD cL_law 771 (.iload 4) 2))) ∧ ((dD cL_law 773 (.iconst 2) 1 ∧ (dD cL_law 774 .iadd 1 ∧ dD cL_law 775 .iaload 1)) ∧ (dD cL_law 776 (.invokevirtual 81) 3 ∧ (dD cL_law 779 .pop 1 ∧ dD cL_law 780 (.goto 1282) 3)))) := dkA11 (by decide +kernel)
set_option maxHeartbeats 4000000 in
set_option maxRecDepth 100000 in
theorem law_c14 {p : Program} {l : Launch} {e : Env} {s : State} {m : MethodId} {below : List Frame} {meth : Method} {c : Code} {A : Nat → Prop} {g : Gx} {b L : Nat} {xs : Nat → Int32} {h0 mo lo n1 n2 : Nat} {fo : Nat → Int64} {u4 : Int32} {xtpd : Int32} {tpf : Nat → Int32} {yhnf : Nat → Int32} {yhtn : Int32} {yhtf : Nat → Int32} {yhjn : Int32} {yhjf : Nat → Int32} {yhmn : Int32} {yhmf : Nat → Int32} {yhbn : Int32} {yhbf : Nat → Int32} {yhsn : Int32} {yhsf : Nat → Int32} {yhcn : Int32} {yhcf : Nat → Int32} {zrn : Int32} {zmn : Int32} {zwn : Int32} {zpn : Int32} {zmd : Int32} {ztr : Int32} {zrf : Nat → Int32} {zmf : Nat → Int32} {zwf : Nat → Int32} {zpf : Nat → Int32} {kac : Int32} {knx : Int32} {kim : Int32} {cf : Nat → SC} {m_taped : Int32} {d_tape : Nat → Int32} {d_r : Nat → Int32} {d_st : Nat → Int32} {d_undone : Nat → Int32} {d_kept : Nat → Int32} {m_undos : Int32} {m_images : Int32} {m_hasHouse : Int32} {xw mw : va_W} (X : Cx p s m meth c #[Value.ref b] cL_law 7 RL A g) (hX : va_X b L xs s s.heap) (hbl : b < s.heap.size) (hbA : ¬ A b) (hi : 0 ≤ u4.toInt ∧ u4.toInt + 6 ≤ (L : Int)) (hL : L ≤ 3072) (h1 : n1 ≤ 601023) (h2 : n2 ≤ 7293028) (hlt : l.stackTraces = false) (hZ : kZ A s s.heap) (htsE : ∀ w ∈ wsE, w.before #[Value.ref b] s = true) (hx : XW g h0 xtpd tpf yhnf yhtn yhtf yhjn yhjf yhmn yhmf yhbn yhbf yhsn yhsf yhcn yhcf zrn zmn zwn zpn zmd ztr zrf zmf zwf zpf kac knx kim cf xw) (hm : MW g mo m_taped d_tape d_r d_st d_undone d_kept m_undos m_images m_hasHouse mw) (hR : LR xtpd tpf yhnf yhtn yhtf yhjn yhjf yhmn yhmf yhbn yhbf yhsn yhsf yhcn yhcf zrn zmn zwn zpn zmd ztr zrf zmf zwf zpf kac knx kim cf m_taped d_tape d_r d_st d_undone d_kept m_undos m_images m_hasHouse) (kk : ∀ (xtpd_2 : Int32) (tpf_2 : Nat → Int32) (yhnf_2 : Nat → Int32) (yhtn_2 : Int32) (yhtf_2 : Nat → Int32) (yhjn_2 : Int32) (yhjf_2 : Nat → Int32) (yhmn_2 : Int32) (yhmf_2 : Nat → Int32) (yhbn_2 : Int32) (yhbf_2 : Nat → Int32) (yhsn_2 : Int32) (yhsf_2 : Nat → Int32) (yhcn_2 : Int32) (yhcf_2 : Nat → Int32) (zrn_2 : Int32) (zmn_2 : Int32) (zwn_2 : Int32) (zpn_2 : Int32) (zmd_2 : Int32) (ztr_2 : Int32) (zrf_2 : Nat → Int32) (zmf_2 : Nat → Int32) (zwf_2 : Nat → Int32) (zpf_2 : Nat → Int32) (kac_2 : Int32) (knx_2 : Int32) (kim_2 : Int32) (cf_2 : Nat → SC) (m_taped_2 : Int32) (d_tape_2 : Nat → Int32) (d_r_2 : Nat → Int32) (d_st_2 : Nat → Int32) (d_undone_2 : Nat → Int32) (d_kept_2 : Nat → Int32) (m_undos_2 : Int32) (m_images_2 : Int32) (m_hasHouse_2 : Int32) (xw2 mw2 : va_W), XW g h0 xtpd_2 tpf_2 yhnf_2 yhtn_2 yhtf_2 yhjn_2 yhjf_2 yhmn_2 yhmf_2 yhbn_2 yhbf_2 yhsn_2 yhsf_2 yhcn_2 yhcf_2 zrn_2 zmn_2 zwn_2 zpn_2 zmd_2 ztr_2 zrf_2 zmf_2 zwf_2 zpf_2 kac_2 knx_2 kim_2 cf_2 xw2 → MW g mo m_taped_2 d_tape_2 d_r_2 d_st_2 d_undone_2 d_kept_2 m_undos_2 m_images_2 m_hasHouse_2 mw2 → LR xtpd_2 tpf_2 yhnf_2 yhtn_2 yhtf_2 yhjn_2 yhjf_2 yhmn_2 yhmf_2 yhbn_2 yhbf_2 yhsn_2 yhsf_2 yhcn_2 yhcf_2 zrn_2 zmn_2 zwn_2 zpn_2 zmd_2 ztr_2 zrf_2 zmf_2 zwf_2 zpf_2 kac_2 knx_2 kim_2 cf_2 m_taped_2 d_tape_2 d_r_2 d_st_2 d_undone_2 d_kept_2 m_undos_2 m_images_2 m_hasHouse_2 → Wk p l e room_1 s m #[Value.ref b] below meth c (lw_Z below #[Value.ref b] s) A g 7 n1 n2 (xw2 ++ (mw2 ++ [(cAJ g lo 1 fo)])) [(4, .int u4), (3, .ref lo), (2, .ref mo), (1, .ref h0), (0, .ref b)] 2062 []) : Wk p l e room_1 s m #[Value.ref b] below meth c (lw_Z below #[Value.ref b] s) A g 7 n1 n2 (xw ++ (mw ++ [(cAJ g lo 1 fo)])) [(4, .int u4), (3, .ref lo), (2, .ref mo), (1, .ref h0), (0, .ref b)] 746 [] := by
  have hiv : IV u4 0 3066 := ⟨hi.1, by omega⟩
  refine k_aload_n X dL_law_k28.1.1.1.1 3 rfl ?_
  refine k_aload_n X dL_law_k28.1.1.1.2 4 rfl ?_
  refine k_iload X dL_law_k28.1.1.2.1 0 rfl ?_
  refine k_iconst (v := 1) X dL_law_k28.1.1.2.2 ic_1 ?_
  refine k_iadd X dL_law_k28.1.2.1.1 ?_
  refine k_nm (fun z_1 ez_1 => ?_)
  have i_2 : z_1.toInt = u4.toInt + 1 := in_add ez_1 hiv iq_1_1_1 (zle_e rfl) (zle_e rfl)
  have iv_3 : IV z_1 1 3067 := by have := hiv; have := iq_1_1_1; rw [IV, i_2]; omega
  refine k_sld X hX hbl hbA dL_law_k28.1.2.1.2 (by rw [vp_in_iff]; have := iv_3; omega) ?_
  refine k_nm (fun a_4 ea_4 => ?_)
  refine k_aload_n X dL_law_k28.1.2.2.1 4 rfl ?_
  refine k_iload X dL_law_k28.1.2.2.2 0 rfl ?_
  refine k_iconst (v := 2) X dL_law_k28.2.1.1.1 ic_2 ?_
  refine k_iadd X dL_law_k28.2.1.1.2 ?_
  refine k_nm (fun z_5 ez_5 => ?_)
  have i_6 : z_5.toInt = u4.toInt + 2 := in_add ez_5 hiv iq_2_2_2 (zle_e rfl) (zle_e rfl)
  have iv_7 : IV z_5 2 3068 := by have := hiv; have := iq_2_2_2; rw [IV, i_6]; omega
  refine k_sld X hX hbl hbA dL_law_k28.2.1.2.1 (by rw [vp_in_iff]; have := iv_7; omega) ?_
  refine k_nm (fun a_8 ea_8 => ?_)
  refine lx_begins (st := []) a_4 a_8 X hx dL_law_k28.2.1.2.2 mw889 (Nat.le_of_ble_eq_true rfl) (Nat.le_of_ble_eq_true rfl) (Nat.le_of_ble_eq_true rfl) (Nat.le_trans h1 (Nat.le_of_ble_eq_true rfl)) (Nat.le_trans h2 (Nat.le_of_ble_eq_true rfl)) (fun r_9 xw_10 hx_11 => ?_)
  refine k_pop X dL_law_k28.2.2.1.1 rfl ?_
  refine k_aload_n X dL_law_k28.2.2.1.2 2 rfl ?_
  refine k_aload_n X dL_law_k28.2.2.2.1 4 rfl ?_
  refine k_iload X dL_law_k28.2.2.2.2 0 rfl ?_
  refine k_iconst (v := 1) X dL_law_k29.1.1.1 ic_1 ?_
  refine k_iadd X dL_law_k29.1.1.2 ?_
  refine k_to z_1 ez_1.symm ?_
  refine k_sld X hX hbl hbA dL_law_k29.1.2.1 (by rw [vp_in_iff]; have := iv_3; omega) ?_
  refine k_to a_4 ea_4.symm ?_
  refine k_aload_n X dL_law_k29.1.2.2.1 4 rfl ?_
  refine k_iload X dL_law_k29.1.2.2.2 0 rfl ?_
  refine k_iconst (v := 2) X dL_law_k29.2.1.1 ic_2 ?_
  refine k_iadd X dL_law_k29.2.1.2.1 ?_
  refine k_to z_5 ez_5.symm ?_
  refine k_sld X hX hbl hbA dL_law_k29.2.1.2.2 (by rw [vp_in_iff]; have := iv_7; omega) ?_
  refine k_to a_8 ea_8.symm ?_
  refine lm_begins (st := []) a_4 a_8 X hm dL_law_k29.2.2.1 mw893 (Nat.le_of_ble_eq_true rfl) (Nat.le_of_ble_eq_true rfl) (Nat.le_of_ble_eq_true rfl) (Nat.le_trans h1 (Nat.le_of_ble_eq_true rfl)) (Nat.le_trans h2 (Nat.le_of_ble_eq_true rfl)) (fun r_12 mw_13 hm_14 => ?_)
  refine k_pop X dL_law_k29.2.2.2.1 rfl ?_
  refine k_goto 2062 X dL_law_k29.2.2.2.2 (jp_e rfl) ?_
  exact kk _ _ _ _ _ _ _ _ _ _ _ _ _ _ _ _ _ _ _ _ _ _ _ _ _ _ _ _ _ _ _ _ _ _ _ _ _ _ _ _ hx_11 hm_14 hR

theorem dL_law_k30 : ((((dD cL_law 783 (.aload_n 1) 1 ∧ dD cL_law 784 (.aload_n 0) 1) ∧ (dD cL_law 785 (.iload 4) 2 ∧ dD cL_law 787 (.iconst 1) 1)) ∧ ((dD cL_law 788 .iadd 1 ∧ dD cL_law 789 .iaload 1) ∧ (dD cL_law 790 (.invokevirtual 82) 3 ∧ dD cL_law 793 .pop 1))) ∧ (((dD cL_law 794 (.aload_n 2) 1 ∧ dD cL_law 795 (.aload_n 0) 1) ∧ (dD cL_law 796 (.iload 4) 2 ∧ dD cL_law 798 (.iconst 1) 1)) ∧ ((dD cL_law 799 .iadd 1 ∧ dD cL_law 800 .iaload 1) ∧ (dD cL_law 801 (.invokevirtual 85) 3 ∧ dD cL_law 804 .pop 1)))) := dkA16 (by decide +kernel)
theorem dL_law_k31 : dD cL_law 805 (.goto 1257) 3 := dkA1 (by decide +kernel)
set_option maxHeartbeats 4000000 in
set_option maxRecDepth 100000 in
theorem law_c15 {p : Program} {l : Launch} {e : Env} {s : State} {m : MethodId} {below : List Frame} {meth : Method} {c : Code} {A : Nat → Prop} {g : Gx} {b L : Nat} {xs : Nat → Int32} {h0 mo lo n1 n2 : Nat} {fo : Nat → Int64} {u4 : Int32} {xtpd : Int32} {tpf : Nat → Int32} {yhnf : Nat → Int32} {yhtn : Int32} {yhtf : Nat → Int32} {yhjn : Int32} {yhjf : Nat → Int32} {yhmn : Int32} {yhmf : Nat → Int32} {yhbn : Int32} {yhbf : Nat → Int32} {yhsn : Int32} {yhsf : Nat → Int32} {yhcn : Int32} {yhcf : Nat → Int32} {zrn : Int32} {zmn : Int32} {zwn : Int32} {zpn : Int32} {zmd : Int32} {ztr : Int32} {zrf : Nat → Int32} {zmf : Nat → Int32} {zwf : Nat → Int32} {zpf : Nat → Int32} {kac : Int32} {knx : Int32} {kim : Int32} {cf : Nat → SC} {m_taped : Int32} {d_tape : Nat → Int32} {d_r : Nat → Int32} {d_st : Nat → Int32} {d_undone : Nat → Int32} {d_kept : Nat → Int32} {m_undos : Int32} {m_images : Int32} {m_hasHouse : Int32} {xw mw : va_W} (X : Cx p s m meth c #[Value.ref b] cL_law 7 RL A g) (hX : va_X b L xs s s.heap) (hbl : b < s.heap.size) (hbA : ¬ A b) (hi : 0 ≤ u4.toInt ∧ u4.toInt + 6 ≤ (L : Int)) (hL : L ≤ 3072) (h1 : n1 ≤ 601023) (h2 : n2 ≤ 7293028) (hlt : l.stackTraces = false) (hZ : kZ A s s.heap) (htsE : ∀ w ∈ wsE, w.before #[Value.ref b] s = true) (hx : XW g h0 xtpd tpf yhnf yhtn yhtf yhjn yhjf yhmn yhmf yhbn yhbf yhsn yhsf yhcn yhcf zrn zmn zwn zpn zmd ztr zrf zmf zwf zpf kac knx kim cf xw) (hm : MW g mo m_taped d_tape d_r d_st d_undone d_kept m_undos m_images m_hasHouse mw) (hR : LR xtpd tpf yhnf yhtn yhtf yhjn yhjf yhmn yhmf yhbn yhbf yhsn yhsf yhcn yhcf zrn zmn zwn zpn zmd ztr zrf zmf zwf zpf kac knx kim cf m_taped d_tape d_r d_st d_undone d_kept m_undos m_images m_hasHouse) (kk : ∀ (xtpd_2 : Int32) (tpf_2 : Nat → Int32) (yhnf_2 : Nat → Int32) (yhtn_2 : Int32) (yhtf_2 : Nat → Int32) (yhjn_2 : Int32) (yhjf_2 : Nat → Int32) (yhmn_2 : Int32) (yhmf_2 : Nat → Int32) (yhbn_2 : Int32) (yhbf_2 : Nat → Int32) (yhsn_2 : Int32) (yhsf_2 : Nat → Int32) (yhcn_2 : Int32) (yhcf_2 : Nat → Int32) (zrn_2 : Int32) (zmn_2 : Int32) (zwn_2 : Int32) (zpn_2 : Int32) (zmd_2 : Int32) (ztr_2 : Int32) (zrf_2 : Nat → Int32) (zmf_2 : Nat → Int32) (zwf_2 : Nat → Int32) (zpf_2 : Nat → Int32) (kac_2 : Int32) (knx_2 : Int32) (kim_2 : Int32) (cf_2 : Nat → SC) (m_taped_2 : Int32) (d_tape_2 : Nat → Int32) (d_r_2 : Nat → Int32) (d_st_2 : Nat → Int32) (d_undone_2 : Nat → Int32) (d_kept_2 : Nat → Int32) (m_undos_2 : Int32) (m_images_2 : Int32) (m_hasHouse_2 : Int32) (xw2 mw2 : va_W), XW g h0 xtpd_2 tpf_2 yhnf_2 yhtn_2 yhtf_2 yhjn_2 yhjf_2 yhmn_2 yhmf_2 yhbn_2 yhbf_2 yhsn_2 yhsf_2 yhcn_2 yhcf_2 zrn_2 zmn_2 zwn_2 zpn_2 zmd_2 ztr_2 zrf_2 zmf_2 zwf_2 zpf_2 kac_2 knx_2 kim_2 cf_2 xw2 → MW g mo m_taped_2 d_tape_2 d_r_2 d_st_2 d_undone_2 d_kept_2 m_undos_2 m_images_2 m_hasHouse_2 mw2 → LR xtpd_2 tpf_2 yhnf_2 yhtn_2 yhtf_2 yhjn_2 yhjf_2 yhmn_2 yhmf_2 yhbn_2 yhbf_2 yhsn_2 yhsf_2 yhcn_2 yhcf_2 zrn_2 zmn_2 zwn_2 zpn_2 zmd_2 ztr_2 zrf_2 zmf_2 zwf_2 zpf_2 kac_2 knx_2 kim_2 cf_2 m_taped_2 d_tape_2 d_r_2 d_st_2 d_undone_2 d_kept_2 m_undos_2 m_images_2 m_hasHouse_2 → Wk p l e room_1 s m #[Value.ref b] below meth c (lw_Z below #[Value.ref b] s) A g 7 n1 n2 (xw2 ++ (mw2 ++ [(cAJ g lo 1 fo)])) [(4, .int u4), (3, .ref lo), (2, .ref mo), (1, .ref h0), (0, .ref b)] 2062 []) : Wk p l e room_1 s m #[Value.ref b] below meth c (lw_Z below #[Value.ref b] s) A g 7 n1 n2 (xw ++ (mw ++ [(cAJ g lo 1 fo)])) [(4, .int u4), (3, .ref lo), (2, .ref mo), (1, .ref h0), (0, .ref b)] 783 [] := by
  have hiv : IV u4 0 3066 := ⟨hi.1, by omega⟩
  refine k_aload_n X dL_law_k30.1.1.1.1 3 rfl ?_
  refine k_aload_n X dL_law_k30.1.1.1.2 4 rfl ?_
  refine k_iload X dL_law_k30.1.1.2.1 0 rfl ?_
  refine k_iconst (v := 1) X dL_law_k30.1.1.2.2 ic_1 ?_
  refine k_iadd X dL_law_k30.1.2.1.1 ?_
  refine k_nm (fun z_1 ez_1 => ?_)
  have i_2 : z_1.toInt = u4.toInt + 1 := in_add ez_1 hiv iq_1_1_1 (zle_e rfl) (zle_e rfl)
  have iv_3 : IV z_1 1 3067 := by have := hiv; have := iq_1_1_1; rw [IV, i_2]; omega
  refine k_sld X hX hbl hbA dL_law_k30.1.2.1.2 (by rw [vp_in_iff]; have := iv_3; omega) ?_
  refine k_nm (fun a_4 ea_4 => ?_)
  refine lx_length (st := []) a_4 X hx dL_law_k30.1.2.2.1 mw897 (Nat.le_of_ble_eq_true rfl) (Nat.le_of_ble_eq_true rfl) (Nat.le_of_ble_eq_true rfl) (Nat.le_trans h1 (Nat.le_of_ble_eq_true rfl)) (Nat.le_trans h2 (Nat.le_of_ble_eq_true rfl)) (fun r_5 xw_6 hx_7 => ?_)
  refine k_pop X dL_law_k30.1.2.2.2 rfl ?_
  refine k_aload_n X dL_law_k30.2.1.1.1 2 rfl ?_
  refine k_aload_n X dL_law_k30.2.1.1.2 4 rfl ?_
  refine k_iload X dL_law_k30.2.1.2.1 0 rfl ?_
  refine k_iconst (v := 1) X dL_law_k30.2.1.2.2 ic_1 ?_
  refine k_iadd X dL_law_k30.2.2.1.1 ?_
  refine k_to z_1 ez_1.symm ?_
  refine k_sld X hX hbl hbA dL_law_k30.2.2.1.2 (by rw [vp_in_iff]; have := iv_3; omega) ?_
  refine k_to a_4 ea_4.symm ?_
  refine lm_length (st := []) a_4 X hm dL_law_k30.2.2.2.1 mw905 (Nat.le_of_ble_eq_true rfl) (Nat.le_of_ble_eq_true rfl) (Nat.le_of_ble_eq_true rfl) (Nat.le_trans h1 (Nat.le_of_ble_eq_true rfl)) (Nat.le_trans h2 (Nat.le_of_ble_eq_true rfl)) (fun r_8 mw_9 hm_10 => ?_)
  refine k_pop X dL_law_k30.2.2.2.2 rfl ?_
  refine k_goto 2062 X dL_law_k31 (jp_e rfl) ?_
  exact kk _ _ _ _ _ _ _ _ _ _ _ _ _ _ _ _ _ _ _ _ _ _ _ _ _ _ _ _ _ _ _ _ _ _ _ _ _ _ _ _ hx_7 hm_10 hR

theorem dL_law_k32 : ((((dD cL_law 808 (.aload_n 1) 1 ∧ dD cL_law 809 (.aload_n 0) 1) ∧ (dD cL_law 810 (.iload 4) 2 ∧ dD cL_law 812 (.iconst 1) 1)) ∧ ((dD cL_law 813 .iadd 1 ∧ dD cL_law 814 .iaload 1) ∧ (dD cL_law 815 (.aload_n 0) 1 ∧ dD cL_law 816 (.iload 4) 2))) ∧ (((dD cL_law 818 (.iconst 2) 1 ∧ dD cL_law 819 .iadd 1) ∧ (dD cL_law 820 .iaload 1 ∧ dD cL_law 821 (.invokevirtual 86) 3)) ∧ ((dD cL_law 824 .pop 1 ∧ dD cL_law 825 (.aload_n 2) 1) ∧ (dD cL_law 826 (.aload_n 0) 1 ∧ dD cL_law 827 (.iload 4) 2)))) := dkA16 (by decide +kernel)
theorem dL_law_k33 : (((dD cL_law 829 (.iconst 1) 1 ∧ dD cL_law 830 .iadd 1) ∧ (dD cL_law 831 .iaload 1 ∧ (dD cL_law 832 (.aload_n 0) 1 ∧ dD cL_law 833 (.iload 4) 2))) ∧ ((dD cL_law 835 (.iconst 2) 1 ∧ (dD cL_law 836 .iadd 1 ∧ dD cL_law 837 .iaload 1)) ∧ (dD cL_law 838 (.invokevirtual 89) 3 ∧ (dD cL_law 841 .pop 1 ∧ dD cL_law 842 (.goto 1220) 3)))) := dkA11 (by decide +kernel)
set_option maxHeartbeats 4000000 in
set_option maxRecDepth 100000 in
theorem law_c16 {p : Program} {l : Launch} {e : Env} {s : State} {m : MethodId} {below : List Frame} {meth : Method} {c : Code} {A : Nat → Prop} {g : Gx} {b L : Nat} {xs : Nat → Int32} {h0 mo lo n1 n2 : Nat} {fo : Nat → Int64} {u4 : Int32} {xtpd : Int32} {tpf : Nat → Int32} {yhnf : Nat → Int32} {yhtn : Int32} {yhtf : Nat → Int32} {yhjn : Int32} {yhjf : Nat → Int32} {yhmn : Int32} {yhmf : Nat → Int32} {yhbn : Int32} {yhbf : Nat → Int32} {yhsn : Int32} {yhsf : Nat → Int32} {yhcn : Int32} {yhcf : Nat → Int32} {zrn : Int32} {zmn : Int32} {zwn : Int32} {zpn : Int32} {zmd : Int32} {ztr : Int32} {zrf : Nat → Int32} {zmf : Nat → Int32} {zwf : Nat → Int32} {zpf : Nat → Int32} {kac : Int32} {knx : Int32} {kim : Int32} {cf : Nat → SC} {m_taped : Int32} {d_tape : Nat → Int32} {d_r : Nat → Int32} {d_st : Nat → Int32} {d_undone : Nat → Int32} {d_kept : Nat → Int32} {m_undos : Int32} {m_images : Int32} {m_hasHouse : Int32} {xw mw : va_W} (X : Cx p s m meth c #[Value.ref b] cL_law 7 RL A g) (hX : va_X b L xs s s.heap) (hbl : b < s.heap.size) (hbA : ¬ A b) (hi : 0 ≤ u4.toInt ∧ u4.toInt + 6 ≤ (L : Int)) (hL : L ≤ 3072) (h1 : n1 ≤ 601023) (h2 : n2 ≤ 7293028) (hlt : l.stackTraces = false) (hZ : kZ A s s.heap) (htsE : ∀ w ∈ wsE, w.before #[Value.ref b] s = true) (hx : XW g h0 xtpd tpf yhnf yhtn yhtf yhjn yhjf yhmn yhmf yhbn yhbf yhsn yhsf yhcn yhcf zrn zmn zwn zpn zmd ztr zrf zmf zwf zpf kac knx kim cf xw) (hm : MW g mo m_taped d_tape d_r d_st d_undone d_kept m_undos m_images m_hasHouse mw) (hR : LR xtpd tpf yhnf yhtn yhtf yhjn yhjf yhmn yhmf yhbn yhbf yhsn yhsf yhcn yhcf zrn zmn zwn zpn zmd ztr zrf zmf zwf zpf kac knx kim cf m_taped d_tape d_r d_st d_undone d_kept m_undos m_images m_hasHouse) (kk : ∀ (xtpd_2 : Int32) (tpf_2 : Nat → Int32) (yhnf_2 : Nat → Int32) (yhtn_2 : Int32) (yhtf_2 : Nat → Int32) (yhjn_2 : Int32) (yhjf_2 : Nat → Int32) (yhmn_2 : Int32) (yhmf_2 : Nat → Int32) (yhbn_2 : Int32) (yhbf_2 : Nat → Int32) (yhsn_2 : Int32) (yhsf_2 : Nat → Int32) (yhcn_2 : Int32) (yhcf_2 : Nat → Int32) (zrn_2 : Int32) (zmn_2 : Int32) (zwn_2 : Int32) (zpn_2 : Int32) (zmd_2 : Int32) (ztr_2 : Int32) (zrf_2 : Nat → Int32) (zmf_2 : Nat → Int32) (zwf_2 : Nat → Int32) (zpf_2 : Nat → Int32) (kac_2 : Int32) (knx_2 : Int32) (kim_2 : Int32) (cf_2 : Nat → SC) (m_taped_2 : Int32) (d_tape_2 : Nat → Int32) (d_r_2 : Nat → Int32) (d_st_2 : Nat → Int32) (d_undone_2 : Nat → Int32) (d_kept_2 : Nat → Int32) (m_undos_2 : Int32) (m_images_2 : Int32) (m_hasHouse_2 : Int32) (xw2 mw2 : va_W), XW g h0 xtpd_2 tpf_2 yhnf_2 yhtn_2 yhtf_2 yhjn_2 yhjf_2 yhmn_2 yhmf_2 yhbn_2 yhbf_2 yhsn_2 yhsf_2 yhcn_2 yhcf_2 zrn_2 zmn_2 zwn_2 zpn_2 zmd_2 ztr_2 zrf_2 zmf_2 zwf_2 zpf_2 kac_2 knx_2 kim_2 cf_2 xw2 → MW g mo m_taped_2 d_tape_2 d_r_2 d_st_2 d_undone_2 d_kept_2 m_undos_2 m_images_2 m_hasHouse_2 mw2 → LR xtpd_2 tpf_2 yhnf_2 yhtn_2 yhtf_2 yhjn_2 yhjf_2 yhmn_2 yhmf_2 yhbn_2 yhbf_2 yhsn_2 yhsf_2 yhcn_2 yhcf_2 zrn_2 zmn_2 zwn_2 zpn_2 zmd_2 ztr_2 zrf_2 zmf_2 zwf_2 zpf_2 kac_2 knx_2 kim_2 cf_2 m_taped_2 d_tape_2 d_r_2 d_st_2 d_undone_2 d_kept_2 m_undos_2 m_images_2 m_hasHouse_2 → Wk p l e room_1 s m #[Value.ref b] below meth c (lw_Z below #[Value.ref b] s) A g 7 n1 n2 (xw2 ++ (mw2 ++ [(cAJ g lo 1 fo)])) [(4, .int u4), (3, .ref lo), (2, .ref mo), (1, .ref h0), (0, .ref b)] 2062 []) : Wk p l e room_1 s m #[Value.ref b] below meth c (lw_Z below #[Value.ref b] s) A g 7 n1 n2 (xw ++ (mw ++ [(cAJ g lo 1 fo)])) [(4, .int u4), (3, .ref lo), (2, .ref mo), (1, .ref h0), (0, .ref b)] 808 [] := by
  have hiv : IV u4 0 3066 := ⟨hi.1, by omega⟩
  refine k_aload_n X dL_law_k32.1.1.1.1 3 rfl ?_
  refine k_aload_n X dL_law_k32.1.1.1.2 4 rfl ?_
  refine k_iload X dL_law_k32.1.1.2.1 0 rfl ?_
  refine k_iconst (v := 1) X dL_law_k32.1.1.2.2 ic_1 ?_
  refine k_iadd X dL_law_k32.1.2.1.1 ?_
  refine k_nm (fun z_1 ez_1 => ?_)
  have i_2 : z_1.toInt = u4.toInt + 1 := in_add ez_1 hiv iq_1_1_1 (zle_e rfl) (zle_e rfl)
  have iv_3 : IV z_1 1 3067 := by have := hiv; have := iq_1_1_1; rw [IV, i_2]; omega
  refine k_sld X hX hbl hbA dL_law_k32.1.2.1.2 (by rw [vp_in_iff]; have := iv_3; omega) ?_
  refine k_nm (fun a_4 ea_4 => ?_)
  refine k_aload_n X dL_law_k32.1.2.2.1 4 rfl ?_
  refine k_iload X dL_law_k32.1.2.2.2 0 rfl ?_
  refine k_iconst (v := 2) X dL_law_k32.2.1.1.1 ic_2 ?_
  refine k_iadd X dL_law_k32.2.1.1.2 ?_
  refine k_nm (fun z_5 ez_5 => ?_)
  have i_6 : z_5.toInt = u4.toInt + 2 := in_add ez_5 hiv iq_2_2_2 (zle_e rfl) (zle_e rfl)
  have iv_7 : IV z_5 2 3068 := by have := hiv; have := iq_2_2_2; rw [IV, i_6]; omega
  refine k_sld X hX hbl hbA dL_law_k32.2.1.2.1 (by rw [vp_in_iff]; have := iv_7; omega) ?_
  refine k_nm (fun a_8 ea_8 => ?_)
  refine lx_all (st := []) a_4 a_8 X hx dL_law_k32.2.1.2.2 mw909 (Nat.le_of_ble_eq_true rfl) (Nat.le_of_ble_eq_true rfl) (Nat.le_of_ble_eq_true rfl) (Nat.le_trans h1 (Nat.le_of_ble_eq_true rfl)) (Nat.le_trans h2 (Nat.le_of_ble_eq_true rfl)) (fun r_9 xw_10 hx_11 => ?_)
  refine k_pop X dL_law_k32.2.2.1.1 rfl ?_
  refine k_aload_n X dL_law_k32.2.2.1.2 2 rfl ?_
  refine k_aload_n X dL_law_k32.2.2.2.1 4 rfl ?_
  refine k_iload X dL_law_k32.2.2.2.2 0 rfl ?_
  refine k_iconst (v := 1) X dL_law_k33.1.1.1 ic_1 ?_
  refine k_iadd X dL_law_k33.1.1.2 ?_
  refine k_to z_1 ez_1.symm ?_
  refine k_sld X hX hbl hbA dL_law_k33.1.2.1 (by rw [vp_in_iff]; have := iv_3; omega) ?_
  refine k_to a_4 ea_4.symm ?_
  refine k_aload_n X dL_law_k33.1.2.2.1 4 rfl ?_
  refine k_iload X dL_law_k33.1.2.2.2 0 rfl ?_
  refine k_iconst (v := 2) X dL_law_k33.2.1.1 ic_2 ?_
  refine k_iadd X dL_law_k33.2.1.2.1 ?_
  refine k_to z_5 ez_5.symm ?_
  refine k_sld X hX hbl hbA dL_law_k33.2.1.2.2 (by rw [vp_in_iff]; have := iv_7; omega) ?_
  refine k_to a_8 ea_8.symm ?_
  refine lm_all (st := []) a_4 a_8 X hm dL_law_k33.2.2.1 mw917 (Nat.le_of_ble_eq_true rfl) (Nat.le_of_ble_eq_true rfl) (Nat.le_of_ble_eq_true rfl) (Nat.le_trans h1 (Nat.le_of_ble_eq_true rfl)) (Nat.le_trans h2 (Nat.le_of_ble_eq_true rfl)) (fun r_12 mw_13 hm_14 => ?_)
  refine k_pop X dL_law_k33.2.2.2.1 rfl ?_
  refine k_goto 2062 X dL_law_k33.2.2.2.2 (jp_e rfl) ?_
  exact kk _ _ _ _ _ _ _ _ _ _ _ _ _ _ _ _ _ _ _ _ _ _ _ _ _ _ _ _ _ _ _ _ _ _ _ _ _ _ _ _ hx_11 hm_14 hR

theorem dL_law_k34 : ((((dD cL_law 845 (.aload_n 1) 1 ∧ dD cL_law 846 (.aload_n 0) 1) ∧ (dD cL_law 847 (.iload 4) 2 ∧ dD cL_law 849 (.iconst 1) 1)) ∧ ((dD cL_law 850 .iadd 1 ∧ dD cL_law 851 .iaload 1) ∧ (dD cL_law 852 (.invokevirtual 90) 3 ∧ dD cL_law 855 .pop 1))) ∧ (((dD cL_law 856 (.aload_n 2) 1 ∧ dD cL_law 857 (.aload_n 0) 1) ∧ (dD cL_law 858 (.iload 4) 2 ∧ dD cL_law 860 (.iconst 1) 1)) ∧ ((dD cL_law 861 .iadd 1 ∧ dD cL_law 862 .iaload 1) ∧ (dD cL_law 863 (.invokevirtual 93) 3 ∧ dD cL_law 866 .pop 1)))) := dkA16 (by decide +kernel)
theorem dL_law_k35 : dD cL_law 867 (.goto 1195) 3 := dkA1 (by decide +kernel)
set_option maxHeartbeats 4000000 in
set_option maxRecDepth 100000 in
theorem law_c17 {p : Program} {l : Launch} {e : Env} {s : State} {m : MethodId} {below : List Frame} {meth : Method} {c : Code} {A : Nat → Prop} {g : Gx} {b L : Nat} {xs : Nat → Int32} {h0 mo lo n1 n2 : Nat} {fo : Nat → Int64} {u4 : Int32} {xtpd : Int32} {tpf : Nat → Int32} {yhnf : Nat → Int32} {yhtn : Int32} {yhtf : Nat → Int32} {yhjn : Int32} {yhjf : Nat → Int32} {yhmn : Int32} {yhmf : Nat → Int32} {yhbn : Int32} {yhbf : Nat → Int32} {yhsn : Int32} {yhsf : Nat → Int32} {yhcn : Int32} {yhcf : Nat → Int32} {zrn : Int32} {zmn : Int32} {zwn : Int32} {zpn : Int32} {zmd : Int32} {ztr : Int32} {zrf : Nat → Int32} {zmf : Nat → Int32} {zwf : Nat → Int32} {zpf : Nat → Int32} {kac : Int32} {knx : Int32} {kim : Int32} {cf : Nat → SC} {m_taped : Int32} {d_tape : Nat → Int32} {d_r : Nat → Int32} {d_st : Nat → Int32} {d_undone : Nat → Int32} {d_kept : Nat → Int32} {m_undos : Int32} {m_images : Int32} {m_hasHouse : Int32} {xw mw : va_W} (X : Cx p s m meth c #[Value.ref b] cL_law 7 RL A g) (hX : va_X b L xs s s.heap) (hbl : b < s.heap.size) (hbA : ¬ A b) (hi : 0 ≤ u4.toInt ∧ u4.toInt + 6 ≤ (L : Int)) (hL : L ≤ 3072) (h1 : n1 ≤ 601023) (h2 : n2 ≤ 7293028) (hlt : l.stackTraces = false) (hZ : kZ A s s.heap) (htsE : ∀ w ∈ wsE, w.before #[Value.ref b] s = true) (hx : XW g h0 xtpd tpf yhnf yhtn yhtf yhjn yhjf yhmn yhmf yhbn yhbf yhsn yhsf yhcn yhcf zrn zmn zwn zpn zmd ztr zrf zmf zwf zpf kac knx kim cf xw) (hm : MW g mo m_taped d_tape d_r d_st d_undone d_kept m_undos m_images m_hasHouse mw) (hR : LR xtpd tpf yhnf yhtn yhtf yhjn yhjf yhmn yhmf yhbn yhbf yhsn yhsf yhcn yhcf zrn zmn zwn zpn zmd ztr zrf zmf zwf zpf kac knx kim cf m_taped d_tape d_r d_st d_undone d_kept m_undos m_images m_hasHouse) (kk : ∀ (xtpd_2 : Int32) (tpf_2 : Nat → Int32) (yhnf_2 : Nat → Int32) (yhtn_2 : Int32) (yhtf_2 : Nat → Int32) (yhjn_2 : Int32) (yhjf_2 : Nat → Int32) (yhmn_2 : Int32) (yhmf_2 : Nat → Int32) (yhbn_2 : Int32) (yhbf_2 : Nat → Int32) (yhsn_2 : Int32) (yhsf_2 : Nat → Int32) (yhcn_2 : Int32) (yhcf_2 : Nat → Int32) (zrn_2 : Int32) (zmn_2 : Int32) (zwn_2 : Int32) (zpn_2 : Int32) (zmd_2 : Int32) (ztr_2 : Int32) (zrf_2 : Nat → Int32) (zmf_2 : Nat → Int32) (zwf_2 : Nat → Int32) (zpf_2 : Nat → Int32) (kac_2 : Int32) (knx_2 : Int32) (kim_2 : Int32) (cf_2 : Nat → SC) (m_taped_2 : Int32) (d_tape_2 : Nat → Int32) (d_r_2 : Nat → Int32) (d_st_2 : Nat → Int32) (d_undone_2 : Nat → Int32) (d_kept_2 : Nat → Int32) (m_undos_2 : Int32) (m_images_2 : Int32) (m_hasHouse_2 : Int32) (xw2 mw2 : va_W), XW g h0 xtpd_2 tpf_2 yhnf_2 yhtn_2 yhtf_2 yhjn_2 yhjf_2 yhmn_2 yhmf_2 yhbn_2 yhbf_2 yhsn_2 yhsf_2 yhcn_2 yhcf_2 zrn_2 zmn_2 zwn_2 zpn_2 zmd_2 ztr_2 zrf_2 zmf_2 zwf_2 zpf_2 kac_2 knx_2 kim_2 cf_2 xw2 → MW g mo m_taped_2 d_tape_2 d_r_2 d_st_2 d_undone_2 d_kept_2 m_undos_2 m_images_2 m_hasHouse_2 mw2 → LR xtpd_2 tpf_2 yhnf_2 yhtn_2 yhtf_2 yhjn_2 yhjf_2 yhmn_2 yhmf_2 yhbn_2 yhbf_2 yhsn_2 yhsf_2 yhcn_2 yhcf_2 zrn_2 zmn_2 zwn_2 zpn_2 zmd_2 ztr_2 zrf_2 zmf_2 zwf_2 zpf_2 kac_2 knx_2 kim_2 cf_2 m_taped_2 d_tape_2 d_r_2 d_st_2 d_undone_2 d_kept_2 m_undos_2 m_images_2 m_hasHouse_2 → Wk p l e room_1 s m #[Value.ref b] below meth c (lw_Z below #[Value.ref b] s) A g 7 n1 n2 (xw2 ++ (mw2 ++ [(cAJ g lo 1 fo)])) [(4, .int u4), (3, .ref lo), (2, .ref mo), (1, .ref h0), (0, .ref b)] 2062 []) : Wk p l e room_1 s m #[Value.ref b] below meth c (lw_Z below #[Value.ref b] s) A g 7 n1 n2 (xw ++ (mw ++ [(cAJ g lo 1 fo)])) [(4, .int u4), (3, .ref lo), (2, .ref mo), (1, .ref h0), (0, .ref b)] 845 [] := by
  have hiv : IV u4 0 3066 := ⟨hi.1, by omega⟩
  refine k_aload_n X dL_law_k34.1.1.1.1 3 rfl ?_
  refine k_aload_n X dL_law_k34.1.1.1.2 4 rfl ?_
  refine k_iload X dL_law_k34.1.1.2.1 0 rfl ?_
  refine k_iconst (v := 1) X dL_law_k34.1.1.2.2 ic_1 ?_
  refine k_iadd X dL_law_k34.1.2.1.1 ?_
  refine k_nm (fun z_1 ez_1 => ?_)
  have i_2 : z_1.toInt = u4.toInt + 1 := in_add ez_1 hiv iq_1_1_1 (zle_e rfl) (zle_e rfl)
  have iv_3 : IV z_1 1 3067 := by have := hiv; have := iq_1_1_1; rw [IV, i_2]; omega
  refine k_sld X hX hbl hbA dL_law_k34.1.2.1.2 (by rw [vp_in_iff]; have := iv_3; omega) ?_
  refine k_nm (fun a_4 ea_4 => ?_)
  refine lx_worst (st := []) a_4 X hx dL_law_k34.1.2.2.1 mw925 (Nat.le_of_ble_eq_true rfl) (Nat.le_of_ble_eq_true rfl) (Nat.le_of_ble_eq_true rfl) (Nat.le_trans h1 (Nat.le_of_ble_eq_true rfl)) (Nat.le_trans h2 (Nat.le_of_ble_eq_true rfl)) (fun r_5 xw_6 hx_7 => ?_)
  refine k_pop X dL_law_k34.1.2.2.2 rfl ?_
  refine k_aload_n X dL_law_k34.2.1.1.1 2 rfl ?_
  refine k_aload_n X dL_law_k34.2.1.1.2 4 rfl ?_
  refine k_iload X dL_law_k34.2.1.2.1 0 rfl ?_
  refine k_iconst (v := 1) X dL_law_k34.2.1.2.2 ic_1 ?_
  refine k_iadd X dL_law_k34.2.2.1.1 ?_
  refine k_to z_1 ez_1.symm ?_
  refine k_sld X hX hbl hbA dL_law_k34.2.2.1.2 (by rw [vp_in_iff]; have := iv_3; omega) ?_
  refine k_to a_4 ea_4.symm ?_
  refine lm_worst (st := []) a_4 X hm dL_law_k34.2.2.2.1 mw933 (Nat.le_of_ble_eq_true rfl) (Nat.le_of_ble_eq_true rfl) (Nat.le_of_ble_eq_true rfl) (Nat.le_trans h1 (Nat.le_of_ble_eq_true rfl)) (Nat.le_trans h2 (Nat.le_of_ble_eq_true rfl)) (fun r_8 mw_9 hm_10 => ?_)
  refine k_pop X dL_law_k34.2.2.2.2 rfl ?_
  refine k_goto 2062 X dL_law_k35 (jp_e rfl) ?_
  exact kk _ _ _ _ _ _ _ _ _ _ _ _ _ _ _ _ _ _ _ _ _ _ _ _ _ _ _ _ _ _ _ _ _ _ _ _ _ _ _ _ hx_7 hm_10 hR

theorem dL_law_k36 : ((((dD cL_law 870 (.aload_n 1) 1 ∧ dD cL_law 871 (.aload_n 0) 1) ∧ (dD cL_law 872 (.iload 4) 2 ∧ dD cL_law 874 (.iconst 1) 1)) ∧ ((dD cL_law 875 .iadd 1 ∧ dD cL_law 876 .iaload 1) ∧ (dD cL_law 877 (.aload_n 0) 1 ∧ dD cL_law 878 (.iload 4) 2))) ∧ (((dD cL_law 880 (.iconst 2) 1 ∧ dD cL_law 881 .iadd 1) ∧ (dD cL_law 882 .iaload 1 ∧ dD cL_law 883 (.invokevirtual 94) 3)) ∧ ((dD cL_law 886 .pop 1 ∧ dD cL_law 887 (.aload_n 2) 1) ∧ (dD cL_law 888 (.aload_n 0) 1 ∧ dD cL_law 889 (.iload 4) 2)))) := dkA16 (by decide +kernel)
theorem dL_law_k37 : (((dD cL_law 891 (.iconst 1) 1 ∧ dD cL_law 892 .iadd 1) ∧ (dD cL_law 893 .iaload 1 ∧ (dD cL_law 894 (.aload_n 0) 1 ∧ dD cL_law 895 (.iload 4) 2))) ∧ ((dD cL_law 897 (.iconst 2) 1 ∧ (dD cL_law 898 .iadd 1 ∧ dD cL_law 899 .iaload 1)) ∧ (dD cL_law 900 (.invokevirtual 97) 3 ∧ (dD cL_law 903 .pop 1 ∧ dD cL_law 904 (.goto 1158) 3)))) := dkA11 (by decide +kernel)
set_option maxHeartbeats 4000000 in
set_option maxRecDepth 100000 in
theorem law_c18 {p : Program} {l : Launch} {e : Env} {s : State} {m : MethodId} {below : List Frame} {meth : Method} {c : Code} {A : Nat → Prop} {g : Gx} {b L : Nat} {xs : Nat → Int32} {h0 mo lo n1 n2 : Nat} {fo : Nat → Int64} {u4 : Int32} {xtpd : Int32} {tpf : Nat → Int32} {yhnf : Nat → Int32} {yhtn : Int32} {yhtf : Nat → Int32} {yhjn : Int32} {yhjf : Nat → Int32} {yhmn : Int32} {yhmf : Nat → Int32} {yhbn : Int32} {yhbf : Nat → Int32} {yhsn : Int32} {yhsf : Nat → Int32} {yhcn : Int32} {yhcf : Nat → Int32} {zrn : Int32} {zmn : Int32} {zwn : Int32} {zpn : Int32} {zmd : Int32} {ztr : Int32} {zrf : Nat → Int32} {zmf : Nat → Int32} {zwf : Nat → Int32} {zpf : Nat → Int32} {kac : Int32} {knx : Int32} {kim : Int32} {cf : Nat → SC} {m_taped : Int32} {d_tape : Nat → Int32} {d_r : Nat → Int32} {d_st : Nat → Int32} {d_undone : Nat → Int32} {d_kept : Nat → Int32} {m_undos : Int32} {m_images : Int32} {m_hasHouse : Int32} {xw mw : va_W} (X : Cx p s m meth c #[Value.ref b] cL_law 7 RL A g) (hX : va_X b L xs s s.heap) (hbl : b < s.heap.size) (hbA : ¬ A b) (hi : 0 ≤ u4.toInt ∧ u4.toInt + 6 ≤ (L : Int)) (hL : L ≤ 3072) (h1 : n1 ≤ 601023) (h2 : n2 ≤ 7293028) (hlt : l.stackTraces = false) (hZ : kZ A s s.heap) (htsE : ∀ w ∈ wsE, w.before #[Value.ref b] s = true) (hx : XW g h0 xtpd tpf yhnf yhtn yhtf yhjn yhjf yhmn yhmf yhbn yhbf yhsn yhsf yhcn yhcf zrn zmn zwn zpn zmd ztr zrf zmf zwf zpf kac knx kim cf xw) (hm : MW g mo m_taped d_tape d_r d_st d_undone d_kept m_undos m_images m_hasHouse mw) (hR : LR xtpd tpf yhnf yhtn yhtf yhjn yhjf yhmn yhmf yhbn yhbf yhsn yhsf yhcn yhcf zrn zmn zwn zpn zmd ztr zrf zmf zwf zpf kac knx kim cf m_taped d_tape d_r d_st d_undone d_kept m_undos m_images m_hasHouse) (kk : ∀ (xtpd_2 : Int32) (tpf_2 : Nat → Int32) (yhnf_2 : Nat → Int32) (yhtn_2 : Int32) (yhtf_2 : Nat → Int32) (yhjn_2 : Int32) (yhjf_2 : Nat → Int32) (yhmn_2 : Int32) (yhmf_2 : Nat → Int32) (yhbn_2 : Int32) (yhbf_2 : Nat → Int32) (yhsn_2 : Int32) (yhsf_2 : Nat → Int32) (yhcn_2 : Int32) (yhcf_2 : Nat → Int32) (zrn_2 : Int32) (zmn_2 : Int32) (zwn_2 : Int32) (zpn_2 : Int32) (zmd_2 : Int32) (ztr_2 : Int32) (zrf_2 : Nat → Int32) (zmf_2 : Nat → Int32) (zwf_2 : Nat → Int32) (zpf_2 : Nat → Int32) (kac_2 : Int32) (knx_2 : Int32) (kim_2 : Int32) (cf_2 : Nat → SC) (m_taped_2 : Int32) (d_tape_2 : Nat → Int32) (d_r_2 : Nat → Int32) (d_st_2 : Nat → Int32) (d_undone_2 : Nat → Int32) (d_kept_2 : Nat → Int32) (m_undos_2 : Int32) (m_images_2 : Int32) (m_hasHouse_2 : Int32) (xw2 mw2 : va_W), XW g h0 xtpd_2 tpf_2 yhnf_2 yhtn_2 yhtf_2 yhjn_2 yhjf_2 yhmn_2 yhmf_2 yhbn_2 yhbf_2 yhsn_2 yhsf_2 yhcn_2 yhcf_2 zrn_2 zmn_2 zwn_2 zpn_2 zmd_2 ztr_2 zrf_2 zmf_2 zwf_2 zpf_2 kac_2 knx_2 kim_2 cf_2 xw2 → MW g mo m_taped_2 d_tape_2 d_r_2 d_st_2 d_undone_2 d_kept_2 m_undos_2 m_images_2 m_hasHouse_2 mw2 → LR xtpd_2 tpf_2 yhnf_2 yhtn_2 yhtf_2 yhjn_2 yhjf_2 yhmn_2 yhmf_2 yhbn_2 yhbf_2 yhsn_2 yhsf_2 yhcn_2 yhcf_2 zrn_2 zmn_2 zwn_2 zpn_2 zmd_2 ztr_2 zrf_2 zmf_2 zwf_2 zpf_2 kac_2 knx_2 kim_2 cf_2 m_taped_2 d_tape_2 d_r_2 d_st_2 d_undone_2 d_kept_2 m_undos_2 m_images_2 m_hasHouse_2 → Wk p l e room_1 s m #[Value.ref b] below meth c (lw_Z below #[Value.ref b] s) A g 7 n1 n2 (xw2 ++ (mw2 ++ [(cAJ g lo 1 fo)])) [(4, .int u4), (3, .ref lo), (2, .ref mo), (1, .ref h0), (0, .ref b)] 2062 []) : Wk p l e room_1 s m #[Value.ref b] below meth c (lw_Z below #[Value.ref b] s) A g 7 n1 n2 (xw ++ (mw ++ [(cAJ g lo 1 fo)])) [(4, .int u4), (3, .ref lo), (2, .ref mo), (1, .ref h0), (0, .ref b)] 870 [] := by
  have hiv : IV u4 0 3066 := ⟨hi.1, by omega⟩
  refine k_aload_n X dL_law_k36.1.1.1.1 3 rfl ?_
  refine k_aload_n X dL_law_k36.1.1.1.2 4 rfl ?_
  refine k_iload X dL_law_k36.1.1.2.1 0 rfl ?_
  refine k_iconst (v := 1) X dL_law_k36.1.1.2.2 ic_1 ?_
  refine k_iadd X dL_law_k36.1.2.1.1 ?_
  refine k_nm (fun z_1 ez_1 => ?_)
  have i_2 : z_1.toInt = u4.toInt + 1 := in_add ez_1 hiv iq_1_1_1 (zle_e rfl) (zle_e rfl)
  have iv_3 : IV z_1 1 3067 := by have := hiv; have := iq_1_1_1; rw [IV, i_2]; omega
  refine k_sld X hX hbl hbA dL_law_k36.1.2.1.2 (by rw [vp_in_iff]; have := iv_3; omega) ?_
  refine k_nm (fun a_4 ea_4 => ?_)
  refine k_aload_n X dL_law_k36.1.2.2.1 4 rfl ?_
  refine k_iload X dL_law_k36.1.2.2.2 0 rfl ?_
  refine k_iconst (v := 2) X dL_law_k36.2.1.1.1 ic_2 ?_
  refine k_iadd X dL_law_k36.2.1.1.2 ?_
  refine k_nm (fun z_5 ez_5 => ?_)
  have i_6 : z_5.toInt = u4.toInt + 2 := in_add ez_5 hiv iq_2_2_2 (zle_e rfl) (zle_e rfl)
  have iv_7 : IV z_5 2 3068 := by have := hiv; have := iq_2_2_2; rw [IV, i_6]; omega
  refine k_sld X hX hbl hbA dL_law_k36.2.1.2.1 (by rw [vp_in_iff]; have := iv_7; omega) ?_
  refine k_nm (fun a_8 ea_8 => ?_)
  refine lx_exact (st := []) a_4 a_8 X hx dL_law_k36.2.1.2.2 mw937 (Nat.le_of_ble_eq_true rfl) (Nat.le_of_ble_eq_true rfl) (Nat.le_of_ble_eq_true rfl) (Nat.le_trans h1 (Nat.le_of_ble_eq_true rfl)) (Nat.le_trans h2 (Nat.le_of_ble_eq_true rfl)) (fun r_9 xw_10 hx_11 => ?_)
  refine k_pop X dL_law_k36.2.2.1.1 rfl ?_
  refine k_aload_n X dL_law_k36.2.2.1.2 2 rfl ?_
  refine k_aload_n X dL_law_k36.2.2.2.1 4 rfl ?_
  refine k_iload X dL_law_k36.2.2.2.2 0 rfl ?_
  refine k_iconst (v := 1) X dL_law_k37.1.1.1 ic_1 ?_
  refine k_iadd X dL_law_k37.1.1.2 ?_
  refine k_to z_1 ez_1.symm ?_
  refine k_sld X hX hbl hbA dL_law_k37.1.2.1 (by rw [vp_in_iff]; have := iv_3; omega) ?_
  refine k_to a_4 ea_4.symm ?_
  refine k_aload_n X dL_law_k37.1.2.2.1 4 rfl ?_
  refine k_iload X dL_law_k37.1.2.2.2 0 rfl ?_
  refine k_iconst (v := 2) X dL_law_k37.2.1.1 ic_2 ?_
  refine k_iadd X dL_law_k37.2.1.2.1 ?_
  refine k_to z_5 ez_5.symm ?_
  refine k_sld X hX hbl hbA dL_law_k37.2.1.2.2 (by rw [vp_in_iff]; have := iv_7; omega) ?_
  refine k_to a_8 ea_8.symm ?_
  refine lm_exact (st := []) a_4 a_8 X hm dL_law_k37.2.2.1 mw945 (Nat.le_of_ble_eq_true rfl) (Nat.le_of_ble_eq_true rfl) (Nat.le_of_ble_eq_true rfl) (Nat.le_trans h1 (Nat.le_of_ble_eq_true rfl)) (Nat.le_trans h2 (Nat.le_of_ble_eq_true rfl)) (fun r_12 mw_13 hm_14 => ?_)
  refine k_pop X dL_law_k37.2.2.2.1 rfl ?_
  refine k_goto 2062 X dL_law_k37.2.2.2.2 (jp_e rfl) ?_
  exact kk _ _ _ _ _ _ _ _ _ _ _ _ _ _ _ _ _ _ _ _ _ _ _ _ _ _ _ _ _ _ _ _ _ _ _ _ _ _ _ _ hx_11 hm_14 hR

theorem dL_law_k38 : ((((dD cL_law 907 (.aload_n 1) 1 ∧ dD cL_law 908 (.aload_n 0) 1) ∧ (dD cL_law 909 (.iload 4) 2 ∧ dD cL_law 911 (.iconst 1) 1)) ∧ ((dD cL_law 912 .iadd 1 ∧ dD cL_law 913 .iaload 1) ∧ (dD cL_law 914 (.invokevirtual 98) 3 ∧ dD cL_law 917 .pop 1))) ∧ (((dD cL_law 918 (.aload_n 2) 1 ∧ dD cL_law 919 (.aload_n 0) 1) ∧ (dD cL_law 920 (.iload 4) 2 ∧ dD cL_law 922 (.iconst 1) 1)) ∧ ((dD cL_law 923 .iadd 1 ∧ dD cL_law 924 .iaload 1) ∧ (dD cL_law 925 (.invokevirtual 101) 3 ∧ dD cL_law 928 .pop 1)))) := dkA16 (by decide +kernel)
theorem dL_law_k39 : dD cL_law 929 (.goto 1133) 3 := dkA1 (by decide +kernel)
set_option maxHeartbeats 4000000 in
set_option maxRecDepth 100000 in
theorem law_c19 {p : Program} {l : Launch} {e : Env} {s : State} {m : MethodId} {below : List Frame} {meth : Method} {c : Code} {A : Nat → Prop} {g : Gx} {b L : Nat} {xs : Nat → Int32} {h0 mo lo n1 n2 : Nat} {fo : Nat → Int64} {u4 : Int32} {xtpd : Int32} {tpf : Nat → Int32} {yhnf : Nat → Int32} {yhtn : Int32} {yhtf : Nat → Int32} {yhjn : Int32} {yhjf : Nat → Int32} {yhmn : Int32} {yhmf : Nat → Int32} {yhbn : Int32} {yhbf : Nat → Int32} {yhsn : Int32} {yhsf : Nat → Int32} {yhcn : Int32} {yhcf : Nat → Int32} {zrn : Int32} {zmn : Int32} {zwn : Int32} {zpn : Int32} {zmd : Int32} {ztr : Int32} {zrf : Nat → Int32} {zmf : Nat → Int32} {zwf : Nat → Int32} {zpf : Nat → Int32} {kac : Int32} {knx : Int32} {kim : Int32} {cf : Nat → SC} {m_taped : Int32} {d_tape : Nat → Int32} {d_r : Nat → Int32} {d_st : Nat → Int32} {d_undone : Nat → Int32} {d_kept : Nat → Int32} {m_undos : Int32} {m_images : Int32} {m_hasHouse : Int32} {xw mw : va_W} (X : Cx p s m meth c #[Value.ref b] cL_law 7 RL A g) (hX : va_X b L xs s s.heap) (hbl : b < s.heap.size) (hbA : ¬ A b) (hi : 0 ≤ u4.toInt ∧ u4.toInt + 6 ≤ (L : Int)) (hL : L ≤ 3072) (h1 : n1 ≤ 601023) (h2 : n2 ≤ 7293028) (hlt : l.stackTraces = false) (hZ : kZ A s s.heap) (htsE : ∀ w ∈ wsE, w.before #[Value.ref b] s = true) (hx : XW g h0 xtpd tpf yhnf yhtn yhtf yhjn yhjf yhmn yhmf yhbn yhbf yhsn yhsf yhcn yhcf zrn zmn zwn zpn zmd ztr zrf zmf zwf zpf kac knx kim cf xw) (hm : MW g mo m_taped d_tape d_r d_st d_undone d_kept m_undos m_images m_hasHouse mw) (hR : LR xtpd tpf yhnf yhtn yhtf yhjn yhjf yhmn yhmf yhbn yhbf yhsn yhsf yhcn yhcf zrn zmn zwn zpn zmd ztr zrf zmf zwf zpf kac knx kim cf m_taped d_tape d_r d_st d_undone d_kept m_undos m_images m_hasHouse) (kk : ∀ (xtpd_2 : Int32) (tpf_2 : Nat → Int32) (yhnf_2 : Nat → Int32) (yhtn_2 : Int32) (yhtf_2 : Nat → Int32) (yhjn_2 : Int32) (yhjf_2 : Nat → Int32) (yhmn_2 : Int32) (yhmf_2 : Nat → Int32) (yhbn_2 : Int32) (yhbf_2 : Nat → Int32) (yhsn_2 : Int32) (yhsf_2 : Nat → Int32) (yhcn_2 : Int32) (yhcf_2 : Nat → Int32) (zrn_2 : Int32) (zmn_2 : Int32) (zwn_2 : Int32) (zpn_2 : Int32) (zmd_2 : Int32) (ztr_2 : Int32) (zrf_2 : Nat → Int32) (zmf_2 : Nat → Int32) (zwf_2 : Nat → Int32) (zpf_2 : Nat → Int32) (kac_2 : Int32) (knx_2 : Int32) (kim_2 : Int32) (cf_2 : Nat → SC) (m_taped_2 : Int32) (d_tape_2 : Nat → Int32) (d_r_2 : Nat → Int32) (d_st_2 : Nat → Int32) (d_undone_2 : Nat → Int32) (d_kept_2 : Nat → Int32) (m_undos_2 : Int32) (m_images_2 : Int32) (m_hasHouse_2 : Int32) (xw2 mw2 : va_W), XW g h0 xtpd_2 tpf_2 yhnf_2 yhtn_2 yhtf_2 yhjn_2 yhjf_2 yhmn_2 yhmf_2 yhbn_2 yhbf_2 yhsn_2 yhsf_2 yhcn_2 yhcf_2 zrn_2 zmn_2 zwn_2 zpn_2 zmd_2 ztr_2 zrf_2 zmf_2 zwf_2 zpf_2 kac_2 knx_2 kim_2 cf_2 xw2 → MW g mo m_taped_2 d_tape_2 d_r_2 d_st_2 d_undone_2 d_kept_2 m_undos_2 m_images_2 m_hasHouse_2 mw2 → LR xtpd_2 tpf_2 yhnf_2 yhtn_2 yhtf_2 yhjn_2 yhjf_2 yhmn_2 yhmf_2 yhbn_2 yhbf_2 yhsn_2 yhsf_2 yhcn_2 yhcf_2 zrn_2 zmn_2 zwn_2 zpn_2 zmd_2 ztr_2 zrf_2 zmf_2 zwf_2 zpf_2 kac_2 knx_2 kim_2 cf_2 m_taped_2 d_tape_2 d_r_2 d_st_2 d_undone_2 d_kept_2 m_undos_2 m_images_2 m_hasHouse_2 → Wk p l e room_1 s m #[Value.ref b] below meth c (lw_Z below #[Value.ref b] s) A g 7 n1 n2 (xw2 ++ (mw2 ++ [(cAJ g lo 1 fo)])) [(4, .int u4), (3, .ref lo), (2, .ref mo), (1, .ref h0), (0, .ref b)] 2062 []) : Wk p l e room_1 s m #[Value.ref b] below meth c (lw_Z below #[Value.ref b] s) A g 7 n1 n2 (xw ++ (mw ++ [(cAJ g lo 1 fo)])) [(4, .int u4), (3, .ref lo), (2, .ref mo), (1, .ref h0), (0, .ref b)] 907 [] := by
  have hiv : IV u4 0 3066 := ⟨hi.1, by omega⟩
  refine k_aload_n X dL_law_k38.1.1.1.1 3 rfl ?_
  refine k_aload_n X dL_law_k38.1.1.1.2 4 rfl ?_
  refine k_iload X dL_law_k38.1.1.2.1 0 rfl ?_
  refine k_iconst (v := 1) X dL_law_k38.1.1.2.2 ic_1 ?_
  refine k_iadd X dL_law_k38.1.2.1.1 ?_
  refine k_nm (fun z_1 ez_1 => ?_)
  have i_2 : z_1.toInt = u4.toInt + 1 := in_add ez_1 hiv iq_1_1_1 (zle_e rfl) (zle_e rfl)
  have iv_3 : IV z_1 1 3067 := by have := hiv; have := iq_1_1_1; rw [IV, i_2]; omega
  refine k_sld X hX hbl hbA dL_law_k38.1.2.1.2 (by rw [vp_in_iff]; have := iv_3; omega) ?_
  refine k_nm (fun a_4 ea_4 => ?_)
  refine lx_signs (st := []) a_4 X hx dL_law_k38.1.2.2.1 mw949 (Nat.le_of_ble_eq_true rfl) (Nat.le_of_ble_eq_true rfl) (Nat.le_of_ble_eq_true rfl) (Nat.le_trans h1 (Nat.le_of_ble_eq_true rfl)) (Nat.le_trans h2 (Nat.le_of_ble_eq_true rfl)) (fun r_5 xw_6 hx_7 => ?_)
  refine k_pop X dL_law_k38.1.2.2.2 rfl ?_
  refine k_aload_n X dL_law_k38.2.1.1.1 2 rfl ?_
  refine k_aload_n X dL_law_k38.2.1.1.2 4 rfl ?_
  refine k_iload X dL_law_k38.2.1.2.1 0 rfl ?_
  refine k_iconst (v := 1) X dL_law_k38.2.1.2.2 ic_1 ?_
  refine k_iadd X dL_law_k38.2.2.1.1 ?_
  refine k_to z_1 ez_1.symm ?_
  refine k_sld X hX hbl hbA dL_law_k38.2.2.1.2 (by rw [vp_in_iff]; have := iv_3; omega) ?_
  refine k_to a_4 ea_4.symm ?_
  refine lm_signs (st := []) a_4 X hm dL_law_k38.2.2.2.1 mw958 (Nat.le_of_ble_eq_true rfl) (Nat.le_of_ble_eq_true rfl) (Nat.le_of_ble_eq_true rfl) (Nat.le_trans h1 (Nat.le_of_ble_eq_true rfl)) (Nat.le_trans h2 (Nat.le_of_ble_eq_true rfl)) (fun r_8 mw_9 hm_10 => ?_)
  refine k_pop X dL_law_k38.2.2.2.2 rfl ?_
  refine k_goto 2062 X dL_law_k39 (jp_e rfl) ?_
  exact kk _ _ _ _ _ _ _ _ _ _ _ _ _ _ _ _ _ _ _ _ _ _ _ _ _ _ _ _ _ _ _ _ _ _ _ _ _ _ _ _ hx_7 hm_10 hR

theorem dL_law_k40 : ((dD cL_law 932 (.aload_n 1) 1 ∧ (dD cL_law 933 (.invokevirtual 102) 3 ∧ dD cL_law 936 .pop 1)) ∧ ((dD cL_law 937 (.aload_n 2) 1 ∧ dD cL_law 938 (.invokevirtual 105) 3) ∧ (dD cL_law 941 .pop 1 ∧ dD cL_law 942 (.goto 1120) 3))) := dkA7 (by decide +kernel)
set_option maxHeartbeats 4000000 in
set_option maxRecDepth 100000 in
theorem law_c20 {p : Program} {l : Launch} {e : Env} {s : State} {m : MethodId} {below : List Frame} {meth : Method} {c : Code} {A : Nat → Prop} {g : Gx} {b L : Nat} {xs : Nat → Int32} {h0 mo lo n1 n2 : Nat} {fo : Nat → Int64} {u4 : Int32} {xtpd : Int32} {tpf : Nat → Int32} {yhnf : Nat → Int32} {yhtn : Int32} {yhtf : Nat → Int32} {yhjn : Int32} {yhjf : Nat → Int32} {yhmn : Int32} {yhmf : Nat → Int32} {yhbn : Int32} {yhbf : Nat → Int32} {yhsn : Int32} {yhsf : Nat → Int32} {yhcn : Int32} {yhcf : Nat → Int32} {zrn : Int32} {zmn : Int32} {zwn : Int32} {zpn : Int32} {zmd : Int32} {ztr : Int32} {zrf : Nat → Int32} {zmf : Nat → Int32} {zwf : Nat → Int32} {zpf : Nat → Int32} {kac : Int32} {knx : Int32} {kim : Int32} {cf : Nat → SC} {m_taped : Int32} {d_tape : Nat → Int32} {d_r : Nat → Int32} {d_st : Nat → Int32} {d_undone : Nat → Int32} {d_kept : Nat → Int32} {m_undos : Int32} {m_images : Int32} {m_hasHouse : Int32} {xw mw : va_W} (X : Cx p s m meth c #[Value.ref b] cL_law 7 RL A g) (hX : va_X b L xs s s.heap) (hbl : b < s.heap.size) (hbA : ¬ A b) (hi : 0 ≤ u4.toInt ∧ u4.toInt + 6 ≤ (L : Int)) (hL : L ≤ 3072) (h1 : n1 ≤ 601023) (h2 : n2 ≤ 7293028) (hlt : l.stackTraces = false) (hZ : kZ A s s.heap) (htsE : ∀ w ∈ wsE, w.before #[Value.ref b] s = true) (hx : XW g h0 xtpd tpf yhnf yhtn yhtf yhjn yhjf yhmn yhmf yhbn yhbf yhsn yhsf yhcn yhcf zrn zmn zwn zpn zmd ztr zrf zmf zwf zpf kac knx kim cf xw) (hm : MW g mo m_taped d_tape d_r d_st d_undone d_kept m_undos m_images m_hasHouse mw) (hR : LR xtpd tpf yhnf yhtn yhtf yhjn yhjf yhmn yhmf yhbn yhbf yhsn yhsf yhcn yhcf zrn zmn zwn zpn zmd ztr zrf zmf zwf zpf kac knx kim cf m_taped d_tape d_r d_st d_undone d_kept m_undos m_images m_hasHouse) (kk : ∀ (xtpd_2 : Int32) (tpf_2 : Nat → Int32) (yhnf_2 : Nat → Int32) (yhtn_2 : Int32) (yhtf_2 : Nat → Int32) (yhjn_2 : Int32) (yhjf_2 : Nat → Int32) (yhmn_2 : Int32) (yhmf_2 : Nat → Int32) (yhbn_2 : Int32) (yhbf_2 : Nat → Int32) (yhsn_2 : Int32) (yhsf_2 : Nat → Int32) (yhcn_2 : Int32) (yhcf_2 : Nat → Int32) (zrn_2 : Int32) (zmn_2 : Int32) (zwn_2 : Int32) (zpn_2 : Int32) (zmd_2 : Int32) (ztr_2 : Int32) (zrf_2 : Nat → Int32) (zmf_2 : Nat → Int32) (zwf_2 : Nat → Int32) (zpf_2 : Nat → Int32) (kac_2 : Int32) (knx_2 : Int32) (kim_2 : Int32) (cf_2 : Nat → SC) (m_taped_2 : Int32) (d_tape_2 : Nat → Int32) (d_r_2 : Nat → Int32) (d_st_2 : Nat → Int32) (d_undone_2 : Nat → Int32) (d_kept_2 : Nat → Int32) (m_undos_2 : Int32) (m_images_2 : Int32) (m_hasHouse_2 : Int32) (xw2 mw2 : va_W), XW g h0 xtpd_2 tpf_2 yhnf_2 yhtn_2 yhtf_2 yhjn_2 yhjf_2 yhmn_2 yhmf_2 yhbn_2 yhbf_2 yhsn_2 yhsf_2 yhcn_2 yhcf_2 zrn_2 zmn_2 zwn_2 zpn_2 zmd_2 ztr_2 zrf_2 zmf_2 zwf_2 zpf_2 kac_2 knx_2 kim_2 cf_2 xw2 → MW g mo m_taped_2 d_tape_2 d_r_2 d_st_2 d_undone_2 d_kept_2 m_undos_2 m_images_2 m_hasHouse_2 mw2 → LR xtpd_2 tpf_2 yhnf_2 yhtn_2 yhtf_2 yhjn_2 yhjf_2 yhmn_2 yhmf_2 yhbn_2 yhbf_2 yhsn_2 yhsf_2 yhcn_2 yhcf_2 zrn_2 zmn_2 zwn_2 zpn_2 zmd_2 ztr_2 zrf_2 zmf_2 zwf_2 zpf_2 kac_2 knx_2 kim_2 cf_2 m_taped_2 d_tape_2 d_r_2 d_st_2 d_undone_2 d_kept_2 m_undos_2 m_images_2 m_hasHouse_2 → Wk p l e room_1 s m #[Value.ref b] below meth c (lw_Z below #[Value.ref b] s) A g 7 n1 n2 (xw2 ++ (mw2 ++ [(cAJ g lo 1 fo)])) [(4, .int u4), (3, .ref lo), (2, .ref mo), (1, .ref h0), (0, .ref b)] 2062 []) : Wk p l e room_1 s m #[Value.ref b] below meth c (lw_Z below #[Value.ref b] s) A g 7 n1 n2 (xw ++ (mw ++ [(cAJ g lo 1 fo)])) [(4, .int u4), (3, .ref lo), (2, .ref mo), (1, .ref h0), (0, .ref b)] 932 [] := by
  have hiv : IV u4 0 3066 := ⟨hi.1, by omega⟩
  refine k_aload_n X dL_law_k40.1.1 3 rfl ?_
  refine lx_fits (st := []) () X hx dL_law_k40.1.2.1 mw966 (Nat.le_of_ble_eq_true rfl) (Nat.le_of_ble_eq_true rfl) (Nat.le_of_ble_eq_true rfl) (Nat.le_trans h1 (Nat.le_of_ble_eq_true rfl)) (Nat.le_trans h2 (Nat.le_of_ble_eq_true rfl)) (fun r_1 xw_2 hx_3 => ?_)
  refine k_pop X dL_law_k40.1.2.2 rfl ?_
  refine k_aload_n X dL_law_k40.2.1.1 2 rfl ?_
  refine lm_fits (st := []) () X hm dL_law_k40.2.1.2 mw975 (Nat.le_of_ble_eq_true rfl) (Nat.le_of_ble_eq_true rfl) (Nat.le_of_ble_eq_true rfl) (Nat.le_trans h1 (Nat.le_of_ble_eq_true rfl)) (Nat.le_trans h2 (Nat.le_of_ble_eq_true rfl)) (fun r_4 mw_5 hm_6 => ?_)
  refine k_pop X dL_law_k40.2.2.1 rfl ?_
  refine k_goto 2062 X dL_law_k40.2.2.2 (jp_e rfl) ?_
  exact kk _ _ _ _ _ _ _ _ _ _ _ _ _ _ _ _ _ _ _ _ _ _ _ _ _ _ _ _ _ _ _ _ _ _ _ _ _ _ _ _ hx_3 hm_6 hR

theorem dL_law_k41 : ((((dD cL_law 945 (.aload_n 1) 1 ∧ dD cL_law 946 (.aload_n 0) 1) ∧ (dD cL_law 947 (.iload 4) 2 ∧ dD cL_law 949 (.iconst 1) 1)) ∧ ((dD cL_law 950 .iadd 1 ∧ dD cL_law 951 .iaload 1) ∧ (dD cL_law 952 (.invokevirtual 106) 3 ∧ dD cL_law 955 .pop 1))) ∧ (((dD cL_law 956 (.aload_n 2) 1 ∧ dD cL_law 957 (.aload_n 0) 1) ∧ (dD cL_law 958 (.iload 4) 2 ∧ dD cL_law 960 (.iconst 1) 1)) ∧ ((dD cL_law 961 .iadd 1 ∧ dD cL_law 962 .iaload 1) ∧ (dD cL_law 963 (.invokevirtual 109) 3 ∧ dD cL_law 966 .pop 1)))) := dkA16 (by decide +kernel)
theorem dL_law_k42 : dD cL_law 967 (.goto 1095) 3 := dkA1 (by decide +kernel)
set_option maxHeartbeats 4000000 in
set_option maxRecDepth 100000 in
theorem law_c21 {p : Program} {l : Launch} {e : Env} {s : State} {m : MethodId} {below : List Frame} {meth : Method} {c : Code} {A : Nat → Prop} {g : Gx} {b L : Nat} {xs : Nat → Int32} {h0 mo lo n1 n2 : Nat} {fo : Nat → Int64} {u4 : Int32} {xtpd : Int32} {tpf : Nat → Int32} {yhnf : Nat → Int32} {yhtn : Int32} {yhtf : Nat → Int32} {yhjn : Int32} {yhjf : Nat → Int32} {yhmn : Int32} {yhmf : Nat → Int32} {yhbn : Int32} {yhbf : Nat → Int32} {yhsn : Int32} {yhsf : Nat → Int32} {yhcn : Int32} {yhcf : Nat → Int32} {zrn : Int32} {zmn : Int32} {zwn : Int32} {zpn : Int32} {zmd : Int32} {ztr : Int32} {zrf : Nat → Int32} {zmf : Nat → Int32} {zwf : Nat → Int32} {zpf : Nat → Int32} {kac : Int32} {knx : Int32} {kim : Int32} {cf : Nat → SC} {m_taped : Int32} {d_tape : Nat → Int32} {d_r : Nat → Int32} {d_st : Nat → Int32} {d_undone : Nat → Int32} {d_kept : Nat → Int32} {m_undos : Int32} {m_images : Int32} {m_hasHouse : Int32} {xw mw : va_W} (X : Cx p s m meth c #[Value.ref b] cL_law 7 RL A g) (hX : va_X b L xs s s.heap) (hbl : b < s.heap.size) (hbA : ¬ A b) (hi : 0 ≤ u4.toInt ∧ u4.toInt + 6 ≤ (L : Int)) (hL : L ≤ 3072) (h1 : n1 ≤ 601023) (h2 : n2 ≤ 7293028) (hlt : l.stackTraces = false) (hZ : kZ A s s.heap) (htsE : ∀ w ∈ wsE, w.before #[Value.ref b] s = true) (hx : XW g h0 xtpd tpf yhnf yhtn yhtf yhjn yhjf yhmn yhmf yhbn yhbf yhsn yhsf yhcn yhcf zrn zmn zwn zpn zmd ztr zrf zmf zwf zpf kac knx kim cf xw) (hm : MW g mo m_taped d_tape d_r d_st d_undone d_kept m_undos m_images m_hasHouse mw) (hR : LR xtpd tpf yhnf yhtn yhtf yhjn yhjf yhmn yhmf yhbn yhbf yhsn yhsf yhcn yhcf zrn zmn zwn zpn zmd ztr zrf zmf zwf zpf kac knx kim cf m_taped d_tape d_r d_st d_undone d_kept m_undos m_images m_hasHouse) (kk : ∀ (xtpd_2 : Int32) (tpf_2 : Nat → Int32) (yhnf_2 : Nat → Int32) (yhtn_2 : Int32) (yhtf_2 : Nat → Int32) (yhjn_2 : Int32) (yhjf_2 : Nat → Int32) (yhmn_2 : Int32) (yhmf_2 : Nat → Int32) (yhbn_2 : Int32) (yhbf_2 : Nat → Int32) (yhsn_2 : Int32) (yhsf_2 : Nat → Int32) (yhcn_2 : Int32) (yhcf_2 : Nat → Int32) (zrn_2 : Int32) (zmn_2 : Int32) (zwn_2 : Int32) (zpn_2 : Int32) (zmd_2 : Int32) (ztr_2 : Int32) (zrf_2 : Nat → Int32) (zmf_2 : Nat → Int32) (zwf_2 : Nat → Int32) (zpf_2 : Nat → Int32) (kac_2 : Int32) (knx_2 : Int32) (kim_2 : Int32) (cf_2 : Nat → SC) (m_taped_2 : Int32) (d_tape_2 : Nat → Int32) (d_r_2 : Nat → Int32) (d_st_2 : Nat → Int32) (d_undone_2 : Nat → Int32) (d_kept_2 : Nat → Int32) (m_undos_2 : Int32) (m_images_2 : Int32) (m_hasHouse_2 : Int32) (xw2 mw2 : va_W), XW g h0 xtpd_2 tpf_2 yhnf_2 yhtn_2 yhtf_2 yhjn_2 yhjf_2 yhmn_2 yhmf_2 yhbn_2 yhbf_2 yhsn_2 yhsf_2 yhcn_2 yhcf_2 zrn_2 zmn_2 zwn_2 zpn_2 zmd_2 ztr_2 zrf_2 zmf_2 zwf_2 zpf_2 kac_2 knx_2 kim_2 cf_2 xw2 → MW g mo m_taped_2 d_tape_2 d_r_2 d_st_2 d_undone_2 d_kept_2 m_undos_2 m_images_2 m_hasHouse_2 mw2 → LR xtpd_2 tpf_2 yhnf_2 yhtn_2 yhtf_2 yhjn_2 yhjf_2 yhmn_2 yhmf_2 yhbn_2 yhbf_2 yhsn_2 yhsf_2 yhcn_2 yhcf_2 zrn_2 zmn_2 zwn_2 zpn_2 zmd_2 ztr_2 zrf_2 zmf_2 zwf_2 zpf_2 kac_2 knx_2 kim_2 cf_2 m_taped_2 d_tape_2 d_r_2 d_st_2 d_undone_2 d_kept_2 m_undos_2 m_images_2 m_hasHouse_2 → Wk p l e room_1 s m #[Value.ref b] below meth c (lw_Z below #[Value.ref b] s) A g 7 n1 n2 (xw2 ++ (mw2 ++ [(cAJ g lo 1 fo)])) [(4, .int u4), (3, .ref lo), (2, .ref mo), (1, .ref h0), (0, .ref b)] 2062 []) : Wk p l e room_1 s m #[Value.ref b] below meth c (lw_Z below #[Value.ref b] s) A g 7 n1 n2 (xw ++ (mw ++ [(cAJ g lo 1 fo)])) [(4, .int u4), (3, .ref lo), (2, .ref mo), (1, .ref h0), (0, .ref b)] 945 [] := by
  have hiv : IV u4 0 3066 := ⟨hi.1, by omega⟩
  refine k_aload_n X dL_law_k41.1.1.1.1 3 rfl ?_
  refine k_aload_n X dL_law_k41.1.1.1.2 4 rfl ?_
  refine k_iload X dL_law_k41.1.1.2.1 0 rfl ?_
  refine k_iconst (v := 1) X dL_law_k41.1.1.2.2 ic_1 ?_
  refine k_iadd X dL_law_k41.1.2.1.1 ?_
  refine k_nm (fun z_1 ez_1 => ?_)
  have i_2 : z_1.toInt = u4.toInt + 1 := in_add ez_1 hiv iq_1_1_1 (zle_e rfl) (zle_e rfl)
  have iv_3 : IV z_1 1 3067 := by have := hiv; have := iq_1_1_1; rw [IV, i_2]; omega
  refine k_sld X hX hbl hbA dL_law_k41.1.2.1.2 (by rw [vp_in_iff]; have := iv_3; omega) ?_
  refine k_nm (fun a_4 ea_4 => ?_)
  refine lx_bestSlip (st := []) a_4 X hx dL_law_k41.1.2.2.1 mw979 (Nat.le_of_ble_eq_true rfl) (Nat.le_of_ble_eq_true rfl) (Nat.le_of_ble_eq_true rfl) (Nat.le_trans h1 (Nat.le_of_ble_eq_true rfl)) (Nat.le_trans h2 (Nat.le_of_ble_eq_true rfl)) (fun r_5 xw_6 hx_7 => ?_)
  refine k_pop X dL_law_k41.1.2.2.2 rfl ?_
  refine k_aload_n X dL_law_k41.2.1.1.1 2 rfl ?_
  refine k_aload_n X dL_law_k41.2.1.1.2 4 rfl ?_
  refine k_iload X dL_law_k41.2.1.2.1 0 rfl ?_
  refine k_iconst (v := 1) X dL_law_k41.2.1.2.2 ic_1 ?_
  refine k_iadd X dL_law_k41.2.2.1.1 ?_
  refine k_to z_1 ez_1.symm ?_
  refine k_sld X hX hbl hbA dL_law_k41.2.2.1.2 (by rw [vp_in_iff]; have := iv_3; omega) ?_
  refine k_to a_4 ea_4.symm ?_
  refine lm_bestSlip (st := []) a_4 X hm dL_law_k41.2.2.2.1 mw993 (Nat.le_of_ble_eq_true rfl) (Nat.le_of_ble_eq_true rfl) (Nat.le_of_ble_eq_true rfl) (Nat.le_trans h1 (Nat.le_of_ble_eq_true rfl)) (Nat.le_trans h2 (Nat.le_of_ble_eq_true rfl)) (fun r_8 mw_9 hm_10 => ?_)
  refine k_pop X dL_law_k41.2.2.2.2 rfl ?_
  refine k_goto 2062 X dL_law_k42 (jp_e rfl) ?_
  exact kk _ _ _ _ _ _ _ _ _ _ _ _ _ _ _ _ _ _ _ _ _ _ _ _ _ _ _ _ _ _ _ _ _ _ _ _ _ _ _ _ hx_7 hm_10 hR

theorem dL_law_k43 : ((((dD cL_law 970 (.aload_n 1) 1 ∧ dD cL_law 971 (.aload_n 0) 1) ∧ (dD cL_law 972 (.iload 4) 2 ∧ dD cL_law 974 (.iconst 1) 1)) ∧ ((dD cL_law 975 .iadd 1 ∧ dD cL_law 976 .iaload 1) ∧ (dD cL_law 977 (.invokevirtual 110) 3 ∧ dD cL_law 980 .pop 1))) ∧ (((dD cL_law 981 (.aload_n 2) 1 ∧ dD cL_law 982 (.aload_n 0) 1) ∧ (dD cL_law 983 (.iload 4) 2 ∧ dD cL_law 985 (.iconst 1) 1)) ∧ ((dD cL_law 986 .iadd 1 ∧ dD cL_law 987 .iaload 1) ∧ (dD cL_law 988 (.invokevirtual 113) 3 ∧ dD cL_law 991 .pop 1)))) := dkA16 (by decide +kernel)
theorem dL_law_k44 : dD cL_law 992 (.goto 1070) 3 := dkA1 (by decide +kernel)
set_option maxHeartbeats 4000000 in
set_option maxRecDepth 100000 in
theorem law_c22 {p : Program} {l : Launch} {e : Env} {s : State} {m : MethodId} {below : List Frame} {meth : Method} {c : Code} {A : Nat → Prop} {g : Gx} {b L : Nat} {xs : Nat → Int32} {h0 mo lo n1 n2 : Nat} {fo : Nat → Int64} {u4 : Int32} {xtpd : Int32} {tpf : Nat → Int32} {yhnf : Nat → Int32} {yhtn : Int32} {yhtf : Nat → Int32} {yhjn : Int32} {yhjf : Nat → Int32} {yhmn : Int32} {yhmf : Nat → Int32} {yhbn : Int32} {yhbf : Nat → Int32} {yhsn : Int32} {yhsf : Nat → Int32} {yhcn : Int32} {yhcf : Nat → Int32} {zrn : Int32} {zmn : Int32} {zwn : Int32} {zpn : Int32} {zmd : Int32} {ztr : Int32} {zrf : Nat → Int32} {zmf : Nat → Int32} {zwf : Nat → Int32} {zpf : Nat → Int32} {kac : Int32} {knx : Int32} {kim : Int32} {cf : Nat → SC} {m_taped : Int32} {d_tape : Nat → Int32} {d_r : Nat → Int32} {d_st : Nat → Int32} {d_undone : Nat → Int32} {d_kept : Nat → Int32} {m_undos : Int32} {m_images : Int32} {m_hasHouse : Int32} {xw mw : va_W} (X : Cx p s m meth c #[Value.ref b] cL_law 7 RL A g) (hX : va_X b L xs s s.heap) (hbl : b < s.heap.size) (hbA : ¬ A b) (hi : 0 ≤ u4.toInt ∧ u4.toInt + 6 ≤ (L : Int)) (hL : L ≤ 3072) (h1 : n1 ≤ 601023) (h2 : n2 ≤ 7293028) (hlt : l.stackTraces = false) (hZ : kZ A s s.heap) (htsE : ∀ w ∈ wsE, w.before #[Value.ref b] s = true) (hx : XW g h0 xtpd tpf yhnf yhtn yhtf yhjn yhjf yhmn yhmf yhbn yhbf yhsn yhsf yhcn yhcf zrn zmn zwn zpn zmd ztr zrf zmf zwf zpf kac knx kim cf xw) (hm : MW g mo m_taped d_tape d_r d_st d_undone d_kept m_undos m_images m_hasHouse mw) (hR : LR xtpd tpf yhnf yhtn yhtf yhjn yhjf yhmn yhmf yhbn yhbf yhsn yhsf yhcn yhcf zrn zmn zwn zpn zmd ztr zrf zmf zwf zpf kac knx kim cf m_taped d_tape d_r d_st d_undone d_kept m_undos m_images m_hasHouse) (kk : ∀ (xtpd_2 : Int32) (tpf_2 : Nat → Int32) (yhnf_2 : Nat → Int32) (yhtn_2 : Int32) (yhtf_2 : Nat → Int32) (yhjn_2 : Int32) (yhjf_2 : Nat → Int32) (yhmn_2 : Int32) (yhmf_2 : Nat → Int32) (yhbn_2 : Int32) (yhbf_2 : Nat → Int32) (yhsn_2 : Int32) (yhsf_2 : Nat → Int32) (yhcn_2 : Int32) (yhcf_2 : Nat → Int32) (zrn_2 : Int32) (zmn_2 : Int32) (zwn_2 : Int32) (zpn_2 : Int32) (zmd_2 : Int32) (ztr_2 : Int32) (zrf_2 : Nat → Int32) (zmf_2 : Nat → Int32) (zwf_2 : Nat → Int32) (zpf_2 : Nat → Int32) (kac_2 : Int32) (knx_2 : Int32) (kim_2 : Int32) (cf_2 : Nat → SC) (m_taped_2 : Int32) (d_tape_2 : Nat → Int32) (d_r_2 : Nat → Int32) (d_st_2 : Nat → Int32) (d_undone_2 : Nat → Int32) (d_kept_2 : Nat → Int32) (m_undos_2 : Int32) (m_images_2 : Int32) (m_hasHouse_2 : Int32) (xw2 mw2 : va_W), XW g h0 xtpd_2 tpf_2 yhnf_2 yhtn_2 yhtf_2 yhjn_2 yhjf_2 yhmn_2 yhmf_2 yhbn_2 yhbf_2 yhsn_2 yhsf_2 yhcn_2 yhcf_2 zrn_2 zmn_2 zwn_2 zpn_2 zmd_2 ztr_2 zrf_2 zmf_2 zwf_2 zpf_2 kac_2 knx_2 kim_2 cf_2 xw2 → MW g mo m_taped_2 d_tape_2 d_r_2 d_st_2 d_undone_2 d_kept_2 m_undos_2 m_images_2 m_hasHouse_2 mw2 → LR xtpd_2 tpf_2 yhnf_2 yhtn_2 yhtf_2 yhjn_2 yhjf_2 yhmn_2 yhmf_2 yhbn_2 yhbf_2 yhsn_2 yhsf_2 yhcn_2 yhcf_2 zrn_2 zmn_2 zwn_2 zpn_2 zmd_2 ztr_2 zrf_2 zmf_2 zwf_2 zpf_2 kac_2 knx_2 kim_2 cf_2 m_taped_2 d_tape_2 d_r_2 d_st_2 d_undone_2 d_kept_2 m_undos_2 m_images_2 m_hasHouse_2 → Wk p l e room_1 s m #[Value.ref b] below meth c (lw_Z below #[Value.ref b] s) A g 7 n1 n2 (xw2 ++ (mw2 ++ [(cAJ g lo 1 fo)])) [(4, .int u4), (3, .ref lo), (2, .ref mo), (1, .ref h0), (0, .ref b)] 2062 []) : Wk p l e room_1 s m #[Value.ref b] below meth c (lw_Z below #[Value.ref b] s) A g 7 n1 n2 (xw ++ (mw ++ [(cAJ g lo 1 fo)])) [(4, .int u4), (3, .ref lo), (2, .ref mo), (1, .ref h0), (0, .ref b)] 970 [] := by
  have hiv : IV u4 0 3066 := ⟨hi.1, by omega⟩
  refine k_aload_n X dL_law_k43.1.1.1.1 3 rfl ?_
  refine k_aload_n X dL_law_k43.1.1.1.2 4 rfl ?_
  refine k_iload X dL_law_k43.1.1.2.1 0 rfl ?_
  refine k_iconst (v := 1) X dL_law_k43.1.1.2.2 ic_1 ?_
  refine k_iadd X dL_law_k43.1.2.1.1 ?_
  refine k_nm (fun z_1 ez_1 => ?_)
  have i_2 : z_1.toInt = u4.toInt + 1 := in_add ez_1 hiv iq_1_1_1 (zle_e rfl) (zle_e rfl)
  have iv_3 : IV z_1 1 3067 := by have := hiv; have := iq_1_1_1; rw [IV, i_2]; omega
  refine k_sld X hX hbl hbA dL_law_k43.1.2.1.2 (by rw [vp_in_iff]; have := iv_3; omega) ?_
  refine k_nm (fun a_4 ea_4 => ?_)
  refine lx_bySlip (st := []) a_4 X hx dL_law_k43.1.2.2.1 mw1002 (Nat.le_of_ble_eq_true rfl) (Nat.le_of_ble_eq_true rfl) (Nat.le_of_ble_eq_true rfl) (Nat.le_trans h1 (Nat.le_of_ble_eq_true rfl)) (Nat.le_trans h2 (Nat.le_of_ble_eq_true rfl)) (fun r_5 xw_6 hx_7 => ?_)
  refine k_pop X dL_law_k43.1.2.2.2 rfl ?_
  refine k_aload_n X dL_law_k43.2.1.1.1 2 rfl ?_
  refine k_aload_n X dL_law_k43.2.1.1.2 4 rfl ?_
  refine k_iload X dL_law_k43.2.1.2.1 0 rfl ?_
  refine k_iconst (v := 1) X dL_law_k43.2.1.2.2 ic_1 ?_
  refine k_iadd X dL_law_k43.2.2.1.1 ?_
  refine k_to z_1 ez_1.symm ?_
  refine k_sld X hX hbl hbA dL_law_k43.2.2.1.2 (by rw [vp_in_iff]; have := iv_3; omega) ?_
  refine k_to a_4 ea_4.symm ?_
  refine lm_bySlip (st := []) a_4 X hm dL_law_k43.2.2.2.1 mw1006 (Nat.le_of_ble_eq_true rfl) (Nat.le_of_ble_eq_true rfl) (Nat.le_of_ble_eq_true rfl) (Nat.le_trans h1 (Nat.le_of_ble_eq_true rfl)) (Nat.le_trans h2 (Nat.le_of_ble_eq_true rfl)) (fun r_8 mw_9 hm_10 => ?_)
  refine k_pop X dL_law_k43.2.2.2.2 rfl ?_
  refine k_goto 2062 X dL_law_k44 (jp_e rfl) ?_
  exact kk _ _ _ _ _ _ _ _ _ _ _ _ _ _ _ _ _ _ _ _ _ _ _ _ _ _ _ _ _ _ _ _ _ _ _ _ _ _ _ _ hx_7 hm_10 hR

theorem dL_law_k45 : ((((dD cL_law 995 (.aload_n 1) 1 ∧ dD cL_law 996 (.aload_n 0) 1) ∧ (dD cL_law 997 (.iload 4) 2 ∧ dD cL_law 999 (.iconst 1) 1)) ∧ ((dD cL_law 1000 .iadd 1 ∧ dD cL_law 1001 .iaload 1) ∧ (dD cL_law 1002 (.aload_n 0) 1 ∧ dD cL_law 1003 (.iload 4) 2))) ∧ (((dD cL_law 1005 (.iconst 2) 1 ∧ dD cL_law 1006 .iadd 1) ∧ (dD cL_law 1007 .iaload 1 ∧ dD cL_law 1008 (.invokevirtual 114) 3)) ∧ ((dD cL_law 1011 .pop 1 ∧ dD cL_law 1012 (.aload_n 2) 1) ∧ (dD cL_law 1013 (.aload_n 0) 1 ∧ dD cL_law 1014 (.iload 4) 2)))) := dkA16 (by decide +kernel)
theorem dL_law_k46 : (((dD cL_law 1016 (.iconst 1) 1 ∧ dD cL_law 1017 .iadd 1) ∧ (dD cL_law 1018 .iaload 1 ∧ (dD cL_law 1019 (.aload_n 0) 1 ∧ dD cL_law 1020 (.iload 4) 2))) ∧ ((dD cL_law 1022 (.iconst 2) 1 ∧ (dD cL_law 1023 .iadd 1 ∧ dD cL_law 1024 .iaload 1)) ∧ (dD cL_law 1025 (.invokevirtual 117) 3 ∧ (dD cL_law 1028 .pop 1 ∧ dD cL_law 1029 (.goto 1033) 3)))) := dkA11 (by decide +kernel)
set_option maxHeartbeats 4000000 in
set_option maxRecDepth 100000 in
theorem law_c23 {p : Program} {l : Launch} {e : Env} {s : State} {m : MethodId} {below : List Frame} {meth : Method} {c : Code} {A : Nat → Prop} {g : Gx} {b L : Nat} {xs : Nat → Int32} {h0 mo lo n1 n2 : Nat} {fo : Nat → Int64} {u4 : Int32} {xtpd : Int32} {tpf : Nat → Int32} {yhnf : Nat → Int32} {yhtn : Int32} {yhtf : Nat → Int32} {yhjn : Int32} {yhjf : Nat → Int32} {yhmn : Int32} {yhmf : Nat → Int32} {yhbn : Int32} {yhbf : Nat → Int32} {yhsn : Int32} {yhsf : Nat → Int32} {yhcn : Int32} {yhcf : Nat → Int32} {zrn : Int32} {zmn : Int32} {zwn : Int32} {zpn : Int32} {zmd : Int32} {ztr : Int32} {zrf : Nat → Int32} {zmf : Nat → Int32} {zwf : Nat → Int32} {zpf : Nat → Int32} {kac : Int32} {knx : Int32} {kim : Int32} {cf : Nat → SC} {m_taped : Int32} {d_tape : Nat → Int32} {d_r : Nat → Int32} {d_st : Nat → Int32} {d_undone : Nat → Int32} {d_kept : Nat → Int32} {m_undos : Int32} {m_images : Int32} {m_hasHouse : Int32} {xw mw : va_W} (X : Cx p s m meth c #[Value.ref b] cL_law 7 RL A g) (hX : va_X b L xs s s.heap) (hbl : b < s.heap.size) (hbA : ¬ A b) (hi : 0 ≤ u4.toInt ∧ u4.toInt + 6 ≤ (L : Int)) (hL : L ≤ 3072) (h1 : n1 ≤ 601023) (h2 : n2 ≤ 7293028) (hlt : l.stackTraces = false) (hZ : kZ A s s.heap) (htsE : ∀ w ∈ wsE, w.before #[Value.ref b] s = true) (hx : XW g h0 xtpd tpf yhnf yhtn yhtf yhjn yhjf yhmn yhmf yhbn yhbf yhsn yhsf yhcn yhcf zrn zmn zwn zpn zmd ztr zrf zmf zwf zpf kac knx kim cf xw) (hm : MW g mo m_taped d_tape d_r d_st d_undone d_kept m_undos m_images m_hasHouse mw) (hR : LR xtpd tpf yhnf yhtn yhtf yhjn yhjf yhmn yhmf yhbn yhbf yhsn yhsf yhcn yhcf zrn zmn zwn zpn zmd ztr zrf zmf zwf zpf kac knx kim cf m_taped d_tape d_r d_st d_undone d_kept m_undos m_images m_hasHouse) (kk : ∀ (xtpd_2 : Int32) (tpf_2 : Nat → Int32) (yhnf_2 : Nat → Int32) (yhtn_2 : Int32) (yhtf_2 : Nat → Int32) (yhjn_2 : Int32) (yhjf_2 : Nat → Int32) (yhmn_2 : Int32) (yhmf_2 : Nat → Int32) (yhbn_2 : Int32) (yhbf_2 : Nat → Int32) (yhsn_2 : Int32) (yhsf_2 : Nat → Int32) (yhcn_2 : Int32) (yhcf_2 : Nat → Int32) (zrn_2 : Int32) (zmn_2 : Int32) (zwn_2 : Int32) (zpn_2 : Int32) (zmd_2 : Int32) (ztr_2 : Int32) (zrf_2 : Nat → Int32) (zmf_2 : Nat → Int32) (zwf_2 : Nat → Int32) (zpf_2 : Nat → Int32) (kac_2 : Int32) (knx_2 : Int32) (kim_2 : Int32) (cf_2 : Nat → SC) (m_taped_2 : Int32) (d_tape_2 : Nat → Int32) (d_r_2 : Nat → Int32) (d_st_2 : Nat → Int32) (d_undone_2 : Nat → Int32) (d_kept_2 : Nat → Int32) (m_undos_2 : Int32) (m_images_2 : Int32) (m_hasHouse_2 : Int32) (xw2 mw2 : va_W), XW g h0 xtpd_2 tpf_2 yhnf_2 yhtn_2 yhtf_2 yhjn_2 yhjf_2 yhmn_2 yhmf_2 yhbn_2 yhbf_2 yhsn_2 yhsf_2 yhcn_2 yhcf_2 zrn_2 zmn_2 zwn_2 zpn_2 zmd_2 ztr_2 zrf_2 zmf_2 zwf_2 zpf_2 kac_2 knx_2 kim_2 cf_2 xw2 → MW g mo m_taped_2 d_tape_2 d_r_2 d_st_2 d_undone_2 d_kept_2 m_undos_2 m_images_2 m_hasHouse_2 mw2 → LR xtpd_2 tpf_2 yhnf_2 yhtn_2 yhtf_2 yhjn_2 yhjf_2 yhmn_2 yhmf_2 yhbn_2 yhbf_2 yhsn_2 yhsf_2 yhcn_2 yhcf_2 zrn_2 zmn_2 zwn_2 zpn_2 zmd_2 ztr_2 zrf_2 zmf_2 zwf_2 zpf_2 kac_2 knx_2 kim_2 cf_2 m_taped_2 d_tape_2 d_r_2 d_st_2 d_undone_2 d_kept_2 m_undos_2 m_images_2 m_hasHouse_2 → Wk p l e room_1 s m #[Value.ref b] below meth c (lw_Z below #[Value.ref b] s) A g 7 n1 n2 (xw2 ++ (mw2 ++ [(cAJ g lo 1 fo)])) [(4, .int u4), (3, .ref lo), (2, .ref mo), (1, .ref h0), (0, .ref b)] 2062 []) : Wk p l e room_1 s m #[Value.ref b] below meth c (lw_Z below #[Value.ref b] s) A g 7 n1 n2 (xw ++ (mw ++ [(cAJ g lo 1 fo)])) [(4, .int u4), (3, .ref lo), (2, .ref mo), (1, .ref h0), (0, .ref b)] 995 [] := by
  have hiv : IV u4 0 3066 := ⟨hi.1, by omega⟩
  refine k_aload_n X dL_law_k45.1.1.1.1 3 rfl ?_
  refine k_aload_n X dL_law_k45.1.1.1.2 4 rfl ?_
  refine k_iload X dL_law_k45.1.1.2.1 0 rfl ?_
  refine k_iconst (v := 1) X dL_law_k45.1.1.2.2 ic_1 ?_
  refine k_iadd X dL_law_k45.1.2.1.1 ?_
  refine k_nm (fun z_1 ez_1 => ?_)
  have i_2 : z_1.toInt = u4.toInt + 1 := in_add ez_1 hiv iq_1_1_1 (zle_e rfl) (zle_e rfl)
  have iv_3 : IV z_1 1 3067 := by have := hiv; have := iq_1_1_1; rw [IV, i_2]; omega
  refine k_sld X hX hbl hbA dL_law_k45.1.2.1.2 (by rw [vp_in_iff]; have := iv_3; omega) ?_
  refine k_nm (fun a_4 ea_4 => ?_)
  refine k_aload_n X dL_law_k45.1.2.2.1 4 rfl ?_
  refine k_iload X dL_law_k45.1.2.2.2 0 rfl ?_
  refine k_iconst (v := 2) X dL_law_k45.2.1.1.1 ic_2 ?_
  refine k_iadd X dL_law_k45.2.1.1.2 ?_
  refine k_nm (fun z_5 ez_5 => ?_)
  have i_6 : z_5.toInt = u4.toInt + 2 := in_add ez_5 hiv iq_2_2_2 (zle_e rfl) (zle_e rfl)
  have iv_7 : IV z_5 2 3068 := by have := hiv; have := iq_2_2_2; rw [IV, i_6]; omega
  refine k_sld X hX hbl hbA dL_law_k45.2.1.2.1 (by rw [vp_in_iff]; have := iv_7; omega) ?_
  refine k_nm (fun a_8 ea_8 => ?_)
  refine lx_needs (st := []) a_4 a_8 X hx dL_law_k45.2.1.2.2 mw1010 (Nat.le_of_ble_eq_true rfl) (Nat.le_of_ble_eq_true rfl) (Nat.le_of_ble_eq_true rfl) (Nat.le_trans h1 (Nat.le_of_ble_eq_true rfl)) (Nat.le_trans h2 (Nat.le_of_ble_eq_true rfl)) (fun r_9 xw_10 hx_11 => ?_)
  refine k_pop X dL_law_k45.2.2.1.1 rfl ?_
  refine k_aload_n X dL_law_k45.2.2.1.2 2 rfl ?_
  refine k_aload_n X dL_law_k45.2.2.2.1 4 rfl ?_
  refine k_iload X dL_law_k45.2.2.2.2 0 rfl ?_
  refine k_iconst (v := 1) X dL_law_k46.1.1.1 ic_1 ?_
  refine k_iadd X dL_law_k46.1.1.2 ?_
  refine k_to z_1 ez_1.symm ?_
  refine k_sld X hX hbl hbA dL_law_k46.1.2.1 (by rw [vp_in_iff]; have := iv_3; omega) ?_
  refine k_to a_4 ea_4.symm ?_
  refine k_aload_n X dL_law_k46.1.2.2.1 4 rfl ?_
  refine k_iload X dL_law_k46.1.2.2.2 0 rfl ?_
  refine k_iconst (v := 2) X dL_law_k46.2.1.1 ic_2 ?_
  refine k_iadd X dL_law_k46.2.1.2.1 ?_
  refine k_to z_5 ez_5.symm ?_
  refine k_sld X hX hbl hbA dL_law_k46.2.1.2.2 (by rw [vp_in_iff]; have := iv_7; omega) ?_
  refine k_to a_8 ea_8.symm ?_
  refine lm_needs (st := []) a_4 a_8 X hm dL_law_k46.2.2.1 mw1018 (Nat.le_of_ble_eq_true rfl) (Nat.le_of_ble_eq_true rfl) (Nat.le_of_ble_eq_true rfl) (Nat.le_trans h1 (Nat.le_of_ble_eq_true rfl)) (Nat.le_trans h2 (Nat.le_of_ble_eq_true rfl)) (fun r_12 mw_13 hm_14 => ?_)
  refine k_pop X dL_law_k46.2.2.2.1 rfl ?_
  refine k_goto 2062 X dL_law_k46.2.2.2.2 (jp_e rfl) ?_
  exact kk _ _ _ _ _ _ _ _ _ _ _ _ _ _ _ _ _ _ _ _ _ _ _ _ _ _ _ _ _ _ _ _ _ _ _ _ _ _ _ _ hx_11 hm_14 hR

theorem dL_law_k47 : ((((dD cL_law 1032 (.aload_n 1) 1 ∧ dD cL_law 1033 (.aload_n 0) 1) ∧ (dD cL_law 1034 (.iload 4) 2 ∧ dD cL_law 1036 (.iconst 1) 1)) ∧ ((dD cL_law 1037 .iadd 1 ∧ dD cL_law 1038 .iaload 1) ∧ (dD cL_law 1039 (.aload_n 0) 1 ∧ dD cL_law 1040 (.iload 4) 2))) ∧ (((dD cL_law 1042 (.iconst 2) 1 ∧ dD cL_law 1043 .iadd 1) ∧ (dD cL_law 1044 .iaload 1 ∧ dD cL_law 1045 (.invokevirtual 118) 3)) ∧ ((dD cL_law 1048 .pop 1 ∧ dD cL_law 1049 (.aload_n 2) 1) ∧ (dD cL_law 1050 (.aload_n 0) 1 ∧ dD cL_law 1051 (.iload 4) 2)))) := dkA16 (by decide +kernel)
theorem dL_law_k48 : (((dD cL_law 1053 (.iconst 1) 1 ∧ dD cL_law 1054 .iadd 1) ∧ (dD cL_law 1055 .iaload 1 ∧ (dD cL_law 1056 (.aload_n 0) 1 ∧ dD cL_law 1057 (.iload 4) 2))) ∧ ((dD cL_law 1059 (.iconst 2) 1 ∧ (dD cL_law 1060 .iadd 1 ∧ dD cL_law 1061 .iaload 1)) ∧ (dD cL_law 1062 (.invokevirtual 121) 3 ∧ (dD cL_law 1065 .pop 1 ∧ dD cL_law 1066 (.goto 996) 3)))) := dkA11 (by decide +kernel)
set_option maxHeartbeats 4000000 in
set_option maxRecDepth 100000 in
theorem law_c24 {p : Program} {l : Launch} {e : Env} {s : State} {m : MethodId} {below : List Frame} {meth : Method} {c : Code} {A : Nat → Prop} {g : Gx} {b L : Nat} {xs : Nat → Int32} {h0 mo lo n1 n2 : Nat} {fo : Nat → Int64} {u4 : Int32} {xtpd : Int32} {tpf : Nat → Int32} {yhnf : Nat → Int32} {yhtn : Int32} {yhtf : Nat → Int32} {yhjn : Int32} {yhjf : Nat → Int32} {yhmn : Int32} {yhmf : Nat → Int32} {yhbn : Int32} {yhbf : Nat → Int32} {yhsn : Int32} {yhsf : Nat → Int32} {yhcn : Int32} {yhcf : Nat → Int32} {zrn : Int32} {zmn : Int32} {zwn : Int32} {zpn : Int32} {zmd : Int32} {ztr : Int32} {zrf : Nat → Int32} {zmf : Nat → Int32} {zwf : Nat → Int32} {zpf : Nat → Int32} {kac : Int32} {knx : Int32} {kim : Int32} {cf : Nat → SC} {m_taped : Int32} {d_tape : Nat → Int32} {d_r : Nat → Int32} {d_st : Nat → Int32} {d_undone : Nat → Int32} {d_kept : Nat → Int32} {m_undos : Int32} {m_images : Int32} {m_hasHouse : Int32} {xw mw : va_W} (X : Cx p s m meth c #[Value.ref b] cL_law 7 RL A g) (hX : va_X b L xs s s.heap) (hbl : b < s.heap.size) (hbA : ¬ A b) (hi : 0 ≤ u4.toInt ∧ u4.toInt + 6 ≤ (L : Int)) (hL : L ≤ 3072) (h1 : n1 ≤ 601023) (h2 : n2 ≤ 7293028) (hlt : l.stackTraces = false) (hZ : kZ A s s.heap) (htsE : ∀ w ∈ wsE, w.before #[Value.ref b] s = true) (hx : XW g h0 xtpd tpf yhnf yhtn yhtf yhjn yhjf yhmn yhmf yhbn yhbf yhsn yhsf yhcn yhcf zrn zmn zwn zpn zmd ztr zrf zmf zwf zpf kac knx kim cf xw) (hm : MW g mo m_taped d_tape d_r d_st d_undone d_kept m_undos m_images m_hasHouse mw) (hR : LR xtpd tpf yhnf yhtn yhtf yhjn yhjf yhmn yhmf yhbn yhbf yhsn yhsf yhcn yhcf zrn zmn zwn zpn zmd ztr zrf zmf zwf zpf kac knx kim cf m_taped d_tape d_r d_st d_undone d_kept m_undos m_images m_hasHouse) (kk : ∀ (xtpd_2 : Int32) (tpf_2 : Nat → Int32) (yhnf_2 : Nat → Int32) (yhtn_2 : Int32) (yhtf_2 : Nat → Int32) (yhjn_2 : Int32) (yhjf_2 : Nat → Int32) (yhmn_2 : Int32) (yhmf_2 : Nat → Int32) (yhbn_2 : Int32) (yhbf_2 : Nat → Int32) (yhsn_2 : Int32) (yhsf_2 : Nat → Int32) (yhcn_2 : Int32) (yhcf_2 : Nat → Int32) (zrn_2 : Int32) (zmn_2 : Int32) (zwn_2 : Int32) (zpn_2 : Int32) (zmd_2 : Int32) (ztr_2 : Int32) (zrf_2 : Nat → Int32) (zmf_2 : Nat → Int32) (zwf_2 : Nat → Int32) (zpf_2 : Nat → Int32) (kac_2 : Int32) (knx_2 : Int32) (kim_2 : Int32) (cf_2 : Nat → SC) (m_taped_2 : Int32) (d_tape_2 : Nat → Int32) (d_r_2 : Nat → Int32) (d_st_2 : Nat → Int32) (d_undone_2 : Nat → Int32) (d_kept_2 : Nat → Int32) (m_undos_2 : Int32) (m_images_2 : Int32) (m_hasHouse_2 : Int32) (xw2 mw2 : va_W), XW g h0 xtpd_2 tpf_2 yhnf_2 yhtn_2 yhtf_2 yhjn_2 yhjf_2 yhmn_2 yhmf_2 yhbn_2 yhbf_2 yhsn_2 yhsf_2 yhcn_2 yhcf_2 zrn_2 zmn_2 zwn_2 zpn_2 zmd_2 ztr_2 zrf_2 zmf_2 zwf_2 zpf_2 kac_2 knx_2 kim_2 cf_2 xw2 → MW g mo m_taped_2 d_tape_2 d_r_2 d_st_2 d_undone_2 d_kept_2 m_undos_2 m_images_2 m_hasHouse_2 mw2 → LR xtpd_2 tpf_2 yhnf_2 yhtn_2 yhtf_2 yhjn_2 yhjf_2 yhmn_2 yhmf_2 yhbn_2 yhbf_2 yhsn_2 yhsf_2 yhcn_2 yhcf_2 zrn_2 zmn_2 zwn_2 zpn_2 zmd_2 ztr_2 zrf_2 zmf_2 zwf_2 zpf_2 kac_2 knx_2 kim_2 cf_2 m_taped_2 d_tape_2 d_r_2 d_st_2 d_undone_2 d_kept_2 m_undos_2 m_images_2 m_hasHouse_2 → Wk p l e room_1 s m #[Value.ref b] below meth c (lw_Z below #[Value.ref b] s) A g 7 n1 n2 (xw2 ++ (mw2 ++ [(cAJ g lo 1 fo)])) [(4, .int u4), (3, .ref lo), (2, .ref mo), (1, .ref h0), (0, .ref b)] 2062 []) : Wk p l e room_1 s m #[Value.ref b] below meth c (lw_Z below #[Value.ref b] s) A g 7 n1 n2 (xw ++ (mw ++ [(cAJ g lo 1 fo)])) [(4, .int u4), (3, .ref lo), (2, .ref mo), (1, .ref h0), (0, .ref b)] 1032 [] := by
  have hiv : IV u4 0 3066 := ⟨hi.1, by omega⟩
  refine k_aload_n X dL_law_k47.1.1.1.1 3 rfl ?_
  refine k_aload_n X dL_law_k47.1.1.1.2 4 rfl ?_
  refine k_iload X dL_law_k47.1.1.2.1 0 rfl ?_
  refine k_iconst (v := 1) X dL_law_k47.1.1.2.2 ic_1 ?_
  refine k_iadd X dL_law_k47.1.2.1.1 ?_
  refine k_nm (fun z_1 ez_1 => ?_)
  have i_2 : z_1.toInt = u4.toInt + 1 := in_add ez_1 hiv iq_1_1_1 (zle_e rfl) (zle_e rfl)
  have iv_3 : IV z_1 1 3067 := by have := hiv; have := iq_1_1_1; rw [IV, i_2]; omega
  refine k_sld X hX hbl hbA dL_law_k47.1.2.1.2 (by rw [vp_in_iff]; have := iv_3; omega) ?_
  refine k_nm (fun a_4 ea_4 => ?_)
  refine k_aload_n X dL_law_k47.1.2.2.1 4 rfl ?_
  refine k_iload X dL_law_k47.1.2.2.2 0 rfl ?_
  refine k_iconst (v := 2) X dL_law_k47.2.1.1.1 ic_2 ?_
  refine k_iadd X dL_law_k47.2.1.1.2 ?_
  refine k_nm (fun z_5 ez_5 => ?_)
  have i_6 : z_5.toInt = u4.toInt + 2 := in_add ez_5 hiv iq_2_2_2 (zle_e rfl) (zle_e rfl)
  have iv_7 : IV z_5 2 3068 := by have := hiv; have := iq_2_2_2; rw [IV, i_6]; omega
  refine k_sld X hX hbl hbA dL_law_k47.2.1.2.1 (by rw [vp_in_iff]; have := iv_7; omega) ?_
  refine k_nm (fun a_8 ea_8 => ?_)
  refine lx_dies (st := []) a_4 a_8 X hx dL_law_k47.2.1.2.2 mw1026 (Nat.le_of_ble_eq_true rfl) (Nat.le_of_ble_eq_true rfl) (Nat.le_of_ble_eq_true rfl) (Nat.le_trans h1 (Nat.le_of_ble_eq_true rfl)) (Nat.le_trans h2 (Nat.le_of_ble_eq_true rfl)) (fun r_9 xw_10 hx_11 => ?_)
  refine k_pop X dL_law_k47.2.2.1.1 rfl ?_
  refine k_aload_n X dL_law_k47.2.2.1.2 2 rfl ?_
  refine k_aload_n X dL_law_k47.2.2.2.1 4 rfl ?_
  refine k_iload X dL_law_k47.2.2.2.2 0 rfl ?_
  refine k_iconst (v := 1) X dL_law_k48.1.1.1 ic_1 ?_
  refine k_iadd X dL_law_k48.1.1.2 ?_
  refine k_to z_1 ez_1.symm ?_
  refine k_sld X hX hbl hbA dL_law_k48.1.2.1 (by rw [vp_in_iff]; have := iv_3; omega) ?_
  refine k_to a_4 ea_4.symm ?_
  refine k_aload_n X dL_law_k48.1.2.2.1 4 rfl ?_
  refine k_iload X dL_law_k48.1.2.2.2 0 rfl ?_
  refine k_iconst (v := 2) X dL_law_k48.2.1.1 ic_2 ?_
  refine k_iadd X dL_law_k48.2.1.2.1 ?_
  refine k_to z_5 ez_5.symm ?_
  refine k_sld X hX hbl hbA dL_law_k48.2.1.2.2 (by rw [vp_in_iff]; have := iv_7; omega) ?_
  refine k_to a_8 ea_8.symm ?_
  refine lm_dies (st := []) a_4 a_8 X hm dL_law_k48.2.2.1 mw1046 (Nat.le_of_ble_eq_true rfl) (Nat.le_of_ble_eq_true rfl) (Nat.le_of_ble_eq_true rfl) (Nat.le_trans h1 (Nat.le_of_ble_eq_true rfl)) (Nat.le_trans h2 (Nat.le_of_ble_eq_true rfl)) (fun r_12 mw_13 hm_14 => ?_)
  refine k_pop X dL_law_k48.2.2.2.1 rfl ?_
  refine k_goto 2062 X dL_law_k48.2.2.2.2 (jp_e rfl) ?_
  exact kk _ _ _ _ _ _ _ _ _ _ _ _ _ _ _ _ _ _ _ _ _ _ _ _ _ _ _ _ _ _ _ _ _ _ _ _ _ _ _ _ hx_11 hm_14 hR

theorem dL_law_k49 : ((((dD cL_law 1069 (.aload_n 1) 1 ∧ dD cL_law 1070 (.aload_n 0) 1) ∧ (dD cL_law 1071 (.iload 4) 2 ∧ dD cL_law 1073 (.iconst 1) 1)) ∧ ((dD cL_law 1074 .iadd 1 ∧ dD cL_law 1075 .iaload 1) ∧ (dD cL_law 1076 (.invokevirtual 122) 3 ∧ dD cL_law 1079 .pop 1))) ∧ (((dD cL_law 1080 (.aload_n 2) 1 ∧ dD cL_law 1081 (.aload_n 0) 1) ∧ (dD cL_law 1082 (.iload 4) 2 ∧ dD cL_law 1084 (.iconst 1) 1)) ∧ ((dD cL_law 1085 .iadd 1 ∧ dD cL_law 1086 .iaload 1) ∧ (dD cL_law 1087 (.invokevirtual 125) 3 ∧ dD cL_law 1090 .pop 1)))) := dkA16 (by decide +kernel)
theorem dL_law_k50 : dD cL_law 1091 (.goto 971) 3 := dkA1 (by decide +kernel)
set_option maxHeartbeats 4000000 in
set_option maxRecDepth 100000 in
theorem law_c25 {p : Program} {l : Launch} {e : Env} {s : State} {m : MethodId} {below : List Frame} {meth : Method} {c : Code} {A : Nat → Prop} {g : Gx} {b L : Nat} {xs : Nat → Int32} {h0 mo lo n1 n2 : Nat} {fo : Nat → Int64} {u4 : Int32} {xtpd : Int32} {tpf : Nat → Int32} {yhnf : Nat → Int32} {yhtn : Int32} {yhtf : Nat → Int32} {yhjn : Int32} {yhjf : Nat → Int32} {yhmn : Int32} {yhmf : Nat → Int32} {yhbn : Int32} {yhbf : Nat → Int32} {yhsn : Int32} {yhsf : Nat → Int32} {yhcn : Int32} {yhcf : Nat → Int32} {zrn : Int32} {zmn : Int32} {zwn : Int32} {zpn : Int32} {zmd : Int32} {ztr : Int32} {zrf : Nat → Int32} {zmf : Nat → Int32} {zwf : Nat → Int32} {zpf : Nat → Int32} {kac : Int32} {knx : Int32} {kim : Int32} {cf : Nat → SC} {m_taped : Int32} {d_tape : Nat → Int32} {d_r : Nat → Int32} {d_st : Nat → Int32} {d_undone : Nat → Int32} {d_kept : Nat → Int32} {m_undos : Int32} {m_images : Int32} {m_hasHouse : Int32} {xw mw : va_W} (X : Cx p s m meth c #[Value.ref b] cL_law 7 RL A g) (hX : va_X b L xs s s.heap) (hbl : b < s.heap.size) (hbA : ¬ A b) (hi : 0 ≤ u4.toInt ∧ u4.toInt + 6 ≤ (L : Int)) (hL : L ≤ 3072) (h1 : n1 ≤ 601023) (h2 : n2 ≤ 7293028) (hlt : l.stackTraces = false) (hZ : kZ A s s.heap) (htsE : ∀ w ∈ wsE, w.before #[Value.ref b] s = true) (hx : XW g h0 xtpd tpf yhnf yhtn yhtf yhjn yhjf yhmn yhmf yhbn yhbf yhsn yhsf yhcn yhcf zrn zmn zwn zpn zmd ztr zrf zmf zwf zpf kac knx kim cf xw) (hm : MW g mo m_taped d_tape d_r d_st d_undone d_kept m_undos m_images m_hasHouse mw) (hR : LR xtpd tpf yhnf yhtn yhtf yhjn yhjf yhmn yhmf yhbn yhbf yhsn yhsf yhcn yhcf zrn zmn zwn zpn zmd ztr zrf zmf zwf zpf kac knx kim cf m_taped d_tape d_r d_st d_undone d_kept m_undos m_images m_hasHouse) (kk : ∀ (xtpd_2 : Int32) (tpf_2 : Nat → Int32) (yhnf_2 : Nat → Int32) (yhtn_2 : Int32) (yhtf_2 : Nat → Int32) (yhjn_2 : Int32) (yhjf_2 : Nat → Int32) (yhmn_2 : Int32) (yhmf_2 : Nat → Int32) (yhbn_2 : Int32) (yhbf_2 : Nat → Int32) (yhsn_2 : Int32) (yhsf_2 : Nat → Int32) (yhcn_2 : Int32) (yhcf_2 : Nat → Int32) (zrn_2 : Int32) (zmn_2 : Int32) (zwn_2 : Int32) (zpn_2 : Int32) (zmd_2 : Int32) (ztr_2 : Int32) (zrf_2 : Nat → Int32) (zmf_2 : Nat → Int32) (zwf_2 : Nat → Int32) (zpf_2 : Nat → Int32) (kac_2 : Int32) (knx_2 : Int32) (kim_2 : Int32) (cf_2 : Nat → SC) (m_taped_2 : Int32) (d_tape_2 : Nat → Int32) (d_r_2 : Nat → Int32) (d_st_2 : Nat → Int32) (d_undone_2 : Nat → Int32) (d_kept_2 : Nat → Int32) (m_undos_2 : Int32) (m_images_2 : Int32) (m_hasHouse_2 : Int32) (xw2 mw2 : va_W), XW g h0 xtpd_2 tpf_2 yhnf_2 yhtn_2 yhtf_2 yhjn_2 yhjf_2 yhmn_2 yhmf_2 yhbn_2 yhbf_2 yhsn_2 yhsf_2 yhcn_2 yhcf_2 zrn_2 zmn_2 zwn_2 zpn_2 zmd_2 ztr_2 zrf_2 zmf_2 zwf_2 zpf_2 kac_2 knx_2 kim_2 cf_2 xw2 → MW g mo m_taped_2 d_tape_2 d_r_2 d_st_2 d_undone_2 d_kept_2 m_undos_2 m_images_2 m_hasHouse_2 mw2 → LR xtpd_2 tpf_2 yhnf_2 yhtn_2 yhtf_2 yhjn_2 yhjf_2 yhmn_2 yhmf_2 yhbn_2 yhbf_2 yhsn_2 yhsf_2 yhcn_2 yhcf_2 zrn_2 zmn_2 zwn_2 zpn_2 zmd_2 ztr_2 zrf_2 zmf_2 zwf_2 zpf_2 kac_2 knx_2 kim_2 cf_2 m_taped_2 d_tape_2 d_r_2 d_st_2 d_undone_2 d_kept_2 m_undos_2 m_images_2 m_hasHouse_2 → Wk p l e room_1 s m #[Value.ref b] below meth c (lw_Z below #[Value.ref b] s) A g 7 n1 n2 (xw2 ++ (mw2 ++ [(cAJ g lo 1 fo)])) [(4, .int u4), (3, .ref lo), (2, .ref mo), (1, .ref h0), (0, .ref b)] 2062 []) : Wk p l e room_1 s m #[Value.ref b] below meth c (lw_Z below #[Value.ref b] s) A g 7 n1 n2 (xw ++ (mw ++ [(cAJ g lo 1 fo)])) [(4, .int u4), (3, .ref lo), (2, .ref mo), (1, .ref h0), (0, .ref b)] 1069 [] := by
  have hiv : IV u4 0 3066 := ⟨hi.1, by omega⟩
  refine k_aload_n X dL_law_k49.1.1.1.1 3 rfl ?_
  refine k_aload_n X dL_law_k49.1.1.1.2 4 rfl ?_
  refine k_iload X dL_law_k49.1.1.2.1 0 rfl ?_
  refine k_iconst (v := 1) X dL_law_k49.1.1.2.2 ic_1 ?_
  refine k_iadd X dL_law_k49.1.2.1.1 ?_
  refine k_nm (fun z_1 ez_1 => ?_)
  have i_2 : z_1.toInt = u4.toInt + 1 := in_add ez_1 hiv iq_1_1_1 (zle_e rfl) (zle_e rfl)
  have iv_3 : IV z_1 1 3067 := by have := hiv; have := iq_1_1_1; rw [IV, i_2]; omega
  refine k_sld X hX hbl hbA dL_law_k49.1.2.1.2 (by rw [vp_in_iff]; have := iv_3; omega) ?_
  refine k_nm (fun a_4 ea_4 => ?_)
  refine lx_firstDies (st := []) a_4 X hx dL_law_k49.1.2.2.1 mw1058 (Nat.le_of_ble_eq_true rfl) (Nat.le_of_ble_eq_true rfl) (Nat.le_of_ble_eq_true rfl) (Nat.le_trans h1 (Nat.le_of_ble_eq_true rfl)) (Nat.le_trans h2 (Nat.le_of_ble_eq_true rfl)) (fun r_5 xw_6 hx_7 => ?_)
  refine k_pop X dL_law_k49.1.2.2.2 rfl ?_
  refine k_aload_n X dL_law_k49.2.1.1.1 2 rfl ?_
  refine k_aload_n X dL_law_k49.2.1.1.2 4 rfl ?_
  refine k_iload X dL_law_k49.2.1.2.1 0 rfl ?_
  refine k_iconst (v := 1) X dL_law_k49.2.1.2.2 ic_1 ?_
  refine k_iadd X dL_law_k49.2.2.1.1 ?_
  refine k_to z_1 ez_1.symm ?_
  refine k_sld X hX hbl hbA dL_law_k49.2.2.1.2 (by rw [vp_in_iff]; have := iv_3; omega) ?_
  refine k_to a_4 ea_4.symm ?_
  refine lm_firstDies (st := []) a_4 X hm dL_law_k49.2.2.2.1 mw1067 (Nat.le_of_ble_eq_true rfl) (Nat.le_of_ble_eq_true rfl) (Nat.le_of_ble_eq_true rfl) (Nat.le_trans h1 (Nat.le_of_ble_eq_true rfl)) (Nat.le_trans h2 (Nat.le_of_ble_eq_true rfl)) (fun r_8 mw_9 hm_10 => ?_)
  refine k_pop X dL_law_k49.2.2.2.2 rfl ?_
  refine k_goto 2062 X dL_law_k50 (jp_e rfl) ?_
  exact kk _ _ _ _ _ _ _ _ _ _ _ _ _ _ _ _ _ _ _ _ _ _ _ _ _ _ _ _ _ _ _ _ _ _ _ _ _ _ _ _ hx_7 hm_10 hR

theorem dL_law_k51 : ((((dD cL_law 1094 (.aload_n 1) 1 ∧ dD cL_law 1095 (.aload_n 0) 1) ∧ (dD cL_law 1096 (.iload 4) 2 ∧ dD cL_law 1098 (.iconst 1) 1)) ∧ ((dD cL_law 1099 .iadd 1 ∧ dD cL_law 1100 .iaload 1) ∧ (dD cL_law 1101 (.aload_n 0) 1 ∧ dD cL_law 1102 (.iload 4) 2))) ∧ (((dD cL_law 1104 (.iconst 2) 1 ∧ dD cL_law 1105 .iadd 1) ∧ (dD cL_law 1106 .iaload 1 ∧ dD cL_law 1107 (.invokevirtual 126) 3)) ∧ ((dD cL_law 1110 .pop 1 ∧ dD cL_law 1111 (.aload_n 2) 1) ∧ (dD cL_law 1112 (.aload_n 0) 1 ∧ dD cL_law 1113 (.iload 4) 2)))) := dkA16 (by decide +kernel)
theorem dL_law_k52 : (((dD cL_law 1115 (.iconst 1) 1 ∧ dD cL_law 1116 .iadd 1) ∧ (dD cL_law 1117 .iaload 1 ∧ (dD cL_law 1118 (.aload_n 0) 1 ∧ dD cL_law 1119 (.iload 4) 2))) ∧ ((dD cL_law 1121 (.iconst 2) 1 ∧ (dD cL_law 1122 .iadd 1 ∧ dD cL_law 1123 .iaload 1)) ∧ (dD cL_law 1124 (.invokevirtual 129) 3 ∧ (dD cL_law 1127 .pop 1 ∧ dD cL_law 1128 (.goto 934) 3)))) := dkA11 (by decide +kernel)
set_option maxHeartbeats 4000000 in
set_option maxRecDepth 100000 in
theorem law_c26 {p : Program} {l : Launch} {e : Env} {s : State} {m : MethodId} {below : List Frame} {meth : Method} {c : Code} {A : Nat → Prop} {g : Gx} {b L : Nat} {xs : Nat → Int32} {h0 mo lo n1 n2 : Nat} {fo : Nat → Int64} {u4 : Int32} {xtpd : Int32} {tpf : Nat → Int32} {yhnf : Nat → Int32} {yhtn : Int32} {yhtf : Nat → Int32} {yhjn : Int32} {yhjf : Nat → Int32} {yhmn : Int32} {yhmf : Nat → Int32} {yhbn : Int32} {yhbf : Nat → Int32} {yhsn : Int32} {yhsf : Nat → Int32} {yhcn : Int32} {yhcf : Nat → Int32} {zrn : Int32} {zmn : Int32} {zwn : Int32} {zpn : Int32} {zmd : Int32} {ztr : Int32} {zrf : Nat → Int32} {zmf : Nat → Int32} {zwf : Nat → Int32} {zpf : Nat → Int32} {kac : Int32} {knx : Int32} {kim : Int32} {cf : Nat → SC} {m_taped : Int32} {d_tape : Nat → Int32} {d_r : Nat → Int32} {d_st : Nat → Int32} {d_undone : Nat → Int32} {d_kept : Nat → Int32} {m_undos : Int32} {m_images : Int32} {m_hasHouse : Int32} {xw mw : va_W} (X : Cx p s m meth c #[Value.ref b] cL_law 7 RL A g) (hX : va_X b L xs s s.heap) (hbl : b < s.heap.size) (hbA : ¬ A b) (hi : 0 ≤ u4.toInt ∧ u4.toInt + 6 ≤ (L : Int)) (hL : L ≤ 3072) (h1 : n1 ≤ 601023) (h2 : n2 ≤ 7293028) (hlt : l.stackTraces = false) (hZ : kZ A s s.heap) (htsE : ∀ w ∈ wsE, w.before #[Value.ref b] s = true) (hx : XW g h0 xtpd tpf yhnf yhtn yhtf yhjn yhjf yhmn yhmf yhbn yhbf yhsn yhsf yhcn yhcf zrn zmn zwn zpn zmd ztr zrf zmf zwf zpf kac knx kim cf xw) (hm : MW g mo m_taped d_tape d_r d_st d_undone d_kept m_undos m_images m_hasHouse mw) (hR : LR xtpd tpf yhnf yhtn yhtf yhjn yhjf yhmn yhmf yhbn yhbf yhsn yhsf yhcn yhcf zrn zmn zwn zpn zmd ztr zrf zmf zwf zpf kac knx kim cf m_taped d_tape d_r d_st d_undone d_kept m_undos m_images m_hasHouse) (kk : ∀ (xtpd_2 : Int32) (tpf_2 : Nat → Int32) (yhnf_2 : Nat → Int32) (yhtn_2 : Int32) (yhtf_2 : Nat → Int32) (yhjn_2 : Int32) (yhjf_2 : Nat → Int32) (yhmn_2 : Int32) (yhmf_2 : Nat → Int32) (yhbn_2 : Int32) (yhbf_2 : Nat → Int32) (yhsn_2 : Int32) (yhsf_2 : Nat → Int32) (yhcn_2 : Int32) (yhcf_2 : Nat → Int32) (zrn_2 : Int32) (zmn_2 : Int32) (zwn_2 : Int32) (zpn_2 : Int32) (zmd_2 : Int32) (ztr_2 : Int32) (zrf_2 : Nat → Int32) (zmf_2 : Nat → Int32) (zwf_2 : Nat → Int32) (zpf_2 : Nat → Int32) (kac_2 : Int32) (knx_2 : Int32) (kim_2 : Int32) (cf_2 : Nat → SC) (m_taped_2 : Int32) (d_tape_2 : Nat → Int32) (d_r_2 : Nat → Int32) (d_st_2 : Nat → Int32) (d_undone_2 : Nat → Int32) (d_kept_2 : Nat → Int32) (m_undos_2 : Int32) (m_images_2 : Int32) (m_hasHouse_2 : Int32) (xw2 mw2 : va_W), XW g h0 xtpd_2 tpf_2 yhnf_2 yhtn_2 yhtf_2 yhjn_2 yhjf_2 yhmn_2 yhmf_2 yhbn_2 yhbf_2 yhsn_2 yhsf_2 yhcn_2 yhcf_2 zrn_2 zmn_2 zwn_2 zpn_2 zmd_2 ztr_2 zrf_2 zmf_2 zwf_2 zpf_2 kac_2 knx_2 kim_2 cf_2 xw2 → MW g mo m_taped_2 d_tape_2 d_r_2 d_st_2 d_undone_2 d_kept_2 m_undos_2 m_images_2 m_hasHouse_2 mw2 → LR xtpd_2 tpf_2 yhnf_2 yhtn_2 yhtf_2 yhjn_2 yhjf_2 yhmn_2 yhmf_2 yhbn_2 yhbf_2 yhsn_2 yhsf_2 yhcn_2 yhcf_2 zrn_2 zmn_2 zwn_2 zpn_2 zmd_2 ztr_2 zrf_2 zmf_2 zwf_2 zpf_2 kac_2 knx_2 kim_2 cf_2 m_taped_2 d_tape_2 d_r_2 d_st_2 d_undone_2 d_kept_2 m_undos_2 m_images_2 m_hasHouse_2 → Wk p l e room_1 s m #[Value.ref b] below meth c (lw_Z below #[Value.ref b] s) A g 7 n1 n2 (xw2 ++ (mw2 ++ [(cAJ g lo 1 fo)])) [(4, .int u4), (3, .ref lo), (2, .ref mo), (1, .ref h0), (0, .ref b)] 2062 []) : Wk p l e room_1 s m #[Value.ref b] below meth c (lw_Z below #[Value.ref b] s) A g 7 n1 n2 (xw ++ (mw ++ [(cAJ g lo 1 fo)])) [(4, .int u4), (3, .ref lo), (2, .ref mo), (1, .ref h0), (0, .ref b)] 1094 [] := by
  have hiv : IV u4 0 3066 := ⟨hi.1, by omega⟩
  refine k_aload_n X dL_law_k51.1.1.1.1 3 rfl ?_
  refine k_aload_n X dL_law_k51.1.1.1.2 4 rfl ?_
  refine k_iload X dL_law_k51.1.1.2.1 0 rfl ?_
  refine k_iconst (v := 1) X dL_law_k51.1.1.2.2 ic_1 ?_
  refine k_iadd X dL_law_k51.1.2.1.1 ?_
  refine k_nm (fun z_1 ez_1 => ?_)
  have i_2 : z_1.toInt = u4.toInt + 1 := in_add ez_1 hiv iq_1_1_1 (zle_e rfl) (zle_e rfl)
  have iv_3 : IV z_1 1 3067 := by have := hiv; have := iq_1_1_1; rw [IV, i_2]; omega
  refine k_sld X hX hbl hbA dL_law_k51.1.2.1.2 (by rw [vp_in_iff]; have := iv_3; omega) ?_
  refine k_nm (fun a_4 ea_4 => ?_)
  refine k_aload_n X dL_law_k51.1.2.2.1 4 rfl ?_
  refine k_iload X dL_law_k51.1.2.2.2 0 rfl ?_
  refine k_iconst (v := 2) X dL_law_k51.2.1.1.1 ic_2 ?_
  refine k_iadd X dL_law_k51.2.1.1.2 ?_
  refine k_nm (fun z_5 ez_5 => ?_)
  have i_6 : z_5.toInt = u4.toInt + 2 := in_add ez_5 hiv iq_2_2_2 (zle_e rfl) (zle_e rfl)
  have iv_7 : IV z_5 2 3068 := by have := hiv; have := iq_2_2_2; rw [IV, i_6]; omega
  refine k_sld X hX hbl hbA dL_law_k51.2.1.2.1 (by rw [vp_in_iff]; have := iv_7; omega) ?_
  refine k_nm (fun a_8 ea_8 => ?_)
  refine lx_free (st := []) a_4 a_8 X hx dL_law_k51.2.1.2.2 mw1071 (Nat.le_of_ble_eq_true rfl) (Nat.le_of_ble_eq_true rfl) (Nat.le_of_ble_eq_true rfl) (Nat.le_trans h1 (Nat.le_of_ble_eq_true rfl)) (Nat.le_trans h2 (Nat.le_of_ble_eq_true rfl)) (fun r_9 xw_10 hx_11 => ?_)
  refine k_pop X dL_law_k51.2.2.1.1 rfl ?_
  refine k_aload_n X dL_law_k51.2.2.1.2 2 rfl ?_
  refine k_aload_n X dL_law_k51.2.2.2.1 4 rfl ?_
  refine k_iload X dL_law_k51.2.2.2.2 0 rfl ?_
  refine k_iconst (v := 1) X dL_law_k52.1.1.1 ic_1 ?_
  refine k_iadd X dL_law_k52.1.1.2 ?_
  refine k_to z_1 ez_1.symm ?_
  refine k_sld X hX hbl hbA dL_law_k52.1.2.1 (by rw [vp_in_iff]; have := iv_3; omega) ?_
  refine k_to a_4 ea_4.symm ?_
  refine k_aload_n X dL_law_k52.1.2.2.1 4 rfl ?_
  refine k_iload X dL_law_k52.1.2.2.2 0 rfl ?_
  refine k_iconst (v := 2) X dL_law_k52.2.1.1 ic_2 ?_
  refine k_iadd X dL_law_k52.2.1.2.1 ?_
  refine k_to z_5 ez_5.symm ?_
  refine k_sld X hX hbl hbA dL_law_k52.2.1.2.2 (by rw [vp_in_iff]; have := iv_7; omega) ?_
  refine k_to a_8 ea_8.symm ?_
  refine lm_free (st := []) a_4 a_8 X hm dL_law_k52.2.2.1 mw1076 (Nat.le_of_ble_eq_true rfl) (Nat.le_of_ble_eq_true rfl) (Nat.le_of_ble_eq_true rfl) (Nat.le_trans h1 (Nat.le_of_ble_eq_true rfl)) (Nat.le_trans h2 (Nat.le_of_ble_eq_true rfl)) (fun r_12 mw_13 hm_14 => ?_)
  refine k_pop X dL_law_k52.2.2.2.1 rfl ?_
  refine k_goto 2062 X dL_law_k52.2.2.2.2 (jp_e rfl) ?_
  exact kk _ _ _ _ _ _ _ _ _ _ _ _ _ _ _ _ _ _ _ _ _ _ _ _ _ _ _ _ _ _ _ _ _ _ _ _ _ _ _ _ hx_11 hm_14 hR

theorem dL_law_k53 : ((((dD cL_law 1131 (.aload_n 1) 1 ∧ dD cL_law 1132 (.aload_n 0) 1) ∧ (dD cL_law 1133 (.iload 4) 2 ∧ dD cL_law 1135 (.iconst 1) 1)) ∧ ((dD cL_law 1136 .iadd 1 ∧ dD cL_law 1137 .iaload 1) ∧ (dD cL_law 1138 (.aload_n 0) 1 ∧ dD cL_law 1139 (.iload 4) 2))) ∧ (((dD cL_law 1141 (.iconst 2) 1 ∧ dD cL_law 1142 .iadd 1) ∧ (dD cL_law 1143 .iaload 1 ∧ dD cL_law 1144 (.invokevirtual 130) 3)) ∧ ((dD cL_law 1147 .pop 1 ∧ dD cL_law 1148 (.aload_n 2) 1) ∧ (dD cL_law 1149 (.aload_n 0) 1 ∧ dD cL_law 1150 (.iload 4) 2)))) := dkA16 (by decide +kernel)
theorem dL_law_k54 : (((dD cL_law 1152 (.iconst 1) 1 ∧ dD cL_law 1153 .iadd 1) ∧ (dD cL_law 1154 .iaload 1 ∧ (dD cL_law 1155 (.aload_n 0) 1 ∧ dD cL_law 1156 (.iload 4) 2))) ∧ ((dD cL_law 1158 (.iconst 2) 1 ∧ (dD cL_law 1159 .iadd 1 ∧ dD cL_law 1160 .iaload 1)) ∧ (dD cL_law 1161 (.invokevirtual 133) 3 ∧ (dD cL_law 1164 .pop 1 ∧ dD cL_law 1165 (.goto 897) 3)))) := dkA11 (by decide +kernel)
set_option maxHeartbeats 4000000 in
set_option maxRecDepth 100000 in
theorem law_c27 {p : Program} {l : Launch} {e : Env} {s : State} {m : MethodId} {below : List Frame} {meth : Method} {c : Code} {A : Nat → Prop} {g : Gx} {b L : Nat} {xs : Nat → Int32} {h0 mo lo n1 n2 : Nat} {fo : Nat → Int64} {u4 : Int32} {xtpd : Int32} {tpf : Nat → Int32} {yhnf : Nat → Int32} {yhtn : Int32} {yhtf : Nat → Int32} {yhjn : Int32} {yhjf : Nat → Int32} {yhmn : Int32} {yhmf : Nat → Int32} {yhbn : Int32} {yhbf : Nat → Int32} {yhsn : Int32} {yhsf : Nat → Int32} {yhcn : Int32} {yhcf : Nat → Int32} {zrn : Int32} {zmn : Int32} {zwn : Int32} {zpn : Int32} {zmd : Int32} {ztr : Int32} {zrf : Nat → Int32} {zmf : Nat → Int32} {zwf : Nat → Int32} {zpf : Nat → Int32} {kac : Int32} {knx : Int32} {kim : Int32} {cf : Nat → SC} {m_taped : Int32} {d_tape : Nat → Int32} {d_r : Nat → Int32} {d_st : Nat → Int32} {d_undone : Nat → Int32} {d_kept : Nat → Int32} {m_undos : Int32} {m_images : Int32} {m_hasHouse : Int32} {xw mw : va_W} (X : Cx p s m meth c #[Value.ref b] cL_law 7 RL A g) (hX : va_X b L xs s s.heap) (hbl : b < s.heap.size) (hbA : ¬ A b) (hi : 0 ≤ u4.toInt ∧ u4.toInt + 6 ≤ (L : Int)) (hL : L ≤ 3072) (h1 : n1 ≤ 601023) (h2 : n2 ≤ 7293028) (hlt : l.stackTraces = false) (hZ : kZ A s s.heap) (htsE : ∀ w ∈ wsE, w.before #[Value.ref b] s = true) (hx : XW g h0 xtpd tpf yhnf yhtn yhtf yhjn yhjf yhmn yhmf yhbn yhbf yhsn yhsf yhcn yhcf zrn zmn zwn zpn zmd ztr zrf zmf zwf zpf kac knx kim cf xw) (hm : MW g mo m_taped d_tape d_r d_st d_undone d_kept m_undos m_images m_hasHouse mw) (hR : LR xtpd tpf yhnf yhtn yhtf yhjn yhjf yhmn yhmf yhbn yhbf yhsn yhsf yhcn yhcf zrn zmn zwn zpn zmd ztr zrf zmf zwf zpf kac knx kim cf m_taped d_tape d_r d_st d_undone d_kept m_undos m_images m_hasHouse) (kk : ∀ (xtpd_2 : Int32) (tpf_2 : Nat → Int32) (yhnf_2 : Nat → Int32) (yhtn_2 : Int32) (yhtf_2 : Nat → Int32) (yhjn_2 : Int32) (yhjf_2 : Nat → Int32) (yhmn_2 : Int32) (yhmf_2 : Nat → Int32) (yhbn_2 : Int32) (yhbf_2 : Nat → Int32) (yhsn_2 : Int32) (yhsf_2 : Nat → Int32) (yhcn_2 : Int32) (yhcf_2 : Nat → Int32) (zrn_2 : Int32) (zmn_2 : Int32) (zwn_2 : Int32) (zpn_2 : Int32) (zmd_2 : Int32) (ztr_2 : Int32) (zrf_2 : Nat → Int32) (zmf_2 : Nat → Int32) (zwf_2 : Nat → Int32) (zpf_2 : Nat → Int32) (kac_2 : Int32) (knx_2 : Int32) (kim_2 : Int32) (cf_2 : Nat → SC) (m_taped_2 : Int32) (d_tape_2 : Nat → Int32) (d_r_2 : Nat → Int32) (d_st_2 : Nat → Int32) (d_undone_2 : Nat → Int32) (d_kept_2 : Nat → Int32) (m_undos_2 : Int32) (m_images_2 : Int32) (m_hasHouse_2 : Int32) (xw2 mw2 : va_W), XW g h0 xtpd_2 tpf_2 yhnf_2 yhtn_2 yhtf_2 yhjn_2 yhjf_2 yhmn_2 yhmf_2 yhbn_2 yhbf_2 yhsn_2 yhsf_2 yhcn_2 yhcf_2 zrn_2 zmn_2 zwn_2 zpn_2 zmd_2 ztr_2 zrf_2 zmf_2 zwf_2 zpf_2 kac_2 knx_2 kim_2 cf_2 xw2 → MW g mo m_taped_2 d_tape_2 d_r_2 d_st_2 d_undone_2 d_kept_2 m_undos_2 m_images_2 m_hasHouse_2 mw2 → LR xtpd_2 tpf_2 yhnf_2 yhtn_2 yhtf_2 yhjn_2 yhjf_2 yhmn_2 yhmf_2 yhbn_2 yhbf_2 yhsn_2 yhsf_2 yhcn_2 yhcf_2 zrn_2 zmn_2 zwn_2 zpn_2 zmd_2 ztr_2 zrf_2 zmf_2 zwf_2 zpf_2 kac_2 knx_2 kim_2 cf_2 m_taped_2 d_tape_2 d_r_2 d_st_2 d_undone_2 d_kept_2 m_undos_2 m_images_2 m_hasHouse_2 → Wk p l e room_1 s m #[Value.ref b] below meth c (lw_Z below #[Value.ref b] s) A g 7 n1 n2 (xw2 ++ (mw2 ++ [(cAJ g lo 1 fo)])) [(4, .int u4), (3, .ref lo), (2, .ref mo), (1, .ref h0), (0, .ref b)] 2062 []) : Wk p l e room_1 s m #[Value.ref b] below meth c (lw_Z below #[Value.ref b] s) A g 7 n1 n2 (xw ++ (mw ++ [(cAJ g lo 1 fo)])) [(4, .int u4), (3, .ref lo), (2, .ref mo), (1, .ref h0), (0, .ref b)] 1131 [] := by
  have hiv : IV u4 0 3066 := ⟨hi.1, by omega⟩
  refine k_aload_n X dL_law_k53.1.1.1.1 3 rfl ?_
  refine k_aload_n X dL_law_k53.1.1.1.2 4 rfl ?_
  refine k_iload X dL_law_k53.1.1.2.1 0 rfl ?_
  refine k_iconst (v := 1) X dL_law_k53.1.1.2.2 ic_1 ?_
  refine k_iadd X dL_law_k53.1.2.1.1 ?_
  refine k_nm (fun z_1 ez_1 => ?_)
  have i_2 : z_1.toInt = u4.toInt + 1 := in_add ez_1 hiv iq_1_1_1 (zle_e rfl) (zle_e rfl)
  have iv_3 : IV z_1 1 3067 := by have := hiv; have := iq_1_1_1; rw [IV, i_2]; omega
  refine k_sld X hX hbl hbA dL_law_k53.1.2.1.2 (by rw [vp_in_iff]; have := iv_3; omega) ?_
  refine k_nm (fun a_4 ea_4 => ?_)
  refine k_aload_n X dL_law_k53.1.2.2.1 4 rfl ?_
  refine k_iload X dL_law_k53.1.2.2.2 0 rfl ?_
  refine k_iconst (v := 2) X dL_law_k53.2.1.1.1 ic_2 ?_
  refine k_iadd X dL_law_k53.2.1.1.2 ?_
  refine k_nm (fun z_5 ez_5 => ?_)
  have i_6 : z_5.toInt = u4.toInt + 2 := in_add ez_5 hiv iq_2_2_2 (zle_e rfl) (zle_e rfl)
  have iv_7 : IV z_5 2 3068 := by have := hiv; have := iq_2_2_2; rw [IV, i_6]; omega
  refine k_sld X hX hbl hbA dL_law_k53.2.1.2.1 (by rw [vp_in_iff]; have := iv_7; omega) ?_
  refine k_nm (fun a_8 ea_8 => ?_)
  refine lx_arc (st := []) a_4 a_8 X hx dL_law_k53.2.1.2.2 mw1080 (Nat.le_of_ble_eq_true rfl) (Nat.le_of_ble_eq_true rfl) (Nat.le_of_ble_eq_true rfl) (Nat.le_trans h1 (Nat.le_of_ble_eq_true rfl)) (Nat.le_trans h2 (Nat.le_of_ble_eq_true rfl)) (fun r_9 xw_10 hx_11 => ?_)
  refine k_pop X dL_law_k53.2.2.1.1 rfl ?_
  refine k_aload_n X dL_law_k53.2.2.1.2 2 rfl ?_
  refine k_aload_n X dL_law_k53.2.2.2.1 4 rfl ?_
  refine k_iload X dL_law_k53.2.2.2.2 0 rfl ?_
  refine k_iconst (v := 1) X dL_law_k54.1.1.1 ic_1 ?_
  refine k_iadd X dL_law_k54.1.1.2 ?_
  refine k_to z_1 ez_1.symm ?_
  refine k_sld X hX hbl hbA dL_law_k54.1.2.1 (by rw [vp_in_iff]; have := iv_3; omega) ?_
  refine k_to a_4 ea_4.symm ?_
  refine k_aload_n X dL_law_k54.1.2.2.1 4 rfl ?_
  refine k_iload X dL_law_k54.1.2.2.2 0 rfl ?_
  refine k_iconst (v := 2) X dL_law_k54.2.1.1 ic_2 ?_
  refine k_iadd X dL_law_k54.2.1.2.1 ?_
  refine k_to z_5 ez_5.symm ?_
  refine k_sld X hX hbl hbA dL_law_k54.2.1.2.2 (by rw [vp_in_iff]; have := iv_7; omega) ?_
  refine k_to a_8 ea_8.symm ?_
  refine lm_arc (st := []) a_4 a_8 X hm dL_law_k54.2.2.1 mw1085 (Nat.le_of_ble_eq_true rfl) (Nat.le_of_ble_eq_true rfl) (Nat.le_of_ble_eq_true rfl) (Nat.le_trans h1 (Nat.le_of_ble_eq_true rfl)) (Nat.le_trans h2 (Nat.le_of_ble_eq_true rfl)) (fun r_12 mw_13 hm_14 => ?_)
  refine k_pop X dL_law_k54.2.2.2.1 rfl ?_
  refine k_goto 2062 X dL_law_k54.2.2.2.2 (jp_e rfl) ?_
  exact kk _ _ _ _ _ _ _ _ _ _ _ _ _ _ _ _ _ _ _ _ _ _ _ _ _ _ _ _ _ _ _ _ _ _ _ _ _ _ _ _ hx_11 hm_14 hR

theorem dL_law_k55 : ((((dD cL_law 1168 (.aload_n 1) 1 ∧ dD cL_law 1169 (.aload_n 0) 1) ∧ (dD cL_law 1170 (.iload 4) 2 ∧ dD cL_law 1172 (.iconst 1) 1)) ∧ ((dD cL_law 1173 .iadd 1 ∧ dD cL_law 1174 .iaload 1) ∧ (dD cL_law 1175 (.invokevirtual 134) 3 ∧ dD cL_law 1178 .pop 1))) ∧ (((dD cL_law 1179 (.aload_n 2) 1 ∧ dD cL_law 1180 (.aload_n 0) 1) ∧ (dD cL_law 1181 (.iload 4) 2 ∧ dD cL_law 1183 (.iconst 1) 1)) ∧ ((dD cL_law 1184 .iadd 1 ∧ dD cL_law 1185 .iaload 1) ∧ (dD cL_law 1186 (.invokevirtual 137) 3 ∧ dD cL_law 1189 .pop 1)))) := dkA16 (by decide +kernel)
theorem dL_law_k56 : dD cL_law 1190 (.goto 872) 3 := dkA1 (by decide +kernel)
set_option maxHeartbeats 4000000 in
set_option maxRecDepth 100000 in
theorem law_c28 {p : Program} {l : Launch} {e : Env} {s : State} {m : MethodId} {below : List Frame} {meth : Method} {c : Code} {A : Nat → Prop} {g : Gx} {b L : Nat} {xs : Nat → Int32} {h0 mo lo n1 n2 : Nat} {fo : Nat → Int64} {u4 : Int32} {xtpd : Int32} {tpf : Nat → Int32} {yhnf : Nat → Int32} {yhtn : Int32} {yhtf : Nat → Int32} {yhjn : Int32} {yhjf : Nat → Int32} {yhmn : Int32} {yhmf : Nat → Int32} {yhbn : Int32} {yhbf : Nat → Int32} {yhsn : Int32} {yhsf : Nat → Int32} {yhcn : Int32} {yhcf : Nat → Int32} {zrn : Int32} {zmn : Int32} {zwn : Int32} {zpn : Int32} {zmd : Int32} {ztr : Int32} {zrf : Nat → Int32} {zmf : Nat → Int32} {zwf : Nat → Int32} {zpf : Nat → Int32} {kac : Int32} {knx : Int32} {kim : Int32} {cf : Nat → SC} {m_taped : Int32} {d_tape : Nat → Int32} {d_r : Nat → Int32} {d_st : Nat → Int32} {d_undone : Nat → Int32} {d_kept : Nat → Int32} {m_undos : Int32} {m_images : Int32} {m_hasHouse : Int32} {xw mw : va_W} (X : Cx p s m meth c #[Value.ref b] cL_law 7 RL A g) (hX : va_X b L xs s s.heap) (hbl : b < s.heap.size) (hbA : ¬ A b) (hi : 0 ≤ u4.toInt ∧ u4.toInt + 6 ≤ (L : Int)) (hL : L ≤ 3072) (h1 : n1 ≤ 601023) (h2 : n2 ≤ 7293028) (hlt : l.stackTraces = false) (hZ : kZ A s s.heap) (htsE : ∀ w ∈ wsE, w.before #[Value.ref b] s = true) (hx : XW g h0 xtpd tpf yhnf yhtn yhtf yhjn yhjf yhmn yhmf yhbn yhbf yhsn yhsf yhcn yhcf zrn zmn zwn zpn zmd ztr zrf zmf zwf zpf kac knx kim cf xw) (hm : MW g mo m_taped d_tape d_r d_st d_undone d_kept m_undos m_images m_hasHouse mw) (hR : LR xtpd tpf yhnf yhtn yhtf yhjn yhjf yhmn yhmf yhbn yhbf yhsn yhsf yhcn yhcf zrn zmn zwn zpn zmd ztr zrf zmf zwf zpf kac knx kim cf m_taped d_tape d_r d_st d_undone d_kept m_undos m_images m_hasHouse) (kk : ∀ (xtpd_2 : Int32) (tpf_2 : Nat → Int32) (yhnf_2 : Nat → Int32) (yhtn_2 : Int32) (yhtf_2 : Nat → Int32) (yhjn_2 : Int32) (yhjf_2 : Nat → Int32) (yhmn_2 : Int32) (yhmf_2 : Nat → Int32) (yhbn_2 : Int32) (yhbf_2 : Nat → Int32) (yhsn_2 : Int32) (yhsf_2 : Nat → Int32) (yhcn_2 : Int32) (yhcf_2 : Nat → Int32) (zrn_2 : Int32) (zmn_2 : Int32) (zwn_2 : Int32) (zpn_2 : Int32) (zmd_2 : Int32) (ztr_2 : Int32) (zrf_2 : Nat → Int32) (zmf_2 : Nat → Int32) (zwf_2 : Nat → Int32) (zpf_2 : Nat → Int32) (kac_2 : Int32) (knx_2 : Int32) (kim_2 : Int32) (cf_2 : Nat → SC) (m_taped_2 : Int32) (d_tape_2 : Nat → Int32) (d_r_2 : Nat → Int32) (d_st_2 : Nat → Int32) (d_undone_2 : Nat → Int32) (d_kept_2 : Nat → Int32) (m_undos_2 : Int32) (m_images_2 : Int32) (m_hasHouse_2 : Int32) (xw2 mw2 : va_W), XW g h0 xtpd_2 tpf_2 yhnf_2 yhtn_2 yhtf_2 yhjn_2 yhjf_2 yhmn_2 yhmf_2 yhbn_2 yhbf_2 yhsn_2 yhsf_2 yhcn_2 yhcf_2 zrn_2 zmn_2 zwn_2 zpn_2 zmd_2 ztr_2 zrf_2 zmf_2 zwf_2 zpf_2 kac_2 knx_2 kim_2 cf_2 xw2 → MW g mo m_taped_2 d_tape_2 d_r_2 d_st_2 d_undone_2 d_kept_2 m_undos_2 m_images_2 m_hasHouse_2 mw2 → LR xtpd_2 tpf_2 yhnf_2 yhtn_2 yhtf_2 yhjn_2 yhjf_2 yhmn_2 yhmf_2 yhbn_2 yhbf_2 yhsn_2 yhsf_2 yhcn_2 yhcf_2 zrn_2 zmn_2 zwn_2 zpn_2 zmd_2 ztr_2 zrf_2 zmf_2 zwf_2 zpf_2 kac_2 knx_2 kim_2 cf_2 m_taped_2 d_tape_2 d_r_2 d_st_2 d_undone_2 d_kept_2 m_undos_2 m_images_2 m_hasHouse_2 → Wk p l e room_1 s m #[Value.ref b] below meth c (lw_Z below #[Value.ref b] s) A g 7 n1 n2 (xw2 ++ (mw2 ++ [(cAJ g lo 1 fo)])) [(4, .int u4), (3, .ref lo), (2, .ref mo), (1, .ref h0), (0, .ref b)] 2062 []) : Wk p l e room_1 s m #[Value.ref b] below meth c (lw_Z below #[Value.ref b] s) A g 7 n1 n2 (xw ++ (mw ++ [(cAJ g lo 1 fo)])) [(4, .int u4), (3, .ref lo), (2, .ref mo), (1, .ref h0), (0, .ref b)] 1168 [] := by
  have hiv : IV u4 0 3066 := ⟨hi.1, by omega⟩
  refine k_aload_n X dL_law_k55.1.1.1.1 3 rfl ?_
  refine k_aload_n X dL_law_k55.1.1.1.2 4 rfl ?_
  refine k_iload X dL_law_k55.1.1.2.1 0 rfl ?_
  refine k_iconst (v := 1) X dL_law_k55.1.1.2.2 ic_1 ?_
  refine k_iadd X dL_law_k55.1.2.1.1 ?_
  refine k_nm (fun z_1 ez_1 => ?_)
  have i_2 : z_1.toInt = u4.toInt + 1 := in_add ez_1 hiv iq_1_1_1 (zle_e rfl) (zle_e rfl)
  have iv_3 : IV z_1 1 3067 := by have := hiv; have := iq_1_1_1; rw [IV, i_2]; omega
  refine k_sld X hX hbl hbA dL_law_k55.1.2.1.2 (by rw [vp_in_iff]; have := iv_3; omega) ?_
  refine k_nm (fun a_4 ea_4 => ?_)
  refine lx_never (st := []) a_4 X hx dL_law_k55.1.2.2.1 mw1089 (Nat.le_of_ble_eq_true rfl) (Nat.le_of_ble_eq_true rfl) (Nat.le_of_ble_eq_true rfl) (Nat.le_trans h1 (Nat.le_of_ble_eq_true rfl)) (Nat.le_trans h2 (Nat.le_of_ble_eq_true rfl)) (fun r_5 xw_6 hx_7 => ?_)
  refine k_pop X dL_law_k55.1.2.2.2 rfl ?_
  refine k_aload_n X dL_law_k55.2.1.1.1 2 rfl ?_
  refine k_aload_n X dL_law_k55.2.1.1.2 4 rfl ?_
  refine k_iload X dL_law_k55.2.1.2.1 0 rfl ?_
  refine k_iconst (v := 1) X dL_law_k55.2.1.2.2 ic_1 ?_
  refine k_iadd X dL_law_k55.2.2.1.1 ?_
  refine k_to z_1 ez_1.symm ?_
  refine k_sld X hX hbl hbA dL_law_k55.2.2.1.2 (by rw [vp_in_iff]; have := iv_3; omega) ?_
  refine k_to a_4 ea_4.symm ?_
  refine lm_never (st := []) a_4 X hm dL_law_k55.2.2.2.1 mw1106 (Nat.le_of_ble_eq_true rfl) (Nat.le_of_ble_eq_true rfl) (Nat.le_of_ble_eq_true rfl) (Nat.le_trans h1 (Nat.le_of_ble_eq_true rfl)) (Nat.le_trans h2 (Nat.le_of_ble_eq_true rfl)) (fun r_8 mw_9 hm_10 => ?_)
  refine k_pop X dL_law_k55.2.2.2.2 rfl ?_
  refine k_goto 2062 X dL_law_k56 (jp_e rfl) ?_
  exact kk _ _ _ _ _ _ _ _ _ _ _ _ _ _ _ _ _ _ _ _ _ _ _ _ _ _ _ _ _ _ _ _ _ _ _ _ _ _ _ _ hx_7 hm_10 hR

theorem dL_law_k57 : ((((dD cL_law 1193 (.aload_n 1) 1 ∧ dD cL_law 1194 (.aload_n 0) 1) ∧ (dD cL_law 1195 (.iload 4) 2 ∧ dD cL_law 1197 (.iconst 1) 1)) ∧ ((dD cL_law 1198 .iadd 1 ∧ dD cL_law 1199 .iaload 1) ∧ (dD cL_law 1200 (.aload_n 0) 1 ∧ dD cL_law 1201 (.iload 4) 2))) ∧ (((dD cL_law 1203 (.iconst 2) 1 ∧ dD cL_law 1204 .iadd 1) ∧ (dD cL_law 1205 .iaload 1 ∧ dD cL_law 1206 (.aload_n 0) 1)) ∧ ((dD cL_law 1207 (.iload 4) 2 ∧ dD cL_law 1209 (.iconst 3) 1) ∧ (dD cL_law 1210 .iadd 1 ∧ dD cL_law 1211 .iaload 1)))) := dkA16 (by decide +kernel)
theorem dL_law_k58 : ((((dD cL_law 1212 (.ifCond .eq 7) 3 ∧ dD cL_law 1215 (.iconst 1) 1) ∧ (dD cL_law 1216 (.goto 4) 3 ∧ dD cL_law 1219 (.iconst 0) 1)) ∧ ((dD cL_law 1220 (.invokevirtual 138) 3 ∧ dD cL_law 1223 .pop2 1) ∧ (dD cL_law 1224 (.aload_n 2) 1 ∧ dD cL_law 1225 (.aload_n 0) 1))) ∧ (((dD cL_law 1226 (.iload 4) 2 ∧ dD cL_law 1228 (.iconst 1) 1) ∧ (dD cL_law 1229 .iadd 1 ∧ dD cL_law 1230 .iaload 1)) ∧ ((dD cL_law 1231 (.aload_n 0) 1 ∧ dD cL_law 1232 (.iload 4) 2) ∧ (dD cL_law 1234 (.iconst 2) 1 ∧ dD cL_law 1235 .iadd 1)))) := dkA16 (by decide +kernel)
theorem dL_law_k59 : (((dD cL_law 1236 .iaload 1 ∧ (dD cL_law 1237 (.aload_n 0) 1 ∧ dD cL_law 1238 (.iload 4) 2)) ∧ (dD cL_law 1240 (.iconst 3) 1 ∧ (dD cL_law 1241 .iadd 1 ∧ dD cL_law 1242 .iaload 1))) ∧ ((dD cL_law 1243 (.ifCond .eq 7) 3 ∧ (dD cL_law 1246 (.iconst 1) 1 ∧ dD cL_law 1247 (.goto 4) 3)) ∧ ((dD cL_law 1250 (.iconst 0) 1 ∧ dD cL_law 1251 (.invokevirtual 142) 3) ∧ (dD cL_law 1254 .pop2 1 ∧ dD cL_law 1255 (.goto 807) 3)))) := dkA13 (by decide +kernel)
set_option maxHeartbeats 4000000 in
set_option maxRecDepth 100000 in
theorem law_c29 {p : Program} {l : Launch} {e : Env} {s : State} {m : MethodId} {below : List Frame} {meth : Method} {c : Code} {A : Nat → Prop} {g : Gx} {b L : Nat} {xs : Nat → Int32} {h0 mo lo n1 n2 : Nat} {fo : Nat → Int64} {u4 : Int32} {xtpd : Int32} {tpf : Nat → Int32} {yhnf : Nat → Int32} {yhtn : Int32} {yhtf : Nat → Int32} {yhjn : Int32} {yhjf : Nat → Int32} {yhmn : Int32} {yhmf : Nat → Int32} {yhbn : Int32} {yhbf : Nat → Int32} {yhsn : Int32} {yhsf : Nat → Int32} {yhcn : Int32} {yhcf : Nat → Int32} {zrn : Int32} {zmn : Int32} {zwn : Int32} {zpn : Int32} {zmd : Int32} {ztr : Int32} {zrf : Nat → Int32} {zmf : Nat → Int32} {zwf : Nat → Int32} {zpf : Nat → Int32} {kac : Int32} {knx : Int32} {kim : Int32} {cf : Nat → SC} {m_taped : Int32} {d_tape : Nat → Int32} {d_r : Nat → Int32} {d_st : Nat → Int32} {d_undone : Nat → Int32} {d_kept : Nat → Int32} {m_undos : Int32} {m_images : Int32} {m_hasHouse : Int32} {xw mw : va_W} (X : Cx p s m meth c #[Value.ref b] cL_law 7 RL A g) (hX : va_X b L xs s s.heap) (hbl : b < s.heap.size) (hbA : ¬ A b) (hi : 0 ≤ u4.toInt ∧ u4.toInt + 6 ≤ (L : Int)) (hL : L ≤ 3072) (h1 : n1 ≤ 601023) (h2 : n2 ≤ 7293028) (hlt : l.stackTraces = false) (hZ : kZ A s s.heap) (htsE : ∀ w ∈ wsE, w.before #[Value.ref b] s = true) (hx : XW g h0 xtpd tpf yhnf yhtn yhtf yhjn yhjf yhmn yhmf yhbn yhbf yhsn yhsf yhcn yhcf zrn zmn zwn zpn zmd ztr zrf zmf zwf zpf kac knx kim cf xw) (hm : MW g mo m_taped d_tape d_r d_st d_undone d_kept m_undos m_images m_hasHouse mw) (hR : LR xtpd tpf yhnf yhtn yhtf yhjn yhjf yhmn yhmf yhbn yhbf yhsn yhsf yhcn yhcf zrn zmn zwn zpn zmd ztr zrf zmf zwf zpf kac knx kim cf m_taped d_tape d_r d_st d_undone d_kept m_undos m_images m_hasHouse) (kk : ∀ (xtpd_2 : Int32) (tpf_2 : Nat → Int32) (yhnf_2 : Nat → Int32) (yhtn_2 : Int32) (yhtf_2 : Nat → Int32) (yhjn_2 : Int32) (yhjf_2 : Nat → Int32) (yhmn_2 : Int32) (yhmf_2 : Nat → Int32) (yhbn_2 : Int32) (yhbf_2 : Nat → Int32) (yhsn_2 : Int32) (yhsf_2 : Nat → Int32) (yhcn_2 : Int32) (yhcf_2 : Nat → Int32) (zrn_2 : Int32) (zmn_2 : Int32) (zwn_2 : Int32) (zpn_2 : Int32) (zmd_2 : Int32) (ztr_2 : Int32) (zrf_2 : Nat → Int32) (zmf_2 : Nat → Int32) (zwf_2 : Nat → Int32) (zpf_2 : Nat → Int32) (kac_2 : Int32) (knx_2 : Int32) (kim_2 : Int32) (cf_2 : Nat → SC) (m_taped_2 : Int32) (d_tape_2 : Nat → Int32) (d_r_2 : Nat → Int32) (d_st_2 : Nat → Int32) (d_undone_2 : Nat → Int32) (d_kept_2 : Nat → Int32) (m_undos_2 : Int32) (m_images_2 : Int32) (m_hasHouse_2 : Int32) (xw2 mw2 : va_W), XW g h0 xtpd_2 tpf_2 yhnf_2 yhtn_2 yhtf_2 yhjn_2 yhjf_2 yhmn_2 yhmf_2 yhbn_2 yhbf_2 yhsn_2 yhsf_2 yhcn_2 yhcf_2 zrn_2 zmn_2 zwn_2 zpn_2 zmd_2 ztr_2 zrf_2 zmf_2 zwf_2 zpf_2 kac_2 knx_2 kim_2 cf_2 xw2 → MW g mo m_taped_2 d_tape_2 d_r_2 d_st_2 d_undone_2 d_kept_2 m_undos_2 m_images_2 m_hasHouse_2 mw2 → LR xtpd_2 tpf_2 yhnf_2 yhtn_2 yhtf_2 yhjn_2 yhjf_2 yhmn_2 yhmf_2 yhbn_2 yhbf_2 yhsn_2 yhsf_2 yhcn_2 yhcf_2 zrn_2 zmn_2 zwn_2 zpn_2 zmd_2 ztr_2 zrf_2 zmf_2 zwf_2 zpf_2 kac_2 knx_2 kim_2 cf_2 m_taped_2 d_tape_2 d_r_2 d_st_2 d_undone_2 d_kept_2 m_undos_2 m_images_2 m_hasHouse_2 → Wk p l e room_1 s m #[Value.ref b] below meth c (lw_Z below #[Value.ref b] s) A g 7 n1 n2 (xw2 ++ (mw2 ++ [(cAJ g lo 1 fo)])) [(4, .int u4), (3, .ref lo), (2, .ref mo), (1, .ref h0), (0, .ref b)] 2062 []) : Wk p l e room_1 s m #[Value.ref b] below meth c (lw_Z below #[Value.ref b] s) A g 7 n1 n2 (xw ++ (mw ++ [(cAJ g lo 1 fo)])) [(4, .int u4), (3, .ref lo), (2, .ref mo), (1, .ref h0), (0, .ref b)] 1193 [] := by
  have hiv : IV u4 0 3066 := ⟨hi.1, by omega⟩
  refine k_aload_n X dL_law_k57.1.1.1.1 3 rfl ?_
  refine k_aload_n X dL_law_k57.1.1.1.2 4 rfl ?_
  refine k_iload X dL_law_k57.1.1.2.1 0 rfl ?_
  refine k_iconst (v := 1) X dL_law_k57.1.1.2.2 ic_1 ?_
  refine k_iadd X dL_law_k57.1.2.1.1 ?_
  refine k_nm (fun z_1 ez_1 => ?_)
  have i_2 : z_1.toInt = u4.toInt + 1 := in_add ez_1 hiv iq_1_1_1 (zle_e rfl) (zle_e rfl)
  have iv_3 : IV z_1 1 3067 := by have := hiv; have := iq_1_1_1; rw [IV, i_2]; omega
  refine k_sld X hX hbl hbA dL_law_k57.1.2.1.2 (by rw [vp_in_iff]; have := iv_3; omega) ?_
  refine k_nm (fun a_4 ea_4 => ?_)
  refine k_aload_n X dL_law_k57.1.2.2.1 4 rfl ?_
  refine k_iload X dL_law_k57.1.2.2.2 0 rfl ?_
  refine k_iconst (v := 2) X dL_law_k57.2.1.1.1 ic_2 ?_
  refine k_iadd X dL_law_k57.2.1.1.2 ?_
  refine k_nm (fun z_5 ez_5 => ?_)
  have i_6 : z_5.toInt = u4.toInt + 2 := in_add ez_5 hiv iq_2_2_2 (zle_e rfl) (zle_e rfl)
  have iv_7 : IV z_5 2 3068 := by have := hiv; have := iq_2_2_2; rw [IV, i_6]; omega
  refine k_sld X hX hbl hbA dL_law_k57.2.1.2.1 (by rw [vp_in_iff]; have := iv_7; omega) ?_
  refine k_nm (fun a_8 ea_8 => ?_)
  refine k_aload_n X dL_law_k57.2.1.2.2 4 rfl ?_
  refine k_iload X dL_law_k57.2.2.1.1 0 rfl ?_
  refine k_iconst (v := 3) X dL_law_k57.2.2.1.2 ic_3 ?_
  refine k_iadd X dL_law_k57.2.2.2.1 ?_
  refine k_nm (fun z_9 ez_9 => ?_)
  have i_10 : z_9.toInt = u4.toInt + 3 := in_add ez_9 hiv iq_3_3_3 (zle_e rfl) (zle_e rfl)
  have iv_11 : IV z_9 3 3069 := by have := hiv; have := iq_3_3_3; rw [IV, i_10]; omega
  refine k_sld X hX hbl hbA dL_law_k57.2.2.2.2 (by rw [vp_in_iff]; have := iv_11; omega) ?_
  refine k_nm (fun a_12 ea_12 => ?_)
  refine k_if_eq 1219 X dL_law_k58.1.1.1.1 (jp_e rfl) (fun h_13 => ?_) (fun h_13 => ?_)
  · skip
    have iv_14 : IV a_12 0 0 := iv_meet (iv_any a_12) (iv_e h_13 iq_0_0_0) (zle_o rfl) (zle_o rfl)
    refine k_iconst (v := 0) X dL_law_k58.1.1.2.2 ic_0 ?_
    refine lx_truly (st := []) a_4 a_8 0 X hx dL_law_k58.1.2.1.1 mw1113 (Nat.le_of_ble_eq_true rfl) (Nat.le_of_ble_eq_true rfl) (Nat.le_of_ble_eq_true rfl) (Nat.le_trans h1 (Nat.le_of_ble_eq_true rfl)) (Nat.le_trans h2 (Nat.le_of_ble_eq_true rfl)) (fun r_15 xw_16 hx_17 => ?_)
    refine k_pop2 X dL_law_k58.1.2.1.2 rfl ?_
    refine k_aload_n X dL_law_k58.1.2.2.1 2 rfl ?_
    refine k_aload_n X dL_law_k58.1.2.2.2 4 rfl ?_
    refine k_iload X dL_law_k58.2.1.1.1 0 rfl ?_
    refine k_iconst (v := 1) X dL_law_k58.2.1.1.2 ic_1 ?_
    refine k_iadd X dL_law_k58.2.1.2.1 ?_
    refine k_to z_1 ez_1.symm ?_
    refine k_sld X hX hbl hbA dL_law_k58.2.1.2.2 (by rw [vp_in_iff]; have := iv_3; omega) ?_
    refine k_to a_4 ea_4.symm ?_
    refine k_aload_n X dL_law_k58.2.2.1.1 4 rfl ?_
    refine k_iload X dL_law_k58.2.2.1.2 0 rfl ?_
    refine k_iconst (v := 2) X dL_law_k58.2.2.2.1 ic_2 ?_
    refine k_iadd X dL_law_k58.2.2.2.2 ?_
    refine k_to z_5 ez_5.symm ?_
    refine k_sld X hX hbl hbA dL_law_k59.1.1.1 (by rw [vp_in_iff]; have := iv_7; omega) ?_
    refine k_to a_8 ea_8.symm ?_
    refine k_aload_n X dL_law_k59.1.1.2.1 4 rfl ?_
    refine k_iload X dL_law_k59.1.1.2.2 0 rfl ?_
    refine k_iconst (v := 3) X dL_law_k59.1.2.1 ic_3 ?_
    refine k_iadd X dL_law_k59.1.2.2.1 ?_
    refine k_to z_9 ez_9.symm ?_
    refine k_sld X hX hbl hbA dL_law_k59.1.2.2.2 (by rw [vp_in_iff]; have := iv_11; omega) ?_
    refine k_to a_12 ea_12.symm ?_
    refine k_if_eq 1250 X dL_law_k59.2.1.1 (jp_e rfl) (fun h_18 => ?_) (fun h_18 => absurd h_13 h_18)
    refine k_iconst (v := 0) X dL_law_k59.2.2.1.1 ic_0 ?_
    refine lm_truly (st := []) a_4 a_8 0 X hm dL_law_k59.2.2.1.2 mw1151 (Nat.le_of_ble_eq_true rfl) (Nat.le_of_ble_eq_true rfl) (Nat.le_of_ble_eq_true rfl) (Nat.le_trans h1 (Nat.le_of_ble_eq_true rfl)) (Nat.le_trans h2 (Nat.le_of_ble_eq_true rfl)) (fun r_19 mw_20 hm_21 => ?_)
    refine k_pop2 X dL_law_k59.2.2.2.1 rfl ?_
    refine k_goto 2062 X dL_law_k59.2.2.2.2 (jp_e rfl) ?_
    exact kk _ _ _ _ _ _ _ _ _ _ _ _ _ _ _ _ _ _ _ _ _ _ _ _ _ _ _ _ _ _ _ _ _ _ _ _ _ _ _ _ hx_17 hm_21 hR
  · skip
    refine k_iconst (v := 1) X dL_law_k58.1.1.1.2 ic_1 ?_
    refine k_goto 1220 X dL_law_k58.1.1.2.1 (jp_e rfl) ?_
    refine lx_truly (st := []) a_4 a_8 1 X hx dL_law_k58.1.2.1.1 mw1113 (Nat.le_of_ble_eq_true rfl) (Nat.le_of_ble_eq_true rfl) (Nat.le_of_ble_eq_true rfl) (Nat.le_trans h1 (Nat.le_of_ble_eq_true rfl)) (Nat.le_trans h2 (Nat.le_of_ble_eq_true rfl)) (fun r_22 xw_23 hx_24 => ?_)
    refine k_pop2 X dL_law_k58.1.2.1.2 rfl ?_
    refine k_aload_n X dL_law_k58.1.2.2.1 2 rfl ?_
    refine k_aload_n X dL_law_k58.1.2.2.2 4 rfl ?_
    refine k_iload X dL_law_k58.2.1.1.1 0 rfl ?_
    refine k_iconst (v := 1) X dL_law_k58.2.1.1.2 ic_1 ?_
    refine k_iadd X dL_law_k58.2.1.2.1 ?_
    refine k_to z_1 ez_1.symm ?_
    refine k_sld X hX hbl hbA dL_law_k58.2.1.2.2 (by rw [vp_in_iff]; have := iv_3; omega) ?_
    refine k_to a_4 ea_4.symm ?_
    refine k_aload_n X dL_law_k58.2.2.1.1 4 rfl ?_
    refine k_iload X dL_law_k58.2.2.1.2 0 rfl ?_
    refine k_iconst (v := 2) X dL_law_k58.2.2.2.1 ic_2 ?_
    refine k_iadd X dL_law_k58.2.2.2.2 ?_
    refine k_to z_5 ez_5.symm ?_
    refine k_sld X hX hbl hbA dL_law_k59.1.1.1 (by rw [vp_in_iff]; have := iv_7; omega) ?_
    refine k_to a_8 ea_8.symm ?_
    refine k_aload_n X dL_law_k59.1.1.2.1 4 rfl ?_
    refine k_iload X dL_law_k59.1.1.2.2 0 rfl ?_
    refine k_iconst (v := 3) X dL_law_k59.1.2.1 ic_3 ?_
    refine k_iadd X dL_law_k59.1.2.2.1 ?_
    refine k_to z_9 ez_9.symm ?_
    refine k_sld X hX hbl hbA dL_law_k59.1.2.2.2 (by rw [vp_in_iff]; have := iv_11; omega) ?_
    refine k_to a_12 ea_12.symm ?_
    refine k_if_eq 1250 X dL_law_k59.2.1.1 (jp_e rfl) (fun h_25 => absurd h_25 h_13) (fun h_25 => ?_)
    refine k_iconst (v := 1) X dL_law_k59.2.1.2.1 ic_1 ?_
    refine k_goto 1251 X dL_law_k59.2.1.2.2 (jp_e rfl) ?_
    refine lm_truly (st := []) a_4 a_8 1 X hm dL_law_k59.2.2.1.2 mw1151 (Nat.le_of_ble_eq_true rfl) (Nat.le_of_ble_eq_true rfl) (Nat.le_of_ble_eq_true rfl) (Nat.le_trans h1 (Nat.le_of_ble_eq_true rfl)) (Nat.le_trans h2 (Nat.le_of_ble_eq_true rfl)) (fun r_26 mw_27 hm_28 => ?_)
    refine k_pop2 X dL_law_k59.2.2.2.1 rfl ?_
    refine k_goto 2062 X dL_law_k59.2.2.2.2 (jp_e rfl) ?_
    exact kk _ _ _ _ _ _ _ _ _ _ _ _ _ _ _ _ _ _ _ _ _ _ _ _ _ _ _ _ _ _ _ _ _ _ _ _ _ _ _ _ hx_24 hm_28 hR

theorem dL_law_k60 : ((((dD cL_law 1258 (.aload_n 1) 1 ∧ dD cL_law 1259 (.aload_n 0) 1) ∧ (dD cL_law 1260 (.iload 4) 2 ∧ dD cL_law 1262 (.iconst 1) 1)) ∧ ((dD cL_law 1263 .iadd 1 ∧ dD cL_law 1264 .iaload 1) ∧ (dD cL_law 1265 (.invokevirtual 143) 3 ∧ dD cL_law 1268 .pop 1))) ∧ (((dD cL_law 1269 (.aload_n 2) 1 ∧ dD cL_law 1270 (.aload_n 0) 1) ∧ (dD cL_law 1271 (.iload 4) 2 ∧ dD cL_law 1273 (.iconst 1) 1)) ∧ ((dD cL_law 1274 .iadd 1 ∧ dD cL_law 1275 .iaload 1) ∧ (dD cL_law 1276 (.invokevirtual 146) 3 ∧ dD cL_law 1279 .pop 1)))) := dkA16 (by decide +kernel)
theorem dL_law_k61 : dD cL_law 1280 (.goto 782) 3 := dkA1 (by decide +kernel)
set_option maxHeartbeats 4000000 in
set_option maxRecDepth 100000 in
theorem law_c30 {p : Program} {l : Launch} {e : Env} {s : State} {m : MethodId} {below : List Frame} {meth : Method} {c : Code} {A : Nat → Prop} {g : Gx} {b L : Nat} {xs : Nat → Int32} {h0 mo lo n1 n2 : Nat} {fo : Nat → Int64} {u4 : Int32} {xtpd : Int32} {tpf : Nat → Int32} {yhnf : Nat → Int32} {yhtn : Int32} {yhtf : Nat → Int32} {yhjn : Int32} {yhjf : Nat → Int32} {yhmn : Int32} {yhmf : Nat → Int32} {yhbn : Int32} {yhbf : Nat → Int32} {yhsn : Int32} {yhsf : Nat → Int32} {yhcn : Int32} {yhcf : Nat → Int32} {zrn : Int32} {zmn : Int32} {zwn : Int32} {zpn : Int32} {zmd : Int32} {ztr : Int32} {zrf : Nat → Int32} {zmf : Nat → Int32} {zwf : Nat → Int32} {zpf : Nat → Int32} {kac : Int32} {knx : Int32} {kim : Int32} {cf : Nat → SC} {m_taped : Int32} {d_tape : Nat → Int32} {d_r : Nat → Int32} {d_st : Nat → Int32} {d_undone : Nat → Int32} {d_kept : Nat → Int32} {m_undos : Int32} {m_images : Int32} {m_hasHouse : Int32} {xw mw : va_W} (X : Cx p s m meth c #[Value.ref b] cL_law 7 RL A g) (hX : va_X b L xs s s.heap) (hbl : b < s.heap.size) (hbA : ¬ A b) (hi : 0 ≤ u4.toInt ∧ u4.toInt + 6 ≤ (L : Int)) (hL : L ≤ 3072) (h1 : n1 ≤ 601023) (h2 : n2 ≤ 7293028) (hlt : l.stackTraces = false) (hZ : kZ A s s.heap) (htsE : ∀ w ∈ wsE, w.before #[Value.ref b] s = true) (hx : XW g h0 xtpd tpf yhnf yhtn yhtf yhjn yhjf yhmn yhmf yhbn yhbf yhsn yhsf yhcn yhcf zrn zmn zwn zpn zmd ztr zrf zmf zwf zpf kac knx kim cf xw) (hm : MW g mo m_taped d_tape d_r d_st d_undone d_kept m_undos m_images m_hasHouse mw) (hR : LR xtpd tpf yhnf yhtn yhtf yhjn yhjf yhmn yhmf yhbn yhbf yhsn yhsf yhcn yhcf zrn zmn zwn zpn zmd ztr zrf zmf zwf zpf kac knx kim cf m_taped d_tape d_r d_st d_undone d_kept m_undos m_images m_hasHouse) (kk : ∀ (xtpd_2 : Int32) (tpf_2 : Nat → Int32) (yhnf_2 : Nat → Int32) (yhtn_2 : Int32) (yhtf_2 : Nat → Int32) (yhjn_2 : Int32) (yhjf_2 : Nat → Int32) (yhmn_2 : Int32) (yhmf_2 : Nat → Int32) (yhbn_2 : Int32) (yhbf_2 : Nat → Int32) (yhsn_2 : Int32) (yhsf_2 : Nat → Int32) (yhcn_2 : Int32) (yhcf_2 : Nat → Int32) (zrn_2 : Int32) (zmn_2 : Int32) (zwn_2 : Int32) (zpn_2 : Int32) (zmd_2 : Int32) (ztr_2 : Int32) (zrf_2 : Nat → Int32) (zmf_2 : Nat → Int32) (zwf_2 : Nat → Int32) (zpf_2 : Nat → Int32) (kac_2 : Int32) (knx_2 : Int32) (kim_2 : Int32) (cf_2 : Nat → SC) (m_taped_2 : Int32) (d_tape_2 : Nat → Int32) (d_r_2 : Nat → Int32) (d_st_2 : Nat → Int32) (d_undone_2 : Nat → Int32) (d_kept_2 : Nat → Int32) (m_undos_2 : Int32) (m_images_2 : Int32) (m_hasHouse_2 : Int32) (xw2 mw2 : va_W), XW g h0 xtpd_2 tpf_2 yhnf_2 yhtn_2 yhtf_2 yhjn_2 yhjf_2 yhmn_2 yhmf_2 yhbn_2 yhbf_2 yhsn_2 yhsf_2 yhcn_2 yhcf_2 zrn_2 zmn_2 zwn_2 zpn_2 zmd_2 ztr_2 zrf_2 zmf_2 zwf_2 zpf_2 kac_2 knx_2 kim_2 cf_2 xw2 → MW g mo m_taped_2 d_tape_2 d_r_2 d_st_2 d_undone_2 d_kept_2 m_undos_2 m_images_2 m_hasHouse_2 mw2 → LR xtpd_2 tpf_2 yhnf_2 yhtn_2 yhtf_2 yhjn_2 yhjf_2 yhmn_2 yhmf_2 yhbn_2 yhbf_2 yhsn_2 yhsf_2 yhcn_2 yhcf_2 zrn_2 zmn_2 zwn_2 zpn_2 zmd_2 ztr_2 zrf_2 zmf_2 zwf_2 zpf_2 kac_2 knx_2 kim_2 cf_2 m_taped_2 d_tape_2 d_r_2 d_st_2 d_undone_2 d_kept_2 m_undos_2 m_images_2 m_hasHouse_2 → Wk p l e room_1 s m #[Value.ref b] below meth c (lw_Z below #[Value.ref b] s) A g 7 n1 n2 (xw2 ++ (mw2 ++ [(cAJ g lo 1 fo)])) [(4, .int u4), (3, .ref lo), (2, .ref mo), (1, .ref h0), (0, .ref b)] 2062 []) : Wk p l e room_1 s m #[Value.ref b] below meth c (lw_Z below #[Value.ref b] s) A g 7 n1 n2 (xw ++ (mw ++ [(cAJ g lo 1 fo)])) [(4, .int u4), (3, .ref lo), (2, .ref mo), (1, .ref h0), (0, .ref b)] 1258 [] := by
  have hiv : IV u4 0 3066 := ⟨hi.1, by omega⟩
  refine k_aload_n X dL_law_k60.1.1.1.1 3 rfl ?_
  refine k_aload_n X dL_law_k60.1.1.1.2 4 rfl ?_
  refine k_iload X dL_law_k60.1.1.2.1 0 rfl ?_
  refine k_iconst (v := 1) X dL_law_k60.1.1.2.2 ic_1 ?_
  refine k_iadd X dL_law_k60.1.2.1.1 ?_
  refine k_nm (fun z_1 ez_1 => ?_)
  have i_2 : z_1.toInt = u4.toInt + 1 := in_add ez_1 hiv iq_1_1_1 (zle_e rfl) (zle_e rfl)
  have iv_3 : IV z_1 1 3067 := by have := hiv; have := iq_1_1_1; rw [IV, i_2]; omega
  refine k_sld X hX hbl hbA dL_law_k60.1.2.1.2 (by rw [vp_in_iff]; have := iv_3; omega) ?_
  refine k_nm (fun a_4 ea_4 => ?_)
  refine lx_likeliest (st := []) a_4 X hx dL_law_k60.1.2.2.1 mw1170 (Nat.le_of_ble_eq_true rfl) (Nat.le_of_ble_eq_true rfl) (Nat.le_of_ble_eq_true rfl) (Nat.le_trans h1 (Nat.le_of_ble_eq_true rfl)) (Nat.le_trans h2 (Nat.le_of_ble_eq_true rfl)) (fun r_5 xw_6 hx_7 => ?_)
  refine k_pop X dL_law_k60.1.2.2.2 rfl ?_
  refine k_aload_n X dL_law_k60.2.1.1.1 2 rfl ?_
  refine k_aload_n X dL_law_k60.2.1.1.2 4 rfl ?_
  refine k_iload X dL_law_k60.2.1.2.1 0 rfl ?_
  refine k_iconst (v := 1) X dL_law_k60.2.1.2.2 ic_1 ?_
  refine k_iadd X dL_law_k60.2.2.1.1 ?_
  refine k_to z_1 ez_1.symm ?_
  refine k_sld X hX hbl hbA dL_law_k60.2.2.1.2 (by rw [vp_in_iff]; have := iv_3; omega) ?_
  refine k_to a_4 ea_4.symm ?_
  refine lm_likeliest (st := []) a_4 X hm dL_law_k60.2.2.2.1 mw1178 (Nat.le_of_ble_eq_true rfl) (Nat.le_of_ble_eq_true rfl) (Nat.le_of_ble_eq_true rfl) (Nat.le_trans h1 (Nat.le_of_ble_eq_true rfl)) (Nat.le_trans h2 (Nat.le_of_ble_eq_true rfl)) (fun r_8 mw_9 hm_10 => ?_)
  refine k_pop X dL_law_k60.2.2.2.2 rfl ?_
  refine k_goto 2062 X dL_law_k61 (jp_e rfl) ?_
  exact kk _ _ _ _ _ _ _ _ _ _ _ _ _ _ _ _ _ _ _ _ _ _ _ _ _ _ _ _ _ _ _ _ _ _ _ _ _ _ _ _ hx_7 hm_10 hR

theorem dL_law_k62 : ((((dD cL_law 1283 (.aload_n 1) 1 ∧ dD cL_law 1284 (.aload_n 0) 1) ∧ (dD cL_law 1285 (.iload 4) 2 ∧ dD cL_law 1287 (.iconst 1) 1)) ∧ ((dD cL_law 1288 .iadd 1 ∧ dD cL_law 1289 .iaload 1) ∧ (dD cL_law 1290 (.invokevirtual 147) 3 ∧ dD cL_law 1293 .pop 1))) ∧ (((dD cL_law 1294 (.aload_n 2) 1 ∧ dD cL_law 1295 (.aload_n 0) 1) ∧ (dD cL_law 1296 (.iload 4) 2 ∧ dD cL_law 1298 (.iconst 1) 1)) ∧ ((dD cL_law 1299 .iadd 1 ∧ dD cL_law 1300 .iaload 1) ∧ (dD cL_law 1301 (.invokevirtual 150) 3 ∧ dD cL_law 1304 .pop 1)))) := dkA16 (by decide +kernel)
theorem dL_law_k63 : dD cL_law 1305 (.goto 757) 3 := dkA1 (by decide +kernel)
set_option maxHeartbeats 4000000 in
set_option maxRecDepth 100000 in
theorem law_c31 {p : Program} {l : Launch} {e : Env} {s : State} {m : MethodId} {below : List Frame} {meth : Method} {c : Code} {A : Nat → Prop} {g : Gx} {b L : Nat} {xs : Nat → Int32} {h0 mo lo n1 n2 : Nat} {fo : Nat → Int64} {u4 : Int32} {xtpd : Int32} {tpf : Nat → Int32} {yhnf : Nat → Int32} {yhtn : Int32} {yhtf : Nat → Int32} {yhjn : Int32} {yhjf : Nat → Int32} {yhmn : Int32} {yhmf : Nat → Int32} {yhbn : Int32} {yhbf : Nat → Int32} {yhsn : Int32} {yhsf : Nat → Int32} {yhcn : Int32} {yhcf : Nat → Int32} {zrn : Int32} {zmn : Int32} {zwn : Int32} {zpn : Int32} {zmd : Int32} {ztr : Int32} {zrf : Nat → Int32} {zmf : Nat → Int32} {zwf : Nat → Int32} {zpf : Nat → Int32} {kac : Int32} {knx : Int32} {kim : Int32} {cf : Nat → SC} {m_taped : Int32} {d_tape : Nat → Int32} {d_r : Nat → Int32} {d_st : Nat → Int32} {d_undone : Nat → Int32} {d_kept : Nat → Int32} {m_undos : Int32} {m_images : Int32} {m_hasHouse : Int32} {xw mw : va_W} (X : Cx p s m meth c #[Value.ref b] cL_law 7 RL A g) (hX : va_X b L xs s s.heap) (hbl : b < s.heap.size) (hbA : ¬ A b) (hi : 0 ≤ u4.toInt ∧ u4.toInt + 6 ≤ (L : Int)) (hL : L ≤ 3072) (h1 : n1 ≤ 601023) (h2 : n2 ≤ 7293028) (hlt : l.stackTraces = false) (hZ : kZ A s s.heap) (htsE : ∀ w ∈ wsE, w.before #[Value.ref b] s = true) (hx : XW g h0 xtpd tpf yhnf yhtn yhtf yhjn yhjf yhmn yhmf yhbn yhbf yhsn yhsf yhcn yhcf zrn zmn zwn zpn zmd ztr zrf zmf zwf zpf kac knx kim cf xw) (hm : MW g mo m_taped d_tape d_r d_st d_undone d_kept m_undos m_images m_hasHouse mw) (hR : LR xtpd tpf yhnf yhtn yhtf yhjn yhjf yhmn yhmf yhbn yhbf yhsn yhsf yhcn yhcf zrn zmn zwn zpn zmd ztr zrf zmf zwf zpf kac knx kim cf m_taped d_tape d_r d_st d_undone d_kept m_undos m_images m_hasHouse) (kk : ∀ (xtpd_2 : Int32) (tpf_2 : Nat → Int32) (yhnf_2 : Nat → Int32) (yhtn_2 : Int32) (yhtf_2 : Nat → Int32) (yhjn_2 : Int32) (yhjf_2 : Nat → Int32) (yhmn_2 : Int32) (yhmf_2 : Nat → Int32) (yhbn_2 : Int32) (yhbf_2 : Nat → Int32) (yhsn_2 : Int32) (yhsf_2 : Nat → Int32) (yhcn_2 : Int32) (yhcf_2 : Nat → Int32) (zrn_2 : Int32) (zmn_2 : Int32) (zwn_2 : Int32) (zpn_2 : Int32) (zmd_2 : Int32) (ztr_2 : Int32) (zrf_2 : Nat → Int32) (zmf_2 : Nat → Int32) (zwf_2 : Nat → Int32) (zpf_2 : Nat → Int32) (kac_2 : Int32) (knx_2 : Int32) (kim_2 : Int32) (cf_2 : Nat → SC) (m_taped_2 : Int32) (d_tape_2 : Nat → Int32) (d_r_2 : Nat → Int32) (d_st_2 : Nat → Int32) (d_undone_2 : Nat → Int32) (d_kept_2 : Nat → Int32) (m_undos_2 : Int32) (m_images_2 : Int32) (m_hasHouse_2 : Int32) (xw2 mw2 : va_W), XW g h0 xtpd_2 tpf_2 yhnf_2 yhtn_2 yhtf_2 yhjn_2 yhjf_2 yhmn_2 yhmf_2 yhbn_2 yhbf_2 yhsn_2 yhsf_2 yhcn_2 yhcf_2 zrn_2 zmn_2 zwn_2 zpn_2 zmd_2 ztr_2 zrf_2 zmf_2 zwf_2 zpf_2 kac_2 knx_2 kim_2 cf_2 xw2 → MW g mo m_taped_2 d_tape_2 d_r_2 d_st_2 d_undone_2 d_kept_2 m_undos_2 m_images_2 m_hasHouse_2 mw2 → LR xtpd_2 tpf_2 yhnf_2 yhtn_2 yhtf_2 yhjn_2 yhjf_2 yhmn_2 yhmf_2 yhbn_2 yhbf_2 yhsn_2 yhsf_2 yhcn_2 yhcf_2 zrn_2 zmn_2 zwn_2 zpn_2 zmd_2 ztr_2 zrf_2 zmf_2 zwf_2 zpf_2 kac_2 knx_2 kim_2 cf_2 m_taped_2 d_tape_2 d_r_2 d_st_2 d_undone_2 d_kept_2 m_undos_2 m_images_2 m_hasHouse_2 → Wk p l e room_1 s m #[Value.ref b] below meth c (lw_Z below #[Value.ref b] s) A g 7 n1 n2 (xw2 ++ (mw2 ++ [(cAJ g lo 1 fo)])) [(4, .int u4), (3, .ref lo), (2, .ref mo), (1, .ref h0), (0, .ref b)] 2062 []) : Wk p l e room_1 s m #[Value.ref b] below meth c (lw_Z below #[Value.ref b] s) A g 7 n1 n2 (xw ++ (mw ++ [(cAJ g lo 1 fo)])) [(4, .int u4), (3, .ref lo), (2, .ref mo), (1, .ref h0), (0, .ref b)] 1283 [] := by
  have hiv : IV u4 0 3066 := ⟨hi.1, by omega⟩
  refine k_aload_n X dL_law_k62.1.1.1.1 3 rfl ?_
  refine k_aload_n X dL_law_k62.1.1.1.2 4 rfl ?_
  refine k_iload X dL_law_k62.1.1.2.1 0 rfl ?_
  refine k_iconst (v := 1) X dL_law_k62.1.1.2.2 ic_1 ?_
  refine k_iadd X dL_law_k62.1.2.1.1 ?_
  refine k_nm (fun z_1 ez_1 => ?_)
  have i_2 : z_1.toInt = u4.toInt + 1 := in_add ez_1 hiv iq_1_1_1 (zle_e rfl) (zle_e rfl)
  have iv_3 : IV z_1 1 3067 := by have := hiv; have := iq_1_1_1; rw [IV, i_2]; omega
  refine k_sld X hX hbl hbA dL_law_k62.1.2.1.2 (by rw [vp_in_iff]; have := iv_3; omega) ?_
  refine k_nm (fun a_4 ea_4 => ?_)
  refine lx_who (st := []) a_4 X hx dL_law_k62.1.2.2.1 mw1182 (Nat.le_of_ble_eq_true rfl) (Nat.le_of_ble_eq_true rfl) (Nat.le_of_ble_eq_true rfl) (Nat.le_trans h1 (Nat.le_of_ble_eq_true rfl)) (Nat.le_trans h2 (Nat.le_of_ble_eq_true rfl)) (fun r_5 xw_6 hx_7 => ?_)
  refine k_pop X dL_law_k62.1.2.2.2 rfl ?_
  refine k_aload_n X dL_law_k62.2.1.1.1 2 rfl ?_
  refine k_aload_n X dL_law_k62.2.1.1.2 4 rfl ?_
  refine k_iload X dL_law_k62.2.1.2.1 0 rfl ?_
  refine k_iconst (v := 1) X dL_law_k62.2.1.2.2 ic_1 ?_
  refine k_iadd X dL_law_k62.2.2.1.1 ?_
  refine k_to z_1 ez_1.symm ?_
  refine k_sld X hX hbl hbA dL_law_k62.2.2.1.2 (by rw [vp_in_iff]; have := iv_3; omega) ?_
  refine k_to a_4 ea_4.symm ?_
  refine lm_who (st := []) a_4 X hm dL_law_k62.2.2.2.1 mw1196 (Nat.le_of_ble_eq_true rfl) (Nat.le_of_ble_eq_true rfl) (Nat.le_of_ble_eq_true rfl) (Nat.le_trans h1 (Nat.le_of_ble_eq_true rfl)) (Nat.le_trans h2 (Nat.le_of_ble_eq_true rfl)) (fun r_8 mw_9 hm_10 => ?_)
  refine k_pop X dL_law_k62.2.2.2.2 rfl ?_
  refine k_goto 2062 X dL_law_k63 (jp_e rfl) ?_
  exact kk _ _ _ _ _ _ _ _ _ _ _ _ _ _ _ _ _ _ _ _ _ _ _ _ _ _ _ _ _ _ _ _ _ _ _ _ _ _ _ _ hx_7 hm_10 hR

theorem dL_law_k64 : ((((dD cL_law 1308 (.aload_n 1) 1 ∧ dD cL_law 1309 (.aload_n 0) 1) ∧ (dD cL_law 1310 (.iload 4) 2 ∧ dD cL_law 1312 (.iconst 1) 1)) ∧ ((dD cL_law 1313 .iadd 1 ∧ dD cL_law 1314 .iaload 1) ∧ (dD cL_law 1315 (.invokevirtual 151) 3 ∧ dD cL_law 1318 .pop 1))) ∧ (((dD cL_law 1319 (.aload_n 2) 1 ∧ dD cL_law 1320 (.aload_n 0) 1) ∧ (dD cL_law 1321 (.iload 4) 2 ∧ dD cL_law 1323 (.iconst 1) 1)) ∧ ((dD cL_law 1324 .iadd 1 ∧ dD cL_law 1325 .iaload 1) ∧ (dD cL_law 1326 (.invokevirtual 154) 3 ∧ dD cL_law 1329 .pop 1)))) := dkA16 (by decide +kernel)
theorem dL_law_k65 : dD cL_law 1330 (.goto 732) 3 := dkA1 (by decide +kernel)
set_option maxHeartbeats 4000000 in
set_option maxRecDepth 100000 in
theorem law_c32 {p : Program} {l : Launch} {e : Env} {s : State} {m : MethodId} {below : List Frame} {meth : Method} {c : Code} {A : Nat → Prop} {g : Gx} {b L : Nat} {xs : Nat → Int32} {h0 mo lo n1 n2 : Nat} {fo : Nat → Int64} {u4 : Int32} {xtpd : Int32} {tpf : Nat → Int32} {yhnf : Nat → Int32} {yhtn : Int32} {yhtf : Nat → Int32} {yhjn : Int32} {yhjf : Nat → Int32} {yhmn : Int32} {yhmf : Nat → Int32} {yhbn : Int32} {yhbf : Nat → Int32} {yhsn : Int32} {yhsf : Nat → Int32} {yhcn : Int32} {yhcf : Nat → Int32} {zrn : Int32} {zmn : Int32} {zwn : Int32} {zpn : Int32} {zmd : Int32} {ztr : Int32} {zrf : Nat → Int32} {zmf : Nat → Int32} {zwf : Nat → Int32} {zpf : Nat → Int32} {kac : Int32} {knx : Int32} {kim : Int32} {cf : Nat → SC} {m_taped : Int32} {d_tape : Nat → Int32} {d_r : Nat → Int32} {d_st : Nat → Int32} {d_undone : Nat → Int32} {d_kept : Nat → Int32} {m_undos : Int32} {m_images : Int32} {m_hasHouse : Int32} {xw mw : va_W} (X : Cx p s m meth c #[Value.ref b] cL_law 7 RL A g) (hX : va_X b L xs s s.heap) (hbl : b < s.heap.size) (hbA : ¬ A b) (hi : 0 ≤ u4.toInt ∧ u4.toInt + 6 ≤ (L : Int)) (hL : L ≤ 3072) (h1 : n1 ≤ 601023) (h2 : n2 ≤ 7293028) (hlt : l.stackTraces = false) (hZ : kZ A s s.heap) (htsE : ∀ w ∈ wsE, w.before #[Value.ref b] s = true) (hx : XW g h0 xtpd tpf yhnf yhtn yhtf yhjn yhjf yhmn yhmf yhbn yhbf yhsn yhsf yhcn yhcf zrn zmn zwn zpn zmd ztr zrf zmf zwf zpf kac knx kim cf xw) (hm : MW g mo m_taped d_tape d_r d_st d_undone d_kept m_undos m_images m_hasHouse mw) (hR : LR xtpd tpf yhnf yhtn yhtf yhjn yhjf yhmn yhmf yhbn yhbf yhsn yhsf yhcn yhcf zrn zmn zwn zpn zmd ztr zrf zmf zwf zpf kac knx kim cf m_taped d_tape d_r d_st d_undone d_kept m_undos m_images m_hasHouse) (kk : ∀ (xtpd_2 : Int32) (tpf_2 : Nat → Int32) (yhnf_2 : Nat → Int32) (yhtn_2 : Int32) (yhtf_2 : Nat → Int32) (yhjn_2 : Int32) (yhjf_2 : Nat → Int32) (yhmn_2 : Int32) (yhmf_2 : Nat → Int32) (yhbn_2 : Int32) (yhbf_2 : Nat → Int32) (yhsn_2 : Int32) (yhsf_2 : Nat → Int32) (yhcn_2 : Int32) (yhcf_2 : Nat → Int32) (zrn_2 : Int32) (zmn_2 : Int32) (zwn_2 : Int32) (zpn_2 : Int32) (zmd_2 : Int32) (ztr_2 : Int32) (zrf_2 : Nat → Int32) (zmf_2 : Nat → Int32) (zwf_2 : Nat → Int32) (zpf_2 : Nat → Int32) (kac_2 : Int32) (knx_2 : Int32) (kim_2 : Int32) (cf_2 : Nat → SC) (m_taped_2 : Int32) (d_tape_2 : Nat → Int32) (d_r_2 : Nat → Int32) (d_st_2 : Nat → Int32) (d_undone_2 : Nat → Int32) (d_kept_2 : Nat → Int32) (m_undos_2 : Int32) (m_images_2 : Int32) (m_hasHouse_2 : Int32) (xw2 mw2 : va_W), XW g h0 xtpd_2 tpf_2 yhnf_2 yhtn_2 yhtf_2 yhjn_2 yhjf_2 yhmn_2 yhmf_2 yhbn_2 yhbf_2 yhsn_2 yhsf_2 yhcn_2 yhcf_2 zrn_2 zmn_2 zwn_2 zpn_2 zmd_2 ztr_2 zrf_2 zmf_2 zwf_2 zpf_2 kac_2 knx_2 kim_2 cf_2 xw2 → MW g mo m_taped_2 d_tape_2 d_r_2 d_st_2 d_undone_2 d_kept_2 m_undos_2 m_images_2 m_hasHouse_2 mw2 → LR xtpd_2 tpf_2 yhnf_2 yhtn_2 yhtf_2 yhjn_2 yhjf_2 yhmn_2 yhmf_2 yhbn_2 yhbf_2 yhsn_2 yhsf_2 yhcn_2 yhcf_2 zrn_2 zmn_2 zwn_2 zpn_2 zmd_2 ztr_2 zrf_2 zmf_2 zwf_2 zpf_2 kac_2 knx_2 kim_2 cf_2 m_taped_2 d_tape_2 d_r_2 d_st_2 d_undone_2 d_kept_2 m_undos_2 m_images_2 m_hasHouse_2 → Wk p l e room_1 s m #[Value.ref b] below meth c (lw_Z below #[Value.ref b] s) A g 7 n1 n2 (xw2 ++ (mw2 ++ [(cAJ g lo 1 fo)])) [(4, .int u4), (3, .ref lo), (2, .ref mo), (1, .ref h0), (0, .ref b)] 2062 []) : Wk p l e room_1 s m #[Value.ref b] below meth c (lw_Z below #[Value.ref b] s) A g 7 n1 n2 (xw ++ (mw ++ [(cAJ g lo 1 fo)])) [(4, .int u4), (3, .ref lo), (2, .ref mo), (1, .ref h0), (0, .ref b)] 1308 [] := by
  have hiv : IV u4 0 3066 := ⟨hi.1, by omega⟩
  refine k_aload_n X dL_law_k64.1.1.1.1 3 rfl ?_
  refine k_aload_n X dL_law_k64.1.1.1.2 4 rfl ?_
  refine k_iload X dL_law_k64.1.1.2.1 0 rfl ?_
  refine k_iconst (v := 1) X dL_law_k64.1.1.2.2 ic_1 ?_
  refine k_iadd X dL_law_k64.1.2.1.1 ?_
  refine k_nm (fun z_1 ez_1 => ?_)
  have i_2 : z_1.toInt = u4.toInt + 1 := in_add ez_1 hiv iq_1_1_1 (zle_e rfl) (zle_e rfl)
  have iv_3 : IV z_1 1 3067 := by have := hiv; have := iq_1_1_1; rw [IV, i_2]; omega
  refine k_sld X hX hbl hbA dL_law_k64.1.2.1.2 (by rw [vp_in_iff]; have := iv_3; omega) ?_
  refine k_nm (fun a_4 ea_4 => ?_)
  refine lx_far (st := []) a_4 X hx dL_law_k64.1.2.2.1 mw1210 (Nat.le_of_ble_eq_true rfl) (Nat.le_of_ble_eq_true rfl) (Nat.le_of_ble_eq_true rfl) (Nat.le_trans h1 (Nat.le_of_ble_eq_true rfl)) (Nat.le_trans h2 (Nat.le_of_ble_eq_true rfl)) (fun r_5 xw_6 hx_7 => ?_)
  refine k_pop X dL_law_k64.1.2.2.2 rfl ?_
  refine k_aload_n X dL_law_k64.2.1.1.1 2 rfl ?_
  refine k_aload_n X dL_law_k64.2.1.1.2 4 rfl ?_
  refine k_iload X dL_law_k64.2.1.2.1 0 rfl ?_
  refine k_iconst (v := 1) X dL_law_k64.2.1.2.2 ic_1 ?_
  refine k_iadd X dL_law_k64.2.2.1.1 ?_
  refine k_to z_1 ez_1.symm ?_
  refine k_sld X hX hbl hbA dL_law_k64.2.2.1.2 (by rw [vp_in_iff]; have := iv_3; omega) ?_
  refine k_to a_4 ea_4.symm ?_
  refine lm_far (st := []) a_4 X hm dL_law_k64.2.2.2.1 mw1214 (Nat.le_of_ble_eq_true rfl) (Nat.le_of_ble_eq_true rfl) (Nat.le_of_ble_eq_true rfl) (Nat.le_trans h1 (Nat.le_of_ble_eq_true rfl)) (Nat.le_trans h2 (Nat.le_of_ble_eq_true rfl)) (fun r_8 mw_9 hm_10 => ?_)
  refine k_pop X dL_law_k64.2.2.2.2 rfl ?_
  refine k_goto 2062 X dL_law_k65 (jp_e rfl) ?_
  exact kk _ _ _ _ _ _ _ _ _ _ _ _ _ _ _ _ _ _ _ _ _ _ _ _ _ _ _ _ _ _ _ _ _ _ _ _ _ _ _ _ hx_7 hm_10 hR

theorem dL_law_k66 : ((((dD cL_law 1333 (.aload_n 1) 1 ∧ dD cL_law 1334 (.aload_n 0) 1) ∧ (dD cL_law 1335 (.iload 4) 2 ∧ dD cL_law 1337 (.iconst 1) 1)) ∧ ((dD cL_law 1338 .iadd 1 ∧ dD cL_law 1339 .iaload 1) ∧ (dD cL_law 1340 (.aload_n 0) 1 ∧ dD cL_law 1341 (.iload 4) 2))) ∧ (((dD cL_law 1343 (.iconst 2) 1 ∧ dD cL_law 1344 .iadd 1) ∧ (dD cL_law 1345 .iaload 1 ∧ dD cL_law 1346 (.ifCond .eq 7) 3)) ∧ ((dD cL_law 1349 (.iconst 1) 1 ∧ dD cL_law 1350 (.goto 4) 3) ∧ (dD cL_law 1353 (.iconst 0) 1 ∧ dD cL_law 1354 (.invokevirtual 155) 3)))) := dkA16 (by decide +kernel)
theorem dL_law_k67 : ((((dD cL_law 1357 .pop 1 ∧ dD cL_law 1358 (.aload_n 2) 1) ∧ (dD cL_law 1359 (.aload_n 0) 1 ∧ dD cL_law 1360 (.iload 4) 2)) ∧ ((dD cL_law 1362 (.iconst 1) 1 ∧ dD cL_law 1363 .iadd 1) ∧ (dD cL_law 1364 .iaload 1 ∧ dD cL_law 1365 (.aload_n 0) 1))) ∧ (((dD cL_law 1366 (.iload 4) 2 ∧ dD cL_law 1368 (.iconst 2) 1) ∧ (dD cL_law 1369 .iadd 1 ∧ dD cL_law 1370 .iaload 1)) ∧ ((dD cL_law 1371 (.ifCond .eq 7) 3 ∧ dD cL_law 1374 (.iconst 1) 1) ∧ (dD cL_law 1375 (.goto 4) 3 ∧ dD cL_law 1378 (.iconst 0) 1)))) := dkA16 (by decide +kernel)
theorem dL_law_k68 : (dD cL_law 1379 (.invokevirtual 159) 3 ∧ (dD cL_law 1382 .pop 1 ∧ dD cL_law 1383 (.goto 679) 3)) := dkA3 (by decide +kernel)
set_option maxHeartbeats 4000000 in
set_option maxRecDepth 100000 in
theorem law_c33 {p : Program} {l : Launch} {e : Env} {s : State} {m : MethodId} {below : List Frame} {meth : Method} {c : Code} {A : Nat → Prop} {g : Gx} {b L : Nat} {xs : Nat → Int32} {h0 mo lo n1 n2 : Nat} {fo : Nat → Int64} {u4 : Int32} {xtpd : Int32} {tpf : Nat → Int32} {yhnf : Nat → Int32} {yhtn : Int32} {yhtf : Nat → Int32} {yhjn : Int32} {yhjf : Nat → Int32} {yhmn : Int32} {yhmf : Nat → Int32} {yhbn : Int32} {yhbf : Nat → Int32} {yhsn : Int32} {yhsf : Nat → Int32} {yhcn : Int32} {yhcf : Nat → Int32} {zrn : Int32} {zmn : Int32} {zwn : Int32} {zpn : Int32} {zmd : Int32} {ztr : Int32} {zrf : Nat → Int32} {zmf : Nat → Int32} {zwf : Nat → Int32} {zpf : Nat → Int32} {kac : Int32} {knx : Int32} {kim : Int32} {cf : Nat → SC} {m_taped : Int32} {d_tape : Nat → Int32} {d_r : Nat → Int32} {d_st : Nat → Int32} {d_undone : Nat → Int32} {d_kept : Nat → Int32} {m_undos : Int32} {m_images : Int32} {m_hasHouse : Int32} {xw mw : va_W} (X : Cx p s m meth c #[Value.ref b] cL_law 7 RL A g) (hX : va_X b L xs s s.heap) (hbl : b < s.heap.size) (hbA : ¬ A b) (hi : 0 ≤ u4.toInt ∧ u4.toInt + 6 ≤ (L : Int)) (hL : L ≤ 3072) (h1 : n1 ≤ 601023) (h2 : n2 ≤ 7293028) (hlt : l.stackTraces = false) (hZ : kZ A s s.heap) (htsE : ∀ w ∈ wsE, w.before #[Value.ref b] s = true) (hx : XW g h0 xtpd tpf yhnf yhtn yhtf yhjn yhjf yhmn yhmf yhbn yhbf yhsn yhsf yhcn yhcf zrn zmn zwn zpn zmd ztr zrf zmf zwf zpf kac knx kim cf xw) (hm : MW g mo m_taped d_tape d_r d_st d_undone d_kept m_undos m_images m_hasHouse mw) (hR : LR xtpd tpf yhnf yhtn yhtf yhjn yhjf yhmn yhmf yhbn yhbf yhsn yhsf yhcn yhcf zrn zmn zwn zpn zmd ztr zrf zmf zwf zpf kac knx kim cf m_taped d_tape d_r d_st d_undone d_kept m_undos m_images m_hasHouse) (kk : ∀ (xtpd_2 : Int32) (tpf_2 : Nat → Int32) (yhnf_2 : Nat → Int32) (yhtn_2 : Int32) (yhtf_2 : Nat → Int32) (yhjn_2 : Int32) (yhjf_2 : Nat → Int32) (yhmn_2 : Int32) (yhmf_2 : Nat → Int32) (yhbn_2 : Int32) (yhbf_2 : Nat → Int32) (yhsn_2 : Int32) (yhsf_2 : Nat → Int32) (yhcn_2 : Int32) (yhcf_2 : Nat → Int32) (zrn_2 : Int32) (zmn_2 : Int32) (zwn_2 : Int32) (zpn_2 : Int32) (zmd_2 : Int32) (ztr_2 : Int32) (zrf_2 : Nat → Int32) (zmf_2 : Nat → Int32) (zwf_2 : Nat → Int32) (zpf_2 : Nat → Int32) (kac_2 : Int32) (knx_2 : Int32) (kim_2 : Int32) (cf_2 : Nat → SC) (m_taped_2 : Int32) (d_tape_2 : Nat → Int32) (d_r_2 : Nat → Int32) (d_st_2 : Nat → Int32) (d_undone_2 : Nat → Int32) (d_kept_2 : Nat → Int32) (m_undos_2 : Int32) (m_images_2 : Int32) (m_hasHouse_2 : Int32) (xw2 mw2 : va_W), XW g h0 xtpd_2 tpf_2 yhnf_2 yhtn_2 yhtf_2 yhjn_2 yhjf_2 yhmn_2 yhmf_2 yhbn_2 yhbf_2 yhsn_2 yhsf_2 yhcn_2 yhcf_2 zrn_2 zmn_2 zwn_2 zpn_2 zmd_2 ztr_2 zrf_2 zmf_2 zwf_2 zpf_2 kac_2 knx_2 kim_2 cf_2 xw2 → MW g mo m_taped_2 d_tape_2 d_r_2 d_st_2 d_undone_2 d_kept_2 m_undos_2 m_images_2 m_hasHouse_2 mw2 → LR xtpd_2 tpf_2 yhnf_2 yhtn_2 yhtf_2 yhjn_2 yhjf_2 yhmn_2 yhmf_2 yhbn_2 yhbf_2 yhsn_2 yhsf_2 yhcn_2 yhcf_2 zrn_2 zmn_2 zwn_2 zpn_2 zmd_2 ztr_2 zrf_2 zmf_2 zwf_2 zpf_2 kac_2 knx_2 kim_2 cf_2 m_taped_2 d_tape_2 d_r_2 d_st_2 d_undone_2 d_kept_2 m_undos_2 m_images_2 m_hasHouse_2 → Wk p l e room_1 s m #[Value.ref b] below meth c (lw_Z below #[Value.ref b] s) A g 7 n1 n2 (xw2 ++ (mw2 ++ [(cAJ g lo 1 fo)])) [(4, .int u4), (3, .ref lo), (2, .ref mo), (1, .ref h0), (0, .ref b)] 2062 []) : Wk p l e room_1 s m #[Value.ref b] below meth c (lw_Z below #[Value.ref b] s) A g 7 n1 n2 (xw ++ (mw ++ [(cAJ g lo 1 fo)])) [(4, .int u4), (3, .ref lo), (2, .ref mo), (1, .ref h0), (0, .ref b)] 1333 [] := by
  have hiv : IV u4 0 3066 := ⟨hi.1, by omega⟩
  refine k_aload_n X dL_law_k66.1.1.1.1 3 rfl ?_
  refine k_aload_n X dL_law_k66.1.1.1.2 4 rfl ?_
  refine k_iload X dL_law_k66.1.1.2.1 0 rfl ?_
  refine k_iconst (v := 1) X dL_law_k66.1.1.2.2 ic_1 ?_
  refine k_iadd X dL_law_k66.1.2.1.1 ?_
  refine k_nm (fun z_1 ez_1 => ?_)
  have i_2 : z_1.toInt = u4.toInt + 1 := in_add ez_1 hiv iq_1_1_1 (zle_e rfl) (zle_e rfl)
  have iv_3 : IV z_1 1 3067 := by have := hiv; have := iq_1_1_1; rw [IV, i_2]; omega
  refine k_sld X hX hbl hbA dL_law_k66.1.2.1.2 (by rw [vp_in_iff]; have := iv_3; omega) ?_
  refine k_nm (fun a_4 ea_4 => ?_)
  refine k_aload_n X dL_law_k66.1.2.2.1 4 rfl ?_
  refine k_iload X dL_law_k66.1.2.2.2 0 rfl ?_
  refine k_iconst (v := 2) X dL_law_k66.2.1.1.1 ic_2 ?_
  refine k_iadd X dL_law_k66.2.1.1.2 ?_
  refine k_nm (fun z_5 ez_5 => ?_)
  have i_6 : z_5.toInt = u4.toInt + 2 := in_add ez_5 hiv iq_2_2_2 (zle_e rfl) (zle_e rfl)
  have iv_7 : IV z_5 2 3068 := by have := hiv; have := iq_2_2_2; rw [IV, i_6]; omega
  refine k_sld X hX hbl hbA dL_law_k66.2.1.2.1 (by rw [vp_in_iff]; have := iv_7; omega) ?_
  refine k_nm (fun a_8 ea_8 => ?_)
  refine k_if_eq 1353 X dL_law_k66.2.1.2.2 (jp_e rfl) (fun h_9 => ?_) (fun h_9 => ?_)
  · skip
    have iv_10 : IV a_8 0 0 := iv_meet (iv_any a_8) (iv_e h_9 iq_0_0_0) (zle_o rfl) (zle_o rfl)
    refine k_iconst (v := 0) X dL_law_k66.2.2.2.1 ic_0 ?_
    refine lx_missing (st := []) a_4 0 X hx dL_law_k66.2.2.2.2 mw1218 (Nat.le_of_ble_eq_true rfl) (Nat.le_of_ble_eq_true rfl) (Nat.le_of_ble_eq_true rfl) (Nat.le_trans h1 (Nat.le_of_ble_eq_true rfl)) (Nat.le_trans h2 (Nat.le_of_ble_eq_true rfl)) (fun r_11 xw_12 hx_13 => ?_)
    refine k_pop X dL_law_k67.1.1.1.1 rfl ?_
    refine k_aload_n X dL_law_k67.1.1.1.2 2 rfl ?_
    refine k_aload_n X dL_law_k67.1.1.2.1 4 rfl ?_
    refine k_iload X dL_law_k67.1.1.2.2 0 rfl ?_
    refine k_iconst (v := 1) X dL_law_k67.1.2.1.1 ic_1 ?_
    refine k_iadd X dL_law_k67.1.2.1.2 ?_
    refine k_to z_1 ez_1.symm ?_
    refine k_sld X hX hbl hbA dL_law_k67.1.2.2.1 (by rw [vp_in_iff]; have := iv_3; omega) ?_
    refine k_to a_4 ea_4.symm ?_
    refine k_aload_n X dL_law_k67.1.2.2.2 4 rfl ?_
    refine k_iload X dL_law_k67.2.1.1.1 0 rfl ?_
    refine k_iconst (v := 2) X dL_law_k67.2.1.1.2 ic_2 ?_
    refine k_iadd X dL_law_k67.2.1.2.1 ?_
    refine k_to z_5 ez_5.symm ?_
    refine k_sld X hX hbl hbA dL_law_k67.2.1.2.2 (by rw [vp_in_iff]; have := iv_7; omega) ?_
    refine k_to a_8 ea_8.symm ?_
    refine k_if_eq 1378 X dL_law_k67.2.2.1.1 (jp_e rfl) (fun h_14 => ?_) (fun h_14 => absurd h_9 h_14)
    refine k_iconst (v := 0) X dL_law_k67.2.2.2.2 ic_0 ?_
    refine lm_missing (st := []) a_4 0 X hm dL_law_k68.1 mw1227 (Nat.le_of_ble_eq_true rfl) (Nat.le_of_ble_eq_true rfl) (Nat.le_of_ble_eq_true rfl) (Nat.le_trans h1 (Nat.le_of_ble_eq_true rfl)) (Nat.le_trans h2 (Nat.le_of_ble_eq_true rfl)) (fun r_15 mw_16 hm_17 => ?_)
    refine k_pop X dL_law_k68.2.1 rfl ?_
    refine k_goto 2062 X dL_law_k68.2.2 (jp_e rfl) ?_
    exact kk _ _ _ _ _ _ _ _ _ _ _ _ _ _ _ _ _ _ _ _ _ _ _ _ _ _ _ _ _ _ _ _ _ _ _ _ _ _ _ _ hx_13 hm_17 hR
  · skip
    refine k_iconst (v := 1) X dL_law_k66.2.2.1.1 ic_1 ?_
    refine k_goto 1354 X dL_law_k66.2.2.1.2 (jp_e rfl) ?_
    refine lx_missing (st := []) a_4 1 X hx dL_law_k66.2.2.2.2 mw1218 (Nat.le_of_ble_eq_true rfl) (Nat.le_of_ble_eq_true rfl) (Nat.le_of_ble_eq_true rfl) (Nat.le_trans h1 (Nat.le_of_ble_eq_true rfl)) (Nat.le_trans h2 (Nat.le_of_ble_eq_true rfl)) (fun r_18 xw_19 hx_20 => ?_)
    refine k_pop X dL_law_k67.1.1.1.1 rfl ?_
    refine k_aload_n X dL_law_k67.1.1.1.2 2 rfl ?_
    refine k_aload_n X dL_law_k67.1.1.2.1 4 rfl ?_
    refine k_iload X dL_law_k67.1.1.2.2 0 rfl ?_
    refine k_iconst (v := 1) X dL_law_k67.1.2.1.1 ic_1 ?_
    refine k_iadd X dL_law_k67.1.2.1.2 ?_
    refine k_to z_1 ez_1.symm ?_
    refine k_sld X hX hbl hbA dL_law_k67.1.2.2.1 (by rw [vp_in_iff]; have := iv_3; omega) ?_
    refine k_to a_4 ea_4.symm ?_
    refine k_aload_n X dL_law_k67.1.2.2.2 4 rfl ?_
    refine k_iload X dL_law_k67.2.1.1.1 0 rfl ?_
    refine k_iconst (v := 2) X dL_law_k67.2.1.1.2 ic_2 ?_
    refine k_iadd X dL_law_k67.2.1.2.1 ?_
    refine k_to z_5 ez_5.symm ?_
    refine k_sld X hX hbl hbA dL_law_k67.2.1.2.2 (by rw [vp_in_iff]; have := iv_7; omega) ?_
    refine k_to a_8 ea_8.symm ?_
    refine k_if_eq 1378 X dL_law_k67.2.2.1.1 (jp_e rfl) (fun h_21 => absurd h_21 h_9) (fun h_21 => ?_)
    refine k_iconst (v := 1) X dL_law_k67.2.2.1.2 ic_1 ?_
    refine k_goto 1379 X dL_law_k67.2.2.2.1 (jp_e rfl) ?_
    refine lm_missing (st := []) a_4 1 X hm dL_law_k68.1 mw1227 (Nat.le_of_ble_eq_true rfl) (Nat.le_of_ble_eq_true rfl) (Nat.le_of_ble_eq_true rfl) (Nat.le_trans h1 (Nat.le_of_ble_eq_true rfl)) (Nat.le_trans h2 (Nat.le_of_ble_eq_true rfl)) (fun r_22 mw_23 hm_24 => ?_)
    refine k_pop X dL_law_k68.2.1 rfl ?_
    refine k_goto 2062 X dL_law_k68.2.2 (jp_e rfl) ?_
    exact kk _ _ _ _ _ _ _ _ _ _ _ _ _ _ _ _ _ _ _ _ _ _ _ _ _ _ _ _ _ _ _ _ _ _ _ _ _ _ _ _ hx_20 hm_24 hR

theorem dL_law_k69 : ((((dD cL_law 1386 (.aload_n 1) 1 ∧ dD cL_law 1387 (.aload_n 0) 1) ∧ (dD cL_law 1388 (.iload 4) 2 ∧ dD cL_law 1390 (.iconst 1) 1)) ∧ ((dD cL_law 1391 .iadd 1 ∧ dD cL_law 1392 .iaload 1) ∧ (dD cL_law 1393 (.invokevirtual 160) 3 ∧ dD cL_law 1396 .pop 1))) ∧ (((dD cL_law 1397 (.aload_n 2) 1 ∧ dD cL_law 1398 (.aload_n 0) 1) ∧ (dD cL_law 1399 (.iload 4) 2 ∧ dD cL_law 1401 (.iconst 1) 1)) ∧ ((dD cL_law 1402 .iadd 1 ∧ dD cL_law 1403 .iaload 1) ∧ (dD cL_law 1404 (.invokevirtual 163) 3 ∧ dD cL_law 1407 .pop 1)))) := dkA16 (by decide +kernel)
theorem dL_law_k70 : dD cL_law 1408 (.goto 654) 3 := dkA1 (by decide +kernel)
set_option maxHeartbeats 4000000 in
set_option maxRecDepth 100000 in
theorem law_c34 {p : Program} {l : Launch} {e : Env} {s : State} {m : MethodId} {below : List Frame} {meth : Method} {c : Code} {A : Nat → Prop} {g : Gx} {b L : Nat} {xs : Nat → Int32} {h0 mo lo n1 n2 : Nat} {fo : Nat → Int64} {u4 : Int32} {xtpd : Int32} {tpf : Nat → Int32} {yhnf : Nat → Int32} {yhtn : Int32} {yhtf : Nat → Int32} {yhjn : Int32} {yhjf : Nat → Int32} {yhmn : Int32} {yhmf : Nat → Int32} {yhbn : Int32} {yhbf : Nat → Int32} {yhsn : Int32} {yhsf : Nat → Int32} {yhcn : Int32} {yhcf : Nat → Int32} {zrn : Int32} {zmn : Int32} {zwn : Int32} {zpn : Int32} {zmd : Int32} {ztr : Int32} {zrf : Nat → Int32} {zmf : Nat → Int32} {zwf : Nat → Int32} {zpf : Nat → Int32} {kac : Int32} {knx : Int32} {kim : Int32} {cf : Nat → SC} {m_taped : Int32} {d_tape : Nat → Int32} {d_r : Nat → Int32} {d_st : Nat → Int32} {d_undone : Nat → Int32} {d_kept : Nat → Int32} {m_undos : Int32} {m_images : Int32} {m_hasHouse : Int32} {xw mw : va_W} (X : Cx p s m meth c #[Value.ref b] cL_law 7 RL A g) (hX : va_X b L xs s s.heap) (hbl : b < s.heap.size) (hbA : ¬ A b) (hi : 0 ≤ u4.toInt ∧ u4.toInt + 6 ≤ (L : Int)) (hL : L ≤ 3072) (h1 : n1 ≤ 601023) (h2 : n2 ≤ 7293028) (hlt : l.stackTraces = false) (hZ : kZ A s s.heap) (htsE : ∀ w ∈ wsE, w.before #[Value.ref b] s = true) (hx : XW g h0 xtpd tpf yhnf yhtn yhtf yhjn yhjf yhmn yhmf yhbn yhbf yhsn yhsf yhcn yhcf zrn zmn zwn zpn zmd ztr zrf zmf zwf zpf kac knx kim cf xw) (hm : MW g mo m_taped d_tape d_r d_st d_undone d_kept m_undos m_images m_hasHouse mw) (hR : LR xtpd tpf yhnf yhtn yhtf yhjn yhjf yhmn yhmf yhbn yhbf yhsn yhsf yhcn yhcf zrn zmn zwn zpn zmd ztr zrf zmf zwf zpf kac knx kim cf m_taped d_tape d_r d_st d_undone d_kept m_undos m_images m_hasHouse) (kk : ∀ (xtpd_2 : Int32) (tpf_2 : Nat → Int32) (yhnf_2 : Nat → Int32) (yhtn_2 : Int32) (yhtf_2 : Nat → Int32) (yhjn_2 : Int32) (yhjf_2 : Nat → Int32) (yhmn_2 : Int32) (yhmf_2 : Nat → Int32) (yhbn_2 : Int32) (yhbf_2 : Nat → Int32) (yhsn_2 : Int32) (yhsf_2 : Nat → Int32) (yhcn_2 : Int32) (yhcf_2 : Nat → Int32) (zrn_2 : Int32) (zmn_2 : Int32) (zwn_2 : Int32) (zpn_2 : Int32) (zmd_2 : Int32) (ztr_2 : Int32) (zrf_2 : Nat → Int32) (zmf_2 : Nat → Int32) (zwf_2 : Nat → Int32) (zpf_2 : Nat → Int32) (kac_2 : Int32) (knx_2 : Int32) (kim_2 : Int32) (cf_2 : Nat → SC) (m_taped_2 : Int32) (d_tape_2 : Nat → Int32) (d_r_2 : Nat → Int32) (d_st_2 : Nat → Int32) (d_undone_2 : Nat → Int32) (d_kept_2 : Nat → Int32) (m_undos_2 : Int32) (m_images_2 : Int32) (m_hasHouse_2 : Int32) (xw2 mw2 : va_W), XW g h0 xtpd_2 tpf_2 yhnf_2 yhtn_2 yhtf_2 yhjn_2 yhjf_2 yhmn_2 yhmf_2 yhbn_2 yhbf_2 yhsn_2 yhsf_2 yhcn_2 yhcf_2 zrn_2 zmn_2 zwn_2 zpn_2 zmd_2 ztr_2 zrf_2 zmf_2 zwf_2 zpf_2 kac_2 knx_2 kim_2 cf_2 xw2 → MW g mo m_taped_2 d_tape_2 d_r_2 d_st_2 d_undone_2 d_kept_2 m_undos_2 m_images_2 m_hasHouse_2 mw2 → LR xtpd_2 tpf_2 yhnf_2 yhtn_2 yhtf_2 yhjn_2 yhjf_2 yhmn_2 yhmf_2 yhbn_2 yhbf_2 yhsn_2 yhsf_2 yhcn_2 yhcf_2 zrn_2 zmn_2 zwn_2 zpn_2 zmd_2 ztr_2 zrf_2 zmf_2 zwf_2 zpf_2 kac_2 knx_2 kim_2 cf_2 m_taped_2 d_tape_2 d_r_2 d_st_2 d_undone_2 d_kept_2 m_undos_2 m_images_2 m_hasHouse_2 → Wk p l e room_1 s m #[Value.ref b] below meth c (lw_Z below #[Value.ref b] s) A g 7 n1 n2 (xw2 ++ (mw2 ++ [(cAJ g lo 1 fo)])) [(4, .int u4), (3, .ref lo), (2, .ref mo), (1, .ref h0), (0, .ref b)] 2062 []) : Wk p l e room_1 s m #[Value.ref b] below meth c (lw_Z below #[Value.ref b] s) A g 7 n1 n2 (xw ++ (mw ++ [(cAJ g lo 1 fo)])) [(4, .int u4), (3, .ref lo), (2, .ref mo), (1, .ref h0), (0, .ref b)] 1386 [] := by
  have hiv : IV u4 0 3066 := ⟨hi.1, by omega⟩
  refine k_aload_n X dL_law_k69.1.1.1.1 3 rfl ?_
  refine k_aload_n X dL_law_k69.1.1.1.2 4 rfl ?_
  refine k_iload X dL_law_k69.1.1.2.1 0 rfl ?_
  refine k_iconst (v := 1) X dL_law_k69.1.1.2.2 ic_1 ?_
  refine k_iadd X dL_law_k69.1.2.1.1 ?_
  refine k_nm (fun z_1 ez_1 => ?_)
  have i_2 : z_1.toInt = u4.toInt + 1 := in_add ez_1 hiv iq_1_1_1 (zle_e rfl) (zle_e rfl)
  have iv_3 : IV z_1 1 3067 := by have := hiv; have := iq_1_1_1; rw [IV, i_2]; omega
  refine k_sld X hX hbl hbA dL_law_k69.1.2.1.2 (by rw [vp_in_iff]; have := iv_3; omega) ?_
  refine k_nm (fun a_4 ea_4 => ?_)
  refine lx_words (st := []) a_4 X hx dL_law_k69.1.2.2.1 mw1231 (Nat.le_of_ble_eq_true rfl) (Nat.le_of_ble_eq_true rfl) (Nat.le_of_ble_eq_true rfl) (Nat.le_trans h1 (Nat.le_of_ble_eq_true rfl)) (Nat.le_trans h2 (Nat.le_of_ble_eq_true rfl)) (fun r_5 xw_6 hx_7 => ?_)
  refine k_pop X dL_law_k69.1.2.2.2 rfl ?_
  refine k_aload_n X dL_law_k69.2.1.1.1 2 rfl ?_
  refine k_aload_n X dL_law_k69.2.1.1.2 4 rfl ?_
  refine k_iload X dL_law_k69.2.1.2.1 0 rfl ?_
  refine k_iconst (v := 1) X dL_law_k69.2.1.2.2 ic_1 ?_
  refine k_iadd X dL_law_k69.2.2.1.1 ?_
  refine k_to z_1 ez_1.symm ?_
  refine k_sld X hX hbl hbA dL_law_k69.2.2.1.2 (by rw [vp_in_iff]; have := iv_3; omega) ?_
  refine k_to a_4 ea_4.symm ?_
  refine lm_words (st := []) a_4 X hm dL_law_k69.2.2.2.1 mw1235 (Nat.le_of_ble_eq_true rfl) (Nat.le_of_ble_eq_true rfl) (Nat.le_of_ble_eq_true rfl) (Nat.le_trans h1 (Nat.le_of_ble_eq_true rfl)) (Nat.le_trans h2 (Nat.le_of_ble_eq_true rfl)) (fun r_8 mw_9 hm_10 => ?_)
  refine k_pop X dL_law_k69.2.2.2.2 rfl ?_
  refine k_goto 2062 X dL_law_k70 (jp_e rfl) ?_
  exact kk _ _ _ _ _ _ _ _ _ _ _ _ _ _ _ _ _ _ _ _ _ _ _ _ _ _ _ _ _ _ _ _ _ _ _ _ _ _ _ _ hx_7 hm_10 hR

theorem dL_law_k71 : ((((dD cL_law 1411 (.aload_n 1) 1 ∧ dD cL_law 1412 (.aload_n 0) 1) ∧ (dD cL_law 1413 (.iload 4) 2 ∧ dD cL_law 1415 (.iconst 1) 1)) ∧ ((dD cL_law 1416 .iadd 1 ∧ dD cL_law 1417 .iaload 1) ∧ (dD cL_law 1418 (.aload_n 0) 1 ∧ dD cL_law 1419 (.iload 4) 2))) ∧ (((dD cL_law 1421 (.iconst 2) 1 ∧ dD cL_law 1422 .iadd 1) ∧ (dD cL_law 1423 .iaload 1 ∧ dD cL_law 1424 (.aload_n 0) 1)) ∧ ((dD cL_law 1425 (.iload 4) 2 ∧ dD cL_law 1427 (.iconst 3) 1) ∧ (dD cL_law 1428 .iadd 1 ∧ dD cL_law 1429 .iaload 1)))) := dkA16 (by decide +kernel)
theorem dL_law_k72 : ((((dD cL_law 1430 (.ifCond .eq 7) 3 ∧ dD cL_law 1433 (.iconst 1) 1) ∧ (dD cL_law 1434 (.goto 4) 3 ∧ dD cL_law 1437 (.iconst 0) 1)) ∧ ((dD cL_law 1438 (.invokevirtual 164) 3 ∧ dD cL_law 1441 .pop2 1) ∧ (dD cL_law 1442 (.aload_n 2) 1 ∧ dD cL_law 1443 (.aload_n 0) 1))) ∧ (((dD cL_law 1444 (.iload 4) 2 ∧ dD cL_law 1446 (.iconst 1) 1) ∧ (dD cL_law 1447 .iadd 1 ∧ dD cL_law 1448 .iaload 1)) ∧ ((dD cL_law 1449 (.aload_n 0) 1 ∧ dD cL_law 1450 (.iload 4) 2) ∧ (dD cL_law 1452 (.iconst 2) 1 ∧ dD cL_law 1453 .iadd 1)))) := dkA16 (by decide +kernel)
theorem dL_law_k73 : (((dD cL_law 1454 .iaload 1 ∧ (dD cL_law 1455 (.aload_n 0) 1 ∧ dD cL_law 1456 (.iload 4) 2)) ∧ (dD cL_law 1458 (.iconst 3) 1 ∧ (dD cL_law 1459 .iadd 1 ∧ dD cL_law 1460 .iaload 1))) ∧ ((dD cL_law 1461 (.ifCond .eq 7) 3 ∧ (dD cL_law 1464 (.iconst 1) 1 ∧ dD cL_law 1465 (.goto 4) 3)) ∧ ((dD cL_law 1468 (.iconst 0) 1 ∧ dD cL_law 1469 (.invokevirtual 167) 3) ∧ (dD cL_law 1472 .pop2 1 ∧ dD cL_law 1473 (.goto 589) 3)))) := dkA13 (by decide +kernel)
set_option maxHeartbeats 4000000 in
set_option maxRecDepth 100000 in
theorem law_c35 {p : Program} {l : Launch} {e : Env} {s : State} {m : MethodId} {below : List Frame} {meth : Method} {c : Code} {A : Nat → Prop} {g : Gx} {b L : Nat} {xs : Nat → Int32} {h0 mo lo n1 n2 : Nat} {fo : Nat → Int64} {u4 : Int32} {xtpd : Int32} {tpf : Nat → Int32} {yhnf : Nat → Int32} {yhtn : Int32} {yhtf : Nat → Int32} {yhjn : Int32} {yhjf : Nat → Int32} {yhmn : Int32} {yhmf : Nat → Int32} {yhbn : Int32} {yhbf : Nat → Int32} {yhsn : Int32} {yhsf : Nat → Int32} {yhcn : Int32} {yhcf : Nat → Int32} {zrn : Int32} {zmn : Int32} {zwn : Int32} {zpn : Int32} {zmd : Int32} {ztr : Int32} {zrf : Nat → Int32} {zmf : Nat → Int32} {zwf : Nat → Int32} {zpf : Nat → Int32} {kac : Int32} {knx : Int32} {kim : Int32} {cf : Nat → SC} {m_taped : Int32} {d_tape : Nat → Int32} {d_r : Nat → Int32} {d_st : Nat → Int32} {d_undone : Nat → Int32} {d_kept : Nat → Int32} {m_undos : Int32} {m_images : Int32} {m_hasHouse : Int32} {xw mw : va_W} (X : Cx p s m meth c #[Value.ref b] cL_law 7 RL A g) (hX : va_X b L xs s s.heap) (hbl : b < s.heap.size) (hbA : ¬ A b) (hi : 0 ≤ u4.toInt ∧ u4.toInt + 6 ≤ (L : Int)) (hL : L ≤ 3072) (h1 : n1 ≤ 601023) (h2 : n2 ≤ 7293028) (hlt : l.stackTraces = false) (hZ : kZ A s s.heap) (htsE : ∀ w ∈ wsE, w.before #[Value.ref b] s = true) (hx : XW g h0 xtpd tpf yhnf yhtn yhtf yhjn yhjf yhmn yhmf yhbn yhbf yhsn yhsf yhcn yhcf zrn zmn zwn zpn zmd ztr zrf zmf zwf zpf kac knx kim cf xw) (hm : MW g mo m_taped d_tape d_r d_st d_undone d_kept m_undos m_images m_hasHouse mw) (hR : LR xtpd tpf yhnf yhtn yhtf yhjn yhjf yhmn yhmf yhbn yhbf yhsn yhsf yhcn yhcf zrn zmn zwn zpn zmd ztr zrf zmf zwf zpf kac knx kim cf m_taped d_tape d_r d_st d_undone d_kept m_undos m_images m_hasHouse) (kk : ∀ (xtpd_2 : Int32) (tpf_2 : Nat → Int32) (yhnf_2 : Nat → Int32) (yhtn_2 : Int32) (yhtf_2 : Nat → Int32) (yhjn_2 : Int32) (yhjf_2 : Nat → Int32) (yhmn_2 : Int32) (yhmf_2 : Nat → Int32) (yhbn_2 : Int32) (yhbf_2 : Nat → Int32) (yhsn_2 : Int32) (yhsf_2 : Nat → Int32) (yhcn_2 : Int32) (yhcf_2 : Nat → Int32) (zrn_2 : Int32) (zmn_2 : Int32) (zwn_2 : Int32) (zpn_2 : Int32) (zmd_2 : Int32) (ztr_2 : Int32) (zrf_2 : Nat → Int32) (zmf_2 : Nat → Int32) (zwf_2 : Nat → Int32) (zpf_2 : Nat → Int32) (kac_2 : Int32) (knx_2 : Int32) (kim_2 : Int32) (cf_2 : Nat → SC) (m_taped_2 : Int32) (d_tape_2 : Nat → Int32) (d_r_2 : Nat → Int32) (d_st_2 : Nat → Int32) (d_undone_2 : Nat → Int32) (d_kept_2 : Nat → Int32) (m_undos_2 : Int32) (m_images_2 : Int32) (m_hasHouse_2 : Int32) (xw2 mw2 : va_W), XW g h0 xtpd_2 tpf_2 yhnf_2 yhtn_2 yhtf_2 yhjn_2 yhjf_2 yhmn_2 yhmf_2 yhbn_2 yhbf_2 yhsn_2 yhsf_2 yhcn_2 yhcf_2 zrn_2 zmn_2 zwn_2 zpn_2 zmd_2 ztr_2 zrf_2 zmf_2 zwf_2 zpf_2 kac_2 knx_2 kim_2 cf_2 xw2 → MW g mo m_taped_2 d_tape_2 d_r_2 d_st_2 d_undone_2 d_kept_2 m_undos_2 m_images_2 m_hasHouse_2 mw2 → LR xtpd_2 tpf_2 yhnf_2 yhtn_2 yhtf_2 yhjn_2 yhjf_2 yhmn_2 yhmf_2 yhbn_2 yhbf_2 yhsn_2 yhsf_2 yhcn_2 yhcf_2 zrn_2 zmn_2 zwn_2 zpn_2 zmd_2 ztr_2 zrf_2 zmf_2 zwf_2 zpf_2 kac_2 knx_2 kim_2 cf_2 m_taped_2 d_tape_2 d_r_2 d_st_2 d_undone_2 d_kept_2 m_undos_2 m_images_2 m_hasHouse_2 → Wk p l e room_1 s m #[Value.ref b] below meth c (lw_Z below #[Value.ref b] s) A g 7 n1 n2 (xw2 ++ (mw2 ++ [(cAJ g lo 1 fo)])) [(4, .int u4), (3, .ref lo), (2, .ref mo), (1, .ref h0), (0, .ref b)] 2062 []) : Wk p l e room_1 s m #[Value.ref b] below meth c (lw_Z below #[Value.ref b] s) A g 7 n1 n2 (xw ++ (mw ++ [(cAJ g lo 1 fo)])) [(4, .int u4), (3, .ref lo), (2, .ref mo), (1, .ref h0), (0, .ref b)] 1411 [] := by
  have hiv : IV u4 0 3066 := ⟨hi.1, by omega⟩
  refine k_aload_n X dL_law_k71.1.1.1.1 3 rfl ?_
  refine k_aload_n X dL_law_k71.1.1.1.2 4 rfl ?_
  refine k_iload X dL_law_k71.1.1.2.1 0 rfl ?_
  refine k_iconst (v := 1) X dL_law_k71.1.1.2.2 ic_1 ?_
  refine k_iadd X dL_law_k71.1.2.1.1 ?_
  refine k_nm (fun z_1 ez_1 => ?_)
  have i_2 : z_1.toInt = u4.toInt + 1 := in_add ez_1 hiv iq_1_1_1 (zle_e rfl) (zle_e rfl)
  have iv_3 : IV z_1 1 3067 := by have := hiv; have := iq_1_1_1; rw [IV, i_2]; omega
  refine k_sld X hX hbl hbA dL_law_k71.1.2.1.2 (by rw [vp_in_iff]; have := iv_3; omega) ?_
  refine k_nm (fun a_4 ea_4 => ?_)
  refine k_aload_n X dL_law_k71.1.2.2.1 4 rfl ?_
  refine k_iload X dL_law_k71.1.2.2.2 0 rfl ?_
  refine k_iconst (v := 2) X dL_law_k71.2.1.1.1 ic_2 ?_
  refine k_iadd X dL_law_k71.2.1.1.2 ?_
  refine k_nm (fun z_5 ez_5 => ?_)
  have i_6 : z_5.toInt = u4.toInt + 2 := in_add ez_5 hiv iq_2_2_2 (zle_e rfl) (zle_e rfl)
  have iv_7 : IV z_5 2 3068 := by have := hiv; have := iq_2_2_2; rw [IV, i_6]; omega
  refine k_sld X hX hbl hbA dL_law_k71.2.1.2.1 (by rw [vp_in_iff]; have := iv_7; omega) ?_
  refine k_nm (fun a_8 ea_8 => ?_)
  refine k_aload_n X dL_law_k71.2.1.2.2 4 rfl ?_
  refine k_iload X dL_law_k71.2.2.1.1 0 rfl ?_
  refine k_iconst (v := 3) X dL_law_k71.2.2.1.2 ic_3 ?_
  refine k_iadd X dL_law_k71.2.2.2.1 ?_
  refine k_nm (fun z_9 ez_9 => ?_)
  have i_10 : z_9.toInt = u4.toInt + 3 := in_add ez_9 hiv iq_3_3_3 (zle_e rfl) (zle_e rfl)
  have iv_11 : IV z_9 3 3069 := by have := hiv; have := iq_3_3_3; rw [IV, i_10]; omega
  refine k_sld X hX hbl hbA dL_law_k71.2.2.2.2 (by rw [vp_in_iff]; have := iv_11; omega) ?_
  refine k_nm (fun a_12 ea_12 => ?_)
  refine k_if_eq 1437 X dL_law_k72.1.1.1.1 (jp_e rfl) (fun h_13 => ?_) (fun h_13 => ?_)
  · skip
    have iv_14 : IV a_12 0 0 := iv_meet (iv_any a_12) (iv_e h_13 iq_0_0_0) (zle_o rfl) (zle_o rfl)
    refine k_iconst (v := 0) X dL_law_k72.1.1.2.2 ic_0 ?_
    refine lx_holds (st := []) a_4 a_8 0 X hx dL_law_k72.1.2.1.1 mw1239 (Nat.le_of_ble_eq_true rfl) (Nat.le_of_ble_eq_true rfl) (Nat.le_of_ble_eq_true rfl) (Nat.le_trans h1 (Nat.le_of_ble_eq_true rfl)) (Nat.le_trans h2 (Nat.le_of_ble_eq_true rfl)) (fun r_15 xw_16 hx_17 => ?_)
    refine k_pop2 X dL_law_k72.1.2.1.2 rfl ?_
    refine k_aload_n X dL_law_k72.1.2.2.1 2 rfl ?_
    refine k_aload_n X dL_law_k72.1.2.2.2 4 rfl ?_
    refine k_iload X dL_law_k72.2.1.1.1 0 rfl ?_
    refine k_iconst (v := 1) X dL_law_k72.2.1.1.2 ic_1 ?_
    refine k_iadd X dL_law_k72.2.1.2.1 ?_
    refine k_to z_1 ez_1.symm ?_
    refine k_sld X hX hbl hbA dL_law_k72.2.1.2.2 (by rw [vp_in_iff]; have := iv_3; omega) ?_
    refine k_to a_4 ea_4.symm ?_
    refine k_aload_n X dL_law_k72.2.2.1.1 4 rfl ?_
    refine k_iload X dL_law_k72.2.2.1.2 0 rfl ?_
    refine k_iconst (v := 2) X dL_law_k72.2.2.2.1 ic_2 ?_
    refine k_iadd X dL_law_k72.2.2.2.2 ?_
    refine k_to z_5 ez_5.symm ?_
    refine k_sld X hX hbl hbA dL_law_k73.1.1.1 (by rw [vp_in_iff]; have := iv_7; omega) ?_
    refine k_to a_8 ea_8.symm ?_
    refine k_aload_n X dL_law_k73.1.1.2.1 4 rfl ?_
    refine k_iload X dL_law_k73.1.1.2.2 0 rfl ?_
    refine k_iconst (v := 3) X dL_law_k73.1.2.1 ic_3 ?_
    refine k_iadd X dL_law_k73.1.2.2.1 ?_
    refine k_to z_9 ez_9.symm ?_
    refine k_sld X hX hbl hbA dL_law_k73.1.2.2.2 (by rw [vp_in_iff]; have := iv_11; omega) ?_
    refine k_to a_12 ea_12.symm ?_
    refine k_if_eq 1468 X dL_law_k73.2.1.1 (jp_e rfl) (fun h_18 => ?_) (fun h_18 => absurd h_13 h_18)
    refine k_iconst (v := 0) X dL_law_k73.2.2.1.1 ic_0 ?_
    refine lm_holds (st := []) a_4 a_8 0 X hm dL_law_k73.2.2.1.2 mw1248 (Nat.le_of_ble_eq_true rfl) (Nat.le_of_ble_eq_true rfl) (Nat.le_of_ble_eq_true rfl) (Nat.le_trans h1 (Nat.le_of_ble_eq_true rfl)) (Nat.le_trans h2 (Nat.le_of_ble_eq_true rfl)) (fun r_19 mw_20 hm_21 => ?_)
    refine k_pop2 X dL_law_k73.2.2.2.1 rfl ?_
    refine k_goto 2062 X dL_law_k73.2.2.2.2 (jp_e rfl) ?_
    exact kk _ _ _ _ _ _ _ _ _ _ _ _ _ _ _ _ _ _ _ _ _ _ _ _ _ _ _ _ _ _ _ _ _ _ _ _ _ _ _ _ hx_17 hm_21 hR
  · skip
    refine k_iconst (v := 1) X dL_law_k72.1.1.1.2 ic_1 ?_
    refine k_goto 1438 X dL_law_k72.1.1.2.1 (jp_e rfl) ?_
    refine lx_holds (st := []) a_4 a_8 1 X hx dL_law_k72.1.2.1.1 mw1239 (Nat.le_of_ble_eq_true rfl) (Nat.le_of_ble_eq_true rfl) (Nat.le_of_ble_eq_true rfl) (Nat.le_trans h1 (Nat.le_of_ble_eq_true rfl)) (Nat.le_trans h2 (Nat.le_of_ble_eq_true rfl)) (fun r_22 xw_23 hx_24 => ?_)
    refine k_pop2 X dL_law_k72.1.2.1.2 rfl ?_
    refine k_aload_n X dL_law_k72.1.2.2.1 2 rfl ?_
    refine k_aload_n X dL_law_k72.1.2.2.2 4 rfl ?_
    refine k_iload X dL_law_k72.2.1.1.1 0 rfl ?_
    refine k_iconst (v := 1) X dL_law_k72.2.1.1.2 ic_1 ?_
    refine k_iadd X dL_law_k72.2.1.2.1 ?_
    refine k_to z_1 ez_1.symm ?_
    refine k_sld X hX hbl hbA dL_law_k72.2.1.2.2 (by rw [vp_in_iff]; have := iv_3; omega) ?_
    refine k_to a_4 ea_4.symm ?_
    refine k_aload_n X dL_law_k72.2.2.1.1 4 rfl ?_
    refine k_iload X dL_law_k72.2.2.1.2 0 rfl ?_
    refine k_iconst (v := 2) X dL_law_k72.2.2.2.1 ic_2 ?_
    refine k_iadd X dL_law_k72.2.2.2.2 ?_
    refine k_to z_5 ez_5.symm ?_
    refine k_sld X hX hbl hbA dL_law_k73.1.1.1 (by rw [vp_in_iff]; have := iv_7; omega) ?_
    refine k_to a_8 ea_8.symm ?_
    refine k_aload_n X dL_law_k73.1.1.2.1 4 rfl ?_
    refine k_iload X dL_law_k73.1.1.2.2 0 rfl ?_
    refine k_iconst (v := 3) X dL_law_k73.1.2.1 ic_3 ?_
    refine k_iadd X dL_law_k73.1.2.2.1 ?_
    refine k_to z_9 ez_9.symm ?_
    refine k_sld X hX hbl hbA dL_law_k73.1.2.2.2 (by rw [vp_in_iff]; have := iv_11; omega) ?_
    refine k_to a_12 ea_12.symm ?_
    refine k_if_eq 1468 X dL_law_k73.2.1.1 (jp_e rfl) (fun h_25 => absurd h_25 h_13) (fun h_25 => ?_)
    refine k_iconst (v := 1) X dL_law_k73.2.1.2.1 ic_1 ?_
    refine k_goto 1469 X dL_law_k73.2.1.2.2 (jp_e rfl) ?_
    refine lm_holds (st := []) a_4 a_8 1 X hm dL_law_k73.2.2.1.2 mw1248 (Nat.le_of_ble_eq_true rfl) (Nat.le_of_ble_eq_true rfl) (Nat.le_of_ble_eq_true rfl) (Nat.le_trans h1 (Nat.le_of_ble_eq_true rfl)) (Nat.le_trans h2 (Nat.le_of_ble_eq_true rfl)) (fun r_26 mw_27 hm_28 => ?_)
    refine k_pop2 X dL_law_k73.2.2.2.1 rfl ?_
    refine k_goto 2062 X dL_law_k73.2.2.2.2 (jp_e rfl) ?_
    exact kk _ _ _ _ _ _ _ _ _ _ _ _ _ _ _ _ _ _ _ _ _ _ _ _ _ _ _ _ _ _ _ _ _ _ _ _ _ _ _ _ hx_24 hm_28 hR

theorem dL_law_k74 : ((((dD cL_law 1476 (.aload_n 1) 1 ∧ dD cL_law 1477 (.aload_n 0) 1) ∧ (dD cL_law 1478 (.iload 4) 2 ∧ dD cL_law 1480 (.iconst 1) 1)) ∧ ((dD cL_law 1481 .iadd 1 ∧ dD cL_law 1482 .iaload 1) ∧ (dD cL_law 1483 (.aload_n 0) 1 ∧ dD cL_law 1484 (.iload 4) 2))) ∧ (((dD cL_law 1486 (.iconst 2) 1 ∧ dD cL_law 1487 .iadd 1) ∧ (dD cL_law 1488 .iaload 1 ∧ dD cL_law 1489 (.invokevirtual 168) 3)) ∧ ((dD cL_law 1492 .pop 1 ∧ dD cL_law 1493 (.aload_n 2) 1) ∧ (dD cL_law 1494 (.aload_n 0) 1 ∧ dD cL_law 1495 (.iload 4) 2)))) := dkA16 (by decide +kernel)
theorem dL_law_k75 : (((dD cL_law 1497 (.iconst 1) 1 ∧ dD cL_law 1498 .iadd 1) ∧ (dD cL_law 1499 .iaload 1 ∧ (dD cL_law 1500 (.aload_n 0) 1 ∧ dD cL_law 1501 (.iload 4) 2))) ∧ ((dD cL_law 1503 (.iconst 2) 1 ∧ (dD cL_law 1504 .iadd 1 ∧ dD cL_law 1505 .iaload 1)) ∧ (dD cL_law 1506 (.invokevirtual 171) 3 ∧ (dD cL_law 1509 .pop 1 ∧ dD cL_law 1510 (.goto 552) 3)))) := dkA11 (by decide +kernel)
set_option maxHeartbeats 4000000 in
set_option maxRecDepth 100000 in
theorem law_c36 {p : Program} {l : Launch} {e : Env} {s : State} {m : MethodId} {below : List Frame} {meth : Method} {c : Code} {A : Nat → Prop} {g : Gx} {b L : Nat} {xs : Nat → Int32} {h0 mo lo n1 n2 : Nat} {fo : Nat → Int64} {u4 : Int32} {xtpd : Int32} {tpf : Nat → Int32} {yhnf : Nat → Int32} {yhtn : Int32} {yhtf : Nat → Int32} {yhjn : Int32} {yhjf : Nat → Int32} {yhmn : Int32} {yhmf : Nat → Int32} {yhbn : Int32} {yhbf : Nat → Int32} {yhsn : Int32} {yhsf : Nat → Int32} {yhcn : Int32} {yhcf : Nat → Int32} {zrn : Int32} {zmn : Int32} {zwn : Int32} {zpn : Int32} {zmd : Int32} {ztr : Int32} {zrf : Nat → Int32} {zmf : Nat → Int32} {zwf : Nat → Int32} {zpf : Nat → Int32} {kac : Int32} {knx : Int32} {kim : Int32} {cf : Nat → SC} {m_taped : Int32} {d_tape : Nat → Int32} {d_r : Nat → Int32} {d_st : Nat → Int32} {d_undone : Nat → Int32} {d_kept : Nat → Int32} {m_undos : Int32} {m_images : Int32} {m_hasHouse : Int32} {xw mw : va_W} (X : Cx p s m meth c #[Value.ref b] cL_law 7 RL A g) (hX : va_X b L xs s s.heap) (hbl : b < s.heap.size) (hbA : ¬ A b) (hi : 0 ≤ u4.toInt ∧ u4.toInt + 6 ≤ (L : Int)) (hL : L ≤ 3072) (h1 : n1 ≤ 601023) (h2 : n2 ≤ 7293028) (hlt : l.stackTraces = false) (hZ : kZ A s s.heap) (htsE : ∀ w ∈ wsE, w.before #[Value.ref b] s = true) (hx : XW g h0 xtpd tpf yhnf yhtn yhtf yhjn yhjf yhmn yhmf yhbn yhbf yhsn yhsf yhcn yhcf zrn zmn zwn zpn zmd ztr zrf zmf zwf zpf kac knx kim cf xw) (hm : MW g mo m_taped d_tape d_r d_st d_undone d_kept m_undos m_images m_hasHouse mw) (hR : LR xtpd tpf yhnf yhtn yhtf yhjn yhjf yhmn yhmf yhbn yhbf yhsn yhsf yhcn yhcf zrn zmn zwn zpn zmd ztr zrf zmf zwf zpf kac knx kim cf m_taped d_tape d_r d_st d_undone d_kept m_undos m_images m_hasHouse) (kk : ∀ (xtpd_2 : Int32) (tpf_2 : Nat → Int32) (yhnf_2 : Nat → Int32) (yhtn_2 : Int32) (yhtf_2 : Nat → Int32) (yhjn_2 : Int32) (yhjf_2 : Nat → Int32) (yhmn_2 : Int32) (yhmf_2 : Nat → Int32) (yhbn_2 : Int32) (yhbf_2 : Nat → Int32) (yhsn_2 : Int32) (yhsf_2 : Nat → Int32) (yhcn_2 : Int32) (yhcf_2 : Nat → Int32) (zrn_2 : Int32) (zmn_2 : Int32) (zwn_2 : Int32) (zpn_2 : Int32) (zmd_2 : Int32) (ztr_2 : Int32) (zrf_2 : Nat → Int32) (zmf_2 : Nat → Int32) (zwf_2 : Nat → Int32) (zpf_2 : Nat → Int32) (kac_2 : Int32) (knx_2 : Int32) (kim_2 : Int32) (cf_2 : Nat → SC) (m_taped_2 : Int32) (d_tape_2 : Nat → Int32) (d_r_2 : Nat → Int32) (d_st_2 : Nat → Int32) (d_undone_2 : Nat → Int32) (d_kept_2 : Nat → Int32) (m_undos_2 : Int32) (m_images_2 : Int32) (m_hasHouse_2 : Int32) (xw2 mw2 : va_W), XW g h0 xtpd_2 tpf_2 yhnf_2 yhtn_2 yhtf_2 yhjn_2 yhjf_2 yhmn_2 yhmf_2 yhbn_2 yhbf_2 yhsn_2 yhsf_2 yhcn_2 yhcf_2 zrn_2 zmn_2 zwn_2 zpn_2 zmd_2 ztr_2 zrf_2 zmf_2 zwf_2 zpf_2 kac_2 knx_2 kim_2 cf_2 xw2 → MW g mo m_taped_2 d_tape_2 d_r_2 d_st_2 d_undone_2 d_kept_2 m_undos_2 m_images_2 m_hasHouse_2 mw2 → LR xtpd_2 tpf_2 yhnf_2 yhtn_2 yhtf_2 yhjn_2 yhjf_2 yhmn_2 yhmf_2 yhbn_2 yhbf_2 yhsn_2 yhsf_2 yhcn_2 yhcf_2 zrn_2 zmn_2 zwn_2 zpn_2 zmd_2 ztr_2 zrf_2 zmf_2 zwf_2 zpf_2 kac_2 knx_2 kim_2 cf_2 m_taped_2 d_tape_2 d_r_2 d_st_2 d_undone_2 d_kept_2 m_undos_2 m_images_2 m_hasHouse_2 → Wk p l e room_1 s m #[Value.ref b] below meth c (lw_Z below #[Value.ref b] s) A g 7 n1 n2 (xw2 ++ (mw2 ++ [(cAJ g lo 1 fo)])) [(4, .int u4), (3, .ref lo), (2, .ref mo), (1, .ref h0), (0, .ref b)] 2062 []) : Wk p l e room_1 s m #[Value.ref b] below meth c (lw_Z below #[Value.ref b] s) A g 7 n1 n2 (xw ++ (mw ++ [(cAJ g lo 1 fo)])) [(4, .int u4), (3, .ref lo), (2, .ref mo), (1, .ref h0), (0, .ref b)] 1476 [] := by
  have hiv : IV u4 0 3066 := ⟨hi.1, by omega⟩
  refine k_aload_n X dL_law_k74.1.1.1.1 3 rfl ?_
  refine k_aload_n X dL_law_k74.1.1.1.2 4 rfl ?_
  refine k_iload X dL_law_k74.1.1.2.1 0 rfl ?_
  refine k_iconst (v := 1) X dL_law_k74.1.1.2.2 ic_1 ?_
  refine k_iadd X dL_law_k74.1.2.1.1 ?_
  refine k_nm (fun z_1 ez_1 => ?_)
  have i_2 : z_1.toInt = u4.toInt + 1 := in_add ez_1 hiv iq_1_1_1 (zle_e rfl) (zle_e rfl)
  have iv_3 : IV z_1 1 3067 := by have := hiv; have := iq_1_1_1; rw [IV, i_2]; omega
  refine k_sld X hX hbl hbA dL_law_k74.1.2.1.2 (by rw [vp_in_iff]; have := iv_3; omega) ?_
  refine k_nm (fun a_4 ea_4 => ?_)
  refine k_aload_n X dL_law_k74.1.2.2.1 4 rfl ?_
  refine k_iload X dL_law_k74.1.2.2.2 0 rfl ?_
  refine k_iconst (v := 2) X dL_law_k74.2.1.1.1 ic_2 ?_
  refine k_iadd X dL_law_k74.2.1.1.2 ?_
  refine k_nm (fun z_5 ez_5 => ?_)
  have i_6 : z_5.toInt = u4.toInt + 2 := in_add ez_5 hiv iq_2_2_2 (zle_e rfl) (zle_e rfl)
  have iv_7 : IV z_5 2 3068 := by have := hiv; have := iq_2_2_2; rw [IV, i_6]; omega
  refine k_sld X hX hbl hbA dL_law_k74.2.1.2.1 (by rw [vp_in_iff]; have := iv_7; omega) ?_
  refine k_nm (fun a_8 ea_8 => ?_)
  refine lx_pays (st := []) a_4 a_8 X hx dL_law_k74.2.1.2.2 mw1259 (Nat.le_of_ble_eq_true rfl) (Nat.le_of_ble_eq_true rfl) (Nat.le_of_ble_eq_true rfl) (Nat.le_trans h1 (Nat.le_of_ble_eq_true rfl)) (Nat.le_trans h2 (Nat.le_of_ble_eq_true rfl)) (fun r_9 xw_10 hx_11 => ?_)
  refine k_pop X dL_law_k74.2.2.1.1 rfl ?_
  refine k_aload_n X dL_law_k74.2.2.1.2 2 rfl ?_
  refine k_aload_n X dL_law_k74.2.2.2.1 4 rfl ?_
  refine k_iload X dL_law_k74.2.2.2.2 0 rfl ?_
  refine k_iconst (v := 1) X dL_law_k75.1.1.1 ic_1 ?_
  refine k_iadd X dL_law_k75.1.1.2 ?_
  refine k_to z_1 ez_1.symm ?_
  refine k_sld X hX hbl hbA dL_law_k75.1.2.1 (by rw [vp_in_iff]; have := iv_3; omega) ?_
  refine k_to a_4 ea_4.symm ?_
  refine k_aload_n X dL_law_k75.1.2.2.1 4 rfl ?_
  refine k_iload X dL_law_k75.1.2.2.2 0 rfl ?_
  refine k_iconst (v := 2) X dL_law_k75.2.1.1 ic_2 ?_
  refine k_iadd X dL_law_k75.2.1.2.1 ?_
  refine k_to z_5 ez_5.symm ?_
  refine k_sld X hX hbl hbA dL_law_k75.2.1.2.2 (by rw [vp_in_iff]; have := iv_7; omega) ?_
  refine k_to a_8 ea_8.symm ?_
  refine lm_pays (st := []) a_4 a_8 X hm dL_law_k75.2.2.1 mw1265 (Nat.le_of_ble_eq_true rfl) (Nat.le_of_ble_eq_true rfl) (Nat.le_of_ble_eq_true rfl) (Nat.le_trans h1 (Nat.le_of_ble_eq_true rfl)) (Nat.le_trans h2 (Nat.le_of_ble_eq_true rfl)) (fun r_12 mw_13 hm_14 => ?_)
  refine k_pop X dL_law_k75.2.2.2.1 rfl ?_
  refine k_goto 2062 X dL_law_k75.2.2.2.2 (jp_e rfl) ?_
  exact kk _ _ _ _ _ _ _ _ _ _ _ _ _ _ _ _ _ _ _ _ _ _ _ _ _ _ _ _ _ _ _ _ _ _ _ _ _ _ _ _ hx_11 hm_14 hR

theorem dL_law_k76 : ((((dD cL_law 1513 (.aload_n 1) 1 ∧ dD cL_law 1514 (.aload_n 0) 1) ∧ (dD cL_law 1515 (.iload 4) 2 ∧ dD cL_law 1517 (.iconst 1) 1)) ∧ ((dD cL_law 1518 .iadd 1 ∧ dD cL_law 1519 .iaload 1) ∧ (dD cL_law 1520 (.aload_n 0) 1 ∧ dD cL_law 1521 (.iload 4) 2))) ∧ (((dD cL_law 1523 (.iconst 2) 1 ∧ dD cL_law 1524 .iadd 1) ∧ (dD cL_law 1525 .iaload 1 ∧ dD cL_law 1526 (.aload_n 0) 1)) ∧ ((dD cL_law 1527 (.iload 4) 2 ∧ dD cL_law 1529 (.iconst 3) 1) ∧ (dD cL_law 1530 .iadd 1 ∧ dD cL_law 1531 .iaload 1)))) := dkA16 (by decide +kernel)
theorem dL_law_k77 : ((((dD cL_law 1532 (.ifCond .eq 7) 3 ∧ dD cL_law 1535 (.iconst 1) 1) ∧ (dD cL_law 1536 (.goto 4) 3 ∧ dD cL_law 1539 (.iconst 0) 1)) ∧ ((dD cL_law 1540 (.invokevirtual 172) 3 ∧ dD cL_law 1543 .pop2 1) ∧ (dD cL_law 1544 (.aload_n 2) 1 ∧ dD cL_law 1545 (.aload_n 0) 1))) ∧ (((dD cL_law 1546 (.iload 4) 2 ∧ dD cL_law 1548 (.iconst 1) 1) ∧ (dD cL_law 1549 .iadd 1 ∧ dD cL_law 1550 .iaload 1)) ∧ ((dD cL_law 1551 (.aload_n 0) 1 ∧ dD cL_law 1552 (.iload 4) 2) ∧ (dD cL_law 1554 (.iconst 2) 1 ∧ dD cL_law 1555 .iadd 1)))) := dkA16 (by decide +kernel)
theorem dL_law_k78 : (((dD cL_law 1556 .iaload 1 ∧ (dD cL_law 1557 (.aload_n 0) 1 ∧ dD cL_law 1558 (.iload 4) 2)) ∧ (dD cL_law 1560 (.iconst 3) 1 ∧ (dD cL_law 1561 .iadd 1 ∧ dD cL_law 1562 .iaload 1))) ∧ ((dD cL_law 1563 (.ifCond .eq 7) 3 ∧ (dD cL_law 1566 (.iconst 1) 1 ∧ dD cL_law 1567 (.goto 4) 3)) ∧ ((dD cL_law 1570 (.iconst 0) 1 ∧ dD cL_law 1571 (.invokevirtual 175) 3) ∧ (dD cL_law 1574 .pop2 1 ∧ dD cL_law 1575 (.goto 487) 3)))) := dkA13 (by decide +kernel)
set_option maxHeartbeats 4000000 in
set_option maxRecDepth 100000 in
theorem law_c37 {p : Program} {l : Launch} {e : Env} {s : State} {m : MethodId} {below : List Frame} {meth : Method} {c : Code} {A : Nat → Prop} {g : Gx} {b L : Nat} {xs : Nat → Int32} {h0 mo lo n1 n2 : Nat} {fo : Nat → Int64} {u4 : Int32} {xtpd : Int32} {tpf : Nat → Int32} {yhnf : Nat → Int32} {yhtn : Int32} {yhtf : Nat → Int32} {yhjn : Int32} {yhjf : Nat → Int32} {yhmn : Int32} {yhmf : Nat → Int32} {yhbn : Int32} {yhbf : Nat → Int32} {yhsn : Int32} {yhsf : Nat → Int32} {yhcn : Int32} {yhcf : Nat → Int32} {zrn : Int32} {zmn : Int32} {zwn : Int32} {zpn : Int32} {zmd : Int32} {ztr : Int32} {zrf : Nat → Int32} {zmf : Nat → Int32} {zwf : Nat → Int32} {zpf : Nat → Int32} {kac : Int32} {knx : Int32} {kim : Int32} {cf : Nat → SC} {m_taped : Int32} {d_tape : Nat → Int32} {d_r : Nat → Int32} {d_st : Nat → Int32} {d_undone : Nat → Int32} {d_kept : Nat → Int32} {m_undos : Int32} {m_images : Int32} {m_hasHouse : Int32} {xw mw : va_W} (X : Cx p s m meth c #[Value.ref b] cL_law 7 RL A g) (hX : va_X b L xs s s.heap) (hbl : b < s.heap.size) (hbA : ¬ A b) (hi : 0 ≤ u4.toInt ∧ u4.toInt + 6 ≤ (L : Int)) (hL : L ≤ 3072) (h1 : n1 ≤ 601023) (h2 : n2 ≤ 7293028) (hlt : l.stackTraces = false) (hZ : kZ A s s.heap) (htsE : ∀ w ∈ wsE, w.before #[Value.ref b] s = true) (hx : XW g h0 xtpd tpf yhnf yhtn yhtf yhjn yhjf yhmn yhmf yhbn yhbf yhsn yhsf yhcn yhcf zrn zmn zwn zpn zmd ztr zrf zmf zwf zpf kac knx kim cf xw) (hm : MW g mo m_taped d_tape d_r d_st d_undone d_kept m_undos m_images m_hasHouse mw) (hR : LR xtpd tpf yhnf yhtn yhtf yhjn yhjf yhmn yhmf yhbn yhbf yhsn yhsf yhcn yhcf zrn zmn zwn zpn zmd ztr zrf zmf zwf zpf kac knx kim cf m_taped d_tape d_r d_st d_undone d_kept m_undos m_images m_hasHouse) (kk : ∀ (xtpd_2 : Int32) (tpf_2 : Nat → Int32) (yhnf_2 : Nat → Int32) (yhtn_2 : Int32) (yhtf_2 : Nat → Int32) (yhjn_2 : Int32) (yhjf_2 : Nat → Int32) (yhmn_2 : Int32) (yhmf_2 : Nat → Int32) (yhbn_2 : Int32) (yhbf_2 : Nat → Int32) (yhsn_2 : Int32) (yhsf_2 : Nat → Int32) (yhcn_2 : Int32) (yhcf_2 : Nat → Int32) (zrn_2 : Int32) (zmn_2 : Int32) (zwn_2 : Int32) (zpn_2 : Int32) (zmd_2 : Int32) (ztr_2 : Int32) (zrf_2 : Nat → Int32) (zmf_2 : Nat → Int32) (zwf_2 : Nat → Int32) (zpf_2 : Nat → Int32) (kac_2 : Int32) (knx_2 : Int32) (kim_2 : Int32) (cf_2 : Nat → SC) (m_taped_2 : Int32) (d_tape_2 : Nat → Int32) (d_r_2 : Nat → Int32) (d_st_2 : Nat → Int32) (d_undone_2 : Nat → Int32) (d_kept_2 : Nat → Int32) (m_undos_2 : Int32) (m_images_2 : Int32) (m_hasHouse_2 : Int32) (xw2 mw2 : va_W), XW g h0 xtpd_2 tpf_2 yhnf_2 yhtn_2 yhtf_2 yhjn_2 yhjf_2 yhmn_2 yhmf_2 yhbn_2 yhbf_2 yhsn_2 yhsf_2 yhcn_2 yhcf_2 zrn_2 zmn_2 zwn_2 zpn_2 zmd_2 ztr_2 zrf_2 zmf_2 zwf_2 zpf_2 kac_2 knx_2 kim_2 cf_2 xw2 → MW g mo m_taped_2 d_tape_2 d_r_2 d_st_2 d_undone_2 d_kept_2 m_undos_2 m_images_2 m_hasHouse_2 mw2 → LR xtpd_2 tpf_2 yhnf_2 yhtn_2 yhtf_2 yhjn_2 yhjf_2 yhmn_2 yhmf_2 yhbn_2 yhbf_2 yhsn_2 yhsf_2 yhcn_2 yhcf_2 zrn_2 zmn_2 zwn_2 zpn_2 zmd_2 ztr_2 zrf_2 zmf_2 zwf_2 zpf_2 kac_2 knx_2 kim_2 cf_2 m_taped_2 d_tape_2 d_r_2 d_st_2 d_undone_2 d_kept_2 m_undos_2 m_images_2 m_hasHouse_2 → Wk p l e room_1 s m #[Value.ref b] below meth c (lw_Z below #[Value.ref b] s) A g 7 n1 n2 (xw2 ++ (mw2 ++ [(cAJ g lo 1 fo)])) [(4, .int u4), (3, .ref lo), (2, .ref mo), (1, .ref h0), (0, .ref b)] 2062 []) : Wk p l e room_1 s m #[Value.ref b] below meth c (lw_Z below #[Value.ref b] s) A g 7 n1 n2 (xw ++ (mw ++ [(cAJ g lo 1 fo)])) [(4, .int u4), (3, .ref lo), (2, .ref mo), (1, .ref h0), (0, .ref b)] 1513 [] := by
  have hiv : IV u4 0 3066 := ⟨hi.1, by omega⟩
  refine k_aload_n X dL_law_k76.1.1.1.1 3 rfl ?_
  refine k_aload_n X dL_law_k76.1.1.1.2 4 rfl ?_
  refine k_iload X dL_law_k76.1.1.2.1 0 rfl ?_
  refine k_iconst (v := 1) X dL_law_k76.1.1.2.2 ic_1 ?_
  refine k_iadd X dL_law_k76.1.2.1.1 ?_
  refine k_nm (fun z_1 ez_1 => ?_)
  have i_2 : z_1.toInt = u4.toInt + 1 := in_add ez_1 hiv iq_1_1_1 (zle_e rfl) (zle_e rfl)
  have iv_3 : IV z_1 1 3067 := by have := hiv; have := iq_1_1_1; rw [IV, i_2]; omega
  refine k_sld X hX hbl hbA dL_law_k76.1.2.1.2 (by rw [vp_in_iff]; have := iv_3; omega) ?_
  refine k_nm (fun a_4 ea_4 => ?_)
  refine k_aload_n X dL_law_k76.1.2.2.1 4 rfl ?_
  refine k_iload X dL_law_k76.1.2.2.2 0 rfl ?_
  refine k_iconst (v := 2) X dL_law_k76.2.1.1.1 ic_2 ?_
  refine k_iadd X dL_law_k76.2.1.1.2 ?_
  refine k_nm (fun z_5 ez_5 => ?_)
  have i_6 : z_5.toInt = u4.toInt + 2 := in_add ez_5 hiv iq_2_2_2 (zle_e rfl) (zle_e rfl)
  have iv_7 : IV z_5 2 3068 := by have := hiv; have := iq_2_2_2; rw [IV, i_6]; omega
  refine k_sld X hX hbl hbA dL_law_k76.2.1.2.1 (by rw [vp_in_iff]; have := iv_7; omega) ?_
  refine k_nm (fun a_8 ea_8 => ?_)
  refine k_aload_n X dL_law_k76.2.1.2.2 4 rfl ?_
  refine k_iload X dL_law_k76.2.2.1.1 0 rfl ?_
  refine k_iconst (v := 3) X dL_law_k76.2.2.1.2 ic_3 ?_
  refine k_iadd X dL_law_k76.2.2.2.1 ?_
  refine k_nm (fun z_9 ez_9 => ?_)
  have i_10 : z_9.toInt = u4.toInt + 3 := in_add ez_9 hiv iq_3_3_3 (zle_e rfl) (zle_e rfl)
  have iv_11 : IV z_9 3 3069 := by have := hiv; have := iq_3_3_3; rw [IV, i_10]; omega
  refine k_sld X hX hbl hbA dL_law_k76.2.2.2.2 (by rw [vp_in_iff]; have := iv_11; omega) ?_
  refine k_nm (fun a_12 ea_12 => ?_)
  refine k_if_eq 1539 X dL_law_k77.1.1.1.1 (jp_e rfl) (fun h_13 => ?_) (fun h_13 => ?_)
  · skip
    have iv_14 : IV a_12 0 0 := iv_meet (iv_any a_12) (iv_e h_13 iq_0_0_0) (zle_o rfl) (zle_o rfl)
    refine k_iconst (v := 0) X dL_law_k77.1.1.2.2 ic_0 ?_
    refine lx_wears (st := []) a_4 a_8 0 X hx dL_law_k77.1.2.1.1 mw1270 (Nat.le_of_ble_eq_true rfl) (Nat.le_of_ble_eq_true rfl) (Nat.le_of_ble_eq_true rfl) (Nat.le_trans h1 (Nat.le_of_ble_eq_true rfl)) (Nat.le_trans h2 (Nat.le_of_ble_eq_true rfl)) (fun r_15 xw_16 hx_17 => ?_)
    refine k_pop2 X dL_law_k77.1.2.1.2 rfl ?_
    refine k_aload_n X dL_law_k77.1.2.2.1 2 rfl ?_
    refine k_aload_n X dL_law_k77.1.2.2.2 4 rfl ?_
    refine k_iload X dL_law_k77.2.1.1.1 0 rfl ?_
    refine k_iconst (v := 1) X dL_law_k77.2.1.1.2 ic_1 ?_
    refine k_iadd X dL_law_k77.2.1.2.1 ?_
    refine k_to z_1 ez_1.symm ?_
    refine k_sld X hX hbl hbA dL_law_k77.2.1.2.2 (by rw [vp_in_iff]; have := iv_3; omega) ?_
    refine k_to a_4 ea_4.symm ?_
    refine k_aload_n X dL_law_k77.2.2.1.1 4 rfl ?_
    refine k_iload X dL_law_k77.2.2.1.2 0 rfl ?_
    refine k_iconst (v := 2) X dL_law_k77.2.2.2.1 ic_2 ?_
    refine k_iadd X dL_law_k77.2.2.2.2 ?_
    refine k_to z_5 ez_5.symm ?_
    refine k_sld X hX hbl hbA dL_law_k78.1.1.1 (by rw [vp_in_iff]; have := iv_7; omega) ?_
    refine k_to a_8 ea_8.symm ?_
    refine k_aload_n X dL_law_k78.1.1.2.1 4 rfl ?_
    refine k_iload X dL_law_k78.1.1.2.2 0 rfl ?_
    refine k_iconst (v := 3) X dL_law_k78.1.2.1 ic_3 ?_
    refine k_iadd X dL_law_k78.1.2.2.1 ?_
    refine k_to z_9 ez_9.symm ?_
    refine k_sld X hX hbl hbA dL_law_k78.1.2.2.2 (by rw [vp_in_iff]; have := iv_11; omega) ?_
    refine k_to a_12 ea_12.symm ?_
    refine k_if_eq 1570 X dL_law_k78.2.1.1 (jp_e rfl) (fun h_18 => ?_) (fun h_18 => absurd h_13 h_18)
    refine k_iconst (v := 0) X dL_law_k78.2.2.1.1 ic_0 ?_
    refine lm_wears (st := []) a_4 a_8 0 X hm dL_law_k78.2.2.1.2 mw1275 (Nat.le_of_ble_eq_true rfl) (Nat.le_of_ble_eq_true rfl) (Nat.le_of_ble_eq_true rfl) (Nat.le_trans h1 (Nat.le_of_ble_eq_true rfl)) (Nat.le_trans h2 (Nat.le_of_ble_eq_true rfl)) (fun r_19 mw_20 hm_21 => ?_)
    refine k_pop2 X dL_law_k78.2.2.2.1 rfl ?_
    refine k_goto 2062 X dL_law_k78.2.2.2.2 (jp_e rfl) ?_
    exact kk _ _ _ _ _ _ _ _ _ _ _ _ _ _ _ _ _ _ _ _ _ _ _ _ _ _ _ _ _ _ _ _ _ _ _ _ _ _ _ _ hx_17 hm_21 hR
  · skip
    refine k_iconst (v := 1) X dL_law_k77.1.1.1.2 ic_1 ?_
    refine k_goto 1540 X dL_law_k77.1.1.2.1 (jp_e rfl) ?_
    refine lx_wears (st := []) a_4 a_8 1 X hx dL_law_k77.1.2.1.1 mw1270 (Nat.le_of_ble_eq_true rfl) (Nat.le_of_ble_eq_true rfl) (Nat.le_of_ble_eq_true rfl) (Nat.le_trans h1 (Nat.le_of_ble_eq_true rfl)) (Nat.le_trans h2 (Nat.le_of_ble_eq_true rfl)) (fun r_22 xw_23 hx_24 => ?_)
    refine k_pop2 X dL_law_k77.1.2.1.2 rfl ?_
    refine k_aload_n X dL_law_k77.1.2.2.1 2 rfl ?_
    refine k_aload_n X dL_law_k77.1.2.2.2 4 rfl ?_
    refine k_iload X dL_law_k77.2.1.1.1 0 rfl ?_
    refine k_iconst (v := 1) X dL_law_k77.2.1.1.2 ic_1 ?_
    refine k_iadd X dL_law_k77.2.1.2.1 ?_
    refine k_to z_1 ez_1.symm ?_
    refine k_sld X hX hbl hbA dL_law_k77.2.1.2.2 (by rw [vp_in_iff]; have := iv_3; omega) ?_
    refine k_to a_4 ea_4.symm ?_
    refine k_aload_n X dL_law_k77.2.2.1.1 4 rfl ?_
    refine k_iload X dL_law_k77.2.2.1.2 0 rfl ?_
    refine k_iconst (v := 2) X dL_law_k77.2.2.2.1 ic_2 ?_
    refine k_iadd X dL_law_k77.2.2.2.2 ?_
    refine k_to z_5 ez_5.symm ?_
    refine k_sld X hX hbl hbA dL_law_k78.1.1.1 (by rw [vp_in_iff]; have := iv_7; omega) ?_
    refine k_to a_8 ea_8.symm ?_
    refine k_aload_n X dL_law_k78.1.1.2.1 4 rfl ?_
    refine k_iload X dL_law_k78.1.1.2.2 0 rfl ?_
    refine k_iconst (v := 3) X dL_law_k78.1.2.1 ic_3 ?_
    refine k_iadd X dL_law_k78.1.2.2.1 ?_
    refine k_to z_9 ez_9.symm ?_
    refine k_sld X hX hbl hbA dL_law_k78.1.2.2.2 (by rw [vp_in_iff]; have := iv_11; omega) ?_
    refine k_to a_12 ea_12.symm ?_
    refine k_if_eq 1570 X dL_law_k78.2.1.1 (jp_e rfl) (fun h_25 => absurd h_25 h_13) (fun h_25 => ?_)
    refine k_iconst (v := 1) X dL_law_k78.2.1.2.1 ic_1 ?_
    refine k_goto 1571 X dL_law_k78.2.1.2.2 (jp_e rfl) ?_
    refine lm_wears (st := []) a_4 a_8 1 X hm dL_law_k78.2.2.1.2 mw1275 (Nat.le_of_ble_eq_true rfl) (Nat.le_of_ble_eq_true rfl) (Nat.le_of_ble_eq_true rfl) (Nat.le_trans h1 (Nat.le_of_ble_eq_true rfl)) (Nat.le_trans h2 (Nat.le_of_ble_eq_true rfl)) (fun r_26 mw_27 hm_28 => ?_)
    refine k_pop2 X dL_law_k78.2.2.2.1 rfl ?_
    refine k_goto 2062 X dL_law_k78.2.2.2.2 (jp_e rfl) ?_
    exact kk _ _ _ _ _ _ _ _ _ _ _ _ _ _ _ _ _ _ _ _ _ _ _ _ _ _ _ _ _ _ _ _ _ _ _ _ _ _ _ _ hx_24 hm_28 hR

theorem dL_law_k79 : ((((dD cL_law 1578 (.aload_n 1) 1 ∧ dD cL_law 1579 (.aload_n 0) 1) ∧ (dD cL_law 1580 (.iload 4) 2 ∧ dD cL_law 1582 (.iconst 1) 1)) ∧ ((dD cL_law 1583 .iadd 1 ∧ dD cL_law 1584 .iaload 1) ∧ (dD cL_law 1585 (.aload_n 0) 1 ∧ dD cL_law 1586 (.iload 4) 2))) ∧ (((dD cL_law 1588 (.iconst 2) 1 ∧ dD cL_law 1589 .iadd 1) ∧ (dD cL_law 1590 .iaload 1 ∧ dD cL_law 1591 (.invokevirtual 176) 3)) ∧ ((dD cL_law 1594 .pop 1 ∧ dD cL_law 1595 (.aload_n 2) 1) ∧ (dD cL_law 1596 (.aload_n 0) 1 ∧ dD cL_law 1597 (.iload 4) 2)))) := dkA16 (by decide +kernel)
theorem dL_law_k80 : (((dD cL_law 1599 (.iconst 1) 1 ∧ dD cL_law 1600 .iadd 1) ∧ (dD cL_law 1601 .iaload 1 ∧ (dD cL_law 1602 (.aload_n 0) 1 ∧ dD cL_law 1603 (.iload 4) 2))) ∧ ((dD cL_law 1605 (.iconst 2) 1 ∧ (dD cL_law 1606 .iadd 1 ∧ dD cL_law 1607 .iaload 1)) ∧ (dD cL_law 1608 (.invokevirtual 179) 3 ∧ (dD cL_law 1611 .pop 1 ∧ dD cL_law 1612 (.goto 450) 3)))) := dkA11 (by decide +kernel)
set_option maxHeartbeats 4000000 in
set_option maxRecDepth 100000 in
theorem law_c38 {p : Program} {l : Launch} {e : Env} {s : State} {m : MethodId} {below : List Frame} {meth : Method} {c : Code} {A : Nat → Prop} {g : Gx} {b L : Nat} {xs : Nat → Int32} {h0 mo lo n1 n2 : Nat} {fo : Nat → Int64} {u4 : Int32} {xtpd : Int32} {tpf : Nat → Int32} {yhnf : Nat → Int32} {yhtn : Int32} {yhtf : Nat → Int32} {yhjn : Int32} {yhjf : Nat → Int32} {yhmn : Int32} {yhmf : Nat → Int32} {yhbn : Int32} {yhbf : Nat → Int32} {yhsn : Int32} {yhsf : Nat → Int32} {yhcn : Int32} {yhcf : Nat → Int32} {zrn : Int32} {zmn : Int32} {zwn : Int32} {zpn : Int32} {zmd : Int32} {ztr : Int32} {zrf : Nat → Int32} {zmf : Nat → Int32} {zwf : Nat → Int32} {zpf : Nat → Int32} {kac : Int32} {knx : Int32} {kim : Int32} {cf : Nat → SC} {m_taped : Int32} {d_tape : Nat → Int32} {d_r : Nat → Int32} {d_st : Nat → Int32} {d_undone : Nat → Int32} {d_kept : Nat → Int32} {m_undos : Int32} {m_images : Int32} {m_hasHouse : Int32} {xw mw : va_W} (X : Cx p s m meth c #[Value.ref b] cL_law 7 RL A g) (hX : va_X b L xs s s.heap) (hbl : b < s.heap.size) (hbA : ¬ A b) (hi : 0 ≤ u4.toInt ∧ u4.toInt + 6 ≤ (L : Int)) (hL : L ≤ 3072) (h1 : n1 ≤ 601023) (h2 : n2 ≤ 7293028) (hlt : l.stackTraces = false) (hZ : kZ A s s.heap) (htsE : ∀ w ∈ wsE, w.before #[Value.ref b] s = true) (hx : XW g h0 xtpd tpf yhnf yhtn yhtf yhjn yhjf yhmn yhmf yhbn yhbf yhsn yhsf yhcn yhcf zrn zmn zwn zpn zmd ztr zrf zmf zwf zpf kac knx kim cf xw) (hm : MW g mo m_taped d_tape d_r d_st d_undone d_kept m_undos m_images m_hasHouse mw) (hR : LR xtpd tpf yhnf yhtn yhtf yhjn yhjf yhmn yhmf yhbn yhbf yhsn yhsf yhcn yhcf zrn zmn zwn zpn zmd ztr zrf zmf zwf zpf kac knx kim cf m_taped d_tape d_r d_st d_undone d_kept m_undos m_images m_hasHouse) (kk : ∀ (xtpd_2 : Int32) (tpf_2 : Nat → Int32) (yhnf_2 : Nat → Int32) (yhtn_2 : Int32) (yhtf_2 : Nat → Int32) (yhjn_2 : Int32) (yhjf_2 : Nat → Int32) (yhmn_2 : Int32) (yhmf_2 : Nat → Int32) (yhbn_2 : Int32) (yhbf_2 : Nat → Int32) (yhsn_2 : Int32) (yhsf_2 : Nat → Int32) (yhcn_2 : Int32) (yhcf_2 : Nat → Int32) (zrn_2 : Int32) (zmn_2 : Int32) (zwn_2 : Int32) (zpn_2 : Int32) (zmd_2 : Int32) (ztr_2 : Int32) (zrf_2 : Nat → Int32) (zmf_2 : Nat → Int32) (zwf_2 : Nat → Int32) (zpf_2 : Nat → Int32) (kac_2 : Int32) (knx_2 : Int32) (kim_2 : Int32) (cf_2 : Nat → SC) (m_taped_2 : Int32) (d_tape_2 : Nat → Int32) (d_r_2 : Nat → Int32) (d_st_2 : Nat → Int32) (d_undone_2 : Nat → Int32) (d_kept_2 : Nat → Int32) (m_undos_2 : Int32) (m_images_2 : Int32) (m_hasHouse_2 : Int32) (xw2 mw2 : va_W), XW g h0 xtpd_2 tpf_2 yhnf_2 yhtn_2 yhtf_2 yhjn_2 yhjf_2 yhmn_2 yhmf_2 yhbn_2 yhbf_2 yhsn_2 yhsf_2 yhcn_2 yhcf_2 zrn_2 zmn_2 zwn_2 zpn_2 zmd_2 ztr_2 zrf_2 zmf_2 zwf_2 zpf_2 kac_2 knx_2 kim_2 cf_2 xw2 → MW g mo m_taped_2 d_tape_2 d_r_2 d_st_2 d_undone_2 d_kept_2 m_undos_2 m_images_2 m_hasHouse_2 mw2 → LR xtpd_2 tpf_2 yhnf_2 yhtn_2 yhtf_2 yhjn_2 yhjf_2 yhmn_2 yhmf_2 yhbn_2 yhbf_2 yhsn_2 yhsf_2 yhcn_2 yhcf_2 zrn_2 zmn_2 zwn_2 zpn_2 zmd_2 ztr_2 zrf_2 zmf_2 zwf_2 zpf_2 kac_2 knx_2 kim_2 cf_2 m_taped_2 d_tape_2 d_r_2 d_st_2 d_undone_2 d_kept_2 m_undos_2 m_images_2 m_hasHouse_2 → Wk p l e room_1 s m #[Value.ref b] below meth c (lw_Z below #[Value.ref b] s) A g 7 n1 n2 (xw2 ++ (mw2 ++ [(cAJ g lo 1 fo)])) [(4, .int u4), (3, .ref lo), (2, .ref mo), (1, .ref h0), (0, .ref b)] 2062 []) : Wk p l e room_1 s m #[Value.ref b] below meth c (lw_Z below #[Value.ref b] s) A g 7 n1 n2 (xw ++ (mw ++ [(cAJ g lo 1 fo)])) [(4, .int u4), (3, .ref lo), (2, .ref mo), (1, .ref h0), (0, .ref b)] 1578 [] := by
  have hiv : IV u4 0 3066 := ⟨hi.1, by omega⟩
  refine k_aload_n X dL_law_k79.1.1.1.1 3 rfl ?_
  refine k_aload_n X dL_law_k79.1.1.1.2 4 rfl ?_
  refine k_iload X dL_law_k79.1.1.2.1 0 rfl ?_
  refine k_iconst (v := 1) X dL_law_k79.1.1.2.2 ic_1 ?_
  refine k_iadd X dL_law_k79.1.2.1.1 ?_
  refine k_nm (fun z_1 ez_1 => ?_)
  have i_2 : z_1.toInt = u4.toInt + 1 := in_add ez_1 hiv iq_1_1_1 (zle_e rfl) (zle_e rfl)
  have iv_3 : IV z_1 1 3067 := by have := hiv; have := iq_1_1_1; rw [IV, i_2]; omega
  refine k_sld X hX hbl hbA dL_law_k79.1.2.1.2 (by rw [vp_in_iff]; have := iv_3; omega) ?_
  refine k_nm (fun a_4 ea_4 => ?_)
  refine k_aload_n X dL_law_k79.1.2.2.1 4 rfl ?_
  refine k_iload X dL_law_k79.1.2.2.2 0 rfl ?_
  refine k_iconst (v := 2) X dL_law_k79.2.1.1.1 ic_2 ?_
  refine k_iadd X dL_law_k79.2.1.1.2 ?_
  refine k_nm (fun z_5 ez_5 => ?_)
  have i_6 : z_5.toInt = u4.toInt + 2 := in_add ez_5 hiv iq_2_2_2 (zle_e rfl) (zle_e rfl)
  have iv_7 : IV z_5 2 3068 := by have := hiv; have := iq_2_2_2; rw [IV, i_6]; omega
  refine k_sld X hX hbl hbA dL_law_k79.2.1.2.1 (by rw [vp_in_iff]; have := iv_7; omega) ?_
  refine k_nm (fun a_8 ea_8 => ?_)
  refine lx_apart (st := []) a_4 a_8 X hx dL_law_k79.2.1.2.2 mw1280 (Nat.le_of_ble_eq_true rfl) (Nat.le_of_ble_eq_true rfl) (Nat.le_of_ble_eq_true rfl) (Nat.le_trans h1 (Nat.le_of_ble_eq_true rfl)) (Nat.le_trans h2 (Nat.le_of_ble_eq_true rfl)) (fun r_9 xw_10 hx_11 => ?_)
  refine k_pop X dL_law_k79.2.2.1.1 rfl ?_
  refine k_aload_n X dL_law_k79.2.2.1.2 2 rfl ?_
  refine k_aload_n X dL_law_k79.2.2.2.1 4 rfl ?_
  refine k_iload X dL_law_k79.2.2.2.2 0 rfl ?_
  refine k_iconst (v := 1) X dL_law_k80.1.1.1 ic_1 ?_
  refine k_iadd X dL_law_k80.1.1.2 ?_
  refine k_to z_1 ez_1.symm ?_
  refine k_sld X hX hbl hbA dL_law_k80.1.2.1 (by rw [vp_in_iff]; have := iv_3; omega) ?_
  refine k_to a_4 ea_4.symm ?_
  refine k_aload_n X dL_law_k80.1.2.2.1 4 rfl ?_
  refine k_iload X dL_law_k80.1.2.2.2 0 rfl ?_
  refine k_iconst (v := 2) X dL_law_k80.2.1.1 ic_2 ?_
  refine k_iadd X dL_law_k80.2.1.2.1 ?_
  refine k_to z_5 ez_5.symm ?_
  refine k_sld X hX hbl hbA dL_law_k80.2.1.2.2 (by rw [vp_in_iff]; have := iv_7; omega) ?_
  refine k_to a_8 ea_8.symm ?_
  refine lm_apart (st := []) a_4 a_8 X hm dL_law_k80.2.2.1 mw1311 (Nat.le_of_ble_eq_true rfl) (Nat.le_of_ble_eq_true rfl) (Nat.le_of_ble_eq_true rfl) (Nat.le_trans h1 (Nat.le_of_ble_eq_true rfl)) (Nat.le_trans h2 (Nat.le_of_ble_eq_true rfl)) (fun r_12 mw_13 hm_14 => ?_)
  refine k_pop X dL_law_k80.2.2.2.1 rfl ?_
  refine k_goto 2062 X dL_law_k80.2.2.2.2 (jp_e rfl) ?_
  exact kk _ _ _ _ _ _ _ _ _ _ _ _ _ _ _ _ _ _ _ _ _ _ _ _ _ _ _ _ _ _ _ _ _ _ _ _ _ _ _ _ hx_11 hm_14 hR

theorem dL_law_k81 : ((((dD cL_law 1615 (.aload_n 1) 1 ∧ dD cL_law 1616 (.aload_n 0) 1) ∧ (dD cL_law 1617 (.iload 4) 2 ∧ dD cL_law 1619 (.iconst 1) 1)) ∧ ((dD cL_law 1620 .iadd 1 ∧ dD cL_law 1621 .iaload 1) ∧ (dD cL_law 1622 (.aload_n 0) 1 ∧ dD cL_law 1623 (.iload 4) 2))) ∧ (((dD cL_law 1625 (.iconst 2) 1 ∧ dD cL_law 1626 .iadd 1) ∧ (dD cL_law 1627 .iaload 1 ∧ dD cL_law 1628 (.aload_n 0) 1)) ∧ ((dD cL_law 1629 (.iload 4) 2 ∧ dD cL_law 1631 (.iconst 3) 1) ∧ (dD cL_law 1632 .iadd 1 ∧ dD cL_law 1633 .iaload 1)))) := dkA16 (by decide +kernel)
theorem dL_law_k82 : ((((dD cL_law 1634 (.invokevirtual 180) 3 ∧ dD cL_law 1637 .pop 1) ∧ (dD cL_law 1638 (.aload_n 2) 1 ∧ dD cL_law 1639 (.aload_n 0) 1)) ∧ ((dD cL_law 1640 (.iload 4) 2 ∧ dD cL_law 1642 (.iconst 1) 1) ∧ (dD cL_law 1643 .iadd 1 ∧ dD cL_law 1644 .iaload 1))) ∧ (((dD cL_law 1645 (.aload_n 0) 1 ∧ dD cL_law 1646 (.iload 4) 2) ∧ (dD cL_law 1648 (.iconst 2) 1 ∧ dD cL_law 1649 .iadd 1)) ∧ ((dD cL_law 1650 .iaload 1 ∧ dD cL_law 1651 (.aload_n 0) 1) ∧ (dD cL_law 1652 (.iload 4) 2 ∧ dD cL_law 1654 (.iconst 3) 1)))) := dkA16 (by decide +kernel)
theorem dL_law_k83 : ((dD cL_law 1655 .iadd 1 ∧ dD cL_law 1656 .iaload 1) ∧ (dD cL_law 1657 (.invokevirtual 184) 3 ∧ (dD cL_law 1660 .pop 1 ∧ dD cL_law 1661 (.goto 401) 3))) := dkA5 (by decide +kernel)
set_option maxHeartbeats 4000000 in
set_option maxRecDepth 100000 in
theorem law_c39 {p : Program} {l : Launch} {e : Env} {s : State} {m : MethodId} {below : List Frame} {meth : Method} {c : Code} {A : Nat → Prop} {g : Gx} {b L : Nat} {xs : Nat → Int32} {h0 mo lo n1 n2 : Nat} {fo : Nat → Int64} {u4 : Int32} {xtpd : Int32} {tpf : Nat → Int32} {yhnf : Nat → Int32} {yhtn : Int32} {yhtf : Nat → Int32} {yhjn : Int32} {yhjf : Nat → Int32} {yhmn : Int32} {yhmf : Nat → Int32} {yhbn : Int32} {yhbf : Nat → Int32} {yhsn : Int32} {yhsf : Nat → Int32} {yhcn : Int32} {yhcf : Nat → Int32} {zrn : Int32} {zmn : Int32} {zwn : Int32} {zpn : Int32} {zmd : Int32} {ztr : Int32} {zrf : Nat → Int32} {zmf : Nat → Int32} {zwf : Nat → Int32} {zpf : Nat → Int32} {kac : Int32} {knx : Int32} {kim : Int32} {cf : Nat → SC} {m_taped : Int32} {d_tape : Nat → Int32} {d_r : Nat → Int32} {d_st : Nat → Int32} {d_undone : Nat → Int32} {d_kept : Nat → Int32} {m_undos : Int32} {m_images : Int32} {m_hasHouse : Int32} {xw mw : va_W} (X : Cx p s m meth c #[Value.ref b] cL_law 7 RL A g) (hX : va_X b L xs s s.heap) (hbl : b < s.heap.size) (hbA : ¬ A b) (hi : 0 ≤ u4.toInt ∧ u4.toInt + 6 ≤ (L : Int)) (hL : L ≤ 3072) (h1 : n1 ≤ 601023) (h2 : n2 ≤ 7293028) (hlt : l.stackTraces = false) (hZ : kZ A s s.heap) (htsE : ∀ w ∈ wsE, w.before #[Value.ref b] s = true) (hx : XW g h0 xtpd tpf yhnf yhtn yhtf yhjn yhjf yhmn yhmf yhbn yhbf yhsn yhsf yhcn yhcf zrn zmn zwn zpn zmd ztr zrf zmf zwf zpf kac knx kim cf xw) (hm : MW g mo m_taped d_tape d_r d_st d_undone d_kept m_undos m_images m_hasHouse mw) (hR : LR xtpd tpf yhnf yhtn yhtf yhjn yhjf yhmn yhmf yhbn yhbf yhsn yhsf yhcn yhcf zrn zmn zwn zpn zmd ztr zrf zmf zwf zpf kac knx kim cf m_taped d_tape d_r d_st d_undone d_kept m_undos m_images m_hasHouse) (kk : ∀ (xtpd_2 : Int32) (tpf_2 : Nat → Int32) (yhnf_2 : Nat → Int32) (yhtn_2 : Int32) (yhtf_2 : Nat → Int32) (yhjn_2 : Int32) (yhjf_2 : Nat → Int32) (yhmn_2 : Int32) (yhmf_2 : Nat → Int32) (yhbn_2 : Int32) (yhbf_2 : Nat → Int32) (yhsn_2 : Int32) (yhsf_2 : Nat → Int32) (yhcn_2 : Int32) (yhcf_2 : Nat → Int32) (zrn_2 : Int32) (zmn_2 : Int32) (zwn_2 : Int32) (zpn_2 : Int32) (zmd_2 : Int32) (ztr_2 : Int32) (zrf_2 : Nat → Int32) (zmf_2 : Nat → Int32) (zwf_2 : Nat → Int32) (zpf_2 : Nat → Int32) (kac_2 : Int32) (knx_2 : Int32) (kim_2 : Int32) (cf_2 : Nat → SC) (m_taped_2 : Int32) (d_tape_2 : Nat → Int32) (d_r_2 : Nat → Int32) (d_st_2 : Nat → Int32) (d_undone_2 : Nat → Int32) (d_kept_2 : Nat → Int32) (m_undos_2 : Int32) (m_images_2 : Int32) (m_hasHouse_2 : Int32) (xw2 mw2 : va_W), XW g h0 xtpd_2 tpf_2 yhnf_2 yhtn_2 yhtf_2 yhjn_2 yhjf_2 yhmn_2 yhmf_2 yhbn_2 yhbf_2 yhsn_2 yhsf_2 yhcn_2 yhcf_2 zrn_2 zmn_2 zwn_2 zpn_2 zmd_2 ztr_2 zrf_2 zmf_2 zwf_2 zpf_2 kac_2 knx_2 kim_2 cf_2 xw2 → MW g mo m_taped_2 d_tape_2 d_r_2 d_st_2 d_undone_2 d_kept_2 m_undos_2 m_images_2 m_hasHouse_2 mw2 → LR xtpd_2 tpf_2 yhnf_2 yhtn_2 yhtf_2 yhjn_2 yhjf_2 yhmn_2 yhmf_2 yhbn_2 yhbf_2 yhsn_2 yhsf_2 yhcn_2 yhcf_2 zrn_2 zmn_2 zwn_2 zpn_2 zmd_2 ztr_2 zrf_2 zmf_2 zwf_2 zpf_2 kac_2 knx_2 kim_2 cf_2 m_taped_2 d_tape_2 d_r_2 d_st_2 d_undone_2 d_kept_2 m_undos_2 m_images_2 m_hasHouse_2 → Wk p l e room_1 s m #[Value.ref b] below meth c (lw_Z below #[Value.ref b] s) A g 7 n1 n2 (xw2 ++ (mw2 ++ [(cAJ g lo 1 fo)])) [(4, .int u4), (3, .ref lo), (2, .ref mo), (1, .ref h0), (0, .ref b)] 2062 []) : Wk p l e room_1 s m #[Value.ref b] below meth c (lw_Z below #[Value.ref b] s) A g 7 n1 n2 (xw ++ (mw ++ [(cAJ g lo 1 fo)])) [(4, .int u4), (3, .ref lo), (2, .ref mo), (1, .ref h0), (0, .ref b)] 1615 [] := by
  have hiv : IV u4 0 3066 := ⟨hi.1, by omega⟩
  refine k_aload_n X dL_law_k81.1.1.1.1 3 rfl ?_
  refine k_aload_n X dL_law_k81.1.1.1.2 4 rfl ?_
  refine k_iload X dL_law_k81.1.1.2.1 0 rfl ?_
  refine k_iconst (v := 1) X dL_law_k81.1.1.2.2 ic_1 ?_
  refine k_iadd X dL_law_k81.1.2.1.1 ?_
  refine k_nm (fun z_1 ez_1 => ?_)
  have i_2 : z_1.toInt = u4.toInt + 1 := in_add ez_1 hiv iq_1_1_1 (zle_e rfl) (zle_e rfl)
  have iv_3 : IV z_1 1 3067 := by have := hiv; have := iq_1_1_1; rw [IV, i_2]; omega
  refine k_sld X hX hbl hbA dL_law_k81.1.2.1.2 (by rw [vp_in_iff]; have := iv_3; omega) ?_
  refine k_nm (fun a_4 ea_4 => ?_)
  refine k_aload_n X dL_law_k81.1.2.2.1 4 rfl ?_
  refine k_iload X dL_law_k81.1.2.2.2 0 rfl ?_
  refine k_iconst (v := 2) X dL_law_k81.2.1.1.1 ic_2 ?_
  refine k_iadd X dL_law_k81.2.1.1.2 ?_
  refine k_nm (fun z_5 ez_5 => ?_)
  have i_6 : z_5.toInt = u4.toInt + 2 := in_add ez_5 hiv iq_2_2_2 (zle_e rfl) (zle_e rfl)
  have iv_7 : IV z_5 2 3068 := by have := hiv; have := iq_2_2_2; rw [IV, i_6]; omega
  refine k_sld X hX hbl hbA dL_law_k81.2.1.2.1 (by rw [vp_in_iff]; have := iv_7; omega) ?_
  refine k_nm (fun a_8 ea_8 => ?_)
  refine k_aload_n X dL_law_k81.2.1.2.2 4 rfl ?_
  refine k_iload X dL_law_k81.2.2.1.1 0 rfl ?_
  refine k_iconst (v := 3) X dL_law_k81.2.2.1.2 ic_3 ?_
  refine k_iadd X dL_law_k81.2.2.2.1 ?_
  refine k_nm (fun z_9 ez_9 => ?_)
  have i_10 : z_9.toInt = u4.toInt + 3 := in_add ez_9 hiv iq_3_3_3 (zle_e rfl) (zle_e rfl)
  have iv_11 : IV z_9 3 3069 := by have := hiv; have := iq_3_3_3; rw [IV, i_10]; omega
  refine k_sld X hX hbl hbA dL_law_k81.2.2.2.2 (by rw [vp_in_iff]; have := iv_11; omega) ?_
  refine k_nm (fun a_12 ea_12 => ?_)
  refine lx_waits (st := []) a_4 a_8 a_12 X hx dL_law_k82.1.1.1.1 mw1327 (Nat.le_of_ble_eq_true rfl) (Nat.le_of_ble_eq_true rfl) (Nat.le_of_ble_eq_true rfl) (Nat.le_trans h1 (Nat.le_of_ble_eq_true rfl)) (Nat.le_trans h2 (Nat.le_of_ble_eq_true rfl)) (fun r_13 xw_14 hx_15 => ?_)
  refine k_pop X dL_law_k82.1.1.1.2 rfl ?_
  refine k_aload_n X dL_law_k82.1.1.2.1 2 rfl ?_
  refine k_aload_n X dL_law_k82.1.1.2.2 4 rfl ?_
  refine k_iload X dL_law_k82.1.2.1.1 0 rfl ?_
  refine k_iconst (v := 1) X dL_law_k82.1.2.1.2 ic_1 ?_
  refine k_iadd X dL_law_k82.1.2.2.1 ?_
  refine k_to z_1 ez_1.symm ?_
  refine k_sld X hX hbl hbA dL_law_k82.1.2.2.2 (by rw [vp_in_iff]; have := iv_3; omega) ?_
  refine k_to a_4 ea_4.symm ?_
  refine k_aload_n X dL_law_k82.2.1.1.1 4 rfl ?_
  refine k_iload X dL_law_k82.2.1.1.2 0 rfl ?_
  refine k_iconst (v := 2) X dL_law_k82.2.1.2.1 ic_2 ?_
  refine k_iadd X dL_law_k82.2.1.2.2 ?_
  refine k_to z_5 ez_5.symm ?_
  refine k_sld X hX hbl hbA dL_law_k82.2.2.1.1 (by rw [vp_in_iff]; have := iv_7; omega) ?_
  refine k_to a_8 ea_8.symm ?_
  refine k_aload_n X dL_law_k82.2.2.1.2 4 rfl ?_
  refine k_iload X dL_law_k82.2.2.2.1 0 rfl ?_
  refine k_iconst (v := 3) X dL_law_k82.2.2.2.2 ic_3 ?_
  refine k_iadd X dL_law_k83.1.1 ?_
  refine k_to z_9 ez_9.symm ?_
  refine k_sld X hX hbl hbA dL_law_k83.1.2 (by rw [vp_in_iff]; have := iv_11; omega) ?_
  refine k_to a_12 ea_12.symm ?_
  refine lm_waits (st := []) a_4 a_8 a_12 X hm dL_law_k83.2.1 mw1332 (Nat.le_of_ble_eq_true rfl) (Nat.le_of_ble_eq_true rfl) (Nat.le_of_ble_eq_true rfl) (Nat.le_trans h1 (Nat.le_of_ble_eq_true rfl)) (Nat.le_trans h2 (Nat.le_of_ble_eq_true rfl)) (fun r_16 mw_17 hm_18 => ?_)
  refine k_pop X dL_law_k83.2.2.1 rfl ?_
  refine k_goto 2062 X dL_law_k83.2.2.2 (jp_e rfl) ?_
  exact kk _ _ _ _ _ _ _ _ _ _ _ _ _ _ _ _ _ _ _ _ _ _ _ _ _ _ _ _ _ _ _ _ _ _ _ _ _ _ _ _ hx_15 hm_18 hR

theorem dL_law_k84 : ((((dD cL_law 1664 (.aload_n 1) 1 ∧ dD cL_law 1665 (.aload_n 0) 1) ∧ (dD cL_law 1666 (.iload 4) 2 ∧ dD cL_law 1668 (.iconst 1) 1)) ∧ ((dD cL_law 1669 .iadd 1 ∧ dD cL_law 1670 .iaload 1) ∧ (dD cL_law 1671 (.invokevirtual 185) 3 ∧ dD cL_law 1674 .pop 1))) ∧ (((dD cL_law 1675 (.aload_n 2) 1 ∧ dD cL_law 1676 (.aload_n 0) 1) ∧ (dD cL_law 1677 (.iload 4) 2 ∧ dD cL_law 1679 (.iconst 1) 1)) ∧ ((dD cL_law 1680 .iadd 1 ∧ dD cL_law 1681 .iaload 1) ∧ (dD cL_law 1682 (.invokevirtual 188) 3 ∧ dD cL_law 1685 .pop 1)))) := dkA16 (by decide +kernel)
theorem dL_law_k85 : dD cL_law 1686 (.goto 376) 3 := dkA1 (by decide +kernel)
set_option maxHeartbeats 4000000 in
set_option maxRecDepth 100000 in
theorem law_c40 {p : Program} {l : Launch} {e : Env} {s : State} {m : MethodId} {below : List Frame} {meth : Method} {c : Code} {A : Nat → Prop} {g : Gx} {b L : Nat} {xs : Nat → Int32} {h0 mo lo n1 n2 : Nat} {fo : Nat → Int64} {u4 : Int32} {xtpd : Int32} {tpf : Nat → Int32} {yhnf : Nat → Int32} {yhtn : Int32} {yhtf : Nat → Int32} {yhjn : Int32} {yhjf : Nat → Int32} {yhmn : Int32} {yhmf : Nat → Int32} {yhbn : Int32} {yhbf : Nat → Int32} {yhsn : Int32} {yhsf : Nat → Int32} {yhcn : Int32} {yhcf : Nat → Int32} {zrn : Int32} {zmn : Int32} {zwn : Int32} {zpn : Int32} {zmd : Int32} {ztr : Int32} {zrf : Nat → Int32} {zmf : Nat → Int32} {zwf : Nat → Int32} {zpf : Nat → Int32} {kac : Int32} {knx : Int32} {kim : Int32} {cf : Nat → SC} {m_taped : Int32} {d_tape : Nat → Int32} {d_r : Nat → Int32} {d_st : Nat → Int32} {d_undone : Nat → Int32} {d_kept : Nat → Int32} {m_undos : Int32} {m_images : Int32} {m_hasHouse : Int32} {xw mw : va_W} (X : Cx p s m meth c #[Value.ref b] cL_law 7 RL A g) (hX : va_X b L xs s s.heap) (hbl : b < s.heap.size) (hbA : ¬ A b) (hi : 0 ≤ u4.toInt ∧ u4.toInt + 6 ≤ (L : Int)) (hL : L ≤ 3072) (h1 : n1 ≤ 601023) (h2 : n2 ≤ 7293028) (hlt : l.stackTraces = false) (hZ : kZ A s s.heap) (htsE : ∀ w ∈ wsE, w.before #[Value.ref b] s = true) (hx : XW g h0 xtpd tpf yhnf yhtn yhtf yhjn yhjf yhmn yhmf yhbn yhbf yhsn yhsf yhcn yhcf zrn zmn zwn zpn zmd ztr zrf zmf zwf zpf kac knx kim cf xw) (hm : MW g mo m_taped d_tape d_r d_st d_undone d_kept m_undos m_images m_hasHouse mw) (hR : LR xtpd tpf yhnf yhtn yhtf yhjn yhjf yhmn yhmf yhbn yhbf yhsn yhsf yhcn yhcf zrn zmn zwn zpn zmd ztr zrf zmf zwf zpf kac knx kim cf m_taped d_tape d_r d_st d_undone d_kept m_undos m_images m_hasHouse) (kk : ∀ (xtpd_2 : Int32) (tpf_2 : Nat → Int32) (yhnf_2 : Nat → Int32) (yhtn_2 : Int32) (yhtf_2 : Nat → Int32) (yhjn_2 : Int32) (yhjf_2 : Nat → Int32) (yhmn_2 : Int32) (yhmf_2 : Nat → Int32) (yhbn_2 : Int32) (yhbf_2 : Nat → Int32) (yhsn_2 : Int32) (yhsf_2 : Nat → Int32) (yhcn_2 : Int32) (yhcf_2 : Nat → Int32) (zrn_2 : Int32) (zmn_2 : Int32) (zwn_2 : Int32) (zpn_2 : Int32) (zmd_2 : Int32) (ztr_2 : Int32) (zrf_2 : Nat → Int32) (zmf_2 : Nat → Int32) (zwf_2 : Nat → Int32) (zpf_2 : Nat → Int32) (kac_2 : Int32) (knx_2 : Int32) (kim_2 : Int32) (cf_2 : Nat → SC) (m_taped_2 : Int32) (d_tape_2 : Nat → Int32) (d_r_2 : Nat → Int32) (d_st_2 : Nat → Int32) (d_undone_2 : Nat → Int32) (d_kept_2 : Nat → Int32) (m_undos_2 : Int32) (m_images_2 : Int32) (m_hasHouse_2 : Int32) (xw2 mw2 : va_W), XW g h0 xtpd_2 tpf_2 yhnf_2 yhtn_2 yhtf_2 yhjn_2 yhjf_2 yhmn_2 yhmf_2 yhbn_2 yhbf_2 yhsn_2 yhsf_2 yhcn_2 yhcf_2 zrn_2 zmn_2 zwn_2 zpn_2 zmd_2 ztr_2 zrf_2 zmf_2 zwf_2 zpf_2 kac_2 knx_2 kim_2 cf_2 xw2 → MW g mo m_taped_2 d_tape_2 d_r_2 d_st_2 d_undone_2 d_kept_2 m_undos_2 m_images_2 m_hasHouse_2 mw2 → LR xtpd_2 tpf_2 yhnf_2 yhtn_2 yhtf_2 yhjn_2 yhjf_2 yhmn_2 yhmf_2 yhbn_2 yhbf_2 yhsn_2 yhsf_2 yhcn_2 yhcf_2 zrn_2 zmn_2 zwn_2 zpn_2 zmd_2 ztr_2 zrf_2 zmf_2 zwf_2 zpf_2 kac_2 knx_2 kim_2 cf_2 m_taped_2 d_tape_2 d_r_2 d_st_2 d_undone_2 d_kept_2 m_undos_2 m_images_2 m_hasHouse_2 → Wk p l e room_1 s m #[Value.ref b] below meth c (lw_Z below #[Value.ref b] s) A g 7 n1 n2 (xw2 ++ (mw2 ++ [(cAJ g lo 1 fo)])) [(4, .int u4), (3, .ref lo), (2, .ref mo), (1, .ref h0), (0, .ref b)] 2062 []) : Wk p l e room_1 s m #[Value.ref b] below meth c (lw_Z below #[Value.ref b] s) A g 7 n1 n2 (xw ++ (mw ++ [(cAJ g lo 1 fo)])) [(4, .int u4), (3, .ref lo), (2, .ref mo), (1, .ref h0), (0, .ref b)] 1664 [] := by
  have hiv : IV u4 0 3066 := ⟨hi.1, by omega⟩
  refine k_aload_n X dL_law_k84.1.1.1.1 3 rfl ?_
  refine k_aload_n X dL_law_k84.1.1.1.2 4 rfl ?_
  refine k_iload X dL_law_k84.1.1.2.1 0 rfl ?_
  refine k_iconst (v := 1) X dL_law_k84.1.1.2.2 ic_1 ?_
  refine k_iadd X dL_law_k84.1.2.1.1 ?_
  refine k_nm (fun z_1 ez_1 => ?_)
  have i_2 : z_1.toInt = u4.toInt + 1 := in_add ez_1 hiv iq_1_1_1 (zle_e rfl) (zle_e rfl)
  have iv_3 : IV z_1 1 3067 := by have := hiv; have := iq_1_1_1; rw [IV, i_2]; omega
  refine k_sld X hX hbl hbA dL_law_k84.1.2.1.2 (by rw [vp_in_iff]; have := iv_3; omega) ?_
  refine k_nm (fun a_4 ea_4 => ?_)
  refine lx_boys (st := []) a_4 X hx dL_law_k84.1.2.2.1 mw1336 (Nat.le_of_ble_eq_true rfl) (Nat.le_of_ble_eq_true rfl) (Nat.le_of_ble_eq_true rfl) (Nat.le_trans h1 (Nat.le_of_ble_eq_true rfl)) (Nat.le_trans h2 (Nat.le_of_ble_eq_true rfl)) (fun r_5 xw_6 hx_7 => ?_)
  refine k_pop X dL_law_k84.1.2.2.2 rfl ?_
  refine k_aload_n X dL_law_k84.2.1.1.1 2 rfl ?_
  refine k_aload_n X dL_law_k84.2.1.1.2 4 rfl ?_
  refine k_iload X dL_law_k84.2.1.2.1 0 rfl ?_
  refine k_iconst (v := 1) X dL_law_k84.2.1.2.2 ic_1 ?_
  refine k_iadd X dL_law_k84.2.2.1.1 ?_
  refine k_to z_1 ez_1.symm ?_
  refine k_sld X hX hbl hbA dL_law_k84.2.2.1.2 (by rw [vp_in_iff]; have := iv_3; omega) ?_
  refine k_to a_4 ea_4.symm ?_
  refine lm_boys (st := []) a_4 X hm dL_law_k84.2.2.2.1 mw1340 (Nat.le_of_ble_eq_true rfl) (Nat.le_of_ble_eq_true rfl) (Nat.le_of_ble_eq_true rfl) (Nat.le_trans h1 (Nat.le_of_ble_eq_true rfl)) (Nat.le_trans h2 (Nat.le_of_ble_eq_true rfl)) (fun r_8 mw_9 hm_10 => ?_)
  refine k_pop X dL_law_k84.2.2.2.2 rfl ?_
  refine k_goto 2062 X dL_law_k85 (jp_e rfl) ?_
  exact kk _ _ _ _ _ _ _ _ _ _ _ _ _ _ _ _ _ _ _ _ _ _ _ _ _ _ _ _ _ _ _ _ _ _ _ _ _ _ _ _ hx_7 hm_10 hR

theorem dL_law_k86 : ((((dD cL_law 1689 (.aload_n 1) 1 ∧ dD cL_law 1690 (.aload_n 0) 1) ∧ (dD cL_law 1691 (.iload 4) 2 ∧ dD cL_law 1693 (.iconst 1) 1)) ∧ ((dD cL_law 1694 .iadd 1 ∧ dD cL_law 1695 .iaload 1) ∧ (dD cL_law 1696 (.ifCond .eq 7) 3 ∧ dD cL_law 1699 (.iconst 1) 1))) ∧ (((dD cL_law 1700 (.goto 4) 3 ∧ dD cL_law 1703 (.iconst 0) 1) ∧ (dD cL_law 1704 (.invokevirtual 189) 3 ∧ dD cL_law 1707 .pop2 1)) ∧ ((dD cL_law 1708 (.aload_n 2) 1 ∧ dD cL_law 1709 (.aload_n 0) 1) ∧ (dD cL_law 1710 (.iload 4) 2 ∧ dD cL_law 1712 (.iconst 1) 1)))) := dkA16 (by decide +kernel)
theorem dL_law_k87 : (((dD cL_law 1713 .iadd 1 ∧ dD cL_law 1714 .iaload 1) ∧ (dD cL_law 1715 (.ifCond .eq 7) 3 ∧ dD cL_law 1718 (.iconst 1) 1)) ∧ ((dD cL_law 1719 (.goto 4) 3 ∧ dD cL_law 1722 (.iconst 0) 1) ∧ (dD cL_law 1723 (.invokevirtual 193) 3 ∧ (dD cL_law 1726 .pop2 1 ∧ dD cL_law 1727 (.goto 335) 3)))) := dkA9 (by decide +kernel)
set_option maxHeartbeats 4000000 in
set_option maxRecDepth 100000 in
theorem law_c41 {p : Program} {l : Launch} {e : Env} {s : State} {m : MethodId} {below : List Frame} {meth : Method} {c : Code} {A : Nat → Prop} {g : Gx} {b L : Nat} {xs : Nat → Int32} {h0 mo lo n1 n2 : Nat} {fo : Nat → Int64} {u4 : Int32} {xtpd : Int32} {tpf : Nat → Int32} {yhnf : Nat → Int32} {yhtn : Int32} {yhtf : Nat → Int32} {yhjn : Int32} {yhjf : Nat → Int32} {yhmn : Int32} {yhmf : Nat → Int32} {yhbn : Int32} {yhbf : Nat → Int32} {yhsn : Int32} {yhsf : Nat → Int32} {yhcn : Int32} {yhcf : Nat → Int32} {zrn : Int32} {zmn : Int32} {zwn : Int32} {zpn : Int32} {zmd : Int32} {ztr : Int32} {zrf : Nat → Int32} {zmf : Nat → Int32} {zwf : Nat → Int32} {zpf : Nat → Int32} {kac : Int32} {knx : Int32} {kim : Int32} {cf : Nat → SC} {m_taped : Int32} {d_tape : Nat → Int32} {d_r : Nat → Int32} {d_st : Nat → Int32} {d_undone : Nat → Int32} {d_kept : Nat → Int32} {m_undos : Int32} {m_images : Int32} {m_hasHouse : Int32} {xw mw : va_W} (X : Cx p s m meth c #[Value.ref b] cL_law 7 RL A g) (hX : va_X b L xs s s.heap) (hbl : b < s.heap.size) (hbA : ¬ A b) (hi : 0 ≤ u4.toInt ∧ u4.toInt + 6 ≤ (L : Int)) (hL : L ≤ 3072) (h1 : n1 ≤ 601023) (h2 : n2 ≤ 7293028) (hlt : l.stackTraces = false) (hZ : kZ A s s.heap) (htsE : ∀ w ∈ wsE, w.before #[Value.ref b] s = true) (hx : XW g h0 xtpd tpf yhnf yhtn yhtf yhjn yhjf yhmn yhmf yhbn yhbf yhsn yhsf yhcn yhcf zrn zmn zwn zpn zmd ztr zrf zmf zwf zpf kac knx kim cf xw) (hm : MW g mo m_taped d_tape d_r d_st d_undone d_kept m_undos m_images m_hasHouse mw) (hR : LR xtpd tpf yhnf yhtn yhtf yhjn yhjf yhmn yhmf yhbn yhbf yhsn yhsf yhcn yhcf zrn zmn zwn zpn zmd ztr zrf zmf zwf zpf kac knx kim cf m_taped d_tape d_r d_st d_undone d_kept m_undos m_images m_hasHouse) (kk : ∀ (xtpd_2 : Int32) (tpf_2 : Nat → Int32) (yhnf_2 : Nat → Int32) (yhtn_2 : Int32) (yhtf_2 : Nat → Int32) (yhjn_2 : Int32) (yhjf_2 : Nat → Int32) (yhmn_2 : Int32) (yhmf_2 : Nat → Int32) (yhbn_2 : Int32) (yhbf_2 : Nat → Int32) (yhsn_2 : Int32) (yhsf_2 : Nat → Int32) (yhcn_2 : Int32) (yhcf_2 : Nat → Int32) (zrn_2 : Int32) (zmn_2 : Int32) (zwn_2 : Int32) (zpn_2 : Int32) (zmd_2 : Int32) (ztr_2 : Int32) (zrf_2 : Nat → Int32) (zmf_2 : Nat → Int32) (zwf_2 : Nat → Int32) (zpf_2 : Nat → Int32) (kac_2 : Int32) (knx_2 : Int32) (kim_2 : Int32) (cf_2 : Nat → SC) (m_taped_2 : Int32) (d_tape_2 : Nat → Int32) (d_r_2 : Nat → Int32) (d_st_2 : Nat → Int32) (d_undone_2 : Nat → Int32) (d_kept_2 : Nat → Int32) (m_undos_2 : Int32) (m_images_2 : Int32) (m_hasHouse_2 : Int32) (xw2 mw2 : va_W), XW g h0 xtpd_2 tpf_2 yhnf_2 yhtn_2 yhtf_2 yhjn_2 yhjf_2 yhmn_2 yhmf_2 yhbn_2 yhbf_2 yhsn_2 yhsf_2 yhcn_2 yhcf_2 zrn_2 zmn_2 zwn_2 zpn_2 zmd_2 ztr_2 zrf_2 zmf_2 zwf_2 zpf_2 kac_2 knx_2 kim_2 cf_2 xw2 → MW g mo m_taped_2 d_tape_2 d_r_2 d_st_2 d_undone_2 d_kept_2 m_undos_2 m_images_2 m_hasHouse_2 mw2 → LR xtpd_2 tpf_2 yhnf_2 yhtn_2 yhtf_2 yhjn_2 yhjf_2 yhmn_2 yhmf_2 yhbn_2 yhbf_2 yhsn_2 yhsf_2 yhcn_2 yhcf_2 zrn_2 zmn_2 zwn_2 zpn_2 zmd_2 ztr_2 zrf_2 zmf_2 zwf_2 zpf_2 kac_2 knx_2 kim_2 cf_2 m_taped_2 d_tape_2 d_r_2 d_st_2 d_undone_2 d_kept_2 m_undos_2 m_images_2 m_hasHouse_2 → Wk p l e room_1 s m #[Value.ref b] below meth c (lw_Z below #[Value.ref b] s) A g 7 n1 n2 (xw2 ++ (mw2 ++ [(cAJ g lo 1 fo)])) [(4, .int u4), (3, .ref lo), (2, .ref mo), (1, .ref h0), (0, .ref b)] 2062 []) : Wk p l e room_1 s m #[Value.ref b] below meth c (lw_Z below #[Value.ref b] s) A g 7 n1 n2 (xw ++ (mw ++ [(cAJ g lo 1 fo)])) [(4, .int u4), (3, .ref lo), (2, .ref mo), (1, .ref h0), (0, .ref b)] 1689 [] := by
  have hiv : IV u4 0 3066 := ⟨hi.1, by omega⟩
  refine k_aload_n X dL_law_k86.1.1.1.1 3 rfl ?_
  refine k_aload_n X dL_law_k86.1.1.1.2 4 rfl ?_
  refine k_iload X dL_law_k86.1.1.2.1 0 rfl ?_
  refine k_iconst (v := 1) X dL_law_k86.1.1.2.2 ic_1 ?_
  refine k_iadd X dL_law_k86.1.2.1.1 ?_
  refine k_nm (fun z_1 ez_1 => ?_)
  have i_2 : z_1.toInt = u4.toInt + 1 := in_add ez_1 hiv iq_1_1_1 (zle_e rfl) (zle_e rfl)
  have iv_3 : IV z_1 1 3067 := by have := hiv; have := iq_1_1_1; rw [IV, i_2]; omega
  refine k_sld X hX hbl hbA dL_law_k86.1.2.1.2 (by rw [vp_in_iff]; have := iv_3; omega) ?_
  refine k_nm (fun a_4 ea_4 => ?_)
  refine k_if_eq 1703 X dL_law_k86.1.2.2.1 (jp_e rfl) (fun h_5 => ?_) (fun h_5 => ?_)
  · skip
    have iv_6 : IV a_4 0 0 := iv_meet (iv_any a_4) (iv_e h_5 iq_0_0_0) (zle_o rfl) (zle_o rfl)
    refine k_iconst (v := 0) X dL_law_k86.2.1.1.2 ic_0 ?_
    refine lx_well (st := []) 0 X hx dL_law_k86.2.1.2.1 mw1344 (Nat.le_of_ble_eq_true rfl) (Nat.le_of_ble_eq_true rfl) (Nat.le_of_ble_eq_true rfl) (Nat.le_trans h1 (Nat.le_of_ble_eq_true rfl)) (Nat.le_trans h2 (Nat.le_of_ble_eq_true rfl)) (fun r_7 xw_8 hx_9 => ?_)
    refine k_pop2 X dL_law_k86.2.1.2.2 rfl ?_
    refine k_aload_n X dL_law_k86.2.2.1.1 2 rfl ?_
    refine k_aload_n X dL_law_k86.2.2.1.2 4 rfl ?_
    refine k_iload X dL_law_k86.2.2.2.1 0 rfl ?_
    refine k_iconst (v := 1) X dL_law_k86.2.2.2.2 ic_1 ?_
    refine k_iadd X dL_law_k87.1.1.1 ?_
    refine k_to z_1 ez_1.symm ?_
    refine k_sld X hX hbl hbA dL_law_k87.1.1.2 (by rw [vp_in_iff]; have := iv_3; omega) ?_
    refine k_to a_4 ea_4.symm ?_
    refine k_if_eq 1722 X dL_law_k87.1.2.1 (jp_e rfl) (fun h_10 => ?_) (fun h_10 => absurd h_5 h_10)
    refine k_iconst (v := 0) X dL_law_k87.2.1.2 ic_0 ?_
    refine lm_well (st := []) 0 X hm dL_law_k87.2.2.1 mw1348 (Nat.le_of_ble_eq_true rfl) (Nat.le_of_ble_eq_true rfl) (Nat.le_of_ble_eq_true rfl) (Nat.le_trans h1 (Nat.le_of_ble_eq_true rfl)) (Nat.le_trans h2 (Nat.le_of_ble_eq_true rfl)) (fun r_11 mw_12 hm_13 => ?_)
    refine k_pop2 X dL_law_k87.2.2.2.1 rfl ?_
    refine k_goto 2062 X dL_law_k87.2.2.2.2 (jp_e rfl) ?_
    exact kk _ _ _ _ _ _ _ _ _ _ _ _ _ _ _ _ _ _ _ _ _ _ _ _ _ _ _ _ _ _ _ _ _ _ _ _ _ _ _ _ hx_9 hm_13 hR
  · skip
    refine k_iconst (v := 1) X dL_law_k86.1.2.2.2 ic_1 ?_
    refine k_goto 1704 X dL_law_k86.2.1.1.1 (jp_e rfl) ?_
    refine lx_well (st := []) 1 X hx dL_law_k86.2.1.2.1 mw1344 (Nat.le_of_ble_eq_true rfl) (Nat.le_of_ble_eq_true rfl) (Nat.le_of_ble_eq_true rfl) (Nat.le_trans h1 (Nat.le_of_ble_eq_true rfl)) (Nat.le_trans h2 (Nat.le_of_ble_eq_true rfl)) (fun r_14 xw_15 hx_16 => ?_)
    refine k_pop2 X dL_law_k86.2.1.2.2 rfl ?_
    refine k_aload_n X dL_law_k86.2.2.1.1 2 rfl ?_
    refine k_aload_n X dL_law_k86.2.2.1.2 4 rfl ?_
    refine k_iload X dL_law_k86.2.2.2.1 0 rfl ?_
    refine k_iconst (v := 1) X dL_law_k86.2.2.2.2 ic_1 ?_
    refine k_iadd X dL_law_k87.1.1.1 ?_
    refine k_to z_1 ez_1.symm ?_
    refine k_sld X hX hbl hbA dL_law_k87.1.1.2 (by rw [vp_in_iff]; have := iv_3; omega) ?_
    refine k_to a_4 ea_4.symm ?_
    refine k_if_eq 1722 X dL_law_k87.1.2.1 (jp_e rfl) (fun h_17 => absurd h_17 h_5) (fun h_17 => ?_)
    refine k_iconst (v := 1) X dL_law_k87.1.2.2 ic_1 ?_
    refine k_goto 1723 X dL_law_k87.2.1.1 (jp_e rfl) ?_
    refine lm_well (st := []) 1 X hm dL_law_k87.2.2.1 mw1348 (Nat.le_of_ble_eq_true rfl) (Nat.le_of_ble_eq_true rfl) (Nat.le_of_ble_eq_true rfl) (Nat.le_trans h1 (Nat.le_of_ble_eq_true rfl)) (Nat.le_trans h2 (Nat.le_of_ble_eq_true rfl)) (fun r_18 mw_19 hm_20 => ?_)
    refine k_pop2 X dL_law_k87.2.2.2.1 rfl ?_
    refine k_goto 2062 X dL_law_k87.2.2.2.2 (jp_e rfl) ?_
    exact kk _ _ _ _ _ _ _ _ _ _ _ _ _ _ _ _ _ _ _ _ _ _ _ _ _ _ _ _ _ _ _ _ _ _ _ _ _ _ _ _ hx_16 hm_20 hR

theorem dL_law_k88 : ((dD cL_law 1730 (.aload_n 1) 1 ∧ (dD cL_law 1731 (.invokevirtual 194) 3 ∧ dD cL_law 1734 .pop 1)) ∧ ((dD cL_law 1735 (.aload_n 2) 1 ∧ dD cL_law 1736 (.invokevirtual 197) 3) ∧ (dD cL_law 1739 .pop 1 ∧ dD cL_law 1740 (.goto 322) 3))) := dkA7 (by decide +kernel)
set_option maxHeartbeats 4000000 in
set_option maxRecDepth 100000 in
theorem law_c42 {p : Program} {l : Launch} {e : Env} {s : State} {m : MethodId} {below : List Frame} {meth : Method} {c : Code} {A : Nat → Prop} {g : Gx} {b L : Nat} {xs : Nat → Int32} {h0 mo lo n1 n2 : Nat} {fo : Nat → Int64} {u4 : Int32} {xtpd : Int32} {tpf : Nat → Int32} {yhnf : Nat → Int32} {yhtn : Int32} {yhtf : Nat → Int32} {yhjn : Int32} {yhjf : Nat → Int32} {yhmn : Int32} {yhmf : Nat → Int32} {yhbn : Int32} {yhbf : Nat → Int32} {yhsn : Int32} {yhsf : Nat → Int32} {yhcn : Int32} {yhcf : Nat → Int32} {zrn : Int32} {zmn : Int32} {zwn : Int32} {zpn : Int32} {zmd : Int32} {ztr : Int32} {zrf : Nat → Int32} {zmf : Nat → Int32} {zwf : Nat → Int32} {zpf : Nat → Int32} {kac : Int32} {knx : Int32} {kim : Int32} {cf : Nat → SC} {m_taped : Int32} {d_tape : Nat → Int32} {d_r : Nat → Int32} {d_st : Nat → Int32} {d_undone : Nat → Int32} {d_kept : Nat → Int32} {m_undos : Int32} {m_images : Int32} {m_hasHouse : Int32} {xw mw : va_W} (X : Cx p s m meth c #[Value.ref b] cL_law 7 RL A g) (hX : va_X b L xs s s.heap) (hbl : b < s.heap.size) (hbA : ¬ A b) (hi : 0 ≤ u4.toInt ∧ u4.toInt + 6 ≤ (L : Int)) (hL : L ≤ 3072) (h1 : n1 ≤ 601023) (h2 : n2 ≤ 7293028) (hlt : l.stackTraces = false) (hZ : kZ A s s.heap) (htsE : ∀ w ∈ wsE, w.before #[Value.ref b] s = true) (hx : XW g h0 xtpd tpf yhnf yhtn yhtf yhjn yhjf yhmn yhmf yhbn yhbf yhsn yhsf yhcn yhcf zrn zmn zwn zpn zmd ztr zrf zmf zwf zpf kac knx kim cf xw) (hm : MW g mo m_taped d_tape d_r d_st d_undone d_kept m_undos m_images m_hasHouse mw) (hR : LR xtpd tpf yhnf yhtn yhtf yhjn yhjf yhmn yhmf yhbn yhbf yhsn yhsf yhcn yhcf zrn zmn zwn zpn zmd ztr zrf zmf zwf zpf kac knx kim cf m_taped d_tape d_r d_st d_undone d_kept m_undos m_images m_hasHouse) (kk : ∀ (xtpd_2 : Int32) (tpf_2 : Nat → Int32) (yhnf_2 : Nat → Int32) (yhtn_2 : Int32) (yhtf_2 : Nat → Int32) (yhjn_2 : Int32) (yhjf_2 : Nat → Int32) (yhmn_2 : Int32) (yhmf_2 : Nat → Int32) (yhbn_2 : Int32) (yhbf_2 : Nat → Int32) (yhsn_2 : Int32) (yhsf_2 : Nat → Int32) (yhcn_2 : Int32) (yhcf_2 : Nat → Int32) (zrn_2 : Int32) (zmn_2 : Int32) (zwn_2 : Int32) (zpn_2 : Int32) (zmd_2 : Int32) (ztr_2 : Int32) (zrf_2 : Nat → Int32) (zmf_2 : Nat → Int32) (zwf_2 : Nat → Int32) (zpf_2 : Nat → Int32) (kac_2 : Int32) (knx_2 : Int32) (kim_2 : Int32) (cf_2 : Nat → SC) (m_taped_2 : Int32) (d_tape_2 : Nat → Int32) (d_r_2 : Nat → Int32) (d_st_2 : Nat → Int32) (d_undone_2 : Nat → Int32) (d_kept_2 : Nat → Int32) (m_undos_2 : Int32) (m_images_2 : Int32) (m_hasHouse_2 : Int32) (xw2 mw2 : va_W), XW g h0 xtpd_2 tpf_2 yhnf_2 yhtn_2 yhtf_2 yhjn_2 yhjf_2 yhmn_2 yhmf_2 yhbn_2 yhbf_2 yhsn_2 yhsf_2 yhcn_2 yhcf_2 zrn_2 zmn_2 zwn_2 zpn_2 zmd_2 ztr_2 zrf_2 zmf_2 zwf_2 zpf_2 kac_2 knx_2 kim_2 cf_2 xw2 → MW g mo m_taped_2 d_tape_2 d_r_2 d_st_2 d_undone_2 d_kept_2 m_undos_2 m_images_2 m_hasHouse_2 mw2 → LR xtpd_2 tpf_2 yhnf_2 yhtn_2 yhtf_2 yhjn_2 yhjf_2 yhmn_2 yhmf_2 yhbn_2 yhbf_2 yhsn_2 yhsf_2 yhcn_2 yhcf_2 zrn_2 zmn_2 zwn_2 zpn_2 zmd_2 ztr_2 zrf_2 zmf_2 zwf_2 zpf_2 kac_2 knx_2 kim_2 cf_2 m_taped_2 d_tape_2 d_r_2 d_st_2 d_undone_2 d_kept_2 m_undos_2 m_images_2 m_hasHouse_2 → Wk p l e room_1 s m #[Value.ref b] below meth c (lw_Z below #[Value.ref b] s) A g 7 n1 n2 (xw2 ++ (mw2 ++ [(cAJ g lo 1 fo)])) [(4, .int u4), (3, .ref lo), (2, .ref mo), (1, .ref h0), (0, .ref b)] 2062 []) : Wk p l e room_1 s m #[Value.ref b] below meth c (lw_Z below #[Value.ref b] s) A g 7 n1 n2 (xw ++ (mw ++ [(cAJ g lo 1 fo)])) [(4, .int u4), (3, .ref lo), (2, .ref mo), (1, .ref h0), (0, .ref b)] 1730 [] := by
  have hiv : IV u4 0 3066 := ⟨hi.1, by omega⟩
  refine k_aload_n X dL_law_k88.1.1 3 rfl ?_
  refine lx_wrong (st := []) () X hx dL_law_k88.1.2.1 mw1352 (Nat.le_of_ble_eq_true rfl) (Nat.le_of_ble_eq_true rfl) (Nat.le_of_ble_eq_true rfl) (Nat.le_trans h1 (Nat.le_of_ble_eq_true rfl)) (Nat.le_trans h2 (Nat.le_of_ble_eq_true rfl)) (fun r_1 xw_2 hx_3 => ?_)
  refine k_pop X dL_law_k88.1.2.2 rfl ?_
  refine k_aload_n X dL_law_k88.2.1.1 2 rfl ?_
  refine lm_wrong (st := []) () X hm dL_law_k88.2.1.2 mw1363 (Nat.le_of_ble_eq_true rfl) (Nat.le_of_ble_eq_true rfl) (Nat.le_of_ble_eq_true rfl) (Nat.le_trans h1 (Nat.le_of_ble_eq_true rfl)) (Nat.le_trans h2 (Nat.le_of_ble_eq_true rfl)) (fun r_4 mw_5 hm_6 => ?_)
  refine k_pop X dL_law_k88.2.2.1 rfl ?_
  refine k_goto 2062 X dL_law_k88.2.2.2 (jp_e rfl) ?_
  exact kk _ _ _ _ _ _ _ _ _ _ _ _ _ _ _ _ _ _ _ _ _ _ _ _ _ _ _ _ _ _ _ _ _ _ _ _ _ _ _ _ hx_3 hm_6 hR

theorem dL_law_k89 : ((dD cL_law 1743 (.aload_n 1) 1 ∧ (dD cL_law 1744 (.invokevirtual 198) 3 ∧ dD cL_law 1747 .pop 1)) ∧ ((dD cL_law 1748 (.aload_n 2) 1 ∧ dD cL_law 1749 (.invokevirtual 201) 3) ∧ (dD cL_law 1752 .pop 1 ∧ dD cL_law 1753 (.goto 309) 3))) := dkA7 (by decide +kernel)
set_option maxHeartbeats 4000000 in
set_option maxRecDepth 100000 in
theorem law_c43 {p : Program} {l : Launch} {e : Env} {s : State} {m : MethodId} {below : List Frame} {meth : Method} {c : Code} {A : Nat → Prop} {g : Gx} {b L : Nat} {xs : Nat → Int32} {h0 mo lo n1 n2 : Nat} {fo : Nat → Int64} {u4 : Int32} {xtpd : Int32} {tpf : Nat → Int32} {yhnf : Nat → Int32} {yhtn : Int32} {yhtf : Nat → Int32} {yhjn : Int32} {yhjf : Nat → Int32} {yhmn : Int32} {yhmf : Nat → Int32} {yhbn : Int32} {yhbf : Nat → Int32} {yhsn : Int32} {yhsf : Nat → Int32} {yhcn : Int32} {yhcf : Nat → Int32} {zrn : Int32} {zmn : Int32} {zwn : Int32} {zpn : Int32} {zmd : Int32} {ztr : Int32} {zrf : Nat → Int32} {zmf : Nat → Int32} {zwf : Nat → Int32} {zpf : Nat → Int32} {kac : Int32} {knx : Int32} {kim : Int32} {cf : Nat → SC} {m_taped : Int32} {d_tape : Nat → Int32} {d_r : Nat → Int32} {d_st : Nat → Int32} {d_undone : Nat → Int32} {d_kept : Nat → Int32} {m_undos : Int32} {m_images : Int32} {m_hasHouse : Int32} {xw mw : va_W} (X : Cx p s m meth c #[Value.ref b] cL_law 7 RL A g) (hX : va_X b L xs s s.heap) (hbl : b < s.heap.size) (hbA : ¬ A b) (hi : 0 ≤ u4.toInt ∧ u4.toInt + 6 ≤ (L : Int)) (hL : L ≤ 3072) (h1 : n1 ≤ 601023) (h2 : n2 ≤ 7293028) (hlt : l.stackTraces = false) (hZ : kZ A s s.heap) (htsE : ∀ w ∈ wsE, w.before #[Value.ref b] s = true) (hx : XW g h0 xtpd tpf yhnf yhtn yhtf yhjn yhjf yhmn yhmf yhbn yhbf yhsn yhsf yhcn yhcf zrn zmn zwn zpn zmd ztr zrf zmf zwf zpf kac knx kim cf xw) (hm : MW g mo m_taped d_tape d_r d_st d_undone d_kept m_undos m_images m_hasHouse mw) (hR : LR xtpd tpf yhnf yhtn yhtf yhjn yhjf yhmn yhmf yhbn yhbf yhsn yhsf yhcn yhcf zrn zmn zwn zpn zmd ztr zrf zmf zwf zpf kac knx kim cf m_taped d_tape d_r d_st d_undone d_kept m_undos m_images m_hasHouse) (kk : ∀ (xtpd_2 : Int32) (tpf_2 : Nat → Int32) (yhnf_2 : Nat → Int32) (yhtn_2 : Int32) (yhtf_2 : Nat → Int32) (yhjn_2 : Int32) (yhjf_2 : Nat → Int32) (yhmn_2 : Int32) (yhmf_2 : Nat → Int32) (yhbn_2 : Int32) (yhbf_2 : Nat → Int32) (yhsn_2 : Int32) (yhsf_2 : Nat → Int32) (yhcn_2 : Int32) (yhcf_2 : Nat → Int32) (zrn_2 : Int32) (zmn_2 : Int32) (zwn_2 : Int32) (zpn_2 : Int32) (zmd_2 : Int32) (ztr_2 : Int32) (zrf_2 : Nat → Int32) (zmf_2 : Nat → Int32) (zwf_2 : Nat → Int32) (zpf_2 : Nat → Int32) (kac_2 : Int32) (knx_2 : Int32) (kim_2 : Int32) (cf_2 : Nat → SC) (m_taped_2 : Int32) (d_tape_2 : Nat → Int32) (d_r_2 : Nat → Int32) (d_st_2 : Nat → Int32) (d_undone_2 : Nat → Int32) (d_kept_2 : Nat → Int32) (m_undos_2 : Int32) (m_images_2 : Int32) (m_hasHouse_2 : Int32) (xw2 mw2 : va_W), XW g h0 xtpd_2 tpf_2 yhnf_2 yhtn_2 yhtf_2 yhjn_2 yhjf_2 yhmn_2 yhmf_2 yhbn_2 yhbf_2 yhsn_2 yhsf_2 yhcn_2 yhcf_2 zrn_2 zmn_2 zwn_2 zpn_2 zmd_2 ztr_2 zrf_2 zmf_2 zwf_2 zpf_2 kac_2 knx_2 kim_2 cf_2 xw2 → MW g mo m_taped_2 d_tape_2 d_r_2 d_st_2 d_undone_2 d_kept_2 m_undos_2 m_images_2 m_hasHouse_2 mw2 → LR xtpd_2 tpf_2 yhnf_2 yhtn_2 yhtf_2 yhjn_2 yhjf_2 yhmn_2 yhmf_2 yhbn_2 yhbf_2 yhsn_2 yhsf_2 yhcn_2 yhcf_2 zrn_2 zmn_2 zwn_2 zpn_2 zmd_2 ztr_2 zrf_2 zmf_2 zwf_2 zpf_2 kac_2 knx_2 kim_2 cf_2 m_taped_2 d_tape_2 d_r_2 d_st_2 d_undone_2 d_kept_2 m_undos_2 m_images_2 m_hasHouse_2 → Wk p l e room_1 s m #[Value.ref b] below meth c (lw_Z below #[Value.ref b] s) A g 7 n1 n2 (xw2 ++ (mw2 ++ [(cAJ g lo 1 fo)])) [(4, .int u4), (3, .ref lo), (2, .ref mo), (1, .ref h0), (0, .ref b)] 2062 []) : Wk p l e room_1 s m #[Value.ref b] below meth c (lw_Z below #[Value.ref b] s) A g 7 n1 n2 (xw ++ (mw ++ [(cAJ g lo 1 fo)])) [(4, .int u4), (3, .ref lo), (2, .ref mo), (1, .ref h0), (0, .ref b)] 1743 [] := by
  have hiv : IV u4 0 3066 := ⟨hi.1, by omega⟩
  refine k_aload_n X dL_law_k89.1.1 3 rfl ?_
  refine lx_exchanges (st := []) () X hx dL_law_k89.1.2.1 mw1367 (Nat.le_of_ble_eq_true rfl) (Nat.le_of_ble_eq_true rfl) (Nat.le_of_ble_eq_true rfl) (Nat.le_trans h1 (Nat.le_of_ble_eq_true rfl)) (Nat.le_trans h2 (Nat.le_of_ble_eq_true rfl)) (fun r_1 xw_2 hx_3 => ?_)
  refine k_pop X dL_law_k89.1.2.2 rfl ?_
  refine k_aload_n X dL_law_k89.2.1.1 2 rfl ?_
  refine lm_exchanges (st := []) () X hm dL_law_k89.2.1.2 mw1394 (Nat.le_of_ble_eq_true rfl) (Nat.le_of_ble_eq_true rfl) (Nat.le_of_ble_eq_true rfl) (Nat.le_trans h1 (Nat.le_of_ble_eq_true rfl)) (Nat.le_trans h2 (Nat.le_of_ble_eq_true rfl)) (fun r_4 mw_5 hm_6 => ?_)
  refine k_pop X dL_law_k89.2.2.1 rfl ?_
  refine k_goto 2062 X dL_law_k89.2.2.2 (jp_e rfl) ?_
  exact kk _ _ _ _ _ _ _ _ _ _ _ _ _ _ _ _ _ _ _ _ _ _ _ _ _ _ _ _ _ _ _ _ _ _ _ _ _ _ _ _ hx_3 hm_6 hR

theorem dL_law_k90 : ((((dD cL_law 1756 (.aload_n 1) 1 ∧ dD cL_law 1757 (.aload_n 0) 1) ∧ (dD cL_law 1758 (.iload 4) 2 ∧ dD cL_law 1760 (.iconst 1) 1)) ∧ ((dD cL_law 1761 .iadd 1 ∧ dD cL_law 1762 .iaload 1) ∧ (dD cL_law 1763 (.aload_n 0) 1 ∧ dD cL_law 1764 (.iload 4) 2))) ∧ (((dD cL_law 1766 (.iconst 2) 1 ∧ dD cL_law 1767 .iadd 1) ∧ (dD cL_law 1768 .iaload 1 ∧ dD cL_law 1769 (.invokevirtual 202) 3)) ∧ ((dD cL_law 1772 .pop 1 ∧ dD cL_law 1773 (.aload_n 2) 1) ∧ (dD cL_law 1774 (.aload_n 0) 1 ∧ dD cL_law 1775 (.iload 4) 2)))) := dkA16 (by decide +kernel)
theorem dL_law_k91 : (((dD cL_law 1777 (.iconst 1) 1 ∧ dD cL_law 1778 .iadd 1) ∧ (dD cL_law 1779 .iaload 1 ∧ (dD cL_law 1780 (.aload_n 0) 1 ∧ dD cL_law 1781 (.iload 4) 2))) ∧ ((dD cL_law 1783 (.iconst 2) 1 ∧ (dD cL_law 1784 .iadd 1 ∧ dD cL_law 1785 .iaload 1)) ∧ (dD cL_law 1786 (.invokevirtual 205) 3 ∧ (dD cL_law 1789 .pop 1 ∧ dD cL_law 1790 (.goto 272) 3)))) := dkA11 (by decide +kernel)
set_option maxHeartbeats 4000000 in
set_option maxRecDepth 100000 in
theorem law_c44 {p : Program} {l : Launch} {e : Env} {s : State} {m : MethodId} {below : List Frame} {meth : Method} {c : Code} {A : Nat → Prop} {g : Gx} {b L : Nat} {xs : Nat → Int32} {h0 mo lo n1 n2 : Nat} {fo : Nat → Int64} {u4 : Int32} {xtpd : Int32} {tpf : Nat → Int32} {yhnf : Nat → Int32} {yhtn : Int32} {yhtf : Nat → Int32} {yhjn : Int32} {yhjf : Nat → Int32} {yhmn : Int32} {yhmf : Nat → Int32} {yhbn : Int32} {yhbf : Nat → Int32} {yhsn : Int32} {yhsf : Nat → Int32} {yhcn : Int32} {yhcf : Nat → Int32} {zrn : Int32} {zmn : Int32} {zwn : Int32} {zpn : Int32} {zmd : Int32} {ztr : Int32} {zrf : Nat → Int32} {zmf : Nat → Int32} {zwf : Nat → Int32} {zpf : Nat → Int32} {kac : Int32} {knx : Int32} {kim : Int32} {cf : Nat → SC} {m_taped : Int32} {d_tape : Nat → Int32} {d_r : Nat → Int32} {d_st : Nat → Int32} {d_undone : Nat → Int32} {d_kept : Nat → Int32} {m_undos : Int32} {m_images : Int32} {m_hasHouse : Int32} {xw mw : va_W} (X : Cx p s m meth c #[Value.ref b] cL_law 7 RL A g) (hX : va_X b L xs s s.heap) (hbl : b < s.heap.size) (hbA : ¬ A b) (hi : 0 ≤ u4.toInt ∧ u4.toInt + 6 ≤ (L : Int)) (hL : L ≤ 3072) (h1 : n1 ≤ 601023) (h2 : n2 ≤ 7293028) (hlt : l.stackTraces = false) (hZ : kZ A s s.heap) (htsE : ∀ w ∈ wsE, w.before #[Value.ref b] s = true) (hx : XW g h0 xtpd tpf yhnf yhtn yhtf yhjn yhjf yhmn yhmf yhbn yhbf yhsn yhsf yhcn yhcf zrn zmn zwn zpn zmd ztr zrf zmf zwf zpf kac knx kim cf xw) (hm : MW g mo m_taped d_tape d_r d_st d_undone d_kept m_undos m_images m_hasHouse mw) (hR : LR xtpd tpf yhnf yhtn yhtf yhjn yhjf yhmn yhmf yhbn yhbf yhsn yhsf yhcn yhcf zrn zmn zwn zpn zmd ztr zrf zmf zwf zpf kac knx kim cf m_taped d_tape d_r d_st d_undone d_kept m_undos m_images m_hasHouse) (kk : ∀ (xtpd_2 : Int32) (tpf_2 : Nat → Int32) (yhnf_2 : Nat → Int32) (yhtn_2 : Int32) (yhtf_2 : Nat → Int32) (yhjn_2 : Int32) (yhjf_2 : Nat → Int32) (yhmn_2 : Int32) (yhmf_2 : Nat → Int32) (yhbn_2 : Int32) (yhbf_2 : Nat → Int32) (yhsn_2 : Int32) (yhsf_2 : Nat → Int32) (yhcn_2 : Int32) (yhcf_2 : Nat → Int32) (zrn_2 : Int32) (zmn_2 : Int32) (zwn_2 : Int32) (zpn_2 : Int32) (zmd_2 : Int32) (ztr_2 : Int32) (zrf_2 : Nat → Int32) (zmf_2 : Nat → Int32) (zwf_2 : Nat → Int32) (zpf_2 : Nat → Int32) (kac_2 : Int32) (knx_2 : Int32) (kim_2 : Int32) (cf_2 : Nat → SC) (m_taped_2 : Int32) (d_tape_2 : Nat → Int32) (d_r_2 : Nat → Int32) (d_st_2 : Nat → Int32) (d_undone_2 : Nat → Int32) (d_kept_2 : Nat → Int32) (m_undos_2 : Int32) (m_images_2 : Int32) (m_hasHouse_2 : Int32) (xw2 mw2 : va_W), XW g h0 xtpd_2 tpf_2 yhnf_2 yhtn_2 yhtf_2 yhjn_2 yhjf_2 yhmn_2 yhmf_2 yhbn_2 yhbf_2 yhsn_2 yhsf_2 yhcn_2 yhcf_2 zrn_2 zmn_2 zwn_2 zpn_2 zmd_2 ztr_2 zrf_2 zmf_2 zwf_2 zpf_2 kac_2 knx_2 kim_2 cf_2 xw2 → MW g mo m_taped_2 d_tape_2 d_r_2 d_st_2 d_undone_2 d_kept_2 m_undos_2 m_images_2 m_hasHouse_2 mw2 → LR xtpd_2 tpf_2 yhnf_2 yhtn_2 yhtf_2 yhjn_2 yhjf_2 yhmn_2 yhmf_2 yhbn_2 yhbf_2 yhsn_2 yhsf_2 yhcn_2 yhcf_2 zrn_2 zmn_2 zwn_2 zpn_2 zmd_2 ztr_2 zrf_2 zmf_2 zwf_2 zpf_2 kac_2 knx_2 kim_2 cf_2 m_taped_2 d_tape_2 d_r_2 d_st_2 d_undone_2 d_kept_2 m_undos_2 m_images_2 m_hasHouse_2 → Wk p l e room_1 s m #[Value.ref b] below meth c (lw_Z below #[Value.ref b] s) A g 7 n1 n2 (xw2 ++ (mw2 ++ [(cAJ g lo 1 fo)])) [(4, .int u4), (3, .ref lo), (2, .ref mo), (1, .ref h0), (0, .ref b)] 2062 []) : Wk p l e room_1 s m #[Value.ref b] below meth c (lw_Z below #[Value.ref b] s) A g 7 n1 n2 (xw ++ (mw ++ [(cAJ g lo 1 fo)])) [(4, .int u4), (3, .ref lo), (2, .ref mo), (1, .ref h0), (0, .ref b)] 1756 [] := by
  have hiv : IV u4 0 3066 := ⟨hi.1, by omega⟩
  refine k_aload_n X dL_law_k90.1.1.1.1 3 rfl ?_
  refine k_aload_n X dL_law_k90.1.1.1.2 4 rfl ?_
  refine k_iload X dL_law_k90.1.1.2.1 0 rfl ?_
  refine k_iconst (v := 1) X dL_law_k90.1.1.2.2 ic_1 ?_
  refine k_iadd X dL_law_k90.1.2.1.1 ?_
  refine k_nm (fun z_1 ez_1 => ?_)
  have i_2 : z_1.toInt = u4.toInt + 1 := in_add ez_1 hiv iq_1_1_1 (zle_e rfl) (zle_e rfl)
  have iv_3 : IV z_1 1 3067 := by have := hiv; have := iq_1_1_1; rw [IV, i_2]; omega
  refine k_sld X hX hbl hbA dL_law_k90.1.2.1.2 (by rw [vp_in_iff]; have := iv_3; omega) ?_
  refine k_nm (fun a_4 ea_4 => ?_)
  refine k_aload_n X dL_law_k90.1.2.2.1 4 rfl ?_
  refine k_iload X dL_law_k90.1.2.2.2 0 rfl ?_
  refine k_iconst (v := 2) X dL_law_k90.2.1.1.1 ic_2 ?_
  refine k_iadd X dL_law_k90.2.1.1.2 ?_
  refine k_nm (fun z_5 ez_5 => ?_)
  have i_6 : z_5.toInt = u4.toInt + 2 := in_add ez_5 hiv iq_2_2_2 (zle_e rfl) (zle_e rfl)
  have iv_7 : IV z_5 2 3068 := by have := hiv; have := iq_2_2_2; rw [IV, i_6]; omega
  refine k_sld X hX hbl hbA dL_law_k90.2.1.2.1 (by rw [vp_in_iff]; have := iv_7; omega) ?_
  refine k_nm (fun a_8 ea_8 => ?_)
  refine lx_dark (st := []) a_4 a_8 X hx dL_law_k90.2.1.2.2 mw1406 (Nat.le_of_ble_eq_true rfl) (Nat.le_of_ble_eq_true rfl) (Nat.le_of_ble_eq_true rfl) (Nat.le_trans h1 (Nat.le_of_ble_eq_true rfl)) (Nat.le_trans h2 (Nat.le_of_ble_eq_true rfl)) (fun r_9 xw_10 hx_11 => ?_)
  refine k_pop X dL_law_k90.2.2.1.1 rfl ?_
  refine k_aload_n X dL_law_k90.2.2.1.2 2 rfl ?_
  refine k_aload_n X dL_law_k90.2.2.2.1 4 rfl ?_
  refine k_iload X dL_law_k90.2.2.2.2 0 rfl ?_
  refine k_iconst (v := 1) X dL_law_k91.1.1.1 ic_1 ?_
  refine k_iadd X dL_law_k91.1.1.2 ?_
  refine k_to z_1 ez_1.symm ?_
  refine k_sld X hX hbl hbA dL_law_k91.1.2.1 (by rw [vp_in_iff]; have := iv_3; omega) ?_
  refine k_to a_4 ea_4.symm ?_
  refine k_aload_n X dL_law_k91.1.2.2.1 4 rfl ?_
  refine k_iload X dL_law_k91.1.2.2.2 0 rfl ?_
  refine k_iconst (v := 2) X dL_law_k91.2.1.1 ic_2 ?_
  refine k_iadd X dL_law_k91.2.1.2.1 ?_
  refine k_to z_5 ez_5.symm ?_
  refine k_sld X hX hbl hbA dL_law_k91.2.1.2.2 (by rw [vp_in_iff]; have := iv_7; omega) ?_
  refine k_to a_8 ea_8.symm ?_
  refine lm_dark (st := []) a_4 a_8 X hm dL_law_k91.2.2.1 mw1416 (Nat.le_of_ble_eq_true rfl) (Nat.le_of_ble_eq_true rfl) (Nat.le_of_ble_eq_true rfl) (Nat.le_trans h1 (Nat.le_of_ble_eq_true rfl)) (Nat.le_trans h2 (Nat.le_of_ble_eq_true rfl)) (fun r_12 mw_13 hm_14 => ?_)
  refine k_pop X dL_law_k91.2.2.2.1 rfl ?_
  refine k_goto 2062 X dL_law_k91.2.2.2.2 (jp_e rfl) ?_
  exact kk _ _ _ _ _ _ _ _ _ _ _ _ _ _ _ _ _ _ _ _ _ _ _ _ _ _ _ _ _ _ _ _ _ _ _ _ _ _ _ _ hx_11 hm_14 hR

theorem dL_law_k92 : ((((dD cL_law 1793 (.aload_n 1) 1 ∧ dD cL_law 1794 (.aload_n 0) 1) ∧ (dD cL_law 1795 (.iload 4) 2 ∧ dD cL_law 1797 (.iconst 1) 1)) ∧ ((dD cL_law 1798 .iadd 1 ∧ dD cL_law 1799 .iaload 1) ∧ (dD cL_law 1800 (.aload_n 0) 1 ∧ dD cL_law 1801 (.iload 4) 2))) ∧ (((dD cL_law 1803 (.iconst 2) 1 ∧ dD cL_law 1804 .iadd 1) ∧ (dD cL_law 1805 .iaload 1 ∧ dD cL_law 1806 (.invokevirtual 206) 3)) ∧ ((dD cL_law 1809 .pop 1 ∧ dD cL_law 1810 (.aload_n 2) 1) ∧ (dD cL_law 1811 (.aload_n 0) 1 ∧ dD cL_law 1812 (.iload 4) 2)))) := dkA16 (by decide +kernel)
theorem dL_law_k93 : (((dD cL_law 1814 (.iconst 1) 1 ∧ dD cL_law 1815 .iadd 1) ∧ (dD cL_law 1816 .iaload 1 ∧ (dD cL_law 1817 (.aload_n 0) 1 ∧ dD cL_law 1818 (.iload 4) 2))) ∧ ((dD cL_law 1820 (.iconst 2) 1 ∧ (dD cL_law 1821 .iadd 1 ∧ dD cL_law 1822 .iaload 1)) ∧ (dD cL_law 1823 (.invokevirtual 209) 3 ∧ (dD cL_law 1826 .pop 1 ∧ dD cL_law 1827 (.goto 235) 3)))) := dkA11 (by decide +kernel)
set_option maxHeartbeats 4000000 in
set_option maxRecDepth 100000 in
theorem law_c45 {p : Program} {l : Launch} {e : Env} {s : State} {m : MethodId} {below : List Frame} {meth : Method} {c : Code} {A : Nat → Prop} {g : Gx} {b L : Nat} {xs : Nat → Int32} {h0 mo lo n1 n2 : Nat} {fo : Nat → Int64} {u4 : Int32} {xtpd : Int32} {tpf : Nat → Int32} {yhnf : Nat → Int32} {yhtn : Int32} {yhtf : Nat → Int32} {yhjn : Int32} {yhjf : Nat → Int32} {yhmn : Int32} {yhmf : Nat → Int32} {yhbn : Int32} {yhbf : Nat → Int32} {yhsn : Int32} {yhsf : Nat → Int32} {yhcn : Int32} {yhcf : Nat → Int32} {zrn : Int32} {zmn : Int32} {zwn : Int32} {zpn : Int32} {zmd : Int32} {ztr : Int32} {zrf : Nat → Int32} {zmf : Nat → Int32} {zwf : Nat → Int32} {zpf : Nat → Int32} {kac : Int32} {knx : Int32} {kim : Int32} {cf : Nat → SC} {m_taped : Int32} {d_tape : Nat → Int32} {d_r : Nat → Int32} {d_st : Nat → Int32} {d_undone : Nat → Int32} {d_kept : Nat → Int32} {m_undos : Int32} {m_images : Int32} {m_hasHouse : Int32} {xw mw : va_W} (X : Cx p s m meth c #[Value.ref b] cL_law 7 RL A g) (hX : va_X b L xs s s.heap) (hbl : b < s.heap.size) (hbA : ¬ A b) (hi : 0 ≤ u4.toInt ∧ u4.toInt + 6 ≤ (L : Int)) (hL : L ≤ 3072) (h1 : n1 ≤ 601023) (h2 : n2 ≤ 7293028) (hlt : l.stackTraces = false) (hZ : kZ A s s.heap) (htsE : ∀ w ∈ wsE, w.before #[Value.ref b] s = true) (hx : XW g h0 xtpd tpf yhnf yhtn yhtf yhjn yhjf yhmn yhmf yhbn yhbf yhsn yhsf yhcn yhcf zrn zmn zwn zpn zmd ztr zrf zmf zwf zpf kac knx kim cf xw) (hm : MW g mo m_taped d_tape d_r d_st d_undone d_kept m_undos m_images m_hasHouse mw) (hR : LR xtpd tpf yhnf yhtn yhtf yhjn yhjf yhmn yhmf yhbn yhbf yhsn yhsf yhcn yhcf zrn zmn zwn zpn zmd ztr zrf zmf zwf zpf kac knx kim cf m_taped d_tape d_r d_st d_undone d_kept m_undos m_images m_hasHouse) (kk : ∀ (xtpd_2 : Int32) (tpf_2 : Nat → Int32) (yhnf_2 : Nat → Int32) (yhtn_2 : Int32) (yhtf_2 : Nat → Int32) (yhjn_2 : Int32) (yhjf_2 : Nat → Int32) (yhmn_2 : Int32) (yhmf_2 : Nat → Int32) (yhbn_2 : Int32) (yhbf_2 : Nat → Int32) (yhsn_2 : Int32) (yhsf_2 : Nat → Int32) (yhcn_2 : Int32) (yhcf_2 : Nat → Int32) (zrn_2 : Int32) (zmn_2 : Int32) (zwn_2 : Int32) (zpn_2 : Int32) (zmd_2 : Int32) (ztr_2 : Int32) (zrf_2 : Nat → Int32) (zmf_2 : Nat → Int32) (zwf_2 : Nat → Int32) (zpf_2 : Nat → Int32) (kac_2 : Int32) (knx_2 : Int32) (kim_2 : Int32) (cf_2 : Nat → SC) (m_taped_2 : Int32) (d_tape_2 : Nat → Int32) (d_r_2 : Nat → Int32) (d_st_2 : Nat → Int32) (d_undone_2 : Nat → Int32) (d_kept_2 : Nat → Int32) (m_undos_2 : Int32) (m_images_2 : Int32) (m_hasHouse_2 : Int32) (xw2 mw2 : va_W), XW g h0 xtpd_2 tpf_2 yhnf_2 yhtn_2 yhtf_2 yhjn_2 yhjf_2 yhmn_2 yhmf_2 yhbn_2 yhbf_2 yhsn_2 yhsf_2 yhcn_2 yhcf_2 zrn_2 zmn_2 zwn_2 zpn_2 zmd_2 ztr_2 zrf_2 zmf_2 zwf_2 zpf_2 kac_2 knx_2 kim_2 cf_2 xw2 → MW g mo m_taped_2 d_tape_2 d_r_2 d_st_2 d_undone_2 d_kept_2 m_undos_2 m_images_2 m_hasHouse_2 mw2 → LR xtpd_2 tpf_2 yhnf_2 yhtn_2 yhtf_2 yhjn_2 yhjf_2 yhmn_2 yhmf_2 yhbn_2 yhbf_2 yhsn_2 yhsf_2 yhcn_2 yhcf_2 zrn_2 zmn_2 zwn_2 zpn_2 zmd_2 ztr_2 zrf_2 zmf_2 zwf_2 zpf_2 kac_2 knx_2 kim_2 cf_2 m_taped_2 d_tape_2 d_r_2 d_st_2 d_undone_2 d_kept_2 m_undos_2 m_images_2 m_hasHouse_2 → Wk p l e room_1 s m #[Value.ref b] below meth c (lw_Z below #[Value.ref b] s) A g 7 n1 n2 (xw2 ++ (mw2 ++ [(cAJ g lo 1 fo)])) [(4, .int u4), (3, .ref lo), (2, .ref mo), (1, .ref h0), (0, .ref b)] 2062 []) : Wk p l e room_1 s m #[Value.ref b] below meth c (lw_Z below #[Value.ref b] s) A g 7 n1 n2 (xw ++ (mw ++ [(cAJ g lo 1 fo)])) [(4, .int u4), (3, .ref lo), (2, .ref mo), (1, .ref h0), (0, .ref b)] 1793 [] := by
  have hiv : IV u4 0 3066 := ⟨hi.1, by omega⟩
  refine k_aload_n X dL_law_k92.1.1.1.1 3 rfl ?_
  refine k_aload_n X dL_law_k92.1.1.1.2 4 rfl ?_
  refine k_iload X dL_law_k92.1.1.2.1 0 rfl ?_
  refine k_iconst (v := 1) X dL_law_k92.1.1.2.2 ic_1 ?_
  refine k_iadd X dL_law_k92.1.2.1.1 ?_
  refine k_nm (fun z_1 ez_1 => ?_)
  have i_2 : z_1.toInt = u4.toInt + 1 := in_add ez_1 hiv iq_1_1_1 (zle_e rfl) (zle_e rfl)
  have iv_3 : IV z_1 1 3067 := by have := hiv; have := iq_1_1_1; rw [IV, i_2]; omega
  refine k_sld X hX hbl hbA dL_law_k92.1.2.1.2 (by rw [vp_in_iff]; have := iv_3; omega) ?_
  refine k_nm (fun a_4 ea_4 => ?_)
  refine k_aload_n X dL_law_k92.1.2.2.1 4 rfl ?_
  refine k_iload X dL_law_k92.1.2.2.2 0 rfl ?_
  refine k_iconst (v := 2) X dL_law_k92.2.1.1.1 ic_2 ?_
  refine k_iadd X dL_law_k92.2.1.1.2 ?_
  refine k_nm (fun z_5 ez_5 => ?_)
  have i_6 : z_5.toInt = u4.toInt + 2 := in_add ez_5 hiv iq_2_2_2 (zle_e rfl) (zle_e rfl)
  have iv_7 : IV z_5 2 3068 := by have := hiv; have := iq_2_2_2; rw [IV, i_6]; omega
  refine k_sld X hX hbl hbA dL_law_k92.2.1.2.1 (by rw [vp_in_iff]; have := iv_7; omega) ?_
  refine k_nm (fun a_8 ea_8 => ?_)
  refine lx_bestMan (st := []) a_4 a_8 X hx dL_law_k92.2.1.2.2 mw1432 (Nat.le_of_ble_eq_true rfl) (Nat.le_of_ble_eq_true rfl) (Nat.le_of_ble_eq_true rfl) (Nat.le_trans h1 (Nat.le_of_ble_eq_true rfl)) (Nat.le_trans h2 (Nat.le_of_ble_eq_true rfl)) (fun r_9 xw_10 hx_11 => ?_)
  refine k_pop X dL_law_k92.2.2.1.1 rfl ?_
  refine k_aload_n X dL_law_k92.2.2.1.2 2 rfl ?_
  refine k_aload_n X dL_law_k92.2.2.2.1 4 rfl ?_
  refine k_iload X dL_law_k92.2.2.2.2 0 rfl ?_
  refine k_iconst (v := 1) X dL_law_k93.1.1.1 ic_1 ?_
  refine k_iadd X dL_law_k93.1.1.2 ?_
  refine k_to z_1 ez_1.symm ?_
  refine k_sld X hX hbl hbA dL_law_k93.1.2.1 (by rw [vp_in_iff]; have := iv_3; omega) ?_
  refine k_to a_4 ea_4.symm ?_
  refine k_aload_n X dL_law_k93.1.2.2.1 4 rfl ?_
  refine k_iload X dL_law_k93.1.2.2.2 0 rfl ?_
  refine k_iconst (v := 2) X dL_law_k93.2.1.1 ic_2 ?_
  refine k_iadd X dL_law_k93.2.1.2.1 ?_
  refine k_to z_5 ez_5.symm ?_
  refine k_sld X hX hbl hbA dL_law_k93.2.1.2.2 (by rw [vp_in_iff]; have := iv_7; omega) ?_
  refine k_to a_8 ea_8.symm ?_
  refine lm_bestMan (st := []) a_4 a_8 X hm dL_law_k93.2.2.1 mw1440 (Nat.le_of_ble_eq_true rfl) (Nat.le_of_ble_eq_true rfl) (Nat.le_of_ble_eq_true rfl) (Nat.le_trans h1 (Nat.le_of_ble_eq_true rfl)) (Nat.le_trans h2 (Nat.le_of_ble_eq_true rfl)) (fun r_12 mw_13 hm_14 => ?_)
  refine k_pop X dL_law_k93.2.2.2.1 rfl ?_
  refine k_goto 2062 X dL_law_k93.2.2.2.2 (jp_e rfl) ?_
  exact kk _ _ _ _ _ _ _ _ _ _ _ _ _ _ _ _ _ _ _ _ _ _ _ _ _ _ _ _ _ _ _ _ _ _ _ _ _ _ _ _ hx_11 hm_14 hR

theorem dL_law_k94 : ((((dD cL_law 1830 (.aload_n 1) 1 ∧ dD cL_law 1831 (.aload_n 0) 1) ∧ (dD cL_law 1832 (.iload 4) 2 ∧ dD cL_law 1834 (.iconst 1) 1)) ∧ ((dD cL_law 1835 .iadd 1 ∧ dD cL_law 1836 .iaload 1) ∧ (dD cL_law 1837 (.aload_n 0) 1 ∧ dD cL_law 1838 (.iload 4) 2))) ∧ (((dD cL_law 1840 (.iconst 2) 1 ∧ dD cL_law 1841 .iadd 1) ∧ (dD cL_law 1842 .iaload 1 ∧ dD cL_law 1843 (.invokevirtual 210) 3)) ∧ ((dD cL_law 1846 .pop 1 ∧ dD cL_law 1847 (.aload_n 2) 1) ∧ (dD cL_law 1848 (.aload_n 0) 1 ∧ dD cL_law 1849 (.iload 4) 2)))) := dkA16 (by decide +kernel)
theorem dL_law_k95 : (((dD cL_law 1851 (.iconst 1) 1 ∧ dD cL_law 1852 .iadd 1) ∧ (dD cL_law 1853 .iaload 1 ∧ (dD cL_law 1854 (.aload_n 0) 1 ∧ dD cL_law 1855 (.iload 4) 2))) ∧ ((dD cL_law 1857 (.iconst 2) 1 ∧ (dD cL_law 1858 .iadd 1 ∧ dD cL_law 1859 .iaload 1)) ∧ (dD cL_law 1860 (.invokevirtual 214) 3 ∧ (dD cL_law 1863 .pop 1 ∧ dD cL_law 1864 (.goto 198) 3)))) := dkA11 (by decide +kernel)
set_option maxHeartbeats 4000000 in
set_option maxRecDepth 100000 in
theorem law_c46 {p : Program} {l : Launch} {e : Env} {s : State} {m : MethodId} {below : List Frame} {meth : Method} {c : Code} {A : Nat → Prop} {g : Gx} {b L : Nat} {xs : Nat → Int32} {h0 mo lo n1 n2 : Nat} {fo : Nat → Int64} {u4 : Int32} {xtpd : Int32} {tpf : Nat → Int32} {yhnf : Nat → Int32} {yhtn : Int32} {yhtf : Nat → Int32} {yhjn : Int32} {yhjf : Nat → Int32} {yhmn : Int32} {yhmf : Nat → Int32} {yhbn : Int32} {yhbf : Nat → Int32} {yhsn : Int32} {yhsf : Nat → Int32} {yhcn : Int32} {yhcf : Nat → Int32} {zrn : Int32} {zmn : Int32} {zwn : Int32} {zpn : Int32} {zmd : Int32} {ztr : Int32} {zrf : Nat → Int32} {zmf : Nat → Int32} {zwf : Nat → Int32} {zpf : Nat → Int32} {kac : Int32} {knx : Int32} {kim : Int32} {cf : Nat → SC} {m_taped : Int32} {d_tape : Nat → Int32} {d_r : Nat → Int32} {d_st : Nat → Int32} {d_undone : Nat → Int32} {d_kept : Nat → Int32} {m_undos : Int32} {m_images : Int32} {m_hasHouse : Int32} {xw mw : va_W} (X : Cx p s m meth c #[Value.ref b] cL_law 7 RL A g) (hX : va_X b L xs s s.heap) (hbl : b < s.heap.size) (hbA : ¬ A b) (hi : 0 ≤ u4.toInt ∧ u4.toInt + 6 ≤ (L : Int)) (hL : L ≤ 3072) (h1 : n1 ≤ 601023) (h2 : n2 ≤ 7293028) (hlt : l.stackTraces = false) (hZ : kZ A s s.heap) (htsE : ∀ w ∈ wsE, w.before #[Value.ref b] s = true) (hx : XW g h0 xtpd tpf yhnf yhtn yhtf yhjn yhjf yhmn yhmf yhbn yhbf yhsn yhsf yhcn yhcf zrn zmn zwn zpn zmd ztr zrf zmf zwf zpf kac knx kim cf xw) (hm : MW g mo m_taped d_tape d_r d_st d_undone d_kept m_undos m_images m_hasHouse mw) (hR : LR xtpd tpf yhnf yhtn yhtf yhjn yhjf yhmn yhmf yhbn yhbf yhsn yhsf yhcn yhcf zrn zmn zwn zpn zmd ztr zrf zmf zwf zpf kac knx kim cf m_taped d_tape d_r d_st d_undone d_kept m_undos m_images m_hasHouse) (kk : ∀ (xtpd_2 : Int32) (tpf_2 : Nat → Int32) (yhnf_2 : Nat → Int32) (yhtn_2 : Int32) (yhtf_2 : Nat → Int32) (yhjn_2 : Int32) (yhjf_2 : Nat → Int32) (yhmn_2 : Int32) (yhmf_2 : Nat → Int32) (yhbn_2 : Int32) (yhbf_2 : Nat → Int32) (yhsn_2 : Int32) (yhsf_2 : Nat → Int32) (yhcn_2 : Int32) (yhcf_2 : Nat → Int32) (zrn_2 : Int32) (zmn_2 : Int32) (zwn_2 : Int32) (zpn_2 : Int32) (zmd_2 : Int32) (ztr_2 : Int32) (zrf_2 : Nat → Int32) (zmf_2 : Nat → Int32) (zwf_2 : Nat → Int32) (zpf_2 : Nat → Int32) (kac_2 : Int32) (knx_2 : Int32) (kim_2 : Int32) (cf_2 : Nat → SC) (m_taped_2 : Int32) (d_tape_2 : Nat → Int32) (d_r_2 : Nat → Int32) (d_st_2 : Nat → Int32) (d_undone_2 : Nat → Int32) (d_kept_2 : Nat → Int32) (m_undos_2 : Int32) (m_images_2 : Int32) (m_hasHouse_2 : Int32) (xw2 mw2 : va_W), XW g h0 xtpd_2 tpf_2 yhnf_2 yhtn_2 yhtf_2 yhjn_2 yhjf_2 yhmn_2 yhmf_2 yhbn_2 yhbf_2 yhsn_2 yhsf_2 yhcn_2 yhcf_2 zrn_2 zmn_2 zwn_2 zpn_2 zmd_2 ztr_2 zrf_2 zmf_2 zwf_2 zpf_2 kac_2 knx_2 kim_2 cf_2 xw2 → MW g mo m_taped_2 d_tape_2 d_r_2 d_st_2 d_undone_2 d_kept_2 m_undos_2 m_images_2 m_hasHouse_2 mw2 → LR xtpd_2 tpf_2 yhnf_2 yhtn_2 yhtf_2 yhjn_2 yhjf_2 yhmn_2 yhmf_2 yhbn_2 yhbf_2 yhsn_2 yhsf_2 yhcn_2 yhcf_2 zrn_2 zmn_2 zwn_2 zpn_2 zmd_2 ztr_2 zrf_2 zmf_2 zwf_2 zpf_2 kac_2 knx_2 kim_2 cf_2 m_taped_2 d_tape_2 d_r_2 d_st_2 d_undone_2 d_kept_2 m_undos_2 m_images_2 m_hasHouse_2 → Wk p l e room_1 s m #[Value.ref b] below meth c (lw_Z below #[Value.ref b] s) A g 7 n1 n2 (xw2 ++ (mw2 ++ [(cAJ g lo 1 fo)])) [(4, .int u4), (3, .ref lo), (2, .ref mo), (1, .ref h0), (0, .ref b)] 2062 []) : Wk p l e room_1 s m #[Value.ref b] below meth c (lw_Z below #[Value.ref b] s) A g 7 n1 n2 (xw ++ (mw ++ [(cAJ g lo 1 fo)])) [(4, .int u4), (3, .ref lo), (2, .ref mo), (1, .ref h0), (0, .ref b)] 1830 [] := by
  have hiv : IV u4 0 3066 := ⟨hi.1, by omega⟩
  refine k_aload_n X dL_law_k94.1.1.1.1 3 rfl ?_
  refine k_aload_n X dL_law_k94.1.1.1.2 4 rfl ?_
  refine k_iload X dL_law_k94.1.1.2.1 0 rfl ?_
  refine k_iconst (v := 1) X dL_law_k94.1.1.2.2 ic_1 ?_
  refine k_iadd X dL_law_k94.1.2.1.1 ?_
  refine k_nm (fun z_1 ez_1 => ?_)
  have i_2 : z_1.toInt = u4.toInt + 1 := in_add ez_1 hiv iq_1_1_1 (zle_e rfl) (zle_e rfl)
  have iv_3 : IV z_1 1 3067 := by have := hiv; have := iq_1_1_1; rw [IV, i_2]; omega
  refine k_sld X hX hbl hbA dL_law_k94.1.2.1.2 (by rw [vp_in_iff]; have := iv_3; omega) ?_
  refine k_nm (fun a_4 ea_4 => ?_)
  refine k_aload_n X dL_law_k94.1.2.2.1 4 rfl ?_
  refine k_iload X dL_law_k94.1.2.2.2 0 rfl ?_
  refine k_iconst (v := 2) X dL_law_k94.2.1.1.1 ic_2 ?_
  refine k_iadd X dL_law_k94.2.1.1.2 ?_
  refine k_nm (fun z_5 ez_5 => ?_)
  have i_6 : z_5.toInt = u4.toInt + 2 := in_add ez_5 hiv iq_2_2_2 (zle_e rfl) (zle_e rfl)
  have iv_7 : IV z_5 2 3068 := by have := hiv; have := iq_2_2_2; rw [IV, i_6]; omega
  refine k_sld X hX hbl hbA dL_law_k94.2.1.2.1 (by rw [vp_in_iff]; have := iv_7; omega) ?_
  refine k_nm (fun a_8 ea_8 => ?_)
  refine lx_threads (st := []) a_4 a_8 X hx dL_law_k94.2.1.2.2 mw1445 (Nat.le_of_ble_eq_true rfl) (Nat.le_of_ble_eq_true rfl) (Nat.le_of_ble_eq_true rfl) (Nat.le_trans h1 (Nat.le_of_ble_eq_true rfl)) (Nat.le_trans h2 (Nat.le_of_ble_eq_true rfl)) (fun r_9 t_13 t_14 t_15 t_16 t_17 t_18 t_19 t_20 t_21 t_22 t_23 t_24 t_25 xw_10 hx_11 hr_12 => ?_)
  refine k_pop X dL_law_k94.2.2.1.1 rfl ?_
  refine k_aload_n X dL_law_k94.2.2.1.2 2 rfl ?_
  refine k_aload_n X dL_law_k94.2.2.2.1 4 rfl ?_
  refine k_iload X dL_law_k94.2.2.2.2 0 rfl ?_
  refine k_iconst (v := 1) X dL_law_k95.1.1.1 ic_1 ?_
  refine k_iadd X dL_law_k95.1.1.2 ?_
  refine k_to z_1 ez_1.symm ?_
  refine k_sld X hX hbl hbA dL_law_k95.1.2.1 (by rw [vp_in_iff]; have := iv_3; omega) ?_
  refine k_to a_4 ea_4.symm ?_
  refine k_aload_n X dL_law_k95.1.2.2.1 4 rfl ?_
  refine k_iload X dL_law_k95.1.2.2.2 0 rfl ?_
  refine k_iconst (v := 2) X dL_law_k95.2.1.1 ic_2 ?_
  refine k_iadd X dL_law_k95.2.1.2.1 ?_
  refine k_to z_5 ez_5.symm ?_
  refine k_sld X hX hbl hbA dL_law_k95.2.1.2.2 (by rw [vp_in_iff]; have := iv_7; omega) ?_
  refine k_to a_8 ea_8.symm ?_
  refine lm_threads (st := []) a_4 a_8 X hm dL_law_k95.2.2.1 mw1467 (Nat.le_of_ble_eq_true rfl) (Nat.le_of_ble_eq_true rfl) (Nat.le_of_ble_eq_true rfl) (Nat.le_trans h1 (Nat.le_of_ble_eq_true rfl)) (Nat.le_trans h2 (Nat.le_of_ble_eq_true rfl)) (fun r_26 t_30 t_31 t_32 mw_27 hm_28 hr_29 => ?_)
  refine k_pop X dL_law_k95.2.2.2.1 rfl ?_
  refine k_goto 2062 X dL_law_k95.2.2.2.2 (jp_e rfl) ?_
  exact kk _ _ _ _ _ _ _ _ _ _ _ _ _ _ _ _ _ _ _ _ _ _ _ _ _ _ _ _ _ _ _ _ _ _ _ _ _ _ _ _ hx_11 hm_28 (LR_threads hR hr_12 hr_29)

theorem dL_law_k96 : ((((dD cL_law 1867 (.aload_n 1) 1 ∧ dD cL_law 1868 (.aload_n 0) 1) ∧ (dD cL_law 1869 (.iload 4) 2 ∧ dD cL_law 1871 (.iconst 1) 1)) ∧ ((dD cL_law 1872 .iadd 1 ∧ dD cL_law 1873 .iaload 1) ∧ (dD cL_law 1874 (.aload_n 0) 1 ∧ dD cL_law 1875 (.iload 4) 2))) ∧ (((dD cL_law 1877 (.iconst 2) 1 ∧ dD cL_law 1878 .iadd 1) ∧ (dD cL_law 1879 .iaload 1 ∧ dD cL_law 1880 (.ifCond .eq 7) 3)) ∧ ((dD cL_law 1883 (.iconst 1) 1 ∧ dD cL_law 1884 (.goto 4) 3) ∧ (dD cL_law 1887 (.iconst 0) 1 ∧ dD cL_law 1888 (.invokevirtual 215) 3)))) := dkA16 (by decide +kernel)
theorem dL_law_k97 : ((((dD cL_law 1891 .pop 1 ∧ dD cL_law 1892 (.aload_n 2) 1) ∧ (dD cL_law 1893 (.aload_n 0) 1 ∧ dD cL_law 1894 (.iload 4) 2)) ∧ ((dD cL_law 1896 (.iconst 1) 1 ∧ dD cL_law 1897 .iadd 1) ∧ (dD cL_law 1898 .iaload 1 ∧ dD cL_law 1899 (.aload_n 0) 1))) ∧ (((dD cL_law 1900 (.iload 4) 2 ∧ dD cL_law 1902 (.iconst 2) 1) ∧ (dD cL_law 1903 .iadd 1 ∧ dD cL_law 1904 .iaload 1)) ∧ ((dD cL_law 1905 (.ifCond .eq 7) 3 ∧ dD cL_law 1908 (.iconst 1) 1) ∧ (dD cL_law 1909 (.goto 4) 3 ∧ dD cL_law 1912 (.iconst 0) 1)))) := dkA16 (by decide +kernel)
theorem dL_law_k98 : (dD cL_law 1913 (.invokevirtual 219) 3 ∧ (dD cL_law 1916 .pop 1 ∧ dD cL_law 1917 (.goto 145) 3)) := dkA3 (by decide +kernel)
set_option maxHeartbeats 4000000 in
set_option maxRecDepth 100000 in
theorem law_c47 {p : Program} {l : Launch} {e : Env} {s : State} {m : MethodId} {below : List Frame} {meth : Method} {c : Code} {A : Nat → Prop} {g : Gx} {b L : Nat} {xs : Nat → Int32} {h0 mo lo n1 n2 : Nat} {fo : Nat → Int64} {u4 : Int32} {xtpd : Int32} {tpf : Nat → Int32} {yhnf : Nat → Int32} {yhtn : Int32} {yhtf : Nat → Int32} {yhjn : Int32} {yhjf : Nat → Int32} {yhmn : Int32} {yhmf : Nat → Int32} {yhbn : Int32} {yhbf : Nat → Int32} {yhsn : Int32} {yhsf : Nat → Int32} {yhcn : Int32} {yhcf : Nat → Int32} {zrn : Int32} {zmn : Int32} {zwn : Int32} {zpn : Int32} {zmd : Int32} {ztr : Int32} {zrf : Nat → Int32} {zmf : Nat → Int32} {zwf : Nat → Int32} {zpf : Nat → Int32} {kac : Int32} {knx : Int32} {kim : Int32} {cf : Nat → SC} {m_taped : Int32} {d_tape : Nat → Int32} {d_r : Nat → Int32} {d_st : Nat → Int32} {d_undone : Nat → Int32} {d_kept : Nat → Int32} {m_undos : Int32} {m_images : Int32} {m_hasHouse : Int32} {xw mw : va_W} (X : Cx p s m meth c #[Value.ref b] cL_law 7 RL A g) (hX : va_X b L xs s s.heap) (hbl : b < s.heap.size) (hbA : ¬ A b) (hi : 0 ≤ u4.toInt ∧ u4.toInt + 6 ≤ (L : Int)) (hL : L ≤ 3072) (h1 : n1 ≤ 601023) (h2 : n2 ≤ 7293028) (hlt : l.stackTraces = false) (hZ : kZ A s s.heap) (htsE : ∀ w ∈ wsE, w.before #[Value.ref b] s = true) (hx : XW g h0 xtpd tpf yhnf yhtn yhtf yhjn yhjf yhmn yhmf yhbn yhbf yhsn yhsf yhcn yhcf zrn zmn zwn zpn zmd ztr zrf zmf zwf zpf kac knx kim cf xw) (hm : MW g mo m_taped d_tape d_r d_st d_undone d_kept m_undos m_images m_hasHouse mw) (hR : LR xtpd tpf yhnf yhtn yhtf yhjn yhjf yhmn yhmf yhbn yhbf yhsn yhsf yhcn yhcf zrn zmn zwn zpn zmd ztr zrf zmf zwf zpf kac knx kim cf m_taped d_tape d_r d_st d_undone d_kept m_undos m_images m_hasHouse) (kk : ∀ (xtpd_2 : Int32) (tpf_2 : Nat → Int32) (yhnf_2 : Nat → Int32) (yhtn_2 : Int32) (yhtf_2 : Nat → Int32) (yhjn_2 : Int32) (yhjf_2 : Nat → Int32) (yhmn_2 : Int32) (yhmf_2 : Nat → Int32) (yhbn_2 : Int32) (yhbf_2 : Nat → Int32) (yhsn_2 : Int32) (yhsf_2 : Nat → Int32) (yhcn_2 : Int32) (yhcf_2 : Nat → Int32) (zrn_2 : Int32) (zmn_2 : Int32) (zwn_2 : Int32) (zpn_2 : Int32) (zmd_2 : Int32) (ztr_2 : Int32) (zrf_2 : Nat → Int32) (zmf_2 : Nat → Int32) (zwf_2 : Nat → Int32) (zpf_2 : Nat → Int32) (kac_2 : Int32) (knx_2 : Int32) (kim_2 : Int32) (cf_2 : Nat → SC) (m_taped_2 : Int32) (d_tape_2 : Nat → Int32) (d_r_2 : Nat → Int32) (d_st_2 : Nat → Int32) (d_undone_2 : Nat → Int32) (d_kept_2 : Nat → Int32) (m_undos_2 : Int32) (m_images_2 : Int32) (m_hasHouse_2 : Int32) (xw2 mw2 : va_W), XW g h0 xtpd_2 tpf_2 yhnf_2 yhtn_2 yhtf_2 yhjn_2 yhjf_2 yhmn_2 yhmf_2 yhbn_2 yhbf_2 yhsn_2 yhsf_2 yhcn_2 yhcf_2 zrn_2 zmn_2 zwn_2 zpn_2 zmd_2 ztr_2 zrf_2 zmf_2 zwf_2 zpf_2 kac_2 knx_2 kim_2 cf_2 xw2 → MW g mo m_taped_2 d_tape_2 d_r_2 d_st_2 d_undone_2 d_kept_2 m_undos_2 m_images_2 m_hasHouse_2 mw2 → LR xtpd_2 tpf_2 yhnf_2 yhtn_2 yhtf_2 yhjn_2 yhjf_2 yhmn_2 yhmf_2 yhbn_2 yhbf_2 yhsn_2 yhsf_2 yhcn_2 yhcf_2 zrn_2 zmn_2 zwn_2 zpn_2 zmd_2 ztr_2 zrf_2 zmf_2 zwf_2 zpf_2 kac_2 knx_2 kim_2 cf_2 m_taped_2 d_tape_2 d_r_2 d_st_2 d_undone_2 d_kept_2 m_undos_2 m_images_2 m_hasHouse_2 → Wk p l e room_1 s m #[Value.ref b] below meth c (lw_Z below #[Value.ref b] s) A g 7 n1 n2 (xw2 ++ (mw2 ++ [(cAJ g lo 1 fo)])) [(4, .int u4), (3, .ref lo), (2, .ref mo), (1, .ref h0), (0, .ref b)] 2062 []) : Wk p l e room_1 s m #[Value.ref b] below meth c (lw_Z below #[Value.ref b] s) A g 7 n1 n2 (xw ++ (mw ++ [(cAJ g lo 1 fo)])) [(4, .int u4), (3, .ref lo), (2, .ref mo), (1, .ref h0), (0, .ref b)] 1867 [] := by
  have hiv : IV u4 0 3066 := ⟨hi.1, by omega⟩
  refine k_aload_n X dL_law_k96.1.1.1.1 3 rfl ?_
  refine k_aload_n X dL_law_k96.1.1.1.2 4 rfl ?_
  refine k_iload X dL_law_k96.1.1.2.1 0 rfl ?_
  refine k_iconst (v := 1) X dL_law_k96.1.1.2.2 ic_1 ?_
  refine k_iadd X dL_law_k96.1.2.1.1 ?_
  refine k_nm (fun z_1 ez_1 => ?_)
  have i_2 : z_1.toInt = u4.toInt + 1 := in_add ez_1 hiv iq_1_1_1 (zle_e rfl) (zle_e rfl)
  have iv_3 : IV z_1 1 3067 := by have := hiv; have := iq_1_1_1; rw [IV, i_2]; omega
  refine k_sld X hX hbl hbA dL_law_k96.1.2.1.2 (by rw [vp_in_iff]; have := iv_3; omega) ?_
  refine k_nm (fun a_4 ea_4 => ?_)
  refine k_aload_n X dL_law_k96.1.2.2.1 4 rfl ?_
  refine k_iload X dL_law_k96.1.2.2.2 0 rfl ?_
  refine k_iconst (v := 2) X dL_law_k96.2.1.1.1 ic_2 ?_
  refine k_iadd X dL_law_k96.2.1.1.2 ?_
  refine k_nm (fun z_5 ez_5 => ?_)
  have i_6 : z_5.toInt = u4.toInt + 2 := in_add ez_5 hiv iq_2_2_2 (zle_e rfl) (zle_e rfl)
  have iv_7 : IV z_5 2 3068 := by have := hiv; have := iq_2_2_2; rw [IV, i_6]; omega
  refine k_sld X hX hbl hbA dL_law_k96.2.1.2.1 (by rw [vp_in_iff]; have := iv_7; omega) ?_
  refine k_nm (fun a_8 ea_8 => ?_)
  refine k_if_eq 1887 X dL_law_k96.2.1.2.2 (jp_e rfl) (fun h_9 => ?_) (fun h_9 => ?_)
  · skip
    have iv_10 : IV a_8 0 0 := iv_meet (iv_any a_8) (iv_e h_9 iq_0_0_0) (zle_o rfl) (zle_o rfl)
    refine k_iconst (v := 0) X dL_law_k96.2.2.2.1 ic_0 ?_
    refine lx_trim (st := []) a_4 0 X hx dL_law_k96.2.2.2.2 mw1479 (Nat.le_of_ble_eq_true rfl) (Nat.le_of_ble_eq_true rfl) (Nat.le_of_ble_eq_true rfl) (Nat.le_trans h1 (Nat.le_of_ble_eq_true rfl)) (Nat.le_trans h2 (Nat.le_of_ble_eq_true rfl)) (fun r_11 t_15 t_16 t_17 t_18 t_19 t_20 t_21 t_22 t_23 t_24 t_25 t_26 t_27 xw_12 hx_13 hr_14 => ?_)
    refine k_pop X dL_law_k97.1.1.1.1 rfl ?_
    refine k_aload_n X dL_law_k97.1.1.1.2 2 rfl ?_
    refine k_aload_n X dL_law_k97.1.1.2.1 4 rfl ?_
    refine k_iload X dL_law_k97.1.1.2.2 0 rfl ?_
    refine k_iconst (v := 1) X dL_law_k97.1.2.1.1 ic_1 ?_
    refine k_iadd X dL_law_k97.1.2.1.2 ?_
    refine k_to z_1 ez_1.symm ?_
    refine k_sld X hX hbl hbA dL_law_k97.1.2.2.1 (by rw [vp_in_iff]; have := iv_3; omega) ?_
    refine k_to a_4 ea_4.symm ?_
    refine k_aload_n X dL_law_k97.1.2.2.2 4 rfl ?_
    refine k_iload X dL_law_k97.2.1.1.1 0 rfl ?_
    refine k_iconst (v := 2) X dL_law_k97.2.1.1.2 ic_2 ?_
    refine k_iadd X dL_law_k97.2.1.2.1 ?_
    refine k_to z_5 ez_5.symm ?_
    refine k_sld X hX hbl hbA dL_law_k97.2.1.2.2 (by rw [vp_in_iff]; have := iv_7; omega) ?_
    refine k_to a_8 ea_8.symm ?_
    refine k_if_eq 1912 X dL_law_k97.2.2.1.1 (jp_e rfl) (fun h_28 => ?_) (fun h_28 => absurd h_9 h_28)
    refine k_iconst (v := 0) X dL_law_k97.2.2.2.2 ic_0 ?_
    refine lm_trim (st := []) a_4 0 X hm dL_law_k98.1 mw1483 (Nat.le_of_ble_eq_true rfl) (Nat.le_of_ble_eq_true rfl) (Nat.le_of_ble_eq_true rfl) (Nat.le_trans h1 (Nat.le_of_ble_eq_true rfl)) (Nat.le_trans h2 (Nat.le_of_ble_eq_true rfl)) (fun r_29 t_33 t_34 t_35 mw_30 hm_31 hr_32 => ?_)
    refine k_pop X dL_law_k98.2.1 rfl ?_
    refine k_goto 2062 X dL_law_k98.2.2 (jp_e rfl) ?_
    exact kk _ _ _ _ _ _ _ _ _ _ _ _ _ _ _ _ _ _ _ _ _ _ _ _ _ _ _ _ _ _ _ _ _ _ _ _ _ _ _ _ hx_13 hm_31 (LR_trim hR hr_14 hr_32)
  · skip
    refine k_iconst (v := 1) X dL_law_k96.2.2.1.1 ic_1 ?_
    refine k_goto 1888 X dL_law_k96.2.2.1.2 (jp_e rfl) ?_
    refine lx_trim (st := []) a_4 1 X hx dL_law_k96.2.2.2.2 mw1479 (Nat.le_of_ble_eq_true rfl) (Nat.le_of_ble_eq_true rfl) (Nat.le_of_ble_eq_true rfl) (Nat.le_trans h1 (Nat.le_of_ble_eq_true rfl)) (Nat.le_trans h2 (Nat.le_of_ble_eq_true rfl)) (fun r_36 t_40 t_41 t_42 t_43 t_44 t_45 t_46 t_47 t_48 t_49 t_50 t_51 t_52 xw_37 hx_38 hr_39 => ?_)
    refine k_pop X dL_law_k97.1.1.1.1 rfl ?_
    refine k_aload_n X dL_law_k97.1.1.1.2 2 rfl ?_
    refine k_aload_n X dL_law_k97.1.1.2.1 4 rfl ?_
    refine k_iload X dL_law_k97.1.1.2.2 0 rfl ?_
    refine k_iconst (v := 1) X dL_law_k97.1.2.1.1 ic_1 ?_
    refine k_iadd X dL_law_k97.1.2.1.2 ?_
    refine k_to z_1 ez_1.symm ?_
    refine k_sld X hX hbl hbA dL_law_k97.1.2.2.1 (by rw [vp_in_iff]; have := iv_3; omega) ?_
    refine k_to a_4 ea_4.symm ?_
    refine k_aload_n X dL_law_k97.1.2.2.2 4 rfl ?_
    refine k_iload X dL_law_k97.2.1.1.1 0 rfl ?_
    refine k_iconst (v := 2) X dL_law_k97.2.1.1.2 ic_2 ?_
    refine k_iadd X dL_law_k97.2.1.2.1 ?_
    refine k_to z_5 ez_5.symm ?_
    refine k_sld X hX hbl hbA dL_law_k97.2.1.2.2 (by rw [vp_in_iff]; have := iv_7; omega) ?_
    refine k_to a_8 ea_8.symm ?_
    refine k_if_eq 1912 X dL_law_k97.2.2.1.1 (jp_e rfl) (fun h_53 => absurd h_53 h_9) (fun h_53 => ?_)
    refine k_iconst (v := 1) X dL_law_k97.2.2.1.2 ic_1 ?_
    refine k_goto 1913 X dL_law_k97.2.2.2.1 (jp_e rfl) ?_
    refine lm_trim (st := []) a_4 1 X hm dL_law_k98.1 mw1483 (Nat.le_of_ble_eq_true rfl) (Nat.le_of_ble_eq_true rfl) (Nat.le_of_ble_eq_true rfl) (Nat.le_trans h1 (Nat.le_of_ble_eq_true rfl)) (Nat.le_trans h2 (Nat.le_of_ble_eq_true rfl)) (fun r_54 t_58 t_59 t_60 mw_55 hm_56 hr_57 => ?_)
    refine k_pop X dL_law_k98.2.1 rfl ?_
    refine k_goto 2062 X dL_law_k98.2.2 (jp_e rfl) ?_
    exact kk _ _ _ _ _ _ _ _ _ _ _ _ _ _ _ _ _ _ _ _ _ _ _ _ _ _ _ _ _ _ _ _ _ _ _ _ _ _ _ _ hx_38 hm_56 (LR_trim hR hr_39 hr_57)

theorem dL_law_k99 : ((((dD cL_law 1920 (.aload_n 1) 1 ∧ dD cL_law 1921 (.aload_n 0) 1) ∧ (dD cL_law 1922 (.iload 4) 2 ∧ dD cL_law 1924 (.iconst 1) 1)) ∧ ((dD cL_law 1925 .iadd 1 ∧ dD cL_law 1926 .iaload 1) ∧ (dD cL_law 1927 (.invokevirtual 220) 3 ∧ dD cL_law 1930 .pop 1))) ∧ (((dD cL_law 1931 (.aload_n 2) 1 ∧ dD cL_law 1932 (.aload_n 0) 1) ∧ (dD cL_law 1933 (.iload 4) 2 ∧ dD cL_law 1935 (.iconst 1) 1)) ∧ ((dD cL_law 1936 .iadd 1 ∧ dD cL_law 1937 .iaload 1) ∧ (dD cL_law 1938 (.invokevirtual 223) 3 ∧ dD cL_law 1941 .pop 1)))) := dkA16 (by decide +kernel)
theorem dL_law_k100 : dD cL_law 1942 (.goto 120) 3 := dkA1 (by decide +kernel)
set_option maxHeartbeats 4000000 in
set_option maxRecDepth 100000 in
theorem law_c48 {p : Program} {l : Launch} {e : Env} {s : State} {m : MethodId} {below : List Frame} {meth : Method} {c : Code} {A : Nat → Prop} {g : Gx} {b L : Nat} {xs : Nat → Int32} {h0 mo lo n1 n2 : Nat} {fo : Nat → Int64} {u4 : Int32} {xtpd : Int32} {tpf : Nat → Int32} {yhnf : Nat → Int32} {yhtn : Int32} {yhtf : Nat → Int32} {yhjn : Int32} {yhjf : Nat → Int32} {yhmn : Int32} {yhmf : Nat → Int32} {yhbn : Int32} {yhbf : Nat → Int32} {yhsn : Int32} {yhsf : Nat → Int32} {yhcn : Int32} {yhcf : Nat → Int32} {zrn : Int32} {zmn : Int32} {zwn : Int32} {zpn : Int32} {zmd : Int32} {ztr : Int32} {zrf : Nat → Int32} {zmf : Nat → Int32} {zwf : Nat → Int32} {zpf : Nat → Int32} {kac : Int32} {knx : Int32} {kim : Int32} {cf : Nat → SC} {m_taped : Int32} {d_tape : Nat → Int32} {d_r : Nat → Int32} {d_st : Nat → Int32} {d_undone : Nat → Int32} {d_kept : Nat → Int32} {m_undos : Int32} {m_images : Int32} {m_hasHouse : Int32} {xw mw : va_W} (X : Cx p s m meth c #[Value.ref b] cL_law 7 RL A g) (hX : va_X b L xs s s.heap) (hbl : b < s.heap.size) (hbA : ¬ A b) (hi : 0 ≤ u4.toInt ∧ u4.toInt + 6 ≤ (L : Int)) (hL : L ≤ 3072) (h1 : n1 ≤ 601023) (h2 : n2 ≤ 7293028) (hlt : l.stackTraces = false) (hZ : kZ A s s.heap) (htsE : ∀ w ∈ wsE, w.before #[Value.ref b] s = true) (hx : XW g h0 xtpd tpf yhnf yhtn yhtf yhjn yhjf yhmn yhmf yhbn yhbf yhsn yhsf yhcn yhcf zrn zmn zwn zpn zmd ztr zrf zmf zwf zpf kac knx kim cf xw) (hm : MW g mo m_taped d_tape d_r d_st d_undone d_kept m_undos m_images m_hasHouse mw) (hR : LR xtpd tpf yhnf yhtn yhtf yhjn yhjf yhmn yhmf yhbn yhbf yhsn yhsf yhcn yhcf zrn zmn zwn zpn zmd ztr zrf zmf zwf zpf kac knx kim cf m_taped d_tape d_r d_st d_undone d_kept m_undos m_images m_hasHouse) (kk : ∀ (xtpd_2 : Int32) (tpf_2 : Nat → Int32) (yhnf_2 : Nat → Int32) (yhtn_2 : Int32) (yhtf_2 : Nat → Int32) (yhjn_2 : Int32) (yhjf_2 : Nat → Int32) (yhmn_2 : Int32) (yhmf_2 : Nat → Int32) (yhbn_2 : Int32) (yhbf_2 : Nat → Int32) (yhsn_2 : Int32) (yhsf_2 : Nat → Int32) (yhcn_2 : Int32) (yhcf_2 : Nat → Int32) (zrn_2 : Int32) (zmn_2 : Int32) (zwn_2 : Int32) (zpn_2 : Int32) (zmd_2 : Int32) (ztr_2 : Int32) (zrf_2 : Nat → Int32) (zmf_2 : Nat → Int32) (zwf_2 : Nat → Int32) (zpf_2 : Nat → Int32) (kac_2 : Int32) (knx_2 : Int32) (kim_2 : Int32) (cf_2 : Nat → SC) (m_taped_2 : Int32) (d_tape_2 : Nat → Int32) (d_r_2 : Nat → Int32) (d_st_2 : Nat → Int32) (d_undone_2 : Nat → Int32) (d_kept_2 : Nat → Int32) (m_undos_2 : Int32) (m_images_2 : Int32) (m_hasHouse_2 : Int32) (xw2 mw2 : va_W), XW g h0 xtpd_2 tpf_2 yhnf_2 yhtn_2 yhtf_2 yhjn_2 yhjf_2 yhmn_2 yhmf_2 yhbn_2 yhbf_2 yhsn_2 yhsf_2 yhcn_2 yhcf_2 zrn_2 zmn_2 zwn_2 zpn_2 zmd_2 ztr_2 zrf_2 zmf_2 zwf_2 zpf_2 kac_2 knx_2 kim_2 cf_2 xw2 → MW g mo m_taped_2 d_tape_2 d_r_2 d_st_2 d_undone_2 d_kept_2 m_undos_2 m_images_2 m_hasHouse_2 mw2 → LR xtpd_2 tpf_2 yhnf_2 yhtn_2 yhtf_2 yhjn_2 yhjf_2 yhmn_2 yhmf_2 yhbn_2 yhbf_2 yhsn_2 yhsf_2 yhcn_2 yhcf_2 zrn_2 zmn_2 zwn_2 zpn_2 zmd_2 ztr_2 zrf_2 zmf_2 zwf_2 zpf_2 kac_2 knx_2 kim_2 cf_2 m_taped_2 d_tape_2 d_r_2 d_st_2 d_undone_2 d_kept_2 m_undos_2 m_images_2 m_hasHouse_2 → Wk p l e room_1 s m #[Value.ref b] below meth c (lw_Z below #[Value.ref b] s) A g 7 n1 n2 (xw2 ++ (mw2 ++ [(cAJ g lo 1 fo)])) [(4, .int u4), (3, .ref lo), (2, .ref mo), (1, .ref h0), (0, .ref b)] 2062 []) : Wk p l e room_1 s m #[Value.ref b] below meth c (lw_Z below #[Value.ref b] s) A g 7 n1 n2 (xw ++ (mw ++ [(cAJ g lo 1 fo)])) [(4, .int u4), (3, .ref lo), (2, .ref mo), (1, .ref h0), (0, .ref b)] 1920 [] := by
  have hiv : IV u4 0 3066 := ⟨hi.1, by omega⟩
  refine k_aload_n X dL_law_k99.1.1.1.1 3 rfl ?_
  refine k_aload_n X dL_law_k99.1.1.1.2 4 rfl ?_
  refine k_iload X dL_law_k99.1.1.2.1 0 rfl ?_
  refine k_iconst (v := 1) X dL_law_k99.1.1.2.2 ic_1 ?_
  refine k_iadd X dL_law_k99.1.2.1.1 ?_
  refine k_nm (fun z_1 ez_1 => ?_)
  have i_2 : z_1.toInt = u4.toInt + 1 := in_add ez_1 hiv iq_1_1_1 (zle_e rfl) (zle_e rfl)
  have iv_3 : IV z_1 1 3067 := by have := hiv; have := iq_1_1_1; rw [IV, i_2]; omega
  refine k_sld X hX hbl hbA dL_law_k99.1.2.1.2 (by rw [vp_in_iff]; have := iv_3; omega) ?_
  refine k_nm (fun a_4 ea_4 => ?_)
  refine lx_mend (st := []) a_4 X hx dL_law_k99.1.2.2.1 mw1487 (Nat.le_of_ble_eq_true rfl) (Nat.le_of_ble_eq_true rfl) (Nat.le_of_ble_eq_true rfl) (Nat.le_trans h1 (Nat.le_of_ble_eq_true rfl)) (Nat.le_trans h2 (Nat.le_of_ble_eq_true rfl)) (fun r_5 t_9 t_10 t_11 t_12 t_13 t_14 t_15 t_16 t_17 t_18 t_19 t_20 t_21 xw_6 hx_7 hr_8 => ?_)
  refine k_pop X dL_law_k99.1.2.2.2 rfl ?_
  refine k_aload_n X dL_law_k99.2.1.1.1 2 rfl ?_
  refine k_aload_n X dL_law_k99.2.1.1.2 4 rfl ?_
  refine k_iload X dL_law_k99.2.1.2.1 0 rfl ?_
  refine k_iconst (v := 1) X dL_law_k99.2.1.2.2 ic_1 ?_
  refine k_iadd X dL_law_k99.2.2.1.1 ?_
  refine k_to z_1 ez_1.symm ?_
  refine k_sld X hX hbl hbA dL_law_k99.2.2.1.2 (by rw [vp_in_iff]; have := iv_3; omega) ?_
  refine k_to a_4 ea_4.symm ?_
  refine lm_mend (st := []) a_4 X hm dL_law_k99.2.2.2.1 mw1504 (Nat.le_of_ble_eq_true rfl) (Nat.le_of_ble_eq_true rfl) (Nat.le_of_ble_eq_true rfl) (Nat.le_trans h1 (Nat.le_of_ble_eq_true rfl)) (Nat.le_trans h2 (Nat.le_of_ble_eq_true rfl)) (fun r_22 t_26 t_27 t_28 mw_23 hm_24 hr_25 => ?_)
  refine k_pop X dL_law_k99.2.2.2.2 rfl ?_
  refine k_goto 2062 X dL_law_k100 (jp_e rfl) ?_
  exact kk _ _ _ _ _ _ _ _ _ _ _ _ _ _ _ _ _ _ _ _ _ _ _ _ _ _ _ _ _ _ _ _ _ _ _ _ _ _ _ _ hx_7 hm_24 (LR_mend hR hr_8 hr_25)

theorem dL_law_k101 : ((dD cL_law 1945 (.aload_n 1) 1 ∧ (dD cL_law 1946 (.invokevirtual 224) 3 ∧ dD cL_law 1949 .pop 1)) ∧ ((dD cL_law 1950 (.aload_n 2) 1 ∧ dD cL_law 1951 (.invokevirtual 228) 3) ∧ (dD cL_law 1954 .pop 1 ∧ dD cL_law 1955 (.goto 107) 3))) := dkA7 (by decide +kernel)
set_option maxHeartbeats 4000000 in
set_option maxRecDepth 100000 in
theorem law_c49 {p : Program} {l : Launch} {e : Env} {s : State} {m : MethodId} {below : List Frame} {meth : Method} {c : Code} {A : Nat → Prop} {g : Gx} {b L : Nat} {xs : Nat → Int32} {h0 mo lo n1 n2 : Nat} {fo : Nat → Int64} {u4 : Int32} {xtpd : Int32} {tpf : Nat → Int32} {yhnf : Nat → Int32} {yhtn : Int32} {yhtf : Nat → Int32} {yhjn : Int32} {yhjf : Nat → Int32} {yhmn : Int32} {yhmf : Nat → Int32} {yhbn : Int32} {yhbf : Nat → Int32} {yhsn : Int32} {yhsf : Nat → Int32} {yhcn : Int32} {yhcf : Nat → Int32} {zrn : Int32} {zmn : Int32} {zwn : Int32} {zpn : Int32} {zmd : Int32} {ztr : Int32} {zrf : Nat → Int32} {zmf : Nat → Int32} {zwf : Nat → Int32} {zpf : Nat → Int32} {kac : Int32} {knx : Int32} {kim : Int32} {cf : Nat → SC} {m_taped : Int32} {d_tape : Nat → Int32} {d_r : Nat → Int32} {d_st : Nat → Int32} {d_undone : Nat → Int32} {d_kept : Nat → Int32} {m_undos : Int32} {m_images : Int32} {m_hasHouse : Int32} {xw mw : va_W} (X : Cx p s m meth c #[Value.ref b] cL_law 7 RL A g) (hX : va_X b L xs s s.heap) (hbl : b < s.heap.size) (hbA : ¬ A b) (hi : 0 ≤ u4.toInt ∧ u4.toInt + 6 ≤ (L : Int)) (hL : L ≤ 3072) (h1 : n1 ≤ 601023) (h2 : n2 ≤ 7293028) (hlt : l.stackTraces = false) (hZ : kZ A s s.heap) (htsE : ∀ w ∈ wsE, w.before #[Value.ref b] s = true) (hx : XW g h0 xtpd tpf yhnf yhtn yhtf yhjn yhjf yhmn yhmf yhbn yhbf yhsn yhsf yhcn yhcf zrn zmn zwn zpn zmd ztr zrf zmf zwf zpf kac knx kim cf xw) (hm : MW g mo m_taped d_tape d_r d_st d_undone d_kept m_undos m_images m_hasHouse mw) (hR : LR xtpd tpf yhnf yhtn yhtf yhjn yhjf yhmn yhmf yhbn yhbf yhsn yhsf yhcn yhcf zrn zmn zwn zpn zmd ztr zrf zmf zwf zpf kac knx kim cf m_taped d_tape d_r d_st d_undone d_kept m_undos m_images m_hasHouse) (kk : ∀ (xtpd_2 : Int32) (tpf_2 : Nat → Int32) (yhnf_2 : Nat → Int32) (yhtn_2 : Int32) (yhtf_2 : Nat → Int32) (yhjn_2 : Int32) (yhjf_2 : Nat → Int32) (yhmn_2 : Int32) (yhmf_2 : Nat → Int32) (yhbn_2 : Int32) (yhbf_2 : Nat → Int32) (yhsn_2 : Int32) (yhsf_2 : Nat → Int32) (yhcn_2 : Int32) (yhcf_2 : Nat → Int32) (zrn_2 : Int32) (zmn_2 : Int32) (zwn_2 : Int32) (zpn_2 : Int32) (zmd_2 : Int32) (ztr_2 : Int32) (zrf_2 : Nat → Int32) (zmf_2 : Nat → Int32) (zwf_2 : Nat → Int32) (zpf_2 : Nat → Int32) (kac_2 : Int32) (knx_2 : Int32) (kim_2 : Int32) (cf_2 : Nat → SC) (m_taped_2 : Int32) (d_tape_2 : Nat → Int32) (d_r_2 : Nat → Int32) (d_st_2 : Nat → Int32) (d_undone_2 : Nat → Int32) (d_kept_2 : Nat → Int32) (m_undos_2 : Int32) (m_images_2 : Int32) (m_hasHouse_2 : Int32) (xw2 mw2 : va_W), XW g h0 xtpd_2 tpf_2 yhnf_2 yhtn_2 yhtf_2 yhjn_2 yhjf_2 yhmn_2 yhmf_2 yhbn_2 yhbf_2 yhsn_2 yhsf_2 yhcn_2 yhcf_2 zrn_2 zmn_2 zwn_2 zpn_2 zmd_2 ztr_2 zrf_2 zmf_2 zwf_2 zpf_2 kac_2 knx_2 kim_2 cf_2 xw2 → MW g mo m_taped_2 d_tape_2 d_r_2 d_st_2 d_undone_2 d_kept_2 m_undos_2 m_images_2 m_hasHouse_2 mw2 → LR xtpd_2 tpf_2 yhnf_2 yhtn_2 yhtf_2 yhjn_2 yhjf_2 yhmn_2 yhmf_2 yhbn_2 yhbf_2 yhsn_2 yhsf_2 yhcn_2 yhcf_2 zrn_2 zmn_2 zwn_2 zpn_2 zmd_2 ztr_2 zrf_2 zmf_2 zwf_2 zpf_2 kac_2 knx_2 kim_2 cf_2 m_taped_2 d_tape_2 d_r_2 d_st_2 d_undone_2 d_kept_2 m_undos_2 m_images_2 m_hasHouse_2 → Wk p l e room_1 s m #[Value.ref b] below meth c (lw_Z below #[Value.ref b] s) A g 7 n1 n2 (xw2 ++ (mw2 ++ [(cAJ g lo 1 fo)])) [(4, .int u4), (3, .ref lo), (2, .ref mo), (1, .ref h0), (0, .ref b)] 2062 []) : Wk p l e room_1 s m #[Value.ref b] below meth c (lw_Z below #[Value.ref b] s) A g 7 n1 n2 (xw ++ (mw ++ [(cAJ g lo 1 fo)])) [(4, .int u4), (3, .ref lo), (2, .ref mo), (1, .ref h0), (0, .ref b)] 1945 [] := by
  have hiv : IV u4 0 3066 := ⟨hi.1, by omega⟩
  refine k_aload_n X dL_law_k101.1.1 3 rfl ?_
  refine lx_undo (st := []) () X hx dL_law_k101.1.2.1 mw1511 (Nat.le_of_ble_eq_true rfl) (Nat.le_of_ble_eq_true rfl) (Nat.le_of_ble_eq_true rfl) (Nat.le_trans h1 (Nat.le_of_ble_eq_true rfl)) (Nat.le_trans h2 (Nat.le_of_ble_eq_true rfl)) (fun r_1 t_5 t_6 t_7 t_8 t_9 t_10 t_11 t_12 t_13 t_14 t_15 t_16 t_17 xw_2 hx_3 hr_4 => ?_)
  refine k_pop X dL_law_k101.1.2.2 rfl ?_
  refine k_aload_n X dL_law_k101.2.1.1 2 rfl ?_
  refine lm_undo (st := []) () X hm dL_law_k101.2.1.2 mw1519 (Nat.le_of_ble_eq_true rfl) (Nat.le_of_ble_eq_true rfl) (Nat.le_of_ble_eq_true rfl) (Nat.le_trans h1 (Nat.le_of_ble_eq_true rfl)) (Nat.le_trans h2 (Nat.le_of_ble_eq_true rfl)) (fun r_18 t_22 t_23 mw_19 hm_20 hr_21 => ?_)
  refine k_pop X dL_law_k101.2.2.1 rfl ?_
  refine k_goto 2062 X dL_law_k101.2.2.2 (jp_e rfl) ?_
  exact kk _ _ _ _ _ _ _ _ _ _ _ _ _ _ _ _ _ _ _ _ _ _ _ _ _ _ _ _ _ _ _ _ _ _ _ _ _ _ _ _ hx_3 hm_20 (LR_undo hR hr_4 hr_21)

theorem dL_law_k102 : ((dD cL_law 1958 (.aload_n 1) 1 ∧ (dD cL_law 1959 (.invokevirtual 229) 3 ∧ dD cL_law 1962 .pop 1)) ∧ ((dD cL_law 1963 (.aload_n 2) 1 ∧ dD cL_law 1964 (.invokevirtual 232) 3) ∧ (dD cL_law 1967 .pop 1 ∧ dD cL_law 1968 (.goto 94) 3))) := dkA7 (by decide +kernel)
set_option maxHeartbeats 4000000 in
set_option maxRecDepth 100000 in
theorem law_c50 {p : Program} {l : Launch} {e : Env} {s : State} {m : MethodId} {below : List Frame} {meth : Method} {c : Code} {A : Nat → Prop} {g : Gx} {b L : Nat} {xs : Nat → Int32} {h0 mo lo n1 n2 : Nat} {fo : Nat → Int64} {u4 : Int32} {xtpd : Int32} {tpf : Nat → Int32} {yhnf : Nat → Int32} {yhtn : Int32} {yhtf : Nat → Int32} {yhjn : Int32} {yhjf : Nat → Int32} {yhmn : Int32} {yhmf : Nat → Int32} {yhbn : Int32} {yhbf : Nat → Int32} {yhsn : Int32} {yhsf : Nat → Int32} {yhcn : Int32} {yhcf : Nat → Int32} {zrn : Int32} {zmn : Int32} {zwn : Int32} {zpn : Int32} {zmd : Int32} {ztr : Int32} {zrf : Nat → Int32} {zmf : Nat → Int32} {zwf : Nat → Int32} {zpf : Nat → Int32} {kac : Int32} {knx : Int32} {kim : Int32} {cf : Nat → SC} {m_taped : Int32} {d_tape : Nat → Int32} {d_r : Nat → Int32} {d_st : Nat → Int32} {d_undone : Nat → Int32} {d_kept : Nat → Int32} {m_undos : Int32} {m_images : Int32} {m_hasHouse : Int32} {xw mw : va_W} (X : Cx p s m meth c #[Value.ref b] cL_law 7 RL A g) (hX : va_X b L xs s s.heap) (hbl : b < s.heap.size) (hbA : ¬ A b) (hi : 0 ≤ u4.toInt ∧ u4.toInt + 6 ≤ (L : Int)) (hL : L ≤ 3072) (h1 : n1 ≤ 601023) (h2 : n2 ≤ 7293028) (hlt : l.stackTraces = false) (hZ : kZ A s s.heap) (htsE : ∀ w ∈ wsE, w.before #[Value.ref b] s = true) (hx : XW g h0 xtpd tpf yhnf yhtn yhtf yhjn yhjf yhmn yhmf yhbn yhbf yhsn yhsf yhcn yhcf zrn zmn zwn zpn zmd ztr zrf zmf zwf zpf kac knx kim cf xw) (hm : MW g mo m_taped d_tape d_r d_st d_undone d_kept m_undos m_images m_hasHouse mw) (hR : LR xtpd tpf yhnf yhtn yhtf yhjn yhjf yhmn yhmf yhbn yhbf yhsn yhsf yhcn yhcf zrn zmn zwn zpn zmd ztr zrf zmf zwf zpf kac knx kim cf m_taped d_tape d_r d_st d_undone d_kept m_undos m_images m_hasHouse) (kk : ∀ (xtpd_2 : Int32) (tpf_2 : Nat → Int32) (yhnf_2 : Nat → Int32) (yhtn_2 : Int32) (yhtf_2 : Nat → Int32) (yhjn_2 : Int32) (yhjf_2 : Nat → Int32) (yhmn_2 : Int32) (yhmf_2 : Nat → Int32) (yhbn_2 : Int32) (yhbf_2 : Nat → Int32) (yhsn_2 : Int32) (yhsf_2 : Nat → Int32) (yhcn_2 : Int32) (yhcf_2 : Nat → Int32) (zrn_2 : Int32) (zmn_2 : Int32) (zwn_2 : Int32) (zpn_2 : Int32) (zmd_2 : Int32) (ztr_2 : Int32) (zrf_2 : Nat → Int32) (zmf_2 : Nat → Int32) (zwf_2 : Nat → Int32) (zpf_2 : Nat → Int32) (kac_2 : Int32) (knx_2 : Int32) (kim_2 : Int32) (cf_2 : Nat → SC) (m_taped_2 : Int32) (d_tape_2 : Nat → Int32) (d_r_2 : Nat → Int32) (d_st_2 : Nat → Int32) (d_undone_2 : Nat → Int32) (d_kept_2 : Nat → Int32) (m_undos_2 : Int32) (m_images_2 : Int32) (m_hasHouse_2 : Int32) (xw2 mw2 : va_W), XW g h0 xtpd_2 tpf_2 yhnf_2 yhtn_2 yhtf_2 yhjn_2 yhjf_2 yhmn_2 yhmf_2 yhbn_2 yhbf_2 yhsn_2 yhsf_2 yhcn_2 yhcf_2 zrn_2 zmn_2 zwn_2 zpn_2 zmd_2 ztr_2 zrf_2 zmf_2 zwf_2 zpf_2 kac_2 knx_2 kim_2 cf_2 xw2 → MW g mo m_taped_2 d_tape_2 d_r_2 d_st_2 d_undone_2 d_kept_2 m_undos_2 m_images_2 m_hasHouse_2 mw2 → LR xtpd_2 tpf_2 yhnf_2 yhtn_2 yhtf_2 yhjn_2 yhjf_2 yhmn_2 yhmf_2 yhbn_2 yhbf_2 yhsn_2 yhsf_2 yhcn_2 yhcf_2 zrn_2 zmn_2 zwn_2 zpn_2 zmd_2 ztr_2 zrf_2 zmf_2 zwf_2 zpf_2 kac_2 knx_2 kim_2 cf_2 m_taped_2 d_tape_2 d_r_2 d_st_2 d_undone_2 d_kept_2 m_undos_2 m_images_2 m_hasHouse_2 → Wk p l e room_1 s m #[Value.ref b] below meth c (lw_Z below #[Value.ref b] s) A g 7 n1 n2 (xw2 ++ (mw2 ++ [(cAJ g lo 1 fo)])) [(4, .int u4), (3, .ref lo), (2, .ref mo), (1, .ref h0), (0, .ref b)] 2062 []) : Wk p l e room_1 s m #[Value.ref b] below meth c (lw_Z below #[Value.ref b] s) A g 7 n1 n2 (xw ++ (mw ++ [(cAJ g lo 1 fo)])) [(4, .int u4), (3, .ref lo), (2, .ref mo), (1, .ref h0), (0, .ref b)] 1958 [] := by
  have hiv : IV u4 0 3066 := ⟨hi.1, by omega⟩
  refine k_aload_n X dL_law_k102.1.1 3 rfl ?_
  refine lx_image (st := []) () X hx dL_law_k102.1.2.1 mw1523 (Nat.le_of_ble_eq_true rfl) (Nat.le_of_ble_eq_true rfl) (Nat.le_of_ble_eq_true rfl) (Nat.le_trans h1 (Nat.le_of_ble_eq_true rfl)) (Nat.le_trans h2 (Nat.le_of_ble_eq_true rfl)) (fun r_1 t_5 t_6 t_7 t_8 t_9 t_10 t_11 t_12 t_13 t_14 t_15 t_16 xw_2 hx_3 hr_4 => ?_)
  refine k_pop X dL_law_k102.1.2.2 rfl ?_
  refine k_aload_n X dL_law_k102.2.1.1 2 rfl ?_
  refine lm_image (st := []) () X hm dL_law_k102.2.1.2 mw1531 (Nat.le_of_ble_eq_true rfl) (Nat.le_of_ble_eq_true rfl) (Nat.le_of_ble_eq_true rfl) (Nat.le_trans h1 (Nat.le_of_ble_eq_true rfl)) (Nat.le_trans h2 (Nat.le_of_ble_eq_true rfl)) (fun r_17 t_21 t_22 mw_18 hm_19 hr_20 => ?_)
  refine k_pop X dL_law_k102.2.2.1 rfl ?_
  refine k_goto 2062 X dL_law_k102.2.2.2 (jp_e rfl) ?_
  exact kk _ _ _ _ _ _ _ _ _ _ _ _ _ _ _ _ _ _ _ _ _ _ _ _ _ _ _ _ _ _ _ _ _ _ _ _ _ _ _ _ hx_3 hm_19 (LR_image hR hr_4 hr_20)

theorem dL_law_k103 : (((dD cL_law 1971 (.aload_n 1) 1 ∧ (dD cL_law 1972 (.aload_n 0) 1 ∧ dD cL_law 1973 (.iload 4) 2)) ∧ ((dD cL_law 1975 (.iconst 1) 1 ∧ dD cL_law 1976 .iadd 1) ∧ (dD cL_law 1977 .iaload 1 ∧ dD cL_law 1978 (.invokevirtual 233) 3))) ∧ (((dD cL_law 1981 (.aload_n 2) 1 ∧ dD cL_law 1982 (.aload_n 0) 1) ∧ (dD cL_law 1983 (.iload 4) 2 ∧ dD cL_law 1985 (.iconst 1) 1)) ∧ ((dD cL_law 1986 .iadd 1 ∧ dD cL_law 1987 .iaload 1) ∧ (dD cL_law 1988 (.invokevirtual 237) 3 ∧ dD cL_law 1991 (.if_icmp .eq 71) 3)))) := dkA15 (by decide +kernel)
set_option maxHeartbeats 4000000 in
set_option maxRecDepth 100000 in
theorem law_c51 {p : Program} {l : Launch} {e : Env} {s : State} {m : MethodId} {below : List Frame} {meth : Method} {c : Code} {A : Nat → Prop} {g : Gx} {b L : Nat} {xs : Nat → Int32} {h0 mo lo n1 n2 : Nat} {fo : Nat → Int64} {u4 : Int32} {xtpd : Int32} {tpf : Nat → Int32} {yhnf : Nat → Int32} {yhtn : Int32} {yhtf : Nat → Int32} {yhjn : Int32} {yhjf : Nat → Int32} {yhmn : Int32} {yhmf : Nat → Int32} {yhbn : Int32} {yhbf : Nat → Int32} {yhsn : Int32} {yhsf : Nat → Int32} {yhcn : Int32} {yhcf : Nat → Int32} {zrn : Int32} {zmn : Int32} {zwn : Int32} {zpn : Int32} {zmd : Int32} {ztr : Int32} {zrf : Nat → Int32} {zmf : Nat → Int32} {zwf : Nat → Int32} {zpf : Nat → Int32} {kac : Int32} {knx : Int32} {kim : Int32} {cf : Nat → SC} {m_taped : Int32} {d_tape : Nat → Int32} {d_r : Nat → Int32} {d_st : Nat → Int32} {d_undone : Nat → Int32} {d_kept : Nat → Int32} {m_undos : Int32} {m_images : Int32} {m_hasHouse : Int32} {xw mw : va_W} (X : Cx p s m meth c #[Value.ref b] cL_law 7 RL A g) (hX : va_X b L xs s s.heap) (hbl : b < s.heap.size) (hbA : ¬ A b) (hi : 0 ≤ u4.toInt ∧ u4.toInt + 6 ≤ (L : Int)) (hL : L ≤ 3072) (h1 : n1 ≤ 601023) (h2 : n2 ≤ 7293028) (hlt : l.stackTraces = false) (hZ : kZ A s s.heap) (htsE : ∀ w ∈ wsE, w.before #[Value.ref b] s = true) (hx : XW g h0 xtpd tpf yhnf yhtn yhtf yhjn yhjf yhmn yhmf yhbn yhbf yhsn yhsf yhcn yhcf zrn zmn zwn zpn zmd ztr zrf zmf zwf zpf kac knx kim cf xw) (hm : MW g mo m_taped d_tape d_r d_st d_undone d_kept m_undos m_images m_hasHouse mw) (hR : LR xtpd tpf yhnf yhtn yhtf yhjn yhjf yhmn yhmf yhbn yhbf yhsn yhsf yhcn yhcf zrn zmn zwn zpn zmd ztr zrf zmf zwf zpf kac knx kim cf m_taped d_tape d_r d_st d_undone d_kept m_undos m_images m_hasHouse) (kk : ∀ (xtpd_2 : Int32) (tpf_2 : Nat → Int32) (yhnf_2 : Nat → Int32) (yhtn_2 : Int32) (yhtf_2 : Nat → Int32) (yhjn_2 : Int32) (yhjf_2 : Nat → Int32) (yhmn_2 : Int32) (yhmf_2 : Nat → Int32) (yhbn_2 : Int32) (yhbf_2 : Nat → Int32) (yhsn_2 : Int32) (yhsf_2 : Nat → Int32) (yhcn_2 : Int32) (yhcf_2 : Nat → Int32) (zrn_2 : Int32) (zmn_2 : Int32) (zwn_2 : Int32) (zpn_2 : Int32) (zmd_2 : Int32) (ztr_2 : Int32) (zrf_2 : Nat → Int32) (zmf_2 : Nat → Int32) (zwf_2 : Nat → Int32) (zpf_2 : Nat → Int32) (kac_2 : Int32) (knx_2 : Int32) (kim_2 : Int32) (cf_2 : Nat → SC) (m_taped_2 : Int32) (d_tape_2 : Nat → Int32) (d_r_2 : Nat → Int32) (d_st_2 : Nat → Int32) (d_undone_2 : Nat → Int32) (d_kept_2 : Nat → Int32) (m_undos_2 : Int32) (m_images_2 : Int32) (m_hasHouse_2 : Int32) (xw2 mw2 : va_W), XW g h0 xtpd_2 tpf_2 yhnf_2 yhtn_2 yhtf_2 yhjn_2 yhjf_2 yhmn_2 yhmf_2 yhbn_2 yhbf_2 yhsn_2 yhsf_2 yhcn_2 yhcf_2 zrn_2 zmn_2 zwn_2 zpn_2 zmd_2 ztr_2 zrf_2 zmf_2 zwf_2 zpf_2 kac_2 knx_2 kim_2 cf_2 xw2 → MW g mo m_taped_2 d_tape_2 d_r_2 d_st_2 d_undone_2 d_kept_2 m_undos_2 m_images_2 m_hasHouse_2 mw2 → LR xtpd_2 tpf_2 yhnf_2 yhtn_2 yhtf_2 yhjn_2 yhjf_2 yhmn_2 yhmf_2 yhbn_2 yhbf_2 yhsn_2 yhsf_2 yhcn_2 yhcf_2 zrn_2 zmn_2 zwn_2 zpn_2 zmd_2 ztr_2 zrf_2 zmf_2 zwf_2 zpf_2 kac_2 knx_2 kim_2 cf_2 m_taped_2 d_tape_2 d_r_2 d_st_2 d_undone_2 d_kept_2 m_undos_2 m_images_2 m_hasHouse_2 → Wk p l e room_1 s m #[Value.ref b] below meth c (lw_Z below #[Value.ref b] s) A g 7 n1 n2 (xw2 ++ (mw2 ++ [(cAJ g lo 1 fo)])) [(4, .int u4), (3, .ref lo), (2, .ref mo), (1, .ref h0), (0, .ref b)] 2062 []) : Wk p l e room_1 s m #[Value.ref b] below meth c (lw_Z below #[Value.ref b] s) A g 7 n1 n2 (xw ++ (mw ++ [(cAJ g lo 1 fo)])) [(4, .int u4), (3, .ref lo), (2, .ref mo), (1, .ref h0), (0, .ref b)] 1971 [] := by
  have hiv : IV u4 0 3066 := ⟨hi.1, by omega⟩
  refine k_aload_n X dL_law_k103.1.1.1 3 rfl ?_
  refine k_aload_n X dL_law_k103.1.1.2.1 4 rfl ?_
  refine k_iload X dL_law_k103.1.1.2.2 0 rfl ?_
  refine k_iconst (v := 1) X dL_law_k103.1.2.1.1 ic_1 ?_
  refine k_iadd X dL_law_k103.1.2.1.2 ?_
  refine k_nm (fun z_1 ez_1 => ?_)
  have i_2 : z_1.toInt = u4.toInt + 1 := in_add ez_1 hiv iq_1_1_1 (zle_e rfl) (zle_e rfl)
  have iv_3 : IV z_1 1 3067 := by have := hiv; have := iq_1_1_1; rw [IV, i_2]; omega
  refine k_sld X hX hbl hbA dL_law_k103.1.2.2.1 (by rw [vp_in_iff]; have := iv_3; omega) ?_
  refine k_nm (fun a_4 ea_4 => ?_)
  refine lx_back (st := []) a_4 X hx dL_law_k103.1.2.2.2 mw1535 (Nat.le_of_ble_eq_true rfl) (Nat.le_of_ble_eq_true rfl) (Nat.le_of_ble_eq_true rfl) (Nat.le_trans h1 (Nat.le_of_ble_eq_true rfl)) (Nat.le_trans h2 (Nat.le_of_ble_eq_true rfl)) (fun r_5 t_9 t_10 t_11 t_12 t_13 t_14 t_15 t_16 t_17 t_18 t_19 t_20 xw_6 hx_7 hr_8 => ?_)
  refine k_aload_n X dL_law_k103.2.1.1.1 2 rfl ?_
  refine k_aload_n X dL_law_k103.2.1.1.2 4 rfl ?_
  refine k_iload X dL_law_k103.2.1.2.1 0 rfl ?_
  refine k_iconst (v := 1) X dL_law_k103.2.1.2.2 ic_1 ?_
  refine k_iadd X dL_law_k103.2.2.1.1 ?_
  refine k_to z_1 ez_1.symm ?_
  refine k_sld X hX hbl hbA dL_law_k103.2.2.1.2 (by rw [vp_in_iff]; have := iv_3; omega) ?_
  refine k_to a_4 ea_4.symm ?_
  refine lm_back (st := [.int r_5]) a_4 X hm dL_law_k103.2.2.2.1 mw1543 (Nat.le_of_ble_eq_true rfl) (Nat.le_of_ble_eq_true rfl) (Nat.le_of_ble_eq_true rfl) (Nat.le_trans h1 (Nat.le_of_ble_eq_true rfl)) (Nat.le_trans h2 (Nat.le_of_ble_eq_true rfl)) (fun r_21 t_25 t_26 mw_22 hm_23 hr_24 => ?_)
  refine k_ic_eq 2062 X dL_law_k103.2.2.2.2 (jp_e rfl) (fun h_27 => ?_) (fun h_27 => absurd (LR_backA hR hr_8 hr_24) h_27)
  exact kk _ _ _ _ _ _ _ _ _ _ _ _ _ _ _ _ _ _ _ _ _ _ _ _ _ _ _ _ _ _ _ _ _ _ _ _ _ _ _ _ hx_7 hm_23 (LR_back hR hr_8 hr_24)

theorem dL_law_k104 : ((((dD cL_law 1996 (.aload_n 1) 1 ∧ dD cL_law 1997 (.aload_n 0) 1) ∧ (dD cL_law 1998 (.iload 4) 2 ∧ dD cL_law 2000 (.iconst 1) 1)) ∧ ((dD cL_law 2001 .iadd 1 ∧ dD cL_law 2002 .iaload 1) ∧ (dD cL_law 2003 (.aload_n 3) 1 ∧ dD cL_law 2004 (.invokestatic 238) 3))) ∧ (((dD cL_law 2007 (.istore 5) 2 ∧ dD cL_law 2009 (.aload_n 2) 1) ∧ (dD cL_law 2010 (.aload_n 0) 1 ∧ dD cL_law 2011 (.iload 4) 2)) ∧ ((dD cL_law 2013 (.iconst 1) 1 ∧ dD cL_law 2014 .iadd 1) ∧ (dD cL_law 2015 .iaload 1 ∧ dD cL_law 2016 (.invokevirtual 243) 3)))) := dkA16 (by decide +kernel)
theorem dL_law_k105 : (dD cL_law 2019 (.istore 6) 2 ∧ dD cL_law 2021 (.goto 41) 3) := dkA2 (by decide +kernel)
set_option maxHeartbeats 4000000 in
set_option maxRecDepth 100000 in
theorem law_c52 {p : Program} {l : Launch} {e : Env} {s : State} {m : MethodId} {below : List Frame} {meth : Method} {c : Code} {A : Nat → Prop} {g : Gx} {b L : Nat} {xs : Nat → Int32} {h0 mo lo n1 n2 : Nat} {fo : Nat → Int64} {u4 : Int32} {xtpd : Int32} {tpf : Nat → Int32} {yhnf : Nat → Int32} {yhtn : Int32} {yhtf : Nat → Int32} {yhjn : Int32} {yhjf : Nat → Int32} {yhmn : Int32} {yhmf : Nat → Int32} {yhbn : Int32} {yhbf : Nat → Int32} {yhsn : Int32} {yhsf : Nat → Int32} {yhcn : Int32} {yhcf : Nat → Int32} {zrn : Int32} {zmn : Int32} {zwn : Int32} {zpn : Int32} {zmd : Int32} {ztr : Int32} {zrf : Nat → Int32} {zmf : Nat → Int32} {zwf : Nat → Int32} {zpf : Nat → Int32} {kac : Int32} {knx : Int32} {kim : Int32} {cf : Nat → SC} {m_taped : Int32} {d_tape : Nat → Int32} {d_r : Nat → Int32} {d_st : Nat → Int32} {d_undone : Nat → Int32} {d_kept : Nat → Int32} {m_undos : Int32} {m_images : Int32} {m_hasHouse : Int32} {xw mw : va_W} (X : Cx p s m meth c #[Value.ref b] cL_law 7 RL A g) (hX : va_X b L xs s s.heap) (hbl : b < s.heap.size) (hbA : ¬ A b) (hi : 0 ≤ u4.toInt ∧ u4.toInt + 6 ≤ (L : Int)) (hL : L ≤ 3072) (h1 : n1 ≤ 601023) (h2 : n2 ≤ 7293028) (hlt : l.stackTraces = false) (hZ : kZ A s s.heap) (htsE : ∀ w ∈ wsE, w.before #[Value.ref b] s = true) (hx : XW g h0 xtpd tpf yhnf yhtn yhtf yhjn yhjf yhmn yhmf yhbn yhbf yhsn yhsf yhcn yhcf zrn zmn zwn zpn zmd ztr zrf zmf zwf zpf kac knx kim cf xw) (hm : MW g mo m_taped d_tape d_r d_st d_undone d_kept m_undos m_images m_hasHouse mw) (hR : LR xtpd tpf yhnf yhtn yhtf yhjn yhjf yhmn yhmf yhbn yhbf yhsn yhsf yhcn yhcf zrn zmn zwn zpn zmd ztr zrf zmf zwf zpf kac knx kim cf m_taped d_tape d_r d_st d_undone d_kept m_undos m_images m_hasHouse) (kk : ∀ (xtpd_2 : Int32) (tpf_2 : Nat → Int32) (yhnf_2 : Nat → Int32) (yhtn_2 : Int32) (yhtf_2 : Nat → Int32) (yhjn_2 : Int32) (yhjf_2 : Nat → Int32) (yhmn_2 : Int32) (yhmf_2 : Nat → Int32) (yhbn_2 : Int32) (yhbf_2 : Nat → Int32) (yhsn_2 : Int32) (yhsf_2 : Nat → Int32) (yhcn_2 : Int32) (yhcf_2 : Nat → Int32) (zrn_2 : Int32) (zmn_2 : Int32) (zwn_2 : Int32) (zpn_2 : Int32) (zmd_2 : Int32) (ztr_2 : Int32) (zrf_2 : Nat → Int32) (zmf_2 : Nat → Int32) (zwf_2 : Nat → Int32) (zpf_2 : Nat → Int32) (kac_2 : Int32) (knx_2 : Int32) (kim_2 : Int32) (cf_2 : Nat → SC) (m_taped_2 : Int32) (d_tape_2 : Nat → Int32) (d_r_2 : Nat → Int32) (d_st_2 : Nat → Int32) (d_undone_2 : Nat → Int32) (d_kept_2 : Nat → Int32) (m_undos_2 : Int32) (m_images_2 : Int32) (m_hasHouse_2 : Int32) (xw2 mw2 : va_W) (fo2 : Nat → Int64), XW g h0 xtpd_2 tpf_2 yhnf_2 yhtn_2 yhtf_2 yhjn_2 yhjf_2 yhmn_2 yhmf_2 yhbn_2 yhbf_2 yhsn_2 yhsf_2 yhcn_2 yhcf_2 zrn_2 zmn_2 zwn_2 zpn_2 zmd_2 ztr_2 zrf_2 zmf_2 zwf_2 zpf_2 kac_2 knx_2 kim_2 cf_2 xw2 → MW g mo m_taped_2 d_tape_2 d_r_2 d_st_2 d_undone_2 d_kept_2 m_undos_2 m_images_2 m_hasHouse_2 mw2 → LR xtpd_2 tpf_2 yhnf_2 yhtn_2 yhtf_2 yhjn_2 yhjf_2 yhmn_2 yhmf_2 yhbn_2 yhbf_2 yhsn_2 yhsf_2 yhcn_2 yhcf_2 zrn_2 zmn_2 zwn_2 zpn_2 zmd_2 ztr_2 zrf_2 zmf_2 zwf_2 zpf_2 kac_2 knx_2 kim_2 cf_2 m_taped_2 d_tape_2 d_r_2 d_st_2 d_undone_2 d_kept_2 m_undos_2 m_images_2 m_hasHouse_2 → Wk p l e room_1 s m #[Value.ref b] below meth c (lw_Z below #[Value.ref b] s) A g 7 (n1 + 1) (n2 + 6) (xw2 ++ (mw2 ++ [(cAJ g lo 1 fo2)])) [(4, .int u4), (3, .ref lo), (2, .ref mo), (1, .ref h0), (0, .ref b)] 2062 []) : Wk p l e room_1 s m #[Value.ref b] below meth c (lw_Z below #[Value.ref b] s) A g 7 n1 n2 (xw ++ (mw ++ [(cAJ g lo 1 fo)])) [(4, .int u4), (3, .ref lo), (2, .ref mo), (1, .ref h0), (0, .ref b)] 1996 [] := by
  have hiv : IV u4 0 3066 := ⟨hi.1, by omega⟩
  refine k_aload_n X dL_law_k104.1.1.1.1 3 rfl ?_
  refine k_aload_n X dL_law_k104.1.1.1.2 4 rfl ?_
  refine k_iload X dL_law_k104.1.1.2.1 0 rfl ?_
  refine k_iconst (v := 1) X dL_law_k104.1.1.2.2 ic_1 ?_
  refine k_iadd X dL_law_k104.1.2.1.1 ?_
  refine k_nm (fun z_1 ez_1 => ?_)
  have i_2 : z_1.toInt = u4.toInt + 1 := in_add ez_1 hiv iq_1_1_1 (zle_e rfl) (zle_e rfl)
  have iv_3 : IV z_1 1 3067 := by have := hiv; have := iq_1_1_1; rw [IV, i_2]; omega
  refine k_sld X hX hbl hbA dL_law_k104.1.2.1.2 (by rw [vp_in_iff]; have := iv_3; omega) ?_
  refine k_nm (fun a_4 ea_4 => ?_)
  refine k_aload_n X dL_law_k104.1.2.2.1 1 rfl ?_
  refine lx_led (st := []) a_4 hlt hZ htsE X hx dL_law_k104.1.2.2.2 (Nat.le_of_ble_eq_true rfl) (Nat.le_of_ble_eq_true rfl) (Nat.le_of_ble_eq_true rfl) (Nat.le_trans (Nat.add_le_add_right h1 1) (Nat.le_of_ble_eq_true rfl)) (Nat.le_trans (Nat.add_le_add_right h2 6) (Nat.le_of_ble_eq_true rfl)) (fun r_5 xw_6 fo_7 hx_8 => ?_)
  refine k_istore [(5, .int r_5), (4, .int u4), (3, .ref lo), (2, .ref mo), (1, .ref h0), (0, .ref b)] X dL_law_k104.2.1.1.1 (nlt_e rfl) rfl ?_
  refine k_aload_n X dL_law_k104.2.1.1.2 3 rfl ?_
  refine k_aload_n X dL_law_k104.2.1.2.1 5 rfl ?_
  refine k_iload X dL_law_k104.2.1.2.2 1 rfl ?_
  refine k_iconst (v := 1) X dL_law_k104.2.2.1.1 ic_1 ?_
  refine k_iadd X dL_law_k104.2.2.1.2 ?_
  refine k_to z_1 ez_1.symm ?_
  refine k_sld X hX hbl hbA dL_law_k104.2.2.2.1 (by rw [vp_in_iff]; have := iv_3; omega) ?_
  refine k_to a_4 ea_4.symm ?_
  refine lm_led (st := []) a_4 X hm dL_law_k104.2.2.2.2 mw1558 (Nat.le_of_ble_eq_true rfl) (Nat.le_of_ble_eq_true rfl) (Nat.le_of_ble_eq_true rfl) (Nat.le_trans (Nat.add_le_add_right h1 1) (Nat.le_of_ble_eq_true rfl)) (Nat.le_trans (Nat.add_le_add_right h2 6) (Nat.le_of_ble_eq_true rfl)) (fun r_9 mw_10 hm_11 => ?_)
  refine k_istore [(6, .int r_9), (5, .int r_5), (4, .int u4), (3, .ref lo), (2, .ref mo), (1, .ref h0), (0, .ref b)] X dL_law_k105.1 (nlt_e rfl) rfl ?_
  refine k_goto 2062 X dL_law_k105.2 (jp_e rfl) ?_
  refine k_lv [(4, .int u4), (3, .ref lo), (2, .ref mo), (1, .ref h0), (0, .ref b)] [2, 3, 4, 5, 6] rfl ?_
  exact kk _ _ _ _ _ _ _ _ _ _ _ _ _ _ _ _ _ _ _ _ _ _ _ _ _ _ _ _ _ _ _ _ _ _ _ _ _ _ _ _ _ hx_8 hm_11 hR

theorem dL_law_k106 : ((((dD cL_law 2024 (.aload_n 1) 1 ∧ dD cL_law 2025 (.aload_n 0) 1) ∧ (dD cL_law 2026 (.iload 4) 2 ∧ dD cL_law 2028 (.iconst 1) 1)) ∧ ((dD cL_law 2029 .iadd 1 ∧ dD cL_law 2030 .iaload 1) ∧ (dD cL_law 2031 (.invokevirtual 244) 3 ∧ dD cL_law 2034 .pop 1))) ∧ (((dD cL_law 2035 (.aload_n 2) 1 ∧ dD cL_law 2036 (.aload_n 0) 1) ∧ (dD cL_law 2037 (.iload 4) 2 ∧ dD cL_law 2039 (.iconst 1) 1)) ∧ ((dD cL_law 2040 .iadd 1 ∧ dD cL_law 2041 .iaload 1) ∧ (dD cL_law 2042 (.invokevirtual 247) 3 ∧ dD cL_law 2045 .pop 1)))) := dkA16 (by decide +kernel)
theorem dL_law_k107 : dD cL_law 2046 (.goto 16) 3 := dkA1 (by decide +kernel)
set_option maxHeartbeats 4000000 in
set_option maxRecDepth 100000 in
theorem law_c53 {p : Program} {l : Launch} {e : Env} {s : State} {m : MethodId} {below : List Frame} {meth : Method} {c : Code} {A : Nat → Prop} {g : Gx} {b L : Nat} {xs : Nat → Int32} {h0 mo lo n1 n2 : Nat} {fo : Nat → Int64} {u4 : Int32} {xtpd : Int32} {tpf : Nat → Int32} {yhnf : Nat → Int32} {yhtn : Int32} {yhtf : Nat → Int32} {yhjn : Int32} {yhjf : Nat → Int32} {yhmn : Int32} {yhmf : Nat → Int32} {yhbn : Int32} {yhbf : Nat → Int32} {yhsn : Int32} {yhsf : Nat → Int32} {yhcn : Int32} {yhcf : Nat → Int32} {zrn : Int32} {zmn : Int32} {zwn : Int32} {zpn : Int32} {zmd : Int32} {ztr : Int32} {zrf : Nat → Int32} {zmf : Nat → Int32} {zwf : Nat → Int32} {zpf : Nat → Int32} {kac : Int32} {knx : Int32} {kim : Int32} {cf : Nat → SC} {m_taped : Int32} {d_tape : Nat → Int32} {d_r : Nat → Int32} {d_st : Nat → Int32} {d_undone : Nat → Int32} {d_kept : Nat → Int32} {m_undos : Int32} {m_images : Int32} {m_hasHouse : Int32} {xw mw : va_W} (X : Cx p s m meth c #[Value.ref b] cL_law 7 RL A g) (hX : va_X b L xs s s.heap) (hbl : b < s.heap.size) (hbA : ¬ A b) (hi : 0 ≤ u4.toInt ∧ u4.toInt + 6 ≤ (L : Int)) (hL : L ≤ 3072) (h1 : n1 ≤ 601023) (h2 : n2 ≤ 7293028) (hlt : l.stackTraces = false) (hZ : kZ A s s.heap) (htsE : ∀ w ∈ wsE, w.before #[Value.ref b] s = true) (hx : XW g h0 xtpd tpf yhnf yhtn yhtf yhjn yhjf yhmn yhmf yhbn yhbf yhsn yhsf yhcn yhcf zrn zmn zwn zpn zmd ztr zrf zmf zwf zpf kac knx kim cf xw) (hm : MW g mo m_taped d_tape d_r d_st d_undone d_kept m_undos m_images m_hasHouse mw) (hR : LR xtpd tpf yhnf yhtn yhtf yhjn yhjf yhmn yhmf yhbn yhbf yhsn yhsf yhcn yhcf zrn zmn zwn zpn zmd ztr zrf zmf zwf zpf kac knx kim cf m_taped d_tape d_r d_st d_undone d_kept m_undos m_images m_hasHouse) (kk : ∀ (xtpd_2 : Int32) (tpf_2 : Nat → Int32) (yhnf_2 : Nat → Int32) (yhtn_2 : Int32) (yhtf_2 : Nat → Int32) (yhjn_2 : Int32) (yhjf_2 : Nat → Int32) (yhmn_2 : Int32) (yhmf_2 : Nat → Int32) (yhbn_2 : Int32) (yhbf_2 : Nat → Int32) (yhsn_2 : Int32) (yhsf_2 : Nat → Int32) (yhcn_2 : Int32) (yhcf_2 : Nat → Int32) (zrn_2 : Int32) (zmn_2 : Int32) (zwn_2 : Int32) (zpn_2 : Int32) (zmd_2 : Int32) (ztr_2 : Int32) (zrf_2 : Nat → Int32) (zmf_2 : Nat → Int32) (zwf_2 : Nat → Int32) (zpf_2 : Nat → Int32) (kac_2 : Int32) (knx_2 : Int32) (kim_2 : Int32) (cf_2 : Nat → SC) (m_taped_2 : Int32) (d_tape_2 : Nat → Int32) (d_r_2 : Nat → Int32) (d_st_2 : Nat → Int32) (d_undone_2 : Nat → Int32) (d_kept_2 : Nat → Int32) (m_undos_2 : Int32) (m_images_2 : Int32) (m_hasHouse_2 : Int32) (xw2 mw2 : va_W), XW g h0 xtpd_2 tpf_2 yhnf_2 yhtn_2 yhtf_2 yhjn_2 yhjf_2 yhmn_2 yhmf_2 yhbn_2 yhbf_2 yhsn_2 yhsf_2 yhcn_2 yhcf_2 zrn_2 zmn_2 zwn_2 zpn_2 zmd_2 ztr_2 zrf_2 zmf_2 zwf_2 zpf_2 kac_2 knx_2 kim_2 cf_2 xw2 → MW g mo m_taped_2 d_tape_2 d_r_2 d_st_2 d_undone_2 d_kept_2 m_undos_2 m_images_2 m_hasHouse_2 mw2 → LR xtpd_2 tpf_2 yhnf_2 yhtn_2 yhtf_2 yhjn_2 yhjf_2 yhmn_2 yhmf_2 yhbn_2 yhbf_2 yhsn_2 yhsf_2 yhcn_2 yhcf_2 zrn_2 zmn_2 zwn_2 zpn_2 zmd_2 ztr_2 zrf_2 zmf_2 zwf_2 zpf_2 kac_2 knx_2 kim_2 cf_2 m_taped_2 d_tape_2 d_r_2 d_st_2 d_undone_2 d_kept_2 m_undos_2 m_images_2 m_hasHouse_2 → Wk p l e room_1 s m #[Value.ref b] below meth c (lw_Z below #[Value.ref b] s) A g 7 n1 n2 (xw2 ++ (mw2 ++ [(cAJ g lo 1 fo)])) [(4, .int u4), (3, .ref lo), (2, .ref mo), (1, .ref h0), (0, .ref b)] 2062 []) : Wk p l e room_1 s m #[Value.ref b] below meth c (lw_Z below #[Value.ref b] s) A g 7 n1 n2 (xw ++ (mw ++ [(cAJ g lo 1 fo)])) [(4, .int u4), (3, .ref lo), (2, .ref mo), (1, .ref h0), (0, .ref b)] 2024 [] := by
  have hiv : IV u4 0 3066 := ⟨hi.1, by omega⟩
  refine k_aload_n X dL_law_k106.1.1.1.1 3 rfl ?_
  refine k_aload_n X dL_law_k106.1.1.1.2 4 rfl ?_
  refine k_iload X dL_law_k106.1.1.2.1 0 rfl ?_
  refine k_iconst (v := 1) X dL_law_k106.1.1.2.2 ic_1 ?_
  refine k_iadd X dL_law_k106.1.2.1.1 ?_
  refine k_nm (fun z_1 ez_1 => ?_)
  have i_2 : z_1.toInt = u4.toInt + 1 := in_add ez_1 hiv iq_1_1_1 (zle_e rfl) (zle_e rfl)
  have iv_3 : IV z_1 1 3067 := by have := hiv; have := iq_1_1_1; rw [IV, i_2]; omega
  refine k_sld X hX hbl hbA dL_law_k106.1.2.1.2 (by rw [vp_in_iff]; have := iv_3; omega) ?_
  refine k_nm (fun a_4 ea_4 => ?_)
  refine lx_size (st := []) a_4 X hx dL_law_k106.1.2.2.1 mw1562 (Nat.le_of_ble_eq_true rfl) (Nat.le_of_ble_eq_true rfl) (Nat.le_of_ble_eq_true rfl) (Nat.le_trans h1 (Nat.le_of_ble_eq_true rfl)) (Nat.le_trans h2 (Nat.le_of_ble_eq_true rfl)) (fun r_5 xw_6 hx_7 => ?_)
  refine k_pop X dL_law_k106.1.2.2.2 rfl ?_
  refine k_aload_n X dL_law_k106.2.1.1.1 2 rfl ?_
  refine k_aload_n X dL_law_k106.2.1.1.2 4 rfl ?_
  refine k_iload X dL_law_k106.2.1.2.1 0 rfl ?_
  refine k_iconst (v := 1) X dL_law_k106.2.1.2.2 ic_1 ?_
  refine k_iadd X dL_law_k106.2.2.1.1 ?_
  refine k_to z_1 ez_1.symm ?_
  refine k_sld X hX hbl hbA dL_law_k106.2.2.1.2 (by rw [vp_in_iff]; have := iv_3; omega) ?_
  refine k_to a_4 ea_4.symm ?_
  refine lm_size (st := []) a_4 X hm dL_law_k106.2.2.2.1 mw1570 (Nat.le_of_ble_eq_true rfl) (Nat.le_of_ble_eq_true rfl) (Nat.le_of_ble_eq_true rfl) (Nat.le_trans h1 (Nat.le_of_ble_eq_true rfl)) (Nat.le_trans h2 (Nat.le_of_ble_eq_true rfl)) (fun r_8 mw_9 hm_10 => ?_)
  refine k_pop X dL_law_k106.2.2.2.2 rfl ?_
  refine k_goto 2062 X dL_law_k107 (jp_e rfl) ?_
  exact kk _ _ _ _ _ _ _ _ _ _ _ _ _ _ _ _ _ _ _ _ _ _ _ _ _ _ _ _ _ _ _ _ _ _ _ _ _ _ _ _ hx_7 hm_10 hR

theorem dL_law_k108 : ((dD cL_law 2049 (.aload_n 1) 1 ∧ (dD cL_law 2050 (.invokevirtual 248) 3 ∧ dD cL_law 2053 .pop 1)) ∧ ((dD cL_law 2054 (.aload_n 2) 1 ∧ dD cL_law 2055 (.invokevirtual 251) 3) ∧ (dD cL_law 2058 .pop 1 ∧ dD cL_law 2059 (.goto 3) 3))) := dkA7 (by decide +kernel)
set_option maxHeartbeats 4000000 in
set_option maxRecDepth 100000 in
theorem law_c54 {p : Program} {l : Launch} {e : Env} {s : State} {m : MethodId} {below : List Frame} {meth : Method} {c : Code} {A : Nat → Prop} {g : Gx} {b L : Nat} {xs : Nat → Int32} {h0 mo lo n1 n2 : Nat} {fo : Nat → Int64} {u4 : Int32} {xtpd : Int32} {tpf : Nat → Int32} {yhnf : Nat → Int32} {yhtn : Int32} {yhtf : Nat → Int32} {yhjn : Int32} {yhjf : Nat → Int32} {yhmn : Int32} {yhmf : Nat → Int32} {yhbn : Int32} {yhbf : Nat → Int32} {yhsn : Int32} {yhsf : Nat → Int32} {yhcn : Int32} {yhcf : Nat → Int32} {zrn : Int32} {zmn : Int32} {zwn : Int32} {zpn : Int32} {zmd : Int32} {ztr : Int32} {zrf : Nat → Int32} {zmf : Nat → Int32} {zwf : Nat → Int32} {zpf : Nat → Int32} {kac : Int32} {knx : Int32} {kim : Int32} {cf : Nat → SC} {m_taped : Int32} {d_tape : Nat → Int32} {d_r : Nat → Int32} {d_st : Nat → Int32} {d_undone : Nat → Int32} {d_kept : Nat → Int32} {m_undos : Int32} {m_images : Int32} {m_hasHouse : Int32} {xw mw : va_W} (X : Cx p s m meth c #[Value.ref b] cL_law 7 RL A g) (hX : va_X b L xs s s.heap) (hbl : b < s.heap.size) (hbA : ¬ A b) (hi : 0 ≤ u4.toInt ∧ u4.toInt + 6 ≤ (L : Int)) (hL : L ≤ 3072) (h1 : n1 ≤ 601023) (h2 : n2 ≤ 7293028) (hlt : l.stackTraces = false) (hZ : kZ A s s.heap) (htsE : ∀ w ∈ wsE, w.before #[Value.ref b] s = true) (hx : XW g h0 xtpd tpf yhnf yhtn yhtf yhjn yhjf yhmn yhmf yhbn yhbf yhsn yhsf yhcn yhcf zrn zmn zwn zpn zmd ztr zrf zmf zwf zpf kac knx kim cf xw) (hm : MW g mo m_taped d_tape d_r d_st d_undone d_kept m_undos m_images m_hasHouse mw) (hR : LR xtpd tpf yhnf yhtn yhtf yhjn yhjf yhmn yhmf yhbn yhbf yhsn yhsf yhcn yhcf zrn zmn zwn zpn zmd ztr zrf zmf zwf zpf kac knx kim cf m_taped d_tape d_r d_st d_undone d_kept m_undos m_images m_hasHouse) (kk : ∀ (xtpd_2 : Int32) (tpf_2 : Nat → Int32) (yhnf_2 : Nat → Int32) (yhtn_2 : Int32) (yhtf_2 : Nat → Int32) (yhjn_2 : Int32) (yhjf_2 : Nat → Int32) (yhmn_2 : Int32) (yhmf_2 : Nat → Int32) (yhbn_2 : Int32) (yhbf_2 : Nat → Int32) (yhsn_2 : Int32) (yhsf_2 : Nat → Int32) (yhcn_2 : Int32) (yhcf_2 : Nat → Int32) (zrn_2 : Int32) (zmn_2 : Int32) (zwn_2 : Int32) (zpn_2 : Int32) (zmd_2 : Int32) (ztr_2 : Int32) (zrf_2 : Nat → Int32) (zmf_2 : Nat → Int32) (zwf_2 : Nat → Int32) (zpf_2 : Nat → Int32) (kac_2 : Int32) (knx_2 : Int32) (kim_2 : Int32) (cf_2 : Nat → SC) (m_taped_2 : Int32) (d_tape_2 : Nat → Int32) (d_r_2 : Nat → Int32) (d_st_2 : Nat → Int32) (d_undone_2 : Nat → Int32) (d_kept_2 : Nat → Int32) (m_undos_2 : Int32) (m_images_2 : Int32) (m_hasHouse_2 : Int32) (xw2 mw2 : va_W), XW g h0 xtpd_2 tpf_2 yhnf_2 yhtn_2 yhtf_2 yhjn_2 yhjf_2 yhmn_2 yhmf_2 yhbn_2 yhbf_2 yhsn_2 yhsf_2 yhcn_2 yhcf_2 zrn_2 zmn_2 zwn_2 zpn_2 zmd_2 ztr_2 zrf_2 zmf_2 zwf_2 zpf_2 kac_2 knx_2 kim_2 cf_2 xw2 → MW g mo m_taped_2 d_tape_2 d_r_2 d_st_2 d_undone_2 d_kept_2 m_undos_2 m_images_2 m_hasHouse_2 mw2 → LR xtpd_2 tpf_2 yhnf_2 yhtn_2 yhtf_2 yhjn_2 yhjf_2 yhmn_2 yhmf_2 yhbn_2 yhbf_2 yhsn_2 yhsf_2 yhcn_2 yhcf_2 zrn_2 zmn_2 zwn_2 zpn_2 zmd_2 ztr_2 zrf_2 zmf_2 zwf_2 zpf_2 kac_2 knx_2 kim_2 cf_2 m_taped_2 d_tape_2 d_r_2 d_st_2 d_undone_2 d_kept_2 m_undos_2 m_images_2 m_hasHouse_2 → Wk p l e room_1 s m #[Value.ref b] below meth c (lw_Z below #[Value.ref b] s) A g 7 n1 n2 (xw2 ++ (mw2 ++ [(cAJ g lo 1 fo)])) [(4, .int u4), (3, .ref lo), (2, .ref mo), (1, .ref h0), (0, .ref b)] 2062 []) : Wk p l e room_1 s m #[Value.ref b] below meth c (lw_Z below #[Value.ref b] s) A g 7 n1 n2 (xw ++ (mw ++ [(cAJ g lo 1 fo)])) [(4, .int u4), (3, .ref lo), (2, .ref mo), (1, .ref h0), (0, .ref b)] 2049 [] := by
  have hiv : IV u4 0 3066 := ⟨hi.1, by omega⟩
  refine k_aload_n X dL_law_k108.1.1 3 rfl ?_
  refine lx_trouble (st := []) () X hx dL_law_k108.1.2.1 mw1574 (Nat.le_of_ble_eq_true rfl) (Nat.le_of_ble_eq_true rfl) (Nat.le_of_ble_eq_true rfl) (Nat.le_trans h1 (Nat.le_of_ble_eq_true rfl)) (Nat.le_trans h2 (Nat.le_of_ble_eq_true rfl)) (fun r_1 xw_2 hx_3 => ?_)
  refine k_pop X dL_law_k108.1.2.2 rfl ?_
  refine k_aload_n X dL_law_k108.2.1.1 2 rfl ?_
  refine lm_trouble (st := []) () X hm dL_law_k108.2.1.2 mw1578 (Nat.le_of_ble_eq_true rfl) (Nat.le_of_ble_eq_true rfl) (Nat.le_of_ble_eq_true rfl) (Nat.le_trans h1 (Nat.le_of_ble_eq_true rfl)) (Nat.le_trans h2 (Nat.le_of_ble_eq_true rfl)) (fun r_4 mw_5 hm_6 => ?_)
  refine k_pop X dL_law_k108.2.2.1 rfl ?_
  refine k_goto 2062 X dL_law_k108.2.2.2 (jp_e rfl) ?_
  exact kk _ _ _ _ _ _ _ _ _ _ _ _ _ _ _ _ _ _ _ _ _ _ _ _ _ _ _ _ _ _ _ _ _ _ _ _ _ _ _ _ hx_3 hm_6 hR

theorem dL_law_17 : decode cL_law 17 = .ok (.newarray .long, 2) := by decide +kernel
theorem dL_law_k109 : (((dD cL_law 0 (.new 8) 3 ∧ (dD cL_law 3 .dup 1 ∧ dD cL_law 4 (.invokespecial 15) 3)) ∧ (dD cL_law 7 (.astore_n 1) 1 ∧ (dD cL_law 8 (.new 16) 3 ∧ dD cL_law 11 .dup 1))) ∧ ((dD cL_law 12 (.invokespecial 18) 3 ∧ (dD cL_law 15 (.astore_n 2) 1 ∧ dD cL_law 16 (.iconst 1) 1)) ∧ (dD cL_law 19 (.astore_n 3) 1 ∧ (dD cL_law 20 (.iconst 0) 1 ∧ dD cL_law 21 (.istore 4) 2)))) := dkA12 (by decide +kernel)
set_option maxHeartbeats 4000000 in
set_option maxRecDepth 100000 in
theorem MW_of {g : Gx} {mo : Nat} {w : va_W} (h : ∃ a_tape a_letters a_r a_fresh a_st a_undone a_kept a_from a_begin a_motor a_change a_startFrame a_changeFrame a_lostAt a_blackAt a_slips a_leftArc a_died a_arcs a_there a_backAt a_sorted a_parts, w = ((cO11_i1r1i10r1i2r5i2r12i3r4i2 mo 0 a_tape 0 0 0 0 0 0 0 0 (-1) 0 a_letters 0 0 a_r a_fresh a_st a_undone a_kept 0 0 a_from a_begin a_motor a_change a_startFrame a_changeFrame a_lostAt a_blackAt a_slips a_leftArc a_died a_arcs 0 0 0 a_there a_backAt a_sorted a_parts 0 0) :: (cAI g a_tape 900 (fun _ => 0)) :: (cAI g a_letters 8 (fun _ => 0)) :: (cAI g a_r 311 (fun _ => 0)) :: (cAI g a_fresh 311 (fun _ => 0)) :: (cAI g a_st 44 (fun _ => 0)) :: (cAI g a_undone 528 (fun _ => 0)) :: (cAI g a_kept 132 (fun _ => 0)) :: (cAI g a_from 8 (fun _ => 0)) :: (cAI g a_begin 8 (fun _ => 0)) :: (cAI g a_motor 8 (fun _ => 0)) :: (cAI g a_change 8 (fun _ => 0)) :: (cAI g a_startFrame 8 (fun _ => 0)) :: (cAI g a_changeFrame 8 (fun _ => 0)) :: (cAI g a_lostAt 8 (fun _ => 0)) :: (cAI g a_blackAt 8 (fun _ => 0)) :: (cAI g a_slips 8 (fun _ => 0)) :: (cAI g a_leftArc 8 (fun _ => 0)) :: (cAI g a_died 8 (fun _ => 0)) :: (cAI g a_arcs 2 (fun _ => 0)) :: (cAI g a_there 8 (fun _ => 0)) :: (cAI g a_backAt 4 (fun _ => 0)) :: (cAI g a_sorted 8 (fun _ => 0)) :: (cAI g a_parts 256 (fun _ => 0)) :: [])) : MW g mo 0 (fun _ => 0) (fun _ => 0) (fun _ => 0) (fun _ => 0) (fun _ => 0) 0 0 0 w := by
  obtain ⟨a_tape, a_letters, a_r, a_fresh, a_st, a_undone, a_kept, a_from, a_begin, a_motor, a_change, a_startFrame, a_changeFrame, a_lostAt, a_blackAt, a_slips, a_leftArc, a_died, a_arcs, a_there, a_backAt, a_sorted, a_parts, rfl⟩ := h
  exact ⟨(uu (fun _ => 0) 8 (-1)), (nth 0 (a_tape :: a_letters :: a_r :: a_fresh :: a_st :: a_undone :: a_kept :: a_from :: a_begin :: a_motor :: a_change :: a_startFrame :: a_changeFrame :: a_lostAt :: a_blackAt :: a_slips :: a_leftArc :: a_died :: a_arcs :: a_there :: a_backAt :: a_sorted :: a_parts :: [])), (fun _ => fun _ => 0), (fun _ => fun _ => 0), (fun _ => fun _ => 0), (fun _ => fun _ => 0), (fun _ => fun _ => 0), (fun _ => fun _ => 0), (fun _ => fun _ => 0), (fun _ => fun _ => 0), (fun _ => fun _ => 0), (fun _ => fun _ => 0), (fun _ => fun _ => 0), (fun _ => fun _ => 0), (fun _ => fun _ => 0), (fun _ => fun _ => 0), (fun _ => fun _ => 0), (fun _ => fun _ => 0), (fun _ => fun _ => 0), (fun _ => fun _ => 0), (by decide), (by decide), (by decide), (by decide), (by decide), (by decide), (by decide), (by decide), rinv0, rinv0, tri0, List.Perm.refl _⟩
set_option maxHeartbeats 4000000 in
set_option maxRecDepth 100000 in
theorem law_begin {p : Program} {l : Launch} {e : Env} {s : State} {m : MethodId} {below : List Frame} {meth : Method} {c : Code} {A : Nat → Prop} {g : Gx} {b : Nat} (X : Cx p s m meth c #[Value.ref b] cL_law 7 RL A g) (kk : ∀ (h0 mo lo : Nat) (cf : Nat → SC) (xw mw : va_W), XW g h0 0 (fun _ => 0) (fun _ => 0) 0 (fun _ => 0) 0 (fun _ => 0) 0 (fun _ => 0) 0 (fun _ => 0) 0 (fun _ => 0) 0 (fun _ => 0) 0 0 0 0 0 0 (fun _ => 0) (fun _ => 0) (fun _ => 0) (fun _ => 0) 0 0 0 cf xw → MW g mo 0 (fun _ => 0) (fun _ => 0) (fun _ => 0) (fun _ => 0) (fun _ => 0) 0 0 0 mw → Wk p l e room_1 s m #[Value.ref b] below meth c (lw_Z below #[Value.ref b] s) A g 7 242 6346 (xw ++ (mw ++ [(cAJ g lo 1 (fun _ => 0))])) [(4, .int 0), (3, .ref lo), (2, .ref mo), (1, .ref h0), (0, .ref b)] 23 []) : Wk p l e room_1 s m #[Value.ref b] below meth c (lw_Z below #[Value.ref b] s) A g 7 0 0 [] [(0, .ref b)] 0 [] := by
  refine k_new (ci := 10) (fs := [.null, .null, .null, .null, .null, .null, .null, .null, .null, .int 0]) X inlX10 rfl tyX10_ok dL_law_k109.1.1.1 mw0 mw1 mw2 (fun j hj => by rcases (show j = 0 ∨ j = 1 ∨ j = 2 ∨ j = 3 ∨ j = 4 ∨ j = 5 ∨ j = 6 ∨ j = 7 ∨ j = 8 ∨ j = 9 by omega) with rfl | rfl | rfl | rfl | rfl | rfl | rfl | rfl | rfl | rfl <;> rfl) (Nat.le_of_ble_eq_true rfl) (Nat.le_of_ble_eq_true rfl) (fun q1 => ?_)
  refine k_ws [(cO10_nnnnnnnnni q1 0)] rfl ?_
  refine k_dup X dL_law_k109.1.1.2.1 rfl ?_
  refine k_callIIP (n := 0) (As := []) (st := [.ref q1]) X [(cO10_nnnnnnnnni q1 0)] [] (List.Perm.refl _) (i_RC l g q1) dL_law_k109.1.1.2.2 mw7 mw8 mw2 mw9 rfl yk_yX10_init_0 rfl (Nat.le_of_ble_eq_true rfl) (Nat.le_of_ble_eq_true rfl) (Nat.le_of_ble_eq_true rfl) (Nat.le_of_ble_eq_true rfl) (Nat.le_of_ble_eq_true rfl) ?_
  rintro xw ⟨cf, hx⟩
  refine k_ws xw rfl ?_
  refine k_wide 217 3702 (Nat.le_of_ble_eq_true rfl) (Nat.le_of_ble_eq_true rfl) ?_
  refine k_astore_n [(1, .ref q1), (0, .ref b)] X dL_law_k109.1.2.1 (nlt_e rfl) rfl ?_
  refine k_new (ci := 11) (fs := (.int 0 :: .null :: .int 0 :: .int 0 :: .int 0 :: .int 0 :: .int 0 :: .int 0 :: .int 0 :: .int 0 :: .int 0 :: .int 0 :: .null :: .int 0 :: .int 0 :: .null :: .null :: .null :: .null :: .null :: .int 0 :: .int 0 :: .null :: .null :: .null :: .null :: .null :: .null :: .null :: .null :: .null :: .null :: .null :: .null :: .int 0 :: .int 0 :: .int 0 :: .null :: .null :: .null :: .null :: .int 0 :: .int 0 :: [])) X inlX11 rfl tyX11_ok dL_law_k109.1.2.2.1 mw3 mw4 mw5 (fun j hj => by rcases (show j = 0 ∨ j = 1 ∨ j = 2 ∨ j = 3 ∨ j = 4 ∨ j = 5 ∨ j = 6 ∨ j = 7 ∨ j = 8 ∨ j = 9 ∨ j = 10 ∨ j = 11 ∨ j = 12 ∨ j = 13 ∨ j = 14 ∨ j = 15 ∨ j = 16 ∨ j = 17 ∨ j = 18 ∨ j = 19 ∨ j = 20 ∨ j = 21 ∨ j = 22 ∨ j = 23 ∨ j = 24 ∨ j = 25 ∨ j = 26 ∨ j = 27 ∨ j = 28 ∨ j = 29 ∨ j = 30 ∨ j = 31 ∨ j = 32 ∨ j = 33 ∨ j = 34 ∨ j = 35 ∨ j = 36 ∨ j = 37 ∨ j = 38 ∨ j = 39 ∨ j = 40 ∨ j = 41 ∨ j = 42 by omega) with rfl | rfl | rfl | rfl | rfl | rfl | rfl | rfl | rfl | rfl | rfl | rfl | rfl | rfl | rfl | rfl | rfl | rfl | rfl | rfl | rfl | rfl | rfl | rfl | rfl | rfl | rfl | rfl | rfl | rfl | rfl | rfl | rfl | rfl | rfl | rfl | rfl | rfl | rfl | rfl | rfl | rfl | rfl <;> rfl) (Nat.le_of_ble_eq_true rfl) (Nat.le_of_ble_eq_true rfl) (fun q2 => ?_)
  refine k_dup X dL_law_k109.1.2.2.2 rfl ?_
  refine k_callIIP (n := 0) (As := []) (st := [.ref q2]) X [(cO11_i1n1i10n1i2n5i2n12i3n4i2 q2 0 0 0 0 0 0 0 0 0 0 0 0 0 0 0 0 0 0 0 0)] xw (List.Perm.refl _) (i_M l g q2) dL_law_k109.2.1.1 mw163 mw164 mw5 mw165 rfl yk_yX11_init_0 rfl (Nat.le_of_ble_eq_true rfl) (Nat.le_of_ble_eq_true rfl) (Nat.le_of_ble_eq_true rfl) (Nat.le_of_ble_eq_true rfl) (Nat.le_of_ble_eq_true rfl) ?_
  intro mw hm
  have hm2 := MW_of hm
  clear hm
  refine k_wide 241 6345 (Nat.le_of_ble_eq_true rfl) (Nat.le_of_ble_eq_true rfl) ?_
  refine k_astore_n [(2, .ref q2), (1, .ref q1), (0, .ref b)] X dL_law_k109.2.1.2.1 (nlt_e rfl) rfl ?_
  refine k_iconst (v := 1) X dL_law_k109.2.1.2.2 ic_1 ?_
  refine k_newaJ 1 X dL_law_17 mw6 (by decide) (by decide) (by decide) (Nat.le_of_ble_eq_true rfl) (Nat.le_of_ble_eq_true rfl) (fun q3 => ?_)
  refine k_wide 242 6346 (Nat.le_of_ble_eq_true rfl) (Nat.le_of_ble_eq_true rfl) ?_
  refine k_astore_n [(3, .ref q3), (2, .ref q2), (1, .ref q1), (0, .ref b)] X dL_law_k109.2.2.1 (nlt_e rfl) rfl ?_
  refine k_iconst (v := 0) X dL_law_k109.2.2.2.1 ic_0 ?_
  refine k_istore [(4, .int 0), (3, .ref q3), (2, .ref q2), (1, .ref q1), (0, .ref b)] X dL_law_k109.2.2.2.2 (nlt_e rfl) rfl ?_
  refine k_ws _ (List.append_assoc _ _ _) ?_
  exact kk q1 q2 q3 cf xw mw hx hm2

theorem dL_law_40 : decode cL_law 40 = .ok (.tableswitch 2022 0 54 #[236, 309, 334, 347, 360, 397, 434, 459, 484, 521, 558, 595, 632, 669, 706, 743, 768, 805, 830, 867, 892, 905, 930, 955, 992, 1029, 1054, 1091, 1128, 1153, 1218, 1243, 1268, 1293, 1346, 1371, 1436, 1473, 1538, 1575, 1624, 1649, 1690, 1703, 1716, 1753, 1790, 1827, 1880, 1905, 1918, 1931, 1956, 1984, 2009], 236) := by decide +kernel
theorem dL_law_k110 : (((dD cL_law 23 (.iload 4) 2 ∧ (dD cL_law 25 (.aload_n 0) 1 ∧ dD cL_law 26 .arraylength 1)) ∧ ((dD cL_law 27 (.bipush 6) 2 ∧ dD cL_law 29 .isub 1) ∧ (dD cL_law 30 (.if_icmp .gt 2038) 3 ∧ dD cL_law 33 (.aload_n 0) 1))) ∧ (((dD cL_law 34 (.iload 4) 2 ∧ dD cL_law 36 .iaload 1) ∧ (dD cL_law 37 (.bipush 63) 2 ∧ dD cL_law 39 .iand 1)) ∧ ((dD cL_law 2062 (.iinc 4 6) 3 ∧ dD cL_law 2065 (.goto (-2042)) 3) ∧ (dD cL_law 2068 (.iconst 1) 1 ∧ dD cL_law 2069 .ireturn 1)))) := dkA15 (by decide +kernel)
set_option maxHeartbeats 4000000 in
set_option maxRecDepth 100000 in
theorem law_fin {p : Program} {l : Launch} {e : Env} {s : State} {m : MethodId} {below : List Frame} {meth : Method} {c : Code} {A : Nat → Prop} {g : Gx} {b : Nat} {n1 n2 : Nat} {ws : va_W} {lv : List (Nat × Value)} (X : Cx p s m meth c #[Value.ref b] cL_law 7 RL A g) (hr : meth.sig.returnType = ret) (hA : ∀ q, A q → s.heap.size ≤ q) (h1 : n1 ≤ 601024) (h2 : n2 ≤ 7293034) : Wk p l e room_1 s m #[Value.ref b] below meth c (lw_Z below #[Value.ref b] s) A g 7 n1 n2 ws lv 2068 [] := by
  refine k_iconst (v := 1) X dL_law_k110.2.2.2.1 ic_1 ?_
  intro H locs ls hP hD hS hl
  refine va_forget (fun q hq => hA _ (hS.2.2 q hq)) ?_
  refine W.widen h1 h2 ?_
  exact lw_ret X.1 X.2.1 hr X.2.2.2.2.2.2.2.1 dL_law_k110.2.2.2.2
set_option maxHeartbeats 4000000 in
set_option maxRecDepth 100000 in
theorem law_loop {p : Program} {l : Launch} {e : Env} {s : State} {m : MethodId} {below : List Frame} {meth : Method} {c : Code} {A : Nat → Prop} {g : Gx} {b L : Nat} {xs : Nat → Int32} {h0 mo lo : Nat} (X : Cx p s m meth c #[Value.ref b] cL_law 7 RL A g) (hX : va_X b L xs s s.heap) (hbl : b < s.heap.size) (hbA : ¬ A b) (hr : meth.sig.returnType = ret) (hA : ∀ q, A q → s.heap.size ≤ q) (hL : L ≤ 3072) (hlt : l.stackTraces = false) (hZ : kZ A s s.heap) (htsE : ∀ w ∈ wsE, w.before #[Value.ref b] s = true) : ∀ (nn : Nat) (u4 : Int32) (xtpd : Int32) (tpf : Nat → Int32) (yhnf : Nat → Int32) (yhtn : Int32) (yhtf : Nat → Int32) (yhjn : Int32) (yhjf : Nat → Int32) (yhmn : Int32) (yhmf : Nat → Int32) (yhbn : Int32) (yhbf : Nat → Int32) (yhsn : Int32) (yhsf : Nat → Int32) (yhcn : Int32) (yhcf : Nat → Int32) (zrn : Int32) (zmn : Int32) (zwn : Int32) (zpn : Int32) (zmd : Int32) (ztr : Int32) (zrf : Nat → Int32) (zmf : Nat → Int32) (zwf : Nat → Int32) (zpf : Nat → Int32) (kac : Int32) (knx : Int32) (kim : Int32) (cf : Nat → SC) (m_taped : Int32) (d_tape : Nat → Int32) (d_r : Nat → Int32) (d_st : Nat → Int32) (d_undone : Nat → Int32) (d_kept : Nat → Int32) (m_undos : Int32) (m_images : Int32) (m_hasHouse : Int32) (xw mw : va_W) (fo : Nat → Int64) (n1 n2 : Nat), ((L : Int) + 6 - u4.toInt).toNat = nn → (0 ≤ u4.toInt ∧ u4.toInt ≤ 3078) → (n1 : Int) * 6 ≤ 1452 + u4.toInt → (n2 : Int) ≤ 6346 + u4.toInt → XW g h0 xtpd tpf yhnf yhtn yhtf yhjn yhjf yhmn yhmf yhbn yhbf yhsn yhsf yhcn yhcf zrn zmn zwn zpn zmd ztr zrf zmf zwf zpf kac knx kim cf xw → MW g mo m_taped d_tape d_r d_st d_undone d_kept m_undos m_images m_hasHouse mw → LR xtpd tpf yhnf yhtn yhtf yhjn yhjf yhmn yhmf yhbn yhbf yhsn yhsf yhcn yhcf zrn zmn zwn zpn zmd ztr zrf zmf zwf zpf kac knx kim cf m_taped d_tape d_r d_st d_undone d_kept m_undos m_images m_hasHouse → Wk p l e room_1 s m #[Value.ref b] below meth c (lw_Z below #[Value.ref b] s) A g 7 n1 n2 (xw ++ (mw ++ [(cAJ g lo 1 fo)])) [(4, .int u4), (3, .ref lo), (2, .ref mo), (1, .ref h0), (0, .ref b)] 23 [] := by
  intro nn
  refine Nat.strongRecOn nn (fun nn ih => ?_)
  intro u4 xtpd tpf yhnf yhtn yhtf yhjn yhjf yhmn yhmf yhbn yhbf yhsn yhsf yhcn yhcf zrn zmn zwn zpn zmd ztr zrf zmf zwf zpf kac knx kim cf m_taped d_tape d_r d_st d_undone d_kept m_undos m_images m_hasHouse xw mw fo n1 n2 hnn hu hn1 hn2 hx hm hR
  have h1 : n1 ≤ 601023 := by omega
  have h2 : n2 ≤ 7293028 := by omega
  refine k_iload X dL_law_k110.1.1.1 0 rfl ?_
  refine k_aload_n X dL_law_k110.1.1.2.1 4 rfl ?_
  refine k_slen X hX hbl hbA dL_law_k110.1.1.2.2 ?_
  refine k_nm (fun zl ezl => ?_)
  refine k_bipush (v := 6) X dL_law_k110.1.2.1.1 bi_6 ?_
  refine k_isub X dL_law_k110.1.2.1.2 ?_
  refine k_nm (fun z ez => ?_)
  have e6 : (6 : Int32).toInt = 6 := by decide
  have hzl : zl.toInt = (L : Int) := by rw [ezl]; exact nI_toInt (by omega)
  have hz : z.toInt = (L : Int) - 6 := by rw [ez, subI (by rw [hzl, e6]; omega) (by rw [hzl, e6]; omega), hzl, e6]
  refine k_ic_gt 2068 X dL_law_k110.1.2.2.1 (jp_e rfl) (fun h => law_fin X hr hA (Nat.le_trans h1 (by decide)) (Nat.le_trans h2 (by decide))) (fun h => ?_)
  have hle := iv_nlt h
  have hi : 0 ≤ u4.toInt ∧ u4.toInt + 6 ≤ (L : Int) := ⟨hu.1, by omega⟩
  refine k_aload_n X dL_law_k110.1.2.2.2 4 rfl ?_
  refine k_iload X dL_law_k110.2.1.1.1 0 rfl ?_
  refine k_sld X hX hbl hbA dL_law_k110.2.1.1.2 (by rw [vp_in_iff]; omega) ?_
  refine k_nm (fun a ea => ?_)
  refine k_bipush (v := 63) X dL_law_k110.2.1.2.1 bi_63 ?_
  refine k_iand X dL_law_k110.2.1.2.2 ?_
  refine k_nm (fun y ey => ?_)
  obtain ⟨j, hj, ej⟩ := pk_andE a (m := 63) 6 (by decide)
  obtain rfl : y = nI j := ey.trans ej
  have go : ∀ (k1 k2 : Nat) (f2 : Nat → Int64) (xtpd_2 : Int32) (tpf_2 : Nat → Int32) (yhnf_2 : Nat → Int32) (yhtn_2 : Int32) (yhtf_2 : Nat → Int32) (yhjn_2 : Int32) (yhjf_2 : Nat → Int32) (yhmn_2 : Int32) (yhmf_2 : Nat → Int32) (yhbn_2 : Int32) (yhbf_2 : Nat → Int32) (yhsn_2 : Int32) (yhsf_2 : Nat → Int32) (yhcn_2 : Int32) (yhcf_2 : Nat → Int32) (zrn_2 : Int32) (zmn_2 : Int32) (zwn_2 : Int32) (zpn_2 : Int32) (zmd_2 : Int32) (ztr_2 : Int32) (zrf_2 : Nat → Int32) (zmf_2 : Nat → Int32) (zwf_2 : Nat → Int32) (zpf_2 : Nat → Int32) (kac_2 : Int32) (knx_2 : Int32) (kim_2 : Int32) (cf_2 : Nat → SC) (m_taped_2 : Int32) (d_tape_2 : Nat → Int32) (d_r_2 : Nat → Int32) (d_st_2 : Nat → Int32) (d_undone_2 : Nat → Int32) (d_kept_2 : Nat → Int32) (m_undos_2 : Int32) (m_images_2 : Int32) (m_hasHouse_2 : Int32) (xw2 mw2 : va_W), (k1 : Int) * 6 ≤ 1452 + (u4.toInt + 6) → (k2 : Int) ≤ 6346 + (u4.toInt + 6) → XW g h0 xtpd_2 tpf_2 yhnf_2 yhtn_2 yhtf_2 yhjn_2 yhjf_2 yhmn_2 yhmf_2 yhbn_2 yhbf_2 yhsn_2 yhsf_2 yhcn_2 yhcf_2 zrn_2 zmn_2 zwn_2 zpn_2 zmd_2 ztr_2 zrf_2 zmf_2 zwf_2 zpf_2 kac_2 knx_2 kim_2 cf_2 xw2 → MW g mo m_taped_2 d_tape_2 d_r_2 d_st_2 d_undone_2 d_kept_2 m_undos_2 m_images_2 m_hasHouse_2 mw2 → LR xtpd_2 tpf_2 yhnf_2 yhtn_2 yhtf_2 yhjn_2 yhjf_2 yhmn_2 yhmf_2 yhbn_2 yhbf_2 yhsn_2 yhsf_2 yhcn_2 yhcf_2 zrn_2 zmn_2 zwn_2 zpn_2 zmd_2 ztr_2 zrf_2 zmf_2 zwf_2 zpf_2 kac_2 knx_2 kim_2 cf_2 m_taped_2 d_tape_2 d_r_2 d_st_2 d_undone_2 d_kept_2 m_undos_2 m_images_2 m_hasHouse_2 → Wk p l e room_1 s m #[Value.ref b] below meth c (lw_Z below #[Value.ref b] s) A g 7 k1 k2 (xw2 ++ (mw2 ++ [(cAJ g lo 1 f2)])) [(4, .int u4), (3, .ref lo), (2, .ref mo), (1, .ref h0), (0, .ref b)] 2062 [] := by
    intro k1 k2 f2 xtpd_2 tpf_2 yhnf_2 yhtn_2 yhtf_2 yhjn_2 yhjf_2 yhmn_2 yhmf_2 yhbn_2 yhbf_2 yhsn_2 yhsf_2 yhcn_2 yhcf_2 zrn_2 zmn_2 zwn_2 zpn_2 zmd_2 ztr_2 zrf_2 zmf_2 zwf_2 zpf_2 kac_2 knx_2 kim_2 cf_2 m_taped_2 d_tape_2 d_r_2 d_st_2 d_undone_2 d_kept_2 m_undos_2 m_images_2 m_hasHouse_2 xw2 mw2 g1 g2 hx2 hm2 hR2
    obtain ⟨v, ev⟩ : ∃ y : Int32, u4 + Int32.ofInt 6 = y := ⟨_, rfl⟩
    refine k_iinc v [(4, .int v), (3, .ref lo), (2, .ref mo), (1, .ref h0), (0, .ref b)] 0 X dL_law_k110.2.2.1.1 rfl ev (nlt_e rfl) rfl ?_
    have hv : v.toInt = u4.toInt + 6 := in_inc ev (oin_e rfl) (show IV u4 0 3078 from hu) (zle_e rfl) (zle_e rfl)
    refine k_goto 23 X dL_law_k110.2.2.1.2 (jp_e rfl) ?_
    exact ih _ (by rw [← hnn, hv]; omega) v xtpd_2 tpf_2 yhnf_2 yhtn_2 yhtf_2 yhjn_2 yhjf_2 yhmn_2 yhmf_2 yhbn_2 yhbf_2 yhsn_2 yhsf_2 yhcn_2 yhcf_2 zrn_2 zmn_2 zwn_2 zpn_2 zmd_2 ztr_2 zrf_2 zmf_2 zwf_2 zpf_2 kac_2 knx_2 kim_2 cf_2 m_taped_2 d_tape_2 d_r_2 d_st_2 d_undone_2 d_kept_2 m_undos_2 m_images_2 m_hasHouse_2 xw2 mw2 f2 k1 k2 rfl (by omega) (by omega) (by omega) hx2 hm2 hR2
  have K : ∀ (xtpd_2 : Int32) (tpf_2 : Nat → Int32) (yhnf_2 : Nat → Int32) (yhtn_2 : Int32) (yhtf_2 : Nat → Int32) (yhjn_2 : Int32) (yhjf_2 : Nat → Int32) (yhmn_2 : Int32) (yhmf_2 : Nat → Int32) (yhbn_2 : Int32) (yhbf_2 : Nat → Int32) (yhsn_2 : Int32) (yhsf_2 : Nat → Int32) (yhcn_2 : Int32) (yhcf_2 : Nat → Int32) (zrn_2 : Int32) (zmn_2 : Int32) (zwn_2 : Int32) (zpn_2 : Int32) (zmd_2 : Int32) (ztr_2 : Int32) (zrf_2 : Nat → Int32) (zmf_2 : Nat → Int32) (zwf_2 : Nat → Int32) (zpf_2 : Nat → Int32) (kac_2 : Int32) (knx_2 : Int32) (kim_2 : Int32) (cf_2 : Nat → SC) (m_taped_2 : Int32) (d_tape_2 : Nat → Int32) (d_r_2 : Nat → Int32) (d_st_2 : Nat → Int32) (d_undone_2 : Nat → Int32) (d_kept_2 : Nat → Int32) (m_undos_2 : Int32) (m_images_2 : Int32) (m_hasHouse_2 : Int32) (xw2 mw2 : va_W), XW g h0 xtpd_2 tpf_2 yhnf_2 yhtn_2 yhtf_2 yhjn_2 yhjf_2 yhmn_2 yhmf_2 yhbn_2 yhbf_2 yhsn_2 yhsf_2 yhcn_2 yhcf_2 zrn_2 zmn_2 zwn_2 zpn_2 zmd_2 ztr_2 zrf_2 zmf_2 zwf_2 zpf_2 kac_2 knx_2 kim_2 cf_2 xw2 → MW g mo m_taped_2 d_tape_2 d_r_2 d_st_2 d_undone_2 d_kept_2 m_undos_2 m_images_2 m_hasHouse_2 mw2 → LR xtpd_2 tpf_2 yhnf_2 yhtn_2 yhtf_2 yhjn_2 yhjf_2 yhmn_2 yhmf_2 yhbn_2 yhbf_2 yhsn_2 yhsf_2 yhcn_2 yhcf_2 zrn_2 zmn_2 zwn_2 zpn_2 zmd_2 ztr_2 zrf_2 zmf_2 zwf_2 zpf_2 kac_2 knx_2 kim_2 cf_2 m_taped_2 d_tape_2 d_r_2 d_st_2 d_undone_2 d_kept_2 m_undos_2 m_images_2 m_hasHouse_2 → Wk p l e room_1 s m #[Value.ref b] below meth c (lw_Z below #[Value.ref b] s) A g 7 n1 n2 (xw2 ++ (mw2 ++ [(cAJ g lo 1 fo)])) [(4, .int u4), (3, .ref lo), (2, .ref mo), (1, .ref h0), (0, .ref b)] 2062 [] := fun xtpd_2 tpf_2 yhnf_2 yhtn_2 yhtf_2 yhjn_2 yhjf_2 yhmn_2 yhmf_2 yhbn_2 yhbf_2 yhsn_2 yhsf_2 yhcn_2 yhcf_2 zrn_2 zmn_2 zwn_2 zpn_2 zmd_2 ztr_2 zrf_2 zmf_2 zwf_2 zpf_2 kac_2 knx_2 kim_2 cf_2 m_taped_2 d_tape_2 d_r_2 d_st_2 d_undone_2 d_kept_2 m_undos_2 m_images_2 m_hasHouse_2 xw2 mw2 hx2 hm2 hR2 => go n1 n2 fo xtpd_2 tpf_2 yhnf_2 yhtn_2 yhtf_2 yhjn_2 yhjf_2 yhmn_2 yhmf_2 yhbn_2 yhbf_2 yhsn_2 yhsf_2 yhcn_2 yhcf_2 zrn_2 zmn_2 zwn_2 zpn_2 zmd_2 ztr_2 zrf_2 zmf_2 zwf_2 zpf_2 kac_2 knx_2 kim_2 cf_2 m_taped_2 d_tape_2 d_r_2 d_st_2 d_undone_2 d_kept_2 m_undos_2 m_images_2 m_hasHouse_2 xw2 mw2 (by omega) (by omega) hx2 hm2 hR2
  have K52 : ∀ (xtpd_2 : Int32) (tpf_2 : Nat → Int32) (yhnf_2 : Nat → Int32) (yhtn_2 : Int32) (yhtf_2 : Nat → Int32) (yhjn_2 : Int32) (yhjf_2 : Nat → Int32) (yhmn_2 : Int32) (yhmf_2 : Nat → Int32) (yhbn_2 : Int32) (yhbf_2 : Nat → Int32) (yhsn_2 : Int32) (yhsf_2 : Nat → Int32) (yhcn_2 : Int32) (yhcf_2 : Nat → Int32) (zrn_2 : Int32) (zmn_2 : Int32) (zwn_2 : Int32) (zpn_2 : Int32) (zmd_2 : Int32) (ztr_2 : Int32) (zrf_2 : Nat → Int32) (zmf_2 : Nat → Int32) (zwf_2 : Nat → Int32) (zpf_2 : Nat → Int32) (kac_2 : Int32) (knx_2 : Int32) (kim_2 : Int32) (cf_2 : Nat → SC) (m_taped_2 : Int32) (d_tape_2 : Nat → Int32) (d_r_2 : Nat → Int32) (d_st_2 : Nat → Int32) (d_undone_2 : Nat → Int32) (d_kept_2 : Nat → Int32) (m_undos_2 : Int32) (m_images_2 : Int32) (m_hasHouse_2 : Int32) (xw2 mw2 : va_W) (fo2 : Nat → Int64), XW g h0 xtpd_2 tpf_2 yhnf_2 yhtn_2 yhtf_2 yhjn_2 yhjf_2 yhmn_2 yhmf_2 yhbn_2 yhbf_2 yhsn_2 yhsf_2 yhcn_2 yhcf_2 zrn_2 zmn_2 zwn_2 zpn_2 zmd_2 ztr_2 zrf_2 zmf_2 zwf_2 zpf_2 kac_2 knx_2 kim_2 cf_2 xw2 → MW g mo m_taped_2 d_tape_2 d_r_2 d_st_2 d_undone_2 d_kept_2 m_undos_2 m_images_2 m_hasHouse_2 mw2 → LR xtpd_2 tpf_2 yhnf_2 yhtn_2 yhtf_2 yhjn_2 yhjf_2 yhmn_2 yhmf_2 yhbn_2 yhbf_2 yhsn_2 yhsf_2 yhcn_2 yhcf_2 zrn_2 zmn_2 zwn_2 zpn_2 zmd_2 ztr_2 zrf_2 zmf_2 zwf_2 zpf_2 kac_2 knx_2 kim_2 cf_2 m_taped_2 d_tape_2 d_r_2 d_st_2 d_undone_2 d_kept_2 m_undos_2 m_images_2 m_hasHouse_2 → Wk p l e room_1 s m #[Value.ref b] below meth c (lw_Z below #[Value.ref b] s) A g 7 (n1 + 1) (n2 + 6) (xw2 ++ (mw2 ++ [(cAJ g lo 1 fo2)])) [(4, .int u4), (3, .ref lo), (2, .ref mo), (1, .ref h0), (0, .ref b)] 2062 [] := fun xtpd_2 tpf_2 yhnf_2 yhtn_2 yhtf_2 yhjn_2 yhjf_2 yhmn_2 yhmf_2 yhbn_2 yhbf_2 yhsn_2 yhsf_2 yhcn_2 yhcf_2 zrn_2 zmn_2 zwn_2 zpn_2 zmd_2 ztr_2 zrf_2 zmf_2 zwf_2 zpf_2 kac_2 knx_2 kim_2 cf_2 m_taped_2 d_tape_2 d_r_2 d_st_2 d_undone_2 d_kept_2 m_undos_2 m_images_2 m_hasHouse_2 xw2 mw2 fo2 hx2 hm2 hR2 => go (n1 + 1) (n2 + 6) fo2 xtpd_2 tpf_2 yhnf_2 yhtn_2 yhtf_2 yhjn_2 yhjf_2 yhmn_2 yhmf_2 yhbn_2 yhbf_2 yhsn_2 yhsf_2 yhcn_2 yhcf_2 zrn_2 zmn_2 zwn_2 zpn_2 zmd_2 ztr_2 zrf_2 zmf_2 zwf_2 zpf_2 kac_2 knx_2 kim_2 cf_2 m_taped_2 d_tape_2 d_r_2 d_st_2 d_undone_2 d_kept_2 m_undos_2 m_images_2 m_hasHouse_2 xw2 mw2 (by omega) (by omega) hx2 hm2 hR2
  rcases (show j = 0 ∨ j = 1 ∨ j = 2 ∨ j = 3 ∨ j = 4 ∨ j = 5 ∨ j = 6 ∨ j = 7 ∨ j = 8 ∨ j = 9 ∨ j = 10 ∨ j = 11 ∨ j = 12 ∨ j = 13 ∨ j = 14 ∨ j = 15 ∨ j = 16 ∨ j = 17 ∨ j = 18 ∨ j = 19 ∨ j = 20 ∨ j = 21 ∨ j = 22 ∨ j = 23 ∨ j = 24 ∨ j = 25 ∨ j = 26 ∨ j = 27 ∨ j = 28 ∨ j = 29 ∨ j = 30 ∨ j = 31 ∨ j = 32 ∨ j = 33 ∨ j = 34 ∨ j = 35 ∨ j = 36 ∨ j = 37 ∨ j = 38 ∨ j = 39 ∨ j = 40 ∨ j = 41 ∨ j = 42 ∨ j = 43 ∨ j = 44 ∨ j = 45 ∨ j = 46 ∨ j = 47 ∨ j = 48 ∨ j = 49 ∨ j = 50 ∨ j = 51 ∨ j = 52 ∨ j = 53 ∨ j = 54 ∨ 54 < j by omega) with rfl | rfl | rfl | rfl | rfl | rfl | rfl | rfl | rfl | rfl | rfl | rfl | rfl | rfl | rfl | rfl | rfl | rfl | rfl | rfl | rfl | rfl | rfl | rfl | rfl | rfl | rfl | rfl | rfl | rfl | rfl | rfl | rfl | rfl | rfl | rfl | rfl | rfl | rfl | rfl | rfl | rfl | rfl | rfl | rfl | rfl | rfl | rfl | rfl | rfl | rfl | rfl | rfl | rfl | rfl | h54
  · exact k_tableIn 276 X dL_law_40 (by decide) (by decide) rfl (by decide) (law_c0 X hX hbl hbA hi hL h1 h2 hlt hZ htsE hx hm hR K)
  · exact k_tableIn 349 X dL_law_40 (by decide) (by decide) rfl (by decide) (law_c1 X hX hbl hbA hi hL h1 h2 hlt hZ htsE hx hm hR K)
  · exact k_tableIn 374 X dL_law_40 (by decide) (by decide) rfl (by decide) (law_c2 X hX hbl hbA hi hL h1 h2 hlt hZ htsE hx hm hR K)
  · exact k_tableIn 387 X dL_law_40 (by decide) (by decide) rfl (by decide) (law_c3 X hX hbl hbA hi hL h1 h2 hlt hZ htsE hx hm hR K)
  · exact k_tableIn 400 X dL_law_40 (by decide) (by decide) rfl (by decide) (law_c4 X hX hbl hbA hi hL h1 h2 hlt hZ htsE hx hm hR K)
  · exact k_tableIn 437 X dL_law_40 (by decide) (by decide) rfl (by decide) (law_c5 X hX hbl hbA hi hL h1 h2 hlt hZ htsE hx hm hR K)
  · exact k_tableIn 474 X dL_law_40 (by decide) (by decide) rfl (by decide) (law_c6 X hX hbl hbA hi hL h1 h2 hlt hZ htsE hx hm hR K)
  · exact k_tableIn 499 X dL_law_40 (by decide) (by decide) rfl (by decide) (law_c7 X hX hbl hbA hi hL h1 h2 hlt hZ htsE hx hm hR K)
  · exact k_tableIn 524 X dL_law_40 (by decide) (by decide) rfl (by decide) (law_c8 X hX hbl hbA hi hL h1 h2 hlt hZ htsE hx hm hR K)
  · exact k_tableIn 561 X dL_law_40 (by decide) (by decide) rfl (by decide) (law_c9 X hX hbl hbA hi hL h1 h2 hlt hZ htsE hx hm hR K)
  · exact k_tableIn 598 X dL_law_40 (by decide) (by decide) rfl (by decide) (law_c10 X hX hbl hbA hi hL h1 h2 hlt hZ htsE hx hm hR K)
  · exact k_tableIn 635 X dL_law_40 (by decide) (by decide) rfl (by decide) (law_c11 X hX hbl hbA hi hL h1 h2 hlt hZ htsE hx hm hR K)
  · exact k_tableIn 672 X dL_law_40 (by decide) (by decide) rfl (by decide) (law_c12 X hX hbl hbA hi hL h1 h2 hlt hZ htsE hx hm hR K)
  · exact k_tableIn 709 X dL_law_40 (by decide) (by decide) rfl (by decide) (law_c13 X hX hbl hbA hi hL h1 h2 hlt hZ htsE hx hm hR K)
  · exact k_tableIn 746 X dL_law_40 (by decide) (by decide) rfl (by decide) (law_c14 X hX hbl hbA hi hL h1 h2 hlt hZ htsE hx hm hR K)
  · exact k_tableIn 783 X dL_law_40 (by decide) (by decide) rfl (by decide) (law_c15 X hX hbl hbA hi hL h1 h2 hlt hZ htsE hx hm hR K)
  · exact k_tableIn 808 X dL_law_40 (by decide) (by decide) rfl (by decide) (law_c16 X hX hbl hbA hi hL h1 h2 hlt hZ htsE hx hm hR K)
  · exact k_tableIn 845 X dL_law_40 (by decide) (by decide) rfl (by decide) (law_c17 X hX hbl hbA hi hL h1 h2 hlt hZ htsE hx hm hR K)
  · exact k_tableIn 870 X dL_law_40 (by decide) (by decide) rfl (by decide) (law_c18 X hX hbl hbA hi hL h1 h2 hlt hZ htsE hx hm hR K)
  · exact k_tableIn 907 X dL_law_40 (by decide) (by decide) rfl (by decide) (law_c19 X hX hbl hbA hi hL h1 h2 hlt hZ htsE hx hm hR K)
  · exact k_tableIn 932 X dL_law_40 (by decide) (by decide) rfl (by decide) (law_c20 X hX hbl hbA hi hL h1 h2 hlt hZ htsE hx hm hR K)
  · exact k_tableIn 945 X dL_law_40 (by decide) (by decide) rfl (by decide) (law_c21 X hX hbl hbA hi hL h1 h2 hlt hZ htsE hx hm hR K)
  · exact k_tableIn 970 X dL_law_40 (by decide) (by decide) rfl (by decide) (law_c22 X hX hbl hbA hi hL h1 h2 hlt hZ htsE hx hm hR K)
  · exact k_tableIn 995 X dL_law_40 (by decide) (by decide) rfl (by decide) (law_c23 X hX hbl hbA hi hL h1 h2 hlt hZ htsE hx hm hR K)
  · exact k_tableIn 1032 X dL_law_40 (by decide) (by decide) rfl (by decide) (law_c24 X hX hbl hbA hi hL h1 h2 hlt hZ htsE hx hm hR K)
  · exact k_tableIn 1069 X dL_law_40 (by decide) (by decide) rfl (by decide) (law_c25 X hX hbl hbA hi hL h1 h2 hlt hZ htsE hx hm hR K)
  · exact k_tableIn 1094 X dL_law_40 (by decide) (by decide) rfl (by decide) (law_c26 X hX hbl hbA hi hL h1 h2 hlt hZ htsE hx hm hR K)
  · exact k_tableIn 1131 X dL_law_40 (by decide) (by decide) rfl (by decide) (law_c27 X hX hbl hbA hi hL h1 h2 hlt hZ htsE hx hm hR K)
  · exact k_tableIn 1168 X dL_law_40 (by decide) (by decide) rfl (by decide) (law_c28 X hX hbl hbA hi hL h1 h2 hlt hZ htsE hx hm hR K)
  · exact k_tableIn 1193 X dL_law_40 (by decide) (by decide) rfl (by decide) (law_c29 X hX hbl hbA hi hL h1 h2 hlt hZ htsE hx hm hR K)
  · exact k_tableIn 1258 X dL_law_40 (by decide) (by decide) rfl (by decide) (law_c30 X hX hbl hbA hi hL h1 h2 hlt hZ htsE hx hm hR K)
  · exact k_tableIn 1283 X dL_law_40 (by decide) (by decide) rfl (by decide) (law_c31 X hX hbl hbA hi hL h1 h2 hlt hZ htsE hx hm hR K)
  · exact k_tableIn 1308 X dL_law_40 (by decide) (by decide) rfl (by decide) (law_c32 X hX hbl hbA hi hL h1 h2 hlt hZ htsE hx hm hR K)
  · exact k_tableIn 1333 X dL_law_40 (by decide) (by decide) rfl (by decide) (law_c33 X hX hbl hbA hi hL h1 h2 hlt hZ htsE hx hm hR K)
  · exact k_tableIn 1386 X dL_law_40 (by decide) (by decide) rfl (by decide) (law_c34 X hX hbl hbA hi hL h1 h2 hlt hZ htsE hx hm hR K)
  · exact k_tableIn 1411 X dL_law_40 (by decide) (by decide) rfl (by decide) (law_c35 X hX hbl hbA hi hL h1 h2 hlt hZ htsE hx hm hR K)
  · exact k_tableIn 1476 X dL_law_40 (by decide) (by decide) rfl (by decide) (law_c36 X hX hbl hbA hi hL h1 h2 hlt hZ htsE hx hm hR K)
  · exact k_tableIn 1513 X dL_law_40 (by decide) (by decide) rfl (by decide) (law_c37 X hX hbl hbA hi hL h1 h2 hlt hZ htsE hx hm hR K)
  · exact k_tableIn 1578 X dL_law_40 (by decide) (by decide) rfl (by decide) (law_c38 X hX hbl hbA hi hL h1 h2 hlt hZ htsE hx hm hR K)
  · exact k_tableIn 1615 X dL_law_40 (by decide) (by decide) rfl (by decide) (law_c39 X hX hbl hbA hi hL h1 h2 hlt hZ htsE hx hm hR K)
  · exact k_tableIn 1664 X dL_law_40 (by decide) (by decide) rfl (by decide) (law_c40 X hX hbl hbA hi hL h1 h2 hlt hZ htsE hx hm hR K)
  · exact k_tableIn 1689 X dL_law_40 (by decide) (by decide) rfl (by decide) (law_c41 X hX hbl hbA hi hL h1 h2 hlt hZ htsE hx hm hR K)
  · exact k_tableIn 1730 X dL_law_40 (by decide) (by decide) rfl (by decide) (law_c42 X hX hbl hbA hi hL h1 h2 hlt hZ htsE hx hm hR K)
  · exact k_tableIn 1743 X dL_law_40 (by decide) (by decide) rfl (by decide) (law_c43 X hX hbl hbA hi hL h1 h2 hlt hZ htsE hx hm hR K)
  · exact k_tableIn 1756 X dL_law_40 (by decide) (by decide) rfl (by decide) (law_c44 X hX hbl hbA hi hL h1 h2 hlt hZ htsE hx hm hR K)
  · exact k_tableIn 1793 X dL_law_40 (by decide) (by decide) rfl (by decide) (law_c45 X hX hbl hbA hi hL h1 h2 hlt hZ htsE hx hm hR K)
  · exact k_tableIn 1830 X dL_law_40 (by decide) (by decide) rfl (by decide) (law_c46 X hX hbl hbA hi hL h1 h2 hlt hZ htsE hx hm hR K)
  · exact k_tableIn 1867 X dL_law_40 (by decide) (by decide) rfl (by decide) (law_c47 X hX hbl hbA hi hL h1 h2 hlt hZ htsE hx hm hR K)
  · exact k_tableIn 1920 X dL_law_40 (by decide) (by decide) rfl (by decide) (law_c48 X hX hbl hbA hi hL h1 h2 hlt hZ htsE hx hm hR K)
  · exact k_tableIn 1945 X dL_law_40 (by decide) (by decide) rfl (by decide) (law_c49 X hX hbl hbA hi hL h1 h2 hlt hZ htsE hx hm hR K)
  · exact k_tableIn 1958 X dL_law_40 (by decide) (by decide) rfl (by decide) (law_c50 X hX hbl hbA hi hL h1 h2 hlt hZ htsE hx hm hR K)
  · exact k_tableIn 1971 X dL_law_40 (by decide) (by decide) rfl (by decide) (law_c51 X hX hbl hbA hi hL h1 h2 hlt hZ htsE hx hm hR K)
  · exact k_tableIn 1996 X dL_law_40 (by decide) (by decide) rfl (by decide) (law_c52 X hX hbl hbA hi hL h1 h2 hlt hZ htsE hx hm hR K52)
  · exact k_tableIn 2024 X dL_law_40 (by decide) (by decide) rfl (by decide) (law_c53 X hX hbl hbA hi hL h1 h2 hlt hZ htsE hx hm hR K)
  · exact k_tableIn 2049 X dL_law_40 (by decide) (by decide) rfl (by decide) (law_c54 X hX hbl hbA hi hL h1 h2 hlt hZ htsE hx hm hR K)
  · exact k_tableOut 2062 X dL_law_40 (Or.inr (by rw [nI_toInt (by omega)]; omega)) (by decide) (K _ _ _ _ _ _ _ _ _ _ _ _ _ _ _ _ _ _ _ _ _ _ _ _ _ _ _ _ _ _ _ _ _ _ _ _ _ _ _ _ hx hm hR)

theorem strL_tbl : ∀ q ∈ strL, Cond.stringRef q.1 q.2.1 q.2.2 ∈ lw_tbl := by decide +kernel
theorem nestL_tbl : ∀ q ∈ nestL, Cond.methodLinkNest q.1 q.2.1 q.2.2.1 q.2.2.2 ∈ lw_tbl := by decide +kernel
theorem ao_tbl : Cond.arrayOver (.object "ReelChange$State") ∈ lw_tbl := by decide +kernel
theorem ca_tbl : Cond.castable nseN nseN ∈ lw_tbl := by decide +kernel
theorem zs1_tbl : Cond.laysStatic Bundle.tN "UNASSIGNED_STACK" Bundle.steD ∈ lw_tbl := by decide +kernel
theorem zs2_tbl : Cond.laysStatic Bundle.tN "SUPPRESSED_SENTINEL" Bundle.listD ∈ lw_tbl := by decide +kernel
theorem zi_tbl : Cond.initialized Bundle.tN ∈ lw_tbl := by decide +kernel
theorem cs_tbl : Cond.laysStatic strN "COMPACT_STRINGS" "Z" ∈ lw_tbl := by decide +kernel
theorem ci_tbl : Cond.initialized strN ∈ lw_tbl := by decide +kernel
theorem sf_tbl : Cond.laysStatic pcN "SIOOBE_FORMATTER" bfD ∈ lw_tbl := by decide +kernel
theorem si_tbl : Cond.initialized pcN ∈ lw_tbl := by decide +kernel
def strT (q : String × Nat × String) : Term := .string q.1 q.2.1
def strC (q : String × Nat × String) : List Cond := [.exactly (strT q) strN, .eq (.field (strT q) strN "coder" "B") (.int 0), .arrayOf (.field (strT q) strN "value" "[B") .byte, .eq (.length (.field (strT q) strN "value" "[B")) (.int (Int32.ofNat (sBy q.2.2).length))] ++ (List.range (sBy q.2.2).length).map (fun j => .eq (.elem (.field (strT q) strN "value" "[B") (.int (Int32.ofNat j))) (.int ((sBy q.2.2).getD j 0)))
theorem strL_key : ∀ q ∈ strL, ∀ q' ∈ strL, q.1 = q'.1 → q.2.1 = q'.2.1 → q = q' := by decide +kernel
def strP : List Nat := [23, 32, 41, 50, 60, 69, 77, 85, 91, 99, 107, 115, 123, 131, 138, 147, 155, 163, 174, 184, 193, 202, 211, 220, 229, 238, 247, 255, 265, 273, 281, 290, 299, 307, 317, 327, 337, 348, 358, 367, 376, 385, 394, 403, 412, 421, 429, 439, 448, 455, 464, 476, 487, 497, 507, 517, 527, 537, 547, 557, 566, 577, 586, 595, 605, 615]
theorem strP_ok : (List.range 66).all (fun i => decide (((flatC (Jvm.Cond.and given_1 narrow_1)).drop (strP.getD i 0)).take (strC (strL.getD i ("", 0, ""))).length = strC (strL.getD i ("", 0, "")))) = true := by decide +kernel
theorem strL_n : strL.length = 66 := by decide +kernel
theorem strC_in : ∀ q ∈ strL, ∀ w ∈ strC q, w ∈ flatC (Jvm.Cond.and given_1 narrow_1) := by
  intro q hq w hw
  obtain ⟨i, hi⟩ := List.mem_iff_getElem?.mp hq
  have hl : i < strL.length := (List.getElem?_eq_some_iff.mp hi).1
  rw [strL_n] at hl
  have h := List.all_eq_true.mp strP_ok i (List.mem_range.mpr hl)
  have h2 := of_decide_eq_true h
  have e : strL.getD i ("", 0, "") = q := by rw [List.getD_eq_getElem?_getD, hi]; rfl
  rw [e] at h2
  rw [← h2] at hw
  exact List.mem_of_mem_drop (List.mem_of_mem_take hw)
theorem isRef_ev {args : Array Value} {s : State} {t : Term} (h : (Cond.isRef t).before args s = true) : ∃ v : Value, t.eval args s none [] s = some v ∧ (v = .null ∨ ∃ b : Nat, v = .ref b) := by
  simp only [Cond.before, Cond.holds, Cond.value] at h
  cases he : t.eval args s none [] s with
  | none => simp [he] at h
  | some v =>
    refine ⟨v, rfl, ?_⟩
    rw [he] at h
    cases v with
    | null => exact Or.inl rfl
    | ref a => exact Or.inr ⟨a, rfl⟩
    | _ => simp [Value.isRef] at h
set_option maxHeartbeats 4000000 in
set_option maxRecDepth 100000 in
theorem k_start {p : Program} {s : State} {m : MethodId} {meth : Method} {c : Code} {b L : Nat} {xs : Nat → Int32} (C0 : lw_At p s m meth c b L xs) : ∃ g : Gx, kK g s ∧ kS g (fun q : Nat => s.heap.size ≤ q) s s.heap := by
  obtain ⟨hx, hb, hr, hml, hown, hts, hX, hbl, hlocks, hgv⟩ := C0
  have hts0 : ∀ w ∈ wsL_law0, w.before #[Value.ref b] s = true := fun w h => hts w (wsL_in w h)
  have hf := flat_of_before _ hgv
  have hA : ∀ a : Nat, a < s.heap.size → ¬ (fun q : Nat => s.heap.size ≤ q) a := fun a h => Nat.not_le.mpr h
  obtain ⟨c0, i0, hk0⟩ := u_known (C := RX0) (T := TX0) (N := 2) (n := 2) hts0 inlX0 (hts0 _ mw34)
  obtain ⟨c1, i1, hk1⟩ := u_known (C := RX1) (T := TX1) (N := 3) (n := 3) hts0 inlX1 (hts0 _ mw42)
  obtain ⟨c2, i2, hk2⟩ := u_known (C := RX2) (T := TX2) (N := 2) (n := 2) hts0 inlX2 (hts0 _ mw46)
  obtain ⟨c3, i3, hk3⟩ := u_known (C := RX3) (T := TX3) (N := 8) (n := 8) hts0 inlX3 (hts0 _ mw18)
  obtain ⟨c4, i4, hk4⟩ := u_known (C := RX4) (T := TX4) (N := 5) (n := 5) hts0 inlX4 (hts0 _ mw26)
  obtain ⟨c5, i5, hk5⟩ := u_known (C := RX5) (T := TX5) (N := 9) (n := 9) hts0 inlX5 (hts0 _ mw30)
  obtain ⟨c6, i6, hk6⟩ := u_known (C := RX6) (T := TX6) (N := 3) (n := 3) hts0 inlX6 (hts0 _ mw38)
  obtain ⟨c7, i7, hk7⟩ := u_known (C := RX7) (T := TX7) (N := 6) (n := 6) hts0 inlX7 (hts0 _ mw22)
  obtain ⟨c8, i8, hk8⟩ := u_known (C := RX8) (T := TX8) (N := 4) (n := 4) hts0 inlX8 (hts0 _ mw63)
  obtain ⟨c9, i9, hk9⟩ := u_known (C := RX9) (T := TX9) (N := 15) (n := 15) hts0 inlX9 (hts0 _ mw14)
  obtain ⟨c10, i10, hk10⟩ := u_known (C := RX10) (T := TX10) (N := 10) (n := 10) hts0 inlX10 (hts0 _ mw1)
  obtain ⟨c11, i11, hk11⟩ := u_known (C := RX11) (T := TX11) (N := 43) (n := 43) hts0 inlX11 (hts0 _ mw4)
  obtain ⟨cyB, kAB, coB, f1B, f2B, f3B⟩ := Cond.arrayClass_spec (hts0 _ mw58)
  obtain ⟨cyI, kAI, coI, f1I, f2I, f3I⟩ := Cond.arrayClass_spec (hts0 _ mw107)
  obtain ⟨cyJ, kAJ, coJ, f1J, f2J, f3J⟩ := Cond.arrayClass_spec (hts0 _ mw6)
  have hao : va_AO "ReelChange$State" s := va_AO.of (hts _ ao_tbl)
  obtain ⟨co, cyO, kO, o1, o2, o3, o4, o5⟩ := Cond.arrayOver_spec hao
  have hstr : ∀ q : String × Nat × String, ∃ z : Nat × Nat, q ∈ strL → vk_R q.1 q.2.1 q.2.2 z.1 s ∧ va_O strN z.1 (fun q : Nat => s.heap.size ≤ q) s s.heap ∧ va_OF strN "coder" "B" (.int 0) z.1 (fun q : Nat => s.heap.size ≤ q) s s.heap ∧ va_OF strN "value" "[B" (.ref z.2) z.1 (fun q : Nat => s.heap.size ≤ q) s s.heap ∧ va_T .byte z.2 (sBy q.2.2).length (fun j => .int ((sBy q.2.2).getD j 0)) (fun q : Nat => s.heap.size ≤ q) s s.heap := by
    intro q
    by_cases hq : q ∈ strL
    · have hc : ∀ w ∈ strC q, w.before #[Value.ref b] s = true := fun w hw => hf w (strC_in q hq w hw)
      have hlen : (sBy q.2.2).length ≤ 8 := strL_len q hq
      have c0 : (Cond.exactly (strT q) strN).before #[Value.ref b] s = true := hc _ (List.mem_append_left _ (by simp))
      have c1 : (Cond.eq (.field (strT q) strN "coder" "B") (.int 0)).before #[Value.ref b] s = true := hc _ (List.mem_append_left _ (by simp))
      have c2 : (Cond.arrayOf (.field (strT q) strN "value" "[B") .byte).before #[Value.ref b] s = true := hc _ (List.mem_append_left _ (by simp))
      have c3 : (Cond.eq (.length (.field (strT q) strN "value" "[B")) (.int (Int32.ofNat (sBy q.2.2).length))).before #[Value.ref b] s = true := hc _ (List.mem_append_left _ (by simp))
      have c4 : ∀ j : Nat, j < (sBy q.2.2).length → (Cond.eq (.elem (.field (strT q) strN "value" "[B") (.int (Int32.ofNat j))) (.int ((sBy q.2.2).getD j 0))).before #[Value.ref b] s = true := fun j hj => hc _ (List.mem_append_right _ (List.mem_map.mpr ⟨j, List.mem_range.mpr hj, rfl⟩))
      obtain ⟨adK, adV, hS, hev⟩ := vk_Sof (args := #[Value.ref b]) (s := s) (N := 1) (tm := fun _ => strT q) (len := [(sBy q.2.2).length]) (byt := [sBy q.2.2]) (A := fun q : Nat => s.heap.size ≤ q)
        (fun i hi => by
          obtain rfl : i = 0 := by omega
          show (sBy q.2.2).length < 2 ^ 31
          omega)
        (fun i hi => c0) (fun i hi => c1) (fun i hi => c2)
        (fun i hi => by
          obtain rfl : i = 0 := by omega
          exact c3)
        (fun i hi j hj => by
          obtain rfl : i = 0 := by omega
          exact c4 j hj)
        (fun i j hi hj hij => by omega) hA
      obtain ⟨h1, h2, h3, h4⟩ := hS.1 0 (by omega)
      refine ⟨(adK 0, adV 0), fun _ => ⟨vk_R.of (hts _ (strL_tbl q hq)) (hev 0 (by omega)), h1, h2, h3, h4⟩⟩
    · exact ⟨(0, 0), fun h => absurd h hq⟩
  obtain ⟨ad, had⟩ := Classical.axiomOfChoice hstr
  have hkey : ∀ q ∈ strL, ∀ q' ∈ strL, q.1 = q'.1 → q.2.1 = q'.2.1 → q = q' := by
    intro q hq q' hq' e1 e2
    exact strL_key q hq q' hq' e1 e2
  have hpick : ∀ (o : String) (i : Nat), ∃ z : Nat × Nat, ∀ q ∈ strL, q.1 = o → q.2.1 = i → z = ad q := by
    intro o i
    by_cases hh : ∃ q ∈ strL, q.1 = o ∧ q.2.1 = i
    · obtain ⟨q, hq, e1, e2⟩ := hh
      exact ⟨ad q, fun q' hq' g1 g2 => by rw [hkey q hq q' hq' (e1.trans g1.symm) (e2.trans g2.symm)]⟩
    · exact ⟨(0, 0), fun q hq e1 e2 => absurd ⟨q, hq, e1, e2⟩ hh⟩
  obtain ⟨pk, hpk⟩ := Classical.axiomOfChoice (fun o : String => Classical.axiomOfChoice (hpick o))
  refine ⟨((fun k => match k with | 0 => c0 | 1 => c1 | 2 => c2 | 3 => c3 | 4 => c4 | 5 => c5 | 6 => c6 | 7 => c7 | 8 => c8 | 9 => c9 | 10 => c10 | _ => c11, fun k => match k with | 0 => i0 | 1 => i1 | 2 => i2 | 3 => i3 | 4 => i4 | 5 => i5 | 6 => i6 | 7 => i7 | 8 => i8 | 9 => i9 | 10 => i10 | _ => i11), cyB, cyI, cyJ, cyO, (fun o i => (pk o i).1, fun o i => (pk o i).2)), ⟨⟨?_, ?_⟩, hao, ?_, ?_, ?_⟩, ?_, ?_, ?_⟩
  · intro k q hq
    match k, hq with
    | 0, hq => cases hq; exact hk0
    | 1, hq => cases hq; exact hk1
    | 2, hq => cases hq; exact hk2
    | 3, hq => cases hq; exact hk3
    | 4, hq => cases hq; exact hk4
    | 5, hq => cases hq; exact hk5
    | 6, hq => cases hq; exact hk6
    | 7, hq => cases hq; exact hk7
    | 8, hq => cases hq; exact hk8
    | 9, hq => cases hq; exact hk9
    | 10, hq => cases hq; exact hk10
    | 11, hq => cases hq; exact hk11
    | k + 12, hq => simp [vwCl] at hq
  · intro k q hq
    match k, hq with
    | 0, hq => cases hq; exact ⟨fun n z => ⟨fun k h => (by cases h), kAB, f2B, coB, f3B⟩, f1B⟩
    | 1, hq => cases hq; exact ⟨fun n z => ⟨fun k h => (by cases h), kAI, f2I, coI, f3I⟩, f1I⟩
    | 2, hq => cases hq; exact ⟨fun n z => ⟨fun k h => (by cases h), kAJ, f2J, coJ, f3J⟩, f1J⟩
    | 3, hq => cases hq; exact ⟨fun n z => ⟨fun k h => (by cases h), kO, o3, co, o4⟩, kO, co, o3, o4, o1, o5⟩
    | k + 4, hq => simp at hq
  · intro q hq
    exact ⟨_, (had q hq).1⟩
  · intro q hq
    exact va_Nw.of rfl (hts _ (nestL_tbl q hq))
  · exact va_Nw.of rfl (hts _ ca_tbl)
  · exact va_Zof (hts _ cs_tbl) (hts _ ci_tbl) (va_eqt (hf _ (by decide +kernel))) hA
  · have hr1 : (Cond.isRef (.static pcN "SIOOBE_FORMATTER" bfD)).before #[Value.ref b] s = true := hf _ (by decide +kernel)
    obtain ⟨v, hv1, hv2⟩ := isRef_ev hr1
    exact ⟨v, hv2, va_Zof (hts _ sf_tbl) (hts _ si_tbl) hv1 hA⟩
  · intro q hq
    have e := hpk q.1 q.2.1 q hq rfl rfl
    have h := had q hq
    show vk_R q.1 q.2.1 q.2.2 (pk q.1 q.2.1).1 s ∧ va_O strN (pk q.1 q.2.1).1 _ s s.heap ∧ va_OF strN "coder" "B" (.int 0) (pk q.1 q.2.1).1 _ s s.heap ∧ va_OF strN "value" "[B" (.ref (pk q.1 q.2.1).2) (pk q.1 q.2.1).1 _ s s.heap ∧ va_T .byte (pk q.1 q.2.1).2 _ _ _ s s.heap
    rw [e]
    exact h
set_option maxHeartbeats 4000000 in
set_option maxRecDepth 100000 in
theorem k_go {p : Program} {l : Launch} {e : Env} {s : State} {m : MethodId} {below : List Frame} {meth : Method} {c : Code} {b L : Nat} {xs : Nat → Int32} (g : Gx) (hKg : kK g s) (hSt : kS g (fun q : Nat => s.heap.size ≤ q) s s.heap) (hlt : l.stackTraces = false) (hL : L ≤ 3072) (C0 : lw_At p s m meth c b L xs) : W p l e room_1 s m #[Value.ref b] below meth c s.heap [] 0 0 (lw_Z below #[Value.ref b] s) (entryFrame m ([Value.ref b] : List Value).toArray 7) := by
  obtain ⟨hx, hb, hr, hml, hown, hts, hX, hbl, hlocks, hgv⟩ := C0
  have X : Cx p s m meth c #[Value.ref b] cL_law 7 RL (fun q : Nat => s.heap.size ≤ q) g := ⟨hx, hb, hml, hown, fun w h => hts w (wsL_in w h), hKg, fun _ h => h, hlocks, hSt⟩
  have hbA : ¬ (fun q : Nat => s.heap.size ≤ q) b := Nat.not_le.mpr hbl
  have hf := flat_of_before _ hgv
  have hZ : kZ (fun q : Nat => s.heap.size ≤ q) s s.heap := ⟨vx_Zqof (hts _ zs1_tbl) (hts _ zi_tbl) (hf _ (by decide +kernel)) (fun a h => Nat.not_le.mpr h), vx_Zqof (hts _ zs2_tbl) (hts _ zi_tbl) (hf _ (by decide +kernel)) (fun a h => Nat.not_le.mpr h), fun q hq => va_Nw.of rfl (hts _ (de_tbl q hq))⟩
  rw [lg_entry_eq]
  refine law_begin X (fun h0 mo lo cf xw mw hx0 hm0 => ?_) s.heap [] _ (fun k q h => by simp at h) ⟨fun i j p q h => by simp at h, fun k q h => by simp at h⟩ va_S.rf (lv_entry [.ref b] (n := 7) (Nat.le_of_ble_eq_true rfl))
  exact law_loop X hX hbl hbA hr (fun _ h => h) hL hlt hZ (fun w h => hts w (wsE_in w h)) _ 0 0 (fun _ => 0) (fun _ => 0) 0 (fun _ => 0) 0 (fun _ => 0) 0 (fun _ => 0) 0 (fun _ => 0) 0 (fun _ => 0) 0 (fun _ => 0) 0 0 0 0 0 0 (fun _ => 0) (fun _ => 0) (fun _ => 0) (fun _ => 0) 0 0 0 cf 0 (fun _ => 0) (fun _ => 0) (fun _ => 0) (fun _ => 0) (fun _ => 0) 0 0 0 xw mw (fun _ => 0) 242 6346 rfl (by rw [zI]; omega) (by rw [zI]; omega) (by rw [zI]; omega) hx0 hm0 LR0
