theorem dL_law_23 : decode cL_law 23 = .ok (.iload 4, 2) := by decide +kernel
theorem dL_law_25 : decode cL_law 25 = .ok (.aload_n 0, 1) := by decide +kernel
theorem dL_law_26 : decode cL_law 26 = .ok (.arraylength, 1) := by decide +kernel
theorem dL_law_27 : decode cL_law 27 = .ok (.bipush 6, 2) := by decide +kernel
theorem dL_law_29 : decode cL_law 29 = .ok (.isub, 1) := by decide +kernel
theorem dL_law_30 : decode cL_law 30 = .ok (.if_icmp .gt 2038, 3) := by decide +kernel
theorem dL_law_33 : decode cL_law 33 = .ok (.aload_n 0, 1) := by decide +kernel
theorem dL_law_34 : decode cL_law 34 = .ok (.iload 4, 2) := by decide +kernel
theorem dL_law_36 : decode cL_law 36 = .ok (.iaload, 1) := by decide +kernel
theorem dL_law_37 : decode cL_law 37 = .ok (.bipush 63, 2) := by decide +kernel
theorem dL_law_39 : decode cL_law 39 = .ok (.iand, 1) := by decide +kernel
theorem dL_law_40 : decode cL_law 40 = .ok (.tableswitch 2022 0 54 #[236, 309, 334, 347, 360, 397, 434, 459, 484, 521, 558, 595, 632, 669, 706, 743, 768, 805, 830, 867, 892, 905, 930, 955, 992, 1029, 1054, 1091, 1128, 1153, 1218, 1243, 1268, 1293, 1346, 1371, 1436, 1473, 1538, 1575, 1624, 1649, 1690, 1703, 1716, 1753, 1790, 1827, 1880, 1905, 1918, 1931, 1956, 1984, 2009], 236) := by decide +kernel
theorem dL_law_2062 : decode cL_law 2062 = .ok (.iinc 4 6, 3) := by decide +kernel
theorem dL_law_2065 : decode cL_law 2065 = .ok (.goto (-2042), 3) := by decide +kernel
theorem dL_law_2068 : decode cL_law 2068 = .ok (.iconst 1, 1) := by decide +kernel
theorem dL_law_2069 : decode cL_law 2069 = .ok (.ireturn, 1) := by decide +kernel
set_option maxHeartbeats 4000000 in
set_option maxRecDepth 100000 in
theorem law_fin {p : Program} {l : Launch} {e : Env} {s : State} {m : MethodId} {below : List Frame} {meth : Method} {c : Code} {A : Nat → Prop} {g : Gx} {b : Nat} {n1 n2 : Nat} {ws : va_W} {lv : List (Nat × Value)} (X : Cx p s m meth c #[Value.ref b] cL_law 7 RL A g) (hr : meth.sig.returnType = ret) (hA : ∀ q, A q → s.heap.size ≤ q) (h1 : n1 ≤ 601024) (h2 : n2 ≤ 7293034) : Wk p l e room_1 s m #[Value.ref b] below meth c (lw_Z below #[Value.ref b] s) A g 7 n1 n2 ws lv 2068 [] := by
  refine k_iconst (v := 1) X dL_law_2068 (by decide) ?_
  intro H locs ls hP hD hS hl
  refine va_forget (fun q hq => hA _ (hS.2.2 q hq)) ?_
  refine W.widen h1 h2 ?_
  exact lw_ret X.1 X.2.1 hr X.2.2.2.2.2.2.2.1 dL_law_2069
set_option maxHeartbeats 4000000 in
set_option maxRecDepth 100000 in
theorem law_loop {p : Program} {l : Launch} {e : Env} {s : State} {m : MethodId} {below : List Frame} {meth : Method} {c : Code} {A : Nat → Prop} {g : Gx} {b L : Nat} {xs : Nat → Int32} {h0 mo lo : Nat} (X : Cx p s m meth c #[Value.ref b] cL_law 7 RL A g) (hX : va_X b L xs s s.heap) (hbl : b < s.heap.size) (hbA : ¬ A b) (hr : meth.sig.returnType = ret) (hA : ∀ q, A q → s.heap.size ≤ q) (hL : L ≤ 3072) (hlt : l.stackTraces = false) (hZ : kZ A s s.heap) (htsE : ∀ w ∈ wsE, w.before #[Value.ref b] s = true) : ∀ (nn : Nat) (u4 : Int32) (xtpd : Int32) (tpf : Nat → Int32) (yhnf : Nat → Int32) (yhtn : Int32) (yhtf : Nat → Int32) (yhjn : Int32) (yhjf : Nat → Int32) (yhmn : Int32) (yhmf : Nat → Int32) (yhbn : Int32) (yhbf : Nat → Int32) (yhsn : Int32) (yhsf : Nat → Int32) (yhcn : Int32) (yhcf : Nat → Int32) (zrn : Int32) (zmn : Int32) (zwn : Int32) (zpn : Int32) (zmd : Int32) (ztr : Int32) (zrf : Nat → Int32) (zmf : Nat → Int32) (zwf : Nat → Int32) (zpf : Nat → Int32) (kac : Int32) (knx : Int32) (kim : Int32) (cf : Nat → SC) (m_taped : Int32) (d_tape : Nat → Int32) (d_r : Nat → Int32) (d_st : Nat → Int32) (d_undone : Nat → Int32) (d_kept : Nat → Int32) (m_undos : Int32) (m_images : Int32) (m_hasHouse : Int32) (xw mw : va_W) (fo : Nat → Int64) (n1 n2 : Nat), ((L : Int) + 6 - u4.toInt).toNat = nn → (0 ≤ u4.toInt ∧ u4.toInt ≤ 3078) → (n1 : Int) * 6 ≤ 1452 + u4.toInt → (n2 : Int) ≤ 6346 + u4.toInt → XW g h0 xtpd tpf yhnf yhtn yhtf yhjn yhjf yhmn yhmf yhbn yhbf yhsn yhsf yhcn yhcf zrn zmn zwn zpn zmd ztr zrf zmf zwf zpf kac knx kim cf xw → MW g mo m_taped d_tape d_r d_st d_undone d_kept m_undos m_images m_hasHouse mw → LR xtpd tpf yhnf yhtn yhtf yhjn yhjf yhmn yhmf yhbn yhbf yhsn yhsf yhcn yhcf zrn zmn zwn zpn zmd ztr zrf zmf zwf zpf kac knx kim cf m_taped d_tape d_r d_st d_undone d_kept m_undos m_images m_hasHouse → Wk p l e room_1 s m #[Value.ref b] below meth c (lw_Z below #[Value.ref b] s) A g 7 n1 n2 (xw ++ (mw ++ [(cAJ g lo 1 fo)])) [(4, .int u4), (3, .ref lo), (2, .ref mo), (1, .ref h0), (0, .ref b)] 23 [] := by
  intro nn
  refine Nat.strongRecOn nn (fun nn ih => ?_)
  intro u4 xtpd tpf yhnf yhtn yhtf yhjn yhjf yhmn yhmf yhbn yhbf yhsn yhsf yhcn yhcf zrn zmn zwn zpn zmd ztr zrf zmf zwf zpf kac knx kim cf m_taped d_tape d_r d_st d_undone d_kept m_undos m_images m_hasHouse xw mw fo n1 n2 hnn hu hn1 hn2 hx hm hR
  have h1 : n1 ≤ 601023 := by omega
  have h2 : n2 ≤ 7293028 := by omega
  refine k_iload X dL_law_23 0 rfl ?_
  refine k_aload_n X dL_law_25 4 rfl ?_
  refine k_slen X hX hbl hbA dL_law_26 ?_
  refine k_nm (fun zl ezl => ?_)
  refine k_bipush (v := 6) X dL_law_27 (by decide) ?_
  refine k_isub X dL_law_29 ?_
  refine k_nm (fun z ez => ?_)
  have e6 : (6 : Int32).toInt = 6 := by decide
  have hzl : zl.toInt = (L : Int) := by rw [ezl]; exact nI_toInt (by omega)
  have hz : z.toInt = (L : Int) - 6 := by rw [ez, subI (by rw [hzl, e6]; omega) (by rw [hzl, e6]; omega), hzl, e6]
  refine k_ic_gt 2068 X dL_law_30 (by decide) (fun h => law_fin X hr hA (Nat.le_trans h1 (by decide)) (Nat.le_trans h2 (by decide))) (fun h => ?_)
  have hle := iv_nlt h
  have hi : 0 ≤ u4.toInt ∧ u4.toInt + 6 ≤ (L : Int) := ⟨hu.1, by omega⟩
  refine k_aload_n X dL_law_33 4 rfl ?_
  refine k_iload X dL_law_34 0 rfl ?_
  refine k_sld X hX hbl hbA dL_law_36 (by rw [vp_in_iff]; omega) ?_
  refine k_nm (fun a ea => ?_)
  refine k_bipush (v := 63) X dL_law_37 (by decide) ?_
  refine k_iand X dL_law_39 ?_
  refine k_nm (fun y ey => ?_)
  obtain ⟨j, hj, ej⟩ := pk_andE a (m := 63) 6 (by decide)
  obtain rfl : y = nI j := ey.trans ej
  have go : ∀ (k1 k2 : Nat) (f2 : Nat → Int64) (xtpd_2 : Int32) (tpf_2 : Nat → Int32) (yhnf_2 : Nat → Int32) (yhtn_2 : Int32) (yhtf_2 : Nat → Int32) (yhjn_2 : Int32) (yhjf_2 : Nat → Int32) (yhmn_2 : Int32) (yhmf_2 : Nat → Int32) (yhbn_2 : Int32) (yhbf_2 : Nat → Int32) (yhsn_2 : Int32) (yhsf_2 : Nat → Int32) (yhcn_2 : Int32) (yhcf_2 : Nat → Int32) (zrn_2 : Int32) (zmn_2 : Int32) (zwn_2 : Int32) (zpn_2 : Int32) (zmd_2 : Int32) (ztr_2 : Int32) (zrf_2 : Nat → Int32) (zmf_2 : Nat → Int32) (zwf_2 : Nat → Int32) (zpf_2 : Nat → Int32) (kac_2 : Int32) (knx_2 : Int32) (kim_2 : Int32) (cf_2 : Nat → SC) (m_taped_2 : Int32) (d_tape_2 : Nat → Int32) (d_r_2 : Nat → Int32) (d_st_2 : Nat → Int32) (d_undone_2 : Nat → Int32) (d_kept_2 : Nat → Int32) (m_undos_2 : Int32) (m_images_2 : Int32) (m_hasHouse_2 : Int32) (xw2 mw2 : va_W), (k1 : Int) * 6 ≤ 1452 + (u4.toInt + 6) → (k2 : Int) ≤ 6346 + (u4.toInt + 6) → XW g h0 xtpd_2 tpf_2 yhnf_2 yhtn_2 yhtf_2 yhjn_2 yhjf_2 yhmn_2 yhmf_2 yhbn_2 yhbf_2 yhsn_2 yhsf_2 yhcn_2 yhcf_2 zrn_2 zmn_2 zwn_2 zpn_2 zmd_2 ztr_2 zrf_2 zmf_2 zwf_2 zpf_2 kac_2 knx_2 kim_2 cf_2 xw2 → MW g mo m_taped_2 d_tape_2 d_r_2 d_st_2 d_undone_2 d_kept_2 m_undos_2 m_images_2 m_hasHouse_2 mw2 → LR xtpd_2 tpf_2 yhnf_2 yhtn_2 yhtf_2 yhjn_2 yhjf_2 yhmn_2 yhmf_2 yhbn_2 yhbf_2 yhsn_2 yhsf_2 yhcn_2 yhcf_2 zrn_2 zmn_2 zwn_2 zpn_2 zmd_2 ztr_2 zrf_2 zmf_2 zwf_2 zpf_2 kac_2 knx_2 kim_2 cf_2 m_taped_2 d_tape_2 d_r_2 d_st_2 d_undone_2 d_kept_2 m_undos_2 m_images_2 m_hasHouse_2 → Wk p l e room_1 s m #[Value.ref b] below meth c (lw_Z below #[Value.ref b] s) A g 7 k1 k2 (xw2 ++ (mw2 ++ [(cAJ g lo 1 f2)])) [(4, .int u4), (3, .ref lo), (2, .ref mo), (1, .ref h0), (0, .ref b)] 2062 [] := by
    intro k1 k2 f2 xtpd_2 tpf_2 yhnf_2 yhtn_2 yhtf_2 yhjn_2 yhjf_2 yhmn_2 yhmf_2 yhbn_2 yhbf_2 yhsn_2 yhsf_2 yhcn_2 yhcf_2 zrn_2 zmn_2 zwn_2 zpn_2 zmd_2 ztr_2 zrf_2 zmf_2 zwf_2 zpf_2 kac_2 knx_2 kim_2 cf_2 m_taped_2 d_tape_2 d_r_2 d_st_2 d_undone_2 d_kept_2 m_undos_2 m_images_2 m_hasHouse_2 xw2 mw2 g1 g2 hx2 hm2 hR2
    obtain ⟨v, ev⟩ : ∃ y : Int32, u4 + Int32.ofInt 6 = y := ⟨_, rfl⟩
    refine k_iinc v [(4, .int v), (3, .ref lo), (2, .ref mo), (1, .ref h0), (0, .ref b)] 0 X dL_law_2062 rfl ev (by decide) rfl ?_
    have hv : v.toInt = u4.toInt + 6 := in_inc ev (by decide) (show IV u4 0 3078 from hu) (by decide) (by decide)
    refine k_goto 23 X dL_law_2065 (by decide) ?_
    exact ih _ (by rw [← hnn, hv]; omega) v xtpd_2 tpf_2 yhnf_2 yhtn_2 yhtf_2 yhjn_2 yhjf_2 yhmn_2 yhmf_2 yhbn_2 yhbf_2 yhsn_2 yhsf_2 yhcn_2 yhcf_2 zrn_2 zmn_2 zwn_2 zpn_2 zmd_2 ztr_2 zrf_2 zmf_2 zwf_2 zpf_2 kac_2 knx_2 kim_2 cf_2 m_taped_2 d_tape_2 d_r_2 d_st_2 d_undone_2 d_kept_2 m_undos_2 m_images_2 m_hasHouse_2 xw2 mw2 f2 k1 k2 rfl (by omega) (by omega) (by omega) hx2 hm2 hR2
  have K : ∀ (xtpd_2 : Int32) (tpf_2 : Nat → Int32) (yhnf_2 : Nat → Int32) (yhtn_2 : Int32) (yhtf_2 : Nat → Int32) (yhjn_2 : Int32) (yhjf_2 : Nat → Int32) (yhmn_2 : Int32) (yhmf_2 : Nat → Int32) (yhbn_2 : Int32) (yhbf_2 : Nat → Int32) (yhsn_2 : Int32) (yhsf_2 : Nat → Int32) (yhcn_2 : Int32) (yhcf_2 : Nat → Int32) (zrn_2 : Int32) (zmn_2 : Int32) (zwn_2 : Int32) (zpn_2 : Int32) (zmd_2 : Int32) (ztr_2 : Int32) (zrf_2 : Nat → Int32) (zmf_2 : Nat → Int32) (zwf_2 : Nat → Int32) (zpf_2 : Nat → Int32) (kac_2 : Int32) (knx_2 : Int32) (kim_2 : Int32) (cf_2 : Nat → SC) (m_taped_2 : Int32) (d_tape_2 : Nat → Int32) (d_r_2 : Nat → Int32) (d_st_2 : Nat → Int32) (d_undone_2 : Nat → Int32) (d_kept_2 : Nat → Int32) (m_undos_2 : Int32) (m_images_2 : Int32) (m_hasHouse_2 : Int32) (xw2 mw2 : va_W), XW g h0 xtpd_2 tpf_2 yhnf_2 yhtn_2 yhtf_2 yhjn_2 yhjf_2 yhmn_2 yhmf_2 yhbn_2 yhbf_2 yhsn_2 yhsf_2 yhcn_2 yhcf_2 zrn_2 zmn_2 zwn_2 zpn_2 zmd_2 ztr_2 zrf_2 zmf_2 zwf_2 zpf_2 kac_2 knx_2 kim_2 cf_2 xw2 → MW g mo m_taped_2 d_tape_2 d_r_2 d_st_2 d_undone_2 d_kept_2 m_undos_2 m_images_2 m_hasHouse_2 mw2 → LR xtpd_2 tpf_2 yhnf_2 yhtn_2 yhtf_2 yhjn_2 yhjf_2 yhmn_2 yhmf_2 yhbn_2 yhbf_2 yhsn_2 yhsf_2 yhcn_2 yhcf_2 zrn_2 zmn_2 zwn_2 zpn_2 zmd_2 ztr_2 zrf_2 zmf_2 zwf_2 zpf_2 kac_2 knx_2 kim_2 cf_2 m_taped_2 d_tape_2 d_r_2 d_st_2 d_undone_2 d_kept_2 m_undos_2 m_images_2 m_hasHouse_2 → Wk p l e room_1 s m #[Value.ref b] below meth c (lw_Z below #[Value.ref b] s) A g 7 n1 n2 (xw2 ++ (mw2 ++ [(cAJ g lo 1 fo)])) [(4, .int u4), (3, .ref lo), (2, .ref mo), (1, .ref h0), (0, .ref b)] 2062 [] := fun xtpd_2 tpf_2 yhnf_2 yhtn_2 yhtf_2 yhjn_2 yhjf_2 yhmn_2 yhmf_2 yhbn_2 yhbf_2 yhsn_2 yhsf_2 yhcn_2 yhcf_2 zrn_2 zmn_2 zwn_2 zpn_2 zmd_2 ztr_2 zrf_2 zmf_2 zwf_2 zpf_2 kac_2 knx_2 kim_2 cf_2 m_taped_2 d_tape_2 d_r_2 d_st_2 d_undone_2 d_kept_2 m_undos_2 m_images_2 m_hasHouse_2 xw2 mw2 hx2 hm2 hR2 => go n1 n2 fo xtpd_2 tpf_2 yhnf_2 yhtn_2 yhtf_2 yhjn_2 yhjf_2 yhmn_2 yhmf_2 yhbn_2 yhbf_2 yhsn_2 yhsf_2 yhcn_2 yhcf_2 zrn_2 zmn_2 zwn_2 zpn_2 zmd_2 ztr_2 zrf_2 zmf_2 zwf_2 zpf_2 kac_2 knx_2 kim_2 cf_2 m_taped_2 d_tape_2 d_r_2 d_st_2 d_undone_2 d_kept_2 m_undos_2 m_images_2 m_hasHouse_2 xw2 mw2 (by omega) (by omega) hx2 hm2 hR2
  have K52 : ∀ (xtpd_2 : Int32) (tpf_2 : Nat → Int32) (yhnf_2 : Nat → Int32) (yhtn_2 : Int32) (yhtf_2 : Nat → Int32) (yhjn_2 : Int32) (yhjf_2 : Nat → Int32) (yhmn_2 : Int32) (yhmf_2 : Nat → Int32) (yhbn_2 : Int32) (yhbf_2 : Nat → Int32) (yhsn_2 : Int32) (yhsf_2 : Nat → Int32) (yhcn_2 : Int32) (yhcf_2 : Nat → Int32) (zrn_2 : Int32) (zmn_2 : Int32) (zwn_2 : Int32) (zpn_2 : Int32) (zmd_2 : Int32) (ztr_2 : Int32) (zrf_2 : Nat → Int32) (zmf_2 : Nat → Int32) (zwf_2 : Nat → Int32) (zpf_2 : Nat → Int32) (kac_2 : Int32) (knx_2 : Int32) (kim_2 : Int32) (cf_2 : Nat → SC) (m_taped_2 : Int32) (d_tape_2 : Nat → Int32) (d_r_2 : Nat → Int32) (d_st_2 : Nat → Int32) (d_undone_2 : Nat → Int32) (d_kept_2 : Nat → Int32) (m_undos_2 : Int32) (m_images_2 : Int32) (m_hasHouse_2 : Int32) (xw2 mw2 : va_W) (fo2 : Nat → Int64), XW g h0 xtpd_2 tpf_2 yhnf_2 yhtn_2 yhtf_2 yhjn_2 yhjf_2 yhmn_2 yhmf_2 yhbn_2 yhbf_2 yhsn_2 yhsf_2 yhcn_2 yhcf_2 zrn_2 zmn_2 zwn_2 zpn_2 zmd_2 ztr_2 zrf_2 zmf_2 zwf_2 zpf_2 kac_2 knx_2 kim_2 cf_2 xw2 → MW g mo m_taped_2 d_tape_2 d_r_2 d_st_2 d_undone_2 d_kept_2 m_undos_2 m_images_2 m_hasHouse_2 mw2 → LR xtpd_2 tpf_2 yhnf_2 yhtn_2 yhtf_2 yhjn_2 yhjf_2 yhmn_2 yhmf_2 yhbn_2 yhbf_2 yhsn_2 yhsf_2 yhcn_2 yhcf_2 zrn_2 zmn_2 zwn_2 zpn_2 zmd_2 ztr_2 zrf_2 zmf_2 zwf_2 zpf_2 kac_2 knx_2 kim_2 cf_2 m_taped_2 d_tape_2 d_r_2 d_st_2 d_undone_2 d_kept_2 m_undos_2 m_images_2 m_hasHouse_2 → Wk p l e room_1 s m #[Value.ref b] below meth c (lw_Z below #[Value.ref b] s) A g 7 (n1 + 1) (n2 + 6) (xw2 ++ (mw2 ++ [(cAJ g lo 1 fo2)])) [(4, .int u4), (3, .ref lo), (2, .ref mo), (1, .ref h0), (0, .ref b)] 2062 [] := fun xtpd_2 tpf_2 yhnf_2 yhtn_2 yhtf_2 yhjn_2 yhjf_2 yhmn_2 yhmf_2 yhbn_2 yhbf_2 yhsn_2 yhsf_2 yhcn_2 yhcf_2 zrn_2 zmn_2 zwn_2 zpn_2 zmd_2 ztr_2 zrf_2 zmf_2 zwf_2 zpf_2 kac_2 knx_2 kim_2 cf_2 m_taped_2 d_tape_2 d_r_2 d_st_2 d_undone_2 d_kept_2 m_undos_2 m_images_2 m_hasHouse_2 xw2 mw2 fo2 hx2 hm2 hR2 => go (n1 + 1) (n2 + 6) fo2 xtpd_2 tpf_2 yhnf_2 yhtn_2 yhtf_2 yhjn_2 yhjf_2 yhmn_2 yhmf_2 yhbn_2 yhbf_2 yhsn_2 yhsf_2 yhcn_2 yhcf_2 zrn_2 zmn_2 zwn_2 zpn_2 zmd_2 ztr_2 zrf_2 zmf_2 zwf_2 zpf_2 kac_2 knx_2 kim_2 cf_2 m_taped_2 d_tape_2 d_r_2 d_st_2 d_undone_2 d_kept_2 m_undos_2 m_images_2 m_hasHouse_2 xw2 mw2 (by omega) (by omega) hx2 hm2 hR2
  rcases (show j = 0 ∨ j = 1 ∨ j = 2 ∨ j = 3 ∨ j = 4 ∨ j = 5 ∨ j = 6 ∨ j = 7 ∨ j = 8 ∨ j = 9 ∨ j = 10 ∨ j = 11 ∨ j = 12 ∨ j = 13 ∨ j = 14 ∨ j = 15 ∨ j = 16 ∨ j = 17 ∨ j = 18 ∨ j = 19 ∨ j = 20 ∨ j = 21 ∨ j = 22 ∨ j = 23 ∨ j = 24 ∨ j = 25 ∨ j = 26 ∨ j = 27 ∨ j = 28 ∨ j = 29 ∨ j = 30 ∨ j = 31 ∨ j = 32 ∨ j = 33 ∨ j = 34 ∨ j = 35 ∨ j = 36 ∨ j = 37 ∨ j = 38 ∨ j = 39 ∨ j = 40 ∨ j = 41 ∨ j = 42 ∨ j = 43 ∨ j = 44 ∨ j = 45 ∨ j = 46 ∨ j = 47 ∨ j = 48 ∨ j = 49 ∨ j = 50 ∨ j = 51 ∨ j = 52 ∨ j = 53 ∨ j = 54 ∨ 54 < j by omega) with rfl | rfl | rfl | rfl | rfl | rfl | rfl | rfl | rfl | rfl | rfl | rfl | rfl | rfl | rfl | rfl | rfl | rfl | rfl | rfl | rfl | rfl | rfl | rfl | rfl | rfl | rfl | rfl | rfl | rfl | rfl | rfl | rfl | rfl | rfl | rfl | rfl | rfl | rfl | rfl | rfl | rfl | rfl | rfl | rfl | rfl | rfl | rfl | rfl | rfl | rfl | rfl | rfl | rfl | rfl | h54
  · exact k_tableIn 276 X dL_law_40 (by decide) (by decide) rfl (by decide) (law_c0 X hX hbl hbA hi hL h1 h2 hlt hZ htsE hx hm hR K)
  · exact k_tableIn 349 X dL_law_40 (by decide) (by decide) rfl (by decide) (law_c1 X hX hbl hbA hi hL h1 h2 hlt hZ htsE hx hm hR K)
  · exact k_tableIn 374 X dL_law_40 (by decide) (by decide) rfl (by decide) (law_c2 X hX hbl hbA hi hL h1 h2 hlt hZ htsE hx hm hR K)
  · exact k_tableIn 387 X dL_law_40 (by decide) (by decide) rfl (by decide) (law_c3 X hX hbl hbA hi hL h1 h2 hlt hZ htsE hx hm hR K)
  · exact k_tableIn 400 X dL_law_40 (by decide) (by decide) rfl (by decide) (law_c4 X hX hbl hbA hi hL h1 h2 hlt hZ htsE hx hm hR K)
  · exact k_tableIn 437 X dL_law_40 (by decide) (by decide) rfl (by decide) (law_c5 X hX hbl hbA hi hL h1 h2 hlt hZ htsE hx hm hR K)
  · exact k_tableIn 474 X dL_law_40 (by decide) (by decide) rfl (by decide) (law_c6 X hX hbl hbA hi hL h1 h2 hlt hZ htsE hx hm hR K)
  · exact k_tableIn 499 X dL_law_40 (by decide) (by decide) rfl (by decide) (law_c7 X hX hbl hbA hi hL h1 h2 hlt hZ htsE hx hm hR K)
  · exact k_tableIn 524 X dL_law_40 (by decide) (by decide) rfl (by decide) (law_c8 X hX hbl hbA hi hL h1 h2 hlt hZ htsE hx hm hR K)
  · exact k_tableIn 561 X dL_law_40 (by decide) (by decide) rfl (by decide) (law_c9 X hX hbl hbA hi hL h1 h2 hlt hZ htsE hx hm hR K)
  · exact k_tableIn 598 X dL_law_40 (by decide) (by decide) rfl (by decide) (law_c10 X hX hbl hbA hi hL h1 h2 hlt hZ htsE hx hm hR K)
  · exact k_tableIn 635 X dL_law_40 (by decide) (by decide) rfl (by decide) (law_c11 X hX hbl hbA hi hL h1 h2 hlt hZ htsE hx hm hR K)
  · exact k_tableIn 672 X dL_law_40 (by decide) (by decide) rfl (by decide) (law_c12 X hX hbl hbA hi hL h1 h2 hlt hZ htsE hx hm hR K)
  · exact k_tableIn 709 X dL_law_40 (by decide) (by decide) rfl (by decide) (law_c13 X hX hbl hbA hi hL h1 h2 hlt hZ htsE hx hm hR K)
  · exact k_tableIn 746 X dL_law_40 (by decide) (by decide) rfl (by decide) (law_c14 X hX hbl hbA hi hL h1 h2 hlt hZ htsE hx hm hR K)
  · exact k_tableIn 783 X dL_law_40 (by decide) (by decide) rfl (by decide) (law_c15 X hX hbl hbA hi hL h1 h2 hlt hZ htsE hx hm hR K)
  · exact k_tableIn 808 X dL_law_40 (by decide) (by decide) rfl (by decide) (law_c16 X hX hbl hbA hi hL h1 h2 hlt hZ htsE hx hm hR K)
  · exact k_tableIn 845 X dL_law_40 (by decide) (by decide) rfl (by decide) (law_c17 X hX hbl hbA hi hL h1 h2 hlt hZ htsE hx hm hR K)
  · exact k_tableIn 870 X dL_law_40 (by decide) (by decide) rfl (by decide) (law_c18 X hX hbl hbA hi hL h1 h2 hlt hZ htsE hx hm hR K)
  · exact k_tableIn 907 X dL_law_40 (by decide) (by decide) rfl (by decide) (law_c19 X hX hbl hbA hi hL h1 h2 hlt hZ htsE hx hm hR K)
  · exact k_tableIn 932 X dL_law_40 (by decide) (by decide) rfl (by decide) (law_c20 X hX hbl hbA hi hL h1 h2 hlt hZ htsE hx hm hR K)
  · exact k_tableIn 945 X dL_law_40 (by decide) (by decide) rfl (by decide) (law_c21 X hX hbl hbA hi hL h1 h2 hlt hZ htsE hx hm hR K)
  · exact k_tableIn 970 X dL_law_40 (by decide) (by decide) rfl (by decide) (law_c22 X hX hbl hbA hi hL h1 h2 hlt hZ htsE hx hm hR K)
  · exact k_tableIn 995 X dL_law_40 (by decide) (by decide) rfl (by decide) (law_c23 X hX hbl hbA hi hL h1 h2 hlt hZ htsE hx hm hR K)
  · exact k_tableIn 1032 X dL_law_40 (by decide) (by decide) rfl (by decide) (law_c24 X hX hbl hbA hi hL h1 h2 hlt hZ htsE hx hm hR K)
  · exact k_tableIn 1069 X dL_law_40 (by decide) (by decide) rfl (by decide) (law_c25 X hX hbl hbA hi hL h1 h2 hlt hZ htsE hx hm hR K)
  · exact k_tableIn 1094 X dL_law_40 (by decide) (by decide) rfl (by decide) (law_c26 X hX hbl hbA hi hL h1 h2 hlt hZ htsE hx hm hR K)
  · exact k_tableIn 1131 X dL_law_40 (by decide) (by decide) rfl (by decide) (law_c27 X hX hbl hbA hi hL h1 h2 hlt hZ htsE hx hm hR K)
  · exact k_tableIn 1168 X dL_law_40 (by decide) (by decide) rfl (by decide) (law_c28 X hX hbl hbA hi hL h1 h2 hlt hZ htsE hx hm hR K)
  · exact k_tableIn 1193 X dL_law_40 (by decide) (by decide) rfl (by decide) (law_c29 X hX hbl hbA hi hL h1 h2 hlt hZ htsE hx hm hR K)
  · exact k_tableIn 1258 X dL_law_40 (by decide) (by decide) rfl (by decide) (law_c30 X hX hbl hbA hi hL h1 h2 hlt hZ htsE hx hm hR K)
  · exact k_tableIn 1283 X dL_law_40 (by decide) (by decide) rfl (by decide) (law_c31 X hX hbl hbA hi hL h1 h2 hlt hZ htsE hx hm hR K)
  · exact k_tableIn 1308 X dL_law_40 (by decide) (by decide) rfl (by decide) (law_c32 X hX hbl hbA hi hL h1 h2 hlt hZ htsE hx hm hR K)
  · exact k_tableIn 1333 X dL_law_40 (by decide) (by decide) rfl (by decide) (law_c33 X hX hbl hbA hi hL h1 h2 hlt hZ htsE hx hm hR K)
  · exact k_tableIn 1386 X dL_law_40 (by decide) (by decide) rfl (by decide) (law_c34 X hX hbl hbA hi hL h1 h2 hlt hZ htsE hx hm hR K)
  · exact k_tableIn 1411 X dL_law_40 (by decide) (by decide) rfl (by decide) (law_c35 X hX hbl hbA hi hL h1 h2 hlt hZ htsE hx hm hR K)
  · exact k_tableIn 1476 X dL_law_40 (by decide) (by decide) rfl (by decide) (law_c36 X hX hbl hbA hi hL h1 h2 hlt hZ htsE hx hm hR K)
  · exact k_tableIn 1513 X dL_law_40 (by decide) (by decide) rfl (by decide) (law_c37 X hX hbl hbA hi hL h1 h2 hlt hZ htsE hx hm hR K)
  · exact k_tableIn 1578 X dL_law_40 (by decide) (by decide) rfl (by decide) (law_c38 X hX hbl hbA hi hL h1 h2 hlt hZ htsE hx hm hR K)
  · exact k_tableIn 1615 X dL_law_40 (by decide) (by decide) rfl (by decide) (law_c39 X hX hbl hbA hi hL h1 h2 hlt hZ htsE hx hm hR K)
  · exact k_tableIn 1664 X dL_law_40 (by decide) (by decide) rfl (by decide) (law_c40 X hX hbl hbA hi hL h1 h2 hlt hZ htsE hx hm hR K)
  · exact k_tableIn 1689 X dL_law_40 (by decide) (by decide) rfl (by decide) (law_c41 X hX hbl hbA hi hL h1 h2 hlt hZ htsE hx hm hR K)
  · exact k_tableIn 1730 X dL_law_40 (by decide) (by decide) rfl (by decide) (law_c42 X hX hbl hbA hi hL h1 h2 hlt hZ htsE hx hm hR K)
  · exact k_tableIn 1743 X dL_law_40 (by decide) (by decide) rfl (by decide) (law_c43 X hX hbl hbA hi hL h1 h2 hlt hZ htsE hx hm hR K)
  · exact k_tableIn 1756 X dL_law_40 (by decide) (by decide) rfl (by decide) (law_c44 X hX hbl hbA hi hL h1 h2 hlt hZ htsE hx hm hR K)
  · exact k_tableIn 1793 X dL_law_40 (by decide) (by decide) rfl (by decide) (law_c45 X hX hbl hbA hi hL h1 h2 hlt hZ htsE hx hm hR K)
  · exact k_tableIn 1830 X dL_law_40 (by decide) (by decide) rfl (by decide) (law_c46 X hX hbl hbA hi hL h1 h2 hlt hZ htsE hx hm hR K)
  · exact k_tableIn 1867 X dL_law_40 (by decide) (by decide) rfl (by decide) (law_c47 X hX hbl hbA hi hL h1 h2 hlt hZ htsE hx hm hR K)
  · exact k_tableIn 1920 X dL_law_40 (by decide) (by decide) rfl (by decide) (law_c48 X hX hbl hbA hi hL h1 h2 hlt hZ htsE hx hm hR K)
  · exact k_tableIn 1945 X dL_law_40 (by decide) (by decide) rfl (by decide) (law_c49 X hX hbl hbA hi hL h1 h2 hlt hZ htsE hx hm hR K)
  · exact k_tableIn 1958 X dL_law_40 (by decide) (by decide) rfl (by decide) (law_c50 X hX hbl hbA hi hL h1 h2 hlt hZ htsE hx hm hR K)
  · exact k_tableIn 1971 X dL_law_40 (by decide) (by decide) rfl (by decide) (law_c51 X hX hbl hbA hi hL h1 h2 hlt hZ htsE hx hm hR K)
  · exact k_tableIn 1996 X dL_law_40 (by decide) (by decide) rfl (by decide) (law_c52 X hX hbl hbA hi hL h1 h2 hlt hZ htsE hx hm hR K52)
  · exact k_tableIn 2024 X dL_law_40 (by decide) (by decide) rfl (by decide) (law_c53 X hX hbl hbA hi hL h1 h2 hlt hZ htsE hx hm hR K)
  · exact k_tableIn 2049 X dL_law_40 (by decide) (by decide) rfl (by decide) (law_c54 X hX hbl hbA hi hL h1 h2 hlt hZ htsE hx hm hR K)
  · exact k_tableOut 2062 X dL_law_40 (Or.inr (by rw [nI_toInt (by omega)]; omega)) (by decide) (K _ _ _ _ _ _ _ _ _ _ _ _ _ _ _ _ _ _ _ _ _ _ _ _ _ _ _ _ _ _ _ _ _ _ _ _ _ _ _ _ hx hm hR)
