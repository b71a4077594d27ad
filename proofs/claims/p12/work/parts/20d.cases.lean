set_option maxRecDepth 100000
set_option maxHeartbeats 4000000
theorem dL_law_k88 : ((dD cL_law 1730 (.aload_n 1) 1 ∧ (dD cL_law 1731 (.invokevirtual 194) 3 ∧ dD cL_law 1734 .pop 1)) ∧ ((dD cL_law 1735 (.aload_n 2) 1 ∧ dD cL_law 1736 (.invokevirtual 197) 3) ∧ (dD cL_law 1739 .pop 1 ∧ dD cL_law 1740 (.goto 322) 3))) := dkA7 (by decide +kernel)
set_option maxHeartbeats 4000000 in
set_option maxRecDepth 100000 in
theorem law_c42 {p : Program} {l : Launch} {e : Env} {s : State} {m : MethodId} {below : List Frame} {meth : Method} {c : Code} {A : Nat → Prop} {g : Gx} {b L : Nat} {xs : Nat → Int32} {h0 mo lo n1 n2 : Nat} {fo : Nat → Int64} {u4 : Int32} {xtpd : Int32} {tpf : Nat → Int32} {yhnf : Nat → Int32} {yhtn : Int32} {yhtf : Nat → Int32} {yhjn : Int32} {yhjf : Nat → Int32} {yhmn : Int32} {yhmf : Nat → Int32} {yhbn : Int32} {yhbf : Nat → Int32} {yhsn : Int32} {yhsf : Nat → Int32} {yhcn : Int32} {yhcf : Nat → Int32} {zrn : Int32} {zmn : Int32} {zwn : Int32} {zpn : Int32} {zmd : Int32} {ztr : Int32} {zrf : Nat → Int32} {zmf : Nat → Int32} {zwf : Nat → Int32} {zpf : Nat → Int32} {kac : Int32} {knx : Int32} {kim : Int32} {cf : Nat → SC} {m_taped : Int32} {d_tape : Nat → Int32} {d_r : Nat → Int32} {d_st : Nat → Int32} {d_undone : Nat → Int32} {d_kept : Nat → Int32} {m_undos : Int32} {m_images : Int32} {m_hasHouse : Int32} {xw mw : va_W} (X : Cx p s m meth c #[Value.ref b] cL_law 7 RL A g) (hX : va_X b L xs s s.heap) (hbl : b < s.heap.size) (hbA : ¬ A b) (hi : 0 ≤ u4.toInt ∧ u4.toInt + 6 ≤ (L : Int)) (hL : L ≤ 3072) (h1 : n1 ≤ 601023) (h2 : n2 ≤ 7293028) (hlt : l.stackTraces = false) (hZ : kZ A s s.heap) (htsE : ∀ w ∈ wsE, w.before #[Value.ref b] s = true) (hx : XW g h0 xtpd tpf yhnf yhtn yhtf yhjn yhjf yhmn yhmf yhbn yhbf yhsn yhsf yhcn yhcf zrn zmn zwn zpn zmd ztr zrf zmf zwf zpf kac knx kim cf xw) (hm : MW g mo m_taped d_tape d_r d_st d_undone d_kept m_undos m_images m_hasHouse mw) (hR : LR xtpd tpf yhnf yhtn yhtf yhjn yhjf yhmn yhmf yhbn yhbf yhsn yhsf yhcn yhcf zrn zmn zwn zpn zmd ztr zrf zmf zwf zpf kac knx kim cf m_taped d_tape d_r d_st d_undone d_kept m_undos m_images m_hasHouse) (kk : ∀ (xtpd_2 : Int32) (tpf_2 : Nat → Int32) (yhnf_2 : Nat → Int32) (yhtn_2 : Int32) (yhtf_2 : Nat → Int32) (yhjn_2 : Int32) (yhjf_2 : Nat → Int32) (yhmn_2 : Int32) (yhmf_2 : Nat → Int32) (yhbn_2 : Int32) (yhbf_2 : Nat → Int32) (yhsn_2 : Int32) (yhsf_2 : Nat → Int32) (yhcn_2 : Int32) (yhcf_2 : Nat → Int32) (zrn_2 : Int32) (zmn_2 : Int32) (zwn_2 : Int32) (zpn_2 : Int32) (zmd_2 : Int32) (ztr_2 : Int32) (zrf_2 : Nat → Int32) (zmf_2 : Nat → Int32) (zwf_2 : Nat → Int32) (zpf_2 : Nat → Int32) (kac_2 : Int32) (knx_2 : Int32) (kim_2 : Int32) (cf_2 : Nat → SC) (m_taped_2 : Int32) (d_tape_2 : Nat → Int32) (d_r_2 : Nat → Int32) (d_st_2 : Nat → Int32) (d_undone_2 : Nat → Int32) (d_kept_2 : Nat → Int32) (m_undos_2 : Int32) (m_images_2 : Int32) (m_hasHouse_2 : Int32) (xw2 mw2 : va_W), XW g h0 xtpd_2 tpf_2 yhnf_2 yhtn_2 yhtf_2 yhjn_2 yhjf_2 yhmn_2 yhmf_2 yhbn_2 yhbf_2 yhsn_2 yhsf_2 yhcn_2 yhcf_2 zrn_2 zmn_2 zwn_2 zpn_2 zmd_2 ztr_2 zrf_2 zmf_2 zwf_2 zpf_2 kac_2 knx_2 kim_2 cf_2 xw2 → MW g mo m_taped_2 d_tape_2 d_r_2 d_st_2 d_undone_2 d_kept_2 m_undos_2 m_images_2 m_hasHouse_2 mw2 → LR xtpd_2 tpf_2 yhnf_2 yhtn_2 yhtf_2 yhjn_2 yhjf_2 yhmn_2 yhmf_2 yhbn_2 yhbf_2 yhsn_2 yhsf_2 yhcn_2 yhcf_2 zrn_2 zmn_2 zwn_2 zpn_2 zmd_2 ztr_2 zrf_2 zmf_2 zwf_2 zpf_2 kac_2 knx_2 kim_2 cf_2 m_taped_2 d_tape_2 d_r_2 d_st_2 d_undone_2 d_kept_2 m_undos_2 m_images_2 m_hasHouse_2 → Wk p l e room_1 s m #[Value.ref b] below meth c (lw_Z below #[Value.ref b] s) A g 7 n1 n2 (xw2 ++ (mw2 ++ [(cAJ g lo 1 fo)])) [(4, .int u4), (3, .ref lo), (2, .ref mo), (1, .ref h0), (0, .ref b)] 2062 []) : Wk p l e room_1 s m #[Value.ref b] below meth c (lw_Z below #[Value.ref b] s) A g 7 n1 n2 (xw ++ (mw ++ [(cAJ g lo 1 fo)])) [(4, .int u4), (3, .ref lo), (2, .ref mo), (1, .ref h0), (0, .ref b)] 1730 [] := by
  have hiv : IV u4 0 3066 := ⟨hi.1, by omega⟩
  refine k_aload_n X dL_law_k88.1.1 3 rfl ?_
  refine lx_wrong (st := []) () X hx dL_law_k88.1.2.1 mw1352 (Nat.le_of_ble_eq_true rfl) (Nat.le_of_ble_eq_true rfl) (Nat.le_of_ble_eq_true rfl) (Nat.le_trans h1 (Nat.le_of_ble_eq_true rfl)) (Nat.le_trans h2 (Nat.le_of_ble_eq_true rfl)) (fun r_1 xw_2 hx_3 => ?_)
  refine k_pop X dL_law_k88.1.2.2 rfl ?_
  refine k_aload_n X dL_law_k88.2.1.1 2 rfl ?_
  refine lm_wrong (st := []) () X hm dL_law_k88.2.1.2 mw1363 (Nat.le_of_ble_eq_true rfl) (Nat.le_of_ble_eq_true rfl) (Nat.le_of_ble_eq_true rfl) (Nat.le_trans h1 (Nat.le_of_ble_eq_true rfl)) (Nat.le_trans h2 (Nat.le_of_ble_eq_true rfl)) (fun r_4 mw_5 hm_6 => ?_)
  refine k_pop X dL_law_k88.2.2.1 rfl ?_
  refine k_goto 2062 X dL_law_k88.2.2.2 (jp_e rfl) ?_
  exact kk _ _ _ _ _ _ _ _ _ _ _ _ _ _ _ _ _ _ _ _ _ _ _ _ _ _ _ _ _ _ _ _ _ _ _ _ _ _ _ _ hx_3 hm_6 hR

theorem dL_law_k89 : ((dD cL_law 1743 (.aload_n 1) 1 ∧ (dD cL_law 1744 (.invokevirtual 198) 3 ∧ dD cL_law 1747 .pop 1)) ∧ ((dD cL_law 1748 (.aload_n 2) 1 ∧ dD cL_law 1749 (.invokevirtual 201) 3) ∧ (dD cL_law 1752 .pop 1 ∧ dD cL_law 1753 (.goto 309) 3))) := dkA7 (by decide +kernel)
set_option maxHeartbeats 4000000 in
set_option maxRecDepth 100000 in
theorem law_c43 {p : Program} {l : Launch} {e : Env} {s : State} {m : MethodId} {below : List Frame} {meth : Method} {c : Code} {A : Nat → Prop} {g : Gx} {b L : Nat} {xs : Nat → Int32} {h0 mo lo n1 n2 : Nat} {fo : Nat → Int64} {u4 : Int32} {xtpd : Int32} {tpf : Nat → Int32} {yhnf : Nat → Int32} {yhtn : Int32} {yhtf : Nat → Int32} {yhjn : Int32} {yhjf : Nat → Int32} {yhmn : Int32} {yhmf : Nat → Int32} {yhbn : Int32} {yhbf : Nat → Int32} {yhsn : Int32} {yhsf : Nat → Int32} {yhcn : Int32} {yhcf : Nat → Int32} {zrn : Int32} {zmn : Int32} {zwn : Int32} {zpn : Int32} {zmd : Int32} {ztr : Int32} {zrf : Nat → Int32} {zmf : Nat → Int32} {zwf : Nat → Int32} {zpf : Nat → Int32} {kac : Int32} {knx : Int32} {kim : Int32} {cf : Nat → SC} {m_taped : Int32} {d_tape : Nat → Int32} {d_r : Nat → Int32} {d_st : Nat → Int32} {d_undone : Nat → Int32} {d_kept : Nat → Int32} {m_undos : Int32} {m_images : Int32} {m_hasHouse : Int32} {xw mw : va_W} (X : Cx p s m meth c #[Value.ref b] cL_law 7 RL A g) (hX : va_X b L xs s s.heap) (hbl : b < s.heap.size) (hbA : ¬ A b) (hi : 0 ≤ u4.toInt ∧ u4.toInt + 6 ≤ (L : Int)) (hL : L ≤ 3072) (h1 : n1 ≤ 601023) (h2 : n2 ≤ 7293028) (hlt : l.stackTraces = false) (hZ : kZ A s s.heap) (htsE : ∀ w ∈ wsE, w.before #[Value.ref b] s = true) (hx : XW g h0 xtpd tpf yhnf yhtn yhtf yhjn yhjf yhmn yhmf yhbn yhbf yhsn yhsf yhcn yhcf zrn zmn zwn zpn zmd ztr zrf zmf zwf zpf kac knx kim cf xw) (hm : MW g mo m_taped d_tape d_r d_st d_undone d_kept m_undos m_images m_hasHouse mw) (hR : LR xtpd tpf yhnf yhtn yhtf yhjn yhjf yhmn yhmf yhbn yhbf yhsn yhsf yhcn yhcf zrn zmn zwn zpn zmd ztr zrf zmf zwf zpf kac knx kim cf m_taped d_tape d_r d_st d_undone d_kept m_undos m_images m_hasHouse) (kk : ∀ (xtpd_2 : Int32) (tpf_2 : Nat → Int32) (yhnf_2 : Nat → Int32) (yhtn_2 : Int32) (yhtf_2 : Nat → Int32) (yhjn_2 : Int32) (yhjf_2 : Nat → Int32) (yhmn_2 : Int32) (yhmf_2 : Nat → Int32) (yhbn_2 : Int32) (yhbf_2 : Nat → Int32) (yhsn_2 : Int32) (yhsf_2 : Nat → Int32) (yhcn_2 : Int32) (yhcf_2 : Nat → Int32) (zrn_2 : Int32) (zmn_2 : Int32) (zwn_2 : Int32) (zpn_2 : Int32) (zmd_2 : Int32) (ztr_2 : Int32) (zrf_2 : Nat → Int32) (zmf_2 : Nat → Int32) (zwf_2 : Nat → Int32) (zpf_2 : Nat → Int32) (kac_2 : Int32) (knx_2 : Int32) (kim_2 : Int32) (cf_2 : Nat → SC) (m_taped_2 : Int32) (d_tape_2 : Nat → Int32) (d_r_2 : Nat → Int32) (d_st_2 : Nat → Int32) (d_undone_2 : Nat → Int32) (d_kept_2 : Nat → Int32) (m_undos_2 : Int32) (m_images_2 : Int32) (m_hasHouse_2 : Int32) (xw2 mw2 : va_W), XW g h0 xtpd_2 tpf_2 yhnf_2 yhtn_2 yhtf_2 yhjn_2 yhjf_2 yhmn_2 yhmf_2 yhbn_2 yhbf_2 yhsn_2 yhsf_2 yhcn_2 yhcf_2 zrn_2 zmn_2 zwn_2 zpn_2 zmd_2 ztr_2 zrf_2 zmf_2 zwf_2 zpf_2 kac_2 knx_2 kim_2 cf_2 xw2 → MW g mo m_taped_2 d_tape_2 d_r_2 d_st_2 d_undone_2 d_kept_2 m_undos_2 m_images_2 m_hasHouse_2 mw2 → LR xtpd_2 tpf_2 yhnf_2 yhtn_2 yhtf_2 yhjn_2 yhjf_2 yhmn_2 yhmf_2 yhbn_2 yhbf_2 yhsn_2 yhsf_2 yhcn_2 yhcf_2 zrn_2 zmn_2 zwn_2 zpn_2 zmd_2 ztr_2 zrf_2 zmf_2 zwf_2 zpf_2 kac_2 knx_2 kim_2 cf_2 m_taped_2 d_tape_2 d_r_2 d_st_2 d_undone_2 d_kept_2 m_undos_2 m_images_2 m_hasHouse_2 → Wk p l e room_1 s m #[Value.ref b] below meth c (lw_Z below #[Value.ref b] s) A g 7 n1 n2 (xw2 ++ (mw2 ++ [(cAJ g lo 1 fo)])) [(4, .int u4), (3, .ref lo), (2, .ref mo), (1, .ref h0), (0, .ref b)] 2062 []) : Wk p l e room_1 s m #[Value.ref b] below meth c (lw_Z below #[Value.ref b] s) A g 7 n1 n2 (xw ++ (mw ++ [(cAJ g lo 1 fo)])) [(4, .int u4), (3, .ref lo), (2, .ref mo), (1, .ref h0), (0, .ref b)] 1743 [] := by
  have hiv : IV u4 0 3066 := ⟨hi.1, by omega⟩
  refine k_aload_n X dL_law_k89.1.1 3 rfl ?_
  refine lx_exchanges (st := []) () X hx dL_law_k89.1.2.1 mw1367 (Nat.le_of_ble_eq_true rfl) (Nat.le_of_ble_eq_true rfl) (Nat.le_of_ble_eq_true rfl) (Nat.le_trans h1 (Nat.le_of_ble_eq_true rfl)) (Nat.le_trans h2 (Nat.le_of_ble_eq_true rfl)) (fun r_1 xw_2 hx_3 => ?_)
  refine k_pop X dL_law_k89.1.2.2 rfl ?_
  refine k_aload_n X dL_law_k89.2.1.1 2 rfl ?_
  refine lm_exchanges (st := []) () X hm dL_law_k89.2.1.2 mw1394 (Nat.le_of_ble_eq_true rfl) (Nat.le_of_ble_eq_true rfl) (Nat.le_of_ble_eq_true rfl) (Nat.le_trans h1 (Nat.le_of_ble_eq_true rfl)) (Nat.le_trans h2 (Nat.le_of_ble_eq_true rfl)) (fun r_4 mw_5 hm_6 => ?_)
  refine k_pop X dL_law_k89.2.2.1 rfl ?_
  refine k_goto 2062 X dL_law_k89.2.2.2 (jp_e rfl) ?_
  exact kk _ _ _ _ _ _ _ _ _ _ _ _ _ _ _ _ _ _ _ _ _ _ _ _ _ _ _ _ _ _ _ _ _ _ _ _ _ _ _ _ hx_3 hm_6 hR

theorem dL_law_k90 : ((((dD cL_law 1756 (.aload_n 1) 1 ∧ dD cL_law 1757 (.aload_n 0) 1) ∧ (dD cL_law 1758 (.iload 4) 2 ∧ dD cL_law 1760 (.iconst 1) 1)) ∧ ((dD cL_law 1761 .iadd 1 ∧ dD cL_law 1762 .iaload 1) ∧ (dD cL_law 1763 (.aload_n 0) 1 ∧ dD cL_law 1764 (.iload 4) 2))) ∧ (((dD cL_law 1766 (.iconst 2) 1 ∧ dD cL_law 1767 .iadd 1) ∧ (dD cL_law 1768 .iaload 1 ∧ dD cL_law 1769 (.invokevirtual 202) 3)) ∧ ((dD cL_law 1772 .pop 1 ∧ dD cL_law 1773 (.aload_n 2) 1) ∧ (dD cL_law 1774 (.aload_n 0) 1 ∧ dD cL_law 1775 (.iload 4) 2)))) := dkA16 (by decide +kernel)
theorem dL_law_k91 : (((dD cL_law 1777 (.iconst 1) 1 ∧ dD cL_law 1778 .iadd 1) ∧ (dD cL_law 1779 .iaload 1 ∧ (dD cL_law 1780 (.aload_n 0) 1 ∧ dD cL_law 1781 (.iload 4) 2))) ∧ ((dD cL_law 1783 (.iconst 2) 1 ∧ (dD cL_law 1784 .iadd 1 ∧ dD cL_law 1785 .iaload 1)) ∧ (dD cL_law 1786 (.invokevirtual 205) 3 ∧ (dD cL_law 1789 .pop 1 ∧ dD cL_law 1790 (.goto 272) 3)))) := dkA11 (by decide +kernel)
set_option maxHeartbeats 4000000 in
set_option maxRecDepth 100000 in
theorem law_c44 {p : Program} {l : Launch} {e : Env} {s : State} {m : MethodId} {below : List Frame} {meth : Method} {c : Code} {A : Nat → Prop} {g : Gx} {b L : Nat} {xs : Nat → Int32} {h0 mo lo n1 n2 : Nat} {fo : Nat → Int64} {u4 : Int32} {xtpd : Int32} {tpf : Nat → Int32} {yhnf : Nat → Int32} {yhtn : Int32} {yhtf : Nat → Int32} {yhjn : Int32} {yhjf : Nat → Int32} {yhmn : Int32} {yhmf : Nat → Int32} {yhbn : Int32} {yhbf : Nat → Int32} {yhsn : Int32} {yhsf : Nat → Int32} {yhcn : Int32} {yhcf : Nat → Int32} {zrn : Int32} {zmn : Int32} {zwn : Int32} {zpn : Int32} {zmd : Int32} {ztr : Int32} {zrf : Nat → Int32} {zmf : Nat → Int32} {zwf : Nat → Int32} {zpf : Nat → Int32} {kac : Int32} {knx : Int32} {kim : Int32} {cf : Nat → SC} {m_taped : Int32} {d_tape : Nat → Int32} {d_r : Nat → Int32} {d_st : Nat → Int32} {d_undone : Nat → Int32} {d_kept : Nat → Int32} {m_undos : Int32} {m_images : Int32} {m_hasHouse : Int32} {xw mw : va_W} (X : Cx p s m meth c #[Value.ref b] cL_law 7 RL A g) (hX : va_X b L xs s s.heap) (hbl : b < s.heap.size) (hbA : ¬ A b) (hi : 0 ≤ u4.toInt ∧ u4.toInt + 6 ≤ (L : Int)) (hL : L ≤ 3072) (h1 : n1 ≤ 601023) (h2 : n2 ≤ 7293028) (hlt : l.stackTraces = false) (hZ : kZ A s s.heap) (htsE : ∀ w ∈ wsE, w.before #[Value.ref b] s = true) (hx : XW g h0 xtpd tpf yhnf yhtn yhtf yhjn yhjf yhmn yhmf yhbn yhbf yhsn yhsf yhcn yhcf zrn zmn zwn zpn zmd ztr zrf zmf zwf zpf kac knx kim cf xw) (hm : MW g mo m_taped d_tape d_r d_st d_undone d_kept m_undos m_images m_hasHouse mw) (hR : LR xtpd tpf yhnf yhtn yhtf yhjn yhjf yhmn yhmf yhbn yhbf yhsn yhsf yhcn yhcf zrn zmn zwn zpn zmd ztr zrf zmf zwf zpf kac knx kim cf m_taped d_tape d_r d_st d_undone d_kept m_undos m_images m_hasHouse) (kk : ∀ (xtpd_2 : Int32) (tpf_2 : Nat → Int32) (yhnf_2 : Nat → Int32) (yhtn_2 : Int32) (yhtf_2 : Nat → Int32) (yhjn_2 : Int32) (yhjf_2 : Nat → Int32) (yhmn_2 : Int32) (yhmf_2 : Nat → Int32) (yhbn_2 : Int32) (yhbf_2 : Nat → Int32) (yhsn_2 : Int32) (yhsf_2 : Nat → Int32) (yhcn_2 : Int32) (yhcf_2 : Nat → Int32) (zrn_2 : Int32) (zmn_2 : Int32) (zwn_2 : Int32) (zpn_2 : Int32) (zmd_2 : Int32) (ztr_2 : Int32) (zrf_2 : Nat → Int32) (zmf_2 : Nat → Int32) (zwf_2 : Nat → Int32) (zpf_2 : Nat → Int32) (kac_2 : Int32) (knx_2 : Int32) (kim_2 : Int32) (cf_2 : Nat → SC) (m_taped_2 : Int32) (d_tape_2 : Nat → Int32) (d_r_2 : Nat → Int32) (d_st_2 : Nat → Int32) (d_undone_2 : Nat → Int32) (d_kept_2 : Nat → Int32) (m_undos_2 : Int32) (m_images_2 : Int32) (m_hasHouse_2 : Int32) (xw2 mw2 : va_W), XW g h0 xtpd_2 tpf_2 yhnf_2 yhtn_2 yhtf_2 yhjn_2 yhjf_2 yhmn_2 yhmf_2 yhbn_2 yhbf_2 yhsn_2 yhsf_2 yhcn_2 yhcf_2 zrn_2 zmn_2 zwn_2 zpn_2 zmd_2 ztr_2 zrf_2 zmf_2 zwf_2 zpf_2 kac_2 knx_2 kim_2 cf_2 xw2 → MW g mo m_taped_2 d_tape_2 d_r_2 d_st_2 d_undone_2 d_kept_2 m_undos_2 m_images_2 m_hasHouse_2 mw2 → LR xtpd_2 tpf_2 yhnf_2 yhtn_2 yhtf_2 yhjn_2 yhjf_2 yhmn_2 yhmf_2 yhbn_2 yhbf_2 yhsn_2 yhsf_2 yhcn_2 yhcf_2 zrn_2 zmn_2 zwn_2 zpn_2 zmd_2 ztr_2 zrf_2 zmf_2 zwf_2 zpf_2 kac_2 knx_2 kim_2 cf_2 m_taped_2 d_tape_2 d_r_2 d_st_2 d_undone_2 d_kept_2 m_undos_2 m_images_2 m_hasHouse_2 → Wk p l e room_1 s m #[Value.ref b] below meth c (lw_Z below #[Value.ref b] s) A g 7 n1 n2 (xw2 ++ (mw2 ++ [(cAJ g lo 1 fo)])) [(4, .int u4), (3, .ref lo), (2, .ref mo), (1, .ref h0), (0, .ref b)] 2062 []) : Wk p l e room_1 s m #[Value.ref b] below meth c (lw_Z below #[Value.ref b] s) A g 7 n1 n2 (xw ++ (mw ++ [(cAJ g lo 1 fo)])) [(4, .int u4), (3, .ref lo), (2, .ref mo), (1, .ref h0), (0, .ref b)] 1756 [] := by
  have hiv : IV u4 0 3066 := ⟨hi.1, by omega⟩
  refine k_aload_n X dL_law_k90.1.1.1.1 3 rfl ?_
  refine k_aload_n X dL_law_k90.1.1.1.2 4 rfl ?_
  refine k_iload X dL_law_k90.1.1.2.1 0 rfl ?_
  refine k_iconst (v := 1) X dL_law_k90.1.1.2.2 ic_1 ?_
  refine k_iadd X dL_law_k90.1.2.1.1 ?_
  refine k_nm (fun z_1 ez_1 => ?_)
  have i_2 : z_1.toInt = u4.toInt + 1 := in_add ez_1 hiv iq_1_1_1 (zle_e rfl) (zle_e rfl)
  have iv_3 : IV z_1 1 3067 := by have := hiv; have := iq_1_1_1; rw [IV, i_2]; omega
  refine k_sld X hX hbl hbA dL_law_k90.1.2.1.2 (by rw [vp_in_iff]; have := iv_3; omega) ?_
  refine k_nm (fun a_4 ea_4 => ?_)
  refine k_aload_n X dL_law_k90.1.2.2.1 4 rfl ?_
  refine k_iload X dL_law_k90.1.2.2.2 0 rfl ?_
  refine k_iconst (v := 2) X dL_law_k90.2.1.1.1 ic_2 ?_
  refine k_iadd X dL_law_k90.2.1.1.2 ?_
  refine k_nm (fun z_5 ez_5 => ?_)
  have i_6 : z_5.toInt = u4.toInt + 2 := in_add ez_5 hiv iq_2_2_2 (zle_e rfl) (zle_e rfl)
  have iv_7 : IV z_5 2 3068 := by have := hiv; have := iq_2_2_2; rw [IV, i_6]; omega
  refine k_sld X hX hbl hbA dL_law_k90.2.1.2.1 (by rw [vp_in_iff]; have := iv_7; omega) ?_
  refine k_nm (fun a_8 ea_8 => ?_)
  refine lx_dark (st := []) a_4 a_8 X hx dL_law_k90.2.1.2.2 mw1406 (Nat.le_of_ble_eq_true rfl) (Nat.le_of_ble_eq_true rfl) (Nat.le_of_ble_eq_true rfl) (Nat.le_trans h1 (Nat.le_of_ble_eq_true rfl)) (Nat.le_trans h2 (Nat.le_of_ble_eq_true rfl)) (fun r_9 xw_10 hx_11 => ?_)
  refine k_pop X dL_law_k90.2.2.1.1 rfl ?_
  refine k_aload_n X dL_law_k90.2.2.1.2 2 rfl ?_
  refine k_aload_n X dL_law_k90.2.2.2.1 4 rfl ?_
  refine k_iload X dL_law_k90.2.2.2.2 0 rfl ?_
  refine k_iconst (v := 1) X dL_law_k91.1.1.1 ic_1 ?_
  refine k_iadd X dL_law_k91.1.1.2 ?_
  refine k_to z_1 ez_1.symm ?_
  refine k_sld X hX hbl hbA dL_law_k91.1.2.1 (by rw [vp_in_iff]; have := iv_3; omega) ?_
  refine k_to a_4 ea_4.symm ?_
  refine k_aload_n X dL_law_k91.1.2.2.1 4 rfl ?_
  refine k_iload X dL_law_k91.1.2.2.2 0 rfl ?_
  refine k_iconst (v := 2) X dL_law_k91.2.1.1 ic_2 ?_
  refine k_iadd X dL_law_k91.2.1.2.1 ?_
  refine k_to z_5 ez_5.symm ?_
  refine k_sld X hX hbl hbA dL_law_k91.2.1.2.2 (by rw [vp_in_iff]; have := iv_7; omega) ?_
  refine k_to a_8 ea_8.symm ?_
  refine lm_dark (st := []) a_4 a_8 X hm dL_law_k91.2.2.1 mw1416 (Nat.le_of_ble_eq_true rfl) (Nat.le_of_ble_eq_true rfl) (Nat.le_of_ble_eq_true rfl) (Nat.le_trans h1 (Nat.le_of_ble_eq_true rfl)) (Nat.le_trans h2 (Nat.le_of_ble_eq_true rfl)) (fun r_12 mw_13 hm_14 => ?_)
  refine k_pop X dL_law_k91.2.2.2.1 rfl ?_
  refine k_goto 2062 X dL_law_k91.2.2.2.2 (jp_e rfl) ?_
  exact kk _ _ _ _ _ _ _ _ _ _ _ _ _ _ _ _ _ _ _ _ _ _ _ _ _ _ _ _ _ _ _ _ _ _ _ _ _ _ _ _ hx_11 hm_14 hR

theorem dL_law_k92 : ((((dD cL_law 1793 (.aload_n 1) 1 ∧ dD cL_law 1794 (.aload_n 0) 1) ∧ (dD cL_law 1795 (.iload 4) 2 ∧ dD cL_law 1797 (.iconst 1) 1)) ∧ ((dD cL_law 1798 .iadd 1 ∧ dD cL_law 1799 .iaload 1) ∧ (dD cL_law 1800 (.aload_n 0) 1 ∧ dD cL_law 1801 (.iload 4) 2))) ∧ (((dD cL_law 1803 (.iconst 2) 1 ∧ dD cL_law 1804 .iadd 1) ∧ (dD cL_law 1805 .iaload 1 ∧ dD cL_law 1806 (.invokevirtual 206) 3)) ∧ ((dD cL_law 1809 .pop 1 ∧ dD cL_law 1810 (.aload_n 2) 1) ∧ (dD cL_law 1811 (.aload_n 0) 1 ∧ dD cL_law 1812 (.iload 4) 2)))) := dkA16 (by decide +kernel)
theorem dL_law_k93 : (((dD cL_law 1814 (.iconst 1) 1 ∧ dD cL_law 1815 .iadd 1) ∧ (dD cL_law 1816 .iaload 1 ∧ (dD cL_law 1817 (.aload_n 0) 1 ∧ dD cL_law 1818 (.iload 4) 2))) ∧ ((dD cL_law 1820 (.iconst 2) 1 ∧ (dD cL_law 1821 .iadd 1 ∧ dD cL_law 1822 .iaload 1)) ∧ (dD cL_law 1823 (.invokevirtual 209) 3 ∧ (dD cL_law 1826 .pop 1 ∧ dD cL_law 1827 (.goto 235) 3)))) := dkA11 (by decide +kernel)
set_option maxHeartbeats 4000000 in
set_option maxRecDepth 100000 in
theorem law_c45 {p : Program} {l : Launch} {e : Env} {s : State} {m : MethodId} {below : List Frame} {meth : Method} {c : Code} {A : Nat → Prop} {g : Gx} {b L : Nat} {xs : Nat → Int32} {h0 mo lo n1 n2 : Nat} {fo : Nat → Int64} {u4 : Int32} {xtpd : Int32} {tpf : Nat → Int32} {yhnf : Nat → Int32} {yhtn : Int32} {yhtf : Nat → Int32} {yhjn : Int32} {yhjf : Nat → Int32} {yhmn : Int32} {yhmf : Nat → Int32} {yhbn : Int32} {yhbf : Nat → Int32} {yhsn : Int32} {yhsf : Nat → Int32} {yhcn : Int32} {yhcf : Nat → Int32} {zrn : Int32} {zmn : Int32} {zwn : Int32} {zpn : Int32} {zmd : Int32} {ztr : Int32} {zrf : Nat → Int32} {zmf : Nat → Int32} {zwf : Nat → Int32} {zpf : Nat → Int32} {kac : Int32} {knx : Int32} {kim : Int32} {cf : Nat → SC} {m_taped : Int32} {d_tape : Nat → Int32} {d_r : Nat → Int32} {d_st : Nat → Int32} {d_undone : Nat → Int32} {d_kept : Nat → Int32} {m_undos : Int32} {m_images : Int32} {m_hasHouse : Int32} {xw mw : va_W} (X : Cx p s m meth c #[Value.ref b] cL_law 7 RL A g) (hX : va_X b L xs s s.heap) (hbl : b < s.heap.size) (hbA : ¬ A b) (hi : 0 ≤ u4.toInt ∧ u4.toInt + 6 ≤ (L : Int)) (hL : L ≤ 3072) (h1 : n1 ≤ 601023) (h2 : n2 ≤ 7293028) (hlt : l.stackTraces = false) (hZ : kZ A s s.heap) (htsE : ∀ w ∈ wsE, w.before #[Value.ref b] s = true) (hx : XW g h0 xtpd tpf yhnf yhtn yhtf yhjn yhjf yhmn yhmf yhbn yhbf yhsn yhsf yhcn yhcf zrn zmn zwn zpn zmd ztr zrf zmf zwf zpf kac knx kim cf xw) (hm : MW g mo m_taped d_tape d_r d_st d_undone d_kept m_undos m_images m_hasHouse mw) (hR : LR xtpd tpf yhnf yhtn yhtf yhjn yhjf yhmn yhmf yhbn yhbf yhsn yhsf yhcn yhcf zrn zmn zwn zpn zmd ztr zrf zmf zwf zpf kac knx kim cf m_taped d_tape d_r d_st d_undone d_kept m_undos m_images m_hasHouse) (kk : ∀ (xtpd_2 : Int32) (tpf_2 : Nat → Int32) (yhnf_2 : Nat → Int32) (yhtn_2 : Int32) (yhtf_2 : Nat → Int32) (yhjn_2 : Int32) (yhjf_2 : Nat → Int32) (yhmn_2 : Int32) (yhmf_2 : Nat → Int32) (yhbn_2 : Int32) (yhbf_2 : Nat → Int32) (yhsn_2 : Int32) (yhsf_2 : Nat → Int32) (yhcn_2 : Int32) (yhcf_2 : Nat → Int32) (zrn_2 : Int32) (zmn_2 : Int32) (zwn_2 : Int32) (zpn_2 : Int32) (zmd_2 : Int32) (ztr_2 : Int32) (zrf_2 : Nat → Int32) (zmf_2 : Nat → Int32) (zwf_2 : Nat → Int32) (zpf_2 : Nat → Int32) (kac_2 : Int32) (knx_2 : Int32) (kim_2 : Int32) (cf_2 : Nat → SC) (m_taped_2 : Int32) (d_tape_2 : Nat → Int32) (d_r_2 : Nat → Int32) (d_st_2 : Nat → Int32) (d_undone_2 : Nat → Int32) (d_kept_2 : Nat → Int32) (m_undos_2 : Int32) (m_images_2 : Int32) (m_hasHouse_2 : Int32) (xw2 mw2 : va_W), XW g h0 xtpd_2 tpf_2 yhnf_2 yhtn_2 yhtf_2 yhjn_2 yhjf_2 yhmn_2 yhmf_2 yhbn_2 yhbf_2 yhsn_2 yhsf_2 yhcn_2 yhcf_2 zrn_2 zmn_2 zwn_2 zpn_2 zmd_2 ztr_2 zrf_2 zmf_2 zwf_2 zpf_2 kac_2 knx_2 kim_2 cf_2 xw2 → MW g mo m_taped_2 d_tape_2 d_r_2 d_st_2 d_undone_2 d_kept_2 m_undos_2 m_images_2 m_hasHouse_2 mw2 → LR xtpd_2 tpf_2 yhnf_2 yhtn_2 yhtf_2 yhjn_2 yhjf_2 yhmn_2 yhmf_2 yhbn_2 yhbf_2 yhsn_2 yhsf_2 yhcn_2 yhcf_2 zrn_2 zmn_2 zwn_2 zpn_2 zmd_2 ztr_2 zrf_2 zmf_2 zwf_2 zpf_2 kac_2 knx_2 kim_2 cf_2 m_taped_2 d_tape_2 d_r_2 d_st_2 d_undone_2 d_kept_2 m_undos_2 m_images_2 m_hasHouse_2 → Wk p l e room_1 s m #[Value.ref b] below meth c (lw_Z below #[Value.ref b] s) A g 7 n1 n2 (xw2 ++ (mw2 ++ [(cAJ g lo 1 fo)])) [(4, .int u4), (3, .ref lo), (2, .ref mo), (1, .ref h0), (0, .ref b)] 2062 []) : Wk p l e room_1 s m #[Value.ref b] below meth c (lw_Z below #[Value.ref b] s) A g 7 n1 n2 (xw ++ (mw ++ [(cAJ g lo 1 fo)])) [(4, .int u4), (3, .ref lo), (2, .ref mo), (1, .ref h0), (0, .ref b)] 1793 [] := by
  have hiv : IV u4 0 3066 := ⟨hi.1, by omega⟩
  refine k_aload_n X dL_law_k92.1.1.1.1 3 rfl ?_
  refine k_aload_n X dL_law_k92.1.1.1.2 4 rfl ?_
  refine k_iload X dL_law_k92.1.1.2.1 0 rfl ?_
  refine k_iconst (v := 1) X dL_law_k92.1.1.2.2 ic_1 ?_
  refine k_iadd X dL_law_k92.1.2.1.1 ?_
  refine k_nm (fun z_1 ez_1 => ?_)
  have i_2 : z_1.toInt = u4.toInt + 1 := in_add ez_1 hiv iq_1_1_1 (zle_e rfl) (zle_e rfl)
  have iv_3 : IV z_1 1 3067 := by have := hiv; have := iq_1_1_1; rw [IV, i_2]; omega
  refine k_sld X hX hbl hbA dL_law_k92.1.2.1.2 (by rw [vp_in_iff]; have := iv_3; omega) ?_
  refine k_nm (fun a_4 ea_4 => ?_)
  refine k_aload_n X dL_law_k92.1.2.2.1 4 rfl ?_
  refine k_iload X dL_law_k92.1.2.2.2 0 rfl ?_
  refine k_iconst (v := 2) X dL_law_k92.2.1.1.1 ic_2 ?_
  refine k_iadd X dL_law_k92.2.1.1.2 ?_
  refine k_nm (fun z_5 ez_5 => ?_)
  have i_6 : z_5.toInt = u4.toInt + 2 := in_add ez_5 hiv iq_2_2_2 (zle_e rfl) (zle_e rfl)
  have iv_7 : IV z_5 2 3068 := by have := hiv; have := iq_2_2_2; rw [IV, i_6]; omega
  refine k_sld X hX hbl hbA dL_law_k92.2.1.2.1 (by rw [vp_in_iff]; have := iv_7; omega) ?_
  refine k_nm (fun a_8 ea_8 => ?_)
  refine lx_bestMan (st := []) a_4 a_8 X hx dL_law_k92.2.1.2.2 mw1432 (Nat.le_of_ble_eq_true rfl) (Nat.le_of_ble_eq_true rfl) (Nat.le_of_ble_eq_true rfl) (Nat.le_trans h1 (Nat.le_of_ble_eq_true rfl)) (Nat.le_trans h2 (Nat.le_of_ble_eq_true rfl)) (fun r_9 xw_10 hx_11 => ?_)
  refine k_pop X dL_law_k92.2.2.1.1 rfl ?_
  refine k_aload_n X dL_law_k92.2.2.1.2 2 rfl ?_
  refine k_aload_n X dL_law_k92.2.2.2.1 4 rfl ?_
  refine k_iload X dL_law_k92.2.2.2.2 0 rfl ?_
  refine k_iconst (v := 1) X dL_law_k93.1.1.1 ic_1 ?_
  refine k_iadd X dL_law_k93.1.1.2 ?_
  refine k_to z_1 ez_1.symm ?_
  refine k_sld X hX hbl hbA dL_law_k93.1.2.1 (by rw [vp_in_iff]; have := iv_3; omega) ?_
  refine k_to a_4 ea_4.symm ?_
  refine k_aload_n X dL_law_k93.1.2.2.1 4 rfl ?_
  refine k_iload X dL_law_k93.1.2.2.2 0 rfl ?_
  refine k_iconst (v := 2) X dL_law_k93.2.1.1 ic_2 ?_
  refine k_iadd X dL_law_k93.2.1.2.1 ?_
  refine k_to z_5 ez_5.symm ?_
  refine k_sld X hX hbl hbA dL_law_k93.2.1.2.2 (by rw [vp_in_iff]; have := iv_7; omega) ?_
  refine k_to a_8 ea_8.symm ?_
  refine lm_bestMan (st := []) a_4 a_8 X hm dL_law_k93.2.2.1 mw1440 (Nat.le_of_ble_eq_true rfl) (Nat.le_of_ble_eq_true rfl) (Nat.le_of_ble_eq_true rfl) (Nat.le_trans h1 (Nat.le_of_ble_eq_true rfl)) (Nat.le_trans h2 (Nat.le_of_ble_eq_true rfl)) (fun r_12 mw_13 hm_14 => ?_)
  refine k_pop X dL_law_k93.2.2.2.1 rfl ?_
  refine k_goto 2062 X dL_law_k93.2.2.2.2 (jp_e rfl) ?_
  exact kk _ _ _ _ _ _ _ _ _ _ _ _ _ _ _ _ _ _ _ _ _ _ _ _ _ _ _ _ _ _ _ _ _ _ _ _ _ _ _ _ hx_11 hm_14 hR

theorem dL_law_k94 : ((((dD cL_law 1830 (.aload_n 1) 1 ∧ dD cL_law 1831 (.aload_n 0) 1) ∧ (dD cL_law 1832 (.iload 4) 2 ∧ dD cL_law 1834 (.iconst 1) 1)) ∧ ((dD cL_law 1835 .iadd 1 ∧ dD cL_law 1836 .iaload 1) ∧ (dD cL_law 1837 (.aload_n 0) 1 ∧ dD cL_law 1838 (.iload 4) 2))) ∧ (((dD cL_law 1840 (.iconst 2) 1 ∧ dD cL_law 1841 .iadd 1) ∧ (dD cL_law 1842 .iaload 1 ∧ dD cL_law 1843 (.invokevirtual 210) 3)) ∧ ((dD cL_law 1846 .pop 1 ∧ dD cL_law 1847 (.aload_n 2) 1) ∧ (dD cL_law 1848 (.aload_n 0) 1 ∧ dD cL_law 1849 (.iload 4) 2)))) := dkA16 (by decide +kernel)
theorem dL_law_k95 : (((dD cL_law 1851 (.iconst 1) 1 ∧ dD cL_law 1852 .iadd 1) ∧ (dD cL_law 1853 .iaload 1 ∧ (dD cL_law 1854 (.aload_n 0) 1 ∧ dD cL_law 1855 (.iload 4) 2))) ∧ ((dD cL_law 1857 (.iconst 2) 1 ∧ (dD cL_law 1858 .iadd 1 ∧ dD cL_law 1859 .iaload 1)) ∧ (dD cL_law 1860 (.invokevirtual 214) 3 ∧ (dD cL_law 1863 .pop 1 ∧ dD cL_law 1864 (.goto 198) 3)))) := dkA11 (by decide +kernel)
set_option maxHeartbeats 4000000 in
set_option maxRecDepth 100000 in
theorem law_c46 {p : Program} {l : Launch} {e : Env} {s : State} {m : MethodId} {below : List Frame} {meth : Method} {c : Code} {A : Nat → Prop} {g : Gx} {b L : Nat} {xs : Nat → Int32} {h0 mo lo n1 n2 : Nat} {fo : Nat → Int64} {u4 : Int32} {xtpd : Int32} {tpf : Nat → Int32} {yhnf : Nat → Int32} {yhtn : Int32} {yhtf : Nat → Int32} {yhjn : Int32} {yhjf : Nat → Int32} {yhmn : Int32} {yhmf : Nat → Int32} {yhbn : Int32} {yhbf : Nat → Int32} {yhsn : Int32} {yhsf : Nat → Int32} {yhcn : Int32} {yhcf : Nat → Int32} {zrn : Int32} {zmn : Int32} {zwn : Int32} {zpn : Int32} {zmd : Int32} {ztr : Int32} {zrf : Nat → Int32} {zmf : Nat → Int32} {zwf : Nat → Int32} {zpf : Nat → Int32} {kac : Int32} {knx : Int32} {kim : Int32} {cf : Nat → SC} {m_taped : Int32} {d_tape : Nat → Int32} {d_r : Nat → Int32} {d_st : Nat → Int32} {d_undone : Nat → Int32} {d_kept : Nat → Int32} {m_undos : Int32} {m_images : Int32} {m_hasHouse : Int32} {xw mw : va_W} (X : Cx p s m meth c #[Value.ref b] cL_law 7 RL A g) (hX : va_X b L xs s s.heap) (hbl : b < s.heap.size) (hbA : ¬ A b) (hi : 0 ≤ u4.toInt ∧ u4.toInt + 6 ≤ (L : Int)) (hL : L ≤ 3072) (h1 : n1 ≤ 601023) (h2 : n2 ≤ 7293028) (hlt : l.stackTraces = false) (hZ : kZ A s s.heap) (htsE : ∀ w ∈ wsE, w.before #[Value.ref b] s = true) (hx : XW g h0 xtpd tpf yhnf yhtn yhtf yhjn yhjf yhmn yhmf yhbn yhbf yhsn yhsf yhcn yhcf zrn zmn zwn zpn zmd ztr zrf zmf zwf zpf kac knx kim cf xw) (hm : MW g mo m_taped d_tape d_r d_st d_undone d_kept m_undos m_images m_hasHouse mw) (hR : LR xtpd tpf yhnf yhtn yhtf yhjn yhjf yhmn yhmf yhbn yhbf yhsn yhsf yhcn yhcf zrn zmn zwn zpn zmd ztr zrf zmf zwf zpf kac knx kim cf m_taped d_tape d_r d_st d_undone d_kept m_undos m_images m_hasHouse) (kk : ∀ (xtpd_2 : Int32) (tpf_2 : Nat → Int32) (yhnf_2 : Nat → Int32) (yhtn_2 : Int32) (yhtf_2 : Nat → Int32) (yhjn_2 : Int32) (yhjf_2 : Nat → Int32) (yhmn_2 : Int32) (yhmf_2 : Nat → Int32) (yhbn_2 : Int32) (yhbf_2 : Nat → Int32) (yhsn_2 : Int32) (yhsf_2 : Nat → Int32) (yhcn_2 : Int32) (yhcf_2 : Nat → Int32) (zrn_2 : Int32) (zmn_2 : Int32) (zwn_2 : Int32) (zpn_2 : Int32) (zmd_2 : Int32) (ztr_2 : Int32) (zrf_2 : Nat → Int32) (zmf_2 : Nat → Int32) (zwf_2 : Nat → Int32) (zpf_2 : Nat → Int32) (kac_2 : Int32) (knx_2 : Int32) (kim_2 : Int32) (cf_2 : Nat → SC) (m_taped_2 : Int32) (d_tape_2 : Nat → Int32) (d_r_2 : Nat → Int32) (d_st_2 : Nat → Int32) (d_undone_2 : Nat → Int32) (d_kept_2 : Nat → Int32) (m_undos_2 : Int32) (m_images_2 : Int32) (m_hasHouse_2 : Int32) (xw2 mw2 : va_W), XW g h0 xtpd_2 tpf_2 yhnf_2 yhtn_2 yhtf_2 yhjn_2 yhjf_2 yhmn_2 yhmf_2 yhbn_2 yhbf_2 yhsn_2 yhsf_2 yhcn_2 yhcf_2 zrn_2 zmn_2 zwn_2 zpn_2 zmd_2 ztr_2 zrf_2 zmf_2 zwf_2 zpf_2 kac_2 knx_2 kim_2 cf_2 xw2 → MW g mo m_taped_2 d_tape_2 d_r_2 d_st_2 d_undone_2 d_kept_2 m_undos_2 m_images_2 m_hasHouse_2 mw2 → LR xtpd_2 tpf_2 yhnf_2 yhtn_2 yhtf_2 yhjn_2 yhjf_2 yhmn_2 yhmf_2 yhbn_2 yhbf_2 yhsn_2 yhsf_2 yhcn_2 yhcf_2 zrn_2 zmn_2 zwn_2 zpn_2 zmd_2 ztr_2 zrf_2 zmf_2 zwf_2 zpf_2 kac_2 knx_2 kim_2 cf_2 m_taped_2 d_tape_2 d_r_2 d_st_2 d_undone_2 d_kept_2 m_undos_2 m_images_2 m_hasHouse_2 → Wk p l e room_1 s m #[Value.ref b] below meth c (lw_Z below #[Value.ref b] s) A g 7 n1 n2 (xw2 ++ (mw2 ++ [(cAJ g lo 1 fo)])) [(4, .int u4), (3, .ref lo), (2, .ref mo), (1, .ref h0), (0, .ref b)] 2062 []) : Wk p l e room_1 s m #[Value.ref b] below meth c (lw_Z below #[Value.ref b] s) A g 7 n1 n2 (xw ++ (mw ++ [(cAJ g lo 1 fo)])) [(4, .int u4), (3, .ref lo), (2, .ref mo), (1, .ref h0), (0, .ref b)] 1830 [] := by
  have hiv : IV u4 0 3066 := ⟨hi.1, by omega⟩
  refine k_aload_n X dL_law_k94.1.1.1.1 3 rfl ?_
  refine k_aload_n X dL_law_k94.1.1.1.2 4 rfl ?_
  refine k_iload X dL_law_k94.1.1.2.1 0 rfl ?_
  refine k_iconst (v := 1) X dL_law_k94.1.1.2.2 ic_1 ?_
  refine k_iadd X dL_law_k94.1.2.1.1 ?_
  refine k_nm (fun z_1 ez_1 => ?_)
  have i_2 : z_1.toInt = u4.toInt + 1 := in_add ez_1 hiv iq_1_1_1 (zle_e rfl) (zle_e rfl)
  have iv_3 : IV z_1 1 3067 := by have := hiv; have := iq_1_1_1; rw [IV, i_2]; omega
  refine k_sld X hX hbl hbA dL_law_k94.1.2.1.2 (by rw [vp_in_iff]; have := iv_3; omega) ?_
  refine k_nm (fun a_4 ea_4 => ?_)
  refine k_aload_n X dL_law_k94.1.2.2.1 4 rfl ?_
  refine k_iload X dL_law_k94.1.2.2.2 0 rfl ?_
  refine k_iconst (v := 2) X dL_law_k94.2.1.1.1 ic_2 ?_
  refine k_iadd X dL_law_k94.2.1.1.2 ?_
  refine k_nm (fun z_5 ez_5 => ?_)
  have i_6 : z_5.toInt = u4.toInt + 2 := in_add ez_5 hiv iq_2_2_2 (zle_e rfl) (zle_e rfl)
  have iv_7 : IV z_5 2 3068 := by have := hiv; have := iq_2_2_2; rw [IV, i_6]; omega
  refine k_sld X hX hbl hbA dL_law_k94.2.1.2.1 (by rw [vp_in_iff]; have := iv_7; omega) ?_
  refine k_nm (fun a_8 ea_8 => ?_)
  refine lx_threads (st := []) a_4 a_8 X hx dL_law_k94.2.1.2.2 mw1445 (Nat.le_of_ble_eq_true rfl) (Nat.le_of_ble_eq_true rfl) (Nat.le_of_ble_eq_true rfl) (Nat.le_trans h1 (Nat.le_of_ble_eq_true rfl)) (Nat.le_trans h2 (Nat.le_of_ble_eq_true rfl)) (fun r_9 t_13 t_14 t_15 t_16 t_17 t_18 t_19 t_20 t_21 t_22 t_23 t_24 t_25 xw_10 hx_11 hr_12 => ?_)
  refine k_pop X dL_law_k94.2.2.1.1 rfl ?_
  refine k_aload_n X dL_law_k94.2.2.1.2 2 rfl ?_
  refine k_aload_n X dL_law_k94.2.2.2.1 4 rfl ?_
  refine k_iload X dL_law_k94.2.2.2.2 0 rfl ?_
  refine k_iconst (v := 1) X dL_law_k95.1.1.1 ic_1 ?_
  refine k_iadd X dL_law_k95.1.1.2 ?_
  refine k_to z_1 ez_1.symm ?_
  refine k_sld X hX hbl hbA dL_law_k95.1.2.1 (by rw [vp_in_iff]; have := iv_3; omega) ?_
  refine k_to a_4 ea_4.symm ?_
  refine k_aload_n X dL_law_k95.1.2.2.1 4 rfl ?_
  refine k_iload X dL_law_k95.1.2.2.2 0 rfl ?_
  refine k_iconst (v := 2) X dL_law_k95.2.1.1 ic_2 ?_
  refine k_iadd X dL_law_k95.2.1.2.1 ?_
  refine k_to z_5 ez_5.symm ?_
  refine k_sld X hX hbl hbA dL_law_k95.2.1.2.2 (by rw [vp_in_iff]; have := iv_7; omega) ?_
  refine k_to a_8 ea_8.symm ?_
  refine lm_threads (st := []) a_4 a_8 X hm dL_law_k95.2.2.1 mw1467 (Nat.le_of_ble_eq_true rfl) (Nat.le_of_ble_eq_true rfl) (Nat.le_of_ble_eq_true rfl) (Nat.le_trans h1 (Nat.le_of_ble_eq_true rfl)) (Nat.le_trans h2 (Nat.le_of_ble_eq_true rfl)) (fun r_26 t_30 t_31 t_32 mw_27 hm_28 hr_29 => ?_)
  refine k_pop X dL_law_k95.2.2.2.1 rfl ?_
  refine k_goto 2062 X dL_law_k95.2.2.2.2 (jp_e rfl) ?_
  exact kk _ _ _ _ _ _ _ _ _ _ _ _ _ _ _ _ _ _ _ _ _ _ _ _ _ _ _ _ _ _ _ _ _ _ _ _ _ _ _ _ hx_11 hm_28 (LR_threads hR hr_12 hr_29)

theorem dL_law_k96 : ((((dD cL_law 1867 (.aload_n 1) 1 ∧ dD cL_law 1868 (.aload_n 0) 1) ∧ (dD cL_law 1869 (.iload 4) 2 ∧ dD cL_law 1871 (.iconst 1) 1)) ∧ ((dD cL_law 1872 .iadd 1 ∧ dD cL_law 1873 .iaload 1) ∧ (dD cL_law 1874 (.aload_n 0) 1 ∧ dD cL_law 1875 (.iload 4) 2))) ∧ (((dD cL_law 1877 (.iconst 2) 1 ∧ dD cL_law 1878 .iadd 1) ∧ (dD cL_law 1879 .iaload 1 ∧ dD cL_law 1880 (.ifCond .eq 7) 3)) ∧ ((dD cL_law 1883 (.iconst 1) 1 ∧ dD cL_law 1884 (.goto 4) 3) ∧ (dD cL_law 1887 (.iconst 0) 1 ∧ dD cL_law 1888 (.invokevirtual 215) 3)))) := dkA16 (by decide +kernel)
theorem dL_law_k97 : ((((dD cL_law 1891 .pop 1 ∧ dD cL_law 1892 (.aload_n 2) 1) ∧ (dD cL_law 1893 (.aload_n 0) 1 ∧ dD cL_law 1894 (.iload 4) 2)) ∧ ((dD cL_law 1896 (.iconst 1) 1 ∧ dD cL_law 1897 .iadd 1) ∧ (dD cL_law 1898 .iaload 1 ∧ dD cL_law 1899 (.aload_n 0) 1))) ∧ (((dD cL_law 1900 (.iload 4) 2 ∧ dD cL_law 1902 (.iconst 2) 1) ∧ (dD cL_law 1903 .iadd 1 ∧ dD cL_law 1904 .iaload 1)) ∧ ((dD cL_law 1905 (.ifCond .eq 7) 3 ∧ dD cL_law 1908 (.iconst 1) 1) ∧ (dD cL_law 1909 (.goto 4) 3 ∧ dD cL_law 1912 (.iconst 0) 1)))) := dkA16 (by decide +kernel)
theorem dL_law_k98 : (dD cL_law 1913 (.invokevirtual 219) 3 ∧ (dD cL_law 1916 .pop 1 ∧ dD cL_law 1917 (.goto 145) 3)) := dkA3 (by decide +kernel)
set_option maxHeartbeats 4000000 in
set_option maxRecDepth 100000 in
theorem law_c47 {p : Program} {l : Launch} {e : Env} {s : State} {m : MethodId} {below : List Frame} {meth : Method} {c : Code} {A : Nat → Prop} {g : Gx} {b L : Nat} {xs : Nat → Int32} {h0 mo lo n1 n2 : Nat} {fo : Nat → Int64} {u4 : Int32} {xtpd : Int32} {tpf : Nat → Int32} {yhnf : Nat → Int32} {yhtn : Int32} {yhtf : Nat → Int32} {yhjn : Int32} {yhjf : Nat → Int32} {yhmn : Int32} {yhmf : Nat → Int32} {yhbn : Int32} {yhbf : Nat → Int32} {yhsn : Int32} {yhsf : Nat → Int32} {yhcn : Int32} {yhcf : Nat → Int32} {zrn : Int32} {zmn : Int32} {zwn : Int32} {zpn : Int32} {zmd : Int32} {ztr : Int32} {zrf : Nat → Int32} {zmf : Nat → Int32} {zwf : Nat → Int32} {zpf : Nat → Int32} {kac : Int32} {knx : Int32} {kim : Int32} {cf : Nat → SC} {m_taped : Int32} {d_tape : Nat → Int32} {d_r : Nat → Int32} {d_st : Nat → Int32} {d_undone : Nat → Int32} {d_kept : Nat → Int32} {m_undos : Int32} {m_images : Int32} {m_hasHouse : Int32} {xw mw : va_W} (X : Cx p s m meth c #[Value.ref b] cL_law 7 RL A g) (hX : va_X b L xs s s.heap) (hbl : b < s.heap.size) (hbA : ¬ A b) (hi : 0 ≤ u4.toInt ∧ u4.toInt + 6 ≤ (L : Int)) (hL : L ≤ 3072) (h1 : n1 ≤ 601023) (h2 : n2 ≤ 7293028) (hlt : l.stackTraces = false) (hZ : kZ A s s.heap) (htsE : ∀ w ∈ wsE, w.before #[Value.ref b] s = true) (hx : XW g h0 xtpd tpf yhnf yhtn yhtf yhjn yhjf yhmn yhmf yhbn yhbf yhsn yhsf yhcn yhcf zrn zmn zwn zpn zmd ztr zrf zmf zwf zpf kac knx kim cf xw) (hm : MW g mo m_taped d_tape d_r d_st d_undone d_kept m_undos m_images m_hasHouse mw) (hR : LR xtpd tpf yhnf yhtn yhtf yhjn yhjf yhmn yhmf yhbn yhbf yhsn yhsf yhcn yhcf zrn zmn zwn zpn zmd ztr zrf zmf zwf zpf kac knx kim cf m_taped d_tape d_r d_st d_undone d_kept m_undos m_images m_hasHouse) (kk : ∀ (xtpd_2 : Int32) (tpf_2 : Nat → Int32) (yhnf_2 : Nat → Int32) (yhtn_2 : Int32) (yhtf_2 : Nat → Int32) (yhjn_2 : Int32) (yhjf_2 : Nat → Int32) (yhmn_2 : Int32) (yhmf_2 : Nat → Int32) (yhbn_2 : Int32) (yhbf_2 : Nat → Int32) (yhsn_2 : Int32) (yhsf_2 : Nat → Int32) (yhcn_2 : Int32) (yhcf_2 : Nat → Int32) (zrn_2 : Int32) (zmn_2 : Int32) (zwn_2 : Int32) (zpn_2 : Int32) (zmd_2 : Int32) (ztr_2 : Int32) (zrf_2 : Nat → Int32) (zmf_2 : Nat → Int32) (zwf_2 : Nat → Int32) (zpf_2 : Nat → Int32) (kac_2 : Int32) (knx_2 : Int32) (kim_2 : Int32) (cf_2 : Nat → SC) (m_taped_2 : Int32) (d_tape_2 : Nat → Int32) (d_r_2 : Nat → Int32) (d_st_2 : Nat → Int32) (d_undone_2 : Nat → Int32) (d_kept_2 : Nat → Int32) (m_undos_2 : Int32) (m_images_2 : Int32) (m_hasHouse_2 : Int32) (xw2 mw2 : va_W), XW g h0 xtpd_2 tpf_2 yhnf_2 yhtn_2 yhtf_2 yhjn_2 yhjf_2 yhmn_2 yhmf_2 yhbn_2 yhbf_2 yhsn_2 yhsf_2 yhcn_2 yhcf_2 zrn_2 zmn_2 zwn_2 zpn_2 zmd_2 ztr_2 zrf_2 zmf_2 zwf_2 zpf_2 kac_2 knx_2 kim_2 cf_2 xw2 → MW g mo m_taped_2 d_tape_2 d_r_2 d_st_2 d_undone_2 d_kept_2 m_undos_2 m_images_2 m_hasHouse_2 mw2 → LR xtpd_2 tpf_2 yhnf_2 yhtn_2 yhtf_2 yhjn_2 yhjf_2 yhmn_2 yhmf_2 yhbn_2 yhbf_2 yhsn_2 yhsf_2 yhcn_2 yhcf_2 zrn_2 zmn_2 zwn_2 zpn_2 zmd_2 ztr_2 zrf_2 zmf_2 zwf_2 zpf_2 kac_2 knx_2 kim_2 cf_2 m_taped_2 d_tape_2 d_r_2 d_st_2 d_undone_2 d_kept_2 m_undos_2 m_images_2 m_hasHouse_2 → Wk p l e room_1 s m #[Value.ref b] below meth c (lw_Z below #[Value.ref b] s) A g 7 n1 n2 (xw2 ++ (mw2 ++ [(cAJ g lo 1 fo)])) [(4, .int u4), (3, .ref lo), (2, .ref mo), (1, .ref h0), (0, .ref b)] 2062 []) : Wk p l e room_1 s m #[Value.ref b] below meth c (lw_Z below #[Value.ref b] s) A g 7 n1 n2 (xw ++ (mw ++ [(cAJ g lo 1 fo)])) [(4, .int u4), (3, .ref lo), (2, .ref mo), (1, .ref h0), (0, .ref b)] 1867 [] := by
  have hiv : IV u4 0 3066 := ⟨hi.1, by omega⟩
  refine k_aload_n X dL_law_k96.1.1.1.1 3 rfl ?_
  refine k_aload_n X dL_law_k96.1.1.1.2 4 rfl ?_
  refine k_iload X dL_law_k96.1.1.2.1 0 rfl ?_
  refine k_iconst (v := 1) X dL_law_k96.1.1.2.2 ic_1 ?_
  refine k_iadd X dL_law_k96.1.2.1.1 ?_
  refine k_nm (fun z_1 ez_1 => ?_)
  have i_2 : z_1.toInt = u4.toInt + 1 := in_add ez_1 hiv iq_1_1_1 (zle_e rfl) (zle_e rfl)
  have iv_3 : IV z_1 1 3067 := by have := hiv; have := iq_1_1_1; rw [IV, i_2]; omega
  refine k_sld X hX hbl hbA dL_law_k96.1.2.1.2 (by rw [vp_in_iff]; have := iv_3; omega) ?_
  refine k_nm (fun a_4 ea_4 => ?_)
  refine k_aload_n X dL_law_k96.1.2.2.1 4 rfl ?_
  refine k_iload X dL_law_k96.1.2.2.2 0 rfl ?_
  refine k_iconst (v := 2) X dL_law_k96.2.1.1.1 ic_2 ?_
  refine k_iadd X dL_law_k96.2.1.1.2 ?_
  refine k_nm (fun z_5 ez_5 => ?_)
  have i_6 : z_5.toInt = u4.toInt + 2 := in_add ez_5 hiv iq_2_2_2 (zle_e rfl) (zle_e rfl)
  have iv_7 : IV z_5 2 3068 := by have := hiv; have := iq_2_2_2; rw [IV, i_6]; omega
  refine k_sld X hX hbl hbA dL_law_k96.2.1.2.1 (by rw [vp_in_iff]; have := iv_7; omega) ?_
  refine k_nm (fun a_8 ea_8 => ?_)
  refine k_if_eq 1887 X dL_law_k96.2.1.2.2 (jp_e rfl) (fun h_9 => ?_) (fun h_9 => ?_)
  · skip
    have iv_10 : IV a_8 0 0 := iv_meet (iv_any a_8) (iv_e h_9 iq_0_0_0) (zle_o rfl) (zle_o rfl)
    refine k_iconst (v := 0) X dL_law_k96.2.2.2.1 ic_0 ?_
    refine lx_trim (st := []) a_4 0 X hx dL_law_k96.2.2.2.2 mw1479 (Nat.le_of_ble_eq_true rfl) (Nat.le_of_ble_eq_true rfl) (Nat.le_of_ble_eq_true rfl) (Nat.le_trans h1 (Nat.le_of_ble_eq_true rfl)) (Nat.le_trans h2 (Nat.le_of_ble_eq_true rfl)) (fun r_11 t_15 t_16 t_17 t_18 t_19 t_20 t_21 t_22 t_23 t_24 t_25 t_26 t_27 xw_12 hx_13 hr_14 => ?_)
    refine k_pop X dL_law_k97.1.1.1.1 rfl ?_
    refine k_aload_n X dL_law_k97.1.1.1.2 2 rfl ?_
    refine k_aload_n X dL_law_k97.1.1.2.1 4 rfl ?_
    refine k_iload X dL_law_k97.1.1.2.2 0 rfl ?_
    refine k_iconst (v := 1) X dL_law_k97.1.2.1.1 ic_1 ?_
    refine k_iadd X dL_law_k97.1.2.1.2 ?_
    refine k_to z_1 ez_1.symm ?_
    refine k_sld X hX hbl hbA dL_law_k97.1.2.2.1 (by rw [vp_in_iff]; have := iv_3; omega) ?_
    refine k_to a_4 ea_4.symm ?_
    refine k_aload_n X dL_law_k97.1.2.2.2 4 rfl ?_
    refine k_iload X dL_law_k97.2.1.1.1 0 rfl ?_
    refine k_iconst (v := 2) X dL_law_k97.2.1.1.2 ic_2 ?_
    refine k_iadd X dL_law_k97.2.1.2.1 ?_
    refine k_to z_5 ez_5.symm ?_
    refine k_sld X hX hbl hbA dL_law_k97.2.1.2.2 (by rw [vp_in_iff]; have := iv_7; omega) ?_
    refine k_to a_8 ea_8.symm ?_
    refine k_if_eq 1912 X dL_law_k97.2.2.1.1 (jp_e rfl) (fun h_28 => ?_) (fun h_28 => absurd h_9 h_28)
    refine k_iconst (v := 0) X dL_law_k97.2.2.2.2 ic_0 ?_
    refine lm_trim (st := []) a_4 0 X hm dL_law_k98.1 mw1483 (Nat.le_of_ble_eq_true rfl) (Nat.le_of_ble_eq_true rfl) (Nat.le_of_ble_eq_true rfl) (Nat.le_trans h1 (Nat.le_of_ble_eq_true rfl)) (Nat.le_trans h2 (Nat.le_of_ble_eq_true rfl)) (fun r_29 t_33 t_34 t_35 mw_30 hm_31 hr_32 => ?_)
    refine k_pop X dL_law_k98.2.1 rfl ?_
    refine k_goto 2062 X dL_law_k98.2.2 (jp_e rfl) ?_
    exact kk _ _ _ _ _ _ _ _ _ _ _ _ _ _ _ _ _ _ _ _ _ _ _ _ _ _ _ _ _ _ _ _ _ _ _ _ _ _ _ _ hx_13 hm_31 (LR_trim hR hr_14 hr_32)
  · skip
    refine k_iconst (v := 1) X dL_law_k96.2.2.1.1 ic_1 ?_
    refine k_goto 1888 X dL_law_k96.2.2.1.2 (jp_e rfl) ?_
    refine lx_trim (st := []) a_4 1 X hx dL_law_k96.2.2.2.2 mw1479 (Nat.le_of_ble_eq_true rfl) (Nat.le_of_ble_eq_true rfl) (Nat.le_of_ble_eq_true rfl) (Nat.le_trans h1 (Nat.le_of_ble_eq_true rfl)) (Nat.le_trans h2 (Nat.le_of_ble_eq_true rfl)) (fun r_36 t_40 t_41 t_42 t_43 t_44 t_45 t_46 t_47 t_48 t_49 t_50 t_51 t_52 xw_37 hx_38 hr_39 => ?_)
    refine k_pop X dL_law_k97.1.1.1.1 rfl ?_
    refine k_aload_n X dL_law_k97.1.1.1.2 2 rfl ?_
    refine k_aload_n X dL_law_k97.1.1.2.1 4 rfl ?_
    refine k_iload X dL_law_k97.1.1.2.2 0 rfl ?_
    refine k_iconst (v := 1) X dL_law_k97.1.2.1.1 ic_1 ?_
    refine k_iadd X dL_law_k97.1.2.1.2 ?_
    refine k_to z_1 ez_1.symm ?_
    refine k_sld X hX hbl hbA dL_law_k97.1.2.2.1 (by rw [vp_in_iff]; have := iv_3; omega) ?_
    refine k_to a_4 ea_4.symm ?_
    refine k_aload_n X dL_law_k97.1.2.2.2 4 rfl ?_
    refine k_iload X dL_law_k97.2.1.1.1 0 rfl ?_
    refine k_iconst (v := 2) X dL_law_k97.2.1.1.2 ic_2 ?_
    refine k_iadd X dL_law_k97.2.1.2.1 ?_
    refine k_to z_5 ez_5.symm ?_
    refine k_sld X hX hbl hbA dL_law_k97.2.1.2.2 (by rw [vp_in_iff]; have := iv_7; omega) ?_
    refine k_to a_8 ea_8.symm ?_
    refine k_if_eq 1912 X dL_law_k97.2.2.1.1 (jp_e rfl) (fun h_53 => absurd h_53 h_9) (fun h_53 => ?_)
    refine k_iconst (v := 1) X dL_law_k97.2.2.1.2 ic_1 ?_
    refine k_goto 1913 X dL_law_k97.2.2.2.1 (jp_e rfl) ?_
    refine lm_trim (st := []) a_4 1 X hm dL_law_k98.1 mw1483 (Nat.le_of_ble_eq_true rfl) (Nat.le_of_ble_eq_true rfl) (Nat.le_of_ble_eq_true rfl) (Nat.le_trans h1 (Nat.le_of_ble_eq_true rfl)) (Nat.le_trans h2 (Nat.le_of_ble_eq_true rfl)) (fun r_54 t_58 t_59 t_60 mw_55 hm_56 hr_57 => ?_)
    refine k_pop X dL_law_k98.2.1 rfl ?_
    refine k_goto 2062 X dL_law_k98.2.2 (jp_e rfl) ?_
    exact kk _ _ _ _ _ _ _ _ _ _ _ _ _ _ _ _ _ _ _ _ _ _ _ _ _ _ _ _ _ _ _ _ _ _ _ _ _ _ _ _ hx_38 hm_56 (LR_trim hR hr_39 hr_57)

theorem dL_law_k99 : ((((dD cL_law 1920 (.aload_n 1) 1 ∧ dD cL_law 1921 (.aload_n 0) 1) ∧ (dD cL_law 1922 (.iload 4) 2 ∧ dD cL_law 1924 (.iconst 1) 1)) ∧ ((dD cL_law 1925 .iadd 1 ∧ dD cL_law 1926 .iaload 1) ∧ (dD cL_law 1927 (.invokevirtual 220) 3 ∧ dD cL_law 1930 .pop 1))) ∧ (((dD cL_law 1931 (.aload_n 2) 1 ∧ dD cL_law 1932 (.aload_n 0) 1) ∧ (dD cL_law 1933 (.iload 4) 2 ∧ dD cL_law 1935 (.iconst 1) 1)) ∧ ((dD cL_law 1936 .iadd 1 ∧ dD cL_law 1937 .iaload 1) ∧ (dD cL_law 1938 (.invokevirtual 223) 3 ∧ dD cL_law 1941 .pop 1)))) := dkA16 (by decide +kernel)
theorem dL_law_k100 : dD cL_law 1942 (.goto 120) 3 := dkA1 (by decide +kernel)
set_option maxHeartbeats 4000000 in
set_option maxRecDepth 100000 in
theorem law_c48 {p : Program} {l : Launch} {e : Env} {s : State} {m : MethodId} {below : List Frame} {meth : Method} {c : Code} {A : Nat → Prop} {g : Gx} {b L : Nat} {xs : Nat → Int32} {h0 mo lo n1 n2 : Nat} {fo : Nat → Int64} {u4 : Int32} {xtpd : Int32} {tpf : Nat → Int32} {yhnf : Nat → Int32} {yhtn : Int32} {yhtf : Nat → Int32} {yhjn : Int32} {yhjf : Nat → Int32} {yhmn : Int32} {yhmf : Nat → Int32} {yhbn : Int32} {yhbf : Nat → Int32} {yhsn : Int32} {yhsf : Nat → Int32} {yhcn : Int32} {yhcf : Nat → Int32} {zrn : Int32} {zmn : Int32} {zwn : Int32} {zpn : Int32} {zmd : Int32} {ztr : Int32} {zrf : Nat → Int32} {zmf : Nat → Int32} {zwf : Nat → Int32} {zpf : Nat → Int32} {kac : Int32} {knx : Int32} {kim : Int32} {cf : Nat → SC} {m_taped : Int32} {d_tape : Nat → Int32} {d_r : Nat → Int32} {d_st : Nat → Int32} {d_undone : Nat → Int32} {d_kept : Nat → Int32} {m_undos : Int32} {m_images : Int32} {m_hasHouse : Int32} {xw mw : va_W} (X : Cx p s m meth c #[Value.ref b] cL_law 7 RL A g) (hX : va_X b L xs s s.heap) (hbl : b < s.heap.size) (hbA : ¬ A b) (hi : 0 ≤ u4.toInt ∧ u4.toInt + 6 ≤ (L : Int)) (hL : L ≤ 3072) (h1 : n1 ≤ 601023) (h2 : n2 ≤ 7293028) (hlt : l.stackTraces = false) (hZ : kZ A s s.heap) (htsE : ∀ w ∈ wsE, w.before #[Value.ref b] s = true) (hx : XW g h0 xtpd tpf yhnf yhtn yhtf yhjn yhjf yhmn yhmf yhbn yhbf yhsn yhsf yhcn yhcf zrn zmn zwn zpn zmd ztr zrf zmf zwf zpf kac knx kim cf xw) (hm : MW g mo m_taped d_tape d_r d_st d_undone d_kept m_undos m_images m_hasHouse mw) (hR : LR xtpd tpf yhnf yhtn yhtf yhjn yhjf yhmn yhmf yhbn yhbf yhsn yhsf yhcn yhcf zrn zmn zwn zpn zmd ztr zrf zmf zwf zpf kac knx kim cf m_taped d_tape d_r d_st d_undone d_kept m_undos m_images m_hasHouse) (kk : ∀ (xtpd_2 : Int32) (tpf_2 : Nat → Int32) (yhnf_2 : Nat → Int32) (yhtn_2 : Int32) (yhtf_2 : Nat → Int32) (yhjn_2 : Int32) (yhjf_2 : Nat → Int32) (yhmn_2 : Int32) (yhmf_2 : Nat → Int32) (yhbn_2 : Int32) (yhbf_2 : Nat → Int32) (yhsn_2 : Int32) (yhsf_2 : Nat → Int32) (yhcn_2 : Int32) (yhcf_2 : Nat → Int32) (zrn_2 : Int32) (zmn_2 : Int32) (zwn_2 : Int32) (zpn_2 : Int32) (zmd_2 : Int32) (ztr_2 : Int32) (zrf_2 : Nat → Int32) (zmf_2 : Nat → Int32) (zwf_2 : Nat → Int32) (zpf_2 : Nat → Int32) (kac_2 : Int32) (knx_2 : Int32) (kim_2 : Int32) (cf_2 : Nat → SC) (m_taped_2 : Int32) (d_tape_2 : Nat → Int32) (d_r_2 : Nat → Int32) (d_st_2 : Nat → Int32) (d_undone_2 : Nat → Int32) (d_kept_2 : Nat → Int32) (m_undos_2 : Int32) (m_images_2 : Int32) (m_hasHouse_2 : Int32) (xw2 mw2 : va_W), XW g h0 xtpd_2 tpf_2 yhnf_2 yhtn_2 yhtf_2 yhjn_2 yhjf_2 yhmn_2 yhmf_2 yhbn_2 yhbf_2 yhsn_2 yhsf_2 yhcn_2 yhcf_2 zrn_2 zmn_2 zwn_2 zpn_2 zmd_2 ztr_2 zrf_2 zmf_2 zwf_2 zpf_2 kac_2 knx_2 kim_2 cf_2 xw2 → MW g mo m_taped_2 d_tape_2 d_r_2 d_st_2 d_undone_2 d_kept_2 m_undos_2 m_images_2 m_hasHouse_2 mw2 → LR xtpd_2 tpf_2 yhnf_2 yhtn_2 yhtf_2 yhjn_2 yhjf_2 yhmn_2 yhmf_2 yhbn_2 yhbf_2 yhsn_2 yhsf_2 yhcn_2 yhcf_2 zrn_2 zmn_2 zwn_2 zpn_2 zmd_2 ztr_2 zrf_2 zmf_2 zwf_2 zpf_2 kac_2 knx_2 kim_2 cf_2 m_taped_2 d_tape_2 d_r_2 d_st_2 d_undone_2 d_kept_2 m_undos_2 m_images_2 m_hasHouse_2 → Wk p l e room_1 s m #[Value.ref b] below meth c (lw_Z below #[Value.ref b] s) A g 7 n1 n2 (xw2 ++ (mw2 ++ [(cAJ g lo 1 fo)])) [(4, .int u4), (3, .ref lo), (2, .ref mo), (1, .ref h0), (0, .ref b)] 2062 []) : Wk p l e room_1 s m #[Value.ref b] below meth c (lw_Z below #[Value.ref b] s) A g 7 n1 n2 (xw ++ (mw ++ [(cAJ g lo 1 fo)])) [(4, .int u4), (3, .ref lo), (2, .ref mo), (1, .ref h0), (0, .ref b)] 1920 [] := by
  have hiv : IV u4 0 3066 := ⟨hi.1, by omega⟩
  refine k_aload_n X dL_law_k99.1.1.1.1 3 rfl ?_
  refine k_aload_n X dL_law_k99.1.1.1.2 4 rfl ?_
  refine k_iload X dL_law_k99.1.1.2.1 0 rfl ?_
  refine k_iconst (v := 1) X dL_law_k99.1.1.2.2 ic_1 ?_
  refine k_iadd X dL_law_k99.1.2.1.1 ?_
  refine k_nm (fun z_1 ez_1 => ?_)
  have i_2 : z_1.toInt = u4.toInt + 1 := in_add ez_1 hiv iq_1_1_1 (zle_e rfl) (zle_e rfl)
  have iv_3 : IV z_1 1 3067 := by have := hiv; have := iq_1_1_1; rw [IV, i_2]; omega
  refine k_sld X hX hbl hbA dL_law_k99.1.2.1.2 (by rw [vp_in_iff]; have := iv_3; omega) ?_
  refine k_nm (fun a_4 ea_4 => ?_)
  refine lx_mend (st := []) a_4 X hx dL_law_k99.1.2.2.1 mw1487 (Nat.le_of_ble_eq_true rfl) (Nat.le_of_ble_eq_true rfl) (Nat.le_of_ble_eq_true rfl) (Nat.le_trans h1 (Nat.le_of_ble_eq_true rfl)) (Nat.le_trans h2 (Nat.le_of_ble_eq_true rfl)) (fun r_5 t_9 t_10 t_11 t_12 t_13 t_14 t_15 t_16 t_17 t_18 t_19 t_20 t_21 xw_6 hx_7 hr_8 => ?_)
  refine k_pop X dL_law_k99.1.2.2.2 rfl ?_
  refine k_aload_n X dL_law_k99.2.1.1.1 2 rfl ?_
  refine k_aload_n X dL_law_k99.2.1.1.2 4 rfl ?_
  refine k_iload X dL_law_k99.2.1.2.1 0 rfl ?_
  refine k_iconst (v := 1) X dL_law_k99.2.1.2.2 ic_1 ?_
  refine k_iadd X dL_law_k99.2.2.1.1 ?_
  refine k_to z_1 ez_1.symm ?_
  refine k_sld X hX hbl hbA dL_law_k99.2.2.1.2 (by rw [vp_in_iff]; have := iv_3; omega) ?_
  refine k_to a_4 ea_4.symm ?_
  refine lm_mend (st := []) a_4 X hm dL_law_k99.2.2.2.1 mw1504 (Nat.le_of_ble_eq_true rfl) (Nat.le_of_ble_eq_true rfl) (Nat.le_of_ble_eq_true rfl) (Nat.le_trans h1 (Nat.le_of_ble_eq_true rfl)) (Nat.le_trans h2 (Nat.le_of_ble_eq_true rfl)) (fun r_22 t_26 t_27 t_28 mw_23 hm_24 hr_25 => ?_)
  refine k_pop X dL_law_k99.2.2.2.2 rfl ?_
  refine k_goto 2062 X dL_law_k100 (jp_e rfl) ?_
  exact kk _ _ _ _ _ _ _ _ _ _ _ _ _ _ _ _ _ _ _ _ _ _ _ _ _ _ _ _ _ _ _ _ _ _ _ _ _ _ _ _ hx_7 hm_24 (LR_mend hR hr_8 hr_25)

theorem dL_law_k101 : ((dD cL_law 1945 (.aload_n 1) 1 ∧ (dD cL_law 1946 (.invokevirtual 224) 3 ∧ dD cL_law 1949 .pop 1)) ∧ ((dD cL_law 1950 (.aload_n 2) 1 ∧ dD cL_law 1951 (.invokevirtual 228) 3) ∧ (dD cL_law 1954 .pop 1 ∧ dD cL_law 1955 (.goto 107) 3))) := dkA7 (by decide +kernel)
set_option maxHeartbeats 4000000 in
set_option maxRecDepth 100000 in
theorem law_c49 {p : Program} {l : Launch} {e : Env} {s : State} {m : MethodId} {below : List Frame} {meth : Method} {c : Code} {A : Nat → Prop} {g : Gx} {b L : Nat} {xs : Nat → Int32} {h0 mo lo n1 n2 : Nat} {fo : Nat → Int64} {u4 : Int32} {xtpd : Int32} {tpf : Nat → Int32} {yhnf : Nat → Int32} {yhtn : Int32} {yhtf : Nat → Int32} {yhjn : Int32} {yhjf : Nat → Int32} {yhmn : Int32} {yhmf : Nat → Int32} {yhbn : Int32} {yhbf : Nat → Int32} {yhsn : Int32} {yhsf : Nat → Int32} {yhcn : Int32} {yhcf : Nat → Int32} {zrn : Int32} {zmn : Int32} {zwn : Int32} {zpn : Int32} {zmd : Int32} {ztr : Int32} {zrf : Nat → Int32} {zmf : Nat → Int32} {zwf : Nat → Int32} {zpf : Nat → Int32} {kac : Int32} {knx : Int32} {kim : Int32} {cf : Nat → SC} {m_taped : Int32} {d_tape : Nat → Int32} {d_r : Nat → Int32} {d_st : Nat → Int32} {d_undone : Nat → Int32} {d_kept : Nat → Int32} {m_undos : Int32} {m_images : Int32} {m_hasHouse : Int32} {xw mw : va_W} (X : Cx p s m meth c #[Value.ref b] cL_law 7 RL A g) (hX : va_X b L xs s s.heap) (hbl : b < s.heap.size) (hbA : ¬ A b) (hi : 0 ≤ u4.toInt ∧ u4.toInt + 6 ≤ (L : Int)) (hL : L ≤ 3072) (h1 : n1 ≤ 601023) (h2 : n2 ≤ 7293028) (hlt : l.stackTraces = false) (hZ : kZ A s s.heap) (htsE : ∀ w ∈ wsE, w.before #[Value.ref b] s = true) (hx : XW g h0 xtpd tpf yhnf yhtn yhtf yhjn yhjf yhmn yhmf yhbn yhbf yhsn yhsf yhcn yhcf zrn zmn zwn zpn zmd ztr zrf zmf zwf zpf kac knx kim cf xw) (hm : MW g mo m_taped d_tape d_r d_st d_undone d_kept m_undos m_images m_hasHouse mw) (hR : LR xtpd tpf yhnf yhtn yhtf yhjn yhjf yhmn yhmf yhbn yhbf yhsn yhsf yhcn yhcf zrn zmn zwn zpn zmd ztr zrf zmf zwf zpf kac knx kim cf m_taped d_tape d_r d_st d_undone d_kept m_undos m_images m_hasHouse) (kk : ∀ (xtpd_2 : Int32) (tpf_2 : Nat → Int32) (yhnf_2 : Nat → Int32) (yhtn_2 : Int32) (yhtf_2 : Nat → Int32) (yhjn_2 : Int32) (yhjf_2 : Nat → Int32) (yhmn_2 : Int32) (yhmf_2 : Nat → Int32) (yhbn_2 : Int32) (yhbf_2 : Nat → Int32) (yhsn_2 : Int32) (yhsf_2 : Nat → Int32) (yhcn_2 : Int32) (yhcf_2 : Nat → Int32) (zrn_2 : Int32) (zmn_2 : Int32) (zwn_2 : Int32) (zpn_2 : Int32) (zmd_2 : Int32) (ztr_2 : Int32) (zrf_2 : Nat → Int32) (zmf_2 : Nat → Int32) (zwf_2 : Nat → Int32) (zpf_2 : Nat → Int32) (kac_2 : Int32) (knx_2 : Int32) (kim_2 : Int32) (cf_2 : Nat → SC) (m_taped_2 : Int32) (d_tape_2 : Nat → Int32) (d_r_2 : Nat → Int32) (d_st_2 : Nat → Int32) (d_undone_2 : Nat → Int32) (d_kept_2 : Nat → Int32) (m_undos_2 : Int32) (m_images_2 : Int32) (m_hasHouse_2 : Int32) (xw2 mw2 : va_W), XW g h0 xtpd_2 tpf_2 yhnf_2 yhtn_2 yhtf_2 yhjn_2 yhjf_2 yhmn_2 yhmf_2 yhbn_2 yhbf_2 yhsn_2 yhsf_2 yhcn_2 yhcf_2 zrn_2 zmn_2 zwn_2 zpn_2 zmd_2 ztr_2 zrf_2 zmf_2 zwf_2 zpf_2 kac_2 knx_2 kim_2 cf_2 xw2 → MW g mo m_taped_2 d_tape_2 d_r_2 d_st_2 d_undone_2 d_kept_2 m_undos_2 m_images_2 m_hasHouse_2 mw2 → LR xtpd_2 tpf_2 yhnf_2 yhtn_2 yhtf_2 yhjn_2 yhjf_2 yhmn_2 yhmf_2 yhbn_2 yhbf_2 yhsn_2 yhsf_2 yhcn_2 yhcf_2 zrn_2 zmn_2 zwn_2 zpn_2 zmd_2 ztr_2 zrf_2 zmf_2 zwf_2 zpf_2 kac_2 knx_2 kim_2 cf_2 m_taped_2 d_tape_2 d_r_2 d_st_2 d_undone_2 d_kept_2 m_undos_2 m_images_2 m_hasHouse_2 → Wk p l e room_1 s m #[Value.ref b] below meth c (lw_Z below #[Value.ref b] s) A g 7 n1 n2 (xw2 ++ (mw2 ++ [(cAJ g lo 1 fo)])) [(4, .int u4), (3, .ref lo), (2, .ref mo), (1, .ref h0), (0, .ref b)] 2062 []) : Wk p l e room_1 s m #[Value.ref b] below meth c (lw_Z below #[Value.ref b] s) A g 7 n1 n2 (xw ++ (mw ++ [(cAJ g lo 1 fo)])) [(4, .int u4), (3, .ref lo), (2, .ref mo), (1, .ref h0), (0, .ref b)] 1945 [] := by
  have hiv : IV u4 0 3066 := ⟨hi.1, by omega⟩
  refine k_aload_n X dL_law_k101.1.1 3 rfl ?_
  refine lx_undo (st := []) () X hx dL_law_k101.1.2.1 mw1511 (Nat.le_of_ble_eq_true rfl) (Nat.le_of_ble_eq_true rfl) (Nat.le_of_ble_eq_true rfl) (Nat.le_trans h1 (Nat.le_of_ble_eq_true rfl)) (Nat.le_trans h2 (Nat.le_of_ble_eq_true rfl)) (fun r_1 t_5 t_6 t_7 t_8 t_9 t_10 t_11 t_12 t_13 t_14 t_15 t_16 t_17 xw_2 hx_3 hr_4 => ?_)
  refine k_pop X dL_law_k101.1.2.2 rfl ?_
  refine k_aload_n X dL_law_k101.2.1.1 2 rfl ?_
  refine lm_undo (st := []) () X hm dL_law_k101.2.1.2 mw1519 (Nat.le_of_ble_eq_true rfl) (Nat.le_of_ble_eq_true rfl) (Nat.le_of_ble_eq_true rfl) (Nat.le_trans h1 (Nat.le_of_ble_eq_true rfl)) (Nat.le_trans h2 (Nat.le_of_ble_eq_true rfl)) (fun r_18 t_22 t_23 mw_19 hm_20 hr_21 => ?_)
  refine k_pop X dL_law_k101.2.2.1 rfl ?_
  refine k_goto 2062 X dL_law_k101.2.2.2 (jp_e rfl) ?_
  exact kk _ _ _ _ _ _ _ _ _ _ _ _ _ _ _ _ _ _ _ _ _ _ _ _ _ _ _ _ _ _ _ _ _ _ _ _ _ _ _ _ hx_3 hm_20 (LR_undo hR hr_4 hr_21)

theorem dL_law_k102 : ((dD cL_law 1958 (.aload_n 1) 1 ∧ (dD cL_law 1959 (.invokevirtual 229) 3 ∧ dD cL_law 1962 .pop 1)) ∧ ((dD cL_law 1963 (.aload_n 2) 1 ∧ dD cL_law 1964 (.invokevirtual 232) 3) ∧ (dD cL_law 1967 .pop 1 ∧ dD cL_law 1968 (.goto 94) 3))) := dkA7 (by decide +kernel)
set_option maxHeartbeats 4000000 in
set_option maxRecDepth 100000 in
theorem law_c50 {p : Program} {l : Launch} {e : Env} {s : State} {m : MethodId} {below : List Frame} {meth : Method} {c : Code} {A : Nat → Prop} {g : Gx} {b L : Nat} {xs : Nat → Int32} {h0 mo lo n1 n2 : Nat} {fo : Nat → Int64} {u4 : Int32} {xtpd : Int32} {tpf : Nat → Int32} {yhnf : Nat → Int32} {yhtn : Int32} {yhtf : Nat → Int32} {yhjn : Int32} {yhjf : Nat → Int32} {yhmn : Int32} {yhmf : Nat → Int32} {yhbn : Int32} {yhbf : Nat → Int32} {yhsn : Int32} {yhsf : Nat → Int32} {yhcn : Int32} {yhcf : Nat → Int32} {zrn : Int32} {zmn : Int32} {zwn : Int32} {zpn : Int32} {zmd : Int32} {ztr : Int32} {zrf : Nat → Int32} {zmf : Nat → Int32} {zwf : Nat → Int32} {zpf : Nat → Int32} {kac : Int32} {knx : Int32} {kim : Int32} {cf : Nat → SC} {m_taped : Int32} {d_tape : Nat → Int32} {d_r : Nat → Int32} {d_st : Nat → Int32} {d_undone : Nat → Int32} {d_kept : Nat → Int32} {m_undos : Int32} {m_images : Int32} {m_hasHouse : Int32} {xw mw : va_W} (X : Cx p s m meth c #[Value.ref b] cL_law 7 RL A g) (hX : va_X b L xs s s.heap) (hbl : b < s.heap.size) (hbA : ¬ A b) (hi : 0 ≤ u4.toInt ∧ u4.toInt + 6 ≤ (L : Int)) (hL : L ≤ 3072) (h1 : n1 ≤ 601023) (h2 : n2 ≤ 7293028) (hlt : l.stackTraces = false) (hZ : kZ A s s.heap) (htsE : ∀ w ∈ wsE, w.before #[Value.ref b] s = true) (hx : XW g h0 xtpd tpf yhnf yhtn yhtf yhjn yhjf yhmn yhmf yhbn yhbf yhsn yhsf yhcn yhcf zrn zmn zwn zpn zmd ztr zrf zmf zwf zpf kac knx kim cf xw) (hm : MW g mo m_taped d_tape d_r d_st d_undone d_kept m_undos m_images m_hasHouse mw) (hR : LR xtpd tpf yhnf yhtn yhtf yhjn yhjf yhmn yhmf yhbn yhbf yhsn yhsf yhcn yhcf zrn zmn zwn zpn zmd ztr zrf zmf zwf zpf kac knx kim cf m_taped d_tape d_r d_st d_undone d_kept m_undos m_images m_hasHouse) (kk : ∀ (xtpd_2 : Int32) (tpf_2 : Nat → Int32) (yhnf_2 : Nat → Int32) (yhtn_2 : Int32) (yhtf_2 : Nat → Int32) (yhjn_2 : Int32) (yhjf_2 : Nat → Int32) (yhmn_2 : Int32) (yhmf_2 : Nat → Int32) (yhbn_2 : Int32) (yhbf_2 : Nat → Int32) (yhsn_2 : Int32) (yhsf_2 : Nat → Int32) (yhcn_2 : Int32) (yhcf_2 : Nat → Int32) (zrn_2 : Int32) (zmn_2 : Int32) (zwn_2 : Int32) (zpn_2 : Int32) (zmd_2 : Int32) (ztr_2 : Int32) (zrf_2 : Nat → Int32) (zmf_2 : Nat → Int32) (zwf_2 : Nat → Int32) (zpf_2 : Nat → Int32) (kac_2 : Int32) (knx_2 : Int32) (kim_2 : Int32) (cf_2 : Nat → SC) (m_taped_2 : Int32) (d_tape_2 : Nat → Int32) (d_r_2 : Nat → Int32) (d_st_2 : Nat → Int32) (d_undone_2 : Nat → Int32) (d_kept_2 : Nat → Int32) (m_undos_2 : Int32) (m_images_2 : Int32) (m_hasHouse_2 : Int32) (xw2 mw2 : va_W), XW g h0 xtpd_2 tpf_2 yhnf_2 yhtn_2 yhtf_2 yhjn_2 yhjf_2 yhmn_2 yhmf_2 yhbn_2 yhbf_2 yhsn_2 yhsf_2 yhcn_2 yhcf_2 zrn_2 zmn_2 zwn_2 zpn_2 zmd_2 ztr_2 zrf_2 zmf_2 zwf_2 zpf_2 kac_2 knx_2 kim_2 cf_2 xw2 → MW g mo m_taped_2 d_tape_2 d_r_2 d_st_2 d_undone_2 d_kept_2 m_undos_2 m_images_2 m_hasHouse_2 mw2 → LR xtpd_2 tpf_2 yhnf_2 yhtn_2 yhtf_2 yhjn_2 yhjf_2 yhmn_2 yhmf_2 yhbn_2 yhbf_2 yhsn_2 yhsf_2 yhcn_2 yhcf_2 zrn_2 zmn_2 zwn_2 zpn_2 zmd_2 ztr_2 zrf_2 zmf_2 zwf_2 zpf_2 kac_2 knx_2 kim_2 cf_2 m_taped_2 d_tape_2 d_r_2 d_st_2 d_undone_2 d_kept_2 m_undos_2 m_images_2 m_hasHouse_2 → Wk p l e room_1 s m #[Value.ref b] below meth c (lw_Z below #[Value.ref b] s) A g 7 n1 n2 (xw2 ++ (mw2 ++ [(cAJ g lo 1 fo)])) [(4, .int u4), (3, .ref lo), (2, .ref mo), (1, .ref h0), (0, .ref b)] 2062 []) : Wk p l e room_1 s m #[Value.ref b] below meth c (lw_Z below #[Value.ref b] s) A g 7 n1 n2 (xw ++ (mw ++ [(cAJ g lo 1 fo)])) [(4, .int u4), (3, .ref lo), (2, .ref mo), (1, .ref h0), (0, .ref b)] 1958 [] := by
  have hiv : IV u4 0 3066 := ⟨hi.1, by omega⟩
  refine k_aload_n X dL_law_k102.1.1 3 rfl ?_
  refine lx_image (st := []) () X hx dL_law_k102.1.2.1 mw1523 (Nat.le_of_ble_eq_true rfl) (Nat.le_of_ble_eq_true rfl) (Nat.le_of_ble_eq_true rfl) (Nat.le_trans h1 (Nat.le_of_ble_eq_true rfl)) (Nat.le_trans h2 (Nat.le_of_ble_eq_true rfl)) (fun r_1 t_5 t_6 t_7 t_8 t_9 t_10 t_11 t_12 t_13 t_14 t_15 t_16 xw_2 hx_3 hr_4 => ?_)
  refine k_pop X dL_law_k102.1.2.2 rfl ?_
  refine k_aload_n X dL_law_k102.2.1.1 2 rfl ?_
  refine lm_image (st := []) () X hm dL_law_k102.2.1.2 mw1531 (Nat.le_of_ble_eq_true rfl) (Nat.le_of_ble_eq_true rfl) (Nat.le_of_ble_eq_true rfl) (Nat.le_trans h1 (Nat.le_of_ble_eq_true rfl)) (Nat.le_trans h2 (Nat.le_of_ble_eq_true rfl)) (fun r_17 t_21 t_22 mw_18 hm_19 hr_20 => ?_)
  refine k_pop X dL_law_k102.2.2.1 rfl ?_
  refine k_goto 2062 X dL_law_k102.2.2.2 (jp_e rfl) ?_
  exact kk _ _ _ _ _ _ _ _ _ _ _ _ _ _ _ _ _ _ _ _ _ _ _ _ _ _ _ _ _ _ _ _ _ _ _ _ _ _ _ _ hx_3 hm_19 (LR_image hR hr_4 hr_20)

theorem dL_law_k103 : ((((dD cL_law 1971 (.aload_n 1) 1 ∧ dD cL_law 1972 (.aload_n 0) 1) ∧ (dD cL_law 1973 (.iload 4) 2 ∧ dD cL_law 1975 (.iconst 1) 1)) ∧ ((dD cL_law 1976 .iadd 1 ∧ dD cL_law 1977 .iaload 1) ∧ (dD cL_law 1978 (.invokevirtual 233) 3 ∧ dD cL_law 1981 .pop 1))) ∧ (((dD cL_law 1982 (.aload_n 2) 1 ∧ dD cL_law 1983 (.aload_n 0) 1) ∧ (dD cL_law 1984 (.iload 4) 2 ∧ dD cL_law 1986 (.iconst 1) 1)) ∧ ((dD cL_law 1987 .iadd 1 ∧ dD cL_law 1988 .iaload 1) ∧ (dD cL_law 1989 (.invokevirtual 237) 3 ∧ dD cL_law 1992 .pop 1)))) := dkA16 (by decide +kernel)
theorem dL_law_k104 : dD cL_law 1993 (.goto 69) 3 := dkA1 (by decide +kernel)
set_option maxHeartbeats 4000000 in
set_option maxRecDepth 100000 in
theorem law_c51 {p : Program} {l : Launch} {e : Env} {s : State} {m : MethodId} {below : List Frame} {meth : Method} {c : Code} {A : Nat → Prop} {g : Gx} {b L : Nat} {xs : Nat → Int32} {h0 mo lo n1 n2 : Nat} {fo : Nat → Int64} {u4 : Int32} {xtpd : Int32} {tpf : Nat → Int32} {yhnf : Nat → Int32} {yhtn : Int32} {yhtf : Nat → Int32} {yhjn : Int32} {yhjf : Nat → Int32} {yhmn : Int32} {yhmf : Nat → Int32} {yhbn : Int32} {yhbf : Nat → Int32} {yhsn : Int32} {yhsf : Nat → Int32} {yhcn : Int32} {yhcf : Nat → Int32} {zrn : Int32} {zmn : Int32} {zwn : Int32} {zpn : Int32} {zmd : Int32} {ztr : Int32} {zrf : Nat → Int32} {zmf : Nat → Int32} {zwf : Nat → Int32} {zpf : Nat → Int32} {kac : Int32} {knx : Int32} {kim : Int32} {cf : Nat → SC} {m_taped : Int32} {d_tape : Nat → Int32} {d_r : Nat → Int32} {d_st : Nat → Int32} {d_undone : Nat → Int32} {d_kept : Nat → Int32} {m_undos : Int32} {m_images : Int32} {m_hasHouse : Int32} {xw mw : va_W} (X : Cx p s m meth c #[Value.ref b] cL_law 7 RL A g) (hX : va_X b L xs s s.heap) (hbl : b < s.heap.size) (hbA : ¬ A b) (hi : 0 ≤ u4.toInt ∧ u4.toInt + 6 ≤ (L : Int)) (hL : L ≤ 3072) (h1 : n1 ≤ 601023) (h2 : n2 ≤ 7293028) (hlt : l.stackTraces = false) (hZ : kZ A s s.heap) (htsE : ∀ w ∈ wsE, w.before #[Value.ref b] s = true) (hx : XW g h0 xtpd tpf yhnf yhtn yhtf yhjn yhjf yhmn yhmf yhbn yhbf yhsn yhsf yhcn yhcf zrn zmn zwn zpn zmd ztr zrf zmf zwf zpf kac knx kim cf xw) (hm : MW g mo m_taped d_tape d_r d_st d_undone d_kept m_undos m_images m_hasHouse mw) (hR : LR xtpd tpf yhnf yhtn yhtf yhjn yhjf yhmn yhmf yhbn yhbf yhsn yhsf yhcn yhcf zrn zmn zwn zpn zmd ztr zrf zmf zwf zpf kac knx kim cf m_taped d_tape d_r d_st d_undone d_kept m_undos m_images m_hasHouse) (kk : ∀ (xtpd_2 : Int32) (tpf_2 : Nat → Int32) (yhnf_2 : Nat → Int32) (yhtn_2 : Int32) (yhtf_2 : Nat → Int32) (yhjn_2 : Int32) (yhjf_2 : Nat → Int32) (yhmn_2 : Int32) (yhmf_2 : Nat → Int32) (yhbn_2 : Int32) (yhbf_2 : Nat → Int32) (yhsn_2 : Int32) (yhsf_2 : Nat → Int32) (yhcn_2 : Int32) (yhcf_2 : Nat → Int32) (zrn_2 : Int32) (zmn_2 : Int32) (zwn_2 : Int32) (zpn_2 : Int32) (zmd_2 : Int32) (ztr_2 : Int32) (zrf_2 : Nat → Int32) (zmf_2 : Nat → Int32) (zwf_2 : Nat → Int32) (zpf_2 : Nat → Int32) (kac_2 : Int32) (knx_2 : Int32) (kim_2 : Int32) (cf_2 : Nat → SC) (m_taped_2 : Int32) (d_tape_2 : Nat → Int32) (d_r_2 : Nat → Int32) (d_st_2 : Nat → Int32) (d_undone_2 : Nat → Int32) (d_kept_2 : Nat → Int32) (m_undos_2 : Int32) (m_images_2 : Int32) (m_hasHouse_2 : Int32) (xw2 mw2 : va_W), XW g h0 xtpd_2 tpf_2 yhnf_2 yhtn_2 yhtf_2 yhjn_2 yhjf_2 yhmn_2 yhmf_2 yhbn_2 yhbf_2 yhsn_2 yhsf_2 yhcn_2 yhcf_2 zrn_2 zmn_2 zwn_2 zpn_2 zmd_2 ztr_2 zrf_2 zmf_2 zwf_2 zpf_2 kac_2 knx_2 kim_2 cf_2 xw2 → MW g mo m_taped_2 d_tape_2 d_r_2 d_st_2 d_undone_2 d_kept_2 m_undos_2 m_images_2 m_hasHouse_2 mw2 → LR xtpd_2 tpf_2 yhnf_2 yhtn_2 yhtf_2 yhjn_2 yhjf_2 yhmn_2 yhmf_2 yhbn_2 yhbf_2 yhsn_2 yhsf_2 yhcn_2 yhcf_2 zrn_2 zmn_2 zwn_2 zpn_2 zmd_2 ztr_2 zrf_2 zmf_2 zwf_2 zpf_2 kac_2 knx_2 kim_2 cf_2 m_taped_2 d_tape_2 d_r_2 d_st_2 d_undone_2 d_kept_2 m_undos_2 m_images_2 m_hasHouse_2 → Wk p l e room_1 s m #[Value.ref b] below meth c (lw_Z below #[Value.ref b] s) A g 7 n1 n2 (xw2 ++ (mw2 ++ [(cAJ g lo 1 fo)])) [(4, .int u4), (3, .ref lo), (2, .ref mo), (1, .ref h0), (0, .ref b)] 2062 []) : Wk p l e room_1 s m #[Value.ref b] below meth c (lw_Z below #[Value.ref b] s) A g 7 n1 n2 (xw ++ (mw ++ [(cAJ g lo 1 fo)])) [(4, .int u4), (3, .ref lo), (2, .ref mo), (1, .ref h0), (0, .ref b)] 1971 [] := by
  have hiv : IV u4 0 3066 := ⟨hi.1, by omega⟩
  refine k_aload_n X dL_law_k103.1.1.1.1 3 rfl ?_
  refine k_aload_n X dL_law_k103.1.1.1.2 4 rfl ?_
  refine k_iload X dL_law_k103.1.1.2.1 0 rfl ?_
  refine k_iconst (v := 1) X dL_law_k103.1.1.2.2 ic_1 ?_
  refine k_iadd X dL_law_k103.1.2.1.1 ?_
  refine k_nm (fun z_1 ez_1 => ?_)
  have i_2 : z_1.toInt = u4.toInt + 1 := in_add ez_1 hiv iq_1_1_1 (zle_e rfl) (zle_e rfl)
  have iv_3 : IV z_1 1 3067 := by have := hiv; have := iq_1_1_1; rw [IV, i_2]; omega
  refine k_sld X hX hbl hbA dL_law_k103.1.2.1.2 (by rw [vp_in_iff]; have := iv_3; omega) ?_
  refine k_nm (fun a_4 ea_4 => ?_)
  refine lx_back (st := []) a_4 X hx dL_law_k103.1.2.2.1 mw1535 (Nat.le_of_ble_eq_true rfl) (Nat.le_of_ble_eq_true rfl) (Nat.le_of_ble_eq_true rfl) (Nat.le_trans h1 (Nat.le_of_ble_eq_true rfl)) (Nat.le_trans h2 (Nat.le_of_ble_eq_true rfl)) (fun r_5 t_9 t_10 t_11 t_12 t_13 t_14 t_15 t_16 t_17 t_18 t_19 t_20 xw_6 hx_7 hr_8 => ?_)
  refine k_pop X dL_law_k103.1.2.2.2 rfl ?_
  refine k_aload_n X dL_law_k103.2.1.1.1 2 rfl ?_
  refine k_aload_n X dL_law_k103.2.1.1.2 4 rfl ?_
  refine k_iload X dL_law_k103.2.1.2.1 0 rfl ?_
  refine k_iconst (v := 1) X dL_law_k103.2.1.2.2 ic_1 ?_
  refine k_iadd X dL_law_k103.2.2.1.1 ?_
  refine k_to z_1 ez_1.symm ?_
  refine k_sld X hX hbl hbA dL_law_k103.2.2.1.2 (by rw [vp_in_iff]; have := iv_3; omega) ?_
  refine k_to a_4 ea_4.symm ?_
  refine lm_back (st := []) a_4 X hm dL_law_k103.2.2.2.1 mw1543 (Nat.le_of_ble_eq_true rfl) (Nat.le_of_ble_eq_true rfl) (Nat.le_of_ble_eq_true rfl) (Nat.le_trans h1 (Nat.le_of_ble_eq_true rfl)) (Nat.le_trans h2 (Nat.le_of_ble_eq_true rfl)) (fun r_21 t_25 t_26 mw_22 hm_23 hr_24 => ?_)
  refine k_pop X dL_law_k103.2.2.2.2 rfl ?_
  refine k_goto 2062 X dL_law_k104 (jp_e rfl) ?_
  exact kk _ _ _ _ _ _ _ _ _ _ _ _ _ _ _ _ _ _ _ _ _ _ _ _ _ _ _ _ _ _ _ _ _ _ _ _ _ _ _ _ hx_7 hm_23 (LR_back hR hr_8 hr_24)

theorem dL_law_k105 : ((((dD cL_law 1996 (.aload_n 1) 1 ∧ dD cL_law 1997 (.aload_n 0) 1) ∧ (dD cL_law 1998 (.iload 4) 2 ∧ dD cL_law 2000 (.iconst 1) 1)) ∧ ((dD cL_law 2001 .iadd 1 ∧ dD cL_law 2002 .iaload 1) ∧ (dD cL_law 2003 (.aload_n 3) 1 ∧ dD cL_law 2004 (.invokestatic 238) 3))) ∧ (((dD cL_law 2007 (.istore 5) 2 ∧ dD cL_law 2009 (.aload_n 2) 1) ∧ (dD cL_law 2010 (.aload_n 0) 1 ∧ dD cL_law 2011 (.iload 4) 2)) ∧ ((dD cL_law 2013 (.iconst 1) 1 ∧ dD cL_law 2014 .iadd 1) ∧ (dD cL_law 2015 .iaload 1 ∧ dD cL_law 2016 (.invokevirtual 243) 3)))) := dkA16 (by decide +kernel)
theorem dL_law_k106 : (dD cL_law 2019 (.istore 6) 2 ∧ dD cL_law 2021 (.goto 41) 3) := dkA2 (by decide +kernel)
set_option maxHeartbeats 4000000 in
set_option maxRecDepth 100000 in
theorem law_c52 {p : Program} {l : Launch} {e : Env} {s : State} {m : MethodId} {below : List Frame} {meth : Method} {c : Code} {A : Nat → Prop} {g : Gx} {b L : Nat} {xs : Nat → Int32} {h0 mo lo n1 n2 : Nat} {fo : Nat → Int64} {u4 : Int32} {xtpd : Int32} {tpf : Nat → Int32} {yhnf : Nat → Int32} {yhtn : Int32} {yhtf : Nat → Int32} {yhjn : Int32} {yhjf : Nat → Int32} {yhmn : Int32} {yhmf : Nat → Int32} {yhbn : Int32} {yhbf : Nat → Int32} {yhsn : Int32} {yhsf : Nat → Int32} {yhcn : Int32} {yhcf : Nat → Int32} {zrn : Int32} {zmn : Int32} {zwn : Int32} {zpn : Int32} {zmd : Int32} {ztr : Int32} {zrf : Nat → Int32} {zmf : Nat → Int32} {zwf : Nat → Int32} {zpf : Nat → Int32} {kac : Int32} {knx : Int32} {kim : Int32} {cf : Nat → SC} {m_taped : Int32} {d_tape : Nat → Int32} {d_r : Nat → Int32} {d_st : Nat → Int32} {d_undone : Nat → Int32} {d_kept : Nat → Int32} {m_undos : Int32} {m_images : Int32} {m_hasHouse : Int32} {xw mw : va_W} (X : Cx p s m meth c #[Value.ref b] cL_law 7 RL A g) (hX : va_X b L xs s s.heap) (hbl : b < s.heap.size) (hbA : ¬ A b) (hi : 0 ≤ u4.toInt ∧ u4.toInt + 6 ≤ (L : Int)) (hL : L ≤ 3072) (h1 : n1 ≤ 601023) (h2 : n2 ≤ 7293028) (hlt : l.stackTraces = false) (hZ : kZ A s s.heap) (htsE : ∀ w ∈ wsE, w.before #[Value.ref b] s = true) (hx : XW g h0 xtpd tpf yhnf yhtn yhtf yhjn yhjf yhmn yhmf yhbn yhbf yhsn yhsf yhcn yhcf zrn zmn zwn zpn zmd ztr zrf zmf zwf zpf kac knx kim cf xw) (hm : MW g mo m_taped d_tape d_r d_st d_undone d_kept m_undos m_images m_hasHouse mw) (hR : LR xtpd tpf yhnf yhtn yhtf yhjn yhjf yhmn yhmf yhbn yhbf yhsn yhsf yhcn yhcf zrn zmn zwn zpn zmd ztr zrf zmf zwf zpf kac knx kim cf m_taped d_tape d_r d_st d_undone d_kept m_undos m_images m_hasHouse) (kk : ∀ (xtpd_2 : Int32) (tpf_2 : Nat → Int32) (yhnf_2 : Nat → Int32) (yhtn_2 : Int32) (yhtf_2 : Nat → Int32) (yhjn_2 : Int32) (yhjf_2 : Nat → Int32) (yhmn_2 : Int32) (yhmf_2 : Nat → Int32) (yhbn_2 : Int32) (yhbf_2 : Nat → Int32) (yhsn_2 : Int32) (yhsf_2 : Nat → Int32) (yhcn_2 : Int32) (yhcf_2 : Nat → Int32) (zrn_2 : Int32) (zmn_2 : Int32) (zwn_2 : Int32) (zpn_2 : Int32) (zmd_2 : Int32) (ztr_2 : Int32) (zrf_2 : Nat → Int32) (zmf_2 : Nat → Int32) (zwf_2 : Nat → Int32) (zpf_2 : Nat → Int32) (kac_2 : Int32) (knx_2 : Int32) (kim_2 : Int32) (cf_2 : Nat → SC) (m_taped_2 : Int32) (d_tape_2 : Nat → Int32) (d_r_2 : Nat → Int32) (d_st_2 : Nat → Int32) (d_undone_2 : Nat → Int32) (d_kept_2 : Nat → Int32) (m_undos_2 : Int32) (m_images_2 : Int32) (m_hasHouse_2 : Int32) (xw2 mw2 : va_W) (fo2 : Nat → Int64), XW g h0 xtpd_2 tpf_2 yhnf_2 yhtn_2 yhtf_2 yhjn_2 yhjf_2 yhmn_2 yhmf_2 yhbn_2 yhbf_2 yhsn_2 yhsf_2 yhcn_2 yhcf_2 zrn_2 zmn_2 zwn_2 zpn_2 zmd_2 ztr_2 zrf_2 zmf_2 zwf_2 zpf_2 kac_2 knx_2 kim_2 cf_2 xw2 → MW g mo m_taped_2 d_tape_2 d_r_2 d_st_2 d_undone_2 d_kept_2 m_undos_2 m_images_2 m_hasHouse_2 mw2 → LR xtpd_2 tpf_2 yhnf_2 yhtn_2 yhtf_2 yhjn_2 yhjf_2 yhmn_2 yhmf_2 yhbn_2 yhbf_2 yhsn_2 yhsf_2 yhcn_2 yhcf_2 zrn_2 zmn_2 zwn_2 zpn_2 zmd_2 ztr_2 zrf_2 zmf_2 zwf_2 zpf_2 kac_2 knx_2 kim_2 cf_2 m_taped_2 d_tape_2 d_r_2 d_st_2 d_undone_2 d_kept_2 m_undos_2 m_images_2 m_hasHouse_2 → Wk p l e room_1 s m #[Value.ref b] below meth c (lw_Z below #[Value.ref b] s) A g 7 (n1 + 1) (n2 + 6) (xw2 ++ (mw2 ++ [(cAJ g lo 1 fo2)])) [(4, .int u4), (3, .ref lo), (2, .ref mo), (1, .ref h0), (0, .ref b)] 2062 []) : Wk p l e room_1 s m #[Value.ref b] below meth c (lw_Z below #[Value.ref b] s) A g 7 n1 n2 (xw ++ (mw ++ [(cAJ g lo 1 fo)])) [(4, .int u4), (3, .ref lo), (2, .ref mo), (1, .ref h0), (0, .ref b)] 1996 [] := by
  have hiv : IV u4 0 3066 := ⟨hi.1, by omega⟩
  refine k_aload_n X dL_law_k105.1.1.1.1 3 rfl ?_
  refine k_aload_n X dL_law_k105.1.1.1.2 4 rfl ?_
  refine k_iload X dL_law_k105.1.1.2.1 0 rfl ?_
  refine k_iconst (v := 1) X dL_law_k105.1.1.2.2 ic_1 ?_
  refine k_iadd X dL_law_k105.1.2.1.1 ?_
  refine k_nm (fun z_1 ez_1 => ?_)
  have i_2 : z_1.toInt = u4.toInt + 1 := in_add ez_1 hiv iq_1_1_1 (zle_e rfl) (zle_e rfl)
  have iv_3 : IV z_1 1 3067 := by have := hiv; have := iq_1_1_1; rw [IV, i_2]; omega
  refine k_sld X hX hbl hbA dL_law_k105.1.2.1.2 (by rw [vp_in_iff]; have := iv_3; omega) ?_
  refine k_nm (fun a_4 ea_4 => ?_)
  refine k_aload_n X dL_law_k105.1.2.2.1 1 rfl ?_
  refine lx_led (st := []) a_4 hlt hZ htsE X hx dL_law_k105.1.2.2.2 (Nat.le_of_ble_eq_true rfl) (Nat.le_of_ble_eq_true rfl) (Nat.le_of_ble_eq_true rfl) (Nat.le_trans (Nat.add_le_add_right h1 1) (Nat.le_of_ble_eq_true rfl)) (Nat.le_trans (Nat.add_le_add_right h2 6) (Nat.le_of_ble_eq_true rfl)) (fun r_5 xw_6 fo_7 hx_8 => ?_)
  refine k_istore [(5, .int r_5), (4, .int u4), (3, .ref lo), (2, .ref mo), (1, .ref h0), (0, .ref b)] X dL_law_k105.2.1.1.1 (nlt_e rfl) rfl ?_
  refine k_aload_n X dL_law_k105.2.1.1.2 3 rfl ?_
  refine k_aload_n X dL_law_k105.2.1.2.1 5 rfl ?_
  refine k_iload X dL_law_k105.2.1.2.2 1 rfl ?_
  refine k_iconst (v := 1) X dL_law_k105.2.2.1.1 ic_1 ?_
  refine k_iadd X dL_law_k105.2.2.1.2 ?_
  refine k_to z_1 ez_1.symm ?_
  refine k_sld X hX hbl hbA dL_law_k105.2.2.2.1 (by rw [vp_in_iff]; have := iv_3; omega) ?_
  refine k_to a_4 ea_4.symm ?_
  refine lm_led (st := []) a_4 X hm dL_law_k105.2.2.2.2 mw1558 (Nat.le_of_ble_eq_true rfl) (Nat.le_of_ble_eq_true rfl) (Nat.le_of_ble_eq_true rfl) (Nat.le_trans (Nat.add_le_add_right h1 1) (Nat.le_of_ble_eq_true rfl)) (Nat.le_trans (Nat.add_le_add_right h2 6) (Nat.le_of_ble_eq_true rfl)) (fun r_9 mw_10 hm_11 => ?_)
  refine k_istore [(6, .int r_9), (5, .int r_5), (4, .int u4), (3, .ref lo), (2, .ref mo), (1, .ref h0), (0, .ref b)] X dL_law_k106.1 (nlt_e rfl) rfl ?_
  refine k_goto 2062 X dL_law_k106.2 (jp_e rfl) ?_
  refine k_lv [(4, .int u4), (3, .ref lo), (2, .ref mo), (1, .ref h0), (0, .ref b)] [2, 3, 4, 5, 6] rfl ?_
  exact kk _ _ _ _ _ _ _ _ _ _ _ _ _ _ _ _ _ _ _ _ _ _ _ _ _ _ _ _ _ _ _ _ _ _ _ _ _ _ _ _ _ hx_8 hm_11 hR

theorem dL_law_k107 : ((((dD cL_law 2024 (.aload_n 1) 1 ∧ dD cL_law 2025 (.aload_n 0) 1) ∧ (dD cL_law 2026 (.iload 4) 2 ∧ dD cL_law 2028 (.iconst 1) 1)) ∧ ((dD cL_law 2029 .iadd 1 ∧ dD cL_law 2030 .iaload 1) ∧ (dD cL_law 2031 (.invokevirtual 244) 3 ∧ dD cL_law 2034 .pop 1))) ∧ (((dD cL_law 2035 (.aload_n 2) 1 ∧ dD cL_law 2036 (.aload_n 0) 1) ∧ (dD cL_law 2037 (.iload 4) 2 ∧ dD cL_law 2039 (.iconst 1) 1)) ∧ ((dD cL_law 2040 .iadd 1 ∧ dD cL_law 2041 .iaload 1) ∧ (dD cL_law 2042 (.invokevirtual 247) 3 ∧ dD cL_law 2045 .pop 1)))) := dkA16 (by decide +kernel)
theorem dL_law_k108 : dD cL_law 2046 (.goto 16) 3 := dkA1 (by decide +kernel)
set_option maxHeartbeats 4000000 in
set_option maxRecDepth 100000 in
theorem law_c53 {p : Program} {l : Launch} {e : Env} {s : State} {m : MethodId} {below : List Frame} {meth : Method} {c : Code} {A : Nat → Prop} {g : Gx} {b L : Nat} {xs : Nat → Int32} {h0 mo lo n1 n2 : Nat} {fo : Nat → Int64} {u4 : Int32} {xtpd : Int32} {tpf : Nat → Int32} {yhnf : Nat → Int32} {yhtn : Int32} {yhtf : Nat → Int32} {yhjn : Int32} {yhjf : Nat → Int32} {yhmn : Int32} {yhmf : Nat → Int32} {yhbn : Int32} {yhbf : Nat → Int32} {yhsn : Int32} {yhsf : Nat → Int32} {yhcn : Int32} {yhcf : Nat → Int32} {zrn : Int32} {zmn : Int32} {zwn : Int32} {zpn : Int32} {zmd : Int32} {ztr : Int32} {zrf : Nat → Int32} {zmf : Nat → Int32} {zwf : Nat → Int32} {zpf : Nat → Int32} {kac : Int32} {knx : Int32} {kim : Int32} {cf : Nat → SC} {m_taped : Int32} {d_tape : Nat → Int32} {d_r : Nat → Int32} {d_st : Nat → Int32} {d_undone : Nat → Int32} {d_kept : Nat → Int32} {m_undos : Int32} {m_images : Int32} {m_hasHouse : Int32} {xw mw : va_W} (X : Cx p s m meth c #[Value.ref b] cL_law 7 RL A g) (hX : va_X b L xs s s.heap) (hbl : b < s.heap.size) (hbA : ¬ A b) (hi : 0 ≤ u4.toInt ∧ u4.toInt + 6 ≤ (L : Int)) (hL : L ≤ 3072) (h1 : n1 ≤ 601023) (h2 : n2 ≤ 7293028) (hlt : l.stackTraces = false) (hZ : kZ A s s.heap) (htsE : ∀ w ∈ wsE, w.before #[Value.ref b] s = true) (hx : XW g h0 xtpd tpf yhnf yhtn yhtf yhjn yhjf yhmn yhmf yhbn yhbf yhsn yhsf yhcn yhcf zrn zmn zwn zpn zmd ztr zrf zmf zwf zpf kac knx kim cf xw) (hm : MW g mo m_taped d_tape d_r d_st d_undone d_kept m_undos m_images m_hasHouse mw) (hR : LR xtpd tpf yhnf yhtn yhtf yhjn yhjf yhmn yhmf yhbn yhbf yhsn yhsf yhcn yhcf zrn zmn zwn zpn zmd ztr zrf zmf zwf zpf kac knx kim cf m_taped d_tape d_r d_st d_undone d_kept m_undos m_images m_hasHouse) (kk : ∀ (xtpd_2 : Int32) (tpf_2 : Nat → Int32) (yhnf_2 : Nat → Int32) (yhtn_2 : Int32) (yhtf_2 : Nat → Int32) (yhjn_2 : Int32) (yhjf_2 : Nat → Int32) (yhmn_2 : Int32) (yhmf_2 : Nat → Int32) (yhbn_2 : Int32) (yhbf_2 : Nat → Int32) (yhsn_2 : Int32) (yhsf_2 : Nat → Int32) (yhcn_2 : Int32) (yhcf_2 : Nat → Int32) (zrn_2 : Int32) (zmn_2 : Int32) (zwn_2 : Int32) (zpn_2 : Int32) (zmd_2 : Int32) (ztr_2 : Int32) (zrf_2 : Nat → Int32) (zmf_2 : Nat → Int32) (zwf_2 : Nat → Int32) (zpf_2 : Nat → Int32) (kac_2 : Int32) (knx_2 : Int32) (kim_2 : Int32) (cf_2 : Nat → SC) (m_taped_2 : Int32) (d_tape_2 : Nat → Int32) (d_r_2 : Nat → Int32) (d_st_2 : Nat → Int32) (d_undone_2 : Nat → Int32) (d_kept_2 : Nat → Int32) (m_undos_2 : Int32) (m_images_2 : Int32) (m_hasHouse_2 : Int32) (xw2 mw2 : va_W), XW g h0 xtpd_2 tpf_2 yhnf_2 yhtn_2 yhtf_2 yhjn_2 yhjf_2 yhmn_2 yhmf_2 yhbn_2 yhbf_2 yhsn_2 yhsf_2 yhcn_2 yhcf_2 zrn_2 zmn_2 zwn_2 zpn_2 zmd_2 ztr_2 zrf_2 zmf_2 zwf_2 zpf_2 kac_2 knx_2 kim_2 cf_2 xw2 → MW g mo m_taped_2 d_tape_2 d_r_2 d_st_2 d_undone_2 d_kept_2 m_undos_2 m_images_2 m_hasHouse_2 mw2 → LR xtpd_2 tpf_2 yhnf_2 yhtn_2 yhtf_2 yhjn_2 yhjf_2 yhmn_2 yhmf_2 yhbn_2 yhbf_2 yhsn_2 yhsf_2 yhcn_2 yhcf_2 zrn_2 zmn_2 zwn_2 zpn_2 zmd_2 ztr_2 zrf_2 zmf_2 zwf_2 zpf_2 kac_2 knx_2 kim_2 cf_2 m_taped_2 d_tape_2 d_r_2 d_st_2 d_undone_2 d_kept_2 m_undos_2 m_images_2 m_hasHouse_2 → Wk p l e room_1 s m #[Value.ref b] below meth c (lw_Z below #[Value.ref b] s) A g 7 n1 n2 (xw2 ++ (mw2 ++ [(cAJ g lo 1 fo)])) [(4, .int u4), (3, .ref lo), (2, .ref mo), (1, .ref h0), (0, .ref b)] 2062 []) : Wk p l e room_1 s m #[Value.ref b] below meth c (lw_Z below #[Value.ref b] s) A g 7 n1 n2 (xw ++ (mw ++ [(cAJ g lo 1 fo)])) [(4, .int u4), (3, .ref lo), (2, .ref mo), (1, .ref h0), (0, .ref b)] 2024 [] := by
  have hiv : IV u4 0 3066 := ⟨hi.1, by omega⟩
  refine k_aload_n X dL_law_k107.1.1.1.1 3 rfl ?_
  refine k_aload_n X dL_law_k107.1.1.1.2 4 rfl ?_
  refine k_iload X dL_law_k107.1.1.2.1 0 rfl ?_
  refine k_iconst (v := 1) X dL_law_k107.1.1.2.2 ic_1 ?_
  refine k_iadd X dL_law_k107.1.2.1.1 ?_
  refine k_nm (fun z_1 ez_1 => ?_)
  have i_2 : z_1.toInt = u4.toInt + 1 := in_add ez_1 hiv iq_1_1_1 (zle_e rfl) (zle_e rfl)
  have iv_3 : IV z_1 1 3067 := by have := hiv; have := iq_1_1_1; rw [IV, i_2]; omega
  refine k_sld X hX hbl hbA dL_law_k107.1.2.1.2 (by rw [vp_in_iff]; have := iv_3; omega) ?_
  refine k_nm (fun a_4 ea_4 => ?_)
  refine lx_size (st := []) a_4 X hx dL_law_k107.1.2.2.1 mw1562 (Nat.le_of_ble_eq_true rfl) (Nat.le_of_ble_eq_true rfl) (Nat.le_of_ble_eq_true rfl) (Nat.le_trans h1 (Nat.le_of_ble_eq_true rfl)) (Nat.le_trans h2 (Nat.le_of_ble_eq_true rfl)) (fun r_5 xw_6 hx_7 => ?_)
  refine k_pop X dL_law_k107.1.2.2.2 rfl ?_
  refine k_aload_n X dL_law_k107.2.1.1.1 2 rfl ?_
  refine k_aload_n X dL_law_k107.2.1.1.2 4 rfl ?_
  refine k_iload X dL_law_k107.2.1.2.1 0 rfl ?_
  refine k_iconst (v := 1) X dL_law_k107.2.1.2.2 ic_1 ?_
  refine k_iadd X dL_law_k107.2.2.1.1 ?_
  refine k_to z_1 ez_1.symm ?_
  refine k_sld X hX hbl hbA dL_law_k107.2.2.1.2 (by rw [vp_in_iff]; have := iv_3; omega) ?_
  refine k_to a_4 ea_4.symm ?_
  refine lm_size (st := []) a_4 X hm dL_law_k107.2.2.2.1 mw1570 (Nat.le_of_ble_eq_true rfl) (Nat.le_of_ble_eq_true rfl) (Nat.le_of_ble_eq_true rfl) (Nat.le_trans h1 (Nat.le_of_ble_eq_true rfl)) (Nat.le_trans h2 (Nat.le_of_ble_eq_true rfl)) (fun r_8 mw_9 hm_10 => ?_)
  refine k_pop X dL_law_k107.2.2.2.2 rfl ?_
  refine k_goto 2062 X dL_law_k108 (jp_e rfl) ?_
  exact kk _ _ _ _ _ _ _ _ _ _ _ _ _ _ _ _ _ _ _ _ _ _ _ _ _ _ _ _ _ _ _ _ _ _ _ _ _ _ _ _ hx_7 hm_10 hR

theorem dL_law_k109 : ((dD cL_law 2049 (.aload_n 1) 1 ∧ (dD cL_law 2050 (.invokevirtual 248) 3 ∧ dD cL_law 2053 .pop 1)) ∧ ((dD cL_law 2054 (.aload_n 2) 1 ∧ dD cL_law 2055 (.invokevirtual 251) 3) ∧ (dD cL_law 2058 .pop 1 ∧ dD cL_law 2059 (.goto 3) 3))) := dkA7 (by decide +kernel)
set_option maxHeartbeats 4000000 in
set_option maxRecDepth 100000 in
theorem law_c54 {p : Program} {l : Launch} {e : Env} {s : State} {m : MethodId} {below : List Frame} {meth : Method} {c : Code} {A : Nat → Prop} {g : Gx} {b L : Nat} {xs : Nat → Int32} {h0 mo lo n1 n2 : Nat} {fo : Nat → Int64} {u4 : Int32} {xtpd : Int32} {tpf : Nat → Int32} {yhnf : Nat → Int32} {yhtn : Int32} {yhtf : Nat → Int32} {yhjn : Int32} {yhjf : Nat → Int32} {yhmn : Int32} {yhmf : Nat → Int32} {yhbn : Int32} {yhbf : Nat → Int32} {yhsn : Int32} {yhsf : Nat → Int32} {yhcn : Int32} {yhcf : Nat → Int32} {zrn : Int32} {zmn : Int32} {zwn : Int32} {zpn : Int32} {zmd : Int32} {ztr : Int32} {zrf : Nat → Int32} {zmf : Nat → Int32} {zwf : Nat → Int32} {zpf : Nat → Int32} {kac : Int32} {knx : Int32} {kim : Int32} {cf : Nat → SC} {m_taped : Int32} {d_tape : Nat → Int32} {d_r : Nat → Int32} {d_st : Nat → Int32} {d_undone : Nat → Int32} {d_kept : Nat → Int32} {m_undos : Int32} {m_images : Int32} {m_hasHouse : Int32} {xw mw : va_W} (X : Cx p s m meth c #[Value.ref b] cL_law 7 RL A g) (hX : va_X b L xs s s.heap) (hbl : b < s.heap.size) (hbA : ¬ A b) (hi : 0 ≤ u4.toInt ∧ u4.toInt + 6 ≤ (L : Int)) (hL : L ≤ 3072) (h1 : n1 ≤ 601023) (h2 : n2 ≤ 7293028) (hlt : l.stackTraces = false) (hZ : kZ A s s.heap) (htsE : ∀ w ∈ wsE, w.before #[Value.ref b] s = true) (hx : XW g h0 xtpd tpf yhnf yhtn yhtf yhjn yhjf yhmn yhmf yhbn yhbf yhsn yhsf yhcn yhcf zrn zmn zwn zpn zmd ztr zrf zmf zwf zpf kac knx kim cf xw) (hm : MW g mo m_taped d_tape d_r d_st d_undone d_kept m_undos m_images m_hasHouse mw) (hR : LR xtpd tpf yhnf yhtn yhtf yhjn yhjf yhmn yhmf yhbn yhbf yhsn yhsf yhcn yhcf zrn zmn zwn zpn zmd ztr zrf zmf zwf zpf kac knx kim cf m_taped d_tape d_r d_st d_undone d_kept m_undos m_images m_hasHouse) (kk : ∀ (xtpd_2 : Int32) (tpf_2 : Nat → Int32) (yhnf_2 : Nat → Int32) (yhtn_2 : Int32) (yhtf_2 : Nat → Int32) (yhjn_2 : Int32) (yhjf_2 : Nat → Int32) (yhmn_2 : Int32) (yhmf_2 : Nat → Int32) (yhbn_2 : Int32) (yhbf_2 : Nat → Int32) (yhsn_2 : Int32) (yhsf_2 : Nat → Int32) (yhcn_2 : Int32) (yhcf_2 : Nat → Int32) (zrn_2 : Int32) (zmn_2 : Int32) (zwn_2 : Int32) (zpn_2 : Int32) (zmd_2 : Int32) (ztr_2 : Int32) (zrf_2 : Nat → Int32) (zmf_2 : Nat → Int32) (zwf_2 : Nat → Int32) (zpf_2 : Nat → Int32) (kac_2 : Int32) (knx_2 : Int32) (kim_2 : Int32) (cf_2 : Nat → SC) (m_taped_2 : Int32) (d_tape_2 : Nat → Int32) (d_r_2 : Nat → Int32) (d_st_2 : Nat → Int32) (d_undone_2 : Nat → Int32) (d_kept_2 : Nat → Int32) (m_undos_2 : Int32) (m_images_2 : Int32) (m_hasHouse_2 : Int32) (xw2 mw2 : va_W), XW g h0 xtpd_2 tpf_2 yhnf_2 yhtn_2 yhtf_2 yhjn_2 yhjf_2 yhmn_2 yhmf_2 yhbn_2 yhbf_2 yhsn_2 yhsf_2 yhcn_2 yhcf_2 zrn_2 zmn_2 zwn_2 zpn_2 zmd_2 ztr_2 zrf_2 zmf_2 zwf_2 zpf_2 kac_2 knx_2 kim_2 cf_2 xw2 → MW g mo m_taped_2 d_tape_2 d_r_2 d_st_2 d_undone_2 d_kept_2 m_undos_2 m_images_2 m_hasHouse_2 mw2 → LR xtpd_2 tpf_2 yhnf_2 yhtn_2 yhtf_2 yhjn_2 yhjf_2 yhmn_2 yhmf_2 yhbn_2 yhbf_2 yhsn_2 yhsf_2 yhcn_2 yhcf_2 zrn_2 zmn_2 zwn_2 zpn_2 zmd_2 ztr_2 zrf_2 zmf_2 zwf_2 zpf_2 kac_2 knx_2 kim_2 cf_2 m_taped_2 d_tape_2 d_r_2 d_st_2 d_undone_2 d_kept_2 m_undos_2 m_images_2 m_hasHouse_2 → Wk p l e room_1 s m #[Value.ref b] below meth c (lw_Z below #[Value.ref b] s) A g 7 n1 n2 (xw2 ++ (mw2 ++ [(cAJ g lo 1 fo)])) [(4, .int u4), (3, .ref lo), (2, .ref mo), (1, .ref h0), (0, .ref b)] 2062 []) : Wk p l e room_1 s m #[Value.ref b] below meth c (lw_Z below #[Value.ref b] s) A g 7 n1 n2 (xw ++ (mw ++ [(cAJ g lo 1 fo)])) [(4, .int u4), (3, .ref lo), (2, .ref mo), (1, .ref h0), (0, .ref b)] 2049 [] := by
  have hiv : IV u4 0 3066 := ⟨hi.1, by omega⟩
  refine k_aload_n X dL_law_k109.1.1 3 rfl ?_
  refine lx_trouble (st := []) () X hx dL_law_k109.1.2.1 mw1574 (Nat.le_of_ble_eq_true rfl) (Nat.le_of_ble_eq_true rfl) (Nat.le_of_ble_eq_true rfl) (Nat.le_trans h1 (Nat.le_of_ble_eq_true rfl)) (Nat.le_trans h2 (Nat.le_of_ble_eq_true rfl)) (fun r_1 xw_2 hx_3 => ?_)
  refine k_pop X dL_law_k109.1.2.2 rfl ?_
  refine k_aload_n X dL_law_k109.2.1.1 2 rfl ?_
  refine lm_trouble (st := []) () X hm dL_law_k109.2.1.2 mw1578 (Nat.le_of_ble_eq_true rfl) (Nat.le_of_ble_eq_true rfl) (Nat.le_of_ble_eq_true rfl) (Nat.le_trans h1 (Nat.le_of_ble_eq_true rfl)) (Nat.le_trans h2 (Nat.le_of_ble_eq_true rfl)) (fun r_4 mw_5 hm_6 => ?_)
  refine k_pop X dL_law_k109.2.2.1 rfl ?_
  refine k_goto 2062 X dL_law_k109.2.2.2 (jp_e rfl) ?_
  exact kk _ _ _ _ _ _ _ _ _ _ _ _ _ _ _ _ _ _ _ _ _ _ _ _ _ _ _ _ _ _ _ _ _ _ _ _ _ _ _ _ hx_3 hm_6 hR

theorem dL_law_17 : decode cL_law 17 = .ok (.newarray .long, 2) := by decide +kernel
theorem dL_law_k110 : (((dD cL_law 0 (.new 8) 3 ∧ (dD cL_law 3 .dup 1 ∧ dD cL_law 4 (.invokespecial 15) 3)) ∧ (dD cL_law 7 (.astore_n 1) 1 ∧ (dD cL_law 8 (.new 16) 3 ∧ dD cL_law 11 .dup 1))) ∧ ((dD cL_law 12 (.invokespecial 18) 3 ∧ (dD cL_law 15 (.astore_n 2) 1 ∧ dD cL_law 16 (.iconst 1) 1)) ∧ (dD cL_law 19 (.astore_n 3) 1 ∧ (dD cL_law 20 (.iconst 0) 1 ∧ dD cL_law 21 (.istore 4) 2)))) := dkA12 (by decide +kernel)
set_option maxHeartbeats 4000000 in
set_option maxRecDepth 100000 in
theorem MW_of {g : Gx} {mo : Nat} {w : va_W} (h : ∃ a_tape a_letters a_r a_fresh a_st a_undone a_kept a_from a_begin a_motor a_change a_startFrame a_changeFrame a_lostAt a_blackAt a_slips a_leftArc a_died a_arcs a_there a_backAt a_sorted a_parts, w = ((cO11_i1r1i10r1i2r5i2r12i3r4i2 mo 0 a_tape 0 0 0 0 0 0 0 0 (-1) 0 a_letters 0 0 a_r a_fresh a_st a_undone a_kept 0 0 a_from a_begin a_motor a_change a_startFrame a_changeFrame a_lostAt a_blackAt a_slips a_leftArc a_died a_arcs 0 0 0 a_there a_backAt a_sorted a_parts 0 0) :: (cAI g a_tape 900 (fun _ => 0)) :: (cAI g a_letters 8 (fun _ => 0)) :: (cAI g a_r 311 (fun _ => 0)) :: (cAI g a_fresh 311 (fun _ => 0)) :: (cAI g a_st 44 (fun _ => 0)) :: (cAI g a_undone 528 (fun _ => 0)) :: (cAI g a_kept 132 (fun _ => 0)) :: (cAI g a_from 8 (fun _ => 0)) :: (cAI g a_begin 8 (fun _ => 0)) :: (cAI g a_motor 8 (fun _ => 0)) :: (cAI g a_change 8 (fun _ => 0)) :: (cAI g a_startFrame 8 (fun _ => 0)) :: (cAI g a_changeFrame 8 (fun _ => 0)) :: (cAI g a_lostAt 8 (fun _ => 0)) :: (cAI g a_blackAt 8 (fun _ => 0)) :: (cAI g a_slips 8 (fun _ => 0)) :: (cAI g a_leftArc 8 (fun _ => 0)) :: (cAI g a_died 8 (fun _ => 0)) :: (cAI g a_arcs 2 (fun _ => 0)) :: (cAI g a_there 8 (fun _ => 0)) :: (cAI g a_backAt 4 (fun _ => 0)) :: (cAI g a_sorted 8 (fun _ => 0)) :: (cAI g a_parts 256 (fun _ => 0)) :: [])) : MW g mo 0 (fun _ => 0) (fun _ => 0) (fun _ => 0) (fun _ => 0) (fun _ => 0) 0 0 0 w := by
  obtain ⟨a_tape, a_letters, a_r, a_fresh, a_st, a_undone, a_kept, a_from, a_begin, a_motor, a_change, a_startFrame, a_changeFrame, a_lostAt, a_blackAt, a_slips, a_leftArc, a_died, a_arcs, a_there, a_backAt, a_sorted, a_parts, rfl⟩ := h
  exact ⟨(uu (fun _ => 0) 8 (-1)), (nth 0 (a_tape :: a_letters :: a_r :: a_fresh :: a_st :: a_undone :: a_kept :: a_from :: a_begin :: a_motor :: a_change :: a_startFrame :: a_changeFrame :: a_lostAt :: a_blackAt :: a_slips :: a_leftArc :: a_died :: a_arcs :: a_there :: a_backAt :: a_sorted :: a_parts :: [])), (fun _ => fun _ => 0), (fun _ => fun _ => 0), (fun _ => fun _ => 0), (fun _ => fun _ => 0), (fun _ => fun _ => 0), (fun _ => fun _ => 0), (fun _ => fun _ => 0), (fun _ => fun _ => 0), (fun _ => fun _ => 0), (fun _ => fun _ => 0), (fun _ => fun _ => 0), (fun _ => fun _ => 0), (fun _ => fun _ => 0), (fun _ => fun _ => 0), (fun _ => fun _ => 0), (fun _ => fun _ => 0), (fun _ => fun _ => 0), (fun _ => fun _ => 0), (by decide), (by decide), (by decide), (by decide), (by decide), (by decide), (by decide), (by decide), rinv0, rinv0, tri0, List.Perm.refl _⟩
set_option maxHeartbeats 4000000 in
set_option maxRecDepth 100000 in
theorem law_begin {p : Program} {l : Launch} {e : Env} {s : State} {m : MethodId} {below : List Frame} {meth : Method} {c : Code} {A : Nat → Prop} {g : Gx} {b : Nat} (X : Cx p s m meth c #[Value.ref b] cL_law 7 RL A g) (kk : ∀ (h0 mo lo : Nat) (cf : Nat → SC) (xw mw : va_W), XW g h0 0 (fun _ => 0) (fun _ => 0) 0 (fun _ => 0) 0 (fun _ => 0) 0 (fun _ => 0) 0 (fun _ => 0) 0 (fun _ => 0) 0 (fun _ => 0) 0 0 0 0 0 0 (fun _ => 0) (fun _ => 0) (fun _ => 0) (fun _ => 0) 0 0 0 cf xw → MW g mo 0 (fun _ => 0) (fun _ => 0) (fun _ => 0) (fun _ => 0) (fun _ => 0) 0 0 0 mw → Wk p l e room_1 s m #[Value.ref b] below meth c (lw_Z below #[Value.ref b] s) A g 7 242 6346 (xw ++ (mw ++ [(cAJ g lo 1 (fun _ => 0))])) [(4, .int 0), (3, .ref lo), (2, .ref mo), (1, .ref h0), (0, .ref b)] 23 []) : Wk p l e room_1 s m #[Value.ref b] below meth c (lw_Z below #[Value.ref b] s) A g 7 0 0 [] [(0, .ref b)] 0 [] := by
  refine k_new (ci := 10) (fs := [.null, .null, .null, .null, .null, .null, .null, .null, .null, .int 0]) X inlX10 rfl tyX10_ok dL_law_k110.1.1.1 mw0 mw1 mw2 (fun j hj => by rcases (show j = 0 ∨ j = 1 ∨ j = 2 ∨ j = 3 ∨ j = 4 ∨ j = 5 ∨ j = 6 ∨ j = 7 ∨ j = 8 ∨ j = 9 by omega) with rfl | rfl | rfl | rfl | rfl | rfl | rfl | rfl | rfl | rfl <;> rfl) (Nat.le_of_ble_eq_true rfl) (Nat.le_of_ble_eq_true rfl) (fun q1 => ?_)
  refine k_ws [(cO10_nnnnnnnnni q1 0)] rfl ?_
  refine k_dup X dL_law_k110.1.1.2.1 rfl ?_
  refine k_callIIP (n := 0) (As := []) (st := [.ref q1]) X [(cO10_nnnnnnnnni q1 0)] [] (List.Perm.refl _) (i_RC l g q1) dL_law_k110.1.1.2.2 mw7 mw8 mw2 mw9 rfl yk_yX10_init_0 rfl (Nat.le_of_ble_eq_true rfl) (Nat.le_of_ble_eq_true rfl) (Nat.le_of_ble_eq_true rfl) (Nat.le_of_ble_eq_true rfl) (Nat.le_of_ble_eq_true rfl) ?_
  rintro xw ⟨cf, hx⟩
  refine k_ws xw rfl ?_
  refine k_wide 217 3702 (Nat.le_of_ble_eq_true rfl) (Nat.le_of_ble_eq_true rfl) ?_
  refine k_astore_n [(1, .ref q1), (0, .ref b)] X dL_law_k110.1.2.1 (nlt_e rfl) rfl ?_
  refine k_new (ci := 11) (fs := (.int 0 :: .null :: .int 0 :: .int 0 :: .int 0 :: .int 0 :: .int 0 :: .int 0 :: .int 0 :: .int 0 :: .int 0 :: .int 0 :: .null :: .int 0 :: .int 0 :: .null :: .null :: .null :: .null :: .null :: .int 0 :: .int 0 :: .null :: .null :: .null :: .null :: .null :: .null :: .null :: .null :: .null :: .null :: .null :: .null :: .int 0 :: .int 0 :: .int 0 :: .null :: .null :: .null :: .null :: .int 0 :: .int 0 :: [])) X inlX11 rfl tyX11_ok dL_law_k110.1.2.2.1 mw3 mw4 mw5 (fun j hj => by rcases (show j = 0 ∨ j = 1 ∨ j = 2 ∨ j = 3 ∨ j = 4 ∨ j = 5 ∨ j = 6 ∨ j = 7 ∨ j = 8 ∨ j = 9 ∨ j = 10 ∨ j = 11 ∨ j = 12 ∨ j = 13 ∨ j = 14 ∨ j = 15 ∨ j = 16 ∨ j = 17 ∨ j = 18 ∨ j = 19 ∨ j = 20 ∨ j = 21 ∨ j = 22 ∨ j = 23 ∨ j = 24 ∨ j = 25 ∨ j = 26 ∨ j = 27 ∨ j = 28 ∨ j = 29 ∨ j = 30 ∨ j = 31 ∨ j = 32 ∨ j = 33 ∨ j = 34 ∨ j = 35 ∨ j = 36 ∨ j = 37 ∨ j = 38 ∨ j = 39 ∨ j = 40 ∨ j = 41 ∨ j = 42 by omega) with rfl | rfl | rfl | rfl | rfl | rfl | rfl | rfl | rfl | rfl | rfl | rfl | rfl | rfl | rfl | rfl | rfl | rfl | rfl | rfl | rfl | rfl | rfl | rfl | rfl | rfl | rfl | rfl | rfl | rfl | rfl | rfl | rfl | rfl | rfl | rfl | rfl | rfl | rfl | rfl | rfl | rfl | rfl <;> rfl) (Nat.le_of_ble_eq_true rfl) (Nat.le_of_ble_eq_true rfl) (fun q2 => ?_)
  refine k_dup X dL_law_k110.1.2.2.2 rfl ?_
  refine k_callIIP (n := 0) (As := []) (st := [.ref q2]) X [(cO11_i1n1i10n1i2n5i2n12i3n4i2 q2 0 0 0 0 0 0 0 0 0 0 0 0 0 0 0 0 0 0 0 0)] xw (List.Perm.refl _) (i_M l g q2) dL_law_k110.2.1.1 mw163 mw164 mw5 mw165 rfl yk_yX11_init_0 rfl (Nat.le_of_ble_eq_true rfl) (Nat.le_of_ble_eq_true rfl) (Nat.le_of_ble_eq_true rfl) (Nat.le_of_ble_eq_true rfl) (Nat.le_of_ble_eq_true rfl) ?_
  intro mw hm
  have hm2 := MW_of hm
  clear hm
  refine k_wide 241 6345 (Nat.le_of_ble_eq_true rfl) (Nat.le_of_ble_eq_true rfl) ?_
  refine k_astore_n [(2, .ref q2), (1, .ref q1), (0, .ref b)] X dL_law_k110.2.1.2.1 (nlt_e rfl) rfl ?_
  refine k_iconst (v := 1) X dL_law_k110.2.1.2.2 ic_1 ?_
  refine k_newaJ 1 X dL_law_17 mw6 (by decide) (by decide) (by decide) (Nat.le_of_ble_eq_true rfl) (Nat.le_of_ble_eq_true rfl) (fun q3 => ?_)
  refine k_wide 242 6346 (Nat.le_of_ble_eq_true rfl) (Nat.le_of_ble_eq_true rfl) ?_
  refine k_astore_n [(3, .ref q3), (2, .ref q2), (1, .ref q1), (0, .ref b)] X dL_law_k110.2.2.1 (nlt_e rfl) rfl ?_
  refine k_iconst (v := 0) X dL_law_k110.2.2.2.1 ic_0 ?_
  refine k_istore [(4, .int 0), (3, .ref q3), (2, .ref q2), (1, .ref q1), (0, .ref b)] X dL_law_k110.2.2.2.2 (nlt_e rfl) rfl ?_
  refine k_ws _ (List.append_assoc _ _ _) ?_
  exact kk q1 q2 q3 cf xw mw hx hm2

theorem dL_law_40 : decode cL_law 40 = .ok (.tableswitch 2022 0 54 #[236, 309, 334, 347, 360, 397, 434, 459, 484, 521, 558, 595, 632, 669, 706, 743, 768, 805, 830, 867, 892, 905, 930, 955, 992, 1029, 1054, 1091, 1128, 1153, 1218, 1243, 1268, 1293, 1346, 1371, 1436, 1473, 1538, 1575, 1624, 1649, 1690, 1703, 1716, 1753, 1790, 1827, 1880, 1905, 1918, 1931, 1956, 1984, 2009], 236) := by decide +kernel
theorem dL_law_k111 : (((dD cL_law 23 (.iload 4) 2 ∧ (dD cL_law 25 (.aload_n 0) 1 ∧ dD cL_law 26 .arraylength 1)) ∧ ((dD cL_law 27 (.bipush 6) 2 ∧ dD cL_law 29 .isub 1) ∧ (dD cL_law 30 (.if_icmp .gt 2038) 3 ∧ dD cL_law 33 (.aload_n 0) 1))) ∧ (((dD cL_law 34 (.iload 4) 2 ∧ dD cL_law 36 .iaload 1) ∧ (dD cL_law 37 (.bipush 63) 2 ∧ dD cL_law 39 .iand 1)) ∧ ((dD cL_law 2062 (.iinc 4 6) 3 ∧ dD cL_law 2065 (.goto (-2042)) 3) ∧ (dD cL_law 2068 (.iconst 1) 1 ∧ dD cL_law 2069 .ireturn 1)))) := dkA15 (by decide +kernel)
set_option maxHeartbeats 4000000 in
set_option maxRecDepth 100000 in
theorem law_fin {p : Program} {l : Launch} {e : Env} {s : State} {m : MethodId} {below : List Frame} {meth : Method} {c : Code} {A : Nat → Prop} {g : Gx} {b : Nat} {n1 n2 : Nat} {ws : va_W} {lv : List (Nat × Value)} (X : Cx p s m meth c #[Value.ref b] cL_law 7 RL A g) (hr : meth.sig.returnType = ret) (hA : ∀ q, A q → s.heap.size ≤ q) (h1 : n1 ≤ 601024) (h2 : n2 ≤ 7293034) : Wk p l e room_1 s m #[Value.ref b] below meth c (lw_Z below #[Value.ref b] s) A g 7 n1 n2 ws lv 2068 [] := by
  refine k_iconst (v := 1) X dL_law_k111.2.2.2.1 ic_1 ?_
  intro H locs ls hP hD hS hl
  refine va_forget (fun q hq => hA _ (hS.2.2 q hq)) ?_
  refine W.widen h1 h2 ?_
  exact lw_ret X.1 X.2.1 hr X.2.2.2.2.2.2.2.1 dL_law_k111.2.2.2.2
set_option maxHeartbeats 4000000 in
set_option maxRecDepth 100000 in
theorem law_loop {p : Program} {l : Launch} {e : Env} {s : State} {m : MethodId} {below : List Frame} {meth : Method} {c : Code} {A : Nat → Prop} {g : Gx} {b L : Nat} {xs : Nat → Int32} {h0 mo lo : Nat} (X : Cx p s m meth c #[Value.ref b] cL_law 7 RL A g) (hX : va_X b L xs s s.heap) (hbl : b < s.heap.size) (hbA : ¬ A b) (hr : meth.sig.returnType = ret) (hA : ∀ q, A q → s.heap.size ≤ q) (hL : L ≤ 3072) (hlt : l.stackTraces = false) (hZ : kZ A s s.heap) (htsE : ∀ w ∈ wsE, w.before #[Value.ref b] s = true) : ∀ (nn : Nat) (u4 : Int32) (xtpd : Int32) (tpf : Nat → Int32) (yhnf : Nat → Int32) (yhtn : Int32) (yhtf : Nat → Int32) (yhjn : Int32) (yhjf : Nat → Int32) (yhmn : Int32) (yhmf : Nat → Int32) (yhbn : Int32) (yhbf : Nat → Int32) (yhsn : Int32) (yhsf : Nat → Int32) (yhcn : Int32) (yhcf : Nat → Int32) (zrn : Int32) (zmn : Int32) (zwn : Int32) (zpn : Int32) (zmd : Int32) (ztr : Int32) (zrf : Nat → Int32) (zmf : Nat → Int32) (zwf : Nat → Int32) (zpf : Nat → Int32) (kac : Int32) (knx : Int32) (kim : Int32) (cf : Nat → SC) (m_taped : Int32) (d_tape : Nat → Int32) (d_r : Nat → Int32) (d_st : Nat → Int32) (d_undone : Nat → Int32) (d_kept : Nat → Int32) (m_undos : Int32) (m_images : Int32) (m_hasHouse : Int32) (xw mw : va_W) (fo : Nat → Int64) (n1 n2 : Nat), ((L : Int) + 6 - u4.toInt).toNat = nn → (0 ≤ u4.toInt ∧ u4.toInt ≤ 3078) → (n1 : Int) * 6 ≤ 1452 + u4.toInt → (n2 : Int) ≤ 6346 + u4.toInt → XW g h0 xtpd tpf yhnf yhtn yhtf yhjn yhjf yhmn yhmf yhbn yhbf yhsn yhsf yhcn yhcf zrn zmn zwn zpn zmd ztr zrf zmf zwf zpf kac knx kim cf xw → MW g mo m_taped d_tape d_r d_st d_undone d_kept m_undos m_images m_hasHouse mw → LR xtpd tpf yhnf yhtn yhtf yhjn yhjf yhmn yhmf yhbn yhbf yhsn yhsf yhcn yhcf zrn zmn zwn zpn zmd ztr zrf zmf zwf zpf kac knx kim cf m_taped d_tape d_r d_st d_undone d_kept m_undos m_images m_hasHouse → Wk p l e room_1 s m #[Value.ref b] below meth c (lw_Z below #[Value.ref b] s) A g 7 n1 n2 (xw ++ (mw ++ [(cAJ g lo 1 fo)])) [(4, .int u4), (3, .ref lo), (2, .ref mo), (1, .ref h0), (0, .ref b)] 23 [] := by
  intro nn
  refine Nat.strongRecOn nn (fun nn ih => ?_)
  intro u4 xtpd tpf yhnf yhtn yhtf yhjn yhjf yhmn yhmf yhbn yhbf yhsn yhsf yhcn yhcf zrn zmn zwn zpn zmd ztr zrf zmf zwf zpf kac knx kim cf m_taped d_tape d_r d_st d_undone d_kept m_undos m_images m_hasHouse xw mw fo n1 n2 hnn hu hn1 hn2 hx hm hR
  have h1 : n1 ≤ 601023 := by omega
  have h2 : n2 ≤ 7293028 := by omega
  refine k_iload X dL_law_k111.1.1.1 0 rfl ?_
  refine k_aload_n X dL_law_k111.1.1.2.1 4 rfl ?_
  refine k_slen X hX hbl hbA dL_law_k111.1.1.2.2 ?_
  refine k_nm (fun zl ezl => ?_)
  refine k_bipush (v := 6) X dL_law_k111.1.2.1.1 bi_6 ?_
  refine k_isub X dL_law_k111.1.2.1.2 ?_
  refine k_nm (fun z ez => ?_)
  have e6 : (6 : Int32).toInt = 6 := by decide
  have hzl : zl.toInt = (L : Int) := by rw [ezl]; exact nI_toInt (by omega)
  have hz : z.toInt = (L : Int) - 6 := by rw [ez, subI (by rw [hzl, e6]; omega) (by rw [hzl, e6]; omega), hzl, e6]
  refine k_ic_gt 2068 X dL_law_k111.1.2.2.1 (jp_e rfl) (fun h => law_fin X hr hA (Nat.le_trans h1 (by decide)) (Nat.le_trans h2 (by decide))) (fun h => ?_)
  have hle := iv_nlt h
  have hi : 0 ≤ u4.toInt ∧ u4.toInt + 6 ≤ (L : Int) := ⟨hu.1, by omega⟩
  refine k_aload_n X dL_law_k111.1.2.2.2 4 rfl ?_
  refine k_iload X dL_law_k111.2.1.1.1 0 rfl ?_
  refine k_sld X hX hbl hbA dL_law_k111.2.1.1.2 (by rw [vp_in_iff]; omega) ?_
  refine k_nm (fun a ea => ?_)
  refine k_bipush (v := 63) X dL_law_k111.2.1.2.1 bi_63 ?_
  refine k_iand X dL_law_k111.2.1.2.2 ?_
  refine k_nm (fun y ey => ?_)
  obtain ⟨j, hj, ej⟩ := pk_andE a (m := 63) 6 (by decide)
  obtain rfl : y = nI j := ey.trans ej
  have go : ∀ (k1 k2 : Nat) (f2 : Nat → Int64) (xtpd_2 : Int32) (tpf_2 : Nat → Int32) (yhnf_2 : Nat → Int32) (yhtn_2 : Int32) (yhtf_2 : Nat → Int32) (yhjn_2 : Int32) (yhjf_2 : Nat → Int32) (yhmn_2 : Int32) (yhmf_2 : Nat → Int32) (yhbn_2 : Int32) (yhbf_2 : Nat → Int32) (yhsn_2 : Int32) (yhsf_2 : Nat → Int32) (yhcn_2 : Int32) (yhcf_2 : Nat → Int32) (zrn_2 : Int32) (zmn_2 : Int32) (zwn_2 : Int32) (zpn_2 : Int32) (zmd_2 : Int32) (ztr_2 : Int32) (zrf_2 : Nat → Int32) (zmf_2 : Nat → Int32) (zwf_2 : Nat → Int32) (zpf_2 : Nat → Int32) (kac_2 : Int32) (knx_2 : Int32) (kim_2 : Int32) (cf_2 : Nat → SC) (m_taped_2 : Int32) (d_tape_2 : Nat → Int32) (d_r_2 : Nat → Int32) (d_st_2 : Nat → Int32) (d_undone_2 : Nat → Int32) (d_kept_2 : Nat → Int32) (m_undos_2 : Int32) (m_images_2 : Int32) (m_hasHouse_2 : Int32) (xw2 mw2 : va_W), (k1 : Int) * 6 ≤ 1452 + (u4.toInt + 6) → (k2 : Int) ≤ 6346 + (u4.toInt + 6) → XW g h0 xtpd_2 tpf_2 yhnf_2 yhtn_2 yhtf_2 yhjn_2 yhjf_2 yhmn_2 yhmf_2 yhbn_2 yhbf_2 yhsn_2 yhsf_2 yhcn_2 yhcf_2 zrn_2 zmn_2 zwn_2 zpn_2 zmd_2 ztr_2 zrf_2 zmf_2 zwf_2 zpf_2 kac_2 knx_2 kim_2 cf_2 xw2 → MW g mo m_taped_2 d_tape_2 d_r_2 d_st_2 d_undone_2 d_kept_2 m_undos_2 m_images_2 m_hasHouse_2 mw2 → LR xtpd_2 tpf_2 yhnf_2 yhtn_2 yhtf_2 yhjn_2 yhjf_2 yhmn_2 yhmf_2 yhbn_2 yhbf_2 yhsn_2 yhsf_2 yhcn_2 yhcf_2 zrn_2 zmn_2 zwn_2 zpn_2 zmd_2 ztr_2 zrf_2 zmf_2 zwf_2 zpf_2 kac_2 knx_2 kim_2 cf_2 m_taped_2 d_tape_2 d_r_2 d_st_2 d_undone_2 d_kept_2 m_undos_2 m_images_2 m_hasHouse_2 → Wk p l e room_1 s m #[Value.ref b] below meth c (lw_Z below #[Value.ref b] s) A g 7 k1 k2 (xw2 ++ (mw2 ++ [(cAJ g lo 1 f2)])) [(4, .int u4), (3, .ref lo), (2, .ref mo), (1, .ref h0), (0, .ref b)] 2062 [] := by
    intro k1 k2 f2 xtpd_2 tpf_2 yhnf_2 yhtn_2 yhtf_2 yhjn_2 yhjf_2 yhmn_2 yhmf_2 yhbn_2 yhbf_2 yhsn_2 yhsf_2 yhcn_2 yhcf_2 zrn_2 zmn_2 zwn_2 zpn_2 zmd_2 ztr_2 zrf_2 zmf_2 zwf_2 zpf_2 kac_2 knx_2 kim_2 cf_2 m_taped_2 d_tape_2 d_r_2 d_st_2 d_undone_2 d_kept_2 m_undos_2 m_images_2 m_hasHouse_2 xw2 mw2 g1 g2 hx2 hm2 hR2
    obtain ⟨v, ev⟩ : ∃ y : Int32, u4 + Int32.ofInt 6 = y := ⟨_, rfl⟩
    refine k_iinc v [(4, .int v), (3, .ref lo), (2, .ref mo), (1, .ref h0), (0, .ref b)] 0 X dL_law_k111.2.2.1.1 rfl ev (nlt_e rfl) rfl ?_
    have hv : v.toInt = u4.toInt + 6 := in_inc ev (oin_e rfl) (show IV u4 0 3078 from hu) (zle_e rfl) (zle_e rfl)
    refine k_goto 23 X dL_law_k111.2.2.1.2 (jp_e rfl) ?_
    exact ih _ (by rw [← hnn, hv]; omega) v xtpd_2 tpf_2 yhnf_2 yhtn_2 yhtf_2 yhjn_2 yhjf_2 yhmn_2 yhmf_2 yhbn_2 yhbf_2 yhsn_2 yhsf_2 yhcn_2 yhcf_2 zrn_2 zmn_2 zwn_2 zpn_2 zmd_2 ztr_2 zrf_2 zmf_2 zwf_2 zpf_2 kac_2 knx_2 kim_2 cf_2 m_taped_2 d_tape_2 d_r_2 d_st_2 d_undone_2 d_kept_2 m_undos_2 m_images_2 m_hasHouse_2 xw2 mw2 f2 k1 k2 rfl (by omega) (by omega) (by omega) hx2 hm2 hR2
  have K : ∀ (xtpd_2 : Int32) (tpf_2 : Nat → Int32) (yhnf_2 : Nat → Int32) (yhtn_2 : Int32) (yhtf_2 : Nat → Int32) (yhjn_2 : Int32) (yhjf_2 : Nat → Int32) (yhmn_2 : Int32) (yhmf_2 : Nat → Int32) (yhbn_2 : Int32) (yhbf_2 : Nat → Int32) (yhsn_2 : Int32) (yhsf_2 : Nat → Int32) (yhcn_2 : Int32) (yhcf_2 : Nat → Int32) (zrn_2 : Int32) (zmn_2 : Int32) (zwn_2 : Int32) (zpn_2 : Int32) (zmd_2 : Int32) (ztr_2 : Int32) (zrf_2 : Nat → Int32) (zmf_2 : Nat → Int32) (zwf_2 : Nat → Int32) (zpf_2 : Nat → Int32) (kac_2 : Int32) (knx_2 : Int32) (kim_2 : Int32) (cf_2 : Nat → SC) (m_taped_2 : Int32) (d_tape_2 : Nat → Int32) (d_r_2 : Nat → Int32) (d_st_2 : Nat → Int32) (d_undone_2 : Nat → Int32) (d_kept_2 : Nat → Int32) (m_undos_2 : Int32) (m_images_2 : Int32) (m_hasHouse_2 : Int32) (xw2 mw2 : va_W), XW g h0 xtpd_2 tpf_2 yhnf_2 yhtn_2 yhtf_2 yhjn_2 yhjf_2 yhmn_2 yhmf_2 yhbn_2 yhbf_2 yhsn_2 yhsf_2 yhcn_2 yhcf_2 zrn_2 zmn_2 zwn_2 zpn_2 zmd_2 ztr_2 zrf_2 zmf_2 zwf_2 zpf_2 kac_2 knx_2 kim_2 cf_2 xw2 → MW g mo m_taped_2 d_tape_2 d_r_2 d_st_2 d_undone_2 d_kept_2 m_undos_2 m_images_2 m_hasHouse_2 mw2 → LR xtpd_2 tpf_2 yhnf_2 yhtn_2 yhtf_2 yhjn_2 yhjf_2 yhmn_2 yhmf_2 yhbn_2 yhbf_2 yhsn_2 yhsf_2 yhcn_2 yhcf_2 zrn_2 zmn_2 zwn_2 zpn_2 zmd_2 ztr_2 zrf_2 zmf_2 zwf_2 zpf_2 kac_2 knx_2 kim_2 cf_2 m_taped_2 d_tape_2 d_r_2 d_st_2 d_undone_2 d_kept_2 m_undos_2 m_images_2 m_hasHouse_2 → Wk p l e room_1 s m #[Value.ref b] below meth c (lw_Z below #[Value.ref b] s) A g 7 n1 n2 (xw2 ++ (mw2 ++ [(cAJ g lo 1 fo)])) [(4, .int u4), (3, .ref lo), (2, .ref mo), (1, .ref h0), (0, .ref b)] 2062 [] := fun xtpd_2 tpf_2 yhnf_2 yhtn_2 yhtf_2 yhjn_2 yhjf_2 yhmn_2 yhmf_2 yhbn_2 yhbf_2 yhsn_2 yhsf_2 yhcn_2 yhcf_2 zrn_2 zmn_2 zwn_2 zpn_2 zmd_2 ztr_2 zrf_2 zmf_2 zwf_2 zpf_2 kac_2 knx_2 kim_2 cf_2 m_taped_2 d_tape_2 d_r_2 d_st_2 d_undone_2 d_kept_2 m_undos_2 m_images_2 m_hasHouse_2 xw2 mw2 hx2 hm2 hR2 => go n1 n2 fo xtpd_2 tpf_2 yhnf_2 yhtn_2 yhtf_2 yhjn_2 yhjf_2 yhmn_2 yhmf_2 yhbn_2 yhbf_2 yhsn_2 yhsf_2 yhcn_2 yhcf_2 zrn_2 zmn_2 zwn_2 zpn_2 zmd_2 ztr_2 zrf_2 zmf_2 zwf_2 zpf_2 kac_2 knx_2 kim_2 cf_2 m_taped_2 d_tape_2 d_r_2 d_st_2 d_undone_2 d_kept_2 m_undos_2 m_images_2 m_hasHouse_2 xw2 mw2 (by omega) (by omega) hx2 hm2 hR2
  have K52 : ∀ (xtpd_2 : Int32) (tpf_2 : Nat → Int32) (yhnf_2 : Nat → Int32) (yhtn_2 : Int32) (yhtf_2 : Nat → Int32) (yhjn_2 : Int32) (yhjf_2 : Nat → Int32) (yhmn_2 : Int32) (yhmf_2 : Nat → Int32) (yhbn_2 : Int32) (yhbf_2 : Nat → Int32) (yhsn_2 : Int32) (yhsf_2 : Nat → Int32) (yhcn_2 : Int32) (yhcf_2 : Nat → Int32) (zrn_2 : Int32) (zmn_2 : Int32) (zwn_2 : Int32) (zpn_2 : Int32) (zmd_2 : Int32) (ztr_2 : Int32) (zrf_2 : Nat → Int32) (zmf_2 : Nat → Int32) (zwf_2 : Nat → Int32) (zpf_2 : Nat → Int32) (kac_2 : Int32) (knx_2 : Int32) (kim_2 : Int32) (cf_2 : Nat → SC) (m_taped_2 : Int32) (d_tape_2 : Nat → Int32) (d_r_2 : Nat → Int32) (d_st_2 : Nat → Int32) (d_undone_2 : Nat → Int32) (d_kept_2 : Nat → Int32) (m_undos_2 : Int32) (m_images_2 : Int32) (m_hasHouse_2 : Int32) (xw2 mw2 : va_W) (fo2 : Nat → Int64), XW g h0 xtpd_2 tpf_2 yhnf_2 yhtn_2 yhtf_2 yhjn_2 yhjf_2 yhmn_2 yhmf_2 yhbn_2 yhbf_2 yhsn_2 yhsf_2 yhcn_2 yhcf_2 zrn_2 zmn_2 zwn_2 zpn_2 zmd_2 ztr_2 zrf_2 zmf_2 zwf_2 zpf_2 kac_2 knx_2 kim_2 cf_2 xw2 → MW g mo m_taped_2 d_tape_2 d_r_2 d_st_2 d_undone_2 d_kept_2 m_undos_2 m_images_2 m_hasHouse_2 mw2 → LR xtpd_2 tpf_2 yhnf_2 yhtn_2 yhtf_2 yhjn_2 yhjf_2 yhmn_2 yhmf_2 yhbn_2 yhbf_2 yhsn_2 yhsf_2 yhcn_2 yhcf_2 zrn_2 zmn_2 zwn_2 zpn_2 zmd_2 ztr_2 zrf_2 zmf_2 zwf_2 zpf_2 kac_2 knx_2 kim_2 cf_2 m_taped_2 d_tape_2 d_r_2 d_st_2 d_undone_2 d_kept_2 m_undos_2 m_images_2 m_hasHouse_2 → Wk p l e room_1 s m #[Value.ref b] below meth c (lw_Z below #[Value.ref b] s) A g 7 (n1 + 1) (n2 + 6) (xw2 ++ (mw2 ++ [(cAJ g lo 1 fo2)])) [(4, .int u4), (3, .ref lo), (2, .ref mo), (1, .ref h0), (0, .ref b)] 2062 [] := fun xtpd_2 tpf_2 yhnf_2 yhtn_2 yhtf_2 yhjn_2 yhjf_2 yhmn_2 yhmf_2 yhbn_2 yhbf_2 yhsn_2 yhsf_2 yhcn_2 yhcf_2 zrn_2 zmn_2 zwn_2 zpn_2 zmd_2 ztr_2 zrf_2 zmf_2 zwf_2 zpf_2 kac_2 knx_2 kim_2 cf_2 m_taped_2 d_tape_2 d_r_2 d_st_2 d_undone_2 d_kept_2 m_undos_2 m_images_2 m_hasHouse_2 xw2 mw2 fo2 hx2 hm2 hR2 => go (n1 + 1) (n2 + 6) fo2 xtpd_2 tpf_2 yhnf_2 yhtn_2 yhtf_2 yhjn_2 yhjf_2 yhmn_2 yhmf_2 yhbn_2 yhbf_2 yhsn_2 yhsf_2 yhcn_2 yhcf_2 zrn_2 zmn_2 zwn_2 zpn_2 zmd_2 ztr_2 zrf_2 zmf_2 zwf_2 zpf_2 kac_2 knx_2 kim_2 cf_2 m_taped_2 d_tape_2 d_r_2 d_st_2 d_undone_2 d_kept_2 m_undos_2 m_images_2 m_hasHouse_2 xw2 mw2 (by omega) (by omega) hx2 hm2 hR2
  rcases (show j = 0 ∨ j = 1 ∨ j = 2 ∨ j = 3 ∨ j = 4 ∨ j = 5 ∨ j = 6 ∨ j = 7 ∨ j = 8 ∨ j = 9 ∨ j = 10 ∨ j = 11 ∨ j = 12 ∨ j = 13 ∨ j = 14 ∨ j = 15 ∨ j = 16 ∨ j = 17 ∨ j = 18 ∨ j = 19 ∨ j = 20 ∨ j = 21 ∨ j = 22 ∨ j = 23 ∨ j = 24 ∨ j = 25 ∨ j = 26 ∨ j = 27 ∨ j = 28 ∨ j = 29 ∨ j = 30 ∨ j = 31 ∨ j = 32 ∨ j = 33 ∨ j = 34 ∨ j = 35 ∨ j = 36 ∨ j = 37 ∨ j = 38 ∨ j = 39 ∨ j = 40 ∨ j = 41 ∨ j = 42 ∨ j = 43 ∨ j = 44 ∨ j = 45 ∨ j = 46 ∨ j = 47 ∨ j = 48 ∨ j = 49 ∨ j = 50 ∨ j = 51 ∨ j = 52 ∨ j = 53 ∨ j = 54 ∨ 54 < j by omega) with rfl | rfl | rfl | rfl | rfl | rfl | rfl | rfl | rfl | rfl | rfl | rfl | rfl | rfl | rfl | rfl | rfl | rfl | rfl | rfl | rfl | rfl | rfl | rfl | rfl | rfl | rfl | rfl | rfl | rfl | rfl | rfl | rfl | rfl | rfl | rfl | rfl | rfl | rfl | rfl | rfl | rfl | rfl | rfl | rfl | rfl | rfl | rfl | rfl | rfl | rfl | rfl | rfl | rfl | rfl | h54
  · exact k_tableIn 276 X dL_law_40 (by decide) (by decide) rfl (by decide) (law_c0 X hX hbl hbA hi hL h1 h2 hlt hZ htsE hx hm hR K)
  · exact k_tableIn 349 X dL_law_40 (by decide) (by decide) rfl (by decide) (law_c1 X hX hbl hbA hi hL h1 h2 hlt hZ htsE hx hm hR K)
  · exact k_tableIn 374 X dL_law_40 (by decide) (by decide) rfl (by decide) (law_c2 X hX hbl hbA hi hL h1 h2 hlt hZ htsE hx hm hR K)
  · exact k_tableIn 387 X dL_law_40 (by decide) (by decide) rfl (by decide) (law_c3 X hX hbl hbA hi hL h1 h2 hlt hZ htsE hx hm hR K)
  · exact k_tableIn 400 X dL_law_40 (by decide) (by decide) rfl (by decide) (law_c4 X hX hbl hbA hi hL h1 h2 hlt hZ htsE hx hm hR K)
  · exact k_tableIn 437 X dL_law_40 (by decide) (by decide) rfl (by decide) (law_c5 X hX hbl hbA hi hL h1 h2 hlt hZ htsE hx hm hR K)
  · exact k_tableIn 474 X dL_law_40 (by decide) (by decide) rfl (by decide) (law_c6 X hX hbl hbA hi hL h1 h2 hlt hZ htsE hx hm hR K)
  · exact k_tableIn 499 X dL_law_40 (by decide) (by decide) rfl (by decide) (law_c7 X hX hbl hbA hi hL h1 h2 hlt hZ htsE hx hm hR K)
  · exact k_tableIn 524 X dL_law_40 (by decide) (by decide) rfl (by decide) (law_c8 X hX hbl hbA hi hL h1 h2 hlt hZ htsE hx hm hR K)
  · exact k_tableIn 561 X dL_law_40 (by decide) (by decide) rfl (by decide) (law_c9 X hX hbl hbA hi hL h1 h2 hlt hZ htsE hx hm hR K)
  · exact k_tableIn 598 X dL_law_40 (by decide) (by decide) rfl (by decide) (law_c10 X hX hbl hbA hi hL h1 h2 hlt hZ htsE hx hm hR K)
  · exact k_tableIn 635 X dL_law_40 (by decide) (by decide) rfl (by decide) (law_c11 X hX hbl hbA hi hL h1 h2 hlt hZ htsE hx hm hR K)
  · exact k_tableIn 672 X dL_law_40 (by decide) (by decide) rfl (by decide) (law_c12 X hX hbl hbA hi hL h1 h2 hlt hZ htsE hx hm hR K)
  · exact k_tableIn 709 X dL_law_40 (by decide) (by decide) rfl (by decide) (law_c13 X hX hbl hbA hi hL h1 h2 hlt hZ htsE hx hm hR K)
  · exact k_tableIn 746 X dL_law_40 (by decide) (by decide) rfl (by decide) (law_c14 X hX hbl hbA hi hL h1 h2 hlt hZ htsE hx hm hR K)
  · exact k_tableIn 783 X dL_law_40 (by decide) (by decide) rfl (by decide) (law_c15 X hX hbl hbA hi hL h1 h2 hlt hZ htsE hx hm hR K)
  · exact k_tableIn 808 X dL_law_40 (by decide) (by decide) rfl (by decide) (law_c16 X hX hbl hbA hi hL h1 h2 hlt hZ htsE hx hm hR K)
  · exact k_tableIn 845 X dL_law_40 (by decide) (by decide) rfl (by decide) (law_c17 X hX hbl hbA hi hL h1 h2 hlt hZ htsE hx hm hR K)
  · exact k_tableIn 870 X dL_law_40 (by decide) (by decide) rfl (by decide) (law_c18 X hX hbl hbA hi hL h1 h2 hlt hZ htsE hx hm hR K)
  · exact k_tableIn 907 X dL_law_40 (by decide) (by decide) rfl (by decide) (law_c19 X hX hbl hbA hi hL h1 h2 hlt hZ htsE hx hm hR K)
  · exact k_tableIn 932 X dL_law_40 (by decide) (by decide) rfl (by decide) (law_c20 X hX hbl hbA hi hL h1 h2 hlt hZ htsE hx hm hR K)
  · exact k_tableIn 945 X dL_law_40 (by decide) (by decide) rfl (by decide) (law_c21 X hX hbl hbA hi hL h1 h2 hlt hZ htsE hx hm hR K)
  · exact k_tableIn 970 X dL_law_40 (by decide) (by decide) rfl (by decide) (law_c22 X hX hbl hbA hi hL h1 h2 hlt hZ htsE hx hm hR K)
  · exact k_tableIn 995 X dL_law_40 (by decide) (by decide) rfl (by decide) (law_c23 X hX hbl hbA hi hL h1 h2 hlt hZ htsE hx hm hR K)
  · exact k_tableIn 1032 X dL_law_40 (by decide) (by decide) rfl (by decide) (law_c24 X hX hbl hbA hi hL h1 h2 hlt hZ htsE hx hm hR K)
  · exact k_tableIn 1069 X dL_law_40 (by decide) (by decide) rfl (by decide) (law_c25 X hX hbl hbA hi hL h1 h2 hlt hZ htsE hx hm hR K)
  · exact k_tableIn 1094 X dL_law_40 (by decide) (by decide) rfl (by decide) (law_c26 X hX hbl hbA hi hL h1 h2 hlt hZ htsE hx hm hR K)
  · exact k_tableIn 1131 X dL_law_40 (by decide) (by decide) rfl (by decide) (law_c27 X hX hbl hbA hi hL h1 h2 hlt hZ htsE hx hm hR K)
  · exact k_tableIn 1168 X dL_law_40 (by decide) (by decide) rfl (by decide) (law_c28 X hX hbl hbA hi hL h1 h2 hlt hZ htsE hx hm hR K)
  · exact k_tableIn 1193 X dL_law_40 (by decide) (by decide) rfl (by decide) (law_c29 X hX hbl hbA hi hL h1 h2 hlt hZ htsE hx hm hR K)
  · exact k_tableIn 1258 X dL_law_40 (by decide) (by decide) rfl (by decide) (law_c30 X hX hbl hbA hi hL h1 h2 hlt hZ htsE hx hm hR K)
  · exact k_tableIn 1283 X dL_law_40 (by decide) (by decide) rfl (by decide) (law_c31 X hX hbl hbA hi hL h1 h2 hlt hZ htsE hx hm hR K)
  · exact k_tableIn 1308 X dL_law_40 (by decide) (by decide) rfl (by decide) (law_c32 X hX hbl hbA hi hL h1 h2 hlt hZ htsE hx hm hR K)
  · exact k_tableIn 1333 X dL_law_40 (by decide) (by decide) rfl (by decide) (law_c33 X hX hbl hbA hi hL h1 h2 hlt hZ htsE hx hm hR K)
  · exact k_tableIn 1386 X dL_law_40 (by decide) (by decide) rfl (by decide) (law_c34 X hX hbl hbA hi hL h1 h2 hlt hZ htsE hx hm hR K)
  · exact k_tableIn 1411 X dL_law_40 (by decide) (by decide) rfl (by decide) (law_c35 X hX hbl hbA hi hL h1 h2 hlt hZ htsE hx hm hR K)
  · exact k_tableIn 1476 X dL_law_40 (by decide) (by decide) rfl (by decide) (law_c36 X hX hbl hbA hi hL h1 h2 hlt hZ htsE hx hm hR K)
  · exact k_tableIn 1513 X dL_law_40 (by decide) (by decide) rfl (by decide) (law_c37 X hX hbl hbA hi hL h1 h2 hlt hZ htsE hx hm hR K)
  · exact k_tableIn 1578 X dL_law_40 (by decide) (by decide) rfl (by decide) (law_c38 X hX hbl hbA hi hL h1 h2 hlt hZ htsE hx hm hR K)
  · exact k_tableIn 1615 X dL_law_40 (by decide) (by decide) rfl (by decide) (law_c39 X hX hbl hbA hi hL h1 h2 hlt hZ htsE hx hm hR K)
  · exact k_tableIn 1664 X dL_law_40 (by decide) (by decide) rfl (by decide) (law_c40 X hX hbl hbA hi hL h1 h2 hlt hZ htsE hx hm hR K)
  · exact k_tableIn 1689 X dL_law_40 (by decide) (by decide) rfl (by decide) (law_c41 X hX hbl hbA hi hL h1 h2 hlt hZ htsE hx hm hR K)
  · exact k_tableIn 1730 X dL_law_40 (by decide) (by decide) rfl (by decide) (law_c42 X hX hbl hbA hi hL h1 h2 hlt hZ htsE hx hm hR K)
  · exact k_tableIn 1743 X dL_law_40 (by decide) (by decide) rfl (by decide) (law_c43 X hX hbl hbA hi hL h1 h2 hlt hZ htsE hx hm hR K)
  · exact k_tableIn 1756 X dL_law_40 (by decide) (by decide) rfl (by decide) (law_c44 X hX hbl hbA hi hL h1 h2 hlt hZ htsE hx hm hR K)
  · exact k_tableIn 1793 X dL_law_40 (by decide) (by decide) rfl (by decide) (law_c45 X hX hbl hbA hi hL h1 h2 hlt hZ htsE hx hm hR K)
  · exact k_tableIn 1830 X dL_law_40 (by decide) (by decide) rfl (by decide) (law_c46 X hX hbl hbA hi hL h1 h2 hlt hZ htsE hx hm hR K)
  · exact k_tableIn 1867 X dL_law_40 (by decide) (by decide) rfl (by decide) (law_c47 X hX hbl hbA hi hL h1 h2 hlt hZ htsE hx hm hR K)
  · exact k_tableIn 1920 X dL_law_40 (by decide) (by decide) rfl (by decide) (law_c48 X hX hbl hbA hi hL h1 h2 hlt hZ htsE hx hm hR K)
  · exact k_tableIn 1945 X dL_law_40 (by decide) (by decide) rfl (by decide) (law_c49 X hX hbl hbA hi hL h1 h2 hlt hZ htsE hx hm hR K)
  · exact k_tableIn 1958 X dL_law_40 (by decide) (by decide) rfl (by decide) (law_c50 X hX hbl hbA hi hL h1 h2 hlt hZ htsE hx hm hR K)
  · exact k_tableIn 1971 X dL_law_40 (by decide) (by decide) rfl (by decide) (law_c51 X hX hbl hbA hi hL h1 h2 hlt hZ htsE hx hm hR K)
  · exact k_tableIn 1996 X dL_law_40 (by decide) (by decide) rfl (by decide) (law_c52 X hX hbl hbA hi hL h1 h2 hlt hZ htsE hx hm hR K52)
  · exact k_tableIn 2024 X dL_law_40 (by decide) (by decide) rfl (by decide) (law_c53 X hX hbl hbA hi hL h1 h2 hlt hZ htsE hx hm hR K)
  · exact k_tableIn 2049 X dL_law_40 (by decide) (by decide) rfl (by decide) (law_c54 X hX hbl hbA hi hL h1 h2 hlt hZ htsE hx hm hR K)
  · exact k_tableOut 2062 X dL_law_40 (Or.inr (by rw [nI_toInt (by omega)]; omega)) (by decide) (K _ _ _ _ _ _ _ _ _ _ _ _ _ _ _ _ _ _ _ _ _ _ _ _ _ _ _ _ _ _ _ _ _ _ _ _ _ _ _ _ hx hm hR)

theorem strL_tbl : ∀ q ∈ strL, Cond.stringRef q.1 q.2.1 q.2.2 ∈ lw_tbl := by decide +kernel
theorem nestL_tbl : ∀ q ∈ nestL, Cond.methodLinkNest q.1 q.2.1 q.2.2.1 q.2.2.2 ∈ lw_tbl := by decide +kernel
theorem ao_tbl : Cond.arrayOver (.object "ReelChange$State") ∈ lw_tbl := by decide +kernel
theorem ca_tbl : Cond.castable nseN nseN ∈ lw_tbl := by decide +kernel
theorem zs1_tbl : Cond.laysStatic Bundle.tN "UNASSIGNED_STACK" Bundle.steD ∈ lw_tbl := by decide +kernel
theorem zs2_tbl : Cond.laysStatic Bundle.tN "SUPPRESSED_SENTINEL" Bundle.listD ∈ lw_tbl := by decide +kernel
theorem zi_tbl : Cond.initialized Bundle.tN ∈ lw_tbl := by decide +kernel
theorem cs_tbl : Cond.laysStatic strN "COMPACT_STRINGS" "Z" ∈ lw_tbl := by decide +kernel
theorem ci_tbl : Cond.initialized strN ∈ lw_tbl := by decide +kernel
theorem sf_tbl : Cond.laysStatic pcN "SIOOBE_FORMATTER" bfD ∈ lw_tbl := by decide +kernel
theorem si_tbl : Cond.initialized pcN ∈ lw_tbl := by decide +kernel
def strT (q : String × Nat × String) : Term := .string q.1 q.2.1
def strC (q : String × Nat × String) : List Cond := [.exactly (strT q) strN, .eq (.field (strT q) strN "coder" "B") (.int 0), .arrayOf (.field (strT q) strN "value" "[B") .byte, .eq (.length (.field (strT q) strN "value" "[B")) (.int (Int32.ofNat (sBy q.2.2).length))] ++ (List.range (sBy q.2.2).length).map (fun j => .eq (.elem (.field (strT q) strN "value" "[B") (.int (Int32.ofNat j))) (.int ((sBy q.2.2).getD j 0)))
theorem strL_key : ∀ q ∈ strL, ∀ q' ∈ strL, q.1 = q'.1 → q.2.1 = q'.2.1 → q = q' := by decide +kernel
def strP : List Nat := [23, 32, 41, 50, 60, 69, 77, 85, 91, 99, 107, 115, 123, 131, 138, 147, 155, 163, 174, 184, 193, 202, 211, 220, 229, 238, 247, 255, 265, 273, 281, 290, 299, 307, 317, 327, 337, 348, 358, 367, 376, 385, 394, 403, 412, 421, 429, 439, 448, 455, 464, 476, 487, 497, 507, 517, 527, 537, 547, 557, 566, 577, 586, 595, 605, 615]
theorem strP_ok : (List.range 66).all (fun i => decide (((flatC (Jvm.Cond.and given_1 narrow_1)).drop (strP.getD i 0)).take (strC (strL.getD i ("", 0, ""))).length = strC (strL.getD i ("", 0, "")))) = true := by decide +kernel
theorem strL_n : strL.length = 66 := by decide +kernel
theorem strC_in : ∀ q ∈ strL, ∀ w ∈ strC q, w ∈ flatC (Jvm.Cond.and given_1 narrow_1) := by
  intro q hq w hw
  obtain ⟨i, hi⟩ := List.mem_iff_getElem?.mp hq
  have hl : i < strL.length := (List.getElem?_eq_some_iff.mp hi).1
  rw [strL_n] at hl
  have h := List.all_eq_true.mp strP_ok i (List.mem_range.mpr hl)
  have h2 := of_decide_eq_true h
  have e : strL.getD i ("", 0, "") = q := by rw [List.getD_eq_getElem?_getD, hi]; rfl
  rw [e] at h2
  rw [← h2] at hw
  exact List.mem_of_mem_drop (List.mem_of_mem_take hw)
theorem isRef_ev {args : Array Value} {s : State} {t : Term} (h : (Cond.isRef t).before args s = true) : ∃ v : Value, t.eval args s none [] s = some v ∧ (v = .null ∨ ∃ b : Nat, v = .ref b) := by
  simp only [Cond.before, Cond.holds, Cond.value] at h
  cases he : t.eval args s none [] s with
  | none => simp [he] at h
  | some v =>
    refine ⟨v, rfl, ?_⟩
    rw [he] at h
    cases v with
    | null => exact Or.inl rfl
    | ref a => exact Or.inr ⟨a, rfl⟩
    | _ => simp [Value.isRef] at h
set_option maxHeartbeats 4000000 in
set_option maxRecDepth 100000 in
theorem k_start {p : Program} {s : State} {m : MethodId} {meth : Method} {c : Code} {b L : Nat} {xs : Nat → Int32} (C0 : lw_At p s m meth c b L xs) : ∃ g : Gx, kK g s ∧ kS g (fun q : Nat => s.heap.size ≤ q) s s.heap := by
  obtain ⟨hx, hb, hr, hml, hown, hts, hX, hbl, hlocks, hgv⟩ := C0
  have hts0 : ∀ w ∈ wsL_law0, w.before #[Value.ref b] s = true := fun w h => hts w (wsL_in w h)
  have hf := flat_of_before _ hgv
  have hA : ∀ a : Nat, a < s.heap.size → ¬ (fun q : Nat => s.heap.size ≤ q) a := fun a h => Nat.not_le.mpr h
  obtain ⟨c0, i0, hk0⟩ := u_known (C := RX0) (T := TX0) (N := 2) (n := 2) hts0 inlX0 (hts0 _ mw34)
  obtain ⟨c1, i1, hk1⟩ := u_known (C := RX1) (T := TX1) (N := 3) (n := 3) hts0 inlX1 (hts0 _ mw42)
  obtain ⟨c2, i2, hk2⟩ := u_known (C := RX2) (T := TX2) (N := 2) (n := 2) hts0 inlX2 (hts0 _ mw46)
  obtain ⟨c3, i3, hk3⟩ := u_known (C := RX3) (T := TX3) (N := 8) (n := 8) hts0 inlX3 (hts0 _ mw18)
  obtain ⟨c4, i4, hk4⟩ := u_known (C := RX4) (T := TX4) (N := 5) (n := 5) hts0 inlX4 (hts0 _ mw26)
  obtain ⟨c5, i5, hk5⟩ := u_known (C := RX5) (T := TX5) (N := 9) (n := 9) hts0 inlX5 (hts0 _ mw30)
  obtain ⟨c6, i6, hk6⟩ := u_known (C := RX6) (T := TX6) (N := 3) (n := 3) hts0 inlX6 (hts0 _ mw38)
  obtain ⟨c7, i7, hk7⟩ := u_known (C := RX7) (T := TX7) (N := 6) (n := 6) hts0 inlX7 (hts0 _ mw22)
  obtain ⟨c8, i8, hk8⟩ := u_known (C := RX8) (T := TX8) (N := 4) (n := 4) hts0 inlX8 (hts0 _ mw63)
  obtain ⟨c9, i9, hk9⟩ := u_known (C := RX9) (T := TX9) (N := 15) (n := 15) hts0 inlX9 (hts0 _ mw14)
  obtain ⟨c10, i10, hk10⟩ := u_known (C := RX10) (T := TX10) (N := 10) (n := 10) hts0 inlX10 (hts0 _ mw1)
  obtain ⟨c11, i11, hk11⟩ := u_known (C := RX11) (T := TX11) (N := 43) (n := 43) hts0 inlX11 (hts0 _ mw4)
  obtain ⟨cyB, kAB, coB, f1B, f2B, f3B⟩ := Cond.arrayClass_spec (hts0 _ mw58)
  obtain ⟨cyI, kAI, coI, f1I, f2I, f3I⟩ := Cond.arrayClass_spec (hts0 _ mw107)
  obtain ⟨cyJ, kAJ, coJ, f1J, f2J, f3J⟩ := Cond.arrayClass_spec (hts0 _ mw6)
  have hao : va_AO "ReelChange$State" s := va_AO.of (hts _ ao_tbl)
  obtain ⟨co, cyO, kO, o1, o2, o3, o4, o5⟩ := Cond.arrayOver_spec hao
  have hstr : ∀ q : String × Nat × String, ∃ z : Nat × Nat, q ∈ strL → vk_R q.1 q.2.1 q.2.2 z.1 s ∧ va_O strN z.1 (fun q : Nat => s.heap.size ≤ q) s s.heap ∧ va_OF strN "coder" "B" (.int 0) z.1 (fun q : Nat => s.heap.size ≤ q) s s.heap ∧ va_OF strN "value" "[B" (.ref z.2) z.1 (fun q : Nat => s.heap.size ≤ q) s s.heap ∧ va_T .byte z.2 (sBy q.2.2).length (fun j => .int ((sBy q.2.2).getD j 0)) (fun q : Nat => s.heap.size ≤ q) s s.heap := by
    intro q
    by_cases hq : q ∈ strL
    · have hc : ∀ w ∈ strC q, w.before #[Value.ref b] s = true := fun w hw => hf w (strC_in q hq w hw)
      have hlen : (sBy q.2.2).length ≤ 8 := strL_len q hq
      have c0 : (Cond.exactly (strT q) strN).before #[Value.ref b] s = true := hc _ (List.mem_append_left _ (by simp))
      have c1 : (Cond.eq (.field (strT q) strN "coder" "B") (.int 0)).before #[Value.ref b] s = true := hc _ (List.mem_append_left _ (by simp))
      have c2 : (Cond.arrayOf (.field (strT q) strN "value" "[B") .byte).before #[Value.ref b] s = true := hc _ (List.mem_append_left _ (by simp))
      have c3 : (Cond.eq (.length (.field (strT q) strN "value" "[B")) (.int (Int32.ofNat (sBy q.2.2).length))).before #[Value.ref b] s = true := hc _ (List.mem_append_left _ (by simp))
      have c4 : ∀ j : Nat, j < (sBy q.2.2).length → (Cond.eq (.elem (.field (strT q) strN "value" "[B") (.int (Int32.ofNat j))) (.int ((sBy q.2.2).getD j 0))).before #[Value.ref b] s = true := fun j hj => hc _ (List.mem_append_right _ (List.mem_map.mpr ⟨j, List.mem_range.mpr hj, rfl⟩))
      obtain ⟨adK, adV, hS, hev⟩ := vk_Sof (args := #[Value.ref b]) (s := s) (N := 1) (tm := fun _ => strT q) (len := [(sBy q.2.2).length]) (byt := [sBy q.2.2]) (A := fun q : Nat => s.heap.size ≤ q)
        (fun i hi => by
          obtain rfl : i = 0 := by omega
          show (sBy q.2.2).length < 2 ^ 31
          omega)
        (fun i hi => c0) (fun i hi => c1) (fun i hi => c2)
        (fun i hi => by
          obtain rfl : i = 0 := by omega
          exact c3)
        (fun i hi j hj => by
          obtain rfl : i = 0 := by omega
          exact c4 j hj)
        (fun i j hi hj hij => by omega) hA
      obtain ⟨h1, h2, h3, h4⟩ := hS.1 0 (by omega)
      refine ⟨(adK 0, adV 0), fun _ => ⟨vk_R.of (hts _ (strL_tbl q hq)) (hev 0 (by omega)), h1, h2, h3, h4⟩⟩
    · exact ⟨(0, 0), fun h => absurd h hq⟩
  obtain ⟨ad, had⟩ := Classical.axiomOfChoice hstr
  have hkey : ∀ q ∈ strL, ∀ q' ∈ strL, q.1 = q'.1 → q.2.1 = q'.2.1 → q = q' := by
    intro q hq q' hq' e1 e2
    exact strL_key q hq q' hq' e1 e2
  have hpick : ∀ (o : String) (i : Nat), ∃ z : Nat × Nat, ∀ q ∈ strL, q.1 = o → q.2.1 = i → z = ad q := by
    intro o i
    by_cases hh : ∃ q ∈ strL, q.1 = o ∧ q.2.1 = i
    · obtain ⟨q, hq, e1, e2⟩ := hh
      exact ⟨ad q, fun q' hq' g1 g2 => by rw [hkey q hq q' hq' (e1.trans g1.symm) (e2.trans g2.symm)]⟩
    · exact ⟨(0, 0), fun q hq e1 e2 => absurd ⟨q, hq, e1, e2⟩ hh⟩
  obtain ⟨pk, hpk⟩ := Classical.axiomOfChoice (fun o : String => Classical.axiomOfChoice (hpick o))
  refine ⟨((fun k => match k with | 0 => c0 | 1 => c1 | 2 => c2 | 3 => c3 | 4 => c4 | 5 => c5 | 6 => c6 | 7 => c7 | 8 => c8 | 9 => c9 | 10 => c10 | _ => c11, fun k => match k with | 0 => i0 | 1 => i1 | 2 => i2 | 3 => i3 | 4 => i4 | 5 => i5 | 6 => i6 | 7 => i7 | 8 => i8 | 9 => i9 | 10 => i10 | _ => i11), cyB, cyI, cyJ, cyO, (fun o i => (pk o i).1, fun o i => (pk o i).2)), ⟨⟨?_, ?_⟩, hao, ?_, ?_, ?_⟩, ?_, ?_, ?_⟩
  · intro k q hq
    match k, hq with
    | 0, hq => cases hq; exact hk0
    | 1, hq => cases hq; exact hk1
    | 2, hq => cases hq; exact hk2
    | 3, hq => cases hq; exact hk3
    | 4, hq => cases hq; exact hk4
    | 5, hq => cases hq; exact hk5
    | 6, hq => cases hq; exact hk6
    | 7, hq => cases hq; exact hk7
    | 8, hq => cases hq; exact hk8
    | 9, hq => cases hq; exact hk9
    | 10, hq => cases hq; exact hk10
    | 11, hq => cases hq; exact hk11
    | k + 12, hq => simp [vwCl] at hq
  · intro k q hq
    match k, hq with
    | 0, hq => cases hq; exact ⟨fun n z => ⟨fun k h => (by cases h), kAB, f2B, coB, f3B⟩, f1B⟩
    | 1, hq => cases hq; exact ⟨fun n z => ⟨fun k h => (by cases h), kAI, f2I, coI, f3I⟩, f1I⟩
    | 2, hq => cases hq; exact ⟨fun n z => ⟨fun k h => (by cases h), kAJ, f2J, coJ, f3J⟩, f1J⟩
    | 3, hq => cases hq; exact ⟨fun n z => ⟨fun k h => (by cases h), kO, o3, co, o4⟩, kO, co, o3, o4, o1, o5⟩
    | k + 4, hq => simp at hq
  · intro q hq
    exact ⟨_, (had q hq).1⟩
  · intro q hq
    exact va_Nw.of rfl (hts _ (nestL_tbl q hq))
  · exact va_Nw.of rfl (hts _ ca_tbl)
  · exact va_Zof (hts _ cs_tbl) (hts _ ci_tbl) (va_eqt (hf _ (by decide +kernel))) hA
  · have hr1 : (Cond.isRef (.static pcN "SIOOBE_FORMATTER" bfD)).before #[Value.ref b] s = true := hf _ (by decide +kernel)
    obtain ⟨v, hv1, hv2⟩ := isRef_ev hr1
    exact ⟨v, hv2, va_Zof (hts _ sf_tbl) (hts _ si_tbl) hv1 hA⟩
  · intro q hq
    have e := hpk q.1 q.2.1 q hq rfl rfl
    have h := had q hq
    show vk_R q.1 q.2.1 q.2.2 (pk q.1 q.2.1).1 s ∧ va_O strN (pk q.1 q.2.1).1 _ s s.heap ∧ va_OF strN "coder" "B" (.int 0) (pk q.1 q.2.1).1 _ s s.heap ∧ va_OF strN "value" "[B" (.ref (pk q.1 q.2.1).2) (pk q.1 q.2.1).1 _ s s.heap ∧ va_T .byte (pk q.1 q.2.1).2 _ _ _ s s.heap
    rw [e]
    exact h
set_option maxHeartbeats 4000000 in
set_option maxRecDepth 100000 in
theorem k_go {p : Program} {l : Launch} {e : Env} {s : State} {m : MethodId} {below : List Frame} {meth : Method} {c : Code} {b L : Nat} {xs : Nat → Int32} (g : Gx) (hKg : kK g s) (hSt : kS g (fun q : Nat => s.heap.size ≤ q) s s.heap) (hlt : l.stackTraces = false) (hL : L ≤ 3072) (C0 : lw_At p s m meth c b L xs) : W p l e room_1 s m #[Value.ref b] below meth c s.heap [] 0 0 (lw_Z below #[Value.ref b] s) (entryFrame m ([Value.ref b] : List Value).toArray 7) := by
  obtain ⟨hx, hb, hr, hml, hown, hts, hX, hbl, hlocks, hgv⟩ := C0
  have X : Cx p s m meth c #[Value.ref b] cL_law 7 RL (fun q : Nat => s.heap.size ≤ q) g := ⟨hx, hb, hml, hown, fun w h => hts w (wsL_in w h), hKg, fun _ h => h, hlocks, hSt⟩
  have hbA : ¬ (fun q : Nat => s.heap.size ≤ q) b := Nat.not_le.mpr hbl
  have hf := flat_of_before _ hgv
  have hZ : kZ (fun q : Nat => s.heap.size ≤ q) s s.heap := ⟨vx_Zqof (hts _ zs1_tbl) (hts _ zi_tbl) (hf _ (by decide +kernel)) (fun a h => Nat.not_le.mpr h), vx_Zqof (hts _ zs2_tbl) (hts _ zi_tbl) (hf _ (by decide +kernel)) (fun a h => Nat.not_le.mpr h), fun q hq => va_Nw.of rfl (hts _ (de_tbl q hq))⟩
  rw [lg_entry_eq]
  refine law_begin X (fun h0 mo lo cf xw mw hx0 hm0 => ?_) s.heap [] _ (fun k q h => by simp at h) ⟨fun i j p q h => by simp at h, fun k q h => by simp at h⟩ va_S.rf (lv_entry [.ref b] (n := 7) (Nat.le_of_ble_eq_true rfl))
  exact law_loop X hX hbl hbA hr (fun _ h => h) hL hlt hZ (fun w h => hts w (wsE_in w h)) _ 0 0 (fun _ => 0) (fun _ => 0) 0 (fun _ => 0) 0 (fun _ => 0) 0 (fun _ => 0) 0 (fun _ => 0) 0 (fun _ => 0) 0 (fun _ => 0) 0 0 0 0 0 0 (fun _ => 0) (fun _ => 0) (fun _ => 0) (fun _ => 0) 0 0 0 cf 0 (fun _ => 0) (fun _ => 0) (fun _ => 0) (fun _ => 0) (fun _ => 0) 0 0 0 xw mw (fun _ => 0) 242 6346 rfl (by rw [zI]; omega) (by rw [zI]; omega) (by rw [zI]; omega) hx0 hm0 LR0
