theorem dL_law_1730 : decode cL_law 1730 = .ok (.aload_n 1, 1) := dk_43 (kat_27 2 rfl)
theorem dL_law_1731 : decode cL_law 1731 = .ok (.invokevirtual 194, 3) := dk_182 (kat_27 3 rfl) (kat_27 4 rfl) (kat_27 5 rfl) rfl
theorem dL_law_1734 : decode cL_law 1734 = .ok (.pop, 1) := dk_87 (kat_27 6 rfl)
theorem dL_law_1735 : decode cL_law 1735 = .ok (.aload_n 2, 1) := dk_44 (kat_27 7 rfl)
theorem dL_law_1736 : decode cL_law 1736 = .ok (.invokevirtual 197, 3) := dk_182 (kat_27 8 rfl) (kat_27 9 rfl) (kat_27 10 rfl) rfl
theorem dL_law_1739 : decode cL_law 1739 = .ok (.pop, 1) := dk_87 (kat_27 11 rfl)
theorem dL_law_1740 : decode cL_law 1740 = .ok (.goto 322, 3) := dk_167 (kat_27 12 rfl) (kat_27 13 rfl) (kat_27 14 rfl) (by decide)
set_option maxHeartbeats 4000000 in
set_option maxRecDepth 100000 in
theorem law_c42 {p : Program} {l : Launch} {e : Env} {s : State} {m : MethodId} {below : List Frame} {meth : Method} {c : Code} {A : Nat → Prop} {g : Gx} {b L : Nat} {xs : Nat → Int32} {h0 mo lo n1 n2 : Nat} {fo : Nat → Int64} {u4 : Int32} {xtpd : Int32} {tpf : Nat → Int32} {yhnf : Nat → Int32} {yhtn : Int32} {yhtf : Nat → Int32} {yhjn : Int32} {yhjf : Nat → Int32} {yhmn : Int32} {yhmf : Nat → Int32} {yhbn : Int32} {yhbf : Nat → Int32} {yhsn : Int32} {yhsf : Nat → Int32} {yhcn : Int32} {yhcf : Nat → Int32} {zrn : Int32} {zmn : Int32} {zwn : Int32} {zpn : Int32} {zmd : Int32} {ztr : Int32} {zrf : Nat → Int32} {zmf : Nat → Int32} {zwf : Nat → Int32} {zpf : Nat → Int32} {kac : Int32} {knx : Int32} {kim : Int32} {cf : Nat → SC} {m_taped : Int32} {d_tape : Nat → Int32} {d_r : Nat → Int32} {d_st : Nat → Int32} {d_undone : Nat → Int32} {d_kept : Nat → Int32} {m_undos : Int32} {m_images : Int32} {m_hasHouse : Int32} {xw mw : va_W} (X : Cx p s m meth c #[Value.ref b] cL_law 7 RL A g) (hX : va_X b L xs s s.heap) (hbl : b < s.heap.size) (hbA : ¬ A b) (hi : 0 ≤ u4.toInt ∧ u4.toInt + 6 ≤ (L : Int)) (hL : L ≤ 3072) (h1 : n1 ≤ 601023) (h2 : n2 ≤ 7293028) (hlt : l.stackTraces = false) (hZ : kZ A s s.heap) (htsE : ∀ w ∈ wsE, w.before #[Value.ref b] s = true) (hx : XW g h0 xtpd tpf yhnf yhtn yhtf yhjn yhjf yhmn yhmf yhbn yhbf yhsn yhsf yhcn yhcf zrn zmn zwn zpn zmd ztr zrf zmf zwf zpf kac knx kim cf xw) (hm : MW g mo m_taped d_tape d_r d_st d_undone d_kept m_undos m_images m_hasHouse mw) (hR : LR xtpd tpf yhnf yhtn yhtf yhjn yhjf yhmn yhmf yhbn yhbf yhsn yhsf yhcn yhcf zrn zmn zwn zpn zmd ztr zrf zmf zwf zpf kac knx kim cf m_taped d_tape d_r d_st d_undone d_kept m_undos m_images m_hasHouse) (kk : ∀ (xtpd_2 : Int32) (tpf_2 : Nat → Int32) (yhnf_2 : Nat → Int32) (yhtn_2 : Int32) (yhtf_2 : Nat → Int32) (yhjn_2 : Int32) (yhjf_2 : Nat → Int32) (yhmn_2 : Int32) (yhmf_2 : Nat → Int32) (yhbn_2 : Int32) (yhbf_2 : Nat → Int32) (yhsn_2 : Int32) (yhsf_2 : Nat → Int32) (yhcn_2 : Int32) (yhcf_2 : Nat → Int32) (zrn_2 : Int32) (zmn_2 : Int32) (zwn_2 : Int32) (zpn_2 : Int32) (zmd_2 : Int32) (ztr_2 : Int32) (zrf_2 : Nat → Int32) (zmf_2 : Nat → Int32) (zwf_2 : Nat → Int32) (zpf_2 : Nat → Int32) (kac_2 : Int32) (knx_2 : Int32) (kim_2 : Int32) (cf_2 : Nat → SC) (m_taped_2 : Int32) (d_tape_2 : Nat → Int32) (d_r_2 : Nat → Int32) (d_st_2 : Nat → Int32) (d_undone_2 : Nat → Int32) (d_kept_2 : Nat → Int32) (m_undos_2 : Int32) (m_images_2 : Int32) (m_hasHouse_2 : Int32) (xw2 mw2 : va_W), XW g h0 xtpd_2 tpf_2 yhnf_2 yhtn_2 yhtf_2 yhjn_2 yhjf_2 yhmn_2 yhmf_2 yhbn_2 yhbf_2 yhsn_2 yhsf_2 yhcn_2 yhcf_2 zrn_2 zmn_2 zwn_2 zpn_2 zmd_2 ztr_2 zrf_2 zmf_2 zwf_2 zpf_2 kac_2 knx_2 kim_2 cf_2 xw2 → MW g mo m_taped_2 d_tape_2 d_r_2 d_st_2 d_undone_2 d_kept_2 m_undos_2 m_images_2 m_hasHouse_2 mw2 → LR xtpd_2 tpf_2 yhnf_2 yhtn_2 yhtf_2 yhjn_2 yhjf_2 yhmn_2 yhmf_2 yhbn_2 yhbf_2 yhsn_2 yhsf_2 yhcn_2 yhcf_2 zrn_2 zmn_2 zwn_2 zpn_2 zmd_2 ztr_2 zrf_2 zmf_2 zwf_2 zpf_2 kac_2 knx_2 kim_2 cf_2 m_taped_2 d_tape_2 d_r_2 d_st_2 d_undone_2 d_kept_2 m_undos_2 m_images_2 m_hasHouse_2 → Wk p l e room_1 s m #[Value.ref b] below meth c (lw_Z below #[Value.ref b] s) A g 7 n1 n2 (xw2 ++ (mw2 ++ [(cAJ g lo 1 fo)])) [(4, .int u4), (3, .ref lo), (2, .ref mo), (1, .ref h0), (0, .ref b)] 2062 []) : Wk p l e room_1 s m #[Value.ref b] below meth c (lw_Z below #[Value.ref b] s) A g 7 n1 n2 (xw ++ (mw ++ [(cAJ g lo 1 fo)])) [(4, .int u4), (3, .ref lo), (2, .ref mo), (1, .ref h0), (0, .ref b)] 1730 [] := by
  have hiv : IV u4 0 3066 := ⟨hi.1, by omega⟩
  refine k_aload_n X dL_law_1730 3 rfl ?_
  refine lx_wrong (st := []) () X hx dL_law_1731 mw1352 (Nat.le_of_ble_eq_true rfl) (Nat.le_of_ble_eq_true rfl) (Nat.le_of_ble_eq_true rfl) (Nat.le_trans h1 (Nat.le_of_ble_eq_true rfl)) (Nat.le_trans h2 (Nat.le_of_ble_eq_true rfl)) (fun r_1 xw_2 hx_3 => ?_)
  refine k_pop X dL_law_1734 rfl ?_
  refine k_aload_n X dL_law_1735 2 rfl ?_
  refine lm_wrong (st := []) () X hm dL_law_1736 mw1363 (Nat.le_of_ble_eq_true rfl) (Nat.le_of_ble_eq_true rfl) (Nat.le_of_ble_eq_true rfl) (Nat.le_trans h1 (Nat.le_of_ble_eq_true rfl)) (Nat.le_trans h2 (Nat.le_of_ble_eq_true rfl)) (fun r_4 mw_5 hm_6 => ?_)
  refine k_pop X dL_law_1739 rfl ?_
  refine k_goto 2062 X dL_law_1740 (by decide) ?_
  exact kk _ _ _ _ _ _ _ _ _ _ _ _ _ _ _ _ _ _ _ _ _ _ _ _ _ _ _ _ _ _ _ _ _ _ _ _ _ _ _ _ hx_3 hm_6 hR

theorem dL_law_1743 : decode cL_law 1743 = .ok (.aload_n 1, 1) := dk_43 (kat_27 15 rfl)
theorem dL_law_1744 : decode cL_law 1744 = .ok (.invokevirtual 198, 3) := dk_182 (kat_27 16 rfl) (kat_27 17 rfl) (kat_27 18 rfl) rfl
theorem dL_law_1747 : decode cL_law 1747 = .ok (.pop, 1) := dk_87 (kat_27 19 rfl)
theorem dL_law_1748 : decode cL_law 1748 = .ok (.aload_n 2, 1) := dk_44 (kat_27 20 rfl)
theorem dL_law_1749 : decode cL_law 1749 = .ok (.invokevirtual 201, 3) := dk_182 (kat_27 21 rfl) (kat_27 22 rfl) (kat_27 23 rfl) rfl
theorem dL_law_1752 : decode cL_law 1752 = .ok (.pop, 1) := dk_87 (kat_27 24 rfl)
theorem dL_law_1753 : decode cL_law 1753 = .ok (.goto 309, 3) := dk_167 (kat_27 25 rfl) (kat_27 26 rfl) (kat_27 27 rfl) (by decide)
set_option maxHeartbeats 4000000 in
set_option maxRecDepth 100000 in
theorem law_c43 {p : Program} {l : Launch} {e : Env} {s : State} {m : MethodId} {below : List Frame} {meth : Method} {c : Code} {A : Nat → Prop} {g : Gx} {b L : Nat} {xs : Nat → Int32} {h0 mo lo n1 n2 : Nat} {fo : Nat → Int64} {u4 : Int32} {xtpd : Int32} {tpf : Nat → Int32} {yhnf : Nat → Int32} {yhtn : Int32} {yhtf : Nat → Int32} {yhjn : Int32} {yhjf : Nat → Int32} {yhmn : Int32} {yhmf : Nat → Int32} {yhbn : Int32} {yhbf : Nat → Int32} {yhsn : Int32} {yhsf : Nat → Int32} {yhcn : Int32} {yhcf : Nat → Int32} {zrn : Int32} {zmn : Int32} {zwn : Int32} {zpn : Int32} {zmd : Int32} {ztr : Int32} {zrf : Nat → Int32} {zmf : Nat → Int32} {zwf : Nat → Int32} {zpf : Nat → Int32} {kac : Int32} {knx : Int32} {kim : Int32} {cf : Nat → SC} {m_taped : Int32} {d_tape : Nat → Int32} {d_r : Nat → Int32} {d_st : Nat → Int32} {d_undone : Nat → Int32} {d_kept : Nat → Int32} {m_undos : Int32} {m_images : Int32} {m_hasHouse : Int32} {xw mw : va_W} (X : Cx p s m meth c #[Value.ref b] cL_law 7 RL A g) (hX : va_X b L xs s s.heap) (hbl : b < s.heap.size) (hbA : ¬ A b) (hi : 0 ≤ u4.toInt ∧ u4.toInt + 6 ≤ (L : Int)) (hL : L ≤ 3072) (h1 : n1 ≤ 601023) (h2 : n2 ≤ 7293028) (hlt : l.stackTraces = false) (hZ : kZ A s s.heap) (htsE : ∀ w ∈ wsE, w.before #[Value.ref b] s = true) (hx : XW g h0 xtpd tpf yhnf yhtn yhtf yhjn yhjf yhmn yhmf yhbn yhbf yhsn yhsf yhcn yhcf zrn zmn zwn zpn zmd ztr zrf zmf zwf zpf kac knx kim cf xw) (hm : MW g mo m_taped d_tape d_r d_st d_undone d_kept m_undos m_images m_hasHouse mw) (hR : LR xtpd tpf yhnf yhtn yhtf yhjn yhjf yhmn yhmf yhbn yhbf yhsn yhsf yhcn yhcf zrn zmn zwn zpn zmd ztr zrf zmf zwf zpf kac knx kim cf m_taped d_tape d_r d_st d_undone d_kept m_undos m_images m_hasHouse) (kk : ∀ (xtpd_2 : Int32) (tpf_2 : Nat → Int32) (yhnf_2 : Nat → Int32) (yhtn_2 : Int32) (yhtf_2 : Nat → Int32) (yhjn_2 : Int32) (yhjf_2 : Nat → Int32) (yhmn_2 : Int32) (yhmf_2 : Nat → Int32) (yhbn_2 : Int32) (yhbf_2 : Nat → Int32) (yhsn_2 : Int32) (yhsf_2 : Nat → Int32) (yhcn_2 : Int32) (yhcf_2 : Nat → Int32) (zrn_2 : Int32) (zmn_2 : Int32) (zwn_2 : Int32) (zpn_2 : Int32) (zmd_2 : Int32) (ztr_2 : Int32) (zrf_2 : Nat → Int32) (zmf_2 : Nat → Int32) (zwf_2 : Nat → Int32) (zpf_2 : Nat → Int32) (kac_2 : Int32) (knx_2 : Int32) (kim_2 : Int32) (cf_2 : Nat → SC) (m_taped_2 : Int32) (d_tape_2 : Nat → Int32) (d_r_2 : Nat → Int32) (d_st_2 : Nat → Int32) (d_undone_2 : Nat → Int32) (d_kept_2 : Nat → Int32) (m_undos_2 : Int32) (m_images_2 : Int32) (m_hasHouse_2 : Int32) (xw2 mw2 : va_W), XW g h0 xtpd_2 tpf_2 yhnf_2 yhtn_2 yhtf_2 yhjn_2 yhjf_2 yhmn_2 yhmf_2 yhbn_2 yhbf_2 yhsn_2 yhsf_2 yhcn_2 yhcf_2 zrn_2 zmn_2 zwn_2 zpn_2 zmd_2 ztr_2 zrf_2 zmf_2 zwf_2 zpf_2 kac_2 knx_2 kim_2 cf_2 xw2 → MW g mo m_taped_2 d_tape_2 d_r_2 d_st_2 d_undone_2 d_kept_2 m_undos_2 m_images_2 m_hasHouse_2 mw2 → LR xtpd_2 tpf_2 yhnf_2 yhtn_2 yhtf_2 yhjn_2 yhjf_2 yhmn_2 yhmf_2 yhbn_2 yhbf_2 yhsn_2 yhsf_2 yhcn_2 yhcf_2 zrn_2 zmn_2 zwn_2 zpn_2 zmd_2 ztr_2 zrf_2 zmf_2 zwf_2 zpf_2 kac_2 knx_2 kim_2 cf_2 m_taped_2 d_tape_2 d_r_2 d_st_2 d_undone_2 d_kept_2 m_undos_2 m_images_2 m_hasHouse_2 → Wk p l e room_1 s m #[Value.ref b] below meth c (lw_Z below #[Value.ref b] s) A g 7 n1 n2 (xw2 ++ (mw2 ++ [(cAJ g lo 1 fo)])) [(4, .int u4), (3, .ref lo), (2, .ref mo), (1, .ref h0), (0, .ref b)] 2062 []) : Wk p l e room_1 s m #[Value.ref b] below meth c (lw_Z below #[Value.ref b] s) A g 7 n1 n2 (xw ++ (mw ++ [(cAJ g lo 1 fo)])) [(4, .int u4), (3, .ref lo), (2, .ref mo), (1, .ref h0), (0, .ref b)] 1743 [] := by
  have hiv : IV u4 0 3066 := ⟨hi.1, by omega⟩
  refine k_aload_n X dL_law_1743 3 rfl ?_
  refine lx_exchanges (st := []) () X hx dL_law_1744 mw1367 (Nat.le_of_ble_eq_true rfl) (Nat.le_of_ble_eq_true rfl) (Nat.le_of_ble_eq_true rfl) (Nat.le_trans h1 (Nat.le_of_ble_eq_true rfl)) (Nat.le_trans h2 (Nat.le_of_ble_eq_true rfl)) (fun r_1 xw_2 hx_3 => ?_)
  refine k_pop X dL_law_1747 rfl ?_
  refine k_aload_n X dL_law_1748 2 rfl ?_
  refine lm_exchanges (st := []) () X hm dL_law_1749 mw1394 (Nat.le_of_ble_eq_true rfl) (Nat.le_of_ble_eq_true rfl) (Nat.le_of_ble_eq_true rfl) (Nat.le_trans h1 (Nat.le_of_ble_eq_true rfl)) (Nat.le_trans h2 (Nat.le_of_ble_eq_true rfl)) (fun r_4 mw_5 hm_6 => ?_)
  refine k_pop X dL_law_1752 rfl ?_
  refine k_goto 2062 X dL_law_1753 (by decide) ?_
  exact kk _ _ _ _ _ _ _ _ _ _ _ _ _ _ _ _ _ _ _ _ _ _ _ _ _ _ _ _ _ _ _ _ _ _ _ _ _ _ _ _ hx_3 hm_6 hR

theorem dL_law_1756 : decode cL_law 1756 = .ok (.aload_n 1, 1) := dk_43 (kat_27 28 rfl)
theorem dL_law_1757 : decode cL_law 1757 = .ok (.aload_n 0, 1) := dk_42 (kat_27 29 rfl)
theorem dL_law_1758 : decode cL_law 1758 = .ok (.iload 4, 2) := dk_21 (kat_27 30 rfl) (kat_27 31 rfl) rfl
theorem dL_law_1760 : decode cL_law 1760 = .ok (.iconst 1, 1) := dk_4 (kat_27 32 rfl)
theorem dL_law_1761 : decode cL_law 1761 = .ok (.iadd, 1) := dk_96 (kat_27 33 rfl)
theorem dL_law_1762 : decode cL_law 1762 = .ok (.iaload, 1) := dk_46 (kat_27 34 rfl)
theorem dL_law_1763 : decode cL_law 1763 = .ok (.aload_n 0, 1) := dk_42 (kat_27 35 rfl)
theorem dL_law_1764 : decode cL_law 1764 = .ok (.iload 4, 2) := dk_21 (kat_27 36 rfl) (kat_27 37 rfl) rfl
theorem dL_law_1766 : decode cL_law 1766 = .ok (.iconst 2, 1) := dk_5 (kat_27 38 rfl)
theorem dL_law_1767 : decode cL_law 1767 = .ok (.iadd, 1) := dk_96 (kat_27 39 rfl)
theorem dL_law_1768 : decode cL_law 1768 = .ok (.iaload, 1) := dk_46 (kat_27 40 rfl)
theorem dL_law_1769 : decode cL_law 1769 = .ok (.invokevirtual 202, 3) := dk_182 (kat_27 41 rfl) (kat_27 42 rfl) (kat_27 43 rfl) rfl
theorem dL_law_1772 : decode cL_law 1772 = .ok (.pop, 1) := dk_87 (kat_27 44 rfl)
theorem dL_law_1773 : decode cL_law 1773 = .ok (.aload_n 2, 1) := dk_44 (kat_27 45 rfl)
theorem dL_law_1774 : decode cL_law 1774 = .ok (.aload_n 0, 1) := dk_42 (kat_27 46 rfl)
theorem dL_law_1775 : decode cL_law 1775 = .ok (.iload 4, 2) := dk_21 (kat_27 47 rfl) (kat_27 48 rfl) rfl
theorem dL_law_1777 : decode cL_law 1777 = .ok (.iconst 1, 1) := dk_4 (kat_27 49 rfl)
theorem dL_law_1778 : decode cL_law 1778 = .ok (.iadd, 1) := dk_96 (kat_27 50 rfl)
theorem dL_law_1779 : decode cL_law 1779 = .ok (.iaload, 1) := dk_46 (kat_27 51 rfl)
theorem dL_law_1780 : decode cL_law 1780 = .ok (.aload_n 0, 1) := dk_42 (kat_27 52 rfl)
theorem dL_law_1781 : decode cL_law 1781 = .ok (.iload 4, 2) := dk_21 (kat_27 53 rfl) (kat_27 54 rfl) rfl
theorem dL_law_1783 : decode cL_law 1783 = .ok (.iconst 2, 1) := dk_5 (kat_27 55 rfl)
theorem dL_law_1784 : decode cL_law 1784 = .ok (.iadd, 1) := dk_96 (kat_27 56 rfl)
theorem dL_law_1785 : decode cL_law 1785 = .ok (.iaload, 1) := dk_46 (kat_27 57 rfl)
theorem dL_law_1786 : decode cL_law 1786 = .ok (.invokevirtual 205, 3) := dk_182 (kat_27 58 rfl) (kat_27 59 rfl) (kat_27 60 rfl) rfl
theorem dL_law_1789 : decode cL_law 1789 = .ok (.pop, 1) := dk_87 (kat_27 61 rfl)
theorem dL_law_1790 : decode cL_law 1790 = .ok (.goto 272, 3) := dk_167 (kat_27 62 rfl) (kat_27 63 rfl) (kat_28 0 rfl) (by decide)
set_option maxHeartbeats 4000000 in
set_option maxRecDepth 100000 in
theorem law_c44 {p : Program} {l : Launch} {e : Env} {s : State} {m : MethodId} {below : List Frame} {meth : Method} {c : Code} {A : Nat → Prop} {g : Gx} {b L : Nat} {xs : Nat → Int32} {h0 mo lo n1 n2 : Nat} {fo : Nat → Int64} {u4 : Int32} {xtpd : Int32} {tpf : Nat → Int32} {yhnf : Nat → Int32} {yhtn : Int32} {yhtf : Nat → Int32} {yhjn : Int32} {yhjf : Nat → Int32} {yhmn : Int32} {yhmf : Nat → Int32} {yhbn : Int32} {yhbf : Nat → Int32} {yhsn : Int32} {yhsf : Nat → Int32} {yhcn : Int32} {yhcf : Nat → Int32} {zrn : Int32} {zmn : Int32} {zwn : Int32} {zpn : Int32} {zmd : Int32} {ztr : Int32} {zrf : Nat → Int32} {zmf : Nat → Int32} {zwf : Nat → Int32} {zpf : Nat → Int32} {kac : Int32} {knx : Int32} {kim : Int32} {cf : Nat → SC} {m_taped : Int32} {d_tape : Nat → Int32} {d_r : Nat → Int32} {d_st : Nat → Int32} {d_undone : Nat → Int32} {d_kept : Nat → Int32} {m_undos : Int32} {m_images : Int32} {m_hasHouse : Int32} {xw mw : va_W} (X : Cx p s m meth c #[Value.ref b] cL_law 7 RL A g) (hX : va_X b L xs s s.heap) (hbl : b < s.heap.size) (hbA : ¬ A b) (hi : 0 ≤ u4.toInt ∧ u4.toInt + 6 ≤ (L : Int)) (hL : L ≤ 3072) (h1 : n1 ≤ 601023) (h2 : n2 ≤ 7293028) (hlt : l.stackTraces = false) (hZ : kZ A s s.heap) (htsE : ∀ w ∈ wsE, w.before #[Value.ref b] s = true) (hx : XW g h0 xtpd tpf yhnf yhtn yhtf yhjn yhjf yhmn yhmf yhbn yhbf yhsn yhsf yhcn yhcf zrn zmn zwn zpn zmd ztr zrf zmf zwf zpf kac knx kim cf xw) (hm : MW g mo m_taped d_tape d_r d_st d_undone d_kept m_undos m_images m_hasHouse mw) (hR : LR xtpd tpf yhnf yhtn yhtf yhjn yhjf yhmn yhmf yhbn yhbf yhsn yhsf yhcn yhcf zrn zmn zwn zpn zmd ztr zrf zmf zwf zpf kac knx kim cf m_taped d_tape d_r d_st d_undone d_kept m_undos m_images m_hasHouse) (kk : ∀ (xtpd_2 : Int32) (tpf_2 : Nat → Int32) (yhnf_2 : Nat → Int32) (yhtn_2 : Int32) (yhtf_2 : Nat → Int32) (yhjn_2 : Int32) (yhjf_2 : Nat → Int32) (yhmn_2 : Int32) (yhmf_2 : Nat → Int32) (yhbn_2 : Int32) (yhbf_2 : Nat → Int32) (yhsn_2 : Int32) (yhsf_2 : Nat → Int32) (yhcn_2 : Int32) (yhcf_2 : Nat → Int32) (zrn_2 : Int32) (zmn_2 : Int32) (zwn_2 : Int32) (zpn_2 : Int32) (zmd_2 : Int32) (ztr_2 : Int32) (zrf_2 : Nat → Int32) (zmf_2 : Nat → Int32) (zwf_2 : Nat → Int32) (zpf_2 : Nat → Int32) (kac_2 : Int32) (knx_2 : Int32) (kim_2 : Int32) (cf_2 : Nat → SC) (m_taped_2 : Int32) (d_tape_2 : Nat → Int32) (d_r_2 : Nat → Int32) (d_st_2 : Nat → Int32) (d_undone_2 : Nat → Int32) (d_kept_2 : Nat → Int32) (m_undos_2 : Int32) (m_images_2 : Int32) (m_hasHouse_2 : Int32) (xw2 mw2 : va_W), XW g h0 xtpd_2 tpf_2 yhnf_2 yhtn_2 yhtf_2 yhjn_2 yhjf_2 yhmn_2 yhmf_2 yhbn_2 yhbf_2 yhsn_2 yhsf_2 yhcn_2 yhcf_2 zrn_2 zmn_2 zwn_2 zpn_2 zmd_2 ztr_2 zrf_2 zmf_2 zwf_2 zpf_2 kac_2 knx_2 kim_2 cf_2 xw2 → MW g mo m_taped_2 d_tape_2 d_r_2 d_st_2 d_undone_2 d_kept_2 m_undos_2 m_images_2 m_hasHouse_2 mw2 → LR xtpd_2 tpf_2 yhnf_2 yhtn_2 yhtf_2 yhjn_2 yhjf_2 yhmn_2 yhmf_2 yhbn_2 yhbf_2 yhsn_2 yhsf_2 yhcn_2 yhcf_2 zrn_2 zmn_2 zwn_2 zpn_2 zmd_2 ztr_2 zrf_2 zmf_2 zwf_2 zpf_2 kac_2 knx_2 kim_2 cf_2 m_taped_2 d_tape_2 d_r_2 d_st_2 d_undone_2 d_kept_2 m_undos_2 m_images_2 m_hasHouse_2 → Wk p l e room_1 s m #[Value.ref b] below meth c (lw_Z below #[Value.ref b] s) A g 7 n1 n2 (xw2 ++ (mw2 ++ [(cAJ g lo 1 fo)])) [(4, .int u4), (3, .ref lo), (2, .ref mo), (1, .ref h0), (0, .ref b)] 2062 []) : Wk p l e room_1 s m #[Value.ref b] below meth c (lw_Z below #[Value.ref b] s) A g 7 n1 n2 (xw ++ (mw ++ [(cAJ g lo 1 fo)])) [(4, .int u4), (3, .ref lo), (2, .ref mo), (1, .ref h0), (0, .ref b)] 1756 [] := by
  have hiv : IV u4 0 3066 := ⟨hi.1, by omega⟩
  refine k_aload_n X dL_law_1756 3 rfl ?_
  refine k_aload_n X dL_law_1757 4 rfl ?_
  refine k_iload X dL_law_1758 0 rfl ?_
  refine k_iconst (v := 1) X dL_law_1760 (by decide) ?_
  refine k_iadd X dL_law_1761 ?_
  refine k_nm (fun z_1 ez_1 => ?_)
  have i_2 : z_1.toInt = u4.toInt + 1 := in_add ez_1 hiv (show IV 1 1 1 from (by decide)) (by decide) (by decide)
  have iv_3 : IV z_1 1 3067 := by have := hiv; have := (show IV 1 1 1 from (by decide)); rw [IV, i_2]; omega
  refine k_sld X hX hbl hbA dL_law_1762 (by rw [vp_in_iff]; have := iv_3; omega) ?_
  refine k_nm (fun a_4 ea_4 => ?_)
  refine k_aload_n X dL_law_1763 4 rfl ?_
  refine k_iload X dL_law_1764 0 rfl ?_
  refine k_iconst (v := 2) X dL_law_1766 (by decide) ?_
  refine k_iadd X dL_law_1767 ?_
  refine k_nm (fun z_5 ez_5 => ?_)
  have i_6 : z_5.toInt = u4.toInt + 2 := in_add ez_5 hiv (show IV 2 2 2 from (by decide)) (by decide) (by decide)
  have iv_7 : IV z_5 2 3068 := by have := hiv; have := (show IV 2 2 2 from (by decide)); rw [IV, i_6]; omega
  refine k_sld X hX hbl hbA dL_law_1768 (by rw [vp_in_iff]; have := iv_7; omega) ?_
  refine k_nm (fun a_8 ea_8 => ?_)
  refine lx_dark (st := []) a_4 a_8 X hx dL_law_1769 mw1406 (Nat.le_of_ble_eq_true rfl) (Nat.le_of_ble_eq_true rfl) (Nat.le_of_ble_eq_true rfl) (Nat.le_trans h1 (Nat.le_of_ble_eq_true rfl)) (Nat.le_trans h2 (Nat.le_of_ble_eq_true rfl)) (fun r_9 xw_10 hx_11 => ?_)
  refine k_pop X dL_law_1772 rfl ?_
  refine k_aload_n X dL_law_1773 2 rfl ?_
  refine k_aload_n X dL_law_1774 4 rfl ?_
  refine k_iload X dL_law_1775 0 rfl ?_
  refine k_iconst (v := 1) X dL_law_1777 (by decide) ?_
  refine k_iadd X dL_law_1778 ?_
  refine k_to z_1 ez_1.symm ?_
  refine k_sld X hX hbl hbA dL_law_1779 (by rw [vp_in_iff]; have := iv_3; omega) ?_
  refine k_to a_4 ea_4.symm ?_
  refine k_aload_n X dL_law_1780 4 rfl ?_
  refine k_iload X dL_law_1781 0 rfl ?_
  refine k_iconst (v := 2) X dL_law_1783 (by decide) ?_
  refine k_iadd X dL_law_1784 ?_
  refine k_to z_5 ez_5.symm ?_
  refine k_sld X hX hbl hbA dL_law_1785 (by rw [vp_in_iff]; have := iv_7; omega) ?_
  refine k_to a_8 ea_8.symm ?_
  refine lm_dark (st := []) a_4 a_8 X hm dL_law_1786 mw1416 (Nat.le_of_ble_eq_true rfl) (Nat.le_of_ble_eq_true rfl) (Nat.le_of_ble_eq_true rfl) (Nat.le_trans h1 (Nat.le_of_ble_eq_true rfl)) (Nat.le_trans h2 (Nat.le_of_ble_eq_true rfl)) (fun r_12 mw_13 hm_14 => ?_)
  refine k_pop X dL_law_1789 rfl ?_
  refine k_goto 2062 X dL_law_1790 (by decide) ?_
  exact kk _ _ _ _ _ _ _ _ _ _ _ _ _ _ _ _ _ _ _ _ _ _ _ _ _ _ _ _ _ _ _ _ _ _ _ _ _ _ _ _ hx_11 hm_14 hR

theorem dL_law_1793 : decode cL_law 1793 = .ok (.aload_n 1, 1) := dk_43 (kat_28 1 rfl)
theorem dL_law_1794 : decode cL_law 1794 = .ok (.aload_n 0, 1) := dk_42 (kat_28 2 rfl)
theorem dL_law_1795 : decode cL_law 1795 = .ok (.iload 4, 2) := dk_21 (kat_28 3 rfl) (kat_28 4 rfl) rfl
theorem dL_law_1797 : decode cL_law 1797 = .ok (.iconst 1, 1) := dk_4 (kat_28 5 rfl)
theorem dL_law_1798 : decode cL_law 1798 = .ok (.iadd, 1) := dk_96 (kat_28 6 rfl)
theorem dL_law_1799 : decode cL_law 1799 = .ok (.iaload, 1) := dk_46 (kat_28 7 rfl)
theorem dL_law_1800 : decode cL_law 1800 = .ok (.aload_n 0, 1) := dk_42 (kat_28 8 rfl)
theorem dL_law_1801 : decode cL_law 1801 = .ok (.iload 4, 2) := dk_21 (kat_28 9 rfl) (kat_28 10 rfl) rfl
theorem dL_law_1803 : decode cL_law 1803 = .ok (.iconst 2, 1) := dk_5 (kat_28 11 rfl)
theorem dL_law_1804 : decode cL_law 1804 = .ok (.iadd, 1) := dk_96 (kat_28 12 rfl)
theorem dL_law_1805 : decode cL_law 1805 = .ok (.iaload, 1) := dk_46 (kat_28 13 rfl)
theorem dL_law_1806 : decode cL_law 1806 = .ok (.invokevirtual 206, 3) := dk_182 (kat_28 14 rfl) (kat_28 15 rfl) (kat_28 16 rfl) rfl
theorem dL_law_1809 : decode cL_law 1809 = .ok (.pop, 1) := dk_87 (kat_28 17 rfl)
theorem dL_law_1810 : decode cL_law 1810 = .ok (.aload_n 2, 1) := dk_44 (kat_28 18 rfl)
theorem dL_law_1811 : decode cL_law 1811 = .ok (.aload_n 0, 1) := dk_42 (kat_28 19 rfl)
theorem dL_law_1812 : decode cL_law 1812 = .ok (.iload 4, 2) := dk_21 (kat_28 20 rfl) (kat_28 21 rfl) rfl
theorem dL_law_1814 : decode cL_law 1814 = .ok (.iconst 1, 1) := dk_4 (kat_28 22 rfl)
theorem dL_law_1815 : decode cL_law 1815 = .ok (.iadd, 1) := dk_96 (kat_28 23 rfl)
theorem dL_law_1816 : decode cL_law 1816 = .ok (.iaload, 1) := dk_46 (kat_28 24 rfl)
theorem dL_law_1817 : decode cL_law 1817 = .ok (.aload_n 0, 1) := dk_42 (kat_28 25 rfl)
theorem dL_law_1818 : decode cL_law 1818 = .ok (.iload 4, 2) := dk_21 (kat_28 26 rfl) (kat_28 27 rfl) rfl
theorem dL_law_1820 : decode cL_law 1820 = .ok (.iconst 2, 1) := dk_5 (kat_28 28 rfl)
theorem dL_law_1821 : decode cL_law 1821 = .ok (.iadd, 1) := dk_96 (kat_28 29 rfl)
theorem dL_law_1822 : decode cL_law 1822 = .ok (.iaload, 1) := dk_46 (kat_28 30 rfl)
theorem dL_law_1823 : decode cL_law 1823 = .ok (.invokevirtual 209, 3) := dk_182 (kat_28 31 rfl) (kat_28 32 rfl) (kat_28 33 rfl) rfl
theorem dL_law_1826 : decode cL_law 1826 = .ok (.pop, 1) := dk_87 (kat_28 34 rfl)
theorem dL_law_1827 : decode cL_law 1827 = .ok (.goto 235, 3) := dk_167 (kat_28 35 rfl) (kat_28 36 rfl) (kat_28 37 rfl) (by decide)
set_option maxHeartbeats 4000000 in
set_option maxRecDepth 100000 in
theorem law_c45 {p : Program} {l : Launch} {e : Env} {s : State} {m : MethodId} {below : List Frame} {meth : Method} {c : Code} {A : Nat → Prop} {g : Gx} {b L : Nat} {xs : Nat → Int32} {h0 mo lo n1 n2 : Nat} {fo : Nat → Int64} {u4 : Int32} {xtpd : Int32} {tpf : Nat → Int32} {yhnf : Nat → Int32} {yhtn : Int32} {yhtf : Nat → Int32} {yhjn : Int32} {yhjf : Nat → Int32} {yhmn : Int32} {yhmf : Nat → Int32} {yhbn : Int32} {yhbf : Nat → Int32} {yhsn : Int32} {yhsf : Nat → Int32} {yhcn : Int32} {yhcf : Nat → Int32} {zrn : Int32} {zmn : Int32} {zwn : Int32} {zpn : Int32} {zmd : Int32} {ztr : Int32} {zrf : Nat → Int32} {zmf : Nat → Int32} {zwf : Nat → Int32} {zpf : Nat → Int32} {kac : Int32} {knx : Int32} {kim : Int32} {cf : Nat → SC} {m_taped : Int32} {d_tape : Nat → Int32} {d_r : Nat → Int32} {d_st : Nat → Int32} {d_undone : Nat → Int32} {d_kept : Nat → Int32} {m_undos : Int32} {m_images : Int32} {m_hasHouse : Int32} {xw mw : va_W} (X : Cx p s m meth c #[Value.ref b] cL_law 7 RL A g) (hX : va_X b L xs s s.heap) (hbl : b < s.heap.size) (hbA : ¬ A b) (hi : 0 ≤ u4.toInt ∧ u4.toInt + 6 ≤ (L : Int)) (hL : L ≤ 3072) (h1 : n1 ≤ 601023) (h2 : n2 ≤ 7293028) (hlt : l.stackTraces = false) (hZ : kZ A s s.heap) (htsE : ∀ w ∈ wsE, w.before #[Value.ref b] s = true) (hx : XW g h0 xtpd tpf yhnf yhtn yhtf yhjn yhjf yhmn yhmf yhbn yhbf yhsn yhsf yhcn yhcf zrn zmn zwn zpn zmd ztr zrf zmf zwf zpf kac knx kim cf xw) (hm : MW g mo m_taped d_tape d_r d_st d_undone d_kept m_undos m_images m_hasHouse mw) (hR : LR xtpd tpf yhnf yhtn yhtf yhjn yhjf yhmn yhmf yhbn yhbf yhsn yhsf yhcn yhcf zrn zmn zwn zpn zmd ztr zrf zmf zwf zpf kac knx kim cf m_taped d_tape d_r d_st d_undone d_kept m_undos m_images m_hasHouse) (kk : ∀ (xtpd_2 : Int32) (tpf_2 : Nat → Int32) (yhnf_2 : Nat → Int32) (yhtn_2 : Int32) (yhtf_2 : Nat → Int32) (yhjn_2 : Int32) (yhjf_2 : Nat → Int32) (yhmn_2 : Int32) (yhmf_2 : Nat → Int32) (yhbn_2 : Int32) (yhbf_2 : Nat → Int32) (yhsn_2 : Int32) (yhsf_2 : Nat → Int32) (yhcn_2 : Int32) (yhcf_2 : Nat → Int32) (zrn_2 : Int32) (zmn_2 : Int32) (zwn_2 : Int32) (zpn_2 : Int32) (zmd_2 : Int32) (ztr_2 : Int32) (zrf_2 : Nat → Int32) (zmf_2 : Nat → Int32) (zwf_2 : Nat → Int32) (zpf_2 : Nat → Int32) (kac_2 : Int32) (knx_2 : Int32) (kim_2 : Int32) (cf_2 : Nat → SC) (m_taped_2 : Int32) (d_tape_2 : Nat → Int32) (d_r_2 : Nat → Int32) (d_st_2 : Nat → Int32) (d_undone_2 : Nat → Int32) (d_kept_2 : Nat → Int32) (m_undos_2 : Int32) (m_images_2 : Int32) (m_hasHouse_2 : Int32) (xw2 mw2 : va_W), XW g h0 xtpd_2 tpf_2 yhnf_2 yhtn_2 yhtf_2 yhjn_2 yhjf_2 yhmn_2 yhmf_2 yhbn_2 yhbf_2 yhsn_2 yhsf_2 yhcn_2 yhcf_2 zrn_2 zmn_2 zwn_2 zpn_2 zmd_2 ztr_2 zrf_2 zmf_2 zwf_2 zpf_2 kac_2 knx_2 kim_2 cf_2 xw2 → MW g mo m_taped_2 d_tape_2 d_r_2 d_st_2 d_undone_2 d_kept_2 m_undos_2 m_images_2 m_hasHouse_2 mw2 → LR xtpd_2 tpf_2 yhnf_2 yhtn_2 yhtf_2 yhjn_2 yhjf_2 yhmn_2 yhmf_2 yhbn_2 yhbf_2 yhsn_2 yhsf_2 yhcn_2 yhcf_2 zrn_2 zmn_2 zwn_2 zpn_2 zmd_2 ztr_2 zrf_2 zmf_2 zwf_2 zpf_2 kac_2 knx_2 kim_2 cf_2 m_taped_2 d_tape_2 d_r_2 d_st_2 d_undone_2 d_kept_2 m_undos_2 m_images_2 m_hasHouse_2 → Wk p l e room_1 s m #[Value.ref b] below meth c (lw_Z below #[Value.ref b] s) A g 7 n1 n2 (xw2 ++ (mw2 ++ [(cAJ g lo 1 fo)])) [(4, .int u4), (3, .ref lo), (2, .ref mo), (1, .ref h0), (0, .ref b)] 2062 []) : Wk p l e room_1 s m #[Value.ref b] below meth c (lw_Z below #[Value.ref b] s) A g 7 n1 n2 (xw ++ (mw ++ [(cAJ g lo 1 fo)])) [(4, .int u4), (3, .ref lo), (2, .ref mo), (1, .ref h0), (0, .ref b)] 1793 [] := by
  have hiv : IV u4 0 3066 := ⟨hi.1, by omega⟩
  refine k_aload_n X dL_law_1793 3 rfl ?_
  refine k_aload_n X dL_law_1794 4 rfl ?_
  refine k_iload X dL_law_1795 0 rfl ?_
  refine k_iconst (v := 1) X dL_law_1797 (by decide) ?_
  refine k_iadd X dL_law_1798 ?_
  refine k_nm (fun z_1 ez_1 => ?_)
  have i_2 : z_1.toInt = u4.toInt + 1 := in_add ez_1 hiv (show IV 1 1 1 from (by decide)) (by decide) (by decide)
  have iv_3 : IV z_1 1 3067 := by have := hiv; have := (show IV 1 1 1 from (by decide)); rw [IV, i_2]; omega
  refine k_sld X hX hbl hbA dL_law_1799 (by rw [vp_in_iff]; have := iv_3; omega) ?_
  refine k_nm (fun a_4 ea_4 => ?_)
  refine k_aload_n X dL_law_1800 4 rfl ?_
  refine k_iload X dL_law_1801 0 rfl ?_
  refine k_iconst (v := 2) X dL_law_1803 (by decide) ?_
  refine k_iadd X dL_law_1804 ?_
  refine k_nm (fun z_5 ez_5 => ?_)
  have i_6 : z_5.toInt = u4.toInt + 2 := in_add ez_5 hiv (show IV 2 2 2 from (by decide)) (by decide) (by decide)
  have iv_7 : IV z_5 2 3068 := by have := hiv; have := (show IV 2 2 2 from (by decide)); rw [IV, i_6]; omega
  refine k_sld X hX hbl hbA dL_law_1805 (by rw [vp_in_iff]; have := iv_7; omega) ?_
  refine k_nm (fun a_8 ea_8 => ?_)
  refine lx_bestMan (st := []) a_4 a_8 X hx dL_law_1806 mw1432 (Nat.le_of_ble_eq_true rfl) (Nat.le_of_ble_eq_true rfl) (Nat.le_of_ble_eq_true rfl) (Nat.le_trans h1 (Nat.le_of_ble_eq_true rfl)) (Nat.le_trans h2 (Nat.le_of_ble_eq_true rfl)) (fun r_9 xw_10 hx_11 => ?_)
  refine k_pop X dL_law_1809 rfl ?_
  refine k_aload_n X dL_law_1810 2 rfl ?_
  refine k_aload_n X dL_law_1811 4 rfl ?_
  refine k_iload X dL_law_1812 0 rfl ?_
  refine k_iconst (v := 1) X dL_law_1814 (by decide) ?_
  refine k_iadd X dL_law_1815 ?_
  refine k_to z_1 ez_1.symm ?_
  refine k_sld X hX hbl hbA dL_law_1816 (by rw [vp_in_iff]; have := iv_3; omega) ?_
  refine k_to a_4 ea_4.symm ?_
  refine k_aload_n X dL_law_1817 4 rfl ?_
  refine k_iload X dL_law_1818 0 rfl ?_
  refine k_iconst (v := 2) X dL_law_1820 (by decide) ?_
  refine k_iadd X dL_law_1821 ?_
  refine k_to z_5 ez_5.symm ?_
  refine k_sld X hX hbl hbA dL_law_1822 (by rw [vp_in_iff]; have := iv_7; omega) ?_
  refine k_to a_8 ea_8.symm ?_
  refine lm_bestMan (st := []) a_4 a_8 X hm dL_law_1823 mw1440 (Nat.le_of_ble_eq_true rfl) (Nat.le_of_ble_eq_true rfl) (Nat.le_of_ble_eq_true rfl) (Nat.le_trans h1 (Nat.le_of_ble_eq_true rfl)) (Nat.le_trans h2 (Nat.le_of_ble_eq_true rfl)) (fun r_12 mw_13 hm_14 => ?_)
  refine k_pop X dL_law_1826 rfl ?_
  refine k_goto 2062 X dL_law_1827 (by decide) ?_
  exact kk _ _ _ _ _ _ _ _ _ _ _ _ _ _ _ _ _ _ _ _ _ _ _ _ _ _ _ _ _ _ _ _ _ _ _ _ _ _ _ _ hx_11 hm_14 hR

theorem dL_law_1830 : decode cL_law 1830 = .ok (.aload_n 1, 1) := dk_43 (kat_28 38 rfl)
theorem dL_law_1831 : decode cL_law 1831 = .ok (.aload_n 0, 1) := dk_42 (kat_28 39 rfl)
theorem dL_law_1832 : decode cL_law 1832 = .ok (.iload 4, 2) := dk_21 (kat_28 40 rfl) (kat_28 41 rfl) rfl
theorem dL_law_1834 : decode cL_law 1834 = .ok (.iconst 1, 1) := dk_4 (kat_28 42 rfl)
theorem dL_law_1835 : decode cL_law 1835 = .ok (.iadd, 1) := dk_96 (kat_28 43 rfl)
theorem dL_law_1836 : decode cL_law 1836 = .ok (.iaload, 1) := dk_46 (kat_28 44 rfl)
theorem dL_law_1837 : decode cL_law 1837 = .ok (.aload_n 0, 1) := dk_42 (kat_28 45 rfl)
theorem dL_law_1838 : decode cL_law 1838 = .ok (.iload 4, 2) := dk_21 (kat_28 46 rfl) (kat_28 47 rfl) rfl
theorem dL_law_1840 : decode cL_law 1840 = .ok (.iconst 2, 1) := dk_5 (kat_28 48 rfl)
theorem dL_law_1841 : decode cL_law 1841 = .ok (.iadd, 1) := dk_96 (kat_28 49 rfl)
theorem dL_law_1842 : decode cL_law 1842 = .ok (.iaload, 1) := dk_46 (kat_28 50 rfl)
theorem dL_law_1843 : decode cL_law 1843 = .ok (.invokevirtual 210, 3) := dk_182 (kat_28 51 rfl) (kat_28 52 rfl) (kat_28 53 rfl) rfl
theorem dL_law_1846 : decode cL_law 1846 = .ok (.pop, 1) := dk_87 (kat_28 54 rfl)
theorem dL_law_1847 : decode cL_law 1847 = .ok (.aload_n 2, 1) := dk_44 (kat_28 55 rfl)
theorem dL_law_1848 : decode cL_law 1848 = .ok (.aload_n 0, 1) := dk_42 (kat_28 56 rfl)
theorem dL_law_1849 : decode cL_law 1849 = .ok (.iload 4, 2) := dk_21 (kat_28 57 rfl) (kat_28 58 rfl) rfl
theorem dL_law_1851 : decode cL_law 1851 = .ok (.iconst 1, 1) := dk_4 (kat_28 59 rfl)
theorem dL_law_1852 : decode cL_law 1852 = .ok (.iadd, 1) := dk_96 (kat_28 60 rfl)
theorem dL_law_1853 : decode cL_law 1853 = .ok (.iaload, 1) := dk_46 (kat_28 61 rfl)
theorem dL_law_1854 : decode cL_law 1854 = .ok (.aload_n 0, 1) := dk_42 (kat_28 62 rfl)
theorem dL_law_1855 : decode cL_law 1855 = .ok (.iload 4, 2) := dk_21 (kat_28 63 rfl) (kat_29 0 rfl) rfl
theorem dL_law_1857 : decode cL_law 1857 = .ok (.iconst 2, 1) := dk_5 (kat_29 1 rfl)
theorem dL_law_1858 : decode cL_law 1858 = .ok (.iadd, 1) := dk_96 (kat_29 2 rfl)
theorem dL_law_1859 : decode cL_law 1859 = .ok (.iaload, 1) := dk_46 (kat_29 3 rfl)
theorem dL_law_1860 : decode cL_law 1860 = .ok (.invokevirtual 214, 3) := dk_182 (kat_29 4 rfl) (kat_29 5 rfl) (kat_29 6 rfl) rfl
theorem dL_law_1863 : decode cL_law 1863 = .ok (.pop, 1) := dk_87 (kat_29 7 rfl)
theorem dL_law_1864 : decode cL_law 1864 = .ok (.goto 198, 3) := dk_167 (kat_29 8 rfl) (kat_29 9 rfl) (kat_29 10 rfl) (by decide)
set_option maxHeartbeats 4000000 in
set_option maxRecDepth 100000 in
theorem law_c46 {p : Program} {l : Launch} {e : Env} {s : State} {m : MethodId} {below : List Frame} {meth : Method} {c : Code} {A : Nat → Prop} {g : Gx} {b L : Nat} {xs : Nat → Int32} {h0 mo lo n1 n2 : Nat} {fo : Nat → Int64} {u4 : Int32} {xtpd : Int32} {tpf : Nat → Int32} {yhnf : Nat → Int32} {yhtn : Int32} {yhtf : Nat → Int32} {yhjn : Int32} {yhjf : Nat → Int32} {yhmn : Int32} {yhmf : Nat → Int32} {yhbn : Int32} {yhbf : Nat → Int32} {yhsn : Int32} {yhsf : Nat → Int32} {yhcn : Int32} {yhcf : Nat → Int32} {zrn : Int32} {zmn : Int32} {zwn : Int32} {zpn : Int32} {zmd : Int32} {ztr : Int32} {zrf : Nat → Int32} {zmf : Nat → Int32} {zwf : Nat → Int32} {zpf : Nat → Int32} {kac : Int32} {knx : Int32} {kim : Int32} {cf : Nat → SC} {m_taped : Int32} {d_tape : Nat → Int32} {d_r : Nat → Int32} {d_st : Nat → Int32} {d_undone : Nat → Int32} {d_kept : Nat → Int32} {m_undos : Int32} {m_images : Int32} {m_hasHouse : Int32} {xw mw : va_W} (X : Cx p s m meth c #[Value.ref b] cL_law 7 RL A g) (hX : va_X b L xs s s.heap) (hbl : b < s.heap.size) (hbA : ¬ A b) (hi : 0 ≤ u4.toInt ∧ u4.toInt + 6 ≤ (L : Int)) (hL : L ≤ 3072) (h1 : n1 ≤ 601023) (h2 : n2 ≤ 7293028) (hlt : l.stackTraces = false) (hZ : kZ A s s.heap) (htsE : ∀ w ∈ wsE, w.before #[Value.ref b] s = true) (hx : XW g h0 xtpd tpf yhnf yhtn yhtf yhjn yhjf yhmn yhmf yhbn yhbf yhsn yhsf yhcn yhcf zrn zmn zwn zpn zmd ztr zrf zmf zwf zpf kac knx kim cf xw) (hm : MW g mo m_taped d_tape d_r d_st d_undone d_kept m_undos m_images m_hasHouse mw) (hR : LR xtpd tpf yhnf yhtn yhtf yhjn yhjf yhmn yhmf yhbn yhbf yhsn yhsf yhcn yhcf zrn zmn zwn zpn zmd ztr zrf zmf zwf zpf kac knx kim cf m_taped d_tape d_r d_st d_undone d_kept m_undos m_images m_hasHouse) (kk : ∀ (xtpd_2 : Int32) (tpf_2 : Nat → Int32) (yhnf_2 : Nat → Int32) (yhtn_2 : Int32) (yhtf_2 : Nat → Int32) (yhjn_2 : Int32) (yhjf_2 : Nat → Int32) (yhmn_2 : Int32) (yhmf_2 : Nat → Int32) (yhbn_2 : Int32) (yhbf_2 : Nat → Int32) (yhsn_2 : Int32) (yhsf_2 : Nat → Int32) (yhcn_2 : Int32) (yhcf_2 : Nat → Int32) (zrn_2 : Int32) (zmn_2 : Int32) (zwn_2 : Int32) (zpn_2 : Int32) (zmd_2 : Int32) (ztr_2 : Int32) (zrf_2 : Nat → Int32) (zmf_2 : Nat → Int32) (zwf_2 : Nat → Int32) (zpf_2 : Nat → Int32) (kac_2 : Int32) (knx_2 : Int32) (kim_2 : Int32) (cf_2 : Nat → SC) (m_taped_2 : Int32) (d_tape_2 : Nat → Int32) (d_r_2 : Nat → Int32) (d_st_2 : Nat → Int32) (d_undone_2 : Nat → Int32) (d_kept_2 : Nat → Int32) (m_undos_2 : Int32) (m_images_2 : Int32) (m_hasHouse_2 : Int32) (xw2 mw2 : va_W), XW g h0 xtpd_2 tpf_2 yhnf_2 yhtn_2 yhtf_2 yhjn_2 yhjf_2 yhmn_2 yhmf_2 yhbn_2 yhbf_2 yhsn_2 yhsf_2 yhcn_2 yhcf_2 zrn_2 zmn_2 zwn_2 zpn_2 zmd_2 ztr_2 zrf_2 zmf_2 zwf_2 zpf_2 kac_2 knx_2 kim_2 cf_2 xw2 → MW g mo m_taped_2 d_tape_2 d_r_2 d_st_2 d_undone_2 d_kept_2 m_undos_2 m_images_2 m_hasHouse_2 mw2 → LR xtpd_2 tpf_2 yhnf_2 yhtn_2 yhtf_2 yhjn_2 yhjf_2 yhmn_2 yhmf_2 yhbn_2 yhbf_2 yhsn_2 yhsf_2 yhcn_2 yhcf_2 zrn_2 zmn_2 zwn_2 zpn_2 zmd_2 ztr_2 zrf_2 zmf_2 zwf_2 zpf_2 kac_2 knx_2 kim_2 cf_2 m_taped_2 d_tape_2 d_r_2 d_st_2 d_undone_2 d_kept_2 m_undos_2 m_images_2 m_hasHouse_2 → Wk p l e room_1 s m #[Value.ref b] below meth c (lw_Z below #[Value.ref b] s) A g 7 n1 n2 (xw2 ++ (mw2 ++ [(cAJ g lo 1 fo)])) [(4, .int u4), (3, .ref lo), (2, .ref mo), (1, .ref h0), (0, .ref b)] 2062 []) : Wk p l e room_1 s m #[Value.ref b] below meth c (lw_Z below #[Value.ref b] s) A g 7 n1 n2 (xw ++ (mw ++ [(cAJ g lo 1 fo)])) [(4, .int u4), (3, .ref lo), (2, .ref mo), (1, .ref h0), (0, .ref b)] 1830 [] := by
  have hiv : IV u4 0 3066 := ⟨hi.1, by omega⟩
  refine k_aload_n X dL_law_1830 3 rfl ?_
  refine k_aload_n X dL_law_1831 4 rfl ?_
  refine k_iload X dL_law_1832 0 rfl ?_
  refine k_iconst (v := 1) X dL_law_1834 (by decide) ?_
  refine k_iadd X dL_law_1835 ?_
  refine k_nm (fun z_1 ez_1 => ?_)
  have i_2 : z_1.toInt = u4.toInt + 1 := in_add ez_1 hiv (show IV 1 1 1 from (by decide)) (by decide) (by decide)
  have iv_3 : IV z_1 1 3067 := by have := hiv; have := (show IV 1 1 1 from (by decide)); rw [IV, i_2]; omega
  refine k_sld X hX hbl hbA dL_law_1836 (by rw [vp_in_iff]; have := iv_3; omega) ?_
  refine k_nm (fun a_4 ea_4 => ?_)
  refine k_aload_n X dL_law_1837 4 rfl ?_
  refine k_iload X dL_law_1838 0 rfl ?_
  refine k_iconst (v := 2) X dL_law_1840 (by decide) ?_
  refine k_iadd X dL_law_1841 ?_
  refine k_nm (fun z_5 ez_5 => ?_)
  have i_6 : z_5.toInt = u4.toInt + 2 := in_add ez_5 hiv (show IV 2 2 2 from (by decide)) (by decide) (by decide)
  have iv_7 : IV z_5 2 3068 := by have := hiv; have := (show IV 2 2 2 from (by decide)); rw [IV, i_6]; omega
  refine k_sld X hX hbl hbA dL_law_1842 (by rw [vp_in_iff]; have := iv_7; omega) ?_
  refine k_nm (fun a_8 ea_8 => ?_)
  refine lx_threads (st := []) a_4 a_8 X hx dL_law_1843 mw1445 (Nat.le_of_ble_eq_true rfl) (Nat.le_of_ble_eq_true rfl) (Nat.le_of_ble_eq_true rfl) (Nat.le_trans h1 (Nat.le_of_ble_eq_true rfl)) (Nat.le_trans h2 (Nat.le_of_ble_eq_true rfl)) (fun r_9 t_13 t_14 t_15 t_16 t_17 t_18 t_19 t_20 t_21 t_22 t_23 t_24 t_25 xw_10 hx_11 hr_12 => ?_)
  refine k_pop X dL_law_1846 rfl ?_
  refine k_aload_n X dL_law_1847 2 rfl ?_
  refine k_aload_n X dL_law_1848 4 rfl ?_
  refine k_iload X dL_law_1849 0 rfl ?_
  refine k_iconst (v := 1) X dL_law_1851 (by decide) ?_
  refine k_iadd X dL_law_1852 ?_
  refine k_to z_1 ez_1.symm ?_
  refine k_sld X hX hbl hbA dL_law_1853 (by rw [vp_in_iff]; have := iv_3; omega) ?_
  refine k_to a_4 ea_4.symm ?_
  refine k_aload_n X dL_law_1854 4 rfl ?_
  refine k_iload X dL_law_1855 0 rfl ?_
  refine k_iconst (v := 2) X dL_law_1857 (by decide) ?_
  refine k_iadd X dL_law_1858 ?_
  refine k_to z_5 ez_5.symm ?_
  refine k_sld X hX hbl hbA dL_law_1859 (by rw [vp_in_iff]; have := iv_7; omega) ?_
  refine k_to a_8 ea_8.symm ?_
  refine lm_threads (st := []) a_4 a_8 X hm dL_law_1860 mw1467 (Nat.le_of_ble_eq_true rfl) (Nat.le_of_ble_eq_true rfl) (Nat.le_of_ble_eq_true rfl) (Nat.le_trans h1 (Nat.le_of_ble_eq_true rfl)) (Nat.le_trans h2 (Nat.le_of_ble_eq_true rfl)) (fun r_26 t_30 t_31 t_32 mw_27 hm_28 hr_29 => ?_)
  refine k_pop X dL_law_1863 rfl ?_
  refine k_goto 2062 X dL_law_1864 (by decide) ?_
  exact kk _ _ _ _ _ _ _ _ _ _ _ _ _ _ _ _ _ _ _ _ _ _ _ _ _ _ _ _ _ _ _ _ _ _ _ _ _ _ _ _ hx_11 hm_28 (LR_threads hR hr_12 hr_29)

theorem dL_law_1867 : decode cL_law 1867 = .ok (.aload_n 1, 1) := dk_43 (kat_29 11 rfl)
theorem dL_law_1868 : decode cL_law 1868 = .ok (.aload_n 0, 1) := dk_42 (kat_29 12 rfl)
theorem dL_law_1869 : decode cL_law 1869 = .ok (.iload 4, 2) := dk_21 (kat_29 13 rfl) (kat_29 14 rfl) rfl
theorem dL_law_1871 : decode cL_law 1871 = .ok (.iconst 1, 1) := dk_4 (kat_29 15 rfl)
theorem dL_law_1872 : decode cL_law 1872 = .ok (.iadd, 1) := dk_96 (kat_29 16 rfl)
theorem dL_law_1873 : decode cL_law 1873 = .ok (.iaload, 1) := dk_46 (kat_29 17 rfl)
theorem dL_law_1874 : decode cL_law 1874 = .ok (.aload_n 0, 1) := dk_42 (kat_29 18 rfl)
theorem dL_law_1875 : decode cL_law 1875 = .ok (.iload 4, 2) := dk_21 (kat_29 19 rfl) (kat_29 20 rfl) rfl
theorem dL_law_1877 : decode cL_law 1877 = .ok (.iconst 2, 1) := dk_5 (kat_29 21 rfl)
theorem dL_law_1878 : decode cL_law 1878 = .ok (.iadd, 1) := dk_96 (kat_29 22 rfl)
theorem dL_law_1879 : decode cL_law 1879 = .ok (.iaload, 1) := dk_46 (kat_29 23 rfl)
theorem dL_law_1880 : decode cL_law 1880 = .ok (.ifCond .eq 7, 3) := by decide +kernel
theorem dL_law_1883 : decode cL_law 1883 = .ok (.iconst 1, 1) := dk_4 (kat_29 27 rfl)
theorem dL_law_1884 : decode cL_law 1884 = .ok (.goto 4, 3) := dk_167 (kat_29 28 rfl) (kat_29 29 rfl) (kat_29 30 rfl) (by decide)
theorem dL_law_1887 : decode cL_law 1887 = .ok (.iconst 0, 1) := dk_3 (kat_29 31 rfl)
theorem dL_law_1888 : decode cL_law 1888 = .ok (.invokevirtual 215, 3) := dk_182 (kat_29 32 rfl) (kat_29 33 rfl) (kat_29 34 rfl) rfl
theorem dL_law_1891 : decode cL_law 1891 = .ok (.pop, 1) := dk_87 (kat_29 35 rfl)
theorem dL_law_1892 : decode cL_law 1892 = .ok (.aload_n 2, 1) := dk_44 (kat_29 36 rfl)
theorem dL_law_1893 : decode cL_law 1893 = .ok (.aload_n 0, 1) := dk_42 (kat_29 37 rfl)
theorem dL_law_1894 : decode cL_law 1894 = .ok (.iload 4, 2) := dk_21 (kat_29 38 rfl) (kat_29 39 rfl) rfl
theorem dL_law_1896 : decode cL_law 1896 = .ok (.iconst 1, 1) := dk_4 (kat_29 40 rfl)
theorem dL_law_1897 : decode cL_law 1897 = .ok (.iadd, 1) := dk_96 (kat_29 41 rfl)
theorem dL_law_1898 : decode cL_law 1898 = .ok (.iaload, 1) := dk_46 (kat_29 42 rfl)
theorem dL_law_1899 : decode cL_law 1899 = .ok (.aload_n 0, 1) := dk_42 (kat_29 43 rfl)
theorem dL_law_1900 : decode cL_law 1900 = .ok (.iload 4, 2) := dk_21 (kat_29 44 rfl) (kat_29 45 rfl) rfl
theorem dL_law_1902 : decode cL_law 1902 = .ok (.iconst 2, 1) := dk_5 (kat_29 46 rfl)
theorem dL_law_1903 : decode cL_law 1903 = .ok (.iadd, 1) := dk_96 (kat_29 47 rfl)
theorem dL_law_1904 : decode cL_law 1904 = .ok (.iaload, 1) := dk_46 (kat_29 48 rfl)
theorem dL_law_1905 : decode cL_law 1905 = .ok (.ifCond .eq 7, 3) := by decide +kernel
theorem dL_law_1908 : decode cL_law 1908 = .ok (.iconst 1, 1) := dk_4 (kat_29 52 rfl)
theorem dL_law_1909 : decode cL_law 1909 = .ok (.goto 4, 3) := dk_167 (kat_29 53 rfl) (kat_29 54 rfl) (kat_29 55 rfl) (by decide)
theorem dL_law_1912 : decode cL_law 1912 = .ok (.iconst 0, 1) := dk_3 (kat_29 56 rfl)
theorem dL_law_1913 : decode cL_law 1913 = .ok (.invokevirtual 219, 3) := dk_182 (kat_29 57 rfl) (kat_29 58 rfl) (kat_29 59 rfl) rfl
theorem dL_law_1916 : decode cL_law 1916 = .ok (.pop, 1) := dk_87 (kat_29 60 rfl)
theorem dL_law_1917 : decode cL_law 1917 = .ok (.goto 145, 3) := dk_167 (kat_29 61 rfl) (kat_29 62 rfl) (kat_29 63 rfl) (by decide)
set_option maxHeartbeats 4000000 in
set_option maxRecDepth 100000 in
theorem law_c47 {p : Program} {l : Launch} {e : Env} {s : State} {m : MethodId} {below : List Frame} {meth : Method} {c : Code} {A : Nat → Prop} {g : Gx} {b L : Nat} {xs : Nat → Int32} {h0 mo lo n1 n2 : Nat} {fo : Nat → Int64} {u4 : Int32} {xtpd : Int32} {tpf : Nat → Int32} {yhnf : Nat → Int32} {yhtn : Int32} {yhtf : Nat → Int32} {yhjn : Int32} {yhjf : Nat → Int32} {yhmn : Int32} {yhmf : Nat → Int32} {yhbn : Int32} {yhbf : Nat → Int32} {yhsn : Int32} {yhsf : Nat → Int32} {yhcn : Int32} {yhcf : Nat → Int32} {zrn : Int32} {zmn : Int32} {zwn : Int32} {zpn : Int32} {zmd : Int32} {ztr : Int32} {zrf : Nat → Int32} {zmf : Nat → Int32} {zwf : Nat → Int32} {zpf : Nat → Int32} {kac : Int32} {knx : Int32} {kim : Int32} {cf : Nat → SC} {m_taped : Int32} {d_tape : Nat → Int32} {d_r : Nat → Int32} {d_st : Nat → Int32} {d_undone : Nat → Int32} {d_kept : Nat → Int32} {m_undos : Int32} {m_images : Int32} {m_hasHouse : Int32} {xw mw : va_W} (X : Cx p s m meth c #[Value.ref b] cL_law 7 RL A g) (hX : va_X b L xs s s.heap) (hbl : b < s.heap.size) (hbA : ¬ A b) (hi : 0 ≤ u4.toInt ∧ u4.toInt + 6 ≤ (L : Int)) (hL : L ≤ 3072) (h1 : n1 ≤ 601023) (h2 : n2 ≤ 7293028) (hlt : l.stackTraces = false) (hZ : kZ A s s.heap) (htsE : ∀ w ∈ wsE, w.before #[Value.ref b] s = true) (hx : XW g h0 xtpd tpf yhnf yhtn yhtf yhjn yhjf yhmn yhmf yhbn yhbf yhsn yhsf yhcn yhcf zrn zmn zwn zpn zmd ztr zrf zmf zwf zpf kac knx kim cf xw) (hm : MW g mo m_taped d_tape d_r d_st d_undone d_kept m_undos m_images m_hasHouse mw) (hR : LR xtpd tpf yhnf yhtn yhtf yhjn yhjf yhmn yhmf yhbn yhbf yhsn yhsf yhcn yhcf zrn zmn zwn zpn zmd ztr zrf zmf zwf zpf kac knx kim cf m_taped d_tape d_r d_st d_undone d_kept m_undos m_images m_hasHouse) (kk : ∀ (xtpd_2 : Int32) (tpf_2 : Nat → Int32) (yhnf_2 : Nat → Int32) (yhtn_2 : Int32) (yhtf_2 : Nat → Int32) (yhjn_2 : Int32) (yhjf_2 : Nat → Int32) (yhmn_2 : Int32) (yhmf_2 : Nat → Int32) (yhbn_2 : Int32) (yhbf_2 : Nat → Int32) (yhsn_2 : Int32) (yhsf_2 : Nat → Int32) (yhcn_2 : Int32) (yhcf_2 : Nat → Int32) (zrn_2 : Int32) (zmn_2 : Int32) (zwn_2 : Int32) (zpn_2 : Int32) (zmd_2 : Int32) (ztr_2 : Int32) (zrf_2 : Nat → Int32) (zmf_2 : Nat → Int32) (zwf_2 : Nat → Int32) (zpf_2 : Nat → Int32) (kac_2 : Int32) (knx_2 : Int32) (kim_2 : Int32) (cf_2 : Nat → SC) (m_taped_2 : Int32) (d_tape_2 : Nat → Int32) (d_r_2 : Nat → Int32) (d_st_2 : Nat → Int32) (d_undone_2 : Nat → Int32) (d_kept_2 : Nat → Int32) (m_undos_2 : Int32) (m_images_2 : Int32) (m_hasHouse_2 : Int32) (xw2 mw2 : va_W), XW g h0 xtpd_2 tpf_2 yhnf_2 yhtn_2 yhtf_2 yhjn_2 yhjf_2 yhmn_2 yhmf_2 yhbn_2 yhbf_2 yhsn_2 yhsf_2 yhcn_2 yhcf_2 zrn_2 zmn_2 zwn_2 zpn_2 zmd_2 ztr_2 zrf_2 zmf_2 zwf_2 zpf_2 kac_2 knx_2 kim_2 cf_2 xw2 → MW g mo m_taped_2 d_tape_2 d_r_2 d_st_2 d_undone_2 d_kept_2 m_undos_2 m_images_2 m_hasHouse_2 mw2 → LR xtpd_2 tpf_2 yhnf_2 yhtn_2 yhtf_2 yhjn_2 yhjf_2 yhmn_2 yhmf_2 yhbn_2 yhbf_2 yhsn_2 yhsf_2 yhcn_2 yhcf_2 zrn_2 zmn_2 zwn_2 zpn_2 zmd_2 ztr_2 zrf_2 zmf_2 zwf_2 zpf_2 kac_2 knx_2 kim_2 cf_2 m_taped_2 d_tape_2 d_r_2 d_st_2 d_undone_2 d_kept_2 m_undos_2 m_images_2 m_hasHouse_2 → Wk p l e room_1 s m #[Value.ref b] below meth c (lw_Z below #[Value.ref b] s) A g 7 n1 n2 (xw2 ++ (mw2 ++ [(cAJ g lo 1 fo)])) [(4, .int u4), (3, .ref lo), (2, .ref mo), (1, .ref h0), (0, .ref b)] 2062 []) : Wk p l e room_1 s m #[Value.ref b] below meth c (lw_Z below #[Value.ref b] s) A g 7 n1 n2 (xw ++ (mw ++ [(cAJ g lo 1 fo)])) [(4, .int u4), (3, .ref lo), (2, .ref mo), (1, .ref h0), (0, .ref b)] 1867 [] := by
  have hiv : IV u4 0 3066 := ⟨hi.1, by omega⟩
  refine k_aload_n X dL_law_1867 3 rfl ?_
  refine k_aload_n X dL_law_1868 4 rfl ?_
  refine k_iload X dL_law_1869 0 rfl ?_
  refine k_iconst (v := 1) X dL_law_1871 (by decide) ?_
  refine k_iadd X dL_law_1872 ?_
  refine k_nm (fun z_1 ez_1 => ?_)
  have i_2 : z_1.toInt = u4.toInt + 1 := in_add ez_1 hiv (show IV 1 1 1 from (by decide)) (by decide) (by decide)
  have iv_3 : IV z_1 1 3067 := by have := hiv; have := (show IV 1 1 1 from (by decide)); rw [IV, i_2]; omega
  refine k_sld X hX hbl hbA dL_law_1873 (by rw [vp_in_iff]; have := iv_3; omega) ?_
  refine k_nm (fun a_4 ea_4 => ?_)
  refine k_aload_n X dL_law_1874 4 rfl ?_
  refine k_iload X dL_law_1875 0 rfl ?_
  refine k_iconst (v := 2) X dL_law_1877 (by decide) ?_
  refine k_iadd X dL_law_1878 ?_
  refine k_nm (fun z_5 ez_5 => ?_)
  have i_6 : z_5.toInt = u4.toInt + 2 := in_add ez_5 hiv (show IV 2 2 2 from (by decide)) (by decide) (by decide)
  have iv_7 : IV z_5 2 3068 := by have := hiv; have := (show IV 2 2 2 from (by decide)); rw [IV, i_6]; omega
  refine k_sld X hX hbl hbA dL_law_1879 (by rw [vp_in_iff]; have := iv_7; omega) ?_
  refine k_nm (fun a_8 ea_8 => ?_)
  refine k_if_eq 1887 X dL_law_1880 (by decide) (fun h_9 => ?_) (fun h_9 => ?_)
  · skip
    have iv_10 : IV a_8 0 0 := iv_meet (iv_any a_8) (iv_e h_9 (show IV 0 0 0 from (by decide))) (by decide) (by decide)
    refine k_iconst (v := 0) X dL_law_1887 (by decide) ?_
    refine lx_trim (st := []) a_4 0 X hx dL_law_1888 mw1479 (Nat.le_of_ble_eq_true rfl) (Nat.le_of_ble_eq_true rfl) (Nat.le_of_ble_eq_true rfl) (Nat.le_trans h1 (Nat.le_of_ble_eq_true rfl)) (Nat.le_trans h2 (Nat.le_of_ble_eq_true rfl)) (fun r_11 t_15 t_16 t_17 t_18 t_19 t_20 t_21 t_22 t_23 t_24 t_25 t_26 t_27 xw_12 hx_13 hr_14 => ?_)
    refine k_pop X dL_law_1891 rfl ?_
    refine k_aload_n X dL_law_1892 2 rfl ?_
    refine k_aload_n X dL_law_1893 4 rfl ?_
    refine k_iload X dL_law_1894 0 rfl ?_
    refine k_iconst (v := 1) X dL_law_1896 (by decide) ?_
    refine k_iadd X dL_law_1897 ?_
    refine k_to z_1 ez_1.symm ?_
    refine k_sld X hX hbl hbA dL_law_1898 (by rw [vp_in_iff]; have := iv_3; omega) ?_
    refine k_to a_4 ea_4.symm ?_
    refine k_aload_n X dL_law_1899 4 rfl ?_
    refine k_iload X dL_law_1900 0 rfl ?_
    refine k_iconst (v := 2) X dL_law_1902 (by decide) ?_
    refine k_iadd X dL_law_1903 ?_
    refine k_to z_5 ez_5.symm ?_
    refine k_sld X hX hbl hbA dL_law_1904 (by rw [vp_in_iff]; have := iv_7; omega) ?_
    refine k_to a_8 ea_8.symm ?_
    refine k_if_eq 1912 X dL_law_1905 (by decide) (fun h_28 => ?_) (fun h_28 => absurd h_9 h_28)
    refine k_iconst (v := 0) X dL_law_1912 (by decide) ?_
    refine lm_trim (st := []) a_4 0 X hm dL_law_1913 mw1483 (Nat.le_of_ble_eq_true rfl) (Nat.le_of_ble_eq_true rfl) (Nat.le_of_ble_eq_true rfl) (Nat.le_trans h1 (Nat.le_of_ble_eq_true rfl)) (Nat.le_trans h2 (Nat.le_of_ble_eq_true rfl)) (fun r_29 t_33 t_34 t_35 mw_30 hm_31 hr_32 => ?_)
    refine k_pop X dL_law_1916 rfl ?_
    refine k_goto 2062 X dL_law_1917 (by decide) ?_
    exact kk _ _ _ _ _ _ _ _ _ _ _ _ _ _ _ _ _ _ _ _ _ _ _ _ _ _ _ _ _ _ _ _ _ _ _ _ _ _ _ _ hx_13 hm_31 (LR_trim hR hr_14 hr_32)
  · skip
    refine k_iconst (v := 1) X dL_law_1883 (by decide) ?_
    refine k_goto 1888 X dL_law_1884 (by decide) ?_
    refine lx_trim (st := []) a_4 1 X hx dL_law_1888 mw1479 (Nat.le_of_ble_eq_true rfl) (Nat.le_of_ble_eq_true rfl) (Nat.le_of_ble_eq_true rfl) (Nat.le_trans h1 (Nat.le_of_ble_eq_true rfl)) (Nat.le_trans h2 (Nat.le_of_ble_eq_true rfl)) (fun r_36 t_40 t_41 t_42 t_43 t_44 t_45 t_46 t_47 t_48 t_49 t_50 t_51 t_52 xw_37 hx_38 hr_39 => ?_)
    refine k_pop X dL_law_1891 rfl ?_
    refine k_aload_n X dL_law_1892 2 rfl ?_
    refine k_aload_n X dL_law_1893 4 rfl ?_
    refine k_iload X dL_law_1894 0 rfl ?_
    refine k_iconst (v := 1) X dL_law_1896 (by decide) ?_
    refine k_iadd X dL_law_1897 ?_
    refine k_to z_1 ez_1.symm ?_
    refine k_sld X hX hbl hbA dL_law_1898 (by rw [vp_in_iff]; have := iv_3; omega) ?_
    refine k_to a_4 ea_4.symm ?_
    refine k_aload_n X dL_law_1899 4 rfl ?_
    refine k_iload X dL_law_1900 0 rfl ?_
    refine k_iconst (v := 2) X dL_law_1902 (by decide) ?_
    refine k_iadd X dL_law_1903 ?_
    refine k_to z_5 ez_5.symm ?_
    refine k_sld X hX hbl hbA dL_law_1904 (by rw [vp_in_iff]; have := iv_7; omega) ?_
    refine k_to a_8 ea_8.symm ?_
    refine k_if_eq 1912 X dL_law_1905 (by decide) (fun h_53 => absurd h_53 h_9) (fun h_53 => ?_)
    refine k_iconst (v := 1) X dL_law_1908 (by decide) ?_
    refine k_goto 1913 X dL_law_1909 (by decide) ?_
    refine lm_trim (st := []) a_4 1 X hm dL_law_1913 mw1483 (Nat.le_of_ble_eq_true rfl) (Nat.le_of_ble_eq_true rfl) (Nat.le_of_ble_eq_true rfl) (Nat.le_trans h1 (Nat.le_of_ble_eq_true rfl)) (Nat.le_trans h2 (Nat.le_of_ble_eq_true rfl)) (fun r_54 t_58 t_59 t_60 mw_55 hm_56 hr_57 => ?_)
    refine k_pop X dL_law_1916 rfl ?_
    refine k_goto 2062 X dL_law_1917 (by decide) ?_
    exact kk _ _ _ _ _ _ _ _ _ _ _ _ _ _ _ _ _ _ _ _ _ _ _ _ _ _ _ _ _ _ _ _ _ _ _ _ _ _ _ _ hx_38 hm_56 (LR_trim hR hr_39 hr_57)

theorem dL_law_1920 : decode cL_law 1920 = .ok (.aload_n 1, 1) := dk_43 (kat_30 0 rfl)
theorem dL_law_1921 : decode cL_law 1921 = .ok (.aload_n 0, 1) := dk_42 (kat_30 1 rfl)
theorem dL_law_1922 : decode cL_law 1922 = .ok (.iload 4, 2) := dk_21 (kat_30 2 rfl) (kat_30 3 rfl) rfl
theorem dL_law_1924 : decode cL_law 1924 = .ok (.iconst 1, 1) := dk_4 (kat_30 4 rfl)
theorem dL_law_1925 : decode cL_law 1925 = .ok (.iadd, 1) := dk_96 (kat_30 5 rfl)
theorem dL_law_1926 : decode cL_law 1926 = .ok (.iaload, 1) := dk_46 (kat_30 6 rfl)
theorem dL_law_1927 : decode cL_law 1927 = .ok (.invokevirtual 220, 3) := dk_182 (kat_30 7 rfl) (kat_30 8 rfl) (kat_30 9 rfl) rfl
theorem dL_law_1930 : decode cL_law 1930 = .ok (.pop, 1) := dk_87 (kat_30 10 rfl)
theorem dL_law_1931 : decode cL_law 1931 = .ok (.aload_n 2, 1) := dk_44 (kat_30 11 rfl)
theorem dL_law_1932 : decode cL_law 1932 = .ok (.aload_n 0, 1) := dk_42 (kat_30 12 rfl)
theorem dL_law_1933 : decode cL_law 1933 = .ok (.iload 4, 2) := dk_21 (kat_30 13 rfl) (kat_30 14 rfl) rfl
theorem dL_law_1935 : decode cL_law 1935 = .ok (.iconst 1, 1) := dk_4 (kat_30 15 rfl)
theorem dL_law_1936 : decode cL_law 1936 = .ok (.iadd, 1) := dk_96 (kat_30 16 rfl)
theorem dL_law_1937 : decode cL_law 1937 = .ok (.iaload, 1) := dk_46 (kat_30 17 rfl)
theorem dL_law_1938 : decode cL_law 1938 = .ok (.invokevirtual 223, 3) := dk_182 (kat_30 18 rfl) (kat_30 19 rfl) (kat_30 20 rfl) rfl
theorem dL_law_1941 : decode cL_law 1941 = .ok (.pop, 1) := dk_87 (kat_30 21 rfl)
theorem dL_law_1942 : decode cL_law 1942 = .ok (.goto 120, 3) := dk_167 (kat_30 22 rfl) (kat_30 23 rfl) (kat_30 24 rfl) (by decide)
set_option maxHeartbeats 4000000 in
set_option maxRecDepth 100000 in
theorem law_c48 {p : Program} {l : Launch} {e : Env} {s : State} {m : MethodId} {below : List Frame} {meth : Method} {c : Code} {A : Nat → Prop} {g : Gx} {b L : Nat} {xs : Nat → Int32} {h0 mo lo n1 n2 : Nat} {fo : Nat → Int64} {u4 : Int32} {xtpd : Int32} {tpf : Nat → Int32} {yhnf : Nat → Int32} {yhtn : Int32} {yhtf : Nat → Int32} {yhjn : Int32} {yhjf : Nat → Int32} {yhmn : Int32} {yhmf : Nat → Int32} {yhbn : Int32} {yhbf : Nat → Int32} {yhsn : Int32} {yhsf : Nat → Int32} {yhcn : Int32} {yhcf : Nat → Int32} {zrn : Int32} {zmn : Int32} {zwn : Int32} {zpn : Int32} {zmd : Int32} {ztr : Int32} {zrf : Nat → Int32} {zmf : Nat → Int32} {zwf : Nat → Int32} {zpf : Nat → Int32} {kac : Int32} {knx : Int32} {kim : Int32} {cf : Nat → SC} {m_taped : Int32} {d_tape : Nat → Int32} {d_r : Nat → Int32} {d_st : Nat → Int32} {d_undone : Nat → Int32} {d_kept : Nat → Int32} {m_undos : Int32} {m_images : Int32} {m_hasHouse : Int32} {xw mw : va_W} (X : Cx p s m meth c #[Value.ref b] cL_law 7 RL A g) (hX : va_X b L xs s s.heap) (hbl : b < s.heap.size) (hbA : ¬ A b) (hi : 0 ≤ u4.toInt ∧ u4.toInt + 6 ≤ (L : Int)) (hL : L ≤ 3072) (h1 : n1 ≤ 601023) (h2 : n2 ≤ 7293028) (hlt : l.stackTraces = false) (hZ : kZ A s s.heap) (htsE : ∀ w ∈ wsE, w.before #[Value.ref b] s = true) (hx : XW g h0 xtpd tpf yhnf yhtn yhtf yhjn yhjf yhmn yhmf yhbn yhbf yhsn yhsf yhcn yhcf zrn zmn zwn zpn zmd ztr zrf zmf zwf zpf kac knx kim cf xw) (hm : MW g mo m_taped d_tape d_r d_st d_undone d_kept m_undos m_images m_hasHouse mw) (hR : LR xtpd tpf yhnf yhtn yhtf yhjn yhjf yhmn yhmf yhbn yhbf yhsn yhsf yhcn yhcf zrn zmn zwn zpn zmd ztr zrf zmf zwf zpf kac knx kim cf m_taped d_tape d_r d_st d_undone d_kept m_undos m_images m_hasHouse) (kk : ∀ (xtpd_2 : Int32) (tpf_2 : Nat → Int32) (yhnf_2 : Nat → Int32) (yhtn_2 : Int32) (yhtf_2 : Nat → Int32) (yhjn_2 : Int32) (yhjf_2 : Nat → Int32) (yhmn_2 : Int32) (yhmf_2 : Nat → Int32) (yhbn_2 : Int32) (yhbf_2 : Nat → Int32) (yhsn_2 : Int32) (yhsf_2 : Nat → Int32) (yhcn_2 : Int32) (yhcf_2 : Nat → Int32) (zrn_2 : Int32) (zmn_2 : Int32) (zwn_2 : Int32) (zpn_2 : Int32) (zmd_2 : Int32) (ztr_2 : Int32) (zrf_2 : Nat → Int32) (zmf_2 : Nat → Int32) (zwf_2 : Nat → Int32) (zpf_2 : Nat → Int32) (kac_2 : Int32) (knx_2 : Int32) (kim_2 : Int32) (cf_2 : Nat → SC) (m_taped_2 : Int32) (d_tape_2 : Nat → Int32) (d_r_2 : Nat → Int32) (d_st_2 : Nat → Int32) (d_undone_2 : Nat → Int32) (d_kept_2 : Nat → Int32) (m_undos_2 : Int32) (m_images_2 : Int32) (m_hasHouse_2 : Int32) (xw2 mw2 : va_W), XW g h0 xtpd_2 tpf_2 yhnf_2 yhtn_2 yhtf_2 yhjn_2 yhjf_2 yhmn_2 yhmf_2 yhbn_2 yhbf_2 yhsn_2 yhsf_2 yhcn_2 yhcf_2 zrn_2 zmn_2 zwn_2 zpn_2 zmd_2 ztr_2 zrf_2 zmf_2 zwf_2 zpf_2 kac_2 knx_2 kim_2 cf_2 xw2 → MW g mo m_taped_2 d_tape_2 d_r_2 d_st_2 d_undone_2 d_kept_2 m_undos_2 m_images_2 m_hasHouse_2 mw2 → LR xtpd_2 tpf_2 yhnf_2 yhtn_2 yhtf_2 yhjn_2 yhjf_2 yhmn_2 yhmf_2 yhbn_2 yhbf_2 yhsn_2 yhsf_2 yhcn_2 yhcf_2 zrn_2 zmn_2 zwn_2 zpn_2 zmd_2 ztr_2 zrf_2 zmf_2 zwf_2 zpf_2 kac_2 knx_2 kim_2 cf_2 m_taped_2 d_tape_2 d_r_2 d_st_2 d_undone_2 d_kept_2 m_undos_2 m_images_2 m_hasHouse_2 → Wk p l e room_1 s m #[Value.ref b] below meth c (lw_Z below #[Value.ref b] s) A g 7 n1 n2 (xw2 ++ (mw2 ++ [(cAJ g lo 1 fo)])) [(4, .int u4), (3, .ref lo), (2, .ref mo), (1, .ref h0), (0, .ref b)] 2062 []) : Wk p l e room_1 s m #[Value.ref b] below meth c (lw_Z below #[Value.ref b] s) A g 7 n1 n2 (xw ++ (mw ++ [(cAJ g lo 1 fo)])) [(4, .int u4), (3, .ref lo), (2, .ref mo), (1, .ref h0), (0, .ref b)] 1920 [] := by
  have hiv : IV u4 0 3066 := ⟨hi.1, by omega⟩
  refine k_aload_n X dL_law_1920 3 rfl ?_
  refine k_aload_n X dL_law_1921 4 rfl ?_
  refine k_iload X dL_law_1922 0 rfl ?_
  refine k_iconst (v := 1) X dL_law_1924 (by decide) ?_
  refine k_iadd X dL_law_1925 ?_
  refine k_nm (fun z_1 ez_1 => ?_)
  have i_2 : z_1.toInt = u4.toInt + 1 := in_add ez_1 hiv (show IV 1 1 1 from (by decide)) (by decide) (by decide)
  have iv_3 : IV z_1 1 3067 := by have := hiv; have := (show IV 1 1 1 from (by decide)); rw [IV, i_2]; omega
  refine k_sld X hX hbl hbA dL_law_1926 (by rw [vp_in_iff]; have := iv_3; omega) ?_
  refine k_nm (fun a_4 ea_4 => ?_)
  refine lx_mend (st := []) a_4 X hx dL_law_1927 mw1487 (Nat.le_of_ble_eq_true rfl) (Nat.le_of_ble_eq_true rfl) (Nat.le_of_ble_eq_true rfl) (Nat.le_trans h1 (Nat.le_of_ble_eq_true rfl)) (Nat.le_trans h2 (Nat.le_of_ble_eq_true rfl)) (fun r_5 t_9 t_10 t_11 t_12 t_13 t_14 t_15 t_16 t_17 t_18 t_19 t_20 t_21 xw_6 hx_7 hr_8 => ?_)
  refine k_pop X dL_law_1930 rfl ?_
  refine k_aload_n X dL_law_1931 2 rfl ?_
  refine k_aload_n X dL_law_1932 4 rfl ?_
  refine k_iload X dL_law_1933 0 rfl ?_
  refine k_iconst (v := 1) X dL_law_1935 (by decide) ?_
  refine k_iadd X dL_law_1936 ?_
  refine k_to z_1 ez_1.symm ?_
  refine k_sld X hX hbl hbA dL_law_1937 (by rw [vp_in_iff]; have := iv_3; omega) ?_
  refine k_to a_4 ea_4.symm ?_
  refine lm_mend (st := []) a_4 X hm dL_law_1938 mw1504 (Nat.le_of_ble_eq_true rfl) (Nat.le_of_ble_eq_true rfl) (Nat.le_of_ble_eq_true rfl) (Nat.le_trans h1 (Nat.le_of_ble_eq_true rfl)) (Nat.le_trans h2 (Nat.le_of_ble_eq_true rfl)) (fun r_22 t_26 t_27 t_28 mw_23 hm_24 hr_25 => ?_)
  refine k_pop X dL_law_1941 rfl ?_
  refine k_goto 2062 X dL_law_1942 (by decide) ?_
  exact kk _ _ _ _ _ _ _ _ _ _ _ _ _ _ _ _ _ _ _ _ _ _ _ _ _ _ _ _ _ _ _ _ _ _ _ _ _ _ _ _ hx_7 hm_24 (LR_mend hR hr_8 hr_25)

theorem dL_law_1945 : decode cL_law 1945 = .ok (.aload_n 1, 1) := dk_43 (kat_30 25 rfl)
theorem dL_law_1946 : decode cL_law 1946 = .ok (.invokevirtual 224, 3) := dk_182 (kat_30 26 rfl) (kat_30 27 rfl) (kat_30 28 rfl) rfl
theorem dL_law_1949 : decode cL_law 1949 = .ok (.pop, 1) := dk_87 (kat_30 29 rfl)
theorem dL_law_1950 : decode cL_law 1950 = .ok (.aload_n 2, 1) := dk_44 (kat_30 30 rfl)
theorem dL_law_1951 : decode cL_law 1951 = .ok (.invokevirtual 228, 3) := dk_182 (kat_30 31 rfl) (kat_30 32 rfl) (kat_30 33 rfl) rfl
theorem dL_law_1954 : decode cL_law 1954 = .ok (.pop, 1) := dk_87 (kat_30 34 rfl)
theorem dL_law_1955 : decode cL_law 1955 = .ok (.goto 107, 3) := dk_167 (kat_30 35 rfl) (kat_30 36 rfl) (kat_30 37 rfl) (by decide)
set_option maxHeartbeats 4000000 in
set_option maxRecDepth 100000 in
theorem law_c49 {p : Program} {l : Launch} {e : Env} {s : State} {m : MethodId} {below : List Frame} {meth : Method} {c : Code} {A : Nat → Prop} {g : Gx} {b L : Nat} {xs : Nat → Int32} {h0 mo lo n1 n2 : Nat} {fo : Nat → Int64} {u4 : Int32} {xtpd : Int32} {tpf : Nat → Int32} {yhnf : Nat → Int32} {yhtn : Int32} {yhtf : Nat → Int32} {yhjn : Int32} {yhjf : Nat → Int32} {yhmn : Int32} {yhmf : Nat → Int32} {yhbn : Int32} {yhbf : Nat → Int32} {yhsn : Int32} {yhsf : Nat → Int32} {yhcn : Int32} {yhcf : Nat → Int32} {zrn : Int32} {zmn : Int32} {zwn : Int32} {zpn : Int32} {zmd : Int32} {ztr : Int32} {zrf : Nat → Int32} {zmf : Nat → Int32} {zwf : Nat → Int32} {zpf : Nat → Int32} {kac : Int32} {knx : Int32} {kim : Int32} {cf : Nat → SC} {m_taped : Int32} {d_tape : Nat → Int32} {d_r : Nat → Int32} {d_st : Nat → Int32} {d_undone : Nat → Int32} {d_kept : Nat → Int32} {m_undos : Int32} {m_images : Int32} {m_hasHouse : Int32} {xw mw : va_W} (X : Cx p s m meth c #[Value.ref b] cL_law 7 RL A g) (hX : va_X b L xs s s.heap) (hbl : b < s.heap.size) (hbA : ¬ A b) (hi : 0 ≤ u4.toInt ∧ u4.toInt + 6 ≤ (L : Int)) (hL : L ≤ 3072) (h1 : n1 ≤ 601023) (h2 : n2 ≤ 7293028) (hlt : l.stackTraces = false) (hZ : kZ A s s.heap) (htsE : ∀ w ∈ wsE, w.before #[Value.ref b] s = true) (hx : XW g h0 xtpd tpf yhnf yhtn yhtf yhjn yhjf yhmn yhmf yhbn yhbf yhsn yhsf yhcn yhcf zrn zmn zwn zpn zmd ztr zrf zmf zwf zpf kac knx kim cf xw) (hm : MW g mo m_taped d_tape d_r d_st d_undone d_kept m_undos m_images m_hasHouse mw) (hR : LR xtpd tpf yhnf yhtn yhtf yhjn yhjf yhmn yhmf yhbn yhbf yhsn yhsf yhcn yhcf zrn zmn zwn zpn zmd ztr zrf zmf zwf zpf kac knx kim cf m_taped d_tape d_r d_st d_undone d_kept m_undos m_images m_hasHouse) (kk : ∀ (xtpd_2 : Int32) (tpf_2 : Nat → Int32) (yhnf_2 : Nat → Int32) (yhtn_2 : Int32) (yhtf_2 : Nat → Int32) (yhjn_2 : Int32) (yhjf_2 : Nat → Int32) (yhmn_2 : Int32) (yhmf_2 : Nat → Int32) (yhbn_2 : Int32) (yhbf_2 : Nat → Int32) (yhsn_2 : Int32) (yhsf_2 : Nat → Int32) (yhcn_2 : Int32) (yhcf_2 : Nat → Int32) (zrn_2 : Int32) (zmn_2 : Int32) (zwn_2 : Int32) (zpn_2 : Int32) (zmd_2 : Int32) (ztr_2 : Int32) (zrf_2 : Nat → Int32) (zmf_2 : Nat → Int32) (zwf_2 : Nat → Int32) (zpf_2 : Nat → Int32) (kac_2 : Int32) (knx_2 : Int32) (kim_2 : Int32) (cf_2 : Nat → SC) (m_taped_2 : Int32) (d_tape_2 : Nat → Int32) (d_r_2 : Nat → Int32) (d_st_2 : Nat → Int32) (d_undone_2 : Nat → Int32) (d_kept_2 : Nat → Int32) (m_undos_2 : Int32) (m_images_2 : Int32) (m_hasHouse_2 : Int32) (xw2 mw2 : va_W), XW g h0 xtpd_2 tpf_2 yhnf_2 yhtn_2 yhtf_2 yhjn_2 yhjf_2 yhmn_2 yhmf_2 yhbn_2 yhbf_2 yhsn_2 yhsf_2 yhcn_2 yhcf_2 zrn_2 zmn_2 zwn_2 zpn_2 zmd_2 ztr_2 zrf_2 zmf_2 zwf_2 zpf_2 kac_2 knx_2 kim_2 cf_2 xw2 → MW g mo m_taped_2 d_tape_2 d_r_2 d_st_2 d_undone_2 d_kept_2 m_undos_2 m_images_2 m_hasHouse_2 mw2 → LR xtpd_2 tpf_2 yhnf_2 yhtn_2 yhtf_2 yhjn_2 yhjf_2 yhmn_2 yhmf_2 yhbn_2 yhbf_2 yhsn_2 yhsf_2 yhcn_2 yhcf_2 zrn_2 zmn_2 zwn_2 zpn_2 zmd_2 ztr_2 zrf_2 zmf_2 zwf_2 zpf_2 kac_2 knx_2 kim_2 cf_2 m_taped_2 d_tape_2 d_r_2 d_st_2 d_undone_2 d_kept_2 m_undos_2 m_images_2 m_hasHouse_2 → Wk p l e room_1 s m #[Value.ref b] below meth c (lw_Z below #[Value.ref b] s) A g 7 n1 n2 (xw2 ++ (mw2 ++ [(cAJ g lo 1 fo)])) [(4, .int u4), (3, .ref lo), (2, .ref mo), (1, .ref h0), (0, .ref b)] 2062 []) : Wk p l e room_1 s m #[Value.ref b] below meth c (lw_Z below #[Value.ref b] s) A g 7 n1 n2 (xw ++ (mw ++ [(cAJ g lo 1 fo)])) [(4, .int u4), (3, .ref lo), (2, .ref mo), (1, .ref h0), (0, .ref b)] 1945 [] := by
  have hiv : IV u4 0 3066 := ⟨hi.1, by omega⟩
  refine k_aload_n X dL_law_1945 3 rfl ?_
  refine lx_undo (st := []) () X hx dL_law_1946 mw1511 (Nat.le_of_ble_eq_true rfl) (Nat.le_of_ble_eq_true rfl) (Nat.le_of_ble_eq_true rfl) (Nat.le_trans h1 (Nat.le_of_ble_eq_true rfl)) (Nat.le_trans h2 (Nat.le_of_ble_eq_true rfl)) (fun r_1 t_5 t_6 t_7 t_8 t_9 t_10 t_11 t_12 t_13 t_14 t_15 t_16 t_17 xw_2 hx_3 hr_4 => ?_)
  refine k_pop X dL_law_1949 rfl ?_
  refine k_aload_n X dL_law_1950 2 rfl ?_
  refine lm_undo (st := []) () X hm dL_law_1951 mw1519 (Nat.le_of_ble_eq_true rfl) (Nat.le_of_ble_eq_true rfl) (Nat.le_of_ble_eq_true rfl) (Nat.le_trans h1 (Nat.le_of_ble_eq_true rfl)) (Nat.le_trans h2 (Nat.le_of_ble_eq_true rfl)) (fun r_18 t_22 t_23 mw_19 hm_20 hr_21 => ?_)
  refine k_pop X dL_law_1954 rfl ?_
  refine k_goto 2062 X dL_law_1955 (by decide) ?_
  exact kk _ _ _ _ _ _ _ _ _ _ _ _ _ _ _ _ _ _ _ _ _ _ _ _ _ _ _ _ _ _ _ _ _ _ _ _ _ _ _ _ hx_3 hm_20 (LR_undo hR hr_4 hr_21)

theorem dL_law_1958 : decode cL_law 1958 = .ok (.aload_n 1, 1) := dk_43 (kat_30 38 rfl)
theorem dL_law_1959 : decode cL_law 1959 = .ok (.invokevirtual 229, 3) := dk_182 (kat_30 39 rfl) (kat_30 40 rfl) (kat_30 41 rfl) rfl
theorem dL_law_1962 : decode cL_law 1962 = .ok (.aload_n 2, 1) := dk_44 (kat_30 42 rfl)
theorem dL_law_1963 : decode cL_law 1963 = .ok (.invokevirtual 232, 3) := dk_182 (kat_30 43 rfl) (kat_30 44 rfl) (kat_30 45 rfl) rfl
theorem dL_law_1966 : decode cL_law 1966 = .ok (.if_icmp .eq 96, 3) := by decide +kernel
set_option maxHeartbeats 4000000 in
set_option maxRecDepth 100000 in
theorem law_c50 {p : Program} {l : Launch} {e : Env} {s : State} {m : MethodId} {below : List Frame} {meth : Method} {c : Code} {A : Nat → Prop} {g : Gx} {b L : Nat} {xs : Nat → Int32} {h0 mo lo n1 n2 : Nat} {fo : Nat → Int64} {u4 : Int32} {xtpd : Int32} {tpf : Nat → Int32} {yhnf : Nat → Int32} {yhtn : Int32} {yhtf : Nat → Int32} {yhjn : Int32} {yhjf : Nat → Int32} {yhmn : Int32} {yhmf : Nat → Int32} {yhbn : Int32} {yhbf : Nat → Int32} {yhsn : Int32} {yhsf : Nat → Int32} {yhcn : Int32} {yhcf : Nat → Int32} {zrn : Int32} {zmn : Int32} {zwn : Int32} {zpn : Int32} {zmd : Int32} {ztr : Int32} {zrf : Nat → Int32} {zmf : Nat → Int32} {zwf : Nat → Int32} {zpf : Nat → Int32} {kac : Int32} {knx : Int32} {kim : Int32} {cf : Nat → SC} {m_taped : Int32} {d_tape : Nat → Int32} {d_r : Nat → Int32} {d_st : Nat → Int32} {d_undone : Nat → Int32} {d_kept : Nat → Int32} {m_undos : Int32} {m_images : Int32} {m_hasHouse : Int32} {xw mw : va_W} (X : Cx p s m meth c #[Value.ref b] cL_law 7 RL A g) (hX : va_X b L xs s s.heap) (hbl : b < s.heap.size) (hbA : ¬ A b) (hi : 0 ≤ u4.toInt ∧ u4.toInt + 6 ≤ (L : Int)) (hL : L ≤ 3072) (h1 : n1 ≤ 601023) (h2 : n2 ≤ 7293028) (hlt : l.stackTraces = false) (hZ : kZ A s s.heap) (htsE : ∀ w ∈ wsE, w.before #[Value.ref b] s = true) (hx : XW g h0 xtpd tpf yhnf yhtn yhtf yhjn yhjf yhmn yhmf yhbn yhbf yhsn yhsf yhcn yhcf zrn zmn zwn zpn zmd ztr zrf zmf zwf zpf kac knx kim cf xw) (hm : MW g mo m_taped d_tape d_r d_st d_undone d_kept m_undos m_images m_hasHouse mw) (hR : LR xtpd tpf yhnf yhtn yhtf yhjn yhjf yhmn yhmf yhbn yhbf yhsn yhsf yhcn yhcf zrn zmn zwn zpn zmd ztr zrf zmf zwf zpf kac knx kim cf m_taped d_tape d_r d_st d_undone d_kept m_undos m_images m_hasHouse) (kk : ∀ (xtpd_2 : Int32) (tpf_2 : Nat → Int32) (yhnf_2 : Nat → Int32) (yhtn_2 : Int32) (yhtf_2 : Nat → Int32) (yhjn_2 : Int32) (yhjf_2 : Nat → Int32) (yhmn_2 : Int32) (yhmf_2 : Nat → Int32) (yhbn_2 : Int32) (yhbf_2 : Nat → Int32) (yhsn_2 : Int32) (yhsf_2 : Nat → Int32) (yhcn_2 : Int32) (yhcf_2 : Nat → Int32) (zrn_2 : Int32) (zmn_2 : Int32) (zwn_2 : Int32) (zpn_2 : Int32) (zmd_2 : Int32) (ztr_2 : Int32) (zrf_2 : Nat → Int32) (zmf_2 : Nat → Int32) (zwf_2 : Nat → Int32) (zpf_2 : Nat → Int32) (kac_2 : Int32) (knx_2 : Int32) (kim_2 : Int32) (cf_2 : Nat → SC) (m_taped_2 : Int32) (d_tape_2 : Nat → Int32) (d_r_2 : Nat → Int32) (d_st_2 : Nat → Int32) (d_undone_2 : Nat → Int32) (d_kept_2 : Nat → Int32) (m_undos_2 : Int32) (m_images_2 : Int32) (m_hasHouse_2 : Int32) (xw2 mw2 : va_W), XW g h0 xtpd_2 tpf_2 yhnf_2 yhtn_2 yhtf_2 yhjn_2 yhjf_2 yhmn_2 yhmf_2 yhbn_2 yhbf_2 yhsn_2 yhsf_2 yhcn_2 yhcf_2 zrn_2 zmn_2 zwn_2 zpn_2 zmd_2 ztr_2 zrf_2 zmf_2 zwf_2 zpf_2 kac_2 knx_2 kim_2 cf_2 xw2 → MW g mo m_taped_2 d_tape_2 d_r_2 d_st_2 d_undone_2 d_kept_2 m_undos_2 m_images_2 m_hasHouse_2 mw2 → LR xtpd_2 tpf_2 yhnf_2 yhtn_2 yhtf_2 yhjn_2 yhjf_2 yhmn_2 yhmf_2 yhbn_2 yhbf_2 yhsn_2 yhsf_2 yhcn_2 yhcf_2 zrn_2 zmn_2 zwn_2 zpn_2 zmd_2 ztr_2 zrf_2 zmf_2 zwf_2 zpf_2 kac_2 knx_2 kim_2 cf_2 m_taped_2 d_tape_2 d_r_2 d_st_2 d_undone_2 d_kept_2 m_undos_2 m_images_2 m_hasHouse_2 → Wk p l e room_1 s m #[Value.ref b] below meth c (lw_Z below #[Value.ref b] s) A g 7 n1 n2 (xw2 ++ (mw2 ++ [(cAJ g lo 1 fo)])) [(4, .int u4), (3, .ref lo), (2, .ref mo), (1, .ref h0), (0, .ref b)] 2062 []) : Wk p l e room_1 s m #[Value.ref b] below meth c (lw_Z below #[Value.ref b] s) A g 7 n1 n2 (xw ++ (mw ++ [(cAJ g lo 1 fo)])) [(4, .int u4), (3, .ref lo), (2, .ref mo), (1, .ref h0), (0, .ref b)] 1958 [] := by
  have hiv : IV u4 0 3066 := ⟨hi.1, by omega⟩
  refine k_aload_n X dL_law_1958 3 rfl ?_
  refine lx_image (st := []) () X hx dL_law_1959 mw1523 (Nat.le_of_ble_eq_true rfl) (Nat.le_of_ble_eq_true rfl) (Nat.le_of_ble_eq_true rfl) (Nat.le_trans h1 (Nat.le_of_ble_eq_true rfl)) (Nat.le_trans h2 (Nat.le_of_ble_eq_true rfl)) (fun r_1 t_5 t_6 t_7 t_8 t_9 t_10 t_11 t_12 t_13 t_14 t_15 t_16 xw_2 hx_3 hr_4 => ?_)
  refine k_aload_n X dL_law_1962 2 rfl ?_
  refine lm_image (st := [.int r_1]) () X hm dL_law_1963 mw1531 (Nat.le_of_ble_eq_true rfl) (Nat.le_of_ble_eq_true rfl) (Nat.le_of_ble_eq_true rfl) (Nat.le_trans h1 (Nat.le_of_ble_eq_true rfl)) (Nat.le_trans h2 (Nat.le_of_ble_eq_true rfl)) (fun r_17 t_21 t_22 mw_18 hm_19 hr_20 => ?_)
  refine k_ic_eq 2062 X dL_law_1966 (by decide) (fun h_23 => ?_) (fun h_23 => absurd (LR_imageA hR hr_4 hr_20) h_23)
  exact kk _ _ _ _ _ _ _ _ _ _ _ _ _ _ _ _ _ _ _ _ _ _ _ _ _ _ _ _ _ _ _ _ _ _ _ _ _ _ _ _ hx_3 hm_19 (LR_image hR hr_4 hr_20)

theorem dL_law_1971 : decode cL_law 1971 = .ok (.aload_n 1, 1) := dk_43 (kat_30 51 rfl)
theorem dL_law_1972 : decode cL_law 1972 = .ok (.aload_n 0, 1) := dk_42 (kat_30 52 rfl)
theorem dL_law_1973 : decode cL_law 1973 = .ok (.iload 4, 2) := dk_21 (kat_30 53 rfl) (kat_30 54 rfl) rfl
theorem dL_law_1975 : decode cL_law 1975 = .ok (.iconst 1, 1) := dk_4 (kat_30 55 rfl)
theorem dL_law_1976 : decode cL_law 1976 = .ok (.iadd, 1) := dk_96 (kat_30 56 rfl)
theorem dL_law_1977 : decode cL_law 1977 = .ok (.iaload, 1) := dk_46 (kat_30 57 rfl)
theorem dL_law_1978 : decode cL_law 1978 = .ok (.invokevirtual 233, 3) := dk_182 (kat_30 58 rfl) (kat_30 59 rfl) (kat_30 60 rfl) rfl
theorem dL_law_1981 : decode cL_law 1981 = .ok (.pop, 1) := dk_87 (kat_30 61 rfl)
theorem dL_law_1982 : decode cL_law 1982 = .ok (.aload_n 2, 1) := dk_44 (kat_30 62 rfl)
theorem dL_law_1983 : decode cL_law 1983 = .ok (.aload_n 0, 1) := dk_42 (kat_30 63 rfl)
theorem dL_law_1984 : decode cL_law 1984 = .ok (.iload 4, 2) := dk_21 (kat_31 0 rfl) (kat_31 1 rfl) rfl
theorem dL_law_1986 : decode cL_law 1986 = .ok (.iconst 1, 1) := dk_4 (kat_31 2 rfl)
theorem dL_law_1987 : decode cL_law 1987 = .ok (.iadd, 1) := dk_96 (kat_31 3 rfl)
theorem dL_law_1988 : decode cL_law 1988 = .ok (.iaload, 1) := dk_46 (kat_31 4 rfl)
theorem dL_law_1989 : decode cL_law 1989 = .ok (.invokevirtual 237, 3) := dk_182 (kat_31 5 rfl) (kat_31 6 rfl) (kat_31 7 rfl) rfl
theorem dL_law_1992 : decode cL_law 1992 = .ok (.pop, 1) := dk_87 (kat_31 8 rfl)
theorem dL_law_1993 : decode cL_law 1993 = .ok (.goto 69, 3) := dk_167 (kat_31 9 rfl) (kat_31 10 rfl) (kat_31 11 rfl) (by decide)
set_option maxHeartbeats 4000000 in
set_option maxRecDepth 100000 in
theorem law_c51 {p : Program} {l : Launch} {e : Env} {s : State} {m : MethodId} {below : List Frame} {meth : Method} {c : Code} {A : Nat → Prop} {g : Gx} {b L : Nat} {xs : Nat → Int32} {h0 mo lo n1 n2 : Nat} {fo : Nat → Int64} {u4 : Int32} {xtpd : Int32} {tpf : Nat → Int32} {yhnf : Nat → Int32} {yhtn : Int32} {yhtf : Nat → Int32} {yhjn : Int32} {yhjf : Nat → Int32} {yhmn : Int32} {yhmf : Nat → Int32} {yhbn : Int32} {yhbf : Nat → Int32} {yhsn : Int32} {yhsf : Nat → Int32} {yhcn : Int32} {yhcf : Nat → Int32} {zrn : Int32} {zmn : Int32} {zwn : Int32} {zpn : Int32} {zmd : Int32} {ztr : Int32} {zrf : Nat → Int32} {zmf : Nat → Int32} {zwf : Nat → Int32} {zpf : Nat → Int32} {kac : Int32} {knx : Int32} {kim : Int32} {cf : Nat → SC} {m_taped : Int32} {d_tape : Nat → Int32} {d_r : Nat → Int32} {d_st : Nat → Int32} {d_undone : Nat → Int32} {d_kept : Nat → Int32} {m_undos : Int32} {m_images : Int32} {m_hasHouse : Int32} {xw mw : va_W} (X : Cx p s m meth c #[Value.ref b] cL_law 7 RL A g) (hX : va_X b L xs s s.heap) (hbl : b < s.heap.size) (hbA : ¬ A b) (hi : 0 ≤ u4.toInt ∧ u4.toInt + 6 ≤ (L : Int)) (hL : L ≤ 3072) (h1 : n1 ≤ 601023) (h2 : n2 ≤ 7293028) (hlt : l.stackTraces = false) (hZ : kZ A s s.heap) (htsE : ∀ w ∈ wsE, w.before #[Value.ref b] s = true) (hx : XW g h0 xtpd tpf yhnf yhtn yhtf yhjn yhjf yhmn yhmf yhbn yhbf yhsn yhsf yhcn yhcf zrn zmn zwn zpn zmd ztr zrf zmf zwf zpf kac knx kim cf xw) (hm : MW g mo m_taped d_tape d_r d_st d_undone d_kept m_undos m_images m_hasHouse mw) (hR : LR xtpd tpf yhnf yhtn yhtf yhjn yhjf yhmn yhmf yhbn yhbf yhsn yhsf yhcn yhcf zrn zmn zwn zpn zmd ztr zrf zmf zwf zpf kac knx kim cf m_taped d_tape d_r d_st d_undone d_kept m_undos m_images m_hasHouse) (kk : ∀ (xtpd_2 : Int32) (tpf_2 : Nat → Int32) (yhnf_2 : Nat → Int32) (yhtn_2 : Int32) (yhtf_2 : Nat → Int32) (yhjn_2 : Int32) (yhjf_2 : Nat → Int32) (yhmn_2 : Int32) (yhmf_2 : Nat → Int32) (yhbn_2 : Int32) (yhbf_2 : Nat → Int32) (yhsn_2 : Int32) (yhsf_2 : Nat → Int32) (yhcn_2 : Int32) (yhcf_2 : Nat → Int32) (zrn_2 : Int32) (zmn_2 : Int32) (zwn_2 : Int32) (zpn_2 : Int32) (zmd_2 : Int32) (ztr_2 : Int32) (zrf_2 : Nat → Int32) (zmf_2 : Nat → Int32) (zwf_2 : Nat → Int32) (zpf_2 : Nat → Int32) (kac_2 : Int32) (knx_2 : Int32) (kim_2 : Int32) (cf_2 : Nat → SC) (m_taped_2 : Int32) (d_tape_2 : Nat → Int32) (d_r_2 : Nat → Int32) (d_st_2 : Nat → Int32) (d_undone_2 : Nat → Int32) (d_kept_2 : Nat → Int32) (m_undos_2 : Int32) (m_images_2 : Int32) (m_hasHouse_2 : Int32) (xw2 mw2 : va_W), XW g h0 xtpd_2 tpf_2 yhnf_2 yhtn_2 yhtf_2 yhjn_2 yhjf_2 yhmn_2 yhmf_2 yhbn_2 yhbf_2 yhsn_2 yhsf_2 yhcn_2 yhcf_2 zrn_2 zmn_2 zwn_2 zpn_2 zmd_2 ztr_2 zrf_2 zmf_2 zwf_2 zpf_2 kac_2 knx_2 kim_2 cf_2 xw2 → MW g mo m_taped_2 d_tape_2 d_r_2 d_st_2 d_undone_2 d_kept_2 m_undos_2 m_images_2 m_hasHouse_2 mw2 → LR xtpd_2 tpf_2 yhnf_2 yhtn_2 yhtf_2 yhjn_2 yhjf_2 yhmn_2 yhmf_2 yhbn_2 yhbf_2 yhsn_2 yhsf_2 yhcn_2 yhcf_2 zrn_2 zmn_2 zwn_2 zpn_2 zmd_2 ztr_2 zrf_2 zmf_2 zwf_2 zpf_2 kac_2 knx_2 kim_2 cf_2 m_taped_2 d_tape_2 d_r_2 d_st_2 d_undone_2 d_kept_2 m_undos_2 m_images_2 m_hasHouse_2 → Wk p l e room_1 s m #[Value.ref b] below meth c (lw_Z below #[Value.ref b] s) A g 7 n1 n2 (xw2 ++ (mw2 ++ [(cAJ g lo 1 fo)])) [(4, .int u4), (3, .ref lo), (2, .ref mo), (1, .ref h0), (0, .ref b)] 2062 []) : Wk p l e room_1 s m #[Value.ref b] below meth c (lw_Z below #[Value.ref b] s) A g 7 n1 n2 (xw ++ (mw ++ [(cAJ g lo 1 fo)])) [(4, .int u4), (3, .ref lo), (2, .ref mo), (1, .ref h0), (0, .ref b)] 1971 [] := by
  have hiv : IV u4 0 3066 := ⟨hi.1, by omega⟩
  refine k_aload_n X dL_law_1971 3 rfl ?_
  refine k_aload_n X dL_law_1972 4 rfl ?_
  refine k_iload X dL_law_1973 0 rfl ?_
  refine k_iconst (v := 1) X dL_law_1975 (by decide) ?_
  refine k_iadd X dL_law_1976 ?_
  refine k_nm (fun z_1 ez_1 => ?_)
  have i_2 : z_1.toInt = u4.toInt + 1 := in_add ez_1 hiv (show IV 1 1 1 from (by decide)) (by decide) (by decide)
  have iv_3 : IV z_1 1 3067 := by have := hiv; have := (show IV 1 1 1 from (by decide)); rw [IV, i_2]; omega
  refine k_sld X hX hbl hbA dL_law_1977 (by rw [vp_in_iff]; have := iv_3; omega) ?_
  refine k_nm (fun a_4 ea_4 => ?_)
  refine lx_back (st := []) a_4 X hx dL_law_1978 mw1535 (Nat.le_of_ble_eq_true rfl) (Nat.le_of_ble_eq_true rfl) (Nat.le_of_ble_eq_true rfl) (Nat.le_trans h1 (Nat.le_of_ble_eq_true rfl)) (Nat.le_trans h2 (Nat.le_of_ble_eq_true rfl)) (fun r_5 t_9 t_10 t_11 t_12 t_13 t_14 t_15 t_16 t_17 t_18 t_19 t_20 xw_6 hx_7 hr_8 => ?_)
  refine k_pop X dL_law_1981 rfl ?_
  refine k_aload_n X dL_law_1982 2 rfl ?_
  refine k_aload_n X dL_law_1983 4 rfl ?_
  refine k_iload X dL_law_1984 0 rfl ?_
  refine k_iconst (v := 1) X dL_law_1986 (by decide) ?_
  refine k_iadd X dL_law_1987 ?_
  refine k_to z_1 ez_1.symm ?_
  refine k_sld X hX hbl hbA dL_law_1988 (by rw [vp_in_iff]; have := iv_3; omega) ?_
  refine k_to a_4 ea_4.symm ?_
  refine lm_back (st := []) a_4 X hm dL_law_1989 mw1543 (Nat.le_of_ble_eq_true rfl) (Nat.le_of_ble_eq_true rfl) (Nat.le_of_ble_eq_true rfl) (Nat.le_trans h1 (Nat.le_of_ble_eq_true rfl)) (Nat.le_trans h2 (Nat.le_of_ble_eq_true rfl)) (fun r_21 t_25 t_26 mw_22 hm_23 hr_24 => ?_)
  refine k_pop X dL_law_1992 rfl ?_
  refine k_goto 2062 X dL_law_1993 (by decide) ?_
  exact kk _ _ _ _ _ _ _ _ _ _ _ _ _ _ _ _ _ _ _ _ _ _ _ _ _ _ _ _ _ _ _ _ _ _ _ _ _ _ _ _ hx_7 hm_23 (LR_back hR hr_8 hr_24)

theorem dL_law_1996 : decode cL_law 1996 = .ok (.aload_n 1, 1) := dk_43 (kat_31 12 rfl)
theorem dL_law_1997 : decode cL_law 1997 = .ok (.aload_n 0, 1) := dk_42 (kat_31 13 rfl)
theorem dL_law_1998 : decode cL_law 1998 = .ok (.iload 4, 2) := dk_21 (kat_31 14 rfl) (kat_31 15 rfl) rfl
theorem dL_law_2000 : decode cL_law 2000 = .ok (.iconst 1, 1) := dk_4 (kat_31 16 rfl)
theorem dL_law_2001 : decode cL_law 2001 = .ok (.iadd, 1) := dk_96 (kat_31 17 rfl)
theorem dL_law_2002 : decode cL_law 2002 = .ok (.iaload, 1) := dk_46 (kat_31 18 rfl)
theorem dL_law_2003 : decode cL_law 2003 = .ok (.aload_n 3, 1) := dk_45 (kat_31 19 rfl)
theorem dL_law_2004 : decode cL_law 2004 = .ok (.invokestatic 238, 3) := by decide +kernel
theorem dL_law_2007 : decode cL_law 2007 = .ok (.istore 5, 2) := by decide +kernel
theorem dL_law_2009 : decode cL_law 2009 = .ok (.aload_n 2, 1) := dk_44 (kat_31 25 rfl)
theorem dL_law_2010 : decode cL_law 2010 = .ok (.aload_n 0, 1) := dk_42 (kat_31 26 rfl)
theorem dL_law_2011 : decode cL_law 2011 = .ok (.iload 4, 2) := dk_21 (kat_31 27 rfl) (kat_31 28 rfl) rfl
theorem dL_law_2013 : decode cL_law 2013 = .ok (.iconst 1, 1) := dk_4 (kat_31 29 rfl)
theorem dL_law_2014 : decode cL_law 2014 = .ok (.iadd, 1) := dk_96 (kat_31 30 rfl)
theorem dL_law_2015 : decode cL_law 2015 = .ok (.iaload, 1) := dk_46 (kat_31 31 rfl)
theorem dL_law_2016 : decode cL_law 2016 = .ok (.invokevirtual 243, 3) := dk_182 (kat_31 32 rfl) (kat_31 33 rfl) (kat_31 34 rfl) rfl
theorem dL_law_2019 : decode cL_law 2019 = .ok (.istore 6, 2) := by decide +kernel
theorem dL_law_2021 : decode cL_law 2021 = .ok (.goto 41, 3) := dk_167 (kat_31 37 rfl) (kat_31 38 rfl) (kat_31 39 rfl) (by decide)
set_option maxHeartbeats 4000000 in
set_option maxRecDepth 100000 in
theorem law_c52 {p : Program} {l : Launch} {e : Env} {s : State} {m : MethodId} {below : List Frame} {meth : Method} {c : Code} {A : Nat → Prop} {g : Gx} {b L : Nat} {xs : Nat → Int32} {h0 mo lo n1 n2 : Nat} {fo : Nat → Int64} {u4 : Int32} {xtpd : Int32} {tpf : Nat → Int32} {yhnf : Nat → Int32} {yhtn : Int32} {yhtf : Nat → Int32} {yhjn : Int32} {yhjf : Nat → Int32} {yhmn : Int32} {yhmf : Nat → Int32} {yhbn : Int32} {yhbf : Nat → Int32} {yhsn : Int32} {yhsf : Nat → Int32} {yhcn : Int32} {yhcf : Nat → Int32} {zrn : Int32} {zmn : Int32} {zwn : Int32} {zpn : Int32} {zmd : Int32} {ztr : Int32} {zrf : Nat → Int32} {zmf : Nat → Int32} {zwf : Nat → Int32} {zpf : Nat → Int32} {kac : Int32} {knx : Int32} {kim : Int32} {cf : Nat → SC} {m_taped : Int32} {d_tape : Nat → Int32} {d_r : Nat → Int32} {d_st : Nat → Int32} {d_undone : Nat → Int32} {d_kept : Nat → Int32} {m_undos : Int32} {m_images : Int32} {m_hasHouse : Int32} {xw mw : va_W} (X : Cx p s m meth c #[Value.ref b] cL_law 7 RL A g) (hX : va_X b L xs s s.heap) (hbl : b < s.heap.size) (hbA : ¬ A b) (hi : 0 ≤ u4.toInt ∧ u4.toInt + 6 ≤ (L : Int)) (hL : L ≤ 3072) (h1 : n1 ≤ 601023) (h2 : n2 ≤ 7293028) (hlt : l.stackTraces = false) (hZ : kZ A s s.heap) (htsE : ∀ w ∈ wsE, w.before #[Value.ref b] s = true) (hx : XW g h0 xtpd tpf yhnf yhtn yhtf yhjn yhjf yhmn yhmf yhbn yhbf yhsn yhsf yhcn yhcf zrn zmn zwn zpn zmd ztr zrf zmf zwf zpf kac knx kim cf xw) (hm : MW g mo m_taped d_tape d_r d_st d_undone d_kept m_undos m_images m_hasHouse mw) (hR : LR xtpd tpf yhnf yhtn yhtf yhjn yhjf yhmn yhmf yhbn yhbf yhsn yhsf yhcn yhcf zrn zmn zwn zpn zmd ztr zrf zmf zwf zpf kac knx kim cf m_taped d_tape d_r d_st d_undone d_kept m_undos m_images m_hasHouse) (kk : ∀ (xtpd_2 : Int32) (tpf_2 : Nat → Int32) (yhnf_2 : Nat → Int32) (yhtn_2 : Int32) (yhtf_2 : Nat → Int32) (yhjn_2 : Int32) (yhjf_2 : Nat → Int32) (yhmn_2 : Int32) (yhmf_2 : Nat → Int32) (yhbn_2 : Int32) (yhbf_2 : Nat → Int32) (yhsn_2 : Int32) (yhsf_2 : Nat → Int32) (yhcn_2 : Int32) (yhcf_2 : Nat → Int32) (zrn_2 : Int32) (zmn_2 : Int32) (zwn_2 : Int32) (zpn_2 : Int32) (zmd_2 : Int32) (ztr_2 : Int32) (zrf_2 : Nat → Int32) (zmf_2 : Nat → Int32) (zwf_2 : Nat → Int32) (zpf_2 : Nat → Int32) (kac_2 : Int32) (knx_2 : Int32) (kim_2 : Int32) (cf_2 : Nat → SC) (m_taped_2 : Int32) (d_tape_2 : Nat → Int32) (d_r_2 : Nat → Int32) (d_st_2 : Nat → Int32) (d_undone_2 : Nat → Int32) (d_kept_2 : Nat → Int32) (m_undos_2 : Int32) (m_images_2 : Int32) (m_hasHouse_2 : Int32) (xw2 mw2 : va_W) (fo2 : Nat → Int64), XW g h0 xtpd_2 tpf_2 yhnf_2 yhtn_2 yhtf_2 yhjn_2 yhjf_2 yhmn_2 yhmf_2 yhbn_2 yhbf_2 yhsn_2 yhsf_2 yhcn_2 yhcf_2 zrn_2 zmn_2 zwn_2 zpn_2 zmd_2 ztr_2 zrf_2 zmf_2 zwf_2 zpf_2 kac_2 knx_2 kim_2 cf_2 xw2 → MW g mo m_taped_2 d_tape_2 d_r_2 d_st_2 d_undone_2 d_kept_2 m_undos_2 m_images_2 m_hasHouse_2 mw2 → LR xtpd_2 tpf_2 yhnf_2 yhtn_2 yhtf_2 yhjn_2 yhjf_2 yhmn_2 yhmf_2 yhbn_2 yhbf_2 yhsn_2 yhsf_2 yhcn_2 yhcf_2 zrn_2 zmn_2 zwn_2 zpn_2 zmd_2 ztr_2 zrf_2 zmf_2 zwf_2 zpf_2 kac_2 knx_2 kim_2 cf_2 m_taped_2 d_tape_2 d_r_2 d_st_2 d_undone_2 d_kept_2 m_undos_2 m_images_2 m_hasHouse_2 → Wk p l e room_1 s m #[Value.ref b] below meth c (lw_Z below #[Value.ref b] s) A g 7 (n1 + 1) (n2 + 6) (xw2 ++ (mw2 ++ [(cAJ g lo 1 fo2)])) [(4, .int u4), (3, .ref lo), (2, .ref mo), (1, .ref h0), (0, .ref b)] 2062 []) : Wk p l e room_1 s m #[Value.ref b] below meth c (lw_Z below #[Value.ref b] s) A g 7 n1 n2 (xw ++ (mw ++ [(cAJ g lo 1 fo)])) [(4, .int u4), (3, .ref lo), (2, .ref mo), (1, .ref h0), (0, .ref b)] 1996 [] := by
  have hiv : IV u4 0 3066 := ⟨hi.1, by omega⟩
  refine k_aload_n X dL_law_1996 3 rfl ?_
  refine k_aload_n X dL_law_1997 4 rfl ?_
  refine k_iload X dL_law_1998 0 rfl ?_
  refine k_iconst (v := 1) X dL_law_2000 (by decide) ?_
  refine k_iadd X dL_law_2001 ?_
  refine k_nm (fun z_1 ez_1 => ?_)
  have i_2 : z_1.toInt = u4.toInt + 1 := in_add ez_1 hiv (show IV 1 1 1 from (by decide)) (by decide) (by decide)
  have iv_3 : IV z_1 1 3067 := by have := hiv; have := (show IV 1 1 1 from (by decide)); rw [IV, i_2]; omega
  refine k_sld X hX hbl hbA dL_law_2002 (by rw [vp_in_iff]; have := iv_3; omega) ?_
  refine k_nm (fun a_4 ea_4 => ?_)
  refine k_aload_n X dL_law_2003 1 rfl ?_
  refine lx_led (st := []) a_4 hlt hZ htsE X hx dL_law_2004 (Nat.le_of_ble_eq_true rfl) (Nat.le_of_ble_eq_true rfl) (Nat.le_of_ble_eq_true rfl) (Nat.le_trans (Nat.add_le_add_right h1 1) (Nat.le_of_ble_eq_true rfl)) (Nat.le_trans (Nat.add_le_add_right h2 6) (Nat.le_of_ble_eq_true rfl)) (fun r_5 xw_6 fo_7 hx_8 => ?_)
  refine k_istore [(5, .int r_5), (4, .int u4), (3, .ref lo), (2, .ref mo), (1, .ref h0), (0, .ref b)] X dL_law_2007 (by decide) rfl ?_
  refine k_aload_n X dL_law_2009 3 rfl ?_
  refine k_aload_n X dL_law_2010 5 rfl ?_
  refine k_iload X dL_law_2011 1 rfl ?_
  refine k_iconst (v := 1) X dL_law_2013 (by decide) ?_
  refine k_iadd X dL_law_2014 ?_
  refine k_to z_1 ez_1.symm ?_
  refine k_sld X hX hbl hbA dL_law_2015 (by rw [vp_in_iff]; have := iv_3; omega) ?_
  refine k_to a_4 ea_4.symm ?_
  refine lm_led (st := []) a_4 X hm dL_law_2016 mw1558 (Nat.le_of_ble_eq_true rfl) (Nat.le_of_ble_eq_true rfl) (Nat.le_of_ble_eq_true rfl) (Nat.le_trans (Nat.add_le_add_right h1 1) (Nat.le_of_ble_eq_true rfl)) (Nat.le_trans (Nat.add_le_add_right h2 6) (Nat.le_of_ble_eq_true rfl)) (fun r_9 mw_10 hm_11 => ?_)
  refine k_istore [(6, .int r_9), (5, .int r_5), (4, .int u4), (3, .ref lo), (2, .ref mo), (1, .ref h0), (0, .ref b)] X dL_law_2019 (by decide) rfl ?_
  refine k_goto 2062 X dL_law_2021 (by decide) ?_
  refine k_lv [(4, .int u4), (3, .ref lo), (2, .ref mo), (1, .ref h0), (0, .ref b)] [2, 3, 4, 5, 6] rfl ?_
  exact kk _ _ _ _ _ _ _ _ _ _ _ _ _ _ _ _ _ _ _ _ _ _ _ _ _ _ _ _ _ _ _ _ _ _ _ _ _ _ _ _ _ hx_8 hm_11 hR

theorem dL_law_2024 : decode cL_law 2024 = .ok (.aload_n 1, 1) := dk_43 (kat_31 40 rfl)
theorem dL_law_2025 : decode cL_law 2025 = .ok (.aload_n 0, 1) := dk_42 (kat_31 41 rfl)
theorem dL_law_2026 : decode cL_law 2026 = .ok (.iload 4, 2) := dk_21 (kat_31 42 rfl) (kat_31 43 rfl) rfl
theorem dL_law_2028 : decode cL_law 2028 = .ok (.iconst 1, 1) := dk_4 (kat_31 44 rfl)
theorem dL_law_2029 : decode cL_law 2029 = .ok (.iadd, 1) := dk_96 (kat_31 45 rfl)
theorem dL_law_2030 : decode cL_law 2030 = .ok (.iaload, 1) := dk_46 (kat_31 46 rfl)
theorem dL_law_2031 : decode cL_law 2031 = .ok (.invokevirtual 244, 3) := dk_182 (kat_31 47 rfl) (kat_31 48 rfl) (kat_31 49 rfl) rfl
theorem dL_law_2034 : decode cL_law 2034 = .ok (.pop, 1) := dk_87 (kat_31 50 rfl)
theorem dL_law_2035 : decode cL_law 2035 = .ok (.aload_n 2, 1) := dk_44 (kat_31 51 rfl)
theorem dL_law_2036 : decode cL_law 2036 = .ok (.aload_n 0, 1) := dk_42 (kat_31 52 rfl)
theorem dL_law_2037 : decode cL_law 2037 = .ok (.iload 4, 2) := dk_21 (kat_31 53 rfl) (kat_31 54 rfl) rfl
theorem dL_law_2039 : decode cL_law 2039 = .ok (.iconst 1, 1) := dk_4 (kat_31 55 rfl)
theorem dL_law_2040 : decode cL_law 2040 = .ok (.iadd, 1) := dk_96 (kat_31 56 rfl)
theorem dL_law_2041 : decode cL_law 2041 = .ok (.iaload, 1) := dk_46 (kat_31 57 rfl)
theorem dL_law_2042 : decode cL_law 2042 = .ok (.invokevirtual 247, 3) := dk_182 (kat_31 58 rfl) (kat_31 59 rfl) (kat_31 60 rfl) rfl
theorem dL_law_2045 : decode cL_law 2045 = .ok (.pop, 1) := dk_87 (kat_31 61 rfl)
theorem dL_law_2046 : decode cL_law 2046 = .ok (.goto 16, 3) := dk_167 (kat_31 62 rfl) (kat_31 63 rfl) (kat_32 0 rfl) (by decide)
set_option maxHeartbeats 4000000 in
set_option maxRecDepth 100000 in
theorem law_c53 {p : Program} {l : Launch} {e : Env} {s : State} {m : MethodId} {below : List Frame} {meth : Method} {c : Code} {A : Nat → Prop} {g : Gx} {b L : Nat} {xs : Nat → Int32} {h0 mo lo n1 n2 : Nat} {fo : Nat → Int64} {u4 : Int32} {xtpd : Int32} {tpf : Nat → Int32} {yhnf : Nat → Int32} {yhtn : Int32} {yhtf : Nat → Int32} {yhjn : Int32} {yhjf : Nat → Int32} {yhmn : Int32} {yhmf : Nat → Int32} {yhbn : Int32} {yhbf : Nat → Int32} {yhsn : Int32} {yhsf : Nat → Int32} {yhcn : Int32} {yhcf : Nat → Int32} {zrn : Int32} {zmn : Int32} {zwn : Int32} {zpn : Int32} {zmd : Int32} {ztr : Int32} {zrf : Nat → Int32} {zmf : Nat → Int32} {zwf : Nat → Int32} {zpf : Nat → Int32} {kac : Int32} {knx : Int32} {kim : Int32} {cf : Nat → SC} {m_taped : Int32} {d_tape : Nat → Int32} {d_r : Nat → Int32} {d_st : Nat → Int32} {d_undone : Nat → Int32} {d_kept : Nat → Int32} {m_undos : Int32} {m_images : Int32} {m_hasHouse : Int32} {xw mw : va_W} (X : Cx p s m meth c #[Value.ref b] cL_law 7 RL A g) (hX : va_X b L xs s s.heap) (hbl : b < s.heap.size) (hbA : ¬ A b) (hi : 0 ≤ u4.toInt ∧ u4.toInt + 6 ≤ (L : Int)) (hL : L ≤ 3072) (h1 : n1 ≤ 601023) (h2 : n2 ≤ 7293028) (hlt : l.stackTraces = false) (hZ : kZ A s s.heap) (htsE : ∀ w ∈ wsE, w.before #[Value.ref b] s = true) (hx : XW g h0 xtpd tpf yhnf yhtn yhtf yhjn yhjf yhmn yhmf yhbn yhbf yhsn yhsf yhcn yhcf zrn zmn zwn zpn zmd ztr zrf zmf zwf zpf kac knx kim cf xw) (hm : MW g mo m_taped d_tape d_r d_st d_undone d_kept m_undos m_images m_hasHouse mw) (hR : LR xtpd tpf yhnf yhtn yhtf yhjn yhjf yhmn yhmf yhbn yhbf yhsn yhsf yhcn yhcf zrn zmn zwn zpn zmd ztr zrf zmf zwf zpf kac knx kim cf m_taped d_tape d_r d_st d_undone d_kept m_undos m_images m_hasHouse) (kk : ∀ (xtpd_2 : Int32) (tpf_2 : Nat → Int32) (yhnf_2 : Nat → Int32) (yhtn_2 : Int32) (yhtf_2 : Nat → Int32) (yhjn_2 : Int32) (yhjf_2 : Nat → Int32) (yhmn_2 : Int32) (yhmf_2 : Nat → Int32) (yhbn_2 : Int32) (yhbf_2 : Nat → Int32) (yhsn_2 : Int32) (yhsf_2 : Nat → Int32) (yhcn_2 : Int32) (yhcf_2 : Nat → Int32) (zrn_2 : Int32) (zmn_2 : Int32) (zwn_2 : Int32) (zpn_2 : Int32) (zmd_2 : Int32) (ztr_2 : Int32) (zrf_2 : Nat → Int32) (zmf_2 : Nat → Int32) (zwf_2 : Nat → Int32) (zpf_2 : Nat → Int32) (kac_2 : Int32) (knx_2 : Int32) (kim_2 : Int32) (cf_2 : Nat → SC) (m_taped_2 : Int32) (d_tape_2 : Nat → Int32) (d_r_2 : Nat → Int32) (d_st_2 : Nat → Int32) (d_undone_2 : Nat → Int32) (d_kept_2 : Nat → Int32) (m_undos_2 : Int32) (m_images_2 : Int32) (m_hasHouse_2 : Int32) (xw2 mw2 : va_W), XW g h0 xtpd_2 tpf_2 yhnf_2 yhtn_2 yhtf_2 yhjn_2 yhjf_2 yhmn_2 yhmf_2 yhbn_2 yhbf_2 yhsn_2 yhsf_2 yhcn_2 yhcf_2 zrn_2 zmn_2 zwn_2 zpn_2 zmd_2 ztr_2 zrf_2 zmf_2 zwf_2 zpf_2 kac_2 knx_2 kim_2 cf_2 xw2 → MW g mo m_taped_2 d_tape_2 d_r_2 d_st_2 d_undone_2 d_kept_2 m_undos_2 m_images_2 m_hasHouse_2 mw2 → LR xtpd_2 tpf_2 yhnf_2 yhtn_2 yhtf_2 yhjn_2 yhjf_2 yhmn_2 yhmf_2 yhbn_2 yhbf_2 yhsn_2 yhsf_2 yhcn_2 yhcf_2 zrn_2 zmn_2 zwn_2 zpn_2 zmd_2 ztr_2 zrf_2 zmf_2 zwf_2 zpf_2 kac_2 knx_2 kim_2 cf_2 m_taped_2 d_tape_2 d_r_2 d_st_2 d_undone_2 d_kept_2 m_undos_2 m_images_2 m_hasHouse_2 → Wk p l e room_1 s m #[Value.ref b] below meth c (lw_Z below #[Value.ref b] s) A g 7 n1 n2 (xw2 ++ (mw2 ++ [(cAJ g lo 1 fo)])) [(4, .int u4), (3, .ref lo), (2, .ref mo), (1, .ref h0), (0, .ref b)] 2062 []) : Wk p l e room_1 s m #[Value.ref b] below meth c (lw_Z below #[Value.ref b] s) A g 7 n1 n2 (xw ++ (mw ++ [(cAJ g lo 1 fo)])) [(4, .int u4), (3, .ref lo), (2, .ref mo), (1, .ref h0), (0, .ref b)] 2024 [] := by
  have hiv : IV u4 0 3066 := ⟨hi.1, by omega⟩
  refine k_aload_n X dL_law_2024 3 rfl ?_
  refine k_aload_n X dL_law_2025 4 rfl ?_
  refine k_iload X dL_law_2026 0 rfl ?_
  refine k_iconst (v := 1) X dL_law_2028 (by decide) ?_
  refine k_iadd X dL_law_2029 ?_
  refine k_nm (fun z_1 ez_1 => ?_)
  have i_2 : z_1.toInt = u4.toInt + 1 := in_add ez_1 hiv (show IV 1 1 1 from (by decide)) (by decide) (by decide)
  have iv_3 : IV z_1 1 3067 := by have := hiv; have := (show IV 1 1 1 from (by decide)); rw [IV, i_2]; omega
  refine k_sld X hX hbl hbA dL_law_2030 (by rw [vp_in_iff]; have := iv_3; omega) ?_
  refine k_nm (fun a_4 ea_4 => ?_)
  refine lx_size (st := []) a_4 X hx dL_law_2031 mw1562 (Nat.le_of_ble_eq_true rfl) (Nat.le_of_ble_eq_true rfl) (Nat.le_of_ble_eq_true rfl) (Nat.le_trans h1 (Nat.le_of_ble_eq_true rfl)) (Nat.le_trans h2 (Nat.le_of_ble_eq_true rfl)) (fun r_5 xw_6 hx_7 => ?_)
  refine k_pop X dL_law_2034 rfl ?_
  refine k_aload_n X dL_law_2035 2 rfl ?_
  refine k_aload_n X dL_law_2036 4 rfl ?_
  refine k_iload X dL_law_2037 0 rfl ?_
  refine k_iconst (v := 1) X dL_law_2039 (by decide) ?_
  refine k_iadd X dL_law_2040 ?_
  refine k_to z_1 ez_1.symm ?_
  refine k_sld X hX hbl hbA dL_law_2041 (by rw [vp_in_iff]; have := iv_3; omega) ?_
  refine k_to a_4 ea_4.symm ?_
  refine lm_size (st := []) a_4 X hm dL_law_2042 mw1570 (Nat.le_of_ble_eq_true rfl) (Nat.le_of_ble_eq_true rfl) (Nat.le_of_ble_eq_true rfl) (Nat.le_trans h1 (Nat.le_of_ble_eq_true rfl)) (Nat.le_trans h2 (Nat.le_of_ble_eq_true rfl)) (fun r_8 mw_9 hm_10 => ?_)
  refine k_pop X dL_law_2045 rfl ?_
  refine k_goto 2062 X dL_law_2046 (by decide) ?_
  exact kk _ _ _ _ _ _ _ _ _ _ _ _ _ _ _ _ _ _ _ _ _ _ _ _ _ _ _ _ _ _ _ _ _ _ _ _ _ _ _ _ hx_7 hm_10 hR

theorem dL_law_2049 : decode cL_law 2049 = .ok (.aload_n 1, 1) := dk_43 (kat_32 1 rfl)
theorem dL_law_2050 : decode cL_law 2050 = .ok (.invokevirtual 248, 3) := dk_182 (kat_32 2 rfl) (kat_32 3 rfl) (kat_32 4 rfl) rfl
theorem dL_law_2053 : decode cL_law 2053 = .ok (.pop, 1) := dk_87 (kat_32 5 rfl)
theorem dL_law_2054 : decode cL_law 2054 = .ok (.aload_n 2, 1) := dk_44 (kat_32 6 rfl)
theorem dL_law_2055 : decode cL_law 2055 = .ok (.invokevirtual 251, 3) := dk_182 (kat_32 7 rfl) (kat_32 8 rfl) (kat_32 9 rfl) rfl
theorem dL_law_2058 : decode cL_law 2058 = .ok (.pop, 1) := dk_87 (kat_32 10 rfl)
theorem dL_law_2059 : decode cL_law 2059 = .ok (.goto 3, 3) := dk_167 (kat_32 11 rfl) (kat_32 12 rfl) (kat_32 13 rfl) (by decide)
set_option maxHeartbeats 4000000 in
set_option maxRecDepth 100000 in
theorem law_c54 {p : Program} {l : Launch} {e : Env} {s : State} {m : MethodId} {below : List Frame} {meth : Method} {c : Code} {A : Nat → Prop} {g : Gx} {b L : Nat} {xs : Nat → Int32} {h0 mo lo n1 n2 : Nat} {fo : Nat → Int64} {u4 : Int32} {xtpd : Int32} {tpf : Nat → Int32} {yhnf : Nat → Int32} {yhtn : Int32} {yhtf : Nat → Int32} {yhjn : Int32} {yhjf : Nat → Int32} {yhmn : Int32} {yhmf : Nat → Int32} {yhbn : Int32} {yhbf : Nat → Int32} {yhsn : Int32} {yhsf : Nat → Int32} {yhcn : Int32} {yhcf : Nat → Int32} {zrn : Int32} {zmn : Int32} {zwn : Int32} {zpn : Int32} {zmd : Int32} {ztr : Int32} {zrf : Nat → Int32} {zmf : Nat → Int32} {zwf : Nat → Int32} {zpf : Nat → Int32} {kac : Int32} {knx : Int32} {kim : Int32} {cf : Nat → SC} {m_taped : Int32} {d_tape : Nat → Int32} {d_r : Nat → Int32} {d_st : Nat → Int32} {d_undone : Nat → Int32} {d_kept : Nat → Int32} {m_undos : Int32} {m_images : Int32} {m_hasHouse : Int32} {xw mw : va_W} (X : Cx p s m meth c #[Value.ref b] cL_law 7 RL A g) (hX : va_X b L xs s s.heap) (hbl : b < s.heap.size) (hbA : ¬ A b) (hi : 0 ≤ u4.toInt ∧ u4.toInt + 6 ≤ (L : Int)) (hL : L ≤ 3072) (h1 : n1 ≤ 601023) (h2 : n2 ≤ 7293028) (hlt : l.stackTraces = false) (hZ : kZ A s s.heap) (htsE : ∀ w ∈ wsE, w.before #[Value.ref b] s = true) (hx : XW g h0 xtpd tpf yhnf yhtn yhtf yhjn yhjf yhmn yhmf yhbn yhbf yhsn yhsf yhcn yhcf zrn zmn zwn zpn zmd ztr zrf zmf zwf zpf kac knx kim cf xw) (hm : MW g mo m_taped d_tape d_r d_st d_undone d_kept m_undos m_images m_hasHouse mw) (hR : LR xtpd tpf yhnf yhtn yhtf yhjn yhjf yhmn yhmf yhbn yhbf yhsn yhsf yhcn yhcf zrn zmn zwn zpn zmd ztr zrf zmf zwf zpf kac knx kim cf m_taped d_tape d_r d_st d_undone d_kept m_undos m_images m_hasHouse) (kk : ∀ (xtpd_2 : Int32) (tpf_2 : Nat → Int32) (yhnf_2 : Nat → Int32) (yhtn_2 : Int32) (yhtf_2 : Nat → Int32) (yhjn_2 : Int32) (yhjf_2 : Nat → Int32) (yhmn_2 : Int32) (yhmf_2 : Nat → Int32) (yhbn_2 : Int32) (yhbf_2 : Nat → Int32) (yhsn_2 : Int32) (yhsf_2 : Nat → Int32) (yhcn_2 : Int32) (yhcf_2 : Nat → Int32) (zrn_2 : Int32) (zmn_2 : Int32) (zwn_2 : Int32) (zpn_2 : Int32) (zmd_2 : Int32) (ztr_2 : Int32) (zrf_2 : Nat → Int32) (zmf_2 : Nat → Int32) (zwf_2 : Nat → Int32) (zpf_2 : Nat → Int32) (kac_2 : Int32) (knx_2 : Int32) (kim_2 : Int32) (cf_2 : Nat → SC) (m_taped_2 : Int32) (d_tape_2 : Nat → Int32) (d_r_2 : Nat → Int32) (d_st_2 : Nat → Int32) (d_undone_2 : Nat → Int32) (d_kept_2 : Nat → Int32) (m_undos_2 : Int32) (m_images_2 : Int32) (m_hasHouse_2 : Int32) (xw2 mw2 : va_W), XW g h0 xtpd_2 tpf_2 yhnf_2 yhtn_2 yhtf_2 yhjn_2 yhjf_2 yhmn_2 yhmf_2 yhbn_2 yhbf_2 yhsn_2 yhsf_2 yhcn_2 yhcf_2 zrn_2 zmn_2 zwn_2 zpn_2 zmd_2 ztr_2 zrf_2 zmf_2 zwf_2 zpf_2 kac_2 knx_2 kim_2 cf_2 xw2 → MW g mo m_taped_2 d_tape_2 d_r_2 d_st_2 d_undone_2 d_kept_2 m_undos_2 m_images_2 m_hasHouse_2 mw2 → LR xtpd_2 tpf_2 yhnf_2 yhtn_2 yhtf_2 yhjn_2 yhjf_2 yhmn_2 yhmf_2 yhbn_2 yhbf_2 yhsn_2 yhsf_2 yhcn_2 yhcf_2 zrn_2 zmn_2 zwn_2 zpn_2 zmd_2 ztr_2 zrf_2 zmf_2 zwf_2 zpf_2 kac_2 knx_2 kim_2 cf_2 m_taped_2 d_tape_2 d_r_2 d_st_2 d_undone_2 d_kept_2 m_undos_2 m_images_2 m_hasHouse_2 → Wk p l e room_1 s m #[Value.ref b] below meth c (lw_Z below #[Value.ref b] s) A g 7 n1 n2 (xw2 ++ (mw2 ++ [(cAJ g lo 1 fo)])) [(4, .int u4), (3, .ref lo), (2, .ref mo), (1, .ref h0), (0, .ref b)] 2062 []) : Wk p l e room_1 s m #[Value.ref b] below meth c (lw_Z below #[Value.ref b] s) A g 7 n1 n2 (xw ++ (mw ++ [(cAJ g lo 1 fo)])) [(4, .int u4), (3, .ref lo), (2, .ref mo), (1, .ref h0), (0, .ref b)] 2049 [] := by
  have hiv : IV u4 0 3066 := ⟨hi.1, by omega⟩
  refine k_aload_n X dL_law_2049 3 rfl ?_
  refine lx_trouble (st := []) () X hx dL_law_2050 mw1574 (Nat.le_of_ble_eq_true rfl) (Nat.le_of_ble_eq_true rfl) (Nat.le_of_ble_eq_true rfl) (Nat.le_trans h1 (Nat.le_of_ble_eq_true rfl)) (Nat.le_trans h2 (Nat.le_of_ble_eq_true rfl)) (fun r_1 xw_2 hx_3 => ?_)
  refine k_pop X dL_law_2053 rfl ?_
  refine k_aload_n X dL_law_2054 2 rfl ?_
  refine lm_trouble (st := []) () X hm dL_law_2055 mw1578 (Nat.le_of_ble_eq_true rfl) (Nat.le_of_ble_eq_true rfl) (Nat.le_of_ble_eq_true rfl) (Nat.le_trans h1 (Nat.le_of_ble_eq_true rfl)) (Nat.le_trans h2 (Nat.le_of_ble_eq_true rfl)) (fun r_4 mw_5 hm_6 => ?_)
  refine k_pop X dL_law_2058 rfl ?_
  refine k_goto 2062 X dL_law_2059 (by decide) ?_
  exact kk _ _ _ _ _ _ _ _ _ _ _ _ _ _ _ _ _ _ _ _ _ _ _ _ _ _ _ _ _ _ _ _ _ _ _ _ _ _ _ _ hx_3 hm_6 hR
