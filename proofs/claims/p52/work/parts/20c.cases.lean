theorem dL_law_1168 : decode cL_law 1168 = .ok (.aload_n 1, 1) := dk_43 (kat_18 16 rfl)
theorem dL_law_1169 : decode cL_law 1169 = .ok (.aload_n 0, 1) := dk_42 (kat_18 17 rfl)
theorem dL_law_1170 : decode cL_law 1170 = .ok (.iload 4, 2) := dk_21 (kat_18 18 rfl) (kat_18 19 rfl) rfl
theorem dL_law_1172 : decode cL_law 1172 = .ok (.iconst 1, 1) := dk_4 (kat_18 20 rfl)
theorem dL_law_1173 : decode cL_law 1173 = .ok (.iadd, 1) := dk_96 (kat_18 21 rfl)
theorem dL_law_1174 : decode cL_law 1174 = .ok (.iaload, 1) := dk_46 (kat_18 22 rfl)
theorem dL_law_1175 : decode cL_law 1175 = .ok (.invokevirtual 134, 3) := dk_182 (kat_18 23 rfl) (kat_18 24 rfl) (kat_18 25 rfl) rfl
theorem dL_law_1178 : decode cL_law 1178 = .ok (.pop, 1) := dk_87 (kat_18 26 rfl)
theorem dL_law_1179 : decode cL_law 1179 = .ok (.aload_n 2, 1) := dk_44 (kat_18 27 rfl)
theorem dL_law_1180 : decode cL_law 1180 = .ok (.aload_n 0, 1) := dk_42 (kat_18 28 rfl)
theorem dL_law_1181 : decode cL_law 1181 = .ok (.iload 4, 2) := dk_21 (kat_18 29 rfl) (kat_18 30 rfl) rfl
theorem dL_law_1183 : decode cL_law 1183 = .ok (.iconst 1, 1) := dk_4 (kat_18 31 rfl)
theorem dL_law_1184 : decode cL_law 1184 = .ok (.iadd, 1) := dk_96 (kat_18 32 rfl)
theorem dL_law_1185 : decode cL_law 1185 = .ok (.iaload, 1) := dk_46 (kat_18 33 rfl)
theorem dL_law_1186 : decode cL_law 1186 = .ok (.invokevirtual 137, 3) := dk_182 (kat_18 34 rfl) (kat_18 35 rfl) (kat_18 36 rfl) rfl
theorem dL_law_1189 : decode cL_law 1189 = .ok (.pop, 1) := dk_87 (kat_18 37 rfl)
theorem dL_law_1190 : decode cL_law 1190 = .ok (.goto 872, 3) := dk_167 (kat_18 38 rfl) (kat_18 39 rfl) (kat_18 40 rfl) (by decide)
set_option maxHeartbeats 4000000 in
set_option maxRecDepth 100000 in
theorem law_c28 {p : Program} {l : Launch} {e : Env} {s : State} {m : MethodId} {below : List Frame} {meth : Method} {c : Code} {A : Nat → Prop} {g : Gx} {b L : Nat} {xs : Nat → Int32} {h0 mo lo n1 n2 : Nat} {fo : Nat → Int64} {u4 : Int32} {xtpd : Int32} {tpf : Nat → Int32} {yhnf : Nat → Int32} {yhtn : Int32} {yhtf : Nat → Int32} {yhjn : Int32} {yhjf : Nat → Int32} {yhmn : Int32} {yhmf : Nat → Int32} {yhbn : Int32} {yhbf : Nat → Int32} {yhsn : Int32} {yhsf : Nat → Int32} {yhcn : Int32} {yhcf : Nat → Int32} {zrn : Int32} {zmn : Int32} {zwn : Int32} {zpn : Int32} {zmd : Int32} {ztr : Int32} {zrf : Nat → Int32} {zmf : Nat → Int32} {zwf : Nat → Int32} {zpf : Nat → Int32} {kac : Int32} {knx : Int32} {kim : Int32} {cf : Nat → SC} {m_taped : Int32} {d_tape : Nat → Int32} {d_r : Nat → Int32} {d_st : Nat → Int32} {d_undone : Nat → Int32} {d_kept : Nat → Int32} {m_undos : Int32} {m_images : Int32} {m_hasHouse : Int32} {xw mw : va_W} (X : Cx p s m meth c #[Value.ref b] cL_law 7 RL A g) (hX : va_X b L xs s s.heap) (hbl : b < s.heap.size) (hbA : ¬ A b) (hi : 0 ≤ u4.toInt ∧ u4.toInt + 6 ≤ (L : Int)) (hL : L ≤ 3072) (h1 : n1 ≤ 601023) (h2 : n2 ≤ 7293028) (hlt : l.stackTraces = false) (hZ : kZ A s s.heap) (htsE : ∀ w ∈ wsE, w.before #[Value.ref b] s = true) (hx : XW g h0 xtpd tpf yhnf yhtn yhtf yhjn yhjf yhmn yhmf yhbn yhbf yhsn yhsf yhcn yhcf zrn zmn zwn zpn zmd ztr zrf zmf zwf zpf kac knx kim cf xw) (hm : MW g mo m_taped d_tape d_r d_st d_undone d_kept m_undos m_images m_hasHouse mw) (hR : LR xtpd tpf yhnf yhtn yhtf yhjn yhjf yhmn yhmf yhbn yhbf yhsn yhsf yhcn yhcf zrn zmn zwn zpn zmd ztr zrf zmf zwf zpf kac knx kim cf m_taped d_tape d_r d_st d_undone d_kept m_undos m_images m_hasHouse) (kk : ∀ (xtpd_2 : Int32) (tpf_2 : Nat → Int32) (yhnf_2 : Nat → Int32) (yhtn_2 : Int32) (yhtf_2 : Nat → Int32) (yhjn_2 : Int32) (yhjf_2 : Nat → Int32) (yhmn_2 : Int32) (yhmf_2 : Nat → Int32) (yhbn_2 : Int32) (yhbf_2 : Nat → Int32) (yhsn_2 : Int32) (yhsf_2 : Nat → Int32) (yhcn_2 : Int32) (yhcf_2 : Nat → Int32) (zrn_2 : Int32) (zmn_2 : Int32) (zwn_2 : Int32) (zpn_2 : Int32) (zmd_2 : Int32) (ztr_2 : Int32) (zrf_2 : Nat → Int32) (zmf_2 : Nat → Int32) (zwf_2 : Nat → Int32) (zpf_2 : Nat → Int32) (kac_2 : Int32) (knx_2 : Int32) (kim_2 : Int32) (cf_2 : Nat → SC) (m_taped_2 : Int32) (d_tape_2 : Nat → Int32) (d_r_2 : Nat → Int32) (d_st_2 : Nat → Int32) (d_undone_2 : Nat → Int32) (d_kept_2 : Nat → Int32) (m_undos_2 : Int32) (m_images_2 : Int32) (m_hasHouse_2 : Int32) (xw2 mw2 : va_W), XW g h0 xtpd_2 tpf_2 yhnf_2 yhtn_2 yhtf_2 yhjn_2 yhjf_2 yhmn_2 yhmf_2 yhbn_2 yhbf_2 yhsn_2 yhsf_2 yhcn_2 yhcf_2 zrn_2 zmn_2 zwn_2 zpn_2 zmd_2 ztr_2 zrf_2 zmf_2 zwf_2 zpf_2 kac_2 knx_2 kim_2 cf_2 xw2 → MW g mo m_taped_2 d_tape_2 d_r_2 d_st_2 d_undone_2 d_kept_2 m_undos_2 m_images_2 m_hasHouse_2 mw2 → LR xtpd_2 tpf_2 yhnf_2 yhtn_2 yhtf_2 yhjn_2 yhjf_2 yhmn_2 yhmf_2 yhbn_2 yhbf_2 yhsn_2 yhsf_2 yhcn_2 yhcf_2 zrn_2 zmn_2 zwn_2 zpn_2 zmd_2 ztr_2 zrf_2 zmf_2 zwf_2 zpf_2 kac_2 knx_2 kim_2 cf_2 m_taped_2 d_tape_2 d_r_2 d_st_2 d_undone_2 d_kept_2 m_undos_2 m_images_2 m_hasHouse_2 → Wk p l e room_1 s m #[Value.ref b] below meth c (lw_Z below #[Value.ref b] s) A g 7 n1 n2 (xw2 ++ (mw2 ++ [(cAJ g lo 1 fo)])) [(4, .int u4), (3, .ref lo), (2, .ref mo), (1, .ref h0), (0, .ref b)] 2062 []) : Wk p l e room_1 s m #[Value.ref b] below meth c (lw_Z below #[Value.ref b] s) A g 7 n1 n2 (xw ++ (mw ++ [(cAJ g lo 1 fo)])) [(4, .int u4), (3, .ref lo), (2, .ref mo), (1, .ref h0), (0, .ref b)] 1168 [] := by
  have hiv : IV u4 0 3066 := ⟨hi.1, by omega⟩
  refine k_aload_n X dL_law_1168 3 rfl ?_
  refine k_aload_n X dL_law_1169 4 rfl ?_
  refine k_iload X dL_law_1170 0 rfl ?_
  refine k_iconst (v := 1) X dL_law_1172 (by decide) ?_
  refine k_iadd X dL_law_1173 ?_
  refine k_nm (fun z_1 ez_1 => ?_)
  have i_2 : z_1.toInt = u4.toInt + 1 := in_add ez_1 hiv (show IV 1 1 1 from (by decide)) (by decide) (by decide)
  have iv_3 : IV z_1 1 3067 := by have := hiv; have := (show IV 1 1 1 from (by decide)); rw [IV, i_2]; omega
  refine k_sld X hX hbl hbA dL_law_1174 (by rw [vp_in_iff]; have := iv_3; omega) ?_
  refine k_nm (fun a_4 ea_4 => ?_)
  refine lx_never (st := []) a_4 X hx dL_law_1175 mw1089 (Nat.le_of_ble_eq_true rfl) (Nat.le_of_ble_eq_true rfl) (Nat.le_of_ble_eq_true rfl) (Nat.le_trans h1 (Nat.le_of_ble_eq_true rfl)) (Nat.le_trans h2 (Nat.le_of_ble_eq_true rfl)) (fun r_5 xw_6 hx_7 => ?_)
  refine k_pop X dL_law_1178 rfl ?_
  refine k_aload_n X dL_law_1179 2 rfl ?_
  refine k_aload_n X dL_law_1180 4 rfl ?_
  refine k_iload X dL_law_1181 0 rfl ?_
  refine k_iconst (v := 1) X dL_law_1183 (by decide) ?_
  refine k_iadd X dL_law_1184 ?_
  refine k_to z_1 ez_1.symm ?_
  refine k_sld X hX hbl hbA dL_law_1185 (by rw [vp_in_iff]; have := iv_3; omega) ?_
  refine k_to a_4 ea_4.symm ?_
  refine lm_never (st := []) a_4 X hm dL_law_1186 mw1106 (Nat.le_of_ble_eq_true rfl) (Nat.le_of_ble_eq_true rfl) (Nat.le_of_ble_eq_true rfl) (Nat.le_trans h1 (Nat.le_of_ble_eq_true rfl)) (Nat.le_trans h2 (Nat.le_of_ble_eq_true rfl)) (fun r_8 mw_9 hm_10 => ?_)
  refine k_pop X dL_law_1189 rfl ?_
  refine k_goto 2062 X dL_law_1190 (by decide) ?_
  exact kk _ _ _ _ _ _ _ _ _ _ _ _ _ _ _ _ _ _ _ _ _ _ _ _ _ _ _ _ _ _ _ _ _ _ _ _ _ _ _ _ hx_7 hm_10 hR

theorem dL_law_1193 : decode cL_law 1193 = .ok (.aload_n 1, 1) := dk_43 (kat_18 41 rfl)
theorem dL_law_1194 : decode cL_law 1194 = .ok (.aload_n 0, 1) := dk_42 (kat_18 42 rfl)
theorem dL_law_1195 : decode cL_law 1195 = .ok (.iload 4, 2) := dk_21 (kat_18 43 rfl) (kat_18 44 rfl) rfl
theorem dL_law_1197 : decode cL_law 1197 = .ok (.iconst 1, 1) := dk_4 (kat_18 45 rfl)
theorem dL_law_1198 : decode cL_law 1198 = .ok (.iadd, 1) := dk_96 (kat_18 46 rfl)
theorem dL_law_1199 : decode cL_law 1199 = .ok (.iaload, 1) := dk_46 (kat_18 47 rfl)
theorem dL_law_1200 : decode cL_law 1200 = .ok (.aload_n 0, 1) := dk_42 (kat_18 48 rfl)
theorem dL_law_1201 : decode cL_law 1201 = .ok (.iload 4, 2) := dk_21 (kat_18 49 rfl) (kat_18 50 rfl) rfl
theorem dL_law_1203 : decode cL_law 1203 = .ok (.iconst 2, 1) := dk_5 (kat_18 51 rfl)
theorem dL_law_1204 : decode cL_law 1204 = .ok (.iadd, 1) := dk_96 (kat_18 52 rfl)
theorem dL_law_1205 : decode cL_law 1205 = .ok (.iaload, 1) := dk_46 (kat_18 53 rfl)
theorem dL_law_1206 : decode cL_law 1206 = .ok (.aload_n 0, 1) := dk_42 (kat_18 54 rfl)
theorem dL_law_1207 : decode cL_law 1207 = .ok (.iload 4, 2) := dk_21 (kat_18 55 rfl) (kat_18 56 rfl) rfl
theorem dL_law_1209 : decode cL_law 1209 = .ok (.iconst 3, 1) := dk_6 (kat_18 57 rfl)
theorem dL_law_1210 : decode cL_law 1210 = .ok (.iadd, 1) := dk_96 (kat_18 58 rfl)
theorem dL_law_1211 : decode cL_law 1211 = .ok (.iaload, 1) := dk_46 (kat_18 59 rfl)
theorem dL_law_1212 : decode cL_law 1212 = .ok (.ifCond .eq 7, 3) := by decide +kernel
theorem dL_law_1215 : decode cL_law 1215 = .ok (.iconst 1, 1) := dk_4 (kat_18 63 rfl)
theorem dL_law_1216 : decode cL_law 1216 = .ok (.goto 4, 3) := dk_167 (kat_19 0 rfl) (kat_19 1 rfl) (kat_19 2 rfl) (by decide)
theorem dL_law_1219 : decode cL_law 1219 = .ok (.iconst 0, 1) := dk_3 (kat_19 3 rfl)
theorem dL_law_1220 : decode cL_law 1220 = .ok (.invokevirtual 138, 3) := dk_182 (kat_19 4 rfl) (kat_19 5 rfl) (kat_19 6 rfl) rfl
theorem dL_law_1223 : decode cL_law 1223 = .ok (.pop2, 1) := dk_88 (kat_19 7 rfl)
theorem dL_law_1224 : decode cL_law 1224 = .ok (.aload_n 2, 1) := dk_44 (kat_19 8 rfl)
theorem dL_law_1225 : decode cL_law 1225 = .ok (.aload_n 0, 1) := dk_42 (kat_19 9 rfl)
theorem dL_law_1226 : decode cL_law 1226 = .ok (.iload 4, 2) := dk_21 (kat_19 10 rfl) (kat_19 11 rfl) rfl
theorem dL_law_1228 : decode cL_law 1228 = .ok (.iconst 1, 1) := dk_4 (kat_19 12 rfl)
theorem dL_law_1229 : decode cL_law 1229 = .ok (.iadd, 1) := dk_96 (kat_19 13 rfl)
theorem dL_law_1230 : decode cL_law 1230 = .ok (.iaload, 1) := dk_46 (kat_19 14 rfl)
theorem dL_law_1231 : decode cL_law 1231 = .ok (.aload_n 0, 1) := dk_42 (kat_19 15 rfl)
theorem dL_law_1232 : decode cL_law 1232 = .ok (.iload 4, 2) := dk_21 (kat_19 16 rfl) (kat_19 17 rfl) rfl
theorem dL_law_1234 : decode cL_law 1234 = .ok (.iconst 2, 1) := dk_5 (kat_19 18 rfl)
theorem dL_law_1235 : decode cL_law 1235 = .ok (.iadd, 1) := dk_96 (kat_19 19 rfl)
theorem dL_law_1236 : decode cL_law 1236 = .ok (.iaload, 1) := dk_46 (kat_19 20 rfl)
theorem dL_law_1237 : decode cL_law 1237 = .ok (.aload_n 0, 1) := dk_42 (kat_19 21 rfl)
theorem dL_law_1238 : decode cL_law 1238 = .ok (.iload 4, 2) := dk_21 (kat_19 22 rfl) (kat_19 23 rfl) rfl
theorem dL_law_1240 : decode cL_law 1240 = .ok (.iconst 3, 1) := dk_6 (kat_19 24 rfl)
theorem dL_law_1241 : decode cL_law 1241 = .ok (.iadd, 1) := dk_96 (kat_19 25 rfl)
theorem dL_law_1242 : decode cL_law 1242 = .ok (.iaload, 1) := dk_46 (kat_19 26 rfl)
theorem dL_law_1243 : decode cL_law 1243 = .ok (.ifCond .eq 7, 3) := by decide +kernel
theorem dL_law_1246 : decode cL_law 1246 = .ok (.iconst 1, 1) := dk_4 (kat_19 30 rfl)
theorem dL_law_1247 : decode cL_law 1247 = .ok (.goto 4, 3) := dk_167 (kat_19 31 rfl) (kat_19 32 rfl) (kat_19 33 rfl) (by decide)
theorem dL_law_1250 : decode cL_law 1250 = .ok (.iconst 0, 1) := dk_3 (kat_19 34 rfl)
theorem dL_law_1251 : decode cL_law 1251 = .ok (.invokevirtual 142, 3) := dk_182 (kat_19 35 rfl) (kat_19 36 rfl) (kat_19 37 rfl) rfl
theorem dL_law_1254 : decode cL_law 1254 = .ok (.pop2, 1) := dk_88 (kat_19 38 rfl)
theorem dL_law_1255 : decode cL_law 1255 = .ok (.goto 807, 3) := dk_167 (kat_19 39 rfl) (kat_19 40 rfl) (kat_19 41 rfl) (by decide)
set_option maxHeartbeats 4000000 in
set_option maxRecDepth 100000 in
theorem law_c29 {p : Program} {l : Launch} {e : Env} {s : State} {m : MethodId} {below : List Frame} {meth : Method} {c : Code} {A : Nat → Prop} {g : Gx} {b L : Nat} {xs : Nat → Int32} {h0 mo lo n1 n2 : Nat} {fo : Nat → Int64} {u4 : Int32} {xtpd : Int32} {tpf : Nat → Int32} {yhnf : Nat → Int32} {yhtn : Int32} {yhtf : Nat → Int32} {yhjn : Int32} {yhjf : Nat → Int32} {yhmn : Int32} {yhmf : Nat → Int32} {yhbn : Int32} {yhbf : Nat → Int32} {yhsn : Int32} {yhsf : Nat → Int32} {yhcn : Int32} {yhcf : Nat → Int32} {zrn : Int32} {zmn : Int32} {zwn : Int32} {zpn : Int32} {zmd : Int32} {ztr : Int32} {zrf : Nat → Int32} {zmf : Nat → Int32} {zwf : Nat → Int32} {zpf : Nat → Int32} {kac : Int32} {knx : Int32} {kim : Int32} {cf : Nat → SC} {m_taped : Int32} {d_tape : Nat → Int32} {d_r : Nat → Int32} {d_st : Nat → Int32} {d_undone : Nat → Int32} {d_kept : Nat → Int32} {m_undos : Int32} {m_images : Int32} {m_hasHouse : Int32} {xw mw : va_W} (X : Cx p s m meth c #[Value.ref b] cL_law 7 RL A g) (hX : va_X b L xs s s.heap) (hbl : b < s.heap.size) (hbA : ¬ A b) (hi : 0 ≤ u4.toInt ∧ u4.toInt + 6 ≤ (L : Int)) (hL : L ≤ 3072) (h1 : n1 ≤ 601023) (h2 : n2 ≤ 7293028) (hlt : l.stackTraces = false) (hZ : kZ A s s.heap) (htsE : ∀ w ∈ wsE, w.before #[Value.ref b] s = true) (hx : XW g h0 xtpd tpf yhnf yhtn yhtf yhjn yhjf yhmn yhmf yhbn yhbf yhsn yhsf yhcn yhcf zrn zmn zwn zpn zmd ztr zrf zmf zwf zpf kac knx kim cf xw) (hm : MW g mo m_taped d_tape d_r d_st d_undone d_kept m_undos m_images m_hasHouse mw) (hR : LR xtpd tpf yhnf yhtn yhtf yhjn yhjf yhmn yhmf yhbn yhbf yhsn yhsf yhcn yhcf zrn zmn zwn zpn zmd ztr zrf zmf zwf zpf kac knx kim cf m_taped d_tape d_r d_st d_undone d_kept m_undos m_images m_hasHouse) (kk : ∀ (xtpd_2 : Int32) (tpf_2 : Nat → Int32) (yhnf_2 : Nat → Int32) (yhtn_2 : Int32) (yhtf_2 : Nat → Int32) (yhjn_2 : Int32) (yhjf_2 : Nat → Int32) (yhmn_2 : Int32) (yhmf_2 : Nat → Int32) (yhbn_2 : Int32) (yhbf_2 : Nat → Int32) (yhsn_2 : Int32) (yhsf_2 : Nat → Int32) (yhcn_2 : Int32) (yhcf_2 : Nat → Int32) (zrn_2 : Int32) (zmn_2 : Int32) (zwn_2 : Int32) (zpn_2 : Int32) (zmd_2 : Int32) (ztr_2 : Int32) (zrf_2 : Nat → Int32) (zmf_2 : Nat → Int32) (zwf_2 : Nat → Int32) (zpf_2 : Nat → Int32) (kac_2 : Int32) (knx_2 : Int32) (kim_2 : Int32) (cf_2 : Nat → SC) (m_taped_2 : Int32) (d_tape_2 : Nat → Int32) (d_r_2 : Nat → Int32) (d_st_2 : Nat → Int32) (d_undone_2 : Nat → Int32) (d_kept_2 : Nat → Int32) (m_undos_2 : Int32) (m_images_2 : Int32) (m_hasHouse_2 : Int32) (xw2 mw2 : va_W), XW g h0 xtpd_2 tpf_2 yhnf_2 yhtn_2 yhtf_2 yhjn_2 yhjf_2 yhmn_2 yhmf_2 yhbn_2 yhbf_2 yhsn_2 yhsf_2 yhcn_2 yhcf_2 zrn_2 zmn_2 zwn_2 zpn_2 zmd_2 ztr_2 zrf_2 zmf_2 zwf_2 zpf_2 kac_2 knx_2 kim_2 cf_2 xw2 → MW g mo m_taped_2 d_tape_2 d_r_2 d_st_2 d_undone_2 d_kept_2 m_undos_2 m_images_2 m_hasHouse_2 mw2 → LR xtpd_2 tpf_2 yhnf_2 yhtn_2 yhtf_2 yhjn_2 yhjf_2 yhmn_2 yhmf_2 yhbn_2 yhbf_2 yhsn_2 yhsf_2 yhcn_2 yhcf_2 zrn_2 zmn_2 zwn_2 zpn_2 zmd_2 ztr_2 zrf_2 zmf_2 zwf_2 zpf_2 kac_2 knx_2 kim_2 cf_2 m_taped_2 d_tape_2 d_r_2 d_st_2 d_undone_2 d_kept_2 m_undos_2 m_images_2 m_hasHouse_2 → Wk p l e room_1 s m #[Value.ref b] below meth c (lw_Z below #[Value.ref b] s) A g 7 n1 n2 (xw2 ++ (mw2 ++ [(cAJ g lo 1 fo)])) [(4, .int u4), (3, .ref lo), (2, .ref mo), (1, .ref h0), (0, .ref b)] 2062 []) : Wk p l e room_1 s m #[Value.ref b] below meth c (lw_Z below #[Value.ref b] s) A g 7 n1 n2 (xw ++ (mw ++ [(cAJ g lo 1 fo)])) [(4, .int u4), (3, .ref lo), (2, .ref mo), (1, .ref h0), (0, .ref b)] 1193 [] := by
  have hiv : IV u4 0 3066 := ⟨hi.1, by omega⟩
  refine k_aload_n X dL_law_1193 3 rfl ?_
  refine k_aload_n X dL_law_1194 4 rfl ?_
  refine k_iload X dL_law_1195 0 rfl ?_
  refine k_iconst (v := 1) X dL_law_1197 (by decide) ?_
  refine k_iadd X dL_law_1198 ?_
  refine k_nm (fun z_1 ez_1 => ?_)
  have i_2 : z_1.toInt = u4.toInt + 1 := in_add ez_1 hiv (show IV 1 1 1 from (by decide)) (by decide) (by decide)
  have iv_3 : IV z_1 1 3067 := by have := hiv; have := (show IV 1 1 1 from (by decide)); rw [IV, i_2]; omega
  refine k_sld X hX hbl hbA dL_law_1199 (by rw [vp_in_iff]; have := iv_3; omega) ?_
  refine k_nm (fun a_4 ea_4 => ?_)
  refine k_aload_n X dL_law_1200 4 rfl ?_
  refine k_iload X dL_law_1201 0 rfl ?_
  refine k_iconst (v := 2) X dL_law_1203 (by decide) ?_
  refine k_iadd X dL_law_1204 ?_
  refine k_nm (fun z_5 ez_5 => ?_)
  have i_6 : z_5.toInt = u4.toInt + 2 := in_add ez_5 hiv (show IV 2 2 2 from (by decide)) (by decide) (by decide)
  have iv_7 : IV z_5 2 3068 := by have := hiv; have := (show IV 2 2 2 from (by decide)); rw [IV, i_6]; omega
  refine k_sld X hX hbl hbA dL_law_1205 (by rw [vp_in_iff]; have := iv_7; omega) ?_
  refine k_nm (fun a_8 ea_8 => ?_)
  refine k_aload_n X dL_law_1206 4 rfl ?_
  refine k_iload X dL_law_1207 0 rfl ?_
  refine k_iconst (v := 3) X dL_law_1209 (by decide) ?_
  refine k_iadd X dL_law_1210 ?_
  refine k_nm (fun z_9 ez_9 => ?_)
  have i_10 : z_9.toInt = u4.toInt + 3 := in_add ez_9 hiv (show IV 3 3 3 from (by decide)) (by decide) (by decide)
  have iv_11 : IV z_9 3 3069 := by have := hiv; have := (show IV 3 3 3 from (by decide)); rw [IV, i_10]; omega
  refine k_sld X hX hbl hbA dL_law_1211 (by rw [vp_in_iff]; have := iv_11; omega) ?_
  refine k_nm (fun a_12 ea_12 => ?_)
  refine k_if_eq 1219 X dL_law_1212 (by decide) (fun h_13 => ?_) (fun h_13 => ?_)
  · skip
    have iv_14 : IV a_12 0 0 := iv_meet (iv_any a_12) (iv_e h_13 (show IV 0 0 0 from (by decide))) (by decide) (by decide)
    refine k_iconst (v := 0) X dL_law_1219 (by decide) ?_
    refine lx_truly (st := []) a_4 a_8 0 X hx dL_law_1220 mw1113 (Nat.le_of_ble_eq_true rfl) (Nat.le_of_ble_eq_true rfl) (Nat.le_of_ble_eq_true rfl) (Nat.le_trans h1 (Nat.le_of_ble_eq_true rfl)) (Nat.le_trans h2 (Nat.le_of_ble_eq_true rfl)) (fun r_15 xw_16 hx_17 => ?_)
    refine k_pop2 X dL_law_1223 rfl ?_
    refine k_aload_n X dL_law_1224 2 rfl ?_
    refine k_aload_n X dL_law_1225 4 rfl ?_
    refine k_iload X dL_law_1226 0 rfl ?_
    refine k_iconst (v := 1) X dL_law_1228 (by decide) ?_
    refine k_iadd X dL_law_1229 ?_
    refine k_to z_1 ez_1.symm ?_
    refine k_sld X hX hbl hbA dL_law_1230 (by rw [vp_in_iff]; have := iv_3; omega) ?_
    refine k_to a_4 ea_4.symm ?_
    refine k_aload_n X dL_law_1231 4 rfl ?_
    refine k_iload X dL_law_1232 0 rfl ?_
    refine k_iconst (v := 2) X dL_law_1234 (by decide) ?_
    refine k_iadd X dL_law_1235 ?_
    refine k_to z_5 ez_5.symm ?_
    refine k_sld X hX hbl hbA dL_law_1236 (by rw [vp_in_iff]; have := iv_7; omega) ?_
    refine k_to a_8 ea_8.symm ?_
    refine k_aload_n X dL_law_1237 4 rfl ?_
    refine k_iload X dL_law_1238 0 rfl ?_
    refine k_iconst (v := 3) X dL_law_1240 (by decide) ?_
    refine k_iadd X dL_law_1241 ?_
    refine k_to z_9 ez_9.symm ?_
    refine k_sld X hX hbl hbA dL_law_1242 (by rw [vp_in_iff]; have := iv_11; omega) ?_
    refine k_to a_12 ea_12.symm ?_
    refine k_if_eq 1250 X dL_law_1243 (by decide) (fun h_18 => ?_) (fun h_18 => absurd h_13 h_18)
    refine k_iconst (v := 0) X dL_law_1250 (by decide) ?_
    refine lm_truly (st := []) a_4 a_8 0 X hm dL_law_1251 mw1151 (Nat.le_of_ble_eq_true rfl) (Nat.le_of_ble_eq_true rfl) (Nat.le_of_ble_eq_true rfl) (Nat.le_trans h1 (Nat.le_of_ble_eq_true rfl)) (Nat.le_trans h2 (Nat.le_of_ble_eq_true rfl)) (fun r_19 mw_20 hm_21 => ?_)
    refine k_pop2 X dL_law_1254 rfl ?_
    refine k_goto 2062 X dL_law_1255 (by decide) ?_
    exact kk _ _ _ _ _ _ _ _ _ _ _ _ _ _ _ _ _ _ _ _ _ _ _ _ _ _ _ _ _ _ _ _ _ _ _ _ _ _ _ _ hx_17 hm_21 hR
  · skip
    refine k_iconst (v := 1) X dL_law_1215 (by decide) ?_
    refine k_goto 1220 X dL_law_1216 (by decide) ?_
    refine lx_truly (st := []) a_4 a_8 1 X hx dL_law_1220 mw1113 (Nat.le_of_ble_eq_true rfl) (Nat.le_of_ble_eq_true rfl) (Nat.le_of_ble_eq_true rfl) (Nat.le_trans h1 (Nat.le_of_ble_eq_true rfl)) (Nat.le_trans h2 (Nat.le_of_ble_eq_true rfl)) (fun r_22 xw_23 hx_24 => ?_)
    refine k_pop2 X dL_law_1223 rfl ?_
    refine k_aload_n X dL_law_1224 2 rfl ?_
    refine k_aload_n X dL_law_1225 4 rfl ?_
    refine k_iload X dL_law_1226 0 rfl ?_
    refine k_iconst (v := 1) X dL_law_1228 (by decide) ?_
    refine k_iadd X dL_law_1229 ?_
    refine k_to z_1 ez_1.symm ?_
    refine k_sld X hX hbl hbA dL_law_1230 (by rw [vp_in_iff]; have := iv_3; omega) ?_
    refine k_to a_4 ea_4.symm ?_
    refine k_aload_n X dL_law_1231 4 rfl ?_
    refine k_iload X dL_law_1232 0 rfl ?_
    refine k_iconst (v := 2) X dL_law_1234 (by decide) ?_
    refine k_iadd X dL_law_1235 ?_
    refine k_to z_5 ez_5.symm ?_
    refine k_sld X hX hbl hbA dL_law_1236 (by rw [vp_in_iff]; have := iv_7; omega) ?_
    refine k_to a_8 ea_8.symm ?_
    refine k_aload_n X dL_law_1237 4 rfl ?_
    refine k_iload X dL_law_1238 0 rfl ?_
    refine k_iconst (v := 3) X dL_law_1240 (by decide) ?_
    refine k_iadd X dL_law_1241 ?_
    refine k_to z_9 ez_9.symm ?_
    refine k_sld X hX hbl hbA dL_law_1242 (by rw [vp_in_iff]; have := iv_11; omega) ?_
    refine k_to a_12 ea_12.symm ?_
    refine k_if_eq 1250 X dL_law_1243 (by decide) (fun h_25 => absurd h_25 h_13) (fun h_25 => ?_)
    refine k_iconst (v := 1) X dL_law_1246 (by decide) ?_
    refine k_goto 1251 X dL_law_1247 (by decide) ?_
    refine lm_truly (st := []) a_4 a_8 1 X hm dL_law_1251 mw1151 (Nat.le_of_ble_eq_true rfl) (Nat.le_of_ble_eq_true rfl) (Nat.le_of_ble_eq_true rfl) (Nat.le_trans h1 (Nat.le_of_ble_eq_true rfl)) (Nat.le_trans h2 (Nat.le_of_ble_eq_true rfl)) (fun r_26 mw_27 hm_28 => ?_)
    refine k_pop2 X dL_law_1254 rfl ?_
    refine k_goto 2062 X dL_law_1255 (by decide) ?_
    exact kk _ _ _ _ _ _ _ _ _ _ _ _ _ _ _ _ _ _ _ _ _ _ _ _ _ _ _ _ _ _ _ _ _ _ _ _ _ _ _ _ hx_24 hm_28 hR

theorem dL_law_1258 : decode cL_law 1258 = .ok (.aload_n 1, 1) := dk_43 (kat_19 42 rfl)
theorem dL_law_1259 : decode cL_law 1259 = .ok (.aload_n 0, 1) := dk_42 (kat_19 43 rfl)
theorem dL_law_1260 : decode cL_law 1260 = .ok (.iload 4, 2) := dk_21 (kat_19 44 rfl) (kat_19 45 rfl) rfl
theorem dL_law_1262 : decode cL_law 1262 = .ok (.iconst 1, 1) := dk_4 (kat_19 46 rfl)
theorem dL_law_1263 : decode cL_law 1263 = .ok (.iadd, 1) := dk_96 (kat_19 47 rfl)
theorem dL_law_1264 : decode cL_law 1264 = .ok (.iaload, 1) := dk_46 (kat_19 48 rfl)
theorem dL_law_1265 : decode cL_law 1265 = .ok (.invokevirtual 143, 3) := dk_182 (kat_19 49 rfl) (kat_19 50 rfl) (kat_19 51 rfl) rfl
theorem dL_law_1268 : decode cL_law 1268 = .ok (.pop, 1) := dk_87 (kat_19 52 rfl)
theorem dL_law_1269 : decode cL_law 1269 = .ok (.aload_n 2, 1) := dk_44 (kat_19 53 rfl)
theorem dL_law_1270 : decode cL_law 1270 = .ok (.aload_n 0, 1) := dk_42 (kat_19 54 rfl)
theorem dL_law_1271 : decode cL_law 1271 = .ok (.iload 4, 2) := dk_21 (kat_19 55 rfl) (kat_19 56 rfl) rfl
theorem dL_law_1273 : decode cL_law 1273 = .ok (.iconst 1, 1) := dk_4 (kat_19 57 rfl)
theorem dL_law_1274 : decode cL_law 1274 = .ok (.iadd, 1) := dk_96 (kat_19 58 rfl)
theorem dL_law_1275 : decode cL_law 1275 = .ok (.iaload, 1) := dk_46 (kat_19 59 rfl)
theorem dL_law_1276 : decode cL_law 1276 = .ok (.invokevirtual 146, 3) := dk_182 (kat_19 60 rfl) (kat_19 61 rfl) (kat_19 62 rfl) rfl
theorem dL_law_1279 : decode cL_law 1279 = .ok (.pop, 1) := dk_87 (kat_19 63 rfl)
theorem dL_law_1280 : decode cL_law 1280 = .ok (.goto 782, 3) := dk_167 (kat_20 0 rfl) (kat_20 1 rfl) (kat_20 2 rfl) (by decide)
set_option maxHeartbeats 4000000 in
set_option maxRecDepth 100000 in
theorem law_c30 {p : Program} {l : Launch} {e : Env} {s : State} {m : MethodId} {below : List Frame} {meth : Method} {c : Code} {A : Nat → Prop} {g : Gx} {b L : Nat} {xs : Nat → Int32} {h0 mo lo n1 n2 : Nat} {fo : Nat → Int64} {u4 : Int32} {xtpd : Int32} {tpf : Nat → Int32} {yhnf : Nat → Int32} {yhtn : Int32} {yhtf : Nat → Int32} {yhjn : Int32} {yhjf : Nat → Int32} {yhmn : Int32} {yhmf : Nat → Int32} {yhbn : Int32} {yhbf : Nat → Int32} {yhsn : Int32} {yhsf : Nat → Int32} {yhcn : Int32} {yhcf : Nat → Int32} {zrn : Int32} {zmn : Int32} {zwn : Int32} {zpn : Int32} {zmd : Int32} {ztr : Int32} {zrf : Nat → Int32} {zmf : Nat → Int32} {zwf : Nat → Int32} {zpf : Nat → Int32} {kac : Int32} {knx : Int32} {kim : Int32} {cf : Nat → SC} {m_taped : Int32} {d_tape : Nat → Int32} {d_r : Nat → Int32} {d_st : Nat → Int32} {d_undone : Nat → Int32} {d_kept : Nat → Int32} {m_undos : Int32} {m_images : Int32} {m_hasHouse : Int32} {xw mw : va_W} (X : Cx p s m meth c #[Value.ref b] cL_law 7 RL A g) (hX : va_X b L xs s s.heap) (hbl : b < s.heap.size) (hbA : ¬ A b) (hi : 0 ≤ u4.toInt ∧ u4.toInt + 6 ≤ (L : Int)) (hL : L ≤ 3072) (h1 : n1 ≤ 601023) (h2 : n2 ≤ 7293028) (hlt : l.stackTraces = false) (hZ : kZ A s s.heap) (htsE : ∀ w ∈ wsE, w.before #[Value.ref b] s = true) (hx : XW g h0 xtpd tpf yhnf yhtn yhtf yhjn yhjf yhmn yhmf yhbn yhbf yhsn yhsf yhcn yhcf zrn zmn zwn zpn zmd ztr zrf zmf zwf zpf kac knx kim cf xw) (hm : MW g mo m_taped d_tape d_r d_st d_undone d_kept m_undos m_images m_hasHouse mw) (hR : LR xtpd tpf yhnf yhtn yhtf yhjn yhjf yhmn yhmf yhbn yhbf yhsn yhsf yhcn yhcf zrn zmn zwn zpn zmd ztr zrf zmf zwf zpf kac knx kim cf m_taped d_tape d_r d_st d_undone d_kept m_undos m_images m_hasHouse) (kk : ∀ (xtpd_2 : Int32) (tpf_2 : Nat → Int32) (yhnf_2 : Nat → Int32) (yhtn_2 : Int32) (yhtf_2 : Nat → Int32) (yhjn_2 : Int32) (yhjf_2 : Nat → Int32) (yhmn_2 : Int32) (yhmf_2 : Nat → Int32) (yhbn_2 : Int32) (yhbf_2 : Nat → Int32) (yhsn_2 : Int32) (yhsf_2 : Nat → Int32) (yhcn_2 : Int32) (yhcf_2 : Nat → Int32) (zrn_2 : Int32) (zmn_2 : Int32) (zwn_2 : Int32) (zpn_2 : Int32) (zmd_2 : Int32) (ztr_2 : Int32) (zrf_2 : Nat → Int32) (zmf_2 : Nat → Int32) (zwf_2 : Nat → Int32) (zpf_2 : Nat → Int32) (kac_2 : Int32) (knx_2 : Int32) (kim_2 : Int32) (cf_2 : Nat → SC) (m_taped_2 : Int32) (d_tape_2 : Nat → Int32) (d_r_2 : Nat → Int32) (d_st_2 : Nat → Int32) (d_undone_2 : Nat → Int32) (d_kept_2 : Nat → Int32) (m_undos_2 : Int32) (m_images_2 : Int32) (m_hasHouse_2 : Int32) (xw2 mw2 : va_W), XW g h0 xtpd_2 tpf_2 yhnf_2 yhtn_2 yhtf_2 yhjn_2 yhjf_2 yhmn_2 yhmf_2 yhbn_2 yhbf_2 yhsn_2 yhsf_2 yhcn_2 yhcf_2 zrn_2 zmn_2 zwn_2 zpn_2 zmd_2 ztr_2 zrf_2 zmf_2 zwf_2 zpf_2 kac_2 knx_2 kim_2 cf_2 xw2 → MW g mo m_taped_2 d_tape_2 d_r_2 d_st_2 d_undone_2 d_kept_2 m_undos_2 m_images_2 m_hasHouse_2 mw2 → LR xtpd_2 tpf_2 yhnf_2 yhtn_2 yhtf_2 yhjn_2 yhjf_2 yhmn_2 yhmf_2 yhbn_2 yhbf_2 yhsn_2 yhsf_2 yhcn_2 yhcf_2 zrn_2 zmn_2 zwn_2 zpn_2 zmd_2 ztr_2 zrf_2 zmf_2 zwf_2 zpf_2 kac_2 knx_2 kim_2 cf_2 m_taped_2 d_tape_2 d_r_2 d_st_2 d_undone_2 d_kept_2 m_undos_2 m_images_2 m_hasHouse_2 → Wk p l e room_1 s m #[Value.ref b] below meth c (lw_Z below #[Value.ref b] s) A g 7 n1 n2 (xw2 ++ (mw2 ++ [(cAJ g lo 1 fo)])) [(4, .int u4), (3, .ref lo), (2, .ref mo), (1, .ref h0), (0, .ref b)] 2062 []) : Wk p l e room_1 s m #[Value.ref b] below meth c (lw_Z below #[Value.ref b] s) A g 7 n1 n2 (xw ++ (mw ++ [(cAJ g lo 1 fo)])) [(4, .int u4), (3, .ref lo), (2, .ref mo), (1, .ref h0), (0, .ref b)] 1258 [] := by
  have hiv : IV u4 0 3066 := ⟨hi.1, by omega⟩
  refine k_aload_n X dL_law_1258 3 rfl ?_
  refine k_aload_n X dL_law_1259 4 rfl ?_
  refine k_iload X dL_law_1260 0 rfl ?_
  refine k_iconst (v := 1) X dL_law_1262 (by decide) ?_
  refine k_iadd X dL_law_1263 ?_
  refine k_nm (fun z_1 ez_1 => ?_)
  have i_2 : z_1.toInt = u4.toInt + 1 := in_add ez_1 hiv (show IV 1 1 1 from (by decide)) (by decide) (by decide)
  have iv_3 : IV z_1 1 3067 := by have := hiv; have := (show IV 1 1 1 from (by decide)); rw [IV, i_2]; omega
  refine k_sld X hX hbl hbA dL_law_1264 (by rw [vp_in_iff]; have := iv_3; omega) ?_
  refine k_nm (fun a_4 ea_4 => ?_)
  refine lx_likeliest (st := []) a_4 X hx dL_law_1265 mw1170 (Nat.le_of_ble_eq_true rfl) (Nat.le_of_ble_eq_true rfl) (Nat.le_of_ble_eq_true rfl) (Nat.le_trans h1 (Nat.le_of_ble_eq_true rfl)) (Nat.le_trans h2 (Nat.le_of_ble_eq_true rfl)) (fun r_5 xw_6 hx_7 => ?_)
  refine k_pop X dL_law_1268 rfl ?_
  refine k_aload_n X dL_law_1269 2 rfl ?_
  refine k_aload_n X dL_law_1270 4 rfl ?_
  refine k_iload X dL_law_1271 0 rfl ?_
  refine k_iconst (v := 1) X dL_law_1273 (by decide) ?_
  refine k_iadd X dL_law_1274 ?_
  refine k_to z_1 ez_1.symm ?_
  refine k_sld X hX hbl hbA dL_law_1275 (by rw [vp_in_iff]; have := iv_3; omega) ?_
  refine k_to a_4 ea_4.symm ?_
  refine lm_likeliest (st := []) a_4 X hm dL_law_1276 mw1178 (Nat.le_of_ble_eq_true rfl) (Nat.le_of_ble_eq_true rfl) (Nat.le_of_ble_eq_true rfl) (Nat.le_trans h1 (Nat.le_of_ble_eq_true rfl)) (Nat.le_trans h2 (Nat.le_of_ble_eq_true rfl)) (fun r_8 mw_9 hm_10 => ?_)
  refine k_pop X dL_law_1279 rfl ?_
  refine k_goto 2062 X dL_law_1280 (by decide) ?_
  exact kk _ _ _ _ _ _ _ _ _ _ _ _ _ _ _ _ _ _ _ _ _ _ _ _ _ _ _ _ _ _ _ _ _ _ _ _ _ _ _ _ hx_7 hm_10 hR

theorem dL_law_1283 : decode cL_law 1283 = .ok (.aload_n 1, 1) := dk_43 (kat_20 3 rfl)
theorem dL_law_1284 : decode cL_law 1284 = .ok (.aload_n 0, 1) := dk_42 (kat_20 4 rfl)
theorem dL_law_1285 : decode cL_law 1285 = .ok (.iload 4, 2) := dk_21 (kat_20 5 rfl) (kat_20 6 rfl) rfl
theorem dL_law_1287 : decode cL_law 1287 = .ok (.iconst 1, 1) := dk_4 (kat_20 7 rfl)
theorem dL_law_1288 : decode cL_law 1288 = .ok (.iadd, 1) := dk_96 (kat_20 8 rfl)
theorem dL_law_1289 : decode cL_law 1289 = .ok (.iaload, 1) := dk_46 (kat_20 9 rfl)
theorem dL_law_1290 : decode cL_law 1290 = .ok (.invokevirtual 147, 3) := dk_182 (kat_20 10 rfl) (kat_20 11 rfl) (kat_20 12 rfl) rfl
theorem dL_law_1293 : decode cL_law 1293 = .ok (.pop, 1) := dk_87 (kat_20 13 rfl)
theorem dL_law_1294 : decode cL_law 1294 = .ok (.aload_n 2, 1) := dk_44 (kat_20 14 rfl)
theorem dL_law_1295 : decode cL_law 1295 = .ok (.aload_n 0, 1) := dk_42 (kat_20 15 rfl)
theorem dL_law_1296 : decode cL_law 1296 = .ok (.iload 4, 2) := dk_21 (kat_20 16 rfl) (kat_20 17 rfl) rfl
theorem dL_law_1298 : decode cL_law 1298 = .ok (.iconst 1, 1) := dk_4 (kat_20 18 rfl)
theorem dL_law_1299 : decode cL_law 1299 = .ok (.iadd, 1) := dk_96 (kat_20 19 rfl)
theorem dL_law_1300 : decode cL_law 1300 = .ok (.iaload, 1) := dk_46 (kat_20 20 rfl)
theorem dL_law_1301 : decode cL_law 1301 = .ok (.invokevirtual 150, 3) := dk_182 (kat_20 21 rfl) (kat_20 22 rfl) (kat_20 23 rfl) rfl
theorem dL_law_1304 : decode cL_law 1304 = .ok (.pop, 1) := dk_87 (kat_20 24 rfl)
theorem dL_law_1305 : decode cL_law 1305 = .ok (.goto 757, 3) := dk_167 (kat_20 25 rfl) (kat_20 26 rfl) (kat_20 27 rfl) (by decide)
set_option maxHeartbeats 4000000 in
set_option maxRecDepth 100000 in
theorem law_c31 {p : Program} {l : Launch} {e : Env} {s : State} {m : MethodId} {below : List Frame} {meth : Method} {c : Code} {A : Nat → Prop} {g : Gx} {b L : Nat} {xs : Nat → Int32} {h0 mo lo n1 n2 : Nat} {fo : Nat → Int64} {u4 : Int32} {xtpd : Int32} {tpf : Nat → Int32} {yhnf : Nat → Int32} {yhtn : Int32} {yhtf : Nat → Int32} {yhjn : Int32} {yhjf : Nat → Int32} {yhmn : Int32} {yhmf : Nat → Int32} {yhbn : Int32} {yhbf : Nat → Int32} {yhsn : Int32} {yhsf : Nat → Int32} {yhcn : Int32} {yhcf : Nat → Int32} {zrn : Int32} {zmn : Int32} {zwn : Int32} {zpn : Int32} {zmd : Int32} {ztr : Int32} {zrf : Nat → Int32} {zmf : Nat → Int32} {zwf : Nat → Int32} {zpf : Nat → Int32} {kac : Int32} {knx : Int32} {kim : Int32} {cf : Nat → SC} {m_taped : Int32} {d_tape : Nat → Int32} {d_r : Nat → Int32} {d_st : Nat → Int32} {d_undone : Nat → Int32} {d_kept : Nat → Int32} {m_undos : Int32} {m_images : Int32} {m_hasHouse : Int32} {xw mw : va_W} (X : Cx p s m meth c #[Value.ref b] cL_law 7 RL A g) (hX : va_X b L xs s s.heap) (hbl : b < s.heap.size) (hbA : ¬ A b) (hi : 0 ≤ u4.toInt ∧ u4.toInt + 6 ≤ (L : Int)) (hL : L ≤ 3072) (h1 : n1 ≤ 601023) (h2 : n2 ≤ 7293028) (hlt : l.stackTraces = false) (hZ : kZ A s s.heap) (htsE : ∀ w ∈ wsE, w.before #[Value.ref b] s = true) (hx : XW g h0 xtpd tpf yhnf yhtn yhtf yhjn yhjf yhmn yhmf yhbn yhbf yhsn yhsf yhcn yhcf zrn zmn zwn zpn zmd ztr zrf zmf zwf zpf kac knx kim cf xw) (hm : MW g mo m_taped d_tape d_r d_st d_undone d_kept m_undos m_images m_hasHouse mw) (hR : LR xtpd tpf yhnf yhtn yhtf yhjn yhjf yhmn yhmf yhbn yhbf yhsn yhsf yhcn yhcf zrn zmn zwn zpn zmd ztr zrf zmf zwf zpf kac knx kim cf m_taped d_tape d_r d_st d_undone d_kept m_undos m_images m_hasHouse) (kk : ∀ (xtpd_2 : Int32) (tpf_2 : Nat → Int32) (yhnf_2 : Nat → Int32) (yhtn_2 : Int32) (yhtf_2 : Nat → Int32) (yhjn_2 : Int32) (yhjf_2 : Nat → Int32) (yhmn_2 : Int32) (yhmf_2 : Nat → Int32) (yhbn_2 : Int32) (yhbf_2 : Nat → Int32) (yhsn_2 : Int32) (yhsf_2 : Nat → Int32) (yhcn_2 : Int32) (yhcf_2 : Nat → Int32) (zrn_2 : Int32) (zmn_2 : Int32) (zwn_2 : Int32) (zpn_2 : Int32) (zmd_2 : Int32) (ztr_2 : Int32) (zrf_2 : Nat → Int32) (zmf_2 : Nat → Int32) (zwf_2 : Nat → Int32) (zpf_2 : Nat → Int32) (kac_2 : Int32) (knx_2 : Int32) (kim_2 : Int32) (cf_2 : Nat → SC) (m_taped_2 : Int32) (d_tape_2 : Nat → Int32) (d_r_2 : Nat → Int32) (d_st_2 : Nat → Int32) (d_undone_2 : Nat → Int32) (d_kept_2 : Nat → Int32) (m_undos_2 : Int32) (m_images_2 : Int32) (m_hasHouse_2 : Int32) (xw2 mw2 : va_W), XW g h0 xtpd_2 tpf_2 yhnf_2 yhtn_2 yhtf_2 yhjn_2 yhjf_2 yhmn_2 yhmf_2 yhbn_2 yhbf_2 yhsn_2 yhsf_2 yhcn_2 yhcf_2 zrn_2 zmn_2 zwn_2 zpn_2 zmd_2 ztr_2 zrf_2 zmf_2 zwf_2 zpf_2 kac_2 knx_2 kim_2 cf_2 xw2 → MW g mo m_taped_2 d_tape_2 d_r_2 d_st_2 d_undone_2 d_kept_2 m_undos_2 m_images_2 m_hasHouse_2 mw2 → LR xtpd_2 tpf_2 yhnf_2 yhtn_2 yhtf_2 yhjn_2 yhjf_2 yhmn_2 yhmf_2 yhbn_2 yhbf_2 yhsn_2 yhsf_2 yhcn_2 yhcf_2 zrn_2 zmn_2 zwn_2 zpn_2 zmd_2 ztr_2 zrf_2 zmf_2 zwf_2 zpf_2 kac_2 knx_2 kim_2 cf_2 m_taped_2 d_tape_2 d_r_2 d_st_2 d_undone_2 d_kept_2 m_undos_2 m_images_2 m_hasHouse_2 → Wk p l e room_1 s m #[Value.ref b] below meth c (lw_Z below #[Value.ref b] s) A g 7 n1 n2 (xw2 ++ (mw2 ++ [(cAJ g lo 1 fo)])) [(4, .int u4), (3, .ref lo), (2, .ref mo), (1, .ref h0), (0, .ref b)] 2062 []) : Wk p l e room_1 s m #[Value.ref b] below meth c (lw_Z below #[Value.ref b] s) A g 7 n1 n2 (xw ++ (mw ++ [(cAJ g lo 1 fo)])) [(4, .int u4), (3, .ref lo), (2, .ref mo), (1, .ref h0), (0, .ref b)] 1283 [] := by
  have hiv : IV u4 0 3066 := ⟨hi.1, by omega⟩
  refine k_aload_n X dL_law_1283 3 rfl ?_
  refine k_aload_n X dL_law_1284 4 rfl ?_
  refine k_iload X dL_law_1285 0 rfl ?_
  refine k_iconst (v := 1) X dL_law_1287 (by decide) ?_
  refine k_iadd X dL_law_1288 ?_
  refine k_nm (fun z_1 ez_1 => ?_)
  have i_2 : z_1.toInt = u4.toInt + 1 := in_add ez_1 hiv (show IV 1 1 1 from (by decide)) (by decide) (by decide)
  have iv_3 : IV z_1 1 3067 := by have := hiv; have := (show IV 1 1 1 from (by decide)); rw [IV, i_2]; omega
  refine k_sld X hX hbl hbA dL_law_1289 (by rw [vp_in_iff]; have := iv_3; omega) ?_
  refine k_nm (fun a_4 ea_4 => ?_)
  refine lx_who (st := []) a_4 X hx dL_law_1290 mw1182 (Nat.le_of_ble_eq_true rfl) (Nat.le_of_ble_eq_true rfl) (Nat.le_of_ble_eq_true rfl) (Nat.le_trans h1 (Nat.le_of_ble_eq_true rfl)) (Nat.le_trans h2 (Nat.le_of_ble_eq_true rfl)) (fun r_5 xw_6 hx_7 => ?_)
  refine k_pop X dL_law_1293 rfl ?_
  refine k_aload_n X dL_law_1294 2 rfl ?_
  refine k_aload_n X dL_law_1295 4 rfl ?_
  refine k_iload X dL_law_1296 0 rfl ?_
  refine k_iconst (v := 1) X dL_law_1298 (by decide) ?_
  refine k_iadd X dL_law_1299 ?_
  refine k_to z_1 ez_1.symm ?_
  refine k_sld X hX hbl hbA dL_law_1300 (by rw [vp_in_iff]; have := iv_3; omega) ?_
  refine k_to a_4 ea_4.symm ?_
  refine lm_who (st := []) a_4 X hm dL_law_1301 mw1196 (Nat.le_of_ble_eq_true rfl) (Nat.le_of_ble_eq_true rfl) (Nat.le_of_ble_eq_true rfl) (Nat.le_trans h1 (Nat.le_of_ble_eq_true rfl)) (Nat.le_trans h2 (Nat.le_of_ble_eq_true rfl)) (fun r_8 mw_9 hm_10 => ?_)
  refine k_pop X dL_law_1304 rfl ?_
  refine k_goto 2062 X dL_law_1305 (by decide) ?_
  exact kk _ _ _ _ _ _ _ _ _ _ _ _ _ _ _ _ _ _ _ _ _ _ _ _ _ _ _ _ _ _ _ _ _ _ _ _ _ _ _ _ hx_7 hm_10 hR

theorem dL_law_1308 : decode cL_law 1308 = .ok (.aload_n 1, 1) := dk_43 (kat_20 28 rfl)
theorem dL_law_1309 : decode cL_law 1309 = .ok (.aload_n 0, 1) := dk_42 (kat_20 29 rfl)
theorem dL_law_1310 : decode cL_law 1310 = .ok (.iload 4, 2) := dk_21 (kat_20 30 rfl) (kat_20 31 rfl) rfl
theorem dL_law_1312 : decode cL_law 1312 = .ok (.iconst 1, 1) := dk_4 (kat_20 32 rfl)
theorem dL_law_1313 : decode cL_law 1313 = .ok (.iadd, 1) := dk_96 (kat_20 33 rfl)
theorem dL_law_1314 : decode cL_law 1314 = .ok (.iaload, 1) := dk_46 (kat_20 34 rfl)
theorem dL_law_1315 : decode cL_law 1315 = .ok (.invokevirtual 151, 3) := dk_182 (kat_20 35 rfl) (kat_20 36 rfl) (kat_20 37 rfl) rfl
theorem dL_law_1318 : decode cL_law 1318 = .ok (.pop, 1) := dk_87 (kat_20 38 rfl)
theorem dL_law_1319 : decode cL_law 1319 = .ok (.aload_n 2, 1) := dk_44 (kat_20 39 rfl)
theorem dL_law_1320 : decode cL_law 1320 = .ok (.aload_n 0, 1) := dk_42 (kat_20 40 rfl)
theorem dL_law_1321 : decode cL_law 1321 = .ok (.iload 4, 2) := dk_21 (kat_20 41 rfl) (kat_20 42 rfl) rfl
theorem dL_law_1323 : decode cL_law 1323 = .ok (.iconst 1, 1) := dk_4 (kat_20 43 rfl)
theorem dL_law_1324 : decode cL_law 1324 = .ok (.iadd, 1) := dk_96 (kat_20 44 rfl)
theorem dL_law_1325 : decode cL_law 1325 = .ok (.iaload, 1) := dk_46 (kat_20 45 rfl)
theorem dL_law_1326 : decode cL_law 1326 = .ok (.invokevirtual 154, 3) := dk_182 (kat_20 46 rfl) (kat_20 47 rfl) (kat_20 48 rfl) rfl
theorem dL_law_1329 : decode cL_law 1329 = .ok (.pop, 1) := dk_87 (kat_20 49 rfl)
theorem dL_law_1330 : decode cL_law 1330 = .ok (.goto 732, 3) := dk_167 (kat_20 50 rfl) (kat_20 51 rfl) (kat_20 52 rfl) (by decide)
set_option maxHeartbeats 4000000 in
set_option maxRecDepth 100000 in
theorem law_c32 {p : Program} {l : Launch} {e : Env} {s : State} {m : MethodId} {below : List Frame} {meth : Method} {c : Code} {A : Nat → Prop} {g : Gx} {b L : Nat} {xs : Nat → Int32} {h0 mo lo n1 n2 : Nat} {fo : Nat → Int64} {u4 : Int32} {xtpd : Int32} {tpf : Nat → Int32} {yhnf : Nat → Int32} {yhtn : Int32} {yhtf : Nat → Int32} {yhjn : Int32} {yhjf : Nat → Int32} {yhmn : Int32} {yhmf : Nat → Int32} {yhbn : Int32} {yhbf : Nat → Int32} {yhsn : Int32} {yhsf : Nat → Int32} {yhcn : Int32} {yhcf : Nat → Int32} {zrn : Int32} {zmn : Int32} {zwn : Int32} {zpn : Int32} {zmd : Int32} {ztr : Int32} {zrf : Nat → Int32} {zmf : Nat → Int32} {zwf : Nat → Int32} {zpf : Nat → Int32} {kac : Int32} {knx : Int32} {kim : Int32} {cf : Nat → SC} {m_taped : Int32} {d_tape : Nat → Int32} {d_r : Nat → Int32} {d_st : Nat → Int32} {d_undone : Nat → Int32} {d_kept : Nat → Int32} {m_undos : Int32} {m_images : Int32} {m_hasHouse : Int32} {xw mw : va_W} (X : Cx p s m meth c #[Value.ref b] cL_law 7 RL A g) (hX : va_X b L xs s s.heap) (hbl : b < s.heap.size) (hbA : ¬ A b) (hi : 0 ≤ u4.toInt ∧ u4.toInt + 6 ≤ (L : Int)) (hL : L ≤ 3072) (h1 : n1 ≤ 601023) (h2 : n2 ≤ 7293028) (hlt : l.stackTraces = false) (hZ : kZ A s s.heap) (htsE : ∀ w ∈ wsE, w.before #[Value.ref b] s = true) (hx : XW g h0 xtpd tpf yhnf yhtn yhtf yhjn yhjf yhmn yhmf yhbn yhbf yhsn yhsf yhcn yhcf zrn zmn zwn zpn zmd ztr zrf zmf zwf zpf kac knx kim cf xw) (hm : MW g mo m_taped d_tape d_r d_st d_undone d_kept m_undos m_images m_hasHouse mw) (hR : LR xtpd tpf yhnf yhtn yhtf yhjn yhjf yhmn yhmf yhbn yhbf yhsn yhsf yhcn yhcf zrn zmn zwn zpn zmd ztr zrf zmf zwf zpf kac knx kim cf m_taped d_tape d_r d_st d_undone d_kept m_undos m_images m_hasHouse) (kk : ∀ (xtpd_2 : Int32) (tpf_2 : Nat → Int32) (yhnf_2 : Nat → Int32) (yhtn_2 : Int32) (yhtf_2 : Nat → Int32) (yhjn_2 : Int32) (yhjf_2 : Nat → Int32) (yhmn_2 : Int32) (yhmf_2 : Nat → Int32) (yhbn_2 : Int32) (yhbf_2 : Nat → Int32) (yhsn_2 : Int32) (yhsf_2 : Nat → Int32) (yhcn_2 : Int32) (yhcf_2 : Nat → Int32) (zrn_2 : Int32) (zmn_2 : Int32) (zwn_2 : Int32) (zpn_2 : Int32) (zmd_2 : Int32) (ztr_2 : Int32) (zrf_2 : Nat → Int32) (zmf_2 : Nat → Int32) (zwf_2 : Nat → Int32) (zpf_2 : Nat → Int32) (kac_2 : Int32) (knx_2 : Int32) (kim_2 : Int32) (cf_2 : Nat → SC) (m_taped_2 : Int32) (d_tape_2 : Nat → Int32) (d_r_2 : Nat → Int32) (d_st_2 : Nat → Int32) (d_undone_2 : Nat → Int32) (d_kept_2 : Nat → Int32) (m_undos_2 : Int32) (m_images_2 : Int32) (m_hasHouse_2 : Int32) (xw2 mw2 : va_W), XW g h0 xtpd_2 tpf_2 yhnf_2 yhtn_2 yhtf_2 yhjn_2 yhjf_2 yhmn_2 yhmf_2 yhbn_2 yhbf_2 yhsn_2 yhsf_2 yhcn_2 yhcf_2 zrn_2 zmn_2 zwn_2 zpn_2 zmd_2 ztr_2 zrf_2 zmf_2 zwf_2 zpf_2 kac_2 knx_2 kim_2 cf_2 xw2 → MW g mo m_taped_2 d_tape_2 d_r_2 d_st_2 d_undone_2 d_kept_2 m_undos_2 m_images_2 m_hasHouse_2 mw2 → LR xtpd_2 tpf_2 yhnf_2 yhtn_2 yhtf_2 yhjn_2 yhjf_2 yhmn_2 yhmf_2 yhbn_2 yhbf_2 yhsn_2 yhsf_2 yhcn_2 yhcf_2 zrn_2 zmn_2 zwn_2 zpn_2 zmd_2 ztr_2 zrf_2 zmf_2 zwf_2 zpf_2 kac_2 knx_2 kim_2 cf_2 m_taped_2 d_tape_2 d_r_2 d_st_2 d_undone_2 d_kept_2 m_undos_2 m_images_2 m_hasHouse_2 → Wk p l e room_1 s m #[Value.ref b] below meth c (lw_Z below #[Value.ref b] s) A g 7 n1 n2 (xw2 ++ (mw2 ++ [(cAJ g lo 1 fo)])) [(4, .int u4), (3, .ref lo), (2, .ref mo), (1, .ref h0), (0, .ref b)] 2062 []) : Wk p l e room_1 s m #[Value.ref b] below meth c (lw_Z below #[Value.ref b] s) A g 7 n1 n2 (xw ++ (mw ++ [(cAJ g lo 1 fo)])) [(4, .int u4), (3, .ref lo), (2, .ref mo), (1, .ref h0), (0, .ref b)] 1308 [] := by
  have hiv : IV u4 0 3066 := ⟨hi.1, by omega⟩
  refine k_aload_n X dL_law_1308 3 rfl ?_
  refine k_aload_n X dL_law_1309 4 rfl ?_
  refine k_iload X dL_law_1310 0 rfl ?_
  refine k_iconst (v := 1) X dL_law_1312 (by decide) ?_
  refine k_iadd X dL_law_1313 ?_
  refine k_nm (fun z_1 ez_1 => ?_)
  have i_2 : z_1.toInt = u4.toInt + 1 := in_add ez_1 hiv (show IV 1 1 1 from (by decide)) (by decide) (by decide)
  have iv_3 : IV z_1 1 3067 := by have := hiv; have := (show IV 1 1 1 from (by decide)); rw [IV, i_2]; omega
  refine k_sld X hX hbl hbA dL_law_1314 (by rw [vp_in_iff]; have := iv_3; omega) ?_
  refine k_nm (fun a_4 ea_4 => ?_)
  refine lx_far (st := []) a_4 X hx dL_law_1315 mw1210 (Nat.le_of_ble_eq_true rfl) (Nat.le_of_ble_eq_true rfl) (Nat.le_of_ble_eq_true rfl) (Nat.le_trans h1 (Nat.le_of_ble_eq_true rfl)) (Nat.le_trans h2 (Nat.le_of_ble_eq_true rfl)) (fun r_5 xw_6 hx_7 => ?_)
  refine k_pop X dL_law_1318 rfl ?_
  refine k_aload_n X dL_law_1319 2 rfl ?_
  refine k_aload_n X dL_law_1320 4 rfl ?_
  refine k_iload X dL_law_1321 0 rfl ?_
  refine k_iconst (v := 1) X dL_law_1323 (by decide) ?_
  refine k_iadd X dL_law_1324 ?_
  refine k_to z_1 ez_1.symm ?_
  refine k_sld X hX hbl hbA dL_law_1325 (by rw [vp_in_iff]; have := iv_3; omega) ?_
  refine k_to a_4 ea_4.symm ?_
  refine lm_far (st := []) a_4 X hm dL_law_1326 mw1214 (Nat.le_of_ble_eq_true rfl) (Nat.le_of_ble_eq_true rfl) (Nat.le_of_ble_eq_true rfl) (Nat.le_trans h1 (Nat.le_of_ble_eq_true rfl)) (Nat.le_trans h2 (Nat.le_of_ble_eq_true rfl)) (fun r_8 mw_9 hm_10 => ?_)
  refine k_pop X dL_law_1329 rfl ?_
  refine k_goto 2062 X dL_law_1330 (by decide) ?_
  exact kk _ _ _ _ _ _ _ _ _ _ _ _ _ _ _ _ _ _ _ _ _ _ _ _ _ _ _ _ _ _ _ _ _ _ _ _ _ _ _ _ hx_7 hm_10 hR

theorem dL_law_1333 : decode cL_law 1333 = .ok (.aload_n 1, 1) := dk_43 (kat_20 53 rfl)
theorem dL_law_1334 : decode cL_law 1334 = .ok (.aload_n 0, 1) := dk_42 (kat_20 54 rfl)
theorem dL_law_1335 : decode cL_law 1335 = .ok (.iload 4, 2) := dk_21 (kat_20 55 rfl) (kat_20 56 rfl) rfl
theorem dL_law_1337 : decode cL_law 1337 = .ok (.iconst 1, 1) := dk_4 (kat_20 57 rfl)
theorem dL_law_1338 : decode cL_law 1338 = .ok (.iadd, 1) := dk_96 (kat_20 58 rfl)
theorem dL_law_1339 : decode cL_law 1339 = .ok (.iaload, 1) := dk_46 (kat_20 59 rfl)
theorem dL_law_1340 : decode cL_law 1340 = .ok (.aload_n 0, 1) := dk_42 (kat_20 60 rfl)
theorem dL_law_1341 : decode cL_law 1341 = .ok (.iload 4, 2) := dk_21 (kat_20 61 rfl) (kat_20 62 rfl) rfl
theorem dL_law_1343 : decode cL_law 1343 = .ok (.iconst 2, 1) := dk_5 (kat_20 63 rfl)
theorem dL_law_1344 : decode cL_law 1344 = .ok (.iadd, 1) := dk_96 (kat_21 0 rfl)
theorem dL_law_1345 : decode cL_law 1345 = .ok (.iaload, 1) := dk_46 (kat_21 1 rfl)
theorem dL_law_1346 : decode cL_law 1346 = .ok (.ifCond .eq 7, 3) := by decide +kernel
theorem dL_law_1349 : decode cL_law 1349 = .ok (.iconst 1, 1) := dk_4 (kat_21 5 rfl)
theorem dL_law_1350 : decode cL_law 1350 = .ok (.goto 4, 3) := dk_167 (kat_21 6 rfl) (kat_21 7 rfl) (kat_21 8 rfl) (by decide)
theorem dL_law_1353 : decode cL_law 1353 = .ok (.iconst 0, 1) := dk_3 (kat_21 9 rfl)
theorem dL_law_1354 : decode cL_law 1354 = .ok (.invokevirtual 155, 3) := dk_182 (kat_21 10 rfl) (kat_21 11 rfl) (kat_21 12 rfl) rfl
theorem dL_law_1357 : decode cL_law 1357 = .ok (.pop, 1) := dk_87 (kat_21 13 rfl)
theorem dL_law_1358 : decode cL_law 1358 = .ok (.aload_n 2, 1) := dk_44 (kat_21 14 rfl)
theorem dL_law_1359 : decode cL_law 1359 = .ok (.aload_n 0, 1) := dk_42 (kat_21 15 rfl)
theorem dL_law_1360 : decode cL_law 1360 = .ok (.iload 4, 2) := dk_21 (kat_21 16 rfl) (kat_21 17 rfl) rfl
theorem dL_law_1362 : decode cL_law 1362 = .ok (.iconst 1, 1) := dk_4 (kat_21 18 rfl)
theorem dL_law_1363 : decode cL_law 1363 = .ok (.iadd, 1) := dk_96 (kat_21 19 rfl)
theorem dL_law_1364 : decode cL_law 1364 = .ok (.iaload, 1) := dk_46 (kat_21 20 rfl)
theorem dL_law_1365 : decode cL_law 1365 = .ok (.aload_n 0, 1) := dk_42 (kat_21 21 rfl)
theorem dL_law_1366 : decode cL_law 1366 = .ok (.iload 4, 2) := dk_21 (kat_21 22 rfl) (kat_21 23 rfl) rfl
theorem dL_law_1368 : decode cL_law 1368 = .ok (.iconst 2, 1) := dk_5 (kat_21 24 rfl)
theorem dL_law_1369 : decode cL_law 1369 = .ok (.iadd, 1) := dk_96 (kat_21 25 rfl)
theorem dL_law_1370 : decode cL_law 1370 = .ok (.iaload, 1) := dk_46 (kat_21 26 rfl)
theorem dL_law_1371 : decode cL_law 1371 = .ok (.ifCond .eq 7, 3) := by decide +kernel
theorem dL_law_1374 : decode cL_law 1374 = .ok (.iconst 1, 1) := dk_4 (kat_21 30 rfl)
theorem dL_law_1375 : decode cL_law 1375 = .ok (.goto 4, 3) := dk_167 (kat_21 31 rfl) (kat_21 32 rfl) (kat_21 33 rfl) (by decide)
theorem dL_law_1378 : decode cL_law 1378 = .ok (.iconst 0, 1) := dk_3 (kat_21 34 rfl)
theorem dL_law_1379 : decode cL_law 1379 = .ok (.invokevirtual 159, 3) := dk_182 (kat_21 35 rfl) (kat_21 36 rfl) (kat_21 37 rfl) rfl
theorem dL_law_1382 : decode cL_law 1382 = .ok (.pop, 1) := dk_87 (kat_21 38 rfl)
theorem dL_law_1383 : decode cL_law 1383 = .ok (.goto 679, 3) := dk_167 (kat_21 39 rfl) (kat_21 40 rfl) (kat_21 41 rfl) (by decide)
set_option maxHeartbeats 4000000 in
set_option maxRecDepth 100000 in
theorem law_c33 {p : Program} {l : Launch} {e : Env} {s : State} {m : MethodId} {below : List Frame} {meth : Method} {c : Code} {A : Nat → Prop} {g : Gx} {b L : Nat} {xs : Nat → Int32} {h0 mo lo n1 n2 : Nat} {fo : Nat → Int64} {u4 : Int32} {xtpd : Int32} {tpf : Nat → Int32} {yhnf : Nat → Int32} {yhtn : Int32} {yhtf : Nat → Int32} {yhjn : Int32} {yhjf : Nat → Int32} {yhmn : Int32} {yhmf : Nat → Int32} {yhbn : Int32} {yhbf : Nat → Int32} {yhsn : Int32} {yhsf : Nat → Int32} {yhcn : Int32} {yhcf : Nat → Int32} {zrn : Int32} {zmn : Int32} {zwn : Int32} {zpn : Int32} {zmd : Int32} {ztr : Int32} {zrf : Nat → Int32} {zmf : Nat → Int32} {zwf : Nat → Int32} {zpf : Nat → Int32} {kac : Int32} {knx : Int32} {kim : Int32} {cf : Nat → SC} {m_taped : Int32} {d_tape : Nat → Int32} {d_r : Nat → Int32} {d_st : Nat → Int32} {d_undone : Nat → Int32} {d_kept : Nat → Int32} {m_undos : Int32} {m_images : Int32} {m_hasHouse : Int32} {xw mw : va_W} (X : Cx p s m meth c #[Value.ref b] cL_law 7 RL A g) (hX : va_X b L xs s s.heap) (hbl : b < s.heap.size) (hbA : ¬ A b) (hi : 0 ≤ u4.toInt ∧ u4.toInt + 6 ≤ (L : Int)) (hL : L ≤ 3072) (h1 : n1 ≤ 601023) (h2 : n2 ≤ 7293028) (hlt : l.stackTraces = false) (hZ : kZ A s s.heap) (htsE : ∀ w ∈ wsE, w.before #[Value.ref b] s = true) (hx : XW g h0 xtpd tpf yhnf yhtn yhtf yhjn yhjf yhmn yhmf yhbn yhbf yhsn yhsf yhcn yhcf zrn zmn zwn zpn zmd ztr zrf zmf zwf zpf kac knx kim cf xw) (hm : MW g mo m_taped d_tape d_r d_st d_undone d_kept m_undos m_images m_hasHouse mw) (hR : LR xtpd tpf yhnf yhtn yhtf yhjn yhjf yhmn yhmf yhbn yhbf yhsn yhsf yhcn yhcf zrn zmn zwn zpn zmd ztr zrf zmf zwf zpf kac knx kim cf m_taped d_tape d_r d_st d_undone d_kept m_undos m_images m_hasHouse) (kk : ∀ (xtpd_2 : Int32) (tpf_2 : Nat → Int32) (yhnf_2 : Nat → Int32) (yhtn_2 : Int32) (yhtf_2 : Nat → Int32) (yhjn_2 : Int32) (yhjf_2 : Nat → Int32) (yhmn_2 : Int32) (yhmf_2 : Nat → Int32) (yhbn_2 : Int32) (yhbf_2 : Nat → Int32) (yhsn_2 : Int32) (yhsf_2 : Nat → Int32) (yhcn_2 : Int32) (yhcf_2 : Nat → Int32) (zrn_2 : Int32) (zmn_2 : Int32) (zwn_2 : Int32) (zpn_2 : Int32) (zmd_2 : Int32) (ztr_2 : Int32) (zrf_2 : Nat → Int32) (zmf_2 : Nat → Int32) (zwf_2 : Nat → Int32) (zpf_2 : Nat → Int32) (kac_2 : Int32) (knx_2 : Int32) (kim_2 : Int32) (cf_2 : Nat → SC) (m_taped_2 : Int32) (d_tape_2 : Nat → Int32) (d_r_2 : Nat → Int32) (d_st_2 : Nat → Int32) (d_undone_2 : Nat → Int32) (d_kept_2 : Nat → Int32) (m_undos_2 : Int32) (m_images_2 : Int32) (m_hasHouse_2 : Int32) (xw2 mw2 : va_W), XW g h0 xtpd_2 tpf_2 yhnf_2 yhtn_2 yhtf_2 yhjn_2 yhjf_2 yhmn_2 yhmf_2 yhbn_2 yhbf_2 yhsn_2 yhsf_2 yhcn_2 yhcf_2 zrn_2 zmn_2 zwn_2 zpn_2 zmd_2 ztr_2 zrf_2 zmf_2 zwf_2 zpf_2 kac_2 knx_2 kim_2 cf_2 xw2 → MW g mo m_taped_2 d_tape_2 d_r_2 d_st_2 d_undone_2 d_kept_2 m_undos_2 m_images_2 m_hasHouse_2 mw2 → LR xtpd_2 tpf_2 yhnf_2 yhtn_2 yhtf_2 yhjn_2 yhjf_2 yhmn_2 yhmf_2 yhbn_2 yhbf_2 yhsn_2 yhsf_2 yhcn_2 yhcf_2 zrn_2 zmn_2 zwn_2 zpn_2 zmd_2 ztr_2 zrf_2 zmf_2 zwf_2 zpf_2 kac_2 knx_2 kim_2 cf_2 m_taped_2 d_tape_2 d_r_2 d_st_2 d_undone_2 d_kept_2 m_undos_2 m_images_2 m_hasHouse_2 → Wk p l e room_1 s m #[Value.ref b] below meth c (lw_Z below #[Value.ref b] s) A g 7 n1 n2 (xw2 ++ (mw2 ++ [(cAJ g lo 1 fo)])) [(4, .int u4), (3, .ref lo), (2, .ref mo), (1, .ref h0), (0, .ref b)] 2062 []) : Wk p l e room_1 s m #[Value.ref b] below meth c (lw_Z below #[Value.ref b] s) A g 7 n1 n2 (xw ++ (mw ++ [(cAJ g lo 1 fo)])) [(4, .int u4), (3, .ref lo), (2, .ref mo), (1, .ref h0), (0, .ref b)] 1333 [] := by
  have hiv : IV u4 0 3066 := ⟨hi.1, by omega⟩
  refine k_aload_n X dL_law_1333 3 rfl ?_
  refine k_aload_n X dL_law_1334 4 rfl ?_
  refine k_iload X dL_law_1335 0 rfl ?_
  refine k_iconst (v := 1) X dL_law_1337 (by decide) ?_
  refine k_iadd X dL_law_1338 ?_
  refine k_nm (fun z_1 ez_1 => ?_)
  have i_2 : z_1.toInt = u4.toInt + 1 := in_add ez_1 hiv (show IV 1 1 1 from (by decide)) (by decide) (by decide)
  have iv_3 : IV z_1 1 3067 := by have := hiv; have := (show IV 1 1 1 from (by decide)); rw [IV, i_2]; omega
  refine k_sld X hX hbl hbA dL_law_1339 (by rw [vp_in_iff]; have := iv_3; omega) ?_
  refine k_nm (fun a_4 ea_4 => ?_)
  refine k_aload_n X dL_law_1340 4 rfl ?_
  refine k_iload X dL_law_1341 0 rfl ?_
  refine k_iconst (v := 2) X dL_law_1343 (by decide) ?_
  refine k_iadd X dL_law_1344 ?_
  refine k_nm (fun z_5 ez_5 => ?_)
  have i_6 : z_5.toInt = u4.toInt + 2 := in_add ez_5 hiv (show IV 2 2 2 from (by decide)) (by decide) (by decide)
  have iv_7 : IV z_5 2 3068 := by have := hiv; have := (show IV 2 2 2 from (by decide)); rw [IV, i_6]; omega
  refine k_sld X hX hbl hbA dL_law_1345 (by rw [vp_in_iff]; have := iv_7; omega) ?_
  refine k_nm (fun a_8 ea_8 => ?_)
  refine k_if_eq 1353 X dL_law_1346 (by decide) (fun h_9 => ?_) (fun h_9 => ?_)
  · skip
    have iv_10 : IV a_8 0 0 := iv_meet (iv_any a_8) (iv_e h_9 (show IV 0 0 0 from (by decide))) (by decide) (by decide)
    refine k_iconst (v := 0) X dL_law_1353 (by decide) ?_
    refine lx_missing (st := []) a_4 0 X hx dL_law_1354 mw1218 (Nat.le_of_ble_eq_true rfl) (Nat.le_of_ble_eq_true rfl) (Nat.le_of_ble_eq_true rfl) (Nat.le_trans h1 (Nat.le_of_ble_eq_true rfl)) (Nat.le_trans h2 (Nat.le_of_ble_eq_true rfl)) (fun r_11 xw_12 hx_13 => ?_)
    refine k_pop X dL_law_1357 rfl ?_
    refine k_aload_n X dL_law_1358 2 rfl ?_
    refine k_aload_n X dL_law_1359 4 rfl ?_
    refine k_iload X dL_law_1360 0 rfl ?_
    refine k_iconst (v := 1) X dL_law_1362 (by decide) ?_
    refine k_iadd X dL_law_1363 ?_
    refine k_to z_1 ez_1.symm ?_
    refine k_sld X hX hbl hbA dL_law_1364 (by rw [vp_in_iff]; have := iv_3; omega) ?_
    refine k_to a_4 ea_4.symm ?_
    refine k_aload_n X dL_law_1365 4 rfl ?_
    refine k_iload X dL_law_1366 0 rfl ?_
    refine k_iconst (v := 2) X dL_law_1368 (by decide) ?_
    refine k_iadd X dL_law_1369 ?_
    refine k_to z_5 ez_5.symm ?_
    refine k_sld X hX hbl hbA dL_law_1370 (by rw [vp_in_iff]; have := iv_7; omega) ?_
    refine k_to a_8 ea_8.symm ?_
    refine k_if_eq 1378 X dL_law_1371 (by decide) (fun h_14 => ?_) (fun h_14 => absurd h_9 h_14)
    refine k_iconst (v := 0) X dL_law_1378 (by decide) ?_
    refine lm_missing (st := []) a_4 0 X hm dL_law_1379 mw1227 (Nat.le_of_ble_eq_true rfl) (Nat.le_of_ble_eq_true rfl) (Nat.le_of_ble_eq_true rfl) (Nat.le_trans h1 (Nat.le_of_ble_eq_true rfl)) (Nat.le_trans h2 (Nat.le_of_ble_eq_true rfl)) (fun r_15 mw_16 hm_17 => ?_)
    refine k_pop X dL_law_1382 rfl ?_
    refine k_goto 2062 X dL_law_1383 (by decide) ?_
    exact kk _ _ _ _ _ _ _ _ _ _ _ _ _ _ _ _ _ _ _ _ _ _ _ _ _ _ _ _ _ _ _ _ _ _ _ _ _ _ _ _ hx_13 hm_17 hR
  · skip
    refine k_iconst (v := 1) X dL_law_1349 (by decide) ?_
    refine k_goto 1354 X dL_law_1350 (by decide) ?_
    refine lx_missing (st := []) a_4 1 X hx dL_law_1354 mw1218 (Nat.le_of_ble_eq_true rfl) (Nat.le_of_ble_eq_true rfl) (Nat.le_of_ble_eq_true rfl) (Nat.le_trans h1 (Nat.le_of_ble_eq_true rfl)) (Nat.le_trans h2 (Nat.le_of_ble_eq_true rfl)) (fun r_18 xw_19 hx_20 => ?_)
    refine k_pop X dL_law_1357 rfl ?_
    refine k_aload_n X dL_law_1358 2 rfl ?_
    refine k_aload_n X dL_law_1359 4 rfl ?_
    refine k_iload X dL_law_1360 0 rfl ?_
    refine k_iconst (v := 1) X dL_law_1362 (by decide) ?_
    refine k_iadd X dL_law_1363 ?_
    refine k_to z_1 ez_1.symm ?_
    refine k_sld X hX hbl hbA dL_law_1364 (by rw [vp_in_iff]; have := iv_3; omega) ?_
    refine k_to a_4 ea_4.symm ?_
    refine k_aload_n X dL_law_1365 4 rfl ?_
    refine k_iload X dL_law_1366 0 rfl ?_
    refine k_iconst (v := 2) X dL_law_1368 (by decide) ?_
    refine k_iadd X dL_law_1369 ?_
    refine k_to z_5 ez_5.symm ?_
    refine k_sld X hX hbl hbA dL_law_1370 (by rw [vp_in_iff]; have := iv_7; omega) ?_
    refine k_to a_8 ea_8.symm ?_
    refine k_if_eq 1378 X dL_law_1371 (by decide) (fun h_21 => absurd h_21 h_9) (fun h_21 => ?_)
    refine k_iconst (v := 1) X dL_law_1374 (by decide) ?_
    refine k_goto 1379 X dL_law_1375 (by decide) ?_
    refine lm_missing (st := []) a_4 1 X hm dL_law_1379 mw1227 (Nat.le_of_ble_eq_true rfl) (Nat.le_of_ble_eq_true rfl) (Nat.le_of_ble_eq_true rfl) (Nat.le_trans h1 (Nat.le_of_ble_eq_true rfl)) (Nat.le_trans h2 (Nat.le_of_ble_eq_true rfl)) (fun r_22 mw_23 hm_24 => ?_)
    refine k_pop X dL_law_1382 rfl ?_
    refine k_goto 2062 X dL_law_1383 (by decide) ?_
    exact kk _ _ _ _ _ _ _ _ _ _ _ _ _ _ _ _ _ _ _ _ _ _ _ _ _ _ _ _ _ _ _ _ _ _ _ _ _ _ _ _ hx_20 hm_24 hR

theorem dL_law_1386 : decode cL_law 1386 = .ok (.aload_n 1, 1) := dk_43 (kat_21 42 rfl)
theorem dL_law_1387 : decode cL_law 1387 = .ok (.aload_n 0, 1) := dk_42 (kat_21 43 rfl)
theorem dL_law_1388 : decode cL_law 1388 = .ok (.iload 4, 2) := dk_21 (kat_21 44 rfl) (kat_21 45 rfl) rfl
theorem dL_law_1390 : decode cL_law 1390 = .ok (.iconst 1, 1) := dk_4 (kat_21 46 rfl)
theorem dL_law_1391 : decode cL_law 1391 = .ok (.iadd, 1) := dk_96 (kat_21 47 rfl)
theorem dL_law_1392 : decode cL_law 1392 = .ok (.iaload, 1) := dk_46 (kat_21 48 rfl)
theorem dL_law_1393 : decode cL_law 1393 = .ok (.invokevirtual 160, 3) := dk_182 (kat_21 49 rfl) (kat_21 50 rfl) (kat_21 51 rfl) rfl
theorem dL_law_1396 : decode cL_law 1396 = .ok (.pop, 1) := dk_87 (kat_21 52 rfl)
theorem dL_law_1397 : decode cL_law 1397 = .ok (.aload_n 2, 1) := dk_44 (kat_21 53 rfl)
theorem dL_law_1398 : decode cL_law 1398 = .ok (.aload_n 0, 1) := dk_42 (kat_21 54 rfl)
theorem dL_law_1399 : decode cL_law 1399 = .ok (.iload 4, 2) := dk_21 (kat_21 55 rfl) (kat_21 56 rfl) rfl
theorem dL_law_1401 : decode cL_law 1401 = .ok (.iconst 1, 1) := dk_4 (kat_21 57 rfl)
theorem dL_law_1402 : decode cL_law 1402 = .ok (.iadd, 1) := dk_96 (kat_21 58 rfl)
theorem dL_law_1403 : decode cL_law 1403 = .ok (.iaload, 1) := dk_46 (kat_21 59 rfl)
theorem dL_law_1404 : decode cL_law 1404 = .ok (.invokevirtual 163, 3) := dk_182 (kat_21 60 rfl) (kat_21 61 rfl) (kat_21 62 rfl) rfl
theorem dL_law_1407 : decode cL_law 1407 = .ok (.pop, 1) := dk_87 (kat_21 63 rfl)
theorem dL_law_1408 : decode cL_law 1408 = .ok (.goto 654, 3) := dk_167 (kat_22 0 rfl) (kat_22 1 rfl) (kat_22 2 rfl) (by decide)
set_option maxHeartbeats 4000000 in
set_option maxRecDepth 100000 in
theorem law_c34 {p : Program} {l : Launch} {e : Env} {s : State} {m : MethodId} {below : List Frame} {meth : Method} {c : Code} {A : Nat → Prop} {g : Gx} {b L : Nat} {xs : Nat → Int32} {h0 mo lo n1 n2 : Nat} {fo : Nat → Int64} {u4 : Int32} {xtpd : Int32} {tpf : Nat → Int32} {yhnf : Nat → Int32} {yhtn : Int32} {yhtf : Nat → Int32} {yhjn : Int32} {yhjf : Nat → Int32} {yhmn : Int32} {yhmf : Nat → Int32} {yhbn : Int32} {yhbf : Nat → Int32} {yhsn : Int32} {yhsf : Nat → Int32} {yhcn : Int32} {yhcf : Nat → Int32} {zrn : Int32} {zmn : Int32} {zwn : Int32} {zpn : Int32} {zmd : Int32} {ztr : Int32} {zrf : Nat → Int32} {zmf : Nat → Int32} {zwf : Nat → Int32} {zpf : Nat → Int32} {kac : Int32} {knx : Int32} {kim : Int32} {cf : Nat → SC} {m_taped : Int32} {d_tape : Nat → Int32} {d_r : Nat → Int32} {d_st : Nat → Int32} {d_undone : Nat → Int32} {d_kept : Nat → Int32} {m_undos : Int32} {m_images : Int32} {m_hasHouse : Int32} {xw mw : va_W} (X : Cx p s m meth c #[Value.ref b] cL_law 7 RL A g) (hX : va_X b L xs s s.heap) (hbl : b < s.heap.size) (hbA : ¬ A b) (hi : 0 ≤ u4.toInt ∧ u4.toInt + 6 ≤ (L : Int)) (hL : L ≤ 3072) (h1 : n1 ≤ 601023) (h2 : n2 ≤ 7293028) (hlt : l.stackTraces = false) (hZ : kZ A s s.heap) (htsE : ∀ w ∈ wsE, w.before #[Value.ref b] s = true) (hx : XW g h0 xtpd tpf yhnf yhtn yhtf yhjn yhjf yhmn yhmf yhbn yhbf yhsn yhsf yhcn yhcf zrn zmn zwn zpn zmd ztr zrf zmf zwf zpf kac knx kim cf xw) (hm : MW g mo m_taped d_tape d_r d_st d_undone d_kept m_undos m_images m_hasHouse mw) (hR : LR xtpd tpf yhnf yhtn yhtf yhjn yhjf yhmn yhmf yhbn yhbf yhsn yhsf yhcn yhcf zrn zmn zwn zpn zmd ztr zrf zmf zwf zpf kac knx kim cf m_taped d_tape d_r d_st d_undone d_kept m_undos m_images m_hasHouse) (kk : ∀ (xtpd_2 : Int32) (tpf_2 : Nat → Int32) (yhnf_2 : Nat → Int32) (yhtn_2 : Int32) (yhtf_2 : Nat → Int32) (yhjn_2 : Int32) (yhjf_2 : Nat → Int32) (yhmn_2 : Int32) (yhmf_2 : Nat → Int32) (yhbn_2 : Int32) (yhbf_2 : Nat → Int32) (yhsn_2 : Int32) (yhsf_2 : Nat → Int32) (yhcn_2 : Int32) (yhcf_2 : Nat → Int32) (zrn_2 : Int32) (zmn_2 : Int32) (zwn_2 : Int32) (zpn_2 : Int32) (zmd_2 : Int32) (ztr_2 : Int32) (zrf_2 : Nat → Int32) (zmf_2 : Nat → Int32) (zwf_2 : Nat → Int32) (zpf_2 : Nat → Int32) (kac_2 : Int32) (knx_2 : Int32) (kim_2 : Int32) (cf_2 : Nat → SC) (m_taped_2 : Int32) (d_tape_2 : Nat → Int32) (d_r_2 : Nat → Int32) (d_st_2 : Nat → Int32) (d_undone_2 : Nat → Int32) (d_kept_2 : Nat → Int32) (m_undos_2 : Int32) (m_images_2 : Int32) (m_hasHouse_2 : Int32) (xw2 mw2 : va_W), XW g h0 xtpd_2 tpf_2 yhnf_2 yhtn_2 yhtf_2 yhjn_2 yhjf_2 yhmn_2 yhmf_2 yhbn_2 yhbf_2 yhsn_2 yhsf_2 yhcn_2 yhcf_2 zrn_2 zmn_2 zwn_2 zpn_2 zmd_2 ztr_2 zrf_2 zmf_2 zwf_2 zpf_2 kac_2 knx_2 kim_2 cf_2 xw2 → MW g mo m_taped_2 d_tape_2 d_r_2 d_st_2 d_undone_2 d_kept_2 m_undos_2 m_images_2 m_hasHouse_2 mw2 → LR xtpd_2 tpf_2 yhnf_2 yhtn_2 yhtf_2 yhjn_2 yhjf_2 yhmn_2 yhmf_2 yhbn_2 yhbf_2 yhsn_2 yhsf_2 yhcn_2 yhcf_2 zrn_2 zmn_2 zwn_2 zpn_2 zmd_2 ztr_2 zrf_2 zmf_2 zwf_2 zpf_2 kac_2 knx_2 kim_2 cf_2 m_taped_2 d_tape_2 d_r_2 d_st_2 d_undone_2 d_kept_2 m_undos_2 m_images_2 m_hasHouse_2 → Wk p l e room_1 s m #[Value.ref b] below meth c (lw_Z below #[Value.ref b] s) A g 7 n1 n2 (xw2 ++ (mw2 ++ [(cAJ g lo 1 fo)])) [(4, .int u4), (3, .ref lo), (2, .ref mo), (1, .ref h0), (0, .ref b)] 2062 []) : Wk p l e room_1 s m #[Value.ref b] below meth c (lw_Z below #[Value.ref b] s) A g 7 n1 n2 (xw ++ (mw ++ [(cAJ g lo 1 fo)])) [(4, .int u4), (3, .ref lo), (2, .ref mo), (1, .ref h0), (0, .ref b)] 1386 [] := by
  have hiv : IV u4 0 3066 := ⟨hi.1, by omega⟩
  refine k_aload_n X dL_law_1386 3 rfl ?_
  refine k_aload_n X dL_law_1387 4 rfl ?_
  refine k_iload X dL_law_1388 0 rfl ?_
  refine k_iconst (v := 1) X dL_law_1390 (by decide) ?_
  refine k_iadd X dL_law_1391 ?_
  refine k_nm (fun z_1 ez_1 => ?_)
  have i_2 : z_1.toInt = u4.toInt + 1 := in_add ez_1 hiv (show IV 1 1 1 from (by decide)) (by decide) (by decide)
  have iv_3 : IV z_1 1 3067 := by have := hiv; have := (show IV 1 1 1 from (by decide)); rw [IV, i_2]; omega
  refine k_sld X hX hbl hbA dL_law_1392 (by rw [vp_in_iff]; have := iv_3; omega) ?_
  refine k_nm (fun a_4 ea_4 => ?_)
  refine lx_words (st := []) a_4 X hx dL_law_1393 mw1231 (Nat.le_of_ble_eq_true rfl) (Nat.le_of_ble_eq_true rfl) (Nat.le_of_ble_eq_true rfl) (Nat.le_trans h1 (Nat.le_of_ble_eq_true rfl)) (Nat.le_trans h2 (Nat.le_of_ble_eq_true rfl)) (fun r_5 xw_6 hx_7 => ?_)
  refine k_pop X dL_law_1396 rfl ?_
  refine k_aload_n X dL_law_1397 2 rfl ?_
  refine k_aload_n X dL_law_1398 4 rfl ?_
  refine k_iload X dL_law_1399 0 rfl ?_
  refine k_iconst (v := 1) X dL_law_1401 (by decide) ?_
  refine k_iadd X dL_law_1402 ?_
  refine k_to z_1 ez_1.symm ?_
  refine k_sld X hX hbl hbA dL_law_1403 (by rw [vp_in_iff]; have := iv_3; omega) ?_
  refine k_to a_4 ea_4.symm ?_
  refine lm_words (st := []) a_4 X hm dL_law_1404 mw1235 (Nat.le_of_ble_eq_true rfl) (Nat.le_of_ble_eq_true rfl) (Nat.le_of_ble_eq_true rfl) (Nat.le_trans h1 (Nat.le_of_ble_eq_true rfl)) (Nat.le_trans h2 (Nat.le_of_ble_eq_true rfl)) (fun r_8 mw_9 hm_10 => ?_)
  refine k_pop X dL_law_1407 rfl ?_
  refine k_goto 2062 X dL_law_1408 (by decide) ?_
  exact kk _ _ _ _ _ _ _ _ _ _ _ _ _ _ _ _ _ _ _ _ _ _ _ _ _ _ _ _ _ _ _ _ _ _ _ _ _ _ _ _ hx_7 hm_10 hR

theorem dL_law_1411 : decode cL_law 1411 = .ok (.aload_n 1, 1) := dk_43 (kat_22 3 rfl)
theorem dL_law_1412 : decode cL_law 1412 = .ok (.aload_n 0, 1) := dk_42 (kat_22 4 rfl)
theorem dL_law_1413 : decode cL_law 1413 = .ok (.iload 4, 2) := dk_21 (kat_22 5 rfl) (kat_22 6 rfl) rfl
theorem dL_law_1415 : decode cL_law 1415 = .ok (.iconst 1, 1) := dk_4 (kat_22 7 rfl)
theorem dL_law_1416 : decode cL_law 1416 = .ok (.iadd, 1) := dk_96 (kat_22 8 rfl)
theorem dL_law_1417 : decode cL_law 1417 = .ok (.iaload, 1) := dk_46 (kat_22 9 rfl)
theorem dL_law_1418 : decode cL_law 1418 = .ok (.aload_n 0, 1) := dk_42 (kat_22 10 rfl)
theorem dL_law_1419 : decode cL_law 1419 = .ok (.iload 4, 2) := dk_21 (kat_22 11 rfl) (kat_22 12 rfl) rfl
theorem dL_law_1421 : decode cL_law 1421 = .ok (.iconst 2, 1) := dk_5 (kat_22 13 rfl)
theorem dL_law_1422 : decode cL_law 1422 = .ok (.iadd, 1) := dk_96 (kat_22 14 rfl)
theorem dL_law_1423 : decode cL_law 1423 = .ok (.iaload, 1) := dk_46 (kat_22 15 rfl)
theorem dL_law_1424 : decode cL_law 1424 = .ok (.aload_n 0, 1) := dk_42 (kat_22 16 rfl)
theorem dL_law_1425 : decode cL_law 1425 = .ok (.iload 4, 2) := dk_21 (kat_22 17 rfl) (kat_22 18 rfl) rfl
theorem dL_law_1427 : decode cL_law 1427 = .ok (.iconst 3, 1) := dk_6 (kat_22 19 rfl)
theorem dL_law_1428 : decode cL_law 1428 = .ok (.iadd, 1) := dk_96 (kat_22 20 rfl)
theorem dL_law_1429 : decode cL_law 1429 = .ok (.iaload, 1) := dk_46 (kat_22 21 rfl)
theorem dL_law_1430 : decode cL_law 1430 = .ok (.ifCond .eq 7, 3) := by decide +kernel
theorem dL_law_1433 : decode cL_law 1433 = .ok (.iconst 1, 1) := dk_4 (kat_22 25 rfl)
theorem dL_law_1434 : decode cL_law 1434 = .ok (.goto 4, 3) := dk_167 (kat_22 26 rfl) (kat_22 27 rfl) (kat_22 28 rfl) (by decide)
theorem dL_law_1437 : decode cL_law 1437 = .ok (.iconst 0, 1) := dk_3 (kat_22 29 rfl)
theorem dL_law_1438 : decode cL_law 1438 = .ok (.invokevirtual 164, 3) := dk_182 (kat_22 30 rfl) (kat_22 31 rfl) (kat_22 32 rfl) rfl
theorem dL_law_1441 : decode cL_law 1441 = .ok (.pop2, 1) := dk_88 (kat_22 33 rfl)
theorem dL_law_1442 : decode cL_law 1442 = .ok (.aload_n 2, 1) := dk_44 (kat_22 34 rfl)
theorem dL_law_1443 : decode cL_law 1443 = .ok (.aload_n 0, 1) := dk_42 (kat_22 35 rfl)
theorem dL_law_1444 : decode cL_law 1444 = .ok (.iload 4, 2) := dk_21 (kat_22 36 rfl) (kat_22 37 rfl) rfl
theorem dL_law_1446 : decode cL_law 1446 = .ok (.iconst 1, 1) := dk_4 (kat_22 38 rfl)
theorem dL_law_1447 : decode cL_law 1447 = .ok (.iadd, 1) := dk_96 (kat_22 39 rfl)
theorem dL_law_1448 : decode cL_law 1448 = .ok (.iaload, 1) := dk_46 (kat_22 40 rfl)
theorem dL_law_1449 : decode cL_law 1449 = .ok (.aload_n 0, 1) := dk_42 (kat_22 41 rfl)
theorem dL_law_1450 : decode cL_law 1450 = .ok (.iload 4, 2) := dk_21 (kat_22 42 rfl) (kat_22 43 rfl) rfl
theorem dL_law_1452 : decode cL_law 1452 = .ok (.iconst 2, 1) := dk_5 (kat_22 44 rfl)
theorem dL_law_1453 : decode cL_law 1453 = .ok (.iadd, 1) := dk_96 (kat_22 45 rfl)
theorem dL_law_1454 : decode cL_law 1454 = .ok (.iaload, 1) := dk_46 (kat_22 46 rfl)
theorem dL_law_1455 : decode cL_law 1455 = .ok (.aload_n 0, 1) := dk_42 (kat_22 47 rfl)
theorem dL_law_1456 : decode cL_law 1456 = .ok (.iload 4, 2) := dk_21 (kat_22 48 rfl) (kat_22 49 rfl) rfl
theorem dL_law_1458 : decode cL_law 1458 = .ok (.iconst 3, 1) := dk_6 (kat_22 50 rfl)
theorem dL_law_1459 : decode cL_law 1459 = .ok (.iadd, 1) := dk_96 (kat_22 51 rfl)
theorem dL_law_1460 : decode cL_law 1460 = .ok (.iaload, 1) := dk_46 (kat_22 52 rfl)
theorem dL_law_1461 : decode cL_law 1461 = .ok (.ifCond .eq 7, 3) := by decide +kernel
theorem dL_law_1464 : decode cL_law 1464 = .ok (.iconst 1, 1) := dk_4 (kat_22 56 rfl)
theorem dL_law_1465 : decode cL_law 1465 = .ok (.goto 4, 3) := dk_167 (kat_22 57 rfl) (kat_22 58 rfl) (kat_22 59 rfl) (by decide)
theorem dL_law_1468 : decode cL_law 1468 = .ok (.iconst 0, 1) := dk_3 (kat_22 60 rfl)
theorem dL_law_1469 : decode cL_law 1469 = .ok (.invokevirtual 167, 3) := dk_182 (kat_22 61 rfl) (kat_22 62 rfl) (kat_22 63 rfl) rfl
theorem dL_law_1472 : decode cL_law 1472 = .ok (.pop2, 1) := dk_88 (kat_23 0 rfl)
theorem dL_law_1473 : decode cL_law 1473 = .ok (.goto 589, 3) := dk_167 (kat_23 1 rfl) (kat_23 2 rfl) (kat_23 3 rfl) (by decide)
set_option maxHeartbeats 4000000 in
set_option maxRecDepth 100000 in
theorem law_c35 {p : Program} {l : Launch} {e : Env} {s : State} {m : MethodId} {below : List Frame} {meth : Method} {c : Code} {A : Nat → Prop} {g : Gx} {b L : Nat} {xs : Nat → Int32} {h0 mo lo n1 n2 : Nat} {fo : Nat → Int64} {u4 : Int32} {xtpd : Int32} {tpf : Nat → Int32} {yhnf : Nat → Int32} {yhtn : Int32} {yhtf : Nat → Int32} {yhjn : Int32} {yhjf : Nat → Int32} {yhmn : Int32} {yhmf : Nat → Int32} {yhbn : Int32} {yhbf : Nat → Int32} {yhsn : Int32} {yhsf : Nat → Int32} {yhcn : Int32} {yhcf : Nat → Int32} {zrn : Int32} {zmn : Int32} {zwn : Int32} {zpn : Int32} {zmd : Int32} {ztr : Int32} {zrf : Nat → Int32} {zmf : Nat → Int32} {zwf : Nat → Int32} {zpf : Nat → Int32} {kac : Int32} {knx : Int32} {kim : Int32} {cf : Nat → SC} {m_taped : Int32} {d_tape : Nat → Int32} {d_r : Nat → Int32} {d_st : Nat → Int32} {d_undone : Nat → Int32} {d_kept : Nat → Int32} {m_undos : Int32} {m_images : Int32} {m_hasHouse : Int32} {xw mw : va_W} (X : Cx p s m meth c #[Value.ref b] cL_law 7 RL A g) (hX : va_X b L xs s s.heap) (hbl : b < s.heap.size) (hbA : ¬ A b) (hi : 0 ≤ u4.toInt ∧ u4.toInt + 6 ≤ (L : Int)) (hL : L ≤ 3072) (h1 : n1 ≤ 601023) (h2 : n2 ≤ 7293028) (hlt : l.stackTraces = false) (hZ : kZ A s s.heap) (htsE : ∀ w ∈ wsE, w.before #[Value.ref b] s = true) (hx : XW g h0 xtpd tpf yhnf yhtn yhtf yhjn yhjf yhmn yhmf yhbn yhbf yhsn yhsf yhcn yhcf zrn zmn zwn zpn zmd ztr zrf zmf zwf zpf kac knx kim cf xw) (hm : MW g mo m_taped d_tape d_r d_st d_undone d_kept m_undos m_images m_hasHouse mw) (hR : LR xtpd tpf yhnf yhtn yhtf yhjn yhjf yhmn yhmf yhbn yhbf yhsn yhsf yhcn yhcf zrn zmn zwn zpn zmd ztr zrf zmf zwf zpf kac knx kim cf m_taped d_tape d_r d_st d_undone d_kept m_undos m_images m_hasHouse) (kk : ∀ (xtpd_2 : Int32) (tpf_2 : Nat → Int32) (yhnf_2 : Nat → Int32) (yhtn_2 : Int32) (yhtf_2 : Nat → Int32) (yhjn_2 : Int32) (yhjf_2 : Nat → Int32) (yhmn_2 : Int32) (yhmf_2 : Nat → Int32) (yhbn_2 : Int32) (yhbf_2 : Nat → Int32) (yhsn_2 : Int32) (yhsf_2 : Nat → Int32) (yhcn_2 : Int32) (yhcf_2 : Nat → Int32) (zrn_2 : Int32) (zmn_2 : Int32) (zwn_2 : Int32) (zpn_2 : Int32) (zmd_2 : Int32) (ztr_2 : Int32) (zrf_2 : Nat → Int32) (zmf_2 : Nat → Int32) (zwf_2 : Nat → Int32) (zpf_2 : Nat → Int32) (kac_2 : Int32) (knx_2 : Int32) (kim_2 : Int32) (cf_2 : Nat → SC) (m_taped_2 : Int32) (d_tape_2 : Nat → Int32) (d_r_2 : Nat → Int32) (d_st_2 : Nat → Int32) (d_undone_2 : Nat → Int32) (d_kept_2 : Nat → Int32) (m_undos_2 : Int32) (m_images_2 : Int32) (m_hasHouse_2 : Int32) (xw2 mw2 : va_W), XW g h0 xtpd_2 tpf_2 yhnf_2 yhtn_2 yhtf_2 yhjn_2 yhjf_2 yhmn_2 yhmf_2 yhbn_2 yhbf_2 yhsn_2 yhsf_2 yhcn_2 yhcf_2 zrn_2 zmn_2 zwn_2 zpn_2 zmd_2 ztr_2 zrf_2 zmf_2 zwf_2 zpf_2 kac_2 knx_2 kim_2 cf_2 xw2 → MW g mo m_taped_2 d_tape_2 d_r_2 d_st_2 d_undone_2 d_kept_2 m_undos_2 m_images_2 m_hasHouse_2 mw2 → LR xtpd_2 tpf_2 yhnf_2 yhtn_2 yhtf_2 yhjn_2 yhjf_2 yhmn_2 yhmf_2 yhbn_2 yhbf_2 yhsn_2 yhsf_2 yhcn_2 yhcf_2 zrn_2 zmn_2 zwn_2 zpn_2 zmd_2 ztr_2 zrf_2 zmf_2 zwf_2 zpf_2 kac_2 knx_2 kim_2 cf_2 m_taped_2 d_tape_2 d_r_2 d_st_2 d_undone_2 d_kept_2 m_undos_2 m_images_2 m_hasHouse_2 → Wk p l e room_1 s m #[Value.ref b] below meth c (lw_Z below #[Value.ref b] s) A g 7 n1 n2 (xw2 ++ (mw2 ++ [(cAJ g lo 1 fo)])) [(4, .int u4), (3, .ref lo), (2, .ref mo), (1, .ref h0), (0, .ref b)] 2062 []) : Wk p l e room_1 s m #[Value.ref b] below meth c (lw_Z below #[Value.ref b] s) A g 7 n1 n2 (xw ++ (mw ++ [(cAJ g lo 1 fo)])) [(4, .int u4), (3, .ref lo), (2, .ref mo), (1, .ref h0), (0, .ref b)] 1411 [] := by
  have hiv : IV u4 0 3066 := ⟨hi.1, by omega⟩
  refine k_aload_n X dL_law_1411 3 rfl ?_
  refine k_aload_n X dL_law_1412 4 rfl ?_
  refine k_iload X dL_law_1413 0 rfl ?_
  refine k_iconst (v := 1) X dL_law_1415 (by decide) ?_
  refine k_iadd X dL_law_1416 ?_
  refine k_nm (fun z_1 ez_1 => ?_)
  have i_2 : z_1.toInt = u4.toInt + 1 := in_add ez_1 hiv (show IV 1 1 1 from (by decide)) (by decide) (by decide)
  have iv_3 : IV z_1 1 3067 := by have := hiv; have := (show IV 1 1 1 from (by decide)); rw [IV, i_2]; omega
  refine k_sld X hX hbl hbA dL_law_1417 (by rw [vp_in_iff]; have := iv_3; omega) ?_
  refine k_nm (fun a_4 ea_4 => ?_)
  refine k_aload_n X dL_law_1418 4 rfl ?_
  refine k_iload X dL_law_1419 0 rfl ?_
  refine k_iconst (v := 2) X dL_law_1421 (by decide) ?_
  refine k_iadd X dL_law_1422 ?_
  refine k_nm (fun z_5 ez_5 => ?_)
  have i_6 : z_5.toInt = u4.toInt + 2 := in_add ez_5 hiv (show IV 2 2 2 from (by decide)) (by decide) (by decide)
  have iv_7 : IV z_5 2 3068 := by have := hiv; have := (show IV 2 2 2 from (by decide)); rw [IV, i_6]; omega
  refine k_sld X hX hbl hbA dL_law_1423 (by rw [vp_in_iff]; have := iv_7; omega) ?_
  refine k_nm (fun a_8 ea_8 => ?_)
  refine k_aload_n X dL_law_1424 4 rfl ?_
  refine k_iload X dL_law_1425 0 rfl ?_
  refine k_iconst (v := 3) X dL_law_1427 (by decide) ?_
  refine k_iadd X dL_law_1428 ?_
  refine k_nm (fun z_9 ez_9 => ?_)
  have i_10 : z_9.toInt = u4.toInt + 3 := in_add ez_9 hiv (show IV 3 3 3 from (by decide)) (by decide) (by decide)
  have iv_11 : IV z_9 3 3069 := by have := hiv; have := (show IV 3 3 3 from (by decide)); rw [IV, i_10]; omega
  refine k_sld X hX hbl hbA dL_law_1429 (by rw [vp_in_iff]; have := iv_11; omega) ?_
  refine k_nm (fun a_12 ea_12 => ?_)
  refine k_if_eq 1437 X dL_law_1430 (by decide) (fun h_13 => ?_) (fun h_13 => ?_)
  · skip
    have iv_14 : IV a_12 0 0 := iv_meet (iv_any a_12) (iv_e h_13 (show IV 0 0 0 from (by decide))) (by decide) (by decide)
    refine k_iconst (v := 0) X dL_law_1437 (by decide) ?_
    refine lx_holds (st := []) a_4 a_8 0 X hx dL_law_1438 mw1239 (Nat.le_of_ble_eq_true rfl) (Nat.le_of_ble_eq_true rfl) (Nat.le_of_ble_eq_true rfl) (Nat.le_trans h1 (Nat.le_of_ble_eq_true rfl)) (Nat.le_trans h2 (Nat.le_of_ble_eq_true rfl)) (fun r_15 xw_16 hx_17 => ?_)
    refine k_pop2 X dL_law_1441 rfl ?_
    refine k_aload_n X dL_law_1442 2 rfl ?_
    refine k_aload_n X dL_law_1443 4 rfl ?_
    refine k_iload X dL_law_1444 0 rfl ?_
    refine k_iconst (v := 1) X dL_law_1446 (by decide) ?_
    refine k_iadd X dL_law_1447 ?_
    refine k_to z_1 ez_1.symm ?_
    refine k_sld X hX hbl hbA dL_law_1448 (by rw [vp_in_iff]; have := iv_3; omega) ?_
    refine k_to a_4 ea_4.symm ?_
    refine k_aload_n X dL_law_1449 4 rfl ?_
    refine k_iload X dL_law_1450 0 rfl ?_
    refine k_iconst (v := 2) X dL_law_1452 (by decide) ?_
    refine k_iadd X dL_law_1453 ?_
    refine k_to z_5 ez_5.symm ?_
    refine k_sld X hX hbl hbA dL_law_1454 (by rw [vp_in_iff]; have := iv_7; omega) ?_
    refine k_to a_8 ea_8.symm ?_
    refine k_aload_n X dL_law_1455 4 rfl ?_
    refine k_iload X dL_law_1456 0 rfl ?_
    refine k_iconst (v := 3) X dL_law_1458 (by decide) ?_
    refine k_iadd X dL_law_1459 ?_
    refine k_to z_9 ez_9.symm ?_
    refine k_sld X hX hbl hbA dL_law_1460 (by rw [vp_in_iff]; have := iv_11; omega) ?_
    refine k_to a_12 ea_12.symm ?_
    refine k_if_eq 1468 X dL_law_1461 (by decide) (fun h_18 => ?_) (fun h_18 => absurd h_13 h_18)
    refine k_iconst (v := 0) X dL_law_1468 (by decide) ?_
    refine lm_holds (st := []) a_4 a_8 0 X hm dL_law_1469 mw1248 (Nat.le_of_ble_eq_true rfl) (Nat.le_of_ble_eq_true rfl) (Nat.le_of_ble_eq_true rfl) (Nat.le_trans h1 (Nat.le_of_ble_eq_true rfl)) (Nat.le_trans h2 (Nat.le_of_ble_eq_true rfl)) (fun r_19 mw_20 hm_21 => ?_)
    refine k_pop2 X dL_law_1472 rfl ?_
    refine k_goto 2062 X dL_law_1473 (by decide) ?_
    exact kk _ _ _ _ _ _ _ _ _ _ _ _ _ _ _ _ _ _ _ _ _ _ _ _ _ _ _ _ _ _ _ _ _ _ _ _ _ _ _ _ hx_17 hm_21 hR
  · skip
    refine k_iconst (v := 1) X dL_law_1433 (by decide) ?_
    refine k_goto 1438 X dL_law_1434 (by decide) ?_
    refine lx_holds (st := []) a_4 a_8 1 X hx dL_law_1438 mw1239 (Nat.le_of_ble_eq_true rfl) (Nat.le_of_ble_eq_true rfl) (Nat.le_of_ble_eq_true rfl) (Nat.le_trans h1 (Nat.le_of_ble_eq_true rfl)) (Nat.le_trans h2 (Nat.le_of_ble_eq_true rfl)) (fun r_22 xw_23 hx_24 => ?_)
    refine k_pop2 X dL_law_1441 rfl ?_
    refine k_aload_n X dL_law_1442 2 rfl ?_
    refine k_aload_n X dL_law_1443 4 rfl ?_
    refine k_iload X dL_law_1444 0 rfl ?_
    refine k_iconst (v := 1) X dL_law_1446 (by decide) ?_
    refine k_iadd X dL_law_1447 ?_
    refine k_to z_1 ez_1.symm ?_
    refine k_sld X hX hbl hbA dL_law_1448 (by rw [vp_in_iff]; have := iv_3; omega) ?_
    refine k_to a_4 ea_4.symm ?_
    refine k_aload_n X dL_law_1449 4 rfl ?_
    refine k_iload X dL_law_1450 0 rfl ?_
    refine k_iconst (v := 2) X dL_law_1452 (by decide) ?_
    refine k_iadd X dL_law_1453 ?_
    refine k_to z_5 ez_5.symm ?_
    refine k_sld X hX hbl hbA dL_law_1454 (by rw [vp_in_iff]; have := iv_7; omega) ?_
    refine k_to a_8 ea_8.symm ?_
    refine k_aload_n X dL_law_1455 4 rfl ?_
    refine k_iload X dL_law_1456 0 rfl ?_
    refine k_iconst (v := 3) X dL_law_1458 (by decide) ?_
    refine k_iadd X dL_law_1459 ?_
    refine k_to z_9 ez_9.symm ?_
    refine k_sld X hX hbl hbA dL_law_1460 (by rw [vp_in_iff]; have := iv_11; omega) ?_
    refine k_to a_12 ea_12.symm ?_
    refine k_if_eq 1468 X dL_law_1461 (by decide) (fun h_25 => absurd h_25 h_13) (fun h_25 => ?_)
    refine k_iconst (v := 1) X dL_law_1464 (by decide) ?_
    refine k_goto 1469 X dL_law_1465 (by decide) ?_
    refine lm_holds (st := []) a_4 a_8 1 X hm dL_law_1469 mw1248 (Nat.le_of_ble_eq_true rfl) (Nat.le_of_ble_eq_true rfl) (Nat.le_of_ble_eq_true rfl) (Nat.le_trans h1 (Nat.le_of_ble_eq_true rfl)) (Nat.le_trans h2 (Nat.le_of_ble_eq_true rfl)) (fun r_26 mw_27 hm_28 => ?_)
    refine k_pop2 X dL_law_1472 rfl ?_
    refine k_goto 2062 X dL_law_1473 (by decide) ?_
    exact kk _ _ _ _ _ _ _ _ _ _ _ _ _ _ _ _ _ _ _ _ _ _ _ _ _ _ _ _ _ _ _ _ _ _ _ _ _ _ _ _ hx_24 hm_28 hR

theorem dL_law_1476 : decode cL_law 1476 = .ok (.aload_n 1, 1) := dk_43 (kat_23 4 rfl)
theorem dL_law_1477 : decode cL_law 1477 = .ok (.aload_n 0, 1) := dk_42 (kat_23 5 rfl)
theorem dL_law_1478 : decode cL_law 1478 = .ok (.iload 4, 2) := dk_21 (kat_23 6 rfl) (kat_23 7 rfl) rfl
theorem dL_law_1480 : decode cL_law 1480 = .ok (.iconst 1, 1) := dk_4 (kat_23 8 rfl)
theorem dL_law_1481 : decode cL_law 1481 = .ok (.iadd, 1) := dk_96 (kat_23 9 rfl)
theorem dL_law_1482 : decode cL_law 1482 = .ok (.iaload, 1) := dk_46 (kat_23 10 rfl)
theorem dL_law_1483 : decode cL_law 1483 = .ok (.aload_n 0, 1) := dk_42 (kat_23 11 rfl)
theorem dL_law_1484 : decode cL_law 1484 = .ok (.iload 4, 2) := dk_21 (kat_23 12 rfl) (kat_23 13 rfl) rfl
theorem dL_law_1486 : decode cL_law 1486 = .ok (.iconst 2, 1) := dk_5 (kat_23 14 rfl)
theorem dL_law_1487 : decode cL_law 1487 = .ok (.iadd, 1) := dk_96 (kat_23 15 rfl)
theorem dL_law_1488 : decode cL_law 1488 = .ok (.iaload, 1) := dk_46 (kat_23 16 rfl)
theorem dL_law_1489 : decode cL_law 1489 = .ok (.invokevirtual 168, 3) := dk_182 (kat_23 17 rfl) (kat_23 18 rfl) (kat_23 19 rfl) rfl
theorem dL_law_1492 : decode cL_law 1492 = .ok (.pop, 1) := dk_87 (kat_23 20 rfl)
theorem dL_law_1493 : decode cL_law 1493 = .ok (.aload_n 2, 1) := dk_44 (kat_23 21 rfl)
theorem dL_law_1494 : decode cL_law 1494 = .ok (.aload_n 0, 1) := dk_42 (kat_23 22 rfl)
theorem dL_law_1495 : decode cL_law 1495 = .ok (.iload 4, 2) := dk_21 (kat_23 23 rfl) (kat_23 24 rfl) rfl
theorem dL_law_1497 : decode cL_law 1497 = .ok (.iconst 1, 1) := dk_4 (kat_23 25 rfl)
theorem dL_law_1498 : decode cL_law 1498 = .ok (.iadd, 1) := dk_96 (kat_23 26 rfl)
theorem dL_law_1499 : decode cL_law 1499 = .ok (.iaload, 1) := dk_46 (kat_23 27 rfl)
theorem dL_law_1500 : decode cL_law 1500 = .ok (.aload_n 0, 1) := dk_42 (kat_23 28 rfl)
theorem dL_law_1501 : decode cL_law 1501 = .ok (.iload 4, 2) := dk_21 (kat_23 29 rfl) (kat_23 30 rfl) rfl
theorem dL_law_1503 : decode cL_law 1503 = .ok (.iconst 2, 1) := dk_5 (kat_23 31 rfl)
theorem dL_law_1504 : decode cL_law 1504 = .ok (.iadd, 1) := dk_96 (kat_23 32 rfl)
theorem dL_law_1505 : decode cL_law 1505 = .ok (.iaload, 1) := dk_46 (kat_23 33 rfl)
theorem dL_law_1506 : decode cL_law 1506 = .ok (.invokevirtual 171, 3) := dk_182 (kat_23 34 rfl) (kat_23 35 rfl) (kat_23 36 rfl) rfl
theorem dL_law_1509 : decode cL_law 1509 = .ok (.pop, 1) := dk_87 (kat_23 37 rfl)
theorem dL_law_1510 : decode cL_law 1510 = .ok (.goto 552, 3) := dk_167 (kat_23 38 rfl) (kat_23 39 rfl) (kat_23 40 rfl) (by decide)
set_option maxHeartbeats 4000000 in
set_option maxRecDepth 100000 in
theorem law_c36 {p : Program} {l : Launch} {e : Env} {s : State} {m : MethodId} {below : List Frame} {meth : Method} {c : Code} {A : Nat → Prop} {g : Gx} {b L : Nat} {xs : Nat → Int32} {h0 mo lo n1 n2 : Nat} {fo : Nat → Int64} {u4 : Int32} {xtpd : Int32} {tpf : Nat → Int32} {yhnf : Nat → Int32} {yhtn : Int32} {yhtf : Nat → Int32} {yhjn : Int32} {yhjf : Nat → Int32} {yhmn : Int32} {yhmf : Nat → Int32} {yhbn : Int32} {yhbf : Nat → Int32} {yhsn : Int32} {yhsf : Nat → Int32} {yhcn : Int32} {yhcf : Nat → Int32} {zrn : Int32} {zmn : Int32} {zwn : Int32} {zpn : Int32} {zmd : Int32} {ztr : Int32} {zrf : Nat → Int32} {zmf : Nat → Int32} {zwf : Nat → Int32} {zpf : Nat → Int32} {kac : Int32} {knx : Int32} {kim : Int32} {cf : Nat → SC} {m_taped : Int32} {d_tape : Nat → Int32} {d_r : Nat → Int32} {d_st : Nat → Int32} {d_undone : Nat → Int32} {d_kept : Nat → Int32} {m_undos : Int32} {m_images : Int32} {m_hasHouse : Int32} {xw mw : va_W} (X : Cx p s m meth c #[Value.ref b] cL_law 7 RL A g) (hX : va_X b L xs s s.heap) (hbl : b < s.heap.size) (hbA : ¬ A b) (hi : 0 ≤ u4.toInt ∧ u4.toInt + 6 ≤ (L : Int)) (hL : L ≤ 3072) (h1 : n1 ≤ 601023) (h2 : n2 ≤ 7293028) (hlt : l.stackTraces = false) (hZ : kZ A s s.heap) (htsE : ∀ w ∈ wsE, w.before #[Value.ref b] s = true) (hx : XW g h0 xtpd tpf yhnf yhtn yhtf yhjn yhjf yhmn yhmf yhbn yhbf yhsn yhsf yhcn yhcf zrn zmn zwn zpn zmd ztr zrf zmf zwf zpf kac knx kim cf xw) (hm : MW g mo m_taped d_tape d_r d_st d_undone d_kept m_undos m_images m_hasHouse mw) (hR : LR xtpd tpf yhnf yhtn yhtf yhjn yhjf yhmn yhmf yhbn yhbf yhsn yhsf yhcn yhcf zrn zmn zwn zpn zmd ztr zrf zmf zwf zpf kac knx kim cf m_taped d_tape d_r d_st d_undone d_kept m_undos m_images m_hasHouse) (kk : ∀ (xtpd_2 : Int32) (tpf_2 : Nat → Int32) (yhnf_2 : Nat → Int32) (yhtn_2 : Int32) (yhtf_2 : Nat → Int32) (yhjn_2 : Int32) (yhjf_2 : Nat → Int32) (yhmn_2 : Int32) (yhmf_2 : Nat → Int32) (yhbn_2 : Int32) (yhbf_2 : Nat → Int32) (yhsn_2 : Int32) (yhsf_2 : Nat → Int32) (yhcn_2 : Int32) (yhcf_2 : Nat → Int32) (zrn_2 : Int32) (zmn_2 : Int32) (zwn_2 : Int32) (zpn_2 : Int32) (zmd_2 : Int32) (ztr_2 : Int32) (zrf_2 : Nat → Int32) (zmf_2 : Nat → Int32) (zwf_2 : Nat → Int32) (zpf_2 : Nat → Int32) (kac_2 : Int32) (knx_2 : Int32) (kim_2 : Int32) (cf_2 : Nat → SC) (m_taped_2 : Int32) (d_tape_2 : Nat → Int32) (d_r_2 : Nat → Int32) (d_st_2 : Nat → Int32) (d_undone_2 : Nat → Int32) (d_kept_2 : Nat → Int32) (m_undos_2 : Int32) (m_images_2 : Int32) (m_hasHouse_2 : Int32) (xw2 mw2 : va_W), XW g h0 xtpd_2 tpf_2 yhnf_2 yhtn_2 yhtf_2 yhjn_2 yhjf_2 yhmn_2 yhmf_2 yhbn_2 yhbf_2 yhsn_2 yhsf_2 yhcn_2 yhcf_2 zrn_2 zmn_2 zwn_2 zpn_2 zmd_2 ztr_2 zrf_2 zmf_2 zwf_2 zpf_2 kac_2 knx_2 kim_2 cf_2 xw2 → MW g mo m_taped_2 d_tape_2 d_r_2 d_st_2 d_undone_2 d_kept_2 m_undos_2 m_images_2 m_hasHouse_2 mw2 → LR xtpd_2 tpf_2 yhnf_2 yhtn_2 yhtf_2 yhjn_2 yhjf_2 yhmn_2 yhmf_2 yhbn_2 yhbf_2 yhsn_2 yhsf_2 yhcn_2 yhcf_2 zrn_2 zmn_2 zwn_2 zpn_2 zmd_2 ztr_2 zrf_2 zmf_2 zwf_2 zpf_2 kac_2 knx_2 kim_2 cf_2 m_taped_2 d_tape_2 d_r_2 d_st_2 d_undone_2 d_kept_2 m_undos_2 m_images_2 m_hasHouse_2 → Wk p l e room_1 s m #[Value.ref b] below meth c (lw_Z below #[Value.ref b] s) A g 7 n1 n2 (xw2 ++ (mw2 ++ [(cAJ g lo 1 fo)])) [(4, .int u4), (3, .ref lo), (2, .ref mo), (1, .ref h0), (0, .ref b)] 2062 []) : Wk p l e room_1 s m #[Value.ref b] below meth c (lw_Z below #[Value.ref b] s) A g 7 n1 n2 (xw ++ (mw ++ [(cAJ g lo 1 fo)])) [(4, .int u4), (3, .ref lo), (2, .ref mo), (1, .ref h0), (0, .ref b)] 1476 [] := by
  have hiv : IV u4 0 3066 := ⟨hi.1, by omega⟩
  refine k_aload_n X dL_law_1476 3 rfl ?_
  refine k_aload_n X dL_law_1477 4 rfl ?_
  refine k_iload X dL_law_1478 0 rfl ?_
  refine k_iconst (v := 1) X dL_law_1480 (by decide) ?_
  refine k_iadd X dL_law_1481 ?_
  refine k_nm (fun z_1 ez_1 => ?_)
  have i_2 : z_1.toInt = u4.toInt + 1 := in_add ez_1 hiv (show IV 1 1 1 from (by decide)) (by decide) (by decide)
  have iv_3 : IV z_1 1 3067 := by have := hiv; have := (show IV 1 1 1 from (by decide)); rw [IV, i_2]; omega
  refine k_sld X hX hbl hbA dL_law_1482 (by rw [vp_in_iff]; have := iv_3; omega) ?_
  refine k_nm (fun a_4 ea_4 => ?_)
  refine k_aload_n X dL_law_1483 4 rfl ?_
  refine k_iload X dL_law_1484 0 rfl ?_
  refine k_iconst (v := 2) X dL_law_1486 (by decide) ?_
  refine k_iadd X dL_law_1487 ?_
  refine k_nm (fun z_5 ez_5 => ?_)
  have i_6 : z_5.toInt = u4.toInt + 2 := in_add ez_5 hiv (show IV 2 2 2 from (by decide)) (by decide) (by decide)
  have iv_7 : IV z_5 2 3068 := by have := hiv; have := (show IV 2 2 2 from (by decide)); rw [IV, i_6]; omega
  refine k_sld X hX hbl hbA dL_law_1488 (by rw [vp_in_iff]; have := iv_7; omega) ?_
  refine k_nm (fun a_8 ea_8 => ?_)
  refine lx_pays (st := []) a_4 a_8 X hx dL_law_1489 mw1259 (Nat.le_of_ble_eq_true rfl) (Nat.le_of_ble_eq_true rfl) (Nat.le_of_ble_eq_true rfl) (Nat.le_trans h1 (Nat.le_of_ble_eq_true rfl)) (Nat.le_trans h2 (Nat.le_of_ble_eq_true rfl)) (fun r_9 xw_10 hx_11 => ?_)
  refine k_pop X dL_law_1492 rfl ?_
  refine k_aload_n X dL_law_1493 2 rfl ?_
  refine k_aload_n X dL_law_1494 4 rfl ?_
  refine k_iload X dL_law_1495 0 rfl ?_
  refine k_iconst (v := 1) X dL_law_1497 (by decide) ?_
  refine k_iadd X dL_law_1498 ?_
  refine k_to z_1 ez_1.symm ?_
  refine k_sld X hX hbl hbA dL_law_1499 (by rw [vp_in_iff]; have := iv_3; omega) ?_
  refine k_to a_4 ea_4.symm ?_
  refine k_aload_n X dL_law_1500 4 rfl ?_
  refine k_iload X dL_law_1501 0 rfl ?_
  refine k_iconst (v := 2) X dL_law_1503 (by decide) ?_
  refine k_iadd X dL_law_1504 ?_
  refine k_to z_5 ez_5.symm ?_
  refine k_sld X hX hbl hbA dL_law_1505 (by rw [vp_in_iff]; have := iv_7; omega) ?_
  refine k_to a_8 ea_8.symm ?_
  refine lm_pays (st := []) a_4 a_8 X hm dL_law_1506 mw1265 (Nat.le_of_ble_eq_true rfl) (Nat.le_of_ble_eq_true rfl) (Nat.le_of_ble_eq_true rfl) (Nat.le_trans h1 (Nat.le_of_ble_eq_true rfl)) (Nat.le_trans h2 (Nat.le_of_ble_eq_true rfl)) (fun r_12 mw_13 hm_14 => ?_)
  refine k_pop X dL_law_1509 rfl ?_
  refine k_goto 2062 X dL_law_1510 (by decide) ?_
  exact kk _ _ _ _ _ _ _ _ _ _ _ _ _ _ _ _ _ _ _ _ _ _ _ _ _ _ _ _ _ _ _ _ _ _ _ _ _ _ _ _ hx_11 hm_14 hR

theorem dL_law_1513 : decode cL_law 1513 = .ok (.aload_n 1, 1) := dk_43 (kat_23 41 rfl)
theorem dL_law_1514 : decode cL_law 1514 = .ok (.aload_n 0, 1) := dk_42 (kat_23 42 rfl)
theorem dL_law_1515 : decode cL_law 1515 = .ok (.iload 4, 2) := dk_21 (kat_23 43 rfl) (kat_23 44 rfl) rfl
theorem dL_law_1517 : decode cL_law 1517 = .ok (.iconst 1, 1) := dk_4 (kat_23 45 rfl)
theorem dL_law_1518 : decode cL_law 1518 = .ok (.iadd, 1) := dk_96 (kat_23 46 rfl)
theorem dL_law_1519 : decode cL_law 1519 = .ok (.iaload, 1) := dk_46 (kat_23 47 rfl)
theorem dL_law_1520 : decode cL_law 1520 = .ok (.aload_n 0, 1) := dk_42 (kat_23 48 rfl)
theorem dL_law_1521 : decode cL_law 1521 = .ok (.iload 4, 2) := dk_21 (kat_23 49 rfl) (kat_23 50 rfl) rfl
theorem dL_law_1523 : decode cL_law 1523 = .ok (.iconst 2, 1) := dk_5 (kat_23 51 rfl)
theorem dL_law_1524 : decode cL_law 1524 = .ok (.iadd, 1) := dk_96 (kat_23 52 rfl)
theorem dL_law_1525 : decode cL_law 1525 = .ok (.iaload, 1) := dk_46 (kat_23 53 rfl)
theorem dL_law_1526 : decode cL_law 1526 = .ok (.aload_n 0, 1) := dk_42 (kat_23 54 rfl)
theorem dL_law_1527 : decode cL_law 1527 = .ok (.iload 4, 2) := dk_21 (kat_23 55 rfl) (kat_23 56 rfl) rfl
theorem dL_law_1529 : decode cL_law 1529 = .ok (.iconst 3, 1) := dk_6 (kat_23 57 rfl)
theorem dL_law_1530 : decode cL_law 1530 = .ok (.iadd, 1) := dk_96 (kat_23 58 rfl)
theorem dL_law_1531 : decode cL_law 1531 = .ok (.iaload, 1) := dk_46 (kat_23 59 rfl)
theorem dL_law_1532 : decode cL_law 1532 = .ok (.ifCond .eq 7, 3) := by decide +kernel
theorem dL_law_1535 : decode cL_law 1535 = .ok (.iconst 1, 1) := dk_4 (kat_23 63 rfl)
theorem dL_law_1536 : decode cL_law 1536 = .ok (.goto 4, 3) := dk_167 (kat_24 0 rfl) (kat_24 1 rfl) (kat_24 2 rfl) (by decide)
theorem dL_law_1539 : decode cL_law 1539 = .ok (.iconst 0, 1) := dk_3 (kat_24 3 rfl)
theorem dL_law_1540 : decode cL_law 1540 = .ok (.invokevirtual 172, 3) := dk_182 (kat_24 4 rfl) (kat_24 5 rfl) (kat_24 6 rfl) rfl
theorem dL_law_1543 : decode cL_law 1543 = .ok (.pop2, 1) := dk_88 (kat_24 7 rfl)
theorem dL_law_1544 : decode cL_law 1544 = .ok (.aload_n 2, 1) := dk_44 (kat_24 8 rfl)
theorem dL_law_1545 : decode cL_law 1545 = .ok (.aload_n 0, 1) := dk_42 (kat_24 9 rfl)
theorem dL_law_1546 : decode cL_law 1546 = .ok (.iload 4, 2) := dk_21 (kat_24 10 rfl) (kat_24 11 rfl) rfl
theorem dL_law_1548 : decode cL_law 1548 = .ok (.iconst 1, 1) := dk_4 (kat_24 12 rfl)
theorem dL_law_1549 : decode cL_law 1549 = .ok (.iadd, 1) := dk_96 (kat_24 13 rfl)
theorem dL_law_1550 : decode cL_law 1550 = .ok (.iaload, 1) := dk_46 (kat_24 14 rfl)
theorem dL_law_1551 : decode cL_law 1551 = .ok (.aload_n 0, 1) := dk_42 (kat_24 15 rfl)
theorem dL_law_1552 : decode cL_law 1552 = .ok (.iload 4, 2) := dk_21 (kat_24 16 rfl) (kat_24 17 rfl) rfl
theorem dL_law_1554 : decode cL_law 1554 = .ok (.iconst 2, 1) := dk_5 (kat_24 18 rfl)
theorem dL_law_1555 : decode cL_law 1555 = .ok (.iadd, 1) := dk_96 (kat_24 19 rfl)
theorem dL_law_1556 : decode cL_law 1556 = .ok (.iaload, 1) := dk_46 (kat_24 20 rfl)
theorem dL_law_1557 : decode cL_law 1557 = .ok (.aload_n 0, 1) := dk_42 (kat_24 21 rfl)
theorem dL_law_1558 : decode cL_law 1558 = .ok (.iload 4, 2) := dk_21 (kat_24 22 rfl) (kat_24 23 rfl) rfl
theorem dL_law_1560 : decode cL_law 1560 = .ok (.iconst 3, 1) := dk_6 (kat_24 24 rfl)
theorem dL_law_1561 : decode cL_law 1561 = .ok (.iadd, 1) := dk_96 (kat_24 25 rfl)
theorem dL_law_1562 : decode cL_law 1562 = .ok (.iaload, 1) := dk_46 (kat_24 26 rfl)
theorem dL_law_1563 : decode cL_law 1563 = .ok (.ifCond .eq 7, 3) := by decide +kernel
theorem dL_law_1566 : decode cL_law 1566 = .ok (.iconst 1, 1) := dk_4 (kat_24 30 rfl)
theorem dL_law_1567 : decode cL_law 1567 = .ok (.goto 4, 3) := dk_167 (kat_24 31 rfl) (kat_24 32 rfl) (kat_24 33 rfl) (by decide)
theorem dL_law_1570 : decode cL_law 1570 = .ok (.iconst 0, 1) := dk_3 (kat_24 34 rfl)
theorem dL_law_1571 : decode cL_law 1571 = .ok (.invokevirtual 175, 3) := dk_182 (kat_24 35 rfl) (kat_24 36 rfl) (kat_24 37 rfl) rfl
theorem dL_law_1574 : decode cL_law 1574 = .ok (.pop2, 1) := dk_88 (kat_24 38 rfl)
theorem dL_law_1575 : decode cL_law 1575 = .ok (.goto 487, 3) := dk_167 (kat_24 39 rfl) (kat_24 40 rfl) (kat_24 41 rfl) (by decide)
set_option maxHeartbeats 4000000 in
set_option maxRecDepth 100000 in
theorem law_c37 {p : Program} {l : Launch} {e : Env} {s : State} {m : MethodId} {below : List Frame} {meth : Method} {c : Code} {A : Nat → Prop} {g : Gx} {b L : Nat} {xs : Nat → Int32} {h0 mo lo n1 n2 : Nat} {fo : Nat → Int64} {u4 : Int32} {xtpd : Int32} {tpf : Nat → Int32} {yhnf : Nat → Int32} {yhtn : Int32} {yhtf : Nat → Int32} {yhjn : Int32} {yhjf : Nat → Int32} {yhmn : Int32} {yhmf : Nat → Int32} {yhbn : Int32} {yhbf : Nat → Int32} {yhsn : Int32} {yhsf : Nat → Int32} {yhcn : Int32} {yhcf : Nat → Int32} {zrn : Int32} {zmn : Int32} {zwn : Int32} {zpn : Int32} {zmd : Int32} {ztr : Int32} {zrf : Nat → Int32} {zmf : Nat → Int32} {zwf : Nat → Int32} {zpf : Nat → Int32} {kac : Int32} {knx : Int32} {kim : Int32} {cf : Nat → SC} {m_taped : Int32} {d_tape : Nat → Int32} {d_r : Nat → Int32} {d_st : Nat → Int32} {d_undone : Nat → Int32} {d_kept : Nat → Int32} {m_undos : Int32} {m_images : Int32} {m_hasHouse : Int32} {xw mw : va_W} (X : Cx p s m meth c #[Value.ref b] cL_law 7 RL A g) (hX : va_X b L xs s s.heap) (hbl : b < s.heap.size) (hbA : ¬ A b) (hi : 0 ≤ u4.toInt ∧ u4.toInt + 6 ≤ (L : Int)) (hL : L ≤ 3072) (h1 : n1 ≤ 601023) (h2 : n2 ≤ 7293028) (hlt : l.stackTraces = false) (hZ : kZ A s s.heap) (htsE : ∀ w ∈ wsE, w.before #[Value.ref b] s = true) (hx : XW g h0 xtpd tpf yhnf yhtn yhtf yhjn yhjf yhmn yhmf yhbn yhbf yhsn yhsf yhcn yhcf zrn zmn zwn zpn zmd ztr zrf zmf zwf zpf kac knx kim cf xw) (hm : MW g mo m_taped d_tape d_r d_st d_undone d_kept m_undos m_images m_hasHouse mw) (hR : LR xtpd tpf yhnf yhtn yhtf yhjn yhjf yhmn yhmf yhbn yhbf yhsn yhsf yhcn yhcf zrn zmn zwn zpn zmd ztr zrf zmf zwf zpf kac knx kim cf m_taped d_tape d_r d_st d_undone d_kept m_undos m_images m_hasHouse) (kk : ∀ (xtpd_2 : Int32) (tpf_2 : Nat → Int32) (yhnf_2 : Nat → Int32) (yhtn_2 : Int32) (yhtf_2 : Nat → Int32) (yhjn_2 : Int32) (yhjf_2 : Nat → Int32) (yhmn_2 : Int32) (yhmf_2 : Nat → Int32) (yhbn_2 : Int32) (yhbf_2 : Nat → Int32) (yhsn_2 : Int32) (yhsf_2 : Nat → Int32) (yhcn_2 : Int32) (yhcf_2 : Nat → Int32) (zrn_2 : Int32) (zmn_2 : Int32) (zwn_2 : Int32) (zpn_2 : Int32) (zmd_2 : Int32) (ztr_2 : Int32) (zrf_2 : Nat → Int32) (zmf_2 : Nat → Int32) (zwf_2 : Nat → Int32) (zpf_2 : Nat → Int32) (kac_2 : Int32) (knx_2 : Int32) (kim_2 : Int32) (cf_2 : Nat → SC) (m_taped_2 : Int32) (d_tape_2 : Nat → Int32) (d_r_2 : Nat → Int32) (d_st_2 : Nat → Int32) (d_undone_2 : Nat → Int32) (d_kept_2 : Nat → Int32) (m_undos_2 : Int32) (m_images_2 : Int32) (m_hasHouse_2 : Int32) (xw2 mw2 : va_W), XW g h0 xtpd_2 tpf_2 yhnf_2 yhtn_2 yhtf_2 yhjn_2 yhjf_2 yhmn_2 yhmf_2 yhbn_2 yhbf_2 yhsn_2 yhsf_2 yhcn_2 yhcf_2 zrn_2 zmn_2 zwn_2 zpn_2 zmd_2 ztr_2 zrf_2 zmf_2 zwf_2 zpf_2 kac_2 knx_2 kim_2 cf_2 xw2 → MW g mo m_taped_2 d_tape_2 d_r_2 d_st_2 d_undone_2 d_kept_2 m_undos_2 m_images_2 m_hasHouse_2 mw2 → LR xtpd_2 tpf_2 yhnf_2 yhtn_2 yhtf_2 yhjn_2 yhjf_2 yhmn_2 yhmf_2 yhbn_2 yhbf_2 yhsn_2 yhsf_2 yhcn_2 yhcf_2 zrn_2 zmn_2 zwn_2 zpn_2 zmd_2 ztr_2 zrf_2 zmf_2 zwf_2 zpf_2 kac_2 knx_2 kim_2 cf_2 m_taped_2 d_tape_2 d_r_2 d_st_2 d_undone_2 d_kept_2 m_undos_2 m_images_2 m_hasHouse_2 → Wk p l e room_1 s m #[Value.ref b] below meth c (lw_Z below #[Value.ref b] s) A g 7 n1 n2 (xw2 ++ (mw2 ++ [(cAJ g lo 1 fo)])) [(4, .int u4), (3, .ref lo), (2, .ref mo), (1, .ref h0), (0, .ref b)] 2062 []) : Wk p l e room_1 s m #[Value.ref b] below meth c (lw_Z below #[Value.ref b] s) A g 7 n1 n2 (xw ++ (mw ++ [(cAJ g lo 1 fo)])) [(4, .int u4), (3, .ref lo), (2, .ref mo), (1, .ref h0), (0, .ref b)] 1513 [] := by
  have hiv : IV u4 0 3066 := ⟨hi.1, by omega⟩
  refine k_aload_n X dL_law_1513 3 rfl ?_
  refine k_aload_n X dL_law_1514 4 rfl ?_
  refine k_iload X dL_law_1515 0 rfl ?_
  refine k_iconst (v := 1) X dL_law_1517 (by decide) ?_
  refine k_iadd X dL_law_1518 ?_
  refine k_nm (fun z_1 ez_1 => ?_)
  have i_2 : z_1.toInt = u4.toInt + 1 := in_add ez_1 hiv (show IV 1 1 1 from (by decide)) (by decide) (by decide)
  have iv_3 : IV z_1 1 3067 := by have := hiv; have := (show IV 1 1 1 from (by decide)); rw [IV, i_2]; omega
  refine k_sld X hX hbl hbA dL_law_1519 (by rw [vp_in_iff]; have := iv_3; omega) ?_
  refine k_nm (fun a_4 ea_4 => ?_)
  refine k_aload_n X dL_law_1520 4 rfl ?_
  refine k_iload X dL_law_1521 0 rfl ?_
  refine k_iconst (v := 2) X dL_law_1523 (by decide) ?_
  refine k_iadd X dL_law_1524 ?_
  refine k_nm (fun z_5 ez_5 => ?_)
  have i_6 : z_5.toInt = u4.toInt + 2 := in_add ez_5 hiv (show IV 2 2 2 from (by decide)) (by decide) (by decide)
  have iv_7 : IV z_5 2 3068 := by have := hiv; have := (show IV 2 2 2 from (by decide)); rw [IV, i_6]; omega
  refine k_sld X hX hbl hbA dL_law_1525 (by rw [vp_in_iff]; have := iv_7; omega) ?_
  refine k_nm (fun a_8 ea_8 => ?_)
  refine k_aload_n X dL_law_1526 4 rfl ?_
  refine k_iload X dL_law_1527 0 rfl ?_
  refine k_iconst (v := 3) X dL_law_1529 (by decide) ?_
  refine k_iadd X dL_law_1530 ?_
  refine k_nm (fun z_9 ez_9 => ?_)
  have i_10 : z_9.toInt = u4.toInt + 3 := in_add ez_9 hiv (show IV 3 3 3 from (by decide)) (by decide) (by decide)
  have iv_11 : IV z_9 3 3069 := by have := hiv; have := (show IV 3 3 3 from (by decide)); rw [IV, i_10]; omega
  refine k_sld X hX hbl hbA dL_law_1531 (by rw [vp_in_iff]; have := iv_11; omega) ?_
  refine k_nm (fun a_12 ea_12 => ?_)
  refine k_if_eq 1539 X dL_law_1532 (by decide) (fun h_13 => ?_) (fun h_13 => ?_)
  · skip
    have iv_14 : IV a_12 0 0 := iv_meet (iv_any a_12) (iv_e h_13 (show IV 0 0 0 from (by decide))) (by decide) (by decide)
    refine k_iconst (v := 0) X dL_law_1539 (by decide) ?_
    refine lx_wears (st := []) a_4 a_8 0 X hx dL_law_1540 mw1270 (Nat.le_of_ble_eq_true rfl) (Nat.le_of_ble_eq_true rfl) (Nat.le_of_ble_eq_true rfl) (Nat.le_trans h1 (Nat.le_of_ble_eq_true rfl)) (Nat.le_trans h2 (Nat.le_of_ble_eq_true rfl)) (fun r_15 xw_16 hx_17 => ?_)
    refine k_pop2 X dL_law_1543 rfl ?_
    refine k_aload_n X dL_law_1544 2 rfl ?_
    refine k_aload_n X dL_law_1545 4 rfl ?_
    refine k_iload X dL_law_1546 0 rfl ?_
    refine k_iconst (v := 1) X dL_law_1548 (by decide) ?_
    refine k_iadd X dL_law_1549 ?_
    refine k_to z_1 ez_1.symm ?_
    refine k_sld X hX hbl hbA dL_law_1550 (by rw [vp_in_iff]; have := iv_3; omega) ?_
    refine k_to a_4 ea_4.symm ?_
    refine k_aload_n X dL_law_1551 4 rfl ?_
    refine k_iload X dL_law_1552 0 rfl ?_
    refine k_iconst (v := 2) X dL_law_1554 (by decide) ?_
    refine k_iadd X dL_law_1555 ?_
    refine k_to z_5 ez_5.symm ?_
    refine k_sld X hX hbl hbA dL_law_1556 (by rw [vp_in_iff]; have := iv_7; omega) ?_
    refine k_to a_8 ea_8.symm ?_
    refine k_aload_n X dL_law_1557 4 rfl ?_
    refine k_iload X dL_law_1558 0 rfl ?_
    refine k_iconst (v := 3) X dL_law_1560 (by decide) ?_
    refine k_iadd X dL_law_1561 ?_
    refine k_to z_9 ez_9.symm ?_
    refine k_sld X hX hbl hbA dL_law_1562 (by rw [vp_in_iff]; have := iv_11; omega) ?_
    refine k_to a_12 ea_12.symm ?_
    refine k_if_eq 1570 X dL_law_1563 (by decide) (fun h_18 => ?_) (fun h_18 => absurd h_13 h_18)
    refine k_iconst (v := 0) X dL_law_1570 (by decide) ?_
    refine lm_wears (st := []) a_4 a_8 0 X hm dL_law_1571 mw1275 (Nat.le_of_ble_eq_true rfl) (Nat.le_of_ble_eq_true rfl) (Nat.le_of_ble_eq_true rfl) (Nat.le_trans h1 (Nat.le_of_ble_eq_true rfl)) (Nat.le_trans h2 (Nat.le_of_ble_eq_true rfl)) (fun r_19 mw_20 hm_21 => ?_)
    refine k_pop2 X dL_law_1574 rfl ?_
    refine k_goto 2062 X dL_law_1575 (by decide) ?_
    exact kk _ _ _ _ _ _ _ _ _ _ _ _ _ _ _ _ _ _ _ _ _ _ _ _ _ _ _ _ _ _ _ _ _ _ _ _ _ _ _ _ hx_17 hm_21 hR
  · skip
    refine k_iconst (v := 1) X dL_law_1535 (by decide) ?_
    refine k_goto 1540 X dL_law_1536 (by decide) ?_
    refine lx_wears (st := []) a_4 a_8 1 X hx dL_law_1540 mw1270 (Nat.le_of_ble_eq_true rfl) (Nat.le_of_ble_eq_true rfl) (Nat.le_of_ble_eq_true rfl) (Nat.le_trans h1 (Nat.le_of_ble_eq_true rfl)) (Nat.le_trans h2 (Nat.le_of_ble_eq_true rfl)) (fun r_22 xw_23 hx_24 => ?_)
    refine k_pop2 X dL_law_1543 rfl ?_
    refine k_aload_n X dL_law_1544 2 rfl ?_
    refine k_aload_n X dL_law_1545 4 rfl ?_
    refine k_iload X dL_law_1546 0 rfl ?_
    refine k_iconst (v := 1) X dL_law_1548 (by decide) ?_
    refine k_iadd X dL_law_1549 ?_
    refine k_to z_1 ez_1.symm ?_
    refine k_sld X hX hbl hbA dL_law_1550 (by rw [vp_in_iff]; have := iv_3; omega) ?_
    refine k_to a_4 ea_4.symm ?_
    refine k_aload_n X dL_law_1551 4 rfl ?_
    refine k_iload X dL_law_1552 0 rfl ?_
    refine k_iconst (v := 2) X dL_law_1554 (by decide) ?_
    refine k_iadd X dL_law_1555 ?_
    refine k_to z_5 ez_5.symm ?_
    refine k_sld X hX hbl hbA dL_law_1556 (by rw [vp_in_iff]; have := iv_7; omega) ?_
    refine k_to a_8 ea_8.symm ?_
    refine k_aload_n X dL_law_1557 4 rfl ?_
    refine k_iload X dL_law_1558 0 rfl ?_
    refine k_iconst (v := 3) X dL_law_1560 (by decide) ?_
    refine k_iadd X dL_law_1561 ?_
    refine k_to z_9 ez_9.symm ?_
    refine k_sld X hX hbl hbA dL_law_1562 (by rw [vp_in_iff]; have := iv_11; omega) ?_
    refine k_to a_12 ea_12.symm ?_
    refine k_if_eq 1570 X dL_law_1563 (by decide) (fun h_25 => absurd h_25 h_13) (fun h_25 => ?_)
    refine k_iconst (v := 1) X dL_law_1566 (by decide) ?_
    refine k_goto 1571 X dL_law_1567 (by decide) ?_
    refine lm_wears (st := []) a_4 a_8 1 X hm dL_law_1571 mw1275 (Nat.le_of_ble_eq_true rfl) (Nat.le_of_ble_eq_true rfl) (Nat.le_of_ble_eq_true rfl) (Nat.le_trans h1 (Nat.le_of_ble_eq_true rfl)) (Nat.le_trans h2 (Nat.le_of_ble_eq_true rfl)) (fun r_26 mw_27 hm_28 => ?_)
    refine k_pop2 X dL_law_1574 rfl ?_
    refine k_goto 2062 X dL_law_1575 (by decide) ?_
    exact kk _ _ _ _ _ _ _ _ _ _ _ _ _ _ _ _ _ _ _ _ _ _ _ _ _ _ _ _ _ _ _ _ _ _ _ _ _ _ _ _ hx_24 hm_28 hR

theorem dL_law_1578 : decode cL_law 1578 = .ok (.aload_n 1, 1) := dk_43 (kat_24 42 rfl)
theorem dL_law_1579 : decode cL_law 1579 = .ok (.aload_n 0, 1) := dk_42 (kat_24 43 rfl)
theorem dL_law_1580 : decode cL_law 1580 = .ok (.iload 4, 2) := dk_21 (kat_24 44 rfl) (kat_24 45 rfl) rfl
theorem dL_law_1582 : decode cL_law 1582 = .ok (.iconst 1, 1) := dk_4 (kat_24 46 rfl)
theorem dL_law_1583 : decode cL_law 1583 = .ok (.iadd, 1) := dk_96 (kat_24 47 rfl)
theorem dL_law_1584 : decode cL_law 1584 = .ok (.iaload, 1) := dk_46 (kat_24 48 rfl)
theorem dL_law_1585 : decode cL_law 1585 = .ok (.aload_n 0, 1) := dk_42 (kat_24 49 rfl)
theorem dL_law_1586 : decode cL_law 1586 = .ok (.iload 4, 2) := dk_21 (kat_24 50 rfl) (kat_24 51 rfl) rfl
theorem dL_law_1588 : decode cL_law 1588 = .ok (.iconst 2, 1) := dk_5 (kat_24 52 rfl)
theorem dL_law_1589 : decode cL_law 1589 = .ok (.iadd, 1) := dk_96 (kat_24 53 rfl)
theorem dL_law_1590 : decode cL_law 1590 = .ok (.iaload, 1) := dk_46 (kat_24 54 rfl)
theorem dL_law_1591 : decode cL_law 1591 = .ok (.invokevirtual 176, 3) := dk_182 (kat_24 55 rfl) (kat_24 56 rfl) (kat_24 57 rfl) rfl
theorem dL_law_1594 : decode cL_law 1594 = .ok (.pop, 1) := dk_87 (kat_24 58 rfl)
theorem dL_law_1595 : decode cL_law 1595 = .ok (.aload_n 2, 1) := dk_44 (kat_24 59 rfl)
theorem dL_law_1596 : decode cL_law 1596 = .ok (.aload_n 0, 1) := dk_42 (kat_24 60 rfl)
theorem dL_law_1597 : decode cL_law 1597 = .ok (.iload 4, 2) := dk_21 (kat_24 61 rfl) (kat_24 62 rfl) rfl
theorem dL_law_1599 : decode cL_law 1599 = .ok (.iconst 1, 1) := dk_4 (kat_24 63 rfl)
theorem dL_law_1600 : decode cL_law 1600 = .ok (.iadd, 1) := dk_96 (kat_25 0 rfl)
theorem dL_law_1601 : decode cL_law 1601 = .ok (.iaload, 1) := dk_46 (kat_25 1 rfl)
theorem dL_law_1602 : decode cL_law 1602 = .ok (.aload_n 0, 1) := dk_42 (kat_25 2 rfl)
theorem dL_law_1603 : decode cL_law 1603 = .ok (.iload 4, 2) := dk_21 (kat_25 3 rfl) (kat_25 4 rfl) rfl
theorem dL_law_1605 : decode cL_law 1605 = .ok (.iconst 2, 1) := dk_5 (kat_25 5 rfl)
theorem dL_law_1606 : decode cL_law 1606 = .ok (.iadd, 1) := dk_96 (kat_25 6 rfl)
theorem dL_law_1607 : decode cL_law 1607 = .ok (.iaload, 1) := dk_46 (kat_25 7 rfl)
theorem dL_law_1608 : decode cL_law 1608 = .ok (.invokevirtual 179, 3) := dk_182 (kat_25 8 rfl) (kat_25 9 rfl) (kat_25 10 rfl) rfl
theorem dL_law_1611 : decode cL_law 1611 = .ok (.pop, 1) := dk_87 (kat_25 11 rfl)
theorem dL_law_1612 : decode cL_law 1612 = .ok (.goto 450, 3) := dk_167 (kat_25 12 rfl) (kat_25 13 rfl) (kat_25 14 rfl) (by decide)
set_option maxHeartbeats 4000000 in
set_option maxRecDepth 100000 in
theorem law_c38 {p : Program} {l : Launch} {e : Env} {s : State} {m : MethodId} {below : List Frame} {meth : Method} {c : Code} {A : Nat → Prop} {g : Gx} {b L : Nat} {xs : Nat → Int32} {h0 mo lo n1 n2 : Nat} {fo : Nat → Int64} {u4 : Int32} {xtpd : Int32} {tpf : Nat → Int32} {yhnf : Nat → Int32} {yhtn : Int32} {yhtf : Nat → Int32} {yhjn : Int32} {yhjf : Nat → Int32} {yhmn : Int32} {yhmf : Nat → Int32} {yhbn : Int32} {yhbf : Nat → Int32} {yhsn : Int32} {yhsf : Nat → Int32} {yhcn : Int32} {yhcf : Nat → Int32} {zrn : Int32} {zmn : Int32} {zwn : Int32} {zpn : Int32} {zmd : Int32} {ztr : Int32} {zrf : Nat → Int32} {zmf : Nat → Int32} {zwf : Nat → Int32} {zpf : Nat → Int32} {kac : Int32} {knx : Int32} {kim : Int32} {cf : Nat → SC} {m_taped : Int32} {d_tape : Nat → Int32} {d_r : Nat → Int32} {d_st : Nat → Int32} {d_undone : Nat → Int32} {d_kept : Nat → Int32} {m_undos : Int32} {m_images : Int32} {m_hasHouse : Int32} {xw mw : va_W} (X : Cx p s m meth c #[Value.ref b] cL_law 7 RL A g) (hX : va_X b L xs s s.heap) (hbl : b < s.heap.size) (hbA : ¬ A b) (hi : 0 ≤ u4.toInt ∧ u4.toInt + 6 ≤ (L : Int)) (hL : L ≤ 3072) (h1 : n1 ≤ 601023) (h2 : n2 ≤ 7293028) (hlt : l.stackTraces = false) (hZ : kZ A s s.heap) (htsE : ∀ w ∈ wsE, w.before #[Value.ref b] s = true) (hx : XW g h0 xtpd tpf yhnf yhtn yhtf yhjn yhjf yhmn yhmf yhbn yhbf yhsn yhsf yhcn yhcf zrn zmn zwn zpn zmd ztr zrf zmf zwf zpf kac knx kim cf xw) (hm : MW g mo m_taped d_tape d_r d_st d_undone d_kept m_undos m_images m_hasHouse mw) (hR : LR xtpd tpf yhnf yhtn yhtf yhjn yhjf yhmn yhmf yhbn yhbf yhsn yhsf yhcn yhcf zrn zmn zwn zpn zmd ztr zrf zmf zwf zpf kac knx kim cf m_taped d_tape d_r d_st d_undone d_kept m_undos m_images m_hasHouse) (kk : ∀ (xtpd_2 : Int32) (tpf_2 : Nat → Int32) (yhnf_2 : Nat → Int32) (yhtn_2 : Int32) (yhtf_2 : Nat → Int32) (yhjn_2 : Int32) (yhjf_2 : Nat → Int32) (yhmn_2 : Int32) (yhmf_2 : Nat → Int32) (yhbn_2 : Int32) (yhbf_2 : Nat → Int32) (yhsn_2 : Int32) (yhsf_2 : Nat → Int32) (yhcn_2 : Int32) (yhcf_2 : Nat → Int32) (zrn_2 : Int32) (zmn_2 : Int32) (zwn_2 : Int32) (zpn_2 : Int32) (zmd_2 : Int32) (ztr_2 : Int32) (zrf_2 : Nat → Int32) (zmf_2 : Nat → Int32) (zwf_2 : Nat → Int32) (zpf_2 : Nat → Int32) (kac_2 : Int32) (knx_2 : Int32) (kim_2 : Int32) (cf_2 : Nat → SC) (m_taped_2 : Int32) (d_tape_2 : Nat → Int32) (d_r_2 : Nat → Int32) (d_st_2 : Nat → Int32) (d_undone_2 : Nat → Int32) (d_kept_2 : Nat → Int32) (m_undos_2 : Int32) (m_images_2 : Int32) (m_hasHouse_2 : Int32) (xw2 mw2 : va_W), XW g h0 xtpd_2 tpf_2 yhnf_2 yhtn_2 yhtf_2 yhjn_2 yhjf_2 yhmn_2 yhmf_2 yhbn_2 yhbf_2 yhsn_2 yhsf_2 yhcn_2 yhcf_2 zrn_2 zmn_2 zwn_2 zpn_2 zmd_2 ztr_2 zrf_2 zmf_2 zwf_2 zpf_2 kac_2 knx_2 kim_2 cf_2 xw2 → MW g mo m_taped_2 d_tape_2 d_r_2 d_st_2 d_undone_2 d_kept_2 m_undos_2 m_images_2 m_hasHouse_2 mw2 → LR xtpd_2 tpf_2 yhnf_2 yhtn_2 yhtf_2 yhjn_2 yhjf_2 yhmn_2 yhmf_2 yhbn_2 yhbf_2 yhsn_2 yhsf_2 yhcn_2 yhcf_2 zrn_2 zmn_2 zwn_2 zpn_2 zmd_2 ztr_2 zrf_2 zmf_2 zwf_2 zpf_2 kac_2 knx_2 kim_2 cf_2 m_taped_2 d_tape_2 d_r_2 d_st_2 d_undone_2 d_kept_2 m_undos_2 m_images_2 m_hasHouse_2 → Wk p l e room_1 s m #[Value.ref b] below meth c (lw_Z below #[Value.ref b] s) A g 7 n1 n2 (xw2 ++ (mw2 ++ [(cAJ g lo 1 fo)])) [(4, .int u4), (3, .ref lo), (2, .ref mo), (1, .ref h0), (0, .ref b)] 2062 []) : Wk p l e room_1 s m #[Value.ref b] below meth c (lw_Z below #[Value.ref b] s) A g 7 n1 n2 (xw ++ (mw ++ [(cAJ g lo 1 fo)])) [(4, .int u4), (3, .ref lo), (2, .ref mo), (1, .ref h0), (0, .ref b)] 1578 [] := by
  have hiv : IV u4 0 3066 := ⟨hi.1, by omega⟩
  refine k_aload_n X dL_law_1578 3 rfl ?_
  refine k_aload_n X dL_law_1579 4 rfl ?_
  refine k_iload X dL_law_1580 0 rfl ?_
  refine k_iconst (v := 1) X dL_law_1582 (by decide) ?_
  refine k_iadd X dL_law_1583 ?_
  refine k_nm (fun z_1 ez_1 => ?_)
  have i_2 : z_1.toInt = u4.toInt + 1 := in_add ez_1 hiv (show IV 1 1 1 from (by decide)) (by decide) (by decide)
  have iv_3 : IV z_1 1 3067 := by have := hiv; have := (show IV 1 1 1 from (by decide)); rw [IV, i_2]; omega
  refine k_sld X hX hbl hbA dL_law_1584 (by rw [vp_in_iff]; have := iv_3; omega) ?_
  refine k_nm (fun a_4 ea_4 => ?_)
  refine k_aload_n X dL_law_1585 4 rfl ?_
  refine k_iload X dL_law_1586 0 rfl ?_
  refine k_iconst (v := 2) X dL_law_1588 (by decide) ?_
  refine k_iadd X dL_law_1589 ?_
  refine k_nm (fun z_5 ez_5 => ?_)
  have i_6 : z_5.toInt = u4.toInt + 2 := in_add ez_5 hiv (show IV 2 2 2 from (by decide)) (by decide) (by decide)
  have iv_7 : IV z_5 2 3068 := by have := hiv; have := (show IV 2 2 2 from (by decide)); rw [IV, i_6]; omega
  refine k_sld X hX hbl hbA dL_law_1590 (by rw [vp_in_iff]; have := iv_7; omega) ?_
  refine k_nm (fun a_8 ea_8 => ?_)
  refine lx_apart (st := []) a_4 a_8 X hx dL_law_1591 mw1280 (Nat.le_of_ble_eq_true rfl) (Nat.le_of_ble_eq_true rfl) (Nat.le_of_ble_eq_true rfl) (Nat.le_trans h1 (Nat.le_of_ble_eq_true rfl)) (Nat.le_trans h2 (Nat.le_of_ble_eq_true rfl)) (fun r_9 xw_10 hx_11 => ?_)
  refine k_pop X dL_law_1594 rfl ?_
  refine k_aload_n X dL_law_1595 2 rfl ?_
  refine k_aload_n X dL_law_1596 4 rfl ?_
  refine k_iload X dL_law_1597 0 rfl ?_
  refine k_iconst (v := 1) X dL_law_1599 (by decide) ?_
  refine k_iadd X dL_law_1600 ?_
  refine k_to z_1 ez_1.symm ?_
  refine k_sld X hX hbl hbA dL_law_1601 (by rw [vp_in_iff]; have := iv_3; omega) ?_
  refine k_to a_4 ea_4.symm ?_
  refine k_aload_n X dL_law_1602 4 rfl ?_
  refine k_iload X dL_law_1603 0 rfl ?_
  refine k_iconst (v := 2) X dL_law_1605 (by decide) ?_
  refine k_iadd X dL_law_1606 ?_
  refine k_to z_5 ez_5.symm ?_
  refine k_sld X hX hbl hbA dL_law_1607 (by rw [vp_in_iff]; have := iv_7; omega) ?_
  refine k_to a_8 ea_8.symm ?_
  refine lm_apart (st := []) a_4 a_8 X hm dL_law_1608 mw1311 (Nat.le_of_ble_eq_true rfl) (Nat.le_of_ble_eq_true rfl) (Nat.le_of_ble_eq_true rfl) (Nat.le_trans h1 (Nat.le_of_ble_eq_true rfl)) (Nat.le_trans h2 (Nat.le_of_ble_eq_true rfl)) (fun r_12 mw_13 hm_14 => ?_)
  refine k_pop X dL_law_1611 rfl ?_
  refine k_goto 2062 X dL_law_1612 (by decide) ?_
  exact kk _ _ _ _ _ _ _ _ _ _ _ _ _ _ _ _ _ _ _ _ _ _ _ _ _ _ _ _ _ _ _ _ _ _ _ _ _ _ _ _ hx_11 hm_14 hR

theorem dL_law_1615 : decode cL_law 1615 = .ok (.aload_n 1, 1) := dk_43 (kat_25 15 rfl)
theorem dL_law_1616 : decode cL_law 1616 = .ok (.aload_n 0, 1) := dk_42 (kat_25 16 rfl)
theorem dL_law_1617 : decode cL_law 1617 = .ok (.iload 4, 2) := dk_21 (kat_25 17 rfl) (kat_25 18 rfl) rfl
theorem dL_law_1619 : decode cL_law 1619 = .ok (.iconst 1, 1) := dk_4 (kat_25 19 rfl)
theorem dL_law_1620 : decode cL_law 1620 = .ok (.iadd, 1) := dk_96 (kat_25 20 rfl)
theorem dL_law_1621 : decode cL_law 1621 = .ok (.iaload, 1) := dk_46 (kat_25 21 rfl)
theorem dL_law_1622 : decode cL_law 1622 = .ok (.aload_n 0, 1) := dk_42 (kat_25 22 rfl)
theorem dL_law_1623 : decode cL_law 1623 = .ok (.iload 4, 2) := dk_21 (kat_25 23 rfl) (kat_25 24 rfl) rfl
theorem dL_law_1625 : decode cL_law 1625 = .ok (.iconst 2, 1) := dk_5 (kat_25 25 rfl)
theorem dL_law_1626 : decode cL_law 1626 = .ok (.iadd, 1) := dk_96 (kat_25 26 rfl)
theorem dL_law_1627 : decode cL_law 1627 = .ok (.iaload, 1) := dk_46 (kat_25 27 rfl)
theorem dL_law_1628 : decode cL_law 1628 = .ok (.aload_n 0, 1) := dk_42 (kat_25 28 rfl)
theorem dL_law_1629 : decode cL_law 1629 = .ok (.iload 4, 2) := dk_21 (kat_25 29 rfl) (kat_25 30 rfl) rfl
theorem dL_law_1631 : decode cL_law 1631 = .ok (.iconst 3, 1) := dk_6 (kat_25 31 rfl)
theorem dL_law_1632 : decode cL_law 1632 = .ok (.iadd, 1) := dk_96 (kat_25 32 rfl)
theorem dL_law_1633 : decode cL_law 1633 = .ok (.iaload, 1) := dk_46 (kat_25 33 rfl)
theorem dL_law_1634 : decode cL_law 1634 = .ok (.invokevirtual 180, 3) := dk_182 (kat_25 34 rfl) (kat_25 35 rfl) (kat_25 36 rfl) rfl
theorem dL_law_1637 : decode cL_law 1637 = .ok (.pop, 1) := dk_87 (kat_25 37 rfl)
theorem dL_law_1638 : decode cL_law 1638 = .ok (.aload_n 2, 1) := dk_44 (kat_25 38 rfl)
theorem dL_law_1639 : decode cL_law 1639 = .ok (.aload_n 0, 1) := dk_42 (kat_25 39 rfl)
theorem dL_law_1640 : decode cL_law 1640 = .ok (.iload 4, 2) := dk_21 (kat_25 40 rfl) (kat_25 41 rfl) rfl
theorem dL_law_1642 : decode cL_law 1642 = .ok (.iconst 1, 1) := dk_4 (kat_25 42 rfl)
theorem dL_law_1643 : decode cL_law 1643 = .ok (.iadd, 1) := dk_96 (kat_25 43 rfl)
theorem dL_law_1644 : decode cL_law 1644 = .ok (.iaload, 1) := dk_46 (kat_25 44 rfl)
theorem dL_law_1645 : decode cL_law 1645 = .ok (.aload_n 0, 1) := dk_42 (kat_25 45 rfl)
theorem dL_law_1646 : decode cL_law 1646 = .ok (.iload 4, 2) := dk_21 (kat_25 46 rfl) (kat_25 47 rfl) rfl
theorem dL_law_1648 : decode cL_law 1648 = .ok (.iconst 2, 1) := dk_5 (kat_25 48 rfl)
theorem dL_law_1649 : decode cL_law 1649 = .ok (.iadd, 1) := dk_96 (kat_25 49 rfl)
theorem dL_law_1650 : decode cL_law 1650 = .ok (.iaload, 1) := dk_46 (kat_25 50 rfl)
theorem dL_law_1651 : decode cL_law 1651 = .ok (.aload_n 0, 1) := dk_42 (kat_25 51 rfl)
theorem dL_law_1652 : decode cL_law 1652 = .ok (.iload 4, 2) := dk_21 (kat_25 52 rfl) (kat_25 53 rfl) rfl
theorem dL_law_1654 : decode cL_law 1654 = .ok (.iconst 3, 1) := dk_6 (kat_25 54 rfl)
theorem dL_law_1655 : decode cL_law 1655 = .ok (.iadd, 1) := dk_96 (kat_25 55 rfl)
theorem dL_law_1656 : decode cL_law 1656 = .ok (.iaload, 1) := dk_46 (kat_25 56 rfl)
theorem dL_law_1657 : decode cL_law 1657 = .ok (.invokevirtual 184, 3) := dk_182 (kat_25 57 rfl) (kat_25 58 rfl) (kat_25 59 rfl) rfl
theorem dL_law_1660 : decode cL_law 1660 = .ok (.pop, 1) := dk_87 (kat_25 60 rfl)
theorem dL_law_1661 : decode cL_law 1661 = .ok (.goto 401, 3) := dk_167 (kat_25 61 rfl) (kat_25 62 rfl) (kat_25 63 rfl) (by decide)
set_option maxHeartbeats 4000000 in
set_option maxRecDepth 100000 in
theorem law_c39 {p : Program} {l : Launch} {e : Env} {s : State} {m : MethodId} {below : List Frame} {meth : Method} {c : Code} {A : Nat → Prop} {g : Gx} {b L : Nat} {xs : Nat → Int32} {h0 mo lo n1 n2 : Nat} {fo : Nat → Int64} {u4 : Int32} {xtpd : Int32} {tpf : Nat → Int32} {yhnf : Nat → Int32} {yhtn : Int32} {yhtf : Nat → Int32} {yhjn : Int32} {yhjf : Nat → Int32} {yhmn : Int32} {yhmf : Nat → Int32} {yhbn : Int32} {yhbf : Nat → Int32} {yhsn : Int32} {yhsf : Nat → Int32} {yhcn : Int32} {yhcf : Nat → Int32} {zrn : Int32} {zmn : Int32} {zwn : Int32} {zpn : Int32} {zmd : Int32} {ztr : Int32} {zrf : Nat → Int32} {zmf : Nat → Int32} {zwf : Nat → Int32} {zpf : Nat → Int32} {kac : Int32} {knx : Int32} {kim : Int32} {cf : Nat → SC} {m_taped : Int32} {d_tape : Nat → Int32} {d_r : Nat → Int32} {d_st : Nat → Int32} {d_undone : Nat → Int32} {d_kept : Nat → Int32} {m_undos : Int32} {m_images : Int32} {m_hasHouse : Int32} {xw mw : va_W} (X : Cx p s m meth c #[Value.ref b] cL_law 7 RL A g) (hX : va_X b L xs s s.heap) (hbl : b < s.heap.size) (hbA : ¬ A b) (hi : 0 ≤ u4.toInt ∧ u4.toInt + 6 ≤ (L : Int)) (hL : L ≤ 3072) (h1 : n1 ≤ 601023) (h2 : n2 ≤ 7293028) (hlt : l.stackTraces = false) (hZ : kZ A s s.heap) (htsE : ∀ w ∈ wsE, w.before #[Value.ref b] s = true) (hx : XW g h0 xtpd tpf yhnf yhtn yhtf yhjn yhjf yhmn yhmf yhbn yhbf yhsn yhsf yhcn yhcf zrn zmn zwn zpn zmd ztr zrf zmf zwf zpf kac knx kim cf xw) (hm : MW g mo m_taped d_tape d_r d_st d_undone d_kept m_undos m_images m_hasHouse mw) (hR : LR xtpd tpf yhnf yhtn yhtf yhjn yhjf yhmn yhmf yhbn yhbf yhsn yhsf yhcn yhcf zrn zmn zwn zpn zmd ztr zrf zmf zwf zpf kac knx kim cf m_taped d_tape d_r d_st d_undone d_kept m_undos m_images m_hasHouse) (kk : ∀ (xtpd_2 : Int32) (tpf_2 : Nat → Int32) (yhnf_2 : Nat → Int32) (yhtn_2 : Int32) (yhtf_2 : Nat → Int32) (yhjn_2 : Int32) (yhjf_2 : Nat → Int32) (yhmn_2 : Int32) (yhmf_2 : Nat → Int32) (yhbn_2 : Int32) (yhbf_2 : Nat → Int32) (yhsn_2 : Int32) (yhsf_2 : Nat → Int32) (yhcn_2 : Int32) (yhcf_2 : Nat → Int32) (zrn_2 : Int32) (zmn_2 : Int32) (zwn_2 : Int32) (zpn_2 : Int32) (zmd_2 : Int32) (ztr_2 : Int32) (zrf_2 : Nat → Int32) (zmf_2 : Nat → Int32) (zwf_2 : Nat → Int32) (zpf_2 : Nat → Int32) (kac_2 : Int32) (knx_2 : Int32) (kim_2 : Int32) (cf_2 : Nat → SC) (m_taped_2 : Int32) (d_tape_2 : Nat → Int32) (d_r_2 : Nat → Int32) (d_st_2 : Nat → Int32) (d_undone_2 : Nat → Int32) (d_kept_2 : Nat → Int32) (m_undos_2 : Int32) (m_images_2 : Int32) (m_hasHouse_2 : Int32) (xw2 mw2 : va_W), XW g h0 xtpd_2 tpf_2 yhnf_2 yhtn_2 yhtf_2 yhjn_2 yhjf_2 yhmn_2 yhmf_2 yhbn_2 yhbf_2 yhsn_2 yhsf_2 yhcn_2 yhcf_2 zrn_2 zmn_2 zwn_2 zpn_2 zmd_2 ztr_2 zrf_2 zmf_2 zwf_2 zpf_2 kac_2 knx_2 kim_2 cf_2 xw2 → MW g mo m_taped_2 d_tape_2 d_r_2 d_st_2 d_undone_2 d_kept_2 m_undos_2 m_images_2 m_hasHouse_2 mw2 → LR xtpd_2 tpf_2 yhnf_2 yhtn_2 yhtf_2 yhjn_2 yhjf_2 yhmn_2 yhmf_2 yhbn_2 yhbf_2 yhsn_2 yhsf_2 yhcn_2 yhcf_2 zrn_2 zmn_2 zwn_2 zpn_2 zmd_2 ztr_2 zrf_2 zmf_2 zwf_2 zpf_2 kac_2 knx_2 kim_2 cf_2 m_taped_2 d_tape_2 d_r_2 d_st_2 d_undone_2 d_kept_2 m_undos_2 m_images_2 m_hasHouse_2 → Wk p l e room_1 s m #[Value.ref b] below meth c (lw_Z below #[Value.ref b] s) A g 7 n1 n2 (xw2 ++ (mw2 ++ [(cAJ g lo 1 fo)])) [(4, .int u4), (3, .ref lo), (2, .ref mo), (1, .ref h0), (0, .ref b)] 2062 []) : Wk p l e room_1 s m #[Value.ref b] below meth c (lw_Z below #[Value.ref b] s) A g 7 n1 n2 (xw ++ (mw ++ [(cAJ g lo 1 fo)])) [(4, .int u4), (3, .ref lo), (2, .ref mo), (1, .ref h0), (0, .ref b)] 1615 [] := by
  have hiv : IV u4 0 3066 := ⟨hi.1, by omega⟩
  refine k_aload_n X dL_law_1615 3 rfl ?_
  refine k_aload_n X dL_law_1616 4 rfl ?_
  refine k_iload X dL_law_1617 0 rfl ?_
  refine k_iconst (v := 1) X dL_law_1619 (by decide) ?_
  refine k_iadd X dL_law_1620 ?_
  refine k_nm (fun z_1 ez_1 => ?_)
  have i_2 : z_1.toInt = u4.toInt + 1 := in_add ez_1 hiv (show IV 1 1 1 from (by decide)) (by decide) (by decide)
  have iv_3 : IV z_1 1 3067 := by have := hiv; have := (show IV 1 1 1 from (by decide)); rw [IV, i_2]; omega
  refine k_sld X hX hbl hbA dL_law_1621 (by rw [vp_in_iff]; have := iv_3; omega) ?_
  refine k_nm (fun a_4 ea_4 => ?_)
  refine k_aload_n X dL_law_1622 4 rfl ?_
  refine k_iload X dL_law_1623 0 rfl ?_
  refine k_iconst (v := 2) X dL_law_1625 (by decide) ?_
  refine k_iadd X dL_law_1626 ?_
  refine k_nm (fun z_5 ez_5 => ?_)
  have i_6 : z_5.toInt = u4.toInt + 2 := in_add ez_5 hiv (show IV 2 2 2 from (by decide)) (by decide) (by decide)
  have iv_7 : IV z_5 2 3068 := by have := hiv; have := (show IV 2 2 2 from (by decide)); rw [IV, i_6]; omega
  refine k_sld X hX hbl hbA dL_law_1627 (by rw [vp_in_iff]; have := iv_7; omega) ?_
  refine k_nm (fun a_8 ea_8 => ?_)
  refine k_aload_n X dL_law_1628 4 rfl ?_
  refine k_iload X dL_law_1629 0 rfl ?_
  refine k_iconst (v := 3) X dL_law_1631 (by decide) ?_
  refine k_iadd X dL_law_1632 ?_
  refine k_nm (fun z_9 ez_9 => ?_)
  have i_10 : z_9.toInt = u4.toInt + 3 := in_add ez_9 hiv (show IV 3 3 3 from (by decide)) (by decide) (by decide)
  have iv_11 : IV z_9 3 3069 := by have := hiv; have := (show IV 3 3 3 from (by decide)); rw [IV, i_10]; omega
  refine k_sld X hX hbl hbA dL_law_1633 (by rw [vp_in_iff]; have := iv_11; omega) ?_
  refine k_nm (fun a_12 ea_12 => ?_)
  refine lx_waits (st := []) a_4 a_8 a_12 X hx dL_law_1634 mw1327 (Nat.le_of_ble_eq_true rfl) (Nat.le_of_ble_eq_true rfl) (Nat.le_of_ble_eq_true rfl) (Nat.le_trans h1 (Nat.le_of_ble_eq_true rfl)) (Nat.le_trans h2 (Nat.le_of_ble_eq_true rfl)) (fun r_13 xw_14 hx_15 => ?_)
  refine k_pop X dL_law_1637 rfl ?_
  refine k_aload_n X dL_law_1638 2 rfl ?_
  refine k_aload_n X dL_law_1639 4 rfl ?_
  refine k_iload X dL_law_1640 0 rfl ?_
  refine k_iconst (v := 1) X dL_law_1642 (by decide) ?_
  refine k_iadd X dL_law_1643 ?_
  refine k_to z_1 ez_1.symm ?_
  refine k_sld X hX hbl hbA dL_law_1644 (by rw [vp_in_iff]; have := iv_3; omega) ?_
  refine k_to a_4 ea_4.symm ?_
  refine k_aload_n X dL_law_1645 4 rfl ?_
  refine k_iload X dL_law_1646 0 rfl ?_
  refine k_iconst (v := 2) X dL_law_1648 (by decide) ?_
  refine k_iadd X dL_law_1649 ?_
  refine k_to z_5 ez_5.symm ?_
  refine k_sld X hX hbl hbA dL_law_1650 (by rw [vp_in_iff]; have := iv_7; omega) ?_
  refine k_to a_8 ea_8.symm ?_
  refine k_aload_n X dL_law_1651 4 rfl ?_
  refine k_iload X dL_law_1652 0 rfl ?_
  refine k_iconst (v := 3) X dL_law_1654 (by decide) ?_
  refine k_iadd X dL_law_1655 ?_
  refine k_to z_9 ez_9.symm ?_
  refine k_sld X hX hbl hbA dL_law_1656 (by rw [vp_in_iff]; have := iv_11; omega) ?_
  refine k_to a_12 ea_12.symm ?_
  refine lm_waits (st := []) a_4 a_8 a_12 X hm dL_law_1657 mw1332 (Nat.le_of_ble_eq_true rfl) (Nat.le_of_ble_eq_true rfl) (Nat.le_of_ble_eq_true rfl) (Nat.le_trans h1 (Nat.le_of_ble_eq_true rfl)) (Nat.le_trans h2 (Nat.le_of_ble_eq_true rfl)) (fun r_16 mw_17 hm_18 => ?_)
  refine k_pop X dL_law_1660 rfl ?_
  refine k_goto 2062 X dL_law_1661 (by decide) ?_
  exact kk _ _ _ _ _ _ _ _ _ _ _ _ _ _ _ _ _ _ _ _ _ _ _ _ _ _ _ _ _ _ _ _ _ _ _ _ _ _ _ _ hx_15 hm_18 hR

theorem dL_law_1664 : decode cL_law 1664 = .ok (.aload_n 1, 1) := dk_43 (kat_26 0 rfl)
theorem dL_law_1665 : decode cL_law 1665 = .ok (.aload_n 0, 1) := dk_42 (kat_26 1 rfl)
theorem dL_law_1666 : decode cL_law 1666 = .ok (.iload 4, 2) := dk_21 (kat_26 2 rfl) (kat_26 3 rfl) rfl
theorem dL_law_1668 : decode cL_law 1668 = .ok (.iconst 1, 1) := dk_4 (kat_26 4 rfl)
theorem dL_law_1669 : decode cL_law 1669 = .ok (.iadd, 1) := dk_96 (kat_26 5 rfl)
theorem dL_law_1670 : decode cL_law 1670 = .ok (.iaload, 1) := dk_46 (kat_26 6 rfl)
theorem dL_law_1671 : decode cL_law 1671 = .ok (.invokevirtual 185, 3) := dk_182 (kat_26 7 rfl) (kat_26 8 rfl) (kat_26 9 rfl) rfl
theorem dL_law_1674 : decode cL_law 1674 = .ok (.pop, 1) := dk_87 (kat_26 10 rfl)
theorem dL_law_1675 : decode cL_law 1675 = .ok (.aload_n 2, 1) := dk_44 (kat_26 11 rfl)
theorem dL_law_1676 : decode cL_law 1676 = .ok (.aload_n 0, 1) := dk_42 (kat_26 12 rfl)
theorem dL_law_1677 : decode cL_law 1677 = .ok (.iload 4, 2) := dk_21 (kat_26 13 rfl) (kat_26 14 rfl) rfl
theorem dL_law_1679 : decode cL_law 1679 = .ok (.iconst 1, 1) := dk_4 (kat_26 15 rfl)
theorem dL_law_1680 : decode cL_law 1680 = .ok (.iadd, 1) := dk_96 (kat_26 16 rfl)
theorem dL_law_1681 : decode cL_law 1681 = .ok (.iaload, 1) := dk_46 (kat_26 17 rfl)
theorem dL_law_1682 : decode cL_law 1682 = .ok (.invokevirtual 188, 3) := dk_182 (kat_26 18 rfl) (kat_26 19 rfl) (kat_26 20 rfl) rfl
theorem dL_law_1685 : decode cL_law 1685 = .ok (.pop, 1) := dk_87 (kat_26 21 rfl)
theorem dL_law_1686 : decode cL_law 1686 = .ok (.goto 376, 3) := dk_167 (kat_26 22 rfl) (kat_26 23 rfl) (kat_26 24 rfl) (by decide)
set_option maxHeartbeats 4000000 in
set_option maxRecDepth 100000 in
theorem law_c40 {p : Program} {l : Launch} {e : Env} {s : State} {m : MethodId} {below : List Frame} {meth : Method} {c : Code} {A : Nat → Prop} {g : Gx} {b L : Nat} {xs : Nat → Int32} {h0 mo lo n1 n2 : Nat} {fo : Nat → Int64} {u4 : Int32} {xtpd : Int32} {tpf : Nat → Int32} {yhnf : Nat → Int32} {yhtn : Int32} {yhtf : Nat → Int32} {yhjn : Int32} {yhjf : Nat → Int32} {yhmn : Int32} {yhmf : Nat → Int32} {yhbn : Int32} {yhbf : Nat → Int32} {yhsn : Int32} {yhsf : Nat → Int32} {yhcn : Int32} {yhcf : Nat → Int32} {zrn : Int32} {zmn : Int32} {zwn : Int32} {zpn : Int32} {zmd : Int32} {ztr : Int32} {zrf : Nat → Int32} {zmf : Nat → Int32} {zwf : Nat → Int32} {zpf : Nat → Int32} {kac : Int32} {knx : Int32} {kim : Int32} {cf : Nat → SC} {m_taped : Int32} {d_tape : Nat → Int32} {d_r : Nat → Int32} {d_st : Nat → Int32} {d_undone : Nat → Int32} {d_kept : Nat → Int32} {m_undos : Int32} {m_images : Int32} {m_hasHouse : Int32} {xw mw : va_W} (X : Cx p s m meth c #[Value.ref b] cL_law 7 RL A g) (hX : va_X b L xs s s.heap) (hbl : b < s.heap.size) (hbA : ¬ A b) (hi : 0 ≤ u4.toInt ∧ u4.toInt + 6 ≤ (L : Int)) (hL : L ≤ 3072) (h1 : n1 ≤ 601023) (h2 : n2 ≤ 7293028) (hlt : l.stackTraces = false) (hZ : kZ A s s.heap) (htsE : ∀ w ∈ wsE, w.before #[Value.ref b] s = true) (hx : XW g h0 xtpd tpf yhnf yhtn yhtf yhjn yhjf yhmn yhmf yhbn yhbf yhsn yhsf yhcn yhcf zrn zmn zwn zpn zmd ztr zrf zmf zwf zpf kac knx kim cf xw) (hm : MW g mo m_taped d_tape d_r d_st d_undone d_kept m_undos m_images m_hasHouse mw) (hR : LR xtpd tpf yhnf yhtn yhtf yhjn yhjf yhmn yhmf yhbn yhbf yhsn yhsf yhcn yhcf zrn zmn zwn zpn zmd ztr zrf zmf zwf zpf kac knx kim cf m_taped d_tape d_r d_st d_undone d_kept m_undos m_images m_hasHouse) (kk : ∀ (xtpd_2 : Int32) (tpf_2 : Nat → Int32) (yhnf_2 : Nat → Int32) (yhtn_2 : Int32) (yhtf_2 : Nat → Int32) (yhjn_2 : Int32) (yhjf_2 : Nat → Int32) (yhmn_2 : Int32) (yhmf_2 : Nat → Int32) (yhbn_2 : Int32) (yhbf_2 : Nat → Int32) (yhsn_2 : Int32) (yhsf_2 : Nat → Int32) (yhcn_2 : Int32) (yhcf_2 : Nat → Int32) (zrn_2 : Int32) (zmn_2 : Int32) (zwn_2 : Int32) (zpn_2 : Int32) (zmd_2 : Int32) (ztr_2 : Int32) (zrf_2 : Nat → Int32) (zmf_2 : Nat → Int32) (zwf_2 : Nat → Int32) (zpf_2 : Nat → Int32) (kac_2 : Int32) (knx_2 : Int32) (kim_2 : Int32) (cf_2 : Nat → SC) (m_taped_2 : Int32) (d_tape_2 : Nat → Int32) (d_r_2 : Nat → Int32) (d_st_2 : Nat → Int32) (d_undone_2 : Nat → Int32) (d_kept_2 : Nat → Int32) (m_undos_2 : Int32) (m_images_2 : Int32) (m_hasHouse_2 : Int32) (xw2 mw2 : va_W), XW g h0 xtpd_2 tpf_2 yhnf_2 yhtn_2 yhtf_2 yhjn_2 yhjf_2 yhmn_2 yhmf_2 yhbn_2 yhbf_2 yhsn_2 yhsf_2 yhcn_2 yhcf_2 zrn_2 zmn_2 zwn_2 zpn_2 zmd_2 ztr_2 zrf_2 zmf_2 zwf_2 zpf_2 kac_2 knx_2 kim_2 cf_2 xw2 → MW g mo m_taped_2 d_tape_2 d_r_2 d_st_2 d_undone_2 d_kept_2 m_undos_2 m_images_2 m_hasHouse_2 mw2 → LR xtpd_2 tpf_2 yhnf_2 yhtn_2 yhtf_2 yhjn_2 yhjf_2 yhmn_2 yhmf_2 yhbn_2 yhbf_2 yhsn_2 yhsf_2 yhcn_2 yhcf_2 zrn_2 zmn_2 zwn_2 zpn_2 zmd_2 ztr_2 zrf_2 zmf_2 zwf_2 zpf_2 kac_2 knx_2 kim_2 cf_2 m_taped_2 d_tape_2 d_r_2 d_st_2 d_undone_2 d_kept_2 m_undos_2 m_images_2 m_hasHouse_2 → Wk p l e room_1 s m #[Value.ref b] below meth c (lw_Z below #[Value.ref b] s) A g 7 n1 n2 (xw2 ++ (mw2 ++ [(cAJ g lo 1 fo)])) [(4, .int u4), (3, .ref lo), (2, .ref mo), (1, .ref h0), (0, .ref b)] 2062 []) : Wk p l e room_1 s m #[Value.ref b] below meth c (lw_Z below #[Value.ref b] s) A g 7 n1 n2 (xw ++ (mw ++ [(cAJ g lo 1 fo)])) [(4, .int u4), (3, .ref lo), (2, .ref mo), (1, .ref h0), (0, .ref b)] 1664 [] := by
  have hiv : IV u4 0 3066 := ⟨hi.1, by omega⟩
  refine k_aload_n X dL_law_1664 3 rfl ?_
  refine k_aload_n X dL_law_1665 4 rfl ?_
  refine k_iload X dL_law_1666 0 rfl ?_
  refine k_iconst (v := 1) X dL_law_1668 (by decide) ?_
  refine k_iadd X dL_law_1669 ?_
  refine k_nm (fun z_1 ez_1 => ?_)
  have i_2 : z_1.toInt = u4.toInt + 1 := in_add ez_1 hiv (show IV 1 1 1 from (by decide)) (by decide) (by decide)
  have iv_3 : IV z_1 1 3067 := by have := hiv; have := (show IV 1 1 1 from (by decide)); rw [IV, i_2]; omega
  refine k_sld X hX hbl hbA dL_law_1670 (by rw [vp_in_iff]; have := iv_3; omega) ?_
  refine k_nm (fun a_4 ea_4 => ?_)
  refine lx_boys (st := []) a_4 X hx dL_law_1671 mw1336 (Nat.le_of_ble_eq_true rfl) (Nat.le_of_ble_eq_true rfl) (Nat.le_of_ble_eq_true rfl) (Nat.le_trans h1 (Nat.le_of_ble_eq_true rfl)) (Nat.le_trans h2 (Nat.le_of_ble_eq_true rfl)) (fun r_5 xw_6 hx_7 => ?_)
  refine k_pop X dL_law_1674 rfl ?_
  refine k_aload_n X dL_law_1675 2 rfl ?_
  refine k_aload_n X dL_law_1676 4 rfl ?_
  refine k_iload X dL_law_1677 0 rfl ?_
  refine k_iconst (v := 1) X dL_law_1679 (by decide) ?_
  refine k_iadd X dL_law_1680 ?_
  refine k_to z_1 ez_1.symm ?_
  refine k_sld X hX hbl hbA dL_law_1681 (by rw [vp_in_iff]; have := iv_3; omega) ?_
  refine k_to a_4 ea_4.symm ?_
  refine lm_boys (st := []) a_4 X hm dL_law_1682 mw1340 (Nat.le_of_ble_eq_true rfl) (Nat.le_of_ble_eq_true rfl) (Nat.le_of_ble_eq_true rfl) (Nat.le_trans h1 (Nat.le_of_ble_eq_true rfl)) (Nat.le_trans h2 (Nat.le_of_ble_eq_true rfl)) (fun r_8 mw_9 hm_10 => ?_)
  refine k_pop X dL_law_1685 rfl ?_
  refine k_goto 2062 X dL_law_1686 (by decide) ?_
  exact kk _ _ _ _ _ _ _ _ _ _ _ _ _ _ _ _ _ _ _ _ _ _ _ _ _ _ _ _ _ _ _ _ _ _ _ _ _ _ _ _ hx_7 hm_10 hR

theorem dL_law_1689 : decode cL_law 1689 = .ok (.aload_n 1, 1) := dk_43 (kat_26 25 rfl)
theorem dL_law_1690 : decode cL_law 1690 = .ok (.aload_n 0, 1) := dk_42 (kat_26 26 rfl)
theorem dL_law_1691 : decode cL_law 1691 = .ok (.iload 4, 2) := dk_21 (kat_26 27 rfl) (kat_26 28 rfl) rfl
theorem dL_law_1693 : decode cL_law 1693 = .ok (.iconst 1, 1) := dk_4 (kat_26 29 rfl)
theorem dL_law_1694 : decode cL_law 1694 = .ok (.iadd, 1) := dk_96 (kat_26 30 rfl)
theorem dL_law_1695 : decode cL_law 1695 = .ok (.iaload, 1) := dk_46 (kat_26 31 rfl)
theorem dL_law_1696 : decode cL_law 1696 = .ok (.ifCond .eq 7, 3) := by decide +kernel
theorem dL_law_1699 : decode cL_law 1699 = .ok (.iconst 1, 1) := dk_4 (kat_26 35 rfl)
theorem dL_law_1700 : decode cL_law 1700 = .ok (.goto 4, 3) := dk_167 (kat_26 36 rfl) (kat_26 37 rfl) (kat_26 38 rfl) (by decide)
theorem dL_law_1703 : decode cL_law 1703 = .ok (.iconst 0, 1) := dk_3 (kat_26 39 rfl)
theorem dL_law_1704 : decode cL_law 1704 = .ok (.invokevirtual 189, 3) := dk_182 (kat_26 40 rfl) (kat_26 41 rfl) (kat_26 42 rfl) rfl
theorem dL_law_1707 : decode cL_law 1707 = .ok (.pop2, 1) := dk_88 (kat_26 43 rfl)
theorem dL_law_1708 : decode cL_law 1708 = .ok (.aload_n 2, 1) := dk_44 (kat_26 44 rfl)
theorem dL_law_1709 : decode cL_law 1709 = .ok (.aload_n 0, 1) := dk_42 (kat_26 45 rfl)
theorem dL_law_1710 : decode cL_law 1710 = .ok (.iload 4, 2) := dk_21 (kat_26 46 rfl) (kat_26 47 rfl) rfl
theorem dL_law_1712 : decode cL_law 1712 = .ok (.iconst 1, 1) := dk_4 (kat_26 48 rfl)
theorem dL_law_1713 : decode cL_law 1713 = .ok (.iadd, 1) := dk_96 (kat_26 49 rfl)
theorem dL_law_1714 : decode cL_law 1714 = .ok (.iaload, 1) := dk_46 (kat_26 50 rfl)
theorem dL_law_1715 : decode cL_law 1715 = .ok (.ifCond .eq 7, 3) := by decide +kernel
theorem dL_law_1718 : decode cL_law 1718 = .ok (.iconst 1, 1) := dk_4 (kat_26 54 rfl)
theorem dL_law_1719 : decode cL_law 1719 = .ok (.goto 4, 3) := dk_167 (kat_26 55 rfl) (kat_26 56 rfl) (kat_26 57 rfl) (by decide)
theorem dL_law_1722 : decode cL_law 1722 = .ok (.iconst 0, 1) := dk_3 (kat_26 58 rfl)
theorem dL_law_1723 : decode cL_law 1723 = .ok (.invokevirtual 193, 3) := dk_182 (kat_26 59 rfl) (kat_26 60 rfl) (kat_26 61 rfl) rfl
theorem dL_law_1726 : decode cL_law 1726 = .ok (.pop2, 1) := dk_88 (kat_26 62 rfl)
theorem dL_law_1727 : decode cL_law 1727 = .ok (.goto 335, 3) := dk_167 (kat_26 63 rfl) (kat_27 0 rfl) (kat_27 1 rfl) (by decide)
set_option maxHeartbeats 4000000 in
set_option maxRecDepth 100000 in
theorem law_c41 {p : Program} {l : Launch} {e : Env} {s : State} {m : MethodId} {below : List Frame} {meth : Method} {c : Code} {A : Nat → Prop} {g : Gx} {b L : Nat} {xs : Nat → Int32} {h0 mo lo n1 n2 : Nat} {fo : Nat → Int64} {u4 : Int32} {xtpd : Int32} {tpf : Nat → Int32} {yhnf : Nat → Int32} {yhtn : Int32} {yhtf : Nat → Int32} {yhjn : Int32} {yhjf : Nat → Int32} {yhmn : Int32} {yhmf : Nat → Int32} {yhbn : Int32} {yhbf : Nat → Int32} {yhsn : Int32} {yhsf : Nat → Int32} {yhcn : Int32} {yhcf : Nat → Int32} {zrn : Int32} {zmn : Int32} {zwn : Int32} {zpn : Int32} {zmd : Int32} {ztr : Int32} {zrf : Nat → Int32} {zmf : Nat → Int32} {zwf : Nat → Int32} {zpf : Nat → Int32} {kac : Int32} {knx : Int32} {kim : Int32} {cf : Nat → SC} {m_taped : Int32} {d_tape : Nat → Int32} {d_r : Nat → Int32} {d_st : Nat → Int32} {d_undone : Nat → Int32} {d_kept : Nat → Int32} {m_undos : Int32} {m_images : Int32} {m_hasHouse : Int32} {xw mw : va_W} (X : Cx p s m meth c #[Value.ref b] cL_law 7 RL A g) (hX : va_X b L xs s s.heap) (hbl : b < s.heap.size) (hbA : ¬ A b) (hi : 0 ≤ u4.toInt ∧ u4.toInt + 6 ≤ (L : Int)) (hL : L ≤ 3072) (h1 : n1 ≤ 601023) (h2 : n2 ≤ 7293028) (hlt : l.stackTraces = false) (hZ : kZ A s s.heap) (htsE : ∀ w ∈ wsE, w.before #[Value.ref b] s = true) (hx : XW g h0 xtpd tpf yhnf yhtn yhtf yhjn yhjf yhmn yhmf yhbn yhbf yhsn yhsf yhcn yhcf zrn zmn zwn zpn zmd ztr zrf zmf zwf zpf kac knx kim cf xw) (hm : MW g mo m_taped d_tape d_r d_st d_undone d_kept m_undos m_images m_hasHouse mw) (hR : LR xtpd tpf yhnf yhtn yhtf yhjn yhjf yhmn yhmf yhbn yhbf yhsn yhsf yhcn yhcf zrn zmn zwn zpn zmd ztr zrf zmf zwf zpf kac knx kim cf m_taped d_tape d_r d_st d_undone d_kept m_undos m_images m_hasHouse) (kk : ∀ (xtpd_2 : Int32) (tpf_2 : Nat → Int32) (yhnf_2 : Nat → Int32) (yhtn_2 : Int32) (yhtf_2 : Nat → Int32) (yhjn_2 : Int32) (yhjf_2 : Nat → Int32) (yhmn_2 : Int32) (yhmf_2 : Nat → Int32) (yhbn_2 : Int32) (yhbf_2 : Nat → Int32) (yhsn_2 : Int32) (yhsf_2 : Nat → Int32) (yhcn_2 : Int32) (yhcf_2 : Nat → Int32) (zrn_2 : Int32) (zmn_2 : Int32) (zwn_2 : Int32) (zpn_2 : Int32) (zmd_2 : Int32) (ztr_2 : Int32) (zrf_2 : Nat → Int32) (zmf_2 : Nat → Int32) (zwf_2 : Nat → Int32) (zpf_2 : Nat → Int32) (kac_2 : Int32) (knx_2 : Int32) (kim_2 : Int32) (cf_2 : Nat → SC) (m_taped_2 : Int32) (d_tape_2 : Nat → Int32) (d_r_2 : Nat → Int32) (d_st_2 : Nat → Int32) (d_undone_2 : Nat → Int32) (d_kept_2 : Nat → Int32) (m_undos_2 : Int32) (m_images_2 : Int32) (m_hasHouse_2 : Int32) (xw2 mw2 : va_W), XW g h0 xtpd_2 tpf_2 yhnf_2 yhtn_2 yhtf_2 yhjn_2 yhjf_2 yhmn_2 yhmf_2 yhbn_2 yhbf_2 yhsn_2 yhsf_2 yhcn_2 yhcf_2 zrn_2 zmn_2 zwn_2 zpn_2 zmd_2 ztr_2 zrf_2 zmf_2 zwf_2 zpf_2 kac_2 knx_2 kim_2 cf_2 xw2 → MW g mo m_taped_2 d_tape_2 d_r_2 d_st_2 d_undone_2 d_kept_2 m_undos_2 m_images_2 m_hasHouse_2 mw2 → LR xtpd_2 tpf_2 yhnf_2 yhtn_2 yhtf_2 yhjn_2 yhjf_2 yhmn_2 yhmf_2 yhbn_2 yhbf_2 yhsn_2 yhsf_2 yhcn_2 yhcf_2 zrn_2 zmn_2 zwn_2 zpn_2 zmd_2 ztr_2 zrf_2 zmf_2 zwf_2 zpf_2 kac_2 knx_2 kim_2 cf_2 m_taped_2 d_tape_2 d_r_2 d_st_2 d_undone_2 d_kept_2 m_undos_2 m_images_2 m_hasHouse_2 → Wk p l e room_1 s m #[Value.ref b] below meth c (lw_Z below #[Value.ref b] s) A g 7 n1 n2 (xw2 ++ (mw2 ++ [(cAJ g lo 1 fo)])) [(4, .int u4), (3, .ref lo), (2, .ref mo), (1, .ref h0), (0, .ref b)] 2062 []) : Wk p l e room_1 s m #[Value.ref b] below meth c (lw_Z below #[Value.ref b] s) A g 7 n1 n2 (xw ++ (mw ++ [(cAJ g lo 1 fo)])) [(4, .int u4), (3, .ref lo), (2, .ref mo), (1, .ref h0), (0, .ref b)] 1689 [] := by
  have hiv : IV u4 0 3066 := ⟨hi.1, by omega⟩
  refine k_aload_n X dL_law_1689 3 rfl ?_
  refine k_aload_n X dL_law_1690 4 rfl ?_
  refine k_iload X dL_law_1691 0 rfl ?_
  refine k_iconst (v := 1) X dL_law_1693 (by decide) ?_
  refine k_iadd X dL_law_1694 ?_
  refine k_nm (fun z_1 ez_1 => ?_)
  have i_2 : z_1.toInt = u4.toInt + 1 := in_add ez_1 hiv (show IV 1 1 1 from (by decide)) (by decide) (by decide)
  have iv_3 : IV z_1 1 3067 := by have := hiv; have := (show IV 1 1 1 from (by decide)); rw [IV, i_2]; omega
  refine k_sld X hX hbl hbA dL_law_1695 (by rw [vp_in_iff]; have := iv_3; omega) ?_
  refine k_nm (fun a_4 ea_4 => ?_)
  refine k_if_eq 1703 X dL_law_1696 (by decide) (fun h_5 => ?_) (fun h_5 => ?_)
  · skip
    have iv_6 : IV a_4 0 0 := iv_meet (iv_any a_4) (iv_e h_5 (show IV 0 0 0 from (by decide))) (by decide) (by decide)
    refine k_iconst (v := 0) X dL_law_1703 (by decide) ?_
    refine lx_well (st := []) 0 X hx dL_law_1704 mw1344 (Nat.le_of_ble_eq_true rfl) (Nat.le_of_ble_eq_true rfl) (Nat.le_of_ble_eq_true rfl) (Nat.le_trans h1 (Nat.le_of_ble_eq_true rfl)) (Nat.le_trans h2 (Nat.le_of_ble_eq_true rfl)) (fun r_7 xw_8 hx_9 => ?_)
    refine k_pop2 X dL_law_1707 rfl ?_
    refine k_aload_n X dL_law_1708 2 rfl ?_
    refine k_aload_n X dL_law_1709 4 rfl ?_
    refine k_iload X dL_law_1710 0 rfl ?_
    refine k_iconst (v := 1) X dL_law_1712 (by decide) ?_
    refine k_iadd X dL_law_1713 ?_
    refine k_to z_1 ez_1.symm ?_
    refine k_sld X hX hbl hbA dL_law_1714 (by rw [vp_in_iff]; have := iv_3; omega) ?_
    refine k_to a_4 ea_4.symm ?_
    refine k_if_eq 1722 X dL_law_1715 (by decide) (fun h_10 => ?_) (fun h_10 => absurd h_5 h_10)
    refine k_iconst (v := 0) X dL_law_1722 (by decide) ?_
    refine lm_well (st := []) 0 X hm dL_law_1723 mw1348 (Nat.le_of_ble_eq_true rfl) (Nat.le_of_ble_eq_true rfl) (Nat.le_of_ble_eq_true rfl) (Nat.le_trans h1 (Nat.le_of_ble_eq_true rfl)) (Nat.le_trans h2 (Nat.le_of_ble_eq_true rfl)) (fun r_11 mw_12 hm_13 => ?_)
    refine k_pop2 X dL_law_1726 rfl ?_
    refine k_goto 2062 X dL_law_1727 (by decide) ?_
    exact kk _ _ _ _ _ _ _ _ _ _ _ _ _ _ _ _ _ _ _ _ _ _ _ _ _ _ _ _ _ _ _ _ _ _ _ _ _ _ _ _ hx_9 hm_13 hR
  · skip
    refine k_iconst (v := 1) X dL_law_1699 (by decide) ?_
    refine k_goto 1704 X dL_law_1700 (by decide) ?_
    refine lx_well (st := []) 1 X hx dL_law_1704 mw1344 (Nat.le_of_ble_eq_true rfl) (Nat.le_of_ble_eq_true rfl) (Nat.le_of_ble_eq_true rfl) (Nat.le_trans h1 (Nat.le_of_ble_eq_true rfl)) (Nat.le_trans h2 (Nat.le_of_ble_eq_true rfl)) (fun r_14 xw_15 hx_16 => ?_)
    refine k_pop2 X dL_law_1707 rfl ?_
    refine k_aload_n X dL_law_1708 2 rfl ?_
    refine k_aload_n X dL_law_1709 4 rfl ?_
    refine k_iload X dL_law_1710 0 rfl ?_
    refine k_iconst (v := 1) X dL_law_1712 (by decide) ?_
    refine k_iadd X dL_law_1713 ?_
    refine k_to z_1 ez_1.symm ?_
    refine k_sld X hX hbl hbA dL_law_1714 (by rw [vp_in_iff]; have := iv_3; omega) ?_
    refine k_to a_4 ea_4.symm ?_
    refine k_if_eq 1722 X dL_law_1715 (by decide) (fun h_17 => absurd h_17 h_5) (fun h_17 => ?_)
    refine k_iconst (v := 1) X dL_law_1718 (by decide) ?_
    refine k_goto 1723 X dL_law_1719 (by decide) ?_
    refine lm_well (st := []) 1 X hm dL_law_1723 mw1348 (Nat.le_of_ble_eq_true rfl) (Nat.le_of_ble_eq_true rfl) (Nat.le_of_ble_eq_true rfl) (Nat.le_trans h1 (Nat.le_of_ble_eq_true rfl)) (Nat.le_trans h2 (Nat.le_of_ble_eq_true rfl)) (fun r_18 mw_19 hm_20 => ?_)
    refine k_pop2 X dL_law_1726 rfl ?_
    refine k_goto 2062 X dL_law_1727 (by decide) ?_
    exact kk _ _ _ _ _ _ _ _ _ _ _ _ _ _ _ _ _ _ _ _ _ _ _ _ _ _ _ _ _ _ _ _ _ _ _ _ _ _ _ _ hx_16 hm_20 hR
