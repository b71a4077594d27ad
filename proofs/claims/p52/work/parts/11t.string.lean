theorem dJ0_coder_7d493_0 : decode cJ0_coder_7d493 0 = .ok (.getstatic 38, 3) := dk_178 rfl rfl rfl rfl
theorem dJ0_coder_7d493_3 : decode cJ0_coder_7d493 3 = .ok (.ifCond .eq 10, 3) := dk_153 rfl rfl rfl (by decide)
theorem dJ0_coder_7d493_6 : decode cJ0_coder_7d493 6 = .ok (.aload_n 0, 1) := dk_42 rfl
theorem dJ0_coder_7d493_7 : decode cJ0_coder_7d493 7 = .ok (.getfield 15, 3) := dk_180 rfl rfl rfl rfl
theorem dJ0_coder_7d493_10 : decode cJ0_coder_7d493 10 = .ok (.goto 4, 3) := dk_167 rfl rfl rfl (by decide)
theorem dJ0_coder_7d493_14 : decode cJ0_coder_7d493 14 = .ok (.ireturn, 1) := dk_172 rfl
set_option maxHeartbeats 4000000 in
set_option maxRecDepth 100000 in
theorem j_coder (l : Launch) (g : Gx) (sa : Nat) (tx_sa : String) (hp_sa : LtS g sa tx_sa) : cI l g yJ0_coder_7d493 cJ0_coder_7d493 1 (some .byte) 0 0 0 0 [.ref sa] [] (fun r w => IV r 0 0 ∧ (r = 0) ∧ w = []) := by
  refine cI.of (by decide) (Nat.le_of_ble_eq_true rfl) ?_
  intro p e s m args below meth c A X hr hi
  refine k_lveq [(0, .ref sa)] rfl ?_
  refine k_gcs X dJ0_coder_7d493_0 mw266 ?_
  refine k_if_eq 13 X dJ0_coder_7d493_3 (by decide) (fun h_1 => absurd h_1 (by decide)) (fun _ => ?_)
  refine k_aload_n X dJ0_coder_7d493_6 0 rfl ?_
  refine k_sgetC X hp_sa dJ0_coder_7d493_7 mw267 ?_
  refine k_goto 14 X dJ0_coder_7d493_10 (by decide) ?_
  exact k_zret X hr (by first | rfl | decide) dJ0_coder_7d493_14 (Nat.le_of_ble_eq_true rfl) (Nat.le_of_ble_eq_true rfl) [] (by decide) rfl rfl ⟨(iv_w (show IV 0 0 0 from (by decide)) (by decide) (by decide)), rfl, rfl⟩

theorem dJ0_isLatin1_aae02_0 : decode cJ0_isLatin1_aae02 0 = .ok (.getstatic 38, 3) := dk_178 rfl rfl rfl rfl
theorem dJ0_isLatin1_aae02_3 : decode cJ0_isLatin1_aae02 3 = .ok (.ifCond .eq 14, 3) := dk_153 rfl rfl rfl (by decide)
theorem dJ0_isLatin1_aae02_6 : decode cJ0_isLatin1_aae02 6 = .ok (.aload_n 0, 1) := dk_42 rfl
theorem dJ0_isLatin1_aae02_7 : decode cJ0_isLatin1_aae02 7 = .ok (.getfield 15, 3) := dk_180 rfl rfl rfl rfl
theorem dJ0_isLatin1_aae02_10 : decode cJ0_isLatin1_aae02 10 = .ok (.ifCond .ne 7, 3) := dk_154 rfl rfl rfl (by decide)
theorem dJ0_isLatin1_aae02_13 : decode cJ0_isLatin1_aae02 13 = .ok (.iconst 1, 1) := dk_4 rfl
theorem dJ0_isLatin1_aae02_14 : decode cJ0_isLatin1_aae02 14 = .ok (.goto 4, 3) := dk_167 rfl rfl rfl (by decide)
theorem dJ0_isLatin1_aae02_18 : decode cJ0_isLatin1_aae02 18 = .ok (.ireturn, 1) := dk_172 rfl
set_option maxHeartbeats 4000000 in
set_option maxRecDepth 100000 in
theorem j_latin (l : Launch) (g : Gx) (sa : Nat) (tx_sa : String) (hp_sa : LtS g sa tx_sa) : cI l g yJ0_isLatin1_aae02 cJ0_isLatin1_aae02 1 (some .boolean) 0 0 0 0 [.ref sa] [] (fun r w => IV r 1 1 ∧ w = []) := by
  refine cI.of (by decide) (Nat.le_of_ble_eq_true rfl) ?_
  intro p e s m args below meth c A X hr hi
  refine k_lveq [(0, .ref sa)] rfl ?_
  refine k_gcs X dJ0_isLatin1_aae02_0 mw266 ?_
  refine k_if_eq 17 X dJ0_isLatin1_aae02_3 (by decide) (fun h_1 => absurd h_1 (by decide)) (fun _ => ?_)
  refine k_aload_n X dJ0_isLatin1_aae02_6 0 rfl ?_
  refine k_sgetC X hp_sa dJ0_isLatin1_aae02_7 mw267 ?_
  refine k_if_ne 17 X dJ0_isLatin1_aae02_10 (by decide) (fun h_2 => absurd h_2 (by decide)) (fun _ => ?_)
  refine k_iconst (v := 1) X dJ0_isLatin1_aae02_13 (by decide) ?_
  refine k_goto 18 X dJ0_isLatin1_aae02_14 (by decide) ?_
  exact k_zret X hr (by first | rfl | decide) dJ0_isLatin1_aae02_18 (Nat.le_of_ble_eq_true rfl) (Nat.le_of_ble_eq_true rfl) [] (by decide) rfl rfl ⟨(iv_w (show IV 1 1 1 from (by decide)) (by decide) (by decide)), rfl⟩

theorem dJ0_length_8abf5_0 : decode cJ0_length_8abf5 0 = .ok (.aload_n 0, 1) := dk_42 rfl
theorem dJ0_length_8abf5_1 : decode cJ0_length_8abf5 1 = .ok (.getfield 9, 3) := dk_180 rfl rfl rfl rfl
theorem dJ0_length_8abf5_4 : decode cJ0_length_8abf5 4 = .ok (.arraylength, 1) := dk_190 rfl
theorem dJ0_length_8abf5_5 : decode cJ0_length_8abf5 5 = .ok (.aload_n 0, 1) := dk_42 rfl
theorem dJ0_length_8abf5_6 : decode cJ0_length_8abf5 6 = .ok (.invokevirtual 335, 3) := dk_182 rfl rfl rfl rfl
theorem dJ0_length_8abf5_9 : decode cJ0_length_8abf5 9 = .ok (.ishr, 1) := dk_122 rfl
theorem dJ0_length_8abf5_10 : decode cJ0_length_8abf5 10 = .ok (.ireturn, 1) := dk_172 rfl
set_option maxHeartbeats 4000000 in
set_option maxRecDepth 100000 in
theorem j_length (l : Launch) (g : Gx) (sa : Nat) (tx_sa : String) (hp_sa : LtS g sa tx_sa) : cI l g yJ0_length_8abf5 cJ0_length_8abf5 1 (some .int) 1 20 0 0 [.ref sa] [] (fun r w => IV r 0 8 ∧ (r = nI (sBy tx_sa).length) ∧ w = []) := by
  refine cI.of (by decide) (Nat.le_of_ble_eq_true rfl) ?_
  intro p e s m args below meth c A X hr hi
  refine k_lveq [(0, .ref sa)] rfl ?_
  refine k_aload_n X dJ0_length_8abf5_0 0 rfl ?_
  refine k_sgetV X hp_sa dJ0_length_8abf5_1 mw261 (fun sv_1 hsv_1 => ?_)
  refine k_svlen X hsv_1 dJ0_length_8abf5_4 ?_
  refine k_nm (fun z_2 ez_2 => ?_)
  have iv_3 : IV z_2 0 8 := sl_iv ez_2 hsv_1
  refine k_aload_n X dJ0_length_8abf5_5 0 rfl ?_
  refine k_callLI (n := 0) (As := []) (st := [.int z_2]) X [] [] [] [] (j_coder l g sa tx_sa hp_sa) dJ0_length_8abf5_6 mw262 mw263 mw264 mw259 mw265 rfl hp_sa rfl yk_yJ0_coder_7d493_0 rfl (Nat.le_of_ble_eq_true rfl) (Nat.le_of_ble_eq_true rfl) (Nat.le_of_ble_eq_true rfl) (Nat.le_of_ble_eq_true rfl) (Nat.le_of_ble_eq_true rfl) rfl rfl (by decide) rfl (by decide) (by decide) ?_
  rintro r_4 w ⟨iv_5, hq_6, rfl⟩
  refine k_ws [] rfl ?_
  refine k_ishr X dJ0_length_8abf5_9 ?_
  refine k_nm (fun z_7 ez_7 => ?_)
  have iv_8 : IV z_7 0 8 := by have hl := ls_len hp_sa; subst_vars; rw [sc_shr0 (by omega), IV, nI_toInt (by omega)]; omega
  exact k_iret X hr dJ0_length_8abf5_10 (Nat.le_of_ble_eq_true rfl) (Nat.le_of_ble_eq_true rfl) [] (by decide) rfl rfl ⟨(iv_w iv_8 (by decide) (by decide)), (by have hl := ls_len hp_sa; subst_vars; exact sc_shr0 (by omega)), rfl⟩

theorem dJ3_checkIndex_8e157_0 : decode cJ3_checkIndex_8e157 0 = .ok (.iload_n 0, 1) := dk_26 rfl
theorem dJ3_checkIndex_8e157_1 : decode cJ3_checkIndex_8e157 1 = .ok (.ifCond .lt 8, 3) := dk_155 rfl rfl rfl (by decide)
theorem dJ3_checkIndex_8e157_4 : decode cJ3_checkIndex_8e157 4 = .ok (.iload_n 0, 1) := dk_26 rfl
theorem dJ3_checkIndex_8e157_5 : decode cJ3_checkIndex_8e157 5 = .ok (.iload_n 1, 1) := dk_27 rfl
theorem dJ3_checkIndex_8e157_6 : decode cJ3_checkIndex_8e157 6 = .ok (.if_icmp .lt 10, 3) := dk_161 rfl rfl rfl (by decide)
theorem dJ3_checkIndex_8e157_16 : decode cJ3_checkIndex_8e157 16 = .ok (.iload_n 0, 1) := dk_26 rfl
theorem dJ3_checkIndex_8e157_17 : decode cJ3_checkIndex_8e157 17 = .ok (.ireturn, 1) := dk_172 rfl
set_option maxHeartbeats 4000000 in
set_option maxRecDepth 100000 in
theorem j_ckn (l : Launch) (g : Gx) (p0 : Int32) (p1 : Int32) (hv_p0 : IV p0 0 2147483647) (hr_0 : p0 < p1) : cI l g yJ3_checkIndex_8e157 cJ3_checkIndex_8e157 3 (some .int) 0 0 0 0 [.int p0, .int p1, .null] [] (fun r w => w = []) := by
  refine cI.of (by decide) (Nat.le_of_ble_eq_true rfl) ?_
  intro p e s m args below meth c A X hr hi
  refine k_lveq [(0, .int p0), (1, .int p1), (2, .null)] rfl ?_
  refine k_iload_n X dJ3_checkIndex_8e157_0 0 rfl ?_
  refine k_if_lt 9 X dJ3_checkIndex_8e157_1 (by decide) (fun h_1 => (iv_ltN (iv_lt h_1) hv_p0 (show IV 0 0 0 from (by decide)) (by decide)).elim) (fun h_1 => ?_)
  have j_2 : 0 ≤ p0.toInt := iv_nlt h_1
  refine k_iload_n X dJ3_checkIndex_8e157_4 0 rfl ?_
  refine k_iload_n X dJ3_checkIndex_8e157_5 1 rfl ?_
  refine k_ic_lt 16 X dJ3_checkIndex_8e157_6 (by decide) (fun h_3 => ?_) (fun h_3 => absurd hr_0 h_3)
  refine k_iload_n X dJ3_checkIndex_8e157_16 0 rfl ?_
  exact k_iret X hr dJ3_checkIndex_8e157_17 (Nat.le_of_ble_eq_true rfl) (Nat.le_of_ble_eq_true rfl) [] (by decide) rfl rfl rfl


set_option maxHeartbeats 4000000 in
set_option maxRecDepth 100000 in
theorem j_ckr (l : Launch) (g : Gx) (p0 : Int32) (p1 : Int32) (fb : Nat) (hv_p0 : IV p0 0 2147483647) (hr_0 : p0 < p1) : cI l g yJ3_checkIndex_8e157 cJ3_checkIndex_8e157 3 (some .int) 0 0 0 0 [.int p0, .int p1, .ref fb] [] (fun r w => w = []) := by
  refine cI.of (by decide) (Nat.le_of_ble_eq_true rfl) ?_
  intro p e s m args below meth c A X hr hi
  refine k_lveq [(0, .int p0), (1, .int p1), (2, .ref fb)] rfl ?_
  refine k_iload_n X dJ3_checkIndex_8e157_0 0 rfl ?_
  refine k_if_lt 9 X dJ3_checkIndex_8e157_1 (by decide) (fun h_1 => (iv_ltN (iv_lt h_1) hv_p0 (show IV 0 0 0 from (by decide)) (by decide)).elim) (fun h_1 => ?_)
  have j_2 : 0 ≤ p0.toInt := iv_nlt h_1
  refine k_iload_n X dJ3_checkIndex_8e157_4 0 rfl ?_
  refine k_iload_n X dJ3_checkIndex_8e157_5 1 rfl ?_
  refine k_ic_lt 16 X dJ3_checkIndex_8e157_6 (by decide) (fun h_3 => ?_) (fun h_3 => absurd hr_0 h_3)
  refine k_iload_n X dJ3_checkIndex_8e157_16 0 rfl ?_
  exact k_iret X hr dJ3_checkIndex_8e157_17 (Nat.le_of_ble_eq_true rfl) (Nat.le_of_ble_eq_true rfl) [] (by decide) rfl rfl rfl

theorem dJ0_checkIndex_df160_0 : decode cJ0_checkIndex_df160 0 = .ok (.iload_n 0, 1) := dk_26 rfl
theorem dJ0_checkIndex_df160_1 : decode cJ0_checkIndex_df160 1 = .ok (.iload_n 1, 1) := dk_27 rfl
theorem dJ0_checkIndex_df160_2 : decode cJ0_checkIndex_df160 2 = .ok (.getstatic 1053, 3) := dk_178 rfl rfl rfl rfl
theorem dJ0_checkIndex_df160_5 : decode cJ0_checkIndex_df160 5 = .ok (.invokestatic 1059, 3) := dk_184 rfl rfl rfl rfl
theorem dJ0_checkIndex_df160_8 : decode cJ0_checkIndex_df160 8 = .ok (.pop, 1) := dk_87 rfl
theorem dJ0_checkIndex_df160_9 : decode cJ0_checkIndex_df160 9 = .ok (.return_, 1) := dk_177 rfl
set_option maxHeartbeats 4000000 in
set_option maxRecDepth 100000 in
theorem j_check (l : Launch) (g : Gx) (p0 : Int32) (p1 : Int32) (hv_p0 : IV p0 0 2147483647) (hr_0 : p0 < p1) : cV l g yJ0_checkIndex_df160 cJ0_checkIndex_df160 2 1 22 0 0 [.int p0, .int p1] [] (fun w => w = []) := by
  refine cV.of (by decide) (Nat.le_of_ble_eq_true rfl) ?_
  intro p e s m args below meth c A X hr hi
  refine k_lveq [(0, .int p0), (1, .int p1)] rfl ?_
  refine k_iload_n X dJ0_checkIndex_df160_0 0 rfl ?_
  refine k_iload_n X dJ0_checkIndex_df160_1 1 rfl ?_
  refine k_gfm X dJ0_checkIndex_df160_2 mw283 ?_ (fun b_1 => ?_)
  · skip
    refine k_callSI (n := 3) (As := [.int p0, .int p1, .null]) (st := []) X [] [] [] [] (j_ckn l g p0 p1 (iv_w hv_p0 (by decide) (by decide)) (by first | assumption | (subst_vars; assumption))) dJ0_checkIndex_df160_5 mw284 mw285 mw286 mw287 yk_yJ3_checkIndex_8e157_3 rfl (Nat.le_of_ble_eq_true rfl) (Nat.le_of_ble_eq_true rfl) (Nat.le_of_ble_eq_true rfl) (Nat.le_of_ble_eq_true rfl) (Nat.le_of_ble_eq_true rfl) rfl rfl (by decide) rfl (by decide) (by decide) ?_
    rintro r_2 w rfl
    refine k_ws [] rfl ?_
    refine k_pop X dJ0_checkIndex_df160_8 rfl ?_
    exact k_vret X hr dJ0_checkIndex_df160_9 (Nat.le_of_ble_eq_true rfl) (Nat.le_of_ble_eq_true rfl) [] (by decide) rfl rfl rfl
  · skip
    refine k_callSI (n := 3) (As := [.int p0, .int p1, .ref b_1]) (st := []) X [] [] [] [] (j_ckr l g p0 p1 b_1 (iv_w hv_p0 (by decide) (by decide)) (by first | assumption | (subst_vars; assumption))) dJ0_checkIndex_df160_5 mw284 mw285 mw286 mw287 yk_yJ3_checkIndex_8e157_3 rfl (Nat.le_of_ble_eq_true rfl) (Nat.le_of_ble_eq_true rfl) (Nat.le_of_ble_eq_true rfl) (Nat.le_of_ble_eq_true rfl) (Nat.le_of_ble_eq_true rfl) rfl rfl (by decide) rfl (by decide) (by decide) ?_
    rintro r_3 w rfl
    refine k_ws [] rfl ?_
    refine k_pop X dJ0_checkIndex_df160_8 rfl ?_
    exact k_vret X hr dJ0_checkIndex_df160_9 (Nat.le_of_ble_eq_true rfl) (Nat.le_of_ble_eq_true rfl) [] (by decide) rfl rfl rfl

theorem dJ1_charAt_3b067_0 : decode cJ1_charAt_3b067 0 = .ok (.iload_n 1, 1) := dk_27 rfl
theorem dJ1_charAt_3b067_1 : decode cJ1_charAt_3b067 1 = .ok (.aload_n 0, 1) := dk_42 rfl
theorem dJ1_charAt_3b067_2 : decode cJ1_charAt_3b067 2 = .ok (.arraylength, 1) := dk_190 rfl
theorem dJ1_charAt_3b067_3 : decode cJ1_charAt_3b067 3 = .ok (.invokestatic 9, 3) := dk_184 rfl rfl rfl rfl
theorem dJ1_charAt_3b067_6 : decode cJ1_charAt_3b067 6 = .ok (.aload_n 0, 1) := dk_42 rfl
theorem dJ1_charAt_3b067_7 : decode cJ1_charAt_3b067 7 = .ok (.iload_n 1, 1) := dk_27 rfl
theorem dJ1_charAt_3b067_8 : decode cJ1_charAt_3b067 8 = .ok (.baload, 1) := dk_51 rfl
theorem dJ1_charAt_3b067_9 : decode cJ1_charAt_3b067 9 = .ok (.sipush 255, 3) := dk_17 rfl rfl rfl (by decide)
theorem dJ1_charAt_3b067_12 : decode cJ1_charAt_3b067 12 = .ok (.iand, 1) := dk_126 rfl
theorem dJ1_charAt_3b067_13 : decode cJ1_charAt_3b067 13 = .ok (.i2c, 1) := dk_146 rfl
theorem dJ1_charAt_3b067_14 : decode cJ1_charAt_3b067 14 = .ok (.ireturn, 1) := dk_172 rfl
set_option maxHeartbeats 4000000 in
set_option maxRecDepth 100000 in
theorem j_chL (l : Launch) (g : Gx) (sv : Nat) (p0 : Int32) (tx_sv : String) (hv_p0 : IV p0 0 2147483647) (hp_sv : LtV g sv tx_sv) (hr_0 : p0 < nI (sBy tx_sv).length) : cI l g yJ1_charAt_3b067 cJ1_charAt_3b067 2 (some .char) 2 43 0 0 [.ref sv, .int p0] [] (fun r w => (r = ((((sBy tx_sv).getD p0.toNatClampNeg 0) &&& 255).toUInt32 % 65536).toInt32) ∧ w = []) := by
  refine cI.of (by decide) (Nat.le_of_ble_eq_true rfl) ?_
  intro p e s m args below meth c A X hr hi
  refine k_lveq [(0, .ref sv), (1, .int p0)] rfl ?_
  refine k_iload_n X dJ1_charAt_3b067_0 1 rfl ?_
  refine k_aload_n X dJ1_charAt_3b067_1 0 rfl ?_
  refine k_svlen X hp_sv dJ1_charAt_3b067_2 ?_
  refine k_nm (fun z_1 ez_1 => ?_)
  have iv_2 : IV z_1 0 8 := sl_iv ez_1 hp_sv
  refine k_callSV (n := 2) (As := [.int p0, .int z_1]) (st := []) X [] [] [] [] (j_check l g p0 z_1 (iv_w hv_p0 (by decide) (by decide)) (by first | assumption | (subst_vars; assumption))) dJ1_charAt_3b067_3 mw280 mw281 mw259 mw282 yk_yJ0_checkIndex_df160_2 rfl (Nat.le_of_ble_eq_true rfl) (Nat.le_of_ble_eq_true rfl) (Nat.le_of_ble_eq_true rfl) (Nat.le_of_ble_eq_true rfl) (Nat.le_of_ble_eq_true rfl) rfl rfl (by decide) rfl (by decide) (by decide) ?_
  rintro w rfl
  refine k_ws [] rfl ?_
  refine k_aload_n X dJ1_charAt_3b067_6 0 rfl ?_
  refine k_iload_n X dJ1_charAt_3b067_7 1 rfl ?_
  refine k_svld X hp_sv (sl_in hv_p0 (by decide) hr_0 (lv_len hp_sv)) dJ1_charAt_3b067_8 ?_
  refine k_nm (fun z_4 ez_4 => ?_)
  refine k_sipush (v := 255) X dJ1_charAt_3b067_9 (by decide) ?_
  refine k_iand X dJ1_charAt_3b067_12 ?_
  refine k_nm (fun z_5 ez_5 => ?_)
  have iv_6 : IV z_5 0 255 := iv_and (ez_5.trans (Int32.and_comm _ _)) (show IV 255 255 255 from (by decide)) (by decide)
  refine k_i2c X dJ1_charAt_3b067_13 ?_
  refine k_nm (fun z_7 ez_7 => ?_)
  exact k_zret X hr (by subst_vars; exact pk_nc _) dJ1_charAt_3b067_14 (Nat.le_of_ble_eq_true rfl) (Nat.le_of_ble_eq_true rfl) [] (by decide) rfl rfl ⟨(by subst_vars; rfl), rfl⟩

theorem dJ0_charAt_5068e_0 : decode cJ0_charAt_5068e 0 = .ok (.aload_n 0, 1) := dk_42 rfl
theorem dJ0_charAt_5068e_1 : decode cJ0_charAt_5068e 1 = .ok (.invokevirtual 492, 3) := dk_182 rfl rfl rfl rfl
theorem dJ0_charAt_5068e_4 : decode cJ0_charAt_5068e 4 = .ok (.ifCond .eq 12, 3) := dk_153 rfl rfl rfl (by decide)
theorem dJ0_charAt_5068e_7 : decode cJ0_charAt_5068e 7 = .ok (.aload_n 0, 1) := dk_42 rfl
theorem dJ0_charAt_5068e_8 : decode cJ0_charAt_5068e 8 = .ok (.getfield 9, 3) := dk_180 rfl rfl rfl rfl
theorem dJ0_charAt_5068e_11 : decode cJ0_charAt_5068e 11 = .ok (.iload_n 1, 1) := dk_27 rfl
theorem dJ0_charAt_5068e_12 : decode cJ0_charAt_5068e 12 = .ok (.invokestatic 495, 3) := dk_184 rfl rfl rfl rfl
theorem dJ0_charAt_5068e_15 : decode cJ0_charAt_5068e 15 = .ok (.ireturn, 1) := dk_172 rfl
set_option maxHeartbeats 4000000 in
set_option maxRecDepth 100000 in
theorem j_charAt (l : Launch) (g : Gx) (sa : Nat) (p0 : Int32) (tx_sa : String) (hv_p0 : IV p0 0 2147483647) (hp_sa : LtS g sa tx_sa) (hr_0 : p0 < nI (sBy tx_sa).length) : cI l g yJ0_charAt_5068e cJ0_charAt_5068e 2 (some .char) 3 64 0 0 [.ref sa, .int p0] [] (fun r w => (r = ((((sBy tx_sa).getD p0.toNatClampNeg 0) &&& 255).toUInt32 % 65536).toInt32) ∧ w = []) := by
  refine cI.of (by decide) (Nat.le_of_ble_eq_true rfl) ?_
  intro p e s m args below meth c A X hr hi
  refine k_lveq [(0, .ref sa), (1, .int p0)] rfl ?_
  refine k_aload_n X dJ0_charAt_5068e_0 0 rfl ?_
  refine k_callLI (n := 0) (As := []) (st := []) X [] [] [] [] (j_latin l g sa tx_sa hp_sa) dJ0_charAt_5068e_1 mw272 mw273 mw274 mw259 mw275 rfl hp_sa rfl yk_yJ0_isLatin1_aae02_0 rfl (Nat.le_of_ble_eq_true rfl) (Nat.le_of_ble_eq_true rfl) (Nat.le_of_ble_eq_true rfl) (Nat.le_of_ble_eq_true rfl) (Nat.le_of_ble_eq_true rfl) rfl rfl (by decide) rfl (by decide) (by decide) ?_
  rintro r_1 w ⟨iv_2, rfl⟩
  refine k_ws [] rfl ?_
  refine k_if_eq 16 X dJ0_charAt_5068e_4 (by decide) (fun h_3 => (iv_eqN h_3 iv_2 (show IV 0 0 0 from (by decide)) (by decide)).elim) (fun h_3 => ?_)
  refine k_aload_n X dJ0_charAt_5068e_7 0 rfl ?_
  refine k_sgetV X hp_sa dJ0_charAt_5068e_8 mw261 (fun sv_4 hsv_4 => ?_)
  refine k_iload_n X dJ0_charAt_5068e_11 1 rfl ?_
  refine k_callSI (n := 2) (As := [.ref sv_4, .int p0]) (st := []) X [] [] [] [] (j_chL l g sv_4 p0 tx_sa (iv_w hv_p0 (by decide) (by decide)) hsv_4 (by first | assumption | (subst_vars; first | assumption | exact Int32.not_le.mp (by assumption)))) dJ0_charAt_5068e_12 mw276 mw277 mw278 mw279 yk_yJ1_charAt_3b067_2 rfl (Nat.le_of_ble_eq_true rfl) (Nat.le_of_ble_eq_true rfl) (Nat.le_of_ble_eq_true rfl) (Nat.le_of_ble_eq_true rfl) (Nat.le_of_ble_eq_true rfl) rfl rfl (by decide) rfl (by decide) (by decide) ?_
  rintro r_5 w ⟨hq_6, rfl⟩
  refine k_ws [] rfl ?_
  exact k_zret X hr (by subst_vars; exact pk_nc _) dJ0_charAt_5068e_15 (Nat.le_of_ble_eq_true rfl) (Nat.le_of_ble_eq_true rfl) [] (by decide) rfl rfl ⟨(by subst_vars; rfl), rfl⟩
