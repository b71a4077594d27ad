theorem dX8_has_0 : decode cX8_has 0 = .ok (.iload_n 1, 1) := dk_27 rfl
theorem dX8_has_1 : decode cX8_has 1 = .ok (.ifCond .lt 15, 3) := dk_155 rfl rfl rfl (by decide)
theorem dX8_has_4 : decode cX8_has 4 = .ok (.iload_n 1, 1) := dk_27 rfl
theorem dX8_has_5 : decode cX8_has 5 = .ok (.aload_n 0, 1) := dk_42 rfl
theorem dX8_has_6 : decode cX8_has 6 = .ok (.getfield 7, 3) := dk_180 rfl rfl rfl rfl
theorem dX8_has_9 : decode cX8_has 9 = .ok (.if_icmp .ge 7, 3) := dk_162 rfl rfl rfl (by decide)
theorem dX8_has_12 : decode cX8_has 12 = .ok (.iconst 1, 1) := dk_4 rfl
theorem dX8_has_13 : decode cX8_has 13 = .ok (.goto 4, 3) := dk_167 rfl rfl rfl (by decide)
theorem dX8_has_16 : decode cX8_has 16 = .ok (.iconst 0, 1) := dk_3 rfl
theorem dX8_has_17 : decode cX8_has 17 = .ok (.ireturn, 1) := dk_172 rfl
set_option maxHeartbeats 4000000 in
set_option maxRecDepth 100000 in
theorem t_has (l : Launch) (g : Gx) (h0 : Nat) (p0 : Int32) (v0h0 : Value) (v1h0 : Value) (v2h0 : Value) (cn : Int32) : cI l g yX8_has cX8_has 2 (some .boolean) 0 0 0 0 [.ref h0, .int p0] [(cO8_vvvi h0 v0h0 v1h0 v2h0 cn)] (fun r w => (r = if p0 < 0 ∨ cn ≤ p0 then 0 else 1) ∧ w = [(cO8_vvvi h0 v0h0 v1h0 v2h0 cn)]) := by
  refine cI.of (by decide) (Nat.le_of_ble_eq_true rfl) ?_
  intro p e s m args below meth c A X hr hi
  refine k_lveq [(0, .ref h0), (1, .int p0)] rfl ?_
  refine k_iload_n X dX8_has_0 1 rfl ?_
  refine k_if_lt 16 X dX8_has_1 (by decide) (fun h_1 => ?_) (fun h_1 => ?_)
  · skip
    refine k_iconst (v := 0) X dX8_has_16 (by decide) ?_
    exact k_zret X hr (by first | rfl | decide) dX8_has_17 (Nat.le_of_ble_eq_true rfl) (Nat.le_of_ble_eq_true rfl) [0] (by decide) rfl rfl ⟨(by simp [*]), rfl⟩
  · skip
    refine k_iload_n X dX8_has_4 1 rfl ?_
    refine k_aload_n X dX8_has_5 0 rfl ?_
    refine k_get (ci := 8) X inlX8 rfl 3 (by decide) dX8_has_6 mw100 0 rfl rfl ?_
    refine k_ic_ge 16 X dX8_has_9 (by decide) (fun h_2 => ?_) (fun h_2 => ?_)
    · skip
      refine k_iconst (v := 0) X dX8_has_16 (by decide) ?_
      exact k_zret X hr (by first | rfl | decide) dX8_has_17 (Nat.le_of_ble_eq_true rfl) (Nat.le_of_ble_eq_true rfl) [0] (by decide) rfl rfl ⟨(by simp [*]), rfl⟩
    · skip
      refine k_iconst (v := 1) X dX8_has_12 (by decide) ?_
      refine k_goto 17 X dX8_has_13 (by decide) ?_
      exact k_zret X hr (by first | rfl | decide) dX8_has_17 (Nat.le_of_ble_eq_true rfl) (Nat.le_of_ble_eq_true rfl) [0] (by decide) rfl rfl ⟨(by simp [*]), rfl⟩

theorem dX8_isFull_0 : decode cX8_isFull 0 = .ok (.aload_n 0, 1) := dk_42 rfl
theorem dX8_isFull_1 : decode cX8_isFull 1 = .ok (.getfield 7, 3) := dk_180 rfl rfl rfl rfl
theorem dX8_isFull_4 : decode cX8_isFull 4 = .ok (.aload_n 0, 1) := dk_42 rfl
theorem dX8_isFull_5 : decode cX8_isFull 5 = .ok (.getfield 19, 3) := dk_180 rfl rfl rfl rfl
theorem dX8_isFull_8 : decode cX8_isFull 8 = .ok (.if_icmp .lt 7, 3) := dk_161 rfl rfl rfl (by decide)
theorem dX8_isFull_11 : decode cX8_isFull 11 = .ok (.iconst 1, 1) := dk_4 rfl
theorem dX8_isFull_12 : decode cX8_isFull 12 = .ok (.goto 4, 3) := dk_167 rfl rfl rfl (by decide)
theorem dX8_isFull_15 : decode cX8_isFull 15 = .ok (.iconst 0, 1) := dk_3 rfl
theorem dX8_isFull_16 : decode cX8_isFull 16 = .ok (.ireturn, 1) := dk_172 rfl
set_option maxHeartbeats 4000000 in
set_option maxRecDepth 100000 in
theorem t_isFull (l : Launch) (g : Gx) (h0 : Nat) (R : Int32) (v1h0 : Value) (v2h0 : Value) (cn : Int32) : cI l g yX8_isFull cX8_isFull 1 (some .boolean) 0 0 0 0 [.ref h0] [(cO8_ivvi h0 R v1h0 v2h0 cn)] (fun r w => (r = if cn < R then 0 else 1) ∧ w = [(cO8_ivvi h0 R v1h0 v2h0 cn)]) := by
  refine cI.of (by decide) (Nat.le_of_ble_eq_true rfl) ?_
  intro p e s m args below meth c A X hr hi
  refine k_lveq [(0, .ref h0)] rfl ?_
  refine k_aload_n X dX8_isFull_0 0 rfl ?_
  refine k_get (ci := 8) X inlX8 rfl 3 (by decide) dX8_isFull_1 mw100 0 rfl rfl ?_
  refine k_aload_n X dX8_isFull_4 0 rfl ?_
  refine k_get (ci := 8) X inlX8 rfl 0 (by decide) dX8_isFull_5 mw105 0 rfl rfl ?_
  refine k_ic_lt 15 X dX8_isFull_8 (by decide) (fun h_1 => ?_) (fun h_1 => ?_)
  · skip
    refine k_iconst (v := 0) X dX8_isFull_15 (by decide) ?_
    exact k_zret X hr (by first | rfl | decide) dX8_isFull_16 (Nat.le_of_ble_eq_true rfl) (Nat.le_of_ble_eq_true rfl) [0] (by decide) rfl rfl ⟨(by simp [*]), rfl⟩
  · skip
    refine k_iconst (v := 1) X dX8_isFull_11 (by decide) ?_
    refine k_goto 16 X dX8_isFull_12 (by decide) ?_
    exact k_zret X hr (by first | rfl | decide) dX8_isFull_16 (Nat.le_of_ble_eq_true rfl) (Nat.le_of_ble_eq_true rfl) [0] (by decide) rfl rfl ⟨(by simp [*]), rfl⟩

theorem dX8_clear_0 : decode cX8_clear 0 = .ok (.aload_n 0, 1) := dk_42 rfl
theorem dX8_clear_1 : decode cX8_clear 1 = .ok (.iconst 0, 1) := dk_3 rfl
theorem dX8_clear_2 : decode cX8_clear 2 = .ok (.putfield 7, 3) := dk_181 rfl rfl rfl rfl
theorem dX8_clear_5 : decode cX8_clear 5 = .ok (.return_, 1) := dk_177 rfl
set_option maxHeartbeats 4000000 in
set_option maxRecDepth 100000 in
theorem t_clear (l : Launch) (g : Gx) (h0 : Nat) (v0h0 : Value) (v1h0 : Value) (v2h0 : Value) (cn : Int32) : cV l g yX8_clear cX8_clear 1 0 0 0 0 [.ref h0] [(cO8_vvvi h0 v0h0 v1h0 v2h0 cn)] (fun w => w = [(cO8_vvvi h0 v0h0 v1h0 v2h0 0)]) := by
  refine cV.of (by decide) (Nat.le_of_ble_eq_true rfl) ?_
  intro p e s m args below meth c A X hr hi
  refine k_lveq [(0, .ref h0)] rfl ?_
  refine k_aload_n X dX8_clear_0 0 rfl ?_
  refine k_iconst (v := 0) X dX8_clear_1 (by decide) ?_
  refine k_put (ci := 8) [(cO8_vvvi h0 v0h0 v1h0 v2h0 0)] X inlX8 rfl tyX8_ok nmX8 3 (by decide) rfl dX8_clear_2 mw100 0 rfl rfl rfl (Nat.le_of_ble_eq_true rfl) rfl ?_
  exact k_vret X hr dX8_clear_5 (Nat.le_of_ble_eq_true rfl) (Nat.le_of_ble_eq_true rfl) [0] (by decide) rfl rfl rfl

theorem dX8_at_0 : decode cX8_at 0 = .ok (.iload_n 1, 1) := dk_27 rfl
theorem dX8_at_1 : decode cX8_at 1 = .ok (.ifCond .lt 23, 3) := dk_155 rfl rfl rfl (by decide)
theorem dX8_at_4 : decode cX8_at 4 = .ok (.iload_n 1, 1) := dk_27 rfl
theorem dX8_at_5 : decode cX8_at 5 = .ok (.aload_n 0, 1) := dk_42 rfl
theorem dX8_at_6 : decode cX8_at 6 = .ok (.getfield 19, 3) := dk_180 rfl rfl rfl rfl
theorem dX8_at_9 : decode cX8_at 9 = .ok (.if_icmp .ge 15, 3) := dk_162 rfl rfl rfl (by decide)
theorem dX8_at_12 : decode cX8_at 12 = .ok (.iload_n 2, 1) := dk_28 rfl
theorem dX8_at_13 : decode cX8_at 13 = .ok (.ifCond .lt 11, 3) := dk_155 rfl rfl rfl (by decide)
theorem dX8_at_16 : decode cX8_at 16 = .ok (.iload_n 2, 1) := dk_28 rfl
theorem dX8_at_17 : decode cX8_at 17 = .ok (.aload_n 0, 1) := dk_42 rfl
theorem dX8_at_18 : decode cX8_at 18 = .ok (.getfield 22, 3) := dk_180 rfl rfl rfl rfl
theorem dX8_at_21 : decode cX8_at 21 = .ok (.if_icmp .lt 5, 3) := dk_161 rfl rfl rfl (by decide)
theorem dX8_at_24 : decode cX8_at 24 = .ok (.iconst 0, 1) := dk_3 rfl
theorem dX8_at_25 : decode cX8_at 25 = .ok (.ireturn, 1) := dk_172 rfl
theorem dX8_at_26 : decode cX8_at 26 = .ok (.aload_n 0, 1) := dk_42 rfl
theorem dX8_at_27 : decode cX8_at 27 = .ok (.getfield 25, 3) := dk_180 rfl rfl rfl rfl
theorem dX8_at_30 : decode cX8_at 30 = .ok (.iload_n 1, 1) := dk_27 rfl
theorem dX8_at_31 : decode cX8_at 31 = .ok (.aload_n 0, 1) := dk_42 rfl
theorem dX8_at_32 : decode cX8_at 32 = .ok (.getfield 22, 3) := dk_180 rfl rfl rfl rfl
theorem dX8_at_35 : decode cX8_at 35 = .ok (.imul, 1) := dk_104 rfl
theorem dX8_at_36 : decode cX8_at 36 = .ok (.iload_n 2, 1) := dk_28 rfl
theorem dX8_at_37 : decode cX8_at 37 = .ok (.iadd, 1) := dk_96 rfl
theorem dX8_at_38 : decode cX8_at 38 = .ok (.iaload, 1) := dk_46 rfl
theorem dX8_at_39 : decode cX8_at 39 = .ok (.ireturn, 1) := dk_172 rfl
set_option maxHeartbeats 4000000 in
set_option maxRecDepth 100000 in
theorem t_at (l : Launch) (g : Gx) (h0 : Nat) (p0 : Int32) (p1 : Int32) (R : Int32) (V : Int32) (qc : Nat) (cn : Int32) (N : Nat) (f : Nat → Int32) (hT : TbOk R V N) : cI l g yX8_at cX8_at 3 (some .int) 0 0 0 0 [.ref h0, .int p0, .int p1] [(cO8_iiri h0 R V qc cn), (cAI g qc N f)] (fun r w => (r = tbAt R V f p0 p1) ∧ w = [(cO8_iiri h0 R V qc cn), (cAI g qc N f)]) := by
  refine cI.of (by decide) (Nat.le_of_ble_eq_true rfl) ?_
  intro p e s m args below meth c A X hr hi
  refine k_lveq [(0, .ref h0), (1, .int p0), (2, .int p1)] rfl ?_
  refine k_iload_n X dX8_at_0 1 rfl ?_
  refine k_if_lt 24 X dX8_at_1 (by decide) (fun h_1 => ?_) (fun h_1 => ?_)
  · skip
    refine k_iconst (v := 0) X dX8_at_24 (by decide) ?_
    exact k_iret X hr dX8_at_25 (Nat.le_of_ble_eq_true rfl) (Nat.le_of_ble_eq_true rfl) [0, 1] (by decide) rfl rfl ⟨(by simp [tbAt, *]), rfl⟩
  · skip
    refine k_iload_n X dX8_at_4 1 rfl ?_
    refine k_aload_n X dX8_at_5 0 rfl ?_
    refine k_get (ci := 8) X inlX8 rfl 0 (by decide) dX8_at_6 mw105 0 rfl rfl ?_
    refine k_ic_ge 24 X dX8_at_9 (by decide) (fun h_2 => ?_) (fun h_2 => ?_)
    · skip
      refine k_iconst (v := 0) X dX8_at_24 (by decide) ?_
      exact k_iret X hr dX8_at_25 (Nat.le_of_ble_eq_true rfl) (Nat.le_of_ble_eq_true rfl) [0, 1] (by decide) rfl rfl ⟨(by simp [tbAt, *]), rfl⟩
    · skip
      refine k_iload_n X dX8_at_12 2 rfl ?_
      refine k_if_lt 24 X dX8_at_13 (by decide) (fun h_3 => ?_) (fun h_3 => ?_)
      · skip
        refine k_iconst (v := 0) X dX8_at_24 (by decide) ?_
        exact k_iret X hr dX8_at_25 (Nat.le_of_ble_eq_true rfl) (Nat.le_of_ble_eq_true rfl) [0, 1] (by decide) rfl rfl ⟨(by simp [tbAt, *]), rfl⟩
      · skip
        refine k_iload_n X dX8_at_16 2 rfl ?_
        refine k_aload_n X dX8_at_17 0 rfl ?_
        refine k_get (ci := 8) X inlX8 rfl 1 (by decide) dX8_at_18 mw106 0 rfl rfl ?_
        refine k_ic_lt 26 X dX8_at_21 (by decide) (fun h_4 => ?_) (fun h_4 => ?_)
        · skip
          refine k_aload_n X dX8_at_26 0 rfl ?_
          refine k_get (ci := 8) X inlX8 rfl 2 (by decide) dX8_at_27 mw108 0 rfl rfl ?_
          refine k_iload_n X dX8_at_30 1 rfl ?_
          refine k_aload_n X dX8_at_31 0 rfl ?_
          refine k_get (ci := 8) X inlX8 rfl 1 (by decide) dX8_at_32 mw106 0 rfl rfl ?_
          refine k_imul X dX8_at_35 ?_
          refine k_nm (fun z_5 ez_5 => ?_)
          refine k_iload_n X dX8_at_36 2 rfl ?_
          refine k_iadd X dX8_at_37 ?_
          refine k_nm (fun z_6 ez_6 => ?_)
          refine k_iald X dX8_at_38 1 rfl (tb_in (row := p0) (col := p1) hT (by assumption) (by assumption) (by assumption) (by assumption) (by assumption) (by assumption)) ?_
          refine k_nm (fun z_7 ez_7 => ?_)
          exact k_iret X hr dX8_at_39 (Nat.le_of_ble_eq_true rfl) (Nat.le_of_ble_eq_true rfl) [0, 1] (by decide) rfl rfl ⟨(by simp [tbAt, *]), rfl⟩
        · skip
          refine k_iconst (v := 0) X dX8_at_24 (by decide) ?_
          exact k_iret X hr dX8_at_25 (Nat.le_of_ble_eq_true rfl) (Nat.le_of_ble_eq_true rfl) [0, 1] (by decide) rfl rfl ⟨(by simp [tbAt, *]), rfl⟩

theorem dX8_put_0 : decode cX8_put 0 = .ok (.iload_n 1, 1) := dk_27 rfl
theorem dX8_put_1 : decode cX8_put 1 = .ok (.ifCond .lt 37, 3) := dk_155 rfl rfl rfl (by decide)
theorem dX8_put_4 : decode cX8_put 4 = .ok (.iload_n 1, 1) := dk_27 rfl
theorem dX8_put_5 : decode cX8_put 5 = .ok (.aload_n 0, 1) := dk_42 rfl
theorem dX8_put_6 : decode cX8_put 6 = .ok (.getfield 19, 3) := dk_180 rfl rfl rfl rfl
theorem dX8_put_9 : decode cX8_put 9 = .ok (.if_icmp .ge 29, 3) := dk_162 rfl rfl rfl (by decide)
theorem dX8_put_12 : decode cX8_put 12 = .ok (.iload_n 2, 1) := dk_28 rfl
theorem dX8_put_13 : decode cX8_put 13 = .ok (.ifCond .lt 25, 3) := dk_155 rfl rfl rfl (by decide)
theorem dX8_put_16 : decode cX8_put 16 = .ok (.iload_n 2, 1) := dk_28 rfl
theorem dX8_put_17 : decode cX8_put 17 = .ok (.aload_n 0, 1) := dk_42 rfl
theorem dX8_put_18 : decode cX8_put 18 = .ok (.getfield 22, 3) := dk_180 rfl rfl rfl rfl
theorem dX8_put_21 : decode cX8_put 21 = .ok (.if_icmp .ge 17, 3) := dk_162 rfl rfl rfl (by decide)
theorem dX8_put_24 : decode cX8_put 24 = .ok (.aload_n 0, 1) := dk_42 rfl
theorem dX8_put_25 : decode cX8_put 25 = .ok (.getfield 25, 3) := dk_180 rfl rfl rfl rfl
theorem dX8_put_28 : decode cX8_put 28 = .ok (.iload_n 1, 1) := dk_27 rfl
theorem dX8_put_29 : decode cX8_put 29 = .ok (.aload_n 0, 1) := dk_42 rfl
theorem dX8_put_30 : decode cX8_put 30 = .ok (.getfield 22, 3) := dk_180 rfl rfl rfl rfl
theorem dX8_put_33 : decode cX8_put 33 = .ok (.imul, 1) := dk_104 rfl
theorem dX8_put_34 : decode cX8_put 34 = .ok (.iload_n 2, 1) := dk_28 rfl
theorem dX8_put_35 : decode cX8_put 35 = .ok (.iadd, 1) := dk_96 rfl
theorem dX8_put_36 : decode cX8_put 36 = .ok (.iload_n 3, 1) := dk_29 rfl
theorem dX8_put_37 : decode cX8_put 37 = .ok (.iastore, 1) := dk_79 rfl
theorem dX8_put_38 : decode cX8_put 38 = .ok (.return_, 1) := dk_177 rfl
set_option maxHeartbeats 4000000 in
set_option maxRecDepth 100000 in
theorem t_put (l : Launch) (g : Gx) (h0 : Nat) (p0 : Int32) (p1 : Int32) (p2 : Int32) (R : Int32) (V : Int32) (qc : Nat) (cn : Int32) (N : Nat) (f : Nat → Int32) (hT : TbOk R V N) : cV l g yX8_put cX8_put 4 0 0 0 0 [.ref h0, .int p0, .int p1, .int p2] [(cO8_iiri h0 R V qc cn), (cAI g qc N f)] (fun w => ∃ (fa : Nat → Int32), (fa = tbPut R V f p0 p1 p2) ∧ w = [(cO8_iiri h0 R V qc cn), (cAI g qc N fa)]) := by
  refine cV.of (by decide) (Nat.le_of_ble_eq_true rfl) ?_
  intro p e s m args below meth c A X hr hi
  refine k_lveq [(0, .ref h0), (1, .int p0), (2, .int p1), (3, .int p2)] rfl ?_
  refine k_iload_n X dX8_put_0 1 rfl ?_
  refine k_if_lt 38 X dX8_put_1 (by decide) (fun h_1 => ?_) (fun h_1 => ?_)
  · skip
    exact k_vret X hr dX8_put_38 (Nat.le_of_ble_eq_true rfl) (Nat.le_of_ble_eq_true rfl) [0, 1] (by decide) rfl rfl ⟨f, (by simp [tbPut, *]), rfl⟩
  · skip
    refine k_iload_n X dX8_put_4 1 rfl ?_
    refine k_aload_n X dX8_put_5 0 rfl ?_
    refine k_get (ci := 8) X inlX8 rfl 0 (by decide) dX8_put_6 mw105 0 rfl rfl ?_
    refine k_ic_ge 38 X dX8_put_9 (by decide) (fun h_2 => ?_) (fun h_2 => ?_)
    · skip
      exact k_vret X hr dX8_put_38 (Nat.le_of_ble_eq_true rfl) (Nat.le_of_ble_eq_true rfl) [0, 1] (by decide) rfl rfl ⟨f, (by simp [tbPut, *]), rfl⟩
    · skip
      refine k_iload_n X dX8_put_12 2 rfl ?_
      refine k_if_lt 38 X dX8_put_13 (by decide) (fun h_3 => ?_) (fun h_3 => ?_)
      · skip
        exact k_vret X hr dX8_put_38 (Nat.le_of_ble_eq_true rfl) (Nat.le_of_ble_eq_true rfl) [0, 1] (by decide) rfl rfl ⟨f, (by simp [tbPut, *]), rfl⟩
      · skip
        refine k_iload_n X dX8_put_16 2 rfl ?_
        refine k_aload_n X dX8_put_17 0 rfl ?_
        refine k_get (ci := 8) X inlX8 rfl 1 (by decide) dX8_put_18 mw106 0 rfl rfl ?_
        refine k_ic_ge 38 X dX8_put_21 (by decide) (fun h_4 => ?_) (fun h_4 => ?_)
        · skip
          exact k_vret X hr dX8_put_38 (Nat.le_of_ble_eq_true rfl) (Nat.le_of_ble_eq_true rfl) [0, 1] (by decide) rfl rfl ⟨f, (by simp [tbPut, *]), rfl⟩
        · skip
          refine k_aload_n X dX8_put_24 0 rfl ?_
          refine k_get (ci := 8) X inlX8 rfl 2 (by decide) dX8_put_25 mw108 0 rfl rfl ?_
          refine k_iload_n X dX8_put_28 1 rfl ?_
          refine k_aload_n X dX8_put_29 0 rfl ?_
          refine k_get (ci := 8) X inlX8 rfl 1 (by decide) dX8_put_30 mw106 0 rfl rfl ?_
          refine k_imul X dX8_put_33 ?_
          refine k_nm (fun z_5 ez_5 => ?_)
          refine k_iload_n X dX8_put_34 2 rfl ?_
          refine k_iadd X dX8_put_35 ?_
          refine k_nm (fun z_6 ez_6 => ?_)
          refine k_iload_n X dX8_put_36 3 rfl ?_
          refine k_iast [(cO8_iiri h0 R V qc cn), (cAI g qc N (upd f (z_6 : Int32).toNatClampNeg p2))] X dX8_put_37 1 rfl (tb_in (row := p0) (col := p1) hT (by assumption) (by assumption) (by assumption) (by rw [lt_I]; rw [le_I] at *; omega) (by assumption) (by assumption)) rfl ?_
          exact k_vret X hr dX8_put_38 (Nat.le_of_ble_eq_true rfl) (Nat.le_of_ble_eq_true rfl) [0, 1] (by decide) rfl rfl ⟨(upd f (z_6 : Int32).toNatClampNeg p2), (by simp [tbPut, *]), rfl⟩

theorem dX8_howMany_0 : decode cX8_howMany 0 = .ok (.iconst 0, 1) := dk_3 rfl
theorem dX8_howMany_1 : decode cX8_howMany 1 = .ok (.istore_n 3, 1) := dk_62 rfl
theorem dX8_howMany_2 : decode cX8_howMany 2 = .ok (.iconst 0, 1) := dk_3 rfl
theorem dX8_howMany_3 : decode cX8_howMany 3 = .ok (.istore 4, 2) := dk_54 rfl rfl rfl
theorem dX8_howMany_5 : decode cX8_howMany 5 = .ok (.iload 4, 2) := dk_21 rfl rfl rfl
theorem dX8_howMany_7 : decode cX8_howMany 7 = .ok (.aload_n 0, 1) := dk_42 rfl
theorem dX8_howMany_8 : decode cX8_howMany 8 = .ok (.getfield 7, 3) := dk_180 rfl rfl rfl rfl
theorem dX8_howMany_11 : decode cX8_howMany 11 = .ok (.if_icmp .ge 23, 3) := dk_162 rfl rfl rfl (by decide)
theorem dX8_howMany_14 : decode cX8_howMany 14 = .ok (.aload_n 0, 1) := dk_42 rfl
theorem dX8_howMany_15 : decode cX8_howMany 15 = .ok (.iload 4, 2) := dk_21 rfl rfl rfl
theorem dX8_howMany_17 : decode cX8_howMany 17 = .ok (.iload_n 1, 1) := dk_27 rfl
theorem dX8_howMany_18 : decode cX8_howMany 18 = .ok (.invokevirtual 37, 3) := dk_182 rfl rfl rfl rfl
theorem dX8_howMany_21 : decode cX8_howMany 21 = .ok (.iload_n 2, 1) := dk_28 rfl
theorem dX8_howMany_22 : decode cX8_howMany 22 = .ok (.if_icmp .ne 6, 3) := dk_160 rfl rfl rfl (by decide)
theorem dX8_howMany_25 : decode cX8_howMany 25 = .ok (.iinc 3 1, 3) := dk_132 rfl rfl rfl rfl (by decide)
theorem dX8_howMany_28 : decode cX8_howMany 28 = .ok (.iinc 4 1, 3) := dk_132 rfl rfl rfl rfl (by decide)
theorem dX8_howMany_31 : decode cX8_howMany 31 = .ok (.goto (-26), 3) := dk_167 rfl rfl rfl (by decide)
theorem dX8_howMany_34 : decode cX8_howMany 34 = .ok (.iload_n 3, 1) := dk_29 rfl
theorem dX8_howMany_35 : decode cX8_howMany 35 = .ok (.ireturn, 1) := dk_172 rfl
set_option maxHeartbeats 4000000 in
set_option maxRecDepth 100000 in
theorem t_howMany (l : Launch) (g : Gx) (h0 : Nat) (p0 : Int32) (p1 : Int32) (R : Int32) (V : Int32) (qc : Nat) (cn : Int32) (N : Nat) (f : Nat → Int32) (hT : TbOk R V N) : cI l g yX8_howMany cX8_howMany 5 (some .int) 1 22 0 0 [.ref h0, .int p0, .int p1] [(cO8_iiri h0 R V qc cn), (cAI g qc N f)] (fun r w => w = [(cO8_iiri h0 R V qc cn), (cAI g qc N f)]) := by
  refine cI.of (by decide) (Nat.le_of_ble_eq_true rfl) ?_
  intro p e s m args below meth c A X hr hi
  refine k_lveq [(0, .ref h0), (1, .int p0), (2, .int p1)] rfl ?_
  refine k_iconst (v := 0) X dX8_howMany_0 (by decide) ?_
  refine k_istore_n [(3, .int 0), (0, .ref h0), (1, .int p0), (2, .int p1)] X dX8_howMany_1 (by decide) rfl ?_
  refine k_iconst (v := 0) X dX8_howMany_2 (by decide) ?_
  refine k_istore [(4, .int 0), (3, .int 0), (0, .ref h0), (1, .int p0), (2, .int p1)] X dX8_howMany_3 (by decide) rfl ?_
  refine (fun hL : ∀ (nn_3 : Nat) (u_1 : Int32) (u_2 : Int32), (cn.toInt - u_1.toInt).toNat = nn_3 → Wk p l e _ s m args below meth c _ A g _ _ _ [(cO8_iiri h0 R V qc cn), (cAI g qc N f)] [(4, .int u_1), (3, .int u_2), (0, .ref h0), (1, .int p0), (2, .int p1)] 5 [] => hL _ 0 0 rfl ) ?_
  refine fun nn_3 => Nat.strongRecOn nn_3 (fun nn_3 ih_5 => ?_)
  intro u_1 u_2 hm_4 
  refine k_iload X dX8_howMany_5 0 rfl ?_
  refine k_aload_n X dX8_howMany_7 2 rfl ?_
  refine k_get (ci := 8) X inlX8 rfl 3 (by decide) dX8_howMany_8 mw100 0 rfl rfl ?_
  refine k_ic_ge 34 X dX8_howMany_11 (by decide) (fun h_6 => ?_) (fun h_6 => ?_)
  · skip
    refine k_iload_n X dX8_howMany_34 1 rfl ?_
    exact k_iret X hr dX8_howMany_35 (Nat.le_of_ble_eq_true rfl) (Nat.le_of_ble_eq_true rfl) [0, 1] (by decide) rfl rfl rfl
  · skip
    refine k_aload_n X dX8_howMany_14 2 rfl ?_
    refine k_iload X dX8_howMany_15 0 rfl ?_
    refine k_iload_n X dX8_howMany_17 3 rfl ?_
    refine k_callVI (n := 2) (As := [.int u_1, .int p0]) (st := []) X [(cO8_iiri h0 R V qc cn), (cAI g qc N f)] [] [0, 1] [] (t_at l g h0 u_1 p0 R V qc cn N f hT) dX8_howMany_18 mw655 mw376 mw377 mw64 mw378 rfl 8 rfl rfl 0 _ rfl yk_yX8_at_2 rfl (Nat.le_of_ble_eq_true rfl) (Nat.le_of_ble_eq_true rfl) (Nat.le_of_ble_eq_true rfl) (Nat.le_of_ble_eq_true rfl) (Nat.le_of_ble_eq_true rfl) rfl rfl (by decide) rfl (by decide) (by decide) ?_
    rintro r_7 w ⟨hr_8, rfl⟩
    refine k_ws [(cO8_iiri h0 R V qc cn), (cAI g qc N f)] rfl ?_
    refine k_iload_n X dX8_howMany_21 4 rfl ?_
    refine k_ic_ne 28 X dX8_howMany_22 (by decide) (fun h_9 => ?_) (fun h_9 => ?_)
    · skip
      obtain ⟨z_10, ez_10⟩ : ∃ y : Int32, u_1 + Int32.ofInt 1 = y := ⟨_, rfl⟩
      refine k_iinc z_10 [(4, .int z_10), (3, .int u_2), (0, .ref h0), (1, .int p0), (2, .int p1)] 0 X dX8_howMany_28 rfl ez_10 (by decide) rfl ?_
      refine k_goto 5 X dX8_howMany_31 (by decide) ?_
      exact ih_5 _ (by rw [← hm_4]; exact mu_lt (by assumption) (by assumption)) z_10 u_2 rfl 
    · skip
      obtain ⟨z_11, ez_11⟩ : ∃ y : Int32, u_2 + Int32.ofInt 1 = y := ⟨_, rfl⟩
      refine k_iinc z_11 [(3, .int z_11), (4, .int u_1), (0, .ref h0), (1, .int p0), (2, .int p1)] 1 X dX8_howMany_25 rfl ez_11 (by decide) rfl ?_
      obtain ⟨z_12, ez_12⟩ : ∃ y : Int32, u_1 + Int32.ofInt 1 = y := ⟨_, rfl⟩
      refine k_iinc z_12 [(4, .int z_12), (3, .int z_11), (0, .ref h0), (1, .int p0), (2, .int p1)] 1 X dX8_howMany_28 rfl ez_12 (by decide) rfl ?_
      refine k_goto 5 X dX8_howMany_31 (by decide) ?_
      exact ih_5 _ (by rw [← hm_4]; exact mu_lt (by assumption) (by assumption)) z_12 z_11 rfl 

theorem dX8_add_0 : decode cX8_add 0 = .ok (.aload_n 0, 1) := dk_42 rfl
theorem dX8_add_1 : decode cX8_add 1 = .ok (.invokevirtual 29, 3) := dk_182 rfl rfl rfl rfl
theorem dX8_add_4 : decode cX8_add 4 = .ok (.ifCond .eq 4, 3) := dk_153 rfl rfl rfl (by decide)
theorem dX8_add_7 : decode cX8_add 7 = .ok (.return_, 1) := dk_177 rfl
theorem dX8_add_8 : decode cX8_add 8 = .ok (.aload_n 0, 1) := dk_42 rfl
theorem dX8_add_9 : decode cX8_add 9 = .ok (.aload_n 0, 1) := dk_42 rfl
theorem dX8_add_10 : decode cX8_add 10 = .ok (.getfield 7, 3) := dk_180 rfl rfl rfl rfl
theorem dX8_add_13 : decode cX8_add 13 = .ok (.iconst 0, 1) := dk_3 rfl
theorem dX8_add_14 : decode cX8_add 14 = .ok (.iload_n 1, 1) := dk_27 rfl
theorem dX8_add_15 : decode cX8_add 15 = .ok (.invokevirtual 33, 3) := dk_182 rfl rfl rfl rfl
theorem dX8_add_18 : decode cX8_add 18 = .ok (.aload_n 0, 1) := dk_42 rfl
theorem dX8_add_19 : decode cX8_add 19 = .ok (.aload_n 0, 1) := dk_42 rfl
theorem dX8_add_20 : decode cX8_add 20 = .ok (.getfield 7, 3) := dk_180 rfl rfl rfl rfl
theorem dX8_add_23 : decode cX8_add 23 = .ok (.iconst 1, 1) := dk_4 rfl
theorem dX8_add_24 : decode cX8_add 24 = .ok (.iload_n 2, 1) := dk_28 rfl
theorem dX8_add_25 : decode cX8_add 25 = .ok (.invokevirtual 33, 3) := dk_182 rfl rfl rfl rfl
theorem dX8_add_28 : decode cX8_add 28 = .ok (.aload_n 0, 1) := dk_42 rfl
theorem dX8_add_29 : decode cX8_add 29 = .ok (.aload_n 0, 1) := dk_42 rfl
theorem dX8_add_30 : decode cX8_add 30 = .ok (.getfield 7, 3) := dk_180 rfl rfl rfl rfl
theorem dX8_add_33 : decode cX8_add 33 = .ok (.iconst 2, 1) := dk_5 rfl
theorem dX8_add_34 : decode cX8_add 34 = .ok (.iload_n 3, 1) := dk_29 rfl
theorem dX8_add_35 : decode cX8_add 35 = .ok (.invokevirtual 33, 3) := dk_182 rfl rfl rfl rfl
theorem dX8_add_38 : decode cX8_add 38 = .ok (.aload_n 0, 1) := dk_42 rfl
theorem dX8_add_39 : decode cX8_add 39 = .ok (.dup, 1) := dk_89 rfl
theorem dX8_add_40 : decode cX8_add 40 = .ok (.getfield 7, 3) := dk_180 rfl rfl rfl rfl
theorem dX8_add_43 : decode cX8_add 43 = .ok (.iconst 1, 1) := dk_4 rfl
theorem dX8_add_44 : decode cX8_add 44 = .ok (.iadd, 1) := dk_96 rfl
theorem dX8_add_45 : decode cX8_add 45 = .ok (.putfield 7, 3) := dk_181 rfl rfl rfl rfl
theorem dX8_add_48 : decode cX8_add 48 = .ok (.return_, 1) := dk_177 rfl
set_option maxHeartbeats 4000000 in
set_option maxRecDepth 100000 in
theorem t_add (l : Launch) (g : Gx) (h0 : Nat) (p0 : Int32) (p1 : Int32) (p2 : Int32) (R : Int32) (V : Int32) (qc : Nat) (cn : Int32) (N : Nat) (f : Nat → Int32) (hT : TbOk R V N) : cV l g yX8_add cX8_add 4 1 23 0 0 [.ref h0, .int p0, .int p1, .int p2] [(cO8_iiri h0 R V qc cn), (cAI g qc N f)] (fun w => ∃ (fa : Nat → Int32) (cm : Int32), w = [(cO8_iiri h0 R V qc cm), (cAI g qc N fa)]) := by
  refine cV.of (by decide) (Nat.le_of_ble_eq_true rfl) ?_
  intro p e s m args below meth c A X hr hi
  refine k_lveq [(0, .ref h0), (1, .int p0), (2, .int p1), (3, .int p2)] rfl ?_
  refine k_aload_n X dX8_add_0 0 rfl ?_
  refine k_callVI (n := 0) (As := []) (st := []) X [(cO8_iiri h0 R V qc cn)] [(cAI g qc N f)] [0] [1] (t_isFull l g h0 R (.int V) (.ref qc) cn) dX8_add_1 mw359 mw344 mw345 mw64 mw346 rfl 8 rfl rfl 0 _ rfl yk_yX8_isFull_0 rfl (Nat.le_of_ble_eq_true rfl) (Nat.le_of_ble_eq_true rfl) (Nat.le_of_ble_eq_true rfl) (Nat.le_of_ble_eq_true rfl) (Nat.le_of_ble_eq_true rfl) rfl rfl (by decide) rfl (by decide) (by decide) ?_
  rintro r_1 w ⟨hr_2, rfl⟩
  refine k_ws [(cAI g qc N f), (cO8_iiri h0 R V qc cn)] rfl ?_
  refine k_if_eq 8 X dX8_add_4 (by decide) (fun h_3 => ?_) (fun h_3 => ?_)
  · skip
    refine k_aload_n X dX8_add_8 0 rfl ?_
    refine k_aload_n X dX8_add_9 0 rfl ?_
    refine k_get (ci := 8) X inlX8 rfl 3 (by decide) dX8_add_10 mw100 1 rfl rfl ?_
    refine k_iconst (v := 0) X dX8_add_13 (by decide) ?_
    refine k_iload_n X dX8_add_14 1 rfl ?_
    refine k_callVV (n := 3) (As := [.int cn, .int 0, .int p0]) (st := []) X [(cO8_iiri h0 R V qc cn), (cAI g qc N f)] [] [1, 0] [] (t_put l g h0 cn 0 p0 R V qc cn N f hT) dX8_add_15 mw360 mw326 mw327 mw64 mw328 rfl 8 rfl rfl 0 _ rfl yk_yX8_put_3 rfl (Nat.le_of_ble_eq_true rfl) (Nat.le_of_ble_eq_true rfl) (Nat.le_of_ble_eq_true rfl) (Nat.le_of_ble_eq_true rfl) (Nat.le_of_ble_eq_true rfl) rfl rfl (by decide) rfl (by decide) (by decide) ?_
    rintro w ⟨fa_4, hr_6, rfl⟩
    refine k_ws [(cO8_iiri h0 R V qc cn), (cAI g qc N fa_4)] rfl ?_
    refine k_aload_n X dX8_add_18 0 rfl ?_
    refine k_aload_n X dX8_add_19 0 rfl ?_
    refine k_get (ci := 8) X inlX8 rfl 3 (by decide) dX8_add_20 mw100 0 rfl rfl ?_
    refine k_iconst (v := 1) X dX8_add_23 (by decide) ?_
    refine k_iload_n X dX8_add_24 2 rfl ?_
    refine k_callVV (n := 3) (As := [.int cn, .int 1, .int p1]) (st := []) X [(cO8_iiri h0 R V qc cn), (cAI g qc N fa_4)] [] [0, 1] [] (t_put l g h0 cn 1 p1 R V qc cn N fa_4 hT) dX8_add_25 mw360 mw326 mw327 mw64 mw328 rfl 8 rfl rfl 0 _ rfl yk_yX8_put_3 rfl (Nat.le_of_ble_eq_true rfl) (Nat.le_of_ble_eq_true rfl) (Nat.le_of_ble_eq_true rfl) (Nat.le_of_ble_eq_true rfl) (Nat.le_of_ble_eq_true rfl) rfl rfl (by decide) rfl (by decide) (by decide) ?_
    rintro w ⟨fa_7, hr_9, rfl⟩
    refine k_ws [(cO8_iiri h0 R V qc cn), (cAI g qc N fa_7)] rfl ?_
    refine k_aload_n X dX8_add_28 0 rfl ?_
    refine k_aload_n X dX8_add_29 0 rfl ?_
    refine k_get (ci := 8) X inlX8 rfl 3 (by decide) dX8_add_30 mw100 0 rfl rfl ?_
    refine k_iconst (v := 2) X dX8_add_33 (by decide) ?_
    refine k_iload_n X dX8_add_34 3 rfl ?_
    refine k_callVV (n := 3) (As := [.int cn, .int 2, .int p2]) (st := []) X [(cO8_iiri h0 R V qc cn), (cAI g qc N fa_7)] [] [0, 1] [] (t_put l g h0 cn 2 p2 R V qc cn N fa_7 hT) dX8_add_35 mw360 mw326 mw327 mw64 mw328 rfl 8 rfl rfl 0 _ rfl yk_yX8_put_3 rfl (Nat.le_of_ble_eq_true rfl) (Nat.le_of_ble_eq_true rfl) (Nat.le_of_ble_eq_true rfl) (Nat.le_of_ble_eq_true rfl) (Nat.le_of_ble_eq_true rfl) rfl rfl (by decide) rfl (by decide) (by decide) ?_
    rintro w ⟨fa_10, hr_12, rfl⟩
    refine k_ws [(cO8_iiri h0 R V qc cn), (cAI g qc N fa_10)] rfl ?_
    refine k_aload_n X dX8_add_38 0 rfl ?_
    refine k_dup X dX8_add_39 rfl ?_
    refine k_get (ci := 8) X inlX8 rfl 3 (by decide) dX8_add_40 mw100 0 rfl rfl ?_
    refine k_iconst (v := 1) X dX8_add_43 (by decide) ?_
    refine k_iadd X dX8_add_44 ?_
    refine k_nm (fun z_13 ez_13 => ?_)
    refine k_put (ci := 8) [(cO8_iiri h0 R V qc z_13), (cAI g qc N fa_10)] X inlX8 rfl tyX8_ok nmX8 3 (by decide) rfl dX8_add_45 mw100 0 rfl rfl rfl (Nat.le_of_ble_eq_true rfl) rfl ?_
    exact k_vret X hr dX8_add_48 (Nat.le_of_ble_eq_true rfl) (Nat.le_of_ble_eq_true rfl) [0, 1] (by decide) rfl rfl ⟨fa_10, z_13, rfl⟩
  · skip
    exact k_vret X hr dX8_add_7 (Nat.le_of_ble_eq_true rfl) (Nat.le_of_ble_eq_true rfl) [1, 0] (by decide) rfl rfl ⟨f, cn, rfl⟩

theorem dX8_copyFrom_0 : decode cX8_copyFrom 0 = .ok (.aload_n 1, 1) := dk_43 rfl
theorem dX8_copyFrom_1 : decode cX8_copyFrom 1 = .ok (.ifnull 16, 3) := dk_198 rfl rfl rfl (by decide)
theorem dX8_copyFrom_4 : decode cX8_copyFrom 4 = .ok (.aload_n 1, 1) := dk_43 rfl
theorem dX8_copyFrom_5 : decode cX8_copyFrom 5 = .ok (.getfield 25, 3) := dk_180 rfl rfl rfl rfl
theorem dX8_copyFrom_8 : decode cX8_copyFrom 8 = .ok (.arraylength, 1) := dk_190 rfl
theorem dX8_copyFrom_9 : decode cX8_copyFrom 9 = .ok (.aload_n 0, 1) := dk_42 rfl
theorem dX8_copyFrom_10 : decode cX8_copyFrom 10 = .ok (.getfield 25, 3) := dk_180 rfl rfl rfl rfl
theorem dX8_copyFrom_13 : decode cX8_copyFrom 13 = .ok (.arraylength, 1) := dk_190 rfl
theorem dX8_copyFrom_14 : decode cX8_copyFrom 14 = .ok (.if_icmp .eq 4, 3) := dk_159 rfl rfl rfl (by decide)
theorem dX8_copyFrom_18 : decode cX8_copyFrom 18 = .ok (.aload_n 1, 1) := dk_43 rfl
theorem dX8_copyFrom_19 : decode cX8_copyFrom 19 = .ok (.getfield 25, 3) := dk_180 rfl rfl rfl rfl
theorem dX8_copyFrom_22 : decode cX8_copyFrom 22 = .ok (.iconst 0, 1) := dk_3 rfl
theorem dX8_copyFrom_23 : decode cX8_copyFrom 23 = .ok (.aload_n 0, 1) := dk_42 rfl
theorem dX8_copyFrom_24 : decode cX8_copyFrom 24 = .ok (.getfield 25, 3) := dk_180 rfl rfl rfl rfl
theorem dX8_copyFrom_27 : decode cX8_copyFrom 27 = .ok (.iconst 0, 1) := dk_3 rfl
theorem dX8_copyFrom_28 : decode cX8_copyFrom 28 = .ok (.aload_n 0, 1) := dk_42 rfl
theorem dX8_copyFrom_29 : decode cX8_copyFrom 29 = .ok (.getfield 25, 3) := dk_180 rfl rfl rfl rfl
theorem dX8_copyFrom_32 : decode cX8_copyFrom 32 = .ok (.arraylength, 1) := dk_190 rfl
theorem dX8_copyFrom_33 : decode cX8_copyFrom 33 = .ok (.invokestatic 40, 3) := dk_184 rfl rfl rfl rfl
theorem dX8_copyFrom_36 : decode cX8_copyFrom 36 = .ok (.aload_n 0, 1) := dk_42 rfl
theorem dX8_copyFrom_37 : decode cX8_copyFrom 37 = .ok (.aload_n 1, 1) := dk_43 rfl
theorem dX8_copyFrom_38 : decode cX8_copyFrom 38 = .ok (.getfield 7, 3) := dk_180 rfl rfl rfl rfl
theorem dX8_copyFrom_41 : decode cX8_copyFrom 41 = .ok (.putfield 7, 3) := dk_181 rfl rfl rfl rfl
theorem dX8_copyFrom_44 : decode cX8_copyFrom 44 = .ok (.return_, 1) := dk_177 rfl
