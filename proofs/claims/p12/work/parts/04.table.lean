set_option maxRecDepth 100000
set_option maxHeartbeats 4000000
theorem dX8_has_k0 : (((dD cX8_has 0 (.iload_n 1) 1 ∧ dD cX8_has 1 (.ifCond .lt 15) 3) ∧ (dD cX8_has 4 (.iload_n 1) 1 ∧ (dD cX8_has 5 (.aload_n 0) 1 ∧ dD cX8_has 6 (.getfield 7) 3))) ∧ ((dD cX8_has 9 (.if_icmp .ge 7) 3 ∧ dD cX8_has 12 (.iconst 1) 1) ∧ (dD cX8_has 13 (.goto 4) 3 ∧ (dD cX8_has 16 (.iconst 0) 1 ∧ dD cX8_has 17 .ireturn 1)))) := dkA10 (by decide +kernel)
set_option maxHeartbeats 4000000 in
set_option maxRecDepth 100000 in
theorem t_has (l : Launch) (g : Gx) (h0 : Nat) (p0 : Int32) (v0h0 : Value) (v1h0 : Value) (v2h0 : Value) (cn : Int32) : cI l g yX8_has cX8_has 2 (some .boolean) 0 0 0 0 [.ref h0, .int p0] [(cO8_vvvi h0 v0h0 v1h0 v2h0 cn)] (fun r w => (r = if p0 < 0 ∨ cn ≤ p0 then 0 else 1) ∧ w = [(cO8_vvvi h0 v0h0 v1h0 v2h0 cn)]) := by
  refine cI.of (by decide) (Nat.le_of_ble_eq_true rfl) ?_
  intro p e s m args below meth c A X hr hi
  refine k_lveq [(0, .ref h0), (1, .int p0)] rfl ?_
  refine k_iload_n X dX8_has_k0.1.1.1 1 rfl ?_
  refine k_if_lt 16 X dX8_has_k0.1.1.2 (jp_e rfl) (fun h_1 => ?_) (fun h_1 => ?_)
  · skip
    refine k_iconst (v := 0) X dX8_has_k0.2.2.2.1 ic_0 ?_
    exact k_zret X hr (by first | rfl | decide) dX8_has_k0.2.2.2.2 (Nat.le_of_ble_eq_true rfl) (Nat.le_of_ble_eq_true rfl) [0] (vnd_e rfl) rfl rfl ⟨(by simp [*]), rfl⟩
  · skip
    refine k_iload_n X dX8_has_k0.1.2.1 1 rfl ?_
    refine k_aload_n X dX8_has_k0.1.2.2.1 0 rfl ?_
    refine k_get (ci := 8) X inlX8 rfl 3 (nlt_e rfl) dX8_has_k0.1.2.2.2 mw100 0 rfl rfl ?_
    refine k_ic_ge 16 X dX8_has_k0.2.1.1 (jp_e rfl) (fun h_2 => ?_) (fun h_2 => ?_)
    · skip
      refine k_iconst (v := 0) X dX8_has_k0.2.2.2.1 ic_0 ?_
      exact k_zret X hr (by first | rfl | decide) dX8_has_k0.2.2.2.2 (Nat.le_of_ble_eq_true rfl) (Nat.le_of_ble_eq_true rfl) [0] (vnd_e rfl) rfl rfl ⟨(by simp [*]), rfl⟩
    · skip
      refine k_iconst (v := 1) X dX8_has_k0.2.1.2 ic_1 ?_
      refine k_goto 17 X dX8_has_k0.2.2.1 (jp_e rfl) ?_
      exact k_zret X hr (by first | rfl | decide) dX8_has_k0.2.2.2.2 (Nat.le_of_ble_eq_true rfl) (Nat.le_of_ble_eq_true rfl) [0] (vnd_e rfl) rfl rfl ⟨(by simp [*]), rfl⟩

theorem dX8_isFull_k0 : (((dD cX8_isFull 0 (.aload_n 0) 1 ∧ dD cX8_isFull 1 (.getfield 7) 3) ∧ (dD cX8_isFull 4 (.aload_n 0) 1 ∧ dD cX8_isFull 5 (.getfield 19) 3)) ∧ ((dD cX8_isFull 8 (.if_icmp .lt 7) 3 ∧ dD cX8_isFull 11 (.iconst 1) 1) ∧ (dD cX8_isFull 12 (.goto 4) 3 ∧ (dD cX8_isFull 15 (.iconst 0) 1 ∧ dD cX8_isFull 16 .ireturn 1)))) := dkA9 (by decide +kernel)
set_option maxHeartbeats 4000000 in
set_option maxRecDepth 100000 in
theorem t_isFull (l : Launch) (g : Gx) (h0 : Nat) (R : Int32) (v1h0 : Value) (v2h0 : Value) (cn : Int32) : cI l g yX8_isFull cX8_isFull 1 (some .boolean) 0 0 0 0 [.ref h0] [(cO8_ivvi h0 R v1h0 v2h0 cn)] (fun r w => (r = if cn < R then 0 else 1) ∧ w = [(cO8_ivvi h0 R v1h0 v2h0 cn)]) := by
  refine cI.of (by decide) (Nat.le_of_ble_eq_true rfl) ?_
  intro p e s m args below meth c A X hr hi
  refine k_lveq [(0, .ref h0)] rfl ?_
  refine k_aload_n X dX8_isFull_k0.1.1.1 0 rfl ?_
  refine k_get (ci := 8) X inlX8 rfl 3 (nlt_e rfl) dX8_isFull_k0.1.1.2 mw100 0 rfl rfl ?_
  refine k_aload_n X dX8_isFull_k0.1.2.1 0 rfl ?_
  refine k_get (ci := 8) X inlX8 rfl 0 (nlt_e rfl) dX8_isFull_k0.1.2.2 mw105 0 rfl rfl ?_
  refine k_ic_lt 15 X dX8_isFull_k0.2.1.1 (jp_e rfl) (fun h_1 => ?_) (fun h_1 => ?_)
  · skip
    refine k_iconst (v := 0) X dX8_isFull_k0.2.2.2.1 ic_0 ?_
    exact k_zret X hr (by first | rfl | decide) dX8_isFull_k0.2.2.2.2 (Nat.le_of_ble_eq_true rfl) (Nat.le_of_ble_eq_true rfl) [0] (vnd_e rfl) rfl rfl ⟨(by simp [*]), rfl⟩
  · skip
    refine k_iconst (v := 1) X dX8_isFull_k0.2.1.2 ic_1 ?_
    refine k_goto 16 X dX8_isFull_k0.2.2.1 (jp_e rfl) ?_
    exact k_zret X hr (by first | rfl | decide) dX8_isFull_k0.2.2.2.2 (Nat.le_of_ble_eq_true rfl) (Nat.le_of_ble_eq_true rfl) [0] (vnd_e rfl) rfl rfl ⟨(by simp [*]), rfl⟩

theorem dX8_clear_k0 : ((dD cX8_clear 0 (.aload_n 0) 1 ∧ dD cX8_clear 1 (.iconst 0) 1) ∧ (dD cX8_clear 2 (.putfield 7) 3 ∧ dD cX8_clear 5 .return_ 1)) := dkA4 (by decide +kernel)
set_option maxHeartbeats 4000000 in
set_option maxRecDepth 100000 in
theorem t_clear (l : Launch) (g : Gx) (h0 : Nat) (v0h0 : Value) (v1h0 : Value) (v2h0 : Value) (cn : Int32) : cV l g yX8_clear cX8_clear 1 0 0 0 0 [.ref h0] [(cO8_vvvi h0 v0h0 v1h0 v2h0 cn)] (fun w => w = [(cO8_vvvi h0 v0h0 v1h0 v2h0 0)]) := by
  refine cV.of (by decide) (Nat.le_of_ble_eq_true rfl) ?_
  intro p e s m args below meth c A X hr hi
  refine k_lveq [(0, .ref h0)] rfl ?_
  refine k_aload_n X dX8_clear_k0.1.1 0 rfl ?_
  refine k_iconst (v := 0) X dX8_clear_k0.1.2 ic_0 ?_
  refine k_put (ci := 8) [(cO8_vvvi h0 v0h0 v1h0 v2h0 0)] X inlX8 rfl tyX8_ok nmX8 3 (nlt_e rfl) rfl dX8_clear_k0.2.1 mw100 0 rfl rfl rfl (Nat.le_of_ble_eq_true rfl) rfl ?_
  exact k_vret X hr dX8_clear_k0.2.2 (Nat.le_of_ble_eq_true rfl) (Nat.le_of_ble_eq_true rfl) [0] (vnd_e rfl) rfl rfl rfl

theorem dX8_at_k0 : ((((dD cX8_at 0 (.iload_n 1) 1 ∧ dD cX8_at 1 (.ifCond .lt 23) 3) ∧ (dD cX8_at 4 (.iload_n 1) 1 ∧ dD cX8_at 5 (.aload_n 0) 1)) ∧ ((dD cX8_at 6 (.getfield 19) 3 ∧ dD cX8_at 9 (.if_icmp .ge 15) 3) ∧ (dD cX8_at 12 (.iload_n 2) 1 ∧ dD cX8_at 13 (.ifCond .lt 11) 3))) ∧ (((dD cX8_at 16 (.iload_n 2) 1 ∧ dD cX8_at 17 (.aload_n 0) 1) ∧ (dD cX8_at 18 (.getfield 22) 3 ∧ dD cX8_at 21 (.if_icmp .lt 5) 3)) ∧ ((dD cX8_at 24 (.iconst 0) 1 ∧ dD cX8_at 25 .ireturn 1) ∧ (dD cX8_at 26 (.aload_n 0) 1 ∧ dD cX8_at 27 (.getfield 25) 3)))) := dkA16 (by decide +kernel)
theorem dX8_at_k1 : (((dD cX8_at 30 (.iload_n 1) 1 ∧ dD cX8_at 31 (.aload_n 0) 1) ∧ (dD cX8_at 32 (.getfield 22) 3 ∧ dD cX8_at 35 .imul 1)) ∧ ((dD cX8_at 36 (.iload_n 2) 1 ∧ dD cX8_at 37 .iadd 1) ∧ (dD cX8_at 38 .iaload 1 ∧ dD cX8_at 39 .ireturn 1))) := dkA8 (by decide +kernel)
set_option maxHeartbeats 4000000 in
set_option maxRecDepth 100000 in
theorem t_at (l : Launch) (g : Gx) (h0 : Nat) (p0 : Int32) (p1 : Int32) (R : Int32) (V : Int32) (qc : Nat) (cn : Int32) (N : Nat) (f : Nat → Int32) (hT : TbOk R V N) : cI l g yX8_at cX8_at 3 (some .int) 0 0 0 0 [.ref h0, .int p0, .int p1] [(cO8_iiri h0 R V qc cn), (cAI g qc N f)] (fun r w => (r = tbAt R V f p0 p1) ∧ w = [(cO8_iiri h0 R V qc cn), (cAI g qc N f)]) := by
  refine cI.of (by decide) (Nat.le_of_ble_eq_true rfl) ?_
  intro p e s m args below meth c A X hr hi
  refine k_lveq [(0, .ref h0), (1, .int p0), (2, .int p1)] rfl ?_
  refine k_iload_n X dX8_at_k0.1.1.1.1 1 rfl ?_
  refine k_if_lt 24 X dX8_at_k0.1.1.1.2 (jp_e rfl) (fun h_1 => ?_) (fun h_1 => ?_)
  · skip
    refine k_iconst (v := 0) X dX8_at_k0.2.2.1.1 ic_0 ?_
    exact k_iret X hr dX8_at_k0.2.2.1.2 (Nat.le_of_ble_eq_true rfl) (Nat.le_of_ble_eq_true rfl) [0, 1] (vnd_e rfl) rfl rfl ⟨(by simp [tbAt, *]), rfl⟩
  · skip
    refine k_iload_n X dX8_at_k0.1.1.2.1 1 rfl ?_
    refine k_aload_n X dX8_at_k0.1.1.2.2 0 rfl ?_
    refine k_get (ci := 8) X inlX8 rfl 0 (nlt_e rfl) dX8_at_k0.1.2.1.1 mw105 0 rfl rfl ?_
    refine k_ic_ge 24 X dX8_at_k0.1.2.1.2 (jp_e rfl) (fun h_2 => ?_) (fun h_2 => ?_)
    · skip
      refine k_iconst (v := 0) X dX8_at_k0.2.2.1.1 ic_0 ?_
      exact k_iret X hr dX8_at_k0.2.2.1.2 (Nat.le_of_ble_eq_true rfl) (Nat.le_of_ble_eq_true rfl) [0, 1] (vnd_e rfl) rfl rfl ⟨(by simp [tbAt, *]), rfl⟩
    · skip
      refine k_iload_n X dX8_at_k0.1.2.2.1 2 rfl ?_
      refine k_if_lt 24 X dX8_at_k0.1.2.2.2 (jp_e rfl) (fun h_3 => ?_) (fun h_3 => ?_)
      · skip
        refine k_iconst (v := 0) X dX8_at_k0.2.2.1.1 ic_0 ?_
        exact k_iret X hr dX8_at_k0.2.2.1.2 (Nat.le_of_ble_eq_true rfl) (Nat.le_of_ble_eq_true rfl) [0, 1] (vnd_e rfl) rfl rfl ⟨(by simp [tbAt, *]), rfl⟩
      · skip
        refine k_iload_n X dX8_at_k0.2.1.1.1 2 rfl ?_
        refine k_aload_n X dX8_at_k0.2.1.1.2 0 rfl ?_
        refine k_get (ci := 8) X inlX8 rfl 1 (nlt_e rfl) dX8_at_k0.2.1.2.1 mw106 0 rfl rfl ?_
        refine k_ic_lt 26 X dX8_at_k0.2.1.2.2 (jp_e rfl) (fun h_4 => ?_) (fun h_4 => ?_)
        · skip
          refine k_aload_n X dX8_at_k0.2.2.2.1 0 rfl ?_
          refine k_get (ci := 8) X inlX8 rfl 2 (nlt_e rfl) dX8_at_k0.2.2.2.2 mw108 0 rfl rfl ?_
          refine k_iload_n X dX8_at_k1.1.1.1 1 rfl ?_
          refine k_aload_n X dX8_at_k1.1.1.2 0 rfl ?_
          refine k_get (ci := 8) X inlX8 rfl 1 (nlt_e rfl) dX8_at_k1.1.2.1 mw106 0 rfl rfl ?_
          refine k_imul X dX8_at_k1.1.2.2 ?_
          refine k_nm (fun z_5 ez_5 => ?_)
          refine k_iload_n X dX8_at_k1.2.1.1 2 rfl ?_
          refine k_iadd X dX8_at_k1.2.1.2 ?_
          refine k_nm (fun z_6 ez_6 => ?_)
          refine k_iald X dX8_at_k1.2.2.1 1 rfl (tb_in (row := p0) (col := p1) hT (by assumption) (by assumption) (by assumption) (by assumption) (by assumption) (by assumption)) ?_
          refine k_nm (fun z_7 ez_7 => ?_)
          exact k_iret X hr dX8_at_k1.2.2.2 (Nat.le_of_ble_eq_true rfl) (Nat.le_of_ble_eq_true rfl) [0, 1] (vnd_e rfl) rfl rfl ⟨(by simp [tbAt, *]), rfl⟩
        · skip
          refine k_iconst (v := 0) X dX8_at_k0.2.2.1.1 ic_0 ?_
          exact k_iret X hr dX8_at_k0.2.2.1.2 (Nat.le_of_ble_eq_true rfl) (Nat.le_of_ble_eq_true rfl) [0, 1] (vnd_e rfl) rfl rfl ⟨(by simp [tbAt, *]), rfl⟩

theorem dX8_put_k0 : ((((dD cX8_put 0 (.iload_n 1) 1 ∧ dD cX8_put 1 (.ifCond .lt 37) 3) ∧ (dD cX8_put 4 (.iload_n 1) 1 ∧ dD cX8_put 5 (.aload_n 0) 1)) ∧ ((dD cX8_put 6 (.getfield 19) 3 ∧ dD cX8_put 9 (.if_icmp .ge 29) 3) ∧ (dD cX8_put 12 (.iload_n 2) 1 ∧ dD cX8_put 13 (.ifCond .lt 25) 3))) ∧ (((dD cX8_put 16 (.iload_n 2) 1 ∧ dD cX8_put 17 (.aload_n 0) 1) ∧ (dD cX8_put 18 (.getfield 22) 3 ∧ dD cX8_put 21 (.if_icmp .ge 17) 3)) ∧ ((dD cX8_put 24 (.aload_n 0) 1 ∧ dD cX8_put 25 (.getfield 25) 3) ∧ (dD cX8_put 28 (.iload_n 1) 1 ∧ dD cX8_put 29 (.aload_n 0) 1)))) := dkA16 (by decide +kernel)
theorem dX8_put_k1 : ((dD cX8_put 30 (.getfield 22) 3 ∧ (dD cX8_put 33 .imul 1 ∧ dD cX8_put 34 (.iload_n 2) 1)) ∧ ((dD cX8_put 35 .iadd 1 ∧ dD cX8_put 36 (.iload_n 3) 1) ∧ (dD cX8_put 37 .iastore 1 ∧ dD cX8_put 38 .return_ 1))) := dkA7 (by decide +kernel)
set_option maxHeartbeats 4000000 in
set_option maxRecDepth 100000 in
theorem t_put (l : Launch) (g : Gx) (h0 : Nat) (p0 : Int32) (p1 : Int32) (p2 : Int32) (R : Int32) (V : Int32) (qc : Nat) (cn : Int32) (N : Nat) (f : Nat → Int32) (hT : TbOk R V N) : cV l g yX8_put cX8_put 4 0 0 0 0 [.ref h0, .int p0, .int p1, .int p2] [(cO8_iiri h0 R V qc cn), (cAI g qc N f)] (fun w => ∃ (fa : Nat → Int32), (fa = tbPut R V f p0 p1 p2) ∧ w = [(cO8_iiri h0 R V qc cn), (cAI g qc N fa)]) := by
  refine cV.of (by decide) (Nat.le_of_ble_eq_true rfl) ?_
  intro p e s m args below meth c A X hr hi
  refine k_lveq [(0, .ref h0), (1, .int p0), (2, .int p1), (3, .int p2)] rfl ?_
  refine k_iload_n X dX8_put_k0.1.1.1.1 1 rfl ?_
  refine k_if_lt 38 X dX8_put_k0.1.1.1.2 (jp_e rfl) (fun h_1 => ?_) (fun h_1 => ?_)
  · skip
    exact k_vret X hr dX8_put_k1.2.2.2 (Nat.le_of_ble_eq_true rfl) (Nat.le_of_ble_eq_true rfl) [0, 1] (vnd_e rfl) rfl rfl ⟨f, (by simp [tbPut, *]), rfl⟩
  · skip
    refine k_iload_n X dX8_put_k0.1.1.2.1 1 rfl ?_
    refine k_aload_n X dX8_put_k0.1.1.2.2 0 rfl ?_
    refine k_get (ci := 8) X inlX8 rfl 0 (nlt_e rfl) dX8_put_k0.1.2.1.1 mw105 0 rfl rfl ?_
    refine k_ic_ge 38 X dX8_put_k0.1.2.1.2 (jp_e rfl) (fun h_2 => ?_) (fun h_2 => ?_)
    · skip
      exact k_vret X hr dX8_put_k1.2.2.2 (Nat.le_of_ble_eq_true rfl) (Nat.le_of_ble_eq_true rfl) [0, 1] (vnd_e rfl) rfl rfl ⟨f, (by simp [tbPut, *]), rfl⟩
    · skip
      refine k_iload_n X dX8_put_k0.1.2.2.1 2 rfl ?_
      refine k_if_lt 38 X dX8_put_k0.1.2.2.2 (jp_e rfl) (fun h_3 => ?_) (fun h_3 => ?_)
      · skip
        exact k_vret X hr dX8_put_k1.2.2.2 (Nat.le_of_ble_eq_true rfl) (Nat.le_of_ble_eq_true rfl) [0, 1] (vnd_e rfl) rfl rfl ⟨f, (by simp [tbPut, *]), rfl⟩
      · skip
        refine k_iload_n X dX8_put_k0.2.1.1.1 2 rfl ?_
        refine k_aload_n X dX8_put_k0.2.1.1.2 0 rfl ?_
        refine k_get (ci := 8) X inlX8 rfl 1 (nlt_e rfl) dX8_put_k0.2.1.2.1 mw106 0 rfl rfl ?_
        refine k_ic_ge 38 X dX8_put_k0.2.1.2.2 (jp_e rfl) (fun h_4 => ?_) (fun h_4 => ?_)
        · skip
          exact k_vret X hr dX8_put_k1.2.2.2 (Nat.le_of_ble_eq_true rfl) (Nat.le_of_ble_eq_true rfl) [0, 1] (vnd_e rfl) rfl rfl ⟨f, (by simp [tbPut, *]), rfl⟩
        · skip
          refine k_aload_n X dX8_put_k0.2.2.1.1 0 rfl ?_
          refine k_get (ci := 8) X inlX8 rfl 2 (nlt_e rfl) dX8_put_k0.2.2.1.2 mw108 0 rfl rfl ?_
          refine k_iload_n X dX8_put_k0.2.2.2.1 1 rfl ?_
          refine k_aload_n X dX8_put_k0.2.2.2.2 0 rfl ?_
          refine k_get (ci := 8) X inlX8 rfl 1 (nlt_e rfl) dX8_put_k1.1.1 mw106 0 rfl rfl ?_
          refine k_imul X dX8_put_k1.1.2.1 ?_
          refine k_nm (fun z_5 ez_5 => ?_)
          refine k_iload_n X dX8_put_k1.1.2.2 2 rfl ?_
          refine k_iadd X dX8_put_k1.2.1.1 ?_
          refine k_nm (fun z_6 ez_6 => ?_)
          refine k_iload_n X dX8_put_k1.2.1.2 3 rfl ?_
          refine k_iast [(cO8_iiri h0 R V qc cn), (cAI g qc N (upd f (z_6 : Int32).toNatClampNeg p2))] X dX8_put_k1.2.2.1 1 rfl (tb_in (row := p0) (col := p1) hT (by assumption) (by assumption) (by assumption) (by rw [lt_I]; rw [le_I] at *; omega) (by assumption) (by assumption)) rfl ?_
          exact k_vret X hr dX8_put_k1.2.2.2 (Nat.le_of_ble_eq_true rfl) (Nat.le_of_ble_eq_true rfl) [0, 1] (vnd_e rfl) rfl rfl ⟨(upd f (z_6 : Int32).toNatClampNeg p2), (by simp [tbPut, *]), rfl⟩

theorem dX8_howMany_k0 : ((((dD cX8_howMany 0 (.iconst 0) 1 ∧ dD cX8_howMany 1 (.istore_n 3) 1) ∧ (dD cX8_howMany 2 (.iconst 0) 1 ∧ dD cX8_howMany 3 (.istore 4) 2)) ∧ ((dD cX8_howMany 5 (.iload 4) 2 ∧ dD cX8_howMany 7 (.aload_n 0) 1) ∧ (dD cX8_howMany 8 (.getfield 7) 3 ∧ dD cX8_howMany 11 (.if_icmp .ge 23) 3))) ∧ (((dD cX8_howMany 14 (.aload_n 0) 1 ∧ dD cX8_howMany 15 (.iload 4) 2) ∧ (dD cX8_howMany 17 (.iload_n 1) 1 ∧ dD cX8_howMany 18 (.invokevirtual 37) 3)) ∧ ((dD cX8_howMany 21 (.iload_n 2) 1 ∧ dD cX8_howMany 22 (.if_icmp .ne 6) 3) ∧ (dD cX8_howMany 25 (.iinc 3 1) 3 ∧ dD cX8_howMany 28 (.iinc 4 1) 3)))) := dkA16 (by decide +kernel)
theorem dX8_howMany_k1 : (dD cX8_howMany 31 (.goto (-26)) 3 ∧ (dD cX8_howMany 34 (.iload_n 3) 1 ∧ dD cX8_howMany 35 .ireturn 1)) := dkA3 (by decide +kernel)
set_option maxHeartbeats 4000000 in
set_option maxRecDepth 100000 in
theorem t_howMany (l : Launch) (g : Gx) (h0 : Nat) (p0 : Int32) (p1 : Int32) (R : Int32) (V : Int32) (qc : Nat) (cn : Int32) (N : Nat) (f : Nat → Int32) (hT : TbOk R V N) : cI l g yX8_howMany cX8_howMany 5 (some .int) 1 22 0 0 [.ref h0, .int p0, .int p1] [(cO8_iiri h0 R V qc cn), (cAI g qc N f)] (fun r w => w = [(cO8_iiri h0 R V qc cn), (cAI g qc N f)]) := by
  refine cI.of (by decide) (Nat.le_of_ble_eq_true rfl) ?_
  intro p e s m args below meth c A X hr hi
  refine k_lveq [(0, .ref h0), (1, .int p0), (2, .int p1)] rfl ?_
  refine k_iconst (v := 0) X dX8_howMany_k0.1.1.1.1 ic_0 ?_
  refine k_istore_n [(3, .int 0), (0, .ref h0), (1, .int p0), (2, .int p1)] X dX8_howMany_k0.1.1.1.2 (nlt_e rfl) rfl ?_
  refine k_iconst (v := 0) X dX8_howMany_k0.1.1.2.1 ic_0 ?_
  refine k_istore [(4, .int 0), (3, .int 0), (0, .ref h0), (1, .int p0), (2, .int p1)] X dX8_howMany_k0.1.1.2.2 (nlt_e rfl) rfl ?_
  refine (fun hL : ∀ (nn_3 : Nat) (u_1 : Int32) (u_2 : Int32), (cn.toInt - u_1.toInt).toNat = nn_3 → Wk p l e _ s m args below meth c _ A g _ _ _ [(cO8_iiri h0 R V qc cn), (cAI g qc N f)] [(4, .int u_1), (3, .int u_2), (0, .ref h0), (1, .int p0), (2, .int p1)] 5 [] => hL _ 0 0 rfl ) ?_
  refine fun nn_3 => Nat.strongRecOn nn_3 (fun nn_3 ih_5 => ?_)
  intro u_1 u_2 hm_4 
  refine k_iload X dX8_howMany_k0.1.2.1.1 0 rfl ?_
  refine k_aload_n X dX8_howMany_k0.1.2.1.2 2 rfl ?_
  refine k_get (ci := 8) X inlX8 rfl 3 (nlt_e rfl) dX8_howMany_k0.1.2.2.1 mw100 0 rfl rfl ?_
  refine k_ic_ge 34 X dX8_howMany_k0.1.2.2.2 (jp_e rfl) (fun h_6 => ?_) (fun h_6 => ?_)
  · skip
    refine k_iload_n X dX8_howMany_k1.2.1 1 rfl ?_
    exact k_iret X hr dX8_howMany_k1.2.2 (Nat.le_of_ble_eq_true rfl) (Nat.le_of_ble_eq_true rfl) [0, 1] (vnd_e rfl) rfl rfl rfl
  · skip
    refine k_aload_n X dX8_howMany_k0.2.1.1.1 2 rfl ?_
    refine k_iload X dX8_howMany_k0.2.1.1.2 0 rfl ?_
    refine k_iload_n X dX8_howMany_k0.2.1.2.1 3 rfl ?_
    refine k_callVI (n := 2) (As := [.int u_1, .int p0]) (st := []) X [(cO8_iiri h0 R V qc cn), (cAI g qc N f)] [] [0, 1] [] (t_at l g h0 u_1 p0 R V qc cn N f hT) dX8_howMany_k0.2.1.2.2 mw655 mw376 mw377 mw64 mw378 rfl 8 rfl rfl 0 _ rfl yk_yX8_at_2 rfl (Nat.le_of_ble_eq_true rfl) (Nat.le_of_ble_eq_true rfl) (Nat.le_of_ble_eq_true rfl) (Nat.le_of_ble_eq_true rfl) (Nat.le_of_ble_eq_true rfl) rfl rfl (vnd_e rfl) rfl (vnd_e rfl) (dsj_e rfl) ?_
    rintro r_7 w ⟨hr_8, rfl⟩
    refine k_ws [(cO8_iiri h0 R V qc cn), (cAI g qc N f)] rfl ?_
    refine k_iload_n X dX8_howMany_k0.2.2.1.1 4 rfl ?_
    refine k_ic_ne 28 X dX8_howMany_k0.2.2.1.2 (jp_e rfl) (fun h_9 => ?_) (fun h_9 => ?_)
    · skip
      obtain ⟨z_10, ez_10⟩ : ∃ y : Int32, u_1 + Int32.ofInt 1 = y := ⟨_, rfl⟩
      refine k_iinc z_10 [(4, .int z_10), (3, .int u_2), (0, .ref h0), (1, .int p0), (2, .int p1)] 0 X dX8_howMany_k0.2.2.2.2 rfl ez_10 (nlt_e rfl) rfl ?_
      refine k_goto 5 X dX8_howMany_k1.1 (jp_e rfl) ?_
      exact ih_5 _ (by rw [← hm_4]; exact mu_lt (by assumption) (by assumption)) z_10 u_2 rfl 
    · skip
      obtain ⟨z_11, ez_11⟩ : ∃ y : Int32, u_2 + Int32.ofInt 1 = y := ⟨_, rfl⟩
      refine k_iinc z_11 [(3, .int z_11), (4, .int u_1), (0, .ref h0), (1, .int p0), (2, .int p1)] 1 X dX8_howMany_k0.2.2.2.1 rfl ez_11 (nlt_e rfl) rfl ?_
      obtain ⟨z_12, ez_12⟩ : ∃ y : Int32, u_1 + Int32.ofInt 1 = y := ⟨_, rfl⟩
      refine k_iinc z_12 [(4, .int z_12), (3, .int z_11), (0, .ref h0), (1, .int p0), (2, .int p1)] 1 X dX8_howMany_k0.2.2.2.2 rfl ez_12 (nlt_e rfl) rfl ?_
      refine k_goto 5 X dX8_howMany_k1.1 (jp_e rfl) ?_
      exact ih_5 _ (by rw [← hm_4]; exact mu_lt (by assumption) (by assumption)) z_12 z_11 rfl 

theorem dX8_add_k0 : ((((dD cX8_add 0 (.aload_n 0) 1 ∧ dD cX8_add 1 (.invokevirtual 29) 3) ∧ (dD cX8_add 4 (.ifCond .eq 4) 3 ∧ dD cX8_add 7 .return_ 1)) ∧ ((dD cX8_add 8 (.aload_n 0) 1 ∧ dD cX8_add 9 (.aload_n 0) 1) ∧ (dD cX8_add 10 (.getfield 7) 3 ∧ dD cX8_add 13 (.iconst 0) 1))) ∧ (((dD cX8_add 14 (.iload_n 1) 1 ∧ dD cX8_add 15 (.invokevirtual 33) 3) ∧ (dD cX8_add 18 (.aload_n 0) 1 ∧ dD cX8_add 19 (.aload_n 0) 1)) ∧ ((dD cX8_add 20 (.getfield 7) 3 ∧ dD cX8_add 23 (.iconst 1) 1) ∧ (dD cX8_add 24 (.iload_n 2) 1 ∧ dD cX8_add 25 (.invokevirtual 33) 3)))) := dkA16 (by decide +kernel)
theorem dX8_add_k1 : (((dD cX8_add 28 (.aload_n 0) 1 ∧ (dD cX8_add 29 (.aload_n 0) 1 ∧ dD cX8_add 30 (.getfield 7) 3)) ∧ (dD cX8_add 33 (.iconst 2) 1 ∧ (dD cX8_add 34 (.iload_n 3) 1 ∧ dD cX8_add 35 (.invokevirtual 33) 3))) ∧ ((dD cX8_add 38 (.aload_n 0) 1 ∧ (dD cX8_add 39 .dup 1 ∧ dD cX8_add 40 (.getfield 7) 3)) ∧ ((dD cX8_add 43 (.iconst 1) 1 ∧ dD cX8_add 44 .iadd 1) ∧ (dD cX8_add 45 (.putfield 7) 3 ∧ dD cX8_add 48 .return_ 1)))) := dkA13 (by decide +kernel)
set_option maxHeartbeats 4000000 in
set_option maxRecDepth 100000 in
theorem t_add (l : Launch) (g : Gx) (h0 : Nat) (p0 : Int32) (p1 : Int32) (p2 : Int32) (R : Int32) (V : Int32) (qc : Nat) (cn : Int32) (N : Nat) (f : Nat → Int32) (hT : TbOk R V N) : cV l g yX8_add cX8_add 4 1 23 0 0 [.ref h0, .int p0, .int p1, .int p2] [(cO8_iiri h0 R V qc cn), (cAI g qc N f)] (fun w => ∃ (fa : Nat → Int32) (cm : Int32), w = [(cO8_iiri h0 R V qc cm), (cAI g qc N fa)]) := by
  refine cV.of (by decide) (Nat.le_of_ble_eq_true rfl) ?_
  intro p e s m args below meth c A X hr hi
  refine k_lveq [(0, .ref h0), (1, .int p0), (2, .int p1), (3, .int p2)] rfl ?_
  refine k_aload_n X dX8_add_k0.1.1.1.1 0 rfl ?_
  refine k_callVI (n := 0) (As := []) (st := []) X [(cO8_iiri h0 R V qc cn)] [(cAI g qc N f)] [0] [1] (t_isFull l g h0 R (.int V) (.ref qc) cn) dX8_add_k0.1.1.1.2 mw359 mw344 mw345 mw64 mw346 rfl 8 rfl rfl 0 _ rfl yk_yX8_isFull_0 rfl (Nat.le_of_ble_eq_true rfl) (Nat.le_of_ble_eq_true rfl) (Nat.le_of_ble_eq_true rfl) (Nat.le_of_ble_eq_true rfl) (Nat.le_of_ble_eq_true rfl) rfl rfl (vnd_e rfl) rfl (vnd_e rfl) (dsj_e rfl) ?_
  rintro r_1 w ⟨hr_2, rfl⟩
  refine k_ws [(cAI g qc N f), (cO8_iiri h0 R V qc cn)] rfl ?_
  refine k_if_eq 8 X dX8_add_k0.1.1.2.1 (jp_e rfl) (fun h_3 => ?_) (fun h_3 => ?_)
  · skip
    refine k_aload_n X dX8_add_k0.1.2.1.1 0 rfl ?_
    refine k_aload_n X dX8_add_k0.1.2.1.2 0 rfl ?_
    refine k_get (ci := 8) X inlX8 rfl 3 (nlt_e rfl) dX8_add_k0.1.2.2.1 mw100 1 rfl rfl ?_
    refine k_iconst (v := 0) X dX8_add_k0.1.2.2.2 ic_0 ?_
    refine k_iload_n X dX8_add_k0.2.1.1.1 1 rfl ?_
    refine k_callVV (n := 3) (As := [.int cn, .int 0, .int p0]) (st := []) X [(cO8_iiri h0 R V qc cn), (cAI g qc N f)] [] [1, 0] [] (t_put l g h0 cn 0 p0 R V qc cn N f hT) dX8_add_k0.2.1.1.2 mw360 mw326 mw327 mw64 mw328 rfl 8 rfl rfl 0 _ rfl yk_yX8_put_3 rfl (Nat.le_of_ble_eq_true rfl) (Nat.le_of_ble_eq_true rfl) (Nat.le_of_ble_eq_true rfl) (Nat.le_of_ble_eq_true rfl) (Nat.le_of_ble_eq_true rfl) rfl rfl (vnd_e rfl) rfl (vnd_e rfl) (dsj_e rfl) ?_
    rintro w ⟨fa_4, hr_6, rfl⟩
    refine k_ws [(cO8_iiri h0 R V qc cn), (cAI g qc N fa_4)] rfl ?_
    refine k_aload_n X dX8_add_k0.2.1.2.1 0 rfl ?_
    refine k_aload_n X dX8_add_k0.2.1.2.2 0 rfl ?_
    refine k_get (ci := 8) X inlX8 rfl 3 (nlt_e rfl) dX8_add_k0.2.2.1.1 mw100 0 rfl rfl ?_
    refine k_iconst (v := 1) X dX8_add_k0.2.2.1.2 ic_1 ?_
    refine k_iload_n X dX8_add_k0.2.2.2.1 2 rfl ?_
    refine k_callVV (n := 3) (As := [.int cn, .int 1, .int p1]) (st := []) X [(cO8_iiri h0 R V qc cn), (cAI g qc N fa_4)] [] [0, 1] [] (t_put l g h0 cn 1 p1 R V qc cn N fa_4 hT) dX8_add_k0.2.2.2.2 mw360 mw326 mw327 mw64 mw328 rfl 8 rfl rfl 0 _ rfl yk_yX8_put_3 rfl (Nat.le_of_ble_eq_true rfl) (Nat.le_of_ble_eq_true rfl) (Nat.le_of_ble_eq_true rfl) (Nat.le_of_ble_eq_true rfl) (Nat.le_of_ble_eq_true rfl) rfl rfl (vnd_e rfl) rfl (vnd_e rfl) (dsj_e rfl) ?_
    rintro w ⟨fa_7, hr_9, rfl⟩
    refine k_ws [(cO8_iiri h0 R V qc cn), (cAI g qc N fa_7)] rfl ?_
    refine k_aload_n X dX8_add_k1.1.1.1 0 rfl ?_
    refine k_aload_n X dX8_add_k1.1.1.2.1 0 rfl ?_
    refine k_get (ci := 8) X inlX8 rfl 3 (nlt_e rfl) dX8_add_k1.1.1.2.2 mw100 0 rfl rfl ?_
    refine k_iconst (v := 2) X dX8_add_k1.1.2.1 ic_2 ?_
    refine k_iload_n X dX8_add_k1.1.2.2.1 3 rfl ?_
    refine k_callVV (n := 3) (As := [.int cn, .int 2, .int p2]) (st := []) X [(cO8_iiri h0 R V qc cn), (cAI g qc N fa_7)] [] [0, 1] [] (t_put l g h0 cn 2 p2 R V qc cn N fa_7 hT) dX8_add_k1.1.2.2.2 mw360 mw326 mw327 mw64 mw328 rfl 8 rfl rfl 0 _ rfl yk_yX8_put_3 rfl (Nat.le_of_ble_eq_true rfl) (Nat.le_of_ble_eq_true rfl) (Nat.le_of_ble_eq_true rfl) (Nat.le_of_ble_eq_true rfl) (Nat.le_of_ble_eq_true rfl) rfl rfl (vnd_e rfl) rfl (vnd_e rfl) (dsj_e rfl) ?_
    rintro w ⟨fa_10, hr_12, rfl⟩
    refine k_ws [(cO8_iiri h0 R V qc cn), (cAI g qc N fa_10)] rfl ?_
    refine k_aload_n X dX8_add_k1.2.1.1 0 rfl ?_
    refine k_dup X dX8_add_k1.2.1.2.1 rfl ?_
    refine k_get (ci := 8) X inlX8 rfl 3 (nlt_e rfl) dX8_add_k1.2.1.2.2 mw100 0 rfl rfl ?_
    refine k_iconst (v := 1) X dX8_add_k1.2.2.1.1 ic_1 ?_
    refine k_iadd X dX8_add_k1.2.2.1.2 ?_
    refine k_nm (fun z_13 ez_13 => ?_)
    refine k_put (ci := 8) [(cO8_iiri h0 R V qc z_13), (cAI g qc N fa_10)] X inlX8 rfl tyX8_ok nmX8 3 (nlt_e rfl) rfl dX8_add_k1.2.2.2.1 mw100 0 rfl rfl rfl (Nat.le_of_ble_eq_true rfl) rfl ?_
    exact k_vret X hr dX8_add_k1.2.2.2.2 (Nat.le_of_ble_eq_true rfl) (Nat.le_of_ble_eq_true rfl) [0, 1] (vnd_e rfl) rfl rfl ⟨fa_10, z_13, rfl⟩
  · skip
    exact k_vret X hr dX8_add_k0.1.1.2.2 (Nat.le_of_ble_eq_true rfl) (Nat.le_of_ble_eq_true rfl) [1, 0] (vnd_e rfl) rfl rfl ⟨f, cn, rfl⟩


theorem dX8_copyFrom_k0 : ((((dD cX8_copyFrom 0 (.aload_n 1) 1 ∧ dD cX8_copyFrom 1 (.ifnull 16) 3) ∧ (dD cX8_copyFrom 4 (.aload_n 1) 1 ∧ dD cX8_copyFrom 5 (.getfield 25) 3)) ∧ ((dD cX8_copyFrom 8 .arraylength 1 ∧ dD cX8_copyFrom 9 (.aload_n 0) 1) ∧ (dD cX8_copyFrom 10 (.getfield 25) 3 ∧ dD cX8_copyFrom 13 .arraylength 1))) ∧ (((dD cX8_copyFrom 14 (.if_icmp .eq 4) 3 ∧ dD cX8_copyFrom 18 (.aload_n 1) 1) ∧ (dD cX8_copyFrom 19 (.getfield 25) 3 ∧ dD cX8_copyFrom 22 (.iconst 0) 1)) ∧ ((dD cX8_copyFrom 23 (.aload_n 0) 1 ∧ dD cX8_copyFrom 24 (.getfield 25) 3) ∧ (dD cX8_copyFrom 27 (.iconst 0) 1 ∧ dD cX8_copyFrom 28 (.aload_n 0) 1)))) := dkA16 (by decide +kernel)
theorem dX8_copyFrom_k1 : (((dD cX8_copyFrom 29 (.getfield 25) 3 ∧ dD cX8_copyFrom 32 .arraylength 1) ∧ (dD cX8_copyFrom 33 (.invokestatic 40) 3 ∧ dD cX8_copyFrom 36 (.aload_n 0) 1)) ∧ ((dD cX8_copyFrom 37 (.aload_n 1) 1 ∧ dD cX8_copyFrom 38 (.getfield 7) 3) ∧ (dD cX8_copyFrom 41 (.putfield 7) 3 ∧ dD cX8_copyFrom 44 .return_ 1))) := dkA8 (by decide +kernel)

theorem dX7_reelAt_k0 : ((dD cX7_reelAt 0 (.aload_n 0) 1 ∧ (dD cX7_reelAt 1 (.getfield 26) 3 ∧ dD cX7_reelAt 4 (.iload_n 1) 1)) ∧ (dD cX7_reelAt 5 (.iconst 0) 1 ∧ (dD cX7_reelAt 6 (.invokevirtual 43) 3 ∧ dD cX7_reelAt 9 .ireturn 1))) := dkA6 (by decide +kernel)
set_option maxHeartbeats 4000000 in
set_option maxRecDepth 100000 in
theorem s_reelAt (l : Launch) (g : Gx) (h0 : Nat) (p0 : Int32) (v0h0 : Value) (v1h0 : Value) (v2h0 : Value) (xp : Nat) (xmd : Int32) (xtr : Int32) (xpc : Nat) (xpn : Int32) (xpf : Nat → Int32) : cI l g yX7_reelAt cX7_reelAt 2 (some .int) 1 22 0 0 [.ref h0, .int p0] [(cO7_vvvrii h0 v0h0 v1h0 v2h0 xp xmd xtr), (cO8_iiri xp 8 2 xpc xpn), (cAI g xpc 16 xpf)] (fun r w => w = [(cO7_vvvrii h0 v0h0 v1h0 v2h0 xp xmd xtr), (cO8_iiri xp 8 2 xpc xpn), (cAI g xpc 16 xpf)]) := by
  refine cI.of (by decide) (Nat.le_of_ble_eq_true rfl) ?_
  intro p e s m args below meth c A X hr hi
  refine k_lveq [(0, .ref h0), (1, .int p0)] rfl ?_
  refine k_aload_n X dX7_reelAt_k0.1.1 0 rfl ?_
  refine k_get (ci := 7) X inlX7 rfl 3 (nlt_e rfl) dX7_reelAt_k0.1.2.1 mw93 0 rfl rfl ?_
  refine k_iload_n X dX7_reelAt_k0.1.2.2 1 rfl ?_
  refine k_iconst (v := 0) X dX7_reelAt_k0.2.1 ic_0 ?_
  refine k_callVI (n := 2) (As := [.int p0, .int 0]) (st := []) X [(cO8_iiri xp 8 2 xpc xpn), (cAI g xpc 16 xpf)] [(cO7_vvvrii h0 v0h0 v1h0 v2h0 xp xmd xtr)] [1, 2] [0] (t_at l g xp p0 0 8 2 xpc xpn 16 xpf (tbk_8_2)) dX7_reelAt_k0.2.2.1 mw388 mw376 mw377 mw64 mw378 rfl 8 rfl rfl 0 _ rfl yk_yX8_at_2 rfl (Nat.le_of_ble_eq_true rfl) (Nat.le_of_ble_eq_true rfl) (Nat.le_of_ble_eq_true rfl) (Nat.le_of_ble_eq_true rfl) (Nat.le_of_ble_eq_true rfl) rfl rfl (vnd_e rfl) rfl (vnd_e rfl) (dsj_e rfl) ?_
  rintro r_1 w ⟨hr_2, rfl⟩
  refine k_ws [(cO7_vvvrii h0 v0h0 v1h0 v2h0 xp xmd xtr), (cO8_iiri xp 8 2 xpc xpn), (cAI g xpc 16 xpf)] rfl ?_
  exact k_iret X hr dX7_reelAt_k0.2.2.2 (Nat.le_of_ble_eq_true rfl) (Nat.le_of_ble_eq_true rfl) [0, 1, 2] (vnd_e rfl) rfl rfl rfl

theorem dX7_isWeak_k0 : ((((dD cX7_isWeak 0 (.aload_n 0) 1 ∧ dD cX7_isWeak 1 (.getfield 23) 3) ∧ (dD cX7_isWeak 4 (.iload_n 1) 1 ∧ dD cX7_isWeak 5 (.invokevirtual 47) 3)) ∧ ((dD cX7_isWeak 8 (.ifCond .eq 18) 3 ∧ dD cX7_isWeak 11 (.aload_n 0) 1) ∧ (dD cX7_isWeak 12 (.getfield 29) 3 ∧ dD cX7_isWeak 15 (.iload_n 1) 1))) ∧ (((dD cX7_isWeak 16 .ishr 1 ∧ dD cX7_isWeak 17 (.iconst 1) 1) ∧ (dD cX7_isWeak 18 .iand 1 ∧ dD cX7_isWeak 19 (.ifCond .ne 7) 3)) ∧ ((dD cX7_isWeak 22 (.iconst 1) 1 ∧ dD cX7_isWeak 23 (.goto 4) 3) ∧ (dD cX7_isWeak 26 (.iconst 0) 1 ∧ dD cX7_isWeak 27 .ireturn 1)))) := dkA16 (by decide +kernel)
set_option maxHeartbeats 4000000 in
set_option maxRecDepth 100000 in
theorem s_isWeak (l : Launch) (g : Gx) (h0 : Nat) (p0 : Int32) (v0h0 : Value) (v1h0 : Value) (xw : Nat) (v3h0 : Value) (xmd : Int32) (xtr : Int32) (xwc : Nat) (xwn : Int32) (xwf : Nat → Int32) : cI l g yX7_isWeak cX7_isWeak 2 (some .boolean) 1 21 0 0 [.ref h0, .int p0] [(cO7_vvrvii h0 v0h0 v1h0 xw v3h0 xmd xtr), (cO8_iiri xw 6 3 xwc xwn), (cAI g xwc 18 xwf)] (fun r w => w = [(cO7_vvrvii h0 v0h0 v1h0 xw v3h0 xmd xtr), (cO8_iiri xw 6 3 xwc xwn), (cAI g xwc 18 xwf)]) := by
  refine cI.of (by decide) (Nat.le_of_ble_eq_true rfl) ?_
  intro p e s m args below meth c A X hr hi
  refine k_lveq [(0, .ref h0), (1, .int p0)] rfl ?_
  refine k_aload_n X dX7_isWeak_k0.1.1.1.1 0 rfl ?_
  refine k_get (ci := 7) X inlX7 rfl 2 (nlt_e rfl) dX7_isWeak_k0.1.1.1.2 mw92 0 rfl rfl ?_
  refine k_iload_n X dX7_isWeak_k0.1.1.2.1 1 rfl ?_
  refine k_callVI (n := 1) (As := [.int p0]) (st := []) X [(cO8_iiri xw 6 3 xwc xwn)] [(cO7_vvrvii h0 v0h0 v1h0 xw v3h0 xmd xtr), (cAI g xwc 18 xwf)] [1] [0, 2] (t_has l g xw p0 (.int 6) (.int 3) (.ref xwc) xwn) dX7_isWeak_k0.1.1.2.2 mw664 mw648 mw649 mw64 mw650 rfl 8 rfl rfl 0 _ rfl yk_yX8_has_1 rfl (Nat.le_of_ble_eq_true rfl) (Nat.le_of_ble_eq_true rfl) (Nat.le_of_ble_eq_true rfl) (Nat.le_of_ble_eq_true rfl) (Nat.le_of_ble_eq_true rfl) rfl rfl (vnd_e rfl) rfl (vnd_e rfl) (dsj_e rfl) ?_
  rintro r_1 w ⟨hr_2, rfl⟩
  refine k_ws [(cO7_vvrvii h0 v0h0 v1h0 xw v3h0 xmd xtr), (cAI g xwc 18 xwf), (cO8_iiri xw 6 3 xwc xwn)] rfl ?_
  refine k_if_eq 26 X dX7_isWeak_k0.1.2.1.1 (jp_e rfl) (fun h_3 => ?_) (fun h_3 => ?_)
  · skip
    refine k_iconst (v := 0) X dX7_isWeak_k0.2.2.2.1 ic_0 ?_
    exact k_zret X hr (by first | rfl | decide) dX7_isWeak_k0.2.2.2.2 (Nat.le_of_ble_eq_true rfl) (Nat.le_of_ble_eq_true rfl) [0, 2, 1] (vnd_e rfl) rfl rfl rfl
  · skip
    refine k_aload_n X dX7_isWeak_k0.1.2.1.2 0 rfl ?_
    refine k_get (ci := 7) X inlX7 rfl 4 (nlt_e rfl) dX7_isWeak_k0.1.2.2.1 mw94 0 rfl rfl ?_
    refine k_iload_n X dX7_isWeak_k0.1.2.2.2 1 rfl ?_
    refine k_ishr X dX7_isWeak_k0.2.1.1.1 ?_
    refine k_nm (fun z_4 ez_4 => ?_)
    refine k_iconst (v := 1) X dX7_isWeak_k0.2.1.1.2 ic_1 ?_
    refine k_iand X dX7_isWeak_k0.2.1.2.1 ?_
    refine k_nm (fun z_5 ez_5 => ?_)
    refine k_if_ne 26 X dX7_isWeak_k0.2.1.2.2 (jp_e rfl) (fun h_6 => ?_) (fun h_6 => ?_)
    · skip
      refine k_iconst (v := 0) X dX7_isWeak_k0.2.2.2.1 ic_0 ?_
      exact k_zret X hr (by first | rfl | decide) dX7_isWeak_k0.2.2.2.2 (Nat.le_of_ble_eq_true rfl) (Nat.le_of_ble_eq_true rfl) [0, 2, 1] (vnd_e rfl) rfl rfl rfl
    · skip
      refine k_iconst (v := 1) X dX7_isWeak_k0.2.2.1.1 ic_1 ?_
      refine k_goto 27 X dX7_isWeak_k0.2.2.1.2 (jp_e rfl) ?_
      exact k_zret X hr (by first | rfl | decide) dX7_isWeak_k0.2.2.2.2 (Nat.le_of_ble_eq_true rfl) (Nat.le_of_ble_eq_true rfl) [0, 2, 1] (vnd_e rfl) rfl rfl rfl

theorem dX7_mendedOn_k0 : ((((dD cX7_mendedOn 0 (.iconst 0) 1 ∧ dD cX7_mendedOn 1 (.istore_n 2) 1) ∧ (dD cX7_mendedOn 2 (.iconst 0) 1 ∧ dD cX7_mendedOn 3 (.istore_n 3) 1)) ∧ ((dD cX7_mendedOn 4 (.iload_n 3) 1 ∧ dD cX7_mendedOn 5 (.aload_n 0) 1) ∧ (dD cX7_mendedOn 6 (.getfield 23) 3 ∧ dD cX7_mendedOn 9 (.getfield 51) 3))) ∧ (((dD cX7_mendedOn 12 (.if_icmp .ge 33) 3 ∧ dD cX7_mendedOn 15 (.aload_n 0) 1) ∧ (dD cX7_mendedOn 16 (.iload_n 3) 1 ∧ dD cX7_mendedOn 17 (.invokevirtual 54) 3)) ∧ ((dD cX7_mendedOn 20 (.ifCond .ne 19) 3 ∧ dD cX7_mendedOn 23 (.aload_n 0) 1) ∧ (dD cX7_mendedOn 24 (.getfield 23) 3 ∧ dD cX7_mendedOn 27 (.iload_n 3) 1)))) := dkA16 (by decide +kernel)
theorem dX7_mendedOn_k1 : (((dD cX7_mendedOn 28 (.iconst 0) 1 ∧ dD cX7_mendedOn 29 (.invokevirtual 43) 3) ∧ (dD cX7_mendedOn 32 (.iload_n 1) 1 ∧ dD cX7_mendedOn 33 (.if_icmp .ne 6) 3)) ∧ ((dD cX7_mendedOn 36 (.iinc 2 1) 3 ∧ dD cX7_mendedOn 39 (.iinc 3 1) 3) ∧ (dD cX7_mendedOn 42 (.goto (-38)) 3 ∧ (dD cX7_mendedOn 45 (.iload_n 2) 1 ∧ dD cX7_mendedOn 46 .ireturn 1)))) := dkA9 (by decide +kernel)
set_option maxHeartbeats 4000000 in
set_option maxRecDepth 100000 in
theorem s_mendedOn (l : Launch) (g : Gx) (h0 : Nat) (p0 : Int32) (v0h0 : Value) (v1h0 : Value) (xw : Nat) (v3h0 : Value) (xmd : Int32) (xtr : Int32) (xwc : Nat) (xwn : Int32) (xwf : Nat → Int32) : cI l g yX7_mendedOn cX7_mendedOn 4 (some .int) 2 42 0 0 [.ref h0, .int p0] [(cO7_vvrvii h0 v0h0 v1h0 xw v3h0 xmd xtr), (cO8_iiri xw 6 3 xwc xwn), (cAI g xwc 18 xwf)] (fun r w => w = [(cO7_vvrvii h0 v0h0 v1h0 xw v3h0 xmd xtr), (cO8_iiri xw 6 3 xwc xwn), (cAI g xwc 18 xwf)]) := by
  refine cI.of (by decide) (Nat.le_of_ble_eq_true rfl) ?_
  intro p e s m args below meth c A X hr hi
  refine k_lveq [(0, .ref h0), (1, .int p0)] rfl ?_
  refine k_iconst (v := 0) X dX7_mendedOn_k0.1.1.1.1 ic_0 ?_
  refine k_istore_n [(2, .int 0), (0, .ref h0), (1, .int p0)] X dX7_mendedOn_k0.1.1.1.2 (nlt_e rfl) rfl ?_
  refine k_iconst (v := 0) X dX7_mendedOn_k0.1.1.2.1 ic_0 ?_
  refine k_istore_n [(3, .int 0), (2, .int 0), (0, .ref h0), (1, .int p0)] X dX7_mendedOn_k0.1.1.2.2 (nlt_e rfl) rfl ?_
  refine (fun hL : ∀ (nn_3 : Nat) (u_1 : Int32) (u_2 : Int32), (xwn.toInt - u_1.toInt).toNat = nn_3 → Wk p l e _ s m args below meth c _ A g _ _ _ [(cO7_vvrvii h0 v0h0 v1h0 xw v3h0 xmd xtr), (cO8_iiri xw 6 3 xwc xwn), (cAI g xwc 18 xwf)] [(3, .int u_1), (2, .int u_2), (0, .ref h0), (1, .int p0)] 4 [] => hL _ 0 0 rfl ) ?_
  refine fun nn_3 => Nat.strongRecOn nn_3 (fun nn_3 ih_5 => ?_)
  intro u_1 u_2 hm_4 
  refine k_iload_n X dX7_mendedOn_k0.1.2.1.1 0 rfl ?_
  refine k_aload_n X dX7_mendedOn_k0.1.2.1.2 2 rfl ?_
  refine k_get (ci := 7) X inlX7 rfl 2 (nlt_e rfl) dX7_mendedOn_k0.1.2.2.1 mw92 0 rfl rfl ?_
  refine k_get (ci := 8) X inlX8 rfl 3 (nlt_e rfl) dX7_mendedOn_k0.1.2.2.2 mw387 1 rfl rfl ?_
  refine k_ic_ge 45 X dX7_mendedOn_k0.2.1.1.1 (jp_e rfl) (fun h_6 => ?_) (fun h_6 => ?_)
  · skip
    refine k_iload_n X dX7_mendedOn_k1.2.2.2.1 1 rfl ?_
    exact k_iret X hr dX7_mendedOn_k1.2.2.2.2 (Nat.le_of_ble_eq_true rfl) (Nat.le_of_ble_eq_true rfl) [0, 1, 2] (vnd_e rfl) rfl rfl rfl
  · skip
    refine k_aload_n X dX7_mendedOn_k0.2.1.1.2 2 rfl ?_
    refine k_iload_n X dX7_mendedOn_k0.2.1.2.1 0 rfl ?_
    refine k_callVI (n := 1) (As := [.int u_1]) (st := []) X [(cO7_vvrvii h0 v0h0 v1h0 xw v3h0 xmd xtr), (cO8_iiri xw 6 3 xwc xwn), (cAI g xwc 18 xwf)] [] [0, 1, 2] [] (s_isWeak l g h0 u_1 v0h0 v1h0 xw v3h0 xmd xtr xwc xwn xwf) dX7_mendedOn_k0.2.1.2.2 mw660 mw661 mw662 mw23 mw663 rfl 7 rfl rfl 0 _ rfl yk_yX7_isWeak_1 rfl (Nat.le_of_ble_eq_true rfl) (Nat.le_of_ble_eq_true rfl) (Nat.le_of_ble_eq_true rfl) (Nat.le_of_ble_eq_true rfl) (Nat.le_of_ble_eq_true rfl) rfl rfl (vnd_e rfl) rfl (vnd_e rfl) (dsj_e rfl) ?_
    rintro r_7 w rfl
    refine k_ws [(cO7_vvrvii h0 v0h0 v1h0 xw v3h0 xmd xtr), (cO8_iiri xw 6 3 xwc xwn), (cAI g xwc 18 xwf)] rfl ?_
    refine k_if_ne 39 X dX7_mendedOn_k0.2.2.1.1 (jp_e rfl) (fun h_9 => ?_) (fun h_9 => ?_)
    · skip
      obtain ⟨z_10, ez_10⟩ : ∃ y : Int32, u_1 + Int32.ofInt 1 = y := ⟨_, rfl⟩
      refine k_iinc z_10 [(3, .int z_10), (2, .int u_2), (0, .ref h0), (1, .int p0)] 0 X dX7_mendedOn_k1.2.1.2 rfl ez_10 (nlt_e rfl) rfl ?_
      refine k_goto 4 X dX7_mendedOn_k1.2.2.1 (jp_e rfl) ?_
      exact ih_5 _ (by rw [← hm_4]; exact mu_lt (by assumption) (by assumption)) z_10 u_2 rfl 
    · skip
      refine k_aload_n X dX7_mendedOn_k0.2.2.1.2 2 rfl ?_
      refine k_get (ci := 7) X inlX7 rfl 2 (nlt_e rfl) dX7_mendedOn_k0.2.2.2.1 mw92 0 rfl rfl ?_
      refine k_iload_n X dX7_mendedOn_k0.2.2.2.2 0 rfl ?_
      refine k_iconst (v := 0) X dX7_mendedOn_k1.1.1.1 ic_0 ?_
      refine k_callVI (n := 2) (As := [.int u_1, .int 0]) (st := []) X [(cO8_iiri xw 6 3 xwc xwn), (cAI g xwc 18 xwf)] [(cO7_vvrvii h0 v0h0 v1h0 xw v3h0 xmd xtr)] [1, 2] [0] (t_at l g xw u_1 0 6 3 xwc xwn 18 xwf (tbk_6_3)) dX7_mendedOn_k1.1.1.2 mw388 mw376 mw377 mw64 mw378 rfl 8 rfl rfl 0 _ rfl yk_yX8_at_2 rfl (Nat.le_of_ble_eq_true rfl) (Nat.le_of_ble_eq_true rfl) (Nat.le_of_ble_eq_true rfl) (Nat.le_of_ble_eq_true rfl) (Nat.le_of_ble_eq_true rfl) rfl rfl (vnd_e rfl) rfl (vnd_e rfl) (dsj_e rfl) ?_
      rintro r_11 w ⟨hr_12, rfl⟩
      refine k_ws [(cO7_vvrvii h0 v0h0 v1h0 xw v3h0 xmd xtr), (cO8_iiri xw 6 3 xwc xwn), (cAI g xwc 18 xwf)] rfl ?_
      refine k_iload_n X dX7_mendedOn_k1.1.2.1 3 rfl ?_
      refine k_ic_ne 39 X dX7_mendedOn_k1.1.2.2 (jp_e rfl) (fun h_13 => ?_) (fun h_13 => ?_)
      · skip
        obtain ⟨z_14, ez_14⟩ : ∃ y : Int32, u_1 + Int32.ofInt 1 = y := ⟨_, rfl⟩
        refine k_iinc z_14 [(3, .int z_14), (2, .int u_2), (0, .ref h0), (1, .int p0)] 0 X dX7_mendedOn_k1.2.1.2 rfl ez_14 (nlt_e rfl) rfl ?_
        refine k_goto 4 X dX7_mendedOn_k1.2.2.1 (jp_e rfl) ?_
        exact ih_5 _ (by rw [← hm_4]; exact mu_lt (by assumption) (by assumption)) z_14 u_2 rfl 
      · skip
        obtain ⟨z_15, ez_15⟩ : ∃ y : Int32, u_2 + Int32.ofInt 1 = y := ⟨_, rfl⟩
        refine k_iinc z_15 [(2, .int z_15), (3, .int u_1), (0, .ref h0), (1, .int p0)] 1 X dX7_mendedOn_k1.2.1.1 rfl ez_15 (nlt_e rfl) rfl ?_
        obtain ⟨z_16, ez_16⟩ : ∃ y : Int32, u_1 + Int32.ofInt 1 = y := ⟨_, rfl⟩
        refine k_iinc z_16 [(3, .int z_16), (2, .int z_15), (0, .ref h0), (1, .int p0)] 1 X dX7_mendedOn_k1.2.1.2 rfl ez_16 (nlt_e rfl) rfl ?_
        refine k_goto 4 X dX7_mendedOn_k1.2.2.1 (jp_e rfl) ?_
        exact ih_5 _ (by rw [← hm_4]; exact mu_lt (by assumption) (by assumption)) z_16 z_15 rfl 

theorem dX7_markBy_k0 : ((((dD cX7_markBy 0 (.iconst 0) 1 ∧ dD cX7_markBy 1 (.istore_n 3) 1) ∧ (dD cX7_markBy 2 (.iload_n 3) 1 ∧ dD cX7_markBy 3 (.aload_n 0) 1)) ∧ ((dD cX7_markBy 4 (.getfield 20) 3 ∧ dD cX7_markBy 7 (.getfield 51) 3) ∧ (dD cX7_markBy 10 (.if_icmp .ge 45) 3 ∧ dD cX7_markBy 13 (.aload_n 0) 1))) ∧ (((dD cX7_markBy 14 (.getfield 20) 3 ∧ dD cX7_markBy 17 (.iload_n 3) 1) ∧ (dD cX7_markBy 18 (.iconst 0) 1 ∧ dD cX7_markBy 19 (.invokevirtual 43) 3)) ∧ ((dD cX7_markBy 22 (.iload_n 1) 1 ∧ dD cX7_markBy 23 (.if_icmp .ne 26) 3) ∧ (dD cX7_markBy 26 (.aload_n 0) 1 ∧ dD cX7_markBy 27 (.getfield 20) 3)))) := dkA16 (by decide +kernel)
theorem dX7_markBy_k1 : (((dD cX7_markBy 30 (.iload_n 3) 1 ∧ (dD cX7_markBy 31 (.iconst 2) 1 ∧ dD cX7_markBy 32 (.invokevirtual 43) 3)) ∧ ((dD cX7_markBy 35 (.iload_n 2) 1 ∧ dD cX7_markBy 36 (.if_icmp .ne 13) 3) ∧ (dD cX7_markBy 39 (.aload_n 0) 1 ∧ dD cX7_markBy 40 (.getfield 20) 3))) ∧ (((dD cX7_markBy 43 (.iload_n 3) 1 ∧ dD cX7_markBy 44 (.iconst 1) 1) ∧ (dD cX7_markBy 45 (.invokevirtual 43) 3 ∧ dD cX7_markBy 48 .ireturn 1)) ∧ ((dD cX7_markBy 49 (.iinc 3 1) 3 ∧ dD cX7_markBy 52 (.goto (-50)) 3) ∧ (dD cX7_markBy 55 (.bipush (-2)) 2 ∧ dD cX7_markBy 57 .ireturn 1)))) := dkA15 (by decide +kernel)
set_option maxHeartbeats 4000000 in
set_option maxRecDepth 100000 in
theorem s_markBy (l : Launch) (g : Gx) (h0 : Nat) (p0 : Int32) (p1 : Int32) (v0h0 : Value) (xm : Nat) (v2h0 : Value) (v3h0 : Value) (xmd : Int32) (xtr : Int32) (xmc : Nat) (xmn : Int32) (xmf : Nat → Int32) : cI l g yX7_markBy cX7_markBy 4 (some .int) 1 22 0 0 [.ref h0, .int p0, .int p1] [(cO7_vrvvii h0 v0h0 xm v2h0 v3h0 xmd xtr), (cO8_iiri xm 12 3 xmc xmn), (cAI g xmc 36 xmf)] (fun r w => w = [(cO7_vrvvii h0 v0h0 xm v2h0 v3h0 xmd xtr), (cO8_iiri xm 12 3 xmc xmn), (cAI g xmc 36 xmf)]) := by
  refine cI.of (by decide) (Nat.le_of_ble_eq_true rfl) ?_
  intro p e s m args below meth c A X hr hi
  refine k_lveq [(0, .ref h0), (1, .int p0), (2, .int p1)] rfl ?_
  refine k_iconst (v := 0) X dX7_markBy_k0.1.1.1.1 ic_0 ?_
  refine k_istore_n [(3, .int 0), (0, .ref h0), (1, .int p0), (2, .int p1)] X dX7_markBy_k0.1.1.1.2 (nlt_e rfl) rfl ?_
  refine (fun hL : ∀ (nn_2 : Nat) (u_1 : Int32), (xmn.toInt - u_1.toInt).toNat = nn_2 → Wk p l e _ s m args below meth c _ A g _ _ _ [(cO7_vrvvii h0 v0h0 xm v2h0 v3h0 xmd xtr), (cO8_iiri xm 12 3 xmc xmn), (cAI g xmc 36 xmf)] [(3, .int u_1), (0, .ref h0), (1, .int p0), (2, .int p1)] 2 [] => hL _ 0 rfl ) ?_
  refine fun nn_2 => Nat.strongRecOn nn_2 (fun nn_2 ih_4 => ?_)
  intro u_1 hm_3 
  refine k_iload_n X dX7_markBy_k0.1.1.2.1 0 rfl ?_
  refine k_aload_n X dX7_markBy_k0.1.1.2.2 1 rfl ?_
  refine k_get (ci := 7) X inlX7 rfl 1 (nlt_e rfl) dX7_markBy_k0.1.2.1.1 mw91 0 rfl rfl ?_
  refine k_get (ci := 8) X inlX8 rfl 3 (nlt_e rfl) dX7_markBy_k0.1.2.1.2 mw387 1 rfl rfl ?_
  refine k_ic_ge 55 X dX7_markBy_k0.1.2.2.1 (jp_e rfl) (fun h_5 => ?_) (fun h_5 => ?_)
  · skip
    refine k_bipush (v := -2) X dX7_markBy_k1.2.2.2.1 bi_m2 ?_
    exact k_iret X hr dX7_markBy_k1.2.2.2.2 (Nat.le_of_ble_eq_true rfl) (Nat.le_of_ble_eq_true rfl) [0, 1, 2] (vnd_e rfl) rfl rfl rfl
  · skip
    refine k_aload_n X dX7_markBy_k0.1.2.2.2 1 rfl ?_
    refine k_get (ci := 7) X inlX7 rfl 1 (nlt_e rfl) dX7_markBy_k0.2.1.1.1 mw91 0 rfl rfl ?_
    refine k_iload_n X dX7_markBy_k0.2.1.1.2 0 rfl ?_
    refine k_iconst (v := 0) X dX7_markBy_k0.2.1.2.1 ic_0 ?_
    refine k_callVI (n := 2) (As := [.int u_1, .int 0]) (st := []) X [(cO8_iiri xm 12 3 xmc xmn), (cAI g xmc 36 xmf)] [(cO7_vrvvii h0 v0h0 xm v2h0 v3h0 xmd xtr)] [1, 2] [0] (t_at l g xm u_1 0 12 3 xmc xmn 36 xmf (tbk_12_3)) dX7_markBy_k0.2.1.2.2 mw388 mw376 mw377 mw64 mw378 rfl 8 rfl rfl 0 _ rfl yk_yX8_at_2 rfl (Nat.le_of_ble_eq_true rfl) (Nat.le_of_ble_eq_true rfl) (Nat.le_of_ble_eq_true rfl) (Nat.le_of_ble_eq_true rfl) (Nat.le_of_ble_eq_true rfl) rfl rfl (vnd_e rfl) rfl (vnd_e rfl) (dsj_e rfl) ?_
    rintro r_6 w ⟨hr_7, rfl⟩
    refine k_ws [(cO7_vrvvii h0 v0h0 xm v2h0 v3h0 xmd xtr), (cO8_iiri xm 12 3 xmc xmn), (cAI g xmc 36 xmf)] rfl ?_
    refine k_iload_n X dX7_markBy_k0.2.2.1.1 2 rfl ?_
    refine k_ic_ne 49 X dX7_markBy_k0.2.2.1.2 (jp_e rfl) (fun h_8 => ?_) (fun h_8 => ?_)
    · skip
      obtain ⟨z_9, ez_9⟩ : ∃ y : Int32, u_1 + Int32.ofInt 1 = y := ⟨_, rfl⟩
      refine k_iinc z_9 [(3, .int z_9), (0, .ref h0), (1, .int p0), (2, .int p1)] 0 X dX7_markBy_k1.2.2.1.1 rfl ez_9 (nlt_e rfl) rfl ?_
      refine k_goto 2 X dX7_markBy_k1.2.2.1.2 (jp_e rfl) ?_
      exact ih_4 _ (by rw [← hm_3]; exact mu_lt (by assumption) (by assumption)) z_9 rfl 
    · skip
      refine k_aload_n X dX7_markBy_k0.2.2.2.1 1 rfl ?_
      refine k_get (ci := 7) X inlX7 rfl 1 (nlt_e rfl) dX7_markBy_k0.2.2.2.2 mw91 0 rfl rfl ?_
      refine k_iload_n X dX7_markBy_k1.1.1.1 0 rfl ?_
      refine k_iconst (v := 2) X dX7_markBy_k1.1.1.2.1 ic_2 ?_
      refine k_callVI (n := 2) (As := [.int u_1, .int 2]) (st := []) X [(cO8_iiri xm 12 3 xmc xmn), (cAI g xmc 36 xmf)] [(cO7_vrvvii h0 v0h0 xm v2h0 v3h0 xmd xtr)] [1, 2] [0] (t_at l g xm u_1 2 12 3 xmc xmn 36 xmf (tbk_12_3)) dX7_markBy_k1.1.1.2.2 mw388 mw376 mw377 mw64 mw378 rfl 8 rfl rfl 0 _ rfl yk_yX8_at_2 rfl (Nat.le_of_ble_eq_true rfl) (Nat.le_of_ble_eq_true rfl) (Nat.le_of_ble_eq_true rfl) (Nat.le_of_ble_eq_true rfl) (Nat.le_of_ble_eq_true rfl) rfl rfl (vnd_e rfl) rfl (vnd_e rfl) (dsj_e rfl) ?_
      rintro r_10 w ⟨hr_11, rfl⟩
      refine k_ws [(cO7_vrvvii h0 v0h0 xm v2h0 v3h0 xmd xtr), (cO8_iiri xm 12 3 xmc xmn), (cAI g xmc 36 xmf)] rfl ?_
      refine k_iload_n X dX7_markBy_k1.1.2.1.1 3 rfl ?_
      refine k_ic_ne 49 X dX7_markBy_k1.1.2.1.2 (jp_e rfl) (fun h_12 => ?_) (fun h_12 => ?_)
      · skip
        obtain ⟨z_13, ez_13⟩ : ∃ y : Int32, u_1 + Int32.ofInt 1 = y := ⟨_, rfl⟩
        refine k_iinc z_13 [(3, .int z_13), (0, .ref h0), (1, .int p0), (2, .int p1)] 0 X dX7_markBy_k1.2.2.1.1 rfl ez_13 (nlt_e rfl) rfl ?_
        refine k_goto 2 X dX7_markBy_k1.2.2.1.2 (jp_e rfl) ?_
        exact ih_4 _ (by rw [← hm_3]; exact mu_lt (by assumption) (by assumption)) z_13 rfl 
      · skip
        refine k_aload_n X dX7_markBy_k1.1.2.2.1 1 rfl ?_
        refine k_get (ci := 7) X inlX7 rfl 1 (nlt_e rfl) dX7_markBy_k1.1.2.2.2 mw91 0 rfl rfl ?_
        refine k_iload_n X dX7_markBy_k1.2.1.1.1 0 rfl ?_
        refine k_iconst (v := 1) X dX7_markBy_k1.2.1.1.2 ic_1 ?_
        refine k_callVI (n := 2) (As := [.int u_1, .int 1]) (st := []) X [(cO8_iiri xm 12 3 xmc xmn), (cAI g xmc 36 xmf)] [(cO7_vrvvii h0 v0h0 xm v2h0 v3h0 xmd xtr)] [1, 2] [0] (t_at l g xm u_1 1 12 3 xmc xmn 36 xmf (tbk_12_3)) dX7_markBy_k1.2.1.2.1 mw388 mw376 mw377 mw64 mw378 rfl 8 rfl rfl 0 _ rfl yk_yX8_at_2 rfl (Nat.le_of_ble_eq_true rfl) (Nat.le_of_ble_eq_true rfl) (Nat.le_of_ble_eq_true rfl) (Nat.le_of_ble_eq_true rfl) (Nat.le_of_ble_eq_true rfl) rfl rfl (vnd_e rfl) rfl (vnd_e rfl) (dsj_e rfl) ?_
        rintro r_14 w ⟨hr_15, rfl⟩
        refine k_ws [(cO7_vrvvii h0 v0h0 xm v2h0 v3h0 xmd xtr), (cO8_iiri xm 12 3 xmc xmn), (cAI g xmc 36 xmf)] rfl ?_
        exact k_iret X hr dX7_markBy_k1.2.1.2.2 (Nat.le_of_ble_eq_true rfl) (Nat.le_of_ble_eq_true rfl) [0, 1, 2] (vnd_e rfl) rfl rfl rfl

theorem dX7_isMarked_k0 : ((((dD cX7_isMarked 0 (.iconst 0) 1 ∧ dD cX7_isMarked 1 (.istore 4) 2) ∧ (dD cX7_isMarked 3 (.iload 4) 2 ∧ dD cX7_isMarked 5 (.iload_n 3) 1)) ∧ ((dD cX7_isMarked 6 (.if_icmp .ge 39) 3 ∧ dD cX7_isMarked 9 (.aload_n 0) 1) ∧ (dD cX7_isMarked 10 (.getfield 20) 3 ∧ dD cX7_isMarked 13 (.iload 4) 2))) ∧ (((dD cX7_isMarked 15 (.iconst 0) 1 ∧ dD cX7_isMarked 16 (.invokevirtual 43) 3) ∧ (dD cX7_isMarked 19 (.iload_n 1) 1 ∧ dD cX7_isMarked 20 (.if_icmp .ne 19) 3)) ∧ ((dD cX7_isMarked 23 (.aload_n 0) 1 ∧ dD cX7_isMarked 24 (.getfield 20) 3) ∧ (dD cX7_isMarked 27 (.iload 4) 2 ∧ dD cX7_isMarked 29 (.iconst 1) 1)))) := dkA16 (by decide +kernel)
theorem dX7_isMarked_k1 : (((dD cX7_isMarked 30 (.invokevirtual 43) 3 ∧ dD cX7_isMarked 33 (.iload_n 2) 1) ∧ (dD cX7_isMarked 34 (.if_icmp .ne 5) 3 ∧ dD cX7_isMarked 37 (.iconst 1) 1)) ∧ ((dD cX7_isMarked 38 .ireturn 1 ∧ dD cX7_isMarked 39 (.iinc 4 1) 3) ∧ (dD cX7_isMarked 42 (.goto (-39)) 3 ∧ (dD cX7_isMarked 45 (.iconst 0) 1 ∧ dD cX7_isMarked 46 .ireturn 1)))) := dkA9 (by decide +kernel)
set_option maxHeartbeats 4000000 in
set_option maxRecDepth 100000 in
theorem s_isMarked (l : Launch) (g : Gx) (h0 : Nat) (p0 : Int32) (p1 : Int32) (p2 : Int32) (v0h0 : Value) (xm : Nat) (v2h0 : Value) (v3h0 : Value) (xmd : Int32) (xtr : Int32) (xmc : Nat) (xmn : Int32) (xmf : Nat → Int32) : cI l g yX7_isMarked cX7_isMarked 5 (some .boolean) 1 22 0 0 [.ref h0, .int p0, .int p1, .int p2] [(cO7_vrvvii h0 v0h0 xm v2h0 v3h0 xmd xtr), (cO8_iiri xm 12 3 xmc xmn), (cAI g xmc 36 xmf)] (fun r w => w = [(cO7_vrvvii h0 v0h0 xm v2h0 v3h0 xmd xtr), (cO8_iiri xm 12 3 xmc xmn), (cAI g xmc 36 xmf)]) := by
  refine cI.of (by decide) (Nat.le_of_ble_eq_true rfl) ?_
  intro p e s m args below meth c A X hr hi
  refine k_lveq [(0, .ref h0), (1, .int p0), (2, .int p1), (3, .int p2)] rfl ?_
  refine k_iconst (v := 0) X dX7_isMarked_k0.1.1.1.1 ic_0 ?_
  refine k_istore [(4, .int 0), (0, .ref h0), (1, .int p0), (2, .int p1), (3, .int p2)] X dX7_isMarked_k0.1.1.1.2 (nlt_e rfl) rfl ?_
  refine (fun hL : ∀ (nn_2 : Nat) (u_1 : Int32), (p2.toInt - u_1.toInt).toNat = nn_2 → Wk p l e _ s m args below meth c _ A g _ _ _ [(cO7_vrvvii h0 v0h0 xm v2h0 v3h0 xmd xtr), (cO8_iiri xm 12 3 xmc xmn), (cAI g xmc 36 xmf)] [(4, .int u_1), (0, .ref h0), (1, .int p0), (2, .int p1), (3, .int p2)] 3 [] => hL _ 0 rfl ) ?_
  refine fun nn_2 => Nat.strongRecOn nn_2 (fun nn_2 ih_4 => ?_)
  intro u_1 hm_3 
  refine k_iload X dX7_isMarked_k0.1.1.2.1 0 rfl ?_
  refine k_iload_n X dX7_isMarked_k0.1.1.2.2 4 rfl ?_
  refine k_ic_ge 45 X dX7_isMarked_k0.1.2.1.1 (jp_e rfl) (fun h_5 => ?_) (fun h_5 => ?_)
  · skip
    refine k_iconst (v := 0) X dX7_isMarked_k1.2.2.2.1 ic_0 ?_
    exact k_zret X hr (by first | rfl | decide) dX7_isMarked_k1.2.2.2.2 (Nat.le_of_ble_eq_true rfl) (Nat.le_of_ble_eq_true rfl) [0, 1, 2] (vnd_e rfl) rfl rfl rfl
  · skip
    refine k_aload_n X dX7_isMarked_k0.1.2.1.2 1 rfl ?_
    refine k_get (ci := 7) X inlX7 rfl 1 (nlt_e rfl) dX7_isMarked_k0.1.2.2.1 mw91 0 rfl rfl ?_
    refine k_iload X dX7_isMarked_k0.1.2.2.2 0 rfl ?_
    refine k_iconst (v := 0) X dX7_isMarked_k0.2.1.1.1 ic_0 ?_
    refine k_callVI (n := 2) (As := [.int u_1, .int 0]) (st := []) X [(cO8_iiri xm 12 3 xmc xmn), (cAI g xmc 36 xmf)] [(cO7_vrvvii h0 v0h0 xm v2h0 v3h0 xmd xtr)] [1, 2] [0] (t_at l g xm u_1 0 12 3 xmc xmn 36 xmf (tbk_12_3)) dX7_isMarked_k0.2.1.1.2 mw388 mw376 mw377 mw64 mw378 rfl 8 rfl rfl 0 _ rfl yk_yX8_at_2 rfl (Nat.le_of_ble_eq_true rfl) (Nat.le_of_ble_eq_true rfl) (Nat.le_of_ble_eq_true rfl) (Nat.le_of_ble_eq_true rfl) (Nat.le_of_ble_eq_true rfl) rfl rfl (vnd_e rfl) rfl (vnd_e rfl) (dsj_e rfl) ?_
    rintro r_6 w ⟨hr_7, rfl⟩
    refine k_ws [(cO7_vrvvii h0 v0h0 xm v2h0 v3h0 xmd xtr), (cO8_iiri xm 12 3 xmc xmn), (cAI g xmc 36 xmf)] rfl ?_
    refine k_iload_n X dX7_isMarked_k0.2.1.2.1 2 rfl ?_
    refine k_ic_ne 39 X dX7_isMarked_k0.2.1.2.2 (jp_e rfl) (fun h_8 => ?_) (fun h_8 => ?_)
    · skip
      obtain ⟨z_9, ez_9⟩ : ∃ y : Int32, u_1 + Int32.ofInt 1 = y := ⟨_, rfl⟩
      refine k_iinc z_9 [(4, .int z_9), (0, .ref h0), (1, .int p0), (2, .int p1), (3, .int p2)] 0 X dX7_isMarked_k1.2.1.2 rfl ez_9 (nlt_e rfl) rfl ?_
      refine k_goto 3 X dX7_isMarked_k1.2.2.1 (jp_e rfl) ?_
      exact ih_4 _ (by rw [← hm_3]; exact mu_lt (by assumption) (by assumption)) z_9 rfl 
    · skip
      refine k_aload_n X dX7_isMarked_k0.2.2.1.1 1 rfl ?_
      refine k_get (ci := 7) X inlX7 rfl 1 (nlt_e rfl) dX7_isMarked_k0.2.2.1.2 mw91 0 rfl rfl ?_
      refine k_iload X dX7_isMarked_k0.2.2.2.1 0 rfl ?_
      refine k_iconst (v := 1) X dX7_isMarked_k0.2.2.2.2 ic_1 ?_
      refine k_callVI (n := 2) (As := [.int u_1, .int 1]) (st := []) X [(cO8_iiri xm 12 3 xmc xmn), (cAI g xmc 36 xmf)] [(cO7_vrvvii h0 v0h0 xm v2h0 v3h0 xmd xtr)] [1, 2] [0] (t_at l g xm u_1 1 12 3 xmc xmn 36 xmf (tbk_12_3)) dX7_isMarked_k1.1.1.1 mw388 mw376 mw377 mw64 mw378 rfl 8 rfl rfl 0 _ rfl yk_yX8_at_2 rfl (Nat.le_of_ble_eq_true rfl) (Nat.le_of_ble_eq_true rfl) (Nat.le_of_ble_eq_true rfl) (Nat.le_of_ble_eq_true rfl) (Nat.le_of_ble_eq_true rfl) rfl rfl (vnd_e rfl) rfl (vnd_e rfl) (dsj_e rfl) ?_
      rintro r_10 w ⟨hr_11, rfl⟩
      refine k_ws [(cO7_vrvvii h0 v0h0 xm v2h0 v3h0 xmd xtr), (cO8_iiri xm 12 3 xmc xmn), (cAI g xmc 36 xmf)] rfl ?_
      refine k_iload_n X dX7_isMarked_k1.1.1.2 3 rfl ?_
      refine k_ic_ne 39 X dX7_isMarked_k1.1.2.1 (jp_e rfl) (fun h_12 => ?_) (fun h_12 => ?_)
      · skip
        obtain ⟨z_13, ez_13⟩ : ∃ y : Int32, u_1 + Int32.ofInt 1 = y := ⟨_, rfl⟩
        refine k_iinc z_13 [(4, .int z_13), (0, .ref h0), (1, .int p0), (2, .int p1), (3, .int p2)] 0 X dX7_isMarked_k1.2.1.2 rfl ez_13 (nlt_e rfl) rfl ?_
        refine k_goto 3 X dX7_isMarked_k1.2.2.1 (jp_e rfl) ?_
        exact ih_4 _ (by rw [← hm_3]; exact mu_lt (by assumption) (by assumption)) z_13 rfl 
      · skip
        refine k_iconst (v := 1) X dX7_isMarked_k1.1.2.2 ic_1 ?_
        exact k_zret X hr (by first | rfl | decide) dX7_isMarked_k1.2.1.1 (Nat.le_of_ble_eq_true rfl) (Nat.le_of_ble_eq_true rfl) [0, 1, 2] (vnd_e rfl) rfl rfl rfl

theorem dX7_isMeantPerhaps_k0 : ((((dD cX7_isMeantPerhaps 0 (.aload_n 0) 1 ∧ dD cX7_isMeantPerhaps 1 (.getfield 14) 3) ∧ (dD cX7_isMeantPerhaps 4 (.iload_n 1) 1 ∧ dD cX7_isMeantPerhaps 5 (.iconst 1) 1)) ∧ ((dD cX7_isMeantPerhaps 6 (.invokevirtual 43) 3 ∧ dD cX7_isMeantPerhaps 9 (.iload_n 2) 1) ∧ (dD cX7_isMeantPerhaps 10 (.if_icmp .eq 19) 3 ∧ dD cX7_isMeantPerhaps 13 (.aload_n 0) 1))) ∧ (((dD cX7_isMeantPerhaps 14 (.iload_n 1) 1 ∧ dD cX7_isMeantPerhaps 15 (.iload_n 2) 1) ∧ (dD cX7_isMeantPerhaps 16 (.aload_n 0) 1 ∧ dD cX7_isMeantPerhaps 17 (.getfield 20) 3)) ∧ ((dD cX7_isMeantPerhaps 20 (.getfield 51) 3 ∧ dD cX7_isMeantPerhaps 23 (.invokevirtual 57) 3) ∧ (dD cX7_isMeantPerhaps 26 (.ifCond .eq 7) 3 ∧ dD cX7_isMeantPerhaps 29 (.iconst 1) 1)))) := dkA16 (by decide +kernel)
theorem dX7_isMeantPerhaps_k1 : (dD cX7_isMeantPerhaps 30 (.goto 4) 3 ∧ (dD cX7_isMeantPerhaps 33 (.iconst 0) 1 ∧ dD cX7_isMeantPerhaps 34 .ireturn 1)) := dkA3 (by decide +kernel)
set_option maxHeartbeats 4000000 in
set_option maxRecDepth 100000 in
theorem s_isMeantPerhaps (l : Launch) (g : Gx) (h0 : Nat) (p0 : Int32) (p1 : Int32) (xr : Nat) (xm : Nat) (v2h0 : Value) (v3h0 : Value) (xmd : Int32) (xtr : Int32) (xrc : Nat) (xrn : Int32) (xrf : Nat → Int32) (xmc : Nat) (xmn : Int32) (xmf : Nat → Int32) : cI l g yX7_isMeantPerhaps cX7_isMeantPerhaps 3 (some .boolean) 2 46 0 0 [.ref h0, .int p0, .int p1] [(cO7_rrvvii h0 xr xm v2h0 v3h0 xmd xtr), (cO8_iiri xr 8 3 xrc xrn), (cAI g xrc 24 xrf), (cO8_iiri xm 12 3 xmc xmn), (cAI g xmc 36 xmf)] (fun r w => w = [(cO7_rrvvii h0 xr xm v2h0 v3h0 xmd xtr), (cO8_iiri xr 8 3 xrc xrn), (cAI g xrc 24 xrf), (cO8_iiri xm 12 3 xmc xmn), (cAI g xmc 36 xmf)]) := by
  refine cI.of (by decide) (Nat.le_of_ble_eq_true rfl) ?_
  intro p e s m args below meth c A X hr hi
  refine k_lveq [(0, .ref h0), (1, .int p0), (2, .int p1)] rfl ?_
  refine k_aload_n X dX7_isMeantPerhaps_k0.1.1.1.1 0 rfl ?_
  refine k_get (ci := 7) X inlX7 rfl 0 (nlt_e rfl) dX7_isMeantPerhaps_k0.1.1.1.2 mw90 0 rfl rfl ?_
  refine k_iload_n X dX7_isMeantPerhaps_k0.1.1.2.1 1 rfl ?_
  refine k_iconst (v := 1) X dX7_isMeantPerhaps_k0.1.1.2.2 ic_1 ?_
  refine k_callVI (n := 2) (As := [.int p0, .int 1]) (st := []) X [(cO8_iiri xr 8 3 xrc xrn), (cAI g xrc 24 xrf)] [(cO7_rrvvii h0 xr xm v2h0 v3h0 xmd xtr), (cO8_iiri xm 12 3 xmc xmn), (cAI g xmc 36 xmf)] [1, 2] [0, 3, 4] (t_at l g xr p0 1 8 3 xrc xrn 24 xrf (tbk_8_3)) dX7_isMeantPerhaps_k0.1.2.1.1 mw388 mw376 mw377 mw64 mw378 rfl 8 rfl rfl 0 _ rfl yk_yX8_at_2 rfl (Nat.le_of_ble_eq_true rfl) (Nat.le_of_ble_eq_true rfl) (Nat.le_of_ble_eq_true rfl) (Nat.le_of_ble_eq_true rfl) (Nat.le_of_ble_eq_true rfl) rfl rfl (vnd_e rfl) rfl (vnd_e rfl) (dsj_e rfl) ?_
  rintro r_1 w ⟨hr_2, rfl⟩
  refine k_ws [(cO7_rrvvii h0 xr xm v2h0 v3h0 xmd xtr), (cO8_iiri xm 12 3 xmc xmn), (cAI g xmc 36 xmf), (cO8_iiri xr 8 3 xrc xrn), (cAI g xrc 24 xrf)] rfl ?_
  refine k_iload_n X dX7_isMeantPerhaps_k0.1.2.1.2 2 rfl ?_
  refine k_ic_eq 29 X dX7_isMeantPerhaps_k0.1.2.2.1 (jp_e rfl) (fun h_3 => ?_) (fun h_3 => ?_)
  · skip
    refine k_iconst (v := 1) X dX7_isMeantPerhaps_k0.2.2.2.2 ic_1 ?_
    refine k_goto 34 X dX7_isMeantPerhaps_k1.1 (jp_e rfl) ?_
    exact k_zret X hr (by first | rfl | decide) dX7_isMeantPerhaps_k1.2.2 (Nat.le_of_ble_eq_true rfl) (Nat.le_of_ble_eq_true rfl) [0, 3, 4, 1, 2] (vnd_e rfl) rfl rfl rfl
  · skip
    refine k_aload_n X dX7_isMeantPerhaps_k0.1.2.2.2 0 rfl ?_
    refine k_iload_n X dX7_isMeantPerhaps_k0.2.1.1.1 1 rfl ?_
    refine k_iload_n X dX7_isMeantPerhaps_k0.2.1.1.2 2 rfl ?_
    refine k_aload_n X dX7_isMeantPerhaps_k0.2.1.2.1 0 rfl ?_
    refine k_get (ci := 7) X inlX7 rfl 1 (nlt_e rfl) dX7_isMeantPerhaps_k0.2.1.2.2 mw91 0 rfl rfl ?_
    refine k_get (ci := 8) X inlX8 rfl 3 (nlt_e rfl) dX7_isMeantPerhaps_k0.2.2.1.1 mw387 1 rfl rfl ?_
    refine k_callVI (n := 3) (As := [.int p0, .int p1, .int xmn]) (st := []) X [(cO7_rrvvii h0 xr xm v2h0 v3h0 xmd xtr), (cO8_iiri xm 12 3 xmc xmn), (cAI g xmc 36 xmf)] [(cO8_iiri xr 8 3 xrc xrn), (cAI g xrc 24 xrf)] [0, 1, 2] [3, 4] (s_isMarked l g h0 p0 p1 xmn (.ref xr) xm v2h0 v3h0 xmd xtr xmc xmn xmf) dX7_isMeantPerhaps_k0.2.2.1.2 mw1121 mw1122 mw1123 mw23 mw1124 rfl 7 rfl rfl 0 _ rfl yk_yX7_isMarked_3 rfl (Nat.le_of_ble_eq_true rfl) (Nat.le_of_ble_eq_true rfl) (Nat.le_of_ble_eq_true rfl) (Nat.le_of_ble_eq_true rfl) (Nat.le_of_ble_eq_true rfl) rfl rfl (vnd_e rfl) rfl (vnd_e rfl) (dsj_e rfl) ?_
    rintro r_4 w rfl
    refine k_ws [(cO8_iiri xr 8 3 xrc xrn), (cAI g xrc 24 xrf), (cO7_rrvvii h0 xr xm v2h0 v3h0 xmd xtr), (cO8_iiri xm 12 3 xmc xmn), (cAI g xmc 36 xmf)] rfl ?_
    refine k_if_eq 33 X dX7_isMeantPerhaps_k0.2.2.2.1 (jp_e rfl) (fun h_6 => ?_) (fun h_6 => ?_)
    · skip
      refine k_iconst (v := 0) X dX7_isMeantPerhaps_k1.2.1 ic_0 ?_
      exact k_zret X hr (by first | rfl | decide) dX7_isMeantPerhaps_k1.2.2 (Nat.le_of_ble_eq_true rfl) (Nat.le_of_ble_eq_true rfl) [2, 0, 1, 3, 4] (vnd_e rfl) rfl rfl rfl
    · skip
      refine k_iconst (v := 1) X dX7_isMeantPerhaps_k0.2.2.2.2 ic_1 ?_
      refine k_goto 34 X dX7_isMeantPerhaps_k1.1 (jp_e rfl) ?_
      exact k_zret X hr (by first | rfl | decide) dX7_isMeantPerhaps_k1.2.2 (Nat.le_of_ble_eq_true rfl) (Nat.le_of_ble_eq_true rfl) [2, 0, 1, 3, 4] (vnd_e rfl) rfl rfl rfl

theorem dX7_believedBy_k0 : ((((dD cX7_believedBy 0 (.aload_n 1) 1 ∧ dD cX7_believedBy 1 (.iload_n 2) 1) ∧ (dD cX7_believedBy 2 (.iconst 0) 1 ∧ dD cX7_believedBy 3 (.invokevirtual 43) 3)) ∧ ((dD cX7_believedBy 6 (.istore 4) 2 ∧ dD cX7_believedBy 8 (.aload_n 0) 1) ∧ (dD cX7_believedBy 9 (.getfield 14) 3 ∧ dD cX7_believedBy 12 (.iload_n 3) 1))) ∧ (((dD cX7_believedBy 13 (.iconst 1) 1 ∧ dD cX7_believedBy 14 (.invokevirtual 43) 3) ∧ (dD cX7_believedBy 17 (.istore 5) 2 ∧ dD cX7_believedBy 19 (.iconst 0) 1)) ∧ ((dD cX7_believedBy 20 (.istore 6) 2 ∧ dD cX7_believedBy 22 (.iload 6) 2) ∧ (dD cX7_believedBy 24 (.aload_n 0) 1 ∧ dD cX7_believedBy 25 (.getfield 20) 3)))) := dkA16 (by decide +kernel)
theorem dX7_believedBy_k1 : ((((dD cX7_believedBy 28 (.getfield 51) 3 ∧ dD cX7_believedBy 31 (.if_icmp .ge 90) 3) ∧ (dD cX7_believedBy 34 (.aload_n 0) 1 ∧ dD cX7_believedBy 35 (.getfield 20) 3)) ∧ ((dD cX7_believedBy 38 (.iload 6) 2 ∧ dD cX7_believedBy 40 (.iconst 0) 1) ∧ (dD cX7_believedBy 41 (.invokevirtual 43) 3 ∧ dD cX7_believedBy 44 (.iload_n 3) 1))) ∧ (((dD cX7_believedBy 45 (.if_icmp .ne 70) 3 ∧ dD cX7_believedBy 48 (.aload_n 0) 1) ∧ (dD cX7_believedBy 49 (.getfield 20) 3 ∧ dD cX7_believedBy 52 (.iload 6) 2)) ∧ ((dD cX7_believedBy 54 (.iconst 1) 1 ∧ dD cX7_believedBy 55 (.invokevirtual 43) 3) ∧ (dD cX7_believedBy 58 (.istore 7) 2 ∧ dD cX7_believedBy 60 (.iload 4) 2)))) := dkA16 (by decide +kernel)
theorem dX7_believedBy_k2 : ((((dD cX7_believedBy 62 (.iconst 1) 1 ∧ dD cX7_believedBy 63 (.if_icmp .ne 10) 3) ∧ (dD cX7_believedBy 66 (.iload 7) 2 ∧ dD cX7_believedBy 68 (.iload 5) 2)) ∧ ((dD cX7_believedBy 70 (.if_icmp .lt 41) 3 ∧ dD cX7_believedBy 73 (.iload 4) 2) ∧ (dD cX7_believedBy 75 (.iconst 2) 1 ∧ dD cX7_believedBy 76 (.if_icmp .ne 10) 3))) ∧ (((dD cX7_believedBy 79 (.iload 7) 2 ∧ dD cX7_believedBy 81 (.iload 5) 2) ∧ (dD cX7_believedBy 83 (.if_icmp .gt 28) 3 ∧ dD cX7_believedBy 86 (.iload 4) 2)) ∧ ((dD cX7_believedBy 88 (.iconst 3) 1 ∧ dD cX7_believedBy 89 (.if_icmp .ne 26) 3) ∧ (dD cX7_believedBy 92 (.aload_n 0) 1 ∧ dD cX7_believedBy 93 (.getfield 20) 3)))) := dkA16 (by decide +kernel)
theorem dX7_believedBy_k3 : (((dD cX7_believedBy 96 (.iload 6) 2 ∧ (dD cX7_believedBy 98 (.iconst 2) 1 ∧ dD cX7_believedBy 99 (.invokevirtual 43) 3)) ∧ ((dD cX7_believedBy 102 (.aload_n 1) 1 ∧ dD cX7_believedBy 103 (.iload_n 2) 1) ∧ (dD cX7_believedBy 104 (.iconst 1) 1 ∧ dD cX7_believedBy 105 (.invokevirtual 43) 3))) ∧ ((dD cX7_believedBy 108 (.if_icmp .ne 7) 3 ∧ (dD cX7_believedBy 111 (.iload 7) 2 ∧ dD cX7_believedBy 113 (.istore 5) 2)) ∧ ((dD cX7_believedBy 115 (.iinc 6 1) 3 ∧ dD cX7_believedBy 118 (.goto (-96)) 3) ∧ (dD cX7_believedBy 121 (.iload 5) 2 ∧ dD cX7_believedBy 123 .ireturn 1)))) := dkA14 (by decide +kernel)
set_option maxHeartbeats 4000000 in
set_option maxRecDepth 100000 in
theorem s_believedBy (l : Launch) (g : Gx) (h0 : Nat) (mn : Nat) (p0 : Int32) (p1 : Int32) (xr : Nat) (xm : Nat) (v2h0 : Value) (v3h0 : Value) (xmd : Int32) (xtr : Int32) (xrc : Nat) (xrn : Int32) (xrf : Nat → Int32) (xmc : Nat) (xmn : Int32) (xmf : Nat → Int32) (mnc : Nat) (mnn : Int32) (mnf : Nat → Int32) : cI l g yX7_believedBy cX7_believedBy 8 (some .int) 1 22 0 0 [.ref h0, .ref mn, .int p0, .int p1] [(cO7_rrvvii h0 xr xm v2h0 v3h0 xmd xtr), (cO8_iiri xr 8 3 xrc xrn), (cAI g xrc 24 xrf), (cO8_iiri xm 12 3 xmc xmn), (cAI g xmc 36 xmf), (cO8_iiri mn 4 3 mnc mnn), (cAI g mnc 12 mnf)] (fun r w => w = [(cO7_rrvvii h0 xr xm v2h0 v3h0 xmd xtr), (cO8_iiri xr 8 3 xrc xrn), (cAI g xrc 24 xrf), (cO8_iiri xm 12 3 xmc xmn), (cAI g xmc 36 xmf), (cO8_iiri mn 4 3 mnc mnn), (cAI g mnc 12 mnf)]) := by
  refine cI.of (by decide) (Nat.le_of_ble_eq_true rfl) ?_
  intro p e s m args below meth c A X hr hi
  refine k_lveq [(0, .ref h0), (1, .ref mn), (2, .int p0), (3, .int p1)] rfl ?_
  refine k_aload_n X dX7_believedBy_k0.1.1.1.1 1 rfl ?_
  refine k_iload_n X dX7_believedBy_k0.1.1.1.2 2 rfl ?_
  refine k_iconst (v := 0) X dX7_believedBy_k0.1.1.2.1 ic_0 ?_
  refine k_callVI (n := 2) (As := [.int p0, .int 0]) (st := []) X [(cO8_iiri mn 4 3 mnc mnn), (cAI g mnc 12 mnf)] [(cO7_rrvvii h0 xr xm v2h0 v3h0 xmd xtr), (cO8_iiri xr 8 3 xrc xrn), (cAI g xrc 24 xrf), (cO8_iiri xm 12 3 xmc xmn), (cAI g xmc 36 xmf)] [5, 6] [0, 1, 2, 3, 4] (t_at l g mn p0 0 4 3 mnc mnn 12 mnf (tbk_4_3)) dX7_believedBy_k0.1.1.2.2 mw388 mw376 mw377 mw64 mw378 rfl 8 rfl rfl 0 _ rfl yk_yX8_at_2 rfl (Nat.le_of_ble_eq_true rfl) (Nat.le_of_ble_eq_true rfl) (Nat.le_of_ble_eq_true rfl) (Nat.le_of_ble_eq_true rfl) (Nat.le_of_ble_eq_true rfl) rfl rfl (vnd_e rfl) rfl (vnd_e rfl) (dsj_e rfl) ?_
  rintro r_1 w ⟨hr_2, rfl⟩
  refine k_ws [(cO7_rrvvii h0 xr xm v2h0 v3h0 xmd xtr), (cO8_iiri xr 8 3 xrc xrn), (cAI g xrc 24 xrf), (cO8_iiri xm 12 3 xmc xmn), (cAI g xmc 36 xmf), (cO8_iiri mn 4 3 mnc mnn), (cAI g mnc 12 mnf)] rfl ?_
  refine k_istore [(4, .int r_1), (0, .ref h0), (1, .ref mn), (2, .int p0), (3, .int p1)] X dX7_believedBy_k0.1.2.1.1 (nlt_e rfl) rfl ?_
  refine k_aload_n X dX7_believedBy_k0.1.2.1.2 1 rfl ?_
  refine k_get (ci := 7) X inlX7 rfl 0 (nlt_e rfl) dX7_believedBy_k0.1.2.2.1 mw90 0 rfl rfl ?_
  refine k_iload_n X dX7_believedBy_k0.1.2.2.2 4 rfl ?_
  refine k_iconst (v := 1) X dX7_believedBy_k0.2.1.1.1 ic_1 ?_
  refine k_callVI (n := 2) (As := [.int p1, .int 1]) (st := []) X [(cO8_iiri xr 8 3 xrc xrn), (cAI g xrc 24 xrf)] [(cO7_rrvvii h0 xr xm v2h0 v3h0 xmd xtr), (cO8_iiri xm 12 3 xmc xmn), (cAI g xmc 36 xmf), (cO8_iiri mn 4 3 mnc mnn), (cAI g mnc 12 mnf)] [1, 2] [0, 3, 4, 5, 6] (t_at l g xr p1 1 8 3 xrc xrn 24 xrf (tbk_8_3)) dX7_believedBy_k0.2.1.1.2 mw388 mw376 mw377 mw64 mw378 rfl 8 rfl rfl 0 _ rfl yk_yX8_at_2 rfl (Nat.le_of_ble_eq_true rfl) (Nat.le_of_ble_eq_true rfl) (Nat.le_of_ble_eq_true rfl) (Nat.le_of_ble_eq_true rfl) (Nat.le_of_ble_eq_true rfl) rfl rfl (vnd_e rfl) rfl (vnd_e rfl) (dsj_e rfl) ?_
  rintro r_3 w ⟨hr_4, rfl⟩
  refine k_ws [(cO7_rrvvii h0 xr xm v2h0 v3h0 xmd xtr), (cO8_iiri xm 12 3 xmc xmn), (cAI g xmc 36 xmf), (cO8_iiri mn 4 3 mnc mnn), (cAI g mnc 12 mnf), (cO8_iiri xr 8 3 xrc xrn), (cAI g xrc 24 xrf)] rfl ?_
  refine k_istore [(5, .int r_3), (4, .int r_1), (0, .ref h0), (1, .ref mn), (2, .int p0), (3, .int p1)] X dX7_believedBy_k0.2.1.2.1 (nlt_e rfl) rfl ?_
  refine k_iconst (v := 0) X dX7_believedBy_k0.2.1.2.2 ic_0 ?_
  refine k_istore [(6, .int 0), (5, .int r_3), (4, .int r_1), (0, .ref h0), (1, .ref mn), (2, .int p0), (3, .int p1)] X dX7_believedBy_k0.2.2.1.1 (nlt_e rfl) rfl ?_
  refine (fun hL : ∀ (nn_7 : Nat) (u_5 : Int32) (u_6 : Int32), (xmn.toInt - u_5.toInt).toNat = nn_7 → Wk p l e _ s m args below meth c _ A g _ _ _ [(cO7_rrvvii h0 xr xm v2h0 v3h0 xmd xtr), (cO8_iiri xm 12 3 xmc xmn), (cAI g xmc 36 xmf), (cO8_iiri mn 4 3 mnc mnn), (cAI g mnc 12 mnf), (cO8_iiri xr 8 3 xrc xrn), (cAI g xrc 24 xrf)] [(6, .int u_5), (5, .int u_6), (4, .int r_1), (0, .ref h0), (1, .ref mn), (2, .int p0), (3, .int p1)] 22 [] => hL _ 0 r_3 rfl ) ?_
  refine fun nn_7 => Nat.strongRecOn nn_7 (fun nn_7 ih_9 => ?_)
  intro u_5 u_6 hm_8 
  refine k_iload X dX7_believedBy_k0.2.2.1.2 0 rfl ?_
  refine k_aload_n X dX7_believedBy_k0.2.2.2.1 3 rfl ?_
  refine k_get (ci := 7) X inlX7 rfl 1 (nlt_e rfl) dX7_believedBy_k0.2.2.2.2 mw91 0 rfl rfl ?_
  refine k_get (ci := 8) X inlX8 rfl 3 (nlt_e rfl) dX7_believedBy_k1.1.1.1.1 mw387 1 rfl rfl ?_
  refine k_ic_ge 121 X dX7_believedBy_k1.1.1.1.2 (jp_e rfl) (fun h_10 => ?_) (fun h_10 => ?_)
  · skip
    refine k_iload X dX7_believedBy_k3.2.2.2.1 1 rfl ?_
    exact k_iret X hr dX7_believedBy_k3.2.2.2.2 (Nat.le_of_ble_eq_true rfl) (Nat.le_of_ble_eq_true rfl) [0, 5, 6, 1, 2, 3, 4] (vnd_e rfl) rfl rfl rfl
  · skip
    refine k_aload_n X dX7_believedBy_k1.1.1.2.1 3 rfl ?_
    refine k_get (ci := 7) X inlX7 rfl 1 (nlt_e rfl) dX7_believedBy_k1.1.1.2.2 mw91 0 rfl rfl ?_
    refine k_iload X dX7_believedBy_k1.1.2.1.1 0 rfl ?_
    refine k_iconst (v := 0) X dX7_believedBy_k1.1.2.1.2 ic_0 ?_
    refine k_callVI (n := 2) (As := [.int u_5, .int 0]) (st := []) X [(cO8_iiri xm 12 3 xmc xmn), (cAI g xmc 36 xmf)] [(cO7_rrvvii h0 xr xm v2h0 v3h0 xmd xtr), (cO8_iiri mn 4 3 mnc mnn), (cAI g mnc 12 mnf), (cO8_iiri xr 8 3 xrc xrn), (cAI g xrc 24 xrf)] [1, 2] [0, 3, 4, 5, 6] (t_at l g xm u_5 0 12 3 xmc xmn 36 xmf (tbk_12_3)) dX7_believedBy_k1.1.2.2.1 mw388 mw376 mw377 mw64 mw378 rfl 8 rfl rfl 0 _ rfl yk_yX8_at_2 rfl (Nat.le_of_ble_eq_true rfl) (Nat.le_of_ble_eq_true rfl) (Nat.le_of_ble_eq_true rfl) (Nat.le_of_ble_eq_true rfl) (Nat.le_of_ble_eq_true rfl) rfl rfl (vnd_e rfl) rfl (vnd_e rfl) (dsj_e rfl) ?_
    rintro r_11 w ⟨hr_12, rfl⟩
    refine k_ws [(cO7_rrvvii h0 xr xm v2h0 v3h0 xmd xtr), (cO8_iiri mn 4 3 mnc mnn), (cAI g mnc 12 mnf), (cO8_iiri xr 8 3 xrc xrn), (cAI g xrc 24 xrf), (cO8_iiri xm 12 3 xmc xmn), (cAI g xmc 36 xmf)] rfl ?_
    refine k_iload_n X dX7_believedBy_k1.1.2.2.2 6 rfl ?_
    refine k_ic_ne 115 X dX7_believedBy_k1.2.1.1.1 (jp_e rfl) (fun h_13 => ?_) (fun h_13 => ?_)
    · skip
      obtain ⟨z_14, ez_14⟩ : ∃ y : Int32, u_5 + Int32.ofInt 1 = y := ⟨_, rfl⟩
      refine k_iinc z_14 [(6, .int z_14), (5, .int u_6), (4, .int r_1), (0, .ref h0), (1, .ref mn), (2, .int p0), (3, .int p1)] 0 X dX7_believedBy_k3.2.2.1.1 rfl ez_14 (nlt_e rfl) rfl ?_
      refine k_goto 22 X dX7_believedBy_k3.2.2.1.2 (jp_e rfl) ?_
      refine k_sub [(cO7_rrvvii h0 xr xm v2h0 v3h0 xmd xtr), (cO8_iiri xm 12 3 xmc xmn), (cAI g xmc 36 xmf), (cO8_iiri mn 4 3 mnc mnn), (cAI g mnc 12 mnf), (cO8_iiri xr 8 3 xrc xrn), (cAI g xrc 24 xrf)] [0, 5, 6, 1, 2, 3, 4] rfl (by decide) rfl ?_
      exact ih_9 _ (by rw [← hm_8]; exact mu_lt (by assumption) (by assumption)) z_14 u_6 rfl 
    · skip
      refine k_aload_n X dX7_believedBy_k1.2.1.1.2 3 rfl ?_
      refine k_get (ci := 7) X inlX7 rfl 1 (nlt_e rfl) dX7_believedBy_k1.2.1.2.1 mw91 0 rfl rfl ?_
      refine k_iload X dX7_believedBy_k1.2.1.2.2 0 rfl ?_
      refine k_iconst (v := 1) X dX7_believedBy_k1.2.2.1.1 ic_1 ?_
      refine k_callVI (n := 2) (As := [.int u_5, .int 1]) (st := []) X [(cO8_iiri xm 12 3 xmc xmn), (cAI g xmc 36 xmf)] [(cO7_rrvvii h0 xr xm v2h0 v3h0 xmd xtr), (cO8_iiri mn 4 3 mnc mnn), (cAI g mnc 12 mnf), (cO8_iiri xr 8 3 xrc xrn), (cAI g xrc 24 xrf)] [5, 6] [0, 1, 2, 3, 4] (t_at l g xm u_5 1 12 3 xmc xmn 36 xmf (tbk_12_3)) dX7_believedBy_k1.2.2.1.2 mw388 mw376 mw377 mw64 mw378 rfl 8 rfl rfl 0 _ rfl yk_yX8_at_2 rfl (Nat.le_of_ble_eq_true rfl) (Nat.le_of_ble_eq_true rfl) (Nat.le_of_ble_eq_true rfl) (Nat.le_of_ble_eq_true rfl) (Nat.le_of_ble_eq_true rfl) rfl rfl (vnd_e rfl) rfl (vnd_e rfl) (dsj_e rfl) ?_
      rintro r_15 w ⟨hr_16, rfl⟩
      refine k_ws [(cO7_rrvvii h0 xr xm v2h0 v3h0 xmd xtr), (cO8_iiri mn 4 3 mnc mnn), (cAI g mnc 12 mnf), (cO8_iiri xr 8 3 xrc xrn), (cAI g xrc 24 xrf), (cO8_iiri xm 12 3 xmc xmn), (cAI g xmc 36 xmf)] rfl ?_
      refine k_istore [(7, .int r_15), (6, .int u_5), (5, .int u_6), (4, .int r_1), (0, .ref h0), (1, .ref mn), (2, .int p0), (3, .int p1)] X dX7_believedBy_k1.2.2.2.1 (nlt_e rfl) rfl ?_
      refine k_iload X dX7_believedBy_k1.2.2.2.2 3 rfl ?_
      refine k_iconst (v := 1) X dX7_believedBy_k2.1.1.1.1 ic_1 ?_
      refine k_ic_ne 73 X dX7_believedBy_k2.1.1.1.2 (jp_e rfl) (fun h_17 => ?_) (fun h_17 => ?_)
      · skip
        refine k_iload X dX7_believedBy_k2.1.2.1.2 3 rfl ?_
        refine k_iconst (v := 2) X dX7_believedBy_k2.1.2.2.1 ic_2 ?_
        refine k_ic_ne 86 X dX7_believedBy_k2.1.2.2.2 (jp_e rfl) (fun h_18 => ?_) (fun h_18 => ?_)
        · skip
          refine k_iload X dX7_believedBy_k2.2.1.2.2 3 rfl ?_
          refine k_iconst (v := 3) X dX7_believedBy_k2.2.2.1.1 ic_3 ?_
          refine k_ic_ne 115 X dX7_believedBy_k2.2.2.1.2 (jp_e rfl) (fun h_19 => ?_) (fun h_19 => ?_)
          · skip
            obtain ⟨z_20, ez_20⟩ : ∃ y : Int32, u_5 + Int32.ofInt 1 = y := ⟨_, rfl⟩
            refine k_iinc z_20 [(6, .int z_20), (7, .int r_15), (5, .int u_6), (4, .int r_1), (0, .ref h0), (1, .ref mn), (2, .int p0), (3, .int p1)] 1 X dX7_believedBy_k3.2.2.1.1 rfl ez_20 (nlt_e rfl) rfl ?_
            refine k_goto 22 X dX7_believedBy_k3.2.2.1.2 (jp_e rfl) ?_
            refine k_lv [(6, .int z_20), (5, .int u_6), (4, .int r_1), (0, .ref h0), (1, .ref mn), (2, .int p0), (3, .int p1)] [0, 2, 3, 4, 5, 6, 7] rfl ?_
            refine k_sub [(cO7_rrvvii h0 xr xm v2h0 v3h0 xmd xtr), (cO8_iiri xm 12 3 xmc xmn), (cAI g xmc 36 xmf), (cO8_iiri mn 4 3 mnc mnn), (cAI g mnc 12 mnf), (cO8_iiri xr 8 3 xrc xrn), (cAI g xrc 24 xrf)] [0, 5, 6, 1, 2, 3, 4] rfl (by decide) rfl ?_
            exact ih_9 _ (by rw [← hm_8]; exact mu_lt (by assumption) (by assumption)) z_20 u_6 rfl 
          · skip
            refine k_aload_n X dX7_believedBy_k2.2.2.2.1 4 rfl ?_
            refine k_get (ci := 7) X inlX7 rfl 1 (nlt_e rfl) dX7_believedBy_k2.2.2.2.2 mw91 0 rfl rfl ?_
            refine k_iload X dX7_believedBy_k3.1.1.1 1 rfl ?_
            refine k_iconst (v := 2) X dX7_believedBy_k3.1.1.2.1 ic_2 ?_
            refine k_callVI (n := 2) (As := [.int u_5, .int 2]) (st := []) X [(cO8_iiri xm 12 3 xmc xmn), (cAI g xmc 36 xmf)] [(cO7_rrvvii h0 xr xm v2h0 v3h0 xmd xtr), (cO8_iiri mn 4 3 mnc mnn), (cAI g mnc 12 mnf), (cO8_iiri xr 8 3 xrc xrn), (cAI g xrc 24 xrf)] [5, 6] [0, 1, 2, 3, 4] (t_at l g xm u_5 2 12 3 xmc xmn 36 xmf (tbk_12_3)) dX7_believedBy_k3.1.1.2.2 mw388 mw376 mw377 mw64 mw378 rfl 8 rfl rfl 0 _ rfl yk_yX8_at_2 rfl (Nat.le_of_ble_eq_true rfl) (Nat.le_of_ble_eq_true rfl) (Nat.le_of_ble_eq_true rfl) (Nat.le_of_ble_eq_true rfl) (Nat.le_of_ble_eq_true rfl) rfl rfl (vnd_e rfl) rfl (vnd_e rfl) (dsj_e rfl) ?_
            rintro r_21 w ⟨hr_22, rfl⟩
            refine k_ws [(cO7_rrvvii h0 xr xm v2h0 v3h0 xmd xtr), (cO8_iiri mn 4 3 mnc mnn), (cAI g mnc 12 mnf), (cO8_iiri xr 8 3 xrc xrn), (cAI g xrc 24 xrf), (cO8_iiri xm 12 3 xmc xmn), (cAI g xmc 36 xmf)] rfl ?_
            refine k_aload_n X dX7_believedBy_k3.1.2.1.1 5 rfl ?_
            refine k_iload_n X dX7_believedBy_k3.1.2.1.2 6 rfl ?_
            refine k_iconst (v := 1) X dX7_believedBy_k3.1.2.2.1 ic_1 ?_
            refine k_callVI (n := 2) (As := [.int p0, .int 1]) (st := [.int r_21]) X [(cO8_iiri mn 4 3 mnc mnn), (cAI g mnc 12 mnf)] [(cO7_rrvvii h0 xr xm v2h0 v3h0 xmd xtr), (cO8_iiri xr 8 3 xrc xrn), (cAI g xrc 24 xrf), (cO8_iiri xm 12 3 xmc xmn), (cAI g xmc 36 xmf)] [1, 2] [0, 3, 4, 5, 6] (t_at l g mn p0 1 4 3 mnc mnn 12 mnf (tbk_4_3)) dX7_believedBy_k3.1.2.2.2 mw388 mw376 mw377 mw64 mw378 rfl 8 rfl rfl 0 _ rfl yk_yX8_at_2 rfl (Nat.le_of_ble_eq_true rfl) (Nat.le_of_ble_eq_true rfl) (Nat.le_of_ble_eq_true rfl) (Nat.le_of_ble_eq_true rfl) (Nat.le_of_ble_eq_true rfl) rfl rfl (vnd_e rfl) rfl (vnd_e rfl) (dsj_e rfl) ?_
            rintro r_23 w ⟨hr_24, rfl⟩
            refine k_ws [(cO7_rrvvii h0 xr xm v2h0 v3h0 xmd xtr), (cO8_iiri xr 8 3 xrc xrn), (cAI g xrc 24 xrf), (cO8_iiri xm 12 3 xmc xmn), (cAI g xmc 36 xmf), (cO8_iiri mn 4 3 mnc mnn), (cAI g mnc 12 mnf)] rfl ?_
            refine k_ic_ne 115 X dX7_believedBy_k3.2.1.1 (jp_e rfl) (fun h_25 => ?_) (fun h_25 => ?_)
            · skip
              obtain ⟨z_26, ez_26⟩ : ∃ y : Int32, u_5 + Int32.ofInt 1 = y := ⟨_, rfl⟩
              refine k_iinc z_26 [(6, .int z_26), (7, .int r_15), (5, .int u_6), (4, .int r_1), (0, .ref h0), (1, .ref mn), (2, .int p0), (3, .int p1)] 1 X dX7_believedBy_k3.2.2.1.1 rfl ez_26 (nlt_e rfl) rfl ?_
              refine k_goto 22 X dX7_believedBy_k3.2.2.1.2 (jp_e rfl) ?_
              refine k_lv [(6, .int z_26), (5, .int u_6), (4, .int r_1), (0, .ref h0), (1, .ref mn), (2, .int p0), (3, .int p1)] [0, 2, 3, 4, 5, 6, 7] rfl ?_
              refine k_sub [(cO7_rrvvii h0 xr xm v2h0 v3h0 xmd xtr), (cO8_iiri xm 12 3 xmc xmn), (cAI g xmc 36 xmf), (cO8_iiri mn 4 3 mnc mnn), (cAI g mnc 12 mnf), (cO8_iiri xr 8 3 xrc xrn), (cAI g xrc 24 xrf)] [0, 3, 4, 5, 6, 1, 2] rfl (by decide) rfl ?_
              exact ih_9 _ (by rw [← hm_8]; exact mu_lt (by assumption) (by assumption)) z_26 u_6 rfl 
            · skip
              refine k_iload X dX7_believedBy_k3.2.1.2.1 0 rfl ?_
              refine k_istore [(5, .int r_15), (7, .int r_15), (6, .int u_5), (4, .int r_1), (0, .ref h0), (1, .ref mn), (2, .int p0), (3, .int p1)] X dX7_believedBy_k3.2.1.2.2 (nlt_e rfl) rfl ?_
              obtain ⟨z_27, ez_27⟩ : ∃ y : Int32, u_5 + Int32.ofInt 1 = y := ⟨_, rfl⟩
              refine k_iinc z_27 [(6, .int z_27), (5, .int r_15), (7, .int r_15), (4, .int r_1), (0, .ref h0), (1, .ref mn), (2, .int p0), (3, .int p1)] 2 X dX7_believedBy_k3.2.2.1.1 rfl ez_27 (nlt_e rfl) rfl ?_
              refine k_goto 22 X dX7_believedBy_k3.2.2.1.2 (jp_e rfl) ?_
              refine k_lv [(6, .int z_27), (5, .int r_15), (4, .int r_1), (0, .ref h0), (1, .ref mn), (2, .int p0), (3, .int p1)] [0, 1, 3, 4, 5, 6, 7] rfl ?_
              refine k_sub [(cO7_rrvvii h0 xr xm v2h0 v3h0 xmd xtr), (cO8_iiri xm 12 3 xmc xmn), (cAI g xmc 36 xmf), (cO8_iiri mn 4 3 mnc mnn), (cAI g mnc 12 mnf), (cO8_iiri xr 8 3 xrc xrn), (cAI g xrc 24 xrf)] [0, 3, 4, 5, 6, 1, 2] rfl (by decide) rfl ?_
              exact ih_9 _ (by rw [← hm_8]; exact mu_lt (by assumption) (by assumption)) z_27 r_15 rfl 
        · skip
          refine k_iload X dX7_believedBy_k2.2.1.1.1 0 rfl ?_
          refine k_iload X dX7_believedBy_k2.2.1.1.2 2 rfl ?_
          refine k_ic_gt 111 X dX7_believedBy_k2.2.1.2.1 (jp_e rfl) (fun h_28 => ?_) (fun h_28 => ?_)
          · skip
            refine k_iload X dX7_believedBy_k3.2.1.2.1 0 rfl ?_
            refine k_istore [(5, .int r_15), (7, .int r_15), (6, .int u_5), (4, .int r_1), (0, .ref h0), (1, .ref mn), (2, .int p0), (3, .int p1)] X dX7_believedBy_k3.2.1.2.2 (nlt_e rfl) rfl ?_
            obtain ⟨z_29, ez_29⟩ : ∃ y : Int32, u_5 + Int32.ofInt 1 = y := ⟨_, rfl⟩
            refine k_iinc z_29 [(6, .int z_29), (5, .int r_15), (7, .int r_15), (4, .int r_1), (0, .ref h0), (1, .ref mn), (2, .int p0), (3, .int p1)] 2 X dX7_believedBy_k3.2.2.1.1 rfl ez_29 (nlt_e rfl) rfl ?_
            refine k_goto 22 X dX7_believedBy_k3.2.2.1.2 (jp_e rfl) ?_
            refine k_lv [(6, .int z_29), (5, .int r_15), (4, .int r_1), (0, .ref h0), (1, .ref mn), (2, .int p0), (3, .int p1)] [0, 1, 3, 4, 5, 6, 7] rfl ?_
            refine k_sub [(cO7_rrvvii h0 xr xm v2h0 v3h0 xmd xtr), (cO8_iiri xm 12 3 xmc xmn), (cAI g xmc 36 xmf), (cO8_iiri mn 4 3 mnc mnn), (cAI g mnc 12 mnf), (cO8_iiri xr 8 3 xrc xrn), (cAI g xrc 24 xrf)] [0, 5, 6, 1, 2, 3, 4] rfl (by decide) rfl ?_
            exact ih_9 _ (by rw [← hm_8]; exact mu_lt (by assumption) (by assumption)) z_29 r_15 rfl 
          · skip
            refine k_iload X dX7_believedBy_k2.2.1.2.2 3 rfl ?_
            refine k_iconst (v := 3) X dX7_believedBy_k2.2.2.1.1 ic_3 ?_
            refine k_ic_ne 115 X dX7_believedBy_k2.2.2.1.2 (jp_e rfl) (fun h_30 => ?_) (fun h_30 => ?_)
            · skip
              obtain ⟨z_31, ez_31⟩ : ∃ y : Int32, u_5 + Int32.ofInt 1 = y := ⟨_, rfl⟩
              refine k_iinc z_31 [(6, .int z_31), (7, .int r_15), (5, .int u_6), (4, .int r_1), (0, .ref h0), (1, .ref mn), (2, .int p0), (3, .int p1)] 1 X dX7_believedBy_k3.2.2.1.1 rfl ez_31 (nlt_e rfl) rfl ?_
              refine k_goto 22 X dX7_believedBy_k3.2.2.1.2 (jp_e rfl) ?_
              refine k_lv [(6, .int z_31), (5, .int u_6), (4, .int r_1), (0, .ref h0), (1, .ref mn), (2, .int p0), (3, .int p1)] [0, 2, 3, 4, 5, 6, 7] rfl ?_
              refine k_sub [(cO7_rrvvii h0 xr xm v2h0 v3h0 xmd xtr), (cO8_iiri xm 12 3 xmc xmn), (cAI g xmc 36 xmf), (cO8_iiri mn 4 3 mnc mnn), (cAI g mnc 12 mnf), (cO8_iiri xr 8 3 xrc xrn), (cAI g xrc 24 xrf)] [0, 5, 6, 1, 2, 3, 4] rfl (by decide) rfl ?_
              exact ih_9 _ (by rw [← hm_8]; exact mu_lt (by assumption) (by assumption)) z_31 u_6 rfl 
            · skip
              refine k_aload_n X dX7_believedBy_k2.2.2.2.1 4 rfl ?_
              refine k_get (ci := 7) X inlX7 rfl 1 (nlt_e rfl) dX7_believedBy_k2.2.2.2.2 mw91 0 rfl rfl ?_
              refine k_iload X dX7_believedBy_k3.1.1.1 1 rfl ?_
              refine k_iconst (v := 2) X dX7_believedBy_k3.1.1.2.1 ic_2 ?_
              refine k_callVI (n := 2) (As := [.int u_5, .int 2]) (st := []) X [(cO8_iiri xm 12 3 xmc xmn), (cAI g xmc 36 xmf)] [(cO7_rrvvii h0 xr xm v2h0 v3h0 xmd xtr), (cO8_iiri mn 4 3 mnc mnn), (cAI g mnc 12 mnf), (cO8_iiri xr 8 3 xrc xrn), (cAI g xrc 24 xrf)] [5, 6] [0, 1, 2, 3, 4] (t_at l g xm u_5 2 12 3 xmc xmn 36 xmf (tbk_12_3)) dX7_believedBy_k3.1.1.2.2 mw388 mw376 mw377 mw64 mw378 rfl 8 rfl rfl 0 _ rfl yk_yX8_at_2 rfl (Nat.le_of_ble_eq_true rfl) (Nat.le_of_ble_eq_true rfl) (Nat.le_of_ble_eq_true rfl) (Nat.le_of_ble_eq_true rfl) (Nat.le_of_ble_eq_true rfl) rfl rfl (vnd_e rfl) rfl (vnd_e rfl) (dsj_e rfl) ?_
              rintro r_32 w ⟨hr_33, rfl⟩
              refine k_ws [(cO7_rrvvii h0 xr xm v2h0 v3h0 xmd xtr), (cO8_iiri mn 4 3 mnc mnn), (cAI g mnc 12 mnf), (cO8_iiri xr 8 3 xrc xrn), (cAI g xrc 24 xrf), (cO8_iiri xm 12 3 xmc xmn), (cAI g xmc 36 xmf)] rfl ?_
              refine k_aload_n X dX7_believedBy_k3.1.2.1.1 5 rfl ?_
              refine k_iload_n X dX7_believedBy_k3.1.2.1.2 6 rfl ?_
              refine k_iconst (v := 1) X dX7_believedBy_k3.1.2.2.1 ic_1 ?_
              refine k_callVI (n := 2) (As := [.int p0, .int 1]) (st := [.int r_32]) X [(cO8_iiri mn 4 3 mnc mnn), (cAI g mnc 12 mnf)] [(cO7_rrvvii h0 xr xm v2h0 v3h0 xmd xtr), (cO8_iiri xr 8 3 xrc xrn), (cAI g xrc 24 xrf), (cO8_iiri xm 12 3 xmc xmn), (cAI g xmc 36 xmf)] [1, 2] [0, 3, 4, 5, 6] (t_at l g mn p0 1 4 3 mnc mnn 12 mnf (tbk_4_3)) dX7_believedBy_k3.1.2.2.2 mw388 mw376 mw377 mw64 mw378 rfl 8 rfl rfl 0 _ rfl yk_yX8_at_2 rfl (Nat.le_of_ble_eq_true rfl) (Nat.le_of_ble_eq_true rfl) (Nat.le_of_ble_eq_true rfl) (Nat.le_of_ble_eq_true rfl) (Nat.le_of_ble_eq_true rfl) rfl rfl (vnd_e rfl) rfl (vnd_e rfl) (dsj_e rfl) ?_
              rintro r_34 w ⟨hr_35, rfl⟩
              refine k_ws [(cO7_rrvvii h0 xr xm v2h0 v3h0 xmd xtr), (cO8_iiri xr 8 3 xrc xrn), (cAI g xrc 24 xrf), (cO8_iiri xm 12 3 xmc xmn), (cAI g xmc 36 xmf), (cO8_iiri mn 4 3 mnc mnn), (cAI g mnc 12 mnf)] rfl ?_
              refine k_ic_ne 115 X dX7_believedBy_k3.2.1.1 (jp_e rfl) (fun h_36 => ?_) (fun h_36 => ?_)
              · skip
                obtain ⟨z_37, ez_37⟩ : ∃ y : Int32, u_5 + Int32.ofInt 1 = y := ⟨_, rfl⟩
                refine k_iinc z_37 [(6, .int z_37), (7, .int r_15), (5, .int u_6), (4, .int r_1), (0, .ref h0), (1, .ref mn), (2, .int p0), (3, .int p1)] 1 X dX7_believedBy_k3.2.2.1.1 rfl ez_37 (nlt_e rfl) rfl ?_
                refine k_goto 22 X dX7_believedBy_k3.2.2.1.2 (jp_e rfl) ?_
                refine k_lv [(6, .int z_37), (5, .int u_6), (4, .int r_1), (0, .ref h0), (1, .ref mn), (2, .int p0), (3, .int p1)] [0, 2, 3, 4, 5, 6, 7] rfl ?_
                refine k_sub [(cO7_rrvvii h0 xr xm v2h0 v3h0 xmd xtr), (cO8_iiri xm 12 3 xmc xmn), (cAI g xmc 36 xmf), (cO8_iiri mn 4 3 mnc mnn), (cAI g mnc 12 mnf), (cO8_iiri xr 8 3 xrc xrn), (cAI g xrc 24 xrf)] [0, 3, 4, 5, 6, 1, 2] rfl (by decide) rfl ?_
                exact ih_9 _ (by rw [← hm_8]; exact mu_lt (by assumption) (by assumption)) z_37 u_6 rfl 
              · skip
                refine k_iload X dX7_believedBy_k3.2.1.2.1 0 rfl ?_
                refine k_istore [(5, .int r_15), (7, .int r_15), (6, .int u_5), (4, .int r_1), (0, .ref h0), (1, .ref mn), (2, .int p0), (3, .int p1)] X dX7_believedBy_k3.2.1.2.2 (nlt_e rfl) rfl ?_
                obtain ⟨z_38, ez_38⟩ : ∃ y : Int32, u_5 + Int32.ofInt 1 = y := ⟨_, rfl⟩
                refine k_iinc z_38 [(6, .int z_38), (5, .int r_15), (7, .int r_15), (4, .int r_1), (0, .ref h0), (1, .ref mn), (2, .int p0), (3, .int p1)] 2 X dX7_believedBy_k3.2.2.1.1 rfl ez_38 (nlt_e rfl) rfl ?_
                refine k_goto 22 X dX7_believedBy_k3.2.2.1.2 (jp_e rfl) ?_
                refine k_lv [(6, .int z_38), (5, .int r_15), (4, .int r_1), (0, .ref h0), (1, .ref mn), (2, .int p0), (3, .int p1)] [0, 1, 3, 4, 5, 6, 7] rfl ?_
                refine k_sub [(cO7_rrvvii h0 xr xm v2h0 v3h0 xmd xtr), (cO8_iiri xm 12 3 xmc xmn), (cAI g xmc 36 xmf), (cO8_iiri mn 4 3 mnc mnn), (cAI g mnc 12 mnf), (cO8_iiri xr 8 3 xrc xrn), (cAI g xrc 24 xrf)] [0, 3, 4, 5, 6, 1, 2] rfl (by decide) rfl ?_
                exact ih_9 _ (by rw [← hm_8]; exact mu_lt (by assumption) (by assumption)) z_38 r_15 rfl 
      · skip
        refine k_iload X dX7_believedBy_k2.1.1.2.1 0 rfl ?_
        refine k_iload X dX7_believedBy_k2.1.1.2.2 2 rfl ?_
        refine k_ic_lt 111 X dX7_believedBy_k2.1.2.1.1 (jp_e rfl) (fun h_39 => ?_) (fun h_39 => ?_)
        · skip
          refine k_iload X dX7_believedBy_k3.2.1.2.1 0 rfl ?_
          refine k_istore [(5, .int r_15), (7, .int r_15), (6, .int u_5), (4, .int r_1), (0, .ref h0), (1, .ref mn), (2, .int p0), (3, .int p1)] X dX7_believedBy_k3.2.1.2.2 (nlt_e rfl) rfl ?_
          obtain ⟨z_40, ez_40⟩ : ∃ y : Int32, u_5 + Int32.ofInt 1 = y := ⟨_, rfl⟩
          refine k_iinc z_40 [(6, .int z_40), (5, .int r_15), (7, .int r_15), (4, .int r_1), (0, .ref h0), (1, .ref mn), (2, .int p0), (3, .int p1)] 2 X dX7_believedBy_k3.2.2.1.1 rfl ez_40 (nlt_e rfl) rfl ?_
          refine k_goto 22 X dX7_believedBy_k3.2.2.1.2 (jp_e rfl) ?_
          refine k_lv [(6, .int z_40), (5, .int r_15), (4, .int r_1), (0, .ref h0), (1, .ref mn), (2, .int p0), (3, .int p1)] [0, 1, 3, 4, 5, 6, 7] rfl ?_
          refine k_sub [(cO7_rrvvii h0 xr xm v2h0 v3h0 xmd xtr), (cO8_iiri xm 12 3 xmc xmn), (cAI g xmc 36 xmf), (cO8_iiri mn 4 3 mnc mnn), (cAI g mnc 12 mnf), (cO8_iiri xr 8 3 xrc xrn), (cAI g xrc 24 xrf)] [0, 5, 6, 1, 2, 3, 4] rfl (by decide) rfl ?_
          exact ih_9 _ (by rw [← hm_8]; exact mu_lt (by assumption) (by assumption)) z_40 r_15 rfl 
        · skip
          refine k_iload X dX7_believedBy_k2.1.2.1.2 3 rfl ?_
          refine k_iconst (v := 2) X dX7_believedBy_k2.1.2.2.1 ic_2 ?_
          refine k_ic_ne 86 X dX7_believedBy_k2.1.2.2.2 (jp_e rfl) (fun h_41 => ?_) (fun h_41 => ?_)
          · skip
            refine k_iload X dX7_believedBy_k2.2.1.2.2 3 rfl ?_
            refine k_iconst (v := 3) X dX7_believedBy_k2.2.2.1.1 ic_3 ?_
            refine k_ic_ne 115 X dX7_believedBy_k2.2.2.1.2 (jp_e rfl) (fun h_42 => ?_) (fun h_42 => ?_)
            · skip
              obtain ⟨z_43, ez_43⟩ : ∃ y : Int32, u_5 + Int32.ofInt 1 = y := ⟨_, rfl⟩
              refine k_iinc z_43 [(6, .int z_43), (7, .int r_15), (5, .int u_6), (4, .int r_1), (0, .ref h0), (1, .ref mn), (2, .int p0), (3, .int p1)] 1 X dX7_believedBy_k3.2.2.1.1 rfl ez_43 (nlt_e rfl) rfl ?_
              refine k_goto 22 X dX7_believedBy_k3.2.2.1.2 (jp_e rfl) ?_
              refine k_lv [(6, .int z_43), (5, .int u_6), (4, .int r_1), (0, .ref h0), (1, .ref mn), (2, .int p0), (3, .int p1)] [0, 2, 3, 4, 5, 6, 7] rfl ?_
              refine k_sub [(cO7_rrvvii h0 xr xm v2h0 v3h0 xmd xtr), (cO8_iiri xm 12 3 xmc xmn), (cAI g xmc 36 xmf), (cO8_iiri mn 4 3 mnc mnn), (cAI g mnc 12 mnf), (cO8_iiri xr 8 3 xrc xrn), (cAI g xrc 24 xrf)] [0, 5, 6, 1, 2, 3, 4] rfl (by decide) rfl ?_
              exact ih_9 _ (by rw [← hm_8]; exact mu_lt (by assumption) (by assumption)) z_43 u_6 rfl 
            · skip
              refine k_aload_n X dX7_believedBy_k2.2.2.2.1 4 rfl ?_
              refine k_get (ci := 7) X inlX7 rfl 1 (nlt_e rfl) dX7_believedBy_k2.2.2.2.2 mw91 0 rfl rfl ?_
              refine k_iload X dX7_believedBy_k3.1.1.1 1 rfl ?_
              refine k_iconst (v := 2) X dX7_believedBy_k3.1.1.2.1 ic_2 ?_
              refine k_callVI (n := 2) (As := [.int u_5, .int 2]) (st := []) X [(cO8_iiri xm 12 3 xmc xmn), (cAI g xmc 36 xmf)] [(cO7_rrvvii h0 xr xm v2h0 v3h0 xmd xtr), (cO8_iiri mn 4 3 mnc mnn), (cAI g mnc 12 mnf), (cO8_iiri xr 8 3 xrc xrn), (cAI g xrc 24 xrf)] [5, 6] [0, 1, 2, 3, 4] (t_at l g xm u_5 2 12 3 xmc xmn 36 xmf (tbk_12_3)) dX7_believedBy_k3.1.1.2.2 mw388 mw376 mw377 mw64 mw378 rfl 8 rfl rfl 0 _ rfl yk_yX8_at_2 rfl (Nat.le_of_ble_eq_true rfl) (Nat.le_of_ble_eq_true rfl) (Nat.le_of_ble_eq_true rfl) (Nat.le_of_ble_eq_true rfl) (Nat.le_of_ble_eq_true rfl) rfl rfl (vnd_e rfl) rfl (vnd_e rfl) (dsj_e rfl) ?_
              rintro r_44 w ⟨hr_45, rfl⟩
              refine k_ws [(cO7_rrvvii h0 xr xm v2h0 v3h0 xmd xtr), (cO8_iiri mn 4 3 mnc mnn), (cAI g mnc 12 mnf), (cO8_iiri xr 8 3 xrc xrn), (cAI g xrc 24 xrf), (cO8_iiri xm 12 3 xmc xmn), (cAI g xmc 36 xmf)] rfl ?_
              refine k_aload_n X dX7_believedBy_k3.1.2.1.1 5 rfl ?_
              refine k_iload_n X dX7_believedBy_k3.1.2.1.2 6 rfl ?_
              refine k_iconst (v := 1) X dX7_believedBy_k3.1.2.2.1 ic_1 ?_
              refine k_callVI (n := 2) (As := [.int p0, .int 1]) (st := [.int r_44]) X [(cO8_iiri mn 4 3 mnc mnn), (cAI g mnc 12 mnf)] [(cO7_rrvvii h0 xr xm v2h0 v3h0 xmd xtr), (cO8_iiri xr 8 3 xrc xrn), (cAI g xrc 24 xrf), (cO8_iiri xm 12 3 xmc xmn), (cAI g xmc 36 xmf)] [1, 2] [0, 3, 4, 5, 6] (t_at l g mn p0 1 4 3 mnc mnn 12 mnf (tbk_4_3)) dX7_believedBy_k3.1.2.2.2 mw388 mw376 mw377 mw64 mw378 rfl 8 rfl rfl 0 _ rfl yk_yX8_at_2 rfl (Nat.le_of_ble_eq_true rfl) (Nat.le_of_ble_eq_true rfl) (Nat.le_of_ble_eq_true rfl) (Nat.le_of_ble_eq_true rfl) (Nat.le_of_ble_eq_true rfl) rfl rfl (vnd_e rfl) rfl (vnd_e rfl) (dsj_e rfl) ?_
              rintro r_46 w ⟨hr_47, rfl⟩
              refine k_ws [(cO7_rrvvii h0 xr xm v2h0 v3h0 xmd xtr), (cO8_iiri xr 8 3 xrc xrn), (cAI g xrc 24 xrf), (cO8_iiri xm 12 3 xmc xmn), (cAI g xmc 36 xmf), (cO8_iiri mn 4 3 mnc mnn), (cAI g mnc 12 mnf)] rfl ?_
              refine k_ic_ne 115 X dX7_believedBy_k3.2.1.1 (jp_e rfl) (fun h_48 => ?_) (fun h_48 => ?_)
              · skip
                obtain ⟨z_49, ez_49⟩ : ∃ y : Int32, u_5 + Int32.ofInt 1 = y := ⟨_, rfl⟩
                refine k_iinc z_49 [(6, .int z_49), (7, .int r_15), (5, .int u_6), (4, .int r_1), (0, .ref h0), (1, .ref mn), (2, .int p0), (3, .int p1)] 1 X dX7_believedBy_k3.2.2.1.1 rfl ez_49 (nlt_e rfl) rfl ?_
                refine k_goto 22 X dX7_believedBy_k3.2.2.1.2 (jp_e rfl) ?_
                refine k_lv [(6, .int z_49), (5, .int u_6), (4, .int r_1), (0, .ref h0), (1, .ref mn), (2, .int p0), (3, .int p1)] [0, 2, 3, 4, 5, 6, 7] rfl ?_
                refine k_sub [(cO7_rrvvii h0 xr xm v2h0 v3h0 xmd xtr), (cO8_iiri xm 12 3 xmc xmn), (cAI g xmc 36 xmf), (cO8_iiri mn 4 3 mnc mnn), (cAI g mnc 12 mnf), (cO8_iiri xr 8 3 xrc xrn), (cAI g xrc 24 xrf)] [0, 3, 4, 5, 6, 1, 2] rfl (by decide) rfl ?_
                exact ih_9 _ (by rw [← hm_8]; exact mu_lt (by assumption) (by assumption)) z_49 u_6 rfl 
              · skip
                refine k_iload X dX7_believedBy_k3.2.1.2.1 0 rfl ?_
                refine k_istore [(5, .int r_15), (7, .int r_15), (6, .int u_5), (4, .int r_1), (0, .ref h0), (1, .ref mn), (2, .int p0), (3, .int p1)] X dX7_believedBy_k3.2.1.2.2 (nlt_e rfl) rfl ?_
                obtain ⟨z_50, ez_50⟩ : ∃ y : Int32, u_5 + Int32.ofInt 1 = y := ⟨_, rfl⟩
                refine k_iinc z_50 [(6, .int z_50), (5, .int r_15), (7, .int r_15), (4, .int r_1), (0, .ref h0), (1, .ref mn), (2, .int p0), (3, .int p1)] 2 X dX7_believedBy_k3.2.2.1.1 rfl ez_50 (nlt_e rfl) rfl ?_
                refine k_goto 22 X dX7_believedBy_k3.2.2.1.2 (jp_e rfl) ?_
                refine k_lv [(6, .int z_50), (5, .int r_15), (4, .int r_1), (0, .ref h0), (1, .ref mn), (2, .int p0), (3, .int p1)] [0, 1, 3, 4, 5, 6, 7] rfl ?_
                refine k_sub [(cO7_rrvvii h0 xr xm v2h0 v3h0 xmd xtr), (cO8_iiri xm 12 3 xmc xmn), (cAI g xmc 36 xmf), (cO8_iiri mn 4 3 mnc mnn), (cAI g mnc 12 mnf), (cO8_iiri xr 8 3 xrc xrn), (cAI g xrc 24 xrf)] [0, 3, 4, 5, 6, 1, 2] rfl (by decide) rfl ?_
                exact ih_9 _ (by rw [← hm_8]; exact mu_lt (by assumption) (by assumption)) z_50 r_15 rfl 
          · skip
            refine k_iload X dX7_believedBy_k2.2.1.1.1 0 rfl ?_
            refine k_iload X dX7_believedBy_k2.2.1.1.2 2 rfl ?_
            refine k_ic_gt 111 X dX7_believedBy_k2.2.1.2.1 (jp_e rfl) (fun h_51 => ?_) (fun h_51 => ?_)
            · skip
              refine k_iload X dX7_believedBy_k3.2.1.2.1 0 rfl ?_
              refine k_istore [(5, .int r_15), (7, .int r_15), (6, .int u_5), (4, .int r_1), (0, .ref h0), (1, .ref mn), (2, .int p0), (3, .int p1)] X dX7_believedBy_k3.2.1.2.2 (nlt_e rfl) rfl ?_
              obtain ⟨z_52, ez_52⟩ : ∃ y : Int32, u_5 + Int32.ofInt 1 = y := ⟨_, rfl⟩
              refine k_iinc z_52 [(6, .int z_52), (5, .int r_15), (7, .int r_15), (4, .int r_1), (0, .ref h0), (1, .ref mn), (2, .int p0), (3, .int p1)] 2 X dX7_believedBy_k3.2.2.1.1 rfl ez_52 (nlt_e rfl) rfl ?_
              refine k_goto 22 X dX7_believedBy_k3.2.2.1.2 (jp_e rfl) ?_
              refine k_lv [(6, .int z_52), (5, .int r_15), (4, .int r_1), (0, .ref h0), (1, .ref mn), (2, .int p0), (3, .int p1)] [0, 1, 3, 4, 5, 6, 7] rfl ?_
              refine k_sub [(cO7_rrvvii h0 xr xm v2h0 v3h0 xmd xtr), (cO8_iiri xm 12 3 xmc xmn), (cAI g xmc 36 xmf), (cO8_iiri mn 4 3 mnc mnn), (cAI g mnc 12 mnf), (cO8_iiri xr 8 3 xrc xrn), (cAI g xrc 24 xrf)] [0, 5, 6, 1, 2, 3, 4] rfl (by decide) rfl ?_
              exact ih_9 _ (by rw [← hm_8]; exact mu_lt (by assumption) (by assumption)) z_52 r_15 rfl 
            · skip
              refine k_iload X dX7_believedBy_k2.2.1.2.2 3 rfl ?_
              refine k_iconst (v := 3) X dX7_believedBy_k2.2.2.1.1 ic_3 ?_
              refine k_ic_ne 115 X dX7_believedBy_k2.2.2.1.2 (jp_e rfl) (fun h_53 => ?_) (fun h_53 => ?_)
              · skip
                obtain ⟨z_54, ez_54⟩ : ∃ y : Int32, u_5 + Int32.ofInt 1 = y := ⟨_, rfl⟩
                refine k_iinc z_54 [(6, .int z_54), (7, .int r_15), (5, .int u_6), (4, .int r_1), (0, .ref h0), (1, .ref mn), (2, .int p0), (3, .int p1)] 1 X dX7_believedBy_k3.2.2.1.1 rfl ez_54 (nlt_e rfl) rfl ?_
                refine k_goto 22 X dX7_believedBy_k3.2.2.1.2 (jp_e rfl) ?_
                refine k_lv [(6, .int z_54), (5, .int u_6), (4, .int r_1), (0, .ref h0), (1, .ref mn), (2, .int p0), (3, .int p1)] [0, 2, 3, 4, 5, 6, 7] rfl ?_
                refine k_sub [(cO7_rrvvii h0 xr xm v2h0 v3h0 xmd xtr), (cO8_iiri xm 12 3 xmc xmn), (cAI g xmc 36 xmf), (cO8_iiri mn 4 3 mnc mnn), (cAI g mnc 12 mnf), (cO8_iiri xr 8 3 xrc xrn), (cAI g xrc 24 xrf)] [0, 5, 6, 1, 2, 3, 4] rfl (by decide) rfl ?_
                exact ih_9 _ (by rw [← hm_8]; exact mu_lt (by assumption) (by assumption)) z_54 u_6 rfl 
              · skip
                refine k_aload_n X dX7_believedBy_k2.2.2.2.1 4 rfl ?_
                refine k_get (ci := 7) X inlX7 rfl 1 (nlt_e rfl) dX7_believedBy_k2.2.2.2.2 mw91 0 rfl rfl ?_
                refine k_iload X dX7_believedBy_k3.1.1.1 1 rfl ?_
                refine k_iconst (v := 2) X dX7_believedBy_k3.1.1.2.1 ic_2 ?_
                refine k_callVI (n := 2) (As := [.int u_5, .int 2]) (st := []) X [(cO8_iiri xm 12 3 xmc xmn), (cAI g xmc 36 xmf)] [(cO7_rrvvii h0 xr xm v2h0 v3h0 xmd xtr), (cO8_iiri mn 4 3 mnc mnn), (cAI g mnc 12 mnf), (cO8_iiri xr 8 3 xrc xrn), (cAI g xrc 24 xrf)] [5, 6] [0, 1, 2, 3, 4] (t_at l g xm u_5 2 12 3 xmc xmn 36 xmf (tbk_12_3)) dX7_believedBy_k3.1.1.2.2 mw388 mw376 mw377 mw64 mw378 rfl 8 rfl rfl 0 _ rfl yk_yX8_at_2 rfl (Nat.le_of_ble_eq_true rfl) (Nat.le_of_ble_eq_true rfl) (Nat.le_of_ble_eq_true rfl) (Nat.le_of_ble_eq_true rfl) (Nat.le_of_ble_eq_true rfl) rfl rfl (vnd_e rfl) rfl (vnd_e rfl) (dsj_e rfl) ?_
                rintro r_55 w ⟨hr_56, rfl⟩
                refine k_ws [(cO7_rrvvii h0 xr xm v2h0 v3h0 xmd xtr), (cO8_iiri mn 4 3 mnc mnn), (cAI g mnc 12 mnf), (cO8_iiri xr 8 3 xrc xrn), (cAI g xrc 24 xrf), (cO8_iiri xm 12 3 xmc xmn), (cAI g xmc 36 xmf)] rfl ?_
                refine k_aload_n X dX7_believedBy_k3.1.2.1.1 5 rfl ?_
                refine k_iload_n X dX7_believedBy_k3.1.2.1.2 6 rfl ?_
                refine k_iconst (v := 1) X dX7_believedBy_k3.1.2.2.1 ic_1 ?_
                refine k_callVI (n := 2) (As := [.int p0, .int 1]) (st := [.int r_55]) X [(cO8_iiri mn 4 3 mnc mnn), (cAI g mnc 12 mnf)] [(cO7_rrvvii h0 xr xm v2h0 v3h0 xmd xtr), (cO8_iiri xr 8 3 xrc xrn), (cAI g xrc 24 xrf), (cO8_iiri xm 12 3 xmc xmn), (cAI g xmc 36 xmf)] [1, 2] [0, 3, 4, 5, 6] (t_at l g mn p0 1 4 3 mnc mnn 12 mnf (tbk_4_3)) dX7_believedBy_k3.1.2.2.2 mw388 mw376 mw377 mw64 mw378 rfl 8 rfl rfl 0 _ rfl yk_yX8_at_2 rfl (Nat.le_of_ble_eq_true rfl) (Nat.le_of_ble_eq_true rfl) (Nat.le_of_ble_eq_true rfl) (Nat.le_of_ble_eq_true rfl) (Nat.le_of_ble_eq_true rfl) rfl rfl (vnd_e rfl) rfl (vnd_e rfl) (dsj_e rfl) ?_
                rintro r_57 w ⟨hr_58, rfl⟩
                refine k_ws [(cO7_rrvvii h0 xr xm v2h0 v3h0 xmd xtr), (cO8_iiri xr 8 3 xrc xrn), (cAI g xrc 24 xrf), (cO8_iiri xm 12 3 xmc xmn), (cAI g xmc 36 xmf), (cO8_iiri mn 4 3 mnc mnn), (cAI g mnc 12 mnf)] rfl ?_
                refine k_ic_ne 115 X dX7_believedBy_k3.2.1.1 (jp_e rfl) (fun h_59 => ?_) (fun h_59 => ?_)
                · skip
                  obtain ⟨z_60, ez_60⟩ : ∃ y : Int32, u_5 + Int32.ofInt 1 = y := ⟨_, rfl⟩
                  refine k_iinc z_60 [(6, .int z_60), (7, .int r_15), (5, .int u_6), (4, .int r_1), (0, .ref h0), (1, .ref mn), (2, .int p0), (3, .int p1)] 1 X dX7_believedBy_k3.2.2.1.1 rfl ez_60 (nlt_e rfl) rfl ?_
                  refine k_goto 22 X dX7_believedBy_k3.2.2.1.2 (jp_e rfl) ?_
                  refine k_lv [(6, .int z_60), (5, .int u_6), (4, .int r_1), (0, .ref h0), (1, .ref mn), (2, .int p0), (3, .int p1)] [0, 2, 3, 4, 5, 6, 7] rfl ?_
                  refine k_sub [(cO7_rrvvii h0 xr xm v2h0 v3h0 xmd xtr), (cO8_iiri xm 12 3 xmc xmn), (cAI g xmc 36 xmf), (cO8_iiri mn 4 3 mnc mnn), (cAI g mnc 12 mnf), (cO8_iiri xr 8 3 xrc xrn), (cAI g xrc 24 xrf)] [0, 3, 4, 5, 6, 1, 2] rfl (by decide) rfl ?_
                  exact ih_9 _ (by rw [← hm_8]; exact mu_lt (by assumption) (by assumption)) z_60 u_6 rfl 
                · skip
                  refine k_iload X dX7_believedBy_k3.2.1.2.1 0 rfl ?_
                  refine k_istore [(5, .int r_15), (7, .int r_15), (6, .int u_5), (4, .int r_1), (0, .ref h0), (1, .ref mn), (2, .int p0), (3, .int p1)] X dX7_believedBy_k3.2.1.2.2 (nlt_e rfl) rfl ?_
                  obtain ⟨z_61, ez_61⟩ : ∃ y : Int32, u_5 + Int32.ofInt 1 = y := ⟨_, rfl⟩
                  refine k_iinc z_61 [(6, .int z_61), (5, .int r_15), (7, .int r_15), (4, .int r_1), (0, .ref h0), (1, .ref mn), (2, .int p0), (3, .int p1)] 2 X dX7_believedBy_k3.2.2.1.1 rfl ez_61 (nlt_e rfl) rfl ?_
                  refine k_goto 22 X dX7_believedBy_k3.2.2.1.2 (jp_e rfl) ?_
                  refine k_lv [(6, .int z_61), (5, .int r_15), (4, .int r_1), (0, .ref h0), (1, .ref mn), (2, .int p0), (3, .int p1)] [0, 1, 3, 4, 5, 6, 7] rfl ?_
                  refine k_sub [(cO7_rrvvii h0 xr xm v2h0 v3h0 xmd xtr), (cO8_iiri xm 12 3 xmc xmn), (cAI g xmc 36 xmf), (cO8_iiri mn 4 3 mnc mnn), (cAI g mnc 12 mnf), (cO8_iiri xr 8 3 xrc xrn), (cAI g xrc 24 xrf)] [0, 3, 4, 5, 6, 1, 2] rfl (by decide) rfl ?_
                  exact ih_9 _ (by rw [← hm_8]; exact mu_lt (by assumption) (by assumption)) z_61 r_15 rfl 

theorem dX7_weight_k0 : ((((dD cX7_weight 0 (.iconst 1) 1 ∧ dD cX7_weight 1 (.istore 4) 2) ∧ (dD cX7_weight 3 (.iconst 0) 1 ∧ dD cX7_weight 4 (.istore 5) 2)) ∧ ((dD cX7_weight 6 (.iload 5) 2 ∧ dD cX7_weight 8 (.aload_n 0) 1) ∧ (dD cX7_weight 9 (.getfield 20) 3 ∧ dD cX7_weight 12 (.getfield 51) 3))) ∧ (((dD cX7_weight 15 (.if_icmp .ge 74) 3 ∧ dD cX7_weight 18 (.aload_n 0) 1) ∧ (dD cX7_weight 19 (.getfield 20) 3 ∧ dD cX7_weight 22 (.iload 5) 2)) ∧ ((dD cX7_weight 24 (.iconst 0) 1 ∧ dD cX7_weight 25 (.invokevirtual 43) 3) ∧ (dD cX7_weight 28 (.iload_n 2) 1 ∧ dD cX7_weight 29 (.if_icmp .ne 54) 3)))) := dkA16 (by decide +kernel)
theorem dX7_weight_k1 : ((((dD cX7_weight 32 (.aload_n 1) 1 ∧ dD cX7_weight 33 (.aload_n 0) 1) ∧ (dD cX7_weight 34 (.getfield 20) 3 ∧ dD cX7_weight 37 (.iload 5) 2)) ∧ ((dD cX7_weight 39 (.iconst 2) 1 ∧ dD cX7_weight 40 (.invokevirtual 43) 3) ∧ (dD cX7_weight 43 (.iconst 0) 1 ∧ dD cX7_weight 44 (.invokevirtual 43) 3))) ∧ (((dD cX7_weight 47 (.istore 6) 2 ∧ dD cX7_weight 49 (.iload 4) 2) ∧ (dD cX7_weight 51 (.aload_n 0) 1 ∧ dD cX7_weight 52 (.getfield 20) 3)) ∧ ((dD cX7_weight 55 (.iload 5) 2 ∧ dD cX7_weight 57 (.iconst 1) 1) ∧ (dD cX7_weight 58 (.invokevirtual 43) 3 ∧ dD cX7_weight 61 (.iload_n 3) 1)))) := dkA16 (by decide +kernel)
theorem dX7_weight_k2 : (((dD cX7_weight 62 .isub 1 ∧ (dD cX7_weight 63 (.invokestatic 61) 3 ∧ dD cX7_weight 66 (.iconst 2) 1)) ∧ ((dD cX7_weight 67 (.if_icmp .gt 8) 3 ∧ dD cX7_weight 70 (.iload 6) 2) ∧ (dD cX7_weight 72 (.goto 8) 3 ∧ dD cX7_weight 75 (.bipush 10) 2))) ∧ (((dD cX7_weight 77 (.iload 6) 2 ∧ dD cX7_weight 79 .isub 1) ∧ (dD cX7_weight 80 .imul 1 ∧ dD cX7_weight 81 (.istore 4) 2)) ∧ ((dD cX7_weight 83 (.iinc 5 1) 3 ∧ dD cX7_weight 86 (.goto (-80)) 3) ∧ (dD cX7_weight 89 (.iload 4) 2 ∧ dD cX7_weight 91 .ireturn 1)))) := dkA15 (by decide +kernel)
set_option maxHeartbeats 4000000 in
set_option maxRecDepth 100000 in
theorem s_weight (l : Launch) (g : Gx) (h0 : Nat) (tw : Nat) (p0 : Int32) (p1 : Int32) (v0h0 : Value) (xm : Nat) (v2h0 : Value) (v3h0 : Value) (xmd : Int32) (xtr : Int32) (xmc : Nat) (xmn : Int32) (xmf : Nat → Int32) (twc : Nat) (twn : Int32) (twf : Nat → Int32) : cI l g yX7_weight cX7_weight 7 (some .int) 1 22 0 0 [.ref h0, .ref tw, .int p0, .int p1] [(cO7_vrvvii h0 v0h0 xm v2h0 v3h0 xmd xtr), (cO8_iiri xm 12 3 xmc xmn), (cAI g xmc 36 xmf), (cO8_iiri tw 4 1 twc twn), (cAI g twc 4 twf)] (fun r w => w = [(cO7_vrvvii h0 v0h0 xm v2h0 v3h0 xmd xtr), (cO8_iiri xm 12 3 xmc xmn), (cAI g xmc 36 xmf), (cO8_iiri tw 4 1 twc twn), (cAI g twc 4 twf)]) := by
  refine cI.of (by decide) (Nat.le_of_ble_eq_true rfl) ?_
  intro p e s m args below meth c A X hr hi
  refine k_lveq [(0, .ref h0), (1, .ref tw), (2, .int p0), (3, .int p1)] rfl ?_
  refine k_iconst (v := 1) X dX7_weight_k0.1.1.1.1 ic_1 ?_
  refine k_istore [(4, .int 1), (0, .ref h0), (1, .ref tw), (2, .int p0), (3, .int p1)] X dX7_weight_k0.1.1.1.2 (nlt_e rfl) rfl ?_
  refine k_iconst (v := 0) X dX7_weight_k0.1.1.2.1 ic_0 ?_
  refine k_istore [(5, .int 0), (4, .int 1), (0, .ref h0), (1, .ref tw), (2, .int p0), (3, .int p1)] X dX7_weight_k0.1.1.2.2 (nlt_e rfl) rfl ?_
  refine (fun hL : ∀ (nn_3 : Nat) (u_1 : Int32) (u_2 : Int32), (xmn.toInt - u_1.toInt).toNat = nn_3 → Wk p l e _ s m args below meth c _ A g _ _ _ [(cO7_vrvvii h0 v0h0 xm v2h0 v3h0 xmd xtr), (cO8_iiri xm 12 3 xmc xmn), (cAI g xmc 36 xmf), (cO8_iiri tw 4 1 twc twn), (cAI g twc 4 twf)] [(5, .int u_1), (4, .int u_2), (0, .ref h0), (1, .ref tw), (2, .int p0), (3, .int p1)] 6 [] => hL _ 0 1 rfl ) ?_
  refine fun nn_3 => Nat.strongRecOn nn_3 (fun nn_3 ih_5 => ?_)
  intro u_1 u_2 hm_4 
  refine k_iload X dX7_weight_k0.1.2.1.1 0 rfl ?_
  refine k_aload_n X dX7_weight_k0.1.2.1.2 2 rfl ?_
  refine k_get (ci := 7) X inlX7 rfl 1 (nlt_e rfl) dX7_weight_k0.1.2.2.1 mw91 0 rfl rfl ?_
  refine k_get (ci := 8) X inlX8 rfl 3 (nlt_e rfl) dX7_weight_k0.1.2.2.2 mw387 1 rfl rfl ?_
  refine k_ic_ge 89 X dX7_weight_k0.2.1.1.1 (jp_e rfl) (fun h_6 => ?_) (fun h_6 => ?_)
  · skip
    refine k_iload X dX7_weight_k2.2.2.2.1 1 rfl ?_
    exact k_iret X hr dX7_weight_k2.2.2.2.2 (Nat.le_of_ble_eq_true rfl) (Nat.le_of_ble_eq_true rfl) [0, 1, 2, 3, 4] (vnd_e rfl) rfl rfl rfl
  · skip
    refine k_aload_n X dX7_weight_k0.2.1.1.2 2 rfl ?_
    refine k_get (ci := 7) X inlX7 rfl 1 (nlt_e rfl) dX7_weight_k0.2.1.2.1 mw91 0 rfl rfl ?_
    refine k_iload X dX7_weight_k0.2.1.2.2 0 rfl ?_
    refine k_iconst (v := 0) X dX7_weight_k0.2.2.1.1 ic_0 ?_
    refine k_callVI (n := 2) (As := [.int u_1, .int 0]) (st := []) X [(cO8_iiri xm 12 3 xmc xmn), (cAI g xmc 36 xmf)] [(cO7_vrvvii h0 v0h0 xm v2h0 v3h0 xmd xtr), (cO8_iiri tw 4 1 twc twn), (cAI g twc 4 twf)] [1, 2] [0, 3, 4] (t_at l g xm u_1 0 12 3 xmc xmn 36 xmf (tbk_12_3)) dX7_weight_k0.2.2.1.2 mw388 mw376 mw377 mw64 mw378 rfl 8 rfl rfl 0 _ rfl yk_yX8_at_2 rfl (Nat.le_of_ble_eq_true rfl) (Nat.le_of_ble_eq_true rfl) (Nat.le_of_ble_eq_true rfl) (Nat.le_of_ble_eq_true rfl) (Nat.le_of_ble_eq_true rfl) rfl rfl (vnd_e rfl) rfl (vnd_e rfl) (dsj_e rfl) ?_
    rintro r_7 w ⟨hr_8, rfl⟩
    refine k_ws [(cO7_vrvvii h0 v0h0 xm v2h0 v3h0 xmd xtr), (cO8_iiri tw 4 1 twc twn), (cAI g twc 4 twf), (cO8_iiri xm 12 3 xmc xmn), (cAI g xmc 36 xmf)] rfl ?_
    refine k_iload_n X dX7_weight_k0.2.2.2.1 4 rfl ?_
    refine k_ic_ne 83 X dX7_weight_k0.2.2.2.2 (jp_e rfl) (fun h_9 => ?_) (fun h_9 => ?_)
    · skip
      obtain ⟨z_10, ez_10⟩ : ∃ y : Int32, u_1 + Int32.ofInt 1 = y := ⟨_, rfl⟩
      refine k_iinc z_10 [(5, .int z_10), (4, .int u_2), (0, .ref h0), (1, .ref tw), (2, .int p0), (3, .int p1)] 0 X dX7_weight_k2.2.2.1.1 rfl ez_10 (nlt_e rfl) rfl ?_
      refine k_goto 6 X dX7_weight_k2.2.2.1.2 (jp_e rfl) ?_
      refine k_sub [(cO7_vrvvii h0 v0h0 xm v2h0 v3h0 xmd xtr), (cO8_iiri xm 12 3 xmc xmn), (cAI g xmc 36 xmf), (cO8_iiri tw 4 1 twc twn), (cAI g twc 4 twf)] [0, 3, 4, 1, 2] rfl (by decide) rfl ?_
      exact ih_5 _ (by rw [← hm_4]; exact mu_lt (by assumption) (by assumption)) z_10 u_2 rfl 
    · skip
      refine k_aload_n X dX7_weight_k1.1.1.1.1 3 rfl ?_
      refine k_aload_n X dX7_weight_k1.1.1.1.2 2 rfl ?_
      refine k_get (ci := 7) X inlX7 rfl 1 (nlt_e rfl) dX7_weight_k1.1.1.2.1 mw91 0 rfl rfl ?_
      refine k_iload X dX7_weight_k1.1.1.2.2 0 rfl ?_
      refine k_iconst (v := 2) X dX7_weight_k1.1.2.1.1 ic_2 ?_
      refine k_callVI (n := 2) (As := [.int u_1, .int 2]) (st := [.ref tw]) X [(cO8_iiri xm 12 3 xmc xmn), (cAI g xmc 36 xmf)] [(cO7_vrvvii h0 v0h0 xm v2h0 v3h0 xmd xtr), (cO8_iiri tw 4 1 twc twn), (cAI g twc 4 twf)] [3, 4] [0, 1, 2] (t_at l g xm u_1 2 12 3 xmc xmn 36 xmf (tbk_12_3)) dX7_weight_k1.1.2.1.2 mw388 mw376 mw377 mw64 mw378 rfl 8 rfl rfl 0 _ rfl yk_yX8_at_2 rfl (Nat.le_of_ble_eq_true rfl) (Nat.le_of_ble_eq_true rfl) (Nat.le_of_ble_eq_true rfl) (Nat.le_of_ble_eq_true rfl) (Nat.le_of_ble_eq_true rfl) rfl rfl (vnd_e rfl) rfl (vnd_e rfl) (dsj_e rfl) ?_
      rintro r_11 w ⟨hr_12, rfl⟩
      refine k_ws [(cO7_vrvvii h0 v0h0 xm v2h0 v3h0 xmd xtr), (cO8_iiri tw 4 1 twc twn), (cAI g twc 4 twf), (cO8_iiri xm 12 3 xmc xmn), (cAI g xmc 36 xmf)] rfl ?_
      refine k_iconst (v := 0) X dX7_weight_k1.1.2.2.1 ic_0 ?_
      refine k_callVI (n := 2) (As := [.int r_11, .int 0]) (st := []) X [(cO8_iiri tw 4 1 twc twn), (cAI g twc 4 twf)] [(cO7_vrvvii h0 v0h0 xm v2h0 v3h0 xmd xtr), (cO8_iiri xm 12 3 xmc xmn), (cAI g xmc 36 xmf)] [1, 2] [0, 3, 4] (t_at l g tw r_11 0 4 1 twc twn 4 twf (tbk_4_1)) dX7_weight_k1.1.2.2.2 mw388 mw376 mw377 mw64 mw378 rfl 8 rfl rfl 0 _ rfl yk_yX8_at_2 rfl (Nat.le_of_ble_eq_true rfl) (Nat.le_of_ble_eq_true rfl) (Nat.le_of_ble_eq_true rfl) (Nat.le_of_ble_eq_true rfl) (Nat.le_of_ble_eq_true rfl) rfl rfl (vnd_e rfl) rfl (vnd_e rfl) (dsj_e rfl) ?_
      rintro r_13 w ⟨hr_14, rfl⟩
      refine k_ws [(cO7_vrvvii h0 v0h0 xm v2h0 v3h0 xmd xtr), (cO8_iiri xm 12 3 xmc xmn), (cAI g xmc 36 xmf), (cO8_iiri tw 4 1 twc twn), (cAI g twc 4 twf)] rfl ?_
      refine k_istore [(6, .int r_13), (5, .int u_1), (4, .int u_2), (0, .ref h0), (1, .ref tw), (2, .int p0), (3, .int p1)] X dX7_weight_k1.2.1.1.1 (nlt_e rfl) rfl ?_
      refine k_iload X dX7_weight_k1.2.1.1.2 2 rfl ?_
      refine k_aload_n X dX7_weight_k1.2.1.2.1 3 rfl ?_
      refine k_get (ci := 7) X inlX7 rfl 1 (nlt_e rfl) dX7_weight_k1.2.1.2.2 mw91 0 rfl rfl ?_
      refine k_iload X dX7_weight_k1.2.2.1.1 1 rfl ?_
      refine k_iconst (v := 1) X dX7_weight_k1.2.2.1.2 ic_1 ?_
      refine k_callVI (n := 2) (As := [.int u_1, .int 1]) (st := [.int u_2]) X [(cO8_iiri xm 12 3 xmc xmn), (cAI g xmc 36 xmf)] [(cO7_vrvvii h0 v0h0 xm v2h0 v3h0 xmd xtr), (cO8_iiri tw 4 1 twc twn), (cAI g twc 4 twf)] [1, 2] [0, 3, 4] (t_at l g xm u_1 1 12 3 xmc xmn 36 xmf (tbk_12_3)) dX7_weight_k1.2.2.2.1 mw388 mw376 mw377 mw64 mw378 rfl 8 rfl rfl 0 _ rfl yk_yX8_at_2 rfl (Nat.le_of_ble_eq_true rfl) (Nat.le_of_ble_eq_true rfl) (Nat.le_of_ble_eq_true rfl) (Nat.le_of_ble_eq_true rfl) (Nat.le_of_ble_eq_true rfl) rfl rfl (vnd_e rfl) rfl (vnd_e rfl) (dsj_e rfl) ?_
      rintro r_15 w ⟨hr_16, rfl⟩
      refine k_ws [(cO7_vrvvii h0 v0h0 xm v2h0 v3h0 xmd xtr), (cO8_iiri tw 4 1 twc twn), (cAI g twc 4 twf), (cO8_iiri xm 12 3 xmc xmn), (cAI g xmc 36 xmf)] rfl ?_
      refine k_iload_n X dX7_weight_k1.2.2.2.2 6 rfl ?_
      refine k_isub X dX7_weight_k2.1.1.1 ?_
      refine k_nm (fun z_17 ez_17 => ?_)
      refine k_mabs X dX7_weight_k2.1.1.2.1 mw1129 mw1130 mw103 mw1131 (Nat.le_of_ble_eq_true rfl) (Nat.le_of_ble_eq_true rfl) (Nat.zero_le _) (Nat.zero_le _) ?_
      refine k_nm (fun z_18 ez_18 => ?_)
      refine k_iconst (v := 2) X dX7_weight_k2.1.1.2.2 ic_2 ?_
      refine k_ic_gt 75 X dX7_weight_k2.1.2.1.1 (jp_e rfl) (fun h_19 => ?_) (fun h_19 => ?_)
      · skip
        refine k_bipush (v := 10) X dX7_weight_k2.1.2.2.2 bi_10 ?_
        refine k_iload X dX7_weight_k2.2.1.1.1 0 rfl ?_
        refine k_isub X dX7_weight_k2.2.1.1.2 ?_
        refine k_nm (fun z_20 ez_20 => ?_)
        refine k_imul X dX7_weight_k2.2.1.2.1 ?_
        refine k_nm (fun z_21 ez_21 => ?_)
        refine k_istore [(4, .int z_21), (6, .int r_13), (5, .int u_1), (0, .ref h0), (1, .ref tw), (2, .int p0), (3, .int p1)] X dX7_weight_k2.2.1.2.2 (nlt_e rfl) rfl ?_
        obtain ⟨z_22, ez_22⟩ : ∃ y : Int32, u_1 + Int32.ofInt 1 = y := ⟨_, rfl⟩
        refine k_iinc z_22 [(5, .int z_22), (4, .int z_21), (6, .int r_13), (0, .ref h0), (1, .ref tw), (2, .int p0), (3, .int p1)] 2 X dX7_weight_k2.2.2.1.1 rfl ez_22 (nlt_e rfl) rfl ?_
        refine k_goto 6 X dX7_weight_k2.2.2.1.2 (jp_e rfl) ?_
        refine k_lv [(5, .int z_22), (4, .int z_21), (0, .ref h0), (1, .ref tw), (2, .int p0), (3, .int p1)] [0, 1, 3, 4, 5, 6] rfl ?_
        refine k_sub [(cO7_vrvvii h0 v0h0 xm v2h0 v3h0 xmd xtr), (cO8_iiri xm 12 3 xmc xmn), (cAI g xmc 36 xmf), (cO8_iiri tw 4 1 twc twn), (cAI g twc 4 twf)] [0, 3, 4, 1, 2] rfl (by decide) rfl ?_
        exact ih_5 _ (by rw [← hm_4]; exact mu_lt (by assumption) (by assumption)) z_22 z_21 rfl 
      · skip
        refine k_iload X dX7_weight_k2.1.2.1.2 0 rfl ?_
        refine k_goto 80 X dX7_weight_k2.1.2.2.1 (jp_e rfl) ?_
        refine k_imul X dX7_weight_k2.2.1.2.1 ?_
        refine k_nm (fun z_23 ez_23 => ?_)
        refine k_istore [(4, .int z_23), (6, .int r_13), (5, .int u_1), (0, .ref h0), (1, .ref tw), (2, .int p0), (3, .int p1)] X dX7_weight_k2.2.1.2.2 (nlt_e rfl) rfl ?_
        obtain ⟨z_24, ez_24⟩ : ∃ y : Int32, u_1 + Int32.ofInt 1 = y := ⟨_, rfl⟩
        refine k_iinc z_24 [(5, .int z_24), (4, .int z_23), (6, .int r_13), (0, .ref h0), (1, .ref tw), (2, .int p0), (3, .int p1)] 2 X dX7_weight_k2.2.2.1.1 rfl ez_24 (nlt_e rfl) rfl ?_
        refine k_goto 6 X dX7_weight_k2.2.2.1.2 (jp_e rfl) ?_
        refine k_lv [(5, .int z_24), (4, .int z_23), (0, .ref h0), (1, .ref tw), (2, .int p0), (3, .int p1)] [0, 1, 3, 4, 5, 6] rfl ?_
        refine k_sub [(cO7_vrvvii h0 v0h0 xm v2h0 v3h0 xmd xtr), (cO8_iiri xm 12 3 xmc xmn), (cAI g xmc 36 xmf), (cO8_iiri tw 4 1 twc twn), (cAI g twc 4 twf)] [0, 3, 4, 1, 2] rfl (by decide) rfl ?_
        exact ih_5 _ (by rw [← hm_4]; exact mu_lt (by assumption) (by assumption)) z_24 z_23 rfl 

theorem dX7_allWeights_k0 : ((((dD cX7_allWeights 0 (.aload_n 0) 1 ∧ dD cX7_allWeights 1 (.aload_n 1) 1) ∧ (dD cX7_allWeights 2 (.iload_n 2) 1 ∧ dD cX7_allWeights 3 (.aload_n 0) 1)) ∧ ((dD cX7_allWeights 4 (.getfield 14) 3 ∧ dD cX7_allWeights 7 (.iload_n 2) 1) ∧ (dD cX7_allWeights 8 (.iconst 1) 1 ∧ dD cX7_allWeights 9 (.invokevirtual 43) 3))) ∧ (((dD cX7_allWeights 12 (.invokevirtual 67) 3 ∧ dD cX7_allWeights 15 (.istore_n 3) 1) ∧ (dD cX7_allWeights 16 (.iconst 0) 1 ∧ dD cX7_allWeights 17 (.istore 4) 2)) ∧ ((dD cX7_allWeights 19 (.iload 4) 2 ∧ dD cX7_allWeights 21 (.aload_n 0) 1) ∧ (dD cX7_allWeights 22 (.getfield 20) 3 ∧ dD cX7_allWeights 25 (.getfield 51) 3)))) := dkA16 (by decide +kernel)
theorem dX7_allWeights_k1 : ((((dD cX7_allWeights 28 (.if_icmp .ge 72) 3 ∧ dD cX7_allWeights 31 (.aload_n 0) 1) ∧ (dD cX7_allWeights 32 (.getfield 20) 3 ∧ dD cX7_allWeights 35 (.iload 4) 2)) ∧ ((dD cX7_allWeights 37 (.iconst 1) 1 ∧ dD cX7_allWeights 38 (.invokevirtual 43) 3) ∧ (dD cX7_allWeights 41 (.istore 5) 2 ∧ dD cX7_allWeights 43 (.aload_n 0) 1))) ∧ (((dD cX7_allWeights 44 (.getfield 20) 3 ∧ dD cX7_allWeights 47 (.iload 4) 2) ∧ (dD cX7_allWeights 49 (.iconst 0) 1 ∧ dD cX7_allWeights 50 (.invokevirtual 43) 3)) ∧ ((dD cX7_allWeights 53 (.iload_n 2) 1 ∧ dD cX7_allWeights 54 (.if_icmp .ne 40) 3) ∧ (dD cX7_allWeights 57 (.iload 5) 2 ∧ dD cX7_allWeights 59 (.aload_n 0) 1)))) := dkA16 (by decide +kernel)
theorem dX7_allWeights_k2 : ((((dD cX7_allWeights 60 (.getfield 14) 3 ∧ dD cX7_allWeights 63 (.iload_n 2) 1) ∧ (dD cX7_allWeights 64 (.iconst 1) 1 ∧ dD cX7_allWeights 65 (.invokevirtual 43) 3)) ∧ ((dD cX7_allWeights 68 (.if_icmp .eq 26) 3 ∧ dD cX7_allWeights 71 (.aload_n 0) 1) ∧ (dD cX7_allWeights 72 (.iload_n 2) 1 ∧ dD cX7_allWeights 73 (.iload 5) 2))) ∧ (((dD cX7_allWeights 75 (.iload 4) 2 ∧ dD cX7_allWeights 77 (.invokevirtual 57) 3) ∧ (dD cX7_allWeights 80 (.ifCond .ne 14) 3 ∧ dD cX7_allWeights 83 (.iload_n 3) 1)) ∧ ((dD cX7_allWeights 84 (.aload_n 0) 1 ∧ dD cX7_allWeights 85 (.aload_n 1) 1) ∧ (dD cX7_allWeights 86 (.iload_n 2) 1 ∧ dD cX7_allWeights 87 (.iload 5) 2)))) := dkA16 (by decide +kernel)
theorem dX7_allWeights_k3 : ((dD cX7_allWeights 89 (.invokevirtual 67) 3 ∧ (dD cX7_allWeights 92 .iadd 1 ∧ dD cX7_allWeights 93 (.istore_n 3) 1)) ∧ ((dD cX7_allWeights 94 (.iinc 4 1) 3 ∧ dD cX7_allWeights 97 (.goto (-78)) 3) ∧ (dD cX7_allWeights 100 (.iload_n 3) 1 ∧ dD cX7_allWeights 101 .ireturn 1))) := dkA7 (by decide +kernel)
set_option maxHeartbeats 4000000 in
set_option maxRecDepth 100000 in
theorem s_allWeights (l : Launch) (g : Gx) (h0 : Nat) (tw : Nat) (p0 : Int32) (xr : Nat) (xm : Nat) (v2h0 : Value) (v3h0 : Value) (xmd : Int32) (xtr : Int32) (xrc : Nat) (xrn : Int32) (xrf : Nat → Int32) (xmc : Nat) (xmn : Int32) (xmf : Nat → Int32) (twc : Nat) (twn : Int32) (twf : Nat → Int32) : cI l g yX7_allWeights cX7_allWeights 6 (some .int) 2 48 0 0 [.ref h0, .ref tw, .int p0] [(cO7_rrvvii h0 xr xm v2h0 v3h0 xmd xtr), (cO8_iiri xr 8 3 xrc xrn), (cAI g xrc 24 xrf), (cO8_iiri xm 12 3 xmc xmn), (cAI g xmc 36 xmf), (cO8_iiri tw 4 1 twc twn), (cAI g twc 4 twf)] (fun r w => w = [(cO7_rrvvii h0 xr xm v2h0 v3h0 xmd xtr), (cO8_iiri xr 8 3 xrc xrn), (cAI g xrc 24 xrf), (cO8_iiri xm 12 3 xmc xmn), (cAI g xmc 36 xmf), (cO8_iiri tw 4 1 twc twn), (cAI g twc 4 twf)]) := by
  refine cI.of (by decide) (Nat.le_of_ble_eq_true rfl) ?_
  intro p e s m args below meth c A X hr hi
  refine k_lveq [(0, .ref h0), (1, .ref tw), (2, .int p0)] rfl ?_
  refine k_aload_n X dX7_allWeights_k0.1.1.1.1 0 rfl ?_
  refine k_aload_n X dX7_allWeights_k0.1.1.1.2 1 rfl ?_
  refine k_iload_n X dX7_allWeights_k0.1.1.2.1 2 rfl ?_
  refine k_aload_n X dX7_allWeights_k0.1.1.2.2 0 rfl ?_
  refine k_get (ci := 7) X inlX7 rfl 0 (nlt_e rfl) dX7_allWeights_k0.1.2.1.1 mw90 0 rfl rfl ?_
  refine k_iload_n X dX7_allWeights_k0.1.2.1.2 2 rfl ?_
  refine k_iconst (v := 1) X dX7_allWeights_k0.1.2.2.1 ic_1 ?_
  refine k_callVI (n := 2) (As := [.int p0, .int 1]) (st := [.int p0, .ref tw, .ref h0]) X [(cO8_iiri xr 8 3 xrc xrn), (cAI g xrc 24 xrf)] [(cO7_rrvvii h0 xr xm v2h0 v3h0 xmd xtr), (cO8_iiri xm 12 3 xmc xmn), (cAI g xmc 36 xmf), (cO8_iiri tw 4 1 twc twn), (cAI g twc 4 twf)] [1, 2] [0, 3, 4, 5, 6] (t_at l g xr p0 1 8 3 xrc xrn 24 xrf (tbk_8_3)) dX7_allWeights_k0.1.2.2.2 mw388 mw376 mw377 mw64 mw378 rfl 8 rfl rfl 0 _ rfl yk_yX8_at_2 rfl (Nat.le_of_ble_eq_true rfl) (Nat.le_of_ble_eq_true rfl) (Nat.le_of_ble_eq_true rfl) (Nat.le_of_ble_eq_true rfl) (Nat.le_of_ble_eq_true rfl) rfl rfl (vnd_e rfl) rfl (vnd_e rfl) (dsj_e rfl) ?_
  rintro r_1 w ⟨hr_2, rfl⟩
  refine k_ws [(cO7_rrvvii h0 xr xm v2h0 v3h0 xmd xtr), (cO8_iiri xm 12 3 xmc xmn), (cAI g xmc 36 xmf), (cO8_iiri tw 4 1 twc twn), (cAI g twc 4 twf), (cO8_iiri xr 8 3 xrc xrn), (cAI g xrc 24 xrf)] rfl ?_
  refine k_callVI (n := 3) (As := [.ref tw, .int p0, .int r_1]) (st := []) X [(cO7_rrvvii h0 xr xm v2h0 v3h0 xmd xtr), (cO8_iiri xm 12 3 xmc xmn), (cAI g xmc 36 xmf), (cO8_iiri tw 4 1 twc twn), (cAI g twc 4 twf)] [(cO8_iiri xr 8 3 xrc xrn), (cAI g xrc 24 xrf)] [0, 1, 2, 3, 4] [5, 6] (s_weight l g h0 tw p0 r_1 (.ref xr) xm v2h0 v3h0 xmd xtr xmc xmn xmf twc twn twf) dX7_allWeights_k0.2.1.1.1 mw1136 mw1126 mw1127 mw23 mw1128 rfl 7 rfl rfl 0 _ rfl yk_yX7_weight_3 rfl (Nat.le_of_ble_eq_true rfl) (Nat.le_of_ble_eq_true rfl) (Nat.le_of_ble_eq_true rfl) (Nat.le_of_ble_eq_true rfl) (Nat.le_of_ble_eq_true rfl) rfl rfl (vnd_e rfl) rfl (vnd_e rfl) (dsj_e rfl) ?_
  rintro r_3 w rfl
  refine k_ws [(cO8_iiri xr 8 3 xrc xrn), (cAI g xrc 24 xrf), (cO7_rrvvii h0 xr xm v2h0 v3h0 xmd xtr), (cO8_iiri xm 12 3 xmc xmn), (cAI g xmc 36 xmf), (cO8_iiri tw 4 1 twc twn), (cAI g twc 4 twf)] rfl ?_
  refine k_istore_n [(3, .int r_3), (0, .ref h0), (1, .ref tw), (2, .int p0)] X dX7_allWeights_k0.2.1.1.2 (nlt_e rfl) rfl ?_
  refine k_iconst (v := 0) X dX7_allWeights_k0.2.1.2.1 ic_0 ?_
  refine k_istore [(4, .int 0), (3, .int r_3), (0, .ref h0), (1, .ref tw), (2, .int p0)] X dX7_allWeights_k0.2.1.2.2 (nlt_e rfl) rfl ?_
  refine (fun hL : ∀ (nn_7 : Nat) (u_5 : Int32) (u_6 : Int32), (xmn.toInt - u_5.toInt).toNat = nn_7 → Wk p l e _ s m args below meth c _ A g _ _ _ [(cO8_iiri xr 8 3 xrc xrn), (cAI g xrc 24 xrf), (cO7_rrvvii h0 xr xm v2h0 v3h0 xmd xtr), (cO8_iiri xm 12 3 xmc xmn), (cAI g xmc 36 xmf), (cO8_iiri tw 4 1 twc twn), (cAI g twc 4 twf)] [(4, .int u_5), (3, .int u_6), (0, .ref h0), (1, .ref tw), (2, .int p0)] 19 [] => hL _ 0 r_3 rfl ) ?_
  refine fun nn_7 => Nat.strongRecOn nn_7 (fun nn_7 ih_9 => ?_)
  intro u_5 u_6 hm_8 
  refine k_iload X dX7_allWeights_k0.2.2.1.1 0 rfl ?_
  refine k_aload_n X dX7_allWeights_k0.2.2.1.2 2 rfl ?_
  refine k_get (ci := 7) X inlX7 rfl 1 (nlt_e rfl) dX7_allWeights_k0.2.2.2.1 mw91 2 rfl rfl ?_
  refine k_get (ci := 8) X inlX8 rfl 3 (nlt_e rfl) dX7_allWeights_k0.2.2.2.2 mw387 3 rfl rfl ?_
  refine k_ic_ge 100 X dX7_allWeights_k1.1.1.1.1 (jp_e rfl) (fun h_10 => ?_) (fun h_10 => ?_)
  · skip
    refine k_iload_n X dX7_allWeights_k3.2.2.1 1 rfl ?_
    exact k_iret X hr dX7_allWeights_k3.2.2.2 (Nat.le_of_ble_eq_true rfl) (Nat.le_of_ble_eq_true rfl) [2, 0, 1, 3, 4, 5, 6] (vnd_e rfl) rfl rfl rfl
  · skip
    refine k_aload_n X dX7_allWeights_k1.1.1.1.2 2 rfl ?_
    refine k_get (ci := 7) X inlX7 rfl 1 (nlt_e rfl) dX7_allWeights_k1.1.1.2.1 mw91 2 rfl rfl ?_
    refine k_iload X dX7_allWeights_k1.1.1.2.2 0 rfl ?_
    refine k_iconst (v := 1) X dX7_allWeights_k1.1.2.1.1 ic_1 ?_
    refine k_callVI (n := 2) (As := [.int u_5, .int 1]) (st := []) X [(cO8_iiri xm 12 3 xmc xmn), (cAI g xmc 36 xmf)] [(cO8_iiri xr 8 3 xrc xrn), (cAI g xrc 24 xrf), (cO7_rrvvii h0 xr xm v2h0 v3h0 xmd xtr), (cO8_iiri tw 4 1 twc twn), (cAI g twc 4 twf)] [3, 4] [0, 1, 2, 5, 6] (t_at l g xm u_5 1 12 3 xmc xmn 36 xmf (tbk_12_3)) dX7_allWeights_k1.1.2.1.2 mw388 mw376 mw377 mw64 mw378 rfl 8 rfl rfl 0 _ rfl yk_yX8_at_2 rfl (Nat.le_of_ble_eq_true rfl) (Nat.le_of_ble_eq_true rfl) (Nat.le_of_ble_eq_true rfl) (Nat.le_of_ble_eq_true rfl) (Nat.le_of_ble_eq_true rfl) rfl rfl (vnd_e rfl) rfl (vnd_e rfl) (dsj_e rfl) ?_
    rintro r_11 w ⟨hr_12, rfl⟩
    refine k_ws [(cO8_iiri xr 8 3 xrc xrn), (cAI g xrc 24 xrf), (cO7_rrvvii h0 xr xm v2h0 v3h0 xmd xtr), (cO8_iiri tw 4 1 twc twn), (cAI g twc 4 twf), (cO8_iiri xm 12 3 xmc xmn), (cAI g xmc 36 xmf)] rfl ?_
    refine k_istore [(5, .int r_11), (4, .int u_5), (3, .int u_6), (0, .ref h0), (1, .ref tw), (2, .int p0)] X dX7_allWeights_k1.1.2.2.1 (nlt_e rfl) rfl ?_
    refine k_aload_n X dX7_allWeights_k1.1.2.2.2 3 rfl ?_
    refine k_get (ci := 7) X inlX7 rfl 1 (nlt_e rfl) dX7_allWeights_k1.2.1.1.1 mw91 2 rfl rfl ?_
    refine k_iload X dX7_allWeights_k1.2.1.1.2 1 rfl ?_
    refine k_iconst (v := 0) X dX7_allWeights_k1.2.1.2.1 ic_0 ?_
    refine k_callVI (n := 2) (As := [.int u_5, .int 0]) (st := []) X [(cO8_iiri xm 12 3 xmc xmn), (cAI g xmc 36 xmf)] [(cO8_iiri xr 8 3 xrc xrn), (cAI g xrc 24 xrf), (cO7_rrvvii h0 xr xm v2h0 v3h0 xmd xtr), (cO8_iiri tw 4 1 twc twn), (cAI g twc 4 twf)] [5, 6] [0, 1, 2, 3, 4] (t_at l g xm u_5 0 12 3 xmc xmn 36 xmf (tbk_12_3)) dX7_allWeights_k1.2.1.2.2 mw388 mw376 mw377 mw64 mw378 rfl 8 rfl rfl 0 _ rfl yk_yX8_at_2 rfl (Nat.le_of_ble_eq_true rfl) (Nat.le_of_ble_eq_true rfl) (Nat.le_of_ble_eq_true rfl) (Nat.le_of_ble_eq_true rfl) (Nat.le_of_ble_eq_true rfl) rfl rfl (vnd_e rfl) rfl (vnd_e rfl) (dsj_e rfl) ?_
    rintro r_13 w ⟨hr_14, rfl⟩
    refine k_ws [(cO8_iiri xr 8 3 xrc xrn), (cAI g xrc 24 xrf), (cO7_rrvvii h0 xr xm v2h0 v3h0 xmd xtr), (cO8_iiri tw 4 1 twc twn), (cAI g twc 4 twf), (cO8_iiri xm 12 3 xmc xmn), (cAI g xmc 36 xmf)] rfl ?_
    refine k_iload_n X dX7_allWeights_k1.2.2.1.1 5 rfl ?_
    refine k_ic_ne 94 X dX7_allWeights_k1.2.2.1.2 (jp_e rfl) (fun h_15 => ?_) (fun h_15 => ?_)
    · skip
      obtain ⟨z_16, ez_16⟩ : ∃ y : Int32, u_5 + Int32.ofInt 1 = y := ⟨_, rfl⟩
      refine k_iinc z_16 [(4, .int z_16), (5, .int r_11), (3, .int u_6), (0, .ref h0), (1, .ref tw), (2, .int p0)] 1 X dX7_allWeights_k3.2.1.1 rfl ez_16 (nlt_e rfl) rfl ?_
      refine k_goto 19 X dX7_allWeights_k3.2.1.2 (jp_e rfl) ?_
      refine k_lv [(4, .int z_16), (3, .int u_6), (0, .ref h0), (1, .ref tw), (2, .int p0)] [0, 2, 3, 4, 5] rfl ?_
      refine k_sub [(cO8_iiri xr 8 3 xrc xrn), (cAI g xrc 24 xrf), (cO7_rrvvii h0 xr xm v2h0 v3h0 xmd xtr), (cO8_iiri xm 12 3 xmc xmn), (cAI g xmc 36 xmf), (cO8_iiri tw 4 1 twc twn), (cAI g twc 4 twf)] [0, 1, 2, 5, 6, 3, 4] rfl (by decide) rfl ?_
      exact ih_9 _ (by rw [← hm_8]; exact mu_lt (by assumption) (by assumption)) z_16 u_6 rfl 
    · skip
      refine k_iload X dX7_allWeights_k1.2.2.2.1 0 rfl ?_
      refine k_aload_n X dX7_allWeights_k1.2.2.2.2 3 rfl ?_
      refine k_get (ci := 7) X inlX7 rfl 0 (nlt_e rfl) dX7_allWeights_k2.1.1.1.1 mw90 2 rfl rfl ?_
      refine k_iload_n X dX7_allWeights_k2.1.1.1.2 5 rfl ?_
      refine k_iconst (v := 1) X dX7_allWeights_k2.1.1.2.1 ic_1 ?_
      refine k_callVI (n := 2) (As := [.int p0, .int 1]) (st := [.int r_11]) X [(cO8_iiri xr 8 3 xrc xrn), (cAI g xrc 24 xrf)] [(cO7_rrvvii h0 xr xm v2h0 v3h0 xmd xtr), (cO8_iiri tw 4 1 twc twn), (cAI g twc 4 twf), (cO8_iiri xm 12 3 xmc xmn), (cAI g xmc 36 xmf)] [0, 1] [2, 3, 4, 5, 6] (t_at l g xr p0 1 8 3 xrc xrn 24 xrf (tbk_8_3)) dX7_allWeights_k2.1.1.2.2 mw388 mw376 mw377 mw64 mw378 rfl 8 rfl rfl 0 _ rfl yk_yX8_at_2 rfl (Nat.le_of_ble_eq_true rfl) (Nat.le_of_ble_eq_true rfl) (Nat.le_of_ble_eq_true rfl) (Nat.le_of_ble_eq_true rfl) (Nat.le_of_ble_eq_true rfl) rfl rfl (vnd_e rfl) rfl (vnd_e rfl) (dsj_e rfl) ?_
      rintro r_17 w ⟨hr_18, rfl⟩
      refine k_ws [(cO7_rrvvii h0 xr xm v2h0 v3h0 xmd xtr), (cO8_iiri tw 4 1 twc twn), (cAI g twc 4 twf), (cO8_iiri xm 12 3 xmc xmn), (cAI g xmc 36 xmf), (cO8_iiri xr 8 3 xrc xrn), (cAI g xrc 24 xrf)] rfl ?_
      refine k_ic_eq 94 X dX7_allWeights_k2.1.2.1.1 (jp_e rfl) (fun h_19 => ?_) (fun h_19 => ?_)
      · skip
        obtain ⟨z_20, ez_20⟩ : ∃ y : Int32, u_5 + Int32.ofInt 1 = y := ⟨_, rfl⟩
        refine k_iinc z_20 [(4, .int z_20), (5, .int r_11), (3, .int u_6), (0, .ref h0), (1, .ref tw), (2, .int p0)] 1 X dX7_allWeights_k3.2.1.1 rfl ez_20 (nlt_e rfl) rfl ?_
        refine k_goto 19 X dX7_allWeights_k3.2.1.2 (jp_e rfl) ?_
        refine k_lv [(4, .int z_20), (3, .int u_6), (0, .ref h0), (1, .ref tw), (2, .int p0)] [0, 2, 3, 4, 5] rfl ?_
        refine k_sub [(cO8_iiri xr 8 3 xrc xrn), (cAI g xrc 24 xrf), (cO7_rrvvii h0 xr xm v2h0 v3h0 xmd xtr), (cO8_iiri xm 12 3 xmc xmn), (cAI g xmc 36 xmf), (cO8_iiri tw 4 1 twc twn), (cAI g twc 4 twf)] [5, 6, 0, 3, 4, 1, 2] rfl (by decide) rfl ?_
        exact ih_9 _ (by rw [← hm_8]; exact mu_lt (by assumption) (by assumption)) z_20 u_6 rfl 
      · skip
        refine k_aload_n X dX7_allWeights_k2.1.2.1.2 3 rfl ?_
        refine k_iload_n X dX7_allWeights_k2.1.2.2.1 5 rfl ?_
        refine k_iload X dX7_allWeights_k2.1.2.2.2 0 rfl ?_
        refine k_iload X dX7_allWeights_k2.2.1.1.1 1 rfl ?_
        refine k_callVI (n := 3) (As := [.int p0, .int r_11, .int u_5]) (st := []) X [(cO7_rrvvii h0 xr xm v2h0 v3h0 xmd xtr), (cO8_iiri xm 12 3 xmc xmn), (cAI g xmc 36 xmf)] [(cO8_iiri tw 4 1 twc twn), (cAI g twc 4 twf), (cO8_iiri xr 8 3 xrc xrn), (cAI g xrc 24 xrf)] [0, 3, 4] [1, 2, 5, 6] (s_isMarked l g h0 p0 r_11 u_5 (.ref xr) xm v2h0 v3h0 xmd xtr xmc xmn xmf) dX7_allWeights_k2.2.1.1.2 mw1121 mw1122 mw1123 mw23 mw1124 rfl 7 rfl rfl 0 _ rfl yk_yX7_isMarked_3 rfl (Nat.le_of_ble_eq_true rfl) (Nat.le_of_ble_eq_true rfl) (Nat.le_of_ble_eq_true rfl) (Nat.le_of_ble_eq_true rfl) (Nat.le_of_ble_eq_true rfl) rfl rfl (vnd_e rfl) rfl (vnd_e rfl) (dsj_e rfl) ?_
        rintro r_21 w rfl
        refine k_ws [(cO8_iiri tw 4 1 twc twn), (cAI g twc 4 twf), (cO8_iiri xr 8 3 xrc xrn), (cAI g xrc 24 xrf), (cO7_rrvvii h0 xr xm v2h0 v3h0 xmd xtr), (cO8_iiri xm 12 3 xmc xmn), (cAI g xmc 36 xmf)] rfl ?_
        refine k_if_ne 94 X dX7_allWeights_k2.2.1.2.1 (jp_e rfl) (fun h_23 => ?_) (fun h_23 => ?_)
        · skip
          obtain ⟨z_24, ez_24⟩ : ∃ y : Int32, u_5 + Int32.ofInt 1 = y := ⟨_, rfl⟩
          refine k_iinc z_24 [(4, .int z_24), (5, .int r_11), (3, .int u_6), (0, .ref h0), (1, .ref tw), (2, .int p0)] 1 X dX7_allWeights_k3.2.1.1 rfl ez_24 (nlt_e rfl) rfl ?_
          refine k_goto 19 X dX7_allWeights_k3.2.1.2 (jp_e rfl) ?_
          refine k_lv [(4, .int z_24), (3, .int u_6), (0, .ref h0), (1, .ref tw), (2, .int p0)] [0, 2, 3, 4, 5] rfl ?_
          refine k_sub [(cO8_iiri xr 8 3 xrc xrn), (cAI g xrc 24 xrf), (cO7_rrvvii h0 xr xm v2h0 v3h0 xmd xtr), (cO8_iiri xm 12 3 xmc xmn), (cAI g xmc 36 xmf), (cO8_iiri tw 4 1 twc twn), (cAI g twc 4 twf)] [2, 3, 4, 5, 6, 0, 1] rfl (by decide) rfl ?_
          exact ih_9 _ (by rw [← hm_8]; exact mu_lt (by assumption) (by assumption)) z_24 u_6 rfl 
        · skip
          refine k_iload_n X dX7_allWeights_k2.2.1.2.2 2 rfl ?_
          refine k_aload_n X dX7_allWeights_k2.2.2.1.1 3 rfl ?_
          refine k_aload_n X dX7_allWeights_k2.2.2.1.2 4 rfl ?_
          refine k_iload_n X dX7_allWeights_k2.2.2.2.1 5 rfl ?_
          refine k_iload X dX7_allWeights_k2.2.2.2.2 0 rfl ?_
          refine k_callVI (n := 3) (As := [.ref tw, .int p0, .int r_11]) (st := [.int u_6]) X [(cO7_rrvvii h0 xr xm v2h0 v3h0 xmd xtr), (cO8_iiri xm 12 3 xmc xmn), (cAI g xmc 36 xmf), (cO8_iiri tw 4 1 twc twn), (cAI g twc 4 twf)] [(cO8_iiri xr 8 3 xrc xrn), (cAI g xrc 24 xrf)] [4, 5, 6, 0, 1] [2, 3] (s_weight l g h0 tw p0 r_11 (.ref xr) xm v2h0 v3h0 xmd xtr xmc xmn xmf twc twn twf) dX7_allWeights_k3.1.1 mw1136 mw1126 mw1127 mw23 mw1128 rfl 7 rfl rfl 0 _ rfl yk_yX7_weight_3 rfl (Nat.le_of_ble_eq_true rfl) (Nat.le_of_ble_eq_true rfl) (Nat.le_of_ble_eq_true rfl) (Nat.le_of_ble_eq_true rfl) (Nat.le_of_ble_eq_true rfl) rfl rfl (vnd_e rfl) rfl (vnd_e rfl) (dsj_e rfl) ?_
          rintro r_25 w rfl
          refine k_ws [(cO8_iiri xr 8 3 xrc xrn), (cAI g xrc 24 xrf), (cO7_rrvvii h0 xr xm v2h0 v3h0 xmd xtr), (cO8_iiri xm 12 3 xmc xmn), (cAI g xmc 36 xmf), (cO8_iiri tw 4 1 twc twn), (cAI g twc 4 twf)] rfl ?_
          refine k_iadd X dX7_allWeights_k3.1.2.1 ?_
          refine k_nm (fun z_27 ez_27 => ?_)
          refine k_istore_n [(3, .int z_27), (5, .int r_11), (4, .int u_5), (0, .ref h0), (1, .ref tw), (2, .int p0)] X dX7_allWeights_k3.1.2.2 (nlt_e rfl) rfl ?_
          obtain ⟨z_28, ez_28⟩ : ∃ y : Int32, u_5 + Int32.ofInt 1 = y := ⟨_, rfl⟩
          refine k_iinc z_28 [(4, .int z_28), (3, .int z_27), (5, .int r_11), (0, .ref h0), (1, .ref tw), (2, .int p0)] 2 X dX7_allWeights_k3.2.1.1 rfl ez_28 (nlt_e rfl) rfl ?_
          refine k_goto 19 X dX7_allWeights_k3.2.1.2 (jp_e rfl) ?_
          refine k_lv [(4, .int z_28), (3, .int z_27), (0, .ref h0), (1, .ref tw), (2, .int p0)] [0, 1, 3, 4, 5] rfl ?_
          exact ih_9 _ (by rw [← hm_8]; exact mu_lt (by assumption) (by assumption)) z_28 z_27 rfl 

theorem dX7_likeliestFrame_k0 : ((((dD cX7_likeliestFrame 0 (.aload_n 0) 1 ∧ dD cX7_likeliestFrame 1 (.getfield 14) 3) ∧ (dD cX7_likeliestFrame 4 (.iload_n 2) 1 ∧ dD cX7_likeliestFrame 5 (.iconst 1) 1)) ∧ ((dD cX7_likeliestFrame 6 (.invokevirtual 43) 3 ∧ dD cX7_likeliestFrame 9 (.istore_n 3) 1) ∧ (dD cX7_likeliestFrame 10 (.aload_n 0) 1 ∧ dD cX7_likeliestFrame 11 (.aload_n 1) 1))) ∧ (((dD cX7_likeliestFrame 12 (.iload_n 2) 1 ∧ dD cX7_likeliestFrame 13 (.iload_n 3) 1) ∧ (dD cX7_likeliestFrame 14 (.invokevirtual 67) 3 ∧ dD cX7_likeliestFrame 17 (.istore 4) 2)) ∧ ((dD cX7_likeliestFrame 19 (.iconst 0) 1 ∧ dD cX7_likeliestFrame 20 (.istore 5) 2) ∧ (dD cX7_likeliestFrame 22 (.iload 5) 2 ∧ dD cX7_likeliestFrame 24 (.aload_n 0) 1)))) := dkA16 (by decide +kernel)
theorem dX7_likeliestFrame_k1 : ((((dD cX7_likeliestFrame 25 (.getfield 20) 3 ∧ dD cX7_likeliestFrame 28 (.getfield 51) 3) ∧ (dD cX7_likeliestFrame 31 (.if_icmp .ge 72) 3 ∧ dD cX7_likeliestFrame 34 (.aload_n 0) 1)) ∧ ((dD cX7_likeliestFrame 35 (.getfield 20) 3 ∧ dD cX7_likeliestFrame 38 (.iload 5) 2) ∧ (dD cX7_likeliestFrame 40 (.iconst 0) 1 ∧ dD cX7_likeliestFrame 41 (.invokevirtual 43) 3))) ∧ (((dD cX7_likeliestFrame 44 (.iload_n 2) 1 ∧ dD cX7_likeliestFrame 45 (.if_icmp .ne 52) 3) ∧ (dD cX7_likeliestFrame 48 (.aload_n 0) 1 ∧ dD cX7_likeliestFrame 49 (.getfield 20) 3)) ∧ ((dD cX7_likeliestFrame 52 (.iload 5) 2 ∧ dD cX7_likeliestFrame 54 (.iconst 1) 1) ∧ (dD cX7_likeliestFrame 55 (.invokevirtual 43) 3 ∧ dD cX7_likeliestFrame 58 (.istore 6) 2)))) := dkA16 (by decide +kernel)
theorem dX7_likeliestFrame_k2 : ((((dD cX7_likeliestFrame 60 (.aload_n 0) 1 ∧ dD cX7_likeliestFrame 61 (.aload_n 1) 1) ∧ (dD cX7_likeliestFrame 62 (.iload_n 2) 1 ∧ dD cX7_likeliestFrame 63 (.iload 6) 2)) ∧ ((dD cX7_likeliestFrame 65 (.invokevirtual 67) 3 ∧ dD cX7_likeliestFrame 68 (.istore 7) 2) ∧ (dD cX7_likeliestFrame 70 (.iload 7) 2 ∧ dD cX7_likeliestFrame 72 (.iload 4) 2))) ∧ (((dD cX7_likeliestFrame 74 (.if_icmp .gt 16) 3 ∧ dD cX7_likeliestFrame 77 (.iload 7) 2) ∧ (dD cX7_likeliestFrame 79 (.iload 4) 2 ∧ dD cX7_likeliestFrame 81 (.if_icmp .ne 16) 3)) ∧ ((dD cX7_likeliestFrame 84 (.iload 6) 2 ∧ dD cX7_likeliestFrame 86 (.iload_n 3) 1) ∧ (dD cX7_likeliestFrame 87 (.if_icmp .ge 10) 3 ∧ dD cX7_likeliestFrame 90 (.iload 7) 2)))) := dkA16 (by decide +kernel)
theorem dX7_likeliestFrame_k3 : ((dD cX7_likeliestFrame 92 (.istore 4) 2 ∧ (dD cX7_likeliestFrame 94 (.iload 6) 2 ∧ dD cX7_likeliestFrame 96 (.istore_n 3) 1)) ∧ ((dD cX7_likeliestFrame 97 (.iinc 5 1) 3 ∧ dD cX7_likeliestFrame 100 (.goto (-78)) 3) ∧ (dD cX7_likeliestFrame 103 (.iload_n 3) 1 ∧ dD cX7_likeliestFrame 104 .ireturn 1))) := dkA7 (by decide +kernel)
set_option maxHeartbeats 4000000 in
set_option maxRecDepth 100000 in
theorem s_likeliest (l : Launch) (g : Gx) (h0 : Nat) (tw : Nat) (p0 : Int32) (xr : Nat) (xm : Nat) (v2h0 : Value) (v3h0 : Value) (xmd : Int32) (xtr : Int32) (xrc : Nat) (xrn : Int32) (xrf : Nat → Int32) (xmc : Nat) (xmn : Int32) (xmf : Nat → Int32) (twc : Nat) (twn : Int32) (twf : Nat → Int32) : cI l g yX7_likeliestFrame cX7_likeliestFrame 8 (some .int) 2 48 0 0 [.ref h0, .ref tw, .int p0] [(cO7_rrvvii h0 xr xm v2h0 v3h0 xmd xtr), (cO8_iiri xr 8 3 xrc xrn), (cAI g xrc 24 xrf), (cO8_iiri xm 12 3 xmc xmn), (cAI g xmc 36 xmf), (cO8_iiri tw 4 1 twc twn), (cAI g twc 4 twf)] (fun r w => w = [(cO7_rrvvii h0 xr xm v2h0 v3h0 xmd xtr), (cO8_iiri xr 8 3 xrc xrn), (cAI g xrc 24 xrf), (cO8_iiri xm 12 3 xmc xmn), (cAI g xmc 36 xmf), (cO8_iiri tw 4 1 twc twn), (cAI g twc 4 twf)]) := by
  refine cI.of (by decide) (Nat.le_of_ble_eq_true rfl) ?_
  intro p e s m args below meth c A X hr hi
  refine k_lveq [(0, .ref h0), (1, .ref tw), (2, .int p0)] rfl ?_
  refine k_aload_n X dX7_likeliestFrame_k0.1.1.1.1 0 rfl ?_
  refine k_get (ci := 7) X inlX7 rfl 0 (nlt_e rfl) dX7_likeliestFrame_k0.1.1.1.2 mw90 0 rfl rfl ?_
  refine k_iload_n X dX7_likeliestFrame_k0.1.1.2.1 2 rfl ?_
  refine k_iconst (v := 1) X dX7_likeliestFrame_k0.1.1.2.2 ic_1 ?_
  refine k_callVI (n := 2) (As := [.int p0, .int 1]) (st := []) X [(cO8_iiri xr 8 3 xrc xrn), (cAI g xrc 24 xrf)] [(cO7_rrvvii h0 xr xm v2h0 v3h0 xmd xtr), (cO8_iiri xm 12 3 xmc xmn), (cAI g xmc 36 xmf), (cO8_iiri tw 4 1 twc twn), (cAI g twc 4 twf)] [1, 2] [0, 3, 4, 5, 6] (t_at l g xr p0 1 8 3 xrc xrn 24 xrf (tbk_8_3)) dX7_likeliestFrame_k0.1.2.1.1 mw388 mw376 mw377 mw64 mw378 rfl 8 rfl rfl 0 _ rfl yk_yX8_at_2 rfl (Nat.le_of_ble_eq_true rfl) (Nat.le_of_ble_eq_true rfl) (Nat.le_of_ble_eq_true rfl) (Nat.le_of_ble_eq_true rfl) (Nat.le_of_ble_eq_true rfl) rfl rfl (vnd_e rfl) rfl (vnd_e rfl) (dsj_e rfl) ?_
  rintro r_1 w ⟨hr_2, rfl⟩
  refine k_ws [(cO7_rrvvii h0 xr xm v2h0 v3h0 xmd xtr), (cO8_iiri xm 12 3 xmc xmn), (cAI g xmc 36 xmf), (cO8_iiri tw 4 1 twc twn), (cAI g twc 4 twf), (cO8_iiri xr 8 3 xrc xrn), (cAI g xrc 24 xrf)] rfl ?_
  refine k_istore_n [(3, .int r_1), (0, .ref h0), (1, .ref tw), (2, .int p0)] X dX7_likeliestFrame_k0.1.2.1.2 (nlt_e rfl) rfl ?_
  refine k_aload_n X dX7_likeliestFrame_k0.1.2.2.1 1 rfl ?_
  refine k_aload_n X dX7_likeliestFrame_k0.1.2.2.2 2 rfl ?_
  refine k_iload_n X dX7_likeliestFrame_k0.2.1.1.1 3 rfl ?_
  refine k_iload_n X dX7_likeliestFrame_k0.2.1.1.2 0 rfl ?_
  refine k_callVI (n := 3) (As := [.ref tw, .int p0, .int r_1]) (st := []) X [(cO7_rrvvii h0 xr xm v2h0 v3h0 xmd xtr), (cO8_iiri xm 12 3 xmc xmn), (cAI g xmc 36 xmf), (cO8_iiri tw 4 1 twc twn), (cAI g twc 4 twf)] [(cO8_iiri xr 8 3 xrc xrn), (cAI g xrc 24 xrf)] [0, 1, 2, 3, 4] [5, 6] (s_weight l g h0 tw p0 r_1 (.ref xr) xm v2h0 v3h0 xmd xtr xmc xmn xmf twc twn twf) dX7_likeliestFrame_k0.2.1.2.1 mw1136 mw1126 mw1127 mw23 mw1128 rfl 7 rfl rfl 0 _ rfl yk_yX7_weight_3 rfl (Nat.le_of_ble_eq_true rfl) (Nat.le_of_ble_eq_true rfl) (Nat.le_of_ble_eq_true rfl) (Nat.le_of_ble_eq_true rfl) (Nat.le_of_ble_eq_true rfl) rfl rfl (vnd_e rfl) rfl (vnd_e rfl) (dsj_e rfl) ?_
  rintro r_3 w rfl
  refine k_ws [(cO8_iiri xr 8 3 xrc xrn), (cAI g xrc 24 xrf), (cO7_rrvvii h0 xr xm v2h0 v3h0 xmd xtr), (cO8_iiri xm 12 3 xmc xmn), (cAI g xmc 36 xmf), (cO8_iiri tw 4 1 twc twn), (cAI g twc 4 twf)] rfl ?_
  refine k_istore [(4, .int r_3), (3, .int r_1), (0, .ref h0), (1, .ref tw), (2, .int p0)] X dX7_likeliestFrame_k0.2.1.2.2 (nlt_e rfl) rfl ?_
  refine k_iconst (v := 0) X dX7_likeliestFrame_k0.2.2.1.1 ic_0 ?_
  refine k_istore [(5, .int 0), (4, .int r_3), (3, .int r_1), (0, .ref h0), (1, .ref tw), (2, .int p0)] X dX7_likeliestFrame_k0.2.2.1.2 (nlt_e rfl) rfl ?_
  refine (fun hL : ∀ (nn_8 : Nat) (u_5 : Int32) (u_6 : Int32) (u_7 : Int32), (xmn.toInt - u_5.toInt).toNat = nn_8 → Wk p l e _ s m args below meth c _ A g _ _ _ [(cO8_iiri xr 8 3 xrc xrn), (cAI g xrc 24 xrf), (cO7_rrvvii h0 xr xm v2h0 v3h0 xmd xtr), (cO8_iiri xm 12 3 xmc xmn), (cAI g xmc 36 xmf), (cO8_iiri tw 4 1 twc twn), (cAI g twc 4 twf)] [(5, .int u_5), (4, .int u_6), (3, .int u_7), (0, .ref h0), (1, .ref tw), (2, .int p0)] 22 [] => hL _ 0 r_3 r_1 rfl ) ?_
  refine fun nn_8 => Nat.strongRecOn nn_8 (fun nn_8 ih_10 => ?_)
  intro u_5 u_6 u_7 hm_9 
  refine k_iload X dX7_likeliestFrame_k0.2.2.2.1 0 rfl ?_
  refine k_aload_n X dX7_likeliestFrame_k0.2.2.2.2 3 rfl ?_
  refine k_get (ci := 7) X inlX7 rfl 1 (nlt_e rfl) dX7_likeliestFrame_k1.1.1.1.1 mw91 2 rfl rfl ?_
  refine k_get (ci := 8) X inlX8 rfl 3 (nlt_e rfl) dX7_likeliestFrame_k1.1.1.1.2 mw387 3 rfl rfl ?_
  refine k_ic_ge 103 X dX7_likeliestFrame_k1.1.1.2.1 (jp_e rfl) (fun h_11 => ?_) (fun h_11 => ?_)
  · skip
    refine k_iload_n X dX7_likeliestFrame_k3.2.2.1 2 rfl ?_
    exact k_iret X hr dX7_likeliestFrame_k3.2.2.2 (Nat.le_of_ble_eq_true rfl) (Nat.le_of_ble_eq_true rfl) [2, 0, 1, 3, 4, 5, 6] (vnd_e rfl) rfl rfl rfl
  · skip
    refine k_aload_n X dX7_likeliestFrame_k1.1.1.2.2 3 rfl ?_
    refine k_get (ci := 7) X inlX7 rfl 1 (nlt_e rfl) dX7_likeliestFrame_k1.1.2.1.1 mw91 2 rfl rfl ?_
    refine k_iload X dX7_likeliestFrame_k1.1.2.1.2 0 rfl ?_
    refine k_iconst (v := 0) X dX7_likeliestFrame_k1.1.2.2.1 ic_0 ?_
    refine k_callVI (n := 2) (As := [.int u_5, .int 0]) (st := []) X [(cO8_iiri xm 12 3 xmc xmn), (cAI g xmc 36 xmf)] [(cO8_iiri xr 8 3 xrc xrn), (cAI g xrc 24 xrf), (cO7_rrvvii h0 xr xm v2h0 v3h0 xmd xtr), (cO8_iiri tw 4 1 twc twn), (cAI g twc 4 twf)] [3, 4] [0, 1, 2, 5, 6] (t_at l g xm u_5 0 12 3 xmc xmn 36 xmf (tbk_12_3)) dX7_likeliestFrame_k1.1.2.2.2 mw388 mw376 mw377 mw64 mw378 rfl 8 rfl rfl 0 _ rfl yk_yX8_at_2 rfl (Nat.le_of_ble_eq_true rfl) (Nat.le_of_ble_eq_true rfl) (Nat.le_of_ble_eq_true rfl) (Nat.le_of_ble_eq_true rfl) (Nat.le_of_ble_eq_true rfl) rfl rfl (vnd_e rfl) rfl (vnd_e rfl) (dsj_e rfl) ?_
    rintro r_12 w ⟨hr_13, rfl⟩
    refine k_ws [(cO8_iiri xr 8 3 xrc xrn), (cAI g xrc 24 xrf), (cO7_rrvvii h0 xr xm v2h0 v3h0 xmd xtr), (cO8_iiri tw 4 1 twc twn), (cAI g twc 4 twf), (cO8_iiri xm 12 3 xmc xmn), (cAI g xmc 36 xmf)] rfl ?_
    refine k_iload_n X dX7_likeliestFrame_k1.2.1.1.1 5 rfl ?_
    refine k_ic_ne 97 X dX7_likeliestFrame_k1.2.1.1.2 (jp_e rfl) (fun h_14 => ?_) (fun h_14 => ?_)
    · skip
      obtain ⟨z_15, ez_15⟩ : ∃ y : Int32, u_5 + Int32.ofInt 1 = y := ⟨_, rfl⟩
      refine k_iinc z_15 [(5, .int z_15), (4, .int u_6), (3, .int u_7), (0, .ref h0), (1, .ref tw), (2, .int p0)] 0 X dX7_likeliestFrame_k3.2.1.1 rfl ez_15 (nlt_e rfl) rfl ?_
      refine k_goto 22 X dX7_likeliestFrame_k3.2.1.2 (jp_e rfl) ?_
      refine k_sub [(cO8_iiri xr 8 3 xrc xrn), (cAI g xrc 24 xrf), (cO7_rrvvii h0 xr xm v2h0 v3h0 xmd xtr), (cO8_iiri xm 12 3 xmc xmn), (cAI g xmc 36 xmf), (cO8_iiri tw 4 1 twc twn), (cAI g twc 4 twf)] [0, 1, 2, 5, 6, 3, 4] rfl (by decide) rfl ?_
      exact ih_10 _ (by rw [← hm_9]; exact mu_lt (by assumption) (by assumption)) z_15 u_6 u_7 rfl 
    · skip
      refine k_aload_n X dX7_likeliestFrame_k1.2.1.2.1 3 rfl ?_
      refine k_get (ci := 7) X inlX7 rfl 1 (nlt_e rfl) dX7_likeliestFrame_k1.2.1.2.2 mw91 2 rfl rfl ?_
      refine k_iload X dX7_likeliestFrame_k1.2.2.1.1 0 rfl ?_
      refine k_iconst (v := 1) X dX7_likeliestFrame_k1.2.2.1.2 ic_1 ?_
      refine k_callVI (n := 2) (As := [.int u_5, .int 1]) (st := []) X [(cO8_iiri xm 12 3 xmc xmn), (cAI g xmc 36 xmf)] [(cO8_iiri xr 8 3 xrc xrn), (cAI g xrc 24 xrf), (cO7_rrvvii h0 xr xm v2h0 v3h0 xmd xtr), (cO8_iiri tw 4 1 twc twn), (cAI g twc 4 twf)] [5, 6] [0, 1, 2, 3, 4] (t_at l g xm u_5 1 12 3 xmc xmn 36 xmf (tbk_12_3)) dX7_likeliestFrame_k1.2.2.2.1 mw388 mw376 mw377 mw64 mw378 rfl 8 rfl rfl 0 _ rfl yk_yX8_at_2 rfl (Nat.le_of_ble_eq_true rfl) (Nat.le_of_ble_eq_true rfl) (Nat.le_of_ble_eq_true rfl) (Nat.le_of_ble_eq_true rfl) (Nat.le_of_ble_eq_true rfl) rfl rfl (vnd_e rfl) rfl (vnd_e rfl) (dsj_e rfl) ?_
      rintro r_16 w ⟨hr_17, rfl⟩
      refine k_ws [(cO8_iiri xr 8 3 xrc xrn), (cAI g xrc 24 xrf), (cO7_rrvvii h0 xr xm v2h0 v3h0 xmd xtr), (cO8_iiri tw 4 1 twc twn), (cAI g twc 4 twf), (cO8_iiri xm 12 3 xmc xmn), (cAI g xmc 36 xmf)] rfl ?_
      refine k_istore [(6, .int r_16), (5, .int u_5), (4, .int u_6), (3, .int u_7), (0, .ref h0), (1, .ref tw), (2, .int p0)] X dX7_likeliestFrame_k1.2.2.2.2 (nlt_e rfl) rfl ?_
      refine k_aload_n X dX7_likeliestFrame_k2.1.1.1.1 4 rfl ?_
      refine k_aload_n X dX7_likeliestFrame_k2.1.1.1.2 5 rfl ?_
      refine k_iload_n X dX7_likeliestFrame_k2.1.1.2.1 6 rfl ?_
      refine k_iload X dX7_likeliestFrame_k2.1.1.2.2 0 rfl ?_
      refine k_callVI (n := 3) (As := [.ref tw, .int p0, .int r_16]) (st := []) X [(cO7_rrvvii h0 xr xm v2h0 v3h0 xmd xtr), (cO8_iiri xm 12 3 xmc xmn), (cAI g xmc 36 xmf), (cO8_iiri tw 4 1 twc twn), (cAI g twc 4 twf)] [(cO8_iiri xr 8 3 xrc xrn), (cAI g xrc 24 xrf)] [2, 5, 6, 3, 4] [0, 1] (s_weight l g h0 tw p0 r_16 (.ref xr) xm v2h0 v3h0 xmd xtr xmc xmn xmf twc twn twf) dX7_likeliestFrame_k2.1.2.1.1 mw1136 mw1126 mw1127 mw23 mw1128 rfl 7 rfl rfl 0 _ rfl yk_yX7_weight_3 rfl (Nat.le_of_ble_eq_true rfl) (Nat.le_of_ble_eq_true rfl) (Nat.le_of_ble_eq_true rfl) (Nat.le_of_ble_eq_true rfl) (Nat.le_of_ble_eq_true rfl) rfl rfl (vnd_e rfl) rfl (vnd_e rfl) (dsj_e rfl) ?_
      rintro r_18 w rfl
      refine k_ws [(cO8_iiri xr 8 3 xrc xrn), (cAI g xrc 24 xrf), (cO7_rrvvii h0 xr xm v2h0 v3h0 xmd xtr), (cO8_iiri xm 12 3 xmc xmn), (cAI g xmc 36 xmf), (cO8_iiri tw 4 1 twc twn), (cAI g twc 4 twf)] rfl ?_
      refine k_istore [(7, .int r_18), (6, .int r_16), (5, .int u_5), (4, .int u_6), (3, .int u_7), (0, .ref h0), (1, .ref tw), (2, .int p0)] X dX7_likeliestFrame_k2.1.2.1.2 (nlt_e rfl) rfl ?_
      refine k_iload X dX7_likeliestFrame_k2.1.2.2.1 0 rfl ?_
      refine k_iload X dX7_likeliestFrame_k2.1.2.2.2 3 rfl ?_
      refine k_ic_gt 90 X dX7_likeliestFrame_k2.2.1.1.1 (jp_e rfl) (fun h_20 => ?_) (fun h_20 => ?_)
      · skip
        refine k_iload X dX7_likeliestFrame_k2.2.2.2.2 0 rfl ?_
        refine k_istore [(4, .int r_18), (7, .int r_18), (6, .int r_16), (5, .int u_5), (3, .int u_7), (0, .ref h0), (1, .ref tw), (2, .int p0)] X dX7_likeliestFrame_k3.1.1 (nlt_e rfl) rfl ?_
        refine k_iload X dX7_likeliestFrame_k3.1.2.1 2 rfl ?_
        refine k_istore_n [(3, .int r_16), (4, .int r_18), (7, .int r_18), (6, .int r_16), (5, .int u_5), (0, .ref h0), (1, .ref tw), (2, .int p0)] X dX7_likeliestFrame_k3.1.2.2 (nlt_e rfl) rfl ?_
        obtain ⟨z_21, ez_21⟩ : ∃ y : Int32, u_5 + Int32.ofInt 1 = y := ⟨_, rfl⟩
        refine k_iinc z_21 [(5, .int z_21), (3, .int r_16), (4, .int r_18), (7, .int r_18), (6, .int r_16), (0, .ref h0), (1, .ref tw), (2, .int p0)] 4 X dX7_likeliestFrame_k3.2.1.1 rfl ez_21 (nlt_e rfl) rfl ?_
        refine k_goto 22 X dX7_likeliestFrame_k3.2.1.2 (jp_e rfl) ?_
        refine k_lv [(5, .int z_21), (4, .int r_18), (3, .int r_16), (0, .ref h0), (1, .ref tw), (2, .int p0)] [0, 2, 1, 5, 6, 7] rfl ?_
        exact ih_10 _ (by rw [← hm_9]; exact mu_lt (by assumption) (by assumption)) z_21 r_18 r_16 rfl 
      · skip
        refine k_iload X dX7_likeliestFrame_k2.2.1.1.2 0 rfl ?_
        refine k_iload X dX7_likeliestFrame_k2.2.1.2.1 3 rfl ?_
        refine k_ic_ne 97 X dX7_likeliestFrame_k2.2.1.2.2 (jp_e rfl) (fun h_22 => ?_) (fun h_22 => ?_)
        · skip
          obtain ⟨z_23, ez_23⟩ : ∃ y : Int32, u_5 + Int32.ofInt 1 = y := ⟨_, rfl⟩
          refine k_iinc z_23 [(5, .int z_23), (7, .int r_18), (6, .int r_16), (4, .int u_6), (3, .int u_7), (0, .ref h0), (1, .ref tw), (2, .int p0)] 2 X dX7_likeliestFrame_k3.2.1.1 rfl ez_23 (nlt_e rfl) rfl ?_
          refine k_goto 22 X dX7_likeliestFrame_k3.2.1.2 (jp_e rfl) ?_
          refine k_lv [(5, .int z_23), (4, .int u_6), (3, .int u_7), (0, .ref h0), (1, .ref tw), (2, .int p0)] [0, 3, 4, 5, 6, 7] rfl ?_
          exact ih_10 _ (by rw [← hm_9]; exact mu_lt (by assumption) (by assumption)) z_23 u_6 u_7 rfl 
        · skip
          refine k_iload X dX7_likeliestFrame_k2.2.2.1.1 1 rfl ?_
          refine k_iload_n X dX7_likeliestFrame_k2.2.2.1.2 4 rfl ?_
          refine k_ic_ge 97 X dX7_likeliestFrame_k2.2.2.2.1 (jp_e rfl) (fun h_24 => ?_) (fun h_24 => ?_)
          · skip
            obtain ⟨z_25, ez_25⟩ : ∃ y : Int32, u_5 + Int32.ofInt 1 = y := ⟨_, rfl⟩
            refine k_iinc z_25 [(5, .int z_25), (7, .int r_18), (6, .int r_16), (4, .int u_6), (3, .int u_7), (0, .ref h0), (1, .ref tw), (2, .int p0)] 2 X dX7_likeliestFrame_k3.2.1.1 rfl ez_25 (nlt_e rfl) rfl ?_
            refine k_goto 22 X dX7_likeliestFrame_k3.2.1.2 (jp_e rfl) ?_
            refine k_lv [(5, .int z_25), (4, .int u_6), (3, .int u_7), (0, .ref h0), (1, .ref tw), (2, .int p0)] [0, 3, 4, 5, 6, 7] rfl ?_
            exact ih_10 _ (by rw [← hm_9]; exact mu_lt (by assumption) (by assumption)) z_25 u_6 u_7 rfl 
          · skip
            refine k_iload X dX7_likeliestFrame_k2.2.2.2.2 0 rfl ?_
            refine k_istore [(4, .int r_18), (7, .int r_18), (6, .int r_16), (5, .int u_5), (3, .int u_7), (0, .ref h0), (1, .ref tw), (2, .int p0)] X dX7_likeliestFrame_k3.1.1 (nlt_e rfl) rfl ?_
            refine k_iload X dX7_likeliestFrame_k3.1.2.1 2 rfl ?_
            refine k_istore_n [(3, .int r_16), (4, .int r_18), (7, .int r_18), (6, .int r_16), (5, .int u_5), (0, .ref h0), (1, .ref tw), (2, .int p0)] X dX7_likeliestFrame_k3.1.2.2 (nlt_e rfl) rfl ?_
            obtain ⟨z_26, ez_26⟩ : ∃ y : Int32, u_5 + Int32.ofInt 1 = y := ⟨_, rfl⟩
            refine k_iinc z_26 [(5, .int z_26), (3, .int r_16), (4, .int r_18), (7, .int r_18), (6, .int r_16), (0, .ref h0), (1, .ref tw), (2, .int p0)] 4 X dX7_likeliestFrame_k3.2.1.1 rfl ez_26 (nlt_e rfl) rfl ?_
            refine k_goto 22 X dX7_likeliestFrame_k3.2.1.2 (jp_e rfl) ?_
            refine k_lv [(5, .int z_26), (4, .int r_18), (3, .int r_16), (0, .ref h0), (1, .ref tw), (2, .int p0)] [0, 2, 1, 5, 6, 7] rfl ?_
            exact ih_10 _ (by rw [← hm_9]; exact mu_lt (by assumption) (by assumption)) z_26 r_18 r_16 rfl 


theorem dX7_sooner_k0 : (((dD cX7_sooner 0 (.iload_n 0) 1 ∧ (dD cX7_sooner 1 (.iload_n 1) 1 ∧ dD cX7_sooner 2 (.if_icmp .lt 13) 3)) ∧ ((dD cX7_sooner 5 (.iconst 0) 1 ∧ dD cX7_sooner 6 (.iload_n 0) 1) ∧ (dD cX7_sooner 7 (.iconst 2) 1 ∧ dD cX7_sooner 8 .isub 1))) ∧ (((dD cX7_sooner 9 (.invokestatic 83) 3 ∧ dD cX7_sooner 12 (.goto 4) 3) ∧ (dD cX7_sooner 15 (.iload_n 0) 1 ∧ dD cX7_sooner 16 (.istore_n 3) 1)) ∧ ((dD cX7_sooner 17 (.iload_n 3) 1 ∧ dD cX7_sooner 18 (.iload_n 2) 1) ∧ (dD cX7_sooner 19 (.invokestatic 86) 3 ∧ dD cX7_sooner 22 .ireturn 1)))) := dkA15 (by decide +kernel)
theorem dX7_pull_k0 : ((((dD cX7_pull 0 (.iconst 0) 1 ∧ dD cX7_pull 1 (.istore 4) 2) ∧ (dD cX7_pull 3 (.iload 4) 2 ∧ dD cX7_pull 5 (.aload_n 0) 1)) ∧ ((dD cX7_pull 6 (.getfield 51) 3 ∧ dD cX7_pull 9 (.if_icmp .ge 39) 3) ∧ (dD cX7_pull 12 (.aload_n 0) 1 ∧ dD cX7_pull 13 (.iload 4) 2))) ∧ (((dD cX7_pull 15 (.iconst 0) 1 ∧ dD cX7_pull 16 (.invokevirtual 43) 3) ∧ (dD cX7_pull 19 (.iload_n 1) 1 ∧ dD cX7_pull 20 (.if_icmp .ne 22) 3)) ∧ ((dD cX7_pull 23 (.aload_n 0) 1 ∧ dD cX7_pull 24 (.iload 4) 2) ∧ (dD cX7_pull 26 (.iconst 1) 1 ∧ dD cX7_pull 27 (.aload_n 0) 1)))) := dkA16 (by decide +kernel)
theorem dX7_pull_k1 : (((dD cX7_pull 28 (.iload 4) 2 ∧ dD cX7_pull 30 (.iconst 1) 1) ∧ (dD cX7_pull 31 (.invokevirtual 43) 3 ∧ (dD cX7_pull 34 (.iload_n 2) 1 ∧ dD cX7_pull 35 (.iload_n 3) 1))) ∧ ((dD cX7_pull 36 (.invokestatic 75) 3 ∧ dD cX7_pull 39 (.invokevirtual 71) 3) ∧ (dD cX7_pull 42 (.iinc 4 1) 3 ∧ (dD cX7_pull 45 (.goto (-42)) 3 ∧ dD cX7_pull 48 .return_ 1)))) := dkA10 (by decide +kernel)
theorem dX7_cutOut_k0 : ((((dD cX7_cutOut 0 (.aload_n 0) 1 ∧ dD cX7_cutOut 1 (.getfield 23) 3) ∧ (dD cX7_cutOut 4 (.iload_n 1) 1 ∧ dD cX7_cutOut 5 (.iconst 0) 1)) ∧ ((dD cX7_cutOut 6 (.invokevirtual 43) 3 ∧ dD cX7_cutOut 9 (.istore_n 2) 1) ∧ (dD cX7_cutOut 10 (.aload_n 0) 1 ∧ dD cX7_cutOut 11 (.getfield 23) 3))) ∧ (((dD cX7_cutOut 14 (.iload_n 1) 1 ∧ dD cX7_cutOut 15 (.iconst 1) 1) ∧ (dD cX7_cutOut 16 (.invokevirtual 43) 3 ∧ dD cX7_cutOut 19 (.istore_n 3) 1)) ∧ ((dD cX7_cutOut 20 (.aload_n 0) 1 ∧ dD cX7_cutOut 21 (.getfield 14) 3) ∧ (dD cX7_cutOut 24 (.iload_n 2) 1 ∧ dD cX7_cutOut 25 (.iconst 0) 1)))) := dkA16 (by decide +kernel)
theorem dX7_cutOut_k1 : ((((dD cX7_cutOut 26 (.invokevirtual 43) 3 ∧ dD cX7_cutOut 29 (.iconst 2) 1) ∧ (dD cX7_cutOut 30 .isub 1 ∧ dD cX7_cutOut 31 (.iconst 1) 1)) ∧ ((dD cX7_cutOut 32 .isub 1 ∧ dD cX7_cutOut 33 (.istore 4) 2) ∧ (dD cX7_cutOut 35 (.aload_n 0) 1 ∧ dD cX7_cutOut 36 (.getfield 14) 3))) ∧ (((dD cX7_cutOut 39 (.iload_n 2) 1 ∧ dD cX7_cutOut 40 (.iconst 0) 1) ∧ (dD cX7_cutOut 41 (.iload 4) 2 ∧ dD cX7_cutOut 43 (.iconst 1) 1)) ∧ ((dD cX7_cutOut 44 .iadd 1 ∧ dD cX7_cutOut 45 (.invokevirtual 71) 3) ∧ (dD cX7_cutOut 48 (.aload_n 0) 1 ∧ dD cX7_cutOut 49 (.getfield 14) 3)))) := dkA16 (by decide +kernel)
theorem dX7_cutOut_k2 : ((((dD cX7_cutOut 52 (.iload_n 2) 1 ∧ dD cX7_cutOut 53 (.iconst 1) 1) ∧ (dD cX7_cutOut 54 (.aload_n 0) 1 ∧ dD cX7_cutOut 55 (.getfield 14) 3)) ∧ ((dD cX7_cutOut 58 (.iload_n 2) 1 ∧ dD cX7_cutOut 59 (.iconst 1) 1) ∧ (dD cX7_cutOut 60 (.invokevirtual 43) 3 ∧ dD cX7_cutOut 63 (.iload_n 3) 1))) ∧ (((dD cX7_cutOut 64 (.iload 4) 2 ∧ dD cX7_cutOut 66 (.invokestatic 75) 3) ∧ (dD cX7_cutOut 69 (.invokevirtual 71) 3 ∧ dD cX7_cutOut 72 (.aload_n 0) 1)) ∧ ((dD cX7_cutOut 73 (.getfield 20) 3 ∧ dD cX7_cutOut 76 (.iload_n 2) 1) ∧ (dD cX7_cutOut 77 (.iload_n 3) 1 ∧ dD cX7_cutOut 78 (.iload 4) 2)))) := dkA16 (by decide +kernel)
theorem dX7_cutOut_k3 : ((((dD cX7_cutOut 80 (.invokestatic 79) 3 ∧ dD cX7_cutOut 83 (.aload_n 0) 1) ∧ (dD cX7_cutOut 84 (.getfield 23) 3 ∧ dD cX7_cutOut 87 (.iload_n 2) 1)) ∧ ((dD cX7_cutOut 88 (.iload_n 3) 1 ∧ dD cX7_cutOut 89 (.iload 4) 2) ∧ (dD cX7_cutOut 91 (.invokestatic 79) 3 ∧ dD cX7_cutOut 94 (.aload_n 0) 1))) ∧ (((dD cX7_cutOut 95 .dup 1 ∧ dD cX7_cutOut 96 (.getfield 29) 3) ∧ (dD cX7_cutOut 99 (.iconst 1) 1 ∧ dD cX7_cutOut 100 (.iload_n 1) 1)) ∧ ((dD cX7_cutOut 101 .ishl 1 ∧ dD cX7_cutOut 102 .ior 1) ∧ (dD cX7_cutOut 103 (.putfield 29) 3 ∧ dD cX7_cutOut 106 .return_ 1)))) := dkA16 (by decide +kernel)
theorem dX7_clear_k0 : ((((dD cX7_clear 0 (.aload_n 0) 1 ∧ dD cX7_clear 1 (.getfield 14) 3) ∧ (dD cX7_clear 4 (.invokevirtual 36) 3 ∧ dD cX7_clear 7 (.aload_n 0) 1)) ∧ ((dD cX7_clear 8 (.getfield 20) 3 ∧ dD cX7_clear 11 (.invokevirtual 36) 3) ∧ (dD cX7_clear 14 (.aload_n 0) 1 ∧ dD cX7_clear 15 (.getfield 23) 3))) ∧ (((dD cX7_clear 18 (.invokevirtual 36) 3 ∧ dD cX7_clear 21 (.aload_n 0) 1) ∧ (dD cX7_clear 22 (.getfield 26) 3 ∧ dD cX7_clear 25 (.invokevirtual 36) 3)) ∧ ((dD cX7_clear 28 (.aload_n 0) 1 ∧ dD cX7_clear 29 (.iconst 0) 1) ∧ (dD cX7_clear 30 (.putfield 29) 3 ∧ dD cX7_clear 33 (.aload_n 0) 1)))) := dkA16 (by decide +kernel)
theorem dX7_clear_k1 : (dD cX7_clear 34 (.iconst 0) 1 ∧ (dD cX7_clear 35 (.putfield 33) 3 ∧ dD cX7_clear 38 .return_ 1)) := dkA3 (by decide +kernel)
theorem dX7_copyFrom_k0 : ((((dD cX7_copyFrom 0 (.aload_n 1) 1 ∧ dD cX7_copyFrom 1 (.ifnonnull 4) 3) ∧ (dD cX7_copyFrom 5 (.aload_n 0) 1 ∧ dD cX7_copyFrom 6 (.getfield 14) 3)) ∧ ((dD cX7_copyFrom 9 (.aload_n 1) 1 ∧ dD cX7_copyFrom 10 (.getfield 14) 3) ∧ (dD cX7_copyFrom 13 (.invokevirtual 39) 3 ∧ dD cX7_copyFrom 16 (.aload_n 0) 1))) ∧ (((dD cX7_copyFrom 17 (.getfield 20) 3 ∧ dD cX7_copyFrom 20 (.aload_n 1) 1) ∧ (dD cX7_copyFrom 21 (.getfield 20) 3 ∧ dD cX7_copyFrom 24 (.invokevirtual 39) 3)) ∧ ((dD cX7_copyFrom 27 (.aload_n 0) 1 ∧ dD cX7_copyFrom 28 (.getfield 23) 3) ∧ (dD cX7_copyFrom 31 (.aload_n 1) 1 ∧ dD cX7_copyFrom 32 (.getfield 23) 3)))) := dkA16 (by decide +kernel)
theorem dX7_copyFrom_k1 : (((dD cX7_copyFrom 35 (.invokevirtual 39) 3 ∧ (dD cX7_copyFrom 38 (.aload_n 0) 1 ∧ dD cX7_copyFrom 39 (.getfield 26) 3)) ∧ ((dD cX7_copyFrom 42 (.aload_n 1) 1 ∧ dD cX7_copyFrom 43 (.getfield 26) 3) ∧ (dD cX7_copyFrom 46 (.invokevirtual 39) 3 ∧ dD cX7_copyFrom 49 (.aload_n 0) 1))) ∧ (((dD cX7_copyFrom 50 (.aload_n 1) 1 ∧ dD cX7_copyFrom 51 (.getfield 29) 3) ∧ (dD cX7_copyFrom 54 (.putfield 29) 3 ∧ dD cX7_copyFrom 57 (.aload_n 0) 1)) ∧ ((dD cX7_copyFrom 58 (.aload_n 1) 1 ∧ dD cX7_copyFrom 59 (.getfield 33) 3) ∧ (dD cX7_copyFrom 62 (.putfield 33) 3 ∧ dD cX7_copyFrom 65 .return_ 1)))) := dkA15 (by decide +kernel)

theorem dX5_slipBy_k0 : ((dD cX5_slipBy 0 (.aload_n 0) 1 ∧ (dD cX5_slipBy 1 (.iconst 0) 1 ∧ dD cX5_slipBy 2 (.putfield 30) 3)) ∧ ((dD cX5_slipBy 5 (.aload_n 0) 1 ∧ dD cX5_slipBy 6 (.iload_n 1) 1) ∧ (dD cX5_slipBy 7 (.putfield 27) 3 ∧ dD cX5_slipBy 10 .return_ 1))) := dkA7 (by decide +kernel)
set_option maxHeartbeats 4000000 in
set_option maxRecDepth 100000 in
theorem n_slipBy (l : Launch) (g : Gx) (h0 : Nat) (p0 : Int32) (nr : Nat) (xsnapped : Int32) (xmostSlip : Int32) (xslip : Int32) (xisDrawn : Int32) (xseed : Int32) (xtick : Int32) (xmotorTick : Int32) (xahead : Int32) : cV l g yX5_slipBy cX5_slipBy 2 0 0 0 0 [.ref h0, .int p0] [(cO5_riiiiiiii h0 nr xsnapped xmostSlip xslip xisDrawn xseed xtick xmotorTick xahead)] (fun w => ∃ (xisDrawn2 : Int32) (xslip2 : Int32), w = [(cO5_riiiiiiii h0 nr xsnapped xmostSlip xslip2 xisDrawn2 xseed xtick xmotorTick xahead)]) := by
  refine cV.of (by decide) (Nat.le_of_ble_eq_true rfl) ?_
  intro p e s m args below meth c A X hr hi
  refine k_lveq [(0, .ref h0), (1, .int p0)] rfl ?_
  refine k_aload_n X dX5_slipBy_k0.1.1 0 rfl ?_
  refine k_iconst (v := 0) X dX5_slipBy_k0.1.2.1 ic_0 ?_
  refine k_put (ci := 5) [(cO5_riiiiiiii h0 nr xsnapped xmostSlip xslip 0 xseed xtick xmotorTick xahead)] X inlX5 rfl tyX5_ok nmX5 4 (nlt_e rfl) rfl dX5_slipBy_k0.1.2.2 mw129 0 rfl (by decide) (by decide) (Nat.le_of_ble_eq_true rfl) rfl ?_
  refine k_aload_n X dX5_slipBy_k0.2.1.1 0 rfl ?_
  refine k_iload_n X dX5_slipBy_k0.2.1.2 1 rfl ?_
  refine k_put (ci := 5) [(cO5_riiiiiiii h0 nr xsnapped xmostSlip p0 0 xseed xtick xmotorTick xahead)] X inlX5 rfl tyX5_ok nmX5 3 (nlt_e rfl) rfl dX5_slipBy_k0.2.2.1 mw128 0 rfl rfl rfl (Nat.le_of_ble_eq_true rfl) rfl ?_
  exact k_vret X hr dX5_slipBy_k0.2.2.2 (Nat.le_of_ble_eq_true rfl) (Nat.le_of_ble_eq_true rfl) [0] (vnd_e rfl) rfl rfl ⟨0, p0, rfl⟩

theorem dX5_drawBy_k0 : ((dD cX5_drawBy 0 (.aload_n 0) 1 ∧ (dD cX5_drawBy 1 (.iconst 1) 1 ∧ dD cX5_drawBy 2 (.putfield 30) 3)) ∧ ((dD cX5_drawBy 5 (.aload_n 0) 1 ∧ dD cX5_drawBy 6 (.iload_n 1) 1) ∧ (dD cX5_drawBy 7 (.putfield 34) 3 ∧ dD cX5_drawBy 10 .return_ 1))) := dkA7 (by decide +kernel)
set_option maxHeartbeats 4000000 in
set_option maxRecDepth 100000 in
theorem n_drawBy (l : Launch) (g : Gx) (h0 : Nat) (p0 : Int32) (nr : Nat) (xsnapped : Int32) (xmostSlip : Int32) (xslip : Int32) (xisDrawn : Int32) (xseed : Int32) (xtick : Int32) (xmotorTick : Int32) (xahead : Int32) : cV l g yX5_drawBy cX5_drawBy 2 0 0 0 0 [.ref h0, .int p0] [(cO5_riiiiiiii h0 nr xsnapped xmostSlip xslip xisDrawn xseed xtick xmotorTick xahead)] (fun w => ∃ (xisDrawn2 : Int32) (xseed2 : Int32), w = [(cO5_riiiiiiii h0 nr xsnapped xmostSlip xslip xisDrawn2 xseed2 xtick xmotorTick xahead)]) := by
  refine cV.of (by decide) (Nat.le_of_ble_eq_true rfl) ?_
  intro p e s m args below meth c A X hr hi
  refine k_lveq [(0, .ref h0), (1, .int p0)] rfl ?_
  refine k_aload_n X dX5_drawBy_k0.1.1 0 rfl ?_
  refine k_iconst (v := 1) X dX5_drawBy_k0.1.2.1 ic_1 ?_
  refine k_put (ci := 5) [(cO5_riiiiiiii h0 nr xsnapped xmostSlip xslip 1 xseed xtick xmotorTick xahead)] X inlX5 rfl tyX5_ok nmX5 4 (nlt_e rfl) rfl dX5_drawBy_k0.1.2.2 mw129 0 rfl (by decide) (by decide) (Nat.le_of_ble_eq_true rfl) rfl ?_
  refine k_aload_n X dX5_drawBy_k0.2.1.1 0 rfl ?_
  refine k_iload_n X dX5_drawBy_k0.2.1.2 1 rfl ?_
  refine k_put (ci := 5) [(cO5_riiiiiiii h0 nr xsnapped xmostSlip xslip 1 p0 xtick xmotorTick xahead)] X inlX5 rfl tyX5_ok nmX5 5 (nlt_e rfl) rfl dX5_drawBy_k0.2.2.1 mw130 0 rfl rfl rfl (Nat.le_of_ble_eq_true rfl) rfl ?_
  exact k_vret X hr dX5_drawBy_k0.2.2.2 (Nat.le_of_ble_eq_true rfl) (Nat.le_of_ble_eq_true rfl) [0] (vnd_e rfl) rfl rfl ⟨1, p0, rfl⟩

theorem dX5_draw_k0 : (((dD cX5_draw 0 (.aload_n 0) 1 ∧ (dD cX5_draw 1 (.bipush 75) 2 ∧ dD cX5_draw 3 (.aload_n 0) 1)) ∧ (dD cX5_draw 4 (.getfield 34) 3 ∧ (dD cX5_draw 7 .imul 1 ∧ dD cX5_draw 8 (.bipush 74) 2))) ∧ ((dD cX5_draw 10 .iadd 1 ∧ (dD cX5_draw 11 (.ldc 114) 2 ∧ dD cX5_draw 13 .irem 1)) ∧ ((dD cX5_draw 14 (.putfield 34) 3 ∧ dD cX5_draw 17 (.aload_n 0) 1) ∧ (dD cX5_draw 18 (.getfield 34) 3 ∧ dD cX5_draw 21 .ireturn 1)))) := dkA13 (by decide +kernel)
set_option maxHeartbeats 4000000 in
set_option maxRecDepth 100000 in
theorem n_draw (l : Launch) (g : Gx) (h0 : Nat) (nr : Nat) (xsnapped : Int32) (xmostSlip : Int32) (xslip : Int32) (xisDrawn : Int32) (xseed : Int32) (xtick : Int32) (xmotorTick : Int32) (xahead : Int32) : cI l g yX5_draw cX5_draw 1 (some .int) 0 0 0 0 [.ref h0] [(cO5_riiiiiiii h0 nr xsnapped xmostSlip xslip xisDrawn xseed xtick xmotorTick xahead)] (fun r w => ∃ (xseed2 : Int32), w = [(cO5_riiiiiiii h0 nr xsnapped xmostSlip xslip xisDrawn xseed2 xtick xmotorTick xahead)]) := by
  refine cI.of (by decide) (Nat.le_of_ble_eq_true rfl) ?_
  intro p e s m args below meth c A X hr hi
  refine k_lveq [(0, .ref h0)] rfl ?_
  refine k_aload_n X dX5_draw_k0.1.1.1 0 rfl ?_
  refine k_bipush (v := 75) X dX5_draw_k0.1.1.2.1 bi_75 ?_
  refine k_aload_n X dX5_draw_k0.1.1.2.2 0 rfl ?_
  refine k_get (ci := 5) X inlX5 rfl 5 (nlt_e rfl) dX5_draw_k0.1.2.1 mw130 0 rfl rfl ?_
  refine k_imul X dX5_draw_k0.1.2.2.1 ?_
  refine k_nm (fun z_1 ez_1 => ?_)
  refine k_bipush (v := 74) X dX5_draw_k0.1.2.2.2 bi_74 ?_
  refine k_iadd X dX5_draw_k0.2.1.1 ?_
  refine k_nm (fun z_2 ez_2 => ?_)
  refine k_ldc (v := 65537) X dX5_draw_k0.2.1.2.1 mw795 ?_
  refine k_irem X dX5_draw_k0.2.1.2.2 (by decide) ?_
  refine k_nm (fun z_3 ez_3 => ?_)
  refine k_put (ci := 5) [(cO5_riiiiiiii h0 nr xsnapped xmostSlip xslip xisDrawn z_3 xtick xmotorTick xahead)] X inlX5 rfl tyX5_ok nmX5 5 (nlt_e rfl) rfl dX5_draw_k0.2.2.1.1 mw130 0 rfl rfl rfl (Nat.le_of_ble_eq_true rfl) rfl ?_
  refine k_aload_n X dX5_draw_k0.2.2.1.2 0 rfl ?_
  refine k_get (ci := 5) X inlX5 rfl 5 (nlt_e rfl) dX5_draw_k0.2.2.2.1 mw130 0 rfl rfl ?_
  exact k_iret X hr dX5_draw_k0.2.2.2.2 (Nat.le_of_ble_eq_true rfl) (Nat.le_of_ble_eq_true rfl) [0] (vnd_e rfl) rfl rfl ⟨z_3, rfl⟩

theorem dX5_goBy_k0 : ((((dD cX5_goBy 0 (.aload_n 0) 1 ∧ dD cX5_goBy 1 (.getfield 14) 3) ∧ (dD cX5_goBy 4 (.iload_n 1) 1 ∧ dD cX5_goBy 5 (.iconst 0) 1)) ∧ ((dD cX5_goBy 6 (.iload_n 2) 1 ∧ dD cX5_goBy 7 (.invokevirtual 76) 3) ∧ (dD cX5_goBy 10 (.aload_n 0) 1 ∧ dD cX5_goBy 11 (.getfield 14) 3))) ∧ (((dD cX5_goBy 14 (.iload_n 1) 1 ∧ dD cX5_goBy 15 (.iconst 1) 1) ∧ (dD cX5_goBy 16 (.iconst 0) 1 ∧ dD cX5_goBy 17 (.invokevirtual 76) 3)) ∧ ((dD cX5_goBy 20 (.aload_n 0) 1 ∧ dD cX5_goBy 21 (.getfield 14) 3) ∧ (dD cX5_goBy 24 (.iload_n 1) 1 ∧ dD cX5_goBy 25 (.iconst 2) 1)))) := dkA16 (by decide +kernel)
theorem dX5_goBy_k1 : ((((dD cX5_goBy 26 (.iconst 0) 1 ∧ dD cX5_goBy 27 (.invokevirtual 76) 3) ∧ (dD cX5_goBy 30 (.aload_n 0) 1 ∧ dD cX5_goBy 31 (.getfield 14) 3)) ∧ ((dD cX5_goBy 34 (.iload_n 1) 1 ∧ dD cX5_goBy 35 (.iconst 3) 1) ∧ (dD cX5_goBy 36 (.iconst 1) 1 ∧ dD cX5_goBy 37 (.invokevirtual 76) 3))) ∧ (((dD cX5_goBy 40 (.aload_n 0) 1 ∧ dD cX5_goBy 41 (.getfield 14) 3) ∧ (dD cX5_goBy 44 (.iload_n 1) 1 ∧ dD cX5_goBy 45 (.iconst 4) 1)) ∧ ((dD cX5_goBy 46 (.bipush (-2)) 2 ∧ dD cX5_goBy 48 (.invokevirtual 76) 3) ∧ (dD cX5_goBy 51 (.aload_n 0) 1 ∧ dD cX5_goBy 52 (.getfield 14) 3)))) := dkA16 (by decide +kernel)
theorem dX5_goBy_k2 : ((((dD cX5_goBy 55 (.iload_n 1) 1 ∧ dD cX5_goBy 56 (.iconst 5) 1) ∧ (dD cX5_goBy 57 (.iconst 0) 1 ∧ dD cX5_goBy 58 (.invokevirtual 76) 3)) ∧ ((dD cX5_goBy 61 (.aload_n 0) 1 ∧ dD cX5_goBy 62 (.getfield 14) 3) ∧ (dD cX5_goBy 65 (.iload_n 1) 1 ∧ dD cX5_goBy 66 (.bipush 6) 2))) ∧ (((dD cX5_goBy 68 (.aload_n 0) 1 ∧ dD cX5_goBy 69 (.getfield 37) 3) ∧ (dD cX5_goBy 72 (.invokevirtual 76) 3 ∧ dD cX5_goBy 75 (.aload_n 0) 1)) ∧ ((dD cX5_goBy 76 (.getfield 14) 3 ∧ dD cX5_goBy 79 (.iload_n 1) 1) ∧ (dD cX5_goBy 80 (.bipush 7) 2 ∧ dD cX5_goBy 82 (.aload_n 0) 1)))) := dkA16 (by decide +kernel)
theorem dX5_goBy_k3 : (((dD cX5_goBy 83 (.getfield 37) 3 ∧ dD cX5_goBy 86 (.invokevirtual 76) 3) ∧ (dD cX5_goBy 89 (.aload_n 0) 1 ∧ (dD cX5_goBy 90 (.aload_n 0) 1 ∧ dD cX5_goBy 91 (.getfield 37) 3))) ∧ ((dD cX5_goBy 94 (.putfield 40) 3 ∧ dD cX5_goBy 97 (.aload_n 0) 1) ∧ (dD cX5_goBy 98 (.iconst 0) 1 ∧ (dD cX5_goBy 99 (.putfield 43) 3 ∧ dD cX5_goBy 102 .return_ 1)))) := dkA10 (by decide +kernel)
set_option maxHeartbeats 4000000 in
set_option maxRecDepth 100000 in
theorem n_goBy (l : Launch) (g : Gx) (h0 : Nat) (p0 : Int32) (p1 : Int32) (nr : Nat) (xsnapped : Int32) (xmostSlip : Int32) (xslip : Int32) (xisDrawn : Int32) (xseed : Int32) (xtick : Int32) (xmotorTick : Int32) (xahead : Int32) (nrc : Nat) (nrn : Int32) (nrf : Nat → Int32) : cV l g yX5_goBy cX5_goBy 3 1 23 0 0 [.ref h0, .int p0, .int p1] [(cO5_riiiiiiii h0 nr xsnapped xmostSlip xslip xisDrawn xseed xtick xmotorTick xahead), (cO8_iiri nr 8 10 nrc nrn), (cAI g nrc 80 nrf)] (fun w => ∃ (xmotorTick2 : Int32) (xahead2 : Int32) (nrg : Nat → Int32), w = [(cO5_riiiiiiii h0 nr xsnapped xmostSlip xslip xisDrawn xseed xtick xmotorTick2 xahead2), (cO8_iiri nr 8 10 nrc nrn), (cAI g nrc 80 nrg)]) := by
  refine cV.of (by decide) (Nat.le_of_ble_eq_true rfl) ?_
  intro p e s m args below meth c A X hr hi
  refine k_lveq [(0, .ref h0), (1, .int p0), (2, .int p1)] rfl ?_
  refine k_aload_n X dX5_goBy_k0.1.1.1.1 0 rfl ?_
  refine k_get (ci := 5) X inlX5 rfl 0 (nlt_e rfl) dX5_goBy_k0.1.1.1.2 mw125 0 rfl rfl ?_
  refine k_iload_n X dX5_goBy_k0.1.1.2.1 1 rfl ?_
  refine k_iconst (v := 0) X dX5_goBy_k0.1.1.2.2 ic_0 ?_
  refine k_iload_n X dX5_goBy_k0.1.2.1.1 2 rfl ?_
  refine k_callVV (n := 3) (As := [.int p0, .int 0, .int p1]) (st := []) X [(cO8_iiri nr 8 10 nrc nrn), (cAI g nrc 80 nrf)] [(cO5_riiiiiiii h0 nr xsnapped xmostSlip xslip xisDrawn xseed xtick xmotorTick xahead)] [1, 2] [0] (t_put l g nr p0 0 p1 8 10 nrc nrn 80 nrf (tbk_8_10)) dX5_goBy_k0.1.2.1.2 mw766 mw326 mw327 mw64 mw328 rfl 8 rfl rfl 0 _ rfl yk_yX8_put_3 rfl (Nat.le_of_ble_eq_true rfl) (Nat.le_of_ble_eq_true rfl) (Nat.le_of_ble_eq_true rfl) (Nat.le_of_ble_eq_true rfl) (Nat.le_of_ble_eq_true rfl) rfl rfl (vnd_e rfl) rfl (vnd_e rfl) (dsj_e rfl) ?_
  rintro w ⟨fa_1, hr_3, rfl⟩
  refine k_ws [(cO5_riiiiiiii h0 nr xsnapped xmostSlip xslip xisDrawn xseed xtick xmotorTick xahead), (cO8_iiri nr 8 10 nrc nrn), (cAI g nrc 80 fa_1)] rfl ?_
  refine k_aload_n X dX5_goBy_k0.1.2.2.1 0 rfl ?_
  refine k_get (ci := 5) X inlX5 rfl 0 (nlt_e rfl) dX5_goBy_k0.1.2.2.2 mw125 0 rfl rfl ?_
  refine k_iload_n X dX5_goBy_k0.2.1.1.1 1 rfl ?_
  refine k_iconst (v := 1) X dX5_goBy_k0.2.1.1.2 ic_1 ?_
  refine k_iconst (v := 0) X dX5_goBy_k0.2.1.2.1 ic_0 ?_
  refine k_callVV (n := 3) (As := [.int p0, .int 1, .int 0]) (st := []) X [(cO8_iiri nr 8 10 nrc nrn), (cAI g nrc 80 fa_1)] [(cO5_riiiiiiii h0 nr xsnapped xmostSlip xslip xisDrawn xseed xtick xmotorTick xahead)] [1, 2] [0] (t_put l g nr p0 1 0 8 10 nrc nrn 80 fa_1 (tbk_8_10)) dX5_goBy_k0.2.1.2.2 mw766 mw326 mw327 mw64 mw328 rfl 8 rfl rfl 0 _ rfl yk_yX8_put_3 rfl (Nat.le_of_ble_eq_true rfl) (Nat.le_of_ble_eq_true rfl) (Nat.le_of_ble_eq_true rfl) (Nat.le_of_ble_eq_true rfl) (Nat.le_of_ble_eq_true rfl) rfl rfl (vnd_e rfl) rfl (vnd_e rfl) (dsj_e rfl) ?_
  rintro w ⟨fa_4, hr_6, rfl⟩
  refine k_ws [(cO5_riiiiiiii h0 nr xsnapped xmostSlip xslip xisDrawn xseed xtick xmotorTick xahead), (cO8_iiri nr 8 10 nrc nrn), (cAI g nrc 80 fa_4)] rfl ?_
  refine k_aload_n X dX5_goBy_k0.2.2.1.1 0 rfl ?_
  refine k_get (ci := 5) X inlX5 rfl 0 (nlt_e rfl) dX5_goBy_k0.2.2.1.2 mw125 0 rfl rfl ?_
  refine k_iload_n X dX5_goBy_k0.2.2.2.1 1 rfl ?_
  refine k_iconst (v := 2) X dX5_goBy_k0.2.2.2.2 ic_2 ?_
  refine k_iconst (v := 0) X dX5_goBy_k1.1.1.1.1 ic_0 ?_
  refine k_callVV (n := 3) (As := [.int p0, .int 2, .int 0]) (st := []) X [(cO8_iiri nr 8 10 nrc nrn), (cAI g nrc 80 fa_4)] [(cO5_riiiiiiii h0 nr xsnapped xmostSlip xslip xisDrawn xseed xtick xmotorTick xahead)] [1, 2] [0] (t_put l g nr p0 2 0 8 10 nrc nrn 80 fa_4 (tbk_8_10)) dX5_goBy_k1.1.1.1.2 mw766 mw326 mw327 mw64 mw328 rfl 8 rfl rfl 0 _ rfl yk_yX8_put_3 rfl (Nat.le_of_ble_eq_true rfl) (Nat.le_of_ble_eq_true rfl) (Nat.le_of_ble_eq_true rfl) (Nat.le_of_ble_eq_true rfl) (Nat.le_of_ble_eq_true rfl) rfl rfl (vnd_e rfl) rfl (vnd_e rfl) (dsj_e rfl) ?_
  rintro w ⟨fa_7, hr_9, rfl⟩
  refine k_ws [(cO5_riiiiiiii h0 nr xsnapped xmostSlip xslip xisDrawn xseed xtick xmotorTick xahead), (cO8_iiri nr 8 10 nrc nrn), (cAI g nrc 80 fa_7)] rfl ?_
  refine k_aload_n X dX5_goBy_k1.1.1.2.1 0 rfl ?_
  refine k_get (ci := 5) X inlX5 rfl 0 (nlt_e rfl) dX5_goBy_k1.1.1.2.2 mw125 0 rfl rfl ?_
  refine k_iload_n X dX5_goBy_k1.1.2.1.1 1 rfl ?_
  refine k_iconst (v := 3) X dX5_goBy_k1.1.2.1.2 ic_3 ?_
  refine k_iconst (v := 1) X dX5_goBy_k1.1.2.2.1 ic_1 ?_
  refine k_callVV (n := 3) (As := [.int p0, .int 3, .int 1]) (st := []) X [(cO8_iiri nr 8 10 nrc nrn), (cAI g nrc 80 fa_7)] [(cO5_riiiiiiii h0 nr xsnapped xmostSlip xslip xisDrawn xseed xtick xmotorTick xahead)] [1, 2] [0] (t_put l g nr p0 3 1 8 10 nrc nrn 80 fa_7 (tbk_8_10)) dX5_goBy_k1.1.2.2.2 mw766 mw326 mw327 mw64 mw328 rfl 8 rfl rfl 0 _ rfl yk_yX8_put_3 rfl (Nat.le_of_ble_eq_true rfl) (Nat.le_of_ble_eq_true rfl) (Nat.le_of_ble_eq_true rfl) (Nat.le_of_ble_eq_true rfl) (Nat.le_of_ble_eq_true rfl) rfl rfl (vnd_e rfl) rfl (vnd_e rfl) (dsj_e rfl) ?_
  rintro w ⟨fa_10, hr_12, rfl⟩
  refine k_ws [(cO5_riiiiiiii h0 nr xsnapped xmostSlip xslip xisDrawn xseed xtick xmotorTick xahead), (cO8_iiri nr 8 10 nrc nrn), (cAI g nrc 80 fa_10)] rfl ?_
  refine k_aload_n X dX5_goBy_k1.2.1.1.1 0 rfl ?_
  refine k_get (ci := 5) X inlX5 rfl 0 (nlt_e rfl) dX5_goBy_k1.2.1.1.2 mw125 0 rfl rfl ?_
  refine k_iload_n X dX5_goBy_k1.2.1.2.1 1 rfl ?_
  refine k_iconst (v := 4) X dX5_goBy_k1.2.1.2.2 ic_4 ?_
  refine k_bipush (v := -2) X dX5_goBy_k1.2.2.1.1 bi_m2 ?_
  refine k_callVV (n := 3) (As := [.int p0, .int 4, .int (-2)]) (st := []) X [(cO8_iiri nr 8 10 nrc nrn), (cAI g nrc 80 fa_10)] [(cO5_riiiiiiii h0 nr xsnapped xmostSlip xslip xisDrawn xseed xtick xmotorTick xahead)] [1, 2] [0] (t_put l g nr p0 4 ((-2)) 8 10 nrc nrn 80 fa_10 (tbk_8_10)) dX5_goBy_k1.2.2.1.2 mw766 mw326 mw327 mw64 mw328 rfl 8 rfl rfl 0 _ rfl yk_yX8_put_3 rfl (Nat.le_of_ble_eq_true rfl) (Nat.le_of_ble_eq_true rfl) (Nat.le_of_ble_eq_true rfl) (Nat.le_of_ble_eq_true rfl) (Nat.le_of_ble_eq_true rfl) rfl rfl (vnd_e rfl) rfl (vnd_e rfl) (dsj_e rfl) ?_
  rintro w ⟨fa_13, hr_15, rfl⟩
  refine k_ws [(cO5_riiiiiiii h0 nr xsnapped xmostSlip xslip xisDrawn xseed xtick xmotorTick xahead), (cO8_iiri nr 8 10 nrc nrn), (cAI g nrc 80 fa_13)] rfl ?_
  refine k_aload_n X dX5_goBy_k1.2.2.2.1 0 rfl ?_
  refine k_get (ci := 5) X inlX5 rfl 0 (nlt_e rfl) dX5_goBy_k1.2.2.2.2 mw125 0 rfl rfl ?_
  refine k_iload_n X dX5_goBy_k2.1.1.1.1 1 rfl ?_
  refine k_iconst (v := 5) X dX5_goBy_k2.1.1.1.2 ic_5 ?_
  refine k_iconst (v := 0) X dX5_goBy_k2.1.1.2.1 ic_0 ?_
  refine k_callVV (n := 3) (As := [.int p0, .int 5, .int 0]) (st := []) X [(cO8_iiri nr 8 10 nrc nrn), (cAI g nrc 80 fa_13)] [(cO5_riiiiiiii h0 nr xsnapped xmostSlip xslip xisDrawn xseed xtick xmotorTick xahead)] [1, 2] [0] (t_put l g nr p0 5 0 8 10 nrc nrn 80 fa_13 (tbk_8_10)) dX5_goBy_k2.1.1.2.2 mw766 mw326 mw327 mw64 mw328 rfl 8 rfl rfl 0 _ rfl yk_yX8_put_3 rfl (Nat.le_of_ble_eq_true rfl) (Nat.le_of_ble_eq_true rfl) (Nat.le_of_ble_eq_true rfl) (Nat.le_of_ble_eq_true rfl) (Nat.le_of_ble_eq_true rfl) rfl rfl (vnd_e rfl) rfl (vnd_e rfl) (dsj_e rfl) ?_
  rintro w ⟨fa_16, hr_18, rfl⟩
  refine k_ws [(cO5_riiiiiiii h0 nr xsnapped xmostSlip xslip xisDrawn xseed xtick xmotorTick xahead), (cO8_iiri nr 8 10 nrc nrn), (cAI g nrc 80 fa_16)] rfl ?_
  refine k_aload_n X dX5_goBy_k2.1.2.1.1 0 rfl ?_
  refine k_get (ci := 5) X inlX5 rfl 0 (nlt_e rfl) dX5_goBy_k2.1.2.1.2 mw125 0 rfl rfl ?_
  refine k_iload_n X dX5_goBy_k2.1.2.2.1 1 rfl ?_
  refine k_bipush (v := 6) X dX5_goBy_k2.1.2.2.2 bi_6 ?_
  refine k_aload_n X dX5_goBy_k2.2.1.1.1 0 rfl ?_
  refine k_get (ci := 5) X inlX5 rfl 6 (nlt_e rfl) dX5_goBy_k2.2.1.1.2 mw131 0 rfl rfl ?_
  refine k_callVV (n := 3) (As := [.int p0, .int 6, .int xtick]) (st := []) X [(cO8_iiri nr 8 10 nrc nrn), (cAI g nrc 80 fa_16)] [(cO5_riiiiiiii h0 nr xsnapped xmostSlip xslip xisDrawn xseed xtick xmotorTick xahead)] [1, 2] [0] (t_put l g nr p0 6 xtick 8 10 nrc nrn 80 fa_16 (tbk_8_10)) dX5_goBy_k2.2.1.2.1 mw766 mw326 mw327 mw64 mw328 rfl 8 rfl rfl 0 _ rfl yk_yX8_put_3 rfl (Nat.le_of_ble_eq_true rfl) (Nat.le_of_ble_eq_true rfl) (Nat.le_of_ble_eq_true rfl) (Nat.le_of_ble_eq_true rfl) (Nat.le_of_ble_eq_true rfl) rfl rfl (vnd_e rfl) rfl (vnd_e rfl) (dsj_e rfl) ?_
  rintro w ⟨fa_19, hr_21, rfl⟩
  refine k_ws [(cO5_riiiiiiii h0 nr xsnapped xmostSlip xslip xisDrawn xseed xtick xmotorTick xahead), (cO8_iiri nr 8 10 nrc nrn), (cAI g nrc 80 fa_19)] rfl ?_
  refine k_aload_n X dX5_goBy_k2.2.1.2.2 0 rfl ?_
  refine k_get (ci := 5) X inlX5 rfl 0 (nlt_e rfl) dX5_goBy_k2.2.2.1.1 mw125 0 rfl rfl ?_
  refine k_iload_n X dX5_goBy_k2.2.2.1.2 1 rfl ?_
  refine k_bipush (v := 7) X dX5_goBy_k2.2.2.2.1 bi_7 ?_
  refine k_aload_n X dX5_goBy_k2.2.2.2.2 0 rfl ?_
  refine k_get (ci := 5) X inlX5 rfl 6 (nlt_e rfl) dX5_goBy_k3.1.1.1 mw131 0 rfl rfl ?_
  refine k_callVV (n := 3) (As := [.int p0, .int 7, .int xtick]) (st := []) X [(cO8_iiri nr 8 10 nrc nrn), (cAI g nrc 80 fa_19)] [(cO5_riiiiiiii h0 nr xsnapped xmostSlip xslip xisDrawn xseed xtick xmotorTick xahead)] [1, 2] [0] (t_put l g nr p0 7 xtick 8 10 nrc nrn 80 fa_19 (tbk_8_10)) dX5_goBy_k3.1.1.2 mw766 mw326 mw327 mw64 mw328 rfl 8 rfl rfl 0 _ rfl yk_yX8_put_3 rfl (Nat.le_of_ble_eq_true rfl) (Nat.le_of_ble_eq_true rfl) (Nat.le_of_ble_eq_true rfl) (Nat.le_of_ble_eq_true rfl) (Nat.le_of_ble_eq_true rfl) rfl rfl (vnd_e rfl) rfl (vnd_e rfl) (dsj_e rfl) ?_
  rintro w ⟨fa_22, hr_24, rfl⟩
  refine k_ws [(cO5_riiiiiiii h0 nr xsnapped xmostSlip xslip xisDrawn xseed xtick xmotorTick xahead), (cO8_iiri nr 8 10 nrc nrn), (cAI g nrc 80 fa_22)] rfl ?_
  refine k_aload_n X dX5_goBy_k3.1.2.1 0 rfl ?_
  refine k_aload_n X dX5_goBy_k3.1.2.2.1 0 rfl ?_
  refine k_get (ci := 5) X inlX5 rfl 6 (nlt_e rfl) dX5_goBy_k3.1.2.2.2 mw131 0 rfl rfl ?_
  refine k_put (ci := 5) [(cO5_riiiiiiii h0 nr xsnapped xmostSlip xslip xisDrawn xseed xtick xtick xahead), (cO8_iiri nr 8 10 nrc nrn), (cAI g nrc 80 fa_22)] X inlX5 rfl tyX5_ok nmX5 7 (nlt_e rfl) rfl dX5_goBy_k3.2.1.1 mw132 0 rfl rfl rfl (Nat.le_of_ble_eq_true rfl) rfl ?_
  refine k_aload_n X dX5_goBy_k3.2.1.2 0 rfl ?_
  refine k_iconst (v := 0) X dX5_goBy_k3.2.2.1 ic_0 ?_
  refine k_put (ci := 5) [(cO5_riiiiiiii h0 nr xsnapped xmostSlip xslip xisDrawn xseed xtick xtick 0), (cO8_iiri nr 8 10 nrc nrn), (cAI g nrc 80 fa_22)] X inlX5 rfl tyX5_ok nmX5 8 (nlt_e rfl) rfl dX5_goBy_k3.2.2.2.1 mw133 0 rfl rfl rfl (Nat.le_of_ble_eq_true rfl) rfl ?_
  exact k_vret X hr dX5_goBy_k3.2.2.2.2 (Nat.le_of_ble_eq_true rfl) (Nat.le_of_ble_eq_true rfl) [0, 1, 2] (vnd_e rfl) rfl rfl ⟨xtick, 0, fa_22, rfl⟩

theorem dX5_sum_k0 : ((((dD cX5_sum 0 (.iconst 0) 1 ∧ dD cX5_sum 1 (.istore_n 2) 1) ∧ (dD cX5_sum 2 (.iconst 0) 1 ∧ dD cX5_sum 3 (.istore_n 3) 1)) ∧ ((dD cX5_sum 4 (.iload_n 3) 1 ∧ dD cX5_sum 5 (.aload_n 0) 1) ∧ (dD cX5_sum 6 (.getfield 14) 3 ∧ dD cX5_sum 9 (.getfield 51) 3))) ∧ (((dD cX5_sum 12 (.if_icmp .ge 21) 3 ∧ dD cX5_sum 15 (.iload_n 2) 1) ∧ (dD cX5_sum 16 (.aload_n 0) 1 ∧ dD cX5_sum 17 (.getfield 14) 3)) ∧ ((dD cX5_sum 20 (.iload_n 3) 1 ∧ dD cX5_sum 21 (.iload_n 1) 1) ∧ (dD cX5_sum 22 (.invokevirtual 59) 3 ∧ dD cX5_sum 25 .iadd 1)))) := dkA16 (by decide +kernel)
theorem dX5_sum_k1 : ((dD cX5_sum 26 (.istore_n 2) 1 ∧ dD cX5_sum 27 (.iinc 3 1) 3) ∧ (dD cX5_sum 30 (.goto (-26)) 3 ∧ (dD cX5_sum 33 (.iload_n 2) 1 ∧ dD cX5_sum 34 .ireturn 1))) := dkA5 (by decide +kernel)
set_option maxHeartbeats 4000000 in
set_option maxRecDepth 100000 in
theorem n_sum (l : Launch) (g : Gx) (h0 : Nat) (p0 : Int32) (nr : Nat) (xsnapped : Int32) (xmostSlip : Int32) (xslip : Int32) (xisDrawn : Int32) (xseed : Int32) (xtick : Int32) (xmotorTick : Int32) (xahead : Int32) (nrc : Nat) (nrn : Int32) (nrf : Nat → Int32) : cI l g yX5_sum cX5_sum 4 (some .int) 1 22 0 0 [.ref h0, .int p0] [(cO5_riiiiiiii h0 nr xsnapped xmostSlip xslip xisDrawn xseed xtick xmotorTick xahead), (cO8_iiri nr 8 10 nrc nrn), (cAI g nrc 80 nrf)] (fun r w => w = [(cO5_riiiiiiii h0 nr xsnapped xmostSlip xslip xisDrawn xseed xtick xmotorTick xahead), (cO8_iiri nr 8 10 nrc nrn), (cAI g nrc 80 nrf)]) := by
  refine cI.of (by decide) (Nat.le_of_ble_eq_true rfl) ?_
  intro p e s m args below meth c A X hr hi
  refine k_lveq [(0, .ref h0), (1, .int p0)] rfl ?_
  refine k_iconst (v := 0) X dX5_sum_k0.1.1.1.1 ic_0 ?_
  refine k_istore_n [(2, .int 0), (0, .ref h0), (1, .int p0)] X dX5_sum_k0.1.1.1.2 (nlt_e rfl) rfl ?_
  refine k_iconst (v := 0) X dX5_sum_k0.1.1.2.1 ic_0 ?_
  refine k_istore_n [(3, .int 0), (2, .int 0), (0, .ref h0), (1, .int p0)] X dX5_sum_k0.1.1.2.2 (nlt_e rfl) rfl ?_
  refine (fun hL : ∀ (nn_3 : Nat) (u_1 : Int32) (u_2 : Int32), (nrn.toInt - u_1.toInt).toNat = nn_3 → Wk p l e _ s m args below meth c _ A g _ _ _ [(cO5_riiiiiiii h0 nr xsnapped xmostSlip xslip xisDrawn xseed xtick xmotorTick xahead), (cO8_iiri nr 8 10 nrc nrn), (cAI g nrc 80 nrf)] [(3, .int u_1), (2, .int u_2), (0, .ref h0), (1, .int p0)] 4 [] => hL _ 0 0 rfl ) ?_
  refine fun nn_3 => Nat.strongRecOn nn_3 (fun nn_3 ih_5 => ?_)
  intro u_1 u_2 hm_4 
  refine k_iload_n X dX5_sum_k0.1.2.1.1 0 rfl ?_
  refine k_aload_n X dX5_sum_k0.1.2.1.2 2 rfl ?_
  refine k_get (ci := 5) X inlX5 rfl 0 (nlt_e rfl) dX5_sum_k0.1.2.2.1 mw125 0 rfl rfl ?_
  refine k_get (ci := 8) X inlX8 rfl 3 (nlt_e rfl) dX5_sum_k0.1.2.2.2 mw754 1 rfl rfl ?_
  refine k_ic_ge 33 X dX5_sum_k0.2.1.1.1 (jp_e rfl) (fun h_6 => ?_) (fun h_6 => ?_)
  · skip
    refine k_iload_n X dX5_sum_k1.2.2.1 1 rfl ?_
    exact k_iret X hr dX5_sum_k1.2.2.2 (Nat.le_of_ble_eq_true rfl) (Nat.le_of_ble_eq_true rfl) [0, 1, 2] (vnd_e rfl) rfl rfl rfl
  · skip
    refine k_iload_n X dX5_sum_k0.2.1.1.2 1 rfl ?_
    refine k_aload_n X dX5_sum_k0.2.1.2.1 2 rfl ?_
    refine k_get (ci := 5) X inlX5 rfl 0 (nlt_e rfl) dX5_sum_k0.2.1.2.2 mw125 0 rfl rfl ?_
    refine k_iload_n X dX5_sum_k0.2.2.1.1 0 rfl ?_
    refine k_iload_n X dX5_sum_k0.2.2.1.2 3 rfl ?_
    refine k_callVI (n := 2) (As := [.int u_1, .int p0]) (st := [.int u_2]) X [(cO8_iiri nr 8 10 nrc nrn), (cAI g nrc 80 nrf)] [(cO5_riiiiiiii h0 nr xsnapped xmostSlip xslip xisDrawn xseed xtick xmotorTick xahead)] [1, 2] [0] (t_at l g nr u_1 p0 8 10 nrc nrn 80 nrf (tbk_8_10)) dX5_sum_k0.2.2.2.1 mw757 mw376 mw377 mw64 mw378 rfl 8 rfl rfl 0 _ rfl yk_yX8_at_2 rfl (Nat.le_of_ble_eq_true rfl) (Nat.le_of_ble_eq_true rfl) (Nat.le_of_ble_eq_true rfl) (Nat.le_of_ble_eq_true rfl) (Nat.le_of_ble_eq_true rfl) rfl rfl (vnd_e rfl) rfl (vnd_e rfl) (dsj_e rfl) ?_
    rintro r_7 w ⟨hr_8, rfl⟩
    refine k_ws [(cO5_riiiiiiii h0 nr xsnapped xmostSlip xslip xisDrawn xseed xtick xmotorTick xahead), (cO8_iiri nr 8 10 nrc nrn), (cAI g nrc 80 nrf)] rfl ?_
    refine k_iadd X dX5_sum_k0.2.2.2.2 ?_
    refine k_nm (fun z_9 ez_9 => ?_)
    refine k_istore_n [(2, .int z_9), (3, .int u_1), (0, .ref h0), (1, .int p0)] X dX5_sum_k1.1.1 (nlt_e rfl) rfl ?_
    obtain ⟨z_10, ez_10⟩ : ∃ y : Int32, u_1 + Int32.ofInt 1 = y := ⟨_, rfl⟩
    refine k_iinc z_10 [(3, .int z_10), (2, .int z_9), (0, .ref h0), (1, .int p0)] 1 X dX5_sum_k1.1.2 rfl ez_10 (nlt_e rfl) rfl ?_
    refine k_goto 4 X dX5_sum_k1.2.1 (jp_e rfl) ?_
    exact ih_5 _ (by rw [← hm_4]; exact mu_lt (by assumption) (by assumption)) z_10 z_9 rfl 

theorem dX5_waste_k0 : (((dD cX5_waste 0 (.aload_n 0) 1 ∧ (dD cX5_waste 1 (.iconst 0) 1 ∧ dD cX5_waste 2 (.invokevirtual 115) 3)) ∧ (dD cX5_waste 5 (.aload_n 0) 1 ∧ (dD cX5_waste 6 (.iconst 1) 1 ∧ dD cX5_waste 7 (.invokevirtual 115) 3))) ∧ ((dD cX5_waste 10 .iadd 1 ∧ (dD cX5_waste 11 (.aload_n 0) 1 ∧ dD cX5_waste 12 (.iconst 2) 1)) ∧ (dD cX5_waste 13 (.invokevirtual 115) 3 ∧ (dD cX5_waste 16 .iadd 1 ∧ dD cX5_waste 17 .ireturn 1)))) := dkA12 (by decide +kernel)
set_option maxHeartbeats 4000000 in
set_option maxRecDepth 100000 in
theorem n_waste (l : Launch) (g : Gx) (h0 : Nat) (nr : Nat) (xsnapped : Int32) (xmostSlip : Int32) (xslip : Int32) (xisDrawn : Int32) (xseed : Int32) (xtick : Int32) (xmotorTick : Int32) (xahead : Int32) (nrc : Nat) (nrn : Int32) (nrf : Nat → Int32) : cI l g yX5_waste cX5_waste 1 (some .int) 2 45 0 0 [.ref h0] [(cO5_riiiiiiii h0 nr xsnapped xmostSlip xslip xisDrawn xseed xtick xmotorTick xahead), (cO8_iiri nr 8 10 nrc nrn), (cAI g nrc 80 nrf)] (fun r w => w = [(cO5_riiiiiiii h0 nr xsnapped xmostSlip xslip xisDrawn xseed xtick xmotorTick xahead), (cO8_iiri nr 8 10 nrc nrn), (cAI g nrc 80 nrf)]) := by
  refine cI.of (by decide) (Nat.le_of_ble_eq_true rfl) ?_
  intro p e s m args below meth c A X hr hi
  refine k_lveq [(0, .ref h0)] rfl ?_
  refine k_aload_n X dX5_waste_k0.1.1.1 0 rfl ?_
  refine k_iconst (v := 0) X dX5_waste_k0.1.1.2.1 ic_0 ?_
  refine k_callVI (n := 1) (As := [.int 0]) (st := []) X [(cO5_riiiiiiii h0 nr xsnapped xmostSlip xslip xisDrawn xseed xtick xmotorTick xahead), (cO8_iiri nr 8 10 nrc nrn), (cAI g nrc 80 nrf)] [] [0, 1, 2] [] (n_sum l g h0 0 nr xsnapped xmostSlip xslip xisDrawn xseed xtick xmotorTick xahead nrc nrn nrf) dX5_waste_k0.1.1.2.2 mw992 mw914 mw915 mw31 mw916 rfl 5 rfl rfl 0 _ rfl yk_yX5_sum_1 rfl (Nat.le_of_ble_eq_true rfl) (Nat.le_of_ble_eq_true rfl) (Nat.le_of_ble_eq_true rfl) (Nat.le_of_ble_eq_true rfl) (Nat.le_of_ble_eq_true rfl) rfl rfl (vnd_e rfl) rfl (vnd_e rfl) (dsj_e rfl) ?_
  rintro r_1 w rfl
  refine k_ws [(cO5_riiiiiiii h0 nr xsnapped xmostSlip xslip xisDrawn xseed xtick xmotorTick xahead), (cO8_iiri nr 8 10 nrc nrn), (cAI g nrc 80 nrf)] rfl ?_
  refine k_aload_n X dX5_waste_k0.1.2.1 0 rfl ?_
  refine k_iconst (v := 1) X dX5_waste_k0.1.2.2.1 ic_1 ?_
  refine k_callVI (n := 1) (As := [.int 1]) (st := [.int r_1]) X [(cO5_riiiiiiii h0 nr xsnapped xmostSlip xslip xisDrawn xseed xtick xmotorTick xahead), (cO8_iiri nr 8 10 nrc nrn), (cAI g nrc 80 nrf)] [] [0, 1, 2] [] (n_sum l g h0 1 nr xsnapped xmostSlip xslip xisDrawn xseed xtick xmotorTick xahead nrc nrn nrf) dX5_waste_k0.1.2.2.2 mw992 mw914 mw915 mw31 mw916 rfl 5 rfl rfl 0 _ rfl yk_yX5_sum_1 rfl (Nat.le_of_ble_eq_true rfl) (Nat.le_of_ble_eq_true rfl) (Nat.le_of_ble_eq_true rfl) (Nat.le_of_ble_eq_true rfl) (Nat.le_of_ble_eq_true rfl) rfl rfl (vnd_e rfl) rfl (vnd_e rfl) (dsj_e rfl) ?_
  rintro r_3 w rfl
  refine k_ws [(cO5_riiiiiiii h0 nr xsnapped xmostSlip xslip xisDrawn xseed xtick xmotorTick xahead), (cO8_iiri nr 8 10 nrc nrn), (cAI g nrc 80 nrf)] rfl ?_
  refine k_iadd X dX5_waste_k0.2.1.1 ?_
  refine k_nm (fun z_5 ez_5 => ?_)
  refine k_aload_n X dX5_waste_k0.2.1.2.1 0 rfl ?_
  refine k_iconst (v := 2) X dX5_waste_k0.2.1.2.2 ic_2 ?_
  refine k_callVI (n := 1) (As := [.int 2]) (st := [.int z_5]) X [(cO5_riiiiiiii h0 nr xsnapped xmostSlip xslip xisDrawn xseed xtick xmotorTick xahead), (cO8_iiri nr 8 10 nrc nrn), (cAI g nrc 80 nrf)] [] [0, 1, 2] [] (n_sum l g h0 2 nr xsnapped xmostSlip xslip xisDrawn xseed xtick xmotorTick xahead nrc nrn nrf) dX5_waste_k0.2.2.1 mw992 mw914 mw915 mw31 mw916 rfl 5 rfl rfl 0 _ rfl yk_yX5_sum_1 rfl (Nat.le_of_ble_eq_true rfl) (Nat.le_of_ble_eq_true rfl) (Nat.le_of_ble_eq_true rfl) (Nat.le_of_ble_eq_true rfl) (Nat.le_of_ble_eq_true rfl) rfl rfl (vnd_e rfl) rfl (vnd_e rfl) (dsj_e rfl) ?_
  rintro r_6 w rfl
  refine k_ws [(cO5_riiiiiiii h0 nr xsnapped xmostSlip xslip xisDrawn xseed xtick xmotorTick xahead), (cO8_iiri nr 8 10 nrc nrn), (cAI g nrc 80 nrf)] rfl ?_
  refine k_iadd X dX5_waste_k0.2.2.2.1 ?_
  refine k_nm (fun z_8 ez_8 => ?_)
  exact k_iret X hr dX5_waste_k0.2.2.2.2 (Nat.le_of_ble_eq_true rfl) (Nat.le_of_ble_eq_true rfl) [0, 1, 2] (vnd_e rfl) rfl rfl rfl

theorem dX5_endTick_k0 : (((dD cX5_endTick 0 (.aload_n 0) 1 ∧ dD cX5_endTick 1 (.getfield 14) 3) ∧ (dD cX5_endTick 4 (.aload_n 0) 1 ∧ (dD cX5_endTick 5 (.getfield 14) 3 ∧ dD cX5_endTick 8 (.getfield 51) 3))) ∧ ((dD cX5_endTick 11 (.iconst 1) 1 ∧ dD cX5_endTick 12 .isub 1) ∧ (dD cX5_endTick 13 (.bipush 7) 2 ∧ (dD cX5_endTick 15 (.invokevirtual 59) 3 ∧ dD cX5_endTick 18 .ireturn 1)))) := dkA10 (by decide +kernel)
set_option maxHeartbeats 4000000 in
set_option maxRecDepth 100000 in
theorem n_endTick (l : Launch) (g : Gx) (h0 : Nat) (nr : Nat) (xsnapped : Int32) (xmostSlip : Int32) (xslip : Int32) (xisDrawn : Int32) (xseed : Int32) (xtick : Int32) (xmotorTick : Int32) (xahead : Int32) (nrc : Nat) (nrn : Int32) (nrf : Nat → Int32) : cI l g yX5_endTick cX5_endTick 1 (some .int) 1 22 0 0 [.ref h0] [(cO5_riiiiiiii h0 nr xsnapped xmostSlip xslip xisDrawn xseed xtick xmotorTick xahead), (cO8_iiri nr 8 10 nrc nrn), (cAI g nrc 80 nrf)] (fun r w => w = [(cO5_riiiiiiii h0 nr xsnapped xmostSlip xslip xisDrawn xseed xtick xmotorTick xahead), (cO8_iiri nr 8 10 nrc nrn), (cAI g nrc 80 nrf)]) := by
  refine cI.of (by decide) (Nat.le_of_ble_eq_true rfl) ?_
  intro p e s m args below meth c A X hr hi
  refine k_lveq [(0, .ref h0)] rfl ?_
  refine k_aload_n X dX5_endTick_k0.1.1.1 0 rfl ?_
  refine k_get (ci := 5) X inlX5 rfl 0 (nlt_e rfl) dX5_endTick_k0.1.1.2 mw125 0 rfl rfl ?_
  refine k_aload_n X dX5_endTick_k0.1.2.1 0 rfl ?_
  refine k_get (ci := 5) X inlX5 rfl 0 (nlt_e rfl) dX5_endTick_k0.1.2.2.1 mw125 0 rfl rfl ?_
  refine k_get (ci := 8) X inlX8 rfl 3 (nlt_e rfl) dX5_endTick_k0.1.2.2.2 mw754 1 rfl rfl ?_
  refine k_iconst (v := 1) X dX5_endTick_k0.2.1.1 ic_1 ?_
  refine k_isub X dX5_endTick_k0.2.1.2 ?_
  refine k_nm (fun z_1 ez_1 => ?_)
  refine k_bipush (v := 7) X dX5_endTick_k0.2.2.1 bi_7 ?_
  refine k_callVI (n := 2) (As := [.int z_1, .int 7]) (st := []) X [(cO8_iiri nr 8 10 nrc nrn), (cAI g nrc 80 nrf)] [(cO5_riiiiiiii h0 nr xsnapped xmostSlip xslip xisDrawn xseed xtick xmotorTick xahead)] [1, 2] [0] (t_at l g nr z_1 7 8 10 nrc nrn 80 nrf (tbk_8_10)) dX5_endTick_k0.2.2.2.1 mw757 mw376 mw377 mw64 mw378 rfl 8 rfl rfl 0 _ rfl yk_yX8_at_2 rfl (Nat.le_of_ble_eq_true rfl) (Nat.le_of_ble_eq_true rfl) (Nat.le_of_ble_eq_true rfl) (Nat.le_of_ble_eq_true rfl) (Nat.le_of_ble_eq_true rfl) rfl rfl (vnd_e rfl) rfl (vnd_e rfl) (dsj_e rfl) ?_
  rintro r_2 w ⟨hr_3, rfl⟩
  refine k_ws [(cO5_riiiiiiii h0 nr xsnapped xmostSlip xslip xisDrawn xseed xtick xmotorTick xahead), (cO8_iiri nr 8 10 nrc nrn), (cAI g nrc 80 nrf)] rfl ?_
  exact k_iret X hr dX5_endTick_k0.2.2.2.2 (Nat.le_of_ble_eq_true rfl) (Nat.le_of_ble_eq_true rfl) [0, 1, 2] (vnd_e rfl) rfl rfl rfl

theorem dX5_worstChange_k0 : ((((dD cX5_worstChange 0 (.iconst 0) 1 ∧ dD cX5_worstChange 1 (.istore_n 1) 1) ∧ (dD cX5_worstChange 2 (.iconst (-1)) 1 ∧ dD cX5_worstChange 3 (.istore_n 2) 1)) ∧ ((dD cX5_worstChange 4 (.iconst 1) 1 ∧ dD cX5_worstChange 5 (.istore_n 3) 1) ∧ (dD cX5_worstChange 6 (.iload_n 3) 1 ∧ dD cX5_worstChange 7 (.aload_n 0) 1))) ∧ (((dD cX5_worstChange 8 (.getfield 14) 3 ∧ dD cX5_worstChange 11 (.getfield 51) 3) ∧ (dD cX5_worstChange 14 (.if_icmp .ge 53) 3 ∧ dD cX5_worstChange 17 (.aload_n 0) 1)) ∧ ((dD cX5_worstChange 18 (.getfield 14) 3 ∧ dD cX5_worstChange 21 (.iload_n 3) 1) ∧ (dD cX5_worstChange 22 (.iconst 0) 1 ∧ dD cX5_worstChange 23 (.invokevirtual 59) 3)))) := dkA16 (by decide +kernel)
theorem dX5_worstChange_k1 : ((((dD cX5_worstChange 26 (.aload_n 0) 1 ∧ dD cX5_worstChange 27 (.getfield 14) 3) ∧ (dD cX5_worstChange 30 (.iload_n 3) 1 ∧ dD cX5_worstChange 31 (.iconst 1) 1)) ∧ ((dD cX5_worstChange 32 (.invokevirtual 59) 3 ∧ dD cX5_worstChange 35 .iadd 1) ∧ (dD cX5_worstChange 36 (.aload_n 0) 1 ∧ dD cX5_worstChange 37 (.getfield 14) 3))) ∧ (((dD cX5_worstChange 40 (.iload_n 3) 1 ∧ dD cX5_worstChange 41 (.iconst 1) 1) ∧ (dD cX5_worstChange 42 .isub 1 ∧ dD cX5_worstChange 43 (.iconst 2) 1)) ∧ ((dD cX5_worstChange 44 (.invokevirtual 59) 3 ∧ dD cX5_worstChange 47 .iadd 1) ∧ (dD cX5_worstChange 48 (.istore 4) 2 ∧ dD cX5_worstChange 50 (.iload 4) 2)))) := dkA16 (by decide +kernel)
theorem dX5_worstChange_k2 : (((dD cX5_worstChange 52 (.iload_n 2) 1 ∧ dD cX5_worstChange 53 (.if_icmp .le 8) 3) ∧ (dD cX5_worstChange 56 (.iload 4) 2 ∧ (dD cX5_worstChange 58 (.istore_n 2) 1 ∧ dD cX5_worstChange 59 (.iload_n 3) 1))) ∧ ((dD cX5_worstChange 60 (.istore_n 1) 1 ∧ dD cX5_worstChange 61 (.iinc 3 1) 3) ∧ (dD cX5_worstChange 64 (.goto (-58)) 3 ∧ (dD cX5_worstChange 67 (.iload_n 1) 1 ∧ dD cX5_worstChange 68 .ireturn 1)))) := dkA10 (by decide +kernel)
set_option maxHeartbeats 4000000 in
set_option maxRecDepth 100000 in
theorem n_worst (l : Launch) (g : Gx) (h0 : Nat) (nr : Nat) (xsnapped : Int32) (xmostSlip : Int32) (xslip : Int32) (xisDrawn : Int32) (xseed : Int32) (xtick : Int32) (xmotorTick : Int32) (xahead : Int32) (nrc : Nat) (nrn : Int32) (nrf : Nat → Int32) : cI l g yX5_worstChange cX5_worstChange 5 (some .int) 1 22 0 0 [.ref h0] [(cO5_riiiiiiii h0 nr xsnapped xmostSlip xslip xisDrawn xseed xtick xmotorTick xahead), (cO8_iiri nr 8 10 nrc nrn), (cAI g nrc 80 nrf)] (fun r w => w = [(cO5_riiiiiiii h0 nr xsnapped xmostSlip xslip xisDrawn xseed xtick xmotorTick xahead), (cO8_iiri nr 8 10 nrc nrn), (cAI g nrc 80 nrf)]) := by
  refine cI.of (by decide) (Nat.le_of_ble_eq_true rfl) ?_
  intro p e s m args below meth c A X hr hi
  refine k_lveq [(0, .ref h0)] rfl ?_
  refine k_iconst (v := 0) X dX5_worstChange_k0.1.1.1.1 ic_0 ?_
  refine k_istore_n [(1, .int 0), (0, .ref h0)] X dX5_worstChange_k0.1.1.1.2 (nlt_e rfl) rfl ?_
  refine k_iconst (v := -1) X dX5_worstChange_k0.1.1.2.1 ic_m1 ?_
  refine k_istore_n [(2, .int (-1)), (1, .int 0), (0, .ref h0)] X dX5_worstChange_k0.1.1.2.2 (nlt_e rfl) rfl ?_
  refine k_iconst (v := 1) X dX5_worstChange_k0.1.2.1.1 ic_1 ?_
  refine k_istore_n [(3, .int 1), (2, .int (-1)), (1, .int 0), (0, .ref h0)] X dX5_worstChange_k0.1.2.1.2 (nlt_e rfl) rfl ?_
  refine (fun hL : ∀ (nn_4 : Nat) (u_1 : Int32) (u_2 : Int32) (u_3 : Int32), (nrn.toInt - u_1.toInt).toNat = nn_4 → Wk p l e _ s m args below meth c _ A g _ _ _ [(cO5_riiiiiiii h0 nr xsnapped xmostSlip xslip xisDrawn xseed xtick xmotorTick xahead), (cO8_iiri nr 8 10 nrc nrn), (cAI g nrc 80 nrf)] [(3, .int u_1), (2, .int u_2), (1, .int u_3), (0, .ref h0)] 6 [] => hL _ 1 ((-1)) 0 rfl ) ?_
  refine fun nn_4 => Nat.strongRecOn nn_4 (fun nn_4 ih_6 => ?_)
  intro u_1 u_2 u_3 hm_5 
  refine k_iload_n X dX5_worstChange_k0.1.2.2.1 0 rfl ?_
  refine k_aload_n X dX5_worstChange_k0.1.2.2.2 3 rfl ?_
  refine k_get (ci := 5) X inlX5 rfl 0 (nlt_e rfl) dX5_worstChange_k0.2.1.1.1 mw125 0 rfl rfl ?_
  refine k_get (ci := 8) X inlX8 rfl 3 (nlt_e rfl) dX5_worstChange_k0.2.1.1.2 mw754 1 rfl rfl ?_
  refine k_ic_ge 67 X dX5_worstChange_k0.2.1.2.1 (jp_e rfl) (fun h_7 => ?_) (fun h_7 => ?_)
  · skip
    refine k_iload_n X dX5_worstChange_k2.2.2.2.1 2 rfl ?_
    exact k_iret X hr dX5_worstChange_k2.2.2.2.2 (Nat.le_of_ble_eq_true rfl) (Nat.le_of_ble_eq_true rfl) [0, 1, 2] (vnd_e rfl) rfl rfl rfl
  · skip
    refine k_aload_n X dX5_worstChange_k0.2.1.2.2 3 rfl ?_
    refine k_get (ci := 5) X inlX5 rfl 0 (nlt_e rfl) dX5_worstChange_k0.2.2.1.1 mw125 0 rfl rfl ?_
    refine k_iload_n X dX5_worstChange_k0.2.2.1.2 0 rfl ?_
    refine k_iconst (v := 0) X dX5_worstChange_k0.2.2.2.1 ic_0 ?_
    refine k_callVI (n := 2) (As := [.int u_1, .int 0]) (st := []) X [(cO8_iiri nr 8 10 nrc nrn), (cAI g nrc 80 nrf)] [(cO5_riiiiiiii h0 nr xsnapped xmostSlip xslip xisDrawn xseed xtick xmotorTick xahead)] [1, 2] [0] (t_at l g nr u_1 0 8 10 nrc nrn 80 nrf (tbk_8_10)) dX5_worstChange_k0.2.2.2.2 mw757 mw376 mw377 mw64 mw378 rfl 8 rfl rfl 0 _ rfl yk_yX8_at_2 rfl (Nat.le_of_ble_eq_true rfl) (Nat.le_of_ble_eq_true rfl) (Nat.le_of_ble_eq_true rfl) (Nat.le_of_ble_eq_true rfl) (Nat.le_of_ble_eq_true rfl) rfl rfl (vnd_e rfl) rfl (vnd_e rfl) (dsj_e rfl) ?_
    rintro r_8 w ⟨hr_9, rfl⟩
    refine k_ws [(cO5_riiiiiiii h0 nr xsnapped xmostSlip xslip xisDrawn xseed xtick xmotorTick xahead), (cO8_iiri nr 8 10 nrc nrn), (cAI g nrc 80 nrf)] rfl ?_
    refine k_aload_n X dX5_worstChange_k1.1.1.1.1 3 rfl ?_
    refine k_get (ci := 5) X inlX5 rfl 0 (nlt_e rfl) dX5_worstChange_k1.1.1.1.2 mw125 0 rfl rfl ?_
    refine k_iload_n X dX5_worstChange_k1.1.1.2.1 0 rfl ?_
    refine k_iconst (v := 1) X dX5_worstChange_k1.1.1.2.2 ic_1 ?_
    refine k_callVI (n := 2) (As := [.int u_1, .int 1]) (st := [.int r_8]) X [(cO8_iiri nr 8 10 nrc nrn), (cAI g nrc 80 nrf)] [(cO5_riiiiiiii h0 nr xsnapped xmostSlip xslip xisDrawn xseed xtick xmotorTick xahead)] [1, 2] [0] (t_at l g nr u_1 1 8 10 nrc nrn 80 nrf (tbk_8_10)) dX5_worstChange_k1.1.2.1.1 mw757 mw376 mw377 mw64 mw378 rfl 8 rfl rfl 0 _ rfl yk_yX8_at_2 rfl (Nat.le_of_ble_eq_true rfl) (Nat.le_of_ble_eq_true rfl) (Nat.le_of_ble_eq_true rfl) (Nat.le_of_ble_eq_true rfl) (Nat.le_of_ble_eq_true rfl) rfl rfl (vnd_e rfl) rfl (vnd_e rfl) (dsj_e rfl) ?_
    rintro r_10 w ⟨hr_11, rfl⟩
    refine k_ws [(cO5_riiiiiiii h0 nr xsnapped xmostSlip xslip xisDrawn xseed xtick xmotorTick xahead), (cO8_iiri nr 8 10 nrc nrn), (cAI g nrc 80 nrf)] rfl ?_
    refine k_iadd X dX5_worstChange_k1.1.2.1.2 ?_
    refine k_nm (fun z_12 ez_12 => ?_)
    refine k_aload_n X dX5_worstChange_k1.1.2.2.1 3 rfl ?_
    refine k_get (ci := 5) X inlX5 rfl 0 (nlt_e rfl) dX5_worstChange_k1.1.2.2.2 mw125 0 rfl rfl ?_
    refine k_iload_n X dX5_worstChange_k1.2.1.1.1 0 rfl ?_
    refine k_iconst (v := 1) X dX5_worstChange_k1.2.1.1.2 ic_1 ?_
    refine k_isub X dX5_worstChange_k1.2.1.2.1 ?_
    refine k_nm (fun z_13 ez_13 => ?_)
    refine k_iconst (v := 2) X dX5_worstChange_k1.2.1.2.2 ic_2 ?_
    refine k_callVI (n := 2) (As := [.int z_13, .int 2]) (st := [.int z_12]) X [(cO8_iiri nr 8 10 nrc nrn), (cAI g nrc 80 nrf)] [(cO5_riiiiiiii h0 nr xsnapped xmostSlip xslip xisDrawn xseed xtick xmotorTick xahead)] [1, 2] [0] (t_at l g nr z_13 2 8 10 nrc nrn 80 nrf (tbk_8_10)) dX5_worstChange_k1.2.2.1.1 mw757 mw376 mw377 mw64 mw378 rfl 8 rfl rfl 0 _ rfl yk_yX8_at_2 rfl (Nat.le_of_ble_eq_true rfl) (Nat.le_of_ble_eq_true rfl) (Nat.le_of_ble_eq_true rfl) (Nat.le_of_ble_eq_true rfl) (Nat.le_of_ble_eq_true rfl) rfl rfl (vnd_e rfl) rfl (vnd_e rfl) (dsj_e rfl) ?_
    rintro r_14 w ⟨hr_15, rfl⟩
    refine k_ws [(cO5_riiiiiiii h0 nr xsnapped xmostSlip xslip xisDrawn xseed xtick xmotorTick xahead), (cO8_iiri nr 8 10 nrc nrn), (cAI g nrc 80 nrf)] rfl ?_
    refine k_iadd X dX5_worstChange_k1.2.2.1.2 ?_
    refine k_nm (fun z_16 ez_16 => ?_)
    refine k_istore [(4, .int z_16), (3, .int u_1), (2, .int u_2), (1, .int u_3), (0, .ref h0)] X dX5_worstChange_k1.2.2.2.1 (nlt_e rfl) rfl ?_
    refine k_iload X dX5_worstChange_k1.2.2.2.2 0 rfl ?_
    refine k_iload_n X dX5_worstChange_k2.1.1.1 2 rfl ?_
    refine k_ic_le 61 X dX5_worstChange_k2.1.1.2 (jp_e rfl) (fun h_17 => ?_) (fun h_17 => ?_)
    · skip
      obtain ⟨z_18, ez_18⟩ : ∃ y : Int32, u_1 + Int32.ofInt 1 = y := ⟨_, rfl⟩
      refine k_iinc z_18 [(3, .int z_18), (4, .int z_16), (2, .int u_2), (1, .int u_3), (0, .ref h0)] 1 X dX5_worstChange_k2.2.1.2 rfl ez_18 (nlt_e rfl) rfl ?_
      refine k_goto 6 X dX5_worstChange_k2.2.2.1 (jp_e rfl) ?_
      refine k_lv [(3, .int z_18), (2, .int u_2), (1, .int u_3), (0, .ref h0)] [0, 2, 3, 4] rfl ?_
      exact ih_6 _ (by rw [← hm_5]; exact mu_lt (by assumption) (by assumption)) z_18 u_2 u_3 rfl 
    · skip
      refine k_iload X dX5_worstChange_k2.1.2.1 0 rfl ?_
      refine k_istore_n [(2, .int z_16), (4, .int z_16), (3, .int u_1), (1, .int u_3), (0, .ref h0)] X dX5_worstChange_k2.1.2.2.1 (nlt_e rfl) rfl ?_
      refine k_iload_n X dX5_worstChange_k2.1.2.2.2 2 rfl ?_
      refine k_istore_n [(1, .int u_1), (2, .int z_16), (4, .int z_16), (3, .int u_1), (0, .ref h0)] X dX5_worstChange_k2.2.1.1 (nlt_e rfl) rfl ?_
      obtain ⟨z_19, ez_19⟩ : ∃ y : Int32, u_1 + Int32.ofInt 1 = y := ⟨_, rfl⟩
      refine k_iinc z_19 [(3, .int z_19), (1, .int u_1), (2, .int z_16), (4, .int z_16), (0, .ref h0)] 3 X dX5_worstChange_k2.2.1.2 rfl ez_19 (nlt_e rfl) rfl ?_
      refine k_goto 6 X dX5_worstChange_k2.2.2.1 (jp_e rfl) ?_
      refine k_lv [(3, .int z_19), (2, .int z_16), (1, .int u_1), (0, .ref h0)] [0, 2, 1, 4] rfl ?_
      exact ih_6 _ (by rw [← hm_5]; exact mu_lt (by assumption) (by assumption)) z_19 z_16 u_1 rfl 

theorem dX5_needed_k0 : (((dD cX5_needed 0 (.aload_n 0) 1 ∧ (dD cX5_needed 1 (.getfield 14) 3 ∧ dD cX5_needed 4 (.iload_n 1) 1)) ∧ (dD cX5_needed 5 (.bipush 7) 2 ∧ (dD cX5_needed 7 (.invokevirtual 59) 3 ∧ dD cX5_needed 10 (.aload_n 0) 1))) ∧ ((dD cX5_needed 11 (.getfield 14) 3 ∧ (dD cX5_needed 14 (.iload_n 1) 1 ∧ dD cX5_needed 15 (.bipush 8) 2)) ∧ (dD cX5_needed 17 (.invokevirtual 59) 3 ∧ (dD cX5_needed 20 .isub 1 ∧ dD cX5_needed 21 .ireturn 1)))) := dkA12 (by decide +kernel)
set_option maxHeartbeats 4000000 in
set_option maxRecDepth 100000 in
theorem n_needed (l : Launch) (g : Gx) (h0 : Nat) (p0 : Int32) (nr : Nat) (xsnapped : Int32) (xmostSlip : Int32) (xslip : Int32) (xisDrawn : Int32) (xseed : Int32) (xtick : Int32) (xmotorTick : Int32) (xahead : Int32) (nrc : Nat) (nrn : Int32) (nrf : Nat → Int32) : cI l g yX5_needed cX5_needed 2 (some .int) 1 22 0 0 [.ref h0, .int p0] [(cO5_riiiiiiii h0 nr xsnapped xmostSlip xslip xisDrawn xseed xtick xmotorTick xahead), (cO8_iiri nr 8 10 nrc nrn), (cAI g nrc 80 nrf)] (fun r w => w = [(cO5_riiiiiiii h0 nr xsnapped xmostSlip xslip xisDrawn xseed xtick xmotorTick xahead), (cO8_iiri nr 8 10 nrc nrn), (cAI g nrc 80 nrf)]) := by
  refine cI.of (by decide) (Nat.le_of_ble_eq_true rfl) ?_
  intro p e s m args below meth c A X hr hi
  refine k_lveq [(0, .ref h0), (1, .int p0)] rfl ?_
  refine k_aload_n X dX5_needed_k0.1.1.1 0 rfl ?_
  refine k_get (ci := 5) X inlX5 rfl 0 (nlt_e rfl) dX5_needed_k0.1.1.2.1 mw125 0 rfl rfl ?_
  refine k_iload_n X dX5_needed_k0.1.1.2.2 1 rfl ?_
  refine k_bipush (v := 7) X dX5_needed_k0.1.2.1 bi_7 ?_
  refine k_callVI (n := 2) (As := [.int p0, .int 7]) (st := []) X [(cO8_iiri nr 8 10 nrc nrn), (cAI g nrc 80 nrf)] [(cO5_riiiiiiii h0 nr xsnapped xmostSlip xslip xisDrawn xseed xtick xmotorTick xahead)] [1, 2] [0] (t_at l g nr p0 7 8 10 nrc nrn 80 nrf (tbk_8_10)) dX5_needed_k0.1.2.2.1 mw757 mw376 mw377 mw64 mw378 rfl 8 rfl rfl 0 _ rfl yk_yX8_at_2 rfl (Nat.le_of_ble_eq_true rfl) (Nat.le_of_ble_eq_true rfl) (Nat.le_of_ble_eq_true rfl) (Nat.le_of_ble_eq_true rfl) (Nat.le_of_ble_eq_true rfl) rfl rfl (vnd_e rfl) rfl (vnd_e rfl) (dsj_e rfl) ?_
  rintro r_1 w ⟨hr_2, rfl⟩
  refine k_ws [(cO5_riiiiiiii h0 nr xsnapped xmostSlip xslip xisDrawn xseed xtick xmotorTick xahead), (cO8_iiri nr 8 10 nrc nrn), (cAI g nrc 80 nrf)] rfl ?_
  refine k_aload_n X dX5_needed_k0.1.2.2.2 0 rfl ?_
  refine k_get (ci := 5) X inlX5 rfl 0 (nlt_e rfl) dX5_needed_k0.2.1.1 mw125 0 rfl rfl ?_
  refine k_iload_n X dX5_needed_k0.2.1.2.1 1 rfl ?_
  refine k_bipush (v := 8) X dX5_needed_k0.2.1.2.2 bi_8 ?_
  refine k_callVI (n := 2) (As := [.int p0, .int 8]) (st := [.int r_1]) X [(cO8_iiri nr 8 10 nrc nrn), (cAI g nrc 80 nrf)] [(cO5_riiiiiiii h0 nr xsnapped xmostSlip xslip xisDrawn xseed xtick xmotorTick xahead)] [1, 2] [0] (t_at l g nr p0 8 8 10 nrc nrn 80 nrf (tbk_8_10)) dX5_needed_k0.2.2.1 mw757 mw376 mw377 mw64 mw378 rfl 8 rfl rfl 0 _ rfl yk_yX8_at_2 rfl (Nat.le_of_ble_eq_true rfl) (Nat.le_of_ble_eq_true rfl) (Nat.le_of_ble_eq_true rfl) (Nat.le_of_ble_eq_true rfl) (Nat.le_of_ble_eq_true rfl) rfl rfl (vnd_e rfl) rfl (vnd_e rfl) (dsj_e rfl) ?_
  rintro r_3 w ⟨hr_4, rfl⟩
  refine k_ws [(cO5_riiiiiiii h0 nr xsnapped xmostSlip xslip xisDrawn xseed xtick xmotorTick xahead), (cO8_iiri nr 8 10 nrc nrn), (cAI g nrc 80 nrf)] rfl ?_
  refine k_isub X dX5_needed_k0.2.2.2.1 ?_
  refine k_nm (fun z_5 ez_5 => ?_)
  exact k_iret X hr dX5_needed_k0.2.2.2.2 (Nat.le_of_ble_eq_true rfl) (Nat.le_of_ble_eq_true rfl) [0, 1, 2] (vnd_e rfl) rfl rfl rfl

theorem dX5_idle_k0 : ((((dD cX5_idle 0 (.iload_n 1) 1 ∧ dD cX5_idle 1 (.iconst 2) 1) ∧ (dD cX5_idle 2 (.if_icmp .ge 8) 3 ∧ dD cX5_idle 5 (.bipush (-2)) 2)) ∧ ((dD cX5_idle 7 (.goto 26) 3 ∧ dD cX5_idle 10 (.aload_n 0) 1) ∧ (dD cX5_idle 11 (.getfield 14) 3 ∧ dD cX5_idle 14 (.iload_n 1) 1))) ∧ (((dD cX5_idle 15 (.bipush 8) 2 ∧ dD cX5_idle 17 (.invokevirtual 59) 3) ∧ (dD cX5_idle 20 (.aload_n 0) 1 ∧ dD cX5_idle 21 (.getfield 14) 3)) ∧ ((dD cX5_idle 24 (.iload_n 1) 1 ∧ dD cX5_idle 25 (.iconst 2) 1) ∧ (dD cX5_idle 26 .isub 1 ∧ dD cX5_idle 27 (.bipush 7) 2)))) := dkA16 (by decide +kernel)
theorem dX5_idle_k1 : (dD cX5_idle 29 (.invokevirtual 59) 3 ∧ (dD cX5_idle 32 .isub 1 ∧ dD cX5_idle 33 .ireturn 1)) := dkA3 (by decide +kernel)
set_option maxHeartbeats 4000000 in
set_option maxRecDepth 100000 in
theorem n_idle (l : Launch) (g : Gx) (h0 : Nat) (p0 : Int32) (nr : Nat) (xsnapped : Int32) (xmostSlip : Int32) (xslip : Int32) (xisDrawn : Int32) (xseed : Int32) (xtick : Int32) (xmotorTick : Int32) (xahead : Int32) (nrc : Nat) (nrn : Int32) (nrf : Nat → Int32) : cI l g yX5_idle cX5_idle 2 (some .int) 1 22 0 0 [.ref h0, .int p0] [(cO5_riiiiiiii h0 nr xsnapped xmostSlip xslip xisDrawn xseed xtick xmotorTick xahead), (cO8_iiri nr 8 10 nrc nrn), (cAI g nrc 80 nrf)] (fun r w => w = [(cO5_riiiiiiii h0 nr xsnapped xmostSlip xslip xisDrawn xseed xtick xmotorTick xahead), (cO8_iiri nr 8 10 nrc nrn), (cAI g nrc 80 nrf)]) := by
  refine cI.of (by decide) (Nat.le_of_ble_eq_true rfl) ?_
  intro p e s m args below meth c A X hr hi
  refine k_lveq [(0, .ref h0), (1, .int p0)] rfl ?_
  refine k_iload_n X dX5_idle_k0.1.1.1.1 1 rfl ?_
  refine k_iconst (v := 2) X dX5_idle_k0.1.1.1.2 ic_2 ?_
  refine k_ic_ge 10 X dX5_idle_k0.1.1.2.1 (jp_e rfl) (fun h_1 => ?_) (fun h_1 => ?_)
  · skip
    refine k_aload_n X dX5_idle_k0.1.2.1.2 0 rfl ?_
    refine k_get (ci := 5) X inlX5 rfl 0 (nlt_e rfl) dX5_idle_k0.1.2.2.1 mw125 0 rfl rfl ?_
    refine k_iload_n X dX5_idle_k0.1.2.2.2 1 rfl ?_
    refine k_bipush (v := 8) X dX5_idle_k0.2.1.1.1 bi_8 ?_
    refine k_callVI (n := 2) (As := [.int p0, .int 8]) (st := []) X [(cO8_iiri nr 8 10 nrc nrn), (cAI g nrc 80 nrf)] [(cO5_riiiiiiii h0 nr xsnapped xmostSlip xslip xisDrawn xseed xtick xmotorTick xahead)] [1, 2] [0] (t_at l g nr p0 8 8 10 nrc nrn 80 nrf (tbk_8_10)) dX5_idle_k0.2.1.1.2 mw757 mw376 mw377 mw64 mw378 rfl 8 rfl rfl 0 _ rfl yk_yX8_at_2 rfl (Nat.le_of_ble_eq_true rfl) (Nat.le_of_ble_eq_true rfl) (Nat.le_of_ble_eq_true rfl) (Nat.le_of_ble_eq_true rfl) (Nat.le_of_ble_eq_true rfl) rfl rfl (vnd_e rfl) rfl (vnd_e rfl) (dsj_e rfl) ?_
    rintro r_2 w ⟨hr_3, rfl⟩
    refine k_ws [(cO5_riiiiiiii h0 nr xsnapped xmostSlip xslip xisDrawn xseed xtick xmotorTick xahead), (cO8_iiri nr 8 10 nrc nrn), (cAI g nrc 80 nrf)] rfl ?_
    refine k_aload_n X dX5_idle_k0.2.1.2.1 0 rfl ?_
    refine k_get (ci := 5) X inlX5 rfl 0 (nlt_e rfl) dX5_idle_k0.2.1.2.2 mw125 0 rfl rfl ?_
    refine k_iload_n X dX5_idle_k0.2.2.1.1 1 rfl ?_
    refine k_iconst (v := 2) X dX5_idle_k0.2.2.1.2 ic_2 ?_
    refine k_isub X dX5_idle_k0.2.2.2.1 ?_
    refine k_nm (fun z_4 ez_4 => ?_)
    refine k_bipush (v := 7) X dX5_idle_k0.2.2.2.2 bi_7 ?_
    refine k_callVI (n := 2) (As := [.int z_4, .int 7]) (st := [.int r_2]) X [(cO8_iiri nr 8 10 nrc nrn), (cAI g nrc 80 nrf)] [(cO5_riiiiiiii h0 nr xsnapped xmostSlip xslip xisDrawn xseed xtick xmotorTick xahead)] [1, 2] [0] (t_at l g nr z_4 7 8 10 nrc nrn 80 nrf (tbk_8_10)) dX5_idle_k1.1 mw757 mw376 mw377 mw64 mw378 rfl 8 rfl rfl 0 _ rfl yk_yX8_at_2 rfl (Nat.le_of_ble_eq_true rfl) (Nat.le_of_ble_eq_true rfl) (Nat.le_of_ble_eq_true rfl) (Nat.le_of_ble_eq_true rfl) (Nat.le_of_ble_eq_true rfl) rfl rfl (vnd_e rfl) rfl (vnd_e rfl) (dsj_e rfl) ?_
    rintro r_5 w ⟨hr_6, rfl⟩
    refine k_ws [(cO5_riiiiiiii h0 nr xsnapped xmostSlip xslip xisDrawn xseed xtick xmotorTick xahead), (cO8_iiri nr 8 10 nrc nrn), (cAI g nrc 80 nrf)] rfl ?_
    refine k_isub X dX5_idle_k1.2.1 ?_
    refine k_nm (fun z_7 ez_7 => ?_)
    exact k_iret X hr dX5_idle_k1.2.2 (Nat.le_of_ble_eq_true rfl) (Nat.le_of_ble_eq_true rfl) [0, 1, 2] (vnd_e rfl) rfl rfl rfl
  · skip
    refine k_bipush (v := -2) X dX5_idle_k0.1.1.2.2 bi_m2 ?_
    refine k_goto 33 X dX5_idle_k0.1.2.1.1 (jp_e rfl) ?_
    exact k_iret X hr dX5_idle_k1.2.2 (Nat.le_of_ble_eq_true rfl) (Nat.le_of_ble_eq_true rfl) [0, 1, 2] (vnd_e rfl) rfl rfl rfl

theorem dX3_number_k0 : ((dD cX3_number 0 (.aload_n 0) 1 ∧ (dD cX3_number 1 (.getfield 21) 3 ∧ dD cX3_number 4 (.iconst 0) 1)) ∧ (dD cX3_number 5 (.iload_n 1) 1 ∧ (dD cX3_number 6 (.invokevirtual 43) 3 ∧ dD cX3_number 9 .ireturn 1))) := dkA6 (by decide +kernel)
set_option maxHeartbeats 4000000 in
set_option maxRecDepth 100000 in
theorem h_number (l : Launch) (g : Gx) (h0 : Nat) (p0 : Int32) (v0h0 : Value) (xhn : Nat) (v2h0 : Value) (v3h0 : Value) (v4h0 : Value) (v5h0 : Value) (v6h0 : Value) (v7h0 : Value) (xhnc : Nat) (xhnn : Int32) (xhnf : Nat → Int32) : cI l g yX3_number cX3_number 2 (some .int) 1 22 0 0 [.ref h0, .int p0] [(cO3_vrvvvvvv h0 v0h0 xhn v2h0 v3h0 v4h0 v5h0 v6h0 v7h0), (cO8_iiri xhn 1 6 xhnc xhnn), (cAI g xhnc 6 xhnf)] (fun r w => w = [(cO3_vrvvvvvv h0 v0h0 xhn v2h0 v3h0 v4h0 v5h0 v6h0 v7h0), (cO8_iiri xhn 1 6 xhnc xhnn), (cAI g xhnc 6 xhnf)]) := by
  refine cI.of (by decide) (Nat.le_of_ble_eq_true rfl) ?_
  intro p e s m args below meth c A X hr hi
  refine k_lveq [(0, .ref h0), (1, .int p0)] rfl ?_
  refine k_aload_n X dX3_number_k0.1.1 0 rfl ?_
  refine k_get (ci := 3) X inlX3 rfl 1 (nlt_e rfl) dX3_number_k0.1.2.1 mw79 0 rfl rfl ?_
  refine k_iconst (v := 0) X dX3_number_k0.1.2.2 ic_0 ?_
  refine k_iload_n X dX3_number_k0.2.1 1 rfl ?_
  refine k_callVI (n := 2) (As := [.int 0, .int p0]) (st := []) X [(cO8_iiri xhn 1 6 xhnc xhnn), (cAI g xhnc 6 xhnf)] [(cO3_vrvvvvvv h0 v0h0 xhn v2h0 v3h0 v4h0 v5h0 v6h0 v7h0)] [1, 2] [0] (t_at l g xhn 0 p0 1 6 xhnc xhnn 6 xhnf (tbk_1_6)) dX3_number_k0.2.2.1 mw418 mw376 mw377 mw64 mw378 rfl 8 rfl rfl 0 _ rfl yk_yX8_at_2 rfl (Nat.le_of_ble_eq_true rfl) (Nat.le_of_ble_eq_true rfl) (Nat.le_of_ble_eq_true rfl) (Nat.le_of_ble_eq_true rfl) (Nat.le_of_ble_eq_true rfl) rfl rfl (vnd_e rfl) rfl (vnd_e rfl) (dsj_e rfl) ?_
  rintro r_1 w ⟨hr_2, rfl⟩
  refine k_ws [(cO3_vrvvvvvv h0 v0h0 xhn v2h0 v3h0 v4h0 v5h0 v6h0 v7h0), (cO8_iiri xhn 1 6 xhnc xhnn), (cAI g xhnc 6 xhnf)] rfl ?_
  exact k_iret X hr dX3_number_k0.2.2.2 (Nat.le_of_ble_eq_true rfl) (Nat.le_of_ble_eq_true rfl) [0, 1, 2] (vnd_e rfl) rfl rfl rfl

theorem dX5_exactThread_k0 : ((((dD cX5_exactThread 0 (.aload_n 0) 1 ∧ dD cX5_exactThread 1 (.getfield 14) 3) ∧ (dD cX5_exactThread 4 (.iload_n 2) 1 ∧ dD cX5_exactThread 5 (.iconst 1) 1)) ∧ ((dD cX5_exactThread 6 .isub 1 ∧ dD cX5_exactThread 7 (.iconst 3) 1) ∧ (dD cX5_exactThread 8 (.invokevirtual 59) 3 ∧ dD cX5_exactThread 11 (.iconst 1) 1))) ∧ (((dD cX5_exactThread 12 (.if_icmp .ne 6) 3 ∧ dD cX5_exactThread 15 (.bipush (-2)) 2) ∧ (dD cX5_exactThread 17 .ireturn 1 ∧ dD cX5_exactThread 18 (.aload_n 0) 1)) ∧ ((dD cX5_exactThread 19 (.getfield 14) 3 ∧ dD cX5_exactThread 22 (.iload_n 2) 1) ∧ (dD cX5_exactThread 23 (.iconst 1) 1 ∧ dD cX5_exactThread 24 .isub 1)))) := dkA16 (by decide +kernel)
theorem dX5_exactThread_k1 : ((((dD cX5_exactThread 25 (.iconst 5) 1 ∧ dD cX5_exactThread 26 (.invokevirtual 59) 3) ∧ (dD cX5_exactThread 29 (.aload_n 0) 1 ∧ dD cX5_exactThread 30 (.getfield 14) 3)) ∧ ((dD cX5_exactThread 33 (.iload_n 2) 1 ∧ dD cX5_exactThread 34 (.iconst 1) 1) ∧ (dD cX5_exactThread 35 .isub 1 ∧ dD cX5_exactThread 36 (.iconst 4) 1))) ∧ (((dD cX5_exactThread 37 (.invokevirtual 59) 3 ∧ dD cX5_exactThread 40 .isub 1) ∧ (dD cX5_exactThread 41 (.istore_n 3) 1 ∧ dD cX5_exactThread 42 (.iconst 0) 1)) ∧ ((dD cX5_exactThread 43 (.iload_n 3) 1 ∧ dD cX5_exactThread 44 (.aload_n 1) 1) ∧ (dD cX5_exactThread 45 (.iconst 1) 1 ∧ dD cX5_exactThread 46 (.invokevirtual 101) 3)))) := dkA16 (by decide +kernel)
theorem dX5_exactThread_k2 : ((dD cX5_exactThread 49 .isub 1 ∧ dD cX5_exactThread 50 (.sipush 199) 3) ∧ (dD cX5_exactThread 53 (.invokestatic 98) 3 ∧ (dD cX5_exactThread 56 (.invokestatic 63) 3 ∧ dD cX5_exactThread 59 .ireturn 1))) := dkA5 (by decide +kernel)
set_option maxHeartbeats 4000000 in
set_option maxRecDepth 100000 in
theorem n_exact (l : Launch) (g : Gx) (h0 : Nat) (hh : Nat) (p0 : Int32) (nr : Nat) (xsnapped : Int32) (xmostSlip : Int32) (xslip : Int32) (xisDrawn : Int32) (xseed : Int32) (xtick : Int32) (xmotorTick : Int32) (xahead : Int32) (nrc : Nat) (nrn : Int32) (nrf : Nat → Int32) (v0hh : Value) (yhn : Nat) (v2hh : Value) (v3hh : Value) (v4hh : Value) (v5hh : Value) (v6hh : Value) (v7hh : Value) (yhnc : Nat) (yhnn : Int32) (yhnf : Nat → Int32) : cI l g yX5_exactThread cX5_exactThread 4 (some .int) 2 43 0 0 [.ref h0, .ref hh, .int p0] [(cO5_riiiiiiii h0 nr xsnapped xmostSlip xslip xisDrawn xseed xtick xmotorTick xahead), (cO8_iiri nr 8 10 nrc nrn), (cAI g nrc 80 nrf), (cO3_vrvvvvvv hh v0hh yhn v2hh v3hh v4hh v5hh v6hh v7hh), (cO8_iiri yhn 1 6 yhnc yhnn), (cAI g yhnc 6 yhnf)] (fun r w => w = [(cO5_riiiiiiii h0 nr xsnapped xmostSlip xslip xisDrawn xseed xtick xmotorTick xahead), (cO8_iiri nr 8 10 nrc nrn), (cAI g nrc 80 nrf), (cO3_vrvvvvvv hh v0hh yhn v2hh v3hh v4hh v5hh v6hh v7hh), (cO8_iiri yhn 1 6 yhnc yhnn), (cAI g yhnc 6 yhnf)]) := by
  refine cI.of (by decide) (Nat.le_of_ble_eq_true rfl) ?_
  intro p e s m args below meth c A X hr hi
  refine k_lveq [(0, .ref h0), (1, .ref hh), (2, .int p0)] rfl ?_
  refine k_aload_n X dX5_exactThread_k0.1.1.1.1 0 rfl ?_
  refine k_get (ci := 5) X inlX5 rfl 0 (nlt_e rfl) dX5_exactThread_k0.1.1.1.2 mw125 0 rfl rfl ?_
  refine k_iload_n X dX5_exactThread_k0.1.1.2.1 2 rfl ?_
  refine k_iconst (v := 1) X dX5_exactThread_k0.1.1.2.2 ic_1 ?_
  refine k_isub X dX5_exactThread_k0.1.2.1.1 ?_
  refine k_nm (fun z_1 ez_1 => ?_)
  refine k_iconst (v := 3) X dX5_exactThread_k0.1.2.1.2 ic_3 ?_
  refine k_callVI (n := 2) (As := [.int z_1, .int 3]) (st := []) X [(cO8_iiri nr 8 10 nrc nrn), (cAI g nrc 80 nrf)] [(cO5_riiiiiiii h0 nr xsnapped xmostSlip xslip xisDrawn xseed xtick xmotorTick xahead), (cO3_vrvvvvvv hh v0hh yhn v2hh v3hh v4hh v5hh v6hh v7hh), (cO8_iiri yhn 1 6 yhnc yhnn), (cAI g yhnc 6 yhnf)] [1, 2] [0, 3, 4, 5] (t_at l g nr z_1 3 8 10 nrc nrn 80 nrf (tbk_8_10)) dX5_exactThread_k0.1.2.2.1 mw757 mw376 mw377 mw64 mw378 rfl 8 rfl rfl 0 _ rfl yk_yX8_at_2 rfl (Nat.le_of_ble_eq_true rfl) (Nat.le_of_ble_eq_true rfl) (Nat.le_of_ble_eq_true rfl) (Nat.le_of_ble_eq_true rfl) (Nat.le_of_ble_eq_true rfl) rfl rfl (vnd_e rfl) rfl (vnd_e rfl) (dsj_e rfl) ?_
  rintro r_2 w ⟨hr_3, rfl⟩
  refine k_ws [(cO5_riiiiiiii h0 nr xsnapped xmostSlip xslip xisDrawn xseed xtick xmotorTick xahead), (cO3_vrvvvvvv hh v0hh yhn v2hh v3hh v4hh v5hh v6hh v7hh), (cO8_iiri yhn 1 6 yhnc yhnn), (cAI g yhnc 6 yhnf), (cO8_iiri nr 8 10 nrc nrn), (cAI g nrc 80 nrf)] rfl ?_
  refine k_iconst (v := 1) X dX5_exactThread_k0.1.2.2.2 ic_1 ?_
  refine k_ic_ne 18 X dX5_exactThread_k0.2.1.1.1 (jp_e rfl) (fun h_4 => ?_) (fun h_4 => ?_)
  · skip
    refine k_aload_n X dX5_exactThread_k0.2.1.2.2 0 rfl ?_
    refine k_get (ci := 5) X inlX5 rfl 0 (nlt_e rfl) dX5_exactThread_k0.2.2.1.1 mw125 0 rfl rfl ?_
    refine k_iload_n X dX5_exactThread_k0.2.2.1.2 2 rfl ?_
    refine k_iconst (v := 1) X dX5_exactThread_k0.2.2.2.1 ic_1 ?_
    refine k_isub X dX5_exactThread_k0.2.2.2.2 ?_
    refine k_nm (fun z_5 ez_5 => ?_)
    refine k_iconst (v := 5) X dX5_exactThread_k1.1.1.1.1 ic_5 ?_
    refine k_callVI (n := 2) (As := [.int z_5, .int 5]) (st := []) X [(cO8_iiri nr 8 10 nrc nrn), (cAI g nrc 80 nrf)] [(cO5_riiiiiiii h0 nr xsnapped xmostSlip xslip xisDrawn xseed xtick xmotorTick xahead), (cO3_vrvvvvvv hh v0hh yhn v2hh v3hh v4hh v5hh v6hh v7hh), (cO8_iiri yhn 1 6 yhnc yhnn), (cAI g yhnc 6 yhnf)] [4, 5] [0, 1, 2, 3] (t_at l g nr z_5 5 8 10 nrc nrn 80 nrf (tbk_8_10)) dX5_exactThread_k1.1.1.1.2 mw757 mw376 mw377 mw64 mw378 rfl 8 rfl rfl 0 _ rfl yk_yX8_at_2 rfl (Nat.le_of_ble_eq_true rfl) (Nat.le_of_ble_eq_true rfl) (Nat.le_of_ble_eq_true rfl) (Nat.le_of_ble_eq_true rfl) (Nat.le_of_ble_eq_true rfl) rfl rfl (vnd_e rfl) rfl (vnd_e rfl) (dsj_e rfl) ?_
    rintro r_6 w ⟨hr_7, rfl⟩
    refine k_ws [(cO5_riiiiiiii h0 nr xsnapped xmostSlip xslip xisDrawn xseed xtick xmotorTick xahead), (cO3_vrvvvvvv hh v0hh yhn v2hh v3hh v4hh v5hh v6hh v7hh), (cO8_iiri yhn 1 6 yhnc yhnn), (cAI g yhnc 6 yhnf), (cO8_iiri nr 8 10 nrc nrn), (cAI g nrc 80 nrf)] rfl ?_
    refine k_aload_n X dX5_exactThread_k1.1.1.2.1 0 rfl ?_
    refine k_get (ci := 5) X inlX5 rfl 0 (nlt_e rfl) dX5_exactThread_k1.1.1.2.2 mw125 0 rfl rfl ?_
    refine k_iload_n X dX5_exactThread_k1.1.2.1.1 2 rfl ?_
    refine k_iconst (v := 1) X dX5_exactThread_k1.1.2.1.2 ic_1 ?_
    refine k_isub X dX5_exactThread_k1.1.2.2.1 ?_
    refine k_nm (fun z_8 ez_8 => ?_)
    refine k_iconst (v := 4) X dX5_exactThread_k1.1.2.2.2 ic_4 ?_
    refine k_callVI (n := 2) (As := [.int z_8, .int 4]) (st := [.int r_6]) X [(cO8_iiri nr 8 10 nrc nrn), (cAI g nrc 80 nrf)] [(cO5_riiiiiiii h0 nr xsnapped xmostSlip xslip xisDrawn xseed xtick xmotorTick xahead), (cO3_vrvvvvvv hh v0hh yhn v2hh v3hh v4hh v5hh v6hh v7hh), (cO8_iiri yhn 1 6 yhnc yhnn), (cAI g yhnc 6 yhnf)] [4, 5] [0, 1, 2, 3] (t_at l g nr z_8 4 8 10 nrc nrn 80 nrf (tbk_8_10)) dX5_exactThread_k1.2.1.1.1 mw757 mw376 mw377 mw64 mw378 rfl 8 rfl rfl 0 _ rfl yk_yX8_at_2 rfl (Nat.le_of_ble_eq_true rfl) (Nat.le_of_ble_eq_true rfl) (Nat.le_of_ble_eq_true rfl) (Nat.le_of_ble_eq_true rfl) (Nat.le_of_ble_eq_true rfl) rfl rfl (vnd_e rfl) rfl (vnd_e rfl) (dsj_e rfl) ?_
    rintro r_9 w ⟨hr_10, rfl⟩
    refine k_ws [(cO5_riiiiiiii h0 nr xsnapped xmostSlip xslip xisDrawn xseed xtick xmotorTick xahead), (cO3_vrvvvvvv hh v0hh yhn v2hh v3hh v4hh v5hh v6hh v7hh), (cO8_iiri yhn 1 6 yhnc yhnn), (cAI g yhnc 6 yhnf), (cO8_iiri nr 8 10 nrc nrn), (cAI g nrc 80 nrf)] rfl ?_
    refine k_isub X dX5_exactThread_k1.2.1.1.2 ?_
    refine k_nm (fun z_11 ez_11 => ?_)
    refine k_istore_n [(3, .int z_11), (0, .ref h0), (1, .ref hh), (2, .int p0)] X dX5_exactThread_k1.2.1.2.1 (nlt_e rfl) rfl ?_
    refine k_iconst (v := 0) X dX5_exactThread_k1.2.1.2.2 ic_0 ?_
    refine k_iload_n X dX5_exactThread_k1.2.2.1.1 0 rfl ?_
    refine k_aload_n X dX5_exactThread_k1.2.2.1.2 2 rfl ?_
    refine k_iconst (v := 1) X dX5_exactThread_k1.2.2.2.1 ic_1 ?_
    refine k_callVI (n := 1) (As := [.int 1]) (st := [.int z_11, .int 0]) X [(cO3_vrvvvvvv hh v0hh yhn v2hh v3hh v4hh v5hh v6hh v7hh), (cO8_iiri yhn 1 6 yhnc yhnn), (cAI g yhnc 6 yhnf)] [(cO5_riiiiiiii h0 nr xsnapped xmostSlip xslip xisDrawn xseed xtick xmotorTick xahead), (cO8_iiri nr 8 10 nrc nrn), (cAI g nrc 80 nrf)] [1, 2, 3] [0, 4, 5] (h_number l g hh 1 v0hh yhn v2hh v3hh v4hh v5hh v6hh v7hh yhnc yhnn yhnf) dX5_exactThread_k1.2.2.2.2 mw796 mw415 mw416 mw19 mw417 rfl 3 rfl rfl 0 _ rfl yk_yX3_number_1 rfl (Nat.le_of_ble_eq_true rfl) (Nat.le_of_ble_eq_true rfl) (Nat.le_of_ble_eq_true rfl) (Nat.le_of_ble_eq_true rfl) (Nat.le_of_ble_eq_true rfl) rfl rfl (vnd_e rfl) rfl (vnd_e rfl) (dsj_e rfl) ?_
    rintro r_12 w rfl
    refine k_ws [(cO5_riiiiiiii h0 nr xsnapped xmostSlip xslip xisDrawn xseed xtick xmotorTick xahead), (cO8_iiri nr 8 10 nrc nrn), (cAI g nrc 80 nrf), (cO3_vrvvvvvv hh v0hh yhn v2hh v3hh v4hh v5hh v6hh v7hh), (cO8_iiri yhn 1 6 yhnc yhnn), (cAI g yhnc 6 yhnf)] rfl ?_
    refine k_isub X dX5_exactThread_k2.1.1 ?_
    refine k_nm (fun z_14 ez_14 => ?_)
    refine k_sipush (v := 199) X dX5_exactThread_k2.1.2 si_199 ?_
    refine k_mmin X dX5_exactThread_k2.2.1 mw784 mw785 mw103 mw786 (Nat.le_of_ble_eq_true rfl) (Nat.le_of_ble_eq_true rfl) (Nat.zero_le _) (Nat.zero_le _) ?_
    refine k_nm (fun z_15 ez_15 => ?_)
    refine k_mmax X dX5_exactThread_k2.2.2.1 mw756 mw102 mw103 mw104 (Nat.le_of_ble_eq_true rfl) (Nat.le_of_ble_eq_true rfl) (Nat.zero_le _) (Nat.zero_le _) ?_
    refine k_nm (fun z_16 ez_16 => ?_)
    exact k_iret X hr dX5_exactThread_k2.2.2.2 (Nat.le_of_ble_eq_true rfl) (Nat.le_of_ble_eq_true rfl) [0, 1, 2, 3, 4, 5] (vnd_e rfl) rfl rfl rfl
  · skip
    refine k_bipush (v := -2) X dX5_exactThread_k0.2.1.1.2 bi_m2 ?_
    exact k_iret X hr dX5_exactThread_k0.2.1.2.1 (Nat.le_of_ble_eq_true rfl) (Nat.le_of_ble_eq_true rfl) [0, 4, 5, 1, 2, 3] (vnd_e rfl) rfl rfl rfl

theorem dX5_signsSo_k0 : ((((dD cX5_signsSo 0 (.iconst 0) 1 ∧ dD cX5_signsSo 1 (.istore_n 2) 1) ∧ (dD cX5_signsSo 2 (.iconst 0) 1 ∧ dD cX5_signsSo 3 (.istore_n 3) 1)) ∧ ((dD cX5_signsSo 4 (.iload_n 3) 1 ∧ dD cX5_signsSo 5 (.aload_n 1) 1) ∧ (dD cX5_signsSo 6 (.getfield 118) 3 ∧ dD cX5_signsSo 9 (.getfield 51) 3))) ∧ (((dD cX5_signsSo 12 (.if_icmp .ge 70) 3 ∧ dD cX5_signsSo 15 (.aload_n 1) 1) ∧ (dD cX5_signsSo 16 (.getfield 118) 3 ∧ dD cX5_signsSo 19 (.iload_n 3) 1)) ∧ ((dD cX5_signsSo 20 (.iconst 0) 1 ∧ dD cX5_signsSo 21 (.invokevirtual 59) 3) ∧ (dD cX5_signsSo 24 (.istore 4) 2 ∧ dD cX5_signsSo 26 (.aload_n 0) 1)))) := dkA16 (by decide +kernel)
theorem dX5_signsSo_k1 : ((((dD cX5_signsSo 27 (.getfield 14) 3 ∧ dD cX5_signsSo 30 (.iload 4) 2) ∧ (dD cX5_signsSo 32 (.iconst 1) 1 ∧ dD cX5_signsSo 33 (.invokevirtual 59) 3)) ∧ ((dD cX5_signsSo 36 (.aload_n 1) 1 ∧ dD cX5_signsSo 37 (.getfield 118) 3) ∧ (dD cX5_signsSo 40 (.iload_n 3) 1 ∧ dD cX5_signsSo 41 (.iconst 1) 1))) ∧ (((dD cX5_signsSo 42 (.invokevirtual 59) 3 ∧ dD cX5_signsSo 45 (.if_icmp .ne 31) 3) ∧ (dD cX5_signsSo 48 (.aload_n 0) 1 ∧ dD cX5_signsSo 49 (.getfield 14) 3)) ∧ ((dD cX5_signsSo 52 (.iload 4) 2 ∧ dD cX5_signsSo 54 (.iconst 0) 1) ∧ (dD cX5_signsSo 55 (.invokevirtual 59) 3 ∧ dD cX5_signsSo 58 (.aload_n 1) 1)))) := dkA16 (by decide +kernel)
theorem dX5_signsSo_k2 : (((dD cX5_signsSo 59 (.getfield 118) 3 ∧ (dD cX5_signsSo 62 (.iload_n 3) 1 ∧ dD cX5_signsSo 63 (.iconst 2) 1)) ∧ ((dD cX5_signsSo 64 (.invokevirtual 59) 3 ∧ dD cX5_signsSo 67 (.if_icmp .ne 9) 3) ∧ (dD cX5_signsSo 70 (.iload_n 2) 1 ∧ dD cX5_signsSo 71 (.iconst 1) 1))) ∧ (((dD cX5_signsSo 72 (.iload_n 3) 1 ∧ dD cX5_signsSo 73 .ishl 1) ∧ (dD cX5_signsSo 74 .ior 1 ∧ dD cX5_signsSo 75 (.istore_n 2) 1)) ∧ ((dD cX5_signsSo 76 (.iinc 3 1) 3 ∧ dD cX5_signsSo 79 (.goto (-75)) 3) ∧ (dD cX5_signsSo 82 (.iload_n 2) 1 ∧ dD cX5_signsSo 83 .ireturn 1)))) := dkA15 (by decide +kernel)
set_option maxHeartbeats 4000000 in
set_option maxRecDepth 100000 in
theorem n_signsSo (l : Launch) (g : Gx) (h0 : Nat) (hh : Nat) (nr : Nat) (xsnapped : Int32) (xmostSlip : Int32) (xslip : Int32) (xisDrawn : Int32) (xseed : Int32) (xtick : Int32) (xmotorTick : Int32) (xahead : Int32) (nrc : Nat) (nrn : Int32) (nrf : Nat → Int32) (v0hh : Value) (v1hh : Value) (v2hh : Value) (v3hh : Value) (v4hh : Value) (v5hh : Value) (yhs : Nat) (v7hh : Value) (yhsc : Nat) (yhsn : Int32) (yhsf : Nat → Int32) : cI l g yX5_signsSo cX5_signsSo 5 (some .int) 1 22 0 0 [.ref h0, .ref hh] [(cO5_riiiiiiii h0 nr xsnapped xmostSlip xslip xisDrawn xseed xtick xmotorTick xahead), (cO8_iiri nr 8 10 nrc nrn), (cAI g nrc 80 nrf), (cO3_vvvvvvrv hh v0hh v1hh v2hh v3hh v4hh v5hh yhs v7hh), (cO8_iiri yhs 6 3 yhsc yhsn), (cAI g yhsc 18 yhsf)] (fun r w => w = [(cO5_riiiiiiii h0 nr xsnapped xmostSlip xslip xisDrawn xseed xtick xmotorTick xahead), (cO8_iiri nr 8 10 nrc nrn), (cAI g nrc 80 nrf), (cO3_vvvvvvrv hh v0hh v1hh v2hh v3hh v4hh v5hh yhs v7hh), (cO8_iiri yhs 6 3 yhsc yhsn), (cAI g yhsc 18 yhsf)]) := by
  refine cI.of (by decide) (Nat.le_of_ble_eq_true rfl) ?_
  intro p e s m args below meth c A X hr hi
  refine k_lveq [(0, .ref h0), (1, .ref hh)] rfl ?_
  refine k_iconst (v := 0) X dX5_signsSo_k0.1.1.1.1 ic_0 ?_
  refine k_istore_n [(2, .int 0), (0, .ref h0), (1, .ref hh)] X dX5_signsSo_k0.1.1.1.2 (nlt_e rfl) rfl ?_
  refine k_iconst (v := 0) X dX5_signsSo_k0.1.1.2.1 ic_0 ?_
  refine k_istore_n [(3, .int 0), (2, .int 0), (0, .ref h0), (1, .ref hh)] X dX5_signsSo_k0.1.1.2.2 (nlt_e rfl) rfl ?_
  refine (fun hL : ∀ (nn_3 : Nat) (u_1 : Int32) (u_2 : Int32), (yhsn.toInt - u_1.toInt).toNat = nn_3 → Wk p l e _ s m args below meth c _ A g _ _ _ [(cO5_riiiiiiii h0 nr xsnapped xmostSlip xslip xisDrawn xseed xtick xmotorTick xahead), (cO8_iiri nr 8 10 nrc nrn), (cAI g nrc 80 nrf), (cO3_vvvvvvrv hh v0hh v1hh v2hh v3hh v4hh v5hh yhs v7hh), (cO8_iiri yhs 6 3 yhsc yhsn), (cAI g yhsc 18 yhsf)] [(3, .int u_1), (2, .int u_2), (0, .ref h0), (1, .ref hh)] 4 [] => hL _ 0 0 rfl ) ?_
  refine fun nn_3 => Nat.strongRecOn nn_3 (fun nn_3 ih_5 => ?_)
  intro u_1 u_2 hm_4 
  refine k_iload_n X dX5_signsSo_k0.1.2.1.1 0 rfl ?_
  refine k_aload_n X dX5_signsSo_k0.1.2.1.2 3 rfl ?_
  refine k_get (ci := 3) X inlX3 rfl 6 (nlt_e rfl) dX5_signsSo_k0.1.2.2.1 mw957 3 rfl rfl ?_
  refine k_get (ci := 8) X inlX8 rfl 3 (nlt_e rfl) dX5_signsSo_k0.1.2.2.2 mw754 4 rfl rfl ?_
  refine k_ic_ge 82 X dX5_signsSo_k0.2.1.1.1 (jp_e rfl) (fun h_6 => ?_) (fun h_6 => ?_)
  · skip
    refine k_iload_n X dX5_signsSo_k2.2.2.2.1 1 rfl ?_
    exact k_iret X hr dX5_signsSo_k2.2.2.2.2 (Nat.le_of_ble_eq_true rfl) (Nat.le_of_ble_eq_true rfl) [0, 1, 2, 3, 4, 5] (vnd_e rfl) rfl rfl rfl
  · skip
    refine k_aload_n X dX5_signsSo_k0.2.1.1.2 3 rfl ?_
    refine k_get (ci := 3) X inlX3 rfl 6 (nlt_e rfl) dX5_signsSo_k0.2.1.2.1 mw957 3 rfl rfl ?_
    refine k_iload_n X dX5_signsSo_k0.2.1.2.2 0 rfl ?_
    refine k_iconst (v := 0) X dX5_signsSo_k0.2.2.1.1 ic_0 ?_
    refine k_callVI (n := 2) (As := [.int u_1, .int 0]) (st := []) X [(cO8_iiri yhs 6 3 yhsc yhsn), (cAI g yhsc 18 yhsf)] [(cO5_riiiiiiii h0 nr xsnapped xmostSlip xslip xisDrawn xseed xtick xmotorTick xahead), (cO8_iiri nr 8 10 nrc nrn), (cAI g nrc 80 nrf), (cO3_vvvvvvrv hh v0hh v1hh v2hh v3hh v4hh v5hh yhs v7hh)] [4, 5] [0, 1, 2, 3] (t_at l g yhs u_1 0 6 3 yhsc yhsn 18 yhsf (tbk_6_3)) dX5_signsSo_k0.2.2.1.2 mw757 mw376 mw377 mw64 mw378 rfl 8 rfl rfl 0 _ rfl yk_yX8_at_2 rfl (Nat.le_of_ble_eq_true rfl) (Nat.le_of_ble_eq_true rfl) (Nat.le_of_ble_eq_true rfl) (Nat.le_of_ble_eq_true rfl) (Nat.le_of_ble_eq_true rfl) rfl rfl (vnd_e rfl) rfl (vnd_e rfl) (dsj_e rfl) ?_
    rintro r_7 w ⟨hr_8, rfl⟩
    refine k_ws [(cO5_riiiiiiii h0 nr xsnapped xmostSlip xslip xisDrawn xseed xtick xmotorTick xahead), (cO8_iiri nr 8 10 nrc nrn), (cAI g nrc 80 nrf), (cO3_vvvvvvrv hh v0hh v1hh v2hh v3hh v4hh v5hh yhs v7hh), (cO8_iiri yhs 6 3 yhsc yhsn), (cAI g yhsc 18 yhsf)] rfl ?_
    refine k_istore [(4, .int r_7), (3, .int u_1), (2, .int u_2), (0, .ref h0), (1, .ref hh)] X dX5_signsSo_k0.2.2.2.1 (nlt_e rfl) rfl ?_
    refine k_aload_n X dX5_signsSo_k0.2.2.2.2 3 rfl ?_
    refine k_get (ci := 5) X inlX5 rfl 0 (nlt_e rfl) dX5_signsSo_k1.1.1.1.1 mw125 0 rfl rfl ?_
    refine k_iload X dX5_signsSo_k1.1.1.1.2 0 rfl ?_
    refine k_iconst (v := 1) X dX5_signsSo_k1.1.1.2.1 ic_1 ?_
    refine k_callVI (n := 2) (As := [.int r_7, .int 1]) (st := []) X [(cO8_iiri nr 8 10 nrc nrn), (cAI g nrc 80 nrf)] [(cO5_riiiiiiii h0 nr xsnapped xmostSlip xslip xisDrawn xseed xtick xmotorTick xahead), (cO3_vvvvvvrv hh v0hh v1hh v2hh v3hh v4hh v5hh yhs v7hh), (cO8_iiri yhs 6 3 yhsc yhsn), (cAI g yhsc 18 yhsf)] [1, 2] [0, 3, 4, 5] (t_at l g nr r_7 1 8 10 nrc nrn 80 nrf (tbk_8_10)) dX5_signsSo_k1.1.1.2.2 mw757 mw376 mw377 mw64 mw378 rfl 8 rfl rfl 0 _ rfl yk_yX8_at_2 rfl (Nat.le_of_ble_eq_true rfl) (Nat.le_of_ble_eq_true rfl) (Nat.le_of_ble_eq_true rfl) (Nat.le_of_ble_eq_true rfl) (Nat.le_of_ble_eq_true rfl) rfl rfl (vnd_e rfl) rfl (vnd_e rfl) (dsj_e rfl) ?_
    rintro r_9 w ⟨hr_10, rfl⟩
    refine k_ws [(cO5_riiiiiiii h0 nr xsnapped xmostSlip xslip xisDrawn xseed xtick xmotorTick xahead), (cO3_vvvvvvrv hh v0hh v1hh v2hh v3hh v4hh v5hh yhs v7hh), (cO8_iiri yhs 6 3 yhsc yhsn), (cAI g yhsc 18 yhsf), (cO8_iiri nr 8 10 nrc nrn), (cAI g nrc 80 nrf)] rfl ?_
    refine k_aload_n X dX5_signsSo_k1.1.2.1.1 4 rfl ?_
    refine k_get (ci := 3) X inlX3 rfl 6 (nlt_e rfl) dX5_signsSo_k1.1.2.1.2 mw957 1 rfl rfl ?_
    refine k_iload_n X dX5_signsSo_k1.1.2.2.1 1 rfl ?_
    refine k_iconst (v := 1) X dX5_signsSo_k1.1.2.2.2 ic_1 ?_
    refine k_callVI (n := 2) (As := [.int u_1, .int 1]) (st := [.int r_9]) X [(cO8_iiri yhs 6 3 yhsc yhsn), (cAI g yhsc 18 yhsf)] [(cO5_riiiiiiii h0 nr xsnapped xmostSlip xslip xisDrawn xseed xtick xmotorTick xahead), (cO3_vvvvvvrv hh v0hh v1hh v2hh v3hh v4hh v5hh yhs v7hh), (cO8_iiri nr 8 10 nrc nrn), (cAI g nrc 80 nrf)] [2, 3] [0, 1, 4, 5] (t_at l g yhs u_1 1 6 3 yhsc yhsn 18 yhsf (tbk_6_3)) dX5_signsSo_k1.2.1.1.1 mw757 mw376 mw377 mw64 mw378 rfl 8 rfl rfl 0 _ rfl yk_yX8_at_2 rfl (Nat.le_of_ble_eq_true rfl) (Nat.le_of_ble_eq_true rfl) (Nat.le_of_ble_eq_true rfl) (Nat.le_of_ble_eq_true rfl) (Nat.le_of_ble_eq_true rfl) rfl rfl (vnd_e rfl) rfl (vnd_e rfl) (dsj_e rfl) ?_
    rintro r_11 w ⟨hr_12, rfl⟩
    refine k_ws [(cO5_riiiiiiii h0 nr xsnapped xmostSlip xslip xisDrawn xseed xtick xmotorTick xahead), (cO3_vvvvvvrv hh v0hh v1hh v2hh v3hh v4hh v5hh yhs v7hh), (cO8_iiri nr 8 10 nrc nrn), (cAI g nrc 80 nrf), (cO8_iiri yhs 6 3 yhsc yhsn), (cAI g yhsc 18 yhsf)] rfl ?_
    refine k_ic_ne 76 X dX5_signsSo_k1.2.1.1.2 (jp_e rfl) (fun h_13 => ?_) (fun h_13 => ?_)
    · skip
      obtain ⟨z_14, ez_14⟩ : ∃ y : Int32, u_1 + Int32.ofInt 1 = y := ⟨_, rfl⟩
      refine k_iinc z_14 [(3, .int z_14), (4, .int r_7), (2, .int u_2), (0, .ref h0), (1, .ref hh)] 1 X dX5_signsSo_k2.2.2.1.1 rfl ez_14 (nlt_e rfl) rfl ?_
      refine k_goto 4 X dX5_signsSo_k2.2.2.1.2 (jp_e rfl) ?_
      refine k_lv [(3, .int z_14), (2, .int u_2), (0, .ref h0), (1, .ref hh)] [0, 2, 3, 4] rfl ?_
      refine k_sub [(cO5_riiiiiiii h0 nr xsnapped xmostSlip xslip xisDrawn xseed xtick xmotorTick xahead), (cO8_iiri nr 8 10 nrc nrn), (cAI g nrc 80 nrf), (cO3_vvvvvvrv hh v0hh v1hh v2hh v3hh v4hh v5hh yhs v7hh), (cO8_iiri yhs 6 3 yhsc yhsn), (cAI g yhsc 18 yhsf)] [0, 2, 3, 1, 4, 5] rfl (by decide) rfl ?_
      exact ih_5 _ (by rw [← hm_4]; exact mu_lt (by assumption) (by assumption)) z_14 u_2 rfl 
    · skip
      refine k_aload_n X dX5_signsSo_k1.2.1.2.1 3 rfl ?_
      refine k_get (ci := 5) X inlX5 rfl 0 (nlt_e rfl) dX5_signsSo_k1.2.1.2.2 mw125 0 rfl rfl ?_
      refine k_iload X dX5_signsSo_k1.2.2.1.1 0 rfl ?_
      refine k_iconst (v := 0) X dX5_signsSo_k1.2.2.1.2 ic_0 ?_
      refine k_callVI (n := 2) (As := [.int r_7, .int 0]) (st := []) X [(cO8_iiri nr 8 10 nrc nrn), (cAI g nrc 80 nrf)] [(cO5_riiiiiiii h0 nr xsnapped xmostSlip xslip xisDrawn xseed xtick xmotorTick xahead), (cO3_vvvvvvrv hh v0hh v1hh v2hh v3hh v4hh v5hh yhs v7hh), (cO8_iiri yhs 6 3 yhsc yhsn), (cAI g yhsc 18 yhsf)] [2, 3] [0, 1, 4, 5] (t_at l g nr r_7 0 8 10 nrc nrn 80 nrf (tbk_8_10)) dX5_signsSo_k1.2.2.2.1 mw757 mw376 mw377 mw64 mw378 rfl 8 rfl rfl 0 _ rfl yk_yX8_at_2 rfl (Nat.le_of_ble_eq_true rfl) (Nat.le_of_ble_eq_true rfl) (Nat.le_of_ble_eq_true rfl) (Nat.le_of_ble_eq_true rfl) (Nat.le_of_ble_eq_true rfl) rfl rfl (vnd_e rfl) rfl (vnd_e rfl) (dsj_e rfl) ?_
      rintro r_15 w ⟨hr_16, rfl⟩
      refine k_ws [(cO5_riiiiiiii h0 nr xsnapped xmostSlip xslip xisDrawn xseed xtick xmotorTick xahead), (cO3_vvvvvvrv hh v0hh v1hh v2hh v3hh v4hh v5hh yhs v7hh), (cO8_iiri yhs 6 3 yhsc yhsn), (cAI g yhsc 18 yhsf), (cO8_iiri nr 8 10 nrc nrn), (cAI g nrc 80 nrf)] rfl ?_
      refine k_aload_n X dX5_signsSo_k1.2.2.2.2 4 rfl ?_
      refine k_get (ci := 3) X inlX3 rfl 6 (nlt_e rfl) dX5_signsSo_k2.1.1.1 mw957 1 rfl rfl ?_
      refine k_iload_n X dX5_signsSo_k2.1.1.2.1 1 rfl ?_
      refine k_iconst (v := 2) X dX5_signsSo_k2.1.1.2.2 ic_2 ?_
      refine k_callVI (n := 2) (As := [.int u_1, .int 2]) (st := [.int r_15]) X [(cO8_iiri yhs 6 3 yhsc yhsn), (cAI g yhsc 18 yhsf)] [(cO5_riiiiiiii h0 nr xsnapped xmostSlip xslip xisDrawn xseed xtick xmotorTick xahead), (cO3_vvvvvvrv hh v0hh v1hh v2hh v3hh v4hh v5hh yhs v7hh), (cO8_iiri nr 8 10 nrc nrn), (cAI g nrc 80 nrf)] [2, 3] [0, 1, 4, 5] (t_at l g yhs u_1 2 6 3 yhsc yhsn 18 yhsf (tbk_6_3)) dX5_signsSo_k2.1.2.1.1 mw757 mw376 mw377 mw64 mw378 rfl 8 rfl rfl 0 _ rfl yk_yX8_at_2 rfl (Nat.le_of_ble_eq_true rfl) (Nat.le_of_ble_eq_true rfl) (Nat.le_of_ble_eq_true rfl) (Nat.le_of_ble_eq_true rfl) (Nat.le_of_ble_eq_true rfl) rfl rfl (vnd_e rfl) rfl (vnd_e rfl) (dsj_e rfl) ?_
      rintro r_17 w ⟨hr_18, rfl⟩
      refine k_ws [(cO5_riiiiiiii h0 nr xsnapped xmostSlip xslip xisDrawn xseed xtick xmotorTick xahead), (cO3_vvvvvvrv hh v0hh v1hh v2hh v3hh v4hh v5hh yhs v7hh), (cO8_iiri nr 8 10 nrc nrn), (cAI g nrc 80 nrf), (cO8_iiri yhs 6 3 yhsc yhsn), (cAI g yhsc 18 yhsf)] rfl ?_
      refine k_ic_ne 76 X dX5_signsSo_k2.1.2.1.2 (jp_e rfl) (fun h_19 => ?_) (fun h_19 => ?_)
      · skip
        obtain ⟨z_20, ez_20⟩ : ∃ y : Int32, u_1 + Int32.ofInt 1 = y := ⟨_, rfl⟩
        refine k_iinc z_20 [(3, .int z_20), (4, .int r_7), (2, .int u_2), (0, .ref h0), (1, .ref hh)] 1 X dX5_signsSo_k2.2.2.1.1 rfl ez_20 (nlt_e rfl) rfl ?_
        refine k_goto 4 X dX5_signsSo_k2.2.2.1.2 (jp_e rfl) ?_
        refine k_lv [(3, .int z_20), (2, .int u_2), (0, .ref h0), (1, .ref hh)] [0, 2, 3, 4] rfl ?_
        refine k_sub [(cO5_riiiiiiii h0 nr xsnapped xmostSlip xslip xisDrawn xseed xtick xmotorTick xahead), (cO8_iiri nr 8 10 nrc nrn), (cAI g nrc 80 nrf), (cO3_vvvvvvrv hh v0hh v1hh v2hh v3hh v4hh v5hh yhs v7hh), (cO8_iiri yhs 6 3 yhsc yhsn), (cAI g yhsc 18 yhsf)] [0, 2, 3, 1, 4, 5] rfl (by decide) rfl ?_
        exact ih_5 _ (by rw [← hm_4]; exact mu_lt (by assumption) (by assumption)) z_20 u_2 rfl 
      · skip
        refine k_iload_n X dX5_signsSo_k2.1.2.2.1 2 rfl ?_
        refine k_iconst (v := 1) X dX5_signsSo_k2.1.2.2.2 ic_1 ?_
        refine k_iload_n X dX5_signsSo_k2.2.1.1.1 1 rfl ?_
        refine k_ishl X dX5_signsSo_k2.2.1.1.2 ?_
        refine k_nm (fun z_21 ez_21 => ?_)
        refine k_ior X dX5_signsSo_k2.2.1.2.1 ?_
        refine k_nm (fun z_22 ez_22 => ?_)
        refine k_istore_n [(2, .int z_22), (4, .int r_7), (3, .int u_1), (0, .ref h0), (1, .ref hh)] X dX5_signsSo_k2.2.1.2.2 (nlt_e rfl) rfl ?_
        obtain ⟨z_23, ez_23⟩ : ∃ y : Int32, u_1 + Int32.ofInt 1 = y := ⟨_, rfl⟩
        refine k_iinc z_23 [(3, .int z_23), (2, .int z_22), (4, .int r_7), (0, .ref h0), (1, .ref hh)] 2 X dX5_signsSo_k2.2.2.1.1 rfl ez_23 (nlt_e rfl) rfl ?_
        refine k_goto 4 X dX5_signsSo_k2.2.2.1.2 (jp_e rfl) ?_
        refine k_lv [(3, .int z_23), (2, .int z_22), (0, .ref h0), (1, .ref hh)] [0, 1, 3, 4] rfl ?_
        refine k_sub [(cO5_riiiiiiii h0 nr xsnapped xmostSlip xslip xisDrawn xseed xtick xmotorTick xahead), (cO8_iiri nr 8 10 nrc nrn), (cAI g nrc 80 nrf), (cO3_vvvvvvrv hh v0hh v1hh v2hh v3hh v4hh v5hh yhs v7hh), (cO8_iiri yhs 6 3 yhsc yhsn), (cAI g yhsc 18 yhsf)] [0, 2, 3, 1, 4, 5] rfl (by decide) rfl ?_
        exact ih_5 _ (by rw [← hm_4]; exact mu_lt (by assumption) (by assumption)) z_23 z_22 rfl 

theorem dX0_firstDying_k0 : ((((dD cX0_firstDying 0 (.iconst 0) 1 ∧ dD cX0_firstDying 1 (.istore_n 1) 1) ∧ (dD cX0_firstDying 2 (.iload_n 1) 1 ∧ dD cX0_firstDying 3 (.aload_n 0) 1)) ∧ ((dD cX0_firstDying 4 (.getfield 14) 3 ∧ dD cX0_firstDying 7 (.getfield 52) 3) ∧ (dD cX0_firstDying 10 (.if_icmp .ge 23) 3 ∧ dD cX0_firstDying 13 (.aload_n 0) 1))) ∧ (((dD cX0_firstDying 14 (.getfield 20) 3 ∧ dD cX0_firstDying 17 (.iload_n 1) 1) ∧ (dD cX0_firstDying 18 .ishr 1 ∧ dD cX0_firstDying 19 (.iconst 1) 1)) ∧ ((dD cX0_firstDying 20 .iand 1 ∧ dD cX0_firstDying 21 (.iconst 1) 1) ∧ (dD cX0_firstDying 22 (.if_icmp .ne 5) 3 ∧ dD cX0_firstDying 25 (.iload_n 1) 1)))) := dkA16 (by decide +kernel)
theorem dX0_firstDying_k1 : ((dD cX0_firstDying 26 .ireturn 1 ∧ dD cX0_firstDying 27 (.iinc 1 1) 3) ∧ (dD cX0_firstDying 30 (.goto (-28)) 3 ∧ (dD cX0_firstDying 33 (.bipush (-2)) 2 ∧ dD cX0_firstDying 35 .ireturn 1))) := dkA5 (by decide +kernel)
set_option maxHeartbeats 4000000 in
set_option maxRecDepth 100000 in
theorem a_firstDying (l : Launch) (g : Gx) (h0 : Nat) (al : Nat) (xd : Int32) (alc : Nat) (aln : Int32) (alf : Nat → Int32) : cI l g yX0_firstDying cX0_firstDying 2 (some .int) 0 0 0 0 [.ref h0] [(cO0_ri h0 al xd), (cO8_iiri al 8 1 alc aln), (cAI g alc 8 alf)] (fun r w => w = [(cO0_ri h0 al xd), (cO8_iiri al 8 1 alc aln), (cAI g alc 8 alf)]) := by
  refine cI.of (by decide) (Nat.le_of_ble_eq_true rfl) ?_
  intro p e s m args below meth c A X hr hi
  refine k_lveq [(0, .ref h0)] rfl ?_
  refine k_iconst (v := 0) X dX0_firstDying_k0.1.1.1.1 ic_0 ?_
  refine k_istore_n [(1, .int 0), (0, .ref h0)] X dX0_firstDying_k0.1.1.1.2 (nlt_e rfl) rfl ?_
  refine (fun hL : ∀ (nn_2 : Nat) (u_1 : Int32), ((8 : Int32).toInt - u_1.toInt).toNat = nn_2 → Wk p l e _ s m args below meth c _ A g _ _ _ [(cO0_ri h0 al xd), (cO8_iiri al 8 1 alc aln), (cAI g alc 8 alf)] [(1, .int u_1), (0, .ref h0)] 2 [] => hL _ 0 rfl ) ?_
  refine fun nn_2 => Nat.strongRecOn nn_2 (fun nn_2 ih_4 => ?_)
  intro u_1 hm_3 
  refine k_iload_n X dX0_firstDying_k0.1.1.2.1 0 rfl ?_
  refine k_aload_n X dX0_firstDying_k0.1.1.2.2 1 rfl ?_
  refine k_get (ci := 0) X inlX0 rfl 0 (nlt_e rfl) dX0_firstDying_k0.1.2.1.1 mw139 0 rfl rfl ?_
  refine k_get (ci := 8) X inlX8 rfl 0 (nlt_e rfl) dX0_firstDying_k0.1.2.1.2 mw1066 1 rfl rfl ?_
  refine k_ic_ge 33 X dX0_firstDying_k0.1.2.2.1 (jp_e rfl) (fun h_5 => ?_) (fun h_5 => ?_)
  · skip
    refine k_bipush (v := -2) X dX0_firstDying_k1.2.2.1 bi_m2 ?_
    exact k_iret X hr dX0_firstDying_k1.2.2.2 (Nat.le_of_ble_eq_true rfl) (Nat.le_of_ble_eq_true rfl) [0, 1, 2] (vnd_e rfl) rfl rfl rfl
  · skip
    refine k_aload_n X dX0_firstDying_k0.1.2.2.2 1 rfl ?_
    refine k_get (ci := 0) X inlX0 rfl 1 (nlt_e rfl) dX0_firstDying_k0.2.1.1.1 mw140 0 rfl rfl ?_
    refine k_iload_n X dX0_firstDying_k0.2.1.1.2 0 rfl ?_
    refine k_ishr X dX0_firstDying_k0.2.1.2.1 ?_
    refine k_nm (fun z_6 ez_6 => ?_)
    refine k_iconst (v := 1) X dX0_firstDying_k0.2.1.2.2 ic_1 ?_
    refine k_iand X dX0_firstDying_k0.2.2.1.1 ?_
    refine k_nm (fun z_7 ez_7 => ?_)
    refine k_iconst (v := 1) X dX0_firstDying_k0.2.2.1.2 ic_1 ?_
    refine k_ic_ne 27 X dX0_firstDying_k0.2.2.2.1 (jp_e rfl) (fun h_8 => ?_) (fun h_8 => ?_)
    · skip
      obtain ⟨z_9, ez_9⟩ : ∃ y : Int32, u_1 + Int32.ofInt 1 = y := ⟨_, rfl⟩
      refine k_iinc z_9 [(1, .int z_9), (0, .ref h0)] 0 X dX0_firstDying_k1.1.2 rfl ez_9 (nlt_e rfl) rfl ?_
      refine k_goto 2 X dX0_firstDying_k1.2.1 (jp_e rfl) ?_
      exact ih_4 _ (by rw [← hm_3]; exact mu_lt (by assumption) (by assumption)) z_9 rfl 
    · skip
      refine k_iload_n X dX0_firstDying_k0.2.2.2.2 0 rfl ?_
      exact k_iret X hr dX0_firstDying_k1.1.1 (Nat.le_of_ble_eq_true rfl) (Nat.le_of_ble_eq_true rfl) [0, 1, 2] (vnd_e rfl) rfl rfl rfl

theorem dX6_soonestBack_k0 : ((((dD cX6_soonestBack 0 (.iconst 0) 1 ∧ dD cX6_soonestBack 1 (.istore_n 2) 1) ∧ (dD cX6_soonestBack 2 (.iconst 1) 1 ∧ dD cX6_soonestBack 3 (.istore_n 3) 1)) ∧ ((dD cX6_soonestBack 4 (.iload_n 3) 1 ∧ dD cX6_soonestBack 5 (.iload_n 1) 1) ∧ (dD cX6_soonestBack 6 (.if_icmp .ge 32) 3 ∧ dD cX6_soonestBack 9 (.aload_n 0) 1))) ∧ (((dD cX6_soonestBack 10 (.getfield 14) 3 ∧ dD cX6_soonestBack 13 (.iload_n 3) 1) ∧ (dD cX6_soonestBack 14 (.iconst 0) 1 ∧ dD cX6_soonestBack 15 (.invokevirtual 43) 3)) ∧ ((dD cX6_soonestBack 18 (.aload_n 0) 1 ∧ dD cX6_soonestBack 19 (.getfield 14) 3) ∧ (dD cX6_soonestBack 22 (.iload_n 2) 1 ∧ dD cX6_soonestBack 23 (.iconst 0) 1)))) := dkA16 (by decide +kernel)
theorem dX6_soonestBack_k1 : (((dD cX6_soonestBack 24 (.invokevirtual 43) 3 ∧ dD cX6_soonestBack 27 (.if_icmp .ge 5) 3) ∧ (dD cX6_soonestBack 30 (.iload_n 3) 1 ∧ dD cX6_soonestBack 31 (.istore_n 2) 1)) ∧ ((dD cX6_soonestBack 32 (.iinc 3 1) 3 ∧ dD cX6_soonestBack 35 (.goto (-31)) 3) ∧ (dD cX6_soonestBack 38 (.iload_n 2) 1 ∧ dD cX6_soonestBack 39 .ireturn 1))) := dkA8 (by decide +kernel)
set_option maxHeartbeats 4000000 in
set_option maxRecDepth 100000 in
theorem r_soonest (l : Launch) (g : Gx) (h0 : Nat) (p0 : Int32) (rb : Nat) (v1h0 : Value) (v2h0 : Value) (rbc : Nat) (rbn : Int32) (rbf : Nat → Int32) : cI l g yX6_soonestBack cX6_soonestBack 4 (some .int) 1 22 0 0 [.ref h0, .int p0] [(cO6_rvv h0 rb v1h0 v2h0), (cO8_iiri rb 4 1 rbc rbn), (cAI g rbc 4 rbf)] (fun r w => w = [(cO6_rvv h0 rb v1h0 v2h0), (cO8_iiri rb 4 1 rbc rbn), (cAI g rbc 4 rbf)]) := by
  refine cI.of (by decide) (Nat.le_of_ble_eq_true rfl) ?_
  intro p e s m args below meth c A X hr hi
  refine k_lveq [(0, .ref h0), (1, .int p0)] rfl ?_
  refine k_iconst (v := 0) X dX6_soonestBack_k0.1.1.1.1 ic_0 ?_
  refine k_istore_n [(2, .int 0), (0, .ref h0), (1, .int p0)] X dX6_soonestBack_k0.1.1.1.2 (nlt_e rfl) rfl ?_
  refine k_iconst (v := 1) X dX6_soonestBack_k0.1.1.2.1 ic_1 ?_
  refine k_istore_n [(3, .int 1), (2, .int 0), (0, .ref h0), (1, .int p0)] X dX6_soonestBack_k0.1.1.2.2 (nlt_e rfl) rfl ?_
  refine (fun hL : ∀ (nn_3 : Nat) (u_1 : Int32) (u_2 : Int32), (p0.toInt - u_1.toInt).toNat = nn_3 → Wk p l e _ s m args below meth c _ A g _ _ _ [(cO6_rvv h0 rb v1h0 v2h0), (cO8_iiri rb 4 1 rbc rbn), (cAI g rbc 4 rbf)] [(3, .int u_1), (2, .int u_2), (0, .ref h0), (1, .int p0)] 4 [] => hL _ 1 0 rfl ) ?_
  refine fun nn_3 => Nat.strongRecOn nn_3 (fun nn_3 ih_5 => ?_)
  intro u_1 u_2 hm_4 
  refine k_iload_n X dX6_soonestBack_k0.1.2.1.1 0 rfl ?_
  refine k_iload_n X dX6_soonestBack_k0.1.2.1.2 3 rfl ?_
  refine k_ic_ge 38 X dX6_soonestBack_k0.1.2.2.1 (jp_e rfl) (fun h_6 => ?_) (fun h_6 => ?_)
  · skip
    refine k_iload_n X dX6_soonestBack_k1.2.2.1 1 rfl ?_
    exact k_iret X hr dX6_soonestBack_k1.2.2.2 (Nat.le_of_ble_eq_true rfl) (Nat.le_of_ble_eq_true rfl) [0, 1, 2] (vnd_e rfl) rfl rfl rfl
  · skip
    refine k_aload_n X dX6_soonestBack_k0.1.2.2.2 2 rfl ?_
    refine k_get (ci := 6) X inlX6 rfl 0 (nlt_e rfl) dX6_soonestBack_k0.2.1.1.1 mw146 0 rfl rfl ?_
    refine k_iload_n X dX6_soonestBack_k0.2.1.1.2 0 rfl ?_
    refine k_iconst (v := 0) X dX6_soonestBack_k0.2.1.2.1 ic_0 ?_
    refine k_callVI (n := 2) (As := [.int u_1, .int 0]) (st := []) X [(cO8_iiri rb 4 1 rbc rbn), (cAI g rbc 4 rbf)] [(cO6_rvv h0 rb v1h0 v2h0)] [1, 2] [0] (t_at l g rb u_1 0 4 1 rbc rbn 4 rbf (tbk_4_1)) dX6_soonestBack_k0.2.1.2.2 mw1310 mw376 mw377 mw64 mw378 rfl 8 rfl rfl 0 _ rfl yk_yX8_at_2 rfl (Nat.le_of_ble_eq_true rfl) (Nat.le_of_ble_eq_true rfl) (Nat.le_of_ble_eq_true rfl) (Nat.le_of_ble_eq_true rfl) (Nat.le_of_ble_eq_true rfl) rfl rfl (vnd_e rfl) rfl (vnd_e rfl) (dsj_e rfl) ?_
    rintro r_7 w ⟨hr_8, rfl⟩
    refine k_ws [(cO6_rvv h0 rb v1h0 v2h0), (cO8_iiri rb 4 1 rbc rbn), (cAI g rbc 4 rbf)] rfl ?_
    refine k_aload_n X dX6_soonestBack_k0.2.2.1.1 2 rfl ?_
    refine k_get (ci := 6) X inlX6 rfl 0 (nlt_e rfl) dX6_soonestBack_k0.2.2.1.2 mw146 0 rfl rfl ?_
    refine k_iload_n X dX6_soonestBack_k0.2.2.2.1 1 rfl ?_
    refine k_iconst (v := 0) X dX6_soonestBack_k0.2.2.2.2 ic_0 ?_
    refine k_callVI (n := 2) (As := [.int u_2, .int 0]) (st := [.int r_7]) X [(cO8_iiri rb 4 1 rbc rbn), (cAI g rbc 4 rbf)] [(cO6_rvv h0 rb v1h0 v2h0)] [1, 2] [0] (t_at l g rb u_2 0 4 1 rbc rbn 4 rbf (tbk_4_1)) dX6_soonestBack_k1.1.1.1 mw1310 mw376 mw377 mw64 mw378 rfl 8 rfl rfl 0 _ rfl yk_yX8_at_2 rfl (Nat.le_of_ble_eq_true rfl) (Nat.le_of_ble_eq_true rfl) (Nat.le_of_ble_eq_true rfl) (Nat.le_of_ble_eq_true rfl) (Nat.le_of_ble_eq_true rfl) rfl rfl (vnd_e rfl) rfl (vnd_e rfl) (dsj_e rfl) ?_
    rintro r_9 w ⟨hr_10, rfl⟩
    refine k_ws [(cO6_rvv h0 rb v1h0 v2h0), (cO8_iiri rb 4 1 rbc rbn), (cAI g rbc 4 rbf)] rfl ?_
    refine k_ic_ge 32 X dX6_soonestBack_k1.1.1.2 (jp_e rfl) (fun h_11 => ?_) (fun h_11 => ?_)
    · skip
      obtain ⟨z_12, ez_12⟩ : ∃ y : Int32, u_1 + Int32.ofInt 1 = y := ⟨_, rfl⟩
      refine k_iinc z_12 [(3, .int z_12), (2, .int u_2), (0, .ref h0), (1, .int p0)] 0 X dX6_soonestBack_k1.2.1.1 rfl ez_12 (nlt_e rfl) rfl ?_
      refine k_goto 4 X dX6_soonestBack_k1.2.1.2 (jp_e rfl) ?_
      exact ih_5 _ (by rw [← hm_4]; exact mu_lt (by assumption) (by assumption)) z_12 u_2 rfl 
    · skip
      refine k_iload_n X dX6_soonestBack_k1.1.2.1 0 rfl ?_
      refine k_istore_n [(2, .int u_1), (3, .int u_1), (0, .ref h0), (1, .int p0)] X dX6_soonestBack_k1.1.2.2 (nlt_e rfl) rfl ?_
      obtain ⟨z_13, ez_13⟩ : ∃ y : Int32, u_1 + Int32.ofInt 1 = y := ⟨_, rfl⟩
      refine k_iinc z_13 [(3, .int z_13), (2, .int u_1), (0, .ref h0), (1, .int p0)] 1 X dX6_soonestBack_k1.2.1.1 rfl ez_13 (nlt_e rfl) rfl ?_
      refine k_goto 4 X dX6_soonestBack_k1.2.1.2 (jp_e rfl) ?_
      exact ih_5 _ (by rw [← hm_4]; exact mu_lt (by assumption) (by assumption)) z_13 u_1 rfl 

theorem dX5_slipNow_k0 : (((dD cX5_slipNow 0 (.aload_n 0) 1 ∧ (dD cX5_slipNow 1 (.getfield 30) 3 ∧ dD cX5_slipNow 4 (.ifCond .eq 17) 3)) ∧ ((dD cX5_slipNow 7 (.aload_n 0) 1 ∧ dD cX5_slipNow 8 (.invokevirtual 104) 3) ∧ (dD cX5_slipNow 11 (.aload_n 0) 1 ∧ dD cX5_slipNow 12 (.getfield 24) 3))) ∧ ((dD cX5_slipNow 15 (.iconst 1) 1 ∧ (dD cX5_slipNow 16 .iadd 1 ∧ dD cX5_slipNow 17 .irem 1)) ∧ ((dD cX5_slipNow 18 (.goto 7) 3 ∧ dD cX5_slipNow 21 (.aload_n 0) 1) ∧ (dD cX5_slipNow 22 (.getfield 27) 3 ∧ dD cX5_slipNow 25 .ireturn 1)))) := dkA14 (by decide +kernel)
set_option maxHeartbeats 4000000 in
set_option maxRecDepth 100000 in
theorem n_slipNow (l : Launch) (g : Gx) (h0 : Nat) (nr : Nat) (xsnapped : Int32) (xmostSlip : Int32) (xslip : Int32) (xisDrawn : Int32) (xseed : Int32) (xtick : Int32) (xmotorTick : Int32) (xahead : Int32) (hms : ¬ xmostSlip < 0) : cI l g yX5_slipNow cX5_slipNow 1 (some .int) 1 20 0 0 [.ref h0] [(cO5_riiiiiiii h0 nr xsnapped xmostSlip xslip xisDrawn xseed xtick xmotorTick xahead)] (fun r w => ∃ (xseed2 : Int32), w = [(cO5_riiiiiiii h0 nr xsnapped xmostSlip xslip xisDrawn xseed2 xtick xmotorTick xahead)]) := by
  refine cI.of (by decide) (Nat.le_of_ble_eq_true rfl) ?_
  intro p e s m args below meth c A X hr hi
  refine k_lveq [(0, .ref h0)] rfl ?_
  refine k_aload_n X dX5_slipNow_k0.1.1.1 0 rfl ?_
  refine k_get (ci := 5) X inlX5 rfl 4 (nlt_e rfl) dX5_slipNow_k0.1.1.2.1 mw129 0 rfl rfl ?_
  refine k_if_eq 21 X dX5_slipNow_k0.1.1.2.2 (jp_e rfl) (fun h_1 => ?_) (fun h_1 => ?_)
  · skip
    refine k_aload_n X dX5_slipNow_k0.2.2.1.2 0 rfl ?_
    refine k_get (ci := 5) X inlX5 rfl 3 (nlt_e rfl) dX5_slipNow_k0.2.2.2.1 mw128 0 rfl rfl ?_
    exact k_iret X hr dX5_slipNow_k0.2.2.2.2 (Nat.le_of_ble_eq_true rfl) (Nat.le_of_ble_eq_true rfl) [0] (vnd_e rfl) rfl rfl ⟨xseed, rfl⟩
  · skip
    refine k_aload_n X dX5_slipNow_k0.1.2.1.1 0 rfl ?_
    refine k_callVI (n := 0) (As := []) (st := []) X [(cO5_riiiiiiii h0 nr xsnapped xmostSlip xslip xisDrawn xseed xtick xmotorTick xahead)] [] [0] [] (n_draw l g h0 nr xsnapped xmostSlip xslip xisDrawn xseed xtick xmotorTick xahead) dX5_slipNow_k0.1.2.1.2 mw791 mw792 mw793 mw31 mw794 rfl 5 rfl rfl 0 _ rfl yk_yX5_draw_0 rfl (Nat.le_of_ble_eq_true rfl) (Nat.le_of_ble_eq_true rfl) (Nat.le_of_ble_eq_true rfl) (Nat.le_of_ble_eq_true rfl) (Nat.le_of_ble_eq_true rfl) rfl rfl (vnd_e rfl) rfl (vnd_e rfl) (dsj_e rfl) ?_
    rintro r_3 w ⟨xseed2_2, rfl⟩
    refine k_ws [(cO5_riiiiiiii h0 nr xsnapped xmostSlip xslip xisDrawn xseed2_2 xtick xmotorTick xahead)] rfl ?_
    refine k_aload_n X dX5_slipNow_k0.1.2.2.1 0 rfl ?_
    refine k_get (ci := 5) X inlX5 rfl 2 (nlt_e rfl) dX5_slipNow_k0.1.2.2.2 mw127 0 rfl rfl ?_
    refine k_iconst (v := 1) X dX5_slipNow_k0.2.1.1 ic_1 ?_
    refine k_iadd X dX5_slipNow_k0.2.1.2.1 ?_
    refine k_nm (fun z_5 ez_5 => ?_)
    refine k_irem X dX5_slipNow_k0.2.1.2.2 (nz_ms hms (by assumption)) ?_
    refine k_nm (fun z_6 ez_6 => ?_)
    refine k_goto 25 X dX5_slipNow_k0.2.2.1.1 (jp_e rfl) ?_
    exact k_iret X hr dX5_slipNow_k0.2.2.2.2 (Nat.le_of_ble_eq_true rfl) (Nat.le_of_ble_eq_true rfl) [0] (vnd_e rfl) rfl rfl ⟨xseed2_2, rfl⟩

theorem dX5_showReel_k0 : ((((dD cX5_showReel 0 (.aload_n 0) 1 ∧ dD cX5_showReel 1 (.getfield 43) 3) ∧ (dD cX5_showReel 4 (.iconst 0) 1 ∧ dD cX5_showReel 5 (.invokestatic 63) 3)) ∧ ((dD cX5_showReel 8 (.istore 5) 2 ∧ dD cX5_showReel 10 (.aload_n 0) 1) ∧ (dD cX5_showReel 11 (.getfield 43) 3 ∧ dD cX5_showReel 14 .ineg 1))) ∧ (((dD cX5_showReel 15 (.iconst 0) 1 ∧ dD cX5_showReel 16 (.invokestatic 63) 3) ∧ (dD cX5_showReel 19 (.istore 6) 2 ∧ dD cX5_showReel 21 (.aload_n 0) 1)) ∧ ((dD cX5_showReel 22 (.getfield 37) 3 ∧ dD cX5_showReel 25 (.iload 6) 2) ∧ (dD cX5_showReel 27 .iadd 1 ∧ dD cX5_showReel 28 (.istore 7) 2)))) := dkA16 (by decide +kernel)
theorem dX5_showReel_k1 : ((((dD cX5_showReel 30 (.bipush (-2)) 2 ∧ dD cX5_showReel 32 (.istore 8) 2) ∧ (dD cX5_showReel 34 (.iload 4) 2 ∧ dD cX5_showReel 36 (.istore 9) 2)) ∧ ((dD cX5_showReel 38 (.iload_n 3) 1 ∧ dD cX5_showReel 39 (.aload_n 0) 1) ∧ (dD cX5_showReel 40 (.getfield 14) 3 ∧ dD cX5_showReel 43 (.getfield 51) 3))) ∧ (((dD cX5_showReel 46 (.iconst 1) 1 ∧ dD cX5_showReel 47 .isub 1) ∧ (dD cX5_showReel 48 (.if_icmp .ge 90) 3 ∧ dD cX5_showReel 51 (.aload_n 0) 1)) ∧ ((dD cX5_showReel 52 (.getfield 14) 3 ∧ dD cX5_showReel 55 (.iload_n 3) 1) ∧ (dD cX5_showReel 56 (.bipush 9) 2 ∧ dD cX5_showReel 58 (.invokevirtual 59) 3)))) := dkA16 (by decide +kernel)
theorem dX5_showReel_k2 : ((((dD cX5_showReel 61 (.aload_n 0) 1 ∧ dD cX5_showReel 62 (.invokevirtual 94) 3) ∧ (dD cX5_showReel 65 .iadd 1 ∧ dD cX5_showReel 66 (.istore 10) 2)) ∧ ((dD cX5_showReel 68 (.iload 5) 2 ∧ dD cX5_showReel 70 (.iload 10) 2) ∧ (dD cX5_showReel 72 (.iload 4) 2 ∧ dD cX5_showReel 74 (.iconst 1) 1))) ∧ (((dD cX5_showReel 75 .isub 1 ∧ dD cX5_showReel 76 (.invokestatic 98) 3) ∧ (dD cX5_showReel 79 (.invokestatic 63) 3 ∧ dD cX5_showReel 82 (.istore 8) 2)) ∧ ((dD cX5_showReel 84 (.iload 8) 2 ∧ dD cX5_showReel 86 (.aload_n 1) 1) ∧ (dD cX5_showReel 87 (.iconst 0) 1 ∧ dD cX5_showReel 88 (.invokevirtual 101) 3)))) := dkA16 (by decide +kernel)
theorem dX5_showReel_k3 : ((((dD cX5_showReel 91 .iadd 1 ∧ dD cX5_showReel 92 (.iload 4) 2) ∧ (dD cX5_showReel 94 (.invokestatic 98) 3 ∧ dD cX5_showReel 97 (.istore 9) 2)) ∧ ((dD cX5_showReel 99 (.aload_n 0) 1 ∧ dD cX5_showReel 100 (.iload 7) 2) ∧ (dD cX5_showReel 102 (.iload 8) 2 ∧ dD cX5_showReel 104 .iadd 1))) ∧ (((dD cX5_showReel 105 (.iload 5) 2 ∧ dD cX5_showReel 107 .isub 1) ∧ (dD cX5_showReel 108 (.putfield 40) 3 ∧ dD cX5_showReel 111 (.aload_n 0) 1)) ∧ ((dD cX5_showReel 112 (.iload 9) 2 ∧ dD cX5_showReel 114 (.iload 8) 2) ∧ (dD cX5_showReel 116 .isub 1 ∧ dD cX5_showReel 117 (.aload_n 1) 1)))) := dkA16 (by decide +kernel)
theorem dX5_showReel_k4 : ((((dD cX5_showReel 118 (.iconst 1) 1 ∧ dD cX5_showReel 119 (.invokevirtual 101) 3) ∧ (dD cX5_showReel 122 .isub 1 ∧ dD cX5_showReel 123 (.aload_n 2) 1)) ∧ ((dD cX5_showReel 124 (.getfield 46) 3 ∧ dD cX5_showReel 127 (.iload_n 3) 1) ∧ (dD cX5_showReel 128 (.iconst 1) 1 ∧ dD cX5_showReel 129 .iadd 1))) ∧ (((dD cX5_showReel 130 (.iconst 1) 1 ∧ dD cX5_showReel 131 (.invokevirtual 59) 3) ∧ (dD cX5_showReel 134 .isub 1 ∧ dD cX5_showReel 135 (.putfield 43) 3)) ∧ ((dD cX5_showReel 138 (.aload_n 0) 1 ∧ dD cX5_showReel 139 (.iload 7) 2) ∧ (dD cX5_showReel 141 (.iload 9) 2 ∧ dD cX5_showReel 143 .iadd 1)))) := dkA16 (by decide +kernel)
theorem dX5_showReel_k5 : ((((dD cX5_showReel 144 (.iload 5) 2 ∧ dD cX5_showReel 146 .isub 1) ∧ (dD cX5_showReel 147 (.putfield 37) 3 ∧ dD cX5_showReel 150 (.aload_n 0) 1)) ∧ ((dD cX5_showReel 151 (.getfield 14) 3 ∧ dD cX5_showReel 154 (.iload_n 3) 1) ∧ (dD cX5_showReel 155 (.iconst 0) 1 ∧ dD cX5_showReel 156 (.iload 5) 2))) ∧ (((dD cX5_showReel 158 (.invokevirtual 76) 3 ∧ dD cX5_showReel 161 (.aload_n 0) 1) ∧ (dD cX5_showReel 162 (.getfield 14) 3 ∧ dD cX5_showReel 165 (.iload_n 3) 1)) ∧ ((dD cX5_showReel 166 (.iconst 1) 1 ∧ dD cX5_showReel 167 (.iload 6) 2) ∧ (dD cX5_showReel 169 (.invokevirtual 76) 3 ∧ dD cX5_showReel 172 (.aload_n 0) 1)))) := dkA16 (by decide +kernel)
theorem dX5_showReel_k6 : ((((dD cX5_showReel 173 (.getfield 14) 3 ∧ dD cX5_showReel 176 (.iload_n 3) 1) ∧ (dD cX5_showReel 177 (.iconst 2) 1 ∧ dD cX5_showReel 178 (.iload 4) 2)) ∧ ((dD cX5_showReel 180 (.iload 9) 2 ∧ dD cX5_showReel 182 .isub 1) ∧ (dD cX5_showReel 183 (.invokevirtual 76) 3 ∧ dD cX5_showReel 186 (.aload_n 0) 1))) ∧ (((dD cX5_showReel 187 (.getfield 14) 3 ∧ dD cX5_showReel 190 (.iload_n 3) 1) ∧ (dD cX5_showReel 191 (.iconst 3) 1 ∧ dD cX5_showReel 192 (.iconst 0) 1)) ∧ ((dD cX5_showReel 193 (.invokevirtual 76) 3 ∧ dD cX5_showReel 196 (.aload_n 0) 1) ∧ (dD cX5_showReel 197 (.getfield 14) 3 ∧ dD cX5_showReel 200 (.iload_n 3) 1)))) := dkA16 (by decide +kernel)
theorem dX5_showReel_k7 : ((((dD cX5_showReel 201 (.iconst 4) 1 ∧ dD cX5_showReel 202 (.iload 8) 2) ∧ (dD cX5_showReel 204 (.invokevirtual 76) 3 ∧ dD cX5_showReel 207 (.aload_n 0) 1)) ∧ ((dD cX5_showReel 208 (.getfield 14) 3 ∧ dD cX5_showReel 211 (.iload_n 3) 1) ∧ (dD cX5_showReel 212 (.iconst 5) 1 ∧ dD cX5_showReel 213 (.iload 9) 2))) ∧ (((dD cX5_showReel 215 (.invokevirtual 76) 3 ∧ dD cX5_showReel 218 (.aload_n 0) 1) ∧ (dD cX5_showReel 219 (.getfield 14) 3 ∧ dD cX5_showReel 222 (.iload_n 3) 1)) ∧ ((dD cX5_showReel 223 (.bipush 6) 2 ∧ dD cX5_showReel 225 (.iload 7) 2) ∧ (dD cX5_showReel 227 (.invokevirtual 76) 3 ∧ dD cX5_showReel 230 (.aload_n 0) 1)))) := dkA16 (by decide +kernel)
theorem dX5_showReel_k8 : ((dD cX5_showReel 231 (.getfield 14) 3 ∧ (dD cX5_showReel 234 (.iload_n 3) 1 ∧ dD cX5_showReel 235 (.bipush 7) 2)) ∧ ((dD cX5_showReel 237 (.aload_n 0) 1 ∧ dD cX5_showReel 238 (.getfield 37) 3) ∧ (dD cX5_showReel 241 (.invokevirtual 76) 3 ∧ dD cX5_showReel 244 .return_ 1))) := dkA7 (by decide +kernel)
set_option maxHeartbeats 4000000 in
set_option maxRecDepth 100000 in
theorem n_showReel (l : Launch) (g : Gx) (h0 : Nat) (hh : Nat) (hs : Nat) (p0 : Int32) (p1 : Int32) (nr : Nat) (xsnapped : Int32) (xmostSlip : Int32) (xslip : Int32) (xisDrawn : Int32) (xseed : Int32) (xtick : Int32) (xmotorTick : Int32) (xahead : Int32) (nrc : Nat) (nrn : Int32) (nrf : Nat → Int32) (v0hh : Value) (yhn : Nat) (v2hh : Value) (v3hh : Value) (v4hh : Value) (v5hh : Value) (v6hh : Value) (v7hh : Value) (yhnc : Nat) (yhnn : Int32) (yhnf : Nat → Int32) (v0hs : Value) (v1hs : Value) (v2hs : Value) (zp : Nat) (zmd : Int32) (ztr : Int32) (zpc : Nat) (zpn : Int32) (zpf : Nat → Int32) (hms : ¬ xmostSlip < 0) : cV l g yX5_showReel cX5_showReel 11 2 43 0 0 [.ref h0, .ref hh, .ref hs, .int p0, .int p1] [(cO5_riiiiiiii h0 nr xsnapped xmostSlip xslip xisDrawn xseed xtick xmotorTick xahead), (cO8_iiri nr 8 10 nrc nrn), (cAI g nrc 80 nrf), (cO3_vrvvvvvv hh v0hh yhn v2hh v3hh v4hh v5hh v6hh v7hh), (cO8_iiri yhn 1 6 yhnc yhnn), (cAI g yhnc 6 yhnf), (cO7_vvvrii hs v0hs v1hs v2hs zp zmd ztr), (cO8_iiri zp 8 2 zpc zpn), (cAI g zpc 16 zpf)] (fun w => ∃ (xseed2 : Int32) (xtick2 : Int32) (xmotorTick2 : Int32) (xahead2 : Int32) (nrg : Nat → Int32), w = [(cO5_riiiiiiii h0 nr xsnapped xmostSlip xslip xisDrawn xseed2 xtick2 xmotorTick2 xahead2), (cO8_iiri nr 8 10 nrc nrn), (cAI g nrc 80 nrg), (cO3_vrvvvvvv hh v0hh yhn v2hh v3hh v4hh v5hh v6hh v7hh), (cO8_iiri yhn 1 6 yhnc yhnn), (cAI g yhnc 6 yhnf), (cO7_vvvrii hs v0hs v1hs v2hs zp zmd ztr), (cO8_iiri zp 8 2 zpc zpn), (cAI g zpc 16 zpf)]) := by
  refine cV.of (by decide) (Nat.le_of_ble_eq_true rfl) ?_
  intro p e s m args below meth c A X hr hi
  refine k_lveq [(0, .ref h0), (1, .ref hh), (2, .ref hs), (3, .int p0), (4, .int p1)] rfl ?_
  refine k_aload_n X dX5_showReel_k0.1.1.1.1 0 rfl ?_
  refine k_get (ci := 5) X inlX5 rfl 8 (nlt_e rfl) dX5_showReel_k0.1.1.1.2 mw133 0 rfl rfl ?_
  refine k_iconst (v := 0) X dX5_showReel_k0.1.1.2.1 ic_0 ?_
  refine k_mmax X dX5_showReel_k0.1.1.2.2 mw756 mw102 mw103 mw104 (Nat.le_of_ble_eq_true rfl) (Nat.le_of_ble_eq_true rfl) (Nat.zero_le _) (Nat.zero_le _) ?_
  refine k_nm (fun z_1 ez_1 => ?_)
  refine k_istore [(5, .int z_1), (0, .ref h0), (1, .ref hh), (2, .ref hs), (3, .int p0), (4, .int p1)] X dX5_showReel_k0.1.2.1.1 (nlt_e rfl) rfl ?_
  refine k_aload_n X dX5_showReel_k0.1.2.1.2 1 rfl ?_
  refine k_get (ci := 5) X inlX5 rfl 8 (nlt_e rfl) dX5_showReel_k0.1.2.2.1 mw133 0 rfl rfl ?_
  refine k_ineg X dX5_showReel_k0.1.2.2.2 ?_
  refine k_nm (fun z_2 ez_2 => ?_)
  refine k_iconst (v := 0) X dX5_showReel_k0.2.1.1.1 ic_0 ?_
  refine k_mmax X dX5_showReel_k0.2.1.1.2 mw756 mw102 mw103 mw104 (Nat.le_of_ble_eq_true rfl) (Nat.le_of_ble_eq_true rfl) (Nat.zero_le _) (Nat.zero_le _) ?_
  refine k_nm (fun z_3 ez_3 => ?_)
  refine k_istore [(6, .int z_3), (5, .int z_1), (0, .ref h0), (1, .ref hh), (2, .ref hs), (3, .int p0), (4, .int p1)] X dX5_showReel_k0.2.1.2.1 (nlt_e rfl) rfl ?_
  refine k_aload_n X dX5_showReel_k0.2.1.2.2 2 rfl ?_
  refine k_get (ci := 5) X inlX5 rfl 6 (nlt_e rfl) dX5_showReel_k0.2.2.1.1 mw131 0 rfl rfl ?_
  refine k_iload X dX5_showReel_k0.2.2.1.2 0 rfl ?_
  refine k_iadd X dX5_showReel_k0.2.2.2.1 ?_
  refine k_nm (fun z_4 ez_4 => ?_)
  refine k_istore [(7, .int z_4), (6, .int z_3), (5, .int z_1), (0, .ref h0), (1, .ref hh), (2, .ref hs), (3, .int p0), (4, .int p1)] X dX5_showReel_k0.2.2.2.2 (nlt_e rfl) rfl ?_
  refine k_bipush (v := -2) X dX5_showReel_k1.1.1.1.1 bi_m2 ?_
  refine k_istore [(8, .int (-2)), (7, .int z_4), (6, .int z_3), (5, .int z_1), (0, .ref h0), (1, .ref hh), (2, .ref hs), (3, .int p0), (4, .int p1)] X dX5_showReel_k1.1.1.1.2 (nlt_e rfl) rfl ?_
  refine k_iload X dX5_showReel_k1.1.1.2.1 8 rfl ?_
  refine k_istore [(9, .int p1), (8, .int (-2)), (7, .int z_4), (6, .int z_3), (5, .int z_1), (0, .ref h0), (1, .ref hh), (2, .ref hs), (3, .int p0), (4, .int p1)] X dX5_showReel_k1.1.1.2.2 (nlt_e rfl) rfl ?_
  refine k_iload_n X dX5_showReel_k1.1.2.1.1 8 rfl ?_
  refine k_aload_n X dX5_showReel_k1.1.2.1.2 5 rfl ?_
  refine k_get (ci := 5) X inlX5 rfl 0 (nlt_e rfl) dX5_showReel_k1.1.2.2.1 mw125 0 rfl rfl ?_
  refine k_get (ci := 8) X inlX8 rfl 3 (nlt_e rfl) dX5_showReel_k1.1.2.2.2 mw754 1 rfl rfl ?_
  refine k_iconst (v := 1) X dX5_showReel_k1.2.1.1.1 ic_1 ?_
  refine k_isub X dX5_showReel_k1.2.1.1.2 ?_
  refine k_nm (fun z_5 ez_5 => ?_)
  refine k_ic_ge 138 X dX5_showReel_k1.2.1.2.1 (jp_e rfl) (fun h_6 => ?_) (fun h_6 => ?_)
  · skip
    refine k_aload_n X dX5_showReel_k4.2.2.1.1 5 rfl ?_
    refine k_iload X dX5_showReel_k4.2.2.1.2 2 rfl ?_
    refine k_iload X dX5_showReel_k4.2.2.2.1 0 rfl ?_
    refine k_iadd X dX5_showReel_k4.2.2.2.2 ?_
    refine k_nm (fun z_7 ez_7 => ?_)
    refine k_iload X dX5_showReel_k5.1.1.1.1 4 rfl ?_
    refine k_isub X dX5_showReel_k5.1.1.1.2 ?_
    refine k_nm (fun z_8 ez_8 => ?_)
    refine k_put (ci := 5) [(cO5_riiiiiiii h0 nr xsnapped xmostSlip xslip xisDrawn xseed z_8 xmotorTick xahead), (cO8_iiri nr 8 10 nrc nrn), (cAI g nrc 80 nrf), (cO3_vrvvvvvv hh v0hh yhn v2hh v3hh v4hh v5hh v6hh v7hh), (cO8_iiri yhn 1 6 yhnc yhnn), (cAI g yhnc 6 yhnf), (cO7_vvvrii hs v0hs v1hs v2hs zp zmd ztr), (cO8_iiri zp 8 2 zpc zpn), (cAI g zpc 16 zpf)] X inlX5 rfl tyX5_ok nmX5 6 (nlt_e rfl) rfl dX5_showReel_k5.1.1.2.1 mw131 0 rfl rfl rfl (Nat.le_of_ble_eq_true rfl) rfl ?_
    refine k_aload_n X dX5_showReel_k5.1.1.2.2 5 rfl ?_
    refine k_get (ci := 5) X inlX5 rfl 0 (nlt_e rfl) dX5_showReel_k5.1.2.1.1 mw125 0 rfl rfl ?_
    refine k_iload_n X dX5_showReel_k5.1.2.1.2 8 rfl ?_
    refine k_iconst (v := 0) X dX5_showReel_k5.1.2.2.1 ic_0 ?_
    refine k_iload X dX5_showReel_k5.1.2.2.2 4 rfl ?_
    refine k_callVV (n := 3) (As := [.int p0, .int 0, .int z_1]) (st := []) X [(cO8_iiri nr 8 10 nrc nrn), (cAI g nrc 80 nrf)] [(cO5_riiiiiiii h0 nr xsnapped xmostSlip xslip xisDrawn xseed z_8 xmotorTick xahead), (cO3_vrvvvvvv hh v0hh yhn v2hh v3hh v4hh v5hh v6hh v7hh), (cO8_iiri yhn 1 6 yhnc yhnn), (cAI g yhnc 6 yhnf), (cO7_vvvrii hs v0hs v1hs v2hs zp zmd ztr), (cO8_iiri zp 8 2 zpc zpn), (cAI g zpc 16 zpf)] [1, 2] [0, 3, 4, 5, 6, 7, 8] (t_put l g nr p0 0 z_1 8 10 nrc nrn 80 nrf (tbk_8_10)) dX5_showReel_k5.2.1.1.1 mw766 mw326 mw327 mw64 mw328 rfl 8 rfl rfl 0 _ rfl yk_yX8_put_3 rfl (Nat.le_of_ble_eq_true rfl) (Nat.le_of_ble_eq_true rfl) (Nat.le_of_ble_eq_true rfl) (Nat.le_of_ble_eq_true rfl) (Nat.le_of_ble_eq_true rfl) rfl rfl (vnd_e rfl) rfl (vnd_e rfl) (dsj_e rfl) ?_
    rintro w ⟨fa_9, hr_11, rfl⟩
    refine k_ws [(cO5_riiiiiiii h0 nr xsnapped xmostSlip xslip xisDrawn xseed z_8 xmotorTick xahead), (cO3_vrvvvvvv hh v0hh yhn v2hh v3hh v4hh v5hh v6hh v7hh), (cO8_iiri yhn 1 6 yhnc yhnn), (cAI g yhnc 6 yhnf), (cO7_vvvrii hs v0hs v1hs v2hs zp zmd ztr), (cO8_iiri zp 8 2 zpc zpn), (cAI g zpc 16 zpf), (cO8_iiri nr 8 10 nrc nrn), (cAI g nrc 80 fa_9)] rfl ?_
    refine k_aload_n X dX5_showReel_k5.2.1.1.2 5 rfl ?_
    refine k_get (ci := 5) X inlX5 rfl 0 (nlt_e rfl) dX5_showReel_k5.2.1.2.1 mw125 0 rfl rfl ?_
    refine k_iload_n X dX5_showReel_k5.2.1.2.2 8 rfl ?_
    refine k_iconst (v := 1) X dX5_showReel_k5.2.2.1.1 ic_1 ?_
    refine k_iload X dX5_showReel_k5.2.2.1.2 3 rfl ?_
    refine k_callVV (n := 3) (As := [.int p0, .int 1, .int z_3]) (st := []) X [(cO8_iiri nr 8 10 nrc nrn), (cAI g nrc 80 fa_9)] [(cO5_riiiiiiii h0 nr xsnapped xmostSlip xslip xisDrawn xseed z_8 xmotorTick xahead), (cO3_vrvvvvvv hh v0hh yhn v2hh v3hh v4hh v5hh v6hh v7hh), (cO8_iiri yhn 1 6 yhnc yhnn), (cAI g yhnc 6 yhnf), (cO7_vvvrii hs v0hs v1hs v2hs zp zmd ztr), (cO8_iiri zp 8 2 zpc zpn), (cAI g zpc 16 zpf)] [7, 8] [0, 1, 2, 3, 4, 5, 6] (t_put l g nr p0 1 z_3 8 10 nrc nrn 80 fa_9 (tbk_8_10)) dX5_showReel_k5.2.2.2.1 mw766 mw326 mw327 mw64 mw328 rfl 8 rfl rfl 0 _ rfl yk_yX8_put_3 rfl (Nat.le_of_ble_eq_true rfl) (Nat.le_of_ble_eq_true rfl) (Nat.le_of_ble_eq_true rfl) (Nat.le_of_ble_eq_true rfl) (Nat.le_of_ble_eq_true rfl) rfl rfl (vnd_e rfl) rfl (vnd_e rfl) (dsj_e rfl) ?_
    rintro w ⟨fa_12, hr_14, rfl⟩
    refine k_ws [(cO5_riiiiiiii h0 nr xsnapped xmostSlip xslip xisDrawn xseed z_8 xmotorTick xahead), (cO3_vrvvvvvv hh v0hh yhn v2hh v3hh v4hh v5hh v6hh v7hh), (cO8_iiri yhn 1 6 yhnc yhnn), (cAI g yhnc 6 yhnf), (cO7_vvvrii hs v0hs v1hs v2hs zp zmd ztr), (cO8_iiri zp 8 2 zpc zpn), (cAI g zpc 16 zpf), (cO8_iiri nr 8 10 nrc nrn), (cAI g nrc 80 fa_12)] rfl ?_
    refine k_aload_n X dX5_showReel_k5.2.2.2.2 5 rfl ?_
    refine k_get (ci := 5) X inlX5 rfl 0 (nlt_e rfl) dX5_showReel_k6.1.1.1.1 mw125 0 rfl rfl ?_
    refine k_iload_n X dX5_showReel_k6.1.1.1.2 8 rfl ?_
    refine k_iconst (v := 2) X dX5_showReel_k6.1.1.2.1 ic_2 ?_
    refine k_iload X dX5_showReel_k6.1.1.2.2 9 rfl ?_
    refine k_iload X dX5_showReel_k6.1.2.1.1 0 rfl ?_
    refine k_isub X dX5_showReel_k6.1.2.1.2 ?_
    refine k_nm (fun z_15 ez_15 => ?_)
    refine k_callVV (n := 3) (As := [.int p0, .int 2, .int z_15]) (st := []) X [(cO8_iiri nr 8 10 nrc nrn), (cAI g nrc 80 fa_12)] [(cO5_riiiiiiii h0 nr xsnapped xmostSlip xslip xisDrawn xseed z_8 xmotorTick xahead), (cO3_vrvvvvvv hh v0hh yhn v2hh v3hh v4hh v5hh v6hh v7hh), (cO8_iiri yhn 1 6 yhnc yhnn), (cAI g yhnc 6 yhnf), (cO7_vvvrii hs v0hs v1hs v2hs zp zmd ztr), (cO8_iiri zp 8 2 zpc zpn), (cAI g zpc 16 zpf)] [7, 8] [0, 1, 2, 3, 4, 5, 6] (t_put l g nr p0 2 z_15 8 10 nrc nrn 80 fa_12 (tbk_8_10)) dX5_showReel_k6.1.2.2.1 mw766 mw326 mw327 mw64 mw328 rfl 8 rfl rfl 0 _ rfl yk_yX8_put_3 rfl (Nat.le_of_ble_eq_true rfl) (Nat.le_of_ble_eq_true rfl) (Nat.le_of_ble_eq_true rfl) (Nat.le_of_ble_eq_true rfl) (Nat.le_of_ble_eq_true rfl) rfl rfl (vnd_e rfl) rfl (vnd_e rfl) (dsj_e rfl) ?_
    rintro w ⟨fa_16, hr_18, rfl⟩
    refine k_ws [(cO5_riiiiiiii h0 nr xsnapped xmostSlip xslip xisDrawn xseed z_8 xmotorTick xahead), (cO3_vrvvvvvv hh v0hh yhn v2hh v3hh v4hh v5hh v6hh v7hh), (cO8_iiri yhn 1 6 yhnc yhnn), (cAI g yhnc 6 yhnf), (cO7_vvvrii hs v0hs v1hs v2hs zp zmd ztr), (cO8_iiri zp 8 2 zpc zpn), (cAI g zpc 16 zpf), (cO8_iiri nr 8 10 nrc nrn), (cAI g nrc 80 fa_16)] rfl ?_
    refine k_aload_n X dX5_showReel_k6.1.2.2.2 5 rfl ?_
    refine k_get (ci := 5) X inlX5 rfl 0 (nlt_e rfl) dX5_showReel_k6.2.1.1.1 mw125 0 rfl rfl ?_
    refine k_iload_n X dX5_showReel_k6.2.1.1.2 8 rfl ?_
    refine k_iconst (v := 3) X dX5_showReel_k6.2.1.2.1 ic_3 ?_
    refine k_iconst (v := 0) X dX5_showReel_k6.2.1.2.2 ic_0 ?_
    refine k_callVV (n := 3) (As := [.int p0, .int 3, .int 0]) (st := []) X [(cO8_iiri nr 8 10 nrc nrn), (cAI g nrc 80 fa_16)] [(cO5_riiiiiiii h0 nr xsnapped xmostSlip xslip xisDrawn xseed z_8 xmotorTick xahead), (cO3_vrvvvvvv hh v0hh yhn v2hh v3hh v4hh v5hh v6hh v7hh), (cO8_iiri yhn 1 6 yhnc yhnn), (cAI g yhnc 6 yhnf), (cO7_vvvrii hs v0hs v1hs v2hs zp zmd ztr), (cO8_iiri zp 8 2 zpc zpn), (cAI g zpc 16 zpf)] [7, 8] [0, 1, 2, 3, 4, 5, 6] (t_put l g nr p0 3 0 8 10 nrc nrn 80 fa_16 (tbk_8_10)) dX5_showReel_k6.2.2.1.1 mw766 mw326 mw327 mw64 mw328 rfl 8 rfl rfl 0 _ rfl yk_yX8_put_3 rfl (Nat.le_of_ble_eq_true rfl) (Nat.le_of_ble_eq_true rfl) (Nat.le_of_ble_eq_true rfl) (Nat.le_of_ble_eq_true rfl) (Nat.le_of_ble_eq_true rfl) rfl rfl (vnd_e rfl) rfl (vnd_e rfl) (dsj_e rfl) ?_
    rintro w ⟨fa_19, hr_21, rfl⟩
    refine k_ws [(cO5_riiiiiiii h0 nr xsnapped xmostSlip xslip xisDrawn xseed z_8 xmotorTick xahead), (cO3_vrvvvvvv hh v0hh yhn v2hh v3hh v4hh v5hh v6hh v7hh), (cO8_iiri yhn 1 6 yhnc yhnn), (cAI g yhnc 6 yhnf), (cO7_vvvrii hs v0hs v1hs v2hs zp zmd ztr), (cO8_iiri zp 8 2 zpc zpn), (cAI g zpc 16 zpf), (cO8_iiri nr 8 10 nrc nrn), (cAI g nrc 80 fa_19)] rfl ?_
    refine k_aload_n X dX5_showReel_k6.2.2.1.2 5 rfl ?_
    refine k_get (ci := 5) X inlX5 rfl 0 (nlt_e rfl) dX5_showReel_k6.2.2.2.1 mw125 0 rfl rfl ?_
    refine k_iload_n X dX5_showReel_k6.2.2.2.2 8 rfl ?_
    refine k_iconst (v := 4) X dX5_showReel_k7.1.1.1.1 ic_4 ?_
    refine k_iload X dX5_showReel_k7.1.1.1.2 1 rfl ?_
    refine k_callVV (n := 3) (As := [.int p0, .int 4, .int (-2)]) (st := []) X [(cO8_iiri nr 8 10 nrc nrn), (cAI g nrc 80 fa_19)] [(cO5_riiiiiiii h0 nr xsnapped xmostSlip xslip xisDrawn xseed z_8 xmotorTick xahead), (cO3_vrvvvvvv hh v0hh yhn v2hh v3hh v4hh v5hh v6hh v7hh), (cO8_iiri yhn 1 6 yhnc yhnn), (cAI g yhnc 6 yhnf), (cO7_vvvrii hs v0hs v1hs v2hs zp zmd ztr), (cO8_iiri zp 8 2 zpc zpn), (cAI g zpc 16 zpf)] [7, 8] [0, 1, 2, 3, 4, 5, 6] (t_put l g nr p0 4 ((-2)) 8 10 nrc nrn 80 fa_19 (tbk_8_10)) dX5_showReel_k7.1.1.2.1 mw766 mw326 mw327 mw64 mw328 rfl 8 rfl rfl 0 _ rfl yk_yX8_put_3 rfl (Nat.le_of_ble_eq_true rfl) (Nat.le_of_ble_eq_true rfl) (Nat.le_of_ble_eq_true rfl) (Nat.le_of_ble_eq_true rfl) (Nat.le_of_ble_eq_true rfl) rfl rfl (vnd_e rfl) rfl (vnd_e rfl) (dsj_e rfl) ?_
    rintro w ⟨fa_22, hr_24, rfl⟩
    refine k_ws [(cO5_riiiiiiii h0 nr xsnapped xmostSlip xslip xisDrawn xseed z_8 xmotorTick xahead), (cO3_vrvvvvvv hh v0hh yhn v2hh v3hh v4hh v5hh v6hh v7hh), (cO8_iiri yhn 1 6 yhnc yhnn), (cAI g yhnc 6 yhnf), (cO7_vvvrii hs v0hs v1hs v2hs zp zmd ztr), (cO8_iiri zp 8 2 zpc zpn), (cAI g zpc 16 zpf), (cO8_iiri nr 8 10 nrc nrn), (cAI g nrc 80 fa_22)] rfl ?_
    refine k_aload_n X dX5_showReel_k7.1.1.2.2 5 rfl ?_
    refine k_get (ci := 5) X inlX5 rfl 0 (nlt_e rfl) dX5_showReel_k7.1.2.1.1 mw125 0 rfl rfl ?_
    refine k_iload_n X dX5_showReel_k7.1.2.1.2 8 rfl ?_
    refine k_iconst (v := 5) X dX5_showReel_k7.1.2.2.1 ic_5 ?_
    refine k_iload X dX5_showReel_k7.1.2.2.2 0 rfl ?_
    refine k_callVV (n := 3) (As := [.int p0, .int 5, .int p1]) (st := []) X [(cO8_iiri nr 8 10 nrc nrn), (cAI g nrc 80 fa_22)] [(cO5_riiiiiiii h0 nr xsnapped xmostSlip xslip xisDrawn xseed z_8 xmotorTick xahead), (cO3_vrvvvvvv hh v0hh yhn v2hh v3hh v4hh v5hh v6hh v7hh), (cO8_iiri yhn 1 6 yhnc yhnn), (cAI g yhnc 6 yhnf), (cO7_vvvrii hs v0hs v1hs v2hs zp zmd ztr), (cO8_iiri zp 8 2 zpc zpn), (cAI g zpc 16 zpf)] [7, 8] [0, 1, 2, 3, 4, 5, 6] (t_put l g nr p0 5 p1 8 10 nrc nrn 80 fa_22 (tbk_8_10)) dX5_showReel_k7.2.1.1.1 mw766 mw326 mw327 mw64 mw328 rfl 8 rfl rfl 0 _ rfl yk_yX8_put_3 rfl (Nat.le_of_ble_eq_true rfl) (Nat.le_of_ble_eq_true rfl) (Nat.le_of_ble_eq_true rfl) (Nat.le_of_ble_eq_true rfl) (Nat.le_of_ble_eq_true rfl) rfl rfl (vnd_e rfl) rfl (vnd_e rfl) (dsj_e rfl) ?_
    rintro w ⟨fa_25, hr_27, rfl⟩
    refine k_ws [(cO5_riiiiiiii h0 nr xsnapped xmostSlip xslip xisDrawn xseed z_8 xmotorTick xahead), (cO3_vrvvvvvv hh v0hh yhn v2hh v3hh v4hh v5hh v6hh v7hh), (cO8_iiri yhn 1 6 yhnc yhnn), (cAI g yhnc 6 yhnf), (cO7_vvvrii hs v0hs v1hs v2hs zp zmd ztr), (cO8_iiri zp 8 2 zpc zpn), (cAI g zpc 16 zpf), (cO8_iiri nr 8 10 nrc nrn), (cAI g nrc 80 fa_25)] rfl ?_
    refine k_aload_n X dX5_showReel_k7.2.1.1.2 5 rfl ?_
    refine k_get (ci := 5) X inlX5 rfl 0 (nlt_e rfl) dX5_showReel_k7.2.1.2.1 mw125 0 rfl rfl ?_
    refine k_iload_n X dX5_showReel_k7.2.1.2.2 8 rfl ?_
    refine k_bipush (v := 6) X dX5_showReel_k7.2.2.1.1 bi_6 ?_
    refine k_iload X dX5_showReel_k7.2.2.1.2 2 rfl ?_
    refine k_callVV (n := 3) (As := [.int p0, .int 6, .int z_4]) (st := []) X [(cO8_iiri nr 8 10 nrc nrn), (cAI g nrc 80 fa_25)] [(cO5_riiiiiiii h0 nr xsnapped xmostSlip xslip xisDrawn xseed z_8 xmotorTick xahead), (cO3_vrvvvvvv hh v0hh yhn v2hh v3hh v4hh v5hh v6hh v7hh), (cO8_iiri yhn 1 6 yhnc yhnn), (cAI g yhnc 6 yhnf), (cO7_vvvrii hs v0hs v1hs v2hs zp zmd ztr), (cO8_iiri zp 8 2 zpc zpn), (cAI g zpc 16 zpf)] [7, 8] [0, 1, 2, 3, 4, 5, 6] (t_put l g nr p0 6 z_4 8 10 nrc nrn 80 fa_25 (tbk_8_10)) dX5_showReel_k7.2.2.2.1 mw766 mw326 mw327 mw64 mw328 rfl 8 rfl rfl 0 _ rfl yk_yX8_put_3 rfl (Nat.le_of_ble_eq_true rfl) (Nat.le_of_ble_eq_true rfl) (Nat.le_of_ble_eq_true rfl) (Nat.le_of_ble_eq_true rfl) (Nat.le_of_ble_eq_true rfl) rfl rfl (vnd_e rfl) rfl (vnd_e rfl) (dsj_e rfl) ?_
    rintro w ⟨fa_28, hr_30, rfl⟩
    refine k_ws [(cO5_riiiiiiii h0 nr xsnapped xmostSlip xslip xisDrawn xseed z_8 xmotorTick xahead), (cO3_vrvvvvvv hh v0hh yhn v2hh v3hh v4hh v5hh v6hh v7hh), (cO8_iiri yhn 1 6 yhnc yhnn), (cAI g yhnc 6 yhnf), (cO7_vvvrii hs v0hs v1hs v2hs zp zmd ztr), (cO8_iiri zp 8 2 zpc zpn), (cAI g zpc 16 zpf), (cO8_iiri nr 8 10 nrc nrn), (cAI g nrc 80 fa_28)] rfl ?_
    refine k_aload_n X dX5_showReel_k7.2.2.2.2 5 rfl ?_
    refine k_get (ci := 5) X inlX5 rfl 0 (nlt_e rfl) dX5_showReel_k8.1.1 mw125 0 rfl rfl ?_
    refine k_iload_n X dX5_showReel_k8.1.2.1 8 rfl ?_
    refine k_bipush (v := 7) X dX5_showReel_k8.1.2.2 bi_7 ?_
    refine k_aload_n X dX5_showReel_k8.2.1.1 5 rfl ?_
    refine k_get (ci := 5) X inlX5 rfl 6 (nlt_e rfl) dX5_showReel_k8.2.1.2 mw131 0 rfl rfl ?_
    refine k_callVV (n := 3) (As := [.int p0, .int 7, .int z_8]) (st := []) X [(cO8_iiri nr 8 10 nrc nrn), (cAI g nrc 80 fa_28)] [(cO5_riiiiiiii h0 nr xsnapped xmostSlip xslip xisDrawn xseed z_8 xmotorTick xahead), (cO3_vrvvvvvv hh v0hh yhn v2hh v3hh v4hh v5hh v6hh v7hh), (cO8_iiri yhn 1 6 yhnc yhnn), (cAI g yhnc 6 yhnf), (cO7_vvvrii hs v0hs v1hs v2hs zp zmd ztr), (cO8_iiri zp 8 2 zpc zpn), (cAI g zpc 16 zpf)] [7, 8] [0, 1, 2, 3, 4, 5, 6] (t_put l g nr p0 7 z_8 8 10 nrc nrn 80 fa_28 (tbk_8_10)) dX5_showReel_k8.2.2.1 mw766 mw326 mw327 mw64 mw328 rfl 8 rfl rfl 0 _ rfl yk_yX8_put_3 rfl (Nat.le_of_ble_eq_true rfl) (Nat.le_of_ble_eq_true rfl) (Nat.le_of_ble_eq_true rfl) (Nat.le_of_ble_eq_true rfl) (Nat.le_of_ble_eq_true rfl) rfl rfl (vnd_e rfl) rfl (vnd_e rfl) (dsj_e rfl) ?_
    rintro w ⟨fa_31, hr_33, rfl⟩
    refine k_ws [(cO5_riiiiiiii h0 nr xsnapped xmostSlip xslip xisDrawn xseed z_8 xmotorTick xahead), (cO3_vrvvvvvv hh v0hh yhn v2hh v3hh v4hh v5hh v6hh v7hh), (cO8_iiri yhn 1 6 yhnc yhnn), (cAI g yhnc 6 yhnf), (cO7_vvvrii hs v0hs v1hs v2hs zp zmd ztr), (cO8_iiri zp 8 2 zpc zpn), (cAI g zpc 16 zpf), (cO8_iiri nr 8 10 nrc nrn), (cAI g nrc 80 fa_31)] rfl ?_
    exact k_vret X hr dX5_showReel_k8.2.2.2 (Nat.le_of_ble_eq_true rfl) (Nat.le_of_ble_eq_true rfl) [0, 7, 8, 1, 2, 3, 4, 5, 6] (vnd_e rfl) rfl rfl (exI5 xseed z_8 xmotorTick xahead fa_31 rfl)
  · skip
    refine k_aload_n X dX5_showReel_k1.2.1.2.2 5 rfl ?_
    refine k_get (ci := 5) X inlX5 rfl 0 (nlt_e rfl) dX5_showReel_k1.2.2.1.1 mw125 0 rfl rfl ?_
    refine k_iload_n X dX5_showReel_k1.2.2.1.2 8 rfl ?_
    refine k_bipush (v := 9) X dX5_showReel_k1.2.2.2.1 bi_9 ?_
    refine k_callVI (n := 2) (As := [.int p0, .int 9]) (st := []) X [(cO8_iiri nr 8 10 nrc nrn), (cAI g nrc 80 nrf)] [(cO5_riiiiiiii h0 nr xsnapped xmostSlip xslip xisDrawn xseed xtick xmotorTick xahead), (cO3_vrvvvvvv hh v0hh yhn v2hh v3hh v4hh v5hh v6hh v7hh), (cO8_iiri yhn 1 6 yhnc yhnn), (cAI g yhnc 6 yhnf), (cO7_vvvrii hs v0hs v1hs v2hs zp zmd ztr), (cO8_iiri zp 8 2 zpc zpn), (cAI g zpc 16 zpf)] [1, 2] [0, 3, 4, 5, 6, 7, 8] (t_at l g nr p0 9 8 10 nrc nrn 80 nrf (tbk_8_10)) dX5_showReel_k1.2.2.2.2 mw757 mw376 mw377 mw64 mw378 rfl 8 rfl rfl 0 _ rfl yk_yX8_at_2 rfl (Nat.le_of_ble_eq_true rfl) (Nat.le_of_ble_eq_true rfl) (Nat.le_of_ble_eq_true rfl) (Nat.le_of_ble_eq_true rfl) (Nat.le_of_ble_eq_true rfl) rfl rfl (vnd_e rfl) rfl (vnd_e rfl) (dsj_e rfl) ?_
    rintro r_34 w ⟨hr_35, rfl⟩
    refine k_ws [(cO5_riiiiiiii h0 nr xsnapped xmostSlip xslip xisDrawn xseed xtick xmotorTick xahead), (cO3_vrvvvvvv hh v0hh yhn v2hh v3hh v4hh v5hh v6hh v7hh), (cO8_iiri yhn 1 6 yhnc yhnn), (cAI g yhnc 6 yhnf), (cO7_vvvrii hs v0hs v1hs v2hs zp zmd ztr), (cO8_iiri zp 8 2 zpc zpn), (cAI g zpc 16 zpf), (cO8_iiri nr 8 10 nrc nrn), (cAI g nrc 80 nrf)] rfl ?_
    refine k_aload_n X dX5_showReel_k2.1.1.1.1 5 rfl ?_
    refine k_callVI (n := 0) (As := []) (st := [.int r_34]) X [(cO5_riiiiiiii h0 nr xsnapped xmostSlip xslip xisDrawn xseed xtick xmotorTick xahead)] [(cO3_vrvvvvvv hh v0hh yhn v2hh v3hh v4hh v5hh v6hh v7hh), (cO8_iiri yhn 1 6 yhnc yhnn), (cAI g yhnc 6 yhnf), (cO7_vvvrii hs v0hs v1hs v2hs zp zmd ztr), (cO8_iiri zp 8 2 zpc zpn), (cAI g zpc 16 zpf), (cO8_iiri nr 8 10 nrc nrn), (cAI g nrc 80 nrf)] [0] [1, 2, 3, 4, 5, 6, 7, 8] (n_slipNow l g h0 nr xsnapped xmostSlip xslip xisDrawn xseed xtick xmotorTick xahead (by assumption)) dX5_showReel_k2.1.1.1.2 mw787 mw788 mw789 mw31 mw790 rfl 5 rfl rfl 0 _ rfl yk_yX5_slipNow_0 rfl (Nat.le_of_ble_eq_true rfl) (Nat.le_of_ble_eq_true rfl) (Nat.le_of_ble_eq_true rfl) (Nat.le_of_ble_eq_true rfl) (Nat.le_of_ble_eq_true rfl) rfl rfl (vnd_e rfl) rfl (vnd_e rfl) (dsj_e rfl) ?_
    rintro r_37 w ⟨xseed2_36, rfl⟩
    refine k_ws [(cO3_vrvvvvvv hh v0hh yhn v2hh v3hh v4hh v5hh v6hh v7hh), (cO8_iiri yhn 1 6 yhnc yhnn), (cAI g yhnc 6 yhnf), (cO7_vvvrii hs v0hs v1hs v2hs zp zmd ztr), (cO8_iiri zp 8 2 zpc zpn), (cAI g zpc 16 zpf), (cO8_iiri nr 8 10 nrc nrn), (cAI g nrc 80 nrf), (cO5_riiiiiiii h0 nr xsnapped xmostSlip xslip xisDrawn xseed2_36 xtick xmotorTick xahead)] rfl ?_
    refine k_iadd X dX5_showReel_k2.1.1.2.1 ?_
    refine k_nm (fun z_39 ez_39 => ?_)
    refine k_istore [(10, .int z_39), (9, .int p1), (8, .int (-2)), (7, .int z_4), (6, .int z_3), (5, .int z_1), (0, .ref h0), (1, .ref hh), (2, .ref hs), (3, .int p0), (4, .int p1)] X dX5_showReel_k2.1.1.2.2 (nlt_e rfl) rfl ?_
    refine k_iload X dX5_showReel_k2.1.2.1.1 5 rfl ?_
    refine k_iload X dX5_showReel_k2.1.2.1.2 0 rfl ?_
    refine k_iload X dX5_showReel_k2.1.2.2.1 10 rfl ?_
    refine k_iconst (v := 1) X dX5_showReel_k2.1.2.2.2 ic_1 ?_
    refine k_isub X dX5_showReel_k2.2.1.1.1 ?_
    refine k_nm (fun z_40 ez_40 => ?_)
    refine k_mmin X dX5_showReel_k2.2.1.1.2 mw784 mw785 mw103 mw786 (Nat.le_of_ble_eq_true rfl) (Nat.le_of_ble_eq_true rfl) (Nat.zero_le _) (Nat.zero_le _) ?_
    refine k_nm (fun z_41 ez_41 => ?_)
    refine k_mmax X dX5_showReel_k2.2.1.2.1 mw756 mw102 mw103 mw104 (Nat.le_of_ble_eq_true rfl) (Nat.le_of_ble_eq_true rfl) (Nat.zero_le _) (Nat.zero_le _) ?_
    refine k_nm (fun z_42 ez_42 => ?_)
    refine k_istore [(8, .int z_42), (10, .int z_39), (9, .int p1), (7, .int z_4), (6, .int z_3), (5, .int z_1), (0, .ref h0), (1, .ref hh), (2, .ref hs), (3, .int p0), (4, .int p1)] X dX5_showReel_k2.2.1.2.2 (nlt_e rfl) rfl ?_
    refine k_iload X dX5_showReel_k2.2.2.1.1 0 rfl ?_
    refine k_aload_n X dX5_showReel_k2.2.2.1.2 7 rfl ?_
    refine k_iconst (v := 0) X dX5_showReel_k2.2.2.2.1 ic_0 ?_
    refine k_callVI (n := 1) (As := [.int 0]) (st := [.int z_42]) X [(cO3_vrvvvvvv hh v0hh yhn v2hh v3hh v4hh v5hh v6hh v7hh), (cO8_iiri yhn 1 6 yhnc yhnn), (cAI g yhnc 6 yhnf)] [(cO7_vvvrii hs v0hs v1hs v2hs zp zmd ztr), (cO8_iiri zp 8 2 zpc zpn), (cAI g zpc 16 zpf), (cO8_iiri nr 8 10 nrc nrn), (cAI g nrc 80 nrf), (cO5_riiiiiiii h0 nr xsnapped xmostSlip xslip xisDrawn xseed2_36 xtick xmotorTick xahead)] [0, 1, 2] [3, 4, 5, 6, 7, 8] (h_number l g hh 0 v0hh yhn v2hh v3hh v4hh v5hh v6hh v7hh yhnc yhnn yhnf) dX5_showReel_k2.2.2.2.2 mw796 mw415 mw416 mw19 mw417 rfl 3 rfl rfl 0 _ rfl yk_yX3_number_1 rfl (Nat.le_of_ble_eq_true rfl) (Nat.le_of_ble_eq_true rfl) (Nat.le_of_ble_eq_true rfl) (Nat.le_of_ble_eq_true rfl) (Nat.le_of_ble_eq_true rfl) rfl rfl (vnd_e rfl) rfl (vnd_e rfl) (dsj_e rfl) ?_
    rintro r_43 w rfl
    refine k_ws [(cO7_vvvrii hs v0hs v1hs v2hs zp zmd ztr), (cO8_iiri zp 8 2 zpc zpn), (cAI g zpc 16 zpf), (cO8_iiri nr 8 10 nrc nrn), (cAI g nrc 80 nrf), (cO5_riiiiiiii h0 nr xsnapped xmostSlip xslip xisDrawn xseed2_36 xtick xmotorTick xahead), (cO3_vrvvvvvv hh v0hh yhn v2hh v3hh v4hh v5hh v6hh v7hh), (cO8_iiri yhn 1 6 yhnc yhnn), (cAI g yhnc 6 yhnf)] rfl ?_
    refine k_iadd X dX5_showReel_k3.1.1.1.1 ?_
    refine k_nm (fun z_45 ez_45 => ?_)
    refine k_iload X dX5_showReel_k3.1.1.1.2 10 rfl ?_
    refine k_mmin X dX5_showReel_k3.1.1.2.1 mw784 mw785 mw103 mw786 (Nat.le_of_ble_eq_true rfl) (Nat.le_of_ble_eq_true rfl) (Nat.zero_le _) (Nat.zero_le _) ?_
    refine k_nm (fun z_46 ez_46 => ?_)
    refine k_istore [(9, .int z_46), (8, .int z_42), (10, .int z_39), (7, .int z_4), (6, .int z_3), (5, .int z_1), (0, .ref h0), (1, .ref hh), (2, .ref hs), (3, .int p0), (4, .int p1)] X dX5_showReel_k3.1.1.2.2 (nlt_e rfl) rfl ?_
    refine k_aload_n X dX5_showReel_k3.1.2.1.1 6 rfl ?_
    refine k_iload X dX5_showReel_k3.1.2.1.2 3 rfl ?_
    refine k_iload X dX5_showReel_k3.1.2.2.1 1 rfl ?_
    refine k_iadd X dX5_showReel_k3.1.2.2.2 ?_
    refine k_nm (fun z_47 ez_47 => ?_)
    refine k_iload X dX5_showReel_k3.2.1.1.1 5 rfl ?_
    refine k_isub X dX5_showReel_k3.2.1.1.2 ?_
    refine k_nm (fun z_48 ez_48 => ?_)
    refine k_put (ci := 5) [(cO7_vvvrii hs v0hs v1hs v2hs zp zmd ztr), (cO8_iiri zp 8 2 zpc zpn), (cAI g zpc 16 zpf), (cO8_iiri nr 8 10 nrc nrn), (cAI g nrc 80 nrf), (cO5_riiiiiiii h0 nr xsnapped xmostSlip xslip xisDrawn xseed2_36 xtick z_48 xahead), (cO3_vrvvvvvv hh v0hh yhn v2hh v3hh v4hh v5hh v6hh v7hh), (cO8_iiri yhn 1 6 yhnc yhnn), (cAI g yhnc 6 yhnf)] X inlX5 rfl tyX5_ok nmX5 7 (nlt_e rfl) rfl dX5_showReel_k3.2.1.2.1 mw132 5 rfl rfl rfl (Nat.le_of_ble_eq_true rfl) rfl ?_
    refine k_aload_n X dX5_showReel_k3.2.1.2.2 6 rfl ?_
    refine k_iload X dX5_showReel_k3.2.2.1.1 0 rfl ?_
    refine k_iload X dX5_showReel_k3.2.2.1.2 1 rfl ?_
    refine k_isub X dX5_showReel_k3.2.2.2.1 ?_
    refine k_nm (fun z_49 ez_49 => ?_)
    refine k_aload_n X dX5_showReel_k3.2.2.2.2 7 rfl ?_
    refine k_iconst (v := 1) X dX5_showReel_k4.1.1.1.1 ic_1 ?_
    refine k_callVI (n := 1) (As := [.int 1]) (st := [.int z_49, .ref h0]) X [(cO3_vrvvvvvv hh v0hh yhn v2hh v3hh v4hh v5hh v6hh v7hh), (cO8_iiri yhn 1 6 yhnc yhnn), (cAI g yhnc 6 yhnf)] [(cO7_vvvrii hs v0hs v1hs v2hs zp zmd ztr), (cO8_iiri zp 8 2 zpc zpn), (cAI g zpc 16 zpf), (cO8_iiri nr 8 10 nrc nrn), (cAI g nrc 80 nrf), (cO5_riiiiiiii h0 nr xsnapped xmostSlip xslip xisDrawn xseed2_36 xtick z_48 xahead)] [6, 7, 8] [0, 1, 2, 3, 4, 5] (h_number l g hh 1 v0hh yhn v2hh v3hh v4hh v5hh v6hh v7hh yhnc yhnn yhnf) dX5_showReel_k4.1.1.1.2 mw796 mw415 mw416 mw19 mw417 rfl 3 rfl rfl 0 _ rfl yk_yX3_number_1 rfl (Nat.le_of_ble_eq_true rfl) (Nat.le_of_ble_eq_true rfl) (Nat.le_of_ble_eq_true rfl) (Nat.le_of_ble_eq_true rfl) (Nat.le_of_ble_eq_true rfl) rfl rfl (vnd_e rfl) rfl (vnd_e rfl) (dsj_e rfl) ?_
    rintro r_50 w rfl
    refine k_ws [(cO7_vvvrii hs v0hs v1hs v2hs zp zmd ztr), (cO8_iiri zp 8 2 zpc zpn), (cAI g zpc 16 zpf), (cO8_iiri nr 8 10 nrc nrn), (cAI g nrc 80 nrf), (cO5_riiiiiiii h0 nr xsnapped xmostSlip xslip xisDrawn xseed2_36 xtick z_48 xahead), (cO3_vrvvvvvv hh v0hh yhn v2hh v3hh v4hh v5hh v6hh v7hh), (cO8_iiri yhn 1 6 yhnc yhnn), (cAI g yhnc 6 yhnf)] rfl ?_
    refine k_isub X dX5_showReel_k4.1.1.2.1 ?_
    refine k_nm (fun z_52 ez_52 => ?_)
    refine k_aload_n X dX5_showReel_k4.1.1.2.2 8 rfl ?_
    refine k_get (ci := 7) X inlX7 rfl 3 (nlt_e rfl) dX5_showReel_k4.1.2.1.1 mw753 0 rfl rfl ?_
    refine k_iload_n X dX5_showReel_k4.1.2.1.2 9 rfl ?_
    refine k_iconst (v := 1) X dX5_showReel_k4.1.2.2.1 ic_1 ?_
    refine k_iadd X dX5_showReel_k4.1.2.2.2 ?_
    refine k_nm (fun z_53 ez_53 => ?_)
    refine k_iconst (v := 1) X dX5_showReel_k4.2.1.1.1 ic_1 ?_
    refine k_callVI (n := 2) (As := [.int z_53, .int 1]) (st := [.int z_52, .ref h0]) X [(cO8_iiri zp 8 2 zpc zpn), (cAI g zpc 16 zpf)] [(cO7_vvvrii hs v0hs v1hs v2hs zp zmd ztr), (cO8_iiri nr 8 10 nrc nrn), (cAI g nrc 80 nrf), (cO5_riiiiiiii h0 nr xsnapped xmostSlip xslip xisDrawn xseed2_36 xtick z_48 xahead), (cO3_vrvvvvvv hh v0hh yhn v2hh v3hh v4hh v5hh v6hh v7hh), (cO8_iiri yhn 1 6 yhnc yhnn), (cAI g yhnc 6 yhnf)] [1, 2] [0, 3, 4, 5, 6, 7, 8] (t_at l g zp z_53 1 8 2 zpc zpn 16 zpf (tbk_8_2)) dX5_showReel_k4.2.1.1.2 mw757 mw376 mw377 mw64 mw378 rfl 8 rfl rfl 0 _ rfl yk_yX8_at_2 rfl (Nat.le_of_ble_eq_true rfl) (Nat.le_of_ble_eq_true rfl) (Nat.le_of_ble_eq_true rfl) (Nat.le_of_ble_eq_true rfl) (Nat.le_of_ble_eq_true rfl) rfl rfl (vnd_e rfl) rfl (vnd_e rfl) (dsj_e rfl) ?_
    rintro r_54 w ⟨hr_55, rfl⟩
    refine k_ws [(cO7_vvvrii hs v0hs v1hs v2hs zp zmd ztr), (cO8_iiri nr 8 10 nrc nrn), (cAI g nrc 80 nrf), (cO5_riiiiiiii h0 nr xsnapped xmostSlip xslip xisDrawn xseed2_36 xtick z_48 xahead), (cO3_vrvvvvvv hh v0hh yhn v2hh v3hh v4hh v5hh v6hh v7hh), (cO8_iiri yhn 1 6 yhnc yhnn), (cAI g yhnc 6 yhnf), (cO8_iiri zp 8 2 zpc zpn), (cAI g zpc 16 zpf)] rfl ?_
    refine k_isub X dX5_showReel_k4.2.1.2.1 ?_
    refine k_nm (fun z_56 ez_56 => ?_)
    refine k_put (ci := 5) [(cO7_vvvrii hs v0hs v1hs v2hs zp zmd ztr), (cO8_iiri nr 8 10 nrc nrn), (cAI g nrc 80 nrf), (cO5_riiiiiiii h0 nr xsnapped xmostSlip xslip xisDrawn xseed2_36 xtick z_48 z_56), (cO3_vrvvvvvv hh v0hh yhn v2hh v3hh v4hh v5hh v6hh v7hh), (cO8_iiri yhn 1 6 yhnc yhnn), (cAI g yhnc 6 yhnf), (cO8_iiri zp 8 2 zpc zpn), (cAI g zpc 16 zpf)] X inlX5 rfl tyX5_ok nmX5 8 (nlt_e rfl) rfl dX5_showReel_k4.2.1.2.2 mw133 3 rfl rfl rfl (Nat.le_of_ble_eq_true rfl) rfl ?_
    refine k_aload_n X dX5_showReel_k4.2.2.1.1 6 rfl ?_
    refine k_iload X dX5_showReel_k4.2.2.1.2 3 rfl ?_
    refine k_iload X dX5_showReel_k4.2.2.2.1 0 rfl ?_
    refine k_iadd X dX5_showReel_k4.2.2.2.2 ?_
    refine k_nm (fun z_57 ez_57 => ?_)
    refine k_iload X dX5_showReel_k5.1.1.1.1 5 rfl ?_
    refine k_isub X dX5_showReel_k5.1.1.1.2 ?_
    refine k_nm (fun z_58 ez_58 => ?_)
    refine k_put (ci := 5) [(cO7_vvvrii hs v0hs v1hs v2hs zp zmd ztr), (cO8_iiri nr 8 10 nrc nrn), (cAI g nrc 80 nrf), (cO5_riiiiiiii h0 nr xsnapped xmostSlip xslip xisDrawn xseed2_36 z_58 z_48 z_56), (cO3_vrvvvvvv hh v0hh yhn v2hh v3hh v4hh v5hh v6hh v7hh), (cO8_iiri yhn 1 6 yhnc yhnn), (cAI g yhnc 6 yhnf), (cO8_iiri zp 8 2 zpc zpn), (cAI g zpc 16 zpf)] X inlX5 rfl tyX5_ok nmX5 6 (nlt_e rfl) rfl dX5_showReel_k5.1.1.2.1 mw131 3 rfl rfl rfl (Nat.le_of_ble_eq_true rfl) rfl ?_
    refine k_aload_n X dX5_showReel_k5.1.1.2.2 6 rfl ?_
    refine k_get (ci := 5) X inlX5 rfl 0 (nlt_e rfl) dX5_showReel_k5.1.2.1.1 mw125 3 rfl rfl ?_
    refine k_iload_n X dX5_showReel_k5.1.2.1.2 9 rfl ?_
    refine k_iconst (v := 0) X dX5_showReel_k5.1.2.2.1 ic_0 ?_
    refine k_iload X dX5_showReel_k5.1.2.2.2 5 rfl ?_
    refine k_callVV (n := 3) (As := [.int p0, .int 0, .int z_1]) (st := []) X [(cO8_iiri nr 8 10 nrc nrn), (cAI g nrc 80 nrf)] [(cO7_vvvrii hs v0hs v1hs v2hs zp zmd ztr), (cO5_riiiiiiii h0 nr xsnapped xmostSlip xslip xisDrawn xseed2_36 z_58 z_48 z_56), (cO3_vrvvvvvv hh v0hh yhn v2hh v3hh v4hh v5hh v6hh v7hh), (cO8_iiri yhn 1 6 yhnc yhnn), (cAI g yhnc 6 yhnf), (cO8_iiri zp 8 2 zpc zpn), (cAI g zpc 16 zpf)] [1, 2] [0, 3, 4, 5, 6, 7, 8] (t_put l g nr p0 0 z_1 8 10 nrc nrn 80 nrf (tbk_8_10)) dX5_showReel_k5.2.1.1.1 mw766 mw326 mw327 mw64 mw328 rfl 8 rfl rfl 0 _ rfl yk_yX8_put_3 rfl (Nat.le_of_ble_eq_true rfl) (Nat.le_of_ble_eq_true rfl) (Nat.le_of_ble_eq_true rfl) (Nat.le_of_ble_eq_true rfl) (Nat.le_of_ble_eq_true rfl) rfl rfl (vnd_e rfl) rfl (vnd_e rfl) (dsj_e rfl) ?_
    rintro w ⟨fa_59, hr_61, rfl⟩
    refine k_ws [(cO7_vvvrii hs v0hs v1hs v2hs zp zmd ztr), (cO5_riiiiiiii h0 nr xsnapped xmostSlip xslip xisDrawn xseed2_36 z_58 z_48 z_56), (cO3_vrvvvvvv hh v0hh yhn v2hh v3hh v4hh v5hh v6hh v7hh), (cO8_iiri yhn 1 6 yhnc yhnn), (cAI g yhnc 6 yhnf), (cO8_iiri zp 8 2 zpc zpn), (cAI g zpc 16 zpf), (cO8_iiri nr 8 10 nrc nrn), (cAI g nrc 80 fa_59)] rfl ?_
    refine k_aload_n X dX5_showReel_k5.2.1.1.2 6 rfl ?_
    refine k_get (ci := 5) X inlX5 rfl 0 (nlt_e rfl) dX5_showReel_k5.2.1.2.1 mw125 1 rfl rfl ?_
    refine k_iload_n X dX5_showReel_k5.2.1.2.2 9 rfl ?_
    refine k_iconst (v := 1) X dX5_showReel_k5.2.2.1.1 ic_1 ?_
    refine k_iload X dX5_showReel_k5.2.2.1.2 4 rfl ?_
    refine k_callVV (n := 3) (As := [.int p0, .int 1, .int z_3]) (st := []) X [(cO8_iiri nr 8 10 nrc nrn), (cAI g nrc 80 fa_59)] [(cO7_vvvrii hs v0hs v1hs v2hs zp zmd ztr), (cO5_riiiiiiii h0 nr xsnapped xmostSlip xslip xisDrawn xseed2_36 z_58 z_48 z_56), (cO3_vrvvvvvv hh v0hh yhn v2hh v3hh v4hh v5hh v6hh v7hh), (cO8_iiri yhn 1 6 yhnc yhnn), (cAI g yhnc 6 yhnf), (cO8_iiri zp 8 2 zpc zpn), (cAI g zpc 16 zpf)] [7, 8] [0, 1, 2, 3, 4, 5, 6] (t_put l g nr p0 1 z_3 8 10 nrc nrn 80 fa_59 (tbk_8_10)) dX5_showReel_k5.2.2.2.1 mw766 mw326 mw327 mw64 mw328 rfl 8 rfl rfl 0 _ rfl yk_yX8_put_3 rfl (Nat.le_of_ble_eq_true rfl) (Nat.le_of_ble_eq_true rfl) (Nat.le_of_ble_eq_true rfl) (Nat.le_of_ble_eq_true rfl) (Nat.le_of_ble_eq_true rfl) rfl rfl (vnd_e rfl) rfl (vnd_e rfl) (dsj_e rfl) ?_
    rintro w ⟨fa_62, hr_64, rfl⟩
    refine k_ws [(cO7_vvvrii hs v0hs v1hs v2hs zp zmd ztr), (cO5_riiiiiiii h0 nr xsnapped xmostSlip xslip xisDrawn xseed2_36 z_58 z_48 z_56), (cO3_vrvvvvvv hh v0hh yhn v2hh v3hh v4hh v5hh v6hh v7hh), (cO8_iiri yhn 1 6 yhnc yhnn), (cAI g yhnc 6 yhnf), (cO8_iiri zp 8 2 zpc zpn), (cAI g zpc 16 zpf), (cO8_iiri nr 8 10 nrc nrn), (cAI g nrc 80 fa_62)] rfl ?_
    refine k_aload_n X dX5_showReel_k5.2.2.2.2 6 rfl ?_
    refine k_get (ci := 5) X inlX5 rfl 0 (nlt_e rfl) dX5_showReel_k6.1.1.1.1 mw125 1 rfl rfl ?_
    refine k_iload_n X dX5_showReel_k6.1.1.1.2 9 rfl ?_
    refine k_iconst (v := 2) X dX5_showReel_k6.1.1.2.1 ic_2 ?_
    refine k_iload X dX5_showReel_k6.1.1.2.2 10 rfl ?_
    refine k_iload X dX5_showReel_k6.1.2.1.1 0 rfl ?_
    refine k_isub X dX5_showReel_k6.1.2.1.2 ?_
    refine k_nm (fun z_65 ez_65 => ?_)
    refine k_callVV (n := 3) (As := [.int p0, .int 2, .int z_65]) (st := []) X [(cO8_iiri nr 8 10 nrc nrn), (cAI g nrc 80 fa_62)] [(cO7_vvvrii hs v0hs v1hs v2hs zp zmd ztr), (cO5_riiiiiiii h0 nr xsnapped xmostSlip xslip xisDrawn xseed2_36 z_58 z_48 z_56), (cO3_vrvvvvvv hh v0hh yhn v2hh v3hh v4hh v5hh v6hh v7hh), (cO8_iiri yhn 1 6 yhnc yhnn), (cAI g yhnc 6 yhnf), (cO8_iiri zp 8 2 zpc zpn), (cAI g zpc 16 zpf)] [7, 8] [0, 1, 2, 3, 4, 5, 6] (t_put l g nr p0 2 z_65 8 10 nrc nrn 80 fa_62 (tbk_8_10)) dX5_showReel_k6.1.2.2.1 mw766 mw326 mw327 mw64 mw328 rfl 8 rfl rfl 0 _ rfl yk_yX8_put_3 rfl (Nat.le_of_ble_eq_true rfl) (Nat.le_of_ble_eq_true rfl) (Nat.le_of_ble_eq_true rfl) (Nat.le_of_ble_eq_true rfl) (Nat.le_of_ble_eq_true rfl) rfl rfl (vnd_e rfl) rfl (vnd_e rfl) (dsj_e rfl) ?_
    rintro w ⟨fa_66, hr_68, rfl⟩
    refine k_ws [(cO7_vvvrii hs v0hs v1hs v2hs zp zmd ztr), (cO5_riiiiiiii h0 nr xsnapped xmostSlip xslip xisDrawn xseed2_36 z_58 z_48 z_56), (cO3_vrvvvvvv hh v0hh yhn v2hh v3hh v4hh v5hh v6hh v7hh), (cO8_iiri yhn 1 6 yhnc yhnn), (cAI g yhnc 6 yhnf), (cO8_iiri zp 8 2 zpc zpn), (cAI g zpc 16 zpf), (cO8_iiri nr 8 10 nrc nrn), (cAI g nrc 80 fa_66)] rfl ?_
    refine k_aload_n X dX5_showReel_k6.1.2.2.2 6 rfl ?_
    refine k_get (ci := 5) X inlX5 rfl 0 (nlt_e rfl) dX5_showReel_k6.2.1.1.1 mw125 1 rfl rfl ?_
    refine k_iload_n X dX5_showReel_k6.2.1.1.2 9 rfl ?_
    refine k_iconst (v := 3) X dX5_showReel_k6.2.1.2.1 ic_3 ?_
    refine k_iconst (v := 0) X dX5_showReel_k6.2.1.2.2 ic_0 ?_
    refine k_callVV (n := 3) (As := [.int p0, .int 3, .int 0]) (st := []) X [(cO8_iiri nr 8 10 nrc nrn), (cAI g nrc 80 fa_66)] [(cO7_vvvrii hs v0hs v1hs v2hs zp zmd ztr), (cO5_riiiiiiii h0 nr xsnapped xmostSlip xslip xisDrawn xseed2_36 z_58 z_48 z_56), (cO3_vrvvvvvv hh v0hh yhn v2hh v3hh v4hh v5hh v6hh v7hh), (cO8_iiri yhn 1 6 yhnc yhnn), (cAI g yhnc 6 yhnf), (cO8_iiri zp 8 2 zpc zpn), (cAI g zpc 16 zpf)] [7, 8] [0, 1, 2, 3, 4, 5, 6] (t_put l g nr p0 3 0 8 10 nrc nrn 80 fa_66 (tbk_8_10)) dX5_showReel_k6.2.2.1.1 mw766 mw326 mw327 mw64 mw328 rfl 8 rfl rfl 0 _ rfl yk_yX8_put_3 rfl (Nat.le_of_ble_eq_true rfl) (Nat.le_of_ble_eq_true rfl) (Nat.le_of_ble_eq_true rfl) (Nat.le_of_ble_eq_true rfl) (Nat.le_of_ble_eq_true rfl) rfl rfl (vnd_e rfl) rfl (vnd_e rfl) (dsj_e rfl) ?_
    rintro w ⟨fa_69, hr_71, rfl⟩
    refine k_ws [(cO7_vvvrii hs v0hs v1hs v2hs zp zmd ztr), (cO5_riiiiiiii h0 nr xsnapped xmostSlip xslip xisDrawn xseed2_36 z_58 z_48 z_56), (cO3_vrvvvvvv hh v0hh yhn v2hh v3hh v4hh v5hh v6hh v7hh), (cO8_iiri yhn 1 6 yhnc yhnn), (cAI g yhnc 6 yhnf), (cO8_iiri zp 8 2 zpc zpn), (cAI g zpc 16 zpf), (cO8_iiri nr 8 10 nrc nrn), (cAI g nrc 80 fa_69)] rfl ?_
    refine k_aload_n X dX5_showReel_k6.2.2.1.2 6 rfl ?_
    refine k_get (ci := 5) X inlX5 rfl 0 (nlt_e rfl) dX5_showReel_k6.2.2.2.1 mw125 1 rfl rfl ?_
    refine k_iload_n X dX5_showReel_k6.2.2.2.2 9 rfl ?_
    refine k_iconst (v := 4) X dX5_showReel_k7.1.1.1.1 ic_4 ?_
    refine k_iload X dX5_showReel_k7.1.1.1.2 1 rfl ?_
    refine k_callVV (n := 3) (As := [.int p0, .int 4, .int z_42]) (st := []) X [(cO8_iiri nr 8 10 nrc nrn), (cAI g nrc 80 fa_69)] [(cO7_vvvrii hs v0hs v1hs v2hs zp zmd ztr), (cO5_riiiiiiii h0 nr xsnapped xmostSlip xslip xisDrawn xseed2_36 z_58 z_48 z_56), (cO3_vrvvvvvv hh v0hh yhn v2hh v3hh v4hh v5hh v6hh v7hh), (cO8_iiri yhn 1 6 yhnc yhnn), (cAI g yhnc 6 yhnf), (cO8_iiri zp 8 2 zpc zpn), (cAI g zpc 16 zpf)] [7, 8] [0, 1, 2, 3, 4, 5, 6] (t_put l g nr p0 4 z_42 8 10 nrc nrn 80 fa_69 (tbk_8_10)) dX5_showReel_k7.1.1.2.1 mw766 mw326 mw327 mw64 mw328 rfl 8 rfl rfl 0 _ rfl yk_yX8_put_3 rfl (Nat.le_of_ble_eq_true rfl) (Nat.le_of_ble_eq_true rfl) (Nat.le_of_ble_eq_true rfl) (Nat.le_of_ble_eq_true rfl) (Nat.le_of_ble_eq_true rfl) rfl rfl (vnd_e rfl) rfl (vnd_e rfl) (dsj_e rfl) ?_
    rintro w ⟨fa_72, hr_74, rfl⟩
    refine k_ws [(cO7_vvvrii hs v0hs v1hs v2hs zp zmd ztr), (cO5_riiiiiiii h0 nr xsnapped xmostSlip xslip xisDrawn xseed2_36 z_58 z_48 z_56), (cO3_vrvvvvvv hh v0hh yhn v2hh v3hh v4hh v5hh v6hh v7hh), (cO8_iiri yhn 1 6 yhnc yhnn), (cAI g yhnc 6 yhnf), (cO8_iiri zp 8 2 zpc zpn), (cAI g zpc 16 zpf), (cO8_iiri nr 8 10 nrc nrn), (cAI g nrc 80 fa_72)] rfl ?_
    refine k_aload_n X dX5_showReel_k7.1.1.2.2 6 rfl ?_
    refine k_get (ci := 5) X inlX5 rfl 0 (nlt_e rfl) dX5_showReel_k7.1.2.1.1 mw125 1 rfl rfl ?_
    refine k_iload_n X dX5_showReel_k7.1.2.1.2 9 rfl ?_
    refine k_iconst (v := 5) X dX5_showReel_k7.1.2.2.1 ic_5 ?_
    refine k_iload X dX5_showReel_k7.1.2.2.2 0 rfl ?_
    refine k_callVV (n := 3) (As := [.int p0, .int 5, .int z_46]) (st := []) X [(cO8_iiri nr 8 10 nrc nrn), (cAI g nrc 80 fa_72)] [(cO7_vvvrii hs v0hs v1hs v2hs zp zmd ztr), (cO5_riiiiiiii h0 nr xsnapped xmostSlip xslip xisDrawn xseed2_36 z_58 z_48 z_56), (cO3_vrvvvvvv hh v0hh yhn v2hh v3hh v4hh v5hh v6hh v7hh), (cO8_iiri yhn 1 6 yhnc yhnn), (cAI g yhnc 6 yhnf), (cO8_iiri zp 8 2 zpc zpn), (cAI g zpc 16 zpf)] [7, 8] [0, 1, 2, 3, 4, 5, 6] (t_put l g nr p0 5 z_46 8 10 nrc nrn 80 fa_72 (tbk_8_10)) dX5_showReel_k7.2.1.1.1 mw766 mw326 mw327 mw64 mw328 rfl 8 rfl rfl 0 _ rfl yk_yX8_put_3 rfl (Nat.le_of_ble_eq_true rfl) (Nat.le_of_ble_eq_true rfl) (Nat.le_of_ble_eq_true rfl) (Nat.le_of_ble_eq_true rfl) (Nat.le_of_ble_eq_true rfl) rfl rfl (vnd_e rfl) rfl (vnd_e rfl) (dsj_e rfl) ?_
    rintro w ⟨fa_75, hr_77, rfl⟩
    refine k_ws [(cO7_vvvrii hs v0hs v1hs v2hs zp zmd ztr), (cO5_riiiiiiii h0 nr xsnapped xmostSlip xslip xisDrawn xseed2_36 z_58 z_48 z_56), (cO3_vrvvvvvv hh v0hh yhn v2hh v3hh v4hh v5hh v6hh v7hh), (cO8_iiri yhn 1 6 yhnc yhnn), (cAI g yhnc 6 yhnf), (cO8_iiri zp 8 2 zpc zpn), (cAI g zpc 16 zpf), (cO8_iiri nr 8 10 nrc nrn), (cAI g nrc 80 fa_75)] rfl ?_
    refine k_aload_n X dX5_showReel_k7.2.1.1.2 6 rfl ?_
    refine k_get (ci := 5) X inlX5 rfl 0 (nlt_e rfl) dX5_showReel_k7.2.1.2.1 mw125 1 rfl rfl ?_
    refine k_iload_n X dX5_showReel_k7.2.1.2.2 9 rfl ?_
    refine k_bipush (v := 6) X dX5_showReel_k7.2.2.1.1 bi_6 ?_
    refine k_iload X dX5_showReel_k7.2.2.1.2 3 rfl ?_
    refine k_callVV (n := 3) (As := [.int p0, .int 6, .int z_4]) (st := []) X [(cO8_iiri nr 8 10 nrc nrn), (cAI g nrc 80 fa_75)] [(cO7_vvvrii hs v0hs v1hs v2hs zp zmd ztr), (cO5_riiiiiiii h0 nr xsnapped xmostSlip xslip xisDrawn xseed2_36 z_58 z_48 z_56), (cO3_vrvvvvvv hh v0hh yhn v2hh v3hh v4hh v5hh v6hh v7hh), (cO8_iiri yhn 1 6 yhnc yhnn), (cAI g yhnc 6 yhnf), (cO8_iiri zp 8 2 zpc zpn), (cAI g zpc 16 zpf)] [7, 8] [0, 1, 2, 3, 4, 5, 6] (t_put l g nr p0 6 z_4 8 10 nrc nrn 80 fa_75 (tbk_8_10)) dX5_showReel_k7.2.2.2.1 mw766 mw326 mw327 mw64 mw328 rfl 8 rfl rfl 0 _ rfl yk_yX8_put_3 rfl (Nat.le_of_ble_eq_true rfl) (Nat.le_of_ble_eq_true rfl) (Nat.le_of_ble_eq_true rfl) (Nat.le_of_ble_eq_true rfl) (Nat.le_of_ble_eq_true rfl) rfl rfl (vnd_e rfl) rfl (vnd_e rfl) (dsj_e rfl) ?_
    rintro w ⟨fa_78, hr_80, rfl⟩
    refine k_ws [(cO7_vvvrii hs v0hs v1hs v2hs zp zmd ztr), (cO5_riiiiiiii h0 nr xsnapped xmostSlip xslip xisDrawn xseed2_36 z_58 z_48 z_56), (cO3_vrvvvvvv hh v0hh yhn v2hh v3hh v4hh v5hh v6hh v7hh), (cO8_iiri yhn 1 6 yhnc yhnn), (cAI g yhnc 6 yhnf), (cO8_iiri zp 8 2 zpc zpn), (cAI g zpc 16 zpf), (cO8_iiri nr 8 10 nrc nrn), (cAI g nrc 80 fa_78)] rfl ?_
    refine k_aload_n X dX5_showReel_k7.2.2.2.2 6 rfl ?_
    refine k_get (ci := 5) X inlX5 rfl 0 (nlt_e rfl) dX5_showReel_k8.1.1 mw125 1 rfl rfl ?_
    refine k_iload_n X dX5_showReel_k8.1.2.1 9 rfl ?_
    refine k_bipush (v := 7) X dX5_showReel_k8.1.2.2 bi_7 ?_
    refine k_aload_n X dX5_showReel_k8.2.1.1 6 rfl ?_
    refine k_get (ci := 5) X inlX5 rfl 6 (nlt_e rfl) dX5_showReel_k8.2.1.2 mw131 1 rfl rfl ?_
    refine k_callVV (n := 3) (As := [.int p0, .int 7, .int z_58]) (st := []) X [(cO8_iiri nr 8 10 nrc nrn), (cAI g nrc 80 fa_78)] [(cO7_vvvrii hs v0hs v1hs v2hs zp zmd ztr), (cO5_riiiiiiii h0 nr xsnapped xmostSlip xslip xisDrawn xseed2_36 z_58 z_48 z_56), (cO3_vrvvvvvv hh v0hh yhn v2hh v3hh v4hh v5hh v6hh v7hh), (cO8_iiri yhn 1 6 yhnc yhnn), (cAI g yhnc 6 yhnf), (cO8_iiri zp 8 2 zpc zpn), (cAI g zpc 16 zpf)] [7, 8] [0, 1, 2, 3, 4, 5, 6] (t_put l g nr p0 7 z_58 8 10 nrc nrn 80 fa_78 (tbk_8_10)) dX5_showReel_k8.2.2.1 mw766 mw326 mw327 mw64 mw328 rfl 8 rfl rfl 0 _ rfl yk_yX8_put_3 rfl (Nat.le_of_ble_eq_true rfl) (Nat.le_of_ble_eq_true rfl) (Nat.le_of_ble_eq_true rfl) (Nat.le_of_ble_eq_true rfl) (Nat.le_of_ble_eq_true rfl) rfl rfl (vnd_e rfl) rfl (vnd_e rfl) (dsj_e rfl) ?_
    rintro w ⟨fa_81, hr_83, rfl⟩
    refine k_ws [(cO7_vvvrii hs v0hs v1hs v2hs zp zmd ztr), (cO5_riiiiiiii h0 nr xsnapped xmostSlip xslip xisDrawn xseed2_36 z_58 z_48 z_56), (cO3_vrvvvvvv hh v0hh yhn v2hh v3hh v4hh v5hh v6hh v7hh), (cO8_iiri yhn 1 6 yhnc yhnn), (cAI g yhnc 6 yhnf), (cO8_iiri zp 8 2 zpc zpn), (cAI g zpc 16 zpf), (cO8_iiri nr 8 10 nrc nrn), (cAI g nrc 80 fa_81)] rfl ?_
    exact k_vret X hr dX5_showReel_k8.2.2.2 (Nat.le_of_ble_eq_true rfl) (Nat.le_of_ble_eq_true rfl) [1, 7, 8, 2, 3, 4, 0, 5, 6] (vnd_e rfl) rfl rfl (exI5 xseed2_36 z_58 z_48 z_56 fa_81 rfl)

theorem dX5_snapWeakPlaces_k0 : ((((dD cX5_snapWeakPlaces 0 (.iconst 0) 1 ∧ dD cX5_snapWeakPlaces 1 (.istore 4) 2) ∧ (dD cX5_snapWeakPlaces 3 (.aload_n 0) 1 ∧ dD cX5_snapWeakPlaces 4 (.getfield 30) 3)) ∧ ((dD cX5_snapWeakPlaces 7 (.ifCond .eq 78) 3 ∧ dD cX5_snapWeakPlaces 10 (.iload 4) 2) ∧ (dD cX5_snapWeakPlaces 12 (.aload_n 2) 1 ∧ dD cX5_snapWeakPlaces 13 (.getfield 107) 3))) ∧ (((dD cX5_snapWeakPlaces 16 (.getfield 51) 3 ∧ dD cX5_snapWeakPlaces 19 (.if_icmp .ge 66) 3) ∧ (dD cX5_snapWeakPlaces 22 (.aload_n 2) 1 ∧ dD cX5_snapWeakPlaces 23 (.iload 4) 2)) ∧ ((dD cX5_snapWeakPlaces 25 (.invokevirtual 110) 3 ∧ dD cX5_snapWeakPlaces 28 (.ifCond .eq 51) 3) ∧ (dD cX5_snapWeakPlaces 31 (.aload_n 2) 1 ∧ dD cX5_snapWeakPlaces 32 (.getfield 107) 3)))) := dkA16 (by decide +kernel)
theorem dX5_snapWeakPlaces_k1 : ((((dD cX5_snapWeakPlaces 35 (.iload 4) 2 ∧ dD cX5_snapWeakPlaces 37 (.iconst 0) 1) ∧ (dD cX5_snapWeakPlaces 38 (.invokevirtual 59) 3 ∧ dD cX5_snapWeakPlaces 41 (.iload_n 3) 1)) ∧ ((dD cX5_snapWeakPlaces 42 (.if_icmp .ne 37) 3 ∧ dD cX5_snapWeakPlaces 45 (.aload_n 0) 1) ∧ (dD cX5_snapWeakPlaces 46 (.invokevirtual 104) 3 ∧ dD cX5_snapWeakPlaces 49 (.bipush 100) 2))) ∧ (((dD cX5_snapWeakPlaces 51 .irem 1 ∧ dD cX5_snapWeakPlaces 52 (.aload_n 2) 1) ∧ (dD cX5_snapWeakPlaces 53 (.getfield 107) 3 ∧ dD cX5_snapWeakPlaces 56 (.iload 4) 2)) ∧ ((dD cX5_snapWeakPlaces 58 (.iconst 2) 1 ∧ dD cX5_snapWeakPlaces 59 (.invokevirtual 59) 3) ∧ (dD cX5_snapWeakPlaces 62 (.if_icmp .ge 17) 3 ∧ dD cX5_snapWeakPlaces 65 (.aload_n 0) 1)))) := dkA16 (by decide +kernel)
theorem dX5_snapWeakPlaces_k2 : (((dD cX5_snapWeakPlaces 66 .dup 1 ∧ dD cX5_snapWeakPlaces 67 (.getfield 20) 3) ∧ (dD cX5_snapWeakPlaces 70 (.aload_n 1) 1 ∧ (dD cX5_snapWeakPlaces 71 (.iconst 5) 1 ∧ dD cX5_snapWeakPlaces 72 (.invokevirtual 101) 3))) ∧ ((dD cX5_snapWeakPlaces 75 .iadd 1 ∧ dD cX5_snapWeakPlaces 76 (.putfield 20) 3) ∧ (dD cX5_snapWeakPlaces 79 (.iinc 4 1) 3 ∧ (dD cX5_snapWeakPlaces 82 (.goto (-79)) 3 ∧ dD cX5_snapWeakPlaces 85 .return_ 1)))) := dkA10 (by decide +kernel)
set_option maxHeartbeats 4000000 in
set_option maxRecDepth 100000 in
theorem n_snap (l : Launch) (g : Gx) (h0 : Nat) (hh : Nat) (hs : Nat) (p0 : Int32) (nr : Nat) (xsnapped : Int32) (xmostSlip : Int32) (xslip : Int32) (xisDrawn : Int32) (xseed : Int32) (xtick : Int32) (xmotorTick : Int32) (xahead : Int32) (v0hh : Value) (yhn : Nat) (v2hh : Value) (v3hh : Value) (v4hh : Value) (v5hh : Value) (v6hh : Value) (v7hh : Value) (yhnc : Nat) (yhnn : Int32) (yhnf : Nat → Int32) (v0hs : Value) (v1hs : Value) (zw : Nat) (v3hs : Value) (zmd : Int32) (ztr : Int32) (zwc : Nat) (zwn : Int32) (zwf : Nat → Int32) : cV l g yX5_snapWeakPlaces cX5_snapWeakPlaces 5 2 43 0 0 [.ref h0, .ref hh, .ref hs, .int p0] [(cO5_riiiiiiii h0 nr xsnapped xmostSlip xslip xisDrawn xseed xtick xmotorTick xahead), (cO3_vrvvvvvv hh v0hh yhn v2hh v3hh v4hh v5hh v6hh v7hh), (cO8_iiri yhn 1 6 yhnc yhnn), (cAI g yhnc 6 yhnf), (cO7_vvrvii hs v0hs v1hs zw v3hs zmd ztr), (cO8_iiri zw 6 3 zwc zwn), (cAI g zwc 18 zwf)] (fun w => ∃ (xseed2 : Int32) (xsnapped2 : Int32), w = [(cO5_riiiiiiii h0 nr xsnapped2 xmostSlip xslip xisDrawn xseed2 xtick xmotorTick xahead), (cO3_vrvvvvvv hh v0hh yhn v2hh v3hh v4hh v5hh v6hh v7hh), (cO8_iiri yhn 1 6 yhnc yhnn), (cAI g yhnc 6 yhnf), (cO7_vvrvii hs v0hs v1hs zw v3hs zmd ztr), (cO8_iiri zw 6 3 zwc zwn), (cAI g zwc 18 zwf)]) := by
  refine cV.of (by decide) (Nat.le_of_ble_eq_true rfl) ?_
  intro p e s m args below meth c A X hr hi
  refine k_lveq [(0, .ref h0), (1, .ref hh), (2, .ref hs), (3, .int p0)] rfl ?_
  refine k_iconst (v := 0) X dX5_snapWeakPlaces_k0.1.1.1.1 ic_0 ?_
  refine k_istore [(4, .int 0), (0, .ref h0), (1, .ref hh), (2, .ref hs), (3, .int p0)] X dX5_snapWeakPlaces_k0.1.1.1.2 (nlt_e rfl) rfl ?_
  refine (fun hL : ∀ (nn_4 : Nat) (u_1 : Int32) (u_2 : Int32) (u_3 : Int32), (zwn.toInt - u_1.toInt).toNat = nn_4 → Wk p l e _ s m args below meth c _ A g _ _ _ [(cO5_riiiiiiii h0 nr u_2 xmostSlip xslip xisDrawn u_3 xtick xmotorTick xahead), (cO3_vrvvvvvv hh v0hh yhn v2hh v3hh v4hh v5hh v6hh v7hh), (cO8_iiri yhn 1 6 yhnc yhnn), (cAI g yhnc 6 yhnf), (cO7_vvrvii hs v0hs v1hs zw v3hs zmd ztr), (cO8_iiri zw 6 3 zwc zwn), (cAI g zwc 18 zwf)] [(4, .int u_1), (0, .ref h0), (1, .ref hh), (2, .ref hs), (3, .int p0)] 3 [] => hL _ 0 xsnapped xseed rfl ) ?_
  refine fun nn_4 => Nat.strongRecOn nn_4 (fun nn_4 ih_6 => ?_)
  intro u_1 u_2 u_3 hm_5 
  refine k_aload_n X dX5_snapWeakPlaces_k0.1.1.2.1 1 rfl ?_
  refine k_get (ci := 5) X inlX5 rfl 4 (nlt_e rfl) dX5_snapWeakPlaces_k0.1.1.2.2 mw129 0 rfl rfl ?_
  refine k_if_eq 85 X dX5_snapWeakPlaces_k0.1.2.1.1 (jp_e rfl) (fun h_7 => ?_) (fun h_7 => ?_)
  · skip
    exact k_vret X hr dX5_snapWeakPlaces_k2.2.2.2.2 (Nat.le_of_ble_eq_true rfl) (Nat.le_of_ble_eq_true rfl) [0, 1, 2, 3, 4, 5, 6] (vnd_e rfl) rfl rfl ⟨u_3, u_2, rfl⟩
  · skip
    refine k_iload X dX5_snapWeakPlaces_k0.1.2.1.2 0 rfl ?_
    refine k_aload_n X dX5_snapWeakPlaces_k0.1.2.2.1 3 rfl ?_
    refine k_get (ci := 7) X inlX7 rfl 2 (nlt_e rfl) dX5_snapWeakPlaces_k0.1.2.2.2 mw801 4 rfl rfl ?_
    refine k_get (ci := 8) X inlX8 rfl 3 (nlt_e rfl) dX5_snapWeakPlaces_k0.2.1.1.1 mw754 5 rfl rfl ?_
    refine k_ic_ge 85 X dX5_snapWeakPlaces_k0.2.1.1.2 (jp_e rfl) (fun h_8 => ?_) (fun h_8 => ?_)
    · skip
      exact k_vret X hr dX5_snapWeakPlaces_k2.2.2.2.2 (Nat.le_of_ble_eq_true rfl) (Nat.le_of_ble_eq_true rfl) [0, 1, 2, 3, 4, 5, 6] (vnd_e rfl) rfl rfl ⟨u_3, u_2, rfl⟩
    · skip
      refine k_aload_n X dX5_snapWeakPlaces_k0.2.1.2.1 3 rfl ?_
      refine k_iload X dX5_snapWeakPlaces_k0.2.1.2.2 0 rfl ?_
      refine k_callVI (n := 1) (As := [.int u_1]) (st := []) X [(cO7_vvrvii hs v0hs v1hs zw v3hs zmd ztr), (cO8_iiri zw 6 3 zwc zwn), (cAI g zwc 18 zwf)] [(cO5_riiiiiiii h0 nr u_2 xmostSlip xslip xisDrawn u_3 xtick xmotorTick xahead), (cO3_vrvvvvvv hh v0hh yhn v2hh v3hh v4hh v5hh v6hh v7hh), (cO8_iiri yhn 1 6 yhnc yhnn), (cAI g yhnc 6 yhnf)] [4, 5, 6] [0, 1, 2, 3] (s_isWeak l g hs u_1 v0hs v1hs zw v3hs zmd ztr zwc zwn zwf) dX5_snapWeakPlaces_k0.2.2.1.1 mw802 mw661 mw662 mw23 mw663 rfl 7 rfl rfl 0 _ rfl yk_yX7_isWeak_1 rfl (Nat.le_of_ble_eq_true rfl) (Nat.le_of_ble_eq_true rfl) (Nat.le_of_ble_eq_true rfl) (Nat.le_of_ble_eq_true rfl) (Nat.le_of_ble_eq_true rfl) rfl rfl (vnd_e rfl) rfl (vnd_e rfl) (dsj_e rfl) ?_
      rintro r_9 w rfl
      refine k_ws [(cO5_riiiiiiii h0 nr u_2 xmostSlip xslip xisDrawn u_3 xtick xmotorTick xahead), (cO3_vrvvvvvv hh v0hh yhn v2hh v3hh v4hh v5hh v6hh v7hh), (cO8_iiri yhn 1 6 yhnc yhnn), (cAI g yhnc 6 yhnf), (cO7_vvrvii hs v0hs v1hs zw v3hs zmd ztr), (cO8_iiri zw 6 3 zwc zwn), (cAI g zwc 18 zwf)] rfl ?_
      refine k_if_eq 79 X dX5_snapWeakPlaces_k0.2.2.1.2 (jp_e rfl) (fun h_11 => ?_) (fun h_11 => ?_)
      · skip
        obtain ⟨z_12, ez_12⟩ : ∃ y : Int32, u_1 + Int32.ofInt 1 = y := ⟨_, rfl⟩
        refine k_iinc z_12 [(4, .int z_12), (0, .ref h0), (1, .ref hh), (2, .ref hs), (3, .int p0)] 0 X dX5_snapWeakPlaces_k2.2.2.1 rfl ez_12 (nlt_e rfl) rfl ?_
        refine k_goto 3 X dX5_snapWeakPlaces_k2.2.2.2.1 (jp_e rfl) ?_
        exact ih_6 _ (by rw [← hm_5]; exact mu_lt (by assumption) (by assumption)) z_12 u_2 u_3 rfl 
      · skip
        refine k_aload_n X dX5_snapWeakPlaces_k0.2.2.2.1 3 rfl ?_
        refine k_get (ci := 7) X inlX7 rfl 2 (nlt_e rfl) dX5_snapWeakPlaces_k0.2.2.2.2 mw801 4 rfl rfl ?_
        refine k_iload X dX5_snapWeakPlaces_k1.1.1.1.1 0 rfl ?_
        refine k_iconst (v := 0) X dX5_snapWeakPlaces_k1.1.1.1.2 ic_0 ?_
        refine k_callVI (n := 2) (As := [.int u_1, .int 0]) (st := []) X [(cO8_iiri zw 6 3 zwc zwn), (cAI g zwc 18 zwf)] [(cO5_riiiiiiii h0 nr u_2 xmostSlip xslip xisDrawn u_3 xtick xmotorTick xahead), (cO3_vrvvvvvv hh v0hh yhn v2hh v3hh v4hh v5hh v6hh v7hh), (cO8_iiri yhn 1 6 yhnc yhnn), (cAI g yhnc 6 yhnf), (cO7_vvrvii hs v0hs v1hs zw v3hs zmd ztr)] [5, 6] [0, 1, 2, 3, 4] (t_at l g zw u_1 0 6 3 zwc zwn 18 zwf (tbk_6_3)) dX5_snapWeakPlaces_k1.1.1.2.1 mw757 mw376 mw377 mw64 mw378 rfl 8 rfl rfl 0 _ rfl yk_yX8_at_2 rfl (Nat.le_of_ble_eq_true rfl) (Nat.le_of_ble_eq_true rfl) (Nat.le_of_ble_eq_true rfl) (Nat.le_of_ble_eq_true rfl) (Nat.le_of_ble_eq_true rfl) rfl rfl (vnd_e rfl) rfl (vnd_e rfl) (dsj_e rfl) ?_
        rintro r_13 w ⟨hr_14, rfl⟩
        refine k_ws [(cO5_riiiiiiii h0 nr u_2 xmostSlip xslip xisDrawn u_3 xtick xmotorTick xahead), (cO3_vrvvvvvv hh v0hh yhn v2hh v3hh v4hh v5hh v6hh v7hh), (cO8_iiri yhn 1 6 yhnc yhnn), (cAI g yhnc 6 yhnf), (cO7_vvrvii hs v0hs v1hs zw v3hs zmd ztr), (cO8_iiri zw 6 3 zwc zwn), (cAI g zwc 18 zwf)] rfl ?_
        refine k_iload_n X dX5_snapWeakPlaces_k1.1.1.2.2 4 rfl ?_
        refine k_ic_ne 79 X dX5_snapWeakPlaces_k1.1.2.1.1 (jp_e rfl) (fun h_15 => ?_) (fun h_15 => ?_)
        · skip
          obtain ⟨z_16, ez_16⟩ : ∃ y : Int32, u_1 + Int32.ofInt 1 = y := ⟨_, rfl⟩
          refine k_iinc z_16 [(4, .int z_16), (0, .ref h0), (1, .ref hh), (2, .ref hs), (3, .int p0)] 0 X dX5_snapWeakPlaces_k2.2.2.1 rfl ez_16 (nlt_e rfl) rfl ?_
          refine k_goto 3 X dX5_snapWeakPlaces_k2.2.2.2.1 (jp_e rfl) ?_
          exact ih_6 _ (by rw [← hm_5]; exact mu_lt (by assumption) (by assumption)) z_16 u_2 u_3 rfl 
        · skip
          refine k_aload_n X dX5_snapWeakPlaces_k1.1.2.1.2 1 rfl ?_
          refine k_callVI (n := 0) (As := []) (st := []) X [(cO5_riiiiiiii h0 nr u_2 xmostSlip xslip xisDrawn u_3 xtick xmotorTick xahead)] [(cO3_vrvvvvvv hh v0hh yhn v2hh v3hh v4hh v5hh v6hh v7hh), (cO8_iiri yhn 1 6 yhnc yhnn), (cAI g yhnc 6 yhnf), (cO7_vvrvii hs v0hs v1hs zw v3hs zmd ztr), (cO8_iiri zw 6 3 zwc zwn), (cAI g zwc 18 zwf)] [0] [1, 2, 3, 4, 5, 6] (n_draw l g h0 nr u_2 xmostSlip xslip xisDrawn u_3 xtick xmotorTick xahead) dX5_snapWeakPlaces_k1.1.2.2.1 mw791 mw792 mw793 mw31 mw794 rfl 5 rfl rfl 0 _ rfl yk_yX5_draw_0 rfl (Nat.le_of_ble_eq_true rfl) (Nat.le_of_ble_eq_true rfl) (Nat.le_of_ble_eq_true rfl) (Nat.le_of_ble_eq_true rfl) (Nat.le_of_ble_eq_true rfl) rfl rfl (vnd_e rfl) rfl (vnd_e rfl) (dsj_e rfl) ?_
          rintro r_18 w ⟨xseed2_17, rfl⟩
          refine k_ws [(cO3_vrvvvvvv hh v0hh yhn v2hh v3hh v4hh v5hh v6hh v7hh), (cO8_iiri yhn 1 6 yhnc yhnn), (cAI g yhnc 6 yhnf), (cO7_vvrvii hs v0hs v1hs zw v3hs zmd ztr), (cO8_iiri zw 6 3 zwc zwn), (cAI g zwc 18 zwf), (cO5_riiiiiiii h0 nr u_2 xmostSlip xslip xisDrawn xseed2_17 xtick xmotorTick xahead)] rfl ?_
          refine k_bipush (v := 100) X dX5_snapWeakPlaces_k1.1.2.2.2 bi_100 ?_
          refine k_irem X dX5_snapWeakPlaces_k1.2.1.1.1 (by decide) ?_
          refine k_nm (fun z_20 ez_20 => ?_)
          refine k_aload_n X dX5_snapWeakPlaces_k1.2.1.1.2 3 rfl ?_
          refine k_get (ci := 7) X inlX7 rfl 2 (nlt_e rfl) dX5_snapWeakPlaces_k1.2.1.2.1 mw801 3 rfl rfl ?_
          refine k_iload X dX5_snapWeakPlaces_k1.2.1.2.2 0 rfl ?_
          refine k_iconst (v := 2) X dX5_snapWeakPlaces_k1.2.2.1.1 ic_2 ?_
          refine k_callVI (n := 2) (As := [.int u_1, .int 2]) (st := [.int z_20]) X [(cO8_iiri zw 6 3 zwc zwn), (cAI g zwc 18 zwf)] [(cO3_vrvvvvvv hh v0hh yhn v2hh v3hh v4hh v5hh v6hh v7hh), (cO8_iiri yhn 1 6 yhnc yhnn), (cAI g yhnc 6 yhnf), (cO7_vvrvii hs v0hs v1hs zw v3hs zmd ztr), (cO5_riiiiiiii h0 nr u_2 xmostSlip xslip xisDrawn xseed2_17 xtick xmotorTick xahead)] [4, 5] [0, 1, 2, 3, 6] (t_at l g zw u_1 2 6 3 zwc zwn 18 zwf (tbk_6_3)) dX5_snapWeakPlaces_k1.2.2.1.2 mw757 mw376 mw377 mw64 mw378 rfl 8 rfl rfl 0 _ rfl yk_yX8_at_2 rfl (Nat.le_of_ble_eq_true rfl) (Nat.le_of_ble_eq_true rfl) (Nat.le_of_ble_eq_true rfl) (Nat.le_of_ble_eq_true rfl) (Nat.le_of_ble_eq_true rfl) rfl rfl (vnd_e rfl) rfl (vnd_e rfl) (dsj_e rfl) ?_
          rintro r_21 w ⟨hr_22, rfl⟩
          refine k_ws [(cO3_vrvvvvvv hh v0hh yhn v2hh v3hh v4hh v5hh v6hh v7hh), (cO8_iiri yhn 1 6 yhnc yhnn), (cAI g yhnc 6 yhnf), (cO7_vvrvii hs v0hs v1hs zw v3hs zmd ztr), (cO5_riiiiiiii h0 nr u_2 xmostSlip xslip xisDrawn xseed2_17 xtick xmotorTick xahead), (cO8_iiri zw 6 3 zwc zwn), (cAI g zwc 18 zwf)] rfl ?_
          refine k_ic_ge 79 X dX5_snapWeakPlaces_k1.2.2.2.1 (jp_e rfl) (fun h_23 => ?_) (fun h_23 => ?_)
          · skip
            obtain ⟨z_24, ez_24⟩ : ∃ y : Int32, u_1 + Int32.ofInt 1 = y := ⟨_, rfl⟩
            refine k_iinc z_24 [(4, .int z_24), (0, .ref h0), (1, .ref hh), (2, .ref hs), (3, .int p0)] 0 X dX5_snapWeakPlaces_k2.2.2.1 rfl ez_24 (nlt_e rfl) rfl ?_
            refine k_goto 3 X dX5_snapWeakPlaces_k2.2.2.2.1 (jp_e rfl) ?_
            refine k_sub [(cO5_riiiiiiii h0 nr u_2 xmostSlip xslip xisDrawn xseed2_17 xtick xmotorTick xahead), (cO3_vrvvvvvv hh v0hh yhn v2hh v3hh v4hh v5hh v6hh v7hh), (cO8_iiri yhn 1 6 yhnc yhnn), (cAI g yhnc 6 yhnf), (cO7_vvrvii hs v0hs v1hs zw v3hs zmd ztr), (cO8_iiri zw 6 3 zwc zwn), (cAI g zwc 18 zwf)] [4, 0, 1, 2, 3, 5, 6] rfl (by decide) rfl ?_
            exact ih_6 _ (by rw [← hm_5]; exact mu_lt (by assumption) (by assumption)) z_24 u_2 xseed2_17 rfl 
          · skip
            refine k_aload_n X dX5_snapWeakPlaces_k1.2.2.2.2 1 rfl ?_
            refine k_dup X dX5_snapWeakPlaces_k2.1.1.1 rfl ?_
            refine k_get (ci := 5) X inlX5 rfl 1 (nlt_e rfl) dX5_snapWeakPlaces_k2.1.1.2 mw126 4 rfl rfl ?_
            refine k_aload_n X dX5_snapWeakPlaces_k2.1.2.1 2 rfl ?_
            refine k_iconst (v := 5) X dX5_snapWeakPlaces_k2.1.2.2.1 ic_5 ?_
            refine k_callVI (n := 1) (As := [.int 5]) (st := [.int u_2, .ref h0]) X [(cO3_vrvvvvvv hh v0hh yhn v2hh v3hh v4hh v5hh v6hh v7hh), (cO8_iiri yhn 1 6 yhnc yhnn), (cAI g yhnc 6 yhnf)] [(cO7_vvrvii hs v0hs v1hs zw v3hs zmd ztr), (cO5_riiiiiiii h0 nr u_2 xmostSlip xslip xisDrawn xseed2_17 xtick xmotorTick xahead), (cO8_iiri zw 6 3 zwc zwn), (cAI g zwc 18 zwf)] [0, 1, 2] [3, 4, 5, 6] (h_number l g hh 5 v0hh yhn v2hh v3hh v4hh v5hh v6hh v7hh yhnc yhnn yhnf) dX5_snapWeakPlaces_k2.1.2.2.2 mw796 mw415 mw416 mw19 mw417 rfl 3 rfl rfl 0 _ rfl yk_yX3_number_1 rfl (Nat.le_of_ble_eq_true rfl) (Nat.le_of_ble_eq_true rfl) (Nat.le_of_ble_eq_true rfl) (Nat.le_of_ble_eq_true rfl) (Nat.le_of_ble_eq_true rfl) rfl rfl (vnd_e rfl) rfl (vnd_e rfl) (dsj_e rfl) ?_
            rintro r_25 w rfl
            refine k_ws [(cO7_vvrvii hs v0hs v1hs zw v3hs zmd ztr), (cO5_riiiiiiii h0 nr u_2 xmostSlip xslip xisDrawn xseed2_17 xtick xmotorTick xahead), (cO8_iiri zw 6 3 zwc zwn), (cAI g zwc 18 zwf), (cO3_vrvvvvvv hh v0hh yhn v2hh v3hh v4hh v5hh v6hh v7hh), (cO8_iiri yhn 1 6 yhnc yhnn), (cAI g yhnc 6 yhnf)] rfl ?_
            refine k_iadd X dX5_snapWeakPlaces_k2.2.1.1 ?_
            refine k_nm (fun z_27 ez_27 => ?_)
            refine k_put (ci := 5) [(cO7_vvrvii hs v0hs v1hs zw v3hs zmd ztr), (cO5_riiiiiiii h0 nr z_27 xmostSlip xslip xisDrawn xseed2_17 xtick xmotorTick xahead), (cO8_iiri zw 6 3 zwc zwn), (cAI g zwc 18 zwf), (cO3_vrvvvvvv hh v0hh yhn v2hh v3hh v4hh v5hh v6hh v7hh), (cO8_iiri yhn 1 6 yhnc yhnn), (cAI g yhnc 6 yhnf)] X inlX5 rfl tyX5_ok nmX5 1 (nlt_e rfl) rfl dX5_snapWeakPlaces_k2.2.1.2 mw126 1 rfl rfl rfl (Nat.le_of_ble_eq_true rfl) rfl ?_
            obtain ⟨z_28, ez_28⟩ : ∃ y : Int32, u_1 + Int32.ofInt 1 = y := ⟨_, rfl⟩
            refine k_iinc z_28 [(4, .int z_28), (0, .ref h0), (1, .ref hh), (2, .ref hs), (3, .int p0)] 0 X dX5_snapWeakPlaces_k2.2.2.1 rfl ez_28 (nlt_e rfl) rfl ?_
            refine k_goto 3 X dX5_snapWeakPlaces_k2.2.2.2.1 (jp_e rfl) ?_
            refine k_sub [(cO5_riiiiiiii h0 nr z_27 xmostSlip xslip xisDrawn xseed2_17 xtick xmotorTick xahead), (cO3_vrvvvvvv hh v0hh yhn v2hh v3hh v4hh v5hh v6hh v7hh), (cO8_iiri yhn 1 6 yhnc yhnn), (cAI g yhnc 6 yhnf), (cO7_vvrvii hs v0hs v1hs zw v3hs zmd ztr), (cO8_iiri zw 6 3 zwc zwn), (cAI g zwc 18 zwf)] [1, 4, 5, 6, 0, 2, 3] rfl (by decide) rfl ?_
            exact ih_6 _ (by rw [← hm_5]; exact mu_lt (by assumption) (by assumption)) z_28 z_27 xseed2_17 rfl 

theorem dX5_run_k0 : ((((dD cX5_run 0 (.aload_n 0) 1 ∧ dD cX5_run 1 (.iconst 0) 1) ∧ (dD cX5_run 2 (.putfield 20) 3 ∧ dD cX5_run 5 (.aload_n 0) 1)) ∧ ((dD cX5_run 6 (.iconst 0) 1 ∧ dD cX5_run 7 (.putfield 37) 3) ∧ (dD cX5_run 10 (.aload_n 0) 1 ∧ dD cX5_run 11 (.iconst 0) 1))) ∧ (((dD cX5_run 12 (.putfield 40) 3 ∧ dD cX5_run 15 (.aload_n 0) 1) ∧ (dD cX5_run 16 (.iconst 0) 1 ∧ dD cX5_run 17 (.putfield 43) 3)) ∧ ((dD cX5_run 20 (.iconst 0) 1 ∧ dD cX5_run 21 (.istore_n 3) 1) ∧ (dD cX5_run 22 (.iload_n 3) 1 ∧ dD cX5_run 23 (.aload_n 0) 1)))) := dkA16 (by decide +kernel)
theorem dX5_run_k1 : ((((dD cX5_run 24 (.getfield 14) 3 ∧ dD cX5_run 27 (.getfield 51) 3) ∧ (dD cX5_run 30 (.if_icmp .ge 77) 3 ∧ dD cX5_run 33 (.aload_n 0) 1)) ∧ ((dD cX5_run 34 (.getfield 14) 3 ∧ dD cX5_run 37 (.iload_n 3) 1) ∧ (dD cX5_run 38 (.bipush 8) 2 ∧ dD cX5_run 40 (.aload_n 0) 1))) ∧ (((dD cX5_run 41 (.getfield 40) 3 ∧ dD cX5_run 44 (.invokevirtual 76) 3) ∧ (dD cX5_run 47 (.aload_n 2) 1 ∧ dD cX5_run 48 (.getfield 80) 3)) ∧ ((dD cX5_run 51 (.aload_n 2) 1 ∧ dD cX5_run 52 (.iload_n 3) 1) ∧ (dD cX5_run 53 (.invokevirtual 68) 3 ∧ dD cX5_run 56 (.iconst 0) 1)))) := dkA16 (by decide +kernel)
theorem dX5_run_k2 : ((((dD cX5_run 57 (.invokevirtual 59) 3 ∧ dD cX5_run 60 (.istore 4) 2) ∧ (dD cX5_run 62 (.aload_n 0) 1 ∧ dD cX5_run 63 (.getfield 43) 3)) ∧ ((dD cX5_run 66 (.iload 4) 2 ∧ dD cX5_run 68 (.if_icmp .lt 13) 3) ∧ (dD cX5_run 71 (.aload_n 0) 1 ∧ dD cX5_run 72 (.iload_n 3) 1))) ∧ (((dD cX5_run 73 (.iload 4) 2 ∧ dD cX5_run 75 (.invokevirtual 83) 3) ∧ (dD cX5_run 78 (.goto 23) 3 ∧ dD cX5_run 81 (.aload_n 0) 1)) ∧ ((dD cX5_run 82 (.aload_n 1) 1 ∧ dD cX5_run 83 (.aload_n 2) 1) ∧ (dD cX5_run 84 (.iload_n 3) 1 ∧ dD cX5_run 85 (.iload 4) 2)))) := dkA16 (by decide +kernel)
theorem dX5_run_k3 : (((dD cX5_run 87 (.invokevirtual 86) 3 ∧ dD cX5_run 90 (.aload_n 0) 1) ∧ (dD cX5_run 91 (.aload_n 1) 1 ∧ (dD cX5_run 92 (.aload_n 2) 1 ∧ dD cX5_run 93 (.aload_n 2) 1))) ∧ ((dD cX5_run 94 (.iload_n 3) 1 ∧ (dD cX5_run 95 (.invokevirtual 68) 3 ∧ dD cX5_run 98 (.invokevirtual 90) 3)) ∧ (dD cX5_run 101 (.iinc 3 1) 3 ∧ (dD cX5_run 104 (.goto (-82)) 3 ∧ dD cX5_run 107 .return_ 1)))) := dkA11 (by decide +kernel)
set_option maxHeartbeats 4000000 in
set_option maxRecDepth 100000 in
theorem n_run (l : Launch) (g : Gx) (h0 : Nat) (hh : Nat) (hs : Nat) (nr : Nat) (xsnapped : Int32) (xmostSlip : Int32) (xslip : Int32) (xisDrawn : Int32) (xseed : Int32) (xtick : Int32) (xmotorTick : Int32) (xahead : Int32) (nrc : Nat) (nrn : Int32) (nrf : Nat → Int32) (v0hh : Value) (yhn : Nat) (v2hh : Value) (v3hh : Value) (v4hh : Value) (v5hh : Value) (v6hh : Value) (v7hh : Value) (yhnc : Nat) (yhnn : Int32) (yhnf : Nat → Int32) (zr : Nat) (v1hs : Value) (zw : Nat) (zp : Nat) (zmd : Int32) (ztr : Int32) (zrc : Nat) (zrn : Int32) (zrf : Nat → Int32) (zpc : Nat) (zpn : Int32) (zpf : Nat → Int32) (zwc : Nat) (zwn : Int32) (zwf : Nat → Int32) (hms : ¬ xmostSlip < 0) : cV l g yX5_run cX5_run 5 3 73 0 0 [.ref h0, .ref hh, .ref hs] [(cO5_riiiiiiii h0 nr xsnapped xmostSlip xslip xisDrawn xseed xtick xmotorTick xahead), (cO8_iiri nr 8 10 nrc nrn), (cAI g nrc 80 nrf), (cO3_vrvvvvvv hh v0hh yhn v2hh v3hh v4hh v5hh v6hh v7hh), (cO8_iiri yhn 1 6 yhnc yhnn), (cAI g yhnc 6 yhnf), (cO7_rvrrii hs zr v1hs zw zp zmd ztr), (cO8_iiri zr 8 3 zrc zrn), (cAI g zrc 24 zrf), (cO8_iiri zp 8 2 zpc zpn), (cAI g zpc 16 zpf), (cO8_iiri zw 6 3 zwc zwn), (cAI g zwc 18 zwf)] (fun w => ∃ (xsnapped2 : Int32) (xseed2 : Int32) (xtick2 : Int32) (xmotorTick2 : Int32) (xahead2 : Int32) (nrg : Nat → Int32), w = [(cO5_riiiiiiii h0 nr xsnapped2 xmostSlip xslip xisDrawn xseed2 xtick2 xmotorTick2 xahead2), (cO8_iiri nr 8 10 nrc nrn), (cAI g nrc 80 nrg), (cO3_vrvvvvvv hh v0hh yhn v2hh v3hh v4hh v5hh v6hh v7hh), (cO8_iiri yhn 1 6 yhnc yhnn), (cAI g yhnc 6 yhnf), (cO7_rvrrii hs zr v1hs zw zp zmd ztr), (cO8_iiri zr 8 3 zrc zrn), (cAI g zrc 24 zrf), (cO8_iiri zp 8 2 zpc zpn), (cAI g zpc 16 zpf), (cO8_iiri zw 6 3 zwc zwn), (cAI g zwc 18 zwf)]) := by
  refine cV.of (by decide) (Nat.le_of_ble_eq_true rfl) ?_
  intro p e s m args below meth c A X hr hi
  refine k_lveq [(0, .ref h0), (1, .ref hh), (2, .ref hs)] rfl ?_
  refine k_aload_n X dX5_run_k0.1.1.1.1 0 rfl ?_
  refine k_iconst (v := 0) X dX5_run_k0.1.1.1.2 ic_0 ?_
  refine k_put (ci := 5) [(cO5_riiiiiiii h0 nr 0 xmostSlip xslip xisDrawn xseed xtick xmotorTick xahead), (cO8_iiri nr 8 10 nrc nrn), (cAI g nrc 80 nrf), (cO3_vrvvvvvv hh v0hh yhn v2hh v3hh v4hh v5hh v6hh v7hh), (cO8_iiri yhn 1 6 yhnc yhnn), (cAI g yhnc 6 yhnf), (cO7_rvrrii hs zr v1hs zw zp zmd ztr), (cO8_iiri zr 8 3 zrc zrn), (cAI g zrc 24 zrf), (cO8_iiri zp 8 2 zpc zpn), (cAI g zpc 16 zpf), (cO8_iiri zw 6 3 zwc zwn), (cAI g zwc 18 zwf)] X inlX5 rfl tyX5_ok nmX5 1 (nlt_e rfl) rfl dX5_run_k0.1.1.2.1 mw126 0 rfl rfl rfl (Nat.le_of_ble_eq_true rfl) rfl ?_
  refine k_aload_n X dX5_run_k0.1.1.2.2 0 rfl ?_
  refine k_iconst (v := 0) X dX5_run_k0.1.2.1.1 ic_0 ?_
  refine k_put (ci := 5) [(cO5_riiiiiiii h0 nr 0 xmostSlip xslip xisDrawn xseed 0 xmotorTick xahead), (cO8_iiri nr 8 10 nrc nrn), (cAI g nrc 80 nrf), (cO3_vrvvvvvv hh v0hh yhn v2hh v3hh v4hh v5hh v6hh v7hh), (cO8_iiri yhn 1 6 yhnc yhnn), (cAI g yhnc 6 yhnf), (cO7_rvrrii hs zr v1hs zw zp zmd ztr), (cO8_iiri zr 8 3 zrc zrn), (cAI g zrc 24 zrf), (cO8_iiri zp 8 2 zpc zpn), (cAI g zpc 16 zpf), (cO8_iiri zw 6 3 zwc zwn), (cAI g zwc 18 zwf)] X inlX5 rfl tyX5_ok nmX5 6 (nlt_e rfl) rfl dX5_run_k0.1.2.1.2 mw131 0 rfl rfl rfl (Nat.le_of_ble_eq_true rfl) rfl ?_
  refine k_aload_n X dX5_run_k0.1.2.2.1 0 rfl ?_
  refine k_iconst (v := 0) X dX5_run_k0.1.2.2.2 ic_0 ?_
  refine k_put (ci := 5) [(cO5_riiiiiiii h0 nr 0 xmostSlip xslip xisDrawn xseed 0 0 xahead), (cO8_iiri nr 8 10 nrc nrn), (cAI g nrc 80 nrf), (cO3_vrvvvvvv hh v0hh yhn v2hh v3hh v4hh v5hh v6hh v7hh), (cO8_iiri yhn 1 6 yhnc yhnn), (cAI g yhnc 6 yhnf), (cO7_rvrrii hs zr v1hs zw zp zmd ztr), (cO8_iiri zr 8 3 zrc zrn), (cAI g zrc 24 zrf), (cO8_iiri zp 8 2 zpc zpn), (cAI g zpc 16 zpf), (cO8_iiri zw 6 3 zwc zwn), (cAI g zwc 18 zwf)] X inlX5 rfl tyX5_ok nmX5 7 (nlt_e rfl) rfl dX5_run_k0.2.1.1.1 mw132 0 rfl rfl rfl (Nat.le_of_ble_eq_true rfl) rfl ?_
  refine k_aload_n X dX5_run_k0.2.1.1.2 0 rfl ?_
  refine k_iconst (v := 0) X dX5_run_k0.2.1.2.1 ic_0 ?_
  refine k_put (ci := 5) [(cO5_riiiiiiii h0 nr 0 xmostSlip xslip xisDrawn xseed 0 0 0), (cO8_iiri nr 8 10 nrc nrn), (cAI g nrc 80 nrf), (cO3_vrvvvvvv hh v0hh yhn v2hh v3hh v4hh v5hh v6hh v7hh), (cO8_iiri yhn 1 6 yhnc yhnn), (cAI g yhnc 6 yhnf), (cO7_rvrrii hs zr v1hs zw zp zmd ztr), (cO8_iiri zr 8 3 zrc zrn), (cAI g zrc 24 zrf), (cO8_iiri zp 8 2 zpc zpn), (cAI g zpc 16 zpf), (cO8_iiri zw 6 3 zwc zwn), (cAI g zwc 18 zwf)] X inlX5 rfl tyX5_ok nmX5 8 (nlt_e rfl) rfl dX5_run_k0.2.1.2.2 mw133 0 rfl rfl rfl (Nat.le_of_ble_eq_true rfl) rfl ?_
  refine k_iconst (v := 0) X dX5_run_k0.2.2.1.1 ic_0 ?_
  refine k_istore_n [(3, .int 0), (0, .ref h0), (1, .ref hh), (2, .ref hs)] X dX5_run_k0.2.2.1.2 (nlt_e rfl) rfl ?_
  refine (fun hL : ∀ (nn_8 : Nat) (u_1 : Int32) (uf_2 : Nat → Int32) (u_3 : Int32) (u_4 : Int32) (u_5 : Int32) (u_6 : Int32) (u_7 : Int32), (nrn.toInt - u_1.toInt).toNat = nn_8 → Wk p l e _ s m args below meth c _ A g _ _ _ [(cO5_riiiiiiii h0 nr u_3 xmostSlip xslip xisDrawn u_4 u_5 u_6 u_7), (cO8_iiri nr 8 10 nrc nrn), (cAI g nrc 80 uf_2), (cO3_vrvvvvvv hh v0hh yhn v2hh v3hh v4hh v5hh v6hh v7hh), (cO8_iiri yhn 1 6 yhnc yhnn), (cAI g yhnc 6 yhnf), (cO7_rvrrii hs zr v1hs zw zp zmd ztr), (cO8_iiri zr 8 3 zrc zrn), (cAI g zrc 24 zrf), (cO8_iiri zp 8 2 zpc zpn), (cAI g zpc 16 zpf), (cO8_iiri zw 6 3 zwc zwn), (cAI g zwc 18 zwf)] [(3, .int u_1), (0, .ref h0), (1, .ref hh), (2, .ref hs)] 22 [] => hL _ 0 nrf 0 xseed 0 0 0 rfl ) ?_
  refine fun nn_8 => Nat.strongRecOn nn_8 (fun nn_8 ih_10 => ?_)
  intro u_1 uf_2 u_3 u_4 u_5 u_6 u_7 hm_9 
  refine k_iload_n X dX5_run_k0.2.2.2.1 0 rfl ?_
  refine k_aload_n X dX5_run_k0.2.2.2.2 1 rfl ?_
  refine k_get (ci := 5) X inlX5 rfl 0 (nlt_e rfl) dX5_run_k1.1.1.1.1 mw125 0 rfl rfl ?_
  refine k_get (ci := 8) X inlX8 rfl 3 (nlt_e rfl) dX5_run_k1.1.1.1.2 mw754 1 rfl rfl ?_
  refine k_ic_ge 107 X dX5_run_k1.1.1.2.1 (jp_e rfl) (fun h_11 => ?_) (fun h_11 => ?_)
  · skip
    exact k_vret X hr dX5_run_k3.2.2.2.2 (Nat.le_of_ble_eq_true rfl) (Nat.le_of_ble_eq_true rfl) [0, 1, 2, 3, 4, 5, 6, 7, 8, 9, 10, 11, 12] (vnd_e rfl) rfl rfl (exI6 u_3 u_4 u_5 u_6 u_7 uf_2 rfl)
  · skip
    refine k_aload_n X dX5_run_k1.1.1.2.2 1 rfl ?_
    refine k_get (ci := 5) X inlX5 rfl 0 (nlt_e rfl) dX5_run_k1.1.2.1.1 mw125 0 rfl rfl ?_
    refine k_iload_n X dX5_run_k1.1.2.1.2 0 rfl ?_
    refine k_bipush (v := 8) X dX5_run_k1.1.2.2.1 bi_8 ?_
    refine k_aload_n X dX5_run_k1.1.2.2.2 1 rfl ?_
    refine k_get (ci := 5) X inlX5 rfl 7 (nlt_e rfl) dX5_run_k1.2.1.1.1 mw132 0 rfl rfl ?_
    refine k_callVV (n := 3) (As := [.int u_1, .int 8, .int u_6]) (st := []) X [(cO8_iiri nr 8 10 nrc nrn), (cAI g nrc 80 uf_2)] [(cO5_riiiiiiii h0 nr u_3 xmostSlip xslip xisDrawn u_4 u_5 u_6 u_7), (cO3_vrvvvvvv hh v0hh yhn v2hh v3hh v4hh v5hh v6hh v7hh), (cO8_iiri yhn 1 6 yhnc yhnn), (cAI g yhnc 6 yhnf), (cO7_rvrrii hs zr v1hs zw zp zmd ztr), (cO8_iiri zr 8 3 zrc zrn), (cAI g zrc 24 zrf), (cO8_iiri zp 8 2 zpc zpn), (cAI g zpc 16 zpf), (cO8_iiri zw 6 3 zwc zwn), (cAI g zwc 18 zwf)] [1, 2] [0, 3, 4, 5, 6, 7, 8, 9, 10, 11, 12] (t_put l g nr u_1 8 u_6 8 10 nrc nrn 80 uf_2 (tbk_8_10)) dX5_run_k1.2.1.1.2 mw766 mw326 mw327 mw64 mw328 rfl 8 rfl rfl 0 _ rfl yk_yX8_put_3 rfl (Nat.le_of_ble_eq_true rfl) (Nat.le_of_ble_eq_true rfl) (Nat.le_of_ble_eq_true rfl) (Nat.le_of_ble_eq_true rfl) (Nat.le_of_ble_eq_true rfl) rfl rfl (by decide +kernel) rfl (by decide +kernel) (by decide +kernel) ?_
    rintro w ⟨fa_12, hr_14, rfl⟩
    refine k_ws [(cO5_riiiiiiii h0 nr u_3 xmostSlip xslip xisDrawn u_4 u_5 u_6 u_7), (cO3_vrvvvvvv hh v0hh yhn v2hh v3hh v4hh v5hh v6hh v7hh), (cO8_iiri yhn 1 6 yhnc yhnn), (cAI g yhnc 6 yhnf), (cO7_rvrrii hs zr v1hs zw zp zmd ztr), (cO8_iiri zr 8 3 zrc zrn), (cAI g zrc 24 zrf), (cO8_iiri zp 8 2 zpc zpn), (cAI g zpc 16 zpf), (cO8_iiri zw 6 3 zwc zwn), (cAI g zwc 18 zwf), (cO8_iiri nr 8 10 nrc nrn), (cAI g nrc 80 fa_12)] rfl ?_
    refine k_aload_n X dX5_run_k1.2.1.2.1 3 rfl ?_
    refine k_get (ci := 7) X inlX7 rfl 0 (nlt_e rfl) dX5_run_k1.2.1.2.2 mw775 4 rfl rfl ?_
    refine k_aload_n X dX5_run_k1.2.2.1.1 3 rfl ?_
    refine k_iload_n X dX5_run_k1.2.2.1.2 0 rfl ?_
    refine k_callVI (n := 1) (As := [.int u_1]) (st := [.ref zr]) X [(cO7_rvrrii hs zr v1hs zw zp zmd ztr), (cO8_iiri zp 8 2 zpc zpn), (cAI g zpc 16 zpf)] [(cO5_riiiiiiii h0 nr u_3 xmostSlip xslip xisDrawn u_4 u_5 u_6 u_7), (cO3_vrvvvvvv hh v0hh yhn v2hh v3hh v4hh v5hh v6hh v7hh), (cO8_iiri yhn 1 6 yhnc yhnn), (cAI g yhnc 6 yhnf), (cO8_iiri zr 8 3 zrc zrn), (cAI g zrc 24 zrf), (cO8_iiri zw 6 3 zwc zwn), (cAI g zwc 18 zwf), (cO8_iiri nr 8 10 nrc nrn), (cAI g nrc 80 fa_12)] [4, 7, 8] [0, 1, 2, 3, 5, 6, 9, 10, 11, 12] (s_reelAt l g hs u_1 (.ref zr) v1hs (.ref zw) zp zmd ztr zpc zpn zpf) dX5_run_k1.2.2.2.1 mw758 mw759 mw760 mw23 mw761 rfl 7 rfl rfl 0 _ rfl yk_yX7_reelAt_1 rfl (Nat.le_of_ble_eq_true rfl) (Nat.le_of_ble_eq_true rfl) (Nat.le_of_ble_eq_true rfl) (Nat.le_of_ble_eq_true rfl) (Nat.le_of_ble_eq_true rfl) rfl rfl (by decide +kernel) rfl (by decide +kernel) (by decide +kernel) ?_
    rintro r_15 w rfl
    refine k_ws [(cO5_riiiiiiii h0 nr u_3 xmostSlip xslip xisDrawn u_4 u_5 u_6 u_7), (cO3_vrvvvvvv hh v0hh yhn v2hh v3hh v4hh v5hh v6hh v7hh), (cO8_iiri yhn 1 6 yhnc yhnn), (cAI g yhnc 6 yhnf), (cO8_iiri zr 8 3 zrc zrn), (cAI g zrc 24 zrf), (cO8_iiri zw 6 3 zwc zwn), (cAI g zwc 18 zwf), (cO8_iiri nr 8 10 nrc nrn), (cAI g nrc 80 fa_12), (cO7_rvrrii hs zr v1hs zw zp zmd ztr), (cO8_iiri zp 8 2 zpc zpn), (cAI g zpc 16 zpf)] rfl ?_
    refine k_iconst (v := 0) X dX5_run_k1.2.2.2.2 ic_0 ?_
    refine k_callVI (n := 2) (As := [.int r_15, .int 0]) (st := []) X [(cO8_iiri zr 8 3 zrc zrn), (cAI g zrc 24 zrf)] [(cO5_riiiiiiii h0 nr u_3 xmostSlip xslip xisDrawn u_4 u_5 u_6 u_7), (cO3_vrvvvvvv hh v0hh yhn v2hh v3hh v4hh v5hh v6hh v7hh), (cO8_iiri yhn 1 6 yhnc yhnn), (cAI g yhnc 6 yhnf), (cO8_iiri zw 6 3 zwc zwn), (cAI g zwc 18 zwf), (cO8_iiri nr 8 10 nrc nrn), (cAI g nrc 80 fa_12), (cO7_rvrrii hs zr v1hs zw zp zmd ztr), (cO8_iiri zp 8 2 zpc zpn), (cAI g zpc 16 zpf)] [4, 5] [0, 1, 2, 3, 6, 7, 8, 9, 10, 11, 12] (t_at l g zr r_15 0 8 3 zrc zrn 24 zrf (tbk_8_3)) dX5_run_k2.1.1.1.1 mw757 mw376 mw377 mw64 mw378 rfl 8 rfl rfl 0 _ rfl yk_yX8_at_2 rfl (Nat.le_of_ble_eq_true rfl) (Nat.le_of_ble_eq_true rfl) (Nat.le_of_ble_eq_true rfl) (Nat.le_of_ble_eq_true rfl) (Nat.le_of_ble_eq_true rfl) rfl rfl (by decide +kernel) rfl (by decide +kernel) (by decide +kernel) ?_
    rintro r_17 w ⟨hr_18, rfl⟩
    refine k_ws [(cO5_riiiiiiii h0 nr u_3 xmostSlip xslip xisDrawn u_4 u_5 u_6 u_7), (cO3_vrvvvvvv hh v0hh yhn v2hh v3hh v4hh v5hh v6hh v7hh), (cO8_iiri yhn 1 6 yhnc yhnn), (cAI g yhnc 6 yhnf), (cO8_iiri zw 6 3 zwc zwn), (cAI g zwc 18 zwf), (cO8_iiri nr 8 10 nrc nrn), (cAI g nrc 80 fa_12), (cO7_rvrrii hs zr v1hs zw zp zmd ztr), (cO8_iiri zp 8 2 zpc zpn), (cAI g zpc 16 zpf), (cO8_iiri zr 8 3 zrc zrn), (cAI g zrc 24 zrf)] rfl ?_
    refine k_istore [(4, .int r_17), (3, .int u_1), (0, .ref h0), (1, .ref hh), (2, .ref hs)] X dX5_run_k2.1.1.1.2 (nlt_e rfl) rfl ?_
    refine k_aload_n X dX5_run_k2.1.1.2.1 2 rfl ?_
    refine k_get (ci := 5) X inlX5 rfl 8 (nlt_e rfl) dX5_run_k2.1.1.2.2 mw133 0 rfl rfl ?_
    refine k_iload X dX5_run_k2.1.2.1.1 0 rfl ?_
    refine k_ic_lt 81 X dX5_run_k2.1.2.1.2 (jp_e rfl) (fun h_19 => ?_) (fun h_19 => ?_)
    · skip
      refine k_aload_n X dX5_run_k2.2.1.2.2 2 rfl ?_
      refine k_aload_n X dX5_run_k2.2.2.1.1 3 rfl ?_
      refine k_aload_n X dX5_run_k2.2.2.1.2 4 rfl ?_
      refine k_iload_n X dX5_run_k2.2.2.2.1 1 rfl ?_
      refine k_iload X dX5_run_k2.2.2.2.2 0 rfl ?_
      refine k_callVV (n := 4) (As := [.ref hh, .ref hs, .int u_1, .int r_17]) (st := []) X [(cO5_riiiiiiii h0 nr u_3 xmostSlip xslip xisDrawn u_4 u_5 u_6 u_7), (cO8_iiri nr 8 10 nrc nrn), (cAI g nrc 80 fa_12), (cO3_vrvvvvvv hh v0hh yhn v2hh v3hh v4hh v5hh v6hh v7hh), (cO8_iiri yhn 1 6 yhnc yhnn), (cAI g yhnc 6 yhnf), (cO7_rvrrii hs zr v1hs zw zp zmd ztr), (cO8_iiri zp 8 2 zpc zpn), (cAI g zpc 16 zpf)] [(cO8_iiri zw 6 3 zwc zwn), (cAI g zwc 18 zwf), (cO8_iiri zr 8 3 zrc zrn), (cAI g zrc 24 zrf)] [0, 6, 7, 1, 2, 3, 8, 9, 10] [4, 5, 11, 12] (n_showReel l g h0 hh hs u_1 r_17 nr u_3 xmostSlip xslip xisDrawn u_4 u_5 u_6 u_7 nrc nrn fa_12 v0hh yhn v2hh v3hh v4hh v5hh v6hh v7hh yhnc yhnn yhnf (.ref zr) v1hs (.ref zw) zp zmd ztr zpc zpn zpf (by assumption)) dX5_run_k3.1.1.1 mw780 mw781 mw782 mw31 mw783 rfl 5 rfl rfl 0 _ rfl yk_yX5_showReel_4 rfl (Nat.le_of_ble_eq_true rfl) (Nat.le_of_ble_eq_true rfl) (Nat.le_of_ble_eq_true rfl) (Nat.le_of_ble_eq_true rfl) (Nat.le_of_ble_eq_true rfl) rfl rfl (by decide +kernel) rfl (by decide +kernel) (by decide +kernel) ?_
      rintro w ⟨xseed2_20, xtick2_21, xmotorTick2_22, xahead2_23, nrg_24, rfl⟩
      refine k_ws [(cO8_iiri zw 6 3 zwc zwn), (cAI g zwc 18 zwf), (cO8_iiri zr 8 3 zrc zrn), (cAI g zrc 24 zrf), (cO5_riiiiiiii h0 nr u_3 xmostSlip xslip xisDrawn xseed2_20 xtick2_21 xmotorTick2_22 xahead2_23), (cO8_iiri nr 8 10 nrc nrn), (cAI g nrc 80 nrg_24), (cO3_vrvvvvvv hh v0hh yhn v2hh v3hh v4hh v5hh v6hh v7hh), (cO8_iiri yhn 1 6 yhnc yhnn), (cAI g yhnc 6 yhnf), (cO7_rvrrii hs zr v1hs zw zp zmd ztr), (cO8_iiri zp 8 2 zpc zpn), (cAI g zpc 16 zpf)] rfl ?_
      refine k_aload_n X dX5_run_k3.1.1.2 2 rfl ?_
      refine k_aload_n X dX5_run_k3.1.2.1 3 rfl ?_
      refine k_aload_n X dX5_run_k3.1.2.2.1 4 rfl ?_
      refine k_aload_n X dX5_run_k3.1.2.2.2 4 rfl ?_
      refine k_iload_n X dX5_run_k3.2.1.1 1 rfl ?_
      refine k_callVI (n := 1) (As := [.int u_1]) (st := [.ref hs, .ref hh, .ref h0]) X [(cO7_rvrrii hs zr v1hs zw zp zmd ztr), (cO8_iiri zp 8 2 zpc zpn), (cAI g zpc 16 zpf)] [(cO8_iiri zw 6 3 zwc zwn), (cAI g zwc 18 zwf), (cO8_iiri zr 8 3 zrc zrn), (cAI g zrc 24 zrf), (cO5_riiiiiiii h0 nr u_3 xmostSlip xslip xisDrawn xseed2_20 xtick2_21 xmotorTick2_22 xahead2_23), (cO8_iiri nr 8 10 nrc nrn), (cAI g nrc 80 nrg_24), (cO3_vrvvvvvv hh v0hh yhn v2hh v3hh v4hh v5hh v6hh v7hh), (cO8_iiri yhn 1 6 yhnc yhnn), (cAI g yhnc 6 yhnf)] [10, 11, 12] [0, 1, 2, 3, 4, 5, 6, 7, 8, 9] (s_reelAt l g hs u_1 (.ref zr) v1hs (.ref zw) zp zmd ztr zpc zpn zpf) dX5_run_k3.2.1.2.1 mw758 mw759 mw760 mw23 mw761 rfl 7 rfl rfl 0 _ rfl yk_yX7_reelAt_1 rfl (Nat.le_of_ble_eq_true rfl) (Nat.le_of_ble_eq_true rfl) (Nat.le_of_ble_eq_true rfl) (Nat.le_of_ble_eq_true rfl) (Nat.le_of_ble_eq_true rfl) rfl rfl (by decide +kernel) rfl (by decide +kernel) (by decide +kernel) ?_
      rintro r_27 w rfl
      refine k_ws [(cO8_iiri zw 6 3 zwc zwn), (cAI g zwc 18 zwf), (cO8_iiri zr 8 3 zrc zrn), (cAI g zrc 24 zrf), (cO5_riiiiiiii h0 nr u_3 xmostSlip xslip xisDrawn xseed2_20 xtick2_21 xmotorTick2_22 xahead2_23), (cO8_iiri nr 8 10 nrc nrn), (cAI g nrc 80 nrg_24), (cO3_vrvvvvvv hh v0hh yhn v2hh v3hh v4hh v5hh v6hh v7hh), (cO8_iiri yhn 1 6 yhnc yhnn), (cAI g yhnc 6 yhnf), (cO7_rvrrii hs zr v1hs zw zp zmd ztr), (cO8_iiri zp 8 2 zpc zpn), (cAI g zpc 16 zpf)] rfl ?_
      refine k_callVV (n := 3) (As := [.ref hh, .ref hs, .int r_27]) (st := []) X [(cO5_riiiiiiii h0 nr u_3 xmostSlip xslip xisDrawn xseed2_20 xtick2_21 xmotorTick2_22 xahead2_23), (cO3_vrvvvvvv hh v0hh yhn v2hh v3hh v4hh v5hh v6hh v7hh), (cO8_iiri yhn 1 6 yhnc yhnn), (cAI g yhnc 6 yhnf), (cO7_rvrrii hs zr v1hs zw zp zmd ztr), (cO8_iiri zw 6 3 zwc zwn), (cAI g zwc 18 zwf)] [(cO8_iiri zr 8 3 zrc zrn), (cAI g zrc 24 zrf), (cO8_iiri nr 8 10 nrc nrn), (cAI g nrc 80 nrg_24), (cO8_iiri zp 8 2 zpc zpn), (cAI g zpc 16 zpf)] [4, 7, 8, 9, 10, 0, 1] [2, 3, 5, 6, 11, 12] (n_snap l g h0 hh hs r_27 nr u_3 xmostSlip xslip xisDrawn xseed2_20 xtick2_21 xmotorTick2_22 xahead2_23 v0hh yhn v2hh v3hh v4hh v5hh v6hh v7hh yhnc yhnn yhnf (.ref zr) v1hs zw (.ref zp) zmd ztr zwc zwn zwf) dX5_run_k3.2.1.2.2 mw797 mw798 mw799 mw31 mw800 rfl 5 rfl rfl 0 _ rfl yk_yX5_snapWeakPlaces_3 rfl (Nat.le_of_ble_eq_true rfl) (Nat.le_of_ble_eq_true rfl) (Nat.le_of_ble_eq_true rfl) (Nat.le_of_ble_eq_true rfl) (Nat.le_of_ble_eq_true rfl) rfl rfl (by decide +kernel) rfl (by decide +kernel) (by decide +kernel) ?_
      rintro w ⟨xseed2_29, xsnapped2_30, rfl⟩
      refine k_ws [(cO8_iiri zr 8 3 zrc zrn), (cAI g zrc 24 zrf), (cO8_iiri nr 8 10 nrc nrn), (cAI g nrc 80 nrg_24), (cO8_iiri zp 8 2 zpc zpn), (cAI g zpc 16 zpf), (cO5_riiiiiiii h0 nr xsnapped2_30 xmostSlip xslip xisDrawn xseed2_29 xtick2_21 xmotorTick2_22 xahead2_23), (cO3_vrvvvvvv hh v0hh yhn v2hh v3hh v4hh v5hh v6hh v7hh), (cO8_iiri yhn 1 6 yhnc yhnn), (cAI g yhnc 6 yhnf), (cO7_rvrrii hs zr v1hs zw zp zmd ztr), (cO8_iiri zw 6 3 zwc zwn), (cAI g zwc 18 zwf)] rfl ?_
      obtain ⟨z_33, ez_33⟩ : ∃ y : Int32, u_1 + Int32.ofInt 1 = y := ⟨_, rfl⟩
      refine k_iinc z_33 [(3, .int z_33), (4, .int r_17), (0, .ref h0), (1, .ref hh), (2, .ref hs)] 1 X dX5_run_k3.2.2.1 rfl ez_33 (nlt_e rfl) rfl ?_
      refine k_goto 22 X dX5_run_k3.2.2.2.1 (jp_e rfl) ?_
      refine k_lv [(3, .int z_33), (0, .ref h0), (1, .ref hh), (2, .ref hs)] [0, 2, 3, 4] rfl ?_
      refine k_sub [(cO5_riiiiiiii h0 nr xsnapped2_30 xmostSlip xslip xisDrawn xseed2_29 xtick2_21 xmotorTick2_22 xahead2_23), (cO8_iiri nr 8 10 nrc nrn), (cAI g nrc 80 nrg_24), (cO3_vrvvvvvv hh v0hh yhn v2hh v3hh v4hh v5hh v6hh v7hh), (cO8_iiri yhn 1 6 yhnc yhnn), (cAI g yhnc 6 yhnf), (cO7_rvrrii hs zr v1hs zw zp zmd ztr), (cO8_iiri zr 8 3 zrc zrn), (cAI g zrc 24 zrf), (cO8_iiri zp 8 2 zpc zpn), (cAI g zpc 16 zpf), (cO8_iiri zw 6 3 zwc zwn), (cAI g zwc 18 zwf)] [6, 2, 3, 7, 8, 9, 10, 0, 1, 4, 5, 11, 12] rfl (by decide) rfl ?_
      exact ih_10 _ (by rw [← hm_9]; exact mu_lt (by assumption) (by assumption)) z_33 nrg_24 xsnapped2_30 xseed2_29 xtick2_21 xmotorTick2_22 xahead2_23 rfl 
    · skip
      refine k_aload_n X dX5_run_k2.1.2.2.1 2 rfl ?_
      refine k_iload_n X dX5_run_k2.1.2.2.2 1 rfl ?_
      refine k_iload X dX5_run_k2.2.1.1.1 0 rfl ?_
      refine k_callVV (n := 2) (As := [.int u_1, .int r_17]) (st := []) X [(cO5_riiiiiiii h0 nr u_3 xmostSlip xslip xisDrawn u_4 u_5 u_6 u_7), (cO8_iiri nr 8 10 nrc nrn), (cAI g nrc 80 fa_12)] [(cO3_vrvvvvvv hh v0hh yhn v2hh v3hh v4hh v5hh v6hh v7hh), (cO8_iiri yhn 1 6 yhnc yhnn), (cAI g yhnc 6 yhnf), (cO8_iiri zw 6 3 zwc zwn), (cAI g zwc 18 zwf), (cO7_rvrrii hs zr v1hs zw zp zmd ztr), (cO8_iiri zp 8 2 zpc zpn), (cAI g zpc 16 zpf), (cO8_iiri zr 8 3 zrc zrn), (cAI g zrc 24 zrf)] [0, 6, 7] [1, 2, 3, 4, 5, 8, 9, 10, 11, 12] (n_goBy l g h0 u_1 r_17 nr u_3 xmostSlip xslip xisDrawn u_4 u_5 u_6 u_7 nrc nrn fa_12) dX5_run_k2.2.1.1.2 mw776 mw777 mw778 mw31 mw779 rfl 5 rfl rfl 0 _ rfl yk_yX5_goBy_2 rfl (Nat.le_of_ble_eq_true rfl) (Nat.le_of_ble_eq_true rfl) (Nat.le_of_ble_eq_true rfl) (Nat.le_of_ble_eq_true rfl) (Nat.le_of_ble_eq_true rfl) rfl rfl (by decide +kernel) rfl (by decide +kernel) (by decide +kernel) ?_
      rintro w ⟨xmotorTick2_34, xahead2_35, nrg_36, rfl⟩
      refine k_ws [(cO3_vrvvvvvv hh v0hh yhn v2hh v3hh v4hh v5hh v6hh v7hh), (cO8_iiri yhn 1 6 yhnc yhnn), (cAI g yhnc 6 yhnf), (cO8_iiri zw 6 3 zwc zwn), (cAI g zwc 18 zwf), (cO7_rvrrii hs zr v1hs zw zp zmd ztr), (cO8_iiri zp 8 2 zpc zpn), (cAI g zpc 16 zpf), (cO8_iiri zr 8 3 zrc zrn), (cAI g zrc 24 zrf), (cO5_riiiiiiii h0 nr u_3 xmostSlip xslip xisDrawn u_4 u_5 xmotorTick2_34 xahead2_35), (cO8_iiri nr 8 10 nrc nrn), (cAI g nrc 80 nrg_36)] rfl ?_
      refine k_goto 101 X dX5_run_k2.2.1.2.1 (jp_e rfl) ?_
      obtain ⟨z_39, ez_39⟩ : ∃ y : Int32, u_1 + Int32.ofInt 1 = y := ⟨_, rfl⟩
      refine k_iinc z_39 [(3, .int z_39), (4, .int r_17), (0, .ref h0), (1, .ref hh), (2, .ref hs)] 1 X dX5_run_k3.2.2.1 rfl ez_39 (nlt_e rfl) rfl ?_
      refine k_goto 22 X dX5_run_k3.2.2.2.1 (jp_e rfl) ?_
      refine k_lv [(3, .int z_39), (0, .ref h0), (1, .ref hh), (2, .ref hs)] [0, 2, 3, 4] rfl ?_
      refine k_sub [(cO5_riiiiiiii h0 nr u_3 xmostSlip xslip xisDrawn u_4 u_5 xmotorTick2_34 xahead2_35), (cO8_iiri nr 8 10 nrc nrn), (cAI g nrc 80 nrg_36), (cO3_vrvvvvvv hh v0hh yhn v2hh v3hh v4hh v5hh v6hh v7hh), (cO8_iiri yhn 1 6 yhnc yhnn), (cAI g yhnc 6 yhnf), (cO7_rvrrii hs zr v1hs zw zp zmd ztr), (cO8_iiri zr 8 3 zrc zrn), (cAI g zrc 24 zrf), (cO8_iiri zp 8 2 zpc zpn), (cAI g zpc 16 zpf), (cO8_iiri zw 6 3 zwc zwn), (cAI g zwc 18 zwf)] [10, 11, 12, 0, 1, 2, 5, 8, 9, 6, 7, 3, 4] rfl (by decide) rfl ?_
      exact ih_10 _ (by rw [← hm_9]; exact mu_lt (by assumption) (by assumption)) z_39 nrg_36 u_3 u_4 u_5 xmotorTick2_34 xahead2_35 rfl 

theorem dX5_meet_k0 : ((((dD cX5_meet 0 (.aload_n 0) 1 ∧ dD cX5_meet 1 (.getfield 14) 3) ∧ (dD cX5_meet 4 (.aload_n 2) 1 ∧ dD cX5_meet 5 (.getfield 46) 3)) ∧ ((dD cX5_meet 8 (.getfield 51) 3 ∧ dD cX5_meet 11 (.putfield 51) 3) ∧ (dD cX5_meet 14 (.aload_n 0) 1 ∧ dD cX5_meet 15 (.iconst 0) 1))) ∧ (((dD cX5_meet 16 (.aload_n 1) 1 ∧ dD cX5_meet 17 (.getfield 54) 3) ∧ (dD cX5_meet 20 (.iload_n 3) 1 ∧ dD cX5_meet 21 (.iconst 2) 1)) ∧ ((dD cX5_meet 22 (.invokevirtual 59) 3 ∧ dD cX5_meet 25 (.invokestatic 63) 3) ∧ (dD cX5_meet 28 (.putfield 24) 3 ∧ dD cX5_meet 31 (.iconst 0) 1)))) := dkA16 (by decide +kernel)
theorem dX5_meet_k1 : ((((dD cX5_meet 32 (.istore 4) 2 ∧ dD cX5_meet 34 (.iload 4) 2) ∧ (dD cX5_meet 36 (.aload_n 0) 1 ∧ dD cX5_meet 37 (.getfield 14) 3)) ∧ ((dD cX5_meet 40 (.getfield 51) 3 ∧ dD cX5_meet 43 (.if_icmp .ge 35) 3) ∧ (dD cX5_meet 46 (.aload_n 0) 1 ∧ dD cX5_meet 47 (.getfield 14) 3))) ∧ (((dD cX5_meet 50 (.iload 4) 2 ∧ dD cX5_meet 52 (.bipush 9) 2) ∧ (dD cX5_meet 54 (.aload_n 2) 1 ∧ dD cX5_meet 55 (.aload_n 1) 1)) ∧ ((dD cX5_meet 56 (.getfield 54) 3 ∧ dD cX5_meet 59 (.iload_n 3) 1) ∧ (dD cX5_meet 60 (.aload_n 2) 1 ∧ dD cX5_meet 61 (.iload 4) 2)))) := dkA16 (by decide +kernel)
theorem dX5_meet_k2 : ((dD cX5_meet 63 (.invokevirtual 68) 3 ∧ (dD cX5_meet 66 (.invokevirtual 72) 3 ∧ dD cX5_meet 69 (.invokevirtual 76) 3)) ∧ (dD cX5_meet 72 (.iinc 4 1) 3 ∧ (dD cX5_meet 75 (.goto (-41)) 3 ∧ dD cX5_meet 78 .return_ 1))) := dkA6 (by decide +kernel)
set_option maxHeartbeats 4000000 in
set_option maxRecDepth 100000 in
theorem n_meet (l : Launch) (g : Gx) (h0 : Nat) (hh : Nat) (hs : Nat) (p0 : Int32) (nr : Nat) (xsnapped : Int32) (xmostSlip : Int32) (xslip : Int32) (xisDrawn : Int32) (xseed : Int32) (xtick : Int32) (xmotorTick : Int32) (xahead : Int32) (nrc : Nat) (nrn : Int32) (nrf : Nat → Int32) (v0hh : Value) (v1hh : Value) (v2hh : Value) (v3hh : Value) (yhm : Nat) (v5hh : Value) (v6hh : Value) (v7hh : Value) (yhmc : Nat) (yhmn : Int32) (yhmf : Nat → Int32) (zr : Nat) (zm : Nat) (v2hs : Value) (zp : Nat) (zmd : Int32) (ztr : Int32) (zrc : Nat) (zrn : Int32) (zrf : Nat → Int32) (zmc : Nat) (zmn : Int32) (zmf : Nat → Int32) (zpc : Nat) (zpn : Int32) (zpf : Nat → Int32) : cV l g yX5_meet cX5_meet 5 2 49 0 0 [.ref h0, .ref hh, .ref hs, .int p0] [(cO5_riiiiiiii h0 nr xsnapped xmostSlip xslip xisDrawn xseed xtick xmotorTick xahead), (cO8_iiri nr 8 10 nrc nrn), (cAI g nrc 80 nrf), (cO3_vvvvrvvv hh v0hh v1hh v2hh v3hh yhm v5hh v6hh v7hh), (cO8_iiri yhm 4 3 yhmc yhmn), (cAI g yhmc 12 yhmf), (cO7_rrvrii hs zr zm v2hs zp zmd ztr), (cO8_iiri zr 8 3 zrc zrn), (cAI g zrc 24 zrf), (cO8_iiri zm 12 3 zmc zmn), (cAI g zmc 36 zmf), (cO8_iiri zp 8 2 zpc zpn), (cAI g zpc 16 zpf)] (fun w => ∃ (xmostSlip2 : Int32) (nrg : Nat → Int32) (nrk : Int32), (¬ xmostSlip2 < 0) ∧ w = [(cO5_riiiiiiii h0 nr xsnapped xmostSlip2 xslip xisDrawn xseed xtick xmotorTick xahead), (cO8_iiri nr 8 10 nrc nrk), (cAI g nrc 80 nrg), (cO3_vvvvrvvv hh v0hh v1hh v2hh v3hh yhm v5hh v6hh v7hh), (cO8_iiri yhm 4 3 yhmc yhmn), (cAI g yhmc 12 yhmf), (cO7_rrvrii hs zr zm v2hs zp zmd ztr), (cO8_iiri zr 8 3 zrc zrn), (cAI g zrc 24 zrf), (cO8_iiri zm 12 3 zmc zmn), (cAI g zmc 36 zmf), (cO8_iiri zp 8 2 zpc zpn), (cAI g zpc 16 zpf)]) := by
  refine cV.of (by decide) (Nat.le_of_ble_eq_true rfl) ?_
  intro p e s m args below meth c A X hr hi
  refine k_lveq [(0, .ref h0), (1, .ref hh), (2, .ref hs), (3, .int p0)] rfl ?_
  refine k_aload_n X dX5_meet_k0.1.1.1.1 0 rfl ?_
  refine k_get (ci := 5) X inlX5 rfl 0 (nlt_e rfl) dX5_meet_k0.1.1.1.2 mw125 0 rfl rfl ?_
  refine k_aload_n X dX5_meet_k0.1.1.2.1 2 rfl ?_
  refine k_get (ci := 7) X inlX7 rfl 3 (nlt_e rfl) dX5_meet_k0.1.1.2.2 mw753 6 rfl rfl ?_
  refine k_get (ci := 8) X inlX8 rfl 3 (nlt_e rfl) dX5_meet_k0.1.2.1.1 mw754 11 rfl rfl ?_
  refine k_put (ci := 8) [(cO5_riiiiiiii h0 nr xsnapped xmostSlip xslip xisDrawn xseed xtick xmotorTick xahead), (cO8_iiri nr 8 10 nrc zpn), (cAI g nrc 80 nrf), (cO3_vvvvrvvv hh v0hh v1hh v2hh v3hh yhm v5hh v6hh v7hh), (cO8_iiri yhm 4 3 yhmc yhmn), (cAI g yhmc 12 yhmf), (cO7_rrvrii hs zr zm v2hs zp zmd ztr), (cO8_iiri zr 8 3 zrc zrn), (cAI g zrc 24 zrf), (cO8_iiri zm 12 3 zmc zmn), (cAI g zmc 36 zmf), (cO8_iiri zp 8 2 zpc zpn), (cAI g zpc 16 zpf)] X inlX8 rfl tyX8_ok nmX8 3 (nlt_e rfl) rfl dX5_meet_k0.1.2.1.2 mw754 1 rfl rfl rfl (Nat.le_of_ble_eq_true rfl) rfl ?_
  refine k_aload_n X dX5_meet_k0.1.2.2.1 0 rfl ?_
  refine k_iconst (v := 0) X dX5_meet_k0.1.2.2.2 ic_0 ?_
  refine k_aload_n X dX5_meet_k0.2.1.1.1 1 rfl ?_
  refine k_get (ci := 3) X inlX3 rfl 4 (nlt_e rfl) dX5_meet_k0.2.1.1.2 mw755 3 rfl rfl ?_
  refine k_iload_n X dX5_meet_k0.2.1.2.1 3 rfl ?_
  refine k_iconst (v := 2) X dX5_meet_k0.2.1.2.2 ic_2 ?_
  refine k_callVI (n := 2) (As := [.int p0, .int 2]) (st := [.int 0, .ref h0]) X [(cO8_iiri yhm 4 3 yhmc yhmn), (cAI g yhmc 12 yhmf)] [(cO5_riiiiiiii h0 nr xsnapped xmostSlip xslip xisDrawn xseed xtick xmotorTick xahead), (cO8_iiri nr 8 10 nrc zpn), (cAI g nrc 80 nrf), (cO3_vvvvrvvv hh v0hh v1hh v2hh v3hh yhm v5hh v6hh v7hh), (cO7_rrvrii hs zr zm v2hs zp zmd ztr), (cO8_iiri zr 8 3 zrc zrn), (cAI g zrc 24 zrf), (cO8_iiri zm 12 3 zmc zmn), (cAI g zmc 36 zmf), (cO8_iiri zp 8 2 zpc zpn), (cAI g zpc 16 zpf)] [4, 5] [0, 1, 2, 3, 6, 7, 8, 9, 10, 11, 12] (t_at l g yhm p0 2 4 3 yhmc yhmn 12 yhmf (tbk_4_3)) dX5_meet_k0.2.2.1.1 mw757 mw376 mw377 mw64 mw378 rfl 8 rfl rfl 0 _ rfl yk_yX8_at_2 rfl (Nat.le_of_ble_eq_true rfl) (Nat.le_of_ble_eq_true rfl) (Nat.le_of_ble_eq_true rfl) (Nat.le_of_ble_eq_true rfl) (Nat.le_of_ble_eq_true rfl) rfl rfl (by decide +kernel) rfl (by decide +kernel) (by decide +kernel) ?_
  rintro r_1 w ⟨hr_2, rfl⟩
  refine k_ws [(cO5_riiiiiiii h0 nr xsnapped xmostSlip xslip xisDrawn xseed xtick xmotorTick xahead), (cO8_iiri nr 8 10 nrc zpn), (cAI g nrc 80 nrf), (cO3_vvvvrvvv hh v0hh v1hh v2hh v3hh yhm v5hh v6hh v7hh), (cO7_rrvrii hs zr zm v2hs zp zmd ztr), (cO8_iiri zr 8 3 zrc zrn), (cAI g zrc 24 zrf), (cO8_iiri zm 12 3 zmc zmn), (cAI g zmc 36 zmf), (cO8_iiri zp 8 2 zpc zpn), (cAI g zpc 16 zpf), (cO8_iiri yhm 4 3 yhmc yhmn), (cAI g yhmc 12 yhmf)] rfl ?_
  refine k_mmax X dX5_meet_k0.2.2.1.2 mw756 mw102 mw103 mw104 (Nat.le_of_ble_eq_true rfl) (Nat.le_of_ble_eq_true rfl) (Nat.zero_le _) (Nat.zero_le _) ?_
  refine k_nm (fun z_3 ez_3 => ?_)
  refine k_put (ci := 5) [(cO5_riiiiiiii h0 nr xsnapped z_3 xslip xisDrawn xseed xtick xmotorTick xahead), (cO8_iiri nr 8 10 nrc zpn), (cAI g nrc 80 nrf), (cO3_vvvvrvvv hh v0hh v1hh v2hh v3hh yhm v5hh v6hh v7hh), (cO7_rrvrii hs zr zm v2hs zp zmd ztr), (cO8_iiri zr 8 3 zrc zrn), (cAI g zrc 24 zrf), (cO8_iiri zm 12 3 zmc zmn), (cAI g zmc 36 zmf), (cO8_iiri zp 8 2 zpc zpn), (cAI g zpc 16 zpf), (cO8_iiri yhm 4 3 yhmc yhmn), (cAI g yhmc 12 yhmf)] X inlX5 rfl tyX5_ok nmX5 2 (nlt_e rfl) rfl dX5_meet_k0.2.2.2.1 mw127 0 rfl rfl rfl (Nat.le_of_ble_eq_true rfl) rfl ?_
  refine k_iconst (v := 0) X dX5_meet_k0.2.2.2.2 ic_0 ?_
  refine k_istore [(4, .int 0), (0, .ref h0), (1, .ref hh), (2, .ref hs), (3, .int p0)] X dX5_meet_k1.1.1.1.1 (nlt_e rfl) rfl ?_
  refine (fun hL : ∀ (nn_6 : Nat) (u_4 : Int32) (uf_5 : Nat → Int32), (zpn.toInt - u_4.toInt).toNat = nn_6 → Wk p l e _ s m args below meth c _ A g _ _ _ [(cO5_riiiiiiii h0 nr xsnapped z_3 xslip xisDrawn xseed xtick xmotorTick xahead), (cO8_iiri nr 8 10 nrc zpn), (cAI g nrc 80 uf_5), (cO3_vvvvrvvv hh v0hh v1hh v2hh v3hh yhm v5hh v6hh v7hh), (cO7_rrvrii hs zr zm v2hs zp zmd ztr), (cO8_iiri zr 8 3 zrc zrn), (cAI g zrc 24 zrf), (cO8_iiri zm 12 3 zmc zmn), (cAI g zmc 36 zmf), (cO8_iiri zp 8 2 zpc zpn), (cAI g zpc 16 zpf), (cO8_iiri yhm 4 3 yhmc yhmn), (cAI g yhmc 12 yhmf)] [(4, .int u_4), (0, .ref h0), (1, .ref hh), (2, .ref hs), (3, .int p0)] 34 [] => hL _ 0 nrf rfl ) ?_
  refine fun nn_6 => Nat.strongRecOn nn_6 (fun nn_6 ih_8 => ?_)
  intro u_4 uf_5 hm_7 
  refine k_iload X dX5_meet_k1.1.1.1.2 0 rfl ?_
  refine k_aload_n X dX5_meet_k1.1.1.2.1 1 rfl ?_
  refine k_get (ci := 5) X inlX5 rfl 0 (nlt_e rfl) dX5_meet_k1.1.1.2.2 mw125 0 rfl rfl ?_
  refine k_get (ci := 8) X inlX8 rfl 3 (nlt_e rfl) dX5_meet_k1.1.2.1.1 mw754 1 rfl rfl ?_
  refine k_ic_ge 78 X dX5_meet_k1.1.2.1.2 (jp_e rfl) (fun h_9 => ?_) (fun h_9 => ?_)
  · skip
    exact k_vret X hr dX5_meet_k2.2.2.2 (Nat.le_of_ble_eq_true rfl) (Nat.le_of_ble_eq_true rfl) [0, 1, 2, 3, 11, 12, 4, 5, 6, 7, 8, 9, 10] (vnd_e rfl) rfl rfl ⟨z_3, uf_5, zpn, (mx0 (by assumption)), rfl⟩
  · skip
    refine k_aload_n X dX5_meet_k1.1.2.2.1 1 rfl ?_
    refine k_get (ci := 5) X inlX5 rfl 0 (nlt_e rfl) dX5_meet_k1.1.2.2.2 mw125 0 rfl rfl ?_
    refine k_iload X dX5_meet_k1.2.1.1.1 0 rfl ?_
    refine k_bipush (v := 9) X dX5_meet_k1.2.1.1.2 bi_9 ?_
    refine k_aload_n X dX5_meet_k1.2.1.2.1 3 rfl ?_
    refine k_aload_n X dX5_meet_k1.2.1.2.2 2 rfl ?_
    refine k_get (ci := 3) X inlX3 rfl 4 (nlt_e rfl) dX5_meet_k1.2.2.1.1 mw755 3 rfl rfl ?_
    refine k_iload_n X dX5_meet_k1.2.2.1.2 4 rfl ?_
    refine k_aload_n X dX5_meet_k1.2.2.2.1 3 rfl ?_
    refine k_iload X dX5_meet_k1.2.2.2.2 0 rfl ?_
    refine k_callVI (n := 1) (As := [.int u_4]) (st := [.int p0, .ref yhm, .ref hs, .int 9, .int u_4, .ref nr]) X [(cO7_rrvrii hs zr zm v2hs zp zmd ztr), (cO8_iiri zp 8 2 zpc zpn), (cAI g zpc 16 zpf)] [(cO5_riiiiiiii h0 nr xsnapped z_3 xslip xisDrawn xseed xtick xmotorTick xahead), (cO8_iiri nr 8 10 nrc zpn), (cAI g nrc 80 uf_5), (cO3_vvvvrvvv hh v0hh v1hh v2hh v3hh yhm v5hh v6hh v7hh), (cO8_iiri zr 8 3 zrc zrn), (cAI g zrc 24 zrf), (cO8_iiri zm 12 3 zmc zmn), (cAI g zmc 36 zmf), (cO8_iiri yhm 4 3 yhmc yhmn), (cAI g yhmc 12 yhmf)] [4, 9, 10] [0, 1, 2, 3, 5, 6, 7, 8, 11, 12] (s_reelAt l g hs u_4 (.ref zr) (.ref zm) v2hs zp zmd ztr zpc zpn zpf) dX5_meet_k2.1.1 mw758 mw759 mw760 mw23 mw761 rfl 7 rfl rfl 0 _ rfl yk_yX7_reelAt_1 rfl (Nat.le_of_ble_eq_true rfl) (Nat.le_of_ble_eq_true rfl) (Nat.le_of_ble_eq_true rfl) (Nat.le_of_ble_eq_true rfl) (Nat.le_of_ble_eq_true rfl) rfl rfl (by decide +kernel) rfl (by decide +kernel) (by decide +kernel) ?_
    rintro r_10 w rfl
    refine k_ws [(cO5_riiiiiiii h0 nr xsnapped z_3 xslip xisDrawn xseed xtick xmotorTick xahead), (cO8_iiri nr 8 10 nrc zpn), (cAI g nrc 80 uf_5), (cO3_vvvvrvvv hh v0hh v1hh v2hh v3hh yhm v5hh v6hh v7hh), (cO8_iiri zr 8 3 zrc zrn), (cAI g zrc 24 zrf), (cO8_iiri zm 12 3 zmc zmn), (cAI g zmc 36 zmf), (cO8_iiri yhm 4 3 yhmc yhmn), (cAI g yhmc 12 yhmf), (cO7_rrvrii hs zr zm v2hs zp zmd ztr), (cO8_iiri zp 8 2 zpc zpn), (cAI g zpc 16 zpf)] rfl ?_
    refine k_callVI (n := 3) (As := [.ref yhm, .int p0, .int r_10]) (st := [.int 9, .int u_4, .ref nr]) X [(cO7_rrvrii hs zr zm v2hs zp zmd ztr), (cO8_iiri zr 8 3 zrc zrn), (cAI g zrc 24 zrf), (cO8_iiri zm 12 3 zmc zmn), (cAI g zmc 36 zmf), (cO8_iiri yhm 4 3 yhmc yhmn), (cAI g yhmc 12 yhmf)] [(cO5_riiiiiiii h0 nr xsnapped z_3 xslip xisDrawn xseed xtick xmotorTick xahead), (cO8_iiri nr 8 10 nrc zpn), (cAI g nrc 80 uf_5), (cO3_vvvvrvvv hh v0hh v1hh v2hh v3hh yhm v5hh v6hh v7hh), (cO8_iiri zp 8 2 zpc zpn), (cAI g zpc 16 zpf)] [10, 4, 5, 6, 7, 8, 9] [0, 1, 2, 3, 11, 12] (s_believedBy l g hs yhm p0 r_10 zr zm v2hs (.ref zp) zmd ztr zrc zrn zrf zmc zmn zmf yhmc yhmn yhmf) dX5_meet_k2.1.2.1 mw762 mw763 mw764 mw23 mw765 rfl 7 rfl rfl 0 _ rfl yk_yX7_believedBy_3 rfl (Nat.le_of_ble_eq_true rfl) (Nat.le_of_ble_eq_true rfl) (Nat.le_of_ble_eq_true rfl) (Nat.le_of_ble_eq_true rfl) (Nat.le_of_ble_eq_true rfl) rfl rfl (by decide +kernel) rfl (by decide +kernel) (by decide +kernel) ?_
    rintro r_12 w rfl
    refine k_ws [(cO5_riiiiiiii h0 nr xsnapped z_3 xslip xisDrawn xseed xtick xmotorTick xahead), (cO8_iiri nr 8 10 nrc zpn), (cAI g nrc 80 uf_5), (cO3_vvvvrvvv hh v0hh v1hh v2hh v3hh yhm v5hh v6hh v7hh), (cO8_iiri zp 8 2 zpc zpn), (cAI g zpc 16 zpf), (cO7_rrvrii hs zr zm v2hs zp zmd ztr), (cO8_iiri zr 8 3 zrc zrn), (cAI g zrc 24 zrf), (cO8_iiri zm 12 3 zmc zmn), (cAI g zmc 36 zmf), (cO8_iiri yhm 4 3 yhmc yhmn), (cAI g yhmc 12 yhmf)] rfl ?_
    refine k_callVV (n := 3) (As := [.int u_4, .int 9, .int r_12]) (st := []) X [(cO8_iiri nr 8 10 nrc zpn), (cAI g nrc 80 uf_5)] [(cO5_riiiiiiii h0 nr xsnapped z_3 xslip xisDrawn xseed xtick xmotorTick xahead), (cO3_vvvvrvvv hh v0hh v1hh v2hh v3hh yhm v5hh v6hh v7hh), (cO8_iiri zp 8 2 zpc zpn), (cAI g zpc 16 zpf), (cO7_rrvrii hs zr zm v2hs zp zmd ztr), (cO8_iiri zr 8 3 zrc zrn), (cAI g zrc 24 zrf), (cO8_iiri zm 12 3 zmc zmn), (cAI g zmc 36 zmf), (cO8_iiri yhm 4 3 yhmc yhmn), (cAI g yhmc 12 yhmf)] [1, 2] [0, 3, 4, 5, 6, 7, 8, 9, 10, 11, 12] (t_put l g nr u_4 9 r_12 8 10 nrc zpn 80 uf_5 (tbk_8_10)) dX5_meet_k2.1.2.2 mw766 mw326 mw327 mw64 mw328 rfl 8 rfl rfl 0 _ rfl yk_yX8_put_3 rfl (Nat.le_of_ble_eq_true rfl) (Nat.le_of_ble_eq_true rfl) (Nat.le_of_ble_eq_true rfl) (Nat.le_of_ble_eq_true rfl) (Nat.le_of_ble_eq_true rfl) rfl rfl (by decide +kernel) rfl (by decide +kernel) (by decide +kernel) ?_
    rintro w ⟨fa_14, hr_16, rfl⟩
    refine k_ws [(cO5_riiiiiiii h0 nr xsnapped z_3 xslip xisDrawn xseed xtick xmotorTick xahead), (cO3_vvvvrvvv hh v0hh v1hh v2hh v3hh yhm v5hh v6hh v7hh), (cO8_iiri zp 8 2 zpc zpn), (cAI g zpc 16 zpf), (cO7_rrvrii hs zr zm v2hs zp zmd ztr), (cO8_iiri zr 8 3 zrc zrn), (cAI g zrc 24 zrf), (cO8_iiri zm 12 3 zmc zmn), (cAI g zmc 36 zmf), (cO8_iiri yhm 4 3 yhmc yhmn), (cAI g yhmc 12 yhmf), (cO8_iiri nr 8 10 nrc zpn), (cAI g nrc 80 fa_14)] rfl ?_
    obtain ⟨z_17, ez_17⟩ : ∃ y : Int32, u_4 + Int32.ofInt 1 = y := ⟨_, rfl⟩
    refine k_iinc z_17 [(4, .int z_17), (0, .ref h0), (1, .ref hh), (2, .ref hs), (3, .int p0)] 0 X dX5_meet_k2.2.1 rfl ez_17 (nlt_e rfl) rfl ?_
    refine k_goto 34 X dX5_meet_k2.2.2.1 (jp_e rfl) ?_
    refine k_sub [(cO5_riiiiiiii h0 nr xsnapped z_3 xslip xisDrawn xseed xtick xmotorTick xahead), (cO8_iiri nr 8 10 nrc zpn), (cAI g nrc 80 fa_14), (cO3_vvvvrvvv hh v0hh v1hh v2hh v3hh yhm v5hh v6hh v7hh), (cO7_rrvrii hs zr zm v2hs zp zmd ztr), (cO8_iiri zr 8 3 zrc zrn), (cAI g zrc 24 zrf), (cO8_iiri zm 12 3 zmc zmn), (cAI g zmc 36 zmf), (cO8_iiri zp 8 2 zpc zpn), (cAI g zpc 16 zpf), (cO8_iiri yhm 4 3 yhmc yhmn), (cAI g yhmc 12 yhmf)] [0, 11, 12, 1, 4, 5, 6, 7, 8, 2, 3, 9, 10] rfl (by decide) rfl ?_
    exact ih_8 _ (by rw [← hm_7]; exact mu_lt (by assumption) (by assumption)) z_17 fa_14 rfl 

theorem dX0_burn_k0 : ((((dD cX0_burn 0 (.aload_n 1) 1 ∧ dD cX0_burn 1 (.iconst 3) 1) ∧ (dD cX0_burn 2 (.invokevirtual 24) 3 ∧ dD cX0_burn 5 (.istore 4) 2)) ∧ ((dD cX0_burn 7 (.aload_n 1) 1 ∧ dD cX0_burn 8 (.iconst 4) 1) ∧ (dD cX0_burn 9 (.invokevirtual 24) 3 ∧ dD cX0_burn 12 (.istore 5) 2))) ∧ (((dD cX0_burn 14 (.aload_n 0) 1 ∧ dD cX0_burn 15 (.iconst 0) 1) ∧ (dD cX0_burn 16 (.putfield 20) 3 ∧ dD cX0_burn 19 (.iconst 0) 1)) ∧ ((dD cX0_burn 20 (.istore 6) 2 ∧ dD cX0_burn 22 (.iload 6) 2) ∧ (dD cX0_burn 24 (.aload_n 2) 1 ∧ dD cX0_burn 25 (.getfield 30) 3)))) := dkA16 (by decide +kernel)
theorem dX0_burn_k1 : ((((dD cX0_burn 28 (.getfield 35) 3 ∧ dD cX0_burn 31 (.if_icmp .ge 123) 3) ∧ (dD cX0_burn 34 (.iload 6) 2 ∧ dD cX0_burn 36 (.iconst 2) 1)) ∧ ((dD cX0_burn 37 (.if_icmp .ge 8) 3 ∧ dD cX0_burn 40 (.iload 4) 2) ∧ (dD cX0_burn 42 (.goto 15) 3 ∧ dD cX0_burn 45 (.aload_n 0) 1))) ∧ (((dD cX0_burn 46 (.getfield 14) 3 ∧ dD cX0_burn 49 (.iload 6) 2) ∧ (dD cX0_burn 51 (.iconst 2) 1 ∧ dD cX0_burn 52 .isub 1)) ∧ ((dD cX0_burn 53 (.iconst 0) 1 ∧ dD cX0_burn 54 (.invokevirtual 38) 3) ∧ (dD cX0_burn 57 (.istore 7) 2 ∧ dD cX0_burn 59 (.iload_n 3) 1)))) := dkA16 (by decide +kernel)
theorem dX0_burn_k2 : ((((dD cX0_burn 60 (.iload 6) 2 ∧ dD cX0_burn 62 .ishr 1) ∧ (dD cX0_burn 63 (.iconst 1) 1 ∧ dD cX0_burn 64 .iand 1)) ∧ ((dD cX0_burn 65 (.iconst 1) 1 ∧ dD cX0_burn 66 (.if_icmp .ne 24) 3) ∧ (dD cX0_burn 69 (.iload 6) 2 ∧ dD cX0_burn 71 (.iconst 2) 1))) ∧ (((dD cX0_burn 72 (.if_icmp .lt 18) 3 ∧ dD cX0_burn 75 (.aload_n 2) 1) ∧ (dD cX0_burn 76 (.iload 6) 2 ∧ dD cX0_burn 78 (.invokevirtual 42) 3)) ∧ ((dD cX0_burn 81 (.iload 5) 2 ∧ dD cX0_burn 83 (.if_icmp .lt 7) 3) ∧ (dD cX0_burn 86 (.iload 4) 2 ∧ dD cX0_burn 88 (.istore 7) 2)))) := dkA16 (by decide +kernel)
theorem dX0_burn_k3 : ((((dD cX0_burn 90 (.aload_n 2) 1 ∧ dD cX0_burn 91 (.iload 6) 2) ∧ (dD cX0_burn 93 (.invokevirtual 45) 3 ∧ dD cX0_burn 96 (.istore 8) 2)) ∧ ((dD cX0_burn 98 (.iload 7) 2 ∧ dD cX0_burn 100 (.iload 8) 2) ∧ (dD cX0_burn 102 (.if_icmp .ge 31) 3 ∧ dD cX0_burn 105 (.aload_n 0) 1))) ∧ (((dD cX0_burn 106 .dup 1 ∧ dD cX0_burn 107 (.getfield 20) 3) ∧ (dD cX0_burn 110 (.iconst 1) 1 ∧ dD cX0_burn 111 (.iload 6) 2)) ∧ ((dD cX0_burn 113 .ishl 1 ∧ dD cX0_burn 114 .ior 1) ∧ (dD cX0_burn 115 (.putfield 20) 3 ∧ dD cX0_burn 118 (.aload_n 0) 1)))) := dkA16 (by decide +kernel)
theorem dX0_burn_k4 : ((((dD cX0_burn 119 (.getfield 14) 3 ∧ dD cX0_burn 122 (.iload 6) 2) ∧ (dD cX0_burn 124 (.iconst 0) 1 ∧ dD cX0_burn 125 (.iload 4) 2)) ∧ ((dD cX0_burn 127 (.invokevirtual 48) 3 ∧ dD cX0_burn 130 (.goto 18) 3) ∧ (dD cX0_burn 133 (.aload_n 0) 1 ∧ dD cX0_burn 134 (.getfield 14) 3))) ∧ (((dD cX0_burn 137 (.iload 6) 2 ∧ dD cX0_burn 139 (.iconst 0) 1) ∧ (dD cX0_burn 140 (.iload 7) 2 ∧ dD cX0_burn 142 (.iload 8) 2)) ∧ ((dD cX0_burn 144 .isub 1 ∧ dD cX0_burn 145 (.invokevirtual 48) 3) ∧ (dD cX0_burn 148 (.iinc 6 1) 3 ∧ dD cX0_burn 151 (.goto (-129)) 3)))) := dkA16 (by decide +kernel)
theorem dX0_burn_k5 : dD cX0_burn 154 .return_ 1 := dkA1 (by decide +kernel)
set_option maxHeartbeats 4000000 in
set_option maxRecDepth 100000 in
theorem a_burn (l : Launch) (g : Gx) (h0 : Nat) (hh : Nat) (nn : Nat) (p0 : Int32) (al : Nat) (xd : Int32) (alc : Nat) (aln : Int32) (alf : Nat → Int32) (v0hh : Value) (yhn : Nat) (v2hh : Value) (v3hh : Value) (v4hh : Value) (v5hh : Value) (v6hh : Value) (v7hh : Value) (yhnc : Nat) (yhnn : Int32) (yhnf : Nat → Int32) (nr : Nat) (xsnapped : Int32) (xmostSlip : Int32) (xslip : Int32) (xisDrawn : Int32) (xseed : Int32) (xtick : Int32) (xmotorTick : Int32) (xahead : Int32) (nrc : Nat) (nrn : Int32) (nrf : Nat → Int32) : cV l g yX0_burn cX0_burn 9 2 43 0 0 [.ref h0, .ref hh, .ref nn, .int p0] [(cO0_ri h0 al xd), (cO8_iiri al 8 1 alc aln), (cAI g alc 8 alf), (cO3_vrvvvvvv hh v0hh yhn v2hh v3hh v4hh v5hh v6hh v7hh), (cO8_iiri yhn 1 6 yhnc yhnn), (cAI g yhnc 6 yhnf), (cO5_riiiiiiii nn nr xsnapped xmostSlip xslip xisDrawn xseed xtick xmotorTick xahead), (cO8_iiri nr 8 10 nrc nrn), (cAI g nrc 80 nrf)] (fun w => ∃ (xd2 : Int32) (alg : Nat → Int32), w = [(cO0_ri h0 al xd2), (cO8_iiri al 8 1 alc aln), (cAI g alc 8 alg), (cO3_vrvvvvvv hh v0hh yhn v2hh v3hh v4hh v5hh v6hh v7hh), (cO8_iiri yhn 1 6 yhnc yhnn), (cAI g yhnc 6 yhnf), (cO5_riiiiiiii nn nr xsnapped xmostSlip xslip xisDrawn xseed xtick xmotorTick xahead), (cO8_iiri nr 8 10 nrc nrn), (cAI g nrc 80 nrf)]) := by
  refine cV.of (by decide) (Nat.le_of_ble_eq_true rfl) ?_
  intro p e s m args below meth c A X hr hi
  refine k_lveq [(0, .ref h0), (1, .ref hh), (2, .ref nn), (3, .int p0)] rfl ?_
  refine k_aload_n X dX0_burn_k0.1.1.1.1 1 rfl ?_
  refine k_iconst (v := 3) X dX0_burn_k0.1.1.1.2 ic_3 ?_
  refine k_callVI (n := 1) (As := [.int 3]) (st := []) X [(cO3_vrvvvvvv hh v0hh yhn v2hh v3hh v4hh v5hh v6hh v7hh), (cO8_iiri yhn 1 6 yhnc yhnn), (cAI g yhnc 6 yhnf)] [(cO0_ri h0 al xd), (cO8_iiri al 8 1 alc aln), (cAI g alc 8 alf), (cO5_riiiiiiii nn nr xsnapped xmostSlip xslip xisDrawn xseed xtick xmotorTick xahead), (cO8_iiri nr 8 10 nrc nrn), (cAI g nrc 80 nrf)] [3, 4, 5] [0, 1, 2, 6, 7, 8] (h_number l g hh 3 v0hh yhn v2hh v3hh v4hh v5hh v6hh v7hh yhnc yhnn yhnf) dX0_burn_k0.1.1.2.1 mw1038 mw415 mw416 mw19 mw417 rfl 3 rfl rfl 0 _ rfl yk_yX3_number_1 rfl (Nat.le_of_ble_eq_true rfl) (Nat.le_of_ble_eq_true rfl) (Nat.le_of_ble_eq_true rfl) (Nat.le_of_ble_eq_true rfl) (Nat.le_of_ble_eq_true rfl) rfl rfl (vnd_e rfl) rfl (vnd_e rfl) (dsj_e rfl) ?_
  rintro r_1 w rfl
  refine k_ws [(cO0_ri h0 al xd), (cO8_iiri al 8 1 alc aln), (cAI g alc 8 alf), (cO5_riiiiiiii nn nr xsnapped xmostSlip xslip xisDrawn xseed xtick xmotorTick xahead), (cO8_iiri nr 8 10 nrc nrn), (cAI g nrc 80 nrf), (cO3_vrvvvvvv hh v0hh yhn v2hh v3hh v4hh v5hh v6hh v7hh), (cO8_iiri yhn 1 6 yhnc yhnn), (cAI g yhnc 6 yhnf)] rfl ?_
  refine k_istore [(4, .int r_1), (0, .ref h0), (1, .ref hh), (2, .ref nn), (3, .int p0)] X dX0_burn_k0.1.1.2.2 (nlt_e rfl) rfl ?_
  refine k_aload_n X dX0_burn_k0.1.2.1.1 2 rfl ?_
  refine k_iconst (v := 4) X dX0_burn_k0.1.2.1.2 ic_4 ?_
  refine k_callVI (n := 1) (As := [.int 4]) (st := []) X [(cO3_vrvvvvvv hh v0hh yhn v2hh v3hh v4hh v5hh v6hh v7hh), (cO8_iiri yhn 1 6 yhnc yhnn), (cAI g yhnc 6 yhnf)] [(cO0_ri h0 al xd), (cO8_iiri al 8 1 alc aln), (cAI g alc 8 alf), (cO5_riiiiiiii nn nr xsnapped xmostSlip xslip xisDrawn xseed xtick xmotorTick xahead), (cO8_iiri nr 8 10 nrc nrn), (cAI g nrc 80 nrf)] [6, 7, 8] [0, 1, 2, 3, 4, 5] (h_number l g hh 4 v0hh yhn v2hh v3hh v4hh v5hh v6hh v7hh yhnc yhnn yhnf) dX0_burn_k0.1.2.2.1 mw1038 mw415 mw416 mw19 mw417 rfl 3 rfl rfl 0 _ rfl yk_yX3_number_1 rfl (Nat.le_of_ble_eq_true rfl) (Nat.le_of_ble_eq_true rfl) (Nat.le_of_ble_eq_true rfl) (Nat.le_of_ble_eq_true rfl) (Nat.le_of_ble_eq_true rfl) rfl rfl (vnd_e rfl) rfl (vnd_e rfl) (dsj_e rfl) ?_
  rintro r_3 w rfl
  refine k_ws [(cO0_ri h0 al xd), (cO8_iiri al 8 1 alc aln), (cAI g alc 8 alf), (cO5_riiiiiiii nn nr xsnapped xmostSlip xslip xisDrawn xseed xtick xmotorTick xahead), (cO8_iiri nr 8 10 nrc nrn), (cAI g nrc 80 nrf), (cO3_vrvvvvvv hh v0hh yhn v2hh v3hh v4hh v5hh v6hh v7hh), (cO8_iiri yhn 1 6 yhnc yhnn), (cAI g yhnc 6 yhnf)] rfl ?_
  refine k_istore [(5, .int r_3), (4, .int r_1), (0, .ref h0), (1, .ref hh), (2, .ref nn), (3, .int p0)] X dX0_burn_k0.1.2.2.2 (nlt_e rfl) rfl ?_
  refine k_aload_n X dX0_burn_k0.2.1.1.1 2 rfl ?_
  refine k_iconst (v := 0) X dX0_burn_k0.2.1.1.2 ic_0 ?_
  refine k_put (ci := 0) [(cO0_ri h0 al 0), (cO8_iiri al 8 1 alc aln), (cAI g alc 8 alf), (cO5_riiiiiiii nn nr xsnapped xmostSlip xslip xisDrawn xseed xtick xmotorTick xahead), (cO8_iiri nr 8 10 nrc nrn), (cAI g nrc 80 nrf), (cO3_vrvvvvvv hh v0hh yhn v2hh v3hh v4hh v5hh v6hh v7hh), (cO8_iiri yhn 1 6 yhnc yhnn), (cAI g yhnc 6 yhnf)] X inlX0 rfl tyX0_ok nmX0 1 (nlt_e rfl) rfl dX0_burn_k0.2.1.2.1 mw140 0 rfl rfl rfl (Nat.le_of_ble_eq_true rfl) rfl ?_
  refine k_iconst (v := 0) X dX0_burn_k0.2.1.2.2 ic_0 ?_
  refine k_istore [(6, .int 0), (5, .int r_3), (4, .int r_1), (0, .ref h0), (1, .ref hh), (2, .ref nn), (3, .int p0)] X dX0_burn_k0.2.2.1.1 (nlt_e rfl) rfl ?_
  refine (fun hL : ∀ (nn_8 : Nat) (u_5 : Int32) (uf_6 : Nat → Int32) (u_7 : Int32), (nrn.toInt - u_5.toInt).toNat = nn_8 → Wk p l e _ s m args below meth c _ A g _ _ _ [(cO0_ri h0 al u_7), (cO8_iiri al 8 1 alc aln), (cAI g alc 8 uf_6), (cO5_riiiiiiii nn nr xsnapped xmostSlip xslip xisDrawn xseed xtick xmotorTick xahead), (cO8_iiri nr 8 10 nrc nrn), (cAI g nrc 80 nrf), (cO3_vrvvvvvv hh v0hh yhn v2hh v3hh v4hh v5hh v6hh v7hh), (cO8_iiri yhn 1 6 yhnc yhnn), (cAI g yhnc 6 yhnf)] [(6, .int u_5), (5, .int r_3), (4, .int r_1), (0, .ref h0), (1, .ref hh), (2, .ref nn), (3, .int p0)] 22 [] => hL _ 0 alf 0 rfl ) ?_
  refine fun nn_8 => Nat.strongRecOn nn_8 (fun nn_8 ih_10 => ?_)
  intro u_5 uf_6 u_7 hm_9 
  refine k_iload X dX0_burn_k0.2.2.1.2 0 rfl ?_
  refine k_aload_n X dX0_burn_k0.2.2.2.1 5 rfl ?_
  refine k_get (ci := 5) X inlX5 rfl 0 (nlt_e rfl) dX0_burn_k0.2.2.2.2 mw1036 3 rfl rfl ?_
  refine k_get (ci := 8) X inlX8 rfl 3 (nlt_e rfl) dX0_burn_k1.1.1.1.1 mw1037 4 rfl rfl ?_
  refine k_ic_ge 154 X dX0_burn_k1.1.1.1.2 (jp_e rfl) (fun h_11 => ?_) (fun h_11 => ?_)
  · skip
    exact k_vret X hr dX0_burn_k5 (Nat.le_of_ble_eq_true rfl) (Nat.le_of_ble_eq_true rfl) [0, 1, 2, 6, 7, 8, 3, 4, 5] (vnd_e rfl) rfl rfl ⟨u_7, uf_6, rfl⟩
  · skip
    refine k_iload X dX0_burn_k1.1.1.2.1 0 rfl ?_
    refine k_iconst (v := 2) X dX0_burn_k1.1.1.2.2 ic_2 ?_
    refine k_ic_ge 45 X dX0_burn_k1.1.2.1.1 (jp_e rfl) (fun h_12 => ?_) (fun h_12 => ?_)
    · skip
      refine k_aload_n X dX0_burn_k1.1.2.2.2 3 rfl ?_
      refine k_get (ci := 0) X inlX0 rfl 0 (nlt_e rfl) dX0_burn_k1.2.1.1.1 mw139 0 rfl rfl ?_
      refine k_iload X dX0_burn_k1.2.1.1.2 0 rfl ?_
      refine k_iconst (v := 2) X dX0_burn_k1.2.1.2.1 ic_2 ?_
      refine k_isub X dX0_burn_k1.2.1.2.2 ?_
      refine k_nm (fun z_13 ez_13 => ?_)
      refine k_iconst (v := 0) X dX0_burn_k1.2.2.1.1 ic_0 ?_
      refine k_callVI (n := 2) (As := [.int z_13, .int 0]) (st := []) X [(cO8_iiri al 8 1 alc aln), (cAI g alc 8 uf_6)] [(cO0_ri h0 al u_7), (cO5_riiiiiiii nn nr xsnapped xmostSlip xslip xisDrawn xseed xtick xmotorTick xahead), (cO8_iiri nr 8 10 nrc nrn), (cAI g nrc 80 nrf), (cO3_vrvvvvvv hh v0hh yhn v2hh v3hh v4hh v5hh v6hh v7hh), (cO8_iiri yhn 1 6 yhnc yhnn), (cAI g yhnc 6 yhnf)] [1, 2] [0, 3, 4, 5, 6, 7, 8] (t_at l g al z_13 0 8 1 alc aln 8 uf_6 (tbk_8_1)) dX0_burn_k1.2.2.1.2 mw1039 mw376 mw377 mw64 mw378 rfl 8 rfl rfl 0 _ rfl yk_yX8_at_2 rfl (Nat.le_of_ble_eq_true rfl) (Nat.le_of_ble_eq_true rfl) (Nat.le_of_ble_eq_true rfl) (Nat.le_of_ble_eq_true rfl) (Nat.le_of_ble_eq_true rfl) rfl rfl (vnd_e rfl) rfl (vnd_e rfl) (dsj_e rfl) ?_
      rintro r_14 w ⟨hr_15, rfl⟩
      refine k_ws [(cO0_ri h0 al u_7), (cO5_riiiiiiii nn nr xsnapped xmostSlip xslip xisDrawn xseed xtick xmotorTick xahead), (cO8_iiri nr 8 10 nrc nrn), (cAI g nrc 80 nrf), (cO3_vrvvvvvv hh v0hh yhn v2hh v3hh v4hh v5hh v6hh v7hh), (cO8_iiri yhn 1 6 yhnc yhnn), (cAI g yhnc 6 yhnf), (cO8_iiri al 8 1 alc aln), (cAI g alc 8 uf_6)] rfl ?_
      refine k_istore [(7, .int r_14), (6, .int u_5), (5, .int r_3), (4, .int r_1), (0, .ref h0), (1, .ref hh), (2, .ref nn), (3, .int p0)] X dX0_burn_k1.2.2.2.1 (nlt_e rfl) rfl ?_
      refine k_iload_n X dX0_burn_k1.2.2.2.2 7 rfl ?_
      refine k_iload X dX0_burn_k2.1.1.1.1 1 rfl ?_
      refine k_ishr X dX0_burn_k2.1.1.1.2 ?_
      refine k_nm (fun z_16 ez_16 => ?_)
      refine k_iconst (v := 1) X dX0_burn_k2.1.1.2.1 ic_1 ?_
      refine k_iand X dX0_burn_k2.1.1.2.2 ?_
      refine k_nm (fun z_17 ez_17 => ?_)
      refine k_iconst (v := 1) X dX0_burn_k2.1.2.1.1 ic_1 ?_
      refine k_ic_ne 90 X dX0_burn_k2.1.2.1.2 (jp_e rfl) (fun h_18 => ?_) (fun h_18 => ?_)
      · skip
        refine k_aload_n X dX0_burn_k3.1.1.1.1 6 rfl ?_
        refine k_iload X dX0_burn_k3.1.1.1.2 1 rfl ?_
        refine k_callVI (n := 1) (As := [.int u_5]) (st := []) X [(cO5_riiiiiiii nn nr xsnapped xmostSlip xslip xisDrawn xseed xtick xmotorTick xahead), (cO8_iiri nr 8 10 nrc nrn), (cAI g nrc 80 nrf)] [(cO0_ri h0 al u_7), (cO3_vrvvvvvv hh v0hh yhn v2hh v3hh v4hh v5hh v6hh v7hh), (cO8_iiri yhn 1 6 yhnc yhnn), (cAI g yhnc 6 yhnf), (cO8_iiri al 8 1 alc aln), (cAI g alc 8 uf_6)] [1, 2, 3] [0, 4, 5, 6, 7, 8] (n_needed l g nn u_5 nr xsnapped xmostSlip xslip xisDrawn xseed xtick xmotorTick xahead nrc nrn nrf) dX0_burn_k3.1.1.2.1 mw1044 mw1015 mw1016 mw31 mw1017 rfl 5 rfl rfl 0 _ rfl yk_yX5_needed_1 rfl (Nat.le_of_ble_eq_true rfl) (Nat.le_of_ble_eq_true rfl) (Nat.le_of_ble_eq_true rfl) (Nat.le_of_ble_eq_true rfl) (Nat.le_of_ble_eq_true rfl) rfl rfl (vnd_e rfl) rfl (vnd_e rfl) (dsj_e rfl) ?_
        rintro r_19 w rfl
        refine k_ws [(cO0_ri h0 al u_7), (cO3_vrvvvvvv hh v0hh yhn v2hh v3hh v4hh v5hh v6hh v7hh), (cO8_iiri yhn 1 6 yhnc yhnn), (cAI g yhnc 6 yhnf), (cO8_iiri al 8 1 alc aln), (cAI g alc 8 uf_6), (cO5_riiiiiiii nn nr xsnapped xmostSlip xslip xisDrawn xseed xtick xmotorTick xahead), (cO8_iiri nr 8 10 nrc nrn), (cAI g nrc 80 nrf)] rfl ?_
        refine k_istore [(8, .int r_19), (7, .int r_14), (6, .int u_5), (5, .int r_3), (4, .int r_1), (0, .ref h0), (1, .ref hh), (2, .ref nn), (3, .int p0)] X dX0_burn_k3.1.1.2.2 (nlt_e rfl) rfl ?_
        refine k_iload X dX0_burn_k3.1.2.1.1 1 rfl ?_
        refine k_iload X dX0_burn_k3.1.2.1.2 0 rfl ?_
        refine k_ic_ge 133 X dX0_burn_k3.1.2.2.1 (jp_e rfl) (fun h_21 => ?_) (fun h_21 => ?_)
        · skip
          refine k_aload_n X dX0_burn_k4.1.2.2.1 5 rfl ?_
          refine k_get (ci := 0) X inlX0 rfl 0 (nlt_e rfl) dX0_burn_k4.1.2.2.2 mw139 0 rfl rfl ?_
          refine k_iload X dX0_burn_k4.2.1.1.1 2 rfl ?_
          refine k_iconst (v := 0) X dX0_burn_k4.2.1.1.2 ic_0 ?_
          refine k_iload X dX0_burn_k4.2.1.2.1 1 rfl ?_
          refine k_iload X dX0_burn_k4.2.1.2.2 0 rfl ?_
          refine k_isub X dX0_burn_k4.2.2.1.1 ?_
          refine k_nm (fun z_22 ez_22 => ?_)
          refine k_callVV (n := 3) (As := [.int u_5, .int 0, .int z_22]) (st := []) X [(cO8_iiri al 8 1 alc aln), (cAI g alc 8 uf_6)] [(cO0_ri h0 al u_7), (cO3_vrvvvvvv hh v0hh yhn v2hh v3hh v4hh v5hh v6hh v7hh), (cO8_iiri yhn 1 6 yhnc yhnn), (cAI g yhnc 6 yhnf), (cO5_riiiiiiii nn nr xsnapped xmostSlip xslip xisDrawn xseed xtick xmotorTick xahead), (cO8_iiri nr 8 10 nrc nrn), (cAI g nrc 80 nrf)] [4, 5] [0, 1, 2, 3, 6, 7, 8] (t_put l g al u_5 0 z_22 8 1 alc aln 8 uf_6 (tbk_8_1)) dX0_burn_k4.2.2.1.2 mw1045 mw326 mw327 mw64 mw328 rfl 8 rfl rfl 0 _ rfl yk_yX8_put_3 rfl (Nat.le_of_ble_eq_true rfl) (Nat.le_of_ble_eq_true rfl) (Nat.le_of_ble_eq_true rfl) (Nat.le_of_ble_eq_true rfl) (Nat.le_of_ble_eq_true rfl) rfl rfl (vnd_e rfl) rfl (vnd_e rfl) (dsj_e rfl) ?_
          rintro w ⟨fa_23, hr_25, rfl⟩
          refine k_ws [(cO0_ri h0 al u_7), (cO3_vrvvvvvv hh v0hh yhn v2hh v3hh v4hh v5hh v6hh v7hh), (cO8_iiri yhn 1 6 yhnc yhnn), (cAI g yhnc 6 yhnf), (cO5_riiiiiiii nn nr xsnapped xmostSlip xslip xisDrawn xseed xtick xmotorTick xahead), (cO8_iiri nr 8 10 nrc nrn), (cAI g nrc 80 nrf), (cO8_iiri al 8 1 alc aln), (cAI g alc 8 fa_23)] rfl ?_
          obtain ⟨z_26, ez_26⟩ : ∃ y : Int32, u_5 + Int32.ofInt 1 = y := ⟨_, rfl⟩
          refine k_iinc z_26 [(6, .int z_26), (8, .int r_19), (7, .int r_14), (5, .int r_3), (4, .int r_1), (0, .ref h0), (1, .ref hh), (2, .ref nn), (3, .int p0)] 2 X dX0_burn_k4.2.2.2.1 rfl ez_26 (nlt_e rfl) rfl ?_
          refine k_goto 22 X dX0_burn_k4.2.2.2.2 (jp_e rfl) ?_
          refine k_lv [(6, .int z_26), (5, .int r_3), (4, .int r_1), (0, .ref h0), (1, .ref hh), (2, .ref nn), (3, .int p0)] [0, 3, 4, 5, 6, 7, 8] rfl ?_
          refine k_sub [(cO0_ri h0 al u_7), (cO8_iiri al 8 1 alc aln), (cAI g alc 8 fa_23), (cO5_riiiiiiii nn nr xsnapped xmostSlip xslip xisDrawn xseed xtick xmotorTick xahead), (cO8_iiri nr 8 10 nrc nrn), (cAI g nrc 80 nrf), (cO3_vrvvvvvv hh v0hh yhn v2hh v3hh v4hh v5hh v6hh v7hh), (cO8_iiri yhn 1 6 yhnc yhnn), (cAI g yhnc 6 yhnf)] [0, 7, 8, 4, 5, 6, 1, 2, 3] rfl (by decide) rfl ?_
          exact ih_10 _ (by rw [← hm_9]; exact mu_lt (by assumption) (by assumption)) z_26 fa_23 u_7 rfl 
        · skip
          refine k_aload_n X dX0_burn_k3.1.2.2.2 5 rfl ?_
          refine k_dup X dX0_burn_k3.2.1.1.1 rfl ?_
          refine k_get (ci := 0) X inlX0 rfl 1 (nlt_e rfl) dX0_burn_k3.2.1.1.2 mw140 0 rfl rfl ?_
          refine k_iconst (v := 1) X dX0_burn_k3.2.1.2.1 ic_1 ?_
          refine k_iload X dX0_burn_k3.2.1.2.2 2 rfl ?_
          refine k_ishl X dX0_burn_k3.2.2.1.1 ?_
          refine k_nm (fun z_27 ez_27 => ?_)
          refine k_ior X dX0_burn_k3.2.2.1.2 ?_
          refine k_nm (fun z_28 ez_28 => ?_)
          refine k_put (ci := 0) [(cO0_ri h0 al z_28), (cO3_vrvvvvvv hh v0hh yhn v2hh v3hh v4hh v5hh v6hh v7hh), (cO8_iiri yhn 1 6 yhnc yhnn), (cAI g yhnc 6 yhnf), (cO8_iiri al 8 1 alc aln), (cAI g alc 8 uf_6), (cO5_riiiiiiii nn nr xsnapped xmostSlip xslip xisDrawn xseed xtick xmotorTick xahead), (cO8_iiri nr 8 10 nrc nrn), (cAI g nrc 80 nrf)] X inlX0 rfl tyX0_ok nmX0 1 (nlt_e rfl) rfl dX0_burn_k3.2.2.2.1 mw140 0 rfl rfl rfl (Nat.le_of_ble_eq_true rfl) rfl ?_
          refine k_aload_n X dX0_burn_k3.2.2.2.2 5 rfl ?_
          refine k_get (ci := 0) X inlX0 rfl 0 (nlt_e rfl) dX0_burn_k4.1.1.1.1 mw139 0 rfl rfl ?_
          refine k_iload X dX0_burn_k4.1.1.1.2 2 rfl ?_
          refine k_iconst (v := 0) X dX0_burn_k4.1.1.2.1 ic_0 ?_
          refine k_iload X dX0_burn_k4.1.1.2.2 4 rfl ?_
          refine k_callVV (n := 3) (As := [.int u_5, .int 0, .int r_1]) (st := []) X [(cO8_iiri al 8 1 alc aln), (cAI g alc 8 uf_6)] [(cO0_ri h0 al z_28), (cO3_vrvvvvvv hh v0hh yhn v2hh v3hh v4hh v5hh v6hh v7hh), (cO8_iiri yhn 1 6 yhnc yhnn), (cAI g yhnc 6 yhnf), (cO5_riiiiiiii nn nr xsnapped xmostSlip xslip xisDrawn xseed xtick xmotorTick xahead), (cO8_iiri nr 8 10 nrc nrn), (cAI g nrc 80 nrf)] [4, 5] [0, 1, 2, 3, 6, 7, 8] (t_put l g al u_5 0 r_1 8 1 alc aln 8 uf_6 (tbk_8_1)) dX0_burn_k4.1.2.1.1 mw1045 mw326 mw327 mw64 mw328 rfl 8 rfl rfl 0 _ rfl yk_yX8_put_3 rfl (Nat.le_of_ble_eq_true rfl) (Nat.le_of_ble_eq_true rfl) (Nat.le_of_ble_eq_true rfl) (Nat.le_of_ble_eq_true rfl) (Nat.le_of_ble_eq_true rfl) rfl rfl (vnd_e rfl) rfl (vnd_e rfl) (dsj_e rfl) ?_
          rintro w ⟨fa_29, hr_31, rfl⟩
          refine k_ws [(cO0_ri h0 al z_28), (cO3_vrvvvvvv hh v0hh yhn v2hh v3hh v4hh v5hh v6hh v7hh), (cO8_iiri yhn 1 6 yhnc yhnn), (cAI g yhnc 6 yhnf), (cO5_riiiiiiii nn nr xsnapped xmostSlip xslip xisDrawn xseed xtick xmotorTick xahead), (cO8_iiri nr 8 10 nrc nrn), (cAI g nrc 80 nrf), (cO8_iiri al 8 1 alc aln), (cAI g alc 8 fa_29)] rfl ?_
          refine k_goto 148 X dX0_burn_k4.1.2.1.2 (jp_e rfl) ?_
          obtain ⟨z_32, ez_32⟩ : ∃ y : Int32, u_5 + Int32.ofInt 1 = y := ⟨_, rfl⟩
          refine k_iinc z_32 [(6, .int z_32), (8, .int r_19), (7, .int r_14), (5, .int r_3), (4, .int r_1), (0, .ref h0), (1, .ref hh), (2, .ref nn), (3, .int p0)] 2 X dX0_burn_k4.2.2.2.1 rfl ez_32 (nlt_e rfl) rfl ?_
          refine k_goto 22 X dX0_burn_k4.2.2.2.2 (jp_e rfl) ?_
          refine k_lv [(6, .int z_32), (5, .int r_3), (4, .int r_1), (0, .ref h0), (1, .ref hh), (2, .ref nn), (3, .int p0)] [0, 3, 4, 5, 6, 7, 8] rfl ?_
          refine k_sub [(cO0_ri h0 al z_28), (cO8_iiri al 8 1 alc aln), (cAI g alc 8 fa_29), (cO5_riiiiiiii nn nr xsnapped xmostSlip xslip xisDrawn xseed xtick xmotorTick xahead), (cO8_iiri nr 8 10 nrc nrn), (cAI g nrc 80 nrf), (cO3_vrvvvvvv hh v0hh yhn v2hh v3hh v4hh v5hh v6hh v7hh), (cO8_iiri yhn 1 6 yhnc yhnn), (cAI g yhnc 6 yhnf)] [0, 7, 8, 4, 5, 6, 1, 2, 3] rfl (by decide) rfl ?_
          exact ih_10 _ (by rw [← hm_9]; exact mu_lt (by assumption) (by assumption)) z_32 fa_29 z_28 rfl 
      · skip
        refine k_iload X dX0_burn_k2.1.2.2.1 1 rfl ?_
        refine k_iconst (v := 2) X dX0_burn_k2.1.2.2.2 ic_2 ?_
        refine k_ic_lt 90 X dX0_burn_k2.2.1.1.1 (jp_e rfl) (fun h_33 => ?_) (fun h_33 => ?_)
        · skip
          refine k_aload_n X dX0_burn_k3.1.1.1.1 6 rfl ?_
          refine k_iload X dX0_burn_k3.1.1.1.2 1 rfl ?_
          refine k_callVI (n := 1) (As := [.int u_5]) (st := []) X [(cO5_riiiiiiii nn nr xsnapped xmostSlip xslip xisDrawn xseed xtick xmotorTick xahead), (cO8_iiri nr 8 10 nrc nrn), (cAI g nrc 80 nrf)] [(cO0_ri h0 al u_7), (cO3_vrvvvvvv hh v0hh yhn v2hh v3hh v4hh v5hh v6hh v7hh), (cO8_iiri yhn 1 6 yhnc yhnn), (cAI g yhnc 6 yhnf), (cO8_iiri al 8 1 alc aln), (cAI g alc 8 uf_6)] [1, 2, 3] [0, 4, 5, 6, 7, 8] (n_needed l g nn u_5 nr xsnapped xmostSlip xslip xisDrawn xseed xtick xmotorTick xahead nrc nrn nrf) dX0_burn_k3.1.1.2.1 mw1044 mw1015 mw1016 mw31 mw1017 rfl 5 rfl rfl 0 _ rfl yk_yX5_needed_1 rfl (Nat.le_of_ble_eq_true rfl) (Nat.le_of_ble_eq_true rfl) (Nat.le_of_ble_eq_true rfl) (Nat.le_of_ble_eq_true rfl) (Nat.le_of_ble_eq_true rfl) rfl rfl (vnd_e rfl) rfl (vnd_e rfl) (dsj_e rfl) ?_
          rintro r_34 w rfl
          refine k_ws [(cO0_ri h0 al u_7), (cO3_vrvvvvvv hh v0hh yhn v2hh v3hh v4hh v5hh v6hh v7hh), (cO8_iiri yhn 1 6 yhnc yhnn), (cAI g yhnc 6 yhnf), (cO8_iiri al 8 1 alc aln), (cAI g alc 8 uf_6), (cO5_riiiiiiii nn nr xsnapped xmostSlip xslip xisDrawn xseed xtick xmotorTick xahead), (cO8_iiri nr 8 10 nrc nrn), (cAI g nrc 80 nrf)] rfl ?_
          refine k_istore [(8, .int r_34), (7, .int r_14), (6, .int u_5), (5, .int r_3), (4, .int r_1), (0, .ref h0), (1, .ref hh), (2, .ref nn), (3, .int p0)] X dX0_burn_k3.1.1.2.2 (nlt_e rfl) rfl ?_
          refine k_iload X dX0_burn_k3.1.2.1.1 1 rfl ?_
          refine k_iload X dX0_burn_k3.1.2.1.2 0 rfl ?_
          refine k_ic_ge 133 X dX0_burn_k3.1.2.2.1 (jp_e rfl) (fun h_36 => ?_) (fun h_36 => ?_)
          · skip
            refine k_aload_n X dX0_burn_k4.1.2.2.1 5 rfl ?_
            refine k_get (ci := 0) X inlX0 rfl 0 (nlt_e rfl) dX0_burn_k4.1.2.2.2 mw139 0 rfl rfl ?_
            refine k_iload X dX0_burn_k4.2.1.1.1 2 rfl ?_
            refine k_iconst (v := 0) X dX0_burn_k4.2.1.1.2 ic_0 ?_
            refine k_iload X dX0_burn_k4.2.1.2.1 1 rfl ?_
            refine k_iload X dX0_burn_k4.2.1.2.2 0 rfl ?_
            refine k_isub X dX0_burn_k4.2.2.1.1 ?_
            refine k_nm (fun z_37 ez_37 => ?_)
            refine k_callVV (n := 3) (As := [.int u_5, .int 0, .int z_37]) (st := []) X [(cO8_iiri al 8 1 alc aln), (cAI g alc 8 uf_6)] [(cO0_ri h0 al u_7), (cO3_vrvvvvvv hh v0hh yhn v2hh v3hh v4hh v5hh v6hh v7hh), (cO8_iiri yhn 1 6 yhnc yhnn), (cAI g yhnc 6 yhnf), (cO5_riiiiiiii nn nr xsnapped xmostSlip xslip xisDrawn xseed xtick xmotorTick xahead), (cO8_iiri nr 8 10 nrc nrn), (cAI g nrc 80 nrf)] [4, 5] [0, 1, 2, 3, 6, 7, 8] (t_put l g al u_5 0 z_37 8 1 alc aln 8 uf_6 (tbk_8_1)) dX0_burn_k4.2.2.1.2 mw1045 mw326 mw327 mw64 mw328 rfl 8 rfl rfl 0 _ rfl yk_yX8_put_3 rfl (Nat.le_of_ble_eq_true rfl) (Nat.le_of_ble_eq_true rfl) (Nat.le_of_ble_eq_true rfl) (Nat.le_of_ble_eq_true rfl) (Nat.le_of_ble_eq_true rfl) rfl rfl (vnd_e rfl) rfl (vnd_e rfl) (dsj_e rfl) ?_
            rintro w ⟨fa_38, hr_40, rfl⟩
            refine k_ws [(cO0_ri h0 al u_7), (cO3_vrvvvvvv hh v0hh yhn v2hh v3hh v4hh v5hh v6hh v7hh), (cO8_iiri yhn 1 6 yhnc yhnn), (cAI g yhnc 6 yhnf), (cO5_riiiiiiii nn nr xsnapped xmostSlip xslip xisDrawn xseed xtick xmotorTick xahead), (cO8_iiri nr 8 10 nrc nrn), (cAI g nrc 80 nrf), (cO8_iiri al 8 1 alc aln), (cAI g alc 8 fa_38)] rfl ?_
            obtain ⟨z_41, ez_41⟩ : ∃ y : Int32, u_5 + Int32.ofInt 1 = y := ⟨_, rfl⟩
            refine k_iinc z_41 [(6, .int z_41), (8, .int r_34), (7, .int r_14), (5, .int r_3), (4, .int r_1), (0, .ref h0), (1, .ref hh), (2, .ref nn), (3, .int p0)] 2 X dX0_burn_k4.2.2.2.1 rfl ez_41 (nlt_e rfl) rfl ?_
            refine k_goto 22 X dX0_burn_k4.2.2.2.2 (jp_e rfl) ?_
            refine k_lv [(6, .int z_41), (5, .int r_3), (4, .int r_1), (0, .ref h0), (1, .ref hh), (2, .ref nn), (3, .int p0)] [0, 3, 4, 5, 6, 7, 8] rfl ?_
            refine k_sub [(cO0_ri h0 al u_7), (cO8_iiri al 8 1 alc aln), (cAI g alc 8 fa_38), (cO5_riiiiiiii nn nr xsnapped xmostSlip xslip xisDrawn xseed xtick xmotorTick xahead), (cO8_iiri nr 8 10 nrc nrn), (cAI g nrc 80 nrf), (cO3_vrvvvvvv hh v0hh yhn v2hh v3hh v4hh v5hh v6hh v7hh), (cO8_iiri yhn 1 6 yhnc yhnn), (cAI g yhnc 6 yhnf)] [0, 7, 8, 4, 5, 6, 1, 2, 3] rfl (by decide) rfl ?_
            exact ih_10 _ (by rw [← hm_9]; exact mu_lt (by assumption) (by assumption)) z_41 fa_38 u_7 rfl 
          · skip
            refine k_aload_n X dX0_burn_k3.1.2.2.2 5 rfl ?_
            refine k_dup X dX0_burn_k3.2.1.1.1 rfl ?_
            refine k_get (ci := 0) X inlX0 rfl 1 (nlt_e rfl) dX0_burn_k3.2.1.1.2 mw140 0 rfl rfl ?_
            refine k_iconst (v := 1) X dX0_burn_k3.2.1.2.1 ic_1 ?_
            refine k_iload X dX0_burn_k3.2.1.2.2 2 rfl ?_
            refine k_ishl X dX0_burn_k3.2.2.1.1 ?_
            refine k_nm (fun z_42 ez_42 => ?_)
            refine k_ior X dX0_burn_k3.2.2.1.2 ?_
            refine k_nm (fun z_43 ez_43 => ?_)
            refine k_put (ci := 0) [(cO0_ri h0 al z_43), (cO3_vrvvvvvv hh v0hh yhn v2hh v3hh v4hh v5hh v6hh v7hh), (cO8_iiri yhn 1 6 yhnc yhnn), (cAI g yhnc 6 yhnf), (cO8_iiri al 8 1 alc aln), (cAI g alc 8 uf_6), (cO5_riiiiiiii nn nr xsnapped xmostSlip xslip xisDrawn xseed xtick xmotorTick xahead), (cO8_iiri nr 8 10 nrc nrn), (cAI g nrc 80 nrf)] X inlX0 rfl tyX0_ok nmX0 1 (nlt_e rfl) rfl dX0_burn_k3.2.2.2.1 mw140 0 rfl rfl rfl (Nat.le_of_ble_eq_true rfl) rfl ?_
            refine k_aload_n X dX0_burn_k3.2.2.2.2 5 rfl ?_
            refine k_get (ci := 0) X inlX0 rfl 0 (nlt_e rfl) dX0_burn_k4.1.1.1.1 mw139 0 rfl rfl ?_
            refine k_iload X dX0_burn_k4.1.1.1.2 2 rfl ?_
            refine k_iconst (v := 0) X dX0_burn_k4.1.1.2.1 ic_0 ?_
            refine k_iload X dX0_burn_k4.1.1.2.2 4 rfl ?_
            refine k_callVV (n := 3) (As := [.int u_5, .int 0, .int r_1]) (st := []) X [(cO8_iiri al 8 1 alc aln), (cAI g alc 8 uf_6)] [(cO0_ri h0 al z_43), (cO3_vrvvvvvv hh v0hh yhn v2hh v3hh v4hh v5hh v6hh v7hh), (cO8_iiri yhn 1 6 yhnc yhnn), (cAI g yhnc 6 yhnf), (cO5_riiiiiiii nn nr xsnapped xmostSlip xslip xisDrawn xseed xtick xmotorTick xahead), (cO8_iiri nr 8 10 nrc nrn), (cAI g nrc 80 nrf)] [4, 5] [0, 1, 2, 3, 6, 7, 8] (t_put l g al u_5 0 r_1 8 1 alc aln 8 uf_6 (tbk_8_1)) dX0_burn_k4.1.2.1.1 mw1045 mw326 mw327 mw64 mw328 rfl 8 rfl rfl 0 _ rfl yk_yX8_put_3 rfl (Nat.le_of_ble_eq_true rfl) (Nat.le_of_ble_eq_true rfl) (Nat.le_of_ble_eq_true rfl) (Nat.le_of_ble_eq_true rfl) (Nat.le_of_ble_eq_true rfl) rfl rfl (vnd_e rfl) rfl (vnd_e rfl) (dsj_e rfl) ?_
            rintro w ⟨fa_44, hr_46, rfl⟩
            refine k_ws [(cO0_ri h0 al z_43), (cO3_vrvvvvvv hh v0hh yhn v2hh v3hh v4hh v5hh v6hh v7hh), (cO8_iiri yhn 1 6 yhnc yhnn), (cAI g yhnc 6 yhnf), (cO5_riiiiiiii nn nr xsnapped xmostSlip xslip xisDrawn xseed xtick xmotorTick xahead), (cO8_iiri nr 8 10 nrc nrn), (cAI g nrc 80 nrf), (cO8_iiri al 8 1 alc aln), (cAI g alc 8 fa_44)] rfl ?_
            refine k_goto 148 X dX0_burn_k4.1.2.1.2 (jp_e rfl) ?_
            obtain ⟨z_47, ez_47⟩ : ∃ y : Int32, u_5 + Int32.ofInt 1 = y := ⟨_, rfl⟩
            refine k_iinc z_47 [(6, .int z_47), (8, .int r_34), (7, .int r_14), (5, .int r_3), (4, .int r_1), (0, .ref h0), (1, .ref hh), (2, .ref nn), (3, .int p0)] 2 X dX0_burn_k4.2.2.2.1 rfl ez_47 (nlt_e rfl) rfl ?_
            refine k_goto 22 X dX0_burn_k4.2.2.2.2 (jp_e rfl) ?_
            refine k_lv [(6, .int z_47), (5, .int r_3), (4, .int r_1), (0, .ref h0), (1, .ref hh), (2, .ref nn), (3, .int p0)] [0, 3, 4, 5, 6, 7, 8] rfl ?_
            refine k_sub [(cO0_ri h0 al z_43), (cO8_iiri al 8 1 alc aln), (cAI g alc 8 fa_44), (cO5_riiiiiiii nn nr xsnapped xmostSlip xslip xisDrawn xseed xtick xmotorTick xahead), (cO8_iiri nr 8 10 nrc nrn), (cAI g nrc 80 nrf), (cO3_vrvvvvvv hh v0hh yhn v2hh v3hh v4hh v5hh v6hh v7hh), (cO8_iiri yhn 1 6 yhnc yhnn), (cAI g yhnc 6 yhnf)] [0, 7, 8, 4, 5, 6, 1, 2, 3] rfl (by decide) rfl ?_
            exact ih_10 _ (by rw [← hm_9]; exact mu_lt (by assumption) (by assumption)) z_47 fa_44 z_43 rfl 
        · skip
          refine k_aload_n X dX0_burn_k2.2.1.1.2 6 rfl ?_
          refine k_iload X dX0_burn_k2.2.1.2.1 1 rfl ?_
          refine k_callVI (n := 1) (As := [.int u_5]) (st := []) X [(cO5_riiiiiiii nn nr xsnapped xmostSlip xslip xisDrawn xseed xtick xmotorTick xahead), (cO8_iiri nr 8 10 nrc nrn), (cAI g nrc 80 nrf)] [(cO0_ri h0 al u_7), (cO3_vrvvvvvv hh v0hh yhn v2hh v3hh v4hh v5hh v6hh v7hh), (cO8_iiri yhn 1 6 yhnc yhnn), (cAI g yhnc 6 yhnf), (cO8_iiri al 8 1 alc aln), (cAI g alc 8 uf_6)] [1, 2, 3] [0, 4, 5, 6, 7, 8] (n_idle l g nn u_5 nr xsnapped xmostSlip xslip xisDrawn xseed xtick xmotorTick xahead nrc nrn nrf) dX0_burn_k2.2.1.2.2 mw1040 mw1041 mw1042 mw31 mw1043 rfl 5 rfl rfl 0 _ rfl yk_yX5_idle_1 rfl (Nat.le_of_ble_eq_true rfl) (Nat.le_of_ble_eq_true rfl) (Nat.le_of_ble_eq_true rfl) (Nat.le_of_ble_eq_true rfl) (Nat.le_of_ble_eq_true rfl) rfl rfl (vnd_e rfl) rfl (vnd_e rfl) (dsj_e rfl) ?_
          rintro r_48 w rfl
          refine k_ws [(cO0_ri h0 al u_7), (cO3_vrvvvvvv hh v0hh yhn v2hh v3hh v4hh v5hh v6hh v7hh), (cO8_iiri yhn 1 6 yhnc yhnn), (cAI g yhnc 6 yhnf), (cO8_iiri al 8 1 alc aln), (cAI g alc 8 uf_6), (cO5_riiiiiiii nn nr xsnapped xmostSlip xslip xisDrawn xseed xtick xmotorTick xahead), (cO8_iiri nr 8 10 nrc nrn), (cAI g nrc 80 nrf)] rfl ?_
          refine k_iload X dX0_burn_k2.2.2.1.1 2 rfl ?_
          refine k_ic_lt 90 X dX0_burn_k2.2.2.1.2 (jp_e rfl) (fun h_50 => ?_) (fun h_50 => ?_)
          · skip
            refine k_aload_n X dX0_burn_k3.1.1.1.1 6 rfl ?_
            refine k_iload X dX0_burn_k3.1.1.1.2 1 rfl ?_
            refine k_callVI (n := 1) (As := [.int u_5]) (st := []) X [(cO5_riiiiiiii nn nr xsnapped xmostSlip xslip xisDrawn xseed xtick xmotorTick xahead), (cO8_iiri nr 8 10 nrc nrn), (cAI g nrc 80 nrf)] [(cO0_ri h0 al u_7), (cO3_vrvvvvvv hh v0hh yhn v2hh v3hh v4hh v5hh v6hh v7hh), (cO8_iiri yhn 1 6 yhnc yhnn), (cAI g yhnc 6 yhnf), (cO8_iiri al 8 1 alc aln), (cAI g alc 8 uf_6)] [6, 7, 8] [0, 1, 2, 3, 4, 5] (n_needed l g nn u_5 nr xsnapped xmostSlip xslip xisDrawn xseed xtick xmotorTick xahead nrc nrn nrf) dX0_burn_k3.1.1.2.1 mw1044 mw1015 mw1016 mw31 mw1017 rfl 5 rfl rfl 0 _ rfl yk_yX5_needed_1 rfl (Nat.le_of_ble_eq_true rfl) (Nat.le_of_ble_eq_true rfl) (Nat.le_of_ble_eq_true rfl) (Nat.le_of_ble_eq_true rfl) (Nat.le_of_ble_eq_true rfl) rfl rfl (vnd_e rfl) rfl (vnd_e rfl) (dsj_e rfl) ?_
            rintro r_51 w rfl
            refine k_ws [(cO0_ri h0 al u_7), (cO3_vrvvvvvv hh v0hh yhn v2hh v3hh v4hh v5hh v6hh v7hh), (cO8_iiri yhn 1 6 yhnc yhnn), (cAI g yhnc 6 yhnf), (cO8_iiri al 8 1 alc aln), (cAI g alc 8 uf_6), (cO5_riiiiiiii nn nr xsnapped xmostSlip xslip xisDrawn xseed xtick xmotorTick xahead), (cO8_iiri nr 8 10 nrc nrn), (cAI g nrc 80 nrf)] rfl ?_
            refine k_istore [(8, .int r_51), (7, .int r_14), (6, .int u_5), (5, .int r_3), (4, .int r_1), (0, .ref h0), (1, .ref hh), (2, .ref nn), (3, .int p0)] X dX0_burn_k3.1.1.2.2 (nlt_e rfl) rfl ?_
            refine k_iload X dX0_burn_k3.1.2.1.1 1 rfl ?_
            refine k_iload X dX0_burn_k3.1.2.1.2 0 rfl ?_
            refine k_ic_ge 133 X dX0_burn_k3.1.2.2.1 (jp_e rfl) (fun h_53 => ?_) (fun h_53 => ?_)
            · skip
              refine k_aload_n X dX0_burn_k4.1.2.2.1 5 rfl ?_
              refine k_get (ci := 0) X inlX0 rfl 0 (nlt_e rfl) dX0_burn_k4.1.2.2.2 mw139 0 rfl rfl ?_
              refine k_iload X dX0_burn_k4.2.1.1.1 2 rfl ?_
              refine k_iconst (v := 0) X dX0_burn_k4.2.1.1.2 ic_0 ?_
              refine k_iload X dX0_burn_k4.2.1.2.1 1 rfl ?_
              refine k_iload X dX0_burn_k4.2.1.2.2 0 rfl ?_
              refine k_isub X dX0_burn_k4.2.2.1.1 ?_
              refine k_nm (fun z_54 ez_54 => ?_)
              refine k_callVV (n := 3) (As := [.int u_5, .int 0, .int z_54]) (st := []) X [(cO8_iiri al 8 1 alc aln), (cAI g alc 8 uf_6)] [(cO0_ri h0 al u_7), (cO3_vrvvvvvv hh v0hh yhn v2hh v3hh v4hh v5hh v6hh v7hh), (cO8_iiri yhn 1 6 yhnc yhnn), (cAI g yhnc 6 yhnf), (cO5_riiiiiiii nn nr xsnapped xmostSlip xslip xisDrawn xseed xtick xmotorTick xahead), (cO8_iiri nr 8 10 nrc nrn), (cAI g nrc 80 nrf)] [4, 5] [0, 1, 2, 3, 6, 7, 8] (t_put l g al u_5 0 z_54 8 1 alc aln 8 uf_6 (tbk_8_1)) dX0_burn_k4.2.2.1.2 mw1045 mw326 mw327 mw64 mw328 rfl 8 rfl rfl 0 _ rfl yk_yX8_put_3 rfl (Nat.le_of_ble_eq_true rfl) (Nat.le_of_ble_eq_true rfl) (Nat.le_of_ble_eq_true rfl) (Nat.le_of_ble_eq_true rfl) (Nat.le_of_ble_eq_true rfl) rfl rfl (vnd_e rfl) rfl (vnd_e rfl) (dsj_e rfl) ?_
              rintro w ⟨fa_55, hr_57, rfl⟩
              refine k_ws [(cO0_ri h0 al u_7), (cO3_vrvvvvvv hh v0hh yhn v2hh v3hh v4hh v5hh v6hh v7hh), (cO8_iiri yhn 1 6 yhnc yhnn), (cAI g yhnc 6 yhnf), (cO5_riiiiiiii nn nr xsnapped xmostSlip xslip xisDrawn xseed xtick xmotorTick xahead), (cO8_iiri nr 8 10 nrc nrn), (cAI g nrc 80 nrf), (cO8_iiri al 8 1 alc aln), (cAI g alc 8 fa_55)] rfl ?_
              obtain ⟨z_58, ez_58⟩ : ∃ y : Int32, u_5 + Int32.ofInt 1 = y := ⟨_, rfl⟩
              refine k_iinc z_58 [(6, .int z_58), (8, .int r_51), (7, .int r_14), (5, .int r_3), (4, .int r_1), (0, .ref h0), (1, .ref hh), (2, .ref nn), (3, .int p0)] 2 X dX0_burn_k4.2.2.2.1 rfl ez_58 (nlt_e rfl) rfl ?_
              refine k_goto 22 X dX0_burn_k4.2.2.2.2 (jp_e rfl) ?_
              refine k_lv [(6, .int z_58), (5, .int r_3), (4, .int r_1), (0, .ref h0), (1, .ref hh), (2, .ref nn), (3, .int p0)] [0, 3, 4, 5, 6, 7, 8] rfl ?_
              refine k_sub [(cO0_ri h0 al u_7), (cO8_iiri al 8 1 alc aln), (cAI g alc 8 fa_55), (cO5_riiiiiiii nn nr xsnapped xmostSlip xslip xisDrawn xseed xtick xmotorTick xahead), (cO8_iiri nr 8 10 nrc nrn), (cAI g nrc 80 nrf), (cO3_vrvvvvvv hh v0hh yhn v2hh v3hh v4hh v5hh v6hh v7hh), (cO8_iiri yhn 1 6 yhnc yhnn), (cAI g yhnc 6 yhnf)] [0, 7, 8, 4, 5, 6, 1, 2, 3] rfl (by decide) rfl ?_
              exact ih_10 _ (by rw [← hm_9]; exact mu_lt (by assumption) (by assumption)) z_58 fa_55 u_7 rfl 
            · skip
              refine k_aload_n X dX0_burn_k3.1.2.2.2 5 rfl ?_
              refine k_dup X dX0_burn_k3.2.1.1.1 rfl ?_
              refine k_get (ci := 0) X inlX0 rfl 1 (nlt_e rfl) dX0_burn_k3.2.1.1.2 mw140 0 rfl rfl ?_
              refine k_iconst (v := 1) X dX0_burn_k3.2.1.2.1 ic_1 ?_
              refine k_iload X dX0_burn_k3.2.1.2.2 2 rfl ?_
              refine k_ishl X dX0_burn_k3.2.2.1.1 ?_
              refine k_nm (fun z_59 ez_59 => ?_)
              refine k_ior X dX0_burn_k3.2.2.1.2 ?_
              refine k_nm (fun z_60 ez_60 => ?_)
              refine k_put (ci := 0) [(cO0_ri h0 al z_60), (cO3_vrvvvvvv hh v0hh yhn v2hh v3hh v4hh v5hh v6hh v7hh), (cO8_iiri yhn 1 6 yhnc yhnn), (cAI g yhnc 6 yhnf), (cO8_iiri al 8 1 alc aln), (cAI g alc 8 uf_6), (cO5_riiiiiiii nn nr xsnapped xmostSlip xslip xisDrawn xseed xtick xmotorTick xahead), (cO8_iiri nr 8 10 nrc nrn), (cAI g nrc 80 nrf)] X inlX0 rfl tyX0_ok nmX0 1 (nlt_e rfl) rfl dX0_burn_k3.2.2.2.1 mw140 0 rfl rfl rfl (Nat.le_of_ble_eq_true rfl) rfl ?_
              refine k_aload_n X dX0_burn_k3.2.2.2.2 5 rfl ?_
              refine k_get (ci := 0) X inlX0 rfl 0 (nlt_e rfl) dX0_burn_k4.1.1.1.1 mw139 0 rfl rfl ?_
              refine k_iload X dX0_burn_k4.1.1.1.2 2 rfl ?_
              refine k_iconst (v := 0) X dX0_burn_k4.1.1.2.1 ic_0 ?_
              refine k_iload X dX0_burn_k4.1.1.2.2 4 rfl ?_
              refine k_callVV (n := 3) (As := [.int u_5, .int 0, .int r_1]) (st := []) X [(cO8_iiri al 8 1 alc aln), (cAI g alc 8 uf_6)] [(cO0_ri h0 al z_60), (cO3_vrvvvvvv hh v0hh yhn v2hh v3hh v4hh v5hh v6hh v7hh), (cO8_iiri yhn 1 6 yhnc yhnn), (cAI g yhnc 6 yhnf), (cO5_riiiiiiii nn nr xsnapped xmostSlip xslip xisDrawn xseed xtick xmotorTick xahead), (cO8_iiri nr 8 10 nrc nrn), (cAI g nrc 80 nrf)] [4, 5] [0, 1, 2, 3, 6, 7, 8] (t_put l g al u_5 0 r_1 8 1 alc aln 8 uf_6 (tbk_8_1)) dX0_burn_k4.1.2.1.1 mw1045 mw326 mw327 mw64 mw328 rfl 8 rfl rfl 0 _ rfl yk_yX8_put_3 rfl (Nat.le_of_ble_eq_true rfl) (Nat.le_of_ble_eq_true rfl) (Nat.le_of_ble_eq_true rfl) (Nat.le_of_ble_eq_true rfl) (Nat.le_of_ble_eq_true rfl) rfl rfl (vnd_e rfl) rfl (vnd_e rfl) (dsj_e rfl) ?_
              rintro w ⟨fa_61, hr_63, rfl⟩
              refine k_ws [(cO0_ri h0 al z_60), (cO3_vrvvvvvv hh v0hh yhn v2hh v3hh v4hh v5hh v6hh v7hh), (cO8_iiri yhn 1 6 yhnc yhnn), (cAI g yhnc 6 yhnf), (cO5_riiiiiiii nn nr xsnapped xmostSlip xslip xisDrawn xseed xtick xmotorTick xahead), (cO8_iiri nr 8 10 nrc nrn), (cAI g nrc 80 nrf), (cO8_iiri al 8 1 alc aln), (cAI g alc 8 fa_61)] rfl ?_
              refine k_goto 148 X dX0_burn_k4.1.2.1.2 (jp_e rfl) ?_
              obtain ⟨z_64, ez_64⟩ : ∃ y : Int32, u_5 + Int32.ofInt 1 = y := ⟨_, rfl⟩
              refine k_iinc z_64 [(6, .int z_64), (8, .int r_51), (7, .int r_14), (5, .int r_3), (4, .int r_1), (0, .ref h0), (1, .ref hh), (2, .ref nn), (3, .int p0)] 2 X dX0_burn_k4.2.2.2.1 rfl ez_64 (nlt_e rfl) rfl ?_
              refine k_goto 22 X dX0_burn_k4.2.2.2.2 (jp_e rfl) ?_
              refine k_lv [(6, .int z_64), (5, .int r_3), (4, .int r_1), (0, .ref h0), (1, .ref hh), (2, .ref nn), (3, .int p0)] [0, 3, 4, 5, 6, 7, 8] rfl ?_
              refine k_sub [(cO0_ri h0 al z_60), (cO8_iiri al 8 1 alc aln), (cAI g alc 8 fa_61), (cO5_riiiiiiii nn nr xsnapped xmostSlip xslip xisDrawn xseed xtick xmotorTick xahead), (cO8_iiri nr 8 10 nrc nrn), (cAI g nrc 80 nrf), (cO3_vrvvvvvv hh v0hh yhn v2hh v3hh v4hh v5hh v6hh v7hh), (cO8_iiri yhn 1 6 yhnc yhnn), (cAI g yhnc 6 yhnf)] [0, 7, 8, 4, 5, 6, 1, 2, 3] rfl (by decide) rfl ?_
              exact ih_10 _ (by rw [← hm_9]; exact mu_lt (by assumption) (by assumption)) z_64 fa_61 z_60 rfl 
          · skip
            refine k_iload X dX0_burn_k2.2.2.2.1 3 rfl ?_
            refine k_istore [(7, .int r_1), (6, .int u_5), (5, .int r_3), (4, .int r_1), (0, .ref h0), (1, .ref hh), (2, .ref nn), (3, .int p0)] X dX0_burn_k2.2.2.2.2 (nlt_e rfl) rfl ?_
            refine k_aload_n X dX0_burn_k3.1.1.1.1 6 rfl ?_
            refine k_iload X dX0_burn_k3.1.1.1.2 1 rfl ?_
            refine k_callVI (n := 1) (As := [.int u_5]) (st := []) X [(cO5_riiiiiiii nn nr xsnapped xmostSlip xslip xisDrawn xseed xtick xmotorTick xahead), (cO8_iiri nr 8 10 nrc nrn), (cAI g nrc 80 nrf)] [(cO0_ri h0 al u_7), (cO3_vrvvvvvv hh v0hh yhn v2hh v3hh v4hh v5hh v6hh v7hh), (cO8_iiri yhn 1 6 yhnc yhnn), (cAI g yhnc 6 yhnf), (cO8_iiri al 8 1 alc aln), (cAI g alc 8 uf_6)] [6, 7, 8] [0, 1, 2, 3, 4, 5] (n_needed l g nn u_5 nr xsnapped xmostSlip xslip xisDrawn xseed xtick xmotorTick xahead nrc nrn nrf) dX0_burn_k3.1.1.2.1 mw1044 mw1015 mw1016 mw31 mw1017 rfl 5 rfl rfl 0 _ rfl yk_yX5_needed_1 rfl (Nat.le_of_ble_eq_true rfl) (Nat.le_of_ble_eq_true rfl) (Nat.le_of_ble_eq_true rfl) (Nat.le_of_ble_eq_true rfl) (Nat.le_of_ble_eq_true rfl) rfl rfl (vnd_e rfl) rfl (vnd_e rfl) (dsj_e rfl) ?_
            rintro r_65 w rfl
            refine k_ws [(cO0_ri h0 al u_7), (cO3_vrvvvvvv hh v0hh yhn v2hh v3hh v4hh v5hh v6hh v7hh), (cO8_iiri yhn 1 6 yhnc yhnn), (cAI g yhnc 6 yhnf), (cO8_iiri al 8 1 alc aln), (cAI g alc 8 uf_6), (cO5_riiiiiiii nn nr xsnapped xmostSlip xslip xisDrawn xseed xtick xmotorTick xahead), (cO8_iiri nr 8 10 nrc nrn), (cAI g nrc 80 nrf)] rfl ?_
            refine k_istore [(8, .int r_65), (7, .int r_1), (6, .int u_5), (5, .int r_3), (4, .int r_1), (0, .ref h0), (1, .ref hh), (2, .ref nn), (3, .int p0)] X dX0_burn_k3.1.1.2.2 (nlt_e rfl) rfl ?_
            refine k_iload X dX0_burn_k3.1.2.1.1 1 rfl ?_
            refine k_iload X dX0_burn_k3.1.2.1.2 0 rfl ?_
            refine k_ic_ge 133 X dX0_burn_k3.1.2.2.1 (jp_e rfl) (fun h_67 => ?_) (fun h_67 => ?_)
            · skip
              refine k_aload_n X dX0_burn_k4.1.2.2.1 5 rfl ?_
              refine k_get (ci := 0) X inlX0 rfl 0 (nlt_e rfl) dX0_burn_k4.1.2.2.2 mw139 0 rfl rfl ?_
              refine k_iload X dX0_burn_k4.2.1.1.1 2 rfl ?_
              refine k_iconst (v := 0) X dX0_burn_k4.2.1.1.2 ic_0 ?_
              refine k_iload X dX0_burn_k4.2.1.2.1 1 rfl ?_
              refine k_iload X dX0_burn_k4.2.1.2.2 0 rfl ?_
              refine k_isub X dX0_burn_k4.2.2.1.1 ?_
              refine k_nm (fun z_68 ez_68 => ?_)
              refine k_callVV (n := 3) (As := [.int u_5, .int 0, .int z_68]) (st := []) X [(cO8_iiri al 8 1 alc aln), (cAI g alc 8 uf_6)] [(cO0_ri h0 al u_7), (cO3_vrvvvvvv hh v0hh yhn v2hh v3hh v4hh v5hh v6hh v7hh), (cO8_iiri yhn 1 6 yhnc yhnn), (cAI g yhnc 6 yhnf), (cO5_riiiiiiii nn nr xsnapped xmostSlip xslip xisDrawn xseed xtick xmotorTick xahead), (cO8_iiri nr 8 10 nrc nrn), (cAI g nrc 80 nrf)] [4, 5] [0, 1, 2, 3, 6, 7, 8] (t_put l g al u_5 0 z_68 8 1 alc aln 8 uf_6 (tbk_8_1)) dX0_burn_k4.2.2.1.2 mw1045 mw326 mw327 mw64 mw328 rfl 8 rfl rfl 0 _ rfl yk_yX8_put_3 rfl (Nat.le_of_ble_eq_true rfl) (Nat.le_of_ble_eq_true rfl) (Nat.le_of_ble_eq_true rfl) (Nat.le_of_ble_eq_true rfl) (Nat.le_of_ble_eq_true rfl) rfl rfl (vnd_e rfl) rfl (vnd_e rfl) (dsj_e rfl) ?_
              rintro w ⟨fa_69, hr_71, rfl⟩
              refine k_ws [(cO0_ri h0 al u_7), (cO3_vrvvvvvv hh v0hh yhn v2hh v3hh v4hh v5hh v6hh v7hh), (cO8_iiri yhn 1 6 yhnc yhnn), (cAI g yhnc 6 yhnf), (cO5_riiiiiiii nn nr xsnapped xmostSlip xslip xisDrawn xseed xtick xmotorTick xahead), (cO8_iiri nr 8 10 nrc nrn), (cAI g nrc 80 nrf), (cO8_iiri al 8 1 alc aln), (cAI g alc 8 fa_69)] rfl ?_
              obtain ⟨z_72, ez_72⟩ : ∃ y : Int32, u_5 + Int32.ofInt 1 = y := ⟨_, rfl⟩
              refine k_iinc z_72 [(6, .int z_72), (8, .int r_65), (7, .int r_1), (5, .int r_3), (4, .int r_1), (0, .ref h0), (1, .ref hh), (2, .ref nn), (3, .int p0)] 2 X dX0_burn_k4.2.2.2.1 rfl ez_72 (nlt_e rfl) rfl ?_
              refine k_goto 22 X dX0_burn_k4.2.2.2.2 (jp_e rfl) ?_
              refine k_lv [(6, .int z_72), (5, .int r_3), (4, .int r_1), (0, .ref h0), (1, .ref hh), (2, .ref nn), (3, .int p0)] [0, 3, 4, 5, 6, 7, 8] rfl ?_
              refine k_sub [(cO0_ri h0 al u_7), (cO8_iiri al 8 1 alc aln), (cAI g alc 8 fa_69), (cO5_riiiiiiii nn nr xsnapped xmostSlip xslip xisDrawn xseed xtick xmotorTick xahead), (cO8_iiri nr 8 10 nrc nrn), (cAI g nrc 80 nrf), (cO3_vrvvvvvv hh v0hh yhn v2hh v3hh v4hh v5hh v6hh v7hh), (cO8_iiri yhn 1 6 yhnc yhnn), (cAI g yhnc 6 yhnf)] [0, 7, 8, 4, 5, 6, 1, 2, 3] rfl (by decide) rfl ?_
              exact ih_10 _ (by rw [← hm_9]; exact mu_lt (by assumption) (by assumption)) z_72 fa_69 u_7 rfl 
            · skip
              refine k_aload_n X dX0_burn_k3.1.2.2.2 5 rfl ?_
              refine k_dup X dX0_burn_k3.2.1.1.1 rfl ?_
              refine k_get (ci := 0) X inlX0 rfl 1 (nlt_e rfl) dX0_burn_k3.2.1.1.2 mw140 0 rfl rfl ?_
              refine k_iconst (v := 1) X dX0_burn_k3.2.1.2.1 ic_1 ?_
              refine k_iload X dX0_burn_k3.2.1.2.2 2 rfl ?_
              refine k_ishl X dX0_burn_k3.2.2.1.1 ?_
              refine k_nm (fun z_73 ez_73 => ?_)
              refine k_ior X dX0_burn_k3.2.2.1.2 ?_
              refine k_nm (fun z_74 ez_74 => ?_)
              refine k_put (ci := 0) [(cO0_ri h0 al z_74), (cO3_vrvvvvvv hh v0hh yhn v2hh v3hh v4hh v5hh v6hh v7hh), (cO8_iiri yhn 1 6 yhnc yhnn), (cAI g yhnc 6 yhnf), (cO8_iiri al 8 1 alc aln), (cAI g alc 8 uf_6), (cO5_riiiiiiii nn nr xsnapped xmostSlip xslip xisDrawn xseed xtick xmotorTick xahead), (cO8_iiri nr 8 10 nrc nrn), (cAI g nrc 80 nrf)] X inlX0 rfl tyX0_ok nmX0 1 (nlt_e rfl) rfl dX0_burn_k3.2.2.2.1 mw140 0 rfl rfl rfl (Nat.le_of_ble_eq_true rfl) rfl ?_
              refine k_aload_n X dX0_burn_k3.2.2.2.2 5 rfl ?_
              refine k_get (ci := 0) X inlX0 rfl 0 (nlt_e rfl) dX0_burn_k4.1.1.1.1 mw139 0 rfl rfl ?_
              refine k_iload X dX0_burn_k4.1.1.1.2 2 rfl ?_
              refine k_iconst (v := 0) X dX0_burn_k4.1.1.2.1 ic_0 ?_
              refine k_iload X dX0_burn_k4.1.1.2.2 4 rfl ?_
              refine k_callVV (n := 3) (As := [.int u_5, .int 0, .int r_1]) (st := []) X [(cO8_iiri al 8 1 alc aln), (cAI g alc 8 uf_6)] [(cO0_ri h0 al z_74), (cO3_vrvvvvvv hh v0hh yhn v2hh v3hh v4hh v5hh v6hh v7hh), (cO8_iiri yhn 1 6 yhnc yhnn), (cAI g yhnc 6 yhnf), (cO5_riiiiiiii nn nr xsnapped xmostSlip xslip xisDrawn xseed xtick xmotorTick xahead), (cO8_iiri nr 8 10 nrc nrn), (cAI g nrc 80 nrf)] [4, 5] [0, 1, 2, 3, 6, 7, 8] (t_put l g al u_5 0 r_1 8 1 alc aln 8 uf_6 (tbk_8_1)) dX0_burn_k4.1.2.1.1 mw1045 mw326 mw327 mw64 mw328 rfl 8 rfl rfl 0 _ rfl yk_yX8_put_3 rfl (Nat.le_of_ble_eq_true rfl) (Nat.le_of_ble_eq_true rfl) (Nat.le_of_ble_eq_true rfl) (Nat.le_of_ble_eq_true rfl) (Nat.le_of_ble_eq_true rfl) rfl rfl (vnd_e rfl) rfl (vnd_e rfl) (dsj_e rfl) ?_
              rintro w ⟨fa_75, hr_77, rfl⟩
              refine k_ws [(cO0_ri h0 al z_74), (cO3_vrvvvvvv hh v0hh yhn v2hh v3hh v4hh v5hh v6hh v7hh), (cO8_iiri yhn 1 6 yhnc yhnn), (cAI g yhnc 6 yhnf), (cO5_riiiiiiii nn nr xsnapped xmostSlip xslip xisDrawn xseed xtick xmotorTick xahead), (cO8_iiri nr 8 10 nrc nrn), (cAI g nrc 80 nrf), (cO8_iiri al 8 1 alc aln), (cAI g alc 8 fa_75)] rfl ?_
              refine k_goto 148 X dX0_burn_k4.1.2.1.2 (jp_e rfl) ?_
              obtain ⟨z_78, ez_78⟩ : ∃ y : Int32, u_5 + Int32.ofInt 1 = y := ⟨_, rfl⟩
              refine k_iinc z_78 [(6, .int z_78), (8, .int r_65), (7, .int r_1), (5, .int r_3), (4, .int r_1), (0, .ref h0), (1, .ref hh), (2, .ref nn), (3, .int p0)] 2 X dX0_burn_k4.2.2.2.1 rfl ez_78 (nlt_e rfl) rfl ?_
              refine k_goto 22 X dX0_burn_k4.2.2.2.2 (jp_e rfl) ?_
              refine k_lv [(6, .int z_78), (5, .int r_3), (4, .int r_1), (0, .ref h0), (1, .ref hh), (2, .ref nn), (3, .int p0)] [0, 3, 4, 5, 6, 7, 8] rfl ?_
              refine k_sub [(cO0_ri h0 al z_74), (cO8_iiri al 8 1 alc aln), (cAI g alc 8 fa_75), (cO5_riiiiiiii nn nr xsnapped xmostSlip xslip xisDrawn xseed xtick xmotorTick xahead), (cO8_iiri nr 8 10 nrc nrn), (cAI g nrc 80 nrf), (cO3_vrvvvvvv hh v0hh yhn v2hh v3hh v4hh v5hh v6hh v7hh), (cO8_iiri yhn 1 6 yhnc yhnn), (cAI g yhnc 6 yhnf)] [0, 7, 8, 4, 5, 6, 1, 2, 3] rfl (by decide) rfl ?_
              exact ih_10 _ (by rw [← hm_9]; exact mu_lt (by assumption) (by assumption)) z_78 fa_75 z_74 rfl 
    · skip
      refine k_iload X dX0_burn_k1.1.2.1.2 2 rfl ?_
      refine k_goto 57 X dX0_burn_k1.1.2.2.1 (jp_e rfl) ?_
      refine k_istore [(7, .int r_1), (6, .int u_5), (5, .int r_3), (4, .int r_1), (0, .ref h0), (1, .ref hh), (2, .ref nn), (3, .int p0)] X dX0_burn_k1.2.2.2.1 (nlt_e rfl) rfl ?_
      refine k_iload_n X dX0_burn_k1.2.2.2.2 7 rfl ?_
      refine k_iload X dX0_burn_k2.1.1.1.1 1 rfl ?_
      refine k_ishr X dX0_burn_k2.1.1.1.2 ?_
      refine k_nm (fun z_79 ez_79 => ?_)
      refine k_iconst (v := 1) X dX0_burn_k2.1.1.2.1 ic_1 ?_
      refine k_iand X dX0_burn_k2.1.1.2.2 ?_
      refine k_nm (fun z_80 ez_80 => ?_)
      refine k_iconst (v := 1) X dX0_burn_k2.1.2.1.1 ic_1 ?_
      refine k_ic_ne 90 X dX0_burn_k2.1.2.1.2 (jp_e rfl) (fun h_81 => ?_) (fun h_81 => ?_)
      · skip
        refine k_aload_n X dX0_burn_k3.1.1.1.1 6 rfl ?_
        refine k_iload X dX0_burn_k3.1.1.1.2 1 rfl ?_
        refine k_callVI (n := 1) (As := [.int u_5]) (st := []) X [(cO5_riiiiiiii nn nr xsnapped xmostSlip xslip xisDrawn xseed xtick xmotorTick xahead), (cO8_iiri nr 8 10 nrc nrn), (cAI g nrc 80 nrf)] [(cO0_ri h0 al u_7), (cO8_iiri al 8 1 alc aln), (cAI g alc 8 uf_6), (cO3_vrvvvvvv hh v0hh yhn v2hh v3hh v4hh v5hh v6hh v7hh), (cO8_iiri yhn 1 6 yhnc yhnn), (cAI g yhnc 6 yhnf)] [3, 4, 5] [0, 1, 2, 6, 7, 8] (n_needed l g nn u_5 nr xsnapped xmostSlip xslip xisDrawn xseed xtick xmotorTick xahead nrc nrn nrf) dX0_burn_k3.1.1.2.1 mw1044 mw1015 mw1016 mw31 mw1017 rfl 5 rfl rfl 0 _ rfl yk_yX5_needed_1 rfl (Nat.le_of_ble_eq_true rfl) (Nat.le_of_ble_eq_true rfl) (Nat.le_of_ble_eq_true rfl) (Nat.le_of_ble_eq_true rfl) (Nat.le_of_ble_eq_true rfl) rfl rfl (vnd_e rfl) rfl (vnd_e rfl) (dsj_e rfl) ?_
        rintro r_82 w rfl
        refine k_ws [(cO0_ri h0 al u_7), (cO8_iiri al 8 1 alc aln), (cAI g alc 8 uf_6), (cO3_vrvvvvvv hh v0hh yhn v2hh v3hh v4hh v5hh v6hh v7hh), (cO8_iiri yhn 1 6 yhnc yhnn), (cAI g yhnc 6 yhnf), (cO5_riiiiiiii nn nr xsnapped xmostSlip xslip xisDrawn xseed xtick xmotorTick xahead), (cO8_iiri nr 8 10 nrc nrn), (cAI g nrc 80 nrf)] rfl ?_
        refine k_istore [(8, .int r_82), (7, .int r_1), (6, .int u_5), (5, .int r_3), (4, .int r_1), (0, .ref h0), (1, .ref hh), (2, .ref nn), (3, .int p0)] X dX0_burn_k3.1.1.2.2 (nlt_e rfl) rfl ?_
        refine k_iload X dX0_burn_k3.1.2.1.1 1 rfl ?_
        refine k_iload X dX0_burn_k3.1.2.1.2 0 rfl ?_
        refine k_ic_ge 133 X dX0_burn_k3.1.2.2.1 (jp_e rfl) (fun h_84 => ?_) (fun h_84 => ?_)
        · skip
          refine k_aload_n X dX0_burn_k4.1.2.2.1 5 rfl ?_
          refine k_get (ci := 0) X inlX0 rfl 0 (nlt_e rfl) dX0_burn_k4.1.2.2.2 mw139 0 rfl rfl ?_
          refine k_iload X dX0_burn_k4.2.1.1.1 2 rfl ?_
          refine k_iconst (v := 0) X dX0_burn_k4.2.1.1.2 ic_0 ?_
          refine k_iload X dX0_burn_k4.2.1.2.1 1 rfl ?_
          refine k_iload X dX0_burn_k4.2.1.2.2 0 rfl ?_
          refine k_isub X dX0_burn_k4.2.2.1.1 ?_
          refine k_nm (fun z_85 ez_85 => ?_)
          refine k_callVV (n := 3) (As := [.int u_5, .int 0, .int z_85]) (st := []) X [(cO8_iiri al 8 1 alc aln), (cAI g alc 8 uf_6)] [(cO0_ri h0 al u_7), (cO3_vrvvvvvv hh v0hh yhn v2hh v3hh v4hh v5hh v6hh v7hh), (cO8_iiri yhn 1 6 yhnc yhnn), (cAI g yhnc 6 yhnf), (cO5_riiiiiiii nn nr xsnapped xmostSlip xslip xisDrawn xseed xtick xmotorTick xahead), (cO8_iiri nr 8 10 nrc nrn), (cAI g nrc 80 nrf)] [1, 2] [0, 3, 4, 5, 6, 7, 8] (t_put l g al u_5 0 z_85 8 1 alc aln 8 uf_6 (tbk_8_1)) dX0_burn_k4.2.2.1.2 mw1045 mw326 mw327 mw64 mw328 rfl 8 rfl rfl 0 _ rfl yk_yX8_put_3 rfl (Nat.le_of_ble_eq_true rfl) (Nat.le_of_ble_eq_true rfl) (Nat.le_of_ble_eq_true rfl) (Nat.le_of_ble_eq_true rfl) (Nat.le_of_ble_eq_true rfl) rfl rfl (vnd_e rfl) rfl (vnd_e rfl) (dsj_e rfl) ?_
          rintro w ⟨fa_86, hr_88, rfl⟩
          refine k_ws [(cO0_ri h0 al u_7), (cO3_vrvvvvvv hh v0hh yhn v2hh v3hh v4hh v5hh v6hh v7hh), (cO8_iiri yhn 1 6 yhnc yhnn), (cAI g yhnc 6 yhnf), (cO5_riiiiiiii nn nr xsnapped xmostSlip xslip xisDrawn xseed xtick xmotorTick xahead), (cO8_iiri nr 8 10 nrc nrn), (cAI g nrc 80 nrf), (cO8_iiri al 8 1 alc aln), (cAI g alc 8 fa_86)] rfl ?_
          obtain ⟨z_89, ez_89⟩ : ∃ y : Int32, u_5 + Int32.ofInt 1 = y := ⟨_, rfl⟩
          refine k_iinc z_89 [(6, .int z_89), (8, .int r_82), (7, .int r_1), (5, .int r_3), (4, .int r_1), (0, .ref h0), (1, .ref hh), (2, .ref nn), (3, .int p0)] 2 X dX0_burn_k4.2.2.2.1 rfl ez_89 (nlt_e rfl) rfl ?_
          refine k_goto 22 X dX0_burn_k4.2.2.2.2 (jp_e rfl) ?_
          refine k_lv [(6, .int z_89), (5, .int r_3), (4, .int r_1), (0, .ref h0), (1, .ref hh), (2, .ref nn), (3, .int p0)] [0, 3, 4, 5, 6, 7, 8] rfl ?_
          refine k_sub [(cO0_ri h0 al u_7), (cO8_iiri al 8 1 alc aln), (cAI g alc 8 fa_86), (cO5_riiiiiiii nn nr xsnapped xmostSlip xslip xisDrawn xseed xtick xmotorTick xahead), (cO8_iiri nr 8 10 nrc nrn), (cAI g nrc 80 nrf), (cO3_vrvvvvvv hh v0hh yhn v2hh v3hh v4hh v5hh v6hh v7hh), (cO8_iiri yhn 1 6 yhnc yhnn), (cAI g yhnc 6 yhnf)] [0, 7, 8, 4, 5, 6, 1, 2, 3] rfl (by decide) rfl ?_
          exact ih_10 _ (by rw [← hm_9]; exact mu_lt (by assumption) (by assumption)) z_89 fa_86 u_7 rfl 
        · skip
          refine k_aload_n X dX0_burn_k3.1.2.2.2 5 rfl ?_
          refine k_dup X dX0_burn_k3.2.1.1.1 rfl ?_
          refine k_get (ci := 0) X inlX0 rfl 1 (nlt_e rfl) dX0_burn_k3.2.1.1.2 mw140 0 rfl rfl ?_
          refine k_iconst (v := 1) X dX0_burn_k3.2.1.2.1 ic_1 ?_
          refine k_iload X dX0_burn_k3.2.1.2.2 2 rfl ?_
          refine k_ishl X dX0_burn_k3.2.2.1.1 ?_
          refine k_nm (fun z_90 ez_90 => ?_)
          refine k_ior X dX0_burn_k3.2.2.1.2 ?_
          refine k_nm (fun z_91 ez_91 => ?_)
          refine k_put (ci := 0) [(cO0_ri h0 al z_91), (cO8_iiri al 8 1 alc aln), (cAI g alc 8 uf_6), (cO3_vrvvvvvv hh v0hh yhn v2hh v3hh v4hh v5hh v6hh v7hh), (cO8_iiri yhn 1 6 yhnc yhnn), (cAI g yhnc 6 yhnf), (cO5_riiiiiiii nn nr xsnapped xmostSlip xslip xisDrawn xseed xtick xmotorTick xahead), (cO8_iiri nr 8 10 nrc nrn), (cAI g nrc 80 nrf)] X inlX0 rfl tyX0_ok nmX0 1 (nlt_e rfl) rfl dX0_burn_k3.2.2.2.1 mw140 0 rfl rfl rfl (Nat.le_of_ble_eq_true rfl) rfl ?_
          refine k_aload_n X dX0_burn_k3.2.2.2.2 5 rfl ?_
          refine k_get (ci := 0) X inlX0 rfl 0 (nlt_e rfl) dX0_burn_k4.1.1.1.1 mw139 0 rfl rfl ?_
          refine k_iload X dX0_burn_k4.1.1.1.2 2 rfl ?_
          refine k_iconst (v := 0) X dX0_burn_k4.1.1.2.1 ic_0 ?_
          refine k_iload X dX0_burn_k4.1.1.2.2 4 rfl ?_
          refine k_callVV (n := 3) (As := [.int u_5, .int 0, .int r_1]) (st := []) X [(cO8_iiri al 8 1 alc aln), (cAI g alc 8 uf_6)] [(cO0_ri h0 al z_91), (cO3_vrvvvvvv hh v0hh yhn v2hh v3hh v4hh v5hh v6hh v7hh), (cO8_iiri yhn 1 6 yhnc yhnn), (cAI g yhnc 6 yhnf), (cO5_riiiiiiii nn nr xsnapped xmostSlip xslip xisDrawn xseed xtick xmotorTick xahead), (cO8_iiri nr 8 10 nrc nrn), (cAI g nrc 80 nrf)] [1, 2] [0, 3, 4, 5, 6, 7, 8] (t_put l g al u_5 0 r_1 8 1 alc aln 8 uf_6 (tbk_8_1)) dX0_burn_k4.1.2.1.1 mw1045 mw326 mw327 mw64 mw328 rfl 8 rfl rfl 0 _ rfl yk_yX8_put_3 rfl (Nat.le_of_ble_eq_true rfl) (Nat.le_of_ble_eq_true rfl) (Nat.le_of_ble_eq_true rfl) (Nat.le_of_ble_eq_true rfl) (Nat.le_of_ble_eq_true rfl) rfl rfl (vnd_e rfl) rfl (vnd_e rfl) (dsj_e rfl) ?_
          rintro w ⟨fa_92, hr_94, rfl⟩
          refine k_ws [(cO0_ri h0 al z_91), (cO3_vrvvvvvv hh v0hh yhn v2hh v3hh v4hh v5hh v6hh v7hh), (cO8_iiri yhn 1 6 yhnc yhnn), (cAI g yhnc 6 yhnf), (cO5_riiiiiiii nn nr xsnapped xmostSlip xslip xisDrawn xseed xtick xmotorTick xahead), (cO8_iiri nr 8 10 nrc nrn), (cAI g nrc 80 nrf), (cO8_iiri al 8 1 alc aln), (cAI g alc 8 fa_92)] rfl ?_
          refine k_goto 148 X dX0_burn_k4.1.2.1.2 (jp_e rfl) ?_
          obtain ⟨z_95, ez_95⟩ : ∃ y : Int32, u_5 + Int32.ofInt 1 = y := ⟨_, rfl⟩
          refine k_iinc z_95 [(6, .int z_95), (8, .int r_82), (7, .int r_1), (5, .int r_3), (4, .int r_1), (0, .ref h0), (1, .ref hh), (2, .ref nn), (3, .int p0)] 2 X dX0_burn_k4.2.2.2.1 rfl ez_95 (nlt_e rfl) rfl ?_
          refine k_goto 22 X dX0_burn_k4.2.2.2.2 (jp_e rfl) ?_
          refine k_lv [(6, .int z_95), (5, .int r_3), (4, .int r_1), (0, .ref h0), (1, .ref hh), (2, .ref nn), (3, .int p0)] [0, 3, 4, 5, 6, 7, 8] rfl ?_
          refine k_sub [(cO0_ri h0 al z_91), (cO8_iiri al 8 1 alc aln), (cAI g alc 8 fa_92), (cO5_riiiiiiii nn nr xsnapped xmostSlip xslip xisDrawn xseed xtick xmotorTick xahead), (cO8_iiri nr 8 10 nrc nrn), (cAI g nrc 80 nrf), (cO3_vrvvvvvv hh v0hh yhn v2hh v3hh v4hh v5hh v6hh v7hh), (cO8_iiri yhn 1 6 yhnc yhnn), (cAI g yhnc 6 yhnf)] [0, 7, 8, 4, 5, 6, 1, 2, 3] rfl (by decide) rfl ?_
          exact ih_10 _ (by rw [← hm_9]; exact mu_lt (by assumption) (by assumption)) z_95 fa_92 z_91 rfl 
      · skip
        refine k_iload X dX0_burn_k2.1.2.2.1 1 rfl ?_
        refine k_iconst (v := 2) X dX0_burn_k2.1.2.2.2 ic_2 ?_
        refine k_ic_lt 90 X dX0_burn_k2.2.1.1.1 (jp_e rfl) (fun h_96 => ?_) (fun h_96 => ?_)
        · skip
          refine k_aload_n X dX0_burn_k3.1.1.1.1 6 rfl ?_
          refine k_iload X dX0_burn_k3.1.1.1.2 1 rfl ?_
          refine k_callVI (n := 1) (As := [.int u_5]) (st := []) X [(cO5_riiiiiiii nn nr xsnapped xmostSlip xslip xisDrawn xseed xtick xmotorTick xahead), (cO8_iiri nr 8 10 nrc nrn), (cAI g nrc 80 nrf)] [(cO0_ri h0 al u_7), (cO8_iiri al 8 1 alc aln), (cAI g alc 8 uf_6), (cO3_vrvvvvvv hh v0hh yhn v2hh v3hh v4hh v5hh v6hh v7hh), (cO8_iiri yhn 1 6 yhnc yhnn), (cAI g yhnc 6 yhnf)] [3, 4, 5] [0, 1, 2, 6, 7, 8] (n_needed l g nn u_5 nr xsnapped xmostSlip xslip xisDrawn xseed xtick xmotorTick xahead nrc nrn nrf) dX0_burn_k3.1.1.2.1 mw1044 mw1015 mw1016 mw31 mw1017 rfl 5 rfl rfl 0 _ rfl yk_yX5_needed_1 rfl (Nat.le_of_ble_eq_true rfl) (Nat.le_of_ble_eq_true rfl) (Nat.le_of_ble_eq_true rfl) (Nat.le_of_ble_eq_true rfl) (Nat.le_of_ble_eq_true rfl) rfl rfl (vnd_e rfl) rfl (vnd_e rfl) (dsj_e rfl) ?_
          rintro r_97 w rfl
          refine k_ws [(cO0_ri h0 al u_7), (cO8_iiri al 8 1 alc aln), (cAI g alc 8 uf_6), (cO3_vrvvvvvv hh v0hh yhn v2hh v3hh v4hh v5hh v6hh v7hh), (cO8_iiri yhn 1 6 yhnc yhnn), (cAI g yhnc 6 yhnf), (cO5_riiiiiiii nn nr xsnapped xmostSlip xslip xisDrawn xseed xtick xmotorTick xahead), (cO8_iiri nr 8 10 nrc nrn), (cAI g nrc 80 nrf)] rfl ?_
          refine k_istore [(8, .int r_97), (7, .int r_1), (6, .int u_5), (5, .int r_3), (4, .int r_1), (0, .ref h0), (1, .ref hh), (2, .ref nn), (3, .int p0)] X dX0_burn_k3.1.1.2.2 (nlt_e rfl) rfl ?_
          refine k_iload X dX0_burn_k3.1.2.1.1 1 rfl ?_
          refine k_iload X dX0_burn_k3.1.2.1.2 0 rfl ?_
          refine k_ic_ge 133 X dX0_burn_k3.1.2.2.1 (jp_e rfl) (fun h_99 => ?_) (fun h_99 => ?_)
          · skip
            refine k_aload_n X dX0_burn_k4.1.2.2.1 5 rfl ?_
            refine k_get (ci := 0) X inlX0 rfl 0 (nlt_e rfl) dX0_burn_k4.1.2.2.2 mw139 0 rfl rfl ?_
            refine k_iload X dX0_burn_k4.2.1.1.1 2 rfl ?_
            refine k_iconst (v := 0) X dX0_burn_k4.2.1.1.2 ic_0 ?_
            refine k_iload X dX0_burn_k4.2.1.2.1 1 rfl ?_
            refine k_iload X dX0_burn_k4.2.1.2.2 0 rfl ?_
            refine k_isub X dX0_burn_k4.2.2.1.1 ?_
            refine k_nm (fun z_100 ez_100 => ?_)
            refine k_callVV (n := 3) (As := [.int u_5, .int 0, .int z_100]) (st := []) X [(cO8_iiri al 8 1 alc aln), (cAI g alc 8 uf_6)] [(cO0_ri h0 al u_7), (cO3_vrvvvvvv hh v0hh yhn v2hh v3hh v4hh v5hh v6hh v7hh), (cO8_iiri yhn 1 6 yhnc yhnn), (cAI g yhnc 6 yhnf), (cO5_riiiiiiii nn nr xsnapped xmostSlip xslip xisDrawn xseed xtick xmotorTick xahead), (cO8_iiri nr 8 10 nrc nrn), (cAI g nrc 80 nrf)] [1, 2] [0, 3, 4, 5, 6, 7, 8] (t_put l g al u_5 0 z_100 8 1 alc aln 8 uf_6 (tbk_8_1)) dX0_burn_k4.2.2.1.2 mw1045 mw326 mw327 mw64 mw328 rfl 8 rfl rfl 0 _ rfl yk_yX8_put_3 rfl (Nat.le_of_ble_eq_true rfl) (Nat.le_of_ble_eq_true rfl) (Nat.le_of_ble_eq_true rfl) (Nat.le_of_ble_eq_true rfl) (Nat.le_of_ble_eq_true rfl) rfl rfl (vnd_e rfl) rfl (vnd_e rfl) (dsj_e rfl) ?_
            rintro w ⟨fa_101, hr_103, rfl⟩
            refine k_ws [(cO0_ri h0 al u_7), (cO3_vrvvvvvv hh v0hh yhn v2hh v3hh v4hh v5hh v6hh v7hh), (cO8_iiri yhn 1 6 yhnc yhnn), (cAI g yhnc 6 yhnf), (cO5_riiiiiiii nn nr xsnapped xmostSlip xslip xisDrawn xseed xtick xmotorTick xahead), (cO8_iiri nr 8 10 nrc nrn), (cAI g nrc 80 nrf), (cO8_iiri al 8 1 alc aln), (cAI g alc 8 fa_101)] rfl ?_
            obtain ⟨z_104, ez_104⟩ : ∃ y : Int32, u_5 + Int32.ofInt 1 = y := ⟨_, rfl⟩
            refine k_iinc z_104 [(6, .int z_104), (8, .int r_97), (7, .int r_1), (5, .int r_3), (4, .int r_1), (0, .ref h0), (1, .ref hh), (2, .ref nn), (3, .int p0)] 2 X dX0_burn_k4.2.2.2.1 rfl ez_104 (nlt_e rfl) rfl ?_
            refine k_goto 22 X dX0_burn_k4.2.2.2.2 (jp_e rfl) ?_
            refine k_lv [(6, .int z_104), (5, .int r_3), (4, .int r_1), (0, .ref h0), (1, .ref hh), (2, .ref nn), (3, .int p0)] [0, 3, 4, 5, 6, 7, 8] rfl ?_
            refine k_sub [(cO0_ri h0 al u_7), (cO8_iiri al 8 1 alc aln), (cAI g alc 8 fa_101), (cO5_riiiiiiii nn nr xsnapped xmostSlip xslip xisDrawn xseed xtick xmotorTick xahead), (cO8_iiri nr 8 10 nrc nrn), (cAI g nrc 80 nrf), (cO3_vrvvvvvv hh v0hh yhn v2hh v3hh v4hh v5hh v6hh v7hh), (cO8_iiri yhn 1 6 yhnc yhnn), (cAI g yhnc 6 yhnf)] [0, 7, 8, 4, 5, 6, 1, 2, 3] rfl (by decide) rfl ?_
            exact ih_10 _ (by rw [← hm_9]; exact mu_lt (by assumption) (by assumption)) z_104 fa_101 u_7 rfl 
          · skip
            refine k_aload_n X dX0_burn_k3.1.2.2.2 5 rfl ?_
            refine k_dup X dX0_burn_k3.2.1.1.1 rfl ?_
            refine k_get (ci := 0) X inlX0 rfl 1 (nlt_e rfl) dX0_burn_k3.2.1.1.2 mw140 0 rfl rfl ?_
            refine k_iconst (v := 1) X dX0_burn_k3.2.1.2.1 ic_1 ?_
            refine k_iload X dX0_burn_k3.2.1.2.2 2 rfl ?_
            refine k_ishl X dX0_burn_k3.2.2.1.1 ?_
            refine k_nm (fun z_105 ez_105 => ?_)
            refine k_ior X dX0_burn_k3.2.2.1.2 ?_
            refine k_nm (fun z_106 ez_106 => ?_)
            refine k_put (ci := 0) [(cO0_ri h0 al z_106), (cO8_iiri al 8 1 alc aln), (cAI g alc 8 uf_6), (cO3_vrvvvvvv hh v0hh yhn v2hh v3hh v4hh v5hh v6hh v7hh), (cO8_iiri yhn 1 6 yhnc yhnn), (cAI g yhnc 6 yhnf), (cO5_riiiiiiii nn nr xsnapped xmostSlip xslip xisDrawn xseed xtick xmotorTick xahead), (cO8_iiri nr 8 10 nrc nrn), (cAI g nrc 80 nrf)] X inlX0 rfl tyX0_ok nmX0 1 (nlt_e rfl) rfl dX0_burn_k3.2.2.2.1 mw140 0 rfl rfl rfl (Nat.le_of_ble_eq_true rfl) rfl ?_
            refine k_aload_n X dX0_burn_k3.2.2.2.2 5 rfl ?_
            refine k_get (ci := 0) X inlX0 rfl 0 (nlt_e rfl) dX0_burn_k4.1.1.1.1 mw139 0 rfl rfl ?_
            refine k_iload X dX0_burn_k4.1.1.1.2 2 rfl ?_
            refine k_iconst (v := 0) X dX0_burn_k4.1.1.2.1 ic_0 ?_
            refine k_iload X dX0_burn_k4.1.1.2.2 4 rfl ?_
            refine k_callVV (n := 3) (As := [.int u_5, .int 0, .int r_1]) (st := []) X [(cO8_iiri al 8 1 alc aln), (cAI g alc 8 uf_6)] [(cO0_ri h0 al z_106), (cO3_vrvvvvvv hh v0hh yhn v2hh v3hh v4hh v5hh v6hh v7hh), (cO8_iiri yhn 1 6 yhnc yhnn), (cAI g yhnc 6 yhnf), (cO5_riiiiiiii nn nr xsnapped xmostSlip xslip xisDrawn xseed xtick xmotorTick xahead), (cO8_iiri nr 8 10 nrc nrn), (cAI g nrc 80 nrf)] [1, 2] [0, 3, 4, 5, 6, 7, 8] (t_put l g al u_5 0 r_1 8 1 alc aln 8 uf_6 (tbk_8_1)) dX0_burn_k4.1.2.1.1 mw1045 mw326 mw327 mw64 mw328 rfl 8 rfl rfl 0 _ rfl yk_yX8_put_3 rfl (Nat.le_of_ble_eq_true rfl) (Nat.le_of_ble_eq_true rfl) (Nat.le_of_ble_eq_true rfl) (Nat.le_of_ble_eq_true rfl) (Nat.le_of_ble_eq_true rfl) rfl rfl (vnd_e rfl) rfl (vnd_e rfl) (dsj_e rfl) ?_
            rintro w ⟨fa_107, hr_109, rfl⟩
            refine k_ws [(cO0_ri h0 al z_106), (cO3_vrvvvvvv hh v0hh yhn v2hh v3hh v4hh v5hh v6hh v7hh), (cO8_iiri yhn 1 6 yhnc yhnn), (cAI g yhnc 6 yhnf), (cO5_riiiiiiii nn nr xsnapped xmostSlip xslip xisDrawn xseed xtick xmotorTick xahead), (cO8_iiri nr 8 10 nrc nrn), (cAI g nrc 80 nrf), (cO8_iiri al 8 1 alc aln), (cAI g alc 8 fa_107)] rfl ?_
            refine k_goto 148 X dX0_burn_k4.1.2.1.2 (jp_e rfl) ?_
            obtain ⟨z_110, ez_110⟩ : ∃ y : Int32, u_5 + Int32.ofInt 1 = y := ⟨_, rfl⟩
            refine k_iinc z_110 [(6, .int z_110), (8, .int r_97), (7, .int r_1), (5, .int r_3), (4, .int r_1), (0, .ref h0), (1, .ref hh), (2, .ref nn), (3, .int p0)] 2 X dX0_burn_k4.2.2.2.1 rfl ez_110 (nlt_e rfl) rfl ?_
            refine k_goto 22 X dX0_burn_k4.2.2.2.2 (jp_e rfl) ?_
            refine k_lv [(6, .int z_110), (5, .int r_3), (4, .int r_1), (0, .ref h0), (1, .ref hh), (2, .ref nn), (3, .int p0)] [0, 3, 4, 5, 6, 7, 8] rfl ?_
            refine k_sub [(cO0_ri h0 al z_106), (cO8_iiri al 8 1 alc aln), (cAI g alc 8 fa_107), (cO5_riiiiiiii nn nr xsnapped xmostSlip xslip xisDrawn xseed xtick xmotorTick xahead), (cO8_iiri nr 8 10 nrc nrn), (cAI g nrc 80 nrf), (cO3_vrvvvvvv hh v0hh yhn v2hh v3hh v4hh v5hh v6hh v7hh), (cO8_iiri yhn 1 6 yhnc yhnn), (cAI g yhnc 6 yhnf)] [0, 7, 8, 4, 5, 6, 1, 2, 3] rfl (by decide) rfl ?_
            exact ih_10 _ (by rw [← hm_9]; exact mu_lt (by assumption) (by assumption)) z_110 fa_107 z_106 rfl 
        · skip
          refine k_aload_n X dX0_burn_k2.2.1.1.2 6 rfl ?_
          refine k_iload X dX0_burn_k2.2.1.2.1 1 rfl ?_
          refine k_callVI (n := 1) (As := [.int u_5]) (st := []) X [(cO5_riiiiiiii nn nr xsnapped xmostSlip xslip xisDrawn xseed xtick xmotorTick xahead), (cO8_iiri nr 8 10 nrc nrn), (cAI g nrc 80 nrf)] [(cO0_ri h0 al u_7), (cO8_iiri al 8 1 alc aln), (cAI g alc 8 uf_6), (cO3_vrvvvvvv hh v0hh yhn v2hh v3hh v4hh v5hh v6hh v7hh), (cO8_iiri yhn 1 6 yhnc yhnn), (cAI g yhnc 6 yhnf)] [3, 4, 5] [0, 1, 2, 6, 7, 8] (n_idle l g nn u_5 nr xsnapped xmostSlip xslip xisDrawn xseed xtick xmotorTick xahead nrc nrn nrf) dX0_burn_k2.2.1.2.2 mw1040 mw1041 mw1042 mw31 mw1043 rfl 5 rfl rfl 0 _ rfl yk_yX5_idle_1 rfl (Nat.le_of_ble_eq_true rfl) (Nat.le_of_ble_eq_true rfl) (Nat.le_of_ble_eq_true rfl) (Nat.le_of_ble_eq_true rfl) (Nat.le_of_ble_eq_true rfl) rfl rfl (vnd_e rfl) rfl (vnd_e rfl) (dsj_e rfl) ?_
          rintro r_111 w rfl
          refine k_ws [(cO0_ri h0 al u_7), (cO8_iiri al 8 1 alc aln), (cAI g alc 8 uf_6), (cO3_vrvvvvvv hh v0hh yhn v2hh v3hh v4hh v5hh v6hh v7hh), (cO8_iiri yhn 1 6 yhnc yhnn), (cAI g yhnc 6 yhnf), (cO5_riiiiiiii nn nr xsnapped xmostSlip xslip xisDrawn xseed xtick xmotorTick xahead), (cO8_iiri nr 8 10 nrc nrn), (cAI g nrc 80 nrf)] rfl ?_
          refine k_iload X dX0_burn_k2.2.2.1.1 2 rfl ?_
          refine k_ic_lt 90 X dX0_burn_k2.2.2.1.2 (jp_e rfl) (fun h_113 => ?_) (fun h_113 => ?_)
          · skip
            refine k_aload_n X dX0_burn_k3.1.1.1.1 6 rfl ?_
            refine k_iload X dX0_burn_k3.1.1.1.2 1 rfl ?_
            refine k_callVI (n := 1) (As := [.int u_5]) (st := []) X [(cO5_riiiiiiii nn nr xsnapped xmostSlip xslip xisDrawn xseed xtick xmotorTick xahead), (cO8_iiri nr 8 10 nrc nrn), (cAI g nrc 80 nrf)] [(cO0_ri h0 al u_7), (cO8_iiri al 8 1 alc aln), (cAI g alc 8 uf_6), (cO3_vrvvvvvv hh v0hh yhn v2hh v3hh v4hh v5hh v6hh v7hh), (cO8_iiri yhn 1 6 yhnc yhnn), (cAI g yhnc 6 yhnf)] [6, 7, 8] [0, 1, 2, 3, 4, 5] (n_needed l g nn u_5 nr xsnapped xmostSlip xslip xisDrawn xseed xtick xmotorTick xahead nrc nrn nrf) dX0_burn_k3.1.1.2.1 mw1044 mw1015 mw1016 mw31 mw1017 rfl 5 rfl rfl 0 _ rfl yk_yX5_needed_1 rfl (Nat.le_of_ble_eq_true rfl) (Nat.le_of_ble_eq_true rfl) (Nat.le_of_ble_eq_true rfl) (Nat.le_of_ble_eq_true rfl) (Nat.le_of_ble_eq_true rfl) rfl rfl (vnd_e rfl) rfl (vnd_e rfl) (dsj_e rfl) ?_
            rintro r_114 w rfl
            refine k_ws [(cO0_ri h0 al u_7), (cO8_iiri al 8 1 alc aln), (cAI g alc 8 uf_6), (cO3_vrvvvvvv hh v0hh yhn v2hh v3hh v4hh v5hh v6hh v7hh), (cO8_iiri yhn 1 6 yhnc yhnn), (cAI g yhnc 6 yhnf), (cO5_riiiiiiii nn nr xsnapped xmostSlip xslip xisDrawn xseed xtick xmotorTick xahead), (cO8_iiri nr 8 10 nrc nrn), (cAI g nrc 80 nrf)] rfl ?_
            refine k_istore [(8, .int r_114), (7, .int r_1), (6, .int u_5), (5, .int r_3), (4, .int r_1), (0, .ref h0), (1, .ref hh), (2, .ref nn), (3, .int p0)] X dX0_burn_k3.1.1.2.2 (nlt_e rfl) rfl ?_
            refine k_iload X dX0_burn_k3.1.2.1.1 1 rfl ?_
            refine k_iload X dX0_burn_k3.1.2.1.2 0 rfl ?_
            refine k_ic_ge 133 X dX0_burn_k3.1.2.2.1 (jp_e rfl) (fun h_116 => ?_) (fun h_116 => ?_)
            · skip
              refine k_aload_n X dX0_burn_k4.1.2.2.1 5 rfl ?_
              refine k_get (ci := 0) X inlX0 rfl 0 (nlt_e rfl) dX0_burn_k4.1.2.2.2 mw139 0 rfl rfl ?_
              refine k_iload X dX0_burn_k4.2.1.1.1 2 rfl ?_
              refine k_iconst (v := 0) X dX0_burn_k4.2.1.1.2 ic_0 ?_
              refine k_iload X dX0_burn_k4.2.1.2.1 1 rfl ?_
              refine k_iload X dX0_burn_k4.2.1.2.2 0 rfl ?_
              refine k_isub X dX0_burn_k4.2.2.1.1 ?_
              refine k_nm (fun z_117 ez_117 => ?_)
              refine k_callVV (n := 3) (As := [.int u_5, .int 0, .int z_117]) (st := []) X [(cO8_iiri al 8 1 alc aln), (cAI g alc 8 uf_6)] [(cO0_ri h0 al u_7), (cO3_vrvvvvvv hh v0hh yhn v2hh v3hh v4hh v5hh v6hh v7hh), (cO8_iiri yhn 1 6 yhnc yhnn), (cAI g yhnc 6 yhnf), (cO5_riiiiiiii nn nr xsnapped xmostSlip xslip xisDrawn xseed xtick xmotorTick xahead), (cO8_iiri nr 8 10 nrc nrn), (cAI g nrc 80 nrf)] [1, 2] [0, 3, 4, 5, 6, 7, 8] (t_put l g al u_5 0 z_117 8 1 alc aln 8 uf_6 (tbk_8_1)) dX0_burn_k4.2.2.1.2 mw1045 mw326 mw327 mw64 mw328 rfl 8 rfl rfl 0 _ rfl yk_yX8_put_3 rfl (Nat.le_of_ble_eq_true rfl) (Nat.le_of_ble_eq_true rfl) (Nat.le_of_ble_eq_true rfl) (Nat.le_of_ble_eq_true rfl) (Nat.le_of_ble_eq_true rfl) rfl rfl (vnd_e rfl) rfl (vnd_e rfl) (dsj_e rfl) ?_
              rintro w ⟨fa_118, hr_120, rfl⟩
              refine k_ws [(cO0_ri h0 al u_7), (cO3_vrvvvvvv hh v0hh yhn v2hh v3hh v4hh v5hh v6hh v7hh), (cO8_iiri yhn 1 6 yhnc yhnn), (cAI g yhnc 6 yhnf), (cO5_riiiiiiii nn nr xsnapped xmostSlip xslip xisDrawn xseed xtick xmotorTick xahead), (cO8_iiri nr 8 10 nrc nrn), (cAI g nrc 80 nrf), (cO8_iiri al 8 1 alc aln), (cAI g alc 8 fa_118)] rfl ?_
              obtain ⟨z_121, ez_121⟩ : ∃ y : Int32, u_5 + Int32.ofInt 1 = y := ⟨_, rfl⟩
              refine k_iinc z_121 [(6, .int z_121), (8, .int r_114), (7, .int r_1), (5, .int r_3), (4, .int r_1), (0, .ref h0), (1, .ref hh), (2, .ref nn), (3, .int p0)] 2 X dX0_burn_k4.2.2.2.1 rfl ez_121 (nlt_e rfl) rfl ?_
              refine k_goto 22 X dX0_burn_k4.2.2.2.2 (jp_e rfl) ?_
              refine k_lv [(6, .int z_121), (5, .int r_3), (4, .int r_1), (0, .ref h0), (1, .ref hh), (2, .ref nn), (3, .int p0)] [0, 3, 4, 5, 6, 7, 8] rfl ?_
              refine k_sub [(cO0_ri h0 al u_7), (cO8_iiri al 8 1 alc aln), (cAI g alc 8 fa_118), (cO5_riiiiiiii nn nr xsnapped xmostSlip xslip xisDrawn xseed xtick xmotorTick xahead), (cO8_iiri nr 8 10 nrc nrn), (cAI g nrc 80 nrf), (cO3_vrvvvvvv hh v0hh yhn v2hh v3hh v4hh v5hh v6hh v7hh), (cO8_iiri yhn 1 6 yhnc yhnn), (cAI g yhnc 6 yhnf)] [0, 7, 8, 4, 5, 6, 1, 2, 3] rfl (by decide) rfl ?_
              exact ih_10 _ (by rw [← hm_9]; exact mu_lt (by assumption) (by assumption)) z_121 fa_118 u_7 rfl 
            · skip
              refine k_aload_n X dX0_burn_k3.1.2.2.2 5 rfl ?_
              refine k_dup X dX0_burn_k3.2.1.1.1 rfl ?_
              refine k_get (ci := 0) X inlX0 rfl 1 (nlt_e rfl) dX0_burn_k3.2.1.1.2 mw140 0 rfl rfl ?_
              refine k_iconst (v := 1) X dX0_burn_k3.2.1.2.1 ic_1 ?_
              refine k_iload X dX0_burn_k3.2.1.2.2 2 rfl ?_
              refine k_ishl X dX0_burn_k3.2.2.1.1 ?_
              refine k_nm (fun z_122 ez_122 => ?_)
              refine k_ior X dX0_burn_k3.2.2.1.2 ?_
              refine k_nm (fun z_123 ez_123 => ?_)
              refine k_put (ci := 0) [(cO0_ri h0 al z_123), (cO8_iiri al 8 1 alc aln), (cAI g alc 8 uf_6), (cO3_vrvvvvvv hh v0hh yhn v2hh v3hh v4hh v5hh v6hh v7hh), (cO8_iiri yhn 1 6 yhnc yhnn), (cAI g yhnc 6 yhnf), (cO5_riiiiiiii nn nr xsnapped xmostSlip xslip xisDrawn xseed xtick xmotorTick xahead), (cO8_iiri nr 8 10 nrc nrn), (cAI g nrc 80 nrf)] X inlX0 rfl tyX0_ok nmX0 1 (nlt_e rfl) rfl dX0_burn_k3.2.2.2.1 mw140 0 rfl rfl rfl (Nat.le_of_ble_eq_true rfl) rfl ?_
              refine k_aload_n X dX0_burn_k3.2.2.2.2 5 rfl ?_
              refine k_get (ci := 0) X inlX0 rfl 0 (nlt_e rfl) dX0_burn_k4.1.1.1.1 mw139 0 rfl rfl ?_
              refine k_iload X dX0_burn_k4.1.1.1.2 2 rfl ?_
              refine k_iconst (v := 0) X dX0_burn_k4.1.1.2.1 ic_0 ?_
              refine k_iload X dX0_burn_k4.1.1.2.2 4 rfl ?_
              refine k_callVV (n := 3) (As := [.int u_5, .int 0, .int r_1]) (st := []) X [(cO8_iiri al 8 1 alc aln), (cAI g alc 8 uf_6)] [(cO0_ri h0 al z_123), (cO3_vrvvvvvv hh v0hh yhn v2hh v3hh v4hh v5hh v6hh v7hh), (cO8_iiri yhn 1 6 yhnc yhnn), (cAI g yhnc 6 yhnf), (cO5_riiiiiiii nn nr xsnapped xmostSlip xslip xisDrawn xseed xtick xmotorTick xahead), (cO8_iiri nr 8 10 nrc nrn), (cAI g nrc 80 nrf)] [1, 2] [0, 3, 4, 5, 6, 7, 8] (t_put l g al u_5 0 r_1 8 1 alc aln 8 uf_6 (tbk_8_1)) dX0_burn_k4.1.2.1.1 mw1045 mw326 mw327 mw64 mw328 rfl 8 rfl rfl 0 _ rfl yk_yX8_put_3 rfl (Nat.le_of_ble_eq_true rfl) (Nat.le_of_ble_eq_true rfl) (Nat.le_of_ble_eq_true rfl) (Nat.le_of_ble_eq_true rfl) (Nat.le_of_ble_eq_true rfl) rfl rfl (vnd_e rfl) rfl (vnd_e rfl) (dsj_e rfl) ?_
              rintro w ⟨fa_124, hr_126, rfl⟩
              refine k_ws [(cO0_ri h0 al z_123), (cO3_vrvvvvvv hh v0hh yhn v2hh v3hh v4hh v5hh v6hh v7hh), (cO8_iiri yhn 1 6 yhnc yhnn), (cAI g yhnc 6 yhnf), (cO5_riiiiiiii nn nr xsnapped xmostSlip xslip xisDrawn xseed xtick xmotorTick xahead), (cO8_iiri nr 8 10 nrc nrn), (cAI g nrc 80 nrf), (cO8_iiri al 8 1 alc aln), (cAI g alc 8 fa_124)] rfl ?_
              refine k_goto 148 X dX0_burn_k4.1.2.1.2 (jp_e rfl) ?_
              obtain ⟨z_127, ez_127⟩ : ∃ y : Int32, u_5 + Int32.ofInt 1 = y := ⟨_, rfl⟩
              refine k_iinc z_127 [(6, .int z_127), (8, .int r_114), (7, .int r_1), (5, .int r_3), (4, .int r_1), (0, .ref h0), (1, .ref hh), (2, .ref nn), (3, .int p0)] 2 X dX0_burn_k4.2.2.2.1 rfl ez_127 (nlt_e rfl) rfl ?_
              refine k_goto 22 X dX0_burn_k4.2.2.2.2 (jp_e rfl) ?_
              refine k_lv [(6, .int z_127), (5, .int r_3), (4, .int r_1), (0, .ref h0), (1, .ref hh), (2, .ref nn), (3, .int p0)] [0, 3, 4, 5, 6, 7, 8] rfl ?_
              refine k_sub [(cO0_ri h0 al z_123), (cO8_iiri al 8 1 alc aln), (cAI g alc 8 fa_124), (cO5_riiiiiiii nn nr xsnapped xmostSlip xslip xisDrawn xseed xtick xmotorTick xahead), (cO8_iiri nr 8 10 nrc nrn), (cAI g nrc 80 nrf), (cO3_vrvvvvvv hh v0hh yhn v2hh v3hh v4hh v5hh v6hh v7hh), (cO8_iiri yhn 1 6 yhnc yhnn), (cAI g yhnc 6 yhnf)] [0, 7, 8, 4, 5, 6, 1, 2, 3] rfl (by decide) rfl ?_
              exact ih_10 _ (by rw [← hm_9]; exact mu_lt (by assumption) (by assumption)) z_127 fa_124 z_123 rfl 
          · skip
            refine k_iload X dX0_burn_k2.2.2.2.1 3 rfl ?_
            refine k_istore [(7, .int r_1), (6, .int u_5), (5, .int r_3), (4, .int r_1), (0, .ref h0), (1, .ref hh), (2, .ref nn), (3, .int p0)] X dX0_burn_k2.2.2.2.2 (nlt_e rfl) rfl ?_
            refine k_aload_n X dX0_burn_k3.1.1.1.1 6 rfl ?_
            refine k_iload X dX0_burn_k3.1.1.1.2 1 rfl ?_
            refine k_callVI (n := 1) (As := [.int u_5]) (st := []) X [(cO5_riiiiiiii nn nr xsnapped xmostSlip xslip xisDrawn xseed xtick xmotorTick xahead), (cO8_iiri nr 8 10 nrc nrn), (cAI g nrc 80 nrf)] [(cO0_ri h0 al u_7), (cO8_iiri al 8 1 alc aln), (cAI g alc 8 uf_6), (cO3_vrvvvvvv hh v0hh yhn v2hh v3hh v4hh v5hh v6hh v7hh), (cO8_iiri yhn 1 6 yhnc yhnn), (cAI g yhnc 6 yhnf)] [6, 7, 8] [0, 1, 2, 3, 4, 5] (n_needed l g nn u_5 nr xsnapped xmostSlip xslip xisDrawn xseed xtick xmotorTick xahead nrc nrn nrf) dX0_burn_k3.1.1.2.1 mw1044 mw1015 mw1016 mw31 mw1017 rfl 5 rfl rfl 0 _ rfl yk_yX5_needed_1 rfl (Nat.le_of_ble_eq_true rfl) (Nat.le_of_ble_eq_true rfl) (Nat.le_of_ble_eq_true rfl) (Nat.le_of_ble_eq_true rfl) (Nat.le_of_ble_eq_true rfl) rfl rfl (vnd_e rfl) rfl (vnd_e rfl) (dsj_e rfl) ?_
            rintro r_128 w rfl
            refine k_ws [(cO0_ri h0 al u_7), (cO8_iiri al 8 1 alc aln), (cAI g alc 8 uf_6), (cO3_vrvvvvvv hh v0hh yhn v2hh v3hh v4hh v5hh v6hh v7hh), (cO8_iiri yhn 1 6 yhnc yhnn), (cAI g yhnc 6 yhnf), (cO5_riiiiiiii nn nr xsnapped xmostSlip xslip xisDrawn xseed xtick xmotorTick xahead), (cO8_iiri nr 8 10 nrc nrn), (cAI g nrc 80 nrf)] rfl ?_
            refine k_istore [(8, .int r_128), (7, .int r_1), (6, .int u_5), (5, .int r_3), (4, .int r_1), (0, .ref h0), (1, .ref hh), (2, .ref nn), (3, .int p0)] X dX0_burn_k3.1.1.2.2 (nlt_e rfl) rfl ?_
            refine k_iload X dX0_burn_k3.1.2.1.1 1 rfl ?_
            refine k_iload X dX0_burn_k3.1.2.1.2 0 rfl ?_
            refine k_ic_ge 133 X dX0_burn_k3.1.2.2.1 (jp_e rfl) (fun h_130 => ?_) (fun h_130 => ?_)
            · skip
              refine k_aload_n X dX0_burn_k4.1.2.2.1 5 rfl ?_
              refine k_get (ci := 0) X inlX0 rfl 0 (nlt_e rfl) dX0_burn_k4.1.2.2.2 mw139 0 rfl rfl ?_
              refine k_iload X dX0_burn_k4.2.1.1.1 2 rfl ?_
              refine k_iconst (v := 0) X dX0_burn_k4.2.1.1.2 ic_0 ?_
              refine k_iload X dX0_burn_k4.2.1.2.1 1 rfl ?_
              refine k_iload X dX0_burn_k4.2.1.2.2 0 rfl ?_
              refine k_isub X dX0_burn_k4.2.2.1.1 ?_
              refine k_nm (fun z_131 ez_131 => ?_)
              refine k_callVV (n := 3) (As := [.int u_5, .int 0, .int z_131]) (st := []) X [(cO8_iiri al 8 1 alc aln), (cAI g alc 8 uf_6)] [(cO0_ri h0 al u_7), (cO3_vrvvvvvv hh v0hh yhn v2hh v3hh v4hh v5hh v6hh v7hh), (cO8_iiri yhn 1 6 yhnc yhnn), (cAI g yhnc 6 yhnf), (cO5_riiiiiiii nn nr xsnapped xmostSlip xslip xisDrawn xseed xtick xmotorTick xahead), (cO8_iiri nr 8 10 nrc nrn), (cAI g nrc 80 nrf)] [1, 2] [0, 3, 4, 5, 6, 7, 8] (t_put l g al u_5 0 z_131 8 1 alc aln 8 uf_6 (tbk_8_1)) dX0_burn_k4.2.2.1.2 mw1045 mw326 mw327 mw64 mw328 rfl 8 rfl rfl 0 _ rfl yk_yX8_put_3 rfl (Nat.le_of_ble_eq_true rfl) (Nat.le_of_ble_eq_true rfl) (Nat.le_of_ble_eq_true rfl) (Nat.le_of_ble_eq_true rfl) (Nat.le_of_ble_eq_true rfl) rfl rfl (vnd_e rfl) rfl (vnd_e rfl) (dsj_e rfl) ?_
              rintro w ⟨fa_132, hr_134, rfl⟩
              refine k_ws [(cO0_ri h0 al u_7), (cO3_vrvvvvvv hh v0hh yhn v2hh v3hh v4hh v5hh v6hh v7hh), (cO8_iiri yhn 1 6 yhnc yhnn), (cAI g yhnc 6 yhnf), (cO5_riiiiiiii nn nr xsnapped xmostSlip xslip xisDrawn xseed xtick xmotorTick xahead), (cO8_iiri nr 8 10 nrc nrn), (cAI g nrc 80 nrf), (cO8_iiri al 8 1 alc aln), (cAI g alc 8 fa_132)] rfl ?_
              obtain ⟨z_135, ez_135⟩ : ∃ y : Int32, u_5 + Int32.ofInt 1 = y := ⟨_, rfl⟩
              refine k_iinc z_135 [(6, .int z_135), (8, .int r_128), (7, .int r_1), (5, .int r_3), (4, .int r_1), (0, .ref h0), (1, .ref hh), (2, .ref nn), (3, .int p0)] 2 X dX0_burn_k4.2.2.2.1 rfl ez_135 (nlt_e rfl) rfl ?_
              refine k_goto 22 X dX0_burn_k4.2.2.2.2 (jp_e rfl) ?_
              refine k_lv [(6, .int z_135), (5, .int r_3), (4, .int r_1), (0, .ref h0), (1, .ref hh), (2, .ref nn), (3, .int p0)] [0, 3, 4, 5, 6, 7, 8] rfl ?_
              refine k_sub [(cO0_ri h0 al u_7), (cO8_iiri al 8 1 alc aln), (cAI g alc 8 fa_132), (cO5_riiiiiiii nn nr xsnapped xmostSlip xslip xisDrawn xseed xtick xmotorTick xahead), (cO8_iiri nr 8 10 nrc nrn), (cAI g nrc 80 nrf), (cO3_vrvvvvvv hh v0hh yhn v2hh v3hh v4hh v5hh v6hh v7hh), (cO8_iiri yhn 1 6 yhnc yhnn), (cAI g yhnc 6 yhnf)] [0, 7, 8, 4, 5, 6, 1, 2, 3] rfl (by decide) rfl ?_
              exact ih_10 _ (by rw [← hm_9]; exact mu_lt (by assumption) (by assumption)) z_135 fa_132 u_7 rfl 
            · skip
              refine k_aload_n X dX0_burn_k3.1.2.2.2 5 rfl ?_
              refine k_dup X dX0_burn_k3.2.1.1.1 rfl ?_
              refine k_get (ci := 0) X inlX0 rfl 1 (nlt_e rfl) dX0_burn_k3.2.1.1.2 mw140 0 rfl rfl ?_
              refine k_iconst (v := 1) X dX0_burn_k3.2.1.2.1 ic_1 ?_
              refine k_iload X dX0_burn_k3.2.1.2.2 2 rfl ?_
              refine k_ishl X dX0_burn_k3.2.2.1.1 ?_
              refine k_nm (fun z_136 ez_136 => ?_)
              refine k_ior X dX0_burn_k3.2.2.1.2 ?_
              refine k_nm (fun z_137 ez_137 => ?_)
              refine k_put (ci := 0) [(cO0_ri h0 al z_137), (cO8_iiri al 8 1 alc aln), (cAI g alc 8 uf_6), (cO3_vrvvvvvv hh v0hh yhn v2hh v3hh v4hh v5hh v6hh v7hh), (cO8_iiri yhn 1 6 yhnc yhnn), (cAI g yhnc 6 yhnf), (cO5_riiiiiiii nn nr xsnapped xmostSlip xslip xisDrawn xseed xtick xmotorTick xahead), (cO8_iiri nr 8 10 nrc nrn), (cAI g nrc 80 nrf)] X inlX0 rfl tyX0_ok nmX0 1 (nlt_e rfl) rfl dX0_burn_k3.2.2.2.1 mw140 0 rfl rfl rfl (Nat.le_of_ble_eq_true rfl) rfl ?_
              refine k_aload_n X dX0_burn_k3.2.2.2.2 5 rfl ?_
              refine k_get (ci := 0) X inlX0 rfl 0 (nlt_e rfl) dX0_burn_k4.1.1.1.1 mw139 0 rfl rfl ?_
              refine k_iload X dX0_burn_k4.1.1.1.2 2 rfl ?_
              refine k_iconst (v := 0) X dX0_burn_k4.1.1.2.1 ic_0 ?_
              refine k_iload X dX0_burn_k4.1.1.2.2 4 rfl ?_
              refine k_callVV (n := 3) (As := [.int u_5, .int 0, .int r_1]) (st := []) X [(cO8_iiri al 8 1 alc aln), (cAI g alc 8 uf_6)] [(cO0_ri h0 al z_137), (cO3_vrvvvvvv hh v0hh yhn v2hh v3hh v4hh v5hh v6hh v7hh), (cO8_iiri yhn 1 6 yhnc yhnn), (cAI g yhnc 6 yhnf), (cO5_riiiiiiii nn nr xsnapped xmostSlip xslip xisDrawn xseed xtick xmotorTick xahead), (cO8_iiri nr 8 10 nrc nrn), (cAI g nrc 80 nrf)] [1, 2] [0, 3, 4, 5, 6, 7, 8] (t_put l g al u_5 0 r_1 8 1 alc aln 8 uf_6 (tbk_8_1)) dX0_burn_k4.1.2.1.1 mw1045 mw326 mw327 mw64 mw328 rfl 8 rfl rfl 0 _ rfl yk_yX8_put_3 rfl (Nat.le_of_ble_eq_true rfl) (Nat.le_of_ble_eq_true rfl) (Nat.le_of_ble_eq_true rfl) (Nat.le_of_ble_eq_true rfl) (Nat.le_of_ble_eq_true rfl) rfl rfl (vnd_e rfl) rfl (vnd_e rfl) (dsj_e rfl) ?_
              rintro w ⟨fa_138, hr_140, rfl⟩
              refine k_ws [(cO0_ri h0 al z_137), (cO3_vrvvvvvv hh v0hh yhn v2hh v3hh v4hh v5hh v6hh v7hh), (cO8_iiri yhn 1 6 yhnc yhnn), (cAI g yhnc 6 yhnf), (cO5_riiiiiiii nn nr xsnapped xmostSlip xslip xisDrawn xseed xtick xmotorTick xahead), (cO8_iiri nr 8 10 nrc nrn), (cAI g nrc 80 nrf), (cO8_iiri al 8 1 alc aln), (cAI g alc 8 fa_138)] rfl ?_
              refine k_goto 148 X dX0_burn_k4.1.2.1.2 (jp_e rfl) ?_
              obtain ⟨z_141, ez_141⟩ : ∃ y : Int32, u_5 + Int32.ofInt 1 = y := ⟨_, rfl⟩
              refine k_iinc z_141 [(6, .int z_141), (8, .int r_128), (7, .int r_1), (5, .int r_3), (4, .int r_1), (0, .ref h0), (1, .ref hh), (2, .ref nn), (3, .int p0)] 2 X dX0_burn_k4.2.2.2.1 rfl ez_141 (nlt_e rfl) rfl ?_
              refine k_goto 22 X dX0_burn_k4.2.2.2.2 (jp_e rfl) ?_
              refine k_lv [(6, .int z_141), (5, .int r_3), (4, .int r_1), (0, .ref h0), (1, .ref hh), (2, .ref nn), (3, .int p0)] [0, 3, 4, 5, 6, 7, 8] rfl ?_
              refine k_sub [(cO0_ri h0 al z_137), (cO8_iiri al 8 1 alc aln), (cAI g alc 8 fa_138), (cO5_riiiiiiii nn nr xsnapped xmostSlip xslip xisDrawn xseed xtick xmotorTick xahead), (cO8_iiri nr 8 10 nrc nrn), (cAI g nrc 80 nrf), (cO3_vrvvvvvv hh v0hh yhn v2hh v3hh v4hh v5hh v6hh v7hh), (cO8_iiri yhn 1 6 yhnc yhnn), (cAI g yhnc 6 yhnf)] [0, 7, 8, 4, 5, 6, 1, 2, 3] rfl (by decide) rfl ?_
              exact ih_10 _ (by rw [← hm_9]; exact mu_lt (by assumption) (by assumption)) z_141 fa_138 z_137 rfl 

theorem dX6_carry_k0 : ((((dD cX6_carry 0 (.iconst 0) 1 ∧ dD cX6_carry 1 (.istore 5) 2) ∧ (dD cX6_carry 3 (.iload 5) 2 ∧ dD cX6_carry 5 (.iconst 4) 1)) ∧ ((dD cX6_carry 6 (.if_icmp .ge 20) 3 ∧ dD cX6_carry 9 (.aload_n 0) 1) ∧ (dD cX6_carry 10 (.getfield 14) 3 ∧ dD cX6_carry 13 (.iload 5) 2))) ∧ (((dD cX6_carry 15 (.iconst 0) 1 ∧ dD cX6_carry 16 (.iconst 0) 1) ∧ (dD cX6_carry 17 (.invokevirtual 27) 3 ∧ dD cX6_carry 20 (.iinc 5 1) 3)) ∧ ((dD cX6_carry 23 (.goto (-20)) 3 ∧ dD cX6_carry 26 (.aload_n 0) 1) ∧ (dD cX6_carry 27 (.iconst 0) 1 ∧ dD cX6_carry 28 (.putfield 20) 3)))) := dkA16 (by decide +kernel)
theorem dX6_carry_k1 : ((((dD cX6_carry 31 (.aload_n 0) 1 ∧ dD cX6_carry 32 (.iconst 0) 1) ∧ (dD cX6_carry 33 (.putfield 24) 3 ∧ dD cX6_carry 36 (.iconst 0) 1)) ∧ ((dD cX6_carry 37 (.istore 5) 2 ∧ dD cX6_carry 39 (.iconst 0) 1) ∧ (dD cX6_carry 40 (.istore 6) 2 ∧ dD cX6_carry 42 (.iload 6) 2))) ∧ (((dD cX6_carry 44 (.aload_n 1) 1 ∧ dD cX6_carry 45 (.getfield 31) 3) ∧ (dD cX6_carry 48 (.getfield 36) 3 ∧ dD cX6_carry 51 (.if_icmp .ge 123) 3)) ∧ ((dD cX6_carry 54 (.aload_n 0) 1 ∧ dD cX6_carry 55 (.iload_n 2) 1) ∧ (dD cX6_carry 56 (.invokevirtual 39) 3 ∧ dD cX6_carry 59 (.istore 7) 2)))) := dkA16 (by decide +kernel)
theorem dX6_carry_k2 : ((((dD cX6_carry 61 (.aload_n 1) 1 ∧ dD cX6_carry 62 (.getfield 31) 3) ∧ (dD cX6_carry 65 (.iload 6) 2 ∧ dD cX6_carry 67 (.bipush 7) 2)) ∧ ((dD cX6_carry 69 (.invokevirtual 43) 3 ∧ dD cX6_carry 72 (.istore 8) 2) ∧ (dD cX6_carry 74 (.iload 8) 2 ∧ dD cX6_carry 76 (.aload_n 0) 1))) ∧ (((dD cX6_carry 77 (.getfield 14) 3 ∧ dD cX6_carry 80 (.iload 7) 2) ∧ (dD cX6_carry 82 (.iconst 0) 1 ∧ dD cX6_carry 83 (.invokevirtual 43) 3)) ∧ ((dD cX6_carry 86 (.invokestatic 47) 3 ∧ dD cX6_carry 89 (.iload_n 3) 1) ∧ (dD cX6_carry 90 .iadd 1 ∧ dD cX6_carry 91 (.istore 9) 2)))) := dkA16 (by decide +kernel)
theorem dX6_carry_k3 : ((((dD cX6_carry 93 (.aload_n 0) 1 ∧ dD cX6_carry 94 (.getfield 14) 3) ∧ (dD cX6_carry 97 (.iload 7) 2 ∧ dD cX6_carry 99 (.iconst 0) 1)) ∧ ((dD cX6_carry 100 (.iload 9) 2 ∧ dD cX6_carry 102 (.iload_n 3) 1) ∧ (dD cX6_carry 103 .iadd 1 ∧ dD cX6_carry 104 (.invokevirtual 27) 3))) ∧ (((dD cX6_carry 107 (.aload_n 0) 1 ∧ dD cX6_carry 108 (.aload_n 0) 1) ∧ (dD cX6_carry 109 (.getfield 20) 3 ∧ dD cX6_carry 112 (.iload 9) 2)) ∧ ((dD cX6_carry 114 (.iload 5) 2 ∧ dD cX6_carry 116 .isub 1) ∧ (dD cX6_carry 117 (.invokestatic 47) 3 ∧ dD cX6_carry 120 (.putfield 20) 3)))) := dkA16 (by decide +kernel)
theorem dX6_carry_k4 : ((((dD cX6_carry 123 (.aload_n 0) 1 ∧ dD cX6_carry 124 .dup 1) ∧ (dD cX6_carry 125 (.getfield 24) 3 ∧ dD cX6_carry 128 (.iconst 0) 1)) ∧ ((dD cX6_carry 129 (.iload 9) 2 ∧ dD cX6_carry 131 (.iload 4) 2) ∧ (dD cX6_carry 133 (.iload 5) 2 ∧ dD cX6_carry 135 .iadd 1))) ∧ (((dD cX6_carry 136 (.aload_n 0) 1 ∧ dD cX6_carry 137 (.getfield 24) 3) ∧ (dD cX6_carry 140 .iadd 1 ∧ dD cX6_carry 141 .isub 1)) ∧ ((dD cX6_carry 142 (.invokestatic 47) 3 ∧ dD cX6_carry 145 .iadd 1) ∧ (dD cX6_carry 146 (.putfield 24) 3 ∧ dD cX6_carry 149 (.iload 5) 2)))) := dkA16 (by decide +kernel)
theorem dX6_carry_k5 : (((dD cX6_carry 151 (.iload 8) 2 ∧ (dD cX6_carry 153 (.aload_n 1) 1 ∧ dD cX6_carry 154 (.getfield 31) 3)) ∧ (dD cX6_carry 157 (.iload 6) 2 ∧ (dD cX6_carry 159 (.bipush 6) 2 ∧ dD cX6_carry 161 (.invokevirtual 43) 3))) ∧ ((dD cX6_carry 164 .isub 1 ∧ (dD cX6_carry 165 .iadd 1 ∧ dD cX6_carry 166 (.istore 5) 2)) ∧ (dD cX6_carry 168 (.iinc 6 1) 3 ∧ (dD cX6_carry 171 (.goto (-129)) 3 ∧ dD cX6_carry 174 .return_ 1)))) := dkA12 (by decide +kernel)
set_option maxHeartbeats 4000000 in
set_option maxRecDepth 100000 in
theorem r_carry (l : Launch) (g : Gx) (h0 : Nat) (nn : Nat) (p0 : Int32) (p1 : Int32) (p2 : Int32) (rb : Nat) (xa : Int32) (xw : Int32) (rbc : Nat) (rbn : Int32) (rbf : Nat → Int32) (nr : Nat) (xsnapped : Int32) (xmostSlip : Int32) (xslip : Int32) (xisDrawn : Int32) (xseed : Int32) (xtick : Int32) (xmotorTick : Int32) (xahead : Int32) (nrc : Nat) (nrn : Int32) (nrf : Nat → Int32) : cV l g yX6_carry cX6_carry 10 2 45 0 0 [.ref h0, .ref nn, .int p0, .int p1, .int p2] [(cO6_rii h0 rb xa xw), (cO8_iiri rb 4 1 rbc rbn), (cAI g rbc 4 rbf), (cO5_riiiiiiii nn nr xsnapped xmostSlip xslip xisDrawn xseed xtick xmotorTick xahead), (cO8_iiri nr 8 10 nrc nrn), (cAI g nrc 80 nrf)] (fun w => ∃ (xa2 : Int32) (xw2 : Int32) (rbg : Nat → Int32), w = [(cO6_rii h0 rb xa2 xw2), (cO8_iiri rb 4 1 rbc rbn), (cAI g rbc 4 rbg), (cO5_riiiiiiii nn nr xsnapped xmostSlip xslip xisDrawn xseed xtick xmotorTick xahead), (cO8_iiri nr 8 10 nrc nrn), (cAI g nrc 80 nrf)]) := by
  refine cV.of (by decide) (Nat.le_of_ble_eq_true rfl) ?_
  intro p e s m args below meth c A X hr hi
  refine k_lveq [(0, .ref h0), (1, .ref nn), (2, .int p0), (3, .int p1), (4, .int p2)] rfl ?_
  refine k_iconst (v := 0) X dX6_carry_k0.1.1.1.1 ic_0 ?_
  refine k_istore [(5, .int 0), (0, .ref h0), (1, .ref nn), (2, .int p0), (3, .int p1), (4, .int p2)] X dX6_carry_k0.1.1.1.2 (nlt_e rfl) rfl ?_
  refine (fun hL : ∀ (nn_3 : Nat) (u_1 : Int32) (uf_2 : Nat → Int32), ((4 : Int32).toInt - u_1.toInt).toNat = nn_3 → Wk p l e _ s m args below meth c _ A g _ _ _ [(cO6_rii h0 rb xa xw), (cO8_iiri rb 4 1 rbc rbn), (cAI g rbc 4 uf_2), (cO5_riiiiiiii nn nr xsnapped xmostSlip xslip xisDrawn xseed xtick xmotorTick xahead), (cO8_iiri nr 8 10 nrc nrn), (cAI g nrc 80 nrf)] [(5, .int u_1), (0, .ref h0), (1, .ref nn), (2, .int p0), (3, .int p1), (4, .int p2)] 3 [] => hL _ 0 rbf rfl ) ?_
  refine fun nn_3 => Nat.strongRecOn nn_3 (fun nn_3 ih_5 => ?_)
  intro u_1 uf_2 hm_4 
  refine k_iload X dX6_carry_k0.1.1.2.1 0 rfl ?_
  refine k_iconst (v := 4) X dX6_carry_k0.1.1.2.2 ic_4 ?_
  refine k_ic_ge 26 X dX6_carry_k0.1.2.1.1 (jp_e rfl) (fun h_6 => ?_) (fun h_6 => ?_)
  · skip
    refine k_aload_n X dX6_carry_k0.2.2.1.2 1 rfl ?_
    refine k_iconst (v := 0) X dX6_carry_k0.2.2.2.1 ic_0 ?_
    refine k_put (ci := 6) [(cO6_rii h0 rb 0 xw), (cO8_iiri rb 4 1 rbc rbn), (cAI g rbc 4 uf_2), (cO5_riiiiiiii nn nr xsnapped xmostSlip xslip xisDrawn xseed xtick xmotorTick xahead), (cO8_iiri nr 8 10 nrc nrn), (cAI g nrc 80 nrf)] X inlX6 rfl tyX6_ok nmX6 1 (nlt_e rfl) rfl dX6_carry_k0.2.2.2.2 mw147 0 rfl rfl rfl (Nat.le_of_ble_eq_true rfl) rfl ?_
    refine k_aload_n X dX6_carry_k1.1.1.1.1 1 rfl ?_
    refine k_iconst (v := 0) X dX6_carry_k1.1.1.1.2 ic_0 ?_
    refine k_put (ci := 6) [(cO6_rii h0 rb 0 0), (cO8_iiri rb 4 1 rbc rbn), (cAI g rbc 4 uf_2), (cO5_riiiiiiii nn nr xsnapped xmostSlip xslip xisDrawn xseed xtick xmotorTick xahead), (cO8_iiri nr 8 10 nrc nrn), (cAI g nrc 80 nrf)] X inlX6 rfl tyX6_ok nmX6 2 (nlt_e rfl) rfl dX6_carry_k1.1.1.2.1 mw148 0 rfl rfl rfl (Nat.le_of_ble_eq_true rfl) rfl ?_
    refine k_iconst (v := 0) X dX6_carry_k1.1.1.2.2 ic_0 ?_
    refine k_istore [(5, .int 0), (0, .ref h0), (1, .ref nn), (2, .int p0), (3, .int p1), (4, .int p2)] X dX6_carry_k1.1.2.1.1 (nlt_e rfl) rfl ?_
    refine k_iconst (v := 0) X dX6_carry_k1.1.2.1.2 ic_0 ?_
    refine k_istore [(6, .int 0), (5, .int 0), (0, .ref h0), (1, .ref nn), (2, .int p0), (3, .int p1), (4, .int p2)] X dX6_carry_k1.1.2.2.1 (nlt_e rfl) rfl ?_
    refine (fun hL : ∀ (nn_12 : Nat) (u_7 : Int32) (u_8 : Int32) (uf_9 : Nat → Int32) (u_10 : Int32) (u_11 : Int32), (nrn.toInt - u_7.toInt).toNat = nn_12 → Wk p l e _ s m args below meth c _ A g _ _ _ [(cO6_rii h0 rb u_10 u_11), (cO8_iiri rb 4 1 rbc rbn), (cAI g rbc 4 uf_9), (cO5_riiiiiiii nn nr xsnapped xmostSlip xslip xisDrawn xseed xtick xmotorTick xahead), (cO8_iiri nr 8 10 nrc nrn), (cAI g nrc 80 nrf)] [(6, .int u_7), (5, .int u_8), (0, .ref h0), (1, .ref nn), (2, .int p0), (3, .int p1), (4, .int p2)] 42 [] => hL _ 0 0 uf_2 0 0 rfl ) ?_
    refine fun nn_12 => Nat.strongRecOn nn_12 (fun nn_12 ih_14 => ?_)
    intro u_7 u_8 uf_9 u_10 u_11 hm_13 
    refine k_iload X dX6_carry_k1.1.2.2.2 0 rfl ?_
    refine k_aload_n X dX6_carry_k1.2.1.1.1 3 rfl ?_
    refine k_get (ci := 5) X inlX5 rfl 0 (nlt_e rfl) dX6_carry_k1.2.1.1.2 mw1302 3 rfl rfl ?_
    refine k_get (ci := 8) X inlX8 rfl 3 (nlt_e rfl) dX6_carry_k1.2.1.2.1 mw1303 4 rfl rfl ?_
    refine k_ic_ge 174 X dX6_carry_k1.2.1.2.2 (jp_e rfl) (fun h_15 => ?_) (fun h_15 => ?_)
    · skip
      exact k_vret X hr dX6_carry_k5.2.2.2.2 (Nat.le_of_ble_eq_true rfl) (Nat.le_of_ble_eq_true rfl) [0, 1, 2, 3, 4, 5] (vnd_e rfl) rfl rfl ⟨u_10, u_11, uf_9, rfl⟩
    · skip
      refine k_aload_n X dX6_carry_k1.2.2.1.1 2 rfl ?_
      refine k_iload_n X dX6_carry_k1.2.2.1.2 4 rfl ?_
      refine k_callVI (n := 1) (As := [.int p0]) (st := []) X [(cO6_rii h0 rb u_10 u_11), (cO8_iiri rb 4 1 rbc rbn), (cAI g rbc 4 uf_9)] [(cO5_riiiiiiii nn nr xsnapped xmostSlip xslip xisDrawn xseed xtick xmotorTick xahead), (cO8_iiri nr 8 10 nrc nrn), (cAI g nrc 80 nrf)] [0, 1, 2] [3, 4, 5] (r_soonest l g h0 p0 rb (.int u_10) (.int u_11) rbc rbn uf_9) dX6_carry_k1.2.2.2.1 mw1306 mw1307 mw1308 mw39 mw1309 rfl 6 rfl rfl 0 _ rfl yk_yX6_soonestBack_1 rfl (Nat.le_of_ble_eq_true rfl) (Nat.le_of_ble_eq_true rfl) (Nat.le_of_ble_eq_true rfl) (Nat.le_of_ble_eq_true rfl) (Nat.le_of_ble_eq_true rfl) rfl rfl (vnd_e rfl) rfl (vnd_e rfl) (dsj_e rfl) ?_
      rintro r_16 w rfl
      refine k_ws [(cO5_riiiiiiii nn nr xsnapped xmostSlip xslip xisDrawn xseed xtick xmotorTick xahead), (cO8_iiri nr 8 10 nrc nrn), (cAI g nrc 80 nrf), (cO6_rii h0 rb u_10 u_11), (cO8_iiri rb 4 1 rbc rbn), (cAI g rbc 4 uf_9)] rfl ?_
      refine k_istore [(7, .int r_16), (6, .int u_7), (5, .int u_8), (0, .ref h0), (1, .ref nn), (2, .int p0), (3, .int p1), (4, .int p2)] X dX6_carry_k1.2.2.2.2 (nlt_e rfl) rfl ?_
      refine k_aload_n X dX6_carry_k2.1.1.1.1 4 rfl ?_
      refine k_get (ci := 5) X inlX5 rfl 0 (nlt_e rfl) dX6_carry_k2.1.1.1.2 mw1302 0 rfl rfl ?_
      refine k_iload X dX6_carry_k2.1.1.2.1 1 rfl ?_
      refine k_bipush (v := 7) X dX6_carry_k2.1.1.2.2 bi_7 ?_
      refine k_callVI (n := 2) (As := [.int u_7, .int 7]) (st := []) X [(cO8_iiri nr 8 10 nrc nrn), (cAI g nrc 80 nrf)] [(cO5_riiiiiiii nn nr xsnapped xmostSlip xslip xisDrawn xseed xtick xmotorTick xahead), (cO6_rii h0 rb u_10 u_11), (cO8_iiri rb 4 1 rbc rbn), (cAI g rbc 4 uf_9)] [1, 2] [0, 3, 4, 5] (t_at l g nr u_7 7 8 10 nrc nrn 80 nrf (tbk_8_10)) dX6_carry_k2.1.2.1.1 mw1310 mw376 mw377 mw64 mw378 rfl 8 rfl rfl 0 _ rfl yk_yX8_at_2 rfl (Nat.le_of_ble_eq_true rfl) (Nat.le_of_ble_eq_true rfl) (Nat.le_of_ble_eq_true rfl) (Nat.le_of_ble_eq_true rfl) (Nat.le_of_ble_eq_true rfl) rfl rfl (vnd_e rfl) rfl (vnd_e rfl) (dsj_e rfl) ?_
      rintro r_18 w ⟨hr_19, rfl⟩
      refine k_ws [(cO5_riiiiiiii nn nr xsnapped xmostSlip xslip xisDrawn xseed xtick xmotorTick xahead), (cO6_rii h0 rb u_10 u_11), (cO8_iiri rb 4 1 rbc rbn), (cAI g rbc 4 uf_9), (cO8_iiri nr 8 10 nrc nrn), (cAI g nrc 80 nrf)] rfl ?_
      refine k_istore [(8, .int r_18), (7, .int r_16), (6, .int u_7), (5, .int u_8), (0, .ref h0), (1, .ref nn), (2, .int p0), (3, .int p1), (4, .int p2)] X dX6_carry_k2.1.2.1.2 (nlt_e rfl) rfl ?_
      refine k_iload X dX6_carry_k2.1.2.2.1 0 rfl ?_
      refine k_aload_n X dX6_carry_k2.1.2.2.2 4 rfl ?_
      refine k_get (ci := 6) X inlX6 rfl 0 (nlt_e rfl) dX6_carry_k2.2.1.1.1 mw146 1 rfl rfl ?_
      refine k_iload X dX6_carry_k2.2.1.1.2 1 rfl ?_
      refine k_iconst (v := 0) X dX6_carry_k2.2.1.2.1 ic_0 ?_
      refine k_callVI (n := 2) (As := [.int r_16, .int 0]) (st := [.int r_18]) X [(cO8_iiri rb 4 1 rbc rbn), (cAI g rbc 4 uf_9)] [(cO5_riiiiiiii nn nr xsnapped xmostSlip xslip xisDrawn xseed xtick xmotorTick xahead), (cO6_rii h0 rb u_10 u_11), (cO8_iiri nr 8 10 nrc nrn), (cAI g nrc 80 nrf)] [2, 3] [0, 1, 4, 5] (t_at l g rb r_16 0 4 1 rbc rbn 4 uf_9 (tbk_4_1)) dX6_carry_k2.2.1.2.2 mw1310 mw376 mw377 mw64 mw378 rfl 8 rfl rfl 0 _ rfl yk_yX8_at_2 rfl (Nat.le_of_ble_eq_true rfl) (Nat.le_of_ble_eq_true rfl) (Nat.le_of_ble_eq_true rfl) (Nat.le_of_ble_eq_true rfl) (Nat.le_of_ble_eq_true rfl) rfl rfl (vnd_e rfl) rfl (vnd_e rfl) (dsj_e rfl) ?_
      rintro r_20 w ⟨hr_21, rfl⟩
      refine k_ws [(cO5_riiiiiiii nn nr xsnapped xmostSlip xslip xisDrawn xseed xtick xmotorTick xahead), (cO6_rii h0 rb u_10 u_11), (cO8_iiri nr 8 10 nrc nrn), (cAI g nrc 80 nrf), (cO8_iiri rb 4 1 rbc rbn), (cAI g rbc 4 uf_9)] rfl ?_
      refine k_mmax X dX6_carry_k2.2.2.1.1 mw1304 mw102 mw103 mw104 (Nat.le_of_ble_eq_true rfl) (Nat.le_of_ble_eq_true rfl) (Nat.zero_le _) (Nat.zero_le _) ?_
      refine k_nm (fun z_22 ez_22 => ?_)
      refine k_iload_n X dX6_carry_k2.2.2.1.2 7 rfl ?_
      refine k_iadd X dX6_carry_k2.2.2.2.1 ?_
      refine k_nm (fun z_23 ez_23 => ?_)
      refine k_istore [(9, .int z_23), (8, .int r_18), (7, .int r_16), (6, .int u_7), (5, .int u_8), (0, .ref h0), (1, .ref nn), (2, .int p0), (3, .int p1), (4, .int p2)] X dX6_carry_k2.2.2.2.2 (nlt_e rfl) rfl ?_
      refine k_aload_n X dX6_carry_k3.1.1.1.1 5 rfl ?_
      refine k_get (ci := 6) X inlX6 rfl 0 (nlt_e rfl) dX6_carry_k3.1.1.1.2 mw146 1 rfl rfl ?_
      refine k_iload X dX6_carry_k3.1.1.2.1 2 rfl ?_
      refine k_iconst (v := 0) X dX6_carry_k3.1.1.2.2 ic_0 ?_
      refine k_iload X dX6_carry_k3.1.2.1.1 0 rfl ?_
      refine k_iload_n X dX6_carry_k3.1.2.1.2 8 rfl ?_
      refine k_iadd X dX6_carry_k3.1.2.2.1 ?_
      refine k_nm (fun z_24 ez_24 => ?_)
      refine k_callVV (n := 3) (As := [.int r_16, .int 0, .int z_24]) (st := []) X [(cO8_iiri rb 4 1 rbc rbn), (cAI g rbc 4 uf_9)] [(cO5_riiiiiiii nn nr xsnapped xmostSlip xslip xisDrawn xseed xtick xmotorTick xahead), (cO6_rii h0 rb u_10 u_11), (cO8_iiri nr 8 10 nrc nrn), (cAI g nrc 80 nrf)] [4, 5] [0, 1, 2, 3] (t_put l g rb r_16 0 z_24 4 1 rbc rbn 4 uf_9 (tbk_4_1)) dX6_carry_k3.1.2.2.2 mw1305 mw326 mw327 mw64 mw328 rfl 8 rfl rfl 0 _ rfl yk_yX8_put_3 rfl (Nat.le_of_ble_eq_true rfl) (Nat.le_of_ble_eq_true rfl) (Nat.le_of_ble_eq_true rfl) (Nat.le_of_ble_eq_true rfl) (Nat.le_of_ble_eq_true rfl) rfl rfl (vnd_e rfl) rfl (vnd_e rfl) (dsj_e rfl) ?_
      rintro w ⟨fa_25, hr_27, rfl⟩
      refine k_ws [(cO5_riiiiiiii nn nr xsnapped xmostSlip xslip xisDrawn xseed xtick xmotorTick xahead), (cO6_rii h0 rb u_10 u_11), (cO8_iiri nr 8 10 nrc nrn), (cAI g nrc 80 nrf), (cO8_iiri rb 4 1 rbc rbn), (cAI g rbc 4 fa_25)] rfl ?_
      refine k_aload_n X dX6_carry_k3.2.1.1.1 5 rfl ?_
      refine k_aload_n X dX6_carry_k3.2.1.1.2 5 rfl ?_
      refine k_get (ci := 6) X inlX6 rfl 1 (nlt_e rfl) dX6_carry_k3.2.1.2.1 mw147 1 rfl rfl ?_
      refine k_iload X dX6_carry_k3.2.1.2.2 0 rfl ?_
      refine k_iload X dX6_carry_k3.2.2.1.1 4 rfl ?_
      refine k_isub X dX6_carry_k3.2.2.1.2 ?_
      refine k_nm (fun z_28 ez_28 => ?_)
      refine k_mmax X dX6_carry_k3.2.2.2.1 mw1304 mw102 mw103 mw104 (Nat.le_of_ble_eq_true rfl) (Nat.le_of_ble_eq_true rfl) (Nat.zero_le _) (Nat.zero_le _) ?_
      refine k_nm (fun z_29 ez_29 => ?_)
      refine k_put (ci := 6) [(cO5_riiiiiiii nn nr xsnapped xmostSlip xslip xisDrawn xseed xtick xmotorTick xahead), (cO6_rii h0 rb z_29 u_11), (cO8_iiri nr 8 10 nrc nrn), (cAI g nrc 80 nrf), (cO8_iiri rb 4 1 rbc rbn), (cAI g rbc 4 fa_25)] X inlX6 rfl tyX6_ok nmX6 1 (nlt_e rfl) rfl dX6_carry_k3.2.2.2.2 mw147 1 rfl rfl rfl (Nat.le_of_ble_eq_true rfl) rfl ?_
      refine k_aload_n X dX6_carry_k4.1.1.1.1 5 rfl ?_
      refine k_dup X dX6_carry_k4.1.1.1.2 rfl ?_
      refine k_get (ci := 6) X inlX6 rfl 2 (nlt_e rfl) dX6_carry_k4.1.1.2.1 mw148 1 rfl rfl ?_
      refine k_iconst (v := 0) X dX6_carry_k4.1.1.2.2 ic_0 ?_
      refine k_iload X dX6_carry_k4.1.2.1.1 0 rfl ?_
      refine k_iload X dX6_carry_k4.1.2.1.2 9 rfl ?_
      refine k_iload X dX6_carry_k4.1.2.2.1 4 rfl ?_
      refine k_iadd X dX6_carry_k4.1.2.2.2 ?_
      refine k_nm (fun z_30 ez_30 => ?_)
      refine k_aload_n X dX6_carry_k4.2.1.1.1 5 rfl ?_
      refine k_get (ci := 6) X inlX6 rfl 2 (nlt_e rfl) dX6_carry_k4.2.1.1.2 mw148 1 rfl rfl ?_
      refine k_iadd X dX6_carry_k4.2.1.2.1 ?_
      refine k_nm (fun z_31 ez_31 => ?_)
      refine k_isub X dX6_carry_k4.2.1.2.2 ?_
      refine k_nm (fun z_32 ez_32 => ?_)
      refine k_mmax X dX6_carry_k4.2.2.1.1 mw1304 mw102 mw103 mw104 (Nat.le_of_ble_eq_true rfl) (Nat.le_of_ble_eq_true rfl) (Nat.zero_le _) (Nat.zero_le _) ?_
      refine k_nm (fun z_33 ez_33 => ?_)
      refine k_iadd X dX6_carry_k4.2.2.1.2 ?_
      refine k_nm (fun z_34 ez_34 => ?_)
      refine k_put (ci := 6) [(cO5_riiiiiiii nn nr xsnapped xmostSlip xslip xisDrawn xseed xtick xmotorTick xahead), (cO6_rii h0 rb z_29 z_34), (cO8_iiri nr 8 10 nrc nrn), (cAI g nrc 80 nrf), (cO8_iiri rb 4 1 rbc rbn), (cAI g rbc 4 fa_25)] X inlX6 rfl tyX6_ok nmX6 2 (nlt_e rfl) rfl dX6_carry_k4.2.2.2.1 mw148 1 rfl rfl rfl (Nat.le_of_ble_eq_true rfl) rfl ?_
      refine k_iload X dX6_carry_k4.2.2.2.2 4 rfl ?_
      refine k_iload X dX6_carry_k5.1.1.1 1 rfl ?_
      refine k_aload_n X dX6_carry_k5.1.1.2.1 6 rfl ?_
      refine k_get (ci := 5) X inlX5 rfl 0 (nlt_e rfl) dX6_carry_k5.1.1.2.2 mw1302 0 rfl rfl ?_
      refine k_iload X dX6_carry_k5.1.2.1 3 rfl ?_
      refine k_bipush (v := 6) X dX6_carry_k5.1.2.2.1 bi_6 ?_
      refine k_callVI (n := 2) (As := [.int u_7, .int 6]) (st := [.int r_18, .int u_8]) X [(cO8_iiri nr 8 10 nrc nrn), (cAI g nrc 80 nrf)] [(cO5_riiiiiiii nn nr xsnapped xmostSlip xslip xisDrawn xseed xtick xmotorTick xahead), (cO6_rii h0 rb z_29 z_34), (cO8_iiri rb 4 1 rbc rbn), (cAI g rbc 4 fa_25)] [2, 3] [0, 1, 4, 5] (t_at l g nr u_7 6 8 10 nrc nrn 80 nrf (tbk_8_10)) dX6_carry_k5.1.2.2.2 mw1310 mw376 mw377 mw64 mw378 rfl 8 rfl rfl 0 _ rfl yk_yX8_at_2 rfl (Nat.le_of_ble_eq_true rfl) (Nat.le_of_ble_eq_true rfl) (Nat.le_of_ble_eq_true rfl) (Nat.le_of_ble_eq_true rfl) (Nat.le_of_ble_eq_true rfl) rfl rfl (vnd_e rfl) rfl (vnd_e rfl) (dsj_e rfl) ?_
      rintro r_35 w ⟨hr_36, rfl⟩
      refine k_ws [(cO5_riiiiiiii nn nr xsnapped xmostSlip xslip xisDrawn xseed xtick xmotorTick xahead), (cO6_rii h0 rb z_29 z_34), (cO8_iiri rb 4 1 rbc rbn), (cAI g rbc 4 fa_25), (cO8_iiri nr 8 10 nrc nrn), (cAI g nrc 80 nrf)] rfl ?_
      refine k_isub X dX6_carry_k5.2.1.1 ?_
      refine k_nm (fun z_37 ez_37 => ?_)
      refine k_iadd X dX6_carry_k5.2.1.2.1 ?_
      refine k_nm (fun z_38 ez_38 => ?_)
      refine k_istore [(5, .int z_38), (9, .int z_23), (8, .int r_18), (7, .int r_16), (6, .int u_7), (0, .ref h0), (1, .ref nn), (2, .int p0), (3, .int p1), (4, .int p2)] X dX6_carry_k5.2.1.2.2 (nlt_e rfl) rfl ?_
      obtain ⟨z_39, ez_39⟩ : ∃ y : Int32, u_7 + Int32.ofInt 1 = y := ⟨_, rfl⟩
      refine k_iinc z_39 [(6, .int z_39), (5, .int z_38), (9, .int z_23), (8, .int r_18), (7, .int r_16), (0, .ref h0), (1, .ref nn), (2, .int p0), (3, .int p1), (4, .int p2)] 4 X dX6_carry_k5.2.2.1 rfl ez_39 (nlt_e rfl) rfl ?_
      refine k_goto 42 X dX6_carry_k5.2.2.2.1 (jp_e rfl) ?_
      refine k_lv [(6, .int z_39), (5, .int z_38), (0, .ref h0), (1, .ref nn), (2, .int p0), (3, .int p1), (4, .int p2)] [0, 1, 5, 6, 7, 8, 9] rfl ?_
      refine k_sub [(cO6_rii h0 rb z_29 z_34), (cO8_iiri rb 4 1 rbc rbn), (cAI g rbc 4 fa_25), (cO5_riiiiiiii nn nr xsnapped xmostSlip xslip xisDrawn xseed xtick xmotorTick xahead), (cO8_iiri nr 8 10 nrc nrn), (cAI g nrc 80 nrf)] [1, 2, 3, 0, 4, 5] rfl (by decide) rfl ?_
      exact ih_14 _ (by rw [← hm_13]; exact mu_lt (by assumption) (by assumption)) z_39 z_38 fa_25 z_29 z_34 rfl 
  · skip
    refine k_aload_n X dX6_carry_k0.1.2.1.2 1 rfl ?_
    refine k_get (ci := 6) X inlX6 rfl 0 (nlt_e rfl) dX6_carry_k0.1.2.2.1 mw146 0 rfl rfl ?_
    refine k_iload X dX6_carry_k0.1.2.2.2 0 rfl ?_
    refine k_iconst (v := 0) X dX6_carry_k0.2.1.1.1 ic_0 ?_
    refine k_iconst (v := 0) X dX6_carry_k0.2.1.1.2 ic_0 ?_
    refine k_callVV (n := 3) (As := [.int u_1, .int 0, .int 0]) (st := []) X [(cO8_iiri rb 4 1 rbc rbn), (cAI g rbc 4 uf_2)] [(cO6_rii h0 rb xa xw), (cO5_riiiiiiii nn nr xsnapped xmostSlip xslip xisDrawn xseed xtick xmotorTick xahead), (cO8_iiri nr 8 10 nrc nrn), (cAI g nrc 80 nrf)] [1, 2] [0, 3, 4, 5] (t_put l g rb u_1 0 0 4 1 rbc rbn 4 uf_2 (tbk_4_1)) dX6_carry_k0.2.1.2.1 mw1305 mw326 mw327 mw64 mw328 rfl 8 rfl rfl 0 _ rfl yk_yX8_put_3 rfl (Nat.le_of_ble_eq_true rfl) (Nat.le_of_ble_eq_true rfl) (Nat.le_of_ble_eq_true rfl) (Nat.le_of_ble_eq_true rfl) (Nat.le_of_ble_eq_true rfl) rfl rfl (vnd_e rfl) rfl (vnd_e rfl) (dsj_e rfl) ?_
    rintro w ⟨fa_40, hr_42, rfl⟩
    refine k_ws [(cO6_rii h0 rb xa xw), (cO5_riiiiiiii nn nr xsnapped xmostSlip xslip xisDrawn xseed xtick xmotorTick xahead), (cO8_iiri nr 8 10 nrc nrn), (cAI g nrc 80 nrf), (cO8_iiri rb 4 1 rbc rbn), (cAI g rbc 4 fa_40)] rfl ?_
    obtain ⟨z_43, ez_43⟩ : ∃ y : Int32, u_1 + Int32.ofInt 1 = y := ⟨_, rfl⟩
    refine k_iinc z_43 [(5, .int z_43), (0, .ref h0), (1, .ref nn), (2, .int p0), (3, .int p1), (4, .int p2)] 0 X dX6_carry_k0.2.1.2.2 rfl ez_43 (nlt_e rfl) rfl ?_
    refine k_goto 3 X dX6_carry_k0.2.2.1.1 (jp_e rfl) ?_
    refine k_sub [(cO6_rii h0 rb xa xw), (cO8_iiri rb 4 1 rbc rbn), (cAI g rbc 4 fa_40), (cO5_riiiiiiii nn nr xsnapped xmostSlip xslip xisDrawn xseed xtick xmotorTick xahead), (cO8_iiri nr 8 10 nrc nrn), (cAI g nrc 80 nrf)] [0, 4, 5, 1, 2, 3] rfl (by decide) rfl ?_
    exact ih_5 _ (by rw [← hm_4]; exact mu_lt (by assumption) (by assumption)) z_43 fa_40 rfl 

theorem dX2_set_k0 : ((dD cX2_set 0 (.aload_n 0) 1 ∧ (dD cX2_set 1 (.lload_n 1) 1 ∧ dD cX2_set 2 (.putfield 7) 3)) ∧ ((dD cX2_set 5 (.aload_n 0) 1 ∧ dD cX2_set 6 (.lload_n 3) 1) ∧ (dD cX2_set 7 (.putfield 13) 3 ∧ dD cX2_set 10 .return_ 1))) := dkA7 (by decide +kernel)
set_option maxHeartbeats 4000000 in
set_option maxRecDepth 100000 in
theorem f_set (l : Launch) (g : Gx) (h0 : Nat) (p0 : Int64) (p1 : Int64) (xu : Int64) (xv : Int64) : cV l g yX2_set cX2_set 5 0 0 0 0 [.ref h0, .long p0, .long p1] [(cO2_ll h0 xu xv)] (fun w => ∃ (xu2 : Int64) (xv2 : Int64), w = [(cO2_ll h0 xu2 xv2)]) := by
  refine cV.of (by decide) (Nat.le_of_ble_eq_true rfl) ?_
  intro p e s m args below meth c A X hr hi
  refine k_lveq [(0, .ref h0), (1, .long p0), (3, .long p1)] rfl ?_
  refine k_aload_n X dX2_set_k0.1.1 0 rfl ?_
  refine k_lload_n X dX2_set_k0.1.2.1 1 rfl ?_
  refine k_put (ci := 2) [(cO2_ll h0 p0 xv)] X inlX2 rfl tyX2_ok nmX2 0 (nlt_e rfl) rfl dX2_set_k0.1.2.2 mw161 0 rfl rfl rfl (Nat.le_of_ble_eq_true rfl) rfl ?_
  refine k_aload_n X dX2_set_k0.2.1.1 0 rfl ?_
  refine k_lload_n X dX2_set_k0.2.1.2 2 rfl ?_
  refine k_put (ci := 2) [(cO2_ll h0 p0 p1)] X inlX2 rfl tyX2_ok nmX2 1 (nlt_e rfl) rfl dX2_set_k0.2.2.1 mw162 0 rfl rfl rfl (Nat.le_of_ble_eq_true rfl) rfl ?_
  exact k_vret X hr dX2_set_k0.2.2.2 (Nat.le_of_ble_eq_true rfl) (Nat.le_of_ble_eq_true rfl) [0] (vnd_e rfl) rfl rfl ⟨p0, p1, rfl⟩

theorem dX2_setPower_k0 : ((((dD cX2_setPower 0 (.aload_n 0) 1 ∧ dD cX2_setPower 1 (.lconst 1) 1) ∧ (dD cX2_setPower 2 (.putfield 7) 3 ∧ dD cX2_setPower 5 (.aload_n 0) 1)) ∧ ((dD cX2_setPower 6 (.lconst 1) 1 ∧ dD cX2_setPower 7 (.putfield 13) 3) ∧ (dD cX2_setPower 10 (.iconst 0) 1 ∧ dD cX2_setPower 11 (.istore 4) 2))) ∧ (((dD cX2_setPower 13 (.iload 4) 2 ∧ dD cX2_setPower 15 (.iload_n 3) 1) ∧ (dD cX2_setPower 16 (.if_icmp .ge 31) 3 ∧ dD cX2_setPower 19 (.aload_n 0) 1)) ∧ ((dD cX2_setPower 20 .dup 1 ∧ dD cX2_setPower 21 (.getfield 7) 3) ∧ (dD cX2_setPower 24 (.iload_n 1) 1 ∧ dD cX2_setPower 25 .i2l 1)))) := dkA16 (by decide +kernel)
theorem dX2_setPower_k1 : (((dD cX2_setPower 26 .lmul 1 ∧ (dD cX2_setPower 27 (.putfield 7) 3 ∧ dD cX2_setPower 30 (.aload_n 0) 1)) ∧ (dD cX2_setPower 31 .dup 1 ∧ (dD cX2_setPower 32 (.getfield 13) 3 ∧ dD cX2_setPower 35 (.iload_n 2) 1))) ∧ ((dD cX2_setPower 36 .i2l 1 ∧ (dD cX2_setPower 37 .lmul 1 ∧ dD cX2_setPower 38 (.putfield 13) 3)) ∧ (dD cX2_setPower 41 (.iinc 4 1) 3 ∧ (dD cX2_setPower 44 (.goto (-31)) 3 ∧ dD cX2_setPower 47 .return_ 1)))) := dkA12 (by decide +kernel)
set_option maxHeartbeats 4000000 in
set_option maxRecDepth 100000 in
theorem f_setPower (l : Launch) (g : Gx) (h0 : Nat) (p0 : Int32) (p1 : Int32) (p2 : Int32) (xu : Int64) (xv : Int64) : cV l g yX2_setPower cX2_setPower 5 0 0 0 0 [.ref h0, .int p0, .int p1, .int p2] [(cO2_ll h0 xu xv)] (fun w => ∃ (xu2 : Int64) (xv2 : Int64), w = [(cO2_ll h0 xu2 xv2)]) := by
  refine cV.of (by decide) (Nat.le_of_ble_eq_true rfl) ?_
  intro p e s m args below meth c A X hr hi
  refine k_lveq [(0, .ref h0), (1, .int p0), (2, .int p1), (3, .int p2)] rfl ?_
  refine k_aload_n X dX2_setPower_k0.1.1.1.1 0 rfl ?_
  refine k_lconst (v := 1) X dX2_setPower_k0.1.1.1.2 (by decide) ?_
  refine k_put (ci := 2) [(cO2_ll h0 1 xv)] X inlX2 rfl tyX2_ok nmX2 0 (nlt_e rfl) rfl dX2_setPower_k0.1.1.2.1 mw161 0 rfl rfl rfl (Nat.le_of_ble_eq_true rfl) rfl ?_
  refine k_aload_n X dX2_setPower_k0.1.1.2.2 0 rfl ?_
  refine k_lconst (v := 1) X dX2_setPower_k0.1.2.1.1 (by decide) ?_
  refine k_put (ci := 2) [(cO2_ll h0 1 1)] X inlX2 rfl tyX2_ok nmX2 1 (nlt_e rfl) rfl dX2_setPower_k0.1.2.1.2 mw162 0 rfl rfl rfl (Nat.le_of_ble_eq_true rfl) rfl ?_
  refine k_iconst (v := 0) X dX2_setPower_k0.1.2.2.1 ic_0 ?_
  refine k_istore [(4, .int 0), (0, .ref h0), (1, .int p0), (2, .int p1), (3, .int p2)] X dX2_setPower_k0.1.2.2.2 (nlt_e rfl) rfl ?_
  refine (fun hL : ∀ (nn_4 : Nat) (u_1 : Int32) (u_2 : Int64) (u_3 : Int64), (p2.toInt - u_1.toInt).toNat = nn_4 → Wk p l e _ s m args below meth c _ A g _ _ _ [(cO2_ll h0 u_2 u_3)] [(4, .int u_1), (0, .ref h0), (1, .int p0), (2, .int p1), (3, .int p2)] 13 [] => hL _ 0 1 1 rfl ) ?_
  refine fun nn_4 => Nat.strongRecOn nn_4 (fun nn_4 ih_6 => ?_)
  intro u_1 u_2 u_3 hm_5 
  refine k_iload X dX2_setPower_k0.2.1.1.1 0 rfl ?_
  refine k_iload_n X dX2_setPower_k0.2.1.1.2 4 rfl ?_
  refine k_ic_ge 47 X dX2_setPower_k0.2.1.2.1 (jp_e rfl) (fun h_7 => ?_) (fun h_7 => ?_)
  · skip
    exact k_vret X hr dX2_setPower_k1.2.2.2.2 (Nat.le_of_ble_eq_true rfl) (Nat.le_of_ble_eq_true rfl) [0] (vnd_e rfl) rfl rfl ⟨u_2, u_3, rfl⟩
  · skip
    refine k_aload_n X dX2_setPower_k0.2.1.2.2 1 rfl ?_
    refine k_dup X dX2_setPower_k0.2.2.1.1 rfl ?_
    refine k_get (ci := 2) X inlX2 rfl 0 (nlt_e rfl) dX2_setPower_k0.2.2.1.2 mw161 0 rfl rfl ?_
    refine k_iload_n X dX2_setPower_k0.2.2.2.1 2 rfl ?_
    refine k_i2l X dX2_setPower_k0.2.2.2.2 ?_
    refine k_nmL (fun y_8 ey_8 => ?_)
    refine k_lmul X dX2_setPower_k1.1.1.1 ?_
    refine k_nmL (fun y_9 ey_9 => ?_)
    refine k_put (ci := 2) [(cO2_ll h0 y_9 u_3)] X inlX2 rfl tyX2_ok nmX2 0 (nlt_e rfl) rfl dX2_setPower_k1.1.1.2.1 mw161 0 rfl rfl rfl (Nat.le_of_ble_eq_true rfl) rfl ?_
    refine k_aload_n X dX2_setPower_k1.1.1.2.2 1 rfl ?_
    refine k_dup X dX2_setPower_k1.1.2.1 rfl ?_
    refine k_get (ci := 2) X inlX2 rfl 1 (nlt_e rfl) dX2_setPower_k1.1.2.2.1 mw162 0 rfl rfl ?_
    refine k_iload_n X dX2_setPower_k1.1.2.2.2 3 rfl ?_
    refine k_i2l X dX2_setPower_k1.2.1.1 ?_
    refine k_nmL (fun y_10 ey_10 => ?_)
    refine k_lmul X dX2_setPower_k1.2.1.2.1 ?_
    refine k_nmL (fun y_11 ey_11 => ?_)
    refine k_put (ci := 2) [(cO2_ll h0 y_9 y_11)] X inlX2 rfl tyX2_ok nmX2 1 (nlt_e rfl) rfl dX2_setPower_k1.2.1.2.2 mw162 0 rfl rfl rfl (Nat.le_of_ble_eq_true rfl) rfl ?_
    obtain ⟨z_12, ez_12⟩ : ∃ y : Int32, u_1 + Int32.ofInt 1 = y := ⟨_, rfl⟩
    refine k_iinc z_12 [(4, .int z_12), (0, .ref h0), (1, .int p0), (2, .int p1), (3, .int p2)] 0 X dX2_setPower_k1.2.2.1 rfl ez_12 (nlt_e rfl) rfl ?_
    refine k_goto 13 X dX2_setPower_k1.2.2.2.1 (jp_e rfl) ?_
    exact ih_6 _ (by rw [← hm_5]; exact mu_lt (by assumption) (by assumption)) z_12 y_9 y_11 rfl 

theorem dX2_reduce_k0 : ((((dD cX2_reduce 0 (.aload_n 0) 1 ∧ dD cX2_reduce 1 (.getfield 7) 3) ∧ (dD cX2_reduce 4 (.lstore_n 1) 1 ∧ dD cX2_reduce 5 (.aload_n 0) 1)) ∧ ((dD cX2_reduce 6 (.getfield 13) 3 ∧ dD cX2_reduce 9 (.lstore_n 3) 1) ∧ (dD cX2_reduce 10 (.iconst 0) 1 ∧ dD cX2_reduce 11 (.istore 5) 2))) ∧ (((dD cX2_reduce 13 (.iload 5) 2 ∧ dD cX2_reduce 15 (.sipush 200) 3) ∧ (dD cX2_reduce 18 (.if_icmp .ge 25) 3 ∧ dD cX2_reduce 21 (.lload_n 3) 1)) ∧ ((dD cX2_reduce 22 (.lconst 0) 1 ∧ dD cX2_reduce 23 .lcmp 1) ∧ (dD cX2_reduce 24 (.ifCond .le 19) 3 ∧ dD cX2_reduce 27 (.lload_n 1) 1)))) := dkA16 (by decide +kernel)
theorem dX2_reduce_k1 : ((((dD cX2_reduce 28 (.lload_n 3) 1 ∧ dD cX2_reduce 29 .lrem 1) ∧ (dD cX2_reduce 30 (.lstore 6) 2 ∧ dD cX2_reduce 32 (.lload_n 3) 1)) ∧ ((dD cX2_reduce 33 (.lstore_n 1) 1 ∧ dD cX2_reduce 34 (.lload 6) 2) ∧ (dD cX2_reduce 36 (.lstore_n 3) 1 ∧ dD cX2_reduce 37 (.iinc 5 1) 3))) ∧ (((dD cX2_reduce 40 (.goto (-27)) 3 ∧ dD cX2_reduce 43 (.lload_n 1) 1) ∧ (dD cX2_reduce 44 (.lconst 1) 1 ∧ dD cX2_reduce 45 .lcmp 1)) ∧ ((dD cX2_reduce 46 (.ifCond .le 23) 3 ∧ dD cX2_reduce 49 (.aload_n 0) 1) ∧ (dD cX2_reduce 50 .dup 1 ∧ dD cX2_reduce 51 (.getfield 7) 3)))) := dkA16 (by decide +kernel)
theorem dX2_reduce_k2 : (((dD cX2_reduce 54 (.lload_n 1) 1 ∧ dD cX2_reduce 55 .ldiv 1) ∧ (dD cX2_reduce 56 (.putfield 7) 3 ∧ (dD cX2_reduce 59 (.aload_n 0) 1 ∧ dD cX2_reduce 60 .dup 1))) ∧ ((dD cX2_reduce 61 (.getfield 13) 3 ∧ dD cX2_reduce 64 (.lload_n 1) 1) ∧ (dD cX2_reduce 65 .ldiv 1 ∧ (dD cX2_reduce 66 (.putfield 13) 3 ∧ dD cX2_reduce 69 .return_ 1)))) := dkA10 (by decide +kernel)
set_option maxHeartbeats 4000000 in
set_option maxRecDepth 100000 in
theorem f_reduce (l : Launch) (g : Gx) (h0 : Nat) (xu : Int64) (xv : Int64) : cV l g yX2_reduce cX2_reduce 8 0 0 0 0 [.ref h0] [(cO2_ll h0 xu xv)] (fun w => ∃ (xu2 : Int64) (xv2 : Int64), w = [(cO2_ll h0 xu2 xv2)]) := by
  refine cV.of (by decide) (Nat.le_of_ble_eq_true rfl) ?_
  intro p e s m args below meth c A X hr hi
  refine k_lveq [(0, .ref h0)] rfl ?_
  refine k_aload_n X dX2_reduce_k0.1.1.1.1 0 rfl ?_
  refine k_get (ci := 2) X inlX2 rfl 0 (nlt_e rfl) dX2_reduce_k0.1.1.1.2 mw161 0 rfl rfl ?_
  refine k_lstore_n [(1, .long xu), (0, .ref h0)] X dX2_reduce_k0.1.1.2.1 (by decide) rfl ?_
  refine k_aload_n X dX2_reduce_k0.1.1.2.2 1 rfl ?_
  refine k_get (ci := 2) X inlX2 rfl 1 (nlt_e rfl) dX2_reduce_k0.1.2.1.1 mw162 0 rfl rfl ?_
  refine k_lstore_n [(3, .long xv), (1, .long xu), (0, .ref h0)] X dX2_reduce_k0.1.2.1.2 (by decide) rfl ?_
  refine k_iconst (v := 0) X dX2_reduce_k0.1.2.2.1 ic_0 ?_
  refine k_istore [(5, .int 0), (3, .long xv), (1, .long xu), (0, .ref h0)] X dX2_reduce_k0.1.2.2.2 (nlt_e rfl) rfl ?_
  refine (fun hL : ∀ (nn_4 : Nat) (u_1 : Int32) (u_2 : Int64) (u_3 : Int64), ((200 : Int32).toInt - u_1.toInt).toNat = nn_4 → Wk p l e _ s m args below meth c _ A g _ _ _ [(cO2_ll h0 xu xv)] [(5, .int u_1), (3, .long u_2), (1, .long u_3), (0, .ref h0)] 13 [] => hL _ 0 xv xu rfl ) ?_
  refine fun nn_4 => Nat.strongRecOn nn_4 (fun nn_4 ih_6 => ?_)
  intro u_1 u_2 u_3 hm_5 
  refine k_iload X dX2_reduce_k0.2.1.1.1 0 rfl ?_
  refine k_sipush (v := 200) X dX2_reduce_k0.2.1.1.2 si_200 ?_
  refine k_ic_ge 43 X dX2_reduce_k0.2.1.2.1 (jp_e rfl) (fun h_7 => ?_) (fun h_7 => ?_)
  · skip
    refine k_lload_n X dX2_reduce_k1.2.1.1.2 2 rfl ?_
    refine k_lconst (v := 1) X dX2_reduce_k1.2.1.2.1 (by decide) ?_
    refine k_lcmp X dX2_reduce_k1.2.1.2.2 ?_
    refine k_nm (fun z_8 ez_8 => ?_)
    refine k_if_le 69 X dX2_reduce_k1.2.2.1.1 (jp_e rfl) (fun h_9 => ?_) (fun h_9 => ?_)
    · skip
      exact k_vret X hr dX2_reduce_k2.2.2.2.2 (Nat.le_of_ble_eq_true rfl) (Nat.le_of_ble_eq_true rfl) [0] (vnd_e rfl) rfl rfl ⟨xu, xv, rfl⟩
    · skip
      refine k_aload_n X dX2_reduce_k1.2.2.1.2 3 rfl ?_
      refine k_dup X dX2_reduce_k1.2.2.2.1 rfl ?_
      refine k_get (ci := 2) X inlX2 rfl 0 (nlt_e rfl) dX2_reduce_k1.2.2.2.2 mw161 0 rfl rfl ?_
      refine k_lload_n X dX2_reduce_k2.1.1.1 2 rfl ?_
      refine k_ldiv X dX2_reduce_k2.1.1.2 (lgnz1 (by assumption) (by assumption)) ?_
      refine k_nmL (fun y_10 ey_10 => ?_)
      refine k_put (ci := 2) [(cO2_ll h0 y_10 xv)] X inlX2 rfl tyX2_ok nmX2 0 (nlt_e rfl) rfl dX2_reduce_k2.1.2.1 mw161 0 rfl rfl rfl (Nat.le_of_ble_eq_true rfl) rfl ?_
      refine k_aload_n X dX2_reduce_k2.1.2.2.1 3 rfl ?_
      refine k_dup X dX2_reduce_k2.1.2.2.2 rfl ?_
      refine k_get (ci := 2) X inlX2 rfl 1 (nlt_e rfl) dX2_reduce_k2.2.1.1 mw162 0 rfl rfl ?_
      refine k_lload_n X dX2_reduce_k2.2.1.2 2 rfl ?_
      refine k_ldiv X dX2_reduce_k2.2.2.1 (lgnz1 (by assumption) (by assumption)) ?_
      refine k_nmL (fun y_11 ey_11 => ?_)
      refine k_put (ci := 2) [(cO2_ll h0 y_10 y_11)] X inlX2 rfl tyX2_ok nmX2 1 (nlt_e rfl) rfl dX2_reduce_k2.2.2.2.1 mw162 0 rfl rfl rfl (Nat.le_of_ble_eq_true rfl) rfl ?_
      exact k_vret X hr dX2_reduce_k2.2.2.2.2 (Nat.le_of_ble_eq_true rfl) (Nat.le_of_ble_eq_true rfl) [0] (vnd_e rfl) rfl rfl ⟨y_10, y_11, rfl⟩
  · skip
    refine k_lload_n X dX2_reduce_k0.2.1.2.2 1 rfl ?_
    refine k_lconst (v := 0) X dX2_reduce_k0.2.2.1.1 (by decide) ?_
    refine k_lcmp X dX2_reduce_k0.2.2.1.2 ?_
    refine k_nm (fun z_12 ez_12 => ?_)
    refine k_if_le 43 X dX2_reduce_k0.2.2.2.1 (jp_e rfl) (fun h_13 => ?_) (fun h_13 => ?_)
    · skip
      refine k_lload_n X dX2_reduce_k1.2.1.1.2 2 rfl ?_
      refine k_lconst (v := 1) X dX2_reduce_k1.2.1.2.1 (by decide) ?_
      refine k_lcmp X dX2_reduce_k1.2.1.2.2 ?_
      refine k_nm (fun z_14 ez_14 => ?_)
      refine k_if_le 69 X dX2_reduce_k1.2.2.1.1 (jp_e rfl) (fun h_15 => ?_) (fun h_15 => ?_)
      · skip
        exact k_vret X hr dX2_reduce_k2.2.2.2.2 (Nat.le_of_ble_eq_true rfl) (Nat.le_of_ble_eq_true rfl) [0] (vnd_e rfl) rfl rfl ⟨xu, xv, rfl⟩
      · skip
        refine k_aload_n X dX2_reduce_k1.2.2.1.2 3 rfl ?_
        refine k_dup X dX2_reduce_k1.2.2.2.1 rfl ?_
        refine k_get (ci := 2) X inlX2 rfl 0 (nlt_e rfl) dX2_reduce_k1.2.2.2.2 mw161 0 rfl rfl ?_
        refine k_lload_n X dX2_reduce_k2.1.1.1 2 rfl ?_
        refine k_ldiv X dX2_reduce_k2.1.1.2 (lgnz1 (by assumption) (by assumption)) ?_
        refine k_nmL (fun y_16 ey_16 => ?_)
        refine k_put (ci := 2) [(cO2_ll h0 y_16 xv)] X inlX2 rfl tyX2_ok nmX2 0 (nlt_e rfl) rfl dX2_reduce_k2.1.2.1 mw161 0 rfl rfl rfl (Nat.le_of_ble_eq_true rfl) rfl ?_
        refine k_aload_n X dX2_reduce_k2.1.2.2.1 3 rfl ?_
        refine k_dup X dX2_reduce_k2.1.2.2.2 rfl ?_
        refine k_get (ci := 2) X inlX2 rfl 1 (nlt_e rfl) dX2_reduce_k2.2.1.1 mw162 0 rfl rfl ?_
        refine k_lload_n X dX2_reduce_k2.2.1.2 2 rfl ?_
        refine k_ldiv X dX2_reduce_k2.2.2.1 (lgnz1 (by assumption) (by assumption)) ?_
        refine k_nmL (fun y_17 ey_17 => ?_)
        refine k_put (ci := 2) [(cO2_ll h0 y_16 y_17)] X inlX2 rfl tyX2_ok nmX2 1 (nlt_e rfl) rfl dX2_reduce_k2.2.2.2.1 mw162 0 rfl rfl rfl (Nat.le_of_ble_eq_true rfl) rfl ?_
        exact k_vret X hr dX2_reduce_k2.2.2.2.2 (Nat.le_of_ble_eq_true rfl) (Nat.le_of_ble_eq_true rfl) [0] (vnd_e rfl) rfl rfl ⟨y_16, y_17, rfl⟩
    · skip
      refine k_lload_n X dX2_reduce_k0.2.2.2.2 2 rfl ?_
      refine k_lload_n X dX2_reduce_k1.1.1.1.1 1 rfl ?_
      refine k_lrem X dX2_reduce_k1.1.1.1.2 (lgnz0 (by assumption) (by assumption)) ?_
      refine k_nmL (fun y_18 ey_18 => ?_)
      refine k_lstore [(6, .long y_18), (5, .int u_1), (3, .long u_2), (1, .long u_3), (0, .ref h0)] X dX2_reduce_k1.1.1.2.1 (by decide) rfl ?_
      refine k_lload_n X dX2_reduce_k1.1.1.2.2 2 rfl ?_
      refine k_lstore_n [(1, .long u_2), (6, .long y_18), (5, .int u_1), (3, .long u_2), (0, .ref h0)] X dX2_reduce_k1.1.2.1.1 (by decide) rfl ?_
      refine k_lload X dX2_reduce_k1.1.2.1.2 1 rfl ?_
      refine k_lstore_n [(3, .long y_18), (1, .long u_2), (6, .long y_18), (5, .int u_1), (0, .ref h0)] X dX2_reduce_k1.1.2.2.1 (by decide) rfl ?_
      obtain ⟨z_19, ez_19⟩ : ∃ y : Int32, u_1 + Int32.ofInt 1 = y := ⟨_, rfl⟩
      refine k_iinc z_19 [(5, .int z_19), (3, .long y_18), (1, .long u_2), (6, .long y_18), (0, .ref h0)] 3 X dX2_reduce_k1.1.2.2.2 rfl ez_19 (nlt_e rfl) rfl ?_
      refine k_goto 13 X dX2_reduce_k1.2.1.1.1 (jp_e rfl) ?_
      refine k_lv [(5, .int z_19), (3, .long y_18), (1, .long u_2), (0, .ref h0)] [0, 1, 2, 4] rfl ?_
      exact ih_6 _ (by rw [← hm_5]; exact mu_lt (by assumption) (by assumption)) z_19 y_18 u_2 rfl 

theorem dJ6_bitCount_0f7a4_k0 : ((((dD cJ6_bitCount_0f7a4 0 (.iload_n 0) 1 ∧ dD cJ6_bitCount_0f7a4 1 (.iload_n 0) 1) ∧ (dD cJ6_bitCount_0f7a4 2 (.iconst 1) 1 ∧ dD cJ6_bitCount_0f7a4 3 .iushr 1)) ∧ ((dD cJ6_bitCount_0f7a4 4 (.ldc_w 265) 3 ∧ dD cJ6_bitCount_0f7a4 7 .iand 1) ∧ (dD cJ6_bitCount_0f7a4 8 .isub 1 ∧ dD cJ6_bitCount_0f7a4 9 (.istore_n 0) 1))) ∧ (((dD cJ6_bitCount_0f7a4 10 (.iload_n 0) 1 ∧ dD cJ6_bitCount_0f7a4 11 (.ldc_w 266) 3) ∧ (dD cJ6_bitCount_0f7a4 14 .iand 1 ∧ dD cJ6_bitCount_0f7a4 15 (.iload_n 0) 1)) ∧ ((dD cJ6_bitCount_0f7a4 16 (.iconst 2) 1 ∧ dD cJ6_bitCount_0f7a4 17 .iushr 1) ∧ (dD cJ6_bitCount_0f7a4 18 (.ldc_w 266) 3 ∧ dD cJ6_bitCount_0f7a4 21 .iand 1)))) := dkA16 (by decide +kernel)
theorem dJ6_bitCount_0f7a4_k1 : ((((dD cJ6_bitCount_0f7a4 22 .iadd 1 ∧ dD cJ6_bitCount_0f7a4 23 (.istore_n 0) 1) ∧ (dD cJ6_bitCount_0f7a4 24 (.iload_n 0) 1 ∧ dD cJ6_bitCount_0f7a4 25 (.iload_n 0) 1)) ∧ ((dD cJ6_bitCount_0f7a4 26 (.iconst 4) 1 ∧ dD cJ6_bitCount_0f7a4 27 .iushr 1) ∧ (dD cJ6_bitCount_0f7a4 28 .iadd 1 ∧ dD cJ6_bitCount_0f7a4 29 (.ldc_w 267) 3))) ∧ (((dD cJ6_bitCount_0f7a4 32 .iand 1 ∧ dD cJ6_bitCount_0f7a4 33 (.istore_n 0) 1) ∧ (dD cJ6_bitCount_0f7a4 34 (.iload_n 0) 1 ∧ dD cJ6_bitCount_0f7a4 35 (.iload_n 0) 1)) ∧ ((dD cJ6_bitCount_0f7a4 36 (.bipush 8) 2 ∧ dD cJ6_bitCount_0f7a4 38 .iushr 1) ∧ (dD cJ6_bitCount_0f7a4 39 .iadd 1 ∧ dD cJ6_bitCount_0f7a4 40 (.istore_n 0) 1)))) := dkA16 (by decide +kernel)
theorem dJ6_bitCount_0f7a4_k2 : (((dD cJ6_bitCount_0f7a4 41 (.iload_n 0) 1 ∧ dD cJ6_bitCount_0f7a4 42 (.iload_n 0) 1) ∧ (dD cJ6_bitCount_0f7a4 43 (.bipush 16) 2 ∧ (dD cJ6_bitCount_0f7a4 45 .iushr 1 ∧ dD cJ6_bitCount_0f7a4 46 .iadd 1))) ∧ ((dD cJ6_bitCount_0f7a4 47 (.istore_n 0) 1 ∧ dD cJ6_bitCount_0f7a4 48 (.iload_n 0) 1) ∧ (dD cJ6_bitCount_0f7a4 49 (.bipush 63) 2 ∧ (dD cJ6_bitCount_0f7a4 51 .iand 1 ∧ dD cJ6_bitCount_0f7a4 52 .ireturn 1)))) := dkA10 (by decide +kernel)
set_option maxHeartbeats 4000000 in
set_option maxRecDepth 100000 in
theorem j_bitCount (l : Launch) (g : Gx) (p0 : Int32) : cI l g yJ6_bitCount_0f7a4 cJ6_bitCount_0f7a4 1 (some .int) 0 0 0 0 [.int p0] [] (fun r w => w = []) := by
  refine cI.of (by decide) (Nat.le_of_ble_eq_true rfl) ?_
  intro p e s m args below meth c A X hr hi
  refine k_lveq [(0, .int p0)] rfl ?_
  refine k_iload_n X dJ6_bitCount_0f7a4_k0.1.1.1.1 0 rfl ?_
  refine k_iload_n X dJ6_bitCount_0f7a4_k0.1.1.1.2 0 rfl ?_
  refine k_iconst (v := 1) X dJ6_bitCount_0f7a4_k0.1.1.2.1 ic_1 ?_
  refine k_iushr X dJ6_bitCount_0f7a4_k0.1.1.2.2 ?_
  refine k_nm (fun z_1 ez_1 => ?_)
  refine k_ldcw (v := 1431655765) X dJ6_bitCount_0f7a4_k0.1.2.1.1 mw1102 ?_
  refine k_iand X dJ6_bitCount_0f7a4_k0.1.2.1.2 ?_
  refine k_nm (fun z_2 ez_2 => ?_)
  refine k_isub X dJ6_bitCount_0f7a4_k0.1.2.2.1 ?_
  refine k_nm (fun z_3 ez_3 => ?_)
  refine k_istore_n [(0, .int z_3)] X dJ6_bitCount_0f7a4_k0.1.2.2.2 (nlt_e rfl) rfl ?_
  refine k_iload_n X dJ6_bitCount_0f7a4_k0.2.1.1.1 0 rfl ?_
  refine k_ldcw (v := 858993459) X dJ6_bitCount_0f7a4_k0.2.1.1.2 mw1103 ?_
  refine k_iand X dJ6_bitCount_0f7a4_k0.2.1.2.1 ?_
  refine k_nm (fun z_4 ez_4 => ?_)
  refine k_iload_n X dJ6_bitCount_0f7a4_k0.2.1.2.2 0 rfl ?_
  refine k_iconst (v := 2) X dJ6_bitCount_0f7a4_k0.2.2.1.1 ic_2 ?_
  refine k_iushr X dJ6_bitCount_0f7a4_k0.2.2.1.2 ?_
  refine k_nm (fun z_5 ez_5 => ?_)
  refine k_ldcw (v := 858993459) X dJ6_bitCount_0f7a4_k0.2.2.2.1 mw1103 ?_
  refine k_iand X dJ6_bitCount_0f7a4_k0.2.2.2.2 ?_
  refine k_nm (fun z_6 ez_6 => ?_)
  refine k_iadd X dJ6_bitCount_0f7a4_k1.1.1.1.1 ?_
  refine k_nm (fun z_7 ez_7 => ?_)
  refine k_istore_n [(0, .int z_7)] X dJ6_bitCount_0f7a4_k1.1.1.1.2 (nlt_e rfl) rfl ?_
  refine k_iload_n X dJ6_bitCount_0f7a4_k1.1.1.2.1 0 rfl ?_
  refine k_iload_n X dJ6_bitCount_0f7a4_k1.1.1.2.2 0 rfl ?_
  refine k_iconst (v := 4) X dJ6_bitCount_0f7a4_k1.1.2.1.1 ic_4 ?_
  refine k_iushr X dJ6_bitCount_0f7a4_k1.1.2.1.2 ?_
  refine k_nm (fun z_8 ez_8 => ?_)
  refine k_iadd X dJ6_bitCount_0f7a4_k1.1.2.2.1 ?_
  refine k_nm (fun z_9 ez_9 => ?_)
  refine k_ldcw (v := 252645135) X dJ6_bitCount_0f7a4_k1.1.2.2.2 mw1104 ?_
  refine k_iand X dJ6_bitCount_0f7a4_k1.2.1.1.1 ?_
  refine k_nm (fun z_10 ez_10 => ?_)
  refine k_istore_n [(0, .int z_10)] X dJ6_bitCount_0f7a4_k1.2.1.1.2 (nlt_e rfl) rfl ?_
  refine k_iload_n X dJ6_bitCount_0f7a4_k1.2.1.2.1 0 rfl ?_
  refine k_iload_n X dJ6_bitCount_0f7a4_k1.2.1.2.2 0 rfl ?_
  refine k_bipush (v := 8) X dJ6_bitCount_0f7a4_k1.2.2.1.1 bi_8 ?_
  refine k_iushr X dJ6_bitCount_0f7a4_k1.2.2.1.2 ?_
  refine k_nm (fun z_11 ez_11 => ?_)
  refine k_iadd X dJ6_bitCount_0f7a4_k1.2.2.2.1 ?_
  refine k_nm (fun z_12 ez_12 => ?_)
  refine k_istore_n [(0, .int z_12)] X dJ6_bitCount_0f7a4_k1.2.2.2.2 (nlt_e rfl) rfl ?_
  refine k_iload_n X dJ6_bitCount_0f7a4_k2.1.1.1 0 rfl ?_
  refine k_iload_n X dJ6_bitCount_0f7a4_k2.1.1.2 0 rfl ?_
  refine k_bipush (v := 16) X dJ6_bitCount_0f7a4_k2.1.2.1 bi_16 ?_
  refine k_iushr X dJ6_bitCount_0f7a4_k2.1.2.2.1 ?_
  refine k_nm (fun z_13 ez_13 => ?_)
  refine k_iadd X dJ6_bitCount_0f7a4_k2.1.2.2.2 ?_
  refine k_nm (fun z_14 ez_14 => ?_)
  refine k_istore_n [(0, .int z_14)] X dJ6_bitCount_0f7a4_k2.2.1.1 (nlt_e rfl) rfl ?_
  refine k_iload_n X dJ6_bitCount_0f7a4_k2.2.1.2 0 rfl ?_
  refine k_bipush (v := 63) X dJ6_bitCount_0f7a4_k2.2.2.1 bi_63 ?_
  refine k_iand X dJ6_bitCount_0f7a4_k2.2.2.2.1 ?_
  refine k_nm (fun z_15 ez_15 => ?_)
  exact k_iret X hr dJ6_bitCount_0f7a4_k2.2.2.2.2 (Nat.le_of_ble_eq_true rfl) (Nat.le_of_ble_eq_true rfl) [] (vnd_e rfl) rfl rfl rfl

theorem dX0_fewestTrims_k0 : ((((dD cX0_fewestTrims 0 (.bipush (-2)) 2 ∧ dD cX0_fewestTrims 2 (.istore_n 3) 1) ∧ (dD cX0_fewestTrims 3 (.ldc 57) 2 ∧ dD cX0_fewestTrims 5 (.istore 4) 2)) ∧ ((dD cX0_fewestTrims 7 (.iconst 0) 1 ∧ dD cX0_fewestTrims 8 (.istore 5) 2) ∧ (dD cX0_fewestTrims 10 (.iload 5) 2 ∧ dD cX0_fewestTrims 12 (.iconst 1) 1))) ∧ (((dD cX0_fewestTrims 13 (.aload_n 2) 1 ∧ dD cX0_fewestTrims 14 (.getfield 30) 3) ∧ (dD cX0_fewestTrims 17 (.getfield 35) 3 ∧ dD cX0_fewestTrims 20 .ishl 1)) ∧ ((dD cX0_fewestTrims 21 (.if_icmp .ge 44) 3 ∧ dD cX0_fewestTrims 24 (.iload 5) 2) ∧ (dD cX0_fewestTrims 26 (.invokestatic 58) 3 ∧ dD cX0_fewestTrims 29 (.iload 4) 2)))) := dkA16 (by decide +kernel)
theorem dX0_fewestTrims_k1 : ((((dD cX0_fewestTrims 31 (.if_icmp .ge 28) 3 ∧ dD cX0_fewestTrims 34 (.aload_n 0) 1) ∧ (dD cX0_fewestTrims 35 (.aload_n 1) 1 ∧ dD cX0_fewestTrims 36 (.aload_n 2) 1)) ∧ ((dD cX0_fewestTrims 37 (.iload 5) 2 ∧ dD cX0_fewestTrims 39 (.invokevirtual 61) 3) ∧ (dD cX0_fewestTrims 42 (.aload_n 0) 1 ∧ dD cX0_fewestTrims 43 (.getfield 20) 3))) ∧ (((dD cX0_fewestTrims 46 (.ifCond .ne 13) 3 ∧ dD cX0_fewestTrims 49 (.iload 5) 2) ∧ (dD cX0_fewestTrims 51 (.istore_n 3) 1 ∧ dD cX0_fewestTrims 52 (.iload 5) 2)) ∧ ((dD cX0_fewestTrims 54 (.invokestatic 58) 3 ∧ dD cX0_fewestTrims 57 (.istore 4) 2) ∧ (dD cX0_fewestTrims 59 (.iinc 5 4) 3 ∧ dD cX0_fewestTrims 62 (.goto (-52)) 3)))) := dkA16 (by decide +kernel)
theorem dX0_fewestTrims_k2 : (dD cX0_fewestTrims 65 (.iload_n 3) 1 ∧ dD cX0_fewestTrims 66 .ireturn 1) := dkA2 (by decide +kernel)
set_option maxHeartbeats 4000000 in
set_option maxRecDepth 100000 in
theorem a_fewest (l : Launch) (g : Gx) (h0 : Nat) (hh : Nat) (nn : Nat) (al : Nat) (xd : Int32) (alc : Nat) (aln : Int32) (alf : Nat → Int32) (v0hh : Value) (yhn : Nat) (v2hh : Value) (v3hh : Value) (v4hh : Value) (v5hh : Value) (v6hh : Value) (v7hh : Value) (yhnc : Nat) (yhnn : Int32) (yhnf : Nat → Int32) (nr : Nat) (xsnapped : Int32) (xmostSlip : Int32) (xslip : Int32) (xisDrawn : Int32) (xseed : Int32) (xtick : Int32) (xmotorTick : Int32) (xahead : Int32) (nrc : Nat) (nrn : Int32) (nrf : Nat → Int32) : cI l g yX0_fewestTrims cX0_fewestTrims 6 (some .int) 3 71 0 0 [.ref h0, .ref hh, .ref nn] [(cO0_ri h0 al xd), (cO8_iiri al 8 1 alc aln), (cAI g alc 8 alf), (cO3_vrvvvvvv hh v0hh yhn v2hh v3hh v4hh v5hh v6hh v7hh), (cO8_iiri yhn 1 6 yhnc yhnn), (cAI g yhnc 6 yhnf), (cO5_riiiiiiii nn nr xsnapped xmostSlip xslip xisDrawn xseed xtick xmotorTick xahead), (cO8_iiri nr 8 10 nrc nrn), (cAI g nrc 80 nrf)] (fun r w => ∃ (xd2 : Int32) (alg : Nat → Int32), w = [(cO0_ri h0 al xd2), (cO8_iiri al 8 1 alc aln), (cAI g alc 8 alg), (cO3_vrvvvvvv hh v0hh yhn v2hh v3hh v4hh v5hh v6hh v7hh), (cO8_iiri yhn 1 6 yhnc yhnn), (cAI g yhnc 6 yhnf), (cO5_riiiiiiii nn nr xsnapped xmostSlip xslip xisDrawn xseed xtick xmotorTick xahead), (cO8_iiri nr 8 10 nrc nrn), (cAI g nrc 80 nrf)]) := by
  refine cI.of (by decide) (Nat.le_of_ble_eq_true rfl) ?_
  intro p e s m args below meth c A X hr hi
  refine k_lveq [(0, .ref h0), (1, .ref hh), (2, .ref nn)] rfl ?_
  refine k_bipush (v := -2) X dX0_fewestTrims_k0.1.1.1.1 bi_m2 ?_
  refine k_istore_n [(3, .int (-2)), (0, .ref h0), (1, .ref hh), (2, .ref nn)] X dX0_fewestTrims_k0.1.1.1.2 (nlt_e rfl) rfl ?_
  refine k_ldc (v := 2147483647) X dX0_fewestTrims_k0.1.1.2.1 mw1097 ?_
  refine k_istore [(4, .int 2147483647), (3, .int (-2)), (0, .ref h0), (1, .ref hh), (2, .ref nn)] X dX0_fewestTrims_k0.1.1.2.2 (nlt_e rfl) rfl ?_
  refine k_iconst (v := 0) X dX0_fewestTrims_k0.1.2.1.1 ic_0 ?_
  refine k_istore [(5, .int 0), (4, .int 2147483647), (3, .int (-2)), (0, .ref h0), (1, .ref hh), (2, .ref nn)] X dX0_fewestTrims_k0.1.2.1.2 (nlt_e rfl) rfl ?_
  refine (fun hL : ∀ (nn_6 : Nat) (u_1 : Int32) (u_2 : Int32) (u_3 : Int32) (uf_4 : Nat → Int32) (u_5 : Int32), (((1 : Int32) <<< (nrn &&& 31)).toInt - u_1.toInt).toNat = nn_6 → Wk p l e _ s m args below meth c _ A g _ _ _ [(cO0_ri h0 al u_5), (cO8_iiri al 8 1 alc aln), (cAI g alc 8 uf_4), (cO3_vrvvvvvv hh v0hh yhn v2hh v3hh v4hh v5hh v6hh v7hh), (cO8_iiri yhn 1 6 yhnc yhnn), (cAI g yhnc 6 yhnf), (cO5_riiiiiiii nn nr xsnapped xmostSlip xslip xisDrawn xseed xtick xmotorTick xahead), (cO8_iiri nr 8 10 nrc nrn), (cAI g nrc 80 nrf)] [(5, .int u_1), (4, .int u_2), (3, .int u_3), (0, .ref h0), (1, .ref hh), (2, .ref nn)] 10 [] => hL _ 0 2147483647 ((-2)) alf xd rfl ) ?_
  refine fun nn_6 => Nat.strongRecOn nn_6 (fun nn_6 ih_8 => ?_)
  intro u_1 u_2 u_3 uf_4 u_5 hm_7 
  refine k_iload X dX0_fewestTrims_k0.1.2.2.1 0 rfl ?_
  refine k_iconst (v := 1) X dX0_fewestTrims_k0.1.2.2.2 ic_1 ?_
  refine k_aload_n X dX0_fewestTrims_k0.2.1.1.1 5 rfl ?_
  refine k_get (ci := 5) X inlX5 rfl 0 (nlt_e rfl) dX0_fewestTrims_k0.2.1.1.2 mw1036 6 rfl rfl ?_
  refine k_get (ci := 8) X inlX8 rfl 3 (nlt_e rfl) dX0_fewestTrims_k0.2.1.2.1 mw1037 7 rfl rfl ?_
  refine k_ishl X dX0_fewestTrims_k0.2.1.2.2 ?_
  refine k_nm (fun z_9 ez_9 => ?_)
  refine k_ic_ge 65 X dX0_fewestTrims_k0.2.2.1.1 (jp_e rfl) (fun h_10 => ?_) (fun h_10 => ?_)
  · skip
    refine k_iload_n X dX0_fewestTrims_k2.1 2 rfl ?_
    exact k_iret X hr dX0_fewestTrims_k2.2 (Nat.le_of_ble_eq_true rfl) (Nat.le_of_ble_eq_true rfl) [0, 1, 2, 3, 4, 5, 6, 7, 8] (vnd_e rfl) rfl rfl ⟨u_5, uf_4, rfl⟩
  · skip
    refine k_iload X dX0_fewestTrims_k0.2.2.1.2 0 rfl ?_
    refine k_callSI (n := 1) (As := [.int u_1]) (st := []) X [] [(cO0_ri h0 al u_5), (cO8_iiri al 8 1 alc aln), (cAI g alc 8 uf_4), (cO3_vrvvvvvv hh v0hh yhn v2hh v3hh v4hh v5hh v6hh v7hh), (cO8_iiri yhn 1 6 yhnc yhnn), (cAI g yhnc 6 yhnf), (cO5_riiiiiiii nn nr xsnapped xmostSlip xslip xisDrawn xseed xtick xmotorTick xahead), (cO8_iiri nr 8 10 nrc nrn), (cAI g nrc 80 nrf)] [] [0, 1, 2, 3, 4, 5, 6, 7, 8] (j_bitCount l g u_1) dX0_fewestTrims_k0.2.2.2.1 mw1098 mw1099 mw1100 mw1101 yk_yJ6_bitCount_0f7a4_1 rfl (Nat.le_of_ble_eq_true rfl) (Nat.le_of_ble_eq_true rfl) (Nat.le_of_ble_eq_true rfl) (Nat.le_of_ble_eq_true rfl) (Nat.le_of_ble_eq_true rfl) rfl rfl (vnd_e rfl) rfl (vnd_e rfl) (dsj_e rfl) ?_
    rintro r_11 w rfl
    refine k_ws [(cO0_ri h0 al u_5), (cO8_iiri al 8 1 alc aln), (cAI g alc 8 uf_4), (cO3_vrvvvvvv hh v0hh yhn v2hh v3hh v4hh v5hh v6hh v7hh), (cO8_iiri yhn 1 6 yhnc yhnn), (cAI g yhnc 6 yhnf), (cO5_riiiiiiii nn nr xsnapped xmostSlip xslip xisDrawn xseed xtick xmotorTick xahead), (cO8_iiri nr 8 10 nrc nrn), (cAI g nrc 80 nrf)] rfl ?_
    refine k_iload X dX0_fewestTrims_k0.2.2.2.2 1 rfl ?_
    refine k_ic_ge 59 X dX0_fewestTrims_k1.1.1.1.1 (jp_e rfl) (fun h_13 => ?_) (fun h_13 => ?_)
    · skip
      obtain ⟨z_14, ez_14⟩ : ∃ y : Int32, u_1 + Int32.ofInt 4 = y := ⟨_, rfl⟩
      refine k_iinc z_14 [(5, .int z_14), (4, .int u_2), (3, .int u_3), (0, .ref h0), (1, .ref hh), (2, .ref nn)] 0 X dX0_fewestTrims_k1.2.2.2.1 rfl ez_14 (nlt_e rfl) rfl ?_
      refine k_goto 10 X dX0_fewestTrims_k1.2.2.2.2 (jp_e rfl) ?_
      exact ih_8 _ (by rw [← hm_7]; exact mu_4 (by assumption) (by assumption) (by assumption)) z_14 u_2 u_3 uf_4 u_5 rfl 
    · skip
      refine k_aload_n X dX0_fewestTrims_k1.1.1.1.2 3 rfl ?_
      refine k_aload_n X dX0_fewestTrims_k1.1.1.2.1 4 rfl ?_
      refine k_aload_n X dX0_fewestTrims_k1.1.1.2.2 5 rfl ?_
      refine k_iload X dX0_fewestTrims_k1.1.2.1.1 0 rfl ?_
      refine k_callVV (n := 3) (As := [.ref hh, .ref nn, .int u_1]) (st := []) X [(cO0_ri h0 al u_5), (cO8_iiri al 8 1 alc aln), (cAI g alc 8 uf_4), (cO3_vrvvvvvv hh v0hh yhn v2hh v3hh v4hh v5hh v6hh v7hh), (cO8_iiri yhn 1 6 yhnc yhnn), (cAI g yhnc 6 yhnf), (cO5_riiiiiiii nn nr xsnapped xmostSlip xslip xisDrawn xseed xtick xmotorTick xahead), (cO8_iiri nr 8 10 nrc nrn), (cAI g nrc 80 nrf)] [] [0, 1, 2, 3, 4, 5, 6, 7, 8] [] (a_burn l g h0 hh nn u_1 al u_5 alc aln uf_4 v0hh yhn v2hh v3hh v4hh v5hh v6hh v7hh yhnc yhnn yhnf nr xsnapped xmostSlip xslip xisDrawn xseed xtick xmotorTick xahead nrc nrn nrf) dX0_fewestTrims_k1.1.2.1.2 mw1105 mw1033 mw1034 mw35 mw1035 rfl 0 rfl rfl 0 _ rfl yk_yX0_burn_3 rfl (Nat.le_of_ble_eq_true rfl) (Nat.le_of_ble_eq_true rfl) (Nat.le_of_ble_eq_true rfl) (Nat.le_of_ble_eq_true rfl) (Nat.le_of_ble_eq_true rfl) rfl rfl (vnd_e rfl) rfl (vnd_e rfl) (dsj_e rfl) ?_
      rintro w ⟨xd2_15, alg_16, rfl⟩
      refine k_ws [(cO0_ri h0 al xd2_15), (cO8_iiri al 8 1 alc aln), (cAI g alc 8 alg_16), (cO3_vrvvvvvv hh v0hh yhn v2hh v3hh v4hh v5hh v6hh v7hh), (cO8_iiri yhn 1 6 yhnc yhnn), (cAI g yhnc 6 yhnf), (cO5_riiiiiiii nn nr xsnapped xmostSlip xslip xisDrawn xseed xtick xmotorTick xahead), (cO8_iiri nr 8 10 nrc nrn), (cAI g nrc 80 nrf)] rfl ?_
      refine k_aload_n X dX0_fewestTrims_k1.1.2.2.1 3 rfl ?_
      refine k_get (ci := 0) X inlX0 rfl 1 (nlt_e rfl) dX0_fewestTrims_k1.1.2.2.2 mw140 0 rfl rfl ?_
      refine k_if_ne 59 X dX0_fewestTrims_k1.2.1.1.1 (jp_e rfl) (fun h_19 => ?_) (fun h_19 => ?_)
      · skip
        obtain ⟨z_20, ez_20⟩ : ∃ y : Int32, u_1 + Int32.ofInt 4 = y := ⟨_, rfl⟩
        refine k_iinc z_20 [(5, .int z_20), (4, .int u_2), (3, .int u_3), (0, .ref h0), (1, .ref hh), (2, .ref nn)] 0 X dX0_fewestTrims_k1.2.2.2.1 rfl ez_20 (nlt_e rfl) rfl ?_
        refine k_goto 10 X dX0_fewestTrims_k1.2.2.2.2 (jp_e rfl) ?_
        exact ih_8 _ (by rw [← hm_7]; exact mu_4 (by assumption) (by assumption) (by assumption)) z_20 u_2 u_3 alg_16 xd2_15 rfl 
      · skip
        refine k_iload X dX0_fewestTrims_k1.2.1.1.2 0 rfl ?_
        refine k_istore_n [(3, .int u_1), (5, .int u_1), (4, .int u_2), (0, .ref h0), (1, .ref hh), (2, .ref nn)] X dX0_fewestTrims_k1.2.1.2.1 (nlt_e rfl) rfl ?_
        refine k_iload X dX0_fewestTrims_k1.2.1.2.2 1 rfl ?_
        refine k_callSI (n := 1) (As := [.int u_1]) (st := []) X [] [(cO0_ri h0 al xd2_15), (cO8_iiri al 8 1 alc aln), (cAI g alc 8 alg_16), (cO3_vrvvvvvv hh v0hh yhn v2hh v3hh v4hh v5hh v6hh v7hh), (cO8_iiri yhn 1 6 yhnc yhnn), (cAI g yhnc 6 yhnf), (cO5_riiiiiiii nn nr xsnapped xmostSlip xslip xisDrawn xseed xtick xmotorTick xahead), (cO8_iiri nr 8 10 nrc nrn), (cAI g nrc 80 nrf)] [] [0, 1, 2, 3, 4, 5, 6, 7, 8] (j_bitCount l g u_1) dX0_fewestTrims_k1.2.2.1.1 mw1098 mw1099 mw1100 mw1101 yk_yJ6_bitCount_0f7a4_1 rfl (Nat.le_of_ble_eq_true rfl) (Nat.le_of_ble_eq_true rfl) (Nat.le_of_ble_eq_true rfl) (Nat.le_of_ble_eq_true rfl) (Nat.le_of_ble_eq_true rfl) rfl rfl (vnd_e rfl) rfl (vnd_e rfl) (dsj_e rfl) ?_
        rintro r_21 w rfl
        refine k_ws [(cO0_ri h0 al xd2_15), (cO8_iiri al 8 1 alc aln), (cAI g alc 8 alg_16), (cO3_vrvvvvvv hh v0hh yhn v2hh v3hh v4hh v5hh v6hh v7hh), (cO8_iiri yhn 1 6 yhnc yhnn), (cAI g yhnc 6 yhnf), (cO5_riiiiiiii nn nr xsnapped xmostSlip xslip xisDrawn xseed xtick xmotorTick xahead), (cO8_iiri nr 8 10 nrc nrn), (cAI g nrc 80 nrf)] rfl ?_
        refine k_istore [(4, .int r_21), (3, .int u_1), (5, .int u_1), (0, .ref h0), (1, .ref hh), (2, .ref nn)] X dX0_fewestTrims_k1.2.2.1.2 (nlt_e rfl) rfl ?_
        obtain ⟨z_23, ez_23⟩ : ∃ y : Int32, u_1 + Int32.ofInt 4 = y := ⟨_, rfl⟩
        refine k_iinc z_23 [(5, .int z_23), (4, .int r_21), (3, .int u_1), (0, .ref h0), (1, .ref hh), (2, .ref nn)] 2 X dX0_fewestTrims_k1.2.2.2.1 rfl ez_23 (nlt_e rfl) rfl ?_
        refine k_goto 10 X dX0_fewestTrims_k1.2.2.2.2 (jp_e rfl) ?_
        exact ih_8 _ (by rw [← hm_7]; exact mu_4 (by assumption) (by assumption) (by assumption)) z_23 r_21 u_1 alg_16 xd2_15 rfl 

theorem dX1_unit_k0 : ((dD cX1_unit 0 (.lconst 1) 1 ∧ (dD cX1_unit 1 (.iconst 5) 1 ∧ dD cX1_unit 2 (.iload_n 0) 1)) ∧ (dD cX1_unit 3 .imul 1 ∧ (dD cX1_unit 4 .lshl 1 ∧ dD cX1_unit 5 .lreturn 1))) := dkA6 (by decide +kernel)
set_option maxHeartbeats 4000000 in
set_option maxRecDepth 100000 in
theorem e_unit (l : Launch) (g : Gx) (p0 : Int32) : cL l g yX1_unit cX1_unit 1 (some .long) 0 0 0 0 [.int p0] [] (fun r w => w = []) := by
  refine cL.of (by decide) (Nat.le_of_ble_eq_true rfl) ?_
  intro p e s m args below meth c A X hr hi
  refine k_lveq [(0, .int p0)] rfl ?_
  refine k_lconst (v := 1) X dX1_unit_k0.1.1 (by decide) ?_
  refine k_iconst (v := 5) X dX1_unit_k0.1.2.1 ic_5 ?_
  refine k_iload_n X dX1_unit_k0.1.2.2 0 rfl ?_
  refine k_imul X dX1_unit_k0.2.1 ?_
  refine k_nm (fun z_1 ez_1 => ?_)
  refine k_lshl X dX1_unit_k0.2.2.1 ?_
  refine k_nmL (fun y_2 ey_2 => ?_)
  exact k_lret X hr dX1_unit_k0.2.2.2 (Nat.le_of_ble_eq_true rfl) (Nat.le_of_ble_eq_true rfl) [] (vnd_e rfl) rfl rfl rfl

theorem dX1_wrongPlaces_k0 : ((((dD cX1_wrongPlaces 0 (.iconst 0) 1 ∧ dD cX1_wrongPlaces 1 (.istore_n 2) 1) ∧ (dD cX1_wrongPlaces 2 (.iconst 1) 1 ∧ dD cX1_wrongPlaces 3 (.istore_n 3) 1)) ∧ ((dD cX1_wrongPlaces 4 (.iload_n 3) 1 ∧ dD cX1_wrongPlaces 5 (.aload_n 1) 1) ∧ (dD cX1_wrongPlaces 6 (.getfield 27) 3 ∧ dD cX1_wrongPlaces 9 (.getfield 32) 3))) ∧ (((dD cX1_wrongPlaces 12 (.if_icmp .ge 44) 3 ∧ dD cX1_wrongPlaces 15 (.iconst 0) 1) ∧ (dD cX1_wrongPlaces 16 (.istore 4) 2 ∧ dD cX1_wrongPlaces 18 (.iload 4) 2)) ∧ ((dD cX1_wrongPlaces 20 (.iload_n 3) 1 ∧ dD cX1_wrongPlaces 21 (.if_icmp .ge 29) 3) ∧ (dD cX1_wrongPlaces 24 (.aload_n 1) 1 ∧ dD cX1_wrongPlaces 25 (.iload 4) 2)))) := dkA16 (by decide +kernel)
theorem dX1_wrongPlaces_k1 : ((((dD cX1_wrongPlaces 27 (.invokevirtual 36) 3 ∧ dD cX1_wrongPlaces 30 (.aload_n 1) 1) ∧ (dD cX1_wrongPlaces 31 (.iload_n 3) 1 ∧ dD cX1_wrongPlaces 32 (.invokevirtual 36) 3)) ∧ ((dD cX1_wrongPlaces 35 (.if_icmp .lt 9) 3 ∧ dD cX1_wrongPlaces 38 (.iload_n 2) 1) ∧ (dD cX1_wrongPlaces 39 (.iconst 1) 1 ∧ dD cX1_wrongPlaces 40 (.iload_n 3) 1))) ∧ (((dD cX1_wrongPlaces 41 .ishl 1 ∧ dD cX1_wrongPlaces 42 .ior 1) ∧ (dD cX1_wrongPlaces 43 (.istore_n 2) 1 ∧ dD cX1_wrongPlaces 44 (.iinc 4 1) 3)) ∧ ((dD cX1_wrongPlaces 47 (.goto (-29)) 3 ∧ dD cX1_wrongPlaces 50 (.iinc 3 1) 3) ∧ (dD cX1_wrongPlaces 53 (.goto (-49)) 3 ∧ dD cX1_wrongPlaces 56 (.iload_n 2) 1)))) := dkA16 (by decide +kernel)
theorem dX1_wrongPlaces_k2 : dD cX1_wrongPlaces 57 .ireturn 1 := dkA1 (by decide +kernel)
set_option maxHeartbeats 4000000 in
set_option maxRecDepth 100000 in
theorem e_wrong (l : Launch) (g : Gx) (h0 : Nat) (hs : Nat) (v0h0 : Value) (v1h0 : Value) (v2h0 : Value) (v0hs : Value) (v1hs : Value) (v2hs : Value) (zp : Nat) (zmd : Int32) (ztr : Int32) (zpc : Nat) (zpn : Int32) (zpf : Nat → Int32) : cI l g yX1_wrongPlaces cX1_wrongPlaces 5 (some .int) 2 43 0 0 [.ref h0, .ref hs] [(cO1_vvv h0 v0h0 v1h0 v2h0), (cO7_vvvrii hs v0hs v1hs v2hs zp zmd ztr), (cO8_iiri zp 8 2 zpc zpn), (cAI g zpc 16 zpf)] (fun r w => w = [(cO1_vvv h0 v0h0 v1h0 v2h0), (cO7_vvvrii hs v0hs v1hs v2hs zp zmd ztr), (cO8_iiri zp 8 2 zpc zpn), (cAI g zpc 16 zpf)]) := by
  refine cI.of (by decide) (Nat.le_of_ble_eq_true rfl) ?_
  intro p e s m args below meth c A X hr hi
  refine k_lveq [(0, .ref h0), (1, .ref hs)] rfl ?_
  refine k_iconst (v := 0) X dX1_wrongPlaces_k0.1.1.1.1 ic_0 ?_
  refine k_istore_n [(2, .int 0), (0, .ref h0), (1, .ref hs)] X dX1_wrongPlaces_k0.1.1.1.2 (nlt_e rfl) rfl ?_
  refine k_iconst (v := 1) X dX1_wrongPlaces_k0.1.1.2.1 ic_1 ?_
  refine k_istore_n [(3, .int 1), (2, .int 0), (0, .ref h0), (1, .ref hs)] X dX1_wrongPlaces_k0.1.1.2.2 (nlt_e rfl) rfl ?_
  refine (fun hL : ∀ (nn_3 : Nat) (u_1 : Int32) (u_2 : Int32), (zpn.toInt - u_1.toInt).toNat = nn_3 → Wk p l e _ s m args below meth c _ A g _ _ _ [(cO1_vvv h0 v0h0 v1h0 v2h0), (cO7_vvvrii hs v0hs v1hs v2hs zp zmd ztr), (cO8_iiri zp 8 2 zpc zpn), (cAI g zpc 16 zpf)] [(3, .int u_1), (2, .int u_2), (0, .ref h0), (1, .ref hs)] 4 [] => hL _ 1 0 rfl ) ?_
  refine fun nn_3 => Nat.strongRecOn nn_3 (fun nn_3 ih_5 => ?_)
  intro u_1 u_2 hm_4 
  refine k_iload_n X dX1_wrongPlaces_k0.1.2.1.1 0 rfl ?_
  refine k_aload_n X dX1_wrongPlaces_k0.1.2.1.2 3 rfl ?_
  refine k_get (ci := 7) X inlX7 rfl 3 (nlt_e rfl) dX1_wrongPlaces_k0.1.2.2.1 mw1360 1 rfl rfl ?_
  refine k_get (ci := 8) X inlX8 rfl 3 (nlt_e rfl) dX1_wrongPlaces_k0.1.2.2.2 mw1361 2 rfl rfl ?_
  refine k_ic_ge 56 X dX1_wrongPlaces_k0.2.1.1.1 (jp_e rfl) (fun h_6 => ?_) (fun h_6 => ?_)
  · skip
    refine k_iload_n X dX1_wrongPlaces_k1.2.2.2.2 1 rfl ?_
    exact k_iret X hr dX1_wrongPlaces_k2 (Nat.le_of_ble_eq_true rfl) (Nat.le_of_ble_eq_true rfl) [0, 1, 2, 3] (vnd_e rfl) rfl rfl rfl
  · skip
    refine k_iconst (v := 0) X dX1_wrongPlaces_k0.2.1.1.2 ic_0 ?_
    refine k_istore [(4, .int 0), (3, .int u_1), (2, .int u_2), (0, .ref h0), (1, .ref hs)] X dX1_wrongPlaces_k0.2.1.2.1 (nlt_e rfl) rfl ?_
    refine (fun hL : ∀ (nn_9 : Nat) (u_7 : Int32) (u_8 : Int32), (u_1.toInt - u_7.toInt).toNat = nn_9 → Wk p l e _ s m args below meth c _ A g _ _ _ [(cO1_vvv h0 v0h0 v1h0 v2h0), (cO7_vvvrii hs v0hs v1hs v2hs zp zmd ztr), (cO8_iiri zp 8 2 zpc zpn), (cAI g zpc 16 zpf)] [(4, .int u_7), (3, .int u_1), (2, .int u_8), (0, .ref h0), (1, .ref hs)] 18 [] => hL _ 0 u_2 rfl ) ?_
    refine fun nn_9 => Nat.strongRecOn nn_9 (fun nn_9 ih_11 => ?_)
    intro u_7 u_8 hm_10 
    refine k_iload X dX1_wrongPlaces_k0.2.1.2.2 0 rfl ?_
    refine k_iload_n X dX1_wrongPlaces_k0.2.2.1.1 1 rfl ?_
    refine k_ic_ge 50 X dX1_wrongPlaces_k0.2.2.1.2 (jp_e rfl) (fun h_12 => ?_) (fun h_12 => ?_)
    · skip
      obtain ⟨z_13, ez_13⟩ : ∃ y : Int32, u_1 + Int32.ofInt 1 = y := ⟨_, rfl⟩
      refine k_iinc z_13 [(3, .int z_13), (4, .int u_7), (2, .int u_8), (0, .ref h0), (1, .ref hs)] 1 X dX1_wrongPlaces_k1.2.2.1.2 rfl ez_13 (nlt_e rfl) rfl ?_
      refine k_goto 4 X dX1_wrongPlaces_k1.2.2.2.1 (jp_e rfl) ?_
      refine k_lv [(3, .int z_13), (2, .int u_8), (0, .ref h0), (1, .ref hs)] [0, 2, 3, 4] rfl ?_
      exact ih_5 _ (by rw [← hm_4]; exact mu_lt (by assumption) (by assumption)) z_13 u_8 rfl 
    · skip
      refine k_aload_n X dX1_wrongPlaces_k0.2.2.2.1 4 rfl ?_
      refine k_iload X dX1_wrongPlaces_k0.2.2.2.2 0 rfl ?_
      refine k_callVI (n := 1) (As := [.int u_7]) (st := []) X [(cO7_vvvrii hs v0hs v1hs v2hs zp zmd ztr), (cO8_iiri zp 8 2 zpc zpn), (cAI g zpc 16 zpf)] [(cO1_vvv h0 v0h0 v1h0 v2h0)] [1, 2, 3] [0] (s_reelAt l g hs u_7 v0hs v1hs v2hs zp zmd ztr zpc zpn zpf) dX1_wrongPlaces_k1.1.1.1.1 mw1362 mw759 mw760 mw23 mw761 rfl 7 rfl rfl 0 _ rfl yk_yX7_reelAt_1 rfl (Nat.le_of_ble_eq_true rfl) (Nat.le_of_ble_eq_true rfl) (Nat.le_of_ble_eq_true rfl) (Nat.le_of_ble_eq_true rfl) (Nat.le_of_ble_eq_true rfl) rfl rfl (vnd_e rfl) rfl (vnd_e rfl) (dsj_e rfl) ?_
      rintro r_14 w rfl
      refine k_ws [(cO1_vvv h0 v0h0 v1h0 v2h0), (cO7_vvvrii hs v0hs v1hs v2hs zp zmd ztr), (cO8_iiri zp 8 2 zpc zpn), (cAI g zpc 16 zpf)] rfl ?_
      refine k_aload_n X dX1_wrongPlaces_k1.1.1.1.2 4 rfl ?_
      refine k_iload_n X dX1_wrongPlaces_k1.1.1.2.1 1 rfl ?_
      refine k_callVI (n := 1) (As := [.int u_1]) (st := [.int r_14]) X [(cO7_vvvrii hs v0hs v1hs v2hs zp zmd ztr), (cO8_iiri zp 8 2 zpc zpn), (cAI g zpc 16 zpf)] [(cO1_vvv h0 v0h0 v1h0 v2h0)] [1, 2, 3] [0] (s_reelAt l g hs u_1 v0hs v1hs v2hs zp zmd ztr zpc zpn zpf) dX1_wrongPlaces_k1.1.1.2.2 mw1362 mw759 mw760 mw23 mw761 rfl 7 rfl rfl 0 _ rfl yk_yX7_reelAt_1 rfl (Nat.le_of_ble_eq_true rfl) (Nat.le_of_ble_eq_true rfl) (Nat.le_of_ble_eq_true rfl) (Nat.le_of_ble_eq_true rfl) (Nat.le_of_ble_eq_true rfl) rfl rfl (vnd_e rfl) rfl (vnd_e rfl) (dsj_e rfl) ?_
      rintro r_16 w rfl
      refine k_ws [(cO1_vvv h0 v0h0 v1h0 v2h0), (cO7_vvvrii hs v0hs v1hs v2hs zp zmd ztr), (cO8_iiri zp 8 2 zpc zpn), (cAI g zpc 16 zpf)] rfl ?_
      refine k_ic_lt 44 X dX1_wrongPlaces_k1.1.2.1.1 (jp_e rfl) (fun h_18 => ?_) (fun h_18 => ?_)
      · skip
        obtain ⟨z_19, ez_19⟩ : ∃ y : Int32, u_7 + Int32.ofInt 1 = y := ⟨_, rfl⟩
        refine k_iinc z_19 [(4, .int z_19), (3, .int u_1), (2, .int u_8), (0, .ref h0), (1, .ref hs)] 0 X dX1_wrongPlaces_k1.2.1.2.2 rfl ez_19 (nlt_e rfl) rfl ?_
        refine k_goto 18 X dX1_wrongPlaces_k1.2.2.1.1 (jp_e rfl) ?_
        exact ih_11 _ (by rw [← hm_10]; exact mu_lt (by assumption) (by assumption)) z_19 u_8 rfl 
      · skip
        refine k_iload_n X dX1_wrongPlaces_k1.1.2.1.2 2 rfl ?_
        refine k_iconst (v := 1) X dX1_wrongPlaces_k1.1.2.2.1 ic_1 ?_
        refine k_iload_n X dX1_wrongPlaces_k1.1.2.2.2 1 rfl ?_
        refine k_ishl X dX1_wrongPlaces_k1.2.1.1.1 ?_
        refine k_nm (fun z_20 ez_20 => ?_)
        refine k_ior X dX1_wrongPlaces_k1.2.1.1.2 ?_
        refine k_nm (fun z_21 ez_21 => ?_)
        refine k_istore_n [(2, .int z_21), (4, .int u_7), (3, .int u_1), (0, .ref h0), (1, .ref hs)] X dX1_wrongPlaces_k1.2.1.2.1 (nlt_e rfl) rfl ?_
        obtain ⟨z_22, ez_22⟩ : ∃ y : Int32, u_7 + Int32.ofInt 1 = y := ⟨_, rfl⟩
        refine k_iinc z_22 [(4, .int z_22), (2, .int z_21), (3, .int u_1), (0, .ref h0), (1, .ref hs)] 1 X dX1_wrongPlaces_k1.2.1.2.2 rfl ez_22 (nlt_e rfl) rfl ?_
        refine k_goto 18 X dX1_wrongPlaces_k1.2.2.1.1 (jp_e rfl) ?_
        refine k_lv [(4, .int z_22), (3, .int u_1), (2, .int z_21), (0, .ref h0), (1, .ref hs)] [0, 2, 1, 3, 4] rfl ?_
        exact ih_11 _ (by rw [← hm_10]; exact mu_lt (by assumption) (by assumption)) z_22 z_21 rfl 

theorem dX1_sort_k0 : ((((dD cX1_sort 0 (.aload_n 0) 1 ∧ dD cX1_sort 1 (.getfield 16) 3) ∧ (dD cX1_sort 4 (.invokevirtual 63) 3 ∧ dD cX1_sort 7 (.iconst 0) 1)) ∧ ((dD cX1_sort 8 (.istore_n 2) 1 ∧ dD cX1_sort 9 (.iload_n 2) 1) ∧ (dD cX1_sort 10 (.aload_n 1) 1 ∧ dD cX1_sort 11 (.getfield 66) 3))) ∧ (((dD cX1_sort 14 (.getfield 32) 3 ∧ dD cX1_sort 17 (.if_icmp .ge 39) 3) ∧ (dD cX1_sort 20 (.aload_n 1) 1 ∧ dD cX1_sort 21 (.getfield 27) 3)) ∧ ((dD cX1_sort 24 (.iconst 0) 1 ∧ dD cX1_sort 25 (.iload_n 2) 1) ∧ (dD cX1_sort 26 (.invokevirtual 69) 3 ∧ dD cX1_sort 29 (.istore_n 3) 1)))) := dkA16 (by decide +kernel)
theorem dX1_sort_k1 : (((dD cX1_sort 30 (.iload_n 3) 1 ∧ (dD cX1_sort 31 (.ifCond .le 19) 3 ∧ dD cX1_sort 34 (.aload_n 0) 1)) ∧ (dD cX1_sort 35 (.getfield 16) 3 ∧ (dD cX1_sort 38 (.iload_n 2) 1 ∧ dD cX1_sort 39 (.iconst 0) 1))) ∧ ((dD cX1_sort 40 (.iconst 0) 1 ∧ (dD cX1_sort 41 (.invokevirtual 72) 3 ∧ dD cX1_sort 44 (.iinc 3 (-1)) 3)) ∧ ((dD cX1_sort 47 (.goto (-17)) 3 ∧ dD cX1_sort 50 (.iinc 2 1) 3) ∧ (dD cX1_sort 53 (.goto (-44)) 3 ∧ dD cX1_sort 56 .return_ 1)))) := dkA13 (by decide +kernel)
set_option maxHeartbeats 4000000 in
set_option maxRecDepth 100000 in
theorem e_sort (l : Launch) (g : Gx) (h0 : Nat) (hs : Nat) (eo : Nat) (ep : Nat) (es : Nat) (eoc : Nat) (eon : Int32) (eof : Nat → Int32) (epc : Nat) (epn : Int32) (epf : Nat → Int32) (es_f : Nat → Int64) (zr : Nat) (v1hs : Value) (v2hs : Value) (zp : Nat) (zmd : Int32) (ztr : Int32) (zrc : Nat) (zrn : Int32) (zrf : Nat → Int32) (zpc : Nat) (zpn : Int32) (zpf : Nat → Int32) : cV l g yX1_sort cX1_sort 4 2 46 0 0 [.ref h0, .ref hs] [(cO1_rrr h0 eo ep es), (cO8_iiri eo 8 1 eoc eon), (cAI g eoc 8 eof), (cO8_iiri ep 256 1 epc epn), (cAI g epc 256 epf), (cAJ g es 8 es_f), (cO7_rvvrii hs zr v1hs v2hs zp zmd ztr), (cO8_iiri zr 8 3 zrc zrn), (cAI g zrc 24 zrf), (cO8_iiri zp 8 2 zpc zpn), (cAI g zpc 16 zpf)] (fun w => ∃ (eog : Nat → Int32) (eok : Int32), w = [(cO1_rrr h0 eo ep es), (cO8_iiri eo 8 1 eoc eok), (cAI g eoc 8 eog), (cO8_iiri ep 256 1 epc epn), (cAI g epc 256 epf), (cAJ g es 8 es_f), (cO7_rvvrii hs zr v1hs v2hs zp zmd ztr), (cO8_iiri zr 8 3 zrc zrn), (cAI g zrc 24 zrf), (cO8_iiri zp 8 2 zpc zpn), (cAI g zpc 16 zpf)]) := by
  refine cV.of (by decide) (Nat.le_of_ble_eq_true rfl) ?_
  intro p e s m args below meth c A X hr hi
  refine k_lveq [(0, .ref h0), (1, .ref hs)] rfl ?_
  refine k_aload_n X dX1_sort_k0.1.1.1.1 0 rfl ?_
  refine k_get (ci := 1) X inlX1 rfl 0 (nlt_e rfl) dX1_sort_k0.1.1.1.2 mw154 0 rfl rfl ?_
  refine k_callVV (n := 0) (As := []) (st := []) X [(cO8_iiri eo 8 1 eoc eon)] [(cO1_rrr h0 eo ep es), (cAI g eoc 8 eof), (cO8_iiri ep 256 1 epc epn), (cAI g epc 256 epf), (cAJ g es 8 es_f), (cO7_rvvrii hs zr v1hs v2hs zp zmd ztr), (cO8_iiri zr 8 3 zrc zrn), (cAI g zrc 24 zrf), (cO8_iiri zp 8 2 zpc zpn), (cAI g zpc 16 zpf)] [1] [0, 2, 3, 4, 5, 6, 7, 8, 9, 10] (t_clear l g eo (.int 8) (.int 1) (.ref eoc) eon) dX1_sort_k0.1.1.2.1 mw1382 mw232 mw233 mw64 mw234 rfl 8 rfl rfl 0 _ rfl yk_yX8_clear_0 rfl (Nat.le_of_ble_eq_true rfl) (Nat.le_of_ble_eq_true rfl) (Nat.le_of_ble_eq_true rfl) (Nat.le_of_ble_eq_true rfl) (Nat.le_of_ble_eq_true rfl) rfl rfl (vnd_e rfl) rfl (vnd_e rfl) (dsj_e rfl) ?_
  rintro w rfl
  refine k_ws [(cO1_rrr h0 eo ep es), (cAI g eoc 8 eof), (cO8_iiri ep 256 1 epc epn), (cAI g epc 256 epf), (cAJ g es 8 es_f), (cO7_rvvrii hs zr v1hs v2hs zp zmd ztr), (cO8_iiri zr 8 3 zrc zrn), (cAI g zrc 24 zrf), (cO8_iiri zp 8 2 zpc zpn), (cAI g zpc 16 zpf), (cO8_iiri eo 8 1 eoc 0)] rfl ?_
  refine k_iconst (v := 0) X dX1_sort_k0.1.1.2.2 ic_0 ?_
  refine k_istore_n [(2, .int 0), (0, .ref h0), (1, .ref hs)] X dX1_sort_k0.1.2.1.1 (nlt_e rfl) rfl ?_
  refine (fun hL : ∀ (nn_6 : Nat) (u_3 : Int32) (uf_4 : Nat → Int32) (u_5 : Int32), (zrn.toInt - u_3.toInt).toNat = nn_6 → Wk p l e _ s m args below meth c _ A g _ _ _ [(cO1_rrr h0 eo ep es), (cAI g eoc 8 uf_4), (cO8_iiri ep 256 1 epc epn), (cAI g epc 256 epf), (cAJ g es 8 es_f), (cO7_rvvrii hs zr v1hs v2hs zp zmd ztr), (cO8_iiri zr 8 3 zrc zrn), (cAI g zrc 24 zrf), (cO8_iiri zp 8 2 zpc zpn), (cAI g zpc 16 zpf), (cO8_iiri eo 8 1 eoc u_5)] [(2, .int u_3), (0, .ref h0), (1, .ref hs)] 9 [] => hL _ 0 eof 0 rfl ) ?_
  refine fun nn_6 => Nat.strongRecOn nn_6 (fun nn_6 ih_8 => ?_)
  intro u_3 uf_4 u_5 hm_7 
  refine k_iload_n X dX1_sort_k0.1.2.1.2 0 rfl ?_
  refine k_aload_n X dX1_sort_k0.1.2.2.1 2 rfl ?_
  refine k_get (ci := 7) X inlX7 rfl 0 (nlt_e rfl) dX1_sort_k0.1.2.2.2 mw1381 5 rfl rfl ?_
  refine k_get (ci := 8) X inlX8 rfl 3 (nlt_e rfl) dX1_sort_k0.2.1.1.1 mw1361 6 rfl rfl ?_
  refine k_ic_ge 56 X dX1_sort_k0.2.1.1.2 (jp_e rfl) (fun h_9 => ?_) (fun h_9 => ?_)
  · skip
    exact k_vret X hr dX1_sort_k1.2.2.2.2 (Nat.le_of_ble_eq_true rfl) (Nat.le_of_ble_eq_true rfl) [0, 10, 1, 2, 3, 4, 5, 6, 7, 8, 9] (vnd_e rfl) rfl rfl ⟨uf_4, u_5, rfl⟩
  · skip
    refine k_aload_n X dX1_sort_k0.2.1.2.1 2 rfl ?_
    refine k_get (ci := 7) X inlX7 rfl 3 (nlt_e rfl) dX1_sort_k0.2.1.2.2 mw1360 5 rfl rfl ?_
    refine k_iconst (v := 0) X dX1_sort_k0.2.2.1.1 ic_0 ?_
    refine k_iload_n X dX1_sort_k0.2.2.1.2 0 rfl ?_
    refine k_callVI (n := 2) (As := [.int 0, .int u_3]) (st := []) X [(cO8_iiri zp 8 2 zpc zpn), (cAI g zpc 16 zpf)] [(cO1_rrr h0 eo ep es), (cAI g eoc 8 uf_4), (cO8_iiri ep 256 1 epc epn), (cAI g epc 256 epf), (cAJ g es 8 es_f), (cO7_rvvrii hs zr v1hs v2hs zp zmd ztr), (cO8_iiri zr 8 3 zrc zrn), (cAI g zrc 24 zrf), (cO8_iiri eo 8 1 eoc u_5)] [8, 9] [0, 1, 2, 3, 4, 5, 6, 7, 10] (t_howMany l g zp 0 u_3 8 2 zpc zpn 16 zpf (tbk_8_2)) dX1_sort_k0.2.2.2.1 mw1383 mw652 mw653 mw64 mw654 rfl 8 rfl rfl 0 _ rfl yk_yX8_howMany_2 rfl (Nat.le_of_ble_eq_true rfl) (Nat.le_of_ble_eq_true rfl) (Nat.le_of_ble_eq_true rfl) (Nat.le_of_ble_eq_true rfl) (Nat.le_of_ble_eq_true rfl) rfl rfl (vnd_e rfl) rfl (vnd_e rfl) (dsj_e rfl) ?_
    rintro r_10 w rfl
    refine k_ws [(cO1_rrr h0 eo ep es), (cAI g eoc 8 uf_4), (cO8_iiri ep 256 1 epc epn), (cAI g epc 256 epf), (cAJ g es 8 es_f), (cO7_rvvrii hs zr v1hs v2hs zp zmd ztr), (cO8_iiri zr 8 3 zrc zrn), (cAI g zrc 24 zrf), (cO8_iiri eo 8 1 eoc u_5), (cO8_iiri zp 8 2 zpc zpn), (cAI g zpc 16 zpf)] rfl ?_
    refine k_istore_n [(3, .int r_10), (2, .int u_3), (0, .ref h0), (1, .ref hs)] X dX1_sort_k0.2.2.2.2 (nlt_e rfl) rfl ?_
    refine (fun hL : ∀ (nn_15 : Nat) (u_12 : Int32) (uf_13 : Nat → Int32) (u_14 : Int32), u_12.toInt.toNat = nn_15 → Wk p l e _ s m args below meth c _ A g _ _ _ [(cO1_rrr h0 eo ep es), (cAI g eoc 8 uf_13), (cO8_iiri ep 256 1 epc epn), (cAI g epc 256 epf), (cAJ g es 8 es_f), (cO7_rvvrii hs zr v1hs v2hs zp zmd ztr), (cO8_iiri zr 8 3 zrc zrn), (cAI g zrc 24 zrf), (cO8_iiri eo 8 1 eoc u_14), (cO8_iiri zp 8 2 zpc zpn), (cAI g zpc 16 zpf)] [(3, .int u_12), (2, .int u_3), (0, .ref h0), (1, .ref hs)] 30 [] => hL _ r_10 uf_4 u_5 rfl ) ?_
    refine fun nn_15 => Nat.strongRecOn nn_15 (fun nn_15 ih_17 => ?_)
    intro u_12 uf_13 u_14 hm_16 
    refine k_iload_n X dX1_sort_k1.1.1.1 0 rfl ?_
    refine k_if_le 50 X dX1_sort_k1.1.1.2.1 (jp_e rfl) (fun h_18 => ?_) (fun h_18 => ?_)
    · skip
      obtain ⟨z_19, ez_19⟩ : ∃ y : Int32, u_3 + Int32.ofInt 1 = y := ⟨_, rfl⟩
      refine k_iinc z_19 [(2, .int z_19), (3, .int u_12), (0, .ref h0), (1, .ref hs)] 1 X dX1_sort_k1.2.2.1.2 rfl ez_19 (nlt_e rfl) rfl ?_
      refine k_goto 9 X dX1_sort_k1.2.2.2.1 (jp_e rfl) ?_
      refine k_lv [(2, .int z_19), (0, .ref h0), (1, .ref hs)] [0, 2, 3] rfl ?_
      refine k_sub [(cO1_rrr h0 eo ep es), (cAI g eoc 8 uf_13), (cO8_iiri ep 256 1 epc epn), (cAI g epc 256 epf), (cAJ g es 8 es_f), (cO7_rvvrii hs zr v1hs v2hs zp zmd ztr), (cO8_iiri zr 8 3 zrc zrn), (cAI g zrc 24 zrf), (cO8_iiri zp 8 2 zpc zpn), (cAI g zpc 16 zpf), (cO8_iiri eo 8 1 eoc u_14)] [0, 1, 2, 3, 4, 5, 6, 7, 9, 10, 8] rfl (by decide) rfl ?_
      exact ih_8 _ (by rw [← hm_7]; exact mu_lt (by assumption) (by assumption)) z_19 uf_13 u_14 rfl 
    · skip
      refine k_aload_n X dX1_sort_k1.1.1.2.2 2 rfl ?_
      refine k_get (ci := 1) X inlX1 rfl 0 (nlt_e rfl) dX1_sort_k1.1.2.1 mw154 0 rfl rfl ?_
      refine k_iload_n X dX1_sort_k1.1.2.2.1 1 rfl ?_
      refine k_iconst (v := 0) X dX1_sort_k1.1.2.2.2 ic_0 ?_
      refine k_iconst (v := 0) X dX1_sort_k1.2.1.1 ic_0 ?_
      refine k_callVV (n := 3) (As := [.int u_3, .int 0, .int 0]) (st := []) X [(cO8_iiri eo 8 1 eoc u_14), (cAI g eoc 8 uf_13)] [(cO1_rrr h0 eo ep es), (cO8_iiri ep 256 1 epc epn), (cAI g epc 256 epf), (cAJ g es 8 es_f), (cO7_rvvrii hs zr v1hs v2hs zp zmd ztr), (cO8_iiri zr 8 3 zrc zrn), (cAI g zrc 24 zrf), (cO8_iiri zp 8 2 zpc zpn), (cAI g zpc 16 zpf)] [8, 1] [0, 2, 3, 4, 5, 6, 7, 9, 10] (t_add l g eo u_3 0 0 8 1 eoc u_14 8 uf_13 (tbk_8_1)) dX1_sort_k1.2.1.2.1 mw1384 mw356 mw357 mw64 mw358 rfl 8 rfl rfl 0 _ rfl yk_yX8_add_3 rfl (Nat.le_of_ble_eq_true rfl) (Nat.le_of_ble_eq_true rfl) (Nat.le_of_ble_eq_true rfl) (Nat.le_of_ble_eq_true rfl) (Nat.le_of_ble_eq_true rfl) rfl rfl (vnd_e rfl) rfl (vnd_e rfl) (dsj_e rfl) ?_
      rintro w ⟨fa_20, cm_21, rfl⟩
      refine k_ws [(cO1_rrr h0 eo ep es), (cO8_iiri ep 256 1 epc epn), (cAI g epc 256 epf), (cAJ g es 8 es_f), (cO7_rvvrii hs zr v1hs v2hs zp zmd ztr), (cO8_iiri zr 8 3 zrc zrn), (cAI g zrc 24 zrf), (cO8_iiri zp 8 2 zpc zpn), (cAI g zpc 16 zpf), (cO8_iiri eo 8 1 eoc cm_21), (cAI g eoc 8 fa_20)] rfl ?_
      obtain ⟨z_24, ez_24⟩ : ∃ y : Int32, u_12 + Int32.ofInt (-1) = y := ⟨_, rfl⟩
      refine k_iinc z_24 [(3, .int z_24), (2, .int u_3), (0, .ref h0), (1, .ref hs)] 0 X dX1_sort_k1.2.1.2.2 rfl ez_24 (nlt_e rfl) rfl ?_
      refine k_goto 30 X dX1_sort_k1.2.2.1.1 (jp_e rfl) ?_
      refine k_sub [(cO1_rrr h0 eo ep es), (cAI g eoc 8 fa_20), (cO8_iiri ep 256 1 epc epn), (cAI g epc 256 epf), (cAJ g es 8 es_f), (cO7_rvvrii hs zr v1hs v2hs zp zmd ztr), (cO8_iiri zr 8 3 zrc zrn), (cAI g zrc 24 zrf), (cO8_iiri eo 8 1 eoc cm_21), (cO8_iiri zp 8 2 zpc zpn), (cAI g zpc 16 zpf)] [0, 10, 1, 2, 3, 4, 5, 6, 9, 7, 8] rfl (by decide) rfl ?_
      exact ih_17 _ (by rw [← hm_16]; exact mu_dn (by assumption) (by assumption)) z_24 fa_20 cm_21 rfl 

theorem dX1_weigh_k0 : ((((dD cX1_weigh 0 (.iconst 0) 1 ∧ dD cX1_weigh 1 (.istore_n 2) 1) ∧ (dD cX1_weigh 2 (.iload_n 2) 1 ∧ dD cX1_weigh 3 (.aload_n 0) 1)) ∧ ((dD cX1_weigh 4 (.getfield 23) 3 ∧ dD cX1_weigh 7 .arraylength 1) ∧ (dD cX1_weigh 8 (.if_icmp .ge 36) 3 ∧ dD cX1_weigh 11 (.aload_n 0) 1))) ∧ (((dD cX1_weigh 12 (.getfield 23) 3 ∧ dD cX1_weigh 15 (.iload_n 2) 1) ∧ (dD cX1_weigh 16 (.aload_n 1) 1 ∧ dD cX1_weigh 17 (.iload_n 2) 1)) ∧ ((dD cX1_weigh 18 (.invokevirtual 36) 3 ∧ dD cX1_weigh 21 (.invokestatic 75) 3) ∧ (dD cX1_weigh 24 (.aload_n 0) 1 ∧ dD cX1_weigh 25 (.getfield 16) 3)))) := dkA16 (by decide +kernel)
theorem dX1_weigh_k1 : (((dD cX1_weigh 28 (.iload_n 2) 1 ∧ dD cX1_weigh 29 (.iconst 0) 1) ∧ (dD cX1_weigh 30 (.invokevirtual 53) 3 ∧ dD cX1_weigh 33 (.invokestatic 75) 3)) ∧ ((dD cX1_weigh 36 .lsub 1 ∧ dD cX1_weigh 37 .lastore 1) ∧ (dD cX1_weigh 38 (.iinc 2 1) 3 ∧ (dD cX1_weigh 41 (.goto (-39)) 3 ∧ dD cX1_weigh 44 .return_ 1)))) := dkA9 (by decide +kernel)
set_option maxHeartbeats 4000000 in
set_option maxRecDepth 100000 in
theorem e_weigh (l : Launch) (g : Gx) (h0 : Nat) (hs : Nat) (eo : Nat) (ep : Nat) (es : Nat) (eoc : Nat) (eon : Int32) (eof : Nat → Int32) (epc : Nat) (epn : Int32) (epf : Nat → Int32) (es_f : Nat → Int64) (v0hs : Value) (v1hs : Value) (v2hs : Value) (zp : Nat) (zmd : Int32) (ztr : Int32) (zpc : Nat) (zpn : Int32) (zpf : Nat → Int32) : cV l g yX1_weigh cX1_weigh 3 2 43 0 0 [.ref h0, .ref hs] [(cO1_rrr h0 eo ep es), (cO8_iiri eo 8 1 eoc eon), (cAI g eoc 8 eof), (cO8_iiri ep 256 1 epc epn), (cAI g epc 256 epf), (cAJ g es 8 es_f), (cO7_vvvrii hs v0hs v1hs v2hs zp zmd ztr), (cO8_iiri zp 8 2 zpc zpn), (cAI g zpc 16 zpf)] (fun w => ∃ (es_g : Nat → Int64), w = [(cO1_rrr h0 eo ep es), (cO8_iiri eo 8 1 eoc eon), (cAI g eoc 8 eof), (cO8_iiri ep 256 1 epc epn), (cAI g epc 256 epf), (cAJ g es 8 es_g), (cO7_vvvrii hs v0hs v1hs v2hs zp zmd ztr), (cO8_iiri zp 8 2 zpc zpn), (cAI g zpc 16 zpf)]) := by
  refine cV.of (by decide) (Nat.le_of_ble_eq_true rfl) ?_
  intro p e s m args below meth c A X hr hi
  refine k_lveq [(0, .ref h0), (1, .ref hs)] rfl ?_
  refine k_iconst (v := 0) X dX1_weigh_k0.1.1.1.1 ic_0 ?_
  refine k_istore_n [(2, .int 0), (0, .ref h0), (1, .ref hs)] X dX1_weigh_k0.1.1.1.2 (nlt_e rfl) rfl ?_
  refine (fun hL : ∀ (nn_4 : Nat) (u_1 : Int32) (uf_2 : Nat → Int64), ((8 : Int32).toInt - u_1.toInt).toNat = nn_4 → (¬ u_1 < 0) → Wk p l e _ s m args below meth c _ A g _ _ _ [(cO1_rrr h0 eo ep es), (cO8_iiri eo 8 1 eoc eon), (cAI g eoc 8 eof), (cO8_iiri ep 256 1 epc epn), (cAI g epc 256 epf), (cAJ g es 8 uf_2), (cO7_vvvrii hs v0hs v1hs v2hs zp zmd ztr), (cO8_iiri zp 8 2 zpc zpn), (cAI g zpc 16 zpf)] [(2, .int u_1), (0, .ref h0), (1, .ref hs)] 2 [] => hL _ 0 es_f rfl (by decide)) ?_
  refine fun nn_4 => Nat.strongRecOn nn_4 (fun nn_4 ih_6 => ?_)
  intro u_1 uf_2 hm_5 hp_3
  refine k_iload_n X dX1_weigh_k0.1.1.2.1 0 rfl ?_
  refine k_aload_n X dX1_weigh_k0.1.1.2.2 1 rfl ?_
  refine k_get (ci := 1) X inlX1 rfl 2 (nlt_e rfl) dX1_weigh_k0.1.2.1.1 mw156 0 rfl rfl ?_
  refine k_alen 8 2 X dX1_weigh_k0.1.2.1.2 5 rfl rfl (by show Int32.ofNat 8 = 8; decide) ?_
  refine k_ic_ge 44 X dX1_weigh_k0.1.2.2.1 (jp_e rfl) (fun h_7 => ?_) (fun h_7 => ?_)
  · skip
    exact k_vret X hr dX1_weigh_k1.2.2.2.2 (Nat.le_of_ble_eq_true rfl) (Nat.le_of_ble_eq_true rfl) [0, 1, 2, 3, 4, 5, 6, 7, 8] (vnd_e rfl) rfl rfl ⟨uf_2, rfl⟩
  · skip
    refine k_aload_n X dX1_weigh_k0.1.2.2.2 1 rfl ?_
    refine k_get (ci := 1) X inlX1 rfl 2 (nlt_e rfl) dX1_weigh_k0.2.1.1.1 mw156 0 rfl rfl ?_
    refine k_iload_n X dX1_weigh_k0.2.1.1.2 0 rfl ?_
    refine k_aload_n X dX1_weigh_k0.2.1.2.1 2 rfl ?_
    refine k_iload_n X dX1_weigh_k0.2.1.2.2 0 rfl ?_
    refine k_callVI (n := 1) (As := [.int u_1]) (st := [.int u_1, .ref es]) X [(cO7_vvvrii hs v0hs v1hs v2hs zp zmd ztr), (cO8_iiri zp 8 2 zpc zpn), (cAI g zpc 16 zpf)] [(cO1_rrr h0 eo ep es), (cO8_iiri eo 8 1 eoc eon), (cAI g eoc 8 eof), (cO8_iiri ep 256 1 epc epn), (cAI g epc 256 epf), (cAJ g es 8 uf_2)] [6, 7, 8] [0, 1, 2, 3, 4, 5] (s_reelAt l g hs u_1 v0hs v1hs v2hs zp zmd ztr zpc zpn zpf) dX1_weigh_k0.2.2.1.1 mw1362 mw759 mw760 mw23 mw761 rfl 7 rfl rfl 0 _ rfl yk_yX7_reelAt_1 rfl (Nat.le_of_ble_eq_true rfl) (Nat.le_of_ble_eq_true rfl) (Nat.le_of_ble_eq_true rfl) (Nat.le_of_ble_eq_true rfl) (Nat.le_of_ble_eq_true rfl) rfl rfl (vnd_e rfl) rfl (vnd_e rfl) (dsj_e rfl) ?_
    rintro r_8 w rfl
    refine k_ws [(cO1_rrr h0 eo ep es), (cO8_iiri eo 8 1 eoc eon), (cAI g eoc 8 eof), (cO8_iiri ep 256 1 epc epn), (cAI g epc 256 epf), (cAJ g es 8 uf_2), (cO7_vvvrii hs v0hs v1hs v2hs zp zmd ztr), (cO8_iiri zp 8 2 zpc zpn), (cAI g zpc 16 zpf)] rfl ?_
    refine k_callSL (n := 1) (As := [.int r_8]) (st := [.int u_1, .ref es]) X [] [(cO1_rrr h0 eo ep es), (cO8_iiri eo 8 1 eoc eon), (cAI g eoc 8 eof), (cO8_iiri ep 256 1 epc epn), (cAI g epc 256 epf), (cAJ g es 8 uf_2), (cO7_vvvrii hs v0hs v1hs v2hs zp zmd ztr), (cO8_iiri zp 8 2 zpc zpn), (cAI g zpc 16 zpf)] [] [0, 1, 2, 3, 4, 5, 6, 7, 8] (e_unit l g r_8) dX1_weigh_k0.2.2.1.2 mw1389 mw1390 mw43 mw1391 yk_yX1_unit_1 rfl (Nat.le_of_ble_eq_true rfl) (Nat.le_of_ble_eq_true rfl) (Nat.le_of_ble_eq_true rfl) (Nat.le_of_ble_eq_true rfl) (Nat.le_of_ble_eq_true rfl) rfl rfl (vnd_e rfl) rfl (vnd_e rfl) (dsj_e rfl) ?_
    rintro r_10 w rfl
    refine k_ws [(cO1_rrr h0 eo ep es), (cO8_iiri eo 8 1 eoc eon), (cAI g eoc 8 eof), (cO8_iiri ep 256 1 epc epn), (cAI g epc 256 epf), (cAJ g es 8 uf_2), (cO7_vvvrii hs v0hs v1hs v2hs zp zmd ztr), (cO8_iiri zp 8 2 zpc zpn), (cAI g zpc 16 zpf)] rfl ?_
    refine k_aload_n X dX1_weigh_k0.2.2.2.1 1 rfl ?_
    refine k_get (ci := 1) X inlX1 rfl 0 (nlt_e rfl) dX1_weigh_k0.2.2.2.2 mw154 0 rfl rfl ?_
    refine k_iload_n X dX1_weigh_k1.1.1.1 0 rfl ?_
    refine k_iconst (v := 0) X dX1_weigh_k1.1.1.2 ic_0 ?_
    refine k_callVI (n := 2) (As := [.int u_1, .int 0]) (st := [.long r_10, .int u_1, .ref es]) X [(cO8_iiri eo 8 1 eoc eon), (cAI g eoc 8 eof)] [(cO1_rrr h0 eo ep es), (cO8_iiri ep 256 1 epc epn), (cAI g epc 256 epf), (cAJ g es 8 uf_2), (cO7_vvvrii hs v0hs v1hs v2hs zp zmd ztr), (cO8_iiri zp 8 2 zpc zpn), (cAI g zpc 16 zpf)] [1, 2] [0, 3, 4, 5, 6, 7, 8] (t_at l g eo u_1 0 8 1 eoc eon 8 eof (tbk_8_1)) dX1_weigh_k1.1.2.1 mw1392 mw376 mw377 mw64 mw378 rfl 8 rfl rfl 0 _ rfl yk_yX8_at_2 rfl (Nat.le_of_ble_eq_true rfl) (Nat.le_of_ble_eq_true rfl) (Nat.le_of_ble_eq_true rfl) (Nat.le_of_ble_eq_true rfl) (Nat.le_of_ble_eq_true rfl) rfl rfl (vnd_e rfl) rfl (vnd_e rfl) (dsj_e rfl) ?_
    rintro r_12 w ⟨hr_13, rfl⟩
    refine k_ws [(cO1_rrr h0 eo ep es), (cO8_iiri ep 256 1 epc epn), (cAI g epc 256 epf), (cAJ g es 8 uf_2), (cO7_vvvrii hs v0hs v1hs v2hs zp zmd ztr), (cO8_iiri zp 8 2 zpc zpn), (cAI g zpc 16 zpf), (cO8_iiri eo 8 1 eoc eon), (cAI g eoc 8 eof)] rfl ?_
    refine k_callSL (n := 1) (As := [.int r_12]) (st := [.long r_10, .int u_1, .ref es]) X [] [(cO1_rrr h0 eo ep es), (cO8_iiri ep 256 1 epc epn), (cAI g epc 256 epf), (cAJ g es 8 uf_2), (cO7_vvvrii hs v0hs v1hs v2hs zp zmd ztr), (cO8_iiri zp 8 2 zpc zpn), (cAI g zpc 16 zpf), (cO8_iiri eo 8 1 eoc eon), (cAI g eoc 8 eof)] [] [0, 1, 2, 3, 4, 5, 6, 7, 8] (e_unit l g r_12) dX1_weigh_k1.1.2.2 mw1389 mw1390 mw43 mw1391 yk_yX1_unit_1 rfl (Nat.le_of_ble_eq_true rfl) (Nat.le_of_ble_eq_true rfl) (Nat.le_of_ble_eq_true rfl) (Nat.le_of_ble_eq_true rfl) (Nat.le_of_ble_eq_true rfl) rfl rfl (vnd_e rfl) rfl (vnd_e rfl) (dsj_e rfl) ?_
    rintro r_14 w rfl
    refine k_ws [(cO1_rrr h0 eo ep es), (cO8_iiri ep 256 1 epc epn), (cAI g epc 256 epf), (cAJ g es 8 uf_2), (cO7_vvvrii hs v0hs v1hs v2hs zp zmd ztr), (cO8_iiri zp 8 2 zpc zpn), (cAI g zpc 16 zpf), (cO8_iiri eo 8 1 eoc eon), (cAI g eoc 8 eof)] rfl ?_
    refine k_lsub X dX1_weigh_k1.2.1.1 ?_
    refine k_nmL (fun y_16 ey_16 => ?_)
    refine k_last [(cO1_rrr h0 eo ep es), (cO8_iiri ep 256 1 epc epn), (cAI g epc 256 epf), (cAJ g es 8 (vp_updL uf_2 (u_1 : Int32).toNatClampNeg y_16)), (cO7_vvvrii hs v0hs v1hs v2hs zp zmd ztr), (cO8_iiri zp 8 2 zpc zpn), (cAI g zpc 16 zpf), (cO8_iiri eo 8 1 eoc eon), (cAI g eoc 8 eof)] X dX1_weigh_k1.2.1.2 3 rfl (in8 (by assumption) (by assumption)) rfl ?_
    refine (fun hg : ∀ fl_17 : Nat → Int64, Wk p l e _ s m args below meth c _ A g _ _ _ [(cO1_rrr h0 eo ep es), (cO8_iiri ep 256 1 epc epn), (cAI g epc 256 epf), (cAJ g es 8 fl_17), (cO7_vvvrii hs v0hs v1hs v2hs zp zmd ztr), (cO8_iiri zp 8 2 zpc zpn), (cAI g zpc 16 zpf), (cO8_iiri eo 8 1 eoc eon), (cAI g eoc 8 eof)] _ _ _ => hg _) (fun fl_17 => ?_)
    obtain ⟨z_18, ez_18⟩ : ∃ y : Int32, u_1 + Int32.ofInt 1 = y := ⟨_, rfl⟩
    refine k_iinc z_18 [(2, .int z_18), (0, .ref h0), (1, .ref hs)] 0 X dX1_weigh_k1.2.2.1 rfl ez_18 (nlt_e rfl) rfl ?_
    refine k_goto 2 X dX1_weigh_k1.2.2.2.1 (jp_e rfl) ?_
    refine k_sub [(cO1_rrr h0 eo ep es), (cO8_iiri eo 8 1 eoc eon), (cAI g eoc 8 eof), (cO8_iiri ep 256 1 epc epn), (cAI g epc 256 epf), (cAJ g es 8 fl_17), (cO7_vvvrii hs v0hs v1hs v2hs zp zmd ztr), (cO8_iiri zp 8 2 zpc zpn), (cAI g zpc 16 zpf)] [0, 7, 8, 1, 2, 3, 4, 5, 6] rfl (by decide) rfl ?_
    exact ih_6 _ (by rw [← hm_5]; exact mu_lt (by assumption) (by assumption)) z_18 fl_17 rfl (up0 (by assumption) (by assumption) (by assumption))

theorem dX1_fewest_k0 : ((((dD cX1_fewest 0 (.aload_n 1) 1 ∧ dD cX1_fewest 1 (.getfield 27) 3) ∧ (dD cX1_fewest 4 (.getfield 32) 3 ∧ dD cX1_fewest 7 (.bipush 8) 2)) ∧ ((dD cX1_fewest 9 (.invokestatic 40) 3 ∧ dD cX1_fewest 12 (.istore_n 2) 1) ∧ (dD cX1_fewest 13 (.aload_n 0) 1 ∧ dD cX1_fewest 14 (.aload_n 1) 1))) ∧ (((dD cX1_fewest 15 (.invokevirtual 46) 3 ∧ dD cX1_fewest 18 (.aload_n 0) 1) ∧ (dD cX1_fewest 19 (.aload_n 1) 1 ∧ dD cX1_fewest 20 (.invokevirtual 50) 3)) ∧ ((dD cX1_fewest 23 (.iconst 1) 1 ∧ dD cX1_fewest 24 (.istore_n 3) 1) ∧ (dD cX1_fewest 25 (.iload_n 3) 1 ∧ dD cX1_fewest 26 (.iconst 1) 1)))) := dkA16 (by decide +kernel)
theorem dX1_fewest_k1 : ((((dD cX1_fewest 27 (.iload_n 2) 1 ∧ dD cX1_fewest 28 .ishl 1) ∧ (dD cX1_fewest 29 (.if_icmp .ge 102) 3 ∧ dD cX1_fewest 32 (.iconst 0) 1)) ∧ ((dD cX1_fewest 33 (.istore 4) 2 ∧ dD cX1_fewest 35 (.lconst 0) 1) ∧ (dD cX1_fewest 36 (.lstore 5) 2 ∧ dD cX1_fewest 38 (.iconst 0) 1))) ∧ (((dD cX1_fewest 39 (.istore 7) 2 ∧ dD cX1_fewest 41 (.iload 7) 2) ∧ (dD cX1_fewest 43 (.aload_n 0) 1 ∧ dD cX1_fewest 44 (.getfield 23) 3)) ∧ ((dD cX1_fewest 47 .arraylength 1 ∧ dD cX1_fewest 48 (.if_icmp .ge 52) 3) ∧ (dD cX1_fewest 51 (.iload_n 3) 1 ∧ dD cX1_fewest 52 (.iload 7) 2)))) := dkA16 (by decide +kernel)
theorem dX1_fewest_k2 : ((((dD cX1_fewest 54 .ishr 1 ∧ dD cX1_fewest 55 (.iconst 1) 1) ∧ (dD cX1_fewest 56 .iand 1 ∧ dD cX1_fewest 57 (.iconst 1) 1)) ∧ ((dD cX1_fewest 58 (.if_icmp .ne 36) 3 ∧ dD cX1_fewest 61 (.iload 4) 2) ∧ (dD cX1_fewest 63 (.aload_n 0) 1 ∧ dD cX1_fewest 64 (.getfield 20) 3))) ∧ (((dD cX1_fewest 67 (.iload_n 3) 1 ∧ dD cX1_fewest 68 (.iconst 1) 1) ∧ (dD cX1_fewest 69 (.iload 7) 2 ∧ dD cX1_fewest 71 .ishl 1)) ∧ ((dD cX1_fewest 72 .ixor 1 ∧ dD cX1_fewest 73 (.iconst 0) 1) ∧ (dD cX1_fewest 74 (.invokevirtual 53) 3 ∧ dD cX1_fewest 77 (.invokestatic 56) 3)))) := dkA16 (by decide +kernel)
theorem dX1_fewest_k3 : ((((dD cX1_fewest 80 (.istore 4) 2 ∧ dD cX1_fewest 82 (.lload 5) 2) ∧ (dD cX1_fewest 84 (.aload_n 0) 1 ∧ dD cX1_fewest 85 (.getfield 23) 3)) ∧ ((dD cX1_fewest 88 (.iload 7) 2 ∧ dD cX1_fewest 90 .laload 1) ∧ (dD cX1_fewest 91 .ladd 1 ∧ dD cX1_fewest 92 (.lstore 5) 2))) ∧ (((dD cX1_fewest 94 (.iinc 7 1) 3 ∧ dD cX1_fewest 97 (.goto (-56)) 3) ∧ (dD cX1_fewest 100 (.aload_n 0) 1 ∧ dD cX1_fewest 101 (.getfield 20) 3)) ∧ ((dD cX1_fewest 104 (.iload_n 3) 1 ∧ dD cX1_fewest 105 (.iconst 0) 1) ∧ (dD cX1_fewest 106 (.lload 5) 2 ∧ dD cX1_fewest 108 (.lconst 0) 1)))) := dkA16 (by decide +kernel)
theorem dX1_fewest_k4 : ((((dD cX1_fewest 109 .lcmp 1 ∧ dD cX1_fewest 110 (.ifCond .ne 10) 3) ∧ (dD cX1_fewest 113 (.iload 4) 2 ∧ dD cX1_fewest 115 (.iconst 1) 1)) ∧ ((dD cX1_fewest 116 .iadd 1 ∧ dD cX1_fewest 117 (.goto 5) 3) ∧ (dD cX1_fewest 120 (.iload 4) 2 ∧ dD cX1_fewest 122 (.invokevirtual 59) 3))) ∧ (((dD cX1_fewest 125 (.iinc 3 1) 3 ∧ dD cX1_fewest 128 (.goto (-103)) 3) ∧ (dD cX1_fewest 131 (.iload_n 2) 1 ∧ dD cX1_fewest 132 (.aload_n 0) 1)) ∧ ((dD cX1_fewest 133 (.getfield 20) 3 ∧ dD cX1_fewest 136 (.iconst 1) 1) ∧ (dD cX1_fewest 137 (.iload_n 2) 1 ∧ dD cX1_fewest 138 .ishl 1)))) := dkA16 (by decide +kernel)
theorem dX1_fewest_k5 : ((dD cX1_fewest 139 (.iconst 1) 1 ∧ (dD cX1_fewest 140 .isub 1 ∧ dD cX1_fewest 141 (.iconst 0) 1)) ∧ (dD cX1_fewest 142 (.invokevirtual 53) 3 ∧ (dD cX1_fewest 145 .isub 1 ∧ dD cX1_fewest 146 .ireturn 1))) := dkA6 (by decide +kernel)
set_option maxHeartbeats 4000000 in
set_option maxRecDepth 100000 in
theorem e_fewest (l : Launch) (g : Gx) (h0 : Nat) (hs : Nat) (eo : Nat) (ep : Nat) (es : Nat) (eoc : Nat) (eon : Int32) (eof : Nat → Int32) (epc : Nat) (epn : Int32) (epf : Nat → Int32) (es_f : Nat → Int64) (zr : Nat) (v1hs : Value) (v2hs : Value) (zp : Nat) (zmd : Int32) (ztr : Int32) (zrc : Nat) (zrn : Int32) (zrf : Nat → Int32) (zpc : Nat) (zpn : Int32) (zpf : Nat → Int32) : cI l g yX1_fewest cX1_fewest 8 (some .int) 3 69 0 0 [.ref h0, .ref hs] [(cO1_rrr h0 eo ep es), (cO8_iiri eo 8 1 eoc eon), (cAI g eoc 8 eof), (cO8_iiri ep 256 1 epc epn), (cAI g epc 256 epf), (cAJ g es 8 es_f), (cO7_rvvrii hs zr v1hs v2hs zp zmd ztr), (cO8_iiri zr 8 3 zrc zrn), (cAI g zrc 24 zrf), (cO8_iiri zp 8 2 zpc zpn), (cAI g zpc 16 zpf)] (fun r w => ∃ (eog : Nat → Int32) (eok : Int32) (epg : Nat → Int32) (es_g : Nat → Int64), w = [(cO1_rrr h0 eo ep es), (cO8_iiri eo 8 1 eoc eok), (cAI g eoc 8 eog), (cO8_iiri ep 256 1 epc epn), (cAI g epc 256 epg), (cAJ g es 8 es_g), (cO7_rvvrii hs zr v1hs v2hs zp zmd ztr), (cO8_iiri zr 8 3 zrc zrn), (cAI g zrc 24 zrf), (cO8_iiri zp 8 2 zpc zpn), (cAI g zpc 16 zpf)]) := by
  refine cI.of (by decide) (Nat.le_of_ble_eq_true rfl) ?_
  intro p e s m args below meth c A X hr hi
  refine k_lveq [(0, .ref h0), (1, .ref hs)] rfl ?_
  refine k_aload_n X dX1_fewest_k0.1.1.1.1 1 rfl ?_
  refine k_get (ci := 7) X inlX7 rfl 3 (nlt_e rfl) dX1_fewest_k0.1.1.1.2 mw1360 6 rfl rfl ?_
  refine k_get (ci := 8) X inlX8 rfl 3 (nlt_e rfl) dX1_fewest_k0.1.1.2.1 mw1361 9 rfl rfl ?_
  refine k_bipush (v := 8) X dX1_fewest_k0.1.1.2.2 bi_8 ?_
  refine k_mmin X dX1_fewest_k0.1.2.1.1 mw1375 mw785 mw103 mw786 (Nat.le_of_ble_eq_true rfl) (Nat.le_of_ble_eq_true rfl) (Nat.zero_le _) (Nat.zero_le _) ?_
  refine k_nm (fun z_1 ez_1 => ?_)
  refine k_istore_n [(2, .int z_1), (0, .ref h0), (1, .ref hs)] X dX1_fewest_k0.1.2.1.2 (nlt_e rfl) rfl ?_
  refine k_aload_n X dX1_fewest_k0.1.2.2.1 1 rfl ?_
  refine k_aload_n X dX1_fewest_k0.1.2.2.2 2 rfl ?_
  refine k_callVV (n := 1) (As := [.ref hs]) (st := []) X [(cO1_rrr h0 eo ep es), (cO8_iiri eo 8 1 eoc eon), (cAI g eoc 8 eof), (cO8_iiri ep 256 1 epc epn), (cAI g epc 256 epf), (cAJ g es 8 es_f), (cO7_rvvrii hs zr v1hs v2hs zp zmd ztr), (cO8_iiri zr 8 3 zrc zrn), (cAI g zrc 24 zrf), (cO8_iiri zp 8 2 zpc zpn), (cAI g zpc 16 zpf)] [] [0, 1, 2, 3, 4, 5, 6, 7, 8, 9, 10] [] (e_sort l g h0 hs eo ep es eoc eon eof epc epn epf es_f zr v1hs v2hs zp zmd ztr zrc zrn zrf zpc zpn zpf) dX1_fewest_k0.2.1.1.1 mw1377 mw1378 mw1379 mw43 mw1380 rfl 1 rfl rfl 0 _ rfl yk_yX1_sort_1 rfl (Nat.le_of_ble_eq_true rfl) (Nat.le_of_ble_eq_true rfl) (Nat.le_of_ble_eq_true rfl) (Nat.le_of_ble_eq_true rfl) (Nat.le_of_ble_eq_true rfl) rfl rfl (by decide +kernel) rfl (by decide +kernel) (by decide +kernel) ?_
  rintro w ⟨eog_2, eok_3, rfl⟩
  refine k_ws [(cO1_rrr h0 eo ep es), (cO8_iiri eo 8 1 eoc eok_3), (cAI g eoc 8 eog_2), (cO8_iiri ep 256 1 epc epn), (cAI g epc 256 epf), (cAJ g es 8 es_f), (cO7_rvvrii hs zr v1hs v2hs zp zmd ztr), (cO8_iiri zr 8 3 zrc zrn), (cAI g zrc 24 zrf), (cO8_iiri zp 8 2 zpc zpn), (cAI g zpc 16 zpf)] rfl ?_
  refine k_aload_n X dX1_fewest_k0.2.1.1.2 1 rfl ?_
  refine k_aload_n X dX1_fewest_k0.2.1.2.1 2 rfl ?_
  refine k_callVV (n := 1) (As := [.ref hs]) (st := []) X [(cO1_rrr h0 eo ep es), (cO8_iiri eo 8 1 eoc eok_3), (cAI g eoc 8 eog_2), (cO8_iiri ep 256 1 epc epn), (cAI g epc 256 epf), (cAJ g es 8 es_f), (cO7_rvvrii hs zr v1hs v2hs zp zmd ztr), (cO8_iiri zp 8 2 zpc zpn), (cAI g zpc 16 zpf)] [(cO8_iiri zr 8 3 zrc zrn), (cAI g zrc 24 zrf)] [0, 1, 2, 3, 4, 5, 6, 9, 10] [7, 8] (e_weigh l g h0 hs eo ep es eoc eok_3 eog_2 epc epn epf es_f (.ref zr) v1hs v2hs zp zmd ztr zpc zpn zpf) dX1_fewest_k0.2.1.2.2 mw1385 mw1386 mw1387 mw43 mw1388 rfl 1 rfl rfl 0 _ rfl yk_yX1_weigh_1 rfl (Nat.le_of_ble_eq_true rfl) (Nat.le_of_ble_eq_true rfl) (Nat.le_of_ble_eq_true rfl) (Nat.le_of_ble_eq_true rfl) (Nat.le_of_ble_eq_true rfl) rfl rfl (vnd_e rfl) rfl (vnd_e rfl) (dsj_e rfl) ?_
  rintro w ⟨es_g_6, rfl⟩
  refine k_ws [(cO8_iiri zr 8 3 zrc zrn), (cAI g zrc 24 zrf), (cO1_rrr h0 eo ep es), (cO8_iiri eo 8 1 eoc eok_3), (cAI g eoc 8 eog_2), (cO8_iiri ep 256 1 epc epn), (cAI g epc 256 epf), (cAJ g es 8 es_g_6), (cO7_rvvrii hs zr v1hs v2hs zp zmd ztr), (cO8_iiri zp 8 2 zpc zpn), (cAI g zpc 16 zpf)] rfl ?_
  refine k_iconst (v := 1) X dX1_fewest_k0.2.2.1.1 ic_1 ?_
  refine k_istore_n [(3, .int 1), (2, .int z_1), (0, .ref h0), (1, .ref hs)] X dX1_fewest_k0.2.2.1.2 (nlt_e rfl) rfl ?_
  refine (fun hL : ∀ (nn_11 : Nat) (u_9 : Int32) (uf_10 : Nat → Int32), (((1 : Int32) <<< (z_1 &&& 31)).toInt - u_9.toInt).toNat = nn_11 → Wk p l e _ s m args below meth c _ A g _ _ _ [(cO8_iiri zr 8 3 zrc zrn), (cAI g zrc 24 zrf), (cO1_rrr h0 eo ep es), (cO8_iiri eo 8 1 eoc eok_3), (cAI g eoc 8 eog_2), (cO8_iiri ep 256 1 epc epn), (cAI g epc 256 uf_10), (cAJ g es 8 es_g_6), (cO7_rvvrii hs zr v1hs v2hs zp zmd ztr), (cO8_iiri zp 8 2 zpc zpn), (cAI g zpc 16 zpf)] [(3, .int u_9), (2, .int z_1), (0, .ref h0), (1, .ref hs)] 25 [] => hL _ 1 epf rfl ) ?_
  refine fun nn_11 => Nat.strongRecOn nn_11 (fun nn_11 ih_13 => ?_)
  intro u_9 uf_10 hm_12 
  refine k_iload_n X dX1_fewest_k0.2.2.2.1 0 rfl ?_
  refine k_iconst (v := 1) X dX1_fewest_k0.2.2.2.2 ic_1 ?_
  refine k_iload_n X dX1_fewest_k1.1.1.1.1 1 rfl ?_
  refine k_ishl X dX1_fewest_k1.1.1.1.2 ?_
  refine k_nm (fun z_14 ez_14 => ?_)
  refine k_ic_ge 131 X dX1_fewest_k1.1.1.2.1 (jp_e rfl) (fun h_15 => ?_) (fun h_15 => ?_)
  · skip
    refine k_iload_n X dX1_fewest_k4.2.1.2.1 1 rfl ?_
    refine k_aload_n X dX1_fewest_k4.2.1.2.2 2 rfl ?_
    refine k_get (ci := 1) X inlX1 rfl 1 (nlt_e rfl) dX1_fewest_k4.2.2.1.1 mw155 2 rfl rfl ?_
    refine k_iconst (v := 1) X dX1_fewest_k4.2.2.1.2 ic_1 ?_
    refine k_iload_n X dX1_fewest_k4.2.2.2.1 1 rfl ?_
    refine k_ishl X dX1_fewest_k4.2.2.2.2 ?_
    refine k_nm (fun z_16 ez_16 => ?_)
    refine k_iconst (v := 1) X dX1_fewest_k5.1.1 ic_1 ?_
    refine k_isub X dX1_fewest_k5.1.2.1 ?_
    refine k_nm (fun z_17 ez_17 => ?_)
    refine k_iconst (v := 0) X dX1_fewest_k5.1.2.2 ic_0 ?_
    refine k_callVI (n := 2) (As := [.int z_17, .int 0]) (st := [.int z_1]) X [(cO8_iiri ep 256 1 epc epn), (cAI g epc 256 uf_10)] [(cO8_iiri zr 8 3 zrc zrn), (cAI g zrc 24 zrf), (cO1_rrr h0 eo ep es), (cO8_iiri eo 8 1 eoc eok_3), (cAI g eoc 8 eog_2), (cAJ g es 8 es_g_6), (cO7_rvvrii hs zr v1hs v2hs zp zmd ztr), (cO8_iiri zp 8 2 zpc zpn), (cAI g zpc 16 zpf)] [5, 6] [0, 1, 2, 3, 4, 7, 8, 9, 10] (t_at l g ep z_17 0 256 1 epc epn 256 uf_10 (tbk_256_1)) dX1_fewest_k5.2.1 mw1392 mw376 mw377 mw64 mw378 rfl 8 rfl rfl 0 _ rfl yk_yX8_at_2 rfl (Nat.le_of_ble_eq_true rfl) (Nat.le_of_ble_eq_true rfl) (Nat.le_of_ble_eq_true rfl) (Nat.le_of_ble_eq_true rfl) (Nat.le_of_ble_eq_true rfl) rfl rfl (vnd_e rfl) rfl (vnd_e rfl) (dsj_e rfl) ?_
    rintro r_18 w ⟨hr_19, rfl⟩
    refine k_ws [(cO8_iiri zr 8 3 zrc zrn), (cAI g zrc 24 zrf), (cO1_rrr h0 eo ep es), (cO8_iiri eo 8 1 eoc eok_3), (cAI g eoc 8 eog_2), (cAJ g es 8 es_g_6), (cO7_rvvrii hs zr v1hs v2hs zp zmd ztr), (cO8_iiri zp 8 2 zpc zpn), (cAI g zpc 16 zpf), (cO8_iiri ep 256 1 epc epn), (cAI g epc 256 uf_10)] rfl ?_
    refine k_isub X dX1_fewest_k5.2.2.1 ?_
    refine k_nm (fun z_20 ez_20 => ?_)
    exact k_iret X hr dX1_fewest_k5.2.2.2 (Nat.le_of_ble_eq_true rfl) (Nat.le_of_ble_eq_true rfl) [2, 3, 4, 9, 10, 5, 6, 0, 1, 7, 8] (vnd_e rfl) rfl rfl (exI4 eog_2 eok_3 uf_10 es_g_6 rfl)
  · skip
    refine k_iconst (v := 0) X dX1_fewest_k1.1.1.2.2 ic_0 ?_
    refine k_istore [(4, .int 0), (3, .int u_9), (2, .int z_1), (0, .ref h0), (1, .ref hs)] X dX1_fewest_k1.1.2.1.1 (nlt_e rfl) rfl ?_
    refine k_lconst (v := 0) X dX1_fewest_k1.1.2.1.2 (by decide) ?_
    refine k_lstore [(5, .long 0), (4, .int 0), (3, .int u_9), (2, .int z_1), (0, .ref h0), (1, .ref hs)] X dX1_fewest_k1.1.2.2.1 (by decide) rfl ?_
    refine k_iconst (v := 0) X dX1_fewest_k1.1.2.2.2 ic_0 ?_
    refine k_istore [(7, .int 0), (5, .long 0), (4, .int 0), (3, .int u_9), (2, .int z_1), (0, .ref h0), (1, .ref hs)] X dX1_fewest_k1.2.1.1.1 (nlt_e rfl) rfl ?_
    refine (fun hL : ∀ (nn_25 : Nat) (u_21 : Int32) (u_22 : Int64) (u_23 : Int32), ((8 : Int32).toInt - u_21.toInt).toNat = nn_25 → (¬ u_21 < 0) → Wk p l e _ s m args below meth c _ A g _ _ _ [(cO8_iiri zr 8 3 zrc zrn), (cAI g zrc 24 zrf), (cO1_rrr h0 eo ep es), (cO8_iiri eo 8 1 eoc eok_3), (cAI g eoc 8 eog_2), (cO8_iiri ep 256 1 epc epn), (cAI g epc 256 uf_10), (cAJ g es 8 es_g_6), (cO7_rvvrii hs zr v1hs v2hs zp zmd ztr), (cO8_iiri zp 8 2 zpc zpn), (cAI g zpc 16 zpf)] [(7, .int u_21), (5, .long u_22), (4, .int u_23), (3, .int u_9), (2, .int z_1), (0, .ref h0), (1, .ref hs)] 41 [] => hL _ 0 0 0 rfl (by decide)) ?_
    refine fun nn_25 => Nat.strongRecOn nn_25 (fun nn_25 ih_27 => ?_)
    intro u_21 u_22 u_23 hm_26 hp_24
    refine k_iload X dX1_fewest_k1.2.1.1.2 0 rfl ?_
    refine k_aload_n X dX1_fewest_k1.2.1.2.1 5 rfl ?_
    refine k_get (ci := 1) X inlX1 rfl 2 (nlt_e rfl) dX1_fewest_k1.2.1.2.2 mw156 2 rfl rfl ?_
    refine k_alen 8 2 X dX1_fewest_k1.2.2.1.1 7 rfl rfl (by show Int32.ofNat 8 = 8; decide) ?_
    refine k_ic_ge 100 X dX1_fewest_k1.2.2.1.2 (jp_e rfl) (fun h_28 => ?_) (fun h_28 => ?_)
    · skip
      refine k_aload_n X dX1_fewest_k3.2.1.2.1 5 rfl ?_
      refine k_get (ci := 1) X inlX1 rfl 1 (nlt_e rfl) dX1_fewest_k3.2.1.2.2 mw155 2 rfl rfl ?_
      refine k_iload_n X dX1_fewest_k3.2.2.1.1 3 rfl ?_
      refine k_iconst (v := 0) X dX1_fewest_k3.2.2.1.2 ic_0 ?_
      refine k_lload X dX1_fewest_k3.2.2.2.1 1 rfl ?_
      refine k_lconst (v := 0) X dX1_fewest_k3.2.2.2.2 (by decide) ?_
      refine k_lcmp X dX1_fewest_k4.1.1.1.1 ?_
      refine k_nm (fun z_29 ez_29 => ?_)
      refine k_if_ne 120 X dX1_fewest_k4.1.1.1.2 (jp_e rfl) (fun h_30 => ?_) (fun h_30 => ?_)
      · skip
        refine k_iload X dX1_fewest_k4.1.2.2.1 2 rfl ?_
        refine k_callVV (n := 3) (As := [.int u_9, .int 0, .int u_23]) (st := []) X [(cO8_iiri ep 256 1 epc epn), (cAI g epc 256 uf_10)] [(cO8_iiri zr 8 3 zrc zrn), (cAI g zrc 24 zrf), (cO1_rrr h0 eo ep es), (cO8_iiri eo 8 1 eoc eok_3), (cAI g eoc 8 eog_2), (cAJ g es 8 es_g_6), (cO7_rvvrii hs zr v1hs v2hs zp zmd ztr), (cO8_iiri zp 8 2 zpc zpn), (cAI g zpc 16 zpf)] [5, 6] [0, 1, 2, 3, 4, 7, 8, 9, 10] (t_put l g ep u_9 0 u_23 256 1 epc epn 256 uf_10 (tbk_256_1)) dX1_fewest_k4.1.2.2.2 mw1393 mw326 mw327 mw64 mw328 rfl 8 rfl rfl 0 _ rfl yk_yX8_put_3 rfl (Nat.le_of_ble_eq_true rfl) (Nat.le_of_ble_eq_true rfl) (Nat.le_of_ble_eq_true rfl) (Nat.le_of_ble_eq_true rfl) (Nat.le_of_ble_eq_true rfl) rfl rfl (vnd_e rfl) rfl (vnd_e rfl) (dsj_e rfl) ?_
        rintro w ⟨fa_31, hr_33, rfl⟩
        refine k_ws [(cO8_iiri zr 8 3 zrc zrn), (cAI g zrc 24 zrf), (cO1_rrr h0 eo ep es), (cO8_iiri eo 8 1 eoc eok_3), (cAI g eoc 8 eog_2), (cAJ g es 8 es_g_6), (cO7_rvvrii hs zr v1hs v2hs zp zmd ztr), (cO8_iiri zp 8 2 zpc zpn), (cAI g zpc 16 zpf), (cO8_iiri ep 256 1 epc epn), (cAI g epc 256 fa_31)] rfl ?_
        obtain ⟨z_34, ez_34⟩ : ∃ y : Int32, u_9 + Int32.ofInt 1 = y := ⟨_, rfl⟩
        refine k_iinc z_34 [(3, .int z_34), (7, .int u_21), (5, .long u_22), (4, .int u_23), (2, .int z_1), (0, .ref h0), (1, .ref hs)] 3 X dX1_fewest_k4.2.1.1.1 rfl ez_34 (nlt_e rfl) rfl ?_
        refine k_goto 25 X dX1_fewest_k4.2.1.1.2 (jp_e rfl) ?_
        refine k_lv [(3, .int z_34), (2, .int z_1), (0, .ref h0), (1, .ref hs)] [0, 4, 5, 6] rfl ?_
        refine k_sub [(cO8_iiri zr 8 3 zrc zrn), (cAI g zrc 24 zrf), (cO1_rrr h0 eo ep es), (cO8_iiri eo 8 1 eoc eok_3), (cAI g eoc 8 eog_2), (cO8_iiri ep 256 1 epc epn), (cAI g epc 256 fa_31), (cAJ g es 8 es_g_6), (cO7_rvvrii hs zr v1hs v2hs zp zmd ztr), (cO8_iiri zp 8 2 zpc zpn), (cAI g zpc 16 zpf)] [0, 1, 2, 3, 4, 9, 10, 5, 6, 7, 8] rfl (by decide) rfl ?_
        exact ih_13 _ (by rw [← hm_12]; exact mu_ltE (by assumption) (by assumption) (by assumption)) z_34 fa_31 rfl 
      · skip
        refine k_iload X dX1_fewest_k4.1.1.2.1 2 rfl ?_
        refine k_iconst (v := 1) X dX1_fewest_k4.1.1.2.2 ic_1 ?_
        refine k_iadd X dX1_fewest_k4.1.2.1.1 ?_
        refine k_nm (fun z_35 ez_35 => ?_)
        refine k_goto 122 X dX1_fewest_k4.1.2.1.2 (jp_e rfl) ?_
        refine k_callVV (n := 3) (As := [.int u_9, .int 0, .int z_35]) (st := []) X [(cO8_iiri ep 256 1 epc epn), (cAI g epc 256 uf_10)] [(cO8_iiri zr 8 3 zrc zrn), (cAI g zrc 24 zrf), (cO1_rrr h0 eo ep es), (cO8_iiri eo 8 1 eoc eok_3), (cAI g eoc 8 eog_2), (cAJ g es 8 es_g_6), (cO7_rvvrii hs zr v1hs v2hs zp zmd ztr), (cO8_iiri zp 8 2 zpc zpn), (cAI g zpc 16 zpf)] [5, 6] [0, 1, 2, 3, 4, 7, 8, 9, 10] (t_put l g ep u_9 0 z_35 256 1 epc epn 256 uf_10 (tbk_256_1)) dX1_fewest_k4.1.2.2.2 mw1393 mw326 mw327 mw64 mw328 rfl 8 rfl rfl 0 _ rfl yk_yX8_put_3 rfl (Nat.le_of_ble_eq_true rfl) (Nat.le_of_ble_eq_true rfl) (Nat.le_of_ble_eq_true rfl) (Nat.le_of_ble_eq_true rfl) (Nat.le_of_ble_eq_true rfl) rfl rfl (vnd_e rfl) rfl (vnd_e rfl) (dsj_e rfl) ?_
        rintro w ⟨fa_36, hr_38, rfl⟩
        refine k_ws [(cO8_iiri zr 8 3 zrc zrn), (cAI g zrc 24 zrf), (cO1_rrr h0 eo ep es), (cO8_iiri eo 8 1 eoc eok_3), (cAI g eoc 8 eog_2), (cAJ g es 8 es_g_6), (cO7_rvvrii hs zr v1hs v2hs zp zmd ztr), (cO8_iiri zp 8 2 zpc zpn), (cAI g zpc 16 zpf), (cO8_iiri ep 256 1 epc epn), (cAI g epc 256 fa_36)] rfl ?_
        obtain ⟨z_39, ez_39⟩ : ∃ y : Int32, u_9 + Int32.ofInt 1 = y := ⟨_, rfl⟩
        refine k_iinc z_39 [(3, .int z_39), (7, .int u_21), (5, .long u_22), (4, .int u_23), (2, .int z_1), (0, .ref h0), (1, .ref hs)] 3 X dX1_fewest_k4.2.1.1.1 rfl ez_39 (nlt_e rfl) rfl ?_
        refine k_goto 25 X dX1_fewest_k4.2.1.1.2 (jp_e rfl) ?_
        refine k_lv [(3, .int z_39), (2, .int z_1), (0, .ref h0), (1, .ref hs)] [0, 4, 5, 6] rfl ?_
        refine k_sub [(cO8_iiri zr 8 3 zrc zrn), (cAI g zrc 24 zrf), (cO1_rrr h0 eo ep es), (cO8_iiri eo 8 1 eoc eok_3), (cAI g eoc 8 eog_2), (cO8_iiri ep 256 1 epc epn), (cAI g epc 256 fa_36), (cAJ g es 8 es_g_6), (cO7_rvvrii hs zr v1hs v2hs zp zmd ztr), (cO8_iiri zp 8 2 zpc zpn), (cAI g zpc 16 zpf)] [0, 1, 2, 3, 4, 9, 10, 5, 6, 7, 8] rfl (by decide) rfl ?_
        exact ih_13 _ (by rw [← hm_12]; exact mu_ltE (by assumption) (by assumption) (by assumption)) z_39 fa_36 rfl 
    · skip
      refine k_iload_n X dX1_fewest_k1.2.2.2.1 3 rfl ?_
      refine k_iload X dX1_fewest_k1.2.2.2.2 0 rfl ?_
      refine k_ishr X dX1_fewest_k2.1.1.1.1 ?_
      refine k_nm (fun z_40 ez_40 => ?_)
      refine k_iconst (v := 1) X dX1_fewest_k2.1.1.1.2 ic_1 ?_
      refine k_iand X dX1_fewest_k2.1.1.2.1 ?_
      refine k_nm (fun z_41 ez_41 => ?_)
      refine k_iconst (v := 1) X dX1_fewest_k2.1.1.2.2 ic_1 ?_
      refine k_ic_ne 94 X dX1_fewest_k2.1.2.1.1 (jp_e rfl) (fun h_42 => ?_) (fun h_42 => ?_)
      · skip
        obtain ⟨z_43, ez_43⟩ : ∃ y : Int32, u_21 + Int32.ofInt 1 = y := ⟨_, rfl⟩
        refine k_iinc z_43 [(7, .int z_43), (5, .long u_22), (4, .int u_23), (3, .int u_9), (2, .int z_1), (0, .ref h0), (1, .ref hs)] 0 X dX1_fewest_k3.2.1.1.1 rfl ez_43 (nlt_e rfl) rfl ?_
        refine k_goto 41 X dX1_fewest_k3.2.1.1.2 (jp_e rfl) ?_
        exact ih_27 _ (by rw [← hm_26]; exact mu_lt (by assumption) (by assumption)) z_43 u_22 u_23 rfl (up0 (by assumption) (by assumption) (by assumption))
      · skip
        refine k_iload X dX1_fewest_k2.1.2.1.2 2 rfl ?_
        refine k_aload_n X dX1_fewest_k2.1.2.2.1 5 rfl ?_
        refine k_get (ci := 1) X inlX1 rfl 1 (nlt_e rfl) dX1_fewest_k2.1.2.2.2 mw155 2 rfl rfl ?_
        refine k_iload_n X dX1_fewest_k2.2.1.1.1 3 rfl ?_
        refine k_iconst (v := 1) X dX1_fewest_k2.2.1.1.2 ic_1 ?_
        refine k_iload X dX1_fewest_k2.2.1.2.1 0 rfl ?_
        refine k_ishl X dX1_fewest_k2.2.1.2.2 ?_
        refine k_nm (fun z_44 ez_44 => ?_)
        refine k_ixor X dX1_fewest_k2.2.2.1.1 ?_
        refine k_nm (fun z_45 ez_45 => ?_)
        refine k_iconst (v := 0) X dX1_fewest_k2.2.2.1.2 ic_0 ?_
        refine k_callVI (n := 2) (As := [.int z_45, .int 0]) (st := [.int u_23]) X [(cO8_iiri ep 256 1 epc epn), (cAI g epc 256 uf_10)] [(cO8_iiri zr 8 3 zrc zrn), (cAI g zrc 24 zrf), (cO1_rrr h0 eo ep es), (cO8_iiri eo 8 1 eoc eok_3), (cAI g eoc 8 eog_2), (cAJ g es 8 es_g_6), (cO7_rvvrii hs zr v1hs v2hs zp zmd ztr), (cO8_iiri zp 8 2 zpc zpn), (cAI g zpc 16 zpf)] [5, 6] [0, 1, 2, 3, 4, 7, 8, 9, 10] (t_at l g ep z_45 0 256 1 epc epn 256 uf_10 (tbk_256_1)) dX1_fewest_k2.2.2.2.1 mw1392 mw376 mw377 mw64 mw378 rfl 8 rfl rfl 0 _ rfl yk_yX8_at_2 rfl (Nat.le_of_ble_eq_true rfl) (Nat.le_of_ble_eq_true rfl) (Nat.le_of_ble_eq_true rfl) (Nat.le_of_ble_eq_true rfl) (Nat.le_of_ble_eq_true rfl) rfl rfl (vnd_e rfl) rfl (vnd_e rfl) (dsj_e rfl) ?_
        rintro r_46 w ⟨hr_47, rfl⟩
        refine k_ws [(cO8_iiri zr 8 3 zrc zrn), (cAI g zrc 24 zrf), (cO1_rrr h0 eo ep es), (cO8_iiri eo 8 1 eoc eok_3), (cAI g eoc 8 eog_2), (cAJ g es 8 es_g_6), (cO7_rvvrii hs zr v1hs v2hs zp zmd ztr), (cO8_iiri zp 8 2 zpc zpn), (cAI g zpc 16 zpf), (cO8_iiri ep 256 1 epc epn), (cAI g epc 256 uf_10)] rfl ?_
        refine k_mmax X dX1_fewest_k2.2.2.2.2 mw1376 mw102 mw103 mw104 (Nat.le_of_ble_eq_true rfl) (Nat.le_of_ble_eq_true rfl) (Nat.zero_le _) (Nat.zero_le _) ?_
        refine k_nm (fun z_48 ez_48 => ?_)
        refine k_istore [(4, .int z_48), (7, .int u_21), (5, .long u_22), (3, .int u_9), (2, .int z_1), (0, .ref h0), (1, .ref hs)] X dX1_fewest_k3.1.1.1.1 (nlt_e rfl) rfl ?_
        refine k_lload X dX1_fewest_k3.1.1.1.2 2 rfl ?_
        refine k_aload_n X dX1_fewest_k3.1.1.2.1 5 rfl ?_
        refine k_get (ci := 1) X inlX1 rfl 2 (nlt_e rfl) dX1_fewest_k3.1.1.2.2 mw156 2 rfl rfl ?_
        refine k_iload X dX1_fewest_k3.1.2.1.1 1 rfl ?_
        refine k_lald X dX1_fewest_k3.1.2.1.2 5 rfl (in8 (by assumption) (by assumption)) ?_
        refine k_nmL (fun y_49 ey_49 => ?_)
        refine k_ladd X dX1_fewest_k3.1.2.2.1 ?_
        refine k_nmL (fun y_50 ey_50 => ?_)
        refine k_lstore [(5, .long y_50), (4, .int z_48), (7, .int u_21), (3, .int u_9), (2, .int z_1), (0, .ref h0), (1, .ref hs)] X dX1_fewest_k3.1.2.2.2 (by decide) rfl ?_
        obtain ⟨z_51, ez_51⟩ : ∃ y : Int32, u_21 + Int32.ofInt 1 = y := ⟨_, rfl⟩
        refine k_iinc z_51 [(7, .int z_51), (5, .long y_50), (4, .int z_48), (3, .int u_9), (2, .int z_1), (0, .ref h0), (1, .ref hs)] 2 X dX1_fewest_k3.2.1.1.1 rfl ez_51 (nlt_e rfl) rfl ?_
        refine k_goto 41 X dX1_fewest_k3.2.1.1.2 (jp_e rfl) ?_
        refine k_sub [(cO8_iiri zr 8 3 zrc zrn), (cAI g zrc 24 zrf), (cO1_rrr h0 eo ep es), (cO8_iiri eo 8 1 eoc eok_3), (cAI g eoc 8 eog_2), (cO8_iiri ep 256 1 epc epn), (cAI g epc 256 uf_10), (cAJ g es 8 es_g_6), (cO7_rvvrii hs zr v1hs v2hs zp zmd ztr), (cO8_iiri zp 8 2 zpc zpn), (cAI g zpc 16 zpf)] [0, 1, 2, 3, 4, 9, 10, 5, 6, 7, 8] rfl (by decide) rfl ?_
        exact ih_27 _ (by rw [← hm_26]; exact mu_lt (by assumption) (by assumption)) z_51 y_50 z_48 rfl (up0 (by assumption) (by assumption) (by assumption))
