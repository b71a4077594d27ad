theorem P_grow {D : va_G} {cl : List vw_C} {ws : va_W} {H H1 : Heap} (h : va_P D cl ws H) (hk : ∀ a : Nat, a < H.size → H1[a]? = H[a]?) : va_P D cl ws H1 := h.kept (fun k q hq => hk q.1 (h k q hq).lt)
abbrev vxW : List Cond := vx_at0 RX10 365 nseN ["java/lang/RuntimeException", "java/lang/Exception"]
abbrev vxG : List Cond := vxW.filter goodWord
def declL : List MethodName := [Bundle.init0 "java/lang/RuntimeException", Bundle.init0 "java/lang/Exception", Bundle.init0 Bundle.tN]
theorem vxW_or : ∀ w ∈ vxW, w ∈ vxG ∨ w = Cond.castable nseN nseN ∨ w ∈ declL.map Cond.declares := by decide +kernel
theorem de_tbl : ∀ q ∈ declL, Cond.declares q ∈ lw_tbl := by decide +kernel
theorem vxW_tbl : ∀ w ∈ vxW, w ∈ lw_tbl := by decide +kernel
def wsE : List Cond := wsL_law0 ++ vxG
theorem wsE_in : ∀ w ∈ wsE, w ∈ lw_tbl := fun w h => (List.mem_append.mp h).elim (fun q => wsL_in w q) (fun q => vxW_tbl w (List.mem_filter.mp q).1)
theorem gE : GoodIn wsE wsE := fun w h => ⟨h, (List.mem_append.mp h).elim (fun q => goodL w q) (fun q => good_of_word (List.mem_filter.mp q).2)⟩
def kZ (A : Nat → Prop) (U : State) (H : Heap) : Prop := vx_Zq Bundle.tN "UNASSIGNED_STACK" Bundle.steD A U H ∧ vx_Zq Bundle.tN "SUPPRESSED_SENTINEL" Bundle.listD A U H ∧ ∀ q ∈ declL, va_Nw (.declares q) U
def kPreX (g : Gx) (ws : va_W) (sz : Nat) (U : State) : Prop := kPre g ws sz U ∧ kZ (va_A ws sz) U U.heap
theorem kx_blind {av : List Value} {g : Gx} {wc : va_W} {sz : Nat} : FrameBlind (va_Pc av (kPreX g wc sz)) := fun a U gf mk q => by
  obtain ⟨q0, ⟨q1, qP, qK, qD, qS⟩, q2, q3, q4⟩ := q
  exact ⟨q0, ⟨q1, qP, kK.calling qK, qD, kS.calling qS⟩, vx_Zq.moved (u := U) (U := U.calling gf mk a) (Vm.Alike.refl U.vm) q2, vx_Zq.moved (u := U) (U := U.calling gf mk a) (Vm.Alike.refl U.vm) q3, fun q hq => va_Nw.same (u := U) rfl rfl (q4 q hq)⟩
theorem kZ.at {A : Nat → Prop} {s : State} {H : Heap} {locs : List Loc} (h : kZ A s s.heap) (hS : va_S A s.heap H locs) {B : Nat → Prop} (hB : ∀ q, B q → A q) : kZ B s H :=
  ⟨vx_Zq.narrow (vx_Zq.kept h.1 (fun a ha hn => hS.2.1 a ha hn)) hB, vx_Zq.narrow (vx_Zq.kept h.2.1 (fun a ha hn => hS.2.1 a ha hn)) hB, h.2.2⟩
theorem kx_pre {wc : va_W} {H : Heap} {av : List Value} {s : State} {g : Gx} {A : Nat → Prop} {locs : List Loc} (hK : kK g s) (hP : va_P g.1 vwCl wc H) (hD : va_D A wc) (hSt : kS g A s s.heap) (hS : va_S A s.heap H locs) (hF : ∀ q, va_A wc H.size q → A q) (hZ : kZ A s s.heap) : ∀ U : State, U.heap = H → s.WarmedH U.vm → va_Pc av (kPreX g wc H.size) av.toArray U :=
  fun U hU hW => ⟨rfl, (k_pre (ws := wc) (av := av) hK hP hD hSt hS hF U hU hW).2, by
    have hz := kZ.at hZ hS hF
    rw [hU]
    exact ⟨vx_Zq.moved hW.alike hz.1, vx_Zq.moved hW.alike hz.2.1, fun q hq => va_Nw.warmD hW (hz.2.2 q hq)⟩⟩
def cLedM (l : Launch) (g : Gx) (av : List Value) (ws : va_W) : Prop := ∀ sz : Nat, vx_Met l yX10_led (Cond.code yX10_led cX10_led 4 (some .int) :: wsE) (rm4 6 81 1 6) (va_Pc av (kPreX g ws sz)) (va_Qi (fun (_ : Int32) (w : va_W) => w = ws) (kPost g (va_A ws sz)) (va_A ws sz)) (vx_X (fun w : va_W => w = ws) (fun E w t => E = nseN ∧ kPost g (va_A ws sz) w t) (va_A ws sz)) 1 6 (va_A ws sz)

theorem dX10_led_0 : decode cX10_led 0 = .ok (.iconst 0, 1) := dk_3 rfl
theorem dX10_led_1 : decode cX10_led 1 = .ok (.istore_n 2, 1) := dk_61 rfl
theorem dX10_led_2 : decode cX10_led 2 = .ok (.iconst 0, 1) := dk_3 rfl
theorem dX10_led_3 : decode cX10_led 3 = .ok (.istore_n 3, 1) := dk_62 rfl
theorem dX10_led_4 : decode cX10_led 4 = .ok (.iload_n 3, 1) := dk_29 rfl
theorem dX10_led_5 : decode cX10_led 5 = .ok (.aload_n 0, 1) := dk_42 rfl
theorem dX10_led_6 : decode cX10_led 6 = .ok (.getfield 26, 3) := dk_180 rfl rfl rfl rfl
theorem dX10_led_9 : decode cX10_led 9 = .ok (.getfield 144, 3) := dk_180 rfl rfl rfl rfl
theorem dX10_led_12 : decode cX10_led 12 = .ok (.getfield 113, 3) := dk_180 rfl rfl rfl rfl
theorem dX10_led_15 : decode cX10_led 15 = .ok (.if_icmp .ge 30, 3) := dk_162 rfl rfl rfl (by decide)
theorem dX10_led_18 : decode cX10_led 18 = .ok (.aload_n 0, 1) := dk_42 rfl
theorem dX10_led_19 : decode cX10_led 19 = .ok (.getfield 26, 3) := dk_180 rfl rfl rfl rfl
theorem dX10_led_22 : decode cX10_led 22 = .ok (.iload_n 3, 1) := dk_29 rfl
theorem dX10_led_23 : decode cX10_led 23 = .ok (.invokevirtual 273, 3) := dk_182 rfl rfl rfl rfl
theorem dX10_led_26 : decode cX10_led 26 = .ok (.ifCond .eq 13, 3) := dk_153 rfl rfl rfl (by decide)
theorem dX10_led_29 : decode cX10_led 29 = .ok (.iload_n 2, 1) := dk_28 rfl
theorem dX10_led_30 : decode cX10_led 30 = .ok (.iload_n 1, 1) := dk_27 rfl
theorem dX10_led_31 : decode cX10_led 31 = .ok (.if_icmp .ne 5, 3) := dk_160 rfl rfl rfl (by decide)
theorem dX10_led_34 : decode cX10_led 34 = .ok (.iload_n 3, 1) := dk_29 rfl
theorem dX10_led_35 : decode cX10_led 35 = .ok (.ireturn, 1) := dk_172 rfl
theorem dX10_led_36 : decode cX10_led 36 = .ok (.iinc 2 1, 3) := dk_132 rfl rfl rfl rfl (by decide)
theorem dX10_led_39 : decode cX10_led 39 = .ok (.iinc 3 1, 3) := dk_132 rfl rfl rfl rfl (by decide)
theorem dX10_led_42 : decode cX10_led 42 = .ok (.goto (-38), 3) := dk_167 rfl rfl rfl (by decide)
theorem dX10_led_45 : decode cX10_led 45 = .ok (.new 363, 3) := dk_187 rfl rfl rfl rfl
theorem dX10_led_48 : decode cX10_led 48 = .ok (.dup, 1) := dk_89 rfl
theorem dX10_led_49 : decode cX10_led 49 = .ok (.invokespecial 365, 3) := dk_183 rfl rfl rfl rfl
theorem dX10_led_52 : decode cX10_led 52 = .ok (.athrow, 1) := dk_191 rfl
set_option maxHeartbeats 4000000 in
set_option maxRecDepth 100000 in
theorem c_led (l : Launch) (hlt : l.stackTraces = false) (g : Gx) (h0 : Nat) (p0 : Int32) (v0h0 : Value) (v1h0 : Value) (nw : Nat) (v3h0 : Value) (v4h0 : Value) (v5h0 : Value) (v6h0 : Value) (v7h0 : Value) (v8h0 : Value) (tr : Int32) (v0nw : Value) (v1nw : Value) (zw : Nat) (v3nw : Value) (zmd : Int32) (ztr : Int32) (zwc : Nat) (zwn : Int32) (zwf : Nat → Int32) : cLedM l g [.ref h0, .int p0] [(cO10_vvrvvvvvvi h0 v0h0 v1h0 nw v3h0 v4h0 v5h0 v6h0 v7h0 v8h0 tr), (cO7_vvrvii nw v0nw v1nw zw v3nw zmd ztr), (cO8_iiri zw 6 3 zwc zwn), (cAI g zwc 18 zwf)] := by
  intro sz
  refine vx_ofW (cc := cX10_led) (maxL := 4) (ret := some .int) (by decide) rfl ?_
  intro p e s m args below meth c s₁ B hml hexc hv
  obtain ⟨rfl, ⟨hsz, hP, hK, hD0, hSt⟩, hZ⟩ := hv
  subst hsz
  have hts := atoms_spec (ws := Cond.code yX10_led cX10_led 4 (some .int) :: wsE) B.pre
  have hr : meth.sig.returnType = some .int := B.returns
  rw [lg_entry_eq]
  have X : Cx p s m meth c [Value.ref h0, .int p0].toArray cX10_led 4 RX10 (va_A [(cO10_vvrvvvvvvi h0 v0h0 v1h0 nw v3h0 v4h0 v5h0 v6h0 v7h0 v8h0 tr), (cO7_vvrvii nw v0nw v1nw zw v3nw zmd ztr), (cO8_iiri zw 6 3 zwc zwn), (cAI g zwc 18 zwf)] s.heap.size) g := ⟨B.exec, B.bytes, hml, findClass_of_methodNamed B.named, fun w h => hts w (List.mem_cons_of_mem _ (List.mem_append_left _ h)), hK, fun q h => Or.inr h, B.notSynchronized, hSt⟩
  refine (fun K : Wk p l e (rm4 6 81 1 6) s m _ below meth c _ (va_A [(cO10_vvrvvvvvvi h0 v0h0 v1h0 nw v3h0 v4h0 v5h0 v6h0 v7h0 v8h0 tr), (cO7_vvrvii nw v0nw v1nw zw v3nw zmd ztr), (cO8_iiri zw 6 3 zwc zwn), (cAI g zwc 18 zwf)] s.heap.size) g 4 0 0 [(cO10_vvrvvvvvvi h0 v0h0 v1h0 nw v3h0 v4h0 v5h0 v6h0 v7h0 v8h0 tr), (cO7_vvrvii nw v0nw v1nw zw v3nw zmd ztr), (cO8_iiri zw 6 3 zwc zwn), (cAI g zwc 18 zwf)] (lv_args 0 [.ref h0, .int p0]) 0 [] => K _ _ _ hP hD0.self va_S.rf (lv_entry [.ref h0, .int p0] (n := 4) (Nat.le_of_ble_eq_true rfl))) ?_
  generalize va_A [(cO10_vvrvvvvvvi h0 v0h0 v1h0 nw v3h0 v4h0 v5h0 v6h0 v7h0 v8h0 tr), (cO7_vvrvii nw v0nw v1nw zw v3nw zmd ztr), (cO8_iiri zw 6 3 zwc zwn), (cAI g zwc 18 zwf)] s.heap.size = A at *
  refine k_lveq [(0, .ref h0), (1, .int p0)] rfl ?_
  refine k_iconst (v := 0) X dX10_led_0 (by decide) ?_
  refine k_istore_n [(2, .int 0), (0, .ref h0), (1, .int p0)] X dX10_led_1 (by decide) rfl ?_
  refine k_iconst (v := 0) X dX10_led_2 (by decide) ?_
  refine k_istore_n [(3, .int 0), (2, .int 0), (0, .ref h0), (1, .int p0)] X dX10_led_3 (by decide) rfl ?_
  refine (fun hL : ∀ (nn_4 : Nat) (u_1 : Int32) (u_2 : Int32), (zwn.toInt - u_2.toInt).toNat = nn_4 → (IV u_2 0 2147483647) → Wk p l e _ s m _ below meth c _ A g _ _ _ [(cO10_vvrvvvvvvi h0 v0h0 v1h0 nw v3h0 v4h0 v5h0 v6h0 v7h0 v8h0 tr), (cO7_vvrvii nw v0nw v1nw zw v3nw zmd ztr), (cO8_iiri zw 6 3 zwc zwn), (cAI g zwc 18 zwf)] [(3, .int u_2), (2, .int u_1), (0, .ref h0), (1, .int p0)] 4 [] => hL _ 0 0 rfl (iv_w (show IV 0 0 0 from (by decide)) (by decide) (by decide))) ?_
  refine fun nn_4 => Nat.strongRecOn nn_4 (fun nn_4 ih_6 => ?_)
  intro u_1 u_2 hm_5 hv_3
  refine k_iload_n X dX10_led_4 0 rfl ?_
  refine k_aload_n X dX10_led_5 2 rfl ?_
  refine k_get (ci := 10) X inlX10 rfl 2 (by decide) dX10_led_6 mw24 0 rfl rfl ?_
  refine k_get (ci := 7) X inlX7 rfl 2 (by decide) dX10_led_9 mw646 1 rfl rfl ?_
  refine k_get (ci := 8) X inlX8 rfl 3 (by decide) dX10_led_12 mw214 2 rfl rfl ?_
  refine k_ic_ge 45 X dX10_led_15 (by decide) (fun h_7 => ?_) (fun h_7 => ?_)
  · skip
    have j_8 : zwn.toInt ≤ u_2.toInt := iv_le h_7
    intro H locs ls hP hD hS hl
    have hPw := hP.sub (ws' := [(cO10_vvrvvvvvvi h0 v0h0 v1h0 nw v3h0 v4h0 v5h0 v6h0 v7h0 v8h0 tr), (cO7_vvrvii nw v0nw v1nw zw v3nw zmd ztr), (cO8_iiri zw 6 3 zwc zwn), (cAI g zwc 18 zwf)]) [0, 1, 2, 3] rfl
    have hDw := hD.sub (ws' := [(cO10_vvrvvvvvvi h0 v0h0 v1h0 nw v3h0 v4h0 v5h0 v6h0 v7h0 v8h0 tr), (cO7_vvrvii nw v0nw v1nw zw v3nw zmd ztr), (cO8_iiri zw 6 3 zwc zwn), (cAI g zwc 18 zwf)]) [0, 1, 2, 3] (by decide) rfl
    exact vx_throw0 (own := RX10) (cls := nseN) (names := ["java/lang/RuntimeException", "java/lang/Exception"]) (ik := 363) (ic := 365) X.1 X.2.1 hlt X.2.2.2.1 (by decide +kernel) (by decide +kernel) (X.2.2.2.2.1 _ mw1556) (X.2.2.2.2.1 _ mw1557) (fun w h => (vxW_or w h).elim (fun q => hts w (List.mem_cons_of_mem _ (List.mem_append_right _ q))) (fun q => q.elim (fun q => by rw [q]; exact va_Nw.use rfl X.2.2.2.2.2.1.2.2.2.2) (fun q => by obtain ⟨y, hy, rfl⟩ := List.mem_map.mp q; exact va_Nw.use rfl (hZ.2.2 y hy)))) (by decide +kernel) hZ.1 hZ.2.1 hS (by rw [X.2.2.1]; exact hl.1) dX10_led_45 dX10_led_48 dX10_led_49 dX10_led_52 (fun x hx => (hexc x hx).elim) (by decide) (by decide) (by decide) (by decide) X.2.2.2.2.2.2.2.1 (fun t hal hz hk => ⟨[(cO10_vvrvvvvvvi h0 v0h0 v1h0 nw v3h0 v4h0 v5h0 v6h0 v7h0 v8h0 tr), (cO7_vvrvii nw v0nw v1nw zw v3nw zmd ztr), (cO8_iiri zw 6 3 zwc zwn), (cAI g zwc 18 zwf)], rfl, ⟨rfl, P_grow hPw hk, hDw⟩, Nat.le_trans hS.1 hz, fun q h1 h2 => (hk q (Nat.lt_of_lt_of_le h1 hS.1)).trans (hS.2.1 q h1 h2)⟩) hS.2.2 (by decide) (by decide)
  · skip
    have j_9 : u_2.toInt < zwn.toInt := iv_nle h_7
    have iv_10 : IV u_2 0 2147483646 := iv_ltL (iv_nle h_7) hv_3 (iv_any zwn) (by decide)
    have iv_11 : IV zwn 1 2147483647 := iv_ltR (iv_nle h_7) hv_3 (iv_any zwn) (by decide)
    refine k_aload_n X dX10_led_18 2 rfl ?_
    refine k_get (ci := 10) X inlX10 rfl 2 (by decide) dX10_led_19 mw24 0 rfl rfl ?_
    refine k_iload_n X dX10_led_22 0 rfl ?_
    refine k_callVI (n := 1) (As := [.int u_2]) (st := []) X [(cO7_vvrvii nw v0nw v1nw zw v3nw zmd ztr), (cO8_iiri zw 6 3 zwc zwn), (cAI g zwc 18 zwf)] [(cO10_vvrvvvvvvi h0 v0h0 v1h0 nw v3h0 v4h0 v5h0 v6h0 v7h0 v8h0 tr)] [1, 2, 3] [0] (s_isWeakX l g nw u_2 v0nw v1nw zw v3nw zmd ztr zwc zwn zwf) dX10_led_23 mw1243 mw661 mw662 mw23 mw663 rfl 7 rfl rfl 0 _ rfl yk_yX7_isWeak_1 rfl (Nat.le_of_ble_eq_true rfl) (Nat.le_of_ble_eq_true rfl) (Nat.le_of_ble_eq_true rfl) (Nat.le_of_ble_eq_true rfl) (Nat.le_of_ble_eq_true rfl) rfl rfl (by decide) rfl (by decide) (by decide) ?_
    rintro r_12 w ⟨hq_13, rfl⟩
    refine k_ws [(cO10_vvrvvvvvvi h0 v0h0 v1h0 nw v3h0 v4h0 v5h0 v6h0 v7h0 v8h0 tr), (cO7_vvrvii nw v0nw v1nw zw v3nw zmd ztr), (cO8_iiri zw 6 3 zwc zwn), (cAI g zwc 18 zwf)] rfl ?_
    refine k_if_eq 39 X dX10_led_26 (by decide) (fun h_14 => ?_) (fun h_14 => ?_)
    · skip
      have iv_15 : IV r_12 0 0 := iv_meet (iv_any r_12) (iv_e h_14 (show IV 0 0 0 from (by decide))) (by decide) (by decide)
      obtain ⟨z_16, ez_16⟩ : ∃ y : Int32, u_2 + Int32.ofInt 1 = y := ⟨_, rfl⟩
      refine k_iinc z_16 [(3, .int z_16), (2, .int u_1), (0, .ref h0), (1, .int p0)] 0 X dX10_led_39 rfl ez_16 (by decide) rfl ?_
      have i_17 : z_16.toInt = u_2.toInt + 1 := in_inc ez_16 (by decide) iv_10 (by decide) (by decide)
      have iv_18 : IV z_16 1 2147483647 := iz1 i_17 iv_10 (by decide) (by decide)
      refine k_goto 4 X dX10_led_42 (by decide) ?_
      exact ih_6 _ (by omega) u_1 z_16 rfl (iv_w iv_18 (by decide) (by decide))
    · skip
      refine k_iload_n X dX10_led_29 1 rfl ?_
      refine k_iload_n X dX10_led_30 3 rfl ?_
      refine k_ic_ne 36 X dX10_led_31 (by decide) (fun h_19 => ?_) (fun h_19 => ?_)
      · skip
        obtain ⟨z_20, ez_20⟩ : ∃ y : Int32, u_1 + Int32.ofInt 1 = y := ⟨_, rfl⟩
        refine k_iinc z_20 [(2, .int z_20), (3, .int u_2), (0, .ref h0), (1, .int p0)] 1 X dX10_led_36 rfl ez_20 (by decide) rfl ?_
        obtain ⟨z_21, ez_21⟩ : ∃ y : Int32, u_2 + Int32.ofInt 1 = y := ⟨_, rfl⟩
        refine k_iinc z_21 [(3, .int z_21), (2, .int z_20), (0, .ref h0), (1, .int p0)] 1 X dX10_led_39 rfl ez_21 (by decide) rfl ?_
        have i_22 : z_21.toInt = u_2.toInt + 1 := in_inc ez_21 (by decide) iv_10 (by decide) (by decide)
        have iv_23 : IV z_21 1 2147483647 := iz1 i_22 iv_10 (by decide) (by decide)
        refine k_goto 4 X dX10_led_42 (by decide) ?_
        exact ih_6 _ (by omega) z_20 z_21 rfl (iv_w iv_23 (by decide) (by decide))
      · skip
        refine k_iload_n X dX10_led_34 0 rfl ?_
        intro H locs ls hP hD hS hl
        refine vx_ret ?_
        exact k_iret X hr dX10_led_35 (by decide) (by decide) [0, 1, 2, 3] (by decide) rfl rfl rfl H locs ls hP hD hS hl

theorem ck_go {e : Env} {S : State} {f : JFrame} {a : Addr} {meth : Method} {code : Code} {x : ExceptionTableEntry} {d : ClassId} {cell : Cell} (hm : S.vm.method? f.method = some meth) (hc : meth.code = some code) (htab : code.exceptionTable.toList = [x]) (hx : covers x f.pc = true) (h0 : x.catchType ≠ 0)
    (hl : S.vm.ClassLinks e.platform f.method.cls x.catchType d) (hcell : S.heap[a]? = some cell) (hobj : ∀ k, cell.vm ≠ .statics k) (hk : ∃ k, S.vm.classes[cell.cls]? = some k) (hd : ∃ k, S.vm.classes[d]? = some k) (hfit : S.vm.assignable cell.cls d = true) (Q : Handler → Pre) (E : CtlPost) (b : Bool) (acts : List Action) :
    wp (findHandler f a) Q E e b acts S ↔ Q (.found x.handlerPc) b acts (S.setVm (S.vm.noted f.method.cls x.catchType (.cls d))) := by
  rw [Jvm.W.findHandler_eq hm hc, htab]
  simp only [covers] at hx
  obtain ⟨ha, ht⟩ := (resolveClass_links e.toSetting hl).op (op := VmOp.resolveClass f.method.cls x.catchType) rfl
  have hal : S.vm.Alike (S.vm.noted f.method.cls x.catchType (.cls d)) := (Vm.Alike.refl S.vm).noted _ _ _
  obtain ⟨k1, hk1⟩ := hk
  obtain ⟨k2, hk2⟩ := hd
  obtain ⟨k1', hk1', -⟩ := hal.2.2 _ _ hk1
  obtain ⟨k2', hk2', -⟩ := hal.2.2 _ _ hk2
  have hfit' : (S.vm.noted f.method.cls x.catchType (.cls d)).assignable cell.cls d = true := by rw [hal.assignable]; exact hfit
  simp [findHandler.go, hx, h0, ha, ht, hcell, hobj, hk1', hk2', hfit', VmOp.dirties, VmOp.acts]
theorem ck_step {e : Env} {S : State} {f : JFrame} {a : Addr} {r : List Frame} {pc : Nat} {vm' : Vm} (hfind : ∀ (Q : Handler → Pre) (E : CtlPost) (b : Bool) (acts : List Action), wp (findHandler f a) Q E e b acts S ↔ Q (.found pc) b acts (S.setVm vm')) :
    (stepThrowing e S a (.java f :: r)).Is ((S.setVm vm').setFrames (.java { f with pc := pc, stack := [.ref a] } :: r)) [] := by
  simp only [stepThrowing, searchFrame, vmDo]
  generalize hr : Sem.go _ e false [] S = res
  obtain ⟨as, rfl, ha⟩ := Sem.eq_ok_of hr (a := Handler.found pc) (s' := S.setVm vm') (acts' := []) (by simp [hfind _ _ _ _])
  exact ⟨rfl, ha⟩
theorem ck_frames (u : State) (vm' : Vm) (F G : List Frame) : ((u.setFrames F).setVm vm').setFrames G = (u.setVm vm').setFrames G := by
  have h1 : (u.setFrames F).setVm vm' = (u.setVm vm').setFrames F := rfl
  rw [h1, State.setFrames_setFrames]
theorem ck_catch {p : Program} {l : Launch} {e : Env} {R : Room} {s : State} {m : MethodId} {args : Array Value} {below : List Frame} {meth : Method} {c : Code} {H : Heap} {locs : List Loc} {cells slots : Nat} {Q : State → Prop} {pc : Nat} {ls : Array Slot} {rest : List Value} {own name E : String} {ce : Cell} {q : Addr} (hown : s.vm.findClass own = some m.cls) (x : ExceptionTableEntry) (htab : c.exceptionTable.toList = [x]) (hx : covers x pc = true) (h0 : x.catchType ≠ 0)
    (hlink : (Cond.classLink own x.catchType name).before args s = true) (hcast : (Cond.castable E name).before args s = true) (hcell : H[q]? = some ce) (hv : ce.vm = .none) (hcl : s.vm.findClass E = some ce.cls)
    (kk : W p l e R s m args below meth c H locs cells slots Q (F0 m x.handlerPc ls [.ref q])) : vx_W p l e R s m args below meth c H locs cells slots Q (F0 m pc ls rest) q := by
  intro T hT X
  have hpl : e.platform.magicAccessors = ({} : Platform).magicAccessors := by rw [X.admits.platform]
  obtain ⟨c3, c4, hc3, hc4, hasg⟩ := Cond.castable_spec hcast
  cases Option.some.inj (hc3.symm.trans hcl)
  obtain ⟨c5, hc5, hl5⟩ := Cond.classLink_spec hown hlink e.platform hpl
  cases Option.some.inj (hc4.symm.trans hc5)
  obtain ⟨dk, _, _, kt, hd, _, _, _, _, hkt, _, hopen⟩ := hl5.here
  obtain ⟨k0, hk0, -⟩ := Vm.findClass_spec hcl
  obtain ⟨k0', hk0', -⟩ := X.warmed.alike.2.2 _ _ hk0
  obtain ⟨kt', hkt', -⟩ := X.warmed.alike.2.2 _ _ hkt
  have hW' : s.WarmedH (T.vm.noted m.cls x.catchType (.cls c4)) := X.warmed.noted hd hopen (State.rightAt_cls hl5)
  obtain ⟨t, a1, b1⟩ := kk (T.setVm (T.vm.noted m.cls x.catchType (.cls c4))) hT (X.noted hW')
  refine ⟨t, ?_, b1⟩
  obtain ⟨hgo, hw⟩ := (show At T (F0 m pc ls rest).method c below from X.here).throwing q
  refine Steps.head hgo hw ?_
  rw [stepThread_throwing (frames_entered X.here.top _), (ck_step (S := (T.setTop (F0 m pc ls rest)).pushFrame (.throwing q)) (pc := x.handlerPc) (vm' := T.vm.noted m.cls x.catchType (.cls c4)) (fun Q E b acts => ck_go (S := (T.setTop (F0 m pc ls rest)).pushFrame (.throwing q)) (f := F0 m pc ls rest) (cell := ce) (d := c4) X.method' X.code htab hx h0 (X.warmed.classLinks hl5) (by show T.heap[q]? = some ce; rw [hT]; exact hcell) (fun k h => by rw [hv] at h; cases h) ⟨k0', hk0'⟩ ⟨kt', hkt'⟩ (by show T.vm.assignable _ _ = true; rw [X.warmed.alike.assignable]; exact hasg) Q E b acts)).1]
  obtain ⟨g₀, hg⟩ := Option.isSome_iff_exists.mp X.here.top
  obtain ⟨r, hr⟩ := State.topJava?_eq_some.mp hg
  have hr' : (T.setVm (T.vm.noted m.cls x.catchType (.cls c4))).frames = .java g₀ :: r := hr
  rw [State.setTop_of_frames _ hr'] at a1
  rw [hr, List.tail_cons, State.pushFrame, ck_frames, State.setTop_of_frames _ hr, ck_frames]
  exact a1

def cLawLed (l : Launch) (g : Gx) (av : List Value) (ws : va_W) (P : va_W → Prop) : Prop := ∀ sz : Nat, vx_Met l yL_led (Cond.codeWith yL_led cL_led 4 (some .int) [(0, 9, 12, 13)] :: wsE) (rm4 7 104 1 6) (va_Pc av (kPreX g ws sz)) (va_Qi (fun (_ : Int32) (w : va_W) => P w) (kPost g (va_A ws sz)) (va_A ws sz)) (vx_X (fun _ : Unit => False) (fun _ _ _ => True) (va_A ws sz)) 1 6 (va_A ws sz)

theorem dL_led_0 : decode cL_led 0 = .ok (.aload_n 2, 1) := by decide +kernel
theorem dL_led_1 : decode cL_led 1 = .ok (.iconst 0, 1) := by decide +kernel
theorem dL_led_2 : decode cL_led 2 = .ok (.aload_n 0, 1) := by decide +kernel
theorem dL_led_3 : decode cL_led 3 = .ok (.iload_n 1, 1) := by decide +kernel
theorem dL_led_4 : decode cL_led 4 = .ok (.invokevirtual 7, 3) := by decide +kernel
theorem dL_led_7 : decode cL_led 7 = .ok (.i2l, 1) := by decide +kernel
theorem dL_led_8 : decode cL_led 8 = .ok (.lastore, 1) := by decide +kernel
theorem dL_led_9 : decode cL_led 9 = .ok (.goto 6, 3) := by decide +kernel
theorem dL_led_12 : decode cL_led 12 = .ok (.astore_n 3, 1) := by decide +kernel
theorem dL_led_13 : decode cL_led 13 = .ok (.iconst 1, 1) := by decide +kernel
theorem dL_led_14 : decode cL_led 14 = .ok (.ireturn, 1) := by decide +kernel
theorem dL_led_15 : decode cL_led 15 = .ok (.iconst 0, 1) := by decide +kernel
theorem dL_led_16 : decode cL_led 16 = .ok (.ireturn, 1) := by decide +kernel
theorem gLed : GoodIn wsE (wsV RL 7 RX10 yX10_led (Cond.code yX10_led cX10_led 4 (some .int) :: wsE)) := by
  intro w hw
  have up : ∀ w, w ∈ wsL_law0 → w ∈ wsE := fun w h => List.mem_append_left _ h
  rcases List.mem_append.mp hw with q | q
  · simp only [List.mem_cons, List.not_mem_nil, or_false] at q
    rcases q with rfl | rfl | rfl | rfl
    · exact gE _ (up _ mw1552)
    · exact gE _ (up _ mw1553)
    · exact gE _ (up _ mw1554)
    · exact gE _ (up _ mw2)
  · rcases List.mem_cons.mp q with rfl | q
    · exact gE _ (up _ mw1555)
    · exact gE w q
set_option maxHeartbeats 4000000 in
set_option maxRecDepth 100000 in
theorem c_Lled (l : Launch) (hlt : l.stackTraces = false) (g : Gx) (lo : Nat) (fo : Nat → Int64) (h0 : Nat) (p0 : Int32) (v0h0 : Value) (v1h0 : Value) (nw : Nat) (v3h0 : Value) (v4h0 : Value) (v5h0 : Value) (v6h0 : Value) (v7h0 : Value) (v8h0 : Value) (tr : Int32) (v0nw : Value) (v1nw : Value) (zw : Nat) (v3nw : Value) (zmd : Int32) (ztr : Int32) (zwc : Nat) (zwn : Int32) (zwf : Nat → Int32) : cLawLed l g [.ref h0, .int p0, .ref lo] [(cO10_vvrvvvvvvi h0 v0h0 v1h0 nw v3h0 v4h0 v5h0 v6h0 v7h0 v8h0 tr), (cO7_vvrvii nw v0nw v1nw zw v3nw zmd ztr), (cO8_iiri zw 6 3 zwc zwn), (cAI g zwc 18 zwf), (cAJ g lo 1 fo)] (fun w => ∃ fo2, w = [(cO10_vvrvvvvvvi h0 v0h0 v1h0 nw v3h0 v4h0 v5h0 v6h0 v7h0 v8h0 tr), (cO7_vvrvii nw v0nw v1nw zw v3nw zmd ztr), (cO8_iiri zw 6 3 zwc zwn), (cAI g zwc 18 zwf), (cAJ g lo 1 fo2)]) := by
  intro sz
  refine vx_ofWH (cc := cL_led) (maxL := 4) (ret := some .int) (hh := [(0, 9, 12, 13)]) (by decide) rfl ?_
  intro p e s m args below meth c s₁ B hml hv
  obtain ⟨rfl, ⟨hsz, hP, hK, hD0, hSt⟩, hZ⟩ := hv
  subst hsz
  have hts := atoms_spec (ws := Cond.codeWith yL_led cL_led 4 (some .int) [(0, 9, 12, 13)] :: wsE) B.pre
  have htsE : ∀ w ∈ wsE, w.before [Value.ref h0, .int p0, .ref lo].toArray s = true := fun w h => hts w (List.mem_cons_of_mem _ h)
  have htab : c.exceptionTable.toList = [⟨0, 9, 12, 13⟩] := vx_table (x := yL_led) B (hts _ List.mem_cons_self)
  have hr : meth.sig.returnType = some .int := B.returns
  rw [lg_entry_eq]
  have X : Cx p s m meth c [Value.ref h0, .int p0, .ref lo].toArray cL_led 4 RL (va_A [(cO10_vvrvvvvvvi h0 v0h0 v1h0 nw v3h0 v4h0 v5h0 v6h0 v7h0 v8h0 tr), (cO7_vvrvii nw v0nw v1nw zw v3nw zmd ztr), (cO8_iiri zw 6 3 zwc zwn), (cAI g zwc 18 zwf), (cAJ g lo 1 fo)] s.heap.size) g := ⟨B.exec, B.bytes, hml, findClass_of_methodNamed B.named, fun w h => htsE w (List.mem_append_left _ h), hK, fun q h => Or.inr h, B.notSynchronized, hSt⟩
  refine (fun K : Wk p l e (rm4 7 104 1 6) s m _ below meth c _ (va_A [(cO10_vvrvvvvvvi h0 v0h0 v1h0 nw v3h0 v4h0 v5h0 v6h0 v7h0 v8h0 tr), (cO7_vvrvii nw v0nw v1nw zw v3nw zmd ztr), (cO8_iiri zw 6 3 zwc zwn), (cAI g zwc 18 zwf), (cAJ g lo 1 fo)] s.heap.size) g 4 0 0 [(cO10_vvrvvvvvvi h0 v0h0 v1h0 nw v3h0 v4h0 v5h0 v6h0 v7h0 v8h0 tr), (cO7_vvrvii nw v0nw v1nw zw v3nw zmd ztr), (cO8_iiri zw 6 3 zwc zwn), (cAI g zwc 18 zwf), (cAJ g lo 1 fo)] (lv_args 0 [.ref h0, .int p0, .ref lo]) 0 [] => K _ _ _ hP hD0.self va_S.rf (lv_entry [.ref h0, .int p0, .ref lo] (n := 4) (Nat.le_of_ble_eq_true rfl))) ?_
  generalize va_A [(cO10_vvrvvvvvvi h0 v0h0 v1h0 nw v3h0 v4h0 v5h0 v6h0 v7h0 v8h0 tr), (cO7_vvrvii nw v0nw v1nw zw v3nw zmd ztr), (cO8_iiri zw 6 3 zwc zwn), (cAI g zwc 18 zwf), (cAJ g lo 1 fo)] s.heap.size = A at *
  refine k_lveq [(0, .ref h0), (1, .int p0), (2, .ref lo)] rfl ?_
  refine k_aload_n X dL_led_0 2 rfl ?_
  refine k_iconst (v := 0) X dL_led_1 (by decide) ?_
  refine k_aload_n X dL_led_2 0 rfl ?_
  refine k_iload_n X dL_led_3 1 rfl ?_
  intro H locs ls hP hD hS hl
  have hPc := hP.sub (ws' := [(cO10_vvrvvvvvvi h0 v0h0 v1h0 nw v3h0 v4h0 v5h0 v6h0 v7h0 v8h0 tr), (cO7_vvrvii nw v0nw v1nw zw v3nw zmd ztr), (cO8_iiri zw 6 3 zwc zwn), (cAI g zwc 18 zwf)]) [0, 1, 2, 3] rfl
  have hDc := hD.sub (ws' := [(cO10_vvrvvvvvvi h0 v0h0 v1h0 nw v3h0 v4h0 v5h0 v6h0 v7h0 v8h0 tr), (cO7_vvrvii nw v0nw v1nw zw v3nw zmd ztr), (cO8_iiri zw 6 3 zwc zwn), (cAI g zwc 18 zwf)]) [0, 1, 2, 3] (by decide) rfl
  have hFc := va_free (wc := [(cO10_vvrvvvvvvi h0 v0h0 v1h0 nw v3h0 v4h0 v5h0 v6h0 v7h0 v8h0 tr), (cO7_vvrvii nw v0nw v1nw zw v3nw zmd ztr), (cO8_iiri zw 6 3 zwc zwn), (cAI g zwc 18 zwf)]) hD hS X.2.2.2.2.2.2.1 [0, 1, 2, 3] rfl
  refine vx_calli (vx_runV (C := RX10) (As := [.int p0]) (rest := [.int 0, .ref lo]) ⟨X.1, X.2.1, X.2.2.1, X.2.2.2.1, htsE⟩ (c_led l hlt g h0 p0 v0h0 v1h0 nw v3h0 v4h0 v5h0 v6h0 v7h0 v8h0 tr v0nw v1nw zw v3nw zmd ztr zwc zwn zwf H.size) (cwV 1 htsE gLed rfl rfl rfl (by decide +kernel) ⟨by decide, by decide⟩) ⟨kx_blind, va_recv X.2.2.2.2.2.1.1 hPc (ci := 10) (q0 := 0) rfl rfl, kx_pre X.2.2.2.2.2.1 hPc hDc X.2.2.2.2.2.2.2.2 hS hFc hZ⟩ rfl rfl hl.1 rfl (lv_room (Nat.le_of_ble_eq_true rfl)) dL_led_4 ⟨by decide, by decide⟩) hS (fun q _ h => hFc q h) hFc (fun q _ h => hFc q h) (fun E ce q9 u t H1 locs1 ht hvm hu hE hz hk1 hS1 hcell hv9 hcl => ?_) (fun r u t H1 locs1 ht hvm hu hB hz hk1 hS1 => ?_)
  · skip
    obtain ⟨hE, hB⟩ := hE
    subst hE
    subst hu
    obtain ⟨hP1, hD1⟩ := hB
    rw [ht] at hP1
    obtain ⟨hP2, hD2⟩ := va_join (wr := [(cAJ g lo 1 fo)]) (w1 := [(cO10_vvrvvvvvvi h0 v0h0 v1h0 nw v3h0 v4h0 v5h0 v6h0 v7h0 v8h0 tr), (cO7_vvrvii nw v0nw v1nw zw v3nw zmd ztr), (cO8_iiri zw 6 3 zwc zwn), (cAI g zwc 18 zwf)]) hP hD [0, 1, 2, 3] [4] rfl rfl (by decide) (by decide) hk1 hFc hP1 hD1
    refine ck_catch (own := RL) (name := nseN) X.2.2.2.1 ⟨0, 9, 12, 13⟩ htab (by decide) (by decide) (X.2.2.2.2.1 _ mw1551) (va_Nw.use rfl X.2.2.2.2.2.1.2.2.2.2) hcell hv9 hcl ?_
    refine (fun K : Wk p l e (rm4 7 104 1 6) s m _ below meth c _ A g 4 1 6 [(cAJ g lo 1 fo), (cO10_vvrvvvvvvi h0 v0h0 v1h0 nw v3h0 v4h0 v5h0 v6h0 v7h0 v8h0 tr), (cO7_vvrvii nw v0nw v1nw zw v3nw zmd ztr), (cO8_iiri zw 6 3 zwc zwn), (cAI g zwc 18 zwf)] [(0, .ref h0), (1, .int p0), (2, .ref lo)] 12 [.ref q9] => K H1 locs1 ls hP2 hD2 hS1 hl) ?_
    refine k_astore_n [(3, .ref q9), (0, .ref h0), (1, .int p0), (2, .ref lo)] X dL_led_12 (by decide) rfl ?_
    refine k_iconst (v := 1) X dL_led_13 (by decide) ?_
    intro H locs ls hP hD hS hl
    refine vx_ret ?_
    exact k_iret X hr dL_led_14 (by decide) (by decide) [1, 2, 3, 4, 0] (by decide) rfl rfl ⟨fo, rfl⟩ H locs ls hP hD hS hl
  · skip
    subst hu
    obtain ⟨hP1, hD1⟩ := hB
    rw [ht] at hP1
    obtain ⟨hP2, hD2⟩ := va_join (wr := [(cAJ g lo 1 fo)]) (w1 := [(cO10_vvrvvvvvvi h0 v0h0 v1h0 nw v3h0 v4h0 v5h0 v6h0 v7h0 v8h0 tr), (cO7_vvrvii nw v0nw v1nw zw v3nw zmd ztr), (cO8_iiri zw 6 3 zwc zwn), (cAI g zwc 18 zwf)]) hP hD [0, 1, 2, 3] [4] rfl rfl (by decide) (by decide) hk1 hFc hP1 hD1
    refine (fun K : Wk p l e (rm4 7 104 1 6) s m _ below meth c _ A g 4 1 6 [(cAJ g lo 1 fo), (cO10_vvrvvvvvvi h0 v0h0 v1h0 nw v3h0 v4h0 v5h0 v6h0 v7h0 v8h0 tr), (cO7_vvrvii nw v0nw v1nw zw v3nw zmd ztr), (cO8_iiri zw 6 3 zwc zwn), (cAI g zwc 18 zwf)] [(0, .ref h0), (1, .int p0), (2, .ref lo)] 7 [.int r, .int 0, .ref lo] => K H1 locs1 ls hP2 hD2 hS1 hl) ?_
    refine k_i2l X dL_led_7 ?_
    refine k_nmL (fun y_1 ey_1 => ?_)
    refine k_last [(cAJ g lo 1 (vp_updL fo (0 : Int32).toNatClampNeg y_1)), (cO10_vvrvvvvvvi h0 v0h0 v1h0 nw v3h0 v4h0 v5h0 v6h0 v7h0 v8h0 tr), (cO7_vvrvii nw v0nw v1nw zw v3nw zmd ztr), (cO8_iiri zw 6 3 zwc zwn), (cAI g zwc 18 zwf)] X dL_led_8 0 rfl (by unfold vp_in; decide) rfl ?_
    refine (fun hg : ∀ fl_2 : Nat → Int64, Wk p l e _ s m _ below meth c _ A g _ _ _ [(cAJ g lo 1 fl_2), (cO10_vvrvvvvvvi h0 v0h0 v1h0 nw v3h0 v4h0 v5h0 v6h0 v7h0 v8h0 tr), (cO7_vvrvii nw v0nw v1nw zw v3nw zmd ztr), (cO8_iiri zw 6 3 zwc zwn), (cAI g zwc 18 zwf)] _ _ _ => hg _) (fun fl_2 => ?_)
    refine k_goto 15 X dL_led_9 (by decide) ?_
    refine k_iconst (v := 0) X dL_led_15 (by decide) ?_
    intro H locs ls hP hD hS hl
    refine vx_ret ?_
    exact k_iret X hr dL_led_16 (by decide) (by decide) [1, 2, 3, 4, 0] (by decide) rfl rfl ⟨fl_2, rfl⟩ H locs ls hP hD hS hl

theorem gLawLed : GoodIn wsE (va_wsS RL 238 yL_led (Cond.codeWith yL_led cL_led 4 (some .int) [(0, 9, 12, 13)] :: wsE)) := by
  intro w hw
  have up : ∀ w, w ∈ wsL_law0 → w ∈ wsE := fun w h => List.mem_append_left _ h
  rcases List.mem_append.mp hw with q | q
  · simp only [List.mem_cons, List.not_mem_nil, or_false] at q
    rcases q with rfl | rfl | rfl
    · exact gE _ (up _ mw1547)
    · exact gE _ (up _ mw1548)
    · exact gE _ (up _ mw1549)
  · rcases List.mem_cons.mp q with rfl | q
    · exact gE _ (up _ mw1550)
    · exact gE w q
theorem k_pop2 {p : Program} {l : Launch} {e : Env} {R : Room} {s : State} {m : MethodId} {args : Array Value} {below : List Frame} {meth : Method} {c : Code} {Q : State → Prop} {A : Nat → Prop} {g : Gx} {cc : ByteArray} {nL n1 n2 pc : Nat} {ws : va_W} {lv : List (Nat × Value)} {st : List Value} {own : String} {v : Value} (X : Cx p s m meth c args cc nL own A g) (hd : decode cc pc = .ok (.pop2, 1)) (hc : v.category = 2) (kk : Wk p l e R s m args below meth c Q A g nL n1 n2 ws lv (pc + 1) st) : Wk p l e R s m args below meth c Q A g nL n1 n2 ws lv pc (v :: st) := fun H locs ls hP hD hS hl => lv_pop2_2 X.1 X.2.1 hd hc (kk H locs ls hP hD hS hl)
theorem k_led {p : Program} {l : Launch} {e : Env} {R : Room} {s : State} {m : MethodId} {args : Array Value} {below : List Frame} {meth : Method} {c : Code} {Q : State → Prop} {A : Nat → Prop} {g : Gx} {cc : ByteArray} {nL n1 n2 pc : Nat} {ws : va_W} {lv : List (Nat × Value)} {st : List Value} {i h0 lo : Nat} {p0 : Int32} {P : va_W → Prop} (hZ : kZ A s s.heap) (htsE : ∀ w ∈ wsE, w.before args s = true) (X : Cx p s m meth c args cc nL RL A g) (wc wr : va_W) (hpm : ws.Perm (wr ++ wc)) (hM : cLawLed l g [.ref h0, .int p0, .ref lo] wc P) (hd : decode cc pc = .ok (.invokestatic i, 3)) (hG : GoodIn wsE (va_wsS RL i yL_led (Cond.codeWith yL_led cL_led 4 (some .int) [(0, 9, 12, 13)] :: wsE))) (hf : 7 + 1 ≤ R.frames) (hlo : 8 + (4 + 11) + 104 ≤ R.locals) (hst : (st.map fun v => v.category).sum ≤ 8) (h1 : n1 + 1 ≤ R.cells) (h2 : n2 + 6 ≤ R.slots)
    (kk : ∀ (r : Int32) (w : va_W), P w → Wk p l e R s m args below meth c Q A g nL (n1 + 1) (n2 + 6) (wr ++ w) lv (pc + 3) (.int r :: st)) : Wk p l e R s m args below meth c Q A g nL n1 n2 ws lv pc (.ref lo :: .int p0 :: .ref h0 :: st) := by
  refine k_perm _ hpm ?_
  intro H locs ls hP hD hS hl
  have hC2 := rg_map2 wr wc
  have hPc := hP.sub (ws' := wc) (List.range' wr.length wc.length) (fm_map hC2)
  have hDc := hD.sub (ws' := wc) (List.range' wr.length wc.length) (nd_of List.nodup_range') hC2
  have hFc := va_free (wc := wc) hD hS X.2.2.2.2.2.2.1 (List.range' wr.length wc.length) hC2
  refine vx_calli (vx_runSX (As := [.ref h0, .int p0, .ref lo]) (rest := st) (hh := [(0, 9, 12, 13)]) ⟨X.1, X.2.1, X.2.2.1, X.2.2.2.1, htsE⟩ (hM H.size) (vx_cwSW 3 htsE hG rfl rfl rfl (by decide +kernel) ⟨hf, hlo⟩) ⟨kx_blind, kx_pre X.2.2.2.2.2.1 hPc hDc X.2.2.2.2.2.2.2.2 hS hFc hZ⟩ rfl rfl hl.1 rfl (lv_room hst) hd ⟨h1, h2⟩) hS (fun q _ h => hFc q h) hFc (fun q _ h => hFc q h) (fun E ce q9 u t H1 locs1 ht hvm hu => hu.elim) (fun r w t H1 locs1 ht hvm hw hB hz1 hk1 hS1 => ?_)
  obtain ⟨hP1, hD1⟩ := hB
  rw [ht] at hP1
  obtain ⟨hP2, hD2⟩ := va_join (wr := wr) (w1 := w) hP hD (List.range' wr.length wc.length) (List.range wr.length) hC2 (rg_map wr wc) (nd_of List.nodup_range) (fun i h1 h2 => by rw [List.mem_range] at h1; rw [List.mem_range'_1] at h2; omega) hk1 hFc hP1 hD1
  exact kk r w hw H1 locs1 ls hP2 hD2 hS1 hl
theorem pm_L {xw cells pl mw ow wr wc : va_W} (hpm : xw.Perm (cells ++ pl)) (h1 : cells.Perm (wr ++ wc)) : (xw ++ (mw ++ ow)).Perm ((wr ++ (pl ++ mw)) ++ (wc ++ ow)) := by
  have h2 := pm_X (yw := mw) hpm h1
  rw [← List.append_assoc, ← List.append_assoc]
  exact h2.append_right ow
theorem pm_backL {wr pl mw wc ow : va_W} : ((wr ++ (pl ++ mw)) ++ (wc ++ ow)).Perm (((wr ++ wc) ++ pl) ++ (mw ++ ow)) := by
  rw [← List.append_assoc, ← List.append_assoc (as := (wr ++ wc) ++ pl)]
  exact List.Perm.append_right ow pm_backX

set_option maxHeartbeats 4000000 in
set_option maxRecDepth 100000 in
theorem lx_led {p : Program} {l : Launch} {e : Env} {R : Room} {s : State} {m : MethodId} {args : Array Value} {below : List Frame} {meth : Method} {c : Code} {Q : State → Prop} {A : Nat → Prop} {g : Gx} {cc : ByteArray} {nL n1 n2 pc : Nat} {lv : List (Nat × Value)} {st : List Value} {xtpd : Int32} {tpf : Nat → Int32} {yhnf : Nat → Int32} {yhtn : Int32} {yhtf : Nat → Int32} {yhjn : Int32} {yhjf : Nat → Int32} {yhmn : Int32} {yhmf : Nat → Int32} {yhbn : Int32} {yhbf : Nat → Int32} {yhsn : Int32} {yhsf : Nat → Int32} {yhcn : Int32} {yhcf : Nat → Int32} {zrn : Int32} {zmn : Int32} {zwn : Int32} {zpn : Int32} {zmd : Int32} {ztr : Int32} {zrf : Nat → Int32} {zmf : Nat → Int32} {zwf : Nat → Int32} {zpf : Nat → Int32} {kac : Int32} {knx : Int32} {kim : Int32} {cf : Nat → SC} {h0 lo : Nat} {wX wM : va_W} {fo : Nat → Int64} (a1 : Int32) (hlt : l.stackTraces = false) (hZ : kZ A s s.heap) (htsE : ∀ w ∈ wsE, w.before args s = true) (X : Cx p s m meth c args cc nL RL A g) (hx : XW g h0 xtpd tpf yhnf yhtn yhtf yhjn yhjf yhmn yhmf yhbn yhbf yhsn yhsf yhcn yhcf zrn zmn zwn zpn zmd ztr zrf zmf zwf zpf kac knx kim cf wX) (hd : decode cc pc = .ok (.invokestatic 238, 3)) (hf : 7 + 1 ≤ R.frames) (hlo : 8 + (4 + 11) + 104 ≤ R.locals) (hst : (st.map fun v => v.category).sum ≤ 8) (h1 : n1 + 1 ≤ R.cells) (h2 : n2 + 6 ≤ R.slots)
    (kont : ∀ (r : Int32) (xw2 : va_W) (fo2 : Nat → Int64), XW g h0 xtpd tpf yhnf yhtn yhtf yhjn yhjf yhmn yhmf yhbn yhbf yhsn yhsf yhcn yhcf zrn zmn zwn zpn zmd ztr zrf zmf zwf zpf kac knx kim cf xw2 → Wk p l e R s m args below meth c Q A g nL (n1 + 1) (n2 + 6) (xw2 ++ (wM ++ [(cAJ g lo 1 fo2)])) lv (pc + 3) (.int r :: st)) : Wk p l e R s m args below meth c Q A g nL n1 n2 (wX ++ (wM ++ [(cAJ g lo 1 fo)])) lv pc (.ref lo :: .int a1 :: .ref h0 :: st) := by
  obtain ⟨xN, xI0, xI1, xJ1, xG2, xI3, xF3, xI4, xF4, xI5, xF5, xK, xI10, xF10, xI11, xF11, xI12, xF12, xI13, xF13, xG13, xJ14, as, pl, h_xen, h_xsta, h_xpo, h_xtpd, h_kac, h_knx, h_kim, hms, hPL, hkaf, hkgf, hlen, hpm⟩ := hx
  refine k_led hZ htsE X _ _ (pm_L hpm (pk_pick (false :: true :: true :: true :: true :: true :: true :: true :: true :: true :: true :: true :: true :: true :: true :: true :: true :: true :: true :: true :: true :: true :: true :: true :: true :: true :: true :: true :: true :: true :: true :: true :: true :: true :: true :: true :: true :: true :: true :: true :: true :: true :: true :: true :: true :: true :: true :: true :: true :: true :: true :: true :: true :: true :: false :: true :: true :: true :: true :: false :: false :: []) [(cO10_rrrrrrrrri h0 (xN 0) (xN 1) (xN 2) (xN 3) (xN 4) (xN 5) (xN 6) (xN 7) (xN 8) (xI0 0)), ((xN 2), .inr (7, [.ref (xN 60), .ref (xN 61), .ref (xN 62), .ref (xN 63), .int zmd, .int ztr])), ((xN 62), .inr (8, [.int 6, .int 3, .ref (xN 66), .int zwn])), ((xN 66), .inl (g.2.2.1, 18, .inl zwf))] rfl (List.Perm.refl _))) (c_Lled l hlt g lo fo h0 a1 (.ref (xN 0)) (.ref (xN 1)) (xN 2) (.ref (xN 3)) (.ref (xN 4)) (.ref (xN 5)) (.ref (xN 6)) (.ref (xN 7)) (.ref (xN 8)) (xI0 0) (.ref (xN 60)) (.ref (xN 61)) (xN 62) (.ref (xN 63)) zmd ztr (xN 66) zwn zwf) hd gLawLed hf hlo hst h1 h2 ?_
  rintro r w ⟨fo2, rfl⟩
  refine k_perm _ (pm_backL (wc := [(cO10_rrrrrrrrri h0 (xN 0) (xN 1) (xN 2) (xN 3) (xN 4) (xN 5) (xN 6) (xN 7) (xN 8) (xI0 0)), ((xN 2), .inr (7, [.ref (xN 60), .ref (xN 61), .ref (xN 62), .ref (xN 63), .int zmd, .int ztr])), ((xN 62), .inr (8, [.int 6, .int 3, .ref (xN 66), .int zwn])), ((xN 66), .inl (g.2.2.1, 18, .inl zwf))]) (ow := [(cAJ g lo 1 fo2)])) ?_
  exact kont r _ fo2 ⟨xN, xI0, xI1, xJ1, xG2, xI3, xF3, xI4, xF4, xI5, xF5, xK, xI10, xF10, xI11, xF11, xI12, xF12, xI13, xF13, xG13, xJ14, as, pl, h_xen, h_xsta, h_xpo, h_xtpd, h_kac, h_knx, h_kim, hms, hPL, hkaf, hkgf, hlen, (pk_backR (false :: true :: true :: true :: true :: true :: true :: true :: true :: true :: true :: true :: true :: true :: true :: true :: true :: true :: true :: true :: true :: true :: true :: true :: true :: true :: true :: true :: true :: true :: true :: true :: true :: true :: true :: true :: true :: true :: true :: true :: true :: true :: true :: true :: true :: true :: true :: true :: true :: true :: true :: true :: true :: true :: false :: true :: true :: true :: true :: false :: false :: []) [(cO10_rrrrrrrrri h0 (xN 0) (xN 1) (xN 2) (xN 3) (xN 4) (xN 5) (xN 6) (xN 7) (xN 8) (xI0 0)), ((xN 2), .inr (7, [.ref (xN 60), .ref (xN 61), .ref (xN 62), .ref (xN 63), .int zmd, .int ztr])), ((xN 62), .inr (8, [.int 6, .int 3, .ref (xN 66), .int zwn])), ((xN 66), .inl (g.2.2.1, 18, .inl zwf))] rfl rfl (List.Perm.refl _))⟩
