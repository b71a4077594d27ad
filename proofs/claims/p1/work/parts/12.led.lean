abbrev vxW : List Cond := vx_at0 RX10 365 nseN ["java/lang/RuntimeException", "java/lang/Exception"]
abbrev vxG : List Cond := vxW.filter goodWord
def declL : List MethodName := [Bundle.init0 "java/lang/RuntimeException", Bundle.init0 "java/lang/Exception", Bundle.init0 Bundle.tN]
theorem vxW_or : ∀ w ∈ vxW, w ∈ vxG ∨ w = Cond.castable nseN nseN ∨ w ∈ declL.map Cond.declares := by decide +kernel
theorem de_tbl : ∀ q ∈ declL, Cond.declares q ∈ lw_tbl := by decide +kernel
theorem vxW_tbl : ∀ w ∈ vxW, w ∈ lw_tbl := by decide +kernel
def wsE : List Cond := wsL_law0 ++ vxG
theorem wsE_in : ∀ w ∈ wsE, w ∈ lw_tbl := fun w h => (List.mem_append.mp h).elim (fun q => wsL_in w q) (fun q => vxW_tbl w (List.mem_filter.mp q).1)
theorem gE : GoodIn wsE wsE := fun w h => ⟨h, (List.mem_append.mp h).elim (fun q => goodL w q) (fun q => good_of_word (List.mem_filter.mp q).2)⟩
def kZ (A : Nat → Prop) (U : State) (H : Heap) : Prop := vx_Zq Bundle.tN "UNASSIGNED_STACK" Bundle.steD A U H ∧ vx_Zq Bundle.tN "SUPPRESSED_SENTINEL" Bundle.listD A U H ∧ ∀ q ∈ declL, va_Nw (.declares q) U
def kPreX (g : Gx) (ws : va_W) (sz : Nat) (U : State) : Prop := kPre g ws sz U ∧ kZ (va_A ws sz) U U.heap
theorem kx_blind {av : List Value} {g : Gx} {wc : va_W} {sz : Nat} : FrameBlind (va_Pc av (kPreX g wc sz)) := fun a U gf mk q => by
  obtain ⟨q0, ⟨q1, qP, qK, qD⟩, q2, q3, q4⟩ := q
  exact ⟨q0, ⟨q1, qP, kK.calling qK, qD⟩, vx_Zq.moved (u := U) (U := U.calling gf mk a) (Vm.Alike.refl U.vm) q2, vx_Zq.moved (u := U) (U := U.calling gf mk a) (Vm.Alike.refl U.vm) q3, fun q hq => va_Nw.same (u := U) rfl rfl (q4 q hq)⟩
theorem kx_pre {wc : va_W} {H : Heap} {av : List Value} {s : State} {g : Gx} {A : Nat → Prop} (hK : kK g s) (hP : va_P g.1 vwCl wc H) (hD : va_D A wc) (hZ : kZ (va_A wc H.size) s H) : ∀ U : State, U.heap = H → s.WarmedH U.vm → va_Pc av (kPreX g wc H.size) av.toArray U :=
  fun U hU hW => ⟨rfl, ⟨by rw [hU], by rw [hU]; exact hP, kK.warm hW hK, hD.weaken (fun _ _ _ _ => trivial)⟩, by rw [hU]; exact vx_Zq.moved hW.alike hZ.1, by rw [hU]; exact vx_Zq.moved hW.alike hZ.2.1, fun q hq => va_Nw.warmD hW (hZ.2.2 q hq)⟩
theorem kZ.at {A : Nat → Prop} {s : State} {H : Heap} {locs : List Loc} (h : kZ A s s.heap) (hS : va_S A s.heap H locs) {B : Nat → Prop} (hB : ∀ q, B q → A q) : kZ B s H :=
  ⟨vx_Zq.narrow (vx_Zq.kept h.1 (fun a ha hn => hS.2.1 a ha hn)) hB, vx_Zq.narrow (vx_Zq.kept h.2.1 (fun a ha hn => hS.2.1 a ha hn)) hB, h.2.2⟩
def cLedM (l : Launch) (g : Gx) (av : List Value) (ws : va_W) : Prop := ∀ sz : Nat, vx_Met l yX10_led (Cond.code yX10_led cX10_led 4 (some .int) :: wsE) (rm4 6 81 1 6) (va_Pc av (kPreX g ws sz)) (va_Qi (fun (_ : Int32) (_ : Unit) => False) (fun _ _ => True) (va_A ws sz)) (vx_X (fun _ : Unit => True) (fun E _ _ => E = nseN) (va_A ws sz)) 1 6 (va_A ws sz)

theorem dX10_led_0 : decode cX10_led 0 = .ok (.iconst 0, 1) := by decide +kernel
theorem dX10_led_1 : decode cX10_led 1 = .ok (.istore_n 2, 1) := by decide +kernel
theorem dX10_led_2 : decode cX10_led 2 = .ok (.iconst 0, 1) := by decide +kernel
theorem dX10_led_3 : decode cX10_led 3 = .ok (.istore_n 3, 1) := by decide +kernel
theorem dX10_led_4 : decode cX10_led 4 = .ok (.iload_n 3, 1) := by decide +kernel
theorem dX10_led_5 : decode cX10_led 5 = .ok (.aload_n 0, 1) := by decide +kernel
theorem dX10_led_6 : decode cX10_led 6 = .ok (.getfield 26, 3) := by decide +kernel
theorem dX10_led_9 : decode cX10_led 9 = .ok (.getfield 144, 3) := by decide +kernel
theorem dX10_led_12 : decode cX10_led 12 = .ok (.getfield 113, 3) := by decide +kernel
theorem dX10_led_15 : decode cX10_led 15 = .ok (.if_icmp .ge 30, 3) := by decide +kernel
theorem dX10_led_45 : decode cX10_led 45 = .ok (.new 363, 3) := by decide +kernel
theorem dX10_led_48 : decode cX10_led 48 = .ok (.dup, 1) := by decide +kernel
theorem dX10_led_49 : decode cX10_led 49 = .ok (.invokespecial 365, 3) := by decide +kernel
theorem dX10_led_52 : decode cX10_led 52 = .ok (.athrow, 1) := by decide +kernel
set_option maxHeartbeats 4000000 in
set_option maxRecDepth 100000 in
theorem c_led (l : Launch) (hlt : l.stackTraces = false) (g : Gx) (h0 : Nat) (p0 : Int32) (v0h0 : Value) (v1h0 : Value) (nw : Nat) (v3h0 : Value) (v4h0 : Value) (v5h0 : Value) (v6h0 : Value) (v7h0 : Value) (v8h0 : Value) (v9h0 : Value) (v0nw : Value) (v1nw : Value) (nk : Nat) (v3nw : Value) (v4nw : Value) (v5nw : Value) (v0nk : Value) (v1nk : Value) (v2nk : Value) : cLedM l g [.ref h0, .int p0] [(h0, .inr (10, [v0h0, v1h0, .ref nw, v3h0, v4h0, v5h0, v6h0, v7h0, v8h0, v9h0])), (nw, .inr (7, [v0nw, v1nw, .ref nk, v3nw, v4nw, v5nw])), (nk, .inr (8, [v0nk, v1nk, v2nk, .int 0]))] := by
  intro sz
  refine vx_ofW (cc := cX10_led) (maxL := 4) (ret := some .int) (by decide) rfl ?_
  intro p e s m args below meth c s₁ B hml hexc hv
  obtain ⟨rfl, ⟨hsz, hP, hK, hD0⟩, hZ⟩ := hv
  subst hsz
  have hts := atoms_spec (ws := Cond.code yX10_led cX10_led 4 (some .int) :: wsE) B.pre
  rw [lg_entry_eq]
  have X : Cx p s m meth c [Value.ref h0, .int p0].toArray cX10_led 4 RX10 (va_A [(h0, .inr (10, [v0h0, v1h0, .ref nw, v3h0, v4h0, v5h0, v6h0, v7h0, v8h0, v9h0])), (nw, .inr (7, [v0nw, v1nw, .ref nk, v3nw, v4nw, v5nw])), (nk, .inr (8, [v0nk, v1nk, v2nk, .int 0]))] s.heap.size) g := ⟨B.exec, B.bytes, hml, findClass_of_methodNamed B.named, fun w h => hts w (List.mem_cons_of_mem _ (List.mem_append_left _ h)), hK, fun q h => Or.inr h, B.notSynchronized⟩
  refine (fun K : Wk p l e (rm4 6 81 1 6) s m _ below meth c _ (va_A [(h0, .inr (10, [v0h0, v1h0, .ref nw, v3h0, v4h0, v5h0, v6h0, v7h0, v8h0, v9h0])), (nw, .inr (7, [v0nw, v1nw, .ref nk, v3nw, v4nw, v5nw])), (nk, .inr (8, [v0nk, v1nk, v2nk, .int 0]))] s.heap.size) g 4 0 0 [(h0, .inr (10, [v0h0, v1h0, .ref nw, v3h0, v4h0, v5h0, v6h0, v7h0, v8h0, v9h0])), (nw, .inr (7, [v0nw, v1nw, .ref nk, v3nw, v4nw, v5nw])), (nk, .inr (8, [v0nk, v1nk, v2nk, .int 0]))] (lv_args 0 [.ref h0, .int p0]) 0 [] => K _ _ _ hP hD0.self va_S.rf (lv_entry [.ref h0, .int p0] (n := 4) (Nat.le_of_ble_eq_true rfl))) ?_
  generalize va_A [(h0, .inr (10, [v0h0, v1h0, .ref nw, v3h0, v4h0, v5h0, v6h0, v7h0, v8h0, v9h0])), (nw, .inr (7, [v0nw, v1nw, .ref nk, v3nw, v4nw, v5nw])), (nk, .inr (8, [v0nk, v1nk, v2nk, .int 0]))] s.heap.size = A at *
  refine k_lveq [(0, .ref h0), (1, .int p0)] rfl ?_
  refine k_iconst (v := 0) X dX10_led_0 (by decide) ?_
  refine k_istore_n [(2, .int 0), (0, .ref h0), (1, .int p0)] X dX10_led_1 (by decide) rfl ?_
  refine k_iconst (v := 0) X dX10_led_2 (by decide) ?_
  refine k_istore_n [(3, .int 0), (2, .int 0), (0, .ref h0), (1, .int p0)] X dX10_led_3 (by decide) rfl ?_
  refine k_iload_n X dX10_led_4 0 rfl ?_
  refine k_aload_n X dX10_led_5 2 rfl ?_
  refine k_get (ci := 10) X inlX10 rfl 2 (by decide) dX10_led_6 mw128 0 rfl rfl ?_
  refine k_get (ci := 7) X inlX7 rfl 2 (by decide) dX10_led_9 mw207 1 rfl rfl ?_
  refine k_get (ci := 8) X inlX8 rfl 3 (by decide) dX10_led_12 mw168 2 rfl rfl ?_
  refine k_ic_ge 45 X dX10_led_15 (by decide) (fun _ => ?_) (fun h_1 => absurd (by decide) h_1)
  intro H locs ls hP hD hS hl
  exact vx_throw0 (own := RX10) (cls := nseN) (names := ["java/lang/RuntimeException", "java/lang/Exception"]) (ik := 363) (ic := 365) X.1 X.2.1 hlt X.2.2.2.1 (by decide +kernel) (by decide +kernel) (X.2.2.2.2.1 _ mw829) (X.2.2.2.2.1 _ mw830) (fun w h => (vxW_or w h).elim (fun q => hts w (List.mem_cons_of_mem _ (List.mem_append_right _ q))) (fun q => q.elim (fun q => by rw [q]; exact va_Nw.use rfl X.2.2.2.2.2.1.2.2.2.2) (fun q => by obtain ⟨y, hy, rfl⟩ := List.mem_map.mp q; exact va_Nw.use rfl (hZ.2.2 y hy)))) (by decide +kernel) hZ.1 hZ.2.1 hS (by rw [X.2.2.1]; exact hl.1) dX10_led_45 dX10_led_48 dX10_led_49 dX10_led_52 (fun x hx => (hexc x hx).elim) (by decide) (by decide) (by decide) (by decide) X.2.2.2.2.2.2.2 (fun t hal hz hk => ⟨(), trivial, rfl, Nat.le_trans hS.1 hz, fun q h1 h2 => (hk q (Nat.lt_of_lt_of_le h1 hS.1)).trans (hS.2.1 q h1 h2)⟩) hS.2.2 (by decide) (by decide)

theorem ck_go {e : Env} {S : State} {f : JFrame} {a : Addr} {meth : Method} {code : Code} {x : ExceptionTableEntry} {d : ClassId} {cell : Cell} (hm : S.vm.method? f.method = some meth) (hc : meth.code = some code) (htab : code.exceptionTable.toList = [x]) (hx : covers x f.pc = true) (h0 : x.catchType ≠ 0)
    (hl : S.vm.ClassLinks e.platform f.method.cls x.catchType d) (hcell : S.heap[a]? = some cell) (hobj : ∀ k, cell.vm ≠ .statics k) (hk : ∃ k, S.vm.classes[cell.cls]? = some k) (hd : ∃ k, S.vm.classes[d]? = some k) (hfit : S.vm.assignable cell.cls d = true) (Q : Handler → Pre) (E : CtlPost) (b : Bool) (acts : List Action) :
    wp (findHandler f a) Q E e b acts S ↔ Q (.found x.handlerPc) b acts (S.setVm (S.vm.noted f.method.cls x.catchType (.cls d))) := by
  rw [Jvm.W.findHandler_eq hm hc, htab]
  simp only [covers] at hx
  obtain ⟨ha, ht⟩ := (resolveClass_links e.toSetting hl).op (op := VmOp.resolveClass f.method.cls x.catchType) rfl
  have hal : S.vm.Alike (S.vm.noted f.method.cls x.catchType (.cls d)) := (Vm.Alike.refl S.vm).noted _ _ _
  obtain ⟨k1, hk1⟩ := hk
  obtain ⟨k2, hk2⟩ := hd
  obtain ⟨k1', hk1', -⟩ := hal.2.2 _ _ hk1
  obtain ⟨k2', hk2', -⟩ := hal.2.2 _ _ hk2
  have hfit' : (S.vm.noted f.method.cls x.catchType (.cls d)).assignable cell.cls d = true := by rw [hal.assignable]; exact hfit
  simp [findHandler.go, hx, h0, ha, ht, hcell, hobj, hk1', hk2', hfit', VmOp.dirties, VmOp.acts]
theorem ck_step {e : Env} {S : State} {f : JFrame} {a : Addr} {r : List Frame} {pc : Nat} {vm' : Vm} (hfind : ∀ (Q : Handler → Pre) (E : CtlPost) (b : Bool) (acts : List Action), wp (findHandler f a) Q E e b acts S ↔ Q (.found pc) b acts (S.setVm vm')) :
    (stepThrowing e S a (.java f :: r)).Is ((S.setVm vm').setFrames (.java { f with pc := pc, stack := [.ref a] } :: r)) [] := by
  simp only [stepThrowing, searchFrame, vmDo]
  generalize hr : Sem.go _ e false [] S = res
  obtain ⟨as, rfl, ha⟩ := Sem.eq_ok_of hr (a := Handler.found pc) (s' := S.setVm vm') (acts' := []) (by simp [hfind _ _ _ _])
  exact ⟨rfl, ha⟩
theorem ck_frames (u : State) (vm' : Vm) (F G : List Frame) : ((u.setFrames F).setVm vm').setFrames G = (u.setVm vm').setFrames G := by
  have h1 : (u.setFrames F).setVm vm' = (u.setVm vm').setFrames F := rfl
  rw [h1, State.setFrames_setFrames]
theorem ck_catch {p : Program} {l : Launch} {e : Env} {R : Room} {s : State} {m : MethodId} {args : Array Value} {below : List Frame} {meth : Method} {c : Code} {H : Heap} {locs : List Loc} {cells slots : Nat} {Q : State → Prop} {pc : Nat} {ls : Array Slot} {rest : List Value} {own name E : String} {ce : Cell} {q : Addr} (hown : s.vm.findClass own = some m.cls) (x : ExceptionTableEntry) (htab : c.exceptionTable.toList = [x]) (hx : covers x pc = true) (h0 : x.catchType ≠ 0)
    (hlink : (Cond.classLink own x.catchType name).before args s = true) (hcast : (Cond.castable E name).before args s = true) (hcell : H[q]? = some ce) (hv : ce.vm = .none) (hcl : s.vm.findClass E = some ce.cls)
    (kk : W p l e R s m args below meth c H locs cells slots Q (F0 m x.handlerPc ls [.ref q])) : vx_W p l e R s m args below meth c H locs cells slots Q (F0 m pc ls rest) q := by
  intro T hT X
  have hpl : e.platform.magicAccessors = ({} : Platform).magicAccessors := by rw [X.admits.platform]
  obtain ⟨c3, c4, hc3, hc4, hasg⟩ := Cond.castable_spec hcast
  cases Option.some.inj (hc3.symm.trans hcl)
  obtain ⟨c5, hc5, hl5⟩ := Cond.classLink_spec hown hlink e.platform hpl
  cases Option.some.inj (hc4.symm.trans hc5)
  obtain ⟨dk, _, _, kt, hd, _, _, _, _, hkt, _, hopen⟩ := hl5.here
  obtain ⟨k0, hk0, -⟩ := Vm.findClass_spec hcl
  obtain ⟨k0', hk0', -⟩ := X.warmed.alike.2.2 _ _ hk0
  obtain ⟨kt', hkt', -⟩ := X.warmed.alike.2.2 _ _ hkt
  have hW' : s.WarmedH (T.vm.noted m.cls x.catchType (.cls c4)) := X.warmed.noted hd hopen (State.rightAt_cls hl5)
  obtain ⟨t, a1, b1⟩ := kk (T.setVm (T.vm.noted m.cls x.catchType (.cls c4))) hT (X.noted hW')
  refine ⟨t, ?_, b1⟩
  obtain ⟨hgo, hw⟩ := (show At T (F0 m pc ls rest).method c below from X.here).throwing q
  refine Steps.head hgo hw ?_
  rw [stepThread_throwing (frames_entered X.here.top _), (ck_step (S := (T.setTop (F0 m pc ls rest)).pushFrame (.throwing q)) (pc := x.handlerPc) (vm' := T.vm.noted m.cls x.catchType (.cls c4)) (fun Q E b acts => ck_go (S := (T.setTop (F0 m pc ls rest)).pushFrame (.throwing q)) (f := F0 m pc ls rest) (cell := ce) (d := c4) X.method' X.code htab hx h0 (X.warmed.classLinks hl5) (by show T.heap[q]? = some ce; rw [hT]; exact hcell) (fun k h => by rw [hv] at h; cases h) ⟨k0', hk0'⟩ ⟨kt', hkt'⟩ (by show T.vm.assignable _ _ = true; rw [X.warmed.alike.assignable]; exact hasg) Q E b acts)).1]
  obtain ⟨g₀, hg⟩ := Option.isSome_iff_exists.mp X.here.top
  obtain ⟨r, hr⟩ := State.topJava?_eq_some.mp hg
  have hr' : (T.setVm (T.vm.noted m.cls x.catchType (.cls c4))).frames = .java g₀ :: r := hr
  rw [State.setTop_of_frames _ hr'] at a1
  rw [hr, List.tail_cons, State.pushFrame, ck_frames, State.setTop_of_frames _ hr, ck_frames]
  exact a1

def cLawLed (l : Launch) (g : Gx) (av : List Value) (ws : va_W) : Prop := ∀ sz : Nat, vx_Met l yL_led (Cond.codeWith yL_led cL_led 4 (some .int) [(0, 9, 12, 13)] :: wsE) (rm4 7 104 1 6) (va_Pc av (kPreX g ws sz)) (va_Qi (fun (r : Int32) (w : va_W) => r = 1 ∧ w = []) (kPost g (va_A ws sz)) (va_A ws sz)) (vx_X (fun _ : Unit => False) (fun _ _ _ => True) (va_A ws sz)) 1 6 (va_A ws sz)

theorem dL_led_0 : decode cL_led 0 = .ok (.aload_n 2, 1) := by decide +kernel
theorem dL_led_1 : decode cL_led 1 = .ok (.iconst 0, 1) := by decide +kernel
theorem dL_led_2 : decode cL_led 2 = .ok (.aload_n 0, 1) := by decide +kernel
theorem dL_led_3 : decode cL_led 3 = .ok (.iload_n 1, 1) := by decide +kernel
theorem dL_led_4 : decode cL_led 4 = .ok (.invokevirtual 7, 3) := by decide +kernel
theorem dL_led_12 : decode cL_led 12 = .ok (.astore_n 3, 1) := by decide +kernel
theorem dL_led_13 : decode cL_led 13 = .ok (.iconst 1, 1) := by decide +kernel
theorem dL_led_14 : decode cL_led 14 = .ok (.ireturn, 1) := by decide +kernel
theorem gLed : GoodIn wsE (wsV RL 7 RX10 yX10_led (Cond.code yX10_led cX10_led 4 (some .int) :: wsE)) := by
  intro w hw
  have up : ∀ w, w ∈ wsL_law0 → w ∈ wsE := fun w h => List.mem_append_left _ h
  rcases List.mem_append.mp hw with q | q
  · simp only [List.mem_cons, List.not_mem_nil, or_false] at q
    rcases q with rfl | rfl | rfl | rfl
    · exact gE _ (up _ mw832)
    · exact gE _ (up _ mw833)
    · exact gE _ (up _ mw834)
    · exact gE _ (up _ mw174)
  · rcases List.mem_cons.mp q with rfl | q
    · exact gE _ (up _ mw835)
    · exact gE w q
set_option maxHeartbeats 4000000 in
set_option maxRecDepth 100000 in
theorem c_Lled (l : Launch) (hlt : l.stackTraces = false) (g : Gx) (lo : Nat) (h0 : Nat) (p0 : Int32) (v0h0 : Value) (v1h0 : Value) (nw : Nat) (v3h0 : Value) (v4h0 : Value) (v5h0 : Value) (v6h0 : Value) (v7h0 : Value) (v8h0 : Value) (v9h0 : Value) (v0nw : Value) (v1nw : Value) (nk : Nat) (v3nw : Value) (v4nw : Value) (v5nw : Value) (v0nk : Value) (v1nk : Value) (v2nk : Value) : cLawLed l g [.ref h0, .int p0, .ref lo] [(h0, .inr (10, [v0h0, v1h0, .ref nw, v3h0, v4h0, v5h0, v6h0, v7h0, v8h0, v9h0])), (nw, .inr (7, [v0nw, v1nw, .ref nk, v3nw, v4nw, v5nw])), (nk, .inr (8, [v0nk, v1nk, v2nk, .int 0]))] := by
  intro sz
  refine vx_ofWH (cc := cL_led) (maxL := 4) (ret := some .int) (hh := [(0, 9, 12, 13)]) (by decide) rfl ?_
  intro p e s m args below meth c s₁ B hml hv
  obtain ⟨rfl, ⟨hsz, hP, hK, hD0⟩, hZ⟩ := hv
  subst hsz
  have hts := atoms_spec (ws := Cond.codeWith yL_led cL_led 4 (some .int) [(0, 9, 12, 13)] :: wsE) B.pre
  have htsE : ∀ w ∈ wsE, w.before [Value.ref h0, .int p0, .ref lo].toArray s = true := fun w h => hts w (List.mem_cons_of_mem _ h)
  have htab : c.exceptionTable.toList = [⟨0, 9, 12, 13⟩] := vx_table (x := yL_led) B (hts _ List.mem_cons_self)
  have hr : meth.sig.returnType = some .int := B.returns
  rw [lg_entry_eq]
  have X : Cx p s m meth c [Value.ref h0, .int p0, .ref lo].toArray cL_led 4 RL (va_A [(h0, .inr (10, [v0h0, v1h0, .ref nw, v3h0, v4h0, v5h0, v6h0, v7h0, v8h0, v9h0])), (nw, .inr (7, [v0nw, v1nw, .ref nk, v3nw, v4nw, v5nw])), (nk, .inr (8, [v0nk, v1nk, v2nk, .int 0]))] s.heap.size) g := ⟨B.exec, B.bytes, hml, findClass_of_methodNamed B.named, fun w h => htsE w (List.mem_append_left _ h), hK, fun q h => Or.inr h, B.notSynchronized⟩
  refine (fun K : Wk p l e (rm4 7 104 1 6) s m _ below meth c _ (va_A [(h0, .inr (10, [v0h0, v1h0, .ref nw, v3h0, v4h0, v5h0, v6h0, v7h0, v8h0, v9h0])), (nw, .inr (7, [v0nw, v1nw, .ref nk, v3nw, v4nw, v5nw])), (nk, .inr (8, [v0nk, v1nk, v2nk, .int 0]))] s.heap.size) g 4 0 0 [(h0, .inr (10, [v0h0, v1h0, .ref nw, v3h0, v4h0, v5h0, v6h0, v7h0, v8h0, v9h0])), (nw, .inr (7, [v0nw, v1nw, .ref nk, v3nw, v4nw, v5nw])), (nk, .inr (8, [v0nk, v1nk, v2nk, .int 0]))] (lv_args 0 [.ref h0, .int p0, .ref lo]) 0 [] => K _ _ _ hP hD0.self va_S.rf (lv_entry [.ref h0, .int p0, .ref lo] (n := 4) (Nat.le_of_ble_eq_true rfl))) ?_
  generalize va_A [(h0, .inr (10, [v0h0, v1h0, .ref nw, v3h0, v4h0, v5h0, v6h0, v7h0, v8h0, v9h0])), (nw, .inr (7, [v0nw, v1nw, .ref nk, v3nw, v4nw, v5nw])), (nk, .inr (8, [v0nk, v1nk, v2nk, .int 0]))] s.heap.size = A at *
  refine k_lveq [(0, .ref h0), (1, .int p0), (2, .ref lo)] rfl ?_
  refine k_aload_n X dL_led_0 2 rfl ?_
  refine k_iconst (v := 0) X dL_led_1 (by decide) ?_
  refine k_aload_n X dL_led_2 0 rfl ?_
  refine k_iload_n X dL_led_3 1 rfl ?_
  intro H locs ls hP hD hS hl
  have hFc := va_free (wc := [(h0, .inr (10, [v0h0, v1h0, .ref nw, v3h0, v4h0, v5h0, v6h0, v7h0, v8h0, v9h0])), (nw, .inr (7, [v0nw, v1nw, .ref nk, v3nw, v4nw, v5nw])), (nk, .inr (8, [v0nk, v1nk, v2nk, .int 0]))]) hD hS X.2.2.2.2.2.2.1 [0, 1, 2] rfl
  refine vx_calli (vx_runV (C := RX10) (As := [.int p0]) (rest := [.int 0, .ref lo]) ⟨X.1, X.2.1, X.2.2.1, X.2.2.2.1, htsE⟩ (c_led l hlt g h0 p0 v0h0 v1h0 nw v3h0 v4h0 v5h0 v6h0 v7h0 v8h0 v9h0 v0nw v1nw nk v3nw v4nw v5nw v0nk v1nk v2nk H.size) (cwV 1 htsE gLed rfl rfl rfl (by decide +kernel) ⟨by decide, by decide⟩) ⟨kx_blind, va_recv X.2.2.2.2.2.1.1 hP (ci := 10) (q0 := 0) rfl rfl, kx_pre X.2.2.2.2.2.1 hP hD (kZ.at hZ hS hFc)⟩ rfl rfl hl.1 rfl (lv_room (Nat.le_of_ble_eq_true rfl)) dL_led_4 ⟨by decide, by decide⟩) hS (fun q _ h => hFc q h) hFc (fun q _ h => hFc q h) (fun E ce q9 u t H1 locs1 ht hvm _ hE hz hk1 hS1 hcell hv9 hcl => ?_) (fun r u t H1 locs1 ht hvm hf => hf.elim)
  have hE : E = nseN := hE
  subst hE
  refine ck_catch (own := RL) (name := nseN) X.2.2.2.1 ⟨0, 9, 12, 13⟩ htab (by decide) (by decide) (X.2.2.2.2.1 _ mw831) (va_Nw.use rfl X.2.2.2.2.2.1.2.2.2.2) hcell hv9 hcl ?_
  refine vx_ret ?_
  refine (fun K : Wk p l e (rm4 7 104 1 6) s m _ below meth c _ A g 4 1 6 [] [(0, .ref h0), (1, .int p0), (2, .ref lo)] 12 [.ref q9] => K H1 locs1 ls (fun k q h => by simp at h) ⟨fun i j p q h => by simp at h, fun k q h => by simp at h⟩ hS1 hl) ?_
  refine k_astore_n [(3, .ref q9), (0, .ref h0), (1, .int p0), (2, .ref lo)] X dL_led_12 (by decide) rfl ?_
  refine k_iconst (v := 1) X dL_led_13 (by decide) ?_
  exact k_iret X hr dL_led_14 (by decide) (by decide) [] (by decide) rfl rfl ⟨rfl, rfl⟩

theorem gLawLed : GoodIn wsE (va_wsS RL 238 yL_led (Cond.codeWith yL_led cL_led 4 (some .int) [(0, 9, 12, 13)] :: wsE)) := by
  intro w hw
  have up : ∀ w, w ∈ wsL_law0 → w ∈ wsE := fun w h => List.mem_append_left _ h
  rcases List.mem_append.mp hw with q | q
  · simp only [List.mem_cons, List.not_mem_nil, or_false] at q
    rcases q with rfl | rfl | rfl
    · exact gE _ (up _ mw844)
    · exact gE _ (up _ mw845)
    · exact gE _ (up _ mw846)
  · rcases List.mem_cons.mp q with rfl | q
    · exact gE _ (up _ mw847)
    · exact gE w q

theorem k_led {p : Program} {l : Launch} {e : Env} {R : Room} {s : State} {m : MethodId} {args : Array Value} {below : List Frame} {meth : Method} {c : Code} {Q : State → Prop} {A : Nat → Prop} {g : Gx} {cc : ByteArray} {nL n1 n2 pc i h0 lo : Nat} {p0 : Int32} {ws : va_W} {lv : List (Nat × Value)} {st : List Value} (hlt : l.stackTraces = false) (hZ : kZ A s s.heap) (htsE : ∀ w ∈ wsE, w.before args s = true) (X : Cx p s m meth c args cc nL RL A g) (wc wr : va_W) (isC isR : List Nat) (hM : cLawLed l g [.ref h0, .int p0, .ref lo] wc) (hd : decode cc pc = .ok (.invokestatic i, 3)) (hG : GoodIn wsE (va_wsS RL i yL_led (Cond.codeWith yL_led cL_led 4 (some .int) [(0, 9, 12, 13)] :: wsE))) (hf : 7 + 1 ≤ R.frames) (hlo : 8 + (4 + 11) + 104 ≤ R.locals) (hst : (st.map fun v => v.category).sum ≤ 8) (h1 : n1 + 1 ≤ R.cells) (h2 : n2 + 6 ≤ R.slots)
    (hC1 : isC.filterMap (fun i => ws[i]?) = wc) (hC2 : isC.map (fun i => ws[i]?) = wc.map some) (hC3 : va_nd isC = true) (hR2 : isR.map (fun i => ws[i]?) = wr.map some) (hR3 : va_nd isR = true) (hdis : ∀ i ∈ isR, i ∉ isC)
    (kk : Wk p l e R s m args below meth c Q A g nL (n1 + 1) (n2 + 6) (wr ++ []) lv (pc + 3) (.int 1 :: st)) : Wk p l e R s m args below meth c Q A g nL n1 n2 ws lv pc (.ref lo :: .int p0 :: .ref h0 :: st) := by
  intro H locs ls hP hD hS hl
  have hPc := hP.sub (ws' := wc) isC hC1
  have hDc := hD.sub (ws' := wc) isC hC3 hC2
  have hFc := va_free (wc := wc) hD hS X.2.2.2.2.2.2.1 isC hC2
  refine vx_calli (vx_runSX (As := [.ref h0, .int p0, .ref lo]) (rest := st) (hh := [(0, 9, 12, 13)]) ⟨X.1, X.2.1, X.2.2.1, X.2.2.2.1, htsE⟩ (hM H.size) (vx_cwSW 3 htsE hG rfl rfl rfl (by decide +kernel) ⟨hf, hlo⟩) ⟨kx_blind, kx_pre X.2.2.2.2.2.1 hPc hDc (kZ.at hZ hS hFc)⟩ rfl rfl hl.1 rfl (lv_room hst) hd ⟨h1, h2⟩) hS (fun q _ h => hFc q h) hFc (fun q _ h => hFc q h) (fun E ce q9 u t H1 locs1 ht hvm hu => hu.elim) (fun r w t H1 locs1 ht hvm hw hB hz1 hk1 hS1 => ?_)
  obtain ⟨rfl, rfl⟩ := hw
  obtain ⟨hP1, hD1⟩ := hB
  rw [ht] at hP1
  obtain ⟨hP2, hD2⟩ := va_join (wr := wr) (w1 := []) hP hD isC isR hC2 hR2 hR3 hdis hk1 hFc hP1 hD1
  exact kk H1 locs1 ls hP2 hD2 hS1 hl

theorem dL_law_2000 : decode cL_law 2000 = .ok (.aload_n 1, 1) := by decide +kernel
theorem dL_law_2001 : decode cL_law 2001 = .ok (.aload_n 0, 1) := by decide +kernel
theorem dL_law_2002 : decode cL_law 2002 = .ok (.iload 4, 2) := by decide +kernel
theorem dL_law_2004 : decode cL_law 2004 = .ok (.iconst 1, 1) := by decide +kernel
theorem dL_law_2005 : decode cL_law 2005 = .ok (.iadd, 1) := by decide +kernel
theorem dL_law_2006 : decode cL_law 2006 = .ok (.iaload, 1) := by decide +kernel
theorem dL_law_2007 : decode cL_law 2007 = .ok (.aload_n 3, 1) := by decide +kernel
theorem dL_law_2008 : decode cL_law 2008 = .ok (.invokestatic 238, 3) := by decide +kernel
theorem dL_law_2011 : decode cL_law 2011 = .ok (.istore 5, 2) := by decide +kernel
theorem dL_law_2013 : decode cL_law 2013 = .ok (.aload_n 2, 1) := by decide +kernel
theorem dL_law_2014 : decode cL_law 2014 = .ok (.aload_n 0, 1) := by decide +kernel
theorem dL_law_2015 : decode cL_law 2015 = .ok (.iload 4, 2) := by decide +kernel
theorem dL_law_2017 : decode cL_law 2017 = .ok (.iconst 1, 1) := by decide +kernel
theorem dL_law_2018 : decode cL_law 2018 = .ok (.iadd, 1) := by decide +kernel
theorem dL_law_2019 : decode cL_law 2019 = .ok (.iaload, 1) := by decide +kernel
theorem dL_law_2020 : decode cL_law 2020 = .ok (.invokevirtual 243, 3) := by decide +kernel
theorem dL_law_2023 : decode cL_law 2023 = .ok (.istore 6, 2) := by decide +kernel
theorem dL_law_2025 : decode cL_law 2025 = .ok (.aload_n 2, 1) := by decide +kernel
theorem dL_law_2026 : decode cL_law 2026 = .ok (.invokevirtual 244, 3) := by decide +kernel
theorem dL_law_2029 : decode cL_law 2029 = .ok (.iload 5, 2) := by decide +kernel
theorem dL_law_2031 : decode cL_law 2031 = .ok (.if_icmp .eq 5, 3) := by decide +kernel
theorem dL_law_2036 : decode cL_law 2036 = .ok (.iload 5, 2) := by decide +kernel
theorem dL_law_2038 : decode cL_law 2038 = .ok (.ifCond .ne 15, 3) := by decide +kernel
theorem dL_law_2053 : decode cL_law 2053 = .ok (.goto 41, 3) := by decide +kernel
set_option maxHeartbeats 4000000 in
set_option maxRecDepth 100000 in
theorem law_c52 {p : Program} {l : Launch} {e : Env} {s : State} {m : MethodId} {below : List Frame} {meth : Method} {c : Code} {A : Nat → Prop} {g : Gx} {b : Nat} {xs : Nat → Int32} (h0 tx tl nw kp ng ar ri ec fr th ta tn td tdc ys yhn yht yhj yhm yhb yhs yhc yr ym yw yp yrc ymc ywc ypc yhnc yhtc yhjc yhmc yhbc yhsc yhcc zs zhn zht zhj zhm zhb zhs zhc zr zm zw zp zrc zmc zwc zpc zhnc zhtc zhjc zhmc zhbc zhsc zhcc ur um uw up urc umc uwc upc kpa kpi mo mt r1 r2 mf r4 r5 r6 r7 r8 r9 r10 r11 r12 r13 r14 r15 r16 r17 r18 r19 r20 r21 r22 lo : Nat) (X : Cx p s m meth c #[Value.ref b] cL_law 7 RL A g) (hX : va_X b 6 xs s s.heap) (hbl : b < s.heap.size) (hbA : ¬ A b) (hlt : l.stackTraces = false) (hZ : kZ A s s.heap) (htsE : ∀ w ∈ wsE, w.before #[Value.ref b] s = true) (kk : ∀ ws : va_W, Wk p l e room_1 s m #[Value.ref b] below meth c (lw_Z below #[Value.ref b] s) A g 7 243 6352 ws [(4, .int 0), (3, .ref lo), (2, .ref mo), (1, .ref h0), (0, .ref b)] 2094 []) : Wk p l e room_1 s m #[Value.ref b] below meth c (lw_Z below #[Value.ref b] s) A g 7 242 6346 [(h0, .inr (10, [.ref tx, .ref tl, .ref nw, .ref kp, .ref ng, .ref ar, .ref ri, .ref ec, .ref fr, .int 0])), (tx, .inr (9, [.int 0, .ref th, .int 0, .int 0, .ref ta, .int 0, .ref tn, .ref td, .int 0, .int 0, .int 0, .int 0, .long 0, .int 0, .int 0])), (ta, .inl (g.2.1, 900, .inl (fun _ => 0))), (td, .inr (8, [.int 16, .int 2, .ref tdc, .int 0])), (th, .inr (3, [.ref ys, .ref yhn, .ref yht, .ref yhj, .ref yhm, .ref yhb, .ref yhs, .ref yhc])), (ys, .inr (7, [.ref yr, .ref ym, .ref yw, .ref yp, .int 0, .int 0])), (yr, .inr (8, [.int 8, .int 3, .ref yrc, .int 0])), (ym, .inr (8, [.int 12, .int 3, .ref ymc, .int 0])), (yw, .inr (8, [.int 6, .int 3, .ref ywc, .int 0])), (yp, .inr (8, [.int 8, .int 2, .ref ypc, .int 0])), (yhn, .inr (8, [.int 1, .int 6, .ref yhnc, .int 0])), (yht, .inr (8, [.int 4, .int 1, .ref yhtc, .int 0])), (yhj, .inr (8, [.int 8, .int 2, .ref yhjc, .int 0])), (yhm, .inr (8, [.int 4, .int 3, .ref yhmc, .int 0])), (yhb, .inr (8, [.int 1, .int 3, .ref yhbc, .int 0])), (yhs, .inr (8, [.int 6, .int 3, .ref yhsc, .int 0])), (yhc, .inr (8, [.int 6, .int 2, .ref yhcc, .int 0])), (tl, .inr (3, [.ref zs, .ref zhn, .ref zht, .ref zhj, .ref zhm, .ref zhb, .ref zhs, .ref zhc])), (zs, .inr (7, [.ref zr, .ref zm, .ref zw, .ref zp, .int 0, .int 0])), (zr, .inr (8, [.int 8, .int 3, .ref zrc, .int 0])), (zm, .inr (8, [.int 12, .int 3, .ref zmc, .int 0])), (zw, .inr (8, [.int 6, .int 3, .ref zwc, .int 0])), (zp, .inr (8, [.int 8, .int 2, .ref zpc, .int 0])), (zhn, .inr (8, [.int 1, .int 6, .ref zhnc, .int 0])), (zht, .inr (8, [.int 4, .int 1, .ref zhtc, .int 0])), (zhj, .inr (8, [.int 8, .int 2, .ref zhjc, .int 0])), (zhm, .inr (8, [.int 4, .int 3, .ref zhmc, .int 0])), (zhb, .inr (8, [.int 1, .int 3, .ref zhbc, .int 0])), (zhs, .inr (8, [.int 6, .int 3, .ref zhsc, .int 0])), (zhc, .inr (8, [.int 6, .int 2, .ref zhcc, .int 0])), (zhnc, .inl (g.2.2.1, 6, .inl (fun _ => 0))), (nw, .inr (7, [.ref ur, .ref um, .ref uw, .ref up, .int 0, .int 0])), (ur, .inr (8, [.int 8, .int 3, .ref urc, .int 0])), (um, .inr (8, [.int 12, .int 3, .ref umc, .int 0])), (uw, .inr (8, [.int 6, .int 3, .ref uwc, .int 0])), (up, .inr (8, [.int 8, .int 2, .ref upc, .int 0])), (kp, .inr (4, [.ref kpa, .ref kpi, .int 0, .int 0, .int 0])), (mo, .inr (11, [.int 0, .ref mt, .int 0, .int 0, .int 0, .int 0, .int 0, .int 0, .int 0, .int 0, .int (-1), .int 0, .ref r1, .int 0, .int 0, .ref r2, .ref mf, .ref r4, .ref r5, .ref r6, .int 0, .int 0, .ref r7, .ref r8, .ref r9, .ref r10, .ref r11, .ref r12, .ref r13, .ref r14, .ref r15, .ref r16, .ref r17, .ref r18, .int 0, .int 0, .int 0, .ref r19, .ref r20, .ref r21, .ref r22, .int 0, .int 0])), (mt, .inl (g.2.2.1, 900, .inl (fun _ => 0))), (mf, .inl (g.2.2.1, 311, .inl (fun _ => 0))), (lo, .inl (g.2.2.2.1, 1, .inr (.inl (fun _ => 0))))] [(4, .int 0), (3, .ref lo), (2, .ref mo), (1, .ref h0), (0, .ref b)] 2000 [] := by
  refine k_aload_n X dL_law_2000 3 rfl ?_
  refine k_aload_n X dL_law_2001 4 rfl ?_
  refine k_iload X dL_law_2002 0 rfl ?_
  refine k_iconst (v := 1) X dL_law_2004 (by decide) ?_
  refine k_iadd X dL_law_2005 ?_
  refine k_to (1) (by decide) ?_
  refine k_sld X hX hbl hbA dL_law_2006 (by unfold vp_in; decide) ?_
  refine k_nm (fun a_1 ea_1 => ?_)
  refine k_aload_n X dL_law_2007 1 rfl ?_
  refine k_led hlt hZ htsE (st := []) X [(h0, .inr (10, [.ref tx, .ref tl, .ref nw, .ref kp, .ref ng, .ref ar, .ref ri, .ref ec, .ref fr, .int 0])), (nw, .inr (7, [.ref ur, .ref um, .ref uw, .ref up, .int 0, .int 0])), (uw, .inr (8, [.int 6, .int 3, .ref uwc, .int 0]))] [(tx, .inr (9, [.int 0, .ref th, .int 0, .int 0, .ref ta, .int 0, .ref tn, .ref td, .int 0, .int 0, .int 0, .int 0, .long 0, .int 0, .int 0])), (ta, .inl (g.2.1, 900, .inl (fun _ => 0))), (td, .inr (8, [.int 16, .int 2, .ref tdc, .int 0])), (th, .inr (3, [.ref ys, .ref yhn, .ref yht, .ref yhj, .ref yhm, .ref yhb, .ref yhs, .ref yhc])), (ys, .inr (7, [.ref yr, .ref ym, .ref yw, .ref yp, .int 0, .int 0])), (yr, .inr (8, [.int 8, .int 3, .ref yrc, .int 0])), (ym, .inr (8, [.int 12, .int 3, .ref ymc, .int 0])), (yw, .inr (8, [.int 6, .int 3, .ref ywc, .int 0])), (yp, .inr (8, [.int 8, .int 2, .ref ypc, .int 0])), (yhn, .inr (8, [.int 1, .int 6, .ref yhnc, .int 0])), (yht, .inr (8, [.int 4, .int 1, .ref yhtc, .int 0])), (yhj, .inr (8, [.int 8, .int 2, .ref yhjc, .int 0])), (yhm, .inr (8, [.int 4, .int 3, .ref yhmc, .int 0])), (yhb, .inr (8, [.int 1, .int 3, .ref yhbc, .int 0])), (yhs, .inr (8, [.int 6, .int 3, .ref yhsc, .int 0])), (yhc, .inr (8, [.int 6, .int 2, .ref yhcc, .int 0])), (tl, .inr (3, [.ref zs, .ref zhn, .ref zht, .ref zhj, .ref zhm, .ref zhb, .ref zhs, .ref zhc])), (zs, .inr (7, [.ref zr, .ref zm, .ref zw, .ref zp, .int 0, .int 0])), (zr, .inr (8, [.int 8, .int 3, .ref zrc, .int 0])), (zm, .inr (8, [.int 12, .int 3, .ref zmc, .int 0])), (zw, .inr (8, [.int 6, .int 3, .ref zwc, .int 0])), (zp, .inr (8, [.int 8, .int 2, .ref zpc, .int 0])), (zhn, .inr (8, [.int 1, .int 6, .ref zhnc, .int 0])), (zht, .inr (8, [.int 4, .int 1, .ref zhtc, .int 0])), (zhj, .inr (8, [.int 8, .int 2, .ref zhjc, .int 0])), (zhm, .inr (8, [.int 4, .int 3, .ref zhmc, .int 0])), (zhb, .inr (8, [.int 1, .int 3, .ref zhbc, .int 0])), (zhs, .inr (8, [.int 6, .int 3, .ref zhsc, .int 0])), (zhc, .inr (8, [.int 6, .int 2, .ref zhcc, .int 0])), (zhnc, .inl (g.2.2.1, 6, .inl (fun _ => 0))), (ur, .inr (8, [.int 8, .int 3, .ref urc, .int 0])), (um, .inr (8, [.int 12, .int 3, .ref umc, .int 0])), (up, .inr (8, [.int 8, .int 2, .ref upc, .int 0])), (kp, .inr (4, [.ref kpa, .ref kpi, .int 0, .int 0, .int 0])), (mo, .inr (11, [.int 0, .ref mt, .int 0, .int 0, .int 0, .int 0, .int 0, .int 0, .int 0, .int 0, .int (-1), .int 0, .ref r1, .int 0, .int 0, .ref r2, .ref mf, .ref r4, .ref r5, .ref r6, .int 0, .int 0, .ref r7, .ref r8, .ref r9, .ref r10, .ref r11, .ref r12, .ref r13, .ref r14, .ref r15, .ref r16, .ref r17, .ref r18, .int 0, .int 0, .int 0, .ref r19, .ref r20, .ref r21, .ref r22, .int 0, .int 0])), (mt, .inl (g.2.2.1, 900, .inl (fun _ => 0))), (mf, .inl (g.2.2.1, 311, .inl (fun _ => 0))), (lo, .inl (g.2.2.2.1, 1, .inr (.inl (fun _ => 0))))] [0, 31, 34] [1, 2, 3, 4, 5, 6, 7, 8, 9, 10, 11, 12, 13, 14, 15, 16, 17, 18, 19, 20, 21, 22, 23, 24, 25, 26, 27, 28, 29, 30, 32, 33, 35, 36, 37, 38, 39, 40] (c_Lled l hlt g lo h0 a_1 (.ref tx) (.ref tl) nw (.ref kp) (.ref ng) (.ref ar) (.ref ri) (.ref ec) (.ref fr) (.int 0) (.ref ur) (.ref um) uw (.ref up) (.int 0) (.int 0) (.int 6) (.int 3) (.ref uwc)) dL_law_2008 gLawLed (by decide) (by decide) (Nat.le_of_ble_eq_true rfl) (by decide) (by decide) rfl rfl (by decide) rfl (by decide) (by decide) ?_
  refine k_ws [(tx, .inr (9, [.int 0, .ref th, .int 0, .int 0, .ref ta, .int 0, .ref tn, .ref td, .int 0, .int 0, .int 0, .int 0, .long 0, .int 0, .int 0])), (ta, .inl (g.2.1, 900, .inl (fun _ => 0))), (td, .inr (8, [.int 16, .int 2, .ref tdc, .int 0])), (th, .inr (3, [.ref ys, .ref yhn, .ref yht, .ref yhj, .ref yhm, .ref yhb, .ref yhs, .ref yhc])), (ys, .inr (7, [.ref yr, .ref ym, .ref yw, .ref yp, .int 0, .int 0])), (yr, .inr (8, [.int 8, .int 3, .ref yrc, .int 0])), (ym, .inr (8, [.int 12, .int 3, .ref ymc, .int 0])), (yw, .inr (8, [.int 6, .int 3, .ref ywc, .int 0])), (yp, .inr (8, [.int 8, .int 2, .ref ypc, .int 0])), (yhn, .inr (8, [.int 1, .int 6, .ref yhnc, .int 0])), (yht, .inr (8, [.int 4, .int 1, .ref yhtc, .int 0])), (yhj, .inr (8, [.int 8, .int 2, .ref yhjc, .int 0])), (yhm, .inr (8, [.int 4, .int 3, .ref yhmc, .int 0])), (yhb, .inr (8, [.int 1, .int 3, .ref yhbc, .int 0])), (yhs, .inr (8, [.int 6, .int 3, .ref yhsc, .int 0])), (yhc, .inr (8, [.int 6, .int 2, .ref yhcc, .int 0])), (tl, .inr (3, [.ref zs, .ref zhn, .ref zht, .ref zhj, .ref zhm, .ref zhb, .ref zhs, .ref zhc])), (zs, .inr (7, [.ref zr, .ref zm, .ref zw, .ref zp, .int 0, .int 0])), (zr, .inr (8, [.int 8, .int 3, .ref zrc, .int 0])), (zm, .inr (8, [.int 12, .int 3, .ref zmc, .int 0])), (zw, .inr (8, [.int 6, .int 3, .ref zwc, .int 0])), (zp, .inr (8, [.int 8, .int 2, .ref zpc, .int 0])), (zhn, .inr (8, [.int 1, .int 6, .ref zhnc, .int 0])), (zht, .inr (8, [.int 4, .int 1, .ref zhtc, .int 0])), (zhj, .inr (8, [.int 8, .int 2, .ref zhjc, .int 0])), (zhm, .inr (8, [.int 4, .int 3, .ref zhmc, .int 0])), (zhb, .inr (8, [.int 1, .int 3, .ref zhbc, .int 0])), (zhs, .inr (8, [.int 6, .int 3, .ref zhsc, .int 0])), (zhc, .inr (8, [.int 6, .int 2, .ref zhcc, .int 0])), (zhnc, .inl (g.2.2.1, 6, .inl (fun _ => 0))), (ur, .inr (8, [.int 8, .int 3, .ref urc, .int 0])), (um, .inr (8, [.int 12, .int 3, .ref umc, .int 0])), (up, .inr (8, [.int 8, .int 2, .ref upc, .int 0])), (kp, .inr (4, [.ref kpa, .ref kpi, .int 0, .int 0, .int 0])), (mo, .inr (11, [.int 0, .ref mt, .int 0, .int 0, .int 0, .int 0, .int 0, .int 0, .int 0, .int 0, .int (-1), .int 0, .ref r1, .int 0, .int 0, .ref r2, .ref mf, .ref r4, .ref r5, .ref r6, .int 0, .int 0, .ref r7, .ref r8, .ref r9, .ref r10, .ref r11, .ref r12, .ref r13, .ref r14, .ref r15, .ref r16, .ref r17, .ref r18, .int 0, .int 0, .int 0, .ref r19, .ref r20, .ref r21, .ref r22, .int 0, .int 0])), (mt, .inl (g.2.2.1, 900, .inl (fun _ => 0))), (mf, .inl (g.2.2.1, 311, .inl (fun _ => 0))), (lo, .inl (g.2.2.2.1, 1, .inr (.inl (fun _ => 0))))] rfl ?_
  refine k_wide 243 6352 (by decide) (by decide) ?_
  refine k_istore [(5, .int 1), (4, .int 0), (3, .ref lo), (2, .ref mo), (1, .ref h0), (0, .ref b)] X dL_law_2011 (by decide) rfl ?_
  refine k_aload_n X dL_law_2013 3 rfl ?_
  refine k_aload_n X dL_law_2014 5 rfl ?_
  refine k_iload X dL_law_2015 1 rfl ?_
  refine k_iconst (v := 1) X dL_law_2017 (by decide) ?_
  refine k_iadd X dL_law_2018 ?_
  refine k_to (1) (by decide) ?_
  refine k_sld X hX hbl hbA dL_law_2019 (by unfold vp_in; decide) ?_
  refine k_nm (fun a_2 ea_2 => ?_)
  refine k_callVI (n := 1) (As := [.int a_2]) (st := []) X [(mo, .inr (11, [.int 0, .ref mt, .int 0, .int 0, .int 0, .int 0, .int 0, .int 0, .int 0, .int 0, .int (-1), .int 0, .ref r1, .int 0, .int 0, .ref r2, .ref mf, .ref r4, .ref r5, .ref r6, .int 0, .int 0, .ref r7, .ref r8, .ref r9, .ref r10, .ref r11, .ref r12, .ref r13, .ref r14, .ref r15, .ref r16, .ref r17, .ref r18, .int 0, .int 0, .int 0, .ref r19, .ref r20, .ref r21, .ref r22, .int 0, .int 0]))] [(tx, .inr (9, [.int 0, .ref th, .int 0, .int 0, .ref ta, .int 0, .ref tn, .ref td, .int 0, .int 0, .int 0, .int 0, .long 0, .int 0, .int 0])), (ta, .inl (g.2.1, 900, .inl (fun _ => 0))), (td, .inr (8, [.int 16, .int 2, .ref tdc, .int 0])), (th, .inr (3, [.ref ys, .ref yhn, .ref yht, .ref yhj, .ref yhm, .ref yhb, .ref yhs, .ref yhc])), (ys, .inr (7, [.ref yr, .ref ym, .ref yw, .ref yp, .int 0, .int 0])), (yr, .inr (8, [.int 8, .int 3, .ref yrc, .int 0])), (ym, .inr (8, [.int 12, .int 3, .ref ymc, .int 0])), (yw, .inr (8, [.int 6, .int 3, .ref ywc, .int 0])), (yp, .inr (8, [.int 8, .int 2, .ref ypc, .int 0])), (yhn, .inr (8, [.int 1, .int 6, .ref yhnc, .int 0])), (yht, .inr (8, [.int 4, .int 1, .ref yhtc, .int 0])), (yhj, .inr (8, [.int 8, .int 2, .ref yhjc, .int 0])), (yhm, .inr (8, [.int 4, .int 3, .ref yhmc, .int 0])), (yhb, .inr (8, [.int 1, .int 3, .ref yhbc, .int 0])), (yhs, .inr (8, [.int 6, .int 3, .ref yhsc, .int 0])), (yhc, .inr (8, [.int 6, .int 2, .ref yhcc, .int 0])), (tl, .inr (3, [.ref zs, .ref zhn, .ref zht, .ref zhj, .ref zhm, .ref zhb, .ref zhs, .ref zhc])), (zs, .inr (7, [.ref zr, .ref zm, .ref zw, .ref zp, .int 0, .int 0])), (zr, .inr (8, [.int 8, .int 3, .ref zrc, .int 0])), (zm, .inr (8, [.int 12, .int 3, .ref zmc, .int 0])), (zw, .inr (8, [.int 6, .int 3, .ref zwc, .int 0])), (zp, .inr (8, [.int 8, .int 2, .ref zpc, .int 0])), (zhn, .inr (8, [.int 1, .int 6, .ref zhnc, .int 0])), (zht, .inr (8, [.int 4, .int 1, .ref zhtc, .int 0])), (zhj, .inr (8, [.int 8, .int 2, .ref zhjc, .int 0])), (zhm, .inr (8, [.int 4, .int 3, .ref zhmc, .int 0])), (zhb, .inr (8, [.int 1, .int 3, .ref zhbc, .int 0])), (zhs, .inr (8, [.int 6, .int 3, .ref zhsc, .int 0])), (zhc, .inr (8, [.int 6, .int 2, .ref zhcc, .int 0])), (zhnc, .inl (g.2.2.1, 6, .inl (fun _ => 0))), (ur, .inr (8, [.int 8, .int 3, .ref urc, .int 0])), (um, .inr (8, [.int 12, .int 3, .ref umc, .int 0])), (up, .inr (8, [.int 8, .int 2, .ref upc, .int 0])), (kp, .inr (4, [.ref kpa, .ref kpi, .int 0, .int 0, .int 0])), (mt, .inl (g.2.2.1, 900, .inl (fun _ => 0))), (mf, .inl (g.2.2.1, 311, .inl (fun _ => 0))), (lo, .inl (g.2.2.2.1, 1, .inr (.inl (fun _ => 0))))] [34] [0, 1, 2, 3, 4, 5, 6, 7, 8, 9, 10, 11, 12, 13, 14, 15, 16, 17, 18, 19, 20, 21, 22, 23, 24, 25, 26, 27, 28, 29, 30, 31, 32, 33, 35, 36, 37] (r_led l g mo a_2 (.int 0) (.ref mt) (.int 0) (.int 0) (.int 0) (.int 0) (.int 0) (.int 0) (.int 0) (.int 0) (.int (-1)) (.int 0) (.ref r1) (.int 0) (.ref r2) (.ref mf) (.ref r4) (.ref r5) (.ref r6) (.int 0) (.int 0) (.ref r7) (.ref r8) (.ref r9) (.ref r10) (.ref r11) (.ref r12) (.ref r13) (.ref r14) (.ref r15) (.ref r16) (.ref r17) (.ref r18) (.int 0) (.int 0) (.int 0) (.ref r19) (.ref r20) (.ref r21) (.ref r22) (.int 0) (.int 0)) dL_law_2020 mw836 mw837 mw838 mw285 mw839 rfl 11 rfl rfl 0 _ rfl (by unfold yOk; decide) rfl (Nat.le_of_ble_eq_true rfl) (Nat.le_of_ble_eq_true rfl) (Nat.le_of_ble_eq_true rfl) (Nat.le_of_ble_eq_true rfl) (Nat.le_of_ble_eq_true rfl) rfl rfl (by decide) rfl (by decide) (by decide) ?_
  rintro r w ⟨rfl, rfl⟩
  refine k_ws [(tx, .inr (9, [.int 0, .ref th, .int 0, .int 0, .ref ta, .int 0, .ref tn, .ref td, .int 0, .int 0, .int 0, .int 0, .long 0, .int 0, .int 0])), (ta, .inl (g.2.1, 900, .inl (fun _ => 0))), (td, .inr (8, [.int 16, .int 2, .ref tdc, .int 0])), (th, .inr (3, [.ref ys, .ref yhn, .ref yht, .ref yhj, .ref yhm, .ref yhb, .ref yhs, .ref yhc])), (ys, .inr (7, [.ref yr, .ref ym, .ref yw, .ref yp, .int 0, .int 0])), (yr, .inr (8, [.int 8, .int 3, .ref yrc, .int 0])), (ym, .inr (8, [.int 12, .int 3, .ref ymc, .int 0])), (yw, .inr (8, [.int 6, .int 3, .ref ywc, .int 0])), (yp, .inr (8, [.int 8, .int 2, .ref ypc, .int 0])), (yhn, .inr (8, [.int 1, .int 6, .ref yhnc, .int 0])), (yht, .inr (8, [.int 4, .int 1, .ref yhtc, .int 0])), (yhj, .inr (8, [.int 8, .int 2, .ref yhjc, .int 0])), (yhm, .inr (8, [.int 4, .int 3, .ref yhmc, .int 0])), (yhb, .inr (8, [.int 1, .int 3, .ref yhbc, .int 0])), (yhs, .inr (8, [.int 6, .int 3, .ref yhsc, .int 0])), (yhc, .inr (8, [.int 6, .int 2, .ref yhcc, .int 0])), (tl, .inr (3, [.ref zs, .ref zhn, .ref zht, .ref zhj, .ref zhm, .ref zhb, .ref zhs, .ref zhc])), (zs, .inr (7, [.ref zr, .ref zm, .ref zw, .ref zp, .int 0, .int 0])), (zr, .inr (8, [.int 8, .int 3, .ref zrc, .int 0])), (zm, .inr (8, [.int 12, .int 3, .ref zmc, .int 0])), (zw, .inr (8, [.int 6, .int 3, .ref zwc, .int 0])), (zp, .inr (8, [.int 8, .int 2, .ref zpc, .int 0])), (zhn, .inr (8, [.int 1, .int 6, .ref zhnc, .int 0])), (zht, .inr (8, [.int 4, .int 1, .ref zhtc, .int 0])), (zhj, .inr (8, [.int 8, .int 2, .ref zhjc, .int 0])), (zhm, .inr (8, [.int 4, .int 3, .ref zhmc, .int 0])), (zhb, .inr (8, [.int 1, .int 3, .ref zhbc, .int 0])), (zhs, .inr (8, [.int 6, .int 3, .ref zhsc, .int 0])), (zhc, .inr (8, [.int 6, .int 2, .ref zhcc, .int 0])), (zhnc, .inl (g.2.2.1, 6, .inl (fun _ => 0))), (ur, .inr (8, [.int 8, .int 3, .ref urc, .int 0])), (um, .inr (8, [.int 12, .int 3, .ref umc, .int 0])), (up, .inr (8, [.int 8, .int 2, .ref upc, .int 0])), (kp, .inr (4, [.ref kpa, .ref kpi, .int 0, .int 0, .int 0])), (mt, .inl (g.2.2.1, 900, .inl (fun _ => 0))), (mf, .inl (g.2.2.1, 311, .inl (fun _ => 0))), (lo, .inl (g.2.2.2.1, 1, .inr (.inl (fun _ => 0)))), (mo, .inr (11, [.int 1, .ref mt, .int 0, .int 0, .int 0, .int 0, .int 0, .int 0, .int 0, .int 0, .int (-1), .int 0, .ref r1, .int 0, .int 0, .ref r2, .ref mf, .ref r4, .ref r5, .ref r6, .int 0, .int 0, .ref r7, .ref r8, .ref r9, .ref r10, .ref r11, .ref r12, .ref r13, .ref r14, .ref r15, .ref r16, .ref r17, .ref r18, .int 0, .int 0, .int 0, .ref r19, .ref r20, .ref r21, .ref r22, .int 0, .int 0]))] rfl ?_
  refine k_istore [(6, .int 0), (5, .int 1), (4, .int 0), (3, .ref lo), (2, .ref mo), (1, .ref h0), (0, .ref b)] X dL_law_2023 (by decide) rfl ?_
  refine k_aload_n X dL_law_2025 4 rfl ?_
  refine k_callVI (n := 0) (As := []) (st := []) X [(mo, .inr (11, [.int 1, .ref mt, .int 0, .int 0, .int 0, .int 0, .int 0, .int 0, .int 0, .int 0, .int (-1), .int 0, .ref r1, .int 0, .int 0, .ref r2, .ref mf, .ref r4, .ref r5, .ref r6, .int 0, .int 0, .ref r7, .ref r8, .ref r9, .ref r10, .ref r11, .ref r12, .ref r13, .ref r14, .ref r15, .ref r16, .ref r17, .ref r18, .int 0, .int 0, .int 0, .ref r19, .ref r20, .ref r21, .ref r22, .int 0, .int 0]))] [(tx, .inr (9, [.int 0, .ref th, .int 0, .int 0, .ref ta, .int 0, .ref tn, .ref td, .int 0, .int 0, .int 0, .int 0, .long 0, .int 0, .int 0])), (ta, .inl (g.2.1, 900, .inl (fun _ => 0))), (td, .inr (8, [.int 16, .int 2, .ref tdc, .int 0])), (th, .inr (3, [.ref ys, .ref yhn, .ref yht, .ref yhj, .ref yhm, .ref yhb, .ref yhs, .ref yhc])), (ys, .inr (7, [.ref yr, .ref ym, .ref yw, .ref yp, .int 0, .int 0])), (yr, .inr (8, [.int 8, .int 3, .ref yrc, .int 0])), (ym, .inr (8, [.int 12, .int 3, .ref ymc, .int 0])), (yw, .inr (8, [.int 6, .int 3, .ref ywc, .int 0])), (yp, .inr (8, [.int 8, .int 2, .ref ypc, .int 0])), (yhn, .inr (8, [.int 1, .int 6, .ref yhnc, .int 0])), (yht, .inr (8, [.int 4, .int 1, .ref yhtc, .int 0])), (yhj, .inr (8, [.int 8, .int 2, .ref yhjc, .int 0])), (yhm, .inr (8, [.int 4, .int 3, .ref yhmc, .int 0])), (yhb, .inr (8, [.int 1, .int 3, .ref yhbc, .int 0])), (yhs, .inr (8, [.int 6, .int 3, .ref yhsc, .int 0])), (yhc, .inr (8, [.int 6, .int 2, .ref yhcc, .int 0])), (tl, .inr (3, [.ref zs, .ref zhn, .ref zht, .ref zhj, .ref zhm, .ref zhb, .ref zhs, .ref zhc])), (zs, .inr (7, [.ref zr, .ref zm, .ref zw, .ref zp, .int 0, .int 0])), (zr, .inr (8, [.int 8, .int 3, .ref zrc, .int 0])), (zm, .inr (8, [.int 12, .int 3, .ref zmc, .int 0])), (zw, .inr (8, [.int 6, .int 3, .ref zwc, .int 0])), (zp, .inr (8, [.int 8, .int 2, .ref zpc, .int 0])), (zhn, .inr (8, [.int 1, .int 6, .ref zhnc, .int 0])), (zht, .inr (8, [.int 4, .int 1, .ref zhtc, .int 0])), (zhj, .inr (8, [.int 8, .int 2, .ref zhjc, .int 0])), (zhm, .inr (8, [.int 4, .int 3, .ref zhmc, .int 0])), (zhb, .inr (8, [.int 1, .int 3, .ref zhbc, .int 0])), (zhs, .inr (8, [.int 6, .int 3, .ref zhsc, .int 0])), (zhc, .inr (8, [.int 6, .int 2, .ref zhcc, .int 0])), (zhnc, .inl (g.2.2.1, 6, .inl (fun _ => 0))), (ur, .inr (8, [.int 8, .int 3, .ref urc, .int 0])), (um, .inr (8, [.int 12, .int 3, .ref umc, .int 0])), (up, .inr (8, [.int 8, .int 2, .ref upc, .int 0])), (kp, .inr (4, [.ref kpa, .ref kpi, .int 0, .int 0, .int 0])), (mt, .inl (g.2.2.1, 900, .inl (fun _ => 0))), (mf, .inl (g.2.2.1, 311, .inl (fun _ => 0))), (lo, .inl (g.2.2.2.1, 1, .inr (.inl (fun _ => 0))))] [37] [0, 1, 2, 3, 4, 5, 6, 7, 8, 9, 10, 11, 12, 13, 14, 15, 16, 17, 18, 19, 20, 21, 22, 23, 24, 25, 26, 27, 28, 29, 30, 31, 32, 33, 34, 35, 36] (r_thrown l g mo (.ref mt) (.int 0) (.int 0) (.int 0) (.int 0) (.int 0) (.int 0) (.int 0) (.int 0) (.int (-1)) (.int 0) (.ref r1) (.int 0) (.int 0) (.ref r2) (.ref mf) (.ref r4) (.ref r5) (.ref r6) (.int 0) (.int 0) (.ref r7) (.ref r8) (.ref r9) (.ref r10) (.ref r11) (.ref r12) (.ref r13) (.ref r14) (.ref r15) (.ref r16) (.ref r17) (.ref r18) (.int 0) (.int 0) (.int 0) (.ref r19) (.ref r20) (.ref r21) (.ref r22) (.int 0) (.int 0)) dL_law_2026 mw840 mw841 mw842 mw285 mw843 rfl 11 rfl rfl 0 _ rfl (by unfold yOk; decide) rfl (Nat.le_of_ble_eq_true rfl) (Nat.le_of_ble_eq_true rfl) (Nat.le_of_ble_eq_true rfl) (Nat.le_of_ble_eq_true rfl) (Nat.le_of_ble_eq_true rfl) rfl rfl (by decide) rfl (by decide) (by decide) ?_
  rintro r w ⟨rfl, rfl⟩
  refine k_ws [(tx, .inr (9, [.int 0, .ref th, .int 0, .int 0, .ref ta, .int 0, .ref tn, .ref td, .int 0, .int 0, .int 0, .int 0, .long 0, .int 0, .int 0])), (ta, .inl (g.2.1, 900, .inl (fun _ => 0))), (td, .inr (8, [.int 16, .int 2, .ref tdc, .int 0])), (th, .inr (3, [.ref ys, .ref yhn, .ref yht, .ref yhj, .ref yhm, .ref yhb, .ref yhs, .ref yhc])), (ys, .inr (7, [.ref yr, .ref ym, .ref yw, .ref yp, .int 0, .int 0])), (yr, .inr (8, [.int 8, .int 3, .ref yrc, .int 0])), (ym, .inr (8, [.int 12, .int 3, .ref ymc, .int 0])), (yw, .inr (8, [.int 6, .int 3, .ref ywc, .int 0])), (yp, .inr (8, [.int 8, .int 2, .ref ypc, .int 0])), (yhn, .inr (8, [.int 1, .int 6, .ref yhnc, .int 0])), (yht, .inr (8, [.int 4, .int 1, .ref yhtc, .int 0])), (yhj, .inr (8, [.int 8, .int 2, .ref yhjc, .int 0])), (yhm, .inr (8, [.int 4, .int 3, .ref yhmc, .int 0])), (yhb, .inr (8, [.int 1, .int 3, .ref yhbc, .int 0])), (yhs, .inr (8, [.int 6, .int 3, .ref yhsc, .int 0])), (yhc, .inr (8, [.int 6, .int 2, .ref yhcc, .int 0])), (tl, .inr (3, [.ref zs, .ref zhn, .ref zht, .ref zhj, .ref zhm, .ref zhb, .ref zhs, .ref zhc])), (zs, .inr (7, [.ref zr, .ref zm, .ref zw, .ref zp, .int 0, .int 0])), (zr, .inr (8, [.int 8, .int 3, .ref zrc, .int 0])), (zm, .inr (8, [.int 12, .int 3, .ref zmc, .int 0])), (zw, .inr (8, [.int 6, .int 3, .ref zwc, .int 0])), (zp, .inr (8, [.int 8, .int 2, .ref zpc, .int 0])), (zhn, .inr (8, [.int 1, .int 6, .ref zhnc, .int 0])), (zht, .inr (8, [.int 4, .int 1, .ref zhtc, .int 0])), (zhj, .inr (8, [.int 8, .int 2, .ref zhjc, .int 0])), (zhm, .inr (8, [.int 4, .int 3, .ref zhmc, .int 0])), (zhb, .inr (8, [.int 1, .int 3, .ref zhbc, .int 0])), (zhs, .inr (8, [.int 6, .int 3, .ref zhsc, .int 0])), (zhc, .inr (8, [.int 6, .int 2, .ref zhcc, .int 0])), (zhnc, .inl (g.2.2.1, 6, .inl (fun _ => 0))), (ur, .inr (8, [.int 8, .int 3, .ref urc, .int 0])), (um, .inr (8, [.int 12, .int 3, .ref umc, .int 0])), (up, .inr (8, [.int 8, .int 2, .ref upc, .int 0])), (kp, .inr (4, [.ref kpa, .ref kpi, .int 0, .int 0, .int 0])), (mt, .inl (g.2.2.1, 900, .inl (fun _ => 0))), (mf, .inl (g.2.2.1, 311, .inl (fun _ => 0))), (lo, .inl (g.2.2.2.1, 1, .inr (.inl (fun _ => 0))))] rfl ?_
  refine k_iload X dL_law_2029 1 rfl ?_
  refine k_ic_eq 2036 X dL_law_2031 (by decide) (fun _ => ?_) (fun h_3 => absurd (by decide) h_3)
  refine k_iload X dL_law_2036 1 rfl ?_
  refine k_if_ne 2053 X dL_law_2038 (by decide) (fun _ => ?_) (fun h_4 => absurd h_4 (by decide))
  refine k_goto 2094 X dL_law_2053 (by decide) ?_
  refine k_lv [(4, .int 0), (3, .ref lo), (2, .ref mo), (1, .ref h0), (0, .ref b)] [2, 3, 4, 5, 6] rfl ?_
  exact kk _
