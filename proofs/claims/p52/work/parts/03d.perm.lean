theorem P_mem {D : va_G} {cl : List vw_C} {ws : va_W} {H : Heap} : va_P D cl ws H ↔ ∀ q ∈ ws, va_at D cl q H :=
  ⟨fun h q hq => by
    obtain ⟨k, hk⟩ := List.mem_iff_getElem?.mp hq
    exact h k q hk, fun h k q hk => h q (List.mem_of_getElem? hk)⟩
theorem P_perm {D : va_G} {cl : List vw_C} {ws ws' : va_W} {H : Heap} (hp : ws.Perm ws') (h : va_P D cl ws H) : va_P D cl ws' H :=
  P_mem.mpr fun q hq => P_mem.mp h q (hp.mem_iff.mpr hq)
theorem D_nd {A : Nat → Prop} {ws : va_W} : va_D A ws ↔ (ws.map Prod.fst).Nodup ∧ ∀ q ∈ ws, A q.1 := by
  constructor
  · intro h
    refine ⟨?_, fun q hq => ?_⟩
    · rw [List.nodup_iff_pairwise_ne, List.pairwise_iff_getElem]
      intro i j hi hj hij e
      simp only [List.length_map] at hi hj
      simp only [List.getElem_map] at e
      have := h.1 i j ws[i] ws[j] (List.getElem?_eq_getElem hi) (List.getElem?_eq_getElem hj) e
      omega
    · obtain ⟨k, hk⟩ := List.mem_iff_getElem?.mp hq
      exact h.2 k q hk
  · intro h
    refine ⟨fun i j p q hi hj e => ?_, fun k q hk => h.2 q (List.mem_of_getElem? hk)⟩
    obtain ⟨li, ei⟩ := List.getElem?_eq_some_iff.mp hi
    obtain ⟨lj, ej⟩ := List.getElem?_eq_some_iff.mp hj
    have h1 := h.1
    rw [List.nodup_iff_pairwise_ne, List.pairwise_iff_getElem] at h1
    rcases Nat.lt_trichotomy i j with q1 | q1 | q1
    · have hx := h1 i j (by simpa using li) (by simpa using lj) q1
      simp only [List.getElem_map, ei, ej] at hx
      exact absurd e hx
    · exact q1
    · have hx := h1 j i (by simpa using lj) (by simpa using li) q1
      simp only [List.getElem_map, ei, ej] at hx
      exact absurd e.symm hx
theorem D_perm {A : Nat → Prop} {ws ws' : va_W} (hp : ws.Perm ws') (h : va_D A ws) : va_D A ws' := by
  rw [D_nd] at h ⊢
  exact ⟨(hp.map Prod.fst).nodup_iff.mp h.1, fun q hq => h.2 q (hp.mem_iff.mpr hq)⟩
theorem nd_of : ∀ {l : List Nat}, l.Nodup → va_nd l = true
  | [], _ => rfl
  | a :: l, h => by
    rw [List.nodup_cons] at h
    unfold va_nd
    have := nd_of h.2
    simp [this, h.1]
theorem rg_map (w1 w2 : va_W) : (List.range w1.length).map (fun i => (w1 ++ w2)[i]?) = w1.map some := by
  refine List.ext_getElem? fun i => ?_
  simp only [List.getElem?_map]
  rcases Nat.lt_or_ge i w1.length with h | h
  · rw [List.getElem?_range h, List.getElem?_eq_getElem h]
    simp [List.getElem?_append_left h, h]
  · rw [List.getElem?_eq_none (by simpa using h), List.getElem?_eq_none h]
    rfl
theorem rg_map2 (w1 w2 : va_W) : (List.range' w1.length w2.length).map (fun i => (w1 ++ w2)[i]?) = w2.map some := by
  refine List.ext_getElem? fun i => ?_
  simp only [List.getElem?_map]
  rcases Nat.lt_or_ge i w2.length with h | h
  · rw [List.getElem?_range' h, List.getElem?_eq_getElem h]
    simp [List.getElem?_append_right, h]
  · rw [List.getElem?_eq_none (by simpa using h), List.getElem?_eq_none h]
    rfl
theorem fm_map {α β : Type} {f : α → Option β} : ∀ {l : List α} {w : List β}, l.map f = w.map some → l.filterMap f = w
  | [], w, h => by
    cases w with
    | nil => rfl
    | cons a w => cases h
  | a :: l, w, h => by
    cases w with
    | nil => cases h
    | cons b w =>
      simp only [List.map_cons, List.cons.injEq] at h
      rw [List.filterMap_cons, h.1]
      show b :: _ = _
      rw [fm_map h.2]
theorem pm_ix {ws ws' : va_W} (is : List Nat) (h : is.isPerm (List.range ws.length) = true) (h2 : is.filterMap (fun i => ws[i]?) = ws') : ws.Perm ws' := by
  have h0 : (List.range ws.length).filterMap (fun i => ws[i]?) = ws := by
    have := rg_map ws []
    rw [List.append_nil] at this
    exact fm_map this
  rw [← h2]
  have h1 : is.Perm (List.range ws.length) := List.isPerm_iff.mp h
  have h3 := (h1.filterMap (fun i => ws[i]?)).symm
  rw [h0] at h3
  exact h3
theorem pm_t {ex w1 w2 : va_W} (pl : va_W) (h : ex.Perm (w1 ++ w2)) : (ex ++ pl).Perm ((w1 ++ pl) ++ w2) := by
  refine (h.append_right pl).trans ?_
  rw [List.append_assoc, List.append_assoc]
  exact List.Perm.append_left w1 List.perm_append_comm
theorem pm_u {ex w1 w2 : va_W} (pl : va_W) (h : ex.Perm (w1 ++ w2)) : (ex ++ pl).Perm (w1 ++ (w2 ++ pl)) := by
  refine (h.append_right pl).trans ?_
  rw [List.append_assoc]
theorem pm_n {w1 w2 : va_W} (pl : va_W) : ((w1 ++ pl) ++ w2).Perm ((w1 ++ w2) ++ pl) := by
  rw [List.append_assoc, List.append_assoc]
  exact List.Perm.append_left w1 List.perm_append_comm
section KP
variable {p : Program} {l : Launch} {e : Env} {R : Room} {s : State} {m : MethodId} {args : Array Value} {below : List Frame} {meth : Method} {c : Code} {Q : State → Prop} {A : Nat → Prop} {g : Gx} {cc : ByteArray} {nL n1 n2 pc : Nat} {own : String} {ws : va_W} {lv : List (Nat × Value)} {st : List Value}
theorem k_perm (ws' : va_W) (hp : ws.Perm ws') (kk : Wk p l e R s m args below meth c Q A g nL n1 n2 ws' lv pc st) : Wk p l e R s m args below meth c Q A g nL n1 n2 ws lv pc st := fun H locs ls hP hD hS hl => kk H locs ls (P_perm hp hP) (D_perm hp hD) hS hl
theorem k_steq (st' : List Value) (h : st = st') (kk : Wk p l e R s m args below meth c Q A g nL n1 n2 ws lv pc st') : Wk p l e R s m args below meth c Q A g nL n1 n2 ws lv pc st := by rw [h]; exact kk
theorem k_callVVP {y : MethodName} {b : ByteArray} {nY f lo mc ms i n : Nat} {As : List Value} {P : va_W → Prop} {C : String} {qC : vw_C} {a : Nat} (X : Cx p s m meth c args cc nL own A g) (wc wr : va_W) (hpm : ws.Perm (wr ++ wc)) (hM : cV l g y b nY f lo mc ms (.ref a :: As) wc P) (hd : decode cc pc = .ok (.invokevirtual i, 3)) (hm1 : Cond.methodLink own i y ∈ wsL_law0) (hm2 : Cond.instanceMethod y ∈ wsL_law0) (hm3 : Cond.selects C y y ∈ wsL_law0) (hm4 : Cond.initialized C ∈ wsL_law0) (hm5 : Cond.code y b nY none ∈ wsL_law0) (hC : y.cls = C) (ci : Nat) (hc : vwCl[ci]? = some qC) (hqC : qC.1 = C) (q0 : Nat) (fs : List Value) (hr0 : wc[q0]? = some (a, .inr (ci, fs))) (hy : yOk y n) (hnA : As.length = n) (hf : f + 1 ≤ R.frames) (hlo : 8 + (nY + 11) + lo ≤ R.locals) (hst : (st.map fun v => v.category).sum ≤ 8) (h1 : n1 + mc ≤ R.cells) (h2 : n2 + ms ≤ R.slots)
    
    (kk : ∀ (w : va_W), P w → Wk p l e R s m args below meth c Q A g nL (n1 + mc) (n2 + ms) (wr ++ w) lv (pc + 3) st) : Wk p l e R s m args below meth c Q A g nL n1 n2 ws lv pc (As.reverse ++ .ref a :: st) :=
  k_perm _ hpm (k_callVV (As := As) (st := st) X wc wr (List.range' wr.length wc.length) (List.range wr.length) hM hd hm1 hm2 hm3 hm4 hm5 hC ci hc hqC q0 fs hr0 hy hnA hf hlo hst h1 h2 (fm_map (rg_map2 wr wc)) (rg_map2 wr wc) (nd_of List.nodup_range') (rg_map wr wc) (nd_of List.nodup_range) (fun i h1 h2 => by rw [List.mem_range] at h1; rw [List.mem_range'_1] at h2; omega) kk)
theorem k_callVIP {y : MethodName} {b : ByteArray} {nY f lo mc ms i n : Nat} {ret : Option FieldType} {As : List Value} {P : Int32 → va_W → Prop} {C : String} {qC : vw_C} {a : Nat} (X : Cx p s m meth c args cc nL own A g) (wc wr : va_W) (hpm : ws.Perm (wr ++ wc)) (hM : cI l g y b nY ret f lo mc ms (.ref a :: As) wc P) (hd : decode cc pc = .ok (.invokevirtual i, 3)) (hm1 : Cond.methodLink own i y ∈ wsL_law0) (hm2 : Cond.instanceMethod y ∈ wsL_law0) (hm3 : Cond.selects C y y ∈ wsL_law0) (hm4 : Cond.initialized C ∈ wsL_law0) (hm5 : Cond.code y b nY ret ∈ wsL_law0) (hC : y.cls = C) (ci : Nat) (hc : vwCl[ci]? = some qC) (hqC : qC.1 = C) (q0 : Nat) (fs : List Value) (hr0 : wc[q0]? = some (a, .inr (ci, fs))) (hy : yOk y n) (hnA : As.length = n) (hf : f + 1 ≤ R.frames) (hlo : 8 + (nY + 11) + lo ≤ R.locals) (hst : (st.map fun v => v.category).sum ≤ 8) (h1 : n1 + mc ≤ R.cells) (h2 : n2 + ms ≤ R.slots)
    
    (kk : ∀ (r : Int32) (w : va_W), P r w → Wk p l e R s m args below meth c Q A g nL (n1 + mc) (n2 + ms) (wr ++ w) lv (pc + 3) (.int r :: st)) : Wk p l e R s m args below meth c Q A g nL n1 n2 ws lv pc (As.reverse ++ .ref a :: st) :=
  k_perm _ hpm (k_callVI (As := As) (st := st) X wc wr (List.range' wr.length wc.length) (List.range wr.length) hM hd hm1 hm2 hm3 hm4 hm5 hC ci hc hqC q0 fs hr0 hy hnA hf hlo hst h1 h2 (fm_map (rg_map2 wr wc)) (rg_map2 wr wc) (nd_of List.nodup_range') (rg_map wr wc) (nd_of List.nodup_range) (fun i h1 h2 => by rw [List.mem_range] at h1; rw [List.mem_range'_1] at h2; omega) kk)
theorem k_callVLP {y : MethodName} {b : ByteArray} {nY f lo mc ms i n : Nat} {ret : Option FieldType} {As : List Value} {P : Int64 → va_W → Prop} {C : String} {qC : vw_C} {a : Nat} (X : Cx p s m meth c args cc nL own A g) (wc wr : va_W) (hpm : ws.Perm (wr ++ wc)) (hM : cL l g y b nY ret f lo mc ms (.ref a :: As) wc P) (hd : decode cc pc = .ok (.invokevirtual i, 3)) (hm1 : Cond.methodLink own i y ∈ wsL_law0) (hm2 : Cond.instanceMethod y ∈ wsL_law0) (hm3 : Cond.selects C y y ∈ wsL_law0) (hm4 : Cond.initialized C ∈ wsL_law0) (hm5 : Cond.code y b nY ret ∈ wsL_law0) (hC : y.cls = C) (ci : Nat) (hc : vwCl[ci]? = some qC) (hqC : qC.1 = C) (q0 : Nat) (fs : List Value) (hr0 : wc[q0]? = some (a, .inr (ci, fs))) (hy : yOk y n) (hnA : As.length = n) (hf : f + 1 ≤ R.frames) (hlo : 8 + (nY + 11) + lo ≤ R.locals) (hst : (st.map fun v => v.category).sum ≤ 8) (h1 : n1 + mc ≤ R.cells) (h2 : n2 + ms ≤ R.slots)
    
    (kk : ∀ (r : Int64) (w : va_W), P r w → Wk p l e R s m args below meth c Q A g nL (n1 + mc) (n2 + ms) (wr ++ w) lv (pc + 3) (.long r :: st)) : Wk p l e R s m args below meth c Q A g nL n1 n2 ws lv pc (As.reverse ++ .ref a :: st) :=
  k_perm _ hpm (k_callVL (As := As) (st := st) X wc wr (List.range' wr.length wc.length) (List.range wr.length) hM hd hm1 hm2 hm3 hm4 hm5 hC ci hc hqC q0 fs hr0 hy hnA hf hlo hst h1 h2 (fm_map (rg_map2 wr wc)) (rg_map2 wr wc) (nd_of List.nodup_range') (rg_map wr wc) (nd_of List.nodup_range) (fun i h1 h2 => by rw [List.mem_range] at h1; rw [List.mem_range'_1] at h2; omega) kk)
theorem k_callIIP {y : MethodName} {b : ByteArray} {nY f lo mc ms i n a : Nat} {As : List Value} {P : va_W → Prop} (X : Cx p s m meth c args cc nL own A g) (wc wr : va_W) (hpm : ws.Perm (wr ++ wc)) (hM : cV l g y b nY f lo mc ms (.ref a :: As) wc P) (hd : decode cc pc = .ok (.invokespecial i, 3)) (hm1 : Cond.methodLink own i y ∈ wsL_law0) (hm2 : Cond.instanceMethod y ∈ wsL_law0) (hm4 : Cond.initialized y.cls ∈ wsL_law0) (hm5 : Cond.code y b nY none ∈ wsL_law0) (hyi : y.name = "<init>") (hy : yOk y n) (hnA : As.length = n) (hf : f + 1 ≤ R.frames) (hlo : 8 + (nY + 11) + lo ≤ R.locals) (hst : (st.map fun v => v.category).sum ≤ 8) (h1 : n1 + mc ≤ R.cells) (h2 : n2 + ms ≤ R.slots)
    
    (kk : ∀ (w : va_W), P w → Wk p l e R s m args below meth c Q A g nL (n1 + mc) (n2 + ms) (wr ++ w) lv (pc + 3) st) : Wk p l e R s m args below meth c Q A g nL n1 n2 ws lv pc (As.reverse ++ .ref a :: st) :=
  k_perm _ hpm (k_callII (As := As) (st := st) X wc wr (List.range' wr.length wc.length) (List.range wr.length) hM hd hm1 hm2 hm4 hm5 hyi hy hnA hf hlo hst h1 h2 (fm_map (rg_map2 wr wc)) (rg_map2 wr wc) (nd_of List.nodup_range') (rg_map wr wc) (nd_of List.nodup_range) (fun i h1 h2 => by rw [List.mem_range] at h1; rw [List.mem_range'_1] at h2; omega) kk)
theorem k_callINP {y : MethodName} {b : ByteArray} {nY f lo mc ms i n a : Nat} {host : String} {As : List Value} {P : va_W → Prop} (X : Cx p s m meth c args cc nL own A g) (wc wr : va_W) (hpm : ws.Perm (wr ++ wc)) (hM : cV l g y b nY f lo mc ms (.ref a :: As) wc P) (hd : decode cc pc = .ok (.invokespecial i, 3)) (hm1 : (own, i, y, host) ∈ nestL) (hm2 : Cond.instanceMethod y ∈ wsL_law0) (hm4 : Cond.initialized y.cls ∈ wsL_law0) (hm5 : Cond.code y b nY none ∈ wsL_law0) (hyi : y.name = "<init>") (hy : yOk y n) (hnA : As.length = n) (hf : f + 1 ≤ R.frames) (hlo : 8 + (nY + 11) + lo ≤ R.locals) (hst : (st.map fun v => v.category).sum ≤ 8) (h1 : n1 + mc ≤ R.cells) (h2 : n2 + ms ≤ R.slots)
    
    (kk : ∀ (w : va_W), P w → Wk p l e R s m args below meth c Q A g nL (n1 + mc) (n2 + ms) (wr ++ w) lv (pc + 3) st) : Wk p l e R s m args below meth c Q A g nL n1 n2 ws lv pc (As.reverse ++ .ref a :: st) :=
  k_perm _ hpm (k_callIN (As := As) (st := st) X wc wr (List.range' wr.length wc.length) (List.range wr.length) hM hd hm1 hm2 hm4 hm5 hyi hy hnA hf hlo hst h1 h2 (fm_map (rg_map2 wr wc)) (rg_map2 wr wc) (nd_of List.nodup_range') (rg_map wr wc) (nd_of List.nodup_range) (fun i h1 h2 => by rw [List.mem_range] at h1; rw [List.mem_range'_1] at h2; omega) kk)
theorem k_iretP {mc ms : Nat} {P : Int32 → va_W → Prop} {v : Int32} {w : va_W} (X : Cx p s m meth c args cc nL own A g) (hr : meth.sig.returnType = some .int) (hd : decode cc pc = .ok (.ireturn, 1)) (h1 : n1 ≤ mc) (h2 : n2 ≤ ms) (rest : va_W) (hpm : ws.Perm (w ++ rest)) (hp : P v w) : Wk p l e R s m args below meth c (MQ below (va_Qi P (kPost g A) A) args s mc ms A) A g nL n1 n2 ws lv pc [.int v] :=
  k_perm _ hpm (k_iret X hr hd h1 h2 (List.range w.length) (nd_of List.nodup_range) (fm_map (rg_map w rest)) (rg_map w rest) hp)
theorem k_zretP {mc ms : Nat} {P : Int32 → va_W → Prop} {v : Int32} {w : va_W} {ty : FieldType} (X : Cx p s m meth c args cc nL own A g) (hr : meth.sig.returnType = some ty) (hna : narrow ty (.int v) = .int v) (hd : decode cc pc = .ok (.ireturn, 1)) (h1 : n1 ≤ mc) (h2 : n2 ≤ ms) (rest : va_W) (hpm : ws.Perm (w ++ rest)) (hp : P v w) : Wk p l e R s m args below meth c (MQ below (va_Qi P (kPost g A) A) args s mc ms A) A g nL n1 n2 ws lv pc [.int v] :=
  k_perm _ hpm (k_zret X hr hna hd h1 h2 (List.range w.length) (nd_of List.nodup_range) (fm_map (rg_map w rest)) (rg_map w rest) hp)
theorem k_vretP {mc ms : Nat} {P : va_W → Prop} {w : va_W} (X : Cx p s m meth c args cc nL own A g) (hr : meth.sig.returnType = none) (hd : decode cc pc = .ok (.return_, 1)) (h1 : n1 ≤ mc) (h2 : n2 ≤ ms) (rest : va_W) (hpm : ws.Perm (w ++ rest)) (hp : P w) : Wk p l e R s m args below meth c (MQ below (va_Qv P (kPost g A) A) args s mc ms A) A g nL n1 n2 ws lv pc [] :=
  k_perm _ hpm (k_vret X hr hd h1 h2 (List.range w.length) (nd_of List.nodup_range) (fm_map (rg_map w rest)) (rg_map w rest) hp)
end KP
def cQ (l : Launch) (g : Gx) (y : MethodName) (c : ByteArray) (n : Nat) (ret : Option FieldType) (f lo mc ms : Nat) (av : List Value) (ws : va_W) (P : Option Nat → va_W → Prop) : Prop :=
  ∀ sz : Nat, Met l y (Cond.code y c n ret :: wsL_law0) (rm4 f lo mc ms) (va_Pc av (kPre g ws sz)) (va_Qq P (kPost g (va_A ws sz)) (va_A ws sz)) mc ms (va_A ws sz)
section KQ
variable {p : Program} {l : Launch} {e : Env} {R : Room} {s : State} {m : MethodId} {args : Array Value} {below : List Frame} {meth : Method} {c : Code} {Q : State → Prop} {A : Nat → Prop} {g : Gx} {cc : ByteArray} {nL n1 n2 pc : Nat} {own : String} {ws : va_W} {lv : List (Nat × Value)} {st : List Value}
theorem cQ.of {y : MethodName} {n f lo mc ms : Nat} {ret : Option FieldType} {av : List Value} {P : Option Nat → va_W → Prop} (hy : plainName y.cls = true) (hn : (lg_sl av).length ≤ n)
    (body : ∀ (p : Program) (e : Env) (s : State) (m : MethodId) (args : Array Value) (below : List Frame) (meth : Method) (c : Code) (A : Nat → Prop), Cx p s m meth c args cc n y.cls A g → meth.sig.returnType = ret → meth.name = y.name →
      Wk p l e (rm4 f lo mc ms) s m args below meth c (MQ below (va_Qq P (kPost g A) A) args s mc ms A) A g n 0 0 ws (lv_args 0 av) 0 []) : cQ l g y cc n ret f lo mc ms av ws P := by
  intro sz
  refine Met.ofW (cc := cc) (maxL := n) (ret := ret) hy rfl ?_
  intro p e s m args below meth c s₁ B hml hv
  obtain ⟨rfl, hsz, hP, hK, hD0, hSt⟩ := hv
  subst hsz
  have hts := atoms_spec (ws := Cond.code y cc n ret :: wsL_law0) B.pre
  rw [lg_entry_eq]
  exact body p e s m _ below meth c (va_A ws s.heap.size) ⟨B.exec, B.bytes, hml, findClass_of_methodNamed B.named, fun w h => hts w (List.mem_cons_of_mem _ h), hK, fun q h => Or.inr h, B.notSynchronized, hSt⟩ B.returns (name_of_methodNamed B.named B.method).1 _ _ _ hP hD0.self va_S.rf (lv_entry av hn)
theorem k_qret {mc ms : Nat} {P : Option Nat → va_W → Prop} {v : Option Nat} {w : va_W} {rt : FieldType} (X : Cx p s m meth c args cc nL own A g) (hr : meth.sig.returnType = some rt) (hrt : (∃ n, rt = .object n) ∨ ∃ t, rt = .array t) (hd : decode cc pc = .ok (.areturn, 1)) (h1 : n1 ≤ mc) (h2 : n2 ≤ ms) (is : List Nat) (hn : va_nd is = true) (hs1 : is.filterMap (fun i => ws[i]?) = w) (hs2 : is.map (fun i => ws[i]?) = w.map some) (hp : P v w) : Wk p l e R s m args below meth c (MQ below (va_Qq P (kPost g A) A) args s mc ms A) A g nL n1 n2 ws lv pc [va_rf v] := by
  intro H locs ls hP hD hS hl
  refine W.widen h1 h2 ?_
  exact W.aret X.1 X.2.1 hr hrt (va_rf_or v) (fun t ht hW => ⟨⟨v, w, rfl, hp, by rw [ht]; exact hP.sub is hs1, hD.sub is hn hs2⟩, hS.F ht⟩) hS.2.2 hd X.2.2.2.2.2.2.2.1
theorem k_aldq {a n : Nat} {f : Nat → Option Nat} {x : Int32} (X : Cx p s m meth c args cc nL own A g) (hd : decode cc pc = .ok (.aaload, 1)) (q : Nat) (he : ws[q]? = some (a, .inl (g.2.2.2.2.1, n, .inr (.inr (.inr (.inr f)))))) (hi : vp_in x n) (kk : Wk p l e R s m args below meth c Q A g nL n1 n2 ws lv (pc + 1) (va_rf (f x.toNatClampNeg) :: st)) : Wk p l e R s m args below meth c Q A g nL n1 n2 ws lv pc (.int x :: .ref a :: st) :=
  fun H locs ls hP hD hS hl => va_aldq (D := g.1) (cl := vwCl) X.1 X.2.1 X.2.2.2.2.2.1.1 hP q 3 he rfl hi hd (kk H locs ls hP hD hS hl)
theorem k_null (X : Cx p s m meth c args cc nL own A g) (hd : decode cc pc = .ok (.aconst_null, 1)) (kk : Wk p l e R s m args below meth c Q A g nL n1 n2 ws lv (pc + 1) (.null :: st)) : Wk p l e R s m args below meth c Q A g nL n1 n2 ws lv pc st := fun H locs ls hP hD hS hl => lv_null X.1 X.2.1 hd (kk H locs ls hP hD hS hl)
theorem k_ifnnN {off : Int} (X : Cx p s m meth c args cc nL own A g) (hd : decode cc pc = .ok (.ifnonnull off, 3)) (kk : Wk p l e R s m args below meth c Q A g nL n1 n2 ws lv (pc + 3) st) : Wk p l e R s m args below meth c Q A g nL n1 n2 ws lv pc (.null :: st) := fun H locs ls hP hD hS hl => lv_ifnonnullN X.1 X.2.1 hd (kk H locs ls hP hD hS hl)
theorem k_astN {k : Fin 4} (lv' : List (Nat × Value)) (X : Cx p s m meth c args cc nL own A g) (hd : decode cc pc = .ok (.astore_n k, 1)) (hn : (k : Nat) < nL) (hv : ((k : Nat), Value.null) :: lv.filter (fun q => !(q.1 == (k : Nat)) && !(q.1 + 1 == (k : Nat) && q.2.category == 2)) = lv') (kk : Wk p l e R s m args below meth c Q A g nL n1 n2 ws lv' (pc + 1) st) : Wk p l e R s m args below meth c Q A g nL n1 n2 ws lv pc (.null :: st) := fun H locs ls hP hD hS hl => lv_astore_nN X.1 X.2.1 hd rfl hl hn hv (fun ls hl => kk H locs ls hP hD hS hl)
theorem k_aldN {k : Fin 4} (X : Cx p s m meth c args cc nL own A g) (hd : decode cc pc = .ok (.aload_n k, 1)) (j : Nat) (hj : lv[j]? = some ((k : Nat), .null)) (kk : Wk p l e R s m args below meth c Q A g nL n1 n2 ws lv (pc + 1) (.null :: st)) : Wk p l e R s m args below meth c Q A g nL n1 n2 ws lv pc st := fun H locs ls hP hD hS hl => lv_aload_nN X.1 X.2.1 hd rfl (hl.2.2 _ (List.mem_of_getElem? hj)) (kk H locs ls hP hD hS hl)
theorem k_callSQ {y : MethodName} {b : ByteArray} {nY f lo mc ms i n : Nat} {ret : Option FieldType} {As : List Value} {P : Option Nat → va_W → Prop} (X : Cx p s m meth c args cc nL own A g) (wc wr : va_W) (isC isR : List Nat) (hM : cQ l g y b nY ret f lo mc ms As wc P) (hd : decode cc pc = .ok (.invokestatic i, 3)) (hm1 : Cond.methodLink own i y ∈ wsL_law0) (hm2 : Cond.static y ∈ wsL_law0) (hm4 : Cond.initialized y.cls ∈ wsL_law0) (hm5 : Cond.code y b nY ret ∈ wsL_law0) (hy : yOk y n) (hnA : As.length = n) (hf : f + 1 ≤ R.frames) (hlo : 8 + (nY + 11) + lo ≤ R.locals) (hst : (st.map fun v => v.category).sum ≤ 8) (h1 : n1 + mc ≤ R.cells) (h2 : n2 + ms ≤ R.slots)
    (hC1 : isC.filterMap (fun i => ws[i]?) = wc) (hC2 : isC.map (fun i => ws[i]?) = wc.map some) (hC3 : va_nd isC = true) (hR2 : isR.map (fun i => ws[i]?) = wr.map some) (hR3 : va_nd isR = true) (hdis : ∀ i ∈ isR, i ∉ isC)
    (kk : ∀ (r : Option Nat) (w : va_W), P r w → Wk p l e R s m args below meth c Q A g nL (n1 + mc) (n2 + ms) (wr ++ w) lv (pc + 3) (va_rf r :: st)) : Wk p l e R s m args below meth c Q A g nL n1 n2 ws lv pc (As.reverse ++ st) := by
  intro H locs ls hP hD hS hl
  have hPc := hP.sub (ws' := wc) isC hC1
  have hDc := hD.sub (ws' := wc) isC hC3 hC2
  have hFc := va_free (wc := wc) hD hS X.2.2.2.2.2.2.1 isC hC2
  refine va_callq (va_runS (As := As) (rest := st) ⟨X.1, X.2.1, X.2.2.1, X.2.2.2.1, X.2.2.2.2.1⟩ (hM H.size) ⟨callB_of n X.2.2.2.2.1 (gC hm5) rfl rfl rfl (X.2.2.2.2.1 _ hm4) (X.2.2.2.2.1 _ hm1) hy ⟨hf, hlo⟩, X.2.2.2.2.1 _ hm2⟩ ⟨k_blind, k_pre (ws := ws) X.2.2.2.2.2.1 hPc hDc X.2.2.2.2.2.2.2.2 hS hFc⟩ rfl hnA hl.1 rfl (lv_room hst) hd ⟨h1, h2⟩) hS (fun q _ h => hFc q h) hFc (fun r w t H1 locs1 ht hvm hw hB hz1 hk1 hS1 => ?_)
  obtain ⟨hP1, hD1⟩ := hB
  rw [ht] at hP1
  obtain ⟨hP2, hD2⟩ := va_join (wr := wr) (w1 := w) hP hD isC isR hC2 hR2 hR3 hdis hk1 hFc hP1 hD1
  exact kk r w hw H1 locs1 ls hP2 hD2 hS1 hl
end KQ
/-- the cells of one State at a -/
def SW (g : Gx) (a : Nat) (w : va_W) : Prop := ∃ (xr xm xw xp xrc xmc xwc xpc : Nat) (xmd xtr xrn xmn xwn xpn : Int32) (xrf xmf xwf xpf : Nat → Int32), w = [(a, .inr (7, [.ref xr, .ref xm, .ref xw, .ref xp, .int xmd, .int xtr])), (xr, .inr (8, [.int 8, .int 3, .ref xrc, .int xrn])), (xrc, .inl (g.2.2.1, 24, .inl xrf)), (xm, .inr (8, [.int 12, .int 3, .ref xmc, .int xmn])), (xmc, .inl (g.2.2.1, 36, .inl xmf)), (xw, .inr (8, [.int 6, .int 3, .ref xwc, .int xwn])), (xwc, .inl (g.2.2.1, 18, .inl xwf)), (xp, .inr (8, [.int 8, .int 2, .ref xpc, .int xpn])), (xpc, .inl (g.2.2.1, 16, .inl xpf))]
def PL (g : Gx) : List Nat → va_W → Prop
  | [], pl => pl = []
  | a :: as, pl => ∃ w pl', SW g a w ∧ PL g as pl' ∧ pl = w ++ pl'
theorem PL.focus {g : Gx} : ∀ {as : List Nat} {pl : va_W} {i a : Nat}, PL g as pl → as[i]? = some a → ∃ w rest, SW g a w ∧ pl.Perm (w ++ rest) ∧ ∀ w', SW g a w' → ∃ pl', PL g as pl' ∧ (w' ++ rest).Perm pl'
  | [], pl, i, a, _, h => by simp at h
  | b :: as, pl, 0, a, hP, h => by
    obtain ⟨w, pl', h1, h2, rfl⟩ := hP
    obtain rfl : b = a := by simpa using h
    exact ⟨w, pl', h1, List.Perm.refl _, fun w' hw => ⟨w' ++ pl', ⟨w', pl', hw, h2, rfl⟩, List.Perm.refl _⟩⟩
  | b :: as, pl, i + 1, a, hP, h => by
    obtain ⟨w, pl', h1, h2, rfl⟩ := hP
    obtain ⟨v, rest, g1, g2, g3⟩ := PL.focus h2 (by simpa using h)
    refine ⟨v, w ++ rest, g1, ?_, fun w' hw => ?_⟩
    · refine (List.Perm.append_left w g2).trans ?_
      rw [← List.append_assoc, ← List.append_assoc]
      exact List.Perm.append_right rest List.perm_append_comm
    · obtain ⟨pl2, k1, k2⟩ := g3 w' hw
      refine ⟨w ++ pl2, ⟨w, pl2, h1, k1, rfl⟩, ?_⟩
      refine List.Perm.trans ?_ (List.Perm.append_left w k2)
      rw [← List.append_assoc, ← List.append_assoc]
      exact List.Perm.append_right rest List.perm_append_comm
