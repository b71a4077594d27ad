/-! the layer: contracts with one list of words, walks over (cells, locals, pc, stack) -/
abbrev Gx : Type := va_G × (ClassId × ClassId × ClassId × (ClassId × ((String → Nat → Nat) × (String → Nat → Nat))))
/-- where a literal lies, and its bytes -/
abbrev sA (g : Gx) (own : String) (i : Nat) : Nat := g.2.2.2.2.2.1 own i
abbrev sV (g : Gx) (own : String) (i : Nat) : Nat := g.2.2.2.2.2.2 own i
def sBy (tx : String) : List Int32 := tx.toList.map (fun c => Int32.ofNat c.toNat)
def pcN : String := "jdk/internal/util/Preconditions"
def bfD : String := "Ljava/util/function/BiFunction;"
def strN : String := "java/lang/String"
abbrev tyL (g : Gx) : List (ClassId × FieldType) := [(g.2.1, .byte), (g.2.2.1, .int), (g.2.2.2.1, .long), (g.2.2.2.2.1, .object "ReelChange$State")]
def nseN : String := "java/util/NoSuchElementException"
/-- what isn't among the good words: the array class of State, the String constants, the constructors of nest mates -/
def kX (U : State) : Prop := va_AO "ReelChange$State" U ∧ (∀ q ∈ strL, ∃ a, vk_R q.1 q.2.1 q.2.2 a U) ∧ (∀ q ∈ nestL, va_Nw (.methodLinkNest q.1 q.2.1 q.2.2.1 q.2.2.2) U) ∧ va_Nw (.castable nseN nseN) U
def kK (g : Gx) (U : State) : Prop := va_K g.1 vwCl (tyL g) U ∧ kX U
theorem kK.warm {g : Gx} {s U : State} (hW : s.WarmedH U.vm) (h : kK g s) : kK g U :=
  ⟨va_K.moved hW.alike h.1, va_AO.moved hW.alike h.2.1, fun q hq => (h.2.2.1 q hq).imp fun _ ha => vk_R.warm hW ha, fun q hq => va_Nw.warmM hW (h.2.2.2.1 q hq), va_Nw.warmC hW h.2.2.2.2⟩
theorem kK.calling {g : Gx} {U : State} {gf : JFrame} {mk : MethodId} {a : Array Value} (h : kK g U) : kK g (U.calling gf mk a) :=
  ⟨va_K.moved (u := U) (U := U.calling gf mk a) (Vm.Alike.refl U.vm) h.1, va_AO.moved (u := U) (U := U.calling gf mk a) (Vm.Alike.refl U.vm) h.2.1, fun q hq => (h.2.2.1 q hq).imp fun _ ha => vk_R.same (u := U) rfl ha, fun q hq => va_Nw.same (u := U) rfl rfl (h.2.2.2.1 q hq), va_Nw.same (u := U) rfl rfl h.2.2.2.2⟩
def kS (g : Gx) (A : Nat → Prop) (U : State) (H : Heap) : Prop :=
  va_Z strN "COMPACT_STRINGS" "Z" (.int 1) A U H ∧ (∃ v : Value, (v = .null ∨ ∃ b : Nat, v = .ref b) ∧ va_Z pcN "SIOOBE_FORMATTER" bfD v A U H) ∧ ∀ q ∈ strL, vk_R q.1 q.2.1 q.2.2 (sA g q.1 q.2.1) U ∧ va_O strN (sA g q.1 q.2.1) A U H ∧ va_OF strN "coder" "B" (.int 0) (sA g q.1 q.2.1) A U H ∧ va_OF strN "value" "[B" (.ref (sV g q.1 q.2.1)) (sA g q.1 q.2.1) A U H ∧ va_T .byte (sV g q.1 q.2.1) (sBy q.2.2).length (fun j => .int ((sBy q.2.2).getD j 0)) A U H
theorem kS.to {g : Gx} {A B : Nat → Prop} {s U : State} {H H1 : Heap} (hW : s.WarmedH U.vm) (hq : ∀ a : Nat, a < H.size → ¬ A a → H1[a]? = H[a]?) (hAB : ∀ q, B q → A q) (h : kS g A s H) : kS g B U H1 := by
  obtain ⟨h1, ⟨v, hv, h2⟩, h3⟩ := h
  refine ⟨((h1.kept hq).narrow hAB).moved hW.alike, ⟨v, hv, ((h2.kept hq).narrow hAB).moved hW.alike⟩, fun q hq1 => ?_⟩
  obtain ⟨k0, k1, k2, k3, k4⟩ := h3 q hq1
  exact ⟨vk_R.warm hW k0, ((k1.kept hq).narrow hAB).moved hW.alike, ((k2.kept hq).narrow hAB).moved hW.alike, ((k3.kept hq).narrow hAB).moved hW.alike, ((k4.kept hq).narrow hAB).moved hW.alike⟩
theorem kS.calling {g : Gx} {A : Nat → Prop} {U : State} {H : Heap} {gf : JFrame} {mk : MethodId} {a : Array Value} (h : kS g A U H) : kS g A (U.calling gf mk a) H := by
  obtain ⟨h1, ⟨v, hv, h2⟩, h3⟩ := h
  refine ⟨va_Z.moved (u := U) (U := U.calling gf mk a) (Vm.Alike.refl U.vm) h1, ⟨v, hv, va_Z.moved (u := U) (U := U.calling gf mk a) (Vm.Alike.refl U.vm) h2⟩, fun q hq1 => ?_⟩
  obtain ⟨k0, k1, k2, k3, k4⟩ := h3 q hq1
  exact ⟨vk_R.same (u := U) rfl k0, va_O.moved (u := U) (U := U.calling gf mk a) (Vm.Alike.refl U.vm) k1, va_OF.moved (u := U) (U := U.calling gf mk a) (Vm.Alike.refl U.vm) k2, va_OF.moved (u := U) (U := U.calling gf mk a) (Vm.Alike.refl U.vm) k3, va_T.moved (u := U) (U := U.calling gf mk a) (Vm.Alike.refl U.vm) k4⟩
def kPre (g : Gx) (ws : va_W) (sz : Nat) (U : State) : Prop := U.heap.size = sz ∧ va_P g.1 vwCl ws U.heap ∧ kK g U ∧ va_D (fun _ => True) ws ∧ kS g (va_A ws sz) U U.heap
/-- a is where a literal of the text tx lies; v is where its bytes lie -/
def LtS (g : Gx) (a : Nat) (tx : String) : Prop := ∃ (own : String) (i : Nat), (own, i, tx) ∈ strL ∧ a = sA g own i
def LtV (g : Gx) (v : Nat) (tx : String) : Prop := ∃ (own : String) (i : Nat), (own, i, tx) ∈ strL ∧ v = sV g own i
def kPost (g : Gx) (A : Nat → Prop) (w : va_W) (t : State) : Prop := va_P g.1 vwCl w t.heap ∧ va_D A w
abbrev rm4 (f lo mc ms : Nat) : Room := { frames := f, cells := mc, slots := ms, locals := lo }
def cI (l : Launch) (g : Gx) (y : MethodName) (c : ByteArray) (n : Nat) (ret : Option FieldType) (f lo mc ms : Nat) (av : List Value) (ws : va_W) (P : Int32 → va_W → Prop) : Prop :=
  ∀ sz : Nat, Met l y (Cond.code y c n ret :: wsL_law0) (rm4 f lo mc ms) (va_Pc av (kPre g ws sz)) (va_Qi P (kPost g (va_A ws sz)) (va_A ws sz)) mc ms (va_A ws sz)
def cL (l : Launch) (g : Gx) (y : MethodName) (c : ByteArray) (n : Nat) (ret : Option FieldType) (f lo mc ms : Nat) (av : List Value) (ws : va_W) (P : Int64 → va_W → Prop) : Prop :=
  ∀ sz : Nat, Met l y (Cond.code y c n ret :: wsL_law0) (rm4 f lo mc ms) (va_Pc av (kPre g ws sz)) (va_Ql P (kPost g (va_A ws sz)) (va_A ws sz)) mc ms (va_A ws sz)
def cV (l : Launch) (g : Gx) (y : MethodName) (c : ByteArray) (n : Nat) (f lo mc ms : Nat) (av : List Value) (ws : va_W) (P : va_W → Prop) : Prop :=
  ∀ sz : Nat, Met l y (Cond.code y c n none :: wsL_law0) (rm4 f lo mc ms) (va_Pc av (kPre g ws sz)) (va_Qv P (kPost g (va_A ws sz)) (va_A ws sz)) mc ms (va_A ws sz)
/-- what a walk stands on: the machine, the code, the words, the classes, what it may write -/
def Cx (p : Program) (s : State) (m : MethodId) (meth : Method) (c : Code) (args : Array Value) (cc : ByteArray) (nL : Nat) (own : String) (A : Nat → Prop) (g : Gx) : Prop :=
  p.tables.exec = Jvm.exec ∧ c.code = cc ∧ c.maxLocals = nL ∧ s.vm.findClass own = some m.cls ∧ (∀ w ∈ wsL_law0, w.before args s = true) ∧ kK g s ∧ (∀ q : Nat, s.heap.size ≤ q → A q) ∧ meth.locks = false ∧ kS g A s s.heap
/-- from here on the machine comes to Q: cells ws, locals lv, at pc, with stack st, n1 cells of n2 slots made so far -/
def Wk (p : Program) (l : Launch) (e : Env) (R : Room) (s : State) (m : MethodId) (args : Array Value) (below : List Frame) (meth : Method) (c : Code) (Q : State → Prop) (A : Nat → Prop) (g : Gx) (nL n1 n2 : Nat) (ws : va_W) (lv : List (Nat × Value)) (pc : Nat) (st : List Value) : Prop :=
  ∀ (H : Heap) (locs : List Loc) (ls : Array Slot), va_P g.1 vwCl ws H → va_D A ws → va_S A s.heap H locs → lv_has ls nL lv → W p l e R s m args below meth c H locs n1 n2 Q (F0 m pc ls st)
theorem goodL0 : ∀ w ∈ wsL_law0, (w.onTables && w.keeps) = true ∨ ∃ ty, w = .arrayClass ty := fun w h => (goodL w h)
theorem gU : GoodIn wsL_law0 wsL_law0 := fun w h => ⟨h, goodL0 w h⟩
theorem gC {y : MethodName} {b : ByteArray} {n : Nat} {r : Option FieldType} (h : Cond.code y b n r ∈ wsL_law0) : GoodIn wsL_law0 (Cond.code y b n r :: wsL_law0) := fun w hw => (List.mem_cons.mp hw).elim (fun q => by rw [q]; exact gU _ h) (fun q => gU w q)
theorem gV {own C : String} {i : Nat} {y : MethodName} {b : ByteArray} {n : Nat} {r : Option FieldType} (h1 : Cond.methodLink own i y ∈ wsL_law0) (h2 : Cond.instanceMethod y ∈ wsL_law0) (h3 : Cond.selects C y y ∈ wsL_law0) (h4 : Cond.initialized C ∈ wsL_law0) (h5 : Cond.code y b n r ∈ wsL_law0) : GoodIn wsL_law0 (wsV own i C y (Cond.code y b n r :: wsL_law0)) := by
  intro w hw
  rcases List.mem_append.mp hw with q | q
  · simp only [List.mem_cons, List.not_mem_nil, or_false] at q
    rcases q with rfl | rfl | rfl | rfl
    · exact gU _ h1
    · exact gU _ h2
    · exact gU _ h3
    · exact gU _ h4
  · exact gC h5 w q
section KB
variable {p : Program} {l : Launch} {e : Env} {R : Room} {s : State} {m : MethodId} {args : Array Value} {below : List Frame} {meth : Method} {c : Code} {Q : State → Prop} {A : Nat → Prop} {g : Gx} {cc : ByteArray} {nL n1 n2 pc : Nat} {own : String} {ws : va_W} {lv : List (Nat × Value)} {st : List Value}
theorem cI.of {y : MethodName} {n f lo mc ms : Nat} {ret : Option FieldType} {av : List Value} {P : Int32 → va_W → Prop} (hy : plainName y.cls = true) (hn : (lg_sl av).length ≤ n)
    (body : ∀ (p : Program) (e : Env) (s : State) (m : MethodId) (args : Array Value) (below : List Frame) (meth : Method) (c : Code) (A : Nat → Prop), Cx p s m meth c args cc n y.cls A g → meth.sig.returnType = ret → meth.name = y.name →
      Wk p l e (rm4 f lo mc ms) s m args below meth c (MQ below (va_Qi P (kPost g A) A) args s mc ms A) A g n 0 0 ws (lv_args 0 av) 0 []) : cI l g y cc n ret f lo mc ms av ws P := by
  intro sz
  refine Met.ofW (cc := cc) (maxL := n) (ret := ret) hy rfl ?_
  intro p e s m args below meth c s₁ B hml hv
  obtain ⟨rfl, hsz, hP, hK, hD0, hSt⟩ := hv
  subst hsz
  have hts := atoms_spec (ws := Cond.code y cc n ret :: wsL_law0) B.pre
  rw [lg_entry_eq]
  exact body p e s m _ below meth c (va_A ws s.heap.size) ⟨B.exec, B.bytes, hml, findClass_of_methodNamed B.named, fun w h => hts w (List.mem_cons_of_mem _ h), hK, fun q h => Or.inr h, B.notSynchronized, hSt⟩ B.returns (name_of_methodNamed B.named B.method).1 _ _ _ hP hD0.self va_S.rf (lv_entry av hn)
theorem cL.of {y : MethodName} {n f lo mc ms : Nat} {ret : Option FieldType} {av : List Value} {P : Int64 → va_W → Prop} (hy : plainName y.cls = true) (hn : (lg_sl av).length ≤ n)
    (body : ∀ (p : Program) (e : Env) (s : State) (m : MethodId) (args : Array Value) (below : List Frame) (meth : Method) (c : Code) (A : Nat → Prop), Cx p s m meth c args cc n y.cls A g → meth.sig.returnType = ret → meth.name = y.name →
      Wk p l e (rm4 f lo mc ms) s m args below meth c (MQ below (va_Ql P (kPost g A) A) args s mc ms A) A g n 0 0 ws (lv_args 0 av) 0 []) : cL l g y cc n ret f lo mc ms av ws P := by
  intro sz
  refine Met.ofW (cc := cc) (maxL := n) (ret := ret) hy rfl ?_
  intro p e s m args below meth c s₁ B hml hv
  obtain ⟨rfl, hsz, hP, hK, hD0, hSt⟩ := hv
  subst hsz
  have hts := atoms_spec (ws := Cond.code y cc n ret :: wsL_law0) B.pre
  rw [lg_entry_eq]
  exact body p e s m _ below meth c (va_A ws s.heap.size) ⟨B.exec, B.bytes, hml, findClass_of_methodNamed B.named, fun w h => hts w (List.mem_cons_of_mem _ h), hK, fun q h => Or.inr h, B.notSynchronized, hSt⟩ B.returns (name_of_methodNamed B.named B.method).1 _ _ _ hP hD0.self va_S.rf (lv_entry av hn)
theorem cV.of {y : MethodName} {n f lo mc ms : Nat} {av : List Value} {P : va_W → Prop} (hy : plainName y.cls = true) (hn : (lg_sl av).length ≤ n)
    (body : ∀ (p : Program) (e : Env) (s : State) (m : MethodId) (args : Array Value) (below : List Frame) (meth : Method) (c : Code) (A : Nat → Prop), Cx p s m meth c args cc n y.cls A g → meth.sig.returnType = none → meth.name = y.name →
      Wk p l e (rm4 f lo mc ms) s m args below meth c (MQ below (va_Qv P (kPost g A) A) args s mc ms A) A g n 0 0 ws (lv_args 0 av) 0 []) : cV l g y cc n f lo mc ms av ws P := by
  intro sz
  refine Met.ofW (cc := cc) (maxL := n) (ret := none) hy rfl ?_
  intro p e s m args below meth c s₁ B hml hv
  obtain ⟨rfl, hsz, hP, hK, hD0, hSt⟩ := hv
  subst hsz
  have hts := atoms_spec (ws := Cond.code y cc n none :: wsL_law0) B.pre
  rw [lg_entry_eq]
  exact body p e s m _ below meth c (va_A ws s.heap.size) ⟨B.exec, B.bytes, hml, findClass_of_methodNamed B.named, fun w h => hts w (List.mem_cons_of_mem _ h), hK, fun q h => Or.inr h, B.notSynchronized, hSt⟩ B.returns (name_of_methodNamed B.named B.method).1 _ _ _ hP hD0.self va_S.rf (lv_entry av hn)
theorem k_iret {mc ms : Nat} {P : Int32 → va_W → Prop} {v : Int32} {w : va_W} (X : Cx p s m meth c args cc nL own A g) (hr : meth.sig.returnType = some .int) (hd : decode cc pc = .ok (.ireturn, 1)) (h1 : n1 ≤ mc) (h2 : n2 ≤ ms) (is : List Nat) (hn : va_nd is = true) (hs1 : is.filterMap (fun i => ws[i]?) = w) (hs2 : is.map (fun i => ws[i]?) = w.map some) (hp : P v w) : Wk p l e R s m args below meth c (MQ below (va_Qi P (kPost g A) A) args s mc ms A) A g nL n1 n2 ws lv pc [.int v] := by
  intro H locs ls hP hD hS hl
  refine W.widen h1 h2 ?_
  exact W.iret X.1 X.2.1 hr (fun t ht hW => ⟨⟨v, w, rfl, hp, by rw [ht]; exact hP.sub is hs1, hD.sub is hn hs2⟩, hS.F ht⟩) hS.2.2 hd X.2.2.2.2.2.2.2.1
theorem k_zret {mc ms : Nat} {P : Int32 → va_W → Prop} {v : Int32} {w : va_W} {ty : FieldType} (X : Cx p s m meth c args cc nL own A g) (hr : meth.sig.returnType = some ty) (hna : narrow ty (.int v) = .int v) (hd : decode cc pc = .ok (.ireturn, 1)) (h1 : n1 ≤ mc) (h2 : n2 ≤ ms) (is : List Nat) (hn : va_nd is = true) (hs1 : is.filterMap (fun i => ws[i]?) = w) (hs2 : is.map (fun i => ws[i]?) = w.map some) (hp : P v w) : Wk p l e R s m args below meth c (MQ below (va_Qi P (kPost g A) A) args s mc ms A) A g nL n1 n2 ws lv pc [.int v] := by
  intro H locs ls hP hD hS hl
  refine W.widen h1 h2 ?_
  exact W.zret X.1 X.2.1 hr hna (fun t ht hW => ⟨⟨v, w, rfl, hp, by rw [ht]; exact hP.sub is hs1, hD.sub is hn hs2⟩, hS.F ht⟩) hS.2.2 hd X.2.2.2.2.2.2.2.1
theorem k_lret {mc ms : Nat} {P : Int64 → va_W → Prop} {v : Int64} {w : va_W} (X : Cx p s m meth c args cc nL own A g) (hr : meth.sig.returnType = some .long) (hd : decode cc pc = .ok (.lreturn, 1)) (h1 : n1 ≤ mc) (h2 : n2 ≤ ms) (is : List Nat) (hn : va_nd is = true) (hs1 : is.filterMap (fun i => ws[i]?) = w) (hs2 : is.map (fun i => ws[i]?) = w.map some) (hp : P v w) : Wk p l e R s m args below meth c (MQ below (va_Ql P (kPost g A) A) args s mc ms A) A g nL n1 n2 ws lv pc [.long v] := by
  intro H locs ls hP hD hS hl
  refine W.widen h1 h2 ?_
  exact W.lret X.1 X.2.1 hr (fun t ht hW => ⟨⟨v, w, rfl, hp, by rw [ht]; exact hP.sub is hs1, hD.sub is hn hs2⟩, hS.F ht⟩) hS.2.2 hd X.2.2.2.2.2.2.2.1
theorem k_vret {mc ms : Nat} {P : va_W → Prop} {w : va_W} (X : Cx p s m meth c args cc nL own A g) (hr : meth.sig.returnType = none) (hd : decode cc pc = .ok (.return_, 1)) (h1 : n1 ≤ mc) (h2 : n2 ≤ ms) (is : List Nat) (hn : va_nd is = true) (hs1 : is.filterMap (fun i => ws[i]?) = w) (hs2 : is.map (fun i => ws[i]?) = w.map some) (hp : P w) : Wk p l e R s m args below meth c (MQ below (va_Qv P (kPost g A) A) args s mc ms A) A g nL n1 n2 ws lv pc [] := by
  intro H locs ls hP hD hS hl
  refine W.widen h1 h2 ?_
  exact W.vret X.1 X.2.1 hr (fun t ht hW => ⟨⟨w, rfl, hp, by rw [ht]; exact hP.sub is hs1, hD.sub is hn hs2⟩, hS.F ht⟩) hS.2.2 hd X.2.2.2.2.2.2.2.1
theorem k_aload_n {k : Fin 4} {a : Nat} (X : Cx p s m meth c args cc nL own A g) (hd : decode cc pc = .ok (.aload_n k, 1)) (j : Nat) (hj : lv[j]? = some ((k : Nat), .ref a)) (kk : Wk p l e R s m args below meth c Q A g nL n1 n2 ws lv (pc + 1) (.ref a :: st)) : Wk p l e R s m args below meth c Q A g nL n1 n2 ws lv pc st := fun H locs ls hP hD hS hl => lv_aload_n X.1 X.2.1 hd rfl (lv_at hl j hj) (kk H locs ls hP hD hS hl)
theorem k_iload_n {k : Fin 4} {x : Int32} (X : Cx p s m meth c args cc nL own A g) (hd : decode cc pc = .ok (.iload_n k, 1)) (j : Nat) (hj : lv[j]? = some ((k : Nat), .int x)) (kk : Wk p l e R s m args below meth c Q A g nL n1 n2 ws lv (pc + 1) (.int x :: st)) : Wk p l e R s m args below meth c Q A g nL n1 n2 ws lv pc st := fun H locs ls hP hD hS hl => lv_iload_n X.1 X.2.1 hd rfl (lv_at hl j hj) (kk H locs ls hP hD hS hl)
theorem k_iload {i : Nat} {x : Int32} (X : Cx p s m meth c args cc nL own A g) (hd : decode cc pc = .ok (.iload i, 2)) (j : Nat) (hj : lv[j]? = some (i, .int x)) (kk : Wk p l e R s m args below meth c Q A g nL n1 n2 ws lv (pc + 2) (.int x :: st)) : Wk p l e R s m args below meth c Q A g nL n1 n2 ws lv pc st := fun H locs ls hP hD hS hl => lv_iload X.1 X.2.1 hd (lv_at hl j hj) (kk H locs ls hP hD hS hl)
theorem k_lload_n {k : Fin 4} {x : Int64} (X : Cx p s m meth c args cc nL own A g) (hd : decode cc pc = .ok (.lload_n k, 1)) (j : Nat) (hj : lv[j]? = some ((k : Nat), .long x)) (kk : Wk p l e R s m args below meth c Q A g nL n1 n2 ws lv (pc + 1) (.long x :: st)) : Wk p l e R s m args below meth c Q A g nL n1 n2 ws lv pc st := fun H locs ls hP hD hS hl => lv_lload_n X.1 X.2.1 hd rfl (lv_at hl j hj) (kk H locs ls hP hD hS hl)
theorem k_lload {i : Nat} {x : Int64} (X : Cx p s m meth c args cc nL own A g) (hd : decode cc pc = .ok (.lload i, 2)) (j : Nat) (hj : lv[j]? = some (i, .long x)) (kk : Wk p l e R s m args below meth c Q A g nL n1 n2 ws lv (pc + 2) (.long x :: st)) : Wk p l e R s m args below meth c Q A g nL n1 n2 ws lv pc st := fun H locs ls hP hD hS hl => lv_lload X.1 X.2.1 hd (lv_at hl j hj) (kk H locs ls hP hD hS hl)
theorem k_iconst {n : Int} {v : Int32} (X : Cx p s m meth c args cc nL own A g) (hd : decode cc pc = .ok (.iconst n, 1)) (hv : Int32.ofInt n = v) (kk : Wk p l e R s m args below meth c Q A g nL n1 n2 ws lv (pc + 1) (.int v :: st)) : Wk p l e R s m args below meth c Q A g nL n1 n2 ws lv pc st := fun H locs ls hP hD hS hl => lv_iconst X.1 X.2.1 hd hv (kk H locs ls hP hD hS hl)
theorem k_bipush {n : Int} {v : Int32} (X : Cx p s m meth c args cc nL own A g) (hd : decode cc pc = .ok (.bipush n, 2)) (hv : (Int8.ofInt n).toInt32 = v) (kk : Wk p l e R s m args below meth c Q A g nL n1 n2 ws lv (pc + 2) (.int v :: st)) : Wk p l e R s m args below meth c Q A g nL n1 n2 ws lv pc st := fun H locs ls hP hD hS hl => lv_bipush X.1 X.2.1 hd hv (kk H locs ls hP hD hS hl)
theorem k_sipush {n : Int} {v : Int32} (X : Cx p s m meth c args cc nL own A g) (hd : decode cc pc = .ok (.sipush n, 3)) (hv : (Int16.ofInt n).toInt32 = v) (kk : Wk p l e R s m args below meth c Q A g nL n1 n2 ws lv (pc + 3) (.int v :: st)) : Wk p l e R s m args below meth c Q A g nL n1 n2 ws lv pc st := fun H locs ls hP hD hS hl => lv_sipush X.1 X.2.1 hd hv (kk H locs ls hP hD hS hl)
theorem k_lconst {n : Fin 2} {v : Int64} (X : Cx p s m meth c args cc nL own A g) (hd : decode cc pc = .ok (.lconst n, 1)) (hv : Int64.ofNat (n : Nat) = v) (kk : Wk p l e R s m args below meth c Q A g nL n1 n2 ws lv (pc + 1) (.long v :: st)) : Wk p l e R s m args below meth c Q A g nL n1 n2 ws lv pc st := fun H locs ls hP hD hS hl => lv_lconst X.1 X.2.1 hd hv (kk H locs ls hP hD hS hl)
theorem k_ldc {i : Nat} {v : Int32} (X : Cx p s m meth c args cc nL own A g) (hd : decode cc pc = .ok (.ldc i, 2)) (hm : Cond.constant own i v ∈ wsL_law0) (kk : Wk p l e R s m args below meth c Q A g nL n1 n2 ws lv (pc + 2) (.int v :: st)) : Wk p l e R s m args below meth c Q A g nL n1 n2 ws lv pc st := fun H locs ls hP hD hS hl => lv_ldc X.1 X.2.1 X.2.2.2.1 (X.2.2.2.2.1 _ hm) hd (kk H locs ls hP hD hS hl)
theorem k_ldc2 {i : Nat} {v : Int64} (X : Cx p s m meth c args cc nL own A g) (hd : decode cc pc = .ok (.ldc2_w i, 3)) (hm : Cond.constantLong own i v ∈ wsL_law0) (kk : Wk p l e R s m args below meth c Q A g nL n1 n2 ws lv (pc + 3) (.long v :: st)) : Wk p l e R s m args below meth c Q A g nL n1 n2 ws lv pc st := fun H locs ls hP hD hS hl => lv_ldc2 X.1 X.2.1 X.2.2.2.1 (X.2.2.2.2.1 _ hm) hd (kk H locs ls hP hD hS hl)
theorem k_ldcS {i : Nat} {tx : String} (X : Cx p s m meth c args cc nL own A g) (hd : decode cc pc = .ok (.ldc i, 2)) (hm : (own, i, tx) ∈ strL) (kk : ∀ a : Nat, LtS g a tx → Wk p l e R s m args below meth c Q A g nL n1 n2 ws lv (pc + 2) (.ref a :: st)) : Wk p l e R s m args below meth c Q A g nL n1 n2 ws lv pc st := by
  intro H locs ls hP hD hS hl
  have ha := (X.2.2.2.2.2.2.2.2.2.2 _ hm).1
  exact va_ldcS X.1 X.2.1 X.2.2.2.1 ha hd (kk _ ⟨own, i, hm, rfl⟩ H locs ls hP hD hS hl)
theorem k_iadd {x y : Int32} (X : Cx p s m meth c args cc nL own A g) (hd : decode cc pc = .ok (.iadd, 1)) (kk : Wk p l e R s m args below meth c Q A g nL n1 n2 ws lv (pc + 1) (.int (x + y) :: st)) : Wk p l e R s m args below meth c Q A g nL n1 n2 ws lv pc (.int y :: .int x :: st) := fun H locs ls hP hD hS hl => lv_iadd X.1 X.2.1 hd (kk H locs ls hP hD hS hl)
theorem k_isub {x y : Int32} (X : Cx p s m meth c args cc nL own A g) (hd : decode cc pc = .ok (.isub, 1)) (kk : Wk p l e R s m args below meth c Q A g nL n1 n2 ws lv (pc + 1) (.int (x - y) :: st)) : Wk p l e R s m args below meth c Q A g nL n1 n2 ws lv pc (.int y :: .int x :: st) := fun H locs ls hP hD hS hl => lv_isub X.1 X.2.1 hd (kk H locs ls hP hD hS hl)
theorem k_imul {x y : Int32} (X : Cx p s m meth c args cc nL own A g) (hd : decode cc pc = .ok (.imul, 1)) (kk : Wk p l e R s m args below meth c Q A g nL n1 n2 ws lv (pc + 1) (.int (x * y) :: st)) : Wk p l e R s m args below meth c Q A g nL n1 n2 ws lv pc (.int y :: .int x :: st) := fun H locs ls hP hD hS hl => lv_imul X.1 X.2.1 hd (kk H locs ls hP hD hS hl)
theorem k_iand {x y : Int32} (X : Cx p s m meth c args cc nL own A g) (hd : decode cc pc = .ok (.iand, 1)) (kk : Wk p l e R s m args below meth c Q A g nL n1 n2 ws lv (pc + 1) (.int (x &&& y) :: st)) : Wk p l e R s m args below meth c Q A g nL n1 n2 ws lv pc (.int y :: .int x :: st) := fun H locs ls hP hD hS hl => lv_iand X.1 X.2.1 hd (kk H locs ls hP hD hS hl)
theorem k_ior {x y : Int32} (X : Cx p s m meth c args cc nL own A g) (hd : decode cc pc = .ok (.ior, 1)) (kk : Wk p l e R s m args below meth c Q A g nL n1 n2 ws lv (pc + 1) (.int (x ||| y) :: st)) : Wk p l e R s m args below meth c Q A g nL n1 n2 ws lv pc (.int y :: .int x :: st) := fun H locs ls hP hD hS hl => lv_ior X.1 X.2.1 hd (kk H locs ls hP hD hS hl)
theorem k_ixor {x y : Int32} (X : Cx p s m meth c args cc nL own A g) (hd : decode cc pc = .ok (.ixor, 1)) (kk : Wk p l e R s m args below meth c Q A g nL n1 n2 ws lv (pc + 1) (.int (x ^^^ y) :: st)) : Wk p l e R s m args below meth c Q A g nL n1 n2 ws lv pc (.int y :: .int x :: st) := fun H locs ls hP hD hS hl => lv_ixor X.1 X.2.1 hd (kk H locs ls hP hD hS hl)
theorem k_ishl {x y : Int32} (X : Cx p s m meth c args cc nL own A g) (hd : decode cc pc = .ok (.ishl, 1)) (kk : Wk p l e R s m args below meth c Q A g nL n1 n2 ws lv (pc + 1) (.int (x <<< (y &&& 31)) :: st)) : Wk p l e R s m args below meth c Q A g nL n1 n2 ws lv pc (.int y :: .int x :: st) := fun H locs ls hP hD hS hl => lv_ishl X.1 X.2.1 hd (kk H locs ls hP hD hS hl)
theorem k_ishr {x y : Int32} (X : Cx p s m meth c args cc nL own A g) (hd : decode cc pc = .ok (.ishr, 1)) (kk : Wk p l e R s m args below meth c Q A g nL n1 n2 ws lv (pc + 1) (.int (x >>> (y &&& 31)) :: st)) : Wk p l e R s m args below meth c Q A g nL n1 n2 ws lv pc (.int y :: .int x :: st) := fun H locs ls hP hD hS hl => lv_ishr X.1 X.2.1 hd (kk H locs ls hP hD hS hl)
theorem k_i2l {x : Int32} (X : Cx p s m meth c args cc nL own A g) (hd : decode cc pc = .ok (.i2l, 1)) (kk : Wk p l e R s m args below meth c Q A g nL n1 n2 ws lv (pc + 1) (.long x.toInt64 :: st)) : Wk p l e R s m args below meth c Q A g nL n1 n2 ws lv pc (.int x :: st) := fun H locs ls hP hD hS hl => lv_i2l X.1 X.2.1 hd rfl (kk H locs ls hP hD hS hl)
theorem k_nm {x : Int32} (kk : ∀ y : Int32, y = x → Wk p l e R s m args below meth c Q A g nL n1 n2 ws lv pc (.int y :: st)) : Wk p l e R s m args below meth c Q A g nL n1 n2 ws lv pc (.int x :: st) := kk x rfl
theorem k_to {x : Int32} (y : Int32) (h : x = y) (kk : Wk p l e R s m args below meth c Q A g nL n1 n2 ws lv pc (.int y :: st)) : Wk p l e R s m args below meth c Q A g nL n1 n2 ws lv pc (.int x :: st) := by rw [h]; exact kk
theorem k_dup {v : Value} (X : Cx p s m meth c args cc nL own A g) (hd : decode cc pc = .ok (.dup, 1)) (hc : v.category = 1) (kk : Wk p l e R s m args below meth c Q A g nL n1 n2 ws lv (pc + 1) (v :: v :: st)) : Wk p l e R s m args below meth c Q A g nL n1 n2 ws lv pc (v :: st) := fun H locs ls hP hD hS hl => lv_dup X.1 X.2.1 hd hc (kk H locs ls hP hD hS hl)
theorem k_pop {v : Value} (X : Cx p s m meth c args cc nL own A g) (hd : decode cc pc = .ok (.pop, 1)) (hc : v.category = 1) (kk : Wk p l e R s m args below meth c Q A g nL n1 n2 ws lv (pc + 1) st) : Wk p l e R s m args below meth c Q A g nL n1 n2 ws lv pc (v :: st) := fun H locs ls hP hD hS hl => lv_pop X.1 X.2.1 hd hc (kk H locs ls hP hD hS hl)
theorem k_if_eq {x : Int32} {off : Int} (tgt : Nat) (X : Cx p s m meth c args cc nL own A g) (hd : decode cc pc = .ok (.ifCond .eq off, 3)) (ht : (pc : Int) + off = (tgt : Int)) (kt : x = 0 → Wk p l e R s m args below meth c Q A g nL n1 n2 ws lv tgt st) (kf : ¬ (x = 0) → Wk p l e R s m args below meth c Q A g nL n1 n2 ws lv (pc + 3) st) : Wk p l e R s m args below meth c Q A g nL n1 n2 ws lv pc (.int x :: st) := fun H locs ls hP hD hS hl => lv_if_eq X.1 X.2.1 hd ht (fun q => kt q H locs ls hP hD hS hl) (fun q => kf q H locs ls hP hD hS hl)
theorem k_if_ne {x : Int32} {off : Int} (tgt : Nat) (X : Cx p s m meth c args cc nL own A g) (hd : decode cc pc = .ok (.ifCond .ne off, 3)) (ht : (pc : Int) + off = (tgt : Int)) (kt : x ≠ 0 → Wk p l e R s m args below meth c Q A g nL n1 n2 ws lv tgt st) (kf : x = 0 → Wk p l e R s m args below meth c Q A g nL n1 n2 ws lv (pc + 3) st) : Wk p l e R s m args below meth c Q A g nL n1 n2 ws lv pc (.int x :: st) := fun H locs ls hP hD hS hl => lv_if_ne X.1 X.2.1 hd ht (fun q => kt q H locs ls hP hD hS hl) (fun q => kf q H locs ls hP hD hS hl)
theorem k_if_lt {x : Int32} {off : Int} (tgt : Nat) (X : Cx p s m meth c args cc nL own A g) (hd : decode cc pc = .ok (.ifCond .lt off, 3)) (ht : (pc : Int) + off = (tgt : Int)) (kt : x < 0 → Wk p l e R s m args below meth c Q A g nL n1 n2 ws lv tgt st) (kf : ¬ (x < 0) → Wk p l e R s m args below meth c Q A g nL n1 n2 ws lv (pc + 3) st) : Wk p l e R s m args below meth c Q A g nL n1 n2 ws lv pc (.int x :: st) := fun H locs ls hP hD hS hl => lv_if_lt X.1 X.2.1 hd ht (fun q => kt q H locs ls hP hD hS hl) (fun q => kf q H locs ls hP hD hS hl)
theorem k_if_ge {x : Int32} {off : Int} (tgt : Nat) (X : Cx p s m meth c args cc nL own A g) (hd : decode cc pc = .ok (.ifCond .ge off, 3)) (ht : (pc : Int) + off = (tgt : Int)) (kt : 0 ≤ x → Wk p l e R s m args below meth c Q A g nL n1 n2 ws lv tgt st) (kf : ¬ (0 ≤ x) → Wk p l e R s m args below meth c Q A g nL n1 n2 ws lv (pc + 3) st) : Wk p l e R s m args below meth c Q A g nL n1 n2 ws lv pc (.int x :: st) := fun H locs ls hP hD hS hl => lv_if_ge X.1 X.2.1 hd ht (fun q => kt q H locs ls hP hD hS hl) (fun q => kf q H locs ls hP hD hS hl)
theorem k_if_le {x : Int32} {off : Int} (tgt : Nat) (X : Cx p s m meth c args cc nL own A g) (hd : decode cc pc = .ok (.ifCond .le off, 3)) (ht : (pc : Int) + off = (tgt : Int)) (kt : x ≤ 0 → Wk p l e R s m args below meth c Q A g nL n1 n2 ws lv tgt st) (kf : ¬ (x ≤ 0) → Wk p l e R s m args below meth c Q A g nL n1 n2 ws lv (pc + 3) st) : Wk p l e R s m args below meth c Q A g nL n1 n2 ws lv pc (.int x :: st) := fun H locs ls hP hD hS hl => lv_if_le X.1 X.2.1 hd ht (fun q => kt q H locs ls hP hD hS hl) (fun q => kf q H locs ls hP hD hS hl)
theorem k_ic_eq {x y : Int32} {off : Int} (tgt : Nat) (X : Cx p s m meth c args cc nL own A g) (hd : decode cc pc = .ok (.if_icmp .eq off, 3)) (ht : (pc : Int) + off = (tgt : Int)) (kt : x = y → Wk p l e R s m args below meth c Q A g nL n1 n2 ws lv tgt st) (kf : ¬ (x = y) → Wk p l e R s m args below meth c Q A g nL n1 n2 ws lv (pc + 3) st) : Wk p l e R s m args below meth c Q A g nL n1 n2 ws lv pc (.int y :: .int x :: st) := fun H locs ls hP hD hS hl => lv_icmp_eq X.1 X.2.1 hd ht (fun q => kt q H locs ls hP hD hS hl) (fun q => kf q H locs ls hP hD hS hl)
theorem k_ic_ne {x y : Int32} {off : Int} (tgt : Nat) (X : Cx p s m meth c args cc nL own A g) (hd : decode cc pc = .ok (.if_icmp .ne off, 3)) (ht : (pc : Int) + off = (tgt : Int)) (kt : x ≠ y → Wk p l e R s m args below meth c Q A g nL n1 n2 ws lv tgt st) (kf : x = y → Wk p l e R s m args below meth c Q A g nL n1 n2 ws lv (pc + 3) st) : Wk p l e R s m args below meth c Q A g nL n1 n2 ws lv pc (.int y :: .int x :: st) := fun H locs ls hP hD hS hl => lv_icmp_ne X.1 X.2.1 hd ht (fun q => kt q H locs ls hP hD hS hl) (fun q => kf q H locs ls hP hD hS hl)
theorem k_ic_lt {x y : Int32} {off : Int} (tgt : Nat) (X : Cx p s m meth c args cc nL own A g) (hd : decode cc pc = .ok (.if_icmp .lt off, 3)) (ht : (pc : Int) + off = (tgt : Int)) (kt : x < y → Wk p l e R s m args below meth c Q A g nL n1 n2 ws lv tgt st) (kf : ¬ (x < y) → Wk p l e R s m args below meth c Q A g nL n1 n2 ws lv (pc + 3) st) : Wk p l e R s m args below meth c Q A g nL n1 n2 ws lv pc (.int y :: .int x :: st) := fun H locs ls hP hD hS hl => lv_icmp_lt X.1 X.2.1 hd ht (fun q => kt q H locs ls hP hD hS hl) (fun q => kf q H locs ls hP hD hS hl)
theorem k_ic_ge {x y : Int32} {off : Int} (tgt : Nat) (X : Cx p s m meth c args cc nL own A g) (hd : decode cc pc = .ok (.if_icmp .ge off, 3)) (ht : (pc : Int) + off = (tgt : Int)) (kt : y ≤ x → Wk p l e R s m args below meth c Q A g nL n1 n2 ws lv tgt st) (kf : ¬ (y ≤ x) → Wk p l e R s m args below meth c Q A g nL n1 n2 ws lv (pc + 3) st) : Wk p l e R s m args below meth c Q A g nL n1 n2 ws lv pc (.int y :: .int x :: st) := fun H locs ls hP hD hS hl => lv_icmp_ge X.1 X.2.1 hd ht (fun q => kt q H locs ls hP hD hS hl) (fun q => kf q H locs ls hP hD hS hl)
theorem k_ic_gt {x y : Int32} {off : Int} (tgt : Nat) (X : Cx p s m meth c args cc nL own A g) (hd : decode cc pc = .ok (.if_icmp .gt off, 3)) (ht : (pc : Int) + off = (tgt : Int)) (kt : y < x → Wk p l e R s m args below meth c Q A g nL n1 n2 ws lv tgt st) (kf : ¬ (y < x) → Wk p l e R s m args below meth c Q A g nL n1 n2 ws lv (pc + 3) st) : Wk p l e R s m args below meth c Q A g nL n1 n2 ws lv pc (.int y :: .int x :: st) := fun H locs ls hP hD hS hl => lv_icmp_gt X.1 X.2.1 hd ht (fun q => kt q H locs ls hP hD hS hl) (fun q => kf q H locs ls hP hD hS hl)
theorem k_ic_le {x y : Int32} {off : Int} (tgt : Nat) (X : Cx p s m meth c args cc nL own A g) (hd : decode cc pc = .ok (.if_icmp .le off, 3)) (ht : (pc : Int) + off = (tgt : Int)) (kt : x ≤ y → Wk p l e R s m args below meth c Q A g nL n1 n2 ws lv tgt st) (kf : ¬ (x ≤ y) → Wk p l e R s m args below meth c Q A g nL n1 n2 ws lv (pc + 3) st) : Wk p l e R s m args below meth c Q A g nL n1 n2 ws lv pc (.int y :: .int x :: st) := fun H locs ls hP hD hS hl => lv_icmp_le X.1 X.2.1 hd ht (fun q => kt q H locs ls hP hD hS hl) (fun q => kf q H locs ls hP hD hS hl)
theorem k_goto {off : Int} (tgt : Nat) (X : Cx p s m meth c args cc nL own A g) (hd : decode cc pc = .ok (.goto off, 3)) (ht : (pc : Int) + off = (tgt : Int)) (kk : Wk p l e R s m args below meth c Q A g nL n1 n2 ws lv tgt st) : Wk p l e R s m args below meth c Q A g nL n1 n2 ws lv pc st := fun H locs ls hP hD hS hl => lv_goto X.1 X.2.1 hd ht (kk H locs ls hP hD hS hl)
theorem k_istore_n {k : Fin 4} {x : Int32} (lv' : List (Nat × Value)) (X : Cx p s m meth c args cc nL own A g) (hd : decode cc pc = .ok (.istore_n k, 1)) (hn : (k : Nat) < nL) (hv : ((k : Nat), Value.int x) :: lv.filter (fun q => !(q.1 == (k : Nat)) && !(q.1 + 1 == (k : Nat) && q.2.category == 2)) = lv') (kk : Wk p l e R s m args below meth c Q A g nL n1 n2 ws lv' (pc + 1) st) : Wk p l e R s m args below meth c Q A g nL n1 n2 ws lv pc (.int x :: st) := fun H locs ls hP hD hS hl => lv_istore_n X.1 X.2.1 hd rfl hl hn hv (fun ls hl => kk H locs ls hP hD hS hl)
theorem k_astore_n {k : Fin 4} {x : Nat} (lv' : List (Nat × Value)) (X : Cx p s m meth c args cc nL own A g) (hd : decode cc pc = .ok (.astore_n k, 1)) (hn : (k : Nat) < nL) (hv : ((k : Nat), Value.ref x) :: lv.filter (fun q => !(q.1 == (k : Nat)) && !(q.1 + 1 == (k : Nat) && q.2.category == 2)) = lv') (kk : Wk p l e R s m args below meth c Q A g nL n1 n2 ws lv' (pc + 1) st) : Wk p l e R s m args below meth c Q A g nL n1 n2 ws lv pc (.ref x :: st) := fun H locs ls hP hD hS hl => lv_astore_n X.1 X.2.1 hd rfl hl hn hv (fun ls hl => kk H locs ls hP hD hS hl)
theorem k_istore {i : Nat} {x : Int32} (lv' : List (Nat × Value)) (X : Cx p s m meth c args cc nL own A g) (hd : decode cc pc = .ok (.istore i, 2)) (hn : i < nL) (hv : (i, Value.int x) :: lv.filter (fun q => !(q.1 == i) && !(q.1 + 1 == i && q.2.category == 2)) = lv') (kk : Wk p l e R s m args below meth c Q A g nL n1 n2 ws lv' (pc + 2) st) : Wk p l e R s m args below meth c Q A g nL n1 n2 ws lv pc (.int x :: st) := fun H locs ls hP hD hS hl => lv_istore X.1 X.2.1 hd hl hn hv (fun ls hl => kk H locs ls hP hD hS hl)
theorem k_iinc {i : Nat} {n : Int} {x : Int32} (v : Int32) (lv' : List (Nat × Value)) (j : Nat) (X : Cx p s m meth c args cc nL own A g) (hd : decode cc pc = .ok (.iinc i n, 3)) (hj : lv[j]? = some (i, .int x)) (hv : x + Int32.ofInt n = v) (hn : i < nL) (hl' : (i, Value.int v) :: lv.filter (fun q => !(q.1 == i) && !(q.1 + 1 == i && q.2.category == 2)) = lv') (kk : Wk p l e R s m args below meth c Q A g nL n1 n2 ws lv' (pc + 3) st) : Wk p l e R s m args below meth c Q A g nL n1 n2 ws lv pc st := fun H locs ls hP hD hS hl => lv_iinc X.1 X.2.1 hd hl hj hv hn hl' (fun ls hl => kk H locs ls hP hD hS hl)
theorem k_get {C : String} {T : u_T} {N ci i a : Nat} {fs : List Value} {v : Value} (X : Cx p s m meth c args cc nL own A g) (hin : ∀ w ∈ u_ws C T N, w ∈ wsL_law0) (hc : vwCl[ci]? = some (C, T, N)) (k : Nat) (hk : k < N) (hd : decode cc pc = .ok (.getfield i, 3)) (hm : Cond.fieldLink own i (T k).1 (T k).2.1 (T k).2.2.1 ∈ wsL_law0) (q : Nat) (he : ws[q]? = some (a, .inr (ci, fs))) (hv : fs[k]? = some v) (kk : Wk p l e R s m args below meth c Q A g nL n1 n2 ws lv (pc + 3) (v :: st)) : Wk p l e R s m args below meth c Q A g nL n1 n2 ws lv pc (.ref a :: st) :=
  fun H locs ls hP hD hS hl => va_get (D := g.1) (cl := vwCl) X.1 X.2.1 X.2.2.2.2.1 hin X.2.2.2.1 X.2.2.2.2.2.1.1 hP q he hc k hk (X.2.2.2.2.1 _ hm) (fun _ h9 => h9) hv hd (kk H locs ls hP hD hS hl)
theorem k_put {C : String} {T : u_T} {N ci i a : Nat} {fs : List Value} {v : Value} {ty0 : Nat → FieldType} (ws' : va_W) (X : Cx p s m meth c args cc nL own A g) (hin : ∀ w ∈ u_ws C T N, w ∈ wsL_law0) (hc : vwCl[ci]? = some (C, T, N)) (hty : ∀ k, k < N → parseFieldDescriptor (T k).2.2.1 = some (ty0 k)) (hnm : ∀ a, a < N → ∀ b, b < N → a ≠ b → (T a).2.1 ≠ (T b).2.1) (k : Nat) (hk : k < N) (hfin : (T k).2.2.2 = false) (hd : decode cc pc = .ok (.putfield i, 3)) (hm : Cond.fieldLink own i (T k).1 (T k).2.1 (T k).2.2.1 ∈ wsL_law0) (q : Nat) (he : ws[q]? = some (a, .inr (ci, fs))) (hn : narrow (ty0 k) v = v) (hfit : fits (ty0 k) v = true) (hl0 : k < fs.length) (hw : ws.set q (a, .inr (ci, fs.set k v)) = ws') (kk : Wk p l e R s m args below meth c Q A g nL n1 n2 ws' lv (pc + 3) st) : Wk p l e R s m args below meth c Q A g nL n1 n2 ws lv pc (v :: .ref a :: st) := by
  intro H locs ls hP hD hS hl
  subst hw
  exact va_put (D := g.1) (cl := vwCl) (ty := ty0 k) X.1 X.2.1 X.2.2.2.2.1 hin ty0 hty hnm X.2.2.2.1 X.2.2.2.2.2.1.1 hP hD hS q he hc k hk (X.2.2.2.2.1 _ hm) (fun _ h9 => h9) hfin (hty k hk) hn hfit hl0 hd (fun H1 locs1 hP hD hS => kk H1 locs1 ls hP hD hS hl)
theorem k_putF {C : String} {T : u_T} {N ci i a : Nat} {fs : List Value} {v : Value} {ty0 : Nat → FieldType} (ws' : va_W) (X : Cx p s m meth c args cc nL own A g) (hi : meth.name = "<init>") (hin : ∀ w ∈ u_ws C T N, w ∈ wsL_law0) (hc : vwCl[ci]? = some (C, T, N)) (hty : ∀ k, k < N → parseFieldDescriptor (T k).2.2.1 = some (ty0 k)) (hnm : ∀ a, a < N → ∀ b, b < N → a ≠ b → (T a).2.1 ≠ (T b).2.1) (k : Nat) (hk : k < N) (hfin : (T k).2.2.2 = true) (hown : (T k).1 = own) (hd : decode cc pc = .ok (.putfield i, 3)) (hm : Cond.fieldLink own i (T k).1 (T k).2.1 (T k).2.2.1 ∈ wsL_law0) (q : Nat) (he : ws[q]? = some (a, .inr (ci, fs))) (hn : narrow (ty0 k) v = v) (hfit : fits (ty0 k) v = true) (hl0 : k < fs.length) (hw : ws.set q (a, .inr (ci, fs.set k v)) = ws') (kk : Wk p l e R s m args below meth c Q A g nL n1 n2 ws' lv (pc + 3) st) : Wk p l e R s m args below meth c Q A g nL n1 n2 ws lv pc (v :: .ref a :: st) := by
  intro H locs ls hP hD hS hl
  subst hw
  exact va_putF (D := g.1) (cl := vwCl) (ty := ty0 k) X.1 X.2.1 X.2.2.2.2.1 hin ty0 hty hnm X.2.2.2.1 X.2.2.2.2.2.1.1 hP hD hS q he hc k hk (X.2.2.2.2.1 _ hm) (fun _ h9 => h9) hfin hi hown (hty k hk) hn hfit hl0 hd (fun H1 locs1 hP hD hS => kk H1 locs1 ls hP hD hS hl)
theorem k_new {C : String} {T : u_T} {N ci i : Nat} {fs : List Value} {ty0 : Nat → FieldType} (X : Cx p s m meth c args cc nL own A g) (hin : ∀ w ∈ u_ws C T N, w ∈ wsL_law0) (hc : vwCl[ci]? = some (C, T, N)) (hty : ∀ k, k < N → parseFieldDescriptor (T k).2.2.1 = some (ty0 k)) (hd : decode cc pc = .ok (.new i, 3)) (hm : Cond.classLink own i C ∈ wsL_law0) (hm2 : Cond.instantiable C N ∈ wsL_law0) (hm3 : Cond.initialized C ∈ wsL_law0) (hfs : ∀ j, j < N → defaultValue (ty0 j) = vp_V fs j) (h1 : n1 + 1 ≤ R.cells) (h2 : n2 + N ≤ R.slots) (kk : ∀ q : Nat, Wk p l e R s m args below meth c Q A g nL (n1 + 1) (n2 + N) (ws ++ [(q, .inr (ci, fs))]) lv (pc + 3) (.ref q :: st)) : Wk p l e R s m args below meth c Q A g nL n1 n2 ws lv pc st :=
  fun H locs ls hP hD hS hl => va_new (D := g.1) (cl := vwCl) X.1 X.2.1 X.2.2.2.2.1 hin ty0 hty X.2.2.2.1 (X.2.2.2.2.1 _ hm) (X.2.2.2.2.1 _ hm2) (X.2.2.2.2.1 _ hm3) X.2.2.2.2.2.1.1 hP hD hS X.2.2.2.2.2.2.1 hc hfs h1 h2 hd (fun q H1 hP hD hS => kk q H1 locs ls hP hD hS hl)
theorem k_newaI {n : Int32} (N' : Nat) (X : Cx p s m meth c args cc nL own A g) (hd : decode cc pc = .ok (.newarray .int, 2)) (hm : Cond.arrayClass .int ∈ wsL_law0) (hn : ¬ n < 0) (hN : n.toNatClampNeg = N') (hby : N' * componentBytes .int ≤ 536870912) (h1 : n1 + 1 ≤ R.cells) (h2 : n2 + N' ≤ R.slots) (kk : ∀ q : Nat, Wk p l e R s m args below meth c Q A g nL (n1 + 1) (n2 + N') (ws ++ [(q, .inl (g.2.2.1, N', .inl (fun _ => 0)))]) lv (pc + 2) (.ref q :: st)) : Wk p l e R s m args below meth c Q A g nL n1 n2 ws lv pc (.int n :: st) := by
  intro H locs ls hP hD hS hl
  refine va_newa (D := g.1) (cl := vwCl) (atype := .int) (ty := .int) (a0 := (N', .inl (fun _ => 0))) X.1 X.2.1 (X.2.2.2.2.1 _ hm) rfl X.2.2.2.2.2.1.1 hP hD hS X.2.2.2.2.2.2.1 (fun cA => rfl) hn hN hby h1 h2 hd (fun q cA H1 hK1 hP hD hS => ?_)
  have e1 := va_nm_int (X.2.2.2.2.2.1.1.2 1 (g.2.2.1, .int) rfl).2
  have e2 := va_nm_int (hK1.2 4 (cA, .int) rfl).2
  have e3 : cA = g.2.2.1 := Option.some.inj (e2.symm.trans e1)
  subst e3
  exact kk q H1 locs ls hP hD hS hl
theorem k_newaB {n : Int32} (N' : Nat) (X : Cx p s m meth c args cc nL own A g) (hd : decode cc pc = .ok (.newarray .byte, 2)) (hm : Cond.arrayClass .byte ∈ wsL_law0) (hn : ¬ n < 0) (hN : n.toNatClampNeg = N') (hby : N' * componentBytes .byte ≤ 536870912) (h1 : n1 + 1 ≤ R.cells) (h2 : n2 + N' ≤ R.slots) (kk : ∀ q : Nat, Wk p l e R s m args below meth c Q A g nL (n1 + 1) (n2 + N') (ws ++ [(q, .inl (g.2.1, N', .inl (fun _ => 0)))]) lv (pc + 2) (.ref q :: st)) : Wk p l e R s m args below meth c Q A g nL n1 n2 ws lv pc (.int n :: st) := by
  intro H locs ls hP hD hS hl
  refine va_newa (D := g.1) (cl := vwCl) (atype := .byte) (ty := .byte) (a0 := (N', .inl (fun _ => 0))) X.1 X.2.1 (X.2.2.2.2.1 _ hm) rfl X.2.2.2.2.2.1.1 hP hD hS X.2.2.2.2.2.2.1 (fun cA => rfl) hn hN hby h1 h2 hd (fun q cA H1 hK1 hP hD hS => ?_)
  have e1 := va_nm_byte (X.2.2.2.2.2.1.1.2 0 (g.2.1, .byte) rfl).2
  have e2 := va_nm_byte (hK1.2 4 (cA, .byte) rfl).2
  have e3 : cA = g.2.1 := Option.some.inj (e2.symm.trans e1)
  subst e3
  exact kk q H1 locs ls hP hD hS hl
theorem k_newaJ {n : Int32} (N' : Nat) (X : Cx p s m meth c args cc nL own A g) (hd : decode cc pc = .ok (.newarray .long, 2)) (hm : Cond.arrayClass .long ∈ wsL_law0) (hn : ¬ n < 0) (hN : n.toNatClampNeg = N') (hby : N' * componentBytes .long ≤ 536870912) (h1 : n1 + 1 ≤ R.cells) (h2 : n2 + N' ≤ R.slots) (kk : ∀ q : Nat, Wk p l e R s m args below meth c Q A g nL (n1 + 1) (n2 + N') (ws ++ [(q, .inl (g.2.2.2.1, N', .inr (.inl (fun _ => 0))))]) lv (pc + 2) (.ref q :: st)) : Wk p l e R s m args below meth c Q A g nL n1 n2 ws lv pc (.int n :: st) := by
  intro H locs ls hP hD hS hl
  refine va_newa (D := g.1) (cl := vwCl) (atype := .long) (ty := .long) (a0 := (N', .inr (.inl (fun _ => 0)))) X.1 X.2.1 (X.2.2.2.2.1 _ hm) rfl X.2.2.2.2.2.1.1 hP hD hS X.2.2.2.2.2.2.1 (fun cA => rfl) hn hN hby h1 h2 hd (fun q cA H1 hK1 hP hD hS => ?_)
  have e1 := va_nm_long (X.2.2.2.2.2.1.1.2 2 (g.2.2.2.1, .long) rfl).2
  have e2 := va_nm_long (hK1.2 4 (cA, .long) rfl).2
  have e3 : cA = g.2.2.2.1 := Option.some.inj (e2.symm.trans e1)
  subst e3
  exact kk q H1 locs ls hP hD hS hl
theorem k_objInit {i a : Nat} (X : Cx p s m meth c args cc nL own A g) (hd : decode cc pc = .ok (.invokespecial i, 3)) (hm : Cond.methodLink own i objectInit ∈ wsL_law0) (hm2 : Cond.instanceMethod objectInit ∈ wsL_law0) (hm3 : Cond.code objectInit ⟨#[0xb1]⟩ 1 none ∈ wsL_law0) (hf : 1 ≤ R.frames) (hlo : (st.map fun v => v.category).sum + 12 ≤ R.locals) (kk : Wk p l e R s m args below meth c Q A g nL n1 n2 ws lv (pc + 3) st) : Wk p l e R s m args below meth c Q A g nL n1 n2 ws lv pc (.ref a :: st) := by
  intro H locs ls hP hD hS hl
  refine W.objInit X.1 X.2.1 X.2.2.2.1 (X.2.2.2.2.1 _ hm) (X.2.2.2.2.1 _ hm2) (X.2.2.2.2.1 _ hm3) rfl (by rw [X.2.2.1]; exact hl.1) rfl hd hf (by show 2 * 0 + _ + 12 ≤ _; omega) ?_
  exact kk H locs ls hP hD hS hl
theorem k_mmax {i : Nat} {x y : Int32} (X : Cx p s m meth c args cc nL own A g) (hd : decode cc pc = .ok (.invokestatic i, 3)) (hm : Cond.methodLink own i Lib.Math.max.name ∈ wsL_law0) (hm2 : Cond.static Lib.Math.max.name ∈ wsL_law0) (hm3 : Cond.initialized "java/lang/Math" ∈ wsL_law0) (hm4 : Cond.code Lib.Math.max.name Lib.Math.max.code 2 (some .int) ∈ wsL_law0) (hf : 1 ≤ R.frames) (hlo : (st.map fun v => v.category).sum + 13 ≤ R.locals) (h1 : n1 ≤ R.cells) (h2 : n2 ≤ R.slots) (kk : Wk p l e R s m args below meth c Q A g nL n1 n2 ws lv (pc + 3) (.int (if x < y then y else x) :: st)) : Wk p l e R s m args below meth c Q A g nL n1 n2 ws lv pc (.int y :: .int x :: st) :=
  fun H locs ls hP hD hS hl => va_mmax X.1 X.2.1 (by rw [X.2.2.1]; exact hl.1.symm) X.2.2.2.1 (X.2.2.2.2.1 _ hm) (X.2.2.2.2.1 _ hm2) (X.2.2.2.2.1 _ hm3) (X.2.2.2.2.1 _ hm4) hf hlo h1 h2 hd (kk H locs ls hP hD hS hl)
theorem k_mmin {i : Nat} {x y : Int32} (X : Cx p s m meth c args cc nL own A g) (hd : decode cc pc = .ok (.invokestatic i, 3)) (hm : Cond.methodLink own i Lib.Math.min.name ∈ wsL_law0) (hm2 : Cond.static Lib.Math.min.name ∈ wsL_law0) (hm3 : Cond.initialized "java/lang/Math" ∈ wsL_law0) (hm4 : Cond.code Lib.Math.min.name Lib.Math.min.code 2 (some .int) ∈ wsL_law0) (hf : 1 ≤ R.frames) (hlo : (st.map fun v => v.category).sum + 13 ≤ R.locals) (h1 : n1 ≤ R.cells) (h2 : n2 ≤ R.slots) (kk : Wk p l e R s m args below meth c Q A g nL n1 n2 ws lv (pc + 3) (.int (if y < x then y else x) :: st)) : Wk p l e R s m args below meth c Q A g nL n1 n2 ws lv pc (.int y :: .int x :: st) :=
  fun H locs ls hP hD hS hl => va_mmin X.1 X.2.1 (by rw [X.2.2.1]; exact hl.1.symm) X.2.2.2.1 (X.2.2.2.2.1 _ hm) (X.2.2.2.2.1 _ hm2) (X.2.2.2.2.1 _ hm3) (X.2.2.2.2.1 _ hm4) hf hlo h1 h2 hd (kk H locs ls hP hD hS hl)
theorem k_iald {a n : Nat} {f : Nat → Int32} {x : Int32} (X : Cx p s m meth c args cc nL own A g) (hd : decode cc pc = .ok (.iaload, 1)) (q : Nat) (he : ws[q]? = some (a, .inl (g.2.2.1, n, .inl f))) (hi : vp_in x n) (kk : Wk p l e R s m args below meth c Q A g nL n1 n2 ws lv (pc + 1) (.int (f x.toNatClampNeg) :: st)) : Wk p l e R s m args below meth c Q A g nL n1 n2 ws lv pc (.int x :: .ref a :: st) :=
  fun H locs ls hP hD hS hl => va_iald (D := g.1) (cl := vwCl) X.1 X.2.1 X.2.2.2.2.2.1.1 hP q 1 he rfl hi hd (kk H locs ls hP hD hS hl)
theorem k_bald {a n : Nat} {f : Nat → Int32} {x : Int32} (X : Cx p s m meth c args cc nL own A g) (hd : decode cc pc = .ok (.baload, 1)) (q : Nat) (he : ws[q]? = some (a, .inl (g.2.1, n, .inl f))) (hi : vp_in x n) (kk : Wk p l e R s m args below meth c Q A g nL n1 n2 ws lv (pc + 1) (.int (f x.toNatClampNeg) :: st)) : Wk p l e R s m args below meth c Q A g nL n1 n2 ws lv pc (.int x :: .ref a :: st) :=
  fun H locs ls hP hD hS hl => va_bald (D := g.1) (cl := vwCl) X.1 X.2.1 X.2.2.2.2.2.1.1 hP q 0 he rfl hi hd (kk H locs ls hP hD hS hl)
theorem k_iast {a n : Nat} {f : Nat → Int32} {x v : Int32} (ws' : va_W) (X : Cx p s m meth c args cc nL own A g) (hd : decode cc pc = .ok (.iastore, 1)) (q : Nat) (he : ws[q]? = some (a, .inl (g.2.2.1, n, .inl f))) (hi : vp_in x n) (hw : ws.set q (a, .inl (g.2.2.1, n, .inl (upd f x.toNatClampNeg v))) = ws') (kk : Wk p l e R s m args below meth c Q A g nL n1 n2 ws' lv (pc + 1) st) : Wk p l e R s m args below meth c Q A g nL n1 n2 ws lv pc (.int v :: .int x :: .ref a :: st) := by
  intro H locs ls hP hD hS hl
  subst hw
  exact va_iast (D := g.1) (cl := vwCl) X.1 X.2.1 X.2.2.2.2.2.1.1 hP hD hS q 1 he rfl hi hd (fun H1 locs1 hP hD hS => kk H1 locs1 ls hP hD hS hl)
theorem k_bast {a n : Nat} {f : Nat → Int32} {x v : Int32} (ws' : va_W) (X : Cx p s m meth c args cc nL own A g) (hd : decode cc pc = .ok (.bastore, 1)) (q : Nat) (he : ws[q]? = some (a, .inl (g.2.1, n, .inl f))) (hi : vp_in x n) (hw : ws.set q (a, .inl (g.2.1, n, .inl (upd f x.toNatClampNeg (vp_nar .byte v)))) = ws') (kk : Wk p l e R s m args below meth c Q A g nL n1 n2 ws' lv (pc + 1) st) : Wk p l e R s m args below meth c Q A g nL n1 n2 ws lv pc (.int v :: .int x :: .ref a :: st) := by
  intro H locs ls hP hD hS hl
  subst hw
  exact va_bast (D := g.1) (cl := vwCl) X.1 X.2.1 X.2.2.2.2.2.1.1 hP hD hS q 0 he rfl hi hd (fun H1 locs1 hP hD hS => kk H1 locs1 ls hP hD hS hl)
theorem k_alen {a : Nat} {cA : ClassId} {x : vp_A} {ty : FieldType} (v : Int32) (t0 : Nat) (X : Cx p s m meth c args cc nL own A g) (hd : decode cc pc = .ok (.arraylength, 1)) (q : Nat) (he : ws[q]? = some (a, .inl (cA, x))) (ht : (tyL g)[t0]? = some (cA, ty)) (hv : Int32.ofNat x.1 = v) (kk : Wk p l e R s m args below meth c Q A g nL n1 n2 ws lv (pc + 1) (.int v :: st)) : Wk p l e R s m args below meth c Q A g nL n1 n2 ws lv pc (.ref a :: st) :=
  fun H locs ls hP hD hS hl => va_alen (D := g.1) (cl := vwCl) X.1 X.2.1 X.2.2.2.2.2.1.1 hP q t0 he ht hv hd (kk H locs ls hP hD hS hl)
/-- what a call takes along, and what is left -/
theorem k_pre {ws wc : va_W} {H : Heap} {av : List Value} {s : State} {g : Gx} {A : Nat → Prop} (hK : kK g s) (hP : va_P g.1 vwCl wc H) (hD : va_D A wc) (hSt : kS g A s s.heap) {locs : List Loc} (hS : va_S A s.heap H locs) (hF : ∀ q, va_A wc H.size q → A q) : ∀ U : State, U.heap = H → s.WarmedH U.vm → va_Pc av (kPre g wc H.size) av.toArray U :=
  fun U hU hW => ⟨rfl, by rw [hU], by rw [hU]; exact hP, kK.warm hW hK, hD.weaken (fun _ _ _ _ => trivial), by rw [hU]; exact kS.to hW hS.2.1 hF hSt⟩
theorem k_blind {av : List Value} {g : Gx} {wc : va_W} {sz : Nat} : FrameBlind (va_Pc av (kPre g wc sz)) := fun a U gf mk q => by
  obtain ⟨q0, q1, qP, qK, qD, qS⟩ := q
  exact ⟨q0, q1, qP, kK.calling qK, qD, kS.calling qS⟩
def yOk (y : MethodName) (n : Nat) : Prop := y.cls ≠ "java/lang/invoke/MethodHandle" ∧ y.cls ≠ "java/lang/invoke/VarHandle" ∧ (parseMethodDescriptor y.desc).map (fun d => d.parameters.length) = some n
theorem k_callVV {y : MethodName} {b : ByteArray} {nY f lo mc ms i n : Nat} {As : List Value} {P : va_W → Prop} {C : String} {qC : vw_C} {a : Nat} (X : Cx p s m meth c args cc nL own A g) (wc wr : va_W) (isC isR : List Nat) (hM : cV l g y b nY f lo mc ms (.ref a :: As) wc P) (hd : decode cc pc = .ok (.invokevirtual i, 3)) (hm1 : Cond.methodLink own i y ∈ wsL_law0) (hm2 : Cond.instanceMethod y ∈ wsL_law0) (hm3 : Cond.selects C y y ∈ wsL_law0) (hm4 : Cond.initialized C ∈ wsL_law0) (hm5 : Cond.code y b nY none ∈ wsL_law0) (hC : y.cls = C) (ci : Nat) (hc : vwCl[ci]? = some qC) (hqC : qC.1 = C) (q0 : Nat) (fs : List Value) (hr0 : wc[q0]? = some (a, .inr (ci, fs))) (hy : yOk y n) (hnA : As.length = n) (hf : f + 1 ≤ R.frames) (hlo : 8 + (nY + 11) + lo ≤ R.locals) (hst : (st.map fun v => v.category).sum ≤ 8) (h1 : n1 + mc ≤ R.cells) (h2 : n2 + ms ≤ R.slots)
    (hC1 : isC.filterMap (fun i => ws[i]?) = wc) (hC2 : isC.map (fun i => ws[i]?) = wc.map some) (hC3 : va_nd isC = true) (hR2 : isR.map (fun i => ws[i]?) = wr.map some) (hR3 : va_nd isR = true) (hdis : ∀ i ∈ isR, i ∉ isC)
    (kk : ∀ (w : va_W), P w → Wk p l e R s m args below meth c Q A g nL (n1 + mc) (n2 + ms) (wr ++ w) lv (pc + 3) st) : Wk p l e R s m args below meth c Q A g nL n1 n2 ws lv pc (As.reverse ++ .ref a :: st) := by
  intro H locs ls hP hD hS hl
  have hPc := hP.sub (ws' := wc) isC hC1
  have hDc := hD.sub (ws' := wc) isC hC3 hC2
  have hFc := va_free (wc := wc) hD hS X.2.2.2.2.2.2.1 isC hC2
  refine va_callv (va_runV (As := As) (rest := st) ⟨X.1, X.2.1, X.2.2.1, X.2.2.2.1, X.2.2.2.2.1⟩ (hM H.size) (cwV n X.2.2.2.2.1 (gV hm1 hm2 hm3 hm4 hm5) rfl rfl rfl ⟨hC, hy⟩ ⟨hf, hlo⟩) ⟨k_blind, by rw [← hqC]; exact va_recv X.2.2.2.2.2.1.1 hPc hc hr0, k_pre (ws := ws) X.2.2.2.2.2.1 hPc hDc X.2.2.2.2.2.2.2.2 hS hFc⟩ rfl hnA hl.1 rfl (lv_room hst) hd ⟨h1, h2⟩) hS (fun q _ h => hFc q h) hFc (fun w t H1 locs1 ht hvm hw hB hz1 hk1 hS1 => ?_)
  obtain ⟨hP1, hD1⟩ := hB
  rw [ht] at hP1
  obtain ⟨hP2, hD2⟩ := va_join (wr := wr) (w1 := w) hP hD isC isR hC2 hR2 hR3 hdis hk1 hFc hP1 hD1
  exact kk w hw H1 locs1 ls hP2 hD2 hS1 hl
theorem k_callSV {y : MethodName} {b : ByteArray} {nY f lo mc ms i n : Nat} {As : List Value} {P : va_W → Prop} (X : Cx p s m meth c args cc nL own A g) (wc wr : va_W) (isC isR : List Nat) (hM : cV l g y b nY f lo mc ms As wc P) (hd : decode cc pc = .ok (.invokestatic i, 3)) (hm1 : Cond.methodLink own i y ∈ wsL_law0) (hm2 : Cond.static y ∈ wsL_law0) (hm4 : Cond.initialized y.cls ∈ wsL_law0) (hm5 : Cond.code y b nY none ∈ wsL_law0) (hy : yOk y n) (hnA : As.length = n) (hf : f + 1 ≤ R.frames) (hlo : 8 + (nY + 11) + lo ≤ R.locals) (hst : (st.map fun v => v.category).sum ≤ 8) (h1 : n1 + mc ≤ R.cells) (h2 : n2 + ms ≤ R.slots)
    (hC1 : isC.filterMap (fun i => ws[i]?) = wc) (hC2 : isC.map (fun i => ws[i]?) = wc.map some) (hC3 : va_nd isC = true) (hR2 : isR.map (fun i => ws[i]?) = wr.map some) (hR3 : va_nd isR = true) (hdis : ∀ i ∈ isR, i ∉ isC)
    (kk : ∀ (w : va_W), P w → Wk p l e R s m args below meth c Q A g nL (n1 + mc) (n2 + ms) (wr ++ w) lv (pc + 3) st) : Wk p l e R s m args below meth c Q A g nL n1 n2 ws lv pc (As.reverse ++ st) := by
  intro H locs ls hP hD hS hl
  have hPc := hP.sub (ws' := wc) isC hC1
  have hDc := hD.sub (ws' := wc) isC hC3 hC2
  have hFc := va_free (wc := wc) hD hS X.2.2.2.2.2.2.1 isC hC2
  refine va_callv (va_runS (As := As) (rest := st) ⟨X.1, X.2.1, X.2.2.1, X.2.2.2.1, X.2.2.2.2.1⟩ (hM H.size) ⟨callB_of n X.2.2.2.2.1 (gC hm5) rfl rfl rfl (X.2.2.2.2.1 _ hm4) (X.2.2.2.2.1 _ hm1) hy ⟨hf, hlo⟩, X.2.2.2.2.1 _ hm2⟩ ⟨k_blind, k_pre (ws := ws) X.2.2.2.2.2.1 hPc hDc X.2.2.2.2.2.2.2.2 hS hFc⟩ rfl hnA hl.1 rfl (lv_room hst) hd ⟨h1, h2⟩) hS (fun q _ h => hFc q h) hFc (fun w t H1 locs1 ht hvm hw hB hz1 hk1 hS1 => ?_)
  obtain ⟨hP1, hD1⟩ := hB
  rw [ht] at hP1
  obtain ⟨hP2, hD2⟩ := va_join (wr := wr) (w1 := w) hP hD isC isR hC2 hR2 hR3 hdis hk1 hFc hP1 hD1
  exact kk w hw H1 locs1 ls hP2 hD2 hS1 hl
theorem k_callVI {y : MethodName} {b : ByteArray} {nY f lo mc ms i n : Nat} {ret : Option FieldType} {As : List Value} {P : Int32 → va_W → Prop} {C : String} {qC : vw_C} {a : Nat} (X : Cx p s m meth c args cc nL own A g) (wc wr : va_W) (isC isR : List Nat) (hM : cI l g y b nY ret f lo mc ms (.ref a :: As) wc P) (hd : decode cc pc = .ok (.invokevirtual i, 3)) (hm1 : Cond.methodLink own i y ∈ wsL_law0) (hm2 : Cond.instanceMethod y ∈ wsL_law0) (hm3 : Cond.selects C y y ∈ wsL_law0) (hm4 : Cond.initialized C ∈ wsL_law0) (hm5 : Cond.code y b nY ret ∈ wsL_law0) (hC : y.cls = C) (ci : Nat) (hc : vwCl[ci]? = some qC) (hqC : qC.1 = C) (q0 : Nat) (fs : List Value) (hr0 : wc[q0]? = some (a, .inr (ci, fs))) (hy : yOk y n) (hnA : As.length = n) (hf : f + 1 ≤ R.frames) (hlo : 8 + (nY + 11) + lo ≤ R.locals) (hst : (st.map fun v => v.category).sum ≤ 8) (h1 : n1 + mc ≤ R.cells) (h2 : n2 + ms ≤ R.slots)
    (hC1 : isC.filterMap (fun i => ws[i]?) = wc) (hC2 : isC.map (fun i => ws[i]?) = wc.map some) (hC3 : va_nd isC = true) (hR2 : isR.map (fun i => ws[i]?) = wr.map some) (hR3 : va_nd isR = true) (hdis : ∀ i ∈ isR, i ∉ isC)
    (kk : ∀ (r : Int32) (w : va_W), P r w → Wk p l e R s m args below meth c Q A g nL (n1 + mc) (n2 + ms) (wr ++ w) lv (pc + 3) (.int r :: st)) : Wk p l e R s m args below meth c Q A g nL n1 n2 ws lv pc (As.reverse ++ .ref a :: st) := by
  intro H locs ls hP hD hS hl
  have hPc := hP.sub (ws' := wc) isC hC1
  have hDc := hD.sub (ws' := wc) isC hC3 hC2
  have hFc := va_free (wc := wc) hD hS X.2.2.2.2.2.2.1 isC hC2
  refine va_calli (va_runV (As := As) (rest := st) ⟨X.1, X.2.1, X.2.2.1, X.2.2.2.1, X.2.2.2.2.1⟩ (hM H.size) (cwV n X.2.2.2.2.1 (gV hm1 hm2 hm3 hm4 hm5) rfl rfl rfl ⟨hC, hy⟩ ⟨hf, hlo⟩) ⟨k_blind, by rw [← hqC]; exact va_recv X.2.2.2.2.2.1.1 hPc hc hr0, k_pre (ws := ws) X.2.2.2.2.2.1 hPc hDc X.2.2.2.2.2.2.2.2 hS hFc⟩ rfl hnA hl.1 rfl (lv_room hst) hd ⟨h1, h2⟩) hS (fun q _ h => hFc q h) hFc (fun r w t H1 locs1 ht hvm hw hB hz1 hk1 hS1 => ?_)
  obtain ⟨hP1, hD1⟩ := hB
  rw [ht] at hP1
  obtain ⟨hP2, hD2⟩ := va_join (wr := wr) (w1 := w) hP hD isC isR hC2 hR2 hR3 hdis hk1 hFc hP1 hD1
  exact kk r w hw H1 locs1 ls hP2 hD2 hS1 hl
theorem k_callSI {y : MethodName} {b : ByteArray} {nY f lo mc ms i n : Nat} {ret : Option FieldType} {As : List Value} {P : Int32 → va_W → Prop} (X : Cx p s m meth c args cc nL own A g) (wc wr : va_W) (isC isR : List Nat) (hM : cI l g y b nY ret f lo mc ms As wc P) (hd : decode cc pc = .ok (.invokestatic i, 3)) (hm1 : Cond.methodLink own i y ∈ wsL_law0) (hm2 : Cond.static y ∈ wsL_law0) (hm4 : Cond.initialized y.cls ∈ wsL_law0) (hm5 : Cond.code y b nY ret ∈ wsL_law0) (hy : yOk y n) (hnA : As.length = n) (hf : f + 1 ≤ R.frames) (hlo : 8 + (nY + 11) + lo ≤ R.locals) (hst : (st.map fun v => v.category).sum ≤ 8) (h1 : n1 + mc ≤ R.cells) (h2 : n2 + ms ≤ R.slots)
    (hC1 : isC.filterMap (fun i => ws[i]?) = wc) (hC2 : isC.map (fun i => ws[i]?) = wc.map some) (hC3 : va_nd isC = true) (hR2 : isR.map (fun i => ws[i]?) = wr.map some) (hR3 : va_nd isR = true) (hdis : ∀ i ∈ isR, i ∉ isC)
    (kk : ∀ (r : Int32) (w : va_W), P r w → Wk p l e R s m args below meth c Q A g nL (n1 + mc) (n2 + ms) (wr ++ w) lv (pc + 3) (.int r :: st)) : Wk p l e R s m args below meth c Q A g nL n1 n2 ws lv pc (As.reverse ++ st) := by
  intro H locs ls hP hD hS hl
  have hPc := hP.sub (ws' := wc) isC hC1
  have hDc := hD.sub (ws' := wc) isC hC3 hC2
  have hFc := va_free (wc := wc) hD hS X.2.2.2.2.2.2.1 isC hC2
  refine va_calli (va_runS (As := As) (rest := st) ⟨X.1, X.2.1, X.2.2.1, X.2.2.2.1, X.2.2.2.2.1⟩ (hM H.size) ⟨callB_of n X.2.2.2.2.1 (gC hm5) rfl rfl rfl (X.2.2.2.2.1 _ hm4) (X.2.2.2.2.1 _ hm1) hy ⟨hf, hlo⟩, X.2.2.2.2.1 _ hm2⟩ ⟨k_blind, k_pre (ws := ws) X.2.2.2.2.2.1 hPc hDc X.2.2.2.2.2.2.2.2 hS hFc⟩ rfl hnA hl.1 rfl (lv_room hst) hd ⟨h1, h2⟩) hS (fun q _ h => hFc q h) hFc (fun r w t H1 locs1 ht hvm hw hB hz1 hk1 hS1 => ?_)
  obtain ⟨hP1, hD1⟩ := hB
  rw [ht] at hP1
  obtain ⟨hP2, hD2⟩ := va_join (wr := wr) (w1 := w) hP hD isC isR hC2 hR2 hR3 hdis hk1 hFc hP1 hD1
  exact kk r w hw H1 locs1 ls hP2 hD2 hS1 hl
theorem k_callVL {y : MethodName} {b : ByteArray} {nY f lo mc ms i n : Nat} {ret : Option FieldType} {As : List Value} {P : Int64 → va_W → Prop} {C : String} {qC : vw_C} {a : Nat} (X : Cx p s m meth c args cc nL own A g) (wc wr : va_W) (isC isR : List Nat) (hM : cL l g y b nY ret f lo mc ms (.ref a :: As) wc P) (hd : decode cc pc = .ok (.invokevirtual i, 3)) (hm1 : Cond.methodLink own i y ∈ wsL_law0) (hm2 : Cond.instanceMethod y ∈ wsL_law0) (hm3 : Cond.selects C y y ∈ wsL_law0) (hm4 : Cond.initialized C ∈ wsL_law0) (hm5 : Cond.code y b nY ret ∈ wsL_law0) (hC : y.cls = C) (ci : Nat) (hc : vwCl[ci]? = some qC) (hqC : qC.1 = C) (q0 : Nat) (fs : List Value) (hr0 : wc[q0]? = some (a, .inr (ci, fs))) (hy : yOk y n) (hnA : As.length = n) (hf : f + 1 ≤ R.frames) (hlo : 8 + (nY + 11) + lo ≤ R.locals) (hst : (st.map fun v => v.category).sum ≤ 8) (h1 : n1 + mc ≤ R.cells) (h2 : n2 + ms ≤ R.slots)
    (hC1 : isC.filterMap (fun i => ws[i]?) = wc) (hC2 : isC.map (fun i => ws[i]?) = wc.map some) (hC3 : va_nd isC = true) (hR2 : isR.map (fun i => ws[i]?) = wr.map some) (hR3 : va_nd isR = true) (hdis : ∀ i ∈ isR, i ∉ isC)
    (kk : ∀ (r : Int64) (w : va_W), P r w → Wk p l e R s m args below meth c Q A g nL (n1 + mc) (n2 + ms) (wr ++ w) lv (pc + 3) (.long r :: st)) : Wk p l e R s m args below meth c Q A g nL n1 n2 ws lv pc (As.reverse ++ .ref a :: st) := by
  intro H locs ls hP hD hS hl
  have hPc := hP.sub (ws' := wc) isC hC1
  have hDc := hD.sub (ws' := wc) isC hC3 hC2
  have hFc := va_free (wc := wc) hD hS X.2.2.2.2.2.2.1 isC hC2
  refine va_calll (va_runV (As := As) (rest := st) ⟨X.1, X.2.1, X.2.2.1, X.2.2.2.1, X.2.2.2.2.1⟩ (hM H.size) (cwV n X.2.2.2.2.1 (gV hm1 hm2 hm3 hm4 hm5) rfl rfl rfl ⟨hC, hy⟩ ⟨hf, hlo⟩) ⟨k_blind, by rw [← hqC]; exact va_recv X.2.2.2.2.2.1.1 hPc hc hr0, k_pre (ws := ws) X.2.2.2.2.2.1 hPc hDc X.2.2.2.2.2.2.2.2 hS hFc⟩ rfl hnA hl.1 rfl (lv_room hst) hd ⟨h1, h2⟩) hS (fun q _ h => hFc q h) hFc (fun r w t H1 locs1 ht hvm hw hB hz1 hk1 hS1 => ?_)
  obtain ⟨hP1, hD1⟩ := hB
  rw [ht] at hP1
  obtain ⟨hP2, hD2⟩ := va_join (wr := wr) (w1 := w) hP hD isC isR hC2 hR2 hR3 hdis hk1 hFc hP1 hD1
  exact kk r w hw H1 locs1 ls hP2 hD2 hS1 hl
theorem k_callSL {y : MethodName} {b : ByteArray} {nY f lo mc ms i n : Nat} {ret : Option FieldType} {As : List Value} {P : Int64 → va_W → Prop} (X : Cx p s m meth c args cc nL own A g) (wc wr : va_W) (isC isR : List Nat) (hM : cL l g y b nY ret f lo mc ms As wc P) (hd : decode cc pc = .ok (.invokestatic i, 3)) (hm1 : Cond.methodLink own i y ∈ wsL_law0) (hm2 : Cond.static y ∈ wsL_law0) (hm4 : Cond.initialized y.cls ∈ wsL_law0) (hm5 : Cond.code y b nY ret ∈ wsL_law0) (hy : yOk y n) (hnA : As.length = n) (hf : f + 1 ≤ R.frames) (hlo : 8 + (nY + 11) + lo ≤ R.locals) (hst : (st.map fun v => v.category).sum ≤ 8) (h1 : n1 + mc ≤ R.cells) (h2 : n2 + ms ≤ R.slots)
    (hC1 : isC.filterMap (fun i => ws[i]?) = wc) (hC2 : isC.map (fun i => ws[i]?) = wc.map some) (hC3 : va_nd isC = true) (hR2 : isR.map (fun i => ws[i]?) = wr.map some) (hR3 : va_nd isR = true) (hdis : ∀ i ∈ isR, i ∉ isC)
    (kk : ∀ (r : Int64) (w : va_W), P r w → Wk p l e R s m args below meth c Q A g nL (n1 + mc) (n2 + ms) (wr ++ w) lv (pc + 3) (.long r :: st)) : Wk p l e R s m args below meth c Q A g nL n1 n2 ws lv pc (As.reverse ++ st) := by
  intro H locs ls hP hD hS hl
  have hPc := hP.sub (ws' := wc) isC hC1
  have hDc := hD.sub (ws' := wc) isC hC3 hC2
  have hFc := va_free (wc := wc) hD hS X.2.2.2.2.2.2.1 isC hC2
  refine va_calll (va_runS (As := As) (rest := st) ⟨X.1, X.2.1, X.2.2.1, X.2.2.2.1, X.2.2.2.2.1⟩ (hM H.size) ⟨callB_of n X.2.2.2.2.1 (gC hm5) rfl rfl rfl (X.2.2.2.2.1 _ hm4) (X.2.2.2.2.1 _ hm1) hy ⟨hf, hlo⟩, X.2.2.2.2.1 _ hm2⟩ ⟨k_blind, k_pre (ws := ws) X.2.2.2.2.2.1 hPc hDc X.2.2.2.2.2.2.2.2 hS hFc⟩ rfl hnA hl.1 rfl (lv_room hst) hd ⟨h1, h2⟩) hS (fun q _ h => hFc q h) hFc (fun r w t H1 locs1 ht hvm hw hB hz1 hk1 hS1 => ?_)
  obtain ⟨hP1, hD1⟩ := hB
  rw [ht] at hP1
  obtain ⟨hP2, hD2⟩ := va_join (wr := wr) (w1 := w) hP hD isC isR hC2 hR2 hR3 hdis hk1 hFc hP1 hD1
  exact kk r w hw H1 locs1 ls hP2 hD2 hS1 hl
theorem k_callII {y : MethodName} {b : ByteArray} {nY f lo mc ms i n a : Nat} {As : List Value} {P : va_W → Prop} (X : Cx p s m meth c args cc nL own A g) (wc wr : va_W) (isC isR : List Nat) (hM : cV l g y b nY f lo mc ms (.ref a :: As) wc P) (hd : decode cc pc = .ok (.invokespecial i, 3)) (hm1 : Cond.methodLink own i y ∈ wsL_law0) (hm2 : Cond.instanceMethod y ∈ wsL_law0) (hm4 : Cond.initialized y.cls ∈ wsL_law0) (hm5 : Cond.code y b nY none ∈ wsL_law0) (hyi : y.name = "<init>") (hy : yOk y n) (hnA : As.length = n) (hf : f + 1 ≤ R.frames) (hlo : 8 + (nY + 11) + lo ≤ R.locals) (hst : (st.map fun v => v.category).sum ≤ 8) (h1 : n1 + mc ≤ R.cells) (h2 : n2 + ms ≤ R.slots)
    (hC1 : isC.filterMap (fun i => ws[i]?) = wc) (hC2 : isC.map (fun i => ws[i]?) = wc.map some) (hC3 : va_nd isC = true) (hR2 : isR.map (fun i => ws[i]?) = wr.map some) (hR3 : va_nd isR = true) (hdis : ∀ i ∈ isR, i ∉ isC)
    (kk : ∀ (w : va_W), P w → Wk p l e R s m args below meth c Q A g nL (n1 + mc) (n2 + ms) (wr ++ w) lv (pc + 3) st) : Wk p l e R s m args below meth c Q A g nL n1 n2 ws lv pc (As.reverse ++ .ref a :: st) := by
  intro H locs ls hP hD hS hl
  have hPc := hP.sub (ws' := wc) isC hC1
  have hDc := hD.sub (ws' := wc) isC hC3 hC2
  have hFc := va_free (wc := wc) hD hS X.2.2.2.2.2.2.1 isC hC2
  refine va_callv (va_runI (As := As) (rest := st) ⟨X.1, X.2.1, X.2.2.1, X.2.2.2.1, X.2.2.2.2.1⟩ (hM H.size) (cwI n X.2.2.2.2.1 (gC hm5) rfl rfl rfl (X.2.2.2.2.1 _ hm4) (X.2.2.2.2.1 _ hm1) (X.2.2.2.2.1 _ hm2) hyi hy ⟨hf, hlo⟩) ⟨k_blind, k_pre (ws := ws) X.2.2.2.2.2.1 hPc hDc X.2.2.2.2.2.2.2.2 hS hFc⟩ rfl hnA hl.1 rfl (lv_room hst) hd ⟨h1, h2⟩) hS (fun q _ h => hFc q h) hFc (fun w t H1 locs1 ht hvm hw hB hz1 hk1 hS1 => ?_)
  obtain ⟨hP1, hD1⟩ := hB
  rw [ht] at hP1
  obtain ⟨hP2, hD2⟩ := va_join (wr := wr) (w1 := w) hP hD isC isR hC2 hR2 hR3 hdis hk1 hFc hP1 hD1
  exact kk w hw H1 locs1 ls hP2 hD2 hS1 hl
theorem k_callIN {y : MethodName} {b : ByteArray} {nY f lo mc ms i n a : Nat} {host : String} {As : List Value} {P : va_W → Prop} (X : Cx p s m meth c args cc nL own A g) (wc wr : va_W) (isC isR : List Nat) (hM : cV l g y b nY f lo mc ms (.ref a :: As) wc P) (hd : decode cc pc = .ok (.invokespecial i, 3)) (hm1 : (own, i, y, host) ∈ nestL) (hm2 : Cond.instanceMethod y ∈ wsL_law0) (hm4 : Cond.initialized y.cls ∈ wsL_law0) (hm5 : Cond.code y b nY none ∈ wsL_law0) (hyi : y.name = "<init>") (hy : yOk y n) (hnA : As.length = n) (hf : f + 1 ≤ R.frames) (hlo : 8 + (nY + 11) + lo ≤ R.locals) (hst : (st.map fun v => v.category).sum ≤ 8) (h1 : n1 + mc ≤ R.cells) (h2 : n2 + ms ≤ R.slots)
    (hC1 : isC.filterMap (fun i => ws[i]?) = wc) (hC2 : isC.map (fun i => ws[i]?) = wc.map some) (hC3 : va_nd isC = true) (hR2 : isR.map (fun i => ws[i]?) = wr.map some) (hR3 : va_nd isR = true) (hdis : ∀ i ∈ isR, i ∉ isC)
    (kk : ∀ (w : va_W), P w → Wk p l e R s m args below meth c Q A g nL (n1 + mc) (n2 + ms) (wr ++ w) lv (pc + 3) st) : Wk p l e R s m args below meth c Q A g nL n1 n2 ws lv pc (As.reverse ++ .ref a :: st) := by
  intro H locs ls hP hD hS hl
  have hPc := hP.sub (ws' := wc) isC hC1
  have hDc := hD.sub (ws' := wc) isC hC3 hC2
  have hFc := va_free (wc := wc) hD hS X.2.2.2.2.2.2.1 isC hC2
  refine va_callv (va_runIN (As := As) (rest := st) ⟨X.1, X.2.1, X.2.2.1, X.2.2.2.1, X.2.2.2.2.1⟩ (hM H.size) ⟨va_cnB n X.2.2.2.2.1 (gC hm5) rfl rfl rfl (X.2.2.2.2.2.1.2.2.2.1 _ hm1) (X.2.2.2.2.1 _ hm4) hy ⟨hf, hlo⟩, hyi, X.2.2.2.2.1 _ hm2⟩ ⟨k_blind, k_pre (ws := ws) X.2.2.2.2.2.1 hPc hDc X.2.2.2.2.2.2.2.2 hS hFc⟩ rfl hnA hl.1 rfl (lv_room hst) hd ⟨h1, h2⟩) hS (fun q _ h => hFc q h) hFc (fun w t H1 locs1 ht hvm hw hB hz1 hk1 hS1 => ?_)
  obtain ⟨hP1, hD1⟩ := hB
  rw [ht] at hP1
  obtain ⟨hP2, hD2⟩ := va_join (wr := wr) (w1 := w) hP hD isC isR hC2 hR2 hR3 hdis hk1 hFc hP1 hD1
  exact kk w hw H1 locs1 ls hP2 hD2 hS1 hl
theorem k_wide (k1 k2 : Nat) (h1 : n1 ≤ k1) (h2 : n2 ≤ k2) (kk : Wk p l e R s m args below meth c Q A g nL k1 k2 ws lv pc st) : Wk p l e R s m args below meth c Q A g nL n1 n2 ws lv pc st := fun H locs ls hP hD hS hl => W.widen h1 h2 (kk H locs ls hP hD hS hl)
theorem k_sub (ws' : va_W) (is : List Nat) (hs1 : is.filterMap (fun i => ws[i]?) = ws') (hn : va_nd is = true) (hs2 : is.map (fun i => ws[i]?) = ws'.map some) (kk : Wk p l e R s m args below meth c Q A g nL n1 n2 ws' lv pc st) : Wk p l e R s m args below meth c Q A g nL n1 n2 ws lv pc st := fun H locs ls hP hD hS hl => kk H locs ls (hP.sub is hs1) (hD.sub is hn hs2) hS hl
theorem k_lv (lv' : List (Nat × Value)) (is : List Nat) (h : lv_pick lv is = lv') (kk : Wk p l e R s m args below meth c Q A g nL n1 n2 ws lv' pc st) : Wk p l e R s m args below meth c Q A g nL n1 n2 ws lv pc st := fun H locs ls hP hD hS hl => kk H locs ls hP hD hS (lv_sub hl is h)
theorem k_ldcwS {i : Nat} {tx : String} (X : Cx p s m meth c args cc nL own A g) (hd : decode cc pc = .ok (.ldc_w i, 3)) (hm : (own, i, tx) ∈ strL) (kk : ∀ a : Nat, LtS g a tx → Wk p l e R s m args below meth c Q A g nL n1 n2 ws lv (pc + 3) (.ref a :: st)) : Wk p l e R s m args below meth c Q A g nL n1 n2 ws lv pc st := by
  intro H locs ls hP hD hS hl
  have ha := (X.2.2.2.2.2.2.2.2.2.2 _ hm).1
  generalize ea : sA g own i = a at ha
  intro T hT Y
  obtain ⟨t, a1, b1⟩ := kk a ⟨own, i, hm, ea.symm⟩ H locs ls hP hD hS hl T hT Y
  refine ⟨t, ?_, b1⟩
  obtain ⟨k, cf, i', a', hk, hcf, hcp, -, hr, hev'⟩ := Cond.stringRef_spec X.2.2.2.1 ha.1
  cases ha.2.symm.trans hev'
  obtain ⟨k', hk', he⟩ := Y.warmed.alike.2.2 _ _ hk
  have hr' : k'.resolved[i]? = some (some (.string a)) := by
    rcases Y.warmed.entry hk hk' i with h | ⟨h, -⟩
    · rw [h]; exact hr
    · rw [hr] at h; cases h
  have hdg : decode c.code (F0 m pc ls st).pc = .ok (.ldc_w i, 3) := by rw [X.2.1]; exact hd
  have hex := X.1
  jvm_step Y.here [hex, hdg, ldc_w.wp_string (e := e) (s := T) (f := F0 m pc ls st) Y.here.top hk' (by rw [he]; exact hcf) hcp hr']
  exact a1
theorem k_ldcw {i : Nat} {v : Int32} (X : Cx p s m meth c args cc nL own A g) (hd : decode cc pc = .ok (.ldc_w i, 3)) (hm : Cond.constant own i v ∈ wsL_law0) (kk : Wk p l e R s m args below meth c Q A g nL n1 n2 ws lv (pc + 3) (.int v :: st)) : Wk p l e R s m args below meth c Q A g nL n1 n2 ws lv pc st := fun H locs ls hP hD hS hl => lv_ldcw X.1 X.2.1 X.2.2.2.1 (X.2.2.2.2.1 _ hm) hd (kk H locs ls hP hD hS hl)
theorem k_tableIn {dflt lo hi : Int} {offs : Array Int} {len : Nat} {x : Int32} {off : Int} (tgt : Nat) (X : Cx p s m meth c args cc nL own A g) (hd : decode cc pc = .ok (.tableswitch dflt lo hi offs, len)) (h1 : ¬ x.toInt < lo) (h2 : ¬ hi < x.toInt) (ho : offs[(x.toInt - lo).toNat]? = some off) (ht : (pc : Int) + off = (tgt : Int)) (kk : Wk p l e R s m args below meth c Q A g nL n1 n2 ws lv tgt st) : Wk p l e R s m args below meth c Q A g nL n1 n2 ws lv pc (.int x :: st) := fun H locs ls hP hD hS hl => lv_tableIn X.1 X.2.1 hd h1 h2 ho ht (kk H locs ls hP hD hS hl)
theorem k_tableOut {dflt lo hi : Int} {offs : Array Int} {len : Nat} {x : Int32} (tgt : Nat) (X : Cx p s m meth c args cc nL own A g) (hd : decode cc pc = .ok (.tableswitch dflt lo hi offs, len)) (h : x.toInt < lo ∨ hi < x.toInt) (ht : (pc : Int) + dflt = (tgt : Int)) (kk : Wk p l e R s m args below meth c Q A g nL n1 n2 ws lv tgt st) : Wk p l e R s m args below meth c Q A g nL n1 n2 ws lv pc (.int x :: st) := fun H locs ls hP hD hS hl => lv_tableOut X.1 X.2.1 hd h ht (kk H locs ls hP hD hS hl)
theorem k_irem {x y : Int32} (X : Cx p s m meth c args cc nL own A g) (hd : decode cc pc = .ok (.irem, 1)) (h0 : ¬ y = 0) (kk : Wk p l e R s m args below meth c Q A g nL n1 n2 ws lv (pc + 1) (.int (x - x / y * y) :: st)) : Wk p l e R s m args below meth c Q A g nL n1 n2 ws lv pc (.int y :: .int x :: st) := fun H locs ls hP hD hS hl => lv_irem X.1 X.2.1 hd h0 (kk H locs ls hP hD hS hl)
theorem k_i2b {x : Int32} (X : Cx p s m meth c args cc nL own A g) (hd : decode cc pc = .ok (.i2b, 1)) (kk : Wk p l e R s m args below meth c Q A g nL n1 n2 ws lv (pc + 1) (.int x.toInt8.toInt32 :: st)) : Wk p l e R s m args below meth c Q A g nL n1 n2 ws lv pc (.int x :: st) := fun H locs ls hP hD hS hl => lv_i2b X.1 X.2.1 hd rfl (kk H locs ls hP hD hS hl)
theorem k_toL {x : Int64} (y : Int64) (h : x = y) (kk : Wk p l e R s m args below meth c Q A g nL n1 n2 ws lv pc (.long y :: st)) : Wk p l e R s m args below meth c Q A g nL n1 n2 ws lv pc (.long x :: st) := by rw [h]; exact kk
theorem k_lcmp {x y : Int64} (X : Cx p s m meth c args cc nL own A g) (hd : decode cc pc = .ok (.lcmp, 1)) (kk : Wk p l e R s m args below meth c Q A g nL n1 n2 ws lv (pc + 1) (.int (lg_cmp x y) :: st)) : Wk p l e R s m args below meth c Q A g nL n1 n2 ws lv pc (.long y :: .long x :: st) := fun H locs ls hP hD hS hl => W.lcmp X.1 X.2.1 hd (kk H locs ls hP hD hS hl)
theorem k_iushr {x y : Int32} (X : Cx p s m meth c args cc nL own A g) (hd : decode cc pc = .ok (.iushr, 1)) (kk : Wk p l e R s m args below meth c Q A g nL n1 n2 ws lv (pc + 1) (.int (x.toUInt32 >>> (y.toUInt32 &&& Int32.toUInt32 31)).toInt32 :: st)) : Wk p l e R s m args below meth c Q A g nL n1 n2 ws lv pc (.int y :: .int x :: st) := fun H locs ls hP hD hS hl => lv_iushr X.1 X.2.1 hd rfl (kk H locs ls hP hD hS hl)
theorem k_ws (ws' : va_W) (h : ws = ws') (kk : Wk p l e R s m args below meth c Q A g nL n1 n2 ws' lv pc st) : Wk p l e R s m args below meth c Q A g nL n1 n2 ws lv pc st := by rw [h]; exact kk
theorem k_lveq (lv' : List (Nat × Value)) (h : lv = lv') (kk : Wk p l e R s m args below meth c Q A g nL n1 n2 ws lv' pc st) : Wk p l e R s m args below meth c Q A g nL n1 n2 ws lv pc st := by rw [h]; exact kk
theorem k_newq {i : Nat} {n : Int32} (N' : Nat) (X : Cx p s m meth c args cc nL own A g) (hd : decode cc pc = .ok (.anewarray i, 3)) (hm : Cond.classLink own i RX7 ∈ wsL_law0) (hn : ¬ n < 0) (hN : n.toNatClampNeg = N') (hby : N' * 4 ≤ 536870912) (h1 : n1 + 1 ≤ R.cells) (h2 : n2 + N' ≤ R.slots) (kk : ∀ q : Nat, Wk p l e R s m args below meth c Q A g nL (n1 + 1) (n2 + N') (ws ++ [(q, .inl (g.2.2.2.2.1, N', .inr (.inr (.inr (.inr (fun _ => none))))))]) lv (pc + 3) (.ref q :: st)) : Wk p l e R s m args below meth c Q A g nL n1 n2 ws lv pc (.int n :: st) := by
  intro H locs ls hP hD hS hl
  refine va_newq (D := g.1) (cl := vwCl) X.1 X.2.1 X.2.2.2.1 (X.2.2.2.2.1 _ hm) X.2.2.2.2.2.1.2.1 X.2.2.2.2.2.1.1 hP hD hS X.2.2.2.2.2.2.1 hn hN hby h1 h2 hd (fun q cA H1 hK1 hP hD hS => ?_)
  have e1 := va_nmO (X.2.2.2.2.2.1.1.2 3 (g.2.2.2.2.1, .object "ReelChange$State") rfl).2 rfl
  have e2 := va_nmO (hK1.2 4 (cA, .object RX7) rfl).2 rfl
  have e3 : cA = g.2.2.2.2.1 := Option.some.inj (e2.symm.trans e1)
  subst e3
  exact kk q H1 locs ls hP hD hS hl
theorem k_astq {a n v : Nat} {f : Nat → Option Nat} {vs : List Value} {x : Int32} (ws' : va_W) (X : Cx p s m meth c args cc nL own A g) (hd : decode cc pc = .ok (.aastore, 1)) (q qk : Nat) (he : ws[q]? = some (a, .inl (g.2.2.2.2.1, n, .inr (.inr (.inr (.inr f)))))) (hv : ws[qk]? = some (v, .inr (7, vs))) (hi : vp_in x n) (hw : ws.set q (a, .inl (g.2.2.2.2.1, n, .inr (.inr (.inr (.inr (va_up f x.toNatClampNeg (some v))))))) = ws') (kk : Wk p l e R s m args below meth c Q A g nL n1 n2 ws' lv (pc + 1) st) : Wk p l e R s m args below meth c Q A g nL n1 n2 ws lv pc (.ref v :: .int x :: .ref a :: st) := by
  intro H locs ls hP hD hS hl
  subst hw
  exact va_astq (D := g.1) (cl := vwCl) (r := (RX7, TX7, 6)) X.1 X.2.1 X.2.2.2.2.2.1.1 hP hD hS q 3 qk 7 he rfl hv rfl hi hd (fun H1 locs1 hP hD hS => kk H1 locs1 ls hP hD hS hl)
theorem k_sld {b L : Nat} {xs : Nat → Int32} {x : Int32} (X : Cx p s m meth c args cc nL own A g) (hX : va_X b L xs s s.heap) (hbl : b < s.heap.size) (hbA : ¬ A b) (hd : decode cc pc = .ok (.iaload, 1)) (hi : vp_in x L) (kk : Wk p l e R s m args below meth c Q A g nL n1 n2 ws lv (pc + 1) (.int (xs x.toNatClampNeg) :: st)) : Wk p l e R s m args below meth c Q A g nL n1 n2 ws lv pc (.int x :: .ref b :: st) :=
  fun H locs ls hP hD hS hl => va_sld X.1 X.2.1 hX hbl hbA hS hi hd (kk H locs ls hP hD hS hl)
theorem k_slen {b L : Nat} {xs : Nat → Int32} (X : Cx p s m meth c args cc nL own A g) (hX : va_X b L xs s s.heap) (hbl : b < s.heap.size) (hbA : ¬ A b) (hd : decode cc pc = .ok (.arraylength, 1)) (kk : Wk p l e R s m args below meth c Q A g nL n1 n2 ws lv (pc + 1) (.int (Int32.ofNat L) :: st)) : Wk p l e R s m args below meth c Q A g nL n1 n2 ws lv pc (.ref b :: st) :=
  fun H locs ls hP hD hS hl => va_slen X.1 X.2.1 hX hbl hbA hS hd (kk H locs ls hP hD hS hl)
end KB
