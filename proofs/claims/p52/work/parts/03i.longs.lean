section KL
variable {p : Program} {l : Launch} {e : Env} {R : Room} {s : State} {m : MethodId} {args : Array Value} {below : List Frame} {meth : Method} {c : Code} {Q : State → Prop} {A : Nat → Prop} {g : Gx} {cc : ByteArray} {nL n1 n2 pc : Nat} {own : String} {ws : va_W} {lv : List (Nat × Value)} {st : List Value}
theorem k_ladd {x y : Int64} (X : Cx p s m meth c args cc nL own A g) (hd : decode cc pc = .ok (.ladd, 1)) (kk : Wk p l e R s m args below meth c Q A g nL n1 n2 ws lv (pc + 1) (.long (x + y) :: st)) : Wk p l e R s m args below meth c Q A g nL n1 n2 ws lv pc (.long y :: .long x :: st) := fun H locs ls hP hD hS hl => lv_ladd X.1 X.2.1 hd (kk H locs ls hP hD hS hl)
theorem k_lsub {x y : Int64} (X : Cx p s m meth c args cc nL own A g) (hd : decode cc pc = .ok (.lsub, 1)) (kk : Wk p l e R s m args below meth c Q A g nL n1 n2 ws lv (pc + 1) (.long (x - y) :: st)) : Wk p l e R s m args below meth c Q A g nL n1 n2 ws lv pc (.long y :: .long x :: st) := fun H locs ls hP hD hS hl => lv_lsub X.1 X.2.1 hd (kk H locs ls hP hD hS hl)
theorem k_lmul {x y : Int64} (X : Cx p s m meth c args cc nL own A g) (hd : decode cc pc = .ok (.lmul, 1)) (kk : Wk p l e R s m args below meth c Q A g nL n1 n2 ws lv (pc + 1) (.long (x * y) :: st)) : Wk p l e R s m args below meth c Q A g nL n1 n2 ws lv pc (.long y :: .long x :: st) := fun H locs ls hP hD hS hl => lv_lmul X.1 X.2.1 hd (kk H locs ls hP hD hS hl)
theorem k_ldiv {x y : Int64} (X : Cx p s m meth c args cc nL own A g) (hd : decode cc pc = .ok (.ldiv, 1)) (h0 : ¬ y = 0) (kk : Wk p l e R s m args below meth c Q A g nL n1 n2 ws lv (pc + 1) (.long (x / y) :: st)) : Wk p l e R s m args below meth c Q A g nL n1 n2 ws lv pc (.long y :: .long x :: st) := fun H locs ls hP hD hS hl => lv_ldiv X.1 X.2.1 hd h0 (kk H locs ls hP hD hS hl)
theorem k_lrem {x y : Int64} (X : Cx p s m meth c args cc nL own A g) (hd : decode cc pc = .ok (.lrem, 1)) (h0 : ¬ y = 0) (kk : Wk p l e R s m args below meth c Q A g nL n1 n2 ws lv (pc + 1) (.long (x - x / y * y) :: st)) : Wk p l e R s m args below meth c Q A g nL n1 n2 ws lv pc (.long y :: .long x :: st) := fun H locs ls hP hD hS hl => lv_lrem X.1 X.2.1 hd h0 (kk H locs ls hP hD hS hl)
theorem k_lshl {x : Int64} {y : Int32} (X : Cx p s m meth c args cc nL own A g) (hd : decode cc pc = .ok (.lshl, 1)) (kk : Wk p l e R s m args below meth c Q A g nL n1 n2 ws lv (pc + 1) (.long (x <<< (y.toInt64 &&& 63)) :: st)) : Wk p l e R s m args below meth c Q A g nL n1 n2 ws lv pc (.int y :: .long x :: st) := fun H locs ls hP hD hS hl => lv_lshl X.1 X.2.1 hd rfl (kk H locs ls hP hD hS hl)
theorem k_nmL {x : Int64} (kk : ∀ y : Int64, y = x → Wk p l e R s m args below meth c Q A g nL n1 n2 ws lv pc (.long y :: st)) : Wk p l e R s m args below meth c Q A g nL n1 n2 ws lv pc (.long x :: st) := kk x rfl
theorem k_lstore_n {k : Fin 4} {x : Int64} (lv' : List (Nat × Value)) (X : Cx p s m meth c args cc nL own A g) (hd : decode cc pc = .ok (.lstore_n k, 1)) (hn : (k : Nat) + 1 < nL) (hv : ((k : Nat), Value.long x) :: lv.filter (fun q => !(q.1 == (k : Nat)) && (!(q.1 == (k : Nat) + 1) && !(q.1 + 1 == (k : Nat) && q.2.category == 2))) = lv') (kk : Wk p l e R s m args below meth c Q A g nL n1 n2 ws lv' (pc + 1) st) : Wk p l e R s m args below meth c Q A g nL n1 n2 ws lv pc (.long x :: st) := fun H locs ls hP hD hS hl => lv_lstore_n X.1 X.2.1 hd rfl hl hn hv (fun ls hl => kk H locs ls hP hD hS hl)
theorem k_lstore {i : Nat} {x : Int64} (lv' : List (Nat × Value)) (X : Cx p s m meth c args cc nL own A g) (hd : decode cc pc = .ok (.lstore i, 2)) (hn : i + 1 < nL) (hv : (i, Value.long x) :: lv.filter (fun q => !(q.1 == i) && (!(q.1 == i + 1) && !(q.1 + 1 == i && q.2.category == 2))) = lv') (kk : Wk p l e R s m args below meth c Q A g nL n1 n2 ws lv' (pc + 2) st) : Wk p l e R s m args below meth c Q A g nL n1 n2 ws lv pc (.long x :: st) := fun H locs ls hP hD hS hl => lv_lstore X.1 X.2.1 hd hl hn hv (fun ls hl => kk H locs ls hP hD hS hl)
theorem k_lald {a n : Nat} {f : Nat → Int64} {x : Int32} (X : Cx p s m meth c args cc nL own A g) (hd : decode cc pc = .ok (.laload, 1)) (q : Nat) (he : ws[q]? = some (a, .inl (g.2.2.2.1, n, .inr (.inl f)))) (hi : vp_in x n) (kk : Wk p l e R s m args below meth c Q A g nL n1 n2 ws lv (pc + 1) (.long (f x.toNatClampNeg) :: st)) : Wk p l e R s m args below meth c Q A g nL n1 n2 ws lv pc (.int x :: .ref a :: st) :=
  fun H locs ls hP hD hS hl => va_lald (D := g.1) (cl := vwCl) X.1 X.2.1 X.2.2.2.2.2.1.1 hP q 2 he rfl hi hd (kk H locs ls hP hD hS hl)
theorem k_last {a n : Nat} {f : Nat → Int64} {x : Int32} {v : Int64} (ws' : va_W) (X : Cx p s m meth c args cc nL own A g) (hd : decode cc pc = .ok (.lastore, 1)) (q : Nat) (he : ws[q]? = some (a, .inl (g.2.2.2.1, n, .inr (.inl f)))) (hi : vp_in x n) (hw : ws.set q (a, .inl (g.2.2.2.1, n, .inr (.inl (vp_updL f x.toNatClampNeg v)))) = ws') (kk : Wk p l e R s m args below meth c Q A g nL n1 n2 ws' lv (pc + 1) st) : Wk p l e R s m args below meth c Q A g nL n1 n2 ws lv pc (.long v :: .int x :: .ref a :: st) := by
  intro H locs ls hP hD hS hl
  subst hw
  exact va_last (D := g.1) (cl := vwCl) X.1 X.2.1 X.2.2.2.2.2.1.1 hP hD hS q 2 he rfl hi hd (fun H1 locs1 hP hD hS => kk H1 locs1 ls hP hD hS hl)
end KL
theorem lgnz0 {x : Int64} {z : Int32} (e : z = lg_cmp x 0) (h : ¬ z ≤ 0) : ¬ x = 0 := by
  intro q
  subst q
  subst e
  exact h (by decide)
theorem lgnz1 {x : Int64} {z : Int32} (e : z = lg_cmp x 1) (h : ¬ z ≤ 0) : ¬ x = 0 := by
  intro q
  subst q
  subst e
  exact h (by decide)
theorem in8 {x : Int32} (h : ¬ 8 ≤ x) (h0 : ¬ x < 0) : vp_in x 8 := by
  rw [vp_in_iff]
  rw [le_I] at h
  rw [lt_I, zI] at h0
  have e8 : (8 : Int32).toInt = 8 := by decide
  omega
theorem up0 {k z : Int32} {b : Int32} (h0 : ¬ k < 0) (h : ¬ b ≤ k) (e : k + Int32.ofInt 1 = z) : ¬ z < 0 := by
  rw [lt_I, zI] at *
  rw [le_I] at h
  have h1 := rng b
  have e1 : Int32.ofInt 1 = 1 := by decide
  have e2 : z.toInt = k.toInt + 1 := by rw [← e, e1, addI (by rw [oneI]; omega) (by rw [oneI]; omega), oneI]
  omega
theorem mu_le {k n z : Int32} (hn : n.toInt < 2147483647) (h : ¬ n < k) (e : k + Int32.ofInt 1 = z) : (n.toInt + 1 - z.toInt).toNat < (n.toInt + 1 - k.toInt).toNat := by
  rw [lt_I] at h
  have h2 := rng k
  have e1 : Int32.ofInt 1 = 1 := by decide
  have e2 : z.toInt = k.toInt + 1 := by rw [← e, e1, addI (by rw [oneI]; omega) (by rw [oneI]; omega), oneI]
  omega
theorem mu_dn {k z : Int32} (h : ¬ k ≤ 0) (e : k + Int32.ofInt (-1) = z) : z.toInt.toNat < k.toInt.toNat := by
  rw [le_I, zI] at h
  have h1 := rng k
  have e1 : (Int32.ofInt (-1)).toInt = -1 := by decide
  have e2 : z.toInt = k.toInt - 1 := by rw [← e, addI (by rw [e1]; omega) (by rw [e1]; omega), e1]; omega
  omega
theorem mu_ltE {k b z B : Int32} (h : ¬ b ≤ k) (eb : b = B) (e : k + Int32.ofInt 1 = z) : (B.toInt - z.toInt).toNat < (B.toInt - k.toInt).toNat := by
  subst eb
  exact mu_lt h e
theorem sh_le : ∀ j : Nat, j < 32 → ((1 : Int32) <<< nI j).toInt ≤ 1073741824 := by decide
theorem mu_4 {k b z x : Int32} (h : ¬ b ≤ k) (eb : b = 1 <<< (x &&& 31)) (e : k + Int32.ofInt 4 = z) : (((1 : Int32) <<< (x &&& 31)).toInt - z.toInt).toNat < (((1 : Int32) <<< (x &&& 31)).toInt - k.toInt).toNat := by
  obtain ⟨j, hj, ej⟩ := pk_andE x (m := 31) 5 (by decide)
  subst eb
  rw [ej] at h ⊢
  have hb := sh_le j hj
  generalize ((1 : Int32) <<< nI j) = B at *
  rw [le_I] at h
  have h1 := rng k
  have e1 : (Int32.ofInt 4).toInt = 4 := by decide
  have e2 : z.toInt = k.toInt + 4 := by rw [← e, addI (by rw [e1]; omega) (by rw [e1]; omega), e1]
  omega
