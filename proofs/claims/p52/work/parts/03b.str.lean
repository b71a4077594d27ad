section KS
variable {p : Program} {l : Launch} {e : Env} {R : Room} {s : State} {m : MethodId} {args : Array Value} {below : List Frame} {meth : Method} {c : Code} {Q : State → Prop} {A : Nat → Prop} {g : Gx} {cc : ByteArray} {nL n1 n2 pc : Nat} {own : String} {ws : va_W} {lv : List (Nat × Value)} {st : List Value}
theorem k_sgetC {i a : Nat} {tx : String} (X : Cx p s m meth c args cc nL own A g) (hL : LtS g a tx) (hd : decode cc pc = .ok (.getfield i, 3)) (hm : Cond.fieldLink own i strN "coder" "B" ∈ wsL_law0) (kk : Wk p l e R s m args below meth c Q A g nL n1 n2 ws lv (pc + 3) (.int 0 :: st)) : Wk p l e R s m args below meth c Q A g nL n1 n2 ws lv pc (.ref a :: st) := by
  intro H locs ls hP hD hS hl
  obtain ⟨o, j, hq, rfl⟩ := hL
  exact vk_getf X.1 X.2.1 (X.2.2.2.2.2.2.2.2.2.2 _ hq).2.2.1 hS X.2.2.2.1 (X.2.2.2.2.1 _ hm) (fun x h => h) hd (kk H locs ls hP hD hS hl)
theorem k_sgetV {i a : Nat} {tx : String} (X : Cx p s m meth c args cc nL own A g) (hL : LtS g a tx) (hd : decode cc pc = .ok (.getfield i, 3)) (hm : Cond.fieldLink own i strN "value" "[B" ∈ wsL_law0) (kk : ∀ v : Nat, LtV g v tx → Wk p l e R s m args below meth c Q A g nL n1 n2 ws lv (pc + 3) (.ref v :: st)) : Wk p l e R s m args below meth c Q A g nL n1 n2 ws lv pc (.ref a :: st) := by
  intro H locs ls hP hD hS hl
  obtain ⟨o, j, hq, rfl⟩ := hL
  exact vk_getf X.1 X.2.1 (X.2.2.2.2.2.2.2.2.2.2 _ hq).2.2.2.1 hS X.2.2.2.1 (X.2.2.2.2.1 _ hm) (fun x h => h) hd (kk _ ⟨o, j, hq, rfl⟩ H locs ls hP hD hS hl)
theorem k_svlen {v : Nat} {tx : String} (X : Cx p s m meth c args cc nL own A g) (hL : LtV g v tx) (hd : decode cc pc = .ok (.arraylength, 1)) (kk : Wk p l e R s m args below meth c Q A g nL n1 n2 ws lv (pc + 1) (.int (nI (sBy tx).length) :: st)) : Wk p l e R s m args below meth c Q A g nL n1 n2 ws lv pc (.ref v :: st) := by
  intro H locs ls hP hD hS hl
  obtain ⟨o, j, hq, rfl⟩ := hL
  exact va_tlen X.1 X.2.1 (X.2.2.2.2.2.2.2.2.2.2 _ hq).2.2.2.2 hS rfl hd (kk H locs ls hP hD hS hl)
theorem k_svld {v : Nat} {x : Int32} {tx : String} (X : Cx p s m meth c args cc nL own A g) (hL : LtV g v tx) (hi : vp_in x (sBy tx).length) (hd : decode cc pc = .ok (.baload, 1)) (kk : Wk p l e R s m args below meth c Q A g nL n1 n2 ws lv (pc + 1) (.int ((sBy tx).getD x.toNatClampNeg 0) :: st)) : Wk p l e R s m args below meth c Q A g nL n1 n2 ws lv pc (.int x :: .ref v :: st) := by
  intro H locs ls hP hD hS hl
  obtain ⟨o, j, hq, rfl⟩ := hL
  exact va_tb X.1 X.2.1 (X.2.2.2.2.2.2.2.2.2.2 _ hq).2.2.2.2 hS hi rfl hd (kk H locs ls hP hD hS hl)
theorem k_gcs {i : Nat} (X : Cx p s m meth c args cc nL own A g) (hd : decode cc pc = .ok (.getstatic i, 3)) (hm : Cond.fieldLink own i strN "COMPACT_STRINGS" "Z" ∈ wsL_law0) (kk : Wk p l e R s m args below meth c Q A g nL n1 n2 ws lv (pc + 3) (.int 1 :: st)) : Wk p l e R s m args below meth c Q A g nL n1 n2 ws lv pc st := by
  intro H locs ls hP hD hS hl
  exact va_gets X.1 X.2.1 X.2.2.2.2.2.2.2.2.1 hS X.2.2.2.1 (X.2.2.2.2.1 _ hm) (fun x h => h) hd (kk H locs ls hP hD hS hl)
theorem k_gfm {i : Nat} (X : Cx p s m meth c args cc nL own A g) (hd : decode cc pc = .ok (.getstatic i, 3)) (hm : Cond.fieldLink own i pcN "SIOOBE_FORMATTER" bfD ∈ wsL_law0) (kn : Wk p l e R s m args below meth c Q A g nL n1 n2 ws lv (pc + 3) (.null :: st)) (kk : ∀ b : Nat, Wk p l e R s m args below meth c Q A g nL n1 n2 ws lv (pc + 3) (.ref b :: st)) : Wk p l e R s m args below meth c Q A g nL n1 n2 ws lv pc st := by
  intro H locs ls hP hD hS hl
  obtain ⟨v, hv, hZ⟩ := X.2.2.2.2.2.2.2.2.2.1
  rcases hv with rfl | ⟨b, rfl⟩
  · exact va_gets X.1 X.2.1 hZ hS X.2.2.2.1 (X.2.2.2.2.1 _ hm) (fun x h => h) hd (kn H locs ls hP hD hS hl)
  · exact va_gets X.1 X.2.1 hZ hS X.2.2.2.1 (X.2.2.2.2.1 _ hm) (fun x h => h) hd (kk b H locs ls hP hD hS hl)
theorem k_i2c {x : Int32} (X : Cx p s m meth c args cc nL own A g) (hd : decode cc pc = .ok (.i2c, 1)) (kk : Wk p l e R s m args below meth c Q A g nL n1 n2 ws lv (pc + 1) (.int (x.toUInt32 % 65536).toInt32 :: st)) : Wk p l e R s m args below meth c Q A g nL n1 n2 ws lv pc (.int x :: st) := fun H locs ls hP hD hS hl => lv_i2c X.1 X.2.1 hd rfl (kk H locs ls hP hD hS hl)
theorem k_lookup {dflt : Int} {ps : Array (Int × Int)} {len : Nat} {x : Int32} {off : Int} (tgt : Nat) (X : Cx p s m meth c args cc nL own A g) (hd : decode cc pc = .ok (.lookupswitch dflt ps, len)) (hp : (ps.toList.zip (ps.toList.drop 1)).all (fun (a, next) => a.1 < next.1) = true) (ho : Op.lookupswitch.offset ps.toList dflt x.toInt = off) (ht : (pc : Int) + off = (tgt : Int)) (kk : Wk p l e R s m args below meth c Q A g nL n1 n2 ws lv tgt st) : Wk p l e R s m args below meth c Q A g nL n1 n2 ws lv pc (.int x :: st) := fun H locs ls hP hD hS hl => lv_lookup X.1 X.2.1 hd hp ho ht (kk H locs ls hP hD hS hl)

end KS
section KCL
variable {p : Program} {l : Launch} {e : Env} {R : Room} {s : State} {m : MethodId} {args : Array Value} {below : List Frame} {meth : Method} {c : Code} {Q : State → Prop} {A : Nat → Prop} {g : Gx} {cc : ByteArray} {nL n1 n2 pc : Nat} {own : String} {ws : va_W} {lv : List (Nat × Value)} {st : List Value}
theorem k_callLI {y : MethodName} {b : ByteArray} {nY f lo mc ms i n : Nat} {ret : Option FieldType} {As : List Value} {P : Int32 → va_W → Prop} {C : String} {a : Nat} (X : Cx p s m meth c args cc nL own A g) (wc wr : va_W) (isC isR : List Nat) (hM : cI l g y b nY ret f lo mc ms (.ref a :: As) wc P) (hd : decode cc pc = .ok (.invokevirtual i, 3)) (hm1 : Cond.methodLink own i y ∈ wsL_law0) (hm2 : Cond.instanceMethod y ∈ wsL_law0) (hm3 : Cond.selects C y y ∈ wsL_law0) (hm4 : Cond.initialized C ∈ wsL_law0) (hm5 : Cond.code y b nY ret ∈ wsL_law0) (hC : y.cls = C) {tx : String} (hL : LtS g a tx) (hCs : C = strN) (hy : yOk y n) (hnA : As.length = n) (hf : f + 1 ≤ R.frames) (hlo : 8 + (nY + 11) + lo ≤ R.locals) (hst : (st.map fun v => v.category).sum ≤ 8) (h1 : n1 + mc ≤ R.cells) (h2 : n2 + ms ≤ R.slots)
    (hC1 : isC.filterMap (fun i => ws[i]?) = wc) (hC2 : isC.map (fun i => ws[i]?) = wc.map some) (hC3 : va_nd isC = true) (hR2 : isR.map (fun i => ws[i]?) = wr.map some) (hR3 : va_nd isR = true) (hdis : ∀ i ∈ isR, i ∉ isC)
    (kk : ∀ (r : Int32) (w : va_W), P r w → Wk p l e R s m args below meth c Q A g nL (n1 + mc) (n2 + ms) (wr ++ w) lv (pc + 3) (.int r :: st)) : Wk p l e R s m args below meth c Q A g nL n1 n2 ws lv pc (As.reverse ++ .ref a :: st) := by
  intro H locs ls hP hD hS hl
  obtain ⟨o, jj, hq, hae⟩ := hL
  have hrc : ∃ cell : Cell, H[a]? = some cell ∧ cell.vm.isStatics = false ∧ s.vm.findClass C = some cell.cls := by
    obtain ⟨cell, z1, z2, z3, -⟩ := ((X.2.2.2.2.2.2.2.2.2.2 _ hq).2.1).kept hS.2.1
    rw [hae, hCs]
    exact ⟨cell, z1, z2, z3⟩
  have hPc := hP.sub (ws' := wc) isC hC1
  have hDc := hD.sub (ws' := wc) isC hC3 hC2
  have hFc := va_free (wc := wc) hD hS X.2.2.2.2.2.2.1 isC hC2
  refine va_calli (va_runV (As := As) (rest := st) ⟨X.1, X.2.1, X.2.2.1, X.2.2.2.1, X.2.2.2.2.1⟩ (hM H.size) (cwV n X.2.2.2.2.1 (gV hm1 hm2 hm3 hm4 hm5) rfl rfl rfl ⟨hC, hy⟩ ⟨hf, hlo⟩) ⟨k_blind, hrc, k_pre (ws := ws) X.2.2.2.2.2.1 hPc hDc X.2.2.2.2.2.2.2.2 hS hFc⟩ rfl hnA hl.1 rfl (lv_room hst) hd ⟨h1, h2⟩) hS (fun q _ h => hFc q h) hFc (fun r w t H1 locs1 ht hvm hw hB hz1 hk1 hS1 => ?_)
  obtain ⟨hP1, hD1⟩ := hB
  rw [ht] at hP1
  obtain ⟨hP2, hD2⟩ := va_join (wr := wr) (w1 := w) hP hD isC isR hC2 hR2 hR3 hdis hk1 hFc hP1 hD1
  exact kk r w hw H1 locs1 ls hP2 hD2 hS1 hl

end KCL
/-! intervals of whole numbers -/
abbrev IV (x : Int32) (a b : Int) : Prop := a ≤ x.toInt ∧ x.toInt ≤ b
theorem iv_any (x : Int32) : IV x (-2147483648) 2147483647 := ⟨(rng x).1, by have := (rng x).2; omega⟩
theorem iv_w {x : Int32} {a b c d : Int} (h : IV x a b) (h1 : c ≤ a) (h2 : b ≤ d) : IV x c d := ⟨Int.le_trans h1 h.1, Int.le_trans h.2 h2⟩
theorem iv_e {x y : Int32} {a b : Int} (e : x = y) (h : IV y a b) : IV x a b := by rw [e]; exact h
theorem iv_lt {x y : Int32} (h : x < y) : x.toInt < y.toInt := lt_I.mp h
theorem iv_nlt {x y : Int32} (h : ¬ x < y) : y.toInt ≤ x.toInt := by rw [lt_I] at h; omega
theorem iv_le {x y : Int32} (h : x ≤ y) : x.toInt ≤ y.toInt := le_I.mp h
theorem iv_nle {x y : Int32} (h : ¬ x ≤ y) : y.toInt < x.toInt := by rw [le_I] at h; omega
theorem iv_ltL {x y : Int32} {a b c d b' : Int} (h : x.toInt < y.toInt) (hx : IV x a b) (hy : IV y c d) (e : d - 1 ≤ b') : IV x a b' := ⟨hx.1, by have := hy.2; omega⟩
theorem iv_ltR {x y : Int32} {a b c d c' : Int} (h : x.toInt < y.toInt) (hx : IV x a b) (hy : IV y c d) (e : c' ≤ a + 1) : IV y c' d := ⟨by have := hx.1; omega, hy.2⟩
theorem iv_leL {x y : Int32} {a b c d b' : Int} (h : x.toInt ≤ y.toInt) (hx : IV x a b) (hy : IV y c d) (e : d ≤ b') : IV x a b' := ⟨hx.1, by have := hy.2; omega⟩
theorem iv_leR {x y : Int32} {a b c d c' : Int} (h : x.toInt ≤ y.toInt) (hx : IV x a b) (hy : IV y c d) (e : c' ≤ a) : IV y c' d := ⟨by have := hx.1; omega, hy.2⟩
theorem iv_ltN {x y : Int32} {a b c d : Int} (h : x.toInt < y.toInt) (hx : IV x a b) (hy : IV y c d) (e : d ≤ a) : False := by have := hx.1; have := hy.2; omega
theorem iv_leN {x y : Int32} {a b c d : Int} (h : x.toInt ≤ y.toInt) (hx : IV x a b) (hy : IV y c d) (e : d < a) : False := by have := hx.1; have := hy.2; omega
theorem iv_eqN {x y : Int32} {a b c d : Int} (h : x = y) (hx : IV x a b) (hy : IV y c d) (e : b < c ∨ d < a) : False := by subst h; have := hx; have := hy; omega
theorem iv_eq {x y : Int32} {a : Int} (hx : IV x a a) (hy : IV y a a) : x = y := Int32.toInt_inj.mp (by have := hx; have := hy; omega)
theorem iv_meet {x : Int32} {a b c d : Int} (hx : IV x a b) (hy : IV x c d) {lo hi : Int} (h1 : lo ≤ a ∨ lo ≤ c) (h2 : b ≤ hi ∨ d ≤ hi) : IV x lo hi := by have := hx; have := hy; exact ⟨by omega, by omega⟩
theorem iv_neL {x y : Int32} {a b a' : Int} (h : x ≠ y) (hx : IV x a b) (hy : IV y a a) (e : a' ≤ a + 1) : IV x a' b := by
  have h1 : x.toInt ≠ y.toInt := fun q => h (Int32.toInt_inj.mp q)
  have := hx
  have := hy
  exact ⟨by omega, by omega⟩
theorem iv_neH {x y : Int32} {a b b' : Int} (h : x ≠ y) (hx : IV x a b) (hy : IV y b b) (e : b - 1 ≤ b') : IV x a b' := by
  have h1 : x.toInt ≠ y.toInt := fun q => h (Int32.toInt_inj.mp q)
  have := hx
  have := hy
  exact ⟨by omega, by omega⟩
theorem in_add {x y z : Int32} {a b c d : Int} (e : z = x + y) (hx : IV x a b) (hy : IV y c d) (h1 : -2147483648 ≤ a + c) (h2 : b + d ≤ 2147483647) : z.toInt = x.toInt + y.toInt := by
  have := hx
  have := hy
  rw [e]
  exact addI (by omega) (by omega)
theorem in_sub {x y z : Int32} {a b c d : Int} (e : z = x - y) (hx : IV x a b) (hy : IV y c d) (h1 : -2147483648 ≤ a - d) (h2 : b - c ≤ 2147483647) : z.toInt = x.toInt - y.toInt := by
  have := hx
  have := hy
  rw [e]
  exact subI (by omega) (by omega)
theorem in_mul {x y z : Int32} {k a b : Int} (e : z = x * y) (hk : x.toInt = k) (h0 : 0 ≤ k) (hy : IV y a b) (h1 : -2147483648 ≤ k * a) (h2 : k * b ≤ 2147483647) : z.toInt = k * y.toInt := by
  have q1 : k * a ≤ k * y.toInt := Int.mul_le_mul_of_nonneg_left hy.1 h0
  have q2 : k * y.toInt ≤ k * b := Int.mul_le_mul_of_nonneg_left hy.2 h0
  rw [e, ← hk]
  rw [← hk] at q1 q2 h1 h2
  exact mulI (by omega) (by omega)
theorem in_inc {x z : Int32} {n a b : Int} (e : x + Int32.ofInt n = z) (hn : (Int32.ofInt n).toInt = n) (hx : IV x a b) (h1 : -2147483648 ≤ a + n) (h2 : b + n ≤ 2147483647) : z.toInt = x.toInt + n := by
  have := hx
  rw [← e, addI (by rw [hn]; omega) (by rw [hn]; omega), hn]
theorem iv_in {z : Int32} {a b : Int} {N : Nat} (h : IV z a b) (h1 : 0 ≤ a) (h2 : b < N) : vp_in z N := by
  rw [vp_in_iff]
  have := h
  omega
theorem iv_and {x y z : Int32} {a b : Int} (e : z = x &&& y) (h : IV x a b) (h0 : 0 ≤ a) : IV z 0 b := by
  have h1 : 0 ≤ x.toInt := Int.le_trans h0 h.1
  have h2 : z.toBitVec.toNat ≤ x.toBitVec.toNat := by
    rw [e]
    show (x.toBitVec &&& y.toBitVec).toNat ≤ _
    rw [BitVec.toNat_and]
    exact Nat.and_le_left
  have h3 : x.toInt = (x.toBitVec.toNat : Int) := by
    show x.toBitVec.toInt = _
    have q : 0 ≤ x.toBitVec.toInt := h1
    rw [BitVec.toInt_eq_toNat_cond] at q ⊢
    have := x.toBitVec.isLt
    split at q <;> split <;> omega
  have h4 : z.toInt = (z.toBitVec.toNat : Int) := by
    show z.toBitVec.toInt = _
    have q1 : (x.toBitVec.toNat : Int) < 2147483648 := by rw [← h3]; exact (rng x).2
    rw [BitVec.toInt_eq_toNat_cond]
    split
    · rfl
    · omega
  have := h.2
  exact ⟨by omega, by omega⟩
theorem tn_i {z : Int32} (h : 0 ≤ z.toInt) : (z.toNatClampNeg : Int) = z.toInt := by
  show ((z.toInt.toNat : Nat) : Int) = z.toInt
  omega
theorem tdv (x y : Int) (hx : 0 ≤ x) (hy : 0 < y) : 0 ≤ x - x.tdiv y * y ∧ x - x.tdiv y * y < y := by
  have h1 : x.tmod y = x - x.tdiv y * y := by rw [Int.tmod_def, Int.mul_comm]
  rw [← h1]
  exact ⟨Int.tmod_nonneg _ hx, Int.tmod_lt_of_pos _ hy⟩
theorem iv_rem {x y z : Int32} {a b k : Int} (e : z = x - x / y * y) (hx : IV x a b) (h0 : 0 ≤ a) (hk : y.toInt = k) (hp : 0 < k) : IV z 0 (k - 1) := by
  have h1 : 0 ≤ x.toInt := Int.le_trans h0 hx.1
  obtain ⟨t1, t2⟩ := tdv x.toInt k h1 hp
  have t3 : 0 ≤ x.toInt.tdiv k := Int.tdiv_nonneg h1 (by omega)
  have t4 : x.toInt.tdiv k * k ≤ x.toInt := by omega
  have t5 : x.toInt.tdiv k ≤ x.toInt.tdiv k * k := by
    have := Int.mul_le_mul_of_nonneg_left (show (1 : Int) ≤ k by omega) t3
    omega
  have r1 := rng x
  have d1 : (x / y).toInt = x.toInt.tdiv k := by
    rw [Int32.toInt_div, hk]
    exact bm32 (by omega) (by omega)
  have t6 : 0 ≤ x.toInt.tdiv k * k := Int.mul_nonneg t3 (by omega)
  have d2 : (x / y * y).toInt = x.toInt.tdiv k * k := by
    rw [mulI (by rw [d1, hk]; omega) (by rw [d1, hk]; omega), d1, hk]
  have d3 : z.toInt = x.toInt - x.toInt.tdiv k * k := by
    rw [e, subI (by rw [d2]; omega) (by rw [d2]; omega), d2]
  rw [IV, d3]
  exact ⟨t1, by omega⟩
theorem strL_len : ∀ q ∈ strL, (sBy q.2.2).length ≤ 8 := by decide +kernel
theorem sl_iv {g : Gx} {z : Int32} {v : Nat} {tx : String} (e : z = nI (sBy tx).length) (h : LtV g v tx) : IV z 0 8 := by
  obtain ⟨o, i, hq, -⟩ := h
  have h1 : (sBy tx).length ≤ 8 := strL_len _ hq
  rw [IV, e, nI_toInt (by omega)]
  omega
theorem ls_len {g : Gx} {a : Nat} {tx : String} (h : LtS g a tx) : (sBy tx).length ≤ 8 := by
  obtain ⟨o, i, hq, -⟩ := h
  exact strL_len _ hq
theorem lv_len {g : Gx} {a : Nat} {tx : String} (h : LtV g a tx) : (sBy tx).length ≤ 8 := by
  obtain ⟨o, i, hq, -⟩ := h
  exact strL_len _ hq
theorem sl_in {x : Int32} {n : Nat} {a b : Int} (h0 : IV x a b) (ha : 0 ≤ a) (h1 : x < nI n) (hn : n ≤ 8) : vp_in x n := by
  rw [vp_in_iff]
  rw [lt_I, nI_toInt (by omega)] at h1
  have := h0
  omega
theorem zn_b {x : Int32} (h : IV x 0 1) : narrow .boolean (.int x) = .int x := by
  have := h
  rcases (show x.toInt = 0 ∨ x.toInt = 1 by omega) with q | q
  · have e : x = 0 := Int32.toInt_inj.mp q
    rw [e]
    rfl
  · have e : x = 1 := Int32.toInt_inj.mp q
    rw [e]
    rfl
