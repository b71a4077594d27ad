set_option maxRecDepth 100000
set_option maxHeartbeats 4000000
/-! numbers, and what a Table is -/
theorem bm32 {z : Int} (h1 : -2147483648 ≤ z) (h2 : z < 2147483648) : z.bmod (2 ^ 32) = z := by
  unfold Int.bmod
  have e : ((2 ^ 32 : Nat) : Int) = 4294967296 := by decide
  rw [e]
  dsimp only
  split <;> omega
theorem addI {x y : Int32} (h1 : -2147483648 ≤ x.toInt + y.toInt) (h2 : x.toInt + y.toInt < 2147483648) : (x + y).toInt = x.toInt + y.toInt := by
  rw [Int32.toInt_add]; exact bm32 h1 h2
theorem subI {x y : Int32} (h1 : -2147483648 ≤ x.toInt - y.toInt) (h2 : x.toInt - y.toInt < 2147483648) : (x - y).toInt = x.toInt - y.toInt := by
  rw [Int32.toInt_sub]; exact bm32 h1 h2
theorem mulI {x y : Int32} (h1 : -2147483648 ≤ x.toInt * y.toInt) (h2 : x.toInt * y.toInt < 2147483648) : (x * y).toInt = x.toInt * y.toInt := by
  rw [Int32.toInt_mul]; exact bm32 h1 h2
theorem lt_I {x y : Int32} : x < y ↔ x.toInt < y.toInt := Int32.lt_iff_toInt_lt
theorem le_I {x y : Int32} : x ≤ y ↔ x.toInt ≤ y.toInt := Int32.le_iff_toInt_le
theorem rng (x : Int32) : -2147483648 ≤ x.toInt ∧ x.toInt < 2147483648 := ⟨Int32.le_toInt x, Int32.toInt_lt x⟩
theorem zI : (0 : Int32).toInt = 0 := by decide
theorem oneI : (1 : Int32).toInt = 1 := by decide
theorem mu_lt {k n z : Int32} (h : ¬ n ≤ k) (e : k + Int32.ofInt 1 = z) : (n.toInt - z.toInt).toNat < (n.toInt - k.toInt).toNat := by
  rw [le_I] at h
  have h1 := rng n
  have h2 := rng k
  have e1 : Int32.ofInt 1 = 1 := by decide
  have e2 : z.toInt = k.toInt + 1 := by rw [← e, e1, addI (by rw [oneI]; omega) (by rw [oneI]; omega), oneI]
  omega
/-- a table of R rows and V columns over N cells -/
def TbOk (R V : Int32) (N : Nat) : Prop := 0 ≤ R.toInt ∧ 0 ≤ V.toInt ∧ R.toInt * V.toInt = N ∧ N < 2147483648
theorem tb_in {R V row col z z1 : Int32} {N : Nat} (hT : TbOk R V N) (h1 : ¬ row < 0) (h2 : ¬ R ≤ row) (h3 : ¬ col < 0) (h4 : col < V) (e2 : z = z1 + col) (e1 : z1 = row * V) : vp_in z N := by
  obtain ⟨t1, t2, t3, t4⟩ := hT
  rw [lt_I, zI] at h1 h3
  rw [le_I] at h2
  rw [lt_I] at h4
  have m1 : (row.toInt + 1) * V.toInt ≤ R.toInt * V.toInt := Int.mul_le_mul_of_nonneg_right (by omega) t2
  have m2 : 0 ≤ row.toInt * V.toInt := Int.mul_nonneg (by omega) t2
  rw [Int.add_mul, Int.one_mul, t3] at m1
  generalize hm : row.toInt * V.toInt = mm at m1 m2
  have a1 : z1.toInt = mm := by rw [e1, mulI (by rw [hm]; omega) (by rw [hm]; omega), hm]
  have a2 : z.toInt = mm + col.toInt := by rw [e2, addI (by rw [a1]; omega) (by rw [a1]; omega), a1]
  rw [vp_in_iff]
  omega
noncomputable def tbAt (R V : Int32) (f : Nat → Int32) (row col : Int32) : Int32 := if row < 0 ∨ R ≤ row ∨ col < 0 ∨ ¬ col < V then 0 else f (row * V + col).toNatClampNeg
noncomputable def tbPut (R V : Int32) (f : Nat → Int32) (row col v : Int32) : Nat → Int32 := if row < 0 ∨ R ≤ row ∨ col < 0 ∨ ¬ col < V then f else upd f (row * V + col).toNatClampNeg v
theorem tbk_8_3 : TbOk 8 3 24 := by unfold TbOk; decide
theorem tbk_12_3 : TbOk 12 3 36 := by unfold TbOk; decide
theorem tbk_6_3 : TbOk 6 3 18 := by unfold TbOk; decide
theorem tbk_8_2 : TbOk 8 2 16 := by unfold TbOk; decide
theorem tbk_1_6 : TbOk 1 6 6 := by unfold TbOk; decide
theorem tbk_4_1 : TbOk 4 1 4 := by unfold TbOk; decide
theorem tbk_4_3 : TbOk 4 3 12 := by unfold TbOk; decide
theorem tbk_1_3 : TbOk 1 3 3 := by unfold TbOk; decide
theorem tbk_6_2 : TbOk 6 2 12 := by unfold TbOk; decide
theorem tbk_8_10 : TbOk 8 10 80 := by unfold TbOk; decide
theorem tbk_8_1 : TbOk 8 1 8 := by unfold TbOk; decide
theorem tbk_256_1 : TbOk 256 1 256 := by unfold TbOk; decide
theorem tbk_16_2 : TbOk 16 2 32 := by unfold TbOk; decide
theorem nz_ms {x z : Int32} (h : ¬ x < 0) (e : z = x + 1) : ¬ z = 0 := by
  intro q
  rw [lt_I, zI] at h
  have h1 := rng x
  have h2 : (x + 1).toInt = 0 := by rw [← e, q]; exact zI
  rw [Int32.toInt_add, oneI] at h2
  unfold Int.bmod at h2
  have e2 : ((2 ^ 32 : Nat) : Int) = 4294967296 := by decide
  rw [e2] at h2
  dsimp only at h2
  split at h2 <;> omega
theorem mx0 {x z : Int32} (e : z = if 0 < x then x else 0) : ¬ z < 0 := by
  rw [e]
  split
  · rename_i h
    rw [lt_I, zI] at *
    omega
  · decide
section KC
variable {p : Program} {l : Launch} {e : Env} {R : Room} {s : State} {m : MethodId} {args : Array Value} {below : List Frame} {meth : Method} {c : Code} {Q : State → Prop} {A : Nat → Prop} {g : Gx} {cc : ByteArray} {nL n1 n2 pc : Nat} {own : String} {ws : va_W} {lv : List (Nat × Value)} {st : List Value}
theorem k_ifnull {a : Nat} {off : Int} (X : Cx p s m meth c args cc nL own A g) (hd : decode cc pc = .ok (.ifnull off, 3)) (kk : Wk p l e R s m args below meth c Q A g nL n1 n2 ws lv (pc + 3) st) : Wk p l e R s m args below meth c Q A g nL n1 n2 ws lv pc (.ref a :: st) := fun H locs ls hP hD hS hl => lv_ifnull X.1 X.2.1 hd (kk H locs ls hP hD hS hl)
theorem k_ifnonnull {a : Nat} {off : Int} (tgt : Nat) (X : Cx p s m meth c args cc nL own A g) (hd : decode cc pc = .ok (.ifnonnull off, 3)) (ht : (pc : Int) + off = (tgt : Int)) (kk : Wk p l e R s m args below meth c Q A g nL n1 n2 ws lv tgt st) : Wk p l e R s m args below meth c Q A g nL n1 n2 ws lv pc (.ref a :: st) := fun H locs ls hP hD hS hl => lv_ifnonnull X.1 X.2.1 hd ht (kk H locs ls hP hD hS hl)
theorem k_ineg {x : Int32} (X : Cx p s m meth c args cc nL own A g) (hd : decode cc pc = .ok (.ineg, 1)) (kk : Wk p l e R s m args below meth c Q A g nL n1 n2 ws lv (pc + 1) (.int (-x) :: st)) : Wk p l e R s m args below meth c Q A g nL n1 n2 ws lv pc (.int x :: st) := fun H locs ls hP hD hS hl => lv_ineg X.1 X.2.1 hd (kk H locs ls hP hD hS hl)
theorem k_copyi {i a0 a n0 m0 : Nat} {f h : Nat → Int32} {sp dp n : Int32} (ws' : va_W) (X : Cx p s m meth c args cc nL own A g) (hd : decode cc pc = .ok (.invokestatic i, 3)) (hm1 : Cond.methodLink own i arraycopyName ∈ wsL_law0) (hm2 : Cond.native arraycopyName ∈ wsL_law0) (hm3 : Cond.static arraycopyName ∈ wsL_law0) (hm4 : Cond.initialized "java/lang/System" ∈ wsL_law0) (q0 q1 : Nat) (ha0 : ws[q0]? = some (a0, .inl (g.2.2.1, n0, .inl f))) (ha1 : ws[q1]? = some (a, .inl (g.2.2.1, m0, .inl h))) (h1 : ¬ sp < 0) (h2 : ¬ dp < 0) (h3 : ¬ n < 0) (h4 : sp.toNatClampNeg + n.toNatClampNeg ≤ n0) (h5 : dp.toNatClampNeg + n.toNatClampNeg ≤ m0) (hf : 1 ≤ R.frames) (hlo : (st.map fun v => v.category).sum + (nativeFrameWords "java/lang/System" "arraycopy" 5 + 11) ≤ R.locals) (hw : ws.set q1 (a, .inl (g.2.2.1, m0, .inl (va_cpy f h sp.toNatClampNeg dp.toNatClampNeg n.toNatClampNeg))) = ws') (kk : Wk p l e R s m args below meth c Q A g nL n1 n2 ws' lv (pc + 3) st) : Wk p l e R s m args below meth c Q A g nL n1 n2 ws lv pc (.int n :: .int dp :: .ref a :: .int sp :: .ref a0 :: st) := by
  intro H locs ls hP hD hS hl
  subst hw
  exact va_copyi (D := g.1) (cl := vwCl) (ty := .int) X.1 X.2.1 (by rw [X.2.2.1]; exact hl.1.symm) X.2.2.2.1 (X.2.2.2.2.1 _ hm1) (X.2.2.2.2.1 _ hm2) (X.2.2.2.2.1 _ hm3) (X.2.2.2.2.1 _ hm4) X.2.2.2.2.2.1.1 hP hD hS q0 q1 1 1 ha0 ha1 rfl rfl rfl h1 h2 h3 h4 h5 (fun _ _ => rfl) hf hlo hd (fun H1 locs1 hP hD hS => kk H1 locs1 ls hP hD hS hl)
theorem k_mabs {i : Nat} {x : Int32} (X : Cx p s m meth c args cc nL own A g) (hd : decode cc pc = .ok (.invokestatic i, 3)) (hm : Cond.methodLink own i Lib.Math.abs.name ∈ wsL_law0) (hm2 : Cond.static Lib.Math.abs.name ∈ wsL_law0) (hm3 : Cond.initialized "java/lang/Math" ∈ wsL_law0) (hm4 : Cond.code Lib.Math.abs.name Lib.Math.abs.code 1 (some .int) ∈ wsL_law0) (hf : 1 ≤ R.frames) (hlo : (st.map fun v => v.category).sum + 13 ≤ R.locals) (h1 : n1 ≤ R.cells) (h2 : n2 ≤ R.slots) (kk : Wk p l e R s m args below meth c Q A g nL n1 n2 ws lv (pc + 3) (.int (if 0 ≤ x then x else 0 - x) :: st)) : Wk p l e R s m args below meth c Q A g nL n1 n2 ws lv pc (.int x :: st) :=
  fun H locs ls hP hD hS hl => va_mabs X.1 X.2.1 (by rw [X.2.2.1]; exact hl.1.symm) X.2.2.2.1 (X.2.2.2.2.1 _ hm) (X.2.2.2.2.1 _ hm2) (X.2.2.2.2.1 _ hm3) (X.2.2.2.2.1 _ hm4) hf hlo h1 h2 hd (kk H locs ls hP hD hS hl)
end KC

section KS
variable {p : Program} {l : Launch} {e : Env} {R : Room} {s : State} {m : MethodId} {args : Array Value} {below : List Frame} {meth : Method} {c : Code} {Q : State → Prop} {A : Nat → Prop} {g : Gx} {cc : ByteArray} {nL n1 n2 pc : Nat} {own : String} {ws : va_W} {lv : List (Nat × Value)} {st : List Value}
theorem k_sgetC {i a : Nat} {tx : String} (X : Cx p s m meth c args cc nL own A g) (hL : LtS g a tx) (hd : decode cc pc = .ok (.getfield i, 3)) (hm : Cond.fieldLink own i strN "coder" "B" ∈ wsL_law0) (kk : Wk p l e R s m args below meth c Q A g nL n1 n2 ws lv (pc + 3) (.int 0 :: st)) : Wk p l e R s m args below meth c Q A g nL n1 n2 ws lv pc (.ref a :: st) := by
  intro H locs ls hP hD hS hl
  obtain ⟨o, j, hq, rfl⟩ := hL
  exact vk_getf X.1 X.2.1 (X.2.2.2.2.2.2.2.2.2.2 _ hq).2.2.1 hS X.2.2.2.1 (X.2.2.2.2.1 _ hm) (fun x h => h) hd (kk H locs ls hP hD hS hl)
theorem k_sgetV {i a : Nat} {tx : String} (X : Cx p s m meth c args cc nL own A g) (hL : LtS g a tx) (hd : decode cc pc = .ok (.getfield i, 3)) (hm : Cond.fieldLink own i strN "value" "[B" ∈ wsL_law0) (kk : ∀ v : Nat, LtV g v tx → Wk p l e R s m args below meth c Q A g nL n1 n2 ws lv (pc + 3) (.ref v :: st)) : Wk p l e R s m args below meth c Q A g nL n1 n2 ws lv pc (.ref a :: st) := by
  intro H locs ls hP hD hS hl
  obtain ⟨o, j, hq, rfl⟩ := hL
  exact vk_getf X.1 X.2.1 (X.2.2.2.2.2.2.2.2.2.2 _ hq).2.2.2.1 hS X.2.2.2.1 (X.2.2.2.2.1 _ hm) (fun x h => h) hd (kk _ ⟨o, j, hq, rfl⟩ H locs ls hP hD hS hl)
theorem k_svlen {v : Nat} {tx : String} (X : Cx p s m meth c args cc nL own A g) (hL : LtV g v tx) (hd : decode cc pc = .ok (.arraylength, 1)) (kk : Wk p l e R s m args below meth c Q A g nL n1 n2 ws lv (pc + 1) (.int (nI (sBy tx).length) :: st)) : Wk p l e R s m args below meth c Q A g nL n1 n2 ws lv pc (.ref v :: st) := by
  intro H locs ls hP hD hS hl
  obtain ⟨o, j, hq, rfl⟩ := hL
  exact va_tlen X.1 X.2.1 (X.2.2.2.2.2.2.2.2.2.2 _ hq).2.2.2.2 hS rfl hd (kk H locs ls hP hD hS hl)
theorem k_svld {v : Nat} {x : Int32} {tx : String} (X : Cx p s m meth c args cc nL own A g) (hL : LtV g v tx) (hi : vp_in x (sBy tx).length) (hd : decode cc pc = .ok (.baload, 1)) (kk : Wk p l e R s m args below meth c Q A g nL n1 n2 ws lv (pc + 1) (.int ((sBy tx).getD x.toNatClampNeg 0) :: st)) : Wk p l e R s m args below meth c Q A g nL n1 n2 ws lv pc (.int x :: .ref v :: st) := by
  intro H locs ls hP hD hS hl
  obtain ⟨o, j, hq, rfl⟩ := hL
  exact va_tb X.1 X.2.1 (X.2.2.2.2.2.2.2.2.2.2 _ hq).2.2.2.2 hS hi rfl hd (kk H locs ls hP hD hS hl)
theorem k_gcs {i : Nat} (X : Cx p s m meth c args cc nL own A g) (hd : decode cc pc = .ok (.getstatic i, 3)) (hm : Cond.fieldLink own i strN "COMPACT_STRINGS" "Z" ∈ wsL_law0) (kk : Wk p l e R s m args below meth c Q A g nL n1 n2 ws lv (pc + 3) (.int 1 :: st)) : Wk p l e R s m args below meth c Q A g nL n1 n2 ws lv pc st := by
  intro H locs ls hP hD hS hl
  exact va_gets X.1 X.2.1 X.2.2.2.2.2.2.2.2.1 hS X.2.2.2.1 (X.2.2.2.2.1 _ hm) (fun x h => h) hd (kk H locs ls hP hD hS hl)
theorem k_gfm {i : Nat} (X : Cx p s m meth c args cc nL own A g) (hd : decode cc pc = .ok (.getstatic i, 3)) (hm : Cond.fieldLink own i pcN "SIOOBE_FORMATTER" bfD ∈ wsL_law0) (kn : Wk p l e R s m args below meth c Q A g nL n1 n2 ws lv (pc + 3) (.null :: st)) (kk : ∀ b : Nat, Wk p l e R s m args below meth c Q A g nL n1 n2 ws lv (pc + 3) (.ref b :: st)) : Wk p l e R s m args below meth c Q A g nL n1 n2 ws lv pc st := by
  intro H locs ls hP hD hS hl
  obtain ⟨v, hv, hZ⟩ := X.2.2.2.2.2.2.2.2.2.1
  rcases hv with rfl | ⟨b, rfl⟩
  · exact va_gets X.1 X.2.1 hZ hS X.2.2.2.1 (X.2.2.2.2.1 _ hm) (fun x h => h) hd (kn H locs ls hP hD hS hl)
  · exact va_gets X.1 X.2.1 hZ hS X.2.2.2.1 (X.2.2.2.2.1 _ hm) (fun x h => h) hd (kk b H locs ls hP hD hS hl)
theorem k_i2c {x : Int32} (X : Cx p s m meth c args cc nL own A g) (hd : decode cc pc = .ok (.i2c, 1)) (kk : Wk p l e R s m args below meth c Q A g nL n1 n2 ws lv (pc + 1) (.int (x.toUInt32 % 65536).toInt32 :: st)) : Wk p l e R s m args below meth c Q A g nL n1 n2 ws lv pc (.int x :: st) := fun H locs ls hP hD hS hl => lv_i2c X.1 X.2.1 hd rfl (kk H locs ls hP hD hS hl)
theorem k_lookup {dflt : Int} {ps : Array (Int × Int)} {len : Nat} {x : Int32} {off : Int} (tgt : Nat) (X : Cx p s m meth c args cc nL own A g) (hd : decode cc pc = .ok (.lookupswitch dflt ps, len)) (hp : (ps.toList.zip (ps.toList.drop 1)).all (fun (a, next) => a.1 < next.1) = true) (ho : Op.lookupswitch.offset ps.toList dflt x.toInt = off) (ht : (pc : Int) + off = (tgt : Int)) (kk : Wk p l e R s m args below meth c Q A g nL n1 n2 ws lv tgt st) : Wk p l e R s m args below meth c Q A g nL n1 n2 ws lv pc (.int x :: st) := fun H locs ls hP hD hS hl => lv_lookup X.1 X.2.1 hd hp ho ht (kk H locs ls hP hD hS hl)

end KS
section KCL
variable {p : Program} {l : Launch} {e : Env} {R : Room} {s : State} {m : MethodId} {args : Array Value} {below : List Frame} {meth : Method} {c : Code} {Q : State → Prop} {A : Nat → Prop} {g : Gx} {cc : ByteArray} {nL n1 n2 pc : Nat} {own : String} {ws : va_W} {lv : List (Nat × Value)} {st : List Value}
theorem k_callLI {y : MethodName} {b : ByteArray} {nY f lo mc ms i n : Nat} {ret : Option FieldType} {As : List Value} {P : Int32 → va_W → Prop} {C : String} {a : Nat} (X : Cx p s m meth c args cc nL own A g) (wc wr : va_W) (isC isR : List Nat) (hM : cI l g y b nY ret f lo mc ms (.ref a :: As) wc P) (hd : decode cc pc = .ok (.invokevirtual i, 3)) (hm1 : Cond.methodLink own i y ∈ wsL_law0) (hm2 : Cond.instanceMethod y ∈ wsL_law0) (hm3 : Cond.selects C y y ∈ wsL_law0) (hm4 : Cond.initialized C ∈ wsL_law0) (hm5 : Cond.code y b nY ret ∈ wsL_law0) (hC : y.cls = C) {tx : String} (hL : LtS g a tx) (hCs : C = strN) (hy : yOk y n) (hnA : As.length = n) (hf : f + 1 ≤ R.frames) (hlo : 8 + (nY + 11) + lo ≤ R.locals) (hst : (st.map fun v => v.category).sum ≤ 8) (h1 : n1 + mc ≤ R.cells) (h2 : n2 + ms ≤ R.slots)
    (hC1 : isC.filterMap (fun i => ws[i]?) = wc) (hC2 : isC.map (fun i => ws[i]?) = wc.map some) (hC3 : va_nd isC = true) (hR2 : isR.map (fun i => ws[i]?) = wr.map some) (hR3 : va_nd isR = true) (hdis : ∀ i ∈ isR, i ∉ isC)
    (kk : ∀ (r : Int32) (w : va_W), P r w → Wk p l e R s m args below meth c Q A g nL (n1 + mc) (n2 + ms) (wr ++ w) lv (pc + 3) (.int r :: st)) : Wk p l e R s m args below meth c Q A g nL n1 n2 ws lv pc (As.reverse ++ .ref a :: st) := by
  intro H locs ls hP hD hS hl
  obtain ⟨o, jj, hq, hae⟩ := hL
  have hrc : ∃ cell : Cell, H[a]? = some cell ∧ cell.vm.isStatics = false ∧ s.vm.findClass C = some cell.cls := by
    obtain ⟨cell, z1, z2, z3, -⟩ := ((X.2.2.2.2.2.2.2.2.2.2 _ hq).2.1).kept hS.2.1
    rw [hae, hCs]
    exact ⟨cell, z1, z2, z3⟩
  have hPc := hP.sub (ws' := wc) isC hC1
  have hDc := hD.sub (ws' := wc) isC hC3 hC2
  have hFc := va_free (wc := wc) hD hS X.2.2.2.2.2.2.1 isC hC2
  refine va_calli (va_runV (As := As) (rest := st) ⟨X.1, X.2.1, X.2.2.1, X.2.2.2.1, X.2.2.2.2.1⟩ (hM H.size) (cwV n X.2.2.2.2.1 (gV hm1 hm2 hm3 hm4 hm5) rfl rfl rfl ⟨hC, hy⟩ ⟨hf, hlo⟩) ⟨k_blind, hrc, k_pre (ws := ws) X.2.2.2.2.2.1 hPc hDc X.2.2.2.2.2.2.2.2 hS hFc⟩ rfl hnA hl.1 rfl (lv_room hst) hd ⟨h1, h2⟩) hS (fun q _ h => hFc q h) hFc (fun r w t H1 locs1 ht hvm hw hB hz1 hk1 hS1 => ?_)
  obtain ⟨hP1, hD1⟩ := hB
  rw [ht] at hP1
  obtain ⟨hP2, hD2⟩ := va_join (wr := wr) (w1 := w) hP hD isC isR hC2 hR2 hR3 hdis hk1 hFc hP1 hD1
  exact kk r w hw H1 locs1 ls hP2 hD2 hS1 hl

end KCL
/-! intervals of whole numbers -/
abbrev IV (x : Int32) (a b : Int) : Prop := a ≤ x.toInt ∧ x.toInt ≤ b
theorem iv_any (x : Int32) : IV x (-2147483648) 2147483647 := ⟨(rng x).1, by have := (rng x).2; omega⟩
theorem iv_w {x : Int32} {a b c d : Int} (h : IV x a b) (h1 : c ≤ a) (h2 : b ≤ d) : IV x c d := ⟨Int.le_trans h1 h.1, Int.le_trans h.2 h2⟩
theorem iv_e {x y : Int32} {a b : Int} (e : x = y) (h : IV y a b) : IV x a b := by rw [e]; exact h
theorem iv_lt {x y : Int32} (h : x < y) : x.toInt < y.toInt := lt_I.mp h
theorem iv_nlt {x y : Int32} (h : ¬ x < y) : y.toInt ≤ x.toInt := by rw [lt_I] at h; omega
theorem iv_le {x y : Int32} (h : x ≤ y) : x.toInt ≤ y.toInt := le_I.mp h
theorem iv_nle {x y : Int32} (h : ¬ x ≤ y) : y.toInt < x.toInt := by rw [le_I] at h; omega
theorem iv_ltL {x y : Int32} {a b c d b' : Int} (h : x.toInt < y.toInt) (hx : IV x a b) (hy : IV y c d) (e : d - 1 ≤ b') : IV x a b' := ⟨hx.1, by have := hy.2; omega⟩
theorem iv_ltR {x y : Int32} {a b c d c' : Int} (h : x.toInt < y.toInt) (hx : IV x a b) (hy : IV y c d) (e : c' ≤ a + 1) : IV y c' d := ⟨by have := hx.1; omega, hy.2⟩
theorem iv_leL {x y : Int32} {a b c d b' : Int} (h : x.toInt ≤ y.toInt) (hx : IV x a b) (hy : IV y c d) (e : d ≤ b') : IV x a b' := ⟨hx.1, by have := hy.2; omega⟩
theorem iv_leR {x y : Int32} {a b c d c' : Int} (h : x.toInt ≤ y.toInt) (hx : IV x a b) (hy : IV y c d) (e : c' ≤ a) : IV y c' d := ⟨by have := hx.1; omega, hy.2⟩
theorem iv_ltN {x y : Int32} {a b c d : Int} (h : x.toInt < y.toInt) (hx : IV x a b) (hy : IV y c d) (e : d ≤ a) : False := by have := hx.1; have := hy.2; omega
theorem iv_leN {x y : Int32} {a b c d : Int} (h : x.toInt ≤ y.toInt) (hx : IV x a b) (hy : IV y c d) (e : d < a) : False := by have := hx.1; have := hy.2; omega
theorem iv_eqN {x y : Int32} {a b c d : Int} (h : x = y) (hx : IV x a b) (hy : IV y c d) (e : b < c ∨ d < a) : False := by subst h; have := hx; have := hy; omega
theorem iv_eq {x y : Int32} {a : Int} (hx : IV x a a) (hy : IV y a a) : x = y := Int32.toInt_inj.mp (by have := hx; have := hy; omega)
theorem iv_meet {x : Int32} {a b c d : Int} (hx : IV x a b) (hy : IV x c d) {lo hi : Int} (h1 : lo ≤ a ∨ lo ≤ c) (h2 : b ≤ hi ∨ d ≤ hi) : IV x lo hi := by have := hx; have := hy; exact ⟨by omega, by omega⟩
theorem iv_neL {x y : Int32} {a b a' : Int} (h : x ≠ y) (hx : IV x a b) (hy : IV y a a) (e : a' ≤ a + 1) : IV x a' b := by
  have h1 : x.toInt ≠ y.toInt := fun q => h (Int32.toInt_inj.mp q)
  have := hx
  have := hy
  exact ⟨by omega, by omega⟩
theorem iv_neH {x y : Int32} {a b b' : Int} (h : x ≠ y) (hx : IV x a b) (hy : IV y b b) (e : b - 1 ≤ b') : IV x a b' := by
  have h1 : x.toInt ≠ y.toInt := fun q => h (Int32.toInt_inj.mp q)
  have := hx
  have := hy
  exact ⟨by omega, by omega⟩
theorem in_add {x y z : Int32} {a b c d : Int} (e : z = x + y) (hx : IV x a b) (hy : IV y c d) (h1 : -2147483648 ≤ a + c) (h2 : b + d ≤ 2147483647) : z.toInt = x.toInt + y.toInt := by
  have := hx
  have := hy
  rw [e]
  exact addI (by omega) (by omega)
theorem in_sub {x y z : Int32} {a b c d : Int} (e : z = x - y) (hx : IV x a b) (hy : IV y c d) (h1 : -2147483648 ≤ a - d) (h2 : b - c ≤ 2147483647) : z.toInt = x.toInt - y.toInt := by
  have := hx
  have := hy
  rw [e]
  exact subI (by omega) (by omega)
theorem in_mul {x y z : Int32} {k a b : Int} (e : z = x * y) (hk : x.toInt = k) (h0 : 0 ≤ k) (hy : IV y a b) (h1 : -2147483648 ≤ k * a) (h2 : k * b ≤ 2147483647) : z.toInt = k * y.toInt := by
  have q1 : k * a ≤ k * y.toInt := Int.mul_le_mul_of_nonneg_left hy.1 h0
  have q2 : k * y.toInt ≤ k * b := Int.mul_le_mul_of_nonneg_left hy.2 h0
  rw [e, ← hk]
  rw [← hk] at q1 q2 h1 h2
  exact mulI (by omega) (by omega)
theorem in_inc {x z : Int32} {n a b : Int} (e : x + Int32.ofInt n = z) (hn : (Int32.ofInt n).toInt = n) (hx : IV x a b) (h1 : -2147483648 ≤ a + n) (h2 : b + n ≤ 2147483647) : z.toInt = x.toInt + n := by
  have := hx
  rw [← e, addI (by rw [hn]; omega) (by rw [hn]; omega), hn]
theorem iv_in {z : Int32} {a b : Int} {N : Nat} (h : IV z a b) (h1 : 0 ≤ a) (h2 : b < N) : vp_in z N := by
  rw [vp_in_iff]
  have := h
  omega
theorem iv_and {x y z : Int32} {a b : Int} (e : z = x &&& y) (h : IV x a b) (h0 : 0 ≤ a) : IV z 0 b := by
  have h1 : 0 ≤ x.toInt := Int.le_trans h0 h.1
  have h2 : z.toBitVec.toNat ≤ x.toBitVec.toNat := by
    rw [e]
    show (x.toBitVec &&& y.toBitVec).toNat ≤ _
    rw [BitVec.toNat_and]
    exact Nat.and_le_left
  have h3 : x.toInt = (x.toBitVec.toNat : Int) := by
    show x.toBitVec.toInt = _
    have q : 0 ≤ x.toBitVec.toInt := h1
    rw [BitVec.toInt_eq_toNat_cond] at q ⊢
    have := x.toBitVec.isLt
    split at q <;> split <;> omega
  have h4 : z.toInt = (z.toBitVec.toNat : Int) := by
    show z.toBitVec.toInt = _
    have q1 : (x.toBitVec.toNat : Int) < 2147483648 := by rw [← h3]; exact (rng x).2
    rw [BitVec.toInt_eq_toNat_cond]
    split
    · rfl
    · omega
  have := h.2
  exact ⟨by omega, by omega⟩
theorem tn_i {z : Int32} (h : 0 ≤ z.toInt) : (z.toNatClampNeg : Int) = z.toInt := by
  show ((z.toInt.toNat : Nat) : Int) = z.toInt
  omega
theorem tdv (x y : Int) (hx : 0 ≤ x) (hy : 0 < y) : 0 ≤ x - x.tdiv y * y ∧ x - x.tdiv y * y < y := by
  have h1 : x.tmod y = x - x.tdiv y * y := by rw [Int.tmod_def, Int.mul_comm]
  rw [← h1]
  exact ⟨Int.tmod_nonneg _ hx, Int.tmod_lt_of_pos _ hy⟩
theorem iv_rem {x y z : Int32} {a b k : Int} (e : z = x - x / y * y) (hx : IV x a b) (h0 : 0 ≤ a) (hk : y.toInt = k) (hp : 0 < k) : IV z 0 (k - 1) := by
  have h1 : 0 ≤ x.toInt := Int.le_trans h0 hx.1
  obtain ⟨t1, t2⟩ := tdv x.toInt k h1 hp
  have t3 : 0 ≤ x.toInt.tdiv k := Int.tdiv_nonneg h1 (by omega)
  have t4 : x.toInt.tdiv k * k ≤ x.toInt := by omega
  have t5 : x.toInt.tdiv k ≤ x.toInt.tdiv k * k := by
    have := Int.mul_le_mul_of_nonneg_left (show (1 : Int) ≤ k by omega) t3
    omega
  have r1 := rng x
  have d1 : (x / y).toInt = x.toInt.tdiv k := by
    rw [Int32.toInt_div, hk]
    exact bm32 (by omega) (by omega)
  have t6 : 0 ≤ x.toInt.tdiv k * k := Int.mul_nonneg t3 (by omega)
  have d2 : (x / y * y).toInt = x.toInt.tdiv k * k := by
    rw [mulI (by rw [d1, hk]; omega) (by rw [d1, hk]; omega), d1, hk]
  have d3 : z.toInt = x.toInt - x.toInt.tdiv k * k := by
    rw [e, subI (by rw [d2]; omega) (by rw [d2]; omega), d2]
  rw [IV, d3]
  exact ⟨t1, by omega⟩
theorem strL_len : ∀ q ∈ strL, (sBy q.2.2).length ≤ 8 := by decide +kernel
theorem sl_iv {g : Gx} {z : Int32} {v : Nat} {tx : String} (e : z = nI (sBy tx).length) (h : LtV g v tx) : IV z 0 8 := by
  obtain ⟨o, i, hq, -⟩ := h
  have h1 : (sBy tx).length ≤ 8 := strL_len _ hq
  rw [IV, e, nI_toInt (by omega)]
  omega
theorem ls_len {g : Gx} {a : Nat} {tx : String} (h : LtS g a tx) : (sBy tx).length ≤ 8 := by
  obtain ⟨o, i, hq, -⟩ := h
  exact strL_len _ hq
theorem lv_len {g : Gx} {a : Nat} {tx : String} (h : LtV g a tx) : (sBy tx).length ≤ 8 := by
  obtain ⟨o, i, hq, -⟩ := h
  exact strL_len _ hq
theorem sl_in {x : Int32} {n : Nat} {a b : Int} (h0 : IV x a b) (ha : 0 ≤ a) (h1 : x < nI n) (hn : n ≤ 8) : vp_in x n := by
  rw [vp_in_iff]
  rw [lt_I, nI_toInt (by omega)] at h1
  have := h0
  omega
theorem zn_b {x : Int32} (h : IV x 0 1) : narrow .boolean (.int x) = .int x := by
  have := h
  rcases (show x.toInt = 0 ∨ x.toInt = 1 by omega) with q | q
  · have e : x = 0 := Int32.toInt_inj.mp q
    rw [e]
    rfl
  · have e : x = 1 := Int32.toInt_inj.mp q
    rw [e]
    rfl

def ROK (i : Nat) (v : Int) : Prop := (i = 6 → 0 ≤ v ∧ v ≤ 8) ∧ (i = 7 → 0 ≤ v ∧ v ≤ 4) ∧ (i = 8 → 0 ≤ v ∧ v ≤ 12) ∧ (i = 9 → 0 ≤ v ∧ v ≤ 8) ∧ (i = 10 → 0 ≤ v ∧ v ≤ 6) ∧ (i = 11 → 0 ≤ v ∧ v ≤ 4) ∧ (i = 12 → 0 ≤ v ∧ v ≤ 8) ∧ (i = 13 → 0 ≤ v ∧ v ≤ 6) ∧ (i = 14 → 0 ≤ v ∧ v ≤ 6) ∧ (i = 134 → 0 ≤ v ∧ v ≤ 4) ∧ (40 ≤ i ∧ i < 44 → 0 ≤ v ∧ v ≤ 9) ∧ (44 ≤ i ∧ i < 80 ∧ i % 3 = 2 → 0 ≤ v ∧ v ≤ 7) ∧ (46 ≤ i ∧ i < 82 ∧ i % 3 = 1 → 0 ≤ v ∧ v ≤ 3) ∧ (80 ≤ i ∧ i < 96 ∧ i % 2 = 0 → 0 ≤ v ∧ v ≤ 7) ∧ (96 ≤ i ∧ i < 114 ∧ i % 3 = 0 → 0 ≤ v ∧ v ≤ 7) ∧ (116 ≤ i ∧ i < 128 ∧ i % 3 = 2 → 0 ≤ v ∧ v ≤ 40) ∧ (126 ≤ i ∧ i < 134 → 0 ≤ v ∧ v ≤ 7) ∧ (137 ≤ i ∧ i < 155 ∧ i % 3 = 2 → 0 ≤ v ∧ v ≤ 7) ∧ (155 ≤ i ∧ i < 167 ∧ i % 2 = 1 → 0 ≤ v ∧ v ≤ 7) ∧ (167 ≤ i ∧ i < 183 → 0 ≤ v ∧ v ≤ 8)
def RInv (f : Nat → Int32) : Prop := ∀ i : Nat, ROK i (f i).toInt
def K16 (f h : Nat → Int32) : Prop := ∀ i : Nat, i < 16 → h i = f i
theorem K16.rf {f : Nat → Int32} : K16 f f := fun _ _ => rfl
theorem k16_u {f : Nat → Int32} {z v : Int32} (h : 16 ≤ z.toInt) : K16 f (upd f z.toNatClampNeg v) := by
  intro i q
  unfold upd
  have := tn_i (z := z) (by omega)
  rw [if_neg (by omega)]
theorem rinv_upd {f : Nat → Int32} {i : Nat} {v : Int32} (h : RInv f) (hv : ROK i v.toInt) : RInv (upd f i v) := by
  intro j
  show ROK j (upd f i v j).toInt
  unfold upd
  split
  · rename_i q
    rw [q]
    exact hv
  · exact h j
theorem rinv0 : RInv (fun _ => 0) := by
  intro i
  show ROK i (0 : Int32).toInt
  rw [zI]
  unfold ROK
  refine ⟨fun q => ?_, fun q => ?_, fun q => ?_, fun q => ?_, fun q => ?_, fun q => ?_, fun q => ?_, fun q => ?_, fun q => ?_, fun q => ?_, fun q => ?_, fun q => ?_, fun q => ?_, fun q => ?_, fun q => ?_, fun q => ?_, fun q => ?_, fun q => ?_, fun q => ?_, fun q => ?_⟩ <;> omega
theorem rb_6 {f : Nat → Int32} {y : Int32} (e : y = f (6 : Int32).toNatClampNeg) (h : RInv f) : IV y 0 8 := by
  rw [e]
  exact (h 6).1 rfl
theorem w_rb_6 {f : Nat → Int32} {v : Int32} (h : RInv f) (hv : IV v 0 8) : RInv (upd f (6 : Int32).toNatClampNeg v) := by
  refine rinv_upd h ?_
  show ROK 6 v.toInt
  have := hv
  unfold ROK
  refine ⟨fun q => ?_, fun q => ?_, fun q => ?_, fun q => ?_, fun q => ?_, fun q => ?_, fun q => ?_, fun q => ?_, fun q => ?_, fun q => ?_, fun q => ?_, fun q => ?_, fun q => ?_, fun q => ?_, fun q => ?_, fun q => ?_, fun q => ?_, fun q => ?_, fun q => ?_, fun q => ?_⟩ <;> omega
theorem rb_7 {f : Nat → Int32} {y : Int32} (e : y = f (7 : Int32).toNatClampNeg) (h : RInv f) : IV y 0 4 := by
  rw [e]
  exact (h 7).2.1 rfl
theorem w_rb_7 {f : Nat → Int32} {v : Int32} (h : RInv f) (hv : IV v 0 4) : RInv (upd f (7 : Int32).toNatClampNeg v) := by
  refine rinv_upd h ?_
  show ROK 7 v.toInt
  have := hv
  unfold ROK
  refine ⟨fun q => ?_, fun q => ?_, fun q => ?_, fun q => ?_, fun q => ?_, fun q => ?_, fun q => ?_, fun q => ?_, fun q => ?_, fun q => ?_, fun q => ?_, fun q => ?_, fun q => ?_, fun q => ?_, fun q => ?_, fun q => ?_, fun q => ?_, fun q => ?_, fun q => ?_, fun q => ?_⟩ <;> omega
theorem rb_8 {f : Nat → Int32} {y : Int32} (e : y = f (8 : Int32).toNatClampNeg) (h : RInv f) : IV y 0 12 := by
  rw [e]
  exact (h 8).2.2.1 rfl
theorem w_rb_8 {f : Nat → Int32} {v : Int32} (h : RInv f) (hv : IV v 0 12) : RInv (upd f (8 : Int32).toNatClampNeg v) := by
  refine rinv_upd h ?_
  show ROK 8 v.toInt
  have := hv
  unfold ROK
  refine ⟨fun q => ?_, fun q => ?_, fun q => ?_, fun q => ?_, fun q => ?_, fun q => ?_, fun q => ?_, fun q => ?_, fun q => ?_, fun q => ?_, fun q => ?_, fun q => ?_, fun q => ?_, fun q => ?_, fun q => ?_, fun q => ?_, fun q => ?_, fun q => ?_, fun q => ?_, fun q => ?_⟩ <;> omega
theorem rb_9 {f : Nat → Int32} {y : Int32} (e : y = f (9 : Int32).toNatClampNeg) (h : RInv f) : IV y 0 8 := by
  rw [e]
  exact (h 9).2.2.2.1 rfl
theorem w_rb_9 {f : Nat → Int32} {v : Int32} (h : RInv f) (hv : IV v 0 8) : RInv (upd f (9 : Int32).toNatClampNeg v) := by
  refine rinv_upd h ?_
  show ROK 9 v.toInt
  have := hv
  unfold ROK
  refine ⟨fun q => ?_, fun q => ?_, fun q => ?_, fun q => ?_, fun q => ?_, fun q => ?_, fun q => ?_, fun q => ?_, fun q => ?_, fun q => ?_, fun q => ?_, fun q => ?_, fun q => ?_, fun q => ?_, fun q => ?_, fun q => ?_, fun q => ?_, fun q => ?_, fun q => ?_, fun q => ?_⟩ <;> omega
theorem rb_10 {f : Nat → Int32} {y : Int32} (e : y = f (10 : Int32).toNatClampNeg) (h : RInv f) : IV y 0 6 := by
  rw [e]
  exact (h 10).2.2.2.2.1 rfl
theorem w_rb_10 {f : Nat → Int32} {v : Int32} (h : RInv f) (hv : IV v 0 6) : RInv (upd f (10 : Int32).toNatClampNeg v) := by
  refine rinv_upd h ?_
  show ROK 10 v.toInt
  have := hv
  unfold ROK
  refine ⟨fun q => ?_, fun q => ?_, fun q => ?_, fun q => ?_, fun q => ?_, fun q => ?_, fun q => ?_, fun q => ?_, fun q => ?_, fun q => ?_, fun q => ?_, fun q => ?_, fun q => ?_, fun q => ?_, fun q => ?_, fun q => ?_, fun q => ?_, fun q => ?_, fun q => ?_, fun q => ?_⟩ <;> omega
theorem rb_11 {f : Nat → Int32} {y : Int32} (e : y = f (11 : Int32).toNatClampNeg) (h : RInv f) : IV y 0 4 := by
  rw [e]
  exact (h 11).2.2.2.2.2.1 rfl
theorem w_rb_11 {f : Nat → Int32} {v : Int32} (h : RInv f) (hv : IV v 0 4) : RInv (upd f (11 : Int32).toNatClampNeg v) := by
  refine rinv_upd h ?_
  show ROK 11 v.toInt
  have := hv
  unfold ROK
  refine ⟨fun q => ?_, fun q => ?_, fun q => ?_, fun q => ?_, fun q => ?_, fun q => ?_, fun q => ?_, fun q => ?_, fun q => ?_, fun q => ?_, fun q => ?_, fun q => ?_, fun q => ?_, fun q => ?_, fun q => ?_, fun q => ?_, fun q => ?_, fun q => ?_, fun q => ?_, fun q => ?_⟩ <;> omega
theorem rb_12 {f : Nat → Int32} {y : Int32} (e : y = f (12 : Int32).toNatClampNeg) (h : RInv f) : IV y 0 8 := by
  rw [e]
  exact (h 12).2.2.2.2.2.2.1 rfl
theorem w_rb_12 {f : Nat → Int32} {v : Int32} (h : RInv f) (hv : IV v 0 8) : RInv (upd f (12 : Int32).toNatClampNeg v) := by
  refine rinv_upd h ?_
  show ROK 12 v.toInt
  have := hv
  unfold ROK
  refine ⟨fun q => ?_, fun q => ?_, fun q => ?_, fun q => ?_, fun q => ?_, fun q => ?_, fun q => ?_, fun q => ?_, fun q => ?_, fun q => ?_, fun q => ?_, fun q => ?_, fun q => ?_, fun q => ?_, fun q => ?_, fun q => ?_, fun q => ?_, fun q => ?_, fun q => ?_, fun q => ?_⟩ <;> omega
theorem rb_13 {f : Nat → Int32} {y : Int32} (e : y = f (13 : Int32).toNatClampNeg) (h : RInv f) : IV y 0 6 := by
  rw [e]
  exact (h 13).2.2.2.2.2.2.2.1 rfl
theorem w_rb_13 {f : Nat → Int32} {v : Int32} (h : RInv f) (hv : IV v 0 6) : RInv (upd f (13 : Int32).toNatClampNeg v) := by
  refine rinv_upd h ?_
  show ROK 13 v.toInt
  have := hv
  unfold ROK
  refine ⟨fun q => ?_, fun q => ?_, fun q => ?_, fun q => ?_, fun q => ?_, fun q => ?_, fun q => ?_, fun q => ?_, fun q => ?_, fun q => ?_, fun q => ?_, fun q => ?_, fun q => ?_, fun q => ?_, fun q => ?_, fun q => ?_, fun q => ?_, fun q => ?_, fun q => ?_, fun q => ?_⟩ <;> omega
theorem rb_14 {f : Nat → Int32} {y : Int32} (e : y = f (14 : Int32).toNatClampNeg) (h : RInv f) : IV y 0 6 := by
  rw [e]
  exact (h 14).2.2.2.2.2.2.2.2.1 rfl
theorem w_rb_14 {f : Nat → Int32} {v : Int32} (h : RInv f) (hv : IV v 0 6) : RInv (upd f (14 : Int32).toNatClampNeg v) := by
  refine rinv_upd h ?_
  show ROK 14 v.toInt
  have := hv
  unfold ROK
  refine ⟨fun q => ?_, fun q => ?_, fun q => ?_, fun q => ?_, fun q => ?_, fun q => ?_, fun q => ?_, fun q => ?_, fun q => ?_, fun q => ?_, fun q => ?_, fun q => ?_, fun q => ?_, fun q => ?_, fun q => ?_, fun q => ?_, fun q => ?_, fun q => ?_, fun q => ?_, fun q => ?_⟩ <;> omega
theorem rb_134 {f : Nat → Int32} {y : Int32} (e : y = f (134 : Int32).toNatClampNeg) (h : RInv f) : IV y 0 4 := by
  rw [e]
  exact (h 134).2.2.2.2.2.2.2.2.2.1 rfl
theorem w_rb_134 {f : Nat → Int32} {v : Int32} (h : RInv f) (hv : IV v 0 4) : RInv (upd f (134 : Int32).toNatClampNeg v) := by
  refine rinv_upd h ?_
  show ROK 134 v.toInt
  have := hv
  unfold ROK
  refine ⟨fun q => ?_, fun q => ?_, fun q => ?_, fun q => ?_, fun q => ?_, fun q => ?_, fun q => ?_, fun q => ?_, fun q => ?_, fun q => ?_, fun q => ?_, fun q => ?_, fun q => ?_, fun q => ?_, fun q => ?_, fun q => ?_, fun q => ?_, fun q => ?_, fun q => ?_, fun q => ?_⟩ <;> omega
theorem rb_40_1 {f : Nat → Int32} {y z m : Int32} (e : y = f z.toNatClampNeg) (h : RInv f) (i : z.toInt = 40 + 1 * m.toInt) (hm : IV m 0 3) : IV y 0 9 := by
  rw [e]
  have := hm
  have := tn_i (z := z) (by omega)
  exact (h z.toNatClampNeg).2.2.2.2.2.2.2.2.2.2.1 ⟨by omega, by omega⟩
theorem w_rb_40_1 {f : Nat → Int32} {v z m : Int32} (h : RInv f) (i : z.toInt = 40 + 1 * m.toInt) (hm : IV m 0 3) (hv : IV v 0 9) : RInv (upd f z.toNatClampNeg v) := by
  refine rinv_upd h ?_
  have := hm
  have := hv
  have := tn_i (z := z) (by omega)
  generalize z.toNatClampNeg = t at *
  unfold ROK
  refine ⟨fun q => ?_, fun q => ?_, fun q => ?_, fun q => ?_, fun q => ?_, fun q => ?_, fun q => ?_, fun q => ?_, fun q => ?_, fun q => ?_, fun q => ?_, fun q => ?_, fun q => ?_, fun q => ?_, fun q => ?_, fun q => ?_, fun q => ?_, fun q => ?_, fun q => ?_, fun q => ?_⟩ <;> omega
theorem rb_44_3 {f : Nat → Int32} {y z m : Int32} (e : y = f z.toNatClampNeg) (h : RInv f) (i : z.toInt = 44 + 3 * m.toInt) (hm : IV m 0 11) : IV y 0 7 := by
  rw [e]
  have := hm
  have := tn_i (z := z) (by omega)
  exact (h z.toNatClampNeg).2.2.2.2.2.2.2.2.2.2.2.1 ⟨by omega, by omega, by omega⟩
theorem w_rb_44_3 {f : Nat → Int32} {v z m : Int32} (h : RInv f) (i : z.toInt = 44 + 3 * m.toInt) (hm : IV m 0 11) (hv : IV v 0 7) : RInv (upd f z.toNatClampNeg v) := by
  refine rinv_upd h ?_
  have := hm
  have := hv
  have := tn_i (z := z) (by omega)
  generalize z.toNatClampNeg = t at *
  unfold ROK
  refine ⟨fun q => ?_, fun q => ?_, fun q => ?_, fun q => ?_, fun q => ?_, fun q => ?_, fun q => ?_, fun q => ?_, fun q => ?_, fun q => ?_, fun q => ?_, fun q => ?_, fun q => ?_, fun q => ?_, fun q => ?_, fun q => ?_, fun q => ?_, fun q => ?_, fun q => ?_, fun q => ?_⟩ <;> omega
theorem rb_46_3 {f : Nat → Int32} {y z m : Int32} (e : y = f z.toNatClampNeg) (h : RInv f) (i : z.toInt = 46 + 3 * m.toInt) (hm : IV m 0 11) : IV y 0 3 := by
  rw [e]
  have := hm
  have := tn_i (z := z) (by omega)
  exact (h z.toNatClampNeg).2.2.2.2.2.2.2.2.2.2.2.2.1 ⟨by omega, by omega, by omega⟩
theorem w_rb_46_3 {f : Nat → Int32} {v z m : Int32} (h : RInv f) (i : z.toInt = 46 + 3 * m.toInt) (hm : IV m 0 11) (hv : IV v 0 3) : RInv (upd f z.toNatClampNeg v) := by
  refine rinv_upd h ?_
  have := hm
  have := hv
  have := tn_i (z := z) (by omega)
  generalize z.toNatClampNeg = t at *
  unfold ROK
  refine ⟨fun q => ?_, fun q => ?_, fun q => ?_, fun q => ?_, fun q => ?_, fun q => ?_, fun q => ?_, fun q => ?_, fun q => ?_, fun q => ?_, fun q => ?_, fun q => ?_, fun q => ?_, fun q => ?_, fun q => ?_, fun q => ?_, fun q => ?_, fun q => ?_, fun q => ?_, fun q => ?_⟩ <;> omega
theorem rb_80_2 {f : Nat → Int32} {y z m : Int32} (e : y = f z.toNatClampNeg) (h : RInv f) (i : z.toInt = 80 + 2 * m.toInt) (hm : IV m 0 7) : IV y 0 7 := by
  rw [e]
  have := hm
  have := tn_i (z := z) (by omega)
  exact (h z.toNatClampNeg).2.2.2.2.2.2.2.2.2.2.2.2.2.1 ⟨by omega, by omega, by omega⟩
theorem w_rb_80_2 {f : Nat → Int32} {v z m : Int32} (h : RInv f) (i : z.toInt = 80 + 2 * m.toInt) (hm : IV m 0 7) (hv : IV v 0 7) : RInv (upd f z.toNatClampNeg v) := by
  refine rinv_upd h ?_
  have := hm
  have := hv
  have := tn_i (z := z) (by omega)
  generalize z.toNatClampNeg = t at *
  unfold ROK
  refine ⟨fun q => ?_, fun q => ?_, fun q => ?_, fun q => ?_, fun q => ?_, fun q => ?_, fun q => ?_, fun q => ?_, fun q => ?_, fun q => ?_, fun q => ?_, fun q => ?_, fun q => ?_, fun q => ?_, fun q => ?_, fun q => ?_, fun q => ?_, fun q => ?_, fun q => ?_, fun q => ?_⟩ <;> omega
theorem rb_96_3 {f : Nat → Int32} {y z m : Int32} (e : y = f z.toNatClampNeg) (h : RInv f) (i : z.toInt = 96 + 3 * m.toInt) (hm : IV m 0 5) : IV y 0 7 := by
  rw [e]
  have := hm
  have := tn_i (z := z) (by omega)
  exact (h z.toNatClampNeg).2.2.2.2.2.2.2.2.2.2.2.2.2.2.1 ⟨by omega, by omega, by omega⟩
theorem w_rb_96_3 {f : Nat → Int32} {v z m : Int32} (h : RInv f) (i : z.toInt = 96 + 3 * m.toInt) (hm : IV m 0 5) (hv : IV v 0 7) : RInv (upd f z.toNatClampNeg v) := by
  refine rinv_upd h ?_
  have := hm
  have := hv
  have := tn_i (z := z) (by omega)
  generalize z.toNatClampNeg = t at *
  unfold ROK
  refine ⟨fun q => ?_, fun q => ?_, fun q => ?_, fun q => ?_, fun q => ?_, fun q => ?_, fun q => ?_, fun q => ?_, fun q => ?_, fun q => ?_, fun q => ?_, fun q => ?_, fun q => ?_, fun q => ?_, fun q => ?_, fun q => ?_, fun q => ?_, fun q => ?_, fun q => ?_, fun q => ?_⟩ <;> omega
theorem rb_116_3 {f : Nat → Int32} {y z m : Int32} (e : y = f z.toNatClampNeg) (h : RInv f) (i : z.toInt = 116 + 3 * m.toInt) (hm : IV m 0 3) : IV y 0 40 := by
  rw [e]
  have := hm
  have := tn_i (z := z) (by omega)
  exact (h z.toNatClampNeg).2.2.2.2.2.2.2.2.2.2.2.2.2.2.2.1 ⟨by omega, by omega, by omega⟩
theorem w_rb_116_3 {f : Nat → Int32} {v z m : Int32} (h : RInv f) (i : z.toInt = 116 + 3 * m.toInt) (hm : IV m 0 3) (hv : IV v 0 40) : RInv (upd f z.toNatClampNeg v) := by
  refine rinv_upd h ?_
  have := hm
  have := hv
  have := tn_i (z := z) (by omega)
  generalize z.toNatClampNeg = t at *
  unfold ROK
  refine ⟨fun q => ?_, fun q => ?_, fun q => ?_, fun q => ?_, fun q => ?_, fun q => ?_, fun q => ?_, fun q => ?_, fun q => ?_, fun q => ?_, fun q => ?_, fun q => ?_, fun q => ?_, fun q => ?_, fun q => ?_, fun q => ?_, fun q => ?_, fun q => ?_, fun q => ?_, fun q => ?_⟩ <;> omega
theorem rb_126_1 {f : Nat → Int32} {y z m : Int32} (e : y = f z.toNatClampNeg) (h : RInv f) (i : z.toInt = 126 + 1 * m.toInt) (hm : IV m 0 7) : IV y 0 7 := by
  rw [e]
  have := hm
  have := tn_i (z := z) (by omega)
  exact (h z.toNatClampNeg).2.2.2.2.2.2.2.2.2.2.2.2.2.2.2.2.1 ⟨by omega, by omega⟩
theorem w_rb_126_1 {f : Nat → Int32} {v z m : Int32} (h : RInv f) (i : z.toInt = 126 + 1 * m.toInt) (hm : IV m 0 7) (hv : IV v 0 7) : RInv (upd f z.toNatClampNeg v) := by
  refine rinv_upd h ?_
  have := hm
  have := hv
  have := tn_i (z := z) (by omega)
  generalize z.toNatClampNeg = t at *
  unfold ROK
  refine ⟨fun q => ?_, fun q => ?_, fun q => ?_, fun q => ?_, fun q => ?_, fun q => ?_, fun q => ?_, fun q => ?_, fun q => ?_, fun q => ?_, fun q => ?_, fun q => ?_, fun q => ?_, fun q => ?_, fun q => ?_, fun q => ?_, fun q => ?_, fun q => ?_, fun q => ?_, fun q => ?_⟩ <;> omega
theorem rb_137_3 {f : Nat → Int32} {y z m : Int32} (e : y = f z.toNatClampNeg) (h : RInv f) (i : z.toInt = 137 + 3 * m.toInt) (hm : IV m 0 5) : IV y 0 7 := by
  rw [e]
  have := hm
  have := tn_i (z := z) (by omega)
  exact (h z.toNatClampNeg).2.2.2.2.2.2.2.2.2.2.2.2.2.2.2.2.2.1 ⟨by omega, by omega, by omega⟩
theorem w_rb_137_3 {f : Nat → Int32} {v z m : Int32} (h : RInv f) (i : z.toInt = 137 + 3 * m.toInt) (hm : IV m 0 5) (hv : IV v 0 7) : RInv (upd f z.toNatClampNeg v) := by
  refine rinv_upd h ?_
  have := hm
  have := hv
  have := tn_i (z := z) (by omega)
  generalize z.toNatClampNeg = t at *
  unfold ROK
  refine ⟨fun q => ?_, fun q => ?_, fun q => ?_, fun q => ?_, fun q => ?_, fun q => ?_, fun q => ?_, fun q => ?_, fun q => ?_, fun q => ?_, fun q => ?_, fun q => ?_, fun q => ?_, fun q => ?_, fun q => ?_, fun q => ?_, fun q => ?_, fun q => ?_, fun q => ?_, fun q => ?_⟩ <;> omega
theorem rb_155_2 {f : Nat → Int32} {y z m : Int32} (e : y = f z.toNatClampNeg) (h : RInv f) (i : z.toInt = 155 + 2 * m.toInt) (hm : IV m 0 5) : IV y 0 7 := by
  rw [e]
  have := hm
  have := tn_i (z := z) (by omega)
  exact (h z.toNatClampNeg).2.2.2.2.2.2.2.2.2.2.2.2.2.2.2.2.2.2.1 ⟨by omega, by omega, by omega⟩
theorem w_rb_155_2 {f : Nat → Int32} {v z m : Int32} (h : RInv f) (i : z.toInt = 155 + 2 * m.toInt) (hm : IV m 0 5) (hv : IV v 0 7) : RInv (upd f z.toNatClampNeg v) := by
  refine rinv_upd h ?_
  have := hm
  have := hv
  have := tn_i (z := z) (by omega)
  generalize z.toNatClampNeg = t at *
  unfold ROK
  refine ⟨fun q => ?_, fun q => ?_, fun q => ?_, fun q => ?_, fun q => ?_, fun q => ?_, fun q => ?_, fun q => ?_, fun q => ?_, fun q => ?_, fun q => ?_, fun q => ?_, fun q => ?_, fun q => ?_, fun q => ?_, fun q => ?_, fun q => ?_, fun q => ?_, fun q => ?_, fun q => ?_⟩ <;> omega
theorem rb_167_1 {f : Nat → Int32} {y z m : Int32} (e : y = f z.toNatClampNeg) (h : RInv f) (i : z.toInt = 167 + 1 * m.toInt) (hm : IV m 0 15) : IV y 0 8 := by
  rw [e]
  have := hm
  have := tn_i (z := z) (by omega)
  exact (h z.toNatClampNeg).2.2.2.2.2.2.2.2.2.2.2.2.2.2.2.2.2.2.2 ⟨by omega, by omega⟩
theorem w_rb_167_1 {f : Nat → Int32} {v z m : Int32} (h : RInv f) (i : z.toInt = 167 + 1 * m.toInt) (hm : IV m 0 15) (hv : IV v 0 8) : RInv (upd f z.toNatClampNeg v) := by
  refine rinv_upd h ?_
  have := hm
  have := hv
  have := tn_i (z := z) (by omega)
  generalize z.toNatClampNeg = t at *
  unfold ROK
  refine ⟨fun q => ?_, fun q => ?_, fun q => ?_, fun q => ?_, fun q => ?_, fun q => ?_, fun q => ?_, fun q => ?_, fun q => ?_, fun q => ?_, fun q => ?_, fun q => ?_, fun q => ?_, fun q => ?_, fun q => ?_, fun q => ?_, fun q => ?_, fun q => ?_, fun q => ?_, fun q => ?_⟩ <;> omega
theorem w_fr_0 {f : Nat → Int32} {v : Int32} (h : RInv f) : RInv (upd f (0 : Int32).toNatClampNeg v) := by
  refine rinv_upd h ?_
  show ROK 0 v.toInt
  unfold ROK
  refine ⟨fun q => ?_, fun q => ?_, fun q => ?_, fun q => ?_, fun q => ?_, fun q => ?_, fun q => ?_, fun q => ?_, fun q => ?_, fun q => ?_, fun q => ?_, fun q => ?_, fun q => ?_, fun q => ?_, fun q => ?_, fun q => ?_, fun q => ?_, fun q => ?_, fun q => ?_, fun q => ?_⟩ <;> omega
theorem w_fr_1 {f : Nat → Int32} {v : Int32} (h : RInv f) : RInv (upd f (1 : Int32).toNatClampNeg v) := by
  refine rinv_upd h ?_
  show ROK 1 v.toInt
  unfold ROK
  refine ⟨fun q => ?_, fun q => ?_, fun q => ?_, fun q => ?_, fun q => ?_, fun q => ?_, fun q => ?_, fun q => ?_, fun q => ?_, fun q => ?_, fun q => ?_, fun q => ?_, fun q => ?_, fun q => ?_, fun q => ?_, fun q => ?_, fun q => ?_, fun q => ?_, fun q => ?_, fun q => ?_⟩ <;> omega
theorem w_fr_2 {f : Nat → Int32} {v : Int32} (h : RInv f) : RInv (upd f (2 : Int32).toNatClampNeg v) := by
  refine rinv_upd h ?_
  show ROK 2 v.toInt
  unfold ROK
  refine ⟨fun q => ?_, fun q => ?_, fun q => ?_, fun q => ?_, fun q => ?_, fun q => ?_, fun q => ?_, fun q => ?_, fun q => ?_, fun q => ?_, fun q => ?_, fun q => ?_, fun q => ?_, fun q => ?_, fun q => ?_, fun q => ?_, fun q => ?_, fun q => ?_, fun q => ?_, fun q => ?_⟩ <;> omega
theorem w_fr_3 {f : Nat → Int32} {v : Int32} (h : RInv f) : RInv (upd f (3 : Int32).toNatClampNeg v) := by
  refine rinv_upd h ?_
  show ROK 3 v.toInt
  unfold ROK
  refine ⟨fun q => ?_, fun q => ?_, fun q => ?_, fun q => ?_, fun q => ?_, fun q => ?_, fun q => ?_, fun q => ?_, fun q => ?_, fun q => ?_, fun q => ?_, fun q => ?_, fun q => ?_, fun q => ?_, fun q => ?_, fun q => ?_, fun q => ?_, fun q => ?_, fun q => ?_, fun q => ?_⟩ <;> omega
theorem w_fr_4 {f : Nat → Int32} {v : Int32} (h : RInv f) : RInv (upd f (4 : Int32).toNatClampNeg v) := by
  refine rinv_upd h ?_
  show ROK 4 v.toInt
  unfold ROK
  refine ⟨fun q => ?_, fun q => ?_, fun q => ?_, fun q => ?_, fun q => ?_, fun q => ?_, fun q => ?_, fun q => ?_, fun q => ?_, fun q => ?_, fun q => ?_, fun q => ?_, fun q => ?_, fun q => ?_, fun q => ?_, fun q => ?_, fun q => ?_, fun q => ?_, fun q => ?_, fun q => ?_⟩ <;> omega
theorem w_fr_5 {f : Nat → Int32} {v : Int32} (h : RInv f) : RInv (upd f (5 : Int32).toNatClampNeg v) := by
  refine rinv_upd h ?_
  show ROK 5 v.toInt
  unfold ROK
  refine ⟨fun q => ?_, fun q => ?_, fun q => ?_, fun q => ?_, fun q => ?_, fun q => ?_, fun q => ?_, fun q => ?_, fun q => ?_, fun q => ?_, fun q => ?_, fun q => ?_, fun q => ?_, fun q => ?_, fun q => ?_, fun q => ?_, fun q => ?_, fun q => ?_, fun q => ?_, fun q => ?_⟩ <;> omega
theorem w_fr_15 {f : Nat → Int32} {v : Int32} (h : RInv f) : RInv (upd f (15 : Int32).toNatClampNeg v) := by
  refine rinv_upd h ?_
  show ROK 15 v.toInt
  unfold ROK
  refine ⟨fun q => ?_, fun q => ?_, fun q => ?_, fun q => ?_, fun q => ?_, fun q => ?_, fun q => ?_, fun q => ?_, fun q => ?_, fun q => ?_, fun q => ?_, fun q => ?_, fun q => ?_, fun q => ?_, fun q => ?_, fun q => ?_, fun q => ?_, fun q => ?_, fun q => ?_, fun q => ?_⟩ <;> omega
theorem w_fr_135 {f : Nat → Int32} {v : Int32} (h : RInv f) : RInv (upd f (135 : Int32).toNatClampNeg v) := by
  refine rinv_upd h ?_
  show ROK 135 v.toInt
  unfold ROK
  refine ⟨fun q => ?_, fun q => ?_, fun q => ?_, fun q => ?_, fun q => ?_, fun q => ?_, fun q => ?_, fun q => ?_, fun q => ?_, fun q => ?_, fun q => ?_, fun q => ?_, fun q => ?_, fun q => ?_, fun q => ?_, fun q => ?_, fun q => ?_, fun q => ?_, fun q => ?_, fun q => ?_⟩ <;> omega
theorem w_fr_136 {f : Nat → Int32} {v : Int32} (h : RInv f) : RInv (upd f (136 : Int32).toNatClampNeg v) := by
  refine rinv_upd h ?_
  show ROK 136 v.toInt
  unfold ROK
  refine ⟨fun q => ?_, fun q => ?_, fun q => ?_, fun q => ?_, fun q => ?_, fun q => ?_, fun q => ?_, fun q => ?_, fun q => ?_, fun q => ?_, fun q => ?_, fun q => ?_, fun q => ?_, fun q => ?_, fun q => ?_, fun q => ?_, fun q => ?_, fun q => ?_, fun q => ?_, fun q => ?_⟩ <;> omega
theorem w_fr_16_3 {f : Nat → Int32} {v z m : Int32} (h : RInv f) (i : z.toInt = 16 + 3 * m.toInt) (hm : IV m 0 7) : RInv (upd f z.toNatClampNeg v) := by
  refine rinv_upd h ?_
  have := hm
  have := tn_i (z := z) (by omega)
  generalize z.toNatClampNeg = t at *
  unfold ROK
  refine ⟨fun q => ?_, fun q => ?_, fun q => ?_, fun q => ?_, fun q => ?_, fun q => ?_, fun q => ?_, fun q => ?_, fun q => ?_, fun q => ?_, fun q => ?_, fun q => ?_, fun q => ?_, fun q => ?_, fun q => ?_, fun q => ?_, fun q => ?_, fun q => ?_, fun q => ?_, fun q => ?_⟩ <;> omega
theorem w_fr_17_3 {f : Nat → Int32} {v z m : Int32} (h : RInv f) (i : z.toInt = 17 + 3 * m.toInt) (hm : IV m 0 7) : RInv (upd f z.toNatClampNeg v) := by
  refine rinv_upd h ?_
  have := hm
  have := tn_i (z := z) (by omega)
  generalize z.toNatClampNeg = t at *
  unfold ROK
  refine ⟨fun q => ?_, fun q => ?_, fun q => ?_, fun q => ?_, fun q => ?_, fun q => ?_, fun q => ?_, fun q => ?_, fun q => ?_, fun q => ?_, fun q => ?_, fun q => ?_, fun q => ?_, fun q => ?_, fun q => ?_, fun q => ?_, fun q => ?_, fun q => ?_, fun q => ?_, fun q => ?_⟩ <;> omega
theorem w_fr_18_3 {f : Nat → Int32} {v z m : Int32} (h : RInv f) (i : z.toInt = 18 + 3 * m.toInt) (hm : IV m 0 7) : RInv (upd f z.toNatClampNeg v) := by
  refine rinv_upd h ?_
  have := hm
  have := tn_i (z := z) (by omega)
  generalize z.toNatClampNeg = t at *
  unfold ROK
  refine ⟨fun q => ?_, fun q => ?_, fun q => ?_, fun q => ?_, fun q => ?_, fun q => ?_, fun q => ?_, fun q => ?_, fun q => ?_, fun q => ?_, fun q => ?_, fun q => ?_, fun q => ?_, fun q => ?_, fun q => ?_, fun q => ?_, fun q => ?_, fun q => ?_, fun q => ?_, fun q => ?_⟩ <;> omega
theorem w_fr_45_3 {f : Nat → Int32} {v z m : Int32} (h : RInv f) (i : z.toInt = 45 + 3 * m.toInt) (hm : IV m 0 11) : RInv (upd f z.toNatClampNeg v) := by
  refine rinv_upd h ?_
  have := hm
  have := tn_i (z := z) (by omega)
  generalize z.toNatClampNeg = t at *
  unfold ROK
  refine ⟨fun q => ?_, fun q => ?_, fun q => ?_, fun q => ?_, fun q => ?_, fun q => ?_, fun q => ?_, fun q => ?_, fun q => ?_, fun q => ?_, fun q => ?_, fun q => ?_, fun q => ?_, fun q => ?_, fun q => ?_, fun q => ?_, fun q => ?_, fun q => ?_, fun q => ?_, fun q => ?_⟩ <;> omega
theorem w_fr_81_2 {f : Nat → Int32} {v z m : Int32} (h : RInv f) (i : z.toInt = 81 + 2 * m.toInt) (hm : IV m 0 7) : RInv (upd f z.toNatClampNeg v) := by
  refine rinv_upd h ?_
  have := hm
  have := tn_i (z := z) (by omega)
  generalize z.toNatClampNeg = t at *
  unfold ROK
  refine ⟨fun q => ?_, fun q => ?_, fun q => ?_, fun q => ?_, fun q => ?_, fun q => ?_, fun q => ?_, fun q => ?_, fun q => ?_, fun q => ?_, fun q => ?_, fun q => ?_, fun q => ?_, fun q => ?_, fun q => ?_, fun q => ?_, fun q => ?_, fun q => ?_, fun q => ?_, fun q => ?_⟩ <;> omega
theorem w_fr_97_3 {f : Nat → Int32} {v z m : Int32} (h : RInv f) (i : z.toInt = 97 + 3 * m.toInt) (hm : IV m 0 5) : RInv (upd f z.toNatClampNeg v) := by
  refine rinv_upd h ?_
  have := hm
  have := tn_i (z := z) (by omega)
  generalize z.toNatClampNeg = t at *
  unfold ROK
  refine ⟨fun q => ?_, fun q => ?_, fun q => ?_, fun q => ?_, fun q => ?_, fun q => ?_, fun q => ?_, fun q => ?_, fun q => ?_, fun q => ?_, fun q => ?_, fun q => ?_, fun q => ?_, fun q => ?_, fun q => ?_, fun q => ?_, fun q => ?_, fun q => ?_, fun q => ?_, fun q => ?_⟩ <;> omega
theorem w_fr_98_3 {f : Nat → Int32} {v z m : Int32} (h : RInv f) (i : z.toInt = 98 + 3 * m.toInt) (hm : IV m 0 5) : RInv (upd f z.toNatClampNeg v) := by
  refine rinv_upd h ?_
  have := hm
  have := tn_i (z := z) (by omega)
  generalize z.toNatClampNeg = t at *
  unfold ROK
  refine ⟨fun q => ?_, fun q => ?_, fun q => ?_, fun q => ?_, fun q => ?_, fun q => ?_, fun q => ?_, fun q => ?_, fun q => ?_, fun q => ?_, fun q => ?_, fun q => ?_, fun q => ?_, fun q => ?_, fun q => ?_, fun q => ?_, fun q => ?_, fun q => ?_, fun q => ?_, fun q => ?_⟩ <;> omega
theorem w_fr_114_3 {f : Nat → Int32} {v z m : Int32} (h : RInv f) (i : z.toInt = 114 + 3 * m.toInt) (hm : IV m 0 3) : RInv (upd f z.toNatClampNeg v) := by
  refine rinv_upd h ?_
  have := hm
  have := tn_i (z := z) (by omega)
  generalize z.toNatClampNeg = t at *
  unfold ROK
  refine ⟨fun q => ?_, fun q => ?_, fun q => ?_, fun q => ?_, fun q => ?_, fun q => ?_, fun q => ?_, fun q => ?_, fun q => ?_, fun q => ?_, fun q => ?_, fun q => ?_, fun q => ?_, fun q => ?_, fun q => ?_, fun q => ?_, fun q => ?_, fun q => ?_, fun q => ?_, fun q => ?_⟩ <;> omega
theorem w_fr_115_3 {f : Nat → Int32} {v z m : Int32} (h : RInv f) (i : z.toInt = 115 + 3 * m.toInt) (hm : IV m 0 3) : RInv (upd f z.toNatClampNeg v) := by
  refine rinv_upd h ?_
  have := hm
  have := tn_i (z := z) (by omega)
  generalize z.toNatClampNeg = t at *
  unfold ROK
  refine ⟨fun q => ?_, fun q => ?_, fun q => ?_, fun q => ?_, fun q => ?_, fun q => ?_, fun q => ?_, fun q => ?_, fun q => ?_, fun q => ?_, fun q => ?_, fun q => ?_, fun q => ?_, fun q => ?_, fun q => ?_, fun q => ?_, fun q => ?_, fun q => ?_, fun q => ?_, fun q => ?_⟩ <;> omega
theorem w_fr_138_3 {f : Nat → Int32} {v z m : Int32} (h : RInv f) (i : z.toInt = 138 + 3 * m.toInt) (hm : IV m 0 5) : RInv (upd f z.toNatClampNeg v) := by
  refine rinv_upd h ?_
  have := hm
  have := tn_i (z := z) (by omega)
  generalize z.toNatClampNeg = t at *
  unfold ROK
  refine ⟨fun q => ?_, fun q => ?_, fun q => ?_, fun q => ?_, fun q => ?_, fun q => ?_, fun q => ?_, fun q => ?_, fun q => ?_, fun q => ?_, fun q => ?_, fun q => ?_, fun q => ?_, fun q => ?_, fun q => ?_, fun q => ?_, fun q => ?_, fun q => ?_, fun q => ?_, fun q => ?_⟩ <;> omega
theorem w_fr_139_3 {f : Nat → Int32} {v z m : Int32} (h : RInv f) (i : z.toInt = 139 + 3 * m.toInt) (hm : IV m 0 5) : RInv (upd f z.toNatClampNeg v) := by
  refine rinv_upd h ?_
  have := hm
  have := tn_i (z := z) (by omega)
  generalize z.toNatClampNeg = t at *
  unfold ROK
  refine ⟨fun q => ?_, fun q => ?_, fun q => ?_, fun q => ?_, fun q => ?_, fun q => ?_, fun q => ?_, fun q => ?_, fun q => ?_, fun q => ?_, fun q => ?_, fun q => ?_, fun q => ?_, fun q => ?_, fun q => ?_, fun q => ?_, fun q => ?_, fun q => ?_, fun q => ?_, fun q => ?_⟩ <;> omega
theorem w_fr_156_2 {f : Nat → Int32} {v z m : Int32} (h : RInv f) (i : z.toInt = 156 + 2 * m.toInt) (hm : IV m 0 5) : RInv (upd f z.toNatClampNeg v) := by
  refine rinv_upd h ?_
  have := hm
  have := tn_i (z := z) (by omega)
  generalize z.toNatClampNeg = t at *
  unfold ROK
  refine ⟨fun q => ?_, fun q => ?_, fun q => ?_, fun q => ?_, fun q => ?_, fun q => ?_, fun q => ?_, fun q => ?_, fun q => ?_, fun q => ?_, fun q => ?_, fun q => ?_, fun q => ?_, fun q => ?_, fun q => ?_, fun q => ?_, fun q => ?_, fun q => ?_, fun q => ?_, fun q => ?_⟩ <;> omega
theorem w_let {f : Nat → Int32} {v z : Int32} (h : RInv f) (i : 183 ≤ z.toInt) : RInv (upd f z.toNatClampNeg v) := by
  refine rinv_upd h ?_
  have := tn_i (z := z) (by omega)
  generalize z.toNatClampNeg = t at *
  unfold ROK
  refine ⟨fun q => ?_, fun q => ?_, fun q => ?_, fun q => ?_, fun q => ?_, fun q => ?_, fun q => ?_, fun q => ?_, fun q => ?_, fun q => ?_, fun q => ?_, fun q => ?_, fun q => ?_, fun q => ?_, fun q => ?_, fun q => ?_, fun q => ?_, fun q => ?_, fun q => ?_, fun q => ?_⟩ <;> omega
theorem w_zero {f : Nat → Int32} {i : Nat} (h : RInv f) : RInv (upd f i 0) := by
  refine rinv_upd h ?_
  rw [zI]
  unfold ROK
  refine ⟨fun q => ?_, fun q => ?_, fun q => ?_, fun q => ?_, fun q => ?_, fun q => ?_, fun q => ?_, fun q => ?_, fun q => ?_, fun q => ?_, fun q => ?_, fun q => ?_, fun q => ?_, fun q => ?_, fun q => ?_, fun q => ?_, fun q => ?_, fun q => ?_, fun q => ?_, fun q => ?_⟩ <;> omega
theorem rinv_cp {f h : Nat → Int32} {k : Int32} (hf : RInv f) (hx : ∀ i : Nat, i < k.toInt.toNat → h i = f i) (hk : 311 ≤ k.toInt) : RInv h := by
  intro i
  by_cases q : i < 311
  · rw [hx i (by omega)]
    exact hf i
  · unfold ROK
    refine ⟨fun z => ?_, fun z => ?_, fun z => ?_, fun z => ?_, fun z => ?_, fun z => ?_, fun z => ?_, fun z => ?_, fun z => ?_, fun z => ?_, fun z => ?_, fun z => ?_, fun z => ?_, fun z => ?_, fun z => ?_, fun z => ?_, fun z => ?_, fun z => ?_, fun z => ?_, fun z => ?_⟩ <;> omega
theorem iv_shl {z v : Int32} (e : z = 1 <<< (v &&& 31)) (h : IV v 0 8) : IV z 1 256 := by
  have h1 : v = 0 ∨ v = 1 ∨ v = 2 ∨ v = 3 ∨ v = 4 ∨ v = 5 ∨ v = 6 ∨ v = 7 ∨ v = 8 := by
    have := h
    rcases (show v.toInt = 0 ∨ v.toInt = 1 ∨ v.toInt = 2 ∨ v.toInt = 3 ∨ v.toInt = 4 ∨ v.toInt = 5 ∨ v.toInt = 6 ∨ v.toInt = 7 ∨ v.toInt = 8 by omega) with q | q | q | q | q | q | q | q | q
    · exact Or.inl (Int32.toInt_inj.mp q)
    · exact Or.inr (Or.inl (Int32.toInt_inj.mp q))
    · exact Or.inr (Or.inr (Or.inl (Int32.toInt_inj.mp q)))
    · exact Or.inr (Or.inr (Or.inr (Or.inl (Int32.toInt_inj.mp q))))
    · exact Or.inr (Or.inr (Or.inr (Or.inr (Or.inl (Int32.toInt_inj.mp q)))))
    · exact Or.inr (Or.inr (Or.inr (Or.inr (Or.inr (Or.inl (Int32.toInt_inj.mp q))))))
    · exact Or.inr (Or.inr (Or.inr (Or.inr (Or.inr (Or.inr (Or.inl (Int32.toInt_inj.mp q)))))))
    · exact Or.inr (Or.inr (Or.inr (Or.inr (Or.inr (Or.inr (Or.inr (Or.inl (Int32.toInt_inj.mp q))))))))
    · exact Or.inr (Or.inr (Or.inr (Or.inr (Or.inr (Or.inr (Or.inr (Or.inr (Int32.toInt_inj.mp q))))))))
  rcases h1 with q | q | q | q | q | q | q | q | q <;> rw [e, q] <;> decide
theorem bm64 {z : Int} (h1 : -9223372036854775808 ≤ z) (h2 : z < 9223372036854775808) : z.bmod (2 ^ 64) = z := by
  unfold Int.bmod
  have e : ((2 ^ 64 : Nat) : Int) = 18446744073709551616 := by decide
  rw [e]
  dsimp only
  split <;> omega
theorem rng64 (x : Int64) : -9223372036854775808 ≤ x.toInt ∧ x.toInt < 9223372036854775808 := ⟨Int64.le_toInt x, Int64.toInt_lt x⟩
theorem lrem_abs {x y z : Int64} (e : z = x - x / y * y) (h : ¬ y = 0) : z.toInt.natAbs < y.toInt.natAbs := by
  have hy : y.toInt ≠ 0 := fun q => h (Int64.toInt_inj.mp q)
  have h1 : (x.toInt.tmod y.toInt).natAbs < y.toInt.natAbs := by
    rw [Int.natAbs_tmod]
    exact Nat.mod_lt _ (by omega)
  have h2 := rng64 y
  have h3 : z.toInt = x.toInt.tmod y.toInt := by
    rw [e, Int64.toInt_sub, Int64.toInt_mul, Int64.toInt_div, Int.bmod_mul_bmod, Int.sub_bmod_bmod]
    have h4 : x.toInt - x.toInt.tdiv y.toInt * y.toInt = x.toInt.tmod y.toInt := by rw [Int.tmod_def, Int.mul_comm]
    rw [h4]
    exact bm64 (by omega) (by omega)
  rw [h3]
  exact h1
theorem p100 {v z : Int64} {k k' : Int32} (e : z = v * 100) (hv : v.toInt = 100 ^ k.toInt.toNat) (hk : IV k 0 7) (hk' : k'.toInt = k.toInt + 1) : z.toInt = 100 ^ k'.toInt.toNat := by
  have q0 := hk
  have q1 : k'.toInt.toNat = k.toInt.toNat + 1 := by omega
  have q2 : (100 : Int) ^ k.toInt.toNat ≤ 100 ^ 7 := by
    have : (100 : Nat) ^ k.toInt.toNat ≤ 100 ^ 7 := Nat.pow_le_pow_right (by decide) (by omega)
    exact_mod_cast this
  have q3 : (0 : Int) ≤ 100 ^ k.toInt.toNat := by
    have : (0 : Nat) ≤ 100 ^ k.toInt.toNat := Nat.zero_le _
    exact_mod_cast this
  have e100 : (100 : Int64).toInt = 100 := by decide
  have e7 : (100 : Int) ^ 7 = 100000000000000 := by decide
  rw [e, Int64.toInt_mul, e100, hv, bm64 (by omega) (by omega), q1, Int.pow_succ]
theorem p100n {v : Int64} {n : Nat} (hv : v.toInt = 100 ^ n) : v ≠ 0 := by
  intro q
  rw [q] at hv
  have : (0 : Nat) < 100 ^ n := Nat.pow_pos (by decide)
  have h2 : (0 : Int) < 100 ^ n := by exact_mod_cast this
  have h3 : (0 : Int64).toInt = 0 := by decide
  omega
theorem lg0 {y : Int64} {z : Int32} (e : z = lg_cmp y 0) (h : ¬ z = 0) : ¬ y = 0 := by
  intro q
  subst q
  subst e
  exact h (by decide)
theorem lg1 {y : Int64} {z : Int32} (e : z = lg_cmp y 0) (h : z = 0) : y = 0 := by
  subst e
  unfold lg_cmp at h
  split at h
  · exact absurd h (by decide)
  · split at h
    · assumption
    · exact absurd h (by decide)
theorem lown {x y : Int64} {z : Int32} (hx : ¬ (x = 0 ∧ y = 0)) (e : z = lg_cmp y 0) (h : z = 0) : ¬ x = 0 := fun q => hx ⟨q, lg1 e h⟩
theorem cp_0 {f h : Nat → Int32} : ∀ i : Nat, i < (0 : Int32).toInt.toNat → h i = f i := fun i q => absurd q (by rw [zI]; exact Nat.not_lt_zero _)
theorem cp_step {f h : Nat → Int32} {k k' z v : Int32} (hx : ∀ i : Nat, i < k.toInt.toNat → h i = f i) (iz : z.toInt = 0 + k.toInt) (ev : v = f z.toNatClampNeg) (ik : k'.toInt = k.toInt + 1) (h0 : 0 ≤ k.toInt) : ∀ i : Nat, i < k'.toInt.toNat → upd h z.toNatClampNeg v i = f i := by
  intro i q
  have t := tn_i (z := z) (by omega)
  unfold upd
  split
  · rename_i e
    rw [ev, e]
  · exact hx i (by omega)

theorem P_mem {D : va_G} {cl : List vw_C} {ws : va_W} {H : Heap} : va_P D cl ws H ↔ ∀ q ∈ ws, va_at D cl q H :=
  ⟨fun h q hq => by
    obtain ⟨k, hk⟩ := List.mem_iff_getElem?.mp hq
    exact h k q hk, fun h k q hk => h q (List.mem_of_getElem? hk)⟩
theorem P_perm {D : va_G} {cl : List vw_C} {ws ws' : va_W} {H : Heap} (hp : ws.Perm ws') (h : va_P D cl ws H) : va_P D cl ws' H :=
  P_mem.mpr fun q hq => P_mem.mp h q (hp.mem_iff.mpr hq)
theorem D_nd {A : Nat → Prop} {ws : va_W} : va_D A ws ↔ (ws.map Prod.fst).Nodup ∧ ∀ q ∈ ws, A q.1 := by
  constructor
  · intro h
    refine ⟨?_, fun q hq => ?_⟩
    · rw [List.nodup_iff_pairwise_ne, List.pairwise_iff_getElem]
      intro i j hi hj hij e
      simp only [List.length_map] at hi hj
      simp only [List.getElem_map] at e
      have := h.1 i j ws[i] ws[j] (List.getElem?_eq_getElem hi) (List.getElem?_eq_getElem hj) e
      omega
    · obtain ⟨k, hk⟩ := List.mem_iff_getElem?.mp hq
      exact h.2 k q hk
  · intro h
    refine ⟨fun i j p q hi hj e => ?_, fun k q hk => h.2 q (List.mem_of_getElem? hk)⟩
    obtain ⟨li, ei⟩ := List.getElem?_eq_some_iff.mp hi
    obtain ⟨lj, ej⟩ := List.getElem?_eq_some_iff.mp hj
    have h1 := h.1
    rw [List.nodup_iff_pairwise_ne, List.pairwise_iff_getElem] at h1
    rcases Nat.lt_trichotomy i j with q1 | q1 | q1
    · have hx := h1 i j (by simpa using li) (by simpa using lj) q1
      simp only [List.getElem_map, ei, ej] at hx
      exact absurd e hx
    · exact q1
    · have hx := h1 j i (by simpa using lj) (by simpa using li) q1
      simp only [List.getElem_map, ei, ej] at hx
      exact absurd e.symm hx
theorem D_perm {A : Nat → Prop} {ws ws' : va_W} (hp : ws.Perm ws') (h : va_D A ws) : va_D A ws' := by
  rw [D_nd] at h ⊢
  exact ⟨(hp.map Prod.fst).nodup_iff.mp h.1, fun q hq => h.2 q (hp.mem_iff.mpr hq)⟩
theorem nd_of : ∀ {l : List Nat}, l.Nodup → va_nd l = true
  | [], _ => rfl
  | a :: l, h => by
    rw [List.nodup_cons] at h
    unfold va_nd
    have := nd_of h.2
    simp [this, h.1]
theorem rg_map (w1 w2 : va_W) : (List.range w1.length).map (fun i => (w1 ++ w2)[i]?) = w1.map some := by
  refine List.ext_getElem? fun i => ?_
  simp only [List.getElem?_map]
  rcases Nat.lt_or_ge i w1.length with h | h
  · rw [List.getElem?_range h, List.getElem?_eq_getElem h]
    simp [List.getElem?_append_left h, h]
  · rw [List.getElem?_eq_none (by simpa using h), List.getElem?_eq_none h]
    rfl
theorem rg_map2 (w1 w2 : va_W) : (List.range' w1.length w2.length).map (fun i => (w1 ++ w2)[i]?) = w2.map some := by
  refine List.ext_getElem? fun i => ?_
  simp only [List.getElem?_map]
  rcases Nat.lt_or_ge i w2.length with h | h
  · rw [List.getElem?_range' h, List.getElem?_eq_getElem h]
    simp [List.getElem?_append_right, h]
  · rw [List.getElem?_eq_none (by simpa using h), List.getElem?_eq_none h]
    rfl
theorem fm_map {α β : Type} {f : α → Option β} : ∀ {l : List α} {w : List β}, l.map f = w.map some → l.filterMap f = w
  | [], w, h => by
    cases w with
    | nil => rfl
    | cons a w => cases h
  | a :: l, w, h => by
    cases w with
    | nil => cases h
    | cons b w =>
      simp only [List.map_cons, List.cons.injEq] at h
      rw [List.filterMap_cons, h.1]
      show b :: _ = _
      rw [fm_map h.2]
theorem pm_ix {ws ws' : va_W} (is : List Nat) (h : is.isPerm (List.range ws.length) = true) (h2 : is.filterMap (fun i => ws[i]?) = ws') : ws.Perm ws' := by
  have h0 : (List.range ws.length).filterMap (fun i => ws[i]?) = ws := by
    have := rg_map ws []
    rw [List.append_nil] at this
    exact fm_map this
  rw [← h2]
  have h1 : is.Perm (List.range ws.length) := List.isPerm_iff.mp h
  have h3 := (h1.filterMap (fun i => ws[i]?)).symm
  rw [h0] at h3
  exact h3
theorem pm_t {ex w1 w2 : va_W} (pl : va_W) (h : ex.Perm (w1 ++ w2)) : (ex ++ pl).Perm ((w1 ++ pl) ++ w2) := by
  refine (h.append_right pl).trans ?_
  rw [List.append_assoc, List.append_assoc]
  exact List.Perm.append_left w1 List.perm_append_comm
theorem pm_u {ex w1 w2 : va_W} (pl : va_W) (h : ex.Perm (w1 ++ w2)) : (ex ++ pl).Perm (w1 ++ (w2 ++ pl)) := by
  refine (h.append_right pl).trans ?_
  rw [List.append_assoc]
theorem pm_n {w1 w2 : va_W} (pl : va_W) : ((w1 ++ pl) ++ w2).Perm ((w1 ++ w2) ++ pl) := by
  rw [List.append_assoc, List.append_assoc]
  exact List.Perm.append_left w1 List.perm_append_comm
section KP
variable {p : Program} {l : Launch} {e : Env} {R : Room} {s : State} {m : MethodId} {args : Array Value} {below : List Frame} {meth : Method} {c : Code} {Q : State → Prop} {A : Nat → Prop} {g : Gx} {cc : ByteArray} {nL n1 n2 pc : Nat} {own : String} {ws : va_W} {lv : List (Nat × Value)} {st : List Value}
theorem k_perm (ws' : va_W) (hp : ws.Perm ws') (kk : Wk p l e R s m args below meth c Q A g nL n1 n2 ws' lv pc st) : Wk p l e R s m args below meth c Q A g nL n1 n2 ws lv pc st := fun H locs ls hP hD hS hl => kk H locs ls (P_perm hp hP) (D_perm hp hD) hS hl
theorem k_steq (st' : List Value) (h : st = st') (kk : Wk p l e R s m args below meth c Q A g nL n1 n2 ws lv pc st') : Wk p l e R s m args below meth c Q A g nL n1 n2 ws lv pc st := by rw [h]; exact kk
theorem k_callVVP {y : MethodName} {b : ByteArray} {nY f lo mc ms i n : Nat} {As : List Value} {P : va_W → Prop} {C : String} {qC : vw_C} {a : Nat} (X : Cx p s m meth c args cc nL own A g) (wc wr : va_W) (hpm : ws.Perm (wr ++ wc)) (hM : cV l g y b nY f lo mc ms (.ref a :: As) wc P) (hd : decode cc pc = .ok (.invokevirtual i, 3)) (hm1 : Cond.methodLink own i y ∈ wsL_law0) (hm2 : Cond.instanceMethod y ∈ wsL_law0) (hm3 : Cond.selects C y y ∈ wsL_law0) (hm4 : Cond.initialized C ∈ wsL_law0) (hm5 : Cond.code y b nY none ∈ wsL_law0) (hC : y.cls = C) (ci : Nat) (hc : vwCl[ci]? = some qC) (hqC : qC.1 = C) (q0 : Nat) (fs : List Value) (hr0 : wc[q0]? = some (a, .inr (ci, fs))) (hy : yOk y n) (hnA : As.length = n) (hf : f + 1 ≤ R.frames) (hlo : 8 + (nY + 11) + lo ≤ R.locals) (hst : (st.map fun v => v.category).sum ≤ 8) (h1 : n1 + mc ≤ R.cells) (h2 : n2 + ms ≤ R.slots)
    
    (kk : ∀ (w : va_W), P w → Wk p l e R s m args below meth c Q A g nL (n1 + mc) (n2 + ms) (wr ++ w) lv (pc + 3) st) : Wk p l e R s m args below meth c Q A g nL n1 n2 ws lv pc (As.reverse ++ .ref a :: st) :=
  k_perm _ hpm (k_callVV (As := As) (st := st) X wc wr (List.range' wr.length wc.length) (List.range wr.length) hM hd hm1 hm2 hm3 hm4 hm5 hC ci hc hqC q0 fs hr0 hy hnA hf hlo hst h1 h2 (fm_map (rg_map2 wr wc)) (rg_map2 wr wc) (nd_of List.nodup_range') (rg_map wr wc) (nd_of List.nodup_range) (fun i h1 h2 => by rw [List.mem_range] at h1; rw [List.mem_range'_1] at h2; omega) kk)
theorem k_callVIP {y : MethodName} {b : ByteArray} {nY f lo mc ms i n : Nat} {ret : Option FieldType} {As : List Value} {P : Int32 → va_W → Prop} {C : String} {qC : vw_C} {a : Nat} (X : Cx p s m meth c args cc nL own A g) (wc wr : va_W) (hpm : ws.Perm (wr ++ wc)) (hM : cI l g y b nY ret f lo mc ms (.ref a :: As) wc P) (hd : decode cc pc = .ok (.invokevirtual i, 3)) (hm1 : Cond.methodLink own i y ∈ wsL_law0) (hm2 : Cond.instanceMethod y ∈ wsL_law0) (hm3 : Cond.selects C y y ∈ wsL_law0) (hm4 : Cond.initialized C ∈ wsL_law0) (hm5 : Cond.code y b nY ret ∈ wsL_law0) (hC : y.cls = C) (ci : Nat) (hc : vwCl[ci]? = some qC) (hqC : qC.1 = C) (q0 : Nat) (fs : List Value) (hr0 : wc[q0]? = some (a, .inr (ci, fs))) (hy : yOk y n) (hnA : As.length = n) (hf : f + 1 ≤ R.frames) (hlo : 8 + (nY + 11) + lo ≤ R.locals) (hst : (st.map fun v => v.category).sum ≤ 8) (h1 : n1 + mc ≤ R.cells) (h2 : n2 + ms ≤ R.slots)
    
    (kk : ∀ (r : Int32) (w : va_W), P r w → Wk p l e R s m args below meth c Q A g nL (n1 + mc) (n2 + ms) (wr ++ w) lv (pc + 3) (.int r :: st)) : Wk p l e R s m args below meth c Q A g nL n1 n2 ws lv pc (As.reverse ++ .ref a :: st) :=
  k_perm _ hpm (k_callVI (As := As) (st := st) X wc wr (List.range' wr.length wc.length) (List.range wr.length) hM hd hm1 hm2 hm3 hm4 hm5 hC ci hc hqC q0 fs hr0 hy hnA hf hlo hst h1 h2 (fm_map (rg_map2 wr wc)) (rg_map2 wr wc) (nd_of List.nodup_range') (rg_map wr wc) (nd_of List.nodup_range) (fun i h1 h2 => by rw [List.mem_range] at h1; rw [List.mem_range'_1] at h2; omega) kk)
theorem k_callVLP {y : MethodName} {b : ByteArray} {nY f lo mc ms i n : Nat} {ret : Option FieldType} {As : List Value} {P : Int64 → va_W → Prop} {C : String} {qC : vw_C} {a : Nat} (X : Cx p s m meth c args cc nL own A g) (wc wr : va_W) (hpm : ws.Perm (wr ++ wc)) (hM : cL l g y b nY ret f lo mc ms (.ref a :: As) wc P) (hd : decode cc pc = .ok (.invokevirtual i, 3)) (hm1 : Cond.methodLink own i y ∈ wsL_law0) (hm2 : Cond.instanceMethod y ∈ wsL_law0) (hm3 : Cond.selects C y y ∈ wsL_law0) (hm4 : Cond.initialized C ∈ wsL_law0) (hm5 : Cond.code y b nY ret ∈ wsL_law0) (hC : y.cls = C) (ci : Nat) (hc : vwCl[ci]? = some qC) (hqC : qC.1 = C) (q0 : Nat) (fs : List Value) (hr0 : wc[q0]? = some (a, .inr (ci, fs))) (hy : yOk y n) (hnA : As.length = n) (hf : f + 1 ≤ R.frames) (hlo : 8 + (nY + 11) + lo ≤ R.locals) (hst : (st.map fun v => v.category).sum ≤ 8) (h1 : n1 + mc ≤ R.cells) (h2 : n2 + ms ≤ R.slots)
    
    (kk : ∀ (r : Int64) (w : va_W), P r w → Wk p l e R s m args below meth c Q A g nL (n1 + mc) (n2 + ms) (wr ++ w) lv (pc + 3) (.long r :: st)) : Wk p l e R s m args below meth c Q A g nL n1 n2 ws lv pc (As.reverse ++ .ref a :: st) :=
  k_perm _ hpm (k_callVL (As := As) (st := st) X wc wr (List.range' wr.length wc.length) (List.range wr.length) hM hd hm1 hm2 hm3 hm4 hm5 hC ci hc hqC q0 fs hr0 hy hnA hf hlo hst h1 h2 (fm_map (rg_map2 wr wc)) (rg_map2 wr wc) (nd_of List.nodup_range') (rg_map wr wc) (nd_of List.nodup_range) (fun i h1 h2 => by rw [List.mem_range] at h1; rw [List.mem_range'_1] at h2; omega) kk)
theorem k_callIIP {y : MethodName} {b : ByteArray} {nY f lo mc ms i n a : Nat} {As : List Value} {P : va_W → Prop} (X : Cx p s m meth c args cc nL own A g) (wc wr : va_W) (hpm : ws.Perm (wr ++ wc)) (hM : cV l g y b nY f lo mc ms (.ref a :: As) wc P) (hd : decode cc pc = .ok (.invokespecial i, 3)) (hm1 : Cond.methodLink own i y ∈ wsL_law0) (hm2 : Cond.instanceMethod y ∈ wsL_law0) (hm4 : Cond.initialized y.cls ∈ wsL_law0) (hm5 : Cond.code y b nY none ∈ wsL_law0) (hyi : y.name = "<init>") (hy : yOk y n) (hnA : As.length = n) (hf : f + 1 ≤ R.frames) (hlo : 8 + (nY + 11) + lo ≤ R.locals) (hst : (st.map fun v => v.category).sum ≤ 8) (h1 : n1 + mc ≤ R.cells) (h2 : n2 + ms ≤ R.slots)
    
    (kk : ∀ (w : va_W), P w → Wk p l e R s m args below meth c Q A g nL (n1 + mc) (n2 + ms) (wr ++ w) lv (pc + 3) st) : Wk p l e R s m args below meth c Q A g nL n1 n2 ws lv pc (As.reverse ++ .ref a :: st) :=
  k_perm _ hpm (k_callII (As := As) (st := st) X wc wr (List.range' wr.length wc.length) (List.range wr.length) hM hd hm1 hm2 hm4 hm5 hyi hy hnA hf hlo hst h1 h2 (fm_map (rg_map2 wr wc)) (rg_map2 wr wc) (nd_of List.nodup_range') (rg_map wr wc) (nd_of List.nodup_range) (fun i h1 h2 => by rw [List.mem_range] at h1; rw [List.mem_range'_1] at h2; omega) kk)
theorem k_callINP {y : MethodName} {b : ByteArray} {nY f lo mc ms i n a : Nat} {host : String} {As : List Value} {P : va_W → Prop} (X : Cx p s m meth c args cc nL own A g) (wc wr : va_W) (hpm : ws.Perm (wr ++ wc)) (hM : cV l g y b nY f lo mc ms (.ref a :: As) wc P) (hd : decode cc pc = .ok (.invokespecial i, 3)) (hm1 : (own, i, y, host) ∈ nestL) (hm2 : Cond.instanceMethod y ∈ wsL_law0) (hm4 : Cond.initialized y.cls ∈ wsL_law0) (hm5 : Cond.code y b nY none ∈ wsL_law0) (hyi : y.name = "<init>") (hy : yOk y n) (hnA : As.length = n) (hf : f + 1 ≤ R.frames) (hlo : 8 + (nY + 11) + lo ≤ R.locals) (hst : (st.map fun v => v.category).sum ≤ 8) (h1 : n1 + mc ≤ R.cells) (h2 : n2 + ms ≤ R.slots)
    
    (kk : ∀ (w : va_W), P w → Wk p l e R s m args below meth c Q A g nL (n1 + mc) (n2 + ms) (wr ++ w) lv (pc + 3) st) : Wk p l e R s m args below meth c Q A g nL n1 n2 ws lv pc (As.reverse ++ .ref a :: st) :=
  k_perm _ hpm (k_callIN (As := As) (st := st) X wc wr (List.range' wr.length wc.length) (List.range wr.length) hM hd hm1 hm2 hm4 hm5 hyi hy hnA hf hlo hst h1 h2 (fm_map (rg_map2 wr wc)) (rg_map2 wr wc) (nd_of List.nodup_range') (rg_map wr wc) (nd_of List.nodup_range) (fun i h1 h2 => by rw [List.mem_range] at h1; rw [List.mem_range'_1] at h2; omega) kk)
theorem k_iretP {mc ms : Nat} {P : Int32 → va_W → Prop} {v : Int32} {w : va_W} (X : Cx p s m meth c args cc nL own A g) (hr : meth.sig.returnType = some .int) (hd : decode cc pc = .ok (.ireturn, 1)) (h1 : n1 ≤ mc) (h2 : n2 ≤ ms) (rest : va_W) (hpm : ws.Perm (w ++ rest)) (hp : P v w) : Wk p l e R s m args below meth c (MQ below (va_Qi P (kPost g A) A) args s mc ms A) A g nL n1 n2 ws lv pc [.int v] :=
  k_perm _ hpm (k_iret X hr hd h1 h2 (List.range w.length) (nd_of List.nodup_range) (fm_map (rg_map w rest)) (rg_map w rest) hp)
theorem k_zretP {mc ms : Nat} {P : Int32 → va_W → Prop} {v : Int32} {w : va_W} {ty : FieldType} (X : Cx p s m meth c args cc nL own A g) (hr : meth.sig.returnType = some ty) (hna : narrow ty (.int v) = .int v) (hd : decode cc pc = .ok (.ireturn, 1)) (h1 : n1 ≤ mc) (h2 : n2 ≤ ms) (rest : va_W) (hpm : ws.Perm (w ++ rest)) (hp : P v w) : Wk p l e R s m args below meth c (MQ below (va_Qi P (kPost g A) A) args s mc ms A) A g nL n1 n2 ws lv pc [.int v] :=
  k_perm _ hpm (k_zret X hr hna hd h1 h2 (List.range w.length) (nd_of List.nodup_range) (fm_map (rg_map w rest)) (rg_map w rest) hp)
theorem k_vretP {mc ms : Nat} {P : va_W → Prop} {w : va_W} (X : Cx p s m meth c args cc nL own A g) (hr : meth.sig.returnType = none) (hd : decode cc pc = .ok (.return_, 1)) (h1 : n1 ≤ mc) (h2 : n2 ≤ ms) (rest : va_W) (hpm : ws.Perm (w ++ rest)) (hp : P w) : Wk p l e R s m args below meth c (MQ below (va_Qv P (kPost g A) A) args s mc ms A) A g nL n1 n2 ws lv pc [] :=
  k_perm _ hpm (k_vret X hr hd h1 h2 (List.range w.length) (nd_of List.nodup_range) (fm_map (rg_map w rest)) (rg_map w rest) hp)
end KP
def cQ (l : Launch) (g : Gx) (y : MethodName) (c : ByteArray) (n : Nat) (ret : Option FieldType) (f lo mc ms : Nat) (av : List Value) (ws : va_W) (P : Option Nat → va_W → Prop) : Prop :=
  ∀ sz : Nat, Met l y (Cond.code y c n ret :: wsL_law0) (rm4 f lo mc ms) (va_Pc av (kPre g ws sz)) (va_Qq P (kPost g (va_A ws sz)) (va_A ws sz)) mc ms (va_A ws sz)
section KQ
variable {p : Program} {l : Launch} {e : Env} {R : Room} {s : State} {m : MethodId} {args : Array Value} {below : List Frame} {meth : Method} {c : Code} {Q : State → Prop} {A : Nat → Prop} {g : Gx} {cc : ByteArray} {nL n1 n2 pc : Nat} {own : String} {ws : va_W} {lv : List (Nat × Value)} {st : List Value}
theorem cQ.of {y : MethodName} {n f lo mc ms : Nat} {ret : Option FieldType} {av : List Value} {P : Option Nat → va_W → Prop} (hy : plainName y.cls = true) (hn : (lg_sl av).length ≤ n)
    (body : ∀ (p : Program) (e : Env) (s : State) (m : MethodId) (args : Array Value) (below : List Frame) (meth : Method) (c : Code) (A : Nat → Prop), Cx p s m meth c args cc n y.cls A g → meth.sig.returnType = ret → meth.name = y.name →
      Wk p l e (rm4 f lo mc ms) s m args below meth c (MQ below (va_Qq P (kPost g A) A) args s mc ms A) A g n 0 0 ws (lv_args 0 av) 0 []) : cQ l g y cc n ret f lo mc ms av ws P := by
  intro sz
  refine Met.ofW (cc := cc) (maxL := n) (ret := ret) hy rfl ?_
  intro p e s m args below meth c s₁ B hml hv
  obtain ⟨rfl, hsz, hP, hK, hD0, hSt⟩ := hv
  subst hsz
  have hts := atoms_spec (ws := Cond.code y cc n ret :: wsL_law0) B.pre
  rw [lg_entry_eq]
  exact body p e s m _ below meth c (va_A ws s.heap.size) ⟨B.exec, B.bytes, hml, findClass_of_methodNamed B.named, fun w h => hts w (List.mem_cons_of_mem _ h), hK, fun q h => Or.inr h, B.notSynchronized, hSt⟩ B.returns (name_of_methodNamed B.named B.method).1 _ _ _ hP hD0.self va_S.rf (lv_entry av hn)
theorem k_qret {mc ms : Nat} {P : Option Nat → va_W → Prop} {v : Option Nat} {w : va_W} {rt : FieldType} (X : Cx p s m meth c args cc nL own A g) (hr : meth.sig.returnType = some rt) (hrt : (∃ n, rt = .object n) ∨ ∃ t, rt = .array t) (hd : decode cc pc = .ok (.areturn, 1)) (h1 : n1 ≤ mc) (h2 : n2 ≤ ms) (is : List Nat) (hn : va_nd is = true) (hs1 : is.filterMap (fun i => ws[i]?) = w) (hs2 : is.map (fun i => ws[i]?) = w.map some) (hp : P v w) : Wk p l e R s m args below meth c (MQ below (va_Qq P (kPost g A) A) args s mc ms A) A g nL n1 n2 ws lv pc [va_rf v] := by
  intro H locs ls hP hD hS hl
  refine W.widen h1 h2 ?_
  exact W.aret X.1 X.2.1 hr hrt (va_rf_or v) (fun t ht hW => ⟨⟨v, w, rfl, hp, by rw [ht]; exact hP.sub is hs1, hD.sub is hn hs2⟩, hS.F ht⟩) hS.2.2 hd X.2.2.2.2.2.2.2.1
theorem k_aldq {a n : Nat} {f : Nat → Option Nat} {x : Int32} (X : Cx p s m meth c args cc nL own A g) (hd : decode cc pc = .ok (.aaload, 1)) (q : Nat) (he : ws[q]? = some (a, .inl (g.2.2.2.2.1, n, .inr (.inr (.inr (.inr f)))))) (hi : vp_in x n) (kk : Wk p l e R s m args below meth c Q A g nL n1 n2 ws lv (pc + 1) (va_rf (f x.toNatClampNeg) :: st)) : Wk p l e R s m args below meth c Q A g nL n1 n2 ws lv pc (.int x :: .ref a :: st) :=
  fun H locs ls hP hD hS hl => va_aldq (D := g.1) (cl := vwCl) X.1 X.2.1 X.2.2.2.2.2.1.1 hP q 3 he rfl hi hd (kk H locs ls hP hD hS hl)
theorem k_null (X : Cx p s m meth c args cc nL own A g) (hd : decode cc pc = .ok (.aconst_null, 1)) (kk : Wk p l e R s m args below meth c Q A g nL n1 n2 ws lv (pc + 1) (.null :: st)) : Wk p l e R s m args below meth c Q A g nL n1 n2 ws lv pc st := fun H locs ls hP hD hS hl => lv_null X.1 X.2.1 hd (kk H locs ls hP hD hS hl)
theorem k_ifnnN {off : Int} (X : Cx p s m meth c args cc nL own A g) (hd : decode cc pc = .ok (.ifnonnull off, 3)) (kk : Wk p l e R s m args below meth c Q A g nL n1 n2 ws lv (pc + 3) st) : Wk p l e R s m args below meth c Q A g nL n1 n2 ws lv pc (.null :: st) := fun H locs ls hP hD hS hl => lv_ifnonnullN X.1 X.2.1 hd (kk H locs ls hP hD hS hl)
theorem k_astN {k : Fin 4} (lv' : List (Nat × Value)) (X : Cx p s m meth c args cc nL own A g) (hd : decode cc pc = .ok (.astore_n k, 1)) (hn : (k : Nat) < nL) (hv : ((k : Nat), Value.null) :: lv.filter (fun q => !(q.1 == (k : Nat)) && !(q.1 + 1 == (k : Nat) && q.2.category == 2)) = lv') (kk : Wk p l e R s m args below meth c Q A g nL n1 n2 ws lv' (pc + 1) st) : Wk p l e R s m args below meth c Q A g nL n1 n2 ws lv pc (.null :: st) := fun H locs ls hP hD hS hl => lv_astore_nN X.1 X.2.1 hd rfl hl hn hv (fun ls hl => kk H locs ls hP hD hS hl)
theorem k_aldN {k : Fin 4} (X : Cx p s m meth c args cc nL own A g) (hd : decode cc pc = .ok (.aload_n k, 1)) (j : Nat) (hj : lv[j]? = some ((k : Nat), .null)) (kk : Wk p l e R s m args below meth c Q A g nL n1 n2 ws lv (pc + 1) (.null :: st)) : Wk p l e R s m args below meth c Q A g nL n1 n2 ws lv pc st := fun H locs ls hP hD hS hl => lv_aload_nN X.1 X.2.1 hd rfl (hl.2.2 _ (List.mem_of_getElem? hj)) (kk H locs ls hP hD hS hl)
theorem k_callSQ {y : MethodName} {b : ByteArray} {nY f lo mc ms i n : Nat} {ret : Option FieldType} {As : List Value} {P : Option Nat → va_W → Prop} (X : Cx p s m meth c args cc nL own A g) (wc wr : va_W) (isC isR : List Nat) (hM : cQ l g y b nY ret f lo mc ms As wc P) (hd : decode cc pc = .ok (.invokestatic i, 3)) (hm1 : Cond.methodLink own i y ∈ wsL_law0) (hm2 : Cond.static y ∈ wsL_law0) (hm4 : Cond.initialized y.cls ∈ wsL_law0) (hm5 : Cond.code y b nY ret ∈ wsL_law0) (hy : yOk y n) (hnA : As.length = n) (hf : f + 1 ≤ R.frames) (hlo : 8 + (nY + 11) + lo ≤ R.locals) (hst : (st.map fun v => v.category).sum ≤ 8) (h1 : n1 + mc ≤ R.cells) (h2 : n2 + ms ≤ R.slots)
    (hC1 : isC.filterMap (fun i => ws[i]?) = wc) (hC2 : isC.map (fun i => ws[i]?) = wc.map some) (hC3 : va_nd isC = true) (hR2 : isR.map (fun i => ws[i]?) = wr.map some) (hR3 : va_nd isR = true) (hdis : ∀ i ∈ isR, i ∉ isC)
    (kk : ∀ (r : Option Nat) (w : va_W), P r w → Wk p l e R s m args below meth c Q A g nL (n1 + mc) (n2 + ms) (wr ++ w) lv (pc + 3) (va_rf r :: st)) : Wk p l e R s m args below meth c Q A g nL n1 n2 ws lv pc (As.reverse ++ st) := by
  intro H locs ls hP hD hS hl
  have hPc := hP.sub (ws' := wc) isC hC1
  have hDc := hD.sub (ws' := wc) isC hC3 hC2
  have hFc := va_free (wc := wc) hD hS X.2.2.2.2.2.2.1 isC hC2
  refine va_callq (va_runS (As := As) (rest := st) ⟨X.1, X.2.1, X.2.2.1, X.2.2.2.1, X.2.2.2.2.1⟩ (hM H.size) ⟨callB_of n X.2.2.2.2.1 (gC hm5) rfl rfl rfl (X.2.2.2.2.1 _ hm4) (X.2.2.2.2.1 _ hm1) hy ⟨hf, hlo⟩, X.2.2.2.2.1 _ hm2⟩ ⟨k_blind, k_pre (ws := ws) X.2.2.2.2.2.1 hPc hDc X.2.2.2.2.2.2.2.2 hS hFc⟩ rfl hnA hl.1 rfl (lv_room hst) hd ⟨h1, h2⟩) hS (fun q _ h => hFc q h) hFc (fun r w t H1 locs1 ht hvm hw hB hz1 hk1 hS1 => ?_)
  obtain ⟨hP1, hD1⟩ := hB
  rw [ht] at hP1
  obtain ⟨hP2, hD2⟩ := va_join (wr := wr) (w1 := w) hP hD isC isR hC2 hR2 hR3 hdis hk1 hFc hP1 hD1
  exact kk r w hw H1 locs1 ls hP2 hD2 hS1 hl
end KQ
/-- the cells of one State at a -/
def SW (g : Gx) (a : Nat) (w : va_W) : Prop := ∃ (xr xm xw xp xrc xmc xwc xpc : Nat) (xmd xtr xrn xmn xwn xpn : Int32) (xrf xmf xwf xpf : Nat → Int32), w = [(a, .inr (7, [.ref xr, .ref xm, .ref xw, .ref xp, .int xmd, .int xtr])), (xr, .inr (8, [.int 8, .int 3, .ref xrc, .int xrn])), (xrc, .inl (g.2.2.1, 24, .inl xrf)), (xm, .inr (8, [.int 12, .int 3, .ref xmc, .int xmn])), (xmc, .inl (g.2.2.1, 36, .inl xmf)), (xw, .inr (8, [.int 6, .int 3, .ref xwc, .int xwn])), (xwc, .inl (g.2.2.1, 18, .inl xwf)), (xp, .inr (8, [.int 8, .int 2, .ref xpc, .int xpn])), (xpc, .inl (g.2.2.1, 16, .inl xpf))]
def PL (g : Gx) : List Nat → va_W → Prop
  | [], pl => pl = []
  | a :: as, pl => ∃ w pl', SW g a w ∧ PL g as pl' ∧ pl = w ++ pl'
theorem PL.focus {g : Gx} : ∀ {as : List Nat} {pl : va_W} {i a : Nat}, PL g as pl → as[i]? = some a → ∃ w rest, SW g a w ∧ pl.Perm (w ++ rest) ∧ ∀ w', SW g a w' → ∃ pl', PL g as pl' ∧ (w' ++ rest).Perm pl'
  | [], pl, i, a, _, h => by simp at h
  | b :: as, pl, 0, a, hP, h => by
    obtain ⟨w, pl', h1, h2, rfl⟩ := hP
    obtain rfl : b = a := by simpa using h
    exact ⟨w, pl', h1, List.Perm.refl _, fun w' hw => ⟨w' ++ pl', ⟨w', pl', hw, h2, rfl⟩, List.Perm.refl _⟩⟩
  | b :: as, pl, i + 1, a, hP, h => by
    obtain ⟨w, pl', h1, h2, rfl⟩ := hP
    obtain ⟨v, rest, g1, g2, g3⟩ := PL.focus h2 (by simpa using h)
    refine ⟨v, w ++ rest, g1, ?_, fun w' hw => ?_⟩
    · refine (List.Perm.append_left w g2).trans ?_
      rw [← List.append_assoc, ← List.append_assoc]
      exact List.Perm.append_right rest List.perm_append_comm
    · obtain ⟨pl2, k1, k2⟩ := g3 w' hw
      refine ⟨w ++ pl2, ⟨w, pl2, h1, k1, rfl⟩, ?_⟩
      refine List.Perm.trans ?_ (List.Perm.append_left w k2)
      rw [← List.append_assoc, ← List.append_assoc]
      exact List.Perm.append_right rest List.perm_append_comm

/-- what one State holds: counts of reels, marks, weak places, places; mended, trims; the four tables -/
abbrev SC : Type := Int32 × Int32 × Int32 × Int32 × Int32 × Int32 × (Nat → Int32) × (Nat → Int32) × (Nat → Int32) × (Nat → Int32)
def ucf (cf : Nat → SC) (i : Nat) (c : SC) : Nat → SC := fun j => if j = i then c else cf j
theorem ucf_at {cf : Nat → SC} {i : Nat} {c : SC} : ucf cf i c i = c := if_pos rfl
theorem ucf_ne {cf : Nat → SC} {i j : Nat} {c : SC} (h : j ≠ i) : ucf cf i c j = cf j := if_neg h

section KD
variable {p : Program} {l : Launch} {e : Env} {R : Room} {s : State} {m : MethodId} {args : Array Value} {below : List Frame} {meth : Method} {c : Code} {Q : State → Prop} {A : Nat → Prop} {g : Gx} {cc : ByteArray} {nL n1 n2 pc : Nat} {own : String} {ws : va_W} {lv : List (Nat × Value)} {st : List Value}
theorem k_dup2 {va vb : Value} (X : Cx p s m meth c args cc nL own A g) (hd : decode cc pc = .ok (.dup2, 1)) (ha : va.category = 1) (hb : vb.category = 1) (kk : Wk p l e R s m args below meth c Q A g nL n1 n2 ws lv (pc + 1) (va :: vb :: va :: vb :: st)) : Wk p l e R s m args below meth c Q A g nL n1 n2 ws lv pc (va :: vb :: st) := fun H locs ls hP hD hS hl => lv_dup2_11 X.1 X.2.1 hd ha hb (kk H locs ls hP hD hS hl)
end KD
def lookF (f : Nat → Int32) (n k : Int32) : Int32 := if k < n then f k.toNatClampNeg else -1
theorem look_str {f : Nat → Int32} {n k0 k c r : Int32} {a b : Int} (h1 : c = lookF f n k0) (h2 : r = lookF f n k) (hc : IV c a b) (hr : r.toInt < a ∨ b < r.toInt) (hk : k0.toInt ≤ k.toInt) : k0.toInt < k.toInt := by
  rcases Int.lt_or_eq_of_le hk with q | q
  · exact q
  · have e : k0 = k := Int32.toInt_inj.mp q
    subst e
    have e2 : r = c := h2.trans h1.symm
    subst e2
    have := hc
    omega

/-- towns that have a NAME have trust; so have the towns of marks -/
def TRI (f : Nat → Int32) : Prop := (∀ t : Nat, t < 4 → 0 < (f (175 + t)).toInt → 1 ≤ (f (40 + t)).toInt) ∧ ∀ m : Nat, (m : Int) < (f 8).toInt → 1 ≤ (f (40 + (f (46 + 3 * m)).toInt.toNat)).toInt
theorem rinv_8 {f : Nat → Int32} (h : RInv f) : IV (f 8) 0 12 := rb_8 (y := f 8) rfl h
theorem rinv_46 {f : Nat → Int32} (h : RInv f) {m : Nat} (hm : m < 12) : IV (f (46 + 3 * m)) 0 3 := by
  have q := (h (46 + 3 * m))
  unfold ROK at q
  have := q.2.2.2.2.2.2.2.2.2.2.2.2.1 ⟨by omega, by omega, by omega⟩
  exact this
theorem upd_ne {f : Nat → Int32} {i j : Nat} {v : Int32} (h : j ≠ i) : upd f i v j = f j := by
  unfold upd
  rw [if_neg h]
theorem upd_at {f : Nat → Int32} {i : Nat} {v : Int32} : upd f i v i = v := by
  unfold upd
  rw [if_pos rfl]
theorem tri_n {f : Nat → Int32} {v : Int32} {z : Nat} (h : TRI f) (hr : RInv f) (h1 : z ≠ 8) (h2 : z < 40 ∨ 44 ≤ z) (h3 : z < 46 ∨ 80 ≤ z ∨ z % 3 ≠ 1) (h4 : z < 175 ∨ 178 < z) : TRI (upd f z v) := by
  refine ⟨fun t ht q => ?_, fun m q => ?_⟩
  · rw [upd_ne (by omega)] at q ⊢
    exact h.1 t ht q
  · rw [upd_ne (by omega)] at q
    have hm := rinv_8 hr
    have ht := rinv_46 hr (m := m) (by omega)
    have e : upd f z v (46 + 3 * m) = f (46 + 3 * m) := upd_ne (by omega)
    rw [e, upd_ne (by have := ht; omega)]
    exact h.2 m q
theorem tri_z {f fn : Nat → Int32} {v z : Int32} (e : fn = upd f z.toNatClampNeg v) (h : TRI f) (hr : RInv f) (h0 : 0 ≤ z.toInt) (h1 : z.toInt ≠ 8) (h2 : z.toInt < 40 ∨ 44 ≤ z.toInt) (h3 : z.toInt < 46 ∨ 80 ≤ z.toInt ∨ z.toInt % 3 ≠ 1) (h4 : z.toInt < 175 ∨ 178 < z.toInt) : TRI fn := by
  have t := tn_i (z := z) h0
  rw [e]
  exact tri_n h hr (by omega) (by omega) (by omega) (by omega)
def K183 (f h : Nat → Int32) : Prop := ∀ i : Nat, i < 183 → h i = f i
theorem k183_u {f h fn : Nat → Int32} {z v : Int32} (k : K183 f h) (e : fn = upd h z.toNatClampNeg v) (hz : 183 ≤ z.toInt) : K183 f fn := by
  intro i q
  have t := tn_i (z := z) (by omega)
  rw [e, upd_ne (by omega)]
  exact k i q
/-- all but one NAME's size as it was -/
def KN (q : Int32) (f h : Nat → Int32) : Prop := ∀ i : Nat, i < 183 → (i : Int) ≠ 167 + q.toInt → h i = f i
theorem kn_u {f h fn : Nat → Int32} {q z v : Int32} (k : K183 f h) (e : fn = upd h z.toNatClampNeg v) (hz : z.toInt = 167 + q.toInt) (hq : 0 ≤ q.toInt) : KN q f fn := by
  intro i h1 h2
  have t := tn_i (z := z) (by omega)
  rw [e, upd_ne (by omega)]
  exact k i h1
theorem KN.k16 {q : Int32} {f h : Nat → Int32} (k : KN q f h) (hq : 0 ≤ q.toInt) : K16 f h := fun i hi => k i (by omega) (by omega)
theorem tri_kn {q : Int32} {f h : Nat → Int32} (ht : TRI f) (hr : RInv f) (k : KN q f h) (h0 : 0 ≤ q.toInt) (hq : q.toInt < 8 ∨ 11 < q.toInt) : TRI h := by
  refine ⟨fun t h1 h2 => ?_, fun m h1 => ?_⟩
  · rw [k (175 + t) (by omega) (by omega)] at h2
    rw [k (40 + t) (by omega) (by omega)]
    exact ht.1 t h1 h2
  · rw [k 8 (by omega) (by omega)] at h1
    have hm := rinv_8 hr
    have h3 := rinv_46 hr (m := m) (by omega)
    rw [k (46 + 3 * m) (by omega) (by omega), k (40 + (f (46 + 3 * m)).toInt.toNat) (by have := h3; omega) (by have := h3; omega)]
    exact ht.2 m h1
theorem tri_town {q v z tr : Int32} {f h fn : Nat → Int32} (ht : TRI f) (hr : RInv f) (k : KN q f h) (e : fn = upd h z.toNatClampNeg tr) (hq : q.toInt = 8 + v.toInt) (hv : IV v 0 3) (hz : z.toInt = 40 + v.toInt) (htr : IV tr 1 9) : TRI fn := by
  have w := hv
  have w2 := htr
  have t := tn_i (z := z) (by omega)
  subst e
  have hzz : z.toNatClampNeg = 40 + v.toInt.toNat := by omega
  rw [hzz]
  refine ⟨fun s h1 h2 => ?_, fun m h1 => ?_⟩
  · by_cases c : s = v.toInt.toNat
    · rw [c, upd_at]
      exact w2.1
    · rw [upd_ne (by omega), k (175 + s) (by omega) (by omega)] at h2
      rw [upd_ne (by omega), k (40 + s) (by omega) (by omega)]
      exact ht.1 s h1 h2
  · rw [upd_ne (by omega), k 8 (by omega) (by omega)] at h1
    have hm := rinv_8 hr
    have h3 := rinv_46 hr (m := m) (by omega)
    have w3 := h3
    have e46 : upd h (40 + v.toInt.toNat) tr (46 + 3 * m) = f (46 + 3 * m) := by rw [upd_ne (by omega), k (46 + 3 * m) (by omega) (by omega)]
    rw [e46]
    by_cases c : (f (46 + 3 * m)).toInt.toNat = v.toInt.toNat
    · rw [c, upd_at]
      exact w2.1
    · rw [upd_ne (by omega), k _ (by omega) (by omega)]
      exact ht.2 m h1
theorem tri_mark {v z0 z1 z2 a b tw v1 : Int32} {f f1 f2 f3 f4 : Nat → Int32} (ht : TRI f) (hr : RInv f) (e1 : f1 = upd f z0.toNatClampNeg a) (e2 : f2 = upd f1 z1.toNatClampNeg b) (e3 : f3 = upd f2 z2.toNatClampNeg tw) (e4 : f4 = upd f3 (8 : Int32).toNatClampNeg v1) (hv : v.toInt = (f 8).toInt) (h0 : z0.toInt = 44 + 3 * v.toInt) (h1 : z1.toInt = 45 + 3 * v.toInt) (h2 : z2.toInt = 46 + 3 * v.toInt) (hv1 : v1.toInt = v.toInt + 1) (hI : IV v 0 11) (htw : IV tw 0 3) (hp : 0 < (f (175 + tw.toInt.toNat)).toInt) : TRI f4 := by
  have w := hI
  have w2 := htw
  have t0 := tn_i (z := z0) (by omega)
  have t1 := tn_i (z := z1) (by omega)
  have t2 := tn_i (z := z2) (by omega)
  subst e4
  subst e3
  subst e2
  subst e1
  have g : ∀ i : Nat, i ≠ 8 → i ≠ z0.toNatClampNeg → i ≠ z1.toNatClampNeg → i ≠ z2.toNatClampNeg → upd (upd (upd (upd f z0.toNatClampNeg a) z1.toNatClampNeg b) z2.toNatClampNeg tw) (8 : Int32).toNatClampNeg v1 i = f i := by
    intro i g1 g2 g3 g4
    rw [upd_ne (show i ≠ (8 : Int32).toNatClampNeg from g1), upd_ne g4, upd_ne g3, upd_ne g2]
  have g8 : upd (upd (upd (upd f z0.toNatClampNeg a) z1.toNatClampNeg b) z2.toNatClampNeg tw) (8 : Int32).toNatClampNeg v1 8 = v1 := upd_at
  refine ⟨fun s k1 k2 => ?_, fun m k1 => ?_⟩
  · rw [g _ (by omega) (by omega) (by omega) (by omega)] at k2 ⊢
    exact ht.1 s k1 k2
  · rw [g8] at k1
    by_cases c : m = v.toInt.toNat
    · have c2 : 46 + 3 * m = z2.toNatClampNeg := by omega
      have e2 : upd (upd (upd (upd f z0.toNatClampNeg a) z1.toNatClampNeg b) z2.toNatClampNeg tw) (8 : Int32).toNatClampNeg v1 (46 + 3 * m) = tw := by
        rw [upd_ne (show 46 + 3 * m ≠ (8 : Int32).toNatClampNeg from (show 46 + 3 * m ≠ 8 by omega)), c2, upd_at]
      rw [e2, g _ (by omega) (by omega) (by omega) (by omega)]
      exact ht.1 _ (by omega) hp
    · have hm := rinv_8 hr
      have h3 := rinv_46 hr (m := m) (by omega)
      have w3 := h3
      rw [g (46 + 3 * m) (by omega) (by omega) (by omega) (by omega), g _ (by omega) (by omega) (by omega) (by omega)]
      exact ht.2 m (by omega)
theorem find_p {f : Nat → Int32} {y z n : Int32} (e : y = f z.toNatClampNeg) (i : z.toInt = 167 + n.toInt) (h : 0 < y.toInt) (hn : 0 ≤ n.toInt) : 0 < (f (167 + n.toInt.toNat)).toInt := by
  have t := tn_i (z := z) (by omega)
  have e2 : z.toNatClampNeg = 167 + n.toInt.toNat := by omega
  rw [e, e2] at h
  exact h
theorem nm_p {f : Nat → Int32} {n r : Int32} (q : n.toInt < 0 ∨ 0 < (f (167 + n.toInt.toNat)).toInt) (h : 8 ≤ n.toInt) (e : r.toInt = n.toInt - 8) : 0 < (f (175 + r.toInt.toNat)).toInt := by
  rcases q with q | q
  · omega
  · have e2 : 167 + n.toInt.toNat = 175 + r.toInt.toNat := by omega
    rw [e2] at q
    exact q
theorem tri_cp {f h : Nat → Int32} {k : Int32} (hf : TRI f) (hr : RInv f) (hx : ∀ i : Nat, i < k.toInt.toNat → h i = f i) (hk : 311 ≤ k.toInt) : TRI h := by
  refine ⟨fun t h1 h2 => ?_, fun m h1 => ?_⟩
  · rw [hx (175 + t) (by omega)] at h2
    rw [hx (40 + t) (by omega)]
    exact hf.1 t h1 h2
  · rw [hx 8 (by omega)] at h1
    have hm := rinv_8 hr
    have h3 := rinv_46 hr (m := m) (by omega)
    rw [hx (46 + 3 * m) (by omega), hx _ (by have := h3; omega)]
    exact hf.2 m h1
theorem tri_zero {h : Nat → Int32} {k : Int32} (hx : ∀ i : Nat, i < k.toInt.toNat → h i = 0) (hk : 311 ≤ k.toInt) : TRI h := by
  refine ⟨fun t h1 h2 => ?_, fun m h1 => ?_⟩
  · rw [hx (175 + t) (by omega), zI] at h2
    omega
  · rw [hx 8 (by omega), zI] at h1
    omega
theorem tri0 : TRI (fun _ => 0) := ⟨fun t h1 h2 => by rw [zI] at h2; omega, fun m h1 => by rw [zI] at h1; omega⟩
theorem z_0 {h : Nat → Int32} : ∀ i : Nat, i < (0 : Int32).toInt.toNat → h i = 0 := fun i q => absurd q (by rw [zI]; exact Nat.not_lt_zero _)
theorem z_step {h fn : Nat → Int32} {k k' : Int32} (hx : ∀ i : Nat, i < k.toInt.toNat → h i = 0) (e : fn = upd h k.toNatClampNeg 0) (ik : k'.toInt = k.toInt + 1) (h0 : 0 ≤ k.toInt) : ∀ i : Nat, i < k'.toInt.toNat → fn i = 0 := by
  intro i q
  have t := tn_i (z := k) h0
  rw [e]
  unfold upd
  split
  · rfl
  · exact hx i (by omega)
theorem i2l_I (x : Int32) : x.toInt64.toInt = x.toInt := Int32.toInt_toInt64 x
theorem p9 {v z x : Int64} {k k' y : Int32} (e : z = v * x) (ex : x = y.toInt64) (hy : IV y 1 9) (hv : 1 ≤ v.toInt ∧ v.toInt ≤ 9 ^ k.toInt.toNat) (hk : IV k 0 11) (hk' : k'.toInt = k.toInt + 1) : 1 ≤ z.toInt ∧ z.toInt ≤ 9 ^ k'.toInt.toNat := by
  have w := hy
  have w2 := hk
  have hx : x.toInt = y.toInt := by rw [ex]; exact i2l_I y
  have q1 : k'.toInt.toNat = k.toInt.toNat + 1 := by omega
  have q2 : (9 : Int) ^ k.toInt.toNat ≤ 9 ^ 11 := by
    have : (9 : Nat) ^ k.toInt.toNat ≤ 9 ^ 11 := Nat.pow_le_pow_right (by decide) (by omega)
    exact_mod_cast this
  have e11 : (9 : Int) ^ 11 = 31381059609 := by decide
  have m1 : v.toInt * 1 ≤ v.toInt * x.toInt := Int.mul_le_mul_of_nonneg_left (by omega) (by omega)
  have m2 : v.toInt * x.toInt ≤ v.toInt * 9 := Int.mul_le_mul_of_nonneg_left (by omega) (by omega)
  have e1 : z.toInt = v.toInt * x.toInt := by rw [e, Int64.toInt_mul, bm64 (by omega) (by omega)]
  rw [q1, Int.pow_succ]
  omega
theorem p9s {v : Int64} {k k' : Int32} (hv : 1 ≤ v.toInt ∧ v.toInt ≤ 9 ^ k.toInt.toNat) (h0 : 0 ≤ k.toInt) (hk' : k'.toInt = k.toInt + 1) : 1 ≤ v.toInt ∧ v.toInt ≤ 9 ^ k'.toInt.toNat := by
  have q1 : k'.toInt.toNat = k.toInt.toNat + 1 := by omega
  rw [q1, Int.pow_succ]
  have := hv
  omega
theorem p9n {v : Int64} {n : Nat} (hv : 1 ≤ v.toInt ∧ v.toInt ≤ 9 ^ n) : v ≠ 0 := by
  intro q
  rw [q] at hv
  have h3 : (0 : Int64).toInt = 0 := by decide
  omega
theorem tr_at {f : Nat → Int32} {m zt t za y : Int32} (ht : TRI f) (hm : 0 ≤ m.toInt) (h8 : m.toInt < (f 8).toInt) (iz : zt.toInt = 46 + 3 * m.toInt) (et : t = f zt.toNatClampNeg) (ia : za.toInt = 40 + t.toInt) (h0 : 0 ≤ t.toInt) (ey : y = f za.toNatClampNeg) : 1 ≤ y.toInt := by
  have q := ht.2 m.toInt.toNat (by omega)
  have t1 := tn_i (z := zt) (by omega)
  have t2 := tn_i (z := za) (by omega)
  have e1 : 46 + 3 * m.toInt.toNat = zt.toNatClampNeg := by omega
  rw [e1, ← et] at q
  have e2 : 40 + t.toInt.toNat = za.toNatClampNeg := by omega
  rw [e2, ← ey] at q
  exact q
theorem k_join {p : Program} {l : Launch} {e : Env} {R : Room} {s : State} {m : MethodId} {args : Array Value} {below : List Frame} {meth : Method} {c : Code} {Q : State → Prop} {A : Nat → Prop} {g : Gx} {nL n1 n2 pc : Nat} {ws : va_W} {lv : List (Nat × Value)} {st : List Value} (P : Int32 → Prop) (pcj : Nat) (st2 : List Value) (k1 : (∀ b : Int32, P b → Wk p l e R s m args below meth c Q A g nL n1 n2 ws lv pcj (.int b :: st2)) → Wk p l e R s m args below meth c Q A g nL n1 n2 ws lv pc st) (k2 : ∀ b : Int32, P b → Wk p l e R s m args below meth c Q A g nL n1 n2 ws lv pcj (.int b :: st2)) : Wk p l e R s m args below meth c Q A g nL n1 n2 ws lv pc st := k1 k2

/-! a night by whole functions: what layNight, carry and apartOf of the reference give -/
def mostF (a b : Int32) : Int32 := if b < a then a else b
def leastF (a b : Int32) : Int32 := if a < b then a else b
def rlF (rf : Nat → Int32) (k : Int32) : Int32 := rf (126 + k).toNatClampNeg
def fmF (rf sf : Nat → Int32) (k : Int32) : Int32 := sf (0 + rlF rf k).toNatClampNeg
def gnF (a b : Int32) : Int32 := if b ≤ a then 1 else 0
def mkF (rf sf : Nat → Int32) (k t : Int32) : Nat → Int32 → Int32
  | 0, _ => -2
  | n + 1, m => if rf (44 + 3 * m).toNatClampNeg = k ∧ rf (44 + 3 * m + 2).toNatClampNeg = t then sf (16 + m).toNatClampNeg else mkF rf sf k t n (m + Int32.ofInt 1)
theorem fuel_s {N u : Int} (h : u < N) : (N - u).toNat = (N - (u + 1)).toNat + 1 := by omega
theorem mk_step {rf sf : Nat → Int32} {k t u u' X : Int32} {N : Int} (hx : X = mkF rf sf k t (N - u.toInt).toNat u) (hlt : u.toInt < N) (eu : u + Int32.ofInt 1 = u') (iu : u'.toInt = u.toInt + 1) (hne : ¬ (rf (44 + 3 * u).toNatClampNeg = k ∧ rf (44 + 3 * u + 2).toNatClampNeg = t)) : X = mkF rf sf k t (N - u'.toInt).toNat u' := by
  rw [fuel_s hlt, ← iu] at hx
  rw [hx]
  show (if _ then _ else _) = _
  rw [if_neg hne, eu]
theorem mk_hit {rf sf : Nat → Int32} {k t u X : Int32} {N : Int} (hx : X = mkF rf sf k t (N - u.toInt).toNat u) (hlt : u.toInt < N) (h : rf (44 + 3 * u).toNatClampNeg = k ∧ rf (44 + 3 * u + 2).toNatClampNeg = t) : sf (16 + u).toNatClampNeg = X := by
  rw [fuel_s hlt] at hx
  rw [hx]
  show _ = (if _ then _ else _)
  rw [if_pos h]
theorem mk_end {rf sf : Nat → Int32} {k t u X : Int32} {N : Int} (hx : X = mkF rf sf k t (N - u.toInt).toNat u) (hge : N ≤ u.toInt) : -2 = X := by
  rw [show (N - u.toInt).toNat = 0 by omega] at hx
  exact hx.symm
def blS (rf sf : Nat → Int32) (reel kind m f : Int32) : Int32 := if rf (44 + 3 * m).toNatClampNeg = reel then (if kind = 1 then leastF f (sf (16 + m).toNatClampNeg) else mostF f (sf (16 + m).toNatClampNeg)) else f
def blF (rf sf : Nat → Int32) (reel kind : Int32) : Nat → Int32 → Int32 → Int32
  | 0, _, f => f
  | n + 1, m, f => blF rf sf reel kind n (m + Int32.ofInt 1) (blS rf sf reel kind m f)
theorem bl_step {rf sf : Nat → Int32} {reel kind u u' f f' X : Int32} {N : Int} (hx : X = blF rf sf reel kind (N - u.toInt).toNat u f) (hlt : u.toInt < N) (eu : u + Int32.ofInt 1 = u') (iu : u'.toInt = u.toInt + 1) (hf : f' = blS rf sf reel kind u f) : X = blF rf sf reel kind (N - u'.toInt).toNat u' f' := by
  rw [fuel_s hlt, ← iu] at hx
  rw [hx, hf, ← eu]
  rfl
theorem bl_end {rf sf : Nat → Int32} {reel kind u f X : Int32} {N : Int} (hx : X = blF rf sf reel kind (N - u.toInt).toNat u f) (hge : N ≤ u.toInt) : f = X := by
  rw [show (N - u.toInt).toNat = 0 by omega] at hx
  exact hx.symm
def belF (rf sf : Nat → Int32) (man k : Int32) : Int32 :=
  if rf (114 + 3 * man).toNatClampNeg = 3 then (if mkF rf sf (rlF rf k) (rf (114 + 3 * man + 1).toNatClampNeg) (rf 8).toInt.toNat 0 < 0 then sf (8 + rlF rf k).toNatClampNeg else mkF rf sf (rlF rf k) (rf (114 + 3 * man + 1).toNatClampNeg) (rf 8).toInt.toNat 0)
  else if rf (114 + 3 * man).toNatClampNeg = 0 then sf (8 + rlF rf k).toNatClampNeg else blF rf sf (rlF rf k) (rf (114 + 3 * man).toNatClampNeg) (rf 8).toInt.toNat 0 (sf (8 + rlF rf k).toNatClampNeg)
def fwF (ah gone : Int32) : Int32 := if gone ≠ 0 ∨ ah < 0 then 0 else ah
def bkF (ah gone : Int32) : Int32 := if gone ≠ 0 ∨ 0 < ah then 0 else -ah
theorem bel_n {rf sf : Nat → Int32} {man k kind f f0 : Int32} (ek : kind = rf (114 + 3 * man).toNatClampNeg) (h3 : ¬ kind = 3) (e0 : f0 = sf (8 + rlF rf k).toNatClampNeg) (h0 : kind = 0 → f = f0) (hx : ¬ kind = 0 → f = blF rf sf (rlF rf k) (rf (114 + 3 * man).toNatClampNeg) (rf 8).toInt.toNat 0 (sf (8 + rlF rf k).toNatClampNeg)) : f = belF rf sf man k := by
  unfold belF
  rw [← ek, if_neg h3]
  by_cases q : kind = 0
  · rw [if_pos q, h0 q, e0]
  · rw [if_neg q, hx q, ek]
theorem bel_3 {rf sf : Nat → Int32} {man k kind mk f r : Int32} (ek : kind = rf (114 + 3 * man).toNatClampNeg) (h3 : kind = 3) (e0 : f = sf (8 + rlF rf k).toNatClampNeg) (em : mk = mkF rf sf (rlF rf k) (rf (114 + 3 * man + 1).toNatClampNeg) (rf 8).toInt.toNat 0) (hr : r = if mk < 0 then f else mk) : r = belF rf sf man k := by
  unfold belF
  rw [← ek, if_pos h3, ← em, ← e0, hr]
def ntS (rf sf : Nat → Int32) (sl man k a b : Int32) : Int32 × Int32 :=
  if gnF a (fmF rf sf k) = 0 then
    (fwF (leastF (mostF (leastF (belF rf sf man k + sl) (fmF rf sf k - 1)) a + rf 0) (fmF rf sf k) - mostF (leastF (belF rf sf man k + sl) (fmF rf sf k - 1)) a - rf 1 - sf (34 + k + 1).toNatClampNeg) 0,
     b + leastF (mostF (leastF (belF rf sf man k + sl) (fmF rf sf k - 1)) a + rf 0) (fmF rf sf k) - a + bkF (leastF (mostF (leastF (belF rf sf man k + sl) (fmF rf sf k - 1)) a + rf 0) (fmF rf sf k) - mostF (leastF (belF rf sf man k + sl) (fmF rf sf k - 1)) a - rf 1 - sf (34 + k + 1).toNatClampNeg) 0)
  else (fwF 0 1, b + bkF 0 1)
def NS (rf sf : Nat → Int32) (sl man : Int32) : Nat → Int32 × Int32
  | 0 => (0, 0)
  | n + 1 => ntS rf sf sl man (nI n) (NS rf sf sl man n).1 (NS rf sf sl man n).2
def chF (rf sf : Nat → Int32) (sl man last k a b : Int32) : Int32 :=
  if gnF a (fmF rf sf k) = 0 then (if k < last then b + leastF (mostF (leastF (belF rf sf man k + sl) (fmF rf sf k - 1)) a + rf 0) (fmF rf sf k) - a else b + fmF rf sf k - a) else b
def CHF (rf sf : Nat → Int32) (sl man last : Int32) (j : Nat) : Int32 := chF rf sf sl man last (nI j) (NS rf sf sl man j).1 (NS rf sf sl man j).2
theorem nI_back {u : Int32} (h : 0 ≤ u.toInt) : nI u.toInt.toNat = u := by
  have r := rng u
  refine Int32.toInt_inj.mp ?_
  rw [nI_toInt (by omega)]
  omega
def ntA (rf sf : Nat → Int32) (sl man last u : Int32) (B C : Nat → Int32) : Prop := ∀ j : Nat, (j : Int) < u.toInt → B j = (NS rf sf sl man j).2 ∧ C j = CHF rf sf sl man last j
def ntB (rf sf : Nat → Int32) (sl man last u : Int32) (F B : Nat → Int32) : Prop := u.toInt ≤ last.toInt → F u.toInt.toNat = (NS rf sf sl man u.toInt.toNat).1 ∧ B u.toInt.toNat = (NS rf sf sl man u.toInt.toNat).2
theorem nt_a {rf sf : Nat → Int32} {sl man last u u' c a b : Int32} {F B C : Nat → Int32} (hA : ntA rf sf sl man last u B C) (hB : ntB rf sf sl man last u F B) (h0 : 0 ≤ u.toInt) (hl : u.toInt ≤ last.toInt) (iu : u'.toInt = u.toInt + 1) (ea : a = F u.toNatClampNeg) (eb : b = B u.toNatClampNeg) (hc : c = chF rf sf sl man last u a b) {B2 : Nat → Int32} (hB2 : ∀ j : Nat, (j : Int) ≤ u.toInt → B2 j = B j) : ntA rf sf sl man last u' B2 (upd C u.toNatClampNeg c) := by
  intro j q
  obtain ⟨b1, b2⟩ := hB hl
  by_cases e : j = u.toInt.toNat
  · subst e
    refine ⟨(hB2 _ (by omega)).trans b2, ?_⟩
    have e2 : upd C u.toNatClampNeg c u.toInt.toNat = c := upd_at
    rw [e2, hc, ea, eb]
    unfold CHF
    rw [nI_back h0, ← b1, ← b2]
    rfl
  · have t := tn_i (z := u) h0
    obtain ⟨a1, a2⟩ := hA j (by omega)
    rw [hB2 j (by omega), upd_ne (by omega)]
    exact ⟨a1, a2⟩
theorem nt_b {rf sf : Nat → Int32} {sl man last u u' z a b f1 b1 : Int32} {F B : Nat → Int32} (hB : ntB rf sf sl man last u F B) (h0 : 0 ≤ u.toInt) (hl : u.toInt ≤ last.toInt) (iu : u'.toInt = u.toInt + 1) (iz : z.toInt = u.toInt + 1) (ea : a = F u.toNatClampNeg) (eb : b = B u.toNatClampNeg) (hf : (f1, b1) = ntS rf sf sl man u a b) : ntB rf sf sl man last u' (upd F z.toNatClampNeg f1) (upd B z.toNatClampNeg b1) := by
  intro _
  obtain ⟨c1, c2⟩ := hB hl
  have t := tn_i (z := z) (by omega)
  have e : u'.toInt.toNat = z.toNatClampNeg := by omega
  have e2 : u'.toInt.toNat = u.toInt.toNat + 1 := by omega
  have h1 : NS rf sf sl man u'.toInt.toNat = (f1, b1) := by
    rw [e2]
    show ntS rf sf sl man (nI u.toInt.toNat) _ _ = _
    rw [nI_back h0, ← c1, ← c2, hf, ea, eb]
    rfl
  rw [h1, e, upd_at, upd_at]
  exact ⟨rfl, rfl⟩
theorem nt_kb {u z b1 : Int32} {B : Nat → Int32} (iz : z.toInt = u.toInt + 1) (h0 : 0 ≤ u.toInt) : ∀ j : Nat, (j : Int) ≤ u.toInt → upd B z.toNatClampNeg b1 j = B j := by
  intro j q
  have t := tn_i (z := z) (by omega)
  exact upd_ne (by omega)
theorem ch_g {rf sf F : Nat → Int32} {sl man last u b gg : Int32} (hq : gg = gnF (F u.toNatClampNeg) (fmF rf sf u)) (hn : ¬ gg = 0) : b = chF rf sf sl man last u (F u.toNatClampNeg) b := by
  unfold chF
  rw [← hq, if_neg hn]
theorem ch_l {rf sf F : Nat → Int32} {sl man last u a b c z1 fr gg : Int32} (e2 : c = z1 - a) (e1 : z1 = b + fr) (hf : fr = fmF rf sf u) (ea : a = F u.toNatClampNeg) (hq : gg = gnF (F u.toNatClampNeg) (fmF rf sf u)) (h0 : gg = 0) (hge : last ≤ u) : c = chF rf sf sl man last u a b := by
  unfold chF
  rw [ea, ← hq, if_pos h0, if_neg (Int32.not_lt.mpr hge), e2, e1, hf, ea]
theorem ch_n {rf sf F S : Nat → Int32} {sl man last u a b c z1 z2 z3 z4 l1 m1 q0 cf be sv fr gg : Int32} (e9 : c = z4 - a) (e8 : z4 = b + cf) (e7 : cf = leastF z3 fr) (e6 : z3 = m1 + q0) (e5 : q0 = rf (0 : Int32).toNatClampNeg) (e4 : m1 = mostF l1 a) (e3 : l1 = leastF z1 z2) (e2 : z2 = fr - 1) (e1 : z1 = be + sv) (es : sv = S u.toNatClampNeg) (hs : ∀ i : Nat, i < 8 → S i = sl) (hu : IV u 0 7) (bl : be = belF rf sf man u) (hf : fr = fmF rf sf u) (ea : a = F u.toNatClampNeg) (hq : gg = gnF (F u.toNatClampNeg) (fmF rf sf u)) (h0 : gg = 0) (hlt : ¬ last ≤ u) : c = chF rf sf sl man last u a b := by
  have w := hu
  have t := tn_i (z := u) w.1
  have e10 : sv = sl := es.trans (hs _ (by omega))
  unfold chF
  rw [show gnF a (fmF rf sf u) = gg by rw [hq, ea], if_pos h0, if_pos (Int32.not_le.mp hlt), e9, e8, e7, e6, e4, e3, e2, e1, bl, hf, e10, e5]
  rfl
theorem nt_g {rf sf F : Nat → Int32} {sl man u b gg : Int32} (hq : gg = gnF (F u.toNatClampNeg) (fmF rf sf u)) (hn : ¬ gg = 0) : (fwF 0 1, b + bkF 0 1) = ntS rf sf sl man u (F u.toNatClampNeg) b := by
  unfold ntS
  rw [← hq, if_neg hn]
theorem nt_n {rf sf F S : Nat → Int32} {sl man u a b c z1 z2 z3 z4 z5 z6 z7 z8 z9 l1 m1 q0 q1 ah cf be sv fr gg : Int32} (d9 : ah = z6 - z7) (d8 : z6 = z5 - q1) (d7 : z5 = cf - m1) (d6 : q1 = rf (1 : Int32).toNatClampNeg) (d5 : z7 = sf z9.toNatClampNeg) (d4 : z9 = z8 + 1) (d3 : z8 = 34 + u) (e9 : c = z4 - a) (e8 : z4 = b + cf) (e7 : cf = leastF z3 fr) (e6 : z3 = m1 + q0) (e5 : q0 = rf (0 : Int32).toNatClampNeg) (e4 : m1 = mostF l1 a) (e3 : l1 = leastF z1 z2) (e2 : z2 = fr - 1) (e1 : z1 = be + sv) (es : sv = S u.toNatClampNeg) (hs : ∀ i : Nat, i < 8 → S i = sl) (hu : IV u 0 7) (bl : be = belF rf sf man u) (hf : fr = fmF rf sf u) (ea : a = F u.toNatClampNeg) (hq : gg = gnF (F u.toNatClampNeg) (fmF rf sf u)) (h0 : gg = 0) : (fwF ah 0, c + bkF ah 0) = ntS rf sf sl man u a b := by
  have w := hu
  have t := tn_i (z := u) w.1
  have e10 : sv = sl := es.trans (hs _ (by omega))
  unfold ntS
  rw [show gnF a (fmF rf sf u) = gg by rw [hq, ea], if_pos h0]
  subst d3
  subst d4
  subst d5
  subst d6
  subst d7
  subst d8
  subst d9
  subst e10
  subst e5
  subst e2
  subst e1
  subst e3
  subst e4
  subst e6
  subst e7
  subst e8
  subst e9
  subst bl
  subst hf
  rfl
/-- the boy who is back first, of the first so many -/
def byF (bk : Nat → Int32) : Nat → Int32 → Int32 → Int32
  | 0, _, boy => boy
  | n + 1, b, boy => byF bk n (b + Int32.ofInt 1) (if bk b.toNatClampNeg < bk boy.toNatClampNeg then b else boy)
theorem by_step {bk : Nat → Int32} {N : Int} {b b' y y' X : Int32} (hx : X = byF bk (N - b.toInt).toNat b y) (hlt : b.toInt < N) (eb : b + Int32.ofInt 1 = b') (ib : b'.toInt = b.toInt + 1) (hy : y' = if bk b.toNatClampNeg < bk y.toNatClampNeg then b else y) : X = byF bk (N - b'.toInt).toNat b' y' := by
  rw [fuel_s hlt, ← ib] at hx
  rw [hx, hy, ← eb]
  rfl
theorem by_end {bk : Nat → Int32} {N : Int} {b y X : Int32} (hx : X = byF bk (N - b.toInt).toNat b y) (hge : N ≤ b.toInt) : y = X := by
  rw [show (N - b.toInt).toNat = 0 by omega] at hx
  exact hx.symm
theorem by_cong {bk bk' : Nat → Int32} (h : ∀ i : Nat, i < 4 → bk i = bk' i) : ∀ (n : Nat) (b y : Int32), 0 ≤ b.toInt → b.toInt + n ≤ 4 → IV y 0 3 → byF bk n b y = byF bk' n b y
  | 0, _, _, _, _, _ => rfl
  | n + 1, b, y, h0, h1, hy => by
    have w := hy
    have tb := tn_i (z := b) h0
    have ty := tn_i (z := y) w.1
    have e1 : (Int32.ofInt 1).toInt = 1 := by decide
    have ib : (b + Int32.ofInt 1).toInt = b.toInt + 1 := by rw [addI (by rw [e1]; omega) (by rw [e1]; omega), e1]
    show byF bk n (b + Int32.ofInt 1) _ = byF bk' n (b + Int32.ofInt 1) _
    rw [h b.toNatClampNeg (by omega), h y.toNatClampNeg (by omega)]
    refine by_cong h n _ _ (by omega) (by omega) ?_
    split
    · exact ⟨by omega, by omega⟩
    · exact hy
/-- the boys after k reels: when each is back; when the k-th reel is there -/
def BKF (rf : Nat → Int32) (cg : Nat → Int32) (boys : Int32) : Nat → (Nat → Int32)
  | 0 => fun _ => 0
  | k + 1 => upd (BKF rf cg boys k) (byF (BKF rf cg boys k) (boys.toInt - 1).toNat 1 0).toNatClampNeg (mostF (cg k) (BKF rf cg boys k (byF (BKF rf cg boys k) (boys.toInt - 1).toNat 1 0).toNatClampNeg) + rf 135 + rf 135)
def THF (rf : Nat → Int32) (cg : Nat → Int32) (boys : Int32) (k : Nat) : Int32 := mostF (cg k) (BKF rf cg boys k (byF (BKF rf cg boys k) (boys.toInt - 1).toNat 1 0).toNatClampNeg) + rf 135
theorem by_iv {bk : Nat → Int32} : ∀ (n : Nat) (b y : Int32), 0 ≤ b.toInt → b.toInt + n ≤ 4 → IV y 0 3 → IV (byF bk n b y) 0 3
  | 0, _, _, _, _, hy => hy
  | n + 1, b, y, h0, h1, hy => by
    have e1 : (Int32.ofInt 1).toInt = 1 := by decide
    have ib : (b + Int32.ofInt 1).toInt = b.toInt + 1 := by rw [addI (by rw [e1]; omega) (by rw [e1]; omega), e1]
    show IV (byF bk n (b + Int32.ofInt 1) _) 0 3
    refine by_iv n _ _ (by omega) (by omega) ?_
    split
    · exact ⟨by omega, by omega⟩
    · exact hy
def apF (rf cg bg : Nat → Int32) (boys : Int32) : Nat → Nat → Int32 → Int32
  | 0, _, m => m
  | n + 1, k, m => apF rf cg bg boys n (k + 1) (mostF m (THF rf cg boys k - bg k))
theorem boys3 (AP : Int32 → Int32) {n best r : Int32} (hiv : IV n 1 4) (h1 : best = AP 4) (h2 : r = AP n) (hlt : best.toInt < r.toInt) : IV n 1 3 := by
  have w := hiv
  refine ⟨w.1, ?_⟩
  rcases Int.lt_or_le 3 n.toInt with q | q
  · have e4 : (4 : Int32).toInt = 4 := by decide
    have e : n = 4 := Int32.toInt_inj.mp (by omega)
    rw [h1, h2, e] at hlt
    omega
  · exact q
theorem sl_step {S : Nat → Int32} {u u' y X : Int32} (hx : ∀ i : Nat, i < u.toInt.toNat → S i = X) (h0 : 0 ≤ u.toInt) (iu : u'.toInt = u.toInt + 1) (ey : y = X) : ∀ i : Nat, i < u'.toInt.toNat → upd S u.toNatClampNeg y i = X := by
  intro i q
  have t := tn_i (z := u) h0
  by_cases c : i = u.toNatClampNeg
  · rw [c, upd_at, ey]
  · rw [upd_ne c]
    exact hx i (by omega)
theorem th_step {rf cg : Nat → Int32} {boys u u' v lv ck bb boy q : Int32} {P : Int} {Th Bk Ch : Nat → Int32} (hT : ∀ j : Nat, (j : Int) < u.toInt → Th j = THF rf cg boys j) (hB : ∀ i : Nat, i < 4 → Bk i = BKF rf cg boys u.toInt.toNat i) (hC : ∀ j : Nat, (j : Int) < P → Ch j = cg j) (h0 : 0 ≤ u.toInt) (hP : u.toInt < P) (iu : u'.toInt = u.toInt + 1) (hb : IV boys 0 4) (hy : boy = byF Bk (boys.toInt - 1).toNat 1 0) (ev : v = lv + q) (el : lv = mostF ck bb) (ec : ck = Ch u.toNatClampNeg) (eb : bb = Bk boy.toNatClampNeg) (eq : q = rf (135 : Int32).toNatClampNeg) : ∀ j : Nat, (j : Int) < u'.toInt → upd Th u.toNatClampNeg v j = THF rf cg boys j := by
  have w := hb
  have t := tn_i (z := u) h0
  have e1 : (1 : Int32).toInt = 1 := by decide
  have hy2 : boy = byF (BKF rf cg boys u.toInt.toNat) (boys.toInt - 1).toNat 1 0 := by rw [hy]; exact by_cong hB _ _ _ (by omega) (by omega) (by decide)
  have hyv : IV boy 0 3 := by rw [hy]; exact by_iv _ _ _ (by omega) (by omega) (by decide)
  have w2 := hyv
  have ty := tn_i (z := boy) w2.1
  have key : v = THF rf cg boys u.toInt.toNat := by
    unfold THF
    rw [← hy2, ev, el, ec, eb, eq, hB boy.toNatClampNeg (by omega)]
    have h3 : Ch u.toNatClampNeg = cg u.toInt.toNat := hC _ (by omega)
    rw [h3]
    rfl
  intro j hj
  by_cases c : j = u.toNatClampNeg
  · rw [c, upd_at, key]
    rfl
  · rw [upd_ne c]
    exact hT j (by omega)
theorem bk_step {rf cg : Nat → Int32} {boys u u' v x lv ck bb boy q : Int32} {P : Int} {Bk Ch : Nat → Int32} (hB : ∀ i : Nat, i < 4 → Bk i = BKF rf cg boys u.toInt.toNat i) (hC : ∀ j : Nat, (j : Int) < P → Ch j = cg j) (h0 : 0 ≤ u.toInt) (hP : u.toInt < P) (iu : u'.toInt = u.toInt + 1) (hb : IV boys 0 4) (hy : boy = byF Bk (boys.toInt - 1).toNat 1 0) (ex : x = v + q) (ev : v = lv + q) (el : lv = mostF ck bb) (ec : ck = Ch u.toNatClampNeg) (eb : bb = Bk boy.toNatClampNeg) (eq : q = rf (135 : Int32).toNatClampNeg) : ∀ i : Nat, i < 4 → upd Bk boy.toNatClampNeg x i = BKF rf cg boys u'.toInt.toNat i := by
  have w := hb
  have t := tn_i (z := u) h0
  have e1 : (1 : Int32).toInt = 1 := by decide
  have hy2 : boy = byF (BKF rf cg boys u.toInt.toNat) (boys.toInt - 1).toNat 1 0 := by rw [hy]; exact by_cong hB _ _ _ (by omega) (by omega) (by decide)
  have hyv : IV boy 0 3 := by rw [hy]; exact by_iv _ _ _ (by omega) (by omega) (by decide)
  have w2 := hyv
  have ty := tn_i (z := boy) w2.1
  have h3 : Ch u.toNatClampNeg = cg u.toInt.toNat := hC _ (by omega)
  have eu : u'.toInt.toNat = u.toInt.toNat + 1 := by omega
  intro i hi
  rw [eu]
  show _ = upd (BKF rf cg boys u.toInt.toNat) (byF (BKF rf cg boys u.toInt.toNat) (boys.toInt - 1).toNat 1 0).toNatClampNeg _ i
  rw [← hy2]
  by_cases c : i = boy.toNatClampNeg
  · rw [c, upd_at, upd_at, ex, ev, el, ec, eb, eq, hB boy.toNatClampNeg (by omega), h3]
    rfl
  · rw [upd_ne c, upd_ne c]
    exact hB i hi
theorem ap_step {rf cg bg Th B : Nat → Int32} {boys u u' m m' v a b X : Int32} {P : Int} (hx : X = apF rf cg bg boys (P - u.toInt).toNat u.toInt.toNat m) (h0 : 0 ≤ u.toInt) (hP : u.toInt < P) (iu : u'.toInt = u.toInt + 1) (hT : ∀ j : Nat, (j : Int) < P → Th j = THF rf cg boys j) (hB : ∀ j : Nat, (j : Int) < P → B j = bg j) (em : m' = mostF m v) (ev : v = a - b) (ea : a = Th u.toNatClampNeg) (eb : b = B u.toNatClampNeg) : X = apF rf cg bg boys (P - u'.toInt).toNat u'.toInt.toNat m' := by
  have t := tn_i (z := u) h0
  have eu : u'.toInt.toNat = u.toInt.toNat + 1 := by omega
  rw [fuel_s hP, ← iu] at hx
  have h1 : Th u.toNatClampNeg = THF rf cg boys u.toInt.toNat := hT _ (by omega)
  have h2 : B u.toNatClampNeg = bg u.toInt.toNat := hB _ (by omega)
  rw [hx, em, ev, ea, eb, h1, h2, eu]
  rfl
theorem ap_end {rf cg bg : Nat → Int32} {boys u m X : Int32} {P : Int} (hx : X = apF rf cg bg boys (P - u.toInt).toNat u.toInt.toNat m) (hge : P ≤ u.toInt) : m = X := by
  rw [show (P - u.toInt).toNat = 0 by omega] at hx
  exact hx.symm

section KL
variable {p : Program} {l : Launch} {e : Env} {R : Room} {s : State} {m : MethodId} {args : Array Value} {below : List Frame} {meth : Method} {c : Code} {Q : State → Prop} {A : Nat → Prop} {g : Gx} {cc : ByteArray} {nL n1 n2 pc : Nat} {own : String} {ws : va_W} {lv : List (Nat × Value)} {st : List Value}
theorem k_ladd {x y : Int64} (X : Cx p s m meth c args cc nL own A g) (hd : decode cc pc = .ok (.ladd, 1)) (kk : Wk p l e R s m args below meth c Q A g nL n1 n2 ws lv (pc + 1) (.long (x + y) :: st)) : Wk p l e R s m args below meth c Q A g nL n1 n2 ws lv pc (.long y :: .long x :: st) := fun H locs ls hP hD hS hl => lv_ladd X.1 X.2.1 hd (kk H locs ls hP hD hS hl)
theorem k_lsub {x y : Int64} (X : Cx p s m meth c args cc nL own A g) (hd : decode cc pc = .ok (.lsub, 1)) (kk : Wk p l e R s m args below meth c Q A g nL n1 n2 ws lv (pc + 1) (.long (x - y) :: st)) : Wk p l e R s m args below meth c Q A g nL n1 n2 ws lv pc (.long y :: .long x :: st) := fun H locs ls hP hD hS hl => lv_lsub X.1 X.2.1 hd (kk H locs ls hP hD hS hl)
theorem k_lmul {x y : Int64} (X : Cx p s m meth c args cc nL own A g) (hd : decode cc pc = .ok (.lmul, 1)) (kk : Wk p l e R s m args below meth c Q A g nL n1 n2 ws lv (pc + 1) (.long (x * y) :: st)) : Wk p l e R s m args below meth c Q A g nL n1 n2 ws lv pc (.long y :: .long x :: st) := fun H locs ls hP hD hS hl => lv_lmul X.1 X.2.1 hd (kk H locs ls hP hD hS hl)
theorem k_ldiv {x y : Int64} (X : Cx p s m meth c args cc nL own A g) (hd : decode cc pc = .ok (.ldiv, 1)) (h0 : ¬ y = 0) (kk : Wk p l e R s m args below meth c Q A g nL n1 n2 ws lv (pc + 1) (.long (x / y) :: st)) : Wk p l e R s m args below meth c Q A g nL n1 n2 ws lv pc (.long y :: .long x :: st) := fun H locs ls hP hD hS hl => lv_ldiv X.1 X.2.1 hd h0 (kk H locs ls hP hD hS hl)
theorem k_lrem {x y : Int64} (X : Cx p s m meth c args cc nL own A g) (hd : decode cc pc = .ok (.lrem, 1)) (h0 : ¬ y = 0) (kk : Wk p l e R s m args below meth c Q A g nL n1 n2 ws lv (pc + 1) (.long (x - x / y * y) :: st)) : Wk p l e R s m args below meth c Q A g nL n1 n2 ws lv pc (.long y :: .long x :: st) := fun H locs ls hP hD hS hl => lv_lrem X.1 X.2.1 hd h0 (kk H locs ls hP hD hS hl)
theorem k_lshl {x : Int64} {y : Int32} (X : Cx p s m meth c args cc nL own A g) (hd : decode cc pc = .ok (.lshl, 1)) (kk : Wk p l e R s m args below meth c Q A g nL n1 n2 ws lv (pc + 1) (.long (x <<< (y.toInt64 &&& 63)) :: st)) : Wk p l e R s m args below meth c Q A g nL n1 n2 ws lv pc (.int y :: .long x :: st) := fun H locs ls hP hD hS hl => lv_lshl X.1 X.2.1 hd rfl (kk H locs ls hP hD hS hl)
theorem k_nmL {x : Int64} (kk : ∀ y : Int64, y = x → Wk p l e R s m args below meth c Q A g nL n1 n2 ws lv pc (.long y :: st)) : Wk p l e R s m args below meth c Q A g nL n1 n2 ws lv pc (.long x :: st) := kk x rfl
theorem k_lstore_n {k : Fin 4} {x : Int64} (lv' : List (Nat × Value)) (X : Cx p s m meth c args cc nL own A g) (hd : decode cc pc = .ok (.lstore_n k, 1)) (hn : (k : Nat) + 1 < nL) (hv : ((k : Nat), Value.long x) :: lv.filter (fun q => !(q.1 == (k : Nat)) && (!(q.1 == (k : Nat) + 1) && !(q.1 + 1 == (k : Nat) && q.2.category == 2))) = lv') (kk : Wk p l e R s m args below meth c Q A g nL n1 n2 ws lv' (pc + 1) st) : Wk p l e R s m args below meth c Q A g nL n1 n2 ws lv pc (.long x :: st) := fun H locs ls hP hD hS hl => lv_lstore_n X.1 X.2.1 hd rfl hl hn hv (fun ls hl => kk H locs ls hP hD hS hl)
theorem k_lstore {i : Nat} {x : Int64} (lv' : List (Nat × Value)) (X : Cx p s m meth c args cc nL own A g) (hd : decode cc pc = .ok (.lstore i, 2)) (hn : i + 1 < nL) (hv : (i, Value.long x) :: lv.filter (fun q => !(q.1 == i) && (!(q.1 == i + 1) && !(q.1 + 1 == i && q.2.category == 2))) = lv') (kk : Wk p l e R s m args below meth c Q A g nL n1 n2 ws lv' (pc + 2) st) : Wk p l e R s m args below meth c Q A g nL n1 n2 ws lv pc (.long x :: st) := fun H locs ls hP hD hS hl => lv_lstore X.1 X.2.1 hd hl hn hv (fun ls hl => kk H locs ls hP hD hS hl)
theorem k_lald {a n : Nat} {f : Nat → Int64} {x : Int32} (X : Cx p s m meth c args cc nL own A g) (hd : decode cc pc = .ok (.laload, 1)) (q : Nat) (he : ws[q]? = some (a, .inl (g.2.2.2.1, n, .inr (.inl f)))) (hi : vp_in x n) (kk : Wk p l e R s m args below meth c Q A g nL n1 n2 ws lv (pc + 1) (.long (f x.toNatClampNeg) :: st)) : Wk p l e R s m args below meth c Q A g nL n1 n2 ws lv pc (.int x :: .ref a :: st) :=
  fun H locs ls hP hD hS hl => va_lald (D := g.1) (cl := vwCl) X.1 X.2.1 X.2.2.2.2.2.1.1 hP q 2 he rfl hi hd (kk H locs ls hP hD hS hl)
theorem k_last {a n : Nat} {f : Nat → Int64} {x : Int32} {v : Int64} (ws' : va_W) (X : Cx p s m meth c args cc nL own A g) (hd : decode cc pc = .ok (.lastore, 1)) (q : Nat) (he : ws[q]? = some (a, .inl (g.2.2.2.1, n, .inr (.inl f)))) (hi : vp_in x n) (hw : ws.set q (a, .inl (g.2.2.2.1, n, .inr (.inl (vp_updL f x.toNatClampNeg v)))) = ws') (kk : Wk p l e R s m args below meth c Q A g nL n1 n2 ws' lv (pc + 1) st) : Wk p l e R s m args below meth c Q A g nL n1 n2 ws lv pc (.long v :: .int x :: .ref a :: st) := by
  intro H locs ls hP hD hS hl
  subst hw
  exact va_last (D := g.1) (cl := vwCl) X.1 X.2.1 X.2.2.2.2.2.1.1 hP hD hS q 2 he rfl hi hd (fun H1 locs1 hP hD hS => kk H1 locs1 ls hP hD hS hl)
end KL
theorem lgnz0 {x : Int64} {z : Int32} (e : z = lg_cmp x 0) (h : ¬ z ≤ 0) : ¬ x = 0 := by
  intro q
  subst q
  subst e
  exact h (by decide)
theorem lgnz1 {x : Int64} {z : Int32} (e : z = lg_cmp x 1) (h : ¬ z ≤ 0) : ¬ x = 0 := by
  intro q
  subst q
  subst e
  exact h (by decide)
theorem in8 {x : Int32} (h : ¬ 8 ≤ x) (h0 : ¬ x < 0) : vp_in x 8 := by
  rw [vp_in_iff]
  rw [le_I] at h
  rw [lt_I, zI] at h0
  have e8 : (8 : Int32).toInt = 8 := by decide
  omega
theorem up0 {k z : Int32} {b : Int32} (h0 : ¬ k < 0) (h : ¬ b ≤ k) (e : k + Int32.ofInt 1 = z) : ¬ z < 0 := by
  rw [lt_I, zI] at *
  rw [le_I] at h
  have h1 := rng b
  have e1 : Int32.ofInt 1 = 1 := by decide
  have e2 : z.toInt = k.toInt + 1 := by rw [← e, e1, addI (by rw [oneI]; omega) (by rw [oneI]; omega), oneI]
  omega
theorem mu_le {k n z : Int32} (hn : n.toInt < 2147483647) (h : ¬ n < k) (e : k + Int32.ofInt 1 = z) : (n.toInt + 1 - z.toInt).toNat < (n.toInt + 1 - k.toInt).toNat := by
  rw [lt_I] at h
  have h2 := rng k
  have e1 : Int32.ofInt 1 = 1 := by decide
  have e2 : z.toInt = k.toInt + 1 := by rw [← e, e1, addI (by rw [oneI]; omega) (by rw [oneI]; omega), oneI]
  omega
theorem mu_dn {k z : Int32} (h : ¬ k ≤ 0) (e : k + Int32.ofInt (-1) = z) : z.toInt.toNat < k.toInt.toNat := by
  rw [le_I, zI] at h
  have h1 := rng k
  have e1 : (Int32.ofInt (-1)).toInt = -1 := by decide
  have e2 : z.toInt = k.toInt - 1 := by rw [← e, addI (by rw [e1]; omega) (by rw [e1]; omega), e1]; omega
  omega
theorem mu_ltE {k b z B : Int32} (h : ¬ b ≤ k) (eb : b = B) (e : k + Int32.ofInt 1 = z) : (B.toInt - z.toInt).toNat < (B.toInt - k.toInt).toNat := by
  subst eb
  exact mu_lt h e
theorem sh_le : ∀ j : Nat, j < 32 → ((1 : Int32) <<< nI j).toInt ≤ 1073741824 := by decide
theorem mu_4 {k b z x : Int32} (h : ¬ b ≤ k) (eb : b = 1 <<< (x &&& 31)) (e : k + Int32.ofInt 4 = z) : (((1 : Int32) <<< (x &&& 31)).toInt - z.toInt).toNat < (((1 : Int32) <<< (x &&& 31)).toInt - k.toInt).toNat := by
  obtain ⟨j, hj, ej⟩ := pk_andE x (m := 31) 5 (by decide)
  subst eb
  rw [ej] at h ⊢
  have hb := sh_le j hj
  generalize ((1 : Int32) <<< nI j) = B at *
  rw [le_I] at h
  have h1 := rng k
  have e1 : (Int32.ofInt 4).toInt = 4 := by decide
  have e2 : z.toInt = k.toInt + 4 := by rw [← e, addI (by rw [e1]; omega) (by rw [e1]; omega), e1]
  omega

set_option maxRecDepth 100000
set_option maxHeartbeats 4000000
theorem iz1 {z x : Int32} {a b c lo hi : Int} (i : z.toInt = x.toInt + c) (h : IV x a b) (h1 : lo ≤ a + c) (h2 : b + c ≤ hi) : IV z lo hi := by
  rw [IV] at h
  rw [IV, i]
  exact ⟨by omega, by omega⟩
theorem iz2 {z x : Int32} {a b c lo hi : Int} (i : z.toInt = c + x.toInt) (h : IV x a b) (h1 : lo ≤ c + a) (h2 : c + b ≤ hi) : IV z lo hi := by
  rw [IV] at h
  rw [IV, i]
  exact ⟨by omega, by omega⟩
theorem iz4 {z x : Int32} {a b k lo hi : Int} (i : z.toInt = k * x.toInt) (h : IV x a b) (hk : 0 ≤ k) (h1 : lo ≤ k * a) (h2 : k * b ≤ hi) : IV z lo hi := by
  rw [IV] at h
  rw [IV, i]
  have e1 := Int.mul_le_mul_of_nonneg_left h.1 hk
  have e2 := Int.mul_le_mul_of_nonneg_left h.2 hk
  exact ⟨by omega, by omega⟩
theorem iz5 {z x : Int32} {a b c lo hi : Int} (i : z.toInt = x.toInt - c) (h : IV x a b) (h1 : lo ≤ a - c) (h2 : b - c ≤ hi) : IV z lo hi := by
  rw [IV] at h
  rw [IV, i]
  exact ⟨by omega, by omega⟩
theorem iz7 {z x : Int32} {a b c lo hi : Int} (i : z.toInt = c - x.toInt) (h : IV x a b) (h1 : lo ≤ c - b) (h2 : c - a ≤ hi) : IV z lo hi := by
  rw [IV] at h
  rw [IV, i]
  exact ⟨by omega, by omega⟩
theorem exE1 {α0 : Type} {A B : α0 → Prop} {G : Prop} (h : ∃ (x0 : α0), A x0 ∧ B x0) (k : ∀ (x0 : α0), A x0 → B x0 → G) : G := Exists.elim h (fun x0 h1 => k x0 h1.1 h1.2)
theorem exE2 {α0 α1 : Type} {A B : α0 → α1 → Prop} {G : Prop} (h : ∃ (x0 : α0) (x1 : α1), A x0 x1 ∧ B x0 x1) (k : ∀ (x0 : α0) (x1 : α1), A x0 x1 → B x0 x1 → G) : G := Exists.elim h (fun x0 h1 => Exists.elim h1 (fun x1 h2 => k x0 x1 h2.1 h2.2))
theorem exE3 {α0 α1 α2 : Type} {A B : α0 → α1 → α2 → Prop} {G : Prop} (h : ∃ (x0 : α0) (x1 : α1) (x2 : α2), A x0 x1 x2 ∧ B x0 x1 x2) (k : ∀ (x0 : α0) (x1 : α1) (x2 : α2), A x0 x1 x2 → B x0 x1 x2 → G) : G := Exists.elim h (fun x0 h1 => Exists.elim h1 (fun x1 h2 => Exists.elim h2 (fun x2 h3 => k x0 x1 x2 h3.1 h3.2)))
theorem exE4 {α0 α1 α2 α3 : Type} {A B : α0 → α1 → α2 → α3 → Prop} {G : Prop} (h : ∃ (x0 : α0) (x1 : α1) (x2 : α2) (x3 : α3), A x0 x1 x2 x3 ∧ B x0 x1 x2 x3) (k : ∀ (x0 : α0) (x1 : α1) (x2 : α2) (x3 : α3), A x0 x1 x2 x3 → B x0 x1 x2 x3 → G) : G := Exists.elim h (fun x0 h1 => Exists.elim h1 (fun x1 h2 => Exists.elim h2 (fun x2 h3 => Exists.elim h3 (fun x3 h4 => k x0 x1 x2 x3 h4.1 h4.2))))
theorem exE5 {α0 α1 α2 α3 α4 : Type} {A B : α0 → α1 → α2 → α3 → α4 → Prop} {G : Prop} (h : ∃ (x0 : α0) (x1 : α1) (x2 : α2) (x3 : α3) (x4 : α4), A x0 x1 x2 x3 x4 ∧ B x0 x1 x2 x3 x4) (k : ∀ (x0 : α0) (x1 : α1) (x2 : α2) (x3 : α3) (x4 : α4), A x0 x1 x2 x3 x4 → B x0 x1 x2 x3 x4 → G) : G := Exists.elim h (fun x0 h1 => Exists.elim h1 (fun x1 h2 => Exists.elim h2 (fun x2 h3 => Exists.elim h3 (fun x3 h4 => Exists.elim h4 (fun x4 h5 => k x0 x1 x2 x3 x4 h5.1 h5.2)))))
theorem exE6 {α0 α1 α2 α3 α4 α5 : Type} {A B : α0 → α1 → α2 → α3 → α4 → α5 → Prop} {G : Prop} (h : ∃ (x0 : α0) (x1 : α1) (x2 : α2) (x3 : α3) (x4 : α4) (x5 : α5), A x0 x1 x2 x3 x4 x5 ∧ B x0 x1 x2 x3 x4 x5) (k : ∀ (x0 : α0) (x1 : α1) (x2 : α2) (x3 : α3) (x4 : α4) (x5 : α5), A x0 x1 x2 x3 x4 x5 → B x0 x1 x2 x3 x4 x5 → G) : G := Exists.elim h (fun x0 h1 => Exists.elim h1 (fun x1 h2 => Exists.elim h2 (fun x2 h3 => Exists.elim h3 (fun x3 h4 => Exists.elim h4 (fun x4 h5 => Exists.elim h5 (fun x5 h6 => k x0 x1 x2 x3 x4 x5 h6.1 h6.2))))))
theorem exE7 {α0 α1 α2 α3 α4 α5 α6 : Type} {A B : α0 → α1 → α2 → α3 → α4 → α5 → α6 → Prop} {G : Prop} (h : ∃ (x0 : α0) (x1 : α1) (x2 : α2) (x3 : α3) (x4 : α4) (x5 : α5) (x6 : α6), A x0 x1 x2 x3 x4 x5 x6 ∧ B x0 x1 x2 x3 x4 x5 x6) (k : ∀ (x0 : α0) (x1 : α1) (x2 : α2) (x3 : α3) (x4 : α4) (x5 : α5) (x6 : α6), A x0 x1 x2 x3 x4 x5 x6 → B x0 x1 x2 x3 x4 x5 x6 → G) : G := Exists.elim h (fun x0 h1 => Exists.elim h1 (fun x1 h2 => Exists.elim h2 (fun x2 h3 => Exists.elim h3 (fun x3 h4 => Exists.elim h4 (fun x4 h5 => Exists.elim h5 (fun x5 h6 => Exists.elim h6 (fun x6 h7 => k x0 x1 x2 x3 x4 x5 x6 h7.1 h7.2)))))))
theorem exE8 {α0 α1 α2 α3 α4 α5 α6 α7 : Type} {A B : α0 → α1 → α2 → α3 → α4 → α5 → α6 → α7 → Prop} {G : Prop} (h : ∃ (x0 : α0) (x1 : α1) (x2 : α2) (x3 : α3) (x4 : α4) (x5 : α5) (x6 : α6) (x7 : α7), A x0 x1 x2 x3 x4 x5 x6 x7 ∧ B x0 x1 x2 x3 x4 x5 x6 x7) (k : ∀ (x0 : α0) (x1 : α1) (x2 : α2) (x3 : α3) (x4 : α4) (x5 : α5) (x6 : α6) (x7 : α7), A x0 x1 x2 x3 x4 x5 x6 x7 → B x0 x1 x2 x3 x4 x5 x6 x7 → G) : G := Exists.elim h (fun x0 h1 => Exists.elim h1 (fun x1 h2 => Exists.elim h2 (fun x2 h3 => Exists.elim h3 (fun x3 h4 => Exists.elim h4 (fun x4 h5 => Exists.elim h5 (fun x5 h6 => Exists.elim h6 (fun x6 h7 => Exists.elim h7 (fun x7 h8 => k x0 x1 x2 x3 x4 x5 x6 x7 h8.1 h8.2))))))))
theorem exE9 {α0 α1 α2 α3 α4 α5 α6 α7 α8 : Type} {A B : α0 → α1 → α2 → α3 → α4 → α5 → α6 → α7 → α8 → Prop} {G : Prop} (h : ∃ (x0 : α0) (x1 : α1) (x2 : α2) (x3 : α3) (x4 : α4) (x5 : α5) (x6 : α6) (x7 : α7) (x8 : α8), A x0 x1 x2 x3 x4 x5 x6 x7 x8 ∧ B x0 x1 x2 x3 x4 x5 x6 x7 x8) (k : ∀ (x0 : α0) (x1 : α1) (x2 : α2) (x3 : α3) (x4 : α4) (x5 : α5) (x6 : α6) (x7 : α7) (x8 : α8), A x0 x1 x2 x3 x4 x5 x6 x7 x8 → B x0 x1 x2 x3 x4 x5 x6 x7 x8 → G) : G := Exists.elim h (fun x0 h1 => Exists.elim h1 (fun x1 h2 => Exists.elim h2 (fun x2 h3 => Exists.elim h3 (fun x3 h4 => Exists.elim h4 (fun x4 h5 => Exists.elim h5 (fun x5 h6 => Exists.elim h6 (fun x6 h7 => Exists.elim h7 (fun x7 h8 => Exists.elim h8 (fun x8 h9 => k x0 x1 x2 x3 x4 x5 x6 x7 x8 h9.1 h9.2)))))))))
theorem exE10 {α0 α1 α2 α3 α4 α5 α6 α7 α8 α9 : Type} {A B : α0 → α1 → α2 → α3 → α4 → α5 → α6 → α7 → α8 → α9 → Prop} {G : Prop} (h : ∃ (x0 : α0) (x1 : α1) (x2 : α2) (x3 : α3) (x4 : α4) (x5 : α5) (x6 : α6) (x7 : α7) (x8 : α8) (x9 : α9), A x0 x1 x2 x3 x4 x5 x6 x7 x8 x9 ∧ B x0 x1 x2 x3 x4 x5 x6 x7 x8 x9) (k : ∀ (x0 : α0) (x1 : α1) (x2 : α2) (x3 : α3) (x4 : α4) (x5 : α5) (x6 : α6) (x7 : α7) (x8 : α8) (x9 : α9), A x0 x1 x2 x3 x4 x5 x6 x7 x8 x9 → B x0 x1 x2 x3 x4 x5 x6 x7 x8 x9 → G) : G := Exists.elim h (fun x0 h1 => Exists.elim h1 (fun x1 h2 => Exists.elim h2 (fun x2 h3 => Exists.elim h3 (fun x3 h4 => Exists.elim h4 (fun x4 h5 => Exists.elim h5 (fun x5 h6 => Exists.elim h6 (fun x6 h7 => Exists.elim h7 (fun x7 h8 => Exists.elim h8 (fun x8 h9 => Exists.elim h9 (fun x9 h10 => k x0 x1 x2 x3 x4 x5 x6 x7 x8 x9 h10.1 h10.2))))))))))
theorem exL10 {α0 α1 α2 α3 α4 α5 α6 α7 α8 α9 : Type} {B : α0 → α1 → α2 → α3 → α4 → α5 → α6 → α7 → α8 → α9 → Prop} {G : Prop} (h : ∃ (x0 : α0) (x1 : α1) (x2 : α2) (x3 : α3) (x4 : α4) (x5 : α5) (x6 : α6) (x7 : α7) (x8 : α8) (x9 : α9), B x0 x1 x2 x3 x4 x5 x6 x7 x8 x9) (k : ∀ (x0 : α0) (x1 : α1) (x2 : α2) (x3 : α3) (x4 : α4) (x5 : α5) (x6 : α6) (x7 : α7) (x8 : α8) (x9 : α9), B x0 x1 x2 x3 x4 x5 x6 x7 x8 x9 → G) : G := Exists.elim h (fun x0 h1 => Exists.elim h1 (fun x1 h2 => Exists.elim h2 (fun x2 h3 => Exists.elim h3 (fun x3 h4 => Exists.elim h4 (fun x4 h5 => Exists.elim h5 (fun x5 h6 => Exists.elim h6 (fun x6 h7 => Exists.elim h7 (fun x7 h8 => Exists.elim h8 (fun x8 h9 => Exists.elim h9 (fun x9 h10 => k x0 x1 x2 x3 x4 x5 x6 x7 x8 x9 h10))))))))))
theorem exE11 {α0 α1 α2 α3 α4 α5 α6 α7 α8 α9 α10 : Type} {A B : α0 → α1 → α2 → α3 → α4 → α5 → α6 → α7 → α8 → α9 → α10 → Prop} {G : Prop} (h : ∃ (x0 : α0) (x1 : α1) (x2 : α2) (x3 : α3) (x4 : α4) (x5 : α5) (x6 : α6) (x7 : α7) (x8 : α8) (x9 : α9) (x10 : α10), A x0 x1 x2 x3 x4 x5 x6 x7 x8 x9 x10 ∧ B x0 x1 x2 x3 x4 x5 x6 x7 x8 x9 x10) (k : ∀ (x0 : α0) (x1 : α1) (x2 : α2) (x3 : α3) (x4 : α4) (x5 : α5) (x6 : α6) (x7 : α7) (x8 : α8) (x9 : α9) (x10 : α10), A x0 x1 x2 x3 x4 x5 x6 x7 x8 x9 x10 → B x0 x1 x2 x3 x4 x5 x6 x7 x8 x9 x10 → G) : G := Exists.elim h (fun x0 h1 => Exists.elim h1 (fun x1 h2 => Exists.elim h2 (fun x2 h3 => Exists.elim h3 (fun x3 h4 => Exists.elim h4 (fun x4 h5 => Exists.elim h5 (fun x5 h6 => Exists.elim h6 (fun x6 h7 => Exists.elim h7 (fun x7 h8 => Exists.elim h8 (fun x8 h9 => Exists.elim h9 (fun x9 h10 => Exists.elim h10 (fun x10 h11 => k x0 x1 x2 x3 x4 x5 x6 x7 x8 x9 x10 h11.1 h11.2)))))))))))
theorem exL11 {α0 α1 α2 α3 α4 α5 α6 α7 α8 α9 α10 : Type} {B : α0 → α1 → α2 → α3 → α4 → α5 → α6 → α7 → α8 → α9 → α10 → Prop} {G : Prop} (h : ∃ (x0 : α0) (x1 : α1) (x2 : α2) (x3 : α3) (x4 : α4) (x5 : α5) (x6 : α6) (x7 : α7) (x8 : α8) (x9 : α9) (x10 : α10), B x0 x1 x2 x3 x4 x5 x6 x7 x8 x9 x10) (k : ∀ (x0 : α0) (x1 : α1) (x2 : α2) (x3 : α3) (x4 : α4) (x5 : α5) (x6 : α6) (x7 : α7) (x8 : α8) (x9 : α9) (x10 : α10), B x0 x1 x2 x3 x4 x5 x6 x7 x8 x9 x10 → G) : G := Exists.elim h (fun x0 h1 => Exists.elim h1 (fun x1 h2 => Exists.elim h2 (fun x2 h3 => Exists.elim h3 (fun x3 h4 => Exists.elim h4 (fun x4 h5 => Exists.elim h5 (fun x5 h6 => Exists.elim h6 (fun x6 h7 => Exists.elim h7 (fun x7 h8 => Exists.elim h8 (fun x8 h9 => Exists.elim h9 (fun x9 h10 => Exists.elim h10 (fun x10 h11 => k x0 x1 x2 x3 x4 x5 x6 x7 x8 x9 x10 h11)))))))))))
theorem exL12 {α0 α1 α2 α3 α4 α5 α6 α7 α8 α9 α10 α11 : Type} {B : α0 → α1 → α2 → α3 → α4 → α5 → α6 → α7 → α8 → α9 → α10 → α11 → Prop} {G : Prop} (h : ∃ (x0 : α0) (x1 : α1) (x2 : α2) (x3 : α3) (x4 : α4) (x5 : α5) (x6 : α6) (x7 : α7) (x8 : α8) (x9 : α9) (x10 : α10) (x11 : α11), B x0 x1 x2 x3 x4 x5 x6 x7 x8 x9 x10 x11) (k : ∀ (x0 : α0) (x1 : α1) (x2 : α2) (x3 : α3) (x4 : α4) (x5 : α5) (x6 : α6) (x7 : α7) (x8 : α8) (x9 : α9) (x10 : α10) (x11 : α11), B x0 x1 x2 x3 x4 x5 x6 x7 x8 x9 x10 x11 → G) : G := Exists.elim h (fun x0 h1 => Exists.elim h1 (fun x1 h2 => Exists.elim h2 (fun x2 h3 => Exists.elim h3 (fun x3 h4 => Exists.elim h4 (fun x4 h5 => Exists.elim h5 (fun x5 h6 => Exists.elim h6 (fun x6 h7 => Exists.elim h7 (fun x7 h8 => Exists.elim h8 (fun x8 h9 => Exists.elim h9 (fun x9 h10 => Exists.elim h10 (fun x10 h11 => Exists.elim h11 (fun x11 h12 => k x0 x1 x2 x3 x4 x5 x6 x7 x8 x9 x10 x11 h12))))))))))))
theorem exE13 {α0 α1 α2 α3 α4 α5 α6 α7 α8 α9 α10 α11 α12 : Type} {A B : α0 → α1 → α2 → α3 → α4 → α5 → α6 → α7 → α8 → α9 → α10 → α11 → α12 → Prop} {G : Prop} (h : ∃ (x0 : α0) (x1 : α1) (x2 : α2) (x3 : α3) (x4 : α4) (x5 : α5) (x6 : α6) (x7 : α7) (x8 : α8) (x9 : α9) (x10 : α10) (x11 : α11) (x12 : α12), A x0 x1 x2 x3 x4 x5 x6 x7 x8 x9 x10 x11 x12 ∧ B x0 x1 x2 x3 x4 x5 x6 x7 x8 x9 x10 x11 x12) (k : ∀ (x0 : α0) (x1 : α1) (x2 : α2) (x3 : α3) (x4 : α4) (x5 : α5) (x6 : α6) (x7 : α7) (x8 : α8) (x9 : α9) (x10 : α10) (x11 : α11) (x12 : α12), A x0 x1 x2 x3 x4 x5 x6 x7 x8 x9 x10 x11 x12 → B x0 x1 x2 x3 x4 x5 x6 x7 x8 x9 x10 x11 x12 → G) : G := Exists.elim h (fun x0 h1 => Exists.elim h1 (fun x1 h2 => Exists.elim h2 (fun x2 h3 => Exists.elim h3 (fun x3 h4 => Exists.elim h4 (fun x4 h5 => Exists.elim h5 (fun x5 h6 => Exists.elim h6 (fun x6 h7 => Exists.elim h7 (fun x7 h8 => Exists.elim h8 (fun x8 h9 => Exists.elim h9 (fun x9 h10 => Exists.elim h10 (fun x10 h11 => Exists.elim h11 (fun x11 h12 => Exists.elim h12 (fun x12 h13 => k x0 x1 x2 x3 x4 x5 x6 x7 x8 x9 x10 x11 x12 h13.1 h13.2)))))))))))))
theorem exL13 {α0 α1 α2 α3 α4 α5 α6 α7 α8 α9 α10 α11 α12 : Type} {B : α0 → α1 → α2 → α3 → α4 → α5 → α6 → α7 → α8 → α9 → α10 → α11 → α12 → Prop} {G : Prop} (h : ∃ (x0 : α0) (x1 : α1) (x2 : α2) (x3 : α3) (x4 : α4) (x5 : α5) (x6 : α6) (x7 : α7) (x8 : α8) (x9 : α9) (x10 : α10) (x11 : α11) (x12 : α12), B x0 x1 x2 x3 x4 x5 x6 x7 x8 x9 x10 x11 x12) (k : ∀ (x0 : α0) (x1 : α1) (x2 : α2) (x3 : α3) (x4 : α4) (x5 : α5) (x6 : α6) (x7 : α7) (x8 : α8) (x9 : α9) (x10 : α10) (x11 : α11) (x12 : α12), B x0 x1 x2 x3 x4 x5 x6 x7 x8 x9 x10 x11 x12 → G) : G := Exists.elim h (fun x0 h1 => Exists.elim h1 (fun x1 h2 => Exists.elim h2 (fun x2 h3 => Exists.elim h3 (fun x3 h4 => Exists.elim h4 (fun x4 h5 => Exists.elim h5 (fun x5 h6 => Exists.elim h6 (fun x6 h7 => Exists.elim h7 (fun x7 h8 => Exists.elim h8 (fun x8 h9 => Exists.elim h9 (fun x9 h10 => Exists.elim h10 (fun x10 h11 => Exists.elim h11 (fun x11 h12 => Exists.elim h12 (fun x12 h13 => k x0 x1 x2 x3 x4 x5 x6 x7 x8 x9 x10 x11 x12 h13)))))))))))))
theorem exE14 {α0 α1 α2 α3 α4 α5 α6 α7 α8 α9 α10 α11 α12 α13 : Type} {A B : α0 → α1 → α2 → α3 → α4 → α5 → α6 → α7 → α8 → α9 → α10 → α11 → α12 → α13 → Prop} {G : Prop} (h : ∃ (x0 : α0) (x1 : α1) (x2 : α2) (x3 : α3) (x4 : α4) (x5 : α5) (x6 : α6) (x7 : α7) (x8 : α8) (x9 : α9) (x10 : α10) (x11 : α11) (x12 : α12) (x13 : α13), A x0 x1 x2 x3 x4 x5 x6 x7 x8 x9 x10 x11 x12 x13 ∧ B x0 x1 x2 x3 x4 x5 x6 x7 x8 x9 x10 x11 x12 x13) (k : ∀ (x0 : α0) (x1 : α1) (x2 : α2) (x3 : α3) (x4 : α4) (x5 : α5) (x6 : α6) (x7 : α7) (x8 : α8) (x9 : α9) (x10 : α10) (x11 : α11) (x12 : α12) (x13 : α13), A x0 x1 x2 x3 x4 x5 x6 x7 x8 x9 x10 x11 x12 x13 → B x0 x1 x2 x3 x4 x5 x6 x7 x8 x9 x10 x11 x12 x13 → G) : G := Exists.elim h (fun x0 h1 => Exists.elim h1 (fun x1 h2 => Exists.elim h2 (fun x2 h3 => Exists.elim h3 (fun x3 h4 => Exists.elim h4 (fun x4 h5 => Exists.elim h5 (fun x5 h6 => Exists.elim h6 (fun x6 h7 => Exists.elim h7 (fun x7 h8 => Exists.elim h8 (fun x8 h9 => Exists.elim h9 (fun x9 h10 => Exists.elim h10 (fun x10 h11 => Exists.elim h11 (fun x11 h12 => Exists.elim h12 (fun x12 h13 => Exists.elim h13 (fun x13 h14 => k x0 x1 x2 x3 x4 x5 x6 x7 x8 x9 x10 x11 x12 x13 h14.1 h14.2))))))))))))))
theorem exL14 {α0 α1 α2 α3 α4 α5 α6 α7 α8 α9 α10 α11 α12 α13 : Type} {B : α0 → α1 → α2 → α3 → α4 → α5 → α6 → α7 → α8 → α9 → α10 → α11 → α12 → α13 → Prop} {G : Prop} (h : ∃ (x0 : α0) (x1 : α1) (x2 : α2) (x3 : α3) (x4 : α4) (x5 : α5) (x6 : α6) (x7 : α7) (x8 : α8) (x9 : α9) (x10 : α10) (x11 : α11) (x12 : α12) (x13 : α13), B x0 x1 x2 x3 x4 x5 x6 x7 x8 x9 x10 x11 x12 x13) (k : ∀ (x0 : α0) (x1 : α1) (x2 : α2) (x3 : α3) (x4 : α4) (x5 : α5) (x6 : α6) (x7 : α7) (x8 : α8) (x9 : α9) (x10 : α10) (x11 : α11) (x12 : α12) (x13 : α13), B x0 x1 x2 x3 x4 x5 x6 x7 x8 x9 x10 x11 x12 x13 → G) : G := Exists.elim h (fun x0 h1 => Exists.elim h1 (fun x1 h2 => Exists.elim h2 (fun x2 h3 => Exists.elim h3 (fun x3 h4 => Exists.elim h4 (fun x4 h5 => Exists.elim h5 (fun x5 h6 => Exists.elim h6 (fun x6 h7 => Exists.elim h7 (fun x7 h8 => Exists.elim h8 (fun x8 h9 => Exists.elim h9 (fun x9 h10 => Exists.elim h10 (fun x10 h11 => Exists.elim h11 (fun x11 h12 => Exists.elim h12 (fun x12 h13 => Exists.elim h13 (fun x13 h14 => k x0 x1 x2 x3 x4 x5 x6 x7 x8 x9 x10 x11 x12 x13 h14))))))))))))))
theorem exE15 {α0 α1 α2 α3 α4 α5 α6 α7 α8 α9 α10 α11 α12 α13 α14 : Type} {A B : α0 → α1 → α2 → α3 → α4 → α5 → α6 → α7 → α8 → α9 → α10 → α11 → α12 → α13 → α14 → Prop} {G : Prop} (h : ∃ (x0 : α0) (x1 : α1) (x2 : α2) (x3 : α3) (x4 : α4) (x5 : α5) (x6 : α6) (x7 : α7) (x8 : α8) (x9 : α9) (x10 : α10) (x11 : α11) (x12 : α12) (x13 : α13) (x14 : α14), A x0 x1 x2 x3 x4 x5 x6 x7 x8 x9 x10 x11 x12 x13 x14 ∧ B x0 x1 x2 x3 x4 x5 x6 x7 x8 x9 x10 x11 x12 x13 x14) (k : ∀ (x0 : α0) (x1 : α1) (x2 : α2) (x3 : α3) (x4 : α4) (x5 : α5) (x6 : α6) (x7 : α7) (x8 : α8) (x9 : α9) (x10 : α10) (x11 : α11) (x12 : α12) (x13 : α13) (x14 : α14), A x0 x1 x2 x3 x4 x5 x6 x7 x8 x9 x10 x11 x12 x13 x14 → B x0 x1 x2 x3 x4 x5 x6 x7 x8 x9 x10 x11 x12 x13 x14 → G) : G := Exists.elim h (fun x0 h1 => Exists.elim h1 (fun x1 h2 => Exists.elim h2 (fun x2 h3 => Exists.elim h3 (fun x3 h4 => Exists.elim h4 (fun x4 h5 => Exists.elim h5 (fun x5 h6 => Exists.elim h6 (fun x6 h7 => Exists.elim h7 (fun x7 h8 => Exists.elim h8 (fun x8 h9 => Exists.elim h9 (fun x9 h10 => Exists.elim h10 (fun x10 h11 => Exists.elim h11 (fun x11 h12 => Exists.elim h12 (fun x12 h13 => Exists.elim h13 (fun x13 h14 => Exists.elim h14 (fun x14 h15 => k x0 x1 x2 x3 x4 x5 x6 x7 x8 x9 x10 x11 x12 x13 x14 h15.1 h15.2)))))))))))))))
theorem exL23 {α0 α1 α2 α3 α4 α5 α6 α7 α8 α9 α10 α11 α12 α13 α14 α15 α16 α17 α18 α19 α20 α21 α22 : Type} {B : α0 → α1 → α2 → α3 → α4 → α5 → α6 → α7 → α8 → α9 → α10 → α11 → α12 → α13 → α14 → α15 → α16 → α17 → α18 → α19 → α20 → α21 → α22 → Prop} {G : Prop} (h : ∃ (x0 : α0) (x1 : α1) (x2 : α2) (x3 : α3) (x4 : α4) (x5 : α5) (x6 : α6) (x7 : α7) (x8 : α8) (x9 : α9) (x10 : α10) (x11 : α11) (x12 : α12) (x13 : α13) (x14 : α14) (x15 : α15) (x16 : α16) (x17 : α17) (x18 : α18) (x19 : α19) (x20 : α20) (x21 : α21) (x22 : α22), B x0 x1 x2 x3 x4 x5 x6 x7 x8 x9 x10 x11 x12 x13 x14 x15 x16 x17 x18 x19 x20 x21 x22) (k : ∀ (x0 : α0) (x1 : α1) (x2 : α2) (x3 : α3) (x4 : α4) (x5 : α5) (x6 : α6) (x7 : α7) (x8 : α8) (x9 : α9) (x10 : α10) (x11 : α11) (x12 : α12) (x13 : α13) (x14 : α14) (x15 : α15) (x16 : α16) (x17 : α17) (x18 : α18) (x19 : α19) (x20 : α20) (x21 : α21) (x22 : α22), B x0 x1 x2 x3 x4 x5 x6 x7 x8 x9 x10 x11 x12 x13 x14 x15 x16 x17 x18 x19 x20 x21 x22 → G) : G := Exists.elim h (fun x0 h1 => Exists.elim h1 (fun x1 h2 => Exists.elim h2 (fun x2 h3 => Exists.elim h3 (fun x3 h4 => Exists.elim h4 (fun x4 h5 => Exists.elim h5 (fun x5 h6 => Exists.elim h6 (fun x6 h7 => Exists.elim h7 (fun x7 h8 => Exists.elim h8 (fun x8 h9 => Exists.elim h9 (fun x9 h10 => Exists.elim h10 (fun x10 h11 => Exists.elim h11 (fun x11 h12 => Exists.elim h12 (fun x12 h13 => Exists.elim h13 (fun x13 h14 => Exists.elim h14 (fun x14 h15 => Exists.elim h15 (fun x15 h16 => Exists.elim h16 (fun x16 h17 => Exists.elim h17 (fun x17 h18 => Exists.elim h18 (fun x18 h19 => Exists.elim h19 (fun x19 h20 => Exists.elim h20 (fun x20 h21 => Exists.elim h21 (fun x21 h22 => Exists.elim h22 (fun x22 h23 => k x0 x1 x2 x3 x4 x5 x6 x7 x8 x9 x10 x11 x12 x13 x14 x15 x16 x17 x18 x19 x20 x21 x22 h23)))))))))))))))))))))))
theorem exE24 {α0 α1 α2 α3 α4 α5 α6 α7 α8 α9 α10 α11 α12 α13 α14 α15 α16 α17 α18 α19 α20 α21 α22 α23 : Type} {A B : α0 → α1 → α2 → α3 → α4 → α5 → α6 → α7 → α8 → α9 → α10 → α11 → α12 → α13 → α14 → α15 → α16 → α17 → α18 → α19 → α20 → α21 → α22 → α23 → Prop} {G : Prop} (h : ∃ (x0 : α0) (x1 : α1) (x2 : α2) (x3 : α3) (x4 : α4) (x5 : α5) (x6 : α6) (x7 : α7) (x8 : α8) (x9 : α9) (x10 : α10) (x11 : α11) (x12 : α12) (x13 : α13) (x14 : α14) (x15 : α15) (x16 : α16) (x17 : α17) (x18 : α18) (x19 : α19) (x20 : α20) (x21 : α21) (x22 : α22) (x23 : α23), A x0 x1 x2 x3 x4 x5 x6 x7 x8 x9 x10 x11 x12 x13 x14 x15 x16 x17 x18 x19 x20 x21 x22 x23 ∧ B x0 x1 x2 x3 x4 x5 x6 x7 x8 x9 x10 x11 x12 x13 x14 x15 x16 x17 x18 x19 x20 x21 x22 x23) (k : ∀ (x0 : α0) (x1 : α1) (x2 : α2) (x3 : α3) (x4 : α4) (x5 : α5) (x6 : α6) (x7 : α7) (x8 : α8) (x9 : α9) (x10 : α10) (x11 : α11) (x12 : α12) (x13 : α13) (x14 : α14) (x15 : α15) (x16 : α16) (x17 : α17) (x18 : α18) (x19 : α19) (x20 : α20) (x21 : α21) (x22 : α22) (x23 : α23), A x0 x1 x2 x3 x4 x5 x6 x7 x8 x9 x10 x11 x12 x13 x14 x15 x16 x17 x18 x19 x20 x21 x22 x23 → B x0 x1 x2 x3 x4 x5 x6 x7 x8 x9 x10 x11 x12 x13 x14 x15 x16 x17 x18 x19 x20 x21 x22 x23 → G) : G := Exists.elim h (fun x0 h1 => Exists.elim h1 (fun x1 h2 => Exists.elim h2 (fun x2 h3 => Exists.elim h3 (fun x3 h4 => Exists.elim h4 (fun x4 h5 => Exists.elim h5 (fun x5 h6 => Exists.elim h6 (fun x6 h7 => Exists.elim h7 (fun x7 h8 => Exists.elim h8 (fun x8 h9 => Exists.elim h9 (fun x9 h10 => Exists.elim h10 (fun x10 h11 => Exists.elim h11 (fun x11 h12 => Exists.elim h12 (fun x12 h13 => Exists.elim h13 (fun x13 h14 => Exists.elim h14 (fun x14 h15 => Exists.elim h15 (fun x15 h16 => Exists.elim h16 (fun x16 h17 => Exists.elim h17 (fun x17 h18 => Exists.elim h18 (fun x18 h19 => Exists.elim h19 (fun x19 h20 => Exists.elim h20 (fun x20 h21 => Exists.elim h21 (fun x21 h22 => Exists.elim h22 (fun x22 h23 => Exists.elim h23 (fun x23 h24 => k x0 x1 x2 x3 x4 x5 x6 x7 x8 x9 x10 x11 x12 x13 x14 x15 x16 x17 x18 x19 x20 x21 x22 x23 h24.1 h24.2))))))))))))))))))))))))
theorem exL24 {α0 α1 α2 α3 α4 α5 α6 α7 α8 α9 α10 α11 α12 α13 α14 α15 α16 α17 α18 α19 α20 α21 α22 α23 : Type} {B : α0 → α1 → α2 → α3 → α4 → α5 → α6 → α7 → α8 → α9 → α10 → α11 → α12 → α13 → α14 → α15 → α16 → α17 → α18 → α19 → α20 → α21 → α22 → α23 → Prop} {G : Prop} (h : ∃ (x0 : α0) (x1 : α1) (x2 : α2) (x3 : α3) (x4 : α4) (x5 : α5) (x6 : α6) (x7 : α7) (x8 : α8) (x9 : α9) (x10 : α10) (x11 : α11) (x12 : α12) (x13 : α13) (x14 : α14) (x15 : α15) (x16 : α16) (x17 : α17) (x18 : α18) (x19 : α19) (x20 : α20) (x21 : α21) (x22 : α22) (x23 : α23), B x0 x1 x2 x3 x4 x5 x6 x7 x8 x9 x10 x11 x12 x13 x14 x15 x16 x17 x18 x19 x20 x21 x22 x23) (k : ∀ (x0 : α0) (x1 : α1) (x2 : α2) (x3 : α3) (x4 : α4) (x5 : α5) (x6 : α6) (x7 : α7) (x8 : α8) (x9 : α9) (x10 : α10) (x11 : α11) (x12 : α12) (x13 : α13) (x14 : α14) (x15 : α15) (x16 : α16) (x17 : α17) (x18 : α18) (x19 : α19) (x20 : α20) (x21 : α21) (x22 : α22) (x23 : α23), B x0 x1 x2 x3 x4 x5 x6 x7 x8 x9 x10 x11 x12 x13 x14 x15 x16 x17 x18 x19 x20 x21 x22 x23 → G) : G := Exists.elim h (fun x0 h1 => Exists.elim h1 (fun x1 h2 => Exists.elim h2 (fun x2 h3 => Exists.elim h3 (fun x3 h4 => Exists.elim h4 (fun x4 h5 => Exists.elim h5 (fun x5 h6 => Exists.elim h6 (fun x6 h7 => Exists.elim h7 (fun x7 h8 => Exists.elim h8 (fun x8 h9 => Exists.elim h9 (fun x9 h10 => Exists.elim h10 (fun x10 h11 => Exists.elim h11 (fun x11 h12 => Exists.elim h12 (fun x12 h13 => Exists.elim h13 (fun x13 h14 => Exists.elim h14 (fun x14 h15 => Exists.elim h15 (fun x15 h16 => Exists.elim h16 (fun x16 h17 => Exists.elim h17 (fun x17 h18 => Exists.elim h18 (fun x18 h19 => Exists.elim h19 (fun x19 h20 => Exists.elim h20 (fun x20 h21 => Exists.elim h21 (fun x21 h22 => Exists.elim h22 (fun x22 h23 => Exists.elim h23 (fun x23 h24 => k x0 x1 x2 x3 x4 x5 x6 x7 x8 x9 x10 x11 x12 x13 x14 x15 x16 x17 x18 x19 x20 x21 x22 x23 h24))))))))))))))))))))))))
theorem exL28 {α0 α1 α2 α3 α4 α5 α6 α7 α8 α9 α10 α11 α12 α13 α14 α15 α16 α17 α18 α19 α20 α21 α22 α23 α24 α25 α26 α27 : Type} {B : α0 → α1 → α2 → α3 → α4 → α5 → α6 → α7 → α8 → α9 → α10 → α11 → α12 → α13 → α14 → α15 → α16 → α17 → α18 → α19 → α20 → α21 → α22 → α23 → α24 → α25 → α26 → α27 → Prop} {G : Prop} (h : ∃ (x0 : α0) (x1 : α1) (x2 : α2) (x3 : α3) (x4 : α4) (x5 : α5) (x6 : α6) (x7 : α7) (x8 : α8) (x9 : α9) (x10 : α10) (x11 : α11) (x12 : α12) (x13 : α13) (x14 : α14) (x15 : α15) (x16 : α16) (x17 : α17) (x18 : α18) (x19 : α19) (x20 : α20) (x21 : α21) (x22 : α22) (x23 : α23) (x24 : α24) (x25 : α25) (x26 : α26) (x27 : α27), B x0 x1 x2 x3 x4 x5 x6 x7 x8 x9 x10 x11 x12 x13 x14 x15 x16 x17 x18 x19 x20 x21 x22 x23 x24 x25 x26 x27) (k : ∀ (x0 : α0) (x1 : α1) (x2 : α2) (x3 : α3) (x4 : α4) (x5 : α5) (x6 : α6) (x7 : α7) (x8 : α8) (x9 : α9) (x10 : α10) (x11 : α11) (x12 : α12) (x13 : α13) (x14 : α14) (x15 : α15) (x16 : α16) (x17 : α17) (x18 : α18) (x19 : α19) (x20 : α20) (x21 : α21) (x22 : α22) (x23 : α23) (x24 : α24) (x25 : α25) (x26 : α26) (x27 : α27), B x0 x1 x2 x3 x4 x5 x6 x7 x8 x9 x10 x11 x12 x13 x14 x15 x16 x17 x18 x19 x20 x21 x22 x23 x24 x25 x26 x27 → G) : G := Exists.elim h (fun x0 h1 => Exists.elim h1 (fun x1 h2 => Exists.elim h2 (fun x2 h3 => Exists.elim h3 (fun x3 h4 => Exists.elim h4 (fun x4 h5 => Exists.elim h5 (fun x5 h6 => Exists.elim h6 (fun x6 h7 => Exists.elim h7 (fun x7 h8 => Exists.elim h8 (fun x8 h9 => Exists.elim h9 (fun x9 h10 => Exists.elim h10 (fun x10 h11 => Exists.elim h11 (fun x11 h12 => Exists.elim h12 (fun x12 h13 => Exists.elim h13 (fun x13 h14 => Exists.elim h14 (fun x14 h15 => Exists.elim h15 (fun x15 h16 => Exists.elim h16 (fun x16 h17 => Exists.elim h17 (fun x17 h18 => Exists.elim h18 (fun x18 h19 => Exists.elim h19 (fun x19 h20 => Exists.elim h20 (fun x20 h21 => Exists.elim h21 (fun x21 h22 => Exists.elim h22 (fun x22 h23 => Exists.elim h23 (fun x23 h24 => Exists.elim h24 (fun x24 h25 => Exists.elim h25 (fun x25 h26 => Exists.elim h26 (fun x26 h27 => Exists.elim h27 (fun x27 h28 => k x0 x1 x2 x3 x4 x5 x6 x7 x8 x9 x10 x11 x12 x13 x14 x15 x16 x17 x18 x19 x20 x21 x22 x23 x24 x25 x26 x27 h28))))))))))))))))))))))))))))
theorem exE33 {α0 α1 α2 α3 α4 α5 α6 α7 α8 α9 α10 α11 α12 α13 α14 α15 α16 α17 α18 α19 α20 α21 α22 α23 α24 α25 α26 α27 α28 α29 α30 α31 α32 : Type} {A B : α0 → α1 → α2 → α3 → α4 → α5 → α6 → α7 → α8 → α9 → α10 → α11 → α12 → α13 → α14 → α15 → α16 → α17 → α18 → α19 → α20 → α21 → α22 → α23 → α24 → α25 → α26 → α27 → α28 → α29 → α30 → α31 → α32 → Prop} {G : Prop} (h : ∃ (x0 : α0) (x1 : α1) (x2 : α2) (x3 : α3) (x4 : α4) (x5 : α5) (x6 : α6) (x7 : α7) (x8 : α8) (x9 : α9) (x10 : α10) (x11 : α11) (x12 : α12) (x13 : α13) (x14 : α14) (x15 : α15) (x16 : α16) (x17 : α17) (x18 : α18) (x19 : α19) (x20 : α20) (x21 : α21) (x22 : α22) (x23 : α23) (x24 : α24) (x25 : α25) (x26 : α26) (x27 : α27) (x28 : α28) (x29 : α29) (x30 : α30) (x31 : α31) (x32 : α32), A x0 x1 x2 x3 x4 x5 x6 x7 x8 x9 x10 x11 x12 x13 x14 x15 x16 x17 x18 x19 x20 x21 x22 x23 x24 x25 x26 x27 x28 x29 x30 x31 x32 ∧ B x0 x1 x2 x3 x4 x5 x6 x7 x8 x9 x10 x11 x12 x13 x14 x15 x16 x17 x18 x19 x20 x21 x22 x23 x24 x25 x26 x27 x28 x29 x30 x31 x32) (k : ∀ (x0 : α0) (x1 : α1) (x2 : α2) (x3 : α3) (x4 : α4) (x5 : α5) (x6 : α6) (x7 : α7) (x8 : α8) (x9 : α9) (x10 : α10) (x11 : α11) (x12 : α12) (x13 : α13) (x14 : α14) (x15 : α15) (x16 : α16) (x17 : α17) (x18 : α18) (x19 : α19) (x20 : α20) (x21 : α21) (x22 : α22) (x23 : α23) (x24 : α24) (x25 : α25) (x26 : α26) (x27 : α27) (x28 : α28) (x29 : α29) (x30 : α30) (x31 : α31) (x32 : α32), A x0 x1 x2 x3 x4 x5 x6 x7 x8 x9 x10 x11 x12 x13 x14 x15 x16 x17 x18 x19 x20 x21 x22 x23 x24 x25 x26 x27 x28 x29 x30 x31 x32 → B x0 x1 x2 x3 x4 x5 x6 x7 x8 x9 x10 x11 x12 x13 x14 x15 x16 x17 x18 x19 x20 x21 x22 x23 x24 x25 x26 x27 x28 x29 x30 x31 x32 → G) : G := Exists.elim h (fun x0 h1 => Exists.elim h1 (fun x1 h2 => Exists.elim h2 (fun x2 h3 => Exists.elim h3 (fun x3 h4 => Exists.elim h4 (fun x4 h5 => Exists.elim h5 (fun x5 h6 => Exists.elim h6 (fun x6 h7 => Exists.elim h7 (fun x7 h8 => Exists.elim h8 (fun x8 h9 => Exists.elim h9 (fun x9 h10 => Exists.elim h10 (fun x10 h11 => Exists.elim h11 (fun x11 h12 => Exists.elim h12 (fun x12 h13 => Exists.elim h13 (fun x13 h14 => Exists.elim h14 (fun x14 h15 => Exists.elim h15 (fun x15 h16 => Exists.elim h16 (fun x16 h17 => Exists.elim h17 (fun x17 h18 => Exists.elim h18 (fun x18 h19 => Exists.elim h19 (fun x19 h20 => Exists.elim h20 (fun x20 h21 => Exists.elim h21 (fun x21 h22 => Exists.elim h22 (fun x22 h23 => Exists.elim h23 (fun x23 h24 => Exists.elim h24 (fun x24 h25 => Exists.elim h25 (fun x25 h26 => Exists.elim h26 (fun x26 h27 => Exists.elim h27 (fun x27 h28 => Exists.elim h28 (fun x28 h29 => Exists.elim h29 (fun x29 h30 => Exists.elim h30 (fun x30 h31 => Exists.elim h31 (fun x31 h32 => Exists.elim h32 (fun x32 h33 => k x0 x1 x2 x3 x4 x5 x6 x7 x8 x9 x10 x11 x12 x13 x14 x15 x16 x17 x18 x19 x20 x21 x22 x23 x24 x25 x26 x27 x28 x29 x30 x31 x32 h33.1 h33.2)))))))))))))))))))))))))))))))))
theorem exE34 {α0 α1 α2 α3 α4 α5 α6 α7 α8 α9 α10 α11 α12 α13 α14 α15 α16 α17 α18 α19 α20 α21 α22 α23 α24 α25 α26 α27 α28 α29 α30 α31 α32 α33 : Type} {A B : α0 → α1 → α2 → α3 → α4 → α5 → α6 → α7 → α8 → α9 → α10 → α11 → α12 → α13 → α14 → α15 → α16 → α17 → α18 → α19 → α20 → α21 → α22 → α23 → α24 → α25 → α26 → α27 → α28 → α29 → α30 → α31 → α32 → α33 → Prop} {G : Prop} (h : ∃ (x0 : α0) (x1 : α1) (x2 : α2) (x3 : α3) (x4 : α4) (x5 : α5) (x6 : α6) (x7 : α7) (x8 : α8) (x9 : α9) (x10 : α10) (x11 : α11) (x12 : α12) (x13 : α13) (x14 : α14) (x15 : α15) (x16 : α16) (x17 : α17) (x18 : α18) (x19 : α19) (x20 : α20) (x21 : α21) (x22 : α22) (x23 : α23) (x24 : α24) (x25 : α25) (x26 : α26) (x27 : α27) (x28 : α28) (x29 : α29) (x30 : α30) (x31 : α31) (x32 : α32) (x33 : α33), A x0 x1 x2 x3 x4 x5 x6 x7 x8 x9 x10 x11 x12 x13 x14 x15 x16 x17 x18 x19 x20 x21 x22 x23 x24 x25 x26 x27 x28 x29 x30 x31 x32 x33 ∧ B x0 x1 x2 x3 x4 x5 x6 x7 x8 x9 x10 x11 x12 x13 x14 x15 x16 x17 x18 x19 x20 x21 x22 x23 x24 x25 x26 x27 x28 x29 x30 x31 x32 x33) (k : ∀ (x0 : α0) (x1 : α1) (x2 : α2) (x3 : α3) (x4 : α4) (x5 : α5) (x6 : α6) (x7 : α7) (x8 : α8) (x9 : α9) (x10 : α10) (x11 : α11) (x12 : α12) (x13 : α13) (x14 : α14) (x15 : α15) (x16 : α16) (x17 : α17) (x18 : α18) (x19 : α19) (x20 : α20) (x21 : α21) (x22 : α22) (x23 : α23) (x24 : α24) (x25 : α25) (x26 : α26) (x27 : α27) (x28 : α28) (x29 : α29) (x30 : α30) (x31 : α31) (x32 : α32) (x33 : α33), A x0 x1 x2 x3 x4 x5 x6 x7 x8 x9 x10 x11 x12 x13 x14 x15 x16 x17 x18 x19 x20 x21 x22 x23 x24 x25 x26 x27 x28 x29 x30 x31 x32 x33 → B x0 x1 x2 x3 x4 x5 x6 x7 x8 x9 x10 x11 x12 x13 x14 x15 x16 x17 x18 x19 x20 x21 x22 x23 x24 x25 x26 x27 x28 x29 x30 x31 x32 x33 → G) : G := Exists.elim h (fun x0 h1 => Exists.elim h1 (fun x1 h2 => Exists.elim h2 (fun x2 h3 => Exists.elim h3 (fun x3 h4 => Exists.elim h4 (fun x4 h5 => Exists.elim h5 (fun x5 h6 => Exists.elim h6 (fun x6 h7 => Exists.elim h7 (fun x7 h8 => Exists.elim h8 (fun x8 h9 => Exists.elim h9 (fun x9 h10 => Exists.elim h10 (fun x10 h11 => Exists.elim h11 (fun x11 h12 => Exists.elim h12 (fun x12 h13 => Exists.elim h13 (fun x13 h14 => Exists.elim h14 (fun x14 h15 => Exists.elim h15 (fun x15 h16 => Exists.elim h16 (fun x16 h17 => Exists.elim h17 (fun x17 h18 => Exists.elim h18 (fun x18 h19 => Exists.elim h19 (fun x19 h20 => Exists.elim h20 (fun x20 h21 => Exists.elim h21 (fun x21 h22 => Exists.elim h22 (fun x22 h23 => Exists.elim h23 (fun x23 h24 => Exists.elim h24 (fun x24 h25 => Exists.elim h25 (fun x25 h26 => Exists.elim h26 (fun x26 h27 => Exists.elim h27 (fun x27 h28 => Exists.elim h28 (fun x28 h29 => Exists.elim h29 (fun x29 h30 => Exists.elim h30 (fun x30 h31 => Exists.elim h31 (fun x31 h32 => Exists.elim h32 (fun x32 h33 => Exists.elim h33 (fun x33 h34 => k x0 x1 x2 x3 x4 x5 x6 x7 x8 x9 x10 x11 x12 x13 x14 x15 x16 x17 x18 x19 x20 x21 x22 x23 x24 x25 x26 x27 x28 x29 x30 x31 x32 x33 h34.1 h34.2))))))))))))))))))))))))))))))))))
theorem exE36 {α0 α1 α2 α3 α4 α5 α6 α7 α8 α9 α10 α11 α12 α13 α14 α15 α16 α17 α18 α19 α20 α21 α22 α23 α24 α25 α26 α27 α28 α29 α30 α31 α32 α33 α34 α35 : Type} {A B : α0 → α1 → α2 → α3 → α4 → α5 → α6 → α7 → α8 → α9 → α10 → α11 → α12 → α13 → α14 → α15 → α16 → α17 → α18 → α19 → α20 → α21 → α22 → α23 → α24 → α25 → α26 → α27 → α28 → α29 → α30 → α31 → α32 → α33 → α34 → α35 → Prop} {G : Prop} (h : ∃ (x0 : α0) (x1 : α1) (x2 : α2) (x3 : α3) (x4 : α4) (x5 : α5) (x6 : α6) (x7 : α7) (x8 : α8) (x9 : α9) (x10 : α10) (x11 : α11) (x12 : α12) (x13 : α13) (x14 : α14) (x15 : α15) (x16 : α16) (x17 : α17) (x18 : α18) (x19 : α19) (x20 : α20) (x21 : α21) (x22 : α22) (x23 : α23) (x24 : α24) (x25 : α25) (x26 : α26) (x27 : α27) (x28 : α28) (x29 : α29) (x30 : α30) (x31 : α31) (x32 : α32) (x33 : α33) (x34 : α34) (x35 : α35), A x0 x1 x2 x3 x4 x5 x6 x7 x8 x9 x10 x11 x12 x13 x14 x15 x16 x17 x18 x19 x20 x21 x22 x23 x24 x25 x26 x27 x28 x29 x30 x31 x32 x33 x34 x35 ∧ B x0 x1 x2 x3 x4 x5 x6 x7 x8 x9 x10 x11 x12 x13 x14 x15 x16 x17 x18 x19 x20 x21 x22 x23 x24 x25 x26 x27 x28 x29 x30 x31 x32 x33 x34 x35) (k : ∀ (x0 : α0) (x1 : α1) (x2 : α2) (x3 : α3) (x4 : α4) (x5 : α5) (x6 : α6) (x7 : α7) (x8 : α8) (x9 : α9) (x10 : α10) (x11 : α11) (x12 : α12) (x13 : α13) (x14 : α14) (x15 : α15) (x16 : α16) (x17 : α17) (x18 : α18) (x19 : α19) (x20 : α20) (x21 : α21) (x22 : α22) (x23 : α23) (x24 : α24) (x25 : α25) (x26 : α26) (x27 : α27) (x28 : α28) (x29 : α29) (x30 : α30) (x31 : α31) (x32 : α32) (x33 : α33) (x34 : α34) (x35 : α35), A x0 x1 x2 x3 x4 x5 x6 x7 x8 x9 x10 x11 x12 x13 x14 x15 x16 x17 x18 x19 x20 x21 x22 x23 x24 x25 x26 x27 x28 x29 x30 x31 x32 x33 x34 x35 → B x0 x1 x2 x3 x4 x5 x6 x7 x8 x9 x10 x11 x12 x13 x14 x15 x16 x17 x18 x19 x20 x21 x22 x23 x24 x25 x26 x27 x28 x29 x30 x31 x32 x33 x34 x35 → G) : G := Exists.elim h (fun x0 h1 => Exists.elim h1 (fun x1 h2 => Exists.elim h2 (fun x2 h3 => Exists.elim h3 (fun x3 h4 => Exists.elim h4 (fun x4 h5 => Exists.elim h5 (fun x5 h6 => Exists.elim h6 (fun x6 h7 => Exists.elim h7 (fun x7 h8 => Exists.elim h8 (fun x8 h9 => Exists.elim h9 (fun x9 h10 => Exists.elim h10 (fun x10 h11 => Exists.elim h11 (fun x11 h12 => Exists.elim h12 (fun x12 h13 => Exists.elim h13 (fun x13 h14 => Exists.elim h14 (fun x14 h15 => Exists.elim h15 (fun x15 h16 => Exists.elim h16 (fun x16 h17 => Exists.elim h17 (fun x17 h18 => Exists.elim h18 (fun x18 h19 => Exists.elim h19 (fun x19 h20 => Exists.elim h20 (fun x20 h21 => Exists.elim h21 (fun x21 h22 => Exists.elim h22 (fun x22 h23 => Exists.elim h23 (fun x23 h24 => Exists.elim h24 (fun x24 h25 => Exists.elim h25 (fun x25 h26 => Exists.elim h26 (fun x26 h27 => Exists.elim h27 (fun x27 h28 => Exists.elim h28 (fun x28 h29 => Exists.elim h29 (fun x29 h30 => Exists.elim h30 (fun x30 h31 => Exists.elim h31 (fun x31 h32 => Exists.elim h32 (fun x32 h33 => Exists.elim h33 (fun x33 h34 => Exists.elim h34 (fun x34 h35 => Exists.elim h35 (fun x35 h36 => k x0 x1 x2 x3 x4 x5 x6 x7 x8 x9 x10 x11 x12 x13 x14 x15 x16 x17 x18 x19 x20 x21 x22 x23 x24 x25 x26 x27 x28 x29 x30 x31 x32 x33 x34 x35 h36.1 h36.2))))))))))))))))))))))))))))))))))))
theorem exL36 {α0 α1 α2 α3 α4 α5 α6 α7 α8 α9 α10 α11 α12 α13 α14 α15 α16 α17 α18 α19 α20 α21 α22 α23 α24 α25 α26 α27 α28 α29 α30 α31 α32 α33 α34 α35 : Type} {B : α0 → α1 → α2 → α3 → α4 → α5 → α6 → α7 → α8 → α9 → α10 → α11 → α12 → α13 → α14 → α15 → α16 → α17 → α18 → α19 → α20 → α21 → α22 → α23 → α24 → α25 → α26 → α27 → α28 → α29 → α30 → α31 → α32 → α33 → α34 → α35 → Prop} {G : Prop} (h : ∃ (x0 : α0) (x1 : α1) (x2 : α2) (x3 : α3) (x4 : α4) (x5 : α5) (x6 : α6) (x7 : α7) (x8 : α8) (x9 : α9) (x10 : α10) (x11 : α11) (x12 : α12) (x13 : α13) (x14 : α14) (x15 : α15) (x16 : α16) (x17 : α17) (x18 : α18) (x19 : α19) (x20 : α20) (x21 : α21) (x22 : α22) (x23 : α23) (x24 : α24) (x25 : α25) (x26 : α26) (x27 : α27) (x28 : α28) (x29 : α29) (x30 : α30) (x31 : α31) (x32 : α32) (x33 : α33) (x34 : α34) (x35 : α35), B x0 x1 x2 x3 x4 x5 x6 x7 x8 x9 x10 x11 x12 x13 x14 x15 x16 x17 x18 x19 x20 x21 x22 x23 x24 x25 x26 x27 x28 x29 x30 x31 x32 x33 x34 x35) (k : ∀ (x0 : α0) (x1 : α1) (x2 : α2) (x3 : α3) (x4 : α4) (x5 : α5) (x6 : α6) (x7 : α7) (x8 : α8) (x9 : α9) (x10 : α10) (x11 : α11) (x12 : α12) (x13 : α13) (x14 : α14) (x15 : α15) (x16 : α16) (x17 : α17) (x18 : α18) (x19 : α19) (x20 : α20) (x21 : α21) (x22 : α22) (x23 : α23) (x24 : α24) (x25 : α25) (x26 : α26) (x27 : α27) (x28 : α28) (x29 : α29) (x30 : α30) (x31 : α31) (x32 : α32) (x33 : α33) (x34 : α34) (x35 : α35), B x0 x1 x2 x3 x4 x5 x6 x7 x8 x9 x10 x11 x12 x13 x14 x15 x16 x17 x18 x19 x20 x21 x22 x23 x24 x25 x26 x27 x28 x29 x30 x31 x32 x33 x34 x35 → G) : G := Exists.elim h (fun x0 h1 => Exists.elim h1 (fun x1 h2 => Exists.elim h2 (fun x2 h3 => Exists.elim h3 (fun x3 h4 => Exists.elim h4 (fun x4 h5 => Exists.elim h5 (fun x5 h6 => Exists.elim h6 (fun x6 h7 => Exists.elim h7 (fun x7 h8 => Exists.elim h8 (fun x8 h9 => Exists.elim h9 (fun x9 h10 => Exists.elim h10 (fun x10 h11 => Exists.elim h11 (fun x11 h12 => Exists.elim h12 (fun x12 h13 => Exists.elim h13 (fun x13 h14 => Exists.elim h14 (fun x14 h15 => Exists.elim h15 (fun x15 h16 => Exists.elim h16 (fun x16 h17 => Exists.elim h17 (fun x17 h18 => Exists.elim h18 (fun x18 h19 => Exists.elim h19 (fun x19 h20 => Exists.elim h20 (fun x20 h21 => Exists.elim h21 (fun x21 h22 => Exists.elim h22 (fun x22 h23 => Exists.elim h23 (fun x23 h24 => Exists.elim h24 (fun x24 h25 => Exists.elim h25 (fun x25 h26 => Exists.elim h26 (fun x26 h27 => Exists.elim h27 (fun x27 h28 => Exists.elim h28 (fun x28 h29 => Exists.elim h29 (fun x29 h30 => Exists.elim h30 (fun x30 h31 => Exists.elim h31 (fun x31 h32 => Exists.elim h32 (fun x32 h33 => Exists.elim h33 (fun x33 h34 => Exists.elim h34 (fun x34 h35 => Exists.elim h35 (fun x35 h36 => k x0 x1 x2 x3 x4 x5 x6 x7 x8 x9 x10 x11 x12 x13 x14 x15 x16 x17 x18 x19 x20 x21 x22 x23 x24 x25 x26 x27 x28 x29 x30 x31 x32 x33 x34 x35 h36))))))))))))))))))))))))))))))))))))
theorem exE37 {α0 α1 α2 α3 α4 α5 α6 α7 α8 α9 α10 α11 α12 α13 α14 α15 α16 α17 α18 α19 α20 α21 α22 α23 α24 α25 α26 α27 α28 α29 α30 α31 α32 α33 α34 α35 α36 : Type} {A B : α0 → α1 → α2 → α3 → α4 → α5 → α6 → α7 → α8 → α9 → α10 → α11 → α12 → α13 → α14 → α15 → α16 → α17 → α18 → α19 → α20 → α21 → α22 → α23 → α24 → α25 → α26 → α27 → α28 → α29 → α30 → α31 → α32 → α33 → α34 → α35 → α36 → Prop} {G : Prop} (h : ∃ (x0 : α0) (x1 : α1) (x2 : α2) (x3 : α3) (x4 : α4) (x5 : α5) (x6 : α6) (x7 : α7) (x8 : α8) (x9 : α9) (x10 : α10) (x11 : α11) (x12 : α12) (x13 : α13) (x14 : α14) (x15 : α15) (x16 : α16) (x17 : α17) (x18 : α18) (x19 : α19) (x20 : α20) (x21 : α21) (x22 : α22) (x23 : α23) (x24 : α24) (x25 : α25) (x26 : α26) (x27 : α27) (x28 : α28) (x29 : α29) (x30 : α30) (x31 : α31) (x32 : α32) (x33 : α33) (x34 : α34) (x35 : α35) (x36 : α36), A x0 x1 x2 x3 x4 x5 x6 x7 x8 x9 x10 x11 x12 x13 x14 x15 x16 x17 x18 x19 x20 x21 x22 x23 x24 x25 x26 x27 x28 x29 x30 x31 x32 x33 x34 x35 x36 ∧ B x0 x1 x2 x3 x4 x5 x6 x7 x8 x9 x10 x11 x12 x13 x14 x15 x16 x17 x18 x19 x20 x21 x22 x23 x24 x25 x26 x27 x28 x29 x30 x31 x32 x33 x34 x35 x36) (k : ∀ (x0 : α0) (x1 : α1) (x2 : α2) (x3 : α3) (x4 : α4) (x5 : α5) (x6 : α6) (x7 : α7) (x8 : α8) (x9 : α9) (x10 : α10) (x11 : α11) (x12 : α12) (x13 : α13) (x14 : α14) (x15 : α15) (x16 : α16) (x17 : α17) (x18 : α18) (x19 : α19) (x20 : α20) (x21 : α21) (x22 : α22) (x23 : α23) (x24 : α24) (x25 : α25) (x26 : α26) (x27 : α27) (x28 : α28) (x29 : α29) (x30 : α30) (x31 : α31) (x32 : α32) (x33 : α33) (x34 : α34) (x35 : α35) (x36 : α36), A x0 x1 x2 x3 x4 x5 x6 x7 x8 x9 x10 x11 x12 x13 x14 x15 x16 x17 x18 x19 x20 x21 x22 x23 x24 x25 x26 x27 x28 x29 x30 x31 x32 x33 x34 x35 x36 → B x0 x1 x2 x3 x4 x5 x6 x7 x8 x9 x10 x11 x12 x13 x14 x15 x16 x17 x18 x19 x20 x21 x22 x23 x24 x25 x26 x27 x28 x29 x30 x31 x32 x33 x34 x35 x36 → G) : G := Exists.elim h (fun x0 h1 => Exists.elim h1 (fun x1 h2 => Exists.elim h2 (fun x2 h3 => Exists.elim h3 (fun x3 h4 => Exists.elim h4 (fun x4 h5 => Exists.elim h5 (fun x5 h6 => Exists.elim h6 (fun x6 h7 => Exists.elim h7 (fun x7 h8 => Exists.elim h8 (fun x8 h9 => Exists.elim h9 (fun x9 h10 => Exists.elim h10 (fun x10 h11 => Exists.elim h11 (fun x11 h12 => Exists.elim h12 (fun x12 h13 => Exists.elim h13 (fun x13 h14 => Exists.elim h14 (fun x14 h15 => Exists.elim h15 (fun x15 h16 => Exists.elim h16 (fun x16 h17 => Exists.elim h17 (fun x17 h18 => Exists.elim h18 (fun x18 h19 => Exists.elim h19 (fun x19 h20 => Exists.elim h20 (fun x20 h21 => Exists.elim h21 (fun x21 h22 => Exists.elim h22 (fun x22 h23 => Exists.elim h23 (fun x23 h24 => Exists.elim h24 (fun x24 h25 => Exists.elim h25 (fun x25 h26 => Exists.elim h26 (fun x26 h27 => Exists.elim h27 (fun x27 h28 => Exists.elim h28 (fun x28 h29 => Exists.elim h29 (fun x29 h30 => Exists.elim h30 (fun x30 h31 => Exists.elim h31 (fun x31 h32 => Exists.elim h32 (fun x32 h33 => Exists.elim h33 (fun x33 h34 => Exists.elim h34 (fun x34 h35 => Exists.elim h35 (fun x35 h36 => Exists.elim h36 (fun x36 h37 => k x0 x1 x2 x3 x4 x5 x6 x7 x8 x9 x10 x11 x12 x13 x14 x15 x16 x17 x18 x19 x20 x21 x22 x23 x24 x25 x26 x27 x28 x29 x30 x31 x32 x33 x34 x35 x36 h37.1 h37.2)))))))))))))))))))))))))))))))))))))
theorem exA1 {A0 T G : Prop} (h : A0 ∧ T) (k : A0 → T → G) : G := k h.1 h.2
theorem exA2 {A0 A1 T G : Prop} (h : A0 ∧ A1 ∧ T) (k : A0 → A1 → T → G) : G := k h.1 h.2.1 h.2.2
theorem exA3 {A0 A1 A2 T G : Prop} (h : A0 ∧ A1 ∧ A2 ∧ T) (k : A0 → A1 → A2 → T → G) : G := k h.1 h.2.1 h.2.2.1 h.2.2.2
theorem exA4 {A0 A1 A2 A3 T G : Prop} (h : A0 ∧ A1 ∧ A2 ∧ A3 ∧ T) (k : A0 → A1 → A2 → A3 → T → G) : G := k h.1 h.2.1 h.2.2.1 h.2.2.2.1 h.2.2.2.2
theorem exA5 {A0 A1 A2 A3 A4 T G : Prop} (h : A0 ∧ A1 ∧ A2 ∧ A3 ∧ A4 ∧ T) (k : A0 → A1 → A2 → A3 → A4 → T → G) : G := k h.1 h.2.1 h.2.2.1 h.2.2.2.1 h.2.2.2.2.1 h.2.2.2.2.2
theorem exA6 {A0 A1 A2 A3 A4 A5 T G : Prop} (h : A0 ∧ A1 ∧ A2 ∧ A3 ∧ A4 ∧ A5 ∧ T) (k : A0 → A1 → A2 → A3 → A4 → A5 → T → G) : G := k h.1 h.2.1 h.2.2.1 h.2.2.2.1 h.2.2.2.2.1 h.2.2.2.2.2.1 h.2.2.2.2.2.2
theorem exA7 {A0 A1 A2 A3 A4 A5 A6 T G : Prop} (h : A0 ∧ A1 ∧ A2 ∧ A3 ∧ A4 ∧ A5 ∧ A6 ∧ T) (k : A0 → A1 → A2 → A3 → A4 → A5 → A6 → T → G) : G := k h.1 h.2.1 h.2.2.1 h.2.2.2.1 h.2.2.2.2.1 h.2.2.2.2.2.1 h.2.2.2.2.2.2.1 h.2.2.2.2.2.2.2
theorem exA8 {A0 A1 A2 A3 A4 A5 A6 A7 T G : Prop} (h : A0 ∧ A1 ∧ A2 ∧ A3 ∧ A4 ∧ A5 ∧ A6 ∧ A7 ∧ T) (k : A0 → A1 → A2 → A3 → A4 → A5 → A6 → A7 → T → G) : G := k h.1 h.2.1 h.2.2.1 h.2.2.2.1 h.2.2.2.2.1 h.2.2.2.2.2.1 h.2.2.2.2.2.2.1 h.2.2.2.2.2.2.2.1 h.2.2.2.2.2.2.2.2
theorem exA9 {A0 A1 A2 A3 A4 A5 A6 A7 A8 T G : Prop} (h : A0 ∧ A1 ∧ A2 ∧ A3 ∧ A4 ∧ A5 ∧ A6 ∧ A7 ∧ A8 ∧ T) (k : A0 → A1 → A2 → A3 → A4 → A5 → A6 → A7 → A8 → T → G) : G := k h.1 h.2.1 h.2.2.1 h.2.2.2.1 h.2.2.2.2.1 h.2.2.2.2.2.1 h.2.2.2.2.2.2.1 h.2.2.2.2.2.2.2.1 h.2.2.2.2.2.2.2.2.1 h.2.2.2.2.2.2.2.2.2
theorem exA10 {A0 A1 A2 A3 A4 A5 A6 A7 A8 A9 T G : Prop} (h : A0 ∧ A1 ∧ A2 ∧ A3 ∧ A4 ∧ A5 ∧ A6 ∧ A7 ∧ A8 ∧ A9 ∧ T) (k : A0 → A1 → A2 → A3 → A4 → A5 → A6 → A7 → A8 → A9 → T → G) : G := k h.1 h.2.1 h.2.2.1 h.2.2.2.1 h.2.2.2.2.1 h.2.2.2.2.2.1 h.2.2.2.2.2.2.1 h.2.2.2.2.2.2.2.1 h.2.2.2.2.2.2.2.2.1 h.2.2.2.2.2.2.2.2.2.1 h.2.2.2.2.2.2.2.2.2.2
theorem exA14 {A0 A1 A2 A3 A4 A5 A6 A7 A8 A9 A10 A11 A12 A13 T G : Prop} (h : A0 ∧ A1 ∧ A2 ∧ A3 ∧ A4 ∧ A5 ∧ A6 ∧ A7 ∧ A8 ∧ A9 ∧ A10 ∧ A11 ∧ A12 ∧ A13 ∧ T) (k : A0 → A1 → A2 → A3 → A4 → A5 → A6 → A7 → A8 → A9 → A10 → A11 → A12 → A13 → T → G) : G := k h.1 h.2.1 h.2.2.1 h.2.2.2.1 h.2.2.2.2.1 h.2.2.2.2.2.1 h.2.2.2.2.2.2.1 h.2.2.2.2.2.2.2.1 h.2.2.2.2.2.2.2.2.1 h.2.2.2.2.2.2.2.2.2.1 h.2.2.2.2.2.2.2.2.2.2.1 h.2.2.2.2.2.2.2.2.2.2.2.1 h.2.2.2.2.2.2.2.2.2.2.2.2.1 h.2.2.2.2.2.2.2.2.2.2.2.2.2.1 h.2.2.2.2.2.2.2.2.2.2.2.2.2.2
theorem exA30 {A0 A1 A2 A3 A4 A5 A6 A7 A8 A9 A10 A11 A12 A13 A14 A15 A16 A17 A18 A19 A20 A21 A22 A23 A24 A25 A26 A27 A28 A29 T G : Prop} (h : A0 ∧ A1 ∧ A2 ∧ A3 ∧ A4 ∧ A5 ∧ A6 ∧ A7 ∧ A8 ∧ A9 ∧ A10 ∧ A11 ∧ A12 ∧ A13 ∧ A14 ∧ A15 ∧ A16 ∧ A17 ∧ A18 ∧ A19 ∧ A20 ∧ A21 ∧ A22 ∧ A23 ∧ A24 ∧ A25 ∧ A26 ∧ A27 ∧ A28 ∧ A29 ∧ T) (k : A0 → A1 → A2 → A3 → A4 → A5 → A6 → A7 → A8 → A9 → A10 → A11 → A12 → A13 → A14 → A15 → A16 → A17 → A18 → A19 → A20 → A21 → A22 → A23 → A24 → A25 → A26 → A27 → A28 → A29 → T → G) : G := k h.1 h.2.1 h.2.2.1 h.2.2.2.1 h.2.2.2.2.1 h.2.2.2.2.2.1 h.2.2.2.2.2.2.1 h.2.2.2.2.2.2.2.1 h.2.2.2.2.2.2.2.2.1 h.2.2.2.2.2.2.2.2.2.1 h.2.2.2.2.2.2.2.2.2.2.1 h.2.2.2.2.2.2.2.2.2.2.2.1 h.2.2.2.2.2.2.2.2.2.2.2.2.1 h.2.2.2.2.2.2.2.2.2.2.2.2.2.1 h.2.2.2.2.2.2.2.2.2.2.2.2.2.2.1 h.2.2.2.2.2.2.2.2.2.2.2.2.2.2.2.1 h.2.2.2.2.2.2.2.2.2.2.2.2.2.2.2.2.1 h.2.2.2.2.2.2.2.2.2.2.2.2.2.2.2.2.2.1 h.2.2.2.2.2.2.2.2.2.2.2.2.2.2.2.2.2.2.1 h.2.2.2.2.2.2.2.2.2.2.2.2.2.2.2.2.2.2.2.1 h.2.2.2.2.2.2.2.2.2.2.2.2.2.2.2.2.2.2.2.2.1 h.2.2.2.2.2.2.2.2.2.2.2.2.2.2.2.2.2.2.2.2.2.1 h.2.2.2.2.2.2.2.2.2.2.2.2.2.2.2.2.2.2.2.2.2.2.1 h.2.2.2.2.2.2.2.2.2.2.2.2.2.2.2.2.2.2.2.2.2.2.2.1 h.2.2.2.2.2.2.2.2.2.2.2.2.2.2.2.2.2.2.2.2.2.2.2.2.1 h.2.2.2.2.2.2.2.2.2.2.2.2.2.2.2.2.2.2.2.2.2.2.2.2.2.1 h.2.2.2.2.2.2.2.2.2.2.2.2.2.2.2.2.2.2.2.2.2.2.2.2.2.2.1 h.2.2.2.2.2.2.2.2.2.2.2.2.2.2.2.2.2.2.2.2.2.2.2.2.2.2.2.1 h.2.2.2.2.2.2.2.2.2.2.2.2.2.2.2.2.2.2.2.2.2.2.2.2.2.2.2.2.1 h.2.2.2.2.2.2.2.2.2.2.2.2.2.2.2.2.2.2.2.2.2.2.2.2.2.2.2.2.2.1 h.2.2.2.2.2.2.2.2.2.2.2.2.2.2.2.2.2.2.2.2.2.2.2.2.2.2.2.2.2.2
theorem exA36 {A0 A1 A2 A3 A4 A5 A6 A7 A8 A9 A10 A11 A12 A13 A14 A15 A16 A17 A18 A19 A20 A21 A22 A23 A24 A25 A26 A27 A28 A29 A30 A31 A32 A33 A34 A35 T G : Prop} (h : A0 ∧ A1 ∧ A2 ∧ A3 ∧ A4 ∧ A5 ∧ A6 ∧ A7 ∧ A8 ∧ A9 ∧ A10 ∧ A11 ∧ A12 ∧ A13 ∧ A14 ∧ A15 ∧ A16 ∧ A17 ∧ A18 ∧ A19 ∧ A20 ∧ A21 ∧ A22 ∧ A23 ∧ A24 ∧ A25 ∧ A26 ∧ A27 ∧ A28 ∧ A29 ∧ A30 ∧ A31 ∧ A32 ∧ A33 ∧ A34 ∧ A35 ∧ T) (k : A0 → A1 → A2 → A3 → A4 → A5 → A6 → A7 → A8 → A9 → A10 → A11 → A12 → A13 → A14 → A15 → A16 → A17 → A18 → A19 → A20 → A21 → A22 → A23 → A24 → A25 → A26 → A27 → A28 → A29 → A30 → A31 → A32 → A33 → A34 → A35 → T → G) : G := k h.1 h.2.1 h.2.2.1 h.2.2.2.1 h.2.2.2.2.1 h.2.2.2.2.2.1 h.2.2.2.2.2.2.1 h.2.2.2.2.2.2.2.1 h.2.2.2.2.2.2.2.2.1 h.2.2.2.2.2.2.2.2.2.1 h.2.2.2.2.2.2.2.2.2.2.1 h.2.2.2.2.2.2.2.2.2.2.2.1 h.2.2.2.2.2.2.2.2.2.2.2.2.1 h.2.2.2.2.2.2.2.2.2.2.2.2.2.1 h.2.2.2.2.2.2.2.2.2.2.2.2.2.2.1 h.2.2.2.2.2.2.2.2.2.2.2.2.2.2.2.1 h.2.2.2.2.2.2.2.2.2.2.2.2.2.2.2.2.1 h.2.2.2.2.2.2.2.2.2.2.2.2.2.2.2.2.2.1 h.2.2.2.2.2.2.2.2.2.2.2.2.2.2.2.2.2.2.1 h.2.2.2.2.2.2.2.2.2.2.2.2.2.2.2.2.2.2.2.1 h.2.2.2.2.2.2.2.2.2.2.2.2.2.2.2.2.2.2.2.2.1 h.2.2.2.2.2.2.2.2.2.2.2.2.2.2.2.2.2.2.2.2.2.1 h.2.2.2.2.2.2.2.2.2.2.2.2.2.2.2.2.2.2.2.2.2.2.1 h.2.2.2.2.2.2.2.2.2.2.2.2.2.2.2.2.2.2.2.2.2.2.2.1 h.2.2.2.2.2.2.2.2.2.2.2.2.2.2.2.2.2.2.2.2.2.2.2.2.1 h.2.2.2.2.2.2.2.2.2.2.2.2.2.2.2.2.2.2.2.2.2.2.2.2.2.1 h.2.2.2.2.2.2.2.2.2.2.2.2.2.2.2.2.2.2.2.2.2.2.2.2.2.2.1 h.2.2.2.2.2.2.2.2.2.2.2.2.2.2.2.2.2.2.2.2.2.2.2.2.2.2.2.1 h.2.2.2.2.2.2.2.2.2.2.2.2.2.2.2.2.2.2.2.2.2.2.2.2.2.2.2.2.1 h.2.2.2.2.2.2.2.2.2.2.2.2.2.2.2.2.2.2.2.2.2.2.2.2.2.2.2.2.2.1 h.2.2.2.2.2.2.2.2.2.2.2.2.2.2.2.2.2.2.2.2.2.2.2.2.2.2.2.2.2.2.1 h.2.2.2.2.2.2.2.2.2.2.2.2.2.2.2.2.2.2.2.2.2.2.2.2.2.2.2.2.2.2.2.1 h.2.2.2.2.2.2.2.2.2.2.2.2.2.2.2.2.2.2.2.2.2.2.2.2.2.2.2.2.2.2.2.2.1 h.2.2.2.2.2.2.2.2.2.2.2.2.2.2.2.2.2.2.2.2.2.2.2.2.2.2.2.2.2.2.2.2.2.1 h.2.2.2.2.2.2.2.2.2.2.2.2.2.2.2.2.2.2.2.2.2.2.2.2.2.2.2.2.2.2.2.2.2.2.1 h.2.2.2.2.2.2.2.2.2.2.2.2.2.2.2.2.2.2.2.2.2.2.2.2.2.2.2.2.2.2.2.2.2.2.2.1 h.2.2.2.2.2.2.2.2.2.2.2.2.2.2.2.2.2.2.2.2.2.2.2.2.2.2.2.2.2.2.2.2.2.2.2.2
theorem yk_yJ0_charAt_5068e_1 : yOk yJ0_charAt_5068e 1 := by unfold yOk; decide +kernel
theorem yk_yJ0_checkIndex_df160_2 : yOk yJ0_checkIndex_df160 2 := by unfold yOk; decide +kernel
theorem yk_yJ0_coder_7d493_0 : yOk yJ0_coder_7d493 0 := by unfold yOk; decide +kernel
theorem yk_yJ0_isLatin1_aae02_0 : yOk yJ0_isLatin1_aae02 0 := by unfold yOk; decide +kernel
theorem yk_yJ0_length_8abf5_0 : yOk yJ0_length_8abf5 0 := by unfold yOk; decide +kernel
theorem yk_yJ1_charAt_3b067_2 : yOk yJ1_charAt_3b067 2 := by unfold yOk; decide +kernel
theorem yk_yJ3_checkIndex_8e157_3 : yOk yJ3_checkIndex_8e157 3 := by unfold yOk; decide +kernel
theorem yk_yJ6_bitCount_0f7a4_1 : yOk yJ6_bitCount_0f7a4 1 := by unfold yOk; decide +kernel
theorem yk_yX0_burn_3 : yOk yX0_burn 3 := by unfold yOk; decide +kernel
theorem yk_yX0_fewestTrims_2 : yOk yX0_fewestTrims 2 := by unfold yOk; decide +kernel
theorem yk_yX0_firstDying_0 : yOk yX0_firstDying 0 := by unfold yOk; decide +kernel
theorem yk_yX0_init_0 : yOk yX0_init 0 := by unfold yOk; decide +kernel
theorem yk_yX10_actDone_0 : yOk yX10_actDone 0 := by unfold yOk; decide +kernel
theorem yk_yX10_all_2 : yOk yX10_all 2 := by unfold yOk; decide +kernel
theorem yk_yX10_apart_2 : yOk yX10_apart 2 := by unfold yOk; decide +kernel
theorem yk_yX10_apartBy_1 : yOk yX10_apartBy 1 := by unfold yOk; decide +kernel
theorem yk_yX10_arc_2 : yOk yX10_arc 2 := by unfold yOk; decide +kernel
theorem yk_yX10_back_1 : yOk yX10_back 1 := by unfold yOk; decide +kernel
theorem yk_yX10_begins_2 : yOk yX10_begins 2 := by unfold yOk; decide +kernel
theorem yk_yX10_believes_2 : yOk yX10_believes 2 := by unfold yOk; decide +kernel
theorem yk_yX10_bestMan_2 : yOk yX10_bestMan 2 := by unfold yOk; decide +kernel
theorem yk_yX10_bestSlip_1 : yOk yX10_bestSlip 1 := by unfold yOk; decide +kernel
theorem yk_yX10_black_2 : yOk yX10_black 2 := by unfold yOk; decide +kernel
theorem yk_yX10_boys_1 : yOk yX10_boys 1 := by unfold yOk; decide +kernel
theorem yk_yX10_boysMeant_1 : yOk yX10_boysMeant 1 := by unfold yOk; decide +kernel
theorem yk_yX10_bySlip_1 : yOk yX10_bySlip 1 := by unfold yOk; decide +kernel
theorem yk_yX10_changes_2 : yOk yX10_changes 2 := by unfold yOk; decide +kernel
theorem yk_yX10_dark_2 : yOk yX10_dark 2 := by unfold yOk; decide +kernel
theorem yk_yX10_dies_2 : yOk yX10_dies 2 := by unfold yOk; decide +kernel
theorem yk_yX10_exact_2 : yOk yX10_exact 2 := by unfold yOk; decide +kernel
theorem yk_yX10_exchanges_0 : yOk yX10_exchanges 0 := by unfold yOk; decide +kernel
theorem yk_yX10_far_1 : yOk yX10_far 1 := by unfold yOk; decide +kernel
theorem yk_yX10_farFrom_2 : yOk yX10_farFrom 2 := by unfold yOk; decide +kernel
theorem yk_yX10_fault_0 : yOk yX10_fault 0 := by unfold yOk; decide +kernel
theorem yk_yX10_feed_5 : yOk yX10_feed 5 := by unfold yOk; decide +kernel
theorem yk_yX10_firstDies_1 : yOk yX10_firstDies 1 := by unfold yOk; decide +kernel
theorem yk_yX10_fits_0 : yOk yX10_fits 0 := by unfold yOk; decide +kernel
theorem yk_yX10_free_2 : yOk yX10_free 2 := by unfold yOk; decide +kernel
theorem yk_yX10_holds_3 : yOk yX10_holds 3 := by unfold yOk; decide +kernel
theorem yk_yX10_house_1 : yOk yX10_house 1 := by unfold yOk; decide +kernel
theorem yk_yX10_image_0 : yOk yX10_image 0 := by unfold yOk; decide +kernel
theorem yk_yX10_init_0 : yOk yX10_init 0 := by unfold yOk; decide +kernel
theorem yk_yX10_isOpen_0 : yOk yX10_isOpen 0 := by unfold yOk; decide +kernel
theorem yk_yX10_lackedBy_1 : yOk yX10_lackedBy 1 := by unfold yOk; decide +kernel
theorem yk_yX10_leastSlip_1 : yOk yX10_leastSlip 1 := by unfold yOk; decide +kernel
theorem yk_yX10_length_1 : yOk yX10_length 1 := by unfold yOk; decide +kernel
theorem yk_yX10_likeliest_1 : yOk yX10_likeliest 1 := by unfold yOk; decide +kernel
theorem yk_yX10_lost_2 : yOk yX10_lost 2 := by unfold yOk; decide +kernel
theorem yk_yX10_mark_2 : yOk yX10_mark 2 := by unfold yOk; decide +kernel
theorem yk_yX10_mend_1 : yOk yX10_mend 1 := by unfold yOk; decide +kernel
theorem yk_yX10_missing_2 : yOk yX10_missing 2 := by unfold yOk; decide +kernel
theorem yk_yX10_nearestMark_1 : yOk yX10_nearestMark 1 := by unfold yOk; decide +kernel
theorem yk_yX10_needs_2 : yOk yX10_needs 2 := by unfold yOk; decide +kernel
theorem yk_yX10_never_1 : yOk yX10_never 1 := by unfold yOk; decide +kernel
theorem yk_yX10_ofNight_3 : yOk yX10_ofNight 3 := by unfold yOk; decide +kernel
theorem yk_yX10_ofPlace_2 : yOk yX10_ofPlace 2 := by unfold yOk; decide +kernel
theorem yk_yX10_pays_2 : yOk yX10_pays 2 := by unfold yOk; decide +kernel
theorem yk_yX10_reel_2 : yOk yX10_reel 2 := by unfold yOk; decide +kernel
theorem yk_yX10_refuse_1 : yOk yX10_refuse 1 := by unfold yOk; decide +kernel
theorem yk_yX10_refuseAct_1 : yOk yX10_refuseAct 1 := by unfold yOk; decide +kernel
theorem yk_yX10_rideTrouble_3 : yOk yX10_rideTrouble 3 := by unfold yOk; decide +kernel
theorem yk_yX10_runNight_1 : yOk yX10_runNight 1 := by unfold yOk; decide +kernel
theorem yk_yX10_shows_1 : yOk yX10_shows 1 := by unfold yOk; decide +kernel
theorem yk_yX10_signs_1 : yOk yX10_signs 1 := by unfold yOk; decide +kernel
theorem yk_yX10_size_1 : yOk yX10_size 1 := by unfold yOk; decide +kernel
theorem yk_yX10_starts_2 : yOk yX10_starts 2 := by unfold yOk; decide +kernel
theorem yk_yX10_tail_2 : yOk yX10_tail 2 := by unfold yOk; decide +kernel
theorem yk_yX10_tell_1 : yOk yX10_tell 1 := by unfold yOk; decide +kernel
theorem yk_yX10_tellPart_1 : yOk yX10_tellPart 1 := by unfold yOk; decide +kernel
theorem yk_yX10_thread_1 : yOk yX10_thread 1 := by unfold yOk; decide +kernel
theorem yk_yX10_threads_2 : yOk yX10_threads 2 := by unfold yOk; decide +kernel
theorem yk_yX10_trim_2 : yOk yX10_trim 2 := by unfold yOk; decide +kernel
theorem yk_yX10_trouble_0 : yOk yX10_trouble 0 := by unfold yOk; decide +kernel
theorem yk_yX10_truly_3 : yOk yX10_truly 3 := by unfold yOk; decide +kernel
theorem yk_yX10_undo_0 : yOk yX10_undo 0 := by unfold yOk; decide +kernel
theorem yk_yX10_waits_3 : yOk yX10_waits 3 := by unfold yOk; decide +kernel
theorem yk_yX10_wasteByDraws_3 : yOk yX10_wasteByDraws 3 := by unfold yOk; decide +kernel
theorem yk_yX10_wears_3 : yOk yX10_wears 3 := by unfold yOk; decide +kernel
theorem yk_yX10_well_1 : yOk yX10_well 1 := by unfold yOk; decide +kernel
theorem yk_yX10_where_0 : yOk yX10_where 0 := by unfold yOk; decide +kernel
theorem yk_yX10_who_1 : yOk yX10_who 1 := by unfold yOk; decide +kernel
theorem yk_yX10_words_1 : yOk yX10_words 1 := by unfold yOk; decide +kernel
theorem yk_yX10_worst_1 : yOk yX10_worst 1 := by unfold yOk; decide +kernel
theorem yk_yX10_wrong_0 : yOk yX10_wrong 0 := by unfold yOk; decide +kernel
theorem yk_yX11_after_3 : yOk yX11_after 3 := by unfold yOk; decide +kernel
theorem yk_yX11_all_2 : yOk yX11_all 2 := by unfold yOk; decide +kernel
theorem yk_yX11_allWeights_1 : yOk yX11_allWeights 1 := by unfold yOk; decide +kernel
theorem yk_yX11_apart_2 : yOk yX11_apart 2 := by unfold yOk; decide +kernel
theorem yk_yX11_apartOf_2 : yOk yX11_apartOf 2 := by unfold yOk; decide +kernel
theorem yk_yX11_arc_2 : yOk yX11_arc 2 := by unfold yOk; decide +kernel
theorem yk_yX11_back_1 : yOk yX11_back 1 := by unfold yOk; decide +kernel
theorem yk_yX11_bad_2 : yOk yX11_bad 2 := by unfold yOk; decide +kernel
theorem yk_yX11_begins_2 : yOk yX11_begins 2 := by unfold yOk; decide +kernel
theorem yk_yX11_believes_2 : yOk yX11_believes 2 := by unfold yOk; decide +kernel
theorem yk_yX11_believesOf_2 : yOk yX11_believesOf 2 := by unfold yOk; decide +kernel
theorem yk_yX11_bestMan_2 : yOk yX11_bestMan 2 := by unfold yOk; decide +kernel
theorem yk_yX11_bestSlip_1 : yOk yX11_bestSlip 1 := by unfold yOk; decide +kernel
theorem yk_yX11_bestSlipOf_1 : yOk yX11_bestSlipOf 1 := by unfold yOk; decide +kernel
theorem yk_yX11_black_2 : yOk yX11_black 2 := by unfold yOk; decide +kernel
theorem yk_yX11_boyWhy_1 : yOk yX11_boyWhy 1 := by unfold yOk; decide +kernel
theorem yk_yX11_boys_1 : yOk yX11_boys 1 := by unfold yOk; decide +kernel
theorem yk_yX11_boysLine_0 : yOk yX11_boysLine 0 := by unfold yOk; decide +kernel
theorem yk_yX11_burn_1 : yOk yX11_burn 1 := by unfold yOk; decide +kernel
theorem yk_yX11_bySlip_1 : yOk yX11_bySlip 1 := by unfold yOk; decide +kernel
theorem yk_yX11_canTell_2 : yOk yX11_canTell 2 := by unfold yOk; decide +kernel
theorem yk_yX11_carry_2 : yOk yX11_carry 2 := by unfold yOk; decide +kernel
theorem yk_yX11_changes_2 : yOk yX11_changes 2 := by unfold yOk; decide +kernel
theorem yk_yX11_comma_0 : yOk yX11_comma 0 := by unfold yOk; decide +kernel
theorem yk_yX11_copy_5 : yOk yX11_copy 5 := by unfold yOk; decide +kernel
theorem yk_yX11_dark_2 : yOk yX11_dark 2 := by unfold yOk; decide +kernel
theorem yk_yX11_dies_2 : yOk yX11_dies 2 := by unfold yOk; decide +kernel
theorem yk_yX11_drawNight_1 : yOk yX11_drawNight 1 := by unfold yOk; decide +kernel
theorem yk_yX11_drawn_0 : yOk yX11_drawn 0 := by unfold yOk; decide +kernel
theorem yk_yX11_exact_2 : yOk yX11_exact 2 := by unfold yOk; decide +kernel
theorem yk_yX11_exchanges_0 : yOk yX11_exchanges 0 := by unfold yOk; decide +kernel
theorem yk_yX11_far_1 : yOk yX11_far 1 := by unfold yOk; decide +kernel
theorem yk_yX11_farOf_2 : yOk yX11_farOf 2 := by unfold yOk; decide +kernel
theorem yk_yX11_fault_0 : yOk yX11_fault 0 := by unfold yOk; decide +kernel
theorem yk_yX11_feed_5 : yOk yX11_feed 5 := by unfold yOk; decide +kernel
theorem yk_yX11_find_0 : yOk yX11_find 0 := by unfold yOk; decide +kernel
theorem yk_yX11_firstDies_1 : yOk yX11_firstDies 1 := by unfold yOk; decide +kernel
theorem yk_yX11_fits_0 : yOk yX11_fits 0 := by unfold yOk; decide +kernel
theorem yk_yX11_follows_5 : yOk yX11_follows 5 := by unfold yOk; decide +kernel
theorem yk_yX11_frameOf_1 : yOk yX11_frameOf 1 := by unfold yOk; decide +kernel
theorem yk_yX11_framesAt_1 : yOk yX11_framesAt 1 := by unfold yOk; decide +kernel
theorem yk_yX11_free_2 : yOk yX11_free 2 := by unfold yOk; decide +kernel
theorem yk_yX11_freeOf_1 : yOk yX11_freeOf 1 := by unfold yOk; decide +kernel
theorem yk_yX11_good_0 : yOk yX11_good 0 := by unfold yOk; decide +kernel
theorem yk_yX11_hasBit_2 : yOk yX11_hasBit 2 := by unfold yOk; decide +kernel
theorem yk_yX11_holds_3 : yOk yX11_holds 3 := by unfold yOk; decide +kernel
theorem yk_yX11_house_1 : yOk yX11_house 1 := by unfold yOk; decide +kernel
theorem yk_yX11_houseLine_0 : yOk yX11_houseLine 0 := by unfold yOk; decide +kernel
theorem yk_yX11_image_0 : yOk yX11_image 0 := by unfold yOk; decide +kernel
theorem yk_yX11_in_3 : yOk yX11_in 3 := by unfold yOk; decide +kernel
theorem yk_yX11_init_0 : yOk yX11_init 0 := by unfold yOk; decide +kernel
theorem yk_yX11_isDigit_1 : yOk yX11_isDigit 1 := by unfold yOk; decide +kernel
theorem yk_yX11_isDot_2 : yOk yX11_isDot 2 := by unfold yOk; decide +kernel
theorem yk_yX11_isEven_1 : yOk yX11_isEven 1 := by unfold yOk; decide +kernel
theorem yk_yX11_isGone_1 : yOk yX11_isGone 1 := by unfold yOk; decide +kernel
theorem yk_yX11_isMan_1 : yOk yX11_isMan 1 := by unfold yOk; decide +kernel
theorem yk_yX11_isMended_1 : yOk yX11_isMended 1 := by unfold yOk; decide +kernel
theorem yk_yX11_isNot_1 : yOk yX11_isNot 1 := by unfold yOk; decide +kernel
theorem yk_yX11_isPlace_1 : yOk yX11_isPlace 1 := by unfold yOk; decide +kernel
theorem yk_yX11_isReel_1 : yOk yX11_isReel 1 := by unfold yOk; decide +kernel
theorem yk_yX11_isSmall_1 : yOk yX11_isSmall 1 := by unfold yOk; decide +kernel
theorem yk_yX11_isWeak_1 : yOk yX11_isWeak 1 := by unfold yOk; decide +kernel
theorem yk_yX11_isWord_1 : yOk yX11_isWord 1 := by unfold yOk; decide +kernel
theorem yk_yX11_joinLine_0 : yOk yX11_joinLine 0 := by unfold yOk; decide +kernel
theorem yk_yX11_joinsOf_1 : yOk yX11_joinsOf 1 := by unfold yOk; decide +kernel
theorem yk_yX11_layNight_1 : yOk yX11_layNight 1 := by unfold yOk; decide +kernel
theorem yk_yX11_layScratch_1 : yOk yX11_layScratch 1 := by unfold yOk; decide +kernel
theorem yk_yX11_laySorted_0 : yOk yX11_laySorted 0 := by unfold yOk; decide +kernel
theorem yk_yX11_layTold_1 : yOk yX11_layTold 1 := by unfold yOk; decide +kernel
theorem yk_yX11_least_2 : yOk yX11_least 2 := by unfold yOk; decide +kernel
theorem yk_yX11_led_1 : yOk yX11_led 1 := by unfold yOk; decide +kernel
theorem yk_yX11_length_1 : yOk yX11_length 1 := by unfold yOk; decide +kernel
theorem yk_yX11_likeliest_1 : yOk yX11_likeliest 1 := by unfold yOk; decide +kernel
theorem yk_yX11_look_1 : yOk yX11_look 1 := by unfold yOk; decide +kernel
theorem yk_yX11_lost_2 : yOk yX11_lost 2 := by unfold yOk; decide +kernel
theorem yk_yX11_lowest_3 : yOk yX11_lowest 3 := by unfold yOk; decide +kernel
theorem yk_yX11_manLine_0 : yOk yX11_manLine 0 := by unfold yOk; decide +kernel
theorem yk_yX11_mark_2 : yOk yX11_mark 2 := by unfold yOk; decide +kernel
theorem yk_yX11_markLine_0 : yOk yX11_markLine 0 := by unfold yOk; decide +kernel
theorem yk_yX11_markOf_2 : yOk yX11_markOf 2 := by unfold yOk; decide +kernel
theorem yk_yX11_marksOf_1 : yOk yX11_marksOf 1 := by unfold yOk; decide +kernel
theorem yk_yX11_mend_1 : yOk yX11_mend 1 := by unfold yOk; decide +kernel
theorem yk_yX11_missing_2 : yOk yX11_missing 2 := by unfold yOk; decide +kernel
theorem yk_yX11_most_2 : yOk yX11_most 2 := by unfold yOk; decide +kernel
theorem yk_yX11_must_1 : yOk yX11_must 1 := by unfold yOk; decide +kernel
theorem yk_yX11_mustName_0 : yOk yX11_mustName 0 := by unfold yOk; decide +kernel
theorem yk_yX11_named_2 : yOk yX11_named 2 := by unfold yOk; decide +kernel
theorem yk_yX11_needs_2 : yOk yX11_needs 2 := by unfold yOk; decide +kernel
theorem yk_yX11_needsOf_1 : yOk yX11_needsOf 1 := by unfold yOk; decide +kernel
theorem yk_yX11_never_1 : yOk yX11_never 1 := by unfold yOk; decide +kernel
theorem yk_yX11_newName_1 : yOk yX11_newName 1 := by unfold yOk; decide +kernel
theorem yk_yX11_next_0 : yOk yX11_next 0 := by unfold yOk; decide +kernel
theorem yk_yX11_no_1 : yOk yX11_no 1 := by unfold yOk; decide +kernel
theorem yk_yX11_note_0 : yOk yX11_note 0 := by unfold yOk; decide +kernel
theorem yk_yX11_number_2 : yOk yX11_number 2 := by unfold yOk; decide +kernel
theorem yk_yX11_numberHere_2 : yOk yX11_numberHere 2 := by unfold yOk; decide +kernel
theorem yk_yX11_ones_1 : yOk yX11_ones 1 := by unfold yOk; decide +kernel
theorem yk_yX11_opens_2 : yOk yX11_opens 2 := by unfold yOk; decide +kernel
theorem yk_yX11_opensOnce_2 : yOk yX11_opensOnce 2 := by unfold yOk; decide +kernel
theorem yk_yX11_pays_2 : yOk yX11_pays 2 := by unfold yOk; decide +kernel
theorem yk_yX11_power_2 : yOk yX11_power 2 := by unfold yOk; decide +kernel
theorem yk_yX11_readLine_0 : yOk yX11_readLine 0 := by unfold yOk; decide +kernel
theorem yk_yX11_reel_2 : yOk yX11_reel 2 := by unfold yOk; decide +kernel
theorem yk_yX11_reelAt_1 : yOk yX11_reelAt 1 := by unfold yOk; decide +kernel
theorem yk_yX11_reelLine_0 : yOk yX11_reelLine 0 := by unfold yOk; decide +kernel
theorem yk_yX11_reelPassed_0 : yOk yX11_reelPassed 0 := by unfold yOk; decide +kernel
theorem yk_yX11_scratchLine_0 : yOk yX11_scratchLine 0 := by unfold yOk; decide +kernel
theorem yk_yX11_seenLine_0 : yOk yX11_seenLine 0 := by unfold yOk; decide +kernel
theorem yk_yX11_shifted_3 : yOk yX11_shifted 3 := by unfold yOk; decide +kernel
theorem yk_yX11_shows_1 : yOk yX11_shows 1 := by unfold yOk; decide +kernel
theorem yk_yX11_showsLine_0 : yOk yX11_showsLine 0 := by unfold yOk; decide +kernel
theorem yk_yX11_signs_1 : yOk yX11_signs 1 := by unfold yOk; decide +kernel
theorem yk_yX11_signsOf_1 : yOk yX11_signsOf 1 := by unfold yOk; decide +kernel
theorem yk_yX11_size_1 : yOk yX11_size 1 := by unfold yOk; decide +kernel
theorem yk_yX11_starts_2 : yOk yX11_starts 2 := by unfold yOk; decide +kernel
theorem yk_yX11_sumOf_1 : yOk yX11_sumOf 1 := by unfold yOk; decide +kernel
theorem yk_yX11_tail_2 : yOk yX11_tail 2 := by unfold yOk; decide +kernel
theorem yk_yX11_tailOf_1 : yOk yX11_tailOf 1 := by unfold yOk; decide +kernel
theorem yk_yX11_takesWord_1 : yOk yX11_takesWord 1 := by unfold yOk; decide +kernel
theorem yk_yX11_thread_1 : yOk yX11_thread 1 := by unfold yOk; decide +kernel
theorem yk_yX11_threads_2 : yOk yX11_threads 2 := by unfold yOk; decide +kernel
theorem yk_yX11_townLine_0 : yOk yX11_townLine 0 := by unfold yOk; decide +kernel
theorem yk_yX11_trim_2 : yOk yX11_trim 2 := by unfold yOk; decide +kernel
theorem yk_yX11_trouble_0 : yOk yX11_trouble 0 := by unfold yOk; decide +kernel
theorem yk_yX11_truly_3 : yOk yX11_truly 3 := by unfold yOk; decide +kernel
theorem yk_yX11_undo_0 : yOk yX11_undo 0 := by unfold yOk; decide +kernel
theorem yk_yX11_waits_3 : yOk yX11_waits 3 := by unfold yOk; decide +kernel
theorem yk_yX11_weakLine_0 : yOk yX11_weakLine 0 := by unfold yOk; decide +kernel
theorem yk_yX11_weaksOf_1 : yOk yX11_weaksOf 1 := by unfold yOk; decide +kernel
theorem yk_yX11_wears_3 : yOk yX11_wears 3 := by unfold yOk; decide +kernel
theorem yk_yX11_weightOf_2 : yOk yX11_weightOf 2 := by unfold yOk; decide +kernel
theorem yk_yX11_well_1 : yOk yX11_well 1 := by unfold yOk; decide +kernel
theorem yk_yX11_where_0 : yOk yX11_where 0 := by unfold yOk; decide +kernel
theorem yk_yX11_who_1 : yOk yX11_who 1 := by unfold yOk; decide +kernel
theorem yk_yX11_words_1 : yOk yX11_words 1 := by unfold yOk; decide +kernel
theorem yk_yX11_worst_1 : yOk yX11_worst 1 := by unfold yOk; decide +kernel
theorem yk_yX11_wrong_0 : yOk yX11_wrong 0 := by unfold yOk; decide +kernel
theorem yk_yX1_fewest_1 : yOk yX1_fewest 1 := by unfold yOk; decide +kernel
theorem yk_yX1_init_0 : yOk yX1_init 0 := by unfold yOk; decide +kernel
theorem yk_yX1_sort_1 : yOk yX1_sort 1 := by unfold yOk; decide +kernel
theorem yk_yX1_unit_1 : yOk yX1_unit 1 := by unfold yOk; decide +kernel
theorem yk_yX1_weigh_1 : yOk yX1_weigh 1 := by unfold yOk; decide +kernel
theorem yk_yX1_wrongPlaces_1 : yOk yX1_wrongPlaces 1 := by unfold yOk; decide +kernel
theorem yk_yX2_init_0 : yOk yX2_init 0 := by unfold yOk; decide +kernel
theorem yk_yX2_reduce_0 : yOk yX2_reduce 0 := by unfold yOk; decide +kernel
theorem yk_yX2_set_2 : yOk yX2_set 2 := by unfold yOk; decide +kernel
theorem yk_yX2_setPower_3 : yOk yX2_setPower 3 := by unfold yOk; decide +kernel
theorem yk_yX3_clear_0 : yOk yX3_clear 0 := by unfold yOk; decide +kernel
theorem yk_yX3_copyFrom_1 : yOk yX3_copyFrom 1 := by unfold yOk; decide +kernel
theorem yk_yX3_init_0 : yOk yX3_init 0 := by unfold yOk; decide +kernel
theorem yk_yX3_number_1 : yOk yX3_number 1 := by unfold yOk; decide +kernel
theorem yk_yX4_forget_0 : yOk yX4_forget 0 := by unfold yOk; decide +kernel
theorem yk_yX4_goBack_2 : yOk yX4_goBack 2 := by unfold yOk; decide +kernel
theorem yk_yX4_init_0 : yOk yX4_init 0 := by unfold yOk; decide +kernel
theorem yk_yX4_keep_1 : yOk yX4_keep 1 := by unfold yOk; decide +kernel
theorem yk_yX4_takeBack_1 : yOk yX4_takeBack 1 := by unfold yOk; decide +kernel
theorem yk_yX4_takeImage_1 : yOk yX4_takeImage 1 := by unfold yOk; decide +kernel
theorem yk_yX5_draw_0 : yOk yX5_draw 0 := by unfold yOk; decide +kernel
theorem yk_yX5_drawBy_1 : yOk yX5_drawBy 1 := by unfold yOk; decide +kernel
theorem yk_yX5_endTick_0 : yOk yX5_endTick 0 := by unfold yOk; decide +kernel
theorem yk_yX5_exactThread_2 : yOk yX5_exactThread 2 := by unfold yOk; decide +kernel
theorem yk_yX5_goBy_2 : yOk yX5_goBy 2 := by unfold yOk; decide +kernel
theorem yk_yX5_idle_1 : yOk yX5_idle 1 := by unfold yOk; decide +kernel
theorem yk_yX5_init_0 : yOk yX5_init 0 := by unfold yOk; decide +kernel
theorem yk_yX5_meet_3 : yOk yX5_meet 3 := by unfold yOk; decide +kernel
theorem yk_yX5_needed_1 : yOk yX5_needed 1 := by unfold yOk; decide +kernel
theorem yk_yX5_run_2 : yOk yX5_run 2 := by unfold yOk; decide +kernel
theorem yk_yX5_showReel_4 : yOk yX5_showReel 4 := by unfold yOk; decide +kernel
theorem yk_yX5_signsSo_1 : yOk yX5_signsSo 1 := by unfold yOk; decide +kernel
theorem yk_yX5_slipBy_1 : yOk yX5_slipBy 1 := by unfold yOk; decide +kernel
theorem yk_yX5_slipNow_0 : yOk yX5_slipNow 0 := by unfold yOk; decide +kernel
theorem yk_yX5_snapWeakPlaces_3 : yOk yX5_snapWeakPlaces 3 := by unfold yOk; decide +kernel
theorem yk_yX5_sum_1 : yOk yX5_sum 1 := by unfold yOk; decide +kernel
theorem yk_yX5_waste_0 : yOk yX5_waste 0 := by unfold yOk; decide +kernel
theorem yk_yX5_worstChange_0 : yOk yX5_worstChange 0 := by unfold yOk; decide +kernel
theorem yk_yX6_carry_4 : yOk yX6_carry 4 := by unfold yOk; decide +kernel
theorem yk_yX6_init_0 : yOk yX6_init 0 := by unfold yOk; decide +kernel
theorem yk_yX6_soonestBack_1 : yOk yX6_soonestBack 1 := by unfold yOk; decide +kernel
theorem yk_yX7_allWeights_2 : yOk yX7_allWeights 2 := by unfold yOk; decide +kernel
theorem yk_yX7_believedBy_3 : yOk yX7_believedBy 3 := by unfold yOk; decide +kernel
theorem yk_yX7_clear_0 : yOk yX7_clear 0 := by unfold yOk; decide +kernel
theorem yk_yX7_copyFrom_1 : yOk yX7_copyFrom 1 := by unfold yOk; decide +kernel
theorem yk_yX7_cutOut_1 : yOk yX7_cutOut 1 := by unfold yOk; decide +kernel
theorem yk_yX7_init_0 : yOk yX7_init 0 := by unfold yOk; decide +kernel
theorem yk_yX7_isMarked_3 : yOk yX7_isMarked 3 := by unfold yOk; decide +kernel
theorem yk_yX7_isMeantPerhaps_2 : yOk yX7_isMeantPerhaps 2 := by unfold yOk; decide +kernel
theorem yk_yX7_isWeak_1 : yOk yX7_isWeak 1 := by unfold yOk; decide +kernel
theorem yk_yX7_likeliestFrame_2 : yOk yX7_likeliestFrame 2 := by unfold yOk; decide +kernel
theorem yk_yX7_markBy_2 : yOk yX7_markBy 2 := by unfold yOk; decide +kernel
theorem yk_yX7_mendedOn_1 : yOk yX7_mendedOn 1 := by unfold yOk; decide +kernel
theorem yk_yX7_pull_4 : yOk yX7_pull 4 := by unfold yOk; decide +kernel
theorem yk_yX7_reelAt_1 : yOk yX7_reelAt 1 := by unfold yOk; decide +kernel
theorem yk_yX7_sooner_3 : yOk yX7_sooner 3 := by unfold yOk; decide +kernel
theorem yk_yX7_weight_3 : yOk yX7_weight 3 := by unfold yOk; decide +kernel
theorem yk_yX8_add_3 : yOk yX8_add 3 := by unfold yOk; decide +kernel
theorem yk_yX8_at_2 : yOk yX8_at 2 := by unfold yOk; decide +kernel
theorem yk_yX8_clear_0 : yOk yX8_clear 0 := by unfold yOk; decide +kernel
theorem yk_yX8_copyFrom_1 : yOk yX8_copyFrom 1 := by unfold yOk; decide +kernel
theorem yk_yX8_has_1 : yOk yX8_has 1 := by unfold yOk; decide +kernel
theorem yk_yX8_howMany_2 : yOk yX8_howMany 2 := by unfold yOk; decide +kernel
theorem yk_yX8_init_2 : yOk yX8_init 2 := by unfold yOk; decide +kernel
theorem yk_yX8_isFull_0 : yOk yX8_isFull 0 := by unfold yOk; decide +kernel
theorem yk_yX8_put_3 : yOk yX8_put 3 := by unfold yOk; decide +kernel
theorem yk_yX9_findName_0 : yOk yX9_findName 0 := by unfold yOk; decide +kernel
theorem yk_yX9_hasRoom_1 : yOk yX9_hasRoom 1 := by unfold yOk; decide +kernel
theorem yk_yX9_init_0 : yOk yX9_init 0 := by unfold yOk; decide +kernel
theorem yk_yX9_is_1 : yOk yX9_is 1 := by unfold yOk; decide +kernel
theorem yk_yX9_isBoysLine_0 : yOk yX9_isBoysLine 0 := by unfold yOk; decide +kernel
theorem yk_yX9_isFollowed_0 : yOk yX9_isFollowed 0 := by unfold yOk; decide +kernel
theorem yk_yX9_isHouseLine_0 : yOk yX9_isHouseLine 0 := by unfold yOk; decide +kernel
theorem yk_yX9_isJoinLine_0 : yOk yX9_isJoinLine 0 := by unfold yOk; decide +kernel
theorem yk_yX9_isLabel_1 : yOk yX9_isLabel 1 := by unfold yOk; decide +kernel
theorem yk_yX9_isLine_0 : yOk yX9_isLine 0 := by unfold yOk; decide +kernel
theorem yk_yX9_isManLine_0 : yOk yX9_isManLine 0 := by unfold yOk; decide +kernel
theorem yk_yX9_isMarkLine_0 : yOk yX9_isMarkLine 0 := by unfold yOk; decide +kernel
theorem yk_yX9_isNewName_2 : yOk yX9_isNewName 2 := by unfold yOk; decide +kernel
theorem yk_yX9_isNumber_4 : yOk yX9_isNumber 4 := by unfold yOk; decide +kernel
theorem yk_yX9_isOldName_1 : yOk yX9_isOldName 1 := by unfold yOk; decide +kernel
theorem yk_yX9_isReelLine_0 : yOk yX9_isReelLine 0 := by unfold yOk; decide +kernel
theorem yk_yX9_isReserved_0 : yOk yX9_isReserved 0 := by unfold yOk; decide +kernel
theorem yk_yX9_isScratchLine_0 : yOk yX9_isScratchLine 0 := by unfold yOk; decide +kernel
theorem yk_yX9_isSeenLine_0 : yOk yX9_isSeenLine 0 := by unfold yOk; decide +kernel
theorem yk_yX9_isShowsLine_0 : yOk yX9_isShowsLine 0 := by unfold yOk; decide +kernel
theorem yk_yX9_isTownLine_0 : yOk yX9_isTownLine 0 := by unfold yOk; decide +kernel
theorem yk_yX9_isWeakLine_0 : yOk yX9_isWeakLine 0 := by unfold yOk; decide +kernel
theorem yk_yX9_isWhole_2 : yOk yX9_isWhole 2 := by unfold yOk; decide +kernel
theorem yk_yX9_kindAt_1 : yOk yX9_kindAt 1 := by unfold yOk; decide +kernel
theorem yk_yX9_kindOfMan_0 : yOk yX9_kindOfMan 0 := by unfold yOk; decide +kernel
theorem yk_yX9_lastFrame_1 : yOk yX9_lastFrame 1 := by unfold yOk; decide +kernel
theorem yk_yX9_next_0 : yOk yX9_next 0 := by unfold yOk; decide +kernel
theorem yk_yX9_read_1 : yOk yX9_read 1 := by unfold yOk; decide +kernel
theorem yk_yX9_refuseAt_2 : yOk yX9_refuseAt 2 := by unfold yOk; decide +kernel
theorem yk_yX9_write_1 : yOk yX9_write 1 := by unfold yOk; decide +kernel
