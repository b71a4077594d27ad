/-! numbers, and what a Table is -/
theorem bm32 {z : Int} (h1 : -2147483648 ≤ z) (h2 : z < 2147483648) : z.bmod (2 ^ 32) = z := by
  unfold Int.bmod
  have e : ((2 ^ 32 : Nat) : Int) = 4294967296 := by decide
  rw [e]
  dsimp only
  split <;> omega
theorem addI {x y : Int32} (h1 : -2147483648 ≤ x.toInt + y.toInt) (h2 : x.toInt + y.toInt < 2147483648) : (x + y).toInt = x.toInt + y.toInt := by
  rw [Int32.toInt_add]; exact bm32 h1 h2
theorem subI {x y : Int32} (h1 : -2147483648 ≤ x.toInt - y.toInt) (h2 : x.toInt - y.toInt < 2147483648) : (x - y).toInt = x.toInt - y.toInt := by
  rw [Int32.toInt_sub]; exact bm32 h1 h2
theorem mulI {x y : Int32} (h1 : -2147483648 ≤ x.toInt * y.toInt) (h2 : x.toInt * y.toInt < 2147483648) : (x * y).toInt = x.toInt * y.toInt := by
  rw [Int32.toInt_mul]; exact bm32 h1 h2
theorem lt_I {x y : Int32} : x < y ↔ x.toInt < y.toInt := Int32.lt_iff_toInt_lt
theorem le_I {x y : Int32} : x ≤ y ↔ x.toInt ≤ y.toInt := Int32.le_iff_toInt_le
theorem rng (x : Int32) : -2147483648 ≤ x.toInt ∧ x.toInt < 2147483648 := ⟨Int32.le_toInt x, Int32.toInt_lt x⟩
theorem zI : (0 : Int32).toInt = 0 := by decide
theorem oneI : (1 : Int32).toInt = 1 := by decide
theorem mu_lt {k n z : Int32} (h : ¬ n ≤ k) (e : k + Int32.ofInt 1 = z) : (n.toInt - z.toInt).toNat < (n.toInt - k.toInt).toNat := by
  rw [le_I] at h
  have h1 := rng n
  have h2 := rng k
  have e1 : Int32.ofInt 1 = 1 := by decide
  have e2 : z.toInt = k.toInt + 1 := by rw [← e, e1, addI (by rw [oneI]; omega) (by rw [oneI]; omega), oneI]
  omega
/-- a table of R rows and V columns over N cells -/
def TbOk (R V : Int32) (N : Nat) : Prop := 0 ≤ R.toInt ∧ 0 ≤ V.toInt ∧ R.toInt * V.toInt = N ∧ N < 2147483648
theorem tb_in {R V row col z z1 : Int32} {N : Nat} (hT : TbOk R V N) (h1 : ¬ row < 0) (h2 : ¬ R ≤ row) (h3 : ¬ col < 0) (h4 : col < V) (e2 : z = z1 + col) (e1 : z1 = row * V) : vp_in z N := by
  obtain ⟨t1, t2, t3, t4⟩ := hT
  rw [lt_I, zI] at h1 h3
  rw [le_I] at h2
  rw [lt_I] at h4
  have m1 : (row.toInt + 1) * V.toInt ≤ R.toInt * V.toInt := Int.mul_le_mul_of_nonneg_right (by omega) t2
  have m2 : 0 ≤ row.toInt * V.toInt := Int.mul_nonneg (by omega) t2
  rw [Int.add_mul, Int.one_mul, t3] at m1
  generalize hm : row.toInt * V.toInt = mm at m1 m2
  have a1 : z1.toInt = mm := by rw [e1, mulI (by rw [hm]; omega) (by rw [hm]; omega), hm]
  have a2 : z.toInt = mm + col.toInt := by rw [e2, addI (by rw [a1]; omega) (by rw [a1]; omega), a1]
  rw [vp_in_iff]
  omega
noncomputable def tbAt (R V : Int32) (f : Nat → Int32) (row col : Int32) : Int32 := if row < 0 ∨ R ≤ row ∨ col < 0 ∨ ¬ col < V then 0 else f (row * V + col).toNatClampNeg
noncomputable def tbPut (R V : Int32) (f : Nat → Int32) (row col v : Int32) : Nat → Int32 := if row < 0 ∨ R ≤ row ∨ col < 0 ∨ ¬ col < V then f else upd f (row * V + col).toNatClampNeg v
theorem tbk_8_3 : TbOk 8 3 24 := by unfold TbOk; decide
theorem tbk_12_3 : TbOk 12 3 36 := by unfold TbOk; decide
theorem tbk_6_3 : TbOk 6 3 18 := by unfold TbOk; decide
theorem tbk_8_2 : TbOk 8 2 16 := by unfold TbOk; decide
theorem tbk_1_6 : TbOk 1 6 6 := by unfold TbOk; decide
theorem tbk_4_1 : TbOk 4 1 4 := by unfold TbOk; decide
theorem tbk_4_3 : TbOk 4 3 12 := by unfold TbOk; decide
theorem tbk_1_3 : TbOk 1 3 3 := by unfold TbOk; decide
theorem tbk_6_2 : TbOk 6 2 12 := by unfold TbOk; decide
theorem tbk_8_10 : TbOk 8 10 80 := by unfold TbOk; decide
theorem tbk_8_1 : TbOk 8 1 8 := by unfold TbOk; decide
theorem tbk_256_1 : TbOk 256 1 256 := by unfold TbOk; decide
theorem tbk_16_2 : TbOk 16 2 32 := by unfold TbOk; decide
theorem nz_ms {x z : Int32} (h : ¬ x < 0) (e : z = x + 1) : ¬ z = 0 := by
  intro q
  rw [lt_I, zI] at h
  have h1 := rng x
  have h2 : (x + 1).toInt = 0 := by rw [← e, q]; exact zI
  rw [Int32.toInt_add, oneI] at h2
  unfold Int.bmod at h2
  have e2 : ((2 ^ 32 : Nat) : Int) = 4294967296 := by decide
  rw [e2] at h2
  dsimp only at h2
  split at h2 <;> omega
theorem mx0 {x z : Int32} (e : z = if 0 < x then x else 0) : ¬ z < 0 := by
  rw [e]
  split
  · rename_i h
    rw [lt_I, zI] at *
    omega
  · decide
section KC
variable {p : Program} {l : Launch} {e : Env} {R : Room} {s : State} {m : MethodId} {args : Array Value} {below : List Frame} {meth : Method} {c : Code} {Q : State → Prop} {A : Nat → Prop} {g : Gx} {cc : ByteArray} {nL n1 n2 pc : Nat} {own : String} {ws : va_W} {lv : List (Nat × Value)} {st : List Value}
theorem k_ifnull {a : Nat} {off : Int} (X : Cx p s m meth c args cc nL own A g) (hd : decode cc pc = .ok (.ifnull off, 3)) (kk : Wk p l e R s m args below meth c Q A g nL n1 n2 ws lv (pc + 3) st) : Wk p l e R s m args below meth c Q A g nL n1 n2 ws lv pc (.ref a :: st) := fun H locs ls hP hD hS hl => lv_ifnull X.1 X.2.1 hd (kk H locs ls hP hD hS hl)
theorem k_ifnonnull {a : Nat} {off : Int} (tgt : Nat) (X : Cx p s m meth c args cc nL own A g) (hd : decode cc pc = .ok (.ifnonnull off, 3)) (ht : (pc : Int) + off = (tgt : Int)) (kk : Wk p l e R s m args below meth c Q A g nL n1 n2 ws lv tgt st) : Wk p l e R s m args below meth c Q A g nL n1 n2 ws lv pc (.ref a :: st) := fun H locs ls hP hD hS hl => lv_ifnonnull X.1 X.2.1 hd ht (kk H locs ls hP hD hS hl)
theorem k_ineg {x : Int32} (X : Cx p s m meth c args cc nL own A g) (hd : decode cc pc = .ok (.ineg, 1)) (kk : Wk p l e R s m args below meth c Q A g nL n1 n2 ws lv (pc + 1) (.int (-x) :: st)) : Wk p l e R s m args below meth c Q A g nL n1 n2 ws lv pc (.int x :: st) := fun H locs ls hP hD hS hl => lv_ineg X.1 X.2.1 hd (kk H locs ls hP hD hS hl)
theorem k_copyi {i a0 a n0 m0 : Nat} {f h : Nat → Int32} {sp dp n : Int32} (ws' : va_W) (X : Cx p s m meth c args cc nL own A g) (hd : decode cc pc = .ok (.invokestatic i, 3)) (hm1 : Cond.methodLink own i arraycopyName ∈ wsL_law0) (hm2 : Cond.native arraycopyName ∈ wsL_law0) (hm3 : Cond.static arraycopyName ∈ wsL_law0) (hm4 : Cond.initialized "java/lang/System" ∈ wsL_law0) (q0 q1 : Nat) (ha0 : ws[q0]? = some (a0, .inl (g.2.2.1, n0, .inl f))) (ha1 : ws[q1]? = some (a, .inl (g.2.2.1, m0, .inl h))) (h1 : ¬ sp < 0) (h2 : ¬ dp < 0) (h3 : ¬ n < 0) (h4 : sp.toNatClampNeg + n.toNatClampNeg ≤ n0) (h5 : dp.toNatClampNeg + n.toNatClampNeg ≤ m0) (hf : 1 ≤ R.frames) (hlo : (st.map fun v => v.category).sum + (nativeFrameWords "java/lang/System" "arraycopy" 5 + 11) ≤ R.locals) (hw : ws.set q1 (a, .inl (g.2.2.1, m0, .inl (va_cpy f h sp.toNatClampNeg dp.toNatClampNeg n.toNatClampNeg))) = ws') (kk : Wk p l e R s m args below meth c Q A g nL n1 n2 ws' lv (pc + 3) st) : Wk p l e R s m args below meth c Q A g nL n1 n2 ws lv pc (.int n :: .int dp :: .ref a :: .int sp :: .ref a0 :: st) := by
  intro H locs ls hP hD hS hl
  subst hw
  exact va_copyi (D := g.1) (cl := vwCl) (ty := .int) X.1 X.2.1 (by rw [X.2.2.1]; exact hl.1.symm) X.2.2.2.1 (X.2.2.2.2.1 _ hm1) (X.2.2.2.2.1 _ hm2) (X.2.2.2.2.1 _ hm3) (X.2.2.2.2.1 _ hm4) X.2.2.2.2.2.1.1 hP hD hS q0 q1 1 1 ha0 ha1 rfl rfl rfl h1 h2 h3 h4 h5 (fun _ _ => rfl) hf hlo hd (fun H1 locs1 hP hD hS => kk H1 locs1 ls hP hD hS hl)
theorem k_mabs {i : Nat} {x : Int32} (X : Cx p s m meth c args cc nL own A g) (hd : decode cc pc = .ok (.invokestatic i, 3)) (hm : Cond.methodLink own i Lib.Math.abs.name ∈ wsL_law0) (hm2 : Cond.static Lib.Math.abs.name ∈ wsL_law0) (hm3 : Cond.initialized "java/lang/Math" ∈ wsL_law0) (hm4 : Cond.code Lib.Math.abs.name Lib.Math.abs.code 1 (some .int) ∈ wsL_law0) (hf : 1 ≤ R.frames) (hlo : (st.map fun v => v.category).sum + 13 ≤ R.locals) (h1 : n1 ≤ R.cells) (h2 : n2 ≤ R.slots) (kk : Wk p l e R s m args below meth c Q A g nL n1 n2 ws lv (pc + 3) (.int (if 0 ≤ x then x else 0 - x) :: st)) : Wk p l e R s m args below meth c Q A g nL n1 n2 ws lv pc (.int x :: st) :=
  fun H locs ls hP hD hS hl => va_mabs X.1 X.2.1 (by rw [X.2.2.1]; exact hl.1.symm) X.2.2.2.1 (X.2.2.2.2.1 _ hm) (X.2.2.2.2.1 _ hm2) (X.2.2.2.2.1 _ hm3) (X.2.2.2.2.1 _ hm4) hf hlo h1 h2 hd (kk H locs ls hP hD hS hl)
end KC
