/-- towns that have a NAME have trust; so have the towns of marks -/
def TRI (f : Nat → Int32) : Prop := (∀ t : Nat, t < 4 → 0 < (f (175 + t)).toInt → 1 ≤ (f (40 + t)).toInt) ∧ ∀ m : Nat, (m : Int) < (f 8).toInt → 1 ≤ (f (40 + (f (46 + 3 * m)).toInt.toNat)).toInt
theorem rinv_8 {f : Nat → Int32} (h : RInv f) : IV (f 8) 0 12 := rb_8 (y := f 8) rfl h
theorem rinv_46 {f : Nat → Int32} (h : RInv f) {m : Nat} (hm : m < 12) : IV (f (46 + 3 * m)) 0 3 := by
  have q := (h (46 + 3 * m))
  unfold ROK at q
  have := q.2.2.2.2.2.2.2.2.2.2.2.2.1 ⟨by omega, by omega, by omega⟩
  exact this
theorem upd_ne {f : Nat → Int32} {i j : Nat} {v : Int32} (h : j ≠ i) : upd f i v j = f j := by
  unfold upd
  rw [if_neg h]
theorem upd_at {f : Nat → Int32} {i : Nat} {v : Int32} : upd f i v i = v := by
  unfold upd
  rw [if_pos rfl]
theorem tri_n {f : Nat → Int32} {v : Int32} {z : Nat} (h : TRI f) (hr : RInv f) (h1 : z ≠ 8) (h2 : z < 40 ∨ 44 ≤ z) (h3 : z < 46 ∨ 80 ≤ z ∨ z % 3 ≠ 1) (h4 : z < 175 ∨ 178 < z) : TRI (upd f z v) := by
  refine ⟨fun t ht q => ?_, fun m q => ?_⟩
  · rw [upd_ne (by omega)] at q ⊢
    exact h.1 t ht q
  · rw [upd_ne (by omega)] at q
    have hm := rinv_8 hr
    have ht := rinv_46 hr (m := m) (by omega)
    have e : upd f z v (46 + 3 * m) = f (46 + 3 * m) := upd_ne (by omega)
    rw [e, upd_ne (by have := ht; omega)]
    exact h.2 m q
theorem tri_z {f fn : Nat → Int32} {v z : Int32} (e : fn = upd f z.toNatClampNeg v) (h : TRI f) (hr : RInv f) (h0 : 0 ≤ z.toInt) (h1 : z.toInt ≠ 8) (h2 : z.toInt < 40 ∨ 44 ≤ z.toInt) (h3 : z.toInt < 46 ∨ 80 ≤ z.toInt ∨ z.toInt % 3 ≠ 1) (h4 : z.toInt < 175 ∨ 178 < z.toInt) : TRI fn := by
  have t := tn_i (z := z) h0
  rw [e]
  exact tri_n h hr (by omega) (by omega) (by omega) (by omega)
def K183 (f h : Nat → Int32) : Prop := ∀ i : Nat, i < 183 → h i = f i
theorem k183_u {f h fn : Nat → Int32} {z v : Int32} (k : K183 f h) (e : fn = upd h z.toNatClampNeg v) (hz : 183 ≤ z.toInt) : K183 f fn := by
  intro i q
  have t := tn_i (z := z) (by omega)
  rw [e, upd_ne (by omega)]
  exact k i q
/-- all but one NAME's size as it was -/
def KN (q : Int32) (f h : Nat → Int32) : Prop := ∀ i : Nat, i < 183 → (i : Int) ≠ 167 + q.toInt → h i = f i
theorem kn_u {f h fn : Nat → Int32} {q z v : Int32} (k : K183 f h) (e : fn = upd h z.toNatClampNeg v) (hz : z.toInt = 167 + q.toInt) (hq : 0 ≤ q.toInt) : KN q f fn := by
  intro i h1 h2
  have t := tn_i (z := z) (by omega)
  rw [e, upd_ne (by omega)]
  exact k i h1
theorem KN.k16 {q : Int32} {f h : Nat → Int32} (k : KN q f h) (hq : 0 ≤ q.toInt) : K16 f h := fun i hi => k i (by omega) (by omega)
theorem tri_kn {q : Int32} {f h : Nat → Int32} (ht : TRI f) (hr : RInv f) (k : KN q f h) (h0 : 0 ≤ q.toInt) (hq : q.toInt < 8 ∨ 11 < q.toInt) : TRI h := by
  refine ⟨fun t h1 h2 => ?_, fun m h1 => ?_⟩
  · rw [k (175 + t) (by omega) (by omega)] at h2
    rw [k (40 + t) (by omega) (by omega)]
    exact ht.1 t h1 h2
  · rw [k 8 (by omega) (by omega)] at h1
    have hm := rinv_8 hr
    have h3 := rinv_46 hr (m := m) (by omega)
    rw [k (46 + 3 * m) (by omega) (by omega), k (40 + (f (46 + 3 * m)).toInt.toNat) (by have := h3; omega) (by have := h3; omega)]
    exact ht.2 m h1
theorem tri_town {q v z tr : Int32} {f h fn : Nat → Int32} (ht : TRI f) (hr : RInv f) (k : KN q f h) (e : fn = upd h z.toNatClampNeg tr) (hq : q.toInt = 8 + v.toInt) (hv : IV v 0 3) (hz : z.toInt = 40 + v.toInt) (htr : IV tr 1 9) : TRI fn := by
  have w := hv
  have w2 := htr
  have t := tn_i (z := z) (by omega)
  subst e
  have hzz : z.toNatClampNeg = 40 + v.toInt.toNat := by omega
  rw [hzz]
  refine ⟨fun s h1 h2 => ?_, fun m h1 => ?_⟩
  · by_cases c : s = v.toInt.toNat
    · rw [c, upd_at]
      exact w2.1
    · rw [upd_ne (by omega), k (175 + s) (by omega) (by omega)] at h2
      rw [upd_ne (by omega), k (40 + s) (by omega) (by omega)]
      exact ht.1 s h1 h2
  · rw [upd_ne (by omega), k 8 (by omega) (by omega)] at h1
    have hm := rinv_8 hr
    have h3 := rinv_46 hr (m := m) (by omega)
    have w3 := h3
    have e46 : upd h (40 + v.toInt.toNat) tr (46 + 3 * m) = f (46 + 3 * m) := by rw [upd_ne (by omega), k (46 + 3 * m) (by omega) (by omega)]
    rw [e46]
    by_cases c : (f (46 + 3 * m)).toInt.toNat = v.toInt.toNat
    · rw [c, upd_at]
      exact w2.1
    · rw [upd_ne (by omega), k _ (by omega) (by omega)]
      exact ht.2 m h1
theorem tri_mark {v z0 z1 z2 a b tw v1 : Int32} {f f1 f2 f3 f4 : Nat → Int32} (ht : TRI f) (hr : RInv f) (e1 : f1 = upd f z0.toNatClampNeg a) (e2 : f2 = upd f1 z1.toNatClampNeg b) (e3 : f3 = upd f2 z2.toNatClampNeg tw) (e4 : f4 = upd f3 (8 : Int32).toNatClampNeg v1) (hv : v.toInt = (f 8).toInt) (h0 : z0.toInt = 44 + 3 * v.toInt) (h1 : z1.toInt = 45 + 3 * v.toInt) (h2 : z2.toInt = 46 + 3 * v.toInt) (hv1 : v1.toInt = v.toInt + 1) (hI : IV v 0 11) (htw : IV tw 0 3) (hp : 0 < (f (175 + tw.toInt.toNat)).toInt) : TRI f4 := by
  have w := hI
  have w2 := htw
  have t0 := tn_i (z := z0) (by omega)
  have t1 := tn_i (z := z1) (by omega)
  have t2 := tn_i (z := z2) (by omega)
  subst e4
  subst e3
  subst e2
  subst e1
  have g : ∀ i : Nat, i ≠ 8 → i ≠ z0.toNatClampNeg → i ≠ z1.toNatClampNeg → i ≠ z2.toNatClampNeg → upd (upd (upd (upd f z0.toNatClampNeg a) z1.toNatClampNeg b) z2.toNatClampNeg tw) (8 : Int32).toNatClampNeg v1 i = f i := by
    intro i g1 g2 g3 g4
    rw [upd_ne (show i ≠ (8 : Int32).toNatClampNeg from g1), upd_ne g4, upd_ne g3, upd_ne g2]
  have g8 : upd (upd (upd (upd f z0.toNatClampNeg a) z1.toNatClampNeg b) z2.toNatClampNeg tw) (8 : Int32).toNatClampNeg v1 8 = v1 := upd_at
  refine ⟨fun s k1 k2 => ?_, fun m k1 => ?_⟩
  · rw [g _ (by omega) (by omega) (by omega) (by omega)] at k2 ⊢
    exact ht.1 s k1 k2
  · rw [g8] at k1
    by_cases c : m = v.toInt.toNat
    · have c2 : 46 + 3 * m = z2.toNatClampNeg := by omega
      have e2 : upd (upd (upd (upd f z0.toNatClampNeg a) z1.toNatClampNeg b) z2.toNatClampNeg tw) (8 : Int32).toNatClampNeg v1 (46 + 3 * m) = tw := by
        rw [upd_ne (show 46 + 3 * m ≠ (8 : Int32).toNatClampNeg from (show 46 + 3 * m ≠ 8 by omega)), c2, upd_at]
      rw [e2, g _ (by omega) (by omega) (by omega) (by omega)]
      exact ht.1 _ (by omega) hp
    · have hm := rinv_8 hr
      have h3 := rinv_46 hr (m := m) (by omega)
      have w3 := h3
      rw [g (46 + 3 * m) (by omega) (by omega) (by omega) (by omega), g _ (by omega) (by omega) (by omega) (by omega)]
      exact ht.2 m (by omega)
theorem find_p {f : Nat → Int32} {y z n : Int32} (e : y = f z.toNatClampNeg) (i : z.toInt = 167 + n.toInt) (h : 0 < y.toInt) (hn : 0 ≤ n.toInt) : 0 < (f (167 + n.toInt.toNat)).toInt := by
  have t := tn_i (z := z) (by omega)
  have e2 : z.toNatClampNeg = 167 + n.toInt.toNat := by omega
  rw [e, e2] at h
  exact h
theorem nm_p {f : Nat → Int32} {n r : Int32} (q : n.toInt < 0 ∨ 0 < (f (167 + n.toInt.toNat)).toInt) (h : 8 ≤ n.toInt) (e : r.toInt = n.toInt - 8) : 0 < (f (175 + r.toInt.toNat)).toInt := by
  rcases q with q | q
  · omega
  · have e2 : 167 + n.toInt.toNat = 175 + r.toInt.toNat := by omega
    rw [e2] at q
    exact q
theorem tri_cp {f h : Nat → Int32} {k : Int32} (hf : TRI f) (hr : RInv f) (hx : ∀ i : Nat, i < k.toInt.toNat → h i = f i) (hk : 311 ≤ k.toInt) : TRI h := by
  refine ⟨fun t h1 h2 => ?_, fun m h1 => ?_⟩
  · rw [hx (175 + t) (by omega)] at h2
    rw [hx (40 + t) (by omega)]
    exact hf.1 t h1 h2
  · rw [hx 8 (by omega)] at h1
    have hm := rinv_8 hr
    have h3 := rinv_46 hr (m := m) (by omega)
    rw [hx (46 + 3 * m) (by omega), hx _ (by have := h3; omega)]
    exact hf.2 m h1
theorem tri_zero {h : Nat → Int32} {k : Int32} (hx : ∀ i : Nat, i < k.toInt.toNat → h i = 0) (hk : 311 ≤ k.toInt) : TRI h := by
  refine ⟨fun t h1 h2 => ?_, fun m h1 => ?_⟩
  · rw [hx (175 + t) (by omega), zI] at h2
    omega
  · rw [hx 8 (by omega), zI] at h1
    omega
theorem tri0 : TRI (fun _ => 0) := ⟨fun t h1 h2 => by rw [zI] at h2; omega, fun m h1 => by rw [zI] at h1; omega⟩
theorem z_0 {h : Nat → Int32} : ∀ i : Nat, i < (0 : Int32).toInt.toNat → h i = 0 := fun i q => absurd q (by rw [zI]; exact Nat.not_lt_zero _)
theorem z_step {h fn : Nat → Int32} {k k' : Int32} (hx : ∀ i : Nat, i < k.toInt.toNat → h i = 0) (e : fn = upd h k.toNatClampNeg 0) (ik : k'.toInt = k.toInt + 1) (h0 : 0 ≤ k.toInt) : ∀ i : Nat, i < k'.toInt.toNat → fn i = 0 := by
  intro i q
  have t := tn_i (z := k) h0
  rw [e]
  unfold upd
  split
  · rfl
  · exact hx i (by omega)
theorem i2l_I (x : Int32) : x.toInt64.toInt = x.toInt := Int32.toInt_toInt64 x
theorem p9 {v z x : Int64} {k k' y : Int32} (e : z = v * x) (ex : x = y.toInt64) (hy : IV y 1 9) (hv : 1 ≤ v.toInt ∧ v.toInt ≤ 9 ^ k.toInt.toNat) (hk : IV k 0 11) (hk' : k'.toInt = k.toInt + 1) : 1 ≤ z.toInt ∧ z.toInt ≤ 9 ^ k'.toInt.toNat := by
  have w := hy
  have w2 := hk
  have hx : x.toInt = y.toInt := by rw [ex]; exact i2l_I y
  have q1 : k'.toInt.toNat = k.toInt.toNat + 1 := by omega
  have q2 : (9 : Int) ^ k.toInt.toNat ≤ 9 ^ 11 := by
    have : (9 : Nat) ^ k.toInt.toNat ≤ 9 ^ 11 := Nat.pow_le_pow_right (by decide) (by omega)
    exact_mod_cast this
  have e11 : (9 : Int) ^ 11 = 31381059609 := by decide
  have m1 : v.toInt * 1 ≤ v.toInt * x.toInt := Int.mul_le_mul_of_nonneg_left (by omega) (by omega)
  have m2 : v.toInt * x.toInt ≤ v.toInt * 9 := Int.mul_le_mul_of_nonneg_left (by omega) (by omega)
  have e1 : z.toInt = v.toInt * x.toInt := by rw [e, Int64.toInt_mul, bm64 (by omega) (by omega)]
  rw [q1, Int.pow_succ]
  omega
theorem p9s {v : Int64} {k k' : Int32} (hv : 1 ≤ v.toInt ∧ v.toInt ≤ 9 ^ k.toInt.toNat) (h0 : 0 ≤ k.toInt) (hk' : k'.toInt = k.toInt + 1) : 1 ≤ v.toInt ∧ v.toInt ≤ 9 ^ k'.toInt.toNat := by
  have q1 : k'.toInt.toNat = k.toInt.toNat + 1 := by omega
  rw [q1, Int.pow_succ]
  have := hv
  omega
theorem p9n {v : Int64} {n : Nat} (hv : 1 ≤ v.toInt ∧ v.toInt ≤ 9 ^ n) : v ≠ 0 := by
  intro q
  rw [q] at hv
  have h3 : (0 : Int64).toInt = 0 := by decide
  omega
theorem tr_at {f : Nat → Int32} {m zt t za y : Int32} (ht : TRI f) (hm : 0 ≤ m.toInt) (h8 : m.toInt < (f 8).toInt) (iz : zt.toInt = 46 + 3 * m.toInt) (et : t = f zt.toNatClampNeg) (ia : za.toInt = 40 + t.toInt) (h0 : 0 ≤ t.toInt) (ey : y = f za.toNatClampNeg) : 1 ≤ y.toInt := by
  have q := ht.2 m.toInt.toNat (by omega)
  have t1 := tn_i (z := zt) (by omega)
  have t2 := tn_i (z := za) (by omega)
  have e1 : 46 + 3 * m.toInt.toNat = zt.toNatClampNeg := by omega
  rw [e1, ← et] at q
  have e2 : 40 + t.toInt.toNat = za.toNatClampNeg := by omega
  rw [e2, ← ey] at q
  exact q
theorem k_join {p : Program} {l : Launch} {e : Env} {R : Room} {s : State} {m : MethodId} {args : Array Value} {below : List Frame} {meth : Method} {c : Code} {Q : State → Prop} {A : Nat → Prop} {g : Gx} {nL n1 n2 pc : Nat} {ws : va_W} {lv : List (Nat × Value)} {st : List Value} (P : Int32 → Prop) (pcj : Nat) (st2 : List Value) (k1 : (∀ b : Int32, P b → Wk p l e R s m args below meth c Q A g nL n1 n2 ws lv pcj (.int b :: st2)) → Wk p l e R s m args below meth c Q A g nL n1 n2 ws lv pc st) (k2 : ∀ b : Int32, P b → Wk p l e R s m args below meth c Q A g nL n1 n2 ws lv pcj (.int b :: st2)) : Wk p l e R s m args below meth c Q A g nL n1 n2 ws lv pc st := k1 k2
