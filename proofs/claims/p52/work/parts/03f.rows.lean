section KD
variable {p : Program} {l : Launch} {e : Env} {R : Room} {s : State} {m : MethodId} {args : Array Value} {below : List Frame} {meth : Method} {c : Code} {Q : State → Prop} {A : Nat → Prop} {g : Gx} {cc : ByteArray} {nL n1 n2 pc : Nat} {own : String} {ws : va_W} {lv : List (Nat × Value)} {st : List Value}
theorem k_dup2 {va vb : Value} (X : Cx p s m meth c args cc nL own A g) (hd : decode cc pc = .ok (.dup2, 1)) (ha : va.category = 1) (hb : vb.category = 1) (kk : Wk p l e R s m args below meth c Q A g nL n1 n2 ws lv (pc + 1) (va :: vb :: va :: vb :: st)) : Wk p l e R s m args below meth c Q A g nL n1 n2 ws lv pc (va :: vb :: st) := fun H locs ls hP hD hS hl => lv_dup2_11 X.1 X.2.1 hd ha hb (kk H locs ls hP hD hS hl)
end KD
def lookF (f : Nat → Int32) (n k : Int32) : Int32 := if k < n then f k.toNatClampNeg else -1
theorem look_str {f : Nat → Int32} {n k0 k c r : Int32} {a b : Int} (h1 : c = lookF f n k0) (h2 : r = lookF f n k) (hc : IV c a b) (hr : r.toInt < a ∨ b < r.toInt) (hk : k0.toInt ≤ k.toInt) : k0.toInt < k.toInt := by
  rcases Int.lt_or_eq_of_le hk with q | q
  · exact q
  · have e : k0 = k := Int32.toInt_inj.mp q
    subst e
    have e2 : r = c := h2.trans h1.symm
    subst e2
    have := hc
    omega
