set_option maxRecDepth 100000
set_option maxHeartbeats 4000000
theorem tb16 {f : Nat → Int32} {j : Nat} (h : j < 6) : tbAt 1 6 f 0 (nI j) = f j := by
  have e := tbN (R := 1) (V := 6) (f := f) (c := nI j) (m := 0) (j := j) (a := 1) (b := 6) (by decide) (by decide) (by omega) (by omega) (nI_toInt (by omega)) (by omega) h
  rw [nI_0, Nat.mul_zero, Nat.zero_add] at e
  exact e
theorem h_num {f : Nat → Int32} {x r : Int32} {j : Nat} (hx : x = nI j) (hj : j < 6) : R_h_numberX x f r ↔ r = f j := by
  unfold R_h_numberX
  subst hx
  simp only [exists_eq_left, tb16 hj]
