set_option maxRecDepth 100000
set_option maxHeartbeats 4000000
theorem tb_ix {R V row col : Int32} (hR : R.toInt ≤ 1000) (hV : V.toInt ≤ 1000) (hr : 0 ≤ row.toInt ∧ row.toInt < R.toInt) (hc : 0 ≤ col.toInt ∧ col.toInt < V.toInt) : (row * V + col).toNatClampNeg = row.toInt.toNat * V.toInt.toNat + col.toInt.toNat := by
  have h1 : row.toInt * V.toInt ≤ 1000 * 1000 := by
    have := Int.mul_le_mul (show row.toInt ≤ 1000 by omega) hV (by omega) (by decide)
    exact this
  have h2 : 0 ≤ row.toInt * V.toInt := Int.mul_nonneg hr.1 (by omega)
  have m1 : (row * V).toInt = row.toInt * V.toInt := mulI (by omega) (by omega)
  have a1 : (row * V + col).toInt = row.toInt * V.toInt + col.toInt := by rw [addI (by rw [m1]; omega) (by rw [m1]; omega), m1]
  have e := tn_i (z := row * V + col) (by rw [a1]; omega)
  have e2 : ((row.toInt.toNat * V.toInt.toNat : Nat) : Int) = row.toInt * V.toInt := by
    rw [Int.natCast_mul, Int.toNat_of_nonneg hr.1, Int.toNat_of_nonneg (by omega)]
  omega
theorem tbAt_in {R V row col : Int32} {f : Nat → Int32} (hR : R.toInt ≤ 1000) (hV : V.toInt ≤ 1000) (hr : 0 ≤ row.toInt ∧ row.toInt < R.toInt) (hc : 0 ≤ col.toInt ∧ col.toInt < V.toInt) : tbAt R V f row col = f (row.toInt.toNat * V.toInt.toNat + col.toInt.toNat) := by
  unfold tbAt
  rw [if_neg (by rw [lt_I, le_I, lt_I, lt_I, zI]; omega), tb_ix hR hV hr hc]
theorem tbPut_in {R V row col v : Int32} {f : Nat → Int32} (hR : R.toInt ≤ 1000) (hV : V.toInt ≤ 1000) (hr : 0 ≤ row.toInt ∧ row.toInt < R.toInt) (hc : 0 ≤ col.toInt ∧ col.toInt < V.toInt) : tbPut R V f row col v = upd f (row.toInt.toNat * V.toInt.toNat + col.toInt.toNat) v := by
  unfold tbPut
  rw [if_neg (by rw [lt_I, le_I, lt_I, lt_I, zI]; omega), tb_ix hR hV hr hc]
theorem tbPut_out {R V row col v : Int32} {f : Nat → Int32} (hc : V.toInt ≤ col.toInt) : tbPut R V f row col v = f := by
  unfold tbPut
  rw [if_pos (by rw [lt_I, le_I, lt_I, lt_I, zI]; omega)]
theorem qt_add8_3 {a b c n k : Int32} {f g : Nat → Int32} (hn : IV n 0 7) (h : R_t_add8_3X a b c n f g k) : g = (upd (upd (upd f (n.toInt.toNat * 3 + 0) a) (n.toInt.toNat * 3 + 1) b) (n.toInt.toNat * 3 + 2) c) ∧ k = n + 1 := by
  simp only [R_t_add8_3X] at h
  obtain ⟨r, hr, h⟩ := h
  have eR : (8 : Int32).toInt = 8 := by decide
  have eV : (3 : Int32).toInt = 3 := by decide
  have o1 : (1 : Int32).toInt = 1 := by decide
  have o2 : (2 : Int32).toInt = 2 := by decide
  rw [if_pos (by rw [lt_I, eR]; omega)] at hr
  rcases h with ⟨-, f1, h1, f2, h2, f3, h3, z, hz, k1, k2⟩ | ⟨q, -⟩
  · refine ⟨?_, by rw [k2, hz]⟩
    rw [k1, h3, h2, h1]
    rw [tbPut_in (col := 2) (by rw [eR]; omega) (by rw [eV]; omega) (by rw [eR]; omega) (by rw [eV]; decide), tbPut_in (col := 1) (by rw [eR]; omega) (by rw [eV]; omega) (by rw [eR]; omega) (by rw [eV]; decide), tbPut_in (col := 0) (by rw [eR]; omega) (by rw [eV]; omega) (by rw [eR]; omega) (by rw [eV]; decide)]
    rfl
  · exact absurd hr q
theorem qt_add4_1 {a b c n k : Int32} {f g : Nat → Int32} (hn : IV n 0 3) (h : R_t_add4_1X a b c n f g k) : g = (upd f (n.toInt.toNat * 1 + 0) a) ∧ k = n + 1 := by
  simp only [R_t_add4_1X] at h
  obtain ⟨r, hr, h⟩ := h
  have eR : (4 : Int32).toInt = 4 := by decide
  have eV : (1 : Int32).toInt = 1 := by decide
  have o1 : (1 : Int32).toInt = 1 := by decide
  have o2 : (2 : Int32).toInt = 2 := by decide
  rw [if_pos (by rw [lt_I, eR]; omega)] at hr
  rcases h with ⟨-, f1, h1, f2, h2, f3, h3, z, hz, k1, k2⟩ | ⟨q, -⟩
  · refine ⟨?_, by rw [k2, hz]⟩
    rw [k1, h3, h2, h1]
    rw [tbPut_out (col := 2) (by rw [eV]; decide), tbPut_out (col := 1) (by rw [eV]; decide), tbPut_in (col := 0) (by rw [eR]; omega) (by rw [eV]; omega) (by rw [eR]; omega) (by rw [eV]; decide)]
    rfl
  · exact absurd hr q
theorem qt_add12_3 {a b c n k : Int32} {f g : Nat → Int32} (hn : IV n 0 11) (h : R_t_add12_3X a b c n f g k) : g = (upd (upd (upd f (n.toInt.toNat * 3 + 0) a) (n.toInt.toNat * 3 + 1) b) (n.toInt.toNat * 3 + 2) c) ∧ k = n + 1 := by
  simp only [R_t_add12_3X] at h
  obtain ⟨r, hr, h⟩ := h
  have eR : (12 : Int32).toInt = 12 := by decide
  have eV : (3 : Int32).toInt = 3 := by decide
  have o1 : (1 : Int32).toInt = 1 := by decide
  have o2 : (2 : Int32).toInt = 2 := by decide
  rw [if_pos (by rw [lt_I, eR]; omega)] at hr
  rcases h with ⟨-, f1, h1, f2, h2, f3, h3, z, hz, k1, k2⟩ | ⟨q, -⟩
  · refine ⟨?_, by rw [k2, hz]⟩
    rw [k1, h3, h2, h1]
    rw [tbPut_in (col := 2) (by rw [eR]; omega) (by rw [eV]; omega) (by rw [eR]; omega) (by rw [eV]; decide), tbPut_in (col := 1) (by rw [eR]; omega) (by rw [eV]; omega) (by rw [eR]; omega) (by rw [eV]; decide), tbPut_in (col := 0) (by rw [eR]; omega) (by rw [eV]; omega) (by rw [eR]; omega) (by rw [eV]; decide)]
    rfl
  · exact absurd hr q
theorem qt_add8_2 {a b c n k : Int32} {f g : Nat → Int32} (hn : IV n 0 7) (h : R_t_add8_2X a b c n f g k) : g = (upd (upd f (n.toInt.toNat * 2 + 0) a) (n.toInt.toNat * 2 + 1) b) ∧ k = n + 1 := by
  simp only [R_t_add8_2X] at h
  obtain ⟨r, hr, h⟩ := h
  have eR : (8 : Int32).toInt = 8 := by decide
  have eV : (2 : Int32).toInt = 2 := by decide
  have o1 : (1 : Int32).toInt = 1 := by decide
  have o2 : (2 : Int32).toInt = 2 := by decide
  rw [if_pos (by rw [lt_I, eR]; omega)] at hr
  rcases h with ⟨-, f1, h1, f2, h2, f3, h3, z, hz, k1, k2⟩ | ⟨q, -⟩
  · refine ⟨?_, by rw [k2, hz]⟩
    rw [k1, h3, h2, h1]
    rw [tbPut_out (col := 2) (by rw [eV]; decide), tbPut_in (col := 1) (by rw [eR]; omega) (by rw [eV]; omega) (by rw [eR]; omega) (by rw [eV]; decide), tbPut_in (col := 0) (by rw [eR]; omega) (by rw [eV]; omega) (by rw [eR]; omega) (by rw [eV]; decide)]
    rfl
  · exact absurd hr q
theorem qt_add6_3 {a b c n k : Int32} {f g : Nat → Int32} (hn : IV n 0 5) (h : R_t_add6_3X a b c n f g k) : g = (upd (upd (upd f (n.toInt.toNat * 3 + 0) a) (n.toInt.toNat * 3 + 1) b) (n.toInt.toNat * 3 + 2) c) ∧ k = n + 1 := by
  simp only [R_t_add6_3X] at h
  obtain ⟨r, hr, h⟩ := h
  have eR : (6 : Int32).toInt = 6 := by decide
  have eV : (3 : Int32).toInt = 3 := by decide
  have o1 : (1 : Int32).toInt = 1 := by decide
  have o2 : (2 : Int32).toInt = 2 := by decide
  rw [if_pos (by rw [lt_I, eR]; omega)] at hr
  rcases h with ⟨-, f1, h1, f2, h2, f3, h3, z, hz, k1, k2⟩ | ⟨q, -⟩
  · refine ⟨?_, by rw [k2, hz]⟩
    rw [k1, h3, h2, h1]
    rw [tbPut_in (col := 2) (by rw [eR]; omega) (by rw [eV]; omega) (by rw [eR]; omega) (by rw [eV]; decide), tbPut_in (col := 1) (by rw [eR]; omega) (by rw [eV]; omega) (by rw [eR]; omega) (by rw [eV]; decide), tbPut_in (col := 0) (by rw [eR]; omega) (by rw [eV]; omega) (by rw [eR]; omega) (by rw [eV]; decide)]
    rfl
  · exact absurd hr q
theorem qt_add4_3 {a b c n k : Int32} {f g : Nat → Int32} (hn : IV n 0 3) (h : R_t_add4_3X a b c n f g k) : g = (upd (upd (upd f (n.toInt.toNat * 3 + 0) a) (n.toInt.toNat * 3 + 1) b) (n.toInt.toNat * 3 + 2) c) ∧ k = n + 1 := by
  simp only [R_t_add4_3X] at h
  obtain ⟨r, hr, h⟩ := h
  have eR : (4 : Int32).toInt = 4 := by decide
  have eV : (3 : Int32).toInt = 3 := by decide
  have o1 : (1 : Int32).toInt = 1 := by decide
  have o2 : (2 : Int32).toInt = 2 := by decide
  rw [if_pos (by rw [lt_I, eR]; omega)] at hr
  rcases h with ⟨-, f1, h1, f2, h2, f3, h3, z, hz, k1, k2⟩ | ⟨q, -⟩
  · refine ⟨?_, by rw [k2, hz]⟩
    rw [k1, h3, h2, h1]
    rw [tbPut_in (col := 2) (by rw [eR]; omega) (by rw [eV]; omega) (by rw [eR]; omega) (by rw [eV]; decide), tbPut_in (col := 1) (by rw [eR]; omega) (by rw [eV]; omega) (by rw [eR]; omega) (by rw [eV]; decide), tbPut_in (col := 0) (by rw [eR]; omega) (by rw [eV]; omega) (by rw [eR]; omega) (by rw [eV]; decide)]
    rfl
  · exact absurd hr q
theorem qt_add6_2 {a b c n k : Int32} {f g : Nat → Int32} (hn : IV n 0 5) (h : R_t_add6_2X a b c n f g k) : g = (upd (upd f (n.toInt.toNat * 2 + 0) a) (n.toInt.toNat * 2 + 1) b) ∧ k = n + 1 := by
  simp only [R_t_add6_2X] at h
  obtain ⟨r, hr, h⟩ := h
  have eR : (6 : Int32).toInt = 6 := by decide
  have eV : (2 : Int32).toInt = 2 := by decide
  have o1 : (1 : Int32).toInt = 1 := by decide
  have o2 : (2 : Int32).toInt = 2 := by decide
  rw [if_pos (by rw [lt_I, eR]; omega)] at hr
  rcases h with ⟨-, f1, h1, f2, h2, f3, h3, z, hz, k1, k2⟩ | ⟨q, -⟩
  · refine ⟨?_, by rw [k2, hz]⟩
    rw [k1, h3, h2, h1]
    rw [tbPut_out (col := 2) (by rw [eV]; decide), tbPut_in (col := 1) (by rw [eR]; omega) (by rw [eV]; omega) (by rw [eR]; omega) (by rw [eV]; decide), tbPut_in (col := 0) (by rw [eR]; omega) (by rw [eV]; omega) (by rw [eR]; omega) (by rw [eV]; decide)]
    rfl
  · exact absurd hr q
theorem qt_add1_3 {a b c n k : Int32} {f g : Nat → Int32} (hn : IV n 0 0) (h : R_t_add1_3X a b c n f g k) : g = (upd (upd (upd f (n.toInt.toNat * 3 + 0) a) (n.toInt.toNat * 3 + 1) b) (n.toInt.toNat * 3 + 2) c) ∧ k = n + 1 := by
  simp only [R_t_add1_3X] at h
  obtain ⟨r, hr, h⟩ := h
  have eR : (1 : Int32).toInt = 1 := by decide
  have eV : (3 : Int32).toInt = 3 := by decide
  have o1 : (1 : Int32).toInt = 1 := by decide
  have o2 : (2 : Int32).toInt = 2 := by decide
  rw [if_pos (by rw [lt_I, eR]; omega)] at hr
  rcases h with ⟨-, f1, h1, f2, h2, f3, h3, z, hz, k1, k2⟩ | ⟨q, -⟩
  · refine ⟨?_, by rw [k2, hz]⟩
    rw [k1, h3, h2, h1]
    rw [tbPut_in (col := 2) (by rw [eR]; omega) (by rw [eV]; omega) (by rw [eR]; omega) (by rw [eV]; decide), tbPut_in (col := 1) (by rw [eR]; omega) (by rw [eV]; omega) (by rw [eR]; omega) (by rw [eV]; decide), tbPut_in (col := 0) (by rw [eR]; omega) (by rw [eV]; omega) (by rw [eR]; omega) (by rw [eV]; decide)]
    rfl
  · exact absurd hr q
theorem qt_add16_2 {a b c n k : Int32} {f g : Nat → Int32} (hn : IV n 0 15) (h : R_t_add16_2X a b c n f g k) : g = (upd (upd f (n.toInt.toNat * 2 + 0) a) (n.toInt.toNat * 2 + 1) b) ∧ k = n + 1 := by
  simp only [R_t_add16_2X] at h
  obtain ⟨r, hr, h⟩ := h
  have eR : (16 : Int32).toInt = 16 := by decide
  have eV : (2 : Int32).toInt = 2 := by decide
  have o1 : (1 : Int32).toInt = 1 := by decide
  have o2 : (2 : Int32).toInt = 2 := by decide
  rw [if_pos (by rw [lt_I, eR]; omega)] at hr
  rcases h with ⟨-, f1, h1, f2, h2, f3, h3, z, hz, k1, k2⟩ | ⟨q, -⟩
  · refine ⟨?_, by rw [k2, hz]⟩
    rw [k1, h3, h2, h1]
    rw [tbPut_out (col := 2) (by rw [eV]; decide), tbPut_in (col := 1) (by rw [eR]; omega) (by rw [eV]; omega) (by rw [eR]; omega) (by rw [eV]; decide), tbPut_in (col := 0) (by rw [eR]; omega) (by rw [eV]; omega) (by rw [eR]; omega) (by rw [eV]; decide)]
    rfl
  · exact absurd hr q

theorem row0 : (0 : Int32).toInt = 0 := by decide
noncomputable def townP (F T : Nat → Int32) (n a : Int32) : Rs (Int32 × Int32) := bnd (oldS F T n 8 11 a) (fun r => .inr (r, nx T n a))
theorem slot0 {k : Int32} : slot 0 k = k.toInt.toNat := rfl
theorem slot1 {k : Int32} : slot 1 k = 8 + k.toInt.toNat := by unfold slot; rw [if_neg (by decide), if_pos rfl]
theorem slot2 {k : Int32} : slot 2 k = 12 + k.toInt.toNat := by unfold slot; rw [if_neg (by decide), if_neg (by decide)]
theorem nd_at {ndf : Nat → Int32} {r : Int32} {i : Nat} (hr : r.toInt = i) (hi : i < 16) : tbAt 16 2 ndf r 0 = ndf (2 * i) ∧ tbAt 16 2 ndf r 1 = ndf (2 * i + 1) := by
  have e16 : (16 : Int32).toInt = 16 := by decide
  have e2 : (2 : Int32).toInt = 2 := by decide
  have h0 := tbAt_in (R := 16) (V := 2) (row := r) (col := 0) (f := ndf) (by decide) (by decide) (by rw [e16]; omega) (by decide)
  have h1 := tbAt_in (R := 16) (V := 2) (row := r) (col := 1) (f := ndf) (by decide) (by decide) (by rw [e16]; omega) (by decide)
  rw [e2, row0] at h0
  rw [e2, oneI] at h1
  have e : r.toInt.toNat = i := by omega
  rw [e] at h0 h1
  have z0 : i * (2 : Int).toNat + (0 : Int).toNat = 2 * i := by show i * 2 + 0 = 2 * i; omega
  have z1 : i * (2 : Int).toNat + (1 : Int).toNat = 2 * i + 1 := by show i * 2 + 1 = 2 * i + 1; omega
  rw [z0] at h0
  rw [z1] at h1
  exact ⟨h0, h1⟩
theorem qx_oldR {F T tp : Nat → Int32} {nmf : Nat → Int64} {ndf : Nat → Int32} {n a ndn fn fp kd sta po va tk ta r fn2 fp2 kd2 sta2 po2 va2 tk2 ta2 : Int32} {le le2 : Int64} (hn : IV n 0 900) (ht : TpR tp T) (hr : NRel F nmf ndf ndn) (hs : XS T n a kd sta po va le) (h : R_x_isOldNameX 0 fn fp n kd sta po va le tk ta tp nmf ndn ndf fn2 fp2 kd2 sta2 po2 va2 le2 tk2 ta2 r) : XV T n a (reelP F T n a) fn fp r fn2 fp2 kd2 sta2 po2 va2 le2 tk2 ta2 := by
  obtain ⟨s1, s2, s3⟩ := hs
  subst s1
  simp only [R_x_isOldNameX] at h
  unfold reelP oldS
  rcases h with ⟨h1, f, p, r2, ⟨b1, b2, b3⟩, k1, k2, k3, k4, k5, k6, k7, k8, k9, k10⟩ | ⟨h1, r1, hr1, h⟩
  · rw [if_neg (fun q => h1 (s3.1.trans q.1)), bnd_l]
    exact ⟨by rw [k10, b3], by rw [k1, b1], by rw [k2, b2]⟩
  · have t1 := s3.1.symm.trans h1
    rcases qx_reserved hn ht s2 s3 hr1 with ⟨q1, q2⟩ | ⟨q1, q2⟩
    · rcases h with ⟨q3, -⟩ | ⟨-, f, p, r2, ⟨b1, b2, b3⟩, k1, k2, k3, k4, k5, k6, k7, k8, k9, k10⟩
      · rw [q1] at q3; exact absurd q3 one0
      · rw [if_neg (fun q => q.2 q2), bnd_l]
        exact ⟨by rw [k10, b3], by rw [k1, b1], by rw [k2, b2]⟩
    · rcases h with ⟨-, r3, hr3, h⟩ | ⟨q3, -⟩
      · rw [if_pos ⟨t1, q2⟩]
        have el := s3.2.2.1 t1
        rw [el] at hr3
        have elo : (0 : Int32).toInt = 0 := by decide
        have ehi : (7 : Int32).toInt = 7 := by decide
        rcases qx_find hn s2 t1 hr hr3 with ⟨e1, e2⟩ | ⟨i, i1, i2, i3, i4⟩
        · rw [e2, if_pos (by decide), bnd_l]
          rcases h with ⟨-, f, p, r2, ⟨b1, b2, b3⟩, k1, k2, k3, k4, k5, k6, k7, k8, k9, k10⟩ | ⟨q4, -⟩
          · exact ⟨by rw [k10, b3], by rw [k1, b1], by rw [k2, b2]⟩
          · rw [e1] at q4; exact absurd (by decide) q4
        · have d1 := hr.1
          obtain ⟨n0, n1⟩ := nd_at (ndf := ndf) i2 (by omega)
          rcases h with ⟨q4, -⟩ | ⟨-, r4, hr4, h⟩
          · rw [lt_I, zI] at q4; omega
          · rw [n0] at hr4
            have sl := slot_lt i3
            have ei := nIt (k := slot (ndf (2 * i)) (ndf (2 * i + 1))) (by omega)
            rw [i4]
            rcases h with ⟨q5, r5, hr5, k, s, p, v, l, hx, k1, k2, k3, k4, k5, k6, k7, k8, k9, k10⟩ | ⟨q5, f, p, r2, ⟨b1, b2, b3⟩, k1, k2, k3, k4, k5, k6, k7, k8, k9, k10⟩
            · have es : ndf (2 * i) = 0 := hr4.symm.trans q5
              rw [n1] at hr5
              have := x_next_at hn ht ⟨rfl, s2, s3⟩ hx
              have iv : IV (ndf (2 * i + 1)) 0 7 := by
                rcases i3 with ⟨g1, g2⟩ | ⟨g1, g2⟩ | ⟨g1, g2⟩
                · first | exact g2 | (rw [es] at g1; exact absurd g1 (by decide))
                · first | exact g2 | (rw [es] at g1; exact absurd g1 (by decide))
                · first | exact g2 | (rw [es] at g1; exact absurd g1 (by decide))
              rw [es, slot0] at ei ⊢
              rw [if_neg (by rw [lt_I, ei, elo]; omega), if_neg (by rw [lt_I, ei, ehi]; omega), bnd_r]
              subst k3 k4 k5 k6 k7
              refine ⟨k10, k1, k2, ?_, k9, this⟩
              rw [k8, hr5]
              apply Int32.toInt_inj.mp
              rw [subI (by rw [ei, elo]; omega) (by rw [ei, elo]; omega), ei, elo]
              omega
            · have es : ndf (2 * i) ≠ 0 := fun w => q5 (hr4.trans w)
              have out : nI (slot (ndf (2 * i)) (ndf (2 * i + 1))) < 0 ∨ 7 < nI (slot (ndf (2 * i)) (ndf (2 * i + 1))) := by
                rw [lt_I, lt_I, ei, elo, ehi]
                rcases i3 with ⟨g1, g2⟩ | ⟨g1, g2⟩ | ⟨g1, g2⟩
                · first | exact absurd g1 es | (rw [g1, slot0]; omega)
                · first | exact absurd g1 es | (rw [g1, slot1]; omega)
                · first | exact absurd g1 es | (rw [g1, slot2]; omega)
              by_cases q6 : nI (slot (ndf (2 * i)) (ndf (2 * i + 1))) < 0
              · rw [if_pos q6, bnd_l]; exact ⟨by rw [k10, b3], by rw [k1, b1], by rw [k2, b2]⟩
              · rw [if_neg q6, if_pos (out.resolve_left q6), bnd_l]; exact ⟨by rw [k10, b3], by rw [k1, b1], by rw [k2, b2]⟩
      · exact absurd q1 q3
theorem qx_oldT {F T tp : Nat → Int32} {nmf : Nat → Int64} {ndf : Nat → Int32} {n a ndn fn fp kd sta po va tk ta r fn2 fp2 kd2 sta2 po2 va2 tk2 ta2 : Int32} {le le2 : Int64} (hn : IV n 0 900) (ht : TpR tp T) (hr : NRel F nmf ndf ndn) (hs : XS T n a kd sta po va le) (h : R_x_isOldNameX 1 fn fp n kd sta po va le tk ta tp nmf ndn ndf fn2 fp2 kd2 sta2 po2 va2 le2 tk2 ta2 r) : XV T n a (townP F T n a) fn fp r fn2 fp2 kd2 sta2 po2 va2 le2 tk2 ta2 := by
  obtain ⟨s1, s2, s3⟩ := hs
  subst s1
  simp only [R_x_isOldNameX] at h
  unfold townP oldS
  rcases h with ⟨h1, f, p, r2, ⟨b1, b2, b3⟩, k1, k2, k3, k4, k5, k6, k7, k8, k9, k10⟩ | ⟨h1, r1, hr1, h⟩
  · rw [if_neg (fun q => h1 (s3.1.trans q.1)), bnd_l]
    exact ⟨by rw [k10, b3], by rw [k1, b1], by rw [k2, b2]⟩
  · have t1 := s3.1.symm.trans h1
    rcases qx_reserved hn ht s2 s3 hr1 with ⟨q1, q2⟩ | ⟨q1, q2⟩
    · rcases h with ⟨q3, -⟩ | ⟨-, f, p, r2, ⟨b1, b2, b3⟩, k1, k2, k3, k4, k5, k6, k7, k8, k9, k10⟩
      · rw [q1] at q3; exact absurd q3 one0
      · rw [if_neg (fun q => q.2 q2), bnd_l]
        exact ⟨by rw [k10, b3], by rw [k1, b1], by rw [k2, b2]⟩
    · rcases h with ⟨-, r3, hr3, h⟩ | ⟨q3, -⟩
      · rw [if_pos ⟨t1, q2⟩]
        have el := s3.2.2.1 t1
        rw [el] at hr3
        have elo : (8 : Int32).toInt = 8 := by decide
        have ehi : (11 : Int32).toInt = 11 := by decide
        rcases qx_find hn s2 t1 hr hr3 with ⟨e1, e2⟩ | ⟨i, i1, i2, i3, i4⟩
        · rw [e2, if_pos (by decide), bnd_l]
          rcases h with ⟨-, f, p, r2, ⟨b1, b2, b3⟩, k1, k2, k3, k4, k5, k6, k7, k8, k9, k10⟩ | ⟨q4, -⟩
          · exact ⟨by rw [k10, b3], by rw [k1, b1], by rw [k2, b2]⟩
          · rw [e1] at q4; exact absurd (by decide) q4
        · have d1 := hr.1
          obtain ⟨n0, n1⟩ := nd_at (ndf := ndf) i2 (by omega)
          rcases h with ⟨q4, -⟩ | ⟨-, r4, hr4, h⟩
          · rw [lt_I, zI] at q4; omega
          · rw [n0] at hr4
            have sl := slot_lt i3
            have ei := nIt (k := slot (ndf (2 * i)) (ndf (2 * i + 1))) (by omega)
            rw [i4]
            rcases h with ⟨q5, r5, hr5, k, s, p, v, l, hx, k1, k2, k3, k4, k5, k6, k7, k8, k9, k10⟩ | ⟨q5, f, p, r2, ⟨b1, b2, b3⟩, k1, k2, k3, k4, k5, k6, k7, k8, k9, k10⟩
            · have es : ndf (2 * i) = 1 := hr4.symm.trans q5
              rw [n1] at hr5
              have := x_next_at hn ht ⟨rfl, s2, s3⟩ hx
              have iv : IV (ndf (2 * i + 1)) 0 3 := by
                rcases i3 with ⟨g1, g2⟩ | ⟨g1, g2⟩ | ⟨g1, g2⟩
                · first | exact g2 | (rw [es] at g1; exact absurd g1 (by decide))
                · first | exact g2 | (rw [es] at g1; exact absurd g1 (by decide))
                · first | exact g2 | (rw [es] at g1; exact absurd g1 (by decide))
              rw [es, slot1] at ei ⊢
              rw [if_neg (by rw [lt_I, ei, elo]; omega), if_neg (by rw [lt_I, ei, ehi]; omega), bnd_r]
              subst k3 k4 k5 k6 k7
              refine ⟨k10, k1, k2, ?_, k9, this⟩
              rw [k8, hr5]
              apply Int32.toInt_inj.mp
              rw [subI (by rw [ei, elo]; omega) (by rw [ei, elo]; omega), ei, elo]
              omega
            · have es : ndf (2 * i) ≠ 1 := fun w => q5 (hr4.trans w)
              have out : nI (slot (ndf (2 * i)) (ndf (2 * i + 1))) < 8 ∨ 11 < nI (slot (ndf (2 * i)) (ndf (2 * i + 1))) := by
                rw [lt_I, lt_I, ei, elo, ehi]
                rcases i3 with ⟨g1, g2⟩ | ⟨g1, g2⟩ | ⟨g1, g2⟩
                · first | exact absurd g1 es | (rw [g1, slot0]; omega)
                · first | exact absurd g1 es | (rw [g1, slot1]; omega)
                · first | exact absurd g1 es | (rw [g1, slot2]; omega)
              by_cases q6 : nI (slot (ndf (2 * i)) (ndf (2 * i + 1))) < 8
              · rw [if_pos q6, bnd_l]; exact ⟨by rw [k10, b3], by rw [k1, b1], by rw [k2, b2]⟩
              · rw [if_neg q6, if_pos (out.resolve_left q6), bnd_l]; exact ⟨by rw [k10, b3], by rw [k1, b1], by rw [k2, b2]⟩
      · exact absurd q1 q3

theorem wrL_lt {F T : Nat → Int32} {a s : Nat} : ∀ (k i : Nat), i < 183 → wrL F T a s k i = F i := by
  intro k
  induction k with
  | zero => intro i _; rfl
  | succ k ih => intro i hi; rw [wrL, upd_ne (by omega)]; exact ih i hi
theorem wrL_other {F T : Nat → Int32} {a s j : Nat} (hj : j ≠ s) : ∀ (k i : Nat), k ≤ 8 → i < 8 → wrL F T a s k (183 + 8 * j + i) = F (183 + 8 * j + i) := by
  intro k
  induction k with
  | zero => intro i _ _; rfl
  | succ k ih => intro i hk hi; rw [wrL, upd_ne (by omega)]; exact ih i (by omega) hi
theorem wrL_at {F T : Nat → Int32} {a s : Nat} : ∀ (k i : Nat), i < k → wrL F T a s k (183 + 8 * s + i) = T (a + i) := by
  intro k
  induction k with
  | zero => intro i hi; omega
  | succ k ih =>
    intro i hi
    rw [wrL]
    by_cases q : i = k
    · subst q; rw [upd_at]
    · rw [upd_ne (by omega)]; exact ih i (by omega)
theorem updL_at {f : Nat → Int64} {k : Nat} {x : Int64} : vp_updL f k x k = x := by unfold vp_updL; rw [if_pos rfl]
theorem updL_ne {f : Nat → Int64} {k j : Nat} {x : Int64} (h : j ≠ k) : vp_updL f k x j = f j := by unfold vp_updL; rw [if_neg h]
theorem NRel_new {F T : Nat → Int32} {nmf : Nat → Int64} {ndf : Nat → Int32} {n a ndn so nu : Int32} (hn : IV n 0 900) (ha : IV a 0 900) (h1 : tkF T n a = 1) (hr : NRel F nmf ndf ndn) (hd : ndn.toInt < 16) (hso : SortOk so nu) (hfree : ¬ 0 < (F (167 + slot so nu)).toInt) (hno : findS F T n a < 0) : NRel (wrN F T n a (slot so nu)) (vp_updL nmf ndn.toNatClampNeg (enF T a.toNatClampNeg (lnF T n a))) (upd (upd ndf (ndn.toInt.toNat * 2 + 0) so) (ndn.toInt.toNat * 2 + 1) nu) (ndn + 1) := by
  obtain ⟨d1, d2, d3, d4⟩ := hr
  obtain ⟨q, l, hi, h8, hi1, hl, he⟩ := tk1_inv hn ha h1
  have sl := slot_lt hso
  have e1 := inc1 (u := ndn) (z := ndn + 1) (a := 0) (b := 900) ⟨by omega, by omega⟩ (by omega) (by omega) rfl
  have tn := tn_i d1.1
  have hne : ∀ i : Nat, (i : Int) < ndn.toInt → slot (ndf (2 * i)) (ndf (2 * i + 1)) ≠ slot so nu := by
    intro i hi2 w
    obtain ⟨l', g1, g2, -⟩ := (d2 i hi2).2
    rw [w] at g1
    omega
  have F1 : ∀ j : Nat, j < 16 → j ≠ slot so nu → wrN F T n a (slot so nu) (167 + j) = F (167 + j) := by
    intro j hj hj2
    unfold wrN
    rw [upd_ne (by omega), wrL_lt _ _ (by omega)]
  have F2 : ∀ j k : Nat, j < 16 → j ≠ slot so nu → k < 8 → wrN F T n a (slot so nu) (183 + 8 * j + k) = F (183 + 8 * j + k) := by
    intro j k hj hj2 hk
    unfold wrN
    rw [upd_ne (by omega), wrL_other hj2 _ _ (by omega) hk]
  have F3 : wrN F T n a (slot so nu) (167 + slot so nu) = nI (lnF T n a) := by unfold wrN; rw [upd_at]
  have F4 : ∀ k : Nat, k < lnF T n a → wrN F T n a (slot so nu) (183 + 8 * slot so nu + k) = T (a.toNatClampNeg + k) := by
    intro k hk
    unfold wrN
    rw [upd_ne (by omega), wrL_at _ _ hk]
  have N1 : ∀ i : Nat, (i : Int) < ndn.toInt → upd (upd ndf (ndn.toInt.toNat * 2 + 0) so) (ndn.toInt.toNat * 2 + 1) nu (2 * i) = ndf (2 * i) ∧ upd (upd ndf (ndn.toInt.toNat * 2 + 0) so) (ndn.toInt.toNat * 2 + 1) nu (2 * i + 1) = ndf (2 * i + 1) := by
    intro i hi2
    exact ⟨by rw [upd_ne (by omega), upd_ne (by omega)], by rw [upd_ne (by omega), upd_ne (by omega)]⟩
  have N2 : upd (upd ndf (ndn.toInt.toNat * 2 + 0) so) (ndn.toInt.toNat * 2 + 1) nu (2 * ndn.toInt.toNat) = so ∧ upd (upd ndf (ndn.toInt.toNat * 2 + 0) so) (ndn.toInt.toNat * 2 + 1) nu (2 * ndn.toInt.toNat + 1) = nu := by
    refine ⟨?_, ?_⟩
    · rw [upd_ne (by omega), show 2 * ndn.toInt.toNat = ndn.toInt.toNat * 2 + 0 by omega, upd_at]
    · rw [show 2 * ndn.toInt.toNat + 1 = ndn.toInt.toNat * 2 + 1 by omega, upd_at]
  have hno2 : ∀ i : Nat, (i : Int) < ndn.toInt → nmf i ≠ enF T a.toNatClampNeg (lnF T n a) := by
    intro i hi2 w
    have hN := (nm_iff hn ha h1 (d2 i hi2).2).mp w
    have hu : ∀ j : Nat, j < 16 → NmAt F T n a j → j = slot (ndf (2 * i)) (ndf (2 * i + 1)) := by
      intro j hj hM
      obtain ⟨i', g1, g2⟩ := d3 j hj hM.1
      have r' := (d2 i' g1).2
      rw [g2] at r'
      have := d4 i' i g1 hi2 (((nm_iff hn ha h1 r').mpr hM).trans w.symm)
      subst this
      exact g2.symm
    have sl2 := slot_lt (d2 i hi2).1
    have := findG_some hN hu 16 0 (by first | decide | omega) (by first | decide | omega) (by first | decide | omega)
    unfold findS at hno
    rw [this, lt_I, nIt (by omega), zI] at hno
    omega
  refine ⟨⟨by omega, by omega⟩, ?_, ?_, ?_⟩
  · intro i hi2
    by_cases q2 : (i : Int) < ndn.toInt
    · obtain ⟨g1, g2⟩ := N1 i q2
      rw [g1, g2]
      obtain ⟨k1, l', g3, g4, g5, g6, g7⟩ := d2 i q2
      have hs := slot_lt k1
      refine ⟨k1, l', by rw [F1 _ hs (hne i q2)]; exact g3, g4, g5, fun k hk => by rw [F2 _ _ hs (hne i q2) (by omega)]; exact g6 k hk, ?_⟩
      rw [updL_ne (by omega), g7]
      exact enF_congr _ (fun k hk => (F2 _ _ hs (hne i q2) (by omega)).symm)
    · obtain rfl : i = ndn.toInt.toNat := by omega
      rw [N2.1, N2.2]
      refine ⟨hso, lnF T n a, by rw [F3, nIt (by omega)], by omega, by omega, fun k hk => by rw [F4 k hk]; exact (word_ch hn ha h1 hk).2, ?_⟩
      rw [show ndn.toInt.toNat = ndn.toNatClampNeg by omega, updL_at]
      exact enF_congr _ (fun k hk => (F4 k hk).symm)
  · intro j hj hp
    by_cases q2 : j = slot so nu
    · exact ⟨ndn.toInt.toNat, by omega, by rw [N2.1, N2.2, q2]⟩
    · rw [F1 j hj q2] at hp
      obtain ⟨i, g1, g2⟩ := d3 j hj hp
      exact ⟨i, by omega, by rw [(N1 i g1).1, (N1 i g1).2]; exact g2⟩
  · intro i i' hi2 hi3 w
    by_cases q2 : (i : Int) < ndn.toInt
    · rw [updL_ne (by omega)] at w
      by_cases q3 : (i' : Int) < ndn.toInt
      · rw [updL_ne (by omega)] at w; exact d4 i i' q2 q3 w
      · obtain rfl : i' = ndn.toNatClampNeg := by omega
        rw [updL_at] at w; exact absurd w (hno2 i q2)
    · obtain rfl : i = ndn.toNatClampNeg := by omega
      rw [updL_at] at w
      by_cases q3 : (i' : Int) < ndn.toInt
      · rw [updL_ne (by omega)] at w; exact absurd w.symm (hno2 i' q3)
      · omega
/-- what isNewName leaves -/
def XN (T : Nat → Int32) (n : Int32) (σ : Rs ((Nat → Int32) × Int32)) (fn fp r fn2 fp2 kd2 sta2 po2 va2 : Int32) (le2 : Int64) (nmg : Nat → Int64) (ndg : Nat → Int32) (ndk ndn : Int32) : Prop := match σ with
  | .inl e => r = 0 ∧ fn2 = e.1 ∧ fp2 = e.2
  | .inr v => r = 1 ∧ fn2 = fn ∧ fp2 = fp ∧ NRel v.1 nmg ndg ndk ∧ ndk = ndn + 1 ∧ XS T n v.2 kd2 sta2 po2 va2 le2
theorem qx_new {F T tp : Nat → Int32} {nmf nmg : Nat → Int64} {ndf ndg : Nat → Int32} {n a ndn ndk so nu fn fp kd sta po va r fn2 fp2 kd2 sta2 po2 va2 : Int32} {le le2 : Int64} (hn : IV n 0 900) (ht : TpR tp T) (hr : NRel F nmf ndf ndn) (hd : ndn.toInt < 16) (hso : SortOk so nu) (hfree : ¬ 0 < (F (167 + slot so nu)).toInt) (hs : XS T n a kd sta po va le) (h : R_x_isNewNameX so nu fn fp n kd sta po va le tp nmf ndn ndf fn2 fp2 kd2 sta2 po2 va2 le2 nmg ndg ndk r) : XN T n (newS F T n (slot so nu) a) fn fp r fn2 fp2 kd2 sta2 po2 va2 le2 nmg ndg ndk ndn := by
  obtain ⟨s1, s2, s3⟩ := hs
  subst s1
  have d1 := hr.1
  simp only [R_x_isNewNameX] at h
  unfold newS
  rcases h with ⟨h1, f, p, r2, ⟨b1, b2, b3⟩, k1, k2, k3, k4, k5, k6, k7, k8, k9, k10, k11⟩ | ⟨h1, r1, hr1, h⟩
  · rw [if_neg (fun q => h1 (s3.1.trans q.1))]
    exact ⟨by rw [k11, b3], by rw [k1, b1], by rw [k2, b2]⟩
  · have t1 := s3.1.symm.trans h1
    rcases qx_reserved hn ht s2 s3 hr1 with ⟨q1, q2⟩ | ⟨q1, q2⟩
    · rcases h with ⟨q3, -⟩ | ⟨-, f, p, r2, ⟨b1, b2, b3⟩, k1, k2, k3, k4, k5, k6, k7, k8, k9, k10, k11⟩
      · rw [q1] at q3; exact absurd q3 one0
      · rw [if_neg (fun q => q.2 q2)]
        exact ⟨by rw [k11, b3], by rw [k1, b1], by rw [k2, b2]⟩
    · rcases h with ⟨-, r3, hr3, h⟩ | ⟨q3, -⟩
      · rw [if_pos ⟨t1, q2⟩]
        have el := s3.2.2.1 t1
        rw [el] at hr3
        rcases qx_find hn s2 t1 hr hr3 with ⟨e1, e2⟩ | ⟨i, i1, i2, i3, i4⟩
        · have hneg : findS F T n sta < 0 := by rw [e2]; decide
          rw [if_pos hneg]
          rcases h with ⟨-, h⟩ | ⟨q4, -⟩
          · have e16 : (16 : Int32).toInt = 16 := by decide
            rcases h with ⟨q5, -⟩ | ⟨-, ⟨q5, -⟩ | ⟨-, g, k, ha, kk, ss, pp, vv, ll, hx, k1, k2, k3, k4, k5, k6, k7, k8, k9, k10, k11⟩⟩
            · rw [lt_I, zI] at q5; omega
            · rw [le_I, e16] at q5; omega
            · obtain ⟨g1, g2⟩ := qt_add16_2 ⟨by omega, by omega⟩ ha
              have hx2 := x_next_at hn ht ⟨rfl, s2, s3⟩ hx
              have hN := NRel_new hn s2 t1 hr hd hso hfree hneg
              subst k3 k4 k5 k6 k7
              refine ⟨k11, k1, k2, ?_, by rw [k10, g2], hx2⟩
              rw [k8, k9, k10, g1, g2, el]
              exact hN
          · rw [e1] at q4; exact absurd (by decide) q4
        · have sl := slot_lt i3
          have hpos : ¬ findS F T n sta < 0 := by rw [i4, lt_I, nIt (by omega), zI]; omega
          rw [if_neg hpos]
          rcases h with ⟨q4, -⟩ | ⟨-, f, p, r2, ⟨b1, b2, b3⟩, k1, k2, k3, k4, k5, k6, k7, k8, k9, k10, k11⟩
          · rw [lt_I, zI] at q4; omega
          · exact ⟨by rw [k11, b3], by rw [k1, b1], by rw [k2, b2]⟩
      · exact absurd q1 q3
