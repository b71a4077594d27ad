set_option maxRecDepth 100000
set_option maxHeartbeats 4000000
theorem rem12 {z y : Int32} {x : Nat} (hz : z.toInt = x) (hx : x < 24) (hy : y = z - z / (12 : Int32) * (12 : Int32)) : y.toInt = (x % 12 : Nat) := by
  have o12 : (12 : Int32).toInt = 12 := by decide
  have hd : (z / 12).toInt = (x / 12 : Nat) := by
    rw [Int32.toInt_div, hz, o12]
    have e : ((x : Int)).tdiv 12 = ((x / 12 : Nat) : Int) := by
      rw [Int.tdiv_eq_ediv_of_nonneg (by omega)]; omega
    rw [e, Int.bmod_eq_of_le (by omega) (by omega)]
  have hm : (z / 12 * 12).toInt = (x / 12 * 12 : Nat) := by
    rw [Int32.toInt_mul, hd, o12, Int.bmod_eq_of_le (by omega) (by omega)]; omega
  rw [hy, Int32.toInt_sub, hz, hm, Int.bmod_eq_of_le (by omega) (by omega)]
  omega
def ST (F S U X : Nat → Int32) (undos images hh zrn zmn zwn zpn zmd ztr : Int32) (zrf zmf zwf zpf : Nat → Int32) (kac knx kim : Int32) (cf : Nat → SC) : Prop :=
  FB F ∧ SR F S zrn zmn zwn zpn zmd ztr zrf zmf zwf zpf ∧ KRel F U X undos images kac knx kim cf ∧ (hh = 0 ∨ hh = 1) ∧ (hh = 0 → F 6 = 0 ∧ F 8 = 0 ∧ F 10 = 0 ∧ F 12 = 0) ∧ (hh ≠ 0 → 0 < (F 12).toInt)
theorem A_undo {F S U X : Nat → Int32} {undos images hh zrn zmn zwn zpn zmd ztr kac knx kim : Int32} {zrf zmf zwf zpf : Nat → Int32} {cf : Nat → SC} {S2 zrg zmg zwg zpg : Nat → Int32} {zrk zmk zwk zpk zmd2 ztr2 tr2 kac2 knx2 r undos2 th tm r2 : Int32} {cf2 : Nat → SC} (h : ST F S U X undos images hh zrn zmn zwn zpn zmd ztr zrf zmf zwf zpf kac knx kim cf) (hc : R_c_undoX zmd ztr zrn zrf zmn zmf zwn zwf zpn zpf kac knx cf tr2 zrg zmg zwg zpg zrk zmk zwk zpk zmd2 ztr2 kac2 knx2 cf2 r) (hm : R_m_undoX undos S U S2 th tm undos2 r2) : ST F S2 U X undos2 images hh zrk zmk zwk zpk zmd2 ztr2 zrg zmg zwg zpg kac2 knx2 kim cf2 ∧ r = r2 ∧ tr2 = tm := by
  obtain ⟨hF, hS, hK, h0, h1, h2⟩ := h
  obtain ⟨⟨e1, e2, i1, i2, i3⟩, hu, hx⟩ := hK
  subst e1
  have o1 : (1 : Int32).toInt = 1 := by decide
  have o12 : (12 : Int32).toInt = 12 := by decide
  unfold R_c_undoX at hc
  obtain ⟨k1, n1, f1, f2, f3, f4, m1, m2, m3, m4, m5, m6, c1, r1, hb, hc⟩ := hc
  unfold R_g_takeBackX at hb
  unfold R_m_undoX R_m_goodX at hm
  obtain ⟨t1, t2, ⟨rfl, rfl⟩, hm⟩ := hm
  rcases hb with ⟨q, z3, h3, z6, h6, z9, h9, z12, h12, y1, y2, y3, y4, y5, y6, y7, y8, y9, y10, hy, x1, x2, x3, x4, x5, x6, x7, x8, x9, x10, hcp, a1, a2, a3, a4, a5, a6, a7, a8, a9, a10, a11, a12, a13, a14⟩ | ⟨q, a1, a2, a3, a4, a5, a6, a7, a8, a9, a10, a11, a12, a13, a14⟩
  · rcases hc with ⟨-, tr_, r_, ⟨d1, d2⟩, b0, b1, b2, b3, b4, b5, b6, b7, b8, b9, b10, b11, b12, b13, b14⟩ | ⟨q2, -⟩
    case inr => rw [a14] at q2; exact absurd q2 (by decide)
    rcases hm with ⟨-, w7, hw7, w10, hw10, g13, hg, rfl, rfl, rfl, rfl, rfl⟩ | ⟨q2, -⟩
    case inr => exact absurd q2 q
    have ia := i1
    have ix := i2
    obtain ⟨a, ha⟩ : ∃ a : Nat, kac.toInt = a := ⟨kac.toInt.toNat, by have := i1.1; omega⟩
    obtain ⟨x, hxn⟩ : ∃ a : Nat, knx.toInt = a := ⟨knx.toInt.toNat, by have := i2.1; omega⟩
    rw [IV, ha] at ia
    rw [IV, hxn] at ix
    have a0 : a ≠ 0 := fun w => q (Int32.toInt_inj.mp (by rw [ha, zI, w]; rfl))
    have t3 : z3.toInt = (a - 1 : Nat) := by rw [h3, Int32.toInt_sub, ha, o1, Int.bmod_eq_of_le (by omega) (by omega)]; omega
    have t7 : undos2.toInt = (a - 1 : Nat) := by rw [hw7, Int32.toInt_sub, ha, o1, Int.bmod_eq_of_le (by omega) (by omega)]; omega
    have t6 : z6.toInt = x + 12 := by rw [h6, Int32.toInt_add, hxn, o12, Int.bmod_eq_of_le (by omega) (by omega)]
    have t9 : z9.toInt = x + 11 := by rw [h9, Int32.toInt_sub, t6, o1, Int.bmod_eq_of_le (by omega) (by omega)]; omega
    have t12 : z12.toInt = ((x + 11) % 12 : Nat) := rem12 (x := x + 11) (by rw [t9]; rfl) (by omega) h12
    have tk : z12.toNatClampNeg = (x + 11) % 12 := tnz t12
    rw [tk] at hy a13
    have hrow := hu (a - 1) (by omega)
    rw [show knx.toInt.toNat = x by omega, show kac.toInt.toNat = a by omega, show (x + 12 - a + (a - 1)) % 12 = (x + 11) % 12 by omega, hy] at hrow
    have hnew := SR.copy hF hrow hcp
    obtain ⟨v1, v2⟩ := cpB (mul44 t7 (by omega) hw10) (by omega) hg
    have hcf : ∀ j : Nat, c1 j = cf j := by
      intro j
      rw [a13]
      by_cases w : j = (x + 11) % 12
      · rw [w, ucf_at]; exact hy.symm
      · rw [ucf_ne w]
    refine ⟨⟨hF, ?_, ?_, h0, h1, h2⟩, by rw [b14, d2], by rw [b0, d1]⟩
    · rw [b1, b2, b3, b4, b5, b6, b7, b8, b9, b10, a3, a4, a5, a6, a7, a8, a9, a10, a11, a12]
      exact SR.row hF hnew (fun j hj => v1 j hj)
    · have q3 : kac2.toInt = (a - 1 : Nat) := by rw [b11, a1, t3]
      have q4 : knx2.toInt = ((x + 11) % 12 : Nat) := by rw [b12, a2, t12]
      refine ⟨⟨Int32.toInt_inj.mp (by rw [q3, t7]), e2, by rw [IV, q3]; omega, by rw [IV, q4]; omega, i3⟩, fun i hi => ?_, fun i hi => ?_⟩
      · rw [b13, hcf, show knx2.toInt.toNat = (x + 11) % 12 by omega, show kac2.toInt.toNat = a - 1 by omega, show ((x + 11) % 12 + 12 - (a - 1) + i) % 12 = (x + 12 - a + i) % 12 by omega]
        have := hu i (by omega)
        rw [show knx.toInt.toNat = x by omega, show kac.toInt.toNat = a by omega] at this
        exact this
      · rw [b13, hcf]; exact hx i hi
  · rcases hc with ⟨q2, -⟩ | ⟨-, tr_, r_, ⟨d1, d2⟩, b0, b1, b2, b3, b4, b5, b6, b7, b8, b9, b10, b11, b12, b13, b14⟩
    case inl => exact absurd a14 q2
    rcases hm with ⟨q2, -⟩ | ⟨-, tm_, rm_, ⟨d3, d4⟩, rfl, rfl, rfl, rfl, rfl⟩
    case inl => exact absurd q q2
    refine ⟨⟨hF, ?_, ?_, h0, h1, h2⟩, by rw [b14, d2, d4], by rw [b0, d1, d3]⟩
    · rw [b1, b2, b3, b4, b5, b6, b7, b8, b9, b10, a3, a4, a5, a6, a7, a8, a9, a10, a11, a12]; exact hS
    · rw [b11, b12, b13, a1, a2, a13]; exact ⟨⟨rfl, e2, i1, i2, i3⟩, hu, hx⟩

theorem A_image {F S U X : Nat → Int32} {undos images hh zrn zmn zwn zpn zmd ztr kac knx kim : Int32} {zrf zmf zwf zpf : Nat → Int32} {cf : Nat → SC} {X2 zrg zmg zwg zpg : Nat → Int32} {zrk zmk zwk zpk zmd2 ztr2 tr2 kim2 r images2 th tm r2 : Int32} {cf2 : Nat → SC} (h : ST F S U X undos images hh zrn zmn zwn zpn zmd ztr zrf zmf zwf zpf kac knx kim cf) (hc : R_c_imageX zmd ztr zrn zrf zmn zmf zwn zwf zpn zpf kim cf tr2 zrg zmg zwg zpg zrk zmk zwk zpk zmd2 ztr2 kim2 cf2 r) (hm : R_m_imageX hh images S X images2 X2 th tm r2) : ST F S U X2 undos images2 hh zrk zmk zwk zpk zmd2 ztr2 zrg zmg zwg zpg kac knx kim2 cf2 ∧ r = r2 ∧ tr2 = tm := by
  obtain ⟨hF, hS, hK, h0, h1, h2⟩ := h
  obtain ⟨⟨e1, e2, i1, i2, i3⟩, hu, hx⟩ := hK
  subst e2
  have o1 : (1 : Int32).toInt = 1 := by decide
  have o3 : (3 : Int32).toInt = 3 := by decide
  have e12 : zpn = F 12 := hS.1.2.2.2.1
  have same : zrg = zrf → zmg = zmf → zwg = zwf → zpg = zpf → zrk = zrn → zmk = zmn → zwk = zwn → zpk = zpn → zmd2 = zmd → ztr2 = ztr → SR F S zrk zmk zwk zpk zmd2 ztr2 zrg zmg zwg zpg := by
    intro a1 a2 a3 a4 a5 a6 a7 a8 a9 a10
    rw [a1, a2, a3, a4, a5, a6, a7, a8, a9, a10]; exact hS
  unfold R_c_imageX R_c_isOpenX at hc
  unfold R_m_imageX R_m_goodX at hm
  obtain ⟨t1, t2, ⟨rfl, rfl⟩, hm⟩ := hm
  obtain ⟨r1, hr1, hc⟩ := hc
  by_cases q0 : hh = 0
  · have z12 : zpn = 0 := e12.trans (h1 q0).2.2.2
    have hr0 : r1 = 0 := by
      rcases hr1 with ⟨-, w⟩ | ⟨w, -⟩
      · exact w
      · rw [z12] at w; exact absurd (by decide) w
    rcases hc with ⟨w, -⟩ | ⟨-, tr_, r_, ⟨d1, d2⟩, b0, b1, b2, b3, b4, b5, b6, b7, b8, b9, b10, b11, b12, b13⟩
    · exact absurd hr0 w
    rcases hm with ⟨w, -⟩ | ⟨-, tm_, rm_, ⟨d3, d4⟩, rfl, rfl, rfl, rfl, rfl⟩
    · exact absurd q0 w
    refine ⟨⟨hF, same b1 b2 b3 b4 b5 b6 b7 b8 b9 b10, ?_, h0, h1, h2⟩, by rw [b13, d2, d4], by rw [b0, d1, d3]⟩
    rw [b11, b12]; exact ⟨⟨e1, rfl, i1, i2, i3⟩, hu, hx⟩
  · have p12 := h2 q0
    have hr0 : r1 = 1 := by
      rcases hr1 with ⟨w, -⟩ | ⟨-, w⟩
      · rw [le_I, e12, zI] at w; omega
      · exact w
    rcases hc with ⟨-, kim_, cf_, r7, hti, hc⟩ | ⟨w, -⟩
    case inr => rw [hr0] at w; exact absurd w (by decide)
    rcases hm with ⟨-, hm⟩ | ⟨w, -⟩
    case inr => exact absurd w q0
    unfold R_g_takeImageX at hti
    rcases hti with ⟨q3, rfl, rfl, r7e⟩ | ⟨q3, y1, y2, y3, y4, y5, y6, y7, y8, y9, y10, hy, x1, x2, x3, x4, x5, x6, x7, x8, x9, x10, hcp, z33, h33, z36, h36, rfl, a13, r7e⟩
    · rcases hc with ⟨w, -⟩ | ⟨-, tr_, r_, ⟨d1, d2⟩, b0, b1, b2, b3, b4, b5, b6, b7, b8, b9, b10, b11, b12, b13⟩
      · rw [r7e] at w; exact absurd w (by decide)
      rcases hm with ⟨w, -⟩ | ⟨-, tm_, rm_, ⟨d3, d4⟩, rfl, rfl, rfl, rfl, rfl⟩
      · exfalso
        have := i3.2
        exact w (Int32.toInt_inj.mp (by rw [o3]; omega))
      refine ⟨⟨hF, same b1 b2 b3 b4 b5 b6 b7 b8 b9 b10, ?_, h0, h1, h2⟩, by rw [b13, d2, d4], by rw [b0, d1, d3]⟩
      rw [b11, b12]; exact ⟨⟨e1, rfl, i1, i2, i3⟩, hu, hx⟩
    · obtain ⟨m, hm3⟩ : ∃ a : Nat, kim.toInt = a := ⟨kim.toInt.toNat, by have := i3.1; omega⟩
      rw [hm3] at q3
      have t33 : kim_.toInt = m + 1 := by rw [h33, Int32.toInt_add, hm3, o1, Int.bmod_eq_of_le (by omega) (by omega)]
      have t36 : z36.toInt = m := by rw [h36, Int32.toInt_sub, t33, o1, Int.bmod_eq_of_le (by omega) (by omega)]; omega
      rcases hc with ⟨-, tr_, r_, ⟨d1, d2⟩, b0, b1, b2, b3, b4, b5, b6, b7, b8, b9, b10, b11, b12, b13⟩ | ⟨w, -⟩
      case inr => exact absurd (by rw [le_I, zI, r7e, t36]; omega) w
      rcases hm with ⟨-, w9, hw9, g12, hg, w15, hw15, w18, hw18, rfl, rfl, rfl, rfl, rfl⟩ | ⟨w, -⟩
      case inr => rw [w, o3] at hm3; omega
      have t15 : images2.toInt = m + 1 := by rw [hw15, Int32.toInt_add, hm3, o1, Int.bmod_eq_of_le (by omega) (by omega)]
      have t18 : r2.toInt = m := by rw [hw18, Int32.toInt_sub, t15, o1, Int.bmod_eq_of_le (by omega) (by omega)]; omega
      have hnew := SR.copy hF hS hcp
      obtain ⟨v1, v2⟩ := cpC (mul44 hm3 (by omega) hw9) (by omega) hg
      have tk : kim.toNatClampNeg = m := tnz hm3
      rw [tk] at a13
      refine ⟨⟨hF, same b1 b2 b3 b4 b5 b6 b7 b8 b9 b10, ?_, h0, h1, h2⟩, Int32.toInt_inj.mp (by rw [b13, d2, r7e, t36, t18]), by rw [b0, d1]⟩
      have q5 : kim2.toInt = m + 1 := by rw [b11, t33]
      refine ⟨⟨e1, Int32.toInt_inj.mp (by rw [q5, t15]), i1, i2, by rw [IV, q5]; omega⟩, fun i hi => ?_, fun i hi => ?_⟩
      · rw [b12, a13, ucf_ne (by have := i1.2; omega)]; exact hu i hi
      · rw [q5] at hi
        rw [b12, a13]
        by_cases q : i = m
        · subst q
          rw [ucf_at]
          exact SR.row hF hnew (fun j hj => v1 j hj)
        · rw [ucf_ne (by omega)]
          exact SR.row hF (hx i (by omega)) (fun j hj => v2 _ (Or.inl (by omega)))
theorem A_back {F S U X : Nat → Int32} {undos images hh zrn zmn zwn zpn zmd ztr kac knx kim : Int32} {zrf zmf zwf zpf : Nat → Int32} {cf : Nat → SC} {S2 zrg zmg zwg zpg : Nat → Int32} {p0 zrk zmk zwk zpk zmd2 ztr2 tr2 kac2 r undos2 th tm r2 : Int32} {cf2 : Nat → SC} (h : ST F S U X undos images hh zrn zmn zwn zpn zmd ztr zrf zmf zwf zpf kac knx kim cf) (hc : R_c_backX p0 zmd ztr zrn zrf zmn zmf zwn zwf zpn zpf kac kim cf tr2 zrg zmg zwg zpg zrk zmk zwk zpk zmd2 ztr2 kac2 cf2 r) (hm : R_m_backX p0 undos images S X S2 th tm undos2 r2) : ST F S2 U X undos2 images hh zrk zmk zwk zpk zmd2 ztr2 zrg zmg zwg zpg kac2 knx kim cf2 ∧ r = r2 ∧ tr2 = tm := by
  obtain ⟨hF, hS, hK, h0, h1, h2⟩ := h
  obtain ⟨⟨e1, e2, i1, i2, i3⟩, hu, hx⟩ := hK
  subst e1 e2
  have o1 : (1 : Int32).toInt = 1 := by decide
  unfold R_c_backX at hc
  obtain ⟨k1, f1, f2, f3, f4, m1, m2, m3, m4, m5, m6, c1, r1, hb, hc⟩ := hc
  unfold R_g_goBackX at hb
  unfold R_m_backX R_m_goodX R_m_inX at hm
  obtain ⟨t1, t2, ⟨rfl, rfl⟩, z5, hz5, r8, hr8, hm⟩ := hm
  have t5 : z5.toInt = kim.toInt - 1 := by
    have := i3
    rw [IV] at this
    rw [hz5, Int32.toInt_sub, o1, Int.bmod_eq_of_le (by omega) (by omega)]
  have hno : (p0.toInt < 0 ∨ kim.toInt ≤ p0.toInt) → r8 = 0 := by
    intro w
    rcases hr8 with ⟨-, g⟩ | ⟨w1, ⟨-, g⟩ | ⟨w2, g⟩⟩
    · exact g
    · exact g
    · rw [lt_I, zI] at w1; rw [lt_I, t5] at w2; omega
  have hyes : 0 ≤ p0.toInt → p0.toInt < kim.toInt → r8 = 1 := by
    intro w w'
    rcases hr8 with ⟨g, -⟩ | ⟨-, ⟨g, -⟩ | ⟨-, g⟩⟩
    · rw [lt_I, zI] at g; omega
    · rw [lt_I, t5] at g; omega
    · exact g
  have refused : (p0.toInt < 0 ∨ kim.toInt ≤ p0.toInt) → k1 = kac → f1 = zrf → f2 = zmf → f3 = zwf → f4 = zpf → m1 = zrn → m2 = zmn → m3 = zwn → m4 = zpn → m5 = zmd → m6 = ztr → c1 = cf → r1 = 0 → ST F S2 U X undos2 kim hh zrk zmk zwk zpk zmd2 ztr2 zrg zmg zwg zpg kac2 knx kim cf2 ∧ r = r2 ∧ tr2 = tm := by
    intro w a1 a3 a4 a5 a6 a7 a8 a9 a10 a11 a12 a13 a14
    rcases hc with ⟨q2, -⟩ | ⟨-, tr_, r_, ⟨d1, d2⟩, b0, b1, b2, b3, b4, b5, b6, b7, b8, b9, b10, b11, b13, b14⟩
    · exact absurd a14 q2
    rcases hm with ⟨q2, -⟩ | ⟨-, tm_, rm_, ⟨d3, d4⟩, rfl, rfl, rfl, rfl, rfl⟩
    · exact absurd (hno w) q2
    refine ⟨⟨hF, ?_, ?_, h0, h1, h2⟩, by rw [b14, d2, d4], by rw [b0, d1, d3]⟩
    · rw [b1, b2, b3, b4, b5, b6, b7, b8, b9, b10, a3, a4, a5, a6, a7, a8, a9, a10, a11, a12]; exact hS
    · rw [b11, b13, a1, a13]; exact ⟨⟨rfl, rfl, i1, i2, i3⟩, hu, hx⟩
  rcases hb with ⟨q, a1, a3, a4, a5, a6, a7, a8, a9, a10, a11, a12, a13, a14⟩ | ⟨q, hb⟩
  · exact refused (Or.inl (by rw [lt_I, zI] at q; exact q)) a1 a3 a4 a5 a6 a7 a8 a9 a10 a11 a12 a13 a14
  rcases hb with ⟨q2, y1, y2, y3, y4, y5, y6, y7, y8, y9, y10, hy, x1, x2, x3, x4, x5, x6, x7, x8, x9, x10, hcp, a1, a3, a4, a5, a6, a7, a8, a9, a10, a11, a12, a13, a14⟩ | ⟨q2, a1, a3, a4, a5, a6, a7, a8, a9, a10, a11, a12, a13, a14⟩
  case inr => exact refused (Or.inr (by rw [lt_I] at q2; omega)) a1 a3 a4 a5 a6 a7 a8 a9 a10 a11 a12 a13 a14
  rw [lt_I, zI] at q
  rw [lt_I] at q2
  have i3' := i3
  rw [IV] at i3'
  rcases hc with ⟨-, tr_, r_, ⟨d1, d2⟩, b0, b1, b2, b3, b4, b5, b6, b7, b8, b9, b10, b11, b13, b14⟩ | ⟨w, -⟩
  case inr => rw [a14] at w; exact absurd w (by decide)
  rcases hm with ⟨-, w22, hw22, g25, hg, rfl, rfl, rfl, rfl, rfl⟩ | ⟨w, -⟩
  case inr => rw [hyes (by omega) q2] at w; exact absurd w (by decide)
  obtain ⟨m, hm3⟩ : ∃ a : Nat, p0.toInt = a := ⟨p0.toInt.toNat, by omega⟩
  rw [tnz hm3] at hy a13
  have hrow := hx m (by omega)
  rw [hy] at hrow
  have hnew := SR.copy hF hrow hcp
  obtain ⟨v1, v2⟩ := cpD (mul44 hm3 (by omega) hw22) (by omega) hg
  have hcf : ∀ j : Nat, c1 j = cf j := by
    intro j
    rw [a13]
    by_cases w : j = 12 + m
    · rw [w, ucf_at]; exact hy.symm
    · rw [ucf_ne w]
  refine ⟨⟨hF, ?_, ?_, h0, h1, h2⟩, by rw [b14, d2], by rw [b0, d1]⟩
  · rw [b1, b2, b3, b4, b5, b6, b7, b8, b9, b10, a3, a4, a5, a6, a7, a8, a9, a10, a11, a12]
    exact SR.row hF hnew (fun j hj => v1 j hj)
  · have q3 : kac2 = 0 := by rw [b11, a1]
    refine ⟨⟨q3, rfl, by rw [q3]; decide, i2, i3⟩, fun i hi => ?_, fun i hi => ?_⟩
    · rw [q3, zI] at hi; omega
    · rw [b13, hcf]; exact hx i hi

theorem has_or {p n r : Int32} (h : r = if p < 0 ∨ n ≤ p then 0 else 1) : (r = 1 ∧ 0 ≤ p.toInt ∧ p.toInt < n.toInt) ∨ (r = 0 ∧ ¬ (0 ≤ p.toInt ∧ p.toInt < n.toInt)) := by
  by_cases q : p < 0 ∨ n ≤ p
  · rw [if_pos q] at h
    rw [lt_I, le_I, zI] at q
    exact Or.inr ⟨h, by omega⟩
  · rw [if_neg q] at h
    rw [lt_I, le_I, zI] at q
    exact Or.inl ⟨h, by omega⟩
theorem in_or {p a b r : Int32} (h : R_m_inX p a b r) : (r = 1 ∧ a.toInt ≤ p.toInt ∧ p.toInt ≤ b.toInt) ∨ (r = 0 ∧ ¬ (a.toInt ≤ p.toInt ∧ p.toInt ≤ b.toInt)) := by
  unfold R_m_inX at h
  rcases h with ⟨q, h⟩ | ⟨q, ⟨q2, h⟩ | ⟨q2, h⟩⟩
  · rw [lt_I] at q; exact Or.inr ⟨h, by omega⟩
  · rw [lt_I] at q2; exact Or.inr ⟨h, by omega⟩
  · rw [lt_I] at q q2; exact Or.inl ⟨h, by omega, by omega⟩
theorem sub1 {x z : Int32} (hx : IV x 0 900) (hz : z = x - 1) : z.toInt = x.toInt - 1 := by
  have o1 : (1 : Int32).toInt = 1 := by decide
  have := hx
  rw [IV] at this
  rw [hz, Int32.toInt_sub, o1, Int.bmod_eq_of_le (by omega) (by omega)]
theorem isPlace_or {F : Nat → Int32} {p hh r : Int32} (hF : FB F) (h0 : hh = 0 → F 12 = 0) (h : R_m_isPlaceX p hh F r) : (r = 1 ∧ 0 ≤ p.toInt ∧ p.toInt < (F 12).toInt) ∨ (r = 0 ∧ ¬ (0 ≤ p.toInt ∧ p.toInt < (F 12).toInt)) := by
  unfold R_m_isPlaceX at h
  rcases h with ⟨q, h⟩ | ⟨q, z4, h4, z7, h7, r10, h10, h⟩
  · refine Or.inr ⟨h, ?_⟩
    rw [h0 q, zI]; omega
  · have e : (12 : Int32).toNatClampNeg = 12 := by decide
    rw [e] at h4
    have t7 := sub1 (z := z7) (iv_w hF.2.2.2 (by decide) (by decide)) (by rw [h7, h4])
    rcases in_or h10 with ⟨q1, q2, q3⟩ | ⟨q1, q2⟩
    · rcases h with ⟨w, -⟩ | ⟨-, h⟩
      · rw [q1] at w; exact absurd w (by decide)
      · rw [zI] at q2; exact Or.inl ⟨h, q2, by omega⟩
    · rcases h with ⟨-, h⟩ | ⟨w, -⟩
      · rw [zI] at q2; exact Or.inr ⟨h, by omega⟩
      · exact absurd q1 w
theorem ST.same {F S U X : Nat → Int32} {undos images hh zrn zmn zwn zpn zmd ztr kac knx kim : Int32} {zrf zmf zwf zpf : Nat → Int32} {cf : Nat → SC} {zrg zmg zwg zpg : Nat → Int32} {zrk zmk zwk zpk zmd2 ztr2 kac2 knx2 : Int32} {cf2 : Nat → SC} (h : ST F S U X undos images hh zrn zmn zwn zpn zmd ztr zrf zmf zwf zpf kac knx kim cf) (b1 : zrg = zrf) (b2 : zmg = zmf) (b3 : zwg = zwf) (b4 : zpg = zpf) (b5 : zrk = zrn) (b6 : zmk = zmn) (b7 : zwk = zwn) (b8 : zpk = zpn) (b9 : zmd2 = zmd) (b10 : ztr2 = ztr) (b11 : kac2 = kac) (b12 : knx2 = knx) (b13 : cf2 = cf) : ST F S U X undos images hh zrk zmk zwk zpk zmd2 ztr2 zrg zmg zwg zpg kac2 knx2 kim cf2 := by
  rw [b1, b2, b3, b4, b5, b6, b7, b8, b9, b10, b11, b12, b13]; exact h
theorem A_threads {F S U X : Nat → Int32} {undos images hh zrn zmn zwn zpn zmd ztr kac knx kim : Int32} {zrf zmf zwf zpf : Nat → Int32} {cf : Nat → SC} {S2 U2 zrg zmg zwg zpg : Nat → Int32} {p0 p1 zrk zmk zwk zpk zmd2 ztr2 tr2 kac2 knx2 r undos2 th tm r2 : Int32} {cf2 : Nat → SC} (h : ST F S U X undos images hh zrn zmn zwn zpn zmd ztr zrf zmf zwf zpf kac knx kim cf) (hc : R_c_threadsX p0 p1 zmd ztr zrn zrf zmn zmf zwn zwf zpn zpf kac knx cf tr2 zrg zmg zwg zpg zrk zmk zwk zpk zmd2 ztr2 kac2 knx2 cf2 r) (hm : R_m_threadsX p0 p1 hh undos F S U S2 th tm U2 undos2 r2) : ST F S2 U2 X undos2 images hh zrk zmk zwk zpk zmd2 ztr2 zrg zmg zwg zpg kac2 knx2 kim cf2 ∧ r = r2 ∧ tr2 = tm := by
  have h' := h
  obtain ⟨hF, hS, hK, h0, h1, h2⟩ := h
  have e12 : zpn = F 12 := hS.1.2.2.2.1
  have o199 : (199 : Int32).toInt = 199 := by decide
  unfold R_c_threadsX at hc
  unfold R_m_threadsX R_m_goodX at hm
  obtain ⟨t1, t2, ⟨rfl, rfl⟩, r5, hr5, hm⟩ := hm
  obtain ⟨r1, hr1, hc⟩ := hc
  rw [e12] at hr1
  rcases has_or hr1 with ⟨q1, q2, q3⟩ | ⟨q1, q2⟩
  case inr =>
    rcases hc with ⟨w, -⟩ | ⟨-, tr_, r_, ⟨d1, d2⟩, b0, b1, b2, b3, b4, b5, b6, b7, b8, b9, b10, b11, b12, b13, b14⟩
    · exact absurd q1 w
    rcases isPlace_or hF (fun w => (h1 w).2.2.2) hr5 with ⟨-, w⟩ | ⟨w1, -⟩
    · exact absurd w q2
    rcases hm with ⟨w, -⟩ | ⟨-, tm_, rm_, ⟨d3, d4⟩, rfl, rfl, rfl, rfl, rfl, rfl⟩
    · exact absurd w1 w
    exact ⟨h'.same b1 b2 b3 b4 b5 b6 b7 b8 b9 b10 b11 b12 b13, by rw [b14, d2, d4], by rw [b0, d1, d3]⟩
  rcases hc with ⟨-, hc⟩ | ⟨w, -⟩
  case inr => rw [q1] at w; exact absurd w (by decide)
  rcases isPlace_or hF (fun w => (h1 w).2.2.2) hr5 with ⟨w1, -⟩ | ⟨-, w⟩
  case inr => exact absurd ⟨q2, q3⟩ w
  rcases hm with ⟨-, r14, hr14, hm⟩ | ⟨w, -⟩
  case inr => rw [w1] at w; exact absurd w (by decide)
  have hno : ¬ (0 ≤ p1.toInt ∧ p1.toInt ≤ 199) → ∀ (tr_ r_ : Int32), R_c_refuseActX 2 tr_ r_ → tr2 = tr_ → zrg = zrf → zmg = zmf → zwg = zwf → zpg = zpf → zrk = zrn → zmk = zmn → zwk = zwn → zpk = zpn → zmd2 = zmd → ztr2 = ztr → kac2 = kac → knx2 = knx → cf2 = cf → r = r_ → ST F S2 U2 X undos2 images hh zrk zmk zwk zpk zmd2 ztr2 zrg zmg zwg zpg kac2 knx2 kim cf2 ∧ r = r2 ∧ tr2 = tm := by
    intro w tr_ r_ hd b0 b1 b2 b3 b4 b5 b6 b7 b8 b9 b10 b11 b12 b13 b14
    rcases in_or hr14 with ⟨-, w2⟩ | ⟨w2, -⟩
    · rw [zI, o199] at w2; exact absurd w2 w
    rcases hm with ⟨w3, -⟩ | ⟨-, tm_, rm_, ⟨d3, d4⟩, rfl, rfl, rfl, rfl, rfl, rfl⟩
    · exact absurd w2 w3
    exact ⟨h'.same b1 b2 b3 b4 b5 b6 b7 b8 b9 b10 b11 b12 b13, by rw [b14, hd.2, d4], by rw [b0, hd.1, d3]⟩
  rcases hc with ⟨q, tr_, r_, hd, b0, b1, b2, b3, b4, b5, b6, b7, b8, b9, b10, b11, b12, b13, b14⟩ | ⟨q, hc⟩
  · rw [lt_I, zI] at q
    exact hno (by omega) tr_ r_ hd b0 b1 b2 b3 b4 b5 b6 b7 b8 b9 b10 b11 b12 b13 b14
  rcases hc with ⟨q4, r16, hr16, hc⟩ | ⟨q4, tr_, r_, hd, b0, b1, b2, b3, b4, b5, b6, b7, b8, b9, b10, b11, b12, b13, b14⟩
  case inr =>
    rw [le_I, o199] at q4
    exact hno (by omega) tr_ r_ hd b0 b1 b2 b3 b4 b5 b6 b7 b8 b9 b10 b11 b12 b13 b14
  rw [lt_I, zI] at q
  rw [le_I, o199] at q4
  rcases in_or hr14 with ⟨w2, -⟩ | ⟨-, w2⟩
  case inr => rw [zI, o199] at w2; omega
  rcases hm with ⟨-, z26, hz26, z29, hz29, hm⟩ | ⟨w3, -⟩
  case inr => rw [w2] at w3; exact absurd w3 (by decide)
  obtain ⟨k, hk⟩ : ∃ a : Nat, p0.toInt = a := ⟨p0.toInt.toNat, by omega⟩
  have hF4 := hF.2.2.2
  rw [IV] at hF4
  have o8 : (8 : Int32).toInt = 8 := by decide
  have o2 : (2 : Int32).toInt = 2 := by decide
  have o34 : (34 : Int32).toInt = (34 : Nat) := by decide
  have c26 : z26.toNatClampNeg = 34 + k := addz o34 hk (by omega) hz26
  have ix : p0.toInt.toNat * (2 : Int32).toInt.toNat + (1 : Int32).toInt.toNat = 2 * k + 1 := by
    rw [o2, show (1 : Int32).toInt = 1 by decide, show (2 : Int).toNat = 2 from rfl, show (1 : Int).toNat = 1 from rfl]
    omega
  rw [tbAt_in (by decide) (by decide) (by rw [o8]; omega) (by decide), ix] at hr16
  have hpl := (hS.2.2.2.2 k (by omega)).2
  rw [c26] at hz29
  have er : r16 = z29 := by rw [hr16, hz29, hpl]
  rcases hc with ⟨q5, k1, n1, c1, hkp, fa, hfa, tr_, r_, ⟨d1, d2⟩, b0, b1, b2, b3, b4, b5, b6, b7, b8, b9, b10, b11, b12, b13, b14⟩ | ⟨q5, tr_, r_, ⟨d1, d2⟩, b0, b1, b2, b3, b4, b5, b6, b7, b8, b9, b10, b11, b12, b13, b14⟩
  · rcases hm with ⟨-, u1, v1, hnt, rfl, rfl, rfl, rfl, rfl, rfl⟩ | ⟨w, -⟩
    case inr => exact absurd (er.trans w) q5
    have hK2 := K_keep hF hS hK hkp hnt
    rw [tbPut_in (by decide) (by decide) (by rw [o8]; omega) (by decide), ix] at hfa
    refine ⟨⟨hF, ?_, by rw [b11, b12, b13]; exact hK2, h0, h1, h2⟩, by rw [b14, d2], by rw [b0, d1]⟩
    obtain ⟨⟨a1, a2, a3, a4, a5, a6⟩, g1, g2, g3, g4⟩ := hS
    obtain ⟨⟨-, i1⟩, ⟨-, i2⟩, ⟨-, i3⟩, ⟨-, i4⟩⟩ := hF
    rw [b1, b2, b3, b4, b5, b6, b7, b8, b9, b10, c26]
    refine ⟨⟨a1, a2, a3, a4, by rw [upd_ne (by omega)]; exact a5, by rw [upd_ne (by omega)]; exact a6⟩, fun j hj => ?_, fun j hj => ?_, fun j hj => ?_, fun j hj => ?_⟩
    · rw [upd_ne (by omega), upd_ne (by omega)]; exact g1 j hj
    · rw [upd_ne (by omega)]; exact g2 j hj
    · rw [upd_ne (by omega)]; exact g3 j hj
    · by_cases w : j = k
      · subst w
        rw [hfa, upd_ne (by omega), upd_at, upd_at]
        exact ⟨(g4 j hj).1, rfl⟩
      · rw [hfa, upd_ne (by omega), upd_ne (by omega), upd_ne (by omega)]; exact g4 j hj
  · rcases hm with ⟨w, -⟩ | ⟨-, tm_, rm_, ⟨d3, d4⟩, rfl, rfl, rfl, rfl, rfl, rfl⟩
    · exact absurd (er.symm.trans q5) w
    exact ⟨h'.same b1 b2 b3 b4 b5 b6 b7 b8 b9 b10 b11 b12 b13, by rw [b14, d2, d4], by rw [b0, d1, d3]⟩

theorem A_trim {F S U X : Nat → Int32} {undos images hh zrn zmn zwn zpn zmd ztr kac knx kim : Int32} {zrf zmf zwf zpf : Nat → Int32} {cf : Nat → SC} {S2 U2 zrg zmg zwg zpg : Nat → Int32} {p0 p1 zrk zmk zwk zpk zmd2 ztr2 tr2 kac2 knx2 r undos2 th tm r2 : Int32} {cf2 : Nat → SC} (hp : p1 = 0 ∨ p1 = 1) (h : ST F S U X undos images hh zrn zmn zwn zpn zmd ztr zrf zmf zwf zpf kac knx kim cf) (hc : R_c_trimX p0 p1 zmd ztr zrn zrf zmn zmf zwn zwf zpn zpf kac knx cf tr2 zrg zmg zwg zpg zrk zmk zwk zpk zmd2 ztr2 kac2 knx2 cf2 r) (hm : R_m_trimX p0 p1 hh undos F S U S2 th tm U2 undos2 r2) : ST F S2 U2 X undos2 images hh zrk zmk zwk zpk zmd2 ztr2 zrg zmg zwg zpg kac2 knx2 kim cf2 ∧ r = r2 ∧ tr2 = tm := by
  have h' := h
  obtain ⟨hF, hS, hK, h0, h1, h2⟩ := h
  have e12 : zpn = F 12 := hS.1.2.2.2.1
  have etr : ztr = S 42 := hS.1.2.2.2.2.2
  have n42 : (42 : Int32).toNatClampNeg = 42 := by decide
  unfold R_c_trimX at hc
  unfold R_m_trimX R_m_goodX at hm
  obtain ⟨t1, t2, ⟨rfl, rfl⟩, r5, hr5, hm⟩ := hm
  obtain ⟨r1, hr1, hc⟩ := hc
  rw [e12] at hr1
  rcases has_or hr1 with ⟨q1, q2, q3⟩ | ⟨q1, q2⟩
  case inr =>
    rcases hc with ⟨w, -⟩ | ⟨-, tr_, r_, ⟨d1, d2⟩, b0, b1, b2, b3, b4, b5, b6, b7, b8, b9, b10, b11, b12, b13, b14⟩
    · exact absurd q1 w
    rcases isPlace_or hF (fun w => (h1 w).2.2.2) hr5 with ⟨-, w⟩ | ⟨w1, -⟩
    · exact absurd w q2
    rcases hm with ⟨w, -⟩ | ⟨-, tm_, rm_, ⟨d3, d4⟩, rfl, rfl, rfl, rfl, rfl, rfl⟩
    · exact absurd w1 w
    exact ⟨h'.same b1 b2 b3 b4 b5 b6 b7 b8 b9 b10 b11 b12 b13, by rw [b14, d2, d4], by rw [b0, d1, d3]⟩
  rcases hc with ⟨-, z4, hz4, z5, hz5, hc⟩ | ⟨w, -⟩
  case inr => rw [q1] at w; exact absurd w (by decide)
  rcases isPlace_or hF (fun w => (h1 w).2.2.2) hr5 with ⟨w1, -⟩ | ⟨-, w⟩
  case inr => exact absurd ⟨q2, q3⟩ w
  rcases hm with ⟨-, z14, hz14, r15, hr15, hm⟩ | ⟨w, -⟩
  case inr => rw [w1] at w; exact absurd w (by decide)
  have i5 : IV z5 0 1 := iv_and (hz5.trans (Int32.and_comm _ _)) (show IV 1 1 1 from (by decide)) (by decide)
  have er : r15 = z5 := by
    obtain ⟨y1, hy1, y2, hy2, hr15⟩ := hr15
    have e2 : y2 = z5 := by rw [hy2, hy1, hz14, n42, hz5, hz4, etr]
    rcases hr15 with ⟨w, w2⟩ | ⟨w, w2⟩
    · rw [w2]
      rw [e2] at w
      have o1 : (1 : Int32).toInt = 1 := by decide
      have : z5.toInt ≠ 1 := fun v => w (Int32.toInt_inj.mp (by rw [v, o1]))
      rw [IV] at i5
      exact (Int32.toInt_inj.mp (by rw [zI]; omega)).symm
    · rw [w2, ← e2, w]
  rcases hc with ⟨qp, hc⟩ | ⟨qp, hc⟩
  · rcases hc with ⟨q5, k1, n1, c1, hkp, z42, hz42, z43, hz43, tr_, r_, ⟨d1, d2⟩, b0, b1, b2, b3, b4, b5, b6, b7, b8, b9, b10, b11, b12, b13, b14⟩ | ⟨q5, tr_, r_, ⟨d1, d2⟩, b0, b1, b2, b3, b4, b5, b6, b7, b8, b9, b10, b11, b12, b13, b14⟩
    · rcases hm with ⟨-, u1, v1, hnt, z24, hz24, z26, hz26, rfl, rfl, rfl, rfl, rfl, rfl⟩ | ⟨w, -⟩
      case inr => exact absurd ((er.symm.trans w).trans qp) q5
      have hK2 := K_keep hF hS hK hkp hnt
      refine ⟨⟨hF, ?_, by rw [b11, b12, b13]; exact hK2, h0, h1, h2⟩, by rw [b14, d2], by rw [b0, d1]⟩
      obtain ⟨⟨a1, a2, a3, a4, a5, a6⟩, g1, g2, g3, g4⟩ := hS
      obtain ⟨⟨-, i1⟩, ⟨-, i2⟩, ⟨-, i3⟩, ⟨-, i4⟩⟩ := hF
      rw [b1, b2, b3, b4, b5, b6, b7, b8, b9, b10, n42]
      refine ⟨⟨a1, a2, a3, a4, by rw [upd_ne (by omega)]; exact a5, by rw [upd_at, hz43, hz42, hz26, hz24, hz14, a6, n42]⟩, fun j hj => ?_, fun j hj => ?_, fun j hj => ?_, fun j hj => ?_⟩
      · rw [upd_ne (by omega), upd_ne (by omega)]; exact g1 j hj
      · rw [upd_ne (by omega)]; exact g2 j hj
      · rw [upd_ne (by omega)]; exact g3 j hj
      · rw [upd_ne (by omega)]; exact g4 j hj
    · rcases hm with ⟨w, -⟩ | ⟨-, tm_, rm_, ⟨d3, d4⟩, rfl, rfl, rfl, rfl, rfl, rfl⟩
      · exact absurd ((er.trans q5).trans qp.symm) w
      exact ⟨h'.same b1 b2 b3 b4 b5 b6 b7 b8 b9 b10 b11 b12 b13, by rw [b14, d2, d4], by rw [b0, d1, d3]⟩
  · have qp1 : p1 = 1 := hp.resolve_left qp
    rcases hc with ⟨q5, k1, n1, c1, hkp, z42, hz42, z43, hz43, tr_, r_, ⟨d1, d2⟩, b0, b1, b2, b3, b4, b5, b6, b7, b8, b9, b10, b11, b12, b13, b14⟩ | ⟨q5, tr_, r_, ⟨d1, d2⟩, b0, b1, b2, b3, b4, b5, b6, b7, b8, b9, b10, b11, b12, b13, b14⟩
    · rcases hm with ⟨-, u1, v1, hnt, z24, hz24, z26, hz26, rfl, rfl, rfl, rfl, rfl, rfl⟩ | ⟨w, -⟩
      case inr => exact absurd ((er.symm.trans w).trans qp1) q5
      have hK2 := K_keep hF hS hK hkp hnt
      refine ⟨⟨hF, ?_, by rw [b11, b12, b13]; exact hK2, h0, h1, h2⟩, by rw [b14, d2], by rw [b0, d1]⟩
      obtain ⟨⟨a1, a2, a3, a4, a5, a6⟩, g1, g2, g3, g4⟩ := hS
      obtain ⟨⟨-, i1⟩, ⟨-, i2⟩, ⟨-, i3⟩, ⟨-, i4⟩⟩ := hF
      rw [b1, b2, b3, b4, b5, b6, b7, b8, b9, b10, n42]
      refine ⟨⟨a1, a2, a3, a4, by rw [upd_ne (by omega)]; exact a5, by rw [upd_at, hz43, hz42, hz26, hz24, hz14, a6, n42]⟩, fun j hj => ?_, fun j hj => ?_, fun j hj => ?_, fun j hj => ?_⟩
      · rw [upd_ne (by omega), upd_ne (by omega)]; exact g1 j hj
      · rw [upd_ne (by omega)]; exact g2 j hj
      · rw [upd_ne (by omega)]; exact g3 j hj
      · rw [upd_ne (by omega)]; exact g4 j hj
    · rcases hm with ⟨w, -⟩ | ⟨-, tm_, rm_, ⟨d3, d4⟩, rfl, rfl, rfl, rfl, rfl, rfl⟩
      · exact absurd ((er.trans q5).trans qp1.symm) w
      exact ⟨h'.same b1 b2 b3 b4 b5 b6 b7 b8 b9 b10 b11 b12 b13, by rw [b14, d2, d4], by rw [b0, d1, d3]⟩

set_option maxRecDepth 100000
set_option maxHeartbeats 4000000
def shF (x c l : Int32) : Int32 := if x < c then (if l < x then l else x) else (if l < (if 0 < x - 2 then x - 2 else 0) then l else (if 0 < x - 2 then x - 2 else 0))
theorem so_sh {x c l r : Int32} (h : R_s_soonerX x c l r) : r = shF x c l := by
  unfold R_s_soonerX at h
  unfold shF
  rcases h with ⟨q, z, h1, h2⟩ | ⟨q, z7, h7, z9, h9, z10, h10, h2⟩
  · rw [if_pos q, h2, h1]
  · rw [if_neg q, h2, h10, h9, h7]
theorem le_sh {a b r : Int32} (h : R_m_leastX a b r) : r = if b < a then b else a := by
  unfold R_m_leastX at h
  rcases h with ⟨q, h⟩ | ⟨q, h⟩
  · rw [le_I] at q
    by_cases w : b < a
    · rw [if_pos w, h]
    · rw [if_neg w, h]
      rw [lt_I] at w
      exact Int32.toInt_inj.mp (by omega)
  · rw [if_neg (by rw [le_I] at q; rw [lt_I]; omega), h]
theorem mo_sh {a b r : Int32} (h : R_m_mostX a b r) : r = if b < a then a else b := by
  unfold R_m_mostX at h
  rcases h with ⟨q, h⟩ | ⟨q, h⟩
  · rw [if_neg (by rw [le_I] at q; rw [lt_I]; omega), h]
  · rw [if_pos (by rw [le_I] at q; rw [lt_I]; omega), h]
theorem sh_sh {x c f r : Int32} (h : R_m_shiftedX x c f r) : r = shF x c (f - 1) := by
  unfold R_m_shiftedX at h
  unfold shF
  rcases h with ⟨q, z5, h5, r7, h7, h⟩ | ⟨q, z10, h10, r12, h12, z14, h14, r16, h16, h⟩
  · rw [if_pos q, h, le_sh h7, h5]
  · rw [if_neg q, h, le_sh h16, mo_sh h12, h14, h10]
theorem pull12_L {r c l n : Int32} {f0 : Nat → Int32} {κ : (Nat → Int32) → Prop} {N : Nat} (hn : n.toInt = N) (hN : N ≤ 12) : ∀ (t : Nat) (f : Nat → Int32) (u : Int32) (m : Nat), u.toInt = m → m ≤ N → (∀ k : Nat, f (3 * k) = f0 (3 * k) ∧ f (3 * k + 2) = f0 (3 * k + 2) ∧ f (3 * k + 1) = (if k < m ∧ f0 (3 * k) = r then shF (f0 (3 * k + 1)) c l else f0 (3 * k + 1))) → R_s_pull12X_L0 r c l n κ t f u → ∃ g : Nat → Int32, κ g ∧ ∀ k : Nat, g (3 * k) = f0 (3 * k) ∧ g (3 * k + 2) = f0 (3 * k + 2) ∧ g (3 * k + 1) = (if k < N ∧ f0 (3 * k) = r then shF (f0 (3 * k + 1)) c l else f0 (3 * k + 1)) := by
  intro t
  induction t with
  | zero => intro f u m _ _ _ h; exact h.elim
  | succ t ih =>
    intro f u m hu hm hI h
    have oR : (12 : Int32).toInt = 12 := by decide
    have o3 : (3 : Int32).toInt.toNat = 3 := by decide
    have o1 : (1 : Int32).toInt.toNat = 1 := by decide
    have o0 : (0 : Int32).toInt.toNat = 0 := by decide
    unfold R_s_pull12X_L0 at h
    rcases h with ⟨q, h⟩ | ⟨q, r12, h12, h⟩
    · rw [le_I] at q
      obtain rfl : m = N := by omega
      exact ⟨f, h, hI⟩
    · rw [le_I] at q
      have eu : u.toInt.toNat = m := by omega
      rw [tbAt_in (by decide) (by decide) (by rw [oR]; omega) (by decide), eu, o3, o0, show m * 3 + 0 = 3 * m by omega, (hI m).1] at h12
      rcases h with ⟨w, z15, h15, h⟩ | ⟨w, r18, h18, r20, h20, fa, hfa, z25, h25, h⟩
      · refine ih f z15 (m + 1) (by rw [add1z hu (by omega) h15]; omega) (by omega) (fun k => ?_) h
        obtain ⟨g1, g2, g3⟩ := hI k
        refine ⟨g1, g2, ?_⟩
        rw [g3]
        by_cases e : k = m
        · subst e
          rw [if_neg (by omega), if_neg (fun v => w (h12.trans v.2))]
        · by_cases v : k < m ∧ f0 (3 * k) = r
          · rw [if_pos v, if_pos ⟨by omega, v.2⟩]
          · rw [if_neg v, if_neg (fun v2 => v ⟨by omega, v2.2⟩)]
      · rw [tbAt_in (by decide) (by decide) (by rw [oR]; omega) (by decide), eu, o3, o1, show m * 3 + 1 = 3 * m + 1 by omega, (hI m).2.2, if_neg (by omega)] at h18
        rw [tbPut_in (by decide) (by decide) (by rw [oR]; omega) (by decide), eu, o3, o1, show m * 3 + 1 = 3 * m + 1 by omega] at hfa
        refine ih fa z25 (m + 1) (by rw [add1z hu (by omega) h25]; omega) (by omega) (fun k => ?_) h
        obtain ⟨g1, g2, g3⟩ := hI k
        rw [hfa]
        refine ⟨by rw [upd_ne (by omega)]; exact g1, by rw [upd_ne (by omega)]; exact g2, ?_⟩
        by_cases e : k = m
        · subst e
          rw [upd_at, if_pos ⟨by omega, h12.symm.trans w⟩, so_sh h20, h18]
        · rw [upd_ne (by omega), g3]
          by_cases v : k < m ∧ f0 (3 * k) = r
          · rw [if_pos v, if_pos ⟨by omega, v.2⟩]
          · rw [if_neg v, if_neg (fun v2 => v ⟨by omega, v2.2⟩)]
theorem pull12 {r c l n : Int32} {f g : Nat → Int32} {N : Nat} (hn : n.toInt = N) (hN : N ≤ 12) (h : R_s_pull12X r c l n f g) : ∀ k : Nat, g (3 * k) = f (3 * k) ∧ g (3 * k + 2) = f (3 * k + 2) ∧ g (3 * k + 1) = (if k < N ∧ f (3 * k) = r then shF (f (3 * k + 1)) c l else f (3 * k + 1)) := by
  obtain ⟨t, h⟩ := h
  obtain ⟨g2, rfl, h2⟩ := pull12_L hn hN t f 0 0 (by decide) (by omega) (fun k => ⟨rfl, rfl, by rw [if_neg (by omega)]⟩) h
  exact h2
theorem pull6_L {r c l n : Int32} {f0 : Nat → Int32} {κ : (Nat → Int32) → Prop} {N : Nat} (hn : n.toInt = N) (hN : N ≤ 6) : ∀ (t : Nat) (f : Nat → Int32) (u : Int32) (m : Nat), u.toInt = m → m ≤ N → (∀ k : Nat, f (3 * k) = f0 (3 * k) ∧ f (3 * k + 2) = f0 (3 * k + 2) ∧ f (3 * k + 1) = (if k < m ∧ f0 (3 * k) = r then shF (f0 (3 * k + 1)) c l else f0 (3 * k + 1))) → R_s_pull6X_L0 r c l n κ t f u → ∃ g : Nat → Int32, κ g ∧ ∀ k : Nat, g (3 * k) = f0 (3 * k) ∧ g (3 * k + 2) = f0 (3 * k + 2) ∧ g (3 * k + 1) = (if k < N ∧ f0 (3 * k) = r then shF (f0 (3 * k + 1)) c l else f0 (3 * k + 1)) := by
  intro t
  induction t with
  | zero => intro f u m _ _ _ h; exact h.elim
  | succ t ih =>
    intro f u m hu hm hI h
    have oR : (6 : Int32).toInt = 6 := by decide
    have o3 : (3 : Int32).toInt.toNat = 3 := by decide
    have o1 : (1 : Int32).toInt.toNat = 1 := by decide
    have o0 : (0 : Int32).toInt.toNat = 0 := by decide
    unfold R_s_pull6X_L0 at h
    rcases h with ⟨q, h⟩ | ⟨q, r12, h12, h⟩
    · rw [le_I] at q
      obtain rfl : m = N := by omega
      exact ⟨f, h, hI⟩
    · rw [le_I] at q
      have eu : u.toInt.toNat = m := by omega
      rw [tbAt_in (by decide) (by decide) (by rw [oR]; omega) (by decide), eu, o3, o0, show m * 3 + 0 = 3 * m by omega, (hI m).1] at h12
      rcases h with ⟨w, z15, h15, h⟩ | ⟨w, r18, h18, r20, h20, fa, hfa, z25, h25, h⟩
      · refine ih f z15 (m + 1) (by rw [add1z hu (by omega) h15]; omega) (by omega) (fun k => ?_) h
        obtain ⟨g1, g2, g3⟩ := hI k
        refine ⟨g1, g2, ?_⟩
        rw [g3]
        by_cases e : k = m
        · subst e
          rw [if_neg (by omega), if_neg (fun v => w (h12.trans v.2))]
        · by_cases v : k < m ∧ f0 (3 * k) = r
          · rw [if_pos v, if_pos ⟨by omega, v.2⟩]
          · rw [if_neg v, if_neg (fun v2 => v ⟨by omega, v2.2⟩)]
      · rw [tbAt_in (by decide) (by decide) (by rw [oR]; omega) (by decide), eu, o3, o1, show m * 3 + 1 = 3 * m + 1 by omega, (hI m).2.2, if_neg (by omega)] at h18
        rw [tbPut_in (by decide) (by decide) (by rw [oR]; omega) (by decide), eu, o3, o1, show m * 3 + 1 = 3 * m + 1 by omega] at hfa
        refine ih fa z25 (m + 1) (by rw [add1z hu (by omega) h25]; omega) (by omega) (fun k => ?_) h
        obtain ⟨g1, g2, g3⟩ := hI k
        rw [hfa]
        refine ⟨by rw [upd_ne (by omega)]; exact g1, by rw [upd_ne (by omega)]; exact g2, ?_⟩
        by_cases e : k = m
        · subst e
          rw [upd_at, if_pos ⟨by omega, h12.symm.trans w⟩, so_sh h20, h18]
        · rw [upd_ne (by omega), g3]
          by_cases v : k < m ∧ f0 (3 * k) = r
          · rw [if_pos v, if_pos ⟨by omega, v.2⟩]
          · rw [if_neg v, if_neg (fun v2 => v ⟨by omega, v2.2⟩)]
theorem pull6 {r c l n : Int32} {f g : Nat → Int32} {N : Nat} (hn : n.toInt = N) (hN : N ≤ 6) (h : R_s_pull6X r c l n f g) : ∀ k : Nat, g (3 * k) = f (3 * k) ∧ g (3 * k + 2) = f (3 * k + 2) ∧ g (3 * k + 1) = (if k < N ∧ f (3 * k) = r then shF (f (3 * k + 1)) c l else f (3 * k + 1)) := by
  obtain ⟨t, h⟩ := h
  obtain ⟨g2, rfl, h2⟩ := pull6_L hn hN t f 0 0 (by decide) (by omega) (fun k => ⟨rfl, rfl, by rw [if_neg (by omega)]⟩) h
  exact h2
theorem mend_L0 {F S0 : Nat → Int32} {r c fr : Int32} {κ : (Nat → Int32) → Prop} {N : Nat} (hn : (F 8).toInt = N) (hN : N ≤ 12) : ∀ (t : Nat) (S : Nat → Int32) (u : Int32) (m : Nat), u.toInt = m → m ≤ N → (∀ k : Nat, k < 12 → S (16 + k) = (if k < m ∧ F (44 + 3 * k) = r then shF (S0 (16 + k)) c (fr - 1) else S0 (16 + k))) → (∀ i : Nat, (i < 16 ∨ 28 ≤ i) → S i = S0 i) → R_m_mendX_L0 F r c fr κ t S u → ∃ S2 : Nat → Int32, κ S2 ∧ (∀ k : Nat, k < 12 → S2 (16 + k) = (if k < N ∧ F (44 + 3 * k) = r then shF (S0 (16 + k)) c (fr - 1) else S0 (16 + k))) ∧ (∀ i : Nat, (i < 16 ∨ 28 ≤ i) → S2 i = S0 i) := by
  intro t
  induction t with
  | zero => intro S u m _ _ _ _ h; exact h.elim
  | succ t ih =>
    intro S u m hu hm hI hO h
    have oi : (8 : Int32).toNatClampNeg = 8 := by decide
    have o3 : (3 : Int32).toInt = 3 := by decide
    unfold R_m_mendX_L0 at h
    obtain ⟨z65, h65, h⟩ := h
    rw [oi] at h65
    subst h65
    rcases h with ⟨q, h⟩ | ⟨q, z115, h115, z118, h118, z121, h121, h⟩
    · rw [le_I] at q
      obtain rfl : m = N := by omega
      exact ⟨S, h, hI, hO⟩
    · rw [le_I] at q
      have t115 : z115.toInt = (3 * m : Nat) := by rw [h115, Int32.toInt_mul, o3, hu, Int.bmod_eq_of_le (by omega) (by omega)]; omega
      have c118 : z118.toNatClampNeg = 44 + 3 * m := addz (show (44 : Int32).toInt = (44 : Nat) by decide) t115 (by omega) h118
      rw [c118] at h121
      rcases h with ⟨w, z15, h15, h⟩ | ⟨w, z128, h128, z131, h131, r132, h132, z25, h25, h⟩
      · refine ih S z15 (m + 1) (by rw [add1z hu (by omega) h15]; omega) (by omega) (fun k hk => ?_) hO h
        rw [hI k hk]
        by_cases e : k = m
        · subst e
          rw [if_neg (by omega), if_neg (fun v => w (h121.trans v.2))]
        · by_cases v : k < m ∧ F (44 + 3 * k) = r
          · rw [if_pos v, if_pos ⟨by omega, v.2⟩]
          · rw [if_neg v, if_neg (fun v2 => v ⟨by omega, v2.2⟩)]
      · have c128 : z128.toNatClampNeg = 16 + m := addz (show (16 : Int32).toInt = (16 : Nat) by decide) hu (by omega) h128
        rw [c128, hI m (by omega), if_neg (by omega)] at h131
        rw [c128] at h
        refine ih _ z25 (m + 1) (by rw [add1z hu (by omega) h25]; omega) (by omega) (fun k hk => ?_) (fun i hi => ?_) h
        · by_cases e : k = m
          · subst e
            rw [upd_at, if_pos ⟨by omega, h121.symm.trans w⟩, sh_sh h132, h131]
          · rw [upd_ne (by omega), hI k hk]
            by_cases v : k < m ∧ F (44 + 3 * k) = r
            · rw [if_pos v, if_pos ⟨by omega, v.2⟩]
            · rw [if_neg v, if_neg (fun v2 => v ⟨by omega, v2.2⟩)]
        · rw [upd_ne (by omega)]; exact hO i hi
theorem mend_L1 {F S0 : Nat → Int32} {r c fr : Int32} {κ : (Nat → Int32) → Prop} {N : Nat} (hn : (F 10).toInt = N) (hN : N ≤ 6) : ∀ (t : Nat) (S : Nat → Int32) (u : Int32) (m : Nat), u.toInt = m → m ≤ N → (∀ k : Nat, k < 6 → S (28 + k) = (if k < m ∧ F (96 + 3 * k) = r then shF (S0 (28 + k)) c (fr - 1) else S0 (28 + k))) → (∀ i : Nat, (i < 28 ∨ 34 ≤ i) → S i = S0 i) → R_m_mendX_L1 F r c fr κ t S u → ∃ S2 : Nat → Int32, κ S2 ∧ (∀ k : Nat, k < 6 → S2 (28 + k) = (if k < N ∧ F (96 + 3 * k) = r then shF (S0 (28 + k)) c (fr - 1) else S0 (28 + k))) ∧ (∀ i : Nat, (i < 28 ∨ 34 ≤ i) → S2 i = S0 i) := by
  intro t
  induction t with
  | zero => intro S u m _ _ _ _ h; exact h.elim
  | succ t ih =>
    intro S u m hu hm hI hO h
    have oi : (10 : Int32).toNatClampNeg = 10 := by decide
    have o3 : (3 : Int32).toInt = 3 := by decide
    unfold R_m_mendX_L1 at h
    obtain ⟨z65, h65, h⟩ := h
    rw [oi] at h65
    subst h65
    rcases h with ⟨q, h⟩ | ⟨q, z115, h115, z118, h118, z121, h121, h⟩
    · rw [le_I] at q
      obtain rfl : m = N := by omega
      exact ⟨S, h, hI, hO⟩
    · rw [le_I] at q
      have t115 : z115.toInt = (3 * m : Nat) := by rw [h115, Int32.toInt_mul, o3, hu, Int.bmod_eq_of_le (by omega) (by omega)]; omega
      have c118 : z118.toNatClampNeg = 96 + 3 * m := addz (show (96 : Int32).toInt = (96 : Nat) by decide) t115 (by omega) h118
      rw [c118] at h121
      rcases h with ⟨w, z15, h15, h⟩ | ⟨w, z128, h128, z131, h131, r132, h132, z25, h25, h⟩
      · refine ih S z15 (m + 1) (by rw [add1z hu (by omega) h15]; omega) (by omega) (fun k hk => ?_) hO h
        rw [hI k hk]
        by_cases e : k = m
        · subst e
          rw [if_neg (by omega), if_neg (fun v => w (h121.trans v.2))]
        · by_cases v : k < m ∧ F (96 + 3 * k) = r
          · rw [if_pos v, if_pos ⟨by omega, v.2⟩]
          · rw [if_neg v, if_neg (fun v2 => v ⟨by omega, v2.2⟩)]
      · have c128 : z128.toNatClampNeg = 28 + m := addz (show (28 : Int32).toInt = (28 : Nat) by decide) hu (by omega) h128
        rw [c128, hI m (by omega), if_neg (by omega)] at h131
        rw [c128] at h
        refine ih _ z25 (m + 1) (by rw [add1z hu (by omega) h25]; omega) (by omega) (fun k hk => ?_) (fun i hi => ?_) h
        · by_cases e : k = m
          · subst e
            rw [upd_at, if_pos ⟨by omega, h121.symm.trans w⟩, sh_sh h132, h131]
          · rw [upd_ne (by omega), hI k hk]
            by_cases v : k < m ∧ F (96 + 3 * k) = r
            · rw [if_pos v, if_pos ⟨by omega, v.2⟩]
            · rw [if_neg v, if_neg (fun v2 => v ⟨by omega, v2.2⟩)]
        · rw [upd_ne (by omega)]; exact hO i hi

theorem isWeak_or {F : Nat → Int32} {p hh r : Int32} (hF : FB F) (h0 : hh = 0 → F 10 = 0) (h : R_m_isWeakX p hh F r) : (r = 1 ∧ 0 ≤ p.toInt ∧ p.toInt < (F 10).toInt) ∨ (r = 0 ∧ ¬ (0 ≤ p.toInt ∧ p.toInt < (F 10).toInt)) := by
  unfold R_m_isWeakX at h
  rcases h with ⟨q, h⟩ | ⟨q, z4, h4, z7, h7, r10, h10, h⟩
  · refine Or.inr ⟨h, ?_⟩
    rw [h0 q, zI]; omega
  · have e : (10 : Int32).toNatClampNeg = 10 := by decide
    rw [e] at h4
    have t7 := sub1 (z := z7) (iv_w hF.2.2.1 (by decide) (by decide)) (by rw [h7, h4])
    rcases in_or h10 with ⟨q1, q2, q3⟩ | ⟨q1, q2⟩
    · rcases h with ⟨w, -⟩ | ⟨-, h⟩
      · rw [q1] at w; exact absurd w (by decide)
      · rw [zI] at q2; exact Or.inl ⟨h, q2, by omega⟩
    · rcases h with ⟨-, h⟩ | ⟨w, -⟩
      · rw [zI] at q2; exact Or.inr ⟨h, by omega⟩
      · exact absurd q1 w
theorem bit01 {x : Int32} : IV (x &&& 1) 0 1 := iv_and (Int32.and_comm _ _) (show IV 1 1 1 from (by decide)) (by decide)
theorem weak_mended {p md n r r2 : Int32} {S : Nat → Int32} (hr : 0 ≤ p.toInt ∧ p.toInt < n.toInt) (hmd : md = S 43) (hc : R_s_isWeakX p md n r) (hm : R_m_isMendedX p S r2) : (r = 0 ∧ r2 = 1) ∨ (r = 1 ∧ r2 = 0) := by
  obtain ⟨r1, hr1, hc⟩ := hc
  obtain ⟨z1, hz1, r3, ⟨y1, hy1, y2, hy2, hm⟩, he⟩ := hm
  have n43 : (43 : Int32).toNatClampNeg = 43 := by decide
  rcases has_or hr1 with ⟨w, -⟩ | ⟨-, w⟩
  case inr => exact absurd hr w
  rcases hc with ⟨w2, -⟩ | ⟨-, z5, hz5, z6, hz6, hc⟩
  · rw [w] at w2; exact absurd w2 (by decide)
  have e : y2 = z6 := by rw [hy2, hy1, hz1, n43, ← hmd, hz6, hz5]
  have i6 : IV z6 0 1 := by rw [hz6]; exact bit01
  rw [IV] at i6
  have o1 : (1 : Int32).toInt = 1 := by decide
  rcases hc with ⟨w3, hc⟩ | ⟨w3, hc⟩
  · have : z6 = 1 := Int32.toInt_inj.mp (by
      have : z6.toInt ≠ 0 := fun v => w3 (Int32.toInt_inj.mp (by rw [v, zI]))
      rw [o1]; omega)
    rcases hm with ⟨w4, -⟩ | ⟨-, hm⟩
    · exact absurd (e.trans this) w4
    · exact Or.inl ⟨hc, he.trans hm⟩
  · rcases hm with ⟨-, hm⟩ | ⟨w4, -⟩
    · exact Or.inr ⟨hc, he.trans hm⟩
    · rw [e, w3] at w4; exact absurd w4 (by decide)
theorem m1p1 (x : Int32) : x - 1 + 1 = x := by
  rw [Int32.sub_eq_add_neg, Int32.add_assoc]
  have : (-1 : Int32) + 1 = 0 := by decide
  rw [this, Int32.add_zero]
theorem A_mend {F S U X : Nat → Int32} {undos images hh zrn zmn zwn zpn zmd ztr kac knx kim : Int32} {zrf zmf zwf zpf : Nat → Int32} {cf : Nat → SC} {S2 U2 zrg zmg zwg zpg : Nat → Int32} {p0 zrk zmk zwk zpk zmd2 ztr2 tr2 kac2 knx2 r undos2 th tm r2 : Int32} {cf2 : Nat → SC} (hW : ∀ k : Nat, (k : Int) < (F 10).toInt → 0 ≤ (F (96 + 3 * k)).toInt ∧ (F (96 + 3 * k)).toInt < (F 6).toInt) (h : ST F S U X undos images hh zrn zmn zwn zpn zmd ztr zrf zmf zwf zpf kac knx kim cf) (hc : R_c_mendX p0 zmd ztr zrn zrf zmn zmf zwn zwf zpn zpf kac knx cf tr2 zrg zmg zwg zpg zrk zmk zwk zpk zmd2 ztr2 kac2 knx2 cf2 r) (hm : R_m_mendX p0 hh undos F S U S2 th tm U2 undos2 r2) : ST F S2 U2 X undos2 images hh zrk zmk zwk zpk zmd2 ztr2 zrg zmg zwg zpg kac2 knx2 kim cf2 ∧ r = r2 ∧ tr2 = tm := by
  have h' := h
  obtain ⟨hF, hS, hK, h0, h1, h2⟩ := h
  have e10 : zwn = F 10 := hS.1.2.2.1
  have emd : zmd = S 43 := hS.1.2.2.2.2.1
  have n43 : (43 : Int32).toNatClampNeg = 43 := by decide
  have o3 : (3 : Int32).toInt = 3 := by decide
  have o3n : (3 : Int32).toInt.toNat = 3 := by decide
  have o1n : (1 : Int32).toInt.toNat = 1 := by decide
  have o0n : (0 : Int32).toInt.toNat = 0 := by decide
  have o6 : (6 : Int32).toInt = 6 := by decide
  have o8 : (8 : Int32).toInt = 8 := by decide
  unfold R_c_mendX at hc
  unfold R_m_mendX R_m_goodX at hm
  obtain ⟨t1, t2, ⟨rfl, rfl⟩, r5, hr5, hm⟩ := hm
  obtain ⟨r1, hr1, hc⟩ := hc
  have hr1' := hr1
  rw [e10] at hr1
  rcases has_or hr1 with ⟨q1, q2, q3⟩ | ⟨q1, q2⟩
  case inr =>
    rcases hc with ⟨w, -⟩ | ⟨-, tr_, r_, ⟨d1, d2⟩, b0, b1, b2, b3, b4, b5, b6, b7, b8, b9, b10, b11, b12, b13, b14⟩
    · exact absurd q1 w
    rcases isWeak_or hF (fun w => (h1 w).2.2.1) hr5 with ⟨-, w⟩ | ⟨w1, -⟩
    · exact absurd w q2
    rcases hm with ⟨w, -⟩ | ⟨-, tm_, rm_, ⟨d3, d4⟩, rfl, rfl, rfl, rfl, rfl, rfl⟩
    · exact absurd w1 w
    exact ⟨h'.same b1 b2 b3 b4 b5 b6 b7 b8 b9 b10 b11 b12 b13, by rw [b14, d2, d4], by rw [b0, d1, d3]⟩
  rcases hc with ⟨-, r4, hr4, r6, hr6, hc⟩ | ⟨w, -⟩
  case inr => rw [q1] at w; exact absurd w (by decide)
  rcases isWeak_or hF (fun w => (h1 w).2.2.1) hr5 with ⟨w1, -⟩ | ⟨-, w⟩
  case inr => exact absurd ⟨q2, q3⟩ w
  rcases hm with ⟨-, z13, hz13, z16, hz16, z19, hz19, r22, hr22, hm⟩ | ⟨w, -⟩
  case inr => rw [w1] at w; exact absurd w (by decide)
  obtain ⟨w, hw⟩ : ∃ a : Nat, p0.toInt = a := ⟨p0.toInt.toNat, by omega⟩
  obtain ⟨⟨f6a, f6⟩, ⟨f8a, f8⟩, ⟨f10a, f10⟩, ⟨f12a, f12⟩⟩ := id hF
  have t13 : z13.toInt = (3 * w : Nat) := by rw [hz13, Int32.toInt_mul, o3, hw, Int.bmod_eq_of_le (by omega) (by omega)]; omega
  rw [addz (show (96 : Int32).toInt = (96 : Nat) by decide) t13 (by omega) hz16] at hz19
  have hrow := hS.2.2.2.1 w (by omega)
  rw [tbAt_in (by decide) (by decide) (by rw [o6]; omega) (by decide), show p0.toInt.toNat = w by omega, o3n, o0n, show w * 3 + 0 = 3 * w by omega, hrow.1, ← hz19] at hr4
  subst hr4
  obtain ⟨v1, v2⟩ := hW w (by omega)
  rw [← hz19] at v1 v2
  obtain ⟨ρ, hρ⟩ : ∃ a : Nat, r4.toInt = a := ⟨r4.toInt.toNat, by omega⟩
  have hre := hS.2.1 ρ (by omega)
  rcases weak_mended (n := zwn) ⟨q2, by rw [e10]; exact q3⟩ emd hr6 hr22 with ⟨g1, g2⟩ | ⟨g1, g2⟩
  · rcases hc with ⟨-, tr_, r_, ⟨d1, d2⟩, b0, b1, b2, b3, b4, b5, b6, b7, b8, b9, b10, b11, b12, b13, b14⟩ | ⟨w5, -⟩
    case inr => exact absurd g1 w5
    rcases hm with ⟨-, tm_, rm_, ⟨d3, d4⟩, rfl, rfl, rfl, rfl, rfl, rfl⟩ | ⟨w5, -⟩
    case inr => rw [g2] at w5; exact absurd w5 (by decide)
    exact ⟨h'.same b1 b2 b3 b4 b5 b6 b7 b8 b9 b10 b11 b12 b13, by rw [b14, d2, d4], by rw [b0, d1, d3]⟩
  rcases hc with ⟨w5, -⟩ | ⟨-, r13, hr13, hc⟩
  · rw [g1] at w5; exact absurd w5 (by decide)
  rcases hm with ⟨w5, -⟩ | ⟨-, z32, hz32, z35, hz35, hm⟩
  · exact absurd g2 w5
  have eρ : r4.toInt.toNat = ρ := by omega
  rw [tbAt_in (by decide) (by decide) (by rw [o8]; omega) (by decide), eρ, o3n, o0n, show ρ * 3 + 0 = 3 * ρ by omega, hre.1] at hr13
  have c32 : z32.toNatClampNeg = ρ := by rw [addz (x := 0) (by decide) hρ (by omega) hz32]; omega
  rw [c32] at hz35 hm
  have efr : r13 = z35 := by rw [hr13, hz35]
  rcases hc with ⟨q6, k1, n1, c1, hkp, xmd, xrg, xmg, xwg, hcut, r33, hr33, tr_, r_, ⟨d1, d2⟩, b0, b1, b2, b3, b4, b5, b6, b7, b8, b9, b10, b11, b12, b13, b14⟩ | ⟨q6, tr_, r_, ⟨d1, d2⟩, b0, b1, b2, b3, b4, b5, b6, b7, b8, b9, b10, b11, b12, b13, b14⟩
  case inr =>
    rcases hm with ⟨w5, -⟩ | ⟨-, tm_, rm_, ⟨d3, d4⟩, rfl, rfl, rfl, rfl, rfl, rfl⟩
    · rw [efr] at q6; exact absurd w5 q6
    exact ⟨h'.same b1 b2 b3 b4 b5 b6 b7 b8 b9 b10 b11 b12 b13, by rw [b14, d2, d4], by rw [b0, d1, d3]⟩
  rcases hm with ⟨-, u1, uu1, hnt, z44, hz44, z47, hz47, z48, hz48, z52, hz52, z55, hz55, r56, hr56, nn, hL⟩ | ⟨w5, -⟩
  case inr => rw [efr] at q6; exact absurd q6 w5
  have hK2 := K_keep hF hS hK hkp hnt
  rw [addz (show (28 : Int32).toInt = (28 : Nat) by decide) hw (by omega) hz44] at hz47
  have c52 : z52.toNatClampNeg = 8 + ρ := addz (show (8 : Int32).toInt = (8 : Nat) by decide) hρ (by omega) hz52
  rw [c52, upd_ne (by omega)] at hz55
  rw [c52] at hL
  obtain ⟨N8, hN8⟩ : ∃ a : Nat, (F 8).toInt = a := ⟨(F 8).toInt.toNat, by omega⟩
  obtain ⟨N10, hN10⟩ : ∃ a : Nat, (F 10).toInt = a := ⟨(F 10).toInt.toNat, by omega⟩
  obtain ⟨S3, ⟨nn2, hL2⟩, l1, l2⟩ := mend_L0 (S0 := upd (upd S ρ z48) (8 + ρ) r56) hN8 (by omega) nn _ 0 0 (by decide) (by omega) (fun k hk => by rw [if_neg (by omega)]) (fun i _ => rfl) hL
  obtain ⟨S4, ⟨z81, hz81, z82, hz82, z84, hz84, rfl, rfl, rfl, rfl, rfl, rfl⟩, l3, l4⟩ := mend_L1 (S0 := S3) hN10 (by omega) nn2 _ 0 0 (by decide) (by omega) (fun k hk => by rw [if_neg (by omega)]) (fun i _ => rfl) hL2
  unfold R_s_cutOutX at hcut
  obtain ⟨y1, hy1, y3, hy3, y5, hy5, y7, hy7, y9, hy9, y11, hy11, fa13, hfa13, y16, hy16, y18, hy18, fa20, hfa20, g23, hg23, g26, hg26, y29, hy29, y30, hy30, m1, m2, m3, m4⟩ := hcut
  rw [tbAt_in (by decide) (by decide) (by rw [o6]; omega) (by decide), show p0.toInt.toNat = w by omega, o3n, o0n, show w * 3 + 0 = 3 * w by omega, hrow.1, ← hz19] at hy1
  subst hy1
  rw [tbAt_in (by decide) (by decide) (by rw [o6]; omega) (by decide), show p0.toInt.toNat = w by omega, o3n, o1n, show w * 3 + 1 = 3 * w + 1 by omega, hrow.2.1, ← hz47] at hy3
  subst hy3
  rw [tbAt_in (by decide) (by decide) (by rw [o8]; omega) (by decide), eρ, o3n, o0n, show ρ * 3 + 0 = 3 * ρ by omega, hre.1, ← hz35] at hy5
  have e7 : y7 = r2 := by rw [hy7, hy5, hz48]
  have e9 : y9 = r2 - 1 := by rw [hy9, e7]
  have e11 : y11 = r2 := by rw [hy11, e9, m1p1]
  rw [tbPut_in (by decide) (by decide) (by rw [o8]; omega) (by decide), eρ, o3n, o0n, show ρ * 3 + 0 = 3 * ρ by omega, e11] at hfa13
  rw [tbAt_in (by decide) (by decide) (by rw [o8]; omega) (by decide), eρ, o3n, o1n, show ρ * 3 + 1 = 3 * ρ + 1 by omega, hfa13, upd_ne (by omega), hre.2.1, ← hz55] at hy16
  have e18 : y18 = r56 := by rw [so_sh hy18, sh_sh hr56, hy16, e9]
  rw [tbPut_in (by decide) (by decide) (by rw [o8]; omega) (by decide), eρ, o3n, o1n, show ρ * 3 + 1 = 3 * ρ + 1 by omega, e18, hfa13] at hfa20
  have p12 := pull12 (hS.1.2.1 ▸ hN8) (by omega) hg23
  have p6 := pull6 (e10 ▸ hN10) (by omega) hg26
  rw [e9] at p12 p6
  rw [m2, hfa20, tbAt_in (by decide) (by decide) (by rw [o8]; omega) (by decide), eρ, o3n, o0n, show ρ * 3 + 0 = 3 * ρ by omega, upd_ne (by omega), upd_at] at hr33
  refine ⟨⟨hF, ?_, by rw [b11, b12, b13]; exact hK2, h0, h1, h2⟩, by rw [b14, d2, hr33], by rw [b0, d1]⟩
  obtain ⟨⟨a1, a2, a3, a4, a5, a6⟩, g1', g2', g3', g4'⟩ := hS
  rw [b1, b2, b3, b4, b5, b6, b7, b8, b9, b10, n43, m1, m2, m3, m4]
  have lo : ∀ i : Nat, (i < 16 ∨ 34 ≤ i) → S4 i = upd (upd S ρ r2) (8 + ρ) r56 i := fun i hi => by rw [l4 i (by omega), l2 i (by omega)]
  refine ⟨⟨a1, a2, a3, a4, ?_, ?_⟩, fun k hk => ?_, fun k hk => ?_, fun k hk => ?_, fun k hk => ?_⟩
  · rw [upd_at, hz84, hz81, n43, lo 43 (by first | decide | omega), upd_ne (by omega), upd_ne (by omega), hz82, hy30, hy29, a5]
  · rw [upd_ne (by omega), lo 42 (by first | decide | omega), upd_ne (by omega), upd_ne (by omega)]; exact a6
  · rw [upd_ne (by omega), upd_ne (by omega), lo k (by omega), lo (8 + k) (by omega), hfa20, upd_ne (show k ≠ 8 + ρ by omega)]
    by_cases e : k = ρ
    · subst e
      rw [upd_ne (by omega), upd_at, upd_at, upd_at, upd_at, upd_ne (by omega), upd_ne (by omega)]
      exact ⟨rfl, rfl, (g1' k hk).2.2⟩
    · rw [upd_ne (by omega), upd_ne (by omega), upd_ne (by omega), upd_ne (by omega), upd_ne (by omega), upd_ne (by omega), upd_ne (by omega), upd_ne (by omega), upd_ne (by omega)]
      exact g1' k hk
  · obtain ⟨c1', c2', c3'⟩ := p12 k
    obtain ⟨j1, j2, j3⟩ := g2' k hk
    rw [upd_ne (by omega), l4 _ (by omega), l1 k (by omega), c1', c2', c3', j1, j2, j3, upd_ne (by omega), upd_ne (by omega)]
    exact ⟨rfl, rfl, rfl⟩
  · obtain ⟨c1', c2', c3'⟩ := p6 k
    obtain ⟨j1, j2, j3⟩ := g3' k hk
    rw [upd_ne (by omega), l3 k (by omega), l2 _ (by omega), c1', c2', c3', j1, j2, j3, upd_ne (by omega), upd_ne (by omega)]
    exact ⟨rfl, rfl, rfl⟩
  · rw [upd_ne (by omega), lo _ (by omega), upd_ne (by omega), upd_ne (by omega)]; exact g4' k hk
