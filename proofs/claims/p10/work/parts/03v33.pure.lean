set_option maxRecDepth 100000
set_option maxHeartbeats 4000000
/-! what the acts keep: between what the State's numbers lie (SB), of the State, of undo's rows and of the images; nothing without a house -/
def SB (F S : Nat → Int32) : Prop :=
  (∀ k : Nat, (k : Int) < (F 6).toInt → IV (S k) 2 2000 ∧ 0 ≤ (S (8 + k)).toInt ∧ (S (8 + k)).toInt < (S k).toInt) ∧
  (∀ k : Nat, (k : Int) < (F 8).toInt → 0 ≤ (S (16 + k)).toInt ∧ (S (16 + k)).toInt < (S (F (44 + 3 * k)).toInt.toNat).toInt) ∧
  (∀ k : Nat, (k : Int) < (F 10).toInt → 0 ≤ (S (28 + k)).toInt ∧ (S (28 + k)).toInt < (S (F (96 + 3 * k)).toInt.toNat).toInt) ∧
  (∀ k : Nat, (k : Int) < (F 12).toInt → IV (S (34 + k)) 0 199) ∧ IV (S 42) 0 255 ∧ IV (S 43) 0 63
theorem SB.row {F S S2 : Nat → Int32} (hF : FB F) (hR : RV0 F) (h : SB F S) (e : ∀ i : Nat, i < 44 → S2 i = S i) : SB F S2 := by
  obtain ⟨h1, h2, h3, h4, h5, h6⟩ := h
  obtain ⟨c1, c2, c3, c4, c5, c6, c7⟩ := hR
  obtain ⟨⟨-, b1⟩, ⟨-, b2⟩, ⟨-, b3⟩, ⟨-, b4⟩⟩ := hF
  refine ⟨fun k hk => ?_, fun k hk => ?_, fun k hk => ?_, fun k hk => ?_, by rw [e 42 (by first | decide | omega)]; exact h5, by rw [e 43 (by first | decide | omega)]; exact h6⟩
  · rw [e k (by omega), e (8 + k) (by omega)]; exact h1 k hk
  · have r1 := c1 k hk
    unfold Lt at r1
    rw [e (16 + k) (by omega), e _ (by omega)]; exact h2 k hk
  · have r1 := c4 k hk
    unfold Lt at r1
    rw [e (28 + k) (by omega), e _ (by omega)]; exact h3 k hk
  · rw [e (34 + k) (by omega)]; exact h4 k hk
def KB (F U : Nat → Int32) (n : Int32) : Prop := ∀ i : Nat, (i : Int) < n.toInt → SB F (fun j => U (44 * i + j))
/-- of the reference alone: the State, undo's rows, the images; all is 0 without a house -/
def SK (F S U X : Nat → Int32) (un im hh : Int32) : Prop := SB F S ∧ KB F U un ∧ KB F X im ∧ IV un 0 12 ∧ IV im 0 3 ∧ (hh = 0 → (∀ i : Nat, i < 167 → F i = 0) ∧ S 42 = 0 ∧ S 43 = 0 ∧ un = 0 ∧ im = 0)
theorem KB_note {F S U U2 : Nat → Int32} {un un2 : Int32} (hF : FB F) (hR : RV0 F) (hS : SB F S) (hU : KB F U un) (hi : IV un 0 12) (hm : R_m_noteX un S U U2 un2) : KB F U2 un2 ∧ IV un2 0 12 := by
  have o1 : (1 : Int32).toInt = 1 := by decide
  have o12 : (12 : Int32).toInt = 12 := by decide
  obtain ⟨a, ha⟩ : ∃ a : Nat, un.toInt = a := ⟨un.toInt.toNat, by have := hi.1; omega⟩
  rw [IV, ha] at hi
  unfold R_m_noteX at hm
  rcases hm with ⟨n12, z3, h3, f6, hcp2, z9, h9, rfl, rfl⟩ | ⟨y12, n0, hL⟩
  · have a12 : a ≠ 12 := fun q => n12 (Int32.toInt_inj.mp (by rw [ha, o12, q]; rfl))
    have t9 : un2.toInt = a + 1 := by rw [h9, Int32.toInt_add, ha, o1, Int.bmod_eq_of_le (by omega) (by omega)]
    obtain ⟨c1, c2⟩ := cpA (mul44 ha (by omega) h3) (by omega) hcp2
    refine ⟨fun i hi => ?_, by rw [IV, t9]; omega⟩
    by_cases q : i = a
    · subst q
      exact SB.row hF hR hS (fun j hj => c1 j hj)
    · exact SB.row hF hR (hU i (by omega)) (fun j hj => c2 _ (Or.inl (by omega)))
  · have a12 : a = 12 := by rw [y12, o12] at ha; omega
    subst a12
    obtain ⟨f3, ⟨z22, h22, z25, h25, f28, hcp2, z31, h31, rfl, rfl⟩, hs⟩ := note_L n0 U 0 0 (by decide) (by omega) (fun i hi => by omega) (fun i _ => rfl) hL
    have t22 : z22.toInt = (11 : Nat) := by rw [h22, Int32.toInt_sub, ha, o1, Int.bmod_eq_of_le (by omega) (by omega)]; rfl
    have t31 : un2.toInt = 12 := by rw [h31, Int32.toInt_add, t22, o1, Int.bmod_eq_of_le (by omega) (by omega)]; rfl
    obtain ⟨c1, c2⟩ := cpA (mul44 t22 (by omega) h25) (by omega) hcp2
    refine ⟨fun i hi => ?_, by rw [IV, t31]; omega⟩
    by_cases q : i = 11
    · subst q
      exact SB.row hF hR hS (fun j hj => c1 j hj)
    · refine SB.row hF hR (hU (i + 1) (by omega)) (fun j hj => ?_)
      show U2 (44 * i + j) = U (44 * (i + 1) + j)
      rw [c2 _ (Or.inl (by omega)), hs _ (by omega)]
      congr 1
      omega
theorem SK_threads {F S U X S2 U2 : Nat → Int32} {un im hh p0 p1 th tm un2 r : Int32} (hF : FB F) (hR : RV0 F) (h0 : hh = 0 → F 12 = 0) (h : SK F S U X un im hh) (hm : R_m_threadsX p0 p1 hh un F S U S2 th tm U2 un2 r) : SK F S2 U2 X un2 im hh := by
  have h' := h
  obtain ⟨hS, hU, hX, i1, i2, hz⟩ := h
  have o199 : (199 : Int32).toInt = 199 := by decide
  unfold R_m_threadsX R_m_goodX at hm
  obtain ⟨t1, t2, ⟨rfl, rfl⟩, r5, hr5, hm⟩ := hm
  rcases isPlace_or hF h0 hr5 with ⟨w1, w2, w3⟩ | ⟨w1, w2⟩
  · rcases hm with ⟨-, r14, hr14, hm⟩ | ⟨w, -⟩
    case inr => rw [w1] at w; exact absurd w (by decide)
    rcases hm with ⟨w, z, hz1, y, hy1, hm⟩ | ⟨-, tm_, rm_, ⟨d3, d4⟩, rfl, rfl, rfl, rfl, rfl, rfl⟩
    case inr => exact h'
    rcases in_or hr14 with ⟨g1, g2, g3⟩ | ⟨g1, g2⟩
    case inr => exact absurd g1 w
    rcases hm with ⟨-, u1, v1, hnt, rfl, rfl, rfl, rfl, rfl, rfl⟩ | ⟨-, tm_, rm_, ⟨d3, d4⟩, rfl, rfl, rfl, rfl, rfl, rfl⟩
    case inr => exact h'
    obtain ⟨k1, k2⟩ := KB_note hF hR hS hU i1 hnt
    have hh0 : hh ≠ 0 := fun q => by rw [h0 q, zI] at w3; omega
    refine ⟨?_, k1, hX, k2, i2, fun q => absurd q hh0⟩
    obtain ⟨k, rfl, hk⟩ := nI_oF w2
    obtain ⟨⟨-, b1⟩, ⟨-, b2⟩, ⟨-, b3⟩, ⟨-, b4⟩⟩ := hF
    rw [hk] at w3
    have ez : z.toNatClampNeg = 34 + k := by rw [hz1]; exact addz (by decide) hk (by omega) rfl
    rw [ez]
    obtain ⟨s1, s2, s3, s4, s5, s6⟩ := hS
    obtain ⟨c1, c2, c3, c4, c5, c6, c7⟩ := hR
    rw [zI] at g2
    rw [o199] at g3
    refine ⟨fun j hj => ?_, fun j hj => ?_, fun j hj => ?_, fun j hj => ?_, by rw [upd_ne (by omega)]; exact s5, by rw [upd_ne (by omega)]; exact s6⟩
    · rw [upd_ne (by omega), upd_ne (by omega)]; exact s1 j hj
    · have q := c1 j hj
      unfold Lt at q
      rw [upd_ne (by omega), upd_ne (by omega)]; exact s2 j hj
    · have q := c4 j hj
      unfold Lt at q
      rw [upd_ne (by omega), upd_ne (by omega)]; exact s3 j hj
    · by_cases e : j = k
      · subst e; rw [upd_at]; exact ⟨g2, g3⟩
      · rw [upd_ne (by omega)]; exact s4 j hj
  · rcases hm with ⟨w, -⟩ | ⟨-, tm_, rm_, ⟨d3, d4⟩, rfl, rfl, rfl, rfl, rfl, rfl⟩
    · exact absurd w1 w
    exact h'
theorem xor8 : ∀ a : Fin 256, ∀ k : Fin 8, 0 ≤ (nI a.1 ^^^ (1 : Int32) <<< (nI k.1 &&& 31)).toInt ∧ (nI a.1 ^^^ (1 : Int32) <<< (nI k.1 &&& 31)).toInt ≤ 255 := by decide +kernel
theorem or6 : ∀ a : Fin 64, ∀ k : Fin 6, 0 ≤ (nI a.1 ||| (1 : Int32) <<< (nI k.1 &&& 31)).toInt ∧ (nI a.1 ||| (1 : Int32) <<< (nI k.1 &&& 31)).toInt ≤ 63 := by decide +kernel
theorem SK_trim {F S U X S2 U2 : Nat → Int32} {un im hh p0 p1 th tm un2 r : Int32} (hF : FB F) (hR : RV0 F) (h0 : hh = 0 → F 12 = 0) (h : SK F S U X un im hh) (hm : R_m_trimX p0 p1 hh un F S U S2 th tm U2 un2 r) : SK F S2 U2 X un2 im hh := by
  have h' := h
  obtain ⟨hS, hU, hX, i1, i2, hz⟩ := h
  have n42 : (42 : Int32).toNatClampNeg = 42 := by decide
  unfold R_m_trimX R_m_goodX at hm
  obtain ⟨t1, t2, ⟨rfl, rfl⟩, r5, hr5, hm⟩ := hm
  rcases isPlace_or hF h0 hr5 with ⟨w1, w2, w3⟩ | ⟨w1, w2⟩
  · rcases hm with ⟨-, z14, hz14, r15, hr15, hm⟩ | ⟨w, -⟩
    case inr => rw [w1] at w; exact absurd w (by decide)
    rcases hm with ⟨-, u1, v1, hnt, z24, hz24, z26, hz26, rfl, rfl, rfl, rfl, rfl, rfl⟩ | ⟨-, tm_, rm_, ⟨d3, d4⟩, rfl, rfl, rfl, rfl, rfl, rfl⟩
    case inr => exact h'
    obtain ⟨k1, k2⟩ := KB_note hF hR hS hU i1 hnt
    have hh0 : hh ≠ 0 := fun q => by rw [h0 q, zI] at w3; omega
    refine ⟨?_, k1, hX, k2, i2, fun q => absurd q hh0⟩
    obtain ⟨k, rfl, hk⟩ := nI_oF w2
    obtain ⟨⟨-, b1⟩, ⟨-, b2⟩, ⟨-, b3⟩, ⟨-, b4⟩⟩ := hF
    rw [hk] at w3
    obtain ⟨s1, s2, s3, s4, s5, s6⟩ := hS
    obtain ⟨c1, c2, c3, c4, c5, c6, c7⟩ := hR
    rw [n42] at hz14
    obtain ⟨a, ea, la⟩ := ivN 255 s5
    have x8 := xor8 ⟨a, by omega⟩ ⟨k, by omega⟩
    rw [n42, hz26, hz24, hz14, ea]
    refine ⟨fun j hj => ?_, fun j hj => ?_, fun j hj => ?_, fun j hj => ?_, by rw [upd_at]; exact x8, by rw [upd_ne (by omega)]; exact s6⟩
    · rw [upd_ne (by omega), upd_ne (by omega)]; exact s1 j hj
    · have q := c1 j hj
      unfold Lt at q
      rw [upd_ne (by omega), upd_ne (by omega)]; exact s2 j hj
    · have q := c4 j hj
      unfold Lt at q
      rw [upd_ne (by omega), upd_ne (by omega)]; exact s3 j hj
    · rw [upd_ne (by omega)]; exact s4 j hj
  · rcases hm with ⟨w, -⟩ | ⟨-, tm_, rm_, ⟨d3, d4⟩, rfl, rfl, rfl, rfl, rfl, rfl⟩
    · exact absurd w1 w
    exact h'
theorem shF_b {x c l : Int32} (hx : 0 ≤ x.toInt) (hx2 : x.toInt ≤ 2000) (hl : 0 ≤ l.toInt) : 0 ≤ (shF x c l).toInt ∧ (shF x c l).toInt ≤ l.toInt := by
  have o2 : (2 : Int32).toInt = 2 := by decide
  have e : (x - 2).toInt = x.toInt - 2 := by rw [subI (by rw [o2]; omega) (by rw [o2]; omega), o2]
  unfold shF
  by_cases q1 : x < c
  · rw [if_pos q1]
    by_cases q2 : l < x
    · rw [if_pos q2]; omega
    · rw [if_neg q2]; rw [lt_I] at q2; omega
  · rw [if_neg q1]
    by_cases q3 : 0 < x - 2
    · rw [if_pos q3]
      rw [lt_I, zI, e] at q3
      by_cases q2 : l < x - 2
      · rw [if_pos q2]; omega
      · rw [if_neg q2]; rw [lt_I, e] at q2; rw [e]; omega
    · rw [if_neg q3]
      by_cases q2 : l < 0
      · rw [lt_I, zI] at q2; omega
      · rw [if_neg q2, zI]; omega
theorem SK_mend {F S U X S2 U2 : Nat → Int32} {un im hh p0 th tm un2 r : Int32} (hF : FB F) (hR : RV0 F) (h0 : hh = 0 → F 10 = 0) (h : SK F S U X un im hh) (hm : R_m_mendX p0 hh un F S U S2 th tm U2 un2 r) : SK F S2 U2 X un2 im hh := by
  have h' := h
  obtain ⟨hS, hU, hX, i1, i2, hz⟩ := h
  have n43 : (43 : Int32).toNatClampNeg = 43 := by decide
  have o3 : (3 : Int32).toInt = 3 := by decide
  have o6 : (6 : Int32).toInt = 6 := by decide
  have o2 : (2 : Int32).toInt = 2 := by decide
  unfold R_m_mendX R_m_goodX at hm
  obtain ⟨t1, t2, ⟨rfl, rfl⟩, r5, hr5, hm⟩ := hm
  rcases isWeak_or hF h0 hr5 with ⟨w1, w2, w3⟩ | ⟨w1, w2⟩
  case inr =>
    rcases hm with ⟨w, -⟩ | ⟨-, tm_, rm_, ⟨d3, d4⟩, rfl, rfl, rfl, rfl, rfl, rfl⟩
    · exact absurd w1 w
    exact h'
  rcases hm with ⟨-, z13, hz13, z16, hz16, z19, hz19, r22, hr22, hm⟩ | ⟨w, -⟩
  case inr => rw [w1] at w; exact absurd w (by decide)
  rcases hm with ⟨-, tm_, rm_, ⟨d3, d4⟩, rfl, rfl, rfl, rfl, rfl, rfl⟩ | ⟨-, z32, hz32, z35, hz35, hm⟩
  · exact h'
  rcases hm with ⟨q6, u1, uu1, hnt, z44, hz44, z47, hz47, z48, hz48, z52, hz52, z55, hz55, r56, hr56, nn, hL⟩ | ⟨-, tm_, rm_, ⟨d3, d4⟩, rfl, rfl, rfl, rfl, rfl, rfl⟩
  case inr => exact h'
  obtain ⟨k1, k2⟩ := KB_note hF hR hS hU i1 hnt
  have hh0 : hh ≠ 0 := fun q => by rw [h0 q, zI] at w3; omega
  obtain ⟨w, rfl, hw⟩ := nI_oF w2
  obtain ⟨⟨f6a, f6⟩, ⟨f8a, f8⟩, ⟨f10a, f10⟩, ⟨f12a, f12⟩⟩ := id hF
  rw [hw] at w3
  have t13 : z13.toInt = (3 * w : Nat) := by rw [hz13, Int32.toInt_mul, o3, hw, Int.bmod_eq_of_le (by omega) (by omega)]; omega
  rw [addz (show (96 : Int32).toInt = (96 : Nat) by decide) t13 (by omega) hz16] at hz19
  obtain ⟨c1, c2, c3, c4, c5, c6, c7⟩ := hR
  have rw1 := c4 w w3
  unfold Lt at rw1
  rw [← hz19] at rw1
  obtain ⟨ρ, hρ⟩ : ∃ a : Nat, z19.toInt = a := ⟨z19.toInt.toNat, by omega⟩
  have c32 : z32.toNatClampNeg = ρ := by rw [addz (x := 0) (by decide) hρ (by omega) hz32]; omega
  rw [c32] at hz35 hL
  rw [le_I, o6, hz35] at q6
  obtain ⟨s1, s2, s3, s4, s5, s6⟩ := hS
  obtain ⟨p1, p2, p3⟩ := s1 ρ (by omega)
  rw [IV] at p1
  have t48 : z48.toInt = (S ρ).toInt - 2 := by rw [hz48, hz35, subI (by rw [o2]; omega) (by rw [o2]; omega), o2]
  have c52 : z52.toNatClampNeg = 8 + ρ := addz (show (8 : Int32).toInt = (8 : Nat) by decide) hρ (by omega) hz52
  rw [c52, upd_ne (by omega)] at hz55
  rw [c52] at hL
  have t481 : (z48 - 1).toInt = (S ρ).toInt - 3 := by rw [subI (by rw [oneI]; omega) (by rw [oneI]; omega), oneI, t48]; omega
  have hr56b : 0 ≤ r56.toInt ∧ r56.toInt ≤ (z48 - 1).toInt := by
    rw [sh_sh hr56]
    exact shF_b (by rw [hz55]; omega) (by rw [hz55]; omega) (by omega)
  obtain ⟨N8, hN8⟩ : ∃ a : Nat, (F 8).toInt = a := ⟨(F 8).toInt.toNat, by omega⟩
  obtain ⟨N10, hN10⟩ : ∃ a : Nat, (F 10).toInt = a := ⟨(F 10).toInt.toNat, by omega⟩
  obtain ⟨S3, ⟨nn2, hL2⟩, l1, l2⟩ := mend_L0 (S0 := upd (upd S ρ z48) (8 + ρ) r56) hN8 (by omega) nn _ 0 0 (by decide) (by omega) (fun k hk => by rw [if_neg (by omega)]) (fun i _ => rfl) hL
  obtain ⟨S4, ⟨z81, hz81, z82, hz82, z84, hz84, rfl, rfl, rfl, rfl, rfl, rfl⟩, l3, l4⟩ := mend_L1 (S0 := S3) hN10 (by omega) nn2 _ 0 0 (by decide) (by omega) (fun k hk => by rw [if_neg (by omega)]) (fun i _ => rfl) hL2
  have lo : ∀ i : Nat, (i < 16 ∨ 34 ≤ i) → S4 i = upd (upd S ρ r) (8 + ρ) r56 i := fun i hi => by rw [l4 i (by omega), l2 i (by omega)]
  have fr : ∀ x : Nat, x < 8 → S4 x = (if x = ρ then r else S x) := fun x hx => by
    rw [lo x (by omega), upd_ne (by omega)]
    by_cases e : x = ρ
    · subst e; rw [upd_at, if_pos rfl]
    · rw [upd_ne e, if_neg e]
  refine ⟨?_, k1, hX, k2, i2, fun q => absurd q hh0⟩
  rw [n43]
  refine ⟨fun k hk => ?_, fun k hk => ?_, fun k hk => ?_, fun k hk => ?_, ?_, ?_⟩
  · rw [upd_ne (by omega), upd_ne (by omega), fr k (by omega), lo (8 + k) (by omega)]
    by_cases e : k = ρ
    · subst e
      rw [if_pos rfl, upd_at, IV]
      omega
    · rw [if_neg e, upd_ne (by omega), upd_ne (by omega)]
      exact s1 k hk
  · have q := c1 k hk
    unfold Lt at q
    obtain ⟨x, hx⟩ : ∃ a : Nat, (F (44 + 3 * k)).toInt = a := ⟨(F (44 + 3 * k)).toInt.toNat, by omega⟩
    have ex : (F (44 + 3 * k)).toInt.toNat = x := by omega
    have g := s2 k hk
    have gx := (s1 x (by omega)).1
    rw [IV] at gx
    rw [ex] at g
    rw [upd_ne (by omega), ex, upd_ne (by omega), fr x (by omega), l4 _ (by omega), l1 k (by omega), upd_ne (by omega), upd_ne (by omega)]
    by_cases e : x = ρ
    · have e2 : F (44 + 3 * k) = z19 := Int32.toInt_inj.mp (by rw [hx, hρ, e])
      rw [if_pos ⟨by omega, e2⟩, if_pos e]
      have := shF_b (x := S (16 + k)) (c := z47) (l := r - 1) g.1 (by omega) (by omega)
      omega
    · rw [if_neg (fun v => e (by have := congrArg Int32.toInt v.2; omega)), if_neg e]
      exact g
  · have q := c4 k hk
    unfold Lt at q
    obtain ⟨x, hx⟩ : ∃ a : Nat, (F (96 + 3 * k)).toInt = a := ⟨(F (96 + 3 * k)).toInt.toNat, by omega⟩
    have ex : (F (96 + 3 * k)).toInt.toNat = x := by omega
    have g := s3 k hk
    have gx := (s1 x (by omega)).1
    rw [IV] at gx
    rw [ex] at g
    rw [upd_ne (by omega), ex, upd_ne (by omega), fr x (by omega), l3 k (by omega), l2 _ (by omega), upd_ne (by omega), upd_ne (by omega)]
    by_cases e : x = ρ
    · have e2 : F (96 + 3 * k) = z19 := Int32.toInt_inj.mp (by rw [hx, hρ, e])
      rw [if_pos ⟨by omega, e2⟩, if_pos e]
      have := shF_b (x := S (28 + k)) (c := z47) (l := r - 1) g.1 (by omega) (by omega)
      omega
    · rw [if_neg (fun v => e (by have := congrArg Int32.toInt v.2; omega)), if_neg e]
      exact g
  · rw [upd_ne (by omega), lo _ (by omega), upd_ne (by omega), upd_ne (by omega)]; exact s4 k hk
  · rw [upd_ne (by omega), lo 42 (by first | decide | omega), upd_ne (by omega), upd_ne (by omega)]; exact s5
  · obtain ⟨a, ea, la⟩ := ivN 63 s6
    have x6 := or6 ⟨a, by omega⟩ ⟨w, by omega⟩
    rw [upd_at, hz84, hz82, hz81, n43, lo 43 (by first | decide | omega), upd_ne (by omega), upd_ne (by omega), ea]
    exact x6
theorem SK_undo {F S U X S2 : Nat → Int32} {un im hh th tm un2 r : Int32} (hF : FB F) (hR : RV0 F) (h : SK F S U X un im hh) (hm : R_m_undoX un S U S2 th tm un2 r) : SK F S2 U X un2 im hh := by
  have h' := h
  obtain ⟨hS, hU, hX, i1, i2, hz⟩ := h
  have o1 : (1 : Int32).toInt = 1 := by decide
  unfold R_m_undoX R_m_goodX at hm
  obtain ⟨t1, t2, ⟨rfl, rfl⟩, hm⟩ := hm
  rcases hm with ⟨q, w7, hw7, w10, hw10, g13, hg, rfl, rfl, rfl, rfl, rfl⟩ | ⟨-, tm_, rm_, ⟨d3, d4⟩, rfl, rfl, rfl, rfl, rfl⟩
  case inr => exact h'
  obtain ⟨a, ha⟩ : ∃ a : Nat, un.toInt = a := ⟨un.toInt.toNat, by have := i1.1; omega⟩
  have a0 : a ≠ 0 := fun e => q (Int32.toInt_inj.mp (by rw [ha, zI, e]; rfl))
  rw [IV, ha] at i1
  have t7 : un2.toInt = (a - 1 : Nat) := by rw [hw7, subI (by rw [oneI]; omega) (by rw [oneI]; omega), oneI, ha]; omega
  obtain ⟨v1, v2⟩ := cpB (mul44 t7 (by omega) hw10) (by omega) hg
  refine ⟨SB.row hF hR (hU (a - 1) (by omega)) (fun j hj => v1 j hj), fun i hi => hU i (by omega), hX, by rw [IV, t7]; omega, i2, fun e => ?_⟩
  exact absurd (hz e).2.2.2.1 q
theorem SK_image {F S U X X2 : Nat → Int32} {un im hh th tm im2 r : Int32} (hF : FB F) (hR : RV0 F) (h : SK F S U X un im hh) (hm : R_m_imageX hh im S X im2 X2 th tm r) : SK F S U X2 un im2 hh := by
  have h' := h
  obtain ⟨hS, hU, hX, i1, i2, hz⟩ := h
  have o1 : (1 : Int32).toInt = 1 := by decide
  have o3 : (3 : Int32).toInt = 3 := by decide
  unfold R_m_imageX R_m_goodX at hm
  obtain ⟨t1, t2, ⟨rfl, rfl⟩, hm⟩ := hm
  rcases hm with ⟨q0, hm⟩ | ⟨-, tm_, rm_, ⟨d3, d4⟩, rfl, rfl, rfl, rfl, rfl⟩
  case inr => exact h'
  rcases hm with ⟨q3, z, hz3, f, hcp, z9, h9, z10, h10, rfl, rfl, rfl, rfl, rfl⟩ | ⟨-, tm_, rm_, ⟨d3, d4⟩, rfl, rfl, rfl, rfl, rfl⟩
  case inr => exact h'
  obtain ⟨a, ha⟩ : ∃ a : Nat, im.toInt = a := ⟨im.toInt.toNat, by have := i2.1; omega⟩
  have a3 : a ≠ 3 := fun e => q3 (Int32.toInt_inj.mp (by rw [ha, o3, e]; rfl))
  rw [IV, ha] at i2
  have t9 : im2.toInt = a + 1 := by rw [h9, addI (by rw [oneI]; omega) (by rw [oneI]; omega), oneI, ha]
  obtain ⟨c1, c2⟩ := cpC (mul44 ha (by omega) hz3) (by omega) hcp
  refine ⟨hS, hU, fun i hi => ?_, i1, by rw [IV, t9]; omega, fun e => absurd e q0⟩
  by_cases q : i = a
  · subst q
    exact SB.row hF hR hS (fun j hj => c1 j hj)
  · exact SB.row hF hR (hX i (by omega)) (fun j hj => c2 _ (Or.inl (by omega)))
theorem SK_back {F S U X S2 : Nat → Int32} {un im hh p0 th tm un2 r : Int32} (hF : FB F) (hR : RV0 F) (h : SK F S U X un im hh) (hm : R_m_backX p0 un im S X S2 th tm un2 r) : SK F S2 U X un2 im hh := by
  have h' := h
  obtain ⟨hS, hU, hX, i1, i2, hz⟩ := h
  unfold R_m_backX R_m_goodX at hm
  obtain ⟨t1, t2, ⟨rfl, rfl⟩, z5, hz5, r8, hr8, hm⟩ := hm
  rcases hm with ⟨q, w22, hw22, g25, hg, rfl, rfl, rfl, rfl, rfl⟩ | ⟨-, tm_, rm_, ⟨d3, d4⟩, rfl, rfl, rfl, rfl, rfl⟩
  case inr => exact h'
  have t5 : z5.toInt = im.toInt - 1 := by
    rw [IV] at i2
    rw [hz5, subI (by rw [oneI]; omega) (by rw [oneI]; omega), oneI]
  rcases in_or hr8 with ⟨g1, g2, g3⟩ | ⟨g1, g2⟩
  case inr => exact absurd g1 q
  rw [zI] at g2
  obtain ⟨m, hm3⟩ : ∃ a : Nat, p0.toInt = a := ⟨p0.toInt.toNat, by omega⟩
  have i2' := i2
  rw [IV] at i2'
  obtain ⟨v1, v2⟩ := cpD (mul44 hm3 (by omega) hw22) (by omega) hg
  refine ⟨SB.row hF hR (hX m (by omega)) (fun j hj => v1 j hj), fun i hi => by rw [zI] at hi; omega, hX, by decide, i2, fun e => ?_⟩
  obtain ⟨y1, y2, y3, y4, y5⟩ := hz e
  rw [y5, zI] at t5
  omega
/-- a house that is read -/
theorem SK_house {F S U X : Nat → Int32} (hF : FB F) (hV : VB F) (hR : RV0 F) (hs : StF F S) : SK F S U X 0 0 1 := by
  obtain ⟨g1, g2, g3, g4, g5, g6⟩ := hs
  obtain ⟨⟨a0, a1, a2, a3, a4, a5⟩, -, v1, v2, v3, v4, v5, v6, v8, v9, vU⟩ := hV
  obtain ⟨c1, c2, c3, c4, c5, c6, c7⟩ := hR
  refine ⟨⟨fun k hk => ?_, fun k hk => ?_, fun k hk => ?_, fun k hk => ?_, by rw [g5]; decide, by rw [g6]; decide⟩, fun i hi => by rw [zI] at hi; omega, fun i hi => by rw [zI] at hi; omega, by decide, by decide, fun e => absurd e (by decide)⟩
  · have q := v1 k hk
    unfold VRe at q
    rw [(g1 k hk).1, (g1 k hk).2]
    exact ⟨q.1, q.2.1, q.2.2.1⟩
  · have q := v3 k hk
    unfold VFr at q
    have r1 := c1 k hk
    unfold Lt at r1
    rw [g2 k hk, (g1 _ (by omega)).1]
    exact q
  · have q := (v5 k hk).1
    unfold VFr at q
    have r1 := c4 k hk
    unfold Lt at r1
    rw [g3 k hk, (g1 _ (by omega)).1]
    exact q
  · rw [g4 k hk, IV]
    rw [IV] at a2
    omega
theorem SB.cgF {F G S : Nat → Int32} (e : ∀ i : Nat, i < 167 → G i = F i) (hb : (F 8).toInt ≤ 12 ∧ (F 10).toInt ≤ 6) (h : SB F S) : SB G S := by
  obtain ⟨h1, h2, h3, h4, h5, h6⟩ := h
  obtain ⟨b2, b3⟩ := hb
  refine ⟨fun k hk => ?_, fun k hk => ?_, fun k hk => ?_, fun k hk => ?_, h5, h6⟩
  · rw [e 6 (by first | decide | omega)] at hk; exact h1 k hk
  · rw [e 8 (by first | decide | omega)] at hk; rw [e (44 + 3 * k) (by omega)]; exact h2 k hk
  · rw [e 10 (by first | decide | omega)] at hk; rw [e (96 + 3 * k) (by omega)]; exact h3 k hk
  · rw [e 12 (by first | decide | omega)] at hk; exact h4 k hk
theorem SK_0 : SK (fun _ => 0) (fun _ => 0) (fun _ => 0) (fun _ => 0) 0 0 0 := by
  have no : ∀ k : Nat, ¬ (k : Int) < (0 : Int32).toInt := fun k => by rw [zI]; omega
  exact ⟨⟨fun k hk => (no k hk).elim, fun k hk => (no k hk).elim, fun k hk => (no k hk).elim, fun k hk => (no k hk).elim, by decide, by decide⟩, fun i hi => (no i hi).elim, fun i hi => (no i hi).elim, by decide, by decide, fun _ => ⟨fun _ _ => rfl, rfl, rfl, rfl, rfl⟩⟩
theorem SK.cgF {F G S U X : Nat → Int32} (e : ∀ i : Nat, i < 167 → G i = F i) (hR : RV0 F) (hb : (F 8).toInt ≤ 12 ∧ (F 10).toInt ≤ 6) (h : SK F S U X 0 0 1) : SK G S U X 0 0 1 := by
  have no : ∀ k : Nat, ¬ (k : Int) < (0 : Int32).toInt := fun k => by rw [zI]; omega
  obtain ⟨h1, -, -, i1, i2, -⟩ := h
  refine ⟨?_, fun i hi => (no i hi).elim, fun i hi => (no i hi).elim, i1, i2, fun q => absurd q (by decide)⟩
  exact SB.cgF e hb h1
