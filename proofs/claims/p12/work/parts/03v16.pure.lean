set_option maxRecDepth 100000
set_option maxHeartbeats 4000000
theorem XF_l {T : Nat → Int32} {n fn fp r fn2 fp2 kd2 sta2 po2 va2 : Int32} {le2 : Int64} {H : (Nat → Int32) → Prop} {e : Int32 × Int32} (h : XF T n (.inl e) fn fp r fn2 fp2 kd2 sta2 po2 va2 le2 H) : r = 0 ∧ fn2 = e.1 ∧ fp2 = e.2 := h
theorem XF_r {T : Nat → Int32} {n fn fp r fn2 fp2 kd2 sta2 po2 va2 : Int32} {le2 : Int64} {H : (Nat → Int32) → Prop} {v : (Nat → Int32) × Int32} (h : XF T n (.inr v) fn fp r fn2 fp2 kd2 sta2 po2 va2 le2 H) : r = 1 ∧ fn2 = fn ∧ fp2 = fp ∧ XS T n v.2 kd2 sta2 po2 va2 le2 ∧ H v.1 := h
theorem put6_0 {f : Nat → Int32} {v : Int32} : tbPut 1 6 f 0 0 v = upd f 0 v := by
  unfold tbPut
  rw [if_neg (by decide), show ((0 : Int32) * 6 + 0).toNatClampNeg = 0 by decide]
theorem put6_1 {f : Nat → Int32} {v : Int32} : tbPut 1 6 f 0 1 v = upd f 1 v := by
  unfold tbPut
  rw [if_neg (by decide), show ((0 : Int32) * 6 + 1).toNatClampNeg = 1 by decide]
theorem put6_2 {f : Nat → Int32} {v : Int32} : tbPut 1 6 f 0 2 v = upd f 2 v := by
  unfold tbPut
  rw [if_neg (by decide), show ((0 : Int32) * 6 + 2).toNatClampNeg = 2 by decide]
theorem put6_3 {f : Nat → Int32} {v : Int32} : tbPut 1 6 f 0 3 v = upd f 3 v := by
  unfold tbPut
  rw [if_neg (by decide), show ((0 : Int32) * 6 + 3).toNatClampNeg = 3 by decide]
theorem put6_4 {f : Nat → Int32} {v : Int32} : tbPut 1 6 f 0 4 v = upd f 4 v := by
  unfold tbPut
  rw [if_neg (by decide), show ((0 : Int32) * 6 + 4).toNatClampNeg = 4 by decide]
theorem put6_5 {f : Nat → Int32} {v : Int32} : tbPut 1 6 f 0 5 v = upd f 5 v := by
  unfold tbPut
  rw [if_neg (by decide), show ((0 : Int32) * 6 + 5).toNatClampNeg = 5 by decide]
theorem upd6 {f g : Nat → Int32} {x0 x1 x2 x3 x4 x5 : Int32} {j : Nat} (hj : j < 6) : (upd (upd (upd (upd (upd (upd f 0 x0) 1 x1) 2 x2) 3 x3) 4 x4) 5 x5) j = (upd (upd (upd (upd (upd (upd g 0 x0) 1 x1) 2 x2) 3 x3) 4 x4) 5 x5) j := by
  rcases (show j = 0 ∨ j = 1 ∨ j = 2 ∨ j = 3 ∨ j = 4 ∨ j = 5 by omega) with rfl | rfl | rfl | rfl | rfl | rfl
  · rw [upd_ne (by omega), upd_ne (by omega), upd_ne (by omega), upd_ne (by omega), upd_ne (by omega), upd_at, upd_ne (by omega), upd_ne (by omega), upd_ne (by omega), upd_ne (by omega), upd_ne (by omega), upd_at]
  · rw [upd_ne (by omega), upd_ne (by omega), upd_ne (by omega), upd_ne (by omega), upd_at, upd_ne (by omega), upd_ne (by omega), upd_ne (by omega), upd_ne (by omega), upd_at]
  · rw [upd_ne (by omega), upd_ne (by omega), upd_ne (by omega), upd_at, upd_ne (by omega), upd_ne (by omega), upd_ne (by omega), upd_at]
  · rw [upd_ne (by omega), upd_ne (by omega), upd_at, upd_ne (by omega), upd_ne (by omega), upd_at]
  · rw [upd_ne (by omega), upd_at, upd_ne (by omega), upd_at]
  · rw [upd_at, upd_at]
theorem HV_house {F G g qrf qmf qwf qpf qhnf qhtf qhjf qhmf qhbf qhsf qhcf : Nat → Int32} (z6 : F 6 = 0) (z7 : F 7 = 0) (z8 : F 8 = 0) (z9 : F 9 = 0) (z10 : F 10 = 0) (z11 : F 11 = 0) (z12 : F 12 = 0) (z13 : F 13 = 0) (z14 : F 14 = 0) (z134 : F 134 = 0) (K : ∀ i : Nat, 6 ≤ i → i ≠ 15 → G i = F i) (hN : ∀ j : Nat, j < 6 → g j = G j) : HV G qrf qmf qwf qpf g qhtf qhjf qhmf qhbf qhsf qhcf := ⟨TV_nil ((K 6 (by first | decide | omega) (by first | decide | omega)).trans z6), TV_nil ((K 8 (by first | decide | omega) (by first | decide | omega)).trans z8), TV_nil ((K 10 (by first | decide | omega) (by first | decide | omega)).trans z10), (fun k hk => by rw [((K 12 (by first | decide | omega) (by first | decide | omega)).trans z12), zI] at hk; omega), (fun _ j hj => hN j hj), TV_nil ((K 7 (by first | decide | omega) (by first | decide | omega)).trans z7), TV_nil ((K 9 (by first | decide | omega) (by first | decide | omega)).trans z9), (fun k hk => by rw [((K 11 (by first | decide | omega) (by first | decide | omega)).trans z11), zI] at hk; omega), (fun q => by rw [((K 134 (by first | decide | omega) (by first | decide | omega)).trans z134), zI] at q; exact absurd q (by decide)), TV_nil ((K 13 (by first | decide | omega) (by first | decide | omega)).trans z13), TV_nil ((K 14 (by first | decide | omega) (by first | decide | omega)).trans z14)⟩
theorem HRel_house {F G : Nat → Int32} {ndn qrn qmn qwn qpn qhnn qhtn qhjn qhmn qhbn qhsn qhcn : Int32} {nmf : Nat → Int64} {ndf qrf qmf qwf : Nat → Int32} (hH : HRel F ndn nmf ndf qrn qrf qmn qmf qwn qwf qpn qhnn qhtn qhjn qhmn qhbn qhsn qhcn) (K : ∀ i : Nat, 6 ≤ i → i ≠ 15 → G i = F i) (KX : G 15 = 1) : HRel G ndn nmf ndf qrn qrf qmn qmf qwn qwf qpn 1 qhtn qhjn qhmn qhbn qhsn qhcn := by
  refine exA14 hH ?_
  clear hH
  intro zc1 zc2 zc3 c12 cb cr cm cw cN cd f1 f2 f3 g1 g2
  refine exA1 zc1 ?_
  clear zc1
  intro a1 a2
  refine exA8 zc2 ?_
  clear zc2
  intro b1 b2 b3 b4 b5 b6 b7 b8 b9
  refine exA7 zc3 ?_
  clear zc3
  intro i6 i7 i8 i9 i10 i11 i13 i14
  have k6 := K 6 (by first | decide | omega) (by first | decide | omega)
  have k7 := K 7 (by first | decide | omega) (by first | decide | omega)
  have k8 := K 8 (by first | decide | omega) (by first | decide | omega)
  have k9 := K 9 (by first | decide | omega) (by first | decide | omega)
  have k10 := K 10 (by first | decide | omega) (by first | decide | omega)
  have k11 := K 11 (by first | decide | omega) (by first | decide | omega)
  have k12 := K 12 (by first | decide | omega) (by first | decide | omega)
  have k13 := K 13 (by first | decide | omega) (by first | decide | omega)
  have k14 := K 14 (by first | decide | omega) (by first | decide | omega)
  refine ⟨⟨KX.symm, Or.inr KX⟩, ⟨by rw [k6]; exact b1, by rw [k7]; exact b2, by rw [k8]; exact b3, by rw [k9]; exact b4, by rw [k10]; exact b5, by rw [k11]; exact b6, by rw [k12]; exact b7, by rw [k13]; exact b8, by rw [k14]; exact b9⟩, ⟨by rw [k6]; exact i6, by rw [k7]; exact i7, by rw [k8]; exact i8, by rw [k9]; exact i9, by rw [k10]; exact i10, by rw [k11]; exact i11, by rw [k13]; exact i13, by rw [k14]; exact i14⟩, by rw [k12]; exact c12, by rw [K 134 (by first | decide | omega) (by first | decide | omega)]; exact cb, ?_, ?_, ?_, NRel_hi cN (fun i q => K i (by omega) (by omega)), by rw [k6, k7, k11]; exact cd, ?_, ?_, ?_, fun q => absurd (KX.symm.trans q) one0, by rw [k12, k13]; exact g2⟩
  · intro k hk; rw [k6] at hk; rw [K _ (by omega) (by omega)]; exact cr k hk
  · intro k hk; rw [k8] at hk; rw [K _ (by omega) (by omega), K _ (by omega) (by omega)]; exact cm k hk
  · intro k hk; rw [k10] at hk; rw [K _ (by omega) (by omega), K _ (by omega) (by omega)]; exact cw k hk
  · intro j hj hj2; rw [k6] at hj2; rw [K _ (by omega) (by omega)]; exact f1 j hj hj2
  · intro j hj hj2; rw [k7] at hj2; rw [K _ (by omega) (by omega)]; exact f2 j hj hj2
  · intro j hj hj2; rw [k11] at hj2; rw [K _ (by omega) (by omega)]; exact f3 j hj hj2
theorem qx_isHouseLine {tp ndf qrf qmf qwf qpf qhnf qhtf qhjf qhmf qhbf qhsf qhcf ndg qrg qmg qwg qpg qhng qhtg qhjg qhmg qhbg qhsg qhcg F T : Nat → Int32} {nmf nmg : Nat → Int64} {le le2 : Int64} {fn fp n kd sta po va tk ta ndn qmd qtr qrn qmn qwn qpn qhnn qhtn qhjn qhmn qhbn qhsn qhcn fn2 fp2 kd2 sta2 po2 va2 tk2 ta2 ndk qrk qmk qwk qpk qmd2 qtr2 qhnk qhtk qhjk qhmk qhbk qhsk qhck r a : Int32} (hn : IV n 0 900) (ht : TpR tp T) (hH : HRel F ndn nmf ndf qrn qrf qmn qmf qwn qwf qpn qhnn qhtn qhjn qhmn qhbn qhsn qhcn) (hV : HV F qrf qmf qwf qpf qhnf qhtf qhjf qhmf qhbf qhsf qhcf) (hs : XS T n a kd sta po va le) (h : R_x_isHouseLineX fn fp n kd sta po va le tk ta tp nmf ndn ndf qmd qtr qrn qrf qmn qmf qwn qwf qpn qpf qhnn qhnf qhtn qhtf qhjn qhjf qhmn qhmf qhbn qhbf qhsn qhsf qhcn qhcf fn2 fp2 kd2 sta2 po2 va2 le2 tk2 ta2 nmg ndg ndk qrg qmg qwg qpg qrk qmk qwk qpk qmd2 qtr2 qhng qhtg qhjg qhmg qhbg qhsg qhcg qhnk qhtk qhjk qhmk qhbk qhsk qhck r) : XF T n (houseS F T n a) fn fp r fn2 fp2 kd2 sta2 po2 va2 le2 (fun G => HRel G ndk nmg ndg qrk qrg qmk qmg qwk qwg qpk qhnk qhtk qhjk qhmk qhbk qhsk qhck ∧ HV G qrg qmg qwg qpg qhng qhtg qhjg qhmg qhbg qhsg qhcg) := by
  have hH0 := hH
  refine exA14 hH ?_
  clear hH
  intro zc4 zc5 zc6 c12 cb cr cm cw cN cd f1' f2' f3' g1' g2'
  refine exA1 zc4 ?_
  clear zc4
  intro a1 a2
  refine exA8 zc5 ?_
  clear zc5
  intro b1 b2 b3 b4 b5 b6 b7 b8 b9
  refine exA7 zc6 ?_
  clear zc6
  intro i6 i7 i8 i9 i10 i11 i13 i14
  have e8 : (8 : Int32).toInt = 8 := by decide
  have e6 : (6 : Int32).toInt = 6 := by decide
  unfold R_x_isHouseLineX at h
  rcases a2 with z15 | z15
  case inr =>
    rcases h with ⟨q, -⟩ | ⟨-, h⟩
    · rw [a1, z15] at q; exact absurd q (by decide)
    · obtain ⟨f, p, r2, ⟨b1', b2', b3'⟩, h⟩ := h
      have l1 := h.1
      have l2 := h.2.1
      have l37 := h.2.2.2.2.2.2.2.2.2.2.2.2.2.2.2.2.2.2.2.2.2.2.2.2.2.2.2.2.2.2.2.2.2.2.2.2
      obtain ⟨s1, s2, s3⟩ := hs
      simp only [houseS, if_pos z15]
      exact ⟨by rw [l37, b3'], by rw [l1, b1'], by rw [l2, b2', s1]⟩
  have n15 : ¬ F 15 = 1 := by rw [z15]; decide
  rcases h with ⟨-, h⟩ | ⟨q, -⟩
  case inr => rw [a1, z15] at q; exact absurd (by decide) q
  refine exE5 h ?_
  clear h
  intro k0 s0 p0 v0 l0 hx0 h
  have xs0 := x_next_at hn ht hs hx0
  refine exE34 h ?_
  clear h
  intro fn2_1 fp2_1 kd2_1 sta2_1 po2_1 va2_1 le2_1 tk2_1 ta2_1 qrg_1 qmg_1 qwg_1 qpg_1 qrk_1 qmk_1 qwk_1 qpk_1 qmd2_1 qtr2_1 qhng_1 qhtg_1 qhjg_1 qhmg_1 qhbg_1 qhsg_1 qhcg_1 qhnk_1 qhtk_1 qhjk_1 qhmk_1 qhbk_1 qhsk_1 qhck_1 r_1 hh1 h
  have m1 := qx_number hn ht wok_apart xs0 hh1
  cases hc1 : aftS T n "apart" 1 50 (nx T n a) with
  | inl e =>
    rw [hc1, bnd_l] at m1
    refine exA2 (XF_l m1) ?_
    intro x1 x2 x3
    first | replace h := pf1 h x1 | replace h := pf2 h x1
    have l1 := h.1
    have l2 := h.2.1
    have l37 := h.2.2.2.2.2.2.2.2.2.2.2.2.2.2.2.2.2.2.2.2.2.2.2.2.2.2.2.2.2.2.2.2.2.2.2.2
    simp only [houseS, if_neg n15, hc1, bnd]
    exact ⟨(by first | exact l37 | rw [l37, x1]), by rw [l1, x2], by rw [l2, x3]⟩
  | inr w1 =>
    rw [hc1, bnd_r] at m1
    refine exA4 (XF_r m1) ?_
    intro x1 yf1 yg1 xs1 yH1
    obtain ⟨q0_1, q1_1, q2_1, q3_1, q4_1, q5_1, q6_1, q7_1, q8_1, q9_1, q10_1, q11_1, q12_1, q13_1, q14_1, q15_1, q16_1, q17_1, q18_1, q19_1, q20_1, qn_1⟩ := yH1
    first | replace h := pk1 h x1 | replace h := pk2 h x1
    refine exE34 h ?_
    clear h
    intro fn2_2 fp2_2 kd2_2 sta2_2 po2_2 va2_2 le2_2 tk2_2 ta2_2 qrg_2 qmg_2 qwg_2 qpg_2 qrk_2 qmk_2 qwk_2 qpk_2 qmd2_2 qtr2_2 qhng_2 qhtg_2 qhjg_2 qhmg_2 qhbg_2 qhsg_2 qhcg_2 qhnk_2 qhtk_2 qhjk_2 qhmk_2 qhbk_2 qhsk_2 qhck_2 r_2 hh2 h
    have m2 := qx_number hn ht wok_motor xs1 hh2
    cases hc2 : aftS T n "motor" 0 50 w1.2 with
    | inl e =>
      rw [hc2, bnd_l] at m2
      refine exA2 (XF_l m2) ?_
      intro x1 x2 x3
      first | replace h := pf1 h x1 | replace h := pf2 h x1
      have l1 := h.1
      have l2 := h.2.1
      have l37 := h.2.2.2.2.2.2.2.2.2.2.2.2.2.2.2.2.2.2.2.2.2.2.2.2.2.2.2.2.2.2.2.2.2.2.2.2
      simp only [houseS, if_neg n15, hc1, hc2, bnd]
      exact ⟨(by first | exact l37 | rw [l37, x1]), by rw [l1, x2], by rw [l2, x3]⟩
    | inr w2 =>
      rw [hc2, bnd_r] at m2
      refine exA4 (XF_r m2) ?_
      intro x1 yf2 yg2 xs2 yH2
      obtain ⟨q0_2, q1_2, q2_2, q3_2, q4_2, q5_2, q6_2, q7_2, q8_2, q9_2, q10_2, q11_2, q12_2, q13_2, q14_2, q15_2, q16_2, q17_2, q18_2, q19_2, q20_2, qn_2⟩ := yH2
      first | replace h := pk1 h x1 | replace h := pk2 h x1
      refine exE34 h ?_
      clear h
      intro fn2_3 fp2_3 kd2_3 sta2_3 po2_3 va2_3 le2_3 tk2_3 ta2_3 qrg_3 qmg_3 qwg_3 qpg_3 qrk_3 qmk_3 qwk_3 qpk_3 qmd2_3 qtr2_3 qhng_3 qhtg_3 qhjg_3 qhmg_3 qhbg_3 qhsg_3 qhcg_3 qhnk_3 qhtk_3 qhjk_3 qhmk_3 qhbk_3 qhsk_3 qhck_3 r_3 hh3 h
      have m3 := qx_number hn ht wok_leader xs2 hh3
      cases hc3 : aftS T n "leader" 0 99 w2.2 with
      | inl e =>
        rw [hc3, bnd_l] at m3
        refine exA2 (XF_l m3) ?_
        intro x1 x2 x3
        first | replace h := pf1 h x1 | replace h := pf2 h x1
        have l1 := h.1
        have l2 := h.2.1
        have l37 := h.2.2.2.2.2.2.2.2.2.2.2.2.2.2.2.2.2.2.2.2.2.2.2.2.2.2.2.2.2.2.2.2.2.2.2.2
        simp only [houseS, if_neg n15, hc1, hc2, hc3, bnd]
        exact ⟨(by first | exact l37 | rw [l37, x1]), by rw [l1, x2], by rw [l2, x3]⟩
      | inr w3 =>
        rw [hc3, bnd_r] at m3
        refine exA4 (XF_r m3) ?_
        intro x1 yf3 yg3 xs3 yH3
        obtain ⟨q0_3, q1_3, q2_3, q3_3, q4_3, q5_3, q6_3, q7_3, q8_3, q9_3, q10_3, q11_3, q12_3, q13_3, q14_3, q15_3, q16_3, q17_3, q18_3, q19_3, q20_3, qn_3⟩ := yH3
        first | replace h := pk1 h x1 | replace h := pk2 h x1
        refine exE34 h ?_
        clear h
        intro fn2_4 fp2_4 kd2_4 sta2_4 po2_4 va2_4 le2_4 tk2_4 ta2_4 qrg_4 qmg_4 qwg_4 qpg_4 qrk_4 qmk_4 qwk_4 qpk_4 qmd2_4 qtr2_4 qhng_4 qhtg_4 qhjg_4 qhmg_4 qhbg_4 qhsg_4 qhcg_4 qhnk_4 qhtk_4 qhjk_4 qhmk_4 qhbk_4 qhsk_4 qhck_4 r_4 hh4 h
        have m4 := qx_number hn ht wok_burns xs3 hh4
        cases hc4 : aftS T n "burns" 1 9999 w3.2 with
        | inl e =>
          rw [hc4, bnd_l] at m4
          refine exA2 (XF_l m4) ?_
          intro x1 x2 x3
          first | replace h := pf1 h x1 | replace h := pf2 h x1
          have l1 := h.1
          have l2 := h.2.1
          have l37 := h.2.2.2.2.2.2.2.2.2.2.2.2.2.2.2.2.2.2.2.2.2.2.2.2.2.2.2.2.2.2.2.2.2.2.2.2
          simp only [houseS, if_neg n15, hc1, hc2, hc3, hc4, bnd]
          exact ⟨(by first | exact l37 | rw [l37, x1]), by rw [l1, x2], by rw [l2, x3]⟩
        | inr w4 =>
          rw [hc4, bnd_r] at m4
          refine exA4 (XF_r m4) ?_
          intro x1 yf4 yg4 xs4 yH4
          obtain ⟨q0_4, q1_4, q2_4, q3_4, q4_4, q5_4, q6_4, q7_4, q8_4, q9_4, q10_4, q11_4, q12_4, q13_4, q14_4, q15_4, q16_4, q17_4, q18_4, q19_4, q20_4, qn_4⟩ := yH4
          first | replace h := pk1 h x1 | replace h := pk2 h x1
          refine exE34 h ?_
          clear h
          intro fn2_5 fp2_5 kd2_5 sta2_5 po2_5 va2_5 le2_5 tk2_5 ta2_5 qrg_5 qmg_5 qwg_5 qpg_5 qrk_5 qmk_5 qwk_5 qpk_5 qmd2_5 qtr2_5 qhng_5 qhtg_5 qhjg_5 qhmg_5 qhbg_5 qhsg_5 qhcg_5 qhnk_5 qhtk_5 qhjk_5 qhmk_5 qhbk_5 qhsk_5 qhck_5 r_5 hh5 h
          have m5 := qx_number hn ht wok_trim xs4 hh5
          cases hc5 : aftS T n "trim" 0 999 w4.2 with
          | inl e =>
            rw [hc5, bnd_l] at m5
            refine exA2 (XF_l m5) ?_
            intro x1 x2 x3
            first | replace h := pf1 h x1 | replace h := pf2 h x1
            have l1 := h.1
            have l2 := h.2.1
            have l37 := h.2.2.2.2.2.2.2.2.2.2.2.2.2.2.2.2.2.2.2.2.2.2.2.2.2.2.2.2.2.2.2.2.2.2.2.2
            simp only [houseS, if_neg n15, hc1, hc2, hc3, hc4, hc5, bnd]
            exact ⟨(by first | exact l37 | rw [l37, x1]), by rw [l1, x2], by rw [l2, x3]⟩
          | inr w5 =>
            rw [hc5, bnd_r] at m5
            refine exA4 (XF_r m5) ?_
            intro x1 yf5 yg5 xs5 yH5
            obtain ⟨q0_5, q1_5, q2_5, q3_5, q4_5, q5_5, q6_5, q7_5, q8_5, q9_5, q10_5, q11_5, q12_5, q13_5, q14_5, q15_5, q16_5, q17_5, q18_5, q19_5, q20_5, qn_5⟩ := yH5
            first | replace h := pk1 h x1 | replace h := pk2 h x1
            refine exE34 h ?_
            clear h
            intro fn2_6 fp2_6 kd2_6 sta2_6 po2_6 va2_6 le2_6 tk2_6 ta2_6 qrg_6 qmg_6 qwg_6 qpg_6 qrk_6 qmk_6 qwk_6 qpk_6 qmd2_6 qtr2_6 qhng_6 qhtg_6 qhjg_6 qhmg_6 qhbg_6 qhsg_6 qhcg_6 qhnk_6 qhtk_6 qhjk_6 qhmk_6 qhbk_6 qhsk_6 qhck_6 r_6 hh6 h
            have m6 := qx_number hn ht wok_mend xs5 hh6
            cases hc6 : aftS T n "mend" 0 999 w5.2 with
            | inl e =>
              rw [hc6, bnd_l] at m6
              refine exA2 (XF_l m6) ?_
              intro x1 x2 x3
              first | replace h := pf1 h x1 | replace h := pf2 h x1
              have l1 := h.1
              have l2 := h.2.1
              have l37 := h.2.2.2.2.2.2.2.2.2.2.2.2.2.2.2.2.2.2.2.2.2.2.2.2.2.2.2.2.2.2.2.2.2.2.2.2
              simp only [houseS, if_neg n15, hc1, hc2, hc3, hc4, hc5, hc6, bnd]
              exact ⟨(by first | exact l37 | rw [l37, x1]), by rw [l1, x2], by rw [l2, x3]⟩
            | inr w6 =>
              rw [hc6, bnd_r] at m6
              refine exA4 (XF_r m6) ?_
              intro x1 yf6 yg6 xs6 yH6
              obtain ⟨q0_6, q1_6, q2_6, q3_6, q4_6, q5_6, q6_6, q7_6, q8_6, q9_6, q10_6, q11_6, q12_6, q13_6, q14_6, q15_6, q16_6, q17_6, q18_6, q19_6, q20_6, qn_6⟩ := yH6
              first | replace h := pk1 h x1 | replace h := pk2 h x1 | skip
              refine exA36 h ?_
              intro l1 l2 l3 l4 l5 l6 l7 l8 l9 l10 l11 l12 l13 l14 l15 l16 l17 l18 l19 l20 l21 l22 l23 l24 l25 l26 l27 l28 l29 l30 l31 l32 l33 l34 l35 l36 l37
              simp only [houseS, if_neg n15, hc1, hc2, hc3, hc4, hc5, hc6, bnd]
              subst l3 l4 l5 l6 l7
              refine ⟨(by first | exact l37 | rw [l37, x1]), by rw [l1, yf6, yf5, yf4, yf3, yf2, yf1], by rw [l2, yg6, yg5, yg4, yg3, yg2, yg1], xs6, ?_⟩
              have K : ∀ i : Nat, 6 ≤ i → i ≠ 15 → (upd (upd (upd (upd (upd (upd (upd F 0 w1.1) 1 w2.1) 2 w3.1) 3 w4.1) 4 w5.1) 5 w6.1) 15 1) i = F i := by
                intro i q1 q2
                rw [upd_ne q2, upd_ne (by omega), upd_ne (by omega), upd_ne (by omega), upd_ne (by omega), upd_ne (by omega), upd_ne (by omega)]
              have KX : (upd (upd (upd (upd (upd (upd (upd F 0 w1.1) 1 w2.1) 2 w3.1) 3 w4.1) 4 w5.1) 5 w6.1) 15 1) 15 = 1 := upd_at
              have hN : ∀ j : Nat, j < 6 → qhng_6 j = (upd (upd (upd (upd (upd (upd (upd F 0 w1.1) 1 w2.1) 2 w3.1) 3 w4.1) 4 w5.1) 5 w6.1) 15 1) j := by
                intro j hj
                rw [qn_6, qn_5, qn_4, qn_3, qn_2, qn_1, put6_0, put6_1, put6_2, put6_3, put6_4, put6_5, upd_ne (show j ≠ 15 by omega)]
                exact upd6 hj
              generalize (upd (upd (upd (upd (upd (upd (upd F 0 w1.1) 1 w2.1) 2 w3.1) 3 w4.1) 4 w5.1) 5 w6.1) 15 1) = G at *
              dsimp only
              have hF := HRel_house hH0 K KX
              obtain ⟨z6, z7, z8, z9, z10, z11, z12, z13, z14, z134⟩ := g1' z15
              have hW := HV_house (qhnf := qhnf) (qrf := qrf) (qmf := qmf) (qwf := qwf) (qpf := qpf) (qhtf := qhtf) (qhjf := qhjf) (qhmf := qhmf) (qhbf := qhbf) (qhsf := qhsf) (qhcf := qhcf) z6 z7 z8 z9 z10 z11 z12 z13 z14 z134 K hN
              rw [l10, l11, l12, l13, l14, l15, l16, l17, l18, l19, l20, l23, l24, l25, l26, l27, l28, l29, l30, l31, l32, l33, l34, l35, l36]
              rw [q0_6, q0_5, q0_4, q0_3, q0_2, q0_1]
              rw [q1_6, q1_5, q1_4, q1_3, q1_2, q1_1]
              rw [q2_6, q2_5, q2_4, q2_3, q2_2, q2_1]
              rw [q3_6, q3_5, q3_4, q3_3, q3_2, q3_1]
              rw [q4_6, q4_5, q4_4, q4_3, q4_2, q4_1]
              rw [q5_6, q5_5, q5_4, q5_3, q5_2, q5_1]
              rw [q6_6, q6_5, q6_4, q6_3, q6_2, q6_1]
              rw [q7_6, q7_5, q7_4, q7_3, q7_2, q7_1]
              rw [q8_6, q8_5, q8_4, q8_3, q8_2, q8_1]
              rw [q9_6, q9_5, q9_4, q9_3, q9_2, q9_1]
              rw [q10_6, q10_5, q10_4, q10_3, q10_2, q10_1]
              rw [q11_6, q11_5, q11_4, q11_3, q11_2, q11_1]
              rw [q12_6, q12_5, q12_4, q12_3, q12_2, q12_1]
              rw [q13_6, q13_5, q13_4, q13_3, q13_2, q13_1]
              rw [q14_6, q14_5, q14_4, q14_3, q14_2, q14_1]
              rw [q15_6, q15_5, q15_4, q15_3, q15_2, q15_1]
              rw [q16_6, q16_5, q16_4, q16_3, q16_2, q16_1]
              rw [q17_6, q17_5, q17_4, q17_3, q17_2, q17_1]
              rw [q18_6, q18_5, q18_4, q18_3, q18_2, q18_1]
              rw [q19_6, q19_5, q19_4, q19_3, q19_2, q19_1]
              rw [q20_6, q20_5, q20_4, q20_3, q20_2, q20_1]
              exact ⟨hF, hW⟩

theorem show_k0 {tp ndf qrf qmf qwf qpf qhnf qhtf qhjf qhmf qhbf qhsf qhcf ndg qrg qmg qwg qpg qhng qhtg qhjg qhmg qhbg qhsg qhcg F T : Nat → Int32} {nmf nmg : Nat → Int64} {le le2 : Int64} {fn fp n kd sta po va tk ta ndn qmd qtr qrn qmn qwn qpn qhnn qhtn qhjn qhmn qhbn qhsn qhcn fn2 fp2 kd2 sta2 po2 va2 tk2 ta2 ndk qrk qmk qwk qpk qmd2 qtr2 qhnk qhtk qhjk qhmk qhbk qhsk qhck r a : Int32} {Fm uf : Nat → Int32} {cnt kd9 sta9 po9 va9 tk9 ta9 b : Int32} {le9 : Int64} {m : Nat} (hc : cnt.toInt = m) (hm : 1 ≤ m ∧ m ≤ 8) (hF : ∀ i : Nat, (i < 126 ∨ 133 < i) → Fm i = F i) (hP : ∀ k : Nat, k < m → uf (2 * k) = Fm (126 + k) ∧ uf (2 * k + 1) = F 2) (hs : XS T n b kd9 sta9 po9 va9 le9) (h : (fun (u_20 : Int32) (u_15 : Int32) (u_16 : Int32) (u_17 : Int32) (u_18 : Int32) (u_9 : Int32) (u_11 : Int32) (u_12 : Int64) (u_13 : Int32) (u_14 : Int32) (uf_4 : Nat → Int32) => (((u_20 ≠ (1 : Int32)) ∧ (fn2 = u_15 ∧ fp2 = u_16 ∧ kd2 = u_17 ∧ sta2 = u_18 ∧ po2 = u_9 ∧ va2 = u_11 ∧ le2 = u_12 ∧ tk2 = u_13 ∧ ta2 = u_14 ∧ nmg = nmf ∧ ndg = ndf ∧ ndk = ndn ∧ qrg = qrf ∧ qmg = qmf ∧ qwg = qwf ∧ qpg = uf_4 ∧ qrk = qrn ∧ qmk = qmn ∧ qwk = qwn ∧ qpk = u_20 ∧ qmd2 = qmd ∧ qtr2 = qtr ∧ qhng = qhnf ∧ qhtg = qhtf ∧ qhjg = qhjf ∧ qhmg = qhmf ∧ qhbg = qhbf ∧ qhsg = qhsf ∧ qhcg = qhcf ∧ qhnk = qhnn ∧ qhtk = qhtn ∧ qhjk = qhjn ∧ qhmk = qhmn ∧ qhbk = qhbn ∧ qhsk = qhsn ∧ qhck = qhcn ∧ r = 1)) ∨ ((u_20 = (1 : Int32)) ∧ ((((u_17 = (3 : Int32)) ∧ (∃ xfn2_30 : Int32, ∃ xfp2_31 : Int32, ∃ r_32 : Int32, (R_x_refuseAtX 6 u_18 xfn2_30 xfp2_31 r_32) ∧ fn2 = xfn2_30 ∧ fp2 = xfp2_31 ∧ kd2 = u_17 ∧ sta2 = u_18 ∧ po2 = u_9 ∧ va2 = u_11 ∧ le2 = u_12 ∧ tk2 = u_13 ∧ ta2 = u_14 ∧ nmg = nmf ∧ ndg = ndf ∧ ndk = ndn ∧ qrg = qrf ∧ qmg = qmf ∧ qwg = qwf ∧ qpg = uf_4 ∧ qrk = qrn ∧ qmk = qmn ∧ qwk = qwn ∧ qpk = u_20 ∧ qmd2 = qmd ∧ qtr2 = qtr ∧ qhng = qhnf ∧ qhtg = qhtf ∧ qhjg = qhjf ∧ qhmg = qhmf ∧ qhbg = qhbf ∧ qhsg = qhsf ∧ qhcg = qhcf ∧ qhnk = qhnn ∧ qhtk = qhtn ∧ qhjk = qhjn ∧ qhmk = qhmn ∧ qhbk = qhbn ∧ qhsk = qhsn ∧ qhck = qhcn ∧ r = r_32)) ∨ ((¬ (u_17 = (3 : Int32))) ∧ ((((u_17 ≠ (0 : Int32)) ∧ (fn2 = u_15 ∧ fp2 = u_16 ∧ kd2 = u_17 ∧ sta2 = u_18 ∧ po2 = u_9 ∧ va2 = u_11 ∧ le2 = u_12 ∧ tk2 = u_13 ∧ ta2 = u_14 ∧ nmg = nmf ∧ ndg = ndf ∧ ndk = ndn ∧ qrg = qrf ∧ qmg = qmf ∧ qwg = qwf ∧ qpg = uf_4 ∧ qrk = qrn ∧ qmk = qmn ∧ qwk = qwn ∧ qpk = u_20 ∧ qmd2 = qmd ∧ qtr2 = qtr ∧ qhng = qhnf ∧ qhtg = qhtf ∧ qhjg = qhjf ∧ qhmg = qhmf ∧ qhbg = qhbf ∧ qhsg = qhsf ∧ qhcg = qhcf ∧ qhnk = qhnn ∧ qhtk = qhtn ∧ qhjk = qhjn ∧ qhmk = qhmn ∧ qhbk = qhbn ∧ qhsk = qhsn ∧ qhck = qhcn ∧ r = 1)) ∨ ((u_17 = (0 : Int32)) ∧ (∃ xfn2_37 : Int32, ∃ xfp2_38 : Int32, ∃ r_39 : Int32, (R_x_refuseAtX 6 u_18 xfn2_37 xfp2_38 r_39) ∧ fn2 = xfn2_37 ∧ fp2 = xfp2_38 ∧ kd2 = u_17 ∧ sta2 = u_18 ∧ po2 = u_9 ∧ va2 = u_11 ∧ le2 = u_12 ∧ tk2 = u_13 ∧ ta2 = u_14 ∧ nmg = nmf ∧ ndg = ndf ∧ ndk = ndn ∧ qrg = qrf ∧ qmg = qmf ∧ qwg = qwf ∧ qpg = uf_4 ∧ qrk = qrn ∧ qmk = qmn ∧ qwk = qwn ∧ qpk = u_20 ∧ qmd2 = qmd ∧ qtr2 = qtr ∧ qhng = qhnf ∧ qhtg = qhtf ∧ qhjg = qhjf ∧ qhmg = qhmf ∧ qhbg = qhbf ∧ qhsg = qhsf ∧ qhcg = qhcf ∧ qhnk = qhnn ∧ qhtk = qhtn ∧ qhjk = qhjn ∧ qhmk = qhmn ∧ qhbk = qhbn ∧ qhsk = qhsn ∧ qhck = qhcn ∧ r = r_39)))))))))) cnt fn fp kd9 sta9 po9 va9 le9 tk9 ta9 uf) : XF T n (showE T n m Fm b) fn fp r fn2 fp2 kd2 sta2 po2 va2 le2 (fun G => (∀ i : Nat, i ≠ 12 → (i < 126 ∨ 133 < i) → G i = F i) ∧ qpk = G 12 ∧ IV (G 12) 2 8 ∧ (∀ k : Nat, (k : Int) < (G 12).toInt → qpg (2 * k) = G (126 + k) ∧ qpg (2 * k + 1) = F 2) ∧ nmg = nmf ∧ ndg = ndf ∧ ndk = ndn ∧ qrg = qrf ∧ qmg = qmf ∧ qwg = qwf ∧ qrk = qrn ∧ qmk = qmn ∧ qwk = qwn ∧ qhnk = qhnn ∧ qhtk = qhtn ∧ qhjk = qhjn ∧ qhmk = qhmn ∧ qhbk = qhbn ∧ qhsk = qhsn ∧ qhck = qhcn ∧ qhng = qhnf ∧ qhtg = qhtf ∧ qhjg = qhjf ∧ qhmg = qhmf ∧ qhbg = qhbf ∧ qhsg = qhsf ∧ qhcg = qhcf) ∨ (∃ b9 : Int32, showE T n m Fm b = .inl (1, b9) ∧ r = 1 ∧ fn2 = fn ∧ fp2 = fp ∧ XS T n b9 kd2 sta2 po2 va2 le2 ∧ tkF T n b9 ≠ 3 ∧ tkF T n b9 ≠ 0) := by
  obtain ⟨s1, s2, s3⟩ := hs
  have e1 := s3.1
  have hok : ∀ hx : kd2 = kd9 ∧ sta2 = sta9 ∧ po2 = po9 ∧ va2 = va9 ∧ le2 = le9, XS T n b kd2 sta2 po2 va2 le2 := fun hx => by
    rw [hx.1, hx.2.1, hx.2.2.1, hx.2.2.2.1, hx.2.2.2.2]; exact ⟨s1, s2, s3⟩
  rcases h with ⟨h1, h⟩ | ⟨h1, h⟩
  · have m1 : m ≠ 1 := fun q => h1 (Int32.toInt_inj.mp (by rw [hc, q]; decide))
    refine Or.inl ?_
    unfold showE
    rw [if_neg (by omega)]
    refine ⟨h.2.2.2.2.2.2.2.2.2.2.2.2.2.2.2.2.2.2.2.2.2.2.2.2.2.2.2.2.2.2.2.2.2.2.2.2, h.1, h.2.1, hok ⟨h.2.2.1, h.2.2.2.1, h.2.2.2.2.1, h.2.2.2.2.2.1, h.2.2.2.2.2.2.1⟩, ?_, ?_, ?_, ?_, h.2.2.2.2.2.2.2.2.2.1, h.2.2.2.2.2.2.2.2.2.2.1, h.2.2.2.2.2.2.2.2.2.2.2.1, h.2.2.2.2.2.2.2.2.2.2.2.2.1, h.2.2.2.2.2.2.2.2.2.2.2.2.2.1, h.2.2.2.2.2.2.2.2.2.2.2.2.2.2.1, h.2.2.2.2.2.2.2.2.2.2.2.2.2.2.2.2.1, h.2.2.2.2.2.2.2.2.2.2.2.2.2.2.2.2.2.1, h.2.2.2.2.2.2.2.2.2.2.2.2.2.2.2.2.2.2.1, h.2.2.2.2.2.2.2.2.2.2.2.2.2.2.2.2.2.2.2.2.2.2.2.2.2.2.2.2.2.1, h.2.2.2.2.2.2.2.2.2.2.2.2.2.2.2.2.2.2.2.2.2.2.2.2.2.2.2.2.2.2.1, h.2.2.2.2.2.2.2.2.2.2.2.2.2.2.2.2.2.2.2.2.2.2.2.2.2.2.2.2.2.2.2.1, h.2.2.2.2.2.2.2.2.2.2.2.2.2.2.2.2.2.2.2.2.2.2.2.2.2.2.2.2.2.2.2.2.1, h.2.2.2.2.2.2.2.2.2.2.2.2.2.2.2.2.2.2.2.2.2.2.2.2.2.2.2.2.2.2.2.2.2.1, h.2.2.2.2.2.2.2.2.2.2.2.2.2.2.2.2.2.2.2.2.2.2.2.2.2.2.2.2.2.2.2.2.2.2.1, h.2.2.2.2.2.2.2.2.2.2.2.2.2.2.2.2.2.2.2.2.2.2.2.2.2.2.2.2.2.2.2.2.2.2.2.1, h.2.2.2.2.2.2.2.2.2.2.2.2.2.2.2.2.2.2.2.2.2.2.1, h.2.2.2.2.2.2.2.2.2.2.2.2.2.2.2.2.2.2.2.2.2.2.2.1, h.2.2.2.2.2.2.2.2.2.2.2.2.2.2.2.2.2.2.2.2.2.2.2.2.1, h.2.2.2.2.2.2.2.2.2.2.2.2.2.2.2.2.2.2.2.2.2.2.2.2.2.1, h.2.2.2.2.2.2.2.2.2.2.2.2.2.2.2.2.2.2.2.2.2.2.2.2.2.2.1, h.2.2.2.2.2.2.2.2.2.2.2.2.2.2.2.2.2.2.2.2.2.2.2.2.2.2.2.1, h.2.2.2.2.2.2.2.2.2.2.2.2.2.2.2.2.2.2.2.2.2.2.2.2.2.2.2.2.1⟩
    · intro i q1 q2
      show upd Fm 12 (nI m) i = F i
      rw [upd_ne q1]; exact hF i q2
    · show qpk = upd Fm 12 (nI m) 12
      rw [upd_at, h.2.2.2.2.2.2.2.2.2.2.2.2.2.2.2.2.2.2.2.1]
      exact Int32.toInt_inj.mp (by rw [hc, nIt (by omega)])
    · show IV (upd Fm 12 (nI m) 12) 2 8
      rw [upd_at, IV, nIt (by omega)]; omega
    · intro k hk
      have hk : (k : Int) < (upd Fm 12 (nI m) 12).toInt := hk
      rw [upd_at, nIt (by omega)] at hk
      show qpg (2 * k) = upd Fm 12 (nI m) (126 + k) ∧ qpg (2 * k + 1) = F 2
      rw [upd_ne (by omega), h.2.2.2.2.2.2.2.2.2.2.2.2.2.2.2.1]
      exact hP k (by omega)
  · have m1 : m = 1 := by have : (1 : Int32).toInt = 1 := by decide
                          rw [h1, this] at hc; omega
    have E : showE T n m Fm b = (if tkF T n b = 3 then .inl (6, b) else if tkF T n b = 0 then .inl (6, b) else .inl (1, b)) := by unfold showE; rw [if_pos (by omega)]
    rcases h with ⟨h2, f1, p1, r1, ⟨b1, b2, b3⟩, h⟩ | ⟨h2, ⟨h3, h⟩ | ⟨h3, f1, p1, r1, ⟨b1, b2, b3⟩, h⟩⟩
    · refine Or.inl ?_
      rw [E, if_pos (e1.symm.trans h2)]
      exact ⟨by rw [h.2.2.2.2.2.2.2.2.2.2.2.2.2.2.2.2.2.2.2.2.2.2.2.2.2.2.2.2.2.2.2.2.2.2.2.2, b3], by rw [h.1, b1], by rw [h.2.1, b2, s1]⟩
    · have q3 : ¬ tkF T n b = 3 := fun q => h2 (e1.trans q)
      have q0 : ¬ tkF T n b = 0 := fun q => h3 (e1.trans q)
      exact Or.inr ⟨b, by rw [E, if_neg q3, if_neg q0], h.2.2.2.2.2.2.2.2.2.2.2.2.2.2.2.2.2.2.2.2.2.2.2.2.2.2.2.2.2.2.2.2.2.2.2.2, h.1, h.2.1, hok ⟨h.2.2.1, h.2.2.2.1, h.2.2.2.2.1, h.2.2.2.2.2.1, h.2.2.2.2.2.2.1⟩, q3, q0⟩
    · refine Or.inl ?_
      rw [E, if_neg (fun q => h2 (e1.trans q)), if_pos (e1.symm.trans h3)]
      exact ⟨by rw [h.2.2.2.2.2.2.2.2.2.2.2.2.2.2.2.2.2.2.2.2.2.2.2.2.2.2.2.2.2.2.2.2.2.2.2.2, b3], by rw [h.1, b1], by rw [h.2.1, b2, s1]⟩
theorem show_cl {tp ndf qrf qmf qwf qpf qhnf qhtf qhjf qhmf qhbf qhsf qhcf ndg qrg qmg qwg qpg qhng qhtg qhjg qhmg qhbg qhsg qhcg F T : Nat → Int32} {nmf nmg : Nat → Int64} {le le2 : Int64} {fn fp n kd sta po va tk ta ndn qmd qtr qrn qmn qwn qpn qhnn qhtn qhjn qhmn qhbn qhsn qhcn fn2 fp2 kd2 sta2 po2 va2 tk2 ta2 ndk qrk qmk qwk qpk qmd2 qtr2 qhnk qhtk qhjk qhmk qhbk qhsk qhck r a : Int32} (hn : IV n 0 900) (ht : TpR tp T) (hN : NRel F nmf ndf ndn) (hL : qhnf 2 = F 2) : ∀ (f g m : Nat) (Fm uf : Nat → Int32) (i7 cnt kd9 sta9 po9 va9 tk9 ta9 c : Int32) (le9 : Int64), cnt.toInt = m → i7.toInt = m → m ≤ 8 → m + g = 9 → (∀ i : Nat, (i < 126 ∨ 133 < i) → Fm i = F i) → (∀ k : Nat, k < m → uf (2 * k) = Fm (126 + k) ∧ uf (2 * k + 1) = F 2) → XS T n c kd9 sta9 po9 va9 le9 → R_x_isShowsLineX_L0 n tp nmf ndn ndf qmd qtr qrn qrf qmn qmf qwn qwf qhnn qhnf qhtn qhtf qhjn qhjf qhmn qhmf qhbn qhbf qhsn qhsf qhcn qhcf fn2 fp2 kd2 sta2 po2 va2 le2 tk2 ta2 nmg ndg ndk qrg qmg qwg qpg qrk qmk qwk qpk qmd2 qtr2 qhng qhtg qhjg qhmg qhbg qhsg qhcg qhnk qhtk qhjk qhmk qhbk qhsk qhck r (fun (u_20 : Int32) (u_15 : Int32) (u_16 : Int32) (u_17 : Int32) (u_18 : Int32) (u_9 : Int32) (u_11 : Int32) (u_12 : Int64) (u_13 : Int32) (u_14 : Int32) (uf_4 : Nat → Int32) => (((u_20 ≠ (1 : Int32)) ∧ (fn2 = u_15 ∧ fp2 = u_16 ∧ kd2 = u_17 ∧ sta2 = u_18 ∧ po2 = u_9 ∧ va2 = u_11 ∧ le2 = u_12 ∧ tk2 = u_13 ∧ ta2 = u_14 ∧ nmg = nmf ∧ ndg = ndf ∧ ndk = ndn ∧ qrg = qrf ∧ qmg = qmf ∧ qwg = qwf ∧ qpg = uf_4 ∧ qrk = qrn ∧ qmk = qmn ∧ qwk = qwn ∧ qpk = u_20 ∧ qmd2 = qmd ∧ qtr2 = qtr ∧ qhng = qhnf ∧ qhtg = qhtf ∧ qhjg = qhjf ∧ qhmg = qhmf ∧ qhbg = qhbf ∧ qhsg = qhsf ∧ qhcg = qhcf ∧ qhnk = qhnn ∧ qhtk = qhtn ∧ qhjk = qhjn ∧ qhmk = qhmn ∧ qhbk = qhbn ∧ qhsk = qhsn ∧ qhck = qhcn ∧ r = 1)) ∨ ((u_20 = (1 : Int32)) ∧ ((((u_17 = (3 : Int32)) ∧ (∃ xfn2_30 : Int32, ∃ xfp2_31 : Int32, ∃ r_32 : Int32, (R_x_refuseAtX 6 u_18 xfn2_30 xfp2_31 r_32) ∧ fn2 = xfn2_30 ∧ fp2 = xfp2_31 ∧ kd2 = u_17 ∧ sta2 = u_18 ∧ po2 = u_9 ∧ va2 = u_11 ∧ le2 = u_12 ∧ tk2 = u_13 ∧ ta2 = u_14 ∧ nmg = nmf ∧ ndg = ndf ∧ ndk = ndn ∧ qrg = qrf ∧ qmg = qmf ∧ qwg = qwf ∧ qpg = uf_4 ∧ qrk = qrn ∧ qmk = qmn ∧ qwk = qwn ∧ qpk = u_20 ∧ qmd2 = qmd ∧ qtr2 = qtr ∧ qhng = qhnf ∧ qhtg = qhtf ∧ qhjg = qhjf ∧ qhmg = qhmf ∧ qhbg = qhbf ∧ qhsg = qhsf ∧ qhcg = qhcf ∧ qhnk = qhnn ∧ qhtk = qhtn ∧ qhjk = qhjn ∧ qhmk = qhmn ∧ qhbk = qhbn ∧ qhsk = qhsn ∧ qhck = qhcn ∧ r = r_32)) ∨ ((¬ (u_17 = (3 : Int32))) ∧ ((((u_17 ≠ (0 : Int32)) ∧ (fn2 = u_15 ∧ fp2 = u_16 ∧ kd2 = u_17 ∧ sta2 = u_18 ∧ po2 = u_9 ∧ va2 = u_11 ∧ le2 = u_12 ∧ tk2 = u_13 ∧ ta2 = u_14 ∧ nmg = nmf ∧ ndg = ndf ∧ ndk = ndn ∧ qrg = qrf ∧ qmg = qmf ∧ qwg = qwf ∧ qpg = uf_4 ∧ qrk = qrn ∧ qmk = qmn ∧ qwk = qwn ∧ qpk = u_20 ∧ qmd2 = qmd ∧ qtr2 = qtr ∧ qhng = qhnf ∧ qhtg = qhtf ∧ qhjg = qhjf ∧ qhmg = qhmf ∧ qhbg = qhbf ∧ qhsg = qhsf ∧ qhcg = qhcf ∧ qhnk = qhnn ∧ qhtk = qhtn ∧ qhjk = qhjn ∧ qhmk = qhmn ∧ qhbk = qhbn ∧ qhsk = qhsn ∧ qhck = qhcn ∧ r = 1)) ∨ ((u_17 = (0 : Int32)) ∧ (∃ xfn2_37 : Int32, ∃ xfp2_38 : Int32, ∃ r_39 : Int32, (R_x_refuseAtX 6 u_18 xfn2_37 xfp2_38 r_39) ∧ fn2 = xfn2_37 ∧ fp2 = xfp2_38 ∧ kd2 = u_17 ∧ sta2 = u_18 ∧ po2 = u_9 ∧ va2 = u_11 ∧ le2 = u_12 ∧ tk2 = u_13 ∧ ta2 = u_14 ∧ nmg = nmf ∧ ndg = ndf ∧ ndk = ndn ∧ qrg = qrf ∧ qmg = qmf ∧ qwg = qwf ∧ qpg = uf_4 ∧ qrk = qrn ∧ qmk = qmn ∧ qwk = qwn ∧ qpk = u_20 ∧ qmd2 = qmd ∧ qtr2 = qtr ∧ qhng = qhnf ∧ qhtg = qhtf ∧ qhjg = qhjf ∧ qhmg = qhmf ∧ qhbg = qhbf ∧ qhsg = qhsf ∧ qhcg = qhcf ∧ qhnk = qhnn ∧ qhtk = qhtn ∧ qhjk = qhjn ∧ qhmk = qhmn ∧ qhbk = qhbn ∧ qhsk = qhsn ∧ qhck = qhcn ∧ r = r_39)))))))))) (fun (u_20 : Int32) (u_15 : Int32) (u_16 : Int32) (u_17 : Int32) (u_18 : Int32) (u_9 : Int32) (u_11 : Int32) (u_12 : Int64) (u_13 : Int32) (u_14 : Int32) (uf_4 : Nat → Int32) => (((u_20 ≠ (1 : Int32)) ∧ (fn2 = u_15 ∧ fp2 = u_16 ∧ kd2 = u_17 ∧ sta2 = u_18 ∧ po2 = u_9 ∧ va2 = u_11 ∧ le2 = u_12 ∧ tk2 = u_13 ∧ ta2 = u_14 ∧ nmg = nmf ∧ ndg = ndf ∧ ndk = ndn ∧ qrg = qrf ∧ qmg = qmf ∧ qwg = qwf ∧ qpg = uf_4 ∧ qrk = qrn ∧ qmk = qmn ∧ qwk = qwn ∧ qpk = u_20 ∧ qmd2 = qmd ∧ qtr2 = qtr ∧ qhng = qhnf ∧ qhtg = qhtf ∧ qhjg = qhjf ∧ qhmg = qhmf ∧ qhbg = qhbf ∧ qhsg = qhsf ∧ qhcg = qhcf ∧ qhnk = qhnn ∧ qhtk = qhtn ∧ qhjk = qhjn ∧ qhmk = qhmn ∧ qhbk = qhbn ∧ qhsk = qhsn ∧ qhck = qhcn ∧ r = 1)) ∨ ((u_20 = (1 : Int32)) ∧ ((((u_17 = (3 : Int32)) ∧ (∃ xfn2_50 : Int32, ∃ xfp2_51 : Int32, ∃ r_52 : Int32, (R_x_refuseAtX 6 u_18 xfn2_50 xfp2_51 r_52) ∧ fn2 = xfn2_50 ∧ fp2 = xfp2_51 ∧ kd2 = u_17 ∧ sta2 = u_18 ∧ po2 = u_9 ∧ va2 = u_11 ∧ le2 = u_12 ∧ tk2 = u_13 ∧ ta2 = u_14 ∧ nmg = nmf ∧ ndg = ndf ∧ ndk = ndn ∧ qrg = qrf ∧ qmg = qmf ∧ qwg = qwf ∧ qpg = uf_4 ∧ qrk = qrn ∧ qmk = qmn ∧ qwk = qwn ∧ qpk = u_20 ∧ qmd2 = qmd ∧ qtr2 = qtr ∧ qhng = qhnf ∧ qhtg = qhtf ∧ qhjg = qhjf ∧ qhmg = qhmf ∧ qhbg = qhbf ∧ qhsg = qhsf ∧ qhcg = qhcf ∧ qhnk = qhnn ∧ qhtk = qhtn ∧ qhjk = qhjn ∧ qhmk = qhmn ∧ qhbk = qhbn ∧ qhsk = qhsn ∧ qhck = qhcn ∧ r = r_52)) ∨ ((¬ (u_17 = (3 : Int32))) ∧ ((((u_17 ≠ (0 : Int32)) ∧ (fn2 = u_15 ∧ fp2 = u_16 ∧ kd2 = u_17 ∧ sta2 = u_18 ∧ po2 = u_9 ∧ va2 = u_11 ∧ le2 = u_12 ∧ tk2 = u_13 ∧ ta2 = u_14 ∧ nmg = nmf ∧ ndg = ndf ∧ ndk = ndn ∧ qrg = qrf ∧ qmg = qmf ∧ qwg = qwf ∧ qpg = uf_4 ∧ qrk = qrn ∧ qmk = qmn ∧ qwk = qwn ∧ qpk = u_20 ∧ qmd2 = qmd ∧ qtr2 = qtr ∧ qhng = qhnf ∧ qhtg = qhtf ∧ qhjg = qhjf ∧ qhmg = qhmf ∧ qhbg = qhbf ∧ qhsg = qhsf ∧ qhcg = qhcf ∧ qhnk = qhnn ∧ qhtk = qhtn ∧ qhjk = qhjn ∧ qhmk = qhmn ∧ qhbk = qhbn ∧ qhsk = qhsn ∧ qhck = qhcn ∧ r = 1)) ∨ ((u_17 = (0 : Int32)) ∧ (∃ xfn2_57 : Int32, ∃ xfp2_58 : Int32, ∃ r_59 : Int32, (R_x_refuseAtX 6 u_18 xfn2_57 xfp2_58 r_59) ∧ fn2 = xfn2_57 ∧ fp2 = xfp2_58 ∧ kd2 = u_17 ∧ sta2 = u_18 ∧ po2 = u_9 ∧ va2 = u_11 ∧ le2 = u_12 ∧ tk2 = u_13 ∧ ta2 = u_14 ∧ nmg = nmf ∧ ndg = ndf ∧ ndk = ndn ∧ qrg = qrf ∧ qmg = qmf ∧ qwg = qwf ∧ qpg = uf_4 ∧ qrk = qrn ∧ qmk = qmn ∧ qwk = qwn ∧ qpk = u_20 ∧ qmd2 = qmd ∧ qtr2 = qtr ∧ qhng = qhnf ∧ qhtg = qhtf ∧ qhjg = qhjf ∧ qhmg = qhmf ∧ qhbg = qhbf ∧ qhsg = qhsf ∧ qhcg = qhcf ∧ qhnk = qhnn ∧ qhtk = qhtn ∧ qhjk = qhjn ∧ qhmk = qhmn ∧ qhbk = qhbn ∧ qhsk = qhsn ∧ qhck = qhcn ∧ r = r_59)))))))))) f uf 1 i7 po9 va9 le9 tk9 ta9 fn fp kd9 sta9 cnt → XF T n (showG T n g m Fm (nx T n c)) fn fp r fn2 fp2 kd2 sta2 po2 va2 le2 (fun G => (∀ i : Nat, i ≠ 12 → (i < 126 ∨ 133 < i) → G i = F i) ∧ qpk = G 12 ∧ IV (G 12) 2 8 ∧ (∀ k : Nat, (k : Int) < (G 12).toInt → qpg (2 * k) = G (126 + k) ∧ qpg (2 * k + 1) = F 2) ∧ nmg = nmf ∧ ndg = ndf ∧ ndk = ndn ∧ qrg = qrf ∧ qmg = qmf ∧ qwg = qwf ∧ qrk = qrn ∧ qmk = qmn ∧ qwk = qwn ∧ qhnk = qhnn ∧ qhtk = qhtn ∧ qhjk = qhjn ∧ qhmk = qhmn ∧ qhbk = qhbn ∧ qhsk = qhsn ∧ qhck = qhcn ∧ qhng = qhnf ∧ qhtg = qhtf ∧ qhjg = qhjf ∧ qhmg = qhmf ∧ qhbg = qhbf ∧ qhsg = qhsf ∧ qhcg = qhcf) ∨ (∃ b9 : Int32, showG T n g m Fm (nx T n c) = .inl (1, b9) ∧ r = 1 ∧ fn2 = fn ∧ fp2 = fp ∧ XS T n b9 kd2 sta2 po2 va2 le2 ∧ tkF T n b9 ≠ 3 ∧ tkF T n b9 ≠ 0) := by
  intro f
  induction f with
  | zero => intro g m Fm uf i7 cnt kd9 sta9 po9 va9 tk9 ta9 c le9 _ _ _ _ _ _ _ h; exact h.elim
  | succ f ih =>
    intro g m Fm uf i7 cnt kd9 sta9 po9 va9 tk9 ta9 c le9 hc hi hm hg hF hP hs h
    obtain ⟨g, rfl⟩ : ∃ k, g = k + 1 := ⟨g - 1, by omega⟩
    unfold R_x_isShowsLineX_L0 at h
    have n8' : (8 : Int32).toInt = 8 := by decide
    rcases h with ⟨q, -⟩ | ⟨-, h⟩
    · exact absurd q one0
    rcases h with ⟨q, -⟩ | ⟨-, h⟩
    · rw [lt_I, n8'] at q; omega
    refine exE5 h ?_
    clear h
    intro kx sx_ px vx_ lx hx h
    refine exE10 h ?_
    clear h
    intro f1 g1 k1 s1 p1 v1 l1' tk1 ta1 r1 hh1 h
    have xs := x_next_at hn ht hs hx
    have m1 := qx_oldR hn ht (NRel_hi hN (fun i q => hF i (by omega))) xs hh1
    cases hc1 : oldS Fm T n 0 7 (nx T n c) with
    | inl e =>
      have hr : reelP Fm T n (nx T n c) = .inl e := by unfold reelP; rw [hc1, bnd_l]
      rw [hr] at m1
      refine exA2 (XV_l m1) ?_
      intro x1 x2 x3
      replace h := pf2 h x1
      refine Or.inl ?_
      rw [showG, hc1, bnd_l]
      exact ⟨h.2.2.2.2.2.2.2.2.2.2.2.2.2.2.2.2.2.2.2.2.2.2.2.2.2.2.2.2.2.2.2.2.2.2.2.2, by rw [h.1, x2], by rw [h.2.1, x3]⟩
    | inr v =>
      have hr : reelP Fm T n (nx T n c) = .inr (v, nx T n (nx T n c)) := by unfold reelP; rw [hc1, bnd_r]
      rw [hr] at m1
      refine exA5 (XV_r m1) ?_
      intro x1 yf yg yt ya xs1
      replace h := pk2 h x1
      dsimp only at xs1 yt
      obtain ⟨r2, hr2, h⟩ := h
      by_cases q8 : cnt < 8
      · rw [if_pos q8] at hr2
        rw [lt_I, n8'] at q8
        have hm8 : m ≠ 8 := by omega
        replace h := pf1 h hr2
        obtain ⟨r3, hr3, gg, kk, hadd, h⟩ := h
        obtain ⟨o1, o2⟩ := qt_add8_2 ⟨by omega, by omega⟩ hadd
        have ek := inc1 (u := cnt) (z := kk) (a := 0) (b := 900) ⟨by omega, by omega⟩ (by omega) (by omega) o2
        have hF2 : ∀ i : Nat, (i < 126 ∨ 133 < i) → upd Fm (126 + m) v i = F i := by
          intro i q
          rw [upd_ne (by omega)]; exact hF i q
        have hr4 : r3 = F 2 := by
          obtain ⟨r5, h5, h6⟩ := hr3
          rw [h6, h5, tbAt_in (by decide) (by decide) (by decide) (by decide)]
          exact hL
        have hP2 : ∀ k : Nat, k < m + 1 → gg (2 * k) = upd Fm (126 + m) v (126 + k) ∧ gg (2 * k + 1) = F 2 := by
          intro k hk
          have ec : cnt.toInt.toNat = m := by omega
          rw [o1, ec]
          by_cases q : k = m
          · subst q
            refine ⟨?_, ?_⟩
            · rw [upd_at, upd_ne (by omega), show 2 * k = k * 2 + 0 by omega, upd_at]; exact yt
            · rw [show 2 * k + 1 = k * 2 + 1 by omega, upd_at]; exact hr4
          · rw [upd_ne (by omega), upd_ne (by omega), upd_ne (by omega), upd_ne (by omega), upd_ne (by omega)]
            exact hP k (by omega)
        have S : showG T n (g + 1) m Fm (nx T n c) = (if tkF T n (nx T n (nx T n c)) = 4 then showG T n g (m + 1) (upd Fm (126 + m) v) (nx T n (nx T n (nx T n c))) else showE T n (m + 1) (upd Fm (126 + m) v) (nx T n (nx T n c))) := by rw [showG, hc1, bnd_r, if_neg hm8]
        have e1 := xs1.2.2.1
        have e1 : k1 = tkF T n (nx T n (nx T n c)) := e1
        rcases h with ⟨h4, z, hz, h⟩ | ⟨h4, z, hz, h⟩
        · rw [if_neg (fun q => h4 (e1.trans q))] at S
          rw [S]
          cases f with
          | zero => exact h.elim
          | succ f =>
            unfold R_x_isShowsLineX_L0 at h
            rcases h with ⟨-, h⟩ | ⟨q, -⟩
            · rw [yf, yg] at h
              clear ih hadd o1 hr3 hr4 m1 hh1 hx
              have hk := show_k0 (a := a) (tp := tp) (qpf := qpf) (le := le) (kd := kd) (sta := sta) (po := po) (va := va) (tk := tk) (ta := ta) (qpn := qpn) (T := T) (n := n) (Fm := upd Fm (126 + m) v) (b := nx T n (nx T n c)) (cnt := kk) (m := m + 1) (by omega) (by omega) hF2 hP2 xs1 h
              exact hk
            · exact absurd rfl q
        · rw [if_pos (e1.symm.trans h4)] at S
          rw [S]
          rw [ofI1] at hz
          have ez := inc1 (u := i7) (z := z) (a := 0) (b := 900) ⟨by omega, by omega⟩ (by omega) (by omega) hz.symm
          rw [yf, yg] at h
          exact ih g (m + 1) _ _ z kk _ _ _ _ _ _ _ _ (by omega) (by omega) (by omega) (by omega) hF2 hP2 xs1 h
      · rw [if_neg q8] at hr2
        rw [lt_I, n8'] at q8
        have hm8 : m = 8 := by omega
        replace h := pk1 h hr2
        obtain ⟨f2, p2, r3, ⟨b1, b2, b3⟩, h⟩ := h
        refine Or.inl ?_
        rw [showG, hc1, bnd_r, if_pos hm8]
        exact ⟨by rw [h.2.2.2.2.2.2.2.2.2.2.2.2.2.2.2.2.2.2.2.2.2.2.2.2.2.2.2.2.2.2.2.2.2.2.2.2, b3], by rw [h.1, b1], by rw [h.2.1, b2, ya]⟩

set_option maxRecDepth 100000
set_option maxHeartbeats 4000000
theorem qx_isShowsLine {tp ndf qrf qmf qwf qpf qhnf qhtf qhjf qhmf qhbf qhsf qhcf ndg qrg qmg qwg qpg qhng qhtg qhjg qhmg qhbg qhsg qhcg F T : Nat → Int32} {nmf nmg : Nat → Int64} {le le2 : Int64} {fn fp n kd sta po va tk ta ndn qmd qtr qrn qmn qwn qpn qhnn qhtn qhjn qhmn qhbn qhsn qhcn fn2 fp2 kd2 sta2 po2 va2 tk2 ta2 ndk qrk qmk qwk qpk qmd2 qtr2 qhnk qhtk qhjk qhmk qhbk qhsk qhck r a : Int32} (hn : IV n 0 900) (ht : TpR tp T) (hH : HRel F ndn nmf ndf qrn qrf qmn qmf qwn qwf qpn qhnn qhtn qhjn qhmn qhbn qhsn qhcn) (hV : HV F qrf qmf qwf qpf qhnf qhtf qhjf qhmf qhbf qhsf qhcf) (h15 : F 15 ≠ 0) (hs : XS T n a kd sta po va le) (h : R_x_isShowsLineX fn fp n kd sta po va le tk ta tp nmf ndn ndf qmd qtr qrn qrf qmn qmf qwn qwf qpn qpf qhnn qhnf qhtn qhtf qhjn qhjf qhmn qhmf qhbn qhbf qhsn qhsf qhcn qhcf fn2 fp2 kd2 sta2 po2 va2 le2 tk2 ta2 nmg ndg ndk qrg qmg qwg qpg qrk qmk qwk qpk qmd2 qtr2 qhng qhtg qhjg qhmg qhbg qhsg qhcg qhnk qhtk qhjk qhmk qhbk qhsk qhck r) : XF T n (bnd (onceS F T n (bpos (F 12)) a) (showS F T n)) fn fp r fn2 fp2 kd2 sta2 po2 va2 le2 (fun G => HRel G ndk nmg ndg qrk qrg qmk qmg qwk qwg qpk qhnk qhtk qhjk qhmk qhbk qhsk qhck ∧ HV G qrg qmg qwg qpg qhng qhtg qhjg qhmg qhbg qhsg qhcg) ∨ (∃ b9 : Int32, bnd (onceS F T n (bpos (F 12)) a) (showS F T n) = .inl (1, b9) ∧ r = 1 ∧ fn2 = fn ∧ fp2 = fp ∧ XS T n b9 kd2 sta2 po2 va2 le2 ∧ tkF T n b9 ≠ 3 ∧ tkF T n b9 ≠ 0) := by
  have hH0 := hH
  refine exA14 hH ?_
  clear hH
  intro zc1 zc2 zc3 c12 cb cr cm cw cN cd f1' f2' f3' g1' g2'
  refine exA1 zc1 ?_
  clear zc1
  intro a1 a2
  refine exA8 zc2 ?_
  clear zc2
  intro b1 b2 b3 b4 b5 b6 b7 b8 b9
  refine exA7 zc3 ?_
  clear zc3
  intro i6 i7 i8 i9 i10 i11 i13 i14
  have e8 : (8 : Int32).toInt = 8 := by decide
  have e6 : (6 : Int32).toInt = 6 := by decide
  have hVn := hV.2.2.2.2.1 h15
  unfold R_x_isShowsLineX at h
  by_cases q12 : F 12 ≤ 0
  case neg =>
    refine Or.inl ?_
    rw [once_1 q12, bnd_l]
    rcases h with ⟨q, -⟩ | ⟨-, h⟩
    · rw [b7] at q; exact absurd q q12
    · obtain ⟨f, p, r2, ⟨b1', b2', b3'⟩, h⟩ := h
      have l1 := h.1
      have l2 := h.2.1
      have l37 := h.2.2.2.2.2.2.2.2.2.2.2.2.2.2.2.2.2.2.2.2.2.2.2.2.2.2.2.2.2.2.2.2.2.2.2.2
      obtain ⟨s1, s2, s3⟩ := hs
      exact ⟨by rw [l37, b3'], by rw [l1, b1'], by rw [l2, b2', s1]⟩
  rw [once_0 h15 q12, bnd_r]
  rcases h with ⟨-, h⟩ | ⟨q, -⟩
  case inr => rw [b7] at q; exact absurd q12 q
  obtain ⟨nf, h⟩ := h
  have z12 : (F 12).toInt = 0 := by rw [le_I, zI] at q12; have := c12.1; omega
  have K := show_cl (a := a) (qpf := qpf) (le := le) (kd := kd) (sta := sta) (po := po) (va := va) (tk := tk) (ta := ta) (qpn := qpn) hn ht cN (hVn 2 (by first | decide | omega)) nf 9 0 F qpf 0 qpn kd sta po va tk ta a le (by rw [b7, z12]; rfl) (by decide) (by omega) (by omega) (fun i _ => rfl) (fun k hk => by omega) hs h
  have e : showS F T n (nx T n a) = showG T n 9 0 F (nx T n a) := rfl
  rw [e]
  rcases K with K | K
  case inr => exact Or.inr K
  refine Or.inl ?_
  cases hc : showG T n 9 0 F (nx T n a) with
  | inl e => rw [hc] at K; exact K
  | inr v =>
    rw [hc] at K
    refine exA30 (XF_r K) ?_
    intro x1 x2 x3 xs K hp i12 hQ q0 q1 q2 q3 q4 q5 q6 q7 q8 q9 q10 q11 q12 q13 q14 q15 q16 q17 q18 q19 q20 q21 q22
    refine ⟨x1, x2, x3, xs, ?_⟩
    show HRel v.1 ndk nmg ndg qrk qrg qmk qmg qwk qwg qpk qhnk qhtk qhjk qhmk qhbk qhsk qhck ∧ HV v.1 qrg qmg qwg qpg qhng qhtg qhjg qhmg qhbg qhsg qhcg
    rw [q0, q1, q2, q3, q4, q5, q6, q7, q8, q9, q10, q11, q12, q13, q14, q15, q16, q17, q18, q19, q20, q21, q22]
    have hW := HV_shows (G := v.1) (g := qpg) hV ⟨i6, i7, i8, i9, i10, i11, i13, i14⟩ c12 (fun i _ q1 q2 => K i q1 q2) (fun k hk => by have := hQ k hk; rw [K 2 (by first | decide | omega) (by first | decide | omega)]; exact this)
    refine ⟨HG hH0 h15 (K 15 (by first | decide | omega) (by first | decide | omega)) (K 6 (by first | decide | omega) (by first | decide | omega)) (K 7 (by first | decide | omega) (by first | decide | omega)) (K 11 (by first | decide | omega) (by first | decide | omega)) (fun i q => K i (by omega) (by omega)) (fun j q => K _ (by omega) (by omega)) (by rw [K 8 (by first | decide | omega) (by first | decide | omega)]; exact i8) (by rw [K 9 (by first | decide | omega) (by first | decide | omega)]; exact i9) (by rw [K 10 (by first | decide | omega) (by first | decide | omega)]; exact i10) ⟨by have := i12.1; omega, i12.2⟩ (by rw [K 13 (by first | decide | omega) (by first | decide | omega)]; exact i13) (by rw [K 14 (by first | decide | omega) (by first | decide | omega)]; exact i14) (by rw [K 8 (by first | decide | omega) (by first | decide | omega)]; exact b3) (by rw [K 9 (by first | decide | omega) (by first | decide | omega)]; exact b4) (by rw [K 10 (by first | decide | omega) (by first | decide | omega)]; exact b5) hp (by rw [K 13 (by first | decide | omega) (by first | decide | omega)]; exact b8) (by rw [K 14 (by first | decide | omega) (by first | decide | omega)]; exact b9) (by rw [K 134 (by first | decide | omega) (by first | decide | omega)]; exact cb) (fun j q => by rw [K 8 (by first | decide | omega) (by first | decide | omega)] at q; rw [K _ (by omega) (by omega), K _ (by omega) (by omega)]; exact cm j q) (fun j q => by rw [K 10 (by first | decide | omega) (by first | decide | omega)] at q; rw [K _ (by omega) (by omega), K _ (by omega) (by omega)]; exact cw j q) (fun _ => by have := i12.1; omega), hW⟩

set_option maxRecDepth 100000
set_option maxHeartbeats 4000000
theorem line_none {F T : Nat → Int32} {n a : Int32} (n0 : ¬ IsW T n a "house") (n1 : ¬ IsW T n a "reel") (n2 : ¬ IsW T n a "town") (n3 : ¬ IsW T n a "mark") (n4 : ¬ IsW T n a "join") (n5 : ¬ IsW T n a "weak") (n6 : ¬ IsW T n a "man") (n7 : ¬ IsW T n a "shows") (n8 : ¬ IsW T n a "boys") (n9 : ¬ IsW T n a "seen") (n10 : ¬ IsW T n a "scratch") : lineS F T n a = .inl (1, a) := by
  unfold lineS
  rw [if_neg n0, if_neg n1, if_neg n2, if_neg n3, if_neg n4, if_neg n5, if_neg n6, if_neg n7, if_neg n8, if_neg n9, if_neg n10]
theorem line_by {F T : Nat → Int32} {n a : Int32} (h : IsW T n a "by") : lineS F T n a = .inl (1, a) := by
  have e := h.2.1
  have n0 : ¬ IsW T n a "house" := fun q => absurd (e.symm.trans q.2.1) (by decide)
  have n1 : ¬ IsW T n a "reel" := fun q => absurd (e.symm.trans q.2.1) (by decide)
  have n2 : ¬ IsW T n a "town" := fun q => absurd (e.symm.trans q.2.1) (by decide)
  have n3 : ¬ IsW T n a "mark" := fun q => absurd (e.symm.trans q.2.1) (by decide)
  have n4 : ¬ IsW T n a "join" := fun q => absurd (e.symm.trans q.2.1) (by decide)
  have n5 : ¬ IsW T n a "weak" := fun q => absurd (e.symm.trans q.2.1) (by decide)
  have n6 : ¬ IsW T n a "man" := fun q => absurd (e.symm.trans q.2.1) (by decide)
  have n7 : ¬ IsW T n a "shows" := fun q => absurd (e.symm.trans q.2.1) (by decide)
  have n8 : ¬ IsW T n a "boys" := fun q => absurd (e.symm.trans q.2.1) (by decide)
  have n9 : ¬ IsW T n a "seen" := fun q => absurd (e.symm.trans q.2.1) (by decide)
  have n10 : ¬ IsW T n a "scratch" := fun q => absurd (e.symm.trans q.2.1) (by decide)
  exact line_none n0 n1 n2 n3 n4 n5 n6 n7 n8 n9 n10
theorem opn_6 {F T : Nat → Int32} {n c a : Int32} {x : Int32} (z : F 15 = 0) (hx : x = 0) (hc : 0 < c) : opnS F T n (bcap c x) a = .inl (6, a) := by
  unfold opnS bcap
  subst hx
  rw [if_neg (Int32.not_le.mpr hc), if_neg one0, if_pos z]
theorem once_6 {F T : Nat → Int32} {n a : Int32} {x : Int32} (z : F 15 = 0) (hx : x = 0) : onceS F T n (bpos x) a = .inl (6, a) := by
  unfold onceS bpos
  subst hx
  rw [if_pos (show (0 : Int32) ≤ 0 by decide), if_pos rfl, if_pos z]
theorem line_6 {F T : Nat → Int32} {n a : Int32} (z : F 15 = 0) (g : F 6 = 0 ∧ F 7 = 0 ∧ F 8 = 0 ∧ F 9 = 0 ∧ F 10 = 0 ∧ F 11 = 0 ∧ F 12 = 0 ∧ F 13 = 0 ∧ F 14 = 0 ∧ F 134 = 0) (h : ResW T n a) (nh : ¬ IsW T n a "house") (nb : ¬ IsW T n a "by") : lineS F T n a = .inl (6, a) := by
  obtain ⟨g6, g7, g8, g9, g10, g11, g12, g13, g14, g134⟩ := g
  unfold lineS
  rw [if_neg nh]
  by_cases n1 : IsW T n a "reel"
  case pos =>
    rw [if_pos n1]
    rw [opn_6 z g6 (by decide), bnd_l]
  rw [if_neg n1]
  by_cases n2 : IsW T n a "town"
  case pos =>
    rw [if_pos n2]
    rw [opn_6 z g7 (by decide), bnd_l]
  rw [if_neg n2]
  by_cases n3 : IsW T n a "mark"
  case pos =>
    rw [if_pos n3]
    rw [opn_6 z g8 (by decide), bnd_l]
  rw [if_neg n3]
  by_cases n4 : IsW T n a "join"
  case pos =>
    rw [if_pos n4]
    rw [opn_6 z g9 (by decide), bnd_l]
  rw [if_neg n4]
  by_cases n5 : IsW T n a "weak"
  case pos =>
    rw [if_pos n5]
    rw [opn_6 z g10 (by decide), bnd_l]
  rw [if_neg n5]
  by_cases n6 : IsW T n a "man"
  case pos =>
    rw [if_pos n6]
    rw [opn_6 z g11 (by decide), bnd_l]
  rw [if_neg n6]
  by_cases n7 : IsW T n a "shows"
  case pos =>
    rw [if_pos n7]
    rw [once_6 z g12, bnd_l]
  rw [if_neg n7]
  by_cases n8 : IsW T n a "boys"
  case pos =>
    rw [if_pos n8]
    rw [once_6 z g134, bnd_l]
  rw [if_neg n8]
  by_cases n9 : IsW T n a "seen"
  case pos =>
    rw [if_pos n9]
    unfold seenS
    rw [if_neg (by rw [g13]; decide), if_pos z]
  rw [if_neg n9]
  by_cases n10 : IsW T n a "scratch"
  case pos =>
    rw [if_pos n10]
    rw [opn_6 z g14 (by decide), bnd_l]
  rw [if_neg n10]
  exfalso
  rcases h with h | h | h | h | h | h | h | h | h | h | h | h
  · exact nh h
  · exact n1 h
  · exact n2 h
  · exact n3 h
  · exact n4 h
  · exact n5 h
  · exact n6 h
  · exact n7 h
  · exact n8 h
  · exact nb h
  · exact n9 h
  · exact n10 h
theorem qx_isLine {tp ndf qrf qmf qwf qpf qhnf qhtf qhjf qhmf qhbf qhsf qhcf ndg qrg qmg qwg qpg qhng qhtg qhjg qhmg qhbg qhsg qhcg F T : Nat → Int32} {nmf nmg : Nat → Int64} {le le2 : Int64} {fn fp n kd sta po va tk ta ndn qmd qtr qrn qmn qwn qpn qhnn qhtn qhjn qhmn qhbn qhsn qhcn fn2 fp2 kd2 sta2 po2 va2 tk2 ta2 ndk qrk qmk qwk qpk qmd2 qtr2 qhnk qhtk qhjk qhmk qhbk qhsk qhck r a : Int32} (hn : IV n 0 900) (ht : TpR tp T) (hH : HRel F ndn nmf ndf qrn qrf qmn qmf qwn qwf qpn qhnn qhtn qhjn qhmn qhbn qhsn qhcn) (hV : HV F qrf qmf qwf qpf qhnf qhtf qhjf qhmf qhbf qhsf qhcf) (hs : XS T n a kd sta po va le) (h : R_x_isLineX fn fp n kd sta po va le tk ta tp nmf ndn ndf qmd qtr qrn qrf qmn qmf qwn qwf qpn qpf qhnn qhnf qhtn qhtf qhjn qhjf qhmn qhmf qhbn qhbf qhsn qhsf qhcn qhcf fn2 fp2 kd2 sta2 po2 va2 le2 tk2 ta2 nmg ndg ndk qrg qmg qwg qpg qrk qmk qwk qpk qmd2 qtr2 qhng qhtg qhjg qhmg qhbg qhsg qhcg qhnk qhtk qhjk qhmk qhbk qhsk qhck r) : XF T n (lineS F T n a) fn fp r fn2 fp2 kd2 sta2 po2 va2 le2 (fun G => HRel G ndk nmg ndg qrk qrg qmk qmg qwk qwg qpk qhnk qhtk qhjk qhmk qhbk qhsk qhck ∧ HV G qrg qmg qwg qpg qhng qhtg qhjg qhmg qhbg qhsg qhcg) ∨ (∃ b9 : Int32, lineS F T n a = .inl (1, b9) ∧ r = 1 ∧ fn2 = fn ∧ fp2 = fp ∧ XS T n b9 kd2 sta2 po2 va2 le2 ∧ tkF T n b9 ≠ 3 ∧ tkF T n b9 ≠ 0) := by
  have hH0 := hH
  refine exA14 hH ?_
  clear hH
  intro zc1 zc2 zc3 c12 cb cr cm cw cN cd f1' f2' f3' g1' g2'
  refine exA1 zc1 ?_
  clear zc1
  intro a1 a2
  refine exA8 zc2 ?_
  clear zc2
  intro b1 b2 b3 b4 b5 b6 b7 b8 b9
  refine exA7 zc3 ?_
  clear zc3
  intro i6 i7 i8 i9 i10 i11 i13 i14
  have e8 : (8 : Int32).toInt = 8 := by decide
  have e6 : (6 : Int32).toInt = 6 := by decide
  unfold R_x_isLineX at h
  have sa := hs.1
  have hk := hs.2.2
  subst sa
  have ha := hs.2.1
  obtain ⟨r1, hr1, h⟩ := h
  rcases x_is_spec hn ha ht wok_house hk hr1 with ⟨q, c0⟩ | ⟨q, c0⟩
  case inl =>
    replace h := pk1 h q
    refine Or.inl ?_
    unfold lineS
    rw [if_pos c0]
    clear hr1 q
    refine exE37 h ?_
    clear h
    intro y1 y2 y3 y4 y5 y6 y7 y8 y9 y10 y11 y12 y13 y14 y15 y16 y17 y18 y19 y20 y21 y22 y23 y24 y25 y26 y27 y28 y29 y30 y31 y32 y33 y34 y35 y36 y37 hl h
    refine exA36 h ?_
    intro l1 l2 l3 l4 l5 l6 l7 l8 l9 l10 l11 l12 l13 l14 l15 l16 l17 l18 l19 l20 l21 l22 l23 l24 l25 l26 l27 l28 l29 l30 l31 l32 l33 l34 l35 l36 l37
    clear h
    subst l1 l2 l3 l4 l5 l6 l7 l8 l9 l10 l11 l12 l13 l14 l15 l16 l17 l18 l19 l20 l21 l22 l23 l24 l25 l26 l27 l28 l29 l30 l31 l32 l33 l34 l35 l36 l37
    exact qx_isHouseLine hn ht hH0 hV hs hl
  replace h := pf1 h q
  clear hr1 q
  obtain ⟨r1, hr1, h⟩ := h
  rcases x_is_spec hn ha ht wok_by hk hr1 with ⟨q, cby⟩ | ⟨q, cby⟩
  case inl =>
    replace h := pk2 h q
    refine Or.inl ?_
    rw [line_by cby]
    obtain ⟨f, p, r2, ⟨b1', b2', b3'⟩, h⟩ := h
    have l1 := h.1
    have l2 := h.2.1
    have l37 := h.2.2.2.2.2.2.2.2.2.2.2.2.2.2.2.2.2.2.2.2.2.2.2.2.2.2.2.2.2.2.2.2.2.2.2.2
    exact ⟨by rw [l37, b3'], by rw [l1, b1'], by rw [l2, b2']⟩
  replace h := pf2 h q
  clear hr1 q
  obtain ⟨r1, hr1, h⟩ := h
  rcases qx_reserved hn ht ha hk hr1 with ⟨q, cr0⟩ | ⟨q, cr0⟩
  case inr =>
    replace h := pf2 h q
    refine Or.inl ?_
    rw [line_none (fun w => cr0 (Or.inl w)) (fun w => cr0 (Or.inr (Or.inl w))) (fun w => cr0 (Or.inr (Or.inr (Or.inl w)))) (fun w => cr0 (Or.inr (Or.inr (Or.inr (Or.inl w))))) (fun w => cr0 (Or.inr (Or.inr (Or.inr (Or.inr (Or.inl w)))))) (fun w => cr0 (Or.inr (Or.inr (Or.inr (Or.inr (Or.inr (Or.inl w))))))) (fun w => cr0 (Or.inr (Or.inr (Or.inr (Or.inr (Or.inr (Or.inr (Or.inl w)))))))) (fun w => cr0 (Or.inr (Or.inr (Or.inr (Or.inr (Or.inr (Or.inr (Or.inr (Or.inl w))))))))) (fun w => cr0 (Or.inr (Or.inr (Or.inr (Or.inr (Or.inr (Or.inr (Or.inr (Or.inr (Or.inl w)))))))))) (fun w => cr0 (Or.inr (Or.inr (Or.inr (Or.inr (Or.inr (Or.inr (Or.inr (Or.inr (Or.inr (Or.inr (Or.inl w)))))))))))) (fun w => cr0 (Or.inr (Or.inr (Or.inr (Or.inr (Or.inr (Or.inr (Or.inr (Or.inr (Or.inr (Or.inr (Or.inr (w)))))))))))))]
    obtain ⟨f, p, r2, ⟨b1', b2', b3'⟩, h⟩ := h
    have l1 := h.1
    have l2 := h.2.1
    have l37 := h.2.2.2.2.2.2.2.2.2.2.2.2.2.2.2.2.2.2.2.2.2.2.2.2.2.2.2.2.2.2.2.2.2.2.2.2
    exact ⟨by rw [l37, b3'], by rw [l1, b1'], by rw [l2, b2']⟩
  replace h := pk2 h q
  clear hr1 q
  by_cases z15 : F 15 = 0
  case pos =>
    rcases h with ⟨q, -⟩ | ⟨-, h⟩
    · exact absurd (a1.trans z15) q
    refine Or.inl ?_
    rw [line_6 z15 (g1' z15) cr0 c0 cby]
    obtain ⟨f, p, r2, ⟨b1', b2', b3'⟩, h⟩ := h
    have l1 := h.1
    have l2 := h.2.1
    have l37 := h.2.2.2.2.2.2.2.2.2.2.2.2.2.2.2.2.2.2.2.2.2.2.2.2.2.2.2.2.2.2.2.2.2.2.2.2
    exact ⟨by rw [l37, b3'], by rw [l1, b1'], by rw [l2, b2']⟩
  rcases h with ⟨-, h⟩ | ⟨q, -⟩
  case inr => exact absurd (a1.symm.trans q) z15
  obtain ⟨r1, hr1, h⟩ := h
  rcases x_is_spec hn ha ht wok_reel hk hr1 with ⟨q, c1⟩ | ⟨q, c1⟩
  case inl =>
    replace h := pk1 h q
    clear hr1 q
    refine Or.inl ?_
    unfold lineS
    rw [if_neg c0, if_pos c1]
    refine exE37 h ?_
    clear h
    intro y1 y2 y3 y4 y5 y6 y7 y8 y9 y10 y11 y12 y13 y14 y15 y16 y17 y18 y19 y20 y21 y22 y23 y24 y25 y26 y27 y28 y29 y30 y31 y32 y33 y34 y35 y36 y37 hl h
    refine exA36 h ?_
    intro l1 l2 l3 l4 l5 l6 l7 l8 l9 l10 l11 l12 l13 l14 l15 l16 l17 l18 l19 l20 l21 l22 l23 l24 l25 l26 l27 l28 l29 l30 l31 l32 l33 l34 l35 l36 l37
    clear h
    subst l1 l2 l3 l4 l5 l6 l7 l8 l9 l10 l11 l12 l13 l14 l15 l16 l17 l18 l19 l20 l21 l22 l23 l24 l25 l26 l27 l28 l29 l30 l31 l32 l33 l34 l35 l36 l37
    exact qx_isReelLine hn ht hH0 hV z15 hs hl
  replace h := pf1 h q
  clear hr1 q
  obtain ⟨r1, hr1, h⟩ := h
  rcases x_is_spec hn ha ht wok_town hk hr1 with ⟨q, c2⟩ | ⟨q, c2⟩
  case inl =>
    replace h := pk1 h q
    clear hr1 q
    refine Or.inl ?_
    unfold lineS
    rw [if_neg c0, if_neg c1, if_pos c2]
    refine exE37 h ?_
    clear h
    intro y1 y2 y3 y4 y5 y6 y7 y8 y9 y10 y11 y12 y13 y14 y15 y16 y17 y18 y19 y20 y21 y22 y23 y24 y25 y26 y27 y28 y29 y30 y31 y32 y33 y34 y35 y36 y37 hl h
    refine exA36 h ?_
    intro l1 l2 l3 l4 l5 l6 l7 l8 l9 l10 l11 l12 l13 l14 l15 l16 l17 l18 l19 l20 l21 l22 l23 l24 l25 l26 l27 l28 l29 l30 l31 l32 l33 l34 l35 l36 l37
    clear h
    subst l1 l2 l3 l4 l5 l6 l7 l8 l9 l10 l11 l12 l13 l14 l15 l16 l17 l18 l19 l20 l21 l22 l23 l24 l25 l26 l27 l28 l29 l30 l31 l32 l33 l34 l35 l36 l37
    exact qx_isTownLine hn ht hH0 hV z15 hs hl
  replace h := pf1 h q
  clear hr1 q
  obtain ⟨r1, hr1, h⟩ := h
  rcases x_is_spec hn ha ht wok_mark hk hr1 with ⟨q, c3⟩ | ⟨q, c3⟩
  case inl =>
    replace h := pk1 h q
    clear hr1 q
    refine Or.inl ?_
    unfold lineS
    rw [if_neg c0, if_neg c1, if_neg c2, if_pos c3]
    refine exE37 h ?_
    clear h
    intro y1 y2 y3 y4 y5 y6 y7 y8 y9 y10 y11 y12 y13 y14 y15 y16 y17 y18 y19 y20 y21 y22 y23 y24 y25 y26 y27 y28 y29 y30 y31 y32 y33 y34 y35 y36 y37 hl h
    refine exA36 h ?_
    intro l1 l2 l3 l4 l5 l6 l7 l8 l9 l10 l11 l12 l13 l14 l15 l16 l17 l18 l19 l20 l21 l22 l23 l24 l25 l26 l27 l28 l29 l30 l31 l32 l33 l34 l35 l36 l37
    clear h
    subst l1 l2 l3 l4 l5 l6 l7 l8 l9 l10 l11 l12 l13 l14 l15 l16 l17 l18 l19 l20 l21 l22 l23 l24 l25 l26 l27 l28 l29 l30 l31 l32 l33 l34 l35 l36 l37
    exact qx_isMarkLine hn ht hH0 hV z15 hs hl
  replace h := pf1 h q
  clear hr1 q
  obtain ⟨r1, hr1, h⟩ := h
  rcases x_is_spec hn ha ht wok_join hk hr1 with ⟨q, c4⟩ | ⟨q, c4⟩
  case inl =>
    replace h := pk1 h q
    clear hr1 q
    refine Or.inl ?_
    unfold lineS
    rw [if_neg c0, if_neg c1, if_neg c2, if_neg c3, if_pos c4]
    refine exE37 h ?_
    clear h
    intro y1 y2 y3 y4 y5 y6 y7 y8 y9 y10 y11 y12 y13 y14 y15 y16 y17 y18 y19 y20 y21 y22 y23 y24 y25 y26 y27 y28 y29 y30 y31 y32 y33 y34 y35 y36 y37 hl h
    refine exA36 h ?_
    intro l1 l2 l3 l4 l5 l6 l7 l8 l9 l10 l11 l12 l13 l14 l15 l16 l17 l18 l19 l20 l21 l22 l23 l24 l25 l26 l27 l28 l29 l30 l31 l32 l33 l34 l35 l36 l37
    clear h
    subst l1 l2 l3 l4 l5 l6 l7 l8 l9 l10 l11 l12 l13 l14 l15 l16 l17 l18 l19 l20 l21 l22 l23 l24 l25 l26 l27 l28 l29 l30 l31 l32 l33 l34 l35 l36 l37
    exact qx_isJoinLine hn ht hH0 hV z15 hs hl
  replace h := pf1 h q
  clear hr1 q
  obtain ⟨r1, hr1, h⟩ := h
  rcases x_is_spec hn ha ht wok_weak hk hr1 with ⟨q, c5⟩ | ⟨q, c5⟩
  case inl =>
    replace h := pk1 h q
    clear hr1 q
    refine Or.inl ?_
    unfold lineS
    rw [if_neg c0, if_neg c1, if_neg c2, if_neg c3, if_neg c4, if_pos c5]
    refine exE37 h ?_
    clear h
    intro y1 y2 y3 y4 y5 y6 y7 y8 y9 y10 y11 y12 y13 y14 y15 y16 y17 y18 y19 y20 y21 y22 y23 y24 y25 y26 y27 y28 y29 y30 y31 y32 y33 y34 y35 y36 y37 hl h
    refine exA36 h ?_
    intro l1 l2 l3 l4 l5 l6 l7 l8 l9 l10 l11 l12 l13 l14 l15 l16 l17 l18 l19 l20 l21 l22 l23 l24 l25 l26 l27 l28 l29 l30 l31 l32 l33 l34 l35 l36 l37
    clear h
    subst l1 l2 l3 l4 l5 l6 l7 l8 l9 l10 l11 l12 l13 l14 l15 l16 l17 l18 l19 l20 l21 l22 l23 l24 l25 l26 l27 l28 l29 l30 l31 l32 l33 l34 l35 l36 l37
    exact qx_isWeakLine hn ht hH0 hV z15 hs hl
  replace h := pf1 h q
  clear hr1 q
  obtain ⟨r1, hr1, h⟩ := h
  rcases x_is_spec hn ha ht wok_man hk hr1 with ⟨q, c6⟩ | ⟨q, c6⟩
  case inl =>
    replace h := pk1 h q
    clear hr1 q
    refine Or.inl ?_
    unfold lineS
    rw [if_neg c0, if_neg c1, if_neg c2, if_neg c3, if_neg c4, if_neg c5, if_pos c6]
    refine exE37 h ?_
    clear h
    intro y1 y2 y3 y4 y5 y6 y7 y8 y9 y10 y11 y12 y13 y14 y15 y16 y17 y18 y19 y20 y21 y22 y23 y24 y25 y26 y27 y28 y29 y30 y31 y32 y33 y34 y35 y36 y37 hl h
    refine exA36 h ?_
    intro l1 l2 l3 l4 l5 l6 l7 l8 l9 l10 l11 l12 l13 l14 l15 l16 l17 l18 l19 l20 l21 l22 l23 l24 l25 l26 l27 l28 l29 l30 l31 l32 l33 l34 l35 l36 l37
    clear h
    subst l1 l2 l3 l4 l5 l6 l7 l8 l9 l10 l11 l12 l13 l14 l15 l16 l17 l18 l19 l20 l21 l22 l23 l24 l25 l26 l27 l28 l29 l30 l31 l32 l33 l34 l35 l36 l37
    exact qx_isManLine hn ht hH0 hV z15 hs hl
  replace h := pf1 h q
  clear hr1 q
  obtain ⟨r1, hr1, h⟩ := h
  rcases x_is_spec hn ha ht wok_shows hk hr1 with ⟨q, c7⟩ | ⟨q, c7⟩
  case inl =>
    replace h := pk1 h q
    clear hr1 q
    unfold lineS
    rw [if_neg c0, if_neg c1, if_neg c2, if_neg c3, if_neg c4, if_neg c5, if_neg c6, if_pos c7]
    refine exE37 h ?_
    clear h
    intro y1 y2 y3 y4 y5 y6 y7 y8 y9 y10 y11 y12 y13 y14 y15 y16 y17 y18 y19 y20 y21 y22 y23 y24 y25 y26 y27 y28 y29 y30 y31 y32 y33 y34 y35 y36 y37 hl h
    refine exA36 h ?_
    intro l1 l2 l3 l4 l5 l6 l7 l8 l9 l10 l11 l12 l13 l14 l15 l16 l17 l18 l19 l20 l21 l22 l23 l24 l25 l26 l27 l28 l29 l30 l31 l32 l33 l34 l35 l36 l37
    clear h
    subst l1 l2 l3 l4 l5 l6 l7 l8 l9 l10 l11 l12 l13 l14 l15 l16 l17 l18 l19 l20 l21 l22 l23 l24 l25 l26 l27 l28 l29 l30 l31 l32 l33 l34 l35 l36 l37
    exact qx_isShowsLine hn ht hH0 hV z15 hs hl
  replace h := pf1 h q
  clear hr1 q
  obtain ⟨r1, hr1, h⟩ := h
  rcases x_is_spec hn ha ht wok_boys hk hr1 with ⟨q, c8⟩ | ⟨q, c8⟩
  case inl =>
    replace h := pk1 h q
    clear hr1 q
    refine Or.inl ?_
    unfold lineS
    rw [if_neg c0, if_neg c1, if_neg c2, if_neg c3, if_neg c4, if_neg c5, if_neg c6, if_neg c7, if_pos c8]
    refine exE37 h ?_
    clear h
    intro y1 y2 y3 y4 y5 y6 y7 y8 y9 y10 y11 y12 y13 y14 y15 y16 y17 y18 y19 y20 y21 y22 y23 y24 y25 y26 y27 y28 y29 y30 y31 y32 y33 y34 y35 y36 y37 hl h
    refine exA36 h ?_
    intro l1 l2 l3 l4 l5 l6 l7 l8 l9 l10 l11 l12 l13 l14 l15 l16 l17 l18 l19 l20 l21 l22 l23 l24 l25 l26 l27 l28 l29 l30 l31 l32 l33 l34 l35 l36 l37
    clear h
    subst l1 l2 l3 l4 l5 l6 l7 l8 l9 l10 l11 l12 l13 l14 l15 l16 l17 l18 l19 l20 l21 l22 l23 l24 l25 l26 l27 l28 l29 l30 l31 l32 l33 l34 l35 l36 l37
    exact qx_isBoysLine hn ht hH0 hV z15 hs hl
  replace h := pf1 h q
  clear hr1 q
  obtain ⟨r1, hr1, h⟩ := h
  rcases x_is_spec hn ha ht wok_seen hk hr1 with ⟨q, c9⟩ | ⟨q, c9⟩
  case inl =>
    replace h := pk1 h q
    clear hr1 q
    refine Or.inl ?_
    unfold lineS
    rw [if_neg c0, if_neg c1, if_neg c2, if_neg c3, if_neg c4, if_neg c5, if_neg c6, if_neg c7, if_neg c8, if_pos c9]
    refine exE37 h ?_
    clear h
    intro y1 y2 y3 y4 y5 y6 y7 y8 y9 y10 y11 y12 y13 y14 y15 y16 y17 y18 y19 y20 y21 y22 y23 y24 y25 y26 y27 y28 y29 y30 y31 y32 y33 y34 y35 y36 y37 hl h
    refine exA36 h ?_
    intro l1 l2 l3 l4 l5 l6 l7 l8 l9 l10 l11 l12 l13 l14 l15 l16 l17 l18 l19 l20 l21 l22 l23 l24 l25 l26 l27 l28 l29 l30 l31 l32 l33 l34 l35 l36 l37
    clear h
    subst l1 l2 l3 l4 l5 l6 l7 l8 l9 l10 l11 l12 l13 l14 l15 l16 l17 l18 l19 l20 l21 l22 l23 l24 l25 l26 l27 l28 l29 l30 l31 l32 l33 l34 l35 l36 l37
    exact qx_isSeenLine hn ht hH0 hV z15 hs hl
  replace h := pf1 h q
  clear hr1 q
  have c10 : IsW T n sta "scratch" := by
    rcases cr0 with h | h | h | h | h | h | h | h | h | h | h | h
    · exact absurd h c0
    · exact absurd h c1
    · exact absurd h c2
    · exact absurd h c3
    · exact absurd h c4
    · exact absurd h c5
    · exact absurd h c6
    · exact absurd h c7
    · exact absurd h c8
    · exact absurd h cby
    · exact absurd h c9
    · exact h
  refine Or.inl ?_
  unfold lineS
  rw [if_neg c0, if_neg c1, if_neg c2, if_neg c3, if_neg c4, if_neg c5, if_neg c6, if_neg c7, if_neg c8, if_neg c9, if_pos c10]
  refine exE37 h ?_
  clear h
  intro y1 y2 y3 y4 y5 y6 y7 y8 y9 y10 y11 y12 y13 y14 y15 y16 y17 y18 y19 y20 y21 y22 y23 y24 y25 y26 y27 y28 y29 y30 y31 y32 y33 y34 y35 y36 y37 hl h
  refine exA36 h ?_
  intro l1 l2 l3 l4 l5 l6 l7 l8 l9 l10 l11 l12 l13 l14 l15 l16 l17 l18 l19 l20 l21 l22 l23 l24 l25 l26 l27 l28 l29 l30 l31 l32 l33 l34 l35 l36 l37
  clear h
  subst l1 l2 l3 l4 l5 l6 l7 l8 l9 l10 l11 l12 l13 l14 l15 l16 l17 l18 l19 l20 l21 l22 l23 l24 l25 l26 l27 l28 l29 l30 l31 l32 l33 l34 l35 l36 l37
  exact qx_isScratchLine hn ht hH0 hV z15 hs hl

set_option maxRecDepth 100000
set_option maxHeartbeats 4000000
/-- what is read ends no earlier than it begins -/
def Up {α : Type} (p : α → Int32) (a : Int32) (σ : Rs α) : Prop := ∀ v : α, σ = .inr v → a.toInt ≤ (p v).toInt ∧ IV (p v) 0 900
theorem up_l {α : Type} {p : α → Int32} {a : Int32} {e : Int32 × Int32} : Up p a (.inl e) := fun v h => by cases h
theorem up_r {α : Type} {p : α → Int32} {a : Int32} {v : α} (h1 : IV (p v) 0 900) (h2 : a.toInt ≤ (p v).toInt) : Up p a (.inr v) := fun w h => by
  have := Sum.inr.inj h; subst this; exact ⟨h2, h1⟩
theorem up_rp {α : Type} {x : α} {a b : Int32} (h1 : IV b 0 900) (h2 : a.toInt ≤ b.toInt) : Up Prod.snd a (.inr (x, b)) := up_r (p := Prod.snd) h1 h2
theorem up_le {α : Type} {p : α → Int32} {a b : Int32} {σ : Rs α} (h : a.toInt ≤ b.toInt) (hu : Up p b σ) : Up p a σ := fun v q => ⟨by have := (hu v q).1; omega, (hu v q).2⟩
theorem up_bnd {α β : Type} {p : α → Int32} {q : β → Int32} {a : Int32} {x : Rs α} {f : α → Rs β} (hx : Up p a x) (hf : ∀ u : α, IV (p u) 0 900 → Up q (p u) (f u)) : Up q a (bnd x f) := by
  intro v h
  cases x with
  | inl e => rw [bnd_l] at h; cases h
  | inr u =>
    rw [bnd_r] at h
    have h1 := hx u rfl
    have h2 := hf u h1.2 v h
    exact ⟨by omega, h2.2⟩
theorem up_bnd0 {α β : Type} {q : β → Int32} {a : Int32} {x : Rs α} {f : α → Rs β} (hf : ∀ u : α, Up q a (f u)) : Up q a (bnd x f) := by
  intro v h
  cases x with
  | inl e => rw [bnd_l] at h; cases h
  | inr u => rw [bnd_r] at h; exact hf u v h
theorem up_ite {α : Type} {p : α → Int32} {a : Int32} {c : Prop} {d : Decidable c} {x y : Rs α} (hx : Up p a x) (hy : Up p a y) : Up p a (@ite _ c d x y) := by
  by_cases q : c
  · rw [if_pos q]; exact hx
  · rw [if_neg q]; exact hy
theorem nx_ge {T : Nat → Int32} {n a : Int32} (hn : IV n 0 900) (ha : IV a 0 900) : a.toInt ≤ (nx T n a).toInt := by
  have h1 := ed_iv (T := T) hn ha
  have := rn_ge (T := T) (k := 5) hn (by decide) (ed_iv' (T := T) hn ha)
  unfold nx
  omega
theorem nx_semi {T : Nat → Int32} {n a : Int32} (hn : IV n 0 900) (ha : IV a 0 900) (h : tkF T n a = 3) : a.toInt < n.toInt ∧ a.toInt < (nx T n a).toInt := by
  have k1 : kc (lookF T n a) ≠ 1 := fun q => by unfold tkF at h; rw [if_pos q] at h; split at h <;> exact absurd h (by decide)
  have k2 : kc (lookF T n a) ≠ 2 := fun q => by unfold tkF at h; rw [if_neg k1, if_pos q] at h; split at h <;> exact absurd h (by decide)
  have k3 : kc (lookF T n a) = 3 := by unfold tkF at h; rw [if_neg k1, if_neg k2] at h; exact h
  have k0 : kc (lookF T n a) ≠ 0 := by rw [k3]; decide
  have l := (look_in k0).1
  have e := inc1 (u := a) (z := a + 1) (a := 0) (b := 900) ha (by have := hn.2; omega) (by omega) rfl
  have d : edF T n a = a + 1 := by unfold edF; rw [if_neg k1, if_neg k2, if_neg k0]
  have := rn_ge (T := T) (k := 5) hn (by decide) (ed_iv' (T := T) hn ha)
  refine ⟨l, ?_⟩
  unfold nx
  rw [d] at this ⊢
  omega
theorem up_nx {T : Nat → Int32} {n a : Int32} (hn : IV n 0 900) (ha : IV a 0 900) : Up id a (.inr (nx T n a)) := up_r (nx_iv hn ha) (nx_ge hn ha)
theorem up_at {α : Type} {F : α} {b : Int32} (hb : IV b 0 900) : Up Prod.snd b (.inr (F, b)) := up_r hb (Int.le_refl _)
theorem up_lab {T : Nat → Int32} {n a : Int32} {w : String} (hn : IV n 0 900) (ha : IV a 0 900) : Up id a (labS T n w a) := up_ite (up_nx hn ha) up_l
theorem up_num {T : Nat → Int32} {n lo hi a : Int32} (hn : IV n 0 900) (ha : IV a 0 900) : Up Prod.snd a (numS T n lo hi a) := up_bnd0 (fun u => up_rp (nx_iv hn ha) (nx_ge hn ha))
theorem up_aft {T : Nat → Int32} {n lo hi a : Int32} {w : String} (hn : IV n 0 900) (ha : IV a 0 900) : Up Prod.snd a (aftS T n w lo hi a) := up_bnd (up_lab hn ha) (fun u hu => up_num hn hu)
theorem up_new {F T : Nat → Int32} {n a : Int32} {s : Nat} (hn : IV n 0 900) (ha : IV a 0 900) : Up Prod.snd a (newS F T n s a) := up_ite (up_ite (up_rp (nx_iv hn ha) (nx_ge hn ha)) up_l) up_l
theorem up_reel {F T : Nat → Int32} {n a : Int32} (hn : IV n 0 900) (ha : IV a 0 900) : Up Prod.snd a (reelP F T n a) := up_bnd0 (fun u => up_rp (nx_iv hn ha) (nx_ge hn ha))
theorem up_opn {F T : Nat → Int32} {n p a : Int32} (hn : IV n 0 900) (ha : IV a 0 900) : Up id a (opnS F T n p a) := up_ite up_l (up_ite up_l (up_nx hn ha))
theorem up_once {F T : Nat → Int32} {n p a : Int32} (hn : IV n 0 900) (ha : IV a 0 900) : Up id a (onceS F T n p a) := up_ite (up_ite up_l (up_nx hn ha)) up_l
theorem up_house {F T : Nat → Int32} {n a : Int32} (hn : IV n 0 900) (ha : IV a 0 900) : Up Prod.snd a (houseS F T n a) :=
  up_ite up_l (up_le (nx_ge hn ha) (up_bnd (up_aft hn (nx_iv hn ha)) (fun u1 h1 => up_bnd (up_aft hn h1) (fun u2 h2 => up_bnd (up_aft hn h2) (fun u3 h3 => up_bnd (up_aft hn h3) (fun u4 h4 => up_bnd (up_aft hn h4) (fun u5 h5 => up_bnd (up_aft hn h5) (fun u6 h6 => up_at h6))))))))
theorem up_reelS {F T : Nat → Int32} {n a : Int32} (hn : IV n 0 900) (ha : IV a 0 900) : Up Prod.snd a (reelS F T n a) :=
  up_bnd (up_new hn ha) (fun u1 h1 => up_bnd (up_aft hn h1) (fun u2 h2 => up_bnd (up_aft hn h2) (fun u3 h3 => up_bnd (up_aft hn h3) (fun u4 h4 => up_at h4))))
theorem up_townS {F T : Nat → Int32} {n a : Int32} (hn : IV n 0 900) (ha : IV a 0 900) : Up Prod.snd a (townS F T n a) :=
  up_bnd (up_new hn ha) (fun u1 h1 => up_bnd (up_aft hn h1) (fun u4 h4 => up_at h4))
theorem up_boysS {F T : Nat → Int32} {n a : Int32} (hn : IV n 0 900) (ha : IV a 0 900) : Up Prod.snd a (boysS F T n a) :=
  up_bnd (up_num hn ha) (fun u1 h1 => up_bnd (up_aft hn h1) (fun u2 h2 => up_bnd (up_aft hn h2) (fun u4 h4 => up_at h4)))
theorem up_seenS {F T : Nat → Int32} {n a : Int32} (hn : IV n 0 900) (ha : IV a 0 900) : Up Prod.snd a (seenS F T n a) :=
  up_ite up_l (up_ite up_l (up_ite up_l (up_le (nx_ge hn ha) (up_bnd (up_num hn (nx_iv hn ha)) (fun u1 h1 => up_bnd (up_aft hn h1) (fun u2 h2 => up_bnd (up_aft hn h2) (fun u4 h4 => up_at h4)))))))
theorem up_joinS {F T : Nat → Int32} {n a : Int32} (hn : IV n 0 900) (ha : IV a 0 900) : Up Prod.snd a (joinS F T n a) :=
  up_bnd (up_reel hn ha) (fun u1 h1 => up_bnd (up_num hn h1) (fun u2 h2 => up_bnd (up_aft hn h2) (fun u4 h4 => up_at h4)))
theorem up_scratchS {F T : Nat → Int32} {n a : Int32} (hn : IV n 0 900) (ha : IV a 0 900) : Up Prod.snd a (scratchS F T n a) :=
  up_bnd (up_reel hn ha) (fun u1 h1 => up_bnd (up_num hn h1) (fun u4 h4 => up_at h4))
theorem up_markS {F T : Nat → Int32} {n a : Int32} (hn : IV n 0 900) (ha : IV a 0 900) : Up Prod.snd a (markS F T n a) :=
  up_bnd (up_reel hn ha) (fun u1 h1 => up_bnd (up_num hn h1) (fun u2 h2 => up_bnd (up_lab hn h2) (fun b hb => up_bnd0 (fun tw => up_ite up_l (up_rp (nx_iv hn hb) (nx_ge hn hb))))))
theorem up_weakS {F T : Nat → Int32} {n a : Int32} (hn : IV n 0 900) (ha : IV a 0 900) : Up Prod.snd a (weakS F T n a) :=
  up_bnd (up_reel hn ha) (fun u1 h1 => up_bnd0 (fun fr => up_ite up_l (up_le (nx_ge hn h1) (up_bnd (up_aft hn (nx_iv hn h1)) (fun u4 h4 => up_at h4)))))
theorem up_manE {F0 T : Nat → Int32} {n kind town c a : Int32} {s : Nat} (hn : IV n 0 900) (ha : IV a 0 900) : Up Prod.snd a (manE F0 T n s kind town c a) :=
  up_bnd (up_aft hn ha) (fun u4 h4 => up_at h4)
theorem up_manS {F T : Nat → Int32} {n a : Int32} (hn : IV n 0 900) (ha : IV a 0 900) : Up Prod.snd a (manS F T n a) :=
  up_bnd (up_new hn ha) (fun u1 h1 => up_ite (up_le (nx_ge hn h1) (up_manE hn (nx_iv hn h1))) (up_ite (up_le (nx_ge hn h1) (up_manE hn (nx_iv hn h1))) (up_ite (up_le (nx_ge hn h1) (up_manE hn (nx_iv hn h1))) (up_ite (up_bnd0 (fun tw => up_le (nx_ge hn h1) (up_le (nx_ge hn (nx_iv hn h1)) (up_manE hn (nx_iv hn (nx_iv hn h1)))))) up_l))))
theorem up_showE {F T : Nat → Int32} {n b : Int32} {m : Nat} (hb : IV b 0 900) : Up Prod.snd b (showE T n m F b) := up_ite (up_ite up_l (up_ite up_l up_l)) (up_at hb)
theorem up_showG {T : Nat → Int32} {n : Int32} (hn : IV n 0 900) : ∀ (g m : Nat) (F : Nat → Int32) (a : Int32), IV a 0 900 → Up Prod.snd a (showG T n g m F a) := by
  intro g
  induction g with
  | zero => intro m F a _; rw [showG]; exact up_l
  | succ g ih =>
    intro m F a ha
    rw [showG]
    have i1 := nx_iv (T := T) hn ha
    have i2 := nx_iv (T := T) hn i1
    exact up_bnd0 (fun r => up_ite up_l (up_ite (up_le (nx_ge hn ha) (up_le (nx_ge hn i1) (ih _ _ _ i2))) (up_le (nx_ge hn ha) (up_showE i1))))
theorem up_line {F T : Nat → Int32} {n a : Int32} (hn : IV n 0 900) (ha : IV a 0 900) : Up Prod.snd a (lineS F T n a) := by
  unfold lineS
  refine up_ite (up_house hn ha) (up_ite (up_bnd (up_opn hn ha) (fun u h => up_reelS hn h)) (up_ite (up_bnd (up_opn hn ha) (fun u h => up_townS hn h)) (up_ite (up_bnd (up_opn hn ha) (fun u h => up_markS hn h)) (up_ite (up_bnd (up_opn hn ha) (fun u h => up_joinS hn h)) (up_ite (up_bnd (up_opn hn ha) (fun u h => up_weakS hn h)) (up_ite (up_bnd (up_opn hn ha) (fun u h => up_manS hn h)) (up_ite (up_bnd (up_once hn ha) (fun u h => up_showG hn 9 0 F u h)) (up_ite (up_bnd (up_once hn ha) (fun u h => up_boysS hn h)) (up_ite (up_seenS hn ha) (up_ite (up_bnd (up_opn hn ha) (fun u h => up_scratchS hn h)) up_l))))))))))
/-- a whole text from the token at a: a fault, or what has been read -/
def TxR (T : Nat → Int32) (n : Int32) : Nat → (Nat → Int32) → Int32 → Rs ((Nat → Int32) × Int32) → Prop
  | 0, _, _, _ => False
  | k + 1, F, a, ρ => FIv F ∧ ((∃ e : Int32 × Int32, lineS F T n a = .inl e ∧ ρ = .inl e) ∨ (∃ v : (Nat → Int32) × Int32, lineS F T n a = .inr v ∧ ((tkF T n v.2 = 3 ∧ TxR T n k v.1 (nx T n v.2) ρ) ∨ (tkF T n v.2 = 0 ∧ ((v.1 12 = 0 ∨ v.1 11 = 0) ∧ ρ = .inl (6, v.2) ∨ (v.1 15 ≠ 0 ∧ v.1 12 ≠ 0 ∧ v.1 11 ≠ 0) ∧ ρ = .inr v)) ∨ (tkF T n v.2 ≠ 3 ∧ tkF T n v.2 ≠ 0 ∧ ρ = .inl (1, v.2)))))

theorem bnd_i {α β : Type} {x : Rs α} {f : α → Rs β} {v : β} (h : bnd x f = .inr v) : ∃ a : α, x = .inr a ∧ f a = .inr v := by
  cases x with
  | inl e => cases h
  | inr a => exact ⟨a, rfl, h⟩
theorem opn_i {F T : Nat → Int32} {n c x a b : Int32} (h : opnS F T n (bcap c x) a = .inr b) : x.toInt < c.toInt := by
  unfold opnS bcap at h
  by_cases q : c ≤ x
  · rw [if_pos q, if_pos rfl] at h; cases h
  · rw [le_I] at q; omega
def Lt (F : Nat → Int32) (x y : Nat) : Prop := 0 ≤ (F x).toInt ∧ (F x).toInt < (F y).toInt
def RC (F : Nat → Int32) (c b w y : Nat) : Prop := ∀ k : Nat, (k : Int) < (F c).toInt → Lt F (b + w * k) y
def RV0 (F : Nat → Int32) : Prop := RC F 8 44 3 6 ∧ RC F 8 46 3 7 ∧ RC F 9 80 2 6 ∧ RC F 10 96 3 6 ∧ RC F 12 126 1 6 ∧ RC F 14 155 2 6 ∧ (∀ k : Nat, (k : Int) < (F 11).toInt → F (114 + 3 * k) = 3 → Lt F (114 + 3 * k + 1) 7)
theorem RC_keep {F G : Nat → Int32} {c b w y cap : Nat} (h : RC F c b w y) (hc : G c = F c) (hcap : (F c).toInt ≤ cap) (gy : (F y).toInt ≤ (G y).toInt) (K : ∀ i : Nat, b ≤ i → i < b + w * cap + 1 - w → G i = F i) : RC G c b w y := by
  intro k hk
  rw [hc] at hk
  have h1 : w * k + w ≤ w * cap := by
    have : w * (k + 1) ≤ w * cap := Nat.mul_le_mul_left w (by omega)
    rw [Nat.mul_add, Nat.mul_one] at this
    exact this
  obtain ⟨a1, a2⟩ := h k hk
  unfold Lt
  rw [K _ (by omega) (by omega)]
  exact ⟨a1, by omega⟩
theorem RC_add {F G : Nat → Int32} {c b w y m : Nat} (hw : 1 ≤ w) (h : RC F c b w y) (hm : (F c).toInt = m) (hc : (G c).toInt = m + 1) (gy : (F y).toInt ≤ (G y).toInt) (K : ∀ i : Nat, b ≤ i → i < b + w * m + 1 - w → G i = F i) (hn : Lt G (b + w * m) y) : RC G c b w y := by
  intro k hk
  by_cases q : k = m
  · subst q; exact hn
  · have h1 : w * k + w ≤ w * m := by
      have : w * (k + 1) ≤ w * m := Nat.mul_le_mul_left w (by omega)
      rw [Nat.mul_add, Nat.mul_one] at this
      exact this
    obtain ⟨a1, a2⟩ := h k (by omega)
    unfold Lt
    rw [K _ (by omega) (by omega)]
    exact ⟨a1, by omega⟩
theorem old_lt {F T : Nat → Int32} {n a : Int32} {v : Int32} (hf : ∀ j : Nat, j < 4 → (F 7).toInt ≤ j → ¬ 0 < (F (175 + j)).toInt) (h : oldS F T n 8 11 a = .inr v) : 0 ≤ v.toInt ∧ v.toInt < (F 7).toInt := by
  unfold oldS at h
  by_cases ok : NameOk T n a
  · rw [if_pos ok] at h
    by_cases q1 : findS F T n a < 8
    · rw [if_pos q1] at h; cases h
    · rw [if_neg q1] at h
      by_cases q2 : (11 : Int32) < findS F T n a
      · rw [if_pos q2] at h; cases h
      · rw [if_neg q2] at h
        have e := Sum.inr.inj h
        have o8 : (8 : Int32).toInt = 8 := by decide
        have o11 : (11 : Int32).toInt = 11 := by decide
        rw [lt_I, o8] at q1
        rw [lt_I, o11] at q2
        obtain ⟨i, i1, i2, i3⟩ := findG_at (F := F) (T := T) (n := n) (a := a) 16 0 (by first | decide | omega) (fun w => by
          have : findS F T n a < 0 := w
          rw [lt_I, zI] at this; omega)
        have i2 : findS F T n a = nI i := i2
        rw [i2, nIt (by omega)] at q1 q2
        rw [i2] at e
        have ev : v.toInt = i - 8 := by rw [← e, subI (by rw [nIt (by omega), o8]; omega) (by rw [nIt (by omega), o8]; omega), nIt (by omega), o8]
        refine ⟨by omega, ?_⟩
        by_cases q : (F 7).toInt ≤ ((i - 8 : Nat) : Int)
        · have := hf (i - 8) (by omega) q
          rw [show 175 + (i - 8) = 167 + i by omega] at this
          exact absurd i3.1 this
        · omega
  · rw [if_neg ok] at h; cases h
theorem RV0_keep {F G : Nat → Int32} (hB : FIv F) (h12 : IV (F 12) 0 8) (hR : RV0 F) (gy6 : (F 6).toInt ≤ (G 6).toInt) (gy7 : (F 7).toInt ≤ (G 7).toInt) (K : ∀ i : Nat, (i = 8 ∨ i = 9 ∨ i = 10 ∨ i = 11 ∨ i = 12 ∨ i = 14 ∨ (44 ≤ i ∧ i < 134) ∨ (155 ≤ i ∧ i < 167)) → G i = F i) : RV0 G := by
  obtain ⟨c1, c2, c3, c4, c5, c6, c7⟩ := hR
  exact ⟨RC_keep (cap := 12) c1 (K 8 (by first | decide | omega)) hB.2.2.1.2 (gy6) (fun i q1 q2 => K i (by omega)), RC_keep (cap := 12) c2 (K 8 (by first | decide | omega)) hB.2.2.1.2 (gy7) (fun i q1 q2 => K i (by omega)), RC_keep (cap := 8) c3 (K 9 (by first | decide | omega)) hB.2.2.2.1.2 (gy6) (fun i q1 q2 => K i (by omega)), RC_keep (cap := 6) c4 (K 10 (by first | decide | omega)) hB.2.2.2.2.1.2 (gy6) (fun i q1 q2 => K i (by omega)), RC_keep (cap := 8) c5 (K 12 (by first | decide | omega)) h12.2 (gy6) (fun i q1 q2 => K i (by omega)), RC_keep (cap := 6) c6 (K 14 (by first | decide | omega)) hB.2.2.2.2.2.2.2.2 (gy6) (fun i q1 q2 => K i (by omega)), (fun k hk q => by have j11 : (F 11).toInt ≤ 4 := hB.2.2.2.2.2.1.2; rw [K 11 (by first | decide | omega)] at hk; rw [K (114 + 3 * k) (by omega)] at q; have := c7 k hk q; unfold Lt at this ⊢; rw [K (114 + 3 * k + 1) (by omega)]; exact ⟨this.1, by omega⟩)⟩
theorem RV0_mark {F G : Nat → Int32} {m : Nat} (hB : FIv F) (h12 : IV (F 12) 0 8) (hR : RV0 F) (hm : (F 8).toInt = m) (lt : m < 12) (KX : (G 8).toInt = m + 1) (KS : ∀ i : Nat, i < 167 → i ≠ 8 → (i < 44 + 3 * m ∨ 44 + 3 * m + 3 ≤ i) → G i = F i) (k1 : Lt G (44 + 3 * m) 6) (k2 : Lt G (44 + 3 * m + 2) 7) : RV0 G := by
  obtain ⟨c1, c2, c3, c4, c5, c6, c7⟩ := hR
  have gy6 : (F 6).toInt ≤ (G 6).toInt := by rw [KS 6 (by first | decide | omega) (by first | decide | omega) (by first | decide | omega)]; exact Int.le_refl _
  have gy7 : (F 7).toInt ≤ (G 7).toInt := by rw [KS 7 (by first | decide | omega) (by first | decide | omega) (by first | decide | omega)]; exact Int.le_refl _
  exact ⟨RC_add (m := m) (by omega) c1 hm KX (gy6) (fun i q1 q2 => KS i (by omega) (by omega) (by omega)) k1, RC_add (m := m) (by omega) c2 hm KX (gy7) (fun i q1 q2 => KS i (by omega) (by omega) (by omega)) (by have := k2; rw [show 44 + 3 * m + 2 = 46 + 3 * m by omega] at this; exact this), RC_keep (cap := 8) c3 (KS 9 (by first | decide | omega) (by first | decide | omega) (by first | decide | omega)) hB.2.2.2.1.2 (gy6) (fun i q1 q2 => KS i (by omega) (by omega) (by omega)), RC_keep (cap := 6) c4 (KS 10 (by first | decide | omega) (by first | decide | omega) (by first | decide | omega)) hB.2.2.2.2.1.2 (gy6) (fun i q1 q2 => KS i (by omega) (by omega) (by omega)), RC_keep (cap := 8) c5 (KS 12 (by first | decide | omega) (by first | decide | omega) (by first | decide | omega)) h12.2 (gy6) (fun i q1 q2 => KS i (by omega) (by omega) (by omega)), RC_keep (cap := 6) c6 (KS 14 (by first | decide | omega) (by first | decide | omega) (by first | decide | omega)) hB.2.2.2.2.2.2.2.2 (gy6) (fun i q1 q2 => KS i (by omega) (by omega) (by omega)), (fun k hk q => by have j11 : (F 11).toInt ≤ 4 := hB.2.2.2.2.2.1.2; rw [KS 11 (by first | decide | omega) (by first | decide | omega) (by first | decide | omega)] at hk; rw [KS (114 + 3 * k) (by omega) (by omega) (by omega)] at q; have := c7 k hk q; unfold Lt at this ⊢; rw [KS (114 + 3 * k + 1) (by omega) (by omega) (by omega)]; exact ⟨this.1, by omega⟩)⟩
theorem RV0_join {F G : Nat → Int32} {m : Nat} (hB : FIv F) (h12 : IV (F 12) 0 8) (hR : RV0 F) (hm : (F 9).toInt = m) (lt : m < 8) (KX : (G 9).toInt = m + 1) (KS : ∀ i : Nat, i < 167 → i ≠ 9 → (i < 80 + 2 * m ∨ 80 + 2 * m + 2 ≤ i) → G i = F i) (k1 : Lt G (80 + 2 * m) 6) : RV0 G := by
  obtain ⟨c1, c2, c3, c4, c5, c6, c7⟩ := hR
  have gy6 : (F 6).toInt ≤ (G 6).toInt := by rw [KS 6 (by first | decide | omega) (by first | decide | omega) (by first | decide | omega)]; exact Int.le_refl _
  have gy7 : (F 7).toInt ≤ (G 7).toInt := by rw [KS 7 (by first | decide | omega) (by first | decide | omega) (by first | decide | omega)]; exact Int.le_refl _
  exact ⟨RC_keep (cap := 12) c1 (KS 8 (by first | decide | omega) (by first | decide | omega) (by first | decide | omega)) hB.2.2.1.2 (gy6) (fun i q1 q2 => KS i (by omega) (by omega) (by omega)), RC_keep (cap := 12) c2 (KS 8 (by first | decide | omega) (by first | decide | omega) (by first | decide | omega)) hB.2.2.1.2 (gy7) (fun i q1 q2 => KS i (by omega) (by omega) (by omega)), RC_add (m := m) (by omega) c3 hm KX (gy6) (fun i q1 q2 => KS i (by omega) (by omega) (by omega)) k1, RC_keep (cap := 6) c4 (KS 10 (by first | decide | omega) (by first | decide | omega) (by first | decide | omega)) hB.2.2.2.2.1.2 (gy6) (fun i q1 q2 => KS i (by omega) (by omega) (by omega)), RC_keep (cap := 8) c5 (KS 12 (by first | decide | omega) (by first | decide | omega) (by first | decide | omega)) h12.2 (gy6) (fun i q1 q2 => KS i (by omega) (by omega) (by omega)), RC_keep (cap := 6) c6 (KS 14 (by first | decide | omega) (by first | decide | omega) (by first | decide | omega)) hB.2.2.2.2.2.2.2.2 (gy6) (fun i q1 q2 => KS i (by omega) (by omega) (by omega)), (fun k hk q => by have j11 : (F 11).toInt ≤ 4 := hB.2.2.2.2.2.1.2; rw [KS 11 (by first | decide | omega) (by first | decide | omega) (by first | decide | omega)] at hk; rw [KS (114 + 3 * k) (by omega) (by omega) (by omega)] at q; have := c7 k hk q; unfold Lt at this ⊢; rw [KS (114 + 3 * k + 1) (by omega) (by omega) (by omega)]; exact ⟨this.1, by omega⟩)⟩
theorem RV0_weak {F G : Nat → Int32} {m : Nat} (hB : FIv F) (h12 : IV (F 12) 0 8) (hR : RV0 F) (hm : (F 10).toInt = m) (lt : m < 6) (KX : (G 10).toInt = m + 1) (KS : ∀ i : Nat, i < 167 → i ≠ 10 → (i < 96 + 3 * m ∨ 96 + 3 * m + 3 ≤ i) → G i = F i) (k1 : Lt G (96 + 3 * m) 6) : RV0 G := by
  obtain ⟨c1, c2, c3, c4, c5, c6, c7⟩ := hR
  have gy6 : (F 6).toInt ≤ (G 6).toInt := by rw [KS 6 (by first | decide | omega) (by first | decide | omega) (by first | decide | omega)]; exact Int.le_refl _
  have gy7 : (F 7).toInt ≤ (G 7).toInt := by rw [KS 7 (by first | decide | omega) (by first | decide | omega) (by first | decide | omega)]; exact Int.le_refl _
  exact ⟨RC_keep (cap := 12) c1 (KS 8 (by first | decide | omega) (by first | decide | omega) (by first | decide | omega)) hB.2.2.1.2 (gy6) (fun i q1 q2 => KS i (by omega) (by omega) (by omega)), RC_keep (cap := 12) c2 (KS 8 (by first | decide | omega) (by first | decide | omega) (by first | decide | omega)) hB.2.2.1.2 (gy7) (fun i q1 q2 => KS i (by omega) (by omega) (by omega)), RC_keep (cap := 8) c3 (KS 9 (by first | decide | omega) (by first | decide | omega) (by first | decide | omega)) hB.2.2.2.1.2 (gy6) (fun i q1 q2 => KS i (by omega) (by omega) (by omega)), RC_add (m := m) (by omega) c4 hm KX (gy6) (fun i q1 q2 => KS i (by omega) (by omega) (by omega)) k1, RC_keep (cap := 8) c5 (KS 12 (by first | decide | omega) (by first | decide | omega) (by first | decide | omega)) h12.2 (gy6) (fun i q1 q2 => KS i (by omega) (by omega) (by omega)), RC_keep (cap := 6) c6 (KS 14 (by first | decide | omega) (by first | decide | omega) (by first | decide | omega)) hB.2.2.2.2.2.2.2.2 (gy6) (fun i q1 q2 => KS i (by omega) (by omega) (by omega)), (fun k hk q => by have j11 : (F 11).toInt ≤ 4 := hB.2.2.2.2.2.1.2; rw [KS 11 (by first | decide | omega) (by first | decide | omega) (by first | decide | omega)] at hk; rw [KS (114 + 3 * k) (by omega) (by omega) (by omega)] at q; have := c7 k hk q; unfold Lt at this ⊢; rw [KS (114 + 3 * k + 1) (by omega) (by omega) (by omega)]; exact ⟨this.1, by omega⟩)⟩
theorem RV0_scratch {F G : Nat → Int32} {m : Nat} (hB : FIv F) (h12 : IV (F 12) 0 8) (hR : RV0 F) (hm : (F 14).toInt = m) (lt : m < 6) (KX : (G 14).toInt = m + 1) (KS : ∀ i : Nat, i < 167 → i ≠ 14 → (i < 155 + 2 * m ∨ 155 + 2 * m + 2 ≤ i) → G i = F i) (k1 : Lt G (155 + 2 * m) 6) : RV0 G := by
  obtain ⟨c1, c2, c3, c4, c5, c6, c7⟩ := hR
  have gy6 : (F 6).toInt ≤ (G 6).toInt := by rw [KS 6 (by first | decide | omega) (by first | decide | omega) (by first | decide | omega)]; exact Int.le_refl _
  have gy7 : (F 7).toInt ≤ (G 7).toInt := by rw [KS 7 (by first | decide | omega) (by first | decide | omega) (by first | decide | omega)]; exact Int.le_refl _
  exact ⟨RC_keep (cap := 12) c1 (KS 8 (by first | decide | omega) (by first | decide | omega) (by first | decide | omega)) hB.2.2.1.2 (gy6) (fun i q1 q2 => KS i (by omega) (by omega) (by omega)), RC_keep (cap := 12) c2 (KS 8 (by first | decide | omega) (by first | decide | omega) (by first | decide | omega)) hB.2.2.1.2 (gy7) (fun i q1 q2 => KS i (by omega) (by omega) (by omega)), RC_keep (cap := 8) c3 (KS 9 (by first | decide | omega) (by first | decide | omega) (by first | decide | omega)) hB.2.2.2.1.2 (gy6) (fun i q1 q2 => KS i (by omega) (by omega) (by omega)), RC_keep (cap := 6) c4 (KS 10 (by first | decide | omega) (by first | decide | omega) (by first | decide | omega)) hB.2.2.2.2.1.2 (gy6) (fun i q1 q2 => KS i (by omega) (by omega) (by omega)), RC_keep (cap := 8) c5 (KS 12 (by first | decide | omega) (by first | decide | omega) (by first | decide | omega)) h12.2 (gy6) (fun i q1 q2 => KS i (by omega) (by omega) (by omega)), RC_add (m := m) (by omega) c6 hm KX (gy6) (fun i q1 q2 => KS i (by omega) (by omega) (by omega)) k1, (fun k hk q => by have j11 : (F 11).toInt ≤ 4 := hB.2.2.2.2.2.1.2; rw [KS 11 (by first | decide | omega) (by first | decide | omega) (by first | decide | omega)] at hk; rw [KS (114 + 3 * k) (by omega) (by omega) (by omega)] at q; have := c7 k hk q; unfold Lt at this ⊢; rw [KS (114 + 3 * k + 1) (by omega) (by omega) (by omega)]; exact ⟨this.1, by omega⟩)⟩
theorem RV0_man {F G : Nat → Int32} {m : Nat} (hB : FIv F) (h12 : IV (F 12) 0 8) (hR : RV0 F) (hm : (F 11).toInt = m) (lt : m < 4) (KX : (G 11).toInt = m + 1) (KS : ∀ i : Nat, i < 167 → i ≠ 11 → (i < 114 + 3 * m ∨ 114 + 3 * m + 3 ≤ i) → G i = F i) (k1 : G (114 + 3 * m) = 3 → Lt G (114 + 3 * m + 1) 7) : RV0 G := by
  obtain ⟨c1, c2, c3, c4, c5, c6, c7⟩ := hR
  have gy6 : (F 6).toInt ≤ (G 6).toInt := by rw [KS 6 (by first | decide | omega) (by first | decide | omega) (by first | decide | omega)]; exact Int.le_refl _
  have gy7 : (F 7).toInt ≤ (G 7).toInt := by rw [KS 7 (by first | decide | omega) (by first | decide | omega) (by first | decide | omega)]; exact Int.le_refl _
  refine ⟨RC_keep (cap := 12) c1 (KS 8 (by first | decide | omega) (by first | decide | omega) (by first | decide | omega)) hB.2.2.1.2 (gy6) (fun i q1 q2 => KS i (by omega) (by omega) (by omega)), RC_keep (cap := 12) c2 (KS 8 (by first | decide | omega) (by first | decide | omega) (by first | decide | omega)) hB.2.2.1.2 (gy7) (fun i q1 q2 => KS i (by omega) (by omega) (by omega)), RC_keep (cap := 8) c3 (KS 9 (by first | decide | omega) (by first | decide | omega) (by first | decide | omega)) hB.2.2.2.1.2 (gy6) (fun i q1 q2 => KS i (by omega) (by omega) (by omega)), RC_keep (cap := 6) c4 (KS 10 (by first | decide | omega) (by first | decide | omega) (by first | decide | omega)) hB.2.2.2.2.1.2 (gy6) (fun i q1 q2 => KS i (by omega) (by omega) (by omega)), RC_keep (cap := 8) c5 (KS 12 (by first | decide | omega) (by first | decide | omega) (by first | decide | omega)) h12.2 (gy6) (fun i q1 q2 => KS i (by omega) (by omega) (by omega)), RC_keep (cap := 6) c6 (KS 14 (by first | decide | omega) (by first | decide | omega) (by first | decide | omega)) hB.2.2.2.2.2.2.2.2 (gy6) (fun i q1 q2 => KS i (by omega) (by omega) (by omega)), fun k hk q => ?_⟩
  by_cases w : k = m
  · subst w; exact k1 q
  · rw [KS (114 + 3 * k) (by omega) (by omega) (by omega)] at q
    have := c7 k (by omega) q
    unfold Lt at this ⊢
    rw [KS (114 + 3 * k + 1) (by omega) (by omega) (by omega)]
    exact ⟨this.1, by omega⟩
theorem RV0_shows {F G : Nat → Int32} (hB : FIv F) (h12 : IV (F 12) 0 8) (hR : RV0 F) (K : ∀ i : Nat, i ≠ 12 → (i < 126 ∨ 133 < i) → G i = F i) (k1 : RC G 12 126 1 6) : RV0 G := by
  obtain ⟨c1, c2, c3, c4, c5, c6, c7⟩ := hR
  have gy6 : (F 6).toInt ≤ (G 6).toInt := by rw [K 6 (by first | decide | omega) (by first | decide | omega)]; exact Int.le_refl _
  have gy7 : (F 7).toInt ≤ (G 7).toInt := by rw [K 7 (by first | decide | omega) (by first | decide | omega)]; exact Int.le_refl _
  exact ⟨RC_keep (cap := 12) c1 (K 8 (by first | decide | omega) (by first | decide | omega)) hB.2.2.1.2 (gy6) (fun i q1 q2 => K i (by omega) (by omega)), RC_keep (cap := 12) c2 (K 8 (by first | decide | omega) (by first | decide | omega)) hB.2.2.1.2 (gy7) (fun i q1 q2 => K i (by omega) (by omega)), RC_keep (cap := 8) c3 (K 9 (by first | decide | omega) (by first | decide | omega)) hB.2.2.2.1.2 (gy6) (fun i q1 q2 => K i (by omega) (by omega)), RC_keep (cap := 6) c4 (K 10 (by first | decide | omega) (by first | decide | omega)) hB.2.2.2.2.1.2 (gy6) (fun i q1 q2 => K i (by omega) (by omega)), k1, RC_keep (cap := 6) c6 (K 14 (by first | decide | omega) (by first | decide | omega)) hB.2.2.2.2.2.2.2.2 (gy6) (fun i q1 q2 => K i (by omega) (by omega)), (fun k hk q => by have j11 : (F 11).toInt ≤ 4 := hB.2.2.2.2.2.1.2; rw [K 11 (by first | decide | omega) (by first | decide | omega)] at hk; rw [K (114 + 3 * k) (by omega) (by omega)] at q; have := c7 k hk q; unfold Lt at this ⊢; rw [K (114 + 3 * k + 1) (by omega) (by omega)]; exact ⟨this.1, by omega⟩)⟩

set_option maxRecDepth 100000
set_option maxHeartbeats 4000000
theorem shG_RV {F T : Nat → Int32} {n : Int32} (f1 : ∀ j : Nat, j < 8 → (F 6).toInt ≤ j → ¬ 0 < (F (167 + j)).toInt) : ∀ (f m : Nat) (Fm : Nat → Int32) (a : Int32) (v : (Nat → Int32) × Int32), m ≤ 8 → (∀ i : Nat, (i < 126 ∨ 133 < i) → Fm i = F i) → (∀ k : Nat, k < m → 0 ≤ (Fm (126 + k)).toInt ∧ (Fm (126 + k)).toInt < (F 6).toInt) → showG T n f m Fm a = .inr v → (∀ i : Nat, i ≠ 12 → (i < 126 ∨ 133 < i) → v.1 i = F i) ∧ RC v.1 12 126 1 6 := by
  intro f
  induction f with
  | zero => intro m Fm a v _ _ _ h; rw [showG] at h; cases h
  | succ f ih =>
    intro m Fm a v hm hF hI h
    rw [showG] at h
    obtain ⟨r, hr, h⟩ := bnd_i h
    by_cases q8 : m = 8
    · rw [if_pos q8] at h; cases h
    rw [if_neg q8] at h
    have hp : reelP Fm T n a = .inr (r, nx T n a) := by unfold reelP; rw [hr, bnd_r]
    have i1 := (reelP_inr hp).1
    have i2 := reelP_lt (fun j hj hj2 => by rw [hF _ (by omega)] at hj2 ⊢; exact f1 j hj hj2) hp
    rw [hF 6 (by first | decide | omega)] at i2
    have hF2 : ∀ i : Nat, (i < 126 ∨ 133 < i) → upd Fm (126 + m) r i = F i := fun i hi => by rw [upd_ne (by omega)]; exact hF i hi
    have hI2 : ∀ k : Nat, k < m + 1 → 0 ≤ (upd Fm (126 + m) r (126 + k)).toInt ∧ (upd Fm (126 + m) r (126 + k)).toInt < (F 6).toInt := by
      intro k hk
      by_cases w : k = m
      · subst w; rw [upd_at]; exact ⟨i1.1, i2⟩
      · rw [upd_ne (by omega)]; exact hI k (by omega)
    by_cases q4 : tkF T n (nx T n a) = 4
    · rw [if_pos q4] at h
      exact ih (m + 1) _ _ v (by omega) hF2 hI2 h
    · rw [if_neg q4] at h
      unfold showE at h
      by_cases q2 : m + 1 < 2
      · rw [if_pos q2] at h
        split at h
        · cases h
        · split at h <;> cases h
      · rw [if_neg q2] at h
        have e := Sum.inr.inj h
        rw [← e]
        refine ⟨fun i h1 h2 => ?_, fun k hk => ?_⟩
        · show upd (upd Fm (126 + m) r) 12 (nI (m + 1)) i = F i
          rw [upd_ne h1]; exact hF2 i h2
        · have hk : (k : Int) < (upd (upd Fm (126 + m) r) 12 (nI (m + 1)) 12).toInt := hk
          rw [upd_at, nIt (by omega)] at hk
          have := hI2 k (by omega)
          show 0 ≤ (upd (upd Fm (126 + m) r) 12 (nI (m + 1)) (126 + 1 * k)).toInt ∧ (upd (upd Fm (126 + m) r) 12 (nI (m + 1)) (126 + 1 * k)).toInt < (upd (upd Fm (126 + m) r) 12 (nI (m + 1)) 6).toInt
          rw [upd_ne (by omega), upd_ne (show 6 ≠ 12 by omega), hF2 6 (by first | decide | omega), show 126 + 1 * k = 126 + k by omega]
          exact this
theorem inc_n {x : Int32} {m : Nat} (h : x.toInt = m) (hm : m < 900) : (x + 1).toInt = m + 1 := by
  have o1 : (1 : Int32).toInt = 1 := by decide
  rw [Int32.toInt_add, h, o1, Int.bmod_eq_of_le (by omega) (by omega)]
theorem RV0_line {F T : Nat → Int32} {n a : Int32} {v : (Nat → Int32) × Int32} (hB : FIv F) (h12 : IV (F 12) 0 8) (f1 : ∀ j : Nat, j < 8 → (F 6).toInt ≤ j → ¬ 0 < (F (167 + j)).toInt) (f2 : ∀ j : Nat, j < 4 → (F 7).toInt ≤ j → ¬ 0 < (F (175 + j)).toInt) (hR : RV0 F) (h : lineS F T n a = .inr v) : RV0 v.1 := by
  have hB2 := hB
  obtain ⟨⟨i6, j6⟩, ⟨i7, j7⟩, ⟨i8, j8⟩, ⟨i9, j9⟩, ⟨i10, j10⟩, ⟨i11, j11⟩, ⟨i13, j13⟩, ⟨i14, j14⟩⟩ := hB2
  unfold lineS at h
  by_cases z0 : IsW T n a "house"
  case pos =>
    rw [if_pos z0] at h
    unfold houseS at h
    by_cases q : F 15 = 1
    · rw [if_pos q] at h; cases h
    rw [if_neg q] at h
    obtain ⟨w0, g0, h⟩ := bnd_i h
    obtain ⟨w1, g1, h⟩ := bnd_i h
    obtain ⟨w2, g2, h⟩ := bnd_i h
    obtain ⟨w3, g3, h⟩ := bnd_i h
    obtain ⟨w4, g4, h⟩ := bnd_i h
    obtain ⟨w5, g5, h⟩ := bnd_i h
    have e := Sum.inr.inj h
    rw [← e]
    refine RV0_keep (G := (upd (upd (upd (upd (upd (upd (upd F 0 w0.1) 1 w1.1) 2 w2.1) 3 w3.1) 4 w4.1) 5 w5.1) 15 1)) hB h12 hR ?_ ?_ (fun i hi => ?_)
    · rw [upd_ne (by omega), upd_ne (by omega), upd_ne (by omega), upd_ne (by omega), upd_ne (by omega), upd_ne (by omega), upd_ne (by omega)]; omega
    · rw [upd_ne (by omega), upd_ne (by omega), upd_ne (by omega), upd_ne (by omega), upd_ne (by omega), upd_ne (by omega), upd_ne (by omega)]; omega
    · rw [upd_ne (by omega), upd_ne (by omega), upd_ne (by omega), upd_ne (by omega), upd_ne (by omega), upd_ne (by omega), upd_ne (by omega)]
  rw [if_neg z0] at h
  by_cases z1 : IsW T n a "reel"
  case pos =>
    rw [if_pos z1] at h
    obtain ⟨b, g, h⟩ := bnd_i h
    have lt := opn_i g
    have oc : (8 : Int32).toInt = 8 := by decide
    obtain ⟨m, hm⟩ : ∃ a : Nat, (F 6).toInt = a := ⟨(F 6).toInt.toNat, by omega⟩
    have em : (F 6).toInt.toNat = m := by omega
    have ein := inc_n hm (by omega)
    unfold reelS at h
    obtain ⟨w0, g0, h⟩ := bnd_i h
    obtain ⟨w1, g1, h⟩ := bnd_i h
    obtain ⟨w2, g2, h⟩ := bnd_i h
    obtain ⟨w3, g3, h⟩ := bnd_i h
    obtain ⟨n1, n2⟩ := new_inr g0
    have e := Sum.inr.inj h
    rw [← e]
    refine RV0_keep (G := (upd (upd (upd (upd w0.1 (16 + 3 * (F 6).toInt.toNat) w1.1) (16 + 3 * (F 6).toInt.toNat + 1) w2.1) (16 + 3 * (F 6).toInt.toNat + 2) w3.1) 6 (F 6 + 1))) hB h12 hR ?_ ?_ (fun i hi => ?_)
    · rw [upd_at, ein]; omega
    · rw [upd_ne (by omega), upd_ne (by omega), upd_ne (by omega), upd_ne (by omega), n1, wrN_lt (by omega)]; omega
    · rw [upd_ne (by omega), upd_ne (by omega), upd_ne (by omega), upd_ne (by omega), n1, wrN_lt (by omega)]
  rw [if_neg z1] at h
  by_cases z2 : IsW T n a "town"
  case pos =>
    rw [if_pos z2] at h
    obtain ⟨b, g, h⟩ := bnd_i h
    have lt := opn_i g
    have oc : (4 : Int32).toInt = 4 := by decide
    obtain ⟨m, hm⟩ : ∃ a : Nat, (F 7).toInt = a := ⟨(F 7).toInt.toNat, by omega⟩
    have em : (F 7).toInt.toNat = m := by omega
    have ein := inc_n hm (by omega)
    unfold townS at h
    obtain ⟨w0, g0, h⟩ := bnd_i h
    obtain ⟨w1, g1, h⟩ := bnd_i h
    obtain ⟨n1, n2⟩ := new_inr g0
    have e := Sum.inr.inj h
    rw [← e]
    refine RV0_keep (G := (upd (upd w0.1 (40 + (F 7).toInt.toNat) w1.1) 7 (F 7 + 1))) hB h12 hR ?_ ?_ (fun i hi => ?_)
    · rw [upd_ne (by omega), upd_ne (by omega), n1, wrN_lt (by omega)]; omega
    · rw [upd_at, ein]; omega
    · rw [upd_ne (by omega), upd_ne (by omega), n1, wrN_lt (by omega)]
  rw [if_neg z2] at h
  by_cases z3 : IsW T n a "mark"
  case pos =>
    rw [if_pos z3] at h
    obtain ⟨b, g, h⟩ := bnd_i h
    have lt := opn_i g
    have oc : (12 : Int32).toInt = 12 := by decide
    obtain ⟨m, hm⟩ : ∃ a : Nat, (F 8).toInt = a := ⟨(F 8).toInt.toNat, by omega⟩
    have em : (F 8).toInt.toNat = m := by omega
    have ein := inc_n hm (by omega)
    unfold markS at h
    obtain ⟨w0, g0, h⟩ := bnd_i h
    obtain ⟨w1, g1, h⟩ := bnd_i h
    obtain ⟨w2, g2, h⟩ := bnd_i h
    obtain ⟨w3, g3, h⟩ := bnd_i h
    have r1 := (reelP_inr g0).1
    have r2 := reelP_lt f1 g0
    have t := old_lt f2 g3
    by_cases q : Dup F 44 2 8 w0.1 w3
    · rw [if_pos q] at h; cases h
    rw [if_neg q] at h
    have e := Sum.inr.inj h
    rw [← e]
    skip
    refine RV0_mark (G := (upd (upd (upd (upd F (44 + 3 * (F 8).toInt.toNat) w0.1) (44 + 3 * (F 8).toInt.toNat + 1) w1.1) (44 + 3 * (F 8).toInt.toNat + 2) w3) 8 (F 8 + 1))) (m := m) hB h12 hR hm (by omega) (by rw [upd_at, ein]) (fun i q1 q2 q3 => by rw [em, upd_ne (by omega), upd_ne (by omega), upd_ne (by omega), upd_ne (by omega)]) ?_ ?_
    · unfold Lt
      rw [em, upd_ne (by omega), upd_ne (by omega), upd_ne (by omega), upd_at, upd_ne (by omega), upd_ne (by omega), upd_ne (by omega), upd_ne (by omega)]
      exact ⟨r1.1, r2⟩
    · unfold Lt
      rw [em, upd_ne (by omega), upd_at, upd_ne (by omega), upd_ne (by omega), upd_ne (by omega), upd_ne (by omega)]
      exact ⟨t.1, t.2⟩
  rw [if_neg z3] at h
  by_cases z4 : IsW T n a "join"
  case pos =>
    rw [if_pos z4] at h
    obtain ⟨b, g, h⟩ := bnd_i h
    have lt := opn_i g
    have oc : (8 : Int32).toInt = 8 := by decide
    obtain ⟨m, hm⟩ : ∃ a : Nat, (F 9).toInt = a := ⟨(F 9).toInt.toNat, by omega⟩
    have em : (F 9).toInt.toNat = m := by omega
    have ein := inc_n hm (by omega)
    unfold joinS at h
    obtain ⟨w0, g0, h⟩ := bnd_i h
    obtain ⟨w1, g1, h⟩ := bnd_i h
    obtain ⟨w2, g2, h⟩ := bnd_i h
    have r1 := (reelP_inr g0).1
    have r2 := reelP_lt f1 g0
    have e := Sum.inr.inj h
    rw [← e]
    skip
    refine RV0_join (G := (upd (upd (upd F (80 + 2 * (F 9).toInt.toNat) w0.1) (80 + 2 * (F 9).toInt.toNat + 1) w2.1) 9 (F 9 + 1))) (m := m) hB h12 hR hm (by omega) (by rw [upd_at, ein]) (fun i q1 q2 q3 => by rw [em, upd_ne (by omega), upd_ne (by omega), upd_ne (by omega)]) ?_
    · unfold Lt
      rw [em, upd_ne (by omega), upd_ne (by omega), upd_at, upd_ne (by omega), upd_ne (by omega), upd_ne (by omega)]
      exact ⟨r1.1, r2⟩
  rw [if_neg z4] at h
  by_cases z5 : IsW T n a "weak"
  case pos =>
    rw [if_pos z5] at h
    obtain ⟨b, g, h⟩ := bnd_i h
    have lt := opn_i g
    have oc : (6 : Int32).toInt = 6 := by decide
    obtain ⟨m, hm⟩ : ∃ a : Nat, (F 10).toInt = a := ⟨(F 10).toInt.toNat, by omega⟩
    have em : (F 10).toInt.toNat = m := by omega
    have ein := inc_n hm (by omega)
    unfold weakS at h
    obtain ⟨w0, g0, h⟩ := bnd_i h
    obtain ⟨w1, g1, h⟩ := bnd_i h
    have r1 := (reelP_inr g0).1
    have r2 := reelP_lt f1 g0
    by_cases q : Dup F 96 1 10 w0.1 w1
    · rw [if_pos q] at h; cases h
    rw [if_neg q] at h
    obtain ⟨w2, g2, h⟩ := bnd_i h
    have e := Sum.inr.inj h
    rw [← e]
    skip
    refine RV0_weak (G := (upd (upd (upd (upd F (96 + 3 * (F 10).toInt.toNat) w0.1) (96 + 3 * (F 10).toInt.toNat + 1) w1) (96 + 3 * (F 10).toInt.toNat + 2) w2.1) 10 (F 10 + 1))) (m := m) hB h12 hR hm (by omega) (by rw [upd_at, ein]) (fun i q1 q2 q3 => by rw [em, upd_ne (by omega), upd_ne (by omega), upd_ne (by omega), upd_ne (by omega)]) ?_
    · unfold Lt
      rw [em, upd_ne (by omega), upd_ne (by omega), upd_ne (by omega), upd_at, upd_ne (by omega), upd_ne (by omega), upd_ne (by omega), upd_ne (by omega)]
      exact ⟨r1.1, r2⟩
  rw [if_neg z5] at h
  by_cases z6 : IsW T n a "man"
  case pos =>
    rw [if_pos z6] at h
    obtain ⟨b, g, h⟩ := bnd_i h
    have lt := opn_i g
    have oc : (4 : Int32).toInt = 4 := by decide
    obtain ⟨m, hm⟩ : ∃ a : Nat, (F 11).toInt = a := ⟨(F 11).toInt.toNat, by omega⟩
    have em : (F 11).toInt.toNat = m := by omega
    have ein := inc_n hm (by omega)
    unfold manS at h
    obtain ⟨w0, g0, h⟩ := bnd_i h
    obtain ⟨n1, n2⟩ := new_inr g0
    by_cases q0 : IsW T n w0.2 "clean"
    case pos =>
      rw [if_pos q0] at h
      unfold manE at h
      obtain ⟨w9, g9, h⟩ := bnd_i h
      have e := Sum.inr.inj h
      rw [← e]
      refine RV0_man (G := (upd (upd (upd (upd w0.1 (114 + 3 * (F 11).toInt.toNat) 0) (114 + 3 * (F 11).toInt.toNat + 1) 0) (114 + 3 * (F 11).toInt.toNat + 2) w9.1) 11 (F 11 + 1))) (m := m) hB h12 hR hm (by omega) (by rw [upd_at, ein]) (fun i q1 q2 q3 => by rw [em, upd_ne (by omega), upd_ne (by omega), upd_ne (by omega), upd_ne (by omega), n1, wrN_lt q1]) (fun z => ?_)
      rw [em, upd_ne (by omega), upd_ne (by omega), upd_ne (by omega), upd_at] at z
      exact absurd z (by decide)
    rw [if_neg q0] at h
    by_cases q1 : IsW T n w0.2 "early"
    case pos =>
      rw [if_pos q1] at h
      unfold manE at h
      obtain ⟨w9, g9, h⟩ := bnd_i h
      have e := Sum.inr.inj h
      rw [← e]
      refine RV0_man (G := (upd (upd (upd (upd w0.1 (114 + 3 * (F 11).toInt.toNat) 1) (114 + 3 * (F 11).toInt.toNat + 1) 0) (114 + 3 * (F 11).toInt.toNat + 2) w9.1) 11 (F 11 + 1))) (m := m) hB h12 hR hm (by omega) (by rw [upd_at, ein]) (fun i q1 q2 q3 => by rw [em, upd_ne (by omega), upd_ne (by omega), upd_ne (by omega), upd_ne (by omega), n1, wrN_lt q1]) (fun z => ?_)
      rw [em, upd_ne (by omega), upd_ne (by omega), upd_ne (by omega), upd_at] at z
      exact absurd z (by decide)
    rw [if_neg q1] at h
    by_cases q2 : IsW T n w0.2 "late"
    case pos =>
      rw [if_pos q2] at h
      unfold manE at h
      obtain ⟨w9, g9, h⟩ := bnd_i h
      have e := Sum.inr.inj h
      rw [← e]
      refine RV0_man (G := (upd (upd (upd (upd w0.1 (114 + 3 * (F 11).toInt.toNat) 2) (114 + 3 * (F 11).toInt.toNat + 1) 0) (114 + 3 * (F 11).toInt.toNat + 2) w9.1) 11 (F 11 + 1))) (m := m) hB h12 hR hm (by omega) (by rw [upd_at, ein]) (fun i q1 q2 q3 => by rw [em, upd_ne (by omega), upd_ne (by omega), upd_ne (by omega), upd_ne (by omega), n1, wrN_lt q1]) (fun z => ?_)
      rw [em, upd_ne (by omega), upd_ne (by omega), upd_ne (by omega), upd_at] at z
      exact absurd z (by decide)
    rw [if_neg q2] at h
    by_cases q3 : IsW T n w0.2 "misled"
    case neg => rw [if_neg q3] at h; cases h
    rw [if_pos q3] at h
    obtain ⟨tw, gt, h⟩ := bnd_i h
    have t := old_lt (F := w0.1) (fun j hj hj2 => by
      rw [n1] at hj2 ⊢
      rw [wrN_lt (by omega)] at hj2
      have e : wrN F T n b (12 + (F 11).toInt.toNat) (175 + j) = F (175 + j) := by
        unfold wrN
        rw [upd_ne (by omega), wrL_lt _ _ (by omega)]
      rw [e]; exact f2 j hj hj2) gt
    rw [n1, wrN_lt (by omega)] at t
    unfold manE at h
    obtain ⟨w9, g9, h⟩ := bnd_i h
    have e := Sum.inr.inj h
    rw [← e]
    refine RV0_man (G := (upd (upd (upd (upd w0.1 (114 + 3 * (F 11).toInt.toNat) 3) (114 + 3 * (F 11).toInt.toNat + 1) tw) (114 + 3 * (F 11).toInt.toNat + 2) w9.1) 11 (F 11 + 1))) (m := m) hB h12 hR hm (by omega) (by rw [upd_at, ein]) (fun i q1 q2 q3 => by rw [em, upd_ne (by omega), upd_ne (by omega), upd_ne (by omega), upd_ne (by omega), n1, wrN_lt q1]) (fun z => ?_)
    unfold Lt
    rw [em, upd_ne (by omega), upd_ne (by omega), upd_at, upd_ne (by omega), upd_ne (by omega), upd_ne (by omega), upd_ne (by omega), n1, wrN_lt (by omega)]
    exact t
  rw [if_neg z6] at h
  by_cases z7 : IsW T n a "shows"
  case pos =>
    rw [if_pos z7] at h
    obtain ⟨b, g, h⟩ := bnd_i h
    obtain ⟨s1, s2⟩ := shG_RV f1 9 0 F b v (by omega) (fun i _ => rfl) (fun k hk => by omega) h
    exact RV0_shows hB h12 hR s1 s2
  rw [if_neg z7] at h
  by_cases z8 : IsW T n a "boys"
  case pos =>
    rw [if_pos z8] at h
    obtain ⟨b, g, h⟩ := bnd_i h
    unfold boysS at h
    obtain ⟨w0, g0, h⟩ := bnd_i h
    obtain ⟨w1, g1, h⟩ := bnd_i h
    obtain ⟨w2, g2, h⟩ := bnd_i h
    have e := Sum.inr.inj h
    rw [← e]
    refine RV0_keep (G := (upd (upd (upd F 135 w1.1) 136 w2.1) 134 w0.1)) hB h12 hR ?_ ?_ (fun i hi => ?_)
    · rw [upd_ne (by omega), upd_ne (by omega), upd_ne (by omega)]; omega
    · rw [upd_ne (by omega), upd_ne (by omega), upd_ne (by omega)]; omega
    · rw [upd_ne (by omega), upd_ne (by omega), upd_ne (by omega)]
  rw [if_neg z8] at h
  by_cases z9 : IsW T n a "seen"
  case pos =>
    rw [if_pos z9] at h
    unfold seenS at h
    by_cases q : F 13 = 6
    · rw [if_pos q] at h; cases h
    rw [if_neg q] at h
    by_cases q2 : F 15 = 0
    · rw [if_pos q2] at h; cases h
    rw [if_neg q2] at h
    by_cases q3 : F 12 = 0
    · rw [if_pos q3] at h; cases h
    rw [if_neg q3] at h
    have b13 := hB.2.2.2.2.2.2.1
    rw [IV] at b13
    have o6 : (6 : Int32).toInt = 6 := by decide
    have n13 : (F 13).toInt ≠ 6 := fun w => q (Int32.toInt_inj.mp (by rw [w, o6]))
    obtain ⟨w0, g0, h⟩ := bnd_i h
    obtain ⟨w1, g1, h⟩ := bnd_i h
    obtain ⟨w2, g2, h⟩ := bnd_i h
    have e := Sum.inr.inj h
    rw [← e]
    refine RV0_keep (G := (upd (upd (upd (upd F (137 + 3 * (F 13).toInt.toNat) w0.1) (137 + 3 * (F 13).toInt.toNat + 1) w1.1) (137 + 3 * (F 13).toInt.toNat + 2) w2.1) 13 (F 13 + 1))) hB h12 hR ?_ ?_ (fun i hi => ?_)
    · rw [upd_ne (by omega), upd_ne (by omega), upd_ne (by omega), upd_ne (by omega)]; omega
    · rw [upd_ne (by omega), upd_ne (by omega), upd_ne (by omega), upd_ne (by omega)]; omega
    · rw [upd_ne (by omega), upd_ne (by omega), upd_ne (by omega), upd_ne (by omega)]
  rw [if_neg z9] at h
  by_cases z10 : IsW T n a "scratch"
  case pos =>
    rw [if_pos z10] at h
    obtain ⟨b, g, h⟩ := bnd_i h
    have lt := opn_i g
    have oc : (6 : Int32).toInt = 6 := by decide
    obtain ⟨m, hm⟩ : ∃ a : Nat, (F 14).toInt = a := ⟨(F 14).toInt.toNat, by omega⟩
    have em : (F 14).toInt.toNat = m := by omega
    have ein := inc_n hm (by omega)
    unfold scratchS at h
    obtain ⟨w0, g0, h⟩ := bnd_i h
    obtain ⟨w1, g1, h⟩ := bnd_i h
    have r1 := (reelP_inr g0).1
    have r2 := reelP_lt f1 g0
    have e := Sum.inr.inj h
    rw [← e]
    skip
    refine RV0_scratch (G := (upd (upd (upd F (155 + 2 * (F 14).toInt.toNat) w0.1) (155 + 2 * (F 14).toInt.toNat + 1) w1.1) 14 (F 14 + 1))) (m := m) hB h12 hR hm (by omega) (by rw [upd_at, ein]) (fun i q1 q2 q3 => by rw [em, upd_ne (by omega), upd_ne (by omega), upd_ne (by omega)]) ?_
    · unfold Lt
      rw [em, upd_ne (by omega), upd_ne (by omega), upd_at, upd_ne (by omega), upd_ne (by omega), upd_ne (by omega)]
      exact ⟨r1.1, r2⟩
  rw [if_neg z10] at h
  cases h
