set_option maxRecDepth 100000
set_option maxHeartbeats 4000000
theorem XF_l {T : Nat → Int32} {n fn fp r fn2 fp2 kd2 sta2 po2 va2 : Int32} {le2 : Int64} {H : (Nat → Int32) → Prop} {e : Int32 × Int32} (h : XF T n (.inl e) fn fp r fn2 fp2 kd2 sta2 po2 va2 le2 H) : r = 0 ∧ fn2 = e.1 ∧ fp2 = e.2 := h
theorem XF_r {T : Nat → Int32} {n fn fp r fn2 fp2 kd2 sta2 po2 va2 : Int32} {le2 : Int64} {H : (Nat → Int32) → Prop} {v : (Nat → Int32) × Int32} (h : XF T n (.inr v) fn fp r fn2 fp2 kd2 sta2 po2 va2 le2 H) : r = 1 ∧ fn2 = fn ∧ fp2 = fp ∧ XS T n v.2 kd2 sta2 po2 va2 le2 ∧ H v.1 := h
theorem put6_0 {f : Nat → Int32} {v : Int32} : tbPut 1 6 f 0 0 v = upd f 0 v := by
  unfold tbPut
  rw [if_neg (by decide), show ((0 : Int32) * 6 + 0).toNatClampNeg = 0 by decide]
theorem put6_1 {f : Nat → Int32} {v : Int32} : tbPut 1 6 f 0 1 v = upd f 1 v := by
  unfold tbPut
  rw [if_neg (by decide), show ((0 : Int32) * 6 + 1).toNatClampNeg = 1 by decide]
theorem put6_2 {f : Nat → Int32} {v : Int32} : tbPut 1 6 f 0 2 v = upd f 2 v := by
  unfold tbPut
  rw [if_neg (by decide), show ((0 : Int32) * 6 + 2).toNatClampNeg = 2 by decide]
theorem put6_3 {f : Nat → Int32} {v : Int32} : tbPut 1 6 f 0 3 v = upd f 3 v := by
  unfold tbPut
  rw [if_neg (by decide), show ((0 : Int32) * 6 + 3).toNatClampNeg = 3 by decide]
theorem put6_4 {f : Nat → Int32} {v : Int32} : tbPut 1 6 f 0 4 v = upd f 4 v := by
  unfold tbPut
  rw [if_neg (by decide), show ((0 : Int32) * 6 + 4).toNatClampNeg = 4 by decide]
theorem put6_5 {f : Nat → Int32} {v : Int32} : tbPut 1 6 f 0 5 v = upd f 5 v := by
  unfold tbPut
  rw [if_neg (by decide), show ((0 : Int32) * 6 + 5).toNatClampNeg = 5 by decide]
theorem upd6 {f g : Nat → Int32} {x0 x1 x2 x3 x4 x5 : Int32} {j : Nat} (hj : j < 6) : (upd (upd (upd (upd (upd (upd f 0 x0) 1 x1) 2 x2) 3 x3) 4 x4) 5 x5) j = (upd (upd (upd (upd (upd (upd g 0 x0) 1 x1) 2 x2) 3 x3) 4 x4) 5 x5) j := by
  rcases (show j = 0 ∨ j = 1 ∨ j = 2 ∨ j = 3 ∨ j = 4 ∨ j = 5 by omega) with rfl | rfl | rfl | rfl | rfl | rfl
  · rw [upd_ne (by omega), upd_ne (by omega), upd_ne (by omega), upd_ne (by omega), upd_ne (by omega), upd_at, upd_ne (by omega), upd_ne (by omega), upd_ne (by omega), upd_ne (by omega), upd_ne (by omega), upd_at]
  · rw [upd_ne (by omega), upd_ne (by omega), upd_ne (by omega), upd_ne (by omega), upd_at, upd_ne (by omega), upd_ne (by omega), upd_ne (by omega), upd_ne (by omega), upd_at]
  · rw [upd_ne (by omega), upd_ne (by omega), upd_ne (by omega), upd_at, upd_ne (by omega), upd_ne (by omega), upd_ne (by omega), upd_at]
  · rw [upd_ne (by omega), upd_ne (by omega), upd_at, upd_ne (by omega), upd_ne (by omega), upd_at]
  · rw [upd_ne (by omega), upd_at, upd_ne (by omega), upd_at]
  · rw [upd_at, upd_at]
theorem HV_house {F G g qrf qmf qwf qpf qhnf qhtf qhjf qhmf qhbf qhsf qhcf : Nat → Int32} (z6 : F 6 = 0) (z7 : F 7 = 0) (z8 : F 8 = 0) (z9 : F 9 = 0) (z10 : F 10 = 0) (z11 : F 11 = 0) (z12 : F 12 = 0) (z13 : F 13 = 0) (z14 : F 14 = 0) (z134 : F 134 = 0) (K : ∀ i : Nat, 6 ≤ i → i ≠ 15 → G i = F i) (hN : ∀ j : Nat, j < 6 → g j = G j) : HV G qrf qmf qwf qpf g qhtf qhjf qhmf qhbf qhsf qhcf := ⟨TV_nil ((K 6 (by first | decide | omega) (by first | decide | omega)).trans z6), TV_nil ((K 8 (by first | decide | omega) (by first | decide | omega)).trans z8), TV_nil ((K 10 (by first | decide | omega) (by first | decide | omega)).trans z10), (fun k hk => by rw [((K 12 (by first | decide | omega) (by first | decide | omega)).trans z12), zI] at hk; omega), (fun _ j hj => hN j hj), TV_nil ((K 7 (by first | decide | omega) (by first | decide | omega)).trans z7), TV_nil ((K 9 (by first | decide | omega) (by first | decide | omega)).trans z9), (fun k hk => by rw [((K 11 (by first | decide | omega) (by first | decide | omega)).trans z11), zI] at hk; omega), (fun q => by rw [((K 134 (by first | decide | omega) (by first | decide | omega)).trans z134), zI] at q; exact absurd q (by decide)), TV_nil ((K 13 (by first | decide | omega) (by first | decide | omega)).trans z13), TV_nil ((K 14 (by first | decide | omega) (by first | decide | omega)).trans z14)⟩
theorem HRel_house {F G : Nat → Int32} {ndn qrn qmn qwn qpn qhnn qhtn qhjn qhmn qhbn qhsn qhcn : Int32} {nmf : Nat → Int64} {ndf qrf qmf qwf : Nat → Int32} (hH : HRel F ndn nmf ndf qrn qrf qmn qmf qwn qwf qpn qhnn qhtn qhjn qhmn qhbn qhsn qhcn) (K : ∀ i : Nat, 6 ≤ i → i ≠ 15 → G i = F i) (KX : G 15 = 1) : HRel G ndn nmf ndf qrn qrf qmn qmf qwn qwf qpn 1 qhtn qhjn qhmn qhbn qhsn qhcn := by
  refine exA14 hH ?_
  clear hH
  intro zc1 zc2 zc3 c12 cb cr cm cw cN cd f1 f2 f3 g1 g2
  refine exA1 zc1 ?_
  clear zc1
  intro a1 a2
  refine exA8 zc2 ?_
  clear zc2
  intro b1 b2 b3 b4 b5 b6 b7 b8 b9
  refine exA7 zc3 ?_
  clear zc3
  intro i6 i7 i8 i9 i10 i11 i13 i14
  have k6 := K 6 (by first | decide | omega) (by first | decide | omega)
  have k7 := K 7 (by first | decide | omega) (by first | decide | omega)
  have k8 := K 8 (by first | decide | omega) (by first | decide | omega)
  have k9 := K 9 (by first | decide | omega) (by first | decide | omega)
  have k10 := K 10 (by first | decide | omega) (by first | decide | omega)
  have k11 := K 11 (by first | decide | omega) (by first | decide | omega)
  have k12 := K 12 (by first | decide | omega) (by first | decide | omega)
  have k13 := K 13 (by first | decide | omega) (by first | decide | omega)
  have k14 := K 14 (by first | decide | omega) (by first | decide | omega)
  refine ⟨⟨KX.symm, Or.inr KX⟩, ⟨by rw [k6]; exact b1, by rw [k7]; exact b2, by rw [k8]; exact b3, by rw [k9]; exact b4, by rw [k10]; exact b5, by rw [k11]; exact b6, by rw [k12]; exact b7, by rw [k13]; exact b8, by rw [k14]; exact b9⟩, ⟨by rw [k6]; exact i6, by rw [k7]; exact i7, by rw [k8]; exact i8, by rw [k9]; exact i9, by rw [k10]; exact i10, by rw [k11]; exact i11, by rw [k13]; exact i13, by rw [k14]; exact i14⟩, by rw [k12]; exact c12, by rw [K 134 (by first | decide | omega) (by first | decide | omega)]; exact cb, ?_, ?_, ?_, NRel_hi cN (fun i q => K i (by omega) (by omega)), by rw [k6, k7, k11]; exact cd, ?_, ?_, ?_, fun q => absurd (KX.symm.trans q) one0, by rw [k12, k13]; exact g2⟩
  · intro k hk; rw [k6] at hk; rw [K _ (by omega) (by omega)]; exact cr k hk
  · intro k hk; rw [k8] at hk; rw [K _ (by omega) (by omega), K _ (by omega) (by omega)]; exact cm k hk
  · intro k hk; rw [k10] at hk; rw [K _ (by omega) (by omega), K _ (by omega) (by omega)]; exact cw k hk
  · intro j hj hj2; rw [k6] at hj2; rw [K _ (by omega) (by omega)]; exact f1 j hj hj2
  · intro j hj hj2; rw [k7] at hj2; rw [K _ (by omega) (by omega)]; exact f2 j hj hj2
  · intro j hj hj2; rw [k11] at hj2; rw [K _ (by omega) (by omega)]; exact f3 j hj hj2
theorem qx_isHouseLine {tp ndf qrf qmf qwf qpf qhnf qhtf qhjf qhmf qhbf qhsf qhcf ndg qrg qmg qwg qpg qhng qhtg qhjg qhmg qhbg qhsg qhcg F T : Nat → Int32} {nmf nmg : Nat → Int64} {le le2 : Int64} {fn fp n kd sta po va tk ta ndn qmd qtr qrn qmn qwn qpn qhnn qhtn qhjn qhmn qhbn qhsn qhcn fn2 fp2 kd2 sta2 po2 va2 tk2 ta2 ndk qrk qmk qwk qpk qmd2 qtr2 qhnk qhtk qhjk qhmk qhbk qhsk qhck r a : Int32} (hn : IV n 0 900) (ht : TpR tp T) (hH : HRel F ndn nmf ndf qrn qrf qmn qmf qwn qwf qpn qhnn qhtn qhjn qhmn qhbn qhsn qhcn) (hV : HV F qrf qmf qwf qpf qhnf qhtf qhjf qhmf qhbf qhsf qhcf) (hs : XS T n a kd sta po va le) (h : R_x_isHouseLineX fn fp n kd sta po va le tk ta tp nmf ndn ndf qmd qtr qrn qrf qmn qmf qwn qwf qpn qpf qhnn qhnf qhtn qhtf qhjn qhjf qhmn qhmf qhbn qhbf qhsn qhsf qhcn qhcf fn2 fp2 kd2 sta2 po2 va2 le2 tk2 ta2 nmg ndg ndk qrg qmg qwg qpg qrk qmk qwk qpk qmd2 qtr2 qhng qhtg qhjg qhmg qhbg qhsg qhcg qhnk qhtk qhjk qhmk qhbk qhsk qhck r) : XF T n (houseS F T n a) fn fp r fn2 fp2 kd2 sta2 po2 va2 le2 (fun G => HRel G ndk nmg ndg qrk qrg qmk qmg qwk qwg qpk qhnk qhtk qhjk qhmk qhbk qhsk qhck ∧ HV G qrg qmg qwg qpg qhng qhtg qhjg qhmg qhbg qhsg qhcg) := by
  have hH0 := hH
  refine exA14 hH ?_
  clear hH
  intro zc4 zc5 zc6 c12 cb cr cm cw cN cd f1' f2' f3' g1' g2'
  refine exA1 zc4 ?_
  clear zc4
  intro a1 a2
  refine exA8 zc5 ?_
  clear zc5
  intro b1 b2 b3 b4 b5 b6 b7 b8 b9
  refine exA7 zc6 ?_
  clear zc6
  intro i6 i7 i8 i9 i10 i11 i13 i14
  have e8 : (8 : Int32).toInt = 8 := by decide
  have e6 : (6 : Int32).toInt = 6 := by decide
  unfold R_x_isHouseLineX at h
  rcases a2 with z15 | z15
  case inr =>
    rcases h with ⟨q, -⟩ | ⟨-, h⟩
    · rw [a1, z15] at q; exact absurd q (by decide)
    · obtain ⟨f, p, r2, ⟨b1', b2', b3'⟩, h⟩ := h
      have l1 := h.1
      have l2 := h.2.1
      have l37 := h.2.2.2.2.2.2.2.2.2.2.2.2.2.2.2.2.2.2.2.2.2.2.2.2.2.2.2.2.2.2.2.2.2.2.2.2
      obtain ⟨s1, s2, s3⟩ := hs
      simp only [houseS, if_pos z15]
      exact ⟨by rw [l37, b3'], by rw [l1, b1'], by rw [l2, b2', s1]⟩
  have n15 : ¬ F 15 = 1 := by rw [z15]; decide
  rcases h with ⟨-, h⟩ | ⟨q, -⟩
  case inr => rw [a1, z15] at q; exact absurd (by decide) q
  refine exE5 h ?_
  clear h
  intro k0 s0 p0 v0 l0 hx0 h
  have xs0 := x_next_at hn ht hs hx0
  refine exE34 h ?_
  clear h
  intro fn2_1 fp2_1 kd2_1 sta2_1 po2_1 va2_1 le2_1 tk2_1 ta2_1 qrg_1 qmg_1 qwg_1 qpg_1 qrk_1 qmk_1 qwk_1 qpk_1 qmd2_1 qtr2_1 qhng_1 qhtg_1 qhjg_1 qhmg_1 qhbg_1 qhsg_1 qhcg_1 qhnk_1 qhtk_1 qhjk_1 qhmk_1 qhbk_1 qhsk_1 qhck_1 r_1 hh1 h
  have m1 := qx_number hn ht wok_apart xs0 hh1
  cases hc1 : aftS T n "apart" 1 50 (nx T n a) with
  | inl e =>
    rw [hc1, bnd_l] at m1
    refine exA2 (XF_l m1) ?_
    intro x1 x2 x3
    first | replace h := pf1 h x1 | replace h := pf2 h x1
    have l1 := h.1
    have l2 := h.2.1
    have l37 := h.2.2.2.2.2.2.2.2.2.2.2.2.2.2.2.2.2.2.2.2.2.2.2.2.2.2.2.2.2.2.2.2.2.2.2.2
    simp only [houseS, if_neg n15, hc1, bnd]
    exact ⟨(by first | exact l37 | rw [l37, x1]), by rw [l1, x2], by rw [l2, x3]⟩
  | inr w1 =>
    rw [hc1, bnd_r] at m1
    refine exA4 (XF_r m1) ?_
    intro x1 yf1 yg1 xs1 yH1
    obtain ⟨q0_1, q1_1, q2_1, q3_1, q4_1, q5_1, q6_1, q7_1, q8_1, q9_1, q10_1, q11_1, q12_1, q13_1, q14_1, q15_1, q16_1, q17_1, q18_1, q19_1, q20_1, qn_1⟩ := yH1
    first | replace h := pk1 h x1 | replace h := pk2 h x1
    refine exE34 h ?_
    clear h
    intro fn2_2 fp2_2 kd2_2 sta2_2 po2_2 va2_2 le2_2 tk2_2 ta2_2 qrg_2 qmg_2 qwg_2 qpg_2 qrk_2 qmk_2 qwk_2 qpk_2 qmd2_2 qtr2_2 qhng_2 qhtg_2 qhjg_2 qhmg_2 qhbg_2 qhsg_2 qhcg_2 qhnk_2 qhtk_2 qhjk_2 qhmk_2 qhbk_2 qhsk_2 qhck_2 r_2 hh2 h
    have m2 := qx_number hn ht wok_motor xs1 hh2
    cases hc2 : aftS T n "motor" 0 50 w1.2 with
    | inl e =>
      rw [hc2, bnd_l] at m2
      refine exA2 (XF_l m2) ?_
      intro x1 x2 x3
      first | replace h := pf1 h x1 | replace h := pf2 h x1
      have l1 := h.1
      have l2 := h.2.1
      have l37 := h.2.2.2.2.2.2.2.2.2.2.2.2.2.2.2.2.2.2.2.2.2.2.2.2.2.2.2.2.2.2.2.2.2.2.2.2
      simp only [houseS, if_neg n15, hc1, hc2, bnd]
      exact ⟨(by first | exact l37 | rw [l37, x1]), by rw [l1, x2], by rw [l2, x3]⟩
    | inr w2 =>
      rw [hc2, bnd_r] at m2
      refine exA4 (XF_r m2) ?_
      intro x1 yf2 yg2 xs2 yH2
      obtain ⟨q0_2, q1_2, q2_2, q3_2, q4_2, q5_2, q6_2, q7_2, q8_2, q9_2, q10_2, q11_2, q12_2, q13_2, q14_2, q15_2, q16_2, q17_2, q18_2, q19_2, q20_2, qn_2⟩ := yH2
      first | replace h := pk1 h x1 | replace h := pk2 h x1
      refine exE34 h ?_
      clear h
      intro fn2_3 fp2_3 kd2_3 sta2_3 po2_3 va2_3 le2_3 tk2_3 ta2_3 qrg_3 qmg_3 qwg_3 qpg_3 qrk_3 qmk_3 qwk_3 qpk_3 qmd2_3 qtr2_3 qhng_3 qhtg_3 qhjg_3 qhmg_3 qhbg_3 qhsg_3 qhcg_3 qhnk_3 qhtk_3 qhjk_3 qhmk_3 qhbk_3 qhsk_3 qhck_3 r_3 hh3 h
      have m3 := qx_number hn ht wok_leader xs2 hh3
      cases hc3 : aftS T n "leader" 0 99 w2.2 with
      | inl e =>
        rw [hc3, bnd_l] at m3
        refine exA2 (XF_l m3) ?_
        intro x1 x2 x3
        first | replace h := pf1 h x1 | replace h := pf2 h x1
        have l1 := h.1
        have l2 := h.2.1
        have l37 := h.2.2.2.2.2.2.2.2.2.2.2.2.2.2.2.2.2.2.2.2.2.2.2.2.2.2.2.2.2.2.2.2.2.2.2.2
        simp only [houseS, if_neg n15, hc1, hc2, hc3, bnd]
        exact ⟨(by first | exact l37 | rw [l37, x1]), by rw [l1, x2], by rw [l2, x3]⟩
      | inr w3 =>
        rw [hc3, bnd_r] at m3
        refine exA4 (XF_r m3) ?_
        intro x1 yf3 yg3 xs3 yH3
        obtain ⟨q0_3, q1_3, q2_3, q3_3, q4_3, q5_3, q6_3, q7_3, q8_3, q9_3, q10_3, q11_3, q12_3, q13_3, q14_3, q15_3, q16_3, q17_3, q18_3, q19_3, q20_3, qn_3⟩ := yH3
        first | replace h := pk1 h x1 | replace h := pk2 h x1
        refine exE34 h ?_
        clear h
        intro fn2_4 fp2_4 kd2_4 sta2_4 po2_4 va2_4 le2_4 tk2_4 ta2_4 qrg_4 qmg_4 qwg_4 qpg_4 qrk_4 qmk_4 qwk_4 qpk_4 qmd2_4 qtr2_4 qhng_4 qhtg_4 qhjg_4 qhmg_4 qhbg_4 qhsg_4 qhcg_4 qhnk_4 qhtk_4 qhjk_4 qhmk_4 qhbk_4 qhsk_4 qhck_4 r_4 hh4 h
        have m4 := qx_number hn ht wok_burns xs3 hh4
        cases hc4 : aftS T n "burns" 1 9999 w3.2 with
        | inl e =>
          rw [hc4, bnd_l] at m4
          refine exA2 (XF_l m4) ?_
          intro x1 x2 x3
          first | replace h := pf1 h x1 | replace h := pf2 h x1
          have l1 := h.1
          have l2 := h.2.1
          have l37 := h.2.2.2.2.2.2.2.2.2.2.2.2.2.2.2.2.2.2.2.2.2.2.2.2.2.2.2.2.2.2.2.2.2.2.2.2
          simp only [houseS, if_neg n15, hc1, hc2, hc3, hc4, bnd]
          exact ⟨(by first | exact l37 | rw [l37, x1]), by rw [l1, x2], by rw [l2, x3]⟩
        | inr w4 =>
          rw [hc4, bnd_r] at m4
          refine exA4 (XF_r m4) ?_
          intro x1 yf4 yg4 xs4 yH4
          obtain ⟨q0_4, q1_4, q2_4, q3_4, q4_4, q5_4, q6_4, q7_4, q8_4, q9_4, q10_4, q11_4, q12_4, q13_4, q14_4, q15_4, q16_4, q17_4, q18_4, q19_4, q20_4, qn_4⟩ := yH4
          first | replace h := pk1 h x1 | replace h := pk2 h x1
          refine exE34 h ?_
          clear h
          intro fn2_5 fp2_5 kd2_5 sta2_5 po2_5 va2_5 le2_5 tk2_5 ta2_5 qrg_5 qmg_5 qwg_5 qpg_5 qrk_5 qmk_5 qwk_5 qpk_5 qmd2_5 qtr2_5 qhng_5 qhtg_5 qhjg_5 qhmg_5 qhbg_5 qhsg_5 qhcg_5 qhnk_5 qhtk_5 qhjk_5 qhmk_5 qhbk_5 qhsk_5 qhck_5 r_5 hh5 h
          have m5 := qx_number hn ht wok_trim xs4 hh5
          cases hc5 : aftS T n "trim" 0 999 w4.2 with
          | inl e =>
            rw [hc5, bnd_l] at m5
            refine exA2 (XF_l m5) ?_
            intro x1 x2 x3
            first | replace h := pf1 h x1 | replace h := pf2 h x1
            have l1 := h.1
            have l2 := h.2.1
            have l37 := h.2.2.2.2.2.2.2.2.2.2.2.2.2.2.2.2.2.2.2.2.2.2.2.2.2.2.2.2.2.2.2.2.2.2.2.2
            simp only [houseS, if_neg n15, hc1, hc2, hc3, hc4, hc5, bnd]
            exact ⟨(by first | exact l37 | rw [l37, x1]), by rw [l1, x2], by rw [l2, x3]⟩
          | inr w5 =>
            rw [hc5, bnd_r] at m5
            refine exA4 (XF_r m5) ?_
            intro x1 yf5 yg5 xs5 yH5
            obtain ⟨q0_5, q1_5, q2_5, q3_5, q4_5, q5_5, q6_5, q7_5, q8_5, q9_5, q10_5, q11_5, q12_5, q13_5, q14_5, q15_5, q16_5, q17_5, q18_5, q19_5, q20_5, qn_5⟩ := yH5
            first | replace h := pk1 h x1 | replace h := pk2 h x1
            refine exE34 h ?_
            clear h
            intro fn2_6 fp2_6 kd2_6 sta2_6 po2_6 va2_6 le2_6 tk2_6 ta2_6 qrg_6 qmg_6 qwg_6 qpg_6 qrk_6 qmk_6 qwk_6 qpk_6 qmd2_6 qtr2_6 qhng_6 qhtg_6 qhjg_6 qhmg_6 qhbg_6 qhsg_6 qhcg_6 qhnk_6 qhtk_6 qhjk_6 qhmk_6 qhbk_6 qhsk_6 qhck_6 r_6 hh6 h
            have m6 := qx_number hn ht wok_mend xs5 hh6
            cases hc6 : aftS T n "mend" 0 999 w5.2 with
            | inl e =>
              rw [hc6, bnd_l] at m6
              refine exA2 (XF_l m6) ?_
              intro x1 x2 x3
              first | replace h := pf1 h x1 | replace h := pf2 h x1
              have l1 := h.1
              have l2 := h.2.1
              have l37 := h.2.2.2.2.2.2.2.2.2.2.2.2.2.2.2.2.2.2.2.2.2.2.2.2.2.2.2.2.2.2.2.2.2.2.2.2
              simp only [houseS, if_neg n15, hc1, hc2, hc3, hc4, hc5, hc6, bnd]
              exact ⟨(by first | exact l37 | rw [l37, x1]), by rw [l1, x2], by rw [l2, x3]⟩
            | inr w6 =>
              rw [hc6, bnd_r] at m6
              refine exA4 (XF_r m6) ?_
              intro x1 yf6 yg6 xs6 yH6
              obtain ⟨q0_6, q1_6, q2_6, q3_6, q4_6, q5_6, q6_6, q7_6, q8_6, q9_6, q10_6, q11_6, q12_6, q13_6, q14_6, q15_6, q16_6, q17_6, q18_6, q19_6, q20_6, qn_6⟩ := yH6
              first | replace h := pk1 h x1 | replace h := pk2 h x1 | skip
              refine exA36 h ?_
              intro l1 l2 l3 l4 l5 l6 l7 l8 l9 l10 l11 l12 l13 l14 l15 l16 l17 l18 l19 l20 l21 l22 l23 l24 l25 l26 l27 l28 l29 l30 l31 l32 l33 l34 l35 l36 l37
              simp only [houseS, if_neg n15, hc1, hc2, hc3, hc4, hc5, hc6, bnd]
              subst l3 l4 l5 l6 l7
              refine ⟨(by first | exact l37 | rw [l37, x1]), by rw [l1, yf6, yf5, yf4, yf3, yf2, yf1], by rw [l2, yg6, yg5, yg4, yg3, yg2, yg1], xs6, ?_⟩
              have K : ∀ i : Nat, 6 ≤ i → i ≠ 15 → (upd (upd (upd (upd (upd (upd (upd F 0 w1.1) 1 w2.1) 2 w3.1) 3 w4.1) 4 w5.1) 5 w6.1) 15 1) i = F i := by
                intro i q1 q2
                rw [upd_ne q2, upd_ne (by omega), upd_ne (by omega), upd_ne (by omega), upd_ne (by omega), upd_ne (by omega), upd_ne (by omega)]
              have KX : (upd (upd (upd (upd (upd (upd (upd F 0 w1.1) 1 w2.1) 2 w3.1) 3 w4.1) 4 w5.1) 5 w6.1) 15 1) 15 = 1 := upd_at
              have hN : ∀ j : Nat, j < 6 → qhng_6 j = (upd (upd (upd (upd (upd (upd (upd F 0 w1.1) 1 w2.1) 2 w3.1) 3 w4.1) 4 w5.1) 5 w6.1) 15 1) j := by
                intro j hj
                rw [qn_6, qn_5, qn_4, qn_3, qn_2, qn_1, put6_0, put6_1, put6_2, put6_3, put6_4, put6_5, upd_ne (show j ≠ 15 by omega)]
                exact upd6 hj
              generalize (upd (upd (upd (upd (upd (upd (upd F 0 w1.1) 1 w2.1) 2 w3.1) 3 w4.1) 4 w5.1) 5 w6.1) 15 1) = G at *
              dsimp only
              have hF := HRel_house hH0 K KX
              obtain ⟨z6, z7, z8, z9, z10, z11, z12, z13, z14, z134⟩ := g1' z15
              have hW := HV_house (qhnf := qhnf) (qrf := qrf) (qmf := qmf) (qwf := qwf) (qpf := qpf) (qhtf := qhtf) (qhjf := qhjf) (qhmf := qhmf) (qhbf := qhbf) (qhsf := qhsf) (qhcf := qhcf) z6 z7 z8 z9 z10 z11 z12 z13 z14 z134 K hN
              rw [l10, l11, l12, l13, l14, l15, l16, l17, l18, l19, l20, l23, l24, l25, l26, l27, l28, l29, l30, l31, l32, l33, l34, l35, l36]
              rw [q0_6, q0_5, q0_4, q0_3, q0_2, q0_1]
              rw [q1_6, q1_5, q1_4, q1_3, q1_2, q1_1]
              rw [q2_6, q2_5, q2_4, q2_3, q2_2, q2_1]
              rw [q3_6, q3_5, q3_4, q3_3, q3_2, q3_1]
              rw [q4_6, q4_5, q4_4, q4_3, q4_2, q4_1]
              rw [q5_6, q5_5, q5_4, q5_3, q5_2, q5_1]
              rw [q6_6, q6_5, q6_4, q6_3, q6_2, q6_1]
              rw [q7_6, q7_5, q7_4, q7_3, q7_2, q7_1]
              rw [q8_6, q8_5, q8_4, q8_3, q8_2, q8_1]
              rw [q9_6, q9_5, q9_4, q9_3, q9_2, q9_1]
              rw [q10_6, q10_5, q10_4, q10_3, q10_2, q10_1]
              rw [q11_6, q11_5, q11_4, q11_3, q11_2, q11_1]
              rw [q12_6, q12_5, q12_4, q12_3, q12_2, q12_1]
              rw [q13_6, q13_5, q13_4, q13_3, q13_2, q13_1]
              rw [q14_6, q14_5, q14_4, q14_3, q14_2, q14_1]
              rw [q15_6, q15_5, q15_4, q15_3, q15_2, q15_1]
              rw [q16_6, q16_5, q16_4, q16_3, q16_2, q16_1]
              rw [q17_6, q17_5, q17_4, q17_3, q17_2, q17_1]
              rw [q18_6, q18_5, q18_4, q18_3, q18_2, q18_1]
              rw [q19_6, q19_5, q19_4, q19_3, q19_2, q19_1]
              rw [q20_6, q20_5, q20_4, q20_3, q20_2, q20_1]
              exact ⟨hF, hW⟩

theorem show_k0 {tp ndf qrf qmf qwf qpf qhnf qhtf qhjf qhmf qhbf qhsf qhcf ndg qrg qmg qwg qpg qhng qhtg qhjg qhmg qhbg qhsg qhcg F T : Nat → Int32} {nmf nmg : Nat → Int64} {le le2 : Int64} {fn fp n kd sta po va tk ta ndn qmd qtr qrn qmn qwn qpn qhnn qhtn qhjn qhmn qhbn qhsn qhcn fn2 fp2 kd2 sta2 po2 va2 tk2 ta2 ndk qrk qmk qwk qpk qmd2 qtr2 qhnk qhtk qhjk qhmk qhbk qhsk qhck r a : Int32} {Fm uf : Nat → Int32} {cnt kd9 sta9 po9 va9 tk9 ta9 b : Int32} {le9 : Int64} {m : Nat} (hc : cnt.toInt = m) (hm : 1 ≤ m ∧ m ≤ 8) (hF : ∀ i : Nat, (i < 126 ∨ 133 < i) → Fm i = F i) (hP : ∀ k : Nat, k < m → uf (2 * k) = Fm (126 + k) ∧ uf (2 * k + 1) = F 2) (hs : XS T n b kd9 sta9 po9 va9 le9) (h : (fun (u_20 : Int32) (u_15 : Int32) (u_16 : Int32) (u_17 : Int32) (u_18 : Int32) (u_9 : Int32) (u_11 : Int32) (u_12 : Int64) (u_13 : Int32) (u_14 : Int32) (uf_4 : Nat → Int32) => (((u_20 ≠ (1 : Int32)) ∧ (fn2 = u_15 ∧ fp2 = u_16 ∧ kd2 = u_17 ∧ sta2 = u_18 ∧ po2 = u_9 ∧ va2 = u_11 ∧ le2 = u_12 ∧ tk2 = u_13 ∧ ta2 = u_14 ∧ nmg = nmf ∧ ndg = ndf ∧ ndk = ndn ∧ qrg = qrf ∧ qmg = qmf ∧ qwg = qwf ∧ qpg = uf_4 ∧ qrk = qrn ∧ qmk = qmn ∧ qwk = qwn ∧ qpk = u_20 ∧ qmd2 = qmd ∧ qtr2 = qtr ∧ qhng = qhnf ∧ qhtg = qhtf ∧ qhjg = qhjf ∧ qhmg = qhmf ∧ qhbg = qhbf ∧ qhsg = qhsf ∧ qhcg = qhcf ∧ qhnk = qhnn ∧ qhtk = qhtn ∧ qhjk = qhjn ∧ qhmk = qhmn ∧ qhbk = qhbn ∧ qhsk = qhsn ∧ qhck = qhcn ∧ r = 1)) ∨ ((u_20 = (1 : Int32)) ∧ ((((u_17 = (3 : Int32)) ∧ (∃ xfn2_30 : Int32, ∃ xfp2_31 : Int32, ∃ r_32 : Int32, (R_x_refuseAtX 6 u_18 xfn2_30 xfp2_31 r_32) ∧ fn2 = xfn2_30 ∧ fp2 = xfp2_31 ∧ kd2 = u_17 ∧ sta2 = u_18 ∧ po2 = u_9 ∧ va2 = u_11 ∧ le2 = u_12 ∧ tk2 = u_13 ∧ ta2 = u_14 ∧ nmg = nmf ∧ ndg = ndf ∧ ndk = ndn ∧ qrg = qrf ∧ qmg = qmf ∧ qwg = qwf ∧ qpg = uf_4 ∧ qrk = qrn ∧ qmk = qmn ∧ qwk = qwn ∧ qpk = u_20 ∧ qmd2 = qmd ∧ qtr2 = qtr ∧ qhng = qhnf ∧ qhtg = qhtf ∧ qhjg = qhjf ∧ qhmg = qhmf ∧ qhbg = qhbf ∧ qhsg = qhsf ∧ qhcg = qhcf ∧ qhnk = qhnn ∧ qhtk = qhtn ∧ qhjk = qhjn ∧ qhmk = qhmn ∧ qhbk = qhbn ∧ qhsk = qhsn ∧ qhck = qhcn ∧ r = r_32)) ∨ ((¬ (u_17 = (3 : Int32))) ∧ ((((u_17 ≠ (0 : Int32)) ∧ (fn2 = u_15 ∧ fp2 = u_16 ∧ kd2 = u_17 ∧ sta2 = u_18 ∧ po2 = u_9 ∧ va2 = u_11 ∧ le2 = u_12 ∧ tk2 = u_13 ∧ ta2 = u_14 ∧ nmg = nmf ∧ ndg = ndf ∧ ndk = ndn ∧ qrg = qrf ∧ qmg = qmf ∧ qwg = qwf ∧ qpg = uf_4 ∧ qrk = qrn ∧ qmk = qmn ∧ qwk = qwn ∧ qpk = u_20 ∧ qmd2 = qmd ∧ qtr2 = qtr ∧ qhng = qhnf ∧ qhtg = qhtf ∧ qhjg = qhjf ∧ qhmg = qhmf ∧ qhbg = qhbf ∧ qhsg = qhsf ∧ qhcg = qhcf ∧ qhnk = qhnn ∧ qhtk = qhtn ∧ qhjk = qhjn ∧ qhmk = qhmn ∧ qhbk = qhbn ∧ qhsk = qhsn ∧ qhck = qhcn ∧ r = 1)) ∨ ((u_17 = (0 : Int32)) ∧ (∃ xfn2_37 : Int32, ∃ xfp2_38 : Int32, ∃ r_39 : Int32, (R_x_refuseAtX 6 u_18 xfn2_37 xfp2_38 r_39) ∧ fn2 = xfn2_37 ∧ fp2 = xfp2_38 ∧ kd2 = u_17 ∧ sta2 = u_18 ∧ po2 = u_9 ∧ va2 = u_11 ∧ le2 = u_12 ∧ tk2 = u_13 ∧ ta2 = u_14 ∧ nmg = nmf ∧ ndg = ndf ∧ ndk = ndn ∧ qrg = qrf ∧ qmg = qmf ∧ qwg = qwf ∧ qpg = uf_4 ∧ qrk = qrn ∧ qmk = qmn ∧ qwk = qwn ∧ qpk = u_20 ∧ qmd2 = qmd ∧ qtr2 = qtr ∧ qhng = qhnf ∧ qhtg = qhtf ∧ qhjg = qhjf ∧ qhmg = qhmf ∧ qhbg = qhbf ∧ qhsg = qhsf ∧ qhcg = qhcf ∧ qhnk = qhnn ∧ qhtk = qhtn ∧ qhjk = qhjn ∧ qhmk = qhmn ∧ qhbk = qhbn ∧ qhsk = qhsn ∧ qhck = qhcn ∧ r = r_39)))))))))) cnt fn fp kd9 sta9 po9 va9 le9 tk9 ta9 uf) : XF T n (showE T n m Fm b) fn fp r fn2 fp2 kd2 sta2 po2 va2 le2 (fun G => (∀ i : Nat, i ≠ 12 → (i < 126 ∨ 133 < i) → G i = F i) ∧ qpk = G 12 ∧ IV (G 12) 2 8 ∧ (∀ k : Nat, (k : Int) < (G 12).toInt → qpg (2 * k) = G (126 + k) ∧ qpg (2 * k + 1) = F 2) ∧ nmg = nmf ∧ ndg = ndf ∧ ndk = ndn ∧ qrg = qrf ∧ qmg = qmf ∧ qwg = qwf ∧ qrk = qrn ∧ qmk = qmn ∧ qwk = qwn ∧ qhnk = qhnn ∧ qhtk = qhtn ∧ qhjk = qhjn ∧ qhmk = qhmn ∧ qhbk = qhbn ∧ qhsk = qhsn ∧ qhck = qhcn ∧ qhng = qhnf ∧ qhtg = qhtf ∧ qhjg = qhjf ∧ qhmg = qhmf ∧ qhbg = qhbf ∧ qhsg = qhsf ∧ qhcg = qhcf) ∨ (∃ b9 : Int32, showE T n m Fm b = .inl (1, b9) ∧ r = 1 ∧ fn2 = fn ∧ fp2 = fp ∧ XS T n b9 kd2 sta2 po2 va2 le2 ∧ tkF T n b9 ≠ 3 ∧ tkF T n b9 ≠ 0) := by
  obtain ⟨s1, s2, s3⟩ := hs
  have e1 := s3.1
  have hok : ∀ hx : kd2 = kd9 ∧ sta2 = sta9 ∧ po2 = po9 ∧ va2 = va9 ∧ le2 = le9, XS T n b kd2 sta2 po2 va2 le2 := fun hx => by
    rw [hx.1, hx.2.1, hx.2.2.1, hx.2.2.2.1, hx.2.2.2.2]; exact ⟨s1, s2, s3⟩
  rcases h with ⟨h1, h⟩ | ⟨h1, h⟩
  · have m1 : m ≠ 1 := fun q => h1 (Int32.toInt_inj.mp (by rw [hc, q]; decide))
    refine Or.inl ?_
    unfold showE
    rw [if_neg (by omega)]
    refine ⟨h.2.2.2.2.2.2.2.2.2.2.2.2.2.2.2.2.2.2.2.2.2.2.2.2.2.2.2.2.2.2.2.2.2.2.2.2, h.1, h.2.1, hok ⟨h.2.2.1, h.2.2.2.1, h.2.2.2.2.1, h.2.2.2.2.2.1, h.2.2.2.2.2.2.1⟩, ?_, ?_, ?_, ?_, h.2.2.2.2.2.2.2.2.2.1, h.2.2.2.2.2.2.2.2.2.2.1, h.2.2.2.2.2.2.2.2.2.2.2.1, h.2.2.2.2.2.2.2.2.2.2.2.2.1, h.2.2.2.2.2.2.2.2.2.2.2.2.2.1, h.2.2.2.2.2.2.2.2.2.2.2.2.2.2.1, h.2.2.2.2.2.2.2.2.2.2.2.2.2.2.2.2.1, h.2.2.2.2.2.2.2.2.2.2.2.2.2.2.2.2.2.1, h.2.2.2.2.2.2.2.2.2.2.2.2.2.2.2.2.2.2.1, h.2.2.2.2.2.2.2.2.2.2.2.2.2.2.2.2.2.2.2.2.2.2.2.2.2.2.2.2.2.1, h.2.2.2.2.2.2.2.2.2.2.2.2.2.2.2.2.2.2.2.2.2.2.2.2.2.2.2.2.2.2.1, h.2.2.2.2.2.2.2.2.2.2.2.2.2.2.2.2.2.2.2.2.2.2.2.2.2.2.2.2.2.2.2.1, h.2.2.2.2.2.2.2.2.2.2.2.2.2.2.2.2.2.2.2.2.2.2.2.2.2.2.2.2.2.2.2.2.1, h.2.2.2.2.2.2.2.2.2.2.2.2.2.2.2.2.2.2.2.2.2.2.2.2.2.2.2.2.2.2.2.2.2.1, h.2.2.2.2.2.2.2.2.2.2.2.2.2.2.2.2.2.2.2.2.2.2.2.2.2.2.2.2.2.2.2.2.2.2.1, h.2.2.2.2.2.2.2.2.2.2.2.2.2.2.2.2.2.2.2.2.2.2.2.2.2.2.2.2.2.2.2.2.2.2.2.1, h.2.2.2.2.2.2.2.2.2.2.2.2.2.2.2.2.2.2.2.2.2.2.1, h.2.2.2.2.2.2.2.2.2.2.2.2.2.2.2.2.2.2.2.2.2.2.2.1, h.2.2.2.2.2.2.2.2.2.2.2.2.2.2.2.2.2.2.2.2.2.2.2.2.1, h.2.2.2.2.2.2.2.2.2.2.2.2.2.2.2.2.2.2.2.2.2.2.2.2.2.1, h.2.2.2.2.2.2.2.2.2.2.2.2.2.2.2.2.2.2.2.2.2.2.2.2.2.2.1, h.2.2.2.2.2.2.2.2.2.2.2.2.2.2.2.2.2.2.2.2.2.2.2.2.2.2.2.1, h.2.2.2.2.2.2.2.2.2.2.2.2.2.2.2.2.2.2.2.2.2.2.2.2.2.2.2.2.1⟩
    · intro i q1 q2
      show upd Fm 12 (nI m) i = F i
      rw [upd_ne q1]; exact hF i q2
    · show qpk = upd Fm 12 (nI m) 12
      rw [upd_at, h.2.2.2.2.2.2.2.2.2.2.2.2.2.2.2.2.2.2.2.1]
      exact Int32.toInt_inj.mp (by rw [hc, nIt (by omega)])
    · show IV (upd Fm 12 (nI m) 12) 2 8
      rw [upd_at, IV, nIt (by omega)]; omega
    · intro k hk
      have hk : (k : Int) < (upd Fm 12 (nI m) 12).toInt := hk
      rw [upd_at, nIt (by omega)] at hk
      show qpg (2 * k) = upd Fm 12 (nI m) (126 + k) ∧ qpg (2 * k + 1) = F 2
      rw [upd_ne (by omega), h.2.2.2.2.2.2.2.2.2.2.2.2.2.2.2.1]
      exact hP k (by omega)
  · have m1 : m = 1 := by have : (1 : Int32).toInt = 1 := by decide
                          rw [h1, this] at hc; omega
    have E : showE T n m Fm b = (if tkF T n b = 3 then .inl (6, b) else if tkF T n b = 0 then .inl (6, b) else .inl (1, b)) := by unfold showE; rw [if_pos (by omega)]
    rcases h with ⟨h2, f1, p1, r1, ⟨b1, b2, b3⟩, h⟩ | ⟨h2, ⟨h3, h⟩ | ⟨h3, f1, p1, r1, ⟨b1, b2, b3⟩, h⟩⟩
    · refine Or.inl ?_
      rw [E, if_pos (e1.symm.trans h2)]
      exact ⟨by rw [h.2.2.2.2.2.2.2.2.2.2.2.2.2.2.2.2.2.2.2.2.2.2.2.2.2.2.2.2.2.2.2.2.2.2.2.2, b3], by rw [h.1, b1], by rw [h.2.1, b2, s1]⟩
    · have q3 : ¬ tkF T n b = 3 := fun q => h2 (e1.trans q)
      have q0 : ¬ tkF T n b = 0 := fun q => h3 (e1.trans q)
      exact Or.inr ⟨b, by rw [E, if_neg q3, if_neg q0], h.2.2.2.2.2.2.2.2.2.2.2.2.2.2.2.2.2.2.2.2.2.2.2.2.2.2.2.2.2.2.2.2.2.2.2.2, h.1, h.2.1, hok ⟨h.2.2.1, h.2.2.2.1, h.2.2.2.2.1, h.2.2.2.2.2.1, h.2.2.2.2.2.2.1⟩, q3, q0⟩
    · refine Or.inl ?_
      rw [E, if_neg (fun q => h2 (e1.trans q)), if_pos (e1.symm.trans h3)]
      exact ⟨by rw [h.2.2.2.2.2.2.2.2.2.2.2.2.2.2.2.2.2.2.2.2.2.2.2.2.2.2.2.2.2.2.2.2.2.2.2.2, b3], by rw [h.1, b1], by rw [h.2.1, b2, s1]⟩
theorem show_cl {tp ndf qrf qmf qwf qpf qhnf qhtf qhjf qhmf qhbf qhsf qhcf ndg qrg qmg qwg qpg qhng qhtg qhjg qhmg qhbg qhsg qhcg F T : Nat → Int32} {nmf nmg : Nat → Int64} {le le2 : Int64} {fn fp n kd sta po va tk ta ndn qmd qtr qrn qmn qwn qpn qhnn qhtn qhjn qhmn qhbn qhsn qhcn fn2 fp2 kd2 sta2 po2 va2 tk2 ta2 ndk qrk qmk qwk qpk qmd2 qtr2 qhnk qhtk qhjk qhmk qhbk qhsk qhck r a : Int32} (hn : IV n 0 900) (ht : TpR tp T) (hN : NRel F nmf ndf ndn) (hL : qhnf 2 = F 2) : ∀ (f g m : Nat) (Fm uf : Nat → Int32) (i7 cnt kd9 sta9 po9 va9 tk9 ta9 c : Int32) (le9 : Int64), cnt.toInt = m → i7.toInt = m → m ≤ 8 → m + g = 9 → (∀ i : Nat, (i < 126 ∨ 133 < i) → Fm i = F i) → (∀ k : Nat, k < m → uf (2 * k) = Fm (126 + k) ∧ uf (2 * k + 1) = F 2) → XS T n c kd9 sta9 po9 va9 le9 → R_x_isShowsLineX_L0 n tp nmf ndn ndf qmd qtr qrn qrf qmn qmf qwn qwf qhnn qhnf qhtn qhtf qhjn qhjf qhmn qhmf qhbn qhbf qhsn qhsf qhcn qhcf fn2 fp2 kd2 sta2 po2 va2 le2 tk2 ta2 nmg ndg ndk qrg qmg qwg qpg qrk qmk qwk qpk qmd2 qtr2 qhng qhtg qhjg qhmg qhbg qhsg qhcg qhnk qhtk qhjk qhmk qhbk qhsk qhck r (fun (u_20 : Int32) (u_15 : Int32) (u_16 : Int32) (u_17 : Int32) (u_18 : Int32) (u_9 : Int32) (u_11 : Int32) (u_12 : Int64) (u_13 : Int32) (u_14 : Int32) (uf_4 : Nat → Int32) => (((u_20 ≠ (1 : Int32)) ∧ (fn2 = u_15 ∧ fp2 = u_16 ∧ kd2 = u_17 ∧ sta2 = u_18 ∧ po2 = u_9 ∧ va2 = u_11 ∧ le2 = u_12 ∧ tk2 = u_13 ∧ ta2 = u_14 ∧ nmg = nmf ∧ ndg = ndf ∧ ndk = ndn ∧ qrg = qrf ∧ qmg = qmf ∧ qwg = qwf ∧ qpg = uf_4 ∧ qrk = qrn ∧ qmk = qmn ∧ qwk = qwn ∧ qpk = u_20 ∧ qmd2 = qmd ∧ qtr2 = qtr ∧ qhng = qhnf ∧ qhtg = qhtf ∧ qhjg = qhjf ∧ qhmg = qhmf ∧ qhbg = qhbf ∧ qhsg = qhsf ∧ qhcg = qhcf ∧ qhnk = qhnn ∧ qhtk = qhtn ∧ qhjk = qhjn ∧ qhmk = qhmn ∧ qhbk = qhbn ∧ qhsk = qhsn ∧ qhck = qhcn ∧ r = 1)) ∨ ((u_20 = (1 : Int32)) ∧ ((((u_17 = (3 : Int32)) ∧ (∃ xfn2_30 : Int32, ∃ xfp2_31 : Int32, ∃ r_32 : Int32, (R_x_refuseAtX 6 u_18 xfn2_30 xfp2_31 r_32) ∧ fn2 = xfn2_30 ∧ fp2 = xfp2_31 ∧ kd2 = u_17 ∧ sta2 = u_18 ∧ po2 = u_9 ∧ va2 = u_11 ∧ le2 = u_12 ∧ tk2 = u_13 ∧ ta2 = u_14 ∧ nmg = nmf ∧ ndg = ndf ∧ ndk = ndn ∧ qrg = qrf ∧ qmg = qmf ∧ qwg = qwf ∧ qpg = uf_4 ∧ qrk = qrn ∧ qmk = qmn ∧ qwk = qwn ∧ qpk = u_20 ∧ qmd2 = qmd ∧ qtr2 = qtr ∧ qhng = qhnf ∧ qhtg = qhtf ∧ qhjg = qhjf ∧ qhmg = qhmf ∧ qhbg = qhbf ∧ qhsg = qhsf ∧ qhcg = qhcf ∧ qhnk = qhnn ∧ qhtk = qhtn ∧ qhjk = qhjn ∧ qhmk = qhmn ∧ qhbk = qhbn ∧ qhsk = qhsn ∧ qhck = qhcn ∧ r = r_32)) ∨ ((¬ (u_17 = (3 : Int32))) ∧ ((((u_17 ≠ (0 : Int32)) ∧ (fn2 = u_15 ∧ fp2 = u_16 ∧ kd2 = u_17 ∧ sta2 = u_18 ∧ po2 = u_9 ∧ va2 = u_11 ∧ le2 = u_12 ∧ tk2 = u_13 ∧ ta2 = u_14 ∧ nmg = nmf ∧ ndg = ndf ∧ ndk = ndn ∧ qrg = qrf ∧ qmg = qmf ∧ qwg = qwf ∧ qpg = uf_4 ∧ qrk = qrn ∧ qmk = qmn ∧ qwk = qwn ∧ qpk = u_20 ∧ qmd2 = qmd ∧ qtr2 = qtr ∧ qhng = qhnf ∧ qhtg = qhtf ∧ qhjg = qhjf ∧ qhmg = qhmf ∧ qhbg = qhbf ∧ qhsg = qhsf ∧ qhcg = qhcf ∧ qhnk = qhnn ∧ qhtk = qhtn ∧ qhjk = qhjn ∧ qhmk = qhmn ∧ qhbk = qhbn ∧ qhsk = qhsn ∧ qhck = qhcn ∧ r = 1)) ∨ ((u_17 = (0 : Int32)) ∧ (∃ xfn2_37 : Int32, ∃ xfp2_38 : Int32, ∃ r_39 : Int32, (R_x_refuseAtX 6 u_18 xfn2_37 xfp2_38 r_39) ∧ fn2 = xfn2_37 ∧ fp2 = xfp2_38 ∧ kd2 = u_17 ∧ sta2 = u_18 ∧ po2 = u_9 ∧ va2 = u_11 ∧ le2 = u_12 ∧ tk2 = u_13 ∧ ta2 = u_14 ∧ nmg = nmf ∧ ndg = ndf ∧ ndk = ndn ∧ qrg = qrf ∧ qmg = qmf ∧ qwg = qwf ∧ qpg = uf_4 ∧ qrk = qrn ∧ qmk = qmn ∧ qwk = qwn ∧ qpk = u_20 ∧ qmd2 = qmd ∧ qtr2 = qtr ∧ qhng = qhnf ∧ qhtg = qhtf ∧ qhjg = qhjf ∧ qhmg = qhmf ∧ qhbg = qhbf ∧ qhsg = qhsf ∧ qhcg = qhcf ∧ qhnk = qhnn ∧ qhtk = qhtn ∧ qhjk = qhjn ∧ qhmk = qhmn ∧ qhbk = qhbn ∧ qhsk = qhsn ∧ qhck = qhcn ∧ r = r_39)))))))))) (fun (u_20 : Int32) (u_15 : Int32) (u_16 : Int32) (u_17 : Int32) (u_18 : Int32) (u_9 : Int32) (u_11 : Int32) (u_12 : Int64) (u_13 : Int32) (u_14 : Int32) (uf_4 : Nat → Int32) => (((u_20 ≠ (1 : Int32)) ∧ (fn2 = u_15 ∧ fp2 = u_16 ∧ kd2 = u_17 ∧ sta2 = u_18 ∧ po2 = u_9 ∧ va2 = u_11 ∧ le2 = u_12 ∧ tk2 = u_13 ∧ ta2 = u_14 ∧ nmg = nmf ∧ ndg = ndf ∧ ndk = ndn ∧ qrg = qrf ∧ qmg = qmf ∧ qwg = qwf ∧ qpg = uf_4 ∧ qrk = qrn ∧ qmk = qmn ∧ qwk = qwn ∧ qpk = u_20 ∧ qmd2 = qmd ∧ qtr2 = qtr ∧ qhng = qhnf ∧ qhtg = qhtf ∧ qhjg = qhjf ∧ qhmg = qhmf ∧ qhbg = qhbf ∧ qhsg = qhsf ∧ qhcg = qhcf ∧ qhnk = qhnn ∧ qhtk = qhtn ∧ qhjk = qhjn ∧ qhmk = qhmn ∧ qhbk = qhbn ∧ qhsk = qhsn ∧ qhck = qhcn ∧ r = 1)) ∨ ((u_20 = (1 : Int32)) ∧ ((((u_17 = (3 : Int32)) ∧ (∃ xfn2_50 : Int32, ∃ xfp2_51 : Int32, ∃ r_52 : Int32, (R_x_refuseAtX 6 u_18 xfn2_50 xfp2_51 r_52) ∧ fn2 = xfn2_50 ∧ fp2 = xfp2_51 ∧ kd2 = u_17 ∧ sta2 = u_18 ∧ po2 = u_9 ∧ va2 = u_11 ∧ le2 = u_12 ∧ tk2 = u_13 ∧ ta2 = u_14 ∧ nmg = nmf ∧ ndg = ndf ∧ ndk = ndn ∧ qrg = qrf ∧ qmg = qmf ∧ qwg = qwf ∧ qpg = uf_4 ∧ qrk = qrn ∧ qmk = qmn ∧ qwk = qwn ∧ qpk = u_20 ∧ qmd2 = qmd ∧ qtr2 = qtr ∧ qhng = qhnf ∧ qhtg = qhtf ∧ qhjg = qhjf ∧ qhmg = qhmf ∧ qhbg = qhbf ∧ qhsg = qhsf ∧ qhcg = qhcf ∧ qhnk = qhnn ∧ qhtk = qhtn ∧ qhjk = qhjn ∧ qhmk = qhmn ∧ qhbk = qhbn ∧ qhsk = qhsn ∧ qhck = qhcn ∧ r = r_52)) ∨ ((¬ (u_17 = (3 : Int32))) ∧ ((((u_17 ≠ (0 : Int32)) ∧ (fn2 = u_15 ∧ fp2 = u_16 ∧ kd2 = u_17 ∧ sta2 = u_18 ∧ po2 = u_9 ∧ va2 = u_11 ∧ le2 = u_12 ∧ tk2 = u_13 ∧ ta2 = u_14 ∧ nmg = nmf ∧ ndg = ndf ∧ ndk = ndn ∧ qrg = qrf ∧ qmg = qmf ∧ qwg = qwf ∧ qpg = uf_4 ∧ qrk = qrn ∧ qmk = qmn ∧ qwk = qwn ∧ qpk = u_20 ∧ qmd2 = qmd ∧ qtr2 = qtr ∧ qhng = qhnf ∧ qhtg = qhtf ∧ qhjg = qhjf ∧ qhmg = qhmf ∧ qhbg = qhbf ∧ qhsg = qhsf ∧ qhcg = qhcf ∧ qhnk = qhnn ∧ qhtk = qhtn ∧ qhjk = qhjn ∧ qhmk = qhmn ∧ qhbk = qhbn ∧ qhsk = qhsn ∧ qhck = qhcn ∧ r = 1)) ∨ ((u_17 = (0 : Int32)) ∧ (∃ xfn2_57 : Int32, ∃ xfp2_58 : Int32, ∃ r_59 : Int32, (R_x_refuseAtX 6 u_18 xfn2_57 xfp2_58 r_59) ∧ fn2 = xfn2_57 ∧ fp2 = xfp2_58 ∧ kd2 = u_17 ∧ sta2 = u_18 ∧ po2 = u_9 ∧ va2 = u_11 ∧ le2 = u_12 ∧ tk2 = u_13 ∧ ta2 = u_14 ∧ nmg = nmf ∧ ndg = ndf ∧ ndk = ndn ∧ qrg = qrf ∧ qmg = qmf ∧ qwg = qwf ∧ qpg = uf_4 ∧ qrk = qrn ∧ qmk = qmn ∧ qwk = qwn ∧ qpk = u_20 ∧ qmd2 = qmd ∧ qtr2 = qtr ∧ qhng = qhnf ∧ qhtg = qhtf ∧ qhjg = qhjf ∧ qhmg = qhmf ∧ qhbg = qhbf ∧ qhsg = qhsf ∧ qhcg = qhcf ∧ qhnk = qhnn ∧ qhtk = qhtn ∧ qhjk = qhjn ∧ qhmk = qhmn ∧ qhbk = qhbn ∧ qhsk = qhsn ∧ qhck = qhcn ∧ r = r_59)))))))))) f uf 1 i7 po9 va9 le9 tk9 ta9 fn fp kd9 sta9 cnt → XF T n (showG T n g m Fm (nx T n c)) fn fp r fn2 fp2 kd2 sta2 po2 va2 le2 (fun G => (∀ i : Nat, i ≠ 12 → (i < 126 ∨ 133 < i) → G i = F i) ∧ qpk = G 12 ∧ IV (G 12) 2 8 ∧ (∀ k : Nat, (k : Int) < (G 12).toInt → qpg (2 * k) = G (126 + k) ∧ qpg (2 * k + 1) = F 2) ∧ nmg = nmf ∧ ndg = ndf ∧ ndk = ndn ∧ qrg = qrf ∧ qmg = qmf ∧ qwg = qwf ∧ qrk = qrn ∧ qmk = qmn ∧ qwk = qwn ∧ qhnk = qhnn ∧ qhtk = qhtn ∧ qhjk = qhjn ∧ qhmk = qhmn ∧ qhbk = qhbn ∧ qhsk = qhsn ∧ qhck = qhcn ∧ qhng = qhnf ∧ qhtg = qhtf ∧ qhjg = qhjf ∧ qhmg = qhmf ∧ qhbg = qhbf ∧ qhsg = qhsf ∧ qhcg = qhcf) ∨ (∃ b9 : Int32, showG T n g m Fm (nx T n c) = .inl (1, b9) ∧ r = 1 ∧ fn2 = fn ∧ fp2 = fp ∧ XS T n b9 kd2 sta2 po2 va2 le2 ∧ tkF T n b9 ≠ 3 ∧ tkF T n b9 ≠ 0) := by
  intro f
  induction f with
  | zero => intro g m Fm uf i7 cnt kd9 sta9 po9 va9 tk9 ta9 c le9 _ _ _ _ _ _ _ h; exact h.elim
  | succ f ih =>
    intro g m Fm uf i7 cnt kd9 sta9 po9 va9 tk9 ta9 c le9 hc hi hm hg hF hP hs h
    obtain ⟨g, rfl⟩ : ∃ k, g = k + 1 := ⟨g - 1, by omega⟩
    unfold R_x_isShowsLineX_L0 at h
    have n8' : (8 : Int32).toInt = 8 := by decide
    rcases h with ⟨q, -⟩ | ⟨-, h⟩
    · exact absurd q one0
    rcases h with ⟨q, -⟩ | ⟨-, h⟩
    · rw [lt_I, n8'] at q; omega
    refine exE5 h ?_
    clear h
    intro kx sx_ px vx_ lx hx h
    refine exE10 h ?_
    clear h
    intro f1 g1 k1 s1 p1 v1 l1' tk1 ta1 r1 hh1 h
    have xs := x_next_at hn ht hs hx
    have m1 := qx_oldR hn ht (NRel_hi hN (fun i q => hF i (by omega))) xs hh1
    cases hc1 : oldS Fm T n 0 7 (nx T n c) with
    | inl e =>
      have hr : reelP Fm T n (nx T n c) = .inl e := by unfold reelP; rw [hc1, bnd_l]
      rw [hr] at m1
      refine exA2 (XV_l m1) ?_
      intro x1 x2 x3
      replace h := pf2 h x1
      refine Or.inl ?_
      rw [showG, hc1, bnd_l]
      exact ⟨h.2.2.2.2.2.2.2.2.2.2.2.2.2.2.2.2.2.2.2.2.2.2.2.2.2.2.2.2.2.2.2.2.2.2.2.2, by rw [h.1, x2], by rw [h.2.1, x3]⟩
    | inr v =>
      have hr : reelP Fm T n (nx T n c) = .inr (v, nx T n (nx T n c)) := by unfold reelP; rw [hc1, bnd_r]
      rw [hr] at m1
      refine exA5 (XV_r m1) ?_
      intro x1 yf yg yt ya xs1
      replace h := pk2 h x1
      dsimp only at xs1 yt
      obtain ⟨r2, hr2, h⟩ := h
      by_cases q8 : cnt < 8
      · rw [if_pos q8] at hr2
        rw [lt_I, n8'] at q8
        have hm8 : m ≠ 8 := by omega
        replace h := pf1 h hr2
        obtain ⟨r3, hr3, gg, kk, hadd, h⟩ := h
        obtain ⟨o1, o2⟩ := qt_add8_2 ⟨by omega, by omega⟩ hadd
        have ek := inc1 (u := cnt) (z := kk) (a := 0) (b := 900) ⟨by omega, by omega⟩ (by omega) (by omega) o2
        have hF2 : ∀ i : Nat, (i < 126 ∨ 133 < i) → upd Fm (126 + m) v i = F i := by
          intro i q
          rw [upd_ne (by omega)]; exact hF i q
        have hr4 : r3 = F 2 := by
          obtain ⟨r5, h5, h6⟩ := hr3
          rw [h6, h5, tbAt_in (by decide) (by decide) (by decide) (by decide)]
          exact hL
        have hP2 : ∀ k : Nat, k < m + 1 → gg (2 * k) = upd Fm (126 + m) v (126 + k) ∧ gg (2 * k + 1) = F 2 := by
          intro k hk
          have ec : cnt.toInt.toNat = m := by omega
          rw [o1, ec]
          by_cases q : k = m
          · subst q
            refine ⟨?_, ?_⟩
            · rw [upd_at, upd_ne (by omega), show 2 * k = k * 2 + 0 by omega, upd_at]; exact yt
            · rw [show 2 * k + 1 = k * 2 + 1 by omega, upd_at]; exact hr4
          · rw [upd_ne (by omega), upd_ne (by omega), upd_ne (by omega), upd_ne (by omega), upd_ne (by omega)]
            exact hP k (by omega)
        have S : showG T n (g + 1) m Fm (nx T n c) = (if tkF T n (nx T n (nx T n c)) = 4 then showG T n g (m + 1) (upd Fm (126 + m) v) (nx T n (nx T n (nx T n c))) else showE T n (m + 1) (upd Fm (126 + m) v) (nx T n (nx T n c))) := by rw [showG, hc1, bnd_r, if_neg hm8]
        have e1 := xs1.2.2.1
        have e1 : k1 = tkF T n (nx T n (nx T n c)) := e1
        rcases h with ⟨h4, z, hz, h⟩ | ⟨h4, z, hz, h⟩
        · rw [if_neg (fun q => h4 (e1.trans q))] at S
          rw [S]
          cases f with
          | zero => exact h.elim
          | succ f =>
            unfold R_x_isShowsLineX_L0 at h
            rcases h with ⟨-, h⟩ | ⟨q, -⟩
            · rw [yf, yg] at h
              clear ih hadd o1 hr3 hr4 m1 hh1 hx
              have hk := show_k0 (a := a) (tp := tp) (qpf := qpf) (le := le) (kd := kd) (sta := sta) (po := po) (va := va) (tk := tk) (ta := ta) (qpn := qpn) (T := T) (n := n) (Fm := upd Fm (126 + m) v) (b := nx T n (nx T n c)) (cnt := kk) (m := m + 1) (by omega) (by omega) hF2 hP2 xs1 h
              exact hk
            · exact absurd rfl q
        · rw [if_pos (e1.symm.trans h4)] at S
          rw [S]
          rw [ofI1] at hz
          have ez := inc1 (u := i7) (z := z) (a := 0) (b := 900) ⟨by omega, by omega⟩ (by omega) (by omega) hz.symm
          rw [yf, yg] at h
          exact ih g (m + 1) _ _ z kk _ _ _ _ _ _ _ _ (by omega) (by omega) (by omega) (by omega) hF2 hP2 xs1 h
      · rw [if_neg q8] at hr2
        rw [lt_I, n8'] at q8
        have hm8 : m = 8 := by omega
        replace h := pk1 h hr2
        obtain ⟨f2, p2, r3, ⟨b1, b2, b3⟩, h⟩ := h
        refine Or.inl ?_
        rw [showG, hc1, bnd_r, if_pos hm8]
        exact ⟨by rw [h.2.2.2.2.2.2.2.2.2.2.2.2.2.2.2.2.2.2.2.2.2.2.2.2.2.2.2.2.2.2.2.2.2.2.2.2, b3], by rw [h.1, b1], by rw [h.2.1, b2, ya]⟩
