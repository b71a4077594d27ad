set_option maxRecDepth 100000
set_option maxHeartbeats 4000000
theorem XF_l {T : Nat → Int32} {n fn fp r fn2 fp2 kd2 sta2 po2 va2 : Int32} {le2 : Int64} {H : (Nat → Int32) → Prop} {e : Int32 × Int32} (h : XF T n (.inl e) fn fp r fn2 fp2 kd2 sta2 po2 va2 le2 H) : r = 0 ∧ fn2 = e.1 ∧ fp2 = e.2 := h
theorem XF_r {T : Nat → Int32} {n fn fp r fn2 fp2 kd2 sta2 po2 va2 : Int32} {le2 : Int64} {H : (Nat → Int32) → Prop} {v : (Nat → Int32) × Int32} (h : XF T n (.inr v) fn fp r fn2 fp2 kd2 sta2 po2 va2 le2 H) : r = 1 ∧ fn2 = fn ∧ fp2 = fp ∧ XS T n v.2 kd2 sta2 po2 va2 le2 ∧ H v.1 := h
theorem HRel_house {F G : Nat → Int32} {ndn qrn qmn qwn qpn qhnn qhtn qhjn qhmn qhbn qhsn qhcn : Int32} {nmf : Nat → Int64} {ndf qrf qmf qwf : Nat → Int32} (hH : HRel F ndn nmf ndf qrn qrf qmn qmf qwn qwf qpn qhnn qhtn qhjn qhmn qhbn qhsn qhcn) (K : ∀ i : Nat, 6 ≤ i → i ≠ 15 → G i = F i) (KX : G 15 = 1) : HRel G ndn nmf ndf qrn qrf qmn qmf qwn qwf qpn 1 qhtn qhjn qhmn qhbn qhsn qhcn := by
  obtain ⟨⟨a1, a2⟩, ⟨b1, b2, b3, b4, b5, b6, b7, b8, b9⟩, ⟨i6, i7, i8, i9, i10, i11, i13, i14⟩, c12, cb, cr, cm, cw, cN, cd, f1, f2, f3, g1, g2⟩ := hH
  have k6 := K 6 (by omega) (by omega)
  have k7 := K 7 (by omega) (by omega)
  have k8 := K 8 (by omega) (by omega)
  have k9 := K 9 (by omega) (by omega)
  have k10 := K 10 (by omega) (by omega)
  have k11 := K 11 (by omega) (by omega)
  have k12 := K 12 (by omega) (by omega)
  have k13 := K 13 (by omega) (by omega)
  have k14 := K 14 (by omega) (by omega)
  refine ⟨⟨KX.symm, Or.inr KX⟩, ⟨by rw [k6]; exact b1, by rw [k7]; exact b2, by rw [k8]; exact b3, by rw [k9]; exact b4, by rw [k10]; exact b5, by rw [k11]; exact b6, by rw [k12]; exact b7, by rw [k13]; exact b8, by rw [k14]; exact b9⟩, ⟨by rw [k6]; exact i6, by rw [k7]; exact i7, by rw [k8]; exact i8, by rw [k9]; exact i9, by rw [k10]; exact i10, by rw [k11]; exact i11, by rw [k13]; exact i13, by rw [k14]; exact i14⟩, by rw [k12]; exact c12, by rw [K 134 (by omega) (by omega)]; exact cb, ?_, ?_, ?_, NRel_hi cN (fun i q => K i (by omega) (by omega)), by rw [k6, k7, k11]; exact cd, ?_, ?_, ?_, fun q => absurd (KX.symm.trans q) one0, by rw [k12, k13]; exact g2⟩
  · intro k hk; rw [k6] at hk; rw [K _ (by omega) (by omega)]; exact cr k hk
  · intro k hk; rw [k8] at hk; rw [K _ (by omega) (by omega), K _ (by omega) (by omega)]; exact cm k hk
  · intro k hk; rw [k10] at hk; rw [K _ (by omega) (by omega), K _ (by omega) (by omega)]; exact cw k hk
  · intro j hj hj2; rw [k6] at hj2; rw [K _ (by omega) (by omega)]; exact f1 j hj hj2
  · intro j hj hj2; rw [k7] at hj2; rw [K _ (by omega) (by omega)]; exact f2 j hj hj2
  · intro j hj hj2; rw [k11] at hj2; rw [K _ (by omega) (by omega)]; exact f3 j hj hj2
theorem qx_isHouseLine {tp ndf qrf qmf qwf qpf qhnf qhtf qhjf qhmf qhbf qhsf qhcf ndg qrg qmg qwg qpg qhng qhtg qhjg qhmg qhbg qhsg qhcg F T : Nat → Int32} {nmf nmg : Nat → Int64} {le le2 : Int64} {fn fp n kd sta po va tk ta ndn qmd qtr qrn qmn qwn qpn qhnn qhtn qhjn qhmn qhbn qhsn qhcn fn2 fp2 kd2 sta2 po2 va2 tk2 ta2 ndk qrk qmk qwk qpk qmd2 qtr2 qhnk qhtk qhjk qhmk qhbk qhsk qhck r a : Int32} (hn : IV n 0 900) (ht : TpR tp T) (hH : HRel F ndn nmf ndf qrn qrf qmn qmf qwn qwf qpn qhnn qhtn qhjn qhmn qhbn qhsn qhcn) (hs : XS T n a kd sta po va le) (h : R_x_isHouseLineX fn fp n kd sta po va le tk ta tp nmf ndn ndf qmd qtr qrn qrf qmn qmf qwn qwf qpn qpf qhnn qhnf qhtn qhtf qhjn qhjf qhmn qhmf qhbn qhbf qhsn qhsf qhcn qhcf fn2 fp2 kd2 sta2 po2 va2 le2 tk2 ta2 nmg ndg ndk qrg qmg qwg qpg qrk qmk qwk qpk qmd2 qtr2 qhng qhtg qhjg qhmg qhbg qhsg qhcg qhnk qhtk qhjk qhmk qhbk qhsk qhck r) : XF T n (houseS F T n a) fn fp r fn2 fp2 kd2 sta2 po2 va2 le2 (fun G => HRel G ndk nmg ndg qrk qrg qmk qmg qwk qwg qpk qhnk qhtk qhjk qhmk qhbk qhsk qhck) := by
  have hH0 := hH
  obtain ⟨⟨a1, a2⟩, ⟨b1, b2, b3, b4, b5, b6, b7, b8, b9⟩, ⟨i6, i7, i8, i9, i10, i11, i13, i14⟩, c12, cb, cr, cm, cw, cN, cd, f1', f2', f3', g1', g2'⟩ := hH
  have e8 : (8 : Int32).toInt = 8 := by decide
  have e6 : (6 : Int32).toInt = 6 := by decide
  unfold R_x_isHouseLineX at h
  rcases a2 with z15 | z15
  case inr =>
    rcases h with ⟨q, -⟩ | ⟨-, h⟩
    · rw [a1, z15] at q; exact absurd q (by decide)
    · obtain ⟨f, p, r2, ⟨b1', b2', b3'⟩, h⟩ := h
      have l1 := h.1
      have l2 := h.2.1
      have l37 := h.2.2.2.2.2.2.2.2.2.2.2.2.2.2.2.2.2.2.2.2.2.2.2.2.2.2.2.2.2.2.2.2.2.2.2.2
      obtain ⟨s1, s2, s3⟩ := hs
      simp only [houseS, if_pos z15]
      exact ⟨by rw [l37, b3'], by rw [l1, b1'], by rw [l2, b2', s1]⟩
  have n15 : ¬ F 15 = 1 := by rw [z15]; decide
  rcases h with ⟨-, h⟩ | ⟨q, -⟩
  case inr => rw [a1, z15] at q; exact absurd (by decide) q
  refine Exists.elim h ?_
  clear h
  intro k0 h
  refine Exists.elim h ?_
  clear h
  intro s0 h
  refine Exists.elim h ?_
  clear h
  intro p0 h
  refine Exists.elim h ?_
  clear h
  intro v0 h
  refine Exists.elim h ?_
  clear h
  intro l0 h
  have hx0 := h.1
  replace h := h.2
  have xs0 := x_next_at hn ht hs hx0
  refine Exists.elim h ?_
  clear h
  intro fn2_1 h
  refine Exists.elim h ?_
  clear h
  intro fp2_1 h
  refine Exists.elim h ?_
  clear h
  intro kd2_1 h
  refine Exists.elim h ?_
  clear h
  intro sta2_1 h
  refine Exists.elim h ?_
  clear h
  intro po2_1 h
  refine Exists.elim h ?_
  clear h
  intro va2_1 h
  refine Exists.elim h ?_
  clear h
  intro le2_1 h
  refine Exists.elim h ?_
  clear h
  intro tk2_1 h
  refine Exists.elim h ?_
  clear h
  intro ta2_1 h
  refine Exists.elim h ?_
  clear h
  intro qrg_1 h
  refine Exists.elim h ?_
  clear h
  intro qmg_1 h
  refine Exists.elim h ?_
  clear h
  intro qwg_1 h
  refine Exists.elim h ?_
  clear h
  intro qpg_1 h
  refine Exists.elim h ?_
  clear h
  intro qrk_1 h
  refine Exists.elim h ?_
  clear h
  intro qmk_1 h
  refine Exists.elim h ?_
  clear h
  intro qwk_1 h
  refine Exists.elim h ?_
  clear h
  intro qpk_1 h
  refine Exists.elim h ?_
  clear h
  intro qmd2_1 h
  refine Exists.elim h ?_
  clear h
  intro qtr2_1 h
  refine Exists.elim h ?_
  clear h
  intro qhng_1 h
  refine Exists.elim h ?_
  clear h
  intro qhtg_1 h
  refine Exists.elim h ?_
  clear h
  intro qhjg_1 h
  refine Exists.elim h ?_
  clear h
  intro qhmg_1 h
  refine Exists.elim h ?_
  clear h
  intro qhbg_1 h
  refine Exists.elim h ?_
  clear h
  intro qhsg_1 h
  refine Exists.elim h ?_
  clear h
  intro qhcg_1 h
  refine Exists.elim h ?_
  clear h
  intro qhnk_1 h
  refine Exists.elim h ?_
  clear h
  intro qhtk_1 h
  refine Exists.elim h ?_
  clear h
  intro qhjk_1 h
  refine Exists.elim h ?_
  clear h
  intro qhmk_1 h
  refine Exists.elim h ?_
  clear h
  intro qhbk_1 h
  refine Exists.elim h ?_
  clear h
  intro qhsk_1 h
  refine Exists.elim h ?_
  clear h
  intro qhck_1 h
  refine Exists.elim h ?_
  clear h
  intro r_1 h
  have hh1 := h.1
  replace h := h.2
  have m1 := qx_number hn ht wok_apart xs0 hh1
  cases hc1 : aftS T n "apart" 1 50 (nx T n a) with
  | inl e =>
    rw [hc1, bnd_l] at m1
    obtain ⟨x1, x2, x3⟩ := XF_l m1
    first | replace h := pf1 h x1 | replace h := pf2 h x1
    have l1 := h.1
    have l2 := h.2.1
    have l37 := h.2.2.2.2.2.2.2.2.2.2.2.2.2.2.2.2.2.2.2.2.2.2.2.2.2.2.2.2.2.2.2.2.2.2.2.2
    simp only [houseS, if_neg n15, hc1, bnd]
    exact ⟨(by first | exact l37 | rw [l37, x1]), by rw [l1, x2], by rw [l2, x3]⟩
  | inr w1 =>
    rw [hc1, bnd_r] at m1
    obtain ⟨x1, yf1, yg1, xs1, yH1⟩ := XF_r m1
    obtain ⟨q0_1, q1_1, q2_1, q3_1, q4_1, q5_1, q6_1, q7_1, q8_1, q9_1, q10_1, q11_1, q12_1, q13_1⟩ := yH1
    first | replace h := pk1 h x1 | replace h := pk2 h x1
    refine Exists.elim h ?_
    clear h
    intro fn2_2 h
    refine Exists.elim h ?_
    clear h
    intro fp2_2 h
    refine Exists.elim h ?_
    clear h
    intro kd2_2 h
    refine Exists.elim h ?_
    clear h
    intro sta2_2 h
    refine Exists.elim h ?_
    clear h
    intro po2_2 h
    refine Exists.elim h ?_
    clear h
    intro va2_2 h
    refine Exists.elim h ?_
    clear h
    intro le2_2 h
    refine Exists.elim h ?_
    clear h
    intro tk2_2 h
    refine Exists.elim h ?_
    clear h
    intro ta2_2 h
    refine Exists.elim h ?_
    clear h
    intro qrg_2 h
    refine Exists.elim h ?_
    clear h
    intro qmg_2 h
    refine Exists.elim h ?_
    clear h
    intro qwg_2 h
    refine Exists.elim h ?_
    clear h
    intro qpg_2 h
    refine Exists.elim h ?_
    clear h
    intro qrk_2 h
    refine Exists.elim h ?_
    clear h
    intro qmk_2 h
    refine Exists.elim h ?_
    clear h
    intro qwk_2 h
    refine Exists.elim h ?_
    clear h
    intro qpk_2 h
    refine Exists.elim h ?_
    clear h
    intro qmd2_2 h
    refine Exists.elim h ?_
    clear h
    intro qtr2_2 h
    refine Exists.elim h ?_
    clear h
    intro qhng_2 h
    refine Exists.elim h ?_
    clear h
    intro qhtg_2 h
    refine Exists.elim h ?_
    clear h
    intro qhjg_2 h
    refine Exists.elim h ?_
    clear h
    intro qhmg_2 h
    refine Exists.elim h ?_
    clear h
    intro qhbg_2 h
    refine Exists.elim h ?_
    clear h
    intro qhsg_2 h
    refine Exists.elim h ?_
    clear h
    intro qhcg_2 h
    refine Exists.elim h ?_
    clear h
    intro qhnk_2 h
    refine Exists.elim h ?_
    clear h
    intro qhtk_2 h
    refine Exists.elim h ?_
    clear h
    intro qhjk_2 h
    refine Exists.elim h ?_
    clear h
    intro qhmk_2 h
    refine Exists.elim h ?_
    clear h
    intro qhbk_2 h
    refine Exists.elim h ?_
    clear h
    intro qhsk_2 h
    refine Exists.elim h ?_
    clear h
    intro qhck_2 h
    refine Exists.elim h ?_
    clear h
    intro r_2 h
    have hh2 := h.1
    replace h := h.2
    have m2 := qx_number hn ht wok_motor xs1 hh2
    cases hc2 : aftS T n "motor" 0 50 w1.2 with
    | inl e =>
      rw [hc2, bnd_l] at m2
      obtain ⟨x1, x2, x3⟩ := XF_l m2
      first | replace h := pf1 h x1 | replace h := pf2 h x1
      have l1 := h.1
      have l2 := h.2.1
      have l37 := h.2.2.2.2.2.2.2.2.2.2.2.2.2.2.2.2.2.2.2.2.2.2.2.2.2.2.2.2.2.2.2.2.2.2.2.2
      simp only [houseS, if_neg n15, hc1, hc2, bnd]
      exact ⟨(by first | exact l37 | rw [l37, x1]), by rw [l1, x2], by rw [l2, x3]⟩
    | inr w2 =>
      rw [hc2, bnd_r] at m2
      obtain ⟨x1, yf2, yg2, xs2, yH2⟩ := XF_r m2
      obtain ⟨q0_2, q1_2, q2_2, q3_2, q4_2, q5_2, q6_2, q7_2, q8_2, q9_2, q10_2, q11_2, q12_2, q13_2⟩ := yH2
      first | replace h := pk1 h x1 | replace h := pk2 h x1
      refine Exists.elim h ?_
      clear h
      intro fn2_3 h
      refine Exists.elim h ?_
      clear h
      intro fp2_3 h
      refine Exists.elim h ?_
      clear h
      intro kd2_3 h
      refine Exists.elim h ?_
      clear h
      intro sta2_3 h
      refine Exists.elim h ?_
      clear h
      intro po2_3 h
      refine Exists.elim h ?_
      clear h
      intro va2_3 h
      refine Exists.elim h ?_
      clear h
      intro le2_3 h
      refine Exists.elim h ?_
      clear h
      intro tk2_3 h
      refine Exists.elim h ?_
      clear h
      intro ta2_3 h
      refine Exists.elim h ?_
      clear h
      intro qrg_3 h
      refine Exists.elim h ?_
      clear h
      intro qmg_3 h
      refine Exists.elim h ?_
      clear h
      intro qwg_3 h
      refine Exists.elim h ?_
      clear h
      intro qpg_3 h
      refine Exists.elim h ?_
      clear h
      intro qrk_3 h
      refine Exists.elim h ?_
      clear h
      intro qmk_3 h
      refine Exists.elim h ?_
      clear h
      intro qwk_3 h
      refine Exists.elim h ?_
      clear h
      intro qpk_3 h
      refine Exists.elim h ?_
      clear h
      intro qmd2_3 h
      refine Exists.elim h ?_
      clear h
      intro qtr2_3 h
      refine Exists.elim h ?_
      clear h
      intro qhng_3 h
      refine Exists.elim h ?_
      clear h
      intro qhtg_3 h
      refine Exists.elim h ?_
      clear h
      intro qhjg_3 h
      refine Exists.elim h ?_
      clear h
      intro qhmg_3 h
      refine Exists.elim h ?_
      clear h
      intro qhbg_3 h
      refine Exists.elim h ?_
      clear h
      intro qhsg_3 h
      refine Exists.elim h ?_
      clear h
      intro qhcg_3 h
      refine Exists.elim h ?_
      clear h
      intro qhnk_3 h
      refine Exists.elim h ?_
      clear h
      intro qhtk_3 h
      refine Exists.elim h ?_
      clear h
      intro qhjk_3 h
      refine Exists.elim h ?_
      clear h
      intro qhmk_3 h
      refine Exists.elim h ?_
      clear h
      intro qhbk_3 h
      refine Exists.elim h ?_
      clear h
      intro qhsk_3 h
      refine Exists.elim h ?_
      clear h
      intro qhck_3 h
      refine Exists.elim h ?_
      clear h
      intro r_3 h
      have hh3 := h.1
      replace h := h.2
      have m3 := qx_number hn ht wok_leader xs2 hh3
      cases hc3 : aftS T n "leader" 0 99 w2.2 with
      | inl e =>
        rw [hc3, bnd_l] at m3
        obtain ⟨x1, x2, x3⟩ := XF_l m3
        first | replace h := pf1 h x1 | replace h := pf2 h x1
        have l1 := h.1
        have l2 := h.2.1
        have l37 := h.2.2.2.2.2.2.2.2.2.2.2.2.2.2.2.2.2.2.2.2.2.2.2.2.2.2.2.2.2.2.2.2.2.2.2.2
        simp only [houseS, if_neg n15, hc1, hc2, hc3, bnd]
        exact ⟨(by first | exact l37 | rw [l37, x1]), by rw [l1, x2], by rw [l2, x3]⟩
      | inr w3 =>
        rw [hc3, bnd_r] at m3
        obtain ⟨x1, yf3, yg3, xs3, yH3⟩ := XF_r m3
        obtain ⟨q0_3, q1_3, q2_3, q3_3, q4_3, q5_3, q6_3, q7_3, q8_3, q9_3, q10_3, q11_3, q12_3, q13_3⟩ := yH3
        first | replace h := pk1 h x1 | replace h := pk2 h x1
        refine Exists.elim h ?_
        clear h
        intro fn2_4 h
        refine Exists.elim h ?_
        clear h
        intro fp2_4 h
        refine Exists.elim h ?_
        clear h
        intro kd2_4 h
        refine Exists.elim h ?_
        clear h
        intro sta2_4 h
        refine Exists.elim h ?_
        clear h
        intro po2_4 h
        refine Exists.elim h ?_
        clear h
        intro va2_4 h
        refine Exists.elim h ?_
        clear h
        intro le2_4 h
        refine Exists.elim h ?_
        clear h
        intro tk2_4 h
        refine Exists.elim h ?_
        clear h
        intro ta2_4 h
        refine Exists.elim h ?_
        clear h
        intro qrg_4 h
        refine Exists.elim h ?_
        clear h
        intro qmg_4 h
        refine Exists.elim h ?_
        clear h
        intro qwg_4 h
        refine Exists.elim h ?_
        clear h
        intro qpg_4 h
        refine Exists.elim h ?_
        clear h
        intro qrk_4 h
        refine Exists.elim h ?_
        clear h
        intro qmk_4 h
        refine Exists.elim h ?_
        clear h
        intro qwk_4 h
        refine Exists.elim h ?_
        clear h
        intro qpk_4 h
        refine Exists.elim h ?_
        clear h
        intro qmd2_4 h
        refine Exists.elim h ?_
        clear h
        intro qtr2_4 h
        refine Exists.elim h ?_
        clear h
        intro qhng_4 h
        refine Exists.elim h ?_
        clear h
        intro qhtg_4 h
        refine Exists.elim h ?_
        clear h
        intro qhjg_4 h
        refine Exists.elim h ?_
        clear h
        intro qhmg_4 h
        refine Exists.elim h ?_
        clear h
        intro qhbg_4 h
        refine Exists.elim h ?_
        clear h
        intro qhsg_4 h
        refine Exists.elim h ?_
        clear h
        intro qhcg_4 h
        refine Exists.elim h ?_
        clear h
        intro qhnk_4 h
        refine Exists.elim h ?_
        clear h
        intro qhtk_4 h
        refine Exists.elim h ?_
        clear h
        intro qhjk_4 h
        refine Exists.elim h ?_
        clear h
        intro qhmk_4 h
        refine Exists.elim h ?_
        clear h
        intro qhbk_4 h
        refine Exists.elim h ?_
        clear h
        intro qhsk_4 h
        refine Exists.elim h ?_
        clear h
        intro qhck_4 h
        refine Exists.elim h ?_
        clear h
        intro r_4 h
        have hh4 := h.1
        replace h := h.2
        have m4 := qx_number hn ht wok_burns xs3 hh4
        cases hc4 : aftS T n "burns" 1 9999 w3.2 with
        | inl e =>
          rw [hc4, bnd_l] at m4
          obtain ⟨x1, x2, x3⟩ := XF_l m4
          first | replace h := pf1 h x1 | replace h := pf2 h x1
          have l1 := h.1
          have l2 := h.2.1
          have l37 := h.2.2.2.2.2.2.2.2.2.2.2.2.2.2.2.2.2.2.2.2.2.2.2.2.2.2.2.2.2.2.2.2.2.2.2.2
          simp only [houseS, if_neg n15, hc1, hc2, hc3, hc4, bnd]
          exact ⟨(by first | exact l37 | rw [l37, x1]), by rw [l1, x2], by rw [l2, x3]⟩
        | inr w4 =>
          rw [hc4, bnd_r] at m4
          obtain ⟨x1, yf4, yg4, xs4, yH4⟩ := XF_r m4
          obtain ⟨q0_4, q1_4, q2_4, q3_4, q4_4, q5_4, q6_4, q7_4, q8_4, q9_4, q10_4, q11_4, q12_4, q13_4⟩ := yH4
          first | replace h := pk1 h x1 | replace h := pk2 h x1
          refine Exists.elim h ?_
          clear h
          intro fn2_5 h
          refine Exists.elim h ?_
          clear h
          intro fp2_5 h
          refine Exists.elim h ?_
          clear h
          intro kd2_5 h
          refine Exists.elim h ?_
          clear h
          intro sta2_5 h
          refine Exists.elim h ?_
          clear h
          intro po2_5 h
          refine Exists.elim h ?_
          clear h
          intro va2_5 h
          refine Exists.elim h ?_
          clear h
          intro le2_5 h
          refine Exists.elim h ?_
          clear h
          intro tk2_5 h
          refine Exists.elim h ?_
          clear h
          intro ta2_5 h
          refine Exists.elim h ?_
          clear h
          intro qrg_5 h
          refine Exists.elim h ?_
          clear h
          intro qmg_5 h
          refine Exists.elim h ?_
          clear h
          intro qwg_5 h
          refine Exists.elim h ?_
          clear h
          intro qpg_5 h
          refine Exists.elim h ?_
          clear h
          intro qrk_5 h
          refine Exists.elim h ?_
          clear h
          intro qmk_5 h
          refine Exists.elim h ?_
          clear h
          intro qwk_5 h
          refine Exists.elim h ?_
          clear h
          intro qpk_5 h
          refine Exists.elim h ?_
          clear h
          intro qmd2_5 h
          refine Exists.elim h ?_
          clear h
          intro qtr2_5 h
          refine Exists.elim h ?_
          clear h
          intro qhng_5 h
          refine Exists.elim h ?_
          clear h
          intro qhtg_5 h
          refine Exists.elim h ?_
          clear h
          intro qhjg_5 h
          refine Exists.elim h ?_
          clear h
          intro qhmg_5 h
          refine Exists.elim h ?_
          clear h
          intro qhbg_5 h
          refine Exists.elim h ?_
          clear h
          intro qhsg_5 h
          refine Exists.elim h ?_
          clear h
          intro qhcg_5 h
          refine Exists.elim h ?_
          clear h
          intro qhnk_5 h
          refine Exists.elim h ?_
          clear h
          intro qhtk_5 h
          refine Exists.elim h ?_
          clear h
          intro qhjk_5 h
          refine Exists.elim h ?_
          clear h
          intro qhmk_5 h
          refine Exists.elim h ?_
          clear h
          intro qhbk_5 h
          refine Exists.elim h ?_
          clear h
          intro qhsk_5 h
          refine Exists.elim h ?_
          clear h
          intro qhck_5 h
          refine Exists.elim h ?_
          clear h
          intro r_5 h
          have hh5 := h.1
          replace h := h.2
          have m5 := qx_number hn ht wok_trim xs4 hh5
          cases hc5 : aftS T n "trim" 0 999 w4.2 with
          | inl e =>
            rw [hc5, bnd_l] at m5
            obtain ⟨x1, x2, x3⟩ := XF_l m5
            first | replace h := pf1 h x1 | replace h := pf2 h x1
            have l1 := h.1
            have l2 := h.2.1
            have l37 := h.2.2.2.2.2.2.2.2.2.2.2.2.2.2.2.2.2.2.2.2.2.2.2.2.2.2.2.2.2.2.2.2.2.2.2.2
            simp only [houseS, if_neg n15, hc1, hc2, hc3, hc4, hc5, bnd]
            exact ⟨(by first | exact l37 | rw [l37, x1]), by rw [l1, x2], by rw [l2, x3]⟩
          | inr w5 =>
            rw [hc5, bnd_r] at m5
            obtain ⟨x1, yf5, yg5, xs5, yH5⟩ := XF_r m5
            obtain ⟨q0_5, q1_5, q2_5, q3_5, q4_5, q5_5, q6_5, q7_5, q8_5, q9_5, q10_5, q11_5, q12_5, q13_5⟩ := yH5
            first | replace h := pk1 h x1 | replace h := pk2 h x1
            refine Exists.elim h ?_
            clear h
            intro fn2_6 h
            refine Exists.elim h ?_
            clear h
            intro fp2_6 h
            refine Exists.elim h ?_
            clear h
            intro kd2_6 h
            refine Exists.elim h ?_
            clear h
            intro sta2_6 h
            refine Exists.elim h ?_
            clear h
            intro po2_6 h
            refine Exists.elim h ?_
            clear h
            intro va2_6 h
            refine Exists.elim h ?_
            clear h
            intro le2_6 h
            refine Exists.elim h ?_
            clear h
            intro tk2_6 h
            refine Exists.elim h ?_
            clear h
            intro ta2_6 h
            refine Exists.elim h ?_
            clear h
            intro qrg_6 h
            refine Exists.elim h ?_
            clear h
            intro qmg_6 h
            refine Exists.elim h ?_
            clear h
            intro qwg_6 h
            refine Exists.elim h ?_
            clear h
            intro qpg_6 h
            refine Exists.elim h ?_
            clear h
            intro qrk_6 h
            refine Exists.elim h ?_
            clear h
            intro qmk_6 h
            refine Exists.elim h ?_
            clear h
            intro qwk_6 h
            refine Exists.elim h ?_
            clear h
            intro qpk_6 h
            refine Exists.elim h ?_
            clear h
            intro qmd2_6 h
            refine Exists.elim h ?_
            clear h
            intro qtr2_6 h
            refine Exists.elim h ?_
            clear h
            intro qhng_6 h
            refine Exists.elim h ?_
            clear h
            intro qhtg_6 h
            refine Exists.elim h ?_
            clear h
            intro qhjg_6 h
            refine Exists.elim h ?_
            clear h
            intro qhmg_6 h
            refine Exists.elim h ?_
            clear h
            intro qhbg_6 h
            refine Exists.elim h ?_
            clear h
            intro qhsg_6 h
            refine Exists.elim h ?_
            clear h
            intro qhcg_6 h
            refine Exists.elim h ?_
            clear h
            intro qhnk_6 h
            refine Exists.elim h ?_
            clear h
            intro qhtk_6 h
            refine Exists.elim h ?_
            clear h
            intro qhjk_6 h
            refine Exists.elim h ?_
            clear h
            intro qhmk_6 h
            refine Exists.elim h ?_
            clear h
            intro qhbk_6 h
            refine Exists.elim h ?_
            clear h
            intro qhsk_6 h
            refine Exists.elim h ?_
            clear h
            intro qhck_6 h
            refine Exists.elim h ?_
            clear h
            intro r_6 h
            have hh6 := h.1
            replace h := h.2
            have m6 := qx_number hn ht wok_mend xs5 hh6
            cases hc6 : aftS T n "mend" 0 999 w5.2 with
            | inl e =>
              rw [hc6, bnd_l] at m6
              obtain ⟨x1, x2, x3⟩ := XF_l m6
              first | replace h := pf1 h x1 | replace h := pf2 h x1
              have l1 := h.1
              have l2 := h.2.1
              have l37 := h.2.2.2.2.2.2.2.2.2.2.2.2.2.2.2.2.2.2.2.2.2.2.2.2.2.2.2.2.2.2.2.2.2.2.2.2
              simp only [houseS, if_neg n15, hc1, hc2, hc3, hc4, hc5, hc6, bnd]
              exact ⟨(by first | exact l37 | rw [l37, x1]), by rw [l1, x2], by rw [l2, x3]⟩
            | inr w6 =>
              rw [hc6, bnd_r] at m6
              obtain ⟨x1, yf6, yg6, xs6, yH6⟩ := XF_r m6
              obtain ⟨q0_6, q1_6, q2_6, q3_6, q4_6, q5_6, q6_6, q7_6, q8_6, q9_6, q10_6, q11_6, q12_6, q13_6⟩ := yH6
              first | replace h := pk1 h x1 | replace h := pk2 h x1 | skip
              have l1 := h.1
              have l2 := h.2.1
              have l3 := h.2.2.1
              have l4 := h.2.2.2.1
              have l5 := h.2.2.2.2.1
              have l6 := h.2.2.2.2.2.1
              have l7 := h.2.2.2.2.2.2.1
              have l8 := h.2.2.2.2.2.2.2.1
              have l9 := h.2.2.2.2.2.2.2.2.1
              have l10 := h.2.2.2.2.2.2.2.2.2.1
              have l11 := h.2.2.2.2.2.2.2.2.2.2.1
              have l12 := h.2.2.2.2.2.2.2.2.2.2.2.1
              have l13 := h.2.2.2.2.2.2.2.2.2.2.2.2.1
              have l14 := h.2.2.2.2.2.2.2.2.2.2.2.2.2.1
              have l15 := h.2.2.2.2.2.2.2.2.2.2.2.2.2.2.1
              have l16 := h.2.2.2.2.2.2.2.2.2.2.2.2.2.2.2.1
              have l17 := h.2.2.2.2.2.2.2.2.2.2.2.2.2.2.2.2.1
              have l18 := h.2.2.2.2.2.2.2.2.2.2.2.2.2.2.2.2.2.1
              have l19 := h.2.2.2.2.2.2.2.2.2.2.2.2.2.2.2.2.2.2.1
              have l20 := h.2.2.2.2.2.2.2.2.2.2.2.2.2.2.2.2.2.2.2.1
              have l21 := h.2.2.2.2.2.2.2.2.2.2.2.2.2.2.2.2.2.2.2.2.1
              have l22 := h.2.2.2.2.2.2.2.2.2.2.2.2.2.2.2.2.2.2.2.2.2.1
              have l23 := h.2.2.2.2.2.2.2.2.2.2.2.2.2.2.2.2.2.2.2.2.2.2.1
              have l24 := h.2.2.2.2.2.2.2.2.2.2.2.2.2.2.2.2.2.2.2.2.2.2.2.1
              have l25 := h.2.2.2.2.2.2.2.2.2.2.2.2.2.2.2.2.2.2.2.2.2.2.2.2.1
              have l26 := h.2.2.2.2.2.2.2.2.2.2.2.2.2.2.2.2.2.2.2.2.2.2.2.2.2.1
              have l27 := h.2.2.2.2.2.2.2.2.2.2.2.2.2.2.2.2.2.2.2.2.2.2.2.2.2.2.1
              have l28 := h.2.2.2.2.2.2.2.2.2.2.2.2.2.2.2.2.2.2.2.2.2.2.2.2.2.2.2.1
              have l29 := h.2.2.2.2.2.2.2.2.2.2.2.2.2.2.2.2.2.2.2.2.2.2.2.2.2.2.2.2.1
              have l30 := h.2.2.2.2.2.2.2.2.2.2.2.2.2.2.2.2.2.2.2.2.2.2.2.2.2.2.2.2.2.1
              have l31 := h.2.2.2.2.2.2.2.2.2.2.2.2.2.2.2.2.2.2.2.2.2.2.2.2.2.2.2.2.2.2.1
              have l32 := h.2.2.2.2.2.2.2.2.2.2.2.2.2.2.2.2.2.2.2.2.2.2.2.2.2.2.2.2.2.2.2.1
              have l33 := h.2.2.2.2.2.2.2.2.2.2.2.2.2.2.2.2.2.2.2.2.2.2.2.2.2.2.2.2.2.2.2.2.1
              have l34 := h.2.2.2.2.2.2.2.2.2.2.2.2.2.2.2.2.2.2.2.2.2.2.2.2.2.2.2.2.2.2.2.2.2.1
              have l35 := h.2.2.2.2.2.2.2.2.2.2.2.2.2.2.2.2.2.2.2.2.2.2.2.2.2.2.2.2.2.2.2.2.2.2.1
              have l36 := h.2.2.2.2.2.2.2.2.2.2.2.2.2.2.2.2.2.2.2.2.2.2.2.2.2.2.2.2.2.2.2.2.2.2.2.1
              have l37 := h.2.2.2.2.2.2.2.2.2.2.2.2.2.2.2.2.2.2.2.2.2.2.2.2.2.2.2.2.2.2.2.2.2.2.2.2
              simp only [houseS, if_neg n15, hc1, hc2, hc3, hc4, hc5, hc6, bnd]
              subst l3 l4 l5 l6 l7
              refine ⟨(by first | exact l37 | rw [l37, x1]), by rw [l1, yf6, yf5, yf4, yf3, yf2, yf1], by rw [l2, yg6, yg5, yg4, yg3, yg2, yg1], xs6, ?_⟩
              have K : ∀ i : Nat, 6 ≤ i → i ≠ 15 → (upd (upd (upd (upd (upd (upd (upd F 0 w1.1) 1 w2.1) 2 w3.1) 3 w4.1) 4 w5.1) 5 w6.1) 15 1) i = F i := by
                intro i q1 q2
                rw [upd_ne q2, upd_ne (by omega), upd_ne (by omega), upd_ne (by omega), upd_ne (by omega), upd_ne (by omega), upd_ne (by omega)]
              have KX : (upd (upd (upd (upd (upd (upd (upd F 0 w1.1) 1 w2.1) 2 w3.1) 3 w4.1) 4 w5.1) 5 w6.1) 15 1) 15 = 1 := upd_at
              generalize (upd (upd (upd (upd (upd (upd (upd F 0 w1.1) 1 w2.1) 2 w3.1) 3 w4.1) 4 w5.1) 5 w6.1) 15 1) = G at *
              dsimp only
              have hF := HRel_house hH0 K KX
              rw [l10, l11, l12, l13, l14, l15, l17, l18, l19, l20, l30, l31, l32, l33, l34, l35, l36]
              rw [q0_6, q0_5, q0_4, q0_3, q0_2, q0_1]
              rw [q1_6, q1_5, q1_4, q1_3, q1_2, q1_1]
              rw [q2_6, q2_5, q2_4, q2_3, q2_2, q2_1]
              rw [q3_6, q3_5, q3_4, q3_3, q3_2, q3_1]
              rw [q4_6, q4_5, q4_4, q4_3, q4_2, q4_1]
              rw [q5_6, q5_5, q5_4, q5_3, q5_2, q5_1]
              rw [q6_6, q6_5, q6_4, q6_3, q6_2, q6_1]
              rw [q7_6, q7_5, q7_4, q7_3, q7_2, q7_1]
              rw [q8_6, q8_5, q8_4, q8_3, q8_2, q8_1]
              rw [q9_6, q9_5, q9_4, q9_3, q9_2, q9_1]
              rw [q10_6, q10_5, q10_4, q10_3, q10_2, q10_1]
              rw [q11_6, q11_5, q11_4, q11_3, q11_2, q11_1]
              rw [q12_6, q12_5, q12_4, q12_3, q12_2, q12_1]
              rw [q13_6, q13_5, q13_4, q13_3, q13_2, q13_1]
              exact hF

theorem show_k0 {tp ndf qrf qmf qwf qpf qhnf qhtf qhjf qhmf qhbf qhsf qhcf ndg qrg qmg qwg qpg qhng qhtg qhjg qhmg qhbg qhsg qhcg F T : Nat → Int32} {nmf nmg : Nat → Int64} {le le2 : Int64} {fn fp n kd sta po va tk ta ndn qmd qtr qrn qmn qwn qpn qhnn qhtn qhjn qhmn qhbn qhsn qhcn fn2 fp2 kd2 sta2 po2 va2 tk2 ta2 ndk qrk qmk qwk qpk qmd2 qtr2 qhnk qhtk qhjk qhmk qhbk qhsk qhck r a : Int32} {Fm uf : Nat → Int32} {cnt kd9 sta9 po9 va9 tk9 ta9 b : Int32} {le9 : Int64} {m : Nat} (hc : cnt.toInt = m) (hm : 1 ≤ m ∧ m ≤ 8) (hF : ∀ i : Nat, (i < 126 ∨ 133 < i) → Fm i = F i) (hs : XS T n b kd9 sta9 po9 va9 le9) (h : (fun (u_20 : Int32) (u_15 : Int32) (u_16 : Int32) (u_17 : Int32) (u_18 : Int32) (u_9 : Int32) (u_11 : Int32) (u_12 : Int64) (u_13 : Int32) (u_14 : Int32) (uf_4 : Nat → Int32) => (((u_20 ≠ (1 : Int32)) ∧ (fn2 = u_15 ∧ fp2 = u_16 ∧ kd2 = u_17 ∧ sta2 = u_18 ∧ po2 = u_9 ∧ va2 = u_11 ∧ le2 = u_12 ∧ tk2 = u_13 ∧ ta2 = u_14 ∧ nmg = nmf ∧ ndg = ndf ∧ ndk = ndn ∧ qrg = qrf ∧ qmg = qmf ∧ qwg = qwf ∧ qpg = uf_4 ∧ qrk = qrn ∧ qmk = qmn ∧ qwk = qwn ∧ qpk = u_20 ∧ qmd2 = qmd ∧ qtr2 = qtr ∧ qhng = qhnf ∧ qhtg = qhtf ∧ qhjg = qhjf ∧ qhmg = qhmf ∧ qhbg = qhbf ∧ qhsg = qhsf ∧ qhcg = qhcf ∧ qhnk = qhnn ∧ qhtk = qhtn ∧ qhjk = qhjn ∧ qhmk = qhmn ∧ qhbk = qhbn ∧ qhsk = qhsn ∧ qhck = qhcn ∧ r = 1)) ∨ ((u_20 = (1 : Int32)) ∧ ((((u_17 = (3 : Int32)) ∧ (∃ xfn2_30 : Int32, ∃ xfp2_31 : Int32, ∃ r_32 : Int32, (R_x_refuseAtX 6 u_18 xfn2_30 xfp2_31 r_32) ∧ fn2 = xfn2_30 ∧ fp2 = xfp2_31 ∧ kd2 = u_17 ∧ sta2 = u_18 ∧ po2 = u_9 ∧ va2 = u_11 ∧ le2 = u_12 ∧ tk2 = u_13 ∧ ta2 = u_14 ∧ nmg = nmf ∧ ndg = ndf ∧ ndk = ndn ∧ qrg = qrf ∧ qmg = qmf ∧ qwg = qwf ∧ qpg = uf_4 ∧ qrk = qrn ∧ qmk = qmn ∧ qwk = qwn ∧ qpk = u_20 ∧ qmd2 = qmd ∧ qtr2 = qtr ∧ qhng = qhnf ∧ qhtg = qhtf ∧ qhjg = qhjf ∧ qhmg = qhmf ∧ qhbg = qhbf ∧ qhsg = qhsf ∧ qhcg = qhcf ∧ qhnk = qhnn ∧ qhtk = qhtn ∧ qhjk = qhjn ∧ qhmk = qhmn ∧ qhbk = qhbn ∧ qhsk = qhsn ∧ qhck = qhcn ∧ r = r_32)) ∨ ((¬ (u_17 = (3 : Int32))) ∧ ((((u_17 ≠ (0 : Int32)) ∧ (fn2 = u_15 ∧ fp2 = u_16 ∧ kd2 = u_17 ∧ sta2 = u_18 ∧ po2 = u_9 ∧ va2 = u_11 ∧ le2 = u_12 ∧ tk2 = u_13 ∧ ta2 = u_14 ∧ nmg = nmf ∧ ndg = ndf ∧ ndk = ndn ∧ qrg = qrf ∧ qmg = qmf ∧ qwg = qwf ∧ qpg = uf_4 ∧ qrk = qrn ∧ qmk = qmn ∧ qwk = qwn ∧ qpk = u_20 ∧ qmd2 = qmd ∧ qtr2 = qtr ∧ qhng = qhnf ∧ qhtg = qhtf ∧ qhjg = qhjf ∧ qhmg = qhmf ∧ qhbg = qhbf ∧ qhsg = qhsf ∧ qhcg = qhcf ∧ qhnk = qhnn ∧ qhtk = qhtn ∧ qhjk = qhjn ∧ qhmk = qhmn ∧ qhbk = qhbn ∧ qhsk = qhsn ∧ qhck = qhcn ∧ r = 1)) ∨ ((u_17 = (0 : Int32)) ∧ (∃ xfn2_37 : Int32, ∃ xfp2_38 : Int32, ∃ r_39 : Int32, (R_x_refuseAtX 6 u_18 xfn2_37 xfp2_38 r_39) ∧ fn2 = xfn2_37 ∧ fp2 = xfp2_38 ∧ kd2 = u_17 ∧ sta2 = u_18 ∧ po2 = u_9 ∧ va2 = u_11 ∧ le2 = u_12 ∧ tk2 = u_13 ∧ ta2 = u_14 ∧ nmg = nmf ∧ ndg = ndf ∧ ndk = ndn ∧ qrg = qrf ∧ qmg = qmf ∧ qwg = qwf ∧ qpg = uf_4 ∧ qrk = qrn ∧ qmk = qmn ∧ qwk = qwn ∧ qpk = u_20 ∧ qmd2 = qmd ∧ qtr2 = qtr ∧ qhng = qhnf ∧ qhtg = qhtf ∧ qhjg = qhjf ∧ qhmg = qhmf ∧ qhbg = qhbf ∧ qhsg = qhsf ∧ qhcg = qhcf ∧ qhnk = qhnn ∧ qhtk = qhtn ∧ qhjk = qhjn ∧ qhmk = qhmn ∧ qhbk = qhbn ∧ qhsk = qhsn ∧ qhck = qhcn ∧ r = r_39)))))))))) cnt fn fp kd9 sta9 po9 va9 le9 tk9 ta9 uf) : XF T n (showE T n m Fm b) fn fp r fn2 fp2 kd2 sta2 po2 va2 le2 (fun G => (∀ i : Nat, i ≠ 12 → (i < 126 ∨ 133 < i) → G i = F i) ∧ qpk = G 12 ∧ IV (G 12) 2 8 ∧ nmg = nmf ∧ ndg = ndf ∧ ndk = ndn ∧ qrg = qrf ∧ qmg = qmf ∧ qwg = qwf ∧ qrk = qrn ∧ qmk = qmn ∧ qwk = qwn ∧ qhnk = qhnn ∧ qhtk = qhtn ∧ qhjk = qhjn ∧ qhmk = qhmn ∧ qhbk = qhbn ∧ qhsk = qhsn ∧ qhck = qhcn) ∨ (∃ b9 : Int32, showE T n m Fm b = .inl (1, b9) ∧ r = 1 ∧ fn2 = fn ∧ fp2 = fp ∧ XS T n b9 kd2 sta2 po2 va2 le2 ∧ tkF T n b9 ≠ 3 ∧ tkF T n b9 ≠ 0) := by
  obtain ⟨s1, s2, s3⟩ := hs
  have e1 := s3.1
  have hok : ∀ hx : kd2 = kd9 ∧ sta2 = sta9 ∧ po2 = po9 ∧ va2 = va9 ∧ le2 = le9, XS T n b kd2 sta2 po2 va2 le2 := fun hx => by
    rw [hx.1, hx.2.1, hx.2.2.1, hx.2.2.2.1, hx.2.2.2.2]; exact ⟨s1, s2, s3⟩
  rcases h with ⟨h1, h⟩ | ⟨h1, h⟩
  · have m1 : m ≠ 1 := fun q => h1 (Int32.toInt_inj.mp (by rw [hc, q]; decide))
    refine Or.inl ?_
    unfold showE
    rw [if_neg (by omega)]
    refine ⟨h.2.2.2.2.2.2.2.2.2.2.2.2.2.2.2.2.2.2.2.2.2.2.2.2.2.2.2.2.2.2.2.2.2.2.2.2, h.1, h.2.1, hok ⟨h.2.2.1, h.2.2.2.1, h.2.2.2.2.1, h.2.2.2.2.2.1, h.2.2.2.2.2.2.1⟩, ?_, ?_, ?_, h.2.2.2.2.2.2.2.2.2.1, h.2.2.2.2.2.2.2.2.2.2.1, h.2.2.2.2.2.2.2.2.2.2.2.1, h.2.2.2.2.2.2.2.2.2.2.2.2.1, h.2.2.2.2.2.2.2.2.2.2.2.2.2.1, h.2.2.2.2.2.2.2.2.2.2.2.2.2.2.1, h.2.2.2.2.2.2.2.2.2.2.2.2.2.2.2.2.1, h.2.2.2.2.2.2.2.2.2.2.2.2.2.2.2.2.2.1, h.2.2.2.2.2.2.2.2.2.2.2.2.2.2.2.2.2.2.1, h.2.2.2.2.2.2.2.2.2.2.2.2.2.2.2.2.2.2.2.2.2.2.2.2.2.2.2.2.2.1, h.2.2.2.2.2.2.2.2.2.2.2.2.2.2.2.2.2.2.2.2.2.2.2.2.2.2.2.2.2.2.1, h.2.2.2.2.2.2.2.2.2.2.2.2.2.2.2.2.2.2.2.2.2.2.2.2.2.2.2.2.2.2.2.1, h.2.2.2.2.2.2.2.2.2.2.2.2.2.2.2.2.2.2.2.2.2.2.2.2.2.2.2.2.2.2.2.2.1, h.2.2.2.2.2.2.2.2.2.2.2.2.2.2.2.2.2.2.2.2.2.2.2.2.2.2.2.2.2.2.2.2.2.1, h.2.2.2.2.2.2.2.2.2.2.2.2.2.2.2.2.2.2.2.2.2.2.2.2.2.2.2.2.2.2.2.2.2.2.1, h.2.2.2.2.2.2.2.2.2.2.2.2.2.2.2.2.2.2.2.2.2.2.2.2.2.2.2.2.2.2.2.2.2.2.2.1⟩
    · intro i q1 q2
      show upd Fm 12 (nI m) i = F i
      rw [upd_ne q1]; exact hF i q2
    · show qpk = upd Fm 12 (nI m) 12
      rw [upd_at, h.2.2.2.2.2.2.2.2.2.2.2.2.2.2.2.2.2.2.2.1]
      exact Int32.toInt_inj.mp (by rw [hc, nIt (by omega)])
    · show IV (upd Fm 12 (nI m) 12) 2 8
      rw [upd_at, IV, nIt (by omega)]; omega
  · have m1 : m = 1 := by have : (1 : Int32).toInt = 1 := by decide
                          rw [h1, this] at hc; omega
    have E : showE T n m Fm b = (if tkF T n b = 3 then .inl (6, b) else if tkF T n b = 0 then .inl (6, b) else .inl (1, b)) := by unfold showE; rw [if_pos (by omega)]
    rcases h with ⟨h2, f1, p1, r1, ⟨b1, b2, b3⟩, h⟩ | ⟨h2, ⟨h3, h⟩ | ⟨h3, f1, p1, r1, ⟨b1, b2, b3⟩, h⟩⟩
    · refine Or.inl ?_
      rw [E, if_pos (e1.symm.trans h2)]
      exact ⟨by rw [h.2.2.2.2.2.2.2.2.2.2.2.2.2.2.2.2.2.2.2.2.2.2.2.2.2.2.2.2.2.2.2.2.2.2.2.2, b3], by rw [h.1, b1], by rw [h.2.1, b2, s1]⟩
    · have q3 : ¬ tkF T n b = 3 := fun q => h2 (e1.trans q)
      have q0 : ¬ tkF T n b = 0 := fun q => h3 (e1.trans q)
      exact Or.inr ⟨b, by rw [E, if_neg q3, if_neg q0], h.2.2.2.2.2.2.2.2.2.2.2.2.2.2.2.2.2.2.2.2.2.2.2.2.2.2.2.2.2.2.2.2.2.2.2.2, h.1, h.2.1, hok ⟨h.2.2.1, h.2.2.2.1, h.2.2.2.2.1, h.2.2.2.2.2.1, h.2.2.2.2.2.2.1⟩, q3, q0⟩
    · refine Or.inl ?_
      rw [E, if_neg (fun q => h2 (e1.trans q)), if_pos (e1.symm.trans h3)]
      exact ⟨by rw [h.2.2.2.2.2.2.2.2.2.2.2.2.2.2.2.2.2.2.2.2.2.2.2.2.2.2.2.2.2.2.2.2.2.2.2.2, b3], by rw [h.1, b1], by rw [h.2.1, b2, s1]⟩
theorem show_cl {tp ndf qrf qmf qwf qpf qhnf qhtf qhjf qhmf qhbf qhsf qhcf ndg qrg qmg qwg qpg qhng qhtg qhjg qhmg qhbg qhsg qhcg F T : Nat → Int32} {nmf nmg : Nat → Int64} {le le2 : Int64} {fn fp n kd sta po va tk ta ndn qmd qtr qrn qmn qwn qpn qhnn qhtn qhjn qhmn qhbn qhsn qhcn fn2 fp2 kd2 sta2 po2 va2 tk2 ta2 ndk qrk qmk qwk qpk qmd2 qtr2 qhnk qhtk qhjk qhmk qhbk qhsk qhck r a : Int32} (hn : IV n 0 900) (ht : TpR tp T) (hN : NRel F nmf ndf ndn) : ∀ (f g m : Nat) (Fm uf : Nat → Int32) (i7 cnt kd9 sta9 po9 va9 tk9 ta9 c : Int32) (le9 : Int64), cnt.toInt = m → i7.toInt = m → m ≤ 8 → m + g = 9 → (∀ i : Nat, (i < 126 ∨ 133 < i) → Fm i = F i) → XS T n c kd9 sta9 po9 va9 le9 → R_x_isShowsLineX_L0 n tp nmf ndn ndf qmd qtr qrn qrf qmn qmf qwn qwf qhnn qhnf qhtn qhtf qhjn qhjf qhmn qhmf qhbn qhbf qhsn qhsf qhcn qhcf fn2 fp2 kd2 sta2 po2 va2 le2 tk2 ta2 nmg ndg ndk qrg qmg qwg qpg qrk qmk qwk qpk qmd2 qtr2 qhng qhtg qhjg qhmg qhbg qhsg qhcg qhnk qhtk qhjk qhmk qhbk qhsk qhck r (fun (u_20 : Int32) (u_15 : Int32) (u_16 : Int32) (u_17 : Int32) (u_18 : Int32) (u_9 : Int32) (u_11 : Int32) (u_12 : Int64) (u_13 : Int32) (u_14 : Int32) (uf_4 : Nat → Int32) => (((u_20 ≠ (1 : Int32)) ∧ (fn2 = u_15 ∧ fp2 = u_16 ∧ kd2 = u_17 ∧ sta2 = u_18 ∧ po2 = u_9 ∧ va2 = u_11 ∧ le2 = u_12 ∧ tk2 = u_13 ∧ ta2 = u_14 ∧ nmg = nmf ∧ ndg = ndf ∧ ndk = ndn ∧ qrg = qrf ∧ qmg = qmf ∧ qwg = qwf ∧ qpg = uf_4 ∧ qrk = qrn ∧ qmk = qmn ∧ qwk = qwn ∧ qpk = u_20 ∧ qmd2 = qmd ∧ qtr2 = qtr ∧ qhng = qhnf ∧ qhtg = qhtf ∧ qhjg = qhjf ∧ qhmg = qhmf ∧ qhbg = qhbf ∧ qhsg = qhsf ∧ qhcg = qhcf ∧ qhnk = qhnn ∧ qhtk = qhtn ∧ qhjk = qhjn ∧ qhmk = qhmn ∧ qhbk = qhbn ∧ qhsk = qhsn ∧ qhck = qhcn ∧ r = 1)) ∨ ((u_20 = (1 : Int32)) ∧ ((((u_17 = (3 : Int32)) ∧ (∃ xfn2_30 : Int32, ∃ xfp2_31 : Int32, ∃ r_32 : Int32, (R_x_refuseAtX 6 u_18 xfn2_30 xfp2_31 r_32) ∧ fn2 = xfn2_30 ∧ fp2 = xfp2_31 ∧ kd2 = u_17 ∧ sta2 = u_18 ∧ po2 = u_9 ∧ va2 = u_11 ∧ le2 = u_12 ∧ tk2 = u_13 ∧ ta2 = u_14 ∧ nmg = nmf ∧ ndg = ndf ∧ ndk = ndn ∧ qrg = qrf ∧ qmg = qmf ∧ qwg = qwf ∧ qpg = uf_4 ∧ qrk = qrn ∧ qmk = qmn ∧ qwk = qwn ∧ qpk = u_20 ∧ qmd2 = qmd ∧ qtr2 = qtr ∧ qhng = qhnf ∧ qhtg = qhtf ∧ qhjg = qhjf ∧ qhmg = qhmf ∧ qhbg = qhbf ∧ qhsg = qhsf ∧ qhcg = qhcf ∧ qhnk = qhnn ∧ qhtk = qhtn ∧ qhjk = qhjn ∧ qhmk = qhmn ∧ qhbk = qhbn ∧ qhsk = qhsn ∧ qhck = qhcn ∧ r = r_32)) ∨ ((¬ (u_17 = (3 : Int32))) ∧ ((((u_17 ≠ (0 : Int32)) ∧ (fn2 = u_15 ∧ fp2 = u_16 ∧ kd2 = u_17 ∧ sta2 = u_18 ∧ po2 = u_9 ∧ va2 = u_11 ∧ le2 = u_12 ∧ tk2 = u_13 ∧ ta2 = u_14 ∧ nmg = nmf ∧ ndg = ndf ∧ ndk = ndn ∧ qrg = qrf ∧ qmg = qmf ∧ qwg = qwf ∧ qpg = uf_4 ∧ qrk = qrn ∧ qmk = qmn ∧ qwk = qwn ∧ qpk = u_20 ∧ qmd2 = qmd ∧ qtr2 = qtr ∧ qhng = qhnf ∧ qhtg = qhtf ∧ qhjg = qhjf ∧ qhmg = qhmf ∧ qhbg = qhbf ∧ qhsg = qhsf ∧ qhcg = qhcf ∧ qhnk = qhnn ∧ qhtk = qhtn ∧ qhjk = qhjn ∧ qhmk = qhmn ∧ qhbk = qhbn ∧ qhsk = qhsn ∧ qhck = qhcn ∧ r = 1)) ∨ ((u_17 = (0 : Int32)) ∧ (∃ xfn2_37 : Int32, ∃ xfp2_38 : Int32, ∃ r_39 : Int32, (R_x_refuseAtX 6 u_18 xfn2_37 xfp2_38 r_39) ∧ fn2 = xfn2_37 ∧ fp2 = xfp2_38 ∧ kd2 = u_17 ∧ sta2 = u_18 ∧ po2 = u_9 ∧ va2 = u_11 ∧ le2 = u_12 ∧ tk2 = u_13 ∧ ta2 = u_14 ∧ nmg = nmf ∧ ndg = ndf ∧ ndk = ndn ∧ qrg = qrf ∧ qmg = qmf ∧ qwg = qwf ∧ qpg = uf_4 ∧ qrk = qrn ∧ qmk = qmn ∧ qwk = qwn ∧ qpk = u_20 ∧ qmd2 = qmd ∧ qtr2 = qtr ∧ qhng = qhnf ∧ qhtg = qhtf ∧ qhjg = qhjf ∧ qhmg = qhmf ∧ qhbg = qhbf ∧ qhsg = qhsf ∧ qhcg = qhcf ∧ qhnk = qhnn ∧ qhtk = qhtn ∧ qhjk = qhjn ∧ qhmk = qhmn ∧ qhbk = qhbn ∧ qhsk = qhsn ∧ qhck = qhcn ∧ r = r_39)))))))))) (fun (u_20 : Int32) (u_15 : Int32) (u_16 : Int32) (u_17 : Int32) (u_18 : Int32) (u_9 : Int32) (u_11 : Int32) (u_12 : Int64) (u_13 : Int32) (u_14 : Int32) (uf_4 : Nat → Int32) => (((u_20 ≠ (1 : Int32)) ∧ (fn2 = u_15 ∧ fp2 = u_16 ∧ kd2 = u_17 ∧ sta2 = u_18 ∧ po2 = u_9 ∧ va2 = u_11 ∧ le2 = u_12 ∧ tk2 = u_13 ∧ ta2 = u_14 ∧ nmg = nmf ∧ ndg = ndf ∧ ndk = ndn ∧ qrg = qrf ∧ qmg = qmf ∧ qwg = qwf ∧ qpg = uf_4 ∧ qrk = qrn ∧ qmk = qmn ∧ qwk = qwn ∧ qpk = u_20 ∧ qmd2 = qmd ∧ qtr2 = qtr ∧ qhng = qhnf ∧ qhtg = qhtf ∧ qhjg = qhjf ∧ qhmg = qhmf ∧ qhbg = qhbf ∧ qhsg = qhsf ∧ qhcg = qhcf ∧ qhnk = qhnn ∧ qhtk = qhtn ∧ qhjk = qhjn ∧ qhmk = qhmn ∧ qhbk = qhbn ∧ qhsk = qhsn ∧ qhck = qhcn ∧ r = 1)) ∨ ((u_20 = (1 : Int32)) ∧ ((((u_17 = (3 : Int32)) ∧ (∃ xfn2_50 : Int32, ∃ xfp2_51 : Int32, ∃ r_52 : Int32, (R_x_refuseAtX 6 u_18 xfn2_50 xfp2_51 r_52) ∧ fn2 = xfn2_50 ∧ fp2 = xfp2_51 ∧ kd2 = u_17 ∧ sta2 = u_18 ∧ po2 = u_9 ∧ va2 = u_11 ∧ le2 = u_12 ∧ tk2 = u_13 ∧ ta2 = u_14 ∧ nmg = nmf ∧ ndg = ndf ∧ ndk = ndn ∧ qrg = qrf ∧ qmg = qmf ∧ qwg = qwf ∧ qpg = uf_4 ∧ qrk = qrn ∧ qmk = qmn ∧ qwk = qwn ∧ qpk = u_20 ∧ qmd2 = qmd ∧ qtr2 = qtr ∧ qhng = qhnf ∧ qhtg = qhtf ∧ qhjg = qhjf ∧ qhmg = qhmf ∧ qhbg = qhbf ∧ qhsg = qhsf ∧ qhcg = qhcf ∧ qhnk = qhnn ∧ qhtk = qhtn ∧ qhjk = qhjn ∧ qhmk = qhmn ∧ qhbk = qhbn ∧ qhsk = qhsn ∧ qhck = qhcn ∧ r = r_52)) ∨ ((¬ (u_17 = (3 : Int32))) ∧ ((((u_17 ≠ (0 : Int32)) ∧ (fn2 = u_15 ∧ fp2 = u_16 ∧ kd2 = u_17 ∧ sta2 = u_18 ∧ po2 = u_9 ∧ va2 = u_11 ∧ le2 = u_12 ∧ tk2 = u_13 ∧ ta2 = u_14 ∧ nmg = nmf ∧ ndg = ndf ∧ ndk = ndn ∧ qrg = qrf ∧ qmg = qmf ∧ qwg = qwf ∧ qpg = uf_4 ∧ qrk = qrn ∧ qmk = qmn ∧ qwk = qwn ∧ qpk = u_20 ∧ qmd2 = qmd ∧ qtr2 = qtr ∧ qhng = qhnf ∧ qhtg = qhtf ∧ qhjg = qhjf ∧ qhmg = qhmf ∧ qhbg = qhbf ∧ qhsg = qhsf ∧ qhcg = qhcf ∧ qhnk = qhnn ∧ qhtk = qhtn ∧ qhjk = qhjn ∧ qhmk = qhmn ∧ qhbk = qhbn ∧ qhsk = qhsn ∧ qhck = qhcn ∧ r = 1)) ∨ ((u_17 = (0 : Int32)) ∧ (∃ xfn2_57 : Int32, ∃ xfp2_58 : Int32, ∃ r_59 : Int32, (R_x_refuseAtX 6 u_18 xfn2_57 xfp2_58 r_59) ∧ fn2 = xfn2_57 ∧ fp2 = xfp2_58 ∧ kd2 = u_17 ∧ sta2 = u_18 ∧ po2 = u_9 ∧ va2 = u_11 ∧ le2 = u_12 ∧ tk2 = u_13 ∧ ta2 = u_14 ∧ nmg = nmf ∧ ndg = ndf ∧ ndk = ndn ∧ qrg = qrf ∧ qmg = qmf ∧ qwg = qwf ∧ qpg = uf_4 ∧ qrk = qrn ∧ qmk = qmn ∧ qwk = qwn ∧ qpk = u_20 ∧ qmd2 = qmd ∧ qtr2 = qtr ∧ qhng = qhnf ∧ qhtg = qhtf ∧ qhjg = qhjf ∧ qhmg = qhmf ∧ qhbg = qhbf ∧ qhsg = qhsf ∧ qhcg = qhcf ∧ qhnk = qhnn ∧ qhtk = qhtn ∧ qhjk = qhjn ∧ qhmk = qhmn ∧ qhbk = qhbn ∧ qhsk = qhsn ∧ qhck = qhcn ∧ r = r_59)))))))))) f uf 1 i7 po9 va9 le9 tk9 ta9 fn fp kd9 sta9 cnt → XF T n (showG T n g m Fm (nx T n c)) fn fp r fn2 fp2 kd2 sta2 po2 va2 le2 (fun G => (∀ i : Nat, i ≠ 12 → (i < 126 ∨ 133 < i) → G i = F i) ∧ qpk = G 12 ∧ IV (G 12) 2 8 ∧ nmg = nmf ∧ ndg = ndf ∧ ndk = ndn ∧ qrg = qrf ∧ qmg = qmf ∧ qwg = qwf ∧ qrk = qrn ∧ qmk = qmn ∧ qwk = qwn ∧ qhnk = qhnn ∧ qhtk = qhtn ∧ qhjk = qhjn ∧ qhmk = qhmn ∧ qhbk = qhbn ∧ qhsk = qhsn ∧ qhck = qhcn) ∨ (∃ b9 : Int32, showG T n g m Fm (nx T n c) = .inl (1, b9) ∧ r = 1 ∧ fn2 = fn ∧ fp2 = fp ∧ XS T n b9 kd2 sta2 po2 va2 le2 ∧ tkF T n b9 ≠ 3 ∧ tkF T n b9 ≠ 0) := by
  intro f
  induction f with
  | zero => intro g m Fm uf i7 cnt kd9 sta9 po9 va9 tk9 ta9 c le9 _ _ _ _ _ _ h; exact h.elim
  | succ f ih =>
    intro g m Fm uf i7 cnt kd9 sta9 po9 va9 tk9 ta9 c le9 hc hi hm hg hF hs h
    obtain ⟨g, rfl⟩ : ∃ k, g = k + 1 := ⟨g - 1, by omega⟩
    unfold R_x_isShowsLineX_L0 at h
    have n8' : (8 : Int32).toInt = 8 := by decide
    rcases h with ⟨q, -⟩ | ⟨-, h⟩
    · exact absurd q one0
    rcases h with ⟨q, -⟩ | ⟨-, h⟩
    · rw [lt_I, n8'] at q; omega
    refine Exists.elim h ?_
    clear h
    intro kx h
    refine Exists.elim h ?_
    clear h
    intro sx_ h
    refine Exists.elim h ?_
    clear h
    intro px h
    refine Exists.elim h ?_
    clear h
    intro vx_ h
    refine Exists.elim h ?_
    clear h
    intro lx h
    have hx := h.1
    replace h := h.2
    refine Exists.elim h ?_
    clear h
    intro f1 h
    refine Exists.elim h ?_
    clear h
    intro g1 h
    refine Exists.elim h ?_
    clear h
    intro k1 h
    refine Exists.elim h ?_
    clear h
    intro s1 h
    refine Exists.elim h ?_
    clear h
    intro p1 h
    refine Exists.elim h ?_
    clear h
    intro v1 h
    refine Exists.elim h ?_
    clear h
    intro l1' h
    refine Exists.elim h ?_
    clear h
    intro tk1 h
    refine Exists.elim h ?_
    clear h
    intro ta1 h
    refine Exists.elim h ?_
    clear h
    intro r1 h
    have hh1 := h.1
    replace h := h.2
    have xs := x_next_at hn ht hs hx
    have m1 := qx_oldR hn ht (NRel_hi hN (fun i q => hF i (by omega))) xs hh1
    cases hc1 : oldS Fm T n 0 7 (nx T n c) with
    | inl e =>
      have hr : reelP Fm T n (nx T n c) = .inl e := by unfold reelP; rw [hc1, bnd_l]
      rw [hr] at m1
      obtain ⟨x1, x2, x3⟩ := XV_l m1
      replace h := pf2 h x1
      refine Or.inl ?_
      rw [showG, hc1, bnd_l]
      exact ⟨h.2.2.2.2.2.2.2.2.2.2.2.2.2.2.2.2.2.2.2.2.2.2.2.2.2.2.2.2.2.2.2.2.2.2.2.2, by rw [h.1, x2], by rw [h.2.1, x3]⟩
    | inr v =>
      have hr : reelP Fm T n (nx T n c) = .inr (v, nx T n (nx T n c)) := by unfold reelP; rw [hc1, bnd_r]
      rw [hr] at m1
      obtain ⟨x1, yf, yg, yt, ya, xs1⟩ := XV_r m1
      replace h := pk2 h x1
      dsimp only at xs1 yt
      obtain ⟨r2, hr2, h⟩ := h
      by_cases q8 : cnt < 8
      · rw [if_pos q8] at hr2
        rw [lt_I, n8'] at q8
        have hm8 : m ≠ 8 := by omega
        replace h := pf1 h hr2
        obtain ⟨r3, hr3, gg, kk, hadd, h⟩ := h
        obtain ⟨o1, o2⟩ := qt_add8_2 ⟨by omega, by omega⟩ hadd
        have ek := inc1 (u := cnt) (z := kk) (a := 0) (b := 900) ⟨by omega, by omega⟩ (by omega) (by omega) o2
        have hF2 : ∀ i : Nat, (i < 126 ∨ 133 < i) → upd Fm (126 + m) v i = F i := by
          intro i q
          rw [upd_ne (by omega)]; exact hF i q
        have S : showG T n (g + 1) m Fm (nx T n c) = (if tkF T n (nx T n (nx T n c)) = 4 then showG T n g (m + 1) (upd Fm (126 + m) v) (nx T n (nx T n (nx T n c))) else showE T n (m + 1) (upd Fm (126 + m) v) (nx T n (nx T n c))) := by rw [showG, hc1, bnd_r, if_neg hm8]
        have e1 := xs1.2.2.1
        have e1 : k1 = tkF T n (nx T n (nx T n c)) := e1
        rcases h with ⟨h4, z, hz, h⟩ | ⟨h4, z, hz, h⟩
        · rw [if_neg (fun q => h4 (e1.trans q))] at S
          rw [S]
          cases f with
          | zero => exact h.elim
          | succ f =>
            unfold R_x_isShowsLineX_L0 at h
            rcases h with ⟨-, h⟩ | ⟨q, -⟩
            · rw [yf, yg] at h
              clear ih hadd o1 hr3 m1 hh1 hx
              have hk := show_k0 (a := a) (tp := tp) (qpf := qpf) (le := le) (kd := kd) (sta := sta) (po := po) (va := va) (tk := tk) (ta := ta) (qpn := qpn) (T := T) (n := n) (Fm := upd Fm (126 + m) v) (b := nx T n (nx T n c)) (cnt := kk) (m := m + 1) (by omega) (by omega) hF2 xs1 h
              exact hk
            · exact absurd rfl q
        · rw [if_pos (e1.symm.trans h4)] at S
          rw [S]
          rw [ofI1] at hz
          have ez := inc1 (u := i7) (z := z) (a := 0) (b := 900) ⟨by omega, by omega⟩ (by omega) (by omega) hz.symm
          rw [yf, yg] at h
          exact ih g (m + 1) _ _ z kk _ _ _ _ _ _ _ _ (by omega) (by omega) (by omega) (by omega) hF2 xs1 h
      · rw [if_neg q8] at hr2
        rw [lt_I, n8'] at q8
        have hm8 : m = 8 := by omega
        replace h := pk1 h hr2
        obtain ⟨f2, p2, r3, ⟨b1, b2, b3⟩, h⟩ := h
        refine Or.inl ?_
        rw [showG, hc1, bnd_r, if_pos hm8]
        exact ⟨by rw [h.2.2.2.2.2.2.2.2.2.2.2.2.2.2.2.2.2.2.2.2.2.2.2.2.2.2.2.2.2.2.2.2.2.2.2.2, b3], by rw [h.1, b1], by rw [h.2.1, b2, ya]⟩
