set_option maxRecDepth 100000
set_option maxHeartbeats 4000000
theorem once_0 {F T : Nat → Int32} {n x a : Int32} (h15 : F 15 ≠ 0) (h : x ≤ 0) : onceS F T n (bpos x) a = .inr (nx T n a) := by
  unfold onceS bpos
  rw [if_pos h, if_pos rfl, if_neg h15]
theorem once_1 {F T : Nat → Int32} {n x a : Int32} (h : ¬ x ≤ 0) : onceS F T n (bpos x) a = .inl (3, a) := by
  unfold onceS bpos
  rw [if_neg h, if_neg one0]
theorem num_lo {T : Nat → Int32} {n lo hi a : Int32} {v : Int32 × Int32} (h : numS T n lo hi a = .inr v) : ¬ v.1 < lo ∧ ¬ hi < v.1 := by
  unfold numS numH at h
  by_cases q1 : tkF T n a = 2
  · rw [if_pos q1] at h
    by_cases q2 : valF T n a < lo
    · rw [if_pos q2, bnd_l] at h; cases h
    · rw [if_neg q2] at h
      by_cases q3 : hi < valF T n a
      · rw [if_pos q3, bnd_l] at h; cases h
      · rw [if_neg q3, bnd_r] at h
        have e := Sum.inr.inj h
        subst e
        exact ⟨q2, q3⟩
  · rw [if_neg q1, bnd_l] at h; cases h
theorem qx_isBoysLine {tp ndf qrf qmf qwf qpf qhnf qhtf qhjf qhmf qhbf qhsf qhcf ndg qrg qmg qwg qpg qhng qhtg qhjg qhmg qhbg qhsg qhcg F T : Nat → Int32} {nmf nmg : Nat → Int64} {le le2 : Int64} {fn fp n kd sta po va tk ta ndn qmd qtr qrn qmn qwn qpn qhnn qhtn qhjn qhmn qhbn qhsn qhcn fn2 fp2 kd2 sta2 po2 va2 tk2 ta2 ndk qrk qmk qwk qpk qmd2 qtr2 qhnk qhtk qhjk qhmk qhbk qhsk qhck r a : Int32} (hn : IV n 0 900) (ht : TpR tp T) (hH : HRel F ndn nmf ndf qrn qrf qmn qmf qwn qwf qpn qhnn qhtn qhjn qhmn qhbn qhsn qhcn) (hV : HV F qrf qmf qwf qpf qhnf qhtf qhjf qhmf qhbf qhsf qhcf) (h15 : F 15 ≠ 0) (hs : XS T n a kd sta po va le) (h : R_x_isBoysLineX fn fp n kd sta po va le tk ta tp nmf ndn ndf qmd qtr qrn qrf qmn qmf qwn qwf qpn qpf qhnn qhnf qhtn qhtf qhjn qhjf qhmn qhmf qhbn qhbf qhsn qhsf qhcn qhcf fn2 fp2 kd2 sta2 po2 va2 le2 tk2 ta2 nmg ndg ndk qrg qmg qwg qpg qrk qmk qwk qpk qmd2 qtr2 qhng qhtg qhjg qhmg qhbg qhsg qhcg qhnk qhtk qhjk qhmk qhbk qhsk qhck r) : XF T n (bnd (onceS F T n (bpos (F 134)) a) (boysS F T n)) fn fp r fn2 fp2 kd2 sta2 po2 va2 le2 (fun G => HRel G ndk nmg ndg qrk qrg qmk qmg qwk qwg qpk qhnk qhtk qhjk qhmk qhbk qhsk qhck ∧ HV G qrg qmg qwg qpg qhng qhtg qhjg qhmg qhbg qhsg qhcg) := by
  have hH0 := hH
  refine exA14 hH ?_
  clear hH
  intro zc1 zc2 zc3 c12 cb cr cm cw cN cd f1' f2' f3' g1' g2'
  refine exA1 zc1 ?_
  clear zc1
  intro a1 a2
  refine exA8 zc2 ?_
  clear zc2
  intro b1 b2 b3 b4 b5 b6 b7 b8 b9
  refine exA7 zc3 ?_
  clear zc3
  intro i6 i7 i8 i9 i10 i11 i13 i14
  have e8 : (8 : Int32).toInt = 8 := by decide
  have e6 : (6 : Int32).toInt = 6 := by decide
  unfold R_x_isBoysLineX at h
  rcases cb with ⟨cb1, cb2⟩ | ⟨cb1, cb2⟩
  case inr =>
    rw [once_1 (by rw [le_I, zI]; omega), bnd_l]
    rcases h with ⟨q, -⟩ | ⟨-, h⟩
    · rw [cb1] at q; exact absurd q (by decide)
    · obtain ⟨f, p, r2, ⟨b1', b2', b3'⟩, h⟩ := h
      have l1 := h.1
      have l2 := h.2.1
      have l37 := h.2.2.2.2.2.2.2.2.2.2.2.2.2.2.2.2.2.2.2.2.2.2.2.2.2.2.2.2.2.2.2.2.2.2.2.2
      obtain ⟨s1, s2, s3⟩ := hs
      exact ⟨by rw [l37, b3'], by rw [l1, b1'], by rw [l2, b2', s1]⟩
  rw [once_0 h15 (by rw [cb2]; decide), bnd_r]
  rcases h with ⟨-, h⟩ | ⟨q, -⟩
  case inr => rw [cb1] at q; exact absurd (by decide) q
  refine exE5 h ?_
  clear h
  intro k0 s0 p0 v0 l0 hx0 h
  have xs0 := x_next_at hn ht hs hx0
  refine exE10 h ?_
  clear h
  intro f1 g1 k1 s1 p1 v1 l1' tk1 ta1 r1 hh1 h
  have m1 := qx_whole hn ht xs0 hh1
  skip
  cases hc1 : numS T n 1 4 (nx T n a) with
  | inl e =>
    rw [hc1] at m1
    refine exA2 (XV_l m1) ?_
    intro x1 x2 x3
    first | replace h := pf1 h x1 | replace h := pf2 h x1
    have l1 := h.1
    have l2 := h.2.1
    have l37 := h.2.2.2.2.2.2.2.2.2.2.2.2.2.2.2.2.2.2.2.2.2.2.2.2.2.2.2.2.2.2.2.2.2.2.2.2
    simp only [boysS, aft_def, hc1, bnd]
    exact ⟨(by first | exact l37 | rw [l37, x1]), by rw [l1, x2], by rw [l2, x3]⟩
  | inr u1 =>
    rw [hc1] at m1
    refine exA5 (XV_r m1) ?_
    intro x1 yf1 yg1 yt1 ya1 xs1
    first | replace h := pk1 h x1 | replace h := pk2 h x1
    refine exE8 h ?_
    clear h
    intro f2 g2 k2 s2 p2 v2 l2' r2 hh2 h
    have m2 := qx_label hn ht wok_ride xs1 hh2
    skip
    cases hc2 : labS T n "ride" u1.2 with
    | inl e =>
      rw [hc2] at m2
      refine exA2 (XL_l m2) ?_
      intro x1 x2 x3
      first | replace h := pf1 h x1 | replace h := pf2 h x1
      have l1 := h.1
      have l2 := h.2.1
      have l37 := h.2.2.2.2.2.2.2.2.2.2.2.2.2.2.2.2.2.2.2.2.2.2.2.2.2.2.2.2.2.2.2.2.2.2.2.2
      simp only [boysS, aft_def, hc1, hc2, bnd]
      exact ⟨(by first | exact l37 | rw [l37, x1]), by rw [l1, x2], by rw [l2, x3]⟩
    | inr u2 =>
      rw [hc2] at m2
      refine exA3 (XL_r m2) ?_
      intro x1 yf2 yg2 xs2
      first | replace h := pk1 h x1 | replace h := pk2 h x1
      refine exE10 h ?_
      clear h
      intro f3 g3 k3 s3 p3 v3 l3' tk3 ta3 r3 hh3 h
      have m3 := qx_whole hn ht xs2 hh3
      skip
      cases hc3 : numS T n 1 2000 u2 with
      | inl e =>
        rw [hc3] at m3
        refine exA2 (XV_l m3) ?_
        intro x1 x2 x3
        first | replace h := pf1 h x1 | replace h := pf2 h x1
        have l1 := h.1
        have l2 := h.2.1
        have l37 := h.2.2.2.2.2.2.2.2.2.2.2.2.2.2.2.2.2.2.2.2.2.2.2.2.2.2.2.2.2.2.2.2.2.2.2.2
        simp only [boysS, aft_def, hc1, hc2, hc3, bnd]
        exact ⟨(by first | exact l37 | rw [l37, x1]), by rw [l1, x2], by rw [l2, x3]⟩
      | inr u3 =>
        rw [hc3] at m3
        refine exA5 (XV_r m3) ?_
        intro x1 yf3 yg3 yt3 ya3 xs3
        first | replace h := pk1 h x1 | replace h := pk2 h x1
        refine exE8 h ?_
        clear h
        intro f4 g4 k4 s4 p4 v4 l4' r4 hh4 h
        have m4 := qx_label hn ht wok_falls xs3 hh4
        skip
        cases hc4 : labS T n "falls" u3.2 with
        | inl e =>
          rw [hc4] at m4
          refine exA2 (XL_l m4) ?_
          intro x1 x2 x3
          first | replace h := pf1 h x1 | replace h := pf2 h x1
          have l1 := h.1
          have l2 := h.2.1
          have l37 := h.2.2.2.2.2.2.2.2.2.2.2.2.2.2.2.2.2.2.2.2.2.2.2.2.2.2.2.2.2.2.2.2.2.2.2.2
          simp only [boysS, aft_def, hc1, hc2, hc3, hc4, bnd]
          exact ⟨(by first | exact l37 | rw [l37, x1]), by rw [l1, x2], by rw [l2, x3]⟩
        | inr u4 =>
          rw [hc4] at m4
          refine exA3 (XL_r m4) ?_
          intro x1 yf4 yg4 xs4
          first | replace h := pk1 h x1 | replace h := pk2 h x1
          refine exE10 h ?_
          clear h
          intro f5 g5 k5 s5 p5 v5 l5' tk5 ta5 r5 hh5 h
          have m5 := qx_whole hn ht xs4 hh5
          skip
          cases hc5 : numS T n 0 50 u4 with
          | inl e =>
            rw [hc5] at m5
            refine exA2 (XV_l m5) ?_
            intro x1 x2 x3
            first | replace h := pf1 h x1 | replace h := pf2 h x1
            have l1 := h.1
            have l2 := h.2.1
            have l37 := h.2.2.2.2.2.2.2.2.2.2.2.2.2.2.2.2.2.2.2.2.2.2.2.2.2.2.2.2.2.2.2.2.2.2.2.2
            simp only [boysS, aft_def, hc1, hc2, hc3, hc4, hc5, bnd]
            exact ⟨(by first | exact l37 | rw [l37, x1]), by rw [l1, x2], by rw [l2, x3]⟩
          | inr u5 =>
            rw [hc5] at m5
            refine exA5 (XV_r m5) ?_
            intro x1 yf5 yg5 yt5 ya5 xs5
            first | replace h := pk1 h x1 | replace h := pk2 h x1
            refine exE2 h ?_
            clear h
            intro gg kk hadd h
            refine exA36 h ?_
            intro l1 l2 l3 l4 l5 l6 l7 l8 l9 l10 l11 l12 l13 l14 l15 l16 l17 l18 l19 l20 l21 l22 l23 l24 l25 l26 l27 l28 l29 l30 l31 l32 l33 l34 l35 l36 l37
            obtain ⟨o1, o2⟩ := qt_add1_3 (by rw [cb1]; decide) hadd
            simp only [boysS, aft_def, hc1, hc2, hc3, hc4, hc5, bnd]
            subst l3 l4 l5 l6 l7
            refine ⟨l37, by rw [l1, yf5, yf4, yf3, yf2, yf1], by rw [l2, yg5, yg4, yg3, yg2, yg1], xs5, ?_⟩
            skip
            have K : ∀ i : Nat, (i < 134 ∨ 136 < i) → (upd (upd (upd F 135 u3.1) 136 u5.1) 134 u1.1) i = F i := by
              intro i q
              rw [upd_ne (by omega), upd_ne (by omega), upd_ne (by omega)]
            have K4 : (upd (upd (upd F 135 u3.1) 136 u5.1) 134 u1.1) 134 = u1.1 := upd_at
            rw [cb1, zI] at o1
            have hW := HV_boys (g := gg) (G := (upd (upd (upd F 135 u3.1) 136 u5.1) 134 u1.1)) hV ⟨i6, i7, i8, i9, i10, i11, i13, i14⟩ c12 (fun i _ q => by rw [upd_ne (by omega), upd_ne (by omega), upd_ne (by omega)]) (by rw [o1, yt1, yt3, yt5, upd3_0, upd_at]) (by rw [o1, yt1, yt3, yt5, upd3_1, upd_ne (by omega), upd_ne (by omega), upd_at]) (by rw [o1, yt1, yt3, yt5, upd3_2, upd_ne (by omega), upd_at])
            rw [l10, l11, l12, l13, l14, l15, l16, l17, l18, l19, l20, l23, l24, l25, l26, l27, l28, l29, l30, l31, l32, l33, l34, l35, l36]
            generalize (upd (upd (upd F 135 u3.1) 136 u5.1) 134 u1.1) = G at *
            dsimp only
            exact ⟨HG hH0 h15 (K 15 (by first | decide | omega)) (K 6 (by first | decide | omega)) (K 7 (by first | decide | omega)) (K 11 (by first | decide | omega)) (fun i q => K i (by omega)) (fun j q => K _ (by omega)) (by rw [K 8 (by first | decide | omega)]; exact i8) (by rw [K 9 (by first | decide | omega)]; exact i9) (by rw [K 10 (by first | decide | omega)]; exact i10) (by rw [K 12 (by first | decide | omega)]; exact c12) (by rw [K 13 (by first | decide | omega)]; exact i13) (by rw [K 14 (by first | decide | omega)]; exact i14) (by rw [K 8 (by first | decide | omega)]; exact b3) (by rw [K 9 (by first | decide | omega)]; exact b4) (by rw [K 10 (by first | decide | omega)]; exact b5) (by rw [K 12 (by first | decide | omega)]; exact b7) (by rw [K 13 (by first | decide | omega)]; exact b8) (by rw [K 14 (by first | decide | omega)]; exact b9) (Or.inr ⟨by rw [o2, cb1]; decide, by rw [K4]; have := (num_lo hc1).1; rw [lt_I, oneI] at this; omega⟩) (fun j q => by rw [K 8 (by first | decide | omega)] at q; rw [K _ (by omega), K _ (by omega)]; exact cm j q) (fun j q => by rw [K 10 (by first | decide | omega)] at q; rw [K _ (by omega), K _ (by omega)]; exact cw j q) (by rw [K 13 (by first | decide | omega), K 12 (by first | decide | omega)]; exact g2'), hW⟩

theorem seen_room {F T : Nat → Int32} {n a : Int32} (h15 : F 15 ≠ 0) (h12 : F 12 ≠ 0) (i13 : IV (F 13) 0 6) : seenS F T n a = bnd (roomS T n 6 (F 13) a) (fun b => bnd (numS T n 1 (F 12 - 1) b) (fun v1 => bnd (aftS T n "black" 0 9999 v1.2) (fun v2 => bnd (aftS T n "lost" 0 9999 v2.2) (fun v3 => .inr (upd (upd (upd (upd F (137 + 3 * (F 13).toInt.toNat) v1.1) (137 + 3 * (F 13).toInt.toNat + 1) v2.1) (137 + 3 * (F 13).toInt.toNat + 2) v3.1) 13 (F 13 + 1), v3.2))))) := by
  have e6 : (6 : Int32).toInt = 6 := by decide
  unfold seenS roomS
  by_cases q : F 13 = 6
  · rw [if_pos q, if_pos (by rw [q]; decide), bnd_l]
  · have : (F 13).toInt ≠ 6 := fun w => q (Int32.toInt_inj.mp (w.trans e6.symm))
    rw [if_neg q, if_neg h15, if_neg h12, if_neg (by rw [le_I, e6]; omega), bnd_r]
theorem qx_isSeenLine {tp ndf qrf qmf qwf qpf qhnf qhtf qhjf qhmf qhbf qhsf qhcf ndg qrg qmg qwg qpg qhng qhtg qhjg qhmg qhbg qhsg qhcg F T : Nat → Int32} {nmf nmg : Nat → Int64} {le le2 : Int64} {fn fp n kd sta po va tk ta ndn qmd qtr qrn qmn qwn qpn qhnn qhtn qhjn qhmn qhbn qhsn qhcn fn2 fp2 kd2 sta2 po2 va2 tk2 ta2 ndk qrk qmk qwk qpk qmd2 qtr2 qhnk qhtk qhjk qhmk qhbk qhsk qhck r a : Int32} (hn : IV n 0 900) (ht : TpR tp T) (hH : HRel F ndn nmf ndf qrn qrf qmn qmf qwn qwf qpn qhnn qhtn qhjn qhmn qhbn qhsn qhcn) (hV : HV F qrf qmf qwf qpf qhnf qhtf qhjf qhmf qhbf qhsf qhcf) (h15 : F 15 ≠ 0) (hs : XS T n a kd sta po va le) (h : R_x_isSeenLineX fn fp n kd sta po va le tk ta tp nmf ndn ndf qmd qtr qrn qrf qmn qmf qwn qwf qpn qpf qhnn qhnf qhtn qhtf qhjn qhjf qhmn qhmf qhbn qhbf qhsn qhsf qhcn qhcf fn2 fp2 kd2 sta2 po2 va2 le2 tk2 ta2 nmg ndg ndk qrg qmg qwg qpg qrk qmk qwk qpk qmd2 qtr2 qhng qhtg qhjg qhmg qhbg qhsg qhcg qhnk qhtk qhjk qhmk qhbk qhsk qhck r) : XF T n (seenS F T n a) fn fp r fn2 fp2 kd2 sta2 po2 va2 le2 (fun G => HRel G ndk nmg ndg qrk qrg qmk qmg qwk qwg qpk qhnk qhtk qhjk qhmk qhbk qhsk qhck ∧ HV G qrg qmg qwg qpg qhng qhtg qhjg qhmg qhbg qhsg qhcg) := by
  have hH0 := hH
  refine exA14 hH ?_
  clear hH
  intro zc4 zc5 zc6 c12 cb cr cm cw cN cd f1' f2' f3' g1' g2'
  refine exA1 zc4 ?_
  clear zc4
  intro a1 a2
  refine exA8 zc5 ?_
  clear zc5
  intro b1 b2 b3 b4 b5 b6 b7 b8 b9
  refine exA7 zc6 ?_
  clear zc6
  intro i6 i7 i8 i9 i10 i11 i13 i14
  have e8 : (8 : Int32).toInt = 8 := by decide
  have e6 : (6 : Int32).toInt = 6 := by decide
  unfold R_x_isSeenLineX at h
  by_cases q12 : F 12 = 0
  case pos =>
    rcases h with ⟨q, -⟩ | ⟨-, h⟩
    · exact absurd (b7.trans q12) q
    · obtain ⟨f, p, r2, ⟨b1', b2', b3'⟩, h⟩ := h
      have l1 := h.1
      have l2 := h.2.1
      have l37 := h.2.2.2.2.2.2.2.2.2.2.2.2.2.2.2.2.2.2.2.2.2.2.2.2.2.2.2.2.2.2.2.2.2.2.2.2
      obtain ⟨s1, s2, s3⟩ := hs
      have z13 : F 13 ≠ 6 := by
        intro w
        have := g2' (by rw [w]; decide)
        rw [q12, zI] at this
        exact absurd this (by decide)
      unfold seenS
      rw [if_neg z13, if_neg h15, if_pos q12]
      exact ⟨by rw [l37, b3'], by rw [l1, b1'], by rw [l2, b2', s1]⟩
  rw [seen_room h15 q12 i13]
  rcases h with ⟨-, h⟩ | ⟨q, -⟩
  case inr => exact absurd (b7.symm.trans q) q12
  refine exE8 h ?_
  clear h
  intro f1 g1 k1 s1 p1 v1 l1' r1 hh1 h
  rw [b8] at hh1
  have m1 := qx_room4 hn ht hs hh1
  skip
  cases hc1 : roomS T n 6 (F 13) a with
  | inl e =>
    rw [hc1] at m1
    refine exA2 (XL_l m1) ?_
    intro x1 x2 x3
    first | replace h := pf1 h x1 | replace h := pf2 h x1
    have l1 := h.1
    have l2 := h.2.1
    have l37 := h.2.2.2.2.2.2.2.2.2.2.2.2.2.2.2.2.2.2.2.2.2.2.2.2.2.2.2.2.2.2.2.2.2.2.2.2
    simp only [aft_def, hc1, bnd]
    exact ⟨(by first | exact l37 | rw [l37, x1]), by rw [l1, x2], by rw [l2, x3]⟩
  | inr u1 =>
    rw [hc1] at m1
    refine exA3 (XL_r m1) ?_
    intro x1 yf1 yg1 xs1
    first | replace h := pk1 h x1 | replace h := pk2 h x1
    refine exE1 h ?_
    clear h
    intro z17 hz h
    refine exE10 h ?_
    clear h
    intro f2 g2 k2 s2 p2 v2 l2' tk2 ta2 r2 hh2 h
    rw [hz, b7] at hh2
    have m2 := qx_whole hn ht xs1 hh2
    skip
    cases hc2 : numS T n 1 (F 12 - 1) u1 with
    | inl e =>
      rw [hc2] at m2
      refine exA2 (XV_l m2) ?_
      intro x1 x2 x3
      first | replace h := pf1 h x1 | replace h := pf2 h x1
      have l1 := h.1
      have l2 := h.2.1
      have l37 := h.2.2.2.2.2.2.2.2.2.2.2.2.2.2.2.2.2.2.2.2.2.2.2.2.2.2.2.2.2.2.2.2.2.2.2.2
      simp only [aft_def, hc1, hc2, bnd]
      exact ⟨(by first | exact l37 | rw [l37, x1]), by rw [l1, x2], by rw [l2, x3]⟩
    | inr u2 =>
      rw [hc2] at m2
      refine exA5 (XV_r m2) ?_
      intro x1 yf2 yg2 yt2 ya2 xs2
      first | replace h := pk1 h x1 | replace h := pk2 h x1
      refine exE8 h ?_
      clear h
      intro f3 g3 k3 s3 p3 v3 l3' r3 hh3 h
      have m3 := qx_label hn ht wok_black xs2 hh3
      skip
      cases hc3 : labS T n "black" u2.2 with
      | inl e =>
        rw [hc3] at m3
        refine exA2 (XL_l m3) ?_
        intro x1 x2 x3
        first | replace h := pf1 h x1 | replace h := pf2 h x1
        have l1 := h.1
        have l2 := h.2.1
        have l37 := h.2.2.2.2.2.2.2.2.2.2.2.2.2.2.2.2.2.2.2.2.2.2.2.2.2.2.2.2.2.2.2.2.2.2.2.2
        simp only [aft_def, hc1, hc2, hc3, bnd]
        exact ⟨(by first | exact l37 | rw [l37, x1]), by rw [l1, x2], by rw [l2, x3]⟩
      | inr u3 =>
        rw [hc3] at m3
        refine exA3 (XL_r m3) ?_
        intro x1 yf3 yg3 xs3
        first | replace h := pk1 h x1 | replace h := pk2 h x1
        refine exE10 h ?_
        clear h
        intro f4 g4 k4 s4 p4 v4 l4' tk4 ta4 r4 hh4 h
        have m4 := qx_whole hn ht xs3 hh4
        skip
        cases hc4 : numS T n 0 9999 u3 with
        | inl e =>
          rw [hc4] at m4
          refine exA2 (XV_l m4) ?_
          intro x1 x2 x3
          first | replace h := pf1 h x1 | replace h := pf2 h x1
          have l1 := h.1
          have l2 := h.2.1
          have l37 := h.2.2.2.2.2.2.2.2.2.2.2.2.2.2.2.2.2.2.2.2.2.2.2.2.2.2.2.2.2.2.2.2.2.2.2.2
          simp only [aft_def, hc1, hc2, hc3, hc4, bnd]
          exact ⟨(by first | exact l37 | rw [l37, x1]), by rw [l1, x2], by rw [l2, x3]⟩
        | inr u4 =>
          rw [hc4] at m4
          refine exA5 (XV_r m4) ?_
          intro x1 yf4 yg4 yt4 ya4 xs4
          first | replace h := pk1 h x1 | replace h := pk2 h x1
          refine exE8 h ?_
          clear h
          intro f5 g5 k5 s5 p5 v5 l5' r5 hh5 h
          have m5 := qx_label hn ht wok_lost xs4 hh5
          skip
          cases hc5 : labS T n "lost" u4.2 with
          | inl e =>
            rw [hc5] at m5
            refine exA2 (XL_l m5) ?_
            intro x1 x2 x3
            first | replace h := pf1 h x1 | replace h := pf2 h x1
            have l1 := h.1
            have l2 := h.2.1
            have l37 := h.2.2.2.2.2.2.2.2.2.2.2.2.2.2.2.2.2.2.2.2.2.2.2.2.2.2.2.2.2.2.2.2.2.2.2.2
            simp only [aft_def, hc1, hc2, hc3, hc4, hc5, bnd]
            exact ⟨(by first | exact l37 | rw [l37, x1]), by rw [l1, x2], by rw [l2, x3]⟩
          | inr u5 =>
            rw [hc5] at m5
            refine exA3 (XL_r m5) ?_
            intro x1 yf5 yg5 xs5
            first | replace h := pk1 h x1 | replace h := pk2 h x1
            refine exE10 h ?_
            clear h
            intro f6 g6 k6 s6 p6 v6 l6' tk6 ta6 r6 hh6 h
            have m6 := qx_whole hn ht xs5 hh6
            skip
            cases hc6 : numS T n 0 9999 u5 with
            | inl e =>
              rw [hc6] at m6
              refine exA2 (XV_l m6) ?_
              intro x1 x2 x3
              first | replace h := pf1 h x1 | replace h := pf2 h x1
              have l1 := h.1
              have l2 := h.2.1
              have l37 := h.2.2.2.2.2.2.2.2.2.2.2.2.2.2.2.2.2.2.2.2.2.2.2.2.2.2.2.2.2.2.2.2.2.2.2.2
              simp only [aft_def, hc1, hc2, hc3, hc4, hc5, hc6, bnd]
              exact ⟨(by first | exact l37 | rw [l37, x1]), by rw [l1, x2], by rw [l2, x3]⟩
            | inr u6 =>
              rw [hc6] at m6
              refine exA5 (XV_r m6) ?_
              intro x1 yf6 yg6 yt6 ya6 xs6
              first | replace h := pk1 h x1 | replace h := pk2 h x1
              refine exE2 h ?_
              clear h
              intro gg kk hadd h
              refine exA36 h ?_
              intro l1 l2 l3 l4 l5 l6 l7 l8 l9 l10 l11 l12 l13 l14 l15 l16 l17 l18 l19 l20 l21 l22 l23 l24 l25 l26 l27 l28 l29 l30 l31 l32 l33 l34 l35 l36 l37
              obtain ⟨o1, o2⟩ := qt_add6_3 (by rw [b8]; exact ⟨by omega, by have := (rm_inr hc1).1; omega⟩) hadd
              simp only [aft_def, hc1, hc2, hc3, hc4, hc5, hc6, bnd]
              subst l3 l4 l5 l6 l7
              refine ⟨l37, by rw [l1, yf6, yf5, yf4, yf3, yf2, yf1], by rw [l2, yg6, yg5, yg4, yg3, yg2, yg1], xs6, ?_⟩
              skip
              have lt := (rm_inr hc1).1
              have en := inc1 (u := F 13) (z := F 13 + 1) (a := 0) (b := 900) ⟨by omega, by omega⟩ (by omega) (by omega) rfl
              have K : ∀ i : Nat, (i ≠ 13 ∧ (i < 137 ∨ 154 < i)) → (upd (upd (upd (upd F (137 + 3 * (F 13).toInt.toNat) u2.1) (137 + 3 * (F 13).toInt.toNat + 1) u4.1) (137 + 3 * (F 13).toInt.toNat + 2) u6.1) 13 (F 13 + 1)) i = F i := by
                intro i q
                rw [upd_ne q.1, upd_ne (by omega), upd_ne (by omega), upd_ne (by omega)]
              have KX : (upd (upd (upd (upd F (137 + 3 * (F 13).toInt.toNat) u2.1) (137 + 3 * (F 13).toInt.toNat + 1) u4.1) (137 + 3 * (F 13).toInt.toNat + 2) u6.1) 13 (F 13 + 1)) 13 = F 13 + 1 := upd_at
              have hW := HV_seen (g := gg) (G := (upd (upd (upd (upd F (137 + 3 * (F 13).toInt.toNat) u2.1) (137 + 3 * (F 13).toInt.toNat + 1) u4.1) (137 + 3 * (F 13).toInt.toNat + 2) u6.1) 13 (F 13 + 1))) (m := (F 13).toInt.toNat) hV ⟨i6, i7, i8, i9, i10, i11, i13, i14⟩ c12 (by omega) (by have := (rm_inr hc1).1; omega) (by rw [upd_at, inc1 (u := F 13) (z := F 13 + 1) (a := 0) (b := 900) ⟨by omega, by omega⟩ (by omega) (by omega) rfl]; omega) (fun i q1 q2 q3 => by rw [upd_ne q2, upd_ne (by omega), upd_ne (by omega), upd_ne (by omega)]) (by rw [upd_ne (by omega), upd_ne (by omega), upd_ne (by omega), upd_at]) (by rw [upd_ne (by omega), upd_ne (by omega), upd_at]) (by rw [upd_ne (by omega), upd_at]) (by rw [o1, b8, yt2, yt4, yt6])
              rw [l10, l11, l12, l13, l14, l15, l16, l17, l18, l19, l20, l23, l24, l25, l26, l27, l28, l29, l30, l31, l32, l33, l34, l35, l36]
              generalize (upd (upd (upd (upd F (137 + 3 * (F 13).toInt.toNat) u2.1) (137 + 3 * (F 13).toInt.toNat + 1) u4.1) (137 + 3 * (F 13).toInt.toNat + 2) u6.1) 13 (F 13 + 1)) = G at *
              dsimp only
              have p12 : 0 < (F 12).toInt := by have : (F 12).toInt ≠ 0 := fun w => q12 (Int32.toInt_inj.mp (w.trans zI.symm)); omega
              exact ⟨HG hH0 h15 (K 15 (by first | decide | omega)) (K 6 (by first | decide | omega)) (K 7 (by first | decide | omega)) (K 11 (by first | decide | omega)) (fun i q => K i (by omega)) (fun j q => K _ (by omega)) (by rw [K 8 (by first | decide | omega)]; exact i8) (by rw [K 9 (by first | decide | omega)]; exact i9) (by rw [K 10 (by first | decide | omega)]; exact i10) (by rw [K 12 (by first | decide | omega)]; exact c12) (by rw [KX]; exact ⟨by omega, by omega⟩) (by rw [K 14 (by first | decide | omega)]; exact i14) (by rw [K 8 (by first | decide | omega)]; exact b3) (by rw [K 9 (by first | decide | omega)]; exact b4) (by rw [K 10 (by first | decide | omega)]; exact b5) (by rw [K 12 (by first | decide | omega)]; exact b7) (by rw [KX, o2, b8]) (by rw [K 14 (by first | decide | omega)]; exact b9) (by rw [K 134 (by first | decide | omega)]; exact cb) (fun j q => by rw [K 8 (by first | decide | omega)] at q; rw [K _ (by omega), K _ (by omega)]; exact cm j q) (fun j q => by rw [K 10 (by first | decide | omega)] at q; rw [K _ (by omega), K _ (by omega)]; exact cw j q) (fun _ => by rw [K 12 (by first | decide | omega)]; exact p12), hW⟩

