set_option maxRecDepth 100000
set_option maxHeartbeats 4000000
theorem qx_kind {T tp : Nat → Int32} {n a kd po va r : Int32} {le : Int64} (hn : IV n 0 900) (ht : TpR tp T) (ha : IV a 0 900) (hk : TokX T n a kd po va le) (h : R_x_kindOfManX kd a po tp r) : (IsW T n a "clean" ∧ r = 0) ∨ (¬ IsW T n a "clean" ∧ IsW T n a "early" ∧ r = 1) ∨ (¬ IsW T n a "clean" ∧ ¬ IsW T n a "early" ∧ IsW T n a "late" ∧ r = 2) ∨ (¬ IsW T n a "clean" ∧ ¬ IsW T n a "early" ∧ ¬ IsW T n a "late" ∧ IsW T n a "misled" ∧ r = 3) ∨ (¬ IsW T n a "clean" ∧ ¬ IsW T n a "early" ∧ ¬ IsW T n a "late" ∧ ¬ IsW T n a "misled" ∧ r = -1) := by
  simp only [R_x_kindOfManX] at h
  obtain ⟨r1, hr1, h⟩ := h
  rcases x_is_spec hn ha ht wok_clean hk hr1 with ⟨q1, c1⟩ | ⟨q1, c1⟩
  · have h := pk1 h q1; exact Or.inl ⟨c1, h⟩
  · have h := pf1 h q1
    obtain ⟨r2, hr2, h⟩ := h
    rcases x_is_spec hn ha ht wok_early hk hr2 with ⟨q2, c2⟩ | ⟨q2, c2⟩
    · have h := pk1 h q2; exact Or.inr (Or.inl ⟨c1, c2, h⟩)
    · have h := pf1 h q2
      obtain ⟨r3, hr3, h⟩ := h
      rcases x_is_spec hn ha ht wok_late hk hr3 with ⟨q3, c3⟩ | ⟨q3, c3⟩
      · have h := pk1 h q3; exact Or.inr (Or.inr (Or.inl ⟨c1, c2, c3, h⟩))
      · have h := pf1 h q3
        obtain ⟨r4, hr4, h⟩ := h
        rcases x_is_spec hn ha ht wok_misled hk hr4 with ⟨q4, c4⟩ | ⟨q4, c4⟩
        · have h := pk1 h q4; exact Or.inr (Or.inr (Or.inr (Or.inl ⟨c1, c2, c3, c4, h⟩)))
        · have h := pf1 h q4; exact Or.inr (Or.inr (Or.inr (Or.inr ⟨c1, c2, c3, c4, h⟩)))
theorem qx_isManLine {tp ndf qrf qmf qwf qpf qhnf qhtf qhjf qhmf qhbf qhsf qhcf ndg qrg qmg qwg qpg qhng qhtg qhjg qhmg qhbg qhsg qhcg F T : Nat → Int32} {nmf nmg : Nat → Int64} {le le2 : Int64} {fn fp n kd sta po va tk ta ndn qmd qtr qrn qmn qwn qpn qhnn qhtn qhjn qhmn qhbn qhsn qhcn fn2 fp2 kd2 sta2 po2 va2 tk2 ta2 ndk qrk qmk qwk qpk qmd2 qtr2 qhnk qhtk qhjk qhmk qhbk qhsk qhck r a : Int32} (hn : IV n 0 900) (ht : TpR tp T) (hH : HRel F ndn nmf ndf qrn qrf qmn qmf qwn qwf qpn qhnn qhtn qhjn qhmn qhbn qhsn qhcn) (hV : HV F qrf qmf qwf qpf qhnf qhtf qhjf qhmf qhbf qhsf qhcf) (h15 : F 15 ≠ 0) (hs : XS T n a kd sta po va le) (h : R_x_isManLineX fn fp n kd sta po va le tk ta tp nmf ndn ndf qmd qtr qrn qrf qmn qmf qwn qwf qpn qpf qhnn qhnf qhtn qhtf qhjn qhjf qhmn qhmf qhbn qhbf qhsn qhsf qhcn qhcf fn2 fp2 kd2 sta2 po2 va2 le2 tk2 ta2 nmg ndg ndk qrg qmg qwg qpg qrk qmk qwk qpk qmd2 qtr2 qhng qhtg qhjg qhmg qhbg qhsg qhcg qhnk qhtk qhjk qhmk qhbk qhsk qhck r) : XF T n (bnd (opnS F T n (bcap 4 (F 11)) a) (manS F T n)) fn fp r fn2 fp2 kd2 sta2 po2 va2 le2 (fun G => HRel G ndk nmg ndg qrk qrg qmk qmg qwk qwg qpk qhnk qhtk qhjk qhmk qhbk qhsk qhck ∧ HV G qrg qmg qwg qpg qhng qhtg qhjg qhmg qhbg qhsg qhcg) := by
  have hH0 := hH
  refine exA14 hH ?_
  clear hH
  intro zc1 zc2 zc3 c12 cb cr cm cw cN cd f1' f2' f3' g1' g2'
  refine exA1 zc1 ?_
  clear zc1
  intro a1 a2
  refine exA8 zc2 ?_
  clear zc2
  intro b1 b2 b3 b4 b5 b6 b7 b8 b9
  refine exA7 zc3 ?_
  clear zc3
  intro i6 i7 i8 i9 i10 i11 i13 i14
  have e8 : (8 : Int32).toInt = 8 := by decide
  have e6 : (6 : Int32).toInt = 6 := by decide
  have e4 : (4 : Int32).toInt = 4 := by decide
  rw [room_opn h15]
  unfold R_x_isManLineX at h
  refine exE8 h ?_
  clear h
  intro f1 g1 k1 s1 p1 v1 l1' r1 hh1 h
  rw [b6] at hh1
  have m1 := qx_room5 hn ht hs hh1
  skip
  cases hc1 : roomS T n 4 (F 11) a with
  | inl e =>
    rw [hc1] at m1
    refine exA2 (XL_l m1) ?_
    intro x1 x2 x3
    first | replace h := pf1 h x1 | replace h := pf2 h x1
    have l1 := h.1
    have l2 := h.2.1
    have l37 := h.2.2.2.2.2.2.2.2.2.2.2.2.2.2.2.2.2.2.2.2.2.2.2.2.2.2.2.2.2.2.2.2.2.2.2.2
    simp only [manS, hc1, bnd]
    exact ⟨(by first | exact l37 | rw [l37, x1]), by rw [l1, x2], by rw [l2, x3]⟩
  | inr u1 =>
    rw [hc1] at m1
    refine exA3 (XL_r m1) ?_
    intro x1 yf1 yg1 xs1
    first | replace h := pk1 h x1 | replace h := pk2 h x1
    refine exE11 h ?_
    clear h
    intro f2 g2 k2 s2 p2 v2 l2' nm2 nd2 nk2 r2 hh2 h
    rw [b6] at hh2
    have m2 := qx_new hn ht cN (by have := (rm_inr hc1).1; omega) (Or.inr (Or.inr ⟨rfl, ⟨by omega, by have := (rm_inr hc1).1; omega⟩⟩)) (by rw [slot2, show 167 + (12 + (F 11).toInt.toNat) = 179 + (F 11).toInt.toNat by omega]; exact f3' _ (by have := (rm_inr hc1).1; omega) (by omega)) xs1 hh2
    rw [slot2] at m2
    cases hc2 : newS F T n (12 + (F 11).toInt.toNat) u1 with
    | inl e =>
      rw [hc2] at m2
      refine exA2 (XN_l m2) ?_
      intro x1 x2 x3
      first | replace h := pf1 h x1 | replace h := pf2 h x1
      have l1 := h.1
      have l2 := h.2.1
      have l37 := h.2.2.2.2.2.2.2.2.2.2.2.2.2.2.2.2.2.2.2.2.2.2.2.2.2.2.2.2.2.2.2.2.2.2.2.2
      simp only [manS, hc1, hc2, bnd]
      exact ⟨(by first | exact l37 | rw [l37, x1]), by rw [l1, x2], by rw [l2, x3]⟩
    | inr u2 =>
      rw [hc2] at m2
      refine exA5 (XN_r m2) ?_
      intro x1 yf2 yg2 yN2 yk2 xs2
      first | replace h := pk1 h x1 | replace h := pk2 h x1
      obtain ⟨w1, w2⟩ := new_inr hc2
      have yN2w := yN2
      rw [w1] at yN2w
      have lt := (rm_inr hc1).1
      obtain ⟨rk, hrk, h⟩ := h
      obtain ⟨t1, t2, t3⟩ := xs2
      subst t1
      have xs2 : XS T n u2.2 k2 u2.2 p2 v2 l2' := ⟨rfl, t2, t3⟩
      rcases qx_kind hn ht t2 t3 hrk with hkd | hkd | hkd | hkd | hkd
      · have c0 : rk = 0 := hkd.2
        have c1 := hkd.1
        rcases h with ⟨-, h⟩ | ⟨q, -⟩
        case inr => rw [c0] at q; exact absurd (by decide) q
        refine exE5 h ?_
        clear h
        intro kx sx_ px vx_ lx hx h
        have xs3 := x_next_at hn ht xs2 hx
        rcases h with ⟨-, h⟩ | ⟨q, -⟩
        case inr => rw [c0] at q; exact absurd q (by decide)
        refine exE8 h ?_
        clear h
        intro f4 g4 k4 s4 p4 v4 l4' r4 hh4 h
        have m4 := qx_label hn ht wok_slip xs3 hh4
        skip
        cases hc4 : labS T n "slip" (nx T n u2.2) with
        | inl e =>
          rw [hc4] at m4
          refine exA2 (XL_l m4) ?_
          intro x1 x2 x3
          first | replace h := pf1 h x1 | replace h := pf2 h x1
          have l1 := h.1
          have l2 := h.2.1
          have l37 := h.2.2.2.2.2.2.2.2.2.2.2.2.2.2.2.2.2.2.2.2.2.2.2.2.2.2.2.2.2.2.2.2.2.2.2.2
          simp only [manS, manE, aft_def, hc1, hc2, if_pos c1, hc4, bnd]
          exact ⟨(by first | exact l37 | rw [l37, x1]), by rw [l1, x2], by rw [l2, x3]⟩
        | inr u4 =>
          rw [hc4] at m4
          refine exA3 (XL_r m4) ?_
          intro x1 yf4 yg4 xs4
          first | replace h := pk1 h x1 | replace h := pk2 h x1
          refine exE10 h ?_
          clear h
          intro f5 g5 k5 s5 p5 v5 l5' tk5 ta5 r5 hh5 h
          have m5 := qx_whole hn ht xs4 hh5
          skip
          cases hc5 : numS T n 0 40 u4 with
          | inl e =>
            rw [hc5] at m5
            refine exA2 (XV_l m5) ?_
            intro x1 x2 x3
            first | replace h := pf1 h x1 | replace h := pf2 h x1
            have l1 := h.1
            have l2 := h.2.1
            have l37 := h.2.2.2.2.2.2.2.2.2.2.2.2.2.2.2.2.2.2.2.2.2.2.2.2.2.2.2.2.2.2.2.2.2.2.2.2
            simp only [manS, manE, aft_def, hc1, hc2, if_pos c1, hc4, hc5, bnd]
            exact ⟨(by first | exact l37 | rw [l37, x1]), by rw [l1, x2], by rw [l2, x3]⟩
          | inr u5 =>
            rw [hc5] at m5
            refine exA5 (XV_r m5) ?_
            intro x1 yf5 yg5 yt5 ya5 xs5
            first | replace h := pk1 h x1 | replace h := pk2 h x1
            refine exE2 h ?_
            clear h
            intro gg kk hadd h
            refine exA36 h ?_
            intro l1 l2 l3 l4 l5 l6 l7 l8 l9 l10 l11 l12 l13 l14 l15 l16 l17 l18 l19 l20 l21 l22 l23 l24 l25 l26 l27 l28 l29 l30 l31 l32 l33 l34 l35 l36 l37
            obtain ⟨o1, o2⟩ := qt_add4_3 (by rw [b6]; exact ⟨by omega, by omega⟩) hadd
            simp only [manS, manE, aft_def, hc1, hc2, if_pos c1, hc4, hc5, bnd]
            subst l3 l4 l5 l6 l7
            refine ⟨l37, by rw [l1, yf5, yf4, yf2, yf1], by rw [l2, yg5, yg4, yg2, yg1], xs5, ?_⟩
            rw [w1]
            have K : ∀ i : Nat, i < 167 → i ≠ 11 → (i < 114 ∨ 125 < i) → (upd (upd (upd (upd (wrN F T n u1 (12 + (F 11).toInt.toNat)) (114 + 3 * (F 11).toInt.toNat) 0) (114 + 3 * (F 11).toInt.toNat + 1) 0) (114 + 3 * (F 11).toInt.toNat + 2) u5.1) 11 (F 11 + 1)) i = F i := by
              intro i q1 q2 q3
              rw [upd_ne q2, upd_ne (by omega), upd_ne (by omega), upd_ne (by omega), wrN_lt q1]
            have KX : (upd (upd (upd (upd (wrN F T n u1 (12 + (F 11).toInt.toNat)) (114 + 3 * (F 11).toInt.toNat) 0) (114 + 3 * (F 11).toInt.toNat + 1) 0) (114 + 3 * (F 11).toInt.toNat + 2) u5.1) 11 (F 11 + 1)) 11 = F 11 + 1 := upd_at
            have KH : ∀ i : Nat, 167 ≤ i → (upd (upd (upd (upd (wrN F T n u1 (12 + (F 11).toInt.toNat)) (114 + 3 * (F 11).toInt.toNat) 0) (114 + 3 * (F 11).toInt.toNat + 1) 0) (114 + 3 * (F 11).toInt.toNat + 2) u5.1) 11 (F 11 + 1)) i = wrN F T n u1 (12 + (F 11).toInt.toNat) i := by
              intro i q1
              rw [upd_ne (by omega), upd_ne (by omega), upd_ne (by omega), upd_ne (by omega)]
            have hW := HV_man (g := gg) (G := (upd (upd (upd (upd (wrN F T n u1 (12 + (F 11).toInt.toNat)) (114 + 3 * (F 11).toInt.toNat) 0) (114 + 3 * (F 11).toInt.toNat + 1) 0) (114 + 3 * (F 11).toInt.toNat + 2) u5.1) 11 (F 11 + 1))) (m := (F 11).toInt.toNat) hV ⟨i6, i7, i8, i9, i10, i11, i13, i14⟩ c12 (by omega) (by have := (rm_inr hc1).1; omega) (by rw [upd_at, inc1 (u := F 11) (z := F 11 + 1) (a := 0) (b := 900) ⟨by omega, by omega⟩ (by omega) (by omega) rfl]; omega) (fun i q1 q2 q3 => by rw [upd_ne q2, upd_ne (by omega), upd_ne (by omega), upd_ne (by omega), wrN_lt q1]) (by rw [upd_ne (by omega), upd_ne (by omega), upd_ne (by omega), upd_at]) (by rw [upd_ne (by omega), upd_ne (by omega), upd_at]) (by rw [upd_ne (by omega), upd_at]) (fun z => absurd z (by decide)) (by rw [o1, b6, yt5, c0])
            rw [l10, l11, l12, l13, l14, l15, l16, l17, l18, l19, l20, l23, l24, l25, l26, l27, l28, l29, l30, l31, l32, l33, l34, l35, l36]
            generalize (upd (upd (upd (upd (wrN F T n u1 (12 + (F 11).toInt.toNat)) (114 + 3 * (F 11).toInt.toNat) 0) (114 + 3 * (F 11).toInt.toNat + 1) 0) (114 + 3 * (F 11).toInt.toNat + 2) u5.1) 11 (F 11 + 1)) = G at *
            dsimp only
            exact ⟨HRel_man hH0 h15 (by omega) yN2w yk2 o2 K KX KH, hW⟩
      · have c0 : rk = 1 := hkd.2.2
        have c1 := hkd.1
        have c2 := hkd.2.1
        rcases h with ⟨-, h⟩ | ⟨q, -⟩
        case inr => rw [c0] at q; exact absurd (by decide) q
        refine exE5 h ?_
        clear h
        intro kx sx_ px vx_ lx hx h
        have xs3 := x_next_at hn ht xs2 hx
        rcases h with ⟨-, h⟩ | ⟨q, -⟩
        case inr => rw [c0] at q; exact absurd q (by decide)
        refine exE8 h ?_
        clear h
        intro f4 g4 k4 s4 p4 v4 l4' r4 hh4 h
        have m4 := qx_label hn ht wok_slip xs3 hh4
        skip
        cases hc4 : labS T n "slip" (nx T n u2.2) with
        | inl e =>
          rw [hc4] at m4
          refine exA2 (XL_l m4) ?_
          intro x1 x2 x3
          first | replace h := pf1 h x1 | replace h := pf2 h x1
          have l1 := h.1
          have l2 := h.2.1
          have l37 := h.2.2.2.2.2.2.2.2.2.2.2.2.2.2.2.2.2.2.2.2.2.2.2.2.2.2.2.2.2.2.2.2.2.2.2.2
          simp only [manS, manE, aft_def, hc1, hc2, if_neg c1, if_pos c2, hc4, bnd]
          exact ⟨(by first | exact l37 | rw [l37, x1]), by rw [l1, x2], by rw [l2, x3]⟩
        | inr u4 =>
          rw [hc4] at m4
          refine exA3 (XL_r m4) ?_
          intro x1 yf4 yg4 xs4
          first | replace h := pk1 h x1 | replace h := pk2 h x1
          refine exE10 h ?_
          clear h
          intro f5 g5 k5 s5 p5 v5 l5' tk5 ta5 r5 hh5 h
          have m5 := qx_whole hn ht xs4 hh5
          skip
          cases hc5 : numS T n 0 40 u4 with
          | inl e =>
            rw [hc5] at m5
            refine exA2 (XV_l m5) ?_
            intro x1 x2 x3
            first | replace h := pf1 h x1 | replace h := pf2 h x1
            have l1 := h.1
            have l2 := h.2.1
            have l37 := h.2.2.2.2.2.2.2.2.2.2.2.2.2.2.2.2.2.2.2.2.2.2.2.2.2.2.2.2.2.2.2.2.2.2.2.2
            simp only [manS, manE, aft_def, hc1, hc2, if_neg c1, if_pos c2, hc4, hc5, bnd]
            exact ⟨(by first | exact l37 | rw [l37, x1]), by rw [l1, x2], by rw [l2, x3]⟩
          | inr u5 =>
            rw [hc5] at m5
            refine exA5 (XV_r m5) ?_
            intro x1 yf5 yg5 yt5 ya5 xs5
            first | replace h := pk1 h x1 | replace h := pk2 h x1
            refine exE2 h ?_
            clear h
            intro gg kk hadd h
            refine exA36 h ?_
            intro l1 l2 l3 l4 l5 l6 l7 l8 l9 l10 l11 l12 l13 l14 l15 l16 l17 l18 l19 l20 l21 l22 l23 l24 l25 l26 l27 l28 l29 l30 l31 l32 l33 l34 l35 l36 l37
            obtain ⟨o1, o2⟩ := qt_add4_3 (by rw [b6]; exact ⟨by omega, by omega⟩) hadd
            simp only [manS, manE, aft_def, hc1, hc2, if_neg c1, if_pos c2, hc4, hc5, bnd]
            subst l3 l4 l5 l6 l7
            refine ⟨l37, by rw [l1, yf5, yf4, yf2, yf1], by rw [l2, yg5, yg4, yg2, yg1], xs5, ?_⟩
            rw [w1]
            have K : ∀ i : Nat, i < 167 → i ≠ 11 → (i < 114 ∨ 125 < i) → (upd (upd (upd (upd (wrN F T n u1 (12 + (F 11).toInt.toNat)) (114 + 3 * (F 11).toInt.toNat) 1) (114 + 3 * (F 11).toInt.toNat + 1) 0) (114 + 3 * (F 11).toInt.toNat + 2) u5.1) 11 (F 11 + 1)) i = F i := by
              intro i q1 q2 q3
              rw [upd_ne q2, upd_ne (by omega), upd_ne (by omega), upd_ne (by omega), wrN_lt q1]
            have KX : (upd (upd (upd (upd (wrN F T n u1 (12 + (F 11).toInt.toNat)) (114 + 3 * (F 11).toInt.toNat) 1) (114 + 3 * (F 11).toInt.toNat + 1) 0) (114 + 3 * (F 11).toInt.toNat + 2) u5.1) 11 (F 11 + 1)) 11 = F 11 + 1 := upd_at
            have KH : ∀ i : Nat, 167 ≤ i → (upd (upd (upd (upd (wrN F T n u1 (12 + (F 11).toInt.toNat)) (114 + 3 * (F 11).toInt.toNat) 1) (114 + 3 * (F 11).toInt.toNat + 1) 0) (114 + 3 * (F 11).toInt.toNat + 2) u5.1) 11 (F 11 + 1)) i = wrN F T n u1 (12 + (F 11).toInt.toNat) i := by
              intro i q1
              rw [upd_ne (by omega), upd_ne (by omega), upd_ne (by omega), upd_ne (by omega)]
            have hW := HV_man (g := gg) (G := (upd (upd (upd (upd (wrN F T n u1 (12 + (F 11).toInt.toNat)) (114 + 3 * (F 11).toInt.toNat) 1) (114 + 3 * (F 11).toInt.toNat + 1) 0) (114 + 3 * (F 11).toInt.toNat + 2) u5.1) 11 (F 11 + 1))) (m := (F 11).toInt.toNat) hV ⟨i6, i7, i8, i9, i10, i11, i13, i14⟩ c12 (by omega) (by have := (rm_inr hc1).1; omega) (by rw [upd_at, inc1 (u := F 11) (z := F 11 + 1) (a := 0) (b := 900) ⟨by omega, by omega⟩ (by omega) (by omega) rfl]; omega) (fun i q1 q2 q3 => by rw [upd_ne q2, upd_ne (by omega), upd_ne (by omega), upd_ne (by omega), wrN_lt q1]) (by rw [upd_ne (by omega), upd_ne (by omega), upd_ne (by omega), upd_at]) (by rw [upd_ne (by omega), upd_ne (by omega), upd_at]) (by rw [upd_ne (by omega), upd_at]) (fun z => absurd z (by decide)) (by rw [o1, b6, yt5, c0])
            rw [l10, l11, l12, l13, l14, l15, l16, l17, l18, l19, l20, l23, l24, l25, l26, l27, l28, l29, l30, l31, l32, l33, l34, l35, l36]
            generalize (upd (upd (upd (upd (wrN F T n u1 (12 + (F 11).toInt.toNat)) (114 + 3 * (F 11).toInt.toNat) 1) (114 + 3 * (F 11).toInt.toNat + 1) 0) (114 + 3 * (F 11).toInt.toNat + 2) u5.1) 11 (F 11 + 1)) = G at *
            dsimp only
            exact ⟨HRel_man hH0 h15 (by omega) yN2w yk2 o2 K KX KH, hW⟩
      · have c0 : rk = 2 := hkd.2.2.2
        have c1 := hkd.1
        have c2 := hkd.2.1
        have c3 := hkd.2.2.1
        rcases h with ⟨-, h⟩ | ⟨q, -⟩
        case inr => rw [c0] at q; exact absurd (by decide) q
        refine exE5 h ?_
        clear h
        intro kx sx_ px vx_ lx hx h
        have xs3 := x_next_at hn ht xs2 hx
        rcases h with ⟨-, h⟩ | ⟨q, -⟩
        case inr => rw [c0] at q; exact absurd q (by decide)
        refine exE8 h ?_
        clear h
        intro f4 g4 k4 s4 p4 v4 l4' r4 hh4 h
        have m4 := qx_label hn ht wok_slip xs3 hh4
        skip
        cases hc4 : labS T n "slip" (nx T n u2.2) with
        | inl e =>
          rw [hc4] at m4
          refine exA2 (XL_l m4) ?_
          intro x1 x2 x3
          first | replace h := pf1 h x1 | replace h := pf2 h x1
          have l1 := h.1
          have l2 := h.2.1
          have l37 := h.2.2.2.2.2.2.2.2.2.2.2.2.2.2.2.2.2.2.2.2.2.2.2.2.2.2.2.2.2.2.2.2.2.2.2.2
          simp only [manS, manE, aft_def, hc1, hc2, if_neg c1, if_neg c2, if_pos c3, hc4, bnd]
          exact ⟨(by first | exact l37 | rw [l37, x1]), by rw [l1, x2], by rw [l2, x3]⟩
        | inr u4 =>
          rw [hc4] at m4
          refine exA3 (XL_r m4) ?_
          intro x1 yf4 yg4 xs4
          first | replace h := pk1 h x1 | replace h := pk2 h x1
          refine exE10 h ?_
          clear h
          intro f5 g5 k5 s5 p5 v5 l5' tk5 ta5 r5 hh5 h
          have m5 := qx_whole hn ht xs4 hh5
          skip
          cases hc5 : numS T n 0 40 u4 with
          | inl e =>
            rw [hc5] at m5
            refine exA2 (XV_l m5) ?_
            intro x1 x2 x3
            first | replace h := pf1 h x1 | replace h := pf2 h x1
            have l1 := h.1
            have l2 := h.2.1
            have l37 := h.2.2.2.2.2.2.2.2.2.2.2.2.2.2.2.2.2.2.2.2.2.2.2.2.2.2.2.2.2.2.2.2.2.2.2.2
            simp only [manS, manE, aft_def, hc1, hc2, if_neg c1, if_neg c2, if_pos c3, hc4, hc5, bnd]
            exact ⟨(by first | exact l37 | rw [l37, x1]), by rw [l1, x2], by rw [l2, x3]⟩
          | inr u5 =>
            rw [hc5] at m5
            refine exA5 (XV_r m5) ?_
            intro x1 yf5 yg5 yt5 ya5 xs5
            first | replace h := pk1 h x1 | replace h := pk2 h x1
            refine exE2 h ?_
            clear h
            intro gg kk hadd h
            refine exA36 h ?_
            intro l1 l2 l3 l4 l5 l6 l7 l8 l9 l10 l11 l12 l13 l14 l15 l16 l17 l18 l19 l20 l21 l22 l23 l24 l25 l26 l27 l28 l29 l30 l31 l32 l33 l34 l35 l36 l37
            obtain ⟨o1, o2⟩ := qt_add4_3 (by rw [b6]; exact ⟨by omega, by omega⟩) hadd
            simp only [manS, manE, aft_def, hc1, hc2, if_neg c1, if_neg c2, if_pos c3, hc4, hc5, bnd]
            subst l3 l4 l5 l6 l7
            refine ⟨l37, by rw [l1, yf5, yf4, yf2, yf1], by rw [l2, yg5, yg4, yg2, yg1], xs5, ?_⟩
            rw [w1]
            have K : ∀ i : Nat, i < 167 → i ≠ 11 → (i < 114 ∨ 125 < i) → (upd (upd (upd (upd (wrN F T n u1 (12 + (F 11).toInt.toNat)) (114 + 3 * (F 11).toInt.toNat) 2) (114 + 3 * (F 11).toInt.toNat + 1) 0) (114 + 3 * (F 11).toInt.toNat + 2) u5.1) 11 (F 11 + 1)) i = F i := by
              intro i q1 q2 q3
              rw [upd_ne q2, upd_ne (by omega), upd_ne (by omega), upd_ne (by omega), wrN_lt q1]
            have KX : (upd (upd (upd (upd (wrN F T n u1 (12 + (F 11).toInt.toNat)) (114 + 3 * (F 11).toInt.toNat) 2) (114 + 3 * (F 11).toInt.toNat + 1) 0) (114 + 3 * (F 11).toInt.toNat + 2) u5.1) 11 (F 11 + 1)) 11 = F 11 + 1 := upd_at
            have KH : ∀ i : Nat, 167 ≤ i → (upd (upd (upd (upd (wrN F T n u1 (12 + (F 11).toInt.toNat)) (114 + 3 * (F 11).toInt.toNat) 2) (114 + 3 * (F 11).toInt.toNat + 1) 0) (114 + 3 * (F 11).toInt.toNat + 2) u5.1) 11 (F 11 + 1)) i = wrN F T n u1 (12 + (F 11).toInt.toNat) i := by
              intro i q1
              rw [upd_ne (by omega), upd_ne (by omega), upd_ne (by omega), upd_ne (by omega)]
            have hW := HV_man (g := gg) (G := (upd (upd (upd (upd (wrN F T n u1 (12 + (F 11).toInt.toNat)) (114 + 3 * (F 11).toInt.toNat) 2) (114 + 3 * (F 11).toInt.toNat + 1) 0) (114 + 3 * (F 11).toInt.toNat + 2) u5.1) 11 (F 11 + 1))) (m := (F 11).toInt.toNat) hV ⟨i6, i7, i8, i9, i10, i11, i13, i14⟩ c12 (by omega) (by have := (rm_inr hc1).1; omega) (by rw [upd_at, inc1 (u := F 11) (z := F 11 + 1) (a := 0) (b := 900) ⟨by omega, by omega⟩ (by omega) (by omega) rfl]; omega) (fun i q1 q2 q3 => by rw [upd_ne q2, upd_ne (by omega), upd_ne (by omega), upd_ne (by omega), wrN_lt q1]) (by rw [upd_ne (by omega), upd_ne (by omega), upd_ne (by omega), upd_at]) (by rw [upd_ne (by omega), upd_ne (by omega), upd_at]) (by rw [upd_ne (by omega), upd_at]) (fun z => absurd z (by decide)) (by rw [o1, b6, yt5, c0])
            rw [l10, l11, l12, l13, l14, l15, l16, l17, l18, l19, l20, l23, l24, l25, l26, l27, l28, l29, l30, l31, l32, l33, l34, l35, l36]
            generalize (upd (upd (upd (upd (wrN F T n u1 (12 + (F 11).toInt.toNat)) (114 + 3 * (F 11).toInt.toNat) 2) (114 + 3 * (F 11).toInt.toNat + 1) 0) (114 + 3 * (F 11).toInt.toNat + 2) u5.1) 11 (F 11 + 1)) = G at *
            dsimp only
            exact ⟨HRel_man hH0 h15 (by omega) yN2w yk2 o2 K KX KH, hW⟩
      · have c0 : rk = 3 := hkd.2.2.2.2
        have c1 := hkd.1
        have c2 := hkd.2.1
        have c3 := hkd.2.2.1
        have c4 := hkd.2.2.2.1
        rcases h with ⟨-, h⟩ | ⟨q, -⟩
        case inr => rw [c0] at q; exact absurd (by decide) q
        refine exE5 h ?_
        clear h
        intro kx sx_ px vx_ lx hx h
        have xs3 := x_next_at hn ht xs2 hx
        rcases h with ⟨q, -⟩ | ⟨-, h⟩
        case inl => exact absurd c0 q
        refine exE10 h ?_
        clear h
        intro f3 g3 k3 s3 p3 v3 l3' tk3 ta3 r3 hh3 h
        have m3 := qx_oldT hn ht yN2 xs3 hh3
        cases hc3 : townP u2.1 T n (nx T n u2.2) with
        | inl e =>
          rw [hc3] at m3
          refine exA2 (XV_l m3) ?_
          intro x1 x2 x3
          have hcT := townP_l hc3
          first | replace h := pf1 h x1 | replace h := pf2 h x1
          have l1 := h.1
          have l2 := h.2.1
          have l37 := h.2.2.2.2.2.2.2.2.2.2.2.2.2.2.2.2.2.2.2.2.2.2.2.2.2.2.2.2.2.2.2.2.2.2.2.2
          simp only [manS, hc1, hc2, if_neg c1, if_neg c2, if_neg c3, if_pos c4, hcT, bnd]
          exact ⟨(by first | exact l37 | rw [l37, x1]), by rw [l1, x2], by rw [l2, x3]⟩
        | inr u3 =>
          rw [hc3] at m3
          refine exA5 (XV_r m3) ?_
          intro x1 yf3 yg3 yt3 ya3 xs4
          obtain ⟨hcT, hcU⟩ := townP_r hc3
          rw [hcU] at xs4
          first | replace h := pk1 h x1 | replace h := pk2 h x1
          refine exE8 h ?_
          clear h
          intro f4 g4 k4 s4 p4 v4 l4' r4 hh4 h
          have m4 := qx_label hn ht wok_slip xs4 hh4
          skip
          cases hc4 : labS T n "slip" (nx T n (nx T n u2.2)) with
          | inl e =>
            rw [hc4] at m4
            refine exA2 (XL_l m4) ?_
            intro x1 x2 x3
            first | replace h := pf1 h x1 | replace h := pf2 h x1
            have l1 := h.1
            have l2 := h.2.1
            have l37 := h.2.2.2.2.2.2.2.2.2.2.2.2.2.2.2.2.2.2.2.2.2.2.2.2.2.2.2.2.2.2.2.2.2.2.2.2
            simp only [manS, manE, aft_def, hc1, hc2, if_neg c1, if_neg c2, if_neg c3, if_pos c4, hcT, hc4, bnd]
            exact ⟨(by first | exact l37 | rw [l37, x1]), by rw [l1, x2], by rw [l2, x3]⟩
          | inr u4 =>
            rw [hc4] at m4
            refine exA3 (XL_r m4) ?_
            intro x1 yf4 yg4 xs4
            first | replace h := pk1 h x1 | replace h := pk2 h x1
            refine exE10 h ?_
            clear h
            intro f5 g5 k5 s5 p5 v5 l5' tk5 ta5 r5 hh5 h
            have m5 := qx_whole hn ht xs4 hh5
            skip
            cases hc5 : numS T n 0 40 u4 with
            | inl e =>
              rw [hc5] at m5
              refine exA2 (XV_l m5) ?_
              intro x1 x2 x3
              first | replace h := pf1 h x1 | replace h := pf2 h x1
              have l1 := h.1
              have l2 := h.2.1
              have l37 := h.2.2.2.2.2.2.2.2.2.2.2.2.2.2.2.2.2.2.2.2.2.2.2.2.2.2.2.2.2.2.2.2.2.2.2.2
              simp only [manS, manE, aft_def, hc1, hc2, if_neg c1, if_neg c2, if_neg c3, if_pos c4, hcT, hc4, hc5, bnd]
              exact ⟨(by first | exact l37 | rw [l37, x1]), by rw [l1, x2], by rw [l2, x3]⟩
            | inr u5 =>
              rw [hc5] at m5
              refine exA5 (XV_r m5) ?_
              intro x1 yf5 yg5 yt5 ya5 xs5
              first | replace h := pk1 h x1 | replace h := pk2 h x1
              refine exE2 h ?_
              clear h
              intro gg kk hadd h
              refine exA36 h ?_
              intro l1 l2 l3 l4 l5 l6 l7 l8 l9 l10 l11 l12 l13 l14 l15 l16 l17 l18 l19 l20 l21 l22 l23 l24 l25 l26 l27 l28 l29 l30 l31 l32 l33 l34 l35 l36 l37
              obtain ⟨o1, o2⟩ := qt_add4_3 (by rw [b6]; exact ⟨by omega, by omega⟩) hadd
              simp only [manS, manE, aft_def, hc1, hc2, if_neg c1, if_neg c2, if_neg c3, if_pos c4, hcT, hc4, hc5, bnd]
              subst l3 l4 l5 l6 l7
              refine ⟨l37, by rw [l1, yf5, yf4, yf3, yf2, yf1], by rw [l2, yg5, yg4, yg3, yg2, yg1], xs5, ?_⟩
              rw [w1]
              have K : ∀ i : Nat, i < 167 → i ≠ 11 → (i < 114 ∨ 125 < i) → (upd (upd (upd (upd (wrN F T n u1 (12 + (F 11).toInt.toNat)) (114 + 3 * (F 11).toInt.toNat) 3) (114 + 3 * (F 11).toInt.toNat + 1) u3.1) (114 + 3 * (F 11).toInt.toNat + 2) u5.1) 11 (F 11 + 1)) i = F i := by
                intro i q1 q2 q3
                rw [upd_ne q2, upd_ne (by omega), upd_ne (by omega), upd_ne (by omega), wrN_lt q1]
              have KX : (upd (upd (upd (upd (wrN F T n u1 (12 + (F 11).toInt.toNat)) (114 + 3 * (F 11).toInt.toNat) 3) (114 + 3 * (F 11).toInt.toNat + 1) u3.1) (114 + 3 * (F 11).toInt.toNat + 2) u5.1) 11 (F 11 + 1)) 11 = F 11 + 1 := upd_at
              have KH : ∀ i : Nat, 167 ≤ i → (upd (upd (upd (upd (wrN F T n u1 (12 + (F 11).toInt.toNat)) (114 + 3 * (F 11).toInt.toNat) 3) (114 + 3 * (F 11).toInt.toNat + 1) u3.1) (114 + 3 * (F 11).toInt.toNat + 2) u5.1) 11 (F 11 + 1)) i = wrN F T n u1 (12 + (F 11).toInt.toNat) i := by
                intro i q1
                rw [upd_ne (by omega), upd_ne (by omega), upd_ne (by omega), upd_ne (by omega)]
              have hW := HV_man (g := gg) (G := (upd (upd (upd (upd (wrN F T n u1 (12 + (F 11).toInt.toNat)) (114 + 3 * (F 11).toInt.toNat) 3) (114 + 3 * (F 11).toInt.toNat + 1) u3.1) (114 + 3 * (F 11).toInt.toNat + 2) u5.1) 11 (F 11 + 1))) (m := (F 11).toInt.toNat) hV ⟨i6, i7, i8, i9, i10, i11, i13, i14⟩ c12 (by omega) (by have := (rm_inr hc1).1; omega) (by rw [upd_at, inc1 (u := F 11) (z := F 11 + 1) (a := 0) (b := 900) ⟨by omega, by omega⟩ (by omega) (by omega) rfl]; omega) (fun i q1 q2 q3 => by rw [upd_ne q2, upd_ne (by omega), upd_ne (by omega), upd_ne (by omega), wrN_lt q1]) (by rw [upd_ne (by omega), upd_ne (by omega), upd_ne (by omega), upd_at]) (by rw [upd_ne (by omega), upd_ne (by omega), upd_at]) (by rw [upd_ne (by omega), upd_at]) (fun _ => rfl) (by rw [o1, b6, yt5, yt3, c0])
              rw [l10, l11, l12, l13, l14, l15, l16, l17, l18, l19, l20, l23, l24, l25, l26, l27, l28, l29, l30, l31, l32, l33, l34, l35, l36]
              generalize (upd (upd (upd (upd (wrN F T n u1 (12 + (F 11).toInt.toNat)) (114 + 3 * (F 11).toInt.toNat) 3) (114 + 3 * (F 11).toInt.toNat + 1) u3.1) (114 + 3 * (F 11).toInt.toNat + 2) u5.1) 11 (F 11 + 1)) = G at *
              dsimp only
              exact ⟨HRel_man hH0 h15 (by omega) yN2w yk2 o2 K KX KH, hW⟩
      · have c0 : rk = -1 := hkd.2.2.2.2
        have c1 := hkd.1
        have c2 := hkd.2.1
        have c3 := hkd.2.2.1
        have c4 := hkd.2.2.2.1
        rcases h with ⟨q, -⟩ | ⟨-, h⟩
        case inl => rw [c0] at q; exact absurd q (by decide)
        obtain ⟨f, p, r2', ⟨b1', b2', b3'⟩, h⟩ := h
        have l1 := h.1
        have l2 := h.2.1
        have l37 := h.2.2.2.2.2.2.2.2.2.2.2.2.2.2.2.2.2.2.2.2.2.2.2.2.2.2.2.2.2.2.2.2.2.2.2.2
        simp only [manS, hc1, hc2, if_neg c1, if_neg c2, if_neg c3, if_neg c4, bnd]
        exact ⟨by rw [l37, b3'], by rw [l1, b1'], by rw [l2, b2']⟩

theorem qx_number {p0 : Int32} {p1 : Int32} {p2 : Int32} {fn : Int32} {fp : Int32} {kd : Int32} {sta : Int32} {po : Int32} {va : Int32} {le : Int64} {tk : Int32} {ta : Int32} {tp : Nat → Int32} {qmd : Int32} {qtr : Int32} {qrn : Int32} {qrf : Nat → Int32} {qmn : Int32} {qmf : Nat → Int32} {qwn : Int32} {qwf : Nat → Int32} {qpn : Int32} {qpf : Nat → Int32} {qhnn : Int32} {qhnf : Nat → Int32} {qhtn : Int32} {qhtf : Nat → Int32} {qhjn : Int32} {qhjf : Nat → Int32} {qhmn : Int32} {qhmf : Nat → Int32} {qhbn : Int32} {qhbf : Nat → Int32} {qhsn : Int32} {qhsf : Nat → Int32} {qhcn : Int32} {qhcf : Nat → Int32} {tx_sa : String} {fn2 : Int32} {fp2 : Int32} {kd2 : Int32} {sta2 : Int32} {po2 : Int32} {va2 : Int32} {le2 : Int64} {tk2 : Int32} {ta2 : Int32} {qrg : Nat → Int32} {qmg : Nat → Int32} {qwg : Nat → Int32} {qpg : Nat → Int32} {qrk : Int32} {qmk : Int32} {qwk : Int32} {qpk : Int32} {qmd2 : Int32} {qtr2 : Int32} {qhng : Nat → Int32} {qhtg : Nat → Int32} {qhjg : Nat → Int32} {qhmg : Nat → Int32} {qhbg : Nat → Int32} {qhsg : Nat → Int32} {qhcg : Nat → Int32} {qhnk : Int32} {qhtk : Int32} {qhjk : Int32} {qhmk : Int32} {qhbk : Int32} {qhsk : Int32} {qhck : Int32} {r : Int32} {n a : Int32} {T : Nat → Int32} (hn : IV n 0 900) (ht : TpR tp T) (hw : WOk tx_sa) (hs : XS T n a kd sta po va le) (h : R_x_isNumberX p0 p1 p2 fn fp n kd sta po va le tk ta tp qmd qtr qrn qrf qmn qmf qwn qwf qpn qpf qhnn qhnf qhtn qhtf qhjn qhjf qhmn qhmf qhbn qhbf qhsn qhsf qhcn qhcf tx_sa fn2 fp2 kd2 sta2 po2 va2 le2 tk2 ta2 qrg qmg qwg qpg qrk qmk qwk qpk qmd2 qtr2 qhng qhtg qhjg qhmg qhbg qhsg qhcg qhnk qhtk qhjk qhmk qhbk qhsk qhck r) : XF T n (bnd (aftS T n tx_sa p1 p2 a) (fun v => .inr ((fun _ => v.1), v.2))) fn fp r fn2 fp2 kd2 sta2 po2 va2 le2 (fun g_ => qrg = qrf ∧ qmg = qmf ∧ qwg = qwf ∧ qrk = qrn ∧ qmk = qmn ∧ qwk = qwn ∧ qpk = qpn ∧ qhnk = qhnn ∧ qhtk = qhtn ∧ qhjk = qhjn ∧ qhmk = qhmn ∧ qhbk = qhbn ∧ qhsk = qhsn ∧ qhck = qhcn ∧ qpg = qpf ∧ qhtg = qhtf ∧ qhjg = qhjf ∧ qhmg = qhmf ∧ qhbg = qhbf ∧ qhsg = qhsf ∧ qhcg = qhcf ∧ qhng = tbPut 1 6 qhnf 0 p0 (g_ 0)) := by
  unfold R_x_isNumberX at h
  refine exE8 h ?_
  clear h
  intro f1 g1 k1 s1 p1' v1 l1' r1 hh1 h
  have m1 := qx_label hn ht hw hs hh1
  rw [aft_def]
  cases hc1 : labS T n tx_sa a with
  | inl e =>
    rw [hc1] at m1
    refine exA2 (XL_l m1) ?_
    intro x1 x2 x3
    replace h := pf1 h x1
    exact ⟨h.2.2.2.2.2.2.2.2.2.2.2.2.2.2.2.2.2.2.2.2.2.2.2.2.2.2.2.2.2.2.2.2.2, by rw [h.1, x2], by rw [h.2.1, x3]⟩
  | inr u1 =>
    rw [hc1] at m1
    refine exA3 (XL_r m1) ?_
    intro x1 yf1 yg1 xs1
    replace h := pk1 h x1
    refine exE10 h ?_
    clear h
    intro f2 g2 k2 s2 p2' v2 l2' tk2' ta2' r2 hh2 h
    have m2 := qx_whole hn ht xs1 hh2
    rw [bnd_r]
    cases hc2 : numS T n p1 p2 u1 with
    | inl e =>
      rw [hc2] at m2
      refine exA2 (XV_l m2) ?_
      intro x1 x2 x3
      replace h := pf2 h x1
      exact ⟨h.2.2.2.2.2.2.2.2.2.2.2.2.2.2.2.2.2.2.2.2.2.2.2.2.2.2.2.2.2.2.2.2.2, by rw [h.1, x2], by rw [h.2.1, x3]⟩
    | inr u2 =>
      rw [hc2] at m2
      refine exA5 (XV_r m2) ?_
      intro x1 yf2 yg2 yt2 ya2 xs2
      replace h := pk2 h x1
      obtain ⟨fa, hfa, h⟩ := h
      rw [bnd_r]
      have e1 := h.2.2.1
      have e2 := h.2.2.2.1
      have e3 := h.2.2.2.2.1
      have e4 := h.2.2.2.2.2.1
      have e5 := h.2.2.2.2.2.2.1
      refine ⟨h.2.2.2.2.2.2.2.2.2.2.2.2.2.2.2.2.2.2.2.2.2.2.2.2.2.2.2.2.2.2.2.2.2, by rw [h.1, yf2, yf1], by rw [h.2.1, yg2, yg1], by rw [e1, e2, e3, e4, e5]; exact xs2, h.2.2.2.2.2.2.2.2.2.1, h.2.2.2.2.2.2.2.2.2.2.1, h.2.2.2.2.2.2.2.2.2.2.2.1, h.2.2.2.2.2.2.2.2.2.2.2.2.2.1, h.2.2.2.2.2.2.2.2.2.2.2.2.2.2.1, h.2.2.2.2.2.2.2.2.2.2.2.2.2.2.2.1, h.2.2.2.2.2.2.2.2.2.2.2.2.2.2.2.2.1, h.2.2.2.2.2.2.2.2.2.2.2.2.2.2.2.2.2.2.2.2.2.2.2.2.2.2.1, h.2.2.2.2.2.2.2.2.2.2.2.2.2.2.2.2.2.2.2.2.2.2.2.2.2.2.2.1, h.2.2.2.2.2.2.2.2.2.2.2.2.2.2.2.2.2.2.2.2.2.2.2.2.2.2.2.2.1, h.2.2.2.2.2.2.2.2.2.2.2.2.2.2.2.2.2.2.2.2.2.2.2.2.2.2.2.2.2.1, h.2.2.2.2.2.2.2.2.2.2.2.2.2.2.2.2.2.2.2.2.2.2.2.2.2.2.2.2.2.2.1, h.2.2.2.2.2.2.2.2.2.2.2.2.2.2.2.2.2.2.2.2.2.2.2.2.2.2.2.2.2.2.2.1, h.2.2.2.2.2.2.2.2.2.2.2.2.2.2.2.2.2.2.2.2.2.2.2.2.2.2.2.2.2.2.2.2.1, h.2.2.2.2.2.2.2.2.2.2.2.2.1, h.2.2.2.2.2.2.2.2.2.2.2.2.2.2.2.2.2.2.2.2.1, h.2.2.2.2.2.2.2.2.2.2.2.2.2.2.2.2.2.2.2.2.2.1, h.2.2.2.2.2.2.2.2.2.2.2.2.2.2.2.2.2.2.2.2.2.2.1, h.2.2.2.2.2.2.2.2.2.2.2.2.2.2.2.2.2.2.2.2.2.2.2.1, h.2.2.2.2.2.2.2.2.2.2.2.2.2.2.2.2.2.2.2.2.2.2.2.2.1, h.2.2.2.2.2.2.2.2.2.2.2.2.2.2.2.2.2.2.2.2.2.2.2.2.2.1, by rw [h.2.2.2.2.2.2.2.2.2.2.2.2.2.2.2.2.2.2.2.1, hfa, yt2]⟩
