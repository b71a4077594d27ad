set_option maxRecDepth 100000
set_option maxHeartbeats 4000000
theorem HRel_town {F G T : Nat → Int32} {n a ndn ndk qrn qmn qwn qpn qhnn qhtn qhjn qhmn qhbn qhsn qhcn qhtk : Int32} {nmf nmg : Nat → Int64} {ndf ndg qrf qmf qwf : Nat → Int32} (hH : HRel F ndn nmf ndf qrn qrf qmn qmf qwn qwf qpn qhnn qhtn qhjn qhmn qhbn qhsn qhcn) (h15 : F 15 ≠ 0) (hlt : (F 7).toInt < 4) (hN : NRel (wrN F T n a (8 + (F 7).toInt.toNat)) nmg ndg ndk) (hk : ndk = ndn + 1) (hr : qhtk = qhtn + 1) (K : ∀ i : Nat, i < 167 → i ≠ 7 → (i < 40 ∨ 43 < i) → G i = F i) (KX : G 7 = F 7 + 1) (KH : ∀ i : Nat, 167 ≤ i → G i = wrN F T n a (8 + (F 7).toInt.toNat) i) : HRel G ndk nmg ndg qrn qrf qmn qmf qwn qwf qpn qhnn qhtk qhjn qhmn qhbn qhsn qhcn := by
  refine exA14 hH ?_
  clear hH
  intro zc1 zc2 zc3 c12 cb cr cm cw cN cd f1 f2 f3 g1 g2
  refine exA1 zc1 ?_
  clear zc1
  intro a1 a2
  refine exA8 zc2 ?_
  clear zc2
  intro b1 b2 b3 b4 b5 b6 b7 b8 b9
  refine exA7 zc3 ?_
  clear zc3
  intro i6 i7 i8 i9 i10 i11 i13 i14
  have e6 := inc1 (u := F 7) (z := F 7 + 1) (a := 0) (b := 900) ⟨by omega, by omega⟩ (by omega) (by omega) rfl
  have en := inc1 (u := ndn) (z := ndn + 1) (a := 0) (b := 900) ⟨by have := cN.1; omega, by have := cN.1; omega⟩ (by omega) (by omega) rfl
  have W : ∀ j : Nat, j < 16 → j ≠ 8 + (F 7).toInt.toNat → wrN F T n a (8 + (F 7).toInt.toNat) (167 + j) = F (167 + j) := by
    intro j hj hj2
    unfold wrN
    rw [upd_ne (by omega), wrL_lt _ _ (by omega)]
  refine ⟨⟨by rw [(K 15 (by first | decide | omega) (by first | decide | omega) (by first | decide | omega))]; exact a1, by rw [(K 15 (by first | decide | omega) (by first | decide | omega) (by first | decide | omega))]; exact a2⟩, ⟨by rw [(K 6 (by first | decide | omega) (by first | decide | omega) (by first | decide | omega))]; exact b1, by rw [KX, hr, b2], by rw [(K 8 (by first | decide | omega) (by first | decide | omega) (by first | decide | omega))]; exact b3, by rw [(K 9 (by first | decide | omega) (by first | decide | omega) (by first | decide | omega))]; exact b4, by rw [(K 10 (by first | decide | omega) (by first | decide | omega) (by first | decide | omega))]; exact b5, by rw [(K 11 (by first | decide | omega) (by first | decide | omega) (by first | decide | omega))]; exact b6, by rw [(K 12 (by first | decide | omega) (by first | decide | omega) (by first | decide | omega))]; exact b7, by rw [(K 13 (by first | decide | omega) (by first | decide | omega) (by first | decide | omega))]; exact b8, by rw [(K 14 (by first | decide | omega) (by first | decide | omega) (by first | decide | omega))]; exact b9⟩, ⟨by rw [(K 6 (by first | decide | omega) (by first | decide | omega) (by first | decide | omega))]; exact i6, by rw [KX]; exact ⟨by omega, by omega⟩, by rw [(K 8 (by first | decide | omega) (by first | decide | omega) (by first | decide | omega))]; exact i8, by rw [(K 9 (by first | decide | omega) (by first | decide | omega) (by first | decide | omega))]; exact i9, by rw [(K 10 (by first | decide | omega) (by first | decide | omega) (by first | decide | omega))]; exact i10, by rw [(K 11 (by first | decide | omega) (by first | decide | omega) (by first | decide | omega))]; exact i11, by rw [(K 13 (by first | decide | omega) (by first | decide | omega) (by first | decide | omega))]; exact i13, by rw [(K 14 (by first | decide | omega) (by first | decide | omega) (by first | decide | omega))]; exact i14⟩, by rw [(K 12 (by first | decide | omega) (by first | decide | omega) (by first | decide | omega))]; exact c12, by rw [(K 134 (by first | decide | omega) (by first | decide | omega) (by first | decide | omega))]; exact cb, ?_, ?_, ?_, NRel_hi hN KH, ?_, ?_, ?_, ?_, ?_, ?_⟩
  · intro k hk2
    rw [(K 6 (by first | decide | omega) (by first | decide | omega) (by first | decide | omega))] at hk2
    rw [K _ (by omega) (by omega) (by omega)]; exact cr k hk2
  · intro k hk2
    rw [(K 8 (by first | decide | omega) (by first | decide | omega) (by first | decide | omega))] at hk2
    rw [K _ (by omega) (by omega) (by omega), K _ (by omega) (by omega) (by omega)]; exact cm k hk2
  · intro k hk2
    rw [(K 10 (by first | decide | omega) (by first | decide | omega) (by first | decide | omega))] at hk2
    rw [K _ (by omega) (by omega) (by omega), K _ (by omega) (by omega) (by omega)]; exact cw k hk2
  · rw [(K 6 (by first | decide | omega) (by first | decide | omega) (by first | decide | omega)), KX, (K 11 (by first | decide | omega) (by first | decide | omega) (by first | decide | omega)), hk]; omega
  · intro j hj hj2
    rw [(K 6 (by first | decide | omega) (by first | decide | omega) (by first | decide | omega))] at hj2
    rw [show 167 + j = 167 + (0 + j) by omega, KH _ (by omega), W (0 + j) (by omega) (by omega), show 167 + (0 + j) = 167 + j by omega]; exact f1 j hj (by omega)
  · intro j hj hj2
    rw [KX] at hj2
    rw [show 175 + j = 167 + (8 + j) by omega, KH _ (by omega), W (8 + j) (by omega) (by omega), show 167 + (8 + j) = 175 + j by omega]; exact f2 j hj (by omega)
  · intro j hj hj2
    rw [(K 11 (by first | decide | omega) (by first | decide | omega) (by first | decide | omega))] at hj2
    rw [show 179 + j = 167 + (12 + j) by omega, KH _ (by omega), W (12 + j) (by omega) (by omega), show 167 + (12 + j) = 179 + j by omega]; exact f3 j hj (by omega)
  · intro q
    rw [(K 15 (by first | decide | omega) (by first | decide | omega) (by first | decide | omega))] at q
    exact absurd q h15
  · rw [(K 13 (by first | decide | omega) (by first | decide | omega) (by first | decide | omega)), (K 12 (by first | decide | omega) (by first | decide | omega) (by first | decide | omega))]; exact g2
theorem HRel_man {F G T : Nat → Int32} {n a ndn ndk qrn qmn qwn qpn qhnn qhtn qhjn qhmn qhbn qhsn qhcn qhmk : Int32} {nmf nmg : Nat → Int64} {ndf ndg qrf qmf qwf : Nat → Int32} (hH : HRel F ndn nmf ndf qrn qrf qmn qmf qwn qwf qpn qhnn qhtn qhjn qhmn qhbn qhsn qhcn) (h15 : F 15 ≠ 0) (hlt : (F 11).toInt < 4) (hN : NRel (wrN F T n a (12 + (F 11).toInt.toNat)) nmg ndg ndk) (hk : ndk = ndn + 1) (hr : qhmk = qhmn + 1) (K : ∀ i : Nat, i < 167 → i ≠ 11 → (i < 114 ∨ 125 < i) → G i = F i) (KX : G 11 = F 11 + 1) (KH : ∀ i : Nat, 167 ≤ i → G i = wrN F T n a (12 + (F 11).toInt.toNat) i) : HRel G ndk nmg ndg qrn qrf qmn qmf qwn qwf qpn qhnn qhtn qhjn qhmk qhbn qhsn qhcn := by
  refine exA14 hH ?_
  clear hH
  intro zc4 zc5 zc6 c12 cb cr cm cw cN cd f1 f2 f3 g1 g2
  refine exA1 zc4 ?_
  clear zc4
  intro a1 a2
  refine exA8 zc5 ?_
  clear zc5
  intro b1 b2 b3 b4 b5 b6 b7 b8 b9
  refine exA7 zc6 ?_
  clear zc6
  intro i6 i7 i8 i9 i10 i11 i13 i14
  have e6 := inc1 (u := F 11) (z := F 11 + 1) (a := 0) (b := 900) ⟨by omega, by omega⟩ (by omega) (by omega) rfl
  have en := inc1 (u := ndn) (z := ndn + 1) (a := 0) (b := 900) ⟨by have := cN.1; omega, by have := cN.1; omega⟩ (by omega) (by omega) rfl
  have W : ∀ j : Nat, j < 16 → j ≠ 12 + (F 11).toInt.toNat → wrN F T n a (12 + (F 11).toInt.toNat) (167 + j) = F (167 + j) := by
    intro j hj hj2
    unfold wrN
    rw [upd_ne (by omega), wrL_lt _ _ (by omega)]
  refine ⟨⟨by rw [(K 15 (by first | decide | omega) (by first | decide | omega) (by first | decide | omega))]; exact a1, by rw [(K 15 (by first | decide | omega) (by first | decide | omega) (by first | decide | omega))]; exact a2⟩, ⟨by rw [(K 6 (by first | decide | omega) (by first | decide | omega) (by first | decide | omega))]; exact b1, by rw [(K 7 (by first | decide | omega) (by first | decide | omega) (by first | decide | omega))]; exact b2, by rw [(K 8 (by first | decide | omega) (by first | decide | omega) (by first | decide | omega))]; exact b3, by rw [(K 9 (by first | decide | omega) (by first | decide | omega) (by first | decide | omega))]; exact b4, by rw [(K 10 (by first | decide | omega) (by first | decide | omega) (by first | decide | omega))]; exact b5, by rw [KX, hr, b6], by rw [(K 12 (by first | decide | omega) (by first | decide | omega) (by first | decide | omega))]; exact b7, by rw [(K 13 (by first | decide | omega) (by first | decide | omega) (by first | decide | omega))]; exact b8, by rw [(K 14 (by first | decide | omega) (by first | decide | omega) (by first | decide | omega))]; exact b9⟩, ⟨by rw [(K 6 (by first | decide | omega) (by first | decide | omega) (by first | decide | omega))]; exact i6, by rw [(K 7 (by first | decide | omega) (by first | decide | omega) (by first | decide | omega))]; exact i7, by rw [(K 8 (by first | decide | omega) (by first | decide | omega) (by first | decide | omega))]; exact i8, by rw [(K 9 (by first | decide | omega) (by first | decide | omega) (by first | decide | omega))]; exact i9, by rw [(K 10 (by first | decide | omega) (by first | decide | omega) (by first | decide | omega))]; exact i10, by rw [KX]; exact ⟨by omega, by omega⟩, by rw [(K 13 (by first | decide | omega) (by first | decide | omega) (by first | decide | omega))]; exact i13, by rw [(K 14 (by first | decide | omega) (by first | decide | omega) (by first | decide | omega))]; exact i14⟩, by rw [(K 12 (by first | decide | omega) (by first | decide | omega) (by first | decide | omega))]; exact c12, by rw [(K 134 (by first | decide | omega) (by first | decide | omega) (by first | decide | omega))]; exact cb, ?_, ?_, ?_, NRel_hi hN KH, ?_, ?_, ?_, ?_, ?_, ?_⟩
  · intro k hk2
    rw [(K 6 (by first | decide | omega) (by first | decide | omega) (by first | decide | omega))] at hk2
    rw [K _ (by omega) (by omega) (by omega)]; exact cr k hk2
  · intro k hk2
    rw [(K 8 (by first | decide | omega) (by first | decide | omega) (by first | decide | omega))] at hk2
    rw [K _ (by omega) (by omega) (by omega), K _ (by omega) (by omega) (by omega)]; exact cm k hk2
  · intro k hk2
    rw [(K 10 (by first | decide | omega) (by first | decide | omega) (by first | decide | omega))] at hk2
    rw [K _ (by omega) (by omega) (by omega), K _ (by omega) (by omega) (by omega)]; exact cw k hk2
  · rw [(K 6 (by first | decide | omega) (by first | decide | omega) (by first | decide | omega)), (K 7 (by first | decide | omega) (by first | decide | omega) (by first | decide | omega)), KX, hk]; omega
  · intro j hj hj2
    rw [(K 6 (by first | decide | omega) (by first | decide | omega) (by first | decide | omega))] at hj2
    rw [show 167 + j = 167 + (0 + j) by omega, KH _ (by omega), W (0 + j) (by omega) (by omega), show 167 + (0 + j) = 167 + j by omega]; exact f1 j hj (by omega)
  · intro j hj hj2
    rw [(K 7 (by first | decide | omega) (by first | decide | omega) (by first | decide | omega))] at hj2
    rw [show 175 + j = 167 + (8 + j) by omega, KH _ (by omega), W (8 + j) (by omega) (by omega), show 167 + (8 + j) = 175 + j by omega]; exact f2 j hj (by omega)
  · intro j hj hj2
    rw [KX] at hj2
    rw [show 179 + j = 167 + (12 + j) by omega, KH _ (by omega), W (12 + j) (by omega) (by omega), show 167 + (12 + j) = 179 + j by omega]; exact f3 j hj (by omega)
  · intro q
    rw [(K 15 (by first | decide | omega) (by first | decide | omega) (by first | decide | omega))] at q
    exact absurd q h15
  · rw [(K 13 (by first | decide | omega) (by first | decide | omega) (by first | decide | omega)), (K 12 (by first | decide | omega) (by first | decide | omega) (by first | decide | omega))]; exact g2
theorem qx_isTownLine {tp ndf qrf qmf qwf qpf qhnf qhtf qhjf qhmf qhbf qhsf qhcf ndg qrg qmg qwg qpg qhng qhtg qhjg qhmg qhbg qhsg qhcg F T : Nat → Int32} {nmf nmg : Nat → Int64} {le le2 : Int64} {fn fp n kd sta po va tk ta ndn qmd qtr qrn qmn qwn qpn qhnn qhtn qhjn qhmn qhbn qhsn qhcn fn2 fp2 kd2 sta2 po2 va2 tk2 ta2 ndk qrk qmk qwk qpk qmd2 qtr2 qhnk qhtk qhjk qhmk qhbk qhsk qhck r a : Int32} (hn : IV n 0 900) (ht : TpR tp T) (hH : HRel F ndn nmf ndf qrn qrf qmn qmf qwn qwf qpn qhnn qhtn qhjn qhmn qhbn qhsn qhcn) (hV : HV F qrf qmf qwf qpf qhnf qhtf qhjf qhmf qhbf qhsf qhcf) (h15 : F 15 ≠ 0) (hs : XS T n a kd sta po va le) (h : R_x_isTownLineX fn fp n kd sta po va le tk ta tp nmf ndn ndf qmd qtr qrn qrf qmn qmf qwn qwf qpn qpf qhnn qhnf qhtn qhtf qhjn qhjf qhmn qhmf qhbn qhbf qhsn qhsf qhcn qhcf fn2 fp2 kd2 sta2 po2 va2 le2 tk2 ta2 nmg ndg ndk qrg qmg qwg qpg qrk qmk qwk qpk qmd2 qtr2 qhng qhtg qhjg qhmg qhbg qhsg qhcg qhnk qhtk qhjk qhmk qhbk qhsk qhck r) : XF T n (bnd (opnS F T n (bcap 4 (F 7)) a) (townS F T n)) fn fp r fn2 fp2 kd2 sta2 po2 va2 le2 (fun G => HRel G ndk nmg ndg qrk qrg qmk qmg qwk qwg qpk qhnk qhtk qhjk qhmk qhbk qhsk qhck ∧ HV G qrg qmg qwg qpg qhng qhtg qhjg qhmg qhbg qhsg qhcg) := by
  have hH0 := hH
  refine exA14 hH ?_
  clear hH
  intro zc7 zc8 zc9 c12 cb cr cm cw cN cd f1' f2' f3' g1' g2'
  refine exA1 zc7 ?_
  clear zc7
  intro a1 a2
  refine exA8 zc8 ?_
  clear zc8
  intro b1 b2 b3 b4 b5 b6 b7 b8 b9
  refine exA7 zc9 ?_
  clear zc9
  intro i6 i7 i8 i9 i10 i11 i13 i14
  have e8 : (8 : Int32).toInt = 8 := by decide
  have e6 : (6 : Int32).toInt = 6 := by decide
  have e4 : (4 : Int32).toInt = 4 := by decide
  rw [room_opn h15]
  unfold R_x_isTownLineX at h
  refine exE8 h ?_
  clear h
  intro f1 g1 k1 s1 p1 v1 l1' r1 hh1 h
  rw [b2] at hh1
  have m1 := qx_room1 hn ht hs hh1
  skip
  cases hc1 : roomS T n 4 (F 7) a with
  | inl e =>
    rw [hc1] at m1
    refine exA2 (XL_l m1) ?_
    intro x1 x2 x3
    first | replace h := pf1 h x1 | replace h := pf2 h x1
    have l1 := h.1
    have l2 := h.2.1
    have l37 := h.2.2.2.2.2.2.2.2.2.2.2.2.2.2.2.2.2.2.2.2.2.2.2.2.2.2.2.2.2.2.2.2.2.2.2.2
    simp only [townS, aft_def, hc1, bnd]
    exact ⟨(by first | exact l37 | rw [l37, x1]), by rw [l1, x2], by rw [l2, x3]⟩
  | inr u1 =>
    rw [hc1] at m1
    refine exA3 (XL_r m1) ?_
    intro x1 yf1 yg1 xs1
    first | replace h := pk1 h x1 | replace h := pk2 h x1
    refine exE11 h ?_
    clear h
    intro f2 g2 k2 s2 p2 v2 l2' nm2 nd2 nk2 r2 hh2 h
    rw [b2] at hh2
    have m2 := qx_new hn ht cN (by have := (rm_inr hc1).1; omega) (Or.inr (Or.inl ⟨rfl, ⟨by omega, by have := (rm_inr hc1).1; omega⟩⟩)) (by rw [slot1, show 167 + (8 + (F 7).toInt.toNat) = 175 + (F 7).toInt.toNat by omega]; exact f2' _ (by have := (rm_inr hc1).1; omega) (by omega)) xs1 hh2
    rw [slot1] at m2
    cases hc2 : newS F T n (8 + (F 7).toInt.toNat) u1 with
    | inl e =>
      rw [hc2] at m2
      refine exA2 (XN_l m2) ?_
      intro x1 x2 x3
      first | replace h := pf1 h x1 | replace h := pf2 h x1
      have l1 := h.1
      have l2 := h.2.1
      have l37 := h.2.2.2.2.2.2.2.2.2.2.2.2.2.2.2.2.2.2.2.2.2.2.2.2.2.2.2.2.2.2.2.2.2.2.2.2
      simp only [townS, aft_def, hc1, hc2, bnd]
      exact ⟨(by first | exact l37 | rw [l37, x1]), by rw [l1, x2], by rw [l2, x3]⟩
    | inr u2 =>
      rw [hc2] at m2
      refine exA5 (XN_r m2) ?_
      intro x1 yf2 yg2 yN2 yk2 xs2
      first | replace h := pk1 h x1 | replace h := pk2 h x1
      refine exE8 h ?_
      clear h
      intro f3 g3 k3 s3 p3 v3 l3' r3 hh3 h
      have m3 := qx_label hn ht wok_trust xs2 hh3
      skip
      cases hc3 : labS T n "trust" u2.2 with
      | inl e =>
        rw [hc3] at m3
        refine exA2 (XL_l m3) ?_
        intro x1 x2 x3
        first | replace h := pf1 h x1 | replace h := pf2 h x1
        have l1 := h.1
        have l2 := h.2.1
        have l37 := h.2.2.2.2.2.2.2.2.2.2.2.2.2.2.2.2.2.2.2.2.2.2.2.2.2.2.2.2.2.2.2.2.2.2.2.2
        simp only [townS, aft_def, hc1, hc2, hc3, bnd]
        exact ⟨(by first | exact l37 | rw [l37, x1]), by rw [l1, x2], by rw [l2, x3]⟩
      | inr u3 =>
        rw [hc3] at m3
        refine exA3 (XL_r m3) ?_
        intro x1 yf3 yg3 xs3
        first | replace h := pk1 h x1 | replace h := pk2 h x1
        refine exE10 h ?_
        clear h
        intro f4 g4 k4 s4 p4 v4 l4' tk4 ta4 r4 hh4 h
        have m4 := qx_whole hn ht xs3 hh4
        skip
        cases hc4 : numS T n 1 9 u3 with
        | inl e =>
          rw [hc4] at m4
          refine exA2 (XV_l m4) ?_
          intro x1 x2 x3
          first | replace h := pf1 h x1 | replace h := pf2 h x1
          have l1 := h.1
          have l2 := h.2.1
          have l37 := h.2.2.2.2.2.2.2.2.2.2.2.2.2.2.2.2.2.2.2.2.2.2.2.2.2.2.2.2.2.2.2.2.2.2.2.2
          simp only [townS, aft_def, hc1, hc2, hc3, hc4, bnd]
          exact ⟨(by first | exact l37 | rw [l37, x1]), by rw [l1, x2], by rw [l2, x3]⟩
        | inr u4 =>
          rw [hc4] at m4
          refine exA5 (XV_r m4) ?_
          intro x1 yf4 yg4 yt4 ya4 xs4
          first | replace h := pk1 h x1 | replace h := pk2 h x1
          refine exE2 h ?_
          clear h
          intro gg kk hadd h
          refine exA36 h ?_
          intro l1 l2 l3 l4 l5 l6 l7 l8 l9 l10 l11 l12 l13 l14 l15 l16 l17 l18 l19 l20 l21 l22 l23 l24 l25 l26 l27 l28 l29 l30 l31 l32 l33 l34 l35 l36 l37
          obtain ⟨o1, o2⟩ := qt_add4_1 (by rw [b2]; exact ⟨by omega, by have := (rm_inr hc1).1; omega⟩) hadd
          obtain ⟨w1, w2⟩ := new_inr hc2
          simp only [townS, aft_def, hc1, hc2, hc3, hc4, bnd]
          subst l3 l4 l5 l6 l7
          refine ⟨l37, by rw [l1, yf4, yf3, yf2, yf1], by rw [l2, yg4, yg3, yg2, yg1], xs4, ?_⟩
          skip
          rw [w1] at yN2
          rw [w1]
          have lt := (rm_inr hc1).1
          have K : ∀ i : Nat, i < 167 → i ≠ 7 → (i < 40 ∨ 43 < i) → (upd (upd (wrN F T n u1 (8 + (F 7).toInt.toNat)) (40 + (F 7).toInt.toNat) u4.1) 7 (F 7 + 1)) i = F i := by
            intro i q1 q2 q3
            rw [upd_ne q2, upd_ne (by omega), wrN_lt q1]
          have KX : (upd (upd (wrN F T n u1 (8 + (F 7).toInt.toNat)) (40 + (F 7).toInt.toNat) u4.1) 7 (F 7 + 1)) 7 = F 7 + 1 := upd_at
          have KH : ∀ i : Nat, 167 ≤ i → (upd (upd (wrN F T n u1 (8 + (F 7).toInt.toNat)) (40 + (F 7).toInt.toNat) u4.1) 7 (F 7 + 1)) i = wrN F T n u1 (8 + (F 7).toInt.toNat) i := by
            intro i q1
            rw [upd_ne (by omega), upd_ne (by omega)]
          have hW := HV_town (g := gg) (G := (upd (upd (wrN F T n u1 (8 + (F 7).toInt.toNat)) (40 + (F 7).toInt.toNat) u4.1) 7 (F 7 + 1))) (m := (F 7).toInt.toNat) hV ⟨i6, i7, i8, i9, i10, i11, i13, i14⟩ c12 (by omega) (by have := (rm_inr hc1).1; omega) (by rw [upd_at, inc1 (u := F 7) (z := F 7 + 1) (a := 0) (b := 900) ⟨by omega, by omega⟩ (by omega) (by omega) rfl]; omega) (fun i q1 q2 q3 => by rw [upd_ne q2, upd_ne (by omega), wrN_lt q1]) (by rw [Nat.one_mul, upd_ne (by omega), upd_at]) (by rw [o1, b2, yt4])
          rw [l10, l11, l12, l13, l14, l15, l16, l17, l18, l19, l20, l23, l24, l25, l26, l27, l28, l29, l30, l31, l32, l33, l34, l35, l36]
          generalize (upd (upd (wrN F T n u1 (8 + (F 7).toInt.toNat)) (40 + (F 7).toInt.toNat) u4.1) 7 (F 7 + 1)) = G at *
          dsimp only
          exact ⟨HRel_town hH0 h15 (by omega) yN2 yk2 o2 K KX KH, hW⟩

set_option maxRecDepth 100000
set_option maxHeartbeats 4000000
theorem townP_l {F T : Nat → Int32} {n a : Int32} {e : Int32 × Int32} (h : townP F T n a = .inl e) : oldS F T n 8 11 a = .inl e := by
  unfold townP at h
  cases q : oldS F T n 8 11 a with
  | inl e' => rw [q, bnd_l] at h; have := Sum.inl.inj h; subst this; rfl
  | inr r => rw [q, bnd_r] at h; cases h
theorem townP_r {F T : Nat → Int32} {n a : Int32} {v : Int32 × Int32} (h : townP F T n a = .inr v) : oldS F T n 8 11 a = .inr v.1 ∧ v.2 = nx T n a := by
  unfold townP at h
  cases q : oldS F T n 8 11 a with
  | inl e' => rw [q, bnd_l] at h; cases h
  | inr r => rw [q, bnd_r] at h; have := Sum.inr.inj h; subst this; exact ⟨rfl, rfl⟩
theorem m_at {qmf : Nat → Int32} {u c : Int32} {j C : Nat} (hu : u.toInt = j) (hj : j < 12) (hc : c.toInt = C) (hC : C < 3) : tbAt 12 3 qmf u c = qmf (3 * j + C) := by
  have e12 : (12 : Int32).toInt = 12 := by decide
  have e3 : (3 : Int32).toInt = 3 := by decide
  have q := tbAt_in (R := 12) (V := 3) (row := u) (col := c) (f := qmf) (by decide) (by decide) (by rw [e12]; omega) (by rw [e3]; omega)
  rw [e3] at q
  have z : u.toInt.toNat * (3 : Int).toNat + c.toInt.toNat = 3 * j + C := by
    show u.toInt.toNat * 3 + c.toInt.toNat = 3 * j + C
    omega
  rw [z] at q
  exact q
theorem markBy_L0 {F qmf : Nat → Int32} {x y qmn r : Int32} (hq : qmn = F 8) (hi : IV (F 8) 0 12) (cm : ∀ k : Nat, (k : Int) < (F 8).toInt → qmf (3 * k) = F (44 + 3 * k) ∧ qmf (3 * k + 2) = F (44 + 3 * k + 2) ∧ 0 ≤ (qmf (3 * k + 1)).toInt) : ∀ (f : Nat) (u : Int32) (j : Nat), u.toInt = j → (j : Int) ≤ (F 8).toInt → (∀ k : Nat, k < j → ¬ (F (44 + 3 * k) = x ∧ F (44 + 3 * k + 2) = y)) → R_s_markByX_L0 x y qmn qmf r (r = -2) f u → (¬ Dup F 44 2 8 x y ∧ r = -2) ∨ (Dup F 44 2 8 x y ∧ 0 ≤ r.toInt) := by
  intro f
  induction f with
  | zero => intro u j _ _ _ h; exact h.elim
  | succ f ih =>
    intro u j hj hj2 hall h
    simp only [R_s_markByX_L0] at h
    rcases h with ⟨h1, h⟩ | ⟨h1, r1, hr1, h⟩
    · rw [le_I, hq] at h1
      refine Or.inl ⟨?_, h⟩
      rintro ⟨k, k1, k2⟩
      exact hall k (by omega) k2
    · rw [le_I, hq] at h1
      obtain ⟨c1, c2, c3⟩ := cm j (by omega)
      rw [m_at (C := 0) hj (by omega) (by decide) (by omega)] at hr1
      have hr1 : r1 = F (44 + 3 * j) := hr1.trans c1
      have go : ∀ z9 : Int32, u + Int32.ofInt 1 = z9 → ¬ (F (44 + 3 * j) = x ∧ F (44 + 3 * j + 2) = y) → R_s_markByX_L0 x y qmn qmf r (r = -2) f z9 → (¬ Dup F 44 2 8 x y ∧ r = -2) ∨ (Dup F 44 2 8 x y ∧ 0 ≤ r.toInt) := by
        intro z9 h9 hno h
        rw [ofI1] at h9
        have e1 := inc1 (u := u) (z := z9) (a := 0) (b := 900) ⟨by omega, by omega⟩ (by omega) (by omega) h9.symm
        refine ih z9 (j + 1) (by omega) (by omega) (fun k hk => ?_) h
        by_cases q : k = j
        · subst q; exact hno
        · exact hall k (by omega)
      rcases h with ⟨h2, z9, h9, h⟩ | ⟨h2, r2, hr2, h⟩
      · exact go z9 h9 (fun q => h2 (hr1.trans q.1)) h
      · rw [m_at (C := 2) hj (by omega) (by decide) (by omega)] at hr2
        have hr2 : r2 = F (44 + 3 * j + 2) := hr2.trans c2
        rcases h with ⟨h3, z9, h9, h⟩ | ⟨h3, r3, hr3, h⟩
        · exact go z9 h9 (fun q => h3 (hr2.trans q.2)) h
        · rw [m_at (C := 1) hj (by omega) (by decide) (by omega)] at hr3
          exact Or.inr ⟨⟨j, by omega, hr1.symm.trans h2, hr2.symm.trans h3⟩, by rw [h, hr3]; exact c3⟩
theorem qx_isMarkLine {tp ndf qrf qmf qwf qpf qhnf qhtf qhjf qhmf qhbf qhsf qhcf ndg qrg qmg qwg qpg qhng qhtg qhjg qhmg qhbg qhsg qhcg F T : Nat → Int32} {nmf nmg : Nat → Int64} {le le2 : Int64} {fn fp n kd sta po va tk ta ndn qmd qtr qrn qmn qwn qpn qhnn qhtn qhjn qhmn qhbn qhsn qhcn fn2 fp2 kd2 sta2 po2 va2 tk2 ta2 ndk qrk qmk qwk qpk qmd2 qtr2 qhnk qhtk qhjk qhmk qhbk qhsk qhck r a : Int32} (hn : IV n 0 900) (ht : TpR tp T) (hH : HRel F ndn nmf ndf qrn qrf qmn qmf qwn qwf qpn qhnn qhtn qhjn qhmn qhbn qhsn qhcn) (hV : HV F qrf qmf qwf qpf qhnf qhtf qhjf qhmf qhbf qhsf qhcf) (h15 : F 15 ≠ 0) (hs : XS T n a kd sta po va le) (h : R_x_isMarkLineX fn fp n kd sta po va le tk ta tp nmf ndn ndf qmd qtr qrn qrf qmn qmf qwn qwf qpn qpf qhnn qhnf qhtn qhtf qhjn qhjf qhmn qhmf qhbn qhbf qhsn qhsf qhcn qhcf fn2 fp2 kd2 sta2 po2 va2 le2 tk2 ta2 nmg ndg ndk qrg qmg qwg qpg qrk qmk qwk qpk qmd2 qtr2 qhng qhtg qhjg qhmg qhbg qhsg qhcg qhnk qhtk qhjk qhmk qhbk qhsk qhck r) : XF T n (bnd (opnS F T n (bcap 12 (F 8)) a) (markS F T n)) fn fp r fn2 fp2 kd2 sta2 po2 va2 le2 (fun G => HRel G ndk nmg ndg qrk qrg qmk qmg qwk qwg qpk qhnk qhtk qhjk qhmk qhbk qhsk qhck ∧ HV G qrg qmg qwg qpg qhng qhtg qhjg qhmg qhbg qhsg qhcg) := by
  have hH0 := hH
  refine exA14 hH ?_
  clear hH
  intro zc1 zc2 zc3 c12 cb cr cm cw cN cd f1' f2' f3' g1' g2'
  refine exA1 zc1 ?_
  clear zc1
  intro a1 a2
  refine exA8 zc2 ?_
  clear zc2
  intro b1 b2 b3 b4 b5 b6 b7 b8 b9
  refine exA7 zc3 ?_
  clear zc3
  intro i6 i7 i8 i9 i10 i11 i13 i14
  have e8 : (8 : Int32).toInt = 8 := by decide
  have e6 : (6 : Int32).toInt = 6 := by decide
  rw [room_opn h15]
  unfold R_x_isMarkLineX at h
  refine exE8 h ?_
  clear h
  intro f1 g1 k1 s1 p1 v1 l1' r1 hh1 h
  rw [b3] at hh1
  have m1 := qx_room2 hn ht hs hh1
  skip
  cases hc1 : roomS T n 12 (F 8) a with
  | inl e =>
    rw [hc1] at m1
    refine exA2 (XL_l m1) ?_
    intro x1 x2 x3
    first | replace h := pf1 h x1 | replace h := pf2 h x1
    have l1 := h.1
    have l2 := h.2.1
    have l37 := h.2.2.2.2.2.2.2.2.2.2.2.2.2.2.2.2.2.2.2.2.2.2.2.2.2.2.2.2.2.2.2.2.2.2.2.2
    simp only [markS, hc1, bnd]
    exact ⟨(by first | exact l37 | rw [l37, x1]), by rw [l1, x2], by rw [l2, x3]⟩
  | inr u1 =>
    rw [hc1] at m1
    refine exA3 (XL_r m1) ?_
    intro x1 yf1 yg1 xs1
    first | replace h := pk1 h x1 | replace h := pk2 h x1
    refine exE10 h ?_
    clear h
    intro f2 g2 k2 s2 p2 v2 l2' tk2 ta2 r2 hh2 h
    have m2 := qx_oldR hn ht cN xs1 hh2
    skip
    cases hc2 : reelP F T n u1 with
    | inl e =>
      rw [hc2] at m2
      refine exA2 (XV_l m2) ?_
      intro x1 x2 x3
      first | replace h := pf1 h x1 | replace h := pf2 h x1
      have l1 := h.1
      have l2 := h.2.1
      have l37 := h.2.2.2.2.2.2.2.2.2.2.2.2.2.2.2.2.2.2.2.2.2.2.2.2.2.2.2.2.2.2.2.2.2.2.2.2
      simp only [markS, hc1, hc2, bnd]
      exact ⟨(by first | exact l37 | rw [l37, x1]), by rw [l1, x2], by rw [l2, x3]⟩
    | inr u2 =>
      rw [hc2] at m2
      refine exA5 (XV_r m2) ?_
      intro x1 yf2 yg2 yt2 ya2 xs2
      first | replace h := pk1 h x1 | replace h := pk2 h x1
      refine exE1 h ?_
      clear h
      intro rl hl h
      refine exE10 h ?_
      clear h
      intro f3 g3 k3 s3 p3 v3 l3' tk3 ta3 r3 hh3 h
      rw [yt2] at hl
      have el := last_of (reelP_inr hc2).1 (reelP_lt f1' hc2) cr hl
      rw [el] at hh3
      have m3 := qx_whole hn ht xs2 hh3
      skip
      cases hc3 : numS T n 0 (F (16 + 3 * u2.1.toInt.toNat) - 1) u2.2 with
      | inl e =>
        rw [hc3] at m3
        refine exA2 (XV_l m3) ?_
        intro x1 x2 x3
        first | replace h := pf1 h x1 | replace h := pf2 h x1
        have l1 := h.1
        have l2 := h.2.1
        have l37 := h.2.2.2.2.2.2.2.2.2.2.2.2.2.2.2.2.2.2.2.2.2.2.2.2.2.2.2.2.2.2.2.2.2.2.2.2
        simp only [markS, hc1, hc2, hc3, bnd]
        exact ⟨(by first | exact l37 | rw [l37, x1]), by rw [l1, x2], by rw [l2, x3]⟩
      | inr u3 =>
        rw [hc3] at m3
        refine exA5 (XV_r m3) ?_
        intro x1 yf3 yg3 yt3 ya3 xs3
        first | replace h := pk1 h x1 | replace h := pk2 h x1
        refine exE8 h ?_
        clear h
        intro f4 g4 k4 s4 p4 v4 l4' r4 hh4 h
        have m4 := qx_label hn ht wok_by xs3 hh4
        skip
        cases hc4 : labS T n "by" u3.2 with
        | inl e =>
          rw [hc4] at m4
          refine exA2 (XL_l m4) ?_
          intro x1 x2 x3
          first | replace h := pf1 h x1 | replace h := pf2 h x1
          have l1 := h.1
          have l2 := h.2.1
          have l37 := h.2.2.2.2.2.2.2.2.2.2.2.2.2.2.2.2.2.2.2.2.2.2.2.2.2.2.2.2.2.2.2.2.2.2.2.2
          simp only [markS, hc1, hc2, hc3, hc4, bnd]
          exact ⟨(by first | exact l37 | rw [l37, x1]), by rw [l1, x2], by rw [l2, x3]⟩
        | inr u4 =>
          rw [hc4] at m4
          refine exA3 (XL_r m4) ?_
          intro x1 yf4 yg4 xs4
          first | replace h := pk1 h x1 | replace h := pk2 h x1
          refine exE10 h ?_
          clear h
          intro f5 g5 k5 s5 p5 v5 l5' tk5 ta5 r5 hh5 h
          have m5 := qx_oldT hn ht cN xs4 hh5
          cases hc5 : townP F T n u4 with
          | inl e =>
            rw [hc5] at m5
            refine exA2 (XV_l m5) ?_
            intro x1 x2 x3
            have hc6 := townP_l hc5
            first | replace h := pf1 h x1 | replace h := pf2 h x1
            have l1 := h.1
            have l2 := h.2.1
            have l37 := h.2.2.2.2.2.2.2.2.2.2.2.2.2.2.2.2.2.2.2.2.2.2.2.2.2.2.2.2.2.2.2.2.2.2.2.2
            simp only [markS, hc1, hc2, hc3, hc4, hc6, bnd]
            exact ⟨(by first | exact l37 | rw [l37, x1]), by rw [l1, x2], by rw [l2, x3]⟩
          | inr u5 =>
            rw [hc5] at m5
            refine exA5 (XV_r m5) ?_
            intro x1 yf5 yg5 yt5 ya5 xs5
            obtain ⟨hc6, hc7⟩ := townP_r hc5
            first | replace h := pk1 h x1 | replace h := pk2 h x1
            obtain ⟨rm, hrm, h⟩ := h
            rw [yt2, yt5] at hrm
            simp only [R_s_markByX] at hrm
            obtain ⟨fm, hrm⟩ := hrm
            have lt := (rm_inr hc1).1
            have e12 : (12 : Int32).toInt = 12 := by decide
            rcases markBy_L0 b3 i8 cm fm 0 0 (by decide) (by omega) (fun k hk => by omega) hrm with ⟨nd, q⟩ | ⟨nd, q⟩
            · rcases h with ⟨-, h⟩ | ⟨q2, -⟩
              case inr => rw [q] at q2; exact absurd (by decide) q2
              refine exE2 h ?_
              clear h
              intro gg kk hadd h
              refine exA36 h ?_
              intro l1 l2 l3 l4 l5 l6 l7 l8 l9 l10 l11 l12 l13 l14 l15 l16 l17 l18 l19 l20 l21 l22 l23 l24 l25 l26 l27 l28 l29 l30 l31 l32 l33 l34 l35 l36 l37
              obtain ⟨o1, o2⟩ := qt_add12_3 (by rw [b3]; exact ⟨by omega, by omega⟩) hadd
              simp only [markS, hc1, hc2, hc3, hc4, hc6, if_neg nd, bnd]
              subst l3 l4 l5 l6 l7
              refine ⟨l37, by rw [l1, yf5, yf4, yf3, yf2, yf1], by rw [l2, yg5, yg4, yg3, yg2, yg1], by rw [← hc7]; exact xs5, ?_⟩
              have en := inc1 (u := F 8) (z := F 8 + 1) (a := 0) (b := 900) ⟨by omega, by omega⟩ (by omega) (by omega) rfl
              have K : ∀ i : Nat, (i ≠ 8 ∧ (i < 44 ∨ 79 < i)) → (upd (upd (upd (upd F (44 + 3 * (F 8).toInt.toNat) u2.1) (44 + 3 * (F 8).toInt.toNat + 1) u3.1) (44 + 3 * (F 8).toInt.toNat + 2) u5.1) 8 (F 8 + 1)) i = F i := by
                intro i q
                rw [upd_ne q.1, upd_ne (by omega), upd_ne (by omega), upd_ne (by omega)]
              have KX : (upd (upd (upd (upd F (44 + 3 * (F 8).toInt.toNat) u2.1) (44 + 3 * (F 8).toInt.toNat + 1) u3.1) (44 + 3 * (F 8).toInt.toNat + 2) u5.1) 8 (F 8 + 1)) 8 = F 8 + 1 := upd_at
              have KM : ∀ k : Nat, (k : Int) < (F 8).toInt + 1 → (upd (upd (upd (upd F (44 + 3 * (F 8).toInt.toNat) u2.1) (44 + 3 * (F 8).toInt.toNat + 1) u3.1) (44 + 3 * (F 8).toInt.toNat + 2) u5.1) 8 (F 8 + 1)) (44 + 3 * k) = (if k = (F 8).toInt.toNat then u2.1 else F (44 + 3 * k)) ∧ (upd (upd (upd (upd F (44 + 3 * (F 8).toInt.toNat) u2.1) (44 + 3 * (F 8).toInt.toNat + 1) u3.1) (44 + 3 * (F 8).toInt.toNat + 2) u5.1) 8 (F 8 + 1)) (44 + 3 * k + 2) = (if k = (F 8).toInt.toNat then u5.1 else F (44 + 3 * k + 2)) := by
                intro k hk
                by_cases q : k = (F 8).toInt.toNat
                · subst q
                  rw [if_pos rfl, if_pos rfl]
                  exact ⟨by rw [upd_ne (by omega), upd_ne (by omega), upd_ne (by omega), upd_at], by rw [upd_ne (by omega), upd_at]⟩
                · rw [if_neg q, if_neg q]
                  exact ⟨by rw [upd_ne (by omega), upd_ne (by omega), upd_ne (by omega), upd_ne (by omega)], by rw [upd_ne (by omega), upd_ne (by omega), upd_ne (by omega), upd_ne (by omega)]⟩
              have hW := HV_mark (g := gg) (G := (upd (upd (upd (upd F (44 + 3 * (F 8).toInt.toNat) u2.1) (44 + 3 * (F 8).toInt.toNat + 1) u3.1) (44 + 3 * (F 8).toInt.toNat + 2) u5.1) 8 (F 8 + 1))) (m := (F 8).toInt.toNat) hV ⟨i6, i7, i8, i9, i10, i11, i13, i14⟩ c12 (by omega) (by have := (rm_inr hc1).1; omega) (by rw [upd_at, inc1 (u := F 8) (z := F 8 + 1) (a := 0) (b := 900) ⟨by omega, by omega⟩ (by omega) (by omega) rfl]; omega) (fun i q1 q2 q3 => by rw [upd_ne q2, upd_ne (by omega), upd_ne (by omega), upd_ne (by omega)]) (by rw [upd_ne (by omega), upd_ne (by omega), upd_ne (by omega), upd_at]) (by rw [upd_ne (by omega), upd_ne (by omega), upd_at]) (by rw [upd_ne (by omega), upd_at]) (by rw [o1, b3, yt2, yt3, yt5])
              rw [l10, l11, l12, l13, l14, l15, l16, l17, l18, l19, l20, l23, l24, l25, l26, l27, l28, l29, l30, l31, l32, l33, l34, l35, l36]
              generalize (upd (upd (upd (upd F (44 + 3 * (F 8).toInt.toNat) u2.1) (44 + 3 * (F 8).toInt.toNat + 1) u3.1) (44 + 3 * (F 8).toInt.toNat + 2) u5.1) 8 (F 8 + 1)) = G at *
              dsimp only
              rw [b3, yt2, yt3, yt5] at o1
              have n3 := (num_lo hc3).1
              rw [lt_I, zI] at n3
              exact ⟨HG hH0 h15 (K 15 (by first | decide | omega)) (K 6 (by first | decide | omega)) (K 7 (by first | decide | omega)) (K 11 (by first | decide | omega)) (fun i q => K i (by omega)) (fun j q => K _ (by omega)) (by rw [KX]; exact ⟨by omega, by omega⟩) (by rw [K 9 (by first | decide | omega)]; exact i9) (by rw [K 10 (by first | decide | omega)]; exact i10) (by rw [K 12 (by first | decide | omega)]; exact c12) (by rw [K 13 (by first | decide | omega)]; exact i13) (by rw [K 14 (by first | decide | omega)]; exact i14) (by rw [KX, o2, b3]) (by rw [K 9 (by first | decide | omega)]; exact b4) (by rw [K 10 (by first | decide | omega)]; exact b5) (by rw [K 12 (by first | decide | omega)]; exact b7) (by rw [K 13 (by first | decide | omega)]; exact b8) (by rw [K 14 (by first | decide | omega)]; exact b9) (by rw [K 134 (by first | decide | omega)]; exact cb) (fun j q => by
              rw [KX, en] at q
              obtain ⟨t1, t2⟩ := KM j q
              rw [t1, t2, o1]
              by_cases qj : j = (F 8).toInt.toNat
              · subst qj
                rw [if_pos rfl, if_pos rfl]
                refine ⟨?_, ?_, ?_⟩
                · rw [upd_ne (by omega), upd_ne (by omega), show 3 * (F 8).toInt.toNat = (F 8).toInt.toNat * 3 + 0 by omega, upd_at]
                · rw [show 3 * (F 8).toInt.toNat + 2 = (F 8).toInt.toNat * 3 + 2 by omega, upd_at]
                · rw [upd_ne (by omega), show 3 * (F 8).toInt.toNat + 1 = (F 8).toInt.toNat * 3 + 1 by omega, upd_at]; omega
              · rw [if_neg qj, if_neg qj, upd_ne (by omega), upd_ne (by omega), upd_ne (by omega), upd_ne (by omega), upd_ne (by omega), upd_ne (by omega), upd_ne (by omega), upd_ne (by omega), upd_ne (by omega)]
                exact cm j (by omega)) (fun j q => by rw [K 10 (by first | decide | omega)] at q; rw [K _ (by omega), K _ (by omega)]; exact cw j q) (by rw [K 13 (by first | decide | omega), K 12 (by first | decide | omega)]; exact g2'), hW⟩
            · rcases h with ⟨q2, -⟩ | ⟨-, h⟩
              case inl => rw [lt_I, zI] at q2; omega
              obtain ⟨f, p, r2, ⟨b1', b2', b3'⟩, h⟩ := h
              have l1 := h.1
              have l2 := h.2.1
              have l37 := h.2.2.2.2.2.2.2.2.2.2.2.2.2.2.2.2.2.2.2.2.2.2.2.2.2.2.2.2.2.2.2.2.2.2.2.2
              simp only [markS, hc1, hc2, hc3, hc4, hc6, if_pos nd, bnd]
              exact ⟨by rw [l37, b3'], by rw [l1, b1'], by rw [l2, b2', ya5]⟩

theorem numS_l {T : Nat → Int32} {n lo hi a : Int32} {e : Int32 × Int32} (h : numS T n lo hi a = .inl e) : numH T n lo hi a = .inl e := by
  unfold numS at h
  cases q : numH T n lo hi a with
  | inl e' => rw [q, bnd_l] at h; have := Sum.inl.inj h; subst this; rfl
  | inr r => rw [q, bnd_r] at h; cases h
theorem numS_r {T : Nat → Int32} {n lo hi a : Int32} {v : Int32 × Int32} (h : numS T n lo hi a = .inr v) : numH T n lo hi a = .inr v.1 ∧ v.2 = nx T n a := by
  unfold numS at h
  cases q : numH T n lo hi a with
  | inl e' => rw [q, bnd_l] at h; cases h
  | inr r => rw [q, bnd_r] at h; have := Sum.inr.inj h; subst this; exact ⟨rfl, rfl⟩
theorem w_at {qwf : Nat → Int32} {u c : Int32} {j C : Nat} (hu : u.toInt = j) (hj : j < 6) (hc : c.toInt = C) (hC : C < 3) : tbAt 6 3 qwf u c = qwf (3 * j + C) := by
  have e12 : (6 : Int32).toInt = 6 := by decide
  have e3 : (3 : Int32).toInt = 3 := by decide
  have q := tbAt_in (R := 6) (V := 3) (row := u) (col := c) (f := qwf) (by decide) (by decide) (by rw [e12]; omega) (by rw [e3]; omega)
  rw [e3] at q
  have z : u.toInt.toNat * (3 : Int).toNat + c.toInt.toNat = 3 * j + C := by
    show u.toInt.toNat * 3 + c.toInt.toNat = 3 * j + C
    omega
  rw [z] at q
  exact q
theorem weak_cl {nmf : Nat → Int64} {ndn : Int32} {ndf : Nat → Int32} {qmd : Int32} {qtr : Int32} {qrn : Int32} {qrf : Nat → Int32} {qmn : Int32} {qmf : Nat → Int32} {qwn : Int32} {qwf : Nat → Int32} {qpn : Int32} {qpf : Nat → Int32} {qhnn : Int32} {qhnf : Nat → Int32} {qhtn : Int32} {qhtf : Nat → Int32} {qhjn : Int32} {qhjf : Nat → Int32} {qhmn : Int32} {qhmf : Nat → Int32} {qhbn : Int32} {qhbf : Nat → Int32} {qhsn : Int32} {qhsf : Nat → Int32} {qhcn : Int32} {qhcf : Nat → Int32} {fn2 : Int32} {fp2 : Int32} {kd2 : Int32} {sta2 : Int32} {po2 : Int32} {va2 : Int32} {le2 : Int64} {tk2 : Int32} {ta2 : Int32} {nmg : Nat → Int64} {ndg : Nat → Int32} {ndk : Int32} {qrg : Nat → Int32} {qmg : Nat → Int32} {qwg : Nat → Int32} {qpg : Nat → Int32} {qrk : Int32} {qmk : Int32} {qwk : Int32} {qpk : Int32} {qmd2 : Int32} {qtr2 : Int32} {qhng : Nat → Int32} {qhtg : Nat → Int32} {qhjg : Nat → Int32} {qhmg : Nat → Int32} {qhbg : Nat → Int32} {qhsg : Nat → Int32} {qhcg : Nat → Int32} {qhnk : Int32} {qhtk : Int32} {qhjk : Int32} {qhmk : Int32} {qhbk : Int32} {qhsk : Int32} {qhck : Int32} {r : Int32} {x : Int32} {kd6 : Int32} {sta6 : Int32} {po6 : Int32} {va6 : Int32} {le6 : Int64} {y : Int32} {ta6 : Int32} {κ : Prop} {F : Nat → Int32} (hq : qwn = F 10) (hi : IV (F 10) 0 6) (cw : ∀ k : Nat, (k : Int) < (F 10).toInt → qwf (3 * k) = F (96 + 3 * k) ∧ qwf (3 * k + 1) = F (96 + 3 * k + 1)) : ∀ (f : Nat) (u : Int32) (j : Nat), u.toInt = j → (j : Int) ≤ (F 10).toInt → (∀ k : Nat, k < j → ¬ (F (96 + 3 * k) = x ∧ F (96 + 3 * k + 1) = y)) → R_x_isWeakLineX_L0 nmf ndn ndf qmd qtr qrn qrf qmn qmf qwn qwf qpn qpf qhnn qhnf qhtn qhtf qhjn qhjf qhmn qhmf qhbn qhbf qhsn qhsf qhcn qhcf fn2 fp2 kd2 sta2 po2 va2 le2 tk2 ta2 nmg ndg ndk qrg qmg qwg qpg qrk qmk qwk qpk qmd2 qtr2 qhng qhtg qhjg qhmg qhbg qhsg qhcg qhnk qhtk qhjk qhmk qhbk qhsk qhck r x kd6 sta6 po6 va6 le6 y ta6 κ f u → (¬ Dup F 96 1 10 x y ∧ κ) ∨ (Dup F 96 1 10 x y ∧ r = 0 ∧ fn2 = 3 ∧ fp2 = ta6) := by
  intro f
  induction f with
  | zero => intro u j _ _ _ h; exact h.elim
  | succ f ih =>
    intro u j hj hj2 hall h
    unfold R_x_isWeakLineX_L0 at h
    rcases h with ⟨h1, h⟩ | ⟨h1, r1, hr1, h⟩
    · rw [le_I, hq] at h1
      refine Or.inl ⟨?_, h⟩
      rintro ⟨k, k1, k2⟩
      exact hall k (by omega) k2
    · rw [le_I, hq] at h1
      obtain ⟨c1, c2⟩ := cw j (by omega)
      rw [w_at (C := 0) hj (by omega) (by decide) (by omega)] at hr1
      have hr1 : r1 = F (96 + 3 * j) := hr1.trans c1
      have go : ∀ z9 : Int32, u + Int32.ofInt 1 = z9 → ¬ (F (96 + 3 * j) = x ∧ F (96 + 3 * j + 1) = y) → R_x_isWeakLineX_L0 nmf ndn ndf qmd qtr qrn qrf qmn qmf qwn qwf qpn qpf qhnn qhnf qhtn qhtf qhjn qhjf qhmn qhmf qhbn qhbf qhsn qhsf qhcn qhcf fn2 fp2 kd2 sta2 po2 va2 le2 tk2 ta2 nmg ndg ndk qrg qmg qwg qpg qrk qmk qwk qpk qmd2 qtr2 qhng qhtg qhjg qhmg qhbg qhsg qhcg qhnk qhtk qhjk qhmk qhbk qhsk qhck r x kd6 sta6 po6 va6 le6 y ta6 κ f z9 → (¬ Dup F 96 1 10 x y ∧ κ) ∨ (Dup F 96 1 10 x y ∧ r = 0 ∧ fn2 = 3 ∧ fp2 = ta6) := by
        intro z9 h9 hno h
        rw [ofI1] at h9
        have e1 := inc1 (u := u) (z := z9) (a := 0) (b := 900) ⟨by omega, by omega⟩ (by omega) (by omega) h9.symm
        refine ih z9 (j + 1) (by omega) (by omega) (fun k hk => ?_) h
        by_cases q : k = j
        · subst q; exact hno
        · exact hall k (by omega)
      rcases h with ⟨h2, z9, h9, h⟩ | ⟨h2, r2, hr2, h⟩
      · exact go z9 h9 (fun q => h2 (hr1.trans q.1)) h
      · rw [w_at (C := 1) hj (by omega) (by decide) (by omega)] at hr2
        have hr2 : r2 = F (96 + 3 * j + 1) := hr2.trans c2
        rcases h with ⟨h3, z9, h9, h⟩ | ⟨h3, f1, p1, r3, ⟨b1, b2, b3⟩, h⟩
        · exact go z9 h9 (fun q => h3 (hr2.trans q.2)) h
        · have l1 := h.1
          have l2 := h.2.1
          have l37 := h.2.2.2.2.2.2.2.2.2.2.2.2.2.2.2.2.2.2.2.2.2.2.2.2.2.2.2.2.2.2.2.2.2.2.2.2
          exact Or.inr ⟨⟨j, by omega, hr1.symm.trans h2, hr2.symm.trans h3⟩, by rw [l37, b3], by rw [l1, b1], by rw [l2, b2]⟩
theorem qx_isWeakLine {tp ndf qrf qmf qwf qpf qhnf qhtf qhjf qhmf qhbf qhsf qhcf ndg qrg qmg qwg qpg qhng qhtg qhjg qhmg qhbg qhsg qhcg F T : Nat → Int32} {nmf nmg : Nat → Int64} {le le2 : Int64} {fn fp n kd sta po va tk ta ndn qmd qtr qrn qmn qwn qpn qhnn qhtn qhjn qhmn qhbn qhsn qhcn fn2 fp2 kd2 sta2 po2 va2 tk2 ta2 ndk qrk qmk qwk qpk qmd2 qtr2 qhnk qhtk qhjk qhmk qhbk qhsk qhck r a : Int32} (hn : IV n 0 900) (ht : TpR tp T) (hH : HRel F ndn nmf ndf qrn qrf qmn qmf qwn qwf qpn qhnn qhtn qhjn qhmn qhbn qhsn qhcn) (hV : HV F qrf qmf qwf qpf qhnf qhtf qhjf qhmf qhbf qhsf qhcf) (h15 : F 15 ≠ 0) (hs : XS T n a kd sta po va le) (h : R_x_isWeakLineX fn fp n kd sta po va le tk ta tp nmf ndn ndf qmd qtr qrn qrf qmn qmf qwn qwf qpn qpf qhnn qhnf qhtn qhtf qhjn qhjf qhmn qhmf qhbn qhbf qhsn qhsf qhcn qhcf fn2 fp2 kd2 sta2 po2 va2 le2 tk2 ta2 nmg ndg ndk qrg qmg qwg qpg qrk qmk qwk qpk qmd2 qtr2 qhng qhtg qhjg qhmg qhbg qhsg qhcg qhnk qhtk qhjk qhmk qhbk qhsk qhck r) : XF T n (bnd (opnS F T n (bcap 6 (F 10)) a) (weakS F T n)) fn fp r fn2 fp2 kd2 sta2 po2 va2 le2 (fun G => HRel G ndk nmg ndg qrk qrg qmk qmg qwk qwg qpk qhnk qhtk qhjk qhmk qhbk qhsk qhck ∧ HV G qrg qmg qwg qpg qhng qhtg qhjg qhmg qhbg qhsg qhcg) := by
  have hH0 := hH
  refine exA14 hH ?_
  clear hH
  intro zc1 zc2 zc3 c12 cb cr cm cw cN cd f1' f2' f3' g1' g2'
  refine exA1 zc1 ?_
  clear zc1
  intro a1 a2
  refine exA8 zc2 ?_
  clear zc2
  intro b1 b2 b3 b4 b5 b6 b7 b8 b9
  refine exA7 zc3 ?_
  clear zc3
  intro i6 i7 i8 i9 i10 i11 i13 i14
  have e8 : (8 : Int32).toInt = 8 := by decide
  have e6 : (6 : Int32).toInt = 6 := by decide
  rw [room_opn h15]
  unfold R_x_isWeakLineX at h
  refine exE8 h ?_
  clear h
  intro f1 g1 k1 s1 p1 v1 l1' r1 hh1 h
  rw [b5] at hh1
  have m1 := qx_room4 hn ht hs hh1
  skip
  cases hc1 : roomS T n 6 (F 10) a with
  | inl e =>
    rw [hc1] at m1
    refine exA2 (XL_l m1) ?_
    intro x1 x2 x3
    first | replace h := pf1 h x1 | replace h := pf2 h x1
    have l1 := h.1
    have l2 := h.2.1
    have l37 := h.2.2.2.2.2.2.2.2.2.2.2.2.2.2.2.2.2.2.2.2.2.2.2.2.2.2.2.2.2.2.2.2.2.2.2.2
    simp only [weakS, hc1, bnd]
    exact ⟨(by first | exact l37 | rw [l37, x1]), by rw [l1, x2], by rw [l2, x3]⟩
  | inr u1 =>
    rw [hc1] at m1
    refine exA3 (XL_r m1) ?_
    intro x1 yf1 yg1 xs1
    first | replace h := pk1 h x1 | replace h := pk2 h x1
    refine exE10 h ?_
    clear h
    intro f2 g2 k2 s2 p2 v2 l2' tk2 ta2 r2 hh2 h
    have m2 := qx_oldR hn ht cN xs1 hh2
    skip
    cases hc2 : reelP F T n u1 with
    | inl e =>
      rw [hc2] at m2
      refine exA2 (XV_l m2) ?_
      intro x1 x2 x3
      first | replace h := pf1 h x1 | replace h := pf2 h x1
      have l1 := h.1
      have l2 := h.2.1
      have l37 := h.2.2.2.2.2.2.2.2.2.2.2.2.2.2.2.2.2.2.2.2.2.2.2.2.2.2.2.2.2.2.2.2.2.2.2.2
      simp only [weakS, hc1, hc2, bnd]
      exact ⟨(by first | exact l37 | rw [l37, x1]), by rw [l1, x2], by rw [l2, x3]⟩
    | inr u2 =>
      rw [hc2] at m2
      refine exA5 (XV_r m2) ?_
      intro x1 yf2 yg2 yt2 ya2 xs2
      first | replace h := pk1 h x1 | replace h := pk2 h x1
      refine exE1 h ?_
      clear h
      intro rl hl h
      refine exE10 h ?_
      clear h
      intro f3 g3 k3 s3 p3 v3 l3' tk3 ta3 r3 hh3 h
      rw [yt2] at hl
      have el := last_of (reelP_inr hc2).1 (reelP_lt f1' hc2) cr hl
      rw [el] at hh3
      have m3 := qx_whole hn ht xs2 hh3
      cases hc3 : numS T n 0 (F (16 + 3 * u2.1.toInt.toNat) - 1) u2.2 with
      | inl e =>
        rw [hc3] at m3
        refine exA2 (XV_l m3) ?_
        intro x1 x2 x3
        have hcN := numS_l hc3
        first | replace h := pf1 h x1 | replace h := pf2 h x1
        have l1 := h.1
        have l2 := h.2.1
        have l37 := h.2.2.2.2.2.2.2.2.2.2.2.2.2.2.2.2.2.2.2.2.2.2.2.2.2.2.2.2.2.2.2.2.2.2.2.2
        simp only [weakS, hc1, hc2, hcN, bnd]
        exact ⟨(by first | exact l37 | rw [l37, x1]), by rw [l1, x2], by rw [l2, x3]⟩
      | inr u3 =>
        rw [hc3] at m3
        refine exA5 (XV_r m3) ?_
        intro x1 yf3 yg3 yt3 ya3 xs3
        obtain ⟨hcN, hc9⟩ := numS_r hc3
        first | replace h := pk1 h x1 | replace h := pk2 h x1
        obtain ⟨fm, h⟩ := h
        rw [yt2, yt3] at h
        have lt := (rm_inr hc1).1
        rcases weak_cl b5 i10 cw fm 0 0 (by decide) (by omega) (fun k hk => by omega) h with ⟨nd, h⟩ | ⟨nd, q1, q2, q3⟩
        case inr =>
          simp only [weakS, hc1, hc2, hcN, if_pos nd, bnd]
          exact ⟨q1, q2, by rw [q3, ya3]⟩
        rw [hc9] at xs3
        refine exE8 h ?_
        clear h
        intro f4 g4 k4 s4 p4 v4 l4' r4 hh4 h
        have m4 := qx_label hn ht wok_snaps xs3 hh4
        skip
        cases hc4 : labS T n "snaps" (nx T n u2.2) with
        | inl e =>
          rw [hc4] at m4
          refine exA2 (XL_l m4) ?_
          intro x1 x2 x3
          first | replace h := pf1 h x1 | replace h := pf2 h x1
          have l1 := h.1
          have l2 := h.2.1
          have l37 := h.2.2.2.2.2.2.2.2.2.2.2.2.2.2.2.2.2.2.2.2.2.2.2.2.2.2.2.2.2.2.2.2.2.2.2.2
          simp only [weakS, aft_def, hc1, hc2, hcN, if_neg nd, hc4, bnd]
          exact ⟨(by first | exact l37 | rw [l37, x1]), by rw [l1, x2], by rw [l2, x3]⟩
        | inr u4 =>
          rw [hc4] at m4
          refine exA3 (XL_r m4) ?_
          intro x1 yf4 yg4 xs4
          first | replace h := pk1 h x1 | replace h := pk2 h x1
          refine exE10 h ?_
          clear h
          intro f5 g5 k5 s5 p5 v5 l5' tk5 ta5 r5 hh5 h
          have m5 := qx_whole hn ht xs4 hh5
          skip
          cases hc5 : numS T n 1 99 u4 with
          | inl e =>
            rw [hc5] at m5
            refine exA2 (XV_l m5) ?_
            intro x1 x2 x3
            first | replace h := pf1 h x1 | replace h := pf2 h x1
            have l1 := h.1
            have l2 := h.2.1
            have l37 := h.2.2.2.2.2.2.2.2.2.2.2.2.2.2.2.2.2.2.2.2.2.2.2.2.2.2.2.2.2.2.2.2.2.2.2.2
            simp only [weakS, aft_def, hc1, hc2, hcN, if_neg nd, hc4, hc5, bnd]
            exact ⟨(by first | exact l37 | rw [l37, x1]), by rw [l1, x2], by rw [l2, x3]⟩
          | inr u5 =>
            rw [hc5] at m5
            refine exA5 (XV_r m5) ?_
            intro x1 yf5 yg5 yt5 ya5 xs5
            first | replace h := pk1 h x1 | replace h := pk2 h x1
            refine exE2 h ?_
            clear h
            intro gg kk hadd h
            refine exA36 h ?_
            intro l1 l2 l3 l4 l5 l6 l7 l8 l9 l10 l11 l12 l13 l14 l15 l16 l17 l18 l19 l20 l21 l22 l23 l24 l25 l26 l27 l28 l29 l30 l31 l32 l33 l34 l35 l36 l37
            obtain ⟨o1, o2⟩ := qt_add6_3 (by rw [b5]; exact ⟨by omega, by omega⟩) hadd
            simp only [weakS, aft_def, hc1, hc2, hcN, if_neg nd, hc4, hc5, if_neg nd, bnd]
            subst l3 l4 l5 l6 l7
            refine ⟨l37, by rw [l1, yf5, yf4, yf3, yf2, yf1], by rw [l2, yg5, yg4, yg3, yg2, yg1], xs5, ?_⟩
            have en := inc1 (u := F 10) (z := F 10 + 1) (a := 0) (b := 900) ⟨by omega, by omega⟩ (by omega) (by omega) rfl
            have K : ∀ i : Nat, (i ≠ 10 ∧ (i < 96 ∨ 113 < i)) → (upd (upd (upd (upd F (96 + 3 * (F 10).toInt.toNat) u2.1) (96 + 3 * (F 10).toInt.toNat + 1) u3.1) (96 + 3 * (F 10).toInt.toNat + 2) u5.1) 10 (F 10 + 1)) i = F i := by
              intro i q
              rw [upd_ne q.1, upd_ne (by omega), upd_ne (by omega), upd_ne (by omega)]
            have KX : (upd (upd (upd (upd F (96 + 3 * (F 10).toInt.toNat) u2.1) (96 + 3 * (F 10).toInt.toNat + 1) u3.1) (96 + 3 * (F 10).toInt.toNat + 2) u5.1) 10 (F 10 + 1)) 10 = F 10 + 1 := upd_at
            have KM : ∀ k : Nat, (k : Int) < (F 10).toInt + 1 → (upd (upd (upd (upd F (96 + 3 * (F 10).toInt.toNat) u2.1) (96 + 3 * (F 10).toInt.toNat + 1) u3.1) (96 + 3 * (F 10).toInt.toNat + 2) u5.1) 10 (F 10 + 1)) (96 + 3 * k) = (if k = (F 10).toInt.toNat then u2.1 else F (96 + 3 * k)) ∧ (upd (upd (upd (upd F (96 + 3 * (F 10).toInt.toNat) u2.1) (96 + 3 * (F 10).toInt.toNat + 1) u3.1) (96 + 3 * (F 10).toInt.toNat + 2) u5.1) 10 (F 10 + 1)) (96 + 3 * k + 1) = (if k = (F 10).toInt.toNat then u3.1 else F (96 + 3 * k + 1)) := by
              intro k hk
              by_cases q : k = (F 10).toInt.toNat
              · subst q
                rw [if_pos rfl, if_pos rfl]
                exact ⟨by rw [upd_ne (by omega), upd_ne (by omega), upd_ne (by omega), upd_at], by rw [upd_ne (by omega), upd_ne (by omega), upd_at]⟩
              · rw [if_neg q, if_neg q]
                exact ⟨by rw [upd_ne (by omega), upd_ne (by omega), upd_ne (by omega), upd_ne (by omega)], by rw [upd_ne (by omega), upd_ne (by omega), upd_ne (by omega), upd_ne (by omega)]⟩
            have hW := HV_weak (g := gg) (G := (upd (upd (upd (upd F (96 + 3 * (F 10).toInt.toNat) u2.1) (96 + 3 * (F 10).toInt.toNat + 1) u3.1) (96 + 3 * (F 10).toInt.toNat + 2) u5.1) 10 (F 10 + 1))) (m := (F 10).toInt.toNat) hV ⟨i6, i7, i8, i9, i10, i11, i13, i14⟩ c12 (by omega) (by have := (rm_inr hc1).1; omega) (by rw [upd_at, inc1 (u := F 10) (z := F 10 + 1) (a := 0) (b := 900) ⟨by omega, by omega⟩ (by omega) (by omega) rfl]; omega) (fun i q1 q2 q3 => by rw [upd_ne q2, upd_ne (by omega), upd_ne (by omega), upd_ne (by omega)]) (by rw [upd_ne (by omega), upd_ne (by omega), upd_ne (by omega), upd_at]) (by rw [upd_ne (by omega), upd_ne (by omega), upd_at]) (by rw [upd_ne (by omega), upd_at]) (by rw [o1, b5, yt5])
            rw [l10, l11, l12, l13, l14, l15, l16, l17, l18, l19, l20, l23, l24, l25, l26, l27, l28, l29, l30, l31, l32, l33, l34, l35, l36]
            generalize (upd (upd (upd (upd F (96 + 3 * (F 10).toInt.toNat) u2.1) (96 + 3 * (F 10).toInt.toNat + 1) u3.1) (96 + 3 * (F 10).toInt.toNat + 2) u5.1) 10 (F 10 + 1)) = G at *
            dsimp only
            rw [b5] at o1
            exact ⟨HG hH0 h15 (K 15 (by first | decide | omega)) (K 6 (by first | decide | omega)) (K 7 (by first | decide | omega)) (K 11 (by first | decide | omega)) (fun i q => K i (by omega)) (fun j q => K _ (by omega)) (by rw [K 8 (by first | decide | omega)]; exact i8) (by rw [K 9 (by first | decide | omega)]; exact i9) (by rw [KX]; exact ⟨by omega, by omega⟩) (by rw [K 12 (by first | decide | omega)]; exact c12) (by rw [K 13 (by first | decide | omega)]; exact i13) (by rw [K 14 (by first | decide | omega)]; exact i14) (by rw [K 8 (by first | decide | omega)]; exact b3) (by rw [K 9 (by first | decide | omega)]; exact b4) (by rw [KX, o2, b5]) (by rw [K 12 (by first | decide | omega)]; exact b7) (by rw [K 13 (by first | decide | omega)]; exact b8) (by rw [K 14 (by first | decide | omega)]; exact b9) (by rw [K 134 (by first | decide | omega)]; exact cb) (fun j q => by rw [K 8 (by first | decide | omega)] at q; rw [K _ (by omega), K _ (by omega)]; exact cm j q) (fun j q => by
              rw [KX, en] at q
              obtain ⟨t1, t2⟩ := KM j q
              rw [t1, t2, o1]
              by_cases qj : j = (F 10).toInt.toNat
              · subst qj
                rw [if_pos rfl, if_pos rfl]
                refine ⟨?_, ?_⟩
                · rw [upd_ne (by omega), upd_ne (by omega), show 3 * (F 10).toInt.toNat = (F 10).toInt.toNat * 3 + 0 by omega, upd_at]
                · rw [upd_ne (by omega), show 3 * (F 10).toInt.toNat + 1 = (F 10).toInt.toNat * 3 + 1 by omega, upd_at]
              · rw [if_neg qj, if_neg qj, upd_ne (by omega), upd_ne (by omega), upd_ne (by omega), upd_ne (by omega), upd_ne (by omega), upd_ne (by omega)]
                exact cw j (by omega)) (by rw [K 13 (by first | decide | omega), K 12 (by first | decide | omega)]; exact g2'), hW⟩

set_option maxRecDepth 100000
set_option maxHeartbeats 4000000
theorem qx_kind {T tp : Nat → Int32} {n a kd po va r : Int32} {le : Int64} (hn : IV n 0 900) (ht : TpR tp T) (ha : IV a 0 900) (hk : TokX T n a kd po va le) (h : R_x_kindOfManX kd a po tp r) : (IsW T n a "clean" ∧ r = 0) ∨ (¬ IsW T n a "clean" ∧ IsW T n a "early" ∧ r = 1) ∨ (¬ IsW T n a "clean" ∧ ¬ IsW T n a "early" ∧ IsW T n a "late" ∧ r = 2) ∨ (¬ IsW T n a "clean" ∧ ¬ IsW T n a "early" ∧ ¬ IsW T n a "late" ∧ IsW T n a "misled" ∧ r = 3) ∨ (¬ IsW T n a "clean" ∧ ¬ IsW T n a "early" ∧ ¬ IsW T n a "late" ∧ ¬ IsW T n a "misled" ∧ r = -1) := by
  simp only [R_x_kindOfManX] at h
  obtain ⟨r1, hr1, h⟩ := h
  rcases x_is_spec hn ha ht wok_clean hk hr1 with ⟨q1, c1⟩ | ⟨q1, c1⟩
  · have h := pk1 h q1; exact Or.inl ⟨c1, h⟩
  · have h := pf1 h q1
    obtain ⟨r2, hr2, h⟩ := h
    rcases x_is_spec hn ha ht wok_early hk hr2 with ⟨q2, c2⟩ | ⟨q2, c2⟩
    · have h := pk1 h q2; exact Or.inr (Or.inl ⟨c1, c2, h⟩)
    · have h := pf1 h q2
      obtain ⟨r3, hr3, h⟩ := h
      rcases x_is_spec hn ha ht wok_late hk hr3 with ⟨q3, c3⟩ | ⟨q3, c3⟩
      · have h := pk1 h q3; exact Or.inr (Or.inr (Or.inl ⟨c1, c2, c3, h⟩))
      · have h := pf1 h q3
        obtain ⟨r4, hr4, h⟩ := h
        rcases x_is_spec hn ha ht wok_misled hk hr4 with ⟨q4, c4⟩ | ⟨q4, c4⟩
        · have h := pk1 h q4; exact Or.inr (Or.inr (Or.inr (Or.inl ⟨c1, c2, c3, c4, h⟩)))
        · have h := pf1 h q4; exact Or.inr (Or.inr (Or.inr (Or.inr ⟨c1, c2, c3, c4, h⟩)))
theorem qx_isManLine {tp ndf qrf qmf qwf qpf qhnf qhtf qhjf qhmf qhbf qhsf qhcf ndg qrg qmg qwg qpg qhng qhtg qhjg qhmg qhbg qhsg qhcg F T : Nat → Int32} {nmf nmg : Nat → Int64} {le le2 : Int64} {fn fp n kd sta po va tk ta ndn qmd qtr qrn qmn qwn qpn qhnn qhtn qhjn qhmn qhbn qhsn qhcn fn2 fp2 kd2 sta2 po2 va2 tk2 ta2 ndk qrk qmk qwk qpk qmd2 qtr2 qhnk qhtk qhjk qhmk qhbk qhsk qhck r a : Int32} (hn : IV n 0 900) (ht : TpR tp T) (hH : HRel F ndn nmf ndf qrn qrf qmn qmf qwn qwf qpn qhnn qhtn qhjn qhmn qhbn qhsn qhcn) (hV : HV F qrf qmf qwf qpf qhnf qhtf qhjf qhmf qhbf qhsf qhcf) (h15 : F 15 ≠ 0) (hs : XS T n a kd sta po va le) (h : R_x_isManLineX fn fp n kd sta po va le tk ta tp nmf ndn ndf qmd qtr qrn qrf qmn qmf qwn qwf qpn qpf qhnn qhnf qhtn qhtf qhjn qhjf qhmn qhmf qhbn qhbf qhsn qhsf qhcn qhcf fn2 fp2 kd2 sta2 po2 va2 le2 tk2 ta2 nmg ndg ndk qrg qmg qwg qpg qrk qmk qwk qpk qmd2 qtr2 qhng qhtg qhjg qhmg qhbg qhsg qhcg qhnk qhtk qhjk qhmk qhbk qhsk qhck r) : XF T n (bnd (opnS F T n (bcap 4 (F 11)) a) (manS F T n)) fn fp r fn2 fp2 kd2 sta2 po2 va2 le2 (fun G => HRel G ndk nmg ndg qrk qrg qmk qmg qwk qwg qpk qhnk qhtk qhjk qhmk qhbk qhsk qhck ∧ HV G qrg qmg qwg qpg qhng qhtg qhjg qhmg qhbg qhsg qhcg) := by
  have hH0 := hH
  refine exA14 hH ?_
  clear hH
  intro zc1 zc2 zc3 c12 cb cr cm cw cN cd f1' f2' f3' g1' g2'
  refine exA1 zc1 ?_
  clear zc1
  intro a1 a2
  refine exA8 zc2 ?_
  clear zc2
  intro b1 b2 b3 b4 b5 b6 b7 b8 b9
  refine exA7 zc3 ?_
  clear zc3
  intro i6 i7 i8 i9 i10 i11 i13 i14
  have e8 : (8 : Int32).toInt = 8 := by decide
  have e6 : (6 : Int32).toInt = 6 := by decide
  have e4 : (4 : Int32).toInt = 4 := by decide
  rw [room_opn h15]
  unfold R_x_isManLineX at h
  refine exE8 h ?_
  clear h
  intro f1 g1 k1 s1 p1 v1 l1' r1 hh1 h
  rw [b6] at hh1
  have m1 := qx_room5 hn ht hs hh1
  skip
  cases hc1 : roomS T n 4 (F 11) a with
  | inl e =>
    rw [hc1] at m1
    refine exA2 (XL_l m1) ?_
    intro x1 x2 x3
    first | replace h := pf1 h x1 | replace h := pf2 h x1
    have l1 := h.1
    have l2 := h.2.1
    have l37 := h.2.2.2.2.2.2.2.2.2.2.2.2.2.2.2.2.2.2.2.2.2.2.2.2.2.2.2.2.2.2.2.2.2.2.2.2
    simp only [manS, hc1, bnd]
    exact ⟨(by first | exact l37 | rw [l37, x1]), by rw [l1, x2], by rw [l2, x3]⟩
  | inr u1 =>
    rw [hc1] at m1
    refine exA3 (XL_r m1) ?_
    intro x1 yf1 yg1 xs1
    first | replace h := pk1 h x1 | replace h := pk2 h x1
    refine exE11 h ?_
    clear h
    intro f2 g2 k2 s2 p2 v2 l2' nm2 nd2 nk2 r2 hh2 h
    rw [b6] at hh2
    have m2 := qx_new hn ht cN (by have := (rm_inr hc1).1; omega) (Or.inr (Or.inr ⟨rfl, ⟨by omega, by have := (rm_inr hc1).1; omega⟩⟩)) (by rw [slot2, show 167 + (12 + (F 11).toInt.toNat) = 179 + (F 11).toInt.toNat by omega]; exact f3' _ (by have := (rm_inr hc1).1; omega) (by omega)) xs1 hh2
    rw [slot2] at m2
    cases hc2 : newS F T n (12 + (F 11).toInt.toNat) u1 with
    | inl e =>
      rw [hc2] at m2
      refine exA2 (XN_l m2) ?_
      intro x1 x2 x3
      first | replace h := pf1 h x1 | replace h := pf2 h x1
      have l1 := h.1
      have l2 := h.2.1
      have l37 := h.2.2.2.2.2.2.2.2.2.2.2.2.2.2.2.2.2.2.2.2.2.2.2.2.2.2.2.2.2.2.2.2.2.2.2.2
      simp only [manS, hc1, hc2, bnd]
      exact ⟨(by first | exact l37 | rw [l37, x1]), by rw [l1, x2], by rw [l2, x3]⟩
    | inr u2 =>
      rw [hc2] at m2
      refine exA5 (XN_r m2) ?_
      intro x1 yf2 yg2 yN2 yk2 xs2
      first | replace h := pk1 h x1 | replace h := pk2 h x1
      obtain ⟨w1, w2⟩ := new_inr hc2
      have yN2w := yN2
      rw [w1] at yN2w
      have lt := (rm_inr hc1).1
      obtain ⟨rk, hrk, h⟩ := h
      obtain ⟨t1, t2, t3⟩ := xs2
      subst t1
      have xs2 : XS T n u2.2 k2 u2.2 p2 v2 l2' := ⟨rfl, t2, t3⟩
      rcases qx_kind hn ht t2 t3 hrk with hkd | hkd | hkd | hkd | hkd
      · have c0 : rk = 0 := hkd.2
        have c1 := hkd.1
        rcases h with ⟨-, h⟩ | ⟨q, -⟩
        case inr => rw [c0] at q; exact absurd (by decide) q
        refine exE5 h ?_
        clear h
        intro kx sx_ px vx_ lx hx h
        have xs3 := x_next_at hn ht xs2 hx
        rcases h with ⟨-, h⟩ | ⟨q, -⟩
        case inr => rw [c0] at q; exact absurd q (by decide)
        refine exE8 h ?_
        clear h
        intro f4 g4 k4 s4 p4 v4 l4' r4 hh4 h
        have m4 := qx_label hn ht wok_slip xs3 hh4
        skip
        cases hc4 : labS T n "slip" (nx T n u2.2) with
        | inl e =>
          rw [hc4] at m4
          refine exA2 (XL_l m4) ?_
          intro x1 x2 x3
          first | replace h := pf1 h x1 | replace h := pf2 h x1
          have l1 := h.1
          have l2 := h.2.1
          have l37 := h.2.2.2.2.2.2.2.2.2.2.2.2.2.2.2.2.2.2.2.2.2.2.2.2.2.2.2.2.2.2.2.2.2.2.2.2
          simp only [manS, manE, aft_def, hc1, hc2, if_pos c1, hc4, bnd]
          exact ⟨(by first | exact l37 | rw [l37, x1]), by rw [l1, x2], by rw [l2, x3]⟩
        | inr u4 =>
          rw [hc4] at m4
          refine exA3 (XL_r m4) ?_
          intro x1 yf4 yg4 xs4
          first | replace h := pk1 h x1 | replace h := pk2 h x1
          refine exE10 h ?_
          clear h
          intro f5 g5 k5 s5 p5 v5 l5' tk5 ta5 r5 hh5 h
          have m5 := qx_whole hn ht xs4 hh5
          skip
          cases hc5 : numS T n 0 40 u4 with
          | inl e =>
            rw [hc5] at m5
            refine exA2 (XV_l m5) ?_
            intro x1 x2 x3
            first | replace h := pf1 h x1 | replace h := pf2 h x1
            have l1 := h.1
            have l2 := h.2.1
            have l37 := h.2.2.2.2.2.2.2.2.2.2.2.2.2.2.2.2.2.2.2.2.2.2.2.2.2.2.2.2.2.2.2.2.2.2.2.2
            simp only [manS, manE, aft_def, hc1, hc2, if_pos c1, hc4, hc5, bnd]
            exact ⟨(by first | exact l37 | rw [l37, x1]), by rw [l1, x2], by rw [l2, x3]⟩
          | inr u5 =>
            rw [hc5] at m5
            refine exA5 (XV_r m5) ?_
            intro x1 yf5 yg5 yt5 ya5 xs5
            first | replace h := pk1 h x1 | replace h := pk2 h x1
            refine exE2 h ?_
            clear h
            intro gg kk hadd h
            refine exA36 h ?_
            intro l1 l2 l3 l4 l5 l6 l7 l8 l9 l10 l11 l12 l13 l14 l15 l16 l17 l18 l19 l20 l21 l22 l23 l24 l25 l26 l27 l28 l29 l30 l31 l32 l33 l34 l35 l36 l37
            obtain ⟨o1, o2⟩ := qt_add4_3 (by rw [b6]; exact ⟨by omega, by omega⟩) hadd
            simp only [manS, manE, aft_def, hc1, hc2, if_pos c1, hc4, hc5, bnd]
            subst l3 l4 l5 l6 l7
            refine ⟨l37, by rw [l1, yf5, yf4, yf2, yf1], by rw [l2, yg5, yg4, yg2, yg1], xs5, ?_⟩
            rw [w1]
            have K : ∀ i : Nat, i < 167 → i ≠ 11 → (i < 114 ∨ 125 < i) → (upd (upd (upd (upd (wrN F T n u1 (12 + (F 11).toInt.toNat)) (114 + 3 * (F 11).toInt.toNat) 0) (114 + 3 * (F 11).toInt.toNat + 1) 0) (114 + 3 * (F 11).toInt.toNat + 2) u5.1) 11 (F 11 + 1)) i = F i := by
              intro i q1 q2 q3
              rw [upd_ne q2, upd_ne (by omega), upd_ne (by omega), upd_ne (by omega), wrN_lt q1]
            have KX : (upd (upd (upd (upd (wrN F T n u1 (12 + (F 11).toInt.toNat)) (114 + 3 * (F 11).toInt.toNat) 0) (114 + 3 * (F 11).toInt.toNat + 1) 0) (114 + 3 * (F 11).toInt.toNat + 2) u5.1) 11 (F 11 + 1)) 11 = F 11 + 1 := upd_at
            have KH : ∀ i : Nat, 167 ≤ i → (upd (upd (upd (upd (wrN F T n u1 (12 + (F 11).toInt.toNat)) (114 + 3 * (F 11).toInt.toNat) 0) (114 + 3 * (F 11).toInt.toNat + 1) 0) (114 + 3 * (F 11).toInt.toNat + 2) u5.1) 11 (F 11 + 1)) i = wrN F T n u1 (12 + (F 11).toInt.toNat) i := by
              intro i q1
              rw [upd_ne (by omega), upd_ne (by omega), upd_ne (by omega), upd_ne (by omega)]
            have hW := HV_man (g := gg) (G := (upd (upd (upd (upd (wrN F T n u1 (12 + (F 11).toInt.toNat)) (114 + 3 * (F 11).toInt.toNat) 0) (114 + 3 * (F 11).toInt.toNat + 1) 0) (114 + 3 * (F 11).toInt.toNat + 2) u5.1) 11 (F 11 + 1))) (m := (F 11).toInt.toNat) hV ⟨i6, i7, i8, i9, i10, i11, i13, i14⟩ c12 (by omega) (by have := (rm_inr hc1).1; omega) (by rw [upd_at, inc1 (u := F 11) (z := F 11 + 1) (a := 0) (b := 900) ⟨by omega, by omega⟩ (by omega) (by omega) rfl]; omega) (fun i q1 q2 q3 => by rw [upd_ne q2, upd_ne (by omega), upd_ne (by omega), upd_ne (by omega), wrN_lt q1]) (by rw [upd_ne (by omega), upd_ne (by omega), upd_ne (by omega), upd_at]) (by rw [upd_ne (by omega), upd_ne (by omega), upd_at]) (by rw [upd_ne (by omega), upd_at]) (fun z => absurd z (by decide)) (by rw [o1, b6, yt5, c0])
            rw [l10, l11, l12, l13, l14, l15, l16, l17, l18, l19, l20, l23, l24, l25, l26, l27, l28, l29, l30, l31, l32, l33, l34, l35, l36]
            generalize (upd (upd (upd (upd (wrN F T n u1 (12 + (F 11).toInt.toNat)) (114 + 3 * (F 11).toInt.toNat) 0) (114 + 3 * (F 11).toInt.toNat + 1) 0) (114 + 3 * (F 11).toInt.toNat + 2) u5.1) 11 (F 11 + 1)) = G at *
            dsimp only
            exact ⟨HRel_man hH0 h15 (by omega) yN2w yk2 o2 K KX KH, hW⟩
      · have c0 : rk = 1 := hkd.2.2
        have c1 := hkd.1
        have c2 := hkd.2.1
        rcases h with ⟨-, h⟩ | ⟨q, -⟩
        case inr => rw [c0] at q; exact absurd (by decide) q
        refine exE5 h ?_
        clear h
        intro kx sx_ px vx_ lx hx h
        have xs3 := x_next_at hn ht xs2 hx
        rcases h with ⟨-, h⟩ | ⟨q, -⟩
        case inr => rw [c0] at q; exact absurd q (by decide)
        refine exE8 h ?_
        clear h
        intro f4 g4 k4 s4 p4 v4 l4' r4 hh4 h
        have m4 := qx_label hn ht wok_slip xs3 hh4
        skip
        cases hc4 : labS T n "slip" (nx T n u2.2) with
        | inl e =>
          rw [hc4] at m4
          refine exA2 (XL_l m4) ?_
          intro x1 x2 x3
          first | replace h := pf1 h x1 | replace h := pf2 h x1
          have l1 := h.1
          have l2 := h.2.1
          have l37 := h.2.2.2.2.2.2.2.2.2.2.2.2.2.2.2.2.2.2.2.2.2.2.2.2.2.2.2.2.2.2.2.2.2.2.2.2
          simp only [manS, manE, aft_def, hc1, hc2, if_neg c1, if_pos c2, hc4, bnd]
          exact ⟨(by first | exact l37 | rw [l37, x1]), by rw [l1, x2], by rw [l2, x3]⟩
        | inr u4 =>
          rw [hc4] at m4
          refine exA3 (XL_r m4) ?_
          intro x1 yf4 yg4 xs4
          first | replace h := pk1 h x1 | replace h := pk2 h x1
          refine exE10 h ?_
          clear h
          intro f5 g5 k5 s5 p5 v5 l5' tk5 ta5 r5 hh5 h
          have m5 := qx_whole hn ht xs4 hh5
          skip
          cases hc5 : numS T n 0 40 u4 with
          | inl e =>
            rw [hc5] at m5
            refine exA2 (XV_l m5) ?_
            intro x1 x2 x3
            first | replace h := pf1 h x1 | replace h := pf2 h x1
            have l1 := h.1
            have l2 := h.2.1
            have l37 := h.2.2.2.2.2.2.2.2.2.2.2.2.2.2.2.2.2.2.2.2.2.2.2.2.2.2.2.2.2.2.2.2.2.2.2.2
            simp only [manS, manE, aft_def, hc1, hc2, if_neg c1, if_pos c2, hc4, hc5, bnd]
            exact ⟨(by first | exact l37 | rw [l37, x1]), by rw [l1, x2], by rw [l2, x3]⟩
          | inr u5 =>
            rw [hc5] at m5
            refine exA5 (XV_r m5) ?_
            intro x1 yf5 yg5 yt5 ya5 xs5
            first | replace h := pk1 h x1 | replace h := pk2 h x1
            refine exE2 h ?_
            clear h
            intro gg kk hadd h
            refine exA36 h ?_
            intro l1 l2 l3 l4 l5 l6 l7 l8 l9 l10 l11 l12 l13 l14 l15 l16 l17 l18 l19 l20 l21 l22 l23 l24 l25 l26 l27 l28 l29 l30 l31 l32 l33 l34 l35 l36 l37
            obtain ⟨o1, o2⟩ := qt_add4_3 (by rw [b6]; exact ⟨by omega, by omega⟩) hadd
            simp only [manS, manE, aft_def, hc1, hc2, if_neg c1, if_pos c2, hc4, hc5, bnd]
            subst l3 l4 l5 l6 l7
            refine ⟨l37, by rw [l1, yf5, yf4, yf2, yf1], by rw [l2, yg5, yg4, yg2, yg1], xs5, ?_⟩
            rw [w1]
            have K : ∀ i : Nat, i < 167 → i ≠ 11 → (i < 114 ∨ 125 < i) → (upd (upd (upd (upd (wrN F T n u1 (12 + (F 11).toInt.toNat)) (114 + 3 * (F 11).toInt.toNat) 1) (114 + 3 * (F 11).toInt.toNat + 1) 0) (114 + 3 * (F 11).toInt.toNat + 2) u5.1) 11 (F 11 + 1)) i = F i := by
              intro i q1 q2 q3
              rw [upd_ne q2, upd_ne (by omega), upd_ne (by omega), upd_ne (by omega), wrN_lt q1]
            have KX : (upd (upd (upd (upd (wrN F T n u1 (12 + (F 11).toInt.toNat)) (114 + 3 * (F 11).toInt.toNat) 1) (114 + 3 * (F 11).toInt.toNat + 1) 0) (114 + 3 * (F 11).toInt.toNat + 2) u5.1) 11 (F 11 + 1)) 11 = F 11 + 1 := upd_at
            have KH : ∀ i : Nat, 167 ≤ i → (upd (upd (upd (upd (wrN F T n u1 (12 + (F 11).toInt.toNat)) (114 + 3 * (F 11).toInt.toNat) 1) (114 + 3 * (F 11).toInt.toNat + 1) 0) (114 + 3 * (F 11).toInt.toNat + 2) u5.1) 11 (F 11 + 1)) i = wrN F T n u1 (12 + (F 11).toInt.toNat) i := by
              intro i q1
              rw [upd_ne (by omega), upd_ne (by omega), upd_ne (by omega), upd_ne (by omega)]
            have hW := HV_man (g := gg) (G := (upd (upd (upd (upd (wrN F T n u1 (12 + (F 11).toInt.toNat)) (114 + 3 * (F 11).toInt.toNat) 1) (114 + 3 * (F 11).toInt.toNat + 1) 0) (114 + 3 * (F 11).toInt.toNat + 2) u5.1) 11 (F 11 + 1))) (m := (F 11).toInt.toNat) hV ⟨i6, i7, i8, i9, i10, i11, i13, i14⟩ c12 (by omega) (by have := (rm_inr hc1).1; omega) (by rw [upd_at, inc1 (u := F 11) (z := F 11 + 1) (a := 0) (b := 900) ⟨by omega, by omega⟩ (by omega) (by omega) rfl]; omega) (fun i q1 q2 q3 => by rw [upd_ne q2, upd_ne (by omega), upd_ne (by omega), upd_ne (by omega), wrN_lt q1]) (by rw [upd_ne (by omega), upd_ne (by omega), upd_ne (by omega), upd_at]) (by rw [upd_ne (by omega), upd_ne (by omega), upd_at]) (by rw [upd_ne (by omega), upd_at]) (fun z => absurd z (by decide)) (by rw [o1, b6, yt5, c0])
            rw [l10, l11, l12, l13, l14, l15, l16, l17, l18, l19, l20, l23, l24, l25, l26, l27, l28, l29, l30, l31, l32, l33, l34, l35, l36]
            generalize (upd (upd (upd (upd (wrN F T n u1 (12 + (F 11).toInt.toNat)) (114 + 3 * (F 11).toInt.toNat) 1) (114 + 3 * (F 11).toInt.toNat + 1) 0) (114 + 3 * (F 11).toInt.toNat + 2) u5.1) 11 (F 11 + 1)) = G at *
            dsimp only
            exact ⟨HRel_man hH0 h15 (by omega) yN2w yk2 o2 K KX KH, hW⟩
      · have c0 : rk = 2 := hkd.2.2.2
        have c1 := hkd.1
        have c2 := hkd.2.1
        have c3 := hkd.2.2.1
        rcases h with ⟨-, h⟩ | ⟨q, -⟩
        case inr => rw [c0] at q; exact absurd (by decide) q
        refine exE5 h ?_
        clear h
        intro kx sx_ px vx_ lx hx h
        have xs3 := x_next_at hn ht xs2 hx
        rcases h with ⟨-, h⟩ | ⟨q, -⟩
        case inr => rw [c0] at q; exact absurd q (by decide)
        refine exE8 h ?_
        clear h
        intro f4 g4 k4 s4 p4 v4 l4' r4 hh4 h
        have m4 := qx_label hn ht wok_slip xs3 hh4
        skip
        cases hc4 : labS T n "slip" (nx T n u2.2) with
        | inl e =>
          rw [hc4] at m4
          refine exA2 (XL_l m4) ?_
          intro x1 x2 x3
          first | replace h := pf1 h x1 | replace h := pf2 h x1
          have l1 := h.1
          have l2 := h.2.1
          have l37 := h.2.2.2.2.2.2.2.2.2.2.2.2.2.2.2.2.2.2.2.2.2.2.2.2.2.2.2.2.2.2.2.2.2.2.2.2
          simp only [manS, manE, aft_def, hc1, hc2, if_neg c1, if_neg c2, if_pos c3, hc4, bnd]
          exact ⟨(by first | exact l37 | rw [l37, x1]), by rw [l1, x2], by rw [l2, x3]⟩
        | inr u4 =>
          rw [hc4] at m4
          refine exA3 (XL_r m4) ?_
          intro x1 yf4 yg4 xs4
          first | replace h := pk1 h x1 | replace h := pk2 h x1
          refine exE10 h ?_
          clear h
          intro f5 g5 k5 s5 p5 v5 l5' tk5 ta5 r5 hh5 h
          have m5 := qx_whole hn ht xs4 hh5
          skip
          cases hc5 : numS T n 0 40 u4 with
          | inl e =>
            rw [hc5] at m5
            refine exA2 (XV_l m5) ?_
            intro x1 x2 x3
            first | replace h := pf1 h x1 | replace h := pf2 h x1
            have l1 := h.1
            have l2 := h.2.1
            have l37 := h.2.2.2.2.2.2.2.2.2.2.2.2.2.2.2.2.2.2.2.2.2.2.2.2.2.2.2.2.2.2.2.2.2.2.2.2
            simp only [manS, manE, aft_def, hc1, hc2, if_neg c1, if_neg c2, if_pos c3, hc4, hc5, bnd]
            exact ⟨(by first | exact l37 | rw [l37, x1]), by rw [l1, x2], by rw [l2, x3]⟩
          | inr u5 =>
            rw [hc5] at m5
            refine exA5 (XV_r m5) ?_
            intro x1 yf5 yg5 yt5 ya5 xs5
            first | replace h := pk1 h x1 | replace h := pk2 h x1
            refine exE2 h ?_
            clear h
            intro gg kk hadd h
            refine exA36 h ?_
            intro l1 l2 l3 l4 l5 l6 l7 l8 l9 l10 l11 l12 l13 l14 l15 l16 l17 l18 l19 l20 l21 l22 l23 l24 l25 l26 l27 l28 l29 l30 l31 l32 l33 l34 l35 l36 l37
            obtain ⟨o1, o2⟩ := qt_add4_3 (by rw [b6]; exact ⟨by omega, by omega⟩) hadd
            simp only [manS, manE, aft_def, hc1, hc2, if_neg c1, if_neg c2, if_pos c3, hc4, hc5, bnd]
            subst l3 l4 l5 l6 l7
            refine ⟨l37, by rw [l1, yf5, yf4, yf2, yf1], by rw [l2, yg5, yg4, yg2, yg1], xs5, ?_⟩
            rw [w1]
            have K : ∀ i : Nat, i < 167 → i ≠ 11 → (i < 114 ∨ 125 < i) → (upd (upd (upd (upd (wrN F T n u1 (12 + (F 11).toInt.toNat)) (114 + 3 * (F 11).toInt.toNat) 2) (114 + 3 * (F 11).toInt.toNat + 1) 0) (114 + 3 * (F 11).toInt.toNat + 2) u5.1) 11 (F 11 + 1)) i = F i := by
              intro i q1 q2 q3
              rw [upd_ne q2, upd_ne (by omega), upd_ne (by omega), upd_ne (by omega), wrN_lt q1]
            have KX : (upd (upd (upd (upd (wrN F T n u1 (12 + (F 11).toInt.toNat)) (114 + 3 * (F 11).toInt.toNat) 2) (114 + 3 * (F 11).toInt.toNat + 1) 0) (114 + 3 * (F 11).toInt.toNat + 2) u5.1) 11 (F 11 + 1)) 11 = F 11 + 1 := upd_at
            have KH : ∀ i : Nat, 167 ≤ i → (upd (upd (upd (upd (wrN F T n u1 (12 + (F 11).toInt.toNat)) (114 + 3 * (F 11).toInt.toNat) 2) (114 + 3 * (F 11).toInt.toNat + 1) 0) (114 + 3 * (F 11).toInt.toNat + 2) u5.1) 11 (F 11 + 1)) i = wrN F T n u1 (12 + (F 11).toInt.toNat) i := by
              intro i q1
              rw [upd_ne (by omega), upd_ne (by omega), upd_ne (by omega), upd_ne (by omega)]
            have hW := HV_man (g := gg) (G := (upd (upd (upd (upd (wrN F T n u1 (12 + (F 11).toInt.toNat)) (114 + 3 * (F 11).toInt.toNat) 2) (114 + 3 * (F 11).toInt.toNat + 1) 0) (114 + 3 * (F 11).toInt.toNat + 2) u5.1) 11 (F 11 + 1))) (m := (F 11).toInt.toNat) hV ⟨i6, i7, i8, i9, i10, i11, i13, i14⟩ c12 (by omega) (by have := (rm_inr hc1).1; omega) (by rw [upd_at, inc1 (u := F 11) (z := F 11 + 1) (a := 0) (b := 900) ⟨by omega, by omega⟩ (by omega) (by omega) rfl]; omega) (fun i q1 q2 q3 => by rw [upd_ne q2, upd_ne (by omega), upd_ne (by omega), upd_ne (by omega), wrN_lt q1]) (by rw [upd_ne (by omega), upd_ne (by omega), upd_ne (by omega), upd_at]) (by rw [upd_ne (by omega), upd_ne (by omega), upd_at]) (by rw [upd_ne (by omega), upd_at]) (fun z => absurd z (by decide)) (by rw [o1, b6, yt5, c0])
            rw [l10, l11, l12, l13, l14, l15, l16, l17, l18, l19, l20, l23, l24, l25, l26, l27, l28, l29, l30, l31, l32, l33, l34, l35, l36]
            generalize (upd (upd (upd (upd (wrN F T n u1 (12 + (F 11).toInt.toNat)) (114 + 3 * (F 11).toInt.toNat) 2) (114 + 3 * (F 11).toInt.toNat + 1) 0) (114 + 3 * (F 11).toInt.toNat + 2) u5.1) 11 (F 11 + 1)) = G at *
            dsimp only
            exact ⟨HRel_man hH0 h15 (by omega) yN2w yk2 o2 K KX KH, hW⟩
      · have c0 : rk = 3 := hkd.2.2.2.2
        have c1 := hkd.1
        have c2 := hkd.2.1
        have c3 := hkd.2.2.1
        have c4 := hkd.2.2.2.1
        rcases h with ⟨-, h⟩ | ⟨q, -⟩
        case inr => rw [c0] at q; exact absurd (by decide) q
        refine exE5 h ?_
        clear h
        intro kx sx_ px vx_ lx hx h
        have xs3 := x_next_at hn ht xs2 hx
        rcases h with ⟨q, -⟩ | ⟨-, h⟩
        case inl => exact absurd c0 q
        refine exE10 h ?_
        clear h
        intro f3 g3 k3 s3 p3 v3 l3' tk3 ta3 r3 hh3 h
        have m3 := qx_oldT hn ht yN2 xs3 hh3
        cases hc3 : townP u2.1 T n (nx T n u2.2) with
        | inl e =>
          rw [hc3] at m3
          refine exA2 (XV_l m3) ?_
          intro x1 x2 x3
          have hcT := townP_l hc3
          first | replace h := pf1 h x1 | replace h := pf2 h x1
          have l1 := h.1
          have l2 := h.2.1
          have l37 := h.2.2.2.2.2.2.2.2.2.2.2.2.2.2.2.2.2.2.2.2.2.2.2.2.2.2.2.2.2.2.2.2.2.2.2.2
          simp only [manS, hc1, hc2, if_neg c1, if_neg c2, if_neg c3, if_pos c4, hcT, bnd]
          exact ⟨(by first | exact l37 | rw [l37, x1]), by rw [l1, x2], by rw [l2, x3]⟩
        | inr u3 =>
          rw [hc3] at m3
          refine exA5 (XV_r m3) ?_
          intro x1 yf3 yg3 yt3 ya3 xs4
          obtain ⟨hcT, hcU⟩ := townP_r hc3
          rw [hcU] at xs4
          first | replace h := pk1 h x1 | replace h := pk2 h x1
          refine exE8 h ?_
          clear h
          intro f4 g4 k4 s4 p4 v4 l4' r4 hh4 h
          have m4 := qx_label hn ht wok_slip xs4 hh4
          skip
          cases hc4 : labS T n "slip" (nx T n (nx T n u2.2)) with
          | inl e =>
            rw [hc4] at m4
            refine exA2 (XL_l m4) ?_
            intro x1 x2 x3
            first | replace h := pf1 h x1 | replace h := pf2 h x1
            have l1 := h.1
            have l2 := h.2.1
            have l37 := h.2.2.2.2.2.2.2.2.2.2.2.2.2.2.2.2.2.2.2.2.2.2.2.2.2.2.2.2.2.2.2.2.2.2.2.2
            simp only [manS, manE, aft_def, hc1, hc2, if_neg c1, if_neg c2, if_neg c3, if_pos c4, hcT, hc4, bnd]
            exact ⟨(by first | exact l37 | rw [l37, x1]), by rw [l1, x2], by rw [l2, x3]⟩
          | inr u4 =>
            rw [hc4] at m4
            refine exA3 (XL_r m4) ?_
            intro x1 yf4 yg4 xs4
            first | replace h := pk1 h x1 | replace h := pk2 h x1
            refine exE10 h ?_
            clear h
            intro f5 g5 k5 s5 p5 v5 l5' tk5 ta5 r5 hh5 h
            have m5 := qx_whole hn ht xs4 hh5
            skip
            cases hc5 : numS T n 0 40 u4 with
            | inl e =>
              rw [hc5] at m5
              refine exA2 (XV_l m5) ?_
              intro x1 x2 x3
              first | replace h := pf1 h x1 | replace h := pf2 h x1
              have l1 := h.1
              have l2 := h.2.1
              have l37 := h.2.2.2.2.2.2.2.2.2.2.2.2.2.2.2.2.2.2.2.2.2.2.2.2.2.2.2.2.2.2.2.2.2.2.2.2
              simp only [manS, manE, aft_def, hc1, hc2, if_neg c1, if_neg c2, if_neg c3, if_pos c4, hcT, hc4, hc5, bnd]
              exact ⟨(by first | exact l37 | rw [l37, x1]), by rw [l1, x2], by rw [l2, x3]⟩
            | inr u5 =>
              rw [hc5] at m5
              refine exA5 (XV_r m5) ?_
              intro x1 yf5 yg5 yt5 ya5 xs5
              first | replace h := pk1 h x1 | replace h := pk2 h x1
              refine exE2 h ?_
              clear h
              intro gg kk hadd h
              refine exA36 h ?_
              intro l1 l2 l3 l4 l5 l6 l7 l8 l9 l10 l11 l12 l13 l14 l15 l16 l17 l18 l19 l20 l21 l22 l23 l24 l25 l26 l27 l28 l29 l30 l31 l32 l33 l34 l35 l36 l37
              obtain ⟨o1, o2⟩ := qt_add4_3 (by rw [b6]; exact ⟨by omega, by omega⟩) hadd
              simp only [manS, manE, aft_def, hc1, hc2, if_neg c1, if_neg c2, if_neg c3, if_pos c4, hcT, hc4, hc5, bnd]
              subst l3 l4 l5 l6 l7
              refine ⟨l37, by rw [l1, yf5, yf4, yf3, yf2, yf1], by rw [l2, yg5, yg4, yg3, yg2, yg1], xs5, ?_⟩
              rw [w1]
              have K : ∀ i : Nat, i < 167 → i ≠ 11 → (i < 114 ∨ 125 < i) → (upd (upd (upd (upd (wrN F T n u1 (12 + (F 11).toInt.toNat)) (114 + 3 * (F 11).toInt.toNat) 3) (114 + 3 * (F 11).toInt.toNat + 1) u3.1) (114 + 3 * (F 11).toInt.toNat + 2) u5.1) 11 (F 11 + 1)) i = F i := by
                intro i q1 q2 q3
                rw [upd_ne q2, upd_ne (by omega), upd_ne (by omega), upd_ne (by omega), wrN_lt q1]
              have KX : (upd (upd (upd (upd (wrN F T n u1 (12 + (F 11).toInt.toNat)) (114 + 3 * (F 11).toInt.toNat) 3) (114 + 3 * (F 11).toInt.toNat + 1) u3.1) (114 + 3 * (F 11).toInt.toNat + 2) u5.1) 11 (F 11 + 1)) 11 = F 11 + 1 := upd_at
              have KH : ∀ i : Nat, 167 ≤ i → (upd (upd (upd (upd (wrN F T n u1 (12 + (F 11).toInt.toNat)) (114 + 3 * (F 11).toInt.toNat) 3) (114 + 3 * (F 11).toInt.toNat + 1) u3.1) (114 + 3 * (F 11).toInt.toNat + 2) u5.1) 11 (F 11 + 1)) i = wrN F T n u1 (12 + (F 11).toInt.toNat) i := by
                intro i q1
                rw [upd_ne (by omega), upd_ne (by omega), upd_ne (by omega), upd_ne (by omega)]
              have hW := HV_man (g := gg) (G := (upd (upd (upd (upd (wrN F T n u1 (12 + (F 11).toInt.toNat)) (114 + 3 * (F 11).toInt.toNat) 3) (114 + 3 * (F 11).toInt.toNat + 1) u3.1) (114 + 3 * (F 11).toInt.toNat + 2) u5.1) 11 (F 11 + 1))) (m := (F 11).toInt.toNat) hV ⟨i6, i7, i8, i9, i10, i11, i13, i14⟩ c12 (by omega) (by have := (rm_inr hc1).1; omega) (by rw [upd_at, inc1 (u := F 11) (z := F 11 + 1) (a := 0) (b := 900) ⟨by omega, by omega⟩ (by omega) (by omega) rfl]; omega) (fun i q1 q2 q3 => by rw [upd_ne q2, upd_ne (by omega), upd_ne (by omega), upd_ne (by omega), wrN_lt q1]) (by rw [upd_ne (by omega), upd_ne (by omega), upd_ne (by omega), upd_at]) (by rw [upd_ne (by omega), upd_ne (by omega), upd_at]) (by rw [upd_ne (by omega), upd_at]) (fun _ => rfl) (by rw [o1, b6, yt5, yt3, c0])
              rw [l10, l11, l12, l13, l14, l15, l16, l17, l18, l19, l20, l23, l24, l25, l26, l27, l28, l29, l30, l31, l32, l33, l34, l35, l36]
              generalize (upd (upd (upd (upd (wrN F T n u1 (12 + (F 11).toInt.toNat)) (114 + 3 * (F 11).toInt.toNat) 3) (114 + 3 * (F 11).toInt.toNat + 1) u3.1) (114 + 3 * (F 11).toInt.toNat + 2) u5.1) 11 (F 11 + 1)) = G at *
              dsimp only
              exact ⟨HRel_man hH0 h15 (by omega) yN2w yk2 o2 K KX KH, hW⟩
      · have c0 : rk = -1 := hkd.2.2.2.2
        have c1 := hkd.1
        have c2 := hkd.2.1
        have c3 := hkd.2.2.1
        have c4 := hkd.2.2.2.1
        rcases h with ⟨q, -⟩ | ⟨-, h⟩
        case inl => rw [c0] at q; exact absurd q (by decide)
        obtain ⟨f, p, r2', ⟨b1', b2', b3'⟩, h⟩ := h
        have l1 := h.1
        have l2 := h.2.1
        have l37 := h.2.2.2.2.2.2.2.2.2.2.2.2.2.2.2.2.2.2.2.2.2.2.2.2.2.2.2.2.2.2.2.2.2.2.2.2
        simp only [manS, hc1, hc2, if_neg c1, if_neg c2, if_neg c3, if_neg c4, bnd]
        exact ⟨by rw [l37, b3'], by rw [l1, b1'], by rw [l2, b2']⟩

theorem qx_number {p0 : Int32} {p1 : Int32} {p2 : Int32} {fn : Int32} {fp : Int32} {kd : Int32} {sta : Int32} {po : Int32} {va : Int32} {le : Int64} {tk : Int32} {ta : Int32} {tp : Nat → Int32} {qmd : Int32} {qtr : Int32} {qrn : Int32} {qrf : Nat → Int32} {qmn : Int32} {qmf : Nat → Int32} {qwn : Int32} {qwf : Nat → Int32} {qpn : Int32} {qpf : Nat → Int32} {qhnn : Int32} {qhnf : Nat → Int32} {qhtn : Int32} {qhtf : Nat → Int32} {qhjn : Int32} {qhjf : Nat → Int32} {qhmn : Int32} {qhmf : Nat → Int32} {qhbn : Int32} {qhbf : Nat → Int32} {qhsn : Int32} {qhsf : Nat → Int32} {qhcn : Int32} {qhcf : Nat → Int32} {tx_sa : String} {fn2 : Int32} {fp2 : Int32} {kd2 : Int32} {sta2 : Int32} {po2 : Int32} {va2 : Int32} {le2 : Int64} {tk2 : Int32} {ta2 : Int32} {qrg : Nat → Int32} {qmg : Nat → Int32} {qwg : Nat → Int32} {qpg : Nat → Int32} {qrk : Int32} {qmk : Int32} {qwk : Int32} {qpk : Int32} {qmd2 : Int32} {qtr2 : Int32} {qhng : Nat → Int32} {qhtg : Nat → Int32} {qhjg : Nat → Int32} {qhmg : Nat → Int32} {qhbg : Nat → Int32} {qhsg : Nat → Int32} {qhcg : Nat → Int32} {qhnk : Int32} {qhtk : Int32} {qhjk : Int32} {qhmk : Int32} {qhbk : Int32} {qhsk : Int32} {qhck : Int32} {r : Int32} {n a : Int32} {T : Nat → Int32} (hn : IV n 0 900) (ht : TpR tp T) (hw : WOk tx_sa) (hs : XS T n a kd sta po va le) (h : R_x_isNumberX p0 p1 p2 fn fp n kd sta po va le tk ta tp qmd qtr qrn qrf qmn qmf qwn qwf qpn qpf qhnn qhnf qhtn qhtf qhjn qhjf qhmn qhmf qhbn qhbf qhsn qhsf qhcn qhcf tx_sa fn2 fp2 kd2 sta2 po2 va2 le2 tk2 ta2 qrg qmg qwg qpg qrk qmk qwk qpk qmd2 qtr2 qhng qhtg qhjg qhmg qhbg qhsg qhcg qhnk qhtk qhjk qhmk qhbk qhsk qhck r) : XF T n (bnd (aftS T n tx_sa p1 p2 a) (fun v => .inr ((fun _ => v.1), v.2))) fn fp r fn2 fp2 kd2 sta2 po2 va2 le2 (fun g_ => qrg = qrf ∧ qmg = qmf ∧ qwg = qwf ∧ qrk = qrn ∧ qmk = qmn ∧ qwk = qwn ∧ qpk = qpn ∧ qhnk = qhnn ∧ qhtk = qhtn ∧ qhjk = qhjn ∧ qhmk = qhmn ∧ qhbk = qhbn ∧ qhsk = qhsn ∧ qhck = qhcn ∧ qpg = qpf ∧ qhtg = qhtf ∧ qhjg = qhjf ∧ qhmg = qhmf ∧ qhbg = qhbf ∧ qhsg = qhsf ∧ qhcg = qhcf ∧ qhng = tbPut 1 6 qhnf 0 p0 (g_ 0)) := by
  unfold R_x_isNumberX at h
  refine exE8 h ?_
  clear h
  intro f1 g1 k1 s1 p1' v1 l1' r1 hh1 h
  have m1 := qx_label hn ht hw hs hh1
  rw [aft_def]
  cases hc1 : labS T n tx_sa a with
  | inl e =>
    rw [hc1] at m1
    refine exA2 (XL_l m1) ?_
    intro x1 x2 x3
    replace h := pf1 h x1
    exact ⟨h.2.2.2.2.2.2.2.2.2.2.2.2.2.2.2.2.2.2.2.2.2.2.2.2.2.2.2.2.2.2.2.2.2, by rw [h.1, x2], by rw [h.2.1, x3]⟩
  | inr u1 =>
    rw [hc1] at m1
    refine exA3 (XL_r m1) ?_
    intro x1 yf1 yg1 xs1
    replace h := pk1 h x1
    refine exE10 h ?_
    clear h
    intro f2 g2 k2 s2 p2' v2 l2' tk2' ta2' r2 hh2 h
    have m2 := qx_whole hn ht xs1 hh2
    rw [bnd_r]
    cases hc2 : numS T n p1 p2 u1 with
    | inl e =>
      rw [hc2] at m2
      refine exA2 (XV_l m2) ?_
      intro x1 x2 x3
      replace h := pf2 h x1
      exact ⟨h.2.2.2.2.2.2.2.2.2.2.2.2.2.2.2.2.2.2.2.2.2.2.2.2.2.2.2.2.2.2.2.2.2, by rw [h.1, x2], by rw [h.2.1, x3]⟩
    | inr u2 =>
      rw [hc2] at m2
      refine exA5 (XV_r m2) ?_
      intro x1 yf2 yg2 yt2 ya2 xs2
      replace h := pk2 h x1
      obtain ⟨fa, hfa, h⟩ := h
      rw [bnd_r]
      have e1 := h.2.2.1
      have e2 := h.2.2.2.1
      have e3 := h.2.2.2.2.1
      have e4 := h.2.2.2.2.2.1
      have e5 := h.2.2.2.2.2.2.1
      refine ⟨h.2.2.2.2.2.2.2.2.2.2.2.2.2.2.2.2.2.2.2.2.2.2.2.2.2.2.2.2.2.2.2.2.2, by rw [h.1, yf2, yf1], by rw [h.2.1, yg2, yg1], by rw [e1, e2, e3, e4, e5]; exact xs2, h.2.2.2.2.2.2.2.2.2.1, h.2.2.2.2.2.2.2.2.2.2.1, h.2.2.2.2.2.2.2.2.2.2.2.1, h.2.2.2.2.2.2.2.2.2.2.2.2.2.1, h.2.2.2.2.2.2.2.2.2.2.2.2.2.2.1, h.2.2.2.2.2.2.2.2.2.2.2.2.2.2.2.1, h.2.2.2.2.2.2.2.2.2.2.2.2.2.2.2.2.1, h.2.2.2.2.2.2.2.2.2.2.2.2.2.2.2.2.2.2.2.2.2.2.2.2.2.2.1, h.2.2.2.2.2.2.2.2.2.2.2.2.2.2.2.2.2.2.2.2.2.2.2.2.2.2.2.1, h.2.2.2.2.2.2.2.2.2.2.2.2.2.2.2.2.2.2.2.2.2.2.2.2.2.2.2.2.1, h.2.2.2.2.2.2.2.2.2.2.2.2.2.2.2.2.2.2.2.2.2.2.2.2.2.2.2.2.2.1, h.2.2.2.2.2.2.2.2.2.2.2.2.2.2.2.2.2.2.2.2.2.2.2.2.2.2.2.2.2.2.1, h.2.2.2.2.2.2.2.2.2.2.2.2.2.2.2.2.2.2.2.2.2.2.2.2.2.2.2.2.2.2.2.1, h.2.2.2.2.2.2.2.2.2.2.2.2.2.2.2.2.2.2.2.2.2.2.2.2.2.2.2.2.2.2.2.2.1, h.2.2.2.2.2.2.2.2.2.2.2.2.1, h.2.2.2.2.2.2.2.2.2.2.2.2.2.2.2.2.2.2.2.2.1, h.2.2.2.2.2.2.2.2.2.2.2.2.2.2.2.2.2.2.2.2.2.1, h.2.2.2.2.2.2.2.2.2.2.2.2.2.2.2.2.2.2.2.2.2.2.1, h.2.2.2.2.2.2.2.2.2.2.2.2.2.2.2.2.2.2.2.2.2.2.2.1, h.2.2.2.2.2.2.2.2.2.2.2.2.2.2.2.2.2.2.2.2.2.2.2.2.1, h.2.2.2.2.2.2.2.2.2.2.2.2.2.2.2.2.2.2.2.2.2.2.2.2.2.1, by rw [h.2.2.2.2.2.2.2.2.2.2.2.2.2.2.2.2.2.2.2.1, hfa, yt2]⟩
