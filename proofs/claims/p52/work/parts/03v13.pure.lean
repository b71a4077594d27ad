set_option maxRecDepth 100000
set_option maxHeartbeats 4000000
theorem HRel_town {F G T : Nat → Int32} {n a ndn ndk qrn qmn qwn qpn qhnn qhtn qhjn qhmn qhbn qhsn qhcn qhtk : Int32} {nmf nmg : Nat → Int64} {ndf ndg qrf qmf qwf : Nat → Int32} (hH : HRel F ndn nmf ndf qrn qrf qmn qmf qwn qwf qpn qhnn qhtn qhjn qhmn qhbn qhsn qhcn) (h15 : F 15 ≠ 0) (hlt : (F 7).toInt < 4) (hN : NRel (wrN F T n a (8 + (F 7).toInt.toNat)) nmg ndg ndk) (hk : ndk = ndn + 1) (hr : qhtk = qhtn + 1) (K : ∀ i : Nat, i < 167 → i ≠ 7 → (i < 40 ∨ 43 < i) → G i = F i) (KX : G 7 = F 7 + 1) (KH : ∀ i : Nat, 167 ≤ i → G i = wrN F T n a (8 + (F 7).toInt.toNat) i) : HRel G ndk nmg ndg qrn qrf qmn qmf qwn qwf qpn qhnn qhtk qhjn qhmn qhbn qhsn qhcn := by
  refine exA14 hH ?_
  clear hH
  intro zc1 zc2 zc3 c12 cb cr cm cw cN cd f1 f2 f3 g1 g2
  refine exA1 zc1 ?_
  clear zc1
  intro a1 a2
  refine exA8 zc2 ?_
  clear zc2
  intro b1 b2 b3 b4 b5 b6 b7 b8 b9
  refine exA7 zc3 ?_
  clear zc3
  intro i6 i7 i8 i9 i10 i11 i13 i14
  have e6 := inc1 (u := F 7) (z := F 7 + 1) (a := 0) (b := 900) ⟨by omega, by omega⟩ (by omega) (by omega) rfl
  have en := inc1 (u := ndn) (z := ndn + 1) (a := 0) (b := 900) ⟨by have := cN.1; omega, by have := cN.1; omega⟩ (by omega) (by omega) rfl
  have W : ∀ j : Nat, j < 16 → j ≠ 8 + (F 7).toInt.toNat → wrN F T n a (8 + (F 7).toInt.toNat) (167 + j) = F (167 + j) := by
    intro j hj hj2
    unfold wrN
    rw [upd_ne (by omega), wrL_lt _ _ (by omega)]
  refine ⟨⟨by rw [(K 15 (by first | decide | omega) (by first | decide | omega) (by first | decide | omega))]; exact a1, by rw [(K 15 (by first | decide | omega) (by first | decide | omega) (by first | decide | omega))]; exact a2⟩, ⟨by rw [(K 6 (by first | decide | omega) (by first | decide | omega) (by first | decide | omega))]; exact b1, by rw [KX, hr, b2], by rw [(K 8 (by first | decide | omega) (by first | decide | omega) (by first | decide | omega))]; exact b3, by rw [(K 9 (by first | decide | omega) (by first | decide | omega) (by first | decide | omega))]; exact b4, by rw [(K 10 (by first | decide | omega) (by first | decide | omega) (by first | decide | omega))]; exact b5, by rw [(K 11 (by first | decide | omega) (by first | decide | omega) (by first | decide | omega))]; exact b6, by rw [(K 12 (by first | decide | omega) (by first | decide | omega) (by first | decide | omega))]; exact b7, by rw [(K 13 (by first | decide | omega) (by first | decide | omega) (by first | decide | omega))]; exact b8, by rw [(K 14 (by first | decide | omega) (by first | decide | omega) (by first | decide | omega))]; exact b9⟩, ⟨by rw [(K 6 (by first | decide | omega) (by first | decide | omega) (by first | decide | omega))]; exact i6, by rw [KX]; exact ⟨by omega, by omega⟩, by rw [(K 8 (by first | decide | omega) (by first | decide | omega) (by first | decide | omega))]; exact i8, by rw [(K 9 (by first | decide | omega) (by first | decide | omega) (by first | decide | omega))]; exact i9, by rw [(K 10 (by first | decide | omega) (by first | decide | omega) (by first | decide | omega))]; exact i10, by rw [(K 11 (by first | decide | omega) (by first | decide | omega) (by first | decide | omega))]; exact i11, by rw [(K 13 (by first | decide | omega) (by first | decide | omega) (by first | decide | omega))]; exact i13, by rw [(K 14 (by first | decide | omega) (by first | decide | omega) (by first | decide | omega))]; exact i14⟩, by rw [(K 12 (by first | decide | omega) (by first | decide | omega) (by first | decide | omega))]; exact c12, by rw [(K 134 (by first | decide | omega) (by first | decide | omega) (by first | decide | omega))]; exact cb, ?_, ?_, ?_, NRel_hi hN KH, ?_, ?_, ?_, ?_, ?_, ?_⟩
  · intro k hk2
    rw [(K 6 (by first | decide | omega) (by first | decide | omega) (by first | decide | omega))] at hk2
    rw [K _ (by omega) (by omega) (by omega)]; exact cr k hk2
  · intro k hk2
    rw [(K 8 (by first | decide | omega) (by first | decide | omega) (by first | decide | omega))] at hk2
    rw [K _ (by omega) (by omega) (by omega), K _ (by omega) (by omega) (by omega)]; exact cm k hk2
  · intro k hk2
    rw [(K 10 (by first | decide | omega) (by first | decide | omega) (by first | decide | omega))] at hk2
    rw [K _ (by omega) (by omega) (by omega), K _ (by omega) (by omega) (by omega)]; exact cw k hk2
  · rw [(K 6 (by first | decide | omega) (by first | decide | omega) (by first | decide | omega)), KX, (K 11 (by first | decide | omega) (by first | decide | omega) (by first | decide | omega)), hk]; omega
  · intro j hj hj2
    rw [(K 6 (by first | decide | omega) (by first | decide | omega) (by first | decide | omega))] at hj2
    rw [show 167 + j = 167 + (0 + j) by omega, KH _ (by omega), W (0 + j) (by omega) (by omega), show 167 + (0 + j) = 167 + j by omega]; exact f1 j hj (by omega)
  · intro j hj hj2
    rw [KX] at hj2
    rw [show 175 + j = 167 + (8 + j) by omega, KH _ (by omega), W (8 + j) (by omega) (by omega), show 167 + (8 + j) = 175 + j by omega]; exact f2 j hj (by omega)
  · intro j hj hj2
    rw [(K 11 (by first | decide | omega) (by first | decide | omega) (by first | decide | omega))] at hj2
    rw [show 179 + j = 167 + (12 + j) by omega, KH _ (by omega), W (12 + j) (by omega) (by omega), show 167 + (12 + j) = 179 + j by omega]; exact f3 j hj (by omega)
  · intro q
    rw [(K 15 (by first | decide | omega) (by first | decide | omega) (by first | decide | omega))] at q
    exact absurd q h15
  · rw [(K 13 (by first | decide | omega) (by first | decide | omega) (by first | decide | omega)), (K 12 (by first | decide | omega) (by first | decide | omega) (by first | decide | omega))]; exact g2
theorem HRel_man {F G T : Nat → Int32} {n a ndn ndk qrn qmn qwn qpn qhnn qhtn qhjn qhmn qhbn qhsn qhcn qhmk : Int32} {nmf nmg : Nat → Int64} {ndf ndg qrf qmf qwf : Nat → Int32} (hH : HRel F ndn nmf ndf qrn qrf qmn qmf qwn qwf qpn qhnn qhtn qhjn qhmn qhbn qhsn qhcn) (h15 : F 15 ≠ 0) (hlt : (F 11).toInt < 4) (hN : NRel (wrN F T n a (12 + (F 11).toInt.toNat)) nmg ndg ndk) (hk : ndk = ndn + 1) (hr : qhmk = qhmn + 1) (K : ∀ i : Nat, i < 167 → i ≠ 11 → (i < 114 ∨ 125 < i) → G i = F i) (KX : G 11 = F 11 + 1) (KH : ∀ i : Nat, 167 ≤ i → G i = wrN F T n a (12 + (F 11).toInt.toNat) i) : HRel G ndk nmg ndg qrn qrf qmn qmf qwn qwf qpn qhnn qhtn qhjn qhmk qhbn qhsn qhcn := by
  refine exA14 hH ?_
  clear hH
  intro zc4 zc5 zc6 c12 cb cr cm cw cN cd f1 f2 f3 g1 g2
  refine exA1 zc4 ?_
  clear zc4
  intro a1 a2
  refine exA8 zc5 ?_
  clear zc5
  intro b1 b2 b3 b4 b5 b6 b7 b8 b9
  refine exA7 zc6 ?_
  clear zc6
  intro i6 i7 i8 i9 i10 i11 i13 i14
  have e6 := inc1 (u := F 11) (z := F 11 + 1) (a := 0) (b := 900) ⟨by omega, by omega⟩ (by omega) (by omega) rfl
  have en := inc1 (u := ndn) (z := ndn + 1) (a := 0) (b := 900) ⟨by have := cN.1; omega, by have := cN.1; omega⟩ (by omega) (by omega) rfl
  have W : ∀ j : Nat, j < 16 → j ≠ 12 + (F 11).toInt.toNat → wrN F T n a (12 + (F 11).toInt.toNat) (167 + j) = F (167 + j) := by
    intro j hj hj2
    unfold wrN
    rw [upd_ne (by omega), wrL_lt _ _ (by omega)]
  refine ⟨⟨by rw [(K 15 (by first | decide | omega) (by first | decide | omega) (by first | decide | omega))]; exact a1, by rw [(K 15 (by first | decide | omega) (by first | decide | omega) (by first | decide | omega))]; exact a2⟩, ⟨by rw [(K 6 (by first | decide | omega) (by first | decide | omega) (by first | decide | omega))]; exact b1, by rw [(K 7 (by first | decide | omega) (by first | decide | omega) (by first | decide | omega))]; exact b2, by rw [(K 8 (by first | decide | omega) (by first | decide | omega) (by first | decide | omega))]; exact b3, by rw [(K 9 (by first | decide | omega) (by first | decide | omega) (by first | decide | omega))]; exact b4, by rw [(K 10 (by first | decide | omega) (by first | decide | omega) (by first | decide | omega))]; exact b5, by rw [KX, hr, b6], by rw [(K 12 (by first | decide | omega) (by first | decide | omega) (by first | decide | omega))]; exact b7, by rw [(K 13 (by first | decide | omega) (by first | decide | omega) (by first | decide | omega))]; exact b8, by rw [(K 14 (by first | decide | omega) (by first | decide | omega) (by first | decide | omega))]; exact b9⟩, ⟨by rw [(K 6 (by first | decide | omega) (by first | decide | omega) (by first | decide | omega))]; exact i6, by rw [(K 7 (by first | decide | omega) (by first | decide | omega) (by first | decide | omega))]; exact i7, by rw [(K 8 (by first | decide | omega) (by first | decide | omega) (by first | decide | omega))]; exact i8, by rw [(K 9 (by first | decide | omega) (by first | decide | omega) (by first | decide | omega))]; exact i9, by rw [(K 10 (by first | decide | omega) (by first | decide | omega) (by first | decide | omega))]; exact i10, by rw [KX]; exact ⟨by omega, by omega⟩, by rw [(K 13 (by first | decide | omega) (by first | decide | omega) (by first | decide | omega))]; exact i13, by rw [(K 14 (by first | decide | omega) (by first | decide | omega) (by first | decide | omega))]; exact i14⟩, by rw [(K 12 (by first | decide | omega) (by first | decide | omega) (by first | decide | omega))]; exact c12, by rw [(K 134 (by first | decide | omega) (by first | decide | omega) (by first | decide | omega))]; exact cb, ?_, ?_, ?_, NRel_hi hN KH, ?_, ?_, ?_, ?_, ?_, ?_⟩
  · intro k hk2
    rw [(K 6 (by first | decide | omega) (by first | decide | omega) (by first | decide | omega))] at hk2
    rw [K _ (by omega) (by omega) (by omega)]; exact cr k hk2
  · intro k hk2
    rw [(K 8 (by first | decide | omega) (by first | decide | omega) (by first | decide | omega))] at hk2
    rw [K _ (by omega) (by omega) (by omega), K _ (by omega) (by omega) (by omega)]; exact cm k hk2
  · intro k hk2
    rw [(K 10 (by first | decide | omega) (by first | decide | omega) (by first | decide | omega))] at hk2
    rw [K _ (by omega) (by omega) (by omega), K _ (by omega) (by omega) (by omega)]; exact cw k hk2
  · rw [(K 6 (by first | decide | omega) (by first | decide | omega) (by first | decide | omega)), (K 7 (by first | decide | omega) (by first | decide | omega) (by first | decide | omega)), KX, hk]; omega
  · intro j hj hj2
    rw [(K 6 (by first | decide | omega) (by first | decide | omega) (by first | decide | omega))] at hj2
    rw [show 167 + j = 167 + (0 + j) by omega, KH _ (by omega), W (0 + j) (by omega) (by omega), show 167 + (0 + j) = 167 + j by omega]; exact f1 j hj (by omega)
  · intro j hj hj2
    rw [(K 7 (by first | decide | omega) (by first | decide | omega) (by first | decide | omega))] at hj2
    rw [show 175 + j = 167 + (8 + j) by omega, KH _ (by omega), W (8 + j) (by omega) (by omega), show 167 + (8 + j) = 175 + j by omega]; exact f2 j hj (by omega)
  · intro j hj hj2
    rw [KX] at hj2
    rw [show 179 + j = 167 + (12 + j) by omega, KH _ (by omega), W (12 + j) (by omega) (by omega), show 167 + (12 + j) = 179 + j by omega]; exact f3 j hj (by omega)
  · intro q
    rw [(K 15 (by first | decide | omega) (by first | decide | omega) (by first | decide | omega))] at q
    exact absurd q h15
  · rw [(K 13 (by first | decide | omega) (by first | decide | omega) (by first | decide | omega)), (K 12 (by first | decide | omega) (by first | decide | omega) (by first | decide | omega))]; exact g2
theorem qx_isTownLine {tp ndf qrf qmf qwf qpf qhnf qhtf qhjf qhmf qhbf qhsf qhcf ndg qrg qmg qwg qpg qhng qhtg qhjg qhmg qhbg qhsg qhcg F T : Nat → Int32} {nmf nmg : Nat → Int64} {le le2 : Int64} {fn fp n kd sta po va tk ta ndn qmd qtr qrn qmn qwn qpn qhnn qhtn qhjn qhmn qhbn qhsn qhcn fn2 fp2 kd2 sta2 po2 va2 tk2 ta2 ndk qrk qmk qwk qpk qmd2 qtr2 qhnk qhtk qhjk qhmk qhbk qhsk qhck r a : Int32} (hn : IV n 0 900) (ht : TpR tp T) (hH : HRel F ndn nmf ndf qrn qrf qmn qmf qwn qwf qpn qhnn qhtn qhjn qhmn qhbn qhsn qhcn) (hV : HV F qrf qmf qwf qpf qhnf qhtf qhjf qhmf qhbf qhsf qhcf) (h15 : F 15 ≠ 0) (hs : XS T n a kd sta po va le) (h : R_x_isTownLineX fn fp n kd sta po va le tk ta tp nmf ndn ndf qmd qtr qrn qrf qmn qmf qwn qwf qpn qpf qhnn qhnf qhtn qhtf qhjn qhjf qhmn qhmf qhbn qhbf qhsn qhsf qhcn qhcf fn2 fp2 kd2 sta2 po2 va2 le2 tk2 ta2 nmg ndg ndk qrg qmg qwg qpg qrk qmk qwk qpk qmd2 qtr2 qhng qhtg qhjg qhmg qhbg qhsg qhcg qhnk qhtk qhjk qhmk qhbk qhsk qhck r) : XF T n (bnd (opnS F T n (bcap 4 (F 7)) a) (townS F T n)) fn fp r fn2 fp2 kd2 sta2 po2 va2 le2 (fun G => HRel G ndk nmg ndg qrk qrg qmk qmg qwk qwg qpk qhnk qhtk qhjk qhmk qhbk qhsk qhck ∧ HV G qrg qmg qwg qpg qhng qhtg qhjg qhmg qhbg qhsg qhcg) := by
  have hH0 := hH
  refine exA14 hH ?_
  clear hH
  intro zc7 zc8 zc9 c12 cb cr cm cw cN cd f1' f2' f3' g1' g2'
  refine exA1 zc7 ?_
  clear zc7
  intro a1 a2
  refine exA8 zc8 ?_
  clear zc8
  intro b1 b2 b3 b4 b5 b6 b7 b8 b9
  refine exA7 zc9 ?_
  clear zc9
  intro i6 i7 i8 i9 i10 i11 i13 i14
  have e8 : (8 : Int32).toInt = 8 := by decide
  have e6 : (6 : Int32).toInt = 6 := by decide
  have e4 : (4 : Int32).toInt = 4 := by decide
  rw [room_opn h15]
  unfold R_x_isTownLineX at h
  refine exE8 h ?_
  clear h
  intro f1 g1 k1 s1 p1 v1 l1' r1 hh1 h
  rw [b2] at hh1
  have m1 := qx_room1 hn ht hs hh1
  skip
  cases hc1 : roomS T n 4 (F 7) a with
  | inl e =>
    rw [hc1] at m1
    refine exA2 (XL_l m1) ?_
    intro x1 x2 x3
    first | replace h := pf1 h x1 | replace h := pf2 h x1
    have l1 := h.1
    have l2 := h.2.1
    have l37 := h.2.2.2.2.2.2.2.2.2.2.2.2.2.2.2.2.2.2.2.2.2.2.2.2.2.2.2.2.2.2.2.2.2.2.2.2
    simp only [townS, aft_def, hc1, bnd]
    exact ⟨(by first | exact l37 | rw [l37, x1]), by rw [l1, x2], by rw [l2, x3]⟩
  | inr u1 =>
    rw [hc1] at m1
    refine exA3 (XL_r m1) ?_
    intro x1 yf1 yg1 xs1
    first | replace h := pk1 h x1 | replace h := pk2 h x1
    refine exE11 h ?_
    clear h
    intro f2 g2 k2 s2 p2 v2 l2' nm2 nd2 nk2 r2 hh2 h
    rw [b2] at hh2
    have m2 := qx_new hn ht cN (by have := (rm_inr hc1).1; omega) (Or.inr (Or.inl ⟨rfl, ⟨by omega, by have := (rm_inr hc1).1; omega⟩⟩)) (by rw [slot1, show 167 + (8 + (F 7).toInt.toNat) = 175 + (F 7).toInt.toNat by omega]; exact f2' _ (by have := (rm_inr hc1).1; omega) (by omega)) xs1 hh2
    rw [slot1] at m2
    cases hc2 : newS F T n (8 + (F 7).toInt.toNat) u1 with
    | inl e =>
      rw [hc2] at m2
      refine exA2 (XN_l m2) ?_
      intro x1 x2 x3
      first | replace h := pf1 h x1 | replace h := pf2 h x1
      have l1 := h.1
      have l2 := h.2.1
      have l37 := h.2.2.2.2.2.2.2.2.2.2.2.2.2.2.2.2.2.2.2.2.2.2.2.2.2.2.2.2.2.2.2.2.2.2.2.2
      simp only [townS, aft_def, hc1, hc2, bnd]
      exact ⟨(by first | exact l37 | rw [l37, x1]), by rw [l1, x2], by rw [l2, x3]⟩
    | inr u2 =>
      rw [hc2] at m2
      refine exA5 (XN_r m2) ?_
      intro x1 yf2 yg2 yN2 yk2 xs2
      first | replace h := pk1 h x1 | replace h := pk2 h x1
      refine exE8 h ?_
      clear h
      intro f3 g3 k3 s3 p3 v3 l3' r3 hh3 h
      have m3 := qx_label hn ht wok_trust xs2 hh3
      skip
      cases hc3 : labS T n "trust" u2.2 with
      | inl e =>
        rw [hc3] at m3
        refine exA2 (XL_l m3) ?_
        intro x1 x2 x3
        first | replace h := pf1 h x1 | replace h := pf2 h x1
        have l1 := h.1
        have l2 := h.2.1
        have l37 := h.2.2.2.2.2.2.2.2.2.2.2.2.2.2.2.2.2.2.2.2.2.2.2.2.2.2.2.2.2.2.2.2.2.2.2.2
        simp only [townS, aft_def, hc1, hc2, hc3, bnd]
        exact ⟨(by first | exact l37 | rw [l37, x1]), by rw [l1, x2], by rw [l2, x3]⟩
      | inr u3 =>
        rw [hc3] at m3
        refine exA3 (XL_r m3) ?_
        intro x1 yf3 yg3 xs3
        first | replace h := pk1 h x1 | replace h := pk2 h x1
        refine exE10 h ?_
        clear h
        intro f4 g4 k4 s4 p4 v4 l4' tk4 ta4 r4 hh4 h
        have m4 := qx_whole hn ht xs3 hh4
        skip
        cases hc4 : numS T n 1 9 u3 with
        | inl e =>
          rw [hc4] at m4
          refine exA2 (XV_l m4) ?_
          intro x1 x2 x3
          first | replace h := pf1 h x1 | replace h := pf2 h x1
          have l1 := h.1
          have l2 := h.2.1
          have l37 := h.2.2.2.2.2.2.2.2.2.2.2.2.2.2.2.2.2.2.2.2.2.2.2.2.2.2.2.2.2.2.2.2.2.2.2.2
          simp only [townS, aft_def, hc1, hc2, hc3, hc4, bnd]
          exact ⟨(by first | exact l37 | rw [l37, x1]), by rw [l1, x2], by rw [l2, x3]⟩
        | inr u4 =>
          rw [hc4] at m4
          refine exA5 (XV_r m4) ?_
          intro x1 yf4 yg4 yt4 ya4 xs4
          first | replace h := pk1 h x1 | replace h := pk2 h x1
          refine exE2 h ?_
          clear h
          intro gg kk hadd h
          refine exA36 h ?_
          intro l1 l2 l3 l4 l5 l6 l7 l8 l9 l10 l11 l12 l13 l14 l15 l16 l17 l18 l19 l20 l21 l22 l23 l24 l25 l26 l27 l28 l29 l30 l31 l32 l33 l34 l35 l36 l37
          obtain ⟨o1, o2⟩ := qt_add4_1 (by rw [b2]; exact ⟨by omega, by have := (rm_inr hc1).1; omega⟩) hadd
          obtain ⟨w1, w2⟩ := new_inr hc2
          simp only [townS, aft_def, hc1, hc2, hc3, hc4, bnd]
          subst l3 l4 l5 l6 l7
          refine ⟨l37, by rw [l1, yf4, yf3, yf2, yf1], by rw [l2, yg4, yg3, yg2, yg1], xs4, ?_⟩
          skip
          rw [w1] at yN2
          rw [w1]
          have lt := (rm_inr hc1).1
          have K : ∀ i : Nat, i < 167 → i ≠ 7 → (i < 40 ∨ 43 < i) → (upd (upd (wrN F T n u1 (8 + (F 7).toInt.toNat)) (40 + (F 7).toInt.toNat) u4.1) 7 (F 7 + 1)) i = F i := by
            intro i q1 q2 q3
            rw [upd_ne q2, upd_ne (by omega), wrN_lt q1]
          have KX : (upd (upd (wrN F T n u1 (8 + (F 7).toInt.toNat)) (40 + (F 7).toInt.toNat) u4.1) 7 (F 7 + 1)) 7 = F 7 + 1 := upd_at
          have KH : ∀ i : Nat, 167 ≤ i → (upd (upd (wrN F T n u1 (8 + (F 7).toInt.toNat)) (40 + (F 7).toInt.toNat) u4.1) 7 (F 7 + 1)) i = wrN F T n u1 (8 + (F 7).toInt.toNat) i := by
            intro i q1
            rw [upd_ne (by omega), upd_ne (by omega)]
          have hW := HV_town (g := gg) (G := (upd (upd (wrN F T n u1 (8 + (F 7).toInt.toNat)) (40 + (F 7).toInt.toNat) u4.1) 7 (F 7 + 1))) (m := (F 7).toInt.toNat) hV ⟨i6, i7, i8, i9, i10, i11, i13, i14⟩ c12 (by omega) (by have := (rm_inr hc1).1; omega) (by rw [upd_at, inc1 (u := F 7) (z := F 7 + 1) (a := 0) (b := 900) ⟨by omega, by omega⟩ (by omega) (by omega) rfl]; omega) (fun i q1 q2 q3 => by rw [upd_ne q2, upd_ne (by omega), wrN_lt q1]) (by rw [Nat.one_mul, upd_ne (by omega), upd_at]) (by rw [o1, b2, yt4])
          rw [l10, l11, l12, l13, l14, l15, l16, l17, l18, l19, l20, l23, l24, l25, l26, l27, l28, l29, l30, l31, l32, l33, l34, l35, l36]
          generalize (upd (upd (wrN F T n u1 (8 + (F 7).toInt.toNat)) (40 + (F 7).toInt.toNat) u4.1) 7 (F 7 + 1)) = G at *
          dsimp only
          exact ⟨HRel_town hH0 h15 (by omega) yN2 yk2 o2 K KX KH, hW⟩
