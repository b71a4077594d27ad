set_option maxRecDepth 100000
set_option maxHeartbeats 4000000
theorem line_none {F T : Nat → Int32} {n a : Int32} (n0 : ¬ IsW T n a "house") (n1 : ¬ IsW T n a "reel") (n2 : ¬ IsW T n a "town") (n3 : ¬ IsW T n a "mark") (n4 : ¬ IsW T n a "join") (n5 : ¬ IsW T n a "weak") (n6 : ¬ IsW T n a "man") (n7 : ¬ IsW T n a "shows") (n8 : ¬ IsW T n a "boys") (n9 : ¬ IsW T n a "seen") (n10 : ¬ IsW T n a "scratch") : lineS F T n a = .inl (1, a) := by
  unfold lineS
  rw [if_neg n0, if_neg n1, if_neg n2, if_neg n3, if_neg n4, if_neg n5, if_neg n6, if_neg n7, if_neg n8, if_neg n9, if_neg n10]
theorem line_by {F T : Nat → Int32} {n a : Int32} (h : IsW T n a "by") : lineS F T n a = .inl (1, a) := by
  have e := h.2.1
  have n0 : ¬ IsW T n a "house" := fun q => absurd (e.symm.trans q.2.1) (by decide)
  have n1 : ¬ IsW T n a "reel" := fun q => absurd (e.symm.trans q.2.1) (by decide)
  have n2 : ¬ IsW T n a "town" := fun q => absurd (e.symm.trans q.2.1) (by decide)
  have n3 : ¬ IsW T n a "mark" := fun q => absurd (e.symm.trans q.2.1) (by decide)
  have n4 : ¬ IsW T n a "join" := fun q => absurd (e.symm.trans q.2.1) (by decide)
  have n5 : ¬ IsW T n a "weak" := fun q => absurd (e.symm.trans q.2.1) (by decide)
  have n6 : ¬ IsW T n a "man" := fun q => absurd (e.symm.trans q.2.1) (by decide)
  have n7 : ¬ IsW T n a "shows" := fun q => absurd (e.symm.trans q.2.1) (by decide)
  have n8 : ¬ IsW T n a "boys" := fun q => absurd (e.symm.trans q.2.1) (by decide)
  have n9 : ¬ IsW T n a "seen" := fun q => absurd (e.symm.trans q.2.1) (by decide)
  have n10 : ¬ IsW T n a "scratch" := fun q => absurd (e.symm.trans q.2.1) (by decide)
  exact line_none n0 n1 n2 n3 n4 n5 n6 n7 n8 n9 n10
theorem opn_6 {F T : Nat → Int32} {n c a : Int32} {x : Int32} (z : F 15 = 0) (hx : x = 0) (hc : 0 < c) : opnS F T n (bcap c x) a = .inl (6, a) := by
  unfold opnS bcap
  subst hx
  rw [if_neg (Int32.not_le.mpr hc), if_neg one0, if_pos z]
theorem once_6 {F T : Nat → Int32} {n a : Int32} {x : Int32} (z : F 15 = 0) (hx : x = 0) : onceS F T n (bpos x) a = .inl (6, a) := by
  unfold onceS bpos
  subst hx
  rw [if_pos (show (0 : Int32) ≤ 0 by decide), if_pos rfl, if_pos z]
theorem line_6 {F T : Nat → Int32} {n a : Int32} (z : F 15 = 0) (g : F 6 = 0 ∧ F 7 = 0 ∧ F 8 = 0 ∧ F 9 = 0 ∧ F 10 = 0 ∧ F 11 = 0 ∧ F 12 = 0 ∧ F 13 = 0 ∧ F 14 = 0 ∧ F 134 = 0) (h : ResW T n a) (nh : ¬ IsW T n a "house") (nb : ¬ IsW T n a "by") : lineS F T n a = .inl (6, a) := by
  obtain ⟨g6, g7, g8, g9, g10, g11, g12, g13, g14, g134⟩ := g
  unfold lineS
  rw [if_neg nh]
  by_cases n1 : IsW T n a "reel"
  case pos =>
    rw [if_pos n1]
    rw [opn_6 z g6 (by decide), bnd_l]
  rw [if_neg n1]
  by_cases n2 : IsW T n a "town"
  case pos =>
    rw [if_pos n2]
    rw [opn_6 z g7 (by decide), bnd_l]
  rw [if_neg n2]
  by_cases n3 : IsW T n a "mark"
  case pos =>
    rw [if_pos n3]
    rw [opn_6 z g8 (by decide), bnd_l]
  rw [if_neg n3]
  by_cases n4 : IsW T n a "join"
  case pos =>
    rw [if_pos n4]
    rw [opn_6 z g9 (by decide), bnd_l]
  rw [if_neg n4]
  by_cases n5 : IsW T n a "weak"
  case pos =>
    rw [if_pos n5]
    rw [opn_6 z g10 (by decide), bnd_l]
  rw [if_neg n5]
  by_cases n6 : IsW T n a "man"
  case pos =>
    rw [if_pos n6]
    rw [opn_6 z g11 (by decide), bnd_l]
  rw [if_neg n6]
  by_cases n7 : IsW T n a "shows"
  case pos =>
    rw [if_pos n7]
    rw [once_6 z g12, bnd_l]
  rw [if_neg n7]
  by_cases n8 : IsW T n a "boys"
  case pos =>
    rw [if_pos n8]
    rw [once_6 z g134, bnd_l]
  rw [if_neg n8]
  by_cases n9 : IsW T n a "seen"
  case pos =>
    rw [if_pos n9]
    unfold seenS
    rw [if_neg (by rw [g13]; decide), if_pos z]
  rw [if_neg n9]
  by_cases n10 : IsW T n a "scratch"
  case pos =>
    rw [if_pos n10]
    rw [opn_6 z g14 (by decide), bnd_l]
  rw [if_neg n10]
  exfalso
  rcases h with h | h | h | h | h | h | h | h | h | h | h | h
  · exact nh h
  · exact n1 h
  · exact n2 h
  · exact n3 h
  · exact n4 h
  · exact n5 h
  · exact n6 h
  · exact n7 h
  · exact n8 h
  · exact nb h
  · exact n9 h
  · exact n10 h
theorem qx_isLine {tp ndf qrf qmf qwf qpf qhnf qhtf qhjf qhmf qhbf qhsf qhcf ndg qrg qmg qwg qpg qhng qhtg qhjg qhmg qhbg qhsg qhcg F T : Nat → Int32} {nmf nmg : Nat → Int64} {le le2 : Int64} {fn fp n kd sta po va tk ta ndn qmd qtr qrn qmn qwn qpn qhnn qhtn qhjn qhmn qhbn qhsn qhcn fn2 fp2 kd2 sta2 po2 va2 tk2 ta2 ndk qrk qmk qwk qpk qmd2 qtr2 qhnk qhtk qhjk qhmk qhbk qhsk qhck r a : Int32} (hn : IV n 0 900) (ht : TpR tp T) (hH : HRel F ndn nmf ndf qrn qrf qmn qmf qwn qwf qpn qhnn qhtn qhjn qhmn qhbn qhsn qhcn) (hV : HV F qrf qmf qwf qpf qhnf qhtf qhjf qhmf qhbf qhsf qhcf) (hs : XS T n a kd sta po va le) (h : R_x_isLineX fn fp n kd sta po va le tk ta tp nmf ndn ndf qmd qtr qrn qrf qmn qmf qwn qwf qpn qpf qhnn qhnf qhtn qhtf qhjn qhjf qhmn qhmf qhbn qhbf qhsn qhsf qhcn qhcf fn2 fp2 kd2 sta2 po2 va2 le2 tk2 ta2 nmg ndg ndk qrg qmg qwg qpg qrk qmk qwk qpk qmd2 qtr2 qhng qhtg qhjg qhmg qhbg qhsg qhcg qhnk qhtk qhjk qhmk qhbk qhsk qhck r) : XF T n (lineS F T n a) fn fp r fn2 fp2 kd2 sta2 po2 va2 le2 (fun G => HRel G ndk nmg ndg qrk qrg qmk qmg qwk qwg qpk qhnk qhtk qhjk qhmk qhbk qhsk qhck ∧ HV G qrg qmg qwg qpg qhng qhtg qhjg qhmg qhbg qhsg qhcg) ∨ (∃ b9 : Int32, lineS F T n a = .inl (1, b9) ∧ r = 1 ∧ fn2 = fn ∧ fp2 = fp ∧ XS T n b9 kd2 sta2 po2 va2 le2 ∧ tkF T n b9 ≠ 3 ∧ tkF T n b9 ≠ 0) := by
  have hH0 := hH
  refine exA14 hH ?_
  clear hH
  intro zc1 zc2 zc3 c12 cb cr cm cw cN cd f1' f2' f3' g1' g2'
  refine exA1 zc1 ?_
  clear zc1
  intro a1 a2
  refine exA8 zc2 ?_
  clear zc2
  intro b1 b2 b3 b4 b5 b6 b7 b8 b9
  refine exA7 zc3 ?_
  clear zc3
  intro i6 i7 i8 i9 i10 i11 i13 i14
  have e8 : (8 : Int32).toInt = 8 := by decide
  have e6 : (6 : Int32).toInt = 6 := by decide
  unfold R_x_isLineX at h
  have sa := hs.1
  have hk := hs.2.2
  subst sa
  have ha := hs.2.1
  obtain ⟨r1, hr1, h⟩ := h
  rcases x_is_spec hn ha ht wok_house hk hr1 with ⟨q, c0⟩ | ⟨q, c0⟩
  case inl =>
    replace h := pk1 h q
    refine Or.inl ?_
    unfold lineS
    rw [if_pos c0]
    clear hr1 q
    refine exE37 h ?_
    clear h
    intro y1 y2 y3 y4 y5 y6 y7 y8 y9 y10 y11 y12 y13 y14 y15 y16 y17 y18 y19 y20 y21 y22 y23 y24 y25 y26 y27 y28 y29 y30 y31 y32 y33 y34 y35 y36 y37 hl h
    refine exA36 h ?_
    intro l1 l2 l3 l4 l5 l6 l7 l8 l9 l10 l11 l12 l13 l14 l15 l16 l17 l18 l19 l20 l21 l22 l23 l24 l25 l26 l27 l28 l29 l30 l31 l32 l33 l34 l35 l36 l37
    clear h
    subst l1 l2 l3 l4 l5 l6 l7 l8 l9 l10 l11 l12 l13 l14 l15 l16 l17 l18 l19 l20 l21 l22 l23 l24 l25 l26 l27 l28 l29 l30 l31 l32 l33 l34 l35 l36 l37
    exact qx_isHouseLine hn ht hH0 hV hs hl
  replace h := pf1 h q
  clear hr1 q
  obtain ⟨r1, hr1, h⟩ := h
  rcases x_is_spec hn ha ht wok_by hk hr1 with ⟨q, cby⟩ | ⟨q, cby⟩
  case inl =>
    replace h := pk2 h q
    refine Or.inl ?_
    rw [line_by cby]
    obtain ⟨f, p, r2, ⟨b1', b2', b3'⟩, h⟩ := h
    have l1 := h.1
    have l2 := h.2.1
    have l37 := h.2.2.2.2.2.2.2.2.2.2.2.2.2.2.2.2.2.2.2.2.2.2.2.2.2.2.2.2.2.2.2.2.2.2.2.2
    exact ⟨by rw [l37, b3'], by rw [l1, b1'], by rw [l2, b2']⟩
  replace h := pf2 h q
  clear hr1 q
  obtain ⟨r1, hr1, h⟩ := h
  rcases qx_reserved hn ht ha hk hr1 with ⟨q, cr0⟩ | ⟨q, cr0⟩
  case inr =>
    replace h := pf2 h q
    refine Or.inl ?_
    rw [line_none (fun w => cr0 (Or.inl w)) (fun w => cr0 (Or.inr (Or.inl w))) (fun w => cr0 (Or.inr (Or.inr (Or.inl w)))) (fun w => cr0 (Or.inr (Or.inr (Or.inr (Or.inl w))))) (fun w => cr0 (Or.inr (Or.inr (Or.inr (Or.inr (Or.inl w)))))) (fun w => cr0 (Or.inr (Or.inr (Or.inr (Or.inr (Or.inr (Or.inl w))))))) (fun w => cr0 (Or.inr (Or.inr (Or.inr (Or.inr (Or.inr (Or.inr (Or.inl w)))))))) (fun w => cr0 (Or.inr (Or.inr (Or.inr (Or.inr (Or.inr (Or.inr (Or.inr (Or.inl w))))))))) (fun w => cr0 (Or.inr (Or.inr (Or.inr (Or.inr (Or.inr (Or.inr (Or.inr (Or.inr (Or.inl w)))))))))) (fun w => cr0 (Or.inr (Or.inr (Or.inr (Or.inr (Or.inr (Or.inr (Or.inr (Or.inr (Or.inr (Or.inr (Or.inl w)))))))))))) (fun w => cr0 (Or.inr (Or.inr (Or.inr (Or.inr (Or.inr (Or.inr (Or.inr (Or.inr (Or.inr (Or.inr (Or.inr (w)))))))))))))]
    obtain ⟨f, p, r2, ⟨b1', b2', b3'⟩, h⟩ := h
    have l1 := h.1
    have l2 := h.2.1
    have l37 := h.2.2.2.2.2.2.2.2.2.2.2.2.2.2.2.2.2.2.2.2.2.2.2.2.2.2.2.2.2.2.2.2.2.2.2.2
    exact ⟨by rw [l37, b3'], by rw [l1, b1'], by rw [l2, b2']⟩
  replace h := pk2 h q
  clear hr1 q
  by_cases z15 : F 15 = 0
  case pos =>
    rcases h with ⟨q, -⟩ | ⟨-, h⟩
    · exact absurd (a1.trans z15) q
    refine Or.inl ?_
    rw [line_6 z15 (g1' z15) cr0 c0 cby]
    obtain ⟨f, p, r2, ⟨b1', b2', b3'⟩, h⟩ := h
    have l1 := h.1
    have l2 := h.2.1
    have l37 := h.2.2.2.2.2.2.2.2.2.2.2.2.2.2.2.2.2.2.2.2.2.2.2.2.2.2.2.2.2.2.2.2.2.2.2.2
    exact ⟨by rw [l37, b3'], by rw [l1, b1'], by rw [l2, b2']⟩
  rcases h with ⟨-, h⟩ | ⟨q, -⟩
  case inr => exact absurd (a1.symm.trans q) z15
  obtain ⟨r1, hr1, h⟩ := h
  rcases x_is_spec hn ha ht wok_reel hk hr1 with ⟨q, c1⟩ | ⟨q, c1⟩
  case inl =>
    replace h := pk1 h q
    clear hr1 q
    refine Or.inl ?_
    unfold lineS
    rw [if_neg c0, if_pos c1]
    refine exE37 h ?_
    clear h
    intro y1 y2 y3 y4 y5 y6 y7 y8 y9 y10 y11 y12 y13 y14 y15 y16 y17 y18 y19 y20 y21 y22 y23 y24 y25 y26 y27 y28 y29 y30 y31 y32 y33 y34 y35 y36 y37 hl h
    refine exA36 h ?_
    intro l1 l2 l3 l4 l5 l6 l7 l8 l9 l10 l11 l12 l13 l14 l15 l16 l17 l18 l19 l20 l21 l22 l23 l24 l25 l26 l27 l28 l29 l30 l31 l32 l33 l34 l35 l36 l37
    clear h
    subst l1 l2 l3 l4 l5 l6 l7 l8 l9 l10 l11 l12 l13 l14 l15 l16 l17 l18 l19 l20 l21 l22 l23 l24 l25 l26 l27 l28 l29 l30 l31 l32 l33 l34 l35 l36 l37
    exact qx_isReelLine hn ht hH0 hV z15 hs hl
  replace h := pf1 h q
  clear hr1 q
  obtain ⟨r1, hr1, h⟩ := h
  rcases x_is_spec hn ha ht wok_town hk hr1 with ⟨q, c2⟩ | ⟨q, c2⟩
  case inl =>
    replace h := pk1 h q
    clear hr1 q
    refine Or.inl ?_
    unfold lineS
    rw [if_neg c0, if_neg c1, if_pos c2]
    refine exE37 h ?_
    clear h
    intro y1 y2 y3 y4 y5 y6 y7 y8 y9 y10 y11 y12 y13 y14 y15 y16 y17 y18 y19 y20 y21 y22 y23 y24 y25 y26 y27 y28 y29 y30 y31 y32 y33 y34 y35 y36 y37 hl h
    refine exA36 h ?_
    intro l1 l2 l3 l4 l5 l6 l7 l8 l9 l10 l11 l12 l13 l14 l15 l16 l17 l18 l19 l20 l21 l22 l23 l24 l25 l26 l27 l28 l29 l30 l31 l32 l33 l34 l35 l36 l37
    clear h
    subst l1 l2 l3 l4 l5 l6 l7 l8 l9 l10 l11 l12 l13 l14 l15 l16 l17 l18 l19 l20 l21 l22 l23 l24 l25 l26 l27 l28 l29 l30 l31 l32 l33 l34 l35 l36 l37
    exact qx_isTownLine hn ht hH0 hV z15 hs hl
  replace h := pf1 h q
  clear hr1 q
  obtain ⟨r1, hr1, h⟩ := h
  rcases x_is_spec hn ha ht wok_mark hk hr1 with ⟨q, c3⟩ | ⟨q, c3⟩
  case inl =>
    replace h := pk1 h q
    clear hr1 q
    refine Or.inl ?_
    unfold lineS
    rw [if_neg c0, if_neg c1, if_neg c2, if_pos c3]
    refine exE37 h ?_
    clear h
    intro y1 y2 y3 y4 y5 y6 y7 y8 y9 y10 y11 y12 y13 y14 y15 y16 y17 y18 y19 y20 y21 y22 y23 y24 y25 y26 y27 y28 y29 y30 y31 y32 y33 y34 y35 y36 y37 hl h
    refine exA36 h ?_
    intro l1 l2 l3 l4 l5 l6 l7 l8 l9 l10 l11 l12 l13 l14 l15 l16 l17 l18 l19 l20 l21 l22 l23 l24 l25 l26 l27 l28 l29 l30 l31 l32 l33 l34 l35 l36 l37
    clear h
    subst l1 l2 l3 l4 l5 l6 l7 l8 l9 l10 l11 l12 l13 l14 l15 l16 l17 l18 l19 l20 l21 l22 l23 l24 l25 l26 l27 l28 l29 l30 l31 l32 l33 l34 l35 l36 l37
    exact qx_isMarkLine hn ht hH0 hV z15 hs hl
  replace h := pf1 h q
  clear hr1 q
  obtain ⟨r1, hr1, h⟩ := h
  rcases x_is_spec hn ha ht wok_join hk hr1 with ⟨q, c4⟩ | ⟨q, c4⟩
  case inl =>
    replace h := pk1 h q
    clear hr1 q
    refine Or.inl ?_
    unfold lineS
    rw [if_neg c0, if_neg c1, if_neg c2, if_neg c3, if_pos c4]
    refine exE37 h ?_
    clear h
    intro y1 y2 y3 y4 y5 y6 y7 y8 y9 y10 y11 y12 y13 y14 y15 y16 y17 y18 y19 y20 y21 y22 y23 y24 y25 y26 y27 y28 y29 y30 y31 y32 y33 y34 y35 y36 y37 hl h
    refine exA36 h ?_
    intro l1 l2 l3 l4 l5 l6 l7 l8 l9 l10 l11 l12 l13 l14 l15 l16 l17 l18 l19 l20 l21 l22 l23 l24 l25 l26 l27 l28 l29 l30 l31 l32 l33 l34 l35 l36 l37
    clear h
    subst l1 l2 l3 l4 l5 l6 l7 l8 l9 l10 l11 l12 l13 l14 l15 l16 l17 l18 l19 l20 l21 l22 l23 l24 l25 l26 l27 l28 l29 l30 l31 l32 l33 l34 l35 l36 l37
    exact qx_isJoinLine hn ht hH0 hV z15 hs hl
  replace h := pf1 h q
  clear hr1 q
  obtain ⟨r1, hr1, h⟩ := h
  rcases x_is_spec hn ha ht wok_weak hk hr1 with ⟨q, c5⟩ | ⟨q, c5⟩
  case inl =>
    replace h := pk1 h q
    clear hr1 q
    refine Or.inl ?_
    unfold lineS
    rw [if_neg c0, if_neg c1, if_neg c2, if_neg c3, if_neg c4, if_pos c5]
    refine exE37 h ?_
    clear h
    intro y1 y2 y3 y4 y5 y6 y7 y8 y9 y10 y11 y12 y13 y14 y15 y16 y17 y18 y19 y20 y21 y22 y23 y24 y25 y26 y27 y28 y29 y30 y31 y32 y33 y34 y35 y36 y37 hl h
    refine exA36 h ?_
    intro l1 l2 l3 l4 l5 l6 l7 l8 l9 l10 l11 l12 l13 l14 l15 l16 l17 l18 l19 l20 l21 l22 l23 l24 l25 l26 l27 l28 l29 l30 l31 l32 l33 l34 l35 l36 l37
    clear h
    subst l1 l2 l3 l4 l5 l6 l7 l8 l9 l10 l11 l12 l13 l14 l15 l16 l17 l18 l19 l20 l21 l22 l23 l24 l25 l26 l27 l28 l29 l30 l31 l32 l33 l34 l35 l36 l37
    exact qx_isWeakLine hn ht hH0 hV z15 hs hl
  replace h := pf1 h q
  clear hr1 q
  obtain ⟨r1, hr1, h⟩ := h
  rcases x_is_spec hn ha ht wok_man hk hr1 with ⟨q, c6⟩ | ⟨q, c6⟩
  case inl =>
    replace h := pk1 h q
    clear hr1 q
    refine Or.inl ?_
    unfold lineS
    rw [if_neg c0, if_neg c1, if_neg c2, if_neg c3, if_neg c4, if_neg c5, if_pos c6]
    refine exE37 h ?_
    clear h
    intro y1 y2 y3 y4 y5 y6 y7 y8 y9 y10 y11 y12 y13 y14 y15 y16 y17 y18 y19 y20 y21 y22 y23 y24 y25 y26 y27 y28 y29 y30 y31 y32 y33 y34 y35 y36 y37 hl h
    refine exA36 h ?_
    intro l1 l2 l3 l4 l5 l6 l7 l8 l9 l10 l11 l12 l13 l14 l15 l16 l17 l18 l19 l20 l21 l22 l23 l24 l25 l26 l27 l28 l29 l30 l31 l32 l33 l34 l35 l36 l37
    clear h
    subst l1 l2 l3 l4 l5 l6 l7 l8 l9 l10 l11 l12 l13 l14 l15 l16 l17 l18 l19 l20 l21 l22 l23 l24 l25 l26 l27 l28 l29 l30 l31 l32 l33 l34 l35 l36 l37
    exact qx_isManLine hn ht hH0 hV z15 hs hl
  replace h := pf1 h q
  clear hr1 q
  obtain ⟨r1, hr1, h⟩ := h
  rcases x_is_spec hn ha ht wok_shows hk hr1 with ⟨q, c7⟩ | ⟨q, c7⟩
  case inl =>
    replace h := pk1 h q
    clear hr1 q
    unfold lineS
    rw [if_neg c0, if_neg c1, if_neg c2, if_neg c3, if_neg c4, if_neg c5, if_neg c6, if_pos c7]
    refine exE37 h ?_
    clear h
    intro y1 y2 y3 y4 y5 y6 y7 y8 y9 y10 y11 y12 y13 y14 y15 y16 y17 y18 y19 y20 y21 y22 y23 y24 y25 y26 y27 y28 y29 y30 y31 y32 y33 y34 y35 y36 y37 hl h
    refine exA36 h ?_
    intro l1 l2 l3 l4 l5 l6 l7 l8 l9 l10 l11 l12 l13 l14 l15 l16 l17 l18 l19 l20 l21 l22 l23 l24 l25 l26 l27 l28 l29 l30 l31 l32 l33 l34 l35 l36 l37
    clear h
    subst l1 l2 l3 l4 l5 l6 l7 l8 l9 l10 l11 l12 l13 l14 l15 l16 l17 l18 l19 l20 l21 l22 l23 l24 l25 l26 l27 l28 l29 l30 l31 l32 l33 l34 l35 l36 l37
    exact qx_isShowsLine hn ht hH0 hV z15 hs hl
  replace h := pf1 h q
  clear hr1 q
  obtain ⟨r1, hr1, h⟩ := h
  rcases x_is_spec hn ha ht wok_boys hk hr1 with ⟨q, c8⟩ | ⟨q, c8⟩
  case inl =>
    replace h := pk1 h q
    clear hr1 q
    refine Or.inl ?_
    unfold lineS
    rw [if_neg c0, if_neg c1, if_neg c2, if_neg c3, if_neg c4, if_neg c5, if_neg c6, if_neg c7, if_pos c8]
    refine exE37 h ?_
    clear h
    intro y1 y2 y3 y4 y5 y6 y7 y8 y9 y10 y11 y12 y13 y14 y15 y16 y17 y18 y19 y20 y21 y22 y23 y24 y25 y26 y27 y28 y29 y30 y31 y32 y33 y34 y35 y36 y37 hl h
    refine exA36 h ?_
    intro l1 l2 l3 l4 l5 l6 l7 l8 l9 l10 l11 l12 l13 l14 l15 l16 l17 l18 l19 l20 l21 l22 l23 l24 l25 l26 l27 l28 l29 l30 l31 l32 l33 l34 l35 l36 l37
    clear h
    subst l1 l2 l3 l4 l5 l6 l7 l8 l9 l10 l11 l12 l13 l14 l15 l16 l17 l18 l19 l20 l21 l22 l23 l24 l25 l26 l27 l28 l29 l30 l31 l32 l33 l34 l35 l36 l37
    exact qx_isBoysLine hn ht hH0 hV z15 hs hl
  replace h := pf1 h q
  clear hr1 q
  obtain ⟨r1, hr1, h⟩ := h
  rcases x_is_spec hn ha ht wok_seen hk hr1 with ⟨q, c9⟩ | ⟨q, c9⟩
  case inl =>
    replace h := pk1 h q
    clear hr1 q
    refine Or.inl ?_
    unfold lineS
    rw [if_neg c0, if_neg c1, if_neg c2, if_neg c3, if_neg c4, if_neg c5, if_neg c6, if_neg c7, if_neg c8, if_pos c9]
    refine exE37 h ?_
    clear h
    intro y1 y2 y3 y4 y5 y6 y7 y8 y9 y10 y11 y12 y13 y14 y15 y16 y17 y18 y19 y20 y21 y22 y23 y24 y25 y26 y27 y28 y29 y30 y31 y32 y33 y34 y35 y36 y37 hl h
    refine exA36 h ?_
    intro l1 l2 l3 l4 l5 l6 l7 l8 l9 l10 l11 l12 l13 l14 l15 l16 l17 l18 l19 l20 l21 l22 l23 l24 l25 l26 l27 l28 l29 l30 l31 l32 l33 l34 l35 l36 l37
    clear h
    subst l1 l2 l3 l4 l5 l6 l7 l8 l9 l10 l11 l12 l13 l14 l15 l16 l17 l18 l19 l20 l21 l22 l23 l24 l25 l26 l27 l28 l29 l30 l31 l32 l33 l34 l35 l36 l37
    exact qx_isSeenLine hn ht hH0 hV z15 hs hl
  replace h := pf1 h q
  clear hr1 q
  have c10 : IsW T n sta "scratch" := by
    rcases cr0 with h | h | h | h | h | h | h | h | h | h | h | h
    · exact absurd h c0
    · exact absurd h c1
    · exact absurd h c2
    · exact absurd h c3
    · exact absurd h c4
    · exact absurd h c5
    · exact absurd h c6
    · exact absurd h c7
    · exact absurd h c8
    · exact absurd h cby
    · exact absurd h c9
    · exact h
  refine Or.inl ?_
  unfold lineS
  rw [if_neg c0, if_neg c1, if_neg c2, if_neg c3, if_neg c4, if_neg c5, if_neg c6, if_neg c7, if_neg c8, if_neg c9, if_pos c10]
  refine exE37 h ?_
  clear h
  intro y1 y2 y3 y4 y5 y6 y7 y8 y9 y10 y11 y12 y13 y14 y15 y16 y17 y18 y19 y20 y21 y22 y23 y24 y25 y26 y27 y28 y29 y30 y31 y32 y33 y34 y35 y36 y37 hl h
  refine exA36 h ?_
  intro l1 l2 l3 l4 l5 l6 l7 l8 l9 l10 l11 l12 l13 l14 l15 l16 l17 l18 l19 l20 l21 l22 l23 l24 l25 l26 l27 l28 l29 l30 l31 l32 l33 l34 l35 l36 l37
  clear h
  subst l1 l2 l3 l4 l5 l6 l7 l8 l9 l10 l11 l12 l13 l14 l15 l16 l17 l18 l19 l20 l21 l22 l23 l24 l25 l26 l27 l28 l29 l30 l31 l32 l33 l34 l35 l36 l37
  exact qx_isScratchLine hn ht hH0 hV z15 hs hl
