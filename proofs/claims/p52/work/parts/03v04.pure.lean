set_option maxRecDepth 100000
set_option maxHeartbeats 4000000
noncomputable def boysS (F T : Nat → Int32) (n a : Int32) : Rs ((Nat → Int32) × Int32) := bnd (numS T n 1 4 a) (fun v1 => bnd (aftS T n "ride" 1 2000 v1.2) (fun v2 => bnd (aftS T n "falls" 0 50 v2.2) (fun v3 => .inr (upd (upd (upd F 135 v2.1) 136 v3.1) 134 v1.1, v3.2))))
theorem qm_boysLine {F T L F2 L2 : Nat → Int32} {n a en fd ft ns pl tk wh at2 en2 fd2 ft2 ns2 pl2 tk2 wh2 : Int32} (hn : IV n 0 900) (hm : MS T n (.inr a) a en fd ft L ns pl tk wh) (h : R_m_boysLineX n a en tk wh ns ft pl fd T L F at2 en2 fd2 ft2 F2 L2 ns2 pl2 tk2 wh2) : MF T n F (boysS F T n a) at2 en2 fd2 ft2 F2 L2 ns2 pl2 tk2 wh2 := by
  obtain ⟨s1, s2, s3, s4, s5⟩ := hm
  unfold R_m_boysLineX at h
  have s0 : MS T n (.inr a) a en fd ft L ns pl tk wh := ⟨s1, s2, rfl, s4, s5⟩
  rcases h with ⟨-, h⟩ | ⟨q, -⟩
  · refine Exists.elim h ?_
    clear h
    intro a1 h
    refine exE9 h ?_
    clear h
    intro e1 f1 u1 L1 n1 p1 t1 w1 r1 ha1 h
    refine exE10 h ?_
    clear h
    intro a2 e2 f2 u2 L2 n2 p2 t2 w2 r2 ha2 h
    refine exE1 h ?_
    clear h
    intro F1 hF1 h
    refine exE10 h ?_
    clear h
    intro a3 e3 f3 u3 L3 n3 p3 t3 w3 r3 ha3 h
    refine exE1 h ?_
    clear h
    intro F3 hF3 h
    clear s1
    have m1 : MV T n (numS T n 1 4 a) r1 a1 e1 f1 u1 L1 n1 p1 t1 w1 := nu_r hn s0 ha1
    cases h1 : numS T n 1 4 a with
    | inl e =>
      rw [h1] at m1
      have m1 := MV_l m1
      have m2 : MS T n (.inl e) a2 e2 f2 u2 L2 n2 p2 t2 w2 := af_l hn wok_ride m1 ha2
      have m3 : MS T n (.inl e) a3 e3 f3 u3 L3 n3 p3 t3 w3 := af_l hn wok_falls m2 ha3
      refine exA2 (MS_l m3) ?_
      intro x1 x2 x3
      rcases h with h | ⟨q, -⟩
      · refine exA10 h ?_
        clear h
        intro zn0 k1 k2 k3 k4 k5 k6 k7 k8 k9 k10
        clear zn0
        simp only [boysS, h1, bnd]; exact ⟨by rw [k3, x1], by rw [k4, x2], by rw [k8, x3]⟩
      · rw [x1] at q; exact absurd q one0
    | inr v1 =>
      rw [h1] at m1
      refine exA1 (MV_r m1) ?_
      intro er1 s1
      have m2 : MV T n (aftS T n "ride" 1 2000 v1.2) r2 a2 e2 f2 u2 L2 n2 p2 t2 w2 := af_r hn wok_ride s1 ha2
      cases h2 : aftS T n "ride" 1 2000 v1.2 with
      | inl e =>
        rw [h2] at m2
        have m2 := MV_l m2
        have m3 : MS T n (.inl e) a3 e3 f3 u3 L3 n3 p3 t3 w3 := af_l hn wok_falls m2 ha3
        refine exA2 (MS_l m3) ?_
        intro x1 x2 x3
        rcases h with h | ⟨q, -⟩
        · refine exA10 h ?_
          clear h
          intro zn0 k1 k2 k3 k4 k5 k6 k7 k8 k9 k10
          clear zn0
          simp only [boysS, h1, h2, bnd]; exact ⟨by rw [k3, x1], by rw [k4, x2], by rw [k8, x3]⟩
        · rw [x1] at q; exact absurd q one0
      | inr v2 =>
        rw [h2] at m2
        refine exA1 (MV_r m2) ?_
        intro er2 s2
        have m3 : MV T n (aftS T n "falls" 0 50 v2.2) r3 a3 e3 f3 u3 L3 n3 p3 t3 w3 := af_r hn wok_falls s2 ha3
        cases h3 : aftS T n "falls" 0 50 v2.2 with
        | inl e =>
          rw [h3] at m3
          have m3 := MV_l m3
          refine exA2 (MS_l m3) ?_
          intro x1 x2 x3
          rcases h with h | ⟨q, -⟩
          · refine exA10 h ?_
            clear h
            intro zn0 k1 k2 k3 k4 k5 k6 k7 k8 k9 k10
            clear zn0
            simp only [boysS, h1, h2, h3, bnd]; exact ⟨by rw [k3, x1], by rw [k4, x2], by rw [k8, x3]⟩
          · rw [x1] at q; exact absurd q one0
        | inr v3 =>
          rw [h3] at m3
          refine exA1 (MV_r m3) ?_
          intro er3 s3
          rcases h with ⟨q, -⟩ | h
          · exact absurd (MS_r s3).1 q
          · refine exA1 h ?_
            clear h
            intro zn0 h
            refine exE1 h ?_
            clear h
            intro G hG h
            refine exA9 h ?_
            clear h
            intro k1 k2 k3 k4 k5 k6 k7 k8 k9 k10
            clear zn0
            simp only [boysS, h1, h2, h3, bnd]
            subst k1 k2 k3 k4 k6 k7 k8 k9 k10
            refine ⟨?_, s3⟩
            rw [k5, hG, hF3, hF1, er1, er2, er3, tc134, tc135, tc136]
  · exact absurd s1 q
noncomputable def seenS (F T : Nat → Int32) (n a : Int32) : Rs ((Nat → Int32) × Int32) := if F 13 = 6 then .inl (5, a) else if F 15 = 0 then .inl (6, a) else if F 12 = 0 then .inl (6, a) else bnd (numS T n 1 (F 12 - 1) (nx T n a)) (fun v1 => bnd (aftS T n "black" 0 9999 v1.2) (fun v2 => bnd (aftS T n "lost" 0 9999 v2.2) (fun v3 => .inr (upd (upd (upd (upd F (137 + 3 * (F 13).toInt.toNat) v1.1) (137 + 3 * (F 13).toInt.toNat + 1) v2.1) (137 + 3 * (F 13).toInt.toNat + 2) v3.1) 13 (F 13 + 1), v3.2))))
theorem qm_seenLine {F T L F2 L2 : Nat → Int32} {n a en fd ft ns pl tk wh at2 en2 fd2 ft2 ns2 pl2 tk2 wh2 : Int32} (hn : IV n 0 900) (h13 : IV (F 13) 0 6) (hm : MS T n (.inr a) a en fd ft L ns pl tk wh) (h : R_m_seenLineX n a en tk wh ns ft pl fd T L F at2 en2 fd2 ft2 F2 L2 ns2 pl2 tk2 wh2) : MF T n F (seenS F T n a) at2 en2 fd2 ft2 F2 L2 ns2 pl2 tk2 wh2 := by
  obtain ⟨s1, s2, s3, s4, s5⟩ := hm
  unfold R_m_seenLineX at h
  obtain ⟨z1, hz1, h⟩ := h
  rw [tc13] at hz1
  rcases h with ⟨g1, z6, hz6, h⟩ | ⟨g1, f1, u1, p1, hb, z6, hz6, h⟩
  · rw [hz1] at g1
    rw [tc15] at hz6
    rcases h with h | ⟨g2, z16, hz16, h⟩
    · refine exA1 h ?_
      clear h
      intro g2 h
      refine exE3 h ?_
      clear h
      intro f1 u1 p1 hb h
      refine exA9 h ?_
      clear h
      intro k1 k2 k3 k4 k5 k6 k7 k8 k9 k10
      obtain ⟨x1, x2, x3⟩ := qm_bad s1 hb
      rw [hz6] at g2
      simp only [seenS, if_neg g1, if_pos g2]; exact ⟨by rw [k3, x1], by rw [k4, x2], by rw [k8, x3]⟩
    · rw [hz6] at g2
      rw [tc12] at hz16
      rcases h with ⟨g3, h⟩ | h
      · rw [hz16] at g3
        rcases h with ⟨-, h⟩ | ⟨q, -⟩
        · refine Exists.elim h ?_
          clear h
          intro a0 h
          refine exE5 h ?_
          clear h
          intro e0 L0 n0 t0 w0 hx0 h
          refine exE1 h ?_
          clear h
          intro z36 hz36 h
          refine exE1 h ?_
          clear h
          intro z39 hz39 h
          refine exE1 h ?_
          clear h
          intro z42 hz42 h
          refine exE10 h ?_
          clear h
          intro a1 e1 f1 u1 L1 n1 p1 t1 w1 r1 ha1 h
          refine exE1 h ?_
          clear h
          intro F1 hF1 h
          refine exE1 h ?_
          clear h
          intro z73 hz73 h
          refine exE10 h ?_
          clear h
          intro a2 e2 f2 u2 L2 n2 p2 t2 w2 r2 ha2 h
          refine exE1 h ?_
          clear h
          intro F2' hF2 h
          refine exE1 h ?_
          clear h
          intro z106 hz106 h
          refine exE10 h ?_
          clear h
          intro a3 e3 f3 u3 L3 n3 p3 t3 w3 r3 ha3 h
          refine exE1 h ?_
          clear h
          intro F3 hF3 h
          obtain ⟨x1, x2, x3⟩ := qm_next_at hn s4 s5 hx0
          have s0 : MS T n (.inr (nx T n a)) a0 e0 fd ft L0 n0 pl t0 w0 := ⟨s1, s2, x1, x2, x3⟩
          clear s1
          have n6 : (6 : Int32).toInt = 6 := by decide
          have b1 : (F 13).toInt ≠ 6 := fun q => g1 (Int32.toInt_inj.mp (q.trans n6.symm))
          have c1 : z1.toInt = (F 13).toInt := by rw [hz1]
          have c36 : z36.toInt = 3 * z1.toInt := in_mul hz36 (by decide) (by decide) (show IV z1 0 5 from ⟨by omega, by omega⟩) (by decide) (by decide)
          have c39 : z39.toInt = 137 + z36.toInt := in_add hz39 (show IV 137 137 137 from (by decide)) (show IV z36 0 15 from ⟨by omega, by omega⟩) (by decide) (by decide)
          have c73 : z73.toInt = z39.toInt + 1 := in_add hz73 (show IV z39 137 152 from ⟨by omega, by omega⟩) (show IV 1 1 1 from (by decide)) (by decide) (by decide)
          have c106 : z106.toInt = z39.toInt + 2 := in_add hz106 (show IV z39 137 152 from ⟨by omega, by omega⟩) (show IV 2 2 2 from (by decide)) (by decide) (by decide)
          have i39 : z39.toNatClampNeg = 137 + 3 * (F 13).toInt.toNat := by have := tn_i (z := z39) (by omega); omega
          have i73 : z73.toNatClampNeg = 137 + 3 * (F 13).toInt.toNat + 1 := by have := tn_i (z := z73) (by omega); omega
          have i106 : z106.toNatClampNeg = 137 + 3 * (F 13).toInt.toNat + 2 := by have := tn_i (z := z106) (by omega); omega
          rw [hz42, hz16] at ha1
          have m1 : MV T n (numS T n 1 (F 12 - 1) (nx T n a)) r1 a1 e1 f1 u1 L1 n1 p1 t1 w1 := nu_r hn s0 ha1
          cases h1 : numS T n 1 (F 12 - 1) (nx T n a) with
          | inl e =>
            rw [h1] at m1
            have m1 := MV_l m1
            have m2 : MS T n (.inl e) a2 e2 f2 u2 L2 n2 p2 t2 w2 := af_l hn wok_black m1 ha2
            have m3 : MS T n (.inl e) a3 e3 f3 u3 L3 n3 p3 t3 w3 := af_l hn wok_lost m2 ha3
            refine exA2 (MS_l m3) ?_
            intro x1 x2 x3
            rcases h with h | ⟨q, -⟩
            · refine exA10 h ?_
              clear h
              intro zn0 k1 k2 k3 k4 k5 k6 k7 k8 k9 k10
              clear zn0
              simp only [seenS, h1, bnd, if_neg g1, if_neg g2, if_neg g3]; exact ⟨by rw [k3, x1], by rw [k4, x2], by rw [k8, x3]⟩
            · rw [x1] at q; exact absurd q one0
          | inr v1 =>
            rw [h1] at m1
            refine exA1 (MV_r m1) ?_
            intro er1 s1
            have m2 : MV T n (aftS T n "black" 0 9999 v1.2) r2 a2 e2 f2 u2 L2 n2 p2 t2 w2 := af_r hn wok_black s1 ha2
            cases h2 : aftS T n "black" 0 9999 v1.2 with
            | inl e =>
              rw [h2] at m2
              have m2 := MV_l m2
              have m3 : MS T n (.inl e) a3 e3 f3 u3 L3 n3 p3 t3 w3 := af_l hn wok_lost m2 ha3
              refine exA2 (MS_l m3) ?_
              intro x1 x2 x3
              rcases h with h | ⟨q, -⟩
              · refine exA10 h ?_
                clear h
                intro zn0 k1 k2 k3 k4 k5 k6 k7 k8 k9 k10
                clear zn0
                simp only [seenS, h1, h2, bnd, if_neg g1, if_neg g2, if_neg g3]; exact ⟨by rw [k3, x1], by rw [k4, x2], by rw [k8, x3]⟩
              · rw [x1] at q; exact absurd q one0
            | inr v2 =>
              rw [h2] at m2
              refine exA1 (MV_r m2) ?_
              intro er2 s2
              have m3 : MV T n (aftS T n "lost" 0 9999 v2.2) r3 a3 e3 f3 u3 L3 n3 p3 t3 w3 := af_r hn wok_lost s2 ha3
              cases h3 : aftS T n "lost" 0 9999 v2.2 with
              | inl e =>
                rw [h3] at m3
                have m3 := MV_l m3
                refine exA2 (MS_l m3) ?_
                intro x1 x2 x3
                rcases h with h | ⟨q, -⟩
                · refine exA10 h ?_
                  clear h
                  intro zn0 k1 k2 k3 k4 k5 k6 k7 k8 k9 k10
                  clear zn0
                  simp only [seenS, h1, h2, h3, bnd, if_neg g1, if_neg g2, if_neg g3]; exact ⟨by rw [k3, x1], by rw [k4, x2], by rw [k8, x3]⟩
                · rw [x1] at q; exact absurd q one0
              | inr v3 =>
                rw [h3] at m3
                refine exA1 (MV_r m3) ?_
                intro er3 s3
                rcases h with ⟨q, -⟩ | h
                · exact absurd (MS_r s3).1 q
                · refine exA1 h ?_
                  clear h
                  intro zn0 h
                  refine exE1 h ?_
                  clear h
                  intro z142 hz142 h
                  refine exE1 h ?_
                  clear h
                  intro G hG h
                  refine exA9 h ?_
                  clear h
                  intro k1 k2 k3 k4 k5 k6 k7 k8 k9 k10
                  clear zn0
                  simp only [seenS, h1, h2, h3, bnd, if_neg g1, if_neg g2, if_neg g3]
                  subst k1 k2 k3 k4 k6 k7 k8 k9 k10
                  refine ⟨?_, s3⟩
                  rw [k5, hG, hF3, hF2, hF1, er1, er2, er3, hz142, hz1, tc13, i39, i73, i106]
        · exact absurd s1 q
      · refine exA1 h ?_
        clear h
        intro g3 h
        refine exE3 h ?_
        clear h
        intro f1 u1 p1 hb h
        refine exA9 h ?_
        clear h
        intro k1 k2 k3 k4 k5 k6 k7 k8 k9 k10
        obtain ⟨x1, x2, x3⟩ := qm_bad s1 hb
        rw [hz16] at g3
        simp only [seenS, if_neg g1, if_neg g2, if_pos g3]; exact ⟨by rw [k3, x1], by rw [k4, x2], by rw [k8, x3]⟩
  · rw [hz1] at g1
    obtain ⟨y1, y2, y3⟩ := qm_bad s1 hb
    simp only [seenS, if_pos g1]
    rcases h with h | ⟨g2, z16, hz16, h⟩
    · refine exA1 h ?_
      clear h
      intro g2 h
      refine exE3 h ?_
      clear h
      intro f2 u2 p2 hb2 h
      refine exA9 h ?_
      clear h
      intro k1 k2 k3 k4 k5 k6 k7 k8 k9 k10
      obtain ⟨x1, x2, x3⟩ := qm_bad1 y1 hb2
      exact ⟨by rw [k3, x1], by rw [k4, x2, y2], by rw [k8, x3, y3]⟩
    · rcases h with h | h
      · refine exA10 h ?_
        clear h
        intro g3 k1 k2 k3 k4 k5 k6 k7 k8 k9 k10
        exact ⟨by rw [k3, y1], by rw [k4, y2], by rw [k8, y3]⟩
      · refine exA1 h ?_
        clear h
        intro g3 h
        refine exE3 h ?_
        clear h
        intro f2 u2 p2 hb2 h
        refine exA9 h ?_
        clear h
        intro k1 k2 k3 k4 k5 k6 k7 k8 k9 k10
        obtain ⟨x1, x2, x3⟩ := qm_bad1 y1 hb2
        exact ⟨by rw [k3, x1], by rw [k4, x2, y2], by rw [k8, x3, y3]⟩
noncomputable def reelP (F T : Nat → Int32) (n a : Int32) : Rs (Int32 × Int32) := bnd (oldS F T n 0 7 a) (fun r => .inr (r, nx T n a))
theorem oldR_iv {F T : Nat → Int32} {n a r : Int32} (h : oldS F T n 0 7 a = .inr r) : IV r 0 7 := by
  unfold oldS at h
  by_cases ok : NameOk T n a
  · rw [if_pos ok] at h
    have iv := findS_iv (F := F) (T := T) (n := n) (a := a)
    split at h
    · cases h
    · split at h
      · cases h
      · rename_i q1 q2
        rw [lt_I, zI] at q1
        have n7 : (7 : Int32).toInt = 7 := by decide
        rw [lt_I, n7] at q2
        have e := Sum.inr.inj h
        have e2 := in_sub e.symm iv (show IV 0 0 0 from (by decide)) (by decide) (by decide)
        rw [zI] at e2
        exact ⟨by omega, by omega⟩
  · rw [if_neg ok] at h; cases h
theorem qm_reelPassed {F T L L2 : Nat → Int32} {n a en fd ft ns pl tk wh at2 en2 fd2 ft2 ns2 pl2 tk2 wh2 r : Int32} (hn : IV n 0 900) (hm : MS T n (.inr a) a en fd ft L ns pl tk wh) (h : R_m_reelPassedX n a en tk wh ns ft pl fd T L F at2 en2 fd2 ft2 L2 ns2 pl2 tk2 wh2 r) : MV T n (reelP F T n a) r at2 en2 fd2 ft2 L2 ns2 pl2 tk2 wh2 := by
  obtain ⟨s1, s2, s3, s4, s5⟩ := hm
  simp only [R_m_reelPassedX] at h
  obtain ⟨f1, u1, p1, r1, hr, h⟩ := h
  rcases qm_namedR hn s4 s1 s5 hr with ⟨f, e1, e2, e3, e4⟩ | ⟨e1, e2, e3, e4⟩
  · rcases h with h | ⟨q, -⟩
    · refine exA10 h ?_
      clear h
      intro zn0 k1 k2 k3 k4 k5 k6 k7 k8 k9 k10
      clear zn0
      simp only [reelP, e1, bnd]
      exact ⟨by rw [k3, e2], by rw [k4, e3], by rw [k7, e4]⟩
    · rw [e2] at q; exact absurd q one0
  · rcases h with ⟨q, -⟩ | h
    · exact absurd e2 q
    · refine exA1 h ?_
      clear h
      intro zn0 h
      refine exE6 h ?_
      clear h
      intro a2 e5 M2 m2 t2 w2 hx h
      refine exA9 h ?_
      clear h
      intro k1 k2 k3 k4 k5 k6 k7 k8 k9 k10
      clear zn0
      obtain ⟨x1, x2, x3⟩ := qm_next_at hn s4 s5 hx
      simp only [reelP, e1, bnd]
      subst k1 k2 k5 k6 k8 k9
      exact ⟨k10, by rw [k3, e2], by rw [k4, e3, s2], x1, x2, x3⟩
theorem qm_frameOf {F T L L2 : Nat → Int32} {n p at_ en fd ft ns pl tk wh at2 en2 fd2 ft2 ns2 pl2 tk2 wh2 r : Int32} {ρ : Rs Int32} (hn : IV n 0 900) (hp : IV p 0 7) (hm : MS T n ρ at_ en fd ft L ns pl tk wh) (h : R_m_frameOfX p n at_ en tk wh ns ft pl fd T L F at2 en2 fd2 ft2 L2 ns2 pl2 tk2 wh2 r) : MV T n (bnd ρ (numS T n 0 (F (16 + 3 * p.toInt.toNat) - 1))) r at2 en2 fd2 ft2 L2 ns2 pl2 tk2 wh2 := by
  simp only [R_m_frameOfX] at h
  refine exE1 h ?_
  clear h
  intro z1 hz1 h
  refine exE1 h ?_
  clear h
  intro z4 hz4 h
  refine exE1 h ?_
  clear h
  intro z7 hz7 h
  refine exE1 h ?_
  clear h
  intro z8 hz8 h
  refine exE10 h ?_
  clear h
  intro a2 e2 f2 u2 M2 n2 p2 t2 w2 r2 hu h
  refine exA9 h ?_
  clear h
  intro k1 k2 k3 k4 k5 k6 k7 k8 k9 k10
  have c1 : z1.toInt = 3 * p.toInt := in_mul hz1 (by decide) (by decide) hp (by decide) (by decide)
  have c4 : z4.toInt = 16 + z1.toInt := in_add hz4 (show IV 16 16 16 from (by decide)) (show IV z1 0 21 from ⟨by have := hp; omega, by have := hp; omega⟩) (by decide) (by decide)
  have i4 : z4.toNatClampNeg = 16 + 3 * p.toInt.toNat := by have := hp; have := tn_i (z := z4) (by omega); omega
  rw [hz8, hz7, i4] at hu
  subst k1 k2 k3 k4 k5 k6 k7 k8 k9 k10
  exact qm_number hn hm hu
theorem fo_r {F T L L2 : Nat → Int32} {n p at_ en fd ft ns pl tk wh at2 en2 fd2 ft2 ns2 pl2 tk2 wh2 r b : Int32} (hn : IV n 0 900) (hp : IV p 0 7) (hm : MS T n (.inr b) at_ en fd ft L ns pl tk wh) (h : R_m_frameOfX p n at_ en tk wh ns ft pl fd T L F at2 en2 fd2 ft2 L2 ns2 pl2 tk2 wh2 r) : MV T n (numS T n 0 (F (16 + 3 * p.toInt.toNat) - 1) b) r at2 en2 fd2 ft2 L2 ns2 pl2 tk2 wh2 := by
  have q := qm_frameOf hn hp hm h
  rw [bnd_r] at q
  exact q
theorem reelP_inr {F T : Nat → Int32} {n a : Int32} {v : Int32 × Int32} (h : reelP F T n a = .inr v) : IV v.1 0 7 ∧ v.2 = nx T n a := by
  unfold reelP at h
  cases q : oldS F T n 0 7 a with
  | inl e => rw [q] at h; cases h
  | inr r =>
    rw [q] at h
    have := Sum.inr.inj h
    subst this
    exact ⟨oldR_iv q, rfl⟩
noncomputable def joinS (F T : Nat → Int32) (n a : Int32) : Rs ((Nat → Int32) × Int32) := bnd (reelP F T n a) (fun v0 => bnd (numS T n 0 (F (16 + 3 * v0.1.toInt.toNat) - 1) v0.2) (fun v1 => bnd (aftS T n "lacks" 1 99 v1.2) (fun v2 => .inr (upd (upd (upd F (80 + 2 * (F 9).toInt.toNat) v0.1) (80 + 2 * (F 9).toInt.toNat + 1) v2.1) 9 (F 9 + 1), v2.2))))
noncomputable def scratchS (F T : Nat → Int32) (n a : Int32) : Rs ((Nat → Int32) × Int32) := bnd (reelP F T n a) (fun v0 => bnd (numS T n 0 (F (16 + 3 * v0.1.toInt.toNat) - 1) v0.2) (fun v1 => .inr (upd (upd (upd F (155 + 2 * (F 14).toInt.toNat) v0.1) (155 + 2 * (F 14).toInt.toNat + 1) v1.1) 14 (F 14 + 1), v1.2)))
theorem qm_joinLine {F T L F2 L2 : Nat → Int32} {n a en fd ft ns pl tk wh at2 en2 fd2 ft2 ns2 pl2 tk2 wh2 : Int32} (hn : IV n 0 900) (h9 : IV (F 9) 0 7) (hm : MS T n (.inr a) a en fd ft L ns pl tk wh) (h : R_m_joinLineX n a en tk wh ns ft pl fd T L F at2 en2 fd2 ft2 F2 L2 ns2 pl2 tk2 wh2) : MF T n F (joinS F T n a) at2 en2 fd2 ft2 F2 L2 ns2 pl2 tk2 wh2 := by
  obtain ⟨s1, s2, s3, s4, s5⟩ := hm
  unfold R_m_joinLineX at h
  rcases h with ⟨-, h⟩ | ⟨q, -⟩
  · refine Exists.elim h ?_
    clear h
    intro z5 h
    refine exA1 h ?_
    clear h
    intro hz5 h
    refine exE1 h ?_
    clear h
    intro z8 hz8 h
    refine exE1 h ?_
    clear h
    intro z11 hz11 h
    refine exE10 h ?_
    clear h
    intro a0 e0 f0 u0 L0 n0 p0 t0 w0 r0 ha0 h
    refine exE1 h ?_
    clear h
    intro F0 hF0 h
    rw [tc9] at hz5
    have g5 : z5.toInt = (F 9).toInt := by rw [hz5]
    have g8 : z8.toInt = 2 * z5.toInt := in_mul hz8 (by decide) (by decide) (show IV z5 0 7 from ⟨by omega, by omega⟩) (by decide) (by decide)
    have g11 : z11.toInt = 80 + z8.toInt := in_add hz11 (show IV 80 80 80 from (by decide)) (show IV z8 0 14 from ⟨by omega, by omega⟩) (by decide) (by decide)
    have c11 : z11.toNatClampNeg = 80 + 2 * (F 9).toInt.toNat := by have := tn_i (z := z11) (by omega); omega
    have m0 := qm_reelPassed hn ⟨s1, s2, rfl, s4, s5⟩ ha0
    cases h0 : reelP F T n a with
    | inl e =>
      rw [h0] at m0
      obtain ⟨y1, y2, y3⟩ := MS_l (MV_l m0)
      rcases h with ⟨-, h⟩ | ⟨q, -⟩
      · refine Exists.elim h ?_
        clear h
        intro z40 h
        refine exA1 h ?_
        clear h
        intro hz40 h
        refine exE10 h ?_
        clear h
        intro a2 e2 f2 u2 L2 n2 p2 t2 w2 r2 ha2 h
        refine exE1 h ?_
        clear h
        intro F1 hF1 h
        have m2 : MS T n (.inl e) a2 e2 f2 u2 L2 n2 p2 t2 w2 := af_l hn wok_lacks ⟨y1, y2, y3⟩ ha2
        refine exA2 (MS_l m2) ?_
        intro x1 x2 x3
        rcases h with h | ⟨q, -⟩
        · refine exA10 h ?_
          clear h
          intro zn0 k1 k2 k3 k4 k5 k6 k7 k8 k9 k10
          clear zn0
          simp only [joinS, h0, bnd]; exact ⟨by rw [k3, x1], by rw [k4, x2], by rw [k8, x3]⟩
        · rw [x1] at q; exact absurd q one0
      · rw [y1] at q; exact absurd q one0
    | inr v0 =>
      rw [h0] at m0
      refine exA1 (MV_r m0) ?_
      intro er0 s0
      obtain ⟨iv0, ev0⟩ := reelP_inr h0
      have eF : F0 z11.toNatClampNeg = v0.1 := by rw [hF0, upd_at, er0]
      have eF2 : F0 (16 + 3 * v0.1.toInt.toNat) = F (16 + 3 * v0.1.toInt.toNat) := by rw [hF0, upd_ne (by have := iv0; omega)]
      rcases h with ⟨q, -⟩ | ⟨-, h⟩
      · exact absurd (MS_r s0).1 q
      · refine Exists.elim h ?_
        clear h
        intro z83 h
        refine exA1 h ?_
        clear h
        intro hz83 h
        refine exE10 h ?_
        clear h
        intro a1 e1 f1 u1 L1 n1 p1 t1 w1 r1 ha1 h
        refine exE1 h ?_
        clear h
        intro z102 hz102 h
        refine exE10 h ?_
        clear h
        intro a2 e2 f2 u2 L2 n2 p2 t2 w2 r2 ha2 h
        refine exE1 h ?_
        clear h
        intro F1 hF1 h
        rw [eF] at hz83
        subst hz83
        have g102 : z102.toInt = z11.toInt + 1 := in_add hz102 (show IV z11 80 94 from ⟨by omega, by omega⟩) (show IV 1 1 1 from (by decide)) (by decide) (by decide)
        have c102 : z102.toNatClampNeg = 80 + 2 * (F 9).toInt.toNat + 1 := by have := tn_i (z := z102) (by omega); omega
        have m1 : MV T n (numS T n 0 (F0 (16 + 3 * v0.1.toInt.toNat) - 1) v0.2) r1 a1 e1 f1 u1 L1 n1 p1 t1 w1 := fo_r hn iv0 s0 ha1
        rw [eF2] at m1
        cases h1 : numS T n 0 (F (16 + 3 * v0.1.toInt.toNat) - 1) v0.2 with
        | inl e =>
          rw [h1] at m1
          have m2 : MS T n (.inl e) a2 e2 f2 u2 L2 n2 p2 t2 w2 := af_l hn wok_lacks (MV_l m1) ha2
          refine exA2 (MS_l m2) ?_
          intro x1 x2 x3
          rcases h with h | ⟨q, -⟩
          · refine exA10 h ?_
            clear h
            intro zn0 k1 k2 k3 k4 k5 k6 k7 k8 k9 k10
            clear zn0
            simp only [joinS, h0, h1, bnd]; exact ⟨by rw [k3, x1], by rw [k4, x2], by rw [k8, x3]⟩
          · rw [x1] at q; exact absurd q one0
        | inr v1 =>
          rw [h1] at m1
          refine exA1 (MV_r m1) ?_
          intro er1 s1
          have m2 : MV T n (aftS T n "lacks" 1 99 v1.2) r2 a2 e2 f2 u2 L2 n2 p2 t2 w2 := af_r hn wok_lacks s1 ha2
          cases h2 : aftS T n "lacks" 1 99 v1.2 with
          | inl e =>
            rw [h2] at m2
            have m2 := MV_l m2
            refine exA2 (MS_l m2) ?_
            intro x1 x2 x3
            rcases h with h | ⟨q, -⟩
            · refine exA10 h ?_
              clear h
              intro zn0 k1 k2 k3 k4 k5 k6 k7 k8 k9 k10
              clear zn0
              simp only [joinS, h0, h1, h2, bnd]; exact ⟨by rw [k3, x1], by rw [k4, x2], by rw [k8, x3]⟩
            · rw [x1] at q; exact absurd q one0
          | inr v2 =>
            rw [h2] at m2
            refine exA1 (MV_r m2) ?_
            intro er2 s2
            rcases h with ⟨q, -⟩ | h
            · exact absurd (MS_r s2).1 q
            · refine exA1 h ?_
              clear h
              intro zn0 h
              refine exE1 h ?_
              clear h
              intro z74 hz74 h
              refine exE1 h ?_
              clear h
              intro G hG h
              refine exA9 h ?_
              clear h
              intro k1 k2 k3 k4 k5 k6 k7 k8 k9 k10
              clear zn0
              simp only [joinS, h0, h1, h2, bnd]
              subst k1 k2 k3 k4 k6 k7 k8 k9 k10
              refine ⟨?_, s2⟩
              rw [k5, hG, hF1, hF0, er0, er2, hz74, hz5, tc9, c11, c102]
  · exact absurd s1 q
theorem qm_scratchLine {F T L F2 L2 : Nat → Int32} {n a en fd ft ns pl tk wh at2 en2 fd2 ft2 ns2 pl2 tk2 wh2 : Int32} (hn : IV n 0 900) (h9 : IV (F 14) 0 5) (hm : MS T n (.inr a) a en fd ft L ns pl tk wh) (h : R_m_scratchLineX n a en tk wh ns ft pl fd T L F at2 en2 fd2 ft2 F2 L2 ns2 pl2 tk2 wh2) : MF T n F (scratchS F T n a) at2 en2 fd2 ft2 F2 L2 ns2 pl2 tk2 wh2 := by
  obtain ⟨s1, s2, s3, s4, s5⟩ := hm
  unfold R_m_scratchLineX at h
  rcases h with ⟨-, h⟩ | ⟨q, -⟩
  · refine Exists.elim h ?_
    clear h
    intro z5 h
    refine exA1 h ?_
    clear h
    intro hz5 h
    refine exE1 h ?_
    clear h
    intro z8 hz8 h
    refine exE1 h ?_
    clear h
    intro z11 hz11 h
    refine exE10 h ?_
    clear h
    intro a0 e0 f0 u0 L0 n0 p0 t0 w0 r0 ha0 h
    refine exE1 h ?_
    clear h
    intro F0 hF0 h
    rw [tc14] at hz5
    have g5 : z5.toInt = (F 14).toInt := by rw [hz5]
    have g8 : z8.toInt = 2 * z5.toInt := in_mul hz8 (by decide) (by decide) (show IV z5 0 5 from ⟨by omega, by omega⟩) (by decide) (by decide)
    have g11 : z11.toInt = 155 + z8.toInt := in_add hz11 (show IV 155 155 155 from (by decide)) (show IV z8 0 10 from ⟨by omega, by omega⟩) (by decide) (by decide)
    have c11 : z11.toNatClampNeg = 155 + 2 * (F 14).toInt.toNat := by have := tn_i (z := z11) (by omega); omega
    have m0 := qm_reelPassed hn ⟨s1, s2, rfl, s4, s5⟩ ha0
    cases h0 : reelP F T n a with
    | inl e =>
      rw [h0] at m0
      obtain ⟨y1, y2, y3⟩ := MS_l (MV_l m0)
      rcases h with h | ⟨q, -⟩
      · refine exA10 h ?_
        clear h
        intro zn0 k1 k2 k3 k4 k5 k6 k7 k8 k9 k10
        clear zn0
        simp only [scratchS, h0, bnd]; exact ⟨by rw [k3, y1], by rw [k4, y2], by rw [k8, y3]⟩
      · rw [y1] at q; exact absurd q one0
    | inr v0 =>
      rw [h0] at m0
      refine exA1 (MV_r m0) ?_
      intro er0 s0
      obtain ⟨iv0, ev0⟩ := reelP_inr h0
      have eF : F0 z11.toNatClampNeg = v0.1 := by rw [hF0, upd_at, er0]
      have eF2 : F0 (16 + 3 * v0.1.toInt.toNat) = F (16 + 3 * v0.1.toInt.toNat) := by rw [hF0, upd_ne (by have := iv0; omega)]
      rcases h with ⟨q, -⟩ | ⟨-, h⟩
      · exact absurd (MS_r s0).1 q
      · refine Exists.elim h ?_
        clear h
        intro z42 h
        refine exA1 h ?_
        clear h
        intro hz42 h
        refine exE1 h ?_
        clear h
        intro z45 hz45 h
        refine exE10 h ?_
        clear h
        intro a1 e1 f1 u1 L1 n1 p1 t1 w1 r1 ha1 h
        refine exE1 h ?_
        clear h
        intro F1 hF1 h
        rw [eF] at hz45
        subst hz45
        have g102 : z42.toInt = z11.toInt + 1 := in_add hz42 (show IV z11 155 165 from ⟨by omega, by omega⟩) (show IV 1 1 1 from (by decide)) (by decide) (by decide)
        have c102 : z42.toNatClampNeg = 155 + 2 * (F 14).toInt.toNat + 1 := by have := tn_i (z := z42) (by omega); omega
        have m1 : MV T n (numS T n 0 (F0 (16 + 3 * v0.1.toInt.toNat) - 1) v0.2) r1 a1 e1 f1 u1 L1 n1 p1 t1 w1 := fo_r hn iv0 s0 ha1
        rw [eF2] at m1
        cases h1 : numS T n 0 (F (16 + 3 * v0.1.toInt.toNat) - 1) v0.2 with
        | inl e =>
          rw [h1] at m1
          obtain ⟨x1, x2, x3⟩ := MS_l (MV_l m1)
          rcases h with h | ⟨q, -⟩
          · refine exA10 h ?_
            clear h
            intro zn0 k1 k2 k3 k4 k5 k6 k7 k8 k9 k10
            clear zn0
            simp only [scratchS, h0, h1, bnd]; exact ⟨by rw [k3, x1], by rw [k4, x2], by rw [k8, x3]⟩
          · rw [x1] at q; exact absurd q one0
        | inr v1 =>
          rw [h1] at m1
          refine exA1 (MV_r m1) ?_
          intro er1 s1
          rcases h with ⟨q, -⟩ | h
          · exact absurd (MS_r s1).1 q
          · refine exA1 h ?_
            clear h
            intro zn0 h
            refine exE1 h ?_
            clear h
            intro z74 hz74 h
            refine exE1 h ?_
            clear h
            intro G hG h
            refine exA9 h ?_
            clear h
            intro k1 k2 k3 k4 k5 k6 k7 k8 k9 k10
            clear zn0
            simp only [scratchS, h0, h1, bnd]
            subst k1 k2 k3 k4 k6 k7 k8 k9 k10
            refine ⟨?_, s1⟩
            rw [k5, hG, hF1, hF0, er0, er1, hz74, hz5, tc14, c11, c102]
  · exact absurd s1 q
noncomputable def opnS (F T : Nat → Int32) (n p a : Int32) : Rs Int32 := if p = 0 then .inl (5, a) else if F 15 = 0 then .inl (6, a) else .inr (nx T n a)
noncomputable def onceS (F T : Nat → Int32) (n p a : Int32) : Rs Int32 := if p = 0 then (if F 15 = 0 then .inl (6, a) else .inr (nx T n a)) else .inl (3, a)
theorem qm_opens {F T L L2 : Nat → Int32} {n p a en fd ft ns pl tk wh at2 en2 fd2 ft2 ns2 pl2 tk2 wh2 r : Int32} {w : String} (hn : IV n 0 900) (hw : WOk w) (hm : MS T n (.inr a) a en fd ft L ns pl tk wh) (h : R_m_opensX p n a en tk wh ns ft pl fd T L F w at2 en2 fd2 ft2 L2 ns2 pl2 tk2 wh2 r) : (IsW T n a w ∧ r = 1 ∧ MS T n (opnS F T n p a) at2 en2 fd2 ft2 L2 ns2 pl2 tk2 wh2) ∨ (¬ IsW T n a w ∧ r = 0 ∧ at2 = a ∧ en2 = en ∧ fd2 = fd ∧ ft2 = ft ∧ L2 = L ∧ ns2 = ns ∧ pl2 = pl ∧ tk2 = tk ∧ wh2 = wh) := by
  obtain ⟨s1, s2, s3, s4, s5⟩ := hm
  simp only [R_m_opensX] at h
  obtain ⟨r1, hr1, h⟩ := h
  rw [s1] at hr1
  rcases m_is_spec hw s5 hr1 with ⟨q, hq⟩ | ⟨q, hq⟩
  · rcases h with ⟨-, h⟩ | ⟨q2, -⟩
    · refine Or.inl ⟨hq, ?_⟩
      rcases h with ⟨g1, z, hz, h⟩ | ⟨g1, f1, u1, p1, hb, z, hz, h⟩
      · rw [tc15] at hz
        rcases h with h | h
        · refine exA1 h ?_
          clear h
          intro g2 h
          refine exE6 h ?_
          clear h
          intro a2 e5 M2 m2 t2 w2 hx h
          refine exA9 h ?_
          clear h
          intro k1 k2 k3 k4 k5 k6 k7 k8 k9 k10
          obtain ⟨x1, x2, x3⟩ := qm_next_at hn s4 s5 hx
          rw [hz] at g2
          refine ⟨k10, ?_⟩
          simp only [opnS, if_neg g1, if_neg g2]
          subst k1 k2 k5 k6 k8 k9
          exact ⟨by rw [k3, s1], by rw [k4, s2], x1, x2, x3⟩
        · refine exA1 h ?_
          clear h
          intro g2 h
          refine exE3 h ?_
          clear h
          intro f1 u1 p1 hb h
          refine exA9 h ?_
          clear h
          intro k1 k2 k3 k4 k5 k6 k7 k8 k9 k10
          obtain ⟨x1, x2, x3⟩ := qm_bad s1 hb
          rw [hz] at g2
          refine ⟨k10, ?_⟩
          simp only [opnS, if_neg g1, if_pos g2]
          exact ⟨by rw [k3, x1], by rw [k4, x2], by rw [k7, x3]⟩
      · obtain ⟨y1, y2, y3⟩ := qm_bad s1 hb
        rcases h with h | h
        · refine exA10 h ?_
          clear h
          intro g2 k1 k2 k3 k4 k5 k6 k7 k8 k9 k10
          refine ⟨k10, ?_⟩
          simp only [opnS, if_pos g1]
          exact ⟨by rw [k3, y1], by rw [k4, y2], by rw [k7, y3]⟩
        · refine exA1 h ?_
          clear h
          intro g2 h
          refine exE3 h ?_
          clear h
          intro f2 u2 p2 hb2 h
          refine exA9 h ?_
          clear h
          intro k1 k2 k3 k4 k5 k6 k7 k8 k9 k10
          obtain ⟨x1, x2, x3⟩ := qm_bad1 y1 hb2
          refine ⟨k10, ?_⟩
          simp only [opnS, if_pos g1]
          exact ⟨by rw [k3, x1], by rw [k4, x2, y2], by rw [k7, x3, y3]⟩
    · rw [q] at q2; exact absurd q2 one0
  · rcases h with ⟨q2, -⟩ | h
    · exact absurd q q2
    · refine exA10 h ?_
      clear h
      intro zn0 k1 k2 k3 k4 k5 k6 k7 k8 k9 k10
      clear zn0
      exact Or.inr ⟨hq, k10, k1, k2, k3, k4, k5, k6, k7, k8, k9⟩
theorem qm_opensOnce {F T L L2 : Nat → Int32} {n p a en fd ft ns pl tk wh at2 en2 fd2 ft2 ns2 pl2 tk2 wh2 r : Int32} {w : String} (hn : IV n 0 900) (hw : WOk w) (hm : MS T n (.inr a) a en fd ft L ns pl tk wh) (h : R_m_opensOnceX p n a en tk wh ns ft pl fd T L F w at2 en2 fd2 ft2 L2 ns2 pl2 tk2 wh2 r) : (IsW T n a w ∧ r = 1 ∧ MS T n (onceS F T n p a) at2 en2 fd2 ft2 L2 ns2 pl2 tk2 wh2) ∨ (¬ IsW T n a w ∧ r = 0 ∧ at2 = a ∧ en2 = en ∧ fd2 = fd ∧ ft2 = ft ∧ L2 = L ∧ ns2 = ns ∧ pl2 = pl ∧ tk2 = tk ∧ wh2 = wh) := by
  obtain ⟨s1, s2, s3, s4, s5⟩ := hm
  simp only [R_m_opensOnceX] at h
  obtain ⟨r1, hr1, h⟩ := h
  rw [s1] at hr1
  rcases m_is_spec hw s5 hr1 with ⟨q, hq⟩ | ⟨q, hq⟩
  · rcases h with ⟨-, h⟩ | ⟨q2, -⟩
    · refine Or.inl ⟨hq, ?_⟩
      rcases h with ⟨g1, z, hz, h⟩ | ⟨g1, f1, u1, p1, hb, z, hz, h⟩
      · rw [tc15] at hz
        rcases h with h | h
        · refine exA1 h ?_
          clear h
          intro g2 h
          refine exE6 h ?_
          clear h
          intro a2 e5 M2 m2 t2 w2 hx h
          refine exA9 h ?_
          clear h
          intro k1 k2 k3 k4 k5 k6 k7 k8 k9 k10
          obtain ⟨x1, x2, x3⟩ := qm_next_at hn s4 s5 hx
          rw [hz] at g2
          refine ⟨k10, ?_⟩
          simp only [onceS, if_pos g1, if_neg g2]
          subst k1 k2 k5 k6 k8 k9
          exact ⟨by rw [k3, s1], by rw [k4, s2], x1, x2, x3⟩
        · refine exA1 h ?_
          clear h
          intro g2 h
          refine exE3 h ?_
          clear h
          intro f1 u1 p1 hb h
          refine exA9 h ?_
          clear h
          intro k1 k2 k3 k4 k5 k6 k7 k8 k9 k10
          obtain ⟨x1, x2, x3⟩ := qm_bad s1 hb
          rw [hz] at g2
          refine ⟨k10, ?_⟩
          simp only [onceS, if_pos g1, if_pos g2]
          exact ⟨by rw [k3, x1], by rw [k4, x2], by rw [k7, x3]⟩
      · obtain ⟨y1, y2, y3⟩ := qm_bad s1 hb
        rcases h with h | h
        · refine exA10 h ?_
          clear h
          intro g2 k1 k2 k3 k4 k5 k6 k7 k8 k9 k10
          refine ⟨k10, ?_⟩
          simp only [onceS, if_neg g1]
          exact ⟨by rw [k3, y1], by rw [k4, y2], by rw [k7, y3]⟩
        · refine exA1 h ?_
          clear h
          intro g2 h
          refine exE3 h ?_
          clear h
          intro f2 u2 p2 hb2 h
          refine exA9 h ?_
          clear h
          intro k1 k2 k3 k4 k5 k6 k7 k8 k9 k10
          obtain ⟨x1, x2, x3⟩ := qm_bad1 y1 hb2
          refine ⟨k10, ?_⟩
          simp only [onceS, if_neg g1]
          exact ⟨by rw [k3, x1], by rw [k4, x2, y2], by rw [k7, x3, y3]⟩
    · rw [q] at q2; exact absurd q2 one0
  · rcases h with ⟨q2, -⟩ | h
    · exact absurd q q2
    · refine exA10 h ?_
      clear h
      intro zn0 k1 k2 k3 k4 k5 k6 k7 k8 k9 k10
      clear zn0
      exact Or.inr ⟨hq, k10, k1, k2, k3, k4, k5, k6, k7, k8, k9⟩
