set_option maxRecDepth 100000
set_option maxHeartbeats 4000000
noncomputable def aftS (T : Nat → Int32) (n : Int32) (w : String) (lo hi a : Int32) : Rs (Int32 × Int32) := bnd (labS T n w a) (numS T n lo hi)
theorem bnd_r {α β : Type} {a : α} {f : α → Rs β} : bnd (.inr a) f = f a := rfl
theorem bnd_l {α β : Type} {e : Int32 × Int32} {f : α → Rs β} : bnd (.inl e) f = .inl e := rfl
theorem aft_def {T : Nat → Int32} {n lo hi a : Int32} {w : String} : aftS T n w lo hi a = bnd (labS T n w a) (numS T n lo hi) := rfl
theorem MV_l {T L2 : Nat → Int32} {n at2 en2 fd2 ft2 ns2 pl2 tk2 wh2 r : Int32} {e : Int32 × Int32} (h : MV T n (.inl e) r at2 en2 fd2 ft2 L2 ns2 pl2 tk2 wh2) : MS T n (.inl e) at2 en2 fd2 ft2 L2 ns2 pl2 tk2 wh2 := h
theorem MV_r {T L2 : Nat → Int32} {n at2 en2 fd2 ft2 ns2 pl2 tk2 wh2 r : Int32} {v : Int32 × Int32} (h : MV T n (.inr v) r at2 en2 fd2 ft2 L2 ns2 pl2 tk2 wh2) : r = v.1 ∧ MS T n (.inr v.2) at2 en2 fd2 ft2 L2 ns2 pl2 tk2 wh2 := h
theorem MS_l {T L2 : Nat → Int32} {n at2 en2 fd2 ft2 ns2 pl2 tk2 wh2 : Int32} {e : Int32 × Int32} (h : MS T n (.inl e) at2 en2 fd2 ft2 L2 ns2 pl2 tk2 wh2) : fd2 = 1 ∧ ft2 = e.1 ∧ pl2 = e.2 := h
theorem MS_r {T L2 : Nat → Int32} {n at2 en2 fd2 ft2 ns2 pl2 tk2 wh2 : Int32} {b : Int32} (h : MS T n (.inr b) at2 en2 fd2 ft2 L2 ns2 pl2 tk2 wh2) : fd2 = 0 ∧ ft2 = 0 ∧ at2 = b ∧ IV b 0 900 ∧ TokM T n b en2 tk2 wh2 ns2 L2 := h
theorem af_r {T L L2 : Nat → Int32} {n lo hi at_ en fd ft ns pl tk wh at2 en2 fd2 ft2 ns2 pl2 tk2 wh2 r : Int32} {w : String} {b : Int32} (hn : IV n 0 900) (hw : WOk w) (hs : MS T n (.inr b) at_ en fd ft L ns pl tk wh) (h : R_m_afterX lo hi n at_ en tk wh ns ft pl fd T L w at2 en2 fd2 ft2 L2 ns2 pl2 tk2 wh2 r) : MV T n (aftS T n w lo hi b) r at2 en2 fd2 ft2 L2 ns2 pl2 tk2 wh2 := by
  have q := qm_after hn hw hs h
  rw [bnd_r] at q
  rw [aft_def]; exact q
theorem af_l {T L L2 : Nat → Int32} {n lo hi at_ en fd ft ns pl tk wh at2 en2 fd2 ft2 ns2 pl2 tk2 wh2 r : Int32} {w : String} {e : Int32 × Int32} (hn : IV n 0 900) (hw : WOk w) (hs : MS T n (.inl e) at_ en fd ft L ns pl tk wh) (h : R_m_afterX lo hi n at_ en tk wh ns ft pl fd T L w at2 en2 fd2 ft2 L2 ns2 pl2 tk2 wh2 r) : MS T n (.inl e) at2 en2 fd2 ft2 L2 ns2 pl2 tk2 wh2 := by
  have q := qm_after hn hw hs h
  rw [bnd_l, bnd_l] at q
  exact MV_l q
theorem nu_r {T L L2 : Nat → Int32} {n lo hi at_ en fd ft ns pl tk wh at2 en2 fd2 ft2 ns2 pl2 tk2 wh2 r : Int32} {b : Int32} (hn : IV n 0 900) (hs : MS T n (.inr b) at_ en fd ft L ns pl tk wh) (h : R_m_numberX lo hi n at_ en tk wh ns ft pl fd T L at2 en2 fd2 ft2 L2 ns2 pl2 tk2 wh2 r) : MV T n (numS T n lo hi b) r at2 en2 fd2 ft2 L2 ns2 pl2 tk2 wh2 := by
  have q := qm_number hn hs h
  rw [bnd_r] at q
  exact q
theorem tc0 : (0 : Int32).toNatClampNeg = 0 := by decide
theorem tc1 : (1 : Int32).toNatClampNeg = 1 := by decide
theorem tc2 : (2 : Int32).toNatClampNeg = 2 := by decide
theorem tc3 : (3 : Int32).toNatClampNeg = 3 := by decide
theorem tc4 : (4 : Int32).toNatClampNeg = 4 := by decide
theorem tc5 : (5 : Int32).toNatClampNeg = 5 := by decide
theorem tc6 : (6 : Int32).toNatClampNeg = 6 := by decide
theorem tc7 : (7 : Int32).toNatClampNeg = 7 := by decide
theorem tc8 : (8 : Int32).toNatClampNeg = 8 := by decide
theorem tc9 : (9 : Int32).toNatClampNeg = 9 := by decide
theorem tc10 : (10 : Int32).toNatClampNeg = 10 := by decide
theorem tc11 : (11 : Int32).toNatClampNeg = 11 := by decide
theorem tc12 : (12 : Int32).toNatClampNeg = 12 := by decide
theorem tc13 : (13 : Int32).toNatClampNeg = 13 := by decide
theorem tc14 : (14 : Int32).toNatClampNeg = 14 := by decide
theorem tc15 : (15 : Int32).toNatClampNeg = 15 := by decide
theorem tc134 : (134 : Int32).toNatClampNeg = 134 := by decide
theorem tc135 : (135 : Int32).toNatClampNeg = 135 := by decide
theorem tc136 : (136 : Int32).toNatClampNeg = 136 := by decide
noncomputable def houseS (F T : Nat → Int32) (n a : Int32) : Rs ((Nat → Int32) × Int32) := if F 15 = 1 then .inl (3, a) else bnd (aftS T n "apart" 1 50 (nx T n a)) (fun v1 => bnd (aftS T n "motor" 0 50 (v1.2)) (fun v2 => bnd (aftS T n "leader" 0 99 (v2.2)) (fun v3 => bnd (aftS T n "burns" 1 9999 (v3.2)) (fun v4 => bnd (aftS T n "trim" 0 999 (v4.2)) (fun v5 => bnd (aftS T n "mend" 0 999 (v5.2)) (fun v6 => .inr (upd (upd (upd (upd (upd (upd (upd F 0 v1.1) 1 v2.1) 2 v3.1) 3 v4.1) 4 v5.1) 5 v6.1) 15 1, v6.2)))))))
theorem qm_houseLine {F T L F2 L2 : Nat → Int32} {n a en fd ft ns pl tk wh at2 en2 fd2 ft2 ns2 pl2 tk2 wh2 : Int32} (hn : IV n 0 900) (hm : MS T n (.inr a) a en fd ft L ns pl tk wh) (h : R_m_houseLineX n a en tk wh ns ft pl fd T L F at2 en2 fd2 ft2 F2 L2 ns2 pl2 tk2 wh2) : MF T n F (houseS F T n a) at2 en2 fd2 ft2 F2 L2 ns2 pl2 tk2 wh2 := by
  obtain ⟨s1, s2, s3, s4, s5⟩ := hm
  unfold R_m_houseLineX at h
  obtain ⟨z, hz, h⟩ := h
  rw [tc15] at hz
  rcases h with ⟨h1, h⟩ | h
  · rcases h with h | ⟨q, -⟩
    · refine exA1 h ?_
      clear h
      intro zn0 h
      refine exE6 h ?_
      clear h
      intro a0 e0 L0 n0 t0 w0 hx0 h
      refine exE10 h ?_
      clear h
      intro a1 e1 f1 u1 L1 n1 p1 t1 w1 r1 ha1 h
      refine exE1 h ?_
      clear h
      intro F1 hF1 h
      refine exE10 h ?_
      clear h
      intro a2 e2 f2 u2 L2 n2 p2 t2 w2 r2 ha2 h
      refine exE1 h ?_
      clear h
      intro F2 hF2 h
      refine exE10 h ?_
      clear h
      intro a3 e3 f3 u3 L3 n3 p3 t3 w3 r3 ha3 h
      refine exE1 h ?_
      clear h
      intro F3 hF3 h
      refine exE10 h ?_
      clear h
      intro a4 e4 f4 u4 L4 n4 p4 t4 w4 r4 ha4 h
      refine exE1 h ?_
      clear h
      intro F4 hF4 h
      refine exE10 h ?_
      clear h
      intro a5 e5 f5 u5 L5 n5 p5 t5 w5 r5 ha5 h
      refine exE1 h ?_
      clear h
      intro F5 hF5 h
      refine exE10 h ?_
      clear h
      intro a6 e6 f6 u6 L6 n6 p6 t6 w6 r6 ha6 h
      refine exE1 h ?_
      clear h
      intro F6 hF6 h
      clear zn0
      rw [hz] at h1
      have hz := h1
      obtain ⟨x1, x2, x3⟩ := qm_next_at hn s4 s5 hx0
      have s0 : MS T n (.inr (nx T n a)) a0 e0 fd ft L0 n0 pl t0 w0 := ⟨s1, s2, x1, x2, x3⟩
      have m1 : MV T n (aftS T n "apart" 1 50 (nx T n a)) r1 a1 e1 f1 u1 L1 n1 p1 t1 w1 := af_r hn wok_apart s0 ha1
      cases h1 : aftS T n "apart" 1 50 (nx T n a) with
      | inl e =>
        rw [h1] at m1
        have m1 := MV_l m1
        have m2 : MS T n (.inl e) a2 e2 f2 u2 L2 n2 p2 t2 w2 := af_l hn wok_motor m1 ha2
        have m3 : MS T n (.inl e) a3 e3 f3 u3 L3 n3 p3 t3 w3 := af_l hn wok_leader m2 ha3
        have m4 : MS T n (.inl e) a4 e4 f4 u4 L4 n4 p4 t4 w4 := af_l hn wok_burns m3 ha4
        have m5 : MS T n (.inl e) a5 e5 f5 u5 L5 n5 p5 t5 w5 := af_l hn wok_trim m4 ha5
        have m6 : MS T n (.inl e) a6 e6 f6 u6 L6 n6 p6 t6 w6 := af_l hn wok_mend m5 ha6
        refine exA2 (MS_l m6) ?_
        intro x1 x2 x3
        rcases h with h | ⟨q, -⟩
        · refine exA10 h ?_
          clear h
          intro zn0 k1 k2 k3 k4 k5 k6 k7 k8 k9 k10
          clear zn0
          simp only [houseS, h1, bnd, if_neg hz]; exact ⟨by rw [k3, x1], by rw [k4, x2], by rw [k8, x3]⟩
        · rw [x1] at q; exact absurd q one0
      | inr v1 =>
        rw [h1] at m1
        refine exA1 (MV_r m1) ?_
        intro er1 s1
        have m2 : MV T n (aftS T n "motor" 0 50 v1.2) r2 a2 e2 f2 u2 L2 n2 p2 t2 w2 := af_r hn wok_motor s1 ha2
        cases h2 : aftS T n "motor" 0 50 v1.2 with
        | inl e =>
          rw [h2] at m2
          have m2 := MV_l m2
          have m3 : MS T n (.inl e) a3 e3 f3 u3 L3 n3 p3 t3 w3 := af_l hn wok_leader m2 ha3
          have m4 : MS T n (.inl e) a4 e4 f4 u4 L4 n4 p4 t4 w4 := af_l hn wok_burns m3 ha4
          have m5 : MS T n (.inl e) a5 e5 f5 u5 L5 n5 p5 t5 w5 := af_l hn wok_trim m4 ha5
          have m6 : MS T n (.inl e) a6 e6 f6 u6 L6 n6 p6 t6 w6 := af_l hn wok_mend m5 ha6
          refine exA2 (MS_l m6) ?_
          intro x1 x2 x3
          rcases h with h | ⟨q, -⟩
          · refine exA10 h ?_
            clear h
            intro zn0 k1 k2 k3 k4 k5 k6 k7 k8 k9 k10
            clear zn0
            simp only [houseS, h1, h2, bnd, if_neg hz]; exact ⟨by rw [k3, x1], by rw [k4, x2], by rw [k8, x3]⟩
          · rw [x1] at q; exact absurd q one0
        | inr v2 =>
          rw [h2] at m2
          refine exA1 (MV_r m2) ?_
          intro er2 s2
          have m3 : MV T n (aftS T n "leader" 0 99 v2.2) r3 a3 e3 f3 u3 L3 n3 p3 t3 w3 := af_r hn wok_leader s2 ha3
          cases h3 : aftS T n "leader" 0 99 v2.2 with
          | inl e =>
            rw [h3] at m3
            have m3 := MV_l m3
            have m4 : MS T n (.inl e) a4 e4 f4 u4 L4 n4 p4 t4 w4 := af_l hn wok_burns m3 ha4
            have m5 : MS T n (.inl e) a5 e5 f5 u5 L5 n5 p5 t5 w5 := af_l hn wok_trim m4 ha5
            have m6 : MS T n (.inl e) a6 e6 f6 u6 L6 n6 p6 t6 w6 := af_l hn wok_mend m5 ha6
            refine exA2 (MS_l m6) ?_
            intro x1 x2 x3
            rcases h with h | ⟨q, -⟩
            · refine exA10 h ?_
              clear h
              intro zn0 k1 k2 k3 k4 k5 k6 k7 k8 k9 k10
              clear zn0
              simp only [houseS, h1, h2, h3, bnd, if_neg hz]; exact ⟨by rw [k3, x1], by rw [k4, x2], by rw [k8, x3]⟩
            · rw [x1] at q; exact absurd q one0
          | inr v3 =>
            rw [h3] at m3
            refine exA1 (MV_r m3) ?_
            intro er3 s3
            have m4 : MV T n (aftS T n "burns" 1 9999 v3.2) r4 a4 e4 f4 u4 L4 n4 p4 t4 w4 := af_r hn wok_burns s3 ha4
            cases h4 : aftS T n "burns" 1 9999 v3.2 with
            | inl e =>
              rw [h4] at m4
              have m4 := MV_l m4
              have m5 : MS T n (.inl e) a5 e5 f5 u5 L5 n5 p5 t5 w5 := af_l hn wok_trim m4 ha5
              have m6 : MS T n (.inl e) a6 e6 f6 u6 L6 n6 p6 t6 w6 := af_l hn wok_mend m5 ha6
              refine exA2 (MS_l m6) ?_
              intro x1 x2 x3
              rcases h with h | ⟨q, -⟩
              · refine exA10 h ?_
                clear h
                intro zn0 k1 k2 k3 k4 k5 k6 k7 k8 k9 k10
                clear zn0
                simp only [houseS, h1, h2, h3, h4, bnd, if_neg hz]; exact ⟨by rw [k3, x1], by rw [k4, x2], by rw [k8, x3]⟩
              · rw [x1] at q; exact absurd q one0
            | inr v4 =>
              rw [h4] at m4
              refine exA1 (MV_r m4) ?_
              intro er4 s4
              have m5 : MV T n (aftS T n "trim" 0 999 v4.2) r5 a5 e5 f5 u5 L5 n5 p5 t5 w5 := af_r hn wok_trim s4 ha5
              cases h5 : aftS T n "trim" 0 999 v4.2 with
              | inl e =>
                rw [h5] at m5
                have m5 := MV_l m5
                have m6 : MS T n (.inl e) a6 e6 f6 u6 L6 n6 p6 t6 w6 := af_l hn wok_mend m5 ha6
                refine exA2 (MS_l m6) ?_
                intro x1 x2 x3
                rcases h with h | ⟨q, -⟩
                · refine exA10 h ?_
                  clear h
                  intro zn0 k1 k2 k3 k4 k5 k6 k7 k8 k9 k10
                  clear zn0
                  simp only [houseS, h1, h2, h3, h4, h5, bnd, if_neg hz]; exact ⟨by rw [k3, x1], by rw [k4, x2], by rw [k8, x3]⟩
                · rw [x1] at q; exact absurd q one0
              | inr v5 =>
                rw [h5] at m5
                refine exA1 (MV_r m5) ?_
                intro er5 s5
                have m6 : MV T n (aftS T n "mend" 0 999 v5.2) r6 a6 e6 f6 u6 L6 n6 p6 t6 w6 := af_r hn wok_mend s5 ha6
                cases h6 : aftS T n "mend" 0 999 v5.2 with
                | inl e =>
                  rw [h6] at m6
                  have m6 := MV_l m6
                  refine exA2 (MS_l m6) ?_
                  intro x1 x2 x3
                  rcases h with h | ⟨q, -⟩
                  · refine exA10 h ?_
                    clear h
                    intro zn0 k1 k2 k3 k4 k5 k6 k7 k8 k9 k10
                    clear zn0
                    simp only [houseS, h1, h2, h3, h4, h5, h6, bnd, if_neg hz]; exact ⟨by rw [k3, x1], by rw [k4, x2], by rw [k8, x3]⟩
                  · rw [x1] at q; exact absurd q one0
                | inr v6 =>
                  rw [h6] at m6
                  refine exA1 (MV_r m6) ?_
                  intro er6 s6
                  rcases h with ⟨q, -⟩ | h
                  · exact absurd (MS_r s6).1 q
                  · refine exA1 h ?_
                    clear h
                    intro zn0 h
                    refine exE1 h ?_
                    clear h
                    intro G hG h
                    refine exA9 h ?_
                    clear h
                    intro k1 k2 k3 k4 k5 k6 k7 k8 k9 k10
                    clear zn0
                    simp only [houseS, if_neg hz, h1, h2, h3, h4, h5, h6, bnd]
                    subst k1 k2 k3 k4 k6 k7 k8 k9 k10
                    refine ⟨?_, s6⟩
                    rw [k5, hG, hF6, hF5, hF4, hF3, hF2, hF1, er1, er2, er3, er4, er5, er6, tc0, tc1, tc2, tc3, tc4, tc5, tc15]
    · exact absurd s1 q
  · refine exA1 h ?_
    clear h
    intro h1 h
    refine exE3 h ?_
    clear h
    intro f1 u1 p1 hb h
    refine exA9 h ?_
    clear h
    intro k1 k2 k3 k4 k5 k6 k7 k8 k9 k10
    obtain ⟨x1, x2, x3⟩ := qm_bad s1 hb
    rw [hz] at h1
    simp only [houseS, if_pos h1]
    exact ⟨by rw [k3, x1], by rw [k4, x2], by rw [k8, x3]⟩
noncomputable def reelS (F T : Nat → Int32) (n a : Int32) : Rs ((Nat → Int32) × Int32) := bnd (newS F T n (F 6).toInt.toNat a) (fun v0 => bnd (aftS T n "frames" 2 2000 v0.2) (fun v1 => bnd (aftS T n "first" 0 (v1.1 - 1) v1.2) (fun v2 => bnd (aftS T n "whole" v1.1 2000 v2.2) (fun v3 => .inr (upd (upd (upd (upd v0.1 (16 + 3 * (F 6).toInt.toNat) v1.1) (16 + 3 * (F 6).toInt.toNat + 1) v2.1) (16 + 3 * (F 6).toInt.toNat + 2) v3.1) 6 (F 6 + 1), v3.2)))))
noncomputable def townS (F T : Nat → Int32) (n a : Int32) : Rs ((Nat → Int32) × Int32) := bnd (newS F T n (8 + (F 7).toInt.toNat) a) (fun v0 => bnd (aftS T n "trust" 1 9 v0.2) (fun v1 => .inr (upd (upd v0.1 (40 + (F 7).toInt.toNat) v1.1) 7 (F 7 + 1), v1.2)))
theorem qm_reelLine {F T L F2 L2 : Nat → Int32} {n a en fd ft ns pl tk wh at2 en2 fd2 ft2 ns2 pl2 tk2 wh2 : Int32} (hn : IV n 0 900) (h6 : IV (F 6) 0 7) (hm : MS T n (.inr a) a en fd ft L ns pl tk wh) (h : R_m_reelLineX n a en tk wh ns ft pl fd T L F at2 en2 fd2 ft2 F2 L2 ns2 pl2 tk2 wh2) : MF T n F (reelS F T n a) at2 en2 fd2 ft2 F2 L2 ns2 pl2 tk2 wh2 := by
  obtain ⟨s1, s2, s3, s4, s5⟩ := hm
  unfold R_m_reelLineX at h
  rcases h with h | ⟨q, -⟩
  · refine exA1 h ?_
    clear h
    intro zn0 h
    refine exE1 h ?_
    clear h
    intro z5 hz5 h
    refine exE1 h ?_
    clear h
    intro z8 hz8 h
    refine exE1 h ?_
    clear h
    intro z11 hz11 h
    refine exE10 h ?_
    clear h
    intro a0 e0 f0 u0 F0 L0 n0 p0 t0 w0 hw0 h
    refine exE10 h ?_
    clear h
    intro a1 e1 f1 u1 L1 n1 p1 t1 w1 r1 ha1 h
    refine exE1 h ?_
    clear h
    intro F1 hF1 h
    refine exE1 h ?_
    clear h
    intro z64 hz64 h
    refine exE1 h ?_
    clear h
    intro z68 hz68 h
    refine exE1 h ?_
    clear h
    intro z69 hz69 h
    refine exE10 h ?_
    clear h
    intro a2 e2 f2 u2 L2 n2 p2 t2 w2 r2 ha2 h
    refine exE1 h ?_
    clear h
    intro F2' hF2 h
    refine exE1 h ?_
    clear h
    intro z97 hz97 h
    refine exE1 h ?_
    clear h
    intro z101 hz101 h
    refine exE10 h ?_
    clear h
    intro a3 e3 f3 u3 L3 n3 p3 t3 w3 r3 ha3 h
    refine exE1 h ?_
    clear h
    intro F3 hF3 h
    clear zn0
    rw [tc6] at hz5
    have g5 : z5.toInt = (F 6).toInt := by rw [hz5]
    have g8 : z8.toInt = 3 * z5.toInt := in_mul hz8 (by decide) (by decide) (show IV z5 0 7 from ⟨by omega, by omega⟩) (by decide) (by decide)
    have g11 : z11.toInt = 16 + z8.toInt := in_add hz11 (show IV 16 16 16 from (by decide)) (show IV z8 0 21 from ⟨by omega, by omega⟩) (by decide) (by decide)
    have o1 : (1 : Int32).toInt = 1 := by decide
    have o2 : (2 : Int32).toInt = 2 := by decide
    have g64 : z64.toInt = z11.toInt + 1 := in_add hz64 (show IV z11 16 37 from ⟨by omega, by omega⟩) (show IV 1 1 1 from (by decide)) (by decide) (by decide)
    have g97 : z97.toInt = z11.toInt + 2 := in_add hz97 (show IV z11 16 37 from ⟨by omega, by omega⟩) (show IV 2 2 2 from (by decide)) (by decide) (by decide)
    have c11 : z11.toNatClampNeg = 16 + 3 * (F 6).toInt.toNat := by have := tn_i (z := z11) (by omega); omega
    have c64 : z64.toNatClampNeg = 16 + 3 * (F 6).toInt.toNat + 1 := by have := tn_i (z := z64) (by omega); omega
    have c97 : z97.toNatClampNeg = 16 + 3 * (F 6).toInt.toNat + 2 := by have := tn_i (z := z97) (by omega); omega
    have m0 := qm_newName (s := (F 6).toInt.toNat) hn (by omega) (by omega) ⟨s1, s2, rfl, s4, s5⟩ hw0
    cases h0 : newS F T n (F 6).toInt.toNat a with
    | inl e =>
      rw [h0] at m0
      have m0 : MS T n (.inl e) a0 e0 f0 u0 L0 n0 p0 t0 w0 := m0
      have m1 : MS T n (.inl e) a1 e1 f1 u1 L1 n1 p1 t1 w1 := af_l hn wok_frames m0 ha1
      have m2 : MS T n (.inl e) a2 e2 f2 u2 L2 n2 p2 t2 w2 := af_l hn wok_first m1 ha2
      have m3 : MS T n (.inl e) a3 e3 f3 u3 L3 n3 p3 t3 w3 := af_l hn wok_whole m2 ha3
      refine exA2 (MS_l m3) ?_
      intro x1 x2 x3
      rcases h with h | ⟨q, -⟩
      · refine exA10 h ?_
        clear h
        intro zn0 k1 k2 k3 k4 k5 k6 k7 k8 k9 k10
        clear zn0
        simp only [reelS, h0, bnd]; exact ⟨by rw [k3, x1], by rw [k4, x2], by rw [k8, x3]⟩
      · rw [x1] at q; exact absurd q one0
    | inr v0 =>
      rw [h0] at m0
      obtain ⟨eF0, s0⟩ := m0
      have m1 : MV T n (aftS T n "frames" 2 2000 v0.2) r1 a1 e1 f1 u1 L1 n1 p1 t1 w1 := af_r hn wok_frames s0 ha1
      cases h1 : aftS T n "frames" 2 2000 v0.2 with
      | inl e =>
        rw [h1] at m1
        have m1 := MV_l m1
        have m2 : MS T n (.inl e) a2 e2 f2 u2 L2 n2 p2 t2 w2 := af_l hn wok_first m1 ha2
        have m3 : MS T n (.inl e) a3 e3 f3 u3 L3 n3 p3 t3 w3 := af_l hn wok_whole m2 ha3
        refine exA2 (MS_l m3) ?_
        intro x1 x2 x3
        rcases h with h | ⟨q, -⟩
        · refine exA10 h ?_
          clear h
          intro zn0 k1 k2 k3 k4 k5 k6 k7 k8 k9 k10
          clear zn0
          simp only [reelS, h0, h1, bnd]; exact ⟨by rw [k3, x1], by rw [k4, x2], by rw [k8, x3]⟩
        · rw [x1] at q; exact absurd q one0
      | inr v1 =>
        rw [h1] at m1
        refine exA1 (MV_r m1) ?_
        intro er1 s1
        have ez : F1 z11.toNatClampNeg = v1.1 := by rw [hF1, upd_at, er1]
        rw [hz69, hz68, ez] at ha2
        have m2 : MV T n (aftS T n "first" 0 (v1.1 - 1) v1.2) r2 a2 e2 f2 u2 L2 n2 p2 t2 w2 := af_r hn wok_first s1 ha2
        cases h2 : aftS T n "first" 0 (v1.1 - 1) v1.2 with
        | inl e =>
          rw [h2] at m2
          have m2 := MV_l m2
          have m3 : MS T n (.inl e) a3 e3 f3 u3 L3 n3 p3 t3 w3 := af_l hn wok_whole m2 ha3
          refine exA2 (MS_l m3) ?_
          intro x1 x2 x3
          rcases h with h | ⟨q, -⟩
          · refine exA10 h ?_
            clear h
            intro zn0 k1 k2 k3 k4 k5 k6 k7 k8 k9 k10
            clear zn0
            simp only [reelS, h0, h1, h2, bnd]; exact ⟨by rw [k3, x1], by rw [k4, x2], by rw [k8, x3]⟩
          · rw [x1] at q; exact absurd q one0
        | inr v2 =>
          rw [h2] at m2
          refine exA1 (MV_r m2) ?_
          intro er2 s2
          have ez3 : F2' z11.toNatClampNeg = v1.1 := by rw [hF2, upd_ne (by omega), ez]
          rw [hz101, ez3] at ha3
          have m3 : MV T n (aftS T n "whole" v1.1 2000 v2.2) r3 a3 e3 f3 u3 L3 n3 p3 t3 w3 := af_r hn wok_whole s2 ha3
          cases h3 : aftS T n "whole" v1.1 2000 v2.2 with
          | inl e =>
            rw [h3] at m3
            have m3 := MV_l m3
            refine exA2 (MS_l m3) ?_
            intro x1 x2 x3
            rcases h with h | ⟨q, -⟩
            · refine exA10 h ?_
              clear h
              intro zn0 k1 k2 k3 k4 k5 k6 k7 k8 k9 k10
              clear zn0
              simp only [reelS, h0, h1, h2, h3, bnd]; exact ⟨by rw [k3, x1], by rw [k4, x2], by rw [k8, x3]⟩
            · rw [x1] at q; exact absurd q one0
          | inr v3 =>
            rw [h3] at m3
            refine exA1 (MV_r m3) ?_
            intro er3 s3
            rcases h with ⟨q, -⟩ | h
            · exact absurd (MS_r s3).1 q
            · refine exA1 h ?_
              clear h
              intro zn0 h
              refine exE1 h ?_
              clear h
              intro z130 hz130 h
              refine exE1 h ?_
              clear h
              intro G hG h
              refine exA9 h ?_
              clear h
              intro k1 k2 k3 k4 k5 k6 k7 k8 k9 k10
              clear zn0
              simp only [reelS, h0, h1, h2, h3, bnd]
              subst k1 k2 k3 k4 k6 k7 k8 k9 k10
              refine ⟨?_, s3⟩
              rw [k5, hG, hF3, hF2, hF1, er1, er2, er3, eF0, hz130, hz5, tc6, c11, c64, c97]
  · exact absurd s1 q
theorem qm_townLine {F T L F2 L2 : Nat → Int32} {n a en fd ft ns pl tk wh at2 en2 fd2 ft2 ns2 pl2 tk2 wh2 : Int32} (hn : IV n 0 900) (h7 : IV (F 7) 0 3) (hm : MS T n (.inr a) a en fd ft L ns pl tk wh) (h : R_m_townLineX n a en tk wh ns ft pl fd T L F at2 en2 fd2 ft2 F2 L2 ns2 pl2 tk2 wh2) : MF T n F (townS F T n a) at2 en2 fd2 ft2 F2 L2 ns2 pl2 tk2 wh2 := by
  obtain ⟨s1, s2, s3, s4, s5⟩ := hm
  unfold R_m_townLineX at h
  rcases h with h | ⟨q, -⟩
  · refine exA1 h ?_
    clear h
    intro zn0 h
    refine exE1 h ?_
    clear h
    intro z5 hz5 h
    refine exE1 h ?_
    clear h
    intro z8 hz8 h
    refine exE10 h ?_
    clear h
    intro a0 e0 f0 u0 F0 L0 n0 p0 t0 w0 hw0 h
    refine exE1 h ?_
    clear h
    intro z32 hz32 h
    refine exE10 h ?_
    clear h
    intro a1 e1 f1 u1 L1 n1 p1 t1 w1 r1 ha1 h
    refine exE1 h ?_
    clear h
    intro F1 hF1 h
    clear zn0
    rw [tc7] at hz5
    have g5 : z5.toInt = (F 7).toInt := by rw [hz5]
    have g8 : z8.toInt = 8 + z5.toInt := in_add hz8 (show IV 8 8 8 from (by decide)) (show IV z5 0 3 from ⟨by omega, by omega⟩) (by decide) (by decide)
    have g32 : z32.toInt = 40 + z5.toInt := in_add hz32 (show IV 40 40 40 from (by decide)) (show IV z5 0 3 from ⟨by omega, by omega⟩) (by decide) (by decide)
    have c32 : z32.toNatClampNeg = 40 + (F 7).toInt.toNat := by have := tn_i (z := z32) (by omega); omega
    have sm : MS T n (.inr a) a en fd ft L ns pl tk wh := ⟨s1, s2, rfl, s4, s5⟩
    clear s1
    have m0 := qm_newName (s := 8 + (F 7).toInt.toNat) hn (by omega) (by omega) sm hw0
    cases h0 : newS F T n (8 + (F 7).toInt.toNat) a with
    | inl e =>
      rw [h0] at m0
      have m0 : MS T n (.inl e) a0 e0 f0 u0 L0 n0 p0 t0 w0 := m0
      have m1 : MS T n (.inl e) a1 e1 f1 u1 L1 n1 p1 t1 w1 := af_l hn wok_trust m0 ha1
      refine exA2 (MS_l m1) ?_
      intro x1 x2 x3
      rcases h with h | ⟨q, -⟩
      · refine exA10 h ?_
        clear h
        intro zn0 k1 k2 k3 k4 k5 k6 k7 k8 k9 k10
        clear zn0
        simp only [townS, h0, bnd]; exact ⟨by rw [k3, x1], by rw [k4, x2], by rw [k8, x3]⟩
      · rw [x1] at q; exact absurd q one0
    | inr v0 =>
      rw [h0] at m0
      obtain ⟨eF0, s0⟩ := m0
      have m1 : MV T n (aftS T n "trust" 1 9 v0.2) r1 a1 e1 f1 u1 L1 n1 p1 t1 w1 := af_r hn wok_trust s0 ha1
      cases h1 : aftS T n "trust" 1 9 v0.2 with
      | inl e =>
        rw [h1] at m1
        have m1 := MV_l m1
        refine exA2 (MS_l m1) ?_
        intro x1 x2 x3
        rcases h with h | ⟨q, -⟩
        · refine exA10 h ?_
          clear h
          intro zn0 k1 k2 k3 k4 k5 k6 k7 k8 k9 k10
          clear zn0
          simp only [townS, h0, h1, bnd]; exact ⟨by rw [k3, x1], by rw [k4, x2], by rw [k8, x3]⟩
        · rw [x1] at q; exact absurd q one0
      | inr v1 =>
        rw [h1] at m1
        refine exA1 (MV_r m1) ?_
        intro er1 s1
        rcases h with ⟨q, -⟩ | h
        · exact absurd (MS_r s1).1 q
        · refine exA1 h ?_
          clear h
          intro zn0 h
          refine exE1 h ?_
          clear h
          intro z66 hz66 h
          refine exE1 h ?_
          clear h
          intro G hG h
          refine exA9 h ?_
          clear h
          intro k1 k2 k3 k4 k5 k6 k7 k8 k9 k10
          clear zn0
          simp only [townS, h0, h1, bnd]
          subst k1 k2 k3 k4 k6 k7 k8 k9 k10
          refine ⟨?_, s1⟩
          rw [k5, hG, hF1, er1, eF0, hz66, hz5, tc7, c32]
  · exact absurd s1 q

set_option maxRecDepth 100000
set_option maxHeartbeats 4000000
noncomputable def boysS (F T : Nat → Int32) (n a : Int32) : Rs ((Nat → Int32) × Int32) := bnd (numS T n 1 4 a) (fun v1 => bnd (aftS T n "ride" 1 2000 v1.2) (fun v2 => bnd (aftS T n "falls" 0 50 v2.2) (fun v3 => .inr (upd (upd (upd F 135 v2.1) 136 v3.1) 134 v1.1, v3.2))))
theorem qm_boysLine {F T L F2 L2 : Nat → Int32} {n a en fd ft ns pl tk wh at2 en2 fd2 ft2 ns2 pl2 tk2 wh2 : Int32} (hn : IV n 0 900) (hm : MS T n (.inr a) a en fd ft L ns pl tk wh) (h : R_m_boysLineX n a en tk wh ns ft pl fd T L F at2 en2 fd2 ft2 F2 L2 ns2 pl2 tk2 wh2) : MF T n F (boysS F T n a) at2 en2 fd2 ft2 F2 L2 ns2 pl2 tk2 wh2 := by
  obtain ⟨s1, s2, s3, s4, s5⟩ := hm
  unfold R_m_boysLineX at h
  have s0 : MS T n (.inr a) a en fd ft L ns pl tk wh := ⟨s1, s2, rfl, s4, s5⟩
  rcases h with ⟨-, h⟩ | ⟨q, -⟩
  · refine Exists.elim h ?_
    clear h
    intro a1 h
    refine exE9 h ?_
    clear h
    intro e1 f1 u1 L1 n1 p1 t1 w1 r1 ha1 h
    refine exE10 h ?_
    clear h
    intro a2 e2 f2 u2 L2 n2 p2 t2 w2 r2 ha2 h
    refine exE1 h ?_
    clear h
    intro F1 hF1 h
    refine exE10 h ?_
    clear h
    intro a3 e3 f3 u3 L3 n3 p3 t3 w3 r3 ha3 h
    refine exE1 h ?_
    clear h
    intro F3 hF3 h
    clear s1
    have m1 : MV T n (numS T n 1 4 a) r1 a1 e1 f1 u1 L1 n1 p1 t1 w1 := nu_r hn s0 ha1
    cases h1 : numS T n 1 4 a with
    | inl e =>
      rw [h1] at m1
      have m1 := MV_l m1
      have m2 : MS T n (.inl e) a2 e2 f2 u2 L2 n2 p2 t2 w2 := af_l hn wok_ride m1 ha2
      have m3 : MS T n (.inl e) a3 e3 f3 u3 L3 n3 p3 t3 w3 := af_l hn wok_falls m2 ha3
      refine exA2 (MS_l m3) ?_
      intro x1 x2 x3
      rcases h with h | ⟨q, -⟩
      · refine exA10 h ?_
        clear h
        intro zn0 k1 k2 k3 k4 k5 k6 k7 k8 k9 k10
        clear zn0
        simp only [boysS, h1, bnd]; exact ⟨by rw [k3, x1], by rw [k4, x2], by rw [k8, x3]⟩
      · rw [x1] at q; exact absurd q one0
    | inr v1 =>
      rw [h1] at m1
      refine exA1 (MV_r m1) ?_
      intro er1 s1
      have m2 : MV T n (aftS T n "ride" 1 2000 v1.2) r2 a2 e2 f2 u2 L2 n2 p2 t2 w2 := af_r hn wok_ride s1 ha2
      cases h2 : aftS T n "ride" 1 2000 v1.2 with
      | inl e =>
        rw [h2] at m2
        have m2 := MV_l m2
        have m3 : MS T n (.inl e) a3 e3 f3 u3 L3 n3 p3 t3 w3 := af_l hn wok_falls m2 ha3
        refine exA2 (MS_l m3) ?_
        intro x1 x2 x3
        rcases h with h | ⟨q, -⟩
        · refine exA10 h ?_
          clear h
          intro zn0 k1 k2 k3 k4 k5 k6 k7 k8 k9 k10
          clear zn0
          simp only [boysS, h1, h2, bnd]; exact ⟨by rw [k3, x1], by rw [k4, x2], by rw [k8, x3]⟩
        · rw [x1] at q; exact absurd q one0
      | inr v2 =>
        rw [h2] at m2
        refine exA1 (MV_r m2) ?_
        intro er2 s2
        have m3 : MV T n (aftS T n "falls" 0 50 v2.2) r3 a3 e3 f3 u3 L3 n3 p3 t3 w3 := af_r hn wok_falls s2 ha3
        cases h3 : aftS T n "falls" 0 50 v2.2 with
        | inl e =>
          rw [h3] at m3
          have m3 := MV_l m3
          refine exA2 (MS_l m3) ?_
          intro x1 x2 x3
          rcases h with h | ⟨q, -⟩
          · refine exA10 h ?_
            clear h
            intro zn0 k1 k2 k3 k4 k5 k6 k7 k8 k9 k10
            clear zn0
            simp only [boysS, h1, h2, h3, bnd]; exact ⟨by rw [k3, x1], by rw [k4, x2], by rw [k8, x3]⟩
          · rw [x1] at q; exact absurd q one0
        | inr v3 =>
          rw [h3] at m3
          refine exA1 (MV_r m3) ?_
          intro er3 s3
          rcases h with ⟨q, -⟩ | h
          · exact absurd (MS_r s3).1 q
          · refine exA1 h ?_
            clear h
            intro zn0 h
            refine exE1 h ?_
            clear h
            intro G hG h
            refine exA9 h ?_
            clear h
            intro k1 k2 k3 k4 k5 k6 k7 k8 k9 k10
            clear zn0
            simp only [boysS, h1, h2, h3, bnd]
            subst k1 k2 k3 k4 k6 k7 k8 k9 k10
            refine ⟨?_, s3⟩
            rw [k5, hG, hF3, hF1, er1, er2, er3, tc134, tc135, tc136]
  · exact absurd s1 q
noncomputable def seenS (F T : Nat → Int32) (n a : Int32) : Rs ((Nat → Int32) × Int32) := if F 13 = 6 then .inl (5, a) else if F 15 = 0 then .inl (6, a) else if F 12 = 0 then .inl (6, a) else bnd (numS T n 1 (F 12 - 1) (nx T n a)) (fun v1 => bnd (aftS T n "black" 0 9999 v1.2) (fun v2 => bnd (aftS T n "lost" 0 9999 v2.2) (fun v3 => .inr (upd (upd (upd (upd F (137 + 3 * (F 13).toInt.toNat) v1.1) (137 + 3 * (F 13).toInt.toNat + 1) v2.1) (137 + 3 * (F 13).toInt.toNat + 2) v3.1) 13 (F 13 + 1), v3.2))))
theorem qm_seenLine {F T L F2 L2 : Nat → Int32} {n a en fd ft ns pl tk wh at2 en2 fd2 ft2 ns2 pl2 tk2 wh2 : Int32} (hn : IV n 0 900) (h13 : IV (F 13) 0 6) (hm : MS T n (.inr a) a en fd ft L ns pl tk wh) (h : R_m_seenLineX n a en tk wh ns ft pl fd T L F at2 en2 fd2 ft2 F2 L2 ns2 pl2 tk2 wh2) : MF T n F (seenS F T n a) at2 en2 fd2 ft2 F2 L2 ns2 pl2 tk2 wh2 := by
  obtain ⟨s1, s2, s3, s4, s5⟩ := hm
  unfold R_m_seenLineX at h
  obtain ⟨z1, hz1, h⟩ := h
  rw [tc13] at hz1
  rcases h with ⟨g1, z6, hz6, h⟩ | ⟨g1, f1, u1, p1, hb, z6, hz6, h⟩
  · rw [hz1] at g1
    rw [tc15] at hz6
    rcases h with h | ⟨g2, z16, hz16, h⟩
    · refine exA1 h ?_
      clear h
      intro g2 h
      refine exE3 h ?_
      clear h
      intro f1 u1 p1 hb h
      refine exA9 h ?_
      clear h
      intro k1 k2 k3 k4 k5 k6 k7 k8 k9 k10
      obtain ⟨x1, x2, x3⟩ := qm_bad s1 hb
      rw [hz6] at g2
      simp only [seenS, if_neg g1, if_pos g2]; exact ⟨by rw [k3, x1], by rw [k4, x2], by rw [k8, x3]⟩
    · rw [hz6] at g2
      rw [tc12] at hz16
      rcases h with ⟨g3, h⟩ | h
      · rw [hz16] at g3
        rcases h with ⟨-, h⟩ | ⟨q, -⟩
        · refine Exists.elim h ?_
          clear h
          intro a0 h
          refine exE5 h ?_
          clear h
          intro e0 L0 n0 t0 w0 hx0 h
          refine exE1 h ?_
          clear h
          intro z36 hz36 h
          refine exE1 h ?_
          clear h
          intro z39 hz39 h
          refine exE1 h ?_
          clear h
          intro z42 hz42 h
          refine exE10 h ?_
          clear h
          intro a1 e1 f1 u1 L1 n1 p1 t1 w1 r1 ha1 h
          refine exE1 h ?_
          clear h
          intro F1 hF1 h
          refine exE1 h ?_
          clear h
          intro z73 hz73 h
          refine exE10 h ?_
          clear h
          intro a2 e2 f2 u2 L2 n2 p2 t2 w2 r2 ha2 h
          refine exE1 h ?_
          clear h
          intro F2' hF2 h
          refine exE1 h ?_
          clear h
          intro z106 hz106 h
          refine exE10 h ?_
          clear h
          intro a3 e3 f3 u3 L3 n3 p3 t3 w3 r3 ha3 h
          refine exE1 h ?_
          clear h
          intro F3 hF3 h
          obtain ⟨x1, x2, x3⟩ := qm_next_at hn s4 s5 hx0
          have s0 : MS T n (.inr (nx T n a)) a0 e0 fd ft L0 n0 pl t0 w0 := ⟨s1, s2, x1, x2, x3⟩
          clear s1
          have n6 : (6 : Int32).toInt = 6 := by decide
          have b1 : (F 13).toInt ≠ 6 := fun q => g1 (Int32.toInt_inj.mp (q.trans n6.symm))
          have c1 : z1.toInt = (F 13).toInt := by rw [hz1]
          have c36 : z36.toInt = 3 * z1.toInt := in_mul hz36 (by decide) (by decide) (show IV z1 0 5 from ⟨by omega, by omega⟩) (by decide) (by decide)
          have c39 : z39.toInt = 137 + z36.toInt := in_add hz39 (show IV 137 137 137 from (by decide)) (show IV z36 0 15 from ⟨by omega, by omega⟩) (by decide) (by decide)
          have c73 : z73.toInt = z39.toInt + 1 := in_add hz73 (show IV z39 137 152 from ⟨by omega, by omega⟩) (show IV 1 1 1 from (by decide)) (by decide) (by decide)
          have c106 : z106.toInt = z39.toInt + 2 := in_add hz106 (show IV z39 137 152 from ⟨by omega, by omega⟩) (show IV 2 2 2 from (by decide)) (by decide) (by decide)
          have i39 : z39.toNatClampNeg = 137 + 3 * (F 13).toInt.toNat := by have := tn_i (z := z39) (by omega); omega
          have i73 : z73.toNatClampNeg = 137 + 3 * (F 13).toInt.toNat + 1 := by have := tn_i (z := z73) (by omega); omega
          have i106 : z106.toNatClampNeg = 137 + 3 * (F 13).toInt.toNat + 2 := by have := tn_i (z := z106) (by omega); omega
          rw [hz42, hz16] at ha1
          have m1 : MV T n (numS T n 1 (F 12 - 1) (nx T n a)) r1 a1 e1 f1 u1 L1 n1 p1 t1 w1 := nu_r hn s0 ha1
          cases h1 : numS T n 1 (F 12 - 1) (nx T n a) with
          | inl e =>
            rw [h1] at m1
            have m1 := MV_l m1
            have m2 : MS T n (.inl e) a2 e2 f2 u2 L2 n2 p2 t2 w2 := af_l hn wok_black m1 ha2
            have m3 : MS T n (.inl e) a3 e3 f3 u3 L3 n3 p3 t3 w3 := af_l hn wok_lost m2 ha3
            refine exA2 (MS_l m3) ?_
            intro x1 x2 x3
            rcases h with h | ⟨q, -⟩
            · refine exA10 h ?_
              clear h
              intro zn0 k1 k2 k3 k4 k5 k6 k7 k8 k9 k10
              clear zn0
              simp only [seenS, h1, bnd, if_neg g1, if_neg g2, if_neg g3]; exact ⟨by rw [k3, x1], by rw [k4, x2], by rw [k8, x3]⟩
            · rw [x1] at q; exact absurd q one0
          | inr v1 =>
            rw [h1] at m1
            refine exA1 (MV_r m1) ?_
            intro er1 s1
            have m2 : MV T n (aftS T n "black" 0 9999 v1.2) r2 a2 e2 f2 u2 L2 n2 p2 t2 w2 := af_r hn wok_black s1 ha2
            cases h2 : aftS T n "black" 0 9999 v1.2 with
            | inl e =>
              rw [h2] at m2
              have m2 := MV_l m2
              have m3 : MS T n (.inl e) a3 e3 f3 u3 L3 n3 p3 t3 w3 := af_l hn wok_lost m2 ha3
              refine exA2 (MS_l m3) ?_
              intro x1 x2 x3
              rcases h with h | ⟨q, -⟩
              · refine exA10 h ?_
                clear h
                intro zn0 k1 k2 k3 k4 k5 k6 k7 k8 k9 k10
                clear zn0
                simp only [seenS, h1, h2, bnd, if_neg g1, if_neg g2, if_neg g3]; exact ⟨by rw [k3, x1], by rw [k4, x2], by rw [k8, x3]⟩
              · rw [x1] at q; exact absurd q one0
            | inr v2 =>
              rw [h2] at m2
              refine exA1 (MV_r m2) ?_
              intro er2 s2
              have m3 : MV T n (aftS T n "lost" 0 9999 v2.2) r3 a3 e3 f3 u3 L3 n3 p3 t3 w3 := af_r hn wok_lost s2 ha3
              cases h3 : aftS T n "lost" 0 9999 v2.2 with
              | inl e =>
                rw [h3] at m3
                have m3 := MV_l m3
                refine exA2 (MS_l m3) ?_
                intro x1 x2 x3
                rcases h with h | ⟨q, -⟩
                · refine exA10 h ?_
                  clear h
                  intro zn0 k1 k2 k3 k4 k5 k6 k7 k8 k9 k10
                  clear zn0
                  simp only [seenS, h1, h2, h3, bnd, if_neg g1, if_neg g2, if_neg g3]; exact ⟨by rw [k3, x1], by rw [k4, x2], by rw [k8, x3]⟩
                · rw [x1] at q; exact absurd q one0
              | inr v3 =>
                rw [h3] at m3
                refine exA1 (MV_r m3) ?_
                intro er3 s3
                rcases h with ⟨q, -⟩ | h
                · exact absurd (MS_r s3).1 q
                · refine exA1 h ?_
                  clear h
                  intro zn0 h
                  refine exE1 h ?_
                  clear h
                  intro z142 hz142 h
                  refine exE1 h ?_
                  clear h
                  intro G hG h
                  refine exA9 h ?_
                  clear h
                  intro k1 k2 k3 k4 k5 k6 k7 k8 k9 k10
                  clear zn0
                  simp only [seenS, h1, h2, h3, bnd, if_neg g1, if_neg g2, if_neg g3]
                  subst k1 k2 k3 k4 k6 k7 k8 k9 k10
                  refine ⟨?_, s3⟩
                  rw [k5, hG, hF3, hF2, hF1, er1, er2, er3, hz142, hz1, tc13, i39, i73, i106]
        · exact absurd s1 q
      · refine exA1 h ?_
        clear h
        intro g3 h
        refine exE3 h ?_
        clear h
        intro f1 u1 p1 hb h
        refine exA9 h ?_
        clear h
        intro k1 k2 k3 k4 k5 k6 k7 k8 k9 k10
        obtain ⟨x1, x2, x3⟩ := qm_bad s1 hb
        rw [hz16] at g3
        simp only [seenS, if_neg g1, if_neg g2, if_pos g3]; exact ⟨by rw [k3, x1], by rw [k4, x2], by rw [k8, x3]⟩
  · rw [hz1] at g1
    obtain ⟨y1, y2, y3⟩ := qm_bad s1 hb
    simp only [seenS, if_pos g1]
    rcases h with h | ⟨g2, z16, hz16, h⟩
    · refine exA1 h ?_
      clear h
      intro g2 h
      refine exE3 h ?_
      clear h
      intro f2 u2 p2 hb2 h
      refine exA9 h ?_
      clear h
      intro k1 k2 k3 k4 k5 k6 k7 k8 k9 k10
      obtain ⟨x1, x2, x3⟩ := qm_bad1 y1 hb2
      exact ⟨by rw [k3, x1], by rw [k4, x2, y2], by rw [k8, x3, y3]⟩
    · rcases h with h | h
      · refine exA10 h ?_
        clear h
        intro g3 k1 k2 k3 k4 k5 k6 k7 k8 k9 k10
        exact ⟨by rw [k3, y1], by rw [k4, y2], by rw [k8, y3]⟩
      · refine exA1 h ?_
        clear h
        intro g3 h
        refine exE3 h ?_
        clear h
        intro f2 u2 p2 hb2 h
        refine exA9 h ?_
        clear h
        intro k1 k2 k3 k4 k5 k6 k7 k8 k9 k10
        obtain ⟨x1, x2, x3⟩ := qm_bad1 y1 hb2
        exact ⟨by rw [k3, x1], by rw [k4, x2, y2], by rw [k8, x3, y3]⟩
noncomputable def reelP (F T : Nat → Int32) (n a : Int32) : Rs (Int32 × Int32) := bnd (oldS F T n 0 7 a) (fun r => .inr (r, nx T n a))
theorem oldR_iv {F T : Nat → Int32} {n a r : Int32} (h : oldS F T n 0 7 a = .inr r) : IV r 0 7 := by
  unfold oldS at h
  by_cases ok : NameOk T n a
  · rw [if_pos ok] at h
    have iv := findS_iv (F := F) (T := T) (n := n) (a := a)
    split at h
    · cases h
    · split at h
      · cases h
      · rename_i q1 q2
        rw [lt_I, zI] at q1
        have n7 : (7 : Int32).toInt = 7 := by decide
        rw [lt_I, n7] at q2
        have e := Sum.inr.inj h
        have e2 := in_sub e.symm iv (show IV 0 0 0 from (by decide)) (by decide) (by decide)
        rw [zI] at e2
        exact ⟨by omega, by omega⟩
  · rw [if_neg ok] at h; cases h
theorem qm_reelPassed {F T L L2 : Nat → Int32} {n a en fd ft ns pl tk wh at2 en2 fd2 ft2 ns2 pl2 tk2 wh2 r : Int32} (hn : IV n 0 900) (hm : MS T n (.inr a) a en fd ft L ns pl tk wh) (h : R_m_reelPassedX n a en tk wh ns ft pl fd T L F at2 en2 fd2 ft2 L2 ns2 pl2 tk2 wh2 r) : MV T n (reelP F T n a) r at2 en2 fd2 ft2 L2 ns2 pl2 tk2 wh2 := by
  obtain ⟨s1, s2, s3, s4, s5⟩ := hm
  simp only [R_m_reelPassedX] at h
  obtain ⟨f1, u1, p1, r1, hr, h⟩ := h
  rcases qm_namedR hn s4 s1 s5 hr with ⟨f, e1, e2, e3, e4⟩ | ⟨e1, e2, e3, e4⟩
  · rcases h with h | ⟨q, -⟩
    · refine exA10 h ?_
      clear h
      intro zn0 k1 k2 k3 k4 k5 k6 k7 k8 k9 k10
      clear zn0
      simp only [reelP, e1, bnd]
      exact ⟨by rw [k3, e2], by rw [k4, e3], by rw [k7, e4]⟩
    · rw [e2] at q; exact absurd q one0
  · rcases h with ⟨q, -⟩ | h
    · exact absurd e2 q
    · refine exA1 h ?_
      clear h
      intro zn0 h
      refine exE6 h ?_
      clear h
      intro a2 e5 M2 m2 t2 w2 hx h
      refine exA9 h ?_
      clear h
      intro k1 k2 k3 k4 k5 k6 k7 k8 k9 k10
      clear zn0
      obtain ⟨x1, x2, x3⟩ := qm_next_at hn s4 s5 hx
      simp only [reelP, e1, bnd]
      subst k1 k2 k5 k6 k8 k9
      exact ⟨k10, by rw [k3, e2], by rw [k4, e3, s2], x1, x2, x3⟩
theorem qm_frameOf {F T L L2 : Nat → Int32} {n p at_ en fd ft ns pl tk wh at2 en2 fd2 ft2 ns2 pl2 tk2 wh2 r : Int32} {ρ : Rs Int32} (hn : IV n 0 900) (hp : IV p 0 7) (hm : MS T n ρ at_ en fd ft L ns pl tk wh) (h : R_m_frameOfX p n at_ en tk wh ns ft pl fd T L F at2 en2 fd2 ft2 L2 ns2 pl2 tk2 wh2 r) : MV T n (bnd ρ (numS T n 0 (F (16 + 3 * p.toInt.toNat) - 1))) r at2 en2 fd2 ft2 L2 ns2 pl2 tk2 wh2 := by
  simp only [R_m_frameOfX] at h
  refine exE1 h ?_
  clear h
  intro z1 hz1 h
  refine exE1 h ?_
  clear h
  intro z4 hz4 h
  refine exE1 h ?_
  clear h
  intro z7 hz7 h
  refine exE1 h ?_
  clear h
  intro z8 hz8 h
  refine exE10 h ?_
  clear h
  intro a2 e2 f2 u2 M2 n2 p2 t2 w2 r2 hu h
  refine exA9 h ?_
  clear h
  intro k1 k2 k3 k4 k5 k6 k7 k8 k9 k10
  have c1 : z1.toInt = 3 * p.toInt := in_mul hz1 (by decide) (by decide) hp (by decide) (by decide)
  have c4 : z4.toInt = 16 + z1.toInt := in_add hz4 (show IV 16 16 16 from (by decide)) (show IV z1 0 21 from ⟨by have := hp; omega, by have := hp; omega⟩) (by decide) (by decide)
  have i4 : z4.toNatClampNeg = 16 + 3 * p.toInt.toNat := by have := hp; have := tn_i (z := z4) (by omega); omega
  rw [hz8, hz7, i4] at hu
  subst k1 k2 k3 k4 k5 k6 k7 k8 k9 k10
  exact qm_number hn hm hu
theorem fo_r {F T L L2 : Nat → Int32} {n p at_ en fd ft ns pl tk wh at2 en2 fd2 ft2 ns2 pl2 tk2 wh2 r b : Int32} (hn : IV n 0 900) (hp : IV p 0 7) (hm : MS T n (.inr b) at_ en fd ft L ns pl tk wh) (h : R_m_frameOfX p n at_ en tk wh ns ft pl fd T L F at2 en2 fd2 ft2 L2 ns2 pl2 tk2 wh2 r) : MV T n (numS T n 0 (F (16 + 3 * p.toInt.toNat) - 1) b) r at2 en2 fd2 ft2 L2 ns2 pl2 tk2 wh2 := by
  have q := qm_frameOf hn hp hm h
  rw [bnd_r] at q
  exact q
theorem reelP_inr {F T : Nat → Int32} {n a : Int32} {v : Int32 × Int32} (h : reelP F T n a = .inr v) : IV v.1 0 7 ∧ v.2 = nx T n a := by
  unfold reelP at h
  cases q : oldS F T n 0 7 a with
  | inl e => rw [q] at h; cases h
  | inr r =>
    rw [q] at h
    have := Sum.inr.inj h
    subst this
    exact ⟨oldR_iv q, rfl⟩
noncomputable def joinS (F T : Nat → Int32) (n a : Int32) : Rs ((Nat → Int32) × Int32) := bnd (reelP F T n a) (fun v0 => bnd (numS T n 0 (F (16 + 3 * v0.1.toInt.toNat) - 1) v0.2) (fun v1 => bnd (aftS T n "lacks" 1 99 v1.2) (fun v2 => .inr (upd (upd (upd F (80 + 2 * (F 9).toInt.toNat) v0.1) (80 + 2 * (F 9).toInt.toNat + 1) v2.1) 9 (F 9 + 1), v2.2))))
noncomputable def scratchS (F T : Nat → Int32) (n a : Int32) : Rs ((Nat → Int32) × Int32) := bnd (reelP F T n a) (fun v0 => bnd (numS T n 0 (F (16 + 3 * v0.1.toInt.toNat) - 1) v0.2) (fun v1 => .inr (upd (upd (upd F (155 + 2 * (F 14).toInt.toNat) v0.1) (155 + 2 * (F 14).toInt.toNat + 1) v1.1) 14 (F 14 + 1), v1.2)))
theorem qm_joinLine {F T L F2 L2 : Nat → Int32} {n a en fd ft ns pl tk wh at2 en2 fd2 ft2 ns2 pl2 tk2 wh2 : Int32} (hn : IV n 0 900) (h9 : IV (F 9) 0 7) (hm : MS T n (.inr a) a en fd ft L ns pl tk wh) (h : R_m_joinLineX n a en tk wh ns ft pl fd T L F at2 en2 fd2 ft2 F2 L2 ns2 pl2 tk2 wh2) : MF T n F (joinS F T n a) at2 en2 fd2 ft2 F2 L2 ns2 pl2 tk2 wh2 := by
  obtain ⟨s1, s2, s3, s4, s5⟩ := hm
  unfold R_m_joinLineX at h
  rcases h with ⟨-, h⟩ | ⟨q, -⟩
  · refine Exists.elim h ?_
    clear h
    intro z5 h
    refine exA1 h ?_
    clear h
    intro hz5 h
    refine exE1 h ?_
    clear h
    intro z8 hz8 h
    refine exE1 h ?_
    clear h
    intro z11 hz11 h
    refine exE10 h ?_
    clear h
    intro a0 e0 f0 u0 L0 n0 p0 t0 w0 r0 ha0 h
    refine exE1 h ?_
    clear h
    intro F0 hF0 h
    rw [tc9] at hz5
    have g5 : z5.toInt = (F 9).toInt := by rw [hz5]
    have g8 : z8.toInt = 2 * z5.toInt := in_mul hz8 (by decide) (by decide) (show IV z5 0 7 from ⟨by omega, by omega⟩) (by decide) (by decide)
    have g11 : z11.toInt = 80 + z8.toInt := in_add hz11 (show IV 80 80 80 from (by decide)) (show IV z8 0 14 from ⟨by omega, by omega⟩) (by decide) (by decide)
    have c11 : z11.toNatClampNeg = 80 + 2 * (F 9).toInt.toNat := by have := tn_i (z := z11) (by omega); omega
    have m0 := qm_reelPassed hn ⟨s1, s2, rfl, s4, s5⟩ ha0
    cases h0 : reelP F T n a with
    | inl e =>
      rw [h0] at m0
      obtain ⟨y1, y2, y3⟩ := MS_l (MV_l m0)
      rcases h with ⟨-, h⟩ | ⟨q, -⟩
      · refine Exists.elim h ?_
        clear h
        intro z40 h
        refine exA1 h ?_
        clear h
        intro hz40 h
        refine exE10 h ?_
        clear h
        intro a2 e2 f2 u2 L2 n2 p2 t2 w2 r2 ha2 h
        refine exE1 h ?_
        clear h
        intro F1 hF1 h
        have m2 : MS T n (.inl e) a2 e2 f2 u2 L2 n2 p2 t2 w2 := af_l hn wok_lacks ⟨y1, y2, y3⟩ ha2
        refine exA2 (MS_l m2) ?_
        intro x1 x2 x3
        rcases h with h | ⟨q, -⟩
        · refine exA10 h ?_
          clear h
          intro zn0 k1 k2 k3 k4 k5 k6 k7 k8 k9 k10
          clear zn0
          simp only [joinS, h0, bnd]; exact ⟨by rw [k3, x1], by rw [k4, x2], by rw [k8, x3]⟩
        · rw [x1] at q; exact absurd q one0
      · rw [y1] at q; exact absurd q one0
    | inr v0 =>
      rw [h0] at m0
      refine exA1 (MV_r m0) ?_
      intro er0 s0
      obtain ⟨iv0, ev0⟩ := reelP_inr h0
      have eF : F0 z11.toNatClampNeg = v0.1 := by rw [hF0, upd_at, er0]
      have eF2 : F0 (16 + 3 * v0.1.toInt.toNat) = F (16 + 3 * v0.1.toInt.toNat) := by rw [hF0, upd_ne (by have := iv0; omega)]
      rcases h with ⟨q, -⟩ | ⟨-, h⟩
      · exact absurd (MS_r s0).1 q
      · refine Exists.elim h ?_
        clear h
        intro z83 h
        refine exA1 h ?_
        clear h
        intro hz83 h
        refine exE10 h ?_
        clear h
        intro a1 e1 f1 u1 L1 n1 p1 t1 w1 r1 ha1 h
        refine exE1 h ?_
        clear h
        intro z102 hz102 h
        refine exE10 h ?_
        clear h
        intro a2 e2 f2 u2 L2 n2 p2 t2 w2 r2 ha2 h
        refine exE1 h ?_
        clear h
        intro F1 hF1 h
        rw [eF] at hz83
        subst hz83
        have g102 : z102.toInt = z11.toInt + 1 := in_add hz102 (show IV z11 80 94 from ⟨by omega, by omega⟩) (show IV 1 1 1 from (by decide)) (by decide) (by decide)
        have c102 : z102.toNatClampNeg = 80 + 2 * (F 9).toInt.toNat + 1 := by have := tn_i (z := z102) (by omega); omega
        have m1 : MV T n (numS T n 0 (F0 (16 + 3 * v0.1.toInt.toNat) - 1) v0.2) r1 a1 e1 f1 u1 L1 n1 p1 t1 w1 := fo_r hn iv0 s0 ha1
        rw [eF2] at m1
        cases h1 : numS T n 0 (F (16 + 3 * v0.1.toInt.toNat) - 1) v0.2 with
        | inl e =>
          rw [h1] at m1
          have m2 : MS T n (.inl e) a2 e2 f2 u2 L2 n2 p2 t2 w2 := af_l hn wok_lacks (MV_l m1) ha2
          refine exA2 (MS_l m2) ?_
          intro x1 x2 x3
          rcases h with h | ⟨q, -⟩
          · refine exA10 h ?_
            clear h
            intro zn0 k1 k2 k3 k4 k5 k6 k7 k8 k9 k10
            clear zn0
            simp only [joinS, h0, h1, bnd]; exact ⟨by rw [k3, x1], by rw [k4, x2], by rw [k8, x3]⟩
          · rw [x1] at q; exact absurd q one0
        | inr v1 =>
          rw [h1] at m1
          refine exA1 (MV_r m1) ?_
          intro er1 s1
          have m2 : MV T n (aftS T n "lacks" 1 99 v1.2) r2 a2 e2 f2 u2 L2 n2 p2 t2 w2 := af_r hn wok_lacks s1 ha2
          cases h2 : aftS T n "lacks" 1 99 v1.2 with
          | inl e =>
            rw [h2] at m2
            have m2 := MV_l m2
            refine exA2 (MS_l m2) ?_
            intro x1 x2 x3
            rcases h with h | ⟨q, -⟩
            · refine exA10 h ?_
              clear h
              intro zn0 k1 k2 k3 k4 k5 k6 k7 k8 k9 k10
              clear zn0
              simp only [joinS, h0, h1, h2, bnd]; exact ⟨by rw [k3, x1], by rw [k4, x2], by rw [k8, x3]⟩
            · rw [x1] at q; exact absurd q one0
          | inr v2 =>
            rw [h2] at m2
            refine exA1 (MV_r m2) ?_
            intro er2 s2
            rcases h with ⟨q, -⟩ | h
            · exact absurd (MS_r s2).1 q
            · refine exA1 h ?_
              clear h
              intro zn0 h
              refine exE1 h ?_
              clear h
              intro z74 hz74 h
              refine exE1 h ?_
              clear h
              intro G hG h
              refine exA9 h ?_
              clear h
              intro k1 k2 k3 k4 k5 k6 k7 k8 k9 k10
              clear zn0
              simp only [joinS, h0, h1, h2, bnd]
              subst k1 k2 k3 k4 k6 k7 k8 k9 k10
              refine ⟨?_, s2⟩
              rw [k5, hG, hF1, hF0, er0, er2, hz74, hz5, tc9, c11, c102]
  · exact absurd s1 q
theorem qm_scratchLine {F T L F2 L2 : Nat → Int32} {n a en fd ft ns pl tk wh at2 en2 fd2 ft2 ns2 pl2 tk2 wh2 : Int32} (hn : IV n 0 900) (h9 : IV (F 14) 0 5) (hm : MS T n (.inr a) a en fd ft L ns pl tk wh) (h : R_m_scratchLineX n a en tk wh ns ft pl fd T L F at2 en2 fd2 ft2 F2 L2 ns2 pl2 tk2 wh2) : MF T n F (scratchS F T n a) at2 en2 fd2 ft2 F2 L2 ns2 pl2 tk2 wh2 := by
  obtain ⟨s1, s2, s3, s4, s5⟩ := hm
  unfold R_m_scratchLineX at h
  rcases h with ⟨-, h⟩ | ⟨q, -⟩
  · refine Exists.elim h ?_
    clear h
    intro z5 h
    refine exA1 h ?_
    clear h
    intro hz5 h
    refine exE1 h ?_
    clear h
    intro z8 hz8 h
    refine exE1 h ?_
    clear h
    intro z11 hz11 h
    refine exE10 h ?_
    clear h
    intro a0 e0 f0 u0 L0 n0 p0 t0 w0 r0 ha0 h
    refine exE1 h ?_
    clear h
    intro F0 hF0 h
    rw [tc14] at hz5
    have g5 : z5.toInt = (F 14).toInt := by rw [hz5]
    have g8 : z8.toInt = 2 * z5.toInt := in_mul hz8 (by decide) (by decide) (show IV z5 0 5 from ⟨by omega, by omega⟩) (by decide) (by decide)
    have g11 : z11.toInt = 155 + z8.toInt := in_add hz11 (show IV 155 155 155 from (by decide)) (show IV z8 0 10 from ⟨by omega, by omega⟩) (by decide) (by decide)
    have c11 : z11.toNatClampNeg = 155 + 2 * (F 14).toInt.toNat := by have := tn_i (z := z11) (by omega); omega
    have m0 := qm_reelPassed hn ⟨s1, s2, rfl, s4, s5⟩ ha0
    cases h0 : reelP F T n a with
    | inl e =>
      rw [h0] at m0
      obtain ⟨y1, y2, y3⟩ := MS_l (MV_l m0)
      rcases h with h | ⟨q, -⟩
      · refine exA10 h ?_
        clear h
        intro zn0 k1 k2 k3 k4 k5 k6 k7 k8 k9 k10
        clear zn0
        simp only [scratchS, h0, bnd]; exact ⟨by rw [k3, y1], by rw [k4, y2], by rw [k8, y3]⟩
      · rw [y1] at q; exact absurd q one0
    | inr v0 =>
      rw [h0] at m0
      refine exA1 (MV_r m0) ?_
      intro er0 s0
      obtain ⟨iv0, ev0⟩ := reelP_inr h0
      have eF : F0 z11.toNatClampNeg = v0.1 := by rw [hF0, upd_at, er0]
      have eF2 : F0 (16 + 3 * v0.1.toInt.toNat) = F (16 + 3 * v0.1.toInt.toNat) := by rw [hF0, upd_ne (by have := iv0; omega)]
      rcases h with ⟨q, -⟩ | ⟨-, h⟩
      · exact absurd (MS_r s0).1 q
      · refine Exists.elim h ?_
        clear h
        intro z42 h
        refine exA1 h ?_
        clear h
        intro hz42 h
        refine exE1 h ?_
        clear h
        intro z45 hz45 h
        refine exE10 h ?_
        clear h
        intro a1 e1 f1 u1 L1 n1 p1 t1 w1 r1 ha1 h
        refine exE1 h ?_
        clear h
        intro F1 hF1 h
        rw [eF] at hz45
        subst hz45
        have g102 : z42.toInt = z11.toInt + 1 := in_add hz42 (show IV z11 155 165 from ⟨by omega, by omega⟩) (show IV 1 1 1 from (by decide)) (by decide) (by decide)
        have c102 : z42.toNatClampNeg = 155 + 2 * (F 14).toInt.toNat + 1 := by have := tn_i (z := z42) (by omega); omega
        have m1 : MV T n (numS T n 0 (F0 (16 + 3 * v0.1.toInt.toNat) - 1) v0.2) r1 a1 e1 f1 u1 L1 n1 p1 t1 w1 := fo_r hn iv0 s0 ha1
        rw [eF2] at m1
        cases h1 : numS T n 0 (F (16 + 3 * v0.1.toInt.toNat) - 1) v0.2 with
        | inl e =>
          rw [h1] at m1
          obtain ⟨x1, x2, x3⟩ := MS_l (MV_l m1)
          rcases h with h | ⟨q, -⟩
          · refine exA10 h ?_
            clear h
            intro zn0 k1 k2 k3 k4 k5 k6 k7 k8 k9 k10
            clear zn0
            simp only [scratchS, h0, h1, bnd]; exact ⟨by rw [k3, x1], by rw [k4, x2], by rw [k8, x3]⟩
          · rw [x1] at q; exact absurd q one0
        | inr v1 =>
          rw [h1] at m1
          refine exA1 (MV_r m1) ?_
          intro er1 s1
          rcases h with ⟨q, -⟩ | h
          · exact absurd (MS_r s1).1 q
          · refine exA1 h ?_
            clear h
            intro zn0 h
            refine exE1 h ?_
            clear h
            intro z74 hz74 h
            refine exE1 h ?_
            clear h
            intro G hG h
            refine exA9 h ?_
            clear h
            intro k1 k2 k3 k4 k5 k6 k7 k8 k9 k10
            clear zn0
            simp only [scratchS, h0, h1, bnd]
            subst k1 k2 k3 k4 k6 k7 k8 k9 k10
            refine ⟨?_, s1⟩
            rw [k5, hG, hF1, hF0, er0, er1, hz74, hz5, tc14, c11, c102]
  · exact absurd s1 q
noncomputable def opnS (F T : Nat → Int32) (n p a : Int32) : Rs Int32 := if p = 0 then .inl (5, a) else if F 15 = 0 then .inl (6, a) else .inr (nx T n a)
noncomputable def onceS (F T : Nat → Int32) (n p a : Int32) : Rs Int32 := if p = 0 then (if F 15 = 0 then .inl (6, a) else .inr (nx T n a)) else .inl (3, a)
theorem qm_opens {F T L L2 : Nat → Int32} {n p a en fd ft ns pl tk wh at2 en2 fd2 ft2 ns2 pl2 tk2 wh2 r : Int32} {w : String} (hn : IV n 0 900) (hw : WOk w) (hm : MS T n (.inr a) a en fd ft L ns pl tk wh) (h : R_m_opensX p n a en tk wh ns ft pl fd T L F w at2 en2 fd2 ft2 L2 ns2 pl2 tk2 wh2 r) : (IsW T n a w ∧ r = 1 ∧ MS T n (opnS F T n p a) at2 en2 fd2 ft2 L2 ns2 pl2 tk2 wh2) ∨ (¬ IsW T n a w ∧ r = 0 ∧ at2 = a ∧ en2 = en ∧ fd2 = fd ∧ ft2 = ft ∧ L2 = L ∧ ns2 = ns ∧ pl2 = pl ∧ tk2 = tk ∧ wh2 = wh) := by
  obtain ⟨s1, s2, s3, s4, s5⟩ := hm
  simp only [R_m_opensX] at h
  obtain ⟨r1, hr1, h⟩ := h
  rw [s1] at hr1
  rcases m_is_spec hw s5 hr1 with ⟨q, hq⟩ | ⟨q, hq⟩
  · rcases h with ⟨-, h⟩ | ⟨q2, -⟩
    · refine Or.inl ⟨hq, ?_⟩
      rcases h with ⟨g1, z, hz, h⟩ | ⟨g1, f1, u1, p1, hb, z, hz, h⟩
      · rw [tc15] at hz
        rcases h with h | h
        · refine exA1 h ?_
          clear h
          intro g2 h
          refine exE6 h ?_
          clear h
          intro a2 e5 M2 m2 t2 w2 hx h
          refine exA9 h ?_
          clear h
          intro k1 k2 k3 k4 k5 k6 k7 k8 k9 k10
          obtain ⟨x1, x2, x3⟩ := qm_next_at hn s4 s5 hx
          rw [hz] at g2
          refine ⟨k10, ?_⟩
          simp only [opnS, if_neg g1, if_neg g2]
          subst k1 k2 k5 k6 k8 k9
          exact ⟨by rw [k3, s1], by rw [k4, s2], x1, x2, x3⟩
        · refine exA1 h ?_
          clear h
          intro g2 h
          refine exE3 h ?_
          clear h
          intro f1 u1 p1 hb h
          refine exA9 h ?_
          clear h
          intro k1 k2 k3 k4 k5 k6 k7 k8 k9 k10
          obtain ⟨x1, x2, x3⟩ := qm_bad s1 hb
          rw [hz] at g2
          refine ⟨k10, ?_⟩
          simp only [opnS, if_neg g1, if_pos g2]
          exact ⟨by rw [k3, x1], by rw [k4, x2], by rw [k7, x3]⟩
      · obtain ⟨y1, y2, y3⟩ := qm_bad s1 hb
        rcases h with h | h
        · refine exA10 h ?_
          clear h
          intro g2 k1 k2 k3 k4 k5 k6 k7 k8 k9 k10
          refine ⟨k10, ?_⟩
          simp only [opnS, if_pos g1]
          exact ⟨by rw [k3, y1], by rw [k4, y2], by rw [k7, y3]⟩
        · refine exA1 h ?_
          clear h
          intro g2 h
          refine exE3 h ?_
          clear h
          intro f2 u2 p2 hb2 h
          refine exA9 h ?_
          clear h
          intro k1 k2 k3 k4 k5 k6 k7 k8 k9 k10
          obtain ⟨x1, x2, x3⟩ := qm_bad1 y1 hb2
          refine ⟨k10, ?_⟩
          simp only [opnS, if_pos g1]
          exact ⟨by rw [k3, x1], by rw [k4, x2, y2], by rw [k7, x3, y3]⟩
    · rw [q] at q2; exact absurd q2 one0
  · rcases h with ⟨q2, -⟩ | h
    · exact absurd q q2
    · refine exA10 h ?_
      clear h
      intro zn0 k1 k2 k3 k4 k5 k6 k7 k8 k9 k10
      clear zn0
      exact Or.inr ⟨hq, k10, k1, k2, k3, k4, k5, k6, k7, k8, k9⟩
theorem qm_opensOnce {F T L L2 : Nat → Int32} {n p a en fd ft ns pl tk wh at2 en2 fd2 ft2 ns2 pl2 tk2 wh2 r : Int32} {w : String} (hn : IV n 0 900) (hw : WOk w) (hm : MS T n (.inr a) a en fd ft L ns pl tk wh) (h : R_m_opensOnceX p n a en tk wh ns ft pl fd T L F w at2 en2 fd2 ft2 L2 ns2 pl2 tk2 wh2 r) : (IsW T n a w ∧ r = 1 ∧ MS T n (onceS F T n p a) at2 en2 fd2 ft2 L2 ns2 pl2 tk2 wh2) ∨ (¬ IsW T n a w ∧ r = 0 ∧ at2 = a ∧ en2 = en ∧ fd2 = fd ∧ ft2 = ft ∧ L2 = L ∧ ns2 = ns ∧ pl2 = pl ∧ tk2 = tk ∧ wh2 = wh) := by
  obtain ⟨s1, s2, s3, s4, s5⟩ := hm
  simp only [R_m_opensOnceX] at h
  obtain ⟨r1, hr1, h⟩ := h
  rw [s1] at hr1
  rcases m_is_spec hw s5 hr1 with ⟨q, hq⟩ | ⟨q, hq⟩
  · rcases h with ⟨-, h⟩ | ⟨q2, -⟩
    · refine Or.inl ⟨hq, ?_⟩
      rcases h with ⟨g1, z, hz, h⟩ | ⟨g1, f1, u1, p1, hb, z, hz, h⟩
      · rw [tc15] at hz
        rcases h with h | h
        · refine exA1 h ?_
          clear h
          intro g2 h
          refine exE6 h ?_
          clear h
          intro a2 e5 M2 m2 t2 w2 hx h
          refine exA9 h ?_
          clear h
          intro k1 k2 k3 k4 k5 k6 k7 k8 k9 k10
          obtain ⟨x1, x2, x3⟩ := qm_next_at hn s4 s5 hx
          rw [hz] at g2
          refine ⟨k10, ?_⟩
          simp only [onceS, if_pos g1, if_neg g2]
          subst k1 k2 k5 k6 k8 k9
          exact ⟨by rw [k3, s1], by rw [k4, s2], x1, x2, x3⟩
        · refine exA1 h ?_
          clear h
          intro g2 h
          refine exE3 h ?_
          clear h
          intro f1 u1 p1 hb h
          refine exA9 h ?_
          clear h
          intro k1 k2 k3 k4 k5 k6 k7 k8 k9 k10
          obtain ⟨x1, x2, x3⟩ := qm_bad s1 hb
          rw [hz] at g2
          refine ⟨k10, ?_⟩
          simp only [onceS, if_pos g1, if_pos g2]
          exact ⟨by rw [k3, x1], by rw [k4, x2], by rw [k7, x3]⟩
      · obtain ⟨y1, y2, y3⟩ := qm_bad s1 hb
        rcases h with h | h
        · refine exA10 h ?_
          clear h
          intro g2 k1 k2 k3 k4 k5 k6 k7 k8 k9 k10
          refine ⟨k10, ?_⟩
          simp only [onceS, if_neg g1]
          exact ⟨by rw [k3, y1], by rw [k4, y2], by rw [k7, y3]⟩
        · refine exA1 h ?_
          clear h
          intro g2 h
          refine exE3 h ?_
          clear h
          intro f2 u2 p2 hb2 h
          refine exA9 h ?_
          clear h
          intro k1 k2 k3 k4 k5 k6 k7 k8 k9 k10
          obtain ⟨x1, x2, x3⟩ := qm_bad1 y1 hb2
          refine ⟨k10, ?_⟩
          simp only [onceS, if_neg g1]
          exact ⟨by rw [k3, x1], by rw [k4, x2, y2], by rw [k7, x3, y3]⟩
    · rw [q] at q2; exact absurd q2 one0
  · rcases h with ⟨q2, -⟩ | h
    · exact absurd q q2
    · refine exA10 h ?_
      clear h
      intro zn0 k1 k2 k3 k4 k5 k6 k7 k8 k9 k10
      clear zn0
      exact Or.inr ⟨hq, k10, k1, k2, k3, k4, k5, k6, k7, k8, k9⟩

set_option maxRecDepth 100000
set_option maxHeartbeats 4000000
def Dup (F : Nat → Int32) (base off idx : Nat) (x y : Int32) : Prop := ∃ k : Nat, (k : Int) < (F idx).toInt ∧ F (base + 3 * k) = x ∧ F (base + 3 * k + off) = y
theorem mu_r {T L L2 : Nat → Int32} {n at_ en fd ft ns pl tk wh at2 en2 fd2 ft2 ns2 pl2 tk2 wh2 b : Int32} {w : String} (hn : IV n 0 900) (hw : WOk w) (hs : MS T n (.inr b) at_ en fd ft L ns pl tk wh) (h : R_m_mustX n at_ en tk wh ns ft pl fd T L w at2 en2 fd2 ft2 L2 ns2 pl2 tk2 wh2) : MS T n (labS T n w b) at2 en2 fd2 ft2 L2 ns2 pl2 tk2 wh2 := by
  have q := qm_must hn hw hs h
  rw [bnd_r] at q; exact q
theorem mu_l {T L L2 : Nat → Int32} {n at_ en fd ft ns pl tk wh at2 en2 fd2 ft2 ns2 pl2 tk2 wh2 : Int32} {w : String} {e : Int32 × Int32} (hn : IV n 0 900) (hw : WOk w) (hs : MS T n (.inl e) at_ en fd ft L ns pl tk wh) (h : R_m_mustX n at_ en tk wh ns ft pl fd T L w at2 en2 fd2 ft2 L2 ns2 pl2 tk2 wh2) : fd2 = 1 ∧ ft2 = e.1 ∧ pl2 = e.2 := by
  have q := qm_must hn hw hs h
  rw [bnd_l] at q; exact MS_l q
theorem qm_namedT1 {F L : Nat → Int32} {a ft ns pl tk fd fd2 ft2 pl2 r : Int32} (h0 : fd = 1) (h : R_m_namedTX a tk ns ft pl fd L F fd2 ft2 pl2 r) : fd2 = 1 ∧ ft2 = ft ∧ pl2 = pl := by
  simp only [R_m_namedTX] at h
  rcases h with ⟨q, -⟩ | ⟨-, k1, k2, k3, -⟩
  · rw [h0] at q; exact absurd q one0
  · exact ⟨by rw [k1, h0], k2, k3⟩
theorem f_m_markLineX_L0 {F : Nat → Int32} {z x y at_ ft pl : Int32} {κ : Int32 → Int32 → Int32 → Prop} : ∀ (f : Nat) (u : Int32), R_m_markLineX_L0 F z x at_ y κ f u pl 1 ft → κ 1 ft pl := by
  intro f
  induction f with
  | zero => intro u h; exact h.elim
  | succ f ih =>
    intro u h
    simp only [R_m_markLineX_L0] at h
    rcases h with ⟨-, h⟩ | ⟨-, h⟩
    · exact h
    · rcases h with ⟨-, z1, -, h⟩ | ⟨q, -⟩
      · exact ih _ h
      · exact absurd q one0
theorem o_m_markLineX_L0 {F : Nat → Int32} {z x y at_ ft pl : Int32} {κ : Int32 → Int32 → Int32 → Prop} (hz : z = F 8) (hi : IV (F 8) 0 11) : ∀ (f : Nat) (u : Int32) (j : Nat), u.toInt = j → (j : Int) ≤ (F 8).toInt → (∀ k : Nat, k < j → ¬ (F (44 + 3 * k) = x ∧ F (44 + 3 * k + 2) = y)) → R_m_markLineX_L0 F z x at_ y κ f u pl 0 ft → (¬ Dup F 44 2 8 x y ∧ κ 0 ft pl) ∨ (Dup F 44 2 8 x y ∧ κ 1 3 at_) := by
  intro f
  induction f with
  | zero => intro u j _ _ _ h; exact h.elim
  | succ f ih =>
    intro u j hj hj2 hall h
    simp only [R_m_markLineX_L0] at h
    rcases h with ⟨h1, h⟩ | ⟨h1, h⟩
    · rw [le_I, hz] at h1
      refine Or.inl ⟨?_, h⟩
      rintro ⟨k, k1, k2⟩
      exact hall k (by omega) k2
    · rw [le_I, hz] at h1
      rcases h with ⟨q, -⟩ | ⟨-, z1, hz1, z2, hz2, z3, hz3, h⟩
      · exact absurd rfl q
      · have c1 : z1.toInt = 3 * u.toInt := in_mul hz1 (by decide) (by decide) (show IV u 0 11 from ⟨by omega, by omega⟩) (by decide) (by decide)
        have c2 : z2.toInt = 44 + z1.toInt := in_add hz2 (show IV 44 44 44 from (by decide)) (show IV z1 0 33 from ⟨by omega, by omega⟩) (by decide) (by decide)
        have i2 : z2.toNatClampNeg = 44 + 3 * j := by have := tn_i (z := z2) (by omega); omega
        have e1 := inc1 (u := u) (z := u + 1) (a := 0) (b := 900) ⟨by omega, by omega⟩ (by omega) (by omega) rfl
        rw [i2] at hz3
        have go : ∀ z9 : Int32, u + Int32.ofInt 1 = z9 → ¬ (F (44 + 3 * j) = x ∧ F (44 + 3 * j + 2) = y) → R_m_markLineX_L0 F z x at_ y κ f z9 pl 0 ft → (¬ Dup F 44 2 8 x y ∧ κ 0 ft pl) ∨ (Dup F 44 2 8 x y ∧ κ 1 3 at_) := by
          intro z9 h9 hno h
          rw [ofI1] at h9
          subst h9
          refine ih (u + 1) (j + 1) (by omega) (by omega) (fun k hk => ?_) h
          by_cases q : k = j
          · subst q; exact hno
          · exact hall k (by omega)
        rcases h with ⟨h2, z9, h9, h⟩ | ⟨h2, z4, hz4, z5, hz5, h⟩
        · exact go z9 h9 (fun q => h2 (hz3.trans q.1)) h
        · have c4 : z4.toInt = z2.toInt + 2 := in_add hz4 (show IV z2 44 77 from ⟨by omega, by omega⟩) (show IV 2 2 2 from (by decide)) (by decide) (by decide)
          have i4 : z4.toNatClampNeg = 44 + 3 * j + 2 := by have := tn_i (z := z4) (by omega); omega
          rw [i4] at hz5
          rcases h with ⟨h3, z9, h9, h⟩ | ⟨h3, f1, u1, p1, hb, z9, -, h⟩
          · exact go z9 h9 (fun q => h3 (hz5.trans q.2)) h
          · obtain ⟨b1, b2, b3⟩ := qm_bad rfl hb
            rw [b1, b2, b3] at h
            exact Or.inr ⟨⟨j, by omega, hz3.symm.trans h2, hz5.symm.trans h3⟩, f_m_markLineX_L0 f z9 h⟩
theorem f_m_markLineX_L1 {F : Nat → Int32} {z x y at_ ft pl : Int32} {κ : Int32 → Int32 → Int32 → Prop} : ∀ (f : Nat) (u : Int32), R_m_markLineX_L1 F z x at_ y κ f u pl 1 ft → κ 1 ft pl := by
  intro f
  induction f with
  | zero => intro u h; exact h.elim
  | succ f ih =>
    intro u h
    simp only [R_m_markLineX_L1] at h
    rcases h with ⟨-, h⟩ | ⟨-, h⟩
    · exact h
    · rcases h with ⟨-, z1, -, h⟩ | ⟨q, -⟩
      · exact ih _ h
      · exact absurd q one0
theorem f_m_weakLineX_L0 {F : Nat → Int32} {z x y at_ ft pl : Int32} {κ : Int32 → Int32 → Int32 → Prop} : ∀ (f : Nat) (u : Int32), R_m_weakLineX_L0 F z at_ x y κ f u pl 1 ft → κ 1 ft pl := by
  intro f
  induction f with
  | zero => intro u h; exact h.elim
  | succ f ih =>
    intro u h
    simp only [R_m_weakLineX_L0] at h
    rcases h with ⟨-, h⟩ | ⟨-, h⟩
    · exact h
    · rcases h with ⟨-, z1, -, h⟩ | ⟨q, -⟩
      · exact ih _ h
      · exact absurd q one0
theorem o_m_weakLineX_L0 {F : Nat → Int32} {z x y at_ ft pl : Int32} {κ : Int32 → Int32 → Int32 → Prop} (hz : z = F 10) (hi : IV (F 10) 0 5) : ∀ (f : Nat) (u : Int32) (j : Nat), u.toInt = j → (j : Int) ≤ (F 10).toInt → (∀ k : Nat, k < j → ¬ (F (96 + 3 * k) = x ∧ F (96 + 3 * k + 1) = y)) → R_m_weakLineX_L0 F z at_ x y κ f u pl 0 ft → (¬ Dup F 96 1 10 x y ∧ κ 0 ft pl) ∨ (Dup F 96 1 10 x y ∧ κ 1 3 at_) := by
  intro f
  induction f with
  | zero => intro u j _ _ _ h; exact h.elim
  | succ f ih =>
    intro u j hj hj2 hall h
    simp only [R_m_weakLineX_L0] at h
    rcases h with ⟨h1, h⟩ | ⟨h1, h⟩
    · rw [le_I, hz] at h1
      refine Or.inl ⟨?_, h⟩
      rintro ⟨k, k1, k2⟩
      exact hall k (by omega) k2
    · rw [le_I, hz] at h1
      rcases h with ⟨q, -⟩ | ⟨-, z1, hz1, z2, hz2, z3, hz3, h⟩
      · exact absurd rfl q
      · have c1 : z1.toInt = 3 * u.toInt := in_mul hz1 (by decide) (by decide) (show IV u 0 5 from ⟨by omega, by omega⟩) (by decide) (by decide)
        have c2 : z2.toInt = 96 + z1.toInt := in_add hz2 (show IV 96 96 96 from (by decide)) (show IV z1 0 15 from ⟨by omega, by omega⟩) (by decide) (by decide)
        have i2 : z2.toNatClampNeg = 96 + 3 * j := by have := tn_i (z := z2) (by omega); omega
        have e1 := inc1 (u := u) (z := u + 1) (a := 0) (b := 900) ⟨by omega, by omega⟩ (by omega) (by omega) rfl
        rw [i2] at hz3
        have go : ∀ z9 : Int32, u + Int32.ofInt 1 = z9 → ¬ (F (96 + 3 * j) = x ∧ F (96 + 3 * j + 1) = y) → R_m_weakLineX_L0 F z at_ x y κ f z9 pl 0 ft → (¬ Dup F 96 1 10 x y ∧ κ 0 ft pl) ∨ (Dup F 96 1 10 x y ∧ κ 1 3 at_) := by
          intro z9 h9 hno h
          rw [ofI1] at h9
          subst h9
          refine ih (u + 1) (j + 1) (by omega) (by omega) (fun k hk => ?_) h
          by_cases q : k = j
          · subst q; exact hno
          · exact hall k (by omega)
        rcases h with ⟨h2, z9, h9, h⟩ | ⟨h2, z4, hz4, z5, hz5, h⟩
        · exact go z9 h9 (fun q => h2 (hz3.trans q.1)) h
        · have c4 : z4.toInt = z2.toInt + 1 := in_add hz4 (show IV z2 96 111 from ⟨by omega, by omega⟩) (show IV 1 1 1 from (by decide)) (by decide) (by decide)
          have i4 : z4.toNatClampNeg = 96 + 3 * j + 1 := by have := tn_i (z := z4) (by omega); omega
          rw [i4] at hz5
          rcases h with ⟨h3, z9, h9, h⟩ | ⟨h3, f1, u1, p1, hb, z9, -, h⟩
          · exact go z9 h9 (fun q => h3 (hz5.trans q.2)) h
          · obtain ⟨b1, b2, b3⟩ := qm_bad rfl hb
            rw [b1, b2, b3] at h
            exact Or.inr ⟨⟨j, by omega, hz3.symm.trans h2, hz5.symm.trans h3⟩, f_m_weakLineX_L0 f z9 h⟩
theorem weak_L1 {z : Int32} {κ : Prop} : ∀ (f : Nat) (u : Int32), R_m_weakLineX_L1 z κ f u → κ := by
  intro f
  induction f with
  | zero => intro u h; exact h.elim
  | succ f ih =>
    intro u h
    simp only [R_m_weakLineX_L1] at h
    rcases h with ⟨-, h⟩ | ⟨-, z1, -, h⟩
    · exact h
    · exact ih _ h
noncomputable def markS (F T : Nat → Int32) (n a : Int32) : Rs ((Nat → Int32) × Int32) := bnd (reelP F T n a) (fun v0 => bnd (numS T n 0 (F (16 + 3 * v0.1.toInt.toNat) - 1) v0.2) (fun v1 => bnd (labS T n "by" v1.2) (fun b => bnd (oldS F T n 8 11 b) (fun tw => @ite _ (Dup F 44 2 8 v0.1 tw) (Classical.propDecidable _) (.inl (3, b)) (.inr (upd (upd (upd (upd F (44 + 3 * (F 8).toInt.toNat) v0.1) (44 + 3 * (F 8).toInt.toNat + 1) v1.1) (44 + 3 * (F 8).toInt.toNat + 2) tw) 8 (F 8 + 1), nx T n b))))))
noncomputable def weakS (F T : Nat → Int32) (n a : Int32) : Rs ((Nat → Int32) × Int32) := bnd (reelP F T n a) (fun v0 => bnd (numH T n 0 (F (16 + 3 * v0.1.toInt.toNat) - 1) v0.2) (fun fr => @ite _ (Dup F 96 1 10 v0.1 fr) (Classical.propDecidable _) (.inl (3, v0.2)) (bnd (aftS T n "snaps" 1 99 (nx T n v0.2)) (fun v2 => .inr (upd (upd (upd (upd F (96 + 3 * (F 10).toInt.toNat) v0.1) (96 + 3 * (F 10).toInt.toNat + 1) fr) (96 + 3 * (F 10).toInt.toNat + 2) v2.1) 10 (F 10 + 1), v2.2)))))
theorem qm_markLine {F T L F2 L2 : Nat → Int32} {n a en fd ft ns pl tk wh at2 en2 fd2 ft2 ns2 pl2 tk2 wh2 : Int32} (hn : IV n 0 900) (h9 : IV (F 8) 0 11) (hm : MS T n (.inr a) a en fd ft L ns pl tk wh) (h : R_m_markLineX n a en tk wh ns ft pl fd T L F at2 en2 fd2 ft2 F2 L2 ns2 pl2 tk2 wh2) : MF T n F (markS F T n a) at2 en2 fd2 ft2 F2 L2 ns2 pl2 tk2 wh2 := by
  obtain ⟨s1, s2, s3, s4, s5⟩ := hm
  unfold R_m_markLineX at h
  rcases h with ⟨-, h⟩ | ⟨q, -⟩
  · skip
    refine exE1 h ?_
    clear h
    intro z5 hz5 h
    refine exE1 h ?_
    clear h
    intro z8 hz8 h
    refine exE1 h ?_
    clear h
    intro z11 hz11 h
    refine exE10 h ?_
    clear h
    intro a0 e0 f0 u0 L0 n0 p0 t0 w0 r0 ha0 h
    rw [tc8] at hz5
    have g5 : z5.toInt = (F 8).toInt := by rw [hz5]
    have g8 : z8.toInt = 3 * z5.toInt := in_mul hz8 (by decide) (by decide) (show IV z5 0 11 from ⟨by omega, by omega⟩) (by decide) (by decide)
    have g11 : z11.toInt = 44 + z8.toInt := in_add hz11 (show IV 44 44 44 from (by decide)) (show IV z8 0 33 from ⟨by omega, by omega⟩) (by decide) (by decide)
    have c11 : z11.toNatClampNeg = 44 + 3 * (F 8).toInt.toNat := by have := tn_i (z := z11) (by omega); omega
    have m0 := qm_reelPassed hn ⟨s1, s2, rfl, s4, s5⟩ ha0
    cases h0 : reelP F T n a with
    | inl e =>
      rw [h0] at m0
      have m0 := MV_l m0
      rcases h with ⟨q, -⟩ | ⟨-, h⟩
      · rw [(MS_l m0).1] at q; exact absurd q one0
      · refine Exists.elim h ?_
        clear h
        intro a1 h
        refine exE8 h ?_
        clear h
        intro e1 f1 u1 L1 n1 p1 t1 w1 hm1 h
        refine exE4 h ?_
        clear h
        intro f2 u2 p2 r2 hn2 h
        obtain ⟨y1, y2, y3⟩ := mu_l hn wok_by m0 hm1
        obtain ⟨x1, x2, x3⟩ := qm_namedT1 y1 hn2
        obtain ⟨m, h⟩ := h
        rw [x1, x2, x3, y2, y3] at h
        have h := f_m_markLineX_L1 m 0 h
        simp only [markS, h0, bnd]
        rcases h with ⟨q, -⟩ | h
        · exact absurd q one0
        · refine exA10 h ?_
          clear h
          intro zn0 k1 k2 k3 k4 k5 k6 k7 k8 k9 k10
          clear zn0
          exact ⟨k3, k4, k8⟩
    | inr v0 =>
      rw [h0] at m0
      refine exA1 (MV_r m0) ?_
      intro er0 s0
      obtain ⟨iv0, ev0⟩ := reelP_inr h0
      rcases h with ⟨-, h⟩ | ⟨q, -⟩
      · skip
        refine exE10 h ?_
        clear h
        intro a1 e1 f1 u1 L1 n1 p1 t1 w1 r1 ha1 h
        refine exE9 h ?_
        clear h
        intro a2 e2 f2 u2 L2 n2 p2 t2 w2 hm2 h
        refine exE4 h ?_
        clear h
        intro f3 u3 p3 r3 hn3 h
        rw [er0] at ha1
        obtain ⟨m, h⟩ := h
        have m1 := fo_r hn iv0 s0 ha1
        cases h1 : numS T n 0 (F (16 + 3 * v0.1.toInt.toNat) - 1) v0.2 with
        | inl e =>
          rw [h1] at m1
          obtain ⟨y1, y2, y3⟩ := mu_l hn wok_by (MV_l m1) hm2
          obtain ⟨x1, x2, x3⟩ := qm_namedT1 y1 hn3
          rw [x1, x2, x3, y2, y3] at h
          have h := f_m_markLineX_L0 m 0 h
          simp only [markS, h0, h1, bnd]
          rcases h with ⟨q, -⟩ | h
          · exact absurd q one0
          · refine exA10 h ?_
            clear h
            intro zn0 k1 k2 k3 k4 k5 k6 k7 k8 k9 k10
            clear zn0
            exact ⟨k3, k4, k8⟩
        | inr v1 =>
          rw [h1] at m1
          refine exA1 (MV_r m1) ?_
          intro er1 t1'
          have m2 := mu_r hn wok_by t1' hm2
          cases h2 : labS T n "by" v1.2 with
          | inl e =>
            rw [h2] at m2
            refine exA2 (MS_l m2) ?_
            intro y1 y2 y3
            obtain ⟨x1, x2, x3⟩ := qm_namedT1 y1 hn3
            rw [x1, x2, x3, y2, y3] at h
            have h := f_m_markLineX_L0 m 0 h
            simp only [markS, h0, h1, h2, bnd]
            rcases h with ⟨q, -⟩ | h
            · exact absurd q one0
            · refine exA10 h ?_
              clear h
              intro zn0 k1 k2 k3 k4 k5 k6 k7 k8 k9 k10
              clear zn0
              exact ⟨k3, k4, k8⟩
          | inr b =>
            rw [h2] at m2
            refine exA4 (MS_r m2) ?_
            intro y1 y2 y3 y4 y5
            subst y3
            rcases qm_namedT hn y4 y1 y5 hn3 with ⟨c, e1', e2', e3', e4'⟩ | ⟨e1', e2', e3', e4'⟩
            · rw [e2', e3', e4'] at h
              have h := f_m_markLineX_L0 m 0 h
              simp only [markS, h0, h1, h2, e1', bnd]
              rcases h with ⟨q, -⟩ | h
              · exact absurd q one0
              · refine exA10 h ?_
                clear h
                intro zn0 k1 k2 k3 k4 k5 k6 k7 k8 k9 k10
                clear zn0
                exact ⟨k3, k4, k8⟩
            · rw [e2', e3', y2, er0] at h
              rcases o_m_markLineX_L0 hz5 h9 m 0 0 (by decide) (by have := h9; omega) (fun k hk => by omega) h with ⟨hd, h⟩ | ⟨hd, h⟩
              · rcases h with ⟨-, h⟩ | ⟨q, -⟩
                · skip
                  refine exE6 h ?_
                  clear h
                  intro a4 e4 L4 n4 t4 w4 hx4 h
                  refine exE1 h ?_
                  clear h
                  intro F1 hF1 h
                  refine exE1 h ?_
                  clear h
                  intro z108 hz108 h
                  refine exE1 h ?_
                  clear h
                  intro F3 hF3 h
                  refine exE1 h ?_
                  clear h
                  intro z118 hz118 h
                  refine exE1 h ?_
                  clear h
                  intro F4 hF4 h
                  refine exE1 h ?_
                  clear h
                  intro z128 hz128 h
                  refine exE1 h ?_
                  clear h
                  intro G hG h
                  have gz108 : z108.toInt = z11.toInt + 1 := in_add hz108 (show IV z11 44 77 from ⟨by omega, by omega⟩) (show IV 1 1 1 from (by decide)) (by decide) (by decide)
                  have cz108 : z108.toNatClampNeg = 44 + 3 * (F 8).toInt.toNat + 1 := by have := tn_i (z := z108) (by omega); omega
                  have gz118 : z118.toInt = z11.toInt + 2 := in_add hz118 (show IV z11 44 77 from ⟨by omega, by omega⟩) (show IV 2 2 2 from (by decide)) (by decide) (by decide)
                  have cz118 : z118.toNatClampNeg = 44 + 3 * (F 8).toInt.toNat + 2 := by have := tn_i (z := z118) (by omega); omega
                  refine exA9 h ?_
                  clear h
                  intro k1 k2 k3 k4 k5 k6 k7 k8 k9 k10
                  obtain ⟨x1, x2, x3⟩ := qm_next_at hn y4 y5 hx4
                  simp only [markS, h0, h1, h2, e1', if_neg hd, bnd]
                  subst k1 k2 k6 k7 k9 k10
                  refine ⟨?_, k3, k4, x1, x2, x3⟩
                  rw [k5, hG, hF4, hF3, hF1, er1, hz128, hz5, tc8, c11, cz108, cz118]
                · exact absurd rfl q
              · simp only [markS, h0, h1, h2, e1', if_pos hd, bnd]
                rcases h with ⟨q, -⟩ | h
                · exact absurd q one0
                · refine exA10 h ?_
                  clear h
                  intro zn0 k1 k2 k3 k4 k5 k6 k7 k8 k9 k10
                  clear zn0
                  exact ⟨k3, k4, k8⟩
      · exact absurd (MS_r s0).1 q
  · exact absurd s1 q

set_option maxRecDepth 100000
set_option maxHeartbeats 4000000
theorem qm_weakLine {F T L F2 L2 : Nat → Int32} {n a en fd ft ns pl tk wh at2 en2 fd2 ft2 ns2 pl2 tk2 wh2 : Int32} (hn : IV n 0 900) (h9 : IV (F 10) 0 5) (hm : MS T n (.inr a) a en fd ft L ns pl tk wh) (h : R_m_weakLineX n a en tk wh ns ft pl fd T L F at2 en2 fd2 ft2 F2 L2 ns2 pl2 tk2 wh2) : MF T n F (weakS F T n a) at2 en2 fd2 ft2 F2 L2 ns2 pl2 tk2 wh2 := by
  obtain ⟨s1, s2, s3, s4, s5⟩ := hm
  unfold R_m_weakLineX at h
  rcases h with ⟨-, h⟩ | ⟨q, -⟩
  · skip
    refine exE1 h ?_
    clear h
    intro z5 hz5 h
    refine exE1 h ?_
    clear h
    intro z8 hz8 h
    refine exE1 h ?_
    clear h
    intro z11 hz11 h
    refine exE10 h ?_
    clear h
    intro a0 e0 f0 u0 L0 n0 p0 t0 w0 r0 ha0 h
    rw [tc10] at hz5
    have g5 : z5.toInt = (F 10).toInt := by rw [hz5]
    have g8 : z8.toInt = 3 * z5.toInt := in_mul hz8 (by decide) (by decide) (show IV z5 0 5 from ⟨by omega, by omega⟩) (by decide) (by decide)
    have g11 : z11.toInt = 96 + z8.toInt := in_add hz11 (show IV 96 96 96 from (by decide)) (show IV z8 0 15 from ⟨by omega, by omega⟩) (by decide) (by decide)
    have c11 : z11.toNatClampNeg = 96 + 3 * (F 10).toInt.toNat := by have := tn_i (z := z11) (by omega); omega
    have m0 := qm_reelPassed hn ⟨s1, s2, rfl, s4, s5⟩ ha0
    cases h0 : reelP F T n a with
    | inl e =>
      rw [h0] at m0
      obtain ⟨x1, x2, x3⟩ := MS_l (MV_l m0)
      rcases h with ⟨q, -⟩ | ⟨-, m, h⟩
      · rw [x1] at q; exact absurd q one0
      · obtain ⟨k1, k2, k3, k4, k5, k6, k7, k8, k9, k10⟩ := weak_L1 m 0 h
        simp only [weakS, h0, bnd]
        exact ⟨by rw [k3, x1], by rw [k4, x2], by rw [k8, x3]⟩
    | inr v0 =>
      rw [h0] at m0
      refine exA1 (MV_r m0) ?_
      intro er0 s0
      obtain ⟨iv0, ev0⟩ := reelP_inr h0
      rcases h with ⟨-, h⟩ | ⟨q, -⟩
      · skip
        refine exE1 h ?_
        clear h
        intro z33 hz33 h
        refine exE1 h ?_
        clear h
        intro z36 hz36 h
        refine exE1 h ?_
        clear h
        intro z39 hz39 h
        refine exE1 h ?_
        clear h
        intro z40 hz40 h
        refine exE4 h ?_
        clear h
        intro f3 u3 p3 r3 hn3 h
        obtain ⟨m, h⟩ := h
        refine exA4 (MS_r s0) ?_
        intro y1 y2 y3 y4 y5
        subst y3
        have g33 : z33.toInt = 3 * r0.toInt := in_mul hz33 (by decide) (by decide) (show IV r0 0 7 by rw [er0]; exact iv0) (by decide) (by decide)
        have iv0' : IV r0 0 7 := by rw [er0]; exact iv0
        have g36 : z36.toInt = 16 + z33.toInt := in_add hz36 (show IV 16 16 16 from (by decide)) (show IV z33 0 21 from ⟨by omega, by omega⟩) (by decide) (by decide)
        have i36 : z36.toNatClampNeg = 16 + 3 * v0.1.toInt.toNat := by rw [← er0]; have := tn_i (z := z36) (by omega); omega
        rw [hz40, hz39, i36] at hn3
        rcases qm_numH y5 y1 hn3 with ⟨c, e1', e2', e3', e4'⟩ | ⟨e1', e2', e3', e4'⟩
        · rw [e2', e3', e4'] at h
          have h := f_m_weakLineX_L0 m 0 h
          simp only [weakS, h0, e1', bnd]
          rcases h with ⟨q, -⟩ | h
          · exact absurd q one0
          · refine exA10 h ?_
            clear h
            intro zn0 k1 k2 k3 k4 k5 k6 k7 k8 k9 k10
            clear zn0
            exact ⟨k3, k4, k8⟩
        · rw [e2', e3', y1, y2, er0] at h
          rcases o_m_weakLineX_L0 hz5 h9 m 0 0 (by decide) (by have := h9; omega) (fun k hk => by omega) h with ⟨hd, h⟩ | ⟨hd, h⟩
          · rcases h with ⟨-, h⟩ | ⟨q, -⟩
            · skip
              refine exE6 h ?_
              clear h
              intro a4 e4 L4 n4 t4 w4 hx4 h
              refine exE1 h ?_
              clear h
              intro F1 hF1 h
              refine exE1 h ?_
              clear h
              intro z84 hz84 h
              refine exE1 h ?_
              clear h
              intro F3 hF3 h
              refine exE1 h ?_
              clear h
              intro z94 hz94 h
              refine exE10 h ?_
              clear h
              intro a2 e2 f2 u2 L2 n2 p2 t2 w2 r2 ha2 h
              refine exE1 h ?_
              clear h
              intro F4 hF4 h
              have gz84 : z84.toInt = z11.toInt + 1 := in_add hz84 (show IV z11 96 111 from ⟨by omega, by omega⟩) (show IV 1 1 1 from (by decide)) (by decide) (by decide)
              have cz84 : z84.toNatClampNeg = 96 + 3 * (F 10).toInt.toNat + 1 := by have := tn_i (z := z84) (by omega); omega
              have gz94 : z94.toInt = z11.toInt + 2 := in_add hz94 (show IV z11 96 111 from ⟨by omega, by omega⟩) (show IV 2 2 2 from (by decide)) (by decide) (by decide)
              have cz94 : z94.toNatClampNeg = 96 + 3 * (F 10).toInt.toNat + 2 := by have := tn_i (z := z94) (by omega); omega
              obtain ⟨x1, x2, x3⟩ := qm_next_at hn y4 y5 hx4
              have s1' : MS T n (.inr (nx T n v0.2)) a4 e4 0 0 L4 n4 p3 t4 w4 := ⟨rfl, rfl, x1, x2, x3⟩
              have m2 := af_r hn wok_snaps s1' ha2
              cases h2 : aftS T n "snaps" 1 99 (nx T n v0.2) with
              | inl e =>
                rw [h2] at m2
                obtain ⟨x1, x2, x3⟩ := MS_l (MV_l m2)
                rcases h with h | ⟨q, -⟩
                · refine exA10 h ?_
                  clear h
                  intro zn0 k1 k2 k3 k4 k5 k6 k7 k8 k9 k10
                  clear zn0
                  simp only [weakS, h0, e1', if_neg hd, h2, bnd]
                  exact ⟨by rw [k3, x1], by rw [k4, x2], by rw [k8, x3]⟩
                · rw [x1] at q; exact absurd q one0
              | inr v2 =>
                rw [h2] at m2
                refine exA1 (MV_r m2) ?_
                intro er2 s2'
                rcases h with ⟨q, -⟩ | h
                · exact absurd (MS_r s2').1 q
                · refine exA1 h ?_
                  clear h
                  intro zn0 h
                  refine exE1 h ?_
                  clear h
                  intro z128 hz128 h
                  refine exE1 h ?_
                  clear h
                  intro G hG h
                  refine exA9 h ?_
                  clear h
                  intro k1 k2 k3 k4 k5 k6 k7 k8 k9 k10
                  clear zn0
                  simp only [weakS, h0, e1', if_neg hd, h2, bnd]
                  subst k1 k2 k3 k4 k6 k7 k8 k9 k10
                  refine ⟨?_, s2'⟩
                  rw [k5, hG, hF4, hF3, hF1, er2, hz128, hz5, tc10, c11, cz84, cz94]
            · exact absurd rfl q
          · simp only [weakS, h0, e1', if_pos hd, bnd]
            rcases h with ⟨q, -⟩ | h
            · exact absurd q one0
            · refine exA10 h ?_
              clear h
              intro zn0 k1 k2 k3 k4 k5 k6 k7 k8 k9 k10
              clear zn0
              exact ⟨k3, k4, k8⟩
      · exact absurd (MS_r s0).1 q
  · exact absurd s1 q
theorem tm44 {k : Int32} : tmF k = 44 ↔ k = 4 := by
  unfold tmF
  constructor
  · intro h
    repeat' split at h
    all_goals first | assumption | (exact absurd h (by decide))
  · rintro rfl; decide
theorem tm59 {k : Int32} : tmF k = 59 ↔ k = 3 := by
  unfold tmF
  constructor
  · intro h
    repeat' split at h
    all_goals first | assumption | (exact absurd h (by decide))
  · rintro rfl; decide
theorem tm0 {k : Int32} : tmF k = 0 ↔ k = 0 := by
  unfold tmF
  constructor
  · intro h
    repeat' split at h
    all_goals first | assumption | (exact absurd h (by decide))
  · rintro rfl; decide
def showE (T : Nat → Int32) (n : Int32) (m : Nat) (F : Nat → Int32) (b : Int32) : Rs ((Nat → Int32) × Int32) := if m < 2 then (if tkF T n b = 3 then .inl (6, b) else if tkF T n b = 0 then .inl (6, b) else .inl (1, b)) else .inr (upd F 12 (nI m), b)
noncomputable def showG (T : Nat → Int32) (n : Int32) : Nat → Nat → (Nat → Int32) → Int32 → Rs ((Nat → Int32) × Int32)
  | 0, _, _, a => .inl (0, a)
  | f + 1, m, F, a => bnd (oldS F T n 0 7 a) (fun r => if m = 8 then .inl (5, a) else if tkF T n (nx T n a) = 4 then showG T n f (m + 1) (upd F (126 + m) r) (nx T n (nx T n a)) else showE T n (m + 1) (upd F (126 + m) r) (nx T n a))
noncomputable def showS (F T : Nat → Int32) (n a : Int32) : Rs ((Nat → Int32) × Int32) := showG T n 9 0 F a
theorem show_fin {T F L F2 L2 : Nat → Int32} {n b en ft ns pl tk wh at2 en2 fd2 ft2 ns2 pl2 tk2 wh2 u : Int32} {m : Nat} (hm : u.toInt = m) (hm9 : m ≤ 9) (hs : MS T n (.inr b) b en 0 ft L ns pl tk wh) (h : (fun (u_7 : Int32) (uf_3 : Nat → Int32) (u_14 : Int32) (u_15 : Int32) (u_12 : Int32) (u_21 : Int32) (uf_6 : Nat → Int32) (u_19 : Int32) (u_11 : Int32) (u_17 : Int32) (u_18 : Int32) => ((((2 : Int32) ≤ u_7) ∧ (∃ fa_34 : Nat → Int32, fa_34 = upd uf_3 ((12 : Int32)).toNatClampNeg u_7 ∧ at2 = u_14 ∧ en2 = u_15 ∧ fd2 = u_12 ∧ ft2 = u_21 ∧ F2 = fa_34 ∧ L2 = uf_6 ∧ ns2 = u_19 ∧ pl2 = u_11 ∧ tk2 = u_17 ∧ wh2 = u_18)) ∨ ((¬ ((2 : Int32) ≤ u_7)) ∧ ((((u_17 = (59 : Int32)) ∧ (∃ m_failed2_43 : Int32, ∃ m_fault2_44 : Int32, ∃ m_place2_45 : Int32, (R_m_badX 6 u_14 u_21 u_11 u_12 m_failed2_43 m_fault2_44 m_place2_45) ∧ at2 = u_14 ∧ en2 = u_15 ∧ fd2 = m_failed2_43 ∧ ft2 = m_fault2_44 ∧ F2 = uf_3 ∧ L2 = uf_6 ∧ ns2 = u_19 ∧ pl2 = m_place2_45 ∧ tk2 = u_17 ∧ wh2 = u_18)) ∨ ((¬ (u_17 = (59 : Int32))) ∧ ((((u_17 ≠ (0 : Int32)) ∧ (∃ m_failed2_51 : Int32, ∃ m_fault2_52 : Int32, ∃ m_place2_53 : Int32, (R_m_badX 1 u_14 u_21 u_11 u_12 m_failed2_51 m_fault2_52 m_place2_53) ∧ at2 = u_14 ∧ en2 = u_15 ∧ fd2 = m_failed2_51 ∧ ft2 = m_fault2_52 ∧ F2 = uf_3 ∧ L2 = uf_6 ∧ ns2 = u_19 ∧ pl2 = m_place2_53 ∧ tk2 = u_17 ∧ wh2 = u_18)) ∨ ((u_17 = (0 : Int32)) ∧ (∃ m_failed2_59 : Int32, ∃ m_fault2_60 : Int32, ∃ m_place2_61 : Int32, (R_m_badX 6 u_14 u_21 u_11 u_12 m_failed2_59 m_fault2_60 m_place2_61) ∧ at2 = u_14 ∧ en2 = u_15 ∧ fd2 = m_failed2_59 ∧ ft2 = m_fault2_60 ∧ F2 = uf_3 ∧ L2 = uf_6 ∧ ns2 = u_19 ∧ pl2 = m_place2_61 ∧ tk2 = u_17 ∧ wh2 = u_18)))))))))) u F b en 0 ft L ns pl tk wh) : MF T n F (showE T n m F b) at2 en2 fd2 ft2 F2 L2 ns2 pl2 tk2 wh2 := by
  refine exA4 (MS_r hs) ?_
  intro s1 s2 s3 s4 s5
  have n2' : (2 : Int32).toInt = 2 := by decide
  rcases h with h | ⟨h1, h⟩
  · refine exA1 h ?_
    clear h
    intro h1 h
    refine exE1 h ?_
    clear h
    intro G hG h
    refine exA9 h ?_
    clear h
    intro k1 k2 k3 k4 k5 k6 k7 k8 k9 k10
    rw [le_I, n2'] at h1
    unfold showE
    rw [if_neg (by omega)]
    subst k1 k2 k6 k7 k9 k10
    refine ⟨?_, k3, k4.trans s2, rfl, s4, s5⟩
    rw [k5, hG, tc12, show u = nI m from Int32.toInt_inj.mp (by rw [hm, nIt (by omega)])]
  · rw [le_I, n2'] at h1
    unfold showE
    rw [if_pos (by omega)]
    rcases h with ⟨h2, f1, u1, p1, hb, k1, k2, k3, k4, k5, k6, k7, k8, k9, k10⟩ | ⟨h2, ⟨h3, f1, u1, p1, hb, k1, k2, k3, k4, k5, k6, k7, k8, k9, k10⟩ | ⟨h3, f1, u1, p1, hb, k1, k2, k3, k4, k5, k6, k7, k8, k9, k10⟩⟩
    · obtain ⟨x1, x2, x3⟩ := qm_bad rfl hb
      rw [if_pos (tm59.mp (s5.2.1.symm.trans h2))]
      exact ⟨by rw [k3, x1], by rw [k4, x2], by rw [k8, x3]⟩
    · obtain ⟨x1, x2, x3⟩ := qm_bad rfl hb
      rw [if_neg (fun q => h2 (s5.2.1.trans (tm59.mpr q))), if_neg (fun q => h3 (s5.2.1.trans (tm0.mpr q)))]
      exact ⟨by rw [k3, x1], by rw [k4, x2], by rw [k8, x3]⟩
    · obtain ⟨x1, x2, x3⟩ := qm_bad rfl hb
      rw [if_neg (fun q => h2 (s5.2.1.trans (tm59.mpr q))), if_pos (tm0.mp (s5.2.1.symm.trans h3))]
      exact ⟨by rw [k3, x1], by rw [k4, x2], by rw [k8, x3]⟩
theorem show_L0 {T F2 L2 : Nat → Int32} {n at2 en2 fd2 ft2 ns2 pl2 tk2 wh2 : Int32} (hn : IV n 0 900) : ∀ (f g m : Nat) (F L : Nat → Int32) (u a pl en tk wh ns ft : Int32), u.toInt = m → m ≤ 8 → m + g = 9 → MS T n (.inr a) a en 0 ft L ns pl tk wh → R_m_showsLineX_L0 n T at2 en2 fd2 ft2 F2 L2 ns2 pl2 tk2 wh2 (fun (u_7 : Int32) (uf_3 : Nat → Int32) (u_14 : Int32) (u_15 : Int32) (u_12 : Int32) (u_21 : Int32) (uf_6 : Nat → Int32) (u_19 : Int32) (u_11 : Int32) (u_17 : Int32) (u_18 : Int32) => ((((2 : Int32) ≤ u_7) ∧ (∃ fa_34 : Nat → Int32, fa_34 = upd uf_3 ((12 : Int32)).toNatClampNeg u_7 ∧ at2 = u_14 ∧ en2 = u_15 ∧ fd2 = u_12 ∧ ft2 = u_21 ∧ F2 = fa_34 ∧ L2 = uf_6 ∧ ns2 = u_19 ∧ pl2 = u_11 ∧ tk2 = u_17 ∧ wh2 = u_18)) ∨ ((¬ ((2 : Int32) ≤ u_7)) ∧ ((((u_17 = (59 : Int32)) ∧ (∃ m_failed2_43 : Int32, ∃ m_fault2_44 : Int32, ∃ m_place2_45 : Int32, (R_m_badX 6 u_14 u_21 u_11 u_12 m_failed2_43 m_fault2_44 m_place2_45) ∧ at2 = u_14 ∧ en2 = u_15 ∧ fd2 = m_failed2_43 ∧ ft2 = m_fault2_44 ∧ F2 = uf_3 ∧ L2 = uf_6 ∧ ns2 = u_19 ∧ pl2 = m_place2_45 ∧ tk2 = u_17 ∧ wh2 = u_18)) ∨ ((¬ (u_17 = (59 : Int32))) ∧ ((((u_17 ≠ (0 : Int32)) ∧ (∃ m_failed2_51 : Int32, ∃ m_fault2_52 : Int32, ∃ m_place2_53 : Int32, (R_m_badX 1 u_14 u_21 u_11 u_12 m_failed2_51 m_fault2_52 m_place2_53) ∧ at2 = u_14 ∧ en2 = u_15 ∧ fd2 = m_failed2_51 ∧ ft2 = m_fault2_52 ∧ F2 = uf_3 ∧ L2 = uf_6 ∧ ns2 = u_19 ∧ pl2 = m_place2_53 ∧ tk2 = u_17 ∧ wh2 = u_18)) ∨ ((u_17 = (0 : Int32)) ∧ (∃ m_failed2_59 : Int32, ∃ m_fault2_60 : Int32, ∃ m_place2_61 : Int32, (R_m_badX 6 u_14 u_21 u_11 u_12 m_failed2_59 m_fault2_60 m_place2_61) ∧ at2 = u_14 ∧ en2 = u_15 ∧ fd2 = m_failed2_59 ∧ ft2 = m_fault2_60 ∧ F2 = uf_3 ∧ L2 = uf_6 ∧ ns2 = u_19 ∧ pl2 = m_place2_61 ∧ tk2 = u_17 ∧ wh2 = u_18)))))))))) f F L u 1 pl 0 a en tk wh ns ft → MF T n F (showG T n g m F a) at2 en2 fd2 ft2 F2 L2 ns2 pl2 tk2 wh2 := by
  intro f
  induction f with
  | zero => intro g m F L u a pl en tk wh ns ft _ _ _ _ h; exact h.elim
  | succ f ih =>
    intro g m F L u a pl en tk wh ns ft hu hm9 hg hs h
    obtain ⟨g, rfl⟩ : ∃ k, g = k + 1 := ⟨g - 1, by omega⟩
    refine exA4 (MS_r hs) ?_
    intro s1 s2 s3 s4 s5
    simp only [R_m_showsLineX_L0] at h
    have n8' : (8 : Int32).toInt = 8 := by decide
    rcases h with ⟨q, -⟩ | ⟨-, f1, u1, p1, r1, hnm, h⟩
    · exact absurd q one0
    · rcases qm_namedR hn s4 rfl s5 hnm with ⟨c, e1, e2, e3, e4⟩ | ⟨e1, e2, e3, e4⟩
      · rcases h with h | ⟨q, -⟩
        · refine exA10 h ?_
          clear h
          intro zn0 k1 k2 k3 k4 k5 k6 k7 k8 k9 k10
          clear zn0
          simp only [showG, e1, bnd]
          exact ⟨by rw [k3, e2], by rw [k4, e3], by rw [k8, e4]⟩
        · rw [e2] at q; exact absurd q one0
      · rcases h with ⟨q, -⟩ | ⟨-, h⟩
        · exact absurd e2 q
        · rcases h with ⟨h1, h⟩ | h
          · have hm8 : m ≠ 8 := fun q => h1 (Int32.toInt_inj.mp (by rw [hu, q, n8']; rfl))
            refine exE6 h ?_
            clear h
            intro a2 e5 L3 n2 t2 w2 hx h
            refine exE1 h ?_
            clear h
            intro z94 hz94 h
            refine exE1 h ?_
            clear h
            intro F3 hF3 h
            refine exE1 h ?_
            clear h
            intro z103 hz103 h
            refine exE7 h ?_
            clear h
            intro a3 e6 L4 n3 t3 w3 r3 hc h
            obtain ⟨x1, x2, x3⟩ := qm_next_at hn s4 s5 hx
            have g94 : z94.toInt = 126 + u.toInt := in_add hz94 (show IV 126 126 126 from (by decide)) (show IV u 0 9 from ⟨by omega, by omega⟩) (by decide) (by decide)
            have i94 : z94.toNatClampNeg = 126 + m := by have := tn_i (z := z94) (by omega); omega
            rw [ofI1] at hz103
            have g103 := inc1 (u := u) (z := z103) (a := 0) (b := 900) ⟨by omega, by omega⟩ (by omega) (by omega) hz103.symm
            rw [i94] at hF3
            subst hF3
            rw [e2, e3] at h
            rw [e2] at hc
            simp only [R_m_commaX] at hc
            rcases hc with ⟨q, -⟩ | ⟨-, ⟨q1, a4, e7, L5, n4, t4, w4, hx2, k1, k2, k3, k4, k5, k6, k7⟩ | ⟨q1, k1, k2, k3, k4, k5, k6, k7⟩⟩
            · exact absurd rfl q
            · have t4' : tkF T n (nx T n a) = 4 := tm44.mp (x3.2.1.symm.trans q1)
              obtain ⟨y1, y2, y3⟩ := qm_next_at hn x2 x3 hx2
              simp only [showG, e1, if_neg hm8, if_pos t4', bnd]
              subst k1 k2 k3 k4 k5 k6
              rw [k7] at h
              rw [y1] at h
              refine ih g (m + 1) _ _ z103 (nx T n (nx T n a)) p1 _ _ _ _ ft (by omega) (by omega) (by omega) ⟨rfl, s2, rfl, y2, y3⟩ h
            · have t4' : tkF T n (nx T n a) ≠ 4 := fun q => q1 (x3.2.1.trans (tm44.mpr q))
              simp only [showG, e1, if_neg hm8, if_neg t4', bnd]
              subst k1 k2 k3 k4 k5 k6
              rw [k7] at h
              cases f with
              | zero => exact h.elim
              | succ f =>
                simp only [R_m_showsLineX_L0] at h
                rcases h with ⟨-, h⟩ | ⟨q, -⟩
                · rw [x1] at h
                  exact show_fin (m := m + 1) (by omega) (by omega) ⟨rfl, s2, rfl, x2, x3⟩ h
                · exact absurd trivial q
          · refine exA1 h ?_
            clear h
            intro h1 h
            refine exE3 h ?_
            clear h
            intro f2 u2 p2 hb h
            refine exA9 h ?_
            clear h
            intro k1 k2 k3 k4 k5 k6 k7 k8 k9 k10
            have hm8 : m = 8 := by rw [h1, n8'] at hu; omega
            obtain ⟨x1, x2, x3⟩ := qm_bad e2 hb
            simp only [showG, e1, if_pos hm8, bnd]
            exact ⟨by rw [k3, x1], by rw [k4, x2], by rw [k8, x3]⟩

theorem qm_is1 {L : Nat → Int32} {tk ns fd r : Int32} {w : String} (h0 : fd = 1) (h : R_m_isWordX tk ns fd L w r) : r = 0 := by
  simp only [R_m_isWordX] at h
  rcases h with ⟨-, h⟩ | ⟨q, -⟩
  · exact h
  · rw [h0] at q; exact absurd q one0
noncomputable def manE (F0 T : Nat → Int32) (n : Int32) (s : Nat) (kind town c a : Int32) : Rs ((Nat → Int32) × Int32) := bnd (aftS T n "slip" 0 40 a) (fun v => .inr (upd (upd (upd (upd F0 (114 + 3 * s) kind) (114 + 3 * s + 1) town) (114 + 3 * s + 2) v.1) 11 c, v.2))
noncomputable def manS (F T : Nat → Int32) (n a : Int32) : Rs ((Nat → Int32) × Int32) := bnd (newS F T n (12 + (F 11).toInt.toNat) a) (fun v0 => @ite _ (IsW T n v0.2 "clean") (Classical.propDecidable _) (manE v0.1 T n (F 11).toInt.toNat 0 0 (F 11 + 1) (nx T n v0.2)) (@ite _ (IsW T n v0.2 "early") (Classical.propDecidable _) (manE v0.1 T n (F 11).toInt.toNat 1 0 (F 11 + 1) (nx T n v0.2)) (@ite _ (IsW T n v0.2 "late") (Classical.propDecidable _) (manE v0.1 T n (F 11).toInt.toNat 2 0 (F 11 + 1) (nx T n v0.2)) (@ite _ (IsW T n v0.2 "misled") (Classical.propDecidable _) (bnd (oldS v0.1 T n 8 11 (nx T n v0.2)) (fun tw => manE v0.1 T n (F 11).toInt.toNat 3 tw (F 11 + 1) (nx T n (nx T n v0.2)))) (.inl (1, v0.2))))))
theorem man_tail {F F0 T L3 F2 L2 : Nat → Int32} {n b kind town z5 z11 r3 a3 e3 f3 u3 n3 p3 t3 w3 at2 en2 fd2 ft2 ns2 pl2 tk2 wh2 : Int32} {s : Nat} (hs : s ≤ 3) (h5 : z11.toInt = 114 + 3 * s) (m3 : MV T n (aftS T n "slip" 0 40 b) r3 a3 e3 f3 u3 L3 n3 p3 t3 w3) (h : (((f3 = (0 : Int32)) ∧ (∃ fa : Nat → Int32, fa = upd F0 (z11).toNatClampNeg kind ∧ ∃ z1 : Int32, z1 = z11 + (1 : Int32) ∧ ∃ fb : Nat → Int32, fb = upd fa (z1).toNatClampNeg town ∧ ∃ z2 : Int32, z2 = z11 + (2 : Int32) ∧ ∃ fc : Nat → Int32, fc = upd fb (z2).toNatClampNeg r3 ∧ ∃ z3 : Int32, z3 = z5 + (1 : Int32) ∧ ∃ fe : Nat → Int32, fe = upd fc ((11 : Int32)).toNatClampNeg z3 ∧ at2 = a3 ∧ en2 = e3 ∧ fd2 = f3 ∧ ft2 = u3 ∧ F2 = fe ∧ L2 = L3 ∧ ns2 = n3 ∧ pl2 = p3 ∧ tk2 = t3 ∧ wh2 = w3)) ∨ ((¬ (f3 = (0 : Int32))) ∧ (at2 = a3 ∧ en2 = e3 ∧ fd2 = f3 ∧ ft2 = u3 ∧ F2 = F0 ∧ L2 = L3 ∧ ns2 = n3 ∧ pl2 = p3 ∧ tk2 = t3 ∧ wh2 = w3)))) : MF T n F (manE F0 T n s kind town (z5 + 1) b) at2 en2 fd2 ft2 F2 L2 ns2 pl2 tk2 wh2 := by
  unfold manE
  cases h2 : aftS T n "slip" 0 40 b with
  | inl e =>
    rw [h2] at m3
    obtain ⟨x1, x2, x3⟩ := MS_l (MV_l m3)
    rcases h with ⟨q, -⟩ | ⟨-, k1, k2, k3, k4, k5, k6, k7, k8, k9, k10⟩
    · rw [x1] at q; exact absurd q one0
    · rw [bnd_l]; exact ⟨by rw [k3, x1], by rw [k4, x2], by rw [k8, x3]⟩
  | inr v =>
    rw [h2] at m3
    refine exA1 (MV_r m3) ?_
    intro er sv
    rcases h with ⟨-, fa, hfa, z1, hz1, fb, hfb, z2, hz2, fc, hfc, z3, hz3, fe, hfe, k1, k2, k3, k4, k5, k6, k7, k8, k9, k10⟩ | ⟨q, -⟩
    · have g1 : z1.toInt = z11.toInt + 1 := in_add hz1 (show IV z11 114 123 from ⟨by omega, by omega⟩) (show IV 1 1 1 from (by decide)) (by decide) (by decide)
      have g2 : z2.toInt = z11.toInt + 2 := in_add hz2 (show IV z11 114 123 from ⟨by omega, by omega⟩) (show IV 2 2 2 from (by decide)) (by decide) (by decide)
      have i0 : z11.toNatClampNeg = 114 + 3 * s := by have := tn_i (z := z11) (by omega); omega
      have i1 : z1.toNatClampNeg = 114 + 3 * s + 1 := by have := tn_i (z := z1) (by omega); omega
      have i2 : z2.toNatClampNeg = 114 + 3 * s + 2 := by have := tn_i (z := z2) (by omega); omega
      rw [bnd_r]
      subst k1 k2 k3 k4 k6 k7 k8 k9 k10
      refine ⟨?_, sv⟩
      rw [k5, hfe, hfc, hfb, hfa, er, hz3, tc11, i0, i1, i2]
    · exact absurd (MS_r sv).1 q
theorem qm_manLine {F T L F2 L2 : Nat → Int32} {n a en fd ft ns pl tk wh at2 en2 fd2 ft2 ns2 pl2 tk2 wh2 : Int32} (hn : IV n 0 900) (h9 : IV (F 11) 0 3) (hm : MS T n (.inr a) a en fd ft L ns pl tk wh) (h : R_m_manLineX n a en tk wh ns ft pl fd T L F at2 en2 fd2 ft2 F2 L2 ns2 pl2 tk2 wh2) : MF T n F (manS F T n a) at2 en2 fd2 ft2 F2 L2 ns2 pl2 tk2 wh2 := by
  obtain ⟨s1, s2, s3, s4, s5⟩ := hm
  unfold R_m_manLineX at h
  rcases h with ⟨-, h⟩ | ⟨q, -⟩
  · skip
    refine exE1 h ?_
    clear h
    intro z5 hz5 h
    refine exE1 h ?_
    clear h
    intro z8 hz8 h
    refine exE1 h ?_
    clear h
    intro z11 hz11 h
    refine exE1 h ?_
    clear h
    intro z14 hz14 h
    refine exE10 h ?_
    clear h
    intro a0 e0 f0 u0 F0 L0 n0 p0 t0 w0 hw0 h
    rw [tc11] at hz5
    have g5 : z5.toInt = (F 11).toInt := by rw [hz5]
    have g8 : z8.toInt = 3 * z5.toInt := in_mul hz8 (by decide) (by decide) (show IV z5 0 3 from ⟨by omega, by omega⟩) (by decide) (by decide)
    have g11 : z11.toInt = 114 + z8.toInt := in_add hz11 (show IV 114 114 114 from (by decide)) (show IV z8 0 9 from ⟨by omega, by omega⟩) (by decide) (by decide)
    have g14 : z14.toInt = 12 + z5.toInt := in_add hz14 (show IV 12 12 12 from (by decide)) (show IV z5 0 3 from ⟨by omega, by omega⟩) (by decide) (by decide)
    have m0 := qm_newName (s := 12 + (F 11).toInt.toNat) hn (by omega) (by omega) ⟨s1, s2, rfl, s4, s5⟩ hw0
    cases h0 : newS F T n (12 + (F 11).toInt.toNat) a with
    | inl e =>
      rw [h0] at m0
      have m0 : MS T n (.inl e) a0 e0 f0 u0 L0 n0 p0 t0 w0 := m0
      refine exA2 (MS_l m0) ?_
      intro y1 y2 y3
      obtain ⟨r1, hr1, h⟩ := h
      rcases h with ⟨-, r2, hr2, h⟩ | ⟨q, -⟩
      · rcases h with ⟨-, r3, hr3, h⟩ | ⟨q, -⟩
        · rcases h with ⟨-, r4, hr4, h⟩ | ⟨q, -⟩
          · rcases h with ⟨-, f1, u1, p1, hb, k1, k2, k3, k4, k5, k6, k7, k8, k9, k10⟩ | ⟨q, -⟩
            · obtain ⟨x1, x2, x3⟩ := qm_bad1 y1 hb
              simp only [manS, h0, bnd]
              exact ⟨by rw [k3, x1], by rw [k4, x2, y2], by rw [k8, x3, y3]⟩
            · exact absurd (qm_is1 y1 hr4) q
          · exact absurd (qm_is1 y1 hr3) q
        · exact absurd (qm_is1 y1 hr2) q
      · exact absurd (qm_is1 y1 hr1) q
    | inr v0 =>
      rw [h0] at m0
      obtain ⟨eF0, s0⟩ := m0
      refine exA4 (MS_r s0) ?_
      intro y1 y2 y3 y4 y5
      subst y3 eF0
      obtain ⟨r1, hr1, h⟩ := h
      rw [y1] at hr1
      simp only [manS, h0, bnd]
      have tl : ∀ (kind : Int32) (a4 e4 : Int32) (L4 : Nat → Int32) (n4 t4 w4 : Int32), R_m_nextX n e0 T L0 a4 e4 L4 n4 t4 w4 → ∀ (a3 e3 f3 u3 : Int32) (L3 : Nat → Int32) (n3 p3 t3 w3 r3 : Int32), R_m_afterX 0 40 n a4 e4 t4 w4 n4 u0 p0 f0 T L4 "slip" a3 e3 f3 u3 L3 n3 p3 t3 w3 r3 → (((f3 = (0 : Int32)) ∧ (∃ fa : Nat → Int32, fa = upd v0.1 (z11).toNatClampNeg kind ∧ ∃ z1 : Int32, z1 = z11 + (1 : Int32) ∧ ∃ fb : Nat → Int32, fb = upd fa (z1).toNatClampNeg 0 ∧ ∃ z2 : Int32, z2 = z11 + (2 : Int32) ∧ ∃ fc : Nat → Int32, fc = upd fb (z2).toNatClampNeg r3 ∧ ∃ z3 : Int32, z3 = z5 + (1 : Int32) ∧ ∃ fe : Nat → Int32, fe = upd fc ((11 : Int32)).toNatClampNeg z3 ∧ at2 = a3 ∧ en2 = e3 ∧ fd2 = f3 ∧ ft2 = u3 ∧ F2 = fe ∧ L2 = L3 ∧ ns2 = n3 ∧ pl2 = p3 ∧ tk2 = t3 ∧ wh2 = w3)) ∨ ((¬ (f3 = (0 : Int32))) ∧ (at2 = a3 ∧ en2 = e3 ∧ fd2 = f3 ∧ ft2 = u3 ∧ F2 = v0.1 ∧ L2 = L3 ∧ ns2 = n3 ∧ pl2 = p3 ∧ tk2 = t3 ∧ wh2 = w3))) → MF T n F (manE v0.1 T n (F 11).toInt.toNat kind 0 (F 11 + 1) (nx T n v0.2)) at2 en2 fd2 ft2 F2 L2 ns2 pl2 tk2 wh2 := by
        intro kind a4 e4 L4 n4 t4 w4 hx4 a3 e3 f3 u3 L3 n3 p3 t3 w3 r3 ha h
        obtain ⟨x1, x2, x3⟩ := qm_next_at hn y4 y5 hx4
        have m3 := af_r hn wok_slip (b := nx T n v0.2) ⟨y1, y2, x1, x2, x3⟩ ha
        rw [← hz5]
        exact man_tail (by rw [hz5]; omega) (by rw [hz5]; omega) m3 h
      rcases m_is_spec wok_clean y5 hr1 with ⟨q1, c1⟩ | ⟨q1, c1⟩
      · rw [if_pos c1]
        rcases h with ⟨q, -⟩ | ⟨-, a4, e4, L4, n4, t4, w4, hx4, h⟩
        · rw [q1] at q; exact absurd q one0
        refine exE10 h ?_
        clear h
        intro a3 e3 f3 u3 L3 n3 p3 t3 w3 r3 ha3 h
        exact tl 0 a4 e4 L4 n4 t4 w4 hx4 a3 e3 f3 u3 L3 n3 p3 t3 w3 r3 ha3 h
      rw [if_neg c1]
      rcases h with ⟨-, r2, hr2, h⟩ | ⟨q, -⟩
      case inr => exact absurd q1 q
      rw [y1] at hr2
      rcases m_is_spec wok_early y5 hr2 with ⟨q2, c2⟩ | ⟨q2, c2⟩
      · rw [if_pos c2]
        rcases h with ⟨q, -⟩ | ⟨-, a4, e4, L4, n4, t4, w4, hx4, h⟩
        · rw [q2] at q; exact absurd q one0
        refine exE10 h ?_
        clear h
        intro a3 e3 f3 u3 L3 n3 p3 t3 w3 r3 ha3 h
        exact tl 1 a4 e4 L4 n4 t4 w4 hx4 a3 e3 f3 u3 L3 n3 p3 t3 w3 r3 ha3 h
      rw [if_neg c2]
      rcases h with ⟨-, r4, hr4, h⟩ | ⟨q, -⟩
      case inr => exact absurd q2 q
      rw [y1] at hr4
      rcases m_is_spec wok_late y5 hr4 with ⟨q3, c3⟩ | ⟨q3, c3⟩
      · rw [if_pos c3]
        rcases h with ⟨q, -⟩ | ⟨-, a4, e4, L4, n4, t4, w4, hx4, h⟩
        · rw [q3] at q; exact absurd q one0
        refine exE10 h ?_
        clear h
        intro a3 e3 f3 u3 L3 n3 p3 t3 w3 r3 ha3 h
        exact tl 2 a4 e4 L4 n4 t4 w4 hx4 a3 e3 f3 u3 L3 n3 p3 t3 w3 r3 ha3 h
      rw [if_neg c3]
      rcases h with ⟨-, r5, hr5, h⟩ | ⟨q, -⟩
      case inr => exact absurd q3 q
      rw [y1] at hr5
      rcases m_is_spec wok_misled y5 hr5 with ⟨q4, c4⟩ | ⟨q4, c4⟩
      · rw [if_pos c4]
        rcases h with ⟨q, -⟩ | ⟨-, a4, e4, L4, n4, t4, w4, hx4, h⟩
        · rw [q4] at q; exact absurd q one0
        obtain ⟨x1, x2, x3⟩ := qm_next_at hn y4 y5 hx4
        subst x1
        refine exE4 h ?_
        clear h
        intro f5 u5 p5 r6 hn5 h
        rcases qm_namedT hn x2 y1 x3 hn5 with ⟨c, e1', e2', e3', e4'⟩ | ⟨e1', e2', e3', e4'⟩
        · rcases h with ⟨-, h⟩ | ⟨q, -⟩
          case inr => rw [e2'] at q; exact absurd q one0
          refine exE10 h ?_
          clear h
          intro a3 e3 f3 u3 L3 n3 p3 t3 w3 r3 ha3 h
          have m3 := af_l hn wok_slip (e := (c, nx T n v0.2)) ⟨e2', e3', e4'⟩ ha3
          refine exA2 (MS_l m3) ?_
          intro x4 x5 x6
          simp only [e1']
          rcases h with ⟨q, -⟩ | ⟨-, k1, k2, k3, k4, k5, k6, k7, k8, k9, k10⟩
          · rw [x4] at q; exact absurd q one0
          · exact ⟨by rw [k3, x4], by rw [k4, x5], by rw [k8, x6]⟩
        · rcases h with ⟨q, -⟩ | ⟨-, a6, e6, L6, n6, t6, w6, hx6, h⟩
          · exact absurd e2' q
          refine exE10 h ?_
          clear h
          intro a3 e3 f3 u3 L3 n3 p3 t3 w3 r3 ha3 h
          obtain ⟨x4, x5, x6⟩ := qm_next_at hn x2 x3 hx6
          have m3 := af_r hn wok_slip (b := nx T n (nx T n v0.2)) ⟨e2', e3'.trans y2, x4, x5, x6⟩ ha3
          simp only [e1']
          rw [← hz5]
          exact man_tail (by rw [hz5]; omega) (by rw [hz5]; omega) m3 h
      rw [if_neg c4]
      rcases h with ⟨-, f1, u1, p1, hb, k1, k2, k3, k4, k5, k6, k7, k8, k9, k10⟩ | ⟨q, -⟩
      · obtain ⟨x1, x2, x3⟩ := qm_bad y1 hb
        exact ⟨by rw [k3, x1], by rw [k4, x2], by rw [k8, x3]⟩
      · exact absurd q4 q
  · exact absurd s1 q
theorem qm_showsLine {F T L F2 L2 : Nat → Int32} {n a en fd ft ns pl tk wh at2 en2 fd2 ft2 ns2 pl2 tk2 wh2 : Int32} (hn : IV n 0 900) (hm : MS T n (.inr a) a en fd ft L ns pl tk wh) (h : R_m_showsLineX n a en tk wh ns ft pl fd T L F at2 en2 fd2 ft2 F2 L2 ns2 pl2 tk2 wh2) : MF T n F (showS F T n a) at2 en2 fd2 ft2 F2 L2 ns2 pl2 tk2 wh2 := by
  obtain ⟨s1, s2, s3, s4, s5⟩ := hm
  unfold R_m_showsLineX at h
  rcases h with ⟨-, m, h⟩ | ⟨q, -⟩
  · unfold showS
    rw [s1] at h
    exact show_L0 hn m 9 0 F L 0 a pl en tk wh ns ft (by decide) (by omega) (by omega) ⟨rfl, s2, rfl, s4, s5⟩ h
  · exact absurd s1 q
