set_option maxRecDepth 100000
set_option maxHeartbeats 4000000
noncomputable def aftS (T : Nat → Int32) (n : Int32) (w : String) (lo hi a : Int32) : Rs (Int32 × Int32) := bnd (labS T n w a) (numS T n lo hi)
theorem bnd_r {α β : Type} {a : α} {f : α → Rs β} : bnd (.inr a) f = f a := rfl
theorem bnd_l {α β : Type} {e : Int32 × Int32} {f : α → Rs β} : bnd (.inl e) f = .inl e := rfl
theorem aft_def {T : Nat → Int32} {n lo hi a : Int32} {w : String} : aftS T n w lo hi a = bnd (labS T n w a) (numS T n lo hi) := rfl
theorem MV_l {T L2 : Nat → Int32} {n at2 en2 fd2 ft2 ns2 pl2 tk2 wh2 r : Int32} {e : Int32 × Int32} (h : MV T n (.inl e) r at2 en2 fd2 ft2 L2 ns2 pl2 tk2 wh2) : MS T n (.inl e) at2 en2 fd2 ft2 L2 ns2 pl2 tk2 wh2 := h
theorem MV_r {T L2 : Nat → Int32} {n at2 en2 fd2 ft2 ns2 pl2 tk2 wh2 r : Int32} {v : Int32 × Int32} (h : MV T n (.inr v) r at2 en2 fd2 ft2 L2 ns2 pl2 tk2 wh2) : r = v.1 ∧ MS T n (.inr v.2) at2 en2 fd2 ft2 L2 ns2 pl2 tk2 wh2 := h
theorem MS_l {T L2 : Nat → Int32} {n at2 en2 fd2 ft2 ns2 pl2 tk2 wh2 : Int32} {e : Int32 × Int32} (h : MS T n (.inl e) at2 en2 fd2 ft2 L2 ns2 pl2 tk2 wh2) : fd2 = 1 ∧ ft2 = e.1 ∧ pl2 = e.2 := h
theorem MS_r {T L2 : Nat → Int32} {n at2 en2 fd2 ft2 ns2 pl2 tk2 wh2 : Int32} {b : Int32} (h : MS T n (.inr b) at2 en2 fd2 ft2 L2 ns2 pl2 tk2 wh2) : fd2 = 0 ∧ ft2 = 0 ∧ at2 = b ∧ IV b 0 900 ∧ TokM T n b en2 tk2 wh2 ns2 L2 := h
theorem af_r {T L L2 : Nat → Int32} {n lo hi at_ en fd ft ns pl tk wh at2 en2 fd2 ft2 ns2 pl2 tk2 wh2 r : Int32} {w : String} {b : Int32} (hn : IV n 0 900) (hw : WOk w) (hs : MS T n (.inr b) at_ en fd ft L ns pl tk wh) (h : R_m_afterX lo hi n at_ en tk wh ns ft pl fd T L w at2 en2 fd2 ft2 L2 ns2 pl2 tk2 wh2 r) : MV T n (aftS T n w lo hi b) r at2 en2 fd2 ft2 L2 ns2 pl2 tk2 wh2 := by
  have q := qm_after hn hw hs h
  rw [bnd_r] at q
  rw [aft_def]; exact q
theorem af_l {T L L2 : Nat → Int32} {n lo hi at_ en fd ft ns pl tk wh at2 en2 fd2 ft2 ns2 pl2 tk2 wh2 r : Int32} {w : String} {e : Int32 × Int32} (hn : IV n 0 900) (hw : WOk w) (hs : MS T n (.inl e) at_ en fd ft L ns pl tk wh) (h : R_m_afterX lo hi n at_ en tk wh ns ft pl fd T L w at2 en2 fd2 ft2 L2 ns2 pl2 tk2 wh2 r) : MS T n (.inl e) at2 en2 fd2 ft2 L2 ns2 pl2 tk2 wh2 := by
  have q := qm_after hn hw hs h
  rw [bnd_l, bnd_l] at q
  exact MV_l q
theorem nu_r {T L L2 : Nat → Int32} {n lo hi at_ en fd ft ns pl tk wh at2 en2 fd2 ft2 ns2 pl2 tk2 wh2 r : Int32} {b : Int32} (hn : IV n 0 900) (hs : MS T n (.inr b) at_ en fd ft L ns pl tk wh) (h : R_m_numberX lo hi n at_ en tk wh ns ft pl fd T L at2 en2 fd2 ft2 L2 ns2 pl2 tk2 wh2 r) : MV T n (numS T n lo hi b) r at2 en2 fd2 ft2 L2 ns2 pl2 tk2 wh2 := by
  have q := qm_number hn hs h
  rw [bnd_r] at q
  exact q
theorem tc0 : (0 : Int32).toNatClampNeg = 0 := by decide
theorem tc1 : (1 : Int32).toNatClampNeg = 1 := by decide
theorem tc2 : (2 : Int32).toNatClampNeg = 2 := by decide
theorem tc3 : (3 : Int32).toNatClampNeg = 3 := by decide
theorem tc4 : (4 : Int32).toNatClampNeg = 4 := by decide
theorem tc5 : (5 : Int32).toNatClampNeg = 5 := by decide
theorem tc6 : (6 : Int32).toNatClampNeg = 6 := by decide
theorem tc7 : (7 : Int32).toNatClampNeg = 7 := by decide
theorem tc8 : (8 : Int32).toNatClampNeg = 8 := by decide
theorem tc9 : (9 : Int32).toNatClampNeg = 9 := by decide
theorem tc10 : (10 : Int32).toNatClampNeg = 10 := by decide
theorem tc11 : (11 : Int32).toNatClampNeg = 11 := by decide
theorem tc12 : (12 : Int32).toNatClampNeg = 12 := by decide
theorem tc13 : (13 : Int32).toNatClampNeg = 13 := by decide
theorem tc14 : (14 : Int32).toNatClampNeg = 14 := by decide
theorem tc15 : (15 : Int32).toNatClampNeg = 15 := by decide
theorem tc134 : (134 : Int32).toNatClampNeg = 134 := by decide
theorem tc135 : (135 : Int32).toNatClampNeg = 135 := by decide
theorem tc136 : (136 : Int32).toNatClampNeg = 136 := by decide
noncomputable def houseS (F T : Nat → Int32) (n a : Int32) : Rs ((Nat → Int32) × Int32) := if F 15 = 1 then .inl (3, a) else bnd (aftS T n "apart" 1 50 (nx T n a)) (fun v1 => bnd (aftS T n "motor" 0 50 (v1.2)) (fun v2 => bnd (aftS T n "leader" 0 99 (v2.2)) (fun v3 => bnd (aftS T n "burns" 1 9999 (v3.2)) (fun v4 => bnd (aftS T n "trim" 0 999 (v4.2)) (fun v5 => bnd (aftS T n "mend" 0 999 (v5.2)) (fun v6 => .inr (upd (upd (upd (upd (upd (upd (upd F 0 v1.1) 1 v2.1) 2 v3.1) 3 v4.1) 4 v5.1) 5 v6.1) 15 1, v6.2)))))))
theorem qm_houseLine {F T L F2 L2 : Nat → Int32} {n a en fd ft ns pl tk wh at2 en2 fd2 ft2 ns2 pl2 tk2 wh2 : Int32} (hn : IV n 0 900) (hm : MS T n (.inr a) a en fd ft L ns pl tk wh) (h : R_m_houseLineX n a en tk wh ns ft pl fd T L F at2 en2 fd2 ft2 F2 L2 ns2 pl2 tk2 wh2) : MF T n F (houseS F T n a) at2 en2 fd2 ft2 F2 L2 ns2 pl2 tk2 wh2 := by
  obtain ⟨s1, s2, s3, s4, s5⟩ := hm
  unfold R_m_houseLineX at h
  obtain ⟨z, hz, h⟩ := h
  rw [tc15] at hz
  rcases h with ⟨h1, h⟩ | h
  · rcases h with h | ⟨q, -⟩
    · refine exA1 h ?_
      clear h
      intro zn0 h
      refine exE6 h ?_
      clear h
      intro a0 e0 L0 n0 t0 w0 hx0 h
      refine exE10 h ?_
      clear h
      intro a1 e1 f1 u1 L1 n1 p1 t1 w1 r1 ha1 h
      refine exE1 h ?_
      clear h
      intro F1 hF1 h
      refine exE10 h ?_
      clear h
      intro a2 e2 f2 u2 L2 n2 p2 t2 w2 r2 ha2 h
      refine exE1 h ?_
      clear h
      intro F2 hF2 h
      refine exE10 h ?_
      clear h
      intro a3 e3 f3 u3 L3 n3 p3 t3 w3 r3 ha3 h
      refine exE1 h ?_
      clear h
      intro F3 hF3 h
      refine exE10 h ?_
      clear h
      intro a4 e4 f4 u4 L4 n4 p4 t4 w4 r4 ha4 h
      refine exE1 h ?_
      clear h
      intro F4 hF4 h
      refine exE10 h ?_
      clear h
      intro a5 e5 f5 u5 L5 n5 p5 t5 w5 r5 ha5 h
      refine exE1 h ?_
      clear h
      intro F5 hF5 h
      refine exE10 h ?_
      clear h
      intro a6 e6 f6 u6 L6 n6 p6 t6 w6 r6 ha6 h
      refine exE1 h ?_
      clear h
      intro F6 hF6 h
      clear zn0
      rw [hz] at h1
      have hz := h1
      obtain ⟨x1, x2, x3⟩ := qm_next_at hn s4 s5 hx0
      have s0 : MS T n (.inr (nx T n a)) a0 e0 fd ft L0 n0 pl t0 w0 := ⟨s1, s2, x1, x2, x3⟩
      have m1 : MV T n (aftS T n "apart" 1 50 (nx T n a)) r1 a1 e1 f1 u1 L1 n1 p1 t1 w1 := af_r hn wok_apart s0 ha1
      cases h1 : aftS T n "apart" 1 50 (nx T n a) with
      | inl e =>
        rw [h1] at m1
        have m1 := MV_l m1
        have m2 : MS T n (.inl e) a2 e2 f2 u2 L2 n2 p2 t2 w2 := af_l hn wok_motor m1 ha2
        have m3 : MS T n (.inl e) a3 e3 f3 u3 L3 n3 p3 t3 w3 := af_l hn wok_leader m2 ha3
        have m4 : MS T n (.inl e) a4 e4 f4 u4 L4 n4 p4 t4 w4 := af_l hn wok_burns m3 ha4
        have m5 : MS T n (.inl e) a5 e5 f5 u5 L5 n5 p5 t5 w5 := af_l hn wok_trim m4 ha5
        have m6 : MS T n (.inl e) a6 e6 f6 u6 L6 n6 p6 t6 w6 := af_l hn wok_mend m5 ha6
        refine exA2 (MS_l m6) ?_
        intro x1 x2 x3
        rcases h with h | ⟨q, -⟩
        · refine exA10 h ?_
          clear h
          intro zn0 k1 k2 k3 k4 k5 k6 k7 k8 k9 k10
          clear zn0
          simp only [houseS, h1, bnd, if_neg hz]; exact ⟨by rw [k3, x1], by rw [k4, x2], by rw [k8, x3]⟩
        · rw [x1] at q; exact absurd q one0
      | inr v1 =>
        rw [h1] at m1
        refine exA1 (MV_r m1) ?_
        intro er1 s1
        have m2 : MV T n (aftS T n "motor" 0 50 v1.2) r2 a2 e2 f2 u2 L2 n2 p2 t2 w2 := af_r hn wok_motor s1 ha2
        cases h2 : aftS T n "motor" 0 50 v1.2 with
        | inl e =>
          rw [h2] at m2
          have m2 := MV_l m2
          have m3 : MS T n (.inl e) a3 e3 f3 u3 L3 n3 p3 t3 w3 := af_l hn wok_leader m2 ha3
          have m4 : MS T n (.inl e) a4 e4 f4 u4 L4 n4 p4 t4 w4 := af_l hn wok_burns m3 ha4
          have m5 : MS T n (.inl e) a5 e5 f5 u5 L5 n5 p5 t5 w5 := af_l hn wok_trim m4 ha5
          have m6 : MS T n (.inl e) a6 e6 f6 u6 L6 n6 p6 t6 w6 := af_l hn wok_mend m5 ha6
          refine exA2 (MS_l m6) ?_
          intro x1 x2 x3
          rcases h with h | ⟨q, -⟩
          · refine exA10 h ?_
            clear h
            intro zn0 k1 k2 k3 k4 k5 k6 k7 k8 k9 k10
            clear zn0
            simp only [houseS, h1, h2, bnd, if_neg hz]; exact ⟨by rw [k3, x1], by rw [k4, x2], by rw [k8, x3]⟩
          · rw [x1] at q; exact absurd q one0
        | inr v2 =>
          rw [h2] at m2
          refine exA1 (MV_r m2) ?_
          intro er2 s2
          have m3 : MV T n (aftS T n "leader" 0 99 v2.2) r3 a3 e3 f3 u3 L3 n3 p3 t3 w3 := af_r hn wok_leader s2 ha3
          cases h3 : aftS T n "leader" 0 99 v2.2 with
          | inl e =>
            rw [h3] at m3
            have m3 := MV_l m3
            have m4 : MS T n (.inl e) a4 e4 f4 u4 L4 n4 p4 t4 w4 := af_l hn wok_burns m3 ha4
            have m5 : MS T n (.inl e) a5 e5 f5 u5 L5 n5 p5 t5 w5 := af_l hn wok_trim m4 ha5
            have m6 : MS T n (.inl e) a6 e6 f6 u6 L6 n6 p6 t6 w6 := af_l hn wok_mend m5 ha6
            refine exA2 (MS_l m6) ?_
            intro x1 x2 x3
            rcases h with h | ⟨q, -⟩
            · refine exA10 h ?_
              clear h
              intro zn0 k1 k2 k3 k4 k5 k6 k7 k8 k9 k10
              clear zn0
              simp only [houseS, h1, h2, h3, bnd, if_neg hz]; exact ⟨by rw [k3, x1], by rw [k4, x2], by rw [k8, x3]⟩
            · rw [x1] at q; exact absurd q one0
          | inr v3 =>
            rw [h3] at m3
            refine exA1 (MV_r m3) ?_
            intro er3 s3
            have m4 : MV T n (aftS T n "burns" 1 9999 v3.2) r4 a4 e4 f4 u4 L4 n4 p4 t4 w4 := af_r hn wok_burns s3 ha4
            cases h4 : aftS T n "burns" 1 9999 v3.2 with
            | inl e =>
              rw [h4] at m4
              have m4 := MV_l m4
              have m5 : MS T n (.inl e) a5 e5 f5 u5 L5 n5 p5 t5 w5 := af_l hn wok_trim m4 ha5
              have m6 : MS T n (.inl e) a6 e6 f6 u6 L6 n6 p6 t6 w6 := af_l hn wok_mend m5 ha6
              refine exA2 (MS_l m6) ?_
              intro x1 x2 x3
              rcases h with h | ⟨q, -⟩
              · refine exA10 h ?_
                clear h
                intro zn0 k1 k2 k3 k4 k5 k6 k7 k8 k9 k10
                clear zn0
                simp only [houseS, h1, h2, h3, h4, bnd, if_neg hz]; exact ⟨by rw [k3, x1], by rw [k4, x2], by rw [k8, x3]⟩
              · rw [x1] at q; exact absurd q one0
            | inr v4 =>
              rw [h4] at m4
              refine exA1 (MV_r m4) ?_
              intro er4 s4
              have m5 : MV T n (aftS T n "trim" 0 999 v4.2) r5 a5 e5 f5 u5 L5 n5 p5 t5 w5 := af_r hn wok_trim s4 ha5
              cases h5 : aftS T n "trim" 0 999 v4.2 with
              | inl e =>
                rw [h5] at m5
                have m5 := MV_l m5
                have m6 : MS T n (.inl e) a6 e6 f6 u6 L6 n6 p6 t6 w6 := af_l hn wok_mend m5 ha6
                refine exA2 (MS_l m6) ?_
                intro x1 x2 x3
                rcases h with h | ⟨q, -⟩
                · refine exA10 h ?_
                  clear h
                  intro zn0 k1 k2 k3 k4 k5 k6 k7 k8 k9 k10
                  clear zn0
                  simp only [houseS, h1, h2, h3, h4, h5, bnd, if_neg hz]; exact ⟨by rw [k3, x1], by rw [k4, x2], by rw [k8, x3]⟩
                · rw [x1] at q; exact absurd q one0
              | inr v5 =>
                rw [h5] at m5
                refine exA1 (MV_r m5) ?_
                intro er5 s5
                have m6 : MV T n (aftS T n "mend" 0 999 v5.2) r6 a6 e6 f6 u6 L6 n6 p6 t6 w6 := af_r hn wok_mend s5 ha6
                cases h6 : aftS T n "mend" 0 999 v5.2 with
                | inl e =>
                  rw [h6] at m6
                  have m6 := MV_l m6
                  refine exA2 (MS_l m6) ?_
                  intro x1 x2 x3
                  rcases h with h | ⟨q, -⟩
                  · refine exA10 h ?_
                    clear h
                    intro zn0 k1 k2 k3 k4 k5 k6 k7 k8 k9 k10
                    clear zn0
                    simp only [houseS, h1, h2, h3, h4, h5, h6, bnd, if_neg hz]; exact ⟨by rw [k3, x1], by rw [k4, x2], by rw [k8, x3]⟩
                  · rw [x1] at q; exact absurd q one0
                | inr v6 =>
                  rw [h6] at m6
                  refine exA1 (MV_r m6) ?_
                  intro er6 s6
                  rcases h with ⟨q, -⟩ | h
                  · exact absurd (MS_r s6).1 q
                  · refine exA1 h ?_
                    clear h
                    intro zn0 h
                    refine exE1 h ?_
                    clear h
                    intro G hG h
                    refine exA9 h ?_
                    clear h
                    intro k1 k2 k3 k4 k5 k6 k7 k8 k9 k10
                    clear zn0
                    simp only [houseS, if_neg hz, h1, h2, h3, h4, h5, h6, bnd]
                    subst k1 k2 k3 k4 k6 k7 k8 k9 k10
                    refine ⟨?_, s6⟩
                    rw [k5, hG, hF6, hF5, hF4, hF3, hF2, hF1, er1, er2, er3, er4, er5, er6, tc0, tc1, tc2, tc3, tc4, tc5, tc15]
    · exact absurd s1 q
  · refine exA1 h ?_
    clear h
    intro h1 h
    refine exE3 h ?_
    clear h
    intro f1 u1 p1 hb h
    refine exA9 h ?_
    clear h
    intro k1 k2 k3 k4 k5 k6 k7 k8 k9 k10
    obtain ⟨x1, x2, x3⟩ := qm_bad s1 hb
    rw [hz] at h1
    simp only [houseS, if_pos h1]
    exact ⟨by rw [k3, x1], by rw [k4, x2], by rw [k8, x3]⟩
noncomputable def reelS (F T : Nat → Int32) (n a : Int32) : Rs ((Nat → Int32) × Int32) := bnd (newS F T n (F 6).toInt.toNat a) (fun v0 => bnd (aftS T n "frames" 2 2000 v0.2) (fun v1 => bnd (aftS T n "first" 0 (v1.1 - 1) v1.2) (fun v2 => bnd (aftS T n "whole" v1.1 2000 v2.2) (fun v3 => .inr (upd (upd (upd (upd v0.1 (16 + 3 * (F 6).toInt.toNat) v1.1) (16 + 3 * (F 6).toInt.toNat + 1) v2.1) (16 + 3 * (F 6).toInt.toNat + 2) v3.1) 6 (F 6 + 1), v3.2)))))
noncomputable def townS (F T : Nat → Int32) (n a : Int32) : Rs ((Nat → Int32) × Int32) := bnd (newS F T n (8 + (F 7).toInt.toNat) a) (fun v0 => bnd (aftS T n "trust" 1 9 v0.2) (fun v1 => .inr (upd (upd v0.1 (40 + (F 7).toInt.toNat) v1.1) 7 (F 7 + 1), v1.2)))
theorem qm_reelLine {F T L F2 L2 : Nat → Int32} {n a en fd ft ns pl tk wh at2 en2 fd2 ft2 ns2 pl2 tk2 wh2 : Int32} (hn : IV n 0 900) (h6 : IV (F 6) 0 7) (hm : MS T n (.inr a) a en fd ft L ns pl tk wh) (h : R_m_reelLineX n a en tk wh ns ft pl fd T L F at2 en2 fd2 ft2 F2 L2 ns2 pl2 tk2 wh2) : MF T n F (reelS F T n a) at2 en2 fd2 ft2 F2 L2 ns2 pl2 tk2 wh2 := by
  obtain ⟨s1, s2, s3, s4, s5⟩ := hm
  unfold R_m_reelLineX at h
  rcases h with h | ⟨q, -⟩
  · refine exA1 h ?_
    clear h
    intro zn0 h
    refine exE1 h ?_
    clear h
    intro z5 hz5 h
    refine exE1 h ?_
    clear h
    intro z8 hz8 h
    refine exE1 h ?_
    clear h
    intro z11 hz11 h
    refine exE10 h ?_
    clear h
    intro a0 e0 f0 u0 F0 L0 n0 p0 t0 w0 hw0 h
    refine exE10 h ?_
    clear h
    intro a1 e1 f1 u1 L1 n1 p1 t1 w1 r1 ha1 h
    refine exE1 h ?_
    clear h
    intro F1 hF1 h
    refine exE1 h ?_
    clear h
    intro z64 hz64 h
    refine exE1 h ?_
    clear h
    intro z68 hz68 h
    refine exE1 h ?_
    clear h
    intro z69 hz69 h
    refine exE10 h ?_
    clear h
    intro a2 e2 f2 u2 L2 n2 p2 t2 w2 r2 ha2 h
    refine exE1 h ?_
    clear h
    intro F2' hF2 h
    refine exE1 h ?_
    clear h
    intro z97 hz97 h
    refine exE1 h ?_
    clear h
    intro z101 hz101 h
    refine exE10 h ?_
    clear h
    intro a3 e3 f3 u3 L3 n3 p3 t3 w3 r3 ha3 h
    refine exE1 h ?_
    clear h
    intro F3 hF3 h
    clear zn0
    rw [tc6] at hz5
    have g5 : z5.toInt = (F 6).toInt := by rw [hz5]
    have g8 : z8.toInt = 3 * z5.toInt := in_mul hz8 (by decide) (by decide) (show IV z5 0 7 from ⟨by omega, by omega⟩) (by decide) (by decide)
    have g11 : z11.toInt = 16 + z8.toInt := in_add hz11 (show IV 16 16 16 from (by decide)) (show IV z8 0 21 from ⟨by omega, by omega⟩) (by decide) (by decide)
    have o1 : (1 : Int32).toInt = 1 := by decide
    have o2 : (2 : Int32).toInt = 2 := by decide
    have g64 : z64.toInt = z11.toInt + 1 := in_add hz64 (show IV z11 16 37 from ⟨by omega, by omega⟩) (show IV 1 1 1 from (by decide)) (by decide) (by decide)
    have g97 : z97.toInt = z11.toInt + 2 := in_add hz97 (show IV z11 16 37 from ⟨by omega, by omega⟩) (show IV 2 2 2 from (by decide)) (by decide) (by decide)
    have c11 : z11.toNatClampNeg = 16 + 3 * (F 6).toInt.toNat := by have := tn_i (z := z11) (by omega); omega
    have c64 : z64.toNatClampNeg = 16 + 3 * (F 6).toInt.toNat + 1 := by have := tn_i (z := z64) (by omega); omega
    have c97 : z97.toNatClampNeg = 16 + 3 * (F 6).toInt.toNat + 2 := by have := tn_i (z := z97) (by omega); omega
    have m0 := qm_newName (s := (F 6).toInt.toNat) hn (by omega) (by omega) ⟨s1, s2, rfl, s4, s5⟩ hw0
    cases h0 : newS F T n (F 6).toInt.toNat a with
    | inl e =>
      rw [h0] at m0
      have m0 : MS T n (.inl e) a0 e0 f0 u0 L0 n0 p0 t0 w0 := m0
      have m1 : MS T n (.inl e) a1 e1 f1 u1 L1 n1 p1 t1 w1 := af_l hn wok_frames m0 ha1
      have m2 : MS T n (.inl e) a2 e2 f2 u2 L2 n2 p2 t2 w2 := af_l hn wok_first m1 ha2
      have m3 : MS T n (.inl e) a3 e3 f3 u3 L3 n3 p3 t3 w3 := af_l hn wok_whole m2 ha3
      refine exA2 (MS_l m3) ?_
      intro x1 x2 x3
      rcases h with h | ⟨q, -⟩
      · refine exA10 h ?_
        clear h
        intro zn0 k1 k2 k3 k4 k5 k6 k7 k8 k9 k10
        clear zn0
        simp only [reelS, h0, bnd]; exact ⟨by rw [k3, x1], by rw [k4, x2], by rw [k8, x3]⟩
      · rw [x1] at q; exact absurd q one0
    | inr v0 =>
      rw [h0] at m0
      obtain ⟨eF0, s0⟩ := m0
      have m1 : MV T n (aftS T n "frames" 2 2000 v0.2) r1 a1 e1 f1 u1 L1 n1 p1 t1 w1 := af_r hn wok_frames s0 ha1
      cases h1 : aftS T n "frames" 2 2000 v0.2 with
      | inl e =>
        rw [h1] at m1
        have m1 := MV_l m1
        have m2 : MS T n (.inl e) a2 e2 f2 u2 L2 n2 p2 t2 w2 := af_l hn wok_first m1 ha2
        have m3 : MS T n (.inl e) a3 e3 f3 u3 L3 n3 p3 t3 w3 := af_l hn wok_whole m2 ha3
        refine exA2 (MS_l m3) ?_
        intro x1 x2 x3
        rcases h with h | ⟨q, -⟩
        · refine exA10 h ?_
          clear h
          intro zn0 k1 k2 k3 k4 k5 k6 k7 k8 k9 k10
          clear zn0
          simp only [reelS, h0, h1, bnd]; exact ⟨by rw [k3, x1], by rw [k4, x2], by rw [k8, x3]⟩
        · rw [x1] at q; exact absurd q one0
      | inr v1 =>
        rw [h1] at m1
        refine exA1 (MV_r m1) ?_
        intro er1 s1
        have ez : F1 z11.toNatClampNeg = v1.1 := by rw [hF1, upd_at, er1]
        rw [hz69, hz68, ez] at ha2
        have m2 : MV T n (aftS T n "first" 0 (v1.1 - 1) v1.2) r2 a2 e2 f2 u2 L2 n2 p2 t2 w2 := af_r hn wok_first s1 ha2
        cases h2 : aftS T n "first" 0 (v1.1 - 1) v1.2 with
        | inl e =>
          rw [h2] at m2
          have m2 := MV_l m2
          have m3 : MS T n (.inl e) a3 e3 f3 u3 L3 n3 p3 t3 w3 := af_l hn wok_whole m2 ha3
          refine exA2 (MS_l m3) ?_
          intro x1 x2 x3
          rcases h with h | ⟨q, -⟩
          · refine exA10 h ?_
            clear h
            intro zn0 k1 k2 k3 k4 k5 k6 k7 k8 k9 k10
            clear zn0
            simp only [reelS, h0, h1, h2, bnd]; exact ⟨by rw [k3, x1], by rw [k4, x2], by rw [k8, x3]⟩
          · rw [x1] at q; exact absurd q one0
        | inr v2 =>
          rw [h2] at m2
          refine exA1 (MV_r m2) ?_
          intro er2 s2
          have ez3 : F2' z11.toNatClampNeg = v1.1 := by rw [hF2, upd_ne (by omega), ez]
          rw [hz101, ez3] at ha3
          have m3 : MV T n (aftS T n "whole" v1.1 2000 v2.2) r3 a3 e3 f3 u3 L3 n3 p3 t3 w3 := af_r hn wok_whole s2 ha3
          cases h3 : aftS T n "whole" v1.1 2000 v2.2 with
          | inl e =>
            rw [h3] at m3
            have m3 := MV_l m3
            refine exA2 (MS_l m3) ?_
            intro x1 x2 x3
            rcases h with h | ⟨q, -⟩
            · refine exA10 h ?_
              clear h
              intro zn0 k1 k2 k3 k4 k5 k6 k7 k8 k9 k10
              clear zn0
              simp only [reelS, h0, h1, h2, h3, bnd]; exact ⟨by rw [k3, x1], by rw [k4, x2], by rw [k8, x3]⟩
            · rw [x1] at q; exact absurd q one0
          | inr v3 =>
            rw [h3] at m3
            refine exA1 (MV_r m3) ?_
            intro er3 s3
            rcases h with ⟨q, -⟩ | h
            · exact absurd (MS_r s3).1 q
            · refine exA1 h ?_
              clear h
              intro zn0 h
              refine exE1 h ?_
              clear h
              intro z130 hz130 h
              refine exE1 h ?_
              clear h
              intro G hG h
              refine exA9 h ?_
              clear h
              intro k1 k2 k3 k4 k5 k6 k7 k8 k9 k10
              clear zn0
              simp only [reelS, h0, h1, h2, h3, bnd]
              subst k1 k2 k3 k4 k6 k7 k8 k9 k10
              refine ⟨?_, s3⟩
              rw [k5, hG, hF3, hF2, hF1, er1, er2, er3, eF0, hz130, hz5, tc6, c11, c64, c97]
  · exact absurd s1 q
theorem qm_townLine {F T L F2 L2 : Nat → Int32} {n a en fd ft ns pl tk wh at2 en2 fd2 ft2 ns2 pl2 tk2 wh2 : Int32} (hn : IV n 0 900) (h7 : IV (F 7) 0 3) (hm : MS T n (.inr a) a en fd ft L ns pl tk wh) (h : R_m_townLineX n a en tk wh ns ft pl fd T L F at2 en2 fd2 ft2 F2 L2 ns2 pl2 tk2 wh2) : MF T n F (townS F T n a) at2 en2 fd2 ft2 F2 L2 ns2 pl2 tk2 wh2 := by
  obtain ⟨s1, s2, s3, s4, s5⟩ := hm
  unfold R_m_townLineX at h
  rcases h with h | ⟨q, -⟩
  · refine exA1 h ?_
    clear h
    intro zn0 h
    refine exE1 h ?_
    clear h
    intro z5 hz5 h
    refine exE1 h ?_
    clear h
    intro z8 hz8 h
    refine exE10 h ?_
    clear h
    intro a0 e0 f0 u0 F0 L0 n0 p0 t0 w0 hw0 h
    refine exE1 h ?_
    clear h
    intro z32 hz32 h
    refine exE10 h ?_
    clear h
    intro a1 e1 f1 u1 L1 n1 p1 t1 w1 r1 ha1 h
    refine exE1 h ?_
    clear h
    intro F1 hF1 h
    clear zn0
    rw [tc7] at hz5
    have g5 : z5.toInt = (F 7).toInt := by rw [hz5]
    have g8 : z8.toInt = 8 + z5.toInt := in_add hz8 (show IV 8 8 8 from (by decide)) (show IV z5 0 3 from ⟨by omega, by omega⟩) (by decide) (by decide)
    have g32 : z32.toInt = 40 + z5.toInt := in_add hz32 (show IV 40 40 40 from (by decide)) (show IV z5 0 3 from ⟨by omega, by omega⟩) (by decide) (by decide)
    have c32 : z32.toNatClampNeg = 40 + (F 7).toInt.toNat := by have := tn_i (z := z32) (by omega); omega
    have sm : MS T n (.inr a) a en fd ft L ns pl tk wh := ⟨s1, s2, rfl, s4, s5⟩
    clear s1
    have m0 := qm_newName (s := 8 + (F 7).toInt.toNat) hn (by omega) (by omega) sm hw0
    cases h0 : newS F T n (8 + (F 7).toInt.toNat) a with
    | inl e =>
      rw [h0] at m0
      have m0 : MS T n (.inl e) a0 e0 f0 u0 L0 n0 p0 t0 w0 := m0
      have m1 : MS T n (.inl e) a1 e1 f1 u1 L1 n1 p1 t1 w1 := af_l hn wok_trust m0 ha1
      refine exA2 (MS_l m1) ?_
      intro x1 x2 x3
      rcases h with h | ⟨q, -⟩
      · refine exA10 h ?_
        clear h
        intro zn0 k1 k2 k3 k4 k5 k6 k7 k8 k9 k10
        clear zn0
        simp only [townS, h0, bnd]; exact ⟨by rw [k3, x1], by rw [k4, x2], by rw [k8, x3]⟩
      · rw [x1] at q; exact absurd q one0
    | inr v0 =>
      rw [h0] at m0
      obtain ⟨eF0, s0⟩ := m0
      have m1 : MV T n (aftS T n "trust" 1 9 v0.2) r1 a1 e1 f1 u1 L1 n1 p1 t1 w1 := af_r hn wok_trust s0 ha1
      cases h1 : aftS T n "trust" 1 9 v0.2 with
      | inl e =>
        rw [h1] at m1
        have m1 := MV_l m1
        refine exA2 (MS_l m1) ?_
        intro x1 x2 x3
        rcases h with h | ⟨q, -⟩
        · refine exA10 h ?_
          clear h
          intro zn0 k1 k2 k3 k4 k5 k6 k7 k8 k9 k10
          clear zn0
          simp only [townS, h0, h1, bnd]; exact ⟨by rw [k3, x1], by rw [k4, x2], by rw [k8, x3]⟩
        · rw [x1] at q; exact absurd q one0
      | inr v1 =>
        rw [h1] at m1
        refine exA1 (MV_r m1) ?_
        intro er1 s1
        rcases h with ⟨q, -⟩ | h
        · exact absurd (MS_r s1).1 q
        · refine exA1 h ?_
          clear h
          intro zn0 h
          refine exE1 h ?_
          clear h
          intro z66 hz66 h
          refine exE1 h ?_
          clear h
          intro G hG h
          refine exA9 h ?_
          clear h
          intro k1 k2 k3 k4 k5 k6 k7 k8 k9 k10
          clear zn0
          simp only [townS, h0, h1, bnd]
          subst k1 k2 k3 k4 k6 k7 k8 k9 k10
          refine ⟨?_, s1⟩
          rw [k5, hG, hF1, er1, eF0, hz66, hz5, tc7, c32]
  · exact absurd s1 q
