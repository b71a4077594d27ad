set_option maxRecDepth 100000
set_option maxHeartbeats 4000000
noncomputable def boysS (F T : Nat → Int32) (n a : Int32) : Rs ((Nat → Int32) × Int32) := bnd (numS T n 1 4 a) (fun v1 => bnd (aftS T n "ride" 1 2000 v1.2) (fun v2 => bnd (aftS T n "falls" 0 50 v2.2) (fun v3 => .inr (upd (upd (upd F 135 v2.1) 136 v3.1) 134 v1.1, v3.2))))
theorem qm_boysLine {F T L F2 L2 : Nat → Int32} {n a en fd ft ns pl tk wh at2 en2 fd2 ft2 ns2 pl2 tk2 wh2 : Int32} (hn : IV n 0 900) (hm : MS T n (.inr a) a en fd ft L ns pl tk wh) (h : R_m_boysLineX n a en tk wh ns ft pl fd T L F at2 en2 fd2 ft2 F2 L2 ns2 pl2 tk2 wh2) : MF T n F (boysS F T n a) at2 en2 fd2 ft2 F2 L2 ns2 pl2 tk2 wh2 := by
  obtain ⟨s1, s2, s3, s4, s5⟩ := hm
  unfold R_m_boysLineX at h
  have s0 : MS T n (.inr a) a en fd ft L ns pl tk wh := ⟨s1, s2, rfl, s4, s5⟩
  rcases h with ⟨-, h⟩ | ⟨q, -⟩
  · refine Exists.elim h ?_
    clear h
    intro a1 h
    revert h
    refine (fun hq0 => Exists.elim hq0 (fun e1 hq1 => Exists.elim hq1 (fun f1 hq2 => Exists.elim hq2 (fun u1 hq3 => Exists.elim hq3 (fun L1 hq4 => Exists.elim hq4 (fun n1 hq5 => Exists.elim hq5 (fun p1 hq6 => Exists.elim hq6 (fun t1 hq7 => Exists.elim hq7 (fun w1 hq8 => Exists.elim hq8 (fun r1 hq9 => have ha1 := hq9.1; have hq10 := hq9.2; Exists.elim hq10 (fun a2 hq11 => Exists.elim hq11 (fun e2 hq12 => Exists.elim hq12 (fun f2 hq13 => Exists.elim hq13 (fun u2 hq14 => Exists.elim hq14 (fun L2 hq15 => Exists.elim hq15 (fun n2 hq16 => Exists.elim hq16 (fun p2 hq17 => Exists.elim hq17 (fun t2 hq18 => Exists.elim hq18 (fun w2 hq19 => Exists.elim hq19 (fun r2 hq20 => have ha2 := hq20.1; have hq21 := hq20.2; Exists.elim hq21 (fun F1 hq22 => have hF1 := hq22.1; have hq23 := hq22.2; Exists.elim hq23 (fun a3 hq24 => Exists.elim hq24 (fun e3 hq25 => Exists.elim hq25 (fun f3 hq26 => Exists.elim hq26 (fun u3 hq27 => Exists.elim hq27 (fun L3 hq28 => Exists.elim hq28 (fun n3 hq29 => Exists.elim hq29 (fun p3 hq30 => Exists.elim hq30 (fun t3 hq31 => Exists.elim hq31 (fun w3 hq32 => Exists.elim hq32 (fun r3 hq33 => have ha3 := hq33.1; have hq34 := hq33.2; Exists.elim hq34 (fun F3 hq35 => have hF3 := hq35.1; have h := hq35.2; ?_))))))))))))))))))))))))))))))))
    clear hq0 hq1 hq2 hq3 hq4 hq5 hq6 hq7 hq8 hq9 hq10 hq11 hq12 hq13 hq14 hq15 hq16 hq17 hq18 hq19 hq20 hq21 hq22 hq23 hq24 hq25 hq26 hq27 hq28 hq29 hq30 hq31 hq32 hq33 hq34 hq35
    clear s1
    have m1 : MV T n (numS T n 1 4 a) r1 a1 e1 f1 u1 L1 n1 p1 t1 w1 := nu_r hn s0 ha1
    cases h1 : numS T n 1 4 a with
    | inl e =>
      rw [h1] at m1
      have m1 := MV_l m1
      have m2 : MS T n (.inl e) a2 e2 f2 u2 L2 n2 p2 t2 w2 := af_l hn wok_ride m1 ha2
      have m3 : MS T n (.inl e) a3 e3 f3 u3 L3 n3 p3 t3 w3 := af_l hn wok_falls m2 ha3
      obtain ⟨x1, x2, x3⟩ := MS_l m3
      rcases h with ⟨-, k1, k2, k3, k4, k5, k6, k7, k8, k9, k10⟩ | ⟨q, -⟩
      · simp only [boysS, h1, bnd]; exact ⟨by rw [k3, x1], by rw [k4, x2], by rw [k8, x3]⟩
      · rw [x1] at q; exact absurd q one0
    | inr v1 =>
      rw [h1] at m1
      obtain ⟨er1, s1⟩ := MV_r m1
      have m2 : MV T n (aftS T n "ride" 1 2000 v1.2) r2 a2 e2 f2 u2 L2 n2 p2 t2 w2 := af_r hn wok_ride s1 ha2
      cases h2 : aftS T n "ride" 1 2000 v1.2 with
      | inl e =>
        rw [h2] at m2
        have m2 := MV_l m2
        have m3 : MS T n (.inl e) a3 e3 f3 u3 L3 n3 p3 t3 w3 := af_l hn wok_falls m2 ha3
        obtain ⟨x1, x2, x3⟩ := MS_l m3
        rcases h with ⟨-, k1, k2, k3, k4, k5, k6, k7, k8, k9, k10⟩ | ⟨q, -⟩
        · simp only [boysS, h1, h2, bnd]; exact ⟨by rw [k3, x1], by rw [k4, x2], by rw [k8, x3]⟩
        · rw [x1] at q; exact absurd q one0
      | inr v2 =>
        rw [h2] at m2
        obtain ⟨er2, s2⟩ := MV_r m2
        have m3 : MV T n (aftS T n "falls" 0 50 v2.2) r3 a3 e3 f3 u3 L3 n3 p3 t3 w3 := af_r hn wok_falls s2 ha3
        cases h3 : aftS T n "falls" 0 50 v2.2 with
        | inl e =>
          rw [h3] at m3
          have m3 := MV_l m3
          obtain ⟨x1, x2, x3⟩ := MS_l m3
          rcases h with ⟨-, k1, k2, k3, k4, k5, k6, k7, k8, k9, k10⟩ | ⟨q, -⟩
          · simp only [boysS, h1, h2, h3, bnd]; exact ⟨by rw [k3, x1], by rw [k4, x2], by rw [k8, x3]⟩
          · rw [x1] at q; exact absurd q one0
        | inr v3 =>
          rw [h3] at m3
          obtain ⟨er3, s3⟩ := MV_r m3
          rcases h with ⟨q, -⟩ | ⟨-, G, hG, k1, k2, k3, k4, k5, k6, k7, k8, k9, k10⟩
          · exact absurd (MS_r s3).1 q
          · simp only [boysS, h1, h2, h3, bnd]
            subst k1 k2 k3 k4 k6 k7 k8 k9 k10
            refine ⟨?_, s3⟩
            rw [k5, hG, hF3, hF1, er1, er2, er3, tc134, tc135, tc136]
  · exact absurd s1 q
noncomputable def seenS (F T : Nat → Int32) (n a : Int32) : Rs ((Nat → Int32) × Int32) := if F 13 = 6 then .inl (5, a) else if F 15 = 0 then .inl (6, a) else if F 12 = 0 then .inl (6, a) else bnd (numS T n 1 (F 12 - 1) (nx T n a)) (fun v1 => bnd (aftS T n "black" 0 9999 v1.2) (fun v2 => bnd (aftS T n "lost" 0 9999 v2.2) (fun v3 => .inr (upd (upd (upd (upd F (137 + 3 * (F 13).toInt.toNat) v1.1) (137 + 3 * (F 13).toInt.toNat + 1) v2.1) (137 + 3 * (F 13).toInt.toNat + 2) v3.1) 13 (F 13 + 1), v3.2))))
theorem qm_seenLine {F T L F2 L2 : Nat → Int32} {n a en fd ft ns pl tk wh at2 en2 fd2 ft2 ns2 pl2 tk2 wh2 : Int32} (hn : IV n 0 900) (h13 : IV (F 13) 0 6) (hm : MS T n (.inr a) a en fd ft L ns pl tk wh) (h : R_m_seenLineX n a en tk wh ns ft pl fd T L F at2 en2 fd2 ft2 F2 L2 ns2 pl2 tk2 wh2) : MF T n F (seenS F T n a) at2 en2 fd2 ft2 F2 L2 ns2 pl2 tk2 wh2 := by
  obtain ⟨s1, s2, s3, s4, s5⟩ := hm
  unfold R_m_seenLineX at h
  obtain ⟨z1, hz1, h⟩ := h
  rw [tc13] at hz1
  rcases h with ⟨g1, z6, hz6, h⟩ | ⟨g1, f1, u1, p1, hb, z6, hz6, h⟩
  · rw [hz1] at g1
    rw [tc15] at hz6
    rcases h with h | ⟨g2, z16, hz16, h⟩
    · revert h
      refine (fun zq0 => have g2 := zq0.1; have zq1 := zq0.2; Exists.elim zq1 (fun f1 zq2 => Exists.elim zq2 (fun u1 zq3 => Exists.elim zq3 (fun p1 zq4 => have hb := zq4.1; have zq5 := zq4.2; have k1 := zq5.1; have zq6 := zq5.2; have k2 := zq6.1; have zq7 := zq6.2; have k3 := zq7.1; have zq8 := zq7.2; have k4 := zq8.1; have zq9 := zq8.2; have k5 := zq9.1; have zq10 := zq9.2; have k6 := zq10.1; have zq11 := zq10.2; have k7 := zq11.1; have zq12 := zq11.2; have k8 := zq12.1; have zq13 := zq12.2; have k9 := zq13.1; have k10 := zq13.2; ?_))))
      clear zq0 zq1 zq2 zq3 zq4 zq5 zq6 zq7 zq8 zq9 zq10 zq11 zq12 zq13
      obtain ⟨x1, x2, x3⟩ := qm_bad s1 hb
      rw [hz6] at g2
      simp only [seenS, if_neg g1, if_pos g2]; exact ⟨by rw [k3, x1], by rw [k4, x2], by rw [k8, x3]⟩
    · rw [hz6] at g2
      rw [tc12] at hz16
      rcases h with ⟨g3, h⟩ | h
      · rw [hz16] at g3
        rcases h with ⟨-, h⟩ | ⟨q, -⟩
        · refine Exists.elim h ?_
          clear h
          intro a0 h
          revert h
          refine (fun hq0 => Exists.elim hq0 (fun e0 hq1 => Exists.elim hq1 (fun L0 hq2 => Exists.elim hq2 (fun n0 hq3 => Exists.elim hq3 (fun t0 hq4 => Exists.elim hq4 (fun w0 hq5 => have hx0 := hq5.1; have hq6 := hq5.2; Exists.elim hq6 (fun z36 hq7 => have hz36 := hq7.1; have hq8 := hq7.2; Exists.elim hq8 (fun z39 hq9 => have hz39 := hq9.1; have hq10 := hq9.2; Exists.elim hq10 (fun z42 hq11 => have hz42 := hq11.1; have hq12 := hq11.2; Exists.elim hq12 (fun a1 hq13 => Exists.elim hq13 (fun e1 hq14 => Exists.elim hq14 (fun f1 hq15 => Exists.elim hq15 (fun u1 hq16 => Exists.elim hq16 (fun L1 hq17 => Exists.elim hq17 (fun n1 hq18 => Exists.elim hq18 (fun p1 hq19 => Exists.elim hq19 (fun t1 hq20 => Exists.elim hq20 (fun w1 hq21 => Exists.elim hq21 (fun r1 hq22 => have ha1 := hq22.1; have hq23 := hq22.2; Exists.elim hq23 (fun F1 hq24 => have hF1 := hq24.1; have hq25 := hq24.2; Exists.elim hq25 (fun z73 hq26 => have hz73 := hq26.1; have hq27 := hq26.2; Exists.elim hq27 (fun a2 hq28 => Exists.elim hq28 (fun e2 hq29 => Exists.elim hq29 (fun f2 hq30 => Exists.elim hq30 (fun u2 hq31 => Exists.elim hq31 (fun L2 hq32 => Exists.elim hq32 (fun n2 hq33 => Exists.elim hq33 (fun p2 hq34 => Exists.elim hq34 (fun t2 hq35 => Exists.elim hq35 (fun w2 hq36 => Exists.elim hq36 (fun r2 hq37 => have ha2 := hq37.1; have hq38 := hq37.2; Exists.elim hq38 (fun F2' hq39 => have hF2 := hq39.1; have hq40 := hq39.2; Exists.elim hq40 (fun z106 hq41 => have hz106 := hq41.1; have hq42 := hq41.2; Exists.elim hq42 (fun a3 hq43 => Exists.elim hq43 (fun e3 hq44 => Exists.elim hq44 (fun f3 hq45 => Exists.elim hq45 (fun u3 hq46 => Exists.elim hq46 (fun L3 hq47 => Exists.elim hq47 (fun n3 hq48 => Exists.elim hq48 (fun p3 hq49 => Exists.elim hq49 (fun t3 hq50 => Exists.elim hq50 (fun w3 hq51 => Exists.elim hq51 (fun r3 hq52 => have ha3 := hq52.1; have hq53 := hq52.2; Exists.elim hq53 (fun F3 hq54 => have hF3 := hq54.1; have h := hq54.2; ?_))))))))))))))))))))))))))))))))))))))))))))
          clear hq0 hq1 hq2 hq3 hq4 hq5 hq6 hq7 hq8 hq9 hq10 hq11 hq12 hq13 hq14 hq15 hq16 hq17 hq18 hq19 hq20 hq21 hq22 hq23 hq24 hq25 hq26 hq27 hq28 hq29 hq30 hq31 hq32 hq33 hq34 hq35 hq36 hq37 hq38 hq39 hq40 hq41 hq42 hq43 hq44 hq45 hq46 hq47 hq48 hq49 hq50 hq51 hq52 hq53 hq54
          obtain ⟨x1, x2, x3⟩ := qm_next_at hn s4 s5 hx0
          have s0 : MS T n (.inr (nx T n a)) a0 e0 fd ft L0 n0 pl t0 w0 := ⟨s1, s2, x1, x2, x3⟩
          clear s1
          have n6 : (6 : Int32).toInt = 6 := by decide
          have b1 : (F 13).toInt ≠ 6 := fun q => g1 (Int32.toInt_inj.mp (q.trans n6.symm))
          have c1 : z1.toInt = (F 13).toInt := by rw [hz1]
          have c36 : z36.toInt = 3 * z1.toInt := in_mul hz36 (by decide) (by decide) (show IV z1 0 5 from ⟨by omega, by omega⟩) (by decide) (by decide)
          have c39 : z39.toInt = 137 + z36.toInt := in_add hz39 (show IV 137 137 137 from (by decide)) (show IV z36 0 15 from ⟨by omega, by omega⟩) (by decide) (by decide)
          have c73 : z73.toInt = z39.toInt + 1 := in_add hz73 (show IV z39 137 152 from ⟨by omega, by omega⟩) (show IV 1 1 1 from (by decide)) (by decide) (by decide)
          have c106 : z106.toInt = z39.toInt + 2 := in_add hz106 (show IV z39 137 152 from ⟨by omega, by omega⟩) (show IV 2 2 2 from (by decide)) (by decide) (by decide)
          have i39 : z39.toNatClampNeg = 137 + 3 * (F 13).toInt.toNat := by have := tn_i (z := z39) (by omega); omega
          have i73 : z73.toNatClampNeg = 137 + 3 * (F 13).toInt.toNat + 1 := by have := tn_i (z := z73) (by omega); omega
          have i106 : z106.toNatClampNeg = 137 + 3 * (F 13).toInt.toNat + 2 := by have := tn_i (z := z106) (by omega); omega
          rw [hz42, hz16] at ha1
          have m1 : MV T n (numS T n 1 (F 12 - 1) (nx T n a)) r1 a1 e1 f1 u1 L1 n1 p1 t1 w1 := nu_r hn s0 ha1
          cases h1 : numS T n 1 (F 12 - 1) (nx T n a) with
          | inl e =>
            rw [h1] at m1
            have m1 := MV_l m1
            have m2 : MS T n (.inl e) a2 e2 f2 u2 L2 n2 p2 t2 w2 := af_l hn wok_black m1 ha2
            have m3 : MS T n (.inl e) a3 e3 f3 u3 L3 n3 p3 t3 w3 := af_l hn wok_lost m2 ha3
            obtain ⟨x1, x2, x3⟩ := MS_l m3
            rcases h with ⟨-, k1, k2, k3, k4, k5, k6, k7, k8, k9, k10⟩ | ⟨q, -⟩
            · simp only [seenS, h1, bnd, if_neg g1, if_neg g2, if_neg g3]; exact ⟨by rw [k3, x1], by rw [k4, x2], by rw [k8, x3]⟩
            · rw [x1] at q; exact absurd q one0
          | inr v1 =>
            rw [h1] at m1
            obtain ⟨er1, s1⟩ := MV_r m1
            have m2 : MV T n (aftS T n "black" 0 9999 v1.2) r2 a2 e2 f2 u2 L2 n2 p2 t2 w2 := af_r hn wok_black s1 ha2
            cases h2 : aftS T n "black" 0 9999 v1.2 with
            | inl e =>
              rw [h2] at m2
              have m2 := MV_l m2
              have m3 : MS T n (.inl e) a3 e3 f3 u3 L3 n3 p3 t3 w3 := af_l hn wok_lost m2 ha3
              obtain ⟨x1, x2, x3⟩ := MS_l m3
              rcases h with ⟨-, k1, k2, k3, k4, k5, k6, k7, k8, k9, k10⟩ | ⟨q, -⟩
              · simp only [seenS, h1, h2, bnd, if_neg g1, if_neg g2, if_neg g3]; exact ⟨by rw [k3, x1], by rw [k4, x2], by rw [k8, x3]⟩
              · rw [x1] at q; exact absurd q one0
            | inr v2 =>
              rw [h2] at m2
              obtain ⟨er2, s2⟩ := MV_r m2
              have m3 : MV T n (aftS T n "lost" 0 9999 v2.2) r3 a3 e3 f3 u3 L3 n3 p3 t3 w3 := af_r hn wok_lost s2 ha3
              cases h3 : aftS T n "lost" 0 9999 v2.2 with
              | inl e =>
                rw [h3] at m3
                have m3 := MV_l m3
                obtain ⟨x1, x2, x3⟩ := MS_l m3
                rcases h with ⟨-, k1, k2, k3, k4, k5, k6, k7, k8, k9, k10⟩ | ⟨q, -⟩
                · simp only [seenS, h1, h2, h3, bnd, if_neg g1, if_neg g2, if_neg g3]; exact ⟨by rw [k3, x1], by rw [k4, x2], by rw [k8, x3]⟩
                · rw [x1] at q; exact absurd q one0
              | inr v3 =>
                rw [h3] at m3
                obtain ⟨er3, s3⟩ := MV_r m3
                rcases h with ⟨q, -⟩ | h
                · exact absurd (MS_r s3).1 q
                · revert h
                  refine (fun zq0 => have zn0 := zq0.1; have zq1 := zq0.2; Exists.elim zq1 (fun z142 zq2 => have hz142 := zq2.1; have zq3 := zq2.2; Exists.elim zq3 (fun G zq4 => have hG := zq4.1; have zq5 := zq4.2; have k1 := zq5.1; have zq6 := zq5.2; have k2 := zq6.1; have zq7 := zq6.2; have k3 := zq7.1; have zq8 := zq7.2; have k4 := zq8.1; have zq9 := zq8.2; have k5 := zq9.1; have zq10 := zq9.2; have k6 := zq10.1; have zq11 := zq10.2; have k7 := zq11.1; have zq12 := zq11.2; have k8 := zq12.1; have zq13 := zq12.2; have k9 := zq13.1; have k10 := zq13.2; ?_)))
                  clear zq0 zq1 zq2 zq3 zq4 zq5 zq6 zq7 zq8 zq9 zq10 zq11 zq12 zq13 zn0
                  simp only [seenS, h1, h2, h3, bnd, if_neg g1, if_neg g2, if_neg g3]
                  subst k1 k2 k3 k4 k6 k7 k8 k9 k10
                  refine ⟨?_, s3⟩
                  rw [k5, hG, hF3, hF2, hF1, er1, er2, er3, hz142, hz1, tc13, i39, i73, i106]
        · exact absurd s1 q
      · revert h
        refine (fun zq0 => have g3 := zq0.1; have zq1 := zq0.2; Exists.elim zq1 (fun f1 zq2 => Exists.elim zq2 (fun u1 zq3 => Exists.elim zq3 (fun p1 zq4 => have hb := zq4.1; have zq5 := zq4.2; have k1 := zq5.1; have zq6 := zq5.2; have k2 := zq6.1; have zq7 := zq6.2; have k3 := zq7.1; have zq8 := zq7.2; have k4 := zq8.1; have zq9 := zq8.2; have k5 := zq9.1; have zq10 := zq9.2; have k6 := zq10.1; have zq11 := zq10.2; have k7 := zq11.1; have zq12 := zq11.2; have k8 := zq12.1; have zq13 := zq12.2; have k9 := zq13.1; have k10 := zq13.2; ?_))))
        clear zq0 zq1 zq2 zq3 zq4 zq5 zq6 zq7 zq8 zq9 zq10 zq11 zq12 zq13
        obtain ⟨x1, x2, x3⟩ := qm_bad s1 hb
        rw [hz16] at g3
        simp only [seenS, if_neg g1, if_neg g2, if_pos g3]; exact ⟨by rw [k3, x1], by rw [k4, x2], by rw [k8, x3]⟩
  · rw [hz1] at g1
    obtain ⟨y1, y2, y3⟩ := qm_bad s1 hb
    simp only [seenS, if_pos g1]
    rcases h with h | ⟨g2, z16, hz16, h⟩
    · revert h
      refine (fun zq0 => have g2 := zq0.1; have zq1 := zq0.2; Exists.elim zq1 (fun f2 zq2 => Exists.elim zq2 (fun u2 zq3 => Exists.elim zq3 (fun p2 zq4 => have hb2 := zq4.1; have zq5 := zq4.2; have k1 := zq5.1; have zq6 := zq5.2; have k2 := zq6.1; have zq7 := zq6.2; have k3 := zq7.1; have zq8 := zq7.2; have k4 := zq8.1; have zq9 := zq8.2; have k5 := zq9.1; have zq10 := zq9.2; have k6 := zq10.1; have zq11 := zq10.2; have k7 := zq11.1; have zq12 := zq11.2; have k8 := zq12.1; have zq13 := zq12.2; have k9 := zq13.1; have k10 := zq13.2; ?_))))
      clear zq0 zq1 zq2 zq3 zq4 zq5 zq6 zq7 zq8 zq9 zq10 zq11 zq12 zq13
      obtain ⟨x1, x2, x3⟩ := qm_bad1 y1 hb2
      exact ⟨by rw [k3, x1], by rw [k4, x2, y2], by rw [k8, x3, y3]⟩
    · rcases h with ⟨g3, k1, k2, k3, k4, k5, k6, k7, k8, k9, k10⟩ | h
      · exact ⟨by rw [k3, y1], by rw [k4, y2], by rw [k8, y3]⟩
      · revert h
        refine (fun zq0 => have g3 := zq0.1; have zq1 := zq0.2; Exists.elim zq1 (fun f2 zq2 => Exists.elim zq2 (fun u2 zq3 => Exists.elim zq3 (fun p2 zq4 => have hb2 := zq4.1; have zq5 := zq4.2; have k1 := zq5.1; have zq6 := zq5.2; have k2 := zq6.1; have zq7 := zq6.2; have k3 := zq7.1; have zq8 := zq7.2; have k4 := zq8.1; have zq9 := zq8.2; have k5 := zq9.1; have zq10 := zq9.2; have k6 := zq10.1; have zq11 := zq10.2; have k7 := zq11.1; have zq12 := zq11.2; have k8 := zq12.1; have zq13 := zq12.2; have k9 := zq13.1; have k10 := zq13.2; ?_))))
        clear zq0 zq1 zq2 zq3 zq4 zq5 zq6 zq7 zq8 zq9 zq10 zq11 zq12 zq13
        obtain ⟨x1, x2, x3⟩ := qm_bad1 y1 hb2
        exact ⟨by rw [k3, x1], by rw [k4, x2, y2], by rw [k8, x3, y3]⟩
noncomputable def reelP (F T : Nat → Int32) (n a : Int32) : Rs (Int32 × Int32) := bnd (oldS F T n 0 7 a) (fun r => .inr (r, nx T n a))
theorem oldR_iv {F T : Nat → Int32} {n a r : Int32} (h : oldS F T n 0 7 a = .inr r) : IV r 0 7 := by
  unfold oldS at h
  by_cases ok : NameOk T n a
  · rw [if_pos ok] at h
    have iv := findS_iv (F := F) (T := T) (n := n) (a := a)
    split at h
    · cases h
    · split at h
      · cases h
      · rename_i q1 q2
        rw [lt_I, zI] at q1
        have n7 : (7 : Int32).toInt = 7 := by decide
        rw [lt_I, n7] at q2
        have e := Sum.inr.inj h
        have e2 := in_sub e.symm iv (show IV 0 0 0 from (by decide)) (by decide) (by decide)
        rw [zI] at e2
        exact ⟨by omega, by omega⟩
  · rw [if_neg ok] at h; cases h
theorem qm_reelPassed {F T L L2 : Nat → Int32} {n a en fd ft ns pl tk wh at2 en2 fd2 ft2 ns2 pl2 tk2 wh2 r : Int32} (hn : IV n 0 900) (hm : MS T n (.inr a) a en fd ft L ns pl tk wh) (h : R_m_reelPassedX n a en tk wh ns ft pl fd T L F at2 en2 fd2 ft2 L2 ns2 pl2 tk2 wh2 r) : MV T n (reelP F T n a) r at2 en2 fd2 ft2 L2 ns2 pl2 tk2 wh2 := by
  obtain ⟨s1, s2, s3, s4, s5⟩ := hm
  simp only [R_m_reelPassedX] at h
  obtain ⟨f1, u1, p1, r1, hr, h⟩ := h
  rcases qm_namedR hn s4 s1 s5 hr with ⟨f, e1, e2, e3, e4⟩ | ⟨e1, e2, e3, e4⟩
  · rcases h with ⟨-, k1, k2, k3, k4, k5, k6, k7, k8, k9, k10⟩ | ⟨q, -⟩
    · simp only [reelP, e1, bnd]
      exact ⟨by rw [k3, e2], by rw [k4, e3], by rw [k7, e4]⟩
    · rw [e2] at q; exact absurd q one0
  · rcases h with ⟨q, -⟩ | h
    · exact absurd e2 q
    · revert h
      refine (fun zq0 => have zn0 := zq0.1; have zq1 := zq0.2; Exists.elim zq1 (fun a2 zq2 => Exists.elim zq2 (fun e5 zq3 => Exists.elim zq3 (fun M2 zq4 => Exists.elim zq4 (fun m2 zq5 => Exists.elim zq5 (fun t2 zq6 => Exists.elim zq6 (fun w2 zq7 => have hx := zq7.1; have zq8 := zq7.2; have k1 := zq8.1; have zq9 := zq8.2; have k2 := zq9.1; have zq10 := zq9.2; have k3 := zq10.1; have zq11 := zq10.2; have k4 := zq11.1; have zq12 := zq11.2; have k5 := zq12.1; have zq13 := zq12.2; have k6 := zq13.1; have zq14 := zq13.2; have k7 := zq14.1; have zq15 := zq14.2; have k8 := zq15.1; have zq16 := zq15.2; have k9 := zq16.1; have k10 := zq16.2; ?_)))))))
      clear zq0 zq1 zq2 zq3 zq4 zq5 zq6 zq7 zq8 zq9 zq10 zq11 zq12 zq13 zq14 zq15 zq16 zn0
      obtain ⟨x1, x2, x3⟩ := qm_next_at hn s4 s5 hx
      simp only [reelP, e1, bnd]
      subst k1 k2 k5 k6 k8 k9
      exact ⟨k10, by rw [k3, e2], by rw [k4, e3, s2], x1, x2, x3⟩
theorem qm_frameOf {F T L L2 : Nat → Int32} {n p at_ en fd ft ns pl tk wh at2 en2 fd2 ft2 ns2 pl2 tk2 wh2 r : Int32} {ρ : Rs Int32} (hn : IV n 0 900) (hp : IV p 0 7) (hm : MS T n ρ at_ en fd ft L ns pl tk wh) (h : R_m_frameOfX p n at_ en tk wh ns ft pl fd T L F at2 en2 fd2 ft2 L2 ns2 pl2 tk2 wh2 r) : MV T n (bnd ρ (numS T n 0 (F (16 + 3 * p.toInt.toNat) - 1))) r at2 en2 fd2 ft2 L2 ns2 pl2 tk2 wh2 := by
  simp only [R_m_frameOfX] at h
  revert h
  refine (fun zq0 => Exists.elim zq0 (fun z1 zq1 => have hz1 := zq1.1; have zq2 := zq1.2; Exists.elim zq2 (fun z4 zq3 => have hz4 := zq3.1; have zq4 := zq3.2; Exists.elim zq4 (fun z7 zq5 => have hz7 := zq5.1; have zq6 := zq5.2; Exists.elim zq6 (fun z8 zq7 => have hz8 := zq7.1; have zq8 := zq7.2; Exists.elim zq8 (fun a2 zq9 => Exists.elim zq9 (fun e2 zq10 => Exists.elim zq10 (fun f2 zq11 => Exists.elim zq11 (fun u2 zq12 => Exists.elim zq12 (fun M2 zq13 => Exists.elim zq13 (fun n2 zq14 => Exists.elim zq14 (fun p2 zq15 => Exists.elim zq15 (fun t2 zq16 => Exists.elim zq16 (fun w2 zq17 => Exists.elim zq17 (fun r2 zq18 => have hu := zq18.1; have zq19 := zq18.2; have k1 := zq19.1; have zq20 := zq19.2; have k2 := zq20.1; have zq21 := zq20.2; have k3 := zq21.1; have zq22 := zq21.2; have k4 := zq22.1; have zq23 := zq22.2; have k5 := zq23.1; have zq24 := zq23.2; have k6 := zq24.1; have zq25 := zq24.2; have k7 := zq25.1; have zq26 := zq25.2; have k8 := zq26.1; have zq27 := zq26.2; have k9 := zq27.1; have k10 := zq27.2; ?_)))))))))))))))
  clear zq0 zq1 zq2 zq3 zq4 zq5 zq6 zq7 zq8 zq9 zq10 zq11 zq12 zq13 zq14 zq15 zq16 zq17 zq18 zq19 zq20 zq21 zq22 zq23 zq24 zq25 zq26 zq27
  have c1 : z1.toInt = 3 * p.toInt := in_mul hz1 (by decide) (by decide) hp (by decide) (by decide)
  have c4 : z4.toInt = 16 + z1.toInt := in_add hz4 (show IV 16 16 16 from (by decide)) (show IV z1 0 21 from ⟨by have := hp; omega, by have := hp; omega⟩) (by decide) (by decide)
  have i4 : z4.toNatClampNeg = 16 + 3 * p.toInt.toNat := by have := hp; have := tn_i (z := z4) (by omega); omega
  rw [hz8, hz7, i4] at hu
  subst k1 k2 k3 k4 k5 k6 k7 k8 k9 k10
  exact qm_number hn hm hu
theorem fo_r {F T L L2 : Nat → Int32} {n p at_ en fd ft ns pl tk wh at2 en2 fd2 ft2 ns2 pl2 tk2 wh2 r b : Int32} (hn : IV n 0 900) (hp : IV p 0 7) (hm : MS T n (.inr b) at_ en fd ft L ns pl tk wh) (h : R_m_frameOfX p n at_ en tk wh ns ft pl fd T L F at2 en2 fd2 ft2 L2 ns2 pl2 tk2 wh2 r) : MV T n (numS T n 0 (F (16 + 3 * p.toInt.toNat) - 1) b) r at2 en2 fd2 ft2 L2 ns2 pl2 tk2 wh2 := by
  have q := qm_frameOf hn hp hm h
  rw [bnd_r] at q
  exact q
theorem reelP_inr {F T : Nat → Int32} {n a : Int32} {v : Int32 × Int32} (h : reelP F T n a = .inr v) : IV v.1 0 7 ∧ v.2 = nx T n a := by
  unfold reelP at h
  cases q : oldS F T n 0 7 a with
  | inl e => rw [q] at h; cases h
  | inr r =>
    rw [q] at h
    have := Sum.inr.inj h
    subst this
    exact ⟨oldR_iv q, rfl⟩
noncomputable def joinS (F T : Nat → Int32) (n a : Int32) : Rs ((Nat → Int32) × Int32) := bnd (reelP F T n a) (fun v0 => bnd (numS T n 0 (F (16 + 3 * v0.1.toInt.toNat) - 1) v0.2) (fun v1 => bnd (aftS T n "lacks" 1 99 v1.2) (fun v2 => .inr (upd (upd (upd F (80 + 2 * (F 9).toInt.toNat) v0.1) (80 + 2 * (F 9).toInt.toNat + 1) v2.1) 9 (F 9 + 1), v2.2))))
noncomputable def scratchS (F T : Nat → Int32) (n a : Int32) : Rs ((Nat → Int32) × Int32) := bnd (reelP F T n a) (fun v0 => bnd (numS T n 0 (F (16 + 3 * v0.1.toInt.toNat) - 1) v0.2) (fun v1 => .inr (upd (upd (upd F (155 + 2 * (F 14).toInt.toNat) v0.1) (155 + 2 * (F 14).toInt.toNat + 1) v1.1) 14 (F 14 + 1), v1.2)))
theorem qm_joinLine {F T L F2 L2 : Nat → Int32} {n a en fd ft ns pl tk wh at2 en2 fd2 ft2 ns2 pl2 tk2 wh2 : Int32} (hn : IV n 0 900) (h9 : IV (F 9) 0 7) (hm : MS T n (.inr a) a en fd ft L ns pl tk wh) (h : R_m_joinLineX n a en tk wh ns ft pl fd T L F at2 en2 fd2 ft2 F2 L2 ns2 pl2 tk2 wh2) : MF T n F (joinS F T n a) at2 en2 fd2 ft2 F2 L2 ns2 pl2 tk2 wh2 := by
  obtain ⟨s1, s2, s3, s4, s5⟩ := hm
  unfold R_m_joinLineX at h
  rcases h with ⟨-, h⟩ | ⟨q, -⟩
  · refine Exists.elim h ?_
    clear h
    intro z5 h
    revert h
    refine (fun hq0 => have hz5 := hq0.1; have hq1 := hq0.2; Exists.elim hq1 (fun z8 hq2 => have hz8 := hq2.1; have hq3 := hq2.2; Exists.elim hq3 (fun z11 hq4 => have hz11 := hq4.1; have hq5 := hq4.2; Exists.elim hq5 (fun a0 hq6 => Exists.elim hq6 (fun e0 hq7 => Exists.elim hq7 (fun f0 hq8 => Exists.elim hq8 (fun u0 hq9 => Exists.elim hq9 (fun L0 hq10 => Exists.elim hq10 (fun n0 hq11 => Exists.elim hq11 (fun p0 hq12 => Exists.elim hq12 (fun t0 hq13 => Exists.elim hq13 (fun w0 hq14 => Exists.elim hq14 (fun r0 hq15 => have ha0 := hq15.1; have hq16 := hq15.2; Exists.elim hq16 (fun F0 hq17 => have hF0 := hq17.1; have h := hq17.2; ?_))))))))))))))
    clear hq0 hq1 hq2 hq3 hq4 hq5 hq6 hq7 hq8 hq9 hq10 hq11 hq12 hq13 hq14 hq15 hq16 hq17
    rw [tc9] at hz5
    have g5 : z5.toInt = (F 9).toInt := by rw [hz5]
    have g8 : z8.toInt = 2 * z5.toInt := in_mul hz8 (by decide) (by decide) (show IV z5 0 7 from ⟨by omega, by omega⟩) (by decide) (by decide)
    have g11 : z11.toInt = 80 + z8.toInt := in_add hz11 (show IV 80 80 80 from (by decide)) (show IV z8 0 14 from ⟨by omega, by omega⟩) (by decide) (by decide)
    have c11 : z11.toNatClampNeg = 80 + 2 * (F 9).toInt.toNat := by have := tn_i (z := z11) (by omega); omega
    have m0 := qm_reelPassed hn ⟨s1, s2, rfl, s4, s5⟩ ha0
    cases h0 : reelP F T n a with
    | inl e =>
      rw [h0] at m0
      obtain ⟨y1, y2, y3⟩ := MS_l (MV_l m0)
      rcases h with ⟨-, h⟩ | ⟨q, -⟩
      · refine Exists.elim h ?_
        clear h
        intro z40 h
        revert h
        refine (fun hq0 => have hz40 := hq0.1; have hq1 := hq0.2; Exists.elim hq1 (fun a2 hq2 => Exists.elim hq2 (fun e2 hq3 => Exists.elim hq3 (fun f2 hq4 => Exists.elim hq4 (fun u2 hq5 => Exists.elim hq5 (fun L2 hq6 => Exists.elim hq6 (fun n2 hq7 => Exists.elim hq7 (fun p2 hq8 => Exists.elim hq8 (fun t2 hq9 => Exists.elim hq9 (fun w2 hq10 => Exists.elim hq10 (fun r2 hq11 => have ha2 := hq11.1; have hq12 := hq11.2; Exists.elim hq12 (fun F1 hq13 => have hF1 := hq13.1; have h := hq13.2; ?_))))))))))))
        clear hq0 hq1 hq2 hq3 hq4 hq5 hq6 hq7 hq8 hq9 hq10 hq11 hq12 hq13
        have m2 : MS T n (.inl e) a2 e2 f2 u2 L2 n2 p2 t2 w2 := af_l hn wok_lacks ⟨y1, y2, y3⟩ ha2
        obtain ⟨x1, x2, x3⟩ := MS_l m2
        rcases h with ⟨-, k1, k2, k3, k4, k5, k6, k7, k8, k9, k10⟩ | ⟨q, -⟩
        · simp only [joinS, h0, bnd]; exact ⟨by rw [k3, x1], by rw [k4, x2], by rw [k8, x3]⟩
        · rw [x1] at q; exact absurd q one0
      · rw [y1] at q; exact absurd q one0
    | inr v0 =>
      rw [h0] at m0
      obtain ⟨er0, s0⟩ := MV_r m0
      obtain ⟨iv0, ev0⟩ := reelP_inr h0
      have eF : F0 z11.toNatClampNeg = v0.1 := by rw [hF0, upd_at, er0]
      have eF2 : F0 (16 + 3 * v0.1.toInt.toNat) = F (16 + 3 * v0.1.toInt.toNat) := by rw [hF0, upd_ne (by have := iv0; omega)]
      rcases h with ⟨q, -⟩ | ⟨-, h⟩
      · exact absurd (MS_r s0).1 q
      · refine Exists.elim h ?_
        clear h
        intro z83 h
        revert h
        refine (fun hq0 => have hz83 := hq0.1; have hq1 := hq0.2; Exists.elim hq1 (fun a1 hq2 => Exists.elim hq2 (fun e1 hq3 => Exists.elim hq3 (fun f1 hq4 => Exists.elim hq4 (fun u1 hq5 => Exists.elim hq5 (fun L1 hq6 => Exists.elim hq6 (fun n1 hq7 => Exists.elim hq7 (fun p1 hq8 => Exists.elim hq8 (fun t1 hq9 => Exists.elim hq9 (fun w1 hq10 => Exists.elim hq10 (fun r1 hq11 => have ha1 := hq11.1; have hq12 := hq11.2; Exists.elim hq12 (fun z102 hq13 => have hz102 := hq13.1; have hq14 := hq13.2; Exists.elim hq14 (fun a2 hq15 => Exists.elim hq15 (fun e2 hq16 => Exists.elim hq16 (fun f2 hq17 => Exists.elim hq17 (fun u2 hq18 => Exists.elim hq18 (fun L2 hq19 => Exists.elim hq19 (fun n2 hq20 => Exists.elim hq20 (fun p2 hq21 => Exists.elim hq21 (fun t2 hq22 => Exists.elim hq22 (fun w2 hq23 => Exists.elim hq23 (fun r2 hq24 => have ha2 := hq24.1; have hq25 := hq24.2; Exists.elim hq25 (fun F1 hq26 => have hF1 := hq26.1; have h := hq26.2; ?_)))))))))))))))))))))))
        clear hq0 hq1 hq2 hq3 hq4 hq5 hq6 hq7 hq8 hq9 hq10 hq11 hq12 hq13 hq14 hq15 hq16 hq17 hq18 hq19 hq20 hq21 hq22 hq23 hq24 hq25 hq26
        rw [eF] at hz83
        subst hz83
        have g102 : z102.toInt = z11.toInt + 1 := in_add hz102 (show IV z11 80 94 from ⟨by omega, by omega⟩) (show IV 1 1 1 from (by decide)) (by decide) (by decide)
        have c102 : z102.toNatClampNeg = 80 + 2 * (F 9).toInt.toNat + 1 := by have := tn_i (z := z102) (by omega); omega
        have m1 : MV T n (numS T n 0 (F0 (16 + 3 * v0.1.toInt.toNat) - 1) v0.2) r1 a1 e1 f1 u1 L1 n1 p1 t1 w1 := fo_r hn iv0 s0 ha1
        rw [eF2] at m1
        cases h1 : numS T n 0 (F (16 + 3 * v0.1.toInt.toNat) - 1) v0.2 with
        | inl e =>
          rw [h1] at m1
          have m2 : MS T n (.inl e) a2 e2 f2 u2 L2 n2 p2 t2 w2 := af_l hn wok_lacks (MV_l m1) ha2
          obtain ⟨x1, x2, x3⟩ := MS_l m2
          rcases h with ⟨-, k1, k2, k3, k4, k5, k6, k7, k8, k9, k10⟩ | ⟨q, -⟩
          · simp only [joinS, h0, h1, bnd]; exact ⟨by rw [k3, x1], by rw [k4, x2], by rw [k8, x3]⟩
          · rw [x1] at q; exact absurd q one0
        | inr v1 =>
          rw [h1] at m1
          obtain ⟨er1, s1⟩ := MV_r m1
          have m2 : MV T n (aftS T n "lacks" 1 99 v1.2) r2 a2 e2 f2 u2 L2 n2 p2 t2 w2 := af_r hn wok_lacks s1 ha2
          cases h2 : aftS T n "lacks" 1 99 v1.2 with
          | inl e =>
            rw [h2] at m2
            have m2 := MV_l m2
            obtain ⟨x1, x2, x3⟩ := MS_l m2
            rcases h with ⟨-, k1, k2, k3, k4, k5, k6, k7, k8, k9, k10⟩ | ⟨q, -⟩
            · simp only [joinS, h0, h1, h2, bnd]; exact ⟨by rw [k3, x1], by rw [k4, x2], by rw [k8, x3]⟩
            · rw [x1] at q; exact absurd q one0
          | inr v2 =>
            rw [h2] at m2
            obtain ⟨er2, s2⟩ := MV_r m2
            rcases h with ⟨q, -⟩ | h
            · exact absurd (MS_r s2).1 q
            · revert h
              refine (fun zq0 => have zn0 := zq0.1; have zq1 := zq0.2; Exists.elim zq1 (fun z74 zq2 => have hz74 := zq2.1; have zq3 := zq2.2; Exists.elim zq3 (fun G zq4 => have hG := zq4.1; have zq5 := zq4.2; have k1 := zq5.1; have zq6 := zq5.2; have k2 := zq6.1; have zq7 := zq6.2; have k3 := zq7.1; have zq8 := zq7.2; have k4 := zq8.1; have zq9 := zq8.2; have k5 := zq9.1; have zq10 := zq9.2; have k6 := zq10.1; have zq11 := zq10.2; have k7 := zq11.1; have zq12 := zq11.2; have k8 := zq12.1; have zq13 := zq12.2; have k9 := zq13.1; have k10 := zq13.2; ?_)))
              clear zq0 zq1 zq2 zq3 zq4 zq5 zq6 zq7 zq8 zq9 zq10 zq11 zq12 zq13 zn0
              simp only [joinS, h0, h1, h2, bnd]
              subst k1 k2 k3 k4 k6 k7 k8 k9 k10
              refine ⟨?_, s2⟩
              rw [k5, hG, hF1, hF0, er0, er2, hz74, hz5, tc9, c11, c102]
  · exact absurd s1 q
theorem qm_scratchLine {F T L F2 L2 : Nat → Int32} {n a en fd ft ns pl tk wh at2 en2 fd2 ft2 ns2 pl2 tk2 wh2 : Int32} (hn : IV n 0 900) (h9 : IV (F 14) 0 5) (hm : MS T n (.inr a) a en fd ft L ns pl tk wh) (h : R_m_scratchLineX n a en tk wh ns ft pl fd T L F at2 en2 fd2 ft2 F2 L2 ns2 pl2 tk2 wh2) : MF T n F (scratchS F T n a) at2 en2 fd2 ft2 F2 L2 ns2 pl2 tk2 wh2 := by
  obtain ⟨s1, s2, s3, s4, s5⟩ := hm
  unfold R_m_scratchLineX at h
  rcases h with ⟨-, h⟩ | ⟨q, -⟩
  · refine Exists.elim h ?_
    clear h
    intro z5 h
    revert h
    refine (fun hq0 => have hz5 := hq0.1; have hq1 := hq0.2; Exists.elim hq1 (fun z8 hq2 => have hz8 := hq2.1; have hq3 := hq2.2; Exists.elim hq3 (fun z11 hq4 => have hz11 := hq4.1; have hq5 := hq4.2; Exists.elim hq5 (fun a0 hq6 => Exists.elim hq6 (fun e0 hq7 => Exists.elim hq7 (fun f0 hq8 => Exists.elim hq8 (fun u0 hq9 => Exists.elim hq9 (fun L0 hq10 => Exists.elim hq10 (fun n0 hq11 => Exists.elim hq11 (fun p0 hq12 => Exists.elim hq12 (fun t0 hq13 => Exists.elim hq13 (fun w0 hq14 => Exists.elim hq14 (fun r0 hq15 => have ha0 := hq15.1; have hq16 := hq15.2; Exists.elim hq16 (fun F0 hq17 => have hF0 := hq17.1; have h := hq17.2; ?_))))))))))))))
    clear hq0 hq1 hq2 hq3 hq4 hq5 hq6 hq7 hq8 hq9 hq10 hq11 hq12 hq13 hq14 hq15 hq16 hq17
    rw [tc14] at hz5
    have g5 : z5.toInt = (F 14).toInt := by rw [hz5]
    have g8 : z8.toInt = 2 * z5.toInt := in_mul hz8 (by decide) (by decide) (show IV z5 0 5 from ⟨by omega, by omega⟩) (by decide) (by decide)
    have g11 : z11.toInt = 155 + z8.toInt := in_add hz11 (show IV 155 155 155 from (by decide)) (show IV z8 0 10 from ⟨by omega, by omega⟩) (by decide) (by decide)
    have c11 : z11.toNatClampNeg = 155 + 2 * (F 14).toInt.toNat := by have := tn_i (z := z11) (by omega); omega
    have m0 := qm_reelPassed hn ⟨s1, s2, rfl, s4, s5⟩ ha0
    cases h0 : reelP F T n a with
    | inl e =>
      rw [h0] at m0
      obtain ⟨y1, y2, y3⟩ := MS_l (MV_l m0)
      rcases h with ⟨-, k1, k2, k3, k4, k5, k6, k7, k8, k9, k10⟩ | ⟨q, -⟩
      · simp only [scratchS, h0, bnd]; exact ⟨by rw [k3, y1], by rw [k4, y2], by rw [k8, y3]⟩
      · rw [y1] at q; exact absurd q one0
    | inr v0 =>
      rw [h0] at m0
      obtain ⟨er0, s0⟩ := MV_r m0
      obtain ⟨iv0, ev0⟩ := reelP_inr h0
      have eF : F0 z11.toNatClampNeg = v0.1 := by rw [hF0, upd_at, er0]
      have eF2 : F0 (16 + 3 * v0.1.toInt.toNat) = F (16 + 3 * v0.1.toInt.toNat) := by rw [hF0, upd_ne (by have := iv0; omega)]
      rcases h with ⟨q, -⟩ | ⟨-, h⟩
      · exact absurd (MS_r s0).1 q
      · refine Exists.elim h ?_
        clear h
        intro z42 h
        revert h
        refine (fun hq0 => have hz42 := hq0.1; have hq1 := hq0.2; Exists.elim hq1 (fun z45 hq2 => have hz45 := hq2.1; have hq3 := hq2.2; Exists.elim hq3 (fun a1 hq4 => Exists.elim hq4 (fun e1 hq5 => Exists.elim hq5 (fun f1 hq6 => Exists.elim hq6 (fun u1 hq7 => Exists.elim hq7 (fun L1 hq8 => Exists.elim hq8 (fun n1 hq9 => Exists.elim hq9 (fun p1 hq10 => Exists.elim hq10 (fun t1 hq11 => Exists.elim hq11 (fun w1 hq12 => Exists.elim hq12 (fun r1 hq13 => have ha1 := hq13.1; have hq14 := hq13.2; Exists.elim hq14 (fun F1 hq15 => have hF1 := hq15.1; have h := hq15.2; ?_)))))))))))))
        clear hq0 hq1 hq2 hq3 hq4 hq5 hq6 hq7 hq8 hq9 hq10 hq11 hq12 hq13 hq14 hq15
        rw [eF] at hz45
        subst hz45
        have g102 : z42.toInt = z11.toInt + 1 := in_add hz42 (show IV z11 155 165 from ⟨by omega, by omega⟩) (show IV 1 1 1 from (by decide)) (by decide) (by decide)
        have c102 : z42.toNatClampNeg = 155 + 2 * (F 14).toInt.toNat + 1 := by have := tn_i (z := z42) (by omega); omega
        have m1 : MV T n (numS T n 0 (F0 (16 + 3 * v0.1.toInt.toNat) - 1) v0.2) r1 a1 e1 f1 u1 L1 n1 p1 t1 w1 := fo_r hn iv0 s0 ha1
        rw [eF2] at m1
        cases h1 : numS T n 0 (F (16 + 3 * v0.1.toInt.toNat) - 1) v0.2 with
        | inl e =>
          rw [h1] at m1
          obtain ⟨x1, x2, x3⟩ := MS_l (MV_l m1)
          rcases h with ⟨-, k1, k2, k3, k4, k5, k6, k7, k8, k9, k10⟩ | ⟨q, -⟩
          · simp only [scratchS, h0, h1, bnd]; exact ⟨by rw [k3, x1], by rw [k4, x2], by rw [k8, x3]⟩
          · rw [x1] at q; exact absurd q one0
        | inr v1 =>
          rw [h1] at m1
          obtain ⟨er1, s1⟩ := MV_r m1
          rcases h with ⟨q, -⟩ | h
          · exact absurd (MS_r s1).1 q
          · revert h
            refine (fun zq0 => have zn0 := zq0.1; have zq1 := zq0.2; Exists.elim zq1 (fun z74 zq2 => have hz74 := zq2.1; have zq3 := zq2.2; Exists.elim zq3 (fun G zq4 => have hG := zq4.1; have zq5 := zq4.2; have k1 := zq5.1; have zq6 := zq5.2; have k2 := zq6.1; have zq7 := zq6.2; have k3 := zq7.1; have zq8 := zq7.2; have k4 := zq8.1; have zq9 := zq8.2; have k5 := zq9.1; have zq10 := zq9.2; have k6 := zq10.1; have zq11 := zq10.2; have k7 := zq11.1; have zq12 := zq11.2; have k8 := zq12.1; have zq13 := zq12.2; have k9 := zq13.1; have k10 := zq13.2; ?_)))
            clear zq0 zq1 zq2 zq3 zq4 zq5 zq6 zq7 zq8 zq9 zq10 zq11 zq12 zq13 zn0
            simp only [scratchS, h0, h1, bnd]
            subst k1 k2 k3 k4 k6 k7 k8 k9 k10
            refine ⟨?_, s1⟩
            rw [k5, hG, hF1, hF0, er0, er1, hz74, hz5, tc14, c11, c102]
  · exact absurd s1 q
noncomputable def opnS (F T : Nat → Int32) (n p a : Int32) : Rs Int32 := if p = 0 then .inl (5, a) else if F 15 = 0 then .inl (6, a) else .inr (nx T n a)
noncomputable def onceS (F T : Nat → Int32) (n p a : Int32) : Rs Int32 := if p = 0 then (if F 15 = 0 then .inl (6, a) else .inr (nx T n a)) else .inl (3, a)
theorem qm_opens {F T L L2 : Nat → Int32} {n p a en fd ft ns pl tk wh at2 en2 fd2 ft2 ns2 pl2 tk2 wh2 r : Int32} {w : String} (hn : IV n 0 900) (hw : WOk w) (hm : MS T n (.inr a) a en fd ft L ns pl tk wh) (h : R_m_opensX p n a en tk wh ns ft pl fd T L F w at2 en2 fd2 ft2 L2 ns2 pl2 tk2 wh2 r) : (IsW T n a w ∧ r = 1 ∧ MS T n (opnS F T n p a) at2 en2 fd2 ft2 L2 ns2 pl2 tk2 wh2) ∨ (¬ IsW T n a w ∧ r = 0 ∧ at2 = a ∧ en2 = en ∧ fd2 = fd ∧ ft2 = ft ∧ L2 = L ∧ ns2 = ns ∧ pl2 = pl ∧ tk2 = tk ∧ wh2 = wh) := by
  obtain ⟨s1, s2, s3, s4, s5⟩ := hm
  simp only [R_m_opensX] at h
  obtain ⟨r1, hr1, h⟩ := h
  rw [s1] at hr1
  rcases m_is_spec hw s5 hr1 with ⟨q, hq⟩ | ⟨q, hq⟩
  · rcases h with ⟨-, h⟩ | ⟨q2, -⟩
    · refine Or.inl ⟨hq, ?_⟩
      rcases h with ⟨g1, z, hz, h⟩ | ⟨g1, f1, u1, p1, hb, z, hz, h⟩
      · rw [tc15] at hz
        rcases h with h | h
        · revert h
          refine (fun zq0 => have g2 := zq0.1; have zq1 := zq0.2; Exists.elim zq1 (fun a2 zq2 => Exists.elim zq2 (fun e5 zq3 => Exists.elim zq3 (fun M2 zq4 => Exists.elim zq4 (fun m2 zq5 => Exists.elim zq5 (fun t2 zq6 => Exists.elim zq6 (fun w2 zq7 => have hx := zq7.1; have zq8 := zq7.2; have k1 := zq8.1; have zq9 := zq8.2; have k2 := zq9.1; have zq10 := zq9.2; have k3 := zq10.1; have zq11 := zq10.2; have k4 := zq11.1; have zq12 := zq11.2; have k5 := zq12.1; have zq13 := zq12.2; have k6 := zq13.1; have zq14 := zq13.2; have k7 := zq14.1; have zq15 := zq14.2; have k8 := zq15.1; have zq16 := zq15.2; have k9 := zq16.1; have k10 := zq16.2; ?_)))))))
          clear zq0 zq1 zq2 zq3 zq4 zq5 zq6 zq7 zq8 zq9 zq10 zq11 zq12 zq13 zq14 zq15 zq16
          obtain ⟨x1, x2, x3⟩ := qm_next_at hn s4 s5 hx
          rw [hz] at g2
          refine ⟨k10, ?_⟩
          simp only [opnS, if_neg g1, if_neg g2]
          subst k1 k2 k5 k6 k8 k9
          exact ⟨by rw [k3, s1], by rw [k4, s2], x1, x2, x3⟩
        · revert h
          refine (fun zq0 => have g2 := zq0.1; have zq1 := zq0.2; Exists.elim zq1 (fun f1 zq2 => Exists.elim zq2 (fun u1 zq3 => Exists.elim zq3 (fun p1 zq4 => have hb := zq4.1; have zq5 := zq4.2; have k1 := zq5.1; have zq6 := zq5.2; have k2 := zq6.1; have zq7 := zq6.2; have k3 := zq7.1; have zq8 := zq7.2; have k4 := zq8.1; have zq9 := zq8.2; have k5 := zq9.1; have zq10 := zq9.2; have k6 := zq10.1; have zq11 := zq10.2; have k7 := zq11.1; have zq12 := zq11.2; have k8 := zq12.1; have zq13 := zq12.2; have k9 := zq13.1; have k10 := zq13.2; ?_))))
          clear zq0 zq1 zq2 zq3 zq4 zq5 zq6 zq7 zq8 zq9 zq10 zq11 zq12 zq13
          obtain ⟨x1, x2, x3⟩ := qm_bad s1 hb
          rw [hz] at g2
          refine ⟨k10, ?_⟩
          simp only [opnS, if_neg g1, if_pos g2]
          exact ⟨by rw [k3, x1], by rw [k4, x2], by rw [k7, x3]⟩
      · obtain ⟨y1, y2, y3⟩ := qm_bad s1 hb
        rcases h with ⟨g2, k1, k2, k3, k4, k5, k6, k7, k8, k9, k10⟩ | h
        · refine ⟨k10, ?_⟩
          simp only [opnS, if_pos g1]
          exact ⟨by rw [k3, y1], by rw [k4, y2], by rw [k7, y3]⟩
        · revert h
          refine (fun zq0 => have g2 := zq0.1; have zq1 := zq0.2; Exists.elim zq1 (fun f2 zq2 => Exists.elim zq2 (fun u2 zq3 => Exists.elim zq3 (fun p2 zq4 => have hb2 := zq4.1; have zq5 := zq4.2; have k1 := zq5.1; have zq6 := zq5.2; have k2 := zq6.1; have zq7 := zq6.2; have k3 := zq7.1; have zq8 := zq7.2; have k4 := zq8.1; have zq9 := zq8.2; have k5 := zq9.1; have zq10 := zq9.2; have k6 := zq10.1; have zq11 := zq10.2; have k7 := zq11.1; have zq12 := zq11.2; have k8 := zq12.1; have zq13 := zq12.2; have k9 := zq13.1; have k10 := zq13.2; ?_))))
          clear zq0 zq1 zq2 zq3 zq4 zq5 zq6 zq7 zq8 zq9 zq10 zq11 zq12 zq13
          obtain ⟨x1, x2, x3⟩ := qm_bad1 y1 hb2
          refine ⟨k10, ?_⟩
          simp only [opnS, if_pos g1]
          exact ⟨by rw [k3, x1], by rw [k4, x2, y2], by rw [k7, x3, y3]⟩
    · rw [q] at q2; exact absurd q2 one0
  · rcases h with ⟨q2, -⟩ | ⟨-, k1, k2, k3, k4, k5, k6, k7, k8, k9, k10⟩
    · exact absurd q q2
    · exact Or.inr ⟨hq, k10, k1, k2, k3, k4, k5, k6, k7, k8, k9⟩
theorem qm_opensOnce {F T L L2 : Nat → Int32} {n p a en fd ft ns pl tk wh at2 en2 fd2 ft2 ns2 pl2 tk2 wh2 r : Int32} {w : String} (hn : IV n 0 900) (hw : WOk w) (hm : MS T n (.inr a) a en fd ft L ns pl tk wh) (h : R_m_opensOnceX p n a en tk wh ns ft pl fd T L F w at2 en2 fd2 ft2 L2 ns2 pl2 tk2 wh2 r) : (IsW T n a w ∧ r = 1 ∧ MS T n (onceS F T n p a) at2 en2 fd2 ft2 L2 ns2 pl2 tk2 wh2) ∨ (¬ IsW T n a w ∧ r = 0 ∧ at2 = a ∧ en2 = en ∧ fd2 = fd ∧ ft2 = ft ∧ L2 = L ∧ ns2 = ns ∧ pl2 = pl ∧ tk2 = tk ∧ wh2 = wh) := by
  obtain ⟨s1, s2, s3, s4, s5⟩ := hm
  simp only [R_m_opensOnceX] at h
  obtain ⟨r1, hr1, h⟩ := h
  rw [s1] at hr1
  rcases m_is_spec hw s5 hr1 with ⟨q, hq⟩ | ⟨q, hq⟩
  · rcases h with ⟨-, h⟩ | ⟨q2, -⟩
    · refine Or.inl ⟨hq, ?_⟩
      rcases h with ⟨g1, z, hz, h⟩ | ⟨g1, f1, u1, p1, hb, z, hz, h⟩
      · rw [tc15] at hz
        rcases h with h | h
        · revert h
          refine (fun zq0 => have g2 := zq0.1; have zq1 := zq0.2; Exists.elim zq1 (fun a2 zq2 => Exists.elim zq2 (fun e5 zq3 => Exists.elim zq3 (fun M2 zq4 => Exists.elim zq4 (fun m2 zq5 => Exists.elim zq5 (fun t2 zq6 => Exists.elim zq6 (fun w2 zq7 => have hx := zq7.1; have zq8 := zq7.2; have k1 := zq8.1; have zq9 := zq8.2; have k2 := zq9.1; have zq10 := zq9.2; have k3 := zq10.1; have zq11 := zq10.2; have k4 := zq11.1; have zq12 := zq11.2; have k5 := zq12.1; have zq13 := zq12.2; have k6 := zq13.1; have zq14 := zq13.2; have k7 := zq14.1; have zq15 := zq14.2; have k8 := zq15.1; have zq16 := zq15.2; have k9 := zq16.1; have k10 := zq16.2; ?_)))))))
          clear zq0 zq1 zq2 zq3 zq4 zq5 zq6 zq7 zq8 zq9 zq10 zq11 zq12 zq13 zq14 zq15 zq16
          obtain ⟨x1, x2, x3⟩ := qm_next_at hn s4 s5 hx
          rw [hz] at g2
          refine ⟨k10, ?_⟩
          simp only [onceS, if_pos g1, if_neg g2]
          subst k1 k2 k5 k6 k8 k9
          exact ⟨by rw [k3, s1], by rw [k4, s2], x1, x2, x3⟩
        · revert h
          refine (fun zq0 => have g2 := zq0.1; have zq1 := zq0.2; Exists.elim zq1 (fun f1 zq2 => Exists.elim zq2 (fun u1 zq3 => Exists.elim zq3 (fun p1 zq4 => have hb := zq4.1; have zq5 := zq4.2; have k1 := zq5.1; have zq6 := zq5.2; have k2 := zq6.1; have zq7 := zq6.2; have k3 := zq7.1; have zq8 := zq7.2; have k4 := zq8.1; have zq9 := zq8.2; have k5 := zq9.1; have zq10 := zq9.2; have k6 := zq10.1; have zq11 := zq10.2; have k7 := zq11.1; have zq12 := zq11.2; have k8 := zq12.1; have zq13 := zq12.2; have k9 := zq13.1; have k10 := zq13.2; ?_))))
          clear zq0 zq1 zq2 zq3 zq4 zq5 zq6 zq7 zq8 zq9 zq10 zq11 zq12 zq13
          obtain ⟨x1, x2, x3⟩ := qm_bad s1 hb
          rw [hz] at g2
          refine ⟨k10, ?_⟩
          simp only [onceS, if_pos g1, if_pos g2]
          exact ⟨by rw [k3, x1], by rw [k4, x2], by rw [k7, x3]⟩
      · obtain ⟨y1, y2, y3⟩ := qm_bad s1 hb
        rcases h with ⟨g2, k1, k2, k3, k4, k5, k6, k7, k8, k9, k10⟩ | h
        · refine ⟨k10, ?_⟩
          simp only [onceS, if_neg g1]
          exact ⟨by rw [k3, y1], by rw [k4, y2], by rw [k7, y3]⟩
        · revert h
          refine (fun zq0 => have g2 := zq0.1; have zq1 := zq0.2; Exists.elim zq1 (fun f2 zq2 => Exists.elim zq2 (fun u2 zq3 => Exists.elim zq3 (fun p2 zq4 => have hb2 := zq4.1; have zq5 := zq4.2; have k1 := zq5.1; have zq6 := zq5.2; have k2 := zq6.1; have zq7 := zq6.2; have k3 := zq7.1; have zq8 := zq7.2; have k4 := zq8.1; have zq9 := zq8.2; have k5 := zq9.1; have zq10 := zq9.2; have k6 := zq10.1; have zq11 := zq10.2; have k7 := zq11.1; have zq12 := zq11.2; have k8 := zq12.1; have zq13 := zq12.2; have k9 := zq13.1; have k10 := zq13.2; ?_))))
          clear zq0 zq1 zq2 zq3 zq4 zq5 zq6 zq7 zq8 zq9 zq10 zq11 zq12 zq13
          obtain ⟨x1, x2, x3⟩ := qm_bad1 y1 hb2
          refine ⟨k10, ?_⟩
          simp only [onceS, if_neg g1]
          exact ⟨by rw [k3, x1], by rw [k4, x2, y2], by rw [k7, x3, y3]⟩
    · rw [q] at q2; exact absurd q2 one0
  · rcases h with ⟨q2, -⟩ | ⟨-, k1, k2, k3, k4, k5, k6, k7, k8, k9, k10⟩
    · exact absurd q q2
    · exact Or.inr ⟨hq, k10, k1, k2, k3, k4, k5, k6, k7, k8, k9⟩
