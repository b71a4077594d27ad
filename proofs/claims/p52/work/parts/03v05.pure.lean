set_option maxRecDepth 100000
set_option maxHeartbeats 4000000
def Dup (F : Nat → Int32) (base off idx : Nat) (x y : Int32) : Prop := ∃ k : Nat, (k : Int) < (F idx).toInt ∧ F (base + 3 * k) = x ∧ F (base + 3 * k + off) = y
theorem mu_r {T L L2 : Nat → Int32} {n at_ en fd ft ns pl tk wh at2 en2 fd2 ft2 ns2 pl2 tk2 wh2 b : Int32} {w : String} (hn : IV n 0 900) (hw : WOk w) (hs : MS T n (.inr b) at_ en fd ft L ns pl tk wh) (h : R_m_mustX n at_ en tk wh ns ft pl fd T L w at2 en2 fd2 ft2 L2 ns2 pl2 tk2 wh2) : MS T n (labS T n w b) at2 en2 fd2 ft2 L2 ns2 pl2 tk2 wh2 := by
  have q := qm_must hn hw hs h
  rw [bnd_r] at q; exact q
theorem mu_l {T L L2 : Nat → Int32} {n at_ en fd ft ns pl tk wh at2 en2 fd2 ft2 ns2 pl2 tk2 wh2 : Int32} {w : String} {e : Int32 × Int32} (hn : IV n 0 900) (hw : WOk w) (hs : MS T n (.inl e) at_ en fd ft L ns pl tk wh) (h : R_m_mustX n at_ en tk wh ns ft pl fd T L w at2 en2 fd2 ft2 L2 ns2 pl2 tk2 wh2) : fd2 = 1 ∧ ft2 = e.1 ∧ pl2 = e.2 := by
  have q := qm_must hn hw hs h
  rw [bnd_l] at q; exact MS_l q
theorem qm_namedT1 {F L : Nat → Int32} {a ft ns pl tk fd fd2 ft2 pl2 r : Int32} (h0 : fd = 1) (h : R_m_namedTX a tk ns ft pl fd L F fd2 ft2 pl2 r) : fd2 = 1 ∧ ft2 = ft ∧ pl2 = pl := by
  simp only [R_m_namedTX] at h
  rcases h with ⟨q, -⟩ | ⟨-, k1, k2, k3, -⟩
  · rw [h0] at q; exact absurd q one0
  · exact ⟨by rw [k1, h0], k2, k3⟩
theorem f_m_markLineX_L0 {F : Nat → Int32} {z x y at_ ft pl : Int32} {κ : Int32 → Int32 → Int32 → Prop} : ∀ (f : Nat) (u : Int32), R_m_markLineX_L0 F z x at_ y κ f u pl 1 ft → κ 1 ft pl := by
  intro f
  induction f with
  | zero => intro u h; exact h.elim
  | succ f ih =>
    intro u h
    simp only [R_m_markLineX_L0] at h
    rcases h with ⟨-, h⟩ | ⟨-, h⟩
    · exact h
    · rcases h with ⟨-, z1, -, h⟩ | ⟨q, -⟩
      · exact ih _ h
      · exact absurd q one0
theorem o_m_markLineX_L0 {F : Nat → Int32} {z x y at_ ft pl : Int32} {κ : Int32 → Int32 → Int32 → Prop} (hz : z = F 8) (hi : IV (F 8) 0 11) : ∀ (f : Nat) (u : Int32) (j : Nat), u.toInt = j → (j : Int) ≤ (F 8).toInt → (∀ k : Nat, k < j → ¬ (F (44 + 3 * k) = x ∧ F (44 + 3 * k + 2) = y)) → R_m_markLineX_L0 F z x at_ y κ f u pl 0 ft → (¬ Dup F 44 2 8 x y ∧ κ 0 ft pl) ∨ (Dup F 44 2 8 x y ∧ κ 1 3 at_) := by
  intro f
  induction f with
  | zero => intro u j _ _ _ h; exact h.elim
  | succ f ih =>
    intro u j hj hj2 hall h
    simp only [R_m_markLineX_L0] at h
    rcases h with ⟨h1, h⟩ | ⟨h1, h⟩
    · rw [le_I, hz] at h1
      refine Or.inl ⟨?_, h⟩
      rintro ⟨k, k1, k2⟩
      exact hall k (by omega) k2
    · rw [le_I, hz] at h1
      rcases h with ⟨q, -⟩ | ⟨-, z1, hz1, z2, hz2, z3, hz3, h⟩
      · exact absurd rfl q
      · have c1 : z1.toInt = 3 * u.toInt := in_mul hz1 (by decide) (by decide) (show IV u 0 11 from ⟨by omega, by omega⟩) (by decide) (by decide)
        have c2 : z2.toInt = 44 + z1.toInt := in_add hz2 (show IV 44 44 44 from (by decide)) (show IV z1 0 33 from ⟨by omega, by omega⟩) (by decide) (by decide)
        have i2 : z2.toNatClampNeg = 44 + 3 * j := by have := tn_i (z := z2) (by omega); omega
        have e1 := inc1 (u := u) (z := u + 1) (a := 0) (b := 900) ⟨by omega, by omega⟩ (by omega) (by omega) rfl
        rw [i2] at hz3
        have go : ∀ z9 : Int32, u + Int32.ofInt 1 = z9 → ¬ (F (44 + 3 * j) = x ∧ F (44 + 3 * j + 2) = y) → R_m_markLineX_L0 F z x at_ y κ f z9 pl 0 ft → (¬ Dup F 44 2 8 x y ∧ κ 0 ft pl) ∨ (Dup F 44 2 8 x y ∧ κ 1 3 at_) := by
          intro z9 h9 hno h
          rw [ofI1] at h9
          subst h9
          refine ih (u + 1) (j + 1) (by omega) (by omega) (fun k hk => ?_) h
          by_cases q : k = j
          · subst q; exact hno
          · exact hall k (by omega)
        rcases h with ⟨h2, z9, h9, h⟩ | ⟨h2, z4, hz4, z5, hz5, h⟩
        · exact go z9 h9 (fun q => h2 (hz3.trans q.1)) h
        · have c4 : z4.toInt = z2.toInt + 2 := in_add hz4 (show IV z2 44 77 from ⟨by omega, by omega⟩) (show IV 2 2 2 from (by decide)) (by decide) (by decide)
          have i4 : z4.toNatClampNeg = 44 + 3 * j + 2 := by have := tn_i (z := z4) (by omega); omega
          rw [i4] at hz5
          rcases h with ⟨h3, z9, h9, h⟩ | ⟨h3, f1, u1, p1, hb, z9, -, h⟩
          · exact go z9 h9 (fun q => h3 (hz5.trans q.2)) h
          · obtain ⟨b1, b2, b3⟩ := qm_bad rfl hb
            rw [b1, b2, b3] at h
            exact Or.inr ⟨⟨j, by omega, hz3.symm.trans h2, hz5.symm.trans h3⟩, f_m_markLineX_L0 f z9 h⟩
theorem f_m_markLineX_L1 {F : Nat → Int32} {z x y at_ ft pl : Int32} {κ : Int32 → Int32 → Int32 → Prop} : ∀ (f : Nat) (u : Int32), R_m_markLineX_L1 F z x at_ y κ f u pl 1 ft → κ 1 ft pl := by
  intro f
  induction f with
  | zero => intro u h; exact h.elim
  | succ f ih =>
    intro u h
    simp only [R_m_markLineX_L1] at h
    rcases h with ⟨-, h⟩ | ⟨-, h⟩
    · exact h
    · rcases h with ⟨-, z1, -, h⟩ | ⟨q, -⟩
      · exact ih _ h
      · exact absurd q one0
theorem f_m_weakLineX_L0 {F : Nat → Int32} {z x y at_ ft pl : Int32} {κ : Int32 → Int32 → Int32 → Prop} : ∀ (f : Nat) (u : Int32), R_m_weakLineX_L0 F z at_ x y κ f u pl 1 ft → κ 1 ft pl := by
  intro f
  induction f with
  | zero => intro u h; exact h.elim
  | succ f ih =>
    intro u h
    simp only [R_m_weakLineX_L0] at h
    rcases h with ⟨-, h⟩ | ⟨-, h⟩
    · exact h
    · rcases h with ⟨-, z1, -, h⟩ | ⟨q, -⟩
      · exact ih _ h
      · exact absurd q one0
theorem o_m_weakLineX_L0 {F : Nat → Int32} {z x y at_ ft pl : Int32} {κ : Int32 → Int32 → Int32 → Prop} (hz : z = F 10) (hi : IV (F 10) 0 5) : ∀ (f : Nat) (u : Int32) (j : Nat), u.toInt = j → (j : Int) ≤ (F 10).toInt → (∀ k : Nat, k < j → ¬ (F (96 + 3 * k) = x ∧ F (96 + 3 * k + 1) = y)) → R_m_weakLineX_L0 F z at_ x y κ f u pl 0 ft → (¬ Dup F 96 1 10 x y ∧ κ 0 ft pl) ∨ (Dup F 96 1 10 x y ∧ κ 1 3 at_) := by
  intro f
  induction f with
  | zero => intro u j _ _ _ h; exact h.elim
  | succ f ih =>
    intro u j hj hj2 hall h
    simp only [R_m_weakLineX_L0] at h
    rcases h with ⟨h1, h⟩ | ⟨h1, h⟩
    · rw [le_I, hz] at h1
      refine Or.inl ⟨?_, h⟩
      rintro ⟨k, k1, k2⟩
      exact hall k (by omega) k2
    · rw [le_I, hz] at h1
      rcases h with ⟨q, -⟩ | ⟨-, z1, hz1, z2, hz2, z3, hz3, h⟩
      · exact absurd rfl q
      · have c1 : z1.toInt = 3 * u.toInt := in_mul hz1 (by decide) (by decide) (show IV u 0 5 from ⟨by omega, by omega⟩) (by decide) (by decide)
        have c2 : z2.toInt = 96 + z1.toInt := in_add hz2 (show IV 96 96 96 from (by decide)) (show IV z1 0 15 from ⟨by omega, by omega⟩) (by decide) (by decide)
        have i2 : z2.toNatClampNeg = 96 + 3 * j := by have := tn_i (z := z2) (by omega); omega
        have e1 := inc1 (u := u) (z := u + 1) (a := 0) (b := 900) ⟨by omega, by omega⟩ (by omega) (by omega) rfl
        rw [i2] at hz3
        have go : ∀ z9 : Int32, u + Int32.ofInt 1 = z9 → ¬ (F (96 + 3 * j) = x ∧ F (96 + 3 * j + 1) = y) → R_m_weakLineX_L0 F z at_ x y κ f z9 pl 0 ft → (¬ Dup F 96 1 10 x y ∧ κ 0 ft pl) ∨ (Dup F 96 1 10 x y ∧ κ 1 3 at_) := by
          intro z9 h9 hno h
          rw [ofI1] at h9
          subst h9
          refine ih (u + 1) (j + 1) (by omega) (by omega) (fun k hk => ?_) h
          by_cases q : k = j
          · subst q; exact hno
          · exact hall k (by omega)
        rcases h with ⟨h2, z9, h9, h⟩ | ⟨h2, z4, hz4, z5, hz5, h⟩
        · exact go z9 h9 (fun q => h2 (hz3.trans q.1)) h
        · have c4 : z4.toInt = z2.toInt + 1 := in_add hz4 (show IV z2 96 111 from ⟨by omega, by omega⟩) (show IV 1 1 1 from (by decide)) (by decide) (by decide)
          have i4 : z4.toNatClampNeg = 96 + 3 * j + 1 := by have := tn_i (z := z4) (by omega); omega
          rw [i4] at hz5
          rcases h with ⟨h3, z9, h9, h⟩ | ⟨h3, f1, u1, p1, hb, z9, -, h⟩
          · exact go z9 h9 (fun q => h3 (hz5.trans q.2)) h
          · obtain ⟨b1, b2, b3⟩ := qm_bad rfl hb
            rw [b1, b2, b3] at h
            exact Or.inr ⟨⟨j, by omega, hz3.symm.trans h2, hz5.symm.trans h3⟩, f_m_weakLineX_L0 f z9 h⟩
theorem weak_L1 {z : Int32} {κ : Prop} : ∀ (f : Nat) (u : Int32), R_m_weakLineX_L1 z κ f u → κ := by
  intro f
  induction f with
  | zero => intro u h; exact h.elim
  | succ f ih =>
    intro u h
    simp only [R_m_weakLineX_L1] at h
    rcases h with ⟨-, h⟩ | ⟨-, z1, -, h⟩
    · exact h
    · exact ih _ h
noncomputable def markS (F T : Nat → Int32) (n a : Int32) : Rs ((Nat → Int32) × Int32) := bnd (reelP F T n a) (fun v0 => bnd (numS T n 0 (F (16 + 3 * v0.1.toInt.toNat) - 1) v0.2) (fun v1 => bnd (labS T n "by" v1.2) (fun b => bnd (oldS F T n 8 11 b) (fun tw => @ite _ (Dup F 44 2 8 v0.1 tw) (Classical.propDecidable _) (.inl (3, b)) (.inr (upd (upd (upd (upd F (44 + 3 * (F 8).toInt.toNat) v0.1) (44 + 3 * (F 8).toInt.toNat + 1) v1.1) (44 + 3 * (F 8).toInt.toNat + 2) tw) 8 (F 8 + 1), nx T n b))))))
noncomputable def weakS (F T : Nat → Int32) (n a : Int32) : Rs ((Nat → Int32) × Int32) := bnd (reelP F T n a) (fun v0 => bnd (numH T n 0 (F (16 + 3 * v0.1.toInt.toNat) - 1) v0.2) (fun fr => @ite _ (Dup F 96 1 10 v0.1 fr) (Classical.propDecidable _) (.inl (3, v0.2)) (bnd (aftS T n "snaps" 1 99 (nx T n v0.2)) (fun v2 => .inr (upd (upd (upd (upd F (96 + 3 * (F 10).toInt.toNat) v0.1) (96 + 3 * (F 10).toInt.toNat + 1) fr) (96 + 3 * (F 10).toInt.toNat + 2) v2.1) 10 (F 10 + 1), v2.2)))))
theorem qm_markLine {F T L F2 L2 : Nat → Int32} {n a en fd ft ns pl tk wh at2 en2 fd2 ft2 ns2 pl2 tk2 wh2 : Int32} (hn : IV n 0 900) (h9 : IV (F 8) 0 11) (hm : MS T n (.inr a) a en fd ft L ns pl tk wh) (h : R_m_markLineX n a en tk wh ns ft pl fd T L F at2 en2 fd2 ft2 F2 L2 ns2 pl2 tk2 wh2) : MF T n F (markS F T n a) at2 en2 fd2 ft2 F2 L2 ns2 pl2 tk2 wh2 := by
  obtain ⟨s1, s2, s3, s4, s5⟩ := hm
  unfold R_m_markLineX at h
  rcases h with ⟨-, h⟩ | ⟨q, -⟩
  · skip
    refine exE1 h ?_
    clear h
    intro z5 hz5 h
    refine exE1 h ?_
    clear h
    intro z8 hz8 h
    refine exE1 h ?_
    clear h
    intro z11 hz11 h
    refine exE10 h ?_
    clear h
    intro a0 e0 f0 u0 L0 n0 p0 t0 w0 r0 ha0 h
    rw [tc8] at hz5
    have g5 : z5.toInt = (F 8).toInt := by rw [hz5]
    have g8 : z8.toInt = 3 * z5.toInt := in_mul hz8 (by decide) (by decide) (show IV z5 0 11 from ⟨by omega, by omega⟩) (by decide) (by decide)
    have g11 : z11.toInt = 44 + z8.toInt := in_add hz11 (show IV 44 44 44 from (by decide)) (show IV z8 0 33 from ⟨by omega, by omega⟩) (by decide) (by decide)
    have c11 : z11.toNatClampNeg = 44 + 3 * (F 8).toInt.toNat := by have := tn_i (z := z11) (by omega); omega
    have m0 := qm_reelPassed hn ⟨s1, s2, rfl, s4, s5⟩ ha0
    cases h0 : reelP F T n a with
    | inl e =>
      rw [h0] at m0
      have m0 := MV_l m0
      rcases h with ⟨q, -⟩ | ⟨-, h⟩
      · rw [(MS_l m0).1] at q; exact absurd q one0
      · refine Exists.elim h ?_
        clear h
        intro a1 h
        refine exE8 h ?_
        clear h
        intro e1 f1 u1 L1 n1 p1 t1 w1 hm1 h
        refine exE4 h ?_
        clear h
        intro f2 u2 p2 r2 hn2 h
        obtain ⟨y1, y2, y3⟩ := mu_l hn wok_by m0 hm1
        obtain ⟨x1, x2, x3⟩ := qm_namedT1 y1 hn2
        obtain ⟨m, h⟩ := h
        rw [x1, x2, x3, y2, y3] at h
        have h := f_m_markLineX_L1 m 0 h
        simp only [markS, h0, bnd]
        rcases h with ⟨q, -⟩ | h
        · exact absurd q one0
        · refine exA10 h ?_
          clear h
          intro zn0 k1 k2 k3 k4 k5 k6 k7 k8 k9 k10
          clear zn0
          exact ⟨k3, k4, k8⟩
    | inr v0 =>
      rw [h0] at m0
      refine exA1 (MV_r m0) ?_
      intro er0 s0
      obtain ⟨iv0, ev0⟩ := reelP_inr h0
      rcases h with ⟨-, h⟩ | ⟨q, -⟩
      · skip
        refine exE10 h ?_
        clear h
        intro a1 e1 f1 u1 L1 n1 p1 t1 w1 r1 ha1 h
        refine exE9 h ?_
        clear h
        intro a2 e2 f2 u2 L2 n2 p2 t2 w2 hm2 h
        refine exE4 h ?_
        clear h
        intro f3 u3 p3 r3 hn3 h
        rw [er0] at ha1
        obtain ⟨m, h⟩ := h
        have m1 := fo_r hn iv0 s0 ha1
        cases h1 : numS T n 0 (F (16 + 3 * v0.1.toInt.toNat) - 1) v0.2 with
        | inl e =>
          rw [h1] at m1
          obtain ⟨y1, y2, y3⟩ := mu_l hn wok_by (MV_l m1) hm2
          obtain ⟨x1, x2, x3⟩ := qm_namedT1 y1 hn3
          rw [x1, x2, x3, y2, y3] at h
          have h := f_m_markLineX_L0 m 0 h
          simp only [markS, h0, h1, bnd]
          rcases h with ⟨q, -⟩ | h
          · exact absurd q one0
          · refine exA10 h ?_
            clear h
            intro zn0 k1 k2 k3 k4 k5 k6 k7 k8 k9 k10
            clear zn0
            exact ⟨k3, k4, k8⟩
        | inr v1 =>
          rw [h1] at m1
          refine exA1 (MV_r m1) ?_
          intro er1 t1'
          have m2 := mu_r hn wok_by t1' hm2
          cases h2 : labS T n "by" v1.2 with
          | inl e =>
            rw [h2] at m2
            refine exA2 (MS_l m2) ?_
            intro y1 y2 y3
            obtain ⟨x1, x2, x3⟩ := qm_namedT1 y1 hn3
            rw [x1, x2, x3, y2, y3] at h
            have h := f_m_markLineX_L0 m 0 h
            simp only [markS, h0, h1, h2, bnd]
            rcases h with ⟨q, -⟩ | h
            · exact absurd q one0
            · refine exA10 h ?_
              clear h
              intro zn0 k1 k2 k3 k4 k5 k6 k7 k8 k9 k10
              clear zn0
              exact ⟨k3, k4, k8⟩
          | inr b =>
            rw [h2] at m2
            refine exA4 (MS_r m2) ?_
            intro y1 y2 y3 y4 y5
            subst y3
            rcases qm_namedT hn y4 y1 y5 hn3 with ⟨c, e1', e2', e3', e4'⟩ | ⟨e1', e2', e3', e4'⟩
            · rw [e2', e3', e4'] at h
              have h := f_m_markLineX_L0 m 0 h
              simp only [markS, h0, h1, h2, e1', bnd]
              rcases h with ⟨q, -⟩ | h
              · exact absurd q one0
              · refine exA10 h ?_
                clear h
                intro zn0 k1 k2 k3 k4 k5 k6 k7 k8 k9 k10
                clear zn0
                exact ⟨k3, k4, k8⟩
            · rw [e2', e3', y2, er0] at h
              rcases o_m_markLineX_L0 hz5 h9 m 0 0 (by decide) (by have := h9; omega) (fun k hk => by omega) h with ⟨hd, h⟩ | ⟨hd, h⟩
              · rcases h with ⟨-, h⟩ | ⟨q, -⟩
                · skip
                  refine exE6 h ?_
                  clear h
                  intro a4 e4 L4 n4 t4 w4 hx4 h
                  refine exE1 h ?_
                  clear h
                  intro F1 hF1 h
                  refine exE1 h ?_
                  clear h
                  intro z108 hz108 h
                  refine exE1 h ?_
                  clear h
                  intro F3 hF3 h
                  refine exE1 h ?_
                  clear h
                  intro z118 hz118 h
                  refine exE1 h ?_
                  clear h
                  intro F4 hF4 h
                  refine exE1 h ?_
                  clear h
                  intro z128 hz128 h
                  refine exE1 h ?_
                  clear h
                  intro G hG h
                  have gz108 : z108.toInt = z11.toInt + 1 := in_add hz108 (show IV z11 44 77 from ⟨by omega, by omega⟩) (show IV 1 1 1 from (by decide)) (by decide) (by decide)
                  have cz108 : z108.toNatClampNeg = 44 + 3 * (F 8).toInt.toNat + 1 := by have := tn_i (z := z108) (by omega); omega
                  have gz118 : z118.toInt = z11.toInt + 2 := in_add hz118 (show IV z11 44 77 from ⟨by omega, by omega⟩) (show IV 2 2 2 from (by decide)) (by decide) (by decide)
                  have cz118 : z118.toNatClampNeg = 44 + 3 * (F 8).toInt.toNat + 2 := by have := tn_i (z := z118) (by omega); omega
                  refine exA9 h ?_
                  clear h
                  intro k1 k2 k3 k4 k5 k6 k7 k8 k9 k10
                  obtain ⟨x1, x2, x3⟩ := qm_next_at hn y4 y5 hx4
                  simp only [markS, h0, h1, h2, e1', if_neg hd, bnd]
                  subst k1 k2 k6 k7 k9 k10
                  refine ⟨?_, k3, k4, x1, x2, x3⟩
                  rw [k5, hG, hF4, hF3, hF1, er1, hz128, hz5, tc8, c11, cz108, cz118]
                · exact absurd rfl q
              · simp only [markS, h0, h1, h2, e1', if_pos hd, bnd]
                rcases h with ⟨q, -⟩ | h
                · exact absurd q one0
                · refine exA10 h ?_
                  clear h
                  intro zn0 k1 k2 k3 k4 k5 k6 k7 k8 k9 k10
                  clear zn0
                  exact ⟨k3, k4, k8⟩
      · exact absurd (MS_r s0).1 q
  · exact absurd s1 q
