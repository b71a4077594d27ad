set_option maxRecDepth 100000
set_option maxHeartbeats 4000000
theorem qm_weakLine {F T L F2 L2 : Nat → Int32} {n a en fd ft ns pl tk wh at2 en2 fd2 ft2 ns2 pl2 tk2 wh2 : Int32} (hn : IV n 0 900) (h9 : IV (F 10) 0 5) (hm : MS T n (.inr a) a en fd ft L ns pl tk wh) (h : R_m_weakLineX n a en tk wh ns ft pl fd T L F at2 en2 fd2 ft2 F2 L2 ns2 pl2 tk2 wh2) : MF T n F (weakS F T n a) at2 en2 fd2 ft2 F2 L2 ns2 pl2 tk2 wh2 := by
  obtain ⟨s1, s2, s3, s4, s5⟩ := hm
  unfold R_m_weakLineX at h
  rcases h with ⟨-, h⟩ | ⟨q, -⟩
  · skip
    refine exE1 h ?_
    clear h
    intro z5 hz5 h
    refine exE1 h ?_
    clear h
    intro z8 hz8 h
    refine exE1 h ?_
    clear h
    intro z11 hz11 h
    refine exE10 h ?_
    clear h
    intro a0 e0 f0 u0 L0 n0 p0 t0 w0 r0 ha0 h
    rw [tc10] at hz5
    have g5 : z5.toInt = (F 10).toInt := by rw [hz5]
    have g8 : z8.toInt = 3 * z5.toInt := in_mul hz8 (by decide) (by decide) (show IV z5 0 5 from ⟨by omega, by omega⟩) (by decide) (by decide)
    have g11 : z11.toInt = 96 + z8.toInt := in_add hz11 (show IV 96 96 96 from (by decide)) (show IV z8 0 15 from ⟨by omega, by omega⟩) (by decide) (by decide)
    have c11 : z11.toNatClampNeg = 96 + 3 * (F 10).toInt.toNat := by have := tn_i (z := z11) (by omega); omega
    have m0 := qm_reelPassed hn ⟨s1, s2, rfl, s4, s5⟩ ha0
    cases h0 : reelP F T n a with
    | inl e =>
      rw [h0] at m0
      obtain ⟨x1, x2, x3⟩ := MS_l (MV_l m0)
      rcases h with ⟨q, -⟩ | ⟨-, m, h⟩
      · rw [x1] at q; exact absurd q one0
      · obtain ⟨k1, k2, k3, k4, k5, k6, k7, k8, k9, k10⟩ := weak_L1 m 0 h
        simp only [weakS, h0, bnd]
        exact ⟨by rw [k3, x1], by rw [k4, x2], by rw [k8, x3]⟩
    | inr v0 =>
      rw [h0] at m0
      refine exA1 (MV_r m0) ?_
      intro er0 s0
      obtain ⟨iv0, ev0⟩ := reelP_inr h0
      rcases h with ⟨-, h⟩ | ⟨q, -⟩
      · skip
        refine exE1 h ?_
        clear h
        intro z33 hz33 h
        refine exE1 h ?_
        clear h
        intro z36 hz36 h
        refine exE1 h ?_
        clear h
        intro z39 hz39 h
        refine exE1 h ?_
        clear h
        intro z40 hz40 h
        refine exE4 h ?_
        clear h
        intro f3 u3 p3 r3 hn3 h
        obtain ⟨m, h⟩ := h
        refine exA4 (MS_r s0) ?_
        intro y1 y2 y3 y4 y5
        subst y3
        have g33 : z33.toInt = 3 * r0.toInt := in_mul hz33 (by decide) (by decide) (show IV r0 0 7 by rw [er0]; exact iv0) (by decide) (by decide)
        have iv0' : IV r0 0 7 := by rw [er0]; exact iv0
        have g36 : z36.toInt = 16 + z33.toInt := in_add hz36 (show IV 16 16 16 from (by decide)) (show IV z33 0 21 from ⟨by omega, by omega⟩) (by decide) (by decide)
        have i36 : z36.toNatClampNeg = 16 + 3 * v0.1.toInt.toNat := by rw [← er0]; have := tn_i (z := z36) (by omega); omega
        rw [hz40, hz39, i36] at hn3
        rcases qm_numH y5 y1 hn3 with ⟨c, e1', e2', e3', e4'⟩ | ⟨e1', e2', e3', e4'⟩
        · rw [e2', e3', e4'] at h
          have h := f_m_weakLineX_L0 m 0 h
          simp only [weakS, h0, e1', bnd]
          rcases h with ⟨q, -⟩ | h
          · exact absurd q one0
          · refine exA10 h ?_
            clear h
            intro zn0 k1 k2 k3 k4 k5 k6 k7 k8 k9 k10
            clear zn0
            exact ⟨k3, k4, k8⟩
        · rw [e2', e3', y1, y2, er0] at h
          rcases o_m_weakLineX_L0 hz5 h9 m 0 0 (by decide) (by have := h9; omega) (fun k hk => by omega) h with ⟨hd, h⟩ | ⟨hd, h⟩
          · rcases h with ⟨-, h⟩ | ⟨q, -⟩
            · skip
              refine exE6 h ?_
              clear h
              intro a4 e4 L4 n4 t4 w4 hx4 h
              refine exE1 h ?_
              clear h
              intro F1 hF1 h
              refine exE1 h ?_
              clear h
              intro z84 hz84 h
              refine exE1 h ?_
              clear h
              intro F3 hF3 h
              refine exE1 h ?_
              clear h
              intro z94 hz94 h
              refine exE10 h ?_
              clear h
              intro a2 e2 f2 u2 L2 n2 p2 t2 w2 r2 ha2 h
              refine exE1 h ?_
              clear h
              intro F4 hF4 h
              have gz84 : z84.toInt = z11.toInt + 1 := in_add hz84 (show IV z11 96 111 from ⟨by omega, by omega⟩) (show IV 1 1 1 from (by decide)) (by decide) (by decide)
              have cz84 : z84.toNatClampNeg = 96 + 3 * (F 10).toInt.toNat + 1 := by have := tn_i (z := z84) (by omega); omega
              have gz94 : z94.toInt = z11.toInt + 2 := in_add hz94 (show IV z11 96 111 from ⟨by omega, by omega⟩) (show IV 2 2 2 from (by decide)) (by decide) (by decide)
              have cz94 : z94.toNatClampNeg = 96 + 3 * (F 10).toInt.toNat + 2 := by have := tn_i (z := z94) (by omega); omega
              obtain ⟨x1, x2, x3⟩ := qm_next_at hn y4 y5 hx4
              have s1' : MS T n (.inr (nx T n v0.2)) a4 e4 0 0 L4 n4 p3 t4 w4 := ⟨rfl, rfl, x1, x2, x3⟩
              have m2 := af_r hn wok_snaps s1' ha2
              cases h2 : aftS T n "snaps" 1 99 (nx T n v0.2) with
              | inl e =>
                rw [h2] at m2
                obtain ⟨x1, x2, x3⟩ := MS_l (MV_l m2)
                rcases h with h | ⟨q, -⟩
                · refine exA10 h ?_
                  clear h
                  intro zn0 k1 k2 k3 k4 k5 k6 k7 k8 k9 k10
                  clear zn0
                  simp only [weakS, h0, e1', if_neg hd, h2, bnd]
                  exact ⟨by rw [k3, x1], by rw [k4, x2], by rw [k8, x3]⟩
                · rw [x1] at q; exact absurd q one0
              | inr v2 =>
                rw [h2] at m2
                refine exA1 (MV_r m2) ?_
                intro er2 s2'
                rcases h with ⟨q, -⟩ | h
                · exact absurd (MS_r s2').1 q
                · refine exA1 h ?_
                  clear h
                  intro zn0 h
                  refine exE1 h ?_
                  clear h
                  intro z128 hz128 h
                  refine exE1 h ?_
                  clear h
                  intro G hG h
                  refine exA9 h ?_
                  clear h
                  intro k1 k2 k3 k4 k5 k6 k7 k8 k9 k10
                  clear zn0
                  simp only [weakS, h0, e1', if_neg hd, h2, bnd]
                  subst k1 k2 k3 k4 k6 k7 k8 k9 k10
                  refine ⟨?_, s2'⟩
                  rw [k5, hG, hF4, hF3, hF1, er2, hz128, hz5, tc10, c11, cz84, cz94]
            · exact absurd rfl q
          · simp only [weakS, h0, e1', if_pos hd, bnd]
            rcases h with ⟨q, -⟩ | h
            · exact absurd q one0
            · refine exA10 h ?_
              clear h
              intro zn0 k1 k2 k3 k4 k5 k6 k7 k8 k9 k10
              clear zn0
              exact ⟨k3, k4, k8⟩
      · exact absurd (MS_r s0).1 q
  · exact absurd s1 q
theorem tm44 {k : Int32} : tmF k = 44 ↔ k = 4 := by
  unfold tmF
  constructor
  · intro h
    repeat' split at h
    all_goals first | assumption | (exact absurd h (by decide))
  · rintro rfl; decide
theorem tm59 {k : Int32} : tmF k = 59 ↔ k = 3 := by
  unfold tmF
  constructor
  · intro h
    repeat' split at h
    all_goals first | assumption | (exact absurd h (by decide))
  · rintro rfl; decide
theorem tm0 {k : Int32} : tmF k = 0 ↔ k = 0 := by
  unfold tmF
  constructor
  · intro h
    repeat' split at h
    all_goals first | assumption | (exact absurd h (by decide))
  · rintro rfl; decide
def showE (T : Nat → Int32) (n : Int32) (m : Nat) (F : Nat → Int32) (b : Int32) : Rs ((Nat → Int32) × Int32) := if m < 2 then (if tkF T n b = 3 then .inl (6, b) else if tkF T n b = 0 then .inl (6, b) else .inl (1, b)) else .inr (upd F 12 (nI m), b)
noncomputable def showG (T : Nat → Int32) (n : Int32) : Nat → Nat → (Nat → Int32) → Int32 → Rs ((Nat → Int32) × Int32)
  | 0, _, _, a => .inl (0, a)
  | f + 1, m, F, a => bnd (oldS F T n 0 7 a) (fun r => if m = 8 then .inl (5, a) else if tkF T n (nx T n a) = 4 then showG T n f (m + 1) (upd F (126 + m) r) (nx T n (nx T n a)) else showE T n (m + 1) (upd F (126 + m) r) (nx T n a))
noncomputable def showS (F T : Nat → Int32) (n a : Int32) : Rs ((Nat → Int32) × Int32) := showG T n 9 0 F a
theorem show_fin {T F L F2 L2 : Nat → Int32} {n b en ft ns pl tk wh at2 en2 fd2 ft2 ns2 pl2 tk2 wh2 u : Int32} {m : Nat} (hm : u.toInt = m) (hm9 : m ≤ 9) (hs : MS T n (.inr b) b en 0 ft L ns pl tk wh) (h : (fun (u_7 : Int32) (uf_3 : Nat → Int32) (u_14 : Int32) (u_15 : Int32) (u_12 : Int32) (u_21 : Int32) (uf_6 : Nat → Int32) (u_19 : Int32) (u_11 : Int32) (u_17 : Int32) (u_18 : Int32) => ((((2 : Int32) ≤ u_7) ∧ (∃ fa_34 : Nat → Int32, fa_34 = upd uf_3 ((12 : Int32)).toNatClampNeg u_7 ∧ at2 = u_14 ∧ en2 = u_15 ∧ fd2 = u_12 ∧ ft2 = u_21 ∧ F2 = fa_34 ∧ L2 = uf_6 ∧ ns2 = u_19 ∧ pl2 = u_11 ∧ tk2 = u_17 ∧ wh2 = u_18)) ∨ ((¬ ((2 : Int32) ≤ u_7)) ∧ ((((u_17 = (59 : Int32)) ∧ (∃ m_failed2_43 : Int32, ∃ m_fault2_44 : Int32, ∃ m_place2_45 : Int32, (R_m_badX 6 u_14 u_21 u_11 u_12 m_failed2_43 m_fault2_44 m_place2_45) ∧ at2 = u_14 ∧ en2 = u_15 ∧ fd2 = m_failed2_43 ∧ ft2 = m_fault2_44 ∧ F2 = uf_3 ∧ L2 = uf_6 ∧ ns2 = u_19 ∧ pl2 = m_place2_45 ∧ tk2 = u_17 ∧ wh2 = u_18)) ∨ ((¬ (u_17 = (59 : Int32))) ∧ ((((u_17 ≠ (0 : Int32)) ∧ (∃ m_failed2_51 : Int32, ∃ m_fault2_52 : Int32, ∃ m_place2_53 : Int32, (R_m_badX 1 u_14 u_21 u_11 u_12 m_failed2_51 m_fault2_52 m_place2_53) ∧ at2 = u_14 ∧ en2 = u_15 ∧ fd2 = m_failed2_51 ∧ ft2 = m_fault2_52 ∧ F2 = uf_3 ∧ L2 = uf_6 ∧ ns2 = u_19 ∧ pl2 = m_place2_53 ∧ tk2 = u_17 ∧ wh2 = u_18)) ∨ ((u_17 = (0 : Int32)) ∧ (∃ m_failed2_59 : Int32, ∃ m_fault2_60 : Int32, ∃ m_place2_61 : Int32, (R_m_badX 6 u_14 u_21 u_11 u_12 m_failed2_59 m_fault2_60 m_place2_61) ∧ at2 = u_14 ∧ en2 = u_15 ∧ fd2 = m_failed2_59 ∧ ft2 = m_fault2_60 ∧ F2 = uf_3 ∧ L2 = uf_6 ∧ ns2 = u_19 ∧ pl2 = m_place2_61 ∧ tk2 = u_17 ∧ wh2 = u_18)))))))))) u F b en 0 ft L ns pl tk wh) : MF T n F (showE T n m F b) at2 en2 fd2 ft2 F2 L2 ns2 pl2 tk2 wh2 := by
  refine exA4 (MS_r hs) ?_
  intro s1 s2 s3 s4 s5
  have n2' : (2 : Int32).toInt = 2 := by decide
  rcases h with h | ⟨h1, h⟩
  · refine exA1 h ?_
    clear h
    intro h1 h
    refine exE1 h ?_
    clear h
    intro G hG h
    refine exA9 h ?_
    clear h
    intro k1 k2 k3 k4 k5 k6 k7 k8 k9 k10
    rw [le_I, n2'] at h1
    unfold showE
    rw [if_neg (by omega)]
    subst k1 k2 k6 k7 k9 k10
    refine ⟨?_, k3, k4.trans s2, rfl, s4, s5⟩
    rw [k5, hG, tc12, show u = nI m from Int32.toInt_inj.mp (by rw [hm, nIt (by omega)])]
  · rw [le_I, n2'] at h1
    unfold showE
    rw [if_pos (by omega)]
    rcases h with ⟨h2, f1, u1, p1, hb, k1, k2, k3, k4, k5, k6, k7, k8, k9, k10⟩ | ⟨h2, ⟨h3, f1, u1, p1, hb, k1, k2, k3, k4, k5, k6, k7, k8, k9, k10⟩ | ⟨h3, f1, u1, p1, hb, k1, k2, k3, k4, k5, k6, k7, k8, k9, k10⟩⟩
    · obtain ⟨x1, x2, x3⟩ := qm_bad rfl hb
      rw [if_pos (tm59.mp (s5.2.1.symm.trans h2))]
      exact ⟨by rw [k3, x1], by rw [k4, x2], by rw [k8, x3]⟩
    · obtain ⟨x1, x2, x3⟩ := qm_bad rfl hb
      rw [if_neg (fun q => h2 (s5.2.1.trans (tm59.mpr q))), if_neg (fun q => h3 (s5.2.1.trans (tm0.mpr q)))]
      exact ⟨by rw [k3, x1], by rw [k4, x2], by rw [k8, x3]⟩
    · obtain ⟨x1, x2, x3⟩ := qm_bad rfl hb
      rw [if_neg (fun q => h2 (s5.2.1.trans (tm59.mpr q))), if_pos (tm0.mp (s5.2.1.symm.trans h3))]
      exact ⟨by rw [k3, x1], by rw [k4, x2], by rw [k8, x3]⟩
theorem show_L0 {T F2 L2 : Nat → Int32} {n at2 en2 fd2 ft2 ns2 pl2 tk2 wh2 : Int32} (hn : IV n 0 900) : ∀ (f g m : Nat) (F L : Nat → Int32) (u a pl en tk wh ns ft : Int32), u.toInt = m → m ≤ 8 → m + g = 9 → MS T n (.inr a) a en 0 ft L ns pl tk wh → R_m_showsLineX_L0 n T at2 en2 fd2 ft2 F2 L2 ns2 pl2 tk2 wh2 (fun (u_7 : Int32) (uf_3 : Nat → Int32) (u_14 : Int32) (u_15 : Int32) (u_12 : Int32) (u_21 : Int32) (uf_6 : Nat → Int32) (u_19 : Int32) (u_11 : Int32) (u_17 : Int32) (u_18 : Int32) => ((((2 : Int32) ≤ u_7) ∧ (∃ fa_34 : Nat → Int32, fa_34 = upd uf_3 ((12 : Int32)).toNatClampNeg u_7 ∧ at2 = u_14 ∧ en2 = u_15 ∧ fd2 = u_12 ∧ ft2 = u_21 ∧ F2 = fa_34 ∧ L2 = uf_6 ∧ ns2 = u_19 ∧ pl2 = u_11 ∧ tk2 = u_17 ∧ wh2 = u_18)) ∨ ((¬ ((2 : Int32) ≤ u_7)) ∧ ((((u_17 = (59 : Int32)) ∧ (∃ m_failed2_43 : Int32, ∃ m_fault2_44 : Int32, ∃ m_place2_45 : Int32, (R_m_badX 6 u_14 u_21 u_11 u_12 m_failed2_43 m_fault2_44 m_place2_45) ∧ at2 = u_14 ∧ en2 = u_15 ∧ fd2 = m_failed2_43 ∧ ft2 = m_fault2_44 ∧ F2 = uf_3 ∧ L2 = uf_6 ∧ ns2 = u_19 ∧ pl2 = m_place2_45 ∧ tk2 = u_17 ∧ wh2 = u_18)) ∨ ((¬ (u_17 = (59 : Int32))) ∧ ((((u_17 ≠ (0 : Int32)) ∧ (∃ m_failed2_51 : Int32, ∃ m_fault2_52 : Int32, ∃ m_place2_53 : Int32, (R_m_badX 1 u_14 u_21 u_11 u_12 m_failed2_51 m_fault2_52 m_place2_53) ∧ at2 = u_14 ∧ en2 = u_15 ∧ fd2 = m_failed2_51 ∧ ft2 = m_fault2_52 ∧ F2 = uf_3 ∧ L2 = uf_6 ∧ ns2 = u_19 ∧ pl2 = m_place2_53 ∧ tk2 = u_17 ∧ wh2 = u_18)) ∨ ((u_17 = (0 : Int32)) ∧ (∃ m_failed2_59 : Int32, ∃ m_fault2_60 : Int32, ∃ m_place2_61 : Int32, (R_m_badX 6 u_14 u_21 u_11 u_12 m_failed2_59 m_fault2_60 m_place2_61) ∧ at2 = u_14 ∧ en2 = u_15 ∧ fd2 = m_failed2_59 ∧ ft2 = m_fault2_60 ∧ F2 = uf_3 ∧ L2 = uf_6 ∧ ns2 = u_19 ∧ pl2 = m_place2_61 ∧ tk2 = u_17 ∧ wh2 = u_18)))))))))) f F L u 1 pl 0 a en tk wh ns ft → MF T n F (showG T n g m F a) at2 en2 fd2 ft2 F2 L2 ns2 pl2 tk2 wh2 := by
  intro f
  induction f with
  | zero => intro g m F L u a pl en tk wh ns ft _ _ _ _ h; exact h.elim
  | succ f ih =>
    intro g m F L u a pl en tk wh ns ft hu hm9 hg hs h
    obtain ⟨g, rfl⟩ : ∃ k, g = k + 1 := ⟨g - 1, by omega⟩
    refine exA4 (MS_r hs) ?_
    intro s1 s2 s3 s4 s5
    simp only [R_m_showsLineX_L0] at h
    have n8' : (8 : Int32).toInt = 8 := by decide
    rcases h with ⟨q, -⟩ | ⟨-, f1, u1, p1, r1, hnm, h⟩
    · exact absurd q one0
    · rcases qm_namedR hn s4 rfl s5 hnm with ⟨c, e1, e2, e3, e4⟩ | ⟨e1, e2, e3, e4⟩
      · rcases h with h | ⟨q, -⟩
        · refine exA10 h ?_
          clear h
          intro zn0 k1 k2 k3 k4 k5 k6 k7 k8 k9 k10
          clear zn0
          simp only [showG, e1, bnd]
          exact ⟨by rw [k3, e2], by rw [k4, e3], by rw [k8, e4]⟩
        · rw [e2] at q; exact absurd q one0
      · rcases h with ⟨q, -⟩ | ⟨-, h⟩
        · exact absurd e2 q
        · rcases h with ⟨h1, h⟩ | h
          · have hm8 : m ≠ 8 := fun q => h1 (Int32.toInt_inj.mp (by rw [hu, q, n8']; rfl))
            refine exE6 h ?_
            clear h
            intro a2 e5 L3 n2 t2 w2 hx h
            refine exE1 h ?_
            clear h
            intro z94 hz94 h
            refine exE1 h ?_
            clear h
            intro F3 hF3 h
            refine exE1 h ?_
            clear h
            intro z103 hz103 h
            refine exE7 h ?_
            clear h
            intro a3 e6 L4 n3 t3 w3 r3 hc h
            obtain ⟨x1, x2, x3⟩ := qm_next_at hn s4 s5 hx
            have g94 : z94.toInt = 126 + u.toInt := in_add hz94 (show IV 126 126 126 from (by decide)) (show IV u 0 9 from ⟨by omega, by omega⟩) (by decide) (by decide)
            have i94 : z94.toNatClampNeg = 126 + m := by have := tn_i (z := z94) (by omega); omega
            rw [ofI1] at hz103
            have g103 := inc1 (u := u) (z := z103) (a := 0) (b := 900) ⟨by omega, by omega⟩ (by omega) (by omega) hz103.symm
            rw [i94] at hF3
            subst hF3
            rw [e2, e3] at h
            rw [e2] at hc
            simp only [R_m_commaX] at hc
            rcases hc with ⟨q, -⟩ | ⟨-, ⟨q1, a4, e7, L5, n4, t4, w4, hx2, k1, k2, k3, k4, k5, k6, k7⟩ | ⟨q1, k1, k2, k3, k4, k5, k6, k7⟩⟩
            · exact absurd rfl q
            · have t4' : tkF T n (nx T n a) = 4 := tm44.mp (x3.2.1.symm.trans q1)
              obtain ⟨y1, y2, y3⟩ := qm_next_at hn x2 x3 hx2
              simp only [showG, e1, if_neg hm8, if_pos t4', bnd]
              subst k1 k2 k3 k4 k5 k6
              rw [k7] at h
              rw [y1] at h
              refine ih g (m + 1) _ _ z103 (nx T n (nx T n a)) p1 _ _ _ _ ft (by omega) (by omega) (by omega) ⟨rfl, s2, rfl, y2, y3⟩ h
            · have t4' : tkF T n (nx T n a) ≠ 4 := fun q => q1 (x3.2.1.trans (tm44.mpr q))
              simp only [showG, e1, if_neg hm8, if_neg t4', bnd]
              subst k1 k2 k3 k4 k5 k6
              rw [k7] at h
              cases f with
              | zero => exact h.elim
              | succ f =>
                simp only [R_m_showsLineX_L0] at h
                rcases h with ⟨-, h⟩ | ⟨q, -⟩
                · rw [x1] at h
                  exact show_fin (m := m + 1) (by omega) (by omega) ⟨rfl, s2, rfl, x2, x3⟩ h
                · exact absurd trivial q
          · refine exA1 h ?_
            clear h
            intro h1 h
            refine exE3 h ?_
            clear h
            intro f2 u2 p2 hb h
            refine exA9 h ?_
            clear h
            intro k1 k2 k3 k4 k5 k6 k7 k8 k9 k10
            have hm8 : m = 8 := by rw [h1, n8'] at hu; omega
            obtain ⟨x1, x2, x3⟩ := qm_bad e2 hb
            simp only [showG, e1, if_pos hm8, bnd]
            exact ⟨by rw [k3, x1], by rw [k4, x2], by rw [k8, x3]⟩

theorem qm_is1 {L : Nat → Int32} {tk ns fd r : Int32} {w : String} (h0 : fd = 1) (h : R_m_isWordX tk ns fd L w r) : r = 0 := by
  simp only [R_m_isWordX] at h
  rcases h with ⟨-, h⟩ | ⟨q, -⟩
  · exact h
  · rw [h0] at q; exact absurd q one0
noncomputable def manE (F0 T : Nat → Int32) (n : Int32) (s : Nat) (kind town c a : Int32) : Rs ((Nat → Int32) × Int32) := bnd (aftS T n "slip" 0 40 a) (fun v => .inr (upd (upd (upd (upd F0 (114 + 3 * s) kind) (114 + 3 * s + 1) town) (114 + 3 * s + 2) v.1) 11 c, v.2))
noncomputable def manS (F T : Nat → Int32) (n a : Int32) : Rs ((Nat → Int32) × Int32) := bnd (newS F T n (12 + (F 11).toInt.toNat) a) (fun v0 => @ite _ (IsW T n v0.2 "clean") (Classical.propDecidable _) (manE v0.1 T n (F 11).toInt.toNat 0 0 (F 11 + 1) (nx T n v0.2)) (@ite _ (IsW T n v0.2 "early") (Classical.propDecidable _) (manE v0.1 T n (F 11).toInt.toNat 1 0 (F 11 + 1) (nx T n v0.2)) (@ite _ (IsW T n v0.2 "late") (Classical.propDecidable _) (manE v0.1 T n (F 11).toInt.toNat 2 0 (F 11 + 1) (nx T n v0.2)) (@ite _ (IsW T n v0.2 "misled") (Classical.propDecidable _) (bnd (oldS v0.1 T n 8 11 (nx T n v0.2)) (fun tw => manE v0.1 T n (F 11).toInt.toNat 3 tw (F 11 + 1) (nx T n (nx T n v0.2)))) (.inl (1, v0.2))))))
theorem man_tail {F F0 T L3 F2 L2 : Nat → Int32} {n b kind town z5 z11 r3 a3 e3 f3 u3 n3 p3 t3 w3 at2 en2 fd2 ft2 ns2 pl2 tk2 wh2 : Int32} {s : Nat} (hs : s ≤ 3) (h5 : z11.toInt = 114 + 3 * s) (m3 : MV T n (aftS T n "slip" 0 40 b) r3 a3 e3 f3 u3 L3 n3 p3 t3 w3) (h : (((f3 = (0 : Int32)) ∧ (∃ fa : Nat → Int32, fa = upd F0 (z11).toNatClampNeg kind ∧ ∃ z1 : Int32, z1 = z11 + (1 : Int32) ∧ ∃ fb : Nat → Int32, fb = upd fa (z1).toNatClampNeg town ∧ ∃ z2 : Int32, z2 = z11 + (2 : Int32) ∧ ∃ fc : Nat → Int32, fc = upd fb (z2).toNatClampNeg r3 ∧ ∃ z3 : Int32, z3 = z5 + (1 : Int32) ∧ ∃ fe : Nat → Int32, fe = upd fc ((11 : Int32)).toNatClampNeg z3 ∧ at2 = a3 ∧ en2 = e3 ∧ fd2 = f3 ∧ ft2 = u3 ∧ F2 = fe ∧ L2 = L3 ∧ ns2 = n3 ∧ pl2 = p3 ∧ tk2 = t3 ∧ wh2 = w3)) ∨ ((¬ (f3 = (0 : Int32))) ∧ (at2 = a3 ∧ en2 = e3 ∧ fd2 = f3 ∧ ft2 = u3 ∧ F2 = F0 ∧ L2 = L3 ∧ ns2 = n3 ∧ pl2 = p3 ∧ tk2 = t3 ∧ wh2 = w3)))) : MF T n F (manE F0 T n s kind town (z5 + 1) b) at2 en2 fd2 ft2 F2 L2 ns2 pl2 tk2 wh2 := by
  unfold manE
  cases h2 : aftS T n "slip" 0 40 b with
  | inl e =>
    rw [h2] at m3
    obtain ⟨x1, x2, x3⟩ := MS_l (MV_l m3)
    rcases h with ⟨q, -⟩ | ⟨-, k1, k2, k3, k4, k5, k6, k7, k8, k9, k10⟩
    · rw [x1] at q; exact absurd q one0
    · rw [bnd_l]; exact ⟨by rw [k3, x1], by rw [k4, x2], by rw [k8, x3]⟩
  | inr v =>
    rw [h2] at m3
    refine exA1 (MV_r m3) ?_
    intro er sv
    rcases h with ⟨-, fa, hfa, z1, hz1, fb, hfb, z2, hz2, fc, hfc, z3, hz3, fe, hfe, k1, k2, k3, k4, k5, k6, k7, k8, k9, k10⟩ | ⟨q, -⟩
    · have g1 : z1.toInt = z11.toInt + 1 := in_add hz1 (show IV z11 114 123 from ⟨by omega, by omega⟩) (show IV 1 1 1 from (by decide)) (by decide) (by decide)
      have g2 : z2.toInt = z11.toInt + 2 := in_add hz2 (show IV z11 114 123 from ⟨by omega, by omega⟩) (show IV 2 2 2 from (by decide)) (by decide) (by decide)
      have i0 : z11.toNatClampNeg = 114 + 3 * s := by have := tn_i (z := z11) (by omega); omega
      have i1 : z1.toNatClampNeg = 114 + 3 * s + 1 := by have := tn_i (z := z1) (by omega); omega
      have i2 : z2.toNatClampNeg = 114 + 3 * s + 2 := by have := tn_i (z := z2) (by omega); omega
      rw [bnd_r]
      subst k1 k2 k3 k4 k6 k7 k8 k9 k10
      refine ⟨?_, sv⟩
      rw [k5, hfe, hfc, hfb, hfa, er, hz3, tc11, i0, i1, i2]
    · exact absurd (MS_r sv).1 q
theorem qm_manLine {F T L F2 L2 : Nat → Int32} {n a en fd ft ns pl tk wh at2 en2 fd2 ft2 ns2 pl2 tk2 wh2 : Int32} (hn : IV n 0 900) (h9 : IV (F 11) 0 3) (hm : MS T n (.inr a) a en fd ft L ns pl tk wh) (h : R_m_manLineX n a en tk wh ns ft pl fd T L F at2 en2 fd2 ft2 F2 L2 ns2 pl2 tk2 wh2) : MF T n F (manS F T n a) at2 en2 fd2 ft2 F2 L2 ns2 pl2 tk2 wh2 := by
  obtain ⟨s1, s2, s3, s4, s5⟩ := hm
  unfold R_m_manLineX at h
  rcases h with ⟨-, h⟩ | ⟨q, -⟩
  · skip
    refine exE1 h ?_
    clear h
    intro z5 hz5 h
    refine exE1 h ?_
    clear h
    intro z8 hz8 h
    refine exE1 h ?_
    clear h
    intro z11 hz11 h
    refine exE1 h ?_
    clear h
    intro z14 hz14 h
    refine exE10 h ?_
    clear h
    intro a0 e0 f0 u0 F0 L0 n0 p0 t0 w0 hw0 h
    rw [tc11] at hz5
    have g5 : z5.toInt = (F 11).toInt := by rw [hz5]
    have g8 : z8.toInt = 3 * z5.toInt := in_mul hz8 (by decide) (by decide) (show IV z5 0 3 from ⟨by omega, by omega⟩) (by decide) (by decide)
    have g11 : z11.toInt = 114 + z8.toInt := in_add hz11 (show IV 114 114 114 from (by decide)) (show IV z8 0 9 from ⟨by omega, by omega⟩) (by decide) (by decide)
    have g14 : z14.toInt = 12 + z5.toInt := in_add hz14 (show IV 12 12 12 from (by decide)) (show IV z5 0 3 from ⟨by omega, by omega⟩) (by decide) (by decide)
    have m0 := qm_newName (s := 12 + (F 11).toInt.toNat) hn (by omega) (by omega) ⟨s1, s2, rfl, s4, s5⟩ hw0
    cases h0 : newS F T n (12 + (F 11).toInt.toNat) a with
    | inl e =>
      rw [h0] at m0
      have m0 : MS T n (.inl e) a0 e0 f0 u0 L0 n0 p0 t0 w0 := m0
      refine exA2 (MS_l m0) ?_
      intro y1 y2 y3
      obtain ⟨r1, hr1, h⟩ := h
      rcases h with ⟨-, r2, hr2, h⟩ | ⟨q, -⟩
      · rcases h with ⟨-, r3, hr3, h⟩ | ⟨q, -⟩
        · rcases h with ⟨-, r4, hr4, h⟩ | ⟨q, -⟩
          · rcases h with ⟨-, f1, u1, p1, hb, k1, k2, k3, k4, k5, k6, k7, k8, k9, k10⟩ | ⟨q, -⟩
            · obtain ⟨x1, x2, x3⟩ := qm_bad1 y1 hb
              simp only [manS, h0, bnd]
              exact ⟨by rw [k3, x1], by rw [k4, x2, y2], by rw [k8, x3, y3]⟩
            · exact absurd (qm_is1 y1 hr4) q
          · exact absurd (qm_is1 y1 hr3) q
        · exact absurd (qm_is1 y1 hr2) q
      · exact absurd (qm_is1 y1 hr1) q
    | inr v0 =>
      rw [h0] at m0
      obtain ⟨eF0, s0⟩ := m0
      refine exA4 (MS_r s0) ?_
      intro y1 y2 y3 y4 y5
      subst y3 eF0
      obtain ⟨r1, hr1, h⟩ := h
      rw [y1] at hr1
      simp only [manS, h0, bnd]
      have tl : ∀ (kind : Int32) (a4 e4 : Int32) (L4 : Nat → Int32) (n4 t4 w4 : Int32), R_m_nextX n e0 T L0 a4 e4 L4 n4 t4 w4 → ∀ (a3 e3 f3 u3 : Int32) (L3 : Nat → Int32) (n3 p3 t3 w3 r3 : Int32), R_m_afterX 0 40 n a4 e4 t4 w4 n4 u0 p0 f0 T L4 "slip" a3 e3 f3 u3 L3 n3 p3 t3 w3 r3 → (((f3 = (0 : Int32)) ∧ (∃ fa : Nat → Int32, fa = upd v0.1 (z11).toNatClampNeg kind ∧ ∃ z1 : Int32, z1 = z11 + (1 : Int32) ∧ ∃ fb : Nat → Int32, fb = upd fa (z1).toNatClampNeg 0 ∧ ∃ z2 : Int32, z2 = z11 + (2 : Int32) ∧ ∃ fc : Nat → Int32, fc = upd fb (z2).toNatClampNeg r3 ∧ ∃ z3 : Int32, z3 = z5 + (1 : Int32) ∧ ∃ fe : Nat → Int32, fe = upd fc ((11 : Int32)).toNatClampNeg z3 ∧ at2 = a3 ∧ en2 = e3 ∧ fd2 = f3 ∧ ft2 = u3 ∧ F2 = fe ∧ L2 = L3 ∧ ns2 = n3 ∧ pl2 = p3 ∧ tk2 = t3 ∧ wh2 = w3)) ∨ ((¬ (f3 = (0 : Int32))) ∧ (at2 = a3 ∧ en2 = e3 ∧ fd2 = f3 ∧ ft2 = u3 ∧ F2 = v0.1 ∧ L2 = L3 ∧ ns2 = n3 ∧ pl2 = p3 ∧ tk2 = t3 ∧ wh2 = w3))) → MF T n F (manE v0.1 T n (F 11).toInt.toNat kind 0 (F 11 + 1) (nx T n v0.2)) at2 en2 fd2 ft2 F2 L2 ns2 pl2 tk2 wh2 := by
        intro kind a4 e4 L4 n4 t4 w4 hx4 a3 e3 f3 u3 L3 n3 p3 t3 w3 r3 ha h
        obtain ⟨x1, x2, x3⟩ := qm_next_at hn y4 y5 hx4
        have m3 := af_r hn wok_slip (b := nx T n v0.2) ⟨y1, y2, x1, x2, x3⟩ ha
        rw [← hz5]
        exact man_tail (by rw [hz5]; omega) (by rw [hz5]; omega) m3 h
      rcases m_is_spec wok_clean y5 hr1 with ⟨q1, c1⟩ | ⟨q1, c1⟩
      · rw [if_pos c1]
        rcases h with ⟨q, -⟩ | ⟨-, a4, e4, L4, n4, t4, w4, hx4, h⟩
        · rw [q1] at q; exact absurd q one0
        refine exE10 h ?_
        clear h
        intro a3 e3 f3 u3 L3 n3 p3 t3 w3 r3 ha3 h
        exact tl 0 a4 e4 L4 n4 t4 w4 hx4 a3 e3 f3 u3 L3 n3 p3 t3 w3 r3 ha3 h
      rw [if_neg c1]
      rcases h with ⟨-, r2, hr2, h⟩ | ⟨q, -⟩
      case inr => exact absurd q1 q
      rw [y1] at hr2
      rcases m_is_spec wok_early y5 hr2 with ⟨q2, c2⟩ | ⟨q2, c2⟩
      · rw [if_pos c2]
        rcases h with ⟨q, -⟩ | ⟨-, a4, e4, L4, n4, t4, w4, hx4, h⟩
        · rw [q2] at q; exact absurd q one0
        refine exE10 h ?_
        clear h
        intro a3 e3 f3 u3 L3 n3 p3 t3 w3 r3 ha3 h
        exact tl 1 a4 e4 L4 n4 t4 w4 hx4 a3 e3 f3 u3 L3 n3 p3 t3 w3 r3 ha3 h
      rw [if_neg c2]
      rcases h with ⟨-, r4, hr4, h⟩ | ⟨q, -⟩
      case inr => exact absurd q2 q
      rw [y1] at hr4
      rcases m_is_spec wok_late y5 hr4 with ⟨q3, c3⟩ | ⟨q3, c3⟩
      · rw [if_pos c3]
        rcases h with ⟨q, -⟩ | ⟨-, a4, e4, L4, n4, t4, w4, hx4, h⟩
        · rw [q3] at q; exact absurd q one0
        refine exE10 h ?_
        clear h
        intro a3 e3 f3 u3 L3 n3 p3 t3 w3 r3 ha3 h
        exact tl 2 a4 e4 L4 n4 t4 w4 hx4 a3 e3 f3 u3 L3 n3 p3 t3 w3 r3 ha3 h
      rw [if_neg c3]
      rcases h with ⟨-, r5, hr5, h⟩ | ⟨q, -⟩
      case inr => exact absurd q3 q
      rw [y1] at hr5
      rcases m_is_spec wok_misled y5 hr5 with ⟨q4, c4⟩ | ⟨q4, c4⟩
      · rw [if_pos c4]
        rcases h with ⟨q, -⟩ | ⟨-, a4, e4, L4, n4, t4, w4, hx4, h⟩
        · rw [q4] at q; exact absurd q one0
        obtain ⟨x1, x2, x3⟩ := qm_next_at hn y4 y5 hx4
        subst x1
        refine exE4 h ?_
        clear h
        intro f5 u5 p5 r6 hn5 h
        rcases qm_namedT hn x2 y1 x3 hn5 with ⟨c, e1', e2', e3', e4'⟩ | ⟨e1', e2', e3', e4'⟩
        · rcases h with ⟨-, h⟩ | ⟨q, -⟩
          case inr => rw [e2'] at q; exact absurd q one0
          refine exE10 h ?_
          clear h
          intro a3 e3 f3 u3 L3 n3 p3 t3 w3 r3 ha3 h
          have m3 := af_l hn wok_slip (e := (c, nx T n v0.2)) ⟨e2', e3', e4'⟩ ha3
          refine exA2 (MS_l m3) ?_
          intro x4 x5 x6
          simp only [e1']
          rcases h with ⟨q, -⟩ | ⟨-, k1, k2, k3, k4, k5, k6, k7, k8, k9, k10⟩
          · rw [x4] at q; exact absurd q one0
          · exact ⟨by rw [k3, x4], by rw [k4, x5], by rw [k8, x6]⟩
        · rcases h with ⟨q, -⟩ | ⟨-, a6, e6, L6, n6, t6, w6, hx6, h⟩
          · exact absurd e2' q
          refine exE10 h ?_
          clear h
          intro a3 e3 f3 u3 L3 n3 p3 t3 w3 r3 ha3 h
          obtain ⟨x4, x5, x6⟩ := qm_next_at hn x2 x3 hx6
          have m3 := af_r hn wok_slip (b := nx T n (nx T n v0.2)) ⟨e2', e3'.trans y2, x4, x5, x6⟩ ha3
          simp only [e1']
          rw [← hz5]
          exact man_tail (by rw [hz5]; omega) (by rw [hz5]; omega) m3 h
      rw [if_neg c4]
      rcases h with ⟨-, f1, u1, p1, hb, k1, k2, k3, k4, k5, k6, k7, k8, k9, k10⟩ | ⟨q, -⟩
      · obtain ⟨x1, x2, x3⟩ := qm_bad y1 hb
        exact ⟨by rw [k3, x1], by rw [k4, x2], by rw [k8, x3]⟩
      · exact absurd q4 q
  · exact absurd s1 q
theorem qm_showsLine {F T L F2 L2 : Nat → Int32} {n a en fd ft ns pl tk wh at2 en2 fd2 ft2 ns2 pl2 tk2 wh2 : Int32} (hn : IV n 0 900) (hm : MS T n (.inr a) a en fd ft L ns pl tk wh) (h : R_m_showsLineX n a en tk wh ns ft pl fd T L F at2 en2 fd2 ft2 F2 L2 ns2 pl2 tk2 wh2) : MF T n F (showS F T n a) at2 en2 fd2 ft2 F2 L2 ns2 pl2 tk2 wh2 := by
  obtain ⟨s1, s2, s3, s4, s5⟩ := hm
  unfold R_m_showsLineX at h
  rcases h with ⟨-, m, h⟩ | ⟨q, -⟩
  · unfold showS
    rw [s1] at h
    exact show_L0 hn m 9 0 F L 0 a pl en tk wh ns ft (by decide) (by omega) (by omega) ⟨rfl, s2, rfl, s4, s5⟩ h
  · exact absurd s1 q
