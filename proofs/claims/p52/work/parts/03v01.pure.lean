set_option maxRecDepth 100000
set_option maxHeartbeats 4000000
abbrev Rs (α : Type) : Type := Sum (Int32 × Int32) α
def bnd {α β : Type} (s : Rs α) (f : α → Rs β) : Rs β := match s with
  | .inl e => .inl e
  | .inr a => f a
def nx (T : Nat → Int32) (n a : Int32) : Int32 := rn T n 5 (edF T n a)
theorem ed_iv {T : Nat → Int32} {n a : Int32} (hn : IV n 0 900) (ha : IV a 0 900) : a.toInt ≤ (edF T n a).toInt ∧ (edF T n a).toInt ≤ 900 := by
  unfold edF
  have b1 := rn_ge (T := T) (k := 1) hn (by decide) ha
  have b2 := rn_ge (T := T) (k := 2) hn (by decide) ha
  split
  · exact b1
  · split
    · exact b2
    · split
      · omega
      · rename_i q
        have := (look_in q).1
        have e := inc1 (u := a) (z := a + 1) (a := 0) (b := 900) ha (by omega) (by omega) rfl
        omega
theorem ed_iv' {T : Nat → Int32} {n a : Int32} (hn : IV n 0 900) (ha : IV a 0 900) : IV (edF T n a) 0 900 := by
  have := ed_iv (T := T) hn ha
  exact ⟨by omega, this.2⟩
theorem nx_iv {T : Nat → Int32} {n a : Int32} (hn : IV n 0 900) (ha : IV a 0 900) : IV (nx T n a) 0 900 := by
  have h1 := ed_iv' (T := T) hn ha
  have := rn_ge (T := T) (k := 5) hn (by decide) h1
  exact ⟨by have := h1.1; unfold nx; omega, this.2⟩
/-- the reference's state: failed, or at the token that begins at a -/
def MS (T : Nat → Int32) (n : Int32) (ρ : Rs Int32) (at_ en fd ft : Int32) (L : Nat → Int32) (ns pl tk wh : Int32) : Prop := match ρ with
  | .inl e => fd = 1 ∧ ft = e.1 ∧ pl = e.2
  | .inr a => fd = 0 ∧ ft = 0 ∧ at_ = a ∧ IV a 0 900 ∧ TokM T n a en tk wh ns L
def MV (T : Nat → Int32) (n : Int32) (σ : Rs (Int32 × Int32)) (r at_ en fd ft : Int32) (L : Nat → Int32) (ns pl tk wh : Int32) : Prop := match σ with
  | .inl e => MS T n (.inl e) at_ en fd ft L ns pl tk wh
  | .inr v => r = v.1 ∧ MS T n (.inr v.2) at_ en fd ft L ns pl tk wh
theorem qm_next_at {T L L2 : Nat → Int32} {n a en tk wh ns at2 en2 ns2 tk2 wh2 : Int32} (hn : IV n 0 900) (ha : IV a 0 900) (hk : TokM T n a en tk wh ns L) (h : R_m_nextX n en T L at2 en2 L2 ns2 tk2 wh2) : at2 = nx T n a ∧ IV (nx T n a) 0 900 ∧ TokM T n (nx T n a) en2 tk2 wh2 ns2 L2 := by
  have e := hk.1
  subst e
  obtain ⟨h1, h2⟩ := m_next_spec hn (ed_iv' hn ha) h
  exact ⟨h1, nx_iv hn ha, h2⟩
noncomputable def labS (T : Nat → Int32) (n : Int32) (w : String) (a : Int32) : Rs Int32 := @ite _ (IsW T n a w) (Classical.propDecidable _) (.inr (nx T n a)) (.inl (1, a))
theorem lab_p {T : Nat → Int32} {n a : Int32} {w : String} (h : IsW T n a w) : labS T n w a = .inr (nx T n a) := by unfold labS; rw [if_pos h]
theorem lab_n {T : Nat → Int32} {n a : Int32} {w : String} (h : ¬ IsW T n a w) : labS T n w a = .inl (1, a) := by unfold labS; rw [if_neg h]
def valF (T : Nat → Int32) (n a : Int32) : Int32 := vlF T a.toNatClampNeg (lnF T n a)
def numH (T : Nat → Int32) (n lo hi a : Int32) : Rs Int32 := if tkF T n a = 2 then (if valF T n a < lo then .inl (4, a) else if hi < valF T n a then .inl (4, a) else .inr (valF T n a)) else .inl (1, a)
def numS (T : Nat → Int32) (n lo hi a : Int32) : Rs (Int32 × Int32) := bnd (numH T n lo hi a) (fun v => .inr (v, nx T n a))
theorem qm_bad {p q ft pl fd fd2 ft2 pl2 : Int32} (h0 : fd = 0) (h : R_m_badX p q ft pl fd fd2 ft2 pl2) : fd2 = 1 ∧ ft2 = p ∧ pl2 = q := by
  simp only [R_m_badX] at h
  rcases h with ⟨-, h⟩ | ⟨h1, -⟩
  · exact h
  · exact absurd h0 h1
theorem qm_bad1 {p q ft pl fd fd2 ft2 pl2 : Int32} (h0 : fd = 1) (h : R_m_badX p q ft pl fd fd2 ft2 pl2) : fd2 = 1 ∧ ft2 = ft ∧ pl2 = pl := by
  simp only [R_m_badX] at h
  rcases h with ⟨h1, -⟩ | ⟨h1, h⟩
  · rw [h0] at h1; exact absurd h1 (by decide)
  · rw [h0] at h; exact h
theorem one0 : (1 : Int32) ≠ 0 := by decide
theorem qm_must {T L L2 : Nat → Int32} {n at_ en fd ft ns pl tk wh at2 en2 fd2 ft2 ns2 pl2 tk2 wh2 : Int32} {w : String} {ρ : Rs Int32} (hn : IV n 0 900) (hw : WOk w) (hs : MS T n ρ at_ en fd ft L ns pl tk wh) (h : R_m_mustX n at_ en tk wh ns ft pl fd T L w at2 en2 fd2 ft2 L2 ns2 pl2 tk2 wh2) : MS T n (bnd ρ (labS T n w)) at2 en2 fd2 ft2 L2 ns2 pl2 tk2 wh2 := by
  simp only [R_m_mustX] at h
  cases ρ with
  | inl e =>
    obtain ⟨s1, s2, s3⟩ := hs
    rcases h with h | ⟨h0, -⟩
    · refine exA9 h ?_
      clear h
      intro zn0 k1 k2 k3 k4 k5 k6 k7 k8 k9
      clear zn0
      exact ⟨by rw [k3, s1], by rw [k4, s2], by rw [k7, s3]⟩
    · rw [s1] at h0; exact absurd h0 one0
  | inr a =>
    obtain ⟨s1, s2, s3, s4, s5⟩ := hs
    rcases h with ⟨h0, -⟩ | h
    · exact absurd s1 h0
    · refine exA1 h ?_
      clear h
      intro zn0 h
      refine exE7 h ?_
      clear h
      intro a1 e1 L1 n1 t1 w1 r1 ht h
      clear zn0
      simp only [R_m_takesWordX] at ht
      obtain ⟨r0, hi, ht⟩ := ht
      rw [s1] at hi
      show MS T n (labS T n w a) at2 en2 fd2 ft2 L2 ns2 pl2 tk2 wh2
      rcases m_is_spec hw s5 hi with ⟨q, hq⟩ | ⟨q, hq⟩
      · rcases ht with ht | ⟨h1, -⟩
        · refine exA1 ht ?_
          clear ht
          intro zn0 ht
          refine exE6 ht ?_
          clear ht
          intro a2 e2 M2 n2 t2 w2 hx ht
          refine exA6 ht ?_
          clear ht
          intro g1 g2 g3 g4 g5 g6 g7
          clear zn0
          rcases h with h | ⟨h2, -⟩
          · refine exA9 h ?_
            clear h
            intro zn0 k1 k2 k3 k4 k5 k6 k7 k8 k9
            clear zn0
            obtain ⟨x1, x2, x3⟩ := qm_next_at hn s4 s5 hx
            rw [lab_p hq]
            subst g1 g2 g3 g4 g5 g6 k1 k2 k5 k6 k8 k9
            exact ⟨by rw [k3, s1], by rw [k4, s2], x1, x2, x3⟩
          · rw [g7] at h2; exact absurd h2 one0
        · rw [q] at h1; exact absurd h1 one0
      · rcases ht with ⟨h1, -⟩ | ⟨-, g1, g2, g3, g4, g5, g6, g7⟩
        · exact absurd q h1
        · rcases h with ⟨h2, -⟩ | h
          · exact absurd g7 h2
          · refine exA1 h ?_
            clear h
            intro zn0 h
            refine exE3 h ?_
            clear h
            intro f1 u1 p1 hb h
            refine exA8 h ?_
            clear h
            intro k1 k2 k3 k4 k5 k6 k7 k8 k9
            clear zn0
            obtain ⟨b1, b2, b3⟩ := qm_bad s1 hb
            rw [lab_n hq]
            exact ⟨by rw [k3, b1], by rw [k4, b2], by rw [k7, b3, g1, s3]⟩
theorem qm_in {x a b r : Int32} (h : R_m_inX x a b r) : (r = 0 ∧ (x < a ∨ b < x)) ∨ (r = 1 ∧ ¬ x < a ∧ ¬ b < x) := by
  simp only [R_m_inX] at h
  rcases h with ⟨h1, h⟩ | ⟨h1, ⟨h2, h⟩ | ⟨h2, h⟩⟩
  · exact Or.inl ⟨h, Or.inl h1⟩
  · exact Or.inl ⟨h, Or.inr h2⟩
  · exact Or.inr ⟨h, h1, h2⟩
theorem tm3 {k : Int32} : tmF k = 3 ↔ k = 2 := by
  unfold tmF
  constructor
  · intro h
    repeat' split at h
    all_goals first | assumption | (exact absurd h (by decide))
  · rintro rfl; decide
theorem qm_numH {T L : Nat → Int32} {n a lo hi en tk wh ns ft pl fd fd2 ft2 pl2 r : Int32} (hk : TokM T n a en tk wh ns L) (h0 : fd = 0) (h : R_m_numberHereX lo hi a tk wh ft pl fd fd2 ft2 pl2 r) : (∃ f : Int32, numH T n lo hi a = .inl (f, a) ∧ fd2 = 1 ∧ ft2 = f ∧ pl2 = a) ∨ (numH T n lo hi a = .inr r ∧ fd2 = fd ∧ ft2 = ft ∧ pl2 = pl) := by
  obtain ⟨k1, k2, -, k4⟩ := hk
  simp only [R_m_numberHereX] at h
  rcases h with ⟨-, h⟩ | ⟨h1, -⟩
  · rcases h with ⟨h1, r1, hr, h⟩ | h
    · have t2 := tm3.mp (k2.symm.trans h1)
      have ev : wh = valF T n a := k4 t2
      rcases qm_in hr with ⟨q, hq⟩ | ⟨q, q1, q2⟩
      · rcases h with ⟨h2, -⟩ | h
        · exact absurd q h2
        · refine exA1 h ?_
          clear h
          intro zn0 h
          refine exE3 h ?_
          clear h
          intro f1 u1 p1 hb h
          refine exA3 h ?_
          clear h
          intro g1 g2 g3 g4
          clear zn0
          obtain ⟨b1, b2, b3⟩ := qm_bad h0 hb
          refine Or.inl ⟨4, ?_, by rw [g1, b1], by rw [g2, b2], by rw [g3, b3]⟩
          unfold numH
          rw [if_pos t2, ← ev]
          rcases hq with hq | hq
          · rw [if_pos hq]
          · by_cases ql : wh < lo
            · rw [if_pos ql]
            · rw [if_neg ql, if_pos hq]
      · rcases h with ⟨-, g1, g2, g3, g4⟩ | ⟨h2, -⟩
        · refine Or.inr ⟨?_, g1, g2, g3⟩
          unfold numH
          rw [if_pos t2, ← ev, if_neg q1, if_neg q2, g4]
        · rw [q] at h2; exact absurd h2 one0
    · refine exA1 h ?_
      clear h
      intro h1 h
      refine exE3 h ?_
      clear h
      intro f1 u1 p1 hb h
      refine exA3 h ?_
      clear h
      intro g1 g2 g3 g4
      obtain ⟨b1, b2, b3⟩ := qm_bad h0 hb
      refine Or.inl ⟨1, ?_, by rw [g1, b1], by rw [g2, b2], by rw [g3, b3]⟩
      unfold numH
      rw [if_neg (fun q => h1 (k2.trans (tm3.mpr q)))]
  · exact absurd h0 h1
theorem qm_number {T L L2 : Nat → Int32} {n lo hi at_ en fd ft ns pl tk wh at2 en2 fd2 ft2 ns2 pl2 tk2 wh2 r : Int32} {ρ : Rs Int32} (hn : IV n 0 900) (hs : MS T n ρ at_ en fd ft L ns pl tk wh) (h : R_m_numberX lo hi n at_ en tk wh ns ft pl fd T L at2 en2 fd2 ft2 L2 ns2 pl2 tk2 wh2 r) : MV T n (bnd ρ (numS T n lo hi)) r at2 en2 fd2 ft2 L2 ns2 pl2 tk2 wh2 := by
  simp only [R_m_numberX] at h
  obtain ⟨f1, u1, p1, r1, hh, h⟩ := h
  cases ρ with
  | inl e =>
    obtain ⟨s1, s2, s3⟩ := hs
    simp only [R_m_numberHereX] at hh
    rcases hh with ⟨h0, -⟩ | ⟨-, g1, g2, g3, g4⟩
    · rw [s1] at h0; exact absurd h0 one0
    · rcases h with h | ⟨h0, -⟩
      · refine exA10 h ?_
        clear h
        intro zn0 k1 k2 k3 k4 k5 k6 k7 k8 k9 k10
        clear zn0
        exact ⟨by rw [k3, g1, s1], by rw [k4, g2, s2], by rw [k7, g3, s3]⟩
      · rw [g1, s1] at h0; exact absurd h0 one0
  | inr a =>
    obtain ⟨s1, s2, s3, s4, s5⟩ := hs
    subst s3
    show MV T n (numS T n lo hi at_) r at2 en2 fd2 ft2 L2 ns2 pl2 tk2 wh2
    unfold numS
    rcases qm_numH s5 s1 hh with ⟨f, e1, e2, e3, e4⟩ | ⟨e1, e2, e3, e4⟩
    · rw [e1]
      rcases h with h | ⟨h0, -⟩
      · refine exA10 h ?_
        clear h
        intro zn0 k1 k2 k3 k4 k5 k6 k7 k8 k9 k10
        clear zn0
        exact ⟨by rw [k3, e2], by rw [k4, e3], by rw [k7, e4]⟩
      · rw [e2] at h0; exact absurd h0 one0
    · rw [e1]
      rcases h with ⟨h0, -⟩ | h
      · exact absurd (e2.trans s1) h0
      · refine exA1 h ?_
        clear h
        intro zn0 h
        refine exE6 h ?_
        clear h
        intro a2 n2 M2 m2 t2 w2 hx h
        refine exA9 h ?_
        clear h
        intro k1 k2 k3 k4 k5 k6 k7 k8 k9 k10
        clear zn0
        obtain ⟨x1, x2, x3⟩ := qm_next_at hn s4 s5 hx
        subst k1 k2 k5 k6 k8 k9
        exact ⟨k10, by rw [k3, e2, s1], by rw [k4, e3, s2], x1, x2, x3⟩
theorem qm_after {T L L2 : Nat → Int32} {n lo hi at_ en fd ft ns pl tk wh at2 en2 fd2 ft2 ns2 pl2 tk2 wh2 r : Int32} {w : String} {ρ : Rs Int32} (hn : IV n 0 900) (hw : WOk w) (hs : MS T n ρ at_ en fd ft L ns pl tk wh) (h : R_m_afterX lo hi n at_ en tk wh ns ft pl fd T L w at2 en2 fd2 ft2 L2 ns2 pl2 tk2 wh2 r) : MV T n (bnd (bnd ρ (labS T n w)) (numS T n lo hi)) r at2 en2 fd2 ft2 L2 ns2 pl2 tk2 wh2 := by
  simp only [R_m_afterX] at h
  refine exE9 h ?_
  clear h
  intro a1 e1 f1 u1 L1 n1 p1 t1 w1 hm h
  refine exE10 h ?_
  clear h
  intro a2 e2 f2 u2 M2 n2 p2 t2 w2 r2 hu h
  refine exA9 h ?_
  clear h
  intro k1 k2 k3 k4 k5 k6 k7 k8 k9 k10
  have h1 := qm_must hn hw hs hm
  have h2 := qm_number hn h1 hu
  subst k1 k2 k3 k4 k5 k6 k7 k8 k9 k10
  exact h2
